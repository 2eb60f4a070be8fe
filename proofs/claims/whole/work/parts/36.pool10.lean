def pmL : List Nat := [0, 3, 4, 5, 6, 7, 8, 9, 10, 11, 12, 13, 14, 15, 16, 17, 18, 19, 20, 21, 22, 23, 24, 25, 26, 27, 93, 94, 95, 96, 97, 98, 99, 100, 101, 102, 103, 104, 105, 106, 107, 108, 109, 110, 111, 112, 113, 114, 115, 116, 117, 118, 119, 120, 121, 122, 123, 124, 125, 126, 127, 128, 129, 130, 131, 132, 133, 134, 135, 136, 137, 138, 28, 29, 30, 31, 32, 33, 34, 35, 36, 37, 38, 39, 40, 41, 42, 43, 44, 45, 46, 47, 48, 49, 50, 51, 52, 53, 54, 55, 56, 57, 58, 59, 60, 2, 61, 62, 63, 64, 65, 66, 67, 68, 69, 70, 71, 72, 73, 74, 75, 76, 77, 78, 79, 80, 81, 82, 83, 84, 85, 86, 87, 88, 89, 90, 91, 92, 1, 139]
def pm (i : Nat) : Nat := pmL.getD i 0
theorem pm_inj : ∀ i, i < 140 → ∀ j, j < 140 → pm i = pm j → i = j := by decide +kernel
theorem pm_lt : ∀ i, i < 140 → pm i < 140 := by decide +kernel
theorem bk10_fst (cy : Nat → ClassId) (q : Nat → Nat) : (bk10 cy q).map Prod.fst = (List.range 140).map q := by
  simp only [bk10, bk6, bk9, bk8, bk5, bk1, bk0, bk7, bk2, bk4, bk3, List.map_append, List.map_cons, List.map_nil, List.nil_append, List.cons_append]
  rfl
theorem bk10_inj {A : Nat → Prop} {cy : Nat → ClassId} {q : Nat → Nat} (h : va_D A (bk10 cy q)) : ∀ i, i < 140 → ∀ j, j < 140 → q i = q j → i = j := by
  have h1 := (vaD_nd.mp h).1
  rw [bk10_fst, List.Nodup, List.pairwise_map, List.pairwise_iff_getElem] at h1
  intro i hi j hj e
  rcases Nat.lt_trichotomy i j with c | c | c
  · exact absurd (by rw [List.getElem_range, List.getElem_range]; exact e) (h1 i j (by simpa using hi) (by simpa using hj) c)
  · exact c
  · exact absurd (by rw [List.getElem_range, List.getElem_range]; exact e.symm) (h1 j i (by simpa using hj) (by simpa using hi) c)
theorem bk10_A {A : Nat → Prop} {cy : Nat → ClassId} {q : Nat → Nat} (h : va_D A (bk10 cy q)) : ∀ i, i < 140 → A (q i) := by
  intro i hi
  have h2 := (vaD_nd.mp h).2
  have h3 : q i ∈ (bk10 cy q).map Prod.fst := by rw [bk10_fst]; exact List.mem_map.mpr ⟨i, List.mem_range.mpr hi, rfl⟩
  obtain ⟨x, hx, e⟩ := List.mem_map.mp h3
  rw [← e]; exact h2 x hx
set_option maxRecDepth 20000 in
theorem pool10 {D : va_G} {cy : Nat → ClassId} {ad : Nat → Nat} {H : Heap} {q : Nat → Nat} (had : ∀ i, i < 140 → ad i = q (pm i)) (h : va_P D vwCl (bk10 cy q) H) : ∀ i, i < 140 → AtC D cy ad H i := by
  have hs : ∀ d n b : Nat, (∀ i, i < n → d + i < 140 ∧ pm (d + i) = b + i) → ∀ i, i < n → ad (d + i) = q (b + i) := fun d n b hb i hi => by rw [had _ (hb i hi).1, (hb i hi).2]
  obtain ⟨aO, h⟩ := vaP_hd h
  obtain ⟨aI, h⟩ := vaP_hd h
  obtain ⟨aP, h⟩ := vaP_hd h
  obtain ⟨h, aK⟩ := vaP_app2 h
  obtain ⟨h, a116⟩ := vaP_app2 h
  obtain ⟨h, a93⟩ := vaP_app2 h
  obtain ⟨h, a89⟩ := vaP_app2 h
  obtain ⟨h, a85⟩ := vaP_app2 h
  obtain ⟨h, a81⟩ := vaP_app2 h
  obtain ⟨h, a77⟩ := vaP_app2 h
  obtain ⟨h, a73⟩ := vaP_app2 h
  obtain ⟨h, a69⟩ := vaP_app2 h
  obtain ⟨h, a65⟩ := vaP_app2 h
  obtain ⟨h, a61⟩ := vaP_app2 h
  obtain ⟨h, a57⟩ := vaP_app2 h
  obtain ⟨h, a53⟩ := vaP_app2 h
  obtain ⟨h, a52⟩ := vaP_app2 h
  obtain ⟨h, a50⟩ := vaP_app2 h
  obtain ⟨h, a49⟩ := vaP_app2 h
  obtain ⟨h, a46⟩ := vaP_app2 h
  obtain ⟨h, a42⟩ := vaP_app2 h
  obtain ⟨h, a28⟩ := vaP_app2 h
  obtain ⟨h, a5⟩ := vaP_app2 h
  obtain ⟨-, a3⟩ := vaP_app2 h
  intro i hi
  rcases Nat.lt_or_ge i 1 with c1 | c1
  · obtain rfl : i = 0 := by omega
    exact atc_o (i := 0) rfl (by decide) (by rw [show q 3 = ad 1 from (had 1 (by decide)).symm, show q 5 = ad 3 from (had 3 (by decide)).symm, show q 28 = ad 72 from (had 72 (by decide)).symm, show q 42 = ad 86 from (had 86 (by decide)).symm, show q 46 = ad 90 from (had 90 (by decide)).symm, show q 49 = ad 93 from (had 93 (by decide)).symm, show q 50 = ad 94 from (had 94 (by decide)).symm, show q 52 = ad 96 from (had 96 (by decide)).symm, show q 53 = ad 97 from (had 97 (by decide)).symm, show q 57 = ad 101 from (had 101 (by decide)).symm, show q 2 = ad 105 from (had 105 (by decide)).symm, show q 1 = ad 138 from (had 138 (by decide)).symm, show q 139 = ad 139 from (had 139 (by decide)).symm]; rfl) (had 0 (by decide)) aO
  rcases Nat.lt_or_ge i 3 with c3 | c3
  · have := pb6 (d := 1) (by decide +kernel) (hs 1 2 3 (by decide +kernel)) a3 (i - 1) (by omega)
    rwa [show 1 + (i - 1) = i by omega] at this
  rcases Nat.lt_or_ge i 26 with c26 | c26
  · have := pb9 (d := 3) (by decide +kernel) (hs 3 23 5 (by decide +kernel)) a5 (i - 3) (by omega)
    rwa [show 3 + (i - 3) = i by omega] at this
  rcases Nat.lt_or_ge i 49 with c49 | c49
  · have := pb9 (d := 26) (by decide +kernel) (hs 26 23 93 (by decide +kernel)) a93 (i - 26) (by omega)
    rwa [show 26 + (i - 26) = i by omega] at this
  rcases Nat.lt_or_ge i 72 with c72 | c72
  · have := pb9 (d := 49) (by decide +kernel) (hs 49 23 116 (by decide +kernel)) a116 (i - 49) (by omega)
    rwa [show 49 + (i - 49) = i by omega] at this
  rcases Nat.lt_or_ge i 86 with c86 | c86
  · have := pb8 (d := 72) (by decide +kernel) (hs 72 14 28 (by decide +kernel)) a28 (i - 72) (by omega)
    rwa [show 72 + (i - 72) = i by omega] at this
  rcases Nat.lt_or_ge i 90 with c90 | c90
  · have := pb5 (d := 86) (by decide +kernel) (hs 86 4 42 (by decide +kernel)) a42 (i - 86) (by omega)
    rwa [show 86 + (i - 86) = i by omega] at this
  rcases Nat.lt_or_ge i 93 with c93 | c93
  · have := pb1 (d := 90) (by decide +kernel) (hs 90 3 46 (by decide +kernel)) a46 (i - 90) (by omega)
    rwa [show 90 + (i - 90) = i by omega] at this
  rcases Nat.lt_or_ge i 94 with c94 | c94
  · obtain rfl : i = 93 := by omega
    exact pb0 rfl (had 93 (by decide)) a49
  rcases Nat.lt_or_ge i 96 with c96 | c96
  · have := pb7 (d := 94) (by decide +kernel) (hs 94 2 50 (by decide +kernel)) a50 (i - 94) (by omega)
    rwa [show 94 + (i - 94) = i by omega] at this
  rcases Nat.lt_or_ge i 97 with c97 | c97
  · obtain rfl : i = 96 := by omega
    exact atc_a kd_24 rfl (had 96 (by decide)) (vaP_hd a52).1
  rcases Nat.lt_or_ge i 101 with c101 | c101
  · have := pb2 (d := 97) (by decide +kernel) (hs 97 4 53 (by decide +kernel)) a53 (i - 97) (by omega)
    rwa [show 97 + (i - 97) = i by omega] at this
  rcases Nat.lt_or_ge i 105 with c105 | c105
  · have := pb2 (d := 101) (by decide +kernel) (hs 101 4 57 (by decide +kernel)) a57 (i - 101) (by omega)
    rwa [show 101 + (i - 101) = i by omega] at this
  rcases Nat.lt_or_ge i 106 with c106 | c106
  · obtain rfl : i = 105 := by omega
    refine atc_q kd_25 rfl (had 105 (by decide)) (fun j hj => ?_) aP
    match j, hj with
    | 0, _ => exact congrArg some (had 106 (by decide)).symm
    | 1, _ => exact congrArg some (had 110 (by decide)).symm
    | 2, _ => exact congrArg some (had 114 (by decide)).symm
    | 3, _ => exact congrArg some (had 118 (by decide)).symm
    | 4, _ => exact congrArg some (had 122 (by decide)).symm
    | 5, _ => exact congrArg some (had 126 (by decide)).symm
    | 6, _ => exact congrArg some (had 130 (by decide)).symm
    | 7, _ => exact congrArg some (had 134 (by decide)).symm
  rcases Nat.lt_or_ge i 110 with c110 | c110
  · have := pb2 (d := 106) (by decide +kernel) (hs 106 4 61 (by decide +kernel)) a61 (i - 106) (by omega)
    rwa [show 106 + (i - 106) = i by omega] at this
  rcases Nat.lt_or_ge i 114 with c114 | c114
  · have := pb2 (d := 110) (by decide +kernel) (hs 110 4 65 (by decide +kernel)) a65 (i - 110) (by omega)
    rwa [show 110 + (i - 110) = i by omega] at this
  rcases Nat.lt_or_ge i 118 with c118 | c118
  · have := pb2 (d := 114) (by decide +kernel) (hs 114 4 69 (by decide +kernel)) a69 (i - 114) (by omega)
    rwa [show 114 + (i - 114) = i by omega] at this
  rcases Nat.lt_or_ge i 122 with c122 | c122
  · have := pb2 (d := 118) (by decide +kernel) (hs 118 4 73 (by decide +kernel)) a73 (i - 118) (by omega)
    rwa [show 118 + (i - 118) = i by omega] at this
  rcases Nat.lt_or_ge i 126 with c126 | c126
  · have := pb2 (d := 122) (by decide +kernel) (hs 122 4 77 (by decide +kernel)) a77 (i - 122) (by omega)
    rwa [show 122 + (i - 122) = i by omega] at this
  rcases Nat.lt_or_ge i 130 with c130 | c130
  · have := pb2 (d := 126) (by decide +kernel) (hs 126 4 81 (by decide +kernel)) a81 (i - 126) (by omega)
    rwa [show 126 + (i - 126) = i by omega] at this
  rcases Nat.lt_or_ge i 134 with c134 | c134
  · have := pb2 (d := 130) (by decide +kernel) (hs 130 4 85 (by decide +kernel)) a85 (i - 130) (by omega)
    rwa [show 130 + (i - 130) = i by omega] at this
  rcases Nat.lt_or_ge i 138 with c138 | c138
  · have := pb2 (d := 134) (by decide +kernel) (hs 134 4 89 (by decide +kernel)) a89 (i - 134) (by omega)
    rwa [show 134 + (i - 134) = i by omega] at this
  rcases Nat.lt_or_ge i 139 with c139 | c139
  · obtain rfl : i = 138 := by omega
    refine atc_q kd_26 rfl (had 138 (by decide)) (fun j hj => ?_) aI
    match j, hj with
    | 0, _ => exact congrArg some (had 26 (by decide)).symm
    | 1, _ => exact congrArg some (had 49 (by decide)).symm
  obtain rfl : i = 139 := by omega
  exact atc_a kd_27 rfl (had 139 (by decide)) (vaP_hd aK).1
