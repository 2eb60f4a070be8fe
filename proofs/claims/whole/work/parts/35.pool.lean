-- the state that stands behind the constructors (the reference's own fields as they are ahead of its body)
def S00 : St := (fun c k _ => if c = 4 ∧ (k = 2 ∨ k = 3 ∨ k = 4 ∨ k = 6) then 1 else if c = 8 ∧ k = 4 then 365 else if c = 8 ∧ k = 5 then 1 else if c = 0 then -1 else if c = 11 ∧ (k = 24 ∨ k = 25 ∨ k = 26 ∨ k = 27) then -1 else 0, fun _ _ _ => 0, fun _ _ _ => 0, fun _ _ _ => 0, fun _ j => 106 + 4 * j)
theorem vaP_app2 {D : va_G} {cl : List vw_C} {A B : va_W} {H : Heap} (h : va_P D cl (A ++ B) H) : va_P D cl A H ∧ va_P D cl B H :=
  ⟨vaP_mem.mpr fun q hq => vaP_mem.mp h q (List.mem_append_left _ hq), vaP_mem.mpr fun q hq => vaP_mem.mp h q (List.mem_append_right _ hq)⟩
theorem vaP_hd {D : va_G} {cl : List vw_C} {x : Nat × va_E} {B : va_W} {H : Heap} (h : va_P D cl (x :: B) H) : va_at D cl x H ∧ va_P D cl B H :=
  ⟨h 0 x rfl, fun k q hq => h (k + 1) q hq⟩
theorem vpq_congr {cA : ClassId} {n : Nat} {f g : Nat → Option Nat} (h : ∀ j, j < n → f j = g j) : vp_cell cA (n, .inr (.inr (.inr (.inr f)))) = vp_cell cA (n, .inr (.inr (.inr (.inr g)))) := by
  simp only [vp_cell, arrV]
  congr 1
  apply Array.ext
  · simp
  · intro i h1 h2
    simp at h1 h2 ⊢
    rw [h i h1]
section PB
variable {D : va_G} {cy : Nat → ClassId} {ad : Nat → Nat} {H : Heap} {d : Nat} {q : Nat → Nat}
def AtC (D : va_G) (cy : Nat → ClassId) (ad : Nat → Nat) (H : Heap) (i : Nat) : Prop := va_at D vwCl (ad i, cel ad cy S00 i) H
theorem atc_o {c a : Nat} {fs : List Value} {i : Nat} (hk : KT i = c) (hc : c < 12) (hf : fvs ad S00 c i = fs) (ha : ad i = a) (h : va_at D vwCl (a, .inr (c, fs)) H) : AtC D cy ad H i := by
  unfold AtC; subst ha; subst hf
  rw [show cel ad cy S00 i = .inr (c, fvs ad S00 c i) by simp [cel, hk, hc]]
  exact h
theorem atc_a {kd n a : Nat} {ty : FieldType} {i : Nat} (F : KD kd n ty 0) (hk : KT i = kd) (ha : ad i = a) (h : va_at D vwCl (a, .inl (cy kd, n, .inl (fun _ => 0))) H) : AtC D cy ad H i := by
  unfold AtC; subst ha
  rw [cel_arA F hk]
  exact h
theorem atc_q {kd n a : Nat} {C : String} {f : Nat → Option Nat} {i : Nat} (F : KD kd n (.object C) 2) (hk : KT i = kd) (ha : ad i = a) (hf : ∀ j, j < n → f j = some (ad (PE S00 kd i j))) (h : va_at D vwCl (a, .inl (cy kd, n, .inr (.inr (.inr (.inr f))))) H) : AtC D cy ad H i := by
  unfold AtC; subst ha
  obtain ⟨h1, h2, h3, h4, h5⟩ := F
  rw [show cel ad cy S00 i = .inl (cy kd, n, .inr (.inr (.inr (.inr (fun j => some (ad (PE S00 kd i j))))))) by simp [cel, arr, hk, h3, h5, Nat.not_lt.mpr h1]]
  have h' : H[ad i]? = some (vp_cell (cy kd) (n, .inr (.inr (.inr (.inr f))))) := h
  rw [vpq_congr hf] at h'
  exact h'
theorem pb0 (hk : KT d = 0) (had : ad d = q 0) (h : va_P D vwCl (bk0 cy q) H) : AtC D cy ad H d := atc_o hk (by decide) rfl had (vaP_hd h).1
theorem pb3 (hk : KT d = 3) (had : ad d = q 0) (h : va_P D vwCl (bk3 cy q) H) : AtC D cy ad H d := atc_o hk (by decide) rfl had (vaP_hd h).1
theorem pb4 (hk : KT d = 4) (had : ad d = q 0) (h : va_P D vwCl (bk4 cy q) H) : AtC D cy ad H d := atc_o hk (by decide) rfl had (vaP_hd h).1
theorem pb2 (hk : KT d = 2) (had : ∀ i, i < 4 → ad (d + i) = q i) (h : va_P D vwCl (bk2 cy q) H) : ∀ i, i < 4 → AtC D cy ad H (d + i) := by
  obtain ⟨a0, h⟩ := vaP_hd h
  obtain ⟨h, a3⟩ := vaP_app2 h
  obtain ⟨h, a2⟩ := vaP_app2 h
  obtain ⟨-, a1⟩ := vaP_app2 h
  intro i hi
  match i, hi with
  | 0, _ => exact atc_o (i := d) hk (by decide) (by rw [← had 1 (by decide), ← had 2 (by decide), ← had 3 (by decide)]; rfl) (had 0 (by decide)) a0
  | 1, _ => exact atc_a kd_15 (on_2_3 hk) (had 1 (by decide)) (vaP_hd a1).1
  | 2, _ => exact atc_a kd_16 (on_2_4 hk) (had 2 (by decide)) (vaP_hd a2).1
  | 3, _ => exact atc_a kd_17 (on_2_5 hk) (had 3 (by decide)) (vaP_hd a3).1
theorem pb5 (hk : KT d = 5) (had : ∀ i, i < 4 → ad (d + i) = q i) (h : va_P D vwCl (bk5 cy q) H) : ∀ i, i < 4 → AtC D cy ad H (d + i) := by
  obtain ⟨a0, h⟩ := vaP_hd h
  obtain ⟨h, a3⟩ := vaP_app2 h
  obtain ⟨h, a2⟩ := vaP_app2 h
  obtain ⟨-, a1⟩ := vaP_app2 h
  intro i hi
  match i, hi with
  | 0, _ => exact atc_o (i := d) hk (by decide) (by rw [← had 1 (by decide), ← had 2 (by decide), ← had 3 (by decide)]; rfl) (had 0 (by decide)) a0
  | 1, _ => exact atc_a kd_18 (on_5_0 hk) (had 1 (by decide)) (vaP_hd a1).1
  | 2, _ => exact atc_a kd_19 (on_5_1 hk) (had 2 (by decide)) (vaP_hd a2).1
  | 3, _ => exact atc_a kd_20 (on_5_2 hk) (had 3 (by decide)) (vaP_hd a3).1
theorem pb1 (hk : KT d = 1) (had : ∀ i, i < 3 → ad (d + i) = q i) (h : va_P D vwCl (bk1 cy q) H) : ∀ i, i < 3 → AtC D cy ad H (d + i) := by
  obtain ⟨a0, h⟩ := vaP_hd h
  obtain ⟨h, a2⟩ := vaP_app2 h
  obtain ⟨-, a1⟩ := vaP_app2 h
  intro i hi
  match i, hi with
  | 0, _ => exact atc_o (i := d) hk (by decide) (by rw [← had 1 (by decide), ← had 2 (by decide)]; rfl) (had 0 (by decide)) a0
  | 1, _ => exact atc_a kd_21 (on_1_0 hk) (had 1 (by decide)) (vaP_hd a1).1
  | 2, _ => exact atc_a kd_22 (on_1_1 hk) (had 2 (by decide)) (vaP_hd a2).1
theorem pb6 (hk : KT d = 6) (had : ∀ i, i < 2 → ad (d + i) = q i) (h : va_P D vwCl (bk6 cy q) H) : ∀ i, i < 2 → AtC D cy ad H (d + i) := by
  obtain ⟨a0, h⟩ := vaP_hd h
  obtain ⟨-, a1⟩ := vaP_app2 h
  intro i hi
  match i, hi with
  | 0, _ => exact atc_o (i := d) hk (by decide) (by rw [← had 1 (by decide)]; rfl) (had 0 (by decide)) a0
  | 1, _ => exact atc_a kd_12 (on_6_0 hk) (had 1 (by decide)) (vaP_hd a1).1
theorem pb7 (hk : KT d = 7) (had : ∀ i, i < 2 → ad (d + i) = q i) (h : va_P D vwCl (bk7 cy q) H) : ∀ i, i < 2 → AtC D cy ad H (d + i) := by
  obtain ⟨a0, h⟩ := vaP_hd h
  obtain ⟨-, a1⟩ := vaP_app2 h
  intro i hi
  match i, hi with
  | 0, _ => exact atc_o (i := d) hk (by decide) (by rw [← had 1 (by decide)]; rfl) (had 0 (by decide)) a0
  | 1, _ => exact atc_a kd_23 (on_7_0 hk) (had 1 (by decide)) (vaP_hd a1).1
theorem pb8 (hk : KT d = 8) (had : ∀ i, i < 14 → ad (d + i) = q i) (h : va_P D vwCl (bk8 cy q) H) : ∀ i, i < 14 → AtC D cy ad H (d + i) := by
  obtain ⟨a0, h⟩ := vaP_hd h
  obtain ⟨h, a13⟩ := vaP_app2 h
  obtain ⟨h, a12⟩ := vaP_app2 h
  obtain ⟨h, a11⟩ := vaP_app2 h
  obtain ⟨h, a10⟩ := vaP_app2 h
  obtain ⟨h, a9⟩ := vaP_app2 h
  obtain ⟨h, a8⟩ := vaP_app2 h
  obtain ⟨h, a7⟩ := vaP_app2 h
  obtain ⟨h, a6⟩ := vaP_app2 h
  obtain ⟨h, a5⟩ := vaP_app2 h
  obtain ⟨h, a4⟩ := vaP_app2 h
  obtain ⟨h, a3⟩ := vaP_app2 h
  obtain ⟨h, a2⟩ := vaP_app2 h
  obtain ⟨-, a1⟩ := vaP_app2 h
  have k1 : KT (d + 1) = 13 := on_8_0 hk
  have k2 : KT (d + 2) = 14 := on_8_1 hk
  intro i hi
  match i, hi with
  | 0, _ => exact atc_o (i := d) hk (by decide) (by rw [← had 1 (by decide), ← had 2 (by decide)]; rfl) (had 0 (by decide)) a0
  | 1, _ =>
    refine atc_q kd_13 k1 (had 1 (by decide)) (fun j hj => ?_) (vaP_hd a1).1
    match j, hj with
    | 0, _ => exact congrArg some (had 3 (by decide)).symm
    | 1, _ => exact congrArg some (had 4 (by decide)).symm
    | 2, _ => exact congrArg some (had 5 (by decide)).symm
    | 3, _ => exact congrArg some (had 6 (by decide)).symm
    | 4, _ => exact congrArg some (had 7 (by decide)).symm
  | 2, _ =>
    refine atc_q kd_14 k2 (had 2 (by decide)) (fun j hj => ?_) (vaP_hd a2).1
    match j, hj with
    | 0, _ => exact congrArg some (had 8 (by decide)).symm
    | 1, _ => exact congrArg some (had 9 (by decide)).symm
    | 2, _ => exact congrArg some (had 10 (by decide)).symm
    | 3, _ => exact congrArg some (had 11 (by decide)).symm
    | 4, _ => exact congrArg some (had 12 (by decide)).symm
    | 5, _ => exact congrArg some (had 13 (by decide)).symm
  | 3, _ => exact pb4 (on_p (j := 0) k1 (by decide)) (had 3 (by decide)) a3
  | 4, _ => exact pb4 (on_p (j := 1) k1 (by decide)) (had 4 (by decide)) a4
  | 5, _ => exact pb4 (on_p (j := 2) k1 (by decide)) (had 5 (by decide)) a5
  | 6, _ => exact pb4 (on_p (j := 3) k1 (by decide)) (had 6 (by decide)) a6
  | 7, _ => exact pb4 (on_p (j := 4) k1 (by decide)) (had 7 (by decide)) a7
  | 8, _ => exact pb3 (on_f (j := 0) k2 (by decide)) (had 8 (by decide)) a8
  | 9, _ => exact pb3 (on_f (j := 1) k2 (by decide)) (had 9 (by decide)) a9
  | 10, _ => exact pb3 (on_f (j := 2) k2 (by decide)) (had 10 (by decide)) a10
  | 11, _ => exact pb3 (on_f (j := 3) k2 (by decide)) (had 11 (by decide)) a11
  | 12, _ => exact pb3 (on_f (j := 4) k2 (by decide)) (had 12 (by decide)) a12
  | 13, _ => exact pb3 (on_f (j := 5) k2 (by decide)) (had 13 (by decide)) a13
theorem pb9 (hk : KT d = 9) (had : ∀ i, i < 23 → ad (d + i) = q i) (h : va_P D vwCl (bk9 cy q) H) : ∀ i, i < 23 → AtC D cy ad H (d + i) := by
  obtain ⟨a0, h⟩ := vaP_hd h
  obtain ⟨h, a5⟩ := vaP_app2 h
  obtain ⟨h, a2⟩ := vaP_app2 h
  obtain ⟨-, a8⟩ := vaP_app2 h
  intro i hi
  rcases Nat.lt_or_ge i 1 with c | c
  · obtain rfl : i = 0 := by omega
    exact atc_o (i := d) hk (by decide) (by rw [← had 1 (by decide), ← had 15 (by decide), ← had 19 (by decide)]; rfl) (had 0 (by decide)) a0
  · rcases Nat.lt_or_ge i 15 with c2 | c2
    · have := pb8 (d := d + 1) (on_9_0 hk) (fun j hj => by rw [Nat.add_assoc]; exact had (1 + j) (by omega)) a8 (i - 1) (by omega)
      rwa [show d + 1 + (i - 1) = d + i by omega] at this
    · rcases Nat.lt_or_ge i 19 with c3 | c3
      · have := pb2 (d := d + 15) (on_9_1 hk) (fun j hj => by rw [Nat.add_assoc]; exact had (15 + j) (by omega)) a2 (i - 15) (by omega)
        rwa [show d + 15 + (i - 15) = d + i by omega] at this
      · have := pb5 (d := d + 19) (on_9_2 hk) (fun j hj => by rw [Nat.add_assoc]; exact had (19 + j) (by omega)) a5 (i - 19) (by omega)
        rwa [show d + 19 + (i - 19) = d + i by omega] at this
end PB
