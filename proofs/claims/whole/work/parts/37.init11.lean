abbrev ini11 : List Value := [.int 0, .null, .int 0, .int 0, .int 0, .int 0, .null, .null, .null, .null, .null, .int 0, .int 0, .int 0, .int 0, .int 0, .int 0, .long 0, .int 0, .int 0, .int 0, .null, .null, .int 0, .int 0, .int 0, .int 0, .int 0, .int 0, .int 0, .null, .int 0, .int 0, .int 0, .null, .int 0, .null, .int 0, .int 0, .int 0, .int 0, .int 0, .null, .null, .null, .null]
def bk11 (cy : Nat → ClassId) (h0 : Nat) (q qa : Nat → Nat) : va_W := (h0, .inr (11, [.int 0, .ref (qa 0), .int 0, .int 0, .int 0, .int 0, .ref (qa 1), .ref (qa 2), .ref (qa 3), .ref (qa 4), .ref (qa 5), .int 0, .int 0, .int 0, .int 0, .int 0, .int 0, .long 0, .int 0, .int 0, .int 0, .ref (qa 6), .ref (qa 7), .int 0, .int (-1), .int (-1), .int (-1), .int (-1), .int 0, .int 0, .ref (qa 8), .int 0, .int 0, .int 0, .ref (qa 9), .int 0, .ref (qa 10), .int 0, .int 0, .int 0, .int 0, .int 0, .ref (qa 11), .ref (qa 12), .ref (qa 13), .ref (qa 14)])) :: (bk10 cy q ++ [(qa 0, .inl (cy 28, 940, .inl (fun _ => 0)))] ++ [(qa 1, .inl (cy 29, 250, .inl (fun _ => 0)))] ++ [(qa 2, .inl (cy 30, 52, .inl (fun _ => 0)))] ++ [(qa 3, .inl (cy 31, 135, .inl (fun _ => 0)))] ++ [(qa 4, .inl (cy 32, 22, .inr (.inl (fun _ => 0))))] ++ [(qa 5, .inl (cy 33, 19, .inr (.inl (fun _ => 0))))] ++ [(qa 6, .inl (cy 34, 136, .inl (fun _ => 0)))] ++ [(qa 7, .inl (cy 35, 17, .inl (fun _ => 0)))] ++ [(qa 8, .inl (cy 36, 56, .inl (fun _ => 0)))] ++ [(qa 9, .inl (cy 37, 4, .inl (fun _ => 0)))] ++ [(qa 10, .inl (cy 38, 45, .inl (fun _ => 0)))] ++ [(qa 11, .inl (cy 39, 45, .inl (fun _ => 0)))] ++ [(qa 12, .inl (cy 40, 500, .inl (fun _ => 0)))] ++ [(qa 13, .inl (cy 41, 22, .inr (.inl (fun _ => 0))))] ++ [(qa 14, .inl (cy 42, 2, .inl (fun _ => 0)))])
def r11 (h0 : Nat) (q qa : Nat → Nat) (p : Nat) : Nat := if p = 0 then h0 else if p < 141 then q (p - 1) else qa (p - 141)
set_option maxRecDepth 20000 in
theorem bk11_fst (cy : Nat → ClassId) (h0 : Nat) (q qa : Nat → Nat) : (bk11 cy h0 q qa).map Prod.fst = (List.range 156).map (r11 h0 q qa) := by
  have e : (List.range 156).map (r11 h0 q qa) = h0 :: ((List.range 140).map q ++ (List.range 15).map qa) := by
    apply List.ext_getElem?
    intro i
    rcases Nat.lt_or_ge i 156 with hi | hi
    · rw [List.getElem?_map, List.getElem?_range hi]
      rcases i with _ | i
      · rfl
      · rw [List.getElem?_cons_succ]
        rcases Nat.lt_or_ge i 140 with hj | hj
        · rw [List.getElem?_append_left (by simpa using hj), List.getElem?_map, List.getElem?_range hj]
          simp [r11, show i + 1 < 141 by omega]
        · rw [List.getElem?_append_right (by simpa using hj), List.getElem?_map]
          simp only [List.length_map, List.length_range]
          rw [List.getElem?_range (show i - 140 < 15 by omega)]
          simp [r11, show ¬ i + 1 < 141 by omega]
    · rw [List.getElem?_eq_none (by simpa using hi), List.getElem?_eq_none (by simp; omega)]
  rw [e]
  simp only [bk11, List.map_append, List.map_cons, List.map_nil, bk10_fst]
  simp only [List.append_assoc]
  rfl
def ps11 (i : Nat) : Nat := if i < 140 then 1 + pm i else if i = 140 then 0 else i
theorem ps11_inj : ∀ i, i < 156 → ∀ j, j < 156 → ps11 i = ps11 j → i = j := by decide +kernel
theorem ps11_lt : ∀ i, i < 156 → ps11 i < 156 := by decide +kernel
def ad11 (h0 : Nat) (q qa adS : Nat → Nat) (i : Nat) : Nat := if i < 156 then r11 h0 q qa (ps11 i) else adS i
theorem ad11_c {h0 : Nat} {q qa adS : Nat → Nat} {i : Nat} (hi : i < 140) : ad11 h0 q qa adS i = q (pm i) := by
  have : ps11 i = 1 + pm i := by simp [ps11, hi]
  have h2 := pm_lt i hi
  simp only [ad11, if_pos (show i < 156 by omega), this, r11]
  rw [if_neg (by omega), if_pos (by omega)]
  congr 1; omega
theorem ad11_S {h0 : Nat} {q qa adS : Nat → Nat} {i : Nat} (hi : 156 ≤ i) : ad11 h0 q qa adS i = adS i := by simp [ad11, Nat.not_lt.mpr hi]
theorem bk11_r {A : Nat → Prop} {cy : Nat → ClassId} {h0 : Nat} {q qa : Nat → Nat} (h : va_D A (bk11 cy h0 q qa)) : (∀ i, i < 156 → ∀ j, j < 156 → r11 h0 q qa i = r11 h0 q qa j → i = j) ∧ ∀ i, i < 156 → A (r11 h0 q qa i) := by
  obtain ⟨h1, h2⟩ := vaD_nd.mp h
  refine ⟨?_, fun i hi => ?_⟩
  · rw [bk11_fst, List.Nodup, List.pairwise_map, List.pairwise_iff_getElem] at h1
    intro i hi j hj e
    rcases Nat.lt_trichotomy i j with c | c | c
    · exact absurd (by rw [List.getElem_range, List.getElem_range]; exact e) (h1 i j (by simpa using hi) (by simpa using hj) c)
    · exact c
    · exact absurd (by rw [List.getElem_range, List.getElem_range]; exact e.symm) (h1 j i (by simpa using hj) (by simpa using hi) c)
  · have h3 : r11 h0 q qa i ∈ (bk11 cy h0 q qa).map Prod.fst := by rw [bk11_fst]; exact List.mem_map.mpr ⟨i, List.mem_range.mpr hi, rfl⟩
    obtain ⟨x, hx, e⟩ := List.mem_map.mp h3
    rw [← e]; exact h2 x hx
theorem ad11_inj {A : Nat → Prop} {cy : Nat → ClassId} {h0 : Nat} {q qa adS : Nat → Nat} (h : va_D A (bk11 cy h0 q qa)) : Inj (ad11 h0 q qa adS) := by
  intro i j hi hj e
  simp only [ad11, if_pos hi, if_pos hj] at e
  exact ps11_inj i hi j hj ((bk11_r h).1 _ (ps11_lt i hi) _ (ps11_lt j hj) e)
theorem ad11_A {A : Nat → Prop} {cy : Nat → ClassId} {h0 : Nat} {q qa adS : Nat → Nat} (h : va_D A (bk11 cy h0 q qa)) : ∀ x, InA (ad11 h0 q qa adS) x → A x := by
  rintro x ⟨i, hi, rfl⟩
  simp only [ad11, if_pos hi]
  exact (bk11_r h).2 _ (ps11_lt i hi)
theorem atc_l {D : va_G} {cy : Nat → ClassId} {ad : Nat → Nat} {H : Heap} {kd n a : Nat} {ty : FieldType} {i : Nat} (F : KD kd n ty 1) (hk : KT i = kd) (ha : ad i = a) (h : va_at D vwCl (a, .inl (cy kd, n, .inr (.inl (fun _ => 0)))) H) : AtC D cy ad H i := by
  unfold AtC; subst ha
  rw [cel_arB F hk]
  exact h
set_option maxRecDepth 20000 in
theorem pool11 {D : va_G} {cy : Nat → ClassId} {H : Heap} {h0 : Nat} {q qa adS : Nat → Nat} (h : va_P D vwCl (bk11 cy h0 q qa) H) : va_P D vwCl (pw (ad11 h0 q qa adS) cy S00) H := by
  obtain ⟨aO, h⟩ := vaP_hd h
  obtain ⟨h, a14⟩ := vaP_app2 h
  obtain ⟨h, a13⟩ := vaP_app2 h
  obtain ⟨h, a12⟩ := vaP_app2 h
  obtain ⟨h, a11⟩ := vaP_app2 h
  obtain ⟨h, a10⟩ := vaP_app2 h
  obtain ⟨h, a9⟩ := vaP_app2 h
  obtain ⟨h, a8⟩ := vaP_app2 h
  obtain ⟨h, a7⟩ := vaP_app2 h
  obtain ⟨h, a6⟩ := vaP_app2 h
  obtain ⟨h, a5⟩ := vaP_app2 h
  obtain ⟨h, a4⟩ := vaP_app2 h
  obtain ⟨h, a3⟩ := vaP_app2 h
  obtain ⟨h, a2⟩ := vaP_app2 h
  obtain ⟨h, a1⟩ := vaP_app2 h
  obtain ⟨h, a0⟩ := vaP_app2 h
  have hc := pool10 (ad := ad11 h0 q qa adS) (fun i hi => ad11_c hi) h
  have key : ∀ i, i < 156 → AtC D cy (ad11 h0 q qa adS) H i := by
    intro i hi
    rcases Nat.lt_or_ge i 140 with c | c
    · exact hc i c
    match i, c, hi with
    | 140, _, _ => exact atc_o (by decide +kernel) (by decide) rfl rfl aO
    | 141, _, _ => exact atc_a kd_28 (by decide +kernel) rfl (vaP_hd a0).1
    | 142, _, _ => exact atc_a kd_29 (by decide +kernel) rfl (vaP_hd a1).1
    | 143, _, _ => exact atc_a kd_30 (by decide +kernel) rfl (vaP_hd a2).1
    | 144, _, _ => exact atc_a kd_31 (by decide +kernel) rfl (vaP_hd a3).1
    | 145, _, _ => exact atc_l kd_32 (by decide +kernel) rfl (vaP_hd a4).1
    | 146, _, _ => exact atc_l kd_33 (by decide +kernel) rfl (vaP_hd a5).1
    | 147, _, _ => exact atc_a kd_34 (by decide +kernel) rfl (vaP_hd a6).1
    | 148, _, _ => exact atc_a kd_35 (by decide +kernel) rfl (vaP_hd a7).1
    | 149, _, _ => exact atc_a kd_36 (by decide +kernel) rfl (vaP_hd a8).1
    | 150, _, _ => exact atc_a kd_37 (by decide +kernel) rfl (vaP_hd a9).1
    | 151, _, _ => exact atc_a kd_38 (by decide +kernel) rfl (vaP_hd a10).1
    | 152, _, _ => exact atc_a kd_39 (by decide +kernel) rfl (vaP_hd a11).1
    | 153, _, _ => exact atc_a kd_40 (by decide +kernel) rfl (vaP_hd a12).1
    | 154, _, _ => exact atc_l kd_41 (by decide +kernel) rfl (vaP_hd a13).1
    | 155, _, _ => exact atc_a kd_42 (by decide +kernel) rfl (vaP_hd a14).1
    | n + 156, _, h => exact absurd h (by omega)
  refine vaP_mem.mpr fun x hx => ?_
  obtain ⟨i, hi, rfl⟩ := List.mem_map.mp hx
  exact key i (List.mem_range.mp hi)
theorem Ex.strs {ad ad' : Nat → Nat} {A : Nat → Prop} {U : State} (h : Ex ad A U) (e : ∀ i, 156 ≤ i → ad' i = ad i) : Ex ad' A U := by
  obtain ⟨s0, b, h1, h1t, h2, h3, h4, h5, h6, h7⟩ := h
  have e1 : (fun i => ad' (156 + i)) = (fun i => ad (156 + i)) := funext fun i => e _ (by omega)
  have e2 : (fun i => ad' (161 + i)) = (fun i => ad (161 + i)) := funext fun i => e _ (by omega)
  exact ⟨s0, b, h1, h1t, h2, h3, h4, h5, by rw [e1, e2]; exact h6, fun i hi => by rw [e (156 + i) (by omega)]; exact h7 i hi⟩
def Qm (D : va_G) (cy : Nat → ClassId) (q adS : Nat → Nat) (h0 : Nat) (A : Nat → Prop) (S1 : St) : Array Value → State → Outcome → State → Prop := fun _ st oc t => oc = .returned none ∧ (∃ ad : Nat → Nat, (∀ i, i < 140 → ad i = q (pm i)) ∧ ad 140 = h0 ∧ (∀ i, 156 ≤ i → ad i = adS i) ∧ Inj ad ∧ (∀ x, InA ad x → A x) ∧ va_P D vwCl (pw ad cy S1) t.heap) ∧ va_F A st t
set_option maxHeartbeats 4000000 in
set_option maxRecDepth 100000 in
/-- the reference's constructor, called where the class's cells stand -/
theorem tX11_init (l : Launch) (D : va_G) (cy : Nat → ClassId) (q adS : Nat → Nat) (h0 sz : Nat) (S1 : St) (hF : fX11_init 140 S00 = some S1) : Met l yX11_init (.code yX11_init cX11_init 2 none :: wsL_law0) (rmI 1000 15 2245) (va_Pc [.ref h0] (fun U => U.heap.size = sz ∧ va_P D vwCl ((h0, .inr (11, ini11)) :: bk10 cy q) U.heap ∧ (va_K D vwCl (tysOf cy) U ∧ AOs U) ∧ va_D (fun _ => True) ((h0, .inr (11, ini11)) :: bk10 cy q) ∧ Ex adS (va_A ((h0, .inr (11, ini11)) :: bk10 cy q) sz) U)) (Qm D cy q adS h0 (va_A ((h0, .inr (11, ini11)) :: bk10 cy q) sz) S1) 15 2245 (va_A ((h0, .inr (11, ini11)) :: bk10 cy q) sz) := by
  refine Met.ofW (cc := cX11_init) (maxL := 2) (ret := none) (by decide) rfl ?_
  intro p e s m args below meth c s₁ B hml hv
  obtain ⟨rfl, hsz, hP, ⟨hK, hO⟩, hD0, hE⟩ := hv
  have hts := atoms_spec (ws := .code yX11_init cX11_init 2 none :: wsL_law0) B.pre
  have hown : s.vm.findClass RX11 = some m.cls := findClass_of_methodNamed B.named
  have hin : meth.name = "<init>" := (name_of_methodNamed B.named B.method).1
  subst hsz
  have hD := hD0.self (sz := s.heap.size)
  generalize hAe : va_A ((h0, .inr (11, ini11)) :: bk10 cy q) s.heap.size = A at hD hE ⊢
  have hA : ∀ x : Nat, s.heap.size ≤ x → A x := fun x h => by rw [← hAe]; exact Or.inr h
  have hl := lv_entry [.ref h0] (n := 2) (Nat.le_of_ble_eq_true rfl)
  rw [lg_entry_eq]
  refine kX11_fields (z := ((p, l, e, (headSpec (Cond.code yX11_init cX11_init 2 none :: wsL_law0) (rmI 1000 15 2245)).room, s, m, ([.ref h0] : List Value).toArray, below, meth, c), D, cy, MQ below (Qm D cy q adS h0 A S1) ([.ref h0] : List Value).toArray s 15 2245 A)) (A := A) (h0 := h0) (TT := bk10 cy q) ⟨B.exec, B.bytes, hml, hown, fun w hw => hts w (List.mem_cons_of_mem _ hw), ⟨Nat.le_refl _, Nat.le_refl _, Nat.le_refl _, Nat.le_refl _⟩, hK, hO, hA, hin⟩ ?_ s.heap [] _ hP hD va_S.rf (by rw [hml]; exact hl)
  intro q1 q2 q3 q4 q5 q6 q7 q8 q9 q10 q11 q12 q13 q14 q15
  intro H locs ls hP1 hD1 hS1 hl1
  obtain ⟨qa, hqa⟩ : ∃ qa : Nat → Nat, qa = fun i => ([q1, q2, q3, q4, q5, q6, q7, q8, q9, q10, q11, q12, q13, q14, q15] : List Nat).getD i 0 := ⟨_, rfl⟩
  have hP2 : va_P D vwCl (bk11 cy h0 q qa) H := by rw [hqa]; exact hP1
  have hD2 : va_D A (bk11 cy h0 q qa) := by rw [hqa]; exact hD1
  have hG := wX11_init (z := ((p, l, e, (headSpec (Cond.code yX11_init cX11_init 2 none :: wsL_law0) (rmI 1000 15 2245)).room, s, m, ([.ref h0] : List Value).toArray, below, meth, c), D, cy, (fun _ => MQ below (Qm D cy q adS h0 A S1) ([.ref h0] : List Value).toArray s 15 2245 A), 15, 2245, (fun _ => True), A)) (ad := ad11 h0 q qa adS) (o := (none, S1)) ⟨B.exec, B.bytes, hml, hown, fun w hw => hts w (List.mem_cons_of_mem _ hw), B.returns, B.notSynchronized, ⟨Nat.le_refl _, Nat.le_refl _, Nat.le_refl _, Nat.le_refl _⟩, hK, hE.strs (fun i hi => ad11_S hi), ad11_inj hD2, ⟨fun _ _ _ _ _ => trivial, fun _ _ _ _ => trivial⟩, fun h => absurd h (by decide), ad11_A hD2⟩ 140 (by decide +kernel) S00 S1 (fun S pc lv hd hr => ?_) hF
  · exact hG H locs ls (pool11 hP2) hS1 trivial hl1
  · subst hr
    intro H locs ls hP3 hS3 _ hl3
    exact W.vret B.exec B.bytes B.returns (fun t ht hW => ⟨rfl, ⟨ad11 h0 q qa adS, fun i hi => ad11_c hi, rfl, fun i hi => ad11_S hi, ad11_inj hD2, ad11_A hD2, by rw [ht]; exact hP3⟩, hS3.F ht⟩) hS3.2.2 hd B.notSynchronized
