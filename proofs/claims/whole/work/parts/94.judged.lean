def XJ (d k a : Nat) : Prop := XD d k a ∨ (a = 90 ∧ 4 ≤ k ∧ k ≤ 7)
def FR2 (R R' : St) : Prop := Fr (fun k a => (a = 140 ∧ k = 32) ∨ a = 142 ∨ a = 150) R R' ∧ ∀ j, j < 52 ∨ 69 ≤ j → gA R' 29 142 j = gA R 29 142 j
theorem FR2_id {R : St} : FR2 R R := ⟨Fr_id, fun _ _ => rfl⟩
theorem FR2_tr {R S T : St} (h : FR2 R S) (g : FR2 S T) : FR2 R T := ⟨Fr_tr h.1 g.1, fun j hj => (g.2 j hj).trans (h.2 j hj)⟩
theorem FR2_of {R S : St} (h : FR R S) : FR2 R S := ⟨Fr_mo h.fr (fun k a q => by omega), fun j hj => h.2.2.1 _ _ _ (by omega)⟩
theorem FR2_sA {R : St} {j : Nat} {v : Int32} : FR2 R (sA R 37 150 j v) := ⟨Fr_sA Fr_id (by omega), fun i hi => gA_c (by decide)⟩
/-- how a BOOK is judged, on both sides -/
def JdO (x1 : Int32) (d n0 : Nat) (C R : St) (c r : Option (Int32 × St)) : Prop := ∃ (y : Int32) (g : Nat) (D : DS) (C' R' : St), c = some (y, C') ∧ r = fX11_book_s191 140 x1 y R' ∧ Fr (XJ d) C C' ∧ FR2 R R' ∧ DC C' d n0 D ∧ DM R' n0 D ∧ DW n0 D ∧ gI C' 1 4 90 = gA R' 37 150 0 ∧ gI C' 1 5 90 = nI g ∧ gA R' 37 150 1 = nI g ∧ g ≤ 40 ∧ gI C' 1 6 90 = nI (D.1 0) ∧ gI C' 1 7 90 = nI (D.1 1)
theorem JdO_tr {x1 : Int32} {d n0 : Nat} {C R C' R' : St} {c r : Option (Int32 × St)} (f : Fr (XJ d) C C') (g : FR2 R R') (h : JdO x1 d n0 C' R' c r) : JdO x1 d n0 C R c r := by
  obtain ⟨y, k, D, A, B, h1, h2, h3, h4, h5⟩ := h
  exact ⟨y, k, D, A, B, h1, h2, Fr_tr f h3, FR2_tr g h4, h5⟩
theorem j_end {x1 : Int32} {d n0 g : Nat} {D : DS} {C R : St} {y : Int32} (hd : d + 3 < 90 ∨ 92 < d) (hc : DC C d n0 D) (hm : DM R n0 D) (hw : DW n0 D) (h4 : gI C 1 4 90 = gA R 37 150 0) (h5 : gI C 1 5 90 = nI g) (h6 : gA R 37 150 1 = nI g) (hg : g ≤ 40) (hy : (if gI C 1 4 90 = 0 then (-1 : Int32) else nI g) = y) : JdO x1 d n0 C R (fX1_judge_s79 90 d C) (fX11_book_s191 140 x1 y R) := by
  unfold fX1_judge_s79 fX1_judge_s87 fX1_judge_s95
  rw [hc.1, show gI (sI C 1 6 90 (nI (D.1 0))) 2 2 d = nI (D.1 1) from (gI_c (by decide)).trans hc.2.1]
  have f4 : gI (sI (sI C 1 6 90 (nI (D.1 0))) 1 7 90 (nI (D.1 1))) 1 4 90 = gI C 1 4 90 := (gI_k (by decide)).trans (gI_k (by decide))
  have f5 : gI (sI (sI C 1 6 90 (nI (D.1 0))) 1 7 90 (nI (D.1 1))) 1 5 90 = nI g := (gI_k (by decide)).trans ((gI_k (by decide)).trans h5)
  have fr : Fr (XJ d) C (sI (sI C 1 6 90 (nI (D.1 0))) 1 7 90 (nI (D.1 1))) := Fr_sI (Fr_sI Fr_id (by unfold XJ; omega)) (by unfold XJ; omega)
  have fr' : Fr (fun _ a => a = 90) C (sI (sI C 1 6 90 (nI (D.1 0))) 1 7 90 (nI (D.1 1))) := Fr_sI (Fr_sI Fr_id rfl) rfl
  have dc := DC_fr fr' (fun k a a1 a2 q => by omega) hc
  rw [f4, f5]
  refine ⟨y, g, D, _, R, ?_, rfl, fr, FR2_id, dc, hm, hw, f4.trans h4, f5, h6, hg, (gI_k (by decide)).trans gI_s, gI_s⟩
  by_cases z : gI C 1 4 90 = 0
  · rw [if_pos z] at hy ⊢; rw [hy]
  · rw [if_neg z] at hy ⊢; rw [hy]
theorem l_judge {x1 : Int32} {d n0 K : Nat} (hd : d + 3 < 90 ∨ 92 < d) (hn : n0 ≤ 5) (hK : K ≤ 40) : ∀ (m i u v : Nat) (C R : St) (D : DS), i + m = K → m + 1 < u → m + 1 < v → gI C 1 4 90 = 0 → gI C 1 5 90 = nI i → gA R 37 150 0 = 0 → gA R 37 150 1 = nI i → gI C 1 2 90 = nI K → gI R 11 33 140 = nI K → (∀ j, j < K → BkL C R n0 j) → DC C d n0 D → DM R n0 D → DW n0 D → JdO x1 d n0 C R (fX1_judge_h15 90 d u C) (fX11_book_h111 140 x1 v (-1) (nI i) R) := by
  intro m
  induction m with
  | zero =>
    intro i u v C R D hi hu hv c4 c5 r0 r1 c2 r33 bk hc hm hw
    obtain ⟨u, rfl⟩ : ∃ k', u = k' + 1 := ⟨u - 1, by omega⟩
    obtain ⟨v, rfl⟩ : ∃ k', v = k' + 1 := ⟨v - 1, by omega⟩
    rw [fX1_judge_h15, fX11_book_h111]; unfold fX1_judge_s15 fX11_book_s111
    rw [c2, c5, if_pos (nI_le (by omega) (by omega)), r33, if_pos (nI_le (by omega) (by omega))]
    exact j_end hd hc hm hw (c4.trans r0.symm) c5 r1 (by omega) (if_pos c4)
  | succ m ih =>
    intro i u v C R D hi hu hv c4 c5 r0 r1 c2 r33 bk hc hm hw
    obtain ⟨u, rfl⟩ : ∃ k', u = k' + 1 := ⟨u - 1, by omega⟩
    obtain ⟨v, rfl⟩ : ∃ k', v = k' + 1 := ⟨v - 1, by omega⟩
    obtain ⟨w, D', C', R', e1, e2, f1, f2, hc', hm', hw', w0⟩ := b_do hn hc hm hw (bk i (by omega))
    rw [fX1_judge_h15, fX11_book_h111]; unfold fX1_judge_s15 fX11_book_s111
    rw [c2, c5, if_neg (nI_ge (by omega) (by omega)), r33, if_neg (nI_ge (by omega) (by omega)), if_pos c4, if_neg m1_neg, show (3 : Int32) = nI 3 from rfl, pk_mul, nI_1, show nI (3 * i) + 2 = nI (3 * i + 2) from nI_add _ 2]
    repeat rw [igd (show i < 40 by omega) (by decide)]
    rw [igd (show 3 * i < 135 by omega) (by decide), igd (show 3 * i + 1 < 135 by omega) (by decide), igd (show 3 * i + 2 < 135 by omega) (by decide), nI_clamp (show i < 2 ^ 31 by omega), nI_clamp (show 3 * i < 2 ^ 31 by omega), nI_clamp (show 3 * i + 1 < 2 ^ 31 by omega), nI_clamp (show 3 * i + 2 < 2 ^ 31 by omega), show (90 : Nat) + 1 = 91 from rfl, show (90 : Nat) + 2 = 92 from rfl, show (140 : Nat) + 4 = 144 from rfl, e1, ob_some, e2, ob_some]
    unfold fX1_judge_s56 fX1_judge_s59 fX1_judge_s76 fX11_book_s160 fX11_book_s161 fX11_book_s185
    have xd : ∀ k, ¬ XD d k 90 := fun k => by unfold XD; omega
    have g5 : gI C' 1 5 90 = nI i := (f1.i (xd _)).trans c5
    have g2 : gI C' 1 2 90 = nI K := (f1.i (xd _)).trans c2
    have s33 : gI R' 11 33 140 = nI K := (f2.1 _ _ _ (by omega)).trans r33
    have s1 : gA R' 37 150 1 = nI i := (f2.2.2.1 _ _ _ (by omega)).trans r1
    have s31 : ∀ j, gA R' 31 144 j = gA R 31 144 j := fun j => f2.2.2.1 _ _ _ (by omega)
    have t21 : ∀ j, gA C' 21 91 j = gA C 21 91 j := fun j => f1.a (by unfold XD; omega)
    have t22 : ∀ j, gA C' 22 92 j = gA C 22 92 j := fun j => f1.a (by unfold XD; omega)
    have h00 : ¬ ((0 : Int32) < 0 ∨ 4 ≤ (0 : Int32).toNatClampNeg) := by decide
    have z0 : (0 : Int32).toNatClampNeg = 0 := by decide
    have fC : Fr (XJ d) C (sI C' 1 4 90 w) := Fr_sI (Fr_mo f1 (fun k a q => Or.inl q)) (by unfold XJ; omega)
    have fR : FR2 R (sA R' 37 150 0 w) := FR2_tr (FR2_of f2) FR2_sA
    have y4 : gI (sI C' 1 4 90 w) 1 4 90 = w := gI_s
    have y5 : gI (sI C' 1 4 90 w) 1 5 90 = nI i := (gI_k (by decide)).trans g5
    have dc2 : DC (sI C' 1 4 90 w) d n0 D' := DC_fr (Fr_sI (X := fun _ a => a = 90) Fr_id rfl) (fun k a a1 a2 q => by omega) hc'
    have dm2 : DM (sA R' 37 150 0 w) n0 D' := DM_fr (Fr_sA (X := fun _ a => a = 150) Fr_id rfl) (by omega) hm'
    rw [if_neg h00, z0, y4, y5, show (140 : Nat) + 10 = 150 from rfl, show gA (sA R' 37 150 0 w) 37 150 0 = w from gA_s, show gA (sA R' 37 150 0 w) 37 150 1 = nI i from (gA_j (by decide)).trans s1, nI_1]
    rcases w0 with e | e
    · subst e
      rw [if_pos rfl, if_pos (show (0 : Int32) ≤ 0 by decide)]
      refine JdO_tr (C' := sI (sI C' 1 4 90 0) 1 5 90 (nI (i + 1))) (R' := sA (sA R' 37 150 0 0) 37 150 1 (nI (i + 1))) (Fr_sI fC (by unfold XJ; omega)) (FR2_tr fR FR2_sA) (ih (i + 1) u v _ _ D' (by omega) (by omega) (by omega) ((gI_k (by decide)).trans gI_s) gI_s ((gA_j (by decide)).trans gA_s) gA_s ((gI_k (by decide)).trans ((gI_k (by decide)).trans g2)) s33 (fun j hj => ?_) (DC_fr (Fr_sI (X := fun _ a => a = 90) Fr_id rfl) (fun k a a1 a2 q => by omega) dc2) (DM_fr (Fr_sA (X := fun _ a => a = 150) Fr_id rfl) (by omega) dm2) hw')
      exact BkL_c (bk j hj) (t21 j) (t22 j) (fun k _ => (gA_c (by decide)).trans ((gA_c (by decide)).trans (s31 k)))
    · have wz : ¬ w = 0 := fun q => by rw [q] at e; exact absurd e (by decide)
      rw [if_neg wz, if_neg (Int32.not_le.mpr e)]
      obtain ⟨u, rfl⟩ : ∃ k', u = k' + 1 := ⟨u - 1, by omega⟩
      obtain ⟨v, rfl⟩ : ∃ k', v = k' + 1 := ⟨v - 1, by omega⟩
      rw [fX1_judge_h15, fX11_book_h111]; unfold fX1_judge_s15 fX11_book_s111
      rw [if_pos (show (0 : Int32) ≤ nI i from nI_pos' (by omega)), ite_self, y4, if_neg wz, ite_self]
      exact JdO_tr fC fR (j_end hd dc2 dm2 hw' (y4.trans gA_s.symm) y5 ((gA_j (by decide)).trans s1) (by omega) (by rw [y4, if_neg wz]))
