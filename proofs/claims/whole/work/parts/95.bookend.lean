theorem l_h89 {R : St} {x1 : Int32} : ∀ (m i u : Nat) (T : St), i + m = 4 → m < u → Fr (fun _ a => a = 150) R T → (∀ j, j < i → gA T 37 150 j = 0) → ∃ U, fX11_book_h89 140 x1 u (nI i) T = fX11_book_h111 140 x1 NN (-1) 0 U ∧ Fr (fun _ a => a = 150) R U ∧ gA U 37 150 0 = 0 ∧ gA U 37 150 1 = 0 := by
  intro m
  induction m with
  | zero =>
    intro i u T hi hu f h
    obtain ⟨u, rfl⟩ : ∃ k', u = k' + 1 := ⟨u - 1, by omega⟩
    rw [fX11_book_h89]; unfold fX11_book_s89
    rw [if_pos (show (4 : Int32) ≤ nI i from nI_le (a := 4) (by omega) (by omega))]
    exact ⟨T, rfl, f, h 0 (by omega), h 1 (by omega)⟩
  | succ m ih =>
    intro i u T hi hu f h
    obtain ⟨u, rfl⟩ : ∃ k', u = k' + 1 := ⟨u - 1, by omega⟩
    rw [fX11_book_h89]; unfold fX11_book_s89 fX11_book_s101
    rw [if_neg (show ¬ (4 : Int32) ≤ nI i from nI_ge (b := 4) (by omega) (by omega)), igd (by omega) (by decide), nI_clamp (by omega), nI_1]
    refine ih (i + 1) u _ (by omega) (by omega) (Fr_sA f rfl) (fun j hj => ?_)
    by_cases e : j = i
    · subst e; exact gA_s
    · exact (gA_j e).trans (h j (by omega))
theorem l_h242 {R : St} {x1 y : Int32} {k : Nat} (hk : k < 8) (h23 : gI R 11 23 140 = nI (k + 1)) : ∀ (m i u : Nat) (T : St), i + m = 17 → m < u → Fr (fun _ a => a = 147) R T → (∀ j, j < i → gA T 34 147 (17 * k + j) = gA R 35 148 j) → (∀ j, j < 17 * k → gA T 34 147 j = gA R 34 147 j) → ∃ U, fX11_book_h242 140 x1 u y (nI i) T = fX11_book_s276 140 x1 y U ∧ Fr (fun _ a => a = 147) R U ∧ (∀ j, j < 17 → gA U 34 147 (17 * k + j) = gA R 35 148 j) ∧ (∀ j, j < 17 * k → gA U 34 147 j = gA R 34 147 j) := by
  intro m
  induction m with
  | zero =>
    intro i u T hi hu f h g
    obtain ⟨u, rfl⟩ : ∃ k', u = k' + 1 := ⟨u - 1, by omega⟩
    rw [fX11_book_h242]; unfold fX11_book_s242
    rw [if_pos (show (17 : Int32) ≤ nI i from nI_le (a := 17) (by omega) (by omega))]
    exact ⟨T, rfl, f, fun j hj => h j (by omega), g⟩
  | succ m ih =>
    intro i u T hi hu f h g
    obtain ⟨u, rfl⟩ : ∃ k', u = k' + 1 := ⟨u - 1, by omega⟩
    have t23 : gI T 11 23 140 = nI (k + 1) := (f.i (by omega)).trans h23
    rw [fX11_book_h242]; unfold fX11_book_s242 fX11_book_s270
    rw [if_neg (show ¬ (17 : Int32) ≤ nI i from nI_ge (b := 17) (by omega) (by omega)), t23, show nI (k + 1) - 1 = nI k from nI_pred k, show (17 : Int32) = nI 17 from rfl, pk_mul, nI_add, igd (show i < 17 by omega) (by decide), igd (show 17 * k + i < 136 by omega) (by decide), nI_clamp (show i < 2 ^ 31 by omega), nI_clamp (show 17 * k + i < 2 ^ 31 by omega), nI_1, show (140 : Nat) + 7 = 147 from rfl, show gA T 35 (140 + 8) i = gA R 35 148 i from f.a (by omega)]
    refine ih (i + 1) u _ (by omega) (by omega) (Fr_sA f rfl) (fun j hj => ?_) (fun j hj => (gA_j (by omega)).trans (g j hj))
    by_cases e : j = i
    · subst e; exact gA_s
    · exact (gA_j (by omega)).trans (h j (by omega))
/-- a BOOK read, copied and judged: the class from S, the reference from any R with the same tape, names and days -/
theorem b_all {S R : St} {L n0 e d : Nat} {D : DS} {x1 : Int32} (hed : (e = 101 ∧ d = 101) ∨ (e = 97 ∧ d = 18)) (hn : n0 ≤ 5) (hL : L ≤ 940) (h1 : gI S 6 1 1 = nI L) (h2 : gI R 11 2 140 = nI L) (hb : ∀ j, j < 940 → gA S 12 2 j = gA R 28 141 j ∧ bB (gA S 12 2 j)) (rs : RS R) (pn : PN S R 4 0 n0) (hc : DC S 18 n0 D) (hm : DM R n0 D) (hw : DW n0 D) : ∃ C1 R1, fX1_readFrom 90 1 4 S = some C1 ∧ Fr XPP S C1 ∧ Fr XRR R R1 ∧ gI R1 11 2 140 = 0 ∧ ((fX11_book_s25 140 x1 (fX11_taken 140 400 R) = some (-2 - gI R1 11 16 140, R1) ∧ FA C1 R1) ∨ (gI C1 6 8 1 = 0 ∧ gI R1 11 15 140 = 0 ∧ ∃ (B C' R' : St) (y : Int32) (g : Nat) (D' : DS), fX2_copyFrom e 18 (sI (sI C1 10 14 0 (gI C1 6 8 1)) 6 1 1 0) = some B ∧ fX1_judge 90 d B = some (y, C') ∧ fX11_book_s25 140 x1 (fX11_taken 140 400 R) = fX11_book_s191 140 x1 y R' ∧ Fr (fun k a => (e ≤ a ∧ a ≤ e + 3) ∨ (d ≤ a ∧ a ≤ d + 3) ∨ (a = 90 ∧ 3 ≤ k ∧ k ≤ 7) ∨ (a = 0 ∧ k = 14) ∨ (a = 1 ∧ k = 1)) C1 C' ∧ Fr (fun k a => (a = 140 ∧ k = 32) ∨ a = 142 ∨ a = 148 ∨ a = 150) R1 R' ∧ (∀ j, j < 52 ∨ 69 ≤ j → gA R' 29 142 j = gA R1 29 142 j) ∧ (∀ j, j < 17 → gA R' 35 148 j = gA R1 29 142 (52 + j)) ∧ DC C' d n0 D' ∧ (d = 18 → DC C' 97 n0 D) ∧ DM R' n0 D' ∧ DW n0 D' ∧ gI C' 10 14 0 = 0 ∧ gI C' 6 1 1 = 0 ∧ gI C' 1 3 90 = 1 ∧ gI C' 1 4 90 = gA R' 37 150 0 ∧ gI C' 1 5 90 = nI g ∧ gA R' 37 150 1 = nI g ∧ g ≤ 40 ∧ gI C' 1 6 90 = nI (D'.1 0) ∧ gI C' 1 7 90 = nI (D'.1 1))) := by
  obtain ⟨C1, R1, a1, a2, a3, a4, o⟩ := b_run (x1 := x1) hL h1 h2 hb rs pn hm.1
  refine ⟨C1, R1, a1, a2, a3, a4, ?_⟩
  rcases o with ⟨K, hK, o1, o2, o3, o4, o5, bk⟩ | o
  · refine Or.inr ⟨o2, o3, ?_⟩
    obtain ⟨R2, t1, t2, t3⟩ := m_tries R1
    obtain ⟨R3, u1, u2, u3, u4⟩ := l_h89 (R := R2) (x1 := x1) 4 0 NN R2 (by omega) (by unfold NN; omega) Fr_id (fun j hj => by omega)
    have hcA : DC (sI (sI C1 10 14 0 (gI C1 6 8 1)) 6 1 1 0) 18 n0 D := DC_fr (Fr_sI (Fr_sI (X := fun k a => XPP k a ∨ a = 0 ∨ a = 1) (Fr_mo a2 (fun k a q => Or.inl q)) (by omega)) (by omega)) (fun k a x y q => by unfold XPP XP XF at q; omega) hc
    obtain ⟨B, b1, b2, b3⟩ := c_copy (d := e) (s := 18) (by omega) hn hcA
    have hcB : DC B d n0 D := by
      rcases hed with ⟨e1, e2⟩ | ⟨e1, e2⟩
      · rw [e2, ← e1]; exact b3
      · rw [e2]; exact DC_fr b2 (fun k a x y q => by unfold XD at q; omega) hcA
    have fRb : Fr (fun k a => a = 148 ∨ a = 150) R1 R3 := Fr_tr (Fr_mo t2 (fun k a q => Or.inl q)) (Fr_mo u2 (fun k a q => Or.inr q))
    have hm3 : DM R3 n0 D := DM_fr (Fr_tr (Fr_mo a3 (fun k a q => Or.inl q)) (Fr_mo fRb (fun k a q => Or.inr q)) : Fr (fun k a => XRR k a ∨ a = 148 ∨ a = 150) R R3) (by unfold XRR XR XQ XG; omega) hm
    generalize hA : sI (sI C1 10 14 0 (gI C1 6 8 1)) 6 1 1 0 = A at *
    have fA : Fr (fun k a => (a = 0 ∧ k = 14) ∨ (a = 1 ∧ k = 1)) C1 A := by rw [← hA]; exact Fr_sI (Fr_sI Fr_id (by omega)) (by omega)
    have fAB : Fr (fun k a => (e ≤ a ∧ a ≤ e + 3) ∨ (a = 0 ∧ k = 14) ∨ (a = 1 ∧ k = 1)) C1 B := Fr_tr (Fr_mo fA (fun k a q => Or.inr q)) (Fr_mo b2 (fun k a q => by unfold XD at q; omega))
    have fJ : Fr (fun k a => a = 90 ∧ 3 ≤ k ∧ k ≤ 5) B (sI (sI (sI B 1 3 90 1) 1 4 90 0) 1 5 90 0) := Fr_sI (Fr_sI (Fr_sI Fr_id (by omega)) (by omega)) (by omega)
    have j := l_judge (x1 := x1) (d := d) (n0 := n0) (K := K) (by omega) hn hK K 0 NN NN (sI (sI (sI B 1 3 90 1) 1 4 90 0) 1 5 90 0) R3 D (by omega) (by unfold NN; omega) (by unfold NN; omega) ((gI_k (by decide)).trans gI_s) gI_s u3 u4 ((fJ.i (by omega)).trans ((fAB.i (by omega)).trans o4)) ((fRb.i (by omega)).trans o5) (fun i hi => BkL_c (bk i hi) ((fJ.a (by omega)).trans (fAB.a (by omega))) ((fJ.a (by omega)).trans (fAB.a (by omega))) (fun jj _ => fRb.a (by omega))) (DC_fr fJ (fun k a x y q => by omega) hcB) hm3 hw
    obtain ⟨y, g, D', C', R', j1, j2, j3, j4, j5, j6, j7, j8, j9, j10, j11, j12, j13⟩ := j
    have xj : ∀ k a, XJ d k a → (d ≤ a ∧ a ≤ d + 3) ∨ (a = 90 ∧ 4 ≤ k ∧ k ≤ 7) := fun k a q => q
    have fJ' : Fr (fun k a => (d ≤ a ∧ a ≤ d + 3) ∨ (a = 90 ∧ 3 ≤ k ∧ k ≤ 7)) B C' := Fr_tr (Fr_mo fJ (fun k a q => by omega)) (Fr_mo j3 (fun k a q => by have := xj k a q; omega))
    refine ⟨B, C', R', y, g, D', b1, ?_, ?_, Fr_tr (Fr_mo fAB (fun k a q => by omega)) (Fr_mo fJ' (fun k a q => by omega)), Fr_tr (Fr_mo fRb (fun k a q => by omega)) (Fr_mo j4.1 (fun k a q => by omega)), fun jj hj => (j4.2 jj hj).trans (fRb.a (by omega)), fun jj hj => ?_, j5, fun ed => ?_, j6, j7, ?_, ?_, ?_, j8, j9, j10, j11, j12, j13⟩
    · unfold fX1_judge fX1_judge_s5 fX1_judge_s10; exact j1
    · rw [o1, t1, ob_some, show fX11_book_h89 140 x1 NN 0 R2 = _ from u1]; exact j2
    · exact (j4.1.a (by omega)).trans ((u2.a (by omega)).trans (t3 jj hj))
    · have e97 : e = 97 := by omega
      subst e97
      exact DC_fr fJ' (fun k a x y q => by omega) b3
    · exact (fJ'.i (by omega)).trans ((b2.i (by unfold XD; omega)).trans (by rw [← hA]; exact (gI_c (by decide)).trans (gI_s.trans o2)))
    · exact (fJ'.i (by omega)).trans ((b2.i (by unfold XD; omega)).trans (by rw [← hA]; exact gI_s))
    · exact (j3.i (by unfold XJ XD; omega)).trans ((gI_k (by decide)).trans ((gI_k (by decide)).trans gI_s))
  · exact Or.inl o
