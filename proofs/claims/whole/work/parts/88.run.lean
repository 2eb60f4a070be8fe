def cl (i j : Nat) : Nat := if j = 2 then 365 else if j = 3 then 1 else if 29 ≤ j ∧ j < 29 + i then 1 else 0
theorem l_cl39 {S : St} : ∀ (m i u : Nat) (T : St), i + m = 5 → m < u → Fr (fun _ a => a = 143) S T → HR T (cl i) → ∃ U, fX11_clears_h39 140 u (nI i) T = some U ∧ Fr (fun _ a => a = 143) S U ∧ HR U (cl 5) := by
  intro m
  induction m with
  | zero =>
    intro i u T hi hu f h
    obtain ⟨u, rfl⟩ : ∃ k', u = k' + 1 := ⟨u - 1, by omega⟩
    rw [fX11_clears_h39]; unfold fX11_clears_s39
    rw [if_pos (show (5 : Int32) ≤ nI i from nI_le (a := 5) (by omega) (by omega))]
    exact ⟨T, rfl, f, by rw [show (5 : Nat) = i by omega]; exact h⟩
  | succ m ih =>
    intro i u T hi hu f h
    obtain ⟨u, rfl⟩ : ∃ k', u = k' + 1 := ⟨u - 1, by omega⟩
    rw [fX11_clears_h39]; unfold fX11_clears_s39 fX11_clears_s54
    rw [if_neg (show ¬ (5 : Int32) ≤ nI i from nI_ge (b := 5) (by omega) (by omega)), show (29 : Int32) + nI i = nI (29 + i) from nI_add 29 i, igd (by omega) (by decide), nI_clamp (by omega), nI_1]
    refine ih (i + 1) u _ (by omega) (by omega) (Fr_sA f rfl) (fun j hj => ?_)
    by_cases e : j = 29 + i
    · subst e
      refine (show gA (sA T 30 143 (29 + i) 1) 30 143 (29 + i) = 1 from gA_s).trans ?_
      unfold cl; rw [if_neg (by omega), if_neg (by omega), if_pos (by omega)]; rfl
    · refine (show gA (sA T 30 143 (29 + i) 1) 30 143 j = gA T 30 143 j from gA_j e).trans ((h j hj).trans ?_)
      unfold cl
      by_cases e2 : j = 2
      · rw [if_pos e2, if_pos e2]
      rw [if_neg e2, if_neg e2]
      by_cases e3 : j = 3
      · rw [if_pos e3, if_pos e3]
      rw [if_neg e3, if_neg e3]
      by_cases e4 : 29 ≤ j ∧ j < 29 + i
      · rw [if_pos e4, if_pos (by omega)]
      · rw [if_neg e4, if_neg (by omega)]
theorem l_cl2 {S : St} : ∀ (m i u : Nat) (T : St), i + m = 52 → m < u → Fr (fun _ a => a = 143) S T → (∀ j, j < i → gA T 30 143 j = 0) → ∃ U, fX11_clears_h2 140 u (nI i) T = some U ∧ Fr (fun _ a => a = 143) S U ∧ HR U (cl 5) := by
  intro m
  induction m with
  | zero =>
    intro i u T hi hu f h
    obtain ⟨u, rfl⟩ : ∃ k', u = k' + 1 := ⟨u - 1, by omega⟩
    rw [fX11_clears_h2]; unfold fX11_clears_s2 fX11_clears_s30 fX11_clears_s37
    rw [if_pos (show (52 : Int32) ≤ nI i from nI_le (a := 52) (by omega) (by omega))]
    refine l_cl39 5 0 NN _ (by omega) (by unfold NN; omega) (Fr_sA (Fr_sA f rfl) rfl) (fun j hj => ?_)
    by_cases e3 : j = 3
    · subst e3; exact gA_s
    · refine (gA_j e3).trans ?_
      by_cases e2 : j = 2
      · subst e2; exact gA_s
      · refine (gA_j e2).trans ((h j (by omega)).trans ?_)
        unfold cl; rw [if_neg e2, if_neg e3, if_neg (by omega)]; rfl
  | succ m ih =>
    intro i u T hi hu f h
    obtain ⟨u, rfl⟩ : ∃ k', u = k' + 1 := ⟨u - 1, by omega⟩
    rw [fX11_clears_h2]; unfold fX11_clears_s2 fX11_clears_s15
    rw [if_neg (show ¬ (52 : Int32) ≤ nI i from nI_ge (b := 52) (by omega) (by omega)), igd (by omega) (by decide), nI_clamp (by omega), nI_1]
    refine ih (i + 1) u _ (by omega) (by omega) (Fr_sA f rfl) (fun j hj => ?_)
    by_cases e : j = i
    · subst e; exact gA_s
    · exact (gA_j e).trans (h j (by omega))
theorem m_clears (R : St) : ∃ U, fX11_clears 140 R = some U ∧ Fr (fun _ a => a = 143) R U ∧ HR U (cl 5) := l_cl2 52 0 NN R (by omega) (by unfold NN; omega) Fr_id (fun j hj => by omega)
def XVV (k a : Nat) : Prop := XV k a ∨ (a = 1 ∧ k = 2)
def XOO (k a : Nat) : Prop := XO k a ∨ (a = 140 ∧ (k = 0 ∨ k = 2 ∨ k = 3 ∨ k = 5))
def vC0 (C : St) : St := sI (sI (sI (sI (sI C 8 2 72 0) 8 3 72 0) 8 4 72 365) 8 5 72 1) 8 6 72 0
def opC (C : St) (m : Int32) : St := sI (sI (sI (sI C 6 2 1 m) 6 4 1 0) 6 8 1 0) 6 9 1 0
def vR0 (R : St) : St := sI (sI (sI (fX11_taken 140 900 (sI R 11 0 140 0)) 11 15 140 0) 11 19 140 0) 11 20 140 0
theorem v_run {C R : St} {L : Nat} (hL : L ≤ 940) (h1 : gI C 6 1 1 = nI L) (h2 : gI R 11 2 140 = nI L) (hb : ∀ j, j < 940 → gA C 12 2 j = gA R 28 141 j ∧ bB (gA C 12 2 j)) (rs : RS R) : ∃ y C' R', fX8_readFrom 72 1 C = some (y, C') ∧ Fr XVV C C' ∧ Fr XOO R R' ∧ KN R R' ∧ gI R' 11 2 140 = 0 ∧ ((∃ n, fX11_valley 140 R = fX11_valley_h80 140 NN 0 R' ∧ gI R' 11 19 140 = y ∧ gI C' 6 8 1 = 0 ∧ gI R' 11 15 140 = 0 ∧ DV C' R' n) ∨ (fX11_valley 140 R = some (-1 - gI R' 11 16 140, R') ∧ FA C' R')) := by
  have xv : ∀ k, XVV k 72 := fun k => by unfold XVV XV XB; omega
  have fC : Fr XVV C (opC (vC0 C) 900) := by
    unfold opC vC0
    exact Fr_sI (Fr_sI (Fr_sI (Fr_sI (Fr_sI (Fr_sI (Fr_sI (Fr_sI (Fr_sI Fr_id (xv _)) (xv _)) (xv _)) (xv _)) (xv _)) (by unfold XVV; omega)) (by unfold XVV XV XF; omega)) (by unfold XVV XV XF; omega)) (by unfold XVV XV XF; omega)
  have fR0 : Fr XOO R (vR0 R) := by
    unfold vR0 fX11_taken fX11_taken_s8 fX11_taken_s13 fX11_taken_s18
    exact Fr_sI (Fr_sI (Fr_sI (Fr_sI (Fr_sI (Fr_sI (Fr_sI (Fr_sI Fr_id (by unfold XOO; omega)) (by unfold XOO; omega)) (by unfold XOO; omega)) (by unfold XOO XO XN XG; omega)) (by unfold XOO; omega)) (by unfold XOO XO XN XG; omega)) (by unfold XOO XO; omega)) (by unfold XOO XO XN; omega)
  obtain ⟨R1, r1, r2, r3⟩ := m_clears (vR0 R)
  have q3 : gI (vR0 R) 11 3 140 = nI L := by
    unfold vR0 fX11_taken fX11_taken_s8 fX11_taken_s13 fX11_taken_s18
    rw [gI_k (by decide), gI_k (by decide), gI_k (by decide), gI_k (by decide), gI_k (by decide), gI_k (by decide), gI_s, gI_k (by decide)]; exact h2
  have q2 : gI (vR0 R) 11 2 140 = 0 := by
    unfold vR0 fX11_taken fX11_taken_s8 fX11_taken_s13 fX11_taken_s18
    rw [gI_k (by decide), gI_k (by decide), gI_k (by decide), gI_k (by decide), gI_k (by decide), gI_s]
  have q4 : gI (vR0 R) 11 4 140 = nI 0 := by
    unfold vR0 fX11_taken fX11_taken_s8 fX11_taken_s13 fX11_taken_s18
    rw [gI_k (by decide), gI_k (by decide), gI_k (by decide), gI_k (by decide), gI_s]; rfl
  have q5 : gI (vR0 R) 11 5 140 = nI 900 := by
    unfold vR0 fX11_taken fX11_taken_s8 fX11_taken_s13 fX11_taken_s18
    rw [gI_k (by decide), gI_k (by decide), gI_k (by decide), gI_s]; rfl
  have q15 : gI (vR0 R) 11 15 140 = 0 := by
    unfold vR0; rw [gI_k (by decide), gI_k (by decide), gI_s]
  have q19 : gI (vR0 R) 11 19 140 = nI 0 := by
    unfold vR0; rw [gI_k (by decide), gI_s]; rfl
  have q20 : gI (vR0 R) 11 20 140 = 0 := by unfold vR0; exact gI_s
  have c4 : gI (opC (vC0 C) 900) 6 4 1 = nI 0 := by unfold opC; rw [gI_k (by decide), gI_k (by decide), gI_s]; rfl
  have c8 : gI (opC (vC0 C) 900) 6 8 1 = 0 := by unfold opC; rw [gI_k (by decide), gI_s]
  have cV : ∀ k, gI (opC (vC0 C) 900) 8 k 72 = gI (vC0 C) 8 k 72 := fun k => by
    unfold opC; rw [gI_c (by decide), gI_c (by decide), gI_c (by decide), gI_c (by decide)]
  have tb : TB (opC (vC0 C) 900) R1 L 900 := by
    refine ⟨hL, by omega, ?_, (r2.i (by omega)).trans q3, ?_, (r2.i (by omega)).trans q5, fun j hj => ?_⟩
    · exact (fC.i (by unfold XVV XV XF XB; omega)).trans h1
    · unfold opC; rw [gI_k (by decide), gI_k (by decide), gI_k (by decide), gI_s]; rfl
    · rw [show gA (opC (vC0 C) 900) 12 2 j = gA C 12 2 j from rfl, show gA R1 28 141 j = gA R 28 141 j from (r2.a (by omega)).trans (fR0.a (by unfold XOO XO XN XG; omega))]
      exact hb j hj
  have n0 : cl 5 0 = 0 := by decide
  have n1 : cl 5 1 = 0 := by decide
  have n2 : cl 5 2 = 365 := by decide
  have n3 : cl 5 3 = 1 := by decide
  have dv : DV (opC (vC0 C) 900) R1 (cl 5) := by
    refine ⟨?_, r3, ?_, fun p hp => by rw [n0] at hp; omega, fun p _ hp => ?_, fun f hf => by rw [n1] at hf; omega⟩
    · unfold Dv0; rw [n0, n1, n2, n3]; omega
    · unfold DvC
      rw [n0, n1, n2, n3, cV, cV, cV, cV, cV, show gI R1 11 20 140 = 0 from (r2.i (by omega)).trans q20]
      unfold vC0
      refine ⟨?_, ?_, ?_, ?_, gI_s, Or.inl gI_s⟩
      · rw [gI_k (by decide), gI_k (by decide), gI_k (by decide), gI_k (by decide), gI_s]; rfl
      · rw [gI_k (by decide), gI_k (by decide), gI_k (by decide), gI_s]; rfl
      · rw [gI_k (by decide), gI_k (by decide), gI_s]; rfl
      · rw [gI_k (by decide), gI_s]; rfl
    · unfold cl
      exact ⟨by rw [if_neg (by omega), if_neg (by omega), if_neg (by omega)], by rw [if_neg (by omega), if_neg (by omega), if_pos (by omega)]⟩
  obtain ⟨C2, R2, a1, a2, a3, a4, q', a5, a6, tk⟩ := adv tb c8 c4 ((r2.i (by omega)).trans q4) (by omega)
  have lv : LV C2 R2 L 900 q' := ⟨TB_fr tb a3 a4 (fun k a q => by unfold XT at q; omega) (fun k a q => by unfold XS at q; omega), (a3.i (by unfold XT; omega)).trans c8, (a4.i (by unfold XS; omega)).trans ((r2.i (by omega)).trans q15), tk⟩
  have dv2 : DV C2 R2 (cl 5) := DV_fr dv a3 a4 (fun k a q => by unfold XT at q; unfold XB; omega) (fun k a q => by unfold XS at q; omega)
  have fR1 : Fr XOO R R1 := Fr_tr fR0 (Fr_mo r2 (fun k a q => by unfold XOO XO XN; omega))
  have fR2 : Fr XOO R R2 := Fr_tr fR1 (Fr_mo a4 (fun k a q => by unfold XS at q; unfold XOO XO XN XG; omega))
  have rs2 : RS R2 := RS_fr fR2 (by unfold XOO XO XN XG; omega) rs
  have v := l_vall (L + 2) 0 NN NN q' (cl 5) C2 R2 (Or.inr (Or.inr (by omega))) (by unfold NN; omega) (by unfold NN; omega) (by omega) (a6.imp_right (Or.imp_right (fun _ => by omega))) lv rs2 dv2 ((a4.i (by unfold XS; omega)).trans ((r2.i (by omega)).trans q19))
  obtain ⟨y, C', R', v1, v2, v3, v4, v5⟩ := v
  have eC : fX8_readFrom 72 1 C = some (y, C') := by
    unfold fX8_readFrom fX8_readFrom_s5 fX8_readFrom_s10 fX8_readFrom_s17 fX8_readFrom_s22 fX8_readFrom_s27 fX6_open fX6_open_s5 fX6_open_s10 fX6_open_s15 fX6_open_s20
    rw [show fX6_advance 1 (sI (sI (sI (sI (sI (sI (sI (sI (sI C 8 2 72 0) 8 3 72 0) 8 4 72 365) 8 5 72 1) 8 6 72 0) 6 2 1 900) 6 4 1 0) 6 8 1 0) 6 9 1 0) = some C2 from a1, ob_some, ob_some]
    exact v1
  have eR : fX11_valley 140 R = fX11_valley_h35 140 NN R2 := by
    unfold fX11_valley fX11_valley_s5 fX11_valley_s12 fX11_valley_s17 fX11_valley_s22 fX11_valley_s27
    rw [show fX11_clears 140 (sI (sI (sI (fX11_taken 140 900 (sI R 11 0 140 0)) 11 15 140 0) 11 19 140 0) 11 20 140 0) = some R1 from r1, ob_some, a2, ob_some]
  have fR' : Fr XOO R R' := Fr_tr fR2 (Fr_mo v3 (fun k a q => Or.inl q))
  have k2 : gI R' 11 2 140 = 0 := (v3.i (by unfold XO XN XG; omega)).trans ((a4.i (by unfold XS; omega)).trans ((r2.i (by omega)).trans q2))
  have kn2 : KN R R2 := fun j hj => (a4.b (by unfold XS; omega)).trans (r2.b (by omega))
  refine ⟨y, C', R', eC, Fr_tr fC (Fr_tr (Fr_mo a3 (fun k a q => by unfold XT at q; unfold XVV XV XF; omega)) (Fr_mo v2 (fun k a q => Or.inl q))), fR', KN_tr kn2 v4, k2, ?_⟩
  rw [eR]
  exact v5
