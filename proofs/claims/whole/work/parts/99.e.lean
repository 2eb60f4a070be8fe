-- SENTENCE: the whole reading
def SNN (k a : Nat) : Prop := SzN k a ∨ (a = 1 ∧ k = 2)
def SMM (k a : Nat) : Prop := SzM k a ∨ (a = 140 ∧ (k = 0 ∨ k = 2 ∨ k = 3 ∨ k = 5))
def zR0 (R : St) : St := sI (sI (sI (sI (sI (sI (fX11_taken 140 200 R) 11 15 140 0) 11 37 140 0) 11 38 140 0) 11 39 140 0) 11 40 140 1) 11 41 140 0
set_option maxHeartbeats 1000000 in
theorem z_run {C R : St} {L n0 n1 : Nat} (hL : L ≤ 940) (h1 : gI C 6 1 1 = nI L) (h2 : gI R 11 2 140 = nI L) (hb : ∀ j, j < 940 → gA C 12 2 j = gA R 28 141 j ∧ bB (gA C 12 2 j)) (fx : FXz C R n0 n1) : ∃ C' R', fX5_readFrom 86 1 4 C = some C' ∧ Fr SNN C C' ∧ Fr SMM R R' ∧ gI R' 11 2 140 = 0 ∧ ((∃ k o, fX11_sentence_s5 140 R = fX11_sentence_s143 140 (sA R' 29 142 69 (nI k)) ∧ gI C' 6 8 1 = 0 ∧ gI R' 11 15 140 = 0 ∧ CDz C' R' n0 n1 k o 1) ∨ (fX11_sentence_s5 140 R = some (-1 - gI R' 11 16 140, R') ∧ FA C' R')) := by
  have nb : vp_nar .boolean (0 : Int32) = 0 := by decide
  have fC : Fr SNN C (opC (fX5_forget 86 C) 200) := by
    unfold opC fX5_forget fX5_forget_s5
    exact Fr_sI (Fr_sI (Fr_sI (Fr_sI (Fr_sI (Fr_sI Fr_id (by unfold SNN SzN; omega)) (by unfold SNN SzN; omega)) (by unfold SNN; omega)) (by unfold SNN SzN XF; omega)) (by unfold SNN SzN XF; omega)) (by unfold SNN SzN XF; omega)
  have fR0 : Fr SMM R (zR0 R) := by
    unfold zR0 fX11_taken fX11_taken_s8 fX11_taken_s13 fX11_taken_s18
    exact Fr_sI (Fr_sI (Fr_sI (Fr_sI (Fr_sI (Fr_sI (Fr_sI (Fr_sI (Fr_sI (Fr_sI Fr_id (by unfold SMM; omega)) (by unfold SMM; omega)) (by unfold SMM SzM XG; omega)) (by unfold SMM; omega)) (by unfold SMM SzM XG; omega)) (by unfold SMM SzM; omega)) (by unfold SMM SzM; omega)) (by unfold SMM SzM; omega)) (by unfold SMM SzM; omega)) (by unfold SMM SzM; omega)
  have q3 : gI (zR0 R) 11 3 140 = nI L := by
    unfold zR0 fX11_taken fX11_taken_s8 fX11_taken_s13 fX11_taken_s18
    rw [gI_k (by decide), gI_k (by decide), gI_k (by decide), gI_k (by decide), gI_k (by decide), gI_k (by decide), gI_k (by decide), gI_k (by decide), gI_k (by decide), gI_s]; exact h2
  have q2 : gI (zR0 R) 11 2 140 = 0 := by
    unfold zR0 fX11_taken fX11_taken_s8 fX11_taken_s13 fX11_taken_s18
    rw [gI_k (by decide), gI_k (by decide), gI_k (by decide), gI_k (by decide), gI_k (by decide), gI_k (by decide), gI_k (by decide), gI_k (by decide), gI_s]
  have q4 : gI (zR0 R) 11 4 140 = nI 0 := by
    unfold zR0 fX11_taken fX11_taken_s8 fX11_taken_s13 fX11_taken_s18
    rw [gI_k (by decide), gI_k (by decide), gI_k (by decide), gI_k (by decide), gI_k (by decide), gI_k (by decide), gI_k (by decide), gI_s]; rfl
  have q5 : gI (zR0 R) 11 5 140 = nI 200 := by
    unfold zR0 fX11_taken fX11_taken_s8 fX11_taken_s13 fX11_taken_s18
    rw [gI_k (by decide), gI_k (by decide), gI_k (by decide), gI_k (by decide), gI_k (by decide), gI_k (by decide), gI_s]; rfl
  have q15 : gI (zR0 R) 11 15 140 = 0 := by
    unfold zR0; rw [gI_k (by decide), gI_k (by decide), gI_k (by decide), gI_k (by decide), gI_k (by decide), gI_s]
  have q37 : gI (zR0 R) 11 37 140 = nI 0 := by unfold zR0; rw [gI_k (by decide), gI_k (by decide), gI_k (by decide), gI_k (by decide), gI_s]; rfl
  have q38 : gI (zR0 R) 11 38 140 = nI 0 := by unfold zR0; rw [gI_k (by decide), gI_k (by decide), gI_k (by decide), gI_s]; rfl
  have q39 : gI (zR0 R) 11 39 140 = nI 0 := by unfold zR0; rw [gI_k (by decide), gI_k (by decide), gI_s]; rfl
  have q40 : gI (zR0 R) 11 40 140 = nI 1 := by unfold zR0; rw [gI_k (by decide), gI_s]; rfl
  have q41 : gI (zR0 R) 11 41 140 = 0 := by unfold zR0; exact gI_s
  have c4 : gI (opC (fX5_forget 86 C) 200) 6 4 1 = nI 0 := by unfold opC; rw [gI_k (by decide), gI_k (by decide), gI_s]; rfl
  have c8 : gI (opC (fX5_forget 86 C) 200) 6 8 1 = 0 := by unfold opC; rw [gI_k (by decide), gI_s]
  have c53 : gI (opC (fX5_forget 86 C) 200) 5 3 86 = nI 0 := by
    unfold opC fX5_forget fX5_forget_s5; rw [gI_c (by decide), gI_c (by decide), gI_c (by decide), gI_c (by decide), gI_k (by decide), gI_s]; rfl
  have c54 : gI (opC (fX5_forget 86 C) 200) 5 4 86 = nI 0 := by
    unfold opC fX5_forget fX5_forget_s5; rw [gI_c (by decide), gI_c (by decide), gI_c (by decide), gI_c (by decide), gI_s]; rfl
  have tb : TB (opC (fX5_forget 86 C) 200) (zR0 R) L 200 := by
    refine ⟨hL, by omega, (fC.i (by unfold SNN SzN XF; omega)).trans h1, q3, ?_, q5, fun j hj => ?_⟩
    · unfold opC; rw [gI_k (by decide), gI_k (by decide), gI_k (by decide), gI_s]; rfl
    · rw [show gA (opC (fX5_forget 86 C) 200) 12 2 j = gA C 12 2 j from rfl, show gA (zR0 R) 28 141 j = gA R 28 141 j from rfl]
      exact hb j hj
  obtain ⟨C2, R2, a1, a2, a3, a4, q', a5, a6, tk⟩ := adv tb c8 c4 q4 (by omega)
  have lv : LV C2 R2 L 200 q' := ⟨TB_fr tb a3 a4 (fun k a q => by unfold XT at q; omega) (fun k a q => by unfold XS at q; omega), (a3.i (by unfold XT; omega)).trans c8, (a4.i (by unfold XS; omega)).trans q15, tk⟩
  have fC2 : Fr SNN C C2 := Fr_tr fC (Fr_mo a3 (fun k a q => by unfold XT at q; unfold SNN SzN XF; omega))
  have fR2 : Fr SMM R R2 := Fr_tr fR0 (Fr_mo a4 (fun k a q => by unfold XS at q; unfold SMM SzM XG; omega))
  have fx2 : FXz C2 R2 n0 n1 := by
    obtain ⟨h1, ⟨p1, p2, p3⟩, ⟨f1, f2, f3⟩, h4, h5⟩ := fx
    refine ⟨RS_fr fR2 (by unfold SMM SzM XG; omega) h1, ⟨(fC2.i (by unfold SNN SzN XF; omega)).trans p1, p2, fun p hp => ?_⟩, ⟨(fC2.i (by unfold SNN SzN XF; omega)).trans f1, f2, fun p hp => ?_⟩, (fR2.a (by unfold SMM SzM XG; omega)).trans h4, (fR2.a (by unfold SMM SzM XG; omega)).trans h5⟩
    · rw [show gJ C2 4 0 (4 + 3 + p) = gJ C 4 0 (4 + 3 + p) from fC2.j (by unfold SNN SzN XF; omega), show gB R2 32 145 (0 + p) = gB R 32 145 (0 + p) from fR2.b (by unfold SMM SzM XG; omega)]; exact p3 p hp
    · rw [show gJ C2 3 0 (4 + 8 + p) = gJ C 3 0 (4 + 8 + p) from fC2.j (by unfold SNN SzN XF; omega), show gB R2 32 145 (5 + p) = gB R 32 145 (5 + p) from fR2.b (by unfold SMM SzM XG; omega)]; exact f3 p hp
  have rI : ∀ k, 37 ≤ k → gI R2 11 k 140 = gI (zR0 R) 11 k 140 := fun k hk => a4.i (by unfold XS; omega)
  have cd : CDz C2 R2 n0 n1 0 0 0 := ⟨⟨(a3.i (by unfold XT; omega)).trans c53, (a3.i (by unfold XT; omega)).trans c54, (rI 37 (by omega)).trans q37, (rI 38 (by omega)).trans q38⟩, fun i hi => by omega, fun i hi => ⟨0, by rw [show i = 0 by omega]; rfl, by omega⟩, rfl, by omega, by omega, by omega⟩
  have r2 : ∀ Z, Fr SzM R2 Z → gI Z 11 2 140 = 0 := fun Z f => (f.i (by unfold SzM XG; omega)).trans ((a4.i (by unfold XS; omega)).trans q2)
  obtain ⟨C3, b1, b2, b3⟩ := z_cond (z_all (z_ones L n0 n1 8)) 1 0 0 0 0 q' C2 R2 (by omega) (by omega) ⟨lv, cd, (rI 39 (by omega)).trans q39, (rI 40 (by omega)).trans q40⟩ fx2 ((rI 41 (by omega)).trans q41) (by omega) (Or.inl rfl)
  have eC : fX5_readFrom 86 1 4 C = if fX6_goesOn 1 C3 = 0 then some C3 else some (fX6_fail 1 1 C3) := by
    unfold fX5_readFrom fX5_readFrom_s4 fX6_open fX6_open_s5 fX6_open_s10 fX6_open_s15 fX6_open_s20
    rw [show fX6_advance 1 (sI (sI (sI (sI (fX5_forget 86 C) 6 2 1 200) 6 4 1 0) 6 8 1 0) 6 9 1 0) = some C2 from a1, ob_some, ob_some]
    unfold fX5_readCond
    rw [show fRX5_readCond (fRX5_readAll (rdOne 9)) 86 1 4 1 C2 = some C3 from b1, ob_some]
  have eR : fX11_sentence_s5 140 R = fX11_sentence_h48 140 NN 1 R2 := by
    unfold fX11_sentence_s5 fX11_sentence_s12 fX11_sentence_s17 fX11_sentence_s22 fX11_sentence_s27 fX11_sentence_s32 fX11_sentence_s37 fX11_sentence_s42
    rw [show fX11_step 140 (sI (sI (sI (sI (sI (sI (fX11_taken 140 200 R) 11 15 140 0) 11 37 140 0) 11 38 140 0) 11 39 140 0) 11 40 140 1) 11 41 140 0) = some R2 from a2, ob_some]
  have fC3 : Fr SNN C C3 := Fr_tr fC2 (Fr_mo b2 (fun k a q => Or.inl q))
  have toM : ∀ Z, Fr SzM R2 Z → Fr SMM R Z := fun Z f => Fr_tr fR2 (Fr_mo f (fun k a q => Or.inl q))
  rw [eC, eR]
  rcases b3 with ⟨m, r3, k3, o3, q3', ps3, R6, e1, e2, e3, e4, ⟨e5a, e5b, e5c, e5d⟩, e6, e7, e8, pd3⟩ | ⟨m, k3, R6, e1, e2, e3, fa, e5, e6⟩
  · obtain ⟨ck3, hb3, hd3, ho3, lv3⟩ := MMz_cd pd3
    obtain ⟨v, hv⟩ : ∃ v, NN = v + 2 + m := ⟨NN - 2 - m, by unfold NN; omega⟩
    rw [hv, e1]
    have n41 : ¬ gI R6 11 41 140 = 0 := by rw [e8]; exact i10
    obtain ⟨R7, R8, g1, g2, g3, g4, -, lv7, ⟨lv8, cd8, m1, m2⟩, m3⟩ := z_pop (x1 := 22) (by omega) (by omega) e5a (fun x hx => (e5b x hx).imp_right (fun h => ⟨h, rfl⟩)) (Or.inl rfl) pd3
    have f68 : Fr SzM R6 R8 := SzV_M (Fr_tr g2 g4)
    have m1' : gI R8 11 39 140 = 0 := m1
    by_cases z : gI C3 6 5 1 = 0
    · have go : fX6_goesOn 1 C3 = 0 := by unfold fX6_goesOn; rw [if_pos lv3.2.1, if_pos z]
      rw [go, if_pos rfl]
      refine ⟨C3, R8, rfl, fC3, toM _ (Fr_tr e7 f68), r2 _ (Fr_tr e7 f68), Or.inl ⟨k3, o3, ?_, lv8.2.1, lv8.2.2.1, cd8⟩⟩
      rw [show v + 2 = v + 1 + 1 from rfl, fX11_sentence_h48]; unfold fX11_sentence_s48
      rw [if_neg i10, if_neg n41, if_pos ((t_zero lv3).mp z), g1, ob_some, g3, ob_some, m1', if_pos (show (0 : Int32) ≤ 0 by decide), fX11_sentence_h48]; unfold fX11_sentence_s48
      rw [if_pos rfl, cd8.1.2.2.1]
    · have go : fX6_goesOn 1 C3 = 1 := by unfold fX6_goesOn; rw [if_pos lv3.2.1, if_neg z]
      rw [go, if_neg i10]
      obtain ⟨f1, f2, f3, f4⟩ := t_fail lv8 (show ¬ (1 : Int32) = 0 by decide)
      have f6 : Fr SzM R2 (fX11_bad 140 1 R8).2 := Fr_tr (Fr_tr e7 f68) (Fr_mo f4 (fun k a q => Or.inl q))
      refine ⟨_, (fX11_bad 140 1 R8).2, rfl, Fr_tr fC3 (Fr_mo f3 (fun k a q => Or.inl (Or.inl q))), toM _ f6, r2 _ f6, Or.inr ⟨?_, f1⟩⟩
      have eb : fX11_behind 140 R6 = some (0, (fX11_bad 140 1 R8).2) := by
        unfold fX11_behind
        rw [g1, ob_some, nw_of lv7 e5c, if_pos rfl, nw_of lv7 e5d, if_pos rfl, g3, ob_some, m1', if_pos rfl]
        unfold fX11_behind_s114 fX11_behind_s119
        rw [f2, nb, ite_self]
      rw [show v + 2 = v + 1 + 1 from rfl, z_turn1 e8 (t_nz lv3 z) eb, if_pos rfl]
  · obtain ⟨v, hv⟩ : ∃ v, NN = v + m := ⟨NN - m, by unfold NN; omega⟩
    rw [goF fa.1, if_pos rfl, hv, e2]
    exact ⟨C3, R6, rfl, fC3, toM _ e3, r2 _ e3, Or.inr ⟨rfl, fa⟩⟩
theorem l_zc {R : St} {k : Nat} (hk : k ≤ 40) (h37 : gI R 11 37 140 = nI k) : ∀ (m i u : Nat) (T : St), i + m = 3 * k → m < u → Fr (fun _ a => a = 142) R T → (∀ j, j < i → gA T 29 142 (70 + j) = gA R 31 144 j) → (∀ j, j < 70 → gA T 29 142 j = gA R 29 142 j) → ∃ U, fX11_sentence_h145 140 u (nI i) T = some (gI R 11 38 140, U) ∧ Fr (fun _ a => a = 142) R U ∧ (∀ j, j < 3 * k → gA U 29 142 (70 + j) = gA R 31 144 j) ∧ (∀ j, j < 70 → gA U 29 142 j = gA R 29 142 j) := by
  intro m
  induction m with
  | zero =>
    intro i u T hi hu f h g
    obtain ⟨u, rfl⟩ : ∃ k', u = k' + 1 := ⟨u - 1, by omega⟩
    rw [fX11_sentence_h145]; unfold fX11_sentence_s145
    rw [show gI T 11 37 140 = nI k from (f.i (by omega)).trans h37, show (3 : Int32) * nI k = nI (3 * k) from pk_mul 3 k, if_pos (show nI (3 * k) ≤ nI i from nI_le (by omega) (by omega)), show gI T 11 38 140 = gI R 11 38 140 from f.i (by omega)]
    exact ⟨T, rfl, f, fun j hj => h j (by omega), g⟩
  | succ m ih =>
    intro i u T hi hu f h g
    obtain ⟨u, rfl⟩ : ∃ k', u = k' + 1 := ⟨u - 1, by omega⟩
    rw [fX11_sentence_h145]; unfold fX11_sentence_s145 fX11_sentence_s170
    rw [show gI T 11 37 140 = nI k from (f.i (by omega)).trans h37, show (3 : Int32) * nI k = nI (3 * k) from pk_mul 3 k, if_neg (show ¬ nI (3 * k) ≤ nI i from nI_ge (by omega) (by omega)), igd (show i < 135 by omega) (by decide), show (70 : Int32) + nI i = nI (70 + i) from nI_add 70 i, igd (show 70 + i < 250 by omega) (by decide), nI_clamp (show i < 2 ^ 31 by omega), nI_clamp (show 70 + i < 2 ^ 31 by omega), nI_1, show (140 : Nat) + 2 = 142 from rfl, show gA T 31 (140 + 4) i = gA R 31 144 i from f.a (by omega)]
    refine ih (i + 1) u _ (by omega) (by omega) (Fr_sA f rfl) (fun j hj => ?_) (fun j hj => (gA_j (by omega)).trans (g j hj))
    by_cases e : j = i
    · subst e; exact gA_s
    · exact (gA_j (by omega)).trans (h j (by omega))
def XSn (k a : Nat) : Prop := (a = 0 ∧ k = 14) ∨ a = 1 ∨ (22 ≤ a ∧ a ≤ 25) ∨ (86 ≤ a ∧ a ≤ 89) ∨ (a = 140 ∧ (k ≤ 18 ∨ (37 ≤ k ∧ k ≤ 41))) ∨ a = 142 ∨ a = 144 ∨ a = 151
set_option maxHeartbeats 1000000 in
theorem p_sentence : pr_sentence Inv := by
  intro S g
  obtain ⟨n, w, u, tp, ft, al, ti, tl, im, rs⟩ := id g
  have hn := w.wf.1.1
  have hn1 := w.wf.1.2.1
  obtain ⟨L, hL, t1, t2, t3⟩ := tp
  have run := fun (R : St) (fR : Fr (fun kk a => a < 140 ∨ (a = 140 ∧ kk = 0)) S R) => z_run (C := S) (R := R) (n0 := n 0) (n1 := n 1) hL t1 ((fR.i (by omega)).trans t2) (fun j hj => by rw [show gA R 28 141 j = gA S 28 141 j from fR.a (by omega)]; exact t3 j hj) ⟨RS_fr fR (by omega) rs, ⟨w.cw.1.1, hn, fun p hp => by rw [show gB R 32 145 (0 + p) = gB S 32 145 p from (fR.b (by omega)).trans (by rw [Nat.zero_add])]; exact (w.2.2.2.2.1.1 p hp).1⟩, ⟨w.cw.1.2.1, hn1, fun f hf => by rw [show gB R 32 145 (5 + f) = gB S 32 145 (5 + f) from fR.b (by omega)]; exact w.2.2.2.2.1.2 f hf⟩, (fR.a (by omega)).trans (w.mr 0 (by omega)), (fR.a (by omega)).trans (w.mr 1 (by omega))⟩
  have rest : ∀ U m, Fr XSn S U → m 0 = n 0 → WI U m → gI U 6 1 1 = 0 → gI U 11 2 140 = 0 → FLT U → Inv U := fun U m fu m0 w' p1 p2 l' => ⟨m, w', by rw [m0]; exact UN_fr fu hn (fun k a q x => by unfold fU at q; unfold XSn at x; omega) u, ⟨0, by omega, p1, p2, fun j hj => by rw [show gA U 12 2 j = gA S 12 2 j from fu.a (by unfold XSn; omega), show gA U 28 141 j = gA S 28 141 j from fu.a (by unfold XSn; omega)]; exact t3 j hj⟩, l', AL_fr fu (fun k a q x => by unfold fAl at q; unfold XSn at x; omega) al, TI_fr fu (fun k a q x => by unfold fTi at q; unfold XSn at x; omega) ti, TL_fr fu (fun k a q x => by unfold fTl at q; unfold XSn at x; omega) tl, IM_fr fu (fun k a q x => by unfold fIm at q; unfold XSn at x; omega) im, RS_fr fu (by unfold XSn; omega) rs⟩
  have ent : ∀ T, fX11_sentence 140 T = fX11_sentence_s5 140 (sI T 11 0 140 0) := fun T => rfl
  obtain ⟨C1, R0, e1, f1, -, -, o⟩ := run S Fr_id
  unfold fX10_sentence
  rw [show fX5_readFrom (0 + 86) (0 + 1) (0 + 3 + 1) S = some C1 from e1, ob_some]
  unfold fX10_sentence_s22 fX10_closeText fX10_closeText_s11
  rw [show (0 : Nat) + 1 = 1 from rfl]
  have fA : Fr (fun k a => (a = 0 ∧ k = 14) ∨ (a = 1 ∧ k = 1)) C1 (sI (sI C1 10 14 0 (gI C1 6 8 1)) 6 1 1 0) := Fr_sI (Fr_sI Fr_id (by omega)) (by omega)
  have a14 : gI (sI (sI C1 10 14 0 (gI C1 6 8 1)) 6 1 1 0) 10 14 0 = gI C1 6 8 1 := (gI_c (by decide)).trans gI_s
  have a61 : gI (sI (sI C1 10 14 0 (gI C1 6 8 1)) 6 1 1 0) 6 1 1 = 0 := gI_s
  have a69 : gI (sI (sI C1 10 14 0 (gI C1 6 8 1)) 6 1 1 0) 6 9 1 = gI C1 6 9 1 := (gI_k (by decide)).trans (gI_c (by decide))
  rw [a14]
  generalize sI (sI C1 10 14 0 (gI C1 6 8 1)) 6 1 1 0 = A at *
  rcases o with ⟨k0, o0, -, z, -, cd0⟩ | ⟨-, fa⟩
  · rw [if_pos z]
    obtain ⟨B, b1, b2, b3, b4, b5⟩ := l_sc (S := A) (d := 22) (s := 86) (by omega) 40 0 NN A (by omega) (by unfold NN; omega) Fr_id (fun p hp => by omega)
    rw [show fX5_copyFrom (0 + 3 + 19) (0 + 86) A = some B from b1, ob_some]
    have fSB : Fr (fun kk a => SNN kk a ∨ (a = 0 ∧ kk = 14) ∨ (a = 1 ∧ kk = 1) ∨ (22 ≤ a ∧ a ≤ 25) ∨ (a = 140 ∧ kk = 0)) S (sI B 11 0 140 0) := Fr_sI (Fr_tr (Fr_mo f1 (fun k a q => Or.inl q)) (Fr_tr (Fr_mo fA (fun k a q => by omega)) (Fr_mo b2 (fun k a q => by unfold XD at q; omega)))) (by omega)
    obtain ⟨C2, R2, e2, -, f3, f4, o2⟩ := run (sI B 11 0 140 0) (Fr_mo fSB (fun kk a q => by unfold SNN SzN XF at q; omega))
    rw [e1] at e2
    injection e2 with e2
    subst e2
    rcases o2 with ⟨k, o, p1, -, p15, cd⟩ | ⟨-, fb⟩
    case inr => exact absurd z fb.1
    obtain ⟨⟨c1, c2, c3, c4⟩, c5, c6, c7, c8, c9, c10⟩ := cd
    have hk : k ≤ 40 := by omega
    have k1 : 0 < k := by
      rcases Nat.eq_zero_or_pos k with h | h
      · rw [h] at c7; cases c7
      · exact h
    obtain ⟨U, u1, u2, u3, u4⟩ := l_zc (R := sA R2 29 142 69 (nI k)) hk c3 (3 * k) 0 NN (sA R2 29 142 69 (nI k)) (by omega) (by unfold NN; omega) Fr_id (fun j hj => by omega) (fun _ _ => rfl)
    have u38 : gI (sA R2 29 142 69 (nI k)) 11 38 140 = nI o := c4
    have B54 : gI B 5 4 22 = nI o := b4.trans ((fA.i (by omega)).trans c2)
    refine ⟨nI o, B, U, by rw [show gI B 5 4 (0 + 3 + 19) = nI o from B54], ?_, ?_⟩
    · rw [ent, p1]; unfold fX11_sentence_s143
      rw [show fX11_sentence_h145 140 NN 0 (sA R2 29 142 69 (nI k)) = _ from u1, u38]
    · have fRU : Fr (fun _ a => a = 142) R2 U := Fr_tr (Fr_sA Fr_id rfl) u2
      have fBU : Fr (fun kk a => SMM kk a ∨ a = 142) (sI B 11 0 140 0) U := Fr_tr (Fr_mo f3 (fun k a q => Or.inl q)) (Fr_mo fRU (fun k a q => Or.inr q))
      have fX : Fr XSn S U := Fr_tr (Fr_mo fSB (fun k a q => by unfold SNN SzN XF at q; unfold XSn; omega)) (Fr_mo fBU (fun k a q => by unfold SMM SzM XG at q; unfold XSn; omega))
      have cI : ∀ c kk a, a < 140 → gI U c kk a = gI B c kk a := fun c kk a h => (fBU.i (by unfold SMM SzM XG; omega)).trans (fr_th.i (by omega))
      have cA : ∀ c a j, a < 140 → gA U c a j = gA B c a j := fun c a j h => (fBU.a (by unfold SMM SzM XG; omega)).trans (fr_th.a (by omega))
      have lo : ∀ j, j < 69 → gA U 29 142 j = gA S 29 142 j := fun j hj => (u4 j (by omega)).trans ((gA_j (by omega)).trans ((f3.a (by unfold SMM SzM XG; omega)).trans (fSB.a (by unfold SNN SzN XF; omega))))
      have r69 : gA U 29 142 69 = nI k := (u4 69 (by omega)).trans gA_s
      have rj : ∀ j, j < 3 * k → gA U 29 142 (70 + j) = gA R2 31 144 j := fun j hj => (u3 j hj).trans (gA_c (by decide))
      refine rest U n fX rfl ?_ ((cI _ _ _ (by omega)).trans ((b2.i (by unfold XD; omega)).trans a61)) ((fRU.i (by omega)).trans f4) ?_
      · obtain ⟨g1, g2, g3, g4, g5, g6, g7⟩ := w
        have hx : ∀ k a, 4 ≤ a → a ≤ 21 → ¬ XSn k a := fun k a _ _ q => by unfold XSn at q; omega
        refine ⟨g1, fun j hj => (lo j (by omega)).trans (g2 j hj), CWw_fr ⟨hn, hn1⟩ fX (fun k a x y => hx k a (by omega) (by omega)) g3, fun p hp => ?_, NMw_fr ⟨hn, hn1⟩ fX (fun k a x y => hx k a (by omega) (by omega)) (fun j _ => fX.b (by unfold XSn; omega)) g5, ?_, g7.1, by rw [fX.i (hx _ _ (by omega) (by omega))]; exact g7.2⟩
        · rw [show gA U 16 (3 + 17) p = gA S 16 (3 + 17) p from fX.a (hx _ _ (by omega) (by omega)), show gA U 17 (3 + 18) p = gA S 17 (3 + 18) p from fX.a (hx _ _ (by omega) (by omega)), lo (59 + p) (by omega), lo (64 + p) (by omega)]; exact g4 p hp
        · have e18 : ∀ i, i < 40 → gA U 18 23 i = gA C1 18 87 i ∧ gA U 19 24 i = gA C1 19 88 i ∧ gA U 20 25 i = gA C1 20 89 i := fun i hi => by
            obtain ⟨x1, x2, x3⟩ := b5 i hi
            exact ⟨(cA _ _ _ (by omega)).trans (x1.trans (fA.a (by omega))), (cA _ _ _ (by omega)).trans (x2.trans (fA.a (by omega))), (cA _ _ _ (by omega)).trans (x3.trans (fA.a (by omega)))⟩
          have dd : ∀ i, i ≤ k → dptS (gA U 18 (3 + 19 + 1)) i = dptS (gA C1 18 87) i := fun i hi => dptS_eq i (fun j hj => (e18 j (by omega)).1)
          refine ⟨k, hk, (cI _ _ _ (by omega)).trans (b3.trans ((fA.i (by omega)).trans c1)), r69, ?_, fun i hi => ?_, fun i hi => by rw [dd i hi]; exact c6 i hi, fun _ => by rw [dd k (Nat.le_refl _)]; exact c7⟩
          · rw [show gI U 5 4 (3 + 19) = nI o from (cI _ _ _ (by omega)).trans B54]
            exact ⟨fun h => by have := (nI_eq (a := o) (b := 0) (by omega) (by omega)).mp h; omega, fun h => by omega⟩
          · obtain ⟨x1, x2, x3⟩ := e18 i (by omega)
            rw [show gA U 18 (3 + 19 + 1) i = _ from x1, show gA U 19 (3 + 19 + 2) i = _ from x2, show gA U 20 (3 + 19 + 3) i = _ from x3, rj (3 * i) (by omega), show 71 + 3 * i = 70 + (3 * i + 1) by omega, rj (3 * i + 1) (by omega), show 72 + 3 * i = 70 + (3 * i + 2) by omega, rj (3 * i + 2) (by omega)]
            exact c5 i hi
      · unfold FLT
        rw [cI 10 14 0 (by omega), show gI B 10 14 0 = 0 from (b2.i (by unfold XD; omega)).trans (a14.trans z), show gI U 11 15 140 = 0 from (fRU.i (by omega)).trans p15]
  · rw [if_neg fa.1]
    have fS : Fr (fun kk a => SNN kk a ∨ (a = 0 ∧ kk = 14) ∨ (a = 1 ∧ kk = 1) ∨ (a = 140 ∧ kk = 0)) S (sI A 11 0 140 0) := Fr_sI (Fr_tr (Fr_mo f1 (fun k a q => Or.inl q)) (Fr_mo fA (fun k a q => by omega))) (by omega)
    obtain ⟨C2, R2, e2, -, f3, f4, o2⟩ := run (sI A 11 0 140 0) (Fr_mo fS (fun kk a q => by unfold SNN SzN XF at q; omega))
    rw [e1] at e2
    injection e2 with e2
    subst e2
    rcases o2 with ⟨k, o, p1, z, -⟩ | ⟨p1, fb⟩
    · exact absurd z fa.1
    · have fX : Fr (fun kk a => (SNN kk a ∨ (a = 0 ∧ kk = 14) ∨ (a = 1 ∧ kk = 1) ∨ (a = 140 ∧ kk = 0)) ∨ SMM kk a) S R2 := Fr_tr (Fr_mo fS (fun k a q => Or.inl q)) (Fr_mo f3 (fun k a q => Or.inr q))
      refine ⟨_, A, R2, rfl, by rw [ent, p1, ← fb.2.2, a69], ?_⟩
      refine rest R2 n (Fr_mo fX (fun k a q => by unfold SNN SzN XF SMM SzM XG at q; unfold XSn; omega)) rfl (WI_fr fX (fun k a q x => by unfold fW at q; unfold SNN SzN XF SMM SzM XG at x; omega) w) ?_ f4 ?_
      · exact (f3.i (by unfold SMM SzM XG; omega)).trans ((gI_c (by decide)).trans a61)
      · unfold FLT
        rw [show gI R2 10 14 0 = gI C1 6 8 1 from (f3.i (by unfold SMM SzM XG; omega)).trans ((gI_c (by decide)).trans a14)]
        exact fb.2.1
