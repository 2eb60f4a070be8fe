def XK (k a : Nat) : Prop := (a = 0 ∧ (k = 11 ∨ k = 14)) ∨ a = 1 ∨ (18 ≤ a ∧ a ≤ 21) ∨ (a = 90 ∧ 2 ≤ k) ∨ a = 91 ∨ a = 92 ∨ (97 ≤ a ∧ a ≤ 104) ∨ (105 ≤ a ∧ a ≤ 137) ∨ (a = 140 ∧ (k ≤ 18 ∨ k = 23 ∨ k = 32 ∨ k = 33 ∨ k = 35)) ∨ a = 142 ∨ a = 144 ∨ a = 147 ∨ a = 148 ∨ a = 150
set_option maxHeartbeats 1000000 in
theorem p_book : pr_book Inv := by
  intro S g x1
  obtain ⟨n, w, u, tp, ft, al, ti, tl, im, rs⟩ := id g
  have hn := w.wf.1.1
  obtain ⟨L, hL, t1, t2, t3⟩ := tp
  unfold fX10_book
  by_cases a1 : x1 < 0
  · refine ⟨-1000, S, sI S 11 0 140 0, if_pos a1, ?_, Inv_th g⟩
    unfold fX11_book fX11_book_s5
    rw [isIn_no (Or.inl a1), if_pos rfl]
  by_cases a2 : x1 ≤ 1
  case neg =>
    refine ⟨-1000, S, sI S 11 0 140 0, (if_neg a1).trans (if_neg a2), ?_, Inv_th g⟩
    unfold fX11_book fX11_book_s5
    rw [isIn_no (Or.inr (Int32.not_le.mp a2)), if_pos rfl]
  obtain ⟨k, hk, rfl⟩ := nI_of2 (x := x1) (M := 1) (n := 1) (by decide) a1 a2
  rw [if_neg a1, if_pos a2]
  obtain ⟨e, d, hed, hke⟩ : ∃ e d : Nat, ((e = 101 ∧ d = 101) ∨ (e = 97 ∧ d = 18)) ∧ ((k = 0 ∧ e = 101) ∨ (k = 1 ∧ e = 97)) := by
    rcases (show k = 0 ∨ k = 1 by omega) with h | h
    · exact ⟨101, 101, Or.inl ⟨rfl, rfl⟩, Or.inl ⟨h, rfl⟩⟩
    · exact ⟨97, 18, Or.inr ⟨rfl, rfl⟩, Or.inr ⟨h, rfl⟩⟩
  have all := fun (R : St) (fR : Fr (fun kk a => a < 140 ∨ (a = 140 ∧ kk = 0)) S R) => b_all (S := S) (R := R) (x1 := nI k) hed hn hL t1 ((fR.i (by omega)).trans t2) (fun j hj => by rw [show gA R 28 141 j = gA S 28 141 j from fR.a (by omega)]; exact t3 j hj) (RS_fr fR (by omega) rs) (⟨w.cw.1.1, hn, fun p hp => by rw [show gB R 32 145 (0 + p) = gB S 32 145 p from (fR.b (by omega)).trans (by rw [Nat.zero_add])]; exact (w.2.2.2.2.1.1 p hp).1⟩ : PN S R 4 0 (n 0)) (ds_C w) (DM_fr fR (by omega) (ds_M w)) (ds_W w)
  have rest : ∀ U, Fr XK S U → (∃ m, m 0 = n 0 ∧ WI U m) → UN U (n 0) → gI U 6 1 1 = 0 → gI U 11 2 140 = 0 → FLT U → TL U → Inv U := fun U fU ⟨m, m0, w'⟩ u' p1 p2 l' tl' => ⟨m, w', by rw [m0]; exact u', ⟨0, by omega, p1, p2, fun j hj => by rw [show gA U 12 2 j = gA S 12 2 j from fU.a (by unfold XK; omega), show gA U 28 141 j = gA S 28 141 j from fU.a (by unfold XK; omega)]; exact t3 j hj⟩, l', AL_fr fU (fun k a q x => by unfold fAl at q; unfold XK at x; omega) al, TI_fr fU (fun k a q x => by unfold fTi at q; unfold XK at x; omega) ti, tl', IM_fr fU (fun k a q x => by unfold fIm at q; unfold XK at x; omega) im, RS_fr fU (by unfold XK; omega) rs⟩
  have ent : ∀ T, fX11_book 140 (nI k) T = fX11_book_s25 140 (nI k) (fX11_taken 140 400 (sI T 11 0 140 0)) := fun T => by
    unfold fX11_book fX11_book_s5
    rw [isIn_yes a1 (Int32.not_lt.mpr a2), if_neg i10]
  obtain ⟨C1, R0, e1, f1, -, -, o⟩ := all S Fr_id
  rw [show fX1_readFrom (0 + 90) (0 + 1) (0 + 3 + 1) S = some C1 from e1, ob_some]
  unfold fX10_book_s35 fX10_closeText fX10_closeText_s11
  rw [show (0 : Nat) + 1 = 1 from rfl]
  have fA : Fr (fun k a => (a = 0 ∧ k = 14) ∨ (a = 1 ∧ k = 1)) C1 (sI (sI C1 10 14 0 (gI C1 6 8 1)) 6 1 1 0) := Fr_sI (Fr_sI Fr_id (by omega)) (by omega)
  have a14 : gI (sI (sI C1 10 14 0 (gI C1 6 8 1)) 6 1 1 0) 10 14 0 = gI C1 6 8 1 := (gI_c (by decide)).trans gI_s
  have a61 : gI (sI (sI C1 10 14 0 (gI C1 6 8 1)) 6 1 1 0) 6 1 1 = 0 := gI_s
  rw [a14]
  rcases o with ⟨-, fa⟩ | ⟨z, -, B, C', R', y, gg, D', o1, o2, -, o4, -, -, -, -, o9, -, -, -, -, -, -, q5, -⟩
  · rw [if_neg fa.1]
    generalize sI (sI C1 10 14 0 (gI C1 6 8 1)) 6 1 1 0 = A at *
    have fS : Fr (fun kk a => (a = 0 ∧ kk = 14) ∨ XPP kk a ∨ (a = 1 ∧ kk = 1) ∨ (a = 140 ∧ kk = 0)) S (sI A 11 0 140 0) := Fr_sI (Fr_tr (Fr_mo f1 (fun k a q => Or.inr (Or.inl q))) (Fr_mo fA (fun k a q => by omega))) (by omega)
    obtain ⟨C2, R2, e2, -, f3, f4, o2⟩ := all (sI A 11 0 140 0) (Fr_mo fS (fun kk a q => by unfold XPP XP XF at q; omega))
    rw [e1] at e2
    injection e2 with e2
    subst e2
    rcases o2 with ⟨o1, fb⟩ | ⟨z, -⟩
    · refine ⟨_, A, R2, rfl, ?_, ?_⟩
      · rw [ent, o1, ← fb.2.2, show gI A 6 9 1 = gI C1 6 9 1 from fA.i (by omega)]
      · have fX : Fr (fun kk a => ((a = 0 ∧ kk = 14) ∨ XPP kk a ∨ (a = 1 ∧ kk = 1) ∨ (a = 140 ∧ kk = 0)) ∨ XRR kk a) S R2 := Fr_tr (Fr_mo fS (fun k a q => Or.inl q)) (Fr_mo f3 (fun k a q => Or.inr q))
        refine rest R2 (Fr_mo fX (fun k a q => by unfold XPP XP XF XRR XR XQ XG at q; unfold XK; omega)) ⟨n, rfl, WI_fr fX (fun k a q x => by unfold fW at q; unfold XPP XP XF XRR XR XQ XG at x; omega) w⟩ (UN_fr fX hn (fun k a q x => by unfold fU at q; unfold XPP XP XF XRR XR XQ XG at x; omega) u) ?_ f4 ?_ (TL_fr fX (fun k a q x => by unfold fTl at q; unfold XPP XP XF XRR XR XQ XG at x; omega) tl)
        · exact (f3.i (by unfold XRR XR XQ XG; omega)).trans ((gI_c (by decide)).trans a61)
        · unfold FLT
          rw [show gI R2 10 14 0 = gI C1 6 8 1 from (f3.i (by unfold XRR XR XQ XG; omega)).trans ((gI_c (by decide)).trans a14)]
          exact fb.2.1
    · exact absurd z fa.1
  · rw [if_pos z]
    have second := fun (T : St) (fT : Fr (fun kk a => a < 140 ∨ (a = 140 ∧ kk = 0)) S T) => all T fT
    have fC : Fr (fun kk a => XPP kk a ∨ (e ≤ a ∧ a ≤ e + 3) ∨ (d ≤ a ∧ a ≤ d + 3) ∨ (a = 90 ∧ 3 ≤ kk ∧ kk ≤ 7) ∨ (a = 0 ∧ kk = 14) ∨ (a = 1 ∧ kk = 1)) S C' := Fr_tr (Fr_mo f1 (fun k a q => Or.inl q)) (Fr_mo o4 (fun k a q => Or.inr q))
    have get : ∀ T, Fr (fun kk a => a < 140 ∨ (a = 140 ∧ kk = 0)) S T → ∃ (R2 R3 : St) (D2 : DS) (g2 : Nat), Fr XRR T R2 ∧ gI R2 11 2 140 = 0 ∧ gI R2 11 15 140 = 0 ∧ fX11_book_s25 140 (nI k) (fX11_taken 140 400 T) = fX11_book_s191 140 (nI k) y R3 ∧ Fr (fun kk a => (a = 140 ∧ kk = 32) ∨ a = 142 ∨ a = 148 ∨ a = 150) R2 R3 ∧ (∀ j, j < 52 ∨ 69 ≤ j → gA R3 29 142 j = gA R2 29 142 j) ∧ (∀ j, j < 17 → gA R3 35 148 j = gA R2 29 142 (52 + j)) ∧ DC C' d (n 0) D2 ∧ DM R3 (n 0) D2 ∧ DW (n 0) D2 ∧ gI C' 10 14 0 = 0 ∧ gI C' 6 1 1 = 0 ∧ gI C' 1 3 90 = 1 ∧ gI C' 1 4 90 = gA R3 37 150 0 ∧ gI C' 1 5 90 = nI g2 ∧ gA R3 37 150 1 = nI g2 ∧ g2 ≤ 40 ∧ gI C' 1 6 90 = nI (D2.1 0) ∧ gI C' 1 7 90 = nI (D2.1 1) := fun T fT => by
      obtain ⟨C2, R2, e2, -, f3, f4, o2'⟩ := all T fT
      rw [e1] at e2
      injection e2 with e2
      subst e2
      rcases o2' with ⟨-, fb⟩ | ⟨-, z15, B2, C3, R3, y2, g2, D2, p1, p2, p3, -, p5, p6, p7, p8, -, p10, p11, p12, p13, p14, p15, p16, p17, p18, p19, p20⟩
      · exact absurd z fb.1
      · rw [o1] at p1; injection p1 with p1; subst p1
        rw [o2] at p2; injection p2 with p2; injection p2 with p2 p2'; subst p2 p2'
        exact ⟨R2, R3, D2, g2, f3, f4, z15, p3, p5, p6, p7, p8, p10, p11, p12, p13, p14, p15, p16, p17, p18, p19, p20⟩
    rcases hke with ⟨k0, e0⟩ | ⟨k1, e0⟩
    · have d0 : d = 101 := by omega
      subst k0 e0 d0
      rw [if_pos (show nI 0 = 0 from rfl), show fX2_copyFrom (0 + 101) (0 + 3 + 15) (sI (sI C1 10 14 0 (gI C1 6 8 1)) 6 1 1 0) = some B from o1, ob_some, show fX1_judge (0 + 90) (0 + 101) B = _ from o2, ob_some]
      unfold fX10_book_s82
      have fT : Fr (fun kk a => XPP kk a ∨ (101 ≤ a ∧ a ≤ 104) ∨ (a = 90 ∧ 3 ≤ kk ∧ kk ≤ 7) ∨ (a = 0 ∧ kk = 14) ∨ (a = 1 ∧ kk = 1) ∨ (a = 140 ∧ kk = 0)) S (sI C' 11 0 140 0) := Fr_sI (Fr_mo fC (fun k a q => q.imp_right (fun r => by omega))) (by omega)
      obtain ⟨R2, R3, D2, g2, r1, r2, r3, r4, r5, r6, r7, r8, r9, r10, r11, r12, r13, r14, r15, r16, r17, r18, r19⟩ := get (sI C' 11 0 140 0) (Fr_mo fT (fun kk a q => by unfold XPP XP XF at q; omega))
      obtain ⟨U, u1, u2, u3, u4, u5, u6, u7, u8, u9⟩ := m_191try (R := R3) (y := y)
      refine ⟨y, C', U, rfl, by rw [ent, r4]; exact u1, ?_⟩
      have fRU : Fr (fun kk a => XRR kk a ∨ (a = 140 ∧ (kk = 32 ∨ kk = 35)) ∨ a = 142 ∨ a = 148 ∨ a = 150) (sI C' 11 0 140 0) U := Fr_tr (Fr_mo r1 (fun k a q => Or.inl q)) (Fr_tr (Fr_mo r5 (fun k a q => by omega)) (Fr_mo u2 (fun k a q => by omega)))
      have fX : Fr (fun kk a => (XPP kk a ∨ (101 ≤ a ∧ a ≤ 104) ∨ (a = 90 ∧ 3 ≤ kk ∧ kk ≤ 7) ∨ (a = 0 ∧ kk = 14) ∨ (a = 1 ∧ kk = 1) ∨ (a = 140 ∧ kk = 0)) ∨ XRR kk a ∨ (a = 140 ∧ (kk = 32 ∨ kk = 35)) ∨ a = 142 ∨ a = 148 ∨ a = 150) S U := Fr_tr (Fr_mo fT (fun k a q => Or.inl q)) (Fr_mo fRU (fun k a q => Or.inr q))
      have e142 : ∀ j, gA R2 29 142 j = gA S 29 142 j := fun j => (r1.a (by unfold XRR XR XQ XG; omega)).trans (fT.a (by unfold XPP XP XF; omega))
      have cls : ∀ c kk a, a < 140 → gI U c kk a = gI (sI C' 11 0 140 0) c kk a := fun c kk a h => fRU.i (by unfold XRR XR XQ XG; omega)
      refine rest U (Fr_mo fX (fun k a q => by unfold XPP XP XF XRR XR XQ XG at q; unfold XK; omega)) ⟨n, rfl, WIw_fr fX (fun k a x y => by unfold XPP XP XF XRR XR XQ XG; omega) (fun j hj => ?_) (fun j hj => fX.b (by unfold XPP XP XF XRR XR XQ XG; omega)) w⟩ (UN_fr fX hn (fun k a q x => by unfold fU at q; unfold XPP XP XF XRR XR XQ XG at x; omega) u) ?_ ?_ ?_ ?_
      · rcases Nat.lt_or_ge j 52 with q | q
        · rw [u3 j (by omega), r6 j (by omega), e142]
        · rcases Nat.lt_or_ge j 69 with q2 | q2
          · have := u4 (j - 52) (by omega)
            rw [show 52 + (j - 52) = j by omega] at this
            rw [this, r7 _ (by omega), show 52 + (j - 52) = j by omega, e142]
          · rw [u3 j (by omega), r6 j (by omega), e142]
      · exact (cls _ _ _ (by omega)).trans ((gI_c (by decide)).trans r12)
      · exact (u2.i (by omega)).trans ((r5.i (by omega)).trans r2)
      · unfold FLT
        rw [cls 10 14 0 (by omega), show gI (sI C' 11 0 140 0) 10 14 0 = 0 from (gI_c (by decide)).trans r11, show gI U 11 15 140 = 0 from (u2.i (by omega)).trans ((r5.i (by omega)).trans r3)]
      · unfold TL
        rw [cls 1 3 90 (by omega), cls 1 4 90 (by omega), cls 1 5 90 (by omega), cls 1 6 90 (by omega), cls 1 7 90 (by omega)]
        refine ⟨(gI_c (by decide)).trans (r13.trans u5.symm), fun _ => ⟨?_, ?_, ?_, ?_⟩⟩
        · exact (gI_c (by decide)).trans (r14.trans u6.symm)
        · exact (gI_c (by decide)).trans (r15.trans (r16.symm.trans u7.symm))
        · exact (gI_c (by decide)).trans (r18.trans (r9.2.1.symm.trans u8.symm))
        · exact (gI_c (by decide)).trans (r19.trans (r9.2.2.1.symm.trans u9.symm))
    · have d0 : d = 18 := by omega
      subst k1 e0 d0
      rw [if_neg (show ¬ nI 1 = 0 by decide), show fX2_copyFrom (0 + 97) (0 + 3 + 15) (sI (sI C1 10 14 0 (gI C1 6 8 1)) 6 1 1 0) = some B from o1, ob_some, show fX1_judge (0 + 90) (0 + 3 + 15) B = _ from o2, ob_some]
      unfold fX10_book_s111
      rw [show (0 : Nat) + 90 = 90 from rfl]
      have un2 : UN C' (n 0) := UN_fr fC hn (fun k a q x => by unfold fU at q; unfold XPP XP XF at x; omega) u
      by_cases c : gI C' 1 5 90 ≤ 0
      · rw [if_pos c]
        have fT : Fr (fun kk a => XPP kk a ∨ (97 ≤ a ∧ a ≤ 100) ∨ (18 ≤ a ∧ a ≤ 21) ∨ (a = 90 ∧ 3 ≤ kk ∧ kk ≤ 7) ∨ (a = 0 ∧ kk = 14) ∨ (a = 1 ∧ kk = 1) ∨ (a = 140 ∧ kk = 0)) S (sI C' 11 0 140 0) := Fr_sI (Fr_mo fC (fun k a q => q.imp_right (fun r => by omega))) (by omega)
        obtain ⟨R2, R3, D2, g2, r1, r2, r3, r4, r5, r6, r7, r8, r9, r10, r11, r12, r13, r14, r15, r16, r17, r18, r19⟩ := get (sI C' 11 0 140 0) (Fr_mo fT (fun kk a q => by unfold XPP XP XF at q; omega))
        obtain ⟨U, u1, u2, u5, u6, u7, u8, u9⟩ := m_191act0 (R := R3) (y := y) (by rw [r16, ← r15]; exact c)
        refine ⟨y, C', U, rfl, by rw [ent, r4]; exact u1, ?_⟩
        have fRU : Fr (fun kk a => XRR kk a ∨ (a = 140 ∧ (kk = 32 ∨ kk = 35)) ∨ a = 142 ∨ a = 148 ∨ a = 150) (sI C' 11 0 140 0) U := Fr_tr (Fr_mo r1 (fun k a q => Or.inl q)) (Fr_tr (Fr_mo r5 (fun k a q => by omega)) (Fr_mo u2 (fun k a q => by omega)))
        have fX : Fr (fun kk a => (XPP kk a ∨ (97 ≤ a ∧ a ≤ 100) ∨ (18 ≤ a ∧ a ≤ 21) ∨ (a = 90 ∧ 3 ≤ kk ∧ kk ≤ 7) ∨ (a = 0 ∧ kk = 14) ∨ (a = 1 ∧ kk = 1) ∨ (a = 140 ∧ kk = 0)) ∨ XRR kk a ∨ (a = 140 ∧ (kk = 32 ∨ kk = 35)) ∨ a = 142 ∨ a = 148 ∨ a = 150) S U := Fr_tr (Fr_mo fT (fun k a q => Or.inl q)) (Fr_mo fRU (fun k a q => Or.inr q))
        have e142 : ∀ j, gA R2 29 142 j = gA S 29 142 j := fun j => (r1.a (by unfold XRR XR XQ XG; omega)).trans (fT.a (by unfold XPP XP XF; omega))
        have cls : ∀ c kk a, a < 140 → gI U c kk a = gI (sI C' 11 0 140 0) c kk a := fun c kk a h => fRU.i (by unfold XRR XR XQ XG; omega)
        refine rest U (Fr_mo fX (fun k a q => by unfold XPP XP XF XRR XR XQ XG at q; unfold XK; omega)) (WI_days w fX (fun k a q => by unfold XPP XP XF XRR XR XQ XG; omega) (fun j hj => ?_) (DC_fr fRU (fun k a x y q => by unfold XRR XR XQ XG at q; omega) (DC_fr fr_th (fun k a x y q => by omega) r8)) (DM_fr u2 (by omega) r9) r10) (UN_fr fX hn (fun k a q x => by unfold fU at q; unfold XPP XP XF XRR XR XQ XG at x; omega) u) ?_ ?_ ?_ ?_
        · rw [u2.a (by omega), r6 j hj, e142]
        · exact (cls _ _ _ (by omega)).trans ((gI_c (by decide)).trans r12)
        · exact (u2.i (by omega)).trans ((r5.i (by omega)).trans r2)
        · unfold FLT
          rw [cls 10 14 0 (by omega), show gI (sI C' 11 0 140 0) 10 14 0 = 0 from (gI_c (by decide)).trans r11, show gI U 11 15 140 = 0 from (u2.i (by omega)).trans ((r5.i (by omega)).trans r3)]
        · unfold TL
          rw [cls 1 3 90 (by omega), cls 1 4 90 (by omega), cls 1 5 90 (by omega), cls 1 6 90 (by omega), cls 1 7 90 (by omega)]
          refine ⟨(gI_c (by decide)).trans (r13.trans u5.symm), fun _ => ⟨?_, ?_, ?_, ?_⟩⟩
          · exact (gI_c (by decide)).trans (r14.trans u6.symm)
          · exact (gI_c (by decide)).trans (r15.trans (r16.symm.trans u7.symm))
          · exact (gI_c (by decide)).trans (r18.trans (r9.2.1.symm.trans u8.symm))
          · exact (gI_c (by decide)).trans (r19.trans (r9.2.2.1.symm.trans u9.symm))
      · obtain ⟨K, T3, k1, k2, t1', t2', t3', t4', t5', t6'⟩ := keepC hn un2 (o9 rfl)
        rw [if_neg c, t1', ob_some]
        have fT : Fr (fun kk a => XPP kk a ∨ (97 ≤ a ∧ a ≤ 100) ∨ (18 ≤ a ∧ a ≤ 21) ∨ (a = 90 ∧ 3 ≤ kk ∧ kk ≤ 7) ∨ (a = 0 ∧ (kk = 11 ∨ kk = 14)) ∨ (a = 1 ∧ kk = 1) ∨ (105 ≤ a ∧ a ≤ 137) ∨ (a = 140 ∧ kk = 0)) S (sI T3 11 0 140 0) := Fr_sI (Fr_tr (Fr_mo fC (fun k a q => q.imp_right (fun r => by omega))) (Fr_mo t2' (fun k a q => by omega))) (by omega)
        obtain ⟨R2, R3, D2, g2, r1, r2, r3, r4, r5, r6, r7, r8, r9, r10, r11, r12, r13, r14, r15, r16, r17, r18, r19⟩ := get (sI T3 11 0 140 0) (Fr_mo fT (fun kk a q => by unfold XPP XP XF at q; omega))
        have hk23 : gI R3 11 23 140 = nI K := (r5.i (by omega)).trans ((r1.i (by unfold XRR XR XQ XG; omega)).trans ((gI_k (by decide)).trans ((t2'.i (by omega)).trans k2)))
        obtain ⟨U, u1, u2, v1, v2, v3, u5, u6, u7, u8, u9⟩ := m_191act (R := R3) (y := y) (by rw [r16, ← r15]; exact c) k1 hk23
        refine ⟨y, T3, U, rfl, by rw [ent, r4]; exact u1, ?_⟩
        have fRU : Fr (fun kk a => XRR kk a ∨ (a = 140 ∧ (kk = 23 ∨ kk = 32 ∨ kk = 35)) ∨ a = 142 ∨ a = 147 ∨ a = 148 ∨ a = 150) (sI T3 11 0 140 0) U := Fr_tr (Fr_mo r1 (fun k a q => Or.inl q)) (Fr_tr (Fr_mo r5 (fun k a q => by omega)) (Fr_mo u2 (fun k a q => by omega)))
        have fTU : Fr (fun kk a => XRR kk a ∨ (a = 140 ∧ (kk = 0 ∨ kk = 23 ∨ kk = 32 ∨ kk = 35)) ∨ a = 142 ∨ a = 147 ∨ a = 148 ∨ a = 150) T3 U := Fr_tr (Fr_mo fr_th (fun k a q => by omega)) (Fr_mo fRU (fun k a q => q.imp_right (fun r => by omega)))
        have fX : Fr (fun kk a => (XPP kk a ∨ (97 ≤ a ∧ a ≤ 100) ∨ (18 ≤ a ∧ a ≤ 21) ∨ (a = 90 ∧ 3 ≤ kk ∧ kk ≤ 7) ∨ (a = 0 ∧ (kk = 11 ∨ kk = 14)) ∨ (a = 1 ∧ kk = 1) ∨ (105 ≤ a ∧ a ≤ 137) ∨ (a = 140 ∧ kk = 0)) ∨ XRR kk a ∨ (a = 140 ∧ (kk = 23 ∨ kk = 32 ∨ kk = 35)) ∨ a = 142 ∨ a = 147 ∨ a = 148 ∨ a = 150) S U := Fr_tr (Fr_mo fT (fun k a q => Or.inl q)) (Fr_mo fRU (fun k a q => Or.inr q))
        have e142 : ∀ j, gA R2 29 142 j = gA S 29 142 j := fun j => (r1.a (by unfold XRR XR XQ XG; omega)).trans (fT.a (by unfold XPP XP XF; omega))
        have cls : ∀ c kk a, a < 140 → ¬ ((a = 0 ∧ kk = 11) ∨ (105 ≤ a ∧ a ≤ 137)) → gI U c kk a = gI C' c kk a := fun c kk a h h' => (fTU.i (by unfold XRR XR XQ XG; omega)).trans (t2'.i h')
        have row : ∀ j, j < 17 → gA U 34 147 (17 * (nxK K - 1) + j) = gA S 29 142 (52 + j) := fun j hj => by rw [v3 j hj, r7 j hj, e142]
        refine rest U (Fr_mo fX (fun k a q => by unfold XPP XP XF XRR XR XQ XG at q; unfold XK; omega)) (WI_days w fX (fun k a q => by unfold XPP XP XF XRR XR XQ XG; omega) (fun j hj => ?_) (DC_fr fTU (fun k a x y q => by unfold XRR XR XQ XG at q; omega) (DC_fr t2' (fun k a x y q => by omega) r8)) (DM_fr u2 (by omega) r9) r10) (UN_mk hn k1 t4' t3' t5' t6' (ds_W w) fTU (fun k a q => by unfold XRR XR XQ XG; omega) v1 (fun i j hi hj => by rw [v2 i j hi hj, r5.a (by omega), r1.a (by unfold XRR XR XQ XG; omega)]; exact t2'.a (by omega)) ((row 0 (by omega)).trans (ds_M w).2.1) ((row 1 (by omega)).trans (ds_M w).2.2.1) (fun p hp => ?_)) ?_ ?_ ?_ ?_
        · rw [u2.a (by omega), r6 j hj, e142]
        · have h5 : p < 5 := by omega
          have hd := (ds_M w).2.2.2 p hp
          refine ⟨(row (2 + p) (by omega)).trans ?_, (row (7 + p) (by omega)).trans ?_, (row (12 + p) (by omega)).trans ?_⟩
          · rw [show 52 + (2 + p) = 54 + p by omega]; exact hd.1
          · rw [show 52 + (7 + p) = 59 + p by omega]; exact hd.2.1
          · rw [show 52 + (12 + p) = 64 + p by omega]; exact hd.2.2
        · exact (cls _ _ _ (by omega) (by omega)).trans r12
        · exact (u2.i (by omega)).trans ((r5.i (by omega)).trans r2)
        · unfold FLT
          rw [cls 10 14 0 (by omega) (by omega), r11, show gI U 11 15 140 = 0 from (u2.i (by omega)).trans ((r5.i (by omega)).trans r3)]
        · unfold TL
          rw [cls 1 3 90 (by omega) (by omega), cls 1 4 90 (by omega) (by omega), cls 1 5 90 (by omega) (by omega), cls 1 6 90 (by omega) (by omega), cls 1 7 90 (by omega) (by omega)]
          refine ⟨r13.trans u5.symm, fun _ => ⟨?_, ?_, ?_, ?_⟩⟩
          · exact r14.trans u6.symm
          · exact r15.trans (r16.symm.trans u7.symm)
          · exact r18.trans (r9.2.1.symm.trans u8.symm)
          · exact r19.trans (r9.2.2.1.symm.trans u9.symm)
