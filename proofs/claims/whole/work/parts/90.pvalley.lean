theorem v_begin {C : St} (hb : gI C 8 6 72 = 0 ∨ gI C 8 6 72 = 1) : ∃ U, fX9_begin 3 72 C = some U ∧ Fr (fun _ a => 4 ≤ a ∧ a ≤ 25) C U ∧ VC C U 4 72 ∧ gI U 2 0 18 = 0 ∧ gI U 2 2 18 = 0 ∧ gI U 2 1 18 = gI C 8 2 72 ∧ (∀ p, p < 5 → gA U 15 19 p = gI C 4 1 (75 + p) ∧ gA U 16 20 p = 0 ∧ gA U 17 21 p = 0) ∧ gI U 5 3 22 = 0 ∧ gI U 5 4 22 = 0 := by
  obtain ⟨A, a1, a2, a3⟩ := c_vcopy (S := C) (d := 4) (s := 72) (by omega) hb
  have e72 : gI (sI (sI A 2 0 18 0) 2 2 18 0) 8 2 72 = gI C 8 2 72 := (gI_c (by decide)).trans ((gI_c (by decide)).trans (a2.i (by omega)))
  obtain ⟨B, b1, b2, b3, b4⟩ := l_begin (S := A) (d := 18) (s := 72) (by omega) 5 0 NN (sI (sI (sI A 2 0 18 0) 2 2 18 0) 2 1 18 (gI C 8 2 72)) (by omega) (by unfold NN; omega) (Fr_sI (Fr_sI (Fr_sI Fr_id (by omega)) (by omega)) (by omega)) (fun p hp => by omega)
  have eB : fX2_begin 18 72 A = some B := by
    unfold fX2_begin fX2_begin_s5 fX2_begin_s10 fX2_begin_s18
    rw [e72]; exact b1
  have fU : Fr (fun _ a => a = 22) B (fX5_forget 22 B) := by unfold fX5_forget fX5_forget_s5; exact Fr_sI (Fr_sI Fr_id rfl) rfl
  refine ⟨fX5_forget 22 B, ?_, Fr_tr (Fr_mo a2 (fun k a q => by omega)) (Fr_tr (Fr_mo b2 (fun k a q => by omega)) (Fr_mo fU (fun k a q => by omega))), ?_, ?_, ?_, ?_, fun p hp => ?_, ?_, ?_⟩
  · unfold fX9_begin
    rw [show (3 : Nat) + 1 = 4 from rfl, a1, ob_some, show (3 : Nat) + 15 = 18 from rfl, eB, ob_some]
  · have fAU : Fr (fun _ a => 18 ≤ a ∧ a ≤ 22) A (fX5_forget 22 B) := Fr_tr (Fr_mo b2 (fun k a q => by omega)) (Fr_mo fU (fun k a q => by omega))
    obtain ⟨v1, v2, v3⟩ := a3
    exact ⟨fun p hp => ⟨fun k k1 k2 => (fAU.i (by omega)).trans ((v1 p hp).1 k k1 k2), (fAU.j (by omega)).trans (v1 p hp).2⟩, fun f hf => ⟨fun k k1 k2 => (fAU.i (by omega)).trans ((v2 f hf).1 k k1 k2), (fAU.j (by omega)).trans (v2 f hf).2⟩, fun k k1 k2 => (fAU.i (by omega)).trans (v3 k k1 k2)⟩
  · exact (fU.i (by omega)).trans ((b3 0).trans ((gI_k (by decide)).trans ((gI_k (by decide)).trans gI_s)))
  · exact (fU.i (by omega)).trans ((b3 2).trans ((gI_k (by decide)).trans gI_s))
  · exact (fU.i (by omega)).trans ((b3 1).trans gI_s)
  · obtain ⟨x1, x2, x3⟩ := b4 p hp
    exact ⟨(fU.a (by omega)).trans (x1.trans (a2.i (by omega))), (fU.a (by omega)).trans x2, (fU.a (by omega)).trans x3⟩
  · unfold fX5_forget fX5_forget_s5; exact (gI_k (by decide)).trans gI_s
  · unfold fX5_forget fX5_forget_s5; exact gI_s
/-- all that a valley's text may change -/
def XVl (k a : Nat) : Prop := (a = 0 ∧ (k = 11 ∨ k = 14)) ∨ (a = 1) ∨ (4 ≤ a ∧ a ≤ 25) ∨ (72 ≤ a ∧ a ≤ 85) ∨ (a = 140 ∧ (k ≤ 20 ∨ k = 23)) ∨ a = 142 ∨ a = 143 ∨ a = 145
set_option maxHeartbeats 1000000 in
theorem p_valley : pr_valley Inv := by
  intro S g
  obtain ⟨n, w, u, tp, ft, al, ti, tl, im, rs⟩ := id g
  have hn := w.wf.1.1
  obtain ⟨L, hL, t1, t2, t3⟩ := tp
  obtain ⟨y, C1, R1, e1, f1, -, -, -, o1⟩ := v_run hL t1 t2 t3 rs
  unfold fX10_valley fX10_valley_s11 fX10_valley_s16 fX10_closeText fX10_closeText_s11 fX10_valley_s49
  rw [show (0 : Nat) + 72 = 72 from rfl, show (0 : Nat) + 1 = 1 from rfl, show (0 : Nat) + 3 = 3 from rfl, e1, ob_some]
  generalize hA : sI (sI C1 10 14 0 (gI C1 6 8 1)) 6 1 1 0 = A
  have fA : Fr (fun k a => (a = 0 ∧ k = 14) ∨ (a = 1 ∧ k = 1)) C1 A := by rw [← hA]; exact Fr_sI (Fr_sI Fr_id (by omega)) (by omega)
  have a14 : gI A 10 14 0 = gI C1 6 8 1 := by rw [← hA]; exact (gI_c (by decide)).trans gI_s
  have a61 : gI A 6 1 1 = 0 := by rw [← hA]; exact gI_s
  have aJ : ∀ c k a, gJ A c k a = gJ C1 c k a := fun c k a => by rw [← hA]; rfl
  have fSA : Fr XVl S A := Fr_tr (Fr_mo f1 (fun k a q => by unfold XVV XV XF XB at q; unfold XVl; omega)) (Fr_mo fA (fun k a q => by unfold XVl; omega))
  -- the reference's part of what stands behind the class's run
  have second : ∀ S1 : St, Fr (fun k a => XVl k a ∧ a ≠ 140 ∧ a ≤ 141) S S1 → ∃ R2, Fr XOO S1 R2 ∧ KN S1 R2 ∧ gI R2 11 2 140 = 0 ∧ ((∃ n, fX11_valley 140 S1 = fX11_valley_h80 140 NN 0 R2 ∧ gI R2 11 19 140 = y ∧ gI C1 6 8 1 = 0 ∧ gI R2 11 15 140 = 0 ∧ DV C1 R2 n) ∨ (fX11_valley 140 S1 = some (-1 - gI R2 11 16 140, R2) ∧ FA C1 R2)) := fun S1 fS => by
    obtain ⟨y2, C2, R2, e2, -, f3, f4, f5, o2⟩ := v_run (C := S) (R := S1) hL t1 ((fS.i (by omega)).trans t2) (fun j hj => by
      rw [show gA S1 28 141 j = gA S 28 141 j from fS.a (by unfold XVl; omega)]; exact t3 j hj) (RS_fr fS (by omega) rs)
    rw [e1] at e2
    injection e2 with e2
    injection e2 with e2 e3
    subst e2 e3
    exact ⟨R2, f3, f4, f5, o2⟩
  have rest : ∀ (U : St) (m : Nat → Nat), Fr XVl S U → WI U m → UN U (m 0) → TP U → FLT U → Inv U := fun U m fU w' u' t' l' => ⟨m, w', u', t', l', AL_fr fU (fun k a q x => by unfold fAl at q; unfold XVl at x; omega) al, TI_fr fU (fun k a q x => by unfold fTi at q; unfold XVl at x; omega) ti, TL_fr fU (fun k a q x => by unfold fTl at q; unfold XVl at x; omega) tl, IM_fr fU (fun k a q x => by unfold fIm at q; unfold XVl at x; omega) im, RS_fr fU (by unfold XVl; omega) rs⟩
  rw [a14]
  by_cases z : gI C1 6 8 1 = 0
  · rw [if_pos z]
    have hb : gI A 8 6 72 = 0 ∨ gI A 8 6 72 = 1 := by
      rcases o1 with ⟨m, -, -, -, -, dv⟩ | ⟨-, fa⟩
      · rw [show gI A 8 6 72 = gI C1 8 6 72 from fA.i (by omega)]; exact dv.2.2.1.2.2.2.2.2
      · exact absurd z fa.1
    obtain ⟨B, b1, b2, ⟨v1, v2, v3⟩, b4, b5, b6, b7, b8, b9⟩ := v_begin hb
    rw [b1, ob_some]
    have fSB : Fr (fun k a => XVl k a ∧ a ≠ 140 ∧ a ≤ 141) S (sI B 10 11 0 0) := by
      refine Fr_sI (Fr_tr (Fr_tr (Fr_mo f1 (fun k a q => ?_)) (Fr_mo fA (fun k a q => ?_))) (Fr_mo b2 (fun k a q => ?_))) ?_
      · unfold XVV XV XF XB at q; unfold XVl; omega
      · unfold XVl; omega
      · unfold XVl; omega
      · unfold XVl; omega
    obtain ⟨R2, r1, r2, r3, o2⟩ := second _ fSB
    rcases o2 with ⟨m, o1, o2, o3, o4, dv⟩ | ⟨-, fa⟩
    · obtain ⟨U, u1, u2, u3, u4, u5⟩ := m_fin dv.2.1
      refine ⟨y, _, U, rfl, by rw [o1, u1, o2], ?_⟩
      have fSU : Fr (fun k a => XOO k a ∨ a = 142 ∨ (a = 140 ∧ k = 23)) (sI B 10 11 0 0) U := Fr_tr (Fr_mo r1 (fun k a q => Or.inl q)) (Fr_mo u2 (fun k a q => by unfold XOO XO XN; omega))
      have fT : Fr XVl S U := Fr_tr (Fr_mo fSB (fun k a q => q.1)) (Fr_mo fSU (fun k a q => by unfold XOO XO XN XG at q; unfold XVl; omega))
      obtain ⟨⟨d0, d1, d2, d3, d4, d5⟩, -, ⟨l0, l1, l2, l3, l4, l5⟩, dp, dn, df⟩ := dv
      have cI : ∀ c k a, 72 ≤ a → a ≤ 85 → gI A c k a = gI C1 c k a := fun c k a _ _ => fA.i (by omega)
      refine rest U (fin2 m) fT ?_ ?_ ?_ ?_
      · have wB : WIw B 3 (gA U 29 142) (gB U 32 145) (fin2 m) := by
          have F0 : fin2 m 0 = m 0 := f_lo (by omega)
          have F1 : fin2 m 1 = m 1 := f_lo (by omega)
          have F2 : fin2 m 2 = m 2 := f_lo (by omega)
          have F3 : fin2 m 3 = m 3 := f_lo (by omega)
          have F52 : fin2 m 52 = 0 := f_0 (by omega) (by omega)
          have F53 : fin2 m 53 = 0 := f_0 (by omega) (by omega)
          refine ⟨⟨?_, fun p hp => ?_, fun f hf => ?_⟩, fun j hj => u3 j (by omega), ⟨?_, fun p hp => ?_, fun f hf => ?_, ?_, fun p hp => ?_⟩, fun p hp => ?_, ⟨fun p hp => ?_, fun f hf => ?_⟩, ?_, ?_, ?_⟩
          · rw [F0, F1, F2, F3, F52]; omega
          · rw [F0] at hp
            obtain ⟨-, -, ⟨x1, x2, x3, x4, x5, x6, x7⟩, -⟩ := dp p hp
            unfold PW
            rw [f_lo (show 4 + p < 52 by omega), f_lo (show 9 + p < 52 by omega), f_lo (show 24 + p < 52 by omega), f_lo (show 29 + p < 52 by omega), f_lo (show 14 + p < 52 by omega), f_54 (by omega), F52]
            omega
          · rw [F1] at hf
            obtain ⟨-, x1, x2, x3, -⟩ := df f hf
            rw [f_lo (show 34 + f < 52 by omega), f_lo (show 40 + f < 52 by omega), f_lo (show 46 + f < 52 by omega), F0, f_lo (show 4 + m (34 + f) < 52 by omega), f_lo (show 9 + m (34 + f) < 52 by omega)]
            exact ⟨x1, x2, x3⟩
          · rw [F0, F1, F2, F3]
            exact ⟨(v3 2 (by omega) (by omega)).trans ((cI _ _ _ (by omega) (by omega)).trans l0), (v3 3 (by omega) (by omega)).trans ((cI _ _ _ (by omega) (by omega)).trans l1), (v3 4 (by omega) (by omega)).trans ((cI _ _ _ (by omega) (by omega)).trans l2), (v3 5 (by omega) (by omega)).trans ((cI _ _ _ (by omega) (by omega)).trans l3)⟩
          · rw [F0] at hp
            obtain ⟨⟨x1, x2, x3, x4, x5⟩, -⟩ := dp p hp
            have vp := (v1 p (by omega)).1
            rw [f_lo (show 4 + p < 52 by omega), f_lo (show 9 + p < 52 by omega), f_lo (show 24 + p < 52 by omega), f_lo (show 29 + p < 52 by omega), f_lo (show 14 + p < 52 by omega)]
            exact ⟨(vp 2 (by omega) (by omega)).trans ((cI _ _ _ (by omega) (by omega)).trans x1), (vp 3 (by omega) (by omega)).trans ((cI _ _ _ (by omega) (by omega)).trans x2), (vp 5 (by omega) (by omega)).trans ((cI _ _ _ (by omega) (by omega)).trans x3), (vp 6 (by omega) (by omega)).trans ((cI _ _ _ (by omega) (by omega)).trans x4), (vp 4 (by omega) (by omega)).trans ((cI _ _ _ (by omega) (by omega)).trans x5)⟩
          · rw [F1] at hf
            obtain ⟨⟨x1, x2, x3⟩, -⟩ := df f hf
            have vf := (v2 f (by omega)).1
            rw [f_lo (show 34 + f < 52 by omega), f_lo (show 40 + f < 52 by omega), f_lo (show 46 + f < 52 by omega)]
            exact ⟨(vf 1 (by omega) (by omega)).trans ((cI _ _ _ (by omega) (by omega)).trans x1), (vf 2 (by omega) (by omega)).trans ((cI _ _ _ (by omega) (by omega)).trans x2), (vf 3 (by omega) (by omega)).trans ((cI _ _ _ (by omega) (by omega)).trans x3)⟩
          · rw [F52, F53, F0]
            exact ⟨b4, b5, b6.trans ((cI _ _ _ (by omega) (by omega)).trans l0)⟩
          · rw [F0] at hp
            rw [f_54 (by omega)]
            exact (b7 p (by omega)).1.trans ((cI _ _ _ (by omega) (by omega)).trans (dp p hp).2.1)
          · rw [F0] at hp
            have z1 : gA U 29 142 (59 + p) = 0 := (u3 _ (by omega)).trans (by rw [f_0 (by omega) (by omega)]; rfl)
            have z2 : gA U 29 142 (64 + p) = 0 := (u3 _ (by omega)).trans (by rw [f_0 (by omega) (by omega)]; rfl)
            rw [z1, z2]
            exact ⟨(b7 p (by omega)).2.1, (b7 p (by omega)).2.2⟩
          · rw [F0] at hp
            obtain ⟨-, -, -, x1, x2⟩ := dp p hp
            rw [u4 p (by omega)]
            exact ⟨(v1 p (by omega)).2.trans ((aJ _ _ _).trans x1), x2⟩
          · rw [F1] at hf
            obtain ⟨-, -, -, -, x1⟩ := df f hf
            rw [u4 (5 + f) (by omega), show 11 + (5 + f) = 16 + f by omega]
            exact (v2 f (by omega)).2.trans ((aJ _ _ _).trans x1)
          · have z69 : gA U 29 142 69 = nI 0 := (u3 _ (by omega)).trans (by rw [f_0 (by omega) (by omega)])
            exact ⟨0, by omega, b8, z69, ⟨fun _ => rfl, fun _ => b9⟩, fun i hi => by omega, fun i hi => ⟨0, by rw [show i = 0 by omega]; rfl, by omega⟩, fun h => by omega⟩
          · rw [F53]; omega
          · rw [show gI B 8 6 (3 + 1) = gI A 8 6 72 from v3 6 (by omega) (by omega)]; exact hb
        have wB' : WIw (sI B 10 11 0 0) 3 (gA U 29 142) (gB U 32 145) (fin2 m) := WIw_fr (Fr_sI (X := fun _ a => a = 0) Fr_id rfl) (fun k a a1 a2 => by omega) (fun _ _ => rfl) (fun _ _ => rfl) wB
        exact WIw_fr fSU (fun k a a1 a2 => by unfold XOO XO XN XG; omega) (fun _ _ => rfl) (fun _ _ => rfl) wB'
      · obtain ⟨K, k1, k2, k3, k4, k5, k6⟩ := u
        refine ⟨0, by omega, ?_, u5, fun j hj => ?_, fun j j' hj hj' => ?_, fun i hi => by omega⟩
        · exact (fSU.i (by unfold XOO XO XN XG; omega)).trans gI_s
        · rw [show gQ U 105 j = gQ S 105 j from fT.q (by unfold XVl; omega)]; exact k4 j hj
        · rw [show gQ U 105 j = gQ S 105 j from fT.q (by unfold XVl; omega), show gQ U 105 j' = gQ S 105 j' from fT.q (by unfold XVl; omega)]; exact k5 j j' hj hj'
      · refine ⟨0, by omega, ?_, ?_, fun j hj => ?_⟩
        · exact (fSU.i (by unfold XOO XO XN XG; omega)).trans ((gI_c (by decide)).trans ((b2.i (by omega)).trans a61))
        · exact (u2.i (by omega)).trans r3
        · rw [show gA U 12 2 j = gA S 12 2 j from fT.a (by unfold XVl; omega), show gA U 28 141 j = gA S 28 141 j from fT.a (by unfold XVl; omega)]; exact t3 j hj
      · unfold FLT
        rw [show gI U 10 14 0 = gI C1 6 8 1 from (fSU.i (by unfold XOO XO XN XG; omega)).trans ((gI_k (by decide)).trans ((b2.i (by omega)).trans a14)), z, show gI U 11 15 140 = gI R2 11 15 140 from u2.i (by omega), o4]
    · exact absurd z fa.1
  · rw [if_neg z]
    have fSA' : Fr (fun k a => XVl k a ∧ a ≠ 140 ∧ a ≤ 141) S A := Fr_tr (Fr_mo f1 (fun k a q => by unfold XVV XV XF XB at q; unfold XVl; omega)) (Fr_mo fA (fun k a q => by unfold XVl; omega))
    obtain ⟨R2, r1, r2, r3, o2⟩ := second _ fSA'
    rcases o2 with ⟨m, -, -, o3, -⟩ | ⟨o1, fa⟩
    · exact absurd o3 z
    · refine ⟨_, A, R2, rfl, ?_, ?_⟩
      · rw [o1, ← fa.2.2, show gI A 6 9 1 = gI C1 6 9 1 from fA.i (by omega)]
      · have fT : Fr XVl S R2 := Fr_tr fSA (Fr_mo r1 (fun k a q => by unfold XOO XO XN XG at q; unfold XVl; omega))
        have fX : Fr (fun k a => (a = 0 ∧ k = 14) ∨ XVV k a ∨ (a = 1 ∧ k = 1) ∨ XOO k a) S R2 := Fr_tr (Fr_tr (Fr_mo f1 (fun k a q => Or.inr (Or.inl q))) (Fr_mo fA (fun k a q => by omega))) (Fr_mo r1 (fun k a q => Or.inr (Or.inr (Or.inr q))))
        refine rest R2 n fT ?_ ?_ ?_ ?_
        · exact WIw_fr fX (fun k a a1 a2 => by unfold XVV XV XF XB XOO XO XN XG; omega) (fun j _ => fX.a (by unfold XVV XV XF XB XOO XO XN XG; omega)) (fun j hj => (r2 j hj).trans ((fA.b (by omega)).trans (f1.b (by unfold XVV XV XF XB; omega)))) w
        · exact UN_fr fX hn (fun k a q x => by unfold fU at q; unfold XVV XV XF XB XOO XO XN XG at x; omega) u
        · refine ⟨0, by omega, ?_, r3, fun j hj => ?_⟩
          · exact (r1.i (by unfold XOO XO XN XG; omega)).trans a61
          · rw [show gA R2 12 2 j = gA S 12 2 j from fT.a (by unfold XVl; omega), show gA R2 28 141 j = gA S 28 141 j from fT.a (by unfold XVl; omega)]; exact t3 j hj
        · unfold FLT
          rw [show gI R2 10 14 0 = gI C1 6 8 1 from (r1.i (by unfold XOO XO XN XG; omega)).trans a14]
          exact fa.2.1
