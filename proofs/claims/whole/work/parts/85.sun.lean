set_option maxHeartbeats 1000000 in
theorem r_sun {C R : St} {L M q : Nat} {n : Nat → Nat} (h : LV C R L M q) (g : Gd C R q) (dv : DV C R n) : LnO C R L M q (fX8_readSun 72 1 C) (if (gI R 11 20 140) = 0 then (fX11_line_s79 140 (sI R 11 20 140 (1 : Int32))) else (fX11_line_s73 140 ((fX11_bad 140 (3 : Int32) R).1) ((fX11_bad 140 (3 : Int32) R).2))) := by
  have nb : vp_nar .boolean (0 : Int32) = 0 := by decide
  have fF : ∀ A : St, ¬ gI A 6 8 1 = 0 → ∀ b, ∃ A', fX8_readSun_s30 72 1 72 b A = some A' ∧ Fr XB A A' := fun A hA b => by
    have h1 : ¬ gI (sI A 8 4 72 b) 6 8 1 = 0 := by rw [gI_c (by decide)]; exact hA
    unfold fX8_readSun_s30 fX8_readSun_s33 fX8_readSun_s41
    rw [t_numF h1, ob_some]
    exact ⟨_, rfl, Fr_sI (Fr_sI Fr_id (by unfold XB; omega)) (by unfold XB; omega)⟩
  have l4 := dv.2.2.1.2.2.2.2.1
  unfold fX8_readSun fX11_line_s73
  by_cases z : gI R 11 20 140 = 0
  · rw [if_pos (l4.trans z), if_pos z]
    have f20 : Fr (fun k a => a = 140 ∧ k = 20) R (sI R 11 20 140 1) := Fr_sI Fr_id ⟨rfl, rfl⟩
    have lv0 : LV C (sI R 11 20 140 1) L M q := LV_fr h (Fr_id (X := fun _ _ => False)) f20 (fun k a q => q.elim) (fun k a q => by omega)
    have g0 : Gd C (sI R 11 20 140 1) q := ⟨g.1, (gI_k (by decide)).trans g.2⟩
    obtain ⟨C1, R1, a1, a2, a3, a4, q1, a5, a6, lv1⟩ := t_adv lv0 g0
    unfold fX8_readSun_s12 fX8_readSun_s21 fX11_line_s79
    rw [a1, ob_some, a2, ob_some]
    have lv1' : LV (sI C1 8 6 72 1) R1 L M q1 := LV_fr lv1 (Fr_sI (X := fun _ a => a = 72) Fr_id rfl) (Fr_id (X := fun _ _ => False)) (fun k a q => by omega) (fun k a q => q.elim)
    have fC1 : Fr XV C (sI C1 8 6 72 1) := Fr_sI (xf_v (XT_F a3)) (by unfold XV XB; omega)
    have fR1 : Fr XN R R1 := Fr_tr (Fr_mo f20 (fun k a q => by unfold XN; omega)) (xg_n (XS_G a4))
    have kR1 : KN R R1 := KN_tr (KN_fr f20 (fun k => by omega)) (xg_k (XS_G a4))
    have hr1 : HR R1 n := fun i hi => (a4.a (by unfold XS; omega)).trans (dv.2.1 i hi)
    have e20 : gI R1 11 20 140 = 1 := (a4.i (by unfold XS; omega)).trans gI_s
    rcases t_put (a := 1) (b := 999) (j := 2) lv1' (by omega) (by omega) (by omega) with ⟨u, C2, R2, q2, x1, x2, x3, x4, x5, x6, x7, x8, x9, x10, lv2⟩ | ⟨C2, R2, x1, x2, x3, x4, fa⟩
    · rw [show fX6_takeNumber 1 1 999 (sI C1 8 6 72 1) = _ from x1, ob_some, show fX11_puts 140 2 1 999 R1 = _ from x2, ob_some]
      unfold fX8_readSun_s30 fX8_readSun_s33 fX11_line_s92 fX8_readSun_s41
      rw [if_neg i10]
      have lv2' : LV (sI C2 8 4 72 (nI u)) R2 L M q2 := LV_fr lv2 (Fr_sI (X := fun _ a => a = 72) Fr_id rfl) (Fr_id (X := fun _ _ => False)) (fun k a q => by omega) (fun k a q => q.elim)
      have hr2 := x8 _ hr1
      rcases t_put (a := 1) (b := 30) (j := 3) lv2' (by omega) (by omega) (by omega) with ⟨v, C3, R3, q3, y1, y2, y3, y4, y5, y6, y7, y8, y9, y10, lv3⟩ | ⟨C3, R3, y1, y2, y3, y4, fa⟩
      · rw [show fX6_takeNumber 1 1 30 (sI C2 8 4 72 (nI u)) = _ from y1, ob_some, show fX11_puts 140 3 1 30 R2 = _ from y2, ob_some]
        unfold fX11_line_s103
        rw [if_neg i10]
        have hr3 := y8 _ hr2
        have lv3' : LV (sI C3 8 5 72 (nI v)) R3 L M q3 := LV_fr lv3 (Fr_sI (X := fun _ a => a = 72) Fr_id rfl) (Fr_id (X := fun _ _ => False)) (fun k a q => by omega) (fun k a q => q.elim)
        have fX : Fr (fun k a => XF k a ∨ (a = 72 ∧ (k = 4 ∨ k = 5 ∨ k = 6))) C (sI C3 8 5 72 (nI v)) := Fr_sI (Fr_tr (Fr_sI (Fr_tr (Fr_sI (Fr_mo (XT_F a3) (fun k a q => Or.inl q)) (Or.inr ⟨rfl, by omega⟩)) (Fr_mo x6 (fun k a q => Or.inl q))) (Or.inr ⟨rfl, by omega⟩)) (Fr_mo y6 (fun k a q => Or.inl q))) (Or.inr ⟨rfl, by omega⟩)
        have v5 : gI (sI C3 8 5 72 (nI v)) 8 5 72 = nI v := gI_s
        have v4 : gI (sI C3 8 5 72 (nI v)) 8 4 72 = nI u := (gI_k (by decide)).trans ((xf_8 y6 (by decide)).trans gI_s)
        have v6 : gI (sI C3 8 5 72 (nI v)) 8 6 72 = 1 := (gI_k (by decide)).trans ((xf_8 y6 (by decide)).trans ((gI_k (by decide)).trans ((xf_8 x6 (by decide)).trans gI_s)))
        have fR3 : Fr XN R R3 := Fr_tr fR1 (Fr_tr (xh_n x7) (xh_n y7))
        have kR3 : KN R R3 := KN_tr kR1 (KN_tr (xh_k x7) (xh_k y7))
        have r20 : gI R3 11 20 140 = 1 := (y7.i (by unfold XG; omega)).trans ((x7.i (by unfold XG; omega)).trans e20)
        have bR : ∀ i, gB R3 32 145 i = gB R 32 145 i := fun i => (y7.b (by unfold XG; omega)).trans ((x7.b (by unfold XG; omega)).trans (a4.b (by unfold XS; omega)))
        refine ⟨_, R3, Fr_mo fX (fun k a q => by unfold XV XB; exact q.imp_right (fun r => by omega)), fR3, kR3, Or.inl ⟨q3, up (up n 2 u) 3 v, rfl, rfl, by omega, ?_, lv3', ?_⟩⟩
        · rw [gI_c (by decide)]
          exact y10.imp_right (Or.imp_right (fun _ => by omega))
        · have N : ∀ i, i ≠ 2 → i ≠ 3 → up (up n 2 u) 3 v i = n i := fun i i1 i2 => by rw [up_n i2, up_n i1]
          have N2 : up (up n 2 u) 3 v 2 = u := by rw [up_n (by omega), up_s]
          have N3 : up (up n 2 u) 3 v 3 = v := up_s
          generalize up (up n 2 u) 3 v = m at *
          obtain ⟨⟨k0, k1, k2, k3, k4, k5⟩, -, ⟨l0, l1, l2, l3, l4, l5⟩, dp, dn, df⟩ := dv
          have N0 := N 0 (by omega) (by omega)
          have N1 := N 1 (by omega) (by omega)
          refine ⟨⟨by rw [N0]; exact k0, by rw [N1]; exact k1, by rw [N2]; exact x3, by rw [N2]; exact x4, by rw [N3]; exact y3, by rw [N3]; exact y4⟩, hr3, ?_, fun p hp => ?_, fun p hp hp5 => ?_, fun f hf => ?_⟩
          · unfold DvC
            rw [N0, N1, N2, N3, fX.i (c := 8) (k := 2) (a := 72) (by unfold XF; omega), fX.i (c := 8) (k := 3) (a := 72) (by unfold XF; omega), v4, v5, v6, r20]
            exact ⟨l0, l1, rfl, rfl, rfl, Or.inr rfl⟩
          · rw [N0] at hp
            have := dp p hp
            unfold DvP CP DvB at this ⊢
            rw [N (4 + p) (by omega) (by omega), N (9 + p) (by omega) (by omega), N (14 + p) (by omega) (by omega), N (19 + p) (by omega) (by omega), N (24 + p) (by omega) (by omega), N (29 + p) (by omega) (by omega), fX.i (c := 4) (k := 2) (a := 75 + p) (by unfold XF; omega), fX.i (c := 4) (k := 3) (a := 75 + p) (by unfold XF; omega), fX.i (c := 4) (k := 4) (a := 75 + p) (by unfold XF; omega), fX.i (c := 4) (k := 5) (a := 75 + p) (by unfold XF; omega), fX.i (c := 4) (k := 6) (a := 75 + p) (by unfold XF; omega), fX.i (c := 4) (k := 1) (a := 75 + p) (by unfold XF; omega), fX.j (c := 4) (k := 0) (a := 75 + p) (by unfold XF; omega), bR]
            exact this
          · rw [N0] at hp
            rw [N (24 + p) (by omega) (by omega), N (29 + p) (by omega) (by omega)]
            exact dn p hp hp5
          · rw [N1] at hf
            have := df f hf
            unfold DvF at this ⊢
            rw [N (34 + f) (by omega) (by omega), N (40 + f) (by omega) (by omega), N (46 + f) (by omega) (by omega), N0, N (4 + n (34 + f)) (by omega) (by omega), N (9 + n (34 + f)) (by omega) (by omega), fX.i (c := 3) (k := 1) (a := 80 + f) (by unfold XF; omega), fX.i (c := 3) (k := 2) (a := 80 + f) (by unfold XF; omega), fX.i (c := 3) (k := 3) (a := 80 + f) (by unfold XF; omega), fX.j (c := 3) (k := 0) (a := 80 + f) (by unfold XF; omega), bR]
            exact this
      · rw [show fX6_takeNumber 1 1 30 (sI C2 8 4 72 (nI u)) = _ from y1, ob_some, show fX11_puts 140 3 1 30 R2 = _ from y2, ob_some]
        unfold fX11_line_s103
        rw [if_pos rfl]
        exact ⟨sI C3 8 5 72 (nI 1), R3, Fr_sI (Fr_tr (Fr_sI (Fr_tr fC1 (xf_v x6)) (by unfold XV XB; omega)) (xf_v y3)) (by unfold XV XB; omega), Fr_tr fR1 (Fr_tr (xh_n x7) (xg_n y4)), KN_tr kR1 (KN_tr (xh_k x7) (xg_k y4)), Or.inr ⟨rfl, rfl, XB_fa fa (Fr_sI Fr_id (by unfold XB; omega))⟩⟩
    · rw [show fX6_takeNumber 1 1 999 (sI C1 8 6 72 1) = _ from x1, ob_some, show fX11_puts 140 2 1 999 R1 = _ from x2, ob_some]
      obtain ⟨C9, d1, d2⟩ := fF C2 fa.1 (nI 1)
      unfold fX11_line_s92
      rw [if_pos rfl]
      exact ⟨C9, R2, Fr_tr fC1 (Fr_tr (xf_v x3) (xb_v d2)), Fr_tr fR1 (xg_n x4), KN_tr kR1 (xg_k x4), Or.inr ⟨d1, rfl, XB_fa fa d2⟩⟩
  · rw [if_neg (fun r => z (l4.symm.trans r)), if_neg z]
    obtain ⟨f1, f2, f3, f4⟩ := t_fail h (show ¬ (3 : Int32) = 0 by decide)
    have h1 : ¬ gI (sI (fX6_fail 1 3 C) 8 6 72 1) 6 8 1 = 0 := by rw [gI_c (by decide)]; exact f1.1
    unfold fX8_readSun_s12 fX8_readSun_s21
    rw [advF f1.1, ob_some, t_numF h1, ob_some, f2, nb]
    obtain ⟨C9, d1, d2⟩ := fF _ h1 1
    have dd : Fr XB (fX6_fail 1 3 C) C9 := Fr_tr (Fr_sI Fr_id (by unfold XB; omega)) d2
    exact ⟨C9, _, Fr_tr (xf_v f3) (xb_v dd), xg_n f4, xg_k f4, Or.inr ⟨d1, rfl, XB_fa f1 dd⟩⟩
