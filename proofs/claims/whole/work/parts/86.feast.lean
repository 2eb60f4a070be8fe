theorem eF85 {C : St} {f0 b3 : Nat} {v : Int32} (h : ¬ gI C 6 8 1 = 0) (h6 : f0 < 6) : ∃ C', fX8_readFeast_s85 72 1 (80 + f0) b3 (80 + f0) v C = some C' ∧ Fr XB C C' := by
  have xb : ∀ k, XB k (80 + f0) := fun k => by unfold XB; omega
  have h1 : ¬ gI (sI C 3 2 (80 + f0) v) 6 8 1 = 0 := by rw [gI_c (by decide)]; exact h
  unfold fX8_readFeast_s85 fX8_readFeast_s88
  rw [t_numF h1, ob_some]
  unfold fX8_readFeast_s100 fX8_readFeast_s103
  exact ⟨_, rfl, Fr_sI (Fr_sI (Fr_sI Fr_id (xb _)) (xb _)) (by unfold XB; omega)⟩
theorem eF73 {C : St} {f0 b3 : Nat} (h : ¬ gI C 6 8 1 = 0) (h6 : f0 < 6) : ∃ C', fX8_readFeast_s73 72 1 (80 + f0) b3 C = some C' ∧ Fr XB C C' := by
  have xb : ∀ k, XB k (80 + f0) := fun k => by unfold XB; omega
  unfold fX8_readFeast_s73
  rw [t_numF h, ob_some]
  have h1 : ¬ gI (sI C 3 2 (80 + f0) 0) 6 8 1 = 0 := by rw [gI_c (by decide)]; exact h
  unfold fX8_readFeast_s85 fX8_readFeast_s88
  rw [t_numF h1, ob_some]
  unfold fX8_readFeast_s100 fX8_readFeast_s103
  exact ⟨_, rfl, Fr_sI (Fr_sI (Fr_sI Fr_id (xb _)) (xb _)) (by unfold XB; omega)⟩
theorem eF47 {C : St} {f0 n0 : Nat} (h : ¬ gI C 6 8 1 = 0) (h6 : f0 < 6) (hn : gI C 8 2 72 = nI n0) (h5 : n0 ≤ 5) (hr : gI C 3 1 (80 + f0) = -1 ∨ ∃ j, j < n0 ∧ gI C 3 1 (80 + f0) = nI j) : ∃ C', fX8_readFeast_s47 72 1 (80 + f0) C = some C' ∧ Fr XB C C' := by
  unfold fX8_readFeast_s47
  rcases hr with e | ⟨j, j1, e⟩
  · rw [e, hasP1, if_pos rfl]; exact ⟨C, rfl, Fr_id⟩
  · rw [e, hasPd hn h5 j1, if_neg i10, advF h, ob_some, e, igd (by omega) (by decide)]
    exact eF73 h h6
theorem eF38 {C : St} {f0 n0 : Nat} (h : ¬ gI C 6 8 1 = 0) (h6 : f0 < 6) (hn : gI C 8 2 72 = nI n0) (h5 : n0 ≤ 5) : ∃ C', fX8_readFeast_s38 72 1 (80 + f0) C = some C' ∧ Fr XB C C' := by
  obtain ⟨r, r1, r2⟩ := t_parishF h hn h5
  unfold fX8_readFeast_s38 fX8_readFeast_s44
  rw [r1, ob_some]
  have f1 : Fr XB C (sI C 3 1 (80 + f0) r) := Fr_sI Fr_id (by unfold XB; omega)
  obtain ⟨C', c1, c2⟩ := eF47 (C := sI C 3 1 (80 + f0) r) (f0 := f0) (n0 := n0) (by rw [gI_c (by decide)]; exact h) h6 ((gI_c (by decide)).trans hn) h5 (by rw [show gI (sI C 3 1 (80 + f0) r) 3 1 (80 + f0) = r from gI_s]; exact r2)
  exact ⟨C', c1, Fr_tr f1 c2⟩
set_option maxHeartbeats 1000000 in
theorem r_feast {C R : St} {L M q : Nat} {n : Nat → Nat} (h : LV C R L M q) (g : Gd C R q) (rs : RS R) (dv : DV C R n) : LnO C R L M q (fX8_readFeast 72 1 C) (fX11_readFeast 140 R) := by
  have hc2 := dv.2.2.1.1
  have hc3 := dv.2.2.1.2.1
  have h05 := dv.1.1
  have h06 := dv.1.2.1
  have e0 : gA R 30 (140 + 3) 1 = nI (n 1) := dv.2.1 1 (by omega)
  have nb : vp_nar .boolean (0 : Int32) = 0 := by decide
  unfold fX8_readFeast fX11_readFeast fX11_readFeast_s7 fX11_readFeast_s18
  rw [hc3, e0]
  rcases Nat.lt_or_ge (n 1) 6 with q6 | q6
  · have xb : ∀ k, XB k (80 + n 1) := fun k => by unfold XB; omega
    rw [if_pos (show nI (n 1) < (6 : Int32) from nI_lt (b := 6) q6 (by omega)), if_neg (show ¬ nI (n 1) = (6 : Int32) from fun r => by have := (nI_eq (a := n 1) (b := 6) (by omega) (by omega)).mp r; omega)]
    obtain ⟨C1, R1, a1, a2, a3, a4, q1, a5, a6, lv1⟩ := t_adv h g
    have dv1 : DV C1 R1 n := DV_fr dv a3 a4 (fun k a q => by unfold XT at q; unfold XB; omega) (fun k a q => by unfold XS at q; omega)
    have rs1 : RS R1 := RS_fr a4 (by unfold XS; omega) rs
    have fC1 := XT_F a3
    rw [a1, ob_some, a2, ob_some, show gI C1 8 3 72 = nI (n 1) from dv1.2.2.1.2.1, igd q6 (by decide), nI_clamp (by omega), show (16 : Int32) + nI (n 1) = nI (16 + n 1) from nI_add 16 _, show (72 : Nat) + 2 + 6 + n 1 = 80 + n 1 from rfl]
    unfold fX8_readFeast_s29
    rcases t_new (x := 16 + n 1) lv1 rs1 dv1.pn dv1.fn (by omega) (dv1.2.1 0 (by omega)) (dv1.2.1 1 (by omega)) with ⟨w, C2, R2, q2, w1, w2, b1, b2, b3, b4, b5, b6, b7, lv2⟩ | ⟨w, C2, R2, b1, b2, b3, b4, fa⟩
    · rw [b1, ob_some, b2, ob_some]
      have fC2 : Fr XF C C2 := Fr_tr fC1 (XT_F b3)
      have fR2 : Fr XN R R2 := Fr_tr (xg_n (XS_G a4)) (Fr_mo b4 (fun k a q => by unfold XN XG; unfold XS at q; omega))
      have kR2 : KN R R2 := KN_tr (xg_k (XS_G a4)) (fun j hj => by rw [b5, if_neg (by omega)])
      have bR2 : ∀ j, gB R2 32 145 j = if j = 16 + n 1 then w else gB R 32 145 j := fun j => by rw [b5, show gB R1 32 145 j = gB R 32 145 j from a4.b (by unfold XS; omega)]
      have hr2 : HR R2 n := fun j hj => (b4.a (by unfold XS; omega)).trans (dv1.2.1 j hj)
      have r20_2 : gI R2 11 20 140 = gI R 11 20 140 := (b4.i (by unfold XS; omega)).trans (a4.i (by unfold XS; omega))
      have rs2 : RS R2 := RS_x rs fR2
      unfold fX8_readFeast_s35 fX11_readFeast_s31 fX11_takesName fX8_readFeast_s38
      rw [if_neg i10, show gA R2 30 (140 + 3) 0 = nI (n 0) from hr2 0 (by omega)]
      have fC2' : Fr (fun k a => a = 80 + n 1) C2 (sJ C2 3 0 (80 + n 1) w) := Fr_sJ Fr_id rfl
      have lv2' : LV (sJ C2 3 0 (80 + n 1) w) R2 L M q2 := LV_fr lv2 fC2' (Fr_id (X := fun _ _ => False)) (fun k a q => by omega) (fun k a q => q.elim)
      have pn2 : PN (sJ C2 3 0 (80 + n 1) w) R2 72 11 (n 0) := ⟨(xf_8 fC2 (by decide)).trans hc2, h05, fun p hp => by
        rw [show gJ (sJ C2 3 0 (80 + n 1) w) 4 0 (72 + 3 + p) = gJ C 4 0 (75 + p) from (fC2'.j (by omega)).trans (fC2.j (by unfold XF; omega)), bR2, if_neg (by omega)]
        exact (dv.2.2.2.1 p hp).2.2.2.1⟩
      rcases t_parish lv2' rs2 pn2 (by omega) with ⟨j, R3, j1, g3, p1, p2, p3, p4, lv3⟩ | ⟨C3, R3, p1, p2, p3, p4, fa⟩
      · rw [p1, ob_some, show fX11_looksAt 140 11 (nI (n 0)) R2 = _ from p2, ob_some]
        unfold fX8_readFeast_s44 fX8_readFeast_s47 fX11_takesName_s6
        have fC3 : Fr (fun k a => a = 80 + n 1) C2 (sI (sJ C2 3 0 (80 + n 1) w) 3 1 (80 + n 1) (nI j)) := Fr_sI fC2' rfl
        have lv3' : LV (sI (sJ C2 3 0 (80 + n 1) w) 3 1 (80 + n 1) (nI j)) R3 L M q2 := LV_fr lv3 (Fr_sI (X := fun k a => a = 80 + n 1) Fr_id rfl) (Fr_id (X := fun _ _ => False)) (fun k a q => by omega) (fun k a q => q.elim)
        have g3' : Gd (sI (sJ C2 3 0 (80 + n 1) w) 3 1 (80 + n 1) (nI j)) R3 q2 := ⟨(gI_c (by decide)).trans g3.1, g3.2⟩
        obtain ⟨C4, R4, c1, c2, c3, c4, q4, c5, c6, lv4⟩ := t_adv lv3' g3'
        have i31 : gI (sI (sJ C2 3 0 (80 + n 1) w) 3 1 (80 + n 1) (nI j)) 3 1 (80 + n 1) = nI j := gI_s
        rw [if_neg i10, i31, hasPd (show gI (sI (sJ C2 3 0 (80 + n 1) w) 3 1 (80 + n 1) (nI j)) 8 2 72 = nI (n 0) from (gI_c (by decide)).trans ((xf_8 fC2 (by decide)).trans hc2)) h05 j1, if_neg i10, c1, ob_some, c2, ob_some, ob_some]
        have fC4 : Fr (fun k a => XF k a ∨ a = 80 + n 1) C C4 := Fr_tr (Fr_mo fC2 (fun k a q => Or.inl q)) (Fr_tr (Fr_mo fC3 (fun k a q => Or.inr q)) (Fr_mo (XT_F c3) (fun k a q => Or.inl q)))
        have v31 : gI C4 3 1 (80 + n 1) = nI j := (c3.i (by unfold XT; omega)).trans gI_s
        have v30 : gJ C4 3 0 (80 + n 1) = w := (c3.j (by unfold XT; omega)).trans gJ_s
        have dpj := dv.2.2.2.1 j j1
        have v42 : gI C4 4 2 (75 + j) = nI (n (4 + j)) := (fC4.i (by unfold XF; omega)).trans dpj.1.1
        have fRb : Fr XG R2 R4 := Fr_tr p4 (XS_G c4)
        have got4 : gI R4 11 18 140 = nI j := (c4.i (by unfold XS; omega)).trans p3
        have hr4 : HR R4 n := fun i hi => (fRb.a (by unfold XG; omega)).trans (hr2 i hi)
        unfold fX11_readFeast_s46 fX11_readFeast_s56 fX11_readFeast_s66
        rw [if_neg i10, got4, v31, igd (show j < 5 by omega) (by decide), nI_clamp (by omega), show (34 : Int32) + nI (n 1) = nI (34 + n 1) from nI_add 34 _, igd (show 34 + n 1 < 52 by omega) (by decide), nI_clamp (by omega), show (4 : Int32) + nI j = nI (4 + j) from nI_add 4 _, igd (show 4 + j < 52 by omega) (by decide), nI_clamp (by omega), show (40 : Int32) + nI (n 1) = nI (40 + n 1) from nI_add 40 _, show (72 : Nat) + 1 + 2 + j = 75 + j from rfl, show (140 : Nat) + 3 = 143 from rfl]
        have hr5 : HR (sA R4 30 143 (34 + n 1) (nI j)) (up n (34 + n 1) j) := fun i hi => by
          by_cases e : i = 34 + n 1
          · subst e; rw [up_s]; exact gA_s
          · rw [up_n e]; exact (gA_j e).trans (hr4 i hi)
        have lv5 : LV C4 (sA R4 30 143 (34 + n 1) (nI j)) L M q4 := LV_fr lv4 (Fr_id (X := fun _ _ => False)) (Fr_sA (X := fun _ a => a = 143) Fr_id rfl) (fun k a q => q.elim) (fun k a q => by omega)
        have h4 : gA (sA R4 30 143 (34 + n 1) (nI j)) 30 143 (4 + j) = nI (n (4 + j)) := (hr5 _ (by omega)).trans (by rw [up_n (by omega)])
        obtain ⟨⟨s1, s2⟩, ⟨s3, s4⟩, -⟩ := dpj.2.2.1
        have m4 : nI (n (4 + j)) - 1 = nI (n (4 + j) - 1) := by rw [show (1 : Int32) = nI 1 from rfl, pk_sub (by omega)]
        have m9 : nI (n (9 + j)) - 1 = nI (n (9 + j) - 1) := by rw [show (1 : Int32) = nI 1 from rfl, pk_sub (by omega)]
        unfold fX8_readFeast_s73
        rw [h4, v42, m4]
        rcases t_put (a := 0) (b := n (4 + j) - 1) (j := 40 + n 1) lv5 (by omega) (by omega) (by omega) with ⟨mo, C5, R5, q5, x1, x2, x3, x4, x5, x6, x7, x8, x9, x10, lv6⟩ | ⟨C5, R5, x1, x2, x3, x4, fa⟩
        · rw [show fX6_takeNumber 1 0 (nI (n (4 + j) - 1)) C4 = _ from x1, ob_some, show fX11_puts 140 (nI (40 + n 1)) 0 (nI (n (4 + j) - 1)) (sA R4 30 143 (34 + n 1) (nI j)) = _ from x2, ob_some]
          have hr6 := x8 _ hr5
          have lv6' : LV (sI C5 3 2 (80 + n 1) (nI mo)) R5 L M q5 := LV_fr lv6 (Fr_sI (X := fun k a => a = 80 + n 1) Fr_id rfl) (Fr_id (X := fun _ _ => False)) (fun k a q => by omega) (fun k a q => q.elim)
          have fC5 : Fr (fun k a => XF k a ∨ a = 80 + n 1) C (sI C5 3 2 (80 + n 1) (nI mo)) := Fr_sI (Fr_tr fC4 (Fr_mo x6 (fun k a q => Or.inl q))) (Or.inr rfl)
          have v43 : gI (sI C5 3 2 (80 + n 1) (nI mo)) 4 3 (75 + j) = nI (n (9 + j)) := (fC5.i (by unfold XF; omega)).trans dpj.1.2.1
          have h9 : gA R5 30 143 (9 + j) = nI (n (9 + j)) := (hr6 _ (by omega)).trans (by rw [up_n (by omega), up_n (by omega)])
          unfold fX8_readFeast_s85 fX8_readFeast_s88 fX11_readFeast_s85
          rw [if_neg i10, show (9 : Int32) + nI j = nI (9 + j) from nI_add 9 _, igd (show 9 + j < 52 by omega) (by decide), nI_clamp (by omega), show (46 : Int32) + nI (n 1) = nI (46 + n 1) from nI_add 46 _, show (140 : Nat) + 3 = 143 from rfl, h9, v43, m9]
          rcases t_put (a := 0) (b := n (9 + j) - 1) (j := 46 + n 1) lv6' (by omega) (by omega) (by omega) with ⟨da, C6, R6, q6', y1, y2, y3, y4, y5, y6, y7, y8, y9, y10, lv7⟩ | ⟨C6, R6, y1, y2, y3, y4, fa⟩
          · rw [show fX6_takeNumber 1 0 (nI (n (9 + j) - 1)) (sI C5 3 2 (80 + n 1) (nI mo)) = _ from y1, ob_some, show fX11_puts 140 (nI (46 + n 1)) 0 (nI (n (9 + j) - 1)) R5 = _ from y2, ob_some]
            have hr7 := y8 _ hr6
            have fC6 : Fr (fun k a => XF k a ∨ a = 80 + n 1) C (sI C6 3 3 (80 + n 1) (nI da)) := Fr_sI (Fr_tr fC5 (Fr_mo y6 (fun k a q => Or.inl q))) (Or.inr rfl)
            have c83 : gI (sI C6 3 3 (80 + n 1) (nI da)) 8 3 72 = nI (n 1) := (fC6.i (by unfold XF; omega)).trans hc3
            have h1 : gA R6 30 143 1 = nI (n 1) := (hr7 _ (by omega)).trans (by rw [up_n (by omega), up_n (by omega), up_n (by omega)])
            unfold fX8_readFeast_s100 fX8_readFeast_s103 fX11_readFeast_s108 fX11_readFeast_s123
            rw [if_neg i10, c83, show (140 : Nat) + 3 = 143 from rfl, h1, nI_1]
            have fX : Fr (fun k a => XF k a ∨ a = 80 + n 1 ∨ (a = 72 ∧ k = 3)) C (sI (sI C6 3 3 (80 + n 1) (nI da)) 8 3 72 (nI (n 1 + 1))) := Fr_sI (Fr_mo fC6 (fun k a q => q.imp_right Or.inl)) (Or.inr (Or.inr ⟨rfl, rfl⟩))
            have lv8 : LV (sI (sI C6 3 3 (80 + n 1) (nI da)) 8 3 72 (nI (n 1 + 1))) (sA R6 30 143 1 (nI (n 1 + 1))) L M q6' := LV_fr lv7 (Fr_sI (X := fun k a => a = 80 + n 1 ∨ a = 72) (Fr_sI Fr_id (Or.inl rfl)) (Or.inr rfl)) (Fr_sA (X := fun _ a => a = 143) Fr_id rfl) (fun k a q => by omega) (fun k a q => by omega)
            have fRc : Fr (fun k a => XG k a ∨ a = 143) R2 (sA R6 30 143 1 (nI (n 1 + 1))) := Fr_sA (Fr_tr (Fr_tr (Fr_sA (Fr_mo fRb (fun k a q => Or.inl q)) (Or.inr rfl)) x7) y7) (Or.inr rfl)
            have bR : ∀ i, gB (sA R6 30 143 1 (nI (n 1 + 1))) 32 145 i = if i = 16 + n 1 then w else gB R 32 145 i := fun i => (fRc.b (by unfold XG; omega)).trans (bR2 i)
            have r20 : gI (sA R6 30 143 1 (nI (n 1 + 1))) 11 20 140 = gI R 11 20 140 := (fRc.i (by unfold XG; omega)).trans r20_2
            have w30 : gJ (sI (sI C6 3 3 (80 + n 1) (nI da)) 8 3 72 (nI (n 1 + 1))) 3 0 (80 + n 1) = w := (y6.j (by unfold XF; omega)).trans ((x6.j (by unfold XF; omega)).trans v30)
            have w31 : gI (sI (sI C6 3 3 (80 + n 1) (nI da)) 8 3 72 (nI (n 1 + 1))) 3 1 (80 + n 1) = nI j := (gI_c (by decide)).trans ((gI_k (by decide)).trans ((y6.i (by unfold XF; omega)).trans ((gI_k (by decide)).trans ((x6.i (by unfold XF; omega)).trans v31))))
            have w32 : gI (sI (sI C6 3 3 (80 + n 1) (nI da)) 8 3 72 (nI (n 1 + 1))) 3 2 (80 + n 1) = nI mo := (gI_c (by decide)).trans ((gI_k (by decide)).trans ((y6.i (by unfold XF; omega)).trans gI_s))
            have w33 : gI (sI (sI C6 3 3 (80 + n 1) (nI da)) 8 3 72 (nI (n 1 + 1))) 3 3 (80 + n 1) = nI da := (gI_c (by decide)).trans gI_s
            have w83 : gI (sI (sI C6 3 3 (80 + n 1) (nI da)) 8 3 72 (nI (n 1 + 1))) 8 3 72 = nI (n 1 + 1) := gI_s
            refine ⟨_, _, Fr_mo fX (fun k a q => by unfold XV XB; exact q.imp_right (fun r => by omega)), Fr_tr fR2 (xh_n fRc), KN_tr kR2 (xh_k fRc), Or.inl ⟨q6', up (up (up (up n (34 + n 1) j) (40 + n 1) mo) (46 + n 1) da) 1 (n 1 + 1), rfl, rfl, by omega, ?_, lv8, ?_⟩⟩
            · rw [gI_c (by decide), gI_c (by decide)]
              exact y10.imp_right (Or.imp_right (fun _ => by omega))
            · have N : ∀ i, i ≠ 1 → i ≠ 34 + n 1 → i ≠ 40 + n 1 → i ≠ 46 + n 1 → up (up (up (up n (34 + n 1) j) (40 + n 1) mo) (46 + n 1) da) 1 (n 1 + 1) i = n i := fun i i1 i2 i3 i4 => by rw [up_n i1, up_n i4, up_n i3, up_n i2]
              have N1 : up (up (up (up n (34 + n 1) j) (40 + n 1) mo) (46 + n 1) da) 1 (n 1 + 1) 1 = n 1 + 1 := up_s
              have N34 : up (up (up (up n (34 + n 1) j) (40 + n 1) mo) (46 + n 1) da) 1 (n 1 + 1) (34 + n 1) = j := by rw [up_n (by omega), up_n (by omega), up_n (by omega), up_s]
              have N40 : up (up (up (up n (34 + n 1) j) (40 + n 1) mo) (46 + n 1) da) 1 (n 1 + 1) (40 + n 1) = mo := by rw [up_n (by omega), up_n (by omega), up_s]
              have N46 : up (up (up (up n (34 + n 1) j) (40 + n 1) mo) (46 + n 1) da) 1 (n 1 + 1) (46 + n 1) = da := by rw [up_n (by omega), up_s]
              have hr8 : HR (sA R6 30 143 1 (nI (n 1 + 1))) (up (up (up (up n (34 + n 1) j) (40 + n 1) mo) (46 + n 1) da) 1 (n 1 + 1)) := fun i hi => by
                by_cases e : i = 1
                · subst e; rw [N1]; exact gA_s
                · rw [up_n e]; exact (gA_j e).trans (hr7 i hi)
              generalize up (up (up (up n (34 + n 1) j) (40 + n 1) mo) (46 + n 1) da) 1 (n 1 + 1) = m at *
              obtain ⟨⟨k0, k1, k2, k3, k4, k5⟩, -, ⟨l0, l1, l2, l3, l4, l5⟩, dp, dn, df⟩ := dv
              have N0 := N 0 (by omega) (by omega) (by omega) (by omega)
              have N2 := N 2 (by omega) (by omega) (by omega) (by omega)
              have N3 := N 3 (by omega) (by omega) (by omega) (by omega)
              refine ⟨⟨by rw [N0]; exact k0, by rw [N1]; omega, by rw [N2]; exact k2, by rw [N2]; exact k3, by rw [N3]; exact k4, by rw [N3]; exact k5⟩, hr8, ?_, fun p hp => ?_, fun p hp hp5 => ?_, fun f hf => ?_⟩
              · unfold DvC
                rw [N0, N1, N2, N3, fX.i (c := 8) (k := 2) (a := 72) (by unfold XF; omega), w83, fX.i (c := 8) (k := 4) (a := 72) (by unfold XF; omega), fX.i (c := 8) (k := 5) (a := 72) (by unfold XF; omega), fX.i (c := 8) (k := 6) (a := 72) (by unfold XF; omega), r20]
                exact ⟨l0, rfl, l2, l3, l4, l5⟩
              · rw [N0] at hp
                have := dp p hp
                unfold DvP CP DvB at this ⊢
                rw [N (4 + p) (by omega) (by omega) (by omega) (by omega), N (9 + p) (by omega) (by omega) (by omega) (by omega), N (14 + p) (by omega) (by omega) (by omega) (by omega), N (19 + p) (by omega) (by omega) (by omega) (by omega), N (24 + p) (by omega) (by omega) (by omega) (by omega), N (29 + p) (by omega) (by omega) (by omega) (by omega), fX.i (c := 4) (k := 2) (a := 75 + p) (by unfold XF; omega), fX.i (c := 4) (k := 3) (a := 75 + p) (by unfold XF; omega), fX.i (c := 4) (k := 4) (a := 75 + p) (by unfold XF; omega), fX.i (c := 4) (k := 5) (a := 75 + p) (by unfold XF; omega), fX.i (c := 4) (k := 6) (a := 75 + p) (by unfold XF; omega), fX.i (c := 4) (k := 1) (a := 75 + p) (by unfold XF; omega), fX.j (c := 4) (k := 0) (a := 75 + p) (by unfold XF; omega), bR, if_neg (by omega)]
                exact this
              · rw [N0] at hp
                rw [N (24 + p) (by omega) (by omega) (by omega) (by omega), N (29 + p) (by omega) (by omega) (by omega) (by omega)]
                exact dn p hp hp5
              · rw [N1] at hf
                rcases Nat.lt_or_ge f (n 1) with fl | fl
                · have := df f fl
                  have f34 := this.2.1
                  unfold DvF at this ⊢
                  rw [N (34 + f) (by omega) (by omega) (by omega) (by omega), N (40 + f) (by omega) (by omega) (by omega) (by omega), N (46 + f) (by omega) (by omega) (by omega) (by omega), N0, N (4 + n (34 + f)) (by omega) (by omega) (by omega) (by omega), N (9 + n (34 + f)) (by omega) (by omega) (by omega) (by omega), fX.i (c := 3) (k := 1) (a := 80 + f) (by unfold XF; omega), fX.i (c := 3) (k := 2) (a := 80 + f) (by unfold XF; omega), fX.i (c := 3) (k := 3) (a := 80 + f) (by unfold XF; omega), fX.j (c := 3) (k := 0) (a := 80 + f) (by unfold XF; omega), bR, if_neg (by omega)]
                  exact this
                · have ef : f = n 1 := by omega
                  subst ef
                  unfold DvF
                  rw [N34, N40, N46, N0, N (4 + j) (by omega) (by omega) (by omega) (by omega), N (9 + j) (by omega) (by omega) (by omega) (by omega), w30, w31, w32, w33, bR, if_pos rfl]
                  exact ⟨⟨rfl, rfl, rfl⟩, j1, by omega, by omega, rfl⟩
          · rw [show fX6_takeNumber 1 0 (nI (n (9 + j) - 1)) (sI C5 3 2 (80 + n 1) (nI mo)) = _ from y1, ob_some, show fX11_puts 140 (nI (46 + n 1)) 0 (nI (n (9 + j) - 1)) R5 = _ from y2, ob_some]
            unfold fX8_readFeast_s100 fX8_readFeast_s103 fX11_readFeast_s108
            rw [if_pos rfl]
            have d2 : Fr XB C6 (sI (sI C6 3 3 (80 + n 1) (nI 0)) 8 3 72 (gI (sI C6 3 3 (80 + n 1) (nI 0)) 8 3 72 + 1)) := Fr_sI (Fr_sI Fr_id (xb _)) (by unfold XB; omega)
            have fRc : Fr (fun k a => XG k a ∨ a = 143) R2 R6 := Fr_tr (Fr_tr (Fr_sA (Fr_mo fRb (fun k a q => Or.inl q)) (Or.inr rfl)) x7) (Fr_mo y4 (fun k a q => Or.inl q))
            exact ⟨_, R6, Fr_tr (Fr_mo fC5 (fun k a q => by unfold XV XB; exact q.imp_right (fun r => by omega))) (Fr_tr (xf_v y3) (xb_v d2)), Fr_tr fR2 (xh_n fRc), KN_tr kR2 (xh_k fRc), Or.inr ⟨rfl, rfl, XB_fa fa d2⟩⟩
        · rw [show fX6_takeNumber 1 0 (nI (n (4 + j) - 1)) C4 = _ from x1, ob_some, show fX11_puts 140 (nI (40 + n 1)) 0 (nI (n (4 + j) - 1)) (sA R4 30 143 (34 + n 1) (nI j)) = _ from x2, ob_some]
          obtain ⟨C9, d1, d2⟩ := eF85 (f0 := n 1) (b3 := 75 + j) (v := nI 0) fa.1 q6
          unfold fX11_readFeast_s85
          rw [if_pos rfl]
          have fRc : Fr (fun k a => XG k a ∨ a = 143) R2 R5 := Fr_tr (Fr_sA (Fr_mo fRb (fun k a q => Or.inl q)) (Or.inr rfl)) (Fr_mo x4 (fun k a q => Or.inl q))
          exact ⟨C9, R5, Fr_tr (Fr_mo fC4 (fun k a q => by unfold XV XB; exact q.imp_right (fun r => by omega))) (Fr_tr (xf_v x3) (xb_v d2)), Fr_tr fR2 (xh_n fRc), KN_tr kR2 (xh_k fRc), Or.inr ⟨d1, rfl, XB_fa fa d2⟩⟩
      · rw [p1, ob_some, show fX11_looksAt 140 11 (nI (n 0)) R2 = _ from p2, ob_some]
        unfold fX8_readFeast_s44 fX8_readFeast_s47 fX11_takesName_s6 fX11_readFeast_s46
        rw [show gI (sI C3 3 1 (80 + n 1) (-1)) 3 1 (80 + n 1) = -1 from gI_s, hasP1, if_pos rfl, if_pos rfl, ob_some, if_pos rfl]
        have d2 : Fr XB C3 (sI C3 3 1 (80 + n 1) (-1)) := Fr_sI Fr_id (xb _)
        exact ⟨_, R3, Fr_tr (xf_v fC2) (Fr_tr (Fr_mo fC2' (fun k a q => by unfold XV XB; omega)) (Fr_tr (xf_v p3) (xb_v d2))), Fr_tr fR2 (xg_n p4), KN_tr kR2 (xg_k p4), Or.inr ⟨rfl, rfl, XB_fa fa d2⟩⟩
    · rw [b1, ob_some, b2, ob_some]
      have d2 : Fr XB C2 (sJ C2 3 0 (80 + n 1) w) := Fr_sJ Fr_id (xb _)
      obtain ⟨C9, d1, d3⟩ := eF38 (C := sJ C2 3 0 (80 + n 1) w) (f0 := n 1) (n0 := n 0) fa.1 q6 ((xf_8 (Fr_tr fC1 b3) (by decide)).trans hc2) h05
      unfold fX8_readFeast_s35 fX11_readFeast_s31
      rw [if_pos rfl]
      have d4 := Fr_tr d2 d3
      exact ⟨C9, R2, Fr_tr (xf_v (Fr_tr fC1 b3)) (xb_v d4), xg_n (Fr_tr (XS_G a4) b4), xg_k (Fr_tr (XS_G a4) b4), Or.inr ⟨d1, rfl, XB_fa fa d4⟩⟩
  · rw [if_neg (show ¬ nI (n 1) < (6 : Int32) from nI_nlt (b := 6) q6 (by omega)), if_pos (show nI (n 1) = (6 : Int32) from congrArg nI (show n 1 = 6 by omega))]
    obtain ⟨f1, f2, f3, f4⟩ := t_fail h (show ¬ (4 : Int32) = 0 by decide)
    rw [f2, nb]
    exact ⟨_, _, xf_v f3, xg_n f4, xg_k f4, Or.inr ⟨rfl, rfl, f1⟩⟩
