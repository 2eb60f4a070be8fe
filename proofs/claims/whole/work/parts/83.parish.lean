def plC (C : St) (n0 : Nat) (w : Int64) (a b c d : Int32) : St := sI (fX4_tellYear (75 + n0) a b c (fX4_tellName (75 + n0) w d C)) 8 2 72 (nI (n0 + 1))
theorem pl_eq {C : St} {n0 : Nat} {w : Int64} {a b c d : Int32} (hn : gI C 8 2 72 = nI n0) (h5 : n0 < 5) : fX8_readParish_s69 72 1 a b c (72 + 1 + 2 + n0) w d C = some (plC C n0 w a b c d) := by
  have e1 : gI (fX4_tellName (72 + 1 + 2 + n0) w d C) 8 2 72 = nI n0 := by
    unfold fX4_tellName fX4_tellName_s5 fX4_tellName_s10 fX4_tellName_s15
    rw [gI_c (by decide), gI_c (by decide), gI_c (by decide)]; exact hn
  have e2 : gI (fX4_tellYear (72 + 1 + 2 + n0) a b c (fX4_tellName (72 + 1 + 2 + n0) w d C)) 8 2 72 = nI n0 := by
    unfold fX4_tellYear fX4_tellYear_s9 fX4_tellYear_s18
    rw [gI_c (by decide), gI_c (by decide), gI_c (by decide)]; exact e1
  unfold fX8_readParish_s69 fX8_readParish_s72 fX8_readParish_s90
  rw [e1, igd h5 (by decide), nI_clamp (by omega), e2, nI_1]
  rfl
theorem pl_fr {C : St} {n0 : Nat} {w : Int64} {a b c d : Int32} : Fr (fun k e => e = 75 + n0 ∨ (e = 72 ∧ k = 2)) C (plC C n0 w a b c d) := by
  unfold plC fX4_tellYear fX4_tellYear_s9 fX4_tellYear_s18 fX4_tellName fX4_tellName_s5 fX4_tellName_s10 fX4_tellName_s15
  exact Fr_sI (Fr_sI (Fr_sI (Fr_sI (Fr_sI (Fr_sI (Fr_sI (Fr_sJ Fr_id (Or.inl rfl)) (Or.inl rfl)) (Or.inl rfl)) (Or.inl rfl)) (Or.inl rfl)) (Or.inl rfl)) (Or.inl rfl)) (Or.inr ⟨rfl, rfl⟩)
theorem pl_fb {C : St} {n0 : Nat} {w : Int64} {a b c d : Int32} (h5 : n0 < 5) : Fr XB C (plC C n0 w a b c d) := Fr_mo pl_fr (fun k e q => by unfold XB; omega)
theorem at1 {v : Nat} (h1 : 2 ≤ v) (h2 : v < 2 ^ 31) : (if (1 : Int32) < nI v then nI v else (1 : Int32)) = nI v := if_pos (nI_lt (a := 1) (by omega) h2)
theorem pl_val {C : St} {n0 va vb vc vd : Nat} {w : Int64} (ha : 2 ≤ va ∧ va ≤ 999) (hb : 2 ≤ vb ∧ vb ≤ 999) (hc : 2 ≤ vc ∧ vc ≤ 999) : CP (plC C n0 w (nI va) (nI vb) (nI vc) (nI vd)) (75 + n0) va vb 0 1 vc ∧ gI (plC C n0 w (nI va) (nI vb) (nI vc) (nI vd)) 4 1 (75 + n0) = nI vd ∧ gJ (plC C n0 w (nI va) (nI vb) (nI vc) (nI vd)) 4 0 (75 + n0) = w ∧ gI (plC C n0 w (nI va) (nI vb) (nI vc) (nI vd)) 8 2 72 = nI (n0 + 1) := by
  unfold plC fX4_tellYear fX4_tellYear_s9 fX4_tellYear_s18 fX4_tellName fX4_tellName_s5 fX4_tellName_s10 fX4_tellName_s15
  rw [at1 ha.1 (by omega), at1 hb.1 (by omega), at1 hc.1 (by omega)]
  refine ⟨⟨?_, ?_, ?_, ?_, ?_⟩, ?_, ?_, ?_⟩
  · rw [gI_c (by decide), gI_k (by decide), gI_k (by decide), gI_s]
  · rw [gI_c (by decide), gI_k (by decide), gI_s]
  · rw [gI_c (by decide), gI_k (by decide), gI_k (by decide), gI_k (by decide), gI_k (by decide), gI_s]; rfl
  · rw [gI_c (by decide), gI_k (by decide), gI_k (by decide), gI_k (by decide), gI_s]; rfl
  · rw [gI_c (by decide), gI_s]
  · rw [gI_c (by decide), gI_k (by decide), gI_k (by decide), gI_k (by decide), gI_k (by decide), gI_k (by decide), gI_s]
  · exact gJ_s
  · exact gI_s
theorem KN_fr {X : Nat → Nat → Prop} {R R' : St} (f : Fr X R R') (h : ∀ k, ¬ X k 145) : KN R R' := fun j hj => f.b (h _)
theorem KN_tr {R S T : St} (h : KN R S) (g : KN S T) : KN R T := fun j hj => (g j hj).trans (h j hj)
theorem xf_v {C C' : St} (f : Fr XF C C') : Fr XV C C' := Fr_mo f (fun k a q => Or.inl q)
theorem xb_v {C C' : St} (f : Fr XB C C') : Fr XV C C' := Fr_mo f (fun k a q => Or.inr q)
theorem xg_n {C C' : St} (f : Fr XG C C') : Fr XN C C' := Fr_mo f (fun k a q => Or.inl q)
theorem xg_k {C C' : St} (f : Fr XG C C') : KN C C' := KN_fr f (fun k => by unfold XG; omega)
theorem xh_n {C C' : St} (f : Fr (fun k a => XG k a ∨ a = 143) C C') : Fr XN C C' := Fr_mo f (fun k a q => by unfold XN; exact q.imp_right Or.inl)
theorem xh_k {C C' : St} (f : Fr (fun k a => XG k a ∨ a = 143) C C') : KN C C' := KN_fr f (fun k => by unfold XG; omega)
theorem xf_8 {C C' : St} {c k a : Nat} (f : Fr XF C C') (h : a ≠ 1) : gI C' c k a = gI C c k a := f.i (by unfold XF; omega)
set_option maxHeartbeats 1000000 in
theorem r_parish {C R : St} {L M q : Nat} {n : Nat → Nat} (h : LV C R L M q) (g : Gd C R q) (rs : RS R) (dv : DV C R n) : LnO C R L M q (fX8_readParish 72 1 C) (fX11_readParish 140 R) := by
  have hc2 := dv.2.2.1.1
  have h05 := dv.1.1
  have e0 : gA R 30 (140 + 3) 0 = nI (n 0) := dv.2.1 0 (by omega)
  have nb : vp_nar .boolean (0 : Int32) = 0 := by decide
  unfold fX8_readParish fX11_readParish fX11_readParish_s7 fX11_readParish_s17
  rw [hc2, e0]
  rcases Nat.lt_or_ge (n 0) 5 with q5 | q5
  · rw [if_pos ((lt5 h05).mpr q5), if_neg (show ¬ nI (n 0) = (5 : Int32) from fun r => by have := (nI_eq (a := n 0) (b := 5) (by omega) (by omega)).mp r; omega)]
    obtain ⟨C1, R1, a1, a2, a3, a4, q1, a5, a6, lv1⟩ := t_adv h g
    have dv1 : DV C1 R1 n := DV_fr dv a3 a4 (fun k a q => by unfold XT at q; unfold XB; omega) (fun k a q => by unfold XS at q; omega)
    have rs1 : RS R1 := RS_fr a4 (by unfold XS; omega) rs
    rw [a1, ob_some, a2, ob_some, show (11 : Int32) + nI (n 0) = nI (11 + n 0) from nI_add 11 _]
    have c1 : gI C1 8 2 72 = nI (n 0) := dv1.2.2.1.1
    rcases t_new (x := 11 + n 0) lv1 rs1 dv1.pn dv1.fn (by omega) (dv1.2.1 0 (by omega)) (dv1.2.1 1 (by omega)) with ⟨w, C2, R2, q2, w1, w2, b1, b2, b3, b4, b5, b6, b7, lv2⟩ | ⟨w, C2, R2, b1, b2, b3, b4, fa⟩
    · rw [b1, ob_some, b2, ob_some]
      have fC2 : Fr XF C C2 := Fr_tr (XT_F a3) (XT_F b3)
      have fR2 : Fr XN R R2 := Fr_tr (xg_n (XS_G a4)) (Fr_mo b4 (fun k a q => by unfold XN XG; unfold XS at q; omega))
      have kR2 : KN R R2 := KN_tr (xg_k (XS_G a4)) (fun j hj => by rw [b5, if_neg (by omega)])
      have bR2 : ∀ j, gB R2 32 145 j = if j = 11 + n 0 then w else gB R 32 145 j := fun j => by rw [b5, show gB R1 32 145 j = gB R 32 145 j from a4.b (by unfold XS; omega)]
      have hr2 : HR R2 n := fun j hj => (b4.a (by unfold XS; omega)).trans (dv1.2.1 j hj)
      have c2 : gI C2 8 2 72 = nI (n 0) := (xf_8 fC2 (by decide)).trans hc2
      unfold fX8_readParish_s23 fX11_readParish_s30
      rw [if_neg i10, show (4 : Int32) + nI (n 0) = nI (4 + n 0) from nI_add 4 _]
      rcases t_put (a := 2) (b := 13) (j := 4 + n 0) lv2 (by omega) (by omega) (by omega) with ⟨va, C3, R3, q3, x1, x2, x3, x4, x5, x6, x7, x8, x9, x10, lv3⟩ | ⟨C3, R3, x1, x2, x3, x4, fa⟩
      · rw [show fX6_takeNumber 1 2 13 C2 = _ from x1, ob_some, show fX11_puts 140 (nI (4 + n 0)) 2 13 R2 = _ from x2, ob_some]
        have fC3 := Fr_tr fC2 x6
        have fR3 := Fr_tr fR2 (xh_n x7)
        have kR3 := KN_tr kR2 (xh_k x7)
        have hr3 := x8 n hr2
        unfold fX8_readParish_s31 fX11_readParish_s43
        rw [if_neg i10, show (9 : Int32) + nI (n 0) = nI (9 + n 0) from nI_add 9 _]
        rcases t_put (a := 2) (b := 30) (j := 9 + n 0) lv3 (by omega) (by omega) (by omega) with ⟨vb, C4, R4, q4, y1, y2, y3, y4, y5, y6, y7, y8, y9, y10, lv4⟩ | ⟨C4, R4, y1, y2, y3, y4, fa⟩
        · rw [show fX6_takeNumber 1 2 30 C3 = _ from y1, ob_some, show fX11_puts 140 (nI (9 + n 0)) 2 30 R3 = _ from y2, ob_some]
          have fC4 := Fr_tr fC3 y6
          have fR4 := Fr_tr fR3 (xh_n y7)
          have kR4 := KN_tr kR3 (xh_k y7)
          have hr4 := y8 _ hr3
          unfold fX8_readParish_s40 fX11_readParish_s57
          rw [if_neg i10, show (14 : Int32) + nI (n 0) = nI (14 + n 0) from nI_add 14 _]
          rcases t_put (a := 2) (b := 9) (j := 14 + n 0) lv4 (by omega) (by omega) (by omega) with ⟨vc, C5, R5, q5', z1, z2, z3, z4, z5, z6, z7, z8, z9, z10, lv5⟩ | ⟨C5, R5, z1, z2, z3, z4, fa⟩
          · rw [show fX6_takeNumber 1 2 9 C4 = _ from z1, ob_some, show fX11_puts 140 (nI (14 + n 0)) 2 9 R4 = _ from z2, ob_some]
            have fC5 := Fr_tr fC4 z6
            have fR5 := Fr_tr fR4 (xh_n z7)
            have kR5 := KN_tr kR4 (xh_k z7)
            have hr5 := z8 _ hr4
            have c5 : gI C5 8 2 72 = nI (n 0) := (xf_8 fC5 (by decide)).trans hc2
            unfold fX8_readParish_s49 fX11_readParish_s71
            rw [if_neg i10, show (19 : Int32) + nI (n 0) = nI (19 + n 0) from nI_add 19 _, c5, igd q5 (by decide), nI_clamp (by omega)]
            rcases t_put (a := 0) (b := 999) (j := 19 + n 0) lv5 (by omega) (by omega) (by omega) with ⟨vd, C6, R6, q6, t1, t2, t3, t4, t5, t6, t7, t8, t9, t10, lv6⟩ | ⟨C6, R6, t1, t2, t3, t4, fa⟩
            · have c6 : gI C6 8 2 72 = nI (n 0) := (xf_8 t6 (by decide)).trans c5
              rw [show fX6_takeNumber 1 0 999 C5 = _ from t1, ob_some, show fX11_puts 140 (nI (19 + n 0)) 0 999 R5 = _ from t2, ob_some, pl_eq c6 q5]
              have fC6 := Fr_tr fC5 t6
              have fR6 := Fr_tr fR5 (xh_n t7)
              have kR6 := KN_tr kR5 (xh_k t7)
              have hr6 := t8 _ hr5
              unfold fX11_readParish_s86 fX11_readParish_s101
              have e06 : gA R6 30 (140 + 3) 0 = nI (n 0) := by
                rw [show gA R6 30 (140 + 3) 0 = _ from hr6 0 (by omega), up_n (by omega), up_n (by omega), up_n (by omega), up_n (by omega)]
              rw [if_neg i10, e06, nI_1]
              have fR7 : Fr XN R (sA R6 30 143 0 (nI (n 0 + 1))) := Fr_sA fR6 (by unfold XN; omega)
              have bR7 : ∀ j, gB (sA R6 30 143 0 (nI (n 0 + 1))) 32 145 j = if j = 11 + n 0 then w else gB R 32 145 j := fun j => by
                show gB R6 32 145 j = _
                rw [show gB R6 32 145 j = gB R5 32 145 j from t7.b (by unfold XG; omega), show gB R5 32 145 j = gB R4 32 145 j from z7.b (by unfold XG; omega), show gB R4 32 145 j = gB R3 32 145 j from y7.b (by unfold XG; omega), show gB R3 32 145 j = gB R2 32 145 j from x7.b (by unfold XG; omega)]
                exact bR2 j
              have fP := pl_fr (C := C6) (n0 := n 0) (w := w) (a := nI va) (b := nI vb) (c := nI vc) (d := nI vd)
              have lv7 : LV (plC C6 (n 0) w (nI va) (nI vb) (nI vc) (nI vd)) (sA R6 30 143 0 (nI (n 0 + 1))) L M q6 := LV_fr lv6 fP (Fr_sA (X := fun _ a => a = 143) Fr_id rfl) (fun k a q => by omega) (fun k a q => by omega)
              obtain ⟨v1, v2, v3, v4⟩ := pl_val (C := C6) (n0 := n 0) (va := va) (vb := vb) (vc := vc) (vd := vd) (w := w) ⟨x3, by omega⟩ ⟨y3, by omega⟩ ⟨z3, by omega⟩
              refine ⟨_, _, Fr_tr (xf_v fC6) (xb_v (pl_fb q5)), fR7, kR6, Or.inl ⟨q6, up (up (up (up (up n (4 + n 0) va) (9 + n 0) vb) (14 + n 0) vc) (19 + n 0) vd) 0 (n 0 + 1), rfl, rfl, by omega, ?_, lv7, ?_⟩⟩
              · rw [fP.i (by omega)]
                exact t10.imp_right (Or.imp_right (fun _ => by omega))
              · have N : ∀ i, i ≠ 0 → i ≠ 4 + n 0 → i ≠ 9 + n 0 → i ≠ 14 + n 0 → i ≠ 19 + n 0 → up (up (up (up (up n (4 + n 0) va) (9 + n 0) vb) (14 + n 0) vc) (19 + n 0) vd) 0 (n 0 + 1) i = n i := fun i i1 i2 i3 i4 i5 => by rw [up_n i1, up_n i5, up_n i4, up_n i3, up_n i2]
                have N0 : up (up (up (up (up n (4 + n 0) va) (9 + n 0) vb) (14 + n 0) vc) (19 + n 0) vd) 0 (n 0 + 1) 0 = n 0 + 1 := up_s
                have N4 : up (up (up (up (up n (4 + n 0) va) (9 + n 0) vb) (14 + n 0) vc) (19 + n 0) vd) 0 (n 0 + 1) (4 + n 0) = va := by rw [up_n (by omega), up_n (by omega), up_n (by omega), up_n (by omega), up_s]
                have N9 : up (up (up (up (up n (4 + n 0) va) (9 + n 0) vb) (14 + n 0) vc) (19 + n 0) vd) 0 (n 0 + 1) (9 + n 0) = vb := by rw [up_n (by omega), up_n (by omega), up_n (by omega), up_s]
                have N14 : up (up (up (up (up n (4 + n 0) va) (9 + n 0) vb) (14 + n 0) vc) (19 + n 0) vd) 0 (n 0 + 1) (14 + n 0) = vc := by rw [up_n (by omega), up_n (by omega), up_s]
                have N19 : up (up (up (up (up n (4 + n 0) va) (9 + n 0) vb) (14 + n 0) vc) (19 + n 0) vd) 0 (n 0 + 1) (19 + n 0) = vd := by rw [up_n (by omega), up_s]
                have hr7 : HR (sA R6 30 143 0 (nI (n 0 + 1))) (up (up (up (up (up n (4 + n 0) va) (9 + n 0) vb) (14 + n 0) vc) (19 + n 0) vd) 0 (n 0 + 1)) := fun j hj => by
                  by_cases e : j = 0
                  · subst e; rw [N0]; exact gA_s
                  · rw [up_n e]; exact (gA_j e).trans (hr6 j hj)
                generalize up (up (up (up (up n (4 + n 0) va) (9 + n 0) vb) (14 + n 0) vc) (19 + n 0) vd) 0 (n 0 + 1) = m at *
                obtain ⟨⟨k0, k1, k2, k3, k4, k5⟩, -, ⟨l0, l1, l2, l3, l4, l5⟩, dp, dn, df⟩ := dv
                have fX : Fr (fun k a => XF k a ∨ a = 75 + n 0 ∨ (a = 72 ∧ k = 2)) C (plC C6 (n 0) w (nI va) (nI vb) (nI vc) (nI vd)) := Fr_tr (Fr_mo fC6 (fun k a q => Or.inl q)) (Fr_mo fP (fun k a q => Or.inr q))
                refine ⟨⟨by rw [N0]; omega, by rw [N 1 (by omega) (by omega) (by omega) (by omega) (by omega)]; exact k1, by rw [N 2 (by omega) (by omega) (by omega) (by omega) (by omega)]; exact k2, by rw [N 2 (by omega) (by omega) (by omega) (by omega) (by omega)]; exact k3, by rw [N 3 (by omega) (by omega) (by omega) (by omega) (by omega)]; exact k4, by rw [N 3 (by omega) (by omega) (by omega) (by omega) (by omega)]; exact k5⟩, hr7, ?_, fun p hp => ?_, fun p hp hp5 => ?_, fun f hf => ?_⟩
                · refine ⟨by rw [N0]; exact v4, ?_, ?_, ?_, ?_, ?_⟩
                  · rw [N 1 (by omega) (by omega) (by omega) (by omega) (by omega)]; exact (fX.i (by unfold XF; omega)).trans l1
                  · rw [N 2 (by omega) (by omega) (by omega) (by omega) (by omega)]; exact (fX.i (by unfold XF; omega)).trans l2
                  · rw [N 3 (by omega) (by omega) (by omega) (by omega) (by omega)]; exact (fX.i (by unfold XF; omega)).trans l3
                  · have e20 : gI (sA R6 30 143 0 (nI (n 0 + 1))) 11 20 140 = gI R 11 20 140 := by
                      show gI R6 11 20 140 = _
                      rw [show gI R6 11 20 140 = gI R5 11 20 140 from t7.i (by unfold XG; omega), show gI R5 11 20 140 = gI R4 11 20 140 from z7.i (by unfold XG; omega), show gI R4 11 20 140 = gI R3 11 20 140 from y7.i (by unfold XG; omega), show gI R3 11 20 140 = gI R2 11 20 140 from x7.i (by unfold XG; omega), show gI R2 11 20 140 = gI R1 11 20 140 from b4.i (by unfold XS; omega)]
                      exact a4.i (by unfold XS; omega)
                    rw [e20, show gI (plC C6 (n 0) w (nI va) (nI vb) (nI vc) (nI vd)) 8 6 72 = gI C 8 6 72 from fX.i (by unfold XF; omega)]; exact l4
                  · rw [show gI (plC C6 (n 0) w (nI va) (nI vb) (nI vc) (nI vd)) 8 6 72 = gI C 8 6 72 from fX.i (by unfold XF; omega)]; exact l5
                · rw [N0] at hp
                  rcases Nat.lt_or_ge p (n 0) with pl | pl
                  · have := dp p pl
                    unfold DvP CP DvB at this ⊢
                    rw [N (4 + p) (by omega) (by omega) (by omega) (by omega) (by omega), N (9 + p) (by omega) (by omega) (by omega) (by omega) (by omega), N (14 + p) (by omega) (by omega) (by omega) (by omega) (by omega), N (19 + p) (by omega) (by omega) (by omega) (by omega) (by omega), N (24 + p) (by omega) (by omega) (by omega) (by omega) (by omega), N (29 + p) (by omega) (by omega) (by omega) (by omega) (by omega), fX.i (c := 4) (k := 2) (a := 75 + p) (by unfold XF; omega), fX.i (c := 4) (k := 3) (a := 75 + p) (by unfold XF; omega), fX.i (c := 4) (k := 4) (a := 75 + p) (by unfold XF; omega), fX.i (c := 4) (k := 5) (a := 75 + p) (by unfold XF; omega), fX.i (c := 4) (k := 6) (a := 75 + p) (by unfold XF; omega), fX.i (c := 4) (k := 1) (a := 75 + p) (by unfold XF; omega), fX.j (c := 4) (k := 0) (a := 75 + p) (by unfold XF; omega), bR7, if_neg (by omega)]
                    exact this
                  · have ep : p = n 0 := by omega
                    subst ep
                    obtain ⟨d24, d29⟩ := dn (n 0) (Nat.le_refl _) q5
                    have M24 : m (24 + n 0) = 0 := by rw [N (24 + n 0) (by omega) (by omega) (by omega) (by omega) (by omega)]; exact d24
                    have M29 : m (29 + n 0) = 1 := by rw [N (29 + n 0) (by omega) (by omega) (by omega) (by omega) (by omega)]; exact d29
                    unfold DvP DvB
                    rw [N4, N9, N14, N19, M24, M29, bR7, if_pos rfl]
                    exact ⟨v1, v2, ⟨⟨x3, x4⟩, ⟨y3, y4⟩, ⟨z3, z4⟩, t4, by omega, by omega, by omega⟩, v3, w1, w2⟩
                · rw [N0] at hp
                  rw [N (24 + p) (by omega) (by omega) (by omega) (by omega) (by omega), N (29 + p) (by omega) (by omega) (by omega) (by omega) (by omega)]
                  exact dn p (by omega) hp5
                · rw [N 1 (by omega) (by omega) (by omega) (by omega) (by omega)] at hf
                  have := df f hf
                  have f34 := this.2.1
                  unfold DvF at this ⊢
                  rw [N (34 + f) (by omega) (by omega) (by omega) (by omega) (by omega), N (40 + f) (by omega) (by omega) (by omega) (by omega) (by omega), N (46 + f) (by omega) (by omega) (by omega) (by omega) (by omega), N0, N (4 + n (34 + f)) (by omega) (by omega) (by omega) (by omega) (by omega), N (9 + n (34 + f)) (by omega) (by omega) (by omega) (by omega) (by omega), fX.i (c := 3) (k := 1) (a := 80 + f) (by unfold XF; omega), fX.i (c := 3) (k := 2) (a := 80 + f) (by unfold XF; omega), fX.i (c := 3) (k := 3) (a := 80 + f) (by unfold XF; omega), fX.j (c := 3) (k := 0) (a := 80 + f) (by unfold XF; omega), bR7, if_neg (by omega)]
                  exact ⟨this.1, by omega, this.2.2⟩
            · have c6 : gI C6 8 2 72 = nI (n 0) := (xf_8 t3 (by decide)).trans c5
              rw [show fX6_takeNumber 1 0 999 C5 = _ from t1, ob_some, show fX11_puts 140 (nI (19 + n 0)) 0 999 R5 = _ from t2, ob_some, pl_eq c6 q5]
              unfold fX11_readParish_s86
              rw [if_pos rfl]
              exact ⟨_, _, Fr_tr (xf_v (Fr_tr fC5 t3)) (xb_v (pl_fb q5)), Fr_tr fR5 (xg_n t4), KN_tr kR5 (xg_k t4), Or.inr ⟨rfl, rfl, XB_fa fa (pl_fb q5)⟩⟩
          · rw [show fX6_takeNumber 1 2 9 C4 = _ from z1, ob_some, show fX11_puts 140 (nI (14 + n 0)) 2 9 R4 = _ from z2, ob_some]
            obtain ⟨C9, d1, d2⟩ := pF49 (w := w) (y4 := nI va) (y5 := nI vb) (y6 := nI 2) fa.1 ((xf_8 (Fr_tr fC4 z3) (by decide)).trans hc2) q5
            unfold fX11_readParish_s71
            rw [if_pos rfl]
            exact ⟨C9, _, Fr_tr (xf_v (Fr_tr fC4 z3)) (xb_v d2), Fr_tr fR4 (xg_n z4), KN_tr kR4 (xg_k z4), Or.inr ⟨d1, rfl, XB_fa fa d2⟩⟩
        · rw [show fX6_takeNumber 1 2 30 C3 = _ from y1, ob_some, show fX11_puts 140 (nI (9 + n 0)) 2 30 R3 = _ from y2, ob_some]
          obtain ⟨C9, d1, d2⟩ := pF40 (w := w) (y4 := nI va) (y5 := nI 2) fa.1 ((xf_8 (Fr_tr fC3 y3) (by decide)).trans hc2) q5
          unfold fX11_readParish_s57
          rw [if_pos rfl]
          exact ⟨C9, _, Fr_tr (xf_v (Fr_tr fC3 y3)) (xb_v d2), Fr_tr fR3 (xg_n y4), KN_tr kR3 (xg_k y4), Or.inr ⟨d1, rfl, XB_fa fa d2⟩⟩
      · rw [show fX6_takeNumber 1 2 13 C2 = _ from x1, ob_some, show fX11_puts 140 (nI (4 + n 0)) 2 13 R2 = _ from x2, ob_some]
        obtain ⟨C9, d1, d2⟩ := pF31 (w := w) (y4 := nI 2) fa.1 ((xf_8 (Fr_tr fC2 x3) (by decide)).trans hc2) q5
        unfold fX11_readParish_s43
        rw [if_pos rfl]
        exact ⟨C9, _, Fr_tr (xf_v (Fr_tr fC2 x3)) (xb_v d2), Fr_tr fR2 (xg_n x4), KN_tr kR2 (xg_k x4), Or.inr ⟨d1, rfl, XB_fa fa d2⟩⟩
    · rw [b1, ob_some, b2, ob_some]
      obtain ⟨C3, d1, d2⟩ := pF23 (w := w) fa.1 ((xf_8 b3 (by decide)).trans c1) q5
      unfold fX11_readParish_s30
      rw [if_pos rfl]
      exact ⟨C3, R2, Fr_tr (xf_v (XT_F a3)) (Fr_tr (xf_v b3) (xb_v d2)), Fr_tr (xg_n (XS_G a4)) (xg_n b4), KN_tr (xg_k (XS_G a4)) (xg_k b4), Or.inr ⟨d1, rfl, XB_fa fa d2⟩⟩
  · rw [if_neg (fun r => by have := (lt5 h05).mp r; omega), if_pos (show nI (n 0) = (5 : Int32) from congrArg nI (show n 0 = 5 by omega))]
    obtain ⟨f1, f2, f3, f4⟩ := t_fail h (show ¬ (4 : Int32) = 0 by decide)
    rw [f2, nb]
    exact ⟨_, _, xf_v f3, xg_n f4, xg_k f4, Or.inr ⟨rfl, rfl, f1⟩⟩
