theorem hasPd {C : St} {a0 n j : Nat} (hn : gI C 8 2 a0 = nI n) (h5 : n ≤ 5) (hj : j < n) : fX8_hasParish a0 (nI j) C = 1 := by
  unfold fX8_hasParish; rw [if_neg (nI_pos (by omega)), hn, if_neg (nI_ge hj (by omega))]
theorem hasP1 {C : St} {a0 : Nat} : fX8_hasParish a0 (-1) C = 0 := if_pos (by decide)
theorem le0 {v : Nat} (h : v < 2 ^ 31) : (nI v ≤ 0) ↔ v = 0 := ⟨fun q => Nat.le_zero.mp (Nat.not_lt.mp (fun r => nI_ge (a := 0) (b := v) r h q)), fun q => by subst q; decide⟩
def tlC (C : St) (j : Nat) (u e : Int32) : St := fX4_tellLeap (75 + j) u e C
theorem tl_fr {C : St} {j : Nat} {u e : Int32} : Fr (fun k a => a = 75 + j ∧ (k = 5 ∨ k = 6)) C (tlC C j u e) := by
  unfold tlC fX4_tellLeap fX4_tellLeap_s9; exact Fr_sI (Fr_sI Fr_id ⟨rfl, Or.inl rfl⟩) ⟨rfl, Or.inr rfl⟩
theorem tl_fb {C : St} {j : Nat} {u e : Int32} (h : j < 5) : Fr XB C (tlC C j u e) := Fr_mo tl_fr (fun k a q => by unfold XB; omega)
theorem tl_val {C : St} {j u e : Nat} (hu : u < 2 ^ 31) (he : 1 ≤ e) (he2 : e < 2 ^ 31) : gI (tlC C j (nI u) (nI e)) 4 5 (75 + j) = nI u ∧ gI (tlC C j (nI u) (nI e)) 4 6 (75 + j) = nI e := by
  unfold tlC fX4_tellLeap fX4_tellLeap_s9
  constructor
  · rw [gI_k (by decide), gI_s]
    rcases Nat.eq_zero_or_pos u with q | q
    · subst q; rfl
    · exact if_pos (nI_lt (a := 0) q hu)
  · rw [gI_s]
    rcases Nat.eq_or_lt_of_le he with q | q
    · rw [← q]; rfl
    · exact if_pos (nI_lt (a := 1) q he2)
theorem lF47 {C : St} {j : Nat} {u : Int32} (h : ¬ gI C 6 8 1 = 0) (h5 : j < 5) : fX8_readLeap_s47 72 1 (nI j) u C = some (tlC C j u 1) := by
  unfold fX8_readLeap_s47 fX8_readLeap_s62
  rw [igd h5 (by decide), t_numF h, ob_some, nI_clamp (by omega)]; rfl
theorem lF36 {C : St} {j : Nat} (h : ¬ gI C 6 8 1 = 0) (h5 : j < 5) : fX8_readLeap_s36 72 1 (nI j) C = some (tlC C j 1 1) := by
  unfold fX8_readLeap_s36
  rw [advF h, ob_some, t_numF h, ob_some]; exact lF47 h h5
set_option maxHeartbeats 1000000 in
theorem r_leap {C R : St} {L M q : Nat} {n : Nat → Nat} (h : LV C R L M q) (g : Gd C R q) (rs : RS R) (dv : DV C R n) : LnO C R L M q (fX8_readLeap 72 1 C) (fX11_readLeap 140 R) := by
  have hc2 := dv.2.2.1.1
  have h05 := dv.1.1
  have nb : vp_nar .boolean (0 : Int32) = 0 := by decide
  unfold fX8_readLeap fX11_readLeap
  obtain ⟨C1, R1, a1, a2, a3, a4, q1, a5, a6, lv1⟩ := t_adv h g
  have dv1 : DV C1 R1 n := DV_fr dv a3 a4 (fun k a q => by unfold XT at q; unfold XB; omega) (fun k a q => by unfold XS at q; omega)
  have rs1 : RS R1 := RS_fr a4 (by unfold XS; omega) rs
  rw [a1, ob_some, a2, ob_some, show gA R1 30 (140 + 3) 0 = nI (n 0) from dv1.2.1 0 (by omega)]
  have fC1 := XT_F a3
  have fR1 := XS_G a4
  rcases t_parish lv1 rs1 dv1.pn (by omega) with ⟨j, R2, j1, g2, b1, b2, b3, b4, lv2⟩ | ⟨C2, R2, b1, b2, b3, b4, fa⟩
  · rw [b1, ob_some, show fX11_looksAt 140 11 (nI (n 0)) R1 = some (1, R2) from b2, ob_some]
    have dv2 : DV C1 R2 n := DV_fr dv1 (Fr_id (X := XF)) b4 (fun k a q => by unfold XF at q; unfold XB; omega) (fun k a q => by unfold XG at q; omega)
    have fR2 := Fr_tr fR1 b4
    have d4 := (dv2.2.2.2.1 j j1)
    have e5 : gI C1 4 5 (75 + j) = nI (n (24 + j)) := d4.1.2.2.1
    have n24 : n (24 + j) ≤ 9 := d4.2.2.1.2.2.2.2.1
    unfold fX8_readLeap_s9 fX11_readLeap_s16 fX11_readLeap_s26 fX11_readLeap_s43
    rw [hasPd dv2.2.2.1.1 h05 j1, if_neg i10, if_neg i10, igd (by omega) (by decide), nI_clamp (by omega), show (72 : Nat) + 1 + 2 + j = 75 + j from rfl, e5, b3, show (24 : Int32) + nI j = nI (24 + j) from nI_add 24 j, igd (by omega) (by decide), nI_clamp (by omega), show gA R2 30 (140 + 3) (24 + j) = nI (n (24 + j)) from dv2.2.1 _ (by omega)]
    by_cases z : n (24 + j) = 0
    · rw [if_pos ((le0 (by omega)).mpr z), if_pos ((le0 (by omega)).mpr z)]
      obtain ⟨C3, R3, c1, c2, c3, c4, q3, c5, c6, lv3⟩ := t_adv lv2 g2
      unfold fX8_readLeap_s36
      rw [c1, ob_some, c2, ob_some]
      have fC3 := Fr_tr fC1 (XT_F c3)
      have fR3 := Fr_tr fR2 (XS_G c4)
      have hr3 : HR R3 n := fun i hi => (c4.a (by unfold XS; omega)).trans (dv2.2.1 i hi)
      rcases t_put (a := 1) (b := 9) (j := 24 + j) lv3 (by omega) (by omega) (by omega) with ⟨u, C4, R4, q4, x1, x2, x3, x4, x5, x6, x7, x8, x9, x10, lv4⟩ | ⟨C4, R4, x1, x2, x3, x4, fa⟩
      · rw [show fX6_takeNumber 1 1 9 C3 = _ from x1, ob_some, show fX11_puts 140 (nI (24 + j)) 1 9 R3 = _ from x2, ob_some]
        unfold fX8_readLeap_s47 fX11_readLeap_s59 fX8_readLeap_s62
        rw [if_neg i10, igd (show j < 5 by omega) (by decide), nI_clamp (by omega), show (29 : Int32) + nI j = nI (29 + j) from nI_add 29 j]
        have fC4 := Fr_tr fC3 x6
        have fR4 : Fr (fun k a => XG k a ∨ a = 143) R R4 := Fr_tr (Fr_mo fR3 (fun k a q => Or.inl q)) x7
        have hr4 := x8 _ hr3
        rcases t_put (a := 1) (b := 9) (j := 29 + j) lv4 (by omega) (by omega) (by omega) with ⟨e, C5, R5, q5, y1, y2, y3, y4, y5, y6, y7, y8, y9, y10, lv5⟩ | ⟨C5, R5, y1, y2, y3, y4, fa⟩
        · rw [show fX6_takeNumber 1 1 9 C4 = _ from y1, ob_some, show fX11_puts 140 (nI (29 + j)) 1 9 R4 = _ from y2, ob_some]
          unfold fX11_readLeap_s73
          rw [if_neg i10]
          have fC5 := Fr_tr fC4 y6
          have fR5 := Fr_tr fR4 y7
          have hr5 := y8 _ hr4
          have fP := tl_fr (C := C5) (j := j) (u := nI u) (e := nI e)
          have lv6 : LV (tlC C5 j (nI u) (nI e)) R5 L M q5 := LV_fr lv5 fP (Fr_id (X := fun _ _ => False)) (fun k a q => by omega) (fun k a q => q.elim)
          obtain ⟨v1, v2⟩ := tl_val (C := C5) (j := j) (u := u) (e := e) (by omega) y3 (by omega)
          refine ⟨tlC C5 j (nI u) (nI e), R5, Fr_tr (xf_v fC5) (xb_v (tl_fb (by omega))), xh_n fR5, xh_k fR5, Or.inl ⟨q5, up (up n (24 + j) u) (29 + j) e, rfl, rfl, by omega, ?_, lv6, ?_⟩⟩
          · rw [fP.i (by omega)]
            exact y10.imp_right (Or.imp_right (fun _ => by omega))
          · have N : ∀ i, i ≠ 24 + j → i ≠ 29 + j → up (up n (24 + j) u) (29 + j) e i = n i := fun i i1 i2 => by rw [up_n i2, up_n i1]
            have N24 : up (up n (24 + j) u) (29 + j) e (24 + j) = u := by rw [up_n (by omega), up_s]
            have N29 : up (up n (24 + j) u) (29 + j) e (29 + j) = e := up_s
            generalize up (up n (24 + j) u) (29 + j) e = m at *
            obtain ⟨⟨k0, k1, k2, k3, k4, k5⟩, -, ⟨l0, l1, l2, l3, l4, l5⟩, dp, dn, df⟩ := dv
            have fX : Fr (fun k a => XF k a ∨ (a = 75 + j ∧ (k = 5 ∨ k = 6))) C (tlC C5 j (nI u) (nI e)) := Fr_tr (Fr_mo fC5 (fun k a q => Or.inl q)) (Fr_mo fP (fun k a q => Or.inr q))
            have N0 := N 0 (by omega) (by omega)
            have N1 := N 1 (by omega) (by omega)
            have N2 := N 2 (by omega) (by omega)
            have N3 := N 3 (by omega) (by omega)
            have bR : ∀ i, gB R5 32 145 i = gB R 32 145 i := fun i => fR5.b (by unfold XG; omega)
            refine ⟨⟨by rw [N0]; exact k0, by rw [N1]; exact k1, by rw [N2]; exact k2, by rw [N2]; exact k3, by rw [N3]; exact k4, by rw [N3]; exact k5⟩, hr5, ?_, fun p hp => ?_, fun p hp hp5 => ?_, fun f hf => ?_⟩
            · unfold DvC
              rw [N0, N1, N2, N3, fX.i (c := 8) (k := 2) (a := 72) (by unfold XF; omega), fX.i (c := 8) (k := 3) (a := 72) (by unfold XF; omega), fX.i (c := 8) (k := 4) (a := 72) (by unfold XF; omega), fX.i (c := 8) (k := 5) (a := 72) (by unfold XF; omega), fX.i (c := 8) (k := 6) (a := 72) (by unfold XF; omega), fR5.i (c := 11) (k := 20) (a := 140) (by unfold XG; omega)]
              exact ⟨l0, l1, l2, l3, l4, l5⟩
            · rw [N0] at hp
              have := dp p hp
              by_cases ep : p = j
              · subst ep
                unfold DvP CP DvB at this ⊢
                rw [N (4 + p) (by omega) (by omega), N (9 + p) (by omega) (by omega), N (14 + p) (by omega) (by omega), N (19 + p) (by omega) (by omega), N24, N29, fX.i (c := 4) (k := 2) (a := 75 + p) (by unfold XF; omega), fX.i (c := 4) (k := 3) (a := 75 + p) (by unfold XF; omega), fX.i (c := 4) (k := 4) (a := 75 + p) (by unfold XF; omega), v1, v2, fX.i (c := 4) (k := 1) (a := 75 + p) (by unfold XF; omega), fX.j (c := 4) (k := 0) (a := 75 + p) (by unfold XF; omega), bR]
                obtain ⟨⟨o1, o2, o3, o4, o5⟩, o6, ⟨o7, o8, o9, o10, o11, o12⟩, o13⟩ := this
                exact ⟨⟨o1, o2, rfl, rfl, o5⟩, o6, ⟨o7, o8, o9, o10, by omega, by omega, by omega⟩, o13⟩
              · unfold DvP CP DvB at this ⊢
                rw [N (4 + p) (by omega) (by omega), N (9 + p) (by omega) (by omega), N (14 + p) (by omega) (by omega), N (19 + p) (by omega) (by omega), N (24 + p) (by omega) (by omega), N (29 + p) (by omega) (by omega), fX.i (c := 4) (k := 2) (a := 75 + p) (by unfold XF; omega), fX.i (c := 4) (k := 3) (a := 75 + p) (by unfold XF; omega), fX.i (c := 4) (k := 4) (a := 75 + p) (by unfold XF; omega), fX.i (c := 4) (k := 5) (a := 75 + p) (by unfold XF; omega), fX.i (c := 4) (k := 6) (a := 75 + p) (by unfold XF; omega), fX.i (c := 4) (k := 1) (a := 75 + p) (by unfold XF; omega), fX.j (c := 4) (k := 0) (a := 75 + p) (by unfold XF; omega), bR]
                exact this
            · rw [N0] at hp
              rw [N (24 + p) (by omega) (by omega), N (29 + p) (by omega) (by omega)]
              exact dn p hp hp5
            · rw [N1] at hf
              have := df f hf
              have f34 := this.2.1
              unfold DvF at this ⊢
              rw [N (34 + f) (by omega) (by omega), N (40 + f) (by omega) (by omega), N (46 + f) (by omega) (by omega), N0, N (4 + n (34 + f)) (by omega) (by omega), N (9 + n (34 + f)) (by omega) (by omega), fX.i (c := 3) (k := 1) (a := 80 + f) (by unfold XF; omega), fX.i (c := 3) (k := 2) (a := 80 + f) (by unfold XF; omega), fX.i (c := 3) (k := 3) (a := 80 + f) (by unfold XF; omega), fX.j (c := 3) (k := 0) (a := 80 + f) (by unfold XF; omega), bR]
              exact this
        · rw [show fX6_takeNumber 1 1 9 C4 = _ from y1, ob_some, show fX11_puts 140 (nI (29 + j)) 1 9 R4 = _ from y2, ob_some]
          unfold fX11_readLeap_s73
          rw [if_pos rfl]
          exact ⟨tlC C5 j (nI u) (nI 1), R5, Fr_tr (xf_v (Fr_tr fC4 y3)) (xb_v (tl_fb (by omega))), Fr_tr (xh_n fR4) (xg_n y4), KN_tr (xh_k fR4) (xg_k y4), Or.inr ⟨rfl, rfl, XB_fa fa (tl_fb (by omega))⟩⟩
      · rw [show fX6_takeNumber 1 1 9 C3 = _ from x1, ob_some, show fX11_puts 140 (nI (24 + j)) 1 9 R3 = _ from x2, ob_some]
        unfold fX11_readLeap_s59
        rw [if_pos rfl, lF47 fa.1 (by omega)]
        exact ⟨_, R4, Fr_tr (xf_v (Fr_tr fC3 x3)) (xb_v (tl_fb (by omega))), xg_n (Fr_tr fR3 x4), xg_k (Fr_tr fR3 x4), Or.inr ⟨rfl, rfl, XB_fa fa (tl_fb (by omega))⟩⟩
    · rw [if_neg (fun r => z ((le0 (by omega)).mp r)), if_neg (fun r => z ((le0 (by omega)).mp r))]
      obtain ⟨f1, f2, f3, f4⟩ := t_fail lv2 (show ¬ (3 : Int32) = 0 by decide)
      rw [f2, nb, lF36 f1.1 (by omega)]
      exact ⟨_, _, Fr_tr (xf_v (Fr_tr fC1 f3)) (xb_v (tl_fb (by omega))), xg_n (Fr_tr fR2 f4), xg_k (Fr_tr fR2 f4), Or.inr ⟨rfl, rfl, XB_fa f1 (tl_fb (by omega))⟩⟩
  · rw [b1, ob_some, show fX11_looksAt 140 11 (nI (n 0)) R1 = some (0, R2) from b2, ob_some]
    unfold fX8_readLeap_s9 fX11_readLeap_s16
    rw [hasP1, if_pos rfl, if_pos rfl]
    exact ⟨C2, R2, xf_v (Fr_tr fC1 b3), xg_n (Fr_tr fR1 b4), xg_k (Fr_tr fR1 b4), Or.inr ⟨rfl, rfl, fa⟩⟩
