-- the lines of a BOOK on both sides
def XP (k a : Nat) : Prop := XF k a ∨ (a = 90 ∧ k = 2) ∨ a = 91 ∨ a = 92
def XQ (k a : Nat) : Prop := XG k a ∨ a = 144
def XPb (k a : Nat) : Prop := (a = 90 ∧ k = 2) ∨ a = 91 ∨ a = 92
def BkL (C R : St) (n0 i : Nat) : Prop := (gA R 31 144 (3 * i) = 2 ∧ gA C 21 91 i = -1 ∧ ∃ v, 1 ≤ v ∧ v ≤ 999 ∧ gA C 22 92 i = nI v ∧ gA R 31 144 (3 * i + 1) = nI v) ∨ (∃ p, p < n0 ∧ gA C 21 91 i = nI p ∧ gA R 31 144 (3 * i + 1) = nI p ∧ ((gA R 31 144 (3 * i) = 0 ∧ gA C 22 92 i = 0) ∨ (gA R 31 144 (3 * i) = 1 ∧ ∃ v, 1 ≤ v ∧ v ≤ 99 ∧ gA C 22 92 i = nI v ∧ gA R 31 144 (3 * i + 2) = nI v)))
theorem BkL_c {C R C' R' : St} {n0 i : Nat} (h : BkL C R n0 i) (h1 : gA C' 21 91 i = gA C 21 91 i) (h2 : gA C' 22 92 i = gA C 22 92 i) (h3 : ∀ j, j < 3 * i + 3 → gA R' 31 144 j = gA R 31 144 j) : BkL C' R' n0 i := by
  unfold BkL at h ⊢
  rw [h1, h2, h3 (3 * i) (by omega), h3 (3 * i + 1) (by omega), h3 (3 * i + 2) (by omega)]
  exact h
theorem BkL_mk {C R C' R' : St} {n0 K : Nat} (h : ∀ i, i < K → BkL C R n0 i) (h1 : ∀ i, i < K → gA C' 21 91 i = gA C 21 91 i ∧ gA C' 22 92 i = gA C 22 92 i) (h3 : ∀ j, j < 3 * K → gA R' 31 144 j = gA R 31 144 j) (hK : BkL C' R' n0 K) : ∀ i, i < K + 1 → BkL C' R' n0 i := fun i hi => by
  rcases Nat.lt_or_ge i K with q | q
  · exact BkL_c (h i q) (h1 i q).1 (h1 i q).2 (fun j hj => h3 j (by omega))
  · rw [show i = K by omega]; exact hK
def BkO (C R : St) (L M q n0 K : Nat) (c : Option St) (r : Option (Int32 × St)) : Prop := ∃ C' R', Fr XP C C' ∧ Fr XQ R R' ∧ ((∃ q', c = some C' ∧ r = some (1, R') ∧ q ≤ q' ∧ (gI C' 6 5 1 = 0 ∨ gI C' 6 5 1 = 3 ∨ q < q') ∧ LV C' R' L M q' ∧ gI C' 1 2 90 = nI (K + 1) ∧ K < 40 ∧ ∀ i, i < K + 1 → BkL C' R' n0 i) ∨ (c = some C' ∧ r = some (0, R') ∧ FA C' R'))
theorem xf_p {C C' : St} (f : Fr XF C C') : Fr XP C C' := Fr_mo f (fun k a q => Or.inl q)
theorem xb_p {C C' : St} (f : Fr XPb C C') : Fr XP C C' := Fr_mo f (fun k a q => Or.inr q)
theorem xg_q {C C' : St} (f : Fr XG C C') : Fr XQ C C' := Fr_mo f (fun k a q => Or.inl q)
theorem Pb_fa {C R C' : St} (h : FA C R) (f : Fr XPb C C') : FA C' R := FA_fr h f (Fr_id (X := fun _ _ => False)) (fun k a q => by unfold XPb at q; omega) (fun k a q => q.elim)
/-- the class's line put down -/
def bkC (C : St) (K : Nat) (t : Int32) : St := sI (sA C 22 92 K t) 1 2 90 (nI (K + 1))
theorem bk_fr {C : St} {K : Nat} {t : Int32} : Fr XPb C (bkC C K t) := by unfold bkC; exact Fr_sI (Fr_sA Fr_id (by unfold XPb; omega)) (by unfold XPb; omega)
theorem bk_91 {C : St} {K : Nat} {t t1 : Int32} (hK : K < 40) (h : gI C 1 2 90 = nI K) : fX1_readLine_s91 90 1 4 92 (nI K) t C = some (bkC C K t) := by
  unfold fX1_readLine_s91 fX1_readLine_s92
  rw [igd hK (by decide), nI_clamp (by omega), show gI (sA C 22 92 K t) 1 2 90 = nI K from h, nI_1]; rfl
theorem bk_84 {C : St} {K : Nat} {t t1 : Int32} (hK : K < 40) (h : gI C 1 2 90 = nI K) : fX1_readLine_s84 90 1 4 92 (nI K) t C = some (bkC C K t) := by
  unfold fX1_readLine_s84 fX1_readLine_s92
  rw [igd hK (by decide), nI_clamp (by omega), show gI (sA C 22 92 K t) 1 2 90 = nI K from h, nI_1]; rfl
theorem bk_n {C : St} {K : Nat} {t : Int32} : gI (bkC C K t) 1 2 90 = nI (K + 1) := gI_s
theorem bk_22 {C : St} {K : Nat} {t : Int32} : gA (bkC C K t) 22 92 K = t := gA_s
theorem bk_22j {C : St} {K i : Nat} {t : Int32} (h : i < K) : gA (bkC C K t) 22 92 i = gA C 22 92 i := gA_j (by omega)
theorem bk_21 {C : St} {K i : Nat} {t : Int32} : gA (bkC C K t) 21 91 i = gA C 21 91 i := gA_c (by decide)
set_option maxHeartbeats 1000000 in
theorem b_line {C R : St} {L M q n0 K : Nat} (h : LV C R L M q) (rs : RS R) (pn : PN C R 4 0 n0) (h0 : gA R 29 142 0 = nI n0) (hK : K ≤ 40) (hc : gI C 1 2 90 = nI K) (hr : gI R 11 33 140 = nI K) (bk : ∀ i, i < K → BkL C R n0 i) : BkO C R L M q n0 K (fX1_readLine 90 1 4 C) (fX11_bookLine 140 R) := by
  have nb : vp_nar .boolean (0 : Int32) = 0 := by decide
  have h5 := pn.2.1
  unfold fX1_readLine fX11_bookLine fX11_bookLine_s7
  rw [hr, show (3 : Int32) = nI 3 from rfl, pk_mul]
  rcases t_word h 6578553 with ⟨a, b⟩ | ⟨a, b, g, -⟩
  · rw [a, b]
    unfold fX1_readLine_s8 fX11_bookLine_s15
    rw [if_pos rfl, if_pos rfl, show gA R 29 (140 + 2) 0 = nI n0 from h0]
    rcases t_parish h rs pn (by omega) with ⟨j, R1, j1, g1, b1, b2, b3, b4, lv1⟩ | ⟨C1, R1, b1, b2, b3, b4, fa⟩
    · rw [b1, ob_some, show fX11_looksAt 140 0 (nI n0) R = some (1, R1) from b2, ob_some]
      unfold fX1_readLine_s21 fX11_bookLine_s30 fX11_bookLine_s35 fX11_bookLine_s49
      rw [if_pos rfl, if_neg (m1_ne (by omega)), if_neg i10, show gI R1 11 33 140 = nI K from (b4.i (by unfold XG; omega)).trans hr]
      unfold fX1_readLine_s34
      rw [hc]
      rcases Nat.lt_or_ge K 40 with q4 | q4
      · rw [if_pos (show nI K < (40 : Int32) from nI_lt (b := 40) q4 (by omega)), if_neg (show ¬ nI K = (40 : Int32) from fun r => by have := (nI_eq (a := K) (b := 40) (by omega) (by omega)).mp r; omega)]
        obtain ⟨C2, R2, a1, a2, a3, a4, q2, a5, a6, lv2⟩ := t_adv lv1 g1
        have c2 : gI C2 1 2 90 = nI K := (a3.i (by unfold XT; omega)).trans hc
        unfold fX11_bookLine_s55
        rw [a1, ob_some, c2, igd q4 (by decide), nI_clamp (by omega), a2, ob_some, if_pos rfl, b3]
        have fC3 : Fr XPb C2 (sA C2 21 91 K (nI j)) := Fr_sA Fr_id (by unfold XPb; omega)
        have lv3 : LV (sA C2 21 91 K (nI j)) R2 L M q2 := LV_fr lv2 fC3 (Fr_id (X := fun _ _ => False)) (fun k a q => by unfold XPb at q; omega) (fun k a q => q.elim)
        have c3 : gI (sA C2 21 91 K (nI j)) 1 2 90 = nI K := c2
        have fR2 : Fr XG R R2 := Fr_tr b4 (XS_G a4)
        have fC2 : Fr XP C (sA C2 21 91 K (nI j)) := Fr_tr (xf_p (XT_F a3)) (xb_p fC3)
        have v21 : gA (sA C2 21 91 K (nI j)) 21 91 K = nI j := gA_s
        have o21 : ∀ i, i < K → gA (sA C2 21 91 K (nI j)) 21 91 i = gA C 21 91 i := fun i hi => (gA_j (by omega)).trans (a3.a (by unfold XT; omega))
        have o22 : ∀ i, gA (sA C2 21 91 K (nI j)) 22 92 i = gA C 22 92 i := fun i => (gA_c (by decide)).trans (a3.a (by unfold XT; omega))
        have o31 : ∀ i, gA R2 31 144 i = gA R 31 144 i := fun i => fR2.a (by unfold XG; omega)
        generalize sA C2 21 91 K (nI j) = C3 at *
        unfold fX1_readLine_s64 fX1_readDeed fX11_bookLine_s106
        rw [if_pos rfl, c3, show (90 : Nat) + 2 = 92 from rfl]
        rcases t_word lv3 495723311219 with ⟨k1, k2⟩ | ⟨k1, k2, g3, -⟩
        · rw [k1, k2, if_pos rfl, if_pos rfl]
          rcases t_word lv3 448545973363 with ⟨k1, k2⟩ | ⟨k1, k2, g3, -⟩
          · rw [k1, k2, if_pos rfl, if_pos rfl]
            obtain ⟨f1, f2, f3, f4⟩ := t_fail lv3 (show ¬ (1 : Int32) = 0 by decide)
            unfold fX1_readDeed_s37 fX11_bookLine_s126
            rw [advF f1.1, ob_some, ob_some, f2, nb, bk_91 (t1 := 0) q4 ((f3.i (by unfold XF; omega)).trans c3)]
            exact ⟨_, _, Fr_tr fC2 (Fr_tr (xf_p f3) (xb_p bk_fr)), Fr_tr (xg_q fR2) (xg_q f4), Or.inr ⟨rfl, rfl, Pb_fa f1 bk_fr⟩⟩
          · rw [k1, k2, if_neg i10, if_neg i10]
            obtain ⟨C4, R4, d1, d2, d3, d4, q4', d5, d6, lv4⟩ := t_adv lv3 g3
            unfold fX1_readDeed_s37 fX11_bookLine_s127 fX11_bookLine_s147 fX11_bookLine_s156
            rw [d1, ob_some, ob_some, bk_91 (t1 := 0) q4 ((d3.i (by unfold XT; omega)).trans c3), d2, ob_some, if_pos rfl, igd (show 3 * K < 135 by omega) (by decide), nI_1, igd (show 3 * K + 1 < 135 by omega) (by decide), if_pos rfl, nI_clamp (by omega), nI_clamp (by omega), show (140 : Nat) + 4 = 144 from rfl]
            have fRq : Fr XQ R4 (sA (sA R4 31 144 (3 * K) 0) 31 144 (3 * K + 1) (nI j)) := Fr_sA (Fr_sA Fr_id (Or.inr rfl)) (Or.inr rfl)
            have lv5 : LV (bkC C4 K 0) (sA (sA R4 31 144 (3 * K) 0) 31 144 (3 * K + 1) (nI j)) L M q4' := LV_fr lv4 bk_fr (Fr_sA (X := fun _ a => a = 144) (Fr_sA Fr_id rfl) rfl) (fun k a q => by unfold XPb at q; omega) (fun k a q => by omega)
            refine ⟨_, _, Fr_tr fC2 (Fr_tr (xf_p (XT_F d3)) (xb_p bk_fr)), Fr_tr (xg_q (Fr_tr fR2 (XS_G d4))) fRq, Or.inl ⟨q4', rfl, rfl, by omega, ?_, lv5, bk_n, q4, ?_⟩⟩
            · rw [bk_fr.i (by unfold XPb; omega)]
              exact d6.imp_right (Or.imp_right (fun _ => by omega))
            · refine BkL_mk bk (fun i hi => ⟨bk_21.trans ((d3.a (by unfold XT; omega)).trans (o21 i hi)), (bk_22j hi).trans ((d3.a (by unfold XT; omega)).trans (o22 i))⟩) (fun i hi => (gA_j (by omega)).trans ((gA_j (by omega)).trans ((d4.a (by unfold XS; omega)).trans (o31 i)))) (Or.inr ⟨j, j1, bk_21.trans ((d3.a (by unfold XT; omega)).trans v21), gA_s, Or.inl ⟨(gA_j (by omega)).trans gA_s, bk_22⟩⟩)
        · rw [k1, k2, if_neg i10, if_neg i10]
          obtain ⟨C4, R4, d1, d2, d3, d4, q4', d5, d6, lv4⟩ := t_adv lv3 g3
          unfold fX11_bookLine_s127 fX11_bookLine_s147 fX11_bookLine_s156
          rw [d1, ob_some, d2, ob_some, if_neg i10, igd (show 3 * K < 135 by omega) (by decide), nI_1, igd (show 3 * K + 1 < 135 by omega) (by decide), if_neg i10, nI_clamp (by omega), nI_clamp (by omega), show (140 : Nat) + 4 = 144 from rfl]
          have fRq : Fr (fun _ a => a = 144) R4 (sA (sA R4 31 144 (3 * K) 1) 31 144 (3 * K + 1) (nI j)) := Fr_sA (Fr_sA Fr_id rfl) rfl
          have lv5 : LV C4 (sA (sA R4 31 144 (3 * K) 1) 31 144 (3 * K + 1) (nI j)) L M q4' := LV_fr lv4 (Fr_id (X := fun _ _ => False)) fRq (fun k a q => q.elim) (fun k a q => by omega)
          have w0 : gA (sA (sA R4 31 144 (3 * K) 1) 31 144 (3 * K + 1) (nI j)) 31 144 (3 * K) = 1 := (gA_j (by omega)).trans gA_s
          have w1 : gA (sA (sA R4 31 144 (3 * K) 1) 31 144 (3 * K + 1) (nI j)) 31 144 (3 * K + 1) = nI j := gA_s
          have wj : ∀ i, i < 3 * K → gA (sA (sA R4 31 144 (3 * K) 1) 31 144 (3 * K + 1) (nI j)) 31 144 i = gA R 31 144 i := fun i hi => (gA_j (by omega)).trans ((gA_j (by omega)).trans ((d4.a (by unfold XS; omega)).trans (o31 i)))
          have fR5 : Fr XQ R (sA (sA R4 31 144 (3 * K) 1) 31 144 (3 * K + 1) (nI j)) := Fr_tr (xg_q (Fr_tr fR2 (XS_G d4))) (Fr_mo fRq (fun k a q => Or.inr q))
          generalize sA (sA R4 31 144 (3 * K) 1) 31 144 (3 * K + 1) (nI j) = R5 at *
          rcases t_num (a := 1) (b := 99) lv5 (by omega) (by omega) with ⟨v, C6, R6, q6, x1, x2, x3, x4, x5, x6, x7, x8, x9, x10, lv6⟩ | ⟨C6, R6, x1, x2, x3, x4, fa⟩
          · rw [show fX6_takeNumber 1 1 99 C4 = _ from x1, ob_some, show fX11_takes 140 1 99 R5 = _ from x2, ob_some]
            unfold fX1_readDeed_s21 fX11_bookLine_s170 fX11_bookLine_s187
            rw [ob_some, bk_91 (t1 := 0) q4 ((x7.i (by unfold XF; omega)).trans ((d3.i (by unfold XT; omega)).trans c3)), if_neg i10, show nI (3 * K) + 2 = nI (3 * K + 2) from nI_add _ 2, igd (show 3 * K + 2 < 135 by omega) (by decide), nI_clamp (by omega), x3, show (140 : Nat) + 4 = 144 from rfl]
            have lv7 : LV (bkC C6 K (nI v)) (sA R6 31 144 (3 * K + 2) (nI v)) L M q6 := LV_fr lv6 bk_fr (Fr_sA (X := fun _ a => a = 144) Fr_id rfl) (fun k a q => by unfold XPb at q; omega) (fun k a q => by omega)
            refine ⟨_, _, Fr_tr fC2 (Fr_tr (xf_p (Fr_tr (XT_F d3) x7)) (xb_p bk_fr)), Fr_sA (Fr_tr fR5 (xg_q x8)) (Or.inr rfl), Or.inl ⟨q6, rfl, rfl, by omega, ?_, lv7, bk_n, q4, ?_⟩⟩
            · rw [bk_fr.i (by unfold XPb; omega)]
              exact x10.imp_right (Or.imp_right (fun _ => by omega))
            · refine BkL_mk bk (fun i hi => ⟨bk_21.trans ((x7.a (by unfold XF; omega)).trans ((d3.a (by unfold XT; omega)).trans (o21 i hi))), (bk_22j hi).trans ((x7.a (by unfold XF; omega)).trans ((d3.a (by unfold XT; omega)).trans (o22 i)))⟩) (fun i hi => (gA_j (by omega)).trans ((x8.a (by unfold XG; omega)).trans (wj i hi))) (Or.inr ⟨j, j1, bk_21.trans ((x7.a (by unfold XF; omega)).trans ((d3.a (by unfold XT; omega)).trans v21)), (gA_j (by omega)).trans ((x8.a (by unfold XG; omega)).trans w1), Or.inr ⟨(gA_j (by omega)).trans ((x8.a (by unfold XG; omega)).trans w0), v, x4, x5, bk_22, gA_s⟩⟩)
          · rw [show fX6_takeNumber 1 1 99 C4 = _ from x1, ob_some, show fX11_takes 140 1 99 R5 = _ from x2, ob_some]
            unfold fX1_readDeed_s21 fX11_bookLine_s170
            rw [ob_some, bk_91 (t1 := 0) q4 ((x3.i (by unfold XF; omega)).trans ((d3.i (by unfold XT; omega)).trans c3)), if_pos rfl]
            exact ⟨_, _, Fr_tr fC2 (Fr_tr (xf_p (Fr_tr (XT_F d3) x3)) (xb_p bk_fr)), Fr_tr fR5 (xg_q x4), Or.inr ⟨rfl, rfl, Pb_fa fa bk_fr⟩⟩
      · rw [if_neg (show ¬ nI K < (40 : Int32) from nI_nlt (b := 40) q4 (by omega)), if_pos (show nI K = (40 : Int32) from congrArg nI (show K = 40 by omega))]
        obtain ⟨f1, f2, f3, f4⟩ := t_fail lv1 (show ¬ (4 : Int32) = 0 by decide)
        rw [f2, nb]
        exact ⟨_, _, xf_p f3, xg_q (Fr_tr b4 f4), Or.inr ⟨rfl, rfl, f1⟩⟩
    · rw [b1, ob_some, show fX11_looksAt 140 0 (nI n0) R = some (0, R1) from b2, ob_some]
      unfold fX1_readLine_s21 fX11_bookLine_s30
      rw [if_pos rfl, if_pos rfl, if_pos rfl]
      exact ⟨C1, R1, xf_p b3, xg_q b4, Or.inr ⟨rfl, rfl, fa⟩⟩
  · rw [a, b]
    unfold fX1_readLine_s8 fX11_bookLine_s15 fX11_bookLine_s35 fX11_bookLine_s49
    rw [if_neg i10, if_neg i10, if_neg i10, hr]
    unfold fX1_readLine_s34
    rw [hc]
    rcases Nat.lt_or_ge K 40 with q4 | q4
    · rw [if_pos (show nI K < (40 : Int32) from nI_lt (b := 40) q4 (by omega)), if_neg (show ¬ nI K = (40 : Int32) from fun r => by have := (nI_eq (a := K) (b := 40) (by omega) (by omega)).mp r; omega)]
      obtain ⟨C2, R2, a1, a2, a3, a4, q2, a5, a6, lv2⟩ := t_adv h g
      have c2 : gI C2 1 2 90 = nI K := (a3.i (by unfold XT; omega)).trans hc
      unfold fX11_bookLine_s55 fX11_bookLine_s70
      rw [a1, ob_some, c2, igd q4 (by decide), nI_clamp (by omega), a2, ob_some, if_neg i10, igd (show 3 * K < 135 by omega) (by decide), nI_clamp (by omega), show (140 : Nat) + 4 = 144 from rfl]
      have fC3 : Fr XPb C2 (sA C2 21 91 K (-1)) := Fr_sA Fr_id (by unfold XPb; omega)
      have fR3 : Fr (fun _ a => a = 144) R2 (sA R2 31 144 (3 * K) 2) := Fr_sA Fr_id rfl
      have lv3 : LV (sA C2 21 91 K (-1)) (sA R2 31 144 (3 * K) 2) L M q2 := LV_fr lv2 fC3 fR3 (fun k a q => by unfold XPb at q; omega) (fun k a q => by omega)
      have c3 : gI (sA C2 21 91 K (-1)) 1 2 90 = nI K := c2
      have fC2 : Fr XP C (sA C2 21 91 K (-1)) := Fr_tr (xf_p (XT_F a3)) (xb_p fC3)
      have fR2 : Fr XQ R (sA R2 31 144 (3 * K) 2) := Fr_tr (xg_q (XS_G a4)) (Fr_mo fR3 (fun k a q => Or.inr q))
      have v21 : gA (sA C2 21 91 K (-1)) 21 91 K = -1 := gA_s
      have o21 : ∀ i, i < K → gA (sA C2 21 91 K (-1)) 21 91 i = gA C 21 91 i := fun i hi => (gA_j (by omega)).trans (a3.a (by unfold XT; omega))
      have o22 : ∀ i, gA (sA C2 21 91 K (-1)) 22 92 i = gA C 22 92 i := fun i => (gA_c (by decide)).trans (a3.a (by unfold XT; omega))
      have w0 : gA (sA R2 31 144 (3 * K) 2) 31 144 (3 * K) = 2 := gA_s
      have o31 : ∀ i, i < 3 * K → gA (sA R2 31 144 (3 * K) 2) 31 144 i = gA R 31 144 i := fun i hi => (gA_j (by omega)).trans (a4.a (by unfold XS; omega))
      generalize sA C2 21 91 K (-1) = C3 at *
      generalize sA R2 31 144 (3 * K) 2 = R3 at *
      unfold fX1_readLine_s64
      rw [if_neg i10, c3, show (90 : Nat) + 2 = 92 from rfl]
      rcases t_num (a := 1) (b := 999) lv3 (by omega) (by omega) with ⟨v, C6, R6, q6, x1, x2, x3, x4, x5, x6, x7, x8, x9, x10, lv6⟩ | ⟨C6, R6, x1, x2, x3, x4, fa⟩
      · rw [show fX6_takeNumber 1 1 999 C3 = _ from x1, ob_some, show fX11_takes 140 1 999 R3 = _ from x2, ob_some]
        unfold fX11_bookLine_s78 fX11_bookLine_s95
        rw [bk_84 (t1 := 0) q4 ((x7.i (by unfold XF; omega)).trans c3), if_neg i10, nI_1, igd (show 3 * K + 1 < 135 by omega) (by decide), nI_clamp (by omega), x3, show (140 : Nat) + 4 = 144 from rfl]
        have lv7 : LV (bkC C6 K (nI v)) (sA R6 31 144 (3 * K + 1) (nI v)) L M q6 := LV_fr lv6 bk_fr (Fr_sA (X := fun _ a => a = 144) Fr_id rfl) (fun k a q => by unfold XPb at q; omega) (fun k a q => by omega)
        refine ⟨_, _, Fr_tr fC2 (Fr_tr (xf_p x7) (xb_p bk_fr)), Fr_sA (Fr_tr fR2 (xg_q x8)) (Or.inr rfl), Or.inl ⟨q6, rfl, rfl, by omega, ?_, lv7, bk_n, q4, ?_⟩⟩
        · rw [bk_fr.i (by unfold XPb; omega)]
          exact x10.imp_right (Or.imp_right (fun _ => by omega))
        · refine BkL_mk bk (fun i hi => ⟨bk_21.trans ((x7.a (by unfold XF; omega)).trans (o21 i hi)), (bk_22j hi).trans ((x7.a (by unfold XF; omega)).trans (o22 i))⟩) (fun i hi => (gA_j (by omega)).trans ((x8.a (by unfold XG; omega)).trans (o31 i hi))) (Or.inl ⟨(gA_j (by omega)).trans ((x8.a (by unfold XG; omega)).trans w0), bk_21.trans ((x7.a (by unfold XF; omega)).trans v21), v, x4, x5, bk_22, gA_s⟩)
      · rw [show fX6_takeNumber 1 1 999 C3 = _ from x1, ob_some, show fX11_takes 140 1 999 R3 = _ from x2, ob_some]
        unfold fX11_bookLine_s78
        rw [bk_84 (t1 := 0) q4 ((x3.i (by unfold XF; omega)).trans c3), if_pos rfl]
        exact ⟨_, _, Fr_tr fC2 (Fr_tr (xf_p x3) (xb_p bk_fr)), Fr_tr fR2 (xg_q x4), Or.inr ⟨rfl, rfl, Pb_fa fa bk_fr⟩⟩
    · rw [if_neg (show ¬ nI K < (40 : Int32) from nI_nlt (b := 40) q4 (by omega)), if_pos (show nI K = (40 : Int32) from congrArg nI (show K = 40 by omega))]
      obtain ⟨f1, f2, f3, f4⟩ := t_fail h (show ¬ (4 : Int32) = 0 by decide)
      rw [f2, nb]
      exact ⟨_, _, xf_p f3, xg_q f4, Or.inr ⟨rfl, rfl, f1⟩⟩
