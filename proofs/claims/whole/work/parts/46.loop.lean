theorem dL_law_23 : decode cL_law 23 = .ok (.iload 4, 2) := by decide +kernel
theorem dL_law_25 : decode cL_law 25 = .ok (.aload_n 0, 1) := by decide +kernel
theorem dL_law_26 : decode cL_law 26 = .ok (.arraylength, 1) := by decide +kernel
theorem dL_law_27 : decode cL_law 27 = .ok (.bipush 6, 2) := by decide +kernel
theorem dL_law_29 : decode cL_law 29 = .ok (.isub, 1) := by decide +kernel
theorem dL_law_30 : decode cL_law 30 = .ok (.if_icmp .gt 1591, 3) := by decide +kernel
theorem dL_law_33 : decode cL_law 33 = .ok (.aload_n 0, 1) := by decide +kernel
theorem dL_law_34 : decode cL_law 34 = .ok (.iload 4, 2) := by decide +kernel
theorem dL_law_36 : decode cL_law 36 = .ok (.iaload, 1) := by decide +kernel
theorem dL_law_37 : decode cL_law 37 = .ok (.bipush 63, 2) := by decide +kernel
theorem dL_law_39 : decode cL_law 39 = .ok (.iand, 1) := by decide +kernel
theorem dL_law_40 : decode cL_law 40 = .ok (.tableswitch 1575 0 44 #[196, 269, 294, 307, 320, 388, 437, 498, 535, 560, 585, 622, 647, 660, 685, 722, 759, 784, 852, 889, 902, 939, 952, 1001, 1014, 1027, 1040, 1089, 1114, 1127, 1140, 1165, 1226, 1239, 1276, 1301, 1326, 1363, 1412, 1437, 1462, 1475, 1500, 1525, 1550], 196) := by decide +kernel
theorem dL_law_1615 : decode cL_law 1615 = .ok (.iinc 4 6, 3) := by decide +kernel
theorem dL_law_1618 : decode cL_law 1618 = .ok (.goto (-1595), 3) := by decide +kernel
def Pairs (Inv : St → Prop) : Prop := pr_feed Inv ∧ pr_end Inv ∧ pr_valley Inv ∧ pr_fault Inv ∧ pr_at Inv ∧ pr_countOf Inv ∧ pr_feast Inv ∧ pr_now Inv ∧ pr_hold Inv ∧ pr_skip Inv ∧ pr_days Inv ∧ pr_undo Inv ∧ pr_next Inv ∧ pr_falls Inv ∧ pr_meet Inv ∧ pr_fair Inv ∧ pr_tune Inv ∧ pr_tuned Inv ∧ pr_agree Inv ∧ pr_agreeing Inv ∧ pr_match Inv ∧ pr_matchOn Inv ∧ pr_reform Inv ∧ pr_reformTo Inv ∧ pr_play Inv ∧ pr_crowd Inv ∧ pr_crowdOn Inv ∧ pr_wrote Inv ∧ pr_ago Inv ∧ pr_age Inv ∧ pr_ask Inv ∧ pr_born Inv ∧ pr_title Inv ∧ pr_byteAt Inv ∧ pr_drawn Inv ∧ pr_odds Inv ∧ pr_book Inv ∧ pr_told Inv ∧ pr_sentence Inv ∧ pr_said Inv ∧ pr_image Inv ∧ pr_restore Inv ∧ pr_count Inv
theorem law_sub {L i : Nat} (hL : L ≤ 384) (hi : i ≤ 400) : (nI L - 6 < nI i) ↔ L < i + 6 := by
  have e : (nI L - 6).toInt = (L : Int) - 6 := by rw [show (6 : Int32) = nI 6 from rfl]; exact pk_sub_toInt (by omega) (by omega)
  rw [Int32.lt_iff_toInt_lt, e, nI_toInt (by omega)]
  omega
set_option maxHeartbeats 4000000 in
set_option maxRecDepth 100000 in
/-- one turn of the law -/
theorem law_turn {z : Mx} {ad : Nat → Nat} {o : Option Value × St} {b u L i : Nat} {xs : Nat → Int32} {Inv : St → Prop} (X : CxOk z ad RL cL_law 7 (some .boolean) 1200) (hX : SX z b L xs) (hL : L ≤ 384) (hi0 : i ≤ 400) (hp : Pairs Inv)
    (h4 : i + 6 ≤ L → ∀ S, Inv S → (∀ S2, Inv S2 → GW z ad o S2 1615 [(0, .ref b), (1, .ref (ad 0)), (2, .ref (ad 140)), (3, .ref u), (4, .int (nI i))] []) → GW z ad o S 360 [(0, .ref b), (1, .ref (ad 0)), (2, .ref (ad 140)), (3, .ref u), (4, .int (nI i))] []) (h17 : i + 6 ≤ L → ∀ S, Inv S → (∀ S2, Inv S2 → GW z ad o S2 1615 [(0, .ref b), (1, .ref (ad 0)), (2, .ref (ad 140)), (3, .ref u), (4, .int (nI i))] []) → GW z ad o S 824 [(0, .ref b), (1, .ref (ad 0)), (2, .ref (ad 140)), (3, .ref u), (4, .int (nI i))] [])
    (S : St) (hInv : Inv S) (hend : ∀ S, GW z ad o S 1621 [(0, .ref b), (1, .ref (ad 0)), (2, .ref (ad 140)), (3, .ref u), (4, .int (nI i))] []) (hgo : i + 6 ≤ L → ∀ S2, Inv S2 → GW z ad o S2 1615 [(0, .ref b), (1, .ref (ad 0)), (2, .ref (ad 140)), (3, .ref u), (4, .int (nI i))] []) : GW z ad o S 23 [(0, .ref b), (1, .ref (ad 0)), (2, .ref (ad 140)), (3, .ref u), (4, .int (nI i))] [] := by
  refine g_iload X dL_law_23 4 rfl ?_
  refine g_aload_n X dL_law_25 0 rfl rfl ?_
  refine g_slenL X hX dL_law_26 ?_
  refine g_bipush (v := 6) X dL_law_27 (by decide) ?_
  refine g_isub X dL_law_29 ?_
  refine g_icmp_gt (tgt := 1621) X dL_law_30 (by decide) (fun _ => hend S) (fun c0 => ?_)
  have hi : i + 6 ≤ L := Nat.not_lt.mp (fun q => c0 ((law_sub hL hi0).mpr q))
  have hgo := hgo hi
  refine g_aload_n X dL_law_33 0 rfl rfl ?_
  refine g_iload X dL_law_34 4 rfl ?_
  refine g_sld (j := i) X hX dL_law_36 rfl (by omega) ?_
  refine g_bipush (v := 63) X dL_law_37 (by decide) ?_
  refine g_iand X dL_law_39 ?_
  by_cases c0 : (xs i &&& 63) = 0
  · refine g_tabIn (tgt := 236) (off := 196) X dL_law_40 (by rw [c0]; decide) (by rw [c0]; decide) (by rw [c0]; decide) (by decide) ?_
    exact law_feed X hX hi hp.1 S hInv hgo
  by_cases c1 : (xs i &&& 63) = 1
  · refine g_tabIn (tgt := 309) (off := 269) X dL_law_40 (by rw [c1]; decide) (by rw [c1]; decide) (by rw [c1]; decide) (by decide) ?_
    exact law_end X hX hi hp.2.1 S hInv hgo
  by_cases c2 : (xs i &&& 63) = 2
  · refine g_tabIn (tgt := 334) (off := 294) X dL_law_40 (by rw [c2]; decide) (by rw [c2]; decide) (by rw [c2]; decide) (by decide) ?_
    exact law_valley X hX hi hp.2.2.1 S hInv hgo
  by_cases c3 : (xs i &&& 63) = 3
  · refine g_tabIn (tgt := 347) (off := 307) X dL_law_40 (by rw [c3]; decide) (by rw [c3]; decide) (by rw [c3]; decide) (by decide) ?_
    exact law_fault X hX hi hp.2.2.2.1 S hInv hgo
  by_cases c4 : (xs i &&& 63) = 4
  · refine g_tabIn (tgt := 360) (off := 320) X dL_law_40 (by rw [c4]; decide) (by rw [c4]; decide) (by rw [c4]; decide) (by decide) ?_
    exact h4 hi S hInv hgo
  by_cases c5 : (xs i &&& 63) = 5
  · refine g_tabIn (tgt := 428) (off := 388) X dL_law_40 (by rw [c5]; decide) (by rw [c5]; decide) (by rw [c5]; decide) (by decide) ?_
    exact law_at X hX hi hp.2.2.2.2.1 S hInv hgo
  by_cases c6 : (xs i &&& 63) = 6
  · refine g_tabIn (tgt := 477) (off := 437) X dL_law_40 (by rw [c6]; decide) (by rw [c6]; decide) (by rw [c6]; decide) (by decide) ?_
    exact law_countOf X hX hi hp.2.2.2.2.2.1 S hInv hgo
  by_cases c7 : (xs i &&& 63) = 7
  · refine g_tabIn (tgt := 538) (off := 498) X dL_law_40 (by rw [c7]; decide) (by rw [c7]; decide) (by rw [c7]; decide) (by decide) ?_
    exact law_feast X hX hi hp.2.2.2.2.2.2.1 S hInv hgo
  by_cases c8 : (xs i &&& 63) = 8
  · refine g_tabIn (tgt := 575) (off := 535) X dL_law_40 (by rw [c8]; decide) (by rw [c8]; decide) (by rw [c8]; decide) (by decide) ?_
    exact law_now X hX hi hp.2.2.2.2.2.2.2.1 S hInv hgo
  by_cases c9 : (xs i &&& 63) = 9
  · refine g_tabIn (tgt := 600) (off := 560) X dL_law_40 (by rw [c9]; decide) (by rw [c9]; decide) (by rw [c9]; decide) (by decide) ?_
    exact law_hold X hX hi hp.2.2.2.2.2.2.2.2.1 S hInv hgo
  by_cases c10 : (xs i &&& 63) = 10
  · refine g_tabIn (tgt := 625) (off := 585) X dL_law_40 (by rw [c10]; decide) (by rw [c10]; decide) (by rw [c10]; decide) (by decide) ?_
    exact law_skip X hX hi hp.2.2.2.2.2.2.2.2.2.1 S hInv hgo
  by_cases c11 : (xs i &&& 63) = 11
  · refine g_tabIn (tgt := 662) (off := 622) X dL_law_40 (by rw [c11]; decide) (by rw [c11]; decide) (by rw [c11]; decide) (by decide) ?_
    exact law_days X hX hi hp.2.2.2.2.2.2.2.2.2.2.1 S hInv hgo
  by_cases c12 : (xs i &&& 63) = 12
  · refine g_tabIn (tgt := 687) (off := 647) X dL_law_40 (by rw [c12]; decide) (by rw [c12]; decide) (by rw [c12]; decide) (by decide) ?_
    exact law_undo X hX hi hp.2.2.2.2.2.2.2.2.2.2.2.1 S hInv hgo
  by_cases c13 : (xs i &&& 63) = 13
  · refine g_tabIn (tgt := 700) (off := 660) X dL_law_40 (by rw [c13]; decide) (by rw [c13]; decide) (by rw [c13]; decide) (by decide) ?_
    exact law_next X hX hi hp.2.2.2.2.2.2.2.2.2.2.2.2.1 S hInv hgo
  by_cases c14 : (xs i &&& 63) = 14
  · refine g_tabIn (tgt := 725) (off := 685) X dL_law_40 (by rw [c14]; decide) (by rw [c14]; decide) (by rw [c14]; decide) (by decide) ?_
    exact law_falls X hX hi hp.2.2.2.2.2.2.2.2.2.2.2.2.2.1 S hInv hgo
  by_cases c15 : (xs i &&& 63) = 15
  · refine g_tabIn (tgt := 762) (off := 722) X dL_law_40 (by rw [c15]; decide) (by rw [c15]; decide) (by rw [c15]; decide) (by decide) ?_
    exact law_meet X hX hi hp.2.2.2.2.2.2.2.2.2.2.2.2.2.2.1 S hInv hgo
  by_cases c16 : (xs i &&& 63) = 16
  · refine g_tabIn (tgt := 799) (off := 759) X dL_law_40 (by rw [c16]; decide) (by rw [c16]; decide) (by rw [c16]; decide) (by decide) ?_
    exact law_fair X hX hi hp.2.2.2.2.2.2.2.2.2.2.2.2.2.2.2.1 S hInv hgo
  by_cases c17 : (xs i &&& 63) = 17
  · refine g_tabIn (tgt := 824) (off := 784) X dL_law_40 (by rw [c17]; decide) (by rw [c17]; decide) (by rw [c17]; decide) (by decide) ?_
    exact h17 hi S hInv hgo
  by_cases c18 : (xs i &&& 63) = 18
  · refine g_tabIn (tgt := 892) (off := 852) X dL_law_40 (by rw [c18]; decide) (by rw [c18]; decide) (by rw [c18]; decide) (by decide) ?_
    exact law_tune X hX hi hp.2.2.2.2.2.2.2.2.2.2.2.2.2.2.2.2.1 S hInv hgo
  by_cases c19 : (xs i &&& 63) = 19
  · refine g_tabIn (tgt := 929) (off := 889) X dL_law_40 (by rw [c19]; decide) (by rw [c19]; decide) (by rw [c19]; decide) (by decide) ?_
    exact law_tuned X hX hi hp.2.2.2.2.2.2.2.2.2.2.2.2.2.2.2.2.2.1 S hInv hgo
  by_cases c20 : (xs i &&& 63) = 20
  · refine g_tabIn (tgt := 942) (off := 902) X dL_law_40 (by rw [c20]; decide) (by rw [c20]; decide) (by rw [c20]; decide) (by decide) ?_
    exact law_agree X hX hi hp.2.2.2.2.2.2.2.2.2.2.2.2.2.2.2.2.2.2.1 S hInv hgo
  by_cases c21 : (xs i &&& 63) = 21
  · refine g_tabIn (tgt := 979) (off := 939) X dL_law_40 (by rw [c21]; decide) (by rw [c21]; decide) (by rw [c21]; decide) (by decide) ?_
    exact law_agreeing X hX hi hp.2.2.2.2.2.2.2.2.2.2.2.2.2.2.2.2.2.2.2.1 S hInv hgo
  by_cases c22 : (xs i &&& 63) = 22
  · refine g_tabIn (tgt := 992) (off := 952) X dL_law_40 (by rw [c22]; decide) (by rw [c22]; decide) (by rw [c22]; decide) (by decide) ?_
    exact law_match X hX hi hp.2.2.2.2.2.2.2.2.2.2.2.2.2.2.2.2.2.2.2.2.1 S hInv hgo
  by_cases c23 : (xs i &&& 63) = 23
  · refine g_tabIn (tgt := 1041) (off := 1001) X dL_law_40 (by rw [c23]; decide) (by rw [c23]; decide) (by rw [c23]; decide) (by decide) ?_
    exact law_matchOn X hX hi hp.2.2.2.2.2.2.2.2.2.2.2.2.2.2.2.2.2.2.2.2.2.1 S hInv hgo
  by_cases c24 : (xs i &&& 63) = 24
  · refine g_tabIn (tgt := 1054) (off := 1014) X dL_law_40 (by rw [c24]; decide) (by rw [c24]; decide) (by rw [c24]; decide) (by decide) ?_
    exact law_reform X hX hi hp.2.2.2.2.2.2.2.2.2.2.2.2.2.2.2.2.2.2.2.2.2.2.1 S hInv hgo
  by_cases c25 : (xs i &&& 63) = 25
  · refine g_tabIn (tgt := 1067) (off := 1027) X dL_law_40 (by rw [c25]; decide) (by rw [c25]; decide) (by rw [c25]; decide) (by decide) ?_
    exact law_reformTo X hX hi hp.2.2.2.2.2.2.2.2.2.2.2.2.2.2.2.2.2.2.2.2.2.2.2.1 S hInv hgo
  by_cases c26 : (xs i &&& 63) = 26
  · refine g_tabIn (tgt := 1080) (off := 1040) X dL_law_40 (by rw [c26]; decide) (by rw [c26]; decide) (by rw [c26]; decide) (by decide) ?_
    exact law_play X hX hi hp.2.2.2.2.2.2.2.2.2.2.2.2.2.2.2.2.2.2.2.2.2.2.2.2.1 S hInv hgo
  by_cases c27 : (xs i &&& 63) = 27
  · refine g_tabIn (tgt := 1129) (off := 1089) X dL_law_40 (by rw [c27]; decide) (by rw [c27]; decide) (by rw [c27]; decide) (by decide) ?_
    exact law_crowd X hX hi hp.2.2.2.2.2.2.2.2.2.2.2.2.2.2.2.2.2.2.2.2.2.2.2.2.2.1 S hInv hgo
  by_cases c28 : (xs i &&& 63) = 28
  · refine g_tabIn (tgt := 1154) (off := 1114) X dL_law_40 (by rw [c28]; decide) (by rw [c28]; decide) (by rw [c28]; decide) (by decide) ?_
    exact law_crowdOn X hX hi hp.2.2.2.2.2.2.2.2.2.2.2.2.2.2.2.2.2.2.2.2.2.2.2.2.2.2.1 S hInv hgo
  by_cases c29 : (xs i &&& 63) = 29
  · refine g_tabIn (tgt := 1167) (off := 1127) X dL_law_40 (by rw [c29]; decide) (by rw [c29]; decide) (by rw [c29]; decide) (by decide) ?_
    exact law_wrote X hX hi hp.2.2.2.2.2.2.2.2.2.2.2.2.2.2.2.2.2.2.2.2.2.2.2.2.2.2.2.1 S hInv hgo
  by_cases c30 : (xs i &&& 63) = 30
  · refine g_tabIn (tgt := 1180) (off := 1140) X dL_law_40 (by rw [c30]; decide) (by rw [c30]; decide) (by rw [c30]; decide) (by decide) ?_
    exact law_ago X hX hi hp.2.2.2.2.2.2.2.2.2.2.2.2.2.2.2.2.2.2.2.2.2.2.2.2.2.2.2.2.1 S hInv hgo
  by_cases c31 : (xs i &&& 63) = 31
  · refine g_tabIn (tgt := 1205) (off := 1165) X dL_law_40 (by rw [c31]; decide) (by rw [c31]; decide) (by rw [c31]; decide) (by decide) ?_
    exact law_age X hX hi hp.2.2.2.2.2.2.2.2.2.2.2.2.2.2.2.2.2.2.2.2.2.2.2.2.2.2.2.2.2.1 S hInv hgo
  by_cases c32 : (xs i &&& 63) = 32
  · refine g_tabIn (tgt := 1266) (off := 1226) X dL_law_40 (by rw [c32]; decide) (by rw [c32]; decide) (by rw [c32]; decide) (by decide) ?_
    exact law_ask X hX hi hp.2.2.2.2.2.2.2.2.2.2.2.2.2.2.2.2.2.2.2.2.2.2.2.2.2.2.2.2.2.2.1 S hInv hgo
  by_cases c33 : (xs i &&& 63) = 33
  · refine g_tabIn (tgt := 1279) (off := 1239) X dL_law_40 (by rw [c33]; decide) (by rw [c33]; decide) (by rw [c33]; decide) (by decide) ?_
    exact law_born X hX hi hp.2.2.2.2.2.2.2.2.2.2.2.2.2.2.2.2.2.2.2.2.2.2.2.2.2.2.2.2.2.2.2.1 S hInv hgo
  by_cases c34 : (xs i &&& 63) = 34
  · refine g_tabIn (tgt := 1316) (off := 1276) X dL_law_40 (by rw [c34]; decide) (by rw [c34]; decide) (by rw [c34]; decide) (by decide) ?_
    exact law_title X hX hi hp.2.2.2.2.2.2.2.2.2.2.2.2.2.2.2.2.2.2.2.2.2.2.2.2.2.2.2.2.2.2.2.2.1 S hInv hgo
  by_cases c35 : (xs i &&& 63) = 35
  · refine g_tabIn (tgt := 1341) (off := 1301) X dL_law_40 (by rw [c35]; decide) (by rw [c35]; decide) (by rw [c35]; decide) (by decide) ?_
    exact law_byteAt X hX hi hp.2.2.2.2.2.2.2.2.2.2.2.2.2.2.2.2.2.2.2.2.2.2.2.2.2.2.2.2.2.2.2.2.2.1 S hInv hgo
  by_cases c36 : (xs i &&& 63) = 36
  · refine g_tabIn (tgt := 1366) (off := 1326) X dL_law_40 (by rw [c36]; decide) (by rw [c36]; decide) (by rw [c36]; decide) (by decide) ?_
    exact law_drawn X hX hi hp.2.2.2.2.2.2.2.2.2.2.2.2.2.2.2.2.2.2.2.2.2.2.2.2.2.2.2.2.2.2.2.2.2.2.1 S hInv hgo
  by_cases c37 : (xs i &&& 63) = 37
  · refine g_tabIn (tgt := 1403) (off := 1363) X dL_law_40 (by rw [c37]; decide) (by rw [c37]; decide) (by rw [c37]; decide) (by decide) ?_
    exact law_odds X hX hi hp.2.2.2.2.2.2.2.2.2.2.2.2.2.2.2.2.2.2.2.2.2.2.2.2.2.2.2.2.2.2.2.2.2.2.2.1 S hInv hgo
  by_cases c38 : (xs i &&& 63) = 38
  · refine g_tabIn (tgt := 1452) (off := 1412) X dL_law_40 (by rw [c38]; decide) (by rw [c38]; decide) (by rw [c38]; decide) (by decide) ?_
    exact law_book X hX hi hp.2.2.2.2.2.2.2.2.2.2.2.2.2.2.2.2.2.2.2.2.2.2.2.2.2.2.2.2.2.2.2.2.2.2.2.2.1 S hInv hgo
  by_cases c39 : (xs i &&& 63) = 39
  · refine g_tabIn (tgt := 1477) (off := 1437) X dL_law_40 (by rw [c39]; decide) (by rw [c39]; decide) (by rw [c39]; decide) (by decide) ?_
    exact law_told X hX hi hp.2.2.2.2.2.2.2.2.2.2.2.2.2.2.2.2.2.2.2.2.2.2.2.2.2.2.2.2.2.2.2.2.2.2.2.2.2.1 S hInv hgo
  by_cases c40 : (xs i &&& 63) = 40
  · refine g_tabIn (tgt := 1502) (off := 1462) X dL_law_40 (by rw [c40]; decide) (by rw [c40]; decide) (by rw [c40]; decide) (by decide) ?_
    exact law_sentence X hX hi hp.2.2.2.2.2.2.2.2.2.2.2.2.2.2.2.2.2.2.2.2.2.2.2.2.2.2.2.2.2.2.2.2.2.2.2.2.2.2.1 S hInv hgo
  by_cases c41 : (xs i &&& 63) = 41
  · refine g_tabIn (tgt := 1515) (off := 1475) X dL_law_40 (by rw [c41]; decide) (by rw [c41]; decide) (by rw [c41]; decide) (by decide) ?_
    exact law_said X hX hi hp.2.2.2.2.2.2.2.2.2.2.2.2.2.2.2.2.2.2.2.2.2.2.2.2.2.2.2.2.2.2.2.2.2.2.2.2.2.2.2.1 S hInv hgo
  by_cases c42 : (xs i &&& 63) = 42
  · refine g_tabIn (tgt := 1540) (off := 1500) X dL_law_40 (by rw [c42]; decide) (by rw [c42]; decide) (by rw [c42]; decide) (by decide) ?_
    exact law_image X hX hi hp.2.2.2.2.2.2.2.2.2.2.2.2.2.2.2.2.2.2.2.2.2.2.2.2.2.2.2.2.2.2.2.2.2.2.2.2.2.2.2.2.1 S hInv hgo
  by_cases c43 : (xs i &&& 63) = 43
  · refine g_tabIn (tgt := 1565) (off := 1525) X dL_law_40 (by rw [c43]; decide) (by rw [c43]; decide) (by rw [c43]; decide) (by decide) ?_
    exact law_restore X hX hi hp.2.2.2.2.2.2.2.2.2.2.2.2.2.2.2.2.2.2.2.2.2.2.2.2.2.2.2.2.2.2.2.2.2.2.2.2.2.2.2.2.2.1 S hInv hgo
  by_cases c44 : (xs i &&& 63) = 44
  · refine g_tabIn (tgt := 1590) (off := 1550) X dL_law_40 (by rw [c44]; decide) (by rw [c44]; decide) (by rw [c44]; decide) (by decide) ?_
    exact law_count X hX hi hp.2.2.2.2.2.2.2.2.2.2.2.2.2.2.2.2.2.2.2.2.2.2.2.2.2.2.2.2.2.2.2.2.2.2.2.2.2.2.2.2.2.2 S hInv hgo
  have hv : (xs i &&& 63).toInt < 0 ∨ 44 < (xs i &&& 63).toInt := by
    have := ti_ne (n := 0) c0 (by decide)
    have := ti_ne (n := 1) c1 (by decide)
    have := ti_ne (n := 2) c2 (by decide)
    have := ti_ne (n := 3) c3 (by decide)
    have := ti_ne (n := 4) c4 (by decide)
    have := ti_ne (n := 5) c5 (by decide)
    have := ti_ne (n := 6) c6 (by decide)
    have := ti_ne (n := 7) c7 (by decide)
    have := ti_ne (n := 8) c8 (by decide)
    have := ti_ne (n := 9) c9 (by decide)
    have := ti_ne (n := 10) c10 (by decide)
    have := ti_ne (n := 11) c11 (by decide)
    have := ti_ne (n := 12) c12 (by decide)
    have := ti_ne (n := 13) c13 (by decide)
    have := ti_ne (n := 14) c14 (by decide)
    have := ti_ne (n := 15) c15 (by decide)
    have := ti_ne (n := 16) c16 (by decide)
    have := ti_ne (n := 17) c17 (by decide)
    have := ti_ne (n := 18) c18 (by decide)
    have := ti_ne (n := 19) c19 (by decide)
    have := ti_ne (n := 20) c20 (by decide)
    have := ti_ne (n := 21) c21 (by decide)
    have := ti_ne (n := 22) c22 (by decide)
    have := ti_ne (n := 23) c23 (by decide)
    have := ti_ne (n := 24) c24 (by decide)
    have := ti_ne (n := 25) c25 (by decide)
    have := ti_ne (n := 26) c26 (by decide)
    have := ti_ne (n := 27) c27 (by decide)
    have := ti_ne (n := 28) c28 (by decide)
    have := ti_ne (n := 29) c29 (by decide)
    have := ti_ne (n := 30) c30 (by decide)
    have := ti_ne (n := 31) c31 (by decide)
    have := ti_ne (n := 32) c32 (by decide)
    have := ti_ne (n := 33) c33 (by decide)
    have := ti_ne (n := 34) c34 (by decide)
    have := ti_ne (n := 35) c35 (by decide)
    have := ti_ne (n := 36) c36 (by decide)
    have := ti_ne (n := 37) c37 (by decide)
    have := ti_ne (n := 38) c38 (by decide)
    have := ti_ne (n := 39) c39 (by decide)
    have := ti_ne (n := 40) c40 (by decide)
    have := ti_ne (n := 41) c41 (by decide)
    have := ti_ne (n := 42) c42 (by decide)
    have := ti_ne (n := 43) c43 (by decide)
    have := ti_ne (n := 44) c44 (by decide)
    omega
  exact g_tabOut (tgt := 1615) X dL_law_40 hv (by decide) (hgo S hInv)
theorem law_loop {z : Mx} {ad : Nat → Nat} {o : Option Value × St} {b u L : Nat} {xs : Nat → Int32} {Inv : St → Prop} (X : CxOk z ad RL cL_law 7 (some .boolean) 1200) (hX : SX z b L xs) (hL : L ≤ 384) (hp : Pairs Inv)
    (h4 : ∀ i, i + 6 ≤ L → ∀ S, Inv S → (∀ S2, Inv S2 → GW z ad o S2 1615 [(0, .ref b), (1, .ref (ad 0)), (2, .ref (ad 140)), (3, .ref u), (4, .int (nI i))] []) → GW z ad o S 360 [(0, .ref b), (1, .ref (ad 0)), (2, .ref (ad 140)), (3, .ref u), (4, .int (nI i))] []) (h17 : ∀ i, i + 6 ≤ L → ∀ S, Inv S → (∀ S2, Inv S2 → GW z ad o S2 1615 [(0, .ref b), (1, .ref (ad 0)), (2, .ref (ad 140)), (3, .ref u), (4, .int (nI i))] []) → GW z ad o S 824 [(0, .ref b), (1, .ref (ad 0)), (2, .ref (ad 140)), (3, .ref u), (4, .int (nI i))] []) (hend : ∀ i S, GW z ad o S 1621 [(0, .ref b), (1, .ref (ad 0)), (2, .ref (ad 140)), (3, .ref u), (4, .int (nI i))] []) : ∀ (n i : Nat), i ≤ 390 → 400 ≤ i + 6 * n → ∀ S, Inv S → GW z ad o S 23 [(0, .ref b), (1, .ref (ad 0)), (2, .ref (ad 140)), (3, .ref u), (4, .int (nI i))] [] := by
  intro n
  induction n with
  | zero => intro i h1 h2; omega
  | succ n ih =>
    intro i h1 h2 S hInv
    refine law_turn X hX hL (by omega) hp (h4 i) (h17 i) S hInv (hend i) (fun hi S2 hI2 => ?_)
    refine g_iinc (v := nI (i + 6)) X dL_law_1615 4 rfl (nI_add i 6) (by decide) (lv' := [(4, .int (nI (i + 6))), (0, .ref b), (1, .ref (ad 0)), (2, .ref (ad 140)), (3, .ref u)]) rfl ?_
    refine g_goto (tgt := 23) X dL_law_1618 (by decide) ?_
    exact g_perm [1, 2, 3, 4, 0] rfl (ih (i + 6) (by omega) (by omega) S2 hI2)

