theorem dX5_readFrom_0 : decode cX5_readFrom 0 = .ok (.aload_n 0, 1) := by decide +kernel
theorem dX5_readFrom_1 : decode cX5_readFrom 1 = .ok (.invokevirtual 28, 3) := by decide +kernel
theorem dX5_readFrom_4 : decode cX5_readFrom 4 = .ok (.aload_n 1, 1) := by decide +kernel
theorem dX5_readFrom_5 : decode cX5_readFrom 5 = .ok (.sipush 200, 3) := by decide +kernel
theorem dX5_readFrom_8 : decode cX5_readFrom 8 = .ok (.invokevirtual 31, 3) := by decide +kernel
theorem dX5_readFrom_11 : decode cX5_readFrom 11 = .ok (.aload_n 0, 1) := by decide +kernel
theorem dX5_readFrom_12 : decode cX5_readFrom 12 = .ok (.aload_n 1, 1) := by decide +kernel
theorem dX5_readFrom_13 : decode cX5_readFrom 13 = .ok (.aload_n 2, 1) := by decide +kernel
theorem dX5_readFrom_14 : decode cX5_readFrom 14 = .ok (.iconst 1, 1) := by decide +kernel
theorem dX5_readFrom_15 : decode cX5_readFrom 15 = .ok (.invokevirtual 37, 3) := by decide +kernel
theorem dX5_readFrom_18 : decode cX5_readFrom 18 = .ok (.aload_n 1, 1) := by decide +kernel
theorem dX5_readFrom_19 : decode cX5_readFrom 19 = .ok (.invokevirtual 41, 3) := by decide +kernel
theorem dX5_readFrom_22 : decode cX5_readFrom 22 = .ok (.ifCond .eq 8, 3) := by decide +kernel
theorem dX5_readFrom_25 : decode cX5_readFrom 25 = .ok (.aload_n 1, 1) := by decide +kernel
theorem dX5_readFrom_26 : decode cX5_readFrom 26 = .ok (.iconst 1, 1) := by decide +kernel
theorem dX5_readFrom_27 : decode cX5_readFrom 27 = .ok (.invokevirtual 45, 3) := by decide +kernel
theorem dX5_readFrom_30 : decode cX5_readFrom 30 = .ok (.return_, 1) := by decide +kernel
theorem dX10_sentence_0 : decode cX10_sentence 0 = .ok (.aload_n 0, 1) := by decide +kernel
theorem dX10_sentence_1 : decode cX10_sentence 1 = .ok (.getfield 33, 3) := by decide +kernel
theorem dX10_sentence_4 : decode cX10_sentence 4 = .ok (.aload_n 0, 1) := by decide +kernel
theorem dX10_sentence_5 : decode cX10_sentence 5 = .ok (.getfield 10, 3) := by decide +kernel
theorem dX10_sentence_8 : decode cX10_sentence 8 = .ok (.aload_n 0, 1) := by decide +kernel
theorem dX10_sentence_9 : decode cX10_sentence 9 = .ok (.getfield 19, 3) := by decide +kernel
theorem dX10_sentence_12 : decode cX10_sentence 12 = .ok (.getfield 116, 3) := by decide +kernel
theorem dX10_sentence_15 : decode cX10_sentence 15 = .ok (.invokevirtual 351, 3) := by decide +kernel
theorem dX10_sentence_18 : decode cX10_sentence 18 = .ok (.aload_n 0, 1) := by decide +kernel
theorem dX10_sentence_19 : decode cX10_sentence 19 = .ok (.invokevirtual 100, 3) := by decide +kernel
theorem dX10_sentence_22 : decode cX10_sentence 22 = .ok (.aload_n 0, 1) := by decide +kernel
theorem dX10_sentence_23 : decode cX10_sentence 23 = .ok (.getfield 103, 3) := by decide +kernel
theorem dX10_sentence_26 : decode cX10_sentence 26 = .ok (.ifCond .eq 13, 3) := by decide +kernel
theorem dX10_sentence_29 : decode cX10_sentence 29 = .ok (.iconst (-1), 1) := by decide +kernel
theorem dX10_sentence_30 : decode cX10_sentence 30 = .ok (.aload_n 0, 1) := by decide +kernel
theorem dX10_sentence_31 : decode cX10_sentence 31 = .ok (.getfield 10, 3) := by decide +kernel
theorem dX10_sentence_34 : decode cX10_sentence 34 = .ok (.getfield 106, 3) := by decide +kernel
theorem dX10_sentence_37 : decode cX10_sentence 37 = .ok (.isub, 1) := by decide +kernel
theorem dX10_sentence_38 : decode cX10_sentence 38 = .ok (.ireturn, 1) := by decide +kernel
theorem dX10_sentence_39 : decode cX10_sentence 39 = .ok (.aload_n 0, 1) := by decide +kernel
theorem dX10_sentence_40 : decode cX10_sentence 40 = .ok (.getfield 19, 3) := by decide +kernel
theorem dX10_sentence_43 : decode cX10_sentence 43 = .ok (.getfield 352, 3) := by decide +kernel
theorem dX10_sentence_46 : decode cX10_sentence 46 = .ok (.aload_n 0, 1) := by decide +kernel
theorem dX10_sentence_47 : decode cX10_sentence 47 = .ok (.getfield 33, 3) := by decide +kernel
theorem dX10_sentence_50 : decode cX10_sentence 50 = .ok (.invokevirtual 355, 3) := by decide +kernel
theorem dX10_sentence_53 : decode cX10_sentence 53 = .ok (.aload_n 0, 1) := by decide +kernel
theorem dX10_sentence_54 : decode cX10_sentence 54 = .ok (.getfield 19, 3) := by decide +kernel
theorem dX10_sentence_57 : decode cX10_sentence 57 = .ok (.getfield 352, 3) := by decide +kernel
theorem dX10_sentence_60 : decode cX10_sentence 60 = .ok (.getfield 358, 3) := by decide +kernel
theorem dX10_sentence_63 : decode cX10_sentence 63 = .ok (.ireturn, 1) := by decide +kernel
theorem flX10_33 : FL RX10 33 10 3 := ⟨RX10, TX10, 15, tyX10, cd_10, by decide, Or.inl (inr_2 _ (List.mem_of_getElem? (i := 4) rfl))⟩
theorem mlX10_351 : MLv RX10 351 RX5 5 yX5_readFrom cX5_readFrom 3 none 2 := ⟨(inr_58 _ (List.mem_of_getElem? (i := 23) rfl)), (inr_58 _ (List.mem_of_getElem? (i := 20) rfl)), (inr_58 _ (List.mem_of_getElem? (i := 21) rfl)), (inr_58 _ (List.mem_of_getElem? (i := 22) rfl)), (inr_2 _ (List.mem_of_getElem? (i := 3) rfl)), rfl, ⟨by decide, by decide, by decide +kernel⟩, by decide, by decide, rfl⟩
theorem mlX10_355 : MLv RX10 355 RX5 5 yX5_copyFrom cX5_copyFrom 3 none 1 := ⟨(inr_61 _ (List.mem_of_getElem? (i := 7) rfl)), (inr_61 _ (List.mem_of_getElem? (i := 4) rfl)), (inr_61 _ (List.mem_of_getElem? (i := 5) rfl)), (inr_61 _ (List.mem_of_getElem? (i := 6) rfl)), (inr_2 _ (List.mem_of_getElem? (i := 3) rfl)), rfl, ⟨by decide, by decide, by decide +kernel⟩, by decide, by decide, rfl⟩
theorem mlX5_28 : MLv RX5 28 RX5 5 yX5_forget cX5_forget 1 none 0 := ⟨(inr_16 _ (List.mem_of_getElem? (i := 16) rfl)), (inr_59 _ (List.mem_of_getElem? (i := 0) rfl)), (inr_16 _ (List.mem_of_getElem? (i := 14) rfl)), (inr_16 _ (List.mem_of_getElem? (i := 15) rfl)), (inr_2 _ (List.mem_of_getElem? (i := 3) rfl)), rfl, ⟨by decide, by decide, by decide +kernel⟩, by decide, by decide, rfl⟩
theorem mlX5_31 : MLv RX5 31 RX6 6 yX6_open cX6_open 2 none 1 := ⟨(inr_10 _ (List.mem_of_getElem? (i := 10) rfl)), (inr_59 _ (List.mem_of_getElem? (i := 1) rfl)), (inr_10 _ (List.mem_of_getElem? (i := 8) rfl)), (inr_10 _ (List.mem_of_getElem? (i := 9) rfl)), (inr_1 _ (List.mem_of_getElem? (i := 15) rfl)), rfl, ⟨by decide, by decide, by decide +kernel⟩, by decide, by decide, rfl⟩
theorem mlX5_41 : MLv RX5 41 RX6 6 yX6_goesOn cX6_goesOn 1 (some .boolean) 0 := ⟨(inr_11 _ (List.mem_of_getElem? (i := 9) rfl)), (inr_61 _ (List.mem_of_getElem? (i := 3) rfl)), (inr_11 _ (List.mem_of_getElem? (i := 7) rfl)), (inr_11 _ (List.mem_of_getElem? (i := 8) rfl)), (inr_1 _ (List.mem_of_getElem? (i := 15) rfl)), rfl, ⟨by decide, by decide, by decide +kernel⟩, by decide, by decide, rfl⟩
def fX5_readFrom_s4 (a0 : Nat) (a1 : Nat) (a2 : Nat)   (S : St) : Option St :=
  (fX6_open a1 (200 : Int32) S).bind fun r_1 =>
  (fX5_readCond a0 a1 a2 (1 : Int32) r_1).bind fun r_3 =>
  if (fX6_goesOn a1 r_3) = 0 then (some r_3) else
  (some (fX6_fail a1 (1 : Int32) r_3))
def fX5_readFrom (a0 : Nat) (a1 : Nat) (a2 : Nat) (S : St) : Option St :=
  fX5_readFrom_s4 a0 a1 a2 (fX5_forget a0 S)
theorem wX5_readFrom_s4 {z : Mx} {ad : Nat → Nat} {o : Option Value × St} (X : CxOk z ad RX5 cX5_readFrom 3 none 39) (a0 : Nat) (a1 : Nat) (a2 : Nat) (h0 : KT a0 = 5) (h1 : KT a1 = 6) (h2 : KT a2 = 8)     (S : St) (r : St) (ho : o = (none, r)) (hF : fX5_readFrom_s4 a0 a1 a2   S = some r) : GW z ad o S 4 [(0, .ref (ad a0)), (1, .ref (ad a1)), (2, .ref (ad a2))] [] := by
  unfold fX5_readFrom_s4 at hF
  refine g_aload_n X dX5_readFrom_4 1 rfl rfl ?_
  refine g_sipush (v := 200) X dX5_readFrom_5 (by decide) ?_
  obtain ⟨r_1, q_2, hF⟩ := obind hF
  refine g_callVv (As := [.int (200 : Int32)]) X dX5_readFrom_8 mlX5_31 (fun l D cyy => tX6_open (cx_inj X) l D cyy a1 (200 : Int32) h1 S r_1 q_2) h1 (by decide) rfl rfl (Nat.le_of_ble_eq_true rfl) ?_
  refine g_aload_n X dX5_readFrom_11 0 rfl rfl ?_
  refine g_aload_n X dX5_readFrom_12 1 rfl rfl ?_
  refine g_aload_n X dX5_readFrom_13 2 rfl rfl ?_
  refine g_iconst (v := 1) X dX5_readFrom_14 (by decide) ?_
  obtain ⟨r_3, q_4, hF⟩ := obind hF
  refine g_callVv (As := [.ref (ad a1), .ref (ad a2), .int (1 : Int32)]) X dX5_readFrom_15 mlX5_37 (fun l D cyy => tX5_readCond (cx_inj X) l D cyy a0 a1 a2 (1 : Int32) h0 h1 h2 r_1 r_3 q_4) h0 (by decide) rfl rfl (Nat.le_of_ble_eq_true rfl) ?_
  refine g_aload_n X dX5_readFrom_18 1 rfl rfl ?_
  refine g_callVi (As := []) X dX5_readFrom_19 mlX5_41 (fun l D cyy => tX6_goesOn (cx_inj X) l D cyy a1 h1 r_3) h1 (by decide) rfl rfl (Nat.le_of_ble_eq_true rfl) ?_
  refine g_if_eq (tgt := 30) X dX5_readFrom_22 (by decide) (fun c_5 => ?_) (fun c_5 => ?_)
  · rw [if_pos c_5] at hF
    have hF := Option.some.inj hF
    subst hF
    exact g_vret X dX5_readFrom_30 ho
  · rw [if_neg c_5] at hF
    refine g_aload_n X dX5_readFrom_25 1 rfl rfl ?_
    refine g_iconst (v := 1) X dX5_readFrom_26 (by decide) ?_
    refine g_callVv (As := [.int (1 : Int32)]) X dX5_readFrom_27 mlX5_45 (fun l D cyy => tX6_fail (cx_inj X) l D cyy a1 (1 : Int32) h1 r_3) h1 (by decide) rfl rfl (Nat.le_of_ble_eq_true rfl) ?_
    have hF := Option.some.inj hF
    subst hF
    exact g_vret X dX5_readFrom_30 ho
theorem wX5_readFrom {z : Mx} {ad : Nat → Nat} {o : Option Value × St} (X : CxOk z ad RX5 cX5_readFrom 3 none 39) (a0 : Nat) (a1 : Nat) (a2 : Nat) (h0 : KT a0 = 5) (h1 : KT a1 = 6) (h2 : KT a2 = 8) (S : St) (r : St) (ho : o = (none, r)) (hF : fX5_readFrom a0 a1 a2 S = some r) : GW z ad o S 0 [(0, .ref (ad a0)), (1, .ref (ad a1)), (2, .ref (ad a2))] [] := by
  unfold fX5_readFrom at hF
  refine g_aload_n X dX5_readFrom_0 0 rfl rfl ?_
  refine g_callVv (As := []) X dX5_readFrom_1 mlX5_28 (fun l D cyy => tX5_forget (cx_inj X) l D cyy a0 h0 S) h0 (by decide) rfl rfl (Nat.le_of_ble_eq_true rfl) ?_
  exact (wX5_readFrom_s4 X a0 a1 a2 h0 h1 h2 (fX5_forget a0 S) r ho hF)
theorem tX5_readFrom {ad : Nat → Nat} (hI : Inj ad) (l : Launch) (D : va_G) (cyy : Nat → ClassId) (a0 : Nat) (a1 : Nat) (a2 : Nat) (h0 : KT a0 = 5) (h1 : KT a1 = 6) (h2 : KT a2 = 8) (S : St) (r : St) (hF : fX5_readFrom a0 a1 a2 S = some r) : OkM l yX5_readFrom cX5_readFrom 3 none 39 ad D cyy [.ref (ad a0), .ref (ad a1), .ref (ad a2)] S (none, r) := okM_of hI (by decide) (inr_58 _ (List.mem_of_getElem? (i := 23) rfl)) (by show _ ≤ 3; exact Nat.le_of_ble_eq_true rfl) (fun z X => wX5_readFrom X a0 a1 a2 h0 h1 h2 S r rfl hF)
def fX10_sentence_s22 (a0 : Nat)   (S : St) : Option (Int32 × St) :=
  if (gI S 10 14 a0) = 0 then ((fX5_copyFrom ((a0 + 3) + 19) (a0 + 86) S).bind fun r_4 =>
  some ((gI r_4 5 4 ((a0 + 3) + 19)), r_4)) else
  (some (((-1 : Int32) - (gI S 6 9 (a0 + 1))), S))
def fX10_sentence (a0 : Nat) (S : St) : Option (Int32 × St) :=
  (fX5_readFrom (a0 + 86) (a0 + 1) ((a0 + 3) + 1) S).bind fun r_1 =>
  fX10_sentence_s22 a0 (fX10_closeText a0 r_1)
theorem wX10_sentence_s22 {z : Mx} {ad : Nat → Nat} {o : Option Value × St} (X : CxOk z ad RX10 cX10_sentence 1 (some .int) 40) (a0 : Nat) (h0 : KT a0 = 10)     (S : St) (r : (Int32 × St)) (ho : o = (some (.int r.1), r.2)) (hF : fX10_sentence_s22 a0   S = some r) : GW z ad o S 22 [(0, .ref (ad a0))] [] := by
  unfold fX10_sentence_s22 at hF
  refine g_aload_n X dX10_sentence_22 0 rfl rfl ?_
  refine g_getI X dX10_sentence_23 flX10_103 rfl h0 ?_
  refine g_if_eq (tgt := 39) X dX10_sentence_26 (by decide) (fun c_3 => ?_) (fun c_3 => ?_)
  · rw [if_pos c_3] at hF
    refine g_aload_n X dX10_sentence_39 0 rfl rfl ?_
    refine g_getR (f := 3) X dX10_sentence_40 flX10_19 rfl rfl h0 ?_
    refine g_getR (f := 19) X dX10_sentence_43 flX10_352 rfl rfl (on_10_1 h0) ?_
    refine g_aload_n X dX10_sentence_46 0 rfl rfl ?_
    refine g_getR (f := 86) X dX10_sentence_47 flX10_33 rfl rfl h0 ?_
    obtain ⟨r_4, q_5, hF⟩ := obind hF
    refine g_callVv (As := [.ref (ad (a0 + 86))]) X dX10_sentence_50 mlX10_355 (fun l D cyy => tX5_copyFrom (cx_inj X) l D cyy ((a0 + 3) + 19) (a0 + 86) (on_9_2 (on_10_1 h0)) (on_10_3 h0) S r_4 q_5) (on_9_2 (on_10_1 h0)) (by decide) rfl rfl (Nat.le_of_ble_eq_true rfl) ?_
    refine g_aload_n X dX10_sentence_53 0 rfl rfl ?_
    refine g_getR (f := 3) X dX10_sentence_54 flX10_19 rfl rfl h0 ?_
    refine g_getR (f := 19) X dX10_sentence_57 flX10_352 rfl rfl (on_10_1 h0) ?_
    refine g_getI X dX10_sentence_60 flX10_358 rfl (on_9_2 (on_10_1 h0)) ?_
    have hF := Option.some.inj hF
    subst hF
    exact g_iret X dX10_sentence_63 ho
  · rw [if_neg c_3] at hF
    refine g_iconst (v := -1) X dX10_sentence_29 (by decide) ?_
    refine g_aload_n X dX10_sentence_30 0 rfl rfl ?_
    refine g_getR (f := 1) X dX10_sentence_31 flX10_10 rfl rfl h0 ?_
    refine g_getI X dX10_sentence_34 flX10_106 rfl (on_10_0 h0) ?_
    refine g_isub X dX10_sentence_37 ?_
    have hF := Option.some.inj hF
    subst hF
    exact g_iret X dX10_sentence_38 ho
theorem wX10_sentence {z : Mx} {ad : Nat → Nat} {o : Option Value × St} (X : CxOk z ad RX10 cX10_sentence 1 (some .int) 40) (a0 : Nat) (h0 : KT a0 = 10) (S : St) (r : (Int32 × St)) (ho : o = (some (.int r.1), r.2)) (hF : fX10_sentence a0 S = some r) : GW z ad o S 0 [(0, .ref (ad a0))] [] := by
  unfold fX10_sentence at hF
  refine g_aload_n X dX10_sentence_0 0 rfl rfl ?_
  refine g_getR (f := 86) X dX10_sentence_1 flX10_33 rfl rfl h0 ?_
  refine g_aload_n X dX10_sentence_4 0 rfl rfl ?_
  refine g_getR (f := 1) X dX10_sentence_5 flX10_10 rfl rfl h0 ?_
  refine g_aload_n X dX10_sentence_8 0 rfl rfl ?_
  refine g_getR (f := 3) X dX10_sentence_9 flX10_19 rfl rfl h0 ?_
  refine g_getR (f := 1) X dX10_sentence_12 flX10_116 rfl rfl (on_10_1 h0) ?_
  obtain ⟨r_1, q_2, hF⟩ := obind hF
  refine g_callVv (As := [.ref (ad (a0 + 1)), .ref (ad ((a0 + 3) + 1))]) X dX10_sentence_15 mlX10_351 (fun l D cyy => tX5_readFrom (cx_inj X) l D cyy (a0 + 86) (a0 + 1) ((a0 + 3) + 1) (on_10_3 h0) (on_10_0 h0) (on_9_0 (on_10_1 h0)) S r_1 q_2) (on_10_3 h0) (by decide) rfl rfl (Nat.le_of_ble_eq_true rfl) ?_
  refine g_aload_n X dX10_sentence_18 0 rfl rfl ?_
  refine g_callVv (As := []) X dX10_sentence_19 mlX10_100 (fun l D cyy => tX10_closeText (cx_inj X) l D cyy a0 h0 r_1) h0 (by decide) rfl rfl (Nat.le_of_ble_eq_true rfl) ?_
  exact (wX10_sentence_s22 X a0 h0 (fX10_closeText a0 r_1) r ho hF)
theorem tX10_sentence {ad : Nat → Nat} (hI : Inj ad) (l : Launch) (D : va_G) (cyy : Nat → ClassId) (a0 : Nat) (h0 : KT a0 = 10) (S : St) (r : (Int32 × St)) (hF : fX10_sentence a0 S = some r) : OkM l yX10_sentence cX10_sentence 1 (some .int) 40 ad D cyy [.ref (ad a0)] S (some (.int r.1), r.2) := okM_of hI (by decide) (inr_58 _ (List.mem_of_getElem? (i := 17) rfl)) (by show _ ≤ 1; exact Nat.le_of_ble_eq_true rfl) (fun z X => wX10_sentence X a0 h0 S r rfl hF)
