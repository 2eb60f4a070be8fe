theorem dX10_parish_0 : decode cX10_parish 0 = .ok (.aload_n 0, 1) := by decide +kernel
theorem dX10_parish_1 : decode cX10_parish 1 = .ok (.getfield 19, 3) := by decide +kernel
theorem dX10_parish_4 : decode cX10_parish 4 = .ok (.getfield 116, 3) := by decide +kernel
theorem dX10_parish_7 : decode cX10_parish 7 = .ok (.iload_n 1, 1) := by decide +kernel
theorem dX10_parish_8 : decode cX10_parish 8 = .ok (.invokevirtual 119, 3) := by decide +kernel
theorem dX10_parish_11 : decode cX10_parish 11 = .ok (.ifCond .eq 13, 3) := by decide +kernel
theorem dX10_parish_14 : decode cX10_parish 14 = .ok (.iload_n 2, 1) := by decide +kernel
theorem dX10_parish_15 : decode cX10_parish 15 = .ok (.ifCond .lt 9, 3) := by decide +kernel
theorem dX10_parish_18 : decode cX10_parish 18 = .ok (.iload_n 2, 1) := by decide +kernel
theorem dX10_parish_19 : decode cX10_parish 19 = .ok (.bipush 8, 2) := by decide +kernel
theorem dX10_parish_21 : decode cX10_parish 21 = .ok (.if_icmp .le 11, 3) := by decide +kernel
theorem dX10_parish_24 : decode cX10_parish 24 = .ok (.new 122, 3) := by decide +kernel
theorem dX10_parish_27 : decode cX10_parish 27 = .ok (.dup, 1) := by decide +kernel
theorem dX10_parish_28 : decode cX10_parish 28 = .ok (.invokespecial 124, 3) := by decide +kernel
theorem dX10_parish_31 : decode cX10_parish 31 = .ok (.athrow, 1) := by decide +kernel
theorem dX10_parish_32 : decode cX10_parish 32 = .ok (.aload_n 0, 1) := by decide +kernel
theorem dX10_parish_33 : decode cX10_parish 33 = .ok (.getfield 19, 3) := by decide +kernel
theorem dX10_parish_36 : decode cX10_parish 36 = .ok (.getfield 116, 3) := by decide +kernel
theorem dX10_parish_39 : decode cX10_parish 39 = .ok (.getfield 125, 3) := by decide +kernel
theorem dX10_parish_42 : decode cX10_parish 42 = .ok (.iload_n 1, 1) := by decide +kernel
theorem dX10_parish_43 : decode cX10_parish 43 = .ok (.aaload, 1) := by decide +kernel
theorem dX10_parish_44 : decode cX10_parish 44 = .ok (.astore_n 3, 1) := by decide +kernel
theorem dX10_parish_45 : decode cX10_parish 45 = .ok (.aload_n 0, 1) := by decide +kernel
theorem dX10_parish_46 : decode cX10_parish 46 = .ok (.getfield 19, 3) := by decide +kernel
theorem dX10_parish_49 : decode cX10_parish 49 = .ok (.getfield 129, 3) := by decide +kernel
theorem dX10_parish_52 : decode cX10_parish 52 = .ok (.astore 4, 2) := by decide +kernel
theorem dX10_parish_54 : decode cX10_parish 54 = .ok (.iload_n 2, 1) := by decide +kernel
theorem dX10_parish_55 : decode cX10_parish 55 = .ok (.tableswitch 101 0 7 #[45, 50, 55, 60, 65, 70, 78, 93], 45) := by decide +kernel
theorem dX10_parish_100 : decode cX10_parish 100 = .ok (.aload_n 3, 1) := by decide +kernel
theorem dX10_parish_101 : decode cX10_parish 101 = .ok (.getfield 132, 3) := by decide +kernel
theorem dX10_parish_104 : decode cX10_parish 104 = .ok (.ireturn, 1) := by decide +kernel
theorem dX10_parish_105 : decode cX10_parish 105 = .ok (.aload_n 3, 1) := by decide +kernel
theorem dX10_parish_106 : decode cX10_parish 106 = .ok (.getfield 137, 3) := by decide +kernel
theorem dX10_parish_109 : decode cX10_parish 109 = .ok (.ireturn, 1) := by decide +kernel
theorem dX10_parish_110 : decode cX10_parish 110 = .ok (.aload_n 3, 1) := by decide +kernel
theorem dX10_parish_111 : decode cX10_parish 111 = .ok (.getfield 139, 3) := by decide +kernel
theorem dX10_parish_114 : decode cX10_parish 114 = .ok (.ireturn, 1) := by decide +kernel
theorem dX10_parish_115 : decode cX10_parish 115 = .ok (.aload_n 3, 1) := by decide +kernel
theorem dX10_parish_116 : decode cX10_parish 116 = .ok (.getfield 142, 3) := by decide +kernel
theorem dX10_parish_119 : decode cX10_parish 119 = .ok (.ireturn, 1) := by decide +kernel
theorem dX10_parish_120 : decode cX10_parish 120 = .ok (.aload_n 3, 1) := by decide +kernel
theorem dX10_parish_121 : decode cX10_parish 121 = .ok (.getfield 145, 3) := by decide +kernel
theorem dX10_parish_124 : decode cX10_parish 124 = .ok (.ireturn, 1) := by decide +kernel
theorem dX10_parish_125 : decode cX10_parish 125 = .ok (.aload 4, 2) := by decide +kernel
theorem dX10_parish_127 : decode cX10_parish 127 = .ok (.getfield 148, 3) := by decide +kernel
theorem dX10_parish_130 : decode cX10_parish 130 = .ok (.iload_n 1, 1) := by decide +kernel
theorem dX10_parish_131 : decode cX10_parish 131 = .ok (.iaload, 1) := by decide +kernel
theorem dX10_parish_132 : decode cX10_parish 132 = .ok (.ireturn, 1) := by decide +kernel
theorem dX10_parish_133 : decode cX10_parish 133 = .ok (.aload 4, 2) := by decide +kernel
theorem dX10_parish_135 : decode cX10_parish 135 = .ok (.iload_n 1, 1) := by decide +kernel
theorem dX10_parish_136 : decode cX10_parish 136 = .ok (.invokevirtual 151, 3) := by decide +kernel
theorem dX10_parish_139 : decode cX10_parish 139 = .ok (.ifCond .eq 7, 3) := by decide +kernel
theorem dX10_parish_142 : decode cX10_parish 142 = .ok (.iconst 1, 1) := by decide +kernel
theorem dX10_parish_143 : decode cX10_parish 143 = .ok (.goto 4, 3) := by decide +kernel
theorem dX10_parish_146 : decode cX10_parish 146 = .ok (.iconst 0, 1) := by decide +kernel
theorem dX10_parish_147 : decode cX10_parish 147 = .ok (.ireturn, 1) := by decide +kernel
theorem dX10_parish_148 : decode cX10_parish 148 = .ok (.aload 4, 2) := by decide +kernel
theorem dX10_parish_150 : decode cX10_parish 150 = .ok (.getfield 154, 3) := by decide +kernel
theorem dX10_parish_153 : decode cX10_parish 153 = .ok (.iload_n 1, 1) := by decide +kernel
theorem dX10_parish_154 : decode cX10_parish 154 = .ok (.iaload, 1) := by decide +kernel
theorem dX10_parish_155 : decode cX10_parish 155 = .ok (.ireturn, 1) := by decide +kernel
theorem dX10_parish_156 : decode cX10_parish 156 = .ok (.aload 4, 2) := by decide +kernel
theorem dX10_parish_158 : decode cX10_parish 158 = .ok (.getfield 157, 3) := by decide +kernel
theorem dX10_parish_161 : decode cX10_parish 161 = .ok (.iload_n 1, 1) := by decide +kernel
theorem dX10_parish_162 : decode cX10_parish 162 = .ok (.iaload, 1) := by decide +kernel
theorem dX10_parish_163 : decode cX10_parish 163 = .ok (.ireturn, 1) := by decide +kernel
theorem dX10_drift_0 : decode cX10_drift 0 = .ok (.aload_n 0, 1) := by decide +kernel
theorem dX10_drift_1 : decode cX10_drift 1 = .ok (.getfield 19, 3) := by decide +kernel
theorem dX10_drift_4 : decode cX10_drift 4 = .ok (.getfield 116, 3) := by decide +kernel
theorem dX10_drift_7 : decode cX10_drift 7 = .ok (.iload_n 1, 1) := by decide +kernel
theorem dX10_drift_8 : decode cX10_drift 8 = .ok (.invokevirtual 119, 3) := by decide +kernel
theorem dX10_drift_11 : decode cX10_drift 11 = .ok (.ifCond .eq 12, 3) := by decide +kernel
theorem dX10_drift_14 : decode cX10_drift 14 = .ok (.iload_n 2, 1) := by decide +kernel
theorem dX10_drift_15 : decode cX10_drift 15 = .ok (.ifCond .lt 8, 3) := by decide +kernel
theorem dX10_drift_18 : decode cX10_drift 18 = .ok (.iload_n 2, 1) := by decide +kernel
theorem dX10_drift_19 : decode cX10_drift 19 = .ok (.iconst 1, 1) := by decide +kernel
theorem dX10_drift_20 : decode cX10_drift 20 = .ok (.if_icmp .le 11, 3) := by decide +kernel
theorem dX10_drift_23 : decode cX10_drift 23 = .ok (.new 122, 3) := by decide +kernel
theorem dX10_drift_26 : decode cX10_drift 26 = .ok (.dup, 1) := by decide +kernel
theorem dX10_drift_27 : decode cX10_drift 27 = .ok (.invokespecial 124, 3) := by decide +kernel
theorem dX10_drift_30 : decode cX10_drift 30 = .ok (.athrow, 1) := by decide +kernel
theorem dX10_drift_31 : decode cX10_drift 31 = .ok (.aload_n 0, 1) := by decide +kernel
theorem dX10_drift_32 : decode cX10_drift 32 = .ok (.getfield 47, 3) := by decide +kernel
theorem dX10_drift_35 : decode cX10_drift 35 = .ok (.aload_n 0, 1) := by decide +kernel
theorem dX10_drift_36 : decode cX10_drift 36 = .ok (.getfield 19, 3) := by decide +kernel
theorem dX10_drift_39 : decode cX10_drift 39 = .ok (.getfield 116, 3) := by decide +kernel
theorem dX10_drift_42 : decode cX10_drift 42 = .ok (.iload_n 1, 1) := by decide +kernel
theorem dX10_drift_43 : decode cX10_drift 43 = .ok (.iload_n 2, 1) := by decide +kernel
theorem dX10_drift_44 : decode cX10_drift 44 = .ok (.invokevirtual 246, 3) := by decide +kernel
theorem dX10_drift_47 : decode cX10_drift 47 = .ok (.ireturn, 1) := by decide +kernel
theorem flX10_132 : FL RX10 132 4 2 := ⟨RX4, TX4, 7, tyX4, cd_4, by decide, Or.inr ⟨"ParishYears", inT_1 _ (List.mem_of_getElem? (i := 102) rfl)⟩⟩
theorem flX10_137 : FL RX10 137 4 3 := ⟨RX4, TX4, 7, tyX4, cd_4, by decide, Or.inr ⟨"ParishYears", inT_1 _ (List.mem_of_getElem? (i := 106) rfl)⟩⟩
theorem flX10_139 : FL RX10 139 4 4 := ⟨RX4, TX4, 7, tyX4, cd_4, by decide, Or.inr ⟨"ParishYears", inT_1 _ (List.mem_of_getElem? (i := 110) rfl)⟩⟩
theorem flX10_142 : FL RX10 142 4 5 := ⟨RX4, TX4, 7, tyX4, cd_4, by decide, Or.inr ⟨"ParishYears", inT_1 _ (List.mem_of_getElem? (i := 114) rfl)⟩⟩
theorem flX10_145 : FL RX10 145 4 6 := ⟨RX4, TX4, 7, tyX4, cd_4, by decide, Or.inr ⟨"ParishYears", inT_1 _ (List.mem_of_getElem? (i := 118) rfl)⟩⟩
theorem flX10_154 : FL RX10 154 2 4 := ⟨RX2, TX2, 6, tyX2, cd_2, by decide, Or.inl (inr_21 _ (List.mem_of_getElem? (i := 21) rfl))⟩
theorem flX10_157 : FL RX10 157 2 5 := ⟨RX2, TX2, 6, tyX2, cd_2, by decide, Or.inl (inr_21 _ (List.mem_of_getElem? (i := 22) rfl))⟩
theorem mlX10_151 : MLv RX10 151 RX2 2 yX2_isHeld cX2_isHeld 2 (some .boolean) 1 := ⟨(inr_22 _ (List.mem_of_getElem? (i := 3) rfl)), (inr_22 _ (List.mem_of_getElem? (i := 0) rfl)), (inr_22 _ (List.mem_of_getElem? (i := 1) rfl)), (inr_22 _ (List.mem_of_getElem? (i := 2) rfl)), (inr_2 _ (List.mem_of_getElem? (i := 21) rfl)), rfl, ⟨by decide, by decide, by decide +kernel⟩, by decide, by decide, rfl⟩
theorem mlX10_246 : MLv RX10 246 RX0 0 yX0_driftPart cX0_driftPart 9 (some .int) 3 := ⟨(inr_37 _ (List.mem_of_getElem? (i := 15) rfl)), (inr_37 _ (List.mem_of_getElem? (i := 12) rfl)), (inr_37 _ (List.mem_of_getElem? (i := 13) rfl)), (inr_37 _ (List.mem_of_getElem? (i := 14) rfl)), (inr_2 _ (List.mem_of_getElem? (i := 11) rfl)), rfl, ⟨by decide, by decide, by decide +kernel⟩, by decide, by decide, rfl⟩
def fX10_parish_s24 (a0 : Nat) (x1 : Int32) (x2 : Int32)   (S : St) : Option Int32 :=
  none
def fX10_parish_s54 (a0 : Nat) (x1 : Int32) (x2 : Int32) (b3 : Nat) (b4 : Nat)  (S : St) : Option Int32 :=
  if x2 = 0 then (some (gI S 4 2 b3)) else
  (if x2 = 1 then (some (gI S 4 3 b3)) else
  (if x2 = 2 then (some (gI S 4 4 b3)) else
  (if x2 = 3 then (some (gI S 4 5 b3)) else
  (if x2 = 4 then (some (gI S 4 6 b3)) else
  (if x2 = 5 then (if (x1 < 0 ∨ 5 ≤ x1.toNatClampNeg) then none else
  some (gA S 15 (b4 + 1) x1.toNatClampNeg)) else
  (if x2 = 6 then (if (fX2_isHeld b4 x1 S) = 0 then (some (0 : Int32)) else
  (some (1 : Int32))) else
  (if x2 = 7 then (if (x1 < 0 ∨ 5 ≤ x1.toNatClampNeg) then none else
  some (gA S 16 (b4 + 2) x1.toNatClampNeg)) else
  (if (x1 < 0 ∨ 5 ≤ x1.toNatClampNeg) then none else
  some (gA S 17 (b4 + 3) x1.toNatClampNeg)))))))))
def fX10_parish_s45 (a0 : Nat) (x1 : Int32) (x2 : Int32) (b3 : Nat)  (S : St) : Option Int32 :=
  fX10_parish_s54 a0 x1 x2 b3 ((a0 + 3) + 15) S
def fX10_parish (a0 : Nat) (x1 : Int32) (x2 : Int32) (S : St) : Option Int32 :=
  if (fX8_hasParish ((a0 + 3) + 1) x1 S) = 0 then (fX10_parish_s24 a0 x1 x2 S) else
  (if x2 < 0 then (fX10_parish_s24 a0 x1 x2 S) else
  (if x2 ≤ (8 : Int32) then (if (x1 < 0 ∨ 5 ≤ x1.toNatClampNeg) then none else
  fX10_parish_s45 a0 x1 x2 ((((a0 + 3) + 1) + 1) + 2 + x1.toNatClampNeg) S) else
  (fX10_parish_s24 a0 x1 x2 S)))
theorem wX10_parish_s24 {z : Mx} {ad : Nat → Nat} {o : Option Value × St} (X : CxOk z ad RX10 cX10_parish 5 (some .int) 2) (a0 : Nat) (x1 : Int32) (x2 : Int32) (h0 : KT a0 = 10)     (S : St) (r : Int32) (ho : o = (some (.int r), S)) (hF : fX10_parish_s24 a0 x1 x2   S = some r) : GW z ad o S 24 [] [] := by
  unfold fX10_parish_s24 at hF
  cases hF
theorem wX10_parish_s54 {z : Mx} {ad : Nat → Nat} {o : Option Value × St} (X : CxOk z ad RX10 cX10_parish 5 (some .int) 2) (a0 : Nat) (x1 : Int32) (x2 : Int32) (h0 : KT a0 = 10) (b3 : Nat) (b4 : Nat)  (g3 : KT b3 = 4) (g4 : KT b4 = 2)  (S : St) (r : Int32) (ho : o = (some (.int r), S)) (hF : fX10_parish_s54 a0 x1 x2 b3 b4  S = some r) : GW z ad o S 54 [(1, .int x1), (2, .int x2), (3, .ref (ad b3)), (4, .ref (ad b4))] [] := by
  unfold fX10_parish_s54 at hF
  refine g_iload_n X dX10_parish_54 1 rfl rfl ?_
  by_cases c_5 : x2 = 0
  · rw [if_pos c_5] at hF
    refine g_tabIn (tgt := 100) (off := 45) X dX10_parish_55 (by rw [c_5]; decide) (by rw [c_5]; decide) (by rw [c_5]; decide) (by decide) ?_
    refine g_aload_n X dX10_parish_100 2 rfl rfl ?_
    refine g_getI X dX10_parish_101 flX10_132 rfl g3 ?_
    have hF := Option.some.inj hF
    subst hF
    exact g_iret X dX10_parish_104 ho
  rw [if_neg c_5] at hF
  by_cases c_6 : x2 = 1
  · rw [if_pos c_6] at hF
    refine g_tabIn (tgt := 105) (off := 50) X dX10_parish_55 (by rw [c_6]; decide) (by rw [c_6]; decide) (by rw [c_6]; decide) (by decide) ?_
    refine g_aload_n X dX10_parish_105 2 rfl rfl ?_
    refine g_getI X dX10_parish_106 flX10_137 rfl g3 ?_
    have hF := Option.some.inj hF
    subst hF
    exact g_iret X dX10_parish_109 ho
  rw [if_neg c_6] at hF
  by_cases c_7 : x2 = 2
  · rw [if_pos c_7] at hF
    refine g_tabIn (tgt := 110) (off := 55) X dX10_parish_55 (by rw [c_7]; decide) (by rw [c_7]; decide) (by rw [c_7]; decide) (by decide) ?_
    refine g_aload_n X dX10_parish_110 2 rfl rfl ?_
    refine g_getI X dX10_parish_111 flX10_139 rfl g3 ?_
    have hF := Option.some.inj hF
    subst hF
    exact g_iret X dX10_parish_114 ho
  rw [if_neg c_7] at hF
  by_cases c_8 : x2 = 3
  · rw [if_pos c_8] at hF
    refine g_tabIn (tgt := 115) (off := 60) X dX10_parish_55 (by rw [c_8]; decide) (by rw [c_8]; decide) (by rw [c_8]; decide) (by decide) ?_
    refine g_aload_n X dX10_parish_115 2 rfl rfl ?_
    refine g_getI X dX10_parish_116 flX10_142 rfl g3 ?_
    have hF := Option.some.inj hF
    subst hF
    exact g_iret X dX10_parish_119 ho
  rw [if_neg c_8] at hF
  by_cases c_9 : x2 = 4
  · rw [if_pos c_9] at hF
    refine g_tabIn (tgt := 120) (off := 65) X dX10_parish_55 (by rw [c_9]; decide) (by rw [c_9]; decide) (by rw [c_9]; decide) (by decide) ?_
    refine g_aload_n X dX10_parish_120 2 rfl rfl ?_
    refine g_getI X dX10_parish_121 flX10_145 rfl g3 ?_
    have hF := Option.some.inj hF
    subst hF
    exact g_iret X dX10_parish_124 ho
  rw [if_neg c_9] at hF
  by_cases c_10 : x2 = 5
  · rw [if_pos c_10] at hF
    refine g_tabIn (tgt := 125) (off := 70) X dX10_parish_55 (by rw [c_10]; decide) (by rw [c_10]; decide) (by rw [c_10]; decide) (by decide) ?_
    refine g_aload X dX10_parish_125 3 rfl ?_
    refine g_getR (f := 1) X dX10_parish_127 flX10_148 rfl rfl g4 ?_
    refine g_iload_n X dX10_parish_130 0 rfl rfl ?_
    obtain ⟨e_11, hF⟩ := oguard hF
    refine g_iald X dX10_parish_131 kd_15 (on_2_3 g4) e_11 ?_
    have hF := Option.some.inj hF
    subst hF
    exact g_iret X dX10_parish_132 ho
  rw [if_neg c_10] at hF
  by_cases c_12 : x2 = 6
  · rw [if_pos c_12] at hF
    refine g_tabIn (tgt := 133) (off := 78) X dX10_parish_55 (by rw [c_12]; decide) (by rw [c_12]; decide) (by rw [c_12]; decide) (by decide) ?_
    refine g_aload X dX10_parish_133 3 rfl ?_
    refine g_iload_n X dX10_parish_135 0 rfl rfl ?_
    refine g_callVi (As := [.int x1]) X dX10_parish_136 mlX10_151 (fun l D cyy => tX2_isHeld (cx_inj X) l D cyy b4 x1 g4 S) g4 (by decide) rfl rfl (Nat.le_of_ble_eq_true rfl) ?_
    refine g_if_eq (tgt := 146) X dX10_parish_139 (by decide) (fun c_13 => ?_) (fun c_13 => ?_)
    · rw [if_pos c_13] at hF
      refine g_iconst (v := 0) X dX10_parish_146 (by decide) ?_
      have hF := Option.some.inj hF
      subst hF
      exact g_iret X dX10_parish_147 ho
    · rw [if_neg c_13] at hF
      refine g_iconst (v := 1) X dX10_parish_142 (by decide) ?_
      refine g_goto (tgt := 147) X dX10_parish_143 (by decide) ?_
      have hF := Option.some.inj hF
      subst hF
      exact g_iret X dX10_parish_147 ho
  rw [if_neg c_12] at hF
  by_cases c_14 : x2 = 7
  · rw [if_pos c_14] at hF
    refine g_tabIn (tgt := 148) (off := 93) X dX10_parish_55 (by rw [c_14]; decide) (by rw [c_14]; decide) (by rw [c_14]; decide) (by decide) ?_
    refine g_aload X dX10_parish_148 3 rfl ?_
    refine g_getR (f := 2) X dX10_parish_150 flX10_154 rfl rfl g4 ?_
    refine g_iload_n X dX10_parish_153 0 rfl rfl ?_
    obtain ⟨e_15, hF⟩ := oguard hF
    refine g_iald X dX10_parish_154 kd_16 (on_2_4 g4) e_15 ?_
    have hF := Option.some.inj hF
    subst hF
    exact g_iret X dX10_parish_155 ho
  rw [if_neg c_14] at hF
  have c_17 : (x2).toInt < 0 ∨ 7 < (x2).toInt := by
    have := ti_ne (n := 0) c_5 (by decide)
    have := ti_ne (n := 1) c_6 (by decide)
    have := ti_ne (n := 2) c_7 (by decide)
    have := ti_ne (n := 3) c_8 (by decide)
    have := ti_ne (n := 4) c_9 (by decide)
    have := ti_ne (n := 5) c_10 (by decide)
    have := ti_ne (n := 6) c_12 (by decide)
    have := ti_ne (n := 7) c_14 (by decide)
    omega
  refine g_tabOut (tgt := 156) X dX10_parish_55 c_17 (by decide) ?_
  refine g_aload X dX10_parish_156 3 rfl ?_
  refine g_getR (f := 3) X dX10_parish_158 flX10_157 rfl rfl g4 ?_
  refine g_iload_n X dX10_parish_161 0 rfl rfl ?_
  obtain ⟨e_16, hF⟩ := oguard hF
  refine g_iald X dX10_parish_162 kd_17 (on_2_5 g4) e_16 ?_
  have hF := Option.some.inj hF
  subst hF
  exact g_iret X dX10_parish_163 ho
theorem wX10_parish_s45 {z : Mx} {ad : Nat → Nat} {o : Option Value × St} (X : CxOk z ad RX10 cX10_parish 5 (some .int) 2) (a0 : Nat) (x1 : Int32) (x2 : Int32) (h0 : KT a0 = 10) (b3 : Nat)  (g3 : KT b3 = 4)  (S : St) (r : Int32) (ho : o = (some (.int r), S)) (hF : fX10_parish_s45 a0 x1 x2 b3  S = some r) : GW z ad o S 45 [(0, .ref (ad a0)), (1, .int x1), (2, .int x2), (3, .ref (ad b3))] [] := by
  unfold fX10_parish_s45 at hF
  refine g_aload_n X dX10_parish_45 0 rfl rfl ?_
  refine g_getR (f := 3) X dX10_parish_46 flX10_19 rfl rfl h0 ?_
  refine g_getR (f := 15) X dX10_parish_49 flX10_129 rfl rfl (on_10_1 h0) ?_
  refine g_astore X dX10_parish_52 (by decide) (lv' := [(4, .ref (ad ((a0 + 3) + 15))), (0, .ref (ad a0)), (1, .int x1), (2, .int x2), (3, .ref (ad b3))]) rfl ?_
  exact g_perm [2, 3, 4, 0] rfl (wX10_parish_s54 X a0 x1 x2 h0 b3 ((a0 + 3) + 15) g3 (on_9_1 (on_10_1 h0)) S r ho hF)
theorem wX10_parish {z : Mx} {ad : Nat → Nat} {o : Option Value × St} (X : CxOk z ad RX10 cX10_parish 5 (some .int) 2) (a0 : Nat) (x1 : Int32) (x2 : Int32) (h0 : KT a0 = 10) (S : St) (r : Int32) (ho : o = (some (.int r), S)) (hF : fX10_parish a0 x1 x2 S = some r) : GW z ad o S 0 [(0, .ref (ad a0)), (1, .int x1), (2, .int x2)] [] := by
  unfold fX10_parish at hF
  refine g_aload_n X dX10_parish_0 0 rfl rfl ?_
  refine g_getR (f := 3) X dX10_parish_1 flX10_19 rfl rfl h0 ?_
  refine g_getR (f := 1) X dX10_parish_4 flX10_116 rfl rfl (on_10_1 h0) ?_
  refine g_iload_n X dX10_parish_7 1 rfl rfl ?_
  refine g_callVi (As := [.int x1]) X dX10_parish_8 mlX10_119 (fun l D cyy => tX8_hasParish (cx_inj X) l D cyy ((a0 + 3) + 1) x1 (on_9_0 (on_10_1 h0)) S) (on_9_0 (on_10_1 h0)) (by decide) rfl rfl (Nat.le_of_ble_eq_true rfl) ?_
  refine g_if_eq (tgt := 24) X dX10_parish_11 (by decide) (fun c_1 => ?_) (fun c_1 => ?_)
  · rw [if_pos c_1] at hF
    exact g_perm [] rfl (wX10_parish_s24 X a0 x1 x2 h0 S r ho hF)
  · rw [if_neg c_1] at hF
    refine g_iload_n X dX10_parish_14 2 rfl rfl ?_
    refine g_if_lt (tgt := 24) X dX10_parish_15 (by decide) (fun c_2 => ?_) (fun c_2 => ?_)
    · rw [if_pos c_2] at hF
      exact g_perm [] rfl (wX10_parish_s24 X a0 x1 x2 h0 S r ho hF)
    · rw [if_neg c_2] at hF
      refine g_iload_n X dX10_parish_18 2 rfl rfl ?_
      refine g_bipush (v := 8) X dX10_parish_19 (by decide) ?_
      refine g_icmp_le (tgt := 32) X dX10_parish_21 (by decide) (fun c_3 => ?_) (fun c_3 => ?_)
      · rw [if_pos c_3] at hF
        refine g_aload_n X dX10_parish_32 0 rfl rfl ?_
        refine g_getR (f := 3) X dX10_parish_33 flX10_19 rfl rfl h0 ?_
        refine g_getR (f := 1) X dX10_parish_36 flX10_116 rfl rfl (on_10_1 h0) ?_
        refine g_getR (f := 1) X dX10_parish_39 flX10_125 rfl rfl (on_9_0 (on_10_1 h0)) ?_
        refine g_iload_n X dX10_parish_42 1 rfl rfl ?_
        obtain ⟨e_4, hF⟩ := oguard hF
        refine g_aaldP X dX10_parish_43 (on_8_0 (on_9_0 (on_10_1 h0))) rfl e_4 ?_
        refine g_astore_n X dX10_parish_44 rfl (by decide) (lv' := [(3, .ref (ad ((((a0 + 3) + 1) + 1) + 2 + x1.toNatClampNeg))), (0, .ref (ad a0)), (1, .int x1), (2, .int x2)]) rfl ?_
        exact g_perm [1, 2, 3, 0] rfl (wX10_parish_s45 X a0 x1 x2 h0 ((((a0 + 3) + 1) + 1) + 2 + x1.toNatClampNeg) (on_p (on_8_0 (on_9_0 (on_10_1 h0))) (inb e_4)) S r ho hF)
      · rw [if_neg c_3] at hF
        exact g_perm [] rfl (wX10_parish_s24 X a0 x1 x2 h0 S r ho hF)
theorem tX10_parish {ad : Nat → Nat} (hI : Inj ad) (l : Launch) (D : va_G) (cyy : Nat → ClassId) (a0 : Nat) (x1 : Int32) (x2 : Int32) (h0 : KT a0 = 10) (S : St) (r : Int32) (hF : fX10_parish a0 x1 x2 S = some r) : OkM l yX10_parish cX10_parish 5 (some .int) 2 ad D cyy [.ref (ad a0), .int x1, .int x2] S (some (.int r), S) := okM_of hI (by decide) (inr_21 _ (List.mem_of_getElem? (i := 14) rfl)) (by show _ ≤ 5; exact Nat.le_of_ble_eq_true rfl) (fun z X => wX10_parish X a0 x1 x2 h0 S r rfl hF)
def fX10_drift_s23 (a0 : Nat) (x1 : Int32) (x2 : Int32)   (S : St) : Option Int32 :=
  none
def fX10_drift (a0 : Nat) (x1 : Int32) (x2 : Int32) (S : St) : Option Int32 :=
  if (fX8_hasParish ((a0 + 3) + 1) x1 S) = 0 then (fX10_drift_s23 a0 x1 x2 S) else
  (if x2 < 0 then (fX10_drift_s23 a0 x1 x2 S) else
  (if x2 ≤ (1 : Int32) then ((fX0_driftPart (a0 + 93) ((a0 + 3) + 1) x1 x2 S).bind fun r_4 =>
  some r_4) else
  (fX10_drift_s23 a0 x1 x2 S)))
theorem wX10_drift_s23 {z : Mx} {ad : Nat → Nat} {o : Option Value × St} (X : CxOk z ad RX10 cX10_drift 3 (some .int) 3) (a0 : Nat) (x1 : Int32) (x2 : Int32) (h0 : KT a0 = 10)     (S : St) (r : Int32) (ho : o = (some (.int r), S)) (hF : fX10_drift_s23 a0 x1 x2   S = some r) : GW z ad o S 23 [] [] := by
  unfold fX10_drift_s23 at hF
  cases hF
theorem wX10_drift {z : Mx} {ad : Nat → Nat} {o : Option Value × St} (X : CxOk z ad RX10 cX10_drift 3 (some .int) 3) (a0 : Nat) (x1 : Int32) (x2 : Int32) (h0 : KT a0 = 10) (S : St) (r : Int32) (ho : o = (some (.int r), S)) (hF : fX10_drift a0 x1 x2 S = some r) : GW z ad o S 0 [(0, .ref (ad a0)), (1, .int x1), (2, .int x2)] [] := by
  unfold fX10_drift at hF
  refine g_aload_n X dX10_drift_0 0 rfl rfl ?_
  refine g_getR (f := 3) X dX10_drift_1 flX10_19 rfl rfl h0 ?_
  refine g_getR (f := 1) X dX10_drift_4 flX10_116 rfl rfl (on_10_1 h0) ?_
  refine g_iload_n X dX10_drift_7 1 rfl rfl ?_
  refine g_callVi (As := [.int x1]) X dX10_drift_8 mlX10_119 (fun l D cyy => tX8_hasParish (cx_inj X) l D cyy ((a0 + 3) + 1) x1 (on_9_0 (on_10_1 h0)) S) (on_9_0 (on_10_1 h0)) (by decide) rfl rfl (Nat.le_of_ble_eq_true rfl) ?_
  refine g_if_eq (tgt := 23) X dX10_drift_11 (by decide) (fun c_1 => ?_) (fun c_1 => ?_)
  · rw [if_pos c_1] at hF
    exact g_perm [] rfl (wX10_drift_s23 X a0 x1 x2 h0 S r ho hF)
  · rw [if_neg c_1] at hF
    refine g_iload_n X dX10_drift_14 2 rfl rfl ?_
    refine g_if_lt (tgt := 23) X dX10_drift_15 (by decide) (fun c_2 => ?_) (fun c_2 => ?_)
    · rw [if_pos c_2] at hF
      exact g_perm [] rfl (wX10_drift_s23 X a0 x1 x2 h0 S r ho hF)
    · rw [if_neg c_2] at hF
      refine g_iload_n X dX10_drift_18 2 rfl rfl ?_
      refine g_iconst (v := 1) X dX10_drift_19 (by decide) ?_
      refine g_icmp_le (tgt := 31) X dX10_drift_20 (by decide) (fun c_3 => ?_) (fun c_3 => ?_)
      · rw [if_pos c_3] at hF
        refine g_aload_n X dX10_drift_31 0 rfl rfl ?_
        refine g_getR (f := 93) X dX10_drift_32 flX10_47 rfl rfl h0 ?_
        refine g_aload_n X dX10_drift_35 0 rfl rfl ?_
        refine g_getR (f := 3) X dX10_drift_36 flX10_19 rfl rfl h0 ?_
        refine g_getR (f := 1) X dX10_drift_39 flX10_116 rfl rfl (on_10_1 h0) ?_
        refine g_iload_n X dX10_drift_42 1 rfl rfl ?_
        refine g_iload_n X dX10_drift_43 2 rfl rfl ?_
        obtain ⟨r_4, q_5, hF⟩ := obind hF
        refine g_callVi (As := [.ref (ad ((a0 + 3) + 1)), .int x1, .int x2]) X dX10_drift_44 mlX10_246 (fun l D cyy => tX0_driftPart (cx_inj X) l D cyy (a0 + 93) ((a0 + 3) + 1) x1 x2 (on_10_5 h0) (on_9_0 (on_10_1 h0)) S r_4 q_5) (on_10_5 h0) (by decide) rfl rfl (Nat.le_of_ble_eq_true rfl) ?_
        have hF := Option.some.inj hF
        subst hF
        exact g_iret X dX10_drift_47 ho
      · rw [if_neg c_3] at hF
        exact g_perm [] rfl (wX10_drift_s23 X a0 x1 x2 h0 S r ho hF)
theorem tX10_drift {ad : Nat → Nat} (hI : Inj ad) (l : Launch) (D : va_G) (cyy : Nat → ClassId) (a0 : Nat) (x1 : Int32) (x2 : Int32) (h0 : KT a0 = 10) (S : St) (r : Int32) (hF : fX10_drift a0 x1 x2 S = some r) : OkM l yX10_drift cX10_drift 3 (some .int) 3 ad D cyy [.ref (ad a0), .int x1, .int x2] S (some (.int r), S) := okM_of hI (by decide) (inr_37 _ (List.mem_of_getElem? (i := 11) rfl)) (by show _ ≤ 3; exact Nat.le_of_ble_eq_true rfl) (fun z X => wX10_drift X a0 x1 x2 h0 S r rfl hF)
