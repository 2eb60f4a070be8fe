theorem dX10_init_0 : decode cX10_init 0 = .ok (.aload_n 0, 1) := by decide +kernel
theorem dX10_init_1 : decode cX10_init 1 = .ok (.invokespecial 1, 3) := by decide +kernel
theorem dX10_init_4 : decode cX10_init 4 = .ok (.aload_n 0, 1) := by decide +kernel
theorem dX10_init_5 : decode cX10_init 5 = .ok (.new 7, 3) := by decide +kernel
theorem dX10_init_8 : decode cX10_init 8 = .ok (.dup, 1) := by decide +kernel
theorem dX10_init_9 : decode cX10_init 9 = .ok (.invokespecial 9, 3) := by decide +kernel
theorem dX10_init_12 : decode cX10_init 12 = .ok (.putfield 10, 3) := by decide +kernel
theorem dX10_init_15 : decode cX10_init 15 = .ok (.aload_n 0, 1) := by decide +kernel
theorem dX10_init_16 : decode cX10_init 16 = .ok (.new 16, 3) := by decide +kernel
theorem dX10_init_19 : decode cX10_init 19 = .ok (.dup, 1) := by decide +kernel
theorem dX10_init_20 : decode cX10_init 20 = .ok (.invokespecial 18, 3) := by decide +kernel
theorem dX10_init_23 : decode cX10_init 23 = .ok (.putfield 19, 3) := by decide +kernel
theorem dX10_init_26 : decode cX10_init 26 = .ok (.aload_n 0, 1) := by decide +kernel
theorem dX10_init_27 : decode cX10_init 27 = .ok (.new 23, 3) := by decide +kernel
theorem dX10_init_30 : decode cX10_init 30 = .ok (.dup, 1) := by decide +kernel
theorem dX10_init_31 : decode cX10_init 31 = .ok (.invokespecial 25, 3) := by decide +kernel
theorem dX10_init_34 : decode cX10_init 34 = .ok (.putfield 26, 3) := by decide +kernel
theorem dX10_init_37 : decode cX10_init 37 = .ok (.aload_n 0, 1) := by decide +kernel
theorem dX10_init_38 : decode cX10_init 38 = .ok (.new 30, 3) := by decide +kernel
theorem dX10_init_41 : decode cX10_init 41 = .ok (.dup, 1) := by decide +kernel
theorem dX10_init_42 : decode cX10_init 42 = .ok (.invokespecial 32, 3) := by decide +kernel
theorem dX10_init_45 : decode cX10_init 45 = .ok (.putfield 33, 3) := by decide +kernel
theorem dX10_init_48 : decode cX10_init 48 = .ok (.aload_n 0, 1) := by decide +kernel
theorem dX10_init_49 : decode cX10_init 49 = .ok (.new 37, 3) := by decide +kernel
theorem dX10_init_52 : decode cX10_init 52 = .ok (.dup, 1) := by decide +kernel
theorem dX10_init_53 : decode cX10_init 53 = .ok (.invokespecial 39, 3) := by decide +kernel
theorem dX10_init_56 : decode cX10_init 56 = .ok (.putfield 40, 3) := by decide +kernel
theorem dX10_init_59 : decode cX10_init 59 = .ok (.aload_n 0, 1) := by decide +kernel
theorem dX10_init_60 : decode cX10_init 60 = .ok (.new 44, 3) := by decide +kernel
theorem dX10_init_63 : decode cX10_init 63 = .ok (.dup, 1) := by decide +kernel
theorem dX10_init_64 : decode cX10_init 64 = .ok (.invokespecial 46, 3) := by decide +kernel
theorem dX10_init_67 : decode cX10_init 67 = .ok (.putfield 47, 3) := by decide +kernel
theorem dX10_init_70 : decode cX10_init 70 = .ok (.aload_n 0, 1) := by decide +kernel
theorem dX10_init_71 : decode cX10_init 71 = .ok (.new 51, 3) := by decide +kernel
theorem dX10_init_74 : decode cX10_init 74 = .ok (.dup, 1) := by decide +kernel
theorem dX10_init_75 : decode cX10_init 75 = .ok (.invokespecial 53, 3) := by decide +kernel
theorem dX10_init_78 : decode cX10_init 78 = .ok (.putfield 54, 3) := by decide +kernel
theorem dX10_init_81 : decode cX10_init 81 = .ok (.aload_n 0, 1) := by decide +kernel
theorem dX10_init_82 : decode cX10_init 82 = .ok (.iconst 3, 1) := by decide +kernel
theorem dX10_init_83 : decode cX10_init 83 = .ok (.newarray .int, 2) := by decide +kernel
theorem dX10_init_85 : decode cX10_init 85 = .ok (.putfield 58, 3) := by decide +kernel
theorem dX10_init_88 : decode cX10_init 88 = .ok (.aload_n 0, 1) := by decide +kernel
theorem dX10_init_89 : decode cX10_init 89 = .ok (.new 62, 3) := by decide +kernel
theorem dX10_init_92 : decode cX10_init 92 = .ok (.dup, 1) := by decide +kernel
theorem dX10_init_93 : decode cX10_init 93 = .ok (.invokespecial 64, 3) := by decide +kernel
theorem dX10_init_96 : decode cX10_init 96 = .ok (.putfield 65, 3) := by decide +kernel
theorem dX10_init_99 : decode cX10_init 99 = .ok (.aload_n 0, 1) := by decide +kernel
theorem dX10_init_100 : decode cX10_init 100 = .ok (.new 62, 3) := by decide +kernel
theorem dX10_init_103 : decode cX10_init 103 = .ok (.dup, 1) := by decide +kernel
theorem dX10_init_104 : decode cX10_init 104 = .ok (.invokespecial 64, 3) := by decide +kernel
theorem dX10_init_107 : decode cX10_init 107 = .ok (.putfield 69, 3) := by decide +kernel
theorem dX10_init_110 : decode cX10_init 110 = .ok (.aload_n 0, 1) := by decide +kernel
theorem dX10_init_111 : decode cX10_init 111 = .ok (.bipush 8, 2) := by decide +kernel
theorem dX10_init_113 : decode cX10_init 113 = .ok (.anewarray 62, 3) := by decide +kernel
theorem dX10_init_116 : decode cX10_init 116 = .ok (.putfield 72, 3) := by decide +kernel
theorem dX10_init_119 : decode cX10_init 119 = .ok (.iconst 0, 1) := by decide +kernel
theorem dX10_init_120 : decode cX10_init 120 = .ok (.istore_n 1, 1) := by decide +kernel
theorem dX10_init_121 : decode cX10_init 121 = .ok (.iload_n 1, 1) := by decide +kernel
theorem dX10_init_122 : decode cX10_init 122 = .ok (.bipush 8, 2) := by decide +kernel
theorem dX10_init_124 : decode cX10_init 124 = .ok (.if_icmp .ge 22, 3) := by decide +kernel
theorem dX10_init_127 : decode cX10_init 127 = .ok (.aload_n 0, 1) := by decide +kernel
theorem dX10_init_128 : decode cX10_init 128 = .ok (.getfield 72, 3) := by decide +kernel
theorem dX10_init_131 : decode cX10_init 131 = .ok (.iload_n 1, 1) := by decide +kernel
theorem dX10_init_132 : decode cX10_init 132 = .ok (.new 62, 3) := by decide +kernel
theorem dX10_init_135 : decode cX10_init 135 = .ok (.dup, 1) := by decide +kernel
theorem dX10_init_136 : decode cX10_init 136 = .ok (.invokespecial 64, 3) := by decide +kernel
theorem dX10_init_139 : decode cX10_init 139 = .ok (.aastore, 1) := by decide +kernel
theorem dX10_init_140 : decode cX10_init 140 = .ok (.iinc 1 1, 3) := by decide +kernel
theorem dX10_init_143 : decode cX10_init 143 = .ok (.goto (-22), 3) := by decide +kernel
theorem dX10_init_146 : decode cX10_init 146 = .ok (.aload_n 0, 1) := by decide +kernel
theorem dX10_init_147 : decode cX10_init 147 = .ok (.iconst 2, 1) := by decide +kernel
theorem dX10_init_148 : decode cX10_init 148 = .ok (.anewarray 16, 3) := by decide +kernel
theorem dX10_init_151 : decode cX10_init 151 = .ok (.putfield 76, 3) := by decide +kernel
theorem dX10_init_154 : decode cX10_init 154 = .ok (.iconst 0, 1) := by decide +kernel
theorem dX10_init_155 : decode cX10_init 155 = .ok (.istore_n 1, 1) := by decide +kernel
theorem dX10_init_156 : decode cX10_init 156 = .ok (.iload_n 1, 1) := by decide +kernel
theorem dX10_init_157 : decode cX10_init 157 = .ok (.iconst 2, 1) := by decide +kernel
theorem dX10_init_158 : decode cX10_init 158 = .ok (.if_icmp .ge 22, 3) := by decide +kernel
theorem dX10_init_161 : decode cX10_init 161 = .ok (.aload_n 0, 1) := by decide +kernel
theorem dX10_init_162 : decode cX10_init 162 = .ok (.getfield 76, 3) := by decide +kernel
theorem dX10_init_165 : decode cX10_init 165 = .ok (.iload_n 1, 1) := by decide +kernel
theorem dX10_init_166 : decode cX10_init 166 = .ok (.new 16, 3) := by decide +kernel
theorem dX10_init_169 : decode cX10_init 169 = .ok (.dup, 1) := by decide +kernel
theorem dX10_init_170 : decode cX10_init 170 = .ok (.invokespecial 18, 3) := by decide +kernel
theorem dX10_init_173 : decode cX10_init 173 = .ok (.aastore, 1) := by decide +kernel
theorem dX10_init_174 : decode cX10_init 174 = .ok (.iinc 1 1, 3) := by decide +kernel
theorem dX10_init_177 : decode cX10_init 177 = .ok (.goto (-21), 3) := by decide +kernel
theorem dX10_init_180 : decode cX10_init 180 = .ok (.aload_n 0, 1) := by decide +kernel
theorem dX10_init_181 : decode cX10_init 181 = .ok (.iconst 2, 1) := by decide +kernel
theorem dX10_init_182 : decode cX10_init 182 = .ok (.newarray .boolean, 2) := by decide +kernel
theorem dX10_init_184 : decode cX10_init 184 = .ok (.putfield 80, 3) := by decide +kernel
theorem dX10_init_187 : decode cX10_init 187 = .ok (.return_, 1) := by decide +kernel
theorem ffX10_10 : FF RX10 10 10 0 (.object "ParishYears$Tape") := ⟨RX10, TX10, 15, tyX10, cd_10, by decide, (inr_1 _ (List.mem_of_getElem? (i := 16) rfl)), rfl, by decide +kernel, rfl⟩
theorem ffX10_19 : FF RX10 19 10 1 (.object "ParishYears$World") := ⟨RX10, TX10, 15, tyX10, cd_10, by decide, (inr_1 _ (List.mem_of_getElem? (i := 20) rfl)), rfl, by decide +kernel, rfl⟩
theorem ffX10_26 : FF RX10 26 10 2 (.object "ParishYears$Valley") := ⟨RX10, TX10, 15, tyX10, cd_10, by decide, (inr_2 _ (List.mem_of_getElem? (i := 0) rfl)), rfl, by decide +kernel, rfl⟩
theorem ffX10_33 : FF RX10 33 10 3 (.object "ParishYears$Sentence") := ⟨RX10, TX10, 15, tyX10, cd_10, by decide, (inr_2 _ (List.mem_of_getElem? (i := 4) rfl)), rfl, by decide +kernel, rfl⟩
theorem ffX10_40 : FF RX10 40 10 4 (.object "ParishYears$Book") := ⟨RX10, TX10, 15, tyX10, cd_10, by decide, (inr_2 _ (List.mem_of_getElem? (i := 8) rfl)), rfl, by decide +kernel, rfl⟩
theorem ffX10_47 : FF RX10 47 10 5 (.object "ParishYears$Almanac") := ⟨RX10, TX10, 15, tyX10, cd_10, by decide, (inr_2 _ (List.mem_of_getElem? (i := 12) rfl)), rfl, by decide +kernel, rfl⟩
theorem ffX10_54 : FF RX10 54 10 6 (.object "ParishYears$Title") := ⟨RX10, TX10, 15, tyX10, cd_10, by decide, (inr_2 _ (List.mem_of_getElem? (i := 16) rfl)), rfl, by decide +kernel, rfl⟩
theorem ffX10_58 : FF RX10 58 10 7 (.array (.int)) := ⟨RX10, TX10, 15, tyX10, cd_10, by decide, (inr_2 _ (List.mem_of_getElem? (i := 18) rfl)), rfl, by decide +kernel, rfl⟩
theorem ffX10_65 : FF RX10 65 10 8 (.object "ParishYears$Days") := ⟨RX10, TX10, 15, tyX10, cd_10, by decide, (inr_2 _ (List.mem_of_getElem? (i := 22) rfl)), rfl, by decide +kernel, rfl⟩
theorem ffX10_69 : FF RX10 69 10 9 (.object "ParishYears$Days") := ⟨RX10, TX10, 15, tyX10, cd_10, by decide, (inr_2 _ (List.mem_of_getElem? (i := 23) rfl)), rfl, by decide +kernel, rfl⟩
theorem ffX10_72 : FF RX10 72 10 10 (.array (.object "ParishYears$Days")) := ⟨RX10, TX10, 15, tyX10, cd_10, by decide, (inr_3 _ (List.mem_of_getElem? (i := 0) rfl)), rfl, by decide +kernel, rfl⟩
theorem fkX10_72 : FK RX10 72 10 10 := ⟨RX10, TX10, 15, tyX10, cd_10, by decide, (inr_3 _ (List.mem_of_getElem? (i := 0) rfl))⟩
theorem ffX10_76 : FF RX10 76 10 12 (.array (.object "ParishYears$World")) := ⟨RX10, TX10, 15, tyX10, cd_10, by decide, (inr_3 _ (List.mem_of_getElem? (i := 1) rfl)), rfl, by decide +kernel, rfl⟩
theorem fkX10_76 : FK RX10 76 10 12 := ⟨RX10, TX10, 15, tyX10, cd_10, by decide, (inr_3 _ (List.mem_of_getElem? (i := 1) rfl))⟩
theorem ffX10_80 : FF RX10 80 10 13 (.array (.boolean)) := ⟨RX10, TX10, 15, tyX10, cd_10, by decide, (inr_3 _ (List.mem_of_getElem? (i := 3) rfl)), rfl, by decide +kernel, rfl⟩
def bk10 (cy : Nat → ClassId) (q : Nat → Nat) : va_W := (((q 0), .inr (10, [.ref (q 3), .ref (q 5), .ref (q 28), .ref (q 42), .ref (q 46), .ref (q 49), .ref (q 50), .ref (q 52), .ref (q 53), .ref (q 57), .ref (q 2), .int 0, .ref (q 1), .ref (q 139), .int 0])) :: ((q 1), .inl (cy 26, 2, .inr (.inr (.inr (.inr (va_up (va_up (fun _ => none) 0 (some (q 93))) 1 (some (q 116)))))))) :: ((q 2), .inl (cy 25, 8, .inr (.inr (.inr (.inr (va_up (va_up (va_up (va_up (va_up (va_up (va_up (va_up (fun _ => none) 0 (some (q 61))) 1 (some (q 65))) 2 (some (q 69))) 3 (some (q 73))) 4 (some (q 77))) 5 (some (q 81))) 6 (some (q 85))) 7 (some (q 89)))))))) :: ([] ++ bk6 cy (fun i => q (3 + i)) ++ bk9 cy (fun i => q (5 + i)) ++ bk8 cy (fun i => q (28 + i)) ++ bk5 cy (fun i => q (42 + i)) ++ bk1 cy (fun i => q (46 + i)) ++ bk0 cy (fun i => q (49 + i)) ++ bk7 cy (fun i => q (50 + i)) ++ [((q 52), .inl (cy 24, 3, .inl (fun _ => 0)))] ++ bk2 cy (fun i => q (53 + i)) ++ bk2 cy (fun i => q (57 + i)) ++ bk2 cy (fun i => q (61 + i)) ++ bk2 cy (fun i => q (65 + i)) ++ bk2 cy (fun i => q (69 + i)) ++ bk2 cy (fun i => q (73 + i)) ++ bk2 cy (fun i => q (77 + i)) ++ bk2 cy (fun i => q (81 + i)) ++ bk2 cy (fun i => q (85 + i)) ++ bk2 cy (fun i => q (89 + i)) ++ bk9 cy (fun i => q (93 + i)) ++ bk9 cy (fun i => q (116 + i)) ++ [((q 139), .inl (cy 27, 2, .inl (fun _ => 0)))]))
set_option maxHeartbeats 4000000 in
set_option maxRecDepth 100000 in
theorem tX10_init (l : Launch) (D : va_G) (cy : Nat → ClassId) : OkI l yX10_init cX10_init 2 4 139 2214 D cy 10 [.null, .null, .null, .null, .null, .null, .null, .null, .null, .null, .null, .int 0, .null, .null, .int 0] (bk10 cy) := okI_of (by decide) rfl (by decide) (fun z A h0 hz X hret => by
  subst hz
  refine k_aload_n X dX10_init_0 0 rfl rfl ?_
  refine k_obj X dX10_init_1 (inr_1 _ (List.mem_of_getElem? (i := 10) rfl)) (inr_1 _ (List.mem_of_getElem? (i := 11) rfl)) (inr_1 _ (List.mem_of_getElem? (i := 12) rfl)) (by decide) ?_
  refine k_aload_n X dX10_init_4 0 rfl rfl ?_
  refine k_init (fs0 := [.null, .int 0, .int 0, .int 0, .int 0, .int 0, .long 0, .int 0, .int 0, .int 0]) X dX10_init_5 dX10_init_8 dX10_init_9 cd_6 (inr_1 _ (List.mem_of_getElem? (i := 13) rfl)) (inr_1 _ (List.mem_of_getElem? (i := 14) rfl)) (inr_1 _ (List.mem_of_getElem? (i := 15) rfl)) (by decide) (inr_3 _ (List.mem_of_getElem? (i := 4) rfl)) (inr_3 _ (List.mem_of_getElem? (i := 5) rfl)) (inr_3 _ (List.mem_of_getElem? (i := 6) rfl)) ⟨rfl, rfl, by decide, by decide, by decide, by decide +kernel⟩ (fun l D => tX6_init l D _) (by decide) (by decide) (by decide) (Nat.le_of_ble_eq_true rfl) (fun r1 => ?_)
  refine k_consT ?_
  refine k_putF X dX10_init_12 ffX10_10 rfl rfl (Nat.le_of_ble_eq_true rfl) (fs' := [.ref (r1 0), .null, .null, .null, .null, .null, .null, .null, .null, .null, .null, .int 0, .null, .null, .int 0]) rfl ?_
  refine k_aload_n X dX10_init_15 0 rfl rfl ?_
  refine k_init (fs0 := [.null, .null, .null]) X dX10_init_16 dX10_init_19 dX10_init_20 cd_9 (inr_1 _ (List.mem_of_getElem? (i := 17) rfl)) (inr_1 _ (List.mem_of_getElem? (i := 18) rfl)) (inr_1 _ (List.mem_of_getElem? (i := 19) rfl)) (by decide) (inr_3 _ (List.mem_of_getElem? (i := 10) rfl)) (inr_3 _ (List.mem_of_getElem? (i := 11) rfl)) (inr_3 _ (List.mem_of_getElem? (i := 12) rfl)) ⟨rfl, rfl, by decide, by decide, by decide, by decide +kernel⟩ (fun l D => tX9_init l D _) (by decide) (by decide) (by decide) (Nat.le_of_ble_eq_true rfl) (fun r2 => ?_)
  refine k_consT ?_
  refine k_putF X dX10_init_23 ffX10_19 rfl rfl (Nat.le_of_ble_eq_true rfl) (fs' := [.ref (r1 0), .ref (r2 0), .null, .null, .null, .null, .null, .null, .null, .null, .null, .int 0, .null, .null, .int 0]) rfl ?_
  refine k_aload_n X dX10_init_26 0 rfl rfl ?_
  refine k_init (fs0 := [.null, .null, .int 0, .int 0, .int 0, .int 0, .int 0]) X dX10_init_27 dX10_init_30 dX10_init_31 cd_8 (inr_1 _ (List.mem_of_getElem? (i := 21) rfl)) (inr_1 _ (List.mem_of_getElem? (i := 22) rfl)) (inr_1 _ (List.mem_of_getElem? (i := 23) rfl)) (by decide) (inr_5 _ (List.mem_of_getElem? (i := 12) rfl)) (inr_3 _ (List.mem_of_getElem? (i := 21) rfl)) (inr_3 _ (List.mem_of_getElem? (i := 22) rfl)) ⟨rfl, rfl, by decide, by decide, by decide, by decide +kernel⟩ (fun l D => tX8_init l D _) (by decide) (by decide) (by decide) (Nat.le_of_ble_eq_true rfl) (fun r3 => ?_)
  refine k_consT ?_
  refine k_putF X dX10_init_34 ffX10_26 rfl rfl (Nat.le_of_ble_eq_true rfl) (fs' := [.ref (r1 0), .ref (r2 0), .ref (r3 0), .null, .null, .null, .null, .null, .null, .null, .null, .int 0, .null, .null, .int 0]) rfl ?_
  refine k_aload_n X dX10_init_37 0 rfl rfl ?_
  refine k_init (fs0 := [.null, .null, .null, .int 0, .int 0]) X dX10_init_38 dX10_init_41 dX10_init_42 cd_5 (inr_2 _ (List.mem_of_getElem? (i := 1) rfl)) (inr_2 _ (List.mem_of_getElem? (i := 2) rfl)) (inr_2 _ (List.mem_of_getElem? (i := 3) rfl)) (by decide) (inr_5 _ (List.mem_of_getElem? (i := 13) rfl)) (inr_5 _ (List.mem_of_getElem? (i := 6) rfl)) (inr_5 _ (List.mem_of_getElem? (i := 7) rfl)) ⟨rfl, rfl, by decide, by decide, by decide, by decide +kernel⟩ (fun l D => tX5_init l D _) (by decide) (by decide) (by decide) (Nat.le_of_ble_eq_true rfl) (fun r4 => ?_)
  refine k_consT ?_
  refine k_putF X dX10_init_45 ffX10_33 rfl rfl (Nat.le_of_ble_eq_true rfl) (fs' := [.ref (r1 0), .ref (r2 0), .ref (r3 0), .ref (r4 0), .null, .null, .null, .null, .null, .null, .null, .int 0, .null, .null, .int 0]) rfl ?_
  refine k_aload_n X dX10_init_48 0 rfl rfl ?_
  refine k_init (fs0 := [.null, .null, .int 0, .int 0, .int 0, .int 0, .int 0, .int 0]) X dX10_init_49 dX10_init_52 dX10_init_53 cd_1 (inr_2 _ (List.mem_of_getElem? (i := 5) rfl)) (inr_2 _ (List.mem_of_getElem? (i := 6) rfl)) (inr_2 _ (List.mem_of_getElem? (i := 7) rfl)) (by decide) (inr_5 _ (List.mem_of_getElem? (i := 14) rfl)) (inr_5 _ (List.mem_of_getElem? (i := 15) rfl)) (inr_5 _ (List.mem_of_getElem? (i := 16) rfl)) ⟨rfl, rfl, by decide, by decide, by decide, by decide +kernel⟩ (fun l D => tX1_init l D _) (by decide) (by decide) (by decide) (Nat.le_of_ble_eq_true rfl) (fun r5 => ?_)
  refine k_consT ?_
  refine k_putF X dX10_init_56 ffX10_40 rfl rfl (Nat.le_of_ble_eq_true rfl) (fs' := [.ref (r1 0), .ref (r2 0), .ref (r3 0), .ref (r4 0), .ref (r5 0), .null, .null, .null, .null, .null, .null, .int 0, .null, .null, .int 0]) rfl ?_
  refine k_aload_n X dX10_init_59 0 rfl rfl ?_
  refine k_init (fs0 := [.int 0, .int 0, .int 0, .int 0, .int 0]) X dX10_init_60 dX10_init_63 dX10_init_64 cd_0 (inr_2 _ (List.mem_of_getElem? (i := 9) rfl)) (inr_2 _ (List.mem_of_getElem? (i := 10) rfl)) (inr_2 _ (List.mem_of_getElem? (i := 11) rfl)) (by decide) (inr_5 _ (List.mem_of_getElem? (i := 20) rfl)) (inr_5 _ (List.mem_of_getElem? (i := 21) rfl)) (inr_5 _ (List.mem_of_getElem? (i := 22) rfl)) ⟨rfl, rfl, by decide, by decide, by decide, by decide +kernel⟩ (fun l D => tX0_init l D _) (by decide) (by decide) (by decide) (Nat.le_of_ble_eq_true rfl) (fun r6 => ?_)
  refine k_consT ?_
  refine k_putF X dX10_init_67 ffX10_47 rfl rfl (Nat.le_of_ble_eq_true rfl) (fs' := [.ref (r1 0), .ref (r2 0), .ref (r3 0), .ref (r4 0), .ref (r5 0), .ref (r6 0), .null, .null, .null, .null, .null, .int 0, .null, .null, .int 0]) rfl ?_
  refine k_aload_n X dX10_init_70 0 rfl rfl ?_
  refine k_init (fs0 := [.null, .int 0]) X dX10_init_71 dX10_init_74 dX10_init_75 cd_7 (inr_2 _ (List.mem_of_getElem? (i := 13) rfl)) (inr_2 _ (List.mem_of_getElem? (i := 14) rfl)) (inr_2 _ (List.mem_of_getElem? (i := 15) rfl)) (by decide) (inr_6 _ (List.mem_of_getElem? (i := 5) rfl)) (inr_6 _ (List.mem_of_getElem? (i := 6) rfl)) (inr_6 _ (List.mem_of_getElem? (i := 7) rfl)) ⟨rfl, rfl, by decide, by decide, by decide, by decide +kernel⟩ (fun l D => tX7_init l D _) (by decide) (by decide) (by decide) (Nat.le_of_ble_eq_true rfl) (fun r7 => ?_)
  refine k_consT ?_
  refine k_putF X dX10_init_78 ffX10_54 rfl rfl (Nat.le_of_ble_eq_true rfl) (fs' := [.ref (r1 0), .ref (r2 0), .ref (r3 0), .ref (r4 0), .ref (r5 0), .ref (r6 0), .ref (r7 0), .null, .null, .null, .null, .int 0, .null, .null, .int 0]) rfl ?_
  refine k_aload_n X dX10_init_81 0 rfl rfl ?_
  refine k_iconst (v := 3) X dX10_init_82 (by decide) ?_
  refine k_newa (N := 3) (kd := 24) (a0 := (3, .inl (fun _ => 0))) (ty := .int) X dX10_init_83 (inr_2 _ (List.mem_of_getElem? (i := 17) rfl)) rfl rfl (by decide) (fun C h => by cases h) (fun _ => rfl) (by decide) (by decide) (by decide) (by decide) (by decide) (fun q8 => ?_)
  refine k_consT ?_
  refine k_putF X dX10_init_85 ffX10_58 rfl rfl (Nat.le_of_ble_eq_true rfl) (fs' := [.ref (r1 0), .ref (r2 0), .ref (r3 0), .ref (r4 0), .ref (r5 0), .ref (r6 0), .ref (r7 0), .ref q8, .null, .null, .null, .int 0, .null, .null, .int 0]) rfl ?_
  refine k_aload_n X dX10_init_88 0 rfl rfl ?_
  refine k_init (fs0 := [.int 0, .int 0, .int 0, .null, .null, .null]) X dX10_init_89 dX10_init_92 dX10_init_93 cd_2 (inr_2 _ (List.mem_of_getElem? (i := 19) rfl)) (inr_2 _ (List.mem_of_getElem? (i := 20) rfl)) (inr_2 _ (List.mem_of_getElem? (i := 21) rfl)) (by decide) (inr_6 _ (List.mem_of_getElem? (i := 10) rfl)) (inr_4 _ (List.mem_of_getElem? (i := 23) rfl)) (inr_5 _ (List.mem_of_getElem? (i := 0) rfl)) ⟨rfl, rfl, by decide, by decide, by decide, by decide +kernel⟩ (fun l D => tX2_init l D _) (by decide) (by decide) (by decide) (Nat.le_of_ble_eq_true rfl) (fun r9 => ?_)
  refine k_consT ?_
  refine k_putF X dX10_init_96 ffX10_65 rfl rfl (Nat.le_of_ble_eq_true rfl) (fs' := [.ref (r1 0), .ref (r2 0), .ref (r3 0), .ref (r4 0), .ref (r5 0), .ref (r6 0), .ref (r7 0), .ref q8, .ref (r9 0), .null, .null, .int 0, .null, .null, .int 0]) rfl ?_
  refine k_aload_n X dX10_init_99 0 rfl rfl ?_
  refine k_init (fs0 := [.int 0, .int 0, .int 0, .null, .null, .null]) X dX10_init_100 dX10_init_103 dX10_init_104 cd_2 (inr_2 _ (List.mem_of_getElem? (i := 19) rfl)) (inr_2 _ (List.mem_of_getElem? (i := 20) rfl)) (inr_2 _ (List.mem_of_getElem? (i := 21) rfl)) (by decide) (inr_6 _ (List.mem_of_getElem? (i := 10) rfl)) (inr_4 _ (List.mem_of_getElem? (i := 23) rfl)) (inr_5 _ (List.mem_of_getElem? (i := 0) rfl)) ⟨rfl, rfl, by decide, by decide, by decide, by decide +kernel⟩ (fun l D => tX2_init l D _) (by decide) (by decide) (by decide) (Nat.le_of_ble_eq_true rfl) (fun r10 => ?_)
  refine k_consT ?_
  refine k_putF X dX10_init_107 ffX10_69 rfl rfl (Nat.le_of_ble_eq_true rfl) (fs' := [.ref (r1 0), .ref (r2 0), .ref (r3 0), .ref (r4 0), .ref (r5 0), .ref (r6 0), .ref (r7 0), .ref q8, .ref (r9 0), .ref (r10 0), .null, .int 0, .null, .null, .int 0]) rfl ?_
  refine k_aload_n X dX10_init_110 0 rfl rfl ?_
  refine k_bipush (v := 8) X dX10_init_111 (by decide) ?_
  refine k_newq (N := 8) (kd := 25) (C := RX2) X dX10_init_113 (inr_2 _ (List.mem_of_getElem? (i := 19) rfl)) (fun _ h => h.2.2.1) rfl (by decide) (by decide) (by decide) (by decide) (by decide) (by decide) (fun q11 => ?_)
  refine k_swap ?_
  refine k_putF X dX10_init_116 ffX10_72 rfl rfl (Nat.le_of_ble_eq_true rfl) (fs' := [.ref (r1 0), .ref (r2 0), .ref (r3 0), .ref (r4 0), .ref (r5 0), .ref (r6 0), .ref (r7 0), .ref q8, .ref (r9 0), .ref (r10 0), .ref q11, .int 0, .null, .null, .int 0]) rfl ?_
  refine k_iconst (v := 0) X dX10_init_119 (by decide) ?_
  refine k_istore_n X dX10_init_120 rfl (by decide) (lv' := [(1, .int 0), (0, .ref h0)]) rfl ?_
  refine k_iload_n X dX10_init_121 0 rfl rfl ?_
  refine k_bipush (v := 8) X dX10_init_122 (by decide) ?_
  refine k_icmp_ge (tgt := 146) X dX10_init_124 (by decide) (fun c0 => absurd c0 (by decide)) (fun _ => ?_)
  refine k_aload_n X dX10_init_127 1 rfl rfl ?_
  refine k_get X dX10_init_128 fkX10_72 rfl ?_
  refine k_iload_n X dX10_init_131 0 rfl rfl ?_
  refine k_init (fs0 := [.int 0, .int 0, .int 0, .null, .null, .null]) X dX10_init_132 dX10_init_135 dX10_init_136 cd_2 (inr_2 _ (List.mem_of_getElem? (i := 19) rfl)) (inr_2 _ (List.mem_of_getElem? (i := 20) rfl)) (inr_2 _ (List.mem_of_getElem? (i := 21) rfl)) (by decide) (inr_6 _ (List.mem_of_getElem? (i := 10) rfl)) (inr_4 _ (List.mem_of_getElem? (i := 23) rfl)) (inr_5 _ (List.mem_of_getElem? (i := 0) rfl)) ⟨rfl, rfl, by decide, by decide, by decide, by decide +kernel⟩ (fun l D => tX2_init l D _) (by decide) (by decide) (by decide) (Nat.le_of_ble_eq_true rfl) (fun r12 => ?_)
  refine k_consT ?_
  refine k_aastH (kd := 25) (ci := 2) (C := RX2) (T := TX2) (NC := 6) (j := 0) X dX10_init_139 rfl rfl (by decide) rfl (by decide) (by decide) ?_
  refine k_iinc (v := 1) X dX10_init_140 0 rfl (by decide) (by decide) (lv' := [(1, .int 1), (0, .ref h0)]) rfl ?_
  refine k_goto (tgt := 121) X dX10_init_143 (by decide) ?_
  refine k_iload_n X dX10_init_121 0 rfl rfl ?_
  refine k_bipush (v := 8) X dX10_init_122 (by decide) ?_
  refine k_icmp_ge (tgt := 146) X dX10_init_124 (by decide) (fun c0 => absurd c0 (by decide)) (fun _ => ?_)
  refine k_aload_n X dX10_init_127 1 rfl rfl ?_
  refine k_get X dX10_init_128 fkX10_72 rfl ?_
  refine k_iload_n X dX10_init_131 0 rfl rfl ?_
  refine k_init (fs0 := [.int 0, .int 0, .int 0, .null, .null, .null]) X dX10_init_132 dX10_init_135 dX10_init_136 cd_2 (inr_2 _ (List.mem_of_getElem? (i := 19) rfl)) (inr_2 _ (List.mem_of_getElem? (i := 20) rfl)) (inr_2 _ (List.mem_of_getElem? (i := 21) rfl)) (by decide) (inr_6 _ (List.mem_of_getElem? (i := 10) rfl)) (inr_4 _ (List.mem_of_getElem? (i := 23) rfl)) (inr_5 _ (List.mem_of_getElem? (i := 0) rfl)) ⟨rfl, rfl, by decide, by decide, by decide, by decide +kernel⟩ (fun l D => tX2_init l D _) (by decide) (by decide) (by decide) (Nat.le_of_ble_eq_true rfl) (fun r13 => ?_)
  refine k_consT ?_
  refine k_aastH (kd := 25) (ci := 2) (C := RX2) (T := TX2) (NC := 6) (j := 1) X dX10_init_139 rfl rfl (by decide) rfl (by decide) (by decide) ?_
  refine k_iinc (v := 2) X dX10_init_140 0 rfl (by decide) (by decide) (lv' := [(1, .int 2), (0, .ref h0)]) rfl ?_
  refine k_goto (tgt := 121) X dX10_init_143 (by decide) ?_
  refine k_iload_n X dX10_init_121 0 rfl rfl ?_
  refine k_bipush (v := 8) X dX10_init_122 (by decide) ?_
  refine k_icmp_ge (tgt := 146) X dX10_init_124 (by decide) (fun c0 => absurd c0 (by decide)) (fun _ => ?_)
  refine k_aload_n X dX10_init_127 1 rfl rfl ?_
  refine k_get X dX10_init_128 fkX10_72 rfl ?_
  refine k_iload_n X dX10_init_131 0 rfl rfl ?_
  refine k_init (fs0 := [.int 0, .int 0, .int 0, .null, .null, .null]) X dX10_init_132 dX10_init_135 dX10_init_136 cd_2 (inr_2 _ (List.mem_of_getElem? (i := 19) rfl)) (inr_2 _ (List.mem_of_getElem? (i := 20) rfl)) (inr_2 _ (List.mem_of_getElem? (i := 21) rfl)) (by decide) (inr_6 _ (List.mem_of_getElem? (i := 10) rfl)) (inr_4 _ (List.mem_of_getElem? (i := 23) rfl)) (inr_5 _ (List.mem_of_getElem? (i := 0) rfl)) ⟨rfl, rfl, by decide, by decide, by decide, by decide +kernel⟩ (fun l D => tX2_init l D _) (by decide) (by decide) (by decide) (Nat.le_of_ble_eq_true rfl) (fun r14 => ?_)
  refine k_consT ?_
  refine k_aastH (kd := 25) (ci := 2) (C := RX2) (T := TX2) (NC := 6) (j := 2) X dX10_init_139 rfl rfl (by decide) rfl (by decide) (by decide) ?_
  refine k_iinc (v := 3) X dX10_init_140 0 rfl (by decide) (by decide) (lv' := [(1, .int 3), (0, .ref h0)]) rfl ?_
  refine k_goto (tgt := 121) X dX10_init_143 (by decide) ?_
  refine k_iload_n X dX10_init_121 0 rfl rfl ?_
  refine k_bipush (v := 8) X dX10_init_122 (by decide) ?_
  refine k_icmp_ge (tgt := 146) X dX10_init_124 (by decide) (fun c0 => absurd c0 (by decide)) (fun _ => ?_)
  refine k_aload_n X dX10_init_127 1 rfl rfl ?_
  refine k_get X dX10_init_128 fkX10_72 rfl ?_
  refine k_iload_n X dX10_init_131 0 rfl rfl ?_
  refine k_init (fs0 := [.int 0, .int 0, .int 0, .null, .null, .null]) X dX10_init_132 dX10_init_135 dX10_init_136 cd_2 (inr_2 _ (List.mem_of_getElem? (i := 19) rfl)) (inr_2 _ (List.mem_of_getElem? (i := 20) rfl)) (inr_2 _ (List.mem_of_getElem? (i := 21) rfl)) (by decide) (inr_6 _ (List.mem_of_getElem? (i := 10) rfl)) (inr_4 _ (List.mem_of_getElem? (i := 23) rfl)) (inr_5 _ (List.mem_of_getElem? (i := 0) rfl)) ⟨rfl, rfl, by decide, by decide, by decide, by decide +kernel⟩ (fun l D => tX2_init l D _) (by decide) (by decide) (by decide) (Nat.le_of_ble_eq_true rfl) (fun r15 => ?_)
  refine k_consT ?_
  refine k_aastH (kd := 25) (ci := 2) (C := RX2) (T := TX2) (NC := 6) (j := 3) X dX10_init_139 rfl rfl (by decide) rfl (by decide) (by decide) ?_
  refine k_iinc (v := 4) X dX10_init_140 0 rfl (by decide) (by decide) (lv' := [(1, .int 4), (0, .ref h0)]) rfl ?_
  refine k_goto (tgt := 121) X dX10_init_143 (by decide) ?_
  refine k_iload_n X dX10_init_121 0 rfl rfl ?_
  refine k_bipush (v := 8) X dX10_init_122 (by decide) ?_
  refine k_icmp_ge (tgt := 146) X dX10_init_124 (by decide) (fun c0 => absurd c0 (by decide)) (fun _ => ?_)
  refine k_aload_n X dX10_init_127 1 rfl rfl ?_
  refine k_get X dX10_init_128 fkX10_72 rfl ?_
  refine k_iload_n X dX10_init_131 0 rfl rfl ?_
  refine k_init (fs0 := [.int 0, .int 0, .int 0, .null, .null, .null]) X dX10_init_132 dX10_init_135 dX10_init_136 cd_2 (inr_2 _ (List.mem_of_getElem? (i := 19) rfl)) (inr_2 _ (List.mem_of_getElem? (i := 20) rfl)) (inr_2 _ (List.mem_of_getElem? (i := 21) rfl)) (by decide) (inr_6 _ (List.mem_of_getElem? (i := 10) rfl)) (inr_4 _ (List.mem_of_getElem? (i := 23) rfl)) (inr_5 _ (List.mem_of_getElem? (i := 0) rfl)) ⟨rfl, rfl, by decide, by decide, by decide, by decide +kernel⟩ (fun l D => tX2_init l D _) (by decide) (by decide) (by decide) (Nat.le_of_ble_eq_true rfl) (fun r16 => ?_)
  refine k_consT ?_
  refine k_aastH (kd := 25) (ci := 2) (C := RX2) (T := TX2) (NC := 6) (j := 4) X dX10_init_139 rfl rfl (by decide) rfl (by decide) (by decide) ?_
  refine k_iinc (v := 5) X dX10_init_140 0 rfl (by decide) (by decide) (lv' := [(1, .int 5), (0, .ref h0)]) rfl ?_
  refine k_goto (tgt := 121) X dX10_init_143 (by decide) ?_
  refine k_iload_n X dX10_init_121 0 rfl rfl ?_
  refine k_bipush (v := 8) X dX10_init_122 (by decide) ?_
  refine k_icmp_ge (tgt := 146) X dX10_init_124 (by decide) (fun c0 => absurd c0 (by decide)) (fun _ => ?_)
  refine k_aload_n X dX10_init_127 1 rfl rfl ?_
  refine k_get X dX10_init_128 fkX10_72 rfl ?_
  refine k_iload_n X dX10_init_131 0 rfl rfl ?_
  refine k_init (fs0 := [.int 0, .int 0, .int 0, .null, .null, .null]) X dX10_init_132 dX10_init_135 dX10_init_136 cd_2 (inr_2 _ (List.mem_of_getElem? (i := 19) rfl)) (inr_2 _ (List.mem_of_getElem? (i := 20) rfl)) (inr_2 _ (List.mem_of_getElem? (i := 21) rfl)) (by decide) (inr_6 _ (List.mem_of_getElem? (i := 10) rfl)) (inr_4 _ (List.mem_of_getElem? (i := 23) rfl)) (inr_5 _ (List.mem_of_getElem? (i := 0) rfl)) ⟨rfl, rfl, by decide, by decide, by decide, by decide +kernel⟩ (fun l D => tX2_init l D _) (by decide) (by decide) (by decide) (Nat.le_of_ble_eq_true rfl) (fun r17 => ?_)
  refine k_consT ?_
  refine k_aastH (kd := 25) (ci := 2) (C := RX2) (T := TX2) (NC := 6) (j := 5) X dX10_init_139 rfl rfl (by decide) rfl (by decide) (by decide) ?_
  refine k_iinc (v := 6) X dX10_init_140 0 rfl (by decide) (by decide) (lv' := [(1, .int 6), (0, .ref h0)]) rfl ?_
  refine k_goto (tgt := 121) X dX10_init_143 (by decide) ?_
  refine k_iload_n X dX10_init_121 0 rfl rfl ?_
  refine k_bipush (v := 8) X dX10_init_122 (by decide) ?_
  refine k_icmp_ge (tgt := 146) X dX10_init_124 (by decide) (fun c0 => absurd c0 (by decide)) (fun _ => ?_)
  refine k_aload_n X dX10_init_127 1 rfl rfl ?_
  refine k_get X dX10_init_128 fkX10_72 rfl ?_
  refine k_iload_n X dX10_init_131 0 rfl rfl ?_
  refine k_init (fs0 := [.int 0, .int 0, .int 0, .null, .null, .null]) X dX10_init_132 dX10_init_135 dX10_init_136 cd_2 (inr_2 _ (List.mem_of_getElem? (i := 19) rfl)) (inr_2 _ (List.mem_of_getElem? (i := 20) rfl)) (inr_2 _ (List.mem_of_getElem? (i := 21) rfl)) (by decide) (inr_6 _ (List.mem_of_getElem? (i := 10) rfl)) (inr_4 _ (List.mem_of_getElem? (i := 23) rfl)) (inr_5 _ (List.mem_of_getElem? (i := 0) rfl)) ⟨rfl, rfl, by decide, by decide, by decide, by decide +kernel⟩ (fun l D => tX2_init l D _) (by decide) (by decide) (by decide) (Nat.le_of_ble_eq_true rfl) (fun r18 => ?_)
  refine k_consT ?_
  refine k_aastH (kd := 25) (ci := 2) (C := RX2) (T := TX2) (NC := 6) (j := 6) X dX10_init_139 rfl rfl (by decide) rfl (by decide) (by decide) ?_
  refine k_iinc (v := 7) X dX10_init_140 0 rfl (by decide) (by decide) (lv' := [(1, .int 7), (0, .ref h0)]) rfl ?_
  refine k_goto (tgt := 121) X dX10_init_143 (by decide) ?_
  refine k_iload_n X dX10_init_121 0 rfl rfl ?_
  refine k_bipush (v := 8) X dX10_init_122 (by decide) ?_
  refine k_icmp_ge (tgt := 146) X dX10_init_124 (by decide) (fun c0 => absurd c0 (by decide)) (fun _ => ?_)
  refine k_aload_n X dX10_init_127 1 rfl rfl ?_
  refine k_get X dX10_init_128 fkX10_72 rfl ?_
  refine k_iload_n X dX10_init_131 0 rfl rfl ?_
  refine k_init (fs0 := [.int 0, .int 0, .int 0, .null, .null, .null]) X dX10_init_132 dX10_init_135 dX10_init_136 cd_2 (inr_2 _ (List.mem_of_getElem? (i := 19) rfl)) (inr_2 _ (List.mem_of_getElem? (i := 20) rfl)) (inr_2 _ (List.mem_of_getElem? (i := 21) rfl)) (by decide) (inr_6 _ (List.mem_of_getElem? (i := 10) rfl)) (inr_4 _ (List.mem_of_getElem? (i := 23) rfl)) (inr_5 _ (List.mem_of_getElem? (i := 0) rfl)) ⟨rfl, rfl, by decide, by decide, by decide, by decide +kernel⟩ (fun l D => tX2_init l D _) (by decide) (by decide) (by decide) (Nat.le_of_ble_eq_true rfl) (fun r19 => ?_)
  refine k_consT ?_
  refine k_aastH (kd := 25) (ci := 2) (C := RX2) (T := TX2) (NC := 6) (j := 7) X dX10_init_139 rfl rfl (by decide) rfl (by decide) (by decide) ?_
  refine k_iinc (v := 8) X dX10_init_140 0 rfl (by decide) (by decide) (lv' := [(1, .int 8), (0, .ref h0)]) rfl ?_
  refine k_goto (tgt := 121) X dX10_init_143 (by decide) ?_
  refine k_iload_n X dX10_init_121 0 rfl rfl ?_
  refine k_bipush (v := 8) X dX10_init_122 (by decide) ?_
  refine k_icmp_ge (tgt := 146) X dX10_init_124 (by decide) (fun _ => ?_) (fun c0 => absurd c0 (by decide))
  refine k_aload_n X dX10_init_146 1 rfl rfl ?_
  refine k_iconst (v := 2) X dX10_init_147 (by decide) ?_
  refine k_newq (N := 2) (kd := 26) (C := RX9) X dX10_init_148 (inr_1 _ (List.mem_of_getElem? (i := 17) rfl)) (fun _ h => h.2.2.2) rfl (by decide) (by decide) (by decide) (by decide) (by decide) (by decide) (fun q20 => ?_)
  refine k_swap ?_
  refine k_putF X dX10_init_151 ffX10_76 rfl rfl (Nat.le_of_ble_eq_true rfl) (fs' := [.ref (r1 0), .ref (r2 0), .ref (r3 0), .ref (r4 0), .ref (r5 0), .ref (r6 0), .ref (r7 0), .ref q8, .ref (r9 0), .ref (r10 0), .ref q11, .int 0, .ref q20, .null, .int 0]) rfl ?_
  refine k_iconst (v := 0) X dX10_init_154 (by decide) ?_
  refine k_istore_n X dX10_init_155 rfl (by decide) (lv' := [(1, .int 0), (0, .ref h0)]) rfl ?_
  refine k_iload_n X dX10_init_156 0 rfl rfl ?_
  refine k_iconst (v := 2) X dX10_init_157 (by decide) ?_
  refine k_icmp_ge (tgt := 180) X dX10_init_158 (by decide) (fun c0 => absurd c0 (by decide)) (fun _ => ?_)
  refine k_aload_n X dX10_init_161 1 rfl rfl ?_
  refine k_get X dX10_init_162 fkX10_76 rfl ?_
  refine k_iload_n X dX10_init_165 0 rfl rfl ?_
  refine k_init (fs0 := [.null, .null, .null]) X dX10_init_166 dX10_init_169 dX10_init_170 cd_9 (inr_1 _ (List.mem_of_getElem? (i := 17) rfl)) (inr_1 _ (List.mem_of_getElem? (i := 18) rfl)) (inr_1 _ (List.mem_of_getElem? (i := 19) rfl)) (by decide) (inr_3 _ (List.mem_of_getElem? (i := 10) rfl)) (inr_3 _ (List.mem_of_getElem? (i := 11) rfl)) (inr_3 _ (List.mem_of_getElem? (i := 12) rfl)) ⟨rfl, rfl, by decide, by decide, by decide, by decide +kernel⟩ (fun l D => tX9_init l D _) (by decide) (by decide) (by decide) (Nat.le_of_ble_eq_true rfl) (fun r21 => ?_)
  refine k_consT ?_
  refine k_aastH (kd := 26) (ci := 9) (C := RX9) (T := TX9) (NC := 3) (j := 0) X dX10_init_173 rfl rfl (by decide) rfl (by decide) (by decide) ?_
  refine k_iinc (v := 1) X dX10_init_174 0 rfl (by decide) (by decide) (lv' := [(1, .int 1), (0, .ref h0)]) rfl ?_
  refine k_goto (tgt := 156) X dX10_init_177 (by decide) ?_
  refine k_iload_n X dX10_init_156 0 rfl rfl ?_
  refine k_iconst (v := 2) X dX10_init_157 (by decide) ?_
  refine k_icmp_ge (tgt := 180) X dX10_init_158 (by decide) (fun c0 => absurd c0 (by decide)) (fun _ => ?_)
  refine k_aload_n X dX10_init_161 1 rfl rfl ?_
  refine k_get X dX10_init_162 fkX10_76 rfl ?_
  refine k_iload_n X dX10_init_165 0 rfl rfl ?_
  refine k_init (fs0 := [.null, .null, .null]) X dX10_init_166 dX10_init_169 dX10_init_170 cd_9 (inr_1 _ (List.mem_of_getElem? (i := 17) rfl)) (inr_1 _ (List.mem_of_getElem? (i := 18) rfl)) (inr_1 _ (List.mem_of_getElem? (i := 19) rfl)) (by decide) (inr_3 _ (List.mem_of_getElem? (i := 10) rfl)) (inr_3 _ (List.mem_of_getElem? (i := 11) rfl)) (inr_3 _ (List.mem_of_getElem? (i := 12) rfl)) ⟨rfl, rfl, by decide, by decide, by decide, by decide +kernel⟩ (fun l D => tX9_init l D _) (by decide) (by decide) (by decide) (Nat.le_of_ble_eq_true rfl) (fun r22 => ?_)
  refine k_consT ?_
  refine k_aastH (kd := 26) (ci := 9) (C := RX9) (T := TX9) (NC := 3) (j := 1) X dX10_init_173 rfl rfl (by decide) rfl (by decide) (by decide) ?_
  refine k_iinc (v := 2) X dX10_init_174 0 rfl (by decide) (by decide) (lv' := [(1, .int 2), (0, .ref h0)]) rfl ?_
  refine k_goto (tgt := 156) X dX10_init_177 (by decide) ?_
  refine k_iload_n X dX10_init_156 0 rfl rfl ?_
  refine k_iconst (v := 2) X dX10_init_157 (by decide) ?_
  refine k_icmp_ge (tgt := 180) X dX10_init_158 (by decide) (fun _ => ?_) (fun c0 => absurd c0 (by decide))
  refine k_aload_n X dX10_init_180 1 rfl rfl ?_
  refine k_iconst (v := 2) X dX10_init_181 (by decide) ?_
  refine k_newa (N := 2) (kd := 27) (a0 := (2, .inl (fun _ => 0))) (ty := .boolean) X dX10_init_182 (inr_3 _ (List.mem_of_getElem? (i := 2) rfl)) rfl rfl (by decide) (fun C h => by cases h) (fun _ => rfl) (by decide) (by decide) (by decide) (by decide) (by decide) (fun q23 => ?_)
  refine k_consT ?_
  refine k_putF X dX10_init_184 ffX10_80 rfl rfl (Nat.le_of_ble_eq_true rfl) (fs' := [.ref (r1 0), .ref (r2 0), .ref (r3 0), .ref (r4 0), .ref (r5 0), .ref (r6 0), .ref (r7 0), .ref q8, .ref (r9 0), .ref (r10 0), .ref q11, .int 0, .ref q20, .ref q23, .int 0]) rfl ?_
  exact hret (fun i => if i < 1 then h0 else if i < 2 then q20 else if i < 3 then q11 else if i < 5 then r1 (i - 3) else if i < 28 then r2 (i - 5) else if i < 42 then r3 (i - 28) else if i < 46 then r4 (i - 42) else if i < 49 then r5 (i - 46) else if i < 50 then r6 (i - 49) else if i < 52 then r7 (i - 50) else if i < 53 then q8 else if i < 57 then r9 (i - 53) else if i < 61 then r10 (i - 57) else if i < 65 then r12 (i - 61) else if i < 69 then r13 (i - 65) else if i < 73 then r14 (i - 69) else if i < 77 then r15 (i - 73) else if i < 81 then r16 (i - 77) else if i < 85 then r17 (i - 81) else if i < 89 then r18 (i - 85) else if i < 93 then r19 (i - 89) else if i < 116 then r21 (i - 93) else if i < 139 then r22 (i - 116) else q23) 187 _ dX10_init_187 rfl)
