theorem dX0_init_0 : decode cX0_init 0 = .ok (.aload_n 0, 1) := by decide +kernel
theorem dX0_init_1 : decode cX0_init 1 = .ok (.invokespecial 3, 3) := by decide +kernel
theorem dX0_init_4 : decode cX0_init 4 = .ok (.aload_n 0, 1) := by decide +kernel
theorem dX0_init_5 : decode cX0_init 5 = .ok (.iconst (-1), 1) := by decide +kernel
theorem dX0_init_6 : decode cX0_init 6 = .ok (.putfield 9, 3) := by decide +kernel
theorem dX0_init_9 : decode cX0_init 9 = .ok (.aload_n 0, 1) := by decide +kernel
theorem dX0_init_10 : decode cX0_init 10 = .ok (.iconst (-1), 1) := by decide +kernel
theorem dX0_init_11 : decode cX0_init 11 = .ok (.putfield 15, 3) := by decide +kernel
theorem dX0_init_14 : decode cX0_init 14 = .ok (.aload_n 0, 1) := by decide +kernel
theorem dX0_init_15 : decode cX0_init 15 = .ok (.iconst (-1), 1) := by decide +kernel
theorem dX0_init_16 : decode cX0_init 16 = .ok (.putfield 18, 3) := by decide +kernel
theorem dX0_init_19 : decode cX0_init 19 = .ok (.aload_n 0, 1) := by decide +kernel
theorem dX0_init_20 : decode cX0_init 20 = .ok (.iconst (-1), 1) := by decide +kernel
theorem dX0_init_21 : decode cX0_init 21 = .ok (.putfield 21, 3) := by decide +kernel
theorem dX0_init_24 : decode cX0_init 24 = .ok (.aload_n 0, 1) := by decide +kernel
theorem dX0_init_25 : decode cX0_init 25 = .ok (.iconst (-1), 1) := by decide +kernel
theorem dX0_init_26 : decode cX0_init 26 = .ok (.putfield 24, 3) := by decide +kernel
theorem dX0_init_29 : decode cX0_init 29 = .ok (.return_, 1) := by decide +kernel
theorem fpcX0_9 : FP RX0 9 0 0 .int := ⟨RX0, TX0, 5, tyX0, cd_0, by decide, (inr_6 _ (List.mem_of_getElem? (i := 0) rfl)), rfl, by decide +kernel⟩
theorem fpcX0_15 : FP RX0 15 0 1 .int := ⟨RX0, TX0, 5, tyX0, cd_0, by decide, (inr_6 _ (List.mem_of_getElem? (i := 1) rfl)), rfl, by decide +kernel⟩
theorem fpcX0_18 : FP RX0 18 0 2 .int := ⟨RX0, TX0, 5, tyX0, cd_0, by decide, (inr_6 _ (List.mem_of_getElem? (i := 2) rfl)), rfl, by decide +kernel⟩
theorem fpcX0_21 : FP RX0 21 0 3 .int := ⟨RX0, TX0, 5, tyX0, cd_0, by decide, (inr_6 _ (List.mem_of_getElem? (i := 3) rfl)), rfl, by decide +kernel⟩
theorem fpcX0_24 : FP RX0 24 0 4 .int := ⟨RX0, TX0, 5, tyX0, cd_0, by decide, (inr_6 _ (List.mem_of_getElem? (i := 4) rfl)), rfl, by decide +kernel⟩
def bk0 (cy : Nat → ClassId) (q : Nat → Nat) : va_W := (((q 0), .inr (0, [.int (-1), .int (-1), .int (-1), .int (-1), .int (-1)])) :: ([]))
set_option maxHeartbeats 4000000 in
set_option maxRecDepth 100000 in
theorem tX0_init (l : Launch) (D : va_G) (cy : Nat → ClassId) : OkI l yX0_init cX0_init 1 1 0 0 D cy 0 [.int 0, .int 0, .int 0, .int 0, .int 0] (bk0 cy) := okI_of (by decide) rfl (by decide) (fun z A h0 hz X hret => by
  subst hz
  refine k_aload_n X dX0_init_0 0 rfl rfl ?_
  refine k_obj X dX0_init_1 (inr_5 _ (List.mem_of_getElem? (i := 23) rfl)) (inr_1 _ (List.mem_of_getElem? (i := 11) rfl)) (inr_1 _ (List.mem_of_getElem? (i := 12) rfl)) (by decide) ?_
  refine k_aload_n X dX0_init_4 0 rfl rfl ?_
  refine k_iconst (v := -1) X dX0_init_5 (by decide) ?_
  refine k_put X dX0_init_6 fpcX0_9 rfl rfl (Nat.le_of_ble_eq_true rfl) (fs' := [.int (-1), .int 0, .int 0, .int 0, .int 0]) rfl ?_
  refine k_aload_n X dX0_init_9 0 rfl rfl ?_
  refine k_iconst (v := -1) X dX0_init_10 (by decide) ?_
  refine k_put X dX0_init_11 fpcX0_15 rfl rfl (Nat.le_of_ble_eq_true rfl) (fs' := [.int (-1), .int (-1), .int 0, .int 0, .int 0]) rfl ?_
  refine k_aload_n X dX0_init_14 0 rfl rfl ?_
  refine k_iconst (v := -1) X dX0_init_15 (by decide) ?_
  refine k_put X dX0_init_16 fpcX0_18 rfl rfl (Nat.le_of_ble_eq_true rfl) (fs' := [.int (-1), .int (-1), .int (-1), .int 0, .int 0]) rfl ?_
  refine k_aload_n X dX0_init_19 0 rfl rfl ?_
  refine k_iconst (v := -1) X dX0_init_20 (by decide) ?_
  refine k_put X dX0_init_21 fpcX0_21 rfl rfl (Nat.le_of_ble_eq_true rfl) (fs' := [.int (-1), .int (-1), .int (-1), .int (-1), .int 0]) rfl ?_
  refine k_aload_n X dX0_init_24 0 rfl rfl ?_
  refine k_iconst (v := -1) X dX0_init_25 (by decide) ?_
  refine k_put X dX0_init_26 fpcX0_24 rfl rfl (Nat.le_of_ble_eq_true rfl) (fs' := [.int (-1), .int (-1), .int (-1), .int (-1), .int (-1)]) rfl ?_
  exact hret (fun _ => h0) 29 _ dX0_init_29 rfl)
theorem dX1_init_0 : decode cX1_init 0 = .ok (.aload_n 0, 1) := by decide +kernel
theorem dX1_init_1 : decode cX1_init 1 = .ok (.invokespecial 3, 3) := by decide +kernel
theorem dX1_init_4 : decode cX1_init 4 = .ok (.aload_n 0, 1) := by decide +kernel
theorem dX1_init_5 : decode cX1_init 5 = .ok (.bipush 40, 2) := by decide +kernel
theorem dX1_init_7 : decode cX1_init 7 = .ok (.newarray .int, 2) := by decide +kernel
theorem dX1_init_9 : decode cX1_init 9 = .ok (.putfield 9, 3) := by decide +kernel
theorem dX1_init_12 : decode cX1_init 12 = .ok (.aload_n 0, 1) := by decide +kernel
theorem dX1_init_13 : decode cX1_init 13 = .ok (.bipush 40, 2) := by decide +kernel
theorem dX1_init_15 : decode cX1_init 15 = .ok (.newarray .int, 2) := by decide +kernel
theorem dX1_init_17 : decode cX1_init 17 = .ok (.putfield 15, 3) := by decide +kernel
theorem dX1_init_20 : decode cX1_init 20 = .ok (.return_, 1) := by decide +kernel
theorem ffX1_9 : FF RX1 9 1 0 (.array (.int)) := ⟨RX1, TX1, 8, tyX1, cd_1, by decide, (inr_5 _ (List.mem_of_getElem? (i := 18) rfl)), rfl, by decide +kernel, rfl⟩
theorem ffX1_15 : FF RX1 15 1 1 (.array (.int)) := ⟨RX1, TX1, 8, tyX1, cd_1, by decide, (inr_5 _ (List.mem_of_getElem? (i := 19) rfl)), rfl, by decide +kernel, rfl⟩
def bk1 (cy : Nat → ClassId) (q : Nat → Nat) : va_W := (((q 0), .inr (1, [.ref (q 1), .ref (q 2), .int 0, .int 0, .int 0, .int 0, .int 0, .int 0])) :: ([] ++ [((q 1), .inl (cy 21, 40, .inl (fun _ => 0)))] ++ [((q 2), .inl (cy 22, 40, .inl (fun _ => 0)))]))
set_option maxHeartbeats 4000000 in
set_option maxRecDepth 100000 in
theorem tX1_init (l : Launch) (D : va_G) (cy : Nat → ClassId) : OkI l yX1_init cX1_init 1 1 2 80 D cy 1 [.null, .null, .int 0, .int 0, .int 0, .int 0, .int 0, .int 0] (bk1 cy) := okI_of (by decide) rfl (by decide) (fun z A h0 hz X hret => by
  subst hz
  refine k_aload_n X dX1_init_0 0 rfl rfl ?_
  refine k_obj X dX1_init_1 (inr_5 _ (List.mem_of_getElem? (i := 17) rfl)) (inr_1 _ (List.mem_of_getElem? (i := 11) rfl)) (inr_1 _ (List.mem_of_getElem? (i := 12) rfl)) (by decide) ?_
  refine k_aload_n X dX1_init_4 0 rfl rfl ?_
  refine k_bipush (v := 40) X dX1_init_5 (by decide) ?_
  refine k_newa (N := 40) (kd := 21) (a0 := (40, .inl (fun _ => 0))) (ty := .int) X dX1_init_7 (inr_2 _ (List.mem_of_getElem? (i := 17) rfl)) rfl rfl (by decide) (fun C h => by cases h) (fun _ => rfl) (by decide) (by decide) (by decide) (by decide) (by decide) (fun q1 => ?_)
  show KW z A ((h0, .inr (1, [.null, .null, .int 0, .int 0, .int 0, .int 0, .int 0, .int 0])) :: ([] ++ [(q1, .inl (z.2.2.1 21, 40, .inl (fun _ => 0)))])) 1 40 _ _ _
  refine k_putF X dX1_init_9 ffX1_9 rfl rfl (Nat.le_of_ble_eq_true rfl) (fs' := [.ref q1, .null, .int 0, .int 0, .int 0, .int 0, .int 0, .int 0]) rfl ?_
  refine k_aload_n X dX1_init_12 0 rfl rfl ?_
  refine k_bipush (v := 40) X dX1_init_13 (by decide) ?_
  refine k_newa (N := 40) (kd := 22) (a0 := (40, .inl (fun _ => 0))) (ty := .int) X dX1_init_15 (inr_2 _ (List.mem_of_getElem? (i := 17) rfl)) rfl rfl (by decide) (fun C h => by cases h) (fun _ => rfl) (by decide) (by decide) (by decide) (by decide) (by decide) (fun q2 => ?_)
  show KW z A ((h0, .inr (1, [.ref q1, .null, .int 0, .int 0, .int 0, .int 0, .int 0, .int 0])) :: ([] ++ [(q1, .inl (z.2.2.1 21, 40, .inl (fun _ => 0)))] ++ [(q2, .inl (z.2.2.1 22, 40, .inl (fun _ => 0)))])) 2 80 _ _ _
  refine k_putF X dX1_init_17 ffX1_15 rfl rfl (Nat.le_of_ble_eq_true rfl) (fs' := [.ref q1, .ref q2, .int 0, .int 0, .int 0, .int 0, .int 0, .int 0]) rfl ?_
  exact hret (fun i => if i < 1 then h0 else if i < 2 then q1 else q2) 20 _ dX1_init_20 rfl)
theorem dX2_init_0 : decode cX2_init 0 = .ok (.aload_n 0, 1) := by decide +kernel
theorem dX2_init_1 : decode cX2_init 1 = .ok (.invokespecial 3, 3) := by decide +kernel
theorem dX2_init_4 : decode cX2_init 4 = .ok (.aload_n 0, 1) := by decide +kernel
theorem dX2_init_5 : decode cX2_init 5 = .ok (.iconst 5, 1) := by decide +kernel
theorem dX2_init_6 : decode cX2_init 6 = .ok (.newarray .int, 2) := by decide +kernel
theorem dX2_init_8 : decode cX2_init 8 = .ok (.putfield 9, 3) := by decide +kernel
theorem dX2_init_11 : decode cX2_init 11 = .ok (.aload_n 0, 1) := by decide +kernel
theorem dX2_init_12 : decode cX2_init 12 = .ok (.iconst 5, 1) := by decide +kernel
theorem dX2_init_13 : decode cX2_init 13 = .ok (.newarray .int, 2) := by decide +kernel
theorem dX2_init_15 : decode cX2_init 15 = .ok (.putfield 15, 3) := by decide +kernel
theorem dX2_init_18 : decode cX2_init 18 = .ok (.aload_n 0, 1) := by decide +kernel
theorem dX2_init_19 : decode cX2_init 19 = .ok (.iconst 5, 1) := by decide +kernel
theorem dX2_init_20 : decode cX2_init 20 = .ok (.newarray .int, 2) := by decide +kernel
theorem dX2_init_22 : decode cX2_init 22 = .ok (.putfield 18, 3) := by decide +kernel
theorem dX2_init_25 : decode cX2_init 25 = .ok (.return_, 1) := by decide +kernel
theorem ffX2_9 : FF RX2 9 2 3 (.array (.int)) := ⟨RX2, TX2, 6, tyX2, cd_2, by decide, (inr_5 _ (List.mem_of_getElem? (i := 2) rfl)), rfl, by decide +kernel, rfl⟩
theorem ffX2_15 : FF RX2 15 2 4 (.array (.int)) := ⟨RX2, TX2, 6, tyX2, cd_2, by decide, (inr_5 _ (List.mem_of_getElem? (i := 3) rfl)), rfl, by decide +kernel, rfl⟩
theorem ffX2_18 : FF RX2 18 2 5 (.array (.int)) := ⟨RX2, TX2, 6, tyX2, cd_2, by decide, (inr_5 _ (List.mem_of_getElem? (i := 4) rfl)), rfl, by decide +kernel, rfl⟩
def bk2 (cy : Nat → ClassId) (q : Nat → Nat) : va_W := (((q 0), .inr (2, [.int 0, .int 0, .int 0, .ref (q 1), .ref (q 2), .ref (q 3)])) :: ([] ++ [((q 1), .inl (cy 15, 5, .inl (fun _ => 0)))] ++ [((q 2), .inl (cy 16, 5, .inl (fun _ => 0)))] ++ [((q 3), .inl (cy 17, 5, .inl (fun _ => 0)))]))
set_option maxHeartbeats 4000000 in
set_option maxRecDepth 100000 in
theorem tX2_init (l : Launch) (D : va_G) (cy : Nat → ClassId) : OkI l yX2_init cX2_init 1 1 3 15 D cy 2 [.int 0, .int 0, .int 0, .null, .null, .null] (bk2 cy) := okI_of (by decide) rfl (by decide) (fun z A h0 hz X hret => by
  subst hz
  refine k_aload_n X dX2_init_0 0 rfl rfl ?_
  refine k_obj X dX2_init_1 (inr_5 _ (List.mem_of_getElem? (i := 1) rfl)) (inr_1 _ (List.mem_of_getElem? (i := 11) rfl)) (inr_1 _ (List.mem_of_getElem? (i := 12) rfl)) (by decide) ?_
  refine k_aload_n X dX2_init_4 0 rfl rfl ?_
  refine k_iconst (v := 5) X dX2_init_5 (by decide) ?_
  refine k_newa (N := 5) (kd := 15) (a0 := (5, .inl (fun _ => 0))) (ty := .int) X dX2_init_6 (inr_2 _ (List.mem_of_getElem? (i := 17) rfl)) rfl rfl (by decide) (fun C h => by cases h) (fun _ => rfl) (by decide) (by decide) (by decide) (by decide) (by decide) (fun q1 => ?_)
  show KW z A ((h0, .inr (2, [.int 0, .int 0, .int 0, .null, .null, .null])) :: ([] ++ [(q1, .inl (z.2.2.1 15, 5, .inl (fun _ => 0)))])) 1 5 _ _ _
  refine k_putF X dX2_init_8 ffX2_9 rfl rfl (Nat.le_of_ble_eq_true rfl) (fs' := [.int 0, .int 0, .int 0, .ref q1, .null, .null]) rfl ?_
  refine k_aload_n X dX2_init_11 0 rfl rfl ?_
  refine k_iconst (v := 5) X dX2_init_12 (by decide) ?_
  refine k_newa (N := 5) (kd := 16) (a0 := (5, .inl (fun _ => 0))) (ty := .int) X dX2_init_13 (inr_2 _ (List.mem_of_getElem? (i := 17) rfl)) rfl rfl (by decide) (fun C h => by cases h) (fun _ => rfl) (by decide) (by decide) (by decide) (by decide) (by decide) (fun q2 => ?_)
  show KW z A ((h0, .inr (2, [.int 0, .int 0, .int 0, .ref q1, .null, .null])) :: ([] ++ [(q1, .inl (z.2.2.1 15, 5, .inl (fun _ => 0)))] ++ [(q2, .inl (z.2.2.1 16, 5, .inl (fun _ => 0)))])) 2 10 _ _ _
  refine k_putF X dX2_init_15 ffX2_15 rfl rfl (Nat.le_of_ble_eq_true rfl) (fs' := [.int 0, .int 0, .int 0, .ref q1, .ref q2, .null]) rfl ?_
  refine k_aload_n X dX2_init_18 0 rfl rfl ?_
  refine k_iconst (v := 5) X dX2_init_19 (by decide) ?_
  refine k_newa (N := 5) (kd := 17) (a0 := (5, .inl (fun _ => 0))) (ty := .int) X dX2_init_20 (inr_2 _ (List.mem_of_getElem? (i := 17) rfl)) rfl rfl (by decide) (fun C h => by cases h) (fun _ => rfl) (by decide) (by decide) (by decide) (by decide) (by decide) (fun q3 => ?_)
  show KW z A ((h0, .inr (2, [.int 0, .int 0, .int 0, .ref q1, .ref q2, .null])) :: ([] ++ [(q1, .inl (z.2.2.1 15, 5, .inl (fun _ => 0)))] ++ [(q2, .inl (z.2.2.1 16, 5, .inl (fun _ => 0)))] ++ [(q3, .inl (z.2.2.1 17, 5, .inl (fun _ => 0)))])) 3 15 _ _ _
  refine k_putF X dX2_init_22 ffX2_18 rfl rfl (Nat.le_of_ble_eq_true rfl) (fs' := [.int 0, .int 0, .int 0, .ref q1, .ref q2, .ref q3]) rfl ?_
  exact hret (fun i => if i < 1 then h0 else if i < 2 then q1 else if i < 3 then q2 else q3) 25 _ dX2_init_25 rfl)
theorem dX3_init_0 : decode cX3_init 0 = .ok (.aload_n 0, 1) := by decide +kernel
theorem dX3_init_1 : decode cX3_init 1 = .ok (.invokespecial 1, 3) := by decide +kernel
theorem dX3_init_4 : decode cX3_init 4 = .ok (.return_, 1) := by decide +kernel
def bk3 (cy : Nat → ClassId) (q : Nat → Nat) : va_W := (((q 0), .inr (3, [.long 0, .int 0, .int 0, .int 0])) :: ([]))
set_option maxHeartbeats 4000000 in
set_option maxRecDepth 100000 in
theorem tX3_init (l : Launch) (D : va_G) (cy : Nat → ClassId) : OkI l yX3_init cX3_init 1 1 0 0 D cy 3 [.long 0, .int 0, .int 0, .int 0] (bk3 cy) := okI_of (by decide) rfl (by decide) (fun z A h0 hz X hret => by
  subst hz
  refine k_aload_n X dX3_init_0 0 rfl rfl ?_
  refine k_obj X dX3_init_1 (inr_4 _ (List.mem_of_getElem? (i := 21) rfl)) (inr_1 _ (List.mem_of_getElem? (i := 11) rfl)) (inr_1 _ (List.mem_of_getElem? (i := 12) rfl)) (by decide) ?_
  exact hret (fun _ => h0) 4 _ dX3_init_4 rfl)
theorem dX4_init_0 : decode cX4_init 0 = .ok (.aload_n 0, 1) := by decide +kernel
theorem dX4_init_1 : decode cX4_init 1 = .ok (.invokespecial 3, 3) := by decide +kernel
theorem dX4_init_4 : decode cX4_init 4 = .ok (.aload_n 0, 1) := by decide +kernel
theorem dX4_init_5 : decode cX4_init 5 = .ok (.iconst 1, 1) := by decide +kernel
theorem dX4_init_6 : decode cX4_init 6 = .ok (.putfield 9, 3) := by decide +kernel
theorem dX4_init_9 : decode cX4_init 9 = .ok (.aload_n 0, 1) := by decide +kernel
theorem dX4_init_10 : decode cX4_init 10 = .ok (.iconst 1, 1) := by decide +kernel
theorem dX4_init_11 : decode cX4_init 11 = .ok (.putfield 15, 3) := by decide +kernel
theorem dX4_init_14 : decode cX4_init 14 = .ok (.aload_n 0, 1) := by decide +kernel
theorem dX4_init_15 : decode cX4_init 15 = .ok (.iconst 1, 1) := by decide +kernel
theorem dX4_init_16 : decode cX4_init 16 = .ok (.putfield 18, 3) := by decide +kernel
theorem dX4_init_19 : decode cX4_init 19 = .ok (.aload_n 0, 1) := by decide +kernel
theorem dX4_init_20 : decode cX4_init 20 = .ok (.iconst 1, 1) := by decide +kernel
theorem dX4_init_21 : decode cX4_init 21 = .ok (.putfield 21, 3) := by decide +kernel
theorem dX4_init_24 : decode cX4_init 24 = .ok (.return_, 1) := by decide +kernel
theorem fpcX4_9 : FP RX4 9 4 2 .int := ⟨RX4, TX4, 7, tyX4, cd_4, by decide, (inr_4 _ (List.mem_of_getElem? (i := 14) rfl)), rfl, by decide +kernel⟩
theorem fpcX4_15 : FP RX4 15 4 3 .int := ⟨RX4, TX4, 7, tyX4, cd_4, by decide, (inr_4 _ (List.mem_of_getElem? (i := 15) rfl)), rfl, by decide +kernel⟩
theorem fpcX4_18 : FP RX4 18 4 4 .int := ⟨RX4, TX4, 7, tyX4, cd_4, by decide, (inr_4 _ (List.mem_of_getElem? (i := 16) rfl)), rfl, by decide +kernel⟩
theorem fpcX4_21 : FP RX4 21 4 6 .int := ⟨RX4, TX4, 7, tyX4, cd_4, by decide, (inr_4 _ (List.mem_of_getElem? (i := 17) rfl)), rfl, by decide +kernel⟩
def bk4 (cy : Nat → ClassId) (q : Nat → Nat) : va_W := (((q 0), .inr (4, [.long 0, .int 0, .int 1, .int 1, .int 1, .int 0, .int 1])) :: ([]))
set_option maxHeartbeats 4000000 in
set_option maxRecDepth 100000 in
theorem tX4_init (l : Launch) (D : va_G) (cy : Nat → ClassId) : OkI l yX4_init cX4_init 1 1 0 0 D cy 4 [.long 0, .int 0, .int 0, .int 0, .int 0, .int 0, .int 0] (bk4 cy) := okI_of (by decide) rfl (by decide) (fun z A h0 hz X hret => by
  subst hz
  refine k_aload_n X dX4_init_0 0 rfl rfl ?_
  refine k_obj X dX4_init_1 (inr_4 _ (List.mem_of_getElem? (i := 13) rfl)) (inr_1 _ (List.mem_of_getElem? (i := 11) rfl)) (inr_1 _ (List.mem_of_getElem? (i := 12) rfl)) (by decide) ?_
  refine k_aload_n X dX4_init_4 0 rfl rfl ?_
  refine k_iconst (v := 1) X dX4_init_5 (by decide) ?_
  refine k_put X dX4_init_6 fpcX4_9 rfl rfl (Nat.le_of_ble_eq_true rfl) (fs' := [.long 0, .int 0, .int 1, .int 0, .int 0, .int 0, .int 0]) rfl ?_
  refine k_aload_n X dX4_init_9 0 rfl rfl ?_
  refine k_iconst (v := 1) X dX4_init_10 (by decide) ?_
  refine k_put X dX4_init_11 fpcX4_15 rfl rfl (Nat.le_of_ble_eq_true rfl) (fs' := [.long 0, .int 0, .int 1, .int 1, .int 0, .int 0, .int 0]) rfl ?_
  refine k_aload_n X dX4_init_14 0 rfl rfl ?_
  refine k_iconst (v := 1) X dX4_init_15 (by decide) ?_
  refine k_put X dX4_init_16 fpcX4_18 rfl rfl (Nat.le_of_ble_eq_true rfl) (fs' := [.long 0, .int 0, .int 1, .int 1, .int 1, .int 0, .int 0]) rfl ?_
  refine k_aload_n X dX4_init_19 0 rfl rfl ?_
  refine k_iconst (v := 1) X dX4_init_20 (by decide) ?_
  refine k_put X dX4_init_21 fpcX4_21 rfl rfl (Nat.le_of_ble_eq_true rfl) (fs' := [.long 0, .int 0, .int 1, .int 1, .int 1, .int 0, .int 1]) rfl ?_
  exact hret (fun _ => h0) 24 _ dX4_init_24 rfl)
theorem dX5_init_0 : decode cX5_init 0 = .ok (.aload_n 0, 1) := by decide +kernel
theorem dX5_init_1 : decode cX5_init 1 = .ok (.invokespecial 3, 3) := by decide +kernel
theorem dX5_init_4 : decode cX5_init 4 = .ok (.aload_n 0, 1) := by decide +kernel
theorem dX5_init_5 : decode cX5_init 5 = .ok (.bipush 40, 2) := by decide +kernel
theorem dX5_init_7 : decode cX5_init 7 = .ok (.newarray .int, 2) := by decide +kernel
theorem dX5_init_9 : decode cX5_init 9 = .ok (.putfield 11, 3) := by decide +kernel
theorem dX5_init_12 : decode cX5_init 12 = .ok (.aload_n 0, 1) := by decide +kernel
theorem dX5_init_13 : decode cX5_init 13 = .ok (.bipush 40, 2) := by decide +kernel
theorem dX5_init_15 : decode cX5_init 15 = .ok (.newarray .int, 2) := by decide +kernel
theorem dX5_init_17 : decode cX5_init 17 = .ok (.putfield 15, 3) := by decide +kernel
theorem dX5_init_20 : decode cX5_init 20 = .ok (.aload_n 0, 1) := by decide +kernel
theorem dX5_init_21 : decode cX5_init 21 = .ok (.bipush 40, 2) := by decide +kernel
theorem dX5_init_23 : decode cX5_init 23 = .ok (.newarray .int, 2) := by decide +kernel
theorem dX5_init_25 : decode cX5_init 25 = .ok (.putfield 18, 3) := by decide +kernel
theorem dX5_init_28 : decode cX5_init 28 = .ok (.return_, 1) := by decide +kernel
theorem ffX5_11 : FF RX5 11 5 0 (.array (.int)) := ⟨RX5, TX5, 5, tyX5, cd_5, by decide, (inr_5 _ (List.mem_of_getElem? (i := 9) rfl)), rfl, by decide +kernel, rfl⟩
theorem ffX5_15 : FF RX5 15 5 1 (.array (.int)) := ⟨RX5, TX5, 5, tyX5, cd_5, by decide, (inr_5 _ (List.mem_of_getElem? (i := 10) rfl)), rfl, by decide +kernel, rfl⟩
theorem ffX5_18 : FF RX5 18 5 2 (.array (.int)) := ⟨RX5, TX5, 5, tyX5, cd_5, by decide, (inr_5 _ (List.mem_of_getElem? (i := 11) rfl)), rfl, by decide +kernel, rfl⟩
def bk5 (cy : Nat → ClassId) (q : Nat → Nat) : va_W := (((q 0), .inr (5, [.ref (q 1), .ref (q 2), .ref (q 3), .int 0, .int 0])) :: ([] ++ [((q 1), .inl (cy 18, 40, .inl (fun _ => 0)))] ++ [((q 2), .inl (cy 19, 40, .inl (fun _ => 0)))] ++ [((q 3), .inl (cy 20, 40, .inl (fun _ => 0)))]))
set_option maxHeartbeats 4000000 in
set_option maxRecDepth 100000 in
theorem tX5_init (l : Launch) (D : va_G) (cy : Nat → ClassId) : OkI l yX5_init cX5_init 1 1 3 120 D cy 5 [.null, .null, .null, .int 0, .int 0] (bk5 cy) := okI_of (by decide) rfl (by decide) (fun z A h0 hz X hret => by
  subst hz
  refine k_aload_n X dX5_init_0 0 rfl rfl ?_
  refine k_obj X dX5_init_1 (inr_5 _ (List.mem_of_getElem? (i := 8) rfl)) (inr_1 _ (List.mem_of_getElem? (i := 11) rfl)) (inr_1 _ (List.mem_of_getElem? (i := 12) rfl)) (by decide) ?_
  refine k_aload_n X dX5_init_4 0 rfl rfl ?_
  refine k_bipush (v := 40) X dX5_init_5 (by decide) ?_
  refine k_newa (N := 40) (kd := 18) (a0 := (40, .inl (fun _ => 0))) (ty := .int) X dX5_init_7 (inr_2 _ (List.mem_of_getElem? (i := 17) rfl)) rfl rfl (by decide) (fun C h => by cases h) (fun _ => rfl) (by decide) (by decide) (by decide) (by decide) (by decide) (fun q1 => ?_)
  show KW z A ((h0, .inr (5, [.null, .null, .null, .int 0, .int 0])) :: ([] ++ [(q1, .inl (z.2.2.1 18, 40, .inl (fun _ => 0)))])) 1 40 _ _ _
  refine k_putF X dX5_init_9 ffX5_11 rfl rfl (Nat.le_of_ble_eq_true rfl) (fs' := [.ref q1, .null, .null, .int 0, .int 0]) rfl ?_
  refine k_aload_n X dX5_init_12 0 rfl rfl ?_
  refine k_bipush (v := 40) X dX5_init_13 (by decide) ?_
  refine k_newa (N := 40) (kd := 19) (a0 := (40, .inl (fun _ => 0))) (ty := .int) X dX5_init_15 (inr_2 _ (List.mem_of_getElem? (i := 17) rfl)) rfl rfl (by decide) (fun C h => by cases h) (fun _ => rfl) (by decide) (by decide) (by decide) (by decide) (by decide) (fun q2 => ?_)
  show KW z A ((h0, .inr (5, [.ref q1, .null, .null, .int 0, .int 0])) :: ([] ++ [(q1, .inl (z.2.2.1 18, 40, .inl (fun _ => 0)))] ++ [(q2, .inl (z.2.2.1 19, 40, .inl (fun _ => 0)))])) 2 80 _ _ _
  refine k_putF X dX5_init_17 ffX5_15 rfl rfl (Nat.le_of_ble_eq_true rfl) (fs' := [.ref q1, .ref q2, .null, .int 0, .int 0]) rfl ?_
  refine k_aload_n X dX5_init_20 0 rfl rfl ?_
  refine k_bipush (v := 40) X dX5_init_21 (by decide) ?_
  refine k_newa (N := 40) (kd := 20) (a0 := (40, .inl (fun _ => 0))) (ty := .int) X dX5_init_23 (inr_2 _ (List.mem_of_getElem? (i := 17) rfl)) rfl rfl (by decide) (fun C h => by cases h) (fun _ => rfl) (by decide) (by decide) (by decide) (by decide) (by decide) (fun q3 => ?_)
  show KW z A ((h0, .inr (5, [.ref q1, .ref q2, .null, .int 0, .int 0])) :: ([] ++ [(q1, .inl (z.2.2.1 18, 40, .inl (fun _ => 0)))] ++ [(q2, .inl (z.2.2.1 19, 40, .inl (fun _ => 0)))] ++ [(q3, .inl (z.2.2.1 20, 40, .inl (fun _ => 0)))])) 3 120 _ _ _
  refine k_putF X dX5_init_25 ffX5_18 rfl rfl (Nat.le_of_ble_eq_true rfl) (fs' := [.ref q1, .ref q2, .ref q3, .int 0, .int 0]) rfl ?_
  exact hret (fun i => if i < 1 then h0 else if i < 2 then q1 else if i < 3 then q2 else q3) 28 _ dX5_init_28 rfl)
theorem dX6_init_0 : decode cX6_init 0 = .ok (.aload_n 0, 1) := by decide +kernel
theorem dX6_init_1 : decode cX6_init 1 = .ok (.invokespecial 3, 3) := by decide +kernel
theorem dX6_init_4 : decode cX6_init 4 = .ok (.aload_n 0, 1) := by decide +kernel
theorem dX6_init_5 : decode cX6_init 5 = .ok (.sipush 940, 3) := by decide +kernel
theorem dX6_init_8 : decode cX6_init 8 = .ok (.newarray .byte, 2) := by decide +kernel
theorem dX6_init_10 : decode cX6_init 10 = .ok (.putfield 9, 3) := by decide +kernel
theorem dX6_init_13 : decode cX6_init 13 = .ok (.return_, 1) := by decide +kernel
theorem ffX6_9 : FF RX6 9 6 0 (.array (.byte)) := ⟨RX6, TX6, 10, tyX6, cd_6, by decide, (inr_3 _ (List.mem_of_getElem? (i := 9) rfl)), rfl, by decide +kernel, rfl⟩
def bk6 (cy : Nat → ClassId) (q : Nat → Nat) : va_W := (((q 0), .inr (6, [.ref (q 1), .int 0, .int 0, .int 0, .int 0, .int 0, .long 0, .int 0, .int 0, .int 0])) :: ([] ++ [((q 1), .inl (cy 12, 940, .inl (fun _ => 0)))]))
set_option maxHeartbeats 4000000 in
set_option maxRecDepth 100000 in
theorem tX6_init (l : Launch) (D : va_G) (cy : Nat → ClassId) : OkI l yX6_init cX6_init 1 1 1 940 D cy 6 [.null, .int 0, .int 0, .int 0, .int 0, .int 0, .long 0, .int 0, .int 0, .int 0] (bk6 cy) := okI_of (by decide) rfl (by decide) (fun z A h0 hz X hret => by
  subst hz
  refine k_aload_n X dX6_init_0 0 rfl rfl ?_
  refine k_obj X dX6_init_1 (inr_3 _ (List.mem_of_getElem? (i := 7) rfl)) (inr_1 _ (List.mem_of_getElem? (i := 11) rfl)) (inr_1 _ (List.mem_of_getElem? (i := 12) rfl)) (by decide) ?_
  refine k_aload_n X dX6_init_4 0 rfl rfl ?_
  refine k_sipush (v := 940) X dX6_init_5 (by decide) ?_
  refine k_newa (N := 940) (kd := 12) (a0 := (940, .inl (fun _ => 0))) (ty := .byte) X dX6_init_8 (inr_3 _ (List.mem_of_getElem? (i := 8) rfl)) rfl rfl (by decide) (fun C h => by cases h) (fun _ => rfl) (by decide) (by decide) (by decide) (by decide) (by decide) (fun q1 => ?_)
  show KW z A ((h0, .inr (6, [.null, .int 0, .int 0, .int 0, .int 0, .int 0, .long 0, .int 0, .int 0, .int 0])) :: ([] ++ [(q1, .inl (z.2.2.1 12, 940, .inl (fun _ => 0)))])) 1 940 _ _ _
  refine k_putF X dX6_init_10 ffX6_9 rfl rfl (Nat.le_of_ble_eq_true rfl) (fs' := [.ref q1, .int 0, .int 0, .int 0, .int 0, .int 0, .long 0, .int 0, .int 0, .int 0]) rfl ?_
  exact hret (fun i => if i < 1 then h0 else q1) 13 _ dX6_init_13 rfl)
theorem dX7_init_0 : decode cX7_init 0 = .ok (.aload_n 0, 1) := by decide +kernel
theorem dX7_init_1 : decode cX7_init 1 = .ok (.invokespecial 3, 3) := by decide +kernel
theorem dX7_init_4 : decode cX7_init 4 = .ok (.aload_n 0, 1) := by decide +kernel
theorem dX7_init_5 : decode cX7_init 5 = .ok (.bipush 64, 2) := by decide +kernel
theorem dX7_init_7 : decode cX7_init 7 = .ok (.newarray .byte, 2) := by decide +kernel
theorem dX7_init_9 : decode cX7_init 9 = .ok (.putfield 9, 3) := by decide +kernel
theorem dX7_init_12 : decode cX7_init 12 = .ok (.return_, 1) := by decide +kernel
theorem ffX7_9 : FF RX7 9 7 0 (.array (.byte)) := ⟨RX7, TX7, 2, tyX7, cd_7, by decide, (inr_6 _ (List.mem_of_getElem? (i := 9) rfl)), rfl, by decide +kernel, rfl⟩
def bk7 (cy : Nat → ClassId) (q : Nat → Nat) : va_W := (((q 0), .inr (7, [.ref (q 1), .int 0])) :: ([] ++ [((q 1), .inl (cy 23, 64, .inl (fun _ => 0)))]))
set_option maxHeartbeats 4000000 in
set_option maxRecDepth 100000 in
theorem tX7_init (l : Launch) (D : va_G) (cy : Nat → ClassId) : OkI l yX7_init cX7_init 1 1 1 64 D cy 7 [.null, .int 0] (bk7 cy) := okI_of (by decide) rfl (by decide) (fun z A h0 hz X hret => by
  subst hz
  refine k_aload_n X dX7_init_0 0 rfl rfl ?_
  refine k_obj X dX7_init_1 (inr_6 _ (List.mem_of_getElem? (i := 8) rfl)) (inr_1 _ (List.mem_of_getElem? (i := 11) rfl)) (inr_1 _ (List.mem_of_getElem? (i := 12) rfl)) (by decide) ?_
  refine k_aload_n X dX7_init_4 0 rfl rfl ?_
  refine k_bipush (v := 64) X dX7_init_5 (by decide) ?_
  refine k_newa (N := 64) (kd := 23) (a0 := (64, .inl (fun _ => 0))) (ty := .byte) X dX7_init_7 (inr_3 _ (List.mem_of_getElem? (i := 8) rfl)) rfl rfl (by decide) (fun C h => by cases h) (fun _ => rfl) (by decide) (by decide) (by decide) (by decide) (by decide) (fun q1 => ?_)
  show KW z A ((h0, .inr (7, [.null, .int 0])) :: ([] ++ [(q1, .inl (z.2.2.1 23, 64, .inl (fun _ => 0)))])) 1 64 _ _ _
  refine k_putF X dX7_init_9 ffX7_9 rfl rfl (Nat.le_of_ble_eq_true rfl) (fs' := [.ref q1, .int 0]) rfl ?_
  exact hret (fun i => if i < 1 then h0 else q1) 12 _ dX7_init_12 rfl)
theorem dX8_init_0 : decode cX8_init 0 = .ok (.aload_n 0, 1) := by decide +kernel
theorem dX8_init_1 : decode cX8_init 1 = .ok (.invokespecial 3, 3) := by decide +kernel
theorem dX8_init_4 : decode cX8_init 4 = .ok (.aload_n 0, 1) := by decide +kernel
theorem dX8_init_5 : decode cX8_init 5 = .ok (.iconst 5, 1) := by decide +kernel
theorem dX8_init_6 : decode cX8_init 6 = .ok (.anewarray 9, 3) := by decide +kernel
theorem dX8_init_9 : decode cX8_init 9 = .ok (.putfield 11, 3) := by decide +kernel
theorem dX8_init_12 : decode cX8_init 12 = .ok (.aload_n 0, 1) := by decide +kernel
theorem dX8_init_13 : decode cX8_init 13 = .ok (.bipush 6, 2) := by decide +kernel
theorem dX8_init_15 : decode cX8_init 15 = .ok (.anewarray 17, 3) := by decide +kernel
theorem dX8_init_18 : decode cX8_init 18 = .ok (.putfield 19, 3) := by decide +kernel
theorem dX8_init_21 : decode cX8_init 21 = .ok (.aload_n 0, 1) := by decide +kernel
theorem dX8_init_22 : decode cX8_init 22 = .ok (.sipush 365, 3) := by decide +kernel
theorem dX8_init_25 : decode cX8_init 25 = .ok (.putfield 23, 3) := by decide +kernel
theorem dX8_init_28 : decode cX8_init 28 = .ok (.aload_n 0, 1) := by decide +kernel
theorem dX8_init_29 : decode cX8_init 29 = .ok (.iconst 1, 1) := by decide +kernel
theorem dX8_init_30 : decode cX8_init 30 = .ok (.putfield 27, 3) := by decide +kernel
theorem dX8_init_33 : decode cX8_init 33 = .ok (.iconst 0, 1) := by decide +kernel
theorem dX8_init_34 : decode cX8_init 34 = .ok (.istore_n 1, 1) := by decide +kernel
theorem dX8_init_35 : decode cX8_init 35 = .ok (.iload_n 1, 1) := by decide +kernel
theorem dX8_init_36 : decode cX8_init 36 = .ok (.iconst 5, 1) := by decide +kernel
theorem dX8_init_37 : decode cX8_init 37 = .ok (.if_icmp .ge 22, 3) := by decide +kernel
theorem dX8_init_40 : decode cX8_init 40 = .ok (.aload_n 0, 1) := by decide +kernel
theorem dX8_init_41 : decode cX8_init 41 = .ok (.getfield 11, 3) := by decide +kernel
theorem dX8_init_44 : decode cX8_init 44 = .ok (.iload_n 1, 1) := by decide +kernel
theorem dX8_init_45 : decode cX8_init 45 = .ok (.new 9, 3) := by decide +kernel
theorem dX8_init_48 : decode cX8_init 48 = .ok (.dup, 1) := by decide +kernel
theorem dX8_init_49 : decode cX8_init 49 = .ok (.invokespecial 30, 3) := by decide +kernel
theorem dX8_init_52 : decode cX8_init 52 = .ok (.aastore, 1) := by decide +kernel
theorem dX8_init_53 : decode cX8_init 53 = .ok (.iinc 1 1, 3) := by decide +kernel
theorem dX8_init_56 : decode cX8_init 56 = .ok (.goto (-21), 3) := by decide +kernel
theorem dX8_init_59 : decode cX8_init 59 = .ok (.iconst 0, 1) := by decide +kernel
theorem dX8_init_60 : decode cX8_init 60 = .ok (.istore_n 1, 1) := by decide +kernel
theorem dX8_init_61 : decode cX8_init 61 = .ok (.iload_n 1, 1) := by decide +kernel
theorem dX8_init_62 : decode cX8_init 62 = .ok (.bipush 6, 2) := by decide +kernel
theorem dX8_init_64 : decode cX8_init 64 = .ok (.if_icmp .ge 22, 3) := by decide +kernel
theorem dX8_init_67 : decode cX8_init 67 = .ok (.aload_n 0, 1) := by decide +kernel
theorem dX8_init_68 : decode cX8_init 68 = .ok (.getfield 19, 3) := by decide +kernel
theorem dX8_init_71 : decode cX8_init 71 = .ok (.iload_n 1, 1) := by decide +kernel
theorem dX8_init_72 : decode cX8_init 72 = .ok (.new 17, 3) := by decide +kernel
theorem dX8_init_75 : decode cX8_init 75 = .ok (.dup, 1) := by decide +kernel
theorem dX8_init_76 : decode cX8_init 76 = .ok (.invokespecial 31, 3) := by decide +kernel
theorem dX8_init_79 : decode cX8_init 79 = .ok (.aastore, 1) := by decide +kernel
theorem dX8_init_80 : decode cX8_init 80 = .ok (.iinc 1 1, 3) := by decide +kernel
theorem dX8_init_83 : decode cX8_init 83 = .ok (.goto (-22), 3) := by decide +kernel
theorem dX8_init_86 : decode cX8_init 86 = .ok (.return_, 1) := by decide +kernel
theorem ffX8_11 : FF RX8 11 8 0 (.array (.object "ParishYears$Parish")) := ⟨RX8, TX8, 7, tyX8, cd_8, by decide, (inr_4 _ (List.mem_of_getElem? (i := 1) rfl)), rfl, by decide +kernel, rfl⟩
theorem ffX8_19 : FF RX8 19 8 1 (.array (.object "ParishYears$Feast")) := ⟨RX8, TX8, 7, tyX8, cd_8, by decide, (inr_4 _ (List.mem_of_getElem? (i := 3) rfl)), rfl, by decide +kernel, rfl⟩
theorem fpcX8_23 : FP RX8 23 8 4 .int := ⟨RX8, TX8, 7, tyX8, cd_8, by decide, (inr_4 _ (List.mem_of_getElem? (i := 4) rfl)), rfl, by decide +kernel⟩
theorem fpcX8_27 : FP RX8 27 8 5 .int := ⟨RX8, TX8, 7, tyX8, cd_8, by decide, (inr_4 _ (List.mem_of_getElem? (i := 5) rfl)), rfl, by decide +kernel⟩
theorem fkX8_11 : FK RX8 11 8 0 := ⟨RX8, TX8, 7, tyX8, cd_8, by decide, (inr_4 _ (List.mem_of_getElem? (i := 1) rfl))⟩
theorem fkX8_19 : FK RX8 19 8 1 := ⟨RX8, TX8, 7, tyX8, cd_8, by decide, (inr_4 _ (List.mem_of_getElem? (i := 3) rfl))⟩
def bk8 (cy : Nat → ClassId) (q : Nat → Nat) : va_W := (((q 0), .inr (8, [.ref (q 1), .ref (q 2), .int 0, .int 0, .int 365, .int 1, .int 0])) :: ([] ++ [((q 1), .inl (cy 13, 5, .inr (.inr (.inr (.inr (va_up (va_up (va_up (va_up (va_up (fun _ => none) 0 (some (q 3))) 1 (some (q 4))) 2 (some (q 5))) 3 (some (q 6))) 4 (some (q 7))))))))] ++ [((q 2), .inl (cy 14, 6, .inr (.inr (.inr (.inr (va_up (va_up (va_up (va_up (va_up (va_up (fun _ => none) 0 (some (q 8))) 1 (some (q 9))) 2 (some (q 10))) 3 (some (q 11))) 4 (some (q 12))) 5 (some (q 13))))))))] ++ bk4 cy (fun i => q (3 + i)) ++ bk4 cy (fun i => q (4 + i)) ++ bk4 cy (fun i => q (5 + i)) ++ bk4 cy (fun i => q (6 + i)) ++ bk4 cy (fun i => q (7 + i)) ++ bk3 cy (fun i => q (8 + i)) ++ bk3 cy (fun i => q (9 + i)) ++ bk3 cy (fun i => q (10 + i)) ++ bk3 cy (fun i => q (11 + i)) ++ bk3 cy (fun i => q (12 + i)) ++ bk3 cy (fun i => q (13 + i))))
set_option maxHeartbeats 4000000 in
set_option maxRecDepth 100000 in
theorem tX8_init (l : Launch) (D : va_G) (cy : Nat → ClassId) : OkI l yX8_init cX8_init 2 2 13 70 D cy 8 [.null, .null, .int 0, .int 0, .int 0, .int 0, .int 0] (bk8 cy) := okI_of (by decide) rfl (by decide) (fun z A h0 hz X hret => by
  subst hz
  refine k_aload_n X dX8_init_0 0 rfl rfl ?_
  refine k_obj X dX8_init_1 (inr_3 _ (List.mem_of_getElem? (i := 23) rfl)) (inr_1 _ (List.mem_of_getElem? (i := 11) rfl)) (inr_1 _ (List.mem_of_getElem? (i := 12) rfl)) (by decide) ?_
  refine k_aload_n X dX8_init_4 0 rfl rfl ?_
  refine k_iconst (v := 5) X dX8_init_5 (by decide) ?_
  refine k_newq (N := 5) (kd := 13) (C := RX4) X dX8_init_6 (inr_4 _ (List.mem_of_getElem? (i := 0) rfl)) (fun _ h => h.1) rfl (by decide) (by decide) (by decide) (by decide) (by decide) (by decide) (fun q1 => ?_)
  show KW z A ((h0, .inr (8, [.null, .null, .int 0, .int 0, .int 0, .int 0, .int 0])) :: ([] ++ [(q1, .inl (z.2.2.1 13, 5, .inr (.inr (.inr (.inr (fun _ => none))))))])) 1 5 _ _ _
  refine k_putF X dX8_init_9 ffX8_11 rfl rfl (Nat.le_of_ble_eq_true rfl) (fs' := [.ref q1, .null, .int 0, .int 0, .int 0, .int 0, .int 0]) rfl ?_
  refine k_aload_n X dX8_init_12 0 rfl rfl ?_
  refine k_bipush (v := 6) X dX8_init_13 (by decide) ?_
  refine k_newq (N := 6) (kd := 14) (C := RX3) X dX8_init_15 (inr_4 _ (List.mem_of_getElem? (i := 2) rfl)) (fun _ h => h.2.1) rfl (by decide) (by decide) (by decide) (by decide) (by decide) (by decide) (fun q2 => ?_)
  show KW z A ((h0, .inr (8, [.ref q1, .null, .int 0, .int 0, .int 0, .int 0, .int 0])) :: ([] ++ [(q1, .inl (z.2.2.1 13, 5, .inr (.inr (.inr (.inr (fun _ => none))))))] ++ [(q2, .inl (z.2.2.1 14, 6, .inr (.inr (.inr (.inr (fun _ => none))))))])) 2 11 _ _ _
  refine k_putF X dX8_init_18 ffX8_19 rfl rfl (Nat.le_of_ble_eq_true rfl) (fs' := [.ref q1, .ref q2, .int 0, .int 0, .int 0, .int 0, .int 0]) rfl ?_
  refine k_aload_n X dX8_init_21 0 rfl rfl ?_
  refine k_sipush (v := 365) X dX8_init_22 (by decide) ?_
  refine k_put X dX8_init_25 fpcX8_23 rfl rfl (Nat.le_of_ble_eq_true rfl) (fs' := [.ref q1, .ref q2, .int 0, .int 0, .int 365, .int 0, .int 0]) rfl ?_
  refine k_aload_n X dX8_init_28 0 rfl rfl ?_
  refine k_iconst (v := 1) X dX8_init_29 (by decide) ?_
  refine k_put X dX8_init_30 fpcX8_27 rfl rfl (Nat.le_of_ble_eq_true rfl) (fs' := [.ref q1, .ref q2, .int 0, .int 0, .int 365, .int 1, .int 0]) rfl ?_
  refine k_iconst (v := 0) X dX8_init_33 (by decide) ?_
  refine k_istore_n X dX8_init_34 rfl (by decide) (lv' := [(1, .int 0), (0, .ref h0)]) rfl ?_
  refine k_iload_n X dX8_init_35 0 rfl rfl ?_
  refine k_iconst (v := 5) X dX8_init_36 (by decide) ?_
  refine k_icmp_ge (tgt := 59) X dX8_init_37 (by decide) (fun c0 => absurd c0 (by decide)) (fun _ => ?_)
  refine k_aload_n X dX8_init_40 1 rfl rfl ?_
  refine k_get X dX8_init_41 fkX8_11 rfl ?_
  refine k_iload_n X dX8_init_44 0 rfl rfl ?_
  refine k_init (fs0 := [.long 0, .int 0, .int 0, .int 0, .int 0, .int 0, .int 0]) X dX8_init_45 dX8_init_48 dX8_init_49 cd_4 (inr_4 _ (List.mem_of_getElem? (i := 0) rfl)) (inr_4 _ (List.mem_of_getElem? (i := 6) rfl)) (inr_4 _ (List.mem_of_getElem? (i := 7) rfl)) (by decide) (inr_4 _ (List.mem_of_getElem? (i := 10) rfl)) (inr_4 _ (List.mem_of_getElem? (i := 11) rfl)) (inr_4 _ (List.mem_of_getElem? (i := 12) rfl)) ⟨rfl, rfl, by decide, by decide, by decide, by decide +kernel⟩ (fun l D => tX4_init l D _) (by decide) (by decide) (by decide) (Nat.le_of_ble_eq_true rfl) (fun r3 => ?_)
  show KW z A ((h0, .inr (8, [.ref q1, .ref q2, .int 0, .int 0, .int 365, .int 1, .int 0])) :: ([] ++ [(q1, .inl (z.2.2.1 13, 5, .inr (.inr (.inr (.inr (fun _ => none))))))] ++ [(q2, .inl (z.2.2.1 14, 6, .inr (.inr (.inr (.inr (fun _ => none))))))] ++ bk4 z.2.2.1 r3)) 3 18 _ _ _
  refine k_aast (kd := 13) (ci := 4) (C := RX4) (T := TX4) (NC := 7) (f := (fun _ => none)) (N := 5) (pa := 1) (pv := 3) X dX8_init_52 rfl rfl (by decide) rfl rfl (j := 0) (by decide) (by decide) (ws' := ((h0, .inr (8, [.ref q1, .ref q2, .int 0, .int 0, .int 365, .int 1, .int 0])) :: ([] ++ [(q1, .inl (z.2.2.1 13, 5, .inr (.inr (.inr (.inr (va_up (fun _ => none) 0 (some (r3 0))))))))] ++ [(q2, .inl (z.2.2.1 14, 6, .inr (.inr (.inr (.inr (fun _ => none))))))] ++ bk4 z.2.2.1 r3))) rfl ?_
  refine k_iinc (v := 1) X dX8_init_53 0 rfl (by decide) (by decide) (lv' := [(1, .int 1), (0, .ref h0)]) rfl ?_
  refine k_goto (tgt := 35) X dX8_init_56 (by decide) ?_
  refine k_iload_n X dX8_init_35 0 rfl rfl ?_
  refine k_iconst (v := 5) X dX8_init_36 (by decide) ?_
  refine k_icmp_ge (tgt := 59) X dX8_init_37 (by decide) (fun c0 => absurd c0 (by decide)) (fun _ => ?_)
  refine k_aload_n X dX8_init_40 1 rfl rfl ?_
  refine k_get X dX8_init_41 fkX8_11 rfl ?_
  refine k_iload_n X dX8_init_44 0 rfl rfl ?_
  refine k_init (fs0 := [.long 0, .int 0, .int 0, .int 0, .int 0, .int 0, .int 0]) X dX8_init_45 dX8_init_48 dX8_init_49 cd_4 (inr_4 _ (List.mem_of_getElem? (i := 0) rfl)) (inr_4 _ (List.mem_of_getElem? (i := 6) rfl)) (inr_4 _ (List.mem_of_getElem? (i := 7) rfl)) (by decide) (inr_4 _ (List.mem_of_getElem? (i := 10) rfl)) (inr_4 _ (List.mem_of_getElem? (i := 11) rfl)) (inr_4 _ (List.mem_of_getElem? (i := 12) rfl)) ⟨rfl, rfl, by decide, by decide, by decide, by decide +kernel⟩ (fun l D => tX4_init l D _) (by decide) (by decide) (by decide) (Nat.le_of_ble_eq_true rfl) (fun r4 => ?_)
  show KW z A ((h0, .inr (8, [.ref q1, .ref q2, .int 0, .int 0, .int 365, .int 1, .int 0])) :: ([] ++ [(q1, .inl (z.2.2.1 13, 5, .inr (.inr (.inr (.inr (va_up (fun _ => none) 0 (some (r3 0))))))))] ++ [(q2, .inl (z.2.2.1 14, 6, .inr (.inr (.inr (.inr (fun _ => none))))))] ++ bk4 z.2.2.1 r3 ++ bk4 z.2.2.1 r4)) 4 25 _ _ _
  refine k_aast (kd := 13) (ci := 4) (C := RX4) (T := TX4) (NC := 7) (f := (va_up (fun _ => none) 0 (some (r3 0)))) (N := 5) (pa := 1) (pv := 4) X dX8_init_52 rfl rfl (by decide) rfl rfl (j := 1) (by decide) (by decide) (ws' := ((h0, .inr (8, [.ref q1, .ref q2, .int 0, .int 0, .int 365, .int 1, .int 0])) :: ([] ++ [(q1, .inl (z.2.2.1 13, 5, .inr (.inr (.inr (.inr (va_up (va_up (fun _ => none) 0 (some (r3 0))) 1 (some (r4 0))))))))] ++ [(q2, .inl (z.2.2.1 14, 6, .inr (.inr (.inr (.inr (fun _ => none))))))] ++ bk4 z.2.2.1 r3 ++ bk4 z.2.2.1 r4))) rfl ?_
  refine k_iinc (v := 2) X dX8_init_53 0 rfl (by decide) (by decide) (lv' := [(1, .int 2), (0, .ref h0)]) rfl ?_
  refine k_goto (tgt := 35) X dX8_init_56 (by decide) ?_
  refine k_iload_n X dX8_init_35 0 rfl rfl ?_
  refine k_iconst (v := 5) X dX8_init_36 (by decide) ?_
  refine k_icmp_ge (tgt := 59) X dX8_init_37 (by decide) (fun c0 => absurd c0 (by decide)) (fun _ => ?_)
  refine k_aload_n X dX8_init_40 1 rfl rfl ?_
  refine k_get X dX8_init_41 fkX8_11 rfl ?_
  refine k_iload_n X dX8_init_44 0 rfl rfl ?_
  refine k_init (fs0 := [.long 0, .int 0, .int 0, .int 0, .int 0, .int 0, .int 0]) X dX8_init_45 dX8_init_48 dX8_init_49 cd_4 (inr_4 _ (List.mem_of_getElem? (i := 0) rfl)) (inr_4 _ (List.mem_of_getElem? (i := 6) rfl)) (inr_4 _ (List.mem_of_getElem? (i := 7) rfl)) (by decide) (inr_4 _ (List.mem_of_getElem? (i := 10) rfl)) (inr_4 _ (List.mem_of_getElem? (i := 11) rfl)) (inr_4 _ (List.mem_of_getElem? (i := 12) rfl)) ⟨rfl, rfl, by decide, by decide, by decide, by decide +kernel⟩ (fun l D => tX4_init l D _) (by decide) (by decide) (by decide) (Nat.le_of_ble_eq_true rfl) (fun r5 => ?_)
  show KW z A ((h0, .inr (8, [.ref q1, .ref q2, .int 0, .int 0, .int 365, .int 1, .int 0])) :: ([] ++ [(q1, .inl (z.2.2.1 13, 5, .inr (.inr (.inr (.inr (va_up (va_up (fun _ => none) 0 (some (r3 0))) 1 (some (r4 0))))))))] ++ [(q2, .inl (z.2.2.1 14, 6, .inr (.inr (.inr (.inr (fun _ => none))))))] ++ bk4 z.2.2.1 r3 ++ bk4 z.2.2.1 r4 ++ bk4 z.2.2.1 r5)) 5 32 _ _ _
  refine k_aast (kd := 13) (ci := 4) (C := RX4) (T := TX4) (NC := 7) (f := (va_up (va_up (fun _ => none) 0 (some (r3 0))) 1 (some (r4 0)))) (N := 5) (pa := 1) (pv := 5) X dX8_init_52 rfl rfl (by decide) rfl rfl (j := 2) (by decide) (by decide) (ws' := ((h0, .inr (8, [.ref q1, .ref q2, .int 0, .int 0, .int 365, .int 1, .int 0])) :: ([] ++ [(q1, .inl (z.2.2.1 13, 5, .inr (.inr (.inr (.inr (va_up (va_up (va_up (fun _ => none) 0 (some (r3 0))) 1 (some (r4 0))) 2 (some (r5 0))))))))] ++ [(q2, .inl (z.2.2.1 14, 6, .inr (.inr (.inr (.inr (fun _ => none))))))] ++ bk4 z.2.2.1 r3 ++ bk4 z.2.2.1 r4 ++ bk4 z.2.2.1 r5))) rfl ?_
  refine k_iinc (v := 3) X dX8_init_53 0 rfl (by decide) (by decide) (lv' := [(1, .int 3), (0, .ref h0)]) rfl ?_
  refine k_goto (tgt := 35) X dX8_init_56 (by decide) ?_
  refine k_iload_n X dX8_init_35 0 rfl rfl ?_
  refine k_iconst (v := 5) X dX8_init_36 (by decide) ?_
  refine k_icmp_ge (tgt := 59) X dX8_init_37 (by decide) (fun c0 => absurd c0 (by decide)) (fun _ => ?_)
  refine k_aload_n X dX8_init_40 1 rfl rfl ?_
  refine k_get X dX8_init_41 fkX8_11 rfl ?_
  refine k_iload_n X dX8_init_44 0 rfl rfl ?_
  refine k_init (fs0 := [.long 0, .int 0, .int 0, .int 0, .int 0, .int 0, .int 0]) X dX8_init_45 dX8_init_48 dX8_init_49 cd_4 (inr_4 _ (List.mem_of_getElem? (i := 0) rfl)) (inr_4 _ (List.mem_of_getElem? (i := 6) rfl)) (inr_4 _ (List.mem_of_getElem? (i := 7) rfl)) (by decide) (inr_4 _ (List.mem_of_getElem? (i := 10) rfl)) (inr_4 _ (List.mem_of_getElem? (i := 11) rfl)) (inr_4 _ (List.mem_of_getElem? (i := 12) rfl)) ⟨rfl, rfl, by decide, by decide, by decide, by decide +kernel⟩ (fun l D => tX4_init l D _) (by decide) (by decide) (by decide) (Nat.le_of_ble_eq_true rfl) (fun r6 => ?_)
  show KW z A ((h0, .inr (8, [.ref q1, .ref q2, .int 0, .int 0, .int 365, .int 1, .int 0])) :: ([] ++ [(q1, .inl (z.2.2.1 13, 5, .inr (.inr (.inr (.inr (va_up (va_up (va_up (fun _ => none) 0 (some (r3 0))) 1 (some (r4 0))) 2 (some (r5 0))))))))] ++ [(q2, .inl (z.2.2.1 14, 6, .inr (.inr (.inr (.inr (fun _ => none))))))] ++ bk4 z.2.2.1 r3 ++ bk4 z.2.2.1 r4 ++ bk4 z.2.2.1 r5 ++ bk4 z.2.2.1 r6)) 6 39 _ _ _
  refine k_aast (kd := 13) (ci := 4) (C := RX4) (T := TX4) (NC := 7) (f := (va_up (va_up (va_up (fun _ => none) 0 (some (r3 0))) 1 (some (r4 0))) 2 (some (r5 0)))) (N := 5) (pa := 1) (pv := 6) X dX8_init_52 rfl rfl (by decide) rfl rfl (j := 3) (by decide) (by decide) (ws' := ((h0, .inr (8, [.ref q1, .ref q2, .int 0, .int 0, .int 365, .int 1, .int 0])) :: ([] ++ [(q1, .inl (z.2.2.1 13, 5, .inr (.inr (.inr (.inr (va_up (va_up (va_up (va_up (fun _ => none) 0 (some (r3 0))) 1 (some (r4 0))) 2 (some (r5 0))) 3 (some (r6 0))))))))] ++ [(q2, .inl (z.2.2.1 14, 6, .inr (.inr (.inr (.inr (fun _ => none))))))] ++ bk4 z.2.2.1 r3 ++ bk4 z.2.2.1 r4 ++ bk4 z.2.2.1 r5 ++ bk4 z.2.2.1 r6))) rfl ?_
  refine k_iinc (v := 4) X dX8_init_53 0 rfl (by decide) (by decide) (lv' := [(1, .int 4), (0, .ref h0)]) rfl ?_
  refine k_goto (tgt := 35) X dX8_init_56 (by decide) ?_
  refine k_iload_n X dX8_init_35 0 rfl rfl ?_
  refine k_iconst (v := 5) X dX8_init_36 (by decide) ?_
  refine k_icmp_ge (tgt := 59) X dX8_init_37 (by decide) (fun c0 => absurd c0 (by decide)) (fun _ => ?_)
  refine k_aload_n X dX8_init_40 1 rfl rfl ?_
  refine k_get X dX8_init_41 fkX8_11 rfl ?_
  refine k_iload_n X dX8_init_44 0 rfl rfl ?_
  refine k_init (fs0 := [.long 0, .int 0, .int 0, .int 0, .int 0, .int 0, .int 0]) X dX8_init_45 dX8_init_48 dX8_init_49 cd_4 (inr_4 _ (List.mem_of_getElem? (i := 0) rfl)) (inr_4 _ (List.mem_of_getElem? (i := 6) rfl)) (inr_4 _ (List.mem_of_getElem? (i := 7) rfl)) (by decide) (inr_4 _ (List.mem_of_getElem? (i := 10) rfl)) (inr_4 _ (List.mem_of_getElem? (i := 11) rfl)) (inr_4 _ (List.mem_of_getElem? (i := 12) rfl)) ⟨rfl, rfl, by decide, by decide, by decide, by decide +kernel⟩ (fun l D => tX4_init l D _) (by decide) (by decide) (by decide) (Nat.le_of_ble_eq_true rfl) (fun r7 => ?_)
  show KW z A ((h0, .inr (8, [.ref q1, .ref q2, .int 0, .int 0, .int 365, .int 1, .int 0])) :: ([] ++ [(q1, .inl (z.2.2.1 13, 5, .inr (.inr (.inr (.inr (va_up (va_up (va_up (va_up (fun _ => none) 0 (some (r3 0))) 1 (some (r4 0))) 2 (some (r5 0))) 3 (some (r6 0))))))))] ++ [(q2, .inl (z.2.2.1 14, 6, .inr (.inr (.inr (.inr (fun _ => none))))))] ++ bk4 z.2.2.1 r3 ++ bk4 z.2.2.1 r4 ++ bk4 z.2.2.1 r5 ++ bk4 z.2.2.1 r6 ++ bk4 z.2.2.1 r7)) 7 46 _ _ _
  refine k_aast (kd := 13) (ci := 4) (C := RX4) (T := TX4) (NC := 7) (f := (va_up (va_up (va_up (va_up (fun _ => none) 0 (some (r3 0))) 1 (some (r4 0))) 2 (some (r5 0))) 3 (some (r6 0)))) (N := 5) (pa := 1) (pv := 7) X dX8_init_52 rfl rfl (by decide) rfl rfl (j := 4) (by decide) (by decide) (ws' := ((h0, .inr (8, [.ref q1, .ref q2, .int 0, .int 0, .int 365, .int 1, .int 0])) :: ([] ++ [(q1, .inl (z.2.2.1 13, 5, .inr (.inr (.inr (.inr (va_up (va_up (va_up (va_up (va_up (fun _ => none) 0 (some (r3 0))) 1 (some (r4 0))) 2 (some (r5 0))) 3 (some (r6 0))) 4 (some (r7 0))))))))] ++ [(q2, .inl (z.2.2.1 14, 6, .inr (.inr (.inr (.inr (fun _ => none))))))] ++ bk4 z.2.2.1 r3 ++ bk4 z.2.2.1 r4 ++ bk4 z.2.2.1 r5 ++ bk4 z.2.2.1 r6 ++ bk4 z.2.2.1 r7))) rfl ?_
  refine k_iinc (v := 5) X dX8_init_53 0 rfl (by decide) (by decide) (lv' := [(1, .int 5), (0, .ref h0)]) rfl ?_
  refine k_goto (tgt := 35) X dX8_init_56 (by decide) ?_
  refine k_iload_n X dX8_init_35 0 rfl rfl ?_
  refine k_iconst (v := 5) X dX8_init_36 (by decide) ?_
  refine k_icmp_ge (tgt := 59) X dX8_init_37 (by decide) (fun _ => ?_) (fun c0 => absurd c0 (by decide))
  refine k_iconst (v := 0) X dX8_init_59 (by decide) ?_
  refine k_istore_n X dX8_init_60 rfl (by decide) (lv' := [(1, .int 0), (0, .ref h0)]) rfl ?_
  refine k_iload_n X dX8_init_61 0 rfl rfl ?_
  refine k_bipush (v := 6) X dX8_init_62 (by decide) ?_
  refine k_icmp_ge (tgt := 86) X dX8_init_64 (by decide) (fun c0 => absurd c0 (by decide)) (fun _ => ?_)
  refine k_aload_n X dX8_init_67 1 rfl rfl ?_
  refine k_get X dX8_init_68 fkX8_19 rfl ?_
  refine k_iload_n X dX8_init_71 0 rfl rfl ?_
  refine k_init (fs0 := [.long 0, .int 0, .int 0, .int 0]) X dX8_init_72 dX8_init_75 dX8_init_76 cd_3 (inr_4 _ (List.mem_of_getElem? (i := 2) rfl)) (inr_4 _ (List.mem_of_getElem? (i := 8) rfl)) (inr_4 _ (List.mem_of_getElem? (i := 9) rfl)) (by decide) (inr_4 _ (List.mem_of_getElem? (i := 18) rfl)) (inr_4 _ (List.mem_of_getElem? (i := 19) rfl)) (inr_4 _ (List.mem_of_getElem? (i := 20) rfl)) ⟨rfl, rfl, by decide, by decide, by decide, by decide +kernel⟩ (fun l D => tX3_init l D _) (by decide) (by decide) (by decide) (Nat.le_of_ble_eq_true rfl) (fun r8 => ?_)
  show KW z A ((h0, .inr (8, [.ref q1, .ref q2, .int 0, .int 0, .int 365, .int 1, .int 0])) :: ([] ++ [(q1, .inl (z.2.2.1 13, 5, .inr (.inr (.inr (.inr (va_up (va_up (va_up (va_up (va_up (fun _ => none) 0 (some (r3 0))) 1 (some (r4 0))) 2 (some (r5 0))) 3 (some (r6 0))) 4 (some (r7 0))))))))] ++ [(q2, .inl (z.2.2.1 14, 6, .inr (.inr (.inr (.inr (fun _ => none))))))] ++ bk4 z.2.2.1 r3 ++ bk4 z.2.2.1 r4 ++ bk4 z.2.2.1 r5 ++ bk4 z.2.2.1 r6 ++ bk4 z.2.2.1 r7 ++ bk3 z.2.2.1 r8)) 8 50 _ _ _
  refine k_aast (kd := 14) (ci := 3) (C := RX3) (T := TX3) (NC := 4) (f := (fun _ => none)) (N := 6) (pa := 2) (pv := 8) X dX8_init_79 rfl rfl (by decide) rfl rfl (j := 0) (by decide) (by decide) (ws' := ((h0, .inr (8, [.ref q1, .ref q2, .int 0, .int 0, .int 365, .int 1, .int 0])) :: ([] ++ [(q1, .inl (z.2.2.1 13, 5, .inr (.inr (.inr (.inr (va_up (va_up (va_up (va_up (va_up (fun _ => none) 0 (some (r3 0))) 1 (some (r4 0))) 2 (some (r5 0))) 3 (some (r6 0))) 4 (some (r7 0))))))))] ++ [(q2, .inl (z.2.2.1 14, 6, .inr (.inr (.inr (.inr (va_up (fun _ => none) 0 (some (r8 0))))))))] ++ bk4 z.2.2.1 r3 ++ bk4 z.2.2.1 r4 ++ bk4 z.2.2.1 r5 ++ bk4 z.2.2.1 r6 ++ bk4 z.2.2.1 r7 ++ bk3 z.2.2.1 r8))) rfl ?_
  refine k_iinc (v := 1) X dX8_init_80 0 rfl (by decide) (by decide) (lv' := [(1, .int 1), (0, .ref h0)]) rfl ?_
  refine k_goto (tgt := 61) X dX8_init_83 (by decide) ?_
  refine k_iload_n X dX8_init_61 0 rfl rfl ?_
  refine k_bipush (v := 6) X dX8_init_62 (by decide) ?_
  refine k_icmp_ge (tgt := 86) X dX8_init_64 (by decide) (fun c0 => absurd c0 (by decide)) (fun _ => ?_)
  refine k_aload_n X dX8_init_67 1 rfl rfl ?_
  refine k_get X dX8_init_68 fkX8_19 rfl ?_
  refine k_iload_n X dX8_init_71 0 rfl rfl ?_
  refine k_init (fs0 := [.long 0, .int 0, .int 0, .int 0]) X dX8_init_72 dX8_init_75 dX8_init_76 cd_3 (inr_4 _ (List.mem_of_getElem? (i := 2) rfl)) (inr_4 _ (List.mem_of_getElem? (i := 8) rfl)) (inr_4 _ (List.mem_of_getElem? (i := 9) rfl)) (by decide) (inr_4 _ (List.mem_of_getElem? (i := 18) rfl)) (inr_4 _ (List.mem_of_getElem? (i := 19) rfl)) (inr_4 _ (List.mem_of_getElem? (i := 20) rfl)) ⟨rfl, rfl, by decide, by decide, by decide, by decide +kernel⟩ (fun l D => tX3_init l D _) (by decide) (by decide) (by decide) (Nat.le_of_ble_eq_true rfl) (fun r9 => ?_)
  show KW z A ((h0, .inr (8, [.ref q1, .ref q2, .int 0, .int 0, .int 365, .int 1, .int 0])) :: ([] ++ [(q1, .inl (z.2.2.1 13, 5, .inr (.inr (.inr (.inr (va_up (va_up (va_up (va_up (va_up (fun _ => none) 0 (some (r3 0))) 1 (some (r4 0))) 2 (some (r5 0))) 3 (some (r6 0))) 4 (some (r7 0))))))))] ++ [(q2, .inl (z.2.2.1 14, 6, .inr (.inr (.inr (.inr (va_up (fun _ => none) 0 (some (r8 0))))))))] ++ bk4 z.2.2.1 r3 ++ bk4 z.2.2.1 r4 ++ bk4 z.2.2.1 r5 ++ bk4 z.2.2.1 r6 ++ bk4 z.2.2.1 r7 ++ bk3 z.2.2.1 r8 ++ bk3 z.2.2.1 r9)) 9 54 _ _ _
  refine k_aast (kd := 14) (ci := 3) (C := RX3) (T := TX3) (NC := 4) (f := (va_up (fun _ => none) 0 (some (r8 0)))) (N := 6) (pa := 2) (pv := 9) X dX8_init_79 rfl rfl (by decide) rfl rfl (j := 1) (by decide) (by decide) (ws' := ((h0, .inr (8, [.ref q1, .ref q2, .int 0, .int 0, .int 365, .int 1, .int 0])) :: ([] ++ [(q1, .inl (z.2.2.1 13, 5, .inr (.inr (.inr (.inr (va_up (va_up (va_up (va_up (va_up (fun _ => none) 0 (some (r3 0))) 1 (some (r4 0))) 2 (some (r5 0))) 3 (some (r6 0))) 4 (some (r7 0))))))))] ++ [(q2, .inl (z.2.2.1 14, 6, .inr (.inr (.inr (.inr (va_up (va_up (fun _ => none) 0 (some (r8 0))) 1 (some (r9 0))))))))] ++ bk4 z.2.2.1 r3 ++ bk4 z.2.2.1 r4 ++ bk4 z.2.2.1 r5 ++ bk4 z.2.2.1 r6 ++ bk4 z.2.2.1 r7 ++ bk3 z.2.2.1 r8 ++ bk3 z.2.2.1 r9))) rfl ?_
  refine k_iinc (v := 2) X dX8_init_80 0 rfl (by decide) (by decide) (lv' := [(1, .int 2), (0, .ref h0)]) rfl ?_
  refine k_goto (tgt := 61) X dX8_init_83 (by decide) ?_
  refine k_iload_n X dX8_init_61 0 rfl rfl ?_
  refine k_bipush (v := 6) X dX8_init_62 (by decide) ?_
  refine k_icmp_ge (tgt := 86) X dX8_init_64 (by decide) (fun c0 => absurd c0 (by decide)) (fun _ => ?_)
  refine k_aload_n X dX8_init_67 1 rfl rfl ?_
  refine k_get X dX8_init_68 fkX8_19 rfl ?_
  refine k_iload_n X dX8_init_71 0 rfl rfl ?_
  refine k_init (fs0 := [.long 0, .int 0, .int 0, .int 0]) X dX8_init_72 dX8_init_75 dX8_init_76 cd_3 (inr_4 _ (List.mem_of_getElem? (i := 2) rfl)) (inr_4 _ (List.mem_of_getElem? (i := 8) rfl)) (inr_4 _ (List.mem_of_getElem? (i := 9) rfl)) (by decide) (inr_4 _ (List.mem_of_getElem? (i := 18) rfl)) (inr_4 _ (List.mem_of_getElem? (i := 19) rfl)) (inr_4 _ (List.mem_of_getElem? (i := 20) rfl)) ⟨rfl, rfl, by decide, by decide, by decide, by decide +kernel⟩ (fun l D => tX3_init l D _) (by decide) (by decide) (by decide) (Nat.le_of_ble_eq_true rfl) (fun r10 => ?_)
  show KW z A ((h0, .inr (8, [.ref q1, .ref q2, .int 0, .int 0, .int 365, .int 1, .int 0])) :: ([] ++ [(q1, .inl (z.2.2.1 13, 5, .inr (.inr (.inr (.inr (va_up (va_up (va_up (va_up (va_up (fun _ => none) 0 (some (r3 0))) 1 (some (r4 0))) 2 (some (r5 0))) 3 (some (r6 0))) 4 (some (r7 0))))))))] ++ [(q2, .inl (z.2.2.1 14, 6, .inr (.inr (.inr (.inr (va_up (va_up (fun _ => none) 0 (some (r8 0))) 1 (some (r9 0))))))))] ++ bk4 z.2.2.1 r3 ++ bk4 z.2.2.1 r4 ++ bk4 z.2.2.1 r5 ++ bk4 z.2.2.1 r6 ++ bk4 z.2.2.1 r7 ++ bk3 z.2.2.1 r8 ++ bk3 z.2.2.1 r9 ++ bk3 z.2.2.1 r10)) 10 58 _ _ _
  refine k_aast (kd := 14) (ci := 3) (C := RX3) (T := TX3) (NC := 4) (f := (va_up (va_up (fun _ => none) 0 (some (r8 0))) 1 (some (r9 0)))) (N := 6) (pa := 2) (pv := 10) X dX8_init_79 rfl rfl (by decide) rfl rfl (j := 2) (by decide) (by decide) (ws' := ((h0, .inr (8, [.ref q1, .ref q2, .int 0, .int 0, .int 365, .int 1, .int 0])) :: ([] ++ [(q1, .inl (z.2.2.1 13, 5, .inr (.inr (.inr (.inr (va_up (va_up (va_up (va_up (va_up (fun _ => none) 0 (some (r3 0))) 1 (some (r4 0))) 2 (some (r5 0))) 3 (some (r6 0))) 4 (some (r7 0))))))))] ++ [(q2, .inl (z.2.2.1 14, 6, .inr (.inr (.inr (.inr (va_up (va_up (va_up (fun _ => none) 0 (some (r8 0))) 1 (some (r9 0))) 2 (some (r10 0))))))))] ++ bk4 z.2.2.1 r3 ++ bk4 z.2.2.1 r4 ++ bk4 z.2.2.1 r5 ++ bk4 z.2.2.1 r6 ++ bk4 z.2.2.1 r7 ++ bk3 z.2.2.1 r8 ++ bk3 z.2.2.1 r9 ++ bk3 z.2.2.1 r10))) rfl ?_
  refine k_iinc (v := 3) X dX8_init_80 0 rfl (by decide) (by decide) (lv' := [(1, .int 3), (0, .ref h0)]) rfl ?_
  refine k_goto (tgt := 61) X dX8_init_83 (by decide) ?_
  refine k_iload_n X dX8_init_61 0 rfl rfl ?_
  refine k_bipush (v := 6) X dX8_init_62 (by decide) ?_
  refine k_icmp_ge (tgt := 86) X dX8_init_64 (by decide) (fun c0 => absurd c0 (by decide)) (fun _ => ?_)
  refine k_aload_n X dX8_init_67 1 rfl rfl ?_
  refine k_get X dX8_init_68 fkX8_19 rfl ?_
  refine k_iload_n X dX8_init_71 0 rfl rfl ?_
  refine k_init (fs0 := [.long 0, .int 0, .int 0, .int 0]) X dX8_init_72 dX8_init_75 dX8_init_76 cd_3 (inr_4 _ (List.mem_of_getElem? (i := 2) rfl)) (inr_4 _ (List.mem_of_getElem? (i := 8) rfl)) (inr_4 _ (List.mem_of_getElem? (i := 9) rfl)) (by decide) (inr_4 _ (List.mem_of_getElem? (i := 18) rfl)) (inr_4 _ (List.mem_of_getElem? (i := 19) rfl)) (inr_4 _ (List.mem_of_getElem? (i := 20) rfl)) ⟨rfl, rfl, by decide, by decide, by decide, by decide +kernel⟩ (fun l D => tX3_init l D _) (by decide) (by decide) (by decide) (Nat.le_of_ble_eq_true rfl) (fun r11 => ?_)
  show KW z A ((h0, .inr (8, [.ref q1, .ref q2, .int 0, .int 0, .int 365, .int 1, .int 0])) :: ([] ++ [(q1, .inl (z.2.2.1 13, 5, .inr (.inr (.inr (.inr (va_up (va_up (va_up (va_up (va_up (fun _ => none) 0 (some (r3 0))) 1 (some (r4 0))) 2 (some (r5 0))) 3 (some (r6 0))) 4 (some (r7 0))))))))] ++ [(q2, .inl (z.2.2.1 14, 6, .inr (.inr (.inr (.inr (va_up (va_up (va_up (fun _ => none) 0 (some (r8 0))) 1 (some (r9 0))) 2 (some (r10 0))))))))] ++ bk4 z.2.2.1 r3 ++ bk4 z.2.2.1 r4 ++ bk4 z.2.2.1 r5 ++ bk4 z.2.2.1 r6 ++ bk4 z.2.2.1 r7 ++ bk3 z.2.2.1 r8 ++ bk3 z.2.2.1 r9 ++ bk3 z.2.2.1 r10 ++ bk3 z.2.2.1 r11)) 11 62 _ _ _
  refine k_aast (kd := 14) (ci := 3) (C := RX3) (T := TX3) (NC := 4) (f := (va_up (va_up (va_up (fun _ => none) 0 (some (r8 0))) 1 (some (r9 0))) 2 (some (r10 0)))) (N := 6) (pa := 2) (pv := 11) X dX8_init_79 rfl rfl (by decide) rfl rfl (j := 3) (by decide) (by decide) (ws' := ((h0, .inr (8, [.ref q1, .ref q2, .int 0, .int 0, .int 365, .int 1, .int 0])) :: ([] ++ [(q1, .inl (z.2.2.1 13, 5, .inr (.inr (.inr (.inr (va_up (va_up (va_up (va_up (va_up (fun _ => none) 0 (some (r3 0))) 1 (some (r4 0))) 2 (some (r5 0))) 3 (some (r6 0))) 4 (some (r7 0))))))))] ++ [(q2, .inl (z.2.2.1 14, 6, .inr (.inr (.inr (.inr (va_up (va_up (va_up (va_up (fun _ => none) 0 (some (r8 0))) 1 (some (r9 0))) 2 (some (r10 0))) 3 (some (r11 0))))))))] ++ bk4 z.2.2.1 r3 ++ bk4 z.2.2.1 r4 ++ bk4 z.2.2.1 r5 ++ bk4 z.2.2.1 r6 ++ bk4 z.2.2.1 r7 ++ bk3 z.2.2.1 r8 ++ bk3 z.2.2.1 r9 ++ bk3 z.2.2.1 r10 ++ bk3 z.2.2.1 r11))) rfl ?_
  refine k_iinc (v := 4) X dX8_init_80 0 rfl (by decide) (by decide) (lv' := [(1, .int 4), (0, .ref h0)]) rfl ?_
  refine k_goto (tgt := 61) X dX8_init_83 (by decide) ?_
  refine k_iload_n X dX8_init_61 0 rfl rfl ?_
  refine k_bipush (v := 6) X dX8_init_62 (by decide) ?_
  refine k_icmp_ge (tgt := 86) X dX8_init_64 (by decide) (fun c0 => absurd c0 (by decide)) (fun _ => ?_)
  refine k_aload_n X dX8_init_67 1 rfl rfl ?_
  refine k_get X dX8_init_68 fkX8_19 rfl ?_
  refine k_iload_n X dX8_init_71 0 rfl rfl ?_
  refine k_init (fs0 := [.long 0, .int 0, .int 0, .int 0]) X dX8_init_72 dX8_init_75 dX8_init_76 cd_3 (inr_4 _ (List.mem_of_getElem? (i := 2) rfl)) (inr_4 _ (List.mem_of_getElem? (i := 8) rfl)) (inr_4 _ (List.mem_of_getElem? (i := 9) rfl)) (by decide) (inr_4 _ (List.mem_of_getElem? (i := 18) rfl)) (inr_4 _ (List.mem_of_getElem? (i := 19) rfl)) (inr_4 _ (List.mem_of_getElem? (i := 20) rfl)) ⟨rfl, rfl, by decide, by decide, by decide, by decide +kernel⟩ (fun l D => tX3_init l D _) (by decide) (by decide) (by decide) (Nat.le_of_ble_eq_true rfl) (fun r12 => ?_)
  show KW z A ((h0, .inr (8, [.ref q1, .ref q2, .int 0, .int 0, .int 365, .int 1, .int 0])) :: ([] ++ [(q1, .inl (z.2.2.1 13, 5, .inr (.inr (.inr (.inr (va_up (va_up (va_up (va_up (va_up (fun _ => none) 0 (some (r3 0))) 1 (some (r4 0))) 2 (some (r5 0))) 3 (some (r6 0))) 4 (some (r7 0))))))))] ++ [(q2, .inl (z.2.2.1 14, 6, .inr (.inr (.inr (.inr (va_up (va_up (va_up (va_up (fun _ => none) 0 (some (r8 0))) 1 (some (r9 0))) 2 (some (r10 0))) 3 (some (r11 0))))))))] ++ bk4 z.2.2.1 r3 ++ bk4 z.2.2.1 r4 ++ bk4 z.2.2.1 r5 ++ bk4 z.2.2.1 r6 ++ bk4 z.2.2.1 r7 ++ bk3 z.2.2.1 r8 ++ bk3 z.2.2.1 r9 ++ bk3 z.2.2.1 r10 ++ bk3 z.2.2.1 r11 ++ bk3 z.2.2.1 r12)) 12 66 _ _ _
  refine k_aast (kd := 14) (ci := 3) (C := RX3) (T := TX3) (NC := 4) (f := (va_up (va_up (va_up (va_up (fun _ => none) 0 (some (r8 0))) 1 (some (r9 0))) 2 (some (r10 0))) 3 (some (r11 0)))) (N := 6) (pa := 2) (pv := 12) X dX8_init_79 rfl rfl (by decide) rfl rfl (j := 4) (by decide) (by decide) (ws' := ((h0, .inr (8, [.ref q1, .ref q2, .int 0, .int 0, .int 365, .int 1, .int 0])) :: ([] ++ [(q1, .inl (z.2.2.1 13, 5, .inr (.inr (.inr (.inr (va_up (va_up (va_up (va_up (va_up (fun _ => none) 0 (some (r3 0))) 1 (some (r4 0))) 2 (some (r5 0))) 3 (some (r6 0))) 4 (some (r7 0))))))))] ++ [(q2, .inl (z.2.2.1 14, 6, .inr (.inr (.inr (.inr (va_up (va_up (va_up (va_up (va_up (fun _ => none) 0 (some (r8 0))) 1 (some (r9 0))) 2 (some (r10 0))) 3 (some (r11 0))) 4 (some (r12 0))))))))] ++ bk4 z.2.2.1 r3 ++ bk4 z.2.2.1 r4 ++ bk4 z.2.2.1 r5 ++ bk4 z.2.2.1 r6 ++ bk4 z.2.2.1 r7 ++ bk3 z.2.2.1 r8 ++ bk3 z.2.2.1 r9 ++ bk3 z.2.2.1 r10 ++ bk3 z.2.2.1 r11 ++ bk3 z.2.2.1 r12))) rfl ?_
  refine k_iinc (v := 5) X dX8_init_80 0 rfl (by decide) (by decide) (lv' := [(1, .int 5), (0, .ref h0)]) rfl ?_
  refine k_goto (tgt := 61) X dX8_init_83 (by decide) ?_
  refine k_iload_n X dX8_init_61 0 rfl rfl ?_
  refine k_bipush (v := 6) X dX8_init_62 (by decide) ?_
  refine k_icmp_ge (tgt := 86) X dX8_init_64 (by decide) (fun c0 => absurd c0 (by decide)) (fun _ => ?_)
  refine k_aload_n X dX8_init_67 1 rfl rfl ?_
  refine k_get X dX8_init_68 fkX8_19 rfl ?_
  refine k_iload_n X dX8_init_71 0 rfl rfl ?_
  refine k_init (fs0 := [.long 0, .int 0, .int 0, .int 0]) X dX8_init_72 dX8_init_75 dX8_init_76 cd_3 (inr_4 _ (List.mem_of_getElem? (i := 2) rfl)) (inr_4 _ (List.mem_of_getElem? (i := 8) rfl)) (inr_4 _ (List.mem_of_getElem? (i := 9) rfl)) (by decide) (inr_4 _ (List.mem_of_getElem? (i := 18) rfl)) (inr_4 _ (List.mem_of_getElem? (i := 19) rfl)) (inr_4 _ (List.mem_of_getElem? (i := 20) rfl)) ⟨rfl, rfl, by decide, by decide, by decide, by decide +kernel⟩ (fun l D => tX3_init l D _) (by decide) (by decide) (by decide) (Nat.le_of_ble_eq_true rfl) (fun r13 => ?_)
  show KW z A ((h0, .inr (8, [.ref q1, .ref q2, .int 0, .int 0, .int 365, .int 1, .int 0])) :: ([] ++ [(q1, .inl (z.2.2.1 13, 5, .inr (.inr (.inr (.inr (va_up (va_up (va_up (va_up (va_up (fun _ => none) 0 (some (r3 0))) 1 (some (r4 0))) 2 (some (r5 0))) 3 (some (r6 0))) 4 (some (r7 0))))))))] ++ [(q2, .inl (z.2.2.1 14, 6, .inr (.inr (.inr (.inr (va_up (va_up (va_up (va_up (va_up (fun _ => none) 0 (some (r8 0))) 1 (some (r9 0))) 2 (some (r10 0))) 3 (some (r11 0))) 4 (some (r12 0))))))))] ++ bk4 z.2.2.1 r3 ++ bk4 z.2.2.1 r4 ++ bk4 z.2.2.1 r5 ++ bk4 z.2.2.1 r6 ++ bk4 z.2.2.1 r7 ++ bk3 z.2.2.1 r8 ++ bk3 z.2.2.1 r9 ++ bk3 z.2.2.1 r10 ++ bk3 z.2.2.1 r11 ++ bk3 z.2.2.1 r12 ++ bk3 z.2.2.1 r13)) 13 70 _ _ _
  refine k_aast (kd := 14) (ci := 3) (C := RX3) (T := TX3) (NC := 4) (f := (va_up (va_up (va_up (va_up (va_up (fun _ => none) 0 (some (r8 0))) 1 (some (r9 0))) 2 (some (r10 0))) 3 (some (r11 0))) 4 (some (r12 0)))) (N := 6) (pa := 2) (pv := 13) X dX8_init_79 rfl rfl (by decide) rfl rfl (j := 5) (by decide) (by decide) (ws' := ((h0, .inr (8, [.ref q1, .ref q2, .int 0, .int 0, .int 365, .int 1, .int 0])) :: ([] ++ [(q1, .inl (z.2.2.1 13, 5, .inr (.inr (.inr (.inr (va_up (va_up (va_up (va_up (va_up (fun _ => none) 0 (some (r3 0))) 1 (some (r4 0))) 2 (some (r5 0))) 3 (some (r6 0))) 4 (some (r7 0))))))))] ++ [(q2, .inl (z.2.2.1 14, 6, .inr (.inr (.inr (.inr (va_up (va_up (va_up (va_up (va_up (va_up (fun _ => none) 0 (some (r8 0))) 1 (some (r9 0))) 2 (some (r10 0))) 3 (some (r11 0))) 4 (some (r12 0))) 5 (some (r13 0))))))))] ++ bk4 z.2.2.1 r3 ++ bk4 z.2.2.1 r4 ++ bk4 z.2.2.1 r5 ++ bk4 z.2.2.1 r6 ++ bk4 z.2.2.1 r7 ++ bk3 z.2.2.1 r8 ++ bk3 z.2.2.1 r9 ++ bk3 z.2.2.1 r10 ++ bk3 z.2.2.1 r11 ++ bk3 z.2.2.1 r12 ++ bk3 z.2.2.1 r13))) rfl ?_
  refine k_iinc (v := 6) X dX8_init_80 0 rfl (by decide) (by decide) (lv' := [(1, .int 6), (0, .ref h0)]) rfl ?_
  refine k_goto (tgt := 61) X dX8_init_83 (by decide) ?_
  refine k_iload_n X dX8_init_61 0 rfl rfl ?_
  refine k_bipush (v := 6) X dX8_init_62 (by decide) ?_
  refine k_icmp_ge (tgt := 86) X dX8_init_64 (by decide) (fun _ => ?_) (fun c0 => absurd c0 (by decide))
  exact hret (fun i => if i < 1 then h0 else if i < 2 then q1 else if i < 3 then q2 else if i < 4 then r3 (i - 3) else if i < 5 then r4 (i - 4) else if i < 6 then r5 (i - 5) else if i < 7 then r6 (i - 6) else if i < 8 then r7 (i - 7) else if i < 9 then r8 (i - 8) else if i < 10 then r9 (i - 9) else if i < 11 then r10 (i - 10) else if i < 12 then r11 (i - 11) else if i < 13 then r12 (i - 12) else r13 (i - 13)) 86 _ dX8_init_86 rfl)
theorem dX9_init_0 : decode cX9_init 0 = .ok (.aload_n 0, 1) := by decide +kernel
theorem dX9_init_1 : decode cX9_init 1 = .ok (.invokespecial 3, 3) := by decide +kernel
theorem dX9_init_4 : decode cX9_init 4 = .ok (.aload_n 0, 1) := by decide +kernel
theorem dX9_init_5 : decode cX9_init 5 = .ok (.new 9, 3) := by decide +kernel
theorem dX9_init_8 : decode cX9_init 8 = .ok (.dup, 1) := by decide +kernel
theorem dX9_init_9 : decode cX9_init 9 = .ok (.invokespecial 11, 3) := by decide +kernel
theorem dX9_init_12 : decode cX9_init 12 = .ok (.putfield 12, 3) := by decide +kernel
theorem dX9_init_15 : decode cX9_init 15 = .ok (.aload_n 0, 1) := by decide +kernel
theorem dX9_init_16 : decode cX9_init 16 = .ok (.new 18, 3) := by decide +kernel
theorem dX9_init_19 : decode cX9_init 19 = .ok (.dup, 1) := by decide +kernel
theorem dX9_init_20 : decode cX9_init 20 = .ok (.invokespecial 20, 3) := by decide +kernel
theorem dX9_init_23 : decode cX9_init 23 = .ok (.putfield 21, 3) := by decide +kernel
theorem dX9_init_26 : decode cX9_init 26 = .ok (.aload_n 0, 1) := by decide +kernel
theorem dX9_init_27 : decode cX9_init 27 = .ok (.new 25, 3) := by decide +kernel
theorem dX9_init_30 : decode cX9_init 30 = .ok (.dup, 1) := by decide +kernel
theorem dX9_init_31 : decode cX9_init 31 = .ok (.invokespecial 27, 3) := by decide +kernel
theorem dX9_init_34 : decode cX9_init 34 = .ok (.putfield 28, 3) := by decide +kernel
theorem dX9_init_37 : decode cX9_init 37 = .ok (.return_, 1) := by decide +kernel
theorem ffX9_12 : FF RX9 12 9 0 (.object "ParishYears$Valley") := ⟨RX9, TX9, 3, tyX9, cd_9, by decide, (inr_3 _ (List.mem_of_getElem? (i := 15) rfl)), rfl, by decide +kernel, rfl⟩
theorem ffX9_21 : FF RX9 21 9 1 (.object "ParishYears$Days") := ⟨RX9, TX9, 3, tyX9, cd_9, by decide, (inr_3 _ (List.mem_of_getElem? (i := 17) rfl)), rfl, by decide +kernel, rfl⟩
theorem ffX9_28 : FF RX9 28 9 2 (.object "ParishYears$Sentence") := ⟨RX9, TX9, 3, tyX9, cd_9, by decide, (inr_3 _ (List.mem_of_getElem? (i := 19) rfl)), rfl, by decide +kernel, rfl⟩
def bk9 (cy : Nat → ClassId) (q : Nat → Nat) : va_W := (((q 0), .inr (9, [.ref (q 1), .ref (q 15), .ref (q 19)])) :: ([] ++ bk8 cy (fun i => q (1 + i)) ++ bk2 cy (fun i => q (15 + i)) ++ bk5 cy (fun i => q (19 + i))))
set_option maxHeartbeats 4000000 in
set_option maxRecDepth 100000 in
theorem tX9_init (l : Launch) (D : va_G) (cy : Nat → ClassId) : OkI l yX9_init cX9_init 1 3 22 223 D cy 9 [.null, .null, .null] (bk9 cy) := okI_of (by decide) rfl (by decide) (fun z A h0 hz X hret => by
  subst hz
  refine k_aload_n X dX9_init_0 0 rfl rfl ?_
  refine k_obj X dX9_init_1 (inr_3 _ (List.mem_of_getElem? (i := 13) rfl)) (inr_1 _ (List.mem_of_getElem? (i := 11) rfl)) (inr_1 _ (List.mem_of_getElem? (i := 12) rfl)) (by decide) ?_
  refine k_aload_n X dX9_init_4 0 rfl rfl ?_
  refine k_init (fs0 := [.null, .null, .int 0, .int 0, .int 0, .int 0, .int 0]) X dX9_init_5 dX9_init_8 dX9_init_9 cd_8 (inr_3 _ (List.mem_of_getElem? (i := 14) rfl)) (inr_1 _ (List.mem_of_getElem? (i := 22) rfl)) (inr_1 _ (List.mem_of_getElem? (i := 23) rfl)) (by decide) (inr_3 _ (List.mem_of_getElem? (i := 20) rfl)) (inr_3 _ (List.mem_of_getElem? (i := 21) rfl)) (inr_3 _ (List.mem_of_getElem? (i := 22) rfl)) ⟨rfl, rfl, by decide, by decide, by decide, by decide +kernel⟩ (fun l D => tX8_init l D _) (by decide) (by decide) (by decide) (Nat.le_of_ble_eq_true rfl) (fun r1 => ?_)
  show KW z A ((h0, .inr (9, [.null, .null, .null])) :: ([] ++ bk8 z.2.2.1 r1)) 14 77 _ _ _
  refine k_putF X dX9_init_12 ffX9_12 rfl rfl (Nat.le_of_ble_eq_true rfl) (fs' := [.ref (r1 0), .null, .null]) rfl ?_
  refine k_aload_n X dX9_init_15 0 rfl rfl ?_
  refine k_init (fs0 := [.int 0, .int 0, .int 0, .null, .null, .null]) X dX9_init_16 dX9_init_19 dX9_init_20 cd_2 (inr_3 _ (List.mem_of_getElem? (i := 16) rfl)) (inr_2 _ (List.mem_of_getElem? (i := 20) rfl)) (inr_2 _ (List.mem_of_getElem? (i := 21) rfl)) (by decide) (inr_4 _ (List.mem_of_getElem? (i := 22) rfl)) (inr_4 _ (List.mem_of_getElem? (i := 23) rfl)) (inr_5 _ (List.mem_of_getElem? (i := 0) rfl)) ⟨rfl, rfl, by decide, by decide, by decide, by decide +kernel⟩ (fun l D => tX2_init l D _) (by decide) (by decide) (by decide) (Nat.le_of_ble_eq_true rfl) (fun r2 => ?_)
  show KW z A ((h0, .inr (9, [.ref (r1 0), .null, .null])) :: ([] ++ bk8 z.2.2.1 r1 ++ bk2 z.2.2.1 r2)) 18 98 _ _ _
  refine k_putF X dX9_init_23 ffX9_21 rfl rfl (Nat.le_of_ble_eq_true rfl) (fs' := [.ref (r1 0), .ref (r2 0), .null]) rfl ?_
  refine k_aload_n X dX9_init_26 0 rfl rfl ?_
  refine k_init (fs0 := [.null, .null, .null, .int 0, .int 0]) X dX9_init_27 dX9_init_30 dX9_init_31 cd_5 (inr_3 _ (List.mem_of_getElem? (i := 18) rfl)) (inr_2 _ (List.mem_of_getElem? (i := 2) rfl)) (inr_2 _ (List.mem_of_getElem? (i := 3) rfl)) (by decide) (inr_5 _ (List.mem_of_getElem? (i := 5) rfl)) (inr_5 _ (List.mem_of_getElem? (i := 6) rfl)) (inr_5 _ (List.mem_of_getElem? (i := 7) rfl)) ⟨rfl, rfl, by decide, by decide, by decide, by decide +kernel⟩ (fun l D => tX5_init l D _) (by decide) (by decide) (by decide) (Nat.le_of_ble_eq_true rfl) (fun r3 => ?_)
  show KW z A ((h0, .inr (9, [.ref (r1 0), .ref (r2 0), .null])) :: ([] ++ bk8 z.2.2.1 r1 ++ bk2 z.2.2.1 r2 ++ bk5 z.2.2.1 r3)) 22 223 _ _ _
  refine k_putF X dX9_init_34 ffX9_28 rfl rfl (Nat.le_of_ble_eq_true rfl) (fs' := [.ref (r1 0), .ref (r2 0), .ref (r3 0)]) rfl ?_
  exact hret (fun i => if i < 1 then h0 else if i < 15 then r1 (i - 1) else if i < 19 then r2 (i - 15) else r3 (i - 19)) 37 _ dX9_init_37 rfl)
