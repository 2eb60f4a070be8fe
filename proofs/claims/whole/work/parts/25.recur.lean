theorem dX5_readCond_0 : decode cX5_readCond 0 = .ok (.aload_n 0, 1) := by decide +kernel
theorem dX5_readCond_1 : decode cX5_readCond 1 = .ok (.aload_n 1, 1) := by decide +kernel
theorem dX5_readCond_2 : decode cX5_readCond 2 = .ok (.aload_n 2, 1) := by decide +kernel
theorem dX5_readCond_3 : decode cX5_readCond 3 = .ok (.iload_n 3, 1) := by decide +kernel
theorem dX5_readCond_4 : decode cX5_readCond 4 = .ok (.invokevirtual 48, 3) := by decide +kernel
theorem dX5_readCond_7 : decode cX5_readCond 7 = .ok (.iconst 0, 1) := by decide +kernel
theorem dX5_readCond_8 : decode cX5_readCond 8 = .ok (.istore 4, 2) := by decide +kernel
theorem dX5_readCond_10 : decode cX5_readCond 10 = .ok (.iload 4, 2) := by decide +kernel
theorem dX5_readCond_12 : decode cX5_readCond 12 = .ok (.bipush 20, 2) := by decide +kernel
theorem dX5_readCond_14 : decode cX5_readCond 14 = .ok (.if_icmp .gt 37, 3) := by decide +kernel
theorem dX5_readCond_17 : decode cX5_readCond 17 = .ok (.aload_n 1, 1) := by decide +kernel
theorem dX5_readCond_18 : decode cX5_readCond 18 = .ok (.ldc2_w 51, 3) := by decide +kernel
theorem dX5_readCond_21 : decode cX5_readCond 21 = .ok (.invokevirtual 53, 3) := by decide +kernel
theorem dX5_readCond_24 : decode cX5_readCond 24 = .ok (.ifCond .eq 27, 3) := by decide +kernel
theorem dX5_readCond_27 : decode cX5_readCond 27 = .ok (.aload_n 1, 1) := by decide +kernel
theorem dX5_readCond_28 : decode cX5_readCond 28 = .ok (.invokevirtual 57, 3) := by decide +kernel
theorem dX5_readCond_31 : decode cX5_readCond 31 = .ok (.aload_n 0, 1) := by decide +kernel
theorem dX5_readCond_32 : decode cX5_readCond 32 = .ok (.aload_n 1, 1) := by decide +kernel
theorem dX5_readCond_33 : decode cX5_readCond 33 = .ok (.aload_n 2, 1) := by decide +kernel
theorem dX5_readCond_34 : decode cX5_readCond 34 = .ok (.iload_n 3, 1) := by decide +kernel
theorem dX5_readCond_35 : decode cX5_readCond 35 = .ok (.invokevirtual 48, 3) := by decide +kernel
theorem dX5_readCond_38 : decode cX5_readCond 38 = .ok (.aload_n 0, 1) := by decide +kernel
theorem dX5_readCond_39 : decode cX5_readCond 39 = .ok (.iconst 3, 1) := by decide +kernel
theorem dX5_readCond_40 : decode cX5_readCond 40 = .ok (.iconst 0, 1) := by decide +kernel
theorem dX5_readCond_41 : decode cX5_readCond 41 = .ok (.iconst 0, 1) := by decide +kernel
theorem dX5_readCond_42 : decode cX5_readCond 42 = .ok (.invokevirtual 60, 3) := by decide +kernel
theorem dX5_readCond_45 : decode cX5_readCond 45 = .ok (.iinc 4 1, 3) := by decide +kernel
theorem dX5_readCond_48 : decode cX5_readCond 48 = .ok (.goto (-38), 3) := by decide +kernel
theorem dX5_readCond_51 : decode cX5_readCond 51 = .ok (.return_, 1) := by decide +kernel
theorem dX5_readAll_0 : decode cX5_readAll 0 = .ok (.aload_n 0, 1) := by decide +kernel
theorem dX5_readAll_1 : decode cX5_readAll 1 = .ok (.aload_n 1, 1) := by decide +kernel
theorem dX5_readAll_2 : decode cX5_readAll 2 = .ok (.aload_n 2, 1) := by decide +kernel
theorem dX5_readAll_3 : decode cX5_readAll 3 = .ok (.iload_n 3, 1) := by decide +kernel
theorem dX5_readAll_4 : decode cX5_readAll 4 = .ok (.invokevirtual 64, 3) := by decide +kernel
theorem dX5_readAll_7 : decode cX5_readAll 7 = .ok (.iconst 0, 1) := by decide +kernel
theorem dX5_readAll_8 : decode cX5_readAll 8 = .ok (.istore 4, 2) := by decide +kernel
theorem dX5_readAll_10 : decode cX5_readAll 10 = .ok (.iload 4, 2) := by decide +kernel
theorem dX5_readAll_12 : decode cX5_readAll 12 = .ok (.bipush 20, 2) := by decide +kernel
theorem dX5_readAll_14 : decode cX5_readAll 14 = .ok (.if_icmp .gt 37, 3) := by decide +kernel
theorem dX5_readAll_17 : decode cX5_readAll 17 = .ok (.aload_n 1, 1) := by decide +kernel
theorem dX5_readAll_18 : decode cX5_readAll 18 = .ok (.ldc2_w 67, 3) := by decide +kernel
theorem dX5_readAll_21 : decode cX5_readAll 21 = .ok (.invokevirtual 53, 3) := by decide +kernel
theorem dX5_readAll_24 : decode cX5_readAll 24 = .ok (.ifCond .eq 27, 3) := by decide +kernel
theorem dX5_readAll_27 : decode cX5_readAll 27 = .ok (.aload_n 1, 1) := by decide +kernel
theorem dX5_readAll_28 : decode cX5_readAll 28 = .ok (.invokevirtual 57, 3) := by decide +kernel
theorem dX5_readAll_31 : decode cX5_readAll 31 = .ok (.aload_n 0, 1) := by decide +kernel
theorem dX5_readAll_32 : decode cX5_readAll 32 = .ok (.aload_n 1, 1) := by decide +kernel
theorem dX5_readAll_33 : decode cX5_readAll 33 = .ok (.aload_n 2, 1) := by decide +kernel
theorem dX5_readAll_34 : decode cX5_readAll 34 = .ok (.iload_n 3, 1) := by decide +kernel
theorem dX5_readAll_35 : decode cX5_readAll 35 = .ok (.invokevirtual 64, 3) := by decide +kernel
theorem dX5_readAll_38 : decode cX5_readAll 38 = .ok (.aload_n 0, 1) := by decide +kernel
theorem dX5_readAll_39 : decode cX5_readAll 39 = .ok (.iconst 2, 1) := by decide +kernel
theorem dX5_readAll_40 : decode cX5_readAll 40 = .ok (.iconst 0, 1) := by decide +kernel
theorem dX5_readAll_41 : decode cX5_readAll 41 = .ok (.iconst 0, 1) := by decide +kernel
theorem dX5_readAll_42 : decode cX5_readAll 42 = .ok (.invokevirtual 60, 3) := by decide +kernel
theorem dX5_readAll_45 : decode cX5_readAll 45 = .ok (.iinc 4 1, 3) := by decide +kernel
theorem dX5_readAll_48 : decode cX5_readAll 48 = .ok (.goto (-38), 3) := by decide +kernel
theorem dX5_readAll_51 : decode cX5_readAll 51 = .ok (.return_, 1) := by decide +kernel
theorem dX5_readOne_0 : decode cX5_readOne 0 = .ok (.aload_n 1, 1) := by decide +kernel
theorem dX5_readOne_1 : decode cX5_readOne 1 = .ok (.invokestatic 69, 3) := by decide +kernel
theorem dX5_readOne_4 : decode cX5_readOne 4 = .ok (.istore 4, 2) := by decide +kernel
theorem dX5_readOne_6 : decode cX5_readOne 6 = .ok (.iload 4, 2) := by decide +kernel
theorem dX5_readOne_8 : decode cX5_readOne 8 = .ok (.ifCond .ne 18, 3) := by decide +kernel
theorem dX5_readOne_11 : decode cX5_readOne 11 = .ok (.aload_n 1, 1) := by decide +kernel
theorem dX5_readOne_12 : decode cX5_readOne 12 = .ok (.getfield 73, 3) := by decide +kernel
theorem dX5_readOne_15 : decode cX5_readOne 15 = .ok (.bipush 40, 2) := by decide +kernel
theorem dX5_readOne_17 : decode cX5_readOne 17 = .ok (.if_icmp .eq 9, 3) := by decide +kernel
theorem dX5_readOne_20 : decode cX5_readOne 20 = .ok (.aload_n 1, 1) := by decide +kernel
theorem dX5_readOne_21 : decode cX5_readOne 21 = .ok (.iconst 1, 1) := by decide +kernel
theorem dX5_readOne_22 : decode cX5_readOne 22 = .ok (.invokevirtual 45, 3) := by decide +kernel
theorem dX5_readOne_25 : decode cX5_readOne 25 = .ok (.return_, 1) := by decide +kernel
theorem dX5_readOne_26 : decode cX5_readOne 26 = .ok (.aload_n 0, 1) := by decide +kernel
theorem dX5_readOne_27 : decode cX5_readOne 27 = .ok (.getfield 25, 3) := by decide +kernel
theorem dX5_readOne_30 : decode cX5_readOne 30 = .ok (.bipush 20, 2) := by decide +kernel
theorem dX5_readOne_32 : decode cX5_readOne 32 = .ok (.if_icmp .ge 9, 3) := by decide +kernel
theorem dX5_readOne_35 : decode cX5_readOne 35 = .ok (.iload_n 3, 1) := by decide +kernel
theorem dX5_readOne_36 : decode cX5_readOne 36 = .ok (.bipush 8, 2) := by decide +kernel
theorem dX5_readOne_38 : decode cX5_readOne 38 = .ok (.if_icmp .le 9, 3) := by decide +kernel
theorem dX5_readOne_41 : decode cX5_readOne 41 = .ok (.aload_n 1, 1) := by decide +kernel
theorem dX5_readOne_42 : decode cX5_readOne 42 = .ok (.iconst 4, 1) := by decide +kernel
theorem dX5_readOne_43 : decode cX5_readOne 43 = .ok (.invokevirtual 45, 3) := by decide +kernel
theorem dX5_readOne_46 : decode cX5_readOne 46 = .ok (.return_, 1) := by decide +kernel
theorem dX5_readOne_47 : decode cX5_readOne 47 = .ok (.aload_n 0, 1) := by decide +kernel
theorem dX5_readOne_48 : decode cX5_readOne 48 = .ok (.dup, 1) := by decide +kernel
theorem dX5_readOne_49 : decode cX5_readOne 49 = .ok (.getfield 25, 3) := by decide +kernel
theorem dX5_readOne_52 : decode cX5_readOne 52 = .ok (.iconst 1, 1) := by decide +kernel
theorem dX5_readOne_53 : decode cX5_readOne 53 = .ok (.iadd, 1) := by decide +kernel
theorem dX5_readOne_54 : decode cX5_readOne 54 = .ok (.putfield 25, 3) := by decide +kernel
theorem dX5_readOne_57 : decode cX5_readOne 57 = .ok (.aload_n 1, 1) := by decide +kernel
theorem dX5_readOne_58 : decode cX5_readOne 58 = .ok (.invokevirtual 57, 3) := by decide +kernel
theorem dX5_readOne_61 : decode cX5_readOne 61 = .ok (.iload 4, 2) := by decide +kernel
theorem dX5_readOne_63 : decode cX5_readOne 63 = .ok (.ifCond .ne 21, 3) := by decide +kernel
theorem dX5_readOne_66 : decode cX5_readOne 66 = .ok (.aload_n 0, 1) := by decide +kernel
theorem dX5_readOne_67 : decode cX5_readOne 67 = .ok (.aload_n 1, 1) := by decide +kernel
theorem dX5_readOne_68 : decode cX5_readOne 68 = .ok (.aload_n 2, 1) := by decide +kernel
theorem dX5_readOne_69 : decode cX5_readOne 69 = .ok (.iload_n 3, 1) := by decide +kernel
theorem dX5_readOne_70 : decode cX5_readOne 70 = .ok (.iconst 1, 1) := by decide +kernel
theorem dX5_readOne_71 : decode cX5_readOne 71 = .ok (.iadd, 1) := by decide +kernel
theorem dX5_readOne_72 : decode cX5_readOne 72 = .ok (.invokevirtual 37, 3) := by decide +kernel
theorem dX5_readOne_75 : decode cX5_readOne 75 = .ok (.aload_n 1, 1) := by decide +kernel
theorem dX5_readOne_76 : decode cX5_readOne 76 = .ok (.bipush 41, 2) := by decide +kernel
theorem dX5_readOne_78 : decode cX5_readOne 78 = .ok (.invokevirtual 76, 3) := by decide +kernel
theorem dX5_readOne_81 : decode cX5_readOne 81 = .ok (.goto 36, 3) := by decide +kernel
theorem dX5_readOne_84 : decode cX5_readOne 84 = .ok (.iload 4, 2) := by decide +kernel
theorem dX5_readOne_86 : decode cX5_readOne 86 = .ok (.iconst 1, 1) := by decide +kernel
theorem dX5_readOne_87 : decode cX5_readOne 87 = .ok (.if_icmp .ne 22, 3) := by decide +kernel
theorem dX5_readOne_90 : decode cX5_readOne 90 = .ok (.aload_n 0, 1) := by decide +kernel
theorem dX5_readOne_91 : decode cX5_readOne 91 = .ok (.aload_n 1, 1) := by decide +kernel
theorem dX5_readOne_92 : decode cX5_readOne 92 = .ok (.aload_n 2, 1) := by decide +kernel
theorem dX5_readOne_93 : decode cX5_readOne 93 = .ok (.iload_n 3, 1) := by decide +kernel
theorem dX5_readOne_94 : decode cX5_readOne 94 = .ok (.iconst 1, 1) := by decide +kernel
theorem dX5_readOne_95 : decode cX5_readOne 95 = .ok (.iadd, 1) := by decide +kernel
theorem dX5_readOne_96 : decode cX5_readOne 96 = .ok (.invokevirtual 64, 3) := by decide +kernel
theorem dX5_readOne_99 : decode cX5_readOne 99 = .ok (.aload_n 0, 1) := by decide +kernel
theorem dX5_readOne_100 : decode cX5_readOne 100 = .ok (.iconst 1, 1) := by decide +kernel
theorem dX5_readOne_101 : decode cX5_readOne 101 = .ok (.iconst 0, 1) := by decide +kernel
theorem dX5_readOne_102 : decode cX5_readOne 102 = .ok (.iconst 0, 1) := by decide +kernel
theorem dX5_readOne_103 : decode cX5_readOne 103 = .ok (.invokevirtual 60, 3) := by decide +kernel
theorem dX5_readOne_106 : decode cX5_readOne 106 = .ok (.goto 11, 3) := by decide +kernel
theorem dX5_readOne_109 : decode cX5_readOne 109 = .ok (.aload_n 0, 1) := by decide +kernel
theorem dX5_readOne_110 : decode cX5_readOne 110 = .ok (.aload_n 1, 1) := by decide +kernel
theorem dX5_readOne_111 : decode cX5_readOne 111 = .ok (.aload_n 2, 1) := by decide +kernel
theorem dX5_readOne_112 : decode cX5_readOne 112 = .ok (.iload 4, 2) := by decide +kernel
theorem dX5_readOne_114 : decode cX5_readOne 114 = .ok (.invokevirtual 79, 3) := by decide +kernel
theorem dX5_readOne_117 : decode cX5_readOne 117 = .ok (.return_, 1) := by decide +kernel
theorem mlX5_37 : MLv RX5 37 RX5 5 yX5_readCond cX5_readCond 5 none 3 := ⟨(inr_59 _ (List.mem_of_getElem? (i := 5) rfl)), (inr_59 _ (List.mem_of_getElem? (i := 2) rfl)), (inr_59 _ (List.mem_of_getElem? (i := 3) rfl)), (inr_59 _ (List.mem_of_getElem? (i := 4) rfl)), (inr_2 _ (List.mem_of_getElem? (i := 3) rfl)), rfl, ⟨by decide, by decide, by decide +kernel⟩, by decide, by decide, rfl⟩
theorem mlX5_48 : MLv RX5 48 RX5 5 yX5_readAll cX5_readAll 5 none 3 := ⟨(inr_59 _ (List.mem_of_getElem? (i := 16) rfl)), (inr_59 _ (List.mem_of_getElem? (i := 7) rfl)), (inr_59 _ (List.mem_of_getElem? (i := 8) rfl)), (inr_59 _ (List.mem_of_getElem? (i := 9) rfl)), (inr_2 _ (List.mem_of_getElem? (i := 3) rfl)), rfl, ⟨by decide, by decide, by decide +kernel⟩, by decide, by decide, rfl⟩
theorem mlX5_64 : MLv RX5 64 RX5 5 yX5_readOne cX5_readOne 5 none 3 := ⟨(inr_59 _ (List.mem_of_getElem? (i := 21) rfl)), (inr_59 _ (List.mem_of_getElem? (i := 18) rfl)), (inr_59 _ (List.mem_of_getElem? (i := 19) rfl)), (inr_59 _ (List.mem_of_getElem? (i := 20) rfl)), (inr_2 _ (List.mem_of_getElem? (i := 3) rfl)), rfl, ⟨by decide, by decide, by decide +kernel⟩, by decide, by decide, rfl⟩
theorem mlX5_69 : MLs RX5 69 yX5_stepAt cX5_stepAt 1 (some .int) 1 := ⟨(inr_60 _ (List.mem_of_getElem? (i := 1) rfl)), (inr_59 _ (List.mem_of_getElem? (i := 23) rfl)), (inr_60 _ (List.mem_of_getElem? (i := 0) rfl)), (inr_2 _ (List.mem_of_getElem? (i := 3) rfl)), ⟨by decide, by decide, by decide +kernel⟩, by decide⟩
theorem mlX5_76 : MLv RX5 76 RX6 6 yX6_takeSign cX6_takeSign 2 none 1 := ⟨(inr_15 _ (List.mem_of_getElem? (i := 2) rfl)), (inr_60 _ (List.mem_of_getElem? (i := 16) rfl)), (inr_15 _ (List.mem_of_getElem? (i := 0) rfl)), (inr_15 _ (List.mem_of_getElem? (i := 1) rfl)), (inr_1 _ (List.mem_of_getElem? (i := 15) rfl)), rfl, ⟨by decide, by decide, by decide +kernel⟩, by decide, by decide, rfl⟩
theorem mlX5_79 : MLv RX5 79 RX5 5 yX5_readRest cX5_readRest 5 none 3 := ⟨(inr_60 _ (List.mem_of_getElem? (i := 20) rfl)), (inr_60 _ (List.mem_of_getElem? (i := 17) rfl)), (inr_60 _ (List.mem_of_getElem? (i := 18) rfl)), (inr_60 _ (List.mem_of_getElem? (i := 19) rfl)), (inr_2 _ (List.mem_of_getElem? (i := 3) rfl)), rfl, ⟨by decide, by decide, by decide +kernel⟩, by decide, by decide, rfl⟩
def fRX5_readAll_s10 (RX5_readOne : Nat → Nat → Nat → Int32 → St → Option St) (k10 : Int32 → St → Option St) (a0 : Nat) (a1 : Nat) (a2 : Nat) (x3 : Int32) (y4 : Int32)  (S : St) : Option St :=
  if (20 : Int32) < y4 then (some S) else
  (if (fX6_isAt a1 (6385252 : Int64) S) = 0 then (some S) else
  ((fX6_advance a1 S).bind fun r_5 =>
  (RX5_readOne a0 a1 a2 x3 r_5).bind fun r_7 =>
  (fX5_add a0 (2 : Int32) (0 : Int32) (0 : Int32) r_7).bind fun r_9 =>
  k10 (y4 + (1 : Int32)) r_9))
def fRX5_readAll_h10 (RX5_readOne : Nat → Nat → Nat → Int32 → St → Option St) (a0 : Nat) (a1 : Nat) (a2 : Nat) (x3 : Int32) : Nat → Int32 → St → Option St
  | 0, _, _ => none
  | n + 1, y4, S => fRX5_readAll_s10 RX5_readOne (fRX5_readAll_h10 RX5_readOne a0 a1 a2 x3 n) a0 a1 a2 x3 y4 S
def fRX5_readAll (RX5_readOne : Nat → Nat → Nat → Int32 → St → Option St) (a0 : Nat) (a1 : Nat) (a2 : Nat) (x3 : Int32) (S : St) : Option St :=
  (RX5_readOne a0 a1 a2 x3 S).bind fun r_1 =>
  fRX5_readAll_h10 RX5_readOne a0 a1 a2 x3 NN (0 : Int32) r_1
theorem wRX5_readAll_s10 {z : Mx} {ad : Nat → Nat} {o : Option Value × St} {h hqX5_readOne : Nat} (RX5_readOne : Nat → Nat → Nat → Int32 → St → Option St) (X : CxOk z ad RX5 cX5_readAll 5 none h) (HX5_readOne : ∀ (l : Launch) (D : va_G) (cyy : Nat → ClassId) (a0 a1 a2 : Nat) (x3 : Int32), KT a0 = 5 → KT a1 = 6 → KT a2 = 8 → ∀ (S r : St), RX5_readOne a0 a1 a2 x3 S = some r → OkM l yX5_readOne cX5_readOne 5 none hqX5_readOne ad D cyy [.ref (ad a0), .ref (ad a1), .ref (ad a2), .int x3] S (none, r)) (hhX5_readOne : hqX5_readOne < h) (hb : 9 ≤ h) (hb2 : h < 1000) (a0 : Nat) (a1 : Nat) (a2 : Nat) (x3 : Int32) (h0 : KT a0 = 5) (h1 : KT a1 = 6) (h2 : KT a2 = 8) (y4 : Int32)  (k10 : Int32 → St → Option St)   (S : St) (r : St) (ho : o = (none, r)) (hk10 : ∀ (y4 : Int32) (S : St), k10 y4 S = some r → GW z ad o S 10 [(0, .ref (ad a0)), (1, .ref (ad a1)), (2, .ref (ad a2)), (3, .int x3), (4, .int y4)] []) (hF : fRX5_readAll_s10 RX5_readOne k10 a0 a1 a2 x3 y4  S = some r) : GW z ad o S 10 [(0, .ref (ad a0)), (1, .ref (ad a1)), (2, .ref (ad a2)), (3, .int x3), (4, .int y4)] [] := by
  unfold fRX5_readAll_s10 at hF
  refine g_iload X dX5_readAll_10 4 rfl ?_
  refine g_bipush (v := 20) X dX5_readAll_12 (by decide) ?_
  refine g_icmp_gt (tgt := 51) X dX5_readAll_14 (by decide) (fun c_3 => ?_) (fun c_3 => ?_)
  · rw [if_pos c_3] at hF
    have hF := Option.some.inj hF
    subst hF
    exact g_vret X dX5_readAll_51 ho
  · rw [if_neg c_3] at hF
    refine g_aload_n X dX5_readAll_17 1 rfl rfl ?_
    refine g_ldc2 (v := 6385252) X dX5_readAll_18 (inr_59 _ (List.mem_of_getElem? (i := 17) rfl)) ?_
    refine g_callVi (As := [.long (6385252 : Int64)]) X dX5_readAll_21 mlX5_53 (fun l D cyy => tX6_isAt (cx_inj X) l D cyy a1 (6385252 : Int64) h1 S) h1 (by omega) rfl rfl (Nat.le_of_ble_eq_true rfl) ?_
    refine g_if_eq (tgt := 51) X dX5_readAll_24 (by decide) (fun c_4 => ?_) (fun c_4 => ?_)
    · rw [if_pos c_4] at hF
      have hF := Option.some.inj hF
      subst hF
      exact g_vret X dX5_readAll_51 ho
    · rw [if_neg c_4] at hF
      refine g_aload_n X dX5_readAll_27 1 rfl rfl ?_
      obtain ⟨r_5, q_6, hF⟩ := obind hF
      refine g_callVv (As := []) X dX5_readAll_28 mlX5_57 (fun l D cyy => tX6_advance (cx_inj X) l D cyy a1 h1 S r_5 q_6) h1 (by omega) rfl rfl (Nat.le_of_ble_eq_true rfl) ?_
      refine g_aload_n X dX5_readAll_31 0 rfl rfl ?_
      refine g_aload_n X dX5_readAll_32 1 rfl rfl ?_
      refine g_aload_n X dX5_readAll_33 2 rfl rfl ?_
      refine g_iload_n X dX5_readAll_34 3 rfl rfl ?_
      obtain ⟨r_7, q_8, hF⟩ := obind hF
      refine g_callVv (As := [.ref (ad a1), .ref (ad a2), .int x3]) X dX5_readAll_35 mlX5_64 (fun l D cyy => HX5_readOne l D cyy a0 a1 a2 x3 h0 h1 h2 r_5 r_7 q_8) h0 hhX5_readOne rfl rfl (Nat.le_of_ble_eq_true rfl) ?_
      refine g_aload_n X dX5_readAll_38 0 rfl rfl ?_
      refine g_iconst (v := 2) X dX5_readAll_39 (by decide) ?_
      refine g_iconst (v := 0) X dX5_readAll_40 (by decide) ?_
      refine g_iconst (v := 0) X dX5_readAll_41 (by decide) ?_
      obtain ⟨r_9, q_10, hF⟩ := obind hF
      refine g_callVv (As := [.int (2 : Int32), .int (0 : Int32), .int (0 : Int32)]) X dX5_readAll_42 mlX5_60 (fun l D cyy => tX5_add (cx_inj X) l D cyy a0 (2 : Int32) (0 : Int32) (0 : Int32) h0 r_7 r_9 q_10) h0 (by omega) rfl rfl (Nat.le_of_ble_eq_true rfl) ?_
      refine g_iinc (v := (y4 + (1 : Int32))) X dX5_readAll_45 4 rfl rfl (by decide) (lv' := [(4, .int (y4 + (1 : Int32))), (0, .ref (ad a0)), (1, .ref (ad a1)), (2, .ref (ad a2)), (3, .int x3)]) rfl ?_
      refine g_goto (tgt := 10) X dX5_readAll_48 (by decide) ?_
      exact g_perm [1, 2, 3, 4, 0] rfl (hk10 (y4 + (1 : Int32)) r_9 hF)
theorem wRX5_readAll_h10 {z : Mx} {ad : Nat → Nat} {o : Option Value × St} {h hqX5_readOne : Nat} (RX5_readOne : Nat → Nat → Nat → Int32 → St → Option St) (X : CxOk z ad RX5 cX5_readAll 5 none h) (HX5_readOne : ∀ (l : Launch) (D : va_G) (cyy : Nat → ClassId) (a0 a1 a2 : Nat) (x3 : Int32), KT a0 = 5 → KT a1 = 6 → KT a2 = 8 → ∀ (S r : St), RX5_readOne a0 a1 a2 x3 S = some r → OkM l yX5_readOne cX5_readOne 5 none hqX5_readOne ad D cyy [.ref (ad a0), .ref (ad a1), .ref (ad a2), .int x3] S (none, r)) (hhX5_readOne : hqX5_readOne < h) (hb : 9 ≤ h) (hb2 : h < 1000) (a0 : Nat) (a1 : Nat) (a2 : Nat) (x3 : Int32) (h0 : KT a0 = 5) (h1 : KT a1 = 6) (h2 : KT a2 = 8)  (r : St) (ho : o = (none, r)) : ∀ (n : Nat) (y4 : Int32) (S : St), fRX5_readAll_h10 RX5_readOne a0 a1 a2 x3 n y4 S = some r → GW z ad o S 10 [(0, .ref (ad a0)), (1, .ref (ad a1)), (2, .ref (ad a2)), (3, .int x3), (4, .int y4)] [] := by
  intro n
  induction n with
  | zero => intro y4 S  hF; cases hF
  | succ n ih => intro y4 S  hF; exact wRX5_readAll_s10 RX5_readOne X HX5_readOne hhX5_readOne hb hb2 a0 a1 a2 x3 h0 h1 h2 y4 (fRX5_readAll_h10 RX5_readOne a0 a1 a2 x3 n)  S r ho ih hF
theorem wRX5_readAll {z : Mx} {ad : Nat → Nat} {o : Option Value × St} {h hqX5_readOne : Nat} (RX5_readOne : Nat → Nat → Nat → Int32 → St → Option St) (X : CxOk z ad RX5 cX5_readAll 5 none h) (HX5_readOne : ∀ (l : Launch) (D : va_G) (cyy : Nat → ClassId) (a0 a1 a2 : Nat) (x3 : Int32), KT a0 = 5 → KT a1 = 6 → KT a2 = 8 → ∀ (S r : St), RX5_readOne a0 a1 a2 x3 S = some r → OkM l yX5_readOne cX5_readOne 5 none hqX5_readOne ad D cyy [.ref (ad a0), .ref (ad a1), .ref (ad a2), .int x3] S (none, r)) (hhX5_readOne : hqX5_readOne < h) (hb : 9 ≤ h) (hb2 : h < 1000) (a0 : Nat) (a1 : Nat) (a2 : Nat) (x3 : Int32) (h0 : KT a0 = 5) (h1 : KT a1 = 6) (h2 : KT a2 = 8) (S : St) (r : St) (ho : o = (none, r)) (hF : fRX5_readAll RX5_readOne a0 a1 a2 x3 S = some r) : GW z ad o S 0 [(0, .ref (ad a0)), (1, .ref (ad a1)), (2, .ref (ad a2)), (3, .int x3)] [] := by
  unfold fRX5_readAll at hF
  refine g_aload_n X dX5_readAll_0 0 rfl rfl ?_
  refine g_aload_n X dX5_readAll_1 1 rfl rfl ?_
  refine g_aload_n X dX5_readAll_2 2 rfl rfl ?_
  refine g_iload_n X dX5_readAll_3 3 rfl rfl ?_
  obtain ⟨r_1, q_2, hF⟩ := obind hF
  refine g_callVv (As := [.ref (ad a1), .ref (ad a2), .int x3]) X dX5_readAll_4 mlX5_64 (fun l D cyy => HX5_readOne l D cyy a0 a1 a2 x3 h0 h1 h2 S r_1 q_2) h0 hhX5_readOne rfl rfl (Nat.le_of_ble_eq_true rfl) ?_
  refine g_iconst (v := 0) X dX5_readAll_7 (by decide) ?_
  refine g_istore X dX5_readAll_8 (by decide) (lv' := [(4, .int (0 : Int32)), (0, .ref (ad a0)), (1, .ref (ad a1)), (2, .ref (ad a2)), (3, .int x3)]) rfl ?_
  exact g_perm [1, 2, 3, 4, 0] rfl (wRX5_readAll_h10 RX5_readOne X HX5_readOne hhX5_readOne hb hb2 a0 a1 a2 x3 h0 h1 h2 r ho NN (0 : Int32) r_1 hF)
theorem tRX5_readAll {ad : Nat → Nat} {h hqX5_readOne : Nat} (RX5_readOne : Nat → Nat → Nat → Int32 → St → Option St) (hI : Inj ad) (l : Launch) (D : va_G) (cyy : Nat → ClassId) (HX5_readOne : ∀ (l : Launch) (D : va_G) (cyy : Nat → ClassId) (a0 a1 a2 : Nat) (x3 : Int32), KT a0 = 5 → KT a1 = 6 → KT a2 = 8 → ∀ (S r : St), RX5_readOne a0 a1 a2 x3 S = some r → OkM l yX5_readOne cX5_readOne 5 none hqX5_readOne ad D cyy [.ref (ad a0), .ref (ad a1), .ref (ad a2), .int x3] S (none, r)) (hhX5_readOne : hqX5_readOne < h) (hb : 9 ≤ h) (hb2 : h < 1000) (a0 : Nat) (a1 : Nat) (a2 : Nat) (x3 : Int32) (h0 : KT a0 = 5) (h1 : KT a1 = 6) (h2 : KT a2 = 8) (S : St) (r : St) (hF : fRX5_readAll RX5_readOne a0 a1 a2 x3 S = some r) : OkM l yX5_readAll cX5_readAll 5 none h ad D cyy [.ref (ad a0), .ref (ad a1), .ref (ad a2), .int x3] S (none, r) := okM_of hI (by decide) (inr_59 _ (List.mem_of_getElem? (i := 16) rfl)) (by show _ ≤ 5; exact Nat.le_of_ble_eq_true rfl) (fun z X => wRX5_readAll RX5_readOne X HX5_readOne hhX5_readOne hb hb2 a0 a1 a2 x3 h0 h1 h2 S r rfl hF)
def fRX5_readCond_s10 (RX5_readAll : Nat → Nat → Nat → Int32 → St → Option St) (k10 : Int32 → St → Option St) (a0 : Nat) (a1 : Nat) (a2 : Nat) (x3 : Int32) (y4 : Int32)  (S : St) : Option St :=
  if (20 : Int32) < y4 then (some S) else
  (if (fX6_isAt a1 (28530 : Int64) S) = 0 then (some S) else
  ((fX6_advance a1 S).bind fun r_5 =>
  (RX5_readAll a0 a1 a2 x3 r_5).bind fun r_7 =>
  (fX5_add a0 (3 : Int32) (0 : Int32) (0 : Int32) r_7).bind fun r_9 =>
  k10 (y4 + (1 : Int32)) r_9))
def fRX5_readCond_h10 (RX5_readAll : Nat → Nat → Nat → Int32 → St → Option St) (a0 : Nat) (a1 : Nat) (a2 : Nat) (x3 : Int32) : Nat → Int32 → St → Option St
  | 0, _, _ => none
  | n + 1, y4, S => fRX5_readCond_s10 RX5_readAll (fRX5_readCond_h10 RX5_readAll a0 a1 a2 x3 n) a0 a1 a2 x3 y4 S
def fRX5_readCond (RX5_readAll : Nat → Nat → Nat → Int32 → St → Option St) (a0 : Nat) (a1 : Nat) (a2 : Nat) (x3 : Int32) (S : St) : Option St :=
  (RX5_readAll a0 a1 a2 x3 S).bind fun r_1 =>
  fRX5_readCond_h10 RX5_readAll a0 a1 a2 x3 NN (0 : Int32) r_1
theorem wRX5_readCond_s10 {z : Mx} {ad : Nat → Nat} {o : Option Value × St} {h hqX5_readAll : Nat} (RX5_readAll : Nat → Nat → Nat → Int32 → St → Option St) (X : CxOk z ad RX5 cX5_readCond 5 none h) (HX5_readAll : ∀ (l : Launch) (D : va_G) (cyy : Nat → ClassId) (a0 a1 a2 : Nat) (x3 : Int32), KT a0 = 5 → KT a1 = 6 → KT a2 = 8 → ∀ (S r : St), RX5_readAll a0 a1 a2 x3 S = some r → OkM l yX5_readAll cX5_readAll 5 none hqX5_readAll ad D cyy [.ref (ad a0), .ref (ad a1), .ref (ad a2), .int x3] S (none, r)) (hhX5_readAll : hqX5_readAll < h) (hb : 9 ≤ h) (hb2 : h < 1000) (a0 : Nat) (a1 : Nat) (a2 : Nat) (x3 : Int32) (h0 : KT a0 = 5) (h1 : KT a1 = 6) (h2 : KT a2 = 8) (y4 : Int32)  (k10 : Int32 → St → Option St)   (S : St) (r : St) (ho : o = (none, r)) (hk10 : ∀ (y4 : Int32) (S : St), k10 y4 S = some r → GW z ad o S 10 [(0, .ref (ad a0)), (1, .ref (ad a1)), (2, .ref (ad a2)), (3, .int x3), (4, .int y4)] []) (hF : fRX5_readCond_s10 RX5_readAll k10 a0 a1 a2 x3 y4  S = some r) : GW z ad o S 10 [(0, .ref (ad a0)), (1, .ref (ad a1)), (2, .ref (ad a2)), (3, .int x3), (4, .int y4)] [] := by
  unfold fRX5_readCond_s10 at hF
  refine g_iload X dX5_readCond_10 4 rfl ?_
  refine g_bipush (v := 20) X dX5_readCond_12 (by decide) ?_
  refine g_icmp_gt (tgt := 51) X dX5_readCond_14 (by decide) (fun c_3 => ?_) (fun c_3 => ?_)
  · rw [if_pos c_3] at hF
    have hF := Option.some.inj hF
    subst hF
    exact g_vret X dX5_readCond_51 ho
  · rw [if_neg c_3] at hF
    refine g_aload_n X dX5_readCond_17 1 rfl rfl ?_
    refine g_ldc2 (v := 28530) X dX5_readCond_18 (inr_59 _ (List.mem_of_getElem? (i := 6) rfl)) ?_
    refine g_callVi (As := [.long (28530 : Int64)]) X dX5_readCond_21 mlX5_53 (fun l D cyy => tX6_isAt (cx_inj X) l D cyy a1 (28530 : Int64) h1 S) h1 (by omega) rfl rfl (Nat.le_of_ble_eq_true rfl) ?_
    refine g_if_eq (tgt := 51) X dX5_readCond_24 (by decide) (fun c_4 => ?_) (fun c_4 => ?_)
    · rw [if_pos c_4] at hF
      have hF := Option.some.inj hF
      subst hF
      exact g_vret X dX5_readCond_51 ho
    · rw [if_neg c_4] at hF
      refine g_aload_n X dX5_readCond_27 1 rfl rfl ?_
      obtain ⟨r_5, q_6, hF⟩ := obind hF
      refine g_callVv (As := []) X dX5_readCond_28 mlX5_57 (fun l D cyy => tX6_advance (cx_inj X) l D cyy a1 h1 S r_5 q_6) h1 (by omega) rfl rfl (Nat.le_of_ble_eq_true rfl) ?_
      refine g_aload_n X dX5_readCond_31 0 rfl rfl ?_
      refine g_aload_n X dX5_readCond_32 1 rfl rfl ?_
      refine g_aload_n X dX5_readCond_33 2 rfl rfl ?_
      refine g_iload_n X dX5_readCond_34 3 rfl rfl ?_
      obtain ⟨r_7, q_8, hF⟩ := obind hF
      refine g_callVv (As := [.ref (ad a1), .ref (ad a2), .int x3]) X dX5_readCond_35 mlX5_48 (fun l D cyy => HX5_readAll l D cyy a0 a1 a2 x3 h0 h1 h2 r_5 r_7 q_8) h0 hhX5_readAll rfl rfl (Nat.le_of_ble_eq_true rfl) ?_
      refine g_aload_n X dX5_readCond_38 0 rfl rfl ?_
      refine g_iconst (v := 3) X dX5_readCond_39 (by decide) ?_
      refine g_iconst (v := 0) X dX5_readCond_40 (by decide) ?_
      refine g_iconst (v := 0) X dX5_readCond_41 (by decide) ?_
      obtain ⟨r_9, q_10, hF⟩ := obind hF
      refine g_callVv (As := [.int (3 : Int32), .int (0 : Int32), .int (0 : Int32)]) X dX5_readCond_42 mlX5_60 (fun l D cyy => tX5_add (cx_inj X) l D cyy a0 (3 : Int32) (0 : Int32) (0 : Int32) h0 r_7 r_9 q_10) h0 (by omega) rfl rfl (Nat.le_of_ble_eq_true rfl) ?_
      refine g_iinc (v := (y4 + (1 : Int32))) X dX5_readCond_45 4 rfl rfl (by decide) (lv' := [(4, .int (y4 + (1 : Int32))), (0, .ref (ad a0)), (1, .ref (ad a1)), (2, .ref (ad a2)), (3, .int x3)]) rfl ?_
      refine g_goto (tgt := 10) X dX5_readCond_48 (by decide) ?_
      exact g_perm [1, 2, 3, 4, 0] rfl (hk10 (y4 + (1 : Int32)) r_9 hF)
theorem wRX5_readCond_h10 {z : Mx} {ad : Nat → Nat} {o : Option Value × St} {h hqX5_readAll : Nat} (RX5_readAll : Nat → Nat → Nat → Int32 → St → Option St) (X : CxOk z ad RX5 cX5_readCond 5 none h) (HX5_readAll : ∀ (l : Launch) (D : va_G) (cyy : Nat → ClassId) (a0 a1 a2 : Nat) (x3 : Int32), KT a0 = 5 → KT a1 = 6 → KT a2 = 8 → ∀ (S r : St), RX5_readAll a0 a1 a2 x3 S = some r → OkM l yX5_readAll cX5_readAll 5 none hqX5_readAll ad D cyy [.ref (ad a0), .ref (ad a1), .ref (ad a2), .int x3] S (none, r)) (hhX5_readAll : hqX5_readAll < h) (hb : 9 ≤ h) (hb2 : h < 1000) (a0 : Nat) (a1 : Nat) (a2 : Nat) (x3 : Int32) (h0 : KT a0 = 5) (h1 : KT a1 = 6) (h2 : KT a2 = 8)  (r : St) (ho : o = (none, r)) : ∀ (n : Nat) (y4 : Int32) (S : St), fRX5_readCond_h10 RX5_readAll a0 a1 a2 x3 n y4 S = some r → GW z ad o S 10 [(0, .ref (ad a0)), (1, .ref (ad a1)), (2, .ref (ad a2)), (3, .int x3), (4, .int y4)] [] := by
  intro n
  induction n with
  | zero => intro y4 S  hF; cases hF
  | succ n ih => intro y4 S  hF; exact wRX5_readCond_s10 RX5_readAll X HX5_readAll hhX5_readAll hb hb2 a0 a1 a2 x3 h0 h1 h2 y4 (fRX5_readCond_h10 RX5_readAll a0 a1 a2 x3 n)  S r ho ih hF
theorem wRX5_readCond {z : Mx} {ad : Nat → Nat} {o : Option Value × St} {h hqX5_readAll : Nat} (RX5_readAll : Nat → Nat → Nat → Int32 → St → Option St) (X : CxOk z ad RX5 cX5_readCond 5 none h) (HX5_readAll : ∀ (l : Launch) (D : va_G) (cyy : Nat → ClassId) (a0 a1 a2 : Nat) (x3 : Int32), KT a0 = 5 → KT a1 = 6 → KT a2 = 8 → ∀ (S r : St), RX5_readAll a0 a1 a2 x3 S = some r → OkM l yX5_readAll cX5_readAll 5 none hqX5_readAll ad D cyy [.ref (ad a0), .ref (ad a1), .ref (ad a2), .int x3] S (none, r)) (hhX5_readAll : hqX5_readAll < h) (hb : 9 ≤ h) (hb2 : h < 1000) (a0 : Nat) (a1 : Nat) (a2 : Nat) (x3 : Int32) (h0 : KT a0 = 5) (h1 : KT a1 = 6) (h2 : KT a2 = 8) (S : St) (r : St) (ho : o = (none, r)) (hF : fRX5_readCond RX5_readAll a0 a1 a2 x3 S = some r) : GW z ad o S 0 [(0, .ref (ad a0)), (1, .ref (ad a1)), (2, .ref (ad a2)), (3, .int x3)] [] := by
  unfold fRX5_readCond at hF
  refine g_aload_n X dX5_readCond_0 0 rfl rfl ?_
  refine g_aload_n X dX5_readCond_1 1 rfl rfl ?_
  refine g_aload_n X dX5_readCond_2 2 rfl rfl ?_
  refine g_iload_n X dX5_readCond_3 3 rfl rfl ?_
  obtain ⟨r_1, q_2, hF⟩ := obind hF
  refine g_callVv (As := [.ref (ad a1), .ref (ad a2), .int x3]) X dX5_readCond_4 mlX5_48 (fun l D cyy => HX5_readAll l D cyy a0 a1 a2 x3 h0 h1 h2 S r_1 q_2) h0 hhX5_readAll rfl rfl (Nat.le_of_ble_eq_true rfl) ?_
  refine g_iconst (v := 0) X dX5_readCond_7 (by decide) ?_
  refine g_istore X dX5_readCond_8 (by decide) (lv' := [(4, .int (0 : Int32)), (0, .ref (ad a0)), (1, .ref (ad a1)), (2, .ref (ad a2)), (3, .int x3)]) rfl ?_
  exact g_perm [1, 2, 3, 4, 0] rfl (wRX5_readCond_h10 RX5_readAll X HX5_readAll hhX5_readAll hb hb2 a0 a1 a2 x3 h0 h1 h2 r ho NN (0 : Int32) r_1 hF)
theorem tRX5_readCond {ad : Nat → Nat} {h hqX5_readAll : Nat} (RX5_readAll : Nat → Nat → Nat → Int32 → St → Option St) (hI : Inj ad) (l : Launch) (D : va_G) (cyy : Nat → ClassId) (HX5_readAll : ∀ (l : Launch) (D : va_G) (cyy : Nat → ClassId) (a0 a1 a2 : Nat) (x3 : Int32), KT a0 = 5 → KT a1 = 6 → KT a2 = 8 → ∀ (S r : St), RX5_readAll a0 a1 a2 x3 S = some r → OkM l yX5_readAll cX5_readAll 5 none hqX5_readAll ad D cyy [.ref (ad a0), .ref (ad a1), .ref (ad a2), .int x3] S (none, r)) (hhX5_readAll : hqX5_readAll < h) (hb : 9 ≤ h) (hb2 : h < 1000) (a0 : Nat) (a1 : Nat) (a2 : Nat) (x3 : Int32) (h0 : KT a0 = 5) (h1 : KT a1 = 6) (h2 : KT a2 = 8) (S : St) (r : St) (hF : fRX5_readCond RX5_readAll a0 a1 a2 x3 S = some r) : OkM l yX5_readCond cX5_readCond 5 none h ad D cyy [.ref (ad a0), .ref (ad a1), .ref (ad a2), .int x3] S (none, r) := okM_of hI (by decide) (inr_59 _ (List.mem_of_getElem? (i := 5) rfl)) (by show _ ≤ 5; exact Nat.le_of_ble_eq_true rfl) (fun z X => wRX5_readCond RX5_readAll X HX5_readAll hhX5_readAll hb hb2 a0 a1 a2 x3 h0 h1 h2 S r rfl hF)
def fRX5_readOne_s41 (RX5_readCond : Nat → Nat → Nat → Int32 → St → Option St) (RX5_readOne : Nat → Nat → Nat → Int32 → St → Option St) (a0 : Nat) (a1 : Nat) (a2 : Nat) (x3 : Int32)   (S : St) : Option St :=
  some (fX6_fail a1 (4 : Int32) S)
def fRX5_readOne_s57 (RX5_readCond : Nat → Nat → Nat → Int32 → St → Option St) (RX5_readOne : Nat → Nat → Nat → Int32 → St → Option St) (a0 : Nat) (a1 : Nat) (a2 : Nat) (x3 : Int32) (y4 : Int32)  (S : St) : Option St :=
  (fX6_advance a1 S).bind fun r_4 =>
  if y4 = 0 then ((RX5_readCond a0 a1 a2 (x3 + (1 : Int32)) r_4).bind fun r_14 =>
  (fX6_takeSign a1 (41 : Int32) r_14).bind fun r_16 =>
  some r_16) else
  (if y4 = (1 : Int32) then ((RX5_readOne a0 a1 a2 (x3 + (1 : Int32)) r_4).bind fun r_10 =>
  (fX5_add a0 (1 : Int32) (0 : Int32) (0 : Int32) r_10).bind fun r_12 =>
  some r_12) else
  ((fX5_readRest a0 a1 a2 y4 r_4).bind fun r_8 =>
  some r_8))
def fRX5_readOne_s26 (RX5_readCond : Nat → Nat → Nat → Int32 → St → Option St) (RX5_readOne : Nat → Nat → Nat → Int32 → St → Option St) (a0 : Nat) (a1 : Nat) (a2 : Nat) (x3 : Int32) (y4 : Int32)  (S : St) : Option St :=
  if (20 : Int32) ≤ (gI S 5 4 a0) then (fRX5_readOne_s41 RX5_readCond RX5_readOne a0 a1 a2 x3 S) else
  (if x3 ≤ (8 : Int32) then (fRX5_readOne_s57 RX5_readCond RX5_readOne a0 a1 a2 x3 y4 (sI S 5 4 a0 ((gI S 5 4 a0) + (1 : Int32)))) else
  (fRX5_readOne_s41 RX5_readCond RX5_readOne a0 a1 a2 x3 S))
def fRX5_readOne_s6 (RX5_readCond : Nat → Nat → Nat → Int32 → St → Option St) (RX5_readOne : Nat → Nat → Nat → Int32 → St → Option St) (a0 : Nat) (a1 : Nat) (a2 : Nat) (x3 : Int32) (y4 : Int32)  (S : St) : Option St :=
  if y4 = 0 then (if (gI S 6 5 a1) = (40 : Int32) then (fRX5_readOne_s26 RX5_readCond RX5_readOne a0 a1 a2 x3 y4 S) else
  (some (fX6_fail a1 (1 : Int32) S))) else
  (fRX5_readOne_s26 RX5_readCond RX5_readOne a0 a1 a2 x3 y4 S)
def fRX5_readOne (RX5_readCond : Nat → Nat → Nat → Int32 → St → Option St) (RX5_readOne : Nat → Nat → Nat → Int32 → St → Option St) (a0 : Nat) (a1 : Nat) (a2 : Nat) (x3 : Int32) (S : St) : Option St :=
  fRX5_readOne_s6 RX5_readCond RX5_readOne a0 a1 a2 x3 (fX5_stepAt a1 S) S
theorem wRX5_readOne_s41 {z : Mx} {ad : Nat → Nat} {o : Option Value × St} {h hqX5_readCond hqX5_readOne : Nat} (RX5_readCond : Nat → Nat → Nat → Int32 → St → Option St) (RX5_readOne : Nat → Nat → Nat → Int32 → St → Option St) (X : CxOk z ad RX5 cX5_readOne 5 none h) (HX5_readCond : ∀ (l : Launch) (D : va_G) (cyy : Nat → ClassId) (a0 a1 a2 : Nat) (x3 : Int32), KT a0 = 5 → KT a1 = 6 → KT a2 = 8 → ∀ (S r : St), RX5_readCond a0 a1 a2 x3 S = some r → OkM l yX5_readCond cX5_readCond 5 none hqX5_readCond ad D cyy [.ref (ad a0), .ref (ad a1), .ref (ad a2), .int x3] S (none, r)) (hhX5_readCond : hqX5_readCond < h) (HX5_readOne : ∀ (l : Launch) (D : va_G) (cyy : Nat → ClassId) (a0 a1 a2 : Nat) (x3 : Int32), KT a0 = 5 → KT a1 = 6 → KT a2 = 8 → ∀ (S r : St), RX5_readOne a0 a1 a2 x3 S = some r → OkM l yX5_readOne cX5_readOne 5 none hqX5_readOne ad D cyy [.ref (ad a0), .ref (ad a1), .ref (ad a2), .int x3] S (none, r)) (hhX5_readOne : hqX5_readOne < h) (hb : 9 ≤ h) (hb2 : h < 1000) (a0 : Nat) (a1 : Nat) (a2 : Nat) (x3 : Int32) (h0 : KT a0 = 5) (h1 : KT a1 = 6) (h2 : KT a2 = 8)     (S : St) (r : St) (ho : o = (none, r)) (hF : fRX5_readOne_s41 RX5_readCond RX5_readOne a0 a1 a2 x3   S = some r) : GW z ad o S 41 [(1, .ref (ad a1))] [] := by
  unfold fRX5_readOne_s41 at hF
  refine g_aload_n X dX5_readOne_41 0 rfl rfl ?_
  refine g_iconst (v := 4) X dX5_readOne_42 (by decide) ?_
  refine g_callVv (As := [.int (4 : Int32)]) X dX5_readOne_43 mlX5_45 (fun l D cyy => tX6_fail (cx_inj X) l D cyy a1 (4 : Int32) h1 S) h1 (by omega) rfl rfl (Nat.le_of_ble_eq_true rfl) ?_
  have hF := Option.some.inj hF
  subst hF
  exact g_vret X dX5_readOne_46 ho
theorem wRX5_readOne_s57 {z : Mx} {ad : Nat → Nat} {o : Option Value × St} {h hqX5_readCond hqX5_readOne : Nat} (RX5_readCond : Nat → Nat → Nat → Int32 → St → Option St) (RX5_readOne : Nat → Nat → Nat → Int32 → St → Option St) (X : CxOk z ad RX5 cX5_readOne 5 none h) (HX5_readCond : ∀ (l : Launch) (D : va_G) (cyy : Nat → ClassId) (a0 a1 a2 : Nat) (x3 : Int32), KT a0 = 5 → KT a1 = 6 → KT a2 = 8 → ∀ (S r : St), RX5_readCond a0 a1 a2 x3 S = some r → OkM l yX5_readCond cX5_readCond 5 none hqX5_readCond ad D cyy [.ref (ad a0), .ref (ad a1), .ref (ad a2), .int x3] S (none, r)) (hhX5_readCond : hqX5_readCond < h) (HX5_readOne : ∀ (l : Launch) (D : va_G) (cyy : Nat → ClassId) (a0 a1 a2 : Nat) (x3 : Int32), KT a0 = 5 → KT a1 = 6 → KT a2 = 8 → ∀ (S r : St), RX5_readOne a0 a1 a2 x3 S = some r → OkM l yX5_readOne cX5_readOne 5 none hqX5_readOne ad D cyy [.ref (ad a0), .ref (ad a1), .ref (ad a2), .int x3] S (none, r)) (hhX5_readOne : hqX5_readOne < h) (hb : 9 ≤ h) (hb2 : h < 1000) (a0 : Nat) (a1 : Nat) (a2 : Nat) (x3 : Int32) (h0 : KT a0 = 5) (h1 : KT a1 = 6) (h2 : KT a2 = 8) (y4 : Int32)    (S : St) (r : St) (ho : o = (none, r)) (hF : fRX5_readOne_s57 RX5_readCond RX5_readOne a0 a1 a2 x3 y4  S = some r) : GW z ad o S 57 [(0, .ref (ad a0)), (1, .ref (ad a1)), (2, .ref (ad a2)), (3, .int x3), (4, .int y4)] [] := by
  unfold fRX5_readOne_s57 at hF
  refine g_aload_n X dX5_readOne_57 1 rfl rfl ?_
  obtain ⟨r_4, q_5, hF⟩ := obind hF
  refine g_callVv (As := []) X dX5_readOne_58 mlX5_57 (fun l D cyy => tX6_advance (cx_inj X) l D cyy a1 h1 S r_4 q_5) h1 (by omega) rfl rfl (Nat.le_of_ble_eq_true rfl) ?_
  refine g_iload X dX5_readOne_61 4 rfl ?_
  refine g_if_ne (tgt := 84) X dX5_readOne_63 (by decide) (fun c_6 => ?_) (fun c_6 => ?_)
  · rw [if_neg c_6] at hF
    refine g_iload X dX5_readOne_84 4 rfl ?_
    refine g_iconst (v := 1) X dX5_readOne_86 (by decide) ?_
    refine g_icmp_ne (tgt := 109) X dX5_readOne_87 (by decide) (fun c_7 => ?_) (fun c_7 => ?_)
    · rw [if_neg c_7] at hF
      refine g_aload_n X dX5_readOne_109 0 rfl rfl ?_
      refine g_aload_n X dX5_readOne_110 1 rfl rfl ?_
      refine g_aload_n X dX5_readOne_111 2 rfl rfl ?_
      refine g_iload X dX5_readOne_112 4 rfl ?_
      obtain ⟨r_8, q_9, hF⟩ := obind hF
      refine g_callVv (As := [.ref (ad a1), .ref (ad a2), .int y4]) X dX5_readOne_114 mlX5_79 (fun l D cyy => tX5_readRest (cx_inj X) l D cyy a0 a1 a2 y4 h0 h1 h2 r_4 r_8 q_9) h0 (by omega) rfl rfl (Nat.le_of_ble_eq_true rfl) ?_
      have hF := Option.some.inj hF
      subst hF
      exact g_vret X dX5_readOne_117 ho
    · rw [if_pos c_7] at hF
      refine g_aload_n X dX5_readOne_90 0 rfl rfl ?_
      refine g_aload_n X dX5_readOne_91 1 rfl rfl ?_
      refine g_aload_n X dX5_readOne_92 2 rfl rfl ?_
      refine g_iload_n X dX5_readOne_93 3 rfl rfl ?_
      refine g_iconst (v := 1) X dX5_readOne_94 (by decide) ?_
      refine g_iadd X dX5_readOne_95 ?_
      obtain ⟨r_10, q_11, hF⟩ := obind hF
      refine g_callVv (As := [.ref (ad a1), .ref (ad a2), .int (x3 + (1 : Int32))]) X dX5_readOne_96 mlX5_64 (fun l D cyy => HX5_readOne l D cyy a0 a1 a2 (x3 + (1 : Int32)) h0 h1 h2 r_4 r_10 q_11) h0 hhX5_readOne rfl rfl (Nat.le_of_ble_eq_true rfl) ?_
      refine g_aload_n X dX5_readOne_99 0 rfl rfl ?_
      refine g_iconst (v := 1) X dX5_readOne_100 (by decide) ?_
      refine g_iconst (v := 0) X dX5_readOne_101 (by decide) ?_
      refine g_iconst (v := 0) X dX5_readOne_102 (by decide) ?_
      obtain ⟨r_12, q_13, hF⟩ := obind hF
      refine g_callVv (As := [.int (1 : Int32), .int (0 : Int32), .int (0 : Int32)]) X dX5_readOne_103 mlX5_60 (fun l D cyy => tX5_add (cx_inj X) l D cyy a0 (1 : Int32) (0 : Int32) (0 : Int32) h0 r_10 r_12 q_13) h0 (by omega) rfl rfl (Nat.le_of_ble_eq_true rfl) ?_
      refine g_goto (tgt := 117) X dX5_readOne_106 (by decide) ?_
      have hF := Option.some.inj hF
      subst hF
      exact g_vret X dX5_readOne_117 ho
  · rw [if_pos c_6] at hF
    refine g_aload_n X dX5_readOne_66 0 rfl rfl ?_
    refine g_aload_n X dX5_readOne_67 1 rfl rfl ?_
    refine g_aload_n X dX5_readOne_68 2 rfl rfl ?_
    refine g_iload_n X dX5_readOne_69 3 rfl rfl ?_
    refine g_iconst (v := 1) X dX5_readOne_70 (by decide) ?_
    refine g_iadd X dX5_readOne_71 ?_
    obtain ⟨r_14, q_15, hF⟩ := obind hF
    refine g_callVv (As := [.ref (ad a1), .ref (ad a2), .int (x3 + (1 : Int32))]) X dX5_readOne_72 mlX5_37 (fun l D cyy => HX5_readCond l D cyy a0 a1 a2 (x3 + (1 : Int32)) h0 h1 h2 r_4 r_14 q_15) h0 hhX5_readCond rfl rfl (Nat.le_of_ble_eq_true rfl) ?_
    refine g_aload_n X dX5_readOne_75 1 rfl rfl ?_
    refine g_bipush (v := 41) X dX5_readOne_76 (by decide) ?_
    obtain ⟨r_16, q_17, hF⟩ := obind hF
    refine g_callVv (As := [.int (41 : Int32)]) X dX5_readOne_78 mlX5_76 (fun l D cyy => tX6_takeSign (cx_inj X) l D cyy a1 (41 : Int32) h1 r_14 r_16 q_17) h1 (by omega) rfl rfl (Nat.le_of_ble_eq_true rfl) ?_
    refine g_goto (tgt := 117) X dX5_readOne_81 (by decide) ?_
    have hF := Option.some.inj hF
    subst hF
    exact g_vret X dX5_readOne_117 ho
theorem wRX5_readOne_s26 {z : Mx} {ad : Nat → Nat} {o : Option Value × St} {h hqX5_readCond hqX5_readOne : Nat} (RX5_readCond : Nat → Nat → Nat → Int32 → St → Option St) (RX5_readOne : Nat → Nat → Nat → Int32 → St → Option St) (X : CxOk z ad RX5 cX5_readOne 5 none h) (HX5_readCond : ∀ (l : Launch) (D : va_G) (cyy : Nat → ClassId) (a0 a1 a2 : Nat) (x3 : Int32), KT a0 = 5 → KT a1 = 6 → KT a2 = 8 → ∀ (S r : St), RX5_readCond a0 a1 a2 x3 S = some r → OkM l yX5_readCond cX5_readCond 5 none hqX5_readCond ad D cyy [.ref (ad a0), .ref (ad a1), .ref (ad a2), .int x3] S (none, r)) (hhX5_readCond : hqX5_readCond < h) (HX5_readOne : ∀ (l : Launch) (D : va_G) (cyy : Nat → ClassId) (a0 a1 a2 : Nat) (x3 : Int32), KT a0 = 5 → KT a1 = 6 → KT a2 = 8 → ∀ (S r : St), RX5_readOne a0 a1 a2 x3 S = some r → OkM l yX5_readOne cX5_readOne 5 none hqX5_readOne ad D cyy [.ref (ad a0), .ref (ad a1), .ref (ad a2), .int x3] S (none, r)) (hhX5_readOne : hqX5_readOne < h) (hb : 9 ≤ h) (hb2 : h < 1000) (a0 : Nat) (a1 : Nat) (a2 : Nat) (x3 : Int32) (h0 : KT a0 = 5) (h1 : KT a1 = 6) (h2 : KT a2 = 8) (y4 : Int32)    (S : St) (r : St) (ho : o = (none, r)) (hF : fRX5_readOne_s26 RX5_readCond RX5_readOne a0 a1 a2 x3 y4  S = some r) : GW z ad o S 26 [(0, .ref (ad a0)), (1, .ref (ad a1)), (2, .ref (ad a2)), (3, .int x3), (4, .int y4)] [] := by
  unfold fRX5_readOne_s26 at hF
  refine g_aload_n X dX5_readOne_26 0 rfl rfl ?_
  refine g_getI X dX5_readOne_27 flX5_25 rfl h0 ?_
  refine g_bipush (v := 20) X dX5_readOne_30 (by decide) ?_
  refine g_icmp_ge (tgt := 41) X dX5_readOne_32 (by decide) (fun c_2 => ?_) (fun c_2 => ?_)
  · rw [if_pos c_2] at hF
    exact g_perm [1] rfl (wRX5_readOne_s41 RX5_readCond RX5_readOne X HX5_readCond hhX5_readCond HX5_readOne hhX5_readOne hb hb2 a0 a1 a2 x3 h0 h1 h2 S r ho hF)
  · rw [if_neg c_2] at hF
    refine g_iload_n X dX5_readOne_35 3 rfl rfl ?_
    refine g_bipush (v := 8) X dX5_readOne_36 (by decide) ?_
    refine g_icmp_le (tgt := 47) X dX5_readOne_38 (by decide) (fun c_3 => ?_) (fun c_3 => ?_)
    · rw [if_pos c_3] at hF
      refine g_aload_n X dX5_readOne_47 0 rfl rfl ?_
      refine g_dup (a := .ref (ad a0)) X dX5_readOne_48 rfl ?_
      refine g_getI X dX5_readOne_49 flX5_25 rfl h0 ?_
      refine g_iconst (v := 1) X dX5_readOne_52 (by decide) ?_
      refine g_iadd X dX5_readOne_53 ?_
      refine g_putI X dX5_readOne_54 fpX5_25 rfl rfl rfl h0 ?_
      exact (wRX5_readOne_s57 RX5_readCond RX5_readOne X HX5_readCond hhX5_readCond HX5_readOne hhX5_readOne hb hb2 a0 a1 a2 x3 h0 h1 h2 y4 (sI S 5 4 a0 ((gI S 5 4 a0) + (1 : Int32))) r ho hF)
    · rw [if_neg c_3] at hF
      exact g_perm [1] rfl (wRX5_readOne_s41 RX5_readCond RX5_readOne X HX5_readCond hhX5_readCond HX5_readOne hhX5_readOne hb hb2 a0 a1 a2 x3 h0 h1 h2 S r ho hF)
theorem wRX5_readOne_s6 {z : Mx} {ad : Nat → Nat} {o : Option Value × St} {h hqX5_readCond hqX5_readOne : Nat} (RX5_readCond : Nat → Nat → Nat → Int32 → St → Option St) (RX5_readOne : Nat → Nat → Nat → Int32 → St → Option St) (X : CxOk z ad RX5 cX5_readOne 5 none h) (HX5_readCond : ∀ (l : Launch) (D : va_G) (cyy : Nat → ClassId) (a0 a1 a2 : Nat) (x3 : Int32), KT a0 = 5 → KT a1 = 6 → KT a2 = 8 → ∀ (S r : St), RX5_readCond a0 a1 a2 x3 S = some r → OkM l yX5_readCond cX5_readCond 5 none hqX5_readCond ad D cyy [.ref (ad a0), .ref (ad a1), .ref (ad a2), .int x3] S (none, r)) (hhX5_readCond : hqX5_readCond < h) (HX5_readOne : ∀ (l : Launch) (D : va_G) (cyy : Nat → ClassId) (a0 a1 a2 : Nat) (x3 : Int32), KT a0 = 5 → KT a1 = 6 → KT a2 = 8 → ∀ (S r : St), RX5_readOne a0 a1 a2 x3 S = some r → OkM l yX5_readOne cX5_readOne 5 none hqX5_readOne ad D cyy [.ref (ad a0), .ref (ad a1), .ref (ad a2), .int x3] S (none, r)) (hhX5_readOne : hqX5_readOne < h) (hb : 9 ≤ h) (hb2 : h < 1000) (a0 : Nat) (a1 : Nat) (a2 : Nat) (x3 : Int32) (h0 : KT a0 = 5) (h1 : KT a1 = 6) (h2 : KT a2 = 8) (y4 : Int32)    (S : St) (r : St) (ho : o = (none, r)) (hF : fRX5_readOne_s6 RX5_readCond RX5_readOne a0 a1 a2 x3 y4  S = some r) : GW z ad o S 6 [(0, .ref (ad a0)), (1, .ref (ad a1)), (2, .ref (ad a2)), (3, .int x3), (4, .int y4)] [] := by
  unfold fRX5_readOne_s6 at hF
  refine g_iload X dX5_readOne_6 4 rfl ?_
  refine g_if_ne (tgt := 26) X dX5_readOne_8 (by decide) (fun c_1 => ?_) (fun c_1 => ?_)
  · rw [if_neg c_1] at hF
    exact (wRX5_readOne_s26 RX5_readCond RX5_readOne X HX5_readCond hhX5_readCond HX5_readOne hhX5_readOne hb hb2 a0 a1 a2 x3 h0 h1 h2 y4 S r ho hF)
  · rw [if_pos c_1] at hF
    refine g_aload_n X dX5_readOne_11 1 rfl rfl ?_
    refine g_getI X dX5_readOne_12 flX5_73 rfl h1 ?_
    refine g_bipush (v := 40) X dX5_readOne_15 (by decide) ?_
    refine g_icmp_eq (tgt := 26) X dX5_readOne_17 (by decide) (fun c_18 => ?_) (fun c_18 => ?_)
    · rw [if_pos c_18] at hF
      exact (wRX5_readOne_s26 RX5_readCond RX5_readOne X HX5_readCond hhX5_readCond HX5_readOne hhX5_readOne hb hb2 a0 a1 a2 x3 h0 h1 h2 y4 S r ho hF)
    · rw [if_neg c_18] at hF
      refine g_aload_n X dX5_readOne_20 1 rfl rfl ?_
      refine g_iconst (v := 1) X dX5_readOne_21 (by decide) ?_
      refine g_callVv (As := [.int (1 : Int32)]) X dX5_readOne_22 mlX5_45 (fun l D cyy => tX6_fail (cx_inj X) l D cyy a1 (1 : Int32) h1 S) h1 (by omega) rfl rfl (Nat.le_of_ble_eq_true rfl) ?_
      have hF := Option.some.inj hF
      subst hF
      exact g_vret X dX5_readOne_25 ho
theorem wRX5_readOne {z : Mx} {ad : Nat → Nat} {o : Option Value × St} {h hqX5_readCond hqX5_readOne : Nat} (RX5_readCond : Nat → Nat → Nat → Int32 → St → Option St) (RX5_readOne : Nat → Nat → Nat → Int32 → St → Option St) (X : CxOk z ad RX5 cX5_readOne 5 none h) (HX5_readCond : ∀ (l : Launch) (D : va_G) (cyy : Nat → ClassId) (a0 a1 a2 : Nat) (x3 : Int32), KT a0 = 5 → KT a1 = 6 → KT a2 = 8 → ∀ (S r : St), RX5_readCond a0 a1 a2 x3 S = some r → OkM l yX5_readCond cX5_readCond 5 none hqX5_readCond ad D cyy [.ref (ad a0), .ref (ad a1), .ref (ad a2), .int x3] S (none, r)) (hhX5_readCond : hqX5_readCond < h) (HX5_readOne : ∀ (l : Launch) (D : va_G) (cyy : Nat → ClassId) (a0 a1 a2 : Nat) (x3 : Int32), KT a0 = 5 → KT a1 = 6 → KT a2 = 8 → ∀ (S r : St), RX5_readOne a0 a1 a2 x3 S = some r → OkM l yX5_readOne cX5_readOne 5 none hqX5_readOne ad D cyy [.ref (ad a0), .ref (ad a1), .ref (ad a2), .int x3] S (none, r)) (hhX5_readOne : hqX5_readOne < h) (hb : 9 ≤ h) (hb2 : h < 1000) (a0 : Nat) (a1 : Nat) (a2 : Nat) (x3 : Int32) (h0 : KT a0 = 5) (h1 : KT a1 = 6) (h2 : KT a2 = 8) (S : St) (r : St) (ho : o = (none, r)) (hF : fRX5_readOne RX5_readCond RX5_readOne a0 a1 a2 x3 S = some r) : GW z ad o S 0 [(0, .ref (ad a0)), (1, .ref (ad a1)), (2, .ref (ad a2)), (3, .int x3)] [] := by
  unfold fRX5_readOne at hF
  refine g_aload_n X dX5_readOne_0 1 rfl rfl ?_
  refine g_callSi (As := [.ref (ad a1)]) X dX5_readOne_1 mlX5_69 (fun l D cyy => tX5_stepAt (cx_inj X) l D cyy a1 h1 S) (by omega) rfl rfl (Nat.le_of_ble_eq_true rfl) ?_
  refine g_istore X dX5_readOne_4 (by decide) (lv' := [(4, .int (fX5_stepAt a1 S)), (0, .ref (ad a0)), (1, .ref (ad a1)), (2, .ref (ad a2)), (3, .int x3)]) rfl ?_
  exact g_perm [1, 2, 3, 4, 0] rfl (wRX5_readOne_s6 RX5_readCond RX5_readOne X HX5_readCond hhX5_readCond HX5_readOne hhX5_readOne hb hb2 a0 a1 a2 x3 h0 h1 h2 (fX5_stepAt a1 S) S r ho hF)
theorem tRX5_readOne {ad : Nat → Nat} {h hqX5_readCond hqX5_readOne : Nat} (RX5_readCond : Nat → Nat → Nat → Int32 → St → Option St) (RX5_readOne : Nat → Nat → Nat → Int32 → St → Option St) (hI : Inj ad) (l : Launch) (D : va_G) (cyy : Nat → ClassId) (HX5_readCond : ∀ (l : Launch) (D : va_G) (cyy : Nat → ClassId) (a0 a1 a2 : Nat) (x3 : Int32), KT a0 = 5 → KT a1 = 6 → KT a2 = 8 → ∀ (S r : St), RX5_readCond a0 a1 a2 x3 S = some r → OkM l yX5_readCond cX5_readCond 5 none hqX5_readCond ad D cyy [.ref (ad a0), .ref (ad a1), .ref (ad a2), .int x3] S (none, r)) (hhX5_readCond : hqX5_readCond < h) (HX5_readOne : ∀ (l : Launch) (D : va_G) (cyy : Nat → ClassId) (a0 a1 a2 : Nat) (x3 : Int32), KT a0 = 5 → KT a1 = 6 → KT a2 = 8 → ∀ (S r : St), RX5_readOne a0 a1 a2 x3 S = some r → OkM l yX5_readOne cX5_readOne 5 none hqX5_readOne ad D cyy [.ref (ad a0), .ref (ad a1), .ref (ad a2), .int x3] S (none, r)) (hhX5_readOne : hqX5_readOne < h) (hb : 9 ≤ h) (hb2 : h < 1000) (a0 : Nat) (a1 : Nat) (a2 : Nat) (x3 : Int32) (h0 : KT a0 = 5) (h1 : KT a1 = 6) (h2 : KT a2 = 8) (S : St) (r : St) (hF : fRX5_readOne RX5_readCond RX5_readOne a0 a1 a2 x3 S = some r) : OkM l yX5_readOne cX5_readOne 5 none h ad D cyy [.ref (ad a0), .ref (ad a1), .ref (ad a2), .int x3] S (none, r) := okM_of hI (by decide) (inr_59 _ (List.mem_of_getElem? (i := 21) rfl)) (by show _ ≤ 5; exact Nat.le_of_ble_eq_true rfl) (fun z X => wRX5_readOne RX5_readCond RX5_readOne X HX5_readCond hhX5_readCond HX5_readOne hhX5_readOne hb hb2 a0 a1 a2 x3 h0 h1 h2 S r rfl hF)
