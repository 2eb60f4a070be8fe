theorem dX1_readFrom_0 : decode cX1_readFrom 0 = .ok (.aload_n 1, 1) := by decide +kernel
theorem dX1_readFrom_1 : decode cX1_readFrom 1 = .ok (.sipush 400, 3) := by decide +kernel
theorem dX1_readFrom_4 : decode cX1_readFrom 4 = .ok (.invokevirtual 18, 3) := by decide +kernel
theorem dX1_readFrom_7 : decode cX1_readFrom 7 = .ok (.aload_n 0, 1) := by decide +kernel
theorem dX1_readFrom_8 : decode cX1_readFrom 8 = .ok (.iconst 0, 1) := by decide +kernel
theorem dX1_readFrom_9 : decode cX1_readFrom 9 = .ok (.putfield 24, 3) := by decide +kernel
theorem dX1_readFrom_12 : decode cX1_readFrom 12 = .ok (.iconst 0, 1) := by decide +kernel
theorem dX1_readFrom_13 : decode cX1_readFrom 13 = .ok (.istore_n 3, 1) := by decide +kernel
theorem dX1_readFrom_14 : decode cX1_readFrom 14 = .ok (.iload_n 3, 1) := by decide +kernel
theorem dX1_readFrom_15 : decode cX1_readFrom 15 = .ok (.bipush 40, 2) := by decide +kernel
theorem dX1_readFrom_17 : decode cX1_readFrom 17 = .ok (.if_icmp .gt 28, 3) := by decide +kernel
theorem dX1_readFrom_20 : decode cX1_readFrom 20 = .ok (.aload_n 1, 1) := by decide +kernel
theorem dX1_readFrom_21 : decode cX1_readFrom 21 = .ok (.invokevirtual 28, 3) := by decide +kernel
theorem dX1_readFrom_24 : decode cX1_readFrom 24 = .ok (.ifCond .eq 21, 3) := by decide +kernel
theorem dX1_readFrom_27 : decode cX1_readFrom 27 = .ok (.aload_n 0, 1) := by decide +kernel
theorem dX1_readFrom_28 : decode cX1_readFrom 28 = .ok (.aload_n 1, 1) := by decide +kernel
theorem dX1_readFrom_29 : decode cX1_readFrom 29 = .ok (.aload_n 2, 1) := by decide +kernel
theorem dX1_readFrom_30 : decode cX1_readFrom 30 = .ok (.invokevirtual 32, 3) := by decide +kernel
theorem dX1_readFrom_33 : decode cX1_readFrom 33 = .ok (.aload_n 1, 1) := by decide +kernel
theorem dX1_readFrom_34 : decode cX1_readFrom 34 = .ok (.bipush 59, 2) := by decide +kernel
theorem dX1_readFrom_36 : decode cX1_readFrom 36 = .ok (.invokevirtual 36, 3) := by decide +kernel
theorem dX1_readFrom_39 : decode cX1_readFrom 39 = .ok (.iinc 3 1, 3) := by decide +kernel
theorem dX1_readFrom_42 : decode cX1_readFrom 42 = .ok (.goto (-28), 3) := by decide +kernel
theorem dX1_readFrom_45 : decode cX1_readFrom 45 = .ok (.return_, 1) := by decide +kernel
theorem dX1_readLine_0 : decode cX1_readLine 0 = .ok (.aload_n 1, 1) := by decide +kernel
theorem dX1_readLine_1 : decode cX1_readLine 1 = .ok (.ldc2_w 39, 3) := by decide +kernel
theorem dX1_readLine_4 : decode cX1_readLine 4 = .ok (.invokevirtual 41, 3) := by decide +kernel
theorem dX1_readLine_7 : decode cX1_readLine 7 = .ok (.istore_n 3, 1) := by decide +kernel
theorem dX1_readLine_8 : decode cX1_readLine 8 = .ok (.iload_n 3, 1) := by decide +kernel
theorem dX1_readLine_9 : decode cX1_readLine 9 = .ok (.ifCond .eq 7, 3) := by decide +kernel
theorem dX1_readLine_12 : decode cX1_readLine 12 = .ok (.iconst (-1), 1) := by decide +kernel
theorem dX1_readLine_13 : decode cX1_readLine 13 = .ok (.goto 8, 3) := by decide +kernel
theorem dX1_readLine_16 : decode cX1_readLine 16 = .ok (.aload_n 2, 1) := by decide +kernel
theorem dX1_readLine_17 : decode cX1_readLine 17 = .ok (.aload_n 1, 1) := by decide +kernel
theorem dX1_readLine_18 : decode cX1_readLine 18 = .ok (.invokevirtual 45, 3) := by decide +kernel
theorem dX1_readLine_21 : decode cX1_readLine 21 = .ok (.istore 4, 2) := by decide +kernel
theorem dX1_readLine_23 : decode cX1_readLine 23 = .ok (.iload_n 3, 1) := by decide +kernel
theorem dX1_readLine_24 : decode cX1_readLine 24 = .ok (.ifCond .ne 10, 3) := by decide +kernel
theorem dX1_readLine_27 : decode cX1_readLine 27 = .ok (.iload 4, 2) := by decide +kernel
theorem dX1_readLine_29 : decode cX1_readLine 29 = .ok (.iconst (-1), 1) := by decide +kernel
theorem dX1_readLine_30 : decode cX1_readLine 30 = .ok (.if_icmp .ne 4, 3) := by decide +kernel
theorem dX1_readLine_33 : decode cX1_readLine 33 = .ok (.return_, 1) := by decide +kernel
theorem dX1_readLine_34 : decode cX1_readLine 34 = .ok (.aload_n 0, 1) := by decide +kernel
theorem dX1_readLine_35 : decode cX1_readLine 35 = .ok (.getfield 24, 3) := by decide +kernel
theorem dX1_readLine_38 : decode cX1_readLine 38 = .ok (.bipush 40, 2) := by decide +kernel
theorem dX1_readLine_40 : decode cX1_readLine 40 = .ok (.if_icmp .lt 9, 3) := by decide +kernel
theorem dX1_readLine_43 : decode cX1_readLine 43 = .ok (.aload_n 1, 1) := by decide +kernel
theorem dX1_readLine_44 : decode cX1_readLine 44 = .ok (.iconst 4, 1) := by decide +kernel
theorem dX1_readLine_45 : decode cX1_readLine 45 = .ok (.invokevirtual 51, 3) := by decide +kernel
theorem dX1_readLine_48 : decode cX1_readLine 48 = .ok (.return_, 1) := by decide +kernel
theorem dX1_readLine_49 : decode cX1_readLine 49 = .ok (.aload_n 1, 1) := by decide +kernel
theorem dX1_readLine_50 : decode cX1_readLine 50 = .ok (.invokevirtual 54, 3) := by decide +kernel
theorem dX1_readLine_53 : decode cX1_readLine 53 = .ok (.aload_n 0, 1) := by decide +kernel
theorem dX1_readLine_54 : decode cX1_readLine 54 = .ok (.getfield 9, 3) := by decide +kernel
theorem dX1_readLine_57 : decode cX1_readLine 57 = .ok (.aload_n 0, 1) := by decide +kernel
theorem dX1_readLine_58 : decode cX1_readLine 58 = .ok (.getfield 24, 3) := by decide +kernel
theorem dX1_readLine_61 : decode cX1_readLine 61 = .ok (.iload 4, 2) := by decide +kernel
theorem dX1_readLine_63 : decode cX1_readLine 63 = .ok (.iastore, 1) := by decide +kernel
theorem dX1_readLine_64 : decode cX1_readLine 64 = .ok (.aload_n 0, 1) := by decide +kernel
theorem dX1_readLine_65 : decode cX1_readLine 65 = .ok (.getfield 15, 3) := by decide +kernel
theorem dX1_readLine_68 : decode cX1_readLine 68 = .ok (.aload_n 0, 1) := by decide +kernel
theorem dX1_readLine_69 : decode cX1_readLine 69 = .ok (.getfield 24, 3) := by decide +kernel
theorem dX1_readLine_72 : decode cX1_readLine 72 = .ok (.iload_n 3, 1) := by decide +kernel
theorem dX1_readLine_73 : decode cX1_readLine 73 = .ok (.ifCond .eq 14, 3) := by decide +kernel
theorem dX1_readLine_76 : decode cX1_readLine 76 = .ok (.aload_n 1, 1) := by decide +kernel
theorem dX1_readLine_77 : decode cX1_readLine 77 = .ok (.iconst 1, 1) := by decide +kernel
theorem dX1_readLine_78 : decode cX1_readLine 78 = .ok (.sipush 999, 3) := by decide +kernel
theorem dX1_readLine_81 : decode cX1_readLine 81 = .ok (.invokevirtual 57, 3) := by decide +kernel
theorem dX1_readLine_84 : decode cX1_readLine 84 = .ok (.goto 7, 3) := by decide +kernel
theorem dX1_readLine_87 : decode cX1_readLine 87 = .ok (.aload_n 1, 1) := by decide +kernel
theorem dX1_readLine_88 : decode cX1_readLine 88 = .ok (.invokestatic 61, 3) := by decide +kernel
theorem dX1_readLine_91 : decode cX1_readLine 91 = .ok (.iastore, 1) := by decide +kernel
theorem dX1_readLine_92 : decode cX1_readLine 92 = .ok (.aload_n 0, 1) := by decide +kernel
theorem dX1_readLine_93 : decode cX1_readLine 93 = .ok (.dup, 1) := by decide +kernel
theorem dX1_readLine_94 : decode cX1_readLine 94 = .ok (.getfield 24, 3) := by decide +kernel
theorem dX1_readLine_97 : decode cX1_readLine 97 = .ok (.iconst 1, 1) := by decide +kernel
theorem dX1_readLine_98 : decode cX1_readLine 98 = .ok (.iadd, 1) := by decide +kernel
theorem dX1_readLine_99 : decode cX1_readLine 99 = .ok (.putfield 24, 3) := by decide +kernel
theorem dX1_readLine_102 : decode cX1_readLine 102 = .ok (.return_, 1) := by decide +kernel
theorem dX1_readDeed_0 : decode cX1_readDeed 0 = .ok (.aload_n 0, 1) := by decide +kernel
theorem dX1_readDeed_1 : decode cX1_readDeed 1 = .ok (.ldc2_w 64, 3) := by decide +kernel
theorem dX1_readDeed_4 : decode cX1_readDeed 4 = .ok (.invokevirtual 41, 3) := by decide +kernel
theorem dX1_readDeed_7 : decode cX1_readDeed 7 = .ok (.ifCond .eq 15, 3) := by decide +kernel
theorem dX1_readDeed_10 : decode cX1_readDeed 10 = .ok (.aload_n 0, 1) := by decide +kernel
theorem dX1_readDeed_11 : decode cX1_readDeed 11 = .ok (.invokevirtual 54, 3) := by decide +kernel
theorem dX1_readDeed_14 : decode cX1_readDeed 14 = .ok (.aload_n 0, 1) := by decide +kernel
theorem dX1_readDeed_15 : decode cX1_readDeed 15 = .ok (.iconst 1, 1) := by decide +kernel
theorem dX1_readDeed_16 : decode cX1_readDeed 16 = .ok (.bipush 99, 2) := by decide +kernel
theorem dX1_readDeed_18 : decode cX1_readDeed 18 = .ok (.invokevirtual 57, 3) := by decide +kernel
theorem dX1_readDeed_21 : decode cX1_readDeed 21 = .ok (.ireturn, 1) := by decide +kernel
theorem dX1_readDeed_22 : decode cX1_readDeed 22 = .ok (.aload_n 0, 1) := by decide +kernel
theorem dX1_readDeed_23 : decode cX1_readDeed 23 = .ok (.ldc2_w 66, 3) := by decide +kernel
theorem dX1_readDeed_26 : decode cX1_readDeed 26 = .ok (.invokevirtual 41, 3) := by decide +kernel
theorem dX1_readDeed_29 : decode cX1_readDeed 29 = .ok (.ifCond .ne 8, 3) := by decide +kernel
theorem dX1_readDeed_32 : decode cX1_readDeed 32 = .ok (.aload_n 0, 1) := by decide +kernel
theorem dX1_readDeed_33 : decode cX1_readDeed 33 = .ok (.iconst 1, 1) := by decide +kernel
theorem dX1_readDeed_34 : decode cX1_readDeed 34 = .ok (.invokevirtual 51, 3) := by decide +kernel
theorem dX1_readDeed_37 : decode cX1_readDeed 37 = .ok (.aload_n 0, 1) := by decide +kernel
theorem dX1_readDeed_38 : decode cX1_readDeed 38 = .ok (.invokevirtual 54, 3) := by decide +kernel
theorem dX1_readDeed_41 : decode cX1_readDeed 41 = .ok (.iconst 0, 1) := by decide +kernel
theorem dX1_readDeed_42 : decode cX1_readDeed 42 = .ok (.ireturn, 1) := by decide +kernel
theorem dX1_judge_0 : decode cX1_judge 0 = .ok (.aload_n 0, 1) := by decide +kernel
theorem dX1_judge_1 : decode cX1_judge 1 = .ok (.iconst 1, 1) := by decide +kernel
theorem dX1_judge_2 : decode cX1_judge 2 = .ok (.putfield 68, 3) := by decide +kernel
theorem dX1_judge_5 : decode cX1_judge 5 = .ok (.aload_n 0, 1) := by decide +kernel
theorem dX1_judge_6 : decode cX1_judge 6 = .ok (.iconst 0, 1) := by decide +kernel
theorem dX1_judge_7 : decode cX1_judge 7 = .ok (.putfield 72, 3) := by decide +kernel
theorem dX1_judge_10 : decode cX1_judge 10 = .ok (.aload_n 0, 1) := by decide +kernel
theorem dX1_judge_11 : decode cX1_judge 11 = .ok (.iconst 0, 1) := by decide +kernel
theorem dX1_judge_12 : decode cX1_judge 12 = .ok (.putfield 75, 3) := by decide +kernel
theorem dX1_judge_15 : decode cX1_judge 15 = .ok (.aload_n 0, 1) := by decide +kernel
theorem dX1_judge_16 : decode cX1_judge 16 = .ok (.getfield 75, 3) := by decide +kernel
theorem dX1_judge_19 : decode cX1_judge 19 = .ok (.aload_n 0, 1) := by decide +kernel
theorem dX1_judge_20 : decode cX1_judge 20 = .ok (.getfield 24, 3) := by decide +kernel
theorem dX1_judge_23 : decode cX1_judge 23 = .ok (.if_icmp .ge 56, 3) := by decide +kernel
theorem dX1_judge_26 : decode cX1_judge 26 = .ok (.aload_n 0, 1) := by decide +kernel
theorem dX1_judge_27 : decode cX1_judge 27 = .ok (.getfield 72, 3) := by decide +kernel
theorem dX1_judge_30 : decode cX1_judge 30 = .ok (.ifCond .ne 49, 3) := by decide +kernel
theorem dX1_judge_33 : decode cX1_judge 33 = .ok (.aload_n 0, 1) := by decide +kernel
theorem dX1_judge_34 : decode cX1_judge 34 = .ok (.aload_n 1, 1) := by decide +kernel
theorem dX1_judge_35 : decode cX1_judge 35 = .ok (.aload_n 0, 1) := by decide +kernel
theorem dX1_judge_36 : decode cX1_judge 36 = .ok (.getfield 9, 3) := by decide +kernel
theorem dX1_judge_39 : decode cX1_judge 39 = .ok (.aload_n 0, 1) := by decide +kernel
theorem dX1_judge_40 : decode cX1_judge 40 = .ok (.getfield 75, 3) := by decide +kernel
theorem dX1_judge_43 : decode cX1_judge 43 = .ok (.iaload, 1) := by decide +kernel
theorem dX1_judge_44 : decode cX1_judge 44 = .ok (.aload_n 0, 1) := by decide +kernel
theorem dX1_judge_45 : decode cX1_judge 45 = .ok (.getfield 15, 3) := by decide +kernel
theorem dX1_judge_48 : decode cX1_judge 48 = .ok (.aload_n 0, 1) := by decide +kernel
theorem dX1_judge_49 : decode cX1_judge 49 = .ok (.getfield 75, 3) := by decide +kernel
theorem dX1_judge_52 : decode cX1_judge 52 = .ok (.iaload, 1) := by decide +kernel
theorem dX1_judge_53 : decode cX1_judge 53 = .ok (.invokestatic 78, 3) := by decide +kernel
theorem dX1_judge_56 : decode cX1_judge 56 = .ok (.putfield 72, 3) := by decide +kernel
theorem dX1_judge_59 : decode cX1_judge 59 = .ok (.aload_n 0, 1) := by decide +kernel
theorem dX1_judge_60 : decode cX1_judge 60 = .ok (.getfield 72, 3) := by decide +kernel
theorem dX1_judge_63 : decode cX1_judge 63 = .ok (.ifCond .ne (-48), 3) := by decide +kernel
theorem dX1_judge_66 : decode cX1_judge 66 = .ok (.aload_n 0, 1) := by decide +kernel
theorem dX1_judge_67 : decode cX1_judge 67 = .ok (.dup, 1) := by decide +kernel
theorem dX1_judge_68 : decode cX1_judge 68 = .ok (.getfield 75, 3) := by decide +kernel
theorem dX1_judge_71 : decode cX1_judge 71 = .ok (.iconst 1, 1) := by decide +kernel
theorem dX1_judge_72 : decode cX1_judge 72 = .ok (.iadd, 1) := by decide +kernel
theorem dX1_judge_73 : decode cX1_judge 73 = .ok (.putfield 75, 3) := by decide +kernel
theorem dX1_judge_76 : decode cX1_judge 76 = .ok (.goto (-61), 3) := by decide +kernel
theorem dX1_judge_79 : decode cX1_judge 79 = .ok (.aload_n 0, 1) := by decide +kernel
theorem dX1_judge_80 : decode cX1_judge 80 = .ok (.aload_n 1, 1) := by decide +kernel
theorem dX1_judge_81 : decode cX1_judge 81 = .ok (.getfield 82, 3) := by decide +kernel
theorem dX1_judge_84 : decode cX1_judge 84 = .ok (.putfield 87, 3) := by decide +kernel
theorem dX1_judge_87 : decode cX1_judge 87 = .ok (.aload_n 0, 1) := by decide +kernel
theorem dX1_judge_88 : decode cX1_judge 88 = .ok (.aload_n 1, 1) := by decide +kernel
theorem dX1_judge_89 : decode cX1_judge 89 = .ok (.getfield 90, 3) := by decide +kernel
theorem dX1_judge_92 : decode cX1_judge 92 = .ok (.putfield 93, 3) := by decide +kernel
theorem dX1_judge_95 : decode cX1_judge 95 = .ok (.aload_n 0, 1) := by decide +kernel
theorem dX1_judge_96 : decode cX1_judge 96 = .ok (.getfield 72, 3) := by decide +kernel
theorem dX1_judge_99 : decode cX1_judge 99 = .ok (.ifCond .ne 7, 3) := by decide +kernel
theorem dX1_judge_102 : decode cX1_judge 102 = .ok (.iconst (-1), 1) := by decide +kernel
theorem dX1_judge_103 : decode cX1_judge 103 = .ok (.goto 7, 3) := by decide +kernel
theorem dX1_judge_106 : decode cX1_judge 106 = .ok (.aload_n 0, 1) := by decide +kernel
theorem dX1_judge_107 : decode cX1_judge 107 = .ok (.getfield 75, 3) := by decide +kernel
theorem dX1_judge_110 : decode cX1_judge 110 = .ok (.ireturn, 1) := by decide +kernel
theorem dX1_live_0 : decode cX1_live 0 = .ok (.iload_n 1, 1) := by decide +kernel
theorem dX1_live_1 : decode cX1_live 1 = .ok (.iconst (-1), 1) := by decide +kernel
theorem dX1_live_2 : decode cX1_live 2 = .ok (.if_icmp .ne 22, 3) := by decide +kernel
theorem dX1_live_5 : decode cX1_live 5 = .ok (.iload_n 2, 1) := by decide +kernel
theorem dX1_live_6 : decode cX1_live 6 = .ok (.aload_n 0, 1) := by decide +kernel
theorem dX1_live_7 : decode cX1_live 7 = .ok (.invokevirtual 96, 3) := by decide +kernel
theorem dX1_live_10 : decode cX1_live 10 = .ok (.if_icmp .le 6, 3) := by decide +kernel
theorem dX1_live_13 : decode cX1_live 13 = .ok (.bipush 21, 2) := by decide +kernel
theorem dX1_live_15 : decode cX1_live 15 = .ok (.ireturn, 1) := by decide +kernel
theorem dX1_live_16 : decode cX1_live 16 = .ok (.aload_n 0, 1) := by decide +kernel
theorem dX1_live_17 : decode cX1_live 17 = .ok (.iload_n 2, 1) := by decide +kernel
theorem dX1_live_18 : decode cX1_live 18 = .ok (.invokevirtual 100, 3) := by decide +kernel
theorem dX1_live_21 : decode cX1_live 21 = .ok (.pop, 1) := by decide +kernel
theorem dX1_live_22 : decode cX1_live 22 = .ok (.iconst 0, 1) := by decide +kernel
theorem dX1_live_23 : decode cX1_live 23 = .ok (.ireturn, 1) := by decide +kernel
theorem dX1_live_24 : decode cX1_live 24 = .ok (.iload_n 2, 1) := by decide +kernel
theorem dX1_live_25 : decode cX1_live 25 = .ok (.ifCond .ne 17, 3) := by decide +kernel
theorem dX1_live_28 : decode cX1_live 28 = .ok (.aload_n 0, 1) := by decide +kernel
theorem dX1_live_29 : decode cX1_live 29 = .ok (.iload_n 1, 1) := by decide +kernel
theorem dX1_live_30 : decode cX1_live 30 = .ok (.invokevirtual 104, 3) := by decide +kernel
theorem dX1_live_33 : decode cX1_live 33 = .ok (.ifCond .ne 7, 3) := by decide +kernel
theorem dX1_live_36 : decode cX1_live 36 = .ok (.iconst 0, 1) := by decide +kernel
theorem dX1_live_37 : decode cX1_live 37 = .ok (.goto 4, 3) := by decide +kernel
theorem dX1_live_40 : decode cX1_live 40 = .ok (.iconst 1, 1) := by decide +kernel
theorem dX1_live_41 : decode cX1_live 41 = .ok (.ireturn, 1) := by decide +kernel
theorem dX1_live_42 : decode cX1_live 42 = .ok (.aload_n 0, 1) := by decide +kernel
theorem dX1_live_43 : decode cX1_live 43 = .ok (.iload_n 1, 1) := by decide +kernel
theorem dX1_live_44 : decode cX1_live 44 = .ok (.iload_n 2, 1) := by decide +kernel
theorem dX1_live_45 : decode cX1_live 45 = .ok (.invokevirtual 107, 3) := by decide +kernel
theorem dX1_live_48 : decode cX1_live 48 = .ok (.ifCond .ne 7, 3) := by decide +kernel
theorem dX1_live_51 : decode cX1_live 51 = .ok (.iconst 0, 1) := by decide +kernel
theorem dX1_live_52 : decode cX1_live 52 = .ok (.goto 5, 3) := by decide +kernel
theorem dX1_live_55 : decode cX1_live 55 = .ok (.bipush 11, 2) := by decide +kernel
theorem dX1_live_57 : decode cX1_live 57 = .ok (.ireturn, 1) := by decide +kernel
theorem dX5_isTrueOf_0 : decode cX5_isTrueOf 0 = .ok (.iconst 0, 1) := by decide +kernel
theorem dX5_isTrueOf_1 : decode cX5_isTrueOf 1 = .ok (.istore_n 3, 1) := by decide +kernel
theorem dX5_isTrueOf_2 : decode cX5_isTrueOf 2 = .ok (.iconst 0, 1) := by decide +kernel
theorem dX5_isTrueOf_3 : decode cX5_isTrueOf 3 = .ok (.istore 4, 2) := by decide +kernel
theorem dX5_isTrueOf_5 : decode cX5_isTrueOf 5 = .ok (.iload 4, 2) := by decide +kernel
theorem dX5_isTrueOf_7 : decode cX5_isTrueOf 7 = .ok (.aload_n 0, 1) := by decide +kernel
theorem dX5_isTrueOf_8 : decode cX5_isTrueOf 8 = .ok (.getfield 21, 3) := by decide +kernel
theorem dX5_isTrueOf_11 : decode cX5_isTrueOf 11 = .ok (.if_icmp .ge 93, 3) := by decide +kernel
theorem dX5_isTrueOf_14 : decode cX5_isTrueOf 14 = .ok (.aload_n 0, 1) := by decide +kernel
theorem dX5_isTrueOf_15 : decode cX5_isTrueOf 15 = .ok (.getfield 11, 3) := by decide +kernel
theorem dX5_isTrueOf_18 : decode cX5_isTrueOf 18 = .ok (.iload 4, 2) := by decide +kernel
theorem dX5_isTrueOf_20 : decode cX5_isTrueOf 20 = .ok (.iaload, 1) := by decide +kernel
theorem dX5_isTrueOf_21 : decode cX5_isTrueOf 21 = .ok (.iconst 1, 1) := by decide +kernel
theorem dX5_isTrueOf_22 : decode cX5_isTrueOf 22 = .ok (.if_icmp .ne 10, 3) := by decide +kernel
theorem dX5_isTrueOf_25 : decode cX5_isTrueOf 25 = .ok (.iload_n 3, 1) := by decide +kernel
theorem dX5_isTrueOf_26 : decode cX5_isTrueOf 26 = .ok (.iconst 1, 1) := by decide +kernel
theorem dX5_isTrueOf_27 : decode cX5_isTrueOf 27 = .ok (.ixor, 1) := by decide +kernel
theorem dX5_isTrueOf_28 : decode cX5_isTrueOf 28 = .ok (.istore_n 3, 1) := by decide +kernel
theorem dX5_isTrueOf_29 : decode cX5_isTrueOf 29 = .ok (.goto 69, 3) := by decide +kernel
theorem dX5_isTrueOf_32 : decode cX5_isTrueOf 32 = .ok (.aload_n 0, 1) := by decide +kernel
theorem dX5_isTrueOf_33 : decode cX5_isTrueOf 33 = .ok (.getfield 11, 3) := by decide +kernel
theorem dX5_isTrueOf_36 : decode cX5_isTrueOf 36 = .ok (.iload 4, 2) := by decide +kernel
theorem dX5_isTrueOf_38 : decode cX5_isTrueOf 38 = .ok (.iaload, 1) := by decide +kernel
theorem dX5_isTrueOf_39 : decode cX5_isTrueOf 39 = .ok (.iconst 2, 1) := by decide +kernel
theorem dX5_isTrueOf_40 : decode cX5_isTrueOf 40 = .ok (.if_icmp .ne 15, 3) := by decide +kernel
theorem dX5_isTrueOf_43 : decode cX5_isTrueOf 43 = .ok (.iload_n 3, 1) := by decide +kernel
theorem dX5_isTrueOf_44 : decode cX5_isTrueOf 44 = .ok (.iconst 1, 1) := by decide +kernel
theorem dX5_isTrueOf_45 : decode cX5_isTrueOf 45 = .ok (.ishr, 1) := by decide +kernel
theorem dX5_isTrueOf_46 : decode cX5_isTrueOf 46 = .ok (.iload_n 3, 1) := by decide +kernel
theorem dX5_isTrueOf_47 : decode cX5_isTrueOf 47 = .ok (.bipush (-2), 2) := by decide +kernel
theorem dX5_isTrueOf_49 : decode cX5_isTrueOf 49 = .ok (.ior, 1) := by decide +kernel
theorem dX5_isTrueOf_50 : decode cX5_isTrueOf 50 = .ok (.iand, 1) := by decide +kernel
theorem dX5_isTrueOf_51 : decode cX5_isTrueOf 51 = .ok (.istore_n 3, 1) := by decide +kernel
theorem dX5_isTrueOf_52 : decode cX5_isTrueOf 52 = .ok (.goto 46, 3) := by decide +kernel
theorem dX5_isTrueOf_55 : decode cX5_isTrueOf 55 = .ok (.aload_n 0, 1) := by decide +kernel
theorem dX5_isTrueOf_56 : decode cX5_isTrueOf 56 = .ok (.getfield 11, 3) := by decide +kernel
theorem dX5_isTrueOf_59 : decode cX5_isTrueOf 59 = .ok (.iload 4, 2) := by decide +kernel
theorem dX5_isTrueOf_61 : decode cX5_isTrueOf 61 = .ok (.iaload, 1) := by decide +kernel
theorem dX5_isTrueOf_62 : decode cX5_isTrueOf 62 = .ok (.iconst 3, 1) := by decide +kernel
theorem dX5_isTrueOf_63 : decode cX5_isTrueOf 63 = .ok (.if_icmp .ne 14, 3) := by decide +kernel
theorem dX5_isTrueOf_66 : decode cX5_isTrueOf 66 = .ok (.iload_n 3, 1) := by decide +kernel
theorem dX5_isTrueOf_67 : decode cX5_isTrueOf 67 = .ok (.iconst 1, 1) := by decide +kernel
theorem dX5_isTrueOf_68 : decode cX5_isTrueOf 68 = .ok (.ishr, 1) := by decide +kernel
theorem dX5_isTrueOf_69 : decode cX5_isTrueOf 69 = .ok (.iload_n 3, 1) := by decide +kernel
theorem dX5_isTrueOf_70 : decode cX5_isTrueOf 70 = .ok (.iconst 1, 1) := by decide +kernel
theorem dX5_isTrueOf_71 : decode cX5_isTrueOf 71 = .ok (.iand, 1) := by decide +kernel
theorem dX5_isTrueOf_72 : decode cX5_isTrueOf 72 = .ok (.ior, 1) := by decide +kernel
theorem dX5_isTrueOf_73 : decode cX5_isTrueOf 73 = .ok (.istore_n 3, 1) := by decide +kernel
theorem dX5_isTrueOf_74 : decode cX5_isTrueOf 74 = .ok (.goto 24, 3) := by decide +kernel
theorem dX5_isTrueOf_77 : decode cX5_isTrueOf 77 = .ok (.iload_n 3, 1) := by decide +kernel
theorem dX5_isTrueOf_78 : decode cX5_isTrueOf 78 = .ok (.iconst 1, 1) := by decide +kernel
theorem dX5_isTrueOf_79 : decode cX5_isTrueOf 79 = .ok (.ishl, 1) := by decide +kernel
theorem dX5_isTrueOf_80 : decode cX5_isTrueOf 80 = .ok (.aload_n 0, 1) := by decide +kernel
theorem dX5_isTrueOf_81 : decode cX5_isTrueOf 81 = .ok (.iload 4, 2) := by decide +kernel
theorem dX5_isTrueOf_83 : decode cX5_isTrueOf 83 = .ok (.aload_n 1, 1) := by decide +kernel
theorem dX5_isTrueOf_84 : decode cX5_isTrueOf 84 = .ok (.iload_n 2, 1) := by decide +kernel
theorem dX5_isTrueOf_85 : decode cX5_isTrueOf 85 = .ok (.invokevirtual 117, 3) := by decide +kernel
theorem dX5_isTrueOf_88 : decode cX5_isTrueOf 88 = .ok (.ifCond .eq 7, 3) := by decide +kernel
theorem dX5_isTrueOf_91 : decode cX5_isTrueOf 91 = .ok (.iconst 1, 1) := by decide +kernel
theorem dX5_isTrueOf_92 : decode cX5_isTrueOf 92 = .ok (.goto 4, 3) := by decide +kernel
theorem dX5_isTrueOf_95 : decode cX5_isTrueOf 95 = .ok (.iconst 0, 1) := by decide +kernel
theorem dX5_isTrueOf_96 : decode cX5_isTrueOf 96 = .ok (.ior, 1) := by decide +kernel
theorem dX5_isTrueOf_97 : decode cX5_isTrueOf 97 = .ok (.istore_n 3, 1) := by decide +kernel
theorem dX5_isTrueOf_98 : decode cX5_isTrueOf 98 = .ok (.iinc 4 1, 3) := by decide +kernel
theorem dX5_isTrueOf_101 : decode cX5_isTrueOf 101 = .ok (.goto (-96), 3) := by decide +kernel
theorem dX5_isTrueOf_104 : decode cX5_isTrueOf 104 = .ok (.iload_n 3, 1) := by decide +kernel
theorem dX5_isTrueOf_105 : decode cX5_isTrueOf 105 = .ok (.iconst 1, 1) := by decide +kernel
theorem dX5_isTrueOf_106 : decode cX5_isTrueOf 106 = .ok (.iand, 1) := by decide +kernel
theorem dX5_isTrueOf_107 : decode cX5_isTrueOf 107 = .ok (.iconst 1, 1) := by decide +kernel
theorem dX5_isTrueOf_108 : decode cX5_isTrueOf 108 = .ok (.if_icmp .ne 7, 3) := by decide +kernel
theorem dX5_isTrueOf_111 : decode cX5_isTrueOf 111 = .ok (.iconst 1, 1) := by decide +kernel
theorem dX5_isTrueOf_112 : decode cX5_isTrueOf 112 = .ok (.goto 4, 3) := by decide +kernel
theorem dX5_isTrueOf_115 : decode cX5_isTrueOf 115 = .ok (.iconst 0, 1) := by decide +kernel
theorem dX5_isTrueOf_116 : decode cX5_isTrueOf 116 = .ok (.ireturn, 1) := by decide +kernel
theorem dX5_isSo_0 : decode cX5_isSo 0 = .ok (.aload_n 0, 1) := by decide +kernel
theorem dX5_isSo_1 : decode cX5_isSo 1 = .ok (.getfield 18, 3) := by decide +kernel
theorem dX5_isSo_4 : decode cX5_isSo 4 = .ok (.iload_n 1, 1) := by decide +kernel
theorem dX5_isSo_5 : decode cX5_isSo 5 = .ok (.iaload, 1) := by decide +kernel
theorem dX5_isSo_6 : decode cX5_isSo 6 = .ok (.istore 4, 2) := by decide +kernel
theorem dX5_isSo_8 : decode cX5_isSo 8 = .ok (.aload_n 0, 1) := by decide +kernel
theorem dX5_isSo_9 : decode cX5_isSo 9 = .ok (.getfield 11, 3) := by decide +kernel
theorem dX5_isSo_12 : decode cX5_isSo 12 = .ok (.iload_n 1, 1) := by decide +kernel
theorem dX5_isSo_13 : decode cX5_isSo 13 = .ok (.iaload, 1) := by decide +kernel
theorem dX5_isSo_14 : decode cX5_isSo 14 = .ok (.tableswitch 173 4 12 #[50, 72, 81, 126, 173, 173, 173, 173, 160], 50) := by decide +kernel
theorem dX5_isSo_64 : decode cX5_isSo 64 = .ok (.aload_n 2, 1) := by decide +kernel
theorem dX5_isSo_65 : decode cX5_isSo 65 = .ok (.getfield 121, 3) := by decide +kernel
theorem dX5_isSo_68 : decode cX5_isSo 68 = .ok (.getfield 127, 3) := by decide +kernel
theorem dX5_isSo_71 : decode cX5_isSo 71 = .ok (.iload_n 3, 1) := by decide +kernel
theorem dX5_isSo_72 : decode cX5_isSo 72 = .ok (.aaload, 1) := by decide +kernel
theorem dX5_isSo_73 : decode cX5_isSo 73 = .ok (.aload_n 2, 1) := by decide +kernel
theorem dX5_isSo_74 : decode cX5_isSo 74 = .ok (.getfield 131, 3) := by decide +kernel
theorem dX5_isSo_77 : decode cX5_isSo 77 = .ok (.getfield 135, 3) := by decide +kernel
theorem dX5_isSo_80 : decode cX5_isSo 80 = .ok (.iload_n 3, 1) := by decide +kernel
theorem dX5_isSo_81 : decode cX5_isSo 81 = .ok (.iaload, 1) := by decide +kernel
theorem dX5_isSo_82 : decode cX5_isSo 82 = .ok (.invokevirtual 140, 3) := by decide +kernel
theorem dX5_isSo_85 : decode cX5_isSo 85 = .ok (.ireturn, 1) := by decide +kernel
theorem dX5_isSo_86 : decode cX5_isSo 86 = .ok (.aload_n 2, 1) := by decide +kernel
theorem dX5_isSo_87 : decode cX5_isSo 87 = .ok (.getfield 131, 3) := by decide +kernel
theorem dX5_isSo_90 : decode cX5_isSo 90 = .ok (.iload_n 3, 1) := by decide +kernel
theorem dX5_isSo_91 : decode cX5_isSo 91 = .ok (.invokevirtual 146, 3) := by decide +kernel
theorem dX5_isSo_94 : decode cX5_isSo 94 = .ok (.ireturn, 1) := by decide +kernel
theorem dX5_isSo_95 : decode cX5_isSo 95 = .ok (.aload_n 2, 1) := by decide +kernel
theorem dX5_isSo_96 : decode cX5_isSo 96 = .ok (.getfield 121, 3) := by decide +kernel
theorem dX5_isSo_99 : decode cX5_isSo 99 = .ok (.iload 4, 2) := by decide +kernel
theorem dX5_isSo_101 : decode cX5_isSo 101 = .ok (.invokevirtual 149, 3) := by decide +kernel
theorem dX5_isSo_104 : decode cX5_isSo 104 = .ok (.ifCond .eq 34, 3) := by decide +kernel
theorem dX5_isSo_107 : decode cX5_isSo 107 = .ok (.aload_n 2, 1) := by decide +kernel
theorem dX5_isSo_108 : decode cX5_isSo 108 = .ok (.getfield 121, 3) := by decide +kernel
theorem dX5_isSo_111 : decode cX5_isSo 111 = .ok (.getfield 152, 3) := by decide +kernel
theorem dX5_isSo_114 : decode cX5_isSo 114 = .ok (.iload 4, 2) := by decide +kernel
theorem dX5_isSo_116 : decode cX5_isSo 116 = .ok (.aaload, 1) := by decide +kernel
theorem dX5_isSo_117 : decode cX5_isSo 117 = .ok (.getfield 156, 3) := by decide +kernel
theorem dX5_isSo_120 : decode cX5_isSo 120 = .ok (.iload_n 3, 1) := by decide +kernel
theorem dX5_isSo_121 : decode cX5_isSo 121 = .ok (.if_icmp .ne 17, 3) := by decide +kernel
theorem dX5_isSo_124 : decode cX5_isSo 124 = .ok (.aload_n 2, 1) := by decide +kernel
theorem dX5_isSo_125 : decode cX5_isSo 125 = .ok (.iload 4, 2) := by decide +kernel
theorem dX5_isSo_127 : decode cX5_isSo 127 = .ok (.iconst 0, 1) := by decide +kernel
theorem dX5_isSo_128 : decode cX5_isSo 128 = .ok (.invokevirtual 160, 3) := by decide +kernel
theorem dX5_isSo_131 : decode cX5_isSo 131 = .ok (.ifCond .eq 7, 3) := by decide +kernel
theorem dX5_isSo_134 : decode cX5_isSo 134 = .ok (.iconst 1, 1) := by decide +kernel
theorem dX5_isSo_135 : decode cX5_isSo 135 = .ok (.goto 4, 3) := by decide +kernel
theorem dX5_isSo_138 : decode cX5_isSo 138 = .ok (.iconst 0, 1) := by decide +kernel
theorem dX5_isSo_139 : decode cX5_isSo 139 = .ok (.ireturn, 1) := by decide +kernel
theorem dX5_isSo_140 : decode cX5_isSo 140 = .ok (.aload_n 2, 1) := by decide +kernel
theorem dX5_isSo_141 : decode cX5_isSo 141 = .ok (.getfield 121, 3) := by decide +kernel
theorem dX5_isSo_144 : decode cX5_isSo 144 = .ok (.iload 4, 2) := by decide +kernel
theorem dX5_isSo_146 : decode cX5_isSo 146 = .ok (.invokevirtual 164, 3) := by decide +kernel
theorem dX5_isSo_149 : decode cX5_isSo 149 = .ok (.ifCond .eq 23, 3) := by decide +kernel
theorem dX5_isSo_152 : decode cX5_isSo 152 = .ok (.aload_n 2, 1) := by decide +kernel
theorem dX5_isSo_153 : decode cX5_isSo 153 = .ok (.iload 4, 2) := by decide +kernel
theorem dX5_isSo_155 : decode cX5_isSo 155 = .ok (.iconst 0, 1) := by decide +kernel
theorem dX5_isSo_156 : decode cX5_isSo 156 = .ok (.invokevirtual 167, 3) := by decide +kernel
theorem dX5_isSo_159 : decode cX5_isSo 159 = .ok (.aload_n 2, 1) := by decide +kernel
theorem dX5_isSo_160 : decode cX5_isSo 160 = .ok (.iload_n 3, 1) := by decide +kernel
theorem dX5_isSo_161 : decode cX5_isSo 161 = .ok (.iconst 0, 1) := by decide +kernel
theorem dX5_isSo_162 : decode cX5_isSo 162 = .ok (.invokevirtual 167, 3) := by decide +kernel
theorem dX5_isSo_165 : decode cX5_isSo 165 = .ok (.if_icmp .ne 7, 3) := by decide +kernel
theorem dX5_isSo_168 : decode cX5_isSo 168 = .ok (.iconst 1, 1) := by decide +kernel
theorem dX5_isSo_169 : decode cX5_isSo 169 = .ok (.goto 4, 3) := by decide +kernel
theorem dX5_isSo_172 : decode cX5_isSo 172 = .ok (.iconst 0, 1) := by decide +kernel
theorem dX5_isSo_173 : decode cX5_isSo 173 = .ok (.ireturn, 1) := by decide +kernel
theorem dX5_isSo_174 : decode cX5_isSo 174 = .ok (.iload_n 3, 1) := by decide +kernel
theorem dX5_isSo_175 : decode cX5_isSo 175 = .ok (.aload_n 0, 1) := by decide +kernel
theorem dX5_isSo_176 : decode cX5_isSo 176 = .ok (.getfield 15, 3) := by decide +kernel
theorem dX5_isSo_179 : decode cX5_isSo 179 = .ok (.iload_n 1, 1) := by decide +kernel
theorem dX5_isSo_180 : decode cX5_isSo 180 = .ok (.iaload, 1) := by decide +kernel
theorem dX5_isSo_181 : decode cX5_isSo 181 = .ok (.iload 4, 2) := by decide +kernel
theorem dX5_isSo_183 : decode cX5_isSo 183 = .ok (.invokestatic 170, 3) := by decide +kernel
theorem dX5_isSo_186 : decode cX5_isSo 186 = .ok (.ireturn, 1) := by decide +kernel
theorem dX5_isSo_187 : decode cX5_isSo 187 = .ok (.aload_n 2, 1) := by decide +kernel
theorem dX5_isSo_188 : decode cX5_isSo 188 = .ok (.getfield 121, 3) := by decide +kernel
theorem dX5_isSo_191 : decode cX5_isSo 191 = .ok (.getfield 127, 3) := by decide +kernel
theorem dX5_isSo_194 : decode cX5_isSo 194 = .ok (.iload_n 3, 1) := by decide +kernel
theorem dX5_isSo_195 : decode cX5_isSo 195 = .ok (.aaload, 1) := by decide +kernel
theorem dX5_isSo_196 : decode cX5_isSo 196 = .ok (.aload_n 2, 1) := by decide +kernel
theorem dX5_isSo_197 : decode cX5_isSo 197 = .ok (.getfield 131, 3) := by decide +kernel
theorem dX5_isSo_200 : decode cX5_isSo 200 = .ok (.getfield 135, 3) := by decide +kernel
theorem dX5_isSo_203 : decode cX5_isSo 203 = .ok (.iload_n 3, 1) := by decide +kernel
theorem dX5_isSo_204 : decode cX5_isSo 204 = .ok (.iaload, 1) := by decide +kernel
theorem dX5_isSo_205 : decode cX5_isSo 205 = .ok (.aload_n 0, 1) := by decide +kernel
theorem dX5_isSo_206 : decode cX5_isSo 206 = .ok (.getfield 11, 3) := by decide +kernel
theorem dX5_isSo_209 : decode cX5_isSo 209 = .ok (.iload_n 1, 1) := by decide +kernel
theorem dX5_isSo_210 : decode cX5_isSo 210 = .ok (.iaload, 1) := by decide +kernel
theorem dX5_isSo_211 : decode cX5_isSo 211 = .ok (.bipush 8, 2) := by decide +kernel
theorem dX5_isSo_213 : decode cX5_isSo 213 = .ok (.isub, 1) := by decide +kernel
theorem dX5_isSo_214 : decode cX5_isSo 214 = .ok (.invokevirtual 174, 3) := by decide +kernel
theorem dX5_isSo_217 : decode cX5_isSo 217 = .ok (.aload_n 0, 1) := by decide +kernel
theorem dX5_isSo_218 : decode cX5_isSo 218 = .ok (.getfield 15, 3) := by decide +kernel
theorem dX5_isSo_221 : decode cX5_isSo 221 = .ok (.iload_n 1, 1) := by decide +kernel
theorem dX5_isSo_222 : decode cX5_isSo 222 = .ok (.iaload, 1) := by decide +kernel
theorem dX5_isSo_223 : decode cX5_isSo 223 = .ok (.iload 4, 2) := by decide +kernel
theorem dX5_isSo_225 : decode cX5_isSo 225 = .ok (.invokestatic 170, 3) := by decide +kernel
theorem dX5_isSo_228 : decode cX5_isSo 228 = .ok (.ireturn, 1) := by decide +kernel
theorem dX7_has_0 : decode cX7_has 0 = .ok (.iload_n 1, 1) := by decide +kernel
theorem dX7_has_1 : decode cX7_has 1 = .ok (.ifCond .lt 24, 3) := by decide +kernel
theorem dX7_has_4 : decode cX7_has 4 = .ok (.iload_n 1, 1) := by decide +kernel
theorem dX7_has_5 : decode cX7_has 5 = .ok (.aload_n 0, 1) := by decide +kernel
theorem dX7_has_6 : decode cX7_has 6 = .ok (.getfield 15, 3) := by decide +kernel
theorem dX7_has_9 : decode cX7_has 9 = .ok (.if_icmp .ge 16, 3) := by decide +kernel
theorem dX7_has_12 : decode cX7_has 12 = .ok (.iload_n 1, 1) := by decide +kernel
theorem dX7_has_13 : decode cX7_has 13 = .ok (.aload_n 0, 1) := by decide +kernel
theorem dX7_has_14 : decode cX7_has 14 = .ok (.getfield 9, 3) := by decide +kernel
theorem dX7_has_17 : decode cX7_has 17 = .ok (.arraylength, 1) := by decide +kernel
theorem dX7_has_18 : decode cX7_has 18 = .ok (.if_icmp .ge 7, 3) := by decide +kernel
theorem dX7_has_21 : decode cX7_has 21 = .ok (.iconst 1, 1) := by decide +kernel
theorem dX7_has_22 : decode cX7_has 22 = .ok (.goto 4, 3) := by decide +kernel
theorem dX7_has_25 : decode cX7_has 25 = .ok (.iconst 0, 1) := by decide +kernel
theorem dX7_has_26 : decode cX7_has 26 = .ok (.ireturn, 1) := by decide +kernel
theorem dX7_write_0 : decode cX7_write 0 = .ok (.aload_n 1, 1) := by decide +kernel
theorem dX7_write_1 : decode cX7_write 1 = .ok (.getfield 19, 3) := by decide +kernel
theorem dX7_write_4 : decode cX7_write 4 = .ok (.getfield 25, 3) := by decide +kernel
theorem dX7_write_7 : decode cX7_write 7 = .ok (.iload_n 2, 1) := by decide +kernel
theorem dX7_write_8 : decode cX7_write 8 = .ok (.aaload, 1) := by decide +kernel
theorem dX7_write_9 : decode cX7_write 9 = .ok (.astore_n 3, 1) := by decide +kernel
theorem dX7_write_10 : decode cX7_write 10 = .ok (.aload_n 1, 1) := by decide +kernel
theorem dX7_write_11 : decode cX7_write 11 = .ok (.getfield 31, 3) := by decide +kernel
theorem dX7_write_14 : decode cX7_write 14 = .ok (.getfield 35, 3) := by decide +kernel
theorem dX7_write_17 : decode cX7_write 17 = .ok (.iload_n 2, 1) := by decide +kernel
theorem dX7_write_18 : decode cX7_write 18 = .ok (.iaload, 1) := by decide +kernel
theorem dX7_write_19 : decode cX7_write 19 = .ok (.istore 4, 2) := by decide +kernel
theorem dX7_write_21 : decode cX7_write 21 = .ok (.aload_n 0, 1) := by decide +kernel
theorem dX7_write_22 : decode cX7_write 22 = .ok (.iconst 0, 1) := by decide +kernel
theorem dX7_write_23 : decode cX7_write 23 = .ok (.putfield 15, 3) := by decide +kernel
theorem dX7_write_26 : decode cX7_write 26 = .ok (.aload_n 0, 1) := by decide +kernel
theorem dX7_write_27 : decode cX7_write 27 = .ok (.aload_n 3, 1) := by decide +kernel
theorem dX7_write_28 : decode cX7_write 28 = .ok (.getfield 41, 3) := by decide +kernel
theorem dX7_write_31 : decode cX7_write 31 = .ok (.invokevirtual 47, 3) := by decide +kernel
theorem dX7_write_34 : decode cX7_write 34 = .ok (.aload_n 0, 1) := by decide +kernel
theorem dX7_write_35 : decode cX7_write 35 = .ok (.ldc 51, 2) := by decide +kernel
theorem dX7_write_37 : decode cX7_write 37 = .ok (.invokevirtual 53, 3) := by decide +kernel
theorem dX7_write_40 : decode cX7_write 40 = .ok (.aload_n 0, 1) := by decide +kernel
theorem dX7_write_41 : decode cX7_write 41 = .ok (.aload_n 3, 1) := by decide +kernel
theorem dX7_write_42 : decode cX7_write 42 = .ok (.iload 4, 2) := by decide +kernel
theorem dX7_write_44 : decode cX7_write 44 = .ok (.iconst 0, 1) := by decide +kernel
theorem dX7_write_45 : decode cX7_write 45 = .ok (.invokevirtual 57, 3) := by decide +kernel
theorem dX7_write_48 : decode cX7_write 48 = .ok (.invokevirtual 61, 3) := by decide +kernel
theorem dX7_write_51 : decode cX7_write 51 = .ok (.aload_n 3, 1) := by decide +kernel
theorem dX7_write_52 : decode cX7_write 52 = .ok (.iload 4, 2) := by decide +kernel
theorem dX7_write_54 : decode cX7_write 54 = .ok (.invokevirtual 65, 3) := by decide +kernel
theorem dX7_write_57 : decode cX7_write 57 = .ok (.ifCond .eq 12, 3) := by decide +kernel
theorem dX7_write_60 : decode cX7_write 60 = .ok (.aload_n 0, 1) := by decide +kernel
theorem dX7_write_61 : decode cX7_write 61 = .ok (.ldc 69, 2) := by decide +kernel
theorem dX7_write_63 : decode cX7_write 63 = .ok (.invokevirtual 53, 3) := by decide +kernel
theorem dX7_write_66 : decode cX7_write 66 = .ok (.goto 26, 3) := by decide +kernel
theorem dX7_write_69 : decode cX7_write 69 = .ok (.aload_n 0, 1) := by decide +kernel
theorem dX7_write_70 : decode cX7_write 70 = .ok (.ldc 71, 2) := by decide +kernel
theorem dX7_write_72 : decode cX7_write 72 = .ok (.invokevirtual 53, 3) := by decide +kernel
theorem dX7_write_75 : decode cX7_write 75 = .ok (.aload_n 0, 1) := by decide +kernel
theorem dX7_write_76 : decode cX7_write 76 = .ok (.aload_n 3, 1) := by decide +kernel
theorem dX7_write_77 : decode cX7_write 77 = .ok (.iload 4, 2) := by decide +kernel
theorem dX7_write_79 : decode cX7_write 79 = .ok (.iconst 1, 1) := by decide +kernel
theorem dX7_write_80 : decode cX7_write 80 = .ok (.invokevirtual 57, 3) := by decide +kernel
theorem dX7_write_83 : decode cX7_write 83 = .ok (.invokevirtual 61, 3) := by decide +kernel
theorem dX7_write_86 : decode cX7_write 86 = .ok (.aload_n 0, 1) := by decide +kernel
theorem dX7_write_87 : decode cX7_write 87 = .ok (.ldc 73, 2) := by decide +kernel
theorem dX7_write_89 : decode cX7_write 89 = .ok (.invokevirtual 53, 3) := by decide +kernel
theorem dX7_write_92 : decode cX7_write 92 = .ok (.aload_n 0, 1) := by decide +kernel
theorem dX7_write_93 : decode cX7_write 93 = .ok (.aload_n 3, 1) := by decide +kernel
theorem dX7_write_94 : decode cX7_write 94 = .ok (.iload 4, 2) := by decide +kernel
theorem dX7_write_96 : decode cX7_write 96 = .ok (.iconst 2, 1) := by decide +kernel
theorem dX7_write_97 : decode cX7_write 97 = .ok (.invokevirtual 57, 3) := by decide +kernel
theorem dX7_write_100 : decode cX7_write 100 = .ok (.invokevirtual 61, 3) := by decide +kernel
theorem dX7_write_103 : decode cX7_write 103 = .ok (.aload_n 1, 1) := by decide +kernel
theorem dX7_write_104 : decode cX7_write 104 = .ok (.getfield 31, 3) := by decide +kernel
theorem dX7_write_107 : decode cX7_write 107 = .ok (.iload_n 2, 1) := by decide +kernel
theorem dX7_write_108 : decode cX7_write 108 = .ok (.invokevirtual 75, 3) := by decide +kernel
theorem dX7_write_111 : decode cX7_write 111 = .ok (.ifCond .eq 9, 3) := by decide +kernel
theorem dX7_write_114 : decode cX7_write 114 = .ok (.aload_n 0, 1) := by decide +kernel
theorem dX7_write_115 : decode cX7_write 115 = .ok (.ldc 78, 2) := by decide +kernel
theorem dX7_write_117 : decode cX7_write 117 = .ok (.invokevirtual 53, 3) := by decide +kernel
theorem dX7_write_120 : decode cX7_write 120 = .ok (.return_, 1) := by decide +kernel
theorem dX7_addByte_0 : decode cX7_addByte 0 = .ok (.aload_n 0, 1) := by decide +kernel
theorem dX7_addByte_1 : decode cX7_addByte 1 = .ok (.getfield 15, 3) := by decide +kernel
theorem dX7_addByte_4 : decode cX7_addByte 4 = .ok (.aload_n 0, 1) := by decide +kernel
theorem dX7_addByte_5 : decode cX7_addByte 5 = .ok (.getfield 9, 3) := by decide +kernel
theorem dX7_addByte_8 : decode cX7_addByte 8 = .ok (.arraylength, 1) := by decide +kernel
theorem dX7_addByte_9 : decode cX7_addByte 9 = .ok (.if_icmp .ge 24, 3) := by decide +kernel
theorem dX7_addByte_12 : decode cX7_addByte 12 = .ok (.aload_n 0, 1) := by decide +kernel
theorem dX7_addByte_13 : decode cX7_addByte 13 = .ok (.getfield 9, 3) := by decide +kernel
theorem dX7_addByte_16 : decode cX7_addByte 16 = .ok (.aload_n 0, 1) := by decide +kernel
theorem dX7_addByte_17 : decode cX7_addByte 17 = .ok (.getfield 15, 3) := by decide +kernel
theorem dX7_addByte_20 : decode cX7_addByte 20 = .ok (.iload_n 1, 1) := by decide +kernel
theorem dX7_addByte_21 : decode cX7_addByte 21 = .ok (.i2b, 1) := by decide +kernel
theorem dX7_addByte_22 : decode cX7_addByte 22 = .ok (.bastore, 1) := by decide +kernel
theorem dX7_addByte_23 : decode cX7_addByte 23 = .ok (.aload_n 0, 1) := by decide +kernel
theorem dX7_addByte_24 : decode cX7_addByte 24 = .ok (.dup, 1) := by decide +kernel
theorem dX7_addByte_25 : decode cX7_addByte 25 = .ok (.getfield 15, 3) := by decide +kernel
theorem dX7_addByte_28 : decode cX7_addByte 28 = .ok (.iconst 1, 1) := by decide +kernel
theorem dX7_addByte_29 : decode cX7_addByte 29 = .ok (.iadd, 1) := by decide +kernel
theorem dX7_addByte_30 : decode cX7_addByte 30 = .ok (.putfield 15, 3) := by decide +kernel
theorem dX7_addByte_33 : decode cX7_addByte 33 = .ok (.return_, 1) := by decide +kernel
theorem dX7_addName_0 : decode cX7_addName 0 = .ok (.bipush 48, 2) := by decide +kernel
theorem dX7_addName_2 : decode cX7_addName 2 = .ok (.istore_n 3, 1) := by decide +kernel
theorem dX7_addName_3 : decode cX7_addName 3 = .ok (.iload_n 3, 1) := by decide +kernel
theorem dX7_addName_4 : decode cX7_addName 4 = .ok (.ifCond .lt 30, 3) := by decide +kernel
theorem dX7_addName_7 : decode cX7_addName 7 = .ok (.lload_n 1, 1) := by decide +kernel
theorem dX7_addName_8 : decode cX7_addName 8 = .ok (.iload_n 3, 1) := by decide +kernel
theorem dX7_addName_9 : decode cX7_addName 9 = .ok (.lshr, 1) := by decide +kernel
theorem dX7_addName_10 : decode cX7_addName 10 = .ok (.l2i, 1) := by decide +kernel
theorem dX7_addName_11 : decode cX7_addName 11 = .ok (.sipush 255, 3) := by decide +kernel
theorem dX7_addName_14 : decode cX7_addName 14 = .ok (.iand, 1) := by decide +kernel
theorem dX7_addName_15 : decode cX7_addName 15 = .ok (.istore 4, 2) := by decide +kernel
theorem dX7_addName_17 : decode cX7_addName 17 = .ok (.iload 4, 2) := by decide +kernel
theorem dX7_addName_19 : decode cX7_addName 19 = .ok (.ifCond .eq 9, 3) := by decide +kernel
theorem dX7_addName_22 : decode cX7_addName 22 = .ok (.aload_n 0, 1) := by decide +kernel
theorem dX7_addName_23 : decode cX7_addName 23 = .ok (.iload 4, 2) := by decide +kernel
theorem dX7_addName_25 : decode cX7_addName 25 = .ok (.invokevirtual 80, 3) := by decide +kernel
theorem dX7_addName_28 : decode cX7_addName 28 = .ok (.iinc 3 (-8), 3) := by decide +kernel
theorem dX7_addName_31 : decode cX7_addName 31 = .ok (.goto (-28), 3) := by decide +kernel
theorem dX7_addName_34 : decode cX7_addName 34 = .ok (.return_, 1) := by decide +kernel
theorem dX7_addText_0 : decode cX7_addText 0 = .ok (.iconst 0, 1) := by decide +kernel
theorem dX7_addText_1 : decode cX7_addText 1 = .ok (.istore_n 2, 1) := by decide +kernel
theorem dX7_addText_2 : decode cX7_addText 2 = .ok (.iload_n 2, 1) := by decide +kernel
theorem dX7_addText_3 : decode cX7_addText 3 = .ok (.aload_n 1, 1) := by decide +kernel
theorem dX7_addText_4 : decode cX7_addText 4 = .ok (.invokevirtual 83, 3) := by decide +kernel
theorem dX7_addText_7 : decode cX7_addText 7 = .ok (.if_icmp .ge 18, 3) := by decide +kernel
theorem dX7_addText_10 : decode cX7_addText 10 = .ok (.aload_n 0, 1) := by decide +kernel
theorem dX7_addText_11 : decode cX7_addText 11 = .ok (.aload_n 1, 1) := by decide +kernel
theorem dX7_addText_12 : decode cX7_addText 12 = .ok (.iload_n 2, 1) := by decide +kernel
theorem dX7_addText_13 : decode cX7_addText 13 = .ok (.invokevirtual 88, 3) := by decide +kernel
theorem dX7_addText_16 : decode cX7_addText 16 = .ok (.invokevirtual 80, 3) := by decide +kernel
theorem dX7_addText_19 : decode cX7_addText 19 = .ok (.iinc 2 1, 3) := by decide +kernel
theorem dX7_addText_22 : decode cX7_addText 22 = .ok (.goto (-20), 3) := by decide +kernel
theorem dX7_addText_25 : decode cX7_addText 25 = .ok (.return_, 1) := by decide +kernel
theorem dX7_addFigure_0 : decode cX7_addFigure 0 = .ok (.ldc 92, 2) := by decide +kernel
theorem dX7_addFigure_2 : decode cX7_addFigure 2 = .ok (.istore_n 2, 1) := by decide +kernel
theorem dX7_addFigure_3 : decode cX7_addFigure 3 = .ok (.iload_n 2, 1) := by decide +kernel
theorem dX7_addFigure_4 : decode cX7_addFigure 4 = .ok (.iconst 1, 1) := by decide +kernel
theorem dX7_addFigure_5 : decode cX7_addFigure 5 = .ok (.if_icmp .lt 34, 3) := by decide +kernel
theorem dX7_addFigure_8 : decode cX7_addFigure 8 = .ok (.iload_n 1, 1) := by decide +kernel
theorem dX7_addFigure_9 : decode cX7_addFigure 9 = .ok (.iload_n 2, 1) := by decide +kernel
theorem dX7_addFigure_10 : decode cX7_addFigure 10 = .ok (.if_icmp .ge 8, 3) := by decide +kernel
theorem dX7_addFigure_13 : decode cX7_addFigure 13 = .ok (.iload_n 2, 1) := by decide +kernel
theorem dX7_addFigure_14 : decode cX7_addFigure 14 = .ok (.iconst 1, 1) := by decide +kernel
theorem dX7_addFigure_15 : decode cX7_addFigure 15 = .ok (.if_icmp .ne 16, 3) := by decide +kernel
theorem dX7_addFigure_18 : decode cX7_addFigure 18 = .ok (.aload_n 0, 1) := by decide +kernel
theorem dX7_addFigure_19 : decode cX7_addFigure 19 = .ok (.bipush 48, 2) := by decide +kernel
theorem dX7_addFigure_21 : decode cX7_addFigure 21 = .ok (.iload_n 1, 1) := by decide +kernel
theorem dX7_addFigure_22 : decode cX7_addFigure 22 = .ok (.iload_n 2, 1) := by decide +kernel
theorem dX7_addFigure_23 : decode cX7_addFigure 23 = .ok (.idiv, 1) := by decide +kernel
theorem dX7_addFigure_24 : decode cX7_addFigure 24 = .ok (.bipush 10, 2) := by decide +kernel
theorem dX7_addFigure_26 : decode cX7_addFigure 26 = .ok (.irem, 1) := by decide +kernel
theorem dX7_addFigure_27 : decode cX7_addFigure 27 = .ok (.iadd, 1) := by decide +kernel
theorem dX7_addFigure_28 : decode cX7_addFigure 28 = .ok (.invokevirtual 80, 3) := by decide +kernel
theorem dX7_addFigure_31 : decode cX7_addFigure 31 = .ok (.iload_n 2, 1) := by decide +kernel
theorem dX7_addFigure_32 : decode cX7_addFigure 32 = .ok (.bipush 10, 2) := by decide +kernel
theorem dX7_addFigure_34 : decode cX7_addFigure 34 = .ok (.idiv, 1) := by decide +kernel
theorem dX7_addFigure_35 : decode cX7_addFigure 35 = .ok (.istore_n 2, 1) := by decide +kernel
theorem dX7_addFigure_36 : decode cX7_addFigure 36 = .ok (.goto (-33), 3) := by decide +kernel
theorem dX7_addFigure_39 : decode cX7_addFigure 39 = .ok (.return_, 1) := by decide +kernel
theorem flX1_9 : FL RX1 9 1 0 := ⟨RX1, TX1, 8, tyX1, cd_1, by decide, Or.inl (inr_5 _ (List.mem_of_getElem? (i := 18) rfl))⟩
theorem flX1_15 : FL RX1 15 1 1 := ⟨RX1, TX1, 8, tyX1, cd_1, by decide, Or.inl (inr_5 _ (List.mem_of_getElem? (i := 19) rfl))⟩
theorem flX1_24 : FL RX1 24 1 2 := ⟨RX1, TX1, 8, tyX1, cd_1, by decide, Or.inl (inr_55 _ (List.mem_of_getElem? (i := 23) rfl))⟩
theorem flX1_72 : FL RX1 72 1 4 := ⟨RX1, TX1, 8, tyX1, cd_1, by decide, Or.inl (inr_56 _ (List.mem_of_getElem? (i := 23) rfl))⟩
theorem flX1_75 : FL RX1 75 1 5 := ⟨RX1, TX1, 8, tyX1, cd_1, by decide, Or.inl (inr_57 _ (List.mem_of_getElem? (i := 0) rfl))⟩
theorem flX1_82 : FL RX1 82 2 0 := ⟨RX2, TX2, 6, tyX2, cd_2, by decide, Or.inl (inr_57 _ (List.mem_of_getElem? (i := 1) rfl))⟩
theorem flX1_90 : FL RX1 90 2 2 := ⟨RX2, TX2, 6, tyX2, cd_2, by decide, Or.inl (inr_57 _ (List.mem_of_getElem? (i := 3) rfl))⟩
theorem flX5_121 : FL RX5 121 9 0 := ⟨RX9, TX9, 3, tyX9, cd_9, by decide, Or.inl (inr_63 _ (List.mem_of_getElem? (i := 5) rfl))⟩
theorem flX5_127 : FL RX5 127 8 0 := ⟨RX8, TX8, 7, tyX8, cd_8, by decide, Or.inl (inr_63 _ (List.mem_of_getElem? (i := 6) rfl))⟩
theorem flX5_131 : FL RX5 131 9 1 := ⟨RX9, TX9, 3, tyX9, cd_9, by decide, Or.inl (inr_63 _ (List.mem_of_getElem? (i := 7) rfl))⟩
theorem flX5_135 : FL RX5 135 2 3 := ⟨RX2, TX2, 6, tyX2, cd_2, by decide, Or.inl (inr_63 _ (List.mem_of_getElem? (i := 8) rfl))⟩
theorem flX5_152 : FL RX5 152 8 1 := ⟨RX8, TX8, 7, tyX8, cd_8, by decide, Or.inl (inr_63 _ (List.mem_of_getElem? (i := 9) rfl))⟩
theorem flX5_156 : FL RX5 156 3 1 := ⟨RX3, TX3, 4, tyX3, cd_3, by decide, Or.inl (inr_63 _ (List.mem_of_getElem? (i := 10) rfl))⟩
theorem flX7_9 : FL RX7 9 7 0 := ⟨RX7, TX7, 2, tyX7, cd_7, by decide, Or.inl (inr_6 _ (List.mem_of_getElem? (i := 9) rfl))⟩
theorem flX7_15 : FL RX7 15 7 1 := ⟨RX7, TX7, 2, tyX7, cd_7, by decide, Or.inl (inr_48 _ (List.mem_of_getElem? (i := 23) rfl))⟩
theorem flX7_19 : FL RX7 19 9 0 := ⟨RX9, TX9, 3, tyX9, cd_9, by decide, Or.inl (inr_48 _ (List.mem_of_getElem? (i := 19) rfl))⟩
theorem flX7_25 : FL RX7 25 8 0 := ⟨RX8, TX8, 7, tyX8, cd_8, by decide, Or.inl (inr_48 _ (List.mem_of_getElem? (i := 20) rfl))⟩
theorem flX7_31 : FL RX7 31 9 1 := ⟨RX9, TX9, 3, tyX9, cd_9, by decide, Or.inl (inr_48 _ (List.mem_of_getElem? (i := 21) rfl))⟩
theorem flX7_35 : FL RX7 35 2 3 := ⟨RX2, TX2, 6, tyX2, cd_2, by decide, Or.inl (inr_48 _ (List.mem_of_getElem? (i := 22) rfl))⟩
theorem flX7_41 : FL RX7 41 4 0 := ⟨RX4, TX4, 7, tyX4, cd_4, by decide, Or.inr ⟨"ParishYears", inT_1 _ (List.mem_of_getElem? (i := 96) rfl)⟩⟩
theorem fpX1_24 : FP RX1 24 1 2 .int := ⟨RX1, TX1, 8, tyX1, cd_1, by decide, (inr_55 _ (List.mem_of_getElem? (i := 23) rfl)), rfl, by decide +kernel⟩
theorem fpX1_68 : FP RX1 68 1 3 .boolean := ⟨RX1, TX1, 8, tyX1, cd_1, by decide, (inr_56 _ (List.mem_of_getElem? (i := 22) rfl)), rfl, by decide +kernel⟩
theorem fpX1_72 : FP RX1 72 1 4 .int := ⟨RX1, TX1, 8, tyX1, cd_1, by decide, (inr_56 _ (List.mem_of_getElem? (i := 23) rfl)), rfl, by decide +kernel⟩
theorem fpX1_75 : FP RX1 75 1 5 .int := ⟨RX1, TX1, 8, tyX1, cd_1, by decide, (inr_57 _ (List.mem_of_getElem? (i := 0) rfl)), rfl, by decide +kernel⟩
theorem fpX1_87 : FP RX1 87 1 6 .int := ⟨RX1, TX1, 8, tyX1, cd_1, by decide, (inr_57 _ (List.mem_of_getElem? (i := 2) rfl)), rfl, by decide +kernel⟩
theorem fpX1_93 : FP RX1 93 1 7 .int := ⟨RX1, TX1, 8, tyX1, cd_1, by decide, (inr_57 _ (List.mem_of_getElem? (i := 4) rfl)), rfl, by decide +kernel⟩
theorem fpX7_15 : FP RX7 15 7 1 .int := ⟨RX7, TX7, 2, tyX7, cd_7, by decide, (inr_48 _ (List.mem_of_getElem? (i := 23) rfl)), rfl, by decide +kernel⟩
theorem mlX1_18 : MLv RX1 18 RX6 6 yX6_open cX6_open 2 none 1 := ⟨(inr_10 _ (List.mem_of_getElem? (i := 10) rfl)), (inr_56 _ (List.mem_of_getElem? (i := 0) rfl)), (inr_10 _ (List.mem_of_getElem? (i := 8) rfl)), (inr_10 _ (List.mem_of_getElem? (i := 9) rfl)), (inr_1 _ (List.mem_of_getElem? (i := 15) rfl)), rfl, ⟨by decide, by decide, by decide +kernel⟩, by decide, by decide, rfl⟩
theorem mlX1_28 : MLv RX1 28 RX6 6 yX6_goesOn cX6_goesOn 1 (some .boolean) 0 := ⟨(inr_11 _ (List.mem_of_getElem? (i := 9) rfl)), (inr_56 _ (List.mem_of_getElem? (i := 1) rfl)), (inr_11 _ (List.mem_of_getElem? (i := 7) rfl)), (inr_11 _ (List.mem_of_getElem? (i := 8) rfl)), (inr_1 _ (List.mem_of_getElem? (i := 15) rfl)), rfl, ⟨by decide, by decide, by decide +kernel⟩, by decide, by decide, rfl⟩
theorem mlX1_32 : MLv RX1 32 RX1 1 yX1_readLine cX1_readLine 5 none 2 := ⟨(inr_56 _ (List.mem_of_getElem? (i := 5) rfl)), (inr_56 _ (List.mem_of_getElem? (i := 2) rfl)), (inr_56 _ (List.mem_of_getElem? (i := 3) rfl)), (inr_56 _ (List.mem_of_getElem? (i := 4) rfl)), (inr_2 _ (List.mem_of_getElem? (i := 7) rfl)), rfl, ⟨by decide, by decide, by decide +kernel⟩, by decide, by decide, rfl⟩
theorem mlX1_36 : MLv RX1 36 RX6 6 yX6_takeSign cX6_takeSign 2 none 1 := ⟨(inr_15 _ (List.mem_of_getElem? (i := 2) rfl)), (inr_56 _ (List.mem_of_getElem? (i := 17) rfl)), (inr_15 _ (List.mem_of_getElem? (i := 0) rfl)), (inr_15 _ (List.mem_of_getElem? (i := 1) rfl)), (inr_1 _ (List.mem_of_getElem? (i := 15) rfl)), rfl, ⟨by decide, by decide, by decide +kernel⟩, by decide, by decide, rfl⟩
theorem mlX1_41 : MLv RX1 41 RX6 6 yX6_isAt cX6_isAt 3 (some .boolean) 1 := ⟨(inr_11 _ (List.mem_of_getElem? (i := 21) rfl)), (inr_56 _ (List.mem_of_getElem? (i := 7) rfl)), (inr_11 _ (List.mem_of_getElem? (i := 19) rfl)), (inr_11 _ (List.mem_of_getElem? (i := 20) rfl)), (inr_1 _ (List.mem_of_getElem? (i := 15) rfl)), rfl, ⟨by decide, by decide, by decide +kernel⟩, by decide, by decide, rfl⟩
theorem mlX1_45 : MLv RX1 45 RX8 8 yX8_parishAt cX8_parishAt 3 (some .int) 1 := ⟨(inr_14 _ (List.mem_of_getElem? (i := 3) rfl)), (inr_56 _ (List.mem_of_getElem? (i := 8) rfl)), (inr_14 _ (List.mem_of_getElem? (i := 1) rfl)), (inr_14 _ (List.mem_of_getElem? (i := 2) rfl)), (inr_1 _ (List.mem_of_getElem? (i := 23) rfl)), rfl, ⟨by decide, by decide, by decide +kernel⟩, by decide, by decide, rfl⟩
theorem mlX1_51 : MLv RX1 51 RX6 6 yX6_fail cX6_fail 2 none 1 := ⟨(inr_12 _ (List.mem_of_getElem? (i := 5) rfl)), (inr_56 _ (List.mem_of_getElem? (i := 9) rfl)), (inr_12 _ (List.mem_of_getElem? (i := 3) rfl)), (inr_12 _ (List.mem_of_getElem? (i := 4) rfl)), (inr_1 _ (List.mem_of_getElem? (i := 15) rfl)), rfl, ⟨by decide, by decide, by decide +kernel⟩, by decide, by decide, rfl⟩
theorem mlX1_54 : MLv RX1 54 RX6 6 yX6_advance cX6_advance 5 none 0 := ⟨(inr_10 _ (List.mem_of_getElem? (i := 18) rfl)), (inr_56 _ (List.mem_of_getElem? (i := 10) rfl)), (inr_10 _ (List.mem_of_getElem? (i := 16) rfl)), (inr_10 _ (List.mem_of_getElem? (i := 17) rfl)), (inr_1 _ (List.mem_of_getElem? (i := 15) rfl)), rfl, ⟨by decide, by decide, by decide +kernel⟩, by decide, by decide, rfl⟩
theorem mlX1_57 : MLv RX1 57 RX6 6 yX6_takeNumber cX6_takeNumber 4 (some .int) 2 := ⟨(inr_13 _ (List.mem_of_getElem? (i := 4) rfl)), (inr_56 _ (List.mem_of_getElem? (i := 11) rfl)), (inr_13 _ (List.mem_of_getElem? (i := 2) rfl)), (inr_13 _ (List.mem_of_getElem? (i := 3) rfl)), (inr_1 _ (List.mem_of_getElem? (i := 15) rfl)), rfl, ⟨by decide, by decide, by decide +kernel⟩, by decide, by decide, rfl⟩
theorem mlX1_61 : MLs RX1 61 yX1_readDeed cX1_readDeed 1 (some .int) 1 := ⟨(inr_56 _ (List.mem_of_getElem? (i := 14) rfl)), (inr_56 _ (List.mem_of_getElem? (i := 12) rfl)), (inr_56 _ (List.mem_of_getElem? (i := 13) rfl)), (inr_2 _ (List.mem_of_getElem? (i := 7) rfl)), ⟨by decide, by decide, by decide +kernel⟩, by decide⟩
theorem mlX1_78 : MLs RX1 78 yX1_live cX1_live 3 (some .int) 3 := ⟨(inr_57 _ (List.mem_of_getElem? (i := 7) rfl)), (inr_57 _ (List.mem_of_getElem? (i := 5) rfl)), (inr_57 _ (List.mem_of_getElem? (i := 6) rfl)), (inr_2 _ (List.mem_of_getElem? (i := 7) rfl)), ⟨by decide, by decide, by decide +kernel⟩, by decide⟩
theorem mlX1_96 : MLv RX1 96 RX2 2 yX2_daysLeft cX2_daysLeft 1 (some .int) 0 := ⟨(inr_33 _ (List.mem_of_getElem? (i := 2) rfl)), (inr_57 _ (List.mem_of_getElem? (i := 8) rfl)), (inr_33 _ (List.mem_of_getElem? (i := 0) rfl)), (inr_33 _ (List.mem_of_getElem? (i := 1) rfl)), (inr_2 _ (List.mem_of_getElem? (i := 21) rfl)), rfl, ⟨by decide, by decide, by decide +kernel⟩, by decide, by decide, rfl⟩
theorem mlX1_100 : MLv RX1 100 RX2 2 yX2_passDays cX2_passDays 4 (some .int) 1 := ⟨(inr_32 _ (List.mem_of_getElem? (i := 22) rfl)), (inr_57 _ (List.mem_of_getElem? (i := 9) rfl)), (inr_32 _ (List.mem_of_getElem? (i := 20) rfl)), (inr_32 _ (List.mem_of_getElem? (i := 21) rfl)), (inr_2 _ (List.mem_of_getElem? (i := 21) rfl)), rfl, ⟨by decide, by decide, by decide +kernel⟩, by decide, by decide, rfl⟩
theorem mlX1_104 : MLv RX1 104 RX2 2 yX2_holdDay cX2_holdDay 2 (some .int) 1 := ⟨(inr_30 _ (List.mem_of_getElem? (i := 22) rfl)), (inr_57 _ (List.mem_of_getElem? (i := 10) rfl)), (inr_30 _ (List.mem_of_getElem? (i := 20) rfl)), (inr_30 _ (List.mem_of_getElem? (i := 21) rfl)), (inr_2 _ (List.mem_of_getElem? (i := 21) rfl)), rfl, ⟨by decide, by decide, by decide +kernel⟩, by decide, by decide, rfl⟩
theorem mlX1_107 : MLv RX1 107 RX2 2 yX2_skipDays cX2_skipDays 3 (some .int) 2 := ⟨(inr_32 _ (List.mem_of_getElem? (i := 2) rfl)), (inr_57 _ (List.mem_of_getElem? (i := 11) rfl)), (inr_32 _ (List.mem_of_getElem? (i := 0) rfl)), (inr_32 _ (List.mem_of_getElem? (i := 1) rfl)), (inr_2 _ (List.mem_of_getElem? (i := 21) rfl)), rfl, ⟨by decide, by decide, by decide +kernel⟩, by decide, by decide, rfl⟩
theorem mlX5_117 : MLv RX5 117 RX5 5 yX5_isSo cX5_isSo 5 (some .boolean) 3 := ⟨(inr_63 _ (List.mem_of_getElem? (i := 4) rfl)), (inr_63 _ (List.mem_of_getElem? (i := 1) rfl)), (inr_63 _ (List.mem_of_getElem? (i := 2) rfl)), (inr_63 _ (List.mem_of_getElem? (i := 3) rfl)), (inr_2 _ (List.mem_of_getElem? (i := 3) rfl)), rfl, ⟨by decide, by decide, by decide +kernel⟩, by decide, by decide, rfl⟩
theorem mlX5_140 : MLv RX5 140 RX4 4 yX4_isBetween cX4_isBetween 2 (some .boolean) 1 := ⟨(inr_29 _ (List.mem_of_getElem? (i := 6) rfl)), (inr_63 _ (List.mem_of_getElem? (i := 11) rfl)), (inr_29 _ (List.mem_of_getElem? (i := 4) rfl)), (inr_29 _ (List.mem_of_getElem? (i := 5) rfl)), (inr_4 _ (List.mem_of_getElem? (i := 7) rfl)), rfl, ⟨by decide, by decide, by decide +kernel⟩, by decide, by decide, rfl⟩
theorem mlX5_146 : MLv RX5 146 RX2 2 yX2_isHeld cX2_isHeld 2 (some .boolean) 1 := ⟨(inr_22 _ (List.mem_of_getElem? (i := 3) rfl)), (inr_63 _ (List.mem_of_getElem? (i := 12) rfl)), (inr_22 _ (List.mem_of_getElem? (i := 1) rfl)), (inr_22 _ (List.mem_of_getElem? (i := 2) rfl)), (inr_2 _ (List.mem_of_getElem? (i := 21) rfl)), rfl, ⟨by decide, by decide, by decide +kernel⟩, by decide, by decide, rfl⟩
theorem mlX5_149 : MLv RX5 149 RX8 8 yX8_hasFeast cX8_hasFeast 2 (some .boolean) 1 := ⟨(inr_26 _ (List.mem_of_getElem? (i := 5) rfl)), (inr_63 _ (List.mem_of_getElem? (i := 13) rfl)), (inr_26 _ (List.mem_of_getElem? (i := 3) rfl)), (inr_26 _ (List.mem_of_getElem? (i := 4) rfl)), (inr_1 _ (List.mem_of_getElem? (i := 23) rfl)), rfl, ⟨by decide, by decide, by decide +kernel⟩, by decide, by decide, rfl⟩
theorem mlX5_160 : MLv RX5 160 RX9 9 yX9_fallsOn cX9_fallsOn 4 (some .boolean) 2 := ⟨(inr_26 _ (List.mem_of_getElem? (i := 9) rfl)), (inr_63 _ (List.mem_of_getElem? (i := 14) rfl)), (inr_26 _ (List.mem_of_getElem? (i := 7) rfl)), (inr_26 _ (List.mem_of_getElem? (i := 8) rfl)), (inr_1 _ (List.mem_of_getElem? (i := 19) rfl)), rfl, ⟨by decide, by decide, by decide +kernel⟩, by decide, by decide, rfl⟩
theorem mlX5_164 : MLv RX5 164 RX8 8 yX8_hasParish cX8_hasParish 2 (some .boolean) 1 := ⟨(inr_14 _ (List.mem_of_getElem? (i := 7) rfl)), (inr_63 _ (List.mem_of_getElem? (i := 15) rfl)), (inr_14 _ (List.mem_of_getElem? (i := 5) rfl)), (inr_14 _ (List.mem_of_getElem? (i := 6) rfl)), (inr_1 _ (List.mem_of_getElem? (i := 23) rfl)), rfl, ⟨by decide, by decide, by decide +kernel⟩, by decide, by decide, rfl⟩
theorem mlX5_167 : MLv RX5 167 RX9 9 yX9_dateIn cX9_dateIn 3 (some .int) 2 := ⟨(inr_26 _ (List.mem_of_getElem? (i := 18) rfl)), (inr_63 _ (List.mem_of_getElem? (i := 16) rfl)), (inr_26 _ (List.mem_of_getElem? (i := 16) rfl)), (inr_26 _ (List.mem_of_getElem? (i := 17) rfl)), (inr_1 _ (List.mem_of_getElem? (i := 19) rfl)), rfl, ⟨by decide, by decide, by decide +kernel⟩, by decide, by decide, rfl⟩
theorem mlX5_170 : MLs RX5 170 yX5_compare cX5_compare 3 (some .boolean) 3 := ⟨(inr_63 _ (List.mem_of_getElem? (i := 19) rfl)), (inr_63 _ (List.mem_of_getElem? (i := 17) rfl)), (inr_63 _ (List.mem_of_getElem? (i := 18) rfl)), (inr_2 _ (List.mem_of_getElem? (i := 3) rfl)), ⟨by decide, by decide, by decide +kernel⟩, by decide⟩
theorem mlX5_174 : MLv RX5 174 RX4 4 yX4_called cX4_called 3 (some .int) 2 := ⟨(inr_23 _ (List.mem_of_getElem? (i := 4) rfl)), (inr_63 _ (List.mem_of_getElem? (i := 20) rfl)), (inr_23 _ (List.mem_of_getElem? (i := 2) rfl)), (inr_23 _ (List.mem_of_getElem? (i := 3) rfl)), (inr_4 _ (List.mem_of_getElem? (i := 7) rfl)), rfl, ⟨by decide, by decide, by decide +kernel⟩, by decide, by decide, rfl⟩
theorem mlX7_47 : MLv RX7 47 RX7 7 yX7_addName cX7_addName 5 none 1 := ⟨(inr_49 _ (List.mem_of_getElem? (i := 3) rfl)), (inr_49 _ (List.mem_of_getElem? (i := 0) rfl)), (inr_49 _ (List.mem_of_getElem? (i := 1) rfl)), (inr_49 _ (List.mem_of_getElem? (i := 2) rfl)), (inr_2 _ (List.mem_of_getElem? (i := 15) rfl)), rfl, ⟨by decide, by decide, by decide +kernel⟩, by decide, by decide, rfl⟩
theorem mlX7_53 : MLv RX7 53 RX7 7 yX7_addText cX7_addText 3 none 1 := ⟨(inr_49 _ (List.mem_of_getElem? (i := 11) rfl)), (inr_49 _ (List.mem_of_getElem? (i := 8) rfl)), (inr_49 _ (List.mem_of_getElem? (i := 9) rfl)), (inr_49 _ (List.mem_of_getElem? (i := 10) rfl)), (inr_2 _ (List.mem_of_getElem? (i := 15) rfl)), rfl, ⟨by decide, by decide, by decide +kernel⟩, by decide, by decide, rfl⟩
theorem mlX7_57 : MLv RX7 57 RX4 4 yX4_called cX4_called 3 (some .int) 2 := ⟨(inr_23 _ (List.mem_of_getElem? (i := 4) rfl)), (inr_51 _ (List.mem_of_getElem? (i := 13) rfl)), (inr_23 _ (List.mem_of_getElem? (i := 2) rfl)), (inr_23 _ (List.mem_of_getElem? (i := 3) rfl)), (inr_4 _ (List.mem_of_getElem? (i := 7) rfl)), rfl, ⟨by decide, by decide, by decide +kernel⟩, by decide, by decide, rfl⟩
theorem mlX7_61 : MLv RX7 61 RX7 7 yX7_addFigure cX7_addFigure 3 none 1 := ⟨(inr_51 _ (List.mem_of_getElem? (i := 17) rfl)), (inr_51 _ (List.mem_of_getElem? (i := 14) rfl)), (inr_51 _ (List.mem_of_getElem? (i := 15) rfl)), (inr_51 _ (List.mem_of_getElem? (i := 16) rfl)), (inr_2 _ (List.mem_of_getElem? (i := 15) rfl)), rfl, ⟨by decide, by decide, by decide +kernel⟩, by decide, by decide, rfl⟩
theorem mlX7_65 : MLv RX7 65 RX4 4 yX4_isBetween cX4_isBetween 2 (some .boolean) 1 := ⟨(inr_29 _ (List.mem_of_getElem? (i := 6) rfl)), (inr_51 _ (List.mem_of_getElem? (i := 19) rfl)), (inr_29 _ (List.mem_of_getElem? (i := 4) rfl)), (inr_29 _ (List.mem_of_getElem? (i := 5) rfl)), (inr_4 _ (List.mem_of_getElem? (i := 7) rfl)), rfl, ⟨by decide, by decide, by decide +kernel⟩, by decide, by decide, rfl⟩
theorem mlX7_75 : MLv RX7 75 RX2 2 yX2_isHeld cX2_isHeld 2 (some .boolean) 1 := ⟨(inr_22 _ (List.mem_of_getElem? (i := 3) rfl)), (inr_51 _ (List.mem_of_getElem? (i := 20) rfl)), (inr_22 _ (List.mem_of_getElem? (i := 1) rfl)), (inr_22 _ (List.mem_of_getElem? (i := 2) rfl)), (inr_2 _ (List.mem_of_getElem? (i := 21) rfl)), rfl, ⟨by decide, by decide, by decide +kernel⟩, by decide, by decide, rfl⟩
theorem mlX7_80 : MLv RX7 80 RX7 7 yX7_addByte cX7_addByte 2 none 1 := ⟨(inr_49 _ (List.mem_of_getElem? (i := 7) rfl)), (inr_49 _ (List.mem_of_getElem? (i := 4) rfl)), (inr_49 _ (List.mem_of_getElem? (i := 5) rfl)), (inr_49 _ (List.mem_of_getElem? (i := 6) rfl)), (inr_2 _ (List.mem_of_getElem? (i := 15) rfl)), rfl, ⟨by decide, by decide, by decide +kernel⟩, by decide, by decide, rfl⟩
def fX5_isSo_s187 (a0 : Nat) (x1 : Int32) (a2 : Nat) (x3 : Int32) (y4 : Int32)  (S : St) : Option Int32 :=
  if (x3 < 0 ∨ 5 ≤ x3.toNatClampNeg) then none else
  if (x3 < 0 ∨ 5 ≤ x3.toNatClampNeg) then none else
  if (x1 < 0 ∨ 40 ≤ x1.toNatClampNeg) then none else
  (fX4_called (((a2 + 1) + 1) + 2 + x3.toNatClampNeg) (gA S 15 ((a2 + 15) + 1) x3.toNatClampNeg) ((gA S 18 (a0 + 1) x1.toNatClampNeg) - (8 : Int32)) S).bind fun r_27 =>
  if (x1 < 0 ∨ 40 ≤ x1.toNatClampNeg) then none else
  some (vp_nar .boolean (fX5_compare r_27 (gA S 19 (a0 + 2) x1.toNatClampNeg) y4 S))
def fX5_isSo_s8 (a0 : Nat) (x1 : Int32) (a2 : Nat) (x3 : Int32) (y4 : Int32)  (S : St) : Option Int32 :=
  if (x1 < 0 ∨ 40 ≤ x1.toNatClampNeg) then none else
  if (gA S 18 (a0 + 1) x1.toNatClampNeg) = 4 then (if (x3 < 0 ∨ 5 ≤ x3.toNatClampNeg) then none else
  if (x3 < 0 ∨ 5 ≤ x3.toNatClampNeg) then none else
  (fX4_isBetween (((a2 + 1) + 1) + 2 + x3.toNatClampNeg) (gA S 15 ((a2 + 15) + 1) x3.toNatClampNeg) S).bind fun r_6 =>
  some (vp_nar .boolean r_6)) else
  (if (gA S 18 (a0 + 1) x1.toNatClampNeg) = 5 then (some (vp_nar .boolean (fX2_isHeld (a2 + 15) x3 S))) else
  (if (gA S 18 (a0 + 1) x1.toNatClampNeg) = 6 then (if (fX8_hasFeast (a2 + 1) y4 S) = 0 then (some (0 : Int32)) else
  (if (y4 < 0 ∨ 6 ≤ y4.toNatClampNeg) then none else
  if (gI S 3 1 (((a2 + 1) + 2) + 6 + y4.toNatClampNeg)) = x3 then ((fX9_fallsOn a2 y4 (0 : Int32) S).bind fun r_13 =>
  if r_13 = 0 then (some (0 : Int32)) else
  (some (1 : Int32))) else
  (some (0 : Int32)))) else
  (if (gA S 18 (a0 + 1) x1.toNatClampNeg) = 7 then (if (fX8_hasParish (a2 + 1) y4 S) = 0 then (some (0 : Int32)) else
  ((fX9_dateIn a2 y4 (0 : Int32) S).bind fun r_18 =>
  (fX9_dateIn a2 x3 (0 : Int32) S).bind fun r_20 =>
  if r_18 = r_20 then (some (1 : Int32)) else
  (some (0 : Int32)))) else
  (if (gA S 18 (a0 + 1) x1.toNatClampNeg) = 8 then (fX5_isSo_s187 a0 x1 a2 x3 y4 S) else
  (if (gA S 18 (a0 + 1) x1.toNatClampNeg) = 9 then (fX5_isSo_s187 a0 x1 a2 x3 y4 S) else
  (if (gA S 18 (a0 + 1) x1.toNatClampNeg) = 10 then (fX5_isSo_s187 a0 x1 a2 x3 y4 S) else
  (if (gA S 18 (a0 + 1) x1.toNatClampNeg) = 11 then (fX5_isSo_s187 a0 x1 a2 x3 y4 S) else
  (if (gA S 18 (a0 + 1) x1.toNatClampNeg) = 12 then (if (x1 < 0 ∨ 40 ≤ x1.toNatClampNeg) then none else
  some (vp_nar .boolean (fX5_compare x3 (gA S 19 (a0 + 2) x1.toNatClampNeg) y4 S))) else
  (fX5_isSo_s187 a0 x1 a2 x3 y4 S)))))))))
def fX5_isSo (a0 : Nat) (x1 : Int32) (a2 : Nat) (x3 : Int32) (S : St) : Option Int32 :=
  if (x1 < 0 ∨ 40 ≤ x1.toNatClampNeg) then none else
  fX5_isSo_s8 a0 x1 a2 x3 (gA S 20 (a0 + 3) x1.toNatClampNeg) S
theorem wX5_isSo_s187 {z : Mx} {ad : Nat → Nat} {o : Option Value × St} (X : CxOk z ad RX5 cX5_isSo 5 (some .boolean) 5) (a0 : Nat) (x1 : Int32) (a2 : Nat) (x3 : Int32) (h0 : KT a0 = 5) (h2 : KT a2 = 9) (y4 : Int32)    (S : St) (r : Int32) (ho : o = (some (.int r), S)) (hF : fX5_isSo_s187 a0 x1 a2 x3 y4  S = some r) : GW z ad o S 187 [(0, .ref (ad a0)), (1, .int x1), (2, .ref (ad a2)), (3, .int x3), (4, .int y4)] [] := by
  unfold fX5_isSo_s187 at hF
  refine g_aload_n X dX5_isSo_187 2 rfl rfl ?_
  refine g_getR (f := 1) X dX5_isSo_188 flX5_121 rfl rfl h2 ?_
  refine g_getR (f := 1) X dX5_isSo_191 flX5_127 rfl rfl (on_9_0 h2) ?_
  refine g_iload_n X dX5_isSo_194 3 rfl rfl ?_
  obtain ⟨e_24, hF⟩ := oguard hF
  refine g_aaldP X dX5_isSo_195 (on_8_0 (on_9_0 h2)) rfl e_24 ?_
  refine g_aload_n X dX5_isSo_196 2 rfl rfl ?_
  refine g_getR (f := 15) X dX5_isSo_197 flX5_131 rfl rfl h2 ?_
  refine g_getR (f := 1) X dX5_isSo_200 flX5_135 rfl rfl (on_9_1 h2) ?_
  refine g_iload_n X dX5_isSo_203 3 rfl rfl ?_
  obtain ⟨e_25, hF⟩ := oguard hF
  refine g_iald X dX5_isSo_204 kd_15 (on_2_3 (on_9_1 h2)) e_25 ?_
  refine g_aload_n X dX5_isSo_205 0 rfl rfl ?_
  refine g_getR (f := 1) X dX5_isSo_206 flX5_11 rfl rfl h0 ?_
  refine g_iload_n X dX5_isSo_209 1 rfl rfl ?_
  obtain ⟨e_26, hF⟩ := oguard hF
  refine g_iald X dX5_isSo_210 kd_18 (on_5_0 h0) e_26 ?_
  refine g_bipush (v := 8) X dX5_isSo_211 (by decide) ?_
  refine g_isub X dX5_isSo_213 ?_
  obtain ⟨r_27, q_28, hF⟩ := obind hF
  refine g_callVi (As := [.int (gA S 15 ((a2 + 15) + 1) x3.toNatClampNeg), .int ((gA S 18 (a0 + 1) x1.toNatClampNeg) - (8 : Int32))]) X dX5_isSo_214 mlX5_174 (fun l D cyy => tX4_called (cx_inj X) l D cyy (((a2 + 1) + 1) + 2 + x3.toNatClampNeg) (gA S 15 ((a2 + 15) + 1) x3.toNatClampNeg) ((gA S 18 (a0 + 1) x1.toNatClampNeg) - (8 : Int32)) (on_p (on_8_0 (on_9_0 h2)) (inb e_24)) S r_27 q_28) (on_p (on_8_0 (on_9_0 h2)) (inb e_24)) (by decide) rfl rfl (Nat.le_of_ble_eq_true rfl) ?_
  refine g_aload_n X dX5_isSo_217 0 rfl rfl ?_
  refine g_getR (f := 2) X dX5_isSo_218 flX5_15 rfl rfl h0 ?_
  refine g_iload_n X dX5_isSo_221 1 rfl rfl ?_
  obtain ⟨e_29, hF⟩ := oguard hF
  refine g_iald X dX5_isSo_222 kd_19 (on_5_1 h0) e_29 ?_
  refine g_iload X dX5_isSo_223 4 rfl ?_
  refine g_callSi (As := [.int r_27, .int (gA S 19 (a0 + 2) x1.toNatClampNeg), .int y4]) X dX5_isSo_225 mlX5_170 (fun l D cyy => tX5_compare (cx_inj X) l D cyy r_27 (gA S 19 (a0 + 2) x1.toNatClampNeg) y4  S) (by decide) rfl rfl (Nat.le_of_ble_eq_true rfl) ?_
  have hF := Option.some.inj hF
  subst hF
  exact g_zretN X dX5_isSo_228 ho
theorem wX5_isSo_s8 {z : Mx} {ad : Nat → Nat} {o : Option Value × St} (X : CxOk z ad RX5 cX5_isSo 5 (some .boolean) 5) (a0 : Nat) (x1 : Int32) (a2 : Nat) (x3 : Int32) (h0 : KT a0 = 5) (h2 : KT a2 = 9) (y4 : Int32)    (S : St) (r : Int32) (ho : o = (some (.int r), S)) (hF : fX5_isSo_s8 a0 x1 a2 x3 y4  S = some r) : GW z ad o S 8 [(0, .ref (ad a0)), (1, .int x1), (2, .ref (ad a2)), (3, .int x3), (4, .int y4)] [] := by
  unfold fX5_isSo_s8 at hF
  refine g_aload_n X dX5_isSo_8 0 rfl rfl ?_
  refine g_getR (f := 1) X dX5_isSo_9 flX5_11 rfl rfl h0 ?_
  refine g_iload_n X dX5_isSo_12 1 rfl rfl ?_
  obtain ⟨e_2, hF⟩ := oguard hF
  refine g_iald X dX5_isSo_13 kd_18 (on_5_0 h0) e_2 ?_
  by_cases c_3 : (gA S 18 (a0 + 1) x1.toNatClampNeg) = 4
  · rw [if_pos c_3] at hF
    refine g_tabIn (tgt := 64) (off := 50) X dX5_isSo_14 (by rw [c_3]; decide) (by rw [c_3]; decide) (by rw [c_3]; decide) (by decide) ?_
    refine g_aload_n X dX5_isSo_64 2 rfl rfl ?_
    refine g_getR (f := 1) X dX5_isSo_65 flX5_121 rfl rfl h2 ?_
    refine g_getR (f := 1) X dX5_isSo_68 flX5_127 rfl rfl (on_9_0 h2) ?_
    refine g_iload_n X dX5_isSo_71 3 rfl rfl ?_
    obtain ⟨e_4, hF⟩ := oguard hF
    refine g_aaldP X dX5_isSo_72 (on_8_0 (on_9_0 h2)) rfl e_4 ?_
    refine g_aload_n X dX5_isSo_73 2 rfl rfl ?_
    refine g_getR (f := 15) X dX5_isSo_74 flX5_131 rfl rfl h2 ?_
    refine g_getR (f := 1) X dX5_isSo_77 flX5_135 rfl rfl (on_9_1 h2) ?_
    refine g_iload_n X dX5_isSo_80 3 rfl rfl ?_
    obtain ⟨e_5, hF⟩ := oguard hF
    refine g_iald X dX5_isSo_81 kd_15 (on_2_3 (on_9_1 h2)) e_5 ?_
    obtain ⟨r_6, q_7, hF⟩ := obind hF
    refine g_callVi (As := [.int (gA S 15 ((a2 + 15) + 1) x3.toNatClampNeg)]) X dX5_isSo_82 mlX5_140 (fun l D cyy => tX4_isBetween (cx_inj X) l D cyy (((a2 + 1) + 1) + 2 + x3.toNatClampNeg) (gA S 15 ((a2 + 15) + 1) x3.toNatClampNeg) (on_p (on_8_0 (on_9_0 h2)) (inb e_4)) S r_6 q_7) (on_p (on_8_0 (on_9_0 h2)) (inb e_4)) (by decide) rfl rfl (Nat.le_of_ble_eq_true rfl) ?_
    have hF := Option.some.inj hF
    subst hF
    exact g_zretN X dX5_isSo_85 ho
  rw [if_neg c_3] at hF
  by_cases c_8 : (gA S 18 (a0 + 1) x1.toNatClampNeg) = 5
  · rw [if_pos c_8] at hF
    refine g_tabIn (tgt := 86) (off := 72) X dX5_isSo_14 (by rw [c_8]; decide) (by rw [c_8]; decide) (by rw [c_8]; decide) (by decide) ?_
    refine g_aload_n X dX5_isSo_86 2 rfl rfl ?_
    refine g_getR (f := 15) X dX5_isSo_87 flX5_131 rfl rfl h2 ?_
    refine g_iload_n X dX5_isSo_90 3 rfl rfl ?_
    refine g_callVi (As := [.int x3]) X dX5_isSo_91 mlX5_146 (fun l D cyy => tX2_isHeld (cx_inj X) l D cyy (a2 + 15) x3 (on_9_1 h2) S) (on_9_1 h2) (by decide) rfl rfl (Nat.le_of_ble_eq_true rfl) ?_
    have hF := Option.some.inj hF
    subst hF
    exact g_zretN X dX5_isSo_94 ho
  rw [if_neg c_8] at hF
  by_cases c_9 : (gA S 18 (a0 + 1) x1.toNatClampNeg) = 6
  · rw [if_pos c_9] at hF
    refine g_tabIn (tgt := 95) (off := 81) X dX5_isSo_14 (by rw [c_9]; decide) (by rw [c_9]; decide) (by rw [c_9]; decide) (by decide) ?_
    refine g_aload_n X dX5_isSo_95 2 rfl rfl ?_
    refine g_getR (f := 1) X dX5_isSo_96 flX5_121 rfl rfl h2 ?_
    refine g_iload X dX5_isSo_99 4 rfl ?_
    refine g_callVi (As := [.int y4]) X dX5_isSo_101 mlX5_149 (fun l D cyy => tX8_hasFeast (cx_inj X) l D cyy (a2 + 1) y4 (on_9_0 h2) S) (on_9_0 h2) (by decide) rfl rfl (Nat.le_of_ble_eq_true rfl) ?_
    refine g_if_eq (tgt := 138) X dX5_isSo_104 (by decide) (fun c_10 => ?_) (fun c_10 => ?_)
    · rw [if_pos c_10] at hF
      refine g_iconst (v := 0) X dX5_isSo_138 (by decide) ?_
      have hF := Option.some.inj hF
      subst hF
      exact g_zret X dX5_isSo_139 (by decide) ho
    · rw [if_neg c_10] at hF
      refine g_aload_n X dX5_isSo_107 2 rfl rfl ?_
      refine g_getR (f := 1) X dX5_isSo_108 flX5_121 rfl rfl h2 ?_
      refine g_getR (f := 2) X dX5_isSo_111 flX5_152 rfl rfl (on_9_0 h2) ?_
      refine g_iload X dX5_isSo_114 4 rfl ?_
      obtain ⟨e_11, hF⟩ := oguard hF
      refine g_aaldF X dX5_isSo_116 (on_8_1 (on_9_0 h2)) rfl e_11 ?_
      refine g_getI X dX5_isSo_117 flX5_156 rfl (on_f (on_8_1 (on_9_0 h2)) (inb e_11)) ?_
      refine g_iload_n X dX5_isSo_120 3 rfl rfl ?_
      refine g_icmp_ne (tgt := 138) X dX5_isSo_121 (by decide) (fun c_12 => ?_) (fun c_12 => ?_)
      · rw [if_neg c_12] at hF
        refine g_iconst (v := 0) X dX5_isSo_138 (by decide) ?_
        have hF := Option.some.inj hF
        subst hF
        exact g_zret X dX5_isSo_139 (by decide) ho
      · rw [if_pos c_12] at hF
        refine g_aload_n X dX5_isSo_124 2 rfl rfl ?_
        refine g_iload X dX5_isSo_125 4 rfl ?_
        refine g_iconst (v := 0) X dX5_isSo_127 (by decide) ?_
        obtain ⟨r_13, q_14, hF⟩ := obind hF
        refine g_callVi (As := [.int y4, .int (0 : Int32)]) X dX5_isSo_128 mlX5_160 (fun l D cyy => tX9_fallsOn (cx_inj X) l D cyy a2 y4 (0 : Int32) h2 S r_13 q_14) h2 (by decide) rfl rfl (Nat.le_of_ble_eq_true rfl) ?_
        refine g_if_eq (tgt := 138) X dX5_isSo_131 (by decide) (fun c_15 => ?_) (fun c_15 => ?_)
        · rw [if_pos c_15] at hF
          refine g_iconst (v := 0) X dX5_isSo_138 (by decide) ?_
          have hF := Option.some.inj hF
          subst hF
          exact g_zret X dX5_isSo_139 (by decide) ho
        · rw [if_neg c_15] at hF
          refine g_iconst (v := 1) X dX5_isSo_134 (by decide) ?_
          refine g_goto (tgt := 139) X dX5_isSo_135 (by decide) ?_
          have hF := Option.some.inj hF
          subst hF
          exact g_zret X dX5_isSo_139 (by decide) ho
  rw [if_neg c_9] at hF
  by_cases c_16 : (gA S 18 (a0 + 1) x1.toNatClampNeg) = 7
  · rw [if_pos c_16] at hF
    refine g_tabIn (tgt := 140) (off := 126) X dX5_isSo_14 (by rw [c_16]; decide) (by rw [c_16]; decide) (by rw [c_16]; decide) (by decide) ?_
    refine g_aload_n X dX5_isSo_140 2 rfl rfl ?_
    refine g_getR (f := 1) X dX5_isSo_141 flX5_121 rfl rfl h2 ?_
    refine g_iload X dX5_isSo_144 4 rfl ?_
    refine g_callVi (As := [.int y4]) X dX5_isSo_146 mlX5_164 (fun l D cyy => tX8_hasParish (cx_inj X) l D cyy (a2 + 1) y4 (on_9_0 h2) S) (on_9_0 h2) (by decide) rfl rfl (Nat.le_of_ble_eq_true rfl) ?_
    refine g_if_eq (tgt := 172) X dX5_isSo_149 (by decide) (fun c_17 => ?_) (fun c_17 => ?_)
    · rw [if_pos c_17] at hF
      refine g_iconst (v := 0) X dX5_isSo_172 (by decide) ?_
      have hF := Option.some.inj hF
      subst hF
      exact g_zret X dX5_isSo_173 (by decide) ho
    · rw [if_neg c_17] at hF
      refine g_aload_n X dX5_isSo_152 2 rfl rfl ?_
      refine g_iload X dX5_isSo_153 4 rfl ?_
      refine g_iconst (v := 0) X dX5_isSo_155 (by decide) ?_
      obtain ⟨r_18, q_19, hF⟩ := obind hF
      refine g_callVi (As := [.int y4, .int (0 : Int32)]) X dX5_isSo_156 mlX5_167 (fun l D cyy => tX9_dateIn (cx_inj X) l D cyy a2 y4 (0 : Int32) h2 S r_18 q_19) h2 (by decide) rfl rfl (Nat.le_of_ble_eq_true rfl) ?_
      refine g_aload_n X dX5_isSo_159 2 rfl rfl ?_
      refine g_iload_n X dX5_isSo_160 3 rfl rfl ?_
      refine g_iconst (v := 0) X dX5_isSo_161 (by decide) ?_
      obtain ⟨r_20, q_21, hF⟩ := obind hF
      refine g_callVi (As := [.int x3, .int (0 : Int32)]) X dX5_isSo_162 mlX5_167 (fun l D cyy => tX9_dateIn (cx_inj X) l D cyy a2 x3 (0 : Int32) h2 S r_20 q_21) h2 (by decide) rfl rfl (Nat.le_of_ble_eq_true rfl) ?_
      refine g_icmp_ne (tgt := 172) X dX5_isSo_165 (by decide) (fun c_22 => ?_) (fun c_22 => ?_)
      · rw [if_neg c_22] at hF
        refine g_iconst (v := 0) X dX5_isSo_172 (by decide) ?_
        have hF := Option.some.inj hF
        subst hF
        exact g_zret X dX5_isSo_173 (by decide) ho
      · rw [if_pos c_22] at hF
        refine g_iconst (v := 1) X dX5_isSo_168 (by decide) ?_
        refine g_goto (tgt := 173) X dX5_isSo_169 (by decide) ?_
        have hF := Option.some.inj hF
        subst hF
        exact g_zret X dX5_isSo_173 (by decide) ho
  rw [if_neg c_16] at hF
  by_cases c_23 : (gA S 18 (a0 + 1) x1.toNatClampNeg) = 8
  · rw [if_pos c_23] at hF
    refine g_tabIn (tgt := 187) (off := 173) X dX5_isSo_14 (by rw [c_23]; decide) (by rw [c_23]; decide) (by rw [c_23]; decide) (by decide) ?_
    exact (wX5_isSo_s187 X a0 x1 a2 x3 h0 h2 y4 S r ho hF)
  rw [if_neg c_23] at hF
  by_cases c_30 : (gA S 18 (a0 + 1) x1.toNatClampNeg) = 9
  · rw [if_pos c_30] at hF
    refine g_tabIn (tgt := 187) (off := 173) X dX5_isSo_14 (by rw [c_30]; decide) (by rw [c_30]; decide) (by rw [c_30]; decide) (by decide) ?_
    exact (wX5_isSo_s187 X a0 x1 a2 x3 h0 h2 y4 S r ho hF)
  rw [if_neg c_30] at hF
  by_cases c_31 : (gA S 18 (a0 + 1) x1.toNatClampNeg) = 10
  · rw [if_pos c_31] at hF
    refine g_tabIn (tgt := 187) (off := 173) X dX5_isSo_14 (by rw [c_31]; decide) (by rw [c_31]; decide) (by rw [c_31]; decide) (by decide) ?_
    exact (wX5_isSo_s187 X a0 x1 a2 x3 h0 h2 y4 S r ho hF)
  rw [if_neg c_31] at hF
  by_cases c_32 : (gA S 18 (a0 + 1) x1.toNatClampNeg) = 11
  · rw [if_pos c_32] at hF
    refine g_tabIn (tgt := 187) (off := 173) X dX5_isSo_14 (by rw [c_32]; decide) (by rw [c_32]; decide) (by rw [c_32]; decide) (by decide) ?_
    exact (wX5_isSo_s187 X a0 x1 a2 x3 h0 h2 y4 S r ho hF)
  rw [if_neg c_32] at hF
  by_cases c_33 : (gA S 18 (a0 + 1) x1.toNatClampNeg) = 12
  · rw [if_pos c_33] at hF
    refine g_tabIn (tgt := 174) (off := 160) X dX5_isSo_14 (by rw [c_33]; decide) (by rw [c_33]; decide) (by rw [c_33]; decide) (by decide) ?_
    refine g_iload_n X dX5_isSo_174 3 rfl rfl ?_
    refine g_aload_n X dX5_isSo_175 0 rfl rfl ?_
    refine g_getR (f := 2) X dX5_isSo_176 flX5_15 rfl rfl h0 ?_
    refine g_iload_n X dX5_isSo_179 1 rfl rfl ?_
    obtain ⟨e_34, hF⟩ := oguard hF
    refine g_iald X dX5_isSo_180 kd_19 (on_5_1 h0) e_34 ?_
    refine g_iload X dX5_isSo_181 4 rfl ?_
    refine g_callSi (As := [.int x3, .int (gA S 19 (a0 + 2) x1.toNatClampNeg), .int y4]) X dX5_isSo_183 mlX5_170 (fun l D cyy => tX5_compare (cx_inj X) l D cyy x3 (gA S 19 (a0 + 2) x1.toNatClampNeg) y4  S) (by decide) rfl rfl (Nat.le_of_ble_eq_true rfl) ?_
    have hF := Option.some.inj hF
    subst hF
    exact g_zretN X dX5_isSo_186 ho
  rw [if_neg c_33] at hF
  have c_35 : ((gA S 18 (a0 + 1) x1.toNatClampNeg)).toInt < 4 ∨ 12 < ((gA S 18 (a0 + 1) x1.toNatClampNeg)).toInt := by
    have := ti_ne (n := 4) c_3 (by decide)
    have := ti_ne (n := 5) c_8 (by decide)
    have := ti_ne (n := 6) c_9 (by decide)
    have := ti_ne (n := 7) c_16 (by decide)
    have := ti_ne (n := 8) c_23 (by decide)
    have := ti_ne (n := 9) c_30 (by decide)
    have := ti_ne (n := 10) c_31 (by decide)
    have := ti_ne (n := 11) c_32 (by decide)
    have := ti_ne (n := 12) c_33 (by decide)
    omega
  refine g_tabOut (tgt := 187) X dX5_isSo_14 c_35 (by decide) ?_
  exact (wX5_isSo_s187 X a0 x1 a2 x3 h0 h2 y4 S r ho hF)
theorem wX5_isSo {z : Mx} {ad : Nat → Nat} {o : Option Value × St} (X : CxOk z ad RX5 cX5_isSo 5 (some .boolean) 5) (a0 : Nat) (x1 : Int32) (a2 : Nat) (x3 : Int32) (h0 : KT a0 = 5) (h2 : KT a2 = 9) (S : St) (r : Int32) (ho : o = (some (.int r), S)) (hF : fX5_isSo a0 x1 a2 x3 S = some r) : GW z ad o S 0 [(0, .ref (ad a0)), (1, .int x1), (2, .ref (ad a2)), (3, .int x3)] [] := by
  unfold fX5_isSo at hF
  refine g_aload_n X dX5_isSo_0 0 rfl rfl ?_
  refine g_getR (f := 3) X dX5_isSo_1 flX5_18 rfl rfl h0 ?_
  refine g_iload_n X dX5_isSo_4 1 rfl rfl ?_
  obtain ⟨e_1, hF⟩ := oguard hF
  refine g_iald X dX5_isSo_5 kd_20 (on_5_2 h0) e_1 ?_
  refine g_istore X dX5_isSo_6 (by decide) (lv' := [(4, .int (gA S 20 (a0 + 3) x1.toNatClampNeg)), (0, .ref (ad a0)), (1, .int x1), (2, .ref (ad a2)), (3, .int x3)]) rfl ?_
  exact g_perm [1, 2, 3, 4, 0] rfl (wX5_isSo_s8 X a0 x1 a2 x3 h0 h2 (gA S 20 (a0 + 3) x1.toNatClampNeg) S r ho hF)
theorem tX5_isSo {ad : Nat → Nat} (hI : Inj ad) (l : Launch) (D : va_G) (cyy : Nat → ClassId) (a0 : Nat) (x1 : Int32) (a2 : Nat) (x3 : Int32) (h0 : KT a0 = 5) (h2 : KT a2 = 9) (S : St) (r : Int32) (hF : fX5_isSo a0 x1 a2 x3 S = some r) : OkM l yX5_isSo cX5_isSo 5 (some .boolean) 5 ad D cyy [.ref (ad a0), .int x1, .ref (ad a2), .int x3] S (some (.int r), S) := okM_of hI (by decide) (inr_63 _ (List.mem_of_getElem? (i := 4) rfl)) (by show _ ≤ 5; exact Nat.le_of_ble_eq_true rfl) (fun z X => wX5_isSo X a0 x1 a2 x3 h0 h2 S r rfl hF)
def fX5_isTrueOf_s98 (k5 : Int32 → Int32 → Option Int32) (a0 : Nat) (a1 : Nat) (x2 : Int32) (y3 : Int32) (y4 : Int32)  (S : St) : Option Int32 :=
  k5 y3 (y4 + (1 : Int32))
def fX5_isTrueOf_s74 (k5 : Int32 → Int32 → Option Int32) (a0 : Nat) (a1 : Nat) (x2 : Int32) (y3 : Int32) (y4 : Int32)  (S : St) : Option Int32 :=
  fX5_isTrueOf_s98 k5 a0 a1 x2 y3 y4 S
def fX5_isTrueOf_s52 (k5 : Int32 → Int32 → Option Int32) (a0 : Nat) (a1 : Nat) (x2 : Int32) (y3 : Int32) (y4 : Int32)  (S : St) : Option Int32 :=
  fX5_isTrueOf_s98 k5 a0 a1 x2 y3 y4 S
def fX5_isTrueOf_s29 (k5 : Int32 → Int32 → Option Int32) (a0 : Nat) (a1 : Nat) (x2 : Int32) (y3 : Int32) (y4 : Int32)  (S : St) : Option Int32 :=
  fX5_isTrueOf_s98 k5 a0 a1 x2 y3 y4 S
def fX5_isTrueOf_s5 (k5 : Int32 → Int32 → Option Int32) (a0 : Nat) (a1 : Nat) (x2 : Int32) (y3 : Int32) (y4 : Int32)  (S : St) : Option Int32 :=
  if (gI S 5 3 a0) ≤ y4 then (if (y3 &&& (1 : Int32)) = (1 : Int32) then (some (1 : Int32)) else
  (some (0 : Int32))) else
  (if (y4 < 0 ∨ 40 ≤ y4.toNatClampNeg) then none else
  if (gA S 18 (a0 + 1) y4.toNatClampNeg) = (1 : Int32) then (fX5_isTrueOf_s29 k5 a0 a1 x2 (y3 ^^^ (1 : Int32)) y4 S) else
  (if (y4 < 0 ∨ 40 ≤ y4.toNatClampNeg) then none else
  if (gA S 18 (a0 + 1) y4.toNatClampNeg) = (2 : Int32) then (fX5_isTrueOf_s52 k5 a0 a1 x2 ((y3 >>> ((1 : Int32) &&& 31)) &&& (y3 ||| (-2 : Int32))) y4 S) else
  (if (y4 < 0 ∨ 40 ≤ y4.toNatClampNeg) then none else
  if (gA S 18 (a0 + 1) y4.toNatClampNeg) = (3 : Int32) then (fX5_isTrueOf_s74 k5 a0 a1 x2 ((y3 >>> ((1 : Int32) &&& 31)) ||| (y3 &&& (1 : Int32))) y4 S) else
  ((fX5_isSo a0 y4 a1 x2 S).bind fun r_9 =>
  if r_9 = 0 then (fX5_isTrueOf_s98 k5 a0 a1 x2 ((y3 <<< ((1 : Int32) &&& 31)) ||| (0 : Int32)) y4 S) else
  (fX5_isTrueOf_s98 k5 a0 a1 x2 ((y3 <<< ((1 : Int32) &&& 31)) ||| (1 : Int32)) y4 S)))))
def fX5_isTrueOf_h5 (a0 : Nat) (a1 : Nat) (x2 : Int32) : Nat → Int32 → Int32 → St → Option Int32
  | 0, _, _, _ => none
  | n + 1, y3, y4, S => fX5_isTrueOf_s5 (fun y3 y4 => fX5_isTrueOf_h5 a0 a1 x2 n y3 y4 S) a0 a1 x2 y3 y4 S
def fX5_isTrueOf (a0 : Nat) (a1 : Nat) (x2 : Int32) (S : St) : Option Int32 :=
  fX5_isTrueOf_h5 a0 a1 x2 NN (0 : Int32) (0 : Int32) S
theorem wX5_isTrueOf_s98 {z : Mx} {ad : Nat → Nat} {o : Option Value × St} (X : CxOk z ad RX5 cX5_isTrueOf 5 (some .boolean) 6) (a0 : Nat) (a1 : Nat) (x2 : Int32) (h0 : KT a0 = 5) (h1 : KT a1 = 9) (y3 : Int32) (y4 : Int32)  (k5 : Int32 → Int32 → Option Int32)   (S : St) (r : Int32) (ho : o = (some (.int r), S)) (hk5 : ∀ (y3 : Int32) (y4 : Int32), k5 y3 y4 = some r → GW z ad o S 5 [(0, .ref (ad a0)), (1, .ref (ad a1)), (2, .int x2), (3, .int y3), (4, .int y4)] []) (hF : fX5_isTrueOf_s98 k5 a0 a1 x2 y3 y4  S = some r) : GW z ad o S 98 [(0, .ref (ad a0)), (1, .ref (ad a1)), (2, .int x2), (3, .int y3), (4, .int y4)] [] := by
  unfold fX5_isTrueOf_s98 at hF
  refine g_iinc (v := (y4 + (1 : Int32))) X dX5_isTrueOf_98 4 rfl rfl (by decide) (lv' := [(4, .int (y4 + (1 : Int32))), (0, .ref (ad a0)), (1, .ref (ad a1)), (2, .int x2), (3, .int y3)]) rfl ?_
  refine g_goto (tgt := 5) X dX5_isTrueOf_101 (by decide) ?_
  exact g_perm [1, 2, 3, 4, 0] rfl (hk5 y3 (y4 + (1 : Int32)) hF)
theorem wX5_isTrueOf_s74 {z : Mx} {ad : Nat → Nat} {o : Option Value × St} (X : CxOk z ad RX5 cX5_isTrueOf 5 (some .boolean) 6) (a0 : Nat) (a1 : Nat) (x2 : Int32) (h0 : KT a0 = 5) (h1 : KT a1 = 9) (y3 : Int32) (y4 : Int32)  (k5 : Int32 → Int32 → Option Int32)   (S : St) (r : Int32) (ho : o = (some (.int r), S)) (hk5 : ∀ (y3 : Int32) (y4 : Int32), k5 y3 y4 = some r → GW z ad o S 5 [(0, .ref (ad a0)), (1, .ref (ad a1)), (2, .int x2), (3, .int y3), (4, .int y4)] []) (hF : fX5_isTrueOf_s74 k5 a0 a1 x2 y3 y4  S = some r) : GW z ad o S 74 [(0, .ref (ad a0)), (1, .ref (ad a1)), (2, .int x2), (3, .int y3), (4, .int y4)] [] := by
  unfold fX5_isTrueOf_s74 at hF
  refine g_goto (tgt := 98) X dX5_isTrueOf_74 (by decide) ?_
  exact (wX5_isTrueOf_s98 X a0 a1 x2 h0 h1 y3 y4 k5 S r ho hk5 hF)
theorem wX5_isTrueOf_s52 {z : Mx} {ad : Nat → Nat} {o : Option Value × St} (X : CxOk z ad RX5 cX5_isTrueOf 5 (some .boolean) 6) (a0 : Nat) (a1 : Nat) (x2 : Int32) (h0 : KT a0 = 5) (h1 : KT a1 = 9) (y3 : Int32) (y4 : Int32)  (k5 : Int32 → Int32 → Option Int32)   (S : St) (r : Int32) (ho : o = (some (.int r), S)) (hk5 : ∀ (y3 : Int32) (y4 : Int32), k5 y3 y4 = some r → GW z ad o S 5 [(0, .ref (ad a0)), (1, .ref (ad a1)), (2, .int x2), (3, .int y3), (4, .int y4)] []) (hF : fX5_isTrueOf_s52 k5 a0 a1 x2 y3 y4  S = some r) : GW z ad o S 52 [(0, .ref (ad a0)), (1, .ref (ad a1)), (2, .int x2), (3, .int y3), (4, .int y4)] [] := by
  unfold fX5_isTrueOf_s52 at hF
  refine g_goto (tgt := 98) X dX5_isTrueOf_52 (by decide) ?_
  exact (wX5_isTrueOf_s98 X a0 a1 x2 h0 h1 y3 y4 k5 S r ho hk5 hF)
theorem wX5_isTrueOf_s29 {z : Mx} {ad : Nat → Nat} {o : Option Value × St} (X : CxOk z ad RX5 cX5_isTrueOf 5 (some .boolean) 6) (a0 : Nat) (a1 : Nat) (x2 : Int32) (h0 : KT a0 = 5) (h1 : KT a1 = 9) (y3 : Int32) (y4 : Int32)  (k5 : Int32 → Int32 → Option Int32)   (S : St) (r : Int32) (ho : o = (some (.int r), S)) (hk5 : ∀ (y3 : Int32) (y4 : Int32), k5 y3 y4 = some r → GW z ad o S 5 [(0, .ref (ad a0)), (1, .ref (ad a1)), (2, .int x2), (3, .int y3), (4, .int y4)] []) (hF : fX5_isTrueOf_s29 k5 a0 a1 x2 y3 y4  S = some r) : GW z ad o S 29 [(0, .ref (ad a0)), (1, .ref (ad a1)), (2, .int x2), (3, .int y3), (4, .int y4)] [] := by
  unfold fX5_isTrueOf_s29 at hF
  refine g_goto (tgt := 98) X dX5_isTrueOf_29 (by decide) ?_
  exact (wX5_isTrueOf_s98 X a0 a1 x2 h0 h1 y3 y4 k5 S r ho hk5 hF)
theorem wX5_isTrueOf_s5 {z : Mx} {ad : Nat → Nat} {o : Option Value × St} (X : CxOk z ad RX5 cX5_isTrueOf 5 (some .boolean) 6) (a0 : Nat) (a1 : Nat) (x2 : Int32) (h0 : KT a0 = 5) (h1 : KT a1 = 9) (y3 : Int32) (y4 : Int32)  (k5 : Int32 → Int32 → Option Int32)   (S : St) (r : Int32) (ho : o = (some (.int r), S)) (hk5 : ∀ (y3 : Int32) (y4 : Int32), k5 y3 y4 = some r → GW z ad o S 5 [(0, .ref (ad a0)), (1, .ref (ad a1)), (2, .int x2), (3, .int y3), (4, .int y4)] []) (hF : fX5_isTrueOf_s5 k5 a0 a1 x2 y3 y4  S = some r) : GW z ad o S 5 [(0, .ref (ad a0)), (1, .ref (ad a1)), (2, .int x2), (3, .int y3), (4, .int y4)] [] := by
  unfold fX5_isTrueOf_s5 at hF
  refine g_iload X dX5_isTrueOf_5 4 rfl ?_
  refine g_aload_n X dX5_isTrueOf_7 0 rfl rfl ?_
  refine g_getI X dX5_isTrueOf_8 flX5_21 rfl h0 ?_
  refine g_icmp_ge (tgt := 104) X dX5_isTrueOf_11 (by decide) (fun c_1 => ?_) (fun c_1 => ?_)
  · rw [if_pos c_1] at hF
    refine g_iload_n X dX5_isTrueOf_104 3 rfl rfl ?_
    refine g_iconst (v := 1) X dX5_isTrueOf_105 (by decide) ?_
    refine g_iand X dX5_isTrueOf_106 ?_
    refine g_iconst (v := 1) X dX5_isTrueOf_107 (by decide) ?_
    refine g_icmp_ne (tgt := 115) X dX5_isTrueOf_108 (by decide) (fun c_2 => ?_) (fun c_2 => ?_)
    · rw [if_neg c_2] at hF
      refine g_iconst (v := 0) X dX5_isTrueOf_115 (by decide) ?_
      have hF := Option.some.inj hF
      subst hF
      exact g_zret X dX5_isTrueOf_116 (by decide) ho
    · rw [if_pos c_2] at hF
      refine g_iconst (v := 1) X dX5_isTrueOf_111 (by decide) ?_
      refine g_goto (tgt := 116) X dX5_isTrueOf_112 (by decide) ?_
      have hF := Option.some.inj hF
      subst hF
      exact g_zret X dX5_isTrueOf_116 (by decide) ho
  · rw [if_neg c_1] at hF
    refine g_aload_n X dX5_isTrueOf_14 0 rfl rfl ?_
    refine g_getR (f := 1) X dX5_isTrueOf_15 flX5_11 rfl rfl h0 ?_
    refine g_iload X dX5_isTrueOf_18 4 rfl ?_
    obtain ⟨e_3, hF⟩ := oguard hF
    refine g_iald X dX5_isTrueOf_20 kd_18 (on_5_0 h0) e_3 ?_
    refine g_iconst (v := 1) X dX5_isTrueOf_21 (by decide) ?_
    refine g_icmp_ne (tgt := 32) X dX5_isTrueOf_22 (by decide) (fun c_4 => ?_) (fun c_4 => ?_)
    · rw [if_neg c_4] at hF
      refine g_aload_n X dX5_isTrueOf_32 0 rfl rfl ?_
      refine g_getR (f := 1) X dX5_isTrueOf_33 flX5_11 rfl rfl h0 ?_
      refine g_iload X dX5_isTrueOf_36 4 rfl ?_
      obtain ⟨e_5, hF⟩ := oguard hF
      refine g_iald X dX5_isTrueOf_38 kd_18 (on_5_0 h0) e_5 ?_
      refine g_iconst (v := 2) X dX5_isTrueOf_39 (by decide) ?_
      refine g_icmp_ne (tgt := 55) X dX5_isTrueOf_40 (by decide) (fun c_6 => ?_) (fun c_6 => ?_)
      · rw [if_neg c_6] at hF
        refine g_aload_n X dX5_isTrueOf_55 0 rfl rfl ?_
        refine g_getR (f := 1) X dX5_isTrueOf_56 flX5_11 rfl rfl h0 ?_
        refine g_iload X dX5_isTrueOf_59 4 rfl ?_
        obtain ⟨e_7, hF⟩ := oguard hF
        refine g_iald X dX5_isTrueOf_61 kd_18 (on_5_0 h0) e_7 ?_
        refine g_iconst (v := 3) X dX5_isTrueOf_62 (by decide) ?_
        refine g_icmp_ne (tgt := 77) X dX5_isTrueOf_63 (by decide) (fun c_8 => ?_) (fun c_8 => ?_)
        · rw [if_neg c_8] at hF
          refine g_iload_n X dX5_isTrueOf_77 3 rfl rfl ?_
          refine g_iconst (v := 1) X dX5_isTrueOf_78 (by decide) ?_
          refine g_ishl X dX5_isTrueOf_79 ?_
          refine g_aload_n X dX5_isTrueOf_80 0 rfl rfl ?_
          refine g_iload X dX5_isTrueOf_81 4 rfl ?_
          refine g_aload_n X dX5_isTrueOf_83 1 rfl rfl ?_
          refine g_iload_n X dX5_isTrueOf_84 2 rfl rfl ?_
          obtain ⟨r_9, q_10, hF⟩ := obind hF
          refine g_callVi (As := [.int y4, .ref (ad a1), .int x2]) X dX5_isTrueOf_85 mlX5_117 (fun l D cyy => tX5_isSo (cx_inj X) l D cyy a0 y4 a1 x2 h0 h1 S r_9 q_10) h0 (by decide) rfl rfl (Nat.le_of_ble_eq_true rfl) ?_
          refine g_if_eq (tgt := 95) X dX5_isTrueOf_88 (by decide) (fun c_11 => ?_) (fun c_11 => ?_)
          · rw [if_pos c_11] at hF
            refine g_iconst (v := 0) X dX5_isTrueOf_95 (by decide) ?_
            refine g_ior X dX5_isTrueOf_96 ?_
            refine g_istore_n X dX5_isTrueOf_97 rfl (by decide) (lv' := [(3, .int ((y3 <<< ((1 : Int32) &&& 31)) ||| (0 : Int32))), (0, .ref (ad a0)), (1, .ref (ad a1)), (2, .int x2), (4, .int y4)]) rfl ?_
            exact g_perm [1, 2, 3, 0, 4] rfl (wX5_isTrueOf_s98 X a0 a1 x2 h0 h1 ((y3 <<< ((1 : Int32) &&& 31)) ||| (0 : Int32)) y4 k5 S r ho hk5 hF)
          · rw [if_neg c_11] at hF
            refine g_iconst (v := 1) X dX5_isTrueOf_91 (by decide) ?_
            refine g_goto (tgt := 96) X dX5_isTrueOf_92 (by decide) ?_
            refine g_ior X dX5_isTrueOf_96 ?_
            refine g_istore_n X dX5_isTrueOf_97 rfl (by decide) (lv' := [(3, .int ((y3 <<< ((1 : Int32) &&& 31)) ||| (1 : Int32))), (0, .ref (ad a0)), (1, .ref (ad a1)), (2, .int x2), (4, .int y4)]) rfl ?_
            exact g_perm [1, 2, 3, 0, 4] rfl (wX5_isTrueOf_s98 X a0 a1 x2 h0 h1 ((y3 <<< ((1 : Int32) &&& 31)) ||| (1 : Int32)) y4 k5 S r ho hk5 hF)
        · rw [if_pos c_8] at hF
          refine g_iload_n X dX5_isTrueOf_66 3 rfl rfl ?_
          refine g_iconst (v := 1) X dX5_isTrueOf_67 (by decide) ?_
          refine g_ishr X dX5_isTrueOf_68 ?_
          refine g_iload_n X dX5_isTrueOf_69 3 rfl rfl ?_
          refine g_iconst (v := 1) X dX5_isTrueOf_70 (by decide) ?_
          refine g_iand X dX5_isTrueOf_71 ?_
          refine g_ior X dX5_isTrueOf_72 ?_
          refine g_istore_n X dX5_isTrueOf_73 rfl (by decide) (lv' := [(3, .int ((y3 >>> ((1 : Int32) &&& 31)) ||| (y3 &&& (1 : Int32)))), (0, .ref (ad a0)), (1, .ref (ad a1)), (2, .int x2), (4, .int y4)]) rfl ?_
          exact g_perm [1, 2, 3, 0, 4] rfl (wX5_isTrueOf_s74 X a0 a1 x2 h0 h1 ((y3 >>> ((1 : Int32) &&& 31)) ||| (y3 &&& (1 : Int32))) y4 k5 S r ho hk5 hF)
      · rw [if_pos c_6] at hF
        refine g_iload_n X dX5_isTrueOf_43 3 rfl rfl ?_
        refine g_iconst (v := 1) X dX5_isTrueOf_44 (by decide) ?_
        refine g_ishr X dX5_isTrueOf_45 ?_
        refine g_iload_n X dX5_isTrueOf_46 3 rfl rfl ?_
        refine g_bipush (v := -2) X dX5_isTrueOf_47 (by decide) ?_
        refine g_ior X dX5_isTrueOf_49 ?_
        refine g_iand X dX5_isTrueOf_50 ?_
        refine g_istore_n X dX5_isTrueOf_51 rfl (by decide) (lv' := [(3, .int ((y3 >>> ((1 : Int32) &&& 31)) &&& (y3 ||| (-2 : Int32)))), (0, .ref (ad a0)), (1, .ref (ad a1)), (2, .int x2), (4, .int y4)]) rfl ?_
        exact g_perm [1, 2, 3, 0, 4] rfl (wX5_isTrueOf_s52 X a0 a1 x2 h0 h1 ((y3 >>> ((1 : Int32) &&& 31)) &&& (y3 ||| (-2 : Int32))) y4 k5 S r ho hk5 hF)
    · rw [if_pos c_4] at hF
      refine g_iload_n X dX5_isTrueOf_25 3 rfl rfl ?_
      refine g_iconst (v := 1) X dX5_isTrueOf_26 (by decide) ?_
      refine g_ixor X dX5_isTrueOf_27 ?_
      refine g_istore_n X dX5_isTrueOf_28 rfl (by decide) (lv' := [(3, .int (y3 ^^^ (1 : Int32))), (0, .ref (ad a0)), (1, .ref (ad a1)), (2, .int x2), (4, .int y4)]) rfl ?_
      exact g_perm [1, 2, 3, 0, 4] rfl (wX5_isTrueOf_s29 X a0 a1 x2 h0 h1 (y3 ^^^ (1 : Int32)) y4 k5 S r ho hk5 hF)
theorem wX5_isTrueOf_h5 {z : Mx} {ad : Nat → Nat} {o : Option Value × St} (X : CxOk z ad RX5 cX5_isTrueOf 5 (some .boolean) 6) (a0 : Nat) (a1 : Nat) (x2 : Int32) (h0 : KT a0 = 5) (h1 : KT a1 = 9)  (S : St) (r : Int32) (ho : o = (some (.int r), S)) : ∀ (n : Nat) (y3 : Int32) (y4 : Int32), fX5_isTrueOf_h5 a0 a1 x2 n y3 y4 S = some r → GW z ad o S 5 [(0, .ref (ad a0)), (1, .ref (ad a1)), (2, .int x2), (3, .int y3), (4, .int y4)] [] := by
  intro n
  induction n with
  | zero => intro y3 y4  hF; cases hF
  | succ n ih => intro y3 y4  hF; exact wX5_isTrueOf_s5 X a0 a1 x2 h0 h1 y3 y4 (fun y3 y4 => fX5_isTrueOf_h5 a0 a1 x2 n y3 y4 S)  S r ho (fun y3 y4 hF => ih y3 y4  hF) hF
theorem wX5_isTrueOf {z : Mx} {ad : Nat → Nat} {o : Option Value × St} (X : CxOk z ad RX5 cX5_isTrueOf 5 (some .boolean) 6) (a0 : Nat) (a1 : Nat) (x2 : Int32) (h0 : KT a0 = 5) (h1 : KT a1 = 9) (S : St) (r : Int32) (ho : o = (some (.int r), S)) (hF : fX5_isTrueOf a0 a1 x2 S = some r) : GW z ad o S 0 [(0, .ref (ad a0)), (1, .ref (ad a1)), (2, .int x2)] [] := by
  unfold fX5_isTrueOf at hF
  refine g_iconst (v := 0) X dX5_isTrueOf_0 (by decide) ?_
  refine g_istore_n X dX5_isTrueOf_1 rfl (by decide) (lv' := [(3, .int (0 : Int32)), (0, .ref (ad a0)), (1, .ref (ad a1)), (2, .int x2)]) rfl ?_
  refine g_iconst (v := 0) X dX5_isTrueOf_2 (by decide) ?_
  refine g_istore X dX5_isTrueOf_3 (by decide) (lv' := [(4, .int (0 : Int32)), (3, .int (0 : Int32)), (0, .ref (ad a0)), (1, .ref (ad a1)), (2, .int x2)]) rfl ?_
  exact g_perm [2, 3, 4, 1, 0] rfl (wX5_isTrueOf_h5 X a0 a1 x2 h0 h1 S r ho NN (0 : Int32) (0 : Int32) hF)
theorem tX5_isTrueOf {ad : Nat → Nat} (hI : Inj ad) (l : Launch) (D : va_G) (cyy : Nat → ClassId) (a0 : Nat) (a1 : Nat) (x2 : Int32) (h0 : KT a0 = 5) (h1 : KT a1 = 9) (S : St) (r : Int32) (hF : fX5_isTrueOf a0 a1 x2 S = some r) : OkM l yX5_isTrueOf cX5_isTrueOf 5 (some .boolean) 6 ad D cyy [.ref (ad a0), .ref (ad a1), .int x2] S (some (.int r), S) := okM_of hI (by decide) (inr_63 _ (List.mem_of_getElem? (i := 0) rfl)) (by show _ ≤ 5; exact Nat.le_of_ble_eq_true rfl) (fun z X => wX5_isTrueOf X a0 a1 x2 h0 h1 S r rfl hF)
def fX1_readDeed_s37 (a0 : Nat)   (S : St) : Option (Int32 × St) :=
  (fX6_advance a0 S).bind fun r_3 =>
  some ((0 : Int32), r_3)
def fX1_readDeed_s21 (a0 : Nat)  (t0 : Int32) (S : St) : Option (Int32 × St) :=
  some (t0, S)
def fX1_readDeed (a0 : Nat) (S : St) : Option (Int32 × St) :=
  if (fX6_isAt a0 (495723311219 : Int64) S) = 0 then (if (fX6_isAt a0 (448545973363 : Int64) S) = 0 then (fX1_readDeed_s37 a0 (fX6_fail a0 (1 : Int32) S)) else
  (fX1_readDeed_s37 a0 S)) else
  ((fX6_advance a0 S).bind fun r_5 =>
  (fX6_takeNumber a0 (1 : Int32) (99 : Int32) r_5).bind fun r_7 =>
  fX1_readDeed_s21 a0 r_7.1 r_7.2)
theorem wX1_readDeed_s37 {z : Mx} {ad : Nat → Nat} {o : Option Value × St} (X : CxOk z ad RX1 cX1_readDeed 1 (some .int) 4) (a0 : Nat) (h0 : KT a0 = 6)     (S : St) (r : (Int32 × St)) (ho : o = (some (.int r.1), r.2)) (hF : fX1_readDeed_s37 a0   S = some r) : GW z ad o S 37 [(0, .ref (ad a0))] [] := by
  unfold fX1_readDeed_s37 at hF
  refine g_aload_n X dX1_readDeed_37 0 rfl rfl ?_
  obtain ⟨r_3, q_4, hF⟩ := obind hF
  refine g_callVv (As := []) X dX1_readDeed_38 mlX1_54 (fun l D cyy => tX6_advance (cx_inj X) l D cyy a0 h0 S r_3 q_4) h0 (by decide) rfl rfl (Nat.le_of_ble_eq_true rfl) ?_
  refine g_iconst (v := 0) X dX1_readDeed_41 (by decide) ?_
  have hF := Option.some.inj hF
  subst hF
  exact g_iret X dX1_readDeed_42 ho
theorem wX1_readDeed_s21 {z : Mx} {ad : Nat → Nat} {o : Option Value × St} (X : CxOk z ad RX1 cX1_readDeed 1 (some .int) 4) (a0 : Nat) (h0 : KT a0 = 6)  (t0 : Int32)   (S : St) (r : (Int32 × St)) (ho : o = (some (.int r.1), r.2)) (hF : fX1_readDeed_s21 a0  t0 S = some r) : GW z ad o S 21 [] [.int t0] := by
  unfold fX1_readDeed_s21 at hF
  have hF := Option.some.inj hF
  subst hF
  exact g_iret X dX1_readDeed_21 ho
theorem wX1_readDeed {z : Mx} {ad : Nat → Nat} {o : Option Value × St} (X : CxOk z ad RX1 cX1_readDeed 1 (some .int) 4) (a0 : Nat) (h0 : KT a0 = 6) (S : St) (r : (Int32 × St)) (ho : o = (some (.int r.1), r.2)) (hF : fX1_readDeed a0 S = some r) : GW z ad o S 0 [(0, .ref (ad a0))] [] := by
  unfold fX1_readDeed at hF
  refine g_aload_n X dX1_readDeed_0 0 rfl rfl ?_
  refine g_ldc2 (v := 495723311219) X dX1_readDeed_1 (inr_56 _ (List.mem_of_getElem? (i := 15) rfl)) ?_
  refine g_callVi (As := [.long (495723311219 : Int64)]) X dX1_readDeed_4 mlX1_41 (fun l D cyy => tX6_isAt (cx_inj X) l D cyy a0 (495723311219 : Int64) h0 S) h0 (by decide) rfl rfl (Nat.le_of_ble_eq_true rfl) ?_
  refine g_if_eq (tgt := 22) X dX1_readDeed_7 (by decide) (fun c_1 => ?_) (fun c_1 => ?_)
  · rw [if_pos c_1] at hF
    refine g_aload_n X dX1_readDeed_22 0 rfl rfl ?_
    refine g_ldc2 (v := 448545973363) X dX1_readDeed_23 (inr_56 _ (List.mem_of_getElem? (i := 16) rfl)) ?_
    refine g_callVi (As := [.long (448545973363 : Int64)]) X dX1_readDeed_26 mlX1_41 (fun l D cyy => tX6_isAt (cx_inj X) l D cyy a0 (448545973363 : Int64) h0 S) h0 (by decide) rfl rfl (Nat.le_of_ble_eq_true rfl) ?_
    refine g_if_ne (tgt := 37) X dX1_readDeed_29 (by decide) (fun c_2 => ?_) (fun c_2 => ?_)
    · rw [if_neg c_2] at hF
      exact (wX1_readDeed_s37 X a0 h0 S r ho hF)
    · rw [if_pos c_2] at hF
      refine g_aload_n X dX1_readDeed_32 0 rfl rfl ?_
      refine g_iconst (v := 1) X dX1_readDeed_33 (by decide) ?_
      refine g_callVv (As := [.int (1 : Int32)]) X dX1_readDeed_34 mlX1_51 (fun l D cyy => tX6_fail (cx_inj X) l D cyy a0 (1 : Int32) h0 S) h0 (by decide) rfl rfl (Nat.le_of_ble_eq_true rfl) ?_
      exact (wX1_readDeed_s37 X a0 h0 (fX6_fail a0 (1 : Int32) S) r ho hF)
  · rw [if_neg c_1] at hF
    refine g_aload_n X dX1_readDeed_10 0 rfl rfl ?_
    obtain ⟨r_5, q_6, hF⟩ := obind hF
    refine g_callVv (As := []) X dX1_readDeed_11 mlX1_54 (fun l D cyy => tX6_advance (cx_inj X) l D cyy a0 h0 S r_5 q_6) h0 (by decide) rfl rfl (Nat.le_of_ble_eq_true rfl) ?_
    refine g_aload_n X dX1_readDeed_14 0 rfl rfl ?_
    refine g_iconst (v := 1) X dX1_readDeed_15 (by decide) ?_
    refine g_bipush (v := 99) X dX1_readDeed_16 (by decide) ?_
    obtain ⟨r_7, q_8, hF⟩ := obind hF
    refine g_callVi (As := [.int (1 : Int32), .int (99 : Int32)]) X dX1_readDeed_18 mlX1_57 (fun l D cyy => tX6_takeNumber (cx_inj X) l D cyy a0 (1 : Int32) (99 : Int32) h0 r_5 r_7 q_8) h0 (by decide) rfl rfl (Nat.le_of_ble_eq_true rfl) ?_
    exact g_perm [] rfl (wX1_readDeed_s21 X a0 h0 r_7.1 r_7.2 r ho hF)
theorem tX1_readDeed {ad : Nat → Nat} (hI : Inj ad) (l : Launch) (D : va_G) (cyy : Nat → ClassId) (a0 : Nat) (h0 : KT a0 = 6) (S : St) (r : (Int32 × St)) (hF : fX1_readDeed a0 S = some r) : OkM l yX1_readDeed cX1_readDeed 1 (some .int) 4 ad D cyy [.ref (ad a0)] S (some (.int r.1), r.2) := okM_of hI (by decide) (inr_56 _ (List.mem_of_getElem? (i := 14) rfl)) (by show _ ≤ 1; exact Nat.le_of_ble_eq_true rfl) (fun z X => wX1_readDeed X a0 h0 S r rfl hF)
def fX1_readLine_s92 (a0 : Nat) (a1 : Nat) (a2 : Nat)   (S : St) : Option St :=
  some (sI S 1 2 a0 ((gI S 1 2 a0) + (1 : Int32)))
def fX1_readLine_s91 (a0 : Nat) (a1 : Nat) (a2 : Nat)  (t0 : Nat) (t1 : Int32) (t2 : Int32) (S : St) : Option St :=
  if (t1 < 0 ∨ 40 ≤ t1.toNatClampNeg) then none else
  fX1_readLine_s92 a0 a1 a2 (sA S 22 t0 t1.toNatClampNeg t2)
def fX1_readLine_s84 (a0 : Nat) (a1 : Nat) (a2 : Nat)  (t0 : Nat) (t1 : Int32) (t2 : Int32) (S : St) : Option St :=
  if (t1 < 0 ∨ 40 ≤ t1.toNatClampNeg) then none else
  fX1_readLine_s92 a0 a1 a2 (sA S 22 t0 t1.toNatClampNeg t2)
def fX1_readLine_s64 (a0 : Nat) (a1 : Nat) (a2 : Nat) (y3 : Int32)  (S : St) : Option St :=
  if y3 = 0 then ((fX1_readDeed a1 S).bind fun r_10 =>
  fX1_readLine_s91 a0 a1 a2 (a0 + 2) (gI S 1 2 a0) r_10.1 r_10.2) else
  ((fX6_takeNumber a1 (1 : Int32) (999 : Int32) S).bind fun r_13 =>
  fX1_readLine_s84 a0 a1 a2 (a0 + 2) (gI S 1 2 a0) r_13.1 r_13.2)
def fX1_readLine_s34 (a0 : Nat) (a1 : Nat) (a2 : Nat) (y3 : Int32) (y4 : Int32)  (S : St) : Option St :=
  if (gI S 1 2 a0) < (40 : Int32) then ((fX6_advance a1 S).bind fun r_6 =>
  if ((gI r_6 1 2 a0) < 0 ∨ 40 ≤ (gI r_6 1 2 a0).toNatClampNeg) then none else
  fX1_readLine_s64 a0 a1 a2 y3 (sA r_6 21 (a0 + 1) ((gI r_6 1 2 a0).toNatClampNeg) y4)) else
  (some (fX6_fail a1 (4 : Int32) S))
def fX1_readLine_s21 (a0 : Nat) (a1 : Nat) (a2 : Nat) (y3 : Int32) (t0 : Int32) (S : St) : Option St :=
  if y3 = 0 then (if t0 = (-1 : Int32) then (some S) else
  (fX1_readLine_s34 a0 a1 a2 y3 t0 S)) else
  (fX1_readLine_s34 a0 a1 a2 y3 t0 S)
def fX1_readLine_s8 (a0 : Nat) (a1 : Nat) (a2 : Nat) (y3 : Int32)  (S : St) : Option St :=
  if y3 = 0 then ((fX8_parishAt a2 a1 S).bind fun r_2 =>
  fX1_readLine_s21 a0 a1 a2 y3 r_2.1 r_2.2) else
  (if y3 = 0 then (some S) else
  (fX1_readLine_s34 a0 a1 a2 y3 (-1 : Int32) S))
def fX1_readLine (a0 : Nat) (a1 : Nat) (a2 : Nat) (S : St) : Option St :=
  fX1_readLine_s8 a0 a1 a2 (fX6_isAt a1 (6578553 : Int64) S) S
theorem wX1_readLine_s92 {z : Mx} {ad : Nat → Nat} {o : Option Value × St} (X : CxOk z ad RX1 cX1_readLine 5 none 5) (a0 : Nat) (a1 : Nat) (a2 : Nat) (h0 : KT a0 = 1) (h1 : KT a1 = 6) (h2 : KT a2 = 8)     (S : St) (r : St) (ho : o = (none, r)) (hF : fX1_readLine_s92 a0 a1 a2   S = some r) : GW z ad o S 92 [(0, .ref (ad a0))] [] := by
  unfold fX1_readLine_s92 at hF
  refine g_aload_n X dX1_readLine_92 0 rfl rfl ?_
  refine g_dup (a := .ref (ad a0)) X dX1_readLine_93 rfl ?_
  refine g_getI X dX1_readLine_94 flX1_24 rfl h0 ?_
  refine g_iconst (v := 1) X dX1_readLine_97 (by decide) ?_
  refine g_iadd X dX1_readLine_98 ?_
  refine g_putI X dX1_readLine_99 fpX1_24 rfl rfl rfl h0 ?_
  have hF := Option.some.inj hF
  subst hF
  exact g_vret X dX1_readLine_102 ho
theorem wX1_readLine_s91 {z : Mx} {ad : Nat → Nat} {o : Option Value × St} (X : CxOk z ad RX1 cX1_readLine 5 none 5) (a0 : Nat) (a1 : Nat) (a2 : Nat) (h0 : KT a0 = 1) (h1 : KT a1 = 6) (h2 : KT a2 = 8)  (t0 : Nat) (t1 : Int32) (t2 : Int32)  (gt0 : KT t0 = 22) (S : St) (r : St) (ho : o = (none, r)) (hF : fX1_readLine_s91 a0 a1 a2  t0 t1 t2 S = some r) : GW z ad o S 91 [(0, .ref (ad a0))] [.int t2, .int t1, .ref (ad t0)] := by
  unfold fX1_readLine_s91 at hF
  obtain ⟨e_12, hF⟩ := oguard hF
  refine g_iast X dX1_readLine_91 kd_22 gt0 e_12 ?_
  exact (wX1_readLine_s92 X a0 a1 a2 h0 h1 h2 (sA S 22 t0 t1.toNatClampNeg t2) r ho hF)
theorem wX1_readLine_s84 {z : Mx} {ad : Nat → Nat} {o : Option Value × St} (X : CxOk z ad RX1 cX1_readLine 5 none 5) (a0 : Nat) (a1 : Nat) (a2 : Nat) (h0 : KT a0 = 1) (h1 : KT a1 = 6) (h2 : KT a2 = 8)  (t0 : Nat) (t1 : Int32) (t2 : Int32)  (gt0 : KT t0 = 22) (S : St) (r : St) (ho : o = (none, r)) (hF : fX1_readLine_s84 a0 a1 a2  t0 t1 t2 S = some r) : GW z ad o S 84 [(0, .ref (ad a0))] [.int t2, .int t1, .ref (ad t0)] := by
  unfold fX1_readLine_s84 at hF
  refine g_goto (tgt := 91) X dX1_readLine_84 (by decide) ?_
  obtain ⟨e_15, hF⟩ := oguard hF
  refine g_iast X dX1_readLine_91 kd_22 gt0 e_15 ?_
  exact (wX1_readLine_s92 X a0 a1 a2 h0 h1 h2 (sA S 22 t0 t1.toNatClampNeg t2) r ho hF)
theorem wX1_readLine_s64 {z : Mx} {ad : Nat → Nat} {o : Option Value × St} (X : CxOk z ad RX1 cX1_readLine 5 none 5) (a0 : Nat) (a1 : Nat) (a2 : Nat) (h0 : KT a0 = 1) (h1 : KT a1 = 6) (h2 : KT a2 = 8) (y3 : Int32)    (S : St) (r : St) (ho : o = (none, r)) (hF : fX1_readLine_s64 a0 a1 a2 y3  S = some r) : GW z ad o S 64 [(0, .ref (ad a0)), (1, .ref (ad a1)), (3, .int y3)] [] := by
  unfold fX1_readLine_s64 at hF
  refine g_aload_n X dX1_readLine_64 0 rfl rfl ?_
  refine g_getR (f := 2) X dX1_readLine_65 flX1_15 rfl rfl h0 ?_
  refine g_aload_n X dX1_readLine_68 0 rfl rfl ?_
  refine g_getI X dX1_readLine_69 flX1_24 rfl h0 ?_
  refine g_iload_n X dX1_readLine_72 2 rfl rfl ?_
  refine g_if_eq (tgt := 87) X dX1_readLine_73 (by decide) (fun c_9 => ?_) (fun c_9 => ?_)
  · rw [if_pos c_9] at hF
    refine g_aload_n X dX1_readLine_87 1 rfl rfl ?_
    obtain ⟨r_10, q_11, hF⟩ := obind hF
    refine g_callSi (As := [.ref (ad a1)]) X dX1_readLine_88 mlX1_61 (fun l D cyy => tX1_readDeed (cx_inj X) l D cyy a1 h1 S r_10 q_11) (by decide) rfl rfl (Nat.le_of_ble_eq_true rfl) ?_
    exact g_perm [0] rfl (wX1_readLine_s91 X a0 a1 a2 h0 h1 h2 (a0 + 2) (gI S 1 2 a0) r_10.1 (on_1_1 h0) r_10.2 r ho hF)
  · rw [if_neg c_9] at hF
    refine g_aload_n X dX1_readLine_76 1 rfl rfl ?_
    refine g_iconst (v := 1) X dX1_readLine_77 (by decide) ?_
    refine g_sipush (v := 999) X dX1_readLine_78 (by decide) ?_
    obtain ⟨r_13, q_14, hF⟩ := obind hF
    refine g_callVi (As := [.int (1 : Int32), .int (999 : Int32)]) X dX1_readLine_81 mlX1_57 (fun l D cyy => tX6_takeNumber (cx_inj X) l D cyy a1 (1 : Int32) (999 : Int32) h1 S r_13 q_14) h1 (by decide) rfl rfl (Nat.le_of_ble_eq_true rfl) ?_
    exact g_perm [0] rfl (wX1_readLine_s84 X a0 a1 a2 h0 h1 h2 (a0 + 2) (gI S 1 2 a0) r_13.1 (on_1_1 h0) r_13.2 r ho hF)
theorem wX1_readLine_s34 {z : Mx} {ad : Nat → Nat} {o : Option Value × St} (X : CxOk z ad RX1 cX1_readLine 5 none 5) (a0 : Nat) (a1 : Nat) (a2 : Nat) (h0 : KT a0 = 1) (h1 : KT a1 = 6) (h2 : KT a2 = 8) (y3 : Int32) (y4 : Int32)    (S : St) (r : St) (ho : o = (none, r)) (hF : fX1_readLine_s34 a0 a1 a2 y3 y4  S = some r) : GW z ad o S 34 [(0, .ref (ad a0)), (1, .ref (ad a1)), (3, .int y3), (4, .int y4)] [] := by
  unfold fX1_readLine_s34 at hF
  refine g_aload_n X dX1_readLine_34 0 rfl rfl ?_
  refine g_getI X dX1_readLine_35 flX1_24 rfl h0 ?_
  refine g_bipush (v := 40) X dX1_readLine_38 (by decide) ?_
  refine g_icmp_lt (tgt := 49) X dX1_readLine_40 (by decide) (fun c_5 => ?_) (fun c_5 => ?_)
  · rw [if_pos c_5] at hF
    refine g_aload_n X dX1_readLine_49 1 rfl rfl ?_
    obtain ⟨r_6, q_7, hF⟩ := obind hF
    refine g_callVv (As := []) X dX1_readLine_50 mlX1_54 (fun l D cyy => tX6_advance (cx_inj X) l D cyy a1 h1 S r_6 q_7) h1 (by decide) rfl rfl (Nat.le_of_ble_eq_true rfl) ?_
    refine g_aload_n X dX1_readLine_53 0 rfl rfl ?_
    refine g_getR (f := 1) X dX1_readLine_54 flX1_9 rfl rfl h0 ?_
    refine g_aload_n X dX1_readLine_57 0 rfl rfl ?_
    refine g_getI X dX1_readLine_58 flX1_24 rfl h0 ?_
    refine g_iload X dX1_readLine_61 3 rfl ?_
    obtain ⟨e_8, hF⟩ := oguard hF
    refine g_iast X dX1_readLine_63 kd_21 (on_1_0 h0) e_8 ?_
    exact g_perm [0, 1, 2] rfl (wX1_readLine_s64 X a0 a1 a2 h0 h1 h2 y3 (sA r_6 21 (a0 + 1) ((gI r_6 1 2 a0).toNatClampNeg) y4) r ho hF)
  · rw [if_neg c_5] at hF
    refine g_aload_n X dX1_readLine_43 1 rfl rfl ?_
    refine g_iconst (v := 4) X dX1_readLine_44 (by decide) ?_
    refine g_callVv (As := [.int (4 : Int32)]) X dX1_readLine_45 mlX1_51 (fun l D cyy => tX6_fail (cx_inj X) l D cyy a1 (4 : Int32) h1 S) h1 (by decide) rfl rfl (Nat.le_of_ble_eq_true rfl) ?_
    have hF := Option.some.inj hF
    subst hF
    exact g_vret X dX1_readLine_48 ho
theorem wX1_readLine_s21 {z : Mx} {ad : Nat → Nat} {o : Option Value × St} (X : CxOk z ad RX1 cX1_readLine 5 none 5) (a0 : Nat) (a1 : Nat) (a2 : Nat) (h0 : KT a0 = 1) (h1 : KT a1 = 6) (h2 : KT a2 = 8) (y3 : Int32) (t0 : Int32)   (S : St) (r : St) (ho : o = (none, r)) (hF : fX1_readLine_s21 a0 a1 a2 y3 t0 S = some r) : GW z ad o S 21 [(0, .ref (ad a0)), (1, .ref (ad a1)), (3, .int y3)] [.int t0] := by
  unfold fX1_readLine_s21 at hF
  refine g_istore X dX1_readLine_21 (by decide) (lv' := [(4, .int t0), (0, .ref (ad a0)), (1, .ref (ad a1)), (3, .int y3)]) rfl ?_
  refine g_iload_n X dX1_readLine_23 3 rfl rfl ?_
  refine g_if_ne (tgt := 34) X dX1_readLine_24 (by decide) (fun c_4 => ?_) (fun c_4 => ?_)
  · rw [if_neg c_4] at hF
    exact g_perm [1, 2, 3, 0] rfl (wX1_readLine_s34 X a0 a1 a2 h0 h1 h2 y3 t0 S r ho hF)
  · rw [if_pos c_4] at hF
    refine g_iload X dX1_readLine_27 0 rfl ?_
    refine g_iconst (v := -1) X dX1_readLine_29 (by decide) ?_
    refine g_icmp_ne (tgt := 34) X dX1_readLine_30 (by decide) (fun c_16 => ?_) (fun c_16 => ?_)
    · rw [if_neg c_16] at hF
      exact g_perm [1, 2, 3, 0] rfl (wX1_readLine_s34 X a0 a1 a2 h0 h1 h2 y3 t0 S r ho hF)
    · rw [if_pos c_16] at hF
      have hF := Option.some.inj hF
      subst hF
      exact g_vret X dX1_readLine_33 ho
theorem wX1_readLine_s8 {z : Mx} {ad : Nat → Nat} {o : Option Value × St} (X : CxOk z ad RX1 cX1_readLine 5 none 5) (a0 : Nat) (a1 : Nat) (a2 : Nat) (h0 : KT a0 = 1) (h1 : KT a1 = 6) (h2 : KT a2 = 8) (y3 : Int32)    (S : St) (r : St) (ho : o = (none, r)) (hF : fX1_readLine_s8 a0 a1 a2 y3  S = some r) : GW z ad o S 8 [(0, .ref (ad a0)), (1, .ref (ad a1)), (2, .ref (ad a2)), (3, .int y3)] [] := by
  unfold fX1_readLine_s8 at hF
  refine g_iload_n X dX1_readLine_8 3 rfl rfl ?_
  refine g_if_eq (tgt := 16) X dX1_readLine_9 (by decide) (fun c_1 => ?_) (fun c_1 => ?_)
  · rw [if_pos c_1] at hF
    refine g_aload_n X dX1_readLine_16 2 rfl rfl ?_
    refine g_aload_n X dX1_readLine_17 1 rfl rfl ?_
    obtain ⟨r_2, q_3, hF⟩ := obind hF
    refine g_callVi (As := [.ref (ad a1)]) X dX1_readLine_18 mlX1_45 (fun l D cyy => tX8_parishAt (cx_inj X) l D cyy a2 a1 h2 h1 S r_2 q_3) h2 (by decide) rfl rfl (Nat.le_of_ble_eq_true rfl) ?_
    exact g_perm [0, 1, 3] rfl (wX1_readLine_s21 X a0 a1 a2 h0 h1 h2 y3 r_2.1 r_2.2 r ho hF)
  · rw [if_neg c_1] at hF
    refine g_iconst (v := -1) X dX1_readLine_12 (by decide) ?_
    refine g_goto (tgt := 21) X dX1_readLine_13 (by decide) ?_
    refine g_istore X dX1_readLine_21 (by decide) (lv' := [(4, .int (-1 : Int32)), (0, .ref (ad a0)), (1, .ref (ad a1)), (2, .ref (ad a2)), (3, .int y3)]) rfl ?_
    refine g_iload_n X dX1_readLine_23 4 rfl rfl ?_
    refine g_if_ne (tgt := 34) X dX1_readLine_24 (by decide) (fun c_17 => ?_) (fun c_17 => ?_)
    · rw [if_neg c_17] at hF
      exact g_perm [1, 2, 4, 0] rfl (wX1_readLine_s34 X a0 a1 a2 h0 h1 h2 y3 (-1 : Int32) S r ho hF)
    · rw [if_pos c_17] at hF
      refine g_iload X dX1_readLine_27 0 rfl ?_
      refine g_iconst (v := -1) X dX1_readLine_29 (by decide) ?_
      refine g_icmp_ne (tgt := 34) X dX1_readLine_30 (by decide) (fun c0 => absurd c0 (by decide)) (fun _ => ?_)
      have hF := Option.some.inj hF
      subst hF
      exact g_vret X dX1_readLine_33 ho
theorem wX1_readLine {z : Mx} {ad : Nat → Nat} {o : Option Value × St} (X : CxOk z ad RX1 cX1_readLine 5 none 5) (a0 : Nat) (a1 : Nat) (a2 : Nat) (h0 : KT a0 = 1) (h1 : KT a1 = 6) (h2 : KT a2 = 8) (S : St) (r : St) (ho : o = (none, r)) (hF : fX1_readLine a0 a1 a2 S = some r) : GW z ad o S 0 [(0, .ref (ad a0)), (1, .ref (ad a1)), (2, .ref (ad a2))] [] := by
  unfold fX1_readLine at hF
  refine g_aload_n X dX1_readLine_0 1 rfl rfl ?_
  refine g_ldc2 (v := 6578553) X dX1_readLine_1 (inr_56 _ (List.mem_of_getElem? (i := 6) rfl)) ?_
  refine g_callVi (As := [.long (6578553 : Int64)]) X dX1_readLine_4 mlX1_41 (fun l D cyy => tX6_isAt (cx_inj X) l D cyy a1 (6578553 : Int64) h1 S) h1 (by decide) rfl rfl (Nat.le_of_ble_eq_true rfl) ?_
  refine g_istore_n X dX1_readLine_7 rfl (by decide) (lv' := [(3, .int (fX6_isAt a1 (6578553 : Int64) S)), (0, .ref (ad a0)), (1, .ref (ad a1)), (2, .ref (ad a2))]) rfl ?_
  exact g_perm [1, 2, 3, 0] rfl (wX1_readLine_s8 X a0 a1 a2 h0 h1 h2 (fX6_isAt a1 (6578553 : Int64) S) S r ho hF)
theorem tX1_readLine {ad : Nat → Nat} (hI : Inj ad) (l : Launch) (D : va_G) (cyy : Nat → ClassId) (a0 : Nat) (a1 : Nat) (a2 : Nat) (h0 : KT a0 = 1) (h1 : KT a1 = 6) (h2 : KT a2 = 8) (S : St) (r : St) (hF : fX1_readLine a0 a1 a2 S = some r) : OkM l yX1_readLine cX1_readLine 5 none 5 ad D cyy [.ref (ad a0), .ref (ad a1), .ref (ad a2)] S (none, r) := okM_of hI (by decide) (inr_56 _ (List.mem_of_getElem? (i := 5) rfl)) (by show _ ≤ 5; exact Nat.le_of_ble_eq_true rfl) (fun z X => wX1_readLine X a0 a1 a2 h0 h1 h2 S r rfl hF)
def fX1_readFrom_s14 (k14 : Int32 → St → Option St) (a0 : Nat) (a1 : Nat) (a2 : Nat) (y3 : Int32)  (S : St) : Option St :=
  if (40 : Int32) < y3 then (some S) else
  (if (fX6_goesOn a1 S) = 0 then (some S) else
  ((fX1_readLine a0 a1 a2 S).bind fun r_5 =>
  (fX6_takeSign a1 (59 : Int32) r_5).bind fun r_7 =>
  k14 (y3 + (1 : Int32)) r_7))
def fX1_readFrom_h14 (a0 : Nat) (a1 : Nat) (a2 : Nat) : Nat → Int32 → St → Option St
  | 0, _, _ => none
  | n + 1, y3, S => fX1_readFrom_s14 (fX1_readFrom_h14 a0 a1 a2 n) a0 a1 a2 y3 S
def fX1_readFrom_s12 (a0 : Nat) (a1 : Nat) (a2 : Nat)   (S : St) : Option St :=
  fX1_readFrom_h14 a0 a1 a2 NN (0 : Int32) S
def fX1_readFrom (a0 : Nat) (a1 : Nat) (a2 : Nat) (S : St) : Option St :=
  (fX6_open a1 (400 : Int32) S).bind fun r_1 =>
  fX1_readFrom_s12 a0 a1 a2 (sI r_1 1 2 a0 (0 : Int32))
theorem wX1_readFrom_s14 {z : Mx} {ad : Nat → Nat} {o : Option Value × St} (X : CxOk z ad RX1 cX1_readFrom 4 none 6) (a0 : Nat) (a1 : Nat) (a2 : Nat) (h0 : KT a0 = 1) (h1 : KT a1 = 6) (h2 : KT a2 = 8) (y3 : Int32)  (k14 : Int32 → St → Option St)   (S : St) (r : St) (ho : o = (none, r)) (hk14 : ∀ (y3 : Int32) (S : St), k14 y3 S = some r → GW z ad o S 14 [(0, .ref (ad a0)), (1, .ref (ad a1)), (2, .ref (ad a2)), (3, .int y3)] []) (hF : fX1_readFrom_s14 k14 a0 a1 a2 y3  S = some r) : GW z ad o S 14 [(0, .ref (ad a0)), (1, .ref (ad a1)), (2, .ref (ad a2)), (3, .int y3)] [] := by
  unfold fX1_readFrom_s14 at hF
  refine g_iload_n X dX1_readFrom_14 3 rfl rfl ?_
  refine g_bipush (v := 40) X dX1_readFrom_15 (by decide) ?_
  refine g_icmp_gt (tgt := 45) X dX1_readFrom_17 (by decide) (fun c_3 => ?_) (fun c_3 => ?_)
  · rw [if_pos c_3] at hF
    have hF := Option.some.inj hF
    subst hF
    exact g_vret X dX1_readFrom_45 ho
  · rw [if_neg c_3] at hF
    refine g_aload_n X dX1_readFrom_20 1 rfl rfl ?_
    refine g_callVi (As := []) X dX1_readFrom_21 mlX1_28 (fun l D cyy => tX6_goesOn (cx_inj X) l D cyy a1 h1 S) h1 (by decide) rfl rfl (Nat.le_of_ble_eq_true rfl) ?_
    refine g_if_eq (tgt := 45) X dX1_readFrom_24 (by decide) (fun c_4 => ?_) (fun c_4 => ?_)
    · rw [if_pos c_4] at hF
      have hF := Option.some.inj hF
      subst hF
      exact g_vret X dX1_readFrom_45 ho
    · rw [if_neg c_4] at hF
      refine g_aload_n X dX1_readFrom_27 0 rfl rfl ?_
      refine g_aload_n X dX1_readFrom_28 1 rfl rfl ?_
      refine g_aload_n X dX1_readFrom_29 2 rfl rfl ?_
      obtain ⟨r_5, q_6, hF⟩ := obind hF
      refine g_callVv (As := [.ref (ad a1), .ref (ad a2)]) X dX1_readFrom_30 mlX1_32 (fun l D cyy => tX1_readLine (cx_inj X) l D cyy a0 a1 a2 h0 h1 h2 S r_5 q_6) h0 (by decide) rfl rfl (Nat.le_of_ble_eq_true rfl) ?_
      refine g_aload_n X dX1_readFrom_33 1 rfl rfl ?_
      refine g_bipush (v := 59) X dX1_readFrom_34 (by decide) ?_
      obtain ⟨r_7, q_8, hF⟩ := obind hF
      refine g_callVv (As := [.int (59 : Int32)]) X dX1_readFrom_36 mlX1_36 (fun l D cyy => tX6_takeSign (cx_inj X) l D cyy a1 (59 : Int32) h1 r_5 r_7 q_8) h1 (by decide) rfl rfl (Nat.le_of_ble_eq_true rfl) ?_
      refine g_iinc (v := (y3 + (1 : Int32))) X dX1_readFrom_39 3 rfl rfl (by decide) (lv' := [(3, .int (y3 + (1 : Int32))), (0, .ref (ad a0)), (1, .ref (ad a1)), (2, .ref (ad a2))]) rfl ?_
      refine g_goto (tgt := 14) X dX1_readFrom_42 (by decide) ?_
      exact g_perm [1, 2, 3, 0] rfl (hk14 (y3 + (1 : Int32)) r_7 hF)
theorem wX1_readFrom_h14 {z : Mx} {ad : Nat → Nat} {o : Option Value × St} (X : CxOk z ad RX1 cX1_readFrom 4 none 6) (a0 : Nat) (a1 : Nat) (a2 : Nat) (h0 : KT a0 = 1) (h1 : KT a1 = 6) (h2 : KT a2 = 8)  (r : St) (ho : o = (none, r)) : ∀ (n : Nat) (y3 : Int32) (S : St), fX1_readFrom_h14 a0 a1 a2 n y3 S = some r → GW z ad o S 14 [(0, .ref (ad a0)), (1, .ref (ad a1)), (2, .ref (ad a2)), (3, .int y3)] [] := by
  intro n
  induction n with
  | zero => intro y3 S  hF; cases hF
  | succ n ih => intro y3 S  hF; exact wX1_readFrom_s14 X a0 a1 a2 h0 h1 h2 y3 (fX1_readFrom_h14 a0 a1 a2 n)  S r ho ih hF
theorem wX1_readFrom_s12 {z : Mx} {ad : Nat → Nat} {o : Option Value × St} (X : CxOk z ad RX1 cX1_readFrom 4 none 6) (a0 : Nat) (a1 : Nat) (a2 : Nat) (h0 : KT a0 = 1) (h1 : KT a1 = 6) (h2 : KT a2 = 8)     (S : St) (r : St) (ho : o = (none, r)) (hF : fX1_readFrom_s12 a0 a1 a2   S = some r) : GW z ad o S 12 [(0, .ref (ad a0)), (1, .ref (ad a1)), (2, .ref (ad a2))] [] := by
  unfold fX1_readFrom_s12 at hF
  refine g_iconst (v := 0) X dX1_readFrom_12 (by decide) ?_
  refine g_istore_n X dX1_readFrom_13 rfl (by decide) (lv' := [(3, .int (0 : Int32)), (0, .ref (ad a0)), (1, .ref (ad a1)), (2, .ref (ad a2))]) rfl ?_
  exact g_perm [1, 2, 3, 0] rfl (wX1_readFrom_h14 X a0 a1 a2 h0 h1 h2 r ho NN (0 : Int32) S hF)
theorem wX1_readFrom {z : Mx} {ad : Nat → Nat} {o : Option Value × St} (X : CxOk z ad RX1 cX1_readFrom 4 none 6) (a0 : Nat) (a1 : Nat) (a2 : Nat) (h0 : KT a0 = 1) (h1 : KT a1 = 6) (h2 : KT a2 = 8) (S : St) (r : St) (ho : o = (none, r)) (hF : fX1_readFrom a0 a1 a2 S = some r) : GW z ad o S 0 [(0, .ref (ad a0)), (1, .ref (ad a1)), (2, .ref (ad a2))] [] := by
  unfold fX1_readFrom at hF
  refine g_aload_n X dX1_readFrom_0 1 rfl rfl ?_
  refine g_sipush (v := 400) X dX1_readFrom_1 (by decide) ?_
  obtain ⟨r_1, q_2, hF⟩ := obind hF
  refine g_callVv (As := [.int (400 : Int32)]) X dX1_readFrom_4 mlX1_18 (fun l D cyy => tX6_open (cx_inj X) l D cyy a1 (400 : Int32) h1 S r_1 q_2) h1 (by decide) rfl rfl (Nat.le_of_ble_eq_true rfl) ?_
  refine g_aload_n X dX1_readFrom_7 0 rfl rfl ?_
  refine g_iconst (v := 0) X dX1_readFrom_8 (by decide) ?_
  refine g_putI X dX1_readFrom_9 fpX1_24 rfl rfl rfl h0 ?_
  exact (wX1_readFrom_s12 X a0 a1 a2 h0 h1 h2 (sI r_1 1 2 a0 (0 : Int32)) r ho hF)
theorem tX1_readFrom {ad : Nat → Nat} (hI : Inj ad) (l : Launch) (D : va_G) (cyy : Nat → ClassId) (a0 : Nat) (a1 : Nat) (a2 : Nat) (h0 : KT a0 = 1) (h1 : KT a1 = 6) (h2 : KT a2 = 8) (S : St) (r : St) (hF : fX1_readFrom a0 a1 a2 S = some r) : OkM l yX1_readFrom cX1_readFrom 4 none 6 ad D cyy [.ref (ad a0), .ref (ad a1), .ref (ad a2)] S (none, r) := okM_of hI (by decide) (inr_55 _ (List.mem_of_getElem? (i := 22) rfl)) (by show _ ≤ 4; exact Nat.le_of_ble_eq_true rfl) (fun z X => wX1_readFrom X a0 a1 a2 h0 h1 h2 S r rfl hF)
def fX1_live_s48 (a0 : Nat) (x1 : Int32) (x2 : Int32)  (t0 : Int32) (S : St) : Option (Int32 × St) :=
  if t0 = 0 then (some ((0 : Int32), S)) else
  (some ((11 : Int32), S))
def fX1_live_s33 (a0 : Nat) (x1 : Int32) (x2 : Int32)  (t0 : Int32) (S : St) : Option (Int32 × St) :=
  if t0 = 0 then (some ((0 : Int32), S)) else
  (some ((1 : Int32), S))
def fX1_live_s21 (a0 : Nat) (x1 : Int32) (x2 : Int32)  (t0 : Int32) (S : St) : Option (Int32 × St) :=
  some ((0 : Int32), S)
def fX1_live (a0 : Nat) (x1 : Int32) (x2 : Int32) (S : St) : Option (Int32 × St) :=
  if x1 = (-1 : Int32) then (if x2 ≤ (fX2_daysLeft a0 S) then ((fX2_passDays a0 x2 S).bind fun r_10 =>
  fX1_live_s21 a0 x1 x2 r_10.1 r_10.2) else
  (some ((21 : Int32), S))) else
  (if x2 = 0 then ((fX2_holdDay a0 x1 S).bind fun r_6 =>
  fX1_live_s33 a0 x1 x2 r_6.1 r_6.2) else
  ((fX2_skipDays a0 x1 x2 S).bind fun r_3 =>
  fX1_live_s48 a0 x1 x2 r_3.1 r_3.2))
theorem wX1_live_s48 {z : Mx} {ad : Nat → Nat} {o : Option Value × St} (X : CxOk z ad RX1 cX1_live 3 (some .int) 4) (a0 : Nat) (x1 : Int32) (x2 : Int32) (h0 : KT a0 = 2)  (t0 : Int32)   (S : St) (r : (Int32 × St)) (ho : o = (some (.int r.1), r.2)) (hF : fX1_live_s48 a0 x1 x2  t0 S = some r) : GW z ad o S 48 [] [.int t0] := by
  unfold fX1_live_s48 at hF
  refine g_if_ne (tgt := 55) X dX1_live_48 (by decide) (fun c_5 => ?_) (fun c_5 => ?_)
  · rw [if_neg c_5] at hF
    refine g_bipush (v := 11) X dX1_live_55 (by decide) ?_
    have hF := Option.some.inj hF
    subst hF
    exact g_iret X dX1_live_57 ho
  · rw [if_pos c_5] at hF
    refine g_iconst (v := 0) X dX1_live_51 (by decide) ?_
    refine g_goto (tgt := 57) X dX1_live_52 (by decide) ?_
    have hF := Option.some.inj hF
    subst hF
    exact g_iret X dX1_live_57 ho
theorem wX1_live_s33 {z : Mx} {ad : Nat → Nat} {o : Option Value × St} (X : CxOk z ad RX1 cX1_live 3 (some .int) 4) (a0 : Nat) (x1 : Int32) (x2 : Int32) (h0 : KT a0 = 2)  (t0 : Int32)   (S : St) (r : (Int32 × St)) (ho : o = (some (.int r.1), r.2)) (hF : fX1_live_s33 a0 x1 x2  t0 S = some r) : GW z ad o S 33 [] [.int t0] := by
  unfold fX1_live_s33 at hF
  refine g_if_ne (tgt := 40) X dX1_live_33 (by decide) (fun c_8 => ?_) (fun c_8 => ?_)
  · rw [if_neg c_8] at hF
    refine g_iconst (v := 1) X dX1_live_40 (by decide) ?_
    have hF := Option.some.inj hF
    subst hF
    exact g_iret X dX1_live_41 ho
  · rw [if_pos c_8] at hF
    refine g_iconst (v := 0) X dX1_live_36 (by decide) ?_
    refine g_goto (tgt := 41) X dX1_live_37 (by decide) ?_
    have hF := Option.some.inj hF
    subst hF
    exact g_iret X dX1_live_41 ho
theorem wX1_live_s21 {z : Mx} {ad : Nat → Nat} {o : Option Value × St} (X : CxOk z ad RX1 cX1_live 3 (some .int) 4) (a0 : Nat) (x1 : Int32) (x2 : Int32) (h0 : KT a0 = 2)  (t0 : Int32)   (S : St) (r : (Int32 × St)) (ho : o = (some (.int r.1), r.2)) (hF : fX1_live_s21 a0 x1 x2  t0 S = some r) : GW z ad o S 21 [] [.int t0] := by
  unfold fX1_live_s21 at hF
  refine g_pop (a := .int t0) X dX1_live_21 rfl ?_
  refine g_iconst (v := 0) X dX1_live_22 (by decide) ?_
  have hF := Option.some.inj hF
  subst hF
  exact g_iret X dX1_live_23 ho
theorem wX1_live {z : Mx} {ad : Nat → Nat} {o : Option Value × St} (X : CxOk z ad RX1 cX1_live 3 (some .int) 4) (a0 : Nat) (x1 : Int32) (x2 : Int32) (h0 : KT a0 = 2) (S : St) (r : (Int32 × St)) (ho : o = (some (.int r.1), r.2)) (hF : fX1_live a0 x1 x2 S = some r) : GW z ad o S 0 [(0, .ref (ad a0)), (1, .int x1), (2, .int x2)] [] := by
  unfold fX1_live at hF
  refine g_iload_n X dX1_live_0 1 rfl rfl ?_
  refine g_iconst (v := -1) X dX1_live_1 (by decide) ?_
  refine g_icmp_ne (tgt := 24) X dX1_live_2 (by decide) (fun c_1 => ?_) (fun c_1 => ?_)
  · rw [if_neg c_1] at hF
    refine g_iload_n X dX1_live_24 2 rfl rfl ?_
    refine g_if_ne (tgt := 42) X dX1_live_25 (by decide) (fun c_2 => ?_) (fun c_2 => ?_)
    · rw [if_neg c_2] at hF
      refine g_aload_n X dX1_live_42 0 rfl rfl ?_
      refine g_iload_n X dX1_live_43 1 rfl rfl ?_
      refine g_iload_n X dX1_live_44 2 rfl rfl ?_
      obtain ⟨r_3, q_4, hF⟩ := obind hF
      refine g_callVi (As := [.int x1, .int x2]) X dX1_live_45 mlX1_107 (fun l D cyy => tX2_skipDays (cx_inj X) l D cyy a0 x1 x2 h0 S r_3 q_4) h0 (by decide) rfl rfl (Nat.le_of_ble_eq_true rfl) ?_
      exact g_perm [] rfl (wX1_live_s48 X a0 x1 x2 h0 r_3.1 r_3.2 r ho hF)
    · rw [if_pos c_2] at hF
      refine g_aload_n X dX1_live_28 0 rfl rfl ?_
      refine g_iload_n X dX1_live_29 1 rfl rfl ?_
      obtain ⟨r_6, q_7, hF⟩ := obind hF
      refine g_callVi (As := [.int x1]) X dX1_live_30 mlX1_104 (fun l D cyy => tX2_holdDay (cx_inj X) l D cyy a0 x1 h0 S r_6 q_7) h0 (by decide) rfl rfl (Nat.le_of_ble_eq_true rfl) ?_
      exact g_perm [] rfl (wX1_live_s33 X a0 x1 x2 h0 r_6.1 r_6.2 r ho hF)
  · rw [if_pos c_1] at hF
    refine g_iload_n X dX1_live_5 2 rfl rfl ?_
    refine g_aload_n X dX1_live_6 0 rfl rfl ?_
    refine g_callVi (As := []) X dX1_live_7 mlX1_96 (fun l D cyy => tX2_daysLeft (cx_inj X) l D cyy a0 h0 S) h0 (by decide) rfl rfl (Nat.le_of_ble_eq_true rfl) ?_
    refine g_icmp_le (tgt := 16) X dX1_live_10 (by decide) (fun c_9 => ?_) (fun c_9 => ?_)
    · rw [if_pos c_9] at hF
      refine g_aload_n X dX1_live_16 0 rfl rfl ?_
      refine g_iload_n X dX1_live_17 2 rfl rfl ?_
      obtain ⟨r_10, q_11, hF⟩ := obind hF
      refine g_callVi (As := [.int x2]) X dX1_live_18 mlX1_100 (fun l D cyy => tX2_passDays (cx_inj X) l D cyy a0 x2 h0 S r_10 q_11) h0 (by decide) rfl rfl (Nat.le_of_ble_eq_true rfl) ?_
      exact g_perm [] rfl (wX1_live_s21 X a0 x1 x2 h0 r_10.1 r_10.2 r ho hF)
    · rw [if_neg c_9] at hF
      refine g_bipush (v := 21) X dX1_live_13 (by decide) ?_
      have hF := Option.some.inj hF
      subst hF
      exact g_iret X dX1_live_15 ho
theorem tX1_live {ad : Nat → Nat} (hI : Inj ad) (l : Launch) (D : va_G) (cyy : Nat → ClassId) (a0 : Nat) (x1 : Int32) (x2 : Int32) (h0 : KT a0 = 2) (S : St) (r : (Int32 × St)) (hF : fX1_live a0 x1 x2 S = some r) : OkM l yX1_live cX1_live 3 (some .int) 4 ad D cyy [.ref (ad a0), .int x1, .int x2] S (some (.int r.1), r.2) := okM_of hI (by decide) (inr_57 _ (List.mem_of_getElem? (i := 7) rfl)) (by show _ ≤ 3; exact Nat.le_of_ble_eq_true rfl) (fun z X => wX1_live X a0 x1 x2 h0 S r rfl hF)
def fX1_judge_s95 (a0 : Nat) (a1 : Nat)   (S : St) : Option (Int32 × St) :=
  if (gI S 1 4 a0) = 0 then (some ((-1 : Int32), S)) else
  (some ((gI S 1 5 a0), S))
def fX1_judge_s87 (a0 : Nat) (a1 : Nat)   (S : St) : Option (Int32 × St) :=
  fX1_judge_s95 a0 a1 (sI S 1 7 a0 (gI S 2 2 a1))
def fX1_judge_s79 (a0 : Nat) (a1 : Nat)   (S : St) : Option (Int32 × St) :=
  fX1_judge_s87 a0 a1 (sI S 1 6 a0 (gI S 2 0 a1))
def fX1_judge_s76 (k15 : St → Option (Int32 × St)) (a0 : Nat) (a1 : Nat)   (S : St) : Option (Int32 × St) :=
  k15  S
def fX1_judge_s59 (k15 : St → Option (Int32 × St)) (a0 : Nat) (a1 : Nat)   (S : St) : Option (Int32 × St) :=
  if (gI S 1 4 a0) = 0 then (fX1_judge_s76 k15 a0 a1 (sI S 1 5 a0 ((gI S 1 5 a0) + (1 : Int32)))) else
  (k15  S)
def fX1_judge_s56 (k15 : St → Option (Int32 × St)) (a0 : Nat) (a1 : Nat)  (t0 : Nat) (t1 : Int32) (S : St) : Option (Int32 × St) :=
  fX1_judge_s59 k15 a0 a1 (sI S 1 4 t0 t1)
def fX1_judge_s15 (k15 : St → Option (Int32 × St)) (a0 : Nat) (a1 : Nat)   (S : St) : Option (Int32 × St) :=
  if (gI S 1 2 a0) ≤ (gI S 1 5 a0) then (fX1_judge_s79 a0 a1 S) else
  (if (gI S 1 4 a0) = 0 then (if ((gI S 1 5 a0) < 0 ∨ 40 ≤ (gI S 1 5 a0).toNatClampNeg) then none else
  if ((gI S 1 5 a0) < 0 ∨ 40 ≤ (gI S 1 5 a0).toNatClampNeg) then none else
  (fX1_live a1 (gA S 21 (a0 + 1) ((gI S 1 5 a0).toNatClampNeg)) (gA S 22 (a0 + 2) ((gI S 1 5 a0).toNatClampNeg)) S).bind fun r_6 =>
  fX1_judge_s56 k15 a0 a1 a0 r_6.1 r_6.2) else
  (fX1_judge_s79 a0 a1 S))
def fX1_judge_h15 (a0 : Nat) (a1 : Nat) : Nat → St → Option (Int32 × St)
  | 0, _ => none
  | n + 1, S => fX1_judge_s15 (fX1_judge_h15 a0 a1 n) a0 a1  S
def fX1_judge_s10 (a0 : Nat) (a1 : Nat)   (S : St) : Option (Int32 × St) :=
  fX1_judge_h15 a0 a1 NN (sI S 1 5 a0 (0 : Int32))
def fX1_judge_s5 (a0 : Nat) (a1 : Nat)   (S : St) : Option (Int32 × St) :=
  fX1_judge_s10 a0 a1 (sI S 1 4 a0 (0 : Int32))
def fX1_judge (a0 : Nat) (a1 : Nat) (S : St) : Option (Int32 × St) :=
  fX1_judge_s5 a0 a1 (sI S 1 3 a0 (1 : Int32))
theorem wX1_judge_s95 {z : Mx} {ad : Nat → Nat} {o : Option Value × St} (X : CxOk z ad RX1 cX1_judge 2 (some .int) 5) (a0 : Nat) (a1 : Nat) (h0 : KT a0 = 1) (h1 : KT a1 = 2)     (S : St) (r : (Int32 × St)) (ho : o = (some (.int r.1), r.2)) (hF : fX1_judge_s95 a0 a1   S = some r) : GW z ad o S 95 [(0, .ref (ad a0))] [] := by
  unfold fX1_judge_s95 at hF
  refine g_aload_n X dX1_judge_95 0 rfl rfl ?_
  refine g_getI X dX1_judge_96 flX1_72 rfl h0 ?_
  refine g_if_ne (tgt := 106) X dX1_judge_99 (by decide) (fun c_2 => ?_) (fun c_2 => ?_)
  · rw [if_neg c_2] at hF
    refine g_aload_n X dX1_judge_106 0 rfl rfl ?_
    refine g_getI X dX1_judge_107 flX1_75 rfl h0 ?_
    have hF := Option.some.inj hF
    subst hF
    exact g_iret X dX1_judge_110 ho
  · rw [if_pos c_2] at hF
    refine g_iconst (v := -1) X dX1_judge_102 (by decide) ?_
    refine g_goto (tgt := 110) X dX1_judge_103 (by decide) ?_
    have hF := Option.some.inj hF
    subst hF
    exact g_iret X dX1_judge_110 ho
theorem wX1_judge_s87 {z : Mx} {ad : Nat → Nat} {o : Option Value × St} (X : CxOk z ad RX1 cX1_judge 2 (some .int) 5) (a0 : Nat) (a1 : Nat) (h0 : KT a0 = 1) (h1 : KT a1 = 2)     (S : St) (r : (Int32 × St)) (ho : o = (some (.int r.1), r.2)) (hF : fX1_judge_s87 a0 a1   S = some r) : GW z ad o S 87 [(0, .ref (ad a0)), (1, .ref (ad a1))] [] := by
  unfold fX1_judge_s87 at hF
  refine g_aload_n X dX1_judge_87 0 rfl rfl ?_
  refine g_aload_n X dX1_judge_88 1 rfl rfl ?_
  refine g_getI X dX1_judge_89 flX1_90 rfl h1 ?_
  refine g_putI X dX1_judge_92 fpX1_93 rfl rfl rfl h0 ?_
  exact g_perm [0] rfl (wX1_judge_s95 X a0 a1 h0 h1 (sI S 1 7 a0 (gI S 2 2 a1)) r ho hF)
theorem wX1_judge_s79 {z : Mx} {ad : Nat → Nat} {o : Option Value × St} (X : CxOk z ad RX1 cX1_judge 2 (some .int) 5) (a0 : Nat) (a1 : Nat) (h0 : KT a0 = 1) (h1 : KT a1 = 2)     (S : St) (r : (Int32 × St)) (ho : o = (some (.int r.1), r.2)) (hF : fX1_judge_s79 a0 a1   S = some r) : GW z ad o S 79 [(0, .ref (ad a0)), (1, .ref (ad a1))] [] := by
  unfold fX1_judge_s79 at hF
  refine g_aload_n X dX1_judge_79 0 rfl rfl ?_
  refine g_aload_n X dX1_judge_80 1 rfl rfl ?_
  refine g_getI X dX1_judge_81 flX1_82 rfl h1 ?_
  refine g_putI X dX1_judge_84 fpX1_87 rfl rfl rfl h0 ?_
  exact (wX1_judge_s87 X a0 a1 h0 h1 (sI S 1 6 a0 (gI S 2 0 a1)) r ho hF)
theorem wX1_judge_s76 {z : Mx} {ad : Nat → Nat} {o : Option Value × St} (X : CxOk z ad RX1 cX1_judge 2 (some .int) 5) (a0 : Nat) (a1 : Nat) (h0 : KT a0 = 1) (h1 : KT a1 = 2)   (k15 : St → Option (Int32 × St))   (S : St) (r : (Int32 × St)) (ho : o = (some (.int r.1), r.2)) (hk15 : ∀  (S : St), k15  S = some r → GW z ad o S 15 [(0, .ref (ad a0)), (1, .ref (ad a1))] []) (hF : fX1_judge_s76 k15 a0 a1   S = some r) : GW z ad o S 76 [(0, .ref (ad a0)), (1, .ref (ad a1))] [] := by
  unfold fX1_judge_s76 at hF
  refine g_goto (tgt := 15) X dX1_judge_76 (by decide) ?_
  exact (hk15  S hF)
theorem wX1_judge_s59 {z : Mx} {ad : Nat → Nat} {o : Option Value × St} (X : CxOk z ad RX1 cX1_judge 2 (some .int) 5) (a0 : Nat) (a1 : Nat) (h0 : KT a0 = 1) (h1 : KT a1 = 2)   (k15 : St → Option (Int32 × St))   (S : St) (r : (Int32 × St)) (ho : o = (some (.int r.1), r.2)) (hk15 : ∀  (S : St), k15  S = some r → GW z ad o S 15 [(0, .ref (ad a0)), (1, .ref (ad a1))] []) (hF : fX1_judge_s59 k15 a0 a1   S = some r) : GW z ad o S 59 [(0, .ref (ad a0)), (1, .ref (ad a1))] [] := by
  unfold fX1_judge_s59 at hF
  refine g_aload_n X dX1_judge_59 0 rfl rfl ?_
  refine g_getI X dX1_judge_60 flX1_72 rfl h0 ?_
  refine g_if_ne (tgt := 15) X dX1_judge_63 (by decide) (fun c_8 => ?_) (fun c_8 => ?_)
  · rw [if_neg c_8] at hF
    exact (hk15  S hF)
  · rw [if_pos c_8] at hF
    refine g_aload_n X dX1_judge_66 0 rfl rfl ?_
    refine g_dup (a := .ref (ad a0)) X dX1_judge_67 rfl ?_
    refine g_getI X dX1_judge_68 flX1_75 rfl h0 ?_
    refine g_iconst (v := 1) X dX1_judge_71 (by decide) ?_
    refine g_iadd X dX1_judge_72 ?_
    refine g_putI X dX1_judge_73 fpX1_75 rfl rfl rfl h0 ?_
    exact (wX1_judge_s76 X a0 a1 h0 h1 k15 (sI S 1 5 a0 ((gI S 1 5 a0) + (1 : Int32))) r ho hk15 hF)
theorem wX1_judge_s56 {z : Mx} {ad : Nat → Nat} {o : Option Value × St} (X : CxOk z ad RX1 cX1_judge 2 (some .int) 5) (a0 : Nat) (a1 : Nat) (h0 : KT a0 = 1) (h1 : KT a1 = 2)  (t0 : Nat) (t1 : Int32) (k15 : St → Option (Int32 × St))  (gt0 : KT t0 = 1) (S : St) (r : (Int32 × St)) (ho : o = (some (.int r.1), r.2)) (hk15 : ∀  (S : St), k15  S = some r → GW z ad o S 15 [(0, .ref (ad a0)), (1, .ref (ad a1))] []) (hF : fX1_judge_s56 k15 a0 a1  t0 t1 S = some r) : GW z ad o S 56 [(0, .ref (ad a0)), (1, .ref (ad a1))] [.int t1, .ref (ad t0)] := by
  unfold fX1_judge_s56 at hF
  refine g_putI X dX1_judge_56 fpX1_72 rfl rfl rfl gt0 ?_
  exact (wX1_judge_s59 X a0 a1 h0 h1 k15 (sI S 1 4 t0 t1) r ho hk15 hF)
theorem wX1_judge_s15 {z : Mx} {ad : Nat → Nat} {o : Option Value × St} (X : CxOk z ad RX1 cX1_judge 2 (some .int) 5) (a0 : Nat) (a1 : Nat) (h0 : KT a0 = 1) (h1 : KT a1 = 2)   (k15 : St → Option (Int32 × St))   (S : St) (r : (Int32 × St)) (ho : o = (some (.int r.1), r.2)) (hk15 : ∀  (S : St), k15  S = some r → GW z ad o S 15 [(0, .ref (ad a0)), (1, .ref (ad a1))] []) (hF : fX1_judge_s15 k15 a0 a1   S = some r) : GW z ad o S 15 [(0, .ref (ad a0)), (1, .ref (ad a1))] [] := by
  unfold fX1_judge_s15 at hF
  refine g_aload_n X dX1_judge_15 0 rfl rfl ?_
  refine g_getI X dX1_judge_16 flX1_75 rfl h0 ?_
  refine g_aload_n X dX1_judge_19 0 rfl rfl ?_
  refine g_getI X dX1_judge_20 flX1_24 rfl h0 ?_
  refine g_icmp_ge (tgt := 79) X dX1_judge_23 (by decide) (fun c_1 => ?_) (fun c_1 => ?_)
  · rw [if_pos c_1] at hF
    exact (wX1_judge_s79 X a0 a1 h0 h1 S r ho hF)
  · rw [if_neg c_1] at hF
    refine g_aload_n X dX1_judge_26 0 rfl rfl ?_
    refine g_getI X dX1_judge_27 flX1_72 rfl h0 ?_
    refine g_if_ne (tgt := 79) X dX1_judge_30 (by decide) (fun c_3 => ?_) (fun c_3 => ?_)
    · rw [if_neg c_3] at hF
      exact (wX1_judge_s79 X a0 a1 h0 h1 S r ho hF)
    · rw [if_pos c_3] at hF
      refine g_aload_n X dX1_judge_33 0 rfl rfl ?_
      refine g_aload_n X dX1_judge_34 1 rfl rfl ?_
      refine g_aload_n X dX1_judge_35 0 rfl rfl ?_
      refine g_getR (f := 1) X dX1_judge_36 flX1_9 rfl rfl h0 ?_
      refine g_aload_n X dX1_judge_39 0 rfl rfl ?_
      refine g_getI X dX1_judge_40 flX1_75 rfl h0 ?_
      obtain ⟨e_4, hF⟩ := oguard hF
      refine g_iald X dX1_judge_43 kd_21 (on_1_0 h0) e_4 ?_
      refine g_aload_n X dX1_judge_44 0 rfl rfl ?_
      refine g_getR (f := 2) X dX1_judge_45 flX1_15 rfl rfl h0 ?_
      refine g_aload_n X dX1_judge_48 0 rfl rfl ?_
      refine g_getI X dX1_judge_49 flX1_75 rfl h0 ?_
      obtain ⟨e_5, hF⟩ := oguard hF
      refine g_iald X dX1_judge_52 kd_22 (on_1_1 h0) e_5 ?_
      obtain ⟨r_6, q_7, hF⟩ := obind hF
      refine g_callSi (As := [.ref (ad a1), .int (gA S 21 (a0 + 1) ((gI S 1 5 a0).toNatClampNeg)), .int (gA S 22 (a0 + 2) ((gI S 1 5 a0).toNatClampNeg))]) X dX1_judge_53 mlX1_78 (fun l D cyy => tX1_live (cx_inj X) l D cyy a1 (gA S 21 (a0 + 1) ((gI S 1 5 a0).toNatClampNeg)) (gA S 22 (a0 + 2) ((gI S 1 5 a0).toNatClampNeg)) h1 S r_6 q_7) (by decide) rfl rfl (Nat.le_of_ble_eq_true rfl) ?_
      exact (wX1_judge_s56 X a0 a1 h0 h1 a0 r_6.1 k15 h0 r_6.2 r ho hk15 hF)
theorem wX1_judge_h15 {z : Mx} {ad : Nat → Nat} {o : Option Value × St} (X : CxOk z ad RX1 cX1_judge 2 (some .int) 5) (a0 : Nat) (a1 : Nat) (h0 : KT a0 = 1) (h1 : KT a1 = 2)  (r : (Int32 × St)) (ho : o = (some (.int r.1), r.2)) : ∀ (n : Nat)  (S : St), fX1_judge_h15 a0 a1 n  S = some r → GW z ad o S 15 [(0, .ref (ad a0)), (1, .ref (ad a1))] [] := by
  intro n
  induction n with
  | zero => intro  S  hF; cases hF
  | succ n ih => intro  S  hF; exact wX1_judge_s15 X a0 a1 h0 h1  (fX1_judge_h15 a0 a1 n)  S r ho ih hF
theorem wX1_judge_s10 {z : Mx} {ad : Nat → Nat} {o : Option Value × St} (X : CxOk z ad RX1 cX1_judge 2 (some .int) 5) (a0 : Nat) (a1 : Nat) (h0 : KT a0 = 1) (h1 : KT a1 = 2)     (S : St) (r : (Int32 × St)) (ho : o = (some (.int r.1), r.2)) (hF : fX1_judge_s10 a0 a1   S = some r) : GW z ad o S 10 [(0, .ref (ad a0)), (1, .ref (ad a1))] [] := by
  unfold fX1_judge_s10 at hF
  refine g_aload_n X dX1_judge_10 0 rfl rfl ?_
  refine g_iconst (v := 0) X dX1_judge_11 (by decide) ?_
  refine g_putI X dX1_judge_12 fpX1_75 rfl rfl rfl h0 ?_
  exact (wX1_judge_h15 X a0 a1 h0 h1 r ho NN (sI S 1 5 a0 (0 : Int32)) hF)
theorem wX1_judge_s5 {z : Mx} {ad : Nat → Nat} {o : Option Value × St} (X : CxOk z ad RX1 cX1_judge 2 (some .int) 5) (a0 : Nat) (a1 : Nat) (h0 : KT a0 = 1) (h1 : KT a1 = 2)     (S : St) (r : (Int32 × St)) (ho : o = (some (.int r.1), r.2)) (hF : fX1_judge_s5 a0 a1   S = some r) : GW z ad o S 5 [(0, .ref (ad a0)), (1, .ref (ad a1))] [] := by
  unfold fX1_judge_s5 at hF
  refine g_aload_n X dX1_judge_5 0 rfl rfl ?_
  refine g_iconst (v := 0) X dX1_judge_6 (by decide) ?_
  refine g_putI X dX1_judge_7 fpX1_72 rfl rfl rfl h0 ?_
  exact (wX1_judge_s10 X a0 a1 h0 h1 (sI S 1 4 a0 (0 : Int32)) r ho hF)
theorem wX1_judge {z : Mx} {ad : Nat → Nat} {o : Option Value × St} (X : CxOk z ad RX1 cX1_judge 2 (some .int) 5) (a0 : Nat) (a1 : Nat) (h0 : KT a0 = 1) (h1 : KT a1 = 2) (S : St) (r : (Int32 × St)) (ho : o = (some (.int r.1), r.2)) (hF : fX1_judge a0 a1 S = some r) : GW z ad o S 0 [(0, .ref (ad a0)), (1, .ref (ad a1))] [] := by
  unfold fX1_judge at hF
  refine g_aload_n X dX1_judge_0 0 rfl rfl ?_
  refine g_iconst (v := 1) X dX1_judge_1 (by decide) ?_
  refine g_putI X dX1_judge_2 fpX1_68 rfl (by decide) (by decide) h0 ?_
  exact (wX1_judge_s5 X a0 a1 h0 h1 (sI S 1 3 a0 (1 : Int32)) r ho hF)
theorem tX1_judge {ad : Nat → Nat} (hI : Inj ad) (l : Launch) (D : va_G) (cyy : Nat → ClassId) (a0 : Nat) (a1 : Nat) (h0 : KT a0 = 1) (h1 : KT a1 = 2) (S : St) (r : (Int32 × St)) (hF : fX1_judge a0 a1 S = some r) : OkM l yX1_judge cX1_judge 2 (some .int) 5 ad D cyy [.ref (ad a0), .ref (ad a1)] S (some (.int r.1), r.2) := okM_of hI (by decide) (inr_56 _ (List.mem_of_getElem? (i := 21) rfl)) (by show _ ≤ 2; exact Nat.le_of_ble_eq_true rfl) (fun z X => wX1_judge X a0 a1 h0 h1 S r rfl hF)
def fX7_has (a0 : Nat) (x1 : Int32) (S : St) : Int32 :=
  if x1 < 0 then ((0 : Int32)) else
  (if (gI S 7 1 a0) ≤ x1 then ((0 : Int32)) else
  (if (64 : Int32) ≤ x1 then ((0 : Int32)) else
  ((1 : Int32))))
theorem wX7_has {z : Mx} {ad : Nat → Nat} {o : Option Value × St} (X : CxOk z ad RX7 cX7_has 2 (some .boolean) 1) (a0 : Nat) (x1 : Int32) (h0 : KT a0 = 7) (S : St) (r : Int32) (ho : o = (some (.int r), S)) (hF : fX7_has a0 x1 S = r) : GW z ad o S 0 [(0, .ref (ad a0)), (1, .int x1)] [] := by
  unfold fX7_has at hF
  refine g_iload_n X dX7_has_0 1 rfl rfl ?_
  refine g_if_lt (tgt := 25) X dX7_has_1 (by decide) (fun c_1 => ?_) (fun c_1 => ?_)
  · rw [if_pos c_1] at hF
    refine g_iconst (v := 0) X dX7_has_25 (by decide) ?_
    subst hF
    exact g_zret X dX7_has_26 (by decide) ho
  · rw [if_neg c_1] at hF
    refine g_iload_n X dX7_has_4 1 rfl rfl ?_
    refine g_aload_n X dX7_has_5 0 rfl rfl ?_
    refine g_getI X dX7_has_6 flX7_15 rfl h0 ?_
    refine g_icmp_ge (tgt := 25) X dX7_has_9 (by decide) (fun c_2 => ?_) (fun c_2 => ?_)
    · rw [if_pos c_2] at hF
      refine g_iconst (v := 0) X dX7_has_25 (by decide) ?_
      subst hF
      exact g_zret X dX7_has_26 (by decide) ho
    · rw [if_neg c_2] at hF
      refine g_iload_n X dX7_has_12 1 rfl rfl ?_
      refine g_aload_n X dX7_has_13 0 rfl rfl ?_
      refine g_getR (f := 1) X dX7_has_14 flX7_9 rfl rfl h0 ?_
      refine g_alen (v := 64) X dX7_has_17 kd_23 (on_7_0 h0) (by decide) ?_
      refine g_icmp_ge (tgt := 25) X dX7_has_18 (by decide) (fun c_3 => ?_) (fun c_3 => ?_)
      · rw [if_pos c_3] at hF
        refine g_iconst (v := 0) X dX7_has_25 (by decide) ?_
        subst hF
        exact g_zret X dX7_has_26 (by decide) ho
      · rw [if_neg c_3] at hF
        refine g_iconst (v := 1) X dX7_has_21 (by decide) ?_
        refine g_goto (tgt := 26) X dX7_has_22 (by decide) ?_
        subst hF
        exact g_zret X dX7_has_26 (by decide) ho
theorem tX7_has {ad : Nat → Nat} (hI : Inj ad) (l : Launch) (D : va_G) (cyy : Nat → ClassId) (a0 : Nat) (x1 : Int32) (h0 : KT a0 = 7) (S : St) : OkM l yX7_has cX7_has 2 (some .boolean) 1 ad D cyy [.ref (ad a0), .int x1] S (some (.int (fX7_has a0 x1 S)), S) := okM_of hI (by decide) (inr_53 _ (List.mem_of_getElem? (i := 3) rfl)) (by show _ ≤ 2; exact Nat.le_of_ble_eq_true rfl) (fun z X => wX7_has X a0 x1 h0 S _ rfl rfl)
def fX7_addByte_s23 (a0 : Nat) (x1 : Int32)   (S : St) : Option St :=
  some (sI S 7 1 a0 ((gI S 7 1 a0) + (1 : Int32)))
def fX7_addByte (a0 : Nat) (x1 : Int32) (S : St) : Option St :=
  if (64 : Int32) ≤ (gI S 7 1 a0) then (some S) else
  (if ((gI S 7 1 a0) < 0 ∨ 64 ≤ (gI S 7 1 a0).toNatClampNeg) then none else
  fX7_addByte_s23 a0 x1 (sA S 23 (a0 + 1) ((gI S 7 1 a0).toNatClampNeg) (vp_nar .byte x1.toInt8.toInt32)))
theorem wX7_addByte_s23 {z : Mx} {ad : Nat → Nat} {o : Option Value × St} (X : CxOk z ad RX7 cX7_addByte 2 none 1) (a0 : Nat) (x1 : Int32) (h0 : KT a0 = 7)     (S : St) (r : St) (ho : o = (none, r)) (hF : fX7_addByte_s23 a0 x1   S = some r) : GW z ad o S 23 [(0, .ref (ad a0))] [] := by
  unfold fX7_addByte_s23 at hF
  refine g_aload_n X dX7_addByte_23 0 rfl rfl ?_
  refine g_dup (a := .ref (ad a0)) X dX7_addByte_24 rfl ?_
  refine g_getI X dX7_addByte_25 flX7_15 rfl h0 ?_
  refine g_iconst (v := 1) X dX7_addByte_28 (by decide) ?_
  refine g_iadd X dX7_addByte_29 ?_
  refine g_putI X dX7_addByte_30 fpX7_15 rfl rfl rfl h0 ?_
  have hF := Option.some.inj hF
  subst hF
  exact g_vret X dX7_addByte_33 ho
theorem wX7_addByte {z : Mx} {ad : Nat → Nat} {o : Option Value × St} (X : CxOk z ad RX7 cX7_addByte 2 none 1) (a0 : Nat) (x1 : Int32) (h0 : KT a0 = 7) (S : St) (r : St) (ho : o = (none, r)) (hF : fX7_addByte a0 x1 S = some r) : GW z ad o S 0 [(0, .ref (ad a0)), (1, .int x1)] [] := by
  unfold fX7_addByte at hF
  refine g_aload_n X dX7_addByte_0 0 rfl rfl ?_
  refine g_getI X dX7_addByte_1 flX7_15 rfl h0 ?_
  refine g_aload_n X dX7_addByte_4 0 rfl rfl ?_
  refine g_getR (f := 1) X dX7_addByte_5 flX7_9 rfl rfl h0 ?_
  refine g_alen (v := 64) X dX7_addByte_8 kd_23 (on_7_0 h0) (by decide) ?_
  refine g_icmp_ge (tgt := 33) X dX7_addByte_9 (by decide) (fun c_1 => ?_) (fun c_1 => ?_)
  · rw [if_pos c_1] at hF
    have hF := Option.some.inj hF
    subst hF
    exact g_vret X dX7_addByte_33 ho
  · rw [if_neg c_1] at hF
    refine g_aload_n X dX7_addByte_12 0 rfl rfl ?_
    refine g_getR (f := 1) X dX7_addByte_13 flX7_9 rfl rfl h0 ?_
    refine g_aload_n X dX7_addByte_16 0 rfl rfl ?_
    refine g_getI X dX7_addByte_17 flX7_15 rfl h0 ?_
    refine g_iload_n X dX7_addByte_20 1 rfl rfl ?_
    refine g_i2b X dX7_addByte_21 ?_
    obtain ⟨e_2, hF⟩ := oguard hF
    refine g_bast X dX7_addByte_22 kd_23 (on_7_0 h0) e_2 ?_
    exact g_perm [0] rfl (wX7_addByte_s23 X a0 x1 h0 (sA S 23 (a0 + 1) ((gI S 7 1 a0).toNatClampNeg) (vp_nar .byte x1.toInt8.toInt32)) r ho hF)
theorem tX7_addByte {ad : Nat → Nat} (hI : Inj ad) (l : Launch) (D : va_G) (cyy : Nat → ClassId) (a0 : Nat) (x1 : Int32) (h0 : KT a0 = 7) (S : St) (r : St) (hF : fX7_addByte a0 x1 S = some r) : OkM l yX7_addByte cX7_addByte 2 none 1 ad D cyy [.ref (ad a0), .int x1] S (none, r) := okM_of hI (by decide) (inr_49 _ (List.mem_of_getElem? (i := 7) rfl)) (by show _ ≤ 2; exact Nat.le_of_ble_eq_true rfl) (fun z X => wX7_addByte X a0 x1 h0 S r rfl hF)
def fX7_addName_s28 (k3 : Int32 → St → Option St) (a0 : Nat) (x1 : Int64) (y3 : Int32)  (S : St) : Option St :=
  k3 (y3 + (-8 : Int32)) S
def fX7_addName_s17 (k3 : Int32 → St → Option St) (a0 : Nat) (x1 : Int64) (y3 : Int32) (y4 : Int32)  (S : St) : Option St :=
  if y4 = 0 then (fX7_addName_s28 k3 a0 x1 y3 S) else
  ((fX7_addByte a0 y4 S).bind fun r_3 =>
  fX7_addName_s28 k3 a0 x1 y3 r_3)
def fX7_addName_s3 (k3 : Int32 → St → Option St) (a0 : Nat) (x1 : Int64) (y3 : Int32)  (S : St) : Option St :=
  if y3 < 0 then (some S) else
  (fX7_addName_s17 k3 a0 x1 y3 ((x1 >>> (y3.toInt64 &&& 63)).toInt32 &&& (255 : Int32)) S)
def fX7_addName_h3 (a0 : Nat) (x1 : Int64) : Nat → Int32 → St → Option St
  | 0, _, _ => none
  | n + 1, y3, S => fX7_addName_s3 (fX7_addName_h3 a0 x1 n) a0 x1 y3 S
def fX7_addName (a0 : Nat) (x1 : Int64) (S : St) : Option St :=
  fX7_addName_h3 a0 x1 NN (48 : Int32) S
theorem wX7_addName_s28 {z : Mx} {ad : Nat → Nat} {o : Option Value × St} (X : CxOk z ad RX7 cX7_addName 5 none 2) (a0 : Nat) (x1 : Int64) (h0 : KT a0 = 7) (y3 : Int32)  (k3 : Int32 → St → Option St)   (S : St) (r : St) (ho : o = (none, r)) (hk3 : ∀ (y3 : Int32) (S : St), k3 y3 S = some r → GW z ad o S 3 [(0, .ref (ad a0)), (1, .long x1), (3, .int y3)] []) (hF : fX7_addName_s28 k3 a0 x1 y3  S = some r) : GW z ad o S 28 [(0, .ref (ad a0)), (1, .long x1), (3, .int y3)] [] := by
  unfold fX7_addName_s28 at hF
  refine g_iinc (v := (y3 + (-8 : Int32))) X dX7_addName_28 2 rfl rfl (by decide) (lv' := [(3, .int (y3 + (-8 : Int32))), (0, .ref (ad a0)), (1, .long x1)]) rfl ?_
  refine g_goto (tgt := 3) X dX7_addName_31 (by decide) ?_
  exact g_perm [1, 2, 0] rfl (hk3 (y3 + (-8 : Int32)) S hF)
theorem wX7_addName_s17 {z : Mx} {ad : Nat → Nat} {o : Option Value × St} (X : CxOk z ad RX7 cX7_addName 5 none 2) (a0 : Nat) (x1 : Int64) (h0 : KT a0 = 7) (y3 : Int32) (y4 : Int32)  (k3 : Int32 → St → Option St)   (S : St) (r : St) (ho : o = (none, r)) (hk3 : ∀ (y3 : Int32) (S : St), k3 y3 S = some r → GW z ad o S 3 [(0, .ref (ad a0)), (1, .long x1), (3, .int y3)] []) (hF : fX7_addName_s17 k3 a0 x1 y3 y4  S = some r) : GW z ad o S 17 [(0, .ref (ad a0)), (1, .long x1), (3, .int y3), (4, .int y4)] [] := by
  unfold fX7_addName_s17 at hF
  refine g_iload X dX7_addName_17 3 rfl ?_
  refine g_if_eq (tgt := 28) X dX7_addName_19 (by decide) (fun c_2 => ?_) (fun c_2 => ?_)
  · rw [if_pos c_2] at hF
    exact g_perm [0, 1, 2] rfl (wX7_addName_s28 X a0 x1 h0 y3 k3 S r ho hk3 hF)
  · rw [if_neg c_2] at hF
    refine g_aload_n X dX7_addName_22 0 rfl rfl ?_
    refine g_iload X dX7_addName_23 3 rfl ?_
    obtain ⟨r_3, q_4, hF⟩ := obind hF
    refine g_callVv (As := [.int y4]) X dX7_addName_25 mlX7_80 (fun l D cyy => tX7_addByte (cx_inj X) l D cyy a0 y4 h0 S r_3 q_4) h0 (by decide) rfl rfl (Nat.le_of_ble_eq_true rfl) ?_
    exact g_perm [0, 1, 2] rfl (wX7_addName_s28 X a0 x1 h0 y3 k3 r_3 r ho hk3 hF)
theorem wX7_addName_s3 {z : Mx} {ad : Nat → Nat} {o : Option Value × St} (X : CxOk z ad RX7 cX7_addName 5 none 2) (a0 : Nat) (x1 : Int64) (h0 : KT a0 = 7) (y3 : Int32)  (k3 : Int32 → St → Option St)   (S : St) (r : St) (ho : o = (none, r)) (hk3 : ∀ (y3 : Int32) (S : St), k3 y3 S = some r → GW z ad o S 3 [(0, .ref (ad a0)), (1, .long x1), (3, .int y3)] []) (hF : fX7_addName_s3 k3 a0 x1 y3  S = some r) : GW z ad o S 3 [(0, .ref (ad a0)), (1, .long x1), (3, .int y3)] [] := by
  unfold fX7_addName_s3 at hF
  refine g_iload_n X dX7_addName_3 2 rfl rfl ?_
  refine g_if_lt (tgt := 34) X dX7_addName_4 (by decide) (fun c_1 => ?_) (fun c_1 => ?_)
  · rw [if_pos c_1] at hF
    have hF := Option.some.inj hF
    subst hF
    exact g_vret X dX7_addName_34 ho
  · rw [if_neg c_1] at hF
    refine g_lload_n X dX7_addName_7 1 rfl rfl ?_
    refine g_iload_n X dX7_addName_8 2 rfl rfl ?_
    refine g_lshr X dX7_addName_9 ?_
    refine g_l2i X dX7_addName_10 ?_
    refine g_sipush (v := 255) X dX7_addName_11 (by decide) ?_
    refine g_iand X dX7_addName_14 ?_
    refine g_istore X dX7_addName_15 (by decide) (lv' := [(4, .int ((x1 >>> (y3.toInt64 &&& 63)).toInt32 &&& (255 : Int32))), (0, .ref (ad a0)), (1, .long x1), (3, .int y3)]) rfl ?_
    exact g_perm [1, 2, 3, 0] rfl (wX7_addName_s17 X a0 x1 h0 y3 ((x1 >>> (y3.toInt64 &&& 63)).toInt32 &&& (255 : Int32)) k3 S r ho hk3 hF)
theorem wX7_addName_h3 {z : Mx} {ad : Nat → Nat} {o : Option Value × St} (X : CxOk z ad RX7 cX7_addName 5 none 2) (a0 : Nat) (x1 : Int64) (h0 : KT a0 = 7)  (r : St) (ho : o = (none, r)) : ∀ (n : Nat) (y3 : Int32) (S : St), fX7_addName_h3 a0 x1 n y3 S = some r → GW z ad o S 3 [(0, .ref (ad a0)), (1, .long x1), (3, .int y3)] [] := by
  intro n
  induction n with
  | zero => intro y3 S  hF; cases hF
  | succ n ih => intro y3 S  hF; exact wX7_addName_s3 X a0 x1 h0 y3 (fX7_addName_h3 a0 x1 n)  S r ho ih hF
theorem wX7_addName {z : Mx} {ad : Nat → Nat} {o : Option Value × St} (X : CxOk z ad RX7 cX7_addName 5 none 2) (a0 : Nat) (x1 : Int64) (h0 : KT a0 = 7) (S : St) (r : St) (ho : o = (none, r)) (hF : fX7_addName a0 x1 S = some r) : GW z ad o S 0 [(0, .ref (ad a0)), (1, .long x1)] [] := by
  unfold fX7_addName at hF
  refine g_bipush (v := 48) X dX7_addName_0 (by decide) ?_
  refine g_istore_n X dX7_addName_2 rfl (by decide) (lv' := [(3, .int (48 : Int32)), (0, .ref (ad a0)), (1, .long x1)]) rfl ?_
  exact g_perm [1, 2, 0] rfl (wX7_addName_h3 X a0 x1 h0 r ho NN (48 : Int32) S hF)
theorem tX7_addName {ad : Nat → Nat} (hI : Inj ad) (l : Launch) (D : va_G) (cyy : Nat → ClassId) (a0 : Nat) (x1 : Int64) (h0 : KT a0 = 7) (S : St) (r : St) (hF : fX7_addName a0 x1 S = some r) : OkM l yX7_addName cX7_addName 5 none 2 ad D cyy [.ref (ad a0), .long x1] S (none, r) := okM_of hI (by decide) (inr_49 _ (List.mem_of_getElem? (i := 3) rfl)) (by show _ ≤ 5; exact Nat.le_of_ble_eq_true rfl) (fun z X => wX7_addName X a0 x1 h0 S r rfl hF)
def fX7_addText_s2 (k2 : Int32 → St → Option St) (a0 : Nat) (a1 : Nat) (y2 : Int32)  (S : St) : Option St :=
  if (Int32.ofNat (sxLen.getD a1 0)) ≤ y2 then (some S) else
  (if (y2 < 0 ∨ sxLen.getD a1 0 ≤ y2.toNatClampNeg) then none else
  (fX7_addByte a0 (sxC a1 y2.toNatClampNeg) S).bind fun r_3 =>
  k2 (y2 + (1 : Int32)) r_3)
def fX7_addText_h2 (a0 : Nat) (a1 : Nat) : Nat → Int32 → St → Option St
  | 0, _, _ => none
  | n + 1, y2, S => fX7_addText_s2 (fX7_addText_h2 a0 a1 n) a0 a1 y2 S
def fX7_addText (a0 : Nat) (a1 : Nat) (S : St) : Option St :=
  fX7_addText_h2 a0 a1 NN (0 : Int32) S
theorem wX7_addText_s2 {z : Mx} {ad : Nat → Nat} {o : Option Value × St} (X : CxOk z ad RX7 cX7_addText 3 none 5) (a0 : Nat) (a1 : Nat) (h0 : KT a0 = 7) (h1 : a1 < 5) (y2 : Int32)  (k2 : Int32 → St → Option St)   (S : St) (r : St) (ho : o = (none, r)) (hk2 : ∀ (y2 : Int32) (S : St), k2 y2 S = some r → GW z ad o S 2 [(0, .ref (ad a0)), (1, .ref (ad (156 + a1))), (2, .int y2)] []) (hF : fX7_addText_s2 k2 a0 a1 y2  S = some r) : GW z ad o S 2 [(0, .ref (ad a0)), (1, .ref (ad (156 + a1))), (2, .int y2)] [] := by
  unfold fX7_addText_s2 at hF
  refine g_iload_n X dX7_addText_2 2 rfl rfl ?_
  refine g_aload_n X dX7_addText_3 1 rfl rfl ?_
  refine g_callJ (As := []) X dX7_addText_4 mlX7_83 (fun l D cyy => tJ0_length_8abf5 (cx_inj X) l D cyy a1 h1 S) h1 (by decide) rfl rfl (Nat.le_of_ble_eq_true rfl) ?_
  refine g_icmp_ge (tgt := 25) X dX7_addText_7 (by decide) (fun c_1 => ?_) (fun c_1 => ?_)
  · rw [if_pos c_1] at hF
    have hF := Option.some.inj hF
    subst hF
    exact g_vret X dX7_addText_25 ho
  · rw [if_neg c_1] at hF
    refine g_aload_n X dX7_addText_10 0 rfl rfl ?_
    refine g_aload_n X dX7_addText_11 1 rfl rfl ?_
    refine g_iload_n X dX7_addText_12 2 rfl rfl ?_
    obtain ⟨e_2, hF⟩ := oguard hF
    refine g_callJ (As := [.int y2]) X dX7_addText_13 mlX7_88 (fun l D cyy => tJ0_charAt2 (cx_inj X) l D cyy a1 h1 y2 e_2 S) h1 (by decide) rfl rfl (Nat.le_of_ble_eq_true rfl) ?_
    obtain ⟨r_3, q_4, hF⟩ := obind hF
    refine g_callVv (As := [.int (sxC a1 y2.toNatClampNeg)]) X dX7_addText_16 mlX7_80 (fun l D cyy => tX7_addByte (cx_inj X) l D cyy a0 (sxC a1 y2.toNatClampNeg) h0 S r_3 q_4) h0 (by decide) rfl rfl (Nat.le_of_ble_eq_true rfl) ?_
    refine g_iinc (v := (y2 + (1 : Int32))) X dX7_addText_19 2 rfl rfl (by decide) (lv' := [(2, .int (y2 + (1 : Int32))), (0, .ref (ad a0)), (1, .ref (ad (156 + a1)))]) rfl ?_
    refine g_goto (tgt := 2) X dX7_addText_22 (by decide) ?_
    exact g_perm [1, 2, 0] rfl (hk2 (y2 + (1 : Int32)) r_3 hF)
theorem wX7_addText_h2 {z : Mx} {ad : Nat → Nat} {o : Option Value × St} (X : CxOk z ad RX7 cX7_addText 3 none 5) (a0 : Nat) (a1 : Nat) (h0 : KT a0 = 7) (h1 : a1 < 5)  (r : St) (ho : o = (none, r)) : ∀ (n : Nat) (y2 : Int32) (S : St), fX7_addText_h2 a0 a1 n y2 S = some r → GW z ad o S 2 [(0, .ref (ad a0)), (1, .ref (ad (156 + a1))), (2, .int y2)] [] := by
  intro n
  induction n with
  | zero => intro y2 S  hF; cases hF
  | succ n ih => intro y2 S  hF; exact wX7_addText_s2 X a0 a1 h0 h1 y2 (fX7_addText_h2 a0 a1 n)  S r ho ih hF
theorem wX7_addText {z : Mx} {ad : Nat → Nat} {o : Option Value × St} (X : CxOk z ad RX7 cX7_addText 3 none 5) (a0 : Nat) (a1 : Nat) (h0 : KT a0 = 7) (h1 : a1 < 5) (S : St) (r : St) (ho : o = (none, r)) (hF : fX7_addText a0 a1 S = some r) : GW z ad o S 0 [(0, .ref (ad a0)), (1, .ref (ad (156 + a1)))] [] := by
  unfold fX7_addText at hF
  refine g_iconst (v := 0) X dX7_addText_0 (by decide) ?_
  refine g_istore_n X dX7_addText_1 rfl (by decide) (lv' := [(2, .int (0 : Int32)), (0, .ref (ad a0)), (1, .ref (ad (156 + a1)))]) rfl ?_
  exact g_perm [1, 2, 0] rfl (wX7_addText_h2 X a0 a1 h0 h1 r ho NN (0 : Int32) S hF)
theorem tX7_addText {ad : Nat → Nat} (hI : Inj ad) (l : Launch) (D : va_G) (cyy : Nat → ClassId) (a0 : Nat) (a1 : Nat) (h0 : KT a0 = 7) (h1 : a1 < 5) (S : St) (r : St) (hF : fX7_addText a0 a1 S = some r) : OkM l yX7_addText cX7_addText 3 none 5 ad D cyy [.ref (ad a0), .ref (ad (156 + a1))] S (none, r) := okM_of hI (by decide) (inr_49 _ (List.mem_of_getElem? (i := 11) rfl)) (by show _ ≤ 3; exact Nat.le_of_ble_eq_true rfl) (fun z X => wX7_addText X a0 a1 h0 h1 S r rfl hF)
def fX7_addFigure_s36 (k3 : Int32 → St → Option St) (a0 : Nat) (x1 : Int32) (y2 : Int32)  (S : St) : Option St :=
  k3 y2 S
def fX7_addFigure_s31 (k3 : Int32 → St → Option St) (a0 : Nat) (x1 : Int32) (y2 : Int32)  (S : St) : Option St :=
  fX7_addFigure_s36 k3 a0 x1 (y2 / (10 : Int32)) S
def fX7_addFigure_s18 (k3 : Int32 → St → Option St) (a0 : Nat) (x1 : Int32) (y2 : Int32)  (S : St) : Option St :=
  if y2 = 0 then none else
  (fX7_addByte a0 ((48 : Int32) + ((x1 / y2) - (x1 / y2) / (10 : Int32) * (10 : Int32))) S).bind fun r_4 =>
  fX7_addFigure_s31 k3 a0 x1 y2 r_4
def fX7_addFigure_s3 (k3 : Int32 → St → Option St) (a0 : Nat) (x1 : Int32) (y2 : Int32)  (S : St) : Option St :=
  if y2 < (1 : Int32) then (some S) else
  (if y2 ≤ x1 then (fX7_addFigure_s18 k3 a0 x1 y2 S) else
  (if y2 = (1 : Int32) then (fX7_addFigure_s18 k3 a0 x1 y2 S) else
  (fX7_addFigure_s31 k3 a0 x1 y2 S)))
def fX7_addFigure_h3 (a0 : Nat) (x1 : Int32) : Nat → Int32 → St → Option St
  | 0, _, _ => none
  | n + 1, y2, S => fX7_addFigure_s3 (fX7_addFigure_h3 a0 x1 n) a0 x1 y2 S
def fX7_addFigure (a0 : Nat) (x1 : Int32) (S : St) : Option St :=
  fX7_addFigure_h3 a0 x1 NN (1000000 : Int32) S
theorem wX7_addFigure_s36 {z : Mx} {ad : Nat → Nat} {o : Option Value × St} (X : CxOk z ad RX7 cX7_addFigure 3 none 2) (a0 : Nat) (x1 : Int32) (h0 : KT a0 = 7) (y2 : Int32)  (k3 : Int32 → St → Option St)   (S : St) (r : St) (ho : o = (none, r)) (hk3 : ∀ (y2 : Int32) (S : St), k3 y2 S = some r → GW z ad o S 3 [(0, .ref (ad a0)), (1, .int x1), (2, .int y2)] []) (hF : fX7_addFigure_s36 k3 a0 x1 y2  S = some r) : GW z ad o S 36 [(0, .ref (ad a0)), (1, .int x1), (2, .int y2)] [] := by
  unfold fX7_addFigure_s36 at hF
  refine g_goto (tgt := 3) X dX7_addFigure_36 (by decide) ?_
  exact (hk3 y2 S hF)
theorem wX7_addFigure_s31 {z : Mx} {ad : Nat → Nat} {o : Option Value × St} (X : CxOk z ad RX7 cX7_addFigure 3 none 2) (a0 : Nat) (x1 : Int32) (h0 : KT a0 = 7) (y2 : Int32)  (k3 : Int32 → St → Option St)   (S : St) (r : St) (ho : o = (none, r)) (hk3 : ∀ (y2 : Int32) (S : St), k3 y2 S = some r → GW z ad o S 3 [(0, .ref (ad a0)), (1, .int x1), (2, .int y2)] []) (hF : fX7_addFigure_s31 k3 a0 x1 y2  S = some r) : GW z ad o S 31 [(0, .ref (ad a0)), (1, .int x1), (2, .int y2)] [] := by
  unfold fX7_addFigure_s31 at hF
  refine g_iload_n X dX7_addFigure_31 2 rfl rfl ?_
  refine g_bipush (v := 10) X dX7_addFigure_32 (by decide) ?_
  refine g_idiv X dX7_addFigure_34 (by decide) ?_
  refine g_istore_n X dX7_addFigure_35 rfl (by decide) (lv' := [(2, .int (y2 / (10 : Int32))), (0, .ref (ad a0)), (1, .int x1)]) rfl ?_
  exact g_perm [1, 2, 0] rfl (wX7_addFigure_s36 X a0 x1 h0 (y2 / (10 : Int32)) k3 S r ho hk3 hF)
theorem wX7_addFigure_s18 {z : Mx} {ad : Nat → Nat} {o : Option Value × St} (X : CxOk z ad RX7 cX7_addFigure 3 none 2) (a0 : Nat) (x1 : Int32) (h0 : KT a0 = 7) (y2 : Int32)  (k3 : Int32 → St → Option St)   (S : St) (r : St) (ho : o = (none, r)) (hk3 : ∀ (y2 : Int32) (S : St), k3 y2 S = some r → GW z ad o S 3 [(0, .ref (ad a0)), (1, .int x1), (2, .int y2)] []) (hF : fX7_addFigure_s18 k3 a0 x1 y2  S = some r) : GW z ad o S 18 [(0, .ref (ad a0)), (1, .int x1), (2, .int y2)] [] := by
  unfold fX7_addFigure_s18 at hF
  refine g_aload_n X dX7_addFigure_18 0 rfl rfl ?_
  refine g_bipush (v := 48) X dX7_addFigure_19 (by decide) ?_
  refine g_iload_n X dX7_addFigure_21 1 rfl rfl ?_
  refine g_iload_n X dX7_addFigure_22 2 rfl rfl ?_
  obtain ⟨e_3, hF⟩ := oguard hF
  refine g_idiv X dX7_addFigure_23 e_3 ?_
  refine g_bipush (v := 10) X dX7_addFigure_24 (by decide) ?_
  refine g_irem X dX7_addFigure_26 (by decide) ?_
  refine g_iadd X dX7_addFigure_27 ?_
  obtain ⟨r_4, q_5, hF⟩ := obind hF
  refine g_callVv (As := [.int ((48 : Int32) + ((x1 / y2) - (x1 / y2) / (10 : Int32) * (10 : Int32)))]) X dX7_addFigure_28 mlX7_80 (fun l D cyy => tX7_addByte (cx_inj X) l D cyy a0 ((48 : Int32) + ((x1 / y2) - (x1 / y2) / (10 : Int32) * (10 : Int32))) h0 S r_4 q_5) h0 (by decide) rfl rfl (Nat.le_of_ble_eq_true rfl) ?_
  exact (wX7_addFigure_s31 X a0 x1 h0 y2 k3 r_4 r ho hk3 hF)
theorem wX7_addFigure_s3 {z : Mx} {ad : Nat → Nat} {o : Option Value × St} (X : CxOk z ad RX7 cX7_addFigure 3 none 2) (a0 : Nat) (x1 : Int32) (h0 : KT a0 = 7) (y2 : Int32)  (k3 : Int32 → St → Option St)   (S : St) (r : St) (ho : o = (none, r)) (hk3 : ∀ (y2 : Int32) (S : St), k3 y2 S = some r → GW z ad o S 3 [(0, .ref (ad a0)), (1, .int x1), (2, .int y2)] []) (hF : fX7_addFigure_s3 k3 a0 x1 y2  S = some r) : GW z ad o S 3 [(0, .ref (ad a0)), (1, .int x1), (2, .int y2)] [] := by
  unfold fX7_addFigure_s3 at hF
  refine g_iload_n X dX7_addFigure_3 2 rfl rfl ?_
  refine g_iconst (v := 1) X dX7_addFigure_4 (by decide) ?_
  refine g_icmp_lt (tgt := 39) X dX7_addFigure_5 (by decide) (fun c_1 => ?_) (fun c_1 => ?_)
  · rw [if_pos c_1] at hF
    have hF := Option.some.inj hF
    subst hF
    exact g_vret X dX7_addFigure_39 ho
  · rw [if_neg c_1] at hF
    refine g_iload_n X dX7_addFigure_8 1 rfl rfl ?_
    refine g_iload_n X dX7_addFigure_9 2 rfl rfl ?_
    refine g_icmp_ge (tgt := 18) X dX7_addFigure_10 (by decide) (fun c_2 => ?_) (fun c_2 => ?_)
    · rw [if_pos c_2] at hF
      exact (wX7_addFigure_s18 X a0 x1 h0 y2 k3 S r ho hk3 hF)
    · rw [if_neg c_2] at hF
      refine g_iload_n X dX7_addFigure_13 2 rfl rfl ?_
      refine g_iconst (v := 1) X dX7_addFigure_14 (by decide) ?_
      refine g_icmp_ne (tgt := 31) X dX7_addFigure_15 (by decide) (fun c_6 => ?_) (fun c_6 => ?_)
      · rw [if_neg c_6] at hF
        exact (wX7_addFigure_s31 X a0 x1 h0 y2 k3 S r ho hk3 hF)
      · rw [if_pos c_6] at hF
        exact (wX7_addFigure_s18 X a0 x1 h0 y2 k3 S r ho hk3 hF)
theorem wX7_addFigure_h3 {z : Mx} {ad : Nat → Nat} {o : Option Value × St} (X : CxOk z ad RX7 cX7_addFigure 3 none 2) (a0 : Nat) (x1 : Int32) (h0 : KT a0 = 7)  (r : St) (ho : o = (none, r)) : ∀ (n : Nat) (y2 : Int32) (S : St), fX7_addFigure_h3 a0 x1 n y2 S = some r → GW z ad o S 3 [(0, .ref (ad a0)), (1, .int x1), (2, .int y2)] [] := by
  intro n
  induction n with
  | zero => intro y2 S  hF; cases hF
  | succ n ih => intro y2 S  hF; exact wX7_addFigure_s3 X a0 x1 h0 y2 (fX7_addFigure_h3 a0 x1 n)  S r ho ih hF
theorem wX7_addFigure {z : Mx} {ad : Nat → Nat} {o : Option Value × St} (X : CxOk z ad RX7 cX7_addFigure 3 none 2) (a0 : Nat) (x1 : Int32) (h0 : KT a0 = 7) (S : St) (r : St) (ho : o = (none, r)) (hF : fX7_addFigure a0 x1 S = some r) : GW z ad o S 0 [(0, .ref (ad a0)), (1, .int x1)] [] := by
  unfold fX7_addFigure at hF
  refine g_ldc (v := 1000000) X dX7_addFigure_0 (inr_51 _ (List.mem_of_getElem? (i := 18) rfl)) ?_
  refine g_istore_n X dX7_addFigure_2 rfl (by decide) (lv' := [(2, .int (1000000 : Int32)), (0, .ref (ad a0)), (1, .int x1)]) rfl ?_
  exact g_perm [1, 2, 0] rfl (wX7_addFigure_h3 X a0 x1 h0 r ho NN (1000000 : Int32) S hF)
theorem tX7_addFigure {ad : Nat → Nat} (hI : Inj ad) (l : Launch) (D : va_G) (cyy : Nat → ClassId) (a0 : Nat) (x1 : Int32) (h0 : KT a0 = 7) (S : St) (r : St) (hF : fX7_addFigure a0 x1 S = some r) : OkM l yX7_addFigure cX7_addFigure 3 none 2 ad D cyy [.ref (ad a0), .int x1] S (none, r) := okM_of hI (by decide) (inr_51 _ (List.mem_of_getElem? (i := 17) rfl)) (by show _ ≤ 3; exact Nat.le_of_ble_eq_true rfl) (fun z X => wX7_addFigure X a0 x1 h0 S r rfl hF)
def fX7_write_s92 (a0 : Nat) (a1 : Nat) (x2 : Int32) (b3 : Nat) (y4 : Int32)  (S : St) : Option St :=
  (fX4_called b3 y4 (2 : Int32) S).bind fun r_22 =>
  (fX7_addFigure a0 r_22 S).bind fun r_24 =>
  if (fX2_isHeld (a1 + 15) x2 r_24) = 0 then (some r_24) else
  ((fX7_addText a0 4 r_24).bind fun r_27 =>
  some r_27)
def fX7_write_s26 (a0 : Nat) (a1 : Nat) (x2 : Int32) (b3 : Nat) (y4 : Int32)  (S : St) : Option St :=
  (fX7_addName a0 (gJ S 4 0 b3) S).bind fun r_3 =>
  (fX7_addText a0 0 r_3).bind fun r_5 =>
  (fX4_called b3 y4 (0 : Int32) r_5).bind fun r_7 =>
  (fX7_addFigure a0 r_7 r_5).bind fun r_9 =>
  (fX4_isBetween b3 y4 r_9).bind fun r_11 =>
  if r_11 = 0 then ((fX7_addText a0 2 r_9).bind fun r_14 =>
  (fX4_called b3 y4 (1 : Int32) r_14).bind fun r_16 =>
  (fX7_addFigure a0 r_16 r_14).bind fun r_18 =>
  (fX7_addText a0 3 r_18).bind fun r_20 =>
  fX7_write_s92 a0 a1 x2 b3 y4 r_20) else
  ((fX7_addText a0 1 r_9).bind fun r_29 =>
  fX7_write_s92 a0 a1 x2 b3 y4 r_29)
def fX7_write_s21 (a0 : Nat) (a1 : Nat) (x2 : Int32) (b3 : Nat) (y4 : Int32)  (S : St) : Option St :=
  fX7_write_s26 a0 a1 x2 b3 y4 (sI S 7 1 a0 (0 : Int32))
def fX7_write_s10 (a0 : Nat) (a1 : Nat) (x2 : Int32) (b3 : Nat)  (S : St) : Option St :=
  if (x2 < 0 ∨ 5 ≤ x2.toNatClampNeg) then none else
  fX7_write_s21 a0 a1 x2 b3 (gA S 15 ((a1 + 15) + 1) x2.toNatClampNeg) S
def fX7_write (a0 : Nat) (a1 : Nat) (x2 : Int32) (S : St) : Option St :=
  if (x2 < 0 ∨ 5 ≤ x2.toNatClampNeg) then none else
  fX7_write_s10 a0 a1 x2 (((a1 + 1) + 1) + 2 + x2.toNatClampNeg) S
theorem wX7_write_s92 {z : Mx} {ad : Nat → Nat} {o : Option Value × St} (X : CxOk z ad RX7 cX7_write 5 none 6) (a0 : Nat) (a1 : Nat) (x2 : Int32) (h0 : KT a0 = 7) (h1 : KT a1 = 9) (b3 : Nat) (y4 : Int32)  (g3 : KT b3 = 4)  (S : St) (r : St) (ho : o = (none, r)) (hF : fX7_write_s92 a0 a1 x2 b3 y4  S = some r) : GW z ad o S 92 [(0, .ref (ad a0)), (1, .ref (ad a1)), (2, .int x2), (3, .ref (ad b3)), (4, .int y4)] [] := by
  unfold fX7_write_s92 at hF
  refine g_aload_n X dX7_write_92 0 rfl rfl ?_
  refine g_aload_n X dX7_write_93 3 rfl rfl ?_
  refine g_iload X dX7_write_94 4 rfl ?_
  refine g_iconst (v := 2) X dX7_write_96 (by decide) ?_
  obtain ⟨r_22, q_23, hF⟩ := obind hF
  refine g_callVi (As := [.int y4, .int (2 : Int32)]) X dX7_write_97 mlX7_57 (fun l D cyy => tX4_called (cx_inj X) l D cyy b3 y4 (2 : Int32) g3 S r_22 q_23) g3 (by decide) rfl rfl (Nat.le_of_ble_eq_true rfl) ?_
  obtain ⟨r_24, q_25, hF⟩ := obind hF
  refine g_callVv (As := [.int r_22]) X dX7_write_100 mlX7_61 (fun l D cyy => tX7_addFigure (cx_inj X) l D cyy a0 r_22 h0 S r_24 q_25) h0 (by decide) rfl rfl (Nat.le_of_ble_eq_true rfl) ?_
  refine g_aload_n X dX7_write_103 1 rfl rfl ?_
  refine g_getR (f := 15) X dX7_write_104 flX7_31 rfl rfl h1 ?_
  refine g_iload_n X dX7_write_107 2 rfl rfl ?_
  refine g_callVi (As := [.int x2]) X dX7_write_108 mlX7_75 (fun l D cyy => tX2_isHeld (cx_inj X) l D cyy (a1 + 15) x2 (on_9_1 h1) r_24) (on_9_1 h1) (by decide) rfl rfl (Nat.le_of_ble_eq_true rfl) ?_
  refine g_if_eq (tgt := 120) X dX7_write_111 (by decide) (fun c_26 => ?_) (fun c_26 => ?_)
  · rw [if_pos c_26] at hF
    have hF := Option.some.inj hF
    subst hF
    exact g_vret X dX7_write_120 ho
  · rw [if_neg c_26] at hF
    refine g_aload_n X dX7_write_114 0 rfl rfl ?_
    refine g_ldcS (i := 4) X dX7_write_115 (by decide) (by decide) ?_
    obtain ⟨r_27, q_28, hF⟩ := obind hF
    refine g_callVv (As := [.ref (ad (156 + 4))]) X dX7_write_117 mlX7_53 (fun l D cyy => tX7_addText (cx_inj X) l D cyy a0 4 h0 (by decide) r_24 r_27 q_28) h0 (by decide) rfl rfl (Nat.le_of_ble_eq_true rfl) ?_
    have hF := Option.some.inj hF
    subst hF
    exact g_vret X dX7_write_120 ho
theorem wX7_write_s26 {z : Mx} {ad : Nat → Nat} {o : Option Value × St} (X : CxOk z ad RX7 cX7_write 5 none 6) (a0 : Nat) (a1 : Nat) (x2 : Int32) (h0 : KT a0 = 7) (h1 : KT a1 = 9) (b3 : Nat) (y4 : Int32)  (g3 : KT b3 = 4)  (S : St) (r : St) (ho : o = (none, r)) (hF : fX7_write_s26 a0 a1 x2 b3 y4  S = some r) : GW z ad o S 26 [(0, .ref (ad a0)), (1, .ref (ad a1)), (2, .int x2), (3, .ref (ad b3)), (4, .int y4)] [] := by
  unfold fX7_write_s26 at hF
  refine g_aload_n X dX7_write_26 0 rfl rfl ?_
  refine g_aload_n X dX7_write_27 3 rfl rfl ?_
  refine g_getJ X dX7_write_28 flX7_41 rfl g3 ?_
  obtain ⟨r_3, q_4, hF⟩ := obind hF
  refine g_callVv (As := [.long (gJ S 4 0 b3)]) X dX7_write_31 mlX7_47 (fun l D cyy => tX7_addName (cx_inj X) l D cyy a0 (gJ S 4 0 b3) h0 S r_3 q_4) h0 (by decide) rfl rfl (Nat.le_of_ble_eq_true rfl) ?_
  refine g_aload_n X dX7_write_34 0 rfl rfl ?_
  refine g_ldcS (i := 0) X dX7_write_35 (by decide) (by decide) ?_
  obtain ⟨r_5, q_6, hF⟩ := obind hF
  refine g_callVv (As := [.ref (ad (156 + 0))]) X dX7_write_37 mlX7_53 (fun l D cyy => tX7_addText (cx_inj X) l D cyy a0 0 h0 (by decide) r_3 r_5 q_6) h0 (by decide) rfl rfl (Nat.le_of_ble_eq_true rfl) ?_
  refine g_aload_n X dX7_write_40 0 rfl rfl ?_
  refine g_aload_n X dX7_write_41 3 rfl rfl ?_
  refine g_iload X dX7_write_42 4 rfl ?_
  refine g_iconst (v := 0) X dX7_write_44 (by decide) ?_
  obtain ⟨r_7, q_8, hF⟩ := obind hF
  refine g_callVi (As := [.int y4, .int (0 : Int32)]) X dX7_write_45 mlX7_57 (fun l D cyy => tX4_called (cx_inj X) l D cyy b3 y4 (0 : Int32) g3 r_5 r_7 q_8) g3 (by decide) rfl rfl (Nat.le_of_ble_eq_true rfl) ?_
  obtain ⟨r_9, q_10, hF⟩ := obind hF
  refine g_callVv (As := [.int r_7]) X dX7_write_48 mlX7_61 (fun l D cyy => tX7_addFigure (cx_inj X) l D cyy a0 r_7 h0 r_5 r_9 q_10) h0 (by decide) rfl rfl (Nat.le_of_ble_eq_true rfl) ?_
  refine g_aload_n X dX7_write_51 3 rfl rfl ?_
  refine g_iload X dX7_write_52 4 rfl ?_
  obtain ⟨r_11, q_12, hF⟩ := obind hF
  refine g_callVi (As := [.int y4]) X dX7_write_54 mlX7_65 (fun l D cyy => tX4_isBetween (cx_inj X) l D cyy b3 y4 g3 r_9 r_11 q_12) g3 (by decide) rfl rfl (Nat.le_of_ble_eq_true rfl) ?_
  refine g_if_eq (tgt := 69) X dX7_write_57 (by decide) (fun c_13 => ?_) (fun c_13 => ?_)
  · rw [if_pos c_13] at hF
    refine g_aload_n X dX7_write_69 0 rfl rfl ?_
    refine g_ldcS (i := 2) X dX7_write_70 (by decide) (by decide) ?_
    obtain ⟨r_14, q_15, hF⟩ := obind hF
    refine g_callVv (As := [.ref (ad (156 + 2))]) X dX7_write_72 mlX7_53 (fun l D cyy => tX7_addText (cx_inj X) l D cyy a0 2 h0 (by decide) r_9 r_14 q_15) h0 (by decide) rfl rfl (Nat.le_of_ble_eq_true rfl) ?_
    refine g_aload_n X dX7_write_75 0 rfl rfl ?_
    refine g_aload_n X dX7_write_76 3 rfl rfl ?_
    refine g_iload X dX7_write_77 4 rfl ?_
    refine g_iconst (v := 1) X dX7_write_79 (by decide) ?_
    obtain ⟨r_16, q_17, hF⟩ := obind hF
    refine g_callVi (As := [.int y4, .int (1 : Int32)]) X dX7_write_80 mlX7_57 (fun l D cyy => tX4_called (cx_inj X) l D cyy b3 y4 (1 : Int32) g3 r_14 r_16 q_17) g3 (by decide) rfl rfl (Nat.le_of_ble_eq_true rfl) ?_
    obtain ⟨r_18, q_19, hF⟩ := obind hF
    refine g_callVv (As := [.int r_16]) X dX7_write_83 mlX7_61 (fun l D cyy => tX7_addFigure (cx_inj X) l D cyy a0 r_16 h0 r_14 r_18 q_19) h0 (by decide) rfl rfl (Nat.le_of_ble_eq_true rfl) ?_
    refine g_aload_n X dX7_write_86 0 rfl rfl ?_
    refine g_ldcS (i := 3) X dX7_write_87 (by decide) (by decide) ?_
    obtain ⟨r_20, q_21, hF⟩ := obind hF
    refine g_callVv (As := [.ref (ad (156 + 3))]) X dX7_write_89 mlX7_53 (fun l D cyy => tX7_addText (cx_inj X) l D cyy a0 3 h0 (by decide) r_18 r_20 q_21) h0 (by decide) rfl rfl (Nat.le_of_ble_eq_true rfl) ?_
    exact (wX7_write_s92 X a0 a1 x2 h0 h1 b3 y4 g3 r_20 r ho hF)
  · rw [if_neg c_13] at hF
    refine g_aload_n X dX7_write_60 0 rfl rfl ?_
    refine g_ldcS (i := 1) X dX7_write_61 (by decide) (by decide) ?_
    obtain ⟨r_29, q_30, hF⟩ := obind hF
    refine g_callVv (As := [.ref (ad (156 + 1))]) X dX7_write_63 mlX7_53 (fun l D cyy => tX7_addText (cx_inj X) l D cyy a0 1 h0 (by decide) r_9 r_29 q_30) h0 (by decide) rfl rfl (Nat.le_of_ble_eq_true rfl) ?_
    refine g_goto (tgt := 92) X dX7_write_66 (by decide) ?_
    exact (wX7_write_s92 X a0 a1 x2 h0 h1 b3 y4 g3 r_29 r ho hF)
theorem wX7_write_s21 {z : Mx} {ad : Nat → Nat} {o : Option Value × St} (X : CxOk z ad RX7 cX7_write 5 none 6) (a0 : Nat) (a1 : Nat) (x2 : Int32) (h0 : KT a0 = 7) (h1 : KT a1 = 9) (b3 : Nat) (y4 : Int32)  (g3 : KT b3 = 4)  (S : St) (r : St) (ho : o = (none, r)) (hF : fX7_write_s21 a0 a1 x2 b3 y4  S = some r) : GW z ad o S 21 [(0, .ref (ad a0)), (1, .ref (ad a1)), (2, .int x2), (3, .ref (ad b3)), (4, .int y4)] [] := by
  unfold fX7_write_s21 at hF
  refine g_aload_n X dX7_write_21 0 rfl rfl ?_
  refine g_iconst (v := 0) X dX7_write_22 (by decide) ?_
  refine g_putI X dX7_write_23 fpX7_15 rfl rfl rfl h0 ?_
  exact (wX7_write_s26 X a0 a1 x2 h0 h1 b3 y4 g3 (sI S 7 1 a0 (0 : Int32)) r ho hF)
theorem wX7_write_s10 {z : Mx} {ad : Nat → Nat} {o : Option Value × St} (X : CxOk z ad RX7 cX7_write 5 none 6) (a0 : Nat) (a1 : Nat) (x2 : Int32) (h0 : KT a0 = 7) (h1 : KT a1 = 9) (b3 : Nat)  (g3 : KT b3 = 4)  (S : St) (r : St) (ho : o = (none, r)) (hF : fX7_write_s10 a0 a1 x2 b3  S = some r) : GW z ad o S 10 [(0, .ref (ad a0)), (1, .ref (ad a1)), (2, .int x2), (3, .ref (ad b3))] [] := by
  unfold fX7_write_s10 at hF
  refine g_aload_n X dX7_write_10 1 rfl rfl ?_
  refine g_getR (f := 15) X dX7_write_11 flX7_31 rfl rfl h1 ?_
  refine g_getR (f := 1) X dX7_write_14 flX7_35 rfl rfl (on_9_1 h1) ?_
  refine g_iload_n X dX7_write_17 2 rfl rfl ?_
  obtain ⟨e_2, hF⟩ := oguard hF
  refine g_iald X dX7_write_18 kd_15 (on_2_3 (on_9_1 h1)) e_2 ?_
  refine g_istore X dX7_write_19 (by decide) (lv' := [(4, .int (gA S 15 ((a1 + 15) + 1) x2.toNatClampNeg)), (0, .ref (ad a0)), (1, .ref (ad a1)), (2, .int x2), (3, .ref (ad b3))]) rfl ?_
  exact g_perm [1, 2, 3, 4, 0] rfl (wX7_write_s21 X a0 a1 x2 h0 h1 b3 (gA S 15 ((a1 + 15) + 1) x2.toNatClampNeg) g3 S r ho hF)
theorem wX7_write {z : Mx} {ad : Nat → Nat} {o : Option Value × St} (X : CxOk z ad RX7 cX7_write 5 none 6) (a0 : Nat) (a1 : Nat) (x2 : Int32) (h0 : KT a0 = 7) (h1 : KT a1 = 9) (S : St) (r : St) (ho : o = (none, r)) (hF : fX7_write a0 a1 x2 S = some r) : GW z ad o S 0 [(0, .ref (ad a0)), (1, .ref (ad a1)), (2, .int x2)] [] := by
  unfold fX7_write at hF
  refine g_aload_n X dX7_write_0 1 rfl rfl ?_
  refine g_getR (f := 1) X dX7_write_1 flX7_19 rfl rfl h1 ?_
  refine g_getR (f := 1) X dX7_write_4 flX7_25 rfl rfl (on_9_0 h1) ?_
  refine g_iload_n X dX7_write_7 2 rfl rfl ?_
  obtain ⟨e_1, hF⟩ := oguard hF
  refine g_aaldP X dX7_write_8 (on_8_0 (on_9_0 h1)) rfl e_1 ?_
  refine g_astore_n X dX7_write_9 rfl (by decide) (lv' := [(3, .ref (ad (((a1 + 1) + 1) + 2 + x2.toNatClampNeg))), (0, .ref (ad a0)), (1, .ref (ad a1)), (2, .int x2)]) rfl ?_
  exact g_perm [1, 2, 3, 0] rfl (wX7_write_s10 X a0 a1 x2 h0 h1 (((a1 + 1) + 1) + 2 + x2.toNatClampNeg) (on_p (on_8_0 (on_9_0 h1)) (inb e_1)) S r ho hF)
theorem tX7_write {ad : Nat → Nat} (hI : Inj ad) (l : Launch) (D : va_G) (cyy : Nat → ClassId) (a0 : Nat) (a1 : Nat) (x2 : Int32) (h0 : KT a0 = 7) (h1 : KT a1 = 9) (S : St) (r : St) (hF : fX7_write a0 a1 x2 S = some r) : OkM l yX7_write cX7_write 5 none 6 ad D cyy [.ref (ad a0), .ref (ad a1), .int x2] S (none, r) := okM_of hI (by decide) (inr_48 _ (List.mem_of_getElem? (i := 18) rfl)) (by show _ ≤ 5; exact Nat.le_of_ble_eq_true rfl) (fun z X => wX7_write X a0 a1 x2 h0 h1 S r rfl hF)
