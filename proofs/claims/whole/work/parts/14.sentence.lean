theorem dX5_forget_0 : decode cX5_forget 0 = .ok (.aload_n 0, 1) := by decide +kernel
theorem dX5_forget_1 : decode cX5_forget 1 = .ok (.iconst 0, 1) := by decide +kernel
theorem dX5_forget_2 : decode cX5_forget 2 = .ok (.putfield 21, 3) := by decide +kernel
theorem dX5_forget_5 : decode cX5_forget 5 = .ok (.aload_n 0, 1) := by decide +kernel
theorem dX5_forget_6 : decode cX5_forget 6 = .ok (.iconst 0, 1) := by decide +kernel
theorem dX5_forget_7 : decode cX5_forget 7 = .ok (.putfield 25, 3) := by decide +kernel
theorem dX5_forget_10 : decode cX5_forget 10 = .ok (.return_, 1) := by decide +kernel
theorem dX5_copyFrom_0 : decode cX5_copyFrom 0 = .ok (.iconst 0, 1) := by decide +kernel
theorem dX5_copyFrom_1 : decode cX5_copyFrom 1 = .ok (.istore_n 2, 1) := by decide +kernel
theorem dX5_copyFrom_2 : decode cX5_copyFrom 2 = .ok (.iload_n 2, 1) := by decide +kernel
theorem dX5_copyFrom_3 : decode cX5_copyFrom 3 = .ok (.bipush 40, 2) := by decide +kernel
theorem dX5_copyFrom_5 : decode cX5_copyFrom 5 = .ok (.if_icmp .ge 45, 3) := by decide +kernel
theorem dX5_copyFrom_8 : decode cX5_copyFrom 8 = .ok (.aload_n 0, 1) := by decide +kernel
theorem dX5_copyFrom_9 : decode cX5_copyFrom 9 = .ok (.getfield 11, 3) := by decide +kernel
theorem dX5_copyFrom_12 : decode cX5_copyFrom 12 = .ok (.iload_n 2, 1) := by decide +kernel
theorem dX5_copyFrom_13 : decode cX5_copyFrom 13 = .ok (.aload_n 1, 1) := by decide +kernel
theorem dX5_copyFrom_14 : decode cX5_copyFrom 14 = .ok (.getfield 11, 3) := by decide +kernel
theorem dX5_copyFrom_17 : decode cX5_copyFrom 17 = .ok (.iload_n 2, 1) := by decide +kernel
theorem dX5_copyFrom_18 : decode cX5_copyFrom 18 = .ok (.iaload, 1) := by decide +kernel
theorem dX5_copyFrom_19 : decode cX5_copyFrom 19 = .ok (.iastore, 1) := by decide +kernel
theorem dX5_copyFrom_20 : decode cX5_copyFrom 20 = .ok (.aload_n 0, 1) := by decide +kernel
theorem dX5_copyFrom_21 : decode cX5_copyFrom 21 = .ok (.getfield 15, 3) := by decide +kernel
theorem dX5_copyFrom_24 : decode cX5_copyFrom 24 = .ok (.iload_n 2, 1) := by decide +kernel
theorem dX5_copyFrom_25 : decode cX5_copyFrom 25 = .ok (.aload_n 1, 1) := by decide +kernel
theorem dX5_copyFrom_26 : decode cX5_copyFrom 26 = .ok (.getfield 15, 3) := by decide +kernel
theorem dX5_copyFrom_29 : decode cX5_copyFrom 29 = .ok (.iload_n 2, 1) := by decide +kernel
theorem dX5_copyFrom_30 : decode cX5_copyFrom 30 = .ok (.iaload, 1) := by decide +kernel
theorem dX5_copyFrom_31 : decode cX5_copyFrom 31 = .ok (.iastore, 1) := by decide +kernel
theorem dX5_copyFrom_32 : decode cX5_copyFrom 32 = .ok (.aload_n 0, 1) := by decide +kernel
theorem dX5_copyFrom_33 : decode cX5_copyFrom 33 = .ok (.getfield 18, 3) := by decide +kernel
theorem dX5_copyFrom_36 : decode cX5_copyFrom 36 = .ok (.iload_n 2, 1) := by decide +kernel
theorem dX5_copyFrom_37 : decode cX5_copyFrom 37 = .ok (.aload_n 1, 1) := by decide +kernel
theorem dX5_copyFrom_38 : decode cX5_copyFrom 38 = .ok (.getfield 18, 3) := by decide +kernel
theorem dX5_copyFrom_41 : decode cX5_copyFrom 41 = .ok (.iload_n 2, 1) := by decide +kernel
theorem dX5_copyFrom_42 : decode cX5_copyFrom 42 = .ok (.iaload, 1) := by decide +kernel
theorem dX5_copyFrom_43 : decode cX5_copyFrom 43 = .ok (.iastore, 1) := by decide +kernel
theorem dX5_copyFrom_44 : decode cX5_copyFrom 44 = .ok (.iinc 2 1, 3) := by decide +kernel
theorem dX5_copyFrom_47 : decode cX5_copyFrom 47 = .ok (.goto (-45), 3) := by decide +kernel
theorem dX5_copyFrom_50 : decode cX5_copyFrom 50 = .ok (.aload_n 0, 1) := by decide +kernel
theorem dX5_copyFrom_51 : decode cX5_copyFrom 51 = .ok (.aload_n 1, 1) := by decide +kernel
theorem dX5_copyFrom_52 : decode cX5_copyFrom 52 = .ok (.getfield 21, 3) := by decide +kernel
theorem dX5_copyFrom_55 : decode cX5_copyFrom 55 = .ok (.putfield 21, 3) := by decide +kernel
theorem dX5_copyFrom_58 : decode cX5_copyFrom 58 = .ok (.aload_n 0, 1) := by decide +kernel
theorem dX5_copyFrom_59 : decode cX5_copyFrom 59 = .ok (.aload_n 1, 1) := by decide +kernel
theorem dX5_copyFrom_60 : decode cX5_copyFrom 60 = .ok (.getfield 25, 3) := by decide +kernel
theorem dX5_copyFrom_63 : decode cX5_copyFrom 63 = .ok (.putfield 25, 3) := by decide +kernel
theorem dX5_copyFrom_66 : decode cX5_copyFrom 66 = .ok (.return_, 1) := by decide +kernel
theorem dX5_stepAt_0 : decode cX5_stepAt 0 = .ok (.aload_n 0, 1) := by decide +kernel
theorem dX5_stepAt_1 : decode cX5_stepAt 1 = .ok (.ldc2_w 82, 3) := by decide +kernel
theorem dX5_stepAt_4 : decode cX5_stepAt 4 = .ok (.invokevirtual 53, 3) := by decide +kernel
theorem dX5_stepAt_7 : decode cX5_stepAt 7 = .ok (.ifCond .eq 5, 3) := by decide +kernel
theorem dX5_stepAt_10 : decode cX5_stepAt 10 = .ok (.iconst 1, 1) := by decide +kernel
theorem dX5_stepAt_11 : decode cX5_stepAt 11 = .ok (.ireturn, 1) := by decide +kernel
theorem dX5_stepAt_12 : decode cX5_stepAt 12 = .ok (.aload_n 0, 1) := by decide +kernel
theorem dX5_stepAt_13 : decode cX5_stepAt 13 = .ok (.ldc2_w 84, 3) := by decide +kernel
theorem dX5_stepAt_16 : decode cX5_stepAt 16 = .ok (.invokevirtual 53, 3) := by decide +kernel
theorem dX5_stepAt_19 : decode cX5_stepAt 19 = .ok (.ifCond .eq 5, 3) := by decide +kernel
theorem dX5_stepAt_22 : decode cX5_stepAt 22 = .ok (.iconst 4, 1) := by decide +kernel
theorem dX5_stepAt_23 : decode cX5_stepAt 23 = .ok (.ireturn, 1) := by decide +kernel
theorem dX5_stepAt_24 : decode cX5_stepAt 24 = .ok (.aload_n 0, 1) := by decide +kernel
theorem dX5_stepAt_25 : decode cX5_stepAt 25 = .ok (.ldc2_w 86, 3) := by decide +kernel
theorem dX5_stepAt_28 : decode cX5_stepAt 28 = .ok (.invokevirtual 53, 3) := by decide +kernel
theorem dX5_stepAt_31 : decode cX5_stepAt 31 = .ok (.ifCond .eq 5, 3) := by decide +kernel
theorem dX5_stepAt_34 : decode cX5_stepAt 34 = .ok (.iconst 5, 1) := by decide +kernel
theorem dX5_stepAt_35 : decode cX5_stepAt 35 = .ok (.ireturn, 1) := by decide +kernel
theorem dX5_stepAt_36 : decode cX5_stepAt 36 = .ok (.aload_n 0, 1) := by decide +kernel
theorem dX5_stepAt_37 : decode cX5_stepAt 37 = .ok (.ldc2_w 88, 3) := by decide +kernel
theorem dX5_stepAt_40 : decode cX5_stepAt 40 = .ok (.invokevirtual 53, 3) := by decide +kernel
theorem dX5_stepAt_43 : decode cX5_stepAt 43 = .ok (.ifCond .eq 6, 3) := by decide +kernel
theorem dX5_stepAt_46 : decode cX5_stepAt 46 = .ok (.bipush 6, 2) := by decide +kernel
theorem dX5_stepAt_48 : decode cX5_stepAt 48 = .ok (.ireturn, 1) := by decide +kernel
theorem dX5_stepAt_49 : decode cX5_stepAt 49 = .ok (.aload_n 0, 1) := by decide +kernel
theorem dX5_stepAt_50 : decode cX5_stepAt 50 = .ok (.ldc2_w 90, 3) := by decide +kernel
theorem dX5_stepAt_53 : decode cX5_stepAt 53 = .ok (.invokevirtual 53, 3) := by decide +kernel
theorem dX5_stepAt_56 : decode cX5_stepAt 56 = .ok (.ifCond .eq 6, 3) := by decide +kernel
theorem dX5_stepAt_59 : decode cX5_stepAt 59 = .ok (.bipush 7, 2) := by decide +kernel
theorem dX5_stepAt_61 : decode cX5_stepAt 61 = .ok (.ireturn, 1) := by decide +kernel
theorem dX5_stepAt_62 : decode cX5_stepAt 62 = .ok (.aload_n 0, 1) := by decide +kernel
theorem dX5_stepAt_63 : decode cX5_stepAt 63 = .ok (.invokestatic 92, 3) := by decide +kernel
theorem dX5_stepAt_66 : decode cX5_stepAt 66 = .ok (.ireturn, 1) := by decide +kernel
theorem dX5_figureAt_0 : decode cX5_figureAt 0 = .ok (.aload_n 0, 1) := by decide +kernel
theorem dX5_figureAt_1 : decode cX5_figureAt 1 = .ok (.ldc2_w 95, 3) := by decide +kernel
theorem dX5_figureAt_4 : decode cX5_figureAt 4 = .ok (.invokevirtual 53, 3) := by decide +kernel
theorem dX5_figureAt_7 : decode cX5_figureAt 7 = .ok (.ifCond .eq 6, 3) := by decide +kernel
theorem dX5_figureAt_10 : decode cX5_figureAt 10 = .ok (.bipush 8, 2) := by decide +kernel
theorem dX5_figureAt_12 : decode cX5_figureAt 12 = .ok (.ireturn, 1) := by decide +kernel
theorem dX5_figureAt_13 : decode cX5_figureAt 13 = .ok (.aload_n 0, 1) := by decide +kernel
theorem dX5_figureAt_14 : decode cX5_figureAt 14 = .ok (.ldc2_w 97, 3) := by decide +kernel
theorem dX5_figureAt_17 : decode cX5_figureAt 17 = .ok (.invokevirtual 53, 3) := by decide +kernel
theorem dX5_figureAt_20 : decode cX5_figureAt 20 = .ok (.ifCond .eq 6, 3) := by decide +kernel
theorem dX5_figureAt_23 : decode cX5_figureAt 23 = .ok (.bipush 9, 2) := by decide +kernel
theorem dX5_figureAt_25 : decode cX5_figureAt 25 = .ok (.ireturn, 1) := by decide +kernel
theorem dX5_figureAt_26 : decode cX5_figureAt 26 = .ok (.aload_n 0, 1) := by decide +kernel
theorem dX5_figureAt_27 : decode cX5_figureAt 27 = .ok (.ldc2_w 99, 3) := by decide +kernel
theorem dX5_figureAt_30 : decode cX5_figureAt 30 = .ok (.invokevirtual 53, 3) := by decide +kernel
theorem dX5_figureAt_33 : decode cX5_figureAt 33 = .ok (.ifCond .eq 6, 3) := by decide +kernel
theorem dX5_figureAt_36 : decode cX5_figureAt 36 = .ok (.bipush 10, 2) := by decide +kernel
theorem dX5_figureAt_38 : decode cX5_figureAt 38 = .ok (.ireturn, 1) := by decide +kernel
theorem dX5_figureAt_39 : decode cX5_figureAt 39 = .ok (.aload_n 0, 1) := by decide +kernel
theorem dX5_figureAt_40 : decode cX5_figureAt 40 = .ok (.ldc2_w 101, 3) := by decide +kernel
theorem dX5_figureAt_43 : decode cX5_figureAt 43 = .ok (.invokevirtual 53, 3) := by decide +kernel
theorem dX5_figureAt_46 : decode cX5_figureAt 46 = .ok (.ifCond .eq 6, 3) := by decide +kernel
theorem dX5_figureAt_49 : decode cX5_figureAt 49 = .ok (.bipush 11, 2) := by decide +kernel
theorem dX5_figureAt_51 : decode cX5_figureAt 51 = .ok (.ireturn, 1) := by decide +kernel
theorem dX5_figureAt_52 : decode cX5_figureAt 52 = .ok (.aload_n 0, 1) := by decide +kernel
theorem dX5_figureAt_53 : decode cX5_figureAt 53 = .ok (.ldc2_w 103, 3) := by decide +kernel
theorem dX5_figureAt_56 : decode cX5_figureAt 56 = .ok (.invokevirtual 53, 3) := by decide +kernel
theorem dX5_figureAt_59 : decode cX5_figureAt 59 = .ok (.ifCond .eq 8, 3) := by decide +kernel
theorem dX5_figureAt_62 : decode cX5_figureAt 62 = .ok (.bipush 12, 2) := by decide +kernel
theorem dX5_figureAt_64 : decode cX5_figureAt 64 = .ok (.goto 4, 3) := by decide +kernel
theorem dX5_figureAt_67 : decode cX5_figureAt 67 = .ok (.iconst 0, 1) := by decide +kernel
theorem dX5_figureAt_68 : decode cX5_figureAt 68 = .ok (.ireturn, 1) := by decide +kernel
theorem dX5_readRest_0 : decode cX5_readRest 0 = .ok (.iload_n 3, 1) := by decide +kernel
theorem dX5_readRest_1 : decode cX5_readRest 1 = .ok (.bipush 6, 2) := by decide +kernel
theorem dX5_readRest_3 : decode cX5_readRest 3 = .ok (.if_icmp .eq 9, 3) := by decide +kernel
theorem dX5_readRest_6 : decode cX5_readRest 6 = .ok (.iload_n 3, 1) := by decide +kernel
theorem dX5_readRest_7 : decode cX5_readRest 7 = .ok (.bipush 7, 2) := by decide +kernel
theorem dX5_readRest_9 : decode cX5_readRest 9 = .ok (.if_icmp .ne 35, 3) := by decide +kernel
theorem dX5_readRest_12 : decode cX5_readRest 12 = .ok (.aload_n 0, 1) := by decide +kernel
theorem dX5_readRest_13 : decode cX5_readRest 13 = .ok (.iload_n 3, 1) := by decide +kernel
theorem dX5_readRest_14 : decode cX5_readRest 14 = .ok (.iconst 0, 1) := by decide +kernel
theorem dX5_readRest_15 : decode cX5_readRest 15 = .ok (.iload_n 3, 1) := by decide +kernel
theorem dX5_readRest_16 : decode cX5_readRest 16 = .ok (.bipush 6, 2) := by decide +kernel
theorem dX5_readRest_18 : decode cX5_readRest 18 = .ok (.if_icmp .ne 11, 3) := by decide +kernel
theorem dX5_readRest_21 : decode cX5_readRest 21 = .ok (.aload_n 2, 1) := by decide +kernel
theorem dX5_readRest_22 : decode cX5_readRest 22 = .ok (.aload_n 1, 1) := by decide +kernel
theorem dX5_readRest_23 : decode cX5_readRest 23 = .ok (.invokevirtual 105, 3) := by decide +kernel
theorem dX5_readRest_26 : decode cX5_readRest 26 = .ok (.goto 8, 3) := by decide +kernel
theorem dX5_readRest_29 : decode cX5_readRest 29 = .ok (.aload_n 2, 1) := by decide +kernel
theorem dX5_readRest_30 : decode cX5_readRest 30 = .ok (.aload_n 1, 1) := by decide +kernel
theorem dX5_readRest_31 : decode cX5_readRest 31 = .ok (.invokevirtual 110, 3) := by decide +kernel
theorem dX5_readRest_34 : decode cX5_readRest 34 = .ok (.invokevirtual 60, 3) := by decide +kernel
theorem dX5_readRest_37 : decode cX5_readRest 37 = .ok (.aload_n 1, 1) := by decide +kernel
theorem dX5_readRest_38 : decode cX5_readRest 38 = .ok (.invokevirtual 57, 3) := by decide +kernel
theorem dX5_readRest_41 : decode cX5_readRest 41 = .ok (.goto 70, 3) := by decide +kernel
theorem dX5_readRest_44 : decode cX5_readRest 44 = .ok (.iload_n 3, 1) := by decide +kernel
theorem dX5_readRest_45 : decode cX5_readRest 45 = .ok (.bipush 8, 2) := by decide +kernel
theorem dX5_readRest_47 : decode cX5_readRest 47 = .ok (.if_icmp .lt 57, 3) := by decide +kernel
theorem dX5_readRest_50 : decode cX5_readRest 50 = .ok (.aload_n 1, 1) := by decide +kernel
theorem dX5_readRest_51 : decode cX5_readRest 51 = .ok (.getfield 73, 3) := by decide +kernel
theorem dX5_readRest_54 : decode cX5_readRest 54 = .ok (.istore 4, 2) := by decide +kernel
theorem dX5_readRest_56 : decode cX5_readRest 56 = .ok (.iload 4, 2) := by decide +kernel
theorem dX5_readRest_58 : decode cX5_readRest 58 = .ok (.bipush 60, 2) := by decide +kernel
theorem dX5_readRest_60 : decode cX5_readRest 60 = .ok (.if_icmp .eq 22, 3) := by decide +kernel
theorem dX5_readRest_63 : decode cX5_readRest 63 = .ok (.iload 4, 2) := by decide +kernel
theorem dX5_readRest_65 : decode cX5_readRest 65 = .ok (.bipush 61, 2) := by decide +kernel
theorem dX5_readRest_67 : decode cX5_readRest 67 = .ok (.if_icmp .eq 15, 3) := by decide +kernel
theorem dX5_readRest_70 : decode cX5_readRest 70 = .ok (.iload 4, 2) := by decide +kernel
theorem dX5_readRest_72 : decode cX5_readRest 72 = .ok (.bipush 62, 2) := by decide +kernel
theorem dX5_readRest_74 : decode cX5_readRest 74 = .ok (.if_icmp .eq 8, 3) := by decide +kernel
theorem dX5_readRest_77 : decode cX5_readRest 77 = .ok (.aload_n 1, 1) := by decide +kernel
theorem dX5_readRest_78 : decode cX5_readRest 78 = .ok (.iconst 1, 1) := by decide +kernel
theorem dX5_readRest_79 : decode cX5_readRest 79 = .ok (.invokevirtual 45, 3) := by decide +kernel
theorem dX5_readRest_82 : decode cX5_readRest 82 = .ok (.aload_n 1, 1) := by decide +kernel
theorem dX5_readRest_83 : decode cX5_readRest 83 = .ok (.invokevirtual 57, 3) := by decide +kernel
theorem dX5_readRest_86 : decode cX5_readRest 86 = .ok (.aload_n 0, 1) := by decide +kernel
theorem dX5_readRest_87 : decode cX5_readRest 87 = .ok (.iload_n 3, 1) := by decide +kernel
theorem dX5_readRest_88 : decode cX5_readRest 88 = .ok (.iload 4, 2) := by decide +kernel
theorem dX5_readRest_90 : decode cX5_readRest 90 = .ok (.aload_n 1, 1) := by decide +kernel
theorem dX5_readRest_91 : decode cX5_readRest 91 = .ok (.iconst 0, 1) := by decide +kernel
theorem dX5_readRest_92 : decode cX5_readRest 92 = .ok (.sipush 999, 3) := by decide +kernel
theorem dX5_readRest_95 : decode cX5_readRest 95 = .ok (.invokevirtual 113, 3) := by decide +kernel
theorem dX5_readRest_98 : decode cX5_readRest 98 = .ok (.invokevirtual 60, 3) := by decide +kernel
theorem dX5_readRest_101 : decode cX5_readRest 101 = .ok (.goto 10, 3) := by decide +kernel
theorem dX5_readRest_104 : decode cX5_readRest 104 = .ok (.aload_n 0, 1) := by decide +kernel
theorem dX5_readRest_105 : decode cX5_readRest 105 = .ok (.iload_n 3, 1) := by decide +kernel
theorem dX5_readRest_106 : decode cX5_readRest 106 = .ok (.iconst 0, 1) := by decide +kernel
theorem dX5_readRest_107 : decode cX5_readRest 107 = .ok (.iconst 0, 1) := by decide +kernel
theorem dX5_readRest_108 : decode cX5_readRest 108 = .ok (.invokevirtual 60, 3) := by decide +kernel
theorem dX5_readRest_111 : decode cX5_readRest 111 = .ok (.return_, 1) := by decide +kernel
theorem dX5_add_0 : decode cX5_add 0 = .ok (.aload_n 0, 1) := by decide +kernel
theorem dX5_add_1 : decode cX5_add 1 = .ok (.getfield 21, 3) := by decide +kernel
theorem dX5_add_4 : decode cX5_add 4 = .ok (.bipush 40, 2) := by decide +kernel
theorem dX5_add_6 : decode cX5_add 6 = .ok (.if_icmp .ge 43, 3) := by decide +kernel
theorem dX5_add_9 : decode cX5_add 9 = .ok (.aload_n 0, 1) := by decide +kernel
theorem dX5_add_10 : decode cX5_add 10 = .ok (.getfield 11, 3) := by decide +kernel
theorem dX5_add_13 : decode cX5_add 13 = .ok (.aload_n 0, 1) := by decide +kernel
theorem dX5_add_14 : decode cX5_add 14 = .ok (.getfield 21, 3) := by decide +kernel
theorem dX5_add_17 : decode cX5_add 17 = .ok (.iload_n 1, 1) := by decide +kernel
theorem dX5_add_18 : decode cX5_add 18 = .ok (.iastore, 1) := by decide +kernel
theorem dX5_add_19 : decode cX5_add 19 = .ok (.aload_n 0, 1) := by decide +kernel
theorem dX5_add_20 : decode cX5_add 20 = .ok (.getfield 15, 3) := by decide +kernel
theorem dX5_add_23 : decode cX5_add 23 = .ok (.aload_n 0, 1) := by decide +kernel
theorem dX5_add_24 : decode cX5_add 24 = .ok (.getfield 21, 3) := by decide +kernel
theorem dX5_add_27 : decode cX5_add 27 = .ok (.iload_n 2, 1) := by decide +kernel
theorem dX5_add_28 : decode cX5_add 28 = .ok (.iastore, 1) := by decide +kernel
theorem dX5_add_29 : decode cX5_add 29 = .ok (.aload_n 0, 1) := by decide +kernel
theorem dX5_add_30 : decode cX5_add 30 = .ok (.getfield 18, 3) := by decide +kernel
theorem dX5_add_33 : decode cX5_add 33 = .ok (.aload_n 0, 1) := by decide +kernel
theorem dX5_add_34 : decode cX5_add 34 = .ok (.getfield 21, 3) := by decide +kernel
theorem dX5_add_37 : decode cX5_add 37 = .ok (.iload_n 3, 1) := by decide +kernel
theorem dX5_add_38 : decode cX5_add 38 = .ok (.iastore, 1) := by decide +kernel
theorem dX5_add_39 : decode cX5_add 39 = .ok (.aload_n 0, 1) := by decide +kernel
theorem dX5_add_40 : decode cX5_add 40 = .ok (.dup, 1) := by decide +kernel
theorem dX5_add_41 : decode cX5_add 41 = .ok (.getfield 21, 3) := by decide +kernel
theorem dX5_add_44 : decode cX5_add 44 = .ok (.iconst 1, 1) := by decide +kernel
theorem dX5_add_45 : decode cX5_add 45 = .ok (.iadd, 1) := by decide +kernel
theorem dX5_add_46 : decode cX5_add 46 = .ok (.putfield 21, 3) := by decide +kernel
theorem dX5_add_49 : decode cX5_add 49 = .ok (.return_, 1) := by decide +kernel
theorem dX5_compare_0 : decode cX5_compare 0 = .ok (.iload_n 1, 1) := by decide +kernel
theorem dX5_compare_1 : decode cX5_compare 1 = .ok (.bipush 60, 2) := by decide +kernel
theorem dX5_compare_3 : decode cX5_compare 3 = .ok (.if_icmp .ne 14, 3) := by decide +kernel
theorem dX5_compare_6 : decode cX5_compare 6 = .ok (.iload_n 0, 1) := by decide +kernel
theorem dX5_compare_7 : decode cX5_compare 7 = .ok (.iload_n 2, 1) := by decide +kernel
theorem dX5_compare_8 : decode cX5_compare 8 = .ok (.if_icmp .ge 7, 3) := by decide +kernel
theorem dX5_compare_11 : decode cX5_compare 11 = .ok (.iconst 1, 1) := by decide +kernel
theorem dX5_compare_12 : decode cX5_compare 12 = .ok (.goto 4, 3) := by decide +kernel
theorem dX5_compare_15 : decode cX5_compare 15 = .ok (.iconst 0, 1) := by decide +kernel
theorem dX5_compare_16 : decode cX5_compare 16 = .ok (.ireturn, 1) := by decide +kernel
theorem dX5_compare_17 : decode cX5_compare 17 = .ok (.iload_n 1, 1) := by decide +kernel
theorem dX5_compare_18 : decode cX5_compare 18 = .ok (.bipush 62, 2) := by decide +kernel
theorem dX5_compare_20 : decode cX5_compare 20 = .ok (.if_icmp .ne 16, 3) := by decide +kernel
theorem dX5_compare_23 : decode cX5_compare 23 = .ok (.iload_n 0, 1) := by decide +kernel
theorem dX5_compare_24 : decode cX5_compare 24 = .ok (.iload_n 2, 1) := by decide +kernel
theorem dX5_compare_25 : decode cX5_compare 25 = .ok (.if_icmp .le 7, 3) := by decide +kernel
theorem dX5_compare_28 : decode cX5_compare 28 = .ok (.iconst 1, 1) := by decide +kernel
theorem dX5_compare_29 : decode cX5_compare 29 = .ok (.goto 17, 3) := by decide +kernel
theorem dX5_compare_32 : decode cX5_compare 32 = .ok (.iconst 0, 1) := by decide +kernel
theorem dX5_compare_33 : decode cX5_compare 33 = .ok (.goto 13, 3) := by decide +kernel
theorem dX5_compare_36 : decode cX5_compare 36 = .ok (.iload_n 0, 1) := by decide +kernel
theorem dX5_compare_37 : decode cX5_compare 37 = .ok (.iload_n 2, 1) := by decide +kernel
theorem dX5_compare_38 : decode cX5_compare 38 = .ok (.if_icmp .ne 7, 3) := by decide +kernel
theorem dX5_compare_41 : decode cX5_compare 41 = .ok (.iconst 1, 1) := by decide +kernel
theorem dX5_compare_42 : decode cX5_compare 42 = .ok (.goto 4, 3) := by decide +kernel
theorem dX5_compare_45 : decode cX5_compare 45 = .ok (.iconst 0, 1) := by decide +kernel
theorem dX5_compare_46 : decode cX5_compare 46 = .ok (.ireturn, 1) := by decide +kernel
theorem flX5_11 : FL RX5 11 5 0 := ⟨RX5, TX5, 5, tyX5, cd_5, by decide, Or.inl (inr_5 _ (List.mem_of_getElem? (i := 9) rfl))⟩
theorem flX5_15 : FL RX5 15 5 1 := ⟨RX5, TX5, 5, tyX5, cd_5, by decide, Or.inl (inr_5 _ (List.mem_of_getElem? (i := 10) rfl))⟩
theorem flX5_18 : FL RX5 18 5 2 := ⟨RX5, TX5, 5, tyX5, cd_5, by decide, Or.inl (inr_5 _ (List.mem_of_getElem? (i := 11) rfl))⟩
theorem flX5_21 : FL RX5 21 5 3 := ⟨RX5, TX5, 5, tyX5, cd_5, by decide, Or.inl (inr_16 _ (List.mem_of_getElem? (i := 17) rfl))⟩
theorem flX5_25 : FL RX5 25 5 4 := ⟨RX5, TX5, 5, tyX5, cd_5, by decide, Or.inl (inr_16 _ (List.mem_of_getElem? (i := 18) rfl))⟩
theorem flX5_73 : FL RX5 73 6 5 := ⟨RX6, TX6, 10, tyX6, cd_6, by decide, Or.inl (inr_59 _ (List.mem_of_getElem? (i := 22) rfl))⟩
theorem fpX5_21 : FP RX5 21 5 3 .int := ⟨RX5, TX5, 5, tyX5, cd_5, by decide, (inr_16 _ (List.mem_of_getElem? (i := 17) rfl)), rfl, by decide +kernel⟩
theorem fpX5_25 : FP RX5 25 5 4 .int := ⟨RX5, TX5, 5, tyX5, cd_5, by decide, (inr_16 _ (List.mem_of_getElem? (i := 18) rfl)), rfl, by decide +kernel⟩
theorem mlX5_45 : MLv RX5 45 RX6 6 yX6_fail cX6_fail 2 none 1 := ⟨(inr_12 _ (List.mem_of_getElem? (i := 5) rfl)), (inr_60 _ (List.mem_of_getElem? (i := 15) rfl)), (inr_12 _ (List.mem_of_getElem? (i := 3) rfl)), (inr_12 _ (List.mem_of_getElem? (i := 4) rfl)), (inr_1 _ (List.mem_of_getElem? (i := 15) rfl)), rfl, ⟨by decide, by decide, by decide +kernel⟩, by decide, by decide, rfl⟩
theorem mlX5_53 : MLv RX5 53 RX6 6 yX6_isAt cX6_isAt 3 (some .boolean) 1 := ⟨(inr_11 _ (List.mem_of_getElem? (i := 21) rfl)), (inr_59 _ (List.mem_of_getElem? (i := 10) rfl)), (inr_11 _ (List.mem_of_getElem? (i := 19) rfl)), (inr_11 _ (List.mem_of_getElem? (i := 20) rfl)), (inr_1 _ (List.mem_of_getElem? (i := 15) rfl)), rfl, ⟨by decide, by decide, by decide +kernel⟩, by decide, by decide, rfl⟩
theorem mlX5_57 : MLv RX5 57 RX6 6 yX6_advance cX6_advance 5 none 0 := ⟨(inr_10 _ (List.mem_of_getElem? (i := 18) rfl)), (inr_59 _ (List.mem_of_getElem? (i := 11) rfl)), (inr_10 _ (List.mem_of_getElem? (i := 16) rfl)), (inr_10 _ (List.mem_of_getElem? (i := 17) rfl)), (inr_1 _ (List.mem_of_getElem? (i := 15) rfl)), rfl, ⟨by decide, by decide, by decide +kernel⟩, by decide, by decide, rfl⟩
theorem mlX5_60 : MLv RX5 60 RX5 5 yX5_add cX5_add 4 none 3 := ⟨(inr_59 _ (List.mem_of_getElem? (i := 15) rfl)), (inr_59 _ (List.mem_of_getElem? (i := 12) rfl)), (inr_59 _ (List.mem_of_getElem? (i := 13) rfl)), (inr_59 _ (List.mem_of_getElem? (i := 14) rfl)), (inr_2 _ (List.mem_of_getElem? (i := 3) rfl)), rfl, ⟨by decide, by decide, by decide +kernel⟩, by decide, by decide, rfl⟩
theorem mlX5_92 : MLs RX5 92 yX5_figureAt cX5_figureAt 1 (some .int) 1 := ⟨(inr_60 _ (List.mem_of_getElem? (i := 9) rfl)), (inr_60 _ (List.mem_of_getElem? (i := 7) rfl)), (inr_60 _ (List.mem_of_getElem? (i := 8) rfl)), (inr_2 _ (List.mem_of_getElem? (i := 3) rfl)), ⟨by decide, by decide, by decide +kernel⟩, by decide⟩
theorem mlX5_105 : MLv RX5 105 RX8 8 yX8_feastAt cX8_feastAt 3 (some .int) 1 := ⟨(inr_61 _ (List.mem_of_getElem? (i := 0) rfl)), (inr_60 _ (List.mem_of_getElem? (i := 21) rfl)), (inr_60 _ (List.mem_of_getElem? (i := 22) rfl)), (inr_60 _ (List.mem_of_getElem? (i := 23) rfl)), (inr_1 _ (List.mem_of_getElem? (i := 23) rfl)), rfl, ⟨by decide, by decide, by decide +kernel⟩, by decide, by decide, rfl⟩
theorem mlX5_110 : MLv RX5 110 RX8 8 yX8_parishAt cX8_parishAt 3 (some .int) 1 := ⟨(inr_14 _ (List.mem_of_getElem? (i := 3) rfl)), (inr_61 _ (List.mem_of_getElem? (i := 1) rfl)), (inr_14 _ (List.mem_of_getElem? (i := 1) rfl)), (inr_14 _ (List.mem_of_getElem? (i := 2) rfl)), (inr_1 _ (List.mem_of_getElem? (i := 23) rfl)), rfl, ⟨by decide, by decide, by decide +kernel⟩, by decide, by decide, rfl⟩
theorem mlX5_113 : MLv RX5 113 RX6 6 yX6_takeNumber cX6_takeNumber 4 (some .int) 2 := ⟨(inr_13 _ (List.mem_of_getElem? (i := 4) rfl)), (inr_61 _ (List.mem_of_getElem? (i := 2) rfl)), (inr_13 _ (List.mem_of_getElem? (i := 2) rfl)), (inr_13 _ (List.mem_of_getElem? (i := 3) rfl)), (inr_1 _ (List.mem_of_getElem? (i := 15) rfl)), rfl, ⟨by decide, by decide, by decide +kernel⟩, by decide, by decide, rfl⟩
def fX5_forget_s5 (a0 : Nat)   (S : St) : St :=
  (sI S 5 4 a0 (0 : Int32))
def fX5_forget (a0 : Nat) (S : St) : St :=
  fX5_forget_s5 a0 (sI S 5 3 a0 (0 : Int32))
theorem wX5_forget_s5 {z : Mx} {ad : Nat → Nat} {o : Option Value × St} (X : CxOk z ad RX5 cX5_forget 1 none 1) (a0 : Nat) (h0 : KT a0 = 5)     (S : St) (r : St) (ho : o = (none, r)) (hF : fX5_forget_s5 a0   S = r) : GW z ad o S 5 [(0, .ref (ad a0))] [] := by
  unfold fX5_forget_s5 at hF
  refine g_aload_n X dX5_forget_5 0 rfl rfl ?_
  refine g_iconst (v := 0) X dX5_forget_6 (by decide) ?_
  refine g_putI X dX5_forget_7 fpX5_25 rfl rfl rfl h0 ?_
  subst hF
  exact g_vret X dX5_forget_10 ho
theorem wX5_forget {z : Mx} {ad : Nat → Nat} {o : Option Value × St} (X : CxOk z ad RX5 cX5_forget 1 none 1) (a0 : Nat) (h0 : KT a0 = 5) (S : St) (r : St) (ho : o = (none, r)) (hF : fX5_forget a0 S = r) : GW z ad o S 0 [(0, .ref (ad a0))] [] := by
  unfold fX5_forget at hF
  refine g_aload_n X dX5_forget_0 0 rfl rfl ?_
  refine g_iconst (v := 0) X dX5_forget_1 (by decide) ?_
  refine g_putI X dX5_forget_2 fpX5_21 rfl rfl rfl h0 ?_
  exact (wX5_forget_s5 X a0 h0 (sI S 5 3 a0 (0 : Int32)) r ho hF)
theorem tX5_forget {ad : Nat → Nat} (hI : Inj ad) (l : Launch) (D : va_G) (cyy : Nat → ClassId) (a0 : Nat) (h0 : KT a0 = 5) (S : St) : OkM l yX5_forget cX5_forget 1 none 1 ad D cyy [.ref (ad a0)] S (none, fX5_forget a0 S) := okM_of hI (by decide) (inr_16 _ (List.mem_of_getElem? (i := 16) rfl)) (by show _ ≤ 1; exact Nat.le_of_ble_eq_true rfl) (fun z X => wX5_forget X a0 h0 S _ rfl rfl)
def fX5_copyFrom_s58 (a0 : Nat) (a1 : Nat)   (S : St) : Option St :=
  some (sI S 5 4 a0 (gI S 5 4 a1))
def fX5_copyFrom_s44 (k2 : Int32 → St → Option St) (a0 : Nat) (a1 : Nat) (y2 : Int32)  (S : St) : Option St :=
  k2 (y2 + (1 : Int32)) S
def fX5_copyFrom_s32 (k2 : Int32 → St → Option St) (a0 : Nat) (a1 : Nat) (y2 : Int32)  (S : St) : Option St :=
  if (y2 < 0 ∨ 40 ≤ y2.toNatClampNeg) then none else
  if (y2 < 0 ∨ 40 ≤ y2.toNatClampNeg) then none else
  fX5_copyFrom_s44 k2 a0 a1 y2 (sA S 20 (a0 + 3) y2.toNatClampNeg (gA S 20 (a1 + 3) y2.toNatClampNeg))
def fX5_copyFrom_s20 (k2 : Int32 → St → Option St) (a0 : Nat) (a1 : Nat) (y2 : Int32)  (S : St) : Option St :=
  if (y2 < 0 ∨ 40 ≤ y2.toNatClampNeg) then none else
  if (y2 < 0 ∨ 40 ≤ y2.toNatClampNeg) then none else
  fX5_copyFrom_s32 k2 a0 a1 y2 (sA S 19 (a0 + 2) y2.toNatClampNeg (gA S 19 (a1 + 2) y2.toNatClampNeg))
def fX5_copyFrom_s2 (k2 : Int32 → St → Option St) (a0 : Nat) (a1 : Nat) (y2 : Int32)  (S : St) : Option St :=
  if (40 : Int32) ≤ y2 then (fX5_copyFrom_s58 a0 a1 (sI S 5 3 a0 (gI S 5 3 a1))) else
  (if (y2 < 0 ∨ 40 ≤ y2.toNatClampNeg) then none else
  if (y2 < 0 ∨ 40 ≤ y2.toNatClampNeg) then none else
  fX5_copyFrom_s20 k2 a0 a1 y2 (sA S 18 (a0 + 1) y2.toNatClampNeg (gA S 18 (a1 + 1) y2.toNatClampNeg)))
def fX5_copyFrom_h2 (a0 : Nat) (a1 : Nat) : Nat → Int32 → St → Option St
  | 0, _, _ => none
  | n + 1, y2, S => fX5_copyFrom_s2 (fX5_copyFrom_h2 a0 a1 n) a0 a1 y2 S
def fX5_copyFrom (a0 : Nat) (a1 : Nat) (S : St) : Option St :=
  fX5_copyFrom_h2 a0 a1 NN (0 : Int32) S
theorem wX5_copyFrom_s58 {z : Mx} {ad : Nat → Nat} {o : Option Value × St} (X : CxOk z ad RX5 cX5_copyFrom 3 none 1) (a0 : Nat) (a1 : Nat) (h0 : KT a0 = 5) (h1 : KT a1 = 5)     (S : St) (r : St) (ho : o = (none, r)) (hF : fX5_copyFrom_s58 a0 a1   S = some r) : GW z ad o S 58 [(0, .ref (ad a0)), (1, .ref (ad a1))] [] := by
  unfold fX5_copyFrom_s58 at hF
  refine g_aload_n X dX5_copyFrom_58 0 rfl rfl ?_
  refine g_aload_n X dX5_copyFrom_59 1 rfl rfl ?_
  refine g_getI X dX5_copyFrom_60 flX5_25 rfl h1 ?_
  refine g_putI X dX5_copyFrom_63 fpX5_25 rfl rfl rfl h0 ?_
  have hF := Option.some.inj hF
  subst hF
  exact g_vret X dX5_copyFrom_66 ho
theorem wX5_copyFrom_s44 {z : Mx} {ad : Nat → Nat} {o : Option Value × St} (X : CxOk z ad RX5 cX5_copyFrom 3 none 1) (a0 : Nat) (a1 : Nat) (h0 : KT a0 = 5) (h1 : KT a1 = 5) (y2 : Int32)  (k2 : Int32 → St → Option St)   (S : St) (r : St) (ho : o = (none, r)) (hk2 : ∀ (y2 : Int32) (S : St), k2 y2 S = some r → GW z ad o S 2 [(0, .ref (ad a0)), (1, .ref (ad a1)), (2, .int y2)] []) (hF : fX5_copyFrom_s44 k2 a0 a1 y2  S = some r) : GW z ad o S 44 [(0, .ref (ad a0)), (1, .ref (ad a1)), (2, .int y2)] [] := by
  unfold fX5_copyFrom_s44 at hF
  refine g_iinc (v := (y2 + (1 : Int32))) X dX5_copyFrom_44 2 rfl rfl (by decide) (lv' := [(2, .int (y2 + (1 : Int32))), (0, .ref (ad a0)), (1, .ref (ad a1))]) rfl ?_
  refine g_goto (tgt := 2) X dX5_copyFrom_47 (by decide) ?_
  exact g_perm [1, 2, 0] rfl (hk2 (y2 + (1 : Int32)) S hF)
theorem wX5_copyFrom_s32 {z : Mx} {ad : Nat → Nat} {o : Option Value × St} (X : CxOk z ad RX5 cX5_copyFrom 3 none 1) (a0 : Nat) (a1 : Nat) (h0 : KT a0 = 5) (h1 : KT a1 = 5) (y2 : Int32)  (k2 : Int32 → St → Option St)   (S : St) (r : St) (ho : o = (none, r)) (hk2 : ∀ (y2 : Int32) (S : St), k2 y2 S = some r → GW z ad o S 2 [(0, .ref (ad a0)), (1, .ref (ad a1)), (2, .int y2)] []) (hF : fX5_copyFrom_s32 k2 a0 a1 y2  S = some r) : GW z ad o S 32 [(0, .ref (ad a0)), (1, .ref (ad a1)), (2, .int y2)] [] := by
  unfold fX5_copyFrom_s32 at hF
  refine g_aload_n X dX5_copyFrom_32 0 rfl rfl ?_
  refine g_getR (f := 3) X dX5_copyFrom_33 flX5_18 rfl rfl h0 ?_
  refine g_iload_n X dX5_copyFrom_36 2 rfl rfl ?_
  refine g_aload_n X dX5_copyFrom_37 1 rfl rfl ?_
  refine g_getR (f := 3) X dX5_copyFrom_38 flX5_18 rfl rfl h1 ?_
  refine g_iload_n X dX5_copyFrom_41 2 rfl rfl ?_
  obtain ⟨e_6, hF⟩ := oguard hF
  refine g_iald X dX5_copyFrom_42 kd_20 (on_5_2 h1) e_6 ?_
  obtain ⟨e_7, hF⟩ := oguard hF
  refine g_iast X dX5_copyFrom_43 kd_20 (on_5_2 h0) e_7 ?_
  exact (wX5_copyFrom_s44 X a0 a1 h0 h1 y2 k2 (sA S 20 (a0 + 3) y2.toNatClampNeg (gA S 20 (a1 + 3) y2.toNatClampNeg)) r ho hk2 hF)
theorem wX5_copyFrom_s20 {z : Mx} {ad : Nat → Nat} {o : Option Value × St} (X : CxOk z ad RX5 cX5_copyFrom 3 none 1) (a0 : Nat) (a1 : Nat) (h0 : KT a0 = 5) (h1 : KT a1 = 5) (y2 : Int32)  (k2 : Int32 → St → Option St)   (S : St) (r : St) (ho : o = (none, r)) (hk2 : ∀ (y2 : Int32) (S : St), k2 y2 S = some r → GW z ad o S 2 [(0, .ref (ad a0)), (1, .ref (ad a1)), (2, .int y2)] []) (hF : fX5_copyFrom_s20 k2 a0 a1 y2  S = some r) : GW z ad o S 20 [(0, .ref (ad a0)), (1, .ref (ad a1)), (2, .int y2)] [] := by
  unfold fX5_copyFrom_s20 at hF
  refine g_aload_n X dX5_copyFrom_20 0 rfl rfl ?_
  refine g_getR (f := 2) X dX5_copyFrom_21 flX5_15 rfl rfl h0 ?_
  refine g_iload_n X dX5_copyFrom_24 2 rfl rfl ?_
  refine g_aload_n X dX5_copyFrom_25 1 rfl rfl ?_
  refine g_getR (f := 2) X dX5_copyFrom_26 flX5_15 rfl rfl h1 ?_
  refine g_iload_n X dX5_copyFrom_29 2 rfl rfl ?_
  obtain ⟨e_4, hF⟩ := oguard hF
  refine g_iald X dX5_copyFrom_30 kd_19 (on_5_1 h1) e_4 ?_
  obtain ⟨e_5, hF⟩ := oguard hF
  refine g_iast X dX5_copyFrom_31 kd_19 (on_5_1 h0) e_5 ?_
  exact (wX5_copyFrom_s32 X a0 a1 h0 h1 y2 k2 (sA S 19 (a0 + 2) y2.toNatClampNeg (gA S 19 (a1 + 2) y2.toNatClampNeg)) r ho hk2 hF)
theorem wX5_copyFrom_s2 {z : Mx} {ad : Nat → Nat} {o : Option Value × St} (X : CxOk z ad RX5 cX5_copyFrom 3 none 1) (a0 : Nat) (a1 : Nat) (h0 : KT a0 = 5) (h1 : KT a1 = 5) (y2 : Int32)  (k2 : Int32 → St → Option St)   (S : St) (r : St) (ho : o = (none, r)) (hk2 : ∀ (y2 : Int32) (S : St), k2 y2 S = some r → GW z ad o S 2 [(0, .ref (ad a0)), (1, .ref (ad a1)), (2, .int y2)] []) (hF : fX5_copyFrom_s2 k2 a0 a1 y2  S = some r) : GW z ad o S 2 [(0, .ref (ad a0)), (1, .ref (ad a1)), (2, .int y2)] [] := by
  unfold fX5_copyFrom_s2 at hF
  refine g_iload_n X dX5_copyFrom_2 2 rfl rfl ?_
  refine g_bipush (v := 40) X dX5_copyFrom_3 (by decide) ?_
  refine g_icmp_ge (tgt := 50) X dX5_copyFrom_5 (by decide) (fun c_1 => ?_) (fun c_1 => ?_)
  · rw [if_pos c_1] at hF
    refine g_aload_n X dX5_copyFrom_50 0 rfl rfl ?_
    refine g_aload_n X dX5_copyFrom_51 1 rfl rfl ?_
    refine g_getI X dX5_copyFrom_52 flX5_21 rfl h1 ?_
    refine g_putI X dX5_copyFrom_55 fpX5_21 rfl rfl rfl h0 ?_
    exact g_perm [0, 1] rfl (wX5_copyFrom_s58 X a0 a1 h0 h1 (sI S 5 3 a0 (gI S 5 3 a1)) r ho hF)
  · rw [if_neg c_1] at hF
    refine g_aload_n X dX5_copyFrom_8 0 rfl rfl ?_
    refine g_getR (f := 1) X dX5_copyFrom_9 flX5_11 rfl rfl h0 ?_
    refine g_iload_n X dX5_copyFrom_12 2 rfl rfl ?_
    refine g_aload_n X dX5_copyFrom_13 1 rfl rfl ?_
    refine g_getR (f := 1) X dX5_copyFrom_14 flX5_11 rfl rfl h1 ?_
    refine g_iload_n X dX5_copyFrom_17 2 rfl rfl ?_
    obtain ⟨e_2, hF⟩ := oguard hF
    refine g_iald X dX5_copyFrom_18 kd_18 (on_5_0 h1) e_2 ?_
    obtain ⟨e_3, hF⟩ := oguard hF
    refine g_iast X dX5_copyFrom_19 kd_18 (on_5_0 h0) e_3 ?_
    exact (wX5_copyFrom_s20 X a0 a1 h0 h1 y2 k2 (sA S 18 (a0 + 1) y2.toNatClampNeg (gA S 18 (a1 + 1) y2.toNatClampNeg)) r ho hk2 hF)
theorem wX5_copyFrom_h2 {z : Mx} {ad : Nat → Nat} {o : Option Value × St} (X : CxOk z ad RX5 cX5_copyFrom 3 none 1) (a0 : Nat) (a1 : Nat) (h0 : KT a0 = 5) (h1 : KT a1 = 5)  (r : St) (ho : o = (none, r)) : ∀ (n : Nat) (y2 : Int32) (S : St), fX5_copyFrom_h2 a0 a1 n y2 S = some r → GW z ad o S 2 [(0, .ref (ad a0)), (1, .ref (ad a1)), (2, .int y2)] [] := by
  intro n
  induction n with
  | zero => intro y2 S  hF; cases hF
  | succ n ih => intro y2 S  hF; exact wX5_copyFrom_s2 X a0 a1 h0 h1 y2 (fX5_copyFrom_h2 a0 a1 n)  S r ho ih hF
theorem wX5_copyFrom {z : Mx} {ad : Nat → Nat} {o : Option Value × St} (X : CxOk z ad RX5 cX5_copyFrom 3 none 1) (a0 : Nat) (a1 : Nat) (h0 : KT a0 = 5) (h1 : KT a1 = 5) (S : St) (r : St) (ho : o = (none, r)) (hF : fX5_copyFrom a0 a1 S = some r) : GW z ad o S 0 [(0, .ref (ad a0)), (1, .ref (ad a1))] [] := by
  unfold fX5_copyFrom at hF
  refine g_iconst (v := 0) X dX5_copyFrom_0 (by decide) ?_
  refine g_istore_n X dX5_copyFrom_1 rfl (by decide) (lv' := [(2, .int (0 : Int32)), (0, .ref (ad a0)), (1, .ref (ad a1))]) rfl ?_
  exact g_perm [1, 2, 0] rfl (wX5_copyFrom_h2 X a0 a1 h0 h1 r ho NN (0 : Int32) S hF)
theorem tX5_copyFrom {ad : Nat → Nat} (hI : Inj ad) (l : Launch) (D : va_G) (cyy : Nat → ClassId) (a0 : Nat) (a1 : Nat) (h0 : KT a0 = 5) (h1 : KT a1 = 5) (S : St) (r : St) (hF : fX5_copyFrom a0 a1 S = some r) : OkM l yX5_copyFrom cX5_copyFrom 3 none 1 ad D cyy [.ref (ad a0), .ref (ad a1)] S (none, r) := okM_of hI (by decide) (inr_61 _ (List.mem_of_getElem? (i := 7) rfl)) (by show _ ≤ 3; exact Nat.le_of_ble_eq_true rfl) (fun z X => wX5_copyFrom X a0 a1 h0 h1 S r rfl hF)
def fX5_add_s39 (a0 : Nat) (x1 : Int32) (x2 : Int32) (x3 : Int32)   (S : St) : Option St :=
  some (sI S 5 3 a0 ((gI S 5 3 a0) + (1 : Int32)))
def fX5_add_s29 (a0 : Nat) (x1 : Int32) (x2 : Int32) (x3 : Int32)   (S : St) : Option St :=
  if ((gI S 5 3 a0) < 0 ∨ 40 ≤ (gI S 5 3 a0).toNatClampNeg) then none else
  fX5_add_s39 a0 x1 x2 x3 (sA S 20 (a0 + 3) ((gI S 5 3 a0).toNatClampNeg) x3)
def fX5_add_s19 (a0 : Nat) (x1 : Int32) (x2 : Int32) (x3 : Int32)   (S : St) : Option St :=
  if ((gI S 5 3 a0) < 0 ∨ 40 ≤ (gI S 5 3 a0).toNatClampNeg) then none else
  fX5_add_s29 a0 x1 x2 x3 (sA S 19 (a0 + 2) ((gI S 5 3 a0).toNatClampNeg) x2)
def fX5_add (a0 : Nat) (x1 : Int32) (x2 : Int32) (x3 : Int32) (S : St) : Option St :=
  if (40 : Int32) ≤ (gI S 5 3 a0) then (some S) else
  (if ((gI S 5 3 a0) < 0 ∨ 40 ≤ (gI S 5 3 a0).toNatClampNeg) then none else
  fX5_add_s19 a0 x1 x2 x3 (sA S 18 (a0 + 1) ((gI S 5 3 a0).toNatClampNeg) x1))
theorem wX5_add_s39 {z : Mx} {ad : Nat → Nat} {o : Option Value × St} (X : CxOk z ad RX5 cX5_add 4 none 1) (a0 : Nat) (x1 : Int32) (x2 : Int32) (x3 : Int32) (h0 : KT a0 = 5)     (S : St) (r : St) (ho : o = (none, r)) (hF : fX5_add_s39 a0 x1 x2 x3   S = some r) : GW z ad o S 39 [(0, .ref (ad a0))] [] := by
  unfold fX5_add_s39 at hF
  refine g_aload_n X dX5_add_39 0 rfl rfl ?_
  refine g_dup (a := .ref (ad a0)) X dX5_add_40 rfl ?_
  refine g_getI X dX5_add_41 flX5_21 rfl h0 ?_
  refine g_iconst (v := 1) X dX5_add_44 (by decide) ?_
  refine g_iadd X dX5_add_45 ?_
  refine g_putI X dX5_add_46 fpX5_21 rfl rfl rfl h0 ?_
  have hF := Option.some.inj hF
  subst hF
  exact g_vret X dX5_add_49 ho
theorem wX5_add_s29 {z : Mx} {ad : Nat → Nat} {o : Option Value × St} (X : CxOk z ad RX5 cX5_add 4 none 1) (a0 : Nat) (x1 : Int32) (x2 : Int32) (x3 : Int32) (h0 : KT a0 = 5)     (S : St) (r : St) (ho : o = (none, r)) (hF : fX5_add_s29 a0 x1 x2 x3   S = some r) : GW z ad o S 29 [(0, .ref (ad a0)), (3, .int x3)] [] := by
  unfold fX5_add_s29 at hF
  refine g_aload_n X dX5_add_29 0 rfl rfl ?_
  refine g_getR (f := 3) X dX5_add_30 flX5_18 rfl rfl h0 ?_
  refine g_aload_n X dX5_add_33 0 rfl rfl ?_
  refine g_getI X dX5_add_34 flX5_21 rfl h0 ?_
  refine g_iload_n X dX5_add_37 1 rfl rfl ?_
  obtain ⟨e_4, hF⟩ := oguard hF
  refine g_iast X dX5_add_38 kd_20 (on_5_2 h0) e_4 ?_
  exact g_perm [0] rfl (wX5_add_s39 X a0 x1 x2 x3 h0 (sA S 20 (a0 + 3) ((gI S 5 3 a0).toNatClampNeg) x3) r ho hF)
theorem wX5_add_s19 {z : Mx} {ad : Nat → Nat} {o : Option Value × St} (X : CxOk z ad RX5 cX5_add 4 none 1) (a0 : Nat) (x1 : Int32) (x2 : Int32) (x3 : Int32) (h0 : KT a0 = 5)     (S : St) (r : St) (ho : o = (none, r)) (hF : fX5_add_s19 a0 x1 x2 x3   S = some r) : GW z ad o S 19 [(0, .ref (ad a0)), (2, .int x2), (3, .int x3)] [] := by
  unfold fX5_add_s19 at hF
  refine g_aload_n X dX5_add_19 0 rfl rfl ?_
  refine g_getR (f := 2) X dX5_add_20 flX5_15 rfl rfl h0 ?_
  refine g_aload_n X dX5_add_23 0 rfl rfl ?_
  refine g_getI X dX5_add_24 flX5_21 rfl h0 ?_
  refine g_iload_n X dX5_add_27 1 rfl rfl ?_
  obtain ⟨e_3, hF⟩ := oguard hF
  refine g_iast X dX5_add_28 kd_19 (on_5_1 h0) e_3 ?_
  exact g_perm [0, 2] rfl (wX5_add_s29 X a0 x1 x2 x3 h0 (sA S 19 (a0 + 2) ((gI S 5 3 a0).toNatClampNeg) x2) r ho hF)
theorem wX5_add {z : Mx} {ad : Nat → Nat} {o : Option Value × St} (X : CxOk z ad RX5 cX5_add 4 none 1) (a0 : Nat) (x1 : Int32) (x2 : Int32) (x3 : Int32) (h0 : KT a0 = 5) (S : St) (r : St) (ho : o = (none, r)) (hF : fX5_add a0 x1 x2 x3 S = some r) : GW z ad o S 0 [(0, .ref (ad a0)), (1, .int x1), (2, .int x2), (3, .int x3)] [] := by
  unfold fX5_add at hF
  refine g_aload_n X dX5_add_0 0 rfl rfl ?_
  refine g_getI X dX5_add_1 flX5_21 rfl h0 ?_
  refine g_bipush (v := 40) X dX5_add_4 (by decide) ?_
  refine g_icmp_ge (tgt := 49) X dX5_add_6 (by decide) (fun c_1 => ?_) (fun c_1 => ?_)
  · rw [if_pos c_1] at hF
    have hF := Option.some.inj hF
    subst hF
    exact g_vret X dX5_add_49 ho
  · rw [if_neg c_1] at hF
    refine g_aload_n X dX5_add_9 0 rfl rfl ?_
    refine g_getR (f := 1) X dX5_add_10 flX5_11 rfl rfl h0 ?_
    refine g_aload_n X dX5_add_13 0 rfl rfl ?_
    refine g_getI X dX5_add_14 flX5_21 rfl h0 ?_
    refine g_iload_n X dX5_add_17 1 rfl rfl ?_
    obtain ⟨e_2, hF⟩ := oguard hF
    refine g_iast X dX5_add_18 kd_18 (on_5_0 h0) e_2 ?_
    exact g_perm [0, 2, 3] rfl (wX5_add_s19 X a0 x1 x2 x3 h0 (sA S 18 (a0 + 1) ((gI S 5 3 a0).toNatClampNeg) x1) r ho hF)
theorem tX5_add {ad : Nat → Nat} (hI : Inj ad) (l : Launch) (D : va_G) (cyy : Nat → ClassId) (a0 : Nat) (x1 : Int32) (x2 : Int32) (x3 : Int32) (h0 : KT a0 = 5) (S : St) (r : St) (hF : fX5_add a0 x1 x2 x3 S = some r) : OkM l yX5_add cX5_add 4 none 1 ad D cyy [.ref (ad a0), .int x1, .int x2, .int x3] S (none, r) := okM_of hI (by decide) (inr_59 _ (List.mem_of_getElem? (i := 15) rfl)) (by show _ ≤ 4; exact Nat.le_of_ble_eq_true rfl) (fun z X => wX5_add X a0 x1 x2 x3 h0 S r rfl hF)
def fX5_figureAt (a0 : Nat) (S : St) : Int32 :=
  if (fX6_isAt a0 (2036687218 : Int64) S) = 0 then (if (fX6_isAt a0 (470020945000 : Int64) S) = 0 then (if (fX6_isAt a0 (1684108389 : Int64) S) = 0 then (if (fX6_isAt a0 (2003133803 : Int64) S) = 0 then (if (fX6_isAt a0 (121450625394034 : Int64) S) = 0 then ((0 : Int32)) else
  ((12 : Int32))) else
  ((11 : Int32))) else
  ((10 : Int32))) else
  ((9 : Int32))) else
  ((8 : Int32))
theorem wX5_figureAt {z : Mx} {ad : Nat → Nat} {o : Option Value × St} (X : CxOk z ad RX5 cX5_figureAt 1 (some .int) 2) (a0 : Nat) (h0 : KT a0 = 6) (S : St) (r : Int32) (ho : o = (some (.int r), S)) (hF : fX5_figureAt a0 S = r) : GW z ad o S 0 [(0, .ref (ad a0))] [] := by
  unfold fX5_figureAt at hF
  refine g_aload_n X dX5_figureAt_0 0 rfl rfl ?_
  refine g_ldc2 (v := 2036687218) X dX5_figureAt_1 (inr_60 _ (List.mem_of_getElem? (i := 10) rfl)) ?_
  refine g_callVi (As := [.long (2036687218 : Int64)]) X dX5_figureAt_4 mlX5_53 (fun l D cyy => tX6_isAt (cx_inj X) l D cyy a0 (2036687218 : Int64) h0 S) h0 (by decide) rfl rfl (Nat.le_of_ble_eq_true rfl) ?_
  refine g_if_eq (tgt := 13) X dX5_figureAt_7 (by decide) (fun c_1 => ?_) (fun c_1 => ?_)
  · rw [if_pos c_1] at hF
    refine g_aload_n X dX5_figureAt_13 0 rfl rfl ?_
    refine g_ldc2 (v := 470020945000) X dX5_figureAt_14 (inr_60 _ (List.mem_of_getElem? (i := 11) rfl)) ?_
    refine g_callVi (As := [.long (470020945000 : Int64)]) X dX5_figureAt_17 mlX5_53 (fun l D cyy => tX6_isAt (cx_inj X) l D cyy a0 (470020945000 : Int64) h0 S) h0 (by decide) rfl rfl (Nat.le_of_ble_eq_true rfl) ?_
    refine g_if_eq (tgt := 26) X dX5_figureAt_20 (by decide) (fun c_2 => ?_) (fun c_2 => ?_)
    · rw [if_pos c_2] at hF
      refine g_aload_n X dX5_figureAt_26 0 rfl rfl ?_
      refine g_ldc2 (v := 1684108389) X dX5_figureAt_27 (inr_60 _ (List.mem_of_getElem? (i := 12) rfl)) ?_
      refine g_callVi (As := [.long (1684108389 : Int64)]) X dX5_figureAt_30 mlX5_53 (fun l D cyy => tX6_isAt (cx_inj X) l D cyy a0 (1684108389 : Int64) h0 S) h0 (by decide) rfl rfl (Nat.le_of_ble_eq_true rfl) ?_
      refine g_if_eq (tgt := 39) X dX5_figureAt_33 (by decide) (fun c_3 => ?_) (fun c_3 => ?_)
      · rw [if_pos c_3] at hF
        refine g_aload_n X dX5_figureAt_39 0 rfl rfl ?_
        refine g_ldc2 (v := 2003133803) X dX5_figureAt_40 (inr_60 _ (List.mem_of_getElem? (i := 13) rfl)) ?_
        refine g_callVi (As := [.long (2003133803 : Int64)]) X dX5_figureAt_43 mlX5_53 (fun l D cyy => tX6_isAt (cx_inj X) l D cyy a0 (2003133803 : Int64) h0 S) h0 (by decide) rfl rfl (Nat.le_of_ble_eq_true rfl) ?_
        refine g_if_eq (tgt := 52) X dX5_figureAt_46 (by decide) (fun c_4 => ?_) (fun c_4 => ?_)
        · rw [if_pos c_4] at hF
          refine g_aload_n X dX5_figureAt_52 0 rfl rfl ?_
          refine g_ldc2 (v := 121450625394034) X dX5_figureAt_53 (inr_60 _ (List.mem_of_getElem? (i := 14) rfl)) ?_
          refine g_callVi (As := [.long (121450625394034 : Int64)]) X dX5_figureAt_56 mlX5_53 (fun l D cyy => tX6_isAt (cx_inj X) l D cyy a0 (121450625394034 : Int64) h0 S) h0 (by decide) rfl rfl (Nat.le_of_ble_eq_true rfl) ?_
          refine g_if_eq (tgt := 67) X dX5_figureAt_59 (by decide) (fun c_5 => ?_) (fun c_5 => ?_)
          · rw [if_pos c_5] at hF
            refine g_iconst (v := 0) X dX5_figureAt_67 (by decide) ?_
            subst hF
            exact g_iret X dX5_figureAt_68 ho
          · rw [if_neg c_5] at hF
            refine g_bipush (v := 12) X dX5_figureAt_62 (by decide) ?_
            refine g_goto (tgt := 68) X dX5_figureAt_64 (by decide) ?_
            subst hF
            exact g_iret X dX5_figureAt_68 ho
        · rw [if_neg c_4] at hF
          refine g_bipush (v := 11) X dX5_figureAt_49 (by decide) ?_
          subst hF
          exact g_iret X dX5_figureAt_51 ho
      · rw [if_neg c_3] at hF
        refine g_bipush (v := 10) X dX5_figureAt_36 (by decide) ?_
        subst hF
        exact g_iret X dX5_figureAt_38 ho
    · rw [if_neg c_2] at hF
      refine g_bipush (v := 9) X dX5_figureAt_23 (by decide) ?_
      subst hF
      exact g_iret X dX5_figureAt_25 ho
  · rw [if_neg c_1] at hF
    refine g_bipush (v := 8) X dX5_figureAt_10 (by decide) ?_
    subst hF
    exact g_iret X dX5_figureAt_12 ho
theorem tX5_figureAt {ad : Nat → Nat} (hI : Inj ad) (l : Launch) (D : va_G) (cyy : Nat → ClassId) (a0 : Nat) (h0 : KT a0 = 6) (S : St) : OkM l yX5_figureAt cX5_figureAt 1 (some .int) 2 ad D cyy [.ref (ad a0)] S (some (.int (fX5_figureAt a0 S)), S) := okM_of hI (by decide) (inr_60 _ (List.mem_of_getElem? (i := 9) rfl)) (by show _ ≤ 1; exact Nat.le_of_ble_eq_true rfl) (fun z X => wX5_figureAt X a0 h0 S _ rfl rfl)
def fX5_stepAt (a0 : Nat) (S : St) : Int32 :=
  if (fX6_isAt a0 (7237492 : Int64) S) = 0 then (if (fX6_isAt a0 (27696098611389806 : Int64) S) = 0 then (if (fX6_isAt a0 (1751477348 : Int64) S) = 0 then (if (fX6_isAt a0 (461262647411 : Int64) S) = 0 then (if (fX6_isAt a0 (2003399784 : Int64) S) = 0 then ((fX5_figureAt a0 S)) else
  ((7 : Int32))) else
  ((6 : Int32))) else
  ((5 : Int32))) else
  ((4 : Int32))) else
  ((1 : Int32))
theorem wX5_stepAt {z : Mx} {ad : Nat → Nat} {o : Option Value × St} (X : CxOk z ad RX5 cX5_stepAt 1 (some .int) 3) (a0 : Nat) (h0 : KT a0 = 6) (S : St) (r : Int32) (ho : o = (some (.int r), S)) (hF : fX5_stepAt a0 S = r) : GW z ad o S 0 [(0, .ref (ad a0))] [] := by
  unfold fX5_stepAt at hF
  refine g_aload_n X dX5_stepAt_0 0 rfl rfl ?_
  refine g_ldc2 (v := 7237492) X dX5_stepAt_1 (inr_60 _ (List.mem_of_getElem? (i := 2) rfl)) ?_
  refine g_callVi (As := [.long (7237492 : Int64)]) X dX5_stepAt_4 mlX5_53 (fun l D cyy => tX6_isAt (cx_inj X) l D cyy a0 (7237492 : Int64) h0 S) h0 (by decide) rfl rfl (Nat.le_of_ble_eq_true rfl) ?_
  refine g_if_eq (tgt := 12) X dX5_stepAt_7 (by decide) (fun c_1 => ?_) (fun c_1 => ?_)
  · rw [if_pos c_1] at hF
    refine g_aload_n X dX5_stepAt_12 0 rfl rfl ?_
    refine g_ldc2 (v := 27696098611389806) X dX5_stepAt_13 (inr_60 _ (List.mem_of_getElem? (i := 3) rfl)) ?_
    refine g_callVi (As := [.long (27696098611389806 : Int64)]) X dX5_stepAt_16 mlX5_53 (fun l D cyy => tX6_isAt (cx_inj X) l D cyy a0 (27696098611389806 : Int64) h0 S) h0 (by decide) rfl rfl (Nat.le_of_ble_eq_true rfl) ?_
    refine g_if_eq (tgt := 24) X dX5_stepAt_19 (by decide) (fun c_2 => ?_) (fun c_2 => ?_)
    · rw [if_pos c_2] at hF
      refine g_aload_n X dX5_stepAt_24 0 rfl rfl ?_
      refine g_ldc2 (v := 1751477348) X dX5_stepAt_25 (inr_60 _ (List.mem_of_getElem? (i := 4) rfl)) ?_
      refine g_callVi (As := [.long (1751477348 : Int64)]) X dX5_stepAt_28 mlX5_53 (fun l D cyy => tX6_isAt (cx_inj X) l D cyy a0 (1751477348 : Int64) h0 S) h0 (by decide) rfl rfl (Nat.le_of_ble_eq_true rfl) ?_
      refine g_if_eq (tgt := 36) X dX5_stepAt_31 (by decide) (fun c_3 => ?_) (fun c_3 => ?_)
      · rw [if_pos c_3] at hF
        refine g_aload_n X dX5_stepAt_36 0 rfl rfl ?_
        refine g_ldc2 (v := 461262647411) X dX5_stepAt_37 (inr_60 _ (List.mem_of_getElem? (i := 5) rfl)) ?_
        refine g_callVi (As := [.long (461262647411 : Int64)]) X dX5_stepAt_40 mlX5_53 (fun l D cyy => tX6_isAt (cx_inj X) l D cyy a0 (461262647411 : Int64) h0 S) h0 (by decide) rfl rfl (Nat.le_of_ble_eq_true rfl) ?_
        refine g_if_eq (tgt := 49) X dX5_stepAt_43 (by decide) (fun c_4 => ?_) (fun c_4 => ?_)
        · rw [if_pos c_4] at hF
          refine g_aload_n X dX5_stepAt_49 0 rfl rfl ?_
          refine g_ldc2 (v := 2003399784) X dX5_stepAt_50 (inr_60 _ (List.mem_of_getElem? (i := 6) rfl)) ?_
          refine g_callVi (As := [.long (2003399784 : Int64)]) X dX5_stepAt_53 mlX5_53 (fun l D cyy => tX6_isAt (cx_inj X) l D cyy a0 (2003399784 : Int64) h0 S) h0 (by decide) rfl rfl (Nat.le_of_ble_eq_true rfl) ?_
          refine g_if_eq (tgt := 62) X dX5_stepAt_56 (by decide) (fun c_5 => ?_) (fun c_5 => ?_)
          · rw [if_pos c_5] at hF
            refine g_aload_n X dX5_stepAt_62 0 rfl rfl ?_
            refine g_callSi (As := [.ref (ad a0)]) X dX5_stepAt_63 mlX5_92 (fun l D cyy => tX5_figureAt (cx_inj X) l D cyy a0 h0 S) (by decide) rfl rfl (Nat.le_of_ble_eq_true rfl) ?_
            subst hF
            exact g_iret X dX5_stepAt_66 ho
          · rw [if_neg c_5] at hF
            refine g_bipush (v := 7) X dX5_stepAt_59 (by decide) ?_
            subst hF
            exact g_iret X dX5_stepAt_61 ho
        · rw [if_neg c_4] at hF
          refine g_bipush (v := 6) X dX5_stepAt_46 (by decide) ?_
          subst hF
          exact g_iret X dX5_stepAt_48 ho
      · rw [if_neg c_3] at hF
        refine g_iconst (v := 5) X dX5_stepAt_34 (by decide) ?_
        subst hF
        exact g_iret X dX5_stepAt_35 ho
    · rw [if_neg c_2] at hF
      refine g_iconst (v := 4) X dX5_stepAt_22 (by decide) ?_
      subst hF
      exact g_iret X dX5_stepAt_23 ho
  · rw [if_neg c_1] at hF
    refine g_iconst (v := 1) X dX5_stepAt_10 (by decide) ?_
    subst hF
    exact g_iret X dX5_stepAt_11 ho
theorem tX5_stepAt {ad : Nat → Nat} (hI : Inj ad) (l : Launch) (D : va_G) (cyy : Nat → ClassId) (a0 : Nat) (h0 : KT a0 = 6) (S : St) : OkM l yX5_stepAt cX5_stepAt 1 (some .int) 3 ad D cyy [.ref (ad a0)] S (some (.int (fX5_stepAt a0 S)), S) := okM_of hI (by decide) (inr_60 _ (List.mem_of_getElem? (i := 1) rfl)) (by show _ ≤ 1; exact Nat.le_of_ble_eq_true rfl) (fun z X => wX5_stepAt X a0 h0 S _ rfl rfl)
def fX5_readRest_s34 (a0 : Nat) (a1 : Nat) (a2 : Nat) (x3 : Int32)  (t0 : Nat) (t1 : Int32) (t2 : Int32) (t3 : Int32) (S : St) : Option St :=
  (fX5_add t0 t1 t2 t3 S).bind fun r_5 =>
  (fX6_advance a1 r_5).bind fun r_7 =>
  some r_7
def fX5_readRest_s26 (a0 : Nat) (a1 : Nat) (a2 : Nat) (x3 : Int32)  (t0 : Nat) (t1 : Int32) (t2 : Int32) (t3 : Int32) (S : St) : Option St :=
  (fX5_add t0 t1 t2 t3 S).bind fun r_11 =>
  (fX6_advance a1 r_11).bind fun r_13 =>
  some r_13
def fX5_readRest_s12 (a0 : Nat) (a1 : Nat) (a2 : Nat) (x3 : Int32)   (S : St) : Option St :=
  if x3 = (6 : Int32) then ((fX8_feastAt a2 a1 S).bind fun r_9 =>
  fX5_readRest_s26 a0 a1 a2 x3 a0 x3 (0 : Int32) r_9.1 r_9.2) else
  ((fX8_parishAt a2 a1 S).bind fun r_3 =>
  fX5_readRest_s34 a0 a1 a2 x3 a0 x3 (0 : Int32) r_3.1 r_3.2)
def fX5_readRest_s98 (a0 : Nat) (a1 : Nat) (a2 : Nat) (x3 : Int32)  (t0 : Nat) (t1 : Int32) (t2 : Int32) (t3 : Int32) (S : St) : Option St :=
  (fX5_add t0 t1 t2 t3 S).bind fun r_24 =>
  some r_24
def fX5_readRest_s82 (a0 : Nat) (a1 : Nat) (a2 : Nat) (x3 : Int32) (y4 : Int32)  (S : St) : Option St :=
  (fX6_advance a1 S).bind fun r_20 =>
  (fX6_takeNumber a1 (0 : Int32) (999 : Int32) r_20).bind fun r_22 =>
  fX5_readRest_s98 a0 a1 a2 x3 a0 x3 y4 r_22.1 r_22.2
def fX5_readRest_s56 (a0 : Nat) (a1 : Nat) (a2 : Nat) (x3 : Int32) (y4 : Int32)  (S : St) : Option St :=
  if y4 = (60 : Int32) then (fX5_readRest_s82 a0 a1 a2 x3 y4 S) else
  (if y4 = (61 : Int32) then (fX5_readRest_s82 a0 a1 a2 x3 y4 S) else
  (if y4 = (62 : Int32) then (fX5_readRest_s82 a0 a1 a2 x3 y4 S) else
  (fX5_readRest_s82 a0 a1 a2 x3 y4 (fX6_fail a1 (1 : Int32) S))))
def fX5_readRest (a0 : Nat) (a1 : Nat) (a2 : Nat) (x3 : Int32) (S : St) : Option St :=
  if x3 = (6 : Int32) then (fX5_readRest_s12 a0 a1 a2 x3 S) else
  (if x3 = (7 : Int32) then (fX5_readRest_s12 a0 a1 a2 x3 S) else
  (if x3 < (8 : Int32) then ((fX5_add a0 x3 (0 : Int32) (0 : Int32) S).bind fun r_17 =>
  some r_17) else
  (fX5_readRest_s56 a0 a1 a2 x3 (gI S 6 5 a1) S)))
theorem wX5_readRest_s34 {z : Mx} {ad : Nat → Nat} {o : Option Value × St} (X : CxOk z ad RX5 cX5_readRest 5 none 4) (a0 : Nat) (a1 : Nat) (a2 : Nat) (x3 : Int32) (h0 : KT a0 = 5) (h1 : KT a1 = 6) (h2 : KT a2 = 8)  (t0 : Nat) (t1 : Int32) (t2 : Int32) (t3 : Int32)  (gt0 : KT t0 = 5) (S : St) (r : St) (ho : o = (none, r)) (hF : fX5_readRest_s34 a0 a1 a2 x3  t0 t1 t2 t3 S = some r) : GW z ad o S 34 [(1, .ref (ad a1))] [.int t3, .int t2, .int t1, .ref (ad t0)] := by
  unfold fX5_readRest_s34 at hF
  obtain ⟨r_5, q_6, hF⟩ := obind hF
  refine g_callVv (As := [.int t1, .int t2, .int t3]) X dX5_readRest_34 mlX5_60 (fun l D cyy => tX5_add (cx_inj X) l D cyy t0 t1 t2 t3 gt0 S r_5 q_6) gt0 (by decide) rfl rfl (Nat.le_of_ble_eq_true rfl) ?_
  refine g_aload_n X dX5_readRest_37 0 rfl rfl ?_
  obtain ⟨r_7, q_8, hF⟩ := obind hF
  refine g_callVv (As := []) X dX5_readRest_38 mlX5_57 (fun l D cyy => tX6_advance (cx_inj X) l D cyy a1 h1 r_5 r_7 q_8) h1 (by decide) rfl rfl (Nat.le_of_ble_eq_true rfl) ?_
  refine g_goto (tgt := 111) X dX5_readRest_41 (by decide) ?_
  have hF := Option.some.inj hF
  subst hF
  exact g_vret X dX5_readRest_111 ho
theorem wX5_readRest_s26 {z : Mx} {ad : Nat → Nat} {o : Option Value × St} (X : CxOk z ad RX5 cX5_readRest 5 none 4) (a0 : Nat) (a1 : Nat) (a2 : Nat) (x3 : Int32) (h0 : KT a0 = 5) (h1 : KT a1 = 6) (h2 : KT a2 = 8)  (t0 : Nat) (t1 : Int32) (t2 : Int32) (t3 : Int32)  (gt0 : KT t0 = 5) (S : St) (r : St) (ho : o = (none, r)) (hF : fX5_readRest_s26 a0 a1 a2 x3  t0 t1 t2 t3 S = some r) : GW z ad o S 26 [(1, .ref (ad a1))] [.int t3, .int t2, .int t1, .ref (ad t0)] := by
  unfold fX5_readRest_s26 at hF
  refine g_goto (tgt := 34) X dX5_readRest_26 (by decide) ?_
  obtain ⟨r_11, q_12, hF⟩ := obind hF
  refine g_callVv (As := [.int t1, .int t2, .int t3]) X dX5_readRest_34 mlX5_60 (fun l D cyy => tX5_add (cx_inj X) l D cyy t0 t1 t2 t3 gt0 S r_11 q_12) gt0 (by decide) rfl rfl (Nat.le_of_ble_eq_true rfl) ?_
  refine g_aload_n X dX5_readRest_37 0 rfl rfl ?_
  obtain ⟨r_13, q_14, hF⟩ := obind hF
  refine g_callVv (As := []) X dX5_readRest_38 mlX5_57 (fun l D cyy => tX6_advance (cx_inj X) l D cyy a1 h1 r_11 r_13 q_14) h1 (by decide) rfl rfl (Nat.le_of_ble_eq_true rfl) ?_
  refine g_goto (tgt := 111) X dX5_readRest_41 (by decide) ?_
  have hF := Option.some.inj hF
  subst hF
  exact g_vret X dX5_readRest_111 ho
theorem wX5_readRest_s12 {z : Mx} {ad : Nat → Nat} {o : Option Value × St} (X : CxOk z ad RX5 cX5_readRest 5 none 4) (a0 : Nat) (a1 : Nat) (a2 : Nat) (x3 : Int32) (h0 : KT a0 = 5) (h1 : KT a1 = 6) (h2 : KT a2 = 8)     (S : St) (r : St) (ho : o = (none, r)) (hF : fX5_readRest_s12 a0 a1 a2 x3   S = some r) : GW z ad o S 12 [(0, .ref (ad a0)), (1, .ref (ad a1)), (2, .ref (ad a2)), (3, .int x3)] [] := by
  unfold fX5_readRest_s12 at hF
  refine g_aload_n X dX5_readRest_12 0 rfl rfl ?_
  refine g_iload_n X dX5_readRest_13 3 rfl rfl ?_
  refine g_iconst (v := 0) X dX5_readRest_14 (by decide) ?_
  refine g_iload_n X dX5_readRest_15 3 rfl rfl ?_
  refine g_bipush (v := 6) X dX5_readRest_16 (by decide) ?_
  refine g_icmp_ne (tgt := 29) X dX5_readRest_18 (by decide) (fun c_2 => ?_) (fun c_2 => ?_)
  · rw [if_neg c_2] at hF
    refine g_aload_n X dX5_readRest_29 2 rfl rfl ?_
    refine g_aload_n X dX5_readRest_30 1 rfl rfl ?_
    obtain ⟨r_3, q_4, hF⟩ := obind hF
    refine g_callVi (As := [.ref (ad a1)]) X dX5_readRest_31 mlX5_110 (fun l D cyy => tX8_parishAt (cx_inj X) l D cyy a2 a1 h2 h1 S r_3 q_4) h2 (by decide) rfl rfl (Nat.le_of_ble_eq_true rfl) ?_
    exact g_perm [1] rfl (wX5_readRest_s34 X a0 a1 a2 x3 h0 h1 h2 a0 x3 (0 : Int32) r_3.1 h0 r_3.2 r ho hF)
  · rw [if_pos c_2] at hF
    refine g_aload_n X dX5_readRest_21 2 rfl rfl ?_
    refine g_aload_n X dX5_readRest_22 1 rfl rfl ?_
    obtain ⟨r_9, q_10, hF⟩ := obind hF
    refine g_callVi (As := [.ref (ad a1)]) X dX5_readRest_23 mlX5_105 (fun l D cyy => tX8_feastAt (cx_inj X) l D cyy a2 a1 h2 h1 S r_9 q_10) h2 (by decide) rfl rfl (Nat.le_of_ble_eq_true rfl) ?_
    exact g_perm [1] rfl (wX5_readRest_s26 X a0 a1 a2 x3 h0 h1 h2 a0 x3 (0 : Int32) r_9.1 h0 r_9.2 r ho hF)
theorem wX5_readRest_s98 {z : Mx} {ad : Nat → Nat} {o : Option Value × St} (X : CxOk z ad RX5 cX5_readRest 5 none 4) (a0 : Nat) (a1 : Nat) (a2 : Nat) (x3 : Int32) (h0 : KT a0 = 5) (h1 : KT a1 = 6) (h2 : KT a2 = 8)  (t0 : Nat) (t1 : Int32) (t2 : Int32) (t3 : Int32)  (gt0 : KT t0 = 5) (S : St) (r : St) (ho : o = (none, r)) (hF : fX5_readRest_s98 a0 a1 a2 x3  t0 t1 t2 t3 S = some r) : GW z ad o S 98 [] [.int t3, .int t2, .int t1, .ref (ad t0)] := by
  unfold fX5_readRest_s98 at hF
  obtain ⟨r_24, q_25, hF⟩ := obind hF
  refine g_callVv (As := [.int t1, .int t2, .int t3]) X dX5_readRest_98 mlX5_60 (fun l D cyy => tX5_add (cx_inj X) l D cyy t0 t1 t2 t3 gt0 S r_24 q_25) gt0 (by decide) rfl rfl (Nat.le_of_ble_eq_true rfl) ?_
  refine g_goto (tgt := 111) X dX5_readRest_101 (by decide) ?_
  have hF := Option.some.inj hF
  subst hF
  exact g_vret X dX5_readRest_111 ho
theorem wX5_readRest_s82 {z : Mx} {ad : Nat → Nat} {o : Option Value × St} (X : CxOk z ad RX5 cX5_readRest 5 none 4) (a0 : Nat) (a1 : Nat) (a2 : Nat) (x3 : Int32) (h0 : KT a0 = 5) (h1 : KT a1 = 6) (h2 : KT a2 = 8) (y4 : Int32)    (S : St) (r : St) (ho : o = (none, r)) (hF : fX5_readRest_s82 a0 a1 a2 x3 y4  S = some r) : GW z ad o S 82 [(0, .ref (ad a0)), (1, .ref (ad a1)), (3, .int x3), (4, .int y4)] [] := by
  unfold fX5_readRest_s82 at hF
  refine g_aload_n X dX5_readRest_82 1 rfl rfl ?_
  obtain ⟨r_20, q_21, hF⟩ := obind hF
  refine g_callVv (As := []) X dX5_readRest_83 mlX5_57 (fun l D cyy => tX6_advance (cx_inj X) l D cyy a1 h1 S r_20 q_21) h1 (by decide) rfl rfl (Nat.le_of_ble_eq_true rfl) ?_
  refine g_aload_n X dX5_readRest_86 0 rfl rfl ?_
  refine g_iload_n X dX5_readRest_87 2 rfl rfl ?_
  refine g_iload X dX5_readRest_88 3 rfl ?_
  refine g_aload_n X dX5_readRest_90 1 rfl rfl ?_
  refine g_iconst (v := 0) X dX5_readRest_91 (by decide) ?_
  refine g_sipush (v := 999) X dX5_readRest_92 (by decide) ?_
  obtain ⟨r_22, q_23, hF⟩ := obind hF
  refine g_callVi (As := [.int (0 : Int32), .int (999 : Int32)]) X dX5_readRest_95 mlX5_113 (fun l D cyy => tX6_takeNumber (cx_inj X) l D cyy a1 (0 : Int32) (999 : Int32) h1 r_20 r_22 q_23) h1 (by decide) rfl rfl (Nat.le_of_ble_eq_true rfl) ?_
  exact g_perm [] rfl (wX5_readRest_s98 X a0 a1 a2 x3 h0 h1 h2 a0 x3 y4 r_22.1 h0 r_22.2 r ho hF)
theorem wX5_readRest_s56 {z : Mx} {ad : Nat → Nat} {o : Option Value × St} (X : CxOk z ad RX5 cX5_readRest 5 none 4) (a0 : Nat) (a1 : Nat) (a2 : Nat) (x3 : Int32) (h0 : KT a0 = 5) (h1 : KT a1 = 6) (h2 : KT a2 = 8) (y4 : Int32)    (S : St) (r : St) (ho : o = (none, r)) (hF : fX5_readRest_s56 a0 a1 a2 x3 y4  S = some r) : GW z ad o S 56 [(0, .ref (ad a0)), (1, .ref (ad a1)), (3, .int x3), (4, .int y4)] [] := by
  unfold fX5_readRest_s56 at hF
  refine g_iload X dX5_readRest_56 3 rfl ?_
  refine g_bipush (v := 60) X dX5_readRest_58 (by decide) ?_
  refine g_icmp_eq (tgt := 82) X dX5_readRest_60 (by decide) (fun c_19 => ?_) (fun c_19 => ?_)
  · rw [if_pos c_19] at hF
    exact (wX5_readRest_s82 X a0 a1 a2 x3 h0 h1 h2 y4 S r ho hF)
  · rw [if_neg c_19] at hF
    refine g_iload X dX5_readRest_63 3 rfl ?_
    refine g_bipush (v := 61) X dX5_readRest_65 (by decide) ?_
    refine g_icmp_eq (tgt := 82) X dX5_readRest_67 (by decide) (fun c_26 => ?_) (fun c_26 => ?_)
    · rw [if_pos c_26] at hF
      exact (wX5_readRest_s82 X a0 a1 a2 x3 h0 h1 h2 y4 S r ho hF)
    · rw [if_neg c_26] at hF
      refine g_iload X dX5_readRest_70 3 rfl ?_
      refine g_bipush (v := 62) X dX5_readRest_72 (by decide) ?_
      refine g_icmp_eq (tgt := 82) X dX5_readRest_74 (by decide) (fun c_27 => ?_) (fun c_27 => ?_)
      · rw [if_pos c_27] at hF
        exact (wX5_readRest_s82 X a0 a1 a2 x3 h0 h1 h2 y4 S r ho hF)
      · rw [if_neg c_27] at hF
        refine g_aload_n X dX5_readRest_77 1 rfl rfl ?_
        refine g_iconst (v := 1) X dX5_readRest_78 (by decide) ?_
        refine g_callVv (As := [.int (1 : Int32)]) X dX5_readRest_79 mlX5_45 (fun l D cyy => tX6_fail (cx_inj X) l D cyy a1 (1 : Int32) h1 S) h1 (by decide) rfl rfl (Nat.le_of_ble_eq_true rfl) ?_
        exact (wX5_readRest_s82 X a0 a1 a2 x3 h0 h1 h2 y4 (fX6_fail a1 (1 : Int32) S) r ho hF)
theorem wX5_readRest {z : Mx} {ad : Nat → Nat} {o : Option Value × St} (X : CxOk z ad RX5 cX5_readRest 5 none 4) (a0 : Nat) (a1 : Nat) (a2 : Nat) (x3 : Int32) (h0 : KT a0 = 5) (h1 : KT a1 = 6) (h2 : KT a2 = 8) (S : St) (r : St) (ho : o = (none, r)) (hF : fX5_readRest a0 a1 a2 x3 S = some r) : GW z ad o S 0 [(0, .ref (ad a0)), (1, .ref (ad a1)), (2, .ref (ad a2)), (3, .int x3)] [] := by
  unfold fX5_readRest at hF
  refine g_iload_n X dX5_readRest_0 3 rfl rfl ?_
  refine g_bipush (v := 6) X dX5_readRest_1 (by decide) ?_
  refine g_icmp_eq (tgt := 12) X dX5_readRest_3 (by decide) (fun c_1 => ?_) (fun c_1 => ?_)
  · rw [if_pos c_1] at hF
    exact (wX5_readRest_s12 X a0 a1 a2 x3 h0 h1 h2 S r ho hF)
  · rw [if_neg c_1] at hF
    refine g_iload_n X dX5_readRest_6 3 rfl rfl ?_
    refine g_bipush (v := 7) X dX5_readRest_7 (by decide) ?_
    refine g_icmp_ne (tgt := 44) X dX5_readRest_9 (by decide) (fun c_15 => ?_) (fun c_15 => ?_)
    · rw [if_neg c_15] at hF
      refine g_iload_n X dX5_readRest_44 3 rfl rfl ?_
      refine g_bipush (v := 8) X dX5_readRest_45 (by decide) ?_
      refine g_icmp_lt (tgt := 104) X dX5_readRest_47 (by decide) (fun c_16 => ?_) (fun c_16 => ?_)
      · rw [if_pos c_16] at hF
        refine g_aload_n X dX5_readRest_104 0 rfl rfl ?_
        refine g_iload_n X dX5_readRest_105 3 rfl rfl ?_
        refine g_iconst (v := 0) X dX5_readRest_106 (by decide) ?_
        refine g_iconst (v := 0) X dX5_readRest_107 (by decide) ?_
        obtain ⟨r_17, q_18, hF⟩ := obind hF
        refine g_callVv (As := [.int x3, .int (0 : Int32), .int (0 : Int32)]) X dX5_readRest_108 mlX5_60 (fun l D cyy => tX5_add (cx_inj X) l D cyy a0 x3 (0 : Int32) (0 : Int32) h0 S r_17 q_18) h0 (by decide) rfl rfl (Nat.le_of_ble_eq_true rfl) ?_
        have hF := Option.some.inj hF
        subst hF
        exact g_vret X dX5_readRest_111 ho
      · rw [if_neg c_16] at hF
        refine g_aload_n X dX5_readRest_50 1 rfl rfl ?_
        refine g_getI X dX5_readRest_51 flX5_73 rfl h1 ?_
        refine g_istore X dX5_readRest_54 (by decide) (lv' := [(4, .int (gI S 6 5 a1)), (0, .ref (ad a0)), (1, .ref (ad a1)), (2, .ref (ad a2)), (3, .int x3)]) rfl ?_
        exact g_perm [1, 2, 4, 0] rfl (wX5_readRest_s56 X a0 a1 a2 x3 h0 h1 h2 (gI S 6 5 a1) S r ho hF)
    · rw [if_pos c_15] at hF
      exact (wX5_readRest_s12 X a0 a1 a2 x3 h0 h1 h2 S r ho hF)
theorem tX5_readRest {ad : Nat → Nat} (hI : Inj ad) (l : Launch) (D : va_G) (cyy : Nat → ClassId) (a0 : Nat) (a1 : Nat) (a2 : Nat) (x3 : Int32) (h0 : KT a0 = 5) (h1 : KT a1 = 6) (h2 : KT a2 = 8) (S : St) (r : St) (hF : fX5_readRest a0 a1 a2 x3 S = some r) : OkM l yX5_readRest cX5_readRest 5 none 4 ad D cyy [.ref (ad a0), .ref (ad a1), .ref (ad a2), .int x3] S (none, r) := okM_of hI (by decide) (inr_60 _ (List.mem_of_getElem? (i := 20) rfl)) (by show _ ≤ 5; exact Nat.le_of_ble_eq_true rfl) (fun z X => wX5_readRest X a0 a1 a2 x3 h0 h1 h2 S r rfl hF)
def fX5_compare (x0 : Int32) (x1 : Int32) (x2 : Int32) (S : St) : Int32 :=
  if x1 = (60 : Int32) then (if x2 ≤ x0 then ((0 : Int32)) else
  ((1 : Int32))) else
  (if x1 = (62 : Int32) then (if x0 ≤ x2 then ((0 : Int32)) else
  ((1 : Int32))) else
  (if x0 = x2 then ((1 : Int32)) else
  ((0 : Int32))))
theorem wX5_compare {z : Mx} {ad : Nat → Nat} {o : Option Value × St} (X : CxOk z ad RX5 cX5_compare 3 (some .boolean) 1) (x0 : Int32) (x1 : Int32) (x2 : Int32)  (S : St) (r : Int32) (ho : o = (some (.int r), S)) (hF : fX5_compare x0 x1 x2 S = r) : GW z ad o S 0 [(0, .int x0), (1, .int x1), (2, .int x2)] [] := by
  unfold fX5_compare at hF
  refine g_iload_n X dX5_compare_0 1 rfl rfl ?_
  refine g_bipush (v := 60) X dX5_compare_1 (by decide) ?_
  refine g_icmp_ne (tgt := 17) X dX5_compare_3 (by decide) (fun c_1 => ?_) (fun c_1 => ?_)
  · rw [if_neg c_1] at hF
    refine g_iload_n X dX5_compare_17 1 rfl rfl ?_
    refine g_bipush (v := 62) X dX5_compare_18 (by decide) ?_
    refine g_icmp_ne (tgt := 36) X dX5_compare_20 (by decide) (fun c_2 => ?_) (fun c_2 => ?_)
    · rw [if_neg c_2] at hF
      refine g_iload_n X dX5_compare_36 0 rfl rfl ?_
      refine g_iload_n X dX5_compare_37 2 rfl rfl ?_
      refine g_icmp_ne (tgt := 45) X dX5_compare_38 (by decide) (fun c_3 => ?_) (fun c_3 => ?_)
      · rw [if_neg c_3] at hF
        refine g_iconst (v := 0) X dX5_compare_45 (by decide) ?_
        subst hF
        exact g_zret X dX5_compare_46 (by decide) ho
      · rw [if_pos c_3] at hF
        refine g_iconst (v := 1) X dX5_compare_41 (by decide) ?_
        refine g_goto (tgt := 46) X dX5_compare_42 (by decide) ?_
        subst hF
        exact g_zret X dX5_compare_46 (by decide) ho
    · rw [if_pos c_2] at hF
      refine g_iload_n X dX5_compare_23 0 rfl rfl ?_
      refine g_iload_n X dX5_compare_24 2 rfl rfl ?_
      refine g_icmp_le (tgt := 32) X dX5_compare_25 (by decide) (fun c_4 => ?_) (fun c_4 => ?_)
      · rw [if_pos c_4] at hF
        refine g_iconst (v := 0) X dX5_compare_32 (by decide) ?_
        refine g_goto (tgt := 46) X dX5_compare_33 (by decide) ?_
        subst hF
        exact g_zret X dX5_compare_46 (by decide) ho
      · rw [if_neg c_4] at hF
        refine g_iconst (v := 1) X dX5_compare_28 (by decide) ?_
        refine g_goto (tgt := 46) X dX5_compare_29 (by decide) ?_
        subst hF
        exact g_zret X dX5_compare_46 (by decide) ho
  · rw [if_pos c_1] at hF
    refine g_iload_n X dX5_compare_6 0 rfl rfl ?_
    refine g_iload_n X dX5_compare_7 2 rfl rfl ?_
    refine g_icmp_ge (tgt := 15) X dX5_compare_8 (by decide) (fun c_5 => ?_) (fun c_5 => ?_)
    · rw [if_pos c_5] at hF
      refine g_iconst (v := 0) X dX5_compare_15 (by decide) ?_
      subst hF
      exact g_zret X dX5_compare_16 (by decide) ho
    · rw [if_neg c_5] at hF
      refine g_iconst (v := 1) X dX5_compare_11 (by decide) ?_
      refine g_goto (tgt := 16) X dX5_compare_12 (by decide) ?_
      subst hF
      exact g_zret X dX5_compare_16 (by decide) ho
theorem tX5_compare {ad : Nat → Nat} (hI : Inj ad) (l : Launch) (D : va_G) (cyy : Nat → ClassId) (x0 : Int32) (x1 : Int32) (x2 : Int32)  (S : St) : OkM l yX5_compare cX5_compare 3 (some .boolean) 1 ad D cyy [.int x0, .int x1, .int x2] S (some (.int (fX5_compare x0 x1 x2 S)), S) := okM_of hI (by decide) (inr_63 _ (List.mem_of_getElem? (i := 19) rfl)) (by show _ ≤ 3; exact Nat.le_of_ble_eq_true rfl) (fun z X => wX5_compare X x0 x1 x2  S _ rfl rfl)
