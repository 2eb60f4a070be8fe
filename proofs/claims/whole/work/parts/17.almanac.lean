theorem dX0_countFalls_0 : decode cX0_countFalls 0 = .ok (.aload_n 1, 1) := by decide +kernel
theorem dX0_countFalls_1 : decode cX0_countFalls 1 = .ok (.getfield 27, 3) := by decide +kernel
theorem dX0_countFalls_4 : decode cX0_countFalls 4 = .ok (.getfield 33, 3) := by decide +kernel
theorem dX0_countFalls_7 : decode cX0_countFalls 7 = .ok (.iload_n 2, 1) := by decide +kernel
theorem dX0_countFalls_8 : decode cX0_countFalls 8 = .ok (.aaload, 1) := by decide +kernel
theorem dX0_countFalls_9 : decode cX0_countFalls 9 = .ok (.astore 4, 2) := by decide +kernel
theorem dX0_countFalls_11 : decode cX0_countFalls 11 = .ok (.aload 4, 2) := by decide +kernel
theorem dX0_countFalls_13 : decode cX0_countFalls 13 = .ok (.getfield 39, 3) := by decide +kernel
theorem dX0_countFalls_16 : decode cX0_countFalls 16 = .ok (.istore 5, 2) := by decide +kernel
theorem dX0_countFalls_18 : decode cX0_countFalls 18 = .ok (.aload_n 1, 1) := by decide +kernel
theorem dX0_countFalls_19 : decode cX0_countFalls 19 = .ok (.getfield 27, 3) := by decide +kernel
theorem dX0_countFalls_22 : decode cX0_countFalls 22 = .ok (.iload 5, 2) := by decide +kernel
theorem dX0_countFalls_24 : decode cX0_countFalls 24 = .ok (.invokevirtual 44, 3) := by decide +kernel
theorem dX0_countFalls_27 : decode cX0_countFalls 27 = .ok (.ifCond .ne 5, 3) := by decide +kernel
theorem dX0_countFalls_30 : decode cX0_countFalls 30 = .ok (.iconst (-1), 1) := by decide +kernel
theorem dX0_countFalls_31 : decode cX0_countFalls 31 = .ok (.ireturn, 1) := by decide +kernel
theorem dX0_countFalls_32 : decode cX0_countFalls 32 = .ok (.aload_n 1, 1) := by decide +kernel
theorem dX0_countFalls_33 : decode cX0_countFalls 33 = .ok (.getfield 27, 3) := by decide +kernel
theorem dX0_countFalls_36 : decode cX0_countFalls 36 = .ok (.getfield 48, 3) := by decide +kernel
theorem dX0_countFalls_39 : decode cX0_countFalls 39 = .ok (.iload 5, 2) := by decide +kernel
theorem dX0_countFalls_41 : decode cX0_countFalls 41 = .ok (.aaload, 1) := by decide +kernel
theorem dX0_countFalls_42 : decode cX0_countFalls 42 = .ok (.astore 6, 2) := by decide +kernel
theorem dX0_countFalls_44 : decode cX0_countFalls 44 = .ok (.aload_n 1, 1) := by decide +kernel
theorem dX0_countFalls_45 : decode cX0_countFalls 45 = .ok (.iload_n 2, 1) := by decide +kernel
theorem dX0_countFalls_46 : decode cX0_countFalls 46 = .ok (.iconst 0, 1) := by decide +kernel
theorem dX0_countFalls_47 : decode cX0_countFalls 47 = .ok (.invokevirtual 51, 3) := by decide +kernel
theorem dX0_countFalls_50 : decode cX0_countFalls 50 = .ok (.ifCond .eq 7, 3) := by decide +kernel
theorem dX0_countFalls_53 : decode cX0_countFalls 53 = .ok (.iconst 1, 1) := by decide +kernel
theorem dX0_countFalls_54 : decode cX0_countFalls 54 = .ok (.goto 4, 3) := by decide +kernel
theorem dX0_countFalls_57 : decode cX0_countFalls 57 = .ok (.iconst 0, 1) := by decide +kernel
theorem dX0_countFalls_58 : decode cX0_countFalls 58 = .ok (.istore 7, 2) := by decide +kernel
theorem dX0_countFalls_60 : decode cX0_countFalls 60 = .ok (.aload 6, 2) := by decide +kernel
theorem dX0_countFalls_62 : decode cX0_countFalls 62 = .ok (.aload_n 1, 1) := by decide +kernel
theorem dX0_countFalls_63 : decode cX0_countFalls 63 = .ok (.getfield 55, 3) := by decide +kernel
theorem dX0_countFalls_66 : decode cX0_countFalls 66 = .ok (.iload 5, 2) := by decide +kernel
theorem dX0_countFalls_68 : decode cX0_countFalls 68 = .ok (.iload_n 3, 1) := by decide +kernel
theorem dX0_countFalls_69 : decode cX0_countFalls 69 = .ok (.invokevirtual 59, 3) := by decide +kernel
theorem dX0_countFalls_72 : decode cX0_countFalls 72 = .ok (.aload 4, 2) := by decide +kernel
theorem dX0_countFalls_74 : decode cX0_countFalls 74 = .ok (.getfield 65, 3) := by decide +kernel
theorem dX0_countFalls_77 : decode cX0_countFalls 77 = .ok (.aload 4, 2) := by decide +kernel
theorem dX0_countFalls_79 : decode cX0_countFalls 79 = .ok (.getfield 68, 3) := by decide +kernel
theorem dX0_countFalls_82 : decode cX0_countFalls 82 = .ok (.invokevirtual 71, 3) := by decide +kernel
theorem dX0_countFalls_85 : decode cX0_countFalls 85 = .ok (.aload 6, 2) := by decide +kernel
theorem dX0_countFalls_87 : decode cX0_countFalls 87 = .ok (.aload_n 1, 1) := by decide +kernel
theorem dX0_countFalls_88 : decode cX0_countFalls 88 = .ok (.getfield 55, 3) := by decide +kernel
theorem dX0_countFalls_91 : decode cX0_countFalls 91 = .ok (.getfield 77, 3) := by decide +kernel
theorem dX0_countFalls_94 : decode cX0_countFalls 94 = .ok (.iload 5, 2) := by decide +kernel
theorem dX0_countFalls_96 : decode cX0_countFalls 96 = .ok (.iaload, 1) := by decide +kernel
theorem dX0_countFalls_97 : decode cX0_countFalls 97 = .ok (.aload 4, 2) := by decide +kernel
theorem dX0_countFalls_99 : decode cX0_countFalls 99 = .ok (.getfield 65, 3) := by decide +kernel
theorem dX0_countFalls_102 : decode cX0_countFalls 102 = .ok (.aload 4, 2) := by decide +kernel
theorem dX0_countFalls_104 : decode cX0_countFalls 104 = .ok (.getfield 68, 3) := by decide +kernel
theorem dX0_countFalls_107 : decode cX0_countFalls 107 = .ok (.invokevirtual 71, 3) := by decide +kernel
theorem dX0_countFalls_110 : decode cX0_countFalls 110 = .ok (.isub, 1) := by decide +kernel
theorem dX0_countFalls_111 : decode cX0_countFalls 111 = .ok (.istore 8, 2) := by decide +kernel
theorem dX0_countFalls_113 : decode cX0_countFalls 113 = .ok (.iload_n 3, 1) := by decide +kernel
theorem dX0_countFalls_114 : decode cX0_countFalls 114 = .ok (.ifCond .le 20, 3) := by decide +kernel
theorem dX0_countFalls_117 : decode cX0_countFalls 117 = .ok (.aload_n 1, 1) := by decide +kernel
theorem dX0_countFalls_118 : decode cX0_countFalls 118 = .ok (.getfield 55, 3) := by decide +kernel
theorem dX0_countFalls_121 : decode cX0_countFalls 121 = .ok (.iload 5, 2) := by decide +kernel
theorem dX0_countFalls_123 : decode cX0_countFalls 123 = .ok (.invokevirtual 81, 3) := by decide +kernel
theorem dX0_countFalls_126 : decode cX0_countFalls 126 = .ok (.ifCond .eq 8, 3) := by decide +kernel
theorem dX0_countFalls_129 : decode cX0_countFalls 129 = .ok (.iload 7, 2) := by decide +kernel
theorem dX0_countFalls_131 : decode cX0_countFalls 131 = .ok (.goto 4, 3) := by decide +kernel
theorem dX0_countFalls_134 : decode cX0_countFalls 134 = .ok (.iconst 0, 1) := by decide +kernel
theorem dX0_countFalls_135 : decode cX0_countFalls 135 = .ok (.istore 9, 2) := by decide +kernel
theorem dX0_countFalls_137 : decode cX0_countFalls 137 = .ok (.iload 7, 2) := by decide +kernel
theorem dX0_countFalls_139 : decode cX0_countFalls 139 = .ok (.iload 9, 2) := by decide +kernel
theorem dX0_countFalls_141 : decode cX0_countFalls 141 = .ok (.iadd, 1) := by decide +kernel
theorem dX0_countFalls_142 : decode cX0_countFalls 142 = .ok (.iload 8, 2) := by decide +kernel
theorem dX0_countFalls_144 : decode cX0_countFalls 144 = .ok (.iadd, 1) := by decide +kernel
theorem dX0_countFalls_145 : decode cX0_countFalls 145 = .ok (.ireturn, 1) := by decide +kernel
theorem dX0_findMeeting_0 : decode cX0_findMeeting 0 = .ok (.iconst 0, 1) := by decide +kernel
theorem dX0_findMeeting_1 : decode cX0_findMeeting 1 = .ok (.istore 4, 2) := by decide +kernel
theorem dX0_findMeeting_3 : decode cX0_findMeeting 3 = .ok (.iconst 0, 1) := by decide +kernel
theorem dX0_findMeeting_4 : decode cX0_findMeeting 4 = .ok (.istore 5, 2) := by decide +kernel
theorem dX0_findMeeting_6 : decode cX0_findMeeting 6 = .ok (.iload 5, 2) := by decide +kernel
theorem dX0_findMeeting_8 : decode cX0_findMeeting 8 = .ok (.ldc 84, 2) := by decide +kernel
theorem dX0_findMeeting_10 : decode cX0_findMeeting 10 = .ok (.if_icmp .gt 57, 3) := by decide +kernel
theorem dX0_findMeeting_13 : decode cX0_findMeeting 13 = .ok (.aload_n 1, 1) := by decide +kernel
theorem dX0_findMeeting_14 : decode cX0_findMeeting 14 = .ok (.iload_n 2, 1) := by decide +kernel
theorem dX0_findMeeting_15 : decode cX0_findMeeting 15 = .ok (.iload 4, 2) := by decide +kernel
theorem dX0_findMeeting_17 : decode cX0_findMeeting 17 = .ok (.invokevirtual 85, 3) := by decide +kernel
theorem dX0_findMeeting_20 : decode cX0_findMeeting 20 = .ok (.istore 6, 2) := by decide +kernel
theorem dX0_findMeeting_22 : decode cX0_findMeeting 22 = .ok (.aload_n 1, 1) := by decide +kernel
theorem dX0_findMeeting_23 : decode cX0_findMeeting 23 = .ok (.iload_n 3, 1) := by decide +kernel
theorem dX0_findMeeting_24 : decode cX0_findMeeting 24 = .ok (.iload 6, 2) := by decide +kernel
theorem dX0_findMeeting_26 : decode cX0_findMeeting 26 = .ok (.invokevirtual 85, 3) := by decide +kernel
theorem dX0_findMeeting_29 : decode cX0_findMeeting 29 = .ok (.istore 7, 2) := by decide +kernel
theorem dX0_findMeeting_31 : decode cX0_findMeeting 31 = .ok (.iload 6, 2) := by decide +kernel
theorem dX0_findMeeting_33 : decode cX0_findMeeting 33 = .ok (.ldc 84, 2) := by decide +kernel
theorem dX0_findMeeting_35 : decode cX0_findMeeting 35 = .ok (.if_icmp .gt 10, 3) := by decide +kernel
theorem dX0_findMeeting_38 : decode cX0_findMeeting 38 = .ok (.iload 7, 2) := by decide +kernel
theorem dX0_findMeeting_40 : decode cX0_findMeeting 40 = .ok (.ldc 84, 2) := by decide +kernel
theorem dX0_findMeeting_42 : decode cX0_findMeeting 42 = .ok (.if_icmp .le 5, 3) := by decide +kernel
theorem dX0_findMeeting_45 : decode cX0_findMeeting 45 = .ok (.iconst (-1), 1) := by decide +kernel
theorem dX0_findMeeting_46 : decode cX0_findMeeting 46 = .ok (.ireturn, 1) := by decide +kernel
theorem dX0_findMeeting_47 : decode cX0_findMeeting 47 = .ok (.iload 6, 2) := by decide +kernel
theorem dX0_findMeeting_49 : decode cX0_findMeeting 49 = .ok (.iload 7, 2) := by decide +kernel
theorem dX0_findMeeting_51 : decode cX0_findMeeting 51 = .ok (.if_icmp .ne 6, 3) := by decide +kernel
theorem dX0_findMeeting_54 : decode cX0_findMeeting 54 = .ok (.iload 6, 2) := by decide +kernel
theorem dX0_findMeeting_56 : decode cX0_findMeeting 56 = .ok (.ireturn, 1) := by decide +kernel
theorem dX0_findMeeting_57 : decode cX0_findMeeting 57 = .ok (.iload 7, 2) := by decide +kernel
theorem dX0_findMeeting_59 : decode cX0_findMeeting 59 = .ok (.istore 4, 2) := by decide +kernel
theorem dX0_findMeeting_61 : decode cX0_findMeeting 61 = .ok (.iinc 5 1, 3) := by decide +kernel
theorem dX0_findMeeting_64 : decode cX0_findMeeting 64 = .ok (.goto (-58), 3) := by decide +kernel
theorem dX0_findMeeting_67 : decode cX0_findMeeting 67 = .ok (.iconst (-1), 1) := by decide +kernel
theorem dX0_findMeeting_68 : decode cX0_findMeeting 68 = .ok (.ireturn, 1) := by decide +kernel
theorem dX0_findFair_0 : decode cX0_findFair 0 = .ok (.iconst 0, 1) := by decide +kernel
theorem dX0_findFair_1 : decode cX0_findFair 1 = .ok (.istore_n 3, 1) := by decide +kernel
theorem dX0_findFair_2 : decode cX0_findFair 2 = .ok (.iload_n 3, 1) := by decide +kernel
theorem dX0_findFair_3 : decode cX0_findFair 3 = .ok (.sipush 2520, 3) := by decide +kernel
theorem dX0_findFair_6 : decode cX0_findFair 6 = .ok (.if_icmp .gt 21, 3) := by decide +kernel
theorem dX0_findFair_9 : decode cX0_findFair 9 = .ok (.aload_n 0, 1) := by decide +kernel
theorem dX0_findFair_10 : decode cX0_findFair 10 = .ok (.aload_n 1, 1) := by decide +kernel
theorem dX0_findFair_11 : decode cX0_findFair 11 = .ok (.iload_n 2, 1) := by decide +kernel
theorem dX0_findFair_12 : decode cX0_findFair 12 = .ok (.iload_n 3, 1) := by decide +kernel
theorem dX0_findFair_13 : decode cX0_findFair 13 = .ok (.invokevirtual 88, 3) := by decide +kernel
theorem dX0_findFair_16 : decode cX0_findFair 16 = .ok (.ifCond .eq 5, 3) := by decide +kernel
theorem dX0_findFair_19 : decode cX0_findFair 19 = .ok (.iload_n 3, 1) := by decide +kernel
theorem dX0_findFair_20 : decode cX0_findFair 20 = .ok (.ireturn, 1) := by decide +kernel
theorem dX0_findFair_21 : decode cX0_findFair 21 = .ok (.iinc 3 1, 3) := by decide +kernel
theorem dX0_findFair_24 : decode cX0_findFair 24 = .ok (.goto (-22), 3) := by decide +kernel
theorem dX0_findFair_27 : decode cX0_findFair 27 = .ok (.iconst (-1), 1) := by decide +kernel
theorem dX0_findFair_28 : decode cX0_findFair 28 = .ok (.ireturn, 1) := by decide +kernel
theorem dX0_isFair_0 : decode cX0_isFair 0 = .ok (.iconst 0, 1) := by decide +kernel
theorem dX0_isFair_1 : decode cX0_isFair 1 = .ok (.istore 4, 2) := by decide +kernel
theorem dX0_isFair_3 : decode cX0_isFair 3 = .ok (.iload 4, 2) := by decide +kernel
theorem dX0_isFair_5 : decode cX0_isFair 5 = .ok (.aload_n 1, 1) := by decide +kernel
theorem dX0_isFair_6 : decode cX0_isFair 6 = .ok (.getfield 27, 3) := by decide +kernel
theorem dX0_isFair_9 : decode cX0_isFair 9 = .ok (.getfield 92, 3) := by decide +kernel
theorem dX0_isFair_12 : decode cX0_isFair 12 = .ok (.if_icmp .ge 48, 3) := by decide +kernel
theorem dX0_isFair_15 : decode cX0_isFair 15 = .ok (.iload_n 2, 1) := by decide +kernel
theorem dX0_isFair_16 : decode cX0_isFair 16 = .ok (.iload 4, 2) := by decide +kernel
theorem dX0_isFair_18 : decode cX0_isFair 18 = .ok (.ishr, 1) := by decide +kernel
theorem dX0_isFair_19 : decode cX0_isFair 19 = .ok (.iconst 1, 1) := by decide +kernel
theorem dX0_isFair_20 : decode cX0_isFair 20 = .ok (.iand, 1) := by decide +kernel
theorem dX0_isFair_21 : decode cX0_isFair 21 = .ok (.iconst 1, 1) := by decide +kernel
theorem dX0_isFair_22 : decode cX0_isFair 22 = .ok (.if_icmp .ne 32, 3) := by decide +kernel
theorem dX0_isFair_25 : decode cX0_isFair 25 = .ok (.aload_n 1, 1) := by decide +kernel
theorem dX0_isFair_26 : decode cX0_isFair 26 = .ok (.getfield 55, 3) := by decide +kernel
theorem dX0_isFair_29 : decode cX0_isFair 29 = .ok (.iload 4, 2) := by decide +kernel
theorem dX0_isFair_31 : decode cX0_isFair 31 = .ok (.iload_n 3, 1) := by decide +kernel
theorem dX0_isFair_32 : decode cX0_isFair 32 = .ok (.invokevirtual 59, 3) := by decide +kernel
theorem dX0_isFair_35 : decode cX0_isFair 35 = .ok (.aload_n 1, 1) := by decide +kernel
theorem dX0_isFair_36 : decode cX0_isFair 36 = .ok (.getfield 27, 3) := by decide +kernel
theorem dX0_isFair_39 : decode cX0_isFair 39 = .ok (.getfield 48, 3) := by decide +kernel
theorem dX0_isFair_42 : decode cX0_isFair 42 = .ok (.iload 4, 2) := by decide +kernel
theorem dX0_isFair_44 : decode cX0_isFair 44 = .ok (.aaload, 1) := by decide +kernel
theorem dX0_isFair_45 : decode cX0_isFair 45 = .ok (.getfield 95, 3) := by decide +kernel
theorem dX0_isFair_48 : decode cX0_isFair 48 = .ok (.irem, 1) := by decide +kernel
theorem dX0_isFair_49 : decode cX0_isFair 49 = .ok (.ifCond .eq 5, 3) := by decide +kernel
theorem dX0_isFair_52 : decode cX0_isFair 52 = .ok (.iconst 0, 1) := by decide +kernel
theorem dX0_isFair_53 : decode cX0_isFair 53 = .ok (.ireturn, 1) := by decide +kernel
theorem dX0_isFair_54 : decode cX0_isFair 54 = .ok (.iinc 4 1, 3) := by decide +kernel
theorem dX0_isFair_57 : decode cX0_isFair 57 = .ok (.goto (-54), 3) := by decide +kernel
theorem dX0_isFair_60 : decode cX0_isFair 60 = .ok (.iconst 1, 1) := by decide +kernel
theorem dX0_isFair_61 : decode cX0_isFair 61 = .ok (.ireturn, 1) := by decide +kernel
theorem dX0_driftPart_0 : decode cX0_driftPart 0 = .ok (.aload_n 1, 1) := by decide +kernel
theorem dX0_driftPart_1 : decode cX0_driftPart 1 = .ok (.getfield 48, 3) := by decide +kernel
theorem dX0_driftPart_4 : decode cX0_driftPart 4 = .ok (.iload_n 2, 1) := by decide +kernel
theorem dX0_driftPart_5 : decode cX0_driftPart 5 = .ok (.aaload, 1) := by decide +kernel
theorem dX0_driftPart_6 : decode cX0_driftPart 6 = .ok (.astore 4, 2) := by decide +kernel
theorem dX0_driftPart_8 : decode cX0_driftPart 8 = .ok (.aload 4, 2) := by decide +kernel
theorem dX0_driftPart_10 : decode cX0_driftPart 10 = .ok (.getfield 98, 3) := by decide +kernel
theorem dX0_driftPart_13 : decode cX0_driftPart 13 = .ok (.aload 4, 2) := by decide +kernel
theorem dX0_driftPart_15 : decode cX0_driftPart 15 = .ok (.getfield 101, 3) := by decide +kernel
theorem dX0_driftPart_18 : decode cX0_driftPart 18 = .ok (.imul, 1) := by decide +kernel
theorem dX0_driftPart_19 : decode cX0_driftPart 19 = .ok (.aload 4, 2) := by decide +kernel
theorem dX0_driftPart_21 : decode cX0_driftPart 21 = .ok (.getfield 103, 3) := by decide +kernel
theorem dX0_driftPart_24 : decode cX0_driftPart 24 = .ok (.imul, 1) := by decide +kernel
theorem dX0_driftPart_25 : decode cX0_driftPart 25 = .ok (.aload 4, 2) := by decide +kernel
theorem dX0_driftPart_27 : decode cX0_driftPart 27 = .ok (.getfield 106, 3) := by decide +kernel
theorem dX0_driftPart_30 : decode cX0_driftPart 30 = .ok (.iadd, 1) := by decide +kernel
theorem dX0_driftPart_31 : decode cX0_driftPart 31 = .ok (.istore 5, 2) := by decide +kernel
theorem dX0_driftPart_33 : decode cX0_driftPart 33 = .ok (.iload 5, 2) := by decide +kernel
theorem dX0_driftPart_35 : decode cX0_driftPart 35 = .ok (.aload_n 1, 1) := by decide +kernel
theorem dX0_driftPart_36 : decode cX0_driftPart 36 = .ok (.getfield 109, 3) := by decide +kernel
theorem dX0_driftPart_39 : decode cX0_driftPart 39 = .ok (.imul, 1) := by decide +kernel
theorem dX0_driftPart_40 : decode cX0_driftPart 40 = .ok (.aload_n 1, 1) := by decide +kernel
theorem dX0_driftPart_41 : decode cX0_driftPart 41 = .ok (.getfield 112, 3) := by decide +kernel
theorem dX0_driftPart_44 : decode cX0_driftPart 44 = .ok (.aload 4, 2) := by decide +kernel
theorem dX0_driftPart_46 : decode cX0_driftPart 46 = .ok (.getfield 103, 3) := by decide +kernel
theorem dX0_driftPart_49 : decode cX0_driftPart 49 = .ok (.imul, 1) := by decide +kernel
theorem dX0_driftPart_50 : decode cX0_driftPart 50 = .ok (.isub, 1) := by decide +kernel
theorem dX0_driftPart_51 : decode cX0_driftPart 51 = .ok (.istore 6, 2) := by decide +kernel
theorem dX0_driftPart_53 : decode cX0_driftPart 53 = .ok (.aload 4, 2) := by decide +kernel
theorem dX0_driftPart_55 : decode cX0_driftPart 55 = .ok (.getfield 103, 3) := by decide +kernel
theorem dX0_driftPart_58 : decode cX0_driftPart 58 = .ok (.aload_n 1, 1) := by decide +kernel
theorem dX0_driftPart_59 : decode cX0_driftPart 59 = .ok (.getfield 109, 3) := by decide +kernel
theorem dX0_driftPart_62 : decode cX0_driftPart 62 = .ok (.imul, 1) := by decide +kernel
theorem dX0_driftPart_63 : decode cX0_driftPart 63 = .ok (.istore 7, 2) := by decide +kernel
theorem dX0_driftPart_65 : decode cX0_driftPart 65 = .ok (.iload 6, 2) := by decide +kernel
theorem dX0_driftPart_67 : decode cX0_driftPart 67 = .ok (.iload 7, 2) := by decide +kernel
theorem dX0_driftPart_69 : decode cX0_driftPart 69 = .ok (.invokestatic 115, 3) := by decide +kernel
theorem dX0_driftPart_72 : decode cX0_driftPart 72 = .ok (.istore 8, 2) := by decide +kernel
theorem dX0_driftPart_74 : decode cX0_driftPart 74 = .ok (.iload 8, 2) := by decide +kernel
theorem dX0_driftPart_76 : decode cX0_driftPart 76 = .ok (.ifCond .gt 5, 3) := by decide +kernel
theorem dX0_driftPart_79 : decode cX0_driftPart 79 = .ok (.iconst (-1), 1) := by decide +kernel
theorem dX0_driftPart_80 : decode cX0_driftPart 80 = .ok (.ireturn, 1) := by decide +kernel
theorem dX0_driftPart_81 : decode cX0_driftPart 81 = .ok (.iload_n 3, 1) := by decide +kernel
theorem dX0_driftPart_82 : decode cX0_driftPart 82 = .ok (.ifCond .ne 11, 3) := by decide +kernel
theorem dX0_driftPart_85 : decode cX0_driftPart 85 = .ok (.iload 6, 2) := by decide +kernel
theorem dX0_driftPart_87 : decode cX0_driftPart 87 = .ok (.iload 8, 2) := by decide +kernel
theorem dX0_driftPart_89 : decode cX0_driftPart 89 = .ok (.idiv, 1) := by decide +kernel
theorem dX0_driftPart_90 : decode cX0_driftPart 90 = .ok (.goto 8, 3) := by decide +kernel
theorem dX0_driftPart_93 : decode cX0_driftPart 93 = .ok (.iload 7, 2) := by decide +kernel
theorem dX0_driftPart_95 : decode cX0_driftPart 95 = .ok (.iload 8, 2) := by decide +kernel
theorem dX0_driftPart_97 : decode cX0_driftPart 97 = .ok (.idiv, 1) := by decide +kernel
theorem dX0_driftPart_98 : decode cX0_driftPart 98 = .ok (.ireturn, 1) := by decide +kernel
theorem dX0_shared_0 : decode cX0_shared 0 = .ok (.iload_n 0, 1) := by decide +kernel
theorem dX0_shared_1 : decode cX0_shared 1 = .ok (.invokestatic 118, 3) := by decide +kernel
theorem dX0_shared_4 : decode cX0_shared 4 = .ok (.istore_n 2, 1) := by decide +kernel
theorem dX0_shared_5 : decode cX0_shared 5 = .ok (.iload_n 1, 1) := by decide +kernel
theorem dX0_shared_6 : decode cX0_shared 6 = .ok (.istore_n 3, 1) := by decide +kernel
theorem dX0_shared_7 : decode cX0_shared 7 = .ok (.iconst 0, 1) := by decide +kernel
theorem dX0_shared_8 : decode cX0_shared 8 = .ok (.istore 4, 2) := by decide +kernel
theorem dX0_shared_10 : decode cX0_shared 10 = .ok (.iload 4, 2) := by decide +kernel
theorem dX0_shared_12 : decode cX0_shared 12 = .ok (.bipush 64, 2) := by decide +kernel
theorem dX0_shared_14 : decode cX0_shared 14 = .ok (.if_icmp .ge 23, 3) := by decide +kernel
theorem dX0_shared_17 : decode cX0_shared 17 = .ok (.iload_n 2, 1) := by decide +kernel
theorem dX0_shared_18 : decode cX0_shared 18 = .ok (.ifCond .eq 19, 3) := by decide +kernel
theorem dX0_shared_21 : decode cX0_shared 21 = .ok (.iload_n 3, 1) := by decide +kernel
theorem dX0_shared_22 : decode cX0_shared 22 = .ok (.iload_n 2, 1) := by decide +kernel
theorem dX0_shared_23 : decode cX0_shared 23 = .ok (.irem, 1) := by decide +kernel
theorem dX0_shared_24 : decode cX0_shared 24 = .ok (.istore 5, 2) := by decide +kernel
theorem dX0_shared_26 : decode cX0_shared 26 = .ok (.iload_n 2, 1) := by decide +kernel
theorem dX0_shared_27 : decode cX0_shared 27 = .ok (.istore_n 3, 1) := by decide +kernel
theorem dX0_shared_28 : decode cX0_shared 28 = .ok (.iload 5, 2) := by decide +kernel
theorem dX0_shared_30 : decode cX0_shared 30 = .ok (.istore_n 2, 1) := by decide +kernel
theorem dX0_shared_31 : decode cX0_shared 31 = .ok (.iinc 4 1, 3) := by decide +kernel
theorem dX0_shared_34 : decode cX0_shared 34 = .ok (.goto (-24), 3) := by decide +kernel
theorem dX0_shared_37 : decode cX0_shared 37 = .ok (.iload_n 3, 1) := by decide +kernel
theorem dX0_shared_38 : decode cX0_shared 38 = .ok (.ireturn, 1) := by decide +kernel
theorem dX0_findTune_0 : decode cX0_findTune 0 = .ok (.iconst 1, 1) := by decide +kernel
theorem dX0_findTune_1 : decode cX0_findTune 1 = .ok (.istore 4, 2) := by decide +kernel
theorem dX0_findTune_3 : decode cX0_findTune 3 = .ok (.aload_n 0, 1) := by decide +kernel
theorem dX0_findTune_4 : decode cX0_findTune 4 = .ok (.iconst 0, 1) := by decide +kernel
theorem dX0_findTune_5 : decode cX0_findTune 5 = .ok (.putfield 9, 3) := by decide +kernel
theorem dX0_findTune_8 : decode cX0_findTune 8 = .ok (.aload_n 1, 1) := by decide +kernel
theorem dX0_findTune_9 : decode cX0_findTune 9 = .ok (.iload_n 2, 1) := by decide +kernel
theorem dX0_findTune_10 : decode cX0_findTune 10 = .ok (.iconst 1, 1) := by decide +kernel
theorem dX0_findTune_11 : decode cX0_findTune 11 = .ok (.iconst 0, 1) := by decide +kernel
theorem dX0_findTune_12 : decode cX0_findTune 12 = .ok (.invokestatic 124, 3) := by decide +kernel
theorem dX0_findTune_15 : decode cX0_findTune 15 = .ok (.istore 5, 2) := by decide +kernel
theorem dX0_findTune_17 : decode cX0_findTune 17 = .ok (.iconst 1, 1) := by decide +kernel
theorem dX0_findTune_18 : decode cX0_findTune 18 = .ok (.istore 6, 2) := by decide +kernel
theorem dX0_findTune_20 : decode cX0_findTune 20 = .ok (.iload 6, 2) := by decide +kernel
theorem dX0_findTune_22 : decode cX0_findTune 22 = .ok (.iload_n 3, 1) := by decide +kernel
theorem dX0_findTune_23 : decode cX0_findTune 23 = .ok (.if_icmp .gt 63, 3) := by decide +kernel
theorem dX0_findTune_26 : decode cX0_findTune 26 = .ok (.iconst 0, 1) := by decide +kernel
theorem dX0_findTune_27 : decode cX0_findTune 27 = .ok (.istore 7, 2) := by decide +kernel
theorem dX0_findTune_29 : decode cX0_findTune 29 = .ok (.iload 7, 2) := by decide +kernel
theorem dX0_findTune_31 : decode cX0_findTune 31 = .ok (.bipush 9, 2) := by decide +kernel
theorem dX0_findTune_33 : decode cX0_findTune 33 = .ok (.if_icmp .gt 47, 3) := by decide +kernel
theorem dX0_findTune_36 : decode cX0_findTune 36 = .ok (.aload_n 1, 1) := by decide +kernel
theorem dX0_findTune_37 : decode cX0_findTune 37 = .ok (.iload_n 2, 1) := by decide +kernel
theorem dX0_findTune_38 : decode cX0_findTune 38 = .ok (.iload 6, 2) := by decide +kernel
theorem dX0_findTune_40 : decode cX0_findTune 40 = .ok (.iload 7, 2) := by decide +kernel
theorem dX0_findTune_42 : decode cX0_findTune 42 = .ok (.invokestatic 124, 3) := by decide +kernel
theorem dX0_findTune_45 : decode cX0_findTune 45 = .ok (.istore 8, 2) := by decide +kernel
theorem dX0_findTune_47 : decode cX0_findTune 47 = .ok (.iload 8, 2) := by decide +kernel
theorem dX0_findTune_49 : decode cX0_findTune 49 = .ok (.iload 4, 2) := by decide +kernel
theorem dX0_findTune_51 : decode cX0_findTune 51 = .ok (.imul, 1) := by decide +kernel
theorem dX0_findTune_52 : decode cX0_findTune 52 = .ok (.iload 5, 2) := by decide +kernel
theorem dX0_findTune_54 : decode cX0_findTune 54 = .ok (.iload 6, 2) := by decide +kernel
theorem dX0_findTune_56 : decode cX0_findTune 56 = .ok (.imul, 1) := by decide +kernel
theorem dX0_findTune_57 : decode cX0_findTune 57 = .ok (.if_icmp .ge 17, 3) := by decide +kernel
theorem dX0_findTune_60 : decode cX0_findTune 60 = .ok (.iload 8, 2) := by decide +kernel
theorem dX0_findTune_62 : decode cX0_findTune 62 = .ok (.istore 5, 2) := by decide +kernel
theorem dX0_findTune_64 : decode cX0_findTune 64 = .ok (.iload 6, 2) := by decide +kernel
theorem dX0_findTune_66 : decode cX0_findTune 66 = .ok (.istore 4, 2) := by decide +kernel
theorem dX0_findTune_68 : decode cX0_findTune 68 = .ok (.aload_n 0, 1) := by decide +kernel
theorem dX0_findTune_69 : decode cX0_findTune 69 = .ok (.iload 7, 2) := by decide +kernel
theorem dX0_findTune_71 : decode cX0_findTune 71 = .ok (.putfield 9, 3) := by decide +kernel
theorem dX0_findTune_74 : decode cX0_findTune 74 = .ok (.iinc 7 1, 3) := by decide +kernel
theorem dX0_findTune_77 : decode cX0_findTune 77 = .ok (.goto (-48), 3) := by decide +kernel
theorem dX0_findTune_80 : decode cX0_findTune 80 = .ok (.iinc 6 1, 3) := by decide +kernel
theorem dX0_findTune_83 : decode cX0_findTune 83 = .ok (.goto (-63), 3) := by decide +kernel
theorem dX0_findTune_86 : decode cX0_findTune 86 = .ok (.iload 4, 2) := by decide +kernel
theorem dX0_findTune_88 : decode cX0_findTune 88 = .ok (.ireturn, 1) := by decide +kernel
theorem dX0_offBy_0 : decode cX0_offBy 0 = .ok (.aload_n 0, 1) := by decide +kernel
theorem dX0_offBy_1 : decode cX0_offBy 1 = .ok (.getfield 48, 3) := by decide +kernel
theorem dX0_offBy_4 : decode cX0_offBy 4 = .ok (.iload_n 1, 1) := by decide +kernel
theorem dX0_offBy_5 : decode cX0_offBy 5 = .ok (.aaload, 1) := by decide +kernel
theorem dX0_offBy_6 : decode cX0_offBy 6 = .ok (.astore 4, 2) := by decide +kernel
theorem dX0_offBy_8 : decode cX0_offBy 8 = .ok (.aload 4, 2) := by decide +kernel
theorem dX0_offBy_10 : decode cX0_offBy 10 = .ok (.getfield 98, 3) := by decide +kernel
theorem dX0_offBy_13 : decode cX0_offBy 13 = .ok (.aload 4, 2) := by decide +kernel
theorem dX0_offBy_15 : decode cX0_offBy 15 = .ok (.getfield 101, 3) := by decide +kernel
theorem dX0_offBy_18 : decode cX0_offBy 18 = .ok (.imul, 1) := by decide +kernel
theorem dX0_offBy_19 : decode cX0_offBy 19 = .ok (.iload_n 2, 1) := by decide +kernel
theorem dX0_offBy_20 : decode cX0_offBy 20 = .ok (.imul, 1) := by decide +kernel
theorem dX0_offBy_21 : decode cX0_offBy 21 = .ok (.iload_n 3, 1) := by decide +kernel
theorem dX0_offBy_22 : decode cX0_offBy 22 = .ok (.iadd, 1) := by decide +kernel
theorem dX0_offBy_23 : decode cX0_offBy 23 = .ok (.aload_n 0, 1) := by decide +kernel
theorem dX0_offBy_24 : decode cX0_offBy 24 = .ok (.getfield 109, 3) := by decide +kernel
theorem dX0_offBy_27 : decode cX0_offBy 27 = .ok (.imul, 1) := by decide +kernel
theorem dX0_offBy_28 : decode cX0_offBy 28 = .ok (.istore 5, 2) := by decide +kernel
theorem dX0_offBy_30 : decode cX0_offBy 30 = .ok (.iload 5, 2) := by decide +kernel
theorem dX0_offBy_32 : decode cX0_offBy 32 = .ok (.aload_n 0, 1) := by decide +kernel
theorem dX0_offBy_33 : decode cX0_offBy 33 = .ok (.getfield 112, 3) := by decide +kernel
theorem dX0_offBy_36 : decode cX0_offBy 36 = .ok (.iload_n 2, 1) := by decide +kernel
theorem dX0_offBy_37 : decode cX0_offBy 37 = .ok (.imul, 1) := by decide +kernel
theorem dX0_offBy_38 : decode cX0_offBy 38 = .ok (.isub, 1) := by decide +kernel
theorem dX0_offBy_39 : decode cX0_offBy 39 = .ok (.invokestatic 118, 3) := by decide +kernel
theorem dX0_offBy_42 : decode cX0_offBy 42 = .ok (.ireturn, 1) := by decide +kernel
theorem dX0_skipsTo_0 : decode cX0_skipsTo 0 = .ok (.aload_n 0, 1) := by decide +kernel
theorem dX0_skipsTo_1 : decode cX0_skipsTo 1 = .ok (.iload_n 2, 1) := by decide +kernel
theorem dX0_skipsTo_2 : decode cX0_skipsTo 2 = .ok (.iconst 0, 1) := by decide +kernel
theorem dX0_skipsTo_3 : decode cX0_skipsTo 3 = .ok (.invokevirtual 128, 3) := by decide +kernel
theorem dX0_skipsTo_6 : decode cX0_skipsTo 6 = .ok (.istore_n 3, 1) := by decide +kernel
theorem dX0_skipsTo_7 : decode cX0_skipsTo 7 = .ok (.aload_n 0, 1) := by decide +kernel
theorem dX0_skipsTo_8 : decode cX0_skipsTo 8 = .ok (.getfield 55, 3) := by decide +kernel
theorem dX0_skipsTo_11 : decode cX0_skipsTo 11 = .ok (.getfield 77, 3) := by decide +kernel
theorem dX0_skipsTo_14 : decode cX0_skipsTo 14 = .ok (.iload_n 1, 1) := by decide +kernel
theorem dX0_skipsTo_15 : decode cX0_skipsTo 15 = .ok (.iaload, 1) := by decide +kernel
theorem dX0_skipsTo_16 : decode cX0_skipsTo 16 = .ok (.istore 4, 2) := by decide +kernel
theorem dX0_skipsTo_18 : decode cX0_skipsTo 18 = .ok (.iconst 0, 1) := by decide +kernel
theorem dX0_skipsTo_19 : decode cX0_skipsTo 19 = .ok (.istore 5, 2) := by decide +kernel
theorem dX0_skipsTo_21 : decode cX0_skipsTo 21 = .ok (.iload 5, 2) := by decide +kernel
theorem dX0_skipsTo_23 : decode cX0_skipsTo 23 = .ok (.sipush 400, 3) := by decide +kernel
theorem dX0_skipsTo_26 : decode cX0_skipsTo 26 = .ok (.if_icmp .gt 33, 3) := by decide +kernel
theorem dX0_skipsTo_29 : decode cX0_skipsTo 29 = .ok (.aload_n 0, 1) := by decide +kernel
theorem dX0_skipsTo_30 : decode cX0_skipsTo 30 = .ok (.getfield 27, 3) := by decide +kernel
theorem dX0_skipsTo_33 : decode cX0_skipsTo 33 = .ok (.getfield 48, 3) := by decide +kernel
theorem dX0_skipsTo_36 : decode cX0_skipsTo 36 = .ok (.iload_n 1, 1) := by decide +kernel
theorem dX0_skipsTo_37 : decode cX0_skipsTo 37 = .ok (.aaload, 1) := by decide +kernel
theorem dX0_skipsTo_38 : decode cX0_skipsTo 38 = .ok (.iload 4, 2) := by decide +kernel
theorem dX0_skipsTo_40 : decode cX0_skipsTo 40 = .ok (.iload 5, 2) := by decide +kernel
theorem dX0_skipsTo_42 : decode cX0_skipsTo 42 = .ok (.iadd, 1) := by decide +kernel
theorem dX0_skipsTo_43 : decode cX0_skipsTo 43 = .ok (.invokevirtual 131, 3) := by decide +kernel
theorem dX0_skipsTo_46 : decode cX0_skipsTo 46 = .ok (.iload_n 3, 1) := by decide +kernel
theorem dX0_skipsTo_47 : decode cX0_skipsTo 47 = .ok (.if_icmp .ne 6, 3) := by decide +kernel
theorem dX0_skipsTo_50 : decode cX0_skipsTo 50 = .ok (.iload 5, 2) := by decide +kernel
theorem dX0_skipsTo_52 : decode cX0_skipsTo 52 = .ok (.ireturn, 1) := by decide +kernel
theorem dX0_skipsTo_53 : decode cX0_skipsTo 53 = .ok (.iinc 5 1, 3) := by decide +kernel
theorem dX0_skipsTo_56 : decode cX0_skipsTo 56 = .ok (.goto (-35), 3) := by decide +kernel
theorem dX0_skipsTo_59 : decode cX0_skipsTo 59 = .ok (.iconst (-1), 1) := by decide +kernel
theorem dX0_skipsTo_60 : decode cX0_skipsTo 60 = .ok (.ireturn, 1) := by decide +kernel
theorem dX0_findAgreement_0 : decode cX0_findAgreement 0 = .ok (.aload_n 1, 1) := by decide +kernel
theorem dX0_findAgreement_1 : decode cX0_findAgreement 1 = .ok (.iload_n 2, 1) := by decide +kernel
theorem dX0_findAgreement_2 : decode cX0_findAgreement 2 = .ok (.iload_n 3, 1) := by decide +kernel
theorem dX0_findAgreement_3 : decode cX0_findAgreement 3 = .ok (.invokestatic 134, 3) := by decide +kernel
theorem dX0_findAgreement_6 : decode cX0_findAgreement 6 = .ok (.istore 4, 2) := by decide +kernel
theorem dX0_findAgreement_8 : decode cX0_findAgreement 8 = .ok (.aload_n 1, 1) := by decide +kernel
theorem dX0_findAgreement_9 : decode cX0_findAgreement 9 = .ok (.iload_n 3, 1) := by decide +kernel
theorem dX0_findAgreement_10 : decode cX0_findAgreement 10 = .ok (.iload_n 2, 1) := by decide +kernel
theorem dX0_findAgreement_11 : decode cX0_findAgreement 11 = .ok (.invokestatic 134, 3) := by decide +kernel
theorem dX0_findAgreement_14 : decode cX0_findAgreement 14 = .ok (.istore 5, 2) := by decide +kernel
theorem dX0_findAgreement_16 : decode cX0_findAgreement 16 = .ok (.iload 4, 2) := by decide +kernel
theorem dX0_findAgreement_18 : decode cX0_findAgreement 18 = .ok (.iconst (-1), 1) := by decide +kernel
theorem dX0_findAgreement_19 : decode cX0_findAgreement 19 = .ok (.if_icmp .ne 11, 3) := by decide +kernel
theorem dX0_findAgreement_22 : decode cX0_findAgreement 22 = .ok (.iload 5, 2) := by decide +kernel
theorem dX0_findAgreement_24 : decode cX0_findAgreement 24 = .ok (.iconst (-1), 1) := by decide +kernel
theorem dX0_findAgreement_25 : decode cX0_findAgreement 25 = .ok (.if_icmp .ne 5, 3) := by decide +kernel
theorem dX0_findAgreement_28 : decode cX0_findAgreement 28 = .ok (.iconst (-1), 1) := by decide +kernel
theorem dX0_findAgreement_29 : decode cX0_findAgreement 29 = .ok (.ireturn, 1) := by decide +kernel
theorem dX0_findAgreement_30 : decode cX0_findAgreement 30 = .ok (.iload 5, 2) := by decide +kernel
theorem dX0_findAgreement_32 : decode cX0_findAgreement 32 = .ok (.iconst (-1), 1) := by decide +kernel
theorem dX0_findAgreement_33 : decode cX0_findAgreement 33 = .ok (.if_icmp .eq 16, 3) := by decide +kernel
theorem dX0_findAgreement_36 : decode cX0_findAgreement 36 = .ok (.iload 4, 2) := by decide +kernel
theorem dX0_findAgreement_38 : decode cX0_findAgreement 38 = .ok (.iconst (-1), 1) := by decide +kernel
theorem dX0_findAgreement_39 : decode cX0_findAgreement 39 = .ok (.if_icmp .eq 18, 3) := by decide +kernel
theorem dX0_findAgreement_42 : decode cX0_findAgreement 42 = .ok (.iload 4, 2) := by decide +kernel
theorem dX0_findAgreement_44 : decode cX0_findAgreement 44 = .ok (.iload 5, 2) := by decide +kernel
theorem dX0_findAgreement_46 : decode cX0_findAgreement 46 = .ok (.if_icmp .gt 11, 3) := by decide +kernel
theorem dX0_findAgreement_49 : decode cX0_findAgreement 49 = .ok (.aload_n 0, 1) := by decide +kernel
theorem dX0_findAgreement_50 : decode cX0_findAgreement 50 = .ok (.iload_n 2, 1) := by decide +kernel
theorem dX0_findAgreement_51 : decode cX0_findAgreement 51 = .ok (.putfield 15, 3) := by decide +kernel
theorem dX0_findAgreement_54 : decode cX0_findAgreement 54 = .ok (.iload 4, 2) := by decide +kernel
theorem dX0_findAgreement_56 : decode cX0_findAgreement 56 = .ok (.ireturn, 1) := by decide +kernel
theorem dX0_findAgreement_57 : decode cX0_findAgreement 57 = .ok (.aload_n 0, 1) := by decide +kernel
theorem dX0_findAgreement_58 : decode cX0_findAgreement 58 = .ok (.iload_n 3, 1) := by decide +kernel
theorem dX0_findAgreement_59 : decode cX0_findAgreement 59 = .ok (.putfield 15, 3) := by decide +kernel
theorem dX0_findAgreement_62 : decode cX0_findAgreement 62 = .ok (.iload 5, 2) := by decide +kernel
theorem dX0_findAgreement_64 : decode cX0_findAgreement 64 = .ok (.ireturn, 1) := by decide +kernel
theorem dX0_countMatches_0 : decode cX0_countMatches 0 = .ok (.iconst 0, 1) := by decide +kernel
theorem dX0_countMatches_1 : decode cX0_countMatches 1 = .ok (.istore 5, 2) := by decide +kernel
theorem dX0_countMatches_3 : decode cX0_countMatches 3 = .ok (.iconst 0, 1) := by decide +kernel
theorem dX0_countMatches_4 : decode cX0_countMatches 4 = .ok (.istore 6, 2) := by decide +kernel
theorem dX0_countMatches_6 : decode cX0_countMatches 6 = .ok (.iload 6, 2) := by decide +kernel
theorem dX0_countMatches_8 : decode cX0_countMatches 8 = .ok (.iload 4, 2) := by decide +kernel
theorem dX0_countMatches_10 : decode cX0_countMatches 10 = .ok (.if_icmp .gt 40, 3) := by decide +kernel
theorem dX0_countMatches_13 : decode cX0_countMatches 13 = .ok (.aload_n 1, 1) := by decide +kernel
theorem dX0_countMatches_14 : decode cX0_countMatches 14 = .ok (.iload_n 2, 1) := by decide +kernel
theorem dX0_countMatches_15 : decode cX0_countMatches 15 = .ok (.iload 6, 2) := by decide +kernel
theorem dX0_countMatches_17 : decode cX0_countMatches 17 = .ok (.invokevirtual 128, 3) := by decide +kernel
theorem dX0_countMatches_20 : decode cX0_countMatches 20 = .ok (.aload_n 1, 1) := by decide +kernel
theorem dX0_countMatches_21 : decode cX0_countMatches 21 = .ok (.iload_n 3, 1) := by decide +kernel
theorem dX0_countMatches_22 : decode cX0_countMatches 22 = .ok (.iload 6, 2) := by decide +kernel
theorem dX0_countMatches_24 : decode cX0_countMatches 24 = .ok (.invokevirtual 128, 3) := by decide +kernel
theorem dX0_countMatches_27 : decode cX0_countMatches 27 = .ok (.if_icmp .ne 17, 3) := by decide +kernel
theorem dX0_countMatches_30 : decode cX0_countMatches 30 = .ok (.iload 5, 2) := by decide +kernel
theorem dX0_countMatches_32 : decode cX0_countMatches 32 = .ok (.ifCond .ne 9, 3) := by decide +kernel
theorem dX0_countMatches_35 : decode cX0_countMatches 35 = .ok (.aload_n 0, 1) := by decide +kernel
theorem dX0_countMatches_36 : decode cX0_countMatches 36 = .ok (.iload 6, 2) := by decide +kernel
theorem dX0_countMatches_38 : decode cX0_countMatches 38 = .ok (.putfield 18, 3) := by decide +kernel
theorem dX0_countMatches_41 : decode cX0_countMatches 41 = .ok (.iinc 5 1, 3) := by decide +kernel
theorem dX0_countMatches_44 : decode cX0_countMatches 44 = .ok (.iinc 6 1, 3) := by decide +kernel
theorem dX0_countMatches_47 : decode cX0_countMatches 47 = .ok (.goto (-41), 3) := by decide +kernel
theorem dX0_countMatches_50 : decode cX0_countMatches 50 = .ok (.iload 5, 2) := by decide +kernel
theorem dX0_countMatches_52 : decode cX0_countMatches 52 = .ok (.ireturn, 1) := by decide +kernel
theorem dX0_findReform_0 : decode cX0_findReform 0 = .ok (.iconst (-1), 1) := by decide +kernel
theorem dX0_findReform_1 : decode cX0_findReform 1 = .ok (.istore_n 2, 1) := by decide +kernel
theorem dX0_findReform_2 : decode cX0_findReform 2 = .ok (.iconst 0, 1) := by decide +kernel
theorem dX0_findReform_3 : decode cX0_findReform 3 = .ok (.istore_n 3, 1) := by decide +kernel
theorem dX0_findReform_4 : decode cX0_findReform 4 = .ok (.iload_n 3, 1) := by decide +kernel
theorem dX0_findReform_5 : decode cX0_findReform 5 = .ok (.aload_n 1, 1) := by decide +kernel
theorem dX0_findReform_6 : decode cX0_findReform 6 = .ok (.getfield 27, 3) := by decide +kernel
theorem dX0_findReform_9 : decode cX0_findReform 9 = .ok (.getfield 92, 3) := by decide +kernel
theorem dX0_findReform_12 : decode cX0_findReform 12 = .ok (.if_icmp .ge 41, 3) := by decide +kernel
theorem dX0_findReform_15 : decode cX0_findReform 15 = .ok (.aload_n 1, 1) := by decide +kernel
theorem dX0_findReform_16 : decode cX0_findReform 16 = .ok (.iload_n 3, 1) := by decide +kernel
theorem dX0_findReform_17 : decode cX0_findReform 17 = .ok (.invokestatic 138, 3) := by decide +kernel
theorem dX0_findReform_20 : decode cX0_findReform 20 = .ok (.istore 4, 2) := by decide +kernel
theorem dX0_findReform_22 : decode cX0_findReform 22 = .ok (.iload 4, 2) := by decide +kernel
theorem dX0_findReform_24 : decode cX0_findReform 24 = .ok (.iconst (-1), 1) := by decide +kernel
theorem dX0_findReform_25 : decode cX0_findReform 25 = .ok (.if_icmp .eq 22, 3) := by decide +kernel
theorem dX0_findReform_28 : decode cX0_findReform 28 = .ok (.iload_n 2, 1) := by decide +kernel
theorem dX0_findReform_29 : decode cX0_findReform 29 = .ok (.iconst (-1), 1) := by decide +kernel
theorem dX0_findReform_30 : decode cX0_findReform 30 = .ok (.if_icmp .eq 9, 3) := by decide +kernel
theorem dX0_findReform_33 : decode cX0_findReform 33 = .ok (.iload 4, 2) := by decide +kernel
theorem dX0_findReform_35 : decode cX0_findReform 35 = .ok (.iload_n 2, 1) := by decide +kernel
theorem dX0_findReform_36 : decode cX0_findReform 36 = .ok (.if_icmp .ge 11, 3) := by decide +kernel
theorem dX0_findReform_39 : decode cX0_findReform 39 = .ok (.iload 4, 2) := by decide +kernel
theorem dX0_findReform_41 : decode cX0_findReform 41 = .ok (.istore_n 2, 1) := by decide +kernel
theorem dX0_findReform_42 : decode cX0_findReform 42 = .ok (.aload_n 0, 1) := by decide +kernel
theorem dX0_findReform_43 : decode cX0_findReform 43 = .ok (.iload_n 3, 1) := by decide +kernel
theorem dX0_findReform_44 : decode cX0_findReform 44 = .ok (.putfield 21, 3) := by decide +kernel
theorem dX0_findReform_47 : decode cX0_findReform 47 = .ok (.iinc 3 1, 3) := by decide +kernel
theorem dX0_findReform_50 : decode cX0_findReform 50 = .ok (.goto (-46), 3) := by decide +kernel
theorem dX0_findReform_53 : decode cX0_findReform 53 = .ok (.iload_n 2, 1) := by decide +kernel
theorem dX0_findReform_54 : decode cX0_findReform 54 = .ok (.ireturn, 1) := by decide +kernel
theorem dX0_skipsOfAllTo_0 : decode cX0_skipsOfAllTo 0 = .ok (.iconst 0, 1) := by decide +kernel
theorem dX0_skipsOfAllTo_1 : decode cX0_skipsOfAllTo 1 = .ok (.istore_n 2, 1) := by decide +kernel
theorem dX0_skipsOfAllTo_2 : decode cX0_skipsOfAllTo 2 = .ok (.iconst 0, 1) := by decide +kernel
theorem dX0_skipsOfAllTo_3 : decode cX0_skipsOfAllTo 3 = .ok (.istore_n 3, 1) := by decide +kernel
theorem dX0_skipsOfAllTo_4 : decode cX0_skipsOfAllTo 4 = .ok (.iload_n 3, 1) := by decide +kernel
theorem dX0_skipsOfAllTo_5 : decode cX0_skipsOfAllTo 5 = .ok (.aload_n 0, 1) := by decide +kernel
theorem dX0_skipsOfAllTo_6 : decode cX0_skipsOfAllTo 6 = .ok (.getfield 27, 3) := by decide +kernel
theorem dX0_skipsOfAllTo_9 : decode cX0_skipsOfAllTo 9 = .ok (.getfield 92, 3) := by decide +kernel
theorem dX0_skipsOfAllTo_12 : decode cX0_skipsOfAllTo 12 = .ok (.if_icmp .ge 30, 3) := by decide +kernel
theorem dX0_skipsOfAllTo_15 : decode cX0_skipsOfAllTo 15 = .ok (.aload_n 0, 1) := by decide +kernel
theorem dX0_skipsOfAllTo_16 : decode cX0_skipsOfAllTo 16 = .ok (.iload_n 3, 1) := by decide +kernel
theorem dX0_skipsOfAllTo_17 : decode cX0_skipsOfAllTo 17 = .ok (.iload_n 1, 1) := by decide +kernel
theorem dX0_skipsOfAllTo_18 : decode cX0_skipsOfAllTo 18 = .ok (.invokestatic 134, 3) := by decide +kernel
theorem dX0_skipsOfAllTo_21 : decode cX0_skipsOfAllTo 21 = .ok (.istore 4, 2) := by decide +kernel
theorem dX0_skipsOfAllTo_23 : decode cX0_skipsOfAllTo 23 = .ok (.iload 4, 2) := by decide +kernel
theorem dX0_skipsOfAllTo_25 : decode cX0_skipsOfAllTo 25 = .ok (.iconst (-1), 1) := by decide +kernel
theorem dX0_skipsOfAllTo_26 : decode cX0_skipsOfAllTo 26 = .ok (.if_icmp .ne 5, 3) := by decide +kernel
theorem dX0_skipsOfAllTo_29 : decode cX0_skipsOfAllTo 29 = .ok (.iconst (-1), 1) := by decide +kernel
theorem dX0_skipsOfAllTo_30 : decode cX0_skipsOfAllTo 30 = .ok (.ireturn, 1) := by decide +kernel
theorem dX0_skipsOfAllTo_31 : decode cX0_skipsOfAllTo 31 = .ok (.iload_n 2, 1) := by decide +kernel
theorem dX0_skipsOfAllTo_32 : decode cX0_skipsOfAllTo 32 = .ok (.iload 4, 2) := by decide +kernel
theorem dX0_skipsOfAllTo_34 : decode cX0_skipsOfAllTo 34 = .ok (.iadd, 1) := by decide +kernel
theorem dX0_skipsOfAllTo_35 : decode cX0_skipsOfAllTo 35 = .ok (.istore_n 2, 1) := by decide +kernel
theorem dX0_skipsOfAllTo_36 : decode cX0_skipsOfAllTo 36 = .ok (.iinc 3 1, 3) := by decide +kernel
theorem dX0_skipsOfAllTo_39 : decode cX0_skipsOfAllTo 39 = .ok (.goto (-35), 3) := by decide +kernel
theorem dX0_skipsOfAllTo_42 : decode cX0_skipsOfAllTo 42 = .ok (.iload_n 2, 1) := by decide +kernel
theorem dX0_skipsOfAllTo_43 : decode cX0_skipsOfAllTo 43 = .ok (.ireturn, 1) := by decide +kernel
theorem dX0_findMove_0 : decode cX0_findMove 0 = .ok (.aload_n 1, 1) := by decide +kernel
theorem dX0_findMove_1 : decode cX0_findMove 1 = .ok (.iload_n 2, 1) := by decide +kernel
theorem dX0_findMove_2 : decode cX0_findMove 2 = .ok (.iload_n 3, 1) := by decide +kernel
theorem dX0_findMove_3 : decode cX0_findMove 3 = .ok (.invokestatic 134, 3) := by decide +kernel
theorem dX0_findMove_6 : decode cX0_findMove 6 = .ok (.istore 5, 2) := by decide +kernel
theorem dX0_findMove_8 : decode cX0_findMove 8 = .ok (.iload 5, 2) := by decide +kernel
theorem dX0_findMove_10 : decode cX0_findMove 10 = .ok (.ifCond .ge 7, 3) := by decide +kernel
theorem dX0_findMove_13 : decode cX0_findMove 13 = .ok (.iconst 0, 1) := by decide +kernel
theorem dX0_findMove_14 : decode cX0_findMove 14 = .ok (.goto 10, 3) := by decide +kernel
theorem dX0_findMove_17 : decode cX0_findMove 17 = .ok (.iload 5, 2) := by decide +kernel
theorem dX0_findMove_19 : decode cX0_findMove 19 = .ok (.iload 4, 2) := by decide +kernel
theorem dX0_findMove_21 : decode cX0_findMove 21 = .ok (.iconst 1, 1) := by decide +kernel
theorem dX0_findMove_22 : decode cX0_findMove 22 = .ok (.iadd, 1) := by decide +kernel
theorem dX0_findMove_23 : decode cX0_findMove 23 = .ok (.irem, 1) := by decide +kernel
theorem dX0_findMove_24 : decode cX0_findMove 24 = .ok (.istore 6, 2) := by decide +kernel
theorem dX0_findMove_26 : decode cX0_findMove 26 = .ok (.iload 6, 2) := by decide +kernel
theorem dX0_findMove_28 : decode cX0_findMove 28 = .ok (.ifCond .ne 7, 3) := by decide +kernel
theorem dX0_findMove_31 : decode cX0_findMove 31 = .ok (.iconst (-1), 1) := by decide +kernel
theorem dX0_findMove_32 : decode cX0_findMove 32 = .ok (.goto 5, 3) := by decide +kernel
theorem dX0_findMove_35 : decode cX0_findMove 35 = .ok (.iload 6, 2) := by decide +kernel
theorem dX0_findMove_37 : decode cX0_findMove 37 = .ok (.ireturn, 1) := by decide +kernel
theorem dX0_findCrowd_0 : decode cX0_findCrowd 0 = .ok (.iconst (-1), 1) := by decide +kernel
theorem dX0_findCrowd_1 : decode cX0_findCrowd 1 = .ok (.istore_n 3, 1) := by decide +kernel
theorem dX0_findCrowd_2 : decode cX0_findCrowd 2 = .ok (.iconst 0, 1) := by decide +kernel
theorem dX0_findCrowd_3 : decode cX0_findCrowd 3 = .ok (.istore 4, 2) := by decide +kernel
theorem dX0_findCrowd_5 : decode cX0_findCrowd 5 = .ok (.iload 4, 2) := by decide +kernel
theorem dX0_findCrowd_7 : decode cX0_findCrowd 7 = .ok (.iload_n 2, 1) := by decide +kernel
theorem dX0_findCrowd_8 : decode cX0_findCrowd 8 = .ok (.if_icmp .gt 32, 3) := by decide +kernel
theorem dX0_findCrowd_11 : decode cX0_findCrowd 11 = .ok (.aload_n 1, 1) := by decide +kernel
theorem dX0_findCrowd_12 : decode cX0_findCrowd 12 = .ok (.iload 4, 2) := by decide +kernel
theorem dX0_findCrowd_14 : decode cX0_findCrowd 14 = .ok (.invokestatic 142, 3) := by decide +kernel
theorem dX0_findCrowd_17 : decode cX0_findCrowd 17 = .ok (.istore 5, 2) := by decide +kernel
theorem dX0_findCrowd_19 : decode cX0_findCrowd 19 = .ok (.iload 5, 2) := by decide +kernel
theorem dX0_findCrowd_21 : decode cX0_findCrowd 21 = .ok (.iload_n 3, 1) := by decide +kernel
theorem dX0_findCrowd_22 : decode cX0_findCrowd 22 = .ok (.if_icmp .le 12, 3) := by decide +kernel
theorem dX0_findCrowd_25 : decode cX0_findCrowd 25 = .ok (.iload 5, 2) := by decide +kernel
theorem dX0_findCrowd_27 : decode cX0_findCrowd 27 = .ok (.istore_n 3, 1) := by decide +kernel
theorem dX0_findCrowd_28 : decode cX0_findCrowd 28 = .ok (.aload_n 0, 1) := by decide +kernel
theorem dX0_findCrowd_29 : decode cX0_findCrowd 29 = .ok (.iload 4, 2) := by decide +kernel
theorem dX0_findCrowd_31 : decode cX0_findCrowd 31 = .ok (.putfield 24, 3) := by decide +kernel
theorem dX0_findCrowd_34 : decode cX0_findCrowd 34 = .ok (.iinc 4 1, 3) := by decide +kernel
theorem dX0_findCrowd_37 : decode cX0_findCrowd 37 = .ok (.goto (-32), 3) := by decide +kernel
theorem dX0_findCrowd_40 : decode cX0_findCrowd 40 = .ok (.iload_n 3, 1) := by decide +kernel
theorem dX0_findCrowd_41 : decode cX0_findCrowd 41 = .ok (.ireturn, 1) := by decide +kernel
theorem dX0_countFalling_0 : decode cX0_countFalling 0 = .ok (.iconst 0, 1) := by decide +kernel
theorem dX0_countFalling_1 : decode cX0_countFalling 1 = .ok (.istore_n 2, 1) := by decide +kernel
theorem dX0_countFalling_2 : decode cX0_countFalling 2 = .ok (.iconst 0, 1) := by decide +kernel
theorem dX0_countFalling_3 : decode cX0_countFalling 3 = .ok (.istore_n 3, 1) := by decide +kernel
theorem dX0_countFalling_4 : decode cX0_countFalling 4 = .ok (.iload_n 3, 1) := by decide +kernel
theorem dX0_countFalling_5 : decode cX0_countFalling 5 = .ok (.aload_n 0, 1) := by decide +kernel
theorem dX0_countFalling_6 : decode cX0_countFalling 6 = .ok (.getfield 27, 3) := by decide +kernel
theorem dX0_countFalling_9 : decode cX0_countFalling 9 = .ok (.getfield 145, 3) := by decide +kernel
theorem dX0_countFalling_12 : decode cX0_countFalling 12 = .ok (.if_icmp .ge 21, 3) := by decide +kernel
theorem dX0_countFalling_15 : decode cX0_countFalling 15 = .ok (.aload_n 0, 1) := by decide +kernel
theorem dX0_countFalling_16 : decode cX0_countFalling 16 = .ok (.iload_n 3, 1) := by decide +kernel
theorem dX0_countFalling_17 : decode cX0_countFalling 17 = .ok (.iload_n 1, 1) := by decide +kernel
theorem dX0_countFalling_18 : decode cX0_countFalling 18 = .ok (.invokevirtual 51, 3) := by decide +kernel
theorem dX0_countFalling_21 : decode cX0_countFalling 21 = .ok (.ifCond .eq 6, 3) := by decide +kernel
theorem dX0_countFalling_24 : decode cX0_countFalling 24 = .ok (.iinc 2 1, 3) := by decide +kernel
theorem dX0_countFalling_27 : decode cX0_countFalling 27 = .ok (.iinc 3 1, 3) := by decide +kernel
theorem dX0_countFalling_30 : decode cX0_countFalling 30 = .ok (.goto (-26), 3) := by decide +kernel
theorem dX0_countFalling_33 : decode cX0_countFalling 33 = .ok (.iload_n 2, 1) := by decide +kernel
theorem dX0_countFalling_34 : decode cX0_countFalling 34 = .ok (.ireturn, 1) := by decide +kernel
theorem dX0_findWriters_0 : decode cX0_findWriters 0 = .ok (.iconst 0, 1) := by decide +kernel
theorem dX0_findWriters_1 : decode cX0_findWriters 1 = .ok (.istore_n 3, 1) := by decide +kernel
theorem dX0_findWriters_2 : decode cX0_findWriters 2 = .ok (.iconst 0, 1) := by decide +kernel
theorem dX0_findWriters_3 : decode cX0_findWriters 3 = .ok (.istore 4, 2) := by decide +kernel
theorem dX0_findWriters_5 : decode cX0_findWriters 5 = .ok (.iload 4, 2) := by decide +kernel
theorem dX0_findWriters_7 : decode cX0_findWriters 7 = .ok (.aload_n 1, 1) := by decide +kernel
theorem dX0_findWriters_8 : decode cX0_findWriters 8 = .ok (.getfield 27, 3) := by decide +kernel
theorem dX0_findWriters_11 : decode cX0_findWriters 11 = .ok (.getfield 92, 3) := by decide +kernel
theorem dX0_findWriters_14 : decode cX0_findWriters 14 = .ok (.if_icmp .ge 43, 3) := by decide +kernel
theorem dX0_findWriters_17 : decode cX0_findWriters 17 = .ok (.aload_n 1, 1) := by decide +kernel
theorem dX0_findWriters_18 : decode cX0_findWriters 18 = .ok (.getfield 27, 3) := by decide +kernel
theorem dX0_findWriters_21 : decode cX0_findWriters 21 = .ok (.getfield 48, 3) := by decide +kernel
theorem dX0_findWriters_24 : decode cX0_findWriters 24 = .ok (.iload 4, 2) := by decide +kernel
theorem dX0_findWriters_26 : decode cX0_findWriters 26 = .ok (.aaload, 1) := by decide +kernel
theorem dX0_findWriters_27 : decode cX0_findWriters 27 = .ok (.aload_n 1, 1) := by decide +kernel
theorem dX0_findWriters_28 : decode cX0_findWriters 28 = .ok (.getfield 55, 3) := by decide +kernel
theorem dX0_findWriters_31 : decode cX0_findWriters 31 = .ok (.getfield 77, 3) := by decide +kernel
theorem dX0_findWriters_34 : decode cX0_findWriters 34 = .ok (.iload 4, 2) := by decide +kernel
theorem dX0_findWriters_36 : decode cX0_findWriters 36 = .ok (.iaload, 1) := by decide +kernel
theorem dX0_findWriters_37 : decode cX0_findWriters 37 = .ok (.aload_n 2, 1) := by decide +kernel
theorem dX0_findWriters_38 : decode cX0_findWriters 38 = .ok (.invokestatic 148, 3) := by decide +kernel
theorem dX0_findWriters_41 : decode cX0_findWriters 41 = .ok (.ifCond .eq 10, 3) := by decide +kernel
theorem dX0_findWriters_44 : decode cX0_findWriters 44 = .ok (.iload_n 3, 1) := by decide +kernel
theorem dX0_findWriters_45 : decode cX0_findWriters 45 = .ok (.iconst 1, 1) := by decide +kernel
theorem dX0_findWriters_46 : decode cX0_findWriters 46 = .ok (.iload 4, 2) := by decide +kernel
theorem dX0_findWriters_48 : decode cX0_findWriters 48 = .ok (.ishl, 1) := by decide +kernel
theorem dX0_findWriters_49 : decode cX0_findWriters 49 = .ok (.ior, 1) := by decide +kernel
theorem dX0_findWriters_50 : decode cX0_findWriters 50 = .ok (.istore_n 3, 1) := by decide +kernel
theorem dX0_findWriters_51 : decode cX0_findWriters 51 = .ok (.iinc 4 1, 3) := by decide +kernel
theorem dX0_findWriters_54 : decode cX0_findWriters 54 = .ok (.goto (-49), 3) := by decide +kernel
theorem dX0_findWriters_57 : decode cX0_findWriters 57 = .ok (.iload_n 3, 1) := by decide +kernel
theorem dX0_findWriters_58 : decode cX0_findWriters 58 = .ok (.ireturn, 1) := by decide +kernel
theorem dX0_findAgo_0 : decode cX0_findAgo 0 = .ok (.aload_n 1, 1) := by decide +kernel
theorem dX0_findAgo_1 : decode cX0_findAgo 1 = .ok (.getfield 55, 3) := by decide +kernel
theorem dX0_findAgo_4 : decode cX0_findAgo 4 = .ok (.getfield 77, 3) := by decide +kernel
theorem dX0_findAgo_7 : decode cX0_findAgo 7 = .ok (.iload_n 2, 1) := by decide +kernel
theorem dX0_findAgo_8 : decode cX0_findAgo 8 = .ok (.iaload, 1) := by decide +kernel
theorem dX0_findAgo_9 : decode cX0_findAgo 9 = .ok (.istore 4, 2) := by decide +kernel
theorem dX0_findAgo_11 : decode cX0_findAgo 11 = .ok (.iconst 0, 1) := by decide +kernel
theorem dX0_findAgo_12 : decode cX0_findAgo 12 = .ok (.istore 5, 2) := by decide +kernel
theorem dX0_findAgo_14 : decode cX0_findAgo 14 = .ok (.iload 5, 2) := by decide +kernel
theorem dX0_findAgo_16 : decode cX0_findAgo 16 = .ok (.sipush 9999, 3) := by decide +kernel
theorem dX0_findAgo_19 : decode cX0_findAgo 19 = .ok (.if_icmp .gt 40, 3) := by decide +kernel
theorem dX0_findAgo_22 : decode cX0_findAgo 22 = .ok (.iload 5, 2) := by decide +kernel
theorem dX0_findAgo_24 : decode cX0_findAgo 24 = .ok (.iload 4, 2) := by decide +kernel
theorem dX0_findAgo_26 : decode cX0_findAgo 26 = .ok (.if_icmp .gt 33, 3) := by decide +kernel
theorem dX0_findAgo_29 : decode cX0_findAgo 29 = .ok (.aload_n 1, 1) := by decide +kernel
theorem dX0_findAgo_30 : decode cX0_findAgo 30 = .ok (.getfield 27, 3) := by decide +kernel
theorem dX0_findAgo_33 : decode cX0_findAgo 33 = .ok (.getfield 48, 3) := by decide +kernel
theorem dX0_findAgo_36 : decode cX0_findAgo 36 = .ok (.iload_n 2, 1) := by decide +kernel
theorem dX0_findAgo_37 : decode cX0_findAgo 37 = .ok (.aaload, 1) := by decide +kernel
theorem dX0_findAgo_38 : decode cX0_findAgo 38 = .ok (.iload 4, 2) := by decide +kernel
theorem dX0_findAgo_40 : decode cX0_findAgo 40 = .ok (.iload 5, 2) := by decide +kernel
theorem dX0_findAgo_42 : decode cX0_findAgo 42 = .ok (.isub, 1) := by decide +kernel
theorem dX0_findAgo_43 : decode cX0_findAgo 43 = .ok (.aload_n 3, 1) := by decide +kernel
theorem dX0_findAgo_44 : decode cX0_findAgo 44 = .ok (.invokestatic 148, 3) := by decide +kernel
theorem dX0_findAgo_47 : decode cX0_findAgo 47 = .ok (.ifCond .eq 6, 3) := by decide +kernel
theorem dX0_findAgo_50 : decode cX0_findAgo 50 = .ok (.iload 5, 2) := by decide +kernel
theorem dX0_findAgo_52 : decode cX0_findAgo 52 = .ok (.ireturn, 1) := by decide +kernel
theorem dX0_findAgo_53 : decode cX0_findAgo 53 = .ok (.iinc 5 1, 3) := by decide +kernel
theorem dX0_findAgo_56 : decode cX0_findAgo 56 = .ok (.goto (-42), 3) := by decide +kernel
theorem dX0_findAgo_59 : decode cX0_findAgo 59 = .ok (.iconst (-1), 1) := by decide +kernel
theorem dX0_findAgo_60 : decode cX0_findAgo 60 = .ok (.ireturn, 1) := by decide +kernel
theorem dX0_isCalled_0 : decode cX0_isCalled 0 = .ok (.iconst 0, 1) := by decide +kernel
theorem dX0_isCalled_1 : decode cX0_isCalled 1 = .ok (.istore_n 3, 1) := by decide +kernel
theorem dX0_isCalled_2 : decode cX0_isCalled 2 = .ok (.iload_n 3, 1) := by decide +kernel
theorem dX0_isCalled_3 : decode cX0_isCalled 3 = .ok (.aload_n 2, 1) := by decide +kernel
theorem dX0_isCalled_4 : decode cX0_isCalled 4 = .ok (.arraylength, 1) := by decide +kernel
theorem dX0_isCalled_5 : decode cX0_isCalled 5 = .ok (.if_icmp .ge 34, 3) := by decide +kernel
theorem dX0_isCalled_8 : decode cX0_isCalled 8 = .ok (.aload_n 2, 1) := by decide +kernel
theorem dX0_isCalled_9 : decode cX0_isCalled 9 = .ok (.iload_n 3, 1) := by decide +kernel
theorem dX0_isCalled_10 : decode cX0_isCalled 10 = .ok (.iaload, 1) := by decide +kernel
theorem dX0_isCalled_11 : decode cX0_isCalled 11 = .ok (.sipush 255, 3) := by decide +kernel
theorem dX0_isCalled_14 : decode cX0_isCalled 14 = .ok (.if_icmp .eq 19, 3) := by decide +kernel
theorem dX0_isCalled_17 : decode cX0_isCalled 17 = .ok (.aload_n 2, 1) := by decide +kernel
theorem dX0_isCalled_18 : decode cX0_isCalled 18 = .ok (.iload_n 3, 1) := by decide +kernel
theorem dX0_isCalled_19 : decode cX0_isCalled 19 = .ok (.iaload, 1) := by decide +kernel
theorem dX0_isCalled_20 : decode cX0_isCalled 20 = .ok (.aload_n 0, 1) := by decide +kernel
theorem dX0_isCalled_21 : decode cX0_isCalled 21 = .ok (.iload_n 1, 1) := by decide +kernel
theorem dX0_isCalled_22 : decode cX0_isCalled 22 = .ok (.iload_n 3, 1) := by decide +kernel
theorem dX0_isCalled_23 : decode cX0_isCalled 23 = .ok (.iconst 1, 1) := by decide +kernel
theorem dX0_isCalled_24 : decode cX0_isCalled 24 = .ok (.iadd, 1) := by decide +kernel
theorem dX0_isCalled_25 : decode cX0_isCalled 25 = .ok (.invokevirtual 152, 3) := by decide +kernel
theorem dX0_isCalled_28 : decode cX0_isCalled 28 = .ok (.if_icmp .eq 5, 3) := by decide +kernel
theorem dX0_isCalled_31 : decode cX0_isCalled 31 = .ok (.iconst 0, 1) := by decide +kernel
theorem dX0_isCalled_32 : decode cX0_isCalled 32 = .ok (.ireturn, 1) := by decide +kernel
theorem dX0_isCalled_33 : decode cX0_isCalled 33 = .ok (.iinc 3 1, 3) := by decide +kernel
theorem dX0_isCalled_36 : decode cX0_isCalled 36 = .ok (.goto (-34), 3) := by decide +kernel
theorem dX0_isCalled_39 : decode cX0_isCalled 39 = .ok (.iconst 1, 1) := by decide +kernel
theorem dX0_isCalled_40 : decode cX0_isCalled 40 = .ok (.ireturn, 1) := by decide +kernel
theorem dX0_countAge_0 : decode cX0_countAge 0 = .ok (.aload_n 1, 1) := by decide +kernel
theorem dX0_countAge_1 : decode cX0_countAge 1 = .ok (.getfield 27, 3) := by decide +kernel
theorem dX0_countAge_4 : decode cX0_countAge 4 = .ok (.getfield 48, 3) := by decide +kernel
theorem dX0_countAge_7 : decode cX0_countAge 7 = .ok (.iload_n 2, 1) := by decide +kernel
theorem dX0_countAge_8 : decode cX0_countAge 8 = .ok (.aaload, 1) := by decide +kernel
theorem dX0_countAge_9 : decode cX0_countAge 9 = .ok (.astore 6, 2) := by decide +kernel
theorem dX0_countAge_11 : decode cX0_countAge 11 = .ok (.aload 6, 2) := by decide +kernel
theorem dX0_countAge_13 : decode cX0_countAge 13 = .ok (.iload_n 3, 1) := by decide +kernel
theorem dX0_countAge_14 : decode cX0_countAge 14 = .ok (.iload 4, 2) := by decide +kernel
theorem dX0_countAge_16 : decode cX0_countAge 16 = .ok (.iload 5, 2) := by decide +kernel
theorem dX0_countAge_18 : decode cX0_countAge 18 = .ok (.invokevirtual 155, 3) := by decide +kernel
theorem dX0_countAge_21 : decode cX0_countAge 21 = .ok (.istore 7, 2) := by decide +kernel
theorem dX0_countAge_23 : decode cX0_countAge 23 = .ok (.aload_n 1, 1) := by decide +kernel
theorem dX0_countAge_24 : decode cX0_countAge 24 = .ok (.getfield 55, 3) := by decide +kernel
theorem dX0_countAge_27 : decode cX0_countAge 27 = .ok (.getfield 77, 3) := by decide +kernel
theorem dX0_countAge_30 : decode cX0_countAge 30 = .ok (.iload_n 2, 1) := by decide +kernel
theorem dX0_countAge_31 : decode cX0_countAge 31 = .ok (.iaload, 1) := by decide +kernel
theorem dX0_countAge_32 : decode cX0_countAge 32 = .ok (.istore 8, 2) := by decide +kernel
theorem dX0_countAge_34 : decode cX0_countAge 34 = .ok (.iload 7, 2) := by decide +kernel
theorem dX0_countAge_36 : decode cX0_countAge 36 = .ok (.iconst (-1), 1) := by decide +kernel
theorem dX0_countAge_37 : decode cX0_countAge 37 = .ok (.if_icmp .eq 10, 3) := by decide +kernel
theorem dX0_countAge_40 : decode cX0_countAge 40 = .ok (.iload 7, 2) := by decide +kernel
theorem dX0_countAge_42 : decode cX0_countAge 42 = .ok (.iload 8, 2) := by decide +kernel
theorem dX0_countAge_44 : decode cX0_countAge 44 = .ok (.if_icmp .le 5, 3) := by decide +kernel
theorem dX0_countAge_47 : decode cX0_countAge 47 = .ok (.iconst (-1), 1) := by decide +kernel
theorem dX0_countAge_48 : decode cX0_countAge 48 = .ok (.ireturn, 1) := by decide +kernel
theorem dX0_countAge_49 : decode cX0_countAge 49 = .ok (.aload 6, 2) := by decide +kernel
theorem dX0_countAge_51 : decode cX0_countAge 51 = .ok (.iload 8, 2) := by decide +kernel
theorem dX0_countAge_53 : decode cX0_countAge 53 = .ok (.iload 4, 2) := by decide +kernel
theorem dX0_countAge_55 : decode cX0_countAge 55 = .ok (.iload 5, 2) := by decide +kernel
theorem dX0_countAge_57 : decode cX0_countAge 57 = .ok (.invokevirtual 71, 3) := by decide +kernel
theorem dX0_countAge_60 : decode cX0_countAge 60 = .ok (.aload 6, 2) := by decide +kernel
theorem dX0_countAge_62 : decode cX0_countAge 62 = .ok (.iload 7, 2) := by decide +kernel
theorem dX0_countAge_64 : decode cX0_countAge 64 = .ok (.iload 4, 2) := by decide +kernel
theorem dX0_countAge_66 : decode cX0_countAge 66 = .ok (.iload 5, 2) := by decide +kernel
theorem dX0_countAge_68 : decode cX0_countAge 68 = .ok (.invokevirtual 71, 3) := by decide +kernel
theorem dX0_countAge_71 : decode cX0_countAge 71 = .ok (.isub, 1) := by decide +kernel
theorem dX0_countAge_72 : decode cX0_countAge 72 = .ok (.ireturn, 1) := by decide +kernel
theorem dX0_findQuestion_0 : decode cX0_findQuestion 0 = .ok (.iconst (-1), 1) := by decide +kernel
theorem dX0_findQuestion_1 : decode cX0_findQuestion 1 = .ok (.istore_n 2, 1) := by decide +kernel
theorem dX0_findQuestion_2 : decode cX0_findQuestion 2 = .ok (.aload_n 1, 1) := by decide +kernel
theorem dX0_findQuestion_3 : decode cX0_findQuestion 3 = .ok (.getfield 27, 3) := by decide +kernel
theorem dX0_findQuestion_6 : decode cX0_findQuestion 6 = .ok (.getfield 92, 3) := by decide +kernel
theorem dX0_findQuestion_9 : decode cX0_findQuestion 9 = .ok (.istore_n 3, 1) := by decide +kernel
theorem dX0_findQuestion_10 : decode cX0_findQuestion 10 = .ok (.iconst 0, 1) := by decide +kernel
theorem dX0_findQuestion_11 : decode cX0_findQuestion 11 = .ok (.istore 4, 2) := by decide +kernel
theorem dX0_findQuestion_13 : decode cX0_findQuestion 13 = .ok (.iload 4, 2) := by decide +kernel
theorem dX0_findQuestion_15 : decode cX0_findQuestion 15 = .ok (.iconst 3, 1) := by decide +kernel
theorem dX0_findQuestion_16 : decode cX0_findQuestion 16 = .ok (.if_icmp .ge 41, 3) := by decide +kernel
theorem dX0_findQuestion_19 : decode cX0_findQuestion 19 = .ok (.aload_n 1, 1) := by decide +kernel
theorem dX0_findQuestion_20 : decode cX0_findQuestion 20 = .ok (.iload 4, 2) := by decide +kernel
theorem dX0_findQuestion_22 : decode cX0_findQuestion 22 = .ok (.iconst 1, 1) := by decide +kernel
theorem dX0_findQuestion_23 : decode cX0_findQuestion 23 = .ok (.iadd, 1) := by decide +kernel
theorem dX0_findQuestion_24 : decode cX0_findQuestion 24 = .ok (.invokestatic 158, 3) := by decide +kernel
theorem dX0_findQuestion_27 : decode cX0_findQuestion 27 = .ok (.istore 5, 2) := by decide +kernel
theorem dX0_findQuestion_29 : decode cX0_findQuestion 29 = .ok (.iload 5, 2) := by decide +kernel
theorem dX0_findQuestion_31 : decode cX0_findQuestion 31 = .ok (.ifCond .le 20, 3) := by decide +kernel
theorem dX0_findQuestion_34 : decode cX0_findQuestion 34 = .ok (.iload_n 2, 1) := by decide +kernel
theorem dX0_findQuestion_35 : decode cX0_findQuestion 35 = .ok (.iconst (-1), 1) := by decide +kernel
theorem dX0_findQuestion_36 : decode cX0_findQuestion 36 = .ok (.if_icmp .eq 9, 3) := by decide +kernel
theorem dX0_findQuestion_39 : decode cX0_findQuestion 39 = .ok (.iload 5, 2) := by decide +kernel
theorem dX0_findQuestion_41 : decode cX0_findQuestion 41 = .ok (.iload_n 3, 1) := by decide +kernel
theorem dX0_findQuestion_42 : decode cX0_findQuestion 42 = .ok (.if_icmp .ge 9, 3) := by decide +kernel
theorem dX0_findQuestion_45 : decode cX0_findQuestion 45 = .ok (.iload 4, 2) := by decide +kernel
theorem dX0_findQuestion_47 : decode cX0_findQuestion 47 = .ok (.istore_n 2, 1) := by decide +kernel
theorem dX0_findQuestion_48 : decode cX0_findQuestion 48 = .ok (.iload 5, 2) := by decide +kernel
theorem dX0_findQuestion_50 : decode cX0_findQuestion 50 = .ok (.istore_n 3, 1) := by decide +kernel
theorem dX0_findQuestion_51 : decode cX0_findQuestion 51 = .ok (.iinc 4 1, 3) := by decide +kernel
theorem dX0_findQuestion_54 : decode cX0_findQuestion 54 = .ok (.goto (-41), 3) := by decide +kernel
theorem dX0_findQuestion_57 : decode cX0_findQuestion 57 = .ok (.iload_n 2, 1) := by decide +kernel
theorem dX0_findQuestion_58 : decode cX0_findQuestion 58 = .ok (.ireturn, 1) := by decide +kernel
theorem dX0_mostLeft_0 : decode cX0_mostLeft 0 = .ok (.iconst 0, 1) := by decide +kernel
theorem dX0_mostLeft_1 : decode cX0_mostLeft 1 = .ok (.istore_n 2, 1) := by decide +kernel
theorem dX0_mostLeft_2 : decode cX0_mostLeft 2 = .ok (.iconst 0, 1) := by decide +kernel
theorem dX0_mostLeft_3 : decode cX0_mostLeft 3 = .ok (.istore_n 3, 1) := by decide +kernel
theorem dX0_mostLeft_4 : decode cX0_mostLeft 4 = .ok (.iload_n 3, 1) := by decide +kernel
theorem dX0_mostLeft_5 : decode cX0_mostLeft 5 = .ok (.aload_n 0, 1) := by decide +kernel
theorem dX0_mostLeft_6 : decode cX0_mostLeft 6 = .ok (.getfield 27, 3) := by decide +kernel
theorem dX0_mostLeft_9 : decode cX0_mostLeft 9 = .ok (.getfield 92, 3) := by decide +kernel
theorem dX0_mostLeft_12 : decode cX0_mostLeft 12 = .ok (.if_icmp .ge 96, 3) := by decide +kernel
theorem dX0_mostLeft_15 : decode cX0_mostLeft 15 = .ok (.aload_n 0, 1) := by decide +kernel
theorem dX0_mostLeft_16 : decode cX0_mostLeft 16 = .ok (.getfield 27, 3) := by decide +kernel
theorem dX0_mostLeft_19 : decode cX0_mostLeft 19 = .ok (.getfield 48, 3) := by decide +kernel
theorem dX0_mostLeft_22 : decode cX0_mostLeft 22 = .ok (.iload_n 3, 1) := by decide +kernel
theorem dX0_mostLeft_23 : decode cX0_mostLeft 23 = .ok (.aaload, 1) := by decide +kernel
theorem dX0_mostLeft_24 : decode cX0_mostLeft 24 = .ok (.aload_n 0, 1) := by decide +kernel
theorem dX0_mostLeft_25 : decode cX0_mostLeft 25 = .ok (.getfield 55, 3) := by decide +kernel
theorem dX0_mostLeft_28 : decode cX0_mostLeft 28 = .ok (.getfield 77, 3) := by decide +kernel
theorem dX0_mostLeft_31 : decode cX0_mostLeft 31 = .ok (.iload_n 3, 1) := by decide +kernel
theorem dX0_mostLeft_32 : decode cX0_mostLeft 32 = .ok (.iaload, 1) := by decide +kernel
theorem dX0_mostLeft_33 : decode cX0_mostLeft 33 = .ok (.iload_n 1, 1) := by decide +kernel
theorem dX0_mostLeft_34 : decode cX0_mostLeft 34 = .ok (.invokevirtual 152, 3) := by decide +kernel
theorem dX0_mostLeft_37 : decode cX0_mostLeft 37 = .ok (.istore 4, 2) := by decide +kernel
theorem dX0_mostLeft_39 : decode cX0_mostLeft 39 = .ok (.iconst 0, 1) := by decide +kernel
theorem dX0_mostLeft_40 : decode cX0_mostLeft 40 = .ok (.istore 5, 2) := by decide +kernel
theorem dX0_mostLeft_42 : decode cX0_mostLeft 42 = .ok (.iconst 0, 1) := by decide +kernel
theorem dX0_mostLeft_43 : decode cX0_mostLeft 43 = .ok (.istore 6, 2) := by decide +kernel
theorem dX0_mostLeft_45 : decode cX0_mostLeft 45 = .ok (.iload 6, 2) := by decide +kernel
theorem dX0_mostLeft_47 : decode cX0_mostLeft 47 = .ok (.aload_n 0, 1) := by decide +kernel
theorem dX0_mostLeft_48 : decode cX0_mostLeft 48 = .ok (.getfield 27, 3) := by decide +kernel
theorem dX0_mostLeft_51 : decode cX0_mostLeft 51 = .ok (.getfield 92, 3) := by decide +kernel
theorem dX0_mostLeft_54 : decode cX0_mostLeft 54 = .ok (.if_icmp .ge 41, 3) := by decide +kernel
theorem dX0_mostLeft_57 : decode cX0_mostLeft 57 = .ok (.aload_n 0, 1) := by decide +kernel
theorem dX0_mostLeft_58 : decode cX0_mostLeft 58 = .ok (.getfield 27, 3) := by decide +kernel
theorem dX0_mostLeft_61 : decode cX0_mostLeft 61 = .ok (.getfield 48, 3) := by decide +kernel
theorem dX0_mostLeft_64 : decode cX0_mostLeft 64 = .ok (.iload 6, 2) := by decide +kernel
theorem dX0_mostLeft_66 : decode cX0_mostLeft 66 = .ok (.aaload, 1) := by decide +kernel
theorem dX0_mostLeft_67 : decode cX0_mostLeft 67 = .ok (.aload_n 0, 1) := by decide +kernel
theorem dX0_mostLeft_68 : decode cX0_mostLeft 68 = .ok (.getfield 55, 3) := by decide +kernel
theorem dX0_mostLeft_71 : decode cX0_mostLeft 71 = .ok (.getfield 77, 3) := by decide +kernel
theorem dX0_mostLeft_74 : decode cX0_mostLeft 74 = .ok (.iload 6, 2) := by decide +kernel
theorem dX0_mostLeft_76 : decode cX0_mostLeft 76 = .ok (.iaload, 1) := by decide +kernel
theorem dX0_mostLeft_77 : decode cX0_mostLeft 77 = .ok (.iload_n 1, 1) := by decide +kernel
theorem dX0_mostLeft_78 : decode cX0_mostLeft 78 = .ok (.invokevirtual 152, 3) := by decide +kernel
theorem dX0_mostLeft_81 : decode cX0_mostLeft 81 = .ok (.iload 4, 2) := by decide +kernel
theorem dX0_mostLeft_83 : decode cX0_mostLeft 83 = .ok (.if_icmp .ne 6, 3) := by decide +kernel
theorem dX0_mostLeft_86 : decode cX0_mostLeft 86 = .ok (.iinc 5 1, 3) := by decide +kernel
theorem dX0_mostLeft_89 : decode cX0_mostLeft 89 = .ok (.iinc 6 1, 3) := by decide +kernel
theorem dX0_mostLeft_92 : decode cX0_mostLeft 92 = .ok (.goto (-47), 3) := by decide +kernel
theorem dX0_mostLeft_95 : decode cX0_mostLeft 95 = .ok (.iload_n 2, 1) := by decide +kernel
theorem dX0_mostLeft_96 : decode cX0_mostLeft 96 = .ok (.iload 5, 2) := by decide +kernel
theorem dX0_mostLeft_98 : decode cX0_mostLeft 98 = .ok (.invokestatic 161, 3) := by decide +kernel
theorem dX0_mostLeft_101 : decode cX0_mostLeft 101 = .ok (.istore_n 2, 1) := by decide +kernel
theorem dX0_mostLeft_102 : decode cX0_mostLeft 102 = .ok (.iinc 3 1, 3) := by decide +kernel
theorem dX0_mostLeft_105 : decode cX0_mostLeft 105 = .ok (.goto (-101), 3) := by decide +kernel
theorem dX0_mostLeft_108 : decode cX0_mostLeft 108 = .ok (.iload_n 2, 1) := by decide +kernel
theorem dX0_mostLeft_109 : decode cX0_mostLeft 109 = .ok (.ireturn, 1) := by decide +kernel
theorem dX0_findBirthday_0 : decode cX0_findBirthday 0 = .ok (.aload_n 1, 1) := by decide +kernel
theorem dX0_findBirthday_1 : decode cX0_findBirthday 1 = .ok (.getfield 27, 3) := by decide +kernel
theorem dX0_findBirthday_4 : decode cX0_findBirthday 4 = .ok (.getfield 48, 3) := by decide +kernel
theorem dX0_findBirthday_7 : decode cX0_findBirthday 7 = .ok (.iload_n 2, 1) := by decide +kernel
theorem dX0_findBirthday_8 : decode cX0_findBirthday 8 = .ok (.aaload, 1) := by decide +kernel
theorem dX0_findBirthday_9 : decode cX0_findBirthday 9 = .ok (.astore 4, 2) := by decide +kernel
theorem dX0_findBirthday_11 : decode cX0_findBirthday 11 = .ok (.aload_n 1, 1) := by decide +kernel
theorem dX0_findBirthday_12 : decode cX0_findBirthday 12 = .ok (.getfield 55, 3) := by decide +kernel
theorem dX0_findBirthday_15 : decode cX0_findBirthday 15 = .ok (.getfield 77, 3) := by decide +kernel
theorem dX0_findBirthday_18 : decode cX0_findBirthday 18 = .ok (.iload_n 2, 1) := by decide +kernel
theorem dX0_findBirthday_19 : decode cX0_findBirthday 19 = .ok (.iaload, 1) := by decide +kernel
theorem dX0_findBirthday_20 : decode cX0_findBirthday 20 = .ok (.istore 5, 2) := by decide +kernel
theorem dX0_findBirthday_22 : decode cX0_findBirthday 22 = .ok (.aload 4, 2) := by decide +kernel
theorem dX0_findBirthday_24 : decode cX0_findBirthday 24 = .ok (.iload 5, 2) := by decide +kernel
theorem dX0_findBirthday_26 : decode cX0_findBirthday 26 = .ok (.invokevirtual 164, 3) := by decide +kernel
theorem dX0_findBirthday_29 : decode cX0_findBirthday 29 = .ok (.ifCond .eq 11, 3) := by decide +kernel
theorem dX0_findBirthday_32 : decode cX0_findBirthday 32 = .ok (.aload 4, 2) := by decide +kernel
theorem dX0_findBirthday_34 : decode cX0_findBirthday 34 = .ok (.getfield 103, 3) := by decide +kernel
theorem dX0_findBirthday_37 : decode cX0_findBirthday 37 = .ok (.goto 4, 3) := by decide +kernel
theorem dX0_findBirthday_40 : decode cX0_findBirthday 40 = .ok (.iconst 1, 1) := by decide +kernel
theorem dX0_findBirthday_41 : decode cX0_findBirthday 41 = .ok (.istore 6, 2) := by decide +kernel
theorem dX0_findBirthday_43 : decode cX0_findBirthday 43 = .ok (.aload_n 1, 1) := by decide +kernel
theorem dX0_findBirthday_44 : decode cX0_findBirthday 44 = .ok (.getfield 55, 3) := by decide +kernel
theorem dX0_findBirthday_47 : decode cX0_findBirthday 47 = .ok (.iload_n 2, 1) := by decide +kernel
theorem dX0_findBirthday_48 : decode cX0_findBirthday 48 = .ok (.invokevirtual 81, 3) := by decide +kernel
theorem dX0_findBirthday_51 : decode cX0_findBirthday 51 = .ok (.ifCond .eq 7, 3) := by decide +kernel
theorem dX0_findBirthday_54 : decode cX0_findBirthday 54 = .ok (.iconst 1, 1) := by decide +kernel
theorem dX0_findBirthday_55 : decode cX0_findBirthday 55 = .ok (.goto 4, 3) := by decide +kernel
theorem dX0_findBirthday_58 : decode cX0_findBirthday 58 = .ok (.iconst 0, 1) := by decide +kernel
theorem dX0_findBirthday_59 : decode cX0_findBirthday 59 = .ok (.istore 7, 2) := by decide +kernel
theorem dX0_findBirthday_61 : decode cX0_findBirthday 61 = .ok (.aload 4, 2) := by decide +kernel
theorem dX0_findBirthday_63 : decode cX0_findBirthday 63 = .ok (.iload 5, 2) := by decide +kernel
theorem dX0_findBirthday_65 : decode cX0_findBirthday 65 = .ok (.invokevirtual 167, 3) := by decide +kernel
theorem dX0_findBirthday_68 : decode cX0_findBirthday 68 = .ok (.iload_n 3, 1) := by decide +kernel
theorem dX0_findBirthday_69 : decode cX0_findBirthday 69 = .ok (.iload 7, 2) := by decide +kernel
theorem dX0_findBirthday_71 : decode cX0_findBirthday 71 = .ok (.isub, 1) := by decide +kernel
theorem dX0_findBirthday_72 : decode cX0_findBirthday 72 = .ok (.iload 6, 2) := by decide +kernel
theorem dX0_findBirthday_74 : decode cX0_findBirthday 74 = .ok (.imul, 1) := by decide +kernel
theorem dX0_findBirthday_75 : decode cX0_findBirthday 75 = .ok (.iadd, 1) := by decide +kernel
theorem dX0_findBirthday_76 : decode cX0_findBirthday 76 = .ok (.istore 8, 2) := by decide +kernel
theorem dX0_findBirthday_78 : decode cX0_findBirthday 78 = .ok (.aload 4, 2) := by decide +kernel
theorem dX0_findBirthday_80 : decode cX0_findBirthday 80 = .ok (.iload 8, 2) := by decide +kernel
theorem dX0_findBirthday_82 : decode cX0_findBirthday 82 = .ok (.invokevirtual 170, 3) := by decide +kernel
theorem dX0_findBirthday_85 : decode cX0_findBirthday 85 = .ok (.aload 4, 2) := by decide +kernel
theorem dX0_findBirthday_87 : decode cX0_findBirthday 87 = .ok (.iload 5, 2) := by decide +kernel
theorem dX0_findBirthday_89 : decode cX0_findBirthday 89 = .ok (.invokevirtual 173, 3) := by decide +kernel
theorem dX0_findBirthday_92 : decode cX0_findBirthday 92 = .ok (.iadd, 1) := by decide +kernel
theorem dX0_findBirthday_93 : decode cX0_findBirthday 93 = .ok (.iload 5, 2) := by decide +kernel
theorem dX0_findBirthday_95 : decode cX0_findBirthday 95 = .ok (.isub, 1) := by decide +kernel
theorem dX0_findBirthday_96 : decode cX0_findBirthday 96 = .ok (.iload 7, 2) := by decide +kernel
theorem dX0_findBirthday_98 : decode cX0_findBirthday 98 = .ok (.iadd, 1) := by decide +kernel
theorem dX0_findBirthday_99 : decode cX0_findBirthday 99 = .ok (.istore 9, 2) := by decide +kernel
theorem dX0_findBirthday_101 : decode cX0_findBirthday 101 = .ok (.iload 9, 2) := by decide +kernel
theorem dX0_findBirthday_103 : decode cX0_findBirthday 103 = .ok (.ldc 84, 2) := by decide +kernel
theorem dX0_findBirthday_105 : decode cX0_findBirthday 105 = .ok (.if_icmp .gt 8, 3) := by decide +kernel
theorem dX0_findBirthday_108 : decode cX0_findBirthday 108 = .ok (.iload 9, 2) := by decide +kernel
theorem dX0_findBirthday_110 : decode cX0_findBirthday 110 = .ok (.goto 4, 3) := by decide +kernel
theorem dX0_findBirthday_113 : decode cX0_findBirthday 113 = .ok (.iconst (-1), 1) := by decide +kernel
theorem dX0_findBirthday_114 : decode cX0_findBirthday 114 = .ok (.ireturn, 1) := by decide +kernel
theorem flX0_27 : FL RX0 27 9 0 := ⟨RX9, TX9, 3, tyX9, cd_9, by decide, Or.inl (inr_35 _ (List.mem_of_getElem? (i := 1) rfl))⟩
theorem flX0_33 : FL RX0 33 8 1 := ⟨RX8, TX8, 7, tyX8, cd_8, by decide, Or.inl (inr_35 _ (List.mem_of_getElem? (i := 2) rfl))⟩
theorem flX0_39 : FL RX0 39 3 1 := ⟨RX3, TX3, 4, tyX3, cd_3, by decide, Or.inl (inr_35 _ (List.mem_of_getElem? (i := 3) rfl))⟩
theorem flX0_48 : FL RX0 48 8 0 := ⟨RX8, TX8, 7, tyX8, cd_8, by decide, Or.inl (inr_35 _ (List.mem_of_getElem? (i := 4) rfl))⟩
theorem flX0_55 : FL RX0 55 9 1 := ⟨RX9, TX9, 3, tyX9, cd_9, by decide, Or.inl (inr_35 _ (List.mem_of_getElem? (i := 5) rfl))⟩
theorem flX0_65 : FL RX0 65 3 2 := ⟨RX3, TX3, 4, tyX3, cd_3, by decide, Or.inl (inr_35 _ (List.mem_of_getElem? (i := 6) rfl))⟩
theorem flX0_68 : FL RX0 68 3 3 := ⟨RX3, TX3, 4, tyX3, cd_3, by decide, Or.inl (inr_35 _ (List.mem_of_getElem? (i := 7) rfl))⟩
theorem flX0_77 : FL RX0 77 2 3 := ⟨RX2, TX2, 6, tyX2, cd_2, by decide, Or.inl (inr_35 _ (List.mem_of_getElem? (i := 8) rfl))⟩
theorem flX0_92 : FL RX0 92 8 2 := ⟨RX8, TX8, 7, tyX8, cd_8, by decide, Or.inl (inr_37 _ (List.mem_of_getElem? (i := 0) rfl))⟩
theorem flX0_95 : FL RX0 95 4 4 := ⟨RX4, TX4, 7, tyX4, cd_4, by decide, Or.inr ⟨"ParishYears", inT_1 _ (List.mem_of_getElem? (i := 109) rfl)⟩⟩
theorem flX0_98 : FL RX0 98 4 2 := ⟨RX4, TX4, 7, tyX4, cd_4, by decide, Or.inr ⟨"ParishYears", inT_1 _ (List.mem_of_getElem? (i := 101) rfl)⟩⟩
theorem flX0_101 : FL RX0 101 4 3 := ⟨RX4, TX4, 7, tyX4, cd_4, by decide, Or.inr ⟨"ParishYears", inT_1 _ (List.mem_of_getElem? (i := 105) rfl)⟩⟩
theorem flX0_103 : FL RX0 103 4 6 := ⟨RX4, TX4, 7, tyX4, cd_4, by decide, Or.inr ⟨"ParishYears", inT_1 _ (List.mem_of_getElem? (i := 117) rfl)⟩⟩
theorem flX0_106 : FL RX0 106 4 5 := ⟨RX4, TX4, 7, tyX4, cd_4, by decide, Or.inr ⟨"ParishYears", inT_1 _ (List.mem_of_getElem? (i := 113) rfl)⟩⟩
theorem flX0_109 : FL RX0 109 8 5 := ⟨RX8, TX8, 7, tyX8, cd_8, by decide, Or.inl (inr_37 _ (List.mem_of_getElem? (i := 16) rfl))⟩
theorem flX0_112 : FL RX0 112 8 4 := ⟨RX8, TX8, 7, tyX8, cd_8, by decide, Or.inl (inr_37 _ (List.mem_of_getElem? (i := 17) rfl))⟩
theorem flX0_145 : FL RX0 145 8 3 := ⟨RX8, TX8, 7, tyX8, cd_8, by decide, Or.inl (inr_43 _ (List.mem_of_getElem? (i := 19) rfl))⟩
theorem fpX0_9 : FP RX0 9 0 0 .int := ⟨RX0, TX0, 5, tyX0, cd_0, by decide, (inr_6 _ (List.mem_of_getElem? (i := 0) rfl)), rfl, by decide +kernel⟩
theorem fpX0_15 : FP RX0 15 0 1 .int := ⟨RX0, TX0, 5, tyX0, cd_0, by decide, (inr_6 _ (List.mem_of_getElem? (i := 1) rfl)), rfl, by decide +kernel⟩
theorem fpX0_18 : FP RX0 18 0 2 .int := ⟨RX0, TX0, 5, tyX0, cd_0, by decide, (inr_6 _ (List.mem_of_getElem? (i := 2) rfl)), rfl, by decide +kernel⟩
theorem fpX0_21 : FP RX0 21 0 3 .int := ⟨RX0, TX0, 5, tyX0, cd_0, by decide, (inr_6 _ (List.mem_of_getElem? (i := 3) rfl)), rfl, by decide +kernel⟩
theorem fpX0_24 : FP RX0 24 0 4 .int := ⟨RX0, TX0, 5, tyX0, cd_0, by decide, (inr_6 _ (List.mem_of_getElem? (i := 4) rfl)), rfl, by decide +kernel⟩
theorem mlX0_44 : MLv RX0 44 RX8 8 yX8_hasParish cX8_hasParish 2 (some .boolean) 1 := ⟨(inr_14 _ (List.mem_of_getElem? (i := 7) rfl)), (inr_35 _ (List.mem_of_getElem? (i := 9) rfl)), (inr_14 _ (List.mem_of_getElem? (i := 5) rfl)), (inr_14 _ (List.mem_of_getElem? (i := 6) rfl)), (inr_1 _ (List.mem_of_getElem? (i := 23) rfl)), rfl, ⟨by decide, by decide, by decide +kernel⟩, by decide, by decide, rfl⟩
theorem mlX0_51 : MLv RX0 51 RX9 9 yX9_fallsOn cX9_fallsOn 4 (some .boolean) 2 := ⟨(inr_26 _ (List.mem_of_getElem? (i := 9) rfl)), (inr_35 _ (List.mem_of_getElem? (i := 10) rfl)), (inr_26 _ (List.mem_of_getElem? (i := 7) rfl)), (inr_26 _ (List.mem_of_getElem? (i := 8) rfl)), (inr_1 _ (List.mem_of_getElem? (i := 19) rfl)), rfl, ⟨by decide, by decide, by decide +kernel⟩, by decide, by decide, rfl⟩
theorem mlX0_59 : MLv RX0 59 RX2 2 yX2_countIn cX2_countIn 3 (some .int) 2 := ⟨(inr_26 _ (List.mem_of_getElem? (i := 23) rfl)), (inr_35 _ (List.mem_of_getElem? (i := 11) rfl)), (inr_26 _ (List.mem_of_getElem? (i := 21) rfl)), (inr_26 _ (List.mem_of_getElem? (i := 22) rfl)), (inr_2 _ (List.mem_of_getElem? (i := 21) rfl)), rfl, ⟨by decide, by decide, by decide +kernel⟩, by decide, by decide, rfl⟩
theorem mlX0_71 : MLv RX0 71 RX4 4 yX4_timesUpTo cX4_timesUpTo 6 (some .int) 3 := ⟨(inr_35 _ (List.mem_of_getElem? (i := 15) rfl)), (inr_35 _ (List.mem_of_getElem? (i := 12) rfl)), (inr_35 _ (List.mem_of_getElem? (i := 13) rfl)), (inr_35 _ (List.mem_of_getElem? (i := 14) rfl)), (inr_4 _ (List.mem_of_getElem? (i := 7) rfl)), rfl, ⟨by decide, by decide, by decide +kernel⟩, by decide, by decide, rfl⟩
theorem mlX0_81 : MLv RX0 81 RX2 2 yX2_isHeld cX2_isHeld 2 (some .boolean) 1 := ⟨(inr_22 _ (List.mem_of_getElem? (i := 3) rfl)), (inr_35 _ (List.mem_of_getElem? (i := 16) rfl)), (inr_22 _ (List.mem_of_getElem? (i := 1) rfl)), (inr_22 _ (List.mem_of_getElem? (i := 2) rfl)), (inr_2 _ (List.mem_of_getElem? (i := 21) rfl)), rfl, ⟨by decide, by decide, by decide +kernel⟩, by decide, by decide, rfl⟩
theorem mlX0_85 : MLv RX0 85 RX9 9 yX9_nextFrom cX9_nextFrom 7 (some .int) 2 := ⟨(inr_34 _ (List.mem_of_getElem? (i := 7) rfl)), (inr_36 _ (List.mem_of_getElem? (i := 6) rfl)), (inr_34 _ (List.mem_of_getElem? (i := 5) rfl)), (inr_34 _ (List.mem_of_getElem? (i := 6) rfl)), (inr_1 _ (List.mem_of_getElem? (i := 19) rfl)), rfl, ⟨by decide, by decide, by decide +kernel⟩, by decide, by decide, rfl⟩
theorem mlX0_88 : MLv RX0 88 RX0 0 yX0_isFair cX0_isFair 5 (some .boolean) 3 := ⟨(inr_36 _ (List.mem_of_getElem? (i := 23) rfl)), (inr_36 _ (List.mem_of_getElem? (i := 20) rfl)), (inr_36 _ (List.mem_of_getElem? (i := 21) rfl)), (inr_36 _ (List.mem_of_getElem? (i := 22) rfl)), (inr_2 _ (List.mem_of_getElem? (i := 11) rfl)), rfl, ⟨by decide, by decide, by decide +kernel⟩, by decide, by decide, rfl⟩
theorem mlX0_115 : MLs RX0 115 yX0_shared cX0_shared 6 (some .int) 2 := ⟨(inr_37 _ (List.mem_of_getElem? (i := 20) rfl)), (inr_37 _ (List.mem_of_getElem? (i := 18) rfl)), (inr_37 _ (List.mem_of_getElem? (i := 19) rfl)), (inr_2 _ (List.mem_of_getElem? (i := 11) rfl)), ⟨by decide, by decide, by decide +kernel⟩, by decide⟩
theorem mlX0_124 : MLs RX0 124 yX0_offBy cX0_offBy 6 (some .int) 4 := ⟨(inr_38 _ (List.mem_of_getElem? (i := 20) rfl)), (inr_38 _ (List.mem_of_getElem? (i := 18) rfl)), (inr_38 _ (List.mem_of_getElem? (i := 19) rfl)), (inr_2 _ (List.mem_of_getElem? (i := 11) rfl)), ⟨by decide, by decide, by decide +kernel⟩, by decide⟩
theorem mlX0_128 : MLv RX0 128 RX9 9 yX9_dateIn cX9_dateIn 3 (some .int) 2 := ⟨(inr_26 _ (List.mem_of_getElem? (i := 18) rfl)), (inr_40 _ (List.mem_of_getElem? (i := 1) rfl)), (inr_26 _ (List.mem_of_getElem? (i := 16) rfl)), (inr_26 _ (List.mem_of_getElem? (i := 17) rfl)), (inr_1 _ (List.mem_of_getElem? (i := 19) rfl)), rfl, ⟨by decide, by decide, by decide +kernel⟩, by decide, by decide, rfl⟩
theorem mlX0_131 : MLv RX0 131 RX4 4 yX4_dateAt cX4_dateAt 4 (some .int) 1 := ⟨(inr_23 _ (List.mem_of_getElem? (i := 12) rfl)), (inr_40 _ (List.mem_of_getElem? (i := 2) rfl)), (inr_23 _ (List.mem_of_getElem? (i := 10) rfl)), (inr_23 _ (List.mem_of_getElem? (i := 11) rfl)), (inr_4 _ (List.mem_of_getElem? (i := 7) rfl)), rfl, ⟨by decide, by decide, by decide +kernel⟩, by decide, by decide, rfl⟩
theorem mlX0_134 : MLs RX0 134 yX0_skipsTo cX0_skipsTo 6 (some .int) 3 := ⟨(inr_40 _ (List.mem_of_getElem? (i := 0) rfl)), (inr_39 _ (List.mem_of_getElem? (i := 22) rfl)), (inr_39 _ (List.mem_of_getElem? (i := 23) rfl)), (inr_2 _ (List.mem_of_getElem? (i := 11) rfl)), ⟨by decide, by decide, by decide +kernel⟩, by decide⟩
theorem mlX0_138 : MLs RX0 138 yX0_skipsOfAllTo cX0_skipsOfAllTo 5 (some .int) 2 := ⟨(inr_42 _ (List.mem_of_getElem? (i := 6) rfl)), (inr_42 _ (List.mem_of_getElem? (i := 4) rfl)), (inr_42 _ (List.mem_of_getElem? (i := 5) rfl)), (inr_2 _ (List.mem_of_getElem? (i := 11) rfl)), ⟨by decide, by decide, by decide +kernel⟩, by decide⟩
theorem mlX0_142 : MLs RX0 142 yX0_countFalling cX0_countFalling 4 (some .int) 2 := ⟨(inr_43 _ (List.mem_of_getElem? (i := 18) rfl)), (inr_43 _ (List.mem_of_getElem? (i := 16) rfl)), (inr_43 _ (List.mem_of_getElem? (i := 17) rfl)), (inr_2 _ (List.mem_of_getElem? (i := 11) rfl)), ⟨by decide, by decide, by decide +kernel⟩, by decide⟩
theorem mlX0_148 : MLs RX0 148 yX0_isCalled cX0_isCalled 4 (some .boolean) 3 := ⟨(inr_45 _ (List.mem_of_getElem? (i := 0) rfl)), (inr_44 _ (List.mem_of_getElem? (i := 22) rfl)), (inr_44 _ (List.mem_of_getElem? (i := 23) rfl)), (inr_2 _ (List.mem_of_getElem? (i := 11) rfl)), ⟨by decide, by decide, by decide +kernel⟩, by decide⟩
theorem mlX0_152 : MLv RX0 152 RX4 4 yX4_called cX4_called 3 (some .int) 2 := ⟨(inr_23 _ (List.mem_of_getElem? (i := 4) rfl)), (inr_45 _ (List.mem_of_getElem? (i := 1) rfl)), (inr_23 _ (List.mem_of_getElem? (i := 2) rfl)), (inr_23 _ (List.mem_of_getElem? (i := 3) rfl)), (inr_4 _ (List.mem_of_getElem? (i := 7) rfl)), rfl, ⟨by decide, by decide, by decide +kernel⟩, by decide, by decide, rfl⟩
theorem mlX0_155 : MLv RX0 155 RX4 4 yX4_countAt cX4_countAt 5 (some .int) 3 := ⟨(inr_25 _ (List.mem_of_getElem? (i := 1) rfl)), (inr_46 _ (List.mem_of_getElem? (i := 10) rfl)), (inr_24 _ (List.mem_of_getElem? (i := 23) rfl)), (inr_25 _ (List.mem_of_getElem? (i := 0) rfl)), (inr_4 _ (List.mem_of_getElem? (i := 7) rfl)), rfl, ⟨by decide, by decide, by decide +kernel⟩, by decide, by decide, rfl⟩
theorem mlX0_158 : MLs RX0 158 yX0_mostLeft cX0_mostLeft 7 (some .int) 2 := ⟨(inr_47 _ (List.mem_of_getElem? (i := 1) rfl)), (inr_46 _ (List.mem_of_getElem? (i := 23) rfl)), (inr_47 _ (List.mem_of_getElem? (i := 0) rfl)), (inr_2 _ (List.mem_of_getElem? (i := 11) rfl)), ⟨by decide, by decide, by decide +kernel⟩, by decide⟩
theorem mlX0_164 : MLv RX0 164 RX4 4 yX4_isBetween cX4_isBetween 2 (some .boolean) 1 := ⟨(inr_29 _ (List.mem_of_getElem? (i := 6) rfl)), (inr_48 _ (List.mem_of_getElem? (i := 2) rfl)), (inr_29 _ (List.mem_of_getElem? (i := 4) rfl)), (inr_29 _ (List.mem_of_getElem? (i := 5) rfl)), (inr_4 _ (List.mem_of_getElem? (i := 7) rfl)), rfl, ⟨by decide, by decide, by decide +kernel⟩, by decide, by decide, rfl⟩
theorem mlX0_167 : MLv RX0 167 RX4 4 yX4_yearAt cX4_yearAt 6 (some .int) 1 := ⟨(inr_23 _ (List.mem_of_getElem? (i := 8) rfl)), (inr_48 _ (List.mem_of_getElem? (i := 3) rfl)), (inr_23 _ (List.mem_of_getElem? (i := 6) rfl)), (inr_23 _ (List.mem_of_getElem? (i := 7) rfl)), (inr_4 _ (List.mem_of_getElem? (i := 7) rfl)), rfl, ⟨by decide, by decide, by decide +kernel⟩, by decide, by decide, rfl⟩
theorem mlX0_170 : MLv RX0 170 RX4 4 yX4_startOfYear cX4_startOfYear 2 (some .int) 1 := ⟨(inr_25 _ (List.mem_of_getElem? (i := 5) rfl)), (inr_48 _ (List.mem_of_getElem? (i := 4) rfl)), (inr_25 _ (List.mem_of_getElem? (i := 3) rfl)), (inr_25 _ (List.mem_of_getElem? (i := 4) rfl)), (inr_4 _ (List.mem_of_getElem? (i := 7) rfl)), rfl, ⟨by decide, by decide, by decide +kernel⟩, by decide, by decide, rfl⟩
theorem mlX0_173 : MLv RX0 173 RX4 4 yX4_dayInYear cX4_dayInYear 4 (some .int) 1 := ⟨(inr_23 _ (List.mem_of_getElem? (i := 16) rfl)), (inr_48 _ (List.mem_of_getElem? (i := 5) rfl)), (inr_23 _ (List.mem_of_getElem? (i := 14) rfl)), (inr_23 _ (List.mem_of_getElem? (i := 15) rfl)), (inr_4 _ (List.mem_of_getElem? (i := 7) rfl)), rfl, ⟨by decide, by decide, by decide +kernel⟩, by decide, by decide, rfl⟩
def fX0_countFalls_s113 (a0 : Nat) (a1 : Nat) (x2 : Int32) (x3 : Int32) (y5 : Int32) (y7 : Int32) (y8 : Int32)  (S : St) : Option Int32 :=
  if x3 ≤ 0 then (some ((y7 + (0 : Int32)) + y8)) else
  (if (fX2_isHeld (a1 + 15) y5 S) = 0 then (some ((y7 + (0 : Int32)) + y8)) else
  (some ((y7 + y7) + y8)))
def fX0_countFalls_s44 (a0 : Nat) (a1 : Nat) (x2 : Int32) (x3 : Int32) (b4 : Nat) (y5 : Int32) (b6 : Nat)  (S : St) : Option Int32 :=
  (fX9_fallsOn a1 x2 (0 : Int32) S).bind fun r_4 =>
  if r_4 = 0 then ((fX2_countIn (a1 + 15) y5 x3 S).bind fun r_7 =>
  (fX4_timesUpTo b6 r_7 (gI S 3 2 b4) (gI S 3 3 b4) S).bind fun r_9 =>
  if (y5 < 0 ∨ 5 ≤ y5.toNatClampNeg) then none else
  (fX4_timesUpTo b6 (gA S 15 ((a1 + 15) + 1) y5.toNatClampNeg) (gI S 3 2 b4) (gI S 3 3 b4) S).bind fun r_12 =>
  fX0_countFalls_s113 a0 a1 x2 x3 y5 (0 : Int32) (r_9 - r_12) S) else
  ((fX2_countIn (a1 + 15) y5 x3 S).bind fun r_16 =>
  (fX4_timesUpTo b6 r_16 (gI S 3 2 b4) (gI S 3 3 b4) S).bind fun r_18 =>
  if (y5 < 0 ∨ 5 ≤ y5.toNatClampNeg) then none else
  (fX4_timesUpTo b6 (gA S 15 ((a1 + 15) + 1) y5.toNatClampNeg) (gI S 3 2 b4) (gI S 3 3 b4) S).bind fun r_21 =>
  fX0_countFalls_s113 a0 a1 x2 x3 y5 (1 : Int32) (r_18 - r_21) S)
def fX0_countFalls_s18 (a0 : Nat) (a1 : Nat) (x2 : Int32) (x3 : Int32) (b4 : Nat) (y5 : Int32)  (S : St) : Option Int32 :=
  if (fX8_hasParish (a1 + 1) y5 S) = 0 then (some (-1 : Int32)) else
  (if (y5 < 0 ∨ 5 ≤ y5.toNatClampNeg) then none else
  fX0_countFalls_s44 a0 a1 x2 x3 b4 y5 (((a1 + 1) + 1) + 2 + y5.toNatClampNeg) S)
def fX0_countFalls_s11 (a0 : Nat) (a1 : Nat) (x2 : Int32) (x3 : Int32) (b4 : Nat)  (S : St) : Option Int32 :=
  fX0_countFalls_s18 a0 a1 x2 x3 b4 (gI S 3 1 b4) S
def fX0_countFalls (a0 : Nat) (a1 : Nat) (x2 : Int32) (x3 : Int32) (S : St) : Option Int32 :=
  if (x2 < 0 ∨ 6 ≤ x2.toNatClampNeg) then none else
  fX0_countFalls_s11 a0 a1 x2 x3 (((a1 + 1) + 2) + 6 + x2.toNatClampNeg) S
theorem wX0_countFalls_s113 {z : Mx} {ad : Nat → Nat} {o : Option Value × St} (X : CxOk z ad RX0 cX0_countFalls 10 (some .int) 5) (a0 : Nat) (a1 : Nat) (x2 : Int32) (x3 : Int32) (h0 : KT a0 = 0) (h1 : KT a1 = 9) (y5 : Int32) (y7 : Int32) (y8 : Int32)    (S : St) (r : Int32) (ho : o = (some (.int r), S)) (hF : fX0_countFalls_s113 a0 a1 x2 x3 y5 y7 y8  S = some r) : GW z ad o S 113 [(1, .ref (ad a1)), (3, .int x3), (5, .int y5), (7, .int y7), (8, .int y8)] [] := by
  unfold fX0_countFalls_s113 at hF
  refine g_iload_n X dX0_countFalls_113 1 rfl rfl ?_
  refine g_if_le (tgt := 134) X dX0_countFalls_114 (by decide) (fun c_14 => ?_) (fun c_14 => ?_)
  · rw [if_pos c_14] at hF
    refine g_iconst (v := 0) X dX0_countFalls_134 (by decide) ?_
    refine g_istore X dX0_countFalls_135 (by decide) (lv' := [(9, .int (0 : Int32)), (1, .ref (ad a1)), (3, .int x3), (5, .int y5), (7, .int y7), (8, .int y8)]) rfl ?_
    refine g_iload X dX0_countFalls_137 4 rfl ?_
    refine g_iload X dX0_countFalls_139 0 rfl ?_
    refine g_iadd X dX0_countFalls_141 ?_
    refine g_iload X dX0_countFalls_142 5 rfl ?_
    refine g_iadd X dX0_countFalls_144 ?_
    have hF := Option.some.inj hF
    subst hF
    exact g_iret X dX0_countFalls_145 ho
  · rw [if_neg c_14] at hF
    refine g_aload_n X dX0_countFalls_117 0 rfl rfl ?_
    refine g_getR (f := 15) X dX0_countFalls_118 flX0_55 rfl rfl h1 ?_
    refine g_iload X dX0_countFalls_121 2 rfl ?_
    refine g_callVi (As := [.int y5]) X dX0_countFalls_123 mlX0_81 (fun l D cyy => tX2_isHeld (cx_inj X) l D cyy (a1 + 15) y5 (on_9_1 h1) S) (on_9_1 h1) (by decide) rfl rfl (Nat.le_of_ble_eq_true rfl) ?_
    refine g_if_eq (tgt := 134) X dX0_countFalls_126 (by decide) (fun c_15 => ?_) (fun c_15 => ?_)
    · rw [if_pos c_15] at hF
      refine g_iconst (v := 0) X dX0_countFalls_134 (by decide) ?_
      refine g_istore X dX0_countFalls_135 (by decide) (lv' := [(9, .int (0 : Int32)), (1, .ref (ad a1)), (3, .int x3), (5, .int y5), (7, .int y7), (8, .int y8)]) rfl ?_
      refine g_iload X dX0_countFalls_137 4 rfl ?_
      refine g_iload X dX0_countFalls_139 0 rfl ?_
      refine g_iadd X dX0_countFalls_141 ?_
      refine g_iload X dX0_countFalls_142 5 rfl ?_
      refine g_iadd X dX0_countFalls_144 ?_
      have hF := Option.some.inj hF
      subst hF
      exact g_iret X dX0_countFalls_145 ho
    · rw [if_neg c_15] at hF
      refine g_iload X dX0_countFalls_129 3 rfl ?_
      refine g_goto (tgt := 135) X dX0_countFalls_131 (by decide) ?_
      refine g_istore X dX0_countFalls_135 (by decide) (lv' := [(9, .int y7), (1, .ref (ad a1)), (3, .int x3), (5, .int y5), (7, .int y7), (8, .int y8)]) rfl ?_
      refine g_iload X dX0_countFalls_137 4 rfl ?_
      refine g_iload X dX0_countFalls_139 0 rfl ?_
      refine g_iadd X dX0_countFalls_141 ?_
      refine g_iload X dX0_countFalls_142 5 rfl ?_
      refine g_iadd X dX0_countFalls_144 ?_
      have hF := Option.some.inj hF
      subst hF
      exact g_iret X dX0_countFalls_145 ho
theorem wX0_countFalls_s44 {z : Mx} {ad : Nat → Nat} {o : Option Value × St} (X : CxOk z ad RX0 cX0_countFalls 10 (some .int) 5) (a0 : Nat) (a1 : Nat) (x2 : Int32) (x3 : Int32) (h0 : KT a0 = 0) (h1 : KT a1 = 9) (b4 : Nat) (y5 : Int32) (b6 : Nat)  (g4 : KT b4 = 3) (g6 : KT b6 = 4)  (S : St) (r : Int32) (ho : o = (some (.int r), S)) (hF : fX0_countFalls_s44 a0 a1 x2 x3 b4 y5 b6  S = some r) : GW z ad o S 44 [(1, .ref (ad a1)), (2, .int x2), (3, .int x3), (4, .ref (ad b4)), (5, .int y5), (6, .ref (ad b6))] [] := by
  unfold fX0_countFalls_s44 at hF
  refine g_aload_n X dX0_countFalls_44 0 rfl rfl ?_
  refine g_iload_n X dX0_countFalls_45 1 rfl rfl ?_
  refine g_iconst (v := 0) X dX0_countFalls_46 (by decide) ?_
  obtain ⟨r_4, q_5, hF⟩ := obind hF
  refine g_callVi (As := [.int x2, .int (0 : Int32)]) X dX0_countFalls_47 mlX0_51 (fun l D cyy => tX9_fallsOn (cx_inj X) l D cyy a1 x2 (0 : Int32) h1 S r_4 q_5) h1 (by decide) rfl rfl (Nat.le_of_ble_eq_true rfl) ?_
  refine g_if_eq (tgt := 57) X dX0_countFalls_50 (by decide) (fun c_6 => ?_) (fun c_6 => ?_)
  · rw [if_pos c_6] at hF
    refine g_iconst (v := 0) X dX0_countFalls_57 (by decide) ?_
    refine g_istore X dX0_countFalls_58 (by decide) (lv' := [(7, .int (0 : Int32)), (1, .ref (ad a1)), (2, .int x2), (3, .int x3), (4, .ref (ad b4)), (5, .int y5), (6, .ref (ad b6))]) rfl ?_
    refine g_aload X dX0_countFalls_60 6 rfl ?_
    refine g_aload_n X dX0_countFalls_62 1 rfl rfl ?_
    refine g_getR (f := 15) X dX0_countFalls_63 flX0_55 rfl rfl h1 ?_
    refine g_iload X dX0_countFalls_66 5 rfl ?_
    refine g_iload_n X dX0_countFalls_68 3 rfl rfl ?_
    obtain ⟨r_7, q_8, hF⟩ := obind hF
    refine g_callVi (As := [.int y5, .int x3]) X dX0_countFalls_69 mlX0_59 (fun l D cyy => tX2_countIn (cx_inj X) l D cyy (a1 + 15) y5 x3 (on_9_1 h1) S r_7 q_8) (on_9_1 h1) (by decide) rfl rfl (Nat.le_of_ble_eq_true rfl) ?_
    refine g_aload X dX0_countFalls_72 4 rfl ?_
    refine g_getI X dX0_countFalls_74 flX0_65 rfl g4 ?_
    refine g_aload X dX0_countFalls_77 4 rfl ?_
    refine g_getI X dX0_countFalls_79 flX0_68 rfl g4 ?_
    obtain ⟨r_9, q_10, hF⟩ := obind hF
    refine g_callVi (As := [.int r_7, .int (gI S 3 2 b4), .int (gI S 3 3 b4)]) X dX0_countFalls_82 mlX0_71 (fun l D cyy => tX4_timesUpTo (cx_inj X) l D cyy b6 r_7 (gI S 3 2 b4) (gI S 3 3 b4) g6 S r_9 q_10) g6 (by decide) rfl rfl (Nat.le_of_ble_eq_true rfl) ?_
    refine g_aload X dX0_countFalls_85 6 rfl ?_
    refine g_aload_n X dX0_countFalls_87 1 rfl rfl ?_
    refine g_getR (f := 15) X dX0_countFalls_88 flX0_55 rfl rfl h1 ?_
    refine g_getR (f := 1) X dX0_countFalls_91 flX0_77 rfl rfl (on_9_1 h1) ?_
    refine g_iload X dX0_countFalls_94 5 rfl ?_
    obtain ⟨e_11, hF⟩ := oguard hF
    refine g_iald X dX0_countFalls_96 kd_15 (on_2_3 (on_9_1 h1)) e_11 ?_
    refine g_aload X dX0_countFalls_97 4 rfl ?_
    refine g_getI X dX0_countFalls_99 flX0_65 rfl g4 ?_
    refine g_aload X dX0_countFalls_102 4 rfl ?_
    refine g_getI X dX0_countFalls_104 flX0_68 rfl g4 ?_
    obtain ⟨r_12, q_13, hF⟩ := obind hF
    refine g_callVi (As := [.int (gA S 15 ((a1 + 15) + 1) y5.toNatClampNeg), .int (gI S 3 2 b4), .int (gI S 3 3 b4)]) X dX0_countFalls_107 mlX0_71 (fun l D cyy => tX4_timesUpTo (cx_inj X) l D cyy b6 (gA S 15 ((a1 + 15) + 1) y5.toNatClampNeg) (gI S 3 2 b4) (gI S 3 3 b4) g6 S r_12 q_13) g6 (by decide) rfl rfl (Nat.le_of_ble_eq_true rfl) ?_
    refine g_isub X dX0_countFalls_110 ?_
    refine g_istore X dX0_countFalls_111 (by decide) (lv' := [(8, .int (r_9 - r_12)), (7, .int (0 : Int32)), (1, .ref (ad a1)), (2, .int x2), (3, .int x3), (4, .ref (ad b4)), (5, .int y5), (6, .ref (ad b6))]) rfl ?_
    exact g_perm [2, 4, 6, 1, 0] rfl (wX0_countFalls_s113 X a0 a1 x2 x3 h0 h1 y5 (0 : Int32) (r_9 - r_12) S r ho hF)
  · rw [if_neg c_6] at hF
    refine g_iconst (v := 1) X dX0_countFalls_53 (by decide) ?_
    refine g_goto (tgt := 58) X dX0_countFalls_54 (by decide) ?_
    refine g_istore X dX0_countFalls_58 (by decide) (lv' := [(7, .int (1 : Int32)), (1, .ref (ad a1)), (2, .int x2), (3, .int x3), (4, .ref (ad b4)), (5, .int y5), (6, .ref (ad b6))]) rfl ?_
    refine g_aload X dX0_countFalls_60 6 rfl ?_
    refine g_aload_n X dX0_countFalls_62 1 rfl rfl ?_
    refine g_getR (f := 15) X dX0_countFalls_63 flX0_55 rfl rfl h1 ?_
    refine g_iload X dX0_countFalls_66 5 rfl ?_
    refine g_iload_n X dX0_countFalls_68 3 rfl rfl ?_
    obtain ⟨r_16, q_17, hF⟩ := obind hF
    refine g_callVi (As := [.int y5, .int x3]) X dX0_countFalls_69 mlX0_59 (fun l D cyy => tX2_countIn (cx_inj X) l D cyy (a1 + 15) y5 x3 (on_9_1 h1) S r_16 q_17) (on_9_1 h1) (by decide) rfl rfl (Nat.le_of_ble_eq_true rfl) ?_
    refine g_aload X dX0_countFalls_72 4 rfl ?_
    refine g_getI X dX0_countFalls_74 flX0_65 rfl g4 ?_
    refine g_aload X dX0_countFalls_77 4 rfl ?_
    refine g_getI X dX0_countFalls_79 flX0_68 rfl g4 ?_
    obtain ⟨r_18, q_19, hF⟩ := obind hF
    refine g_callVi (As := [.int r_16, .int (gI S 3 2 b4), .int (gI S 3 3 b4)]) X dX0_countFalls_82 mlX0_71 (fun l D cyy => tX4_timesUpTo (cx_inj X) l D cyy b6 r_16 (gI S 3 2 b4) (gI S 3 3 b4) g6 S r_18 q_19) g6 (by decide) rfl rfl (Nat.le_of_ble_eq_true rfl) ?_
    refine g_aload X dX0_countFalls_85 6 rfl ?_
    refine g_aload_n X dX0_countFalls_87 1 rfl rfl ?_
    refine g_getR (f := 15) X dX0_countFalls_88 flX0_55 rfl rfl h1 ?_
    refine g_getR (f := 1) X dX0_countFalls_91 flX0_77 rfl rfl (on_9_1 h1) ?_
    refine g_iload X dX0_countFalls_94 5 rfl ?_
    obtain ⟨e_20, hF⟩ := oguard hF
    refine g_iald X dX0_countFalls_96 kd_15 (on_2_3 (on_9_1 h1)) e_20 ?_
    refine g_aload X dX0_countFalls_97 4 rfl ?_
    refine g_getI X dX0_countFalls_99 flX0_65 rfl g4 ?_
    refine g_aload X dX0_countFalls_102 4 rfl ?_
    refine g_getI X dX0_countFalls_104 flX0_68 rfl g4 ?_
    obtain ⟨r_21, q_22, hF⟩ := obind hF
    refine g_callVi (As := [.int (gA S 15 ((a1 + 15) + 1) y5.toNatClampNeg), .int (gI S 3 2 b4), .int (gI S 3 3 b4)]) X dX0_countFalls_107 mlX0_71 (fun l D cyy => tX4_timesUpTo (cx_inj X) l D cyy b6 (gA S 15 ((a1 + 15) + 1) y5.toNatClampNeg) (gI S 3 2 b4) (gI S 3 3 b4) g6 S r_21 q_22) g6 (by decide) rfl rfl (Nat.le_of_ble_eq_true rfl) ?_
    refine g_isub X dX0_countFalls_110 ?_
    refine g_istore X dX0_countFalls_111 (by decide) (lv' := [(8, .int (r_18 - r_21)), (7, .int (1 : Int32)), (1, .ref (ad a1)), (2, .int x2), (3, .int x3), (4, .ref (ad b4)), (5, .int y5), (6, .ref (ad b6))]) rfl ?_
    exact g_perm [2, 4, 6, 1, 0] rfl (wX0_countFalls_s113 X a0 a1 x2 x3 h0 h1 y5 (1 : Int32) (r_18 - r_21) S r ho hF)
theorem wX0_countFalls_s18 {z : Mx} {ad : Nat → Nat} {o : Option Value × St} (X : CxOk z ad RX0 cX0_countFalls 10 (some .int) 5) (a0 : Nat) (a1 : Nat) (x2 : Int32) (x3 : Int32) (h0 : KT a0 = 0) (h1 : KT a1 = 9) (b4 : Nat) (y5 : Int32)  (g4 : KT b4 = 3)  (S : St) (r : Int32) (ho : o = (some (.int r), S)) (hF : fX0_countFalls_s18 a0 a1 x2 x3 b4 y5  S = some r) : GW z ad o S 18 [(1, .ref (ad a1)), (2, .int x2), (3, .int x3), (4, .ref (ad b4)), (5, .int y5)] [] := by
  unfold fX0_countFalls_s18 at hF
  refine g_aload_n X dX0_countFalls_18 0 rfl rfl ?_
  refine g_getR (f := 1) X dX0_countFalls_19 flX0_27 rfl rfl h1 ?_
  refine g_iload X dX0_countFalls_22 4 rfl ?_
  refine g_callVi (As := [.int y5]) X dX0_countFalls_24 mlX0_44 (fun l D cyy => tX8_hasParish (cx_inj X) l D cyy (a1 + 1) y5 (on_9_0 h1) S) (on_9_0 h1) (by decide) rfl rfl (Nat.le_of_ble_eq_true rfl) ?_
  refine g_if_ne (tgt := 32) X dX0_countFalls_27 (by decide) (fun c_2 => ?_) (fun c_2 => ?_)
  · rw [if_neg c_2] at hF
    refine g_aload_n X dX0_countFalls_32 0 rfl rfl ?_
    refine g_getR (f := 1) X dX0_countFalls_33 flX0_27 rfl rfl h1 ?_
    refine g_getR (f := 1) X dX0_countFalls_36 flX0_48 rfl rfl (on_9_0 h1) ?_
    refine g_iload X dX0_countFalls_39 4 rfl ?_
    obtain ⟨e_3, hF⟩ := oguard hF
    refine g_aaldP X dX0_countFalls_41 (on_8_0 (on_9_0 h1)) rfl e_3 ?_
    refine g_astore X dX0_countFalls_42 (by decide) (lv' := [(6, .ref (ad (((a1 + 1) + 1) + 2 + y5.toNatClampNeg))), (1, .ref (ad a1)), (2, .int x2), (3, .int x3), (4, .ref (ad b4)), (5, .int y5)]) rfl ?_
    exact g_perm [1, 2, 3, 4, 5, 0] rfl (wX0_countFalls_s44 X a0 a1 x2 x3 h0 h1 b4 y5 (((a1 + 1) + 1) + 2 + y5.toNatClampNeg) g4 (on_p (on_8_0 (on_9_0 h1)) (inb e_3)) S r ho hF)
  · rw [if_pos c_2] at hF
    refine g_iconst (v := -1) X dX0_countFalls_30 (by decide) ?_
    have hF := Option.some.inj hF
    subst hF
    exact g_iret X dX0_countFalls_31 ho
theorem wX0_countFalls_s11 {z : Mx} {ad : Nat → Nat} {o : Option Value × St} (X : CxOk z ad RX0 cX0_countFalls 10 (some .int) 5) (a0 : Nat) (a1 : Nat) (x2 : Int32) (x3 : Int32) (h0 : KT a0 = 0) (h1 : KT a1 = 9) (b4 : Nat)  (g4 : KT b4 = 3)  (S : St) (r : Int32) (ho : o = (some (.int r), S)) (hF : fX0_countFalls_s11 a0 a1 x2 x3 b4  S = some r) : GW z ad o S 11 [(1, .ref (ad a1)), (2, .int x2), (3, .int x3), (4, .ref (ad b4))] [] := by
  unfold fX0_countFalls_s11 at hF
  refine g_aload X dX0_countFalls_11 3 rfl ?_
  refine g_getI X dX0_countFalls_13 flX0_39 rfl g4 ?_
  refine g_istore X dX0_countFalls_16 (by decide) (lv' := [(5, .int (gI S 3 1 b4)), (1, .ref (ad a1)), (2, .int x2), (3, .int x3), (4, .ref (ad b4))]) rfl ?_
  exact g_perm [1, 2, 3, 4, 0] rfl (wX0_countFalls_s18 X a0 a1 x2 x3 h0 h1 b4 (gI S 3 1 b4) g4 S r ho hF)
theorem wX0_countFalls {z : Mx} {ad : Nat → Nat} {o : Option Value × St} (X : CxOk z ad RX0 cX0_countFalls 10 (some .int) 5) (a0 : Nat) (a1 : Nat) (x2 : Int32) (x3 : Int32) (h0 : KT a0 = 0) (h1 : KT a1 = 9) (S : St) (r : Int32) (ho : o = (some (.int r), S)) (hF : fX0_countFalls a0 a1 x2 x3 S = some r) : GW z ad o S 0 [(0, .ref (ad a0)), (1, .ref (ad a1)), (2, .int x2), (3, .int x3)] [] := by
  unfold fX0_countFalls at hF
  refine g_aload_n X dX0_countFalls_0 1 rfl rfl ?_
  refine g_getR (f := 1) X dX0_countFalls_1 flX0_27 rfl rfl h1 ?_
  refine g_getR (f := 2) X dX0_countFalls_4 flX0_33 rfl rfl (on_9_0 h1) ?_
  refine g_iload_n X dX0_countFalls_7 2 rfl rfl ?_
  obtain ⟨e_1, hF⟩ := oguard hF
  refine g_aaldF X dX0_countFalls_8 (on_8_1 (on_9_0 h1)) rfl e_1 ?_
  refine g_astore X dX0_countFalls_9 (by decide) (lv' := [(4, .ref (ad (((a1 + 1) + 2) + 6 + x2.toNatClampNeg))), (0, .ref (ad a0)), (1, .ref (ad a1)), (2, .int x2), (3, .int x3)]) rfl ?_
  exact g_perm [2, 3, 4, 0] rfl (wX0_countFalls_s11 X a0 a1 x2 x3 h0 h1 (((a1 + 1) + 2) + 6 + x2.toNatClampNeg) (on_f (on_8_1 (on_9_0 h1)) (inb e_1)) S r ho hF)
theorem tX0_countFalls {ad : Nat → Nat} (hI : Inj ad) (l : Launch) (D : va_G) (cyy : Nat → ClassId) (a0 : Nat) (a1 : Nat) (x2 : Int32) (x3 : Int32) (h0 : KT a0 = 0) (h1 : KT a1 = 9) (S : St) (r : Int32) (hF : fX0_countFalls a0 a1 x2 x3 S = some r) : OkM l yX0_countFalls cX0_countFalls 10 (some .int) 5 ad D cyy [.ref (ad a0), .ref (ad a1), .int x2, .int x3] S (some (.int r), S) := okM_of hI (by decide) (inr_35 _ (List.mem_of_getElem? (i := 0) rfl)) (by show _ ≤ 10; exact Nat.le_of_ble_eq_true rfl) (fun z X => wX0_countFalls X a0 a1 x2 x3 h0 h1 S r rfl hF)
def fX0_findMeeting_s6 (k6 : Int32 → Int32 → Option Int32) (a0 : Nat) (a1 : Nat) (x2 : Int32) (x3 : Int32) (y4 : Int32) (y5 : Int32)  (S : St) : Option Int32 :=
  if (99999 : Int32) < y5 then (some (-1 : Int32)) else
  ((fX9_nextFrom a1 x2 y4 S).bind fun r_2 =>
  (fX9_nextFrom a1 x3 r_2 S).bind fun r_4 =>
  if (99999 : Int32) < r_2 then (some (-1 : Int32)) else
  (if r_4 ≤ (99999 : Int32) then (if r_2 = r_4 then (some r_2) else
  (k6 r_4 (y5 + (1 : Int32)))) else
  (some (-1 : Int32))))
def fX0_findMeeting_h6 (a0 : Nat) (a1 : Nat) (x2 : Int32) (x3 : Int32) : Nat → Int32 → Int32 → St → Option Int32
  | 0, _, _, _ => none
  | n + 1, y4, y5, S => fX0_findMeeting_s6 (fun y4 y5 => fX0_findMeeting_h6 a0 a1 x2 x3 n y4 y5 S) a0 a1 x2 x3 y4 y5 S
def fX0_findMeeting (a0 : Nat) (a1 : Nat) (x2 : Int32) (x3 : Int32) (S : St) : Option Int32 :=
  fX0_findMeeting_h6 a0 a1 x2 x3 NN (0 : Int32) (0 : Int32) S
theorem wX0_findMeeting_s6 {z : Mx} {ad : Nat → Nat} {o : Option Value × St} (X : CxOk z ad RX0 cX0_findMeeting 8 (some .int) 5) (a0 : Nat) (a1 : Nat) (x2 : Int32) (x3 : Int32) (h0 : KT a0 = 0) (h1 : KT a1 = 9) (y4 : Int32) (y5 : Int32)  (k6 : Int32 → Int32 → Option Int32)   (S : St) (r : Int32) (ho : o = (some (.int r), S)) (hk6 : ∀ (y4 : Int32) (y5 : Int32), k6 y4 y5 = some r → GW z ad o S 6 [(1, .ref (ad a1)), (2, .int x2), (3, .int x3), (4, .int y4), (5, .int y5)] []) (hF : fX0_findMeeting_s6 k6 a0 a1 x2 x3 y4 y5  S = some r) : GW z ad o S 6 [(1, .ref (ad a1)), (2, .int x2), (3, .int x3), (4, .int y4), (5, .int y5)] [] := by
  unfold fX0_findMeeting_s6 at hF
  refine g_iload X dX0_findMeeting_6 4 rfl ?_
  refine g_ldc (v := 99999) X dX0_findMeeting_8 (inr_36 _ (List.mem_of_getElem? (i := 5) rfl)) ?_
  refine g_icmp_gt (tgt := 67) X dX0_findMeeting_10 (by decide) (fun c_1 => ?_) (fun c_1 => ?_)
  · rw [if_pos c_1] at hF
    refine g_iconst (v := -1) X dX0_findMeeting_67 (by decide) ?_
    have hF := Option.some.inj hF
    subst hF
    exact g_iret X dX0_findMeeting_68 ho
  · rw [if_neg c_1] at hF
    refine g_aload_n X dX0_findMeeting_13 0 rfl rfl ?_
    refine g_iload_n X dX0_findMeeting_14 1 rfl rfl ?_
    refine g_iload X dX0_findMeeting_15 3 rfl ?_
    obtain ⟨r_2, q_3, hF⟩ := obind hF
    refine g_callVi (As := [.int x2, .int y4]) X dX0_findMeeting_17 mlX0_85 (fun l D cyy => tX9_nextFrom (cx_inj X) l D cyy a1 x2 y4 h1 S r_2 q_3) h1 (by decide) rfl rfl (Nat.le_of_ble_eq_true rfl) ?_
    refine g_istore X dX0_findMeeting_20 (by decide) (lv' := [(6, .int r_2), (1, .ref (ad a1)), (2, .int x2), (3, .int x3), (4, .int y4), (5, .int y5)]) rfl ?_
    refine g_aload_n X dX0_findMeeting_22 1 rfl rfl ?_
    refine g_iload_n X dX0_findMeeting_23 3 rfl rfl ?_
    refine g_iload X dX0_findMeeting_24 0 rfl ?_
    obtain ⟨r_4, q_5, hF⟩ := obind hF
    refine g_callVi (As := [.int x3, .int r_2]) X dX0_findMeeting_26 mlX0_85 (fun l D cyy => tX9_nextFrom (cx_inj X) l D cyy a1 x3 r_2 h1 S r_4 q_5) h1 (by decide) rfl rfl (Nat.le_of_ble_eq_true rfl) ?_
    refine g_istore X dX0_findMeeting_29 (by decide) (lv' := [(7, .int r_4), (6, .int r_2), (1, .ref (ad a1)), (2, .int x2), (3, .int x3), (4, .int y4), (5, .int y5)]) rfl ?_
    refine g_iload X dX0_findMeeting_31 1 rfl ?_
    refine g_ldc (v := 99999) X dX0_findMeeting_33 (inr_36 _ (List.mem_of_getElem? (i := 5) rfl)) ?_
    refine g_icmp_gt (tgt := 45) X dX0_findMeeting_35 (by decide) (fun c_6 => ?_) (fun c_6 => ?_)
    · rw [if_pos c_6] at hF
      refine g_iconst (v := -1) X dX0_findMeeting_45 (by decide) ?_
      have hF := Option.some.inj hF
      subst hF
      exact g_iret X dX0_findMeeting_46 ho
    · rw [if_neg c_6] at hF
      refine g_iload X dX0_findMeeting_38 0 rfl ?_
      refine g_ldc (v := 99999) X dX0_findMeeting_40 (inr_36 _ (List.mem_of_getElem? (i := 5) rfl)) ?_
      refine g_icmp_le (tgt := 47) X dX0_findMeeting_42 (by decide) (fun c_7 => ?_) (fun c_7 => ?_)
      · rw [if_pos c_7] at hF
        refine g_iload X dX0_findMeeting_47 1 rfl ?_
        refine g_iload X dX0_findMeeting_49 0 rfl ?_
        refine g_icmp_ne (tgt := 57) X dX0_findMeeting_51 (by decide) (fun c_8 => ?_) (fun c_8 => ?_)
        · rw [if_neg c_8] at hF
          refine g_iload X dX0_findMeeting_57 0 rfl ?_
          refine g_istore X dX0_findMeeting_59 (by decide) (lv' := [(4, .int r_4), (7, .int r_4), (6, .int r_2), (1, .ref (ad a1)), (2, .int x2), (3, .int x3), (5, .int y5)]) rfl ?_
          refine g_iinc (v := (y5 + (1 : Int32))) X dX0_findMeeting_61 6 rfl rfl (by decide) (lv' := [(5, .int (y5 + (1 : Int32))), (4, .int r_4), (7, .int r_4), (6, .int r_2), (1, .ref (ad a1)), (2, .int x2), (3, .int x3)]) rfl ?_
          refine g_goto (tgt := 6) X dX0_findMeeting_64 (by decide) ?_
          exact g_perm [4, 5, 6, 1, 0] rfl (hk6 r_4 (y5 + (1 : Int32)) hF)
        · rw [if_pos c_8] at hF
          refine g_iload X dX0_findMeeting_54 1 rfl ?_
          have hF := Option.some.inj hF
          subst hF
          exact g_iret X dX0_findMeeting_56 ho
      · rw [if_neg c_7] at hF
        refine g_iconst (v := -1) X dX0_findMeeting_45 (by decide) ?_
        have hF := Option.some.inj hF
        subst hF
        exact g_iret X dX0_findMeeting_46 ho
theorem wX0_findMeeting_h6 {z : Mx} {ad : Nat → Nat} {o : Option Value × St} (X : CxOk z ad RX0 cX0_findMeeting 8 (some .int) 5) (a0 : Nat) (a1 : Nat) (x2 : Int32) (x3 : Int32) (h0 : KT a0 = 0) (h1 : KT a1 = 9)  (S : St) (r : Int32) (ho : o = (some (.int r), S)) : ∀ (n : Nat) (y4 : Int32) (y5 : Int32), fX0_findMeeting_h6 a0 a1 x2 x3 n y4 y5 S = some r → GW z ad o S 6 [(1, .ref (ad a1)), (2, .int x2), (3, .int x3), (4, .int y4), (5, .int y5)] [] := by
  intro n
  induction n with
  | zero => intro y4 y5  hF; cases hF
  | succ n ih => intro y4 y5  hF; exact wX0_findMeeting_s6 X a0 a1 x2 x3 h0 h1 y4 y5 (fun y4 y5 => fX0_findMeeting_h6 a0 a1 x2 x3 n y4 y5 S)  S r ho (fun y4 y5 hF => ih y4 y5  hF) hF
theorem wX0_findMeeting {z : Mx} {ad : Nat → Nat} {o : Option Value × St} (X : CxOk z ad RX0 cX0_findMeeting 8 (some .int) 5) (a0 : Nat) (a1 : Nat) (x2 : Int32) (x3 : Int32) (h0 : KT a0 = 0) (h1 : KT a1 = 9) (S : St) (r : Int32) (ho : o = (some (.int r), S)) (hF : fX0_findMeeting a0 a1 x2 x3 S = some r) : GW z ad o S 0 [(0, .ref (ad a0)), (1, .ref (ad a1)), (2, .int x2), (3, .int x3)] [] := by
  unfold fX0_findMeeting at hF
  refine g_iconst (v := 0) X dX0_findMeeting_0 (by decide) ?_
  refine g_istore X dX0_findMeeting_1 (by decide) (lv' := [(4, .int (0 : Int32)), (0, .ref (ad a0)), (1, .ref (ad a1)), (2, .int x2), (3, .int x3)]) rfl ?_
  refine g_iconst (v := 0) X dX0_findMeeting_3 (by decide) ?_
  refine g_istore X dX0_findMeeting_4 (by decide) (lv' := [(5, .int (0 : Int32)), (4, .int (0 : Int32)), (0, .ref (ad a0)), (1, .ref (ad a1)), (2, .int x2), (3, .int x3)]) rfl ?_
  exact g_perm [3, 4, 5, 1, 0] rfl (wX0_findMeeting_h6 X a0 a1 x2 x3 h0 h1 S r ho NN (0 : Int32) (0 : Int32) hF)
theorem tX0_findMeeting {ad : Nat → Nat} (hI : Inj ad) (l : Launch) (D : va_G) (cyy : Nat → ClassId) (a0 : Nat) (a1 : Nat) (x2 : Int32) (x3 : Int32) (h0 : KT a0 = 0) (h1 : KT a1 = 9) (S : St) (r : Int32) (hF : fX0_findMeeting a0 a1 x2 x3 S = some r) : OkM l yX0_findMeeting cX0_findMeeting 8 (some .int) 5 ad D cyy [.ref (ad a0), .ref (ad a1), .int x2, .int x3] S (some (.int r), S) := okM_of hI (by decide) (inr_36 _ (List.mem_of_getElem? (i := 4) rfl)) (by show _ ≤ 8; exact Nat.le_of_ble_eq_true rfl) (fun z X => wX0_findMeeting X a0 a1 x2 x3 h0 h1 S r rfl hF)
def fX0_isFair_s54 (k3 : Int32 → Option Int32) (a0 : Nat) (a1 : Nat) (x2 : Int32) (x3 : Int32) (y4 : Int32)  (S : St) : Option Int32 :=
  k3 (y4 + (1 : Int32))
def fX0_isFair_s3 (k3 : Int32 → Option Int32) (a0 : Nat) (a1 : Nat) (x2 : Int32) (x3 : Int32) (y4 : Int32)  (S : St) : Option Int32 :=
  if (gI S 8 2 (a1 + 1)) ≤ y4 then (some (1 : Int32)) else
  (if ((x2 >>> (y4 &&& 31)) &&& (1 : Int32)) = (1 : Int32) then ((fX2_countIn (a1 + 15) y4 x3 S).bind fun r_3 =>
  if (y4 < 0 ∨ 5 ≤ y4.toNatClampNeg) then none else
  if (gI S 4 4 (((a1 + 1) + 1) + 2 + y4.toNatClampNeg)) = 0 then none else
  if (r_3 - r_3 / (gI S 4 4 (((a1 + 1) + 1) + 2 + y4.toNatClampNeg)) * (gI S 4 4 (((a1 + 1) + 1) + 2 + y4.toNatClampNeg))) = 0 then (fX0_isFair_s54 k3 a0 a1 x2 x3 y4 S) else
  (some (0 : Int32))) else
  (fX0_isFair_s54 k3 a0 a1 x2 x3 y4 S))
def fX0_isFair_h3 (a0 : Nat) (a1 : Nat) (x2 : Int32) (x3 : Int32) : Nat → Int32 → St → Option Int32
  | 0, _, _ => none
  | n + 1, y4, S => fX0_isFair_s3 (fun y4 => fX0_isFair_h3 a0 a1 x2 x3 n y4 S) a0 a1 x2 x3 y4 S
def fX0_isFair (a0 : Nat) (a1 : Nat) (x2 : Int32) (x3 : Int32) (S : St) : Option Int32 :=
  fX0_isFair_h3 a0 a1 x2 x3 NN (0 : Int32) S
theorem wX0_isFair_s54 {z : Mx} {ad : Nat → Nat} {o : Option Value × St} (X : CxOk z ad RX0 cX0_isFair 5 (some .boolean) 3) (a0 : Nat) (a1 : Nat) (x2 : Int32) (x3 : Int32) (h0 : KT a0 = 0) (h1 : KT a1 = 9) (y4 : Int32)  (k3 : Int32 → Option Int32)   (S : St) (r : Int32) (ho : o = (some (.int r), S)) (hk3 : ∀ (y4 : Int32), k3 y4 = some r → GW z ad o S 3 [(1, .ref (ad a1)), (2, .int x2), (3, .int x3), (4, .int y4)] []) (hF : fX0_isFair_s54 k3 a0 a1 x2 x3 y4  S = some r) : GW z ad o S 54 [(1, .ref (ad a1)), (2, .int x2), (3, .int x3), (4, .int y4)] [] := by
  unfold fX0_isFair_s54 at hF
  refine g_iinc (v := (y4 + (1 : Int32))) X dX0_isFair_54 3 rfl rfl (by decide) (lv' := [(4, .int (y4 + (1 : Int32))), (1, .ref (ad a1)), (2, .int x2), (3, .int x3)]) rfl ?_
  refine g_goto (tgt := 3) X dX0_isFair_57 (by decide) ?_
  exact g_perm [1, 2, 3, 0] rfl (hk3 (y4 + (1 : Int32)) hF)
theorem wX0_isFair_s3 {z : Mx} {ad : Nat → Nat} {o : Option Value × St} (X : CxOk z ad RX0 cX0_isFair 5 (some .boolean) 3) (a0 : Nat) (a1 : Nat) (x2 : Int32) (x3 : Int32) (h0 : KT a0 = 0) (h1 : KT a1 = 9) (y4 : Int32)  (k3 : Int32 → Option Int32)   (S : St) (r : Int32) (ho : o = (some (.int r), S)) (hk3 : ∀ (y4 : Int32), k3 y4 = some r → GW z ad o S 3 [(1, .ref (ad a1)), (2, .int x2), (3, .int x3), (4, .int y4)] []) (hF : fX0_isFair_s3 k3 a0 a1 x2 x3 y4  S = some r) : GW z ad o S 3 [(1, .ref (ad a1)), (2, .int x2), (3, .int x3), (4, .int y4)] [] := by
  unfold fX0_isFair_s3 at hF
  refine g_iload X dX0_isFair_3 3 rfl ?_
  refine g_aload_n X dX0_isFair_5 0 rfl rfl ?_
  refine g_getR (f := 1) X dX0_isFair_6 flX0_27 rfl rfl h1 ?_
  refine g_getI X dX0_isFair_9 flX0_92 rfl (on_9_0 h1) ?_
  refine g_icmp_ge (tgt := 60) X dX0_isFair_12 (by decide) (fun c_1 => ?_) (fun c_1 => ?_)
  · rw [if_pos c_1] at hF
    refine g_iconst (v := 1) X dX0_isFair_60 (by decide) ?_
    have hF := Option.some.inj hF
    subst hF
    exact g_zret X dX0_isFair_61 (by decide) ho
  · rw [if_neg c_1] at hF
    refine g_iload_n X dX0_isFair_15 1 rfl rfl ?_
    refine g_iload X dX0_isFair_16 3 rfl ?_
    refine g_ishr X dX0_isFair_18 ?_
    refine g_iconst (v := 1) X dX0_isFair_19 (by decide) ?_
    refine g_iand X dX0_isFair_20 ?_
    refine g_iconst (v := 1) X dX0_isFair_21 (by decide) ?_
    refine g_icmp_ne (tgt := 54) X dX0_isFair_22 (by decide) (fun c_2 => ?_) (fun c_2 => ?_)
    · rw [if_neg c_2] at hF
      exact (wX0_isFair_s54 X a0 a1 x2 x3 h0 h1 y4 k3 S r ho hk3 hF)
    · rw [if_pos c_2] at hF
      refine g_aload_n X dX0_isFair_25 0 rfl rfl ?_
      refine g_getR (f := 15) X dX0_isFair_26 flX0_55 rfl rfl h1 ?_
      refine g_iload X dX0_isFair_29 3 rfl ?_
      refine g_iload_n X dX0_isFair_31 2 rfl rfl ?_
      obtain ⟨r_3, q_4, hF⟩ := obind hF
      refine g_callVi (As := [.int y4, .int x3]) X dX0_isFair_32 mlX0_59 (fun l D cyy => tX2_countIn (cx_inj X) l D cyy (a1 + 15) y4 x3 (on_9_1 h1) S r_3 q_4) (on_9_1 h1) (by decide) rfl rfl (Nat.le_of_ble_eq_true rfl) ?_
      refine g_aload_n X dX0_isFair_35 0 rfl rfl ?_
      refine g_getR (f := 1) X dX0_isFair_36 flX0_27 rfl rfl h1 ?_
      refine g_getR (f := 1) X dX0_isFair_39 flX0_48 rfl rfl (on_9_0 h1) ?_
      refine g_iload X dX0_isFair_42 3 rfl ?_
      obtain ⟨e_5, hF⟩ := oguard hF
      refine g_aaldP X dX0_isFair_44 (on_8_0 (on_9_0 h1)) rfl e_5 ?_
      refine g_getI X dX0_isFair_45 flX0_95 rfl (on_p (on_8_0 (on_9_0 h1)) (inb e_5)) ?_
      obtain ⟨e_6, hF⟩ := oguard hF
      refine g_irem X dX0_isFair_48 e_6 ?_
      refine g_if_eq (tgt := 54) X dX0_isFair_49 (by decide) (fun c_7 => ?_) (fun c_7 => ?_)
      · rw [if_pos c_7] at hF
        exact (wX0_isFair_s54 X a0 a1 x2 x3 h0 h1 y4 k3 S r ho hk3 hF)
      · rw [if_neg c_7] at hF
        refine g_iconst (v := 0) X dX0_isFair_52 (by decide) ?_
        have hF := Option.some.inj hF
        subst hF
        exact g_zret X dX0_isFair_53 (by decide) ho
theorem wX0_isFair_h3 {z : Mx} {ad : Nat → Nat} {o : Option Value × St} (X : CxOk z ad RX0 cX0_isFair 5 (some .boolean) 3) (a0 : Nat) (a1 : Nat) (x2 : Int32) (x3 : Int32) (h0 : KT a0 = 0) (h1 : KT a1 = 9)  (S : St) (r : Int32) (ho : o = (some (.int r), S)) : ∀ (n : Nat) (y4 : Int32), fX0_isFair_h3 a0 a1 x2 x3 n y4 S = some r → GW z ad o S 3 [(1, .ref (ad a1)), (2, .int x2), (3, .int x3), (4, .int y4)] [] := by
  intro n
  induction n with
  | zero => intro y4  hF; cases hF
  | succ n ih => intro y4  hF; exact wX0_isFair_s3 X a0 a1 x2 x3 h0 h1 y4 (fun y4 => fX0_isFair_h3 a0 a1 x2 x3 n y4 S)  S r ho (fun y4 hF => ih y4  hF) hF
theorem wX0_isFair {z : Mx} {ad : Nat → Nat} {o : Option Value × St} (X : CxOk z ad RX0 cX0_isFair 5 (some .boolean) 3) (a0 : Nat) (a1 : Nat) (x2 : Int32) (x3 : Int32) (h0 : KT a0 = 0) (h1 : KT a1 = 9) (S : St) (r : Int32) (ho : o = (some (.int r), S)) (hF : fX0_isFair a0 a1 x2 x3 S = some r) : GW z ad o S 0 [(0, .ref (ad a0)), (1, .ref (ad a1)), (2, .int x2), (3, .int x3)] [] := by
  unfold fX0_isFair at hF
  refine g_iconst (v := 0) X dX0_isFair_0 (by decide) ?_
  refine g_istore X dX0_isFair_1 (by decide) (lv' := [(4, .int (0 : Int32)), (0, .ref (ad a0)), (1, .ref (ad a1)), (2, .int x2), (3, .int x3)]) rfl ?_
  exact g_perm [2, 3, 4, 0] rfl (wX0_isFair_h3 X a0 a1 x2 x3 h0 h1 S r ho NN (0 : Int32) hF)
theorem tX0_isFair {ad : Nat → Nat} (hI : Inj ad) (l : Launch) (D : va_G) (cyy : Nat → ClassId) (a0 : Nat) (a1 : Nat) (x2 : Int32) (x3 : Int32) (h0 : KT a0 = 0) (h1 : KT a1 = 9) (S : St) (r : Int32) (hF : fX0_isFair a0 a1 x2 x3 S = some r) : OkM l yX0_isFair cX0_isFair 5 (some .boolean) 3 ad D cyy [.ref (ad a0), .ref (ad a1), .int x2, .int x3] S (some (.int r), S) := okM_of hI (by decide) (inr_36 _ (List.mem_of_getElem? (i := 23) rfl)) (by show _ ≤ 5; exact Nat.le_of_ble_eq_true rfl) (fun z X => wX0_isFair X a0 a1 x2 x3 h0 h1 S r rfl hF)
def fX0_findFair_s2 (k2 : Int32 → Option Int32) (a0 : Nat) (a1 : Nat) (x2 : Int32) (y3 : Int32)  (S : St) : Option Int32 :=
  if (2520 : Int32) < y3 then (some (-1 : Int32)) else
  ((fX0_isFair a0 a1 x2 y3 S).bind fun r_2 =>
  if r_2 = 0 then (k2 (y3 + (1 : Int32))) else
  (some y3))
def fX0_findFair_h2 (a0 : Nat) (a1 : Nat) (x2 : Int32) : Nat → Int32 → St → Option Int32
  | 0, _, _ => none
  | n + 1, y3, S => fX0_findFair_s2 (fun y3 => fX0_findFair_h2 a0 a1 x2 n y3 S) a0 a1 x2 y3 S
def fX0_findFair (a0 : Nat) (a1 : Nat) (x2 : Int32) (S : St) : Option Int32 :=
  fX0_findFair_h2 a0 a1 x2 NN (0 : Int32) S
theorem wX0_findFair_s2 {z : Mx} {ad : Nat → Nat} {o : Option Value × St} (X : CxOk z ad RX0 cX0_findFair 4 (some .int) 4) (a0 : Nat) (a1 : Nat) (x2 : Int32) (h0 : KT a0 = 0) (h1 : KT a1 = 9) (y3 : Int32)  (k2 : Int32 → Option Int32)   (S : St) (r : Int32) (ho : o = (some (.int r), S)) (hk2 : ∀ (y3 : Int32), k2 y3 = some r → GW z ad o S 2 [(0, .ref (ad a0)), (1, .ref (ad a1)), (2, .int x2), (3, .int y3)] []) (hF : fX0_findFair_s2 k2 a0 a1 x2 y3  S = some r) : GW z ad o S 2 [(0, .ref (ad a0)), (1, .ref (ad a1)), (2, .int x2), (3, .int y3)] [] := by
  unfold fX0_findFair_s2 at hF
  refine g_iload_n X dX0_findFair_2 3 rfl rfl ?_
  refine g_sipush (v := 2520) X dX0_findFair_3 (by decide) ?_
  refine g_icmp_gt (tgt := 27) X dX0_findFair_6 (by decide) (fun c_1 => ?_) (fun c_1 => ?_)
  · rw [if_pos c_1] at hF
    refine g_iconst (v := -1) X dX0_findFair_27 (by decide) ?_
    have hF := Option.some.inj hF
    subst hF
    exact g_iret X dX0_findFair_28 ho
  · rw [if_neg c_1] at hF
    refine g_aload_n X dX0_findFair_9 0 rfl rfl ?_
    refine g_aload_n X dX0_findFair_10 1 rfl rfl ?_
    refine g_iload_n X dX0_findFair_11 2 rfl rfl ?_
    refine g_iload_n X dX0_findFair_12 3 rfl rfl ?_
    obtain ⟨r_2, q_3, hF⟩ := obind hF
    refine g_callVi (As := [.ref (ad a1), .int x2, .int y3]) X dX0_findFair_13 mlX0_88 (fun l D cyy => tX0_isFair (cx_inj X) l D cyy a0 a1 x2 y3 h0 h1 S r_2 q_3) h0 (by decide) rfl rfl (Nat.le_of_ble_eq_true rfl) ?_
    refine g_if_eq (tgt := 21) X dX0_findFair_16 (by decide) (fun c_4 => ?_) (fun c_4 => ?_)
    · rw [if_pos c_4] at hF
      refine g_iinc (v := (y3 + (1 : Int32))) X dX0_findFair_21 3 rfl rfl (by decide) (lv' := [(3, .int (y3 + (1 : Int32))), (0, .ref (ad a0)), (1, .ref (ad a1)), (2, .int x2)]) rfl ?_
      refine g_goto (tgt := 2) X dX0_findFair_24 (by decide) ?_
      exact g_perm [1, 2, 3, 0] rfl (hk2 (y3 + (1 : Int32)) hF)
    · rw [if_neg c_4] at hF
      refine g_iload_n X dX0_findFair_19 3 rfl rfl ?_
      have hF := Option.some.inj hF
      subst hF
      exact g_iret X dX0_findFair_20 ho
theorem wX0_findFair_h2 {z : Mx} {ad : Nat → Nat} {o : Option Value × St} (X : CxOk z ad RX0 cX0_findFair 4 (some .int) 4) (a0 : Nat) (a1 : Nat) (x2 : Int32) (h0 : KT a0 = 0) (h1 : KT a1 = 9)  (S : St) (r : Int32) (ho : o = (some (.int r), S)) : ∀ (n : Nat) (y3 : Int32), fX0_findFair_h2 a0 a1 x2 n y3 S = some r → GW z ad o S 2 [(0, .ref (ad a0)), (1, .ref (ad a1)), (2, .int x2), (3, .int y3)] [] := by
  intro n
  induction n with
  | zero => intro y3  hF; cases hF
  | succ n ih => intro y3  hF; exact wX0_findFair_s2 X a0 a1 x2 h0 h1 y3 (fun y3 => fX0_findFair_h2 a0 a1 x2 n y3 S)  S r ho (fun y3 hF => ih y3  hF) hF
theorem wX0_findFair {z : Mx} {ad : Nat → Nat} {o : Option Value × St} (X : CxOk z ad RX0 cX0_findFair 4 (some .int) 4) (a0 : Nat) (a1 : Nat) (x2 : Int32) (h0 : KT a0 = 0) (h1 : KT a1 = 9) (S : St) (r : Int32) (ho : o = (some (.int r), S)) (hF : fX0_findFair a0 a1 x2 S = some r) : GW z ad o S 0 [(0, .ref (ad a0)), (1, .ref (ad a1)), (2, .int x2)] [] := by
  unfold fX0_findFair at hF
  refine g_iconst (v := 0) X dX0_findFair_0 (by decide) ?_
  refine g_istore_n X dX0_findFair_1 rfl (by decide) (lv' := [(3, .int (0 : Int32)), (0, .ref (ad a0)), (1, .ref (ad a1)), (2, .int x2)]) rfl ?_
  exact g_perm [1, 2, 3, 0] rfl (wX0_findFair_h2 X a0 a1 x2 h0 h1 S r ho NN (0 : Int32) hF)
theorem tX0_findFair {ad : Nat → Nat} (hI : Inj ad) (l : Launch) (D : va_G) (cyy : Nat → ClassId) (a0 : Nat) (a1 : Nat) (x2 : Int32) (h0 : KT a0 = 0) (h1 : KT a1 = 9) (S : St) (r : Int32) (hF : fX0_findFair a0 a1 x2 S = some r) : OkM l yX0_findFair cX0_findFair 4 (some .int) 4 ad D cyy [.ref (ad a0), .ref (ad a1), .int x2] S (some (.int r), S) := okM_of hI (by decide) (inr_36 _ (List.mem_of_getElem? (i := 19) rfl)) (by show _ ≤ 4; exact Nat.le_of_ble_eq_true rfl) (fun z X => wX0_findFair X a0 a1 x2 h0 h1 S r rfl hF)
def fX0_shared_s26 (k10 : Int32 → Int32 → Int32 → Option Int32) (x0 : Int32) (x1 : Int32) (y2 : Int32) (y4 : Int32) (y5 : Int32)  (S : St) : Option Int32 :=
  k10 y5 y2 (y4 + (1 : Int32))
def fX0_shared_s10 (k10 : Int32 → Int32 → Int32 → Option Int32) (x0 : Int32) (x1 : Int32) (y2 : Int32) (y3 : Int32) (y4 : Int32)  (S : St) : Option Int32 :=
  if (64 : Int32) ≤ y4 then (some y3) else
  (if y2 = 0 then (some y3) else
  (if y2 = 0 then none else
  fX0_shared_s26 k10 x0 x1 y2 y4 (y3 - y3 / y2 * y2) S))
def fX0_shared_h10 (x0 : Int32) (x1 : Int32) : Nat → Int32 → Int32 → Int32 → St → Option Int32
  | 0, _, _, _, _ => none
  | n + 1, y2, y3, y4, S => fX0_shared_s10 (fun y2 y3 y4 => fX0_shared_h10 x0 x1 n y2 y3 y4 S) x0 x1 y2 y3 y4 S
def fX0_shared_s5 (x0 : Int32) (x1 : Int32) (y2 : Int32)  (S : St) : Option Int32 :=
  fX0_shared_h10 x0 x1 NN y2 x1 (0 : Int32) S
def fX0_shared (x0 : Int32) (x1 : Int32) (S : St) : Option Int32 :=
  fX0_shared_s5 x0 x1 (if 0 ≤ x0 then x0 else 0 - x0) S
theorem wX0_shared_s26 {z : Mx} {ad : Nat → Nat} {o : Option Value × St} (X : CxOk z ad RX0 cX0_shared 6 (some .int) 1) (x0 : Int32) (x1 : Int32)  (y2 : Int32) (y4 : Int32) (y5 : Int32)  (k10 : Int32 → Int32 → Int32 → Option Int32)   (S : St) (r : Int32) (ho : o = (some (.int r), S)) (hk10 : ∀ (y2 : Int32) (y3 : Int32) (y4 : Int32), k10 y2 y3 y4 = some r → GW z ad o S 10 [(2, .int y2), (3, .int y3), (4, .int y4)] []) (hF : fX0_shared_s26 k10 x0 x1 y2 y4 y5  S = some r) : GW z ad o S 26 [(2, .int y2), (4, .int y4), (5, .int y5)] [] := by
  unfold fX0_shared_s26 at hF
  refine g_iload_n X dX0_shared_26 0 rfl rfl ?_
  refine g_istore_n X dX0_shared_27 rfl (by decide) (lv' := [(3, .int y2), (2, .int y2), (4, .int y4), (5, .int y5)]) rfl ?_
  refine g_iload X dX0_shared_28 3 rfl ?_
  refine g_istore_n X dX0_shared_30 rfl (by decide) (lv' := [(2, .int y5), (3, .int y2), (4, .int y4), (5, .int y5)]) rfl ?_
  refine g_iinc (v := (y4 + (1 : Int32))) X dX0_shared_31 2 rfl rfl (by decide) (lv' := [(4, .int (y4 + (1 : Int32))), (2, .int y5), (3, .int y2), (5, .int y5)]) rfl ?_
  refine g_goto (tgt := 10) X dX0_shared_34 (by decide) ?_
  exact g_perm [1, 2, 0] rfl (hk10 y5 y2 (y4 + (1 : Int32)) hF)
theorem wX0_shared_s10 {z : Mx} {ad : Nat → Nat} {o : Option Value × St} (X : CxOk z ad RX0 cX0_shared 6 (some .int) 1) (x0 : Int32) (x1 : Int32)  (y2 : Int32) (y3 : Int32) (y4 : Int32)  (k10 : Int32 → Int32 → Int32 → Option Int32)   (S : St) (r : Int32) (ho : o = (some (.int r), S)) (hk10 : ∀ (y2 : Int32) (y3 : Int32) (y4 : Int32), k10 y2 y3 y4 = some r → GW z ad o S 10 [(2, .int y2), (3, .int y3), (4, .int y4)] []) (hF : fX0_shared_s10 k10 x0 x1 y2 y3 y4  S = some r) : GW z ad o S 10 [(2, .int y2), (3, .int y3), (4, .int y4)] [] := by
  unfold fX0_shared_s10 at hF
  refine g_iload X dX0_shared_10 2 rfl ?_
  refine g_bipush (v := 64) X dX0_shared_12 (by decide) ?_
  refine g_icmp_ge (tgt := 37) X dX0_shared_14 (by decide) (fun c_1 => ?_) (fun c_1 => ?_)
  · rw [if_pos c_1] at hF
    refine g_iload_n X dX0_shared_37 1 rfl rfl ?_
    have hF := Option.some.inj hF
    subst hF
    exact g_iret X dX0_shared_38 ho
  · rw [if_neg c_1] at hF
    refine g_iload_n X dX0_shared_17 0 rfl rfl ?_
    refine g_if_eq (tgt := 37) X dX0_shared_18 (by decide) (fun c_2 => ?_) (fun c_2 => ?_)
    · rw [if_pos c_2] at hF
      refine g_iload_n X dX0_shared_37 1 rfl rfl ?_
      have hF := Option.some.inj hF
      subst hF
      exact g_iret X dX0_shared_38 ho
    · rw [if_neg c_2] at hF
      refine g_iload_n X dX0_shared_21 1 rfl rfl ?_
      refine g_iload_n X dX0_shared_22 0 rfl rfl ?_
      obtain ⟨e_3, hF⟩ := oguard hF
      refine g_irem X dX0_shared_23 e_3 ?_
      refine g_istore X dX0_shared_24 (by decide) (lv' := [(5, .int (y3 - y3 / y2 * y2)), (2, .int y2), (3, .int y3), (4, .int y4)]) rfl ?_
      exact g_perm [1, 3, 0] rfl (wX0_shared_s26 X x0 x1 y2 y4 (y3 - y3 / y2 * y2) k10 S r ho hk10 hF)
theorem wX0_shared_h10 {z : Mx} {ad : Nat → Nat} {o : Option Value × St} (X : CxOk z ad RX0 cX0_shared 6 (some .int) 1) (x0 : Int32) (x1 : Int32)   (S : St) (r : Int32) (ho : o = (some (.int r), S)) : ∀ (n : Nat) (y2 : Int32) (y3 : Int32) (y4 : Int32), fX0_shared_h10 x0 x1 n y2 y3 y4 S = some r → GW z ad o S 10 [(2, .int y2), (3, .int y3), (4, .int y4)] [] := by
  intro n
  induction n with
  | zero => intro y2 y3 y4  hF; cases hF
  | succ n ih => intro y2 y3 y4  hF; exact wX0_shared_s10 X x0 x1  y2 y3 y4 (fun y2 y3 y4 => fX0_shared_h10 x0 x1 n y2 y3 y4 S)  S r ho (fun y2 y3 y4 hF => ih y2 y3 y4  hF) hF
theorem wX0_shared_s5 {z : Mx} {ad : Nat → Nat} {o : Option Value × St} (X : CxOk z ad RX0 cX0_shared 6 (some .int) 1) (x0 : Int32) (x1 : Int32)  (y2 : Int32)    (S : St) (r : Int32) (ho : o = (some (.int r), S)) (hF : fX0_shared_s5 x0 x1 y2  S = some r) : GW z ad o S 5 [(1, .int x1), (2, .int y2)] [] := by
  unfold fX0_shared_s5 at hF
  refine g_iload_n X dX0_shared_5 0 rfl rfl ?_
  refine g_istore_n X dX0_shared_6 rfl (by decide) (lv' := [(3, .int x1), (1, .int x1), (2, .int y2)]) rfl ?_
  refine g_iconst (v := 0) X dX0_shared_7 (by decide) ?_
  refine g_istore X dX0_shared_8 (by decide) (lv' := [(4, .int (0 : Int32)), (3, .int x1), (1, .int x1), (2, .int y2)]) rfl ?_
  exact g_perm [3, 1, 0] rfl (wX0_shared_h10 X x0 x1 S r ho NN y2 x1 (0 : Int32) hF)
theorem wX0_shared {z : Mx} {ad : Nat → Nat} {o : Option Value × St} (X : CxOk z ad RX0 cX0_shared 6 (some .int) 1) (x0 : Int32) (x1 : Int32)  (S : St) (r : Int32) (ho : o = (some (.int r), S)) (hF : fX0_shared x0 x1 S = some r) : GW z ad o S 0 [(0, .int x0), (1, .int x1)] [] := by
  unfold fX0_shared at hF
  refine g_iload_n X dX0_shared_0 0 rfl rfl ?_
  refine g_mabs X dX0_shared_1 (inr_37 _ (List.mem_of_getElem? (i := 21) rfl)) (inr_37 _ (List.mem_of_getElem? (i := 22) rfl)) (inr_10 _ (List.mem_of_getElem? (i := 22) rfl)) (inr_37 _ (List.mem_of_getElem? (i := 23) rfl)) (by decide) (Nat.le_of_ble_eq_true rfl) ?_
  refine g_istore_n X dX0_shared_4 rfl (by decide) (lv' := [(2, .int (if 0 ≤ x0 then x0 else 0 - x0)), (0, .int x0), (1, .int x1)]) rfl ?_
  exact g_perm [2, 0] rfl (wX0_shared_s5 X x0 x1 (if 0 ≤ x0 then x0 else 0 - x0) S r ho hF)
theorem tX0_shared {ad : Nat → Nat} (hI : Inj ad) (l : Launch) (D : va_G) (cyy : Nat → ClassId) (x0 : Int32) (x1 : Int32)  (S : St) (r : Int32) (hF : fX0_shared x0 x1 S = some r) : OkM l yX0_shared cX0_shared 6 (some .int) 1 ad D cyy [.int x0, .int x1] S (some (.int r), S) := okM_of hI (by decide) (inr_37 _ (List.mem_of_getElem? (i := 20) rfl)) (by show _ ≤ 6; exact Nat.le_of_ble_eq_true rfl) (fun z X => wX0_shared X x0 x1  S r rfl hF)
def fX0_driftPart_s65 (a0 : Nat) (a1 : Nat) (x2 : Int32) (x3 : Int32) (y6 : Int32) (y7 : Int32)  (S : St) : Option Int32 :=
  (fX0_shared y6 y7 S).bind fun r_2 =>
  if 0 < r_2 then (if x3 = 0 then (if r_2 = 0 then none else
  some (y6 / r_2)) else
  (if r_2 = 0 then none else
  some (y7 / r_2))) else
  (some (-1 : Int32))
def fX0_driftPart_s53 (a0 : Nat) (a1 : Nat) (x2 : Int32) (x3 : Int32) (b4 : Nat) (y6 : Int32)  (S : St) : Option Int32 :=
  fX0_driftPart_s65 a0 a1 x2 x3 y6 ((gI S 4 6 b4) * (gI S 8 5 a1)) S
def fX0_driftPart_s33 (a0 : Nat) (a1 : Nat) (x2 : Int32) (x3 : Int32) (b4 : Nat) (y5 : Int32)  (S : St) : Option Int32 :=
  fX0_driftPart_s53 a0 a1 x2 x3 b4 ((y5 * (gI S 8 5 a1)) - ((gI S 8 4 a1) * (gI S 4 6 b4))) S
def fX0_driftPart_s8 (a0 : Nat) (a1 : Nat) (x2 : Int32) (x3 : Int32) (b4 : Nat)  (S : St) : Option Int32 :=
  fX0_driftPart_s33 a0 a1 x2 x3 b4 ((((gI S 4 2 b4) * (gI S 4 3 b4)) * (gI S 4 6 b4)) + (gI S 4 5 b4)) S
def fX0_driftPart (a0 : Nat) (a1 : Nat) (x2 : Int32) (x3 : Int32) (S : St) : Option Int32 :=
  if (x2 < 0 ∨ 5 ≤ x2.toNatClampNeg) then none else
  fX0_driftPart_s8 a0 a1 x2 x3 ((a1 + 1) + 2 + x2.toNatClampNeg) S
theorem wX0_driftPart_s65 {z : Mx} {ad : Nat → Nat} {o : Option Value × St} (X : CxOk z ad RX0 cX0_driftPart 9 (some .int) 2) (a0 : Nat) (a1 : Nat) (x2 : Int32) (x3 : Int32) (h0 : KT a0 = 0) (h1 : KT a1 = 8) (y6 : Int32) (y7 : Int32)    (S : St) (r : Int32) (ho : o = (some (.int r), S)) (hF : fX0_driftPart_s65 a0 a1 x2 x3 y6 y7  S = some r) : GW z ad o S 65 [(3, .int x3), (6, .int y6), (7, .int y7)] [] := by
  unfold fX0_driftPart_s65 at hF
  refine g_iload X dX0_driftPart_65 1 rfl ?_
  refine g_iload X dX0_driftPart_67 2 rfl ?_
  obtain ⟨r_2, q_3, hF⟩ := obind hF
  refine g_callSi (As := [.int y6, .int y7]) X dX0_driftPart_69 mlX0_115 (fun l D cyy => tX0_shared (cx_inj X) l D cyy y6 y7  S r_2 q_3) (by decide) rfl rfl (Nat.le_of_ble_eq_true rfl) ?_
  refine g_istore X dX0_driftPart_72 (by decide) (lv' := [(8, .int r_2), (3, .int x3), (6, .int y6), (7, .int y7)]) rfl ?_
  refine g_iload X dX0_driftPart_74 0 rfl ?_
  refine g_if_gt (tgt := 81) X dX0_driftPart_76 (by decide) (fun c_4 => ?_) (fun c_4 => ?_)
  · rw [if_pos c_4] at hF
    refine g_iload_n X dX0_driftPart_81 1 rfl rfl ?_
    refine g_if_ne (tgt := 93) X dX0_driftPart_82 (by decide) (fun c_5 => ?_) (fun c_5 => ?_)
    · rw [if_neg c_5] at hF
      refine g_iload X dX0_driftPart_93 3 rfl ?_
      refine g_iload X dX0_driftPart_95 0 rfl ?_
      obtain ⟨e_6, hF⟩ := oguard hF
      refine g_idiv X dX0_driftPart_97 e_6 ?_
      have hF := Option.some.inj hF
      subst hF
      exact g_iret X dX0_driftPart_98 ho
    · rw [if_pos c_5] at hF
      refine g_iload X dX0_driftPart_85 2 rfl ?_
      refine g_iload X dX0_driftPart_87 0 rfl ?_
      obtain ⟨e_7, hF⟩ := oguard hF
      refine g_idiv X dX0_driftPart_89 e_7 ?_
      refine g_goto (tgt := 98) X dX0_driftPart_90 (by decide) ?_
      have hF := Option.some.inj hF
      subst hF
      exact g_iret X dX0_driftPart_98 ho
  · rw [if_neg c_4] at hF
    refine g_iconst (v := -1) X dX0_driftPart_79 (by decide) ?_
    have hF := Option.some.inj hF
    subst hF
    exact g_iret X dX0_driftPart_80 ho
theorem wX0_driftPart_s53 {z : Mx} {ad : Nat → Nat} {o : Option Value × St} (X : CxOk z ad RX0 cX0_driftPart 9 (some .int) 2) (a0 : Nat) (a1 : Nat) (x2 : Int32) (x3 : Int32) (h0 : KT a0 = 0) (h1 : KT a1 = 8) (b4 : Nat) (y6 : Int32)  (g4 : KT b4 = 4)  (S : St) (r : Int32) (ho : o = (some (.int r), S)) (hF : fX0_driftPart_s53 a0 a1 x2 x3 b4 y6  S = some r) : GW z ad o S 53 [(1, .ref (ad a1)), (3, .int x3), (4, .ref (ad b4)), (6, .int y6)] [] := by
  unfold fX0_driftPart_s53 at hF
  refine g_aload X dX0_driftPart_53 2 rfl ?_
  refine g_getI X dX0_driftPart_55 flX0_103 rfl g4 ?_
  refine g_aload_n X dX0_driftPart_58 0 rfl rfl ?_
  refine g_getI X dX0_driftPart_59 flX0_109 rfl h1 ?_
  refine g_imul X dX0_driftPart_62 ?_
  refine g_istore X dX0_driftPart_63 (by decide) (lv' := [(7, .int ((gI S 4 6 b4) * (gI S 8 5 a1))), (1, .ref (ad a1)), (3, .int x3), (4, .ref (ad b4)), (6, .int y6)]) rfl ?_
  exact g_perm [2, 4, 0] rfl (wX0_driftPart_s65 X a0 a1 x2 x3 h0 h1 y6 ((gI S 4 6 b4) * (gI S 8 5 a1)) S r ho hF)
theorem wX0_driftPart_s33 {z : Mx} {ad : Nat → Nat} {o : Option Value × St} (X : CxOk z ad RX0 cX0_driftPart 9 (some .int) 2) (a0 : Nat) (a1 : Nat) (x2 : Int32) (x3 : Int32) (h0 : KT a0 = 0) (h1 : KT a1 = 8) (b4 : Nat) (y5 : Int32)  (g4 : KT b4 = 4)  (S : St) (r : Int32) (ho : o = (some (.int r), S)) (hF : fX0_driftPart_s33 a0 a1 x2 x3 b4 y5  S = some r) : GW z ad o S 33 [(1, .ref (ad a1)), (3, .int x3), (4, .ref (ad b4)), (5, .int y5)] [] := by
  unfold fX0_driftPart_s33 at hF
  refine g_iload X dX0_driftPart_33 3 rfl ?_
  refine g_aload_n X dX0_driftPart_35 0 rfl rfl ?_
  refine g_getI X dX0_driftPart_36 flX0_109 rfl h1 ?_
  refine g_imul X dX0_driftPart_39 ?_
  refine g_aload_n X dX0_driftPart_40 0 rfl rfl ?_
  refine g_getI X dX0_driftPart_41 flX0_112 rfl h1 ?_
  refine g_aload X dX0_driftPart_44 2 rfl ?_
  refine g_getI X dX0_driftPart_46 flX0_103 rfl g4 ?_
  refine g_imul X dX0_driftPart_49 ?_
  refine g_isub X dX0_driftPart_50 ?_
  refine g_istore X dX0_driftPart_51 (by decide) (lv' := [(6, .int ((y5 * (gI S 8 5 a1)) - ((gI S 8 4 a1) * (gI S 4 6 b4)))), (1, .ref (ad a1)), (3, .int x3), (4, .ref (ad b4)), (5, .int y5)]) rfl ?_
  exact g_perm [1, 2, 3, 0] rfl (wX0_driftPart_s53 X a0 a1 x2 x3 h0 h1 b4 ((y5 * (gI S 8 5 a1)) - ((gI S 8 4 a1) * (gI S 4 6 b4))) g4 S r ho hF)
theorem wX0_driftPart_s8 {z : Mx} {ad : Nat → Nat} {o : Option Value × St} (X : CxOk z ad RX0 cX0_driftPart 9 (some .int) 2) (a0 : Nat) (a1 : Nat) (x2 : Int32) (x3 : Int32) (h0 : KT a0 = 0) (h1 : KT a1 = 8) (b4 : Nat)  (g4 : KT b4 = 4)  (S : St) (r : Int32) (ho : o = (some (.int r), S)) (hF : fX0_driftPart_s8 a0 a1 x2 x3 b4  S = some r) : GW z ad o S 8 [(1, .ref (ad a1)), (3, .int x3), (4, .ref (ad b4))] [] := by
  unfold fX0_driftPart_s8 at hF
  refine g_aload X dX0_driftPart_8 2 rfl ?_
  refine g_getI X dX0_driftPart_10 flX0_98 rfl g4 ?_
  refine g_aload X dX0_driftPart_13 2 rfl ?_
  refine g_getI X dX0_driftPart_15 flX0_101 rfl g4 ?_
  refine g_imul X dX0_driftPart_18 ?_
  refine g_aload X dX0_driftPart_19 2 rfl ?_
  refine g_getI X dX0_driftPart_21 flX0_103 rfl g4 ?_
  refine g_imul X dX0_driftPart_24 ?_
  refine g_aload X dX0_driftPart_25 2 rfl ?_
  refine g_getI X dX0_driftPart_27 flX0_106 rfl g4 ?_
  refine g_iadd X dX0_driftPart_30 ?_
  refine g_istore X dX0_driftPart_31 (by decide) (lv' := [(5, .int ((((gI S 4 2 b4) * (gI S 4 3 b4)) * (gI S 4 6 b4)) + (gI S 4 5 b4))), (1, .ref (ad a1)), (3, .int x3), (4, .ref (ad b4))]) rfl ?_
  exact g_perm [1, 2, 3, 0] rfl (wX0_driftPart_s33 X a0 a1 x2 x3 h0 h1 b4 ((((gI S 4 2 b4) * (gI S 4 3 b4)) * (gI S 4 6 b4)) + (gI S 4 5 b4)) g4 S r ho hF)
theorem wX0_driftPart {z : Mx} {ad : Nat → Nat} {o : Option Value × St} (X : CxOk z ad RX0 cX0_driftPart 9 (some .int) 2) (a0 : Nat) (a1 : Nat) (x2 : Int32) (x3 : Int32) (h0 : KT a0 = 0) (h1 : KT a1 = 8) (S : St) (r : Int32) (ho : o = (some (.int r), S)) (hF : fX0_driftPart a0 a1 x2 x3 S = some r) : GW z ad o S 0 [(0, .ref (ad a0)), (1, .ref (ad a1)), (2, .int x2), (3, .int x3)] [] := by
  unfold fX0_driftPart at hF
  refine g_aload_n X dX0_driftPart_0 1 rfl rfl ?_
  refine g_getR (f := 1) X dX0_driftPart_1 flX0_48 rfl rfl h1 ?_
  refine g_iload_n X dX0_driftPart_4 2 rfl rfl ?_
  obtain ⟨e_1, hF⟩ := oguard hF
  refine g_aaldP X dX0_driftPart_5 (on_8_0 h1) rfl e_1 ?_
  refine g_astore X dX0_driftPart_6 (by decide) (lv' := [(4, .ref (ad ((a1 + 1) + 2 + x2.toNatClampNeg))), (0, .ref (ad a0)), (1, .ref (ad a1)), (2, .int x2), (3, .int x3)]) rfl ?_
  exact g_perm [2, 4, 0] rfl (wX0_driftPart_s8 X a0 a1 x2 x3 h0 h1 ((a1 + 1) + 2 + x2.toNatClampNeg) (on_p (on_8_0 h1) (inb e_1)) S r ho hF)
theorem tX0_driftPart {ad : Nat → Nat} (hI : Inj ad) (l : Launch) (D : va_G) (cyy : Nat → ClassId) (a0 : Nat) (a1 : Nat) (x2 : Int32) (x3 : Int32) (h0 : KT a0 = 0) (h1 : KT a1 = 8) (S : St) (r : Int32) (hF : fX0_driftPart a0 a1 x2 x3 S = some r) : OkM l yX0_driftPart cX0_driftPart 9 (some .int) 2 ad D cyy [.ref (ad a0), .ref (ad a1), .int x2, .int x3] S (some (.int r), S) := okM_of hI (by decide) (inr_37 _ (List.mem_of_getElem? (i := 15) rfl)) (by show _ ≤ 9; exact Nat.le_of_ble_eq_true rfl) (fun z X => wX0_driftPart X a0 a1 x2 x3 h0 h1 S r rfl hF)
def fX0_offBy_s30 (a0 : Nat) (x1 : Int32) (x2 : Int32) (x3 : Int32) (y5 : Int32)  (S : St) : Option Int32 :=
  some (if 0 ≤ (y5 - ((gI S 8 4 a0) * x2)) then (y5 - ((gI S 8 4 a0) * x2)) else 0 - (y5 - ((gI S 8 4 a0) * x2)))
def fX0_offBy_s8 (a0 : Nat) (x1 : Int32) (x2 : Int32) (x3 : Int32) (b4 : Nat)  (S : St) : Option Int32 :=
  fX0_offBy_s30 a0 x1 x2 x3 (((((gI S 4 2 b4) * (gI S 4 3 b4)) * x2) + x3) * (gI S 8 5 a0)) S
def fX0_offBy (a0 : Nat) (x1 : Int32) (x2 : Int32) (x3 : Int32) (S : St) : Option Int32 :=
  if (x1 < 0 ∨ 5 ≤ x1.toNatClampNeg) then none else
  fX0_offBy_s8 a0 x1 x2 x3 ((a0 + 1) + 2 + x1.toNatClampNeg) S
theorem wX0_offBy_s30 {z : Mx} {ad : Nat → Nat} {o : Option Value × St} (X : CxOk z ad RX0 cX0_offBy 6 (some .int) 1) (a0 : Nat) (x1 : Int32) (x2 : Int32) (x3 : Int32) (h0 : KT a0 = 8) (y5 : Int32)    (S : St) (r : Int32) (ho : o = (some (.int r), S)) (hF : fX0_offBy_s30 a0 x1 x2 x3 y5  S = some r) : GW z ad o S 30 [(0, .ref (ad a0)), (2, .int x2), (5, .int y5)] [] := by
  unfold fX0_offBy_s30 at hF
  refine g_iload X dX0_offBy_30 2 rfl ?_
  refine g_aload_n X dX0_offBy_32 0 rfl rfl ?_
  refine g_getI X dX0_offBy_33 flX0_112 rfl h0 ?_
  refine g_iload_n X dX0_offBy_36 1 rfl rfl ?_
  refine g_imul X dX0_offBy_37 ?_
  refine g_isub X dX0_offBy_38 ?_
  refine g_mabs X dX0_offBy_39 (inr_37 _ (List.mem_of_getElem? (i := 21) rfl)) (inr_37 _ (List.mem_of_getElem? (i := 22) rfl)) (inr_10 _ (List.mem_of_getElem? (i := 22) rfl)) (inr_37 _ (List.mem_of_getElem? (i := 23) rfl)) (by decide) (Nat.le_of_ble_eq_true rfl) ?_
  have hF := Option.some.inj hF
  subst hF
  exact g_iret X dX0_offBy_42 ho
theorem wX0_offBy_s8 {z : Mx} {ad : Nat → Nat} {o : Option Value × St} (X : CxOk z ad RX0 cX0_offBy 6 (some .int) 1) (a0 : Nat) (x1 : Int32) (x2 : Int32) (x3 : Int32) (h0 : KT a0 = 8) (b4 : Nat)  (g4 : KT b4 = 4)  (S : St) (r : Int32) (ho : o = (some (.int r), S)) (hF : fX0_offBy_s8 a0 x1 x2 x3 b4  S = some r) : GW z ad o S 8 [(0, .ref (ad a0)), (2, .int x2), (3, .int x3), (4, .ref (ad b4))] [] := by
  unfold fX0_offBy_s8 at hF
  refine g_aload X dX0_offBy_8 3 rfl ?_
  refine g_getI X dX0_offBy_10 flX0_98 rfl g4 ?_
  refine g_aload X dX0_offBy_13 3 rfl ?_
  refine g_getI X dX0_offBy_15 flX0_101 rfl g4 ?_
  refine g_imul X dX0_offBy_18 ?_
  refine g_iload_n X dX0_offBy_19 1 rfl rfl ?_
  refine g_imul X dX0_offBy_20 ?_
  refine g_iload_n X dX0_offBy_21 2 rfl rfl ?_
  refine g_iadd X dX0_offBy_22 ?_
  refine g_aload_n X dX0_offBy_23 0 rfl rfl ?_
  refine g_getI X dX0_offBy_24 flX0_109 rfl h0 ?_
  refine g_imul X dX0_offBy_27 ?_
  refine g_istore X dX0_offBy_28 (by decide) (lv' := [(5, .int (((((gI S 4 2 b4) * (gI S 4 3 b4)) * x2) + x3) * (gI S 8 5 a0))), (0, .ref (ad a0)), (2, .int x2), (3, .int x3), (4, .ref (ad b4))]) rfl ?_
  exact g_perm [1, 2, 0] rfl (wX0_offBy_s30 X a0 x1 x2 x3 h0 (((((gI S 4 2 b4) * (gI S 4 3 b4)) * x2) + x3) * (gI S 8 5 a0)) S r ho hF)
theorem wX0_offBy {z : Mx} {ad : Nat → Nat} {o : Option Value × St} (X : CxOk z ad RX0 cX0_offBy 6 (some .int) 1) (a0 : Nat) (x1 : Int32) (x2 : Int32) (x3 : Int32) (h0 : KT a0 = 8) (S : St) (r : Int32) (ho : o = (some (.int r), S)) (hF : fX0_offBy a0 x1 x2 x3 S = some r) : GW z ad o S 0 [(0, .ref (ad a0)), (1, .int x1), (2, .int x2), (3, .int x3)] [] := by
  unfold fX0_offBy at hF
  refine g_aload_n X dX0_offBy_0 0 rfl rfl ?_
  refine g_getR (f := 1) X dX0_offBy_1 flX0_48 rfl rfl h0 ?_
  refine g_iload_n X dX0_offBy_4 1 rfl rfl ?_
  obtain ⟨e_1, hF⟩ := oguard hF
  refine g_aaldP X dX0_offBy_5 (on_8_0 h0) rfl e_1 ?_
  refine g_astore X dX0_offBy_6 (by decide) (lv' := [(4, .ref (ad ((a0 + 1) + 2 + x1.toNatClampNeg))), (0, .ref (ad a0)), (1, .int x1), (2, .int x2), (3, .int x3)]) rfl ?_
  exact g_perm [1, 3, 4, 0] rfl (wX0_offBy_s8 X a0 x1 x2 x3 h0 ((a0 + 1) + 2 + x1.toNatClampNeg) (on_p (on_8_0 h0) (inb e_1)) S r ho hF)
theorem tX0_offBy {ad : Nat → Nat} (hI : Inj ad) (l : Launch) (D : va_G) (cyy : Nat → ClassId) (a0 : Nat) (x1 : Int32) (x2 : Int32) (x3 : Int32) (h0 : KT a0 = 8) (S : St) (r : Int32) (hF : fX0_offBy a0 x1 x2 x3 S = some r) : OkM l yX0_offBy cX0_offBy 6 (some .int) 1 ad D cyy [.ref (ad a0), .int x1, .int x2, .int x3] S (some (.int r), S) := okM_of hI (by decide) (inr_38 _ (List.mem_of_getElem? (i := 20) rfl)) (by show _ ≤ 6; exact Nat.le_of_ble_eq_true rfl) (fun z X => wX0_offBy X a0 x1 x2 x3 h0 S r rfl hF)
def fX0_findTune_s74 (k20 : Int32 → Int32 → Int32 → St → Option (Int32 × St)) (k29 : Int32 → Int32 → Int32 → Int32 → St → Option (Int32 × St)) (a0 : Nat) (a1 : Nat) (x2 : Int32) (x3 : Int32) (y4 : Int32) (y5 : Int32) (y6 : Int32) (y7 : Int32)  (S : St) : Option (Int32 × St) :=
  k29 y4 y5 y6 (y7 + (1 : Int32)) S
def fX0_findTune_s29 (k20 : Int32 → Int32 → Int32 → St → Option (Int32 × St)) (k29 : Int32 → Int32 → Int32 → Int32 → St → Option (Int32 × St)) (a0 : Nat) (a1 : Nat) (x2 : Int32) (x3 : Int32) (y4 : Int32) (y5 : Int32) (y6 : Int32) (y7 : Int32)  (S : St) : Option (Int32 × St) :=
  if (9 : Int32) < y7 then (k20 y4 y5 (y6 + (1 : Int32)) S) else
  ((fX0_offBy a1 x2 y6 y7 S).bind fun r_5 =>
  if (y5 * y6) ≤ (r_5 * y4) then (fX0_findTune_s74 k20 k29 a0 a1 x2 x3 y4 y5 y6 y7 S) else
  (fX0_findTune_s74 k20 k29 a0 a1 x2 x3 y6 r_5 y6 y7 (sI S 0 0 a0 y7)))
def fX0_findTune_h29 (k20 : Int32 → Int32 → Int32 → St → Option (Int32 × St)) (a0 : Nat) (a1 : Nat) (x2 : Int32) (x3 : Int32) : Nat → Int32 → Int32 → Int32 → Int32 → St → Option (Int32 × St)
  | 0, _, _, _, _, _ => none
  | n + 1, y4, y5, y6, y7, S => fX0_findTune_s29 k20 (fX0_findTune_h29 k20 a0 a1 x2 x3 n) a0 a1 x2 x3 y4 y5 y6 y7 S
def fX0_findTune_s20 (k20 : Int32 → Int32 → Int32 → St → Option (Int32 × St)) (a0 : Nat) (a1 : Nat) (x2 : Int32) (x3 : Int32) (y4 : Int32) (y5 : Int32) (y6 : Int32)  (S : St) : Option (Int32 × St) :=
  if x3 < y6 then (some (y4, S)) else
  (fX0_findTune_h29 k20 a0 a1 x2 x3 NN y4 y5 y6 (0 : Int32) S)
def fX0_findTune_h20 (a0 : Nat) (a1 : Nat) (x2 : Int32) (x3 : Int32) : Nat → Int32 → Int32 → Int32 → St → Option (Int32 × St)
  | 0, _, _, _, _ => none
  | n + 1, y4, y5, y6, S => fX0_findTune_s20 (fX0_findTune_h20 a0 a1 x2 x3 n) a0 a1 x2 x3 y4 y5 y6 S
def fX0_findTune_s8 (a0 : Nat) (a1 : Nat) (x2 : Int32) (x3 : Int32) (y4 : Int32)  (S : St) : Option (Int32 × St) :=
  (fX0_offBy a1 x2 (1 : Int32) (0 : Int32) S).bind fun r_1 =>
  fX0_findTune_h20 a0 a1 x2 x3 NN y4 r_1 (1 : Int32) S
def fX0_findTune (a0 : Nat) (a1 : Nat) (x2 : Int32) (x3 : Int32) (S : St) : Option (Int32 × St) :=
  fX0_findTune_s8 a0 a1 x2 x3 (1 : Int32) (sI S 0 0 a0 (0 : Int32))
theorem wX0_findTune_s74 {z : Mx} {ad : Nat → Nat} {o : Option Value × St} (X : CxOk z ad RX0 cX0_findTune 9 (some .int) 2) (a0 : Nat) (a1 : Nat) (x2 : Int32) (x3 : Int32) (h0 : KT a0 = 0) (h1 : KT a1 = 8) (y4 : Int32) (y5 : Int32) (y6 : Int32) (y7 : Int32)  (k20 : Int32 → Int32 → Int32 → St → Option (Int32 × St)) (k29 : Int32 → Int32 → Int32 → Int32 → St → Option (Int32 × St))   (S : St) (r : (Int32 × St)) (ho : o = (some (.int r.1), r.2)) (hk20 : ∀ (y4 : Int32) (y5 : Int32) (y6 : Int32) (S : St), k20 y4 y5 y6 S = some r → GW z ad o S 20 [(0, .ref (ad a0)), (1, .ref (ad a1)), (2, .int x2), (3, .int x3), (4, .int y4), (5, .int y5), (6, .int y6)] []) (hk29 : ∀ (y4 : Int32) (y5 : Int32) (y6 : Int32) (y7 : Int32) (S : St), k29 y4 y5 y6 y7 S = some r → GW z ad o S 29 [(0, .ref (ad a0)), (1, .ref (ad a1)), (2, .int x2), (3, .int x3), (4, .int y4), (5, .int y5), (6, .int y6), (7, .int y7)] []) (hF : fX0_findTune_s74 k20 k29 a0 a1 x2 x3 y4 y5 y6 y7  S = some r) : GW z ad o S 74 [(0, .ref (ad a0)), (1, .ref (ad a1)), (2, .int x2), (3, .int x3), (4, .int y4), (5, .int y5), (6, .int y6), (7, .int y7)] [] := by
  unfold fX0_findTune_s74 at hF
  refine g_iinc (v := (y7 + (1 : Int32))) X dX0_findTune_74 7 rfl rfl (by decide) (lv' := [(7, .int (y7 + (1 : Int32))), (0, .ref (ad a0)), (1, .ref (ad a1)), (2, .int x2), (3, .int x3), (4, .int y4), (5, .int y5), (6, .int y6)]) rfl ?_
  refine g_goto (tgt := 29) X dX0_findTune_77 (by decide) ?_
  exact g_perm [1, 2, 3, 4, 5, 6, 7, 0] rfl (hk29 y4 y5 y6 (y7 + (1 : Int32)) S hF)
theorem wX0_findTune_s29 {z : Mx} {ad : Nat → Nat} {o : Option Value × St} (X : CxOk z ad RX0 cX0_findTune 9 (some .int) 2) (a0 : Nat) (a1 : Nat) (x2 : Int32) (x3 : Int32) (h0 : KT a0 = 0) (h1 : KT a1 = 8) (y4 : Int32) (y5 : Int32) (y6 : Int32) (y7 : Int32)  (k20 : Int32 → Int32 → Int32 → St → Option (Int32 × St)) (k29 : Int32 → Int32 → Int32 → Int32 → St → Option (Int32 × St))   (S : St) (r : (Int32 × St)) (ho : o = (some (.int r.1), r.2)) (hk20 : ∀ (y4 : Int32) (y5 : Int32) (y6 : Int32) (S : St), k20 y4 y5 y6 S = some r → GW z ad o S 20 [(0, .ref (ad a0)), (1, .ref (ad a1)), (2, .int x2), (3, .int x3), (4, .int y4), (5, .int y5), (6, .int y6)] []) (hk29 : ∀ (y4 : Int32) (y5 : Int32) (y6 : Int32) (y7 : Int32) (S : St), k29 y4 y5 y6 y7 S = some r → GW z ad o S 29 [(0, .ref (ad a0)), (1, .ref (ad a1)), (2, .int x2), (3, .int x3), (4, .int y4), (5, .int y5), (6, .int y6), (7, .int y7)] []) (hF : fX0_findTune_s29 k20 k29 a0 a1 x2 x3 y4 y5 y6 y7  S = some r) : GW z ad o S 29 [(0, .ref (ad a0)), (1, .ref (ad a1)), (2, .int x2), (3, .int x3), (4, .int y4), (5, .int y5), (6, .int y6), (7, .int y7)] [] := by
  unfold fX0_findTune_s29 at hF
  refine g_iload X dX0_findTune_29 7 rfl ?_
  refine g_bipush (v := 9) X dX0_findTune_31 (by decide) ?_
  refine g_icmp_gt (tgt := 80) X dX0_findTune_33 (by decide) (fun c_4 => ?_) (fun c_4 => ?_)
  · rw [if_pos c_4] at hF
    refine g_iinc (v := (y6 + (1 : Int32))) X dX0_findTune_80 6 rfl rfl (by decide) (lv' := [(6, .int (y6 + (1 : Int32))), (0, .ref (ad a0)), (1, .ref (ad a1)), (2, .int x2), (3, .int x3), (4, .int y4), (5, .int y5), (7, .int y7)]) rfl ?_
    refine g_goto (tgt := 20) X dX0_findTune_83 (by decide) ?_
    exact g_perm [1, 2, 3, 4, 5, 6, 0] rfl (hk20 y4 y5 (y6 + (1 : Int32)) S hF)
  · rw [if_neg c_4] at hF
    refine g_aload_n X dX0_findTune_36 1 rfl rfl ?_
    refine g_iload_n X dX0_findTune_37 2 rfl rfl ?_
    refine g_iload X dX0_findTune_38 6 rfl ?_
    refine g_iload X dX0_findTune_40 7 rfl ?_
    obtain ⟨r_5, q_6, hF⟩ := obind hF
    refine g_callSi (As := [.ref (ad a1), .int x2, .int y6, .int y7]) X dX0_findTune_42 mlX0_124 (fun l D cyy => tX0_offBy (cx_inj X) l D cyy a1 x2 y6 y7 h1 S r_5 q_6) (by decide) rfl rfl (Nat.le_of_ble_eq_true rfl) ?_
    refine g_istore X dX0_findTune_45 (by decide) (lv' := [(8, .int r_5), (0, .ref (ad a0)), (1, .ref (ad a1)), (2, .int x2), (3, .int x3), (4, .int y4), (5, .int y5), (6, .int y6), (7, .int y7)]) rfl ?_
    refine g_iload X dX0_findTune_47 0 rfl ?_
    refine g_iload X dX0_findTune_49 5 rfl ?_
    refine g_imul X dX0_findTune_51 ?_
    refine g_iload X dX0_findTune_52 6 rfl ?_
    refine g_iload X dX0_findTune_54 7 rfl ?_
    refine g_imul X dX0_findTune_56 ?_
    refine g_icmp_ge (tgt := 74) X dX0_findTune_57 (by decide) (fun c_7 => ?_) (fun c_7 => ?_)
    · rw [if_pos c_7] at hF
      exact g_perm [1, 2, 3, 4, 5, 6, 7, 8] rfl (wX0_findTune_s74 X a0 a1 x2 x3 h0 h1 y4 y5 y6 y7 k20 k29 S r ho hk20 hk29 hF)
    · rw [if_neg c_7] at hF
      refine g_iload X dX0_findTune_60 0 rfl ?_
      refine g_istore X dX0_findTune_62 (by decide) (lv' := [(5, .int r_5), (8, .int r_5), (0, .ref (ad a0)), (1, .ref (ad a1)), (2, .int x2), (3, .int x3), (4, .int y4), (6, .int y6), (7, .int y7)]) rfl ?_
      refine g_iload X dX0_findTune_64 7 rfl ?_
      refine g_istore X dX0_findTune_66 (by decide) (lv' := [(4, .int y6), (5, .int r_5), (8, .int r_5), (0, .ref (ad a0)), (1, .ref (ad a1)), (2, .int x2), (3, .int x3), (6, .int y6), (7, .int y7)]) rfl ?_
      refine g_aload_n X dX0_findTune_68 3 rfl rfl ?_
      refine g_iload X dX0_findTune_69 8 rfl ?_
      refine g_putI X dX0_findTune_71 fpX0_9 rfl rfl rfl h0 ?_
      exact g_perm [3, 4, 5, 6, 0, 1, 7, 8] rfl (wX0_findTune_s74 X a0 a1 x2 x3 h0 h1 y6 r_5 y6 y7 k20 k29 (sI S 0 0 a0 y7) r ho hk20 hk29 hF)
theorem wX0_findTune_h29 {z : Mx} {ad : Nat → Nat} {o : Option Value × St} (X : CxOk z ad RX0 cX0_findTune 9 (some .int) 2) (a0 : Nat) (a1 : Nat) (x2 : Int32) (x3 : Int32) (h0 : KT a0 = 0) (h1 : KT a1 = 8) (k20 : Int32 → Int32 → Int32 → St → Option (Int32 × St))  (r : (Int32 × St)) (ho : o = (some (.int r.1), r.2)) (hk20 : ∀ (y4 : Int32) (y5 : Int32) (y6 : Int32) (S : St), k20 y4 y5 y6 S = some r → GW z ad o S 20 [(0, .ref (ad a0)), (1, .ref (ad a1)), (2, .int x2), (3, .int x3), (4, .int y4), (5, .int y5), (6, .int y6)] []) : ∀ (n : Nat) (y4 : Int32) (y5 : Int32) (y6 : Int32) (y7 : Int32) (S : St), fX0_findTune_h29 k20 a0 a1 x2 x3 n y4 y5 y6 y7 S = some r → GW z ad o S 29 [(0, .ref (ad a0)), (1, .ref (ad a1)), (2, .int x2), (3, .int x3), (4, .int y4), (5, .int y5), (6, .int y6), (7, .int y7)] [] := by
  intro n
  induction n with
  | zero => intro y4 y5 y6 y7 S  hF; cases hF
  | succ n ih => intro y4 y5 y6 y7 S  hF; exact wX0_findTune_s29 X a0 a1 x2 x3 h0 h1 y4 y5 y6 y7 k20 (fX0_findTune_h29 k20 a0 a1 x2 x3 n)  S r ho hk20 ih hF
theorem wX0_findTune_s20 {z : Mx} {ad : Nat → Nat} {o : Option Value × St} (X : CxOk z ad RX0 cX0_findTune 9 (some .int) 2) (a0 : Nat) (a1 : Nat) (x2 : Int32) (x3 : Int32) (h0 : KT a0 = 0) (h1 : KT a1 = 8) (y4 : Int32) (y5 : Int32) (y6 : Int32)  (k20 : Int32 → Int32 → Int32 → St → Option (Int32 × St))   (S : St) (r : (Int32 × St)) (ho : o = (some (.int r.1), r.2)) (hk20 : ∀ (y4 : Int32) (y5 : Int32) (y6 : Int32) (S : St), k20 y4 y5 y6 S = some r → GW z ad o S 20 [(0, .ref (ad a0)), (1, .ref (ad a1)), (2, .int x2), (3, .int x3), (4, .int y4), (5, .int y5), (6, .int y6)] []) (hF : fX0_findTune_s20 k20 a0 a1 x2 x3 y4 y5 y6  S = some r) : GW z ad o S 20 [(0, .ref (ad a0)), (1, .ref (ad a1)), (2, .int x2), (3, .int x3), (4, .int y4), (5, .int y5), (6, .int y6)] [] := by
  unfold fX0_findTune_s20 at hF
  refine g_iload X dX0_findTune_20 6 rfl ?_
  refine g_iload_n X dX0_findTune_22 3 rfl rfl ?_
  refine g_icmp_gt (tgt := 86) X dX0_findTune_23 (by decide) (fun c_3 => ?_) (fun c_3 => ?_)
  · rw [if_pos c_3] at hF
    refine g_iload X dX0_findTune_86 4 rfl ?_
    have hF := Option.some.inj hF
    subst hF
    exact g_iret X dX0_findTune_88 ho
  · rw [if_neg c_3] at hF
    refine g_iconst (v := 0) X dX0_findTune_26 (by decide) ?_
    refine g_istore X dX0_findTune_27 (by decide) (lv' := [(7, .int (0 : Int32)), (0, .ref (ad a0)), (1, .ref (ad a1)), (2, .int x2), (3, .int x3), (4, .int y4), (5, .int y5), (6, .int y6)]) rfl ?_
    exact g_perm [1, 2, 3, 4, 5, 6, 7, 0] rfl (wX0_findTune_h29 X a0 a1 x2 x3 h0 h1 k20 r ho hk20 NN y4 y5 y6 (0 : Int32) S hF)
theorem wX0_findTune_h20 {z : Mx} {ad : Nat → Nat} {o : Option Value × St} (X : CxOk z ad RX0 cX0_findTune 9 (some .int) 2) (a0 : Nat) (a1 : Nat) (x2 : Int32) (x3 : Int32) (h0 : KT a0 = 0) (h1 : KT a1 = 8)  (r : (Int32 × St)) (ho : o = (some (.int r.1), r.2)) : ∀ (n : Nat) (y4 : Int32) (y5 : Int32) (y6 : Int32) (S : St), fX0_findTune_h20 a0 a1 x2 x3 n y4 y5 y6 S = some r → GW z ad o S 20 [(0, .ref (ad a0)), (1, .ref (ad a1)), (2, .int x2), (3, .int x3), (4, .int y4), (5, .int y5), (6, .int y6)] [] := by
  intro n
  induction n with
  | zero => intro y4 y5 y6 S  hF; cases hF
  | succ n ih => intro y4 y5 y6 S  hF; exact wX0_findTune_s20 X a0 a1 x2 x3 h0 h1 y4 y5 y6 (fX0_findTune_h20 a0 a1 x2 x3 n)  S r ho ih hF
theorem wX0_findTune_s8 {z : Mx} {ad : Nat → Nat} {o : Option Value × St} (X : CxOk z ad RX0 cX0_findTune 9 (some .int) 2) (a0 : Nat) (a1 : Nat) (x2 : Int32) (x3 : Int32) (h0 : KT a0 = 0) (h1 : KT a1 = 8) (y4 : Int32)    (S : St) (r : (Int32 × St)) (ho : o = (some (.int r.1), r.2)) (hF : fX0_findTune_s8 a0 a1 x2 x3 y4  S = some r) : GW z ad o S 8 [(0, .ref (ad a0)), (1, .ref (ad a1)), (2, .int x2), (3, .int x3), (4, .int y4)] [] := by
  unfold fX0_findTune_s8 at hF
  refine g_aload_n X dX0_findTune_8 1 rfl rfl ?_
  refine g_iload_n X dX0_findTune_9 2 rfl rfl ?_
  refine g_iconst (v := 1) X dX0_findTune_10 (by decide) ?_
  refine g_iconst (v := 0) X dX0_findTune_11 (by decide) ?_
  obtain ⟨r_1, q_2, hF⟩ := obind hF
  refine g_callSi (As := [.ref (ad a1), .int x2, .int (1 : Int32), .int (0 : Int32)]) X dX0_findTune_12 mlX0_124 (fun l D cyy => tX0_offBy (cx_inj X) l D cyy a1 x2 (1 : Int32) (0 : Int32) h1 S r_1 q_2) (by decide) rfl rfl (Nat.le_of_ble_eq_true rfl) ?_
  refine g_istore X dX0_findTune_15 (by decide) (lv' := [(5, .int r_1), (0, .ref (ad a0)), (1, .ref (ad a1)), (2, .int x2), (3, .int x3), (4, .int y4)]) rfl ?_
  refine g_iconst (v := 1) X dX0_findTune_17 (by decide) ?_
  refine g_istore X dX0_findTune_18 (by decide) (lv' := [(6, .int (1 : Int32)), (5, .int r_1), (0, .ref (ad a0)), (1, .ref (ad a1)), (2, .int x2), (3, .int x3), (4, .int y4)]) rfl ?_
  exact g_perm [2, 3, 4, 5, 6, 1, 0] rfl (wX0_findTune_h20 X a0 a1 x2 x3 h0 h1 r ho NN y4 r_1 (1 : Int32) S hF)
theorem wX0_findTune {z : Mx} {ad : Nat → Nat} {o : Option Value × St} (X : CxOk z ad RX0 cX0_findTune 9 (some .int) 2) (a0 : Nat) (a1 : Nat) (x2 : Int32) (x3 : Int32) (h0 : KT a0 = 0) (h1 : KT a1 = 8) (S : St) (r : (Int32 × St)) (ho : o = (some (.int r.1), r.2)) (hF : fX0_findTune a0 a1 x2 x3 S = some r) : GW z ad o S 0 [(0, .ref (ad a0)), (1, .ref (ad a1)), (2, .int x2), (3, .int x3)] [] := by
  unfold fX0_findTune at hF
  refine g_iconst (v := 1) X dX0_findTune_0 (by decide) ?_
  refine g_istore X dX0_findTune_1 (by decide) (lv' := [(4, .int (1 : Int32)), (0, .ref (ad a0)), (1, .ref (ad a1)), (2, .int x2), (3, .int x3)]) rfl ?_
  refine g_aload_n X dX0_findTune_3 1 rfl rfl ?_
  refine g_iconst (v := 0) X dX0_findTune_4 (by decide) ?_
  refine g_putI X dX0_findTune_5 fpX0_9 rfl rfl rfl h0 ?_
  exact g_perm [1, 2, 3, 4, 0] rfl (wX0_findTune_s8 X a0 a1 x2 x3 h0 h1 (1 : Int32) (sI S 0 0 a0 (0 : Int32)) r ho hF)
theorem tX0_findTune {ad : Nat → Nat} (hI : Inj ad) (l : Launch) (D : va_G) (cyy : Nat → ClassId) (a0 : Nat) (a1 : Nat) (x2 : Int32) (x3 : Int32) (h0 : KT a0 = 0) (h1 : KT a1 = 8) (S : St) (r : (Int32 × St)) (hF : fX0_findTune a0 a1 x2 x3 S = some r) : OkM l yX0_findTune cX0_findTune 9 (some .int) 2 ad D cyy [.ref (ad a0), .ref (ad a1), .int x2, .int x3] S (some (.int r.1), r.2) := okM_of hI (by decide) (inr_38 _ (List.mem_of_getElem? (i := 17) rfl)) (by show _ ≤ 9; exact Nat.le_of_ble_eq_true rfl) (fun z X => wX0_findTune X a0 a1 x2 x3 h0 h1 S r rfl hF)
def fX0_skipsTo_s21 (k21 : Int32 → Int32 → Int32 → Option Int32) (a0 : Nat) (x1 : Int32) (x2 : Int32) (y3 : Int32) (y4 : Int32) (y5 : Int32)  (S : St) : Option Int32 :=
  if (400 : Int32) < y5 then (some (-1 : Int32)) else
  (if (x1 < 0 ∨ 5 ≤ x1.toNatClampNeg) then none else
  (fX4_dateAt (((a0 + 1) + 1) + 2 + x1.toNatClampNeg) (y4 + y5) S).bind fun r_6 =>
  if r_6 = y3 then (some y5) else
  (k21 y3 y4 (y5 + (1 : Int32))))
def fX0_skipsTo_h21 (a0 : Nat) (x1 : Int32) (x2 : Int32) : Nat → Int32 → Int32 → Int32 → St → Option Int32
  | 0, _, _, _, _ => none
  | n + 1, y3, y4, y5, S => fX0_skipsTo_s21 (fun y3 y4 y5 => fX0_skipsTo_h21 a0 x1 x2 n y3 y4 y5 S) a0 x1 x2 y3 y4 y5 S
def fX0_skipsTo_s18 (a0 : Nat) (x1 : Int32) (x2 : Int32) (y3 : Int32) (y4 : Int32)  (S : St) : Option Int32 :=
  fX0_skipsTo_h21 a0 x1 x2 NN y3 y4 (0 : Int32) S
def fX0_skipsTo (a0 : Nat) (x1 : Int32) (x2 : Int32) (S : St) : Option Int32 :=
  (fX9_dateIn a0 x2 (0 : Int32) S).bind fun r_1 =>
  if (x1 < 0 ∨ 5 ≤ x1.toNatClampNeg) then none else
  fX0_skipsTo_s18 a0 x1 x2 r_1 (gA S 15 ((a0 + 15) + 1) x1.toNatClampNeg) S
theorem wX0_skipsTo_s21 {z : Mx} {ad : Nat → Nat} {o : Option Value × St} (X : CxOk z ad RX0 cX0_skipsTo 6 (some .int) 4) (a0 : Nat) (x1 : Int32) (x2 : Int32) (h0 : KT a0 = 9) (y3 : Int32) (y4 : Int32) (y5 : Int32)  (k21 : Int32 → Int32 → Int32 → Option Int32)   (S : St) (r : Int32) (ho : o = (some (.int r), S)) (hk21 : ∀ (y3 : Int32) (y4 : Int32) (y5 : Int32), k21 y3 y4 y5 = some r → GW z ad o S 21 [(0, .ref (ad a0)), (1, .int x1), (3, .int y3), (4, .int y4), (5, .int y5)] []) (hF : fX0_skipsTo_s21 k21 a0 x1 x2 y3 y4 y5  S = some r) : GW z ad o S 21 [(0, .ref (ad a0)), (1, .int x1), (3, .int y3), (4, .int y4), (5, .int y5)] [] := by
  unfold fX0_skipsTo_s21 at hF
  refine g_iload X dX0_skipsTo_21 4 rfl ?_
  refine g_sipush (v := 400) X dX0_skipsTo_23 (by decide) ?_
  refine g_icmp_gt (tgt := 59) X dX0_skipsTo_26 (by decide) (fun c_4 => ?_) (fun c_4 => ?_)
  · rw [if_pos c_4] at hF
    refine g_iconst (v := -1) X dX0_skipsTo_59 (by decide) ?_
    have hF := Option.some.inj hF
    subst hF
    exact g_iret X dX0_skipsTo_60 ho
  · rw [if_neg c_4] at hF
    refine g_aload_n X dX0_skipsTo_29 0 rfl rfl ?_
    refine g_getR (f := 1) X dX0_skipsTo_30 flX0_27 rfl rfl h0 ?_
    refine g_getR (f := 1) X dX0_skipsTo_33 flX0_48 rfl rfl (on_9_0 h0) ?_
    refine g_iload_n X dX0_skipsTo_36 1 rfl rfl ?_
    obtain ⟨e_5, hF⟩ := oguard hF
    refine g_aaldP X dX0_skipsTo_37 (on_8_0 (on_9_0 h0)) rfl e_5 ?_
    refine g_iload X dX0_skipsTo_38 3 rfl ?_
    refine g_iload X dX0_skipsTo_40 4 rfl ?_
    refine g_iadd X dX0_skipsTo_42 ?_
    obtain ⟨r_6, q_7, hF⟩ := obind hF
    refine g_callVi (As := [.int (y4 + y5)]) X dX0_skipsTo_43 mlX0_131 (fun l D cyy => tX4_dateAt (cx_inj X) l D cyy (((a0 + 1) + 1) + 2 + x1.toNatClampNeg) (y4 + y5) (on_p (on_8_0 (on_9_0 h0)) (inb e_5)) S r_6 q_7) (on_p (on_8_0 (on_9_0 h0)) (inb e_5)) (by decide) rfl rfl (Nat.le_of_ble_eq_true rfl) ?_
    refine g_iload_n X dX0_skipsTo_46 2 rfl rfl ?_
    refine g_icmp_ne (tgt := 53) X dX0_skipsTo_47 (by decide) (fun c_8 => ?_) (fun c_8 => ?_)
    · rw [if_neg c_8] at hF
      refine g_iinc (v := (y5 + (1 : Int32))) X dX0_skipsTo_53 4 rfl rfl (by decide) (lv' := [(5, .int (y5 + (1 : Int32))), (0, .ref (ad a0)), (1, .int x1), (3, .int y3), (4, .int y4)]) rfl ?_
      refine g_goto (tgt := 21) X dX0_skipsTo_56 (by decide) ?_
      exact g_perm [1, 2, 3, 4, 0] rfl (hk21 y3 y4 (y5 + (1 : Int32)) hF)
    · rw [if_pos c_8] at hF
      refine g_iload X dX0_skipsTo_50 4 rfl ?_
      have hF := Option.some.inj hF
      subst hF
      exact g_iret X dX0_skipsTo_52 ho
theorem wX0_skipsTo_h21 {z : Mx} {ad : Nat → Nat} {o : Option Value × St} (X : CxOk z ad RX0 cX0_skipsTo 6 (some .int) 4) (a0 : Nat) (x1 : Int32) (x2 : Int32) (h0 : KT a0 = 9)  (S : St) (r : Int32) (ho : o = (some (.int r), S)) : ∀ (n : Nat) (y3 : Int32) (y4 : Int32) (y5 : Int32), fX0_skipsTo_h21 a0 x1 x2 n y3 y4 y5 S = some r → GW z ad o S 21 [(0, .ref (ad a0)), (1, .int x1), (3, .int y3), (4, .int y4), (5, .int y5)] [] := by
  intro n
  induction n with
  | zero => intro y3 y4 y5  hF; cases hF
  | succ n ih => intro y3 y4 y5  hF; exact wX0_skipsTo_s21 X a0 x1 x2 h0 y3 y4 y5 (fun y3 y4 y5 => fX0_skipsTo_h21 a0 x1 x2 n y3 y4 y5 S)  S r ho (fun y3 y4 y5 hF => ih y3 y4 y5  hF) hF
theorem wX0_skipsTo_s18 {z : Mx} {ad : Nat → Nat} {o : Option Value × St} (X : CxOk z ad RX0 cX0_skipsTo 6 (some .int) 4) (a0 : Nat) (x1 : Int32) (x2 : Int32) (h0 : KT a0 = 9) (y3 : Int32) (y4 : Int32)    (S : St) (r : Int32) (ho : o = (some (.int r), S)) (hF : fX0_skipsTo_s18 a0 x1 x2 y3 y4  S = some r) : GW z ad o S 18 [(0, .ref (ad a0)), (1, .int x1), (3, .int y3), (4, .int y4)] [] := by
  unfold fX0_skipsTo_s18 at hF
  refine g_iconst (v := 0) X dX0_skipsTo_18 (by decide) ?_
  refine g_istore X dX0_skipsTo_19 (by decide) (lv' := [(5, .int (0 : Int32)), (0, .ref (ad a0)), (1, .int x1), (3, .int y3), (4, .int y4)]) rfl ?_
  exact g_perm [1, 2, 3, 4, 0] rfl (wX0_skipsTo_h21 X a0 x1 x2 h0 S r ho NN y3 y4 (0 : Int32) hF)
theorem wX0_skipsTo {z : Mx} {ad : Nat → Nat} {o : Option Value × St} (X : CxOk z ad RX0 cX0_skipsTo 6 (some .int) 4) (a0 : Nat) (x1 : Int32) (x2 : Int32) (h0 : KT a0 = 9) (S : St) (r : Int32) (ho : o = (some (.int r), S)) (hF : fX0_skipsTo a0 x1 x2 S = some r) : GW z ad o S 0 [(0, .ref (ad a0)), (1, .int x1), (2, .int x2)] [] := by
  unfold fX0_skipsTo at hF
  refine g_aload_n X dX0_skipsTo_0 0 rfl rfl ?_
  refine g_iload_n X dX0_skipsTo_1 2 rfl rfl ?_
  refine g_iconst (v := 0) X dX0_skipsTo_2 (by decide) ?_
  obtain ⟨r_1, q_2, hF⟩ := obind hF
  refine g_callVi (As := [.int x2, .int (0 : Int32)]) X dX0_skipsTo_3 mlX0_128 (fun l D cyy => tX9_dateIn (cx_inj X) l D cyy a0 x2 (0 : Int32) h0 S r_1 q_2) h0 (by decide) rfl rfl (Nat.le_of_ble_eq_true rfl) ?_
  refine g_istore_n X dX0_skipsTo_6 rfl (by decide) (lv' := [(3, .int r_1), (0, .ref (ad a0)), (1, .int x1), (2, .int x2)]) rfl ?_
  refine g_aload_n X dX0_skipsTo_7 1 rfl rfl ?_
  refine g_getR (f := 15) X dX0_skipsTo_8 flX0_55 rfl rfl h0 ?_
  refine g_getR (f := 1) X dX0_skipsTo_11 flX0_77 rfl rfl (on_9_1 h0) ?_
  refine g_iload_n X dX0_skipsTo_14 2 rfl rfl ?_
  obtain ⟨e_3, hF⟩ := oguard hF
  refine g_iald X dX0_skipsTo_15 kd_15 (on_2_3 (on_9_1 h0)) e_3 ?_
  refine g_istore X dX0_skipsTo_16 (by decide) (lv' := [(4, .int (gA S 15 ((a0 + 15) + 1) x1.toNatClampNeg)), (3, .int r_1), (0, .ref (ad a0)), (1, .int x1), (2, .int x2)]) rfl ?_
  exact g_perm [2, 3, 1, 0] rfl (wX0_skipsTo_s18 X a0 x1 x2 h0 r_1 (gA S 15 ((a0 + 15) + 1) x1.toNatClampNeg) S r ho hF)
theorem tX0_skipsTo {ad : Nat → Nat} (hI : Inj ad) (l : Launch) (D : va_G) (cyy : Nat → ClassId) (a0 : Nat) (x1 : Int32) (x2 : Int32) (h0 : KT a0 = 9) (S : St) (r : Int32) (hF : fX0_skipsTo a0 x1 x2 S = some r) : OkM l yX0_skipsTo cX0_skipsTo 6 (some .int) 4 ad D cyy [.ref (ad a0), .int x1, .int x2] S (some (.int r), S) := okM_of hI (by decide) (inr_40 _ (List.mem_of_getElem? (i := 0) rfl)) (by show _ ≤ 6; exact Nat.le_of_ble_eq_true rfl) (fun z X => wX0_skipsTo X a0 x1 x2 h0 S r rfl hF)
def fX0_findAgreement_s54 (a0 : Nat) (a1 : Nat) (x2 : Int32) (x3 : Int32) (y4 : Int32)  (S : St) : Option (Int32 × St) :=
  some (y4, S)
def fX0_findAgreement_s49 (a0 : Nat) (a1 : Nat) (x2 : Int32) (x3 : Int32) (y4 : Int32)  (S : St) : Option (Int32 × St) :=
  fX0_findAgreement_s54 a0 a1 x2 x3 y4 (sI S 0 1 a0 x2)
def fX0_findAgreement_s62 (a0 : Nat) (a1 : Nat) (x2 : Int32) (x3 : Int32) (y5 : Int32)  (S : St) : Option (Int32 × St) :=
  some (y5, S)
def fX0_findAgreement_s57 (a0 : Nat) (a1 : Nat) (x2 : Int32) (x3 : Int32) (y5 : Int32)  (S : St) : Option (Int32 × St) :=
  fX0_findAgreement_s62 a0 a1 x2 x3 y5 (sI S 0 1 a0 x3)
def fX0_findAgreement_s30 (a0 : Nat) (a1 : Nat) (x2 : Int32) (x3 : Int32) (y4 : Int32) (y5 : Int32)  (S : St) : Option (Int32 × St) :=
  if y5 = (-1 : Int32) then (fX0_findAgreement_s49 a0 a1 x2 x3 y4 S) else
  (if y4 = (-1 : Int32) then (fX0_findAgreement_s57 a0 a1 x2 x3 y5 S) else
  (if y5 < y4 then (fX0_findAgreement_s57 a0 a1 x2 x3 y5 S) else
  (fX0_findAgreement_s49 a0 a1 x2 x3 y4 S)))
def fX0_findAgreement (a0 : Nat) (a1 : Nat) (x2 : Int32) (x3 : Int32) (S : St) : Option (Int32 × St) :=
  (fX0_skipsTo a1 x2 x3 S).bind fun r_1 =>
  (fX0_skipsTo a1 x3 x2 S).bind fun r_3 =>
  if r_1 = (-1 : Int32) then (if r_3 = (-1 : Int32) then (some ((-1 : Int32), S)) else
  (fX0_findAgreement_s30 a0 a1 x2 x3 r_1 r_3 S)) else
  (fX0_findAgreement_s30 a0 a1 x2 x3 r_1 r_3 S)
theorem wX0_findAgreement_s54 {z : Mx} {ad : Nat → Nat} {o : Option Value × St} (X : CxOk z ad RX0 cX0_findAgreement 6 (some .int) 5) (a0 : Nat) (a1 : Nat) (x2 : Int32) (x3 : Int32) (h0 : KT a0 = 0) (h1 : KT a1 = 9) (y4 : Int32)    (S : St) (r : (Int32 × St)) (ho : o = (some (.int r.1), r.2)) (hF : fX0_findAgreement_s54 a0 a1 x2 x3 y4  S = some r) : GW z ad o S 54 [(4, .int y4)] [] := by
  unfold fX0_findAgreement_s54 at hF
  refine g_iload X dX0_findAgreement_54 0 rfl ?_
  have hF := Option.some.inj hF
  subst hF
  exact g_iret X dX0_findAgreement_56 ho
theorem wX0_findAgreement_s49 {z : Mx} {ad : Nat → Nat} {o : Option Value × St} (X : CxOk z ad RX0 cX0_findAgreement 6 (some .int) 5) (a0 : Nat) (a1 : Nat) (x2 : Int32) (x3 : Int32) (h0 : KT a0 = 0) (h1 : KT a1 = 9) (y4 : Int32)    (S : St) (r : (Int32 × St)) (ho : o = (some (.int r.1), r.2)) (hF : fX0_findAgreement_s49 a0 a1 x2 x3 y4  S = some r) : GW z ad o S 49 [(0, .ref (ad a0)), (2, .int x2), (4, .int y4)] [] := by
  unfold fX0_findAgreement_s49 at hF
  refine g_aload_n X dX0_findAgreement_49 0 rfl rfl ?_
  refine g_iload_n X dX0_findAgreement_50 1 rfl rfl ?_
  refine g_putI X dX0_findAgreement_51 fpX0_15 rfl rfl rfl h0 ?_
  exact g_perm [2] rfl (wX0_findAgreement_s54 X a0 a1 x2 x3 h0 h1 y4 (sI S 0 1 a0 x2) r ho hF)
theorem wX0_findAgreement_s62 {z : Mx} {ad : Nat → Nat} {o : Option Value × St} (X : CxOk z ad RX0 cX0_findAgreement 6 (some .int) 5) (a0 : Nat) (a1 : Nat) (x2 : Int32) (x3 : Int32) (h0 : KT a0 = 0) (h1 : KT a1 = 9) (y5 : Int32)    (S : St) (r : (Int32 × St)) (ho : o = (some (.int r.1), r.2)) (hF : fX0_findAgreement_s62 a0 a1 x2 x3 y5  S = some r) : GW z ad o S 62 [(5, .int y5)] [] := by
  unfold fX0_findAgreement_s62 at hF
  refine g_iload X dX0_findAgreement_62 0 rfl ?_
  have hF := Option.some.inj hF
  subst hF
  exact g_iret X dX0_findAgreement_64 ho
theorem wX0_findAgreement_s57 {z : Mx} {ad : Nat → Nat} {o : Option Value × St} (X : CxOk z ad RX0 cX0_findAgreement 6 (some .int) 5) (a0 : Nat) (a1 : Nat) (x2 : Int32) (x3 : Int32) (h0 : KT a0 = 0) (h1 : KT a1 = 9) (y5 : Int32)    (S : St) (r : (Int32 × St)) (ho : o = (some (.int r.1), r.2)) (hF : fX0_findAgreement_s57 a0 a1 x2 x3 y5  S = some r) : GW z ad o S 57 [(0, .ref (ad a0)), (3, .int x3), (5, .int y5)] [] := by
  unfold fX0_findAgreement_s57 at hF
  refine g_aload_n X dX0_findAgreement_57 0 rfl rfl ?_
  refine g_iload_n X dX0_findAgreement_58 1 rfl rfl ?_
  refine g_putI X dX0_findAgreement_59 fpX0_15 rfl rfl rfl h0 ?_
  exact g_perm [2] rfl (wX0_findAgreement_s62 X a0 a1 x2 x3 h0 h1 y5 (sI S 0 1 a0 x3) r ho hF)
theorem wX0_findAgreement_s30 {z : Mx} {ad : Nat → Nat} {o : Option Value × St} (X : CxOk z ad RX0 cX0_findAgreement 6 (some .int) 5) (a0 : Nat) (a1 : Nat) (x2 : Int32) (x3 : Int32) (h0 : KT a0 = 0) (h1 : KT a1 = 9) (y4 : Int32) (y5 : Int32)    (S : St) (r : (Int32 × St)) (ho : o = (some (.int r.1), r.2)) (hF : fX0_findAgreement_s30 a0 a1 x2 x3 y4 y5  S = some r) : GW z ad o S 30 [(0, .ref (ad a0)), (2, .int x2), (3, .int x3), (4, .int y4), (5, .int y5)] [] := by
  unfold fX0_findAgreement_s30 at hF
  refine g_iload X dX0_findAgreement_30 4 rfl ?_
  refine g_iconst (v := -1) X dX0_findAgreement_32 (by decide) ?_
  refine g_icmp_eq (tgt := 49) X dX0_findAgreement_33 (by decide) (fun c_6 => ?_) (fun c_6 => ?_)
  · rw [if_pos c_6] at hF
    exact g_perm [0, 1, 3] rfl (wX0_findAgreement_s49 X a0 a1 x2 x3 h0 h1 y4 S r ho hF)
  · rw [if_neg c_6] at hF
    refine g_iload X dX0_findAgreement_36 3 rfl ?_
    refine g_iconst (v := -1) X dX0_findAgreement_38 (by decide) ?_
    refine g_icmp_eq (tgt := 57) X dX0_findAgreement_39 (by decide) (fun c_7 => ?_) (fun c_7 => ?_)
    · rw [if_pos c_7] at hF
      exact g_perm [0, 2, 4] rfl (wX0_findAgreement_s57 X a0 a1 x2 x3 h0 h1 y5 S r ho hF)
    · rw [if_neg c_7] at hF
      refine g_iload X dX0_findAgreement_42 3 rfl ?_
      refine g_iload X dX0_findAgreement_44 4 rfl ?_
      refine g_icmp_gt (tgt := 57) X dX0_findAgreement_46 (by decide) (fun c_8 => ?_) (fun c_8 => ?_)
      · rw [if_pos c_8] at hF
        exact g_perm [0, 2, 4] rfl (wX0_findAgreement_s57 X a0 a1 x2 x3 h0 h1 y5 S r ho hF)
      · rw [if_neg c_8] at hF
        exact g_perm [0, 1, 3] rfl (wX0_findAgreement_s49 X a0 a1 x2 x3 h0 h1 y4 S r ho hF)
theorem wX0_findAgreement {z : Mx} {ad : Nat → Nat} {o : Option Value × St} (X : CxOk z ad RX0 cX0_findAgreement 6 (some .int) 5) (a0 : Nat) (a1 : Nat) (x2 : Int32) (x3 : Int32) (h0 : KT a0 = 0) (h1 : KT a1 = 9) (S : St) (r : (Int32 × St)) (ho : o = (some (.int r.1), r.2)) (hF : fX0_findAgreement a0 a1 x2 x3 S = some r) : GW z ad o S 0 [(0, .ref (ad a0)), (1, .ref (ad a1)), (2, .int x2), (3, .int x3)] [] := by
  unfold fX0_findAgreement at hF
  refine g_aload_n X dX0_findAgreement_0 1 rfl rfl ?_
  refine g_iload_n X dX0_findAgreement_1 2 rfl rfl ?_
  refine g_iload_n X dX0_findAgreement_2 3 rfl rfl ?_
  obtain ⟨r_1, q_2, hF⟩ := obind hF
  refine g_callSi (As := [.ref (ad a1), .int x2, .int x3]) X dX0_findAgreement_3 mlX0_134 (fun l D cyy => tX0_skipsTo (cx_inj X) l D cyy a1 x2 x3 h1 S r_1 q_2) (by decide) rfl rfl (Nat.le_of_ble_eq_true rfl) ?_
  refine g_istore X dX0_findAgreement_6 (by decide) (lv' := [(4, .int r_1), (0, .ref (ad a0)), (1, .ref (ad a1)), (2, .int x2), (3, .int x3)]) rfl ?_
  refine g_aload_n X dX0_findAgreement_8 2 rfl rfl ?_
  refine g_iload_n X dX0_findAgreement_9 4 rfl rfl ?_
  refine g_iload_n X dX0_findAgreement_10 3 rfl rfl ?_
  obtain ⟨r_3, q_4, hF⟩ := obind hF
  refine g_callSi (As := [.ref (ad a1), .int x3, .int x2]) X dX0_findAgreement_11 mlX0_134 (fun l D cyy => tX0_skipsTo (cx_inj X) l D cyy a1 x3 x2 h1 S r_3 q_4) (by decide) rfl rfl (Nat.le_of_ble_eq_true rfl) ?_
  refine g_istore X dX0_findAgreement_14 (by decide) (lv' := [(5, .int r_3), (4, .int r_1), (0, .ref (ad a0)), (1, .ref (ad a1)), (2, .int x2), (3, .int x3)]) rfl ?_
  refine g_iload X dX0_findAgreement_16 1 rfl ?_
  refine g_iconst (v := -1) X dX0_findAgreement_18 (by decide) ?_
  refine g_icmp_ne (tgt := 30) X dX0_findAgreement_19 (by decide) (fun c_5 => ?_) (fun c_5 => ?_)
  · rw [if_neg c_5] at hF
    exact g_perm [2, 4, 5, 1, 0] rfl (wX0_findAgreement_s30 X a0 a1 x2 x3 h0 h1 r_1 r_3 S r ho hF)
  · rw [if_pos c_5] at hF
    refine g_iload X dX0_findAgreement_22 0 rfl ?_
    refine g_iconst (v := -1) X dX0_findAgreement_24 (by decide) ?_
    refine g_icmp_ne (tgt := 30) X dX0_findAgreement_25 (by decide) (fun c_9 => ?_) (fun c_9 => ?_)
    · rw [if_neg c_9] at hF
      exact g_perm [2, 4, 5, 1, 0] rfl (wX0_findAgreement_s30 X a0 a1 x2 x3 h0 h1 r_1 r_3 S r ho hF)
    · rw [if_pos c_9] at hF
      refine g_iconst (v := -1) X dX0_findAgreement_28 (by decide) ?_
      have hF := Option.some.inj hF
      subst hF
      exact g_iret X dX0_findAgreement_29 ho
theorem tX0_findAgreement {ad : Nat → Nat} (hI : Inj ad) (l : Launch) (D : va_G) (cyy : Nat → ClassId) (a0 : Nat) (a1 : Nat) (x2 : Int32) (x3 : Int32) (h0 : KT a0 = 0) (h1 : KT a1 = 9) (S : St) (r : (Int32 × St)) (hF : fX0_findAgreement a0 a1 x2 x3 S = some r) : OkM l yX0_findAgreement cX0_findAgreement 6 (some .int) 5 ad D cyy [.ref (ad a0), .ref (ad a1), .int x2, .int x3] S (some (.int r.1), r.2) := okM_of hI (by decide) (inr_39 _ (List.mem_of_getElem? (i := 21) rfl)) (by show _ ≤ 6; exact Nat.le_of_ble_eq_true rfl) (fun z X => wX0_findAgreement X a0 a1 x2 x3 h0 h1 S r rfl hF)
def fX0_countMatches_s44 (k6 : Int32 → Int32 → St → Option (Int32 × St)) (a0 : Nat) (a1 : Nat) (x2 : Int32) (x3 : Int32) (x4 : Int32) (y5 : Int32) (y6 : Int32)  (S : St) : Option (Int32 × St) :=
  k6 y5 (y6 + (1 : Int32)) S
def fX0_countMatches_s41 (k6 : Int32 → Int32 → St → Option (Int32 × St)) (a0 : Nat) (a1 : Nat) (x2 : Int32) (x3 : Int32) (x4 : Int32) (y5 : Int32) (y6 : Int32)  (S : St) : Option (Int32 × St) :=
  fX0_countMatches_s44 k6 a0 a1 x2 x3 x4 (y5 + (1 : Int32)) y6 S
def fX0_countMatches_s6 (k6 : Int32 → Int32 → St → Option (Int32 × St)) (a0 : Nat) (a1 : Nat) (x2 : Int32) (x3 : Int32) (x4 : Int32) (y5 : Int32) (y6 : Int32)  (S : St) : Option (Int32 × St) :=
  if x4 < y6 then (some (y5, S)) else
  ((fX9_dateIn a1 x2 y6 S).bind fun r_2 =>
  (fX9_dateIn a1 x3 y6 S).bind fun r_4 =>
  if r_2 = r_4 then (if y5 = 0 then (fX0_countMatches_s41 k6 a0 a1 x2 x3 x4 y5 y6 (sI S 0 2 a0 y6)) else
  (fX0_countMatches_s41 k6 a0 a1 x2 x3 x4 y5 y6 S)) else
  (fX0_countMatches_s44 k6 a0 a1 x2 x3 x4 y5 y6 S))
def fX0_countMatches_h6 (a0 : Nat) (a1 : Nat) (x2 : Int32) (x3 : Int32) (x4 : Int32) : Nat → Int32 → Int32 → St → Option (Int32 × St)
  | 0, _, _, _ => none
  | n + 1, y5, y6, S => fX0_countMatches_s6 (fX0_countMatches_h6 a0 a1 x2 x3 x4 n) a0 a1 x2 x3 x4 y5 y6 S
def fX0_countMatches (a0 : Nat) (a1 : Nat) (x2 : Int32) (x3 : Int32) (x4 : Int32) (S : St) : Option (Int32 × St) :=
  fX0_countMatches_h6 a0 a1 x2 x3 x4 NN (0 : Int32) (0 : Int32) S
theorem wX0_countMatches_s44 {z : Mx} {ad : Nat → Nat} {o : Option Value × St} (X : CxOk z ad RX0 cX0_countMatches 7 (some .int) 4) (a0 : Nat) (a1 : Nat) (x2 : Int32) (x3 : Int32) (x4 : Int32) (h0 : KT a0 = 0) (h1 : KT a1 = 9) (y5 : Int32) (y6 : Int32)  (k6 : Int32 → Int32 → St → Option (Int32 × St))   (S : St) (r : (Int32 × St)) (ho : o = (some (.int r.1), r.2)) (hk6 : ∀ (y5 : Int32) (y6 : Int32) (S : St), k6 y5 y6 S = some r → GW z ad o S 6 [(0, .ref (ad a0)), (1, .ref (ad a1)), (2, .int x2), (3, .int x3), (4, .int x4), (5, .int y5), (6, .int y6)] []) (hF : fX0_countMatches_s44 k6 a0 a1 x2 x3 x4 y5 y6  S = some r) : GW z ad o S 44 [(0, .ref (ad a0)), (1, .ref (ad a1)), (2, .int x2), (3, .int x3), (4, .int x4), (5, .int y5), (6, .int y6)] [] := by
  unfold fX0_countMatches_s44 at hF
  refine g_iinc (v := (y6 + (1 : Int32))) X dX0_countMatches_44 6 rfl rfl (by decide) (lv' := [(6, .int (y6 + (1 : Int32))), (0, .ref (ad a0)), (1, .ref (ad a1)), (2, .int x2), (3, .int x3), (4, .int x4), (5, .int y5)]) rfl ?_
  refine g_goto (tgt := 6) X dX0_countMatches_47 (by decide) ?_
  exact g_perm [1, 2, 3, 4, 5, 6, 0] rfl (hk6 y5 (y6 + (1 : Int32)) S hF)
theorem wX0_countMatches_s41 {z : Mx} {ad : Nat → Nat} {o : Option Value × St} (X : CxOk z ad RX0 cX0_countMatches 7 (some .int) 4) (a0 : Nat) (a1 : Nat) (x2 : Int32) (x3 : Int32) (x4 : Int32) (h0 : KT a0 = 0) (h1 : KT a1 = 9) (y5 : Int32) (y6 : Int32)  (k6 : Int32 → Int32 → St → Option (Int32 × St))   (S : St) (r : (Int32 × St)) (ho : o = (some (.int r.1), r.2)) (hk6 : ∀ (y5 : Int32) (y6 : Int32) (S : St), k6 y5 y6 S = some r → GW z ad o S 6 [(0, .ref (ad a0)), (1, .ref (ad a1)), (2, .int x2), (3, .int x3), (4, .int x4), (5, .int y5), (6, .int y6)] []) (hF : fX0_countMatches_s41 k6 a0 a1 x2 x3 x4 y5 y6  S = some r) : GW z ad o S 41 [(0, .ref (ad a0)), (1, .ref (ad a1)), (2, .int x2), (3, .int x3), (4, .int x4), (5, .int y5), (6, .int y6)] [] := by
  unfold fX0_countMatches_s41 at hF
  refine g_iinc (v := (y5 + (1 : Int32))) X dX0_countMatches_41 5 rfl rfl (by decide) (lv' := [(5, .int (y5 + (1 : Int32))), (0, .ref (ad a0)), (1, .ref (ad a1)), (2, .int x2), (3, .int x3), (4, .int x4), (6, .int y6)]) rfl ?_
  exact g_perm [1, 2, 3, 4, 5, 0, 6] rfl (wX0_countMatches_s44 X a0 a1 x2 x3 x4 h0 h1 (y5 + (1 : Int32)) y6 k6 S r ho hk6 hF)
theorem wX0_countMatches_s6 {z : Mx} {ad : Nat → Nat} {o : Option Value × St} (X : CxOk z ad RX0 cX0_countMatches 7 (some .int) 4) (a0 : Nat) (a1 : Nat) (x2 : Int32) (x3 : Int32) (x4 : Int32) (h0 : KT a0 = 0) (h1 : KT a1 = 9) (y5 : Int32) (y6 : Int32)  (k6 : Int32 → Int32 → St → Option (Int32 × St))   (S : St) (r : (Int32 × St)) (ho : o = (some (.int r.1), r.2)) (hk6 : ∀ (y5 : Int32) (y6 : Int32) (S : St), k6 y5 y6 S = some r → GW z ad o S 6 [(0, .ref (ad a0)), (1, .ref (ad a1)), (2, .int x2), (3, .int x3), (4, .int x4), (5, .int y5), (6, .int y6)] []) (hF : fX0_countMatches_s6 k6 a0 a1 x2 x3 x4 y5 y6  S = some r) : GW z ad o S 6 [(0, .ref (ad a0)), (1, .ref (ad a1)), (2, .int x2), (3, .int x3), (4, .int x4), (5, .int y5), (6, .int y6)] [] := by
  unfold fX0_countMatches_s6 at hF
  refine g_iload X dX0_countMatches_6 6 rfl ?_
  refine g_iload X dX0_countMatches_8 4 rfl ?_
  refine g_icmp_gt (tgt := 50) X dX0_countMatches_10 (by decide) (fun c_1 => ?_) (fun c_1 => ?_)
  · rw [if_pos c_1] at hF
    refine g_iload X dX0_countMatches_50 5 rfl ?_
    have hF := Option.some.inj hF
    subst hF
    exact g_iret X dX0_countMatches_52 ho
  · rw [if_neg c_1] at hF
    refine g_aload_n X dX0_countMatches_13 1 rfl rfl ?_
    refine g_iload_n X dX0_countMatches_14 2 rfl rfl ?_
    refine g_iload X dX0_countMatches_15 6 rfl ?_
    obtain ⟨r_2, q_3, hF⟩ := obind hF
    refine g_callVi (As := [.int x2, .int y6]) X dX0_countMatches_17 mlX0_128 (fun l D cyy => tX9_dateIn (cx_inj X) l D cyy a1 x2 y6 h1 S r_2 q_3) h1 (by decide) rfl rfl (Nat.le_of_ble_eq_true rfl) ?_
    refine g_aload_n X dX0_countMatches_20 1 rfl rfl ?_
    refine g_iload_n X dX0_countMatches_21 3 rfl rfl ?_
    refine g_iload X dX0_countMatches_22 6 rfl ?_
    obtain ⟨r_4, q_5, hF⟩ := obind hF
    refine g_callVi (As := [.int x3, .int y6]) X dX0_countMatches_24 mlX0_128 (fun l D cyy => tX9_dateIn (cx_inj X) l D cyy a1 x3 y6 h1 S r_4 q_5) h1 (by decide) rfl rfl (Nat.le_of_ble_eq_true rfl) ?_
    refine g_icmp_ne (tgt := 44) X dX0_countMatches_27 (by decide) (fun c_6 => ?_) (fun c_6 => ?_)
    · rw [if_neg c_6] at hF
      exact (wX0_countMatches_s44 X a0 a1 x2 x3 x4 h0 h1 y5 y6 k6 S r ho hk6 hF)
    · rw [if_pos c_6] at hF
      refine g_iload X dX0_countMatches_30 5 rfl ?_
      refine g_if_ne (tgt := 41) X dX0_countMatches_32 (by decide) (fun c_7 => ?_) (fun c_7 => ?_)
      · rw [if_neg c_7] at hF
        exact (wX0_countMatches_s41 X a0 a1 x2 x3 x4 h0 h1 y5 y6 k6 S r ho hk6 hF)
      · rw [if_pos c_7] at hF
        refine g_aload_n X dX0_countMatches_35 0 rfl rfl ?_
        refine g_iload X dX0_countMatches_36 6 rfl ?_
        refine g_putI X dX0_countMatches_38 fpX0_18 rfl rfl rfl h0 ?_
        exact (wX0_countMatches_s41 X a0 a1 x2 x3 x4 h0 h1 y5 y6 k6 (sI S 0 2 a0 y6) r ho hk6 hF)
theorem wX0_countMatches_h6 {z : Mx} {ad : Nat → Nat} {o : Option Value × St} (X : CxOk z ad RX0 cX0_countMatches 7 (some .int) 4) (a0 : Nat) (a1 : Nat) (x2 : Int32) (x3 : Int32) (x4 : Int32) (h0 : KT a0 = 0) (h1 : KT a1 = 9)  (r : (Int32 × St)) (ho : o = (some (.int r.1), r.2)) : ∀ (n : Nat) (y5 : Int32) (y6 : Int32) (S : St), fX0_countMatches_h6 a0 a1 x2 x3 x4 n y5 y6 S = some r → GW z ad o S 6 [(0, .ref (ad a0)), (1, .ref (ad a1)), (2, .int x2), (3, .int x3), (4, .int x4), (5, .int y5), (6, .int y6)] [] := by
  intro n
  induction n with
  | zero => intro y5 y6 S  hF; cases hF
  | succ n ih => intro y5 y6 S  hF; exact wX0_countMatches_s6 X a0 a1 x2 x3 x4 h0 h1 y5 y6 (fX0_countMatches_h6 a0 a1 x2 x3 x4 n)  S r ho ih hF
theorem wX0_countMatches {z : Mx} {ad : Nat → Nat} {o : Option Value × St} (X : CxOk z ad RX0 cX0_countMatches 7 (some .int) 4) (a0 : Nat) (a1 : Nat) (x2 : Int32) (x3 : Int32) (x4 : Int32) (h0 : KT a0 = 0) (h1 : KT a1 = 9) (S : St) (r : (Int32 × St)) (ho : o = (some (.int r.1), r.2)) (hF : fX0_countMatches a0 a1 x2 x3 x4 S = some r) : GW z ad o S 0 [(0, .ref (ad a0)), (1, .ref (ad a1)), (2, .int x2), (3, .int x3), (4, .int x4)] [] := by
  unfold fX0_countMatches at hF
  refine g_iconst (v := 0) X dX0_countMatches_0 (by decide) ?_
  refine g_istore X dX0_countMatches_1 (by decide) (lv' := [(5, .int (0 : Int32)), (0, .ref (ad a0)), (1, .ref (ad a1)), (2, .int x2), (3, .int x3), (4, .int x4)]) rfl ?_
  refine g_iconst (v := 0) X dX0_countMatches_3 (by decide) ?_
  refine g_istore X dX0_countMatches_4 (by decide) (lv' := [(6, .int (0 : Int32)), (5, .int (0 : Int32)), (0, .ref (ad a0)), (1, .ref (ad a1)), (2, .int x2), (3, .int x3), (4, .int x4)]) rfl ?_
  exact g_perm [2, 3, 4, 5, 6, 1, 0] rfl (wX0_countMatches_h6 X a0 a1 x2 x3 x4 h0 h1 r ho NN (0 : Int32) (0 : Int32) S hF)
theorem tX0_countMatches {ad : Nat → Nat} (hI : Inj ad) (l : Launch) (D : va_G) (cyy : Nat → ClassId) (a0 : Nat) (a1 : Nat) (x2 : Int32) (x3 : Int32) (x4 : Int32) (h0 : KT a0 = 0) (h1 : KT a1 = 9) (S : St) (r : (Int32 × St)) (hF : fX0_countMatches a0 a1 x2 x3 x4 S = some r) : OkM l yX0_countMatches cX0_countMatches 7 (some .int) 4 ad D cyy [.ref (ad a0), .ref (ad a1), .int x2, .int x3, .int x4] S (some (.int r.1), r.2) := okM_of hI (by decide) (inr_41 _ (List.mem_of_getElem? (i := 4) rfl)) (by show _ ≤ 7; exact Nat.le_of_ble_eq_true rfl) (fun z X => wX0_countMatches X a0 a1 x2 x3 x4 h0 h1 S r rfl hF)
def fX0_skipsOfAllTo_s36 (k4 : Int32 → Int32 → Option Int32) (a0 : Nat) (x1 : Int32) (y2 : Int32) (y3 : Int32)  (S : St) : Option Int32 :=
  k4 y2 (y3 + (1 : Int32))
def fX0_skipsOfAllTo_s4 (k4 : Int32 → Int32 → Option Int32) (a0 : Nat) (x1 : Int32) (y2 : Int32) (y3 : Int32)  (S : St) : Option Int32 :=
  if (gI S 8 2 (a0 + 1)) ≤ y3 then (some y2) else
  ((fX0_skipsTo a0 y3 x1 S).bind fun r_2 =>
  if r_2 = (-1 : Int32) then (some (-1 : Int32)) else
  (fX0_skipsOfAllTo_s36 k4 a0 x1 (y2 + r_2) y3 S))
def fX0_skipsOfAllTo_h4 (a0 : Nat) (x1 : Int32) : Nat → Int32 → Int32 → St → Option Int32
  | 0, _, _, _ => none
  | n + 1, y2, y3, S => fX0_skipsOfAllTo_s4 (fun y2 y3 => fX0_skipsOfAllTo_h4 a0 x1 n y2 y3 S) a0 x1 y2 y3 S
def fX0_skipsOfAllTo (a0 : Nat) (x1 : Int32) (S : St) : Option Int32 :=
  fX0_skipsOfAllTo_h4 a0 x1 NN (0 : Int32) (0 : Int32) S
theorem wX0_skipsOfAllTo_s36 {z : Mx} {ad : Nat → Nat} {o : Option Value × St} (X : CxOk z ad RX0 cX0_skipsOfAllTo 5 (some .int) 5) (a0 : Nat) (x1 : Int32) (h0 : KT a0 = 9) (y2 : Int32) (y3 : Int32)  (k4 : Int32 → Int32 → Option Int32)   (S : St) (r : Int32) (ho : o = (some (.int r), S)) (hk4 : ∀ (y2 : Int32) (y3 : Int32), k4 y2 y3 = some r → GW z ad o S 4 [(0, .ref (ad a0)), (1, .int x1), (2, .int y2), (3, .int y3)] []) (hF : fX0_skipsOfAllTo_s36 k4 a0 x1 y2 y3  S = some r) : GW z ad o S 36 [(0, .ref (ad a0)), (1, .int x1), (2, .int y2), (3, .int y3)] [] := by
  unfold fX0_skipsOfAllTo_s36 at hF
  refine g_iinc (v := (y3 + (1 : Int32))) X dX0_skipsOfAllTo_36 3 rfl rfl (by decide) (lv' := [(3, .int (y3 + (1 : Int32))), (0, .ref (ad a0)), (1, .int x1), (2, .int y2)]) rfl ?_
  refine g_goto (tgt := 4) X dX0_skipsOfAllTo_39 (by decide) ?_
  exact g_perm [1, 2, 3, 0] rfl (hk4 y2 (y3 + (1 : Int32)) hF)
theorem wX0_skipsOfAllTo_s4 {z : Mx} {ad : Nat → Nat} {o : Option Value × St} (X : CxOk z ad RX0 cX0_skipsOfAllTo 5 (some .int) 5) (a0 : Nat) (x1 : Int32) (h0 : KT a0 = 9) (y2 : Int32) (y3 : Int32)  (k4 : Int32 → Int32 → Option Int32)   (S : St) (r : Int32) (ho : o = (some (.int r), S)) (hk4 : ∀ (y2 : Int32) (y3 : Int32), k4 y2 y3 = some r → GW z ad o S 4 [(0, .ref (ad a0)), (1, .int x1), (2, .int y2), (3, .int y3)] []) (hF : fX0_skipsOfAllTo_s4 k4 a0 x1 y2 y3  S = some r) : GW z ad o S 4 [(0, .ref (ad a0)), (1, .int x1), (2, .int y2), (3, .int y3)] [] := by
  unfold fX0_skipsOfAllTo_s4 at hF
  refine g_iload_n X dX0_skipsOfAllTo_4 3 rfl rfl ?_
  refine g_aload_n X dX0_skipsOfAllTo_5 0 rfl rfl ?_
  refine g_getR (f := 1) X dX0_skipsOfAllTo_6 flX0_27 rfl rfl h0 ?_
  refine g_getI X dX0_skipsOfAllTo_9 flX0_92 rfl (on_9_0 h0) ?_
  refine g_icmp_ge (tgt := 42) X dX0_skipsOfAllTo_12 (by decide) (fun c_1 => ?_) (fun c_1 => ?_)
  · rw [if_pos c_1] at hF
    refine g_iload_n X dX0_skipsOfAllTo_42 2 rfl rfl ?_
    have hF := Option.some.inj hF
    subst hF
    exact g_iret X dX0_skipsOfAllTo_43 ho
  · rw [if_neg c_1] at hF
    refine g_aload_n X dX0_skipsOfAllTo_15 0 rfl rfl ?_
    refine g_iload_n X dX0_skipsOfAllTo_16 3 rfl rfl ?_
    refine g_iload_n X dX0_skipsOfAllTo_17 1 rfl rfl ?_
    obtain ⟨r_2, q_3, hF⟩ := obind hF
    refine g_callSi (As := [.ref (ad a0), .int y3, .int x1]) X dX0_skipsOfAllTo_18 mlX0_134 (fun l D cyy => tX0_skipsTo (cx_inj X) l D cyy a0 y3 x1 h0 S r_2 q_3) (by decide) rfl rfl (Nat.le_of_ble_eq_true rfl) ?_
    refine g_istore X dX0_skipsOfAllTo_21 (by decide) (lv' := [(4, .int r_2), (0, .ref (ad a0)), (1, .int x1), (2, .int y2), (3, .int y3)]) rfl ?_
    refine g_iload X dX0_skipsOfAllTo_23 0 rfl ?_
    refine g_iconst (v := -1) X dX0_skipsOfAllTo_25 (by decide) ?_
    refine g_icmp_ne (tgt := 31) X dX0_skipsOfAllTo_26 (by decide) (fun c_4 => ?_) (fun c_4 => ?_)
    · rw [if_neg c_4] at hF
      refine g_iload_n X dX0_skipsOfAllTo_31 3 rfl rfl ?_
      refine g_iload X dX0_skipsOfAllTo_32 0 rfl ?_
      refine g_iadd X dX0_skipsOfAllTo_34 ?_
      refine g_istore_n X dX0_skipsOfAllTo_35 rfl (by decide) (lv' := [(2, .int (y2 + r_2)), (4, .int r_2), (0, .ref (ad a0)), (1, .int x1), (3, .int y3)]) rfl ?_
      exact g_perm [2, 3, 0, 4] rfl (wX0_skipsOfAllTo_s36 X a0 x1 h0 (y2 + r_2) y3 k4 S r ho hk4 hF)
    · rw [if_pos c_4] at hF
      refine g_iconst (v := -1) X dX0_skipsOfAllTo_29 (by decide) ?_
      have hF := Option.some.inj hF
      subst hF
      exact g_iret X dX0_skipsOfAllTo_30 ho
theorem wX0_skipsOfAllTo_h4 {z : Mx} {ad : Nat → Nat} {o : Option Value × St} (X : CxOk z ad RX0 cX0_skipsOfAllTo 5 (some .int) 5) (a0 : Nat) (x1 : Int32) (h0 : KT a0 = 9)  (S : St) (r : Int32) (ho : o = (some (.int r), S)) : ∀ (n : Nat) (y2 : Int32) (y3 : Int32), fX0_skipsOfAllTo_h4 a0 x1 n y2 y3 S = some r → GW z ad o S 4 [(0, .ref (ad a0)), (1, .int x1), (2, .int y2), (3, .int y3)] [] := by
  intro n
  induction n with
  | zero => intro y2 y3  hF; cases hF
  | succ n ih => intro y2 y3  hF; exact wX0_skipsOfAllTo_s4 X a0 x1 h0 y2 y3 (fun y2 y3 => fX0_skipsOfAllTo_h4 a0 x1 n y2 y3 S)  S r ho (fun y2 y3 hF => ih y2 y3  hF) hF
theorem wX0_skipsOfAllTo {z : Mx} {ad : Nat → Nat} {o : Option Value × St} (X : CxOk z ad RX0 cX0_skipsOfAllTo 5 (some .int) 5) (a0 : Nat) (x1 : Int32) (h0 : KT a0 = 9) (S : St) (r : Int32) (ho : o = (some (.int r), S)) (hF : fX0_skipsOfAllTo a0 x1 S = some r) : GW z ad o S 0 [(0, .ref (ad a0)), (1, .int x1)] [] := by
  unfold fX0_skipsOfAllTo at hF
  refine g_iconst (v := 0) X dX0_skipsOfAllTo_0 (by decide) ?_
  refine g_istore_n X dX0_skipsOfAllTo_1 rfl (by decide) (lv' := [(2, .int (0 : Int32)), (0, .ref (ad a0)), (1, .int x1)]) rfl ?_
  refine g_iconst (v := 0) X dX0_skipsOfAllTo_2 (by decide) ?_
  refine g_istore_n X dX0_skipsOfAllTo_3 rfl (by decide) (lv' := [(3, .int (0 : Int32)), (2, .int (0 : Int32)), (0, .ref (ad a0)), (1, .int x1)]) rfl ?_
  exact g_perm [2, 3, 1, 0] rfl (wX0_skipsOfAllTo_h4 X a0 x1 h0 S r ho NN (0 : Int32) (0 : Int32) hF)
theorem tX0_skipsOfAllTo {ad : Nat → Nat} (hI : Inj ad) (l : Launch) (D : va_G) (cyy : Nat → ClassId) (a0 : Nat) (x1 : Int32) (h0 : KT a0 = 9) (S : St) (r : Int32) (hF : fX0_skipsOfAllTo a0 x1 S = some r) : OkM l yX0_skipsOfAllTo cX0_skipsOfAllTo 5 (some .int) 5 ad D cyy [.ref (ad a0), .int x1] S (some (.int r), S) := okM_of hI (by decide) (inr_42 _ (List.mem_of_getElem? (i := 6) rfl)) (by show _ ≤ 5; exact Nat.le_of_ble_eq_true rfl) (fun z X => wX0_skipsOfAllTo X a0 x1 h0 S r rfl hF)
def fX0_findReform_s47 (k4 : Int32 → Int32 → St → Option (Int32 × St)) (a0 : Nat) (a1 : Nat) (y2 : Int32) (y3 : Int32)  (S : St) : Option (Int32 × St) :=
  k4 y2 (y3 + (1 : Int32)) S
def fX0_findReform_s39 (k4 : Int32 → Int32 → St → Option (Int32 × St)) (a0 : Nat) (a1 : Nat) (y3 : Int32) (y4 : Int32)  (S : St) : Option (Int32 × St) :=
  fX0_findReform_s47 k4 a0 a1 y4 y3 (sI S 0 3 a0 y3)
def fX0_findReform_s4 (k4 : Int32 → Int32 → St → Option (Int32 × St)) (a0 : Nat) (a1 : Nat) (y2 : Int32) (y3 : Int32)  (S : St) : Option (Int32 × St) :=
  if (gI S 8 2 (a1 + 1)) ≤ y3 then (some (y2, S)) else
  ((fX0_skipsOfAllTo a1 y3 S).bind fun r_2 =>
  if r_2 = (-1 : Int32) then (fX0_findReform_s47 k4 a0 a1 y2 y3 S) else
  (if y2 = (-1 : Int32) then (fX0_findReform_s39 k4 a0 a1 y3 r_2 S) else
  (if y2 ≤ r_2 then (fX0_findReform_s47 k4 a0 a1 y2 y3 S) else
  (fX0_findReform_s39 k4 a0 a1 y3 r_2 S))))
def fX0_findReform_h4 (a0 : Nat) (a1 : Nat) : Nat → Int32 → Int32 → St → Option (Int32 × St)
  | 0, _, _, _ => none
  | n + 1, y2, y3, S => fX0_findReform_s4 (fX0_findReform_h4 a0 a1 n) a0 a1 y2 y3 S
def fX0_findReform (a0 : Nat) (a1 : Nat) (S : St) : Option (Int32 × St) :=
  fX0_findReform_h4 a0 a1 NN (-1 : Int32) (0 : Int32) S
theorem wX0_findReform_s47 {z : Mx} {ad : Nat → Nat} {o : Option Value × St} (X : CxOk z ad RX0 cX0_findReform 5 (some .int) 6) (a0 : Nat) (a1 : Nat) (h0 : KT a0 = 0) (h1 : KT a1 = 9) (y2 : Int32) (y3 : Int32)  (k4 : Int32 → Int32 → St → Option (Int32 × St))   (S : St) (r : (Int32 × St)) (ho : o = (some (.int r.1), r.2)) (hk4 : ∀ (y2 : Int32) (y3 : Int32) (S : St), k4 y2 y3 S = some r → GW z ad o S 4 [(0, .ref (ad a0)), (1, .ref (ad a1)), (2, .int y2), (3, .int y3)] []) (hF : fX0_findReform_s47 k4 a0 a1 y2 y3  S = some r) : GW z ad o S 47 [(0, .ref (ad a0)), (1, .ref (ad a1)), (2, .int y2), (3, .int y3)] [] := by
  unfold fX0_findReform_s47 at hF
  refine g_iinc (v := (y3 + (1 : Int32))) X dX0_findReform_47 3 rfl rfl (by decide) (lv' := [(3, .int (y3 + (1 : Int32))), (0, .ref (ad a0)), (1, .ref (ad a1)), (2, .int y2)]) rfl ?_
  refine g_goto (tgt := 4) X dX0_findReform_50 (by decide) ?_
  exact g_perm [1, 2, 3, 0] rfl (hk4 y2 (y3 + (1 : Int32)) S hF)
theorem wX0_findReform_s39 {z : Mx} {ad : Nat → Nat} {o : Option Value × St} (X : CxOk z ad RX0 cX0_findReform 5 (some .int) 6) (a0 : Nat) (a1 : Nat) (h0 : KT a0 = 0) (h1 : KT a1 = 9) (y3 : Int32) (y4 : Int32)  (k4 : Int32 → Int32 → St → Option (Int32 × St))   (S : St) (r : (Int32 × St)) (ho : o = (some (.int r.1), r.2)) (hk4 : ∀ (y2 : Int32) (y3 : Int32) (S : St), k4 y2 y3 S = some r → GW z ad o S 4 [(0, .ref (ad a0)), (1, .ref (ad a1)), (2, .int y2), (3, .int y3)] []) (hF : fX0_findReform_s39 k4 a0 a1 y3 y4  S = some r) : GW z ad o S 39 [(0, .ref (ad a0)), (1, .ref (ad a1)), (3, .int y3), (4, .int y4)] [] := by
  unfold fX0_findReform_s39 at hF
  refine g_iload X dX0_findReform_39 3 rfl ?_
  refine g_istore_n X dX0_findReform_41 rfl (by decide) (lv' := [(2, .int y4), (0, .ref (ad a0)), (1, .ref (ad a1)), (3, .int y3), (4, .int y4)]) rfl ?_
  refine g_aload_n X dX0_findReform_42 1 rfl rfl ?_
  refine g_iload_n X dX0_findReform_43 3 rfl rfl ?_
  refine g_putI X dX0_findReform_44 fpX0_21 rfl rfl rfl h0 ?_
  exact g_perm [1, 2, 0, 3] rfl (wX0_findReform_s47 X a0 a1 h0 h1 y4 y3 k4 (sI S 0 3 a0 y3) r ho hk4 hF)
theorem wX0_findReform_s4 {z : Mx} {ad : Nat → Nat} {o : Option Value × St} (X : CxOk z ad RX0 cX0_findReform 5 (some .int) 6) (a0 : Nat) (a1 : Nat) (h0 : KT a0 = 0) (h1 : KT a1 = 9) (y2 : Int32) (y3 : Int32)  (k4 : Int32 → Int32 → St → Option (Int32 × St))   (S : St) (r : (Int32 × St)) (ho : o = (some (.int r.1), r.2)) (hk4 : ∀ (y2 : Int32) (y3 : Int32) (S : St), k4 y2 y3 S = some r → GW z ad o S 4 [(0, .ref (ad a0)), (1, .ref (ad a1)), (2, .int y2), (3, .int y3)] []) (hF : fX0_findReform_s4 k4 a0 a1 y2 y3  S = some r) : GW z ad o S 4 [(0, .ref (ad a0)), (1, .ref (ad a1)), (2, .int y2), (3, .int y3)] [] := by
  unfold fX0_findReform_s4 at hF
  refine g_iload_n X dX0_findReform_4 3 rfl rfl ?_
  refine g_aload_n X dX0_findReform_5 1 rfl rfl ?_
  refine g_getR (f := 1) X dX0_findReform_6 flX0_27 rfl rfl h1 ?_
  refine g_getI X dX0_findReform_9 flX0_92 rfl (on_9_0 h1) ?_
  refine g_icmp_ge (tgt := 53) X dX0_findReform_12 (by decide) (fun c_1 => ?_) (fun c_1 => ?_)
  · rw [if_pos c_1] at hF
    refine g_iload_n X dX0_findReform_53 2 rfl rfl ?_
    have hF := Option.some.inj hF
    subst hF
    exact g_iret X dX0_findReform_54 ho
  · rw [if_neg c_1] at hF
    refine g_aload_n X dX0_findReform_15 1 rfl rfl ?_
    refine g_iload_n X dX0_findReform_16 3 rfl rfl ?_
    obtain ⟨r_2, q_3, hF⟩ := obind hF
    refine g_callSi (As := [.ref (ad a1), .int y3]) X dX0_findReform_17 mlX0_138 (fun l D cyy => tX0_skipsOfAllTo (cx_inj X) l D cyy a1 y3 h1 S r_2 q_3) (by decide) rfl rfl (Nat.le_of_ble_eq_true rfl) ?_
    refine g_istore X dX0_findReform_20 (by decide) (lv' := [(4, .int r_2), (0, .ref (ad a0)), (1, .ref (ad a1)), (2, .int y2), (3, .int y3)]) rfl ?_
    refine g_iload X dX0_findReform_22 0 rfl ?_
    refine g_iconst (v := -1) X dX0_findReform_24 (by decide) ?_
    refine g_icmp_eq (tgt := 47) X dX0_findReform_25 (by decide) (fun c_4 => ?_) (fun c_4 => ?_)
    · rw [if_pos c_4] at hF
      exact g_perm [1, 2, 3, 4] rfl (wX0_findReform_s47 X a0 a1 h0 h1 y2 y3 k4 S r ho hk4 hF)
    · rw [if_neg c_4] at hF
      refine g_iload_n X dX0_findReform_28 3 rfl rfl ?_
      refine g_iconst (v := -1) X dX0_findReform_29 (by decide) ?_
      refine g_icmp_eq (tgt := 39) X dX0_findReform_30 (by decide) (fun c_5 => ?_) (fun c_5 => ?_)
      · rw [if_pos c_5] at hF
        exact g_perm [1, 2, 4, 0] rfl (wX0_findReform_s39 X a0 a1 h0 h1 y3 r_2 k4 S r ho hk4 hF)
      · rw [if_neg c_5] at hF
        refine g_iload X dX0_findReform_33 0 rfl ?_
        refine g_iload_n X dX0_findReform_35 3 rfl rfl ?_
        refine g_icmp_ge (tgt := 47) X dX0_findReform_36 (by decide) (fun c_6 => ?_) (fun c_6 => ?_)
        · rw [if_pos c_6] at hF
          exact g_perm [1, 2, 3, 4] rfl (wX0_findReform_s47 X a0 a1 h0 h1 y2 y3 k4 S r ho hk4 hF)
        · rw [if_neg c_6] at hF
          exact g_perm [1, 2, 4, 0] rfl (wX0_findReform_s39 X a0 a1 h0 h1 y3 r_2 k4 S r ho hk4 hF)
theorem wX0_findReform_h4 {z : Mx} {ad : Nat → Nat} {o : Option Value × St} (X : CxOk z ad RX0 cX0_findReform 5 (some .int) 6) (a0 : Nat) (a1 : Nat) (h0 : KT a0 = 0) (h1 : KT a1 = 9)  (r : (Int32 × St)) (ho : o = (some (.int r.1), r.2)) : ∀ (n : Nat) (y2 : Int32) (y3 : Int32) (S : St), fX0_findReform_h4 a0 a1 n y2 y3 S = some r → GW z ad o S 4 [(0, .ref (ad a0)), (1, .ref (ad a1)), (2, .int y2), (3, .int y3)] [] := by
  intro n
  induction n with
  | zero => intro y2 y3 S  hF; cases hF
  | succ n ih => intro y2 y3 S  hF; exact wX0_findReform_s4 X a0 a1 h0 h1 y2 y3 (fX0_findReform_h4 a0 a1 n)  S r ho ih hF
theorem wX0_findReform {z : Mx} {ad : Nat → Nat} {o : Option Value × St} (X : CxOk z ad RX0 cX0_findReform 5 (some .int) 6) (a0 : Nat) (a1 : Nat) (h0 : KT a0 = 0) (h1 : KT a1 = 9) (S : St) (r : (Int32 × St)) (ho : o = (some (.int r.1), r.2)) (hF : fX0_findReform a0 a1 S = some r) : GW z ad o S 0 [(0, .ref (ad a0)), (1, .ref (ad a1))] [] := by
  unfold fX0_findReform at hF
  refine g_iconst (v := -1) X dX0_findReform_0 (by decide) ?_
  refine g_istore_n X dX0_findReform_1 rfl (by decide) (lv' := [(2, .int (-1 : Int32)), (0, .ref (ad a0)), (1, .ref (ad a1))]) rfl ?_
  refine g_iconst (v := 0) X dX0_findReform_2 (by decide) ?_
  refine g_istore_n X dX0_findReform_3 rfl (by decide) (lv' := [(3, .int (0 : Int32)), (2, .int (-1 : Int32)), (0, .ref (ad a0)), (1, .ref (ad a1))]) rfl ?_
  exact g_perm [2, 3, 1, 0] rfl (wX0_findReform_h4 X a0 a1 h0 h1 r ho NN (-1 : Int32) (0 : Int32) S hF)
theorem tX0_findReform {ad : Nat → Nat} (hI : Inj ad) (l : Launch) (D : va_G) (cyy : Nat → ClassId) (a0 : Nat) (a1 : Nat) (h0 : KT a0 = 0) (h1 : KT a1 = 9) (S : St) (r : (Int32 × St)) (hF : fX0_findReform a0 a1 S = some r) : OkM l yX0_findReform cX0_findReform 5 (some .int) 6 ad D cyy [.ref (ad a0), .ref (ad a1)] S (some (.int r.1), r.2) := okM_of hI (by decide) (inr_42 _ (List.mem_of_getElem? (i := 3) rfl)) (by show _ ≤ 5; exact Nat.le_of_ble_eq_true rfl) (fun z X => wX0_findReform X a0 a1 h0 h1 S r rfl hF)
def fX0_findMove_s26 (a0 : Nat) (a1 : Nat) (x2 : Int32) (x3 : Int32) (x4 : Int32) (y6 : Int32)  (S : St) : Option Int32 :=
  if y6 = 0 then (some (-1 : Int32)) else
  (some y6)
def fX0_findMove (a0 : Nat) (a1 : Nat) (x2 : Int32) (x3 : Int32) (x4 : Int32) (S : St) : Option Int32 :=
  (fX0_skipsTo a1 x2 x3 S).bind fun r_1 =>
  if 0 ≤ r_1 then (if (x4 + (1 : Int32)) = 0 then none else
  fX0_findMove_s26 a0 a1 x2 x3 x4 (r_1 - r_1 / (x4 + (1 : Int32)) * (x4 + (1 : Int32))) S) else
  (some (-1 : Int32))
theorem wX0_findMove_s26 {z : Mx} {ad : Nat → Nat} {o : Option Value × St} (X : CxOk z ad RX0 cX0_findMove 7 (some .int) 5) (a0 : Nat) (a1 : Nat) (x2 : Int32) (x3 : Int32) (x4 : Int32) (h0 : KT a0 = 0) (h1 : KT a1 = 9) (y6 : Int32)    (S : St) (r : Int32) (ho : o = (some (.int r), S)) (hF : fX0_findMove_s26 a0 a1 x2 x3 x4 y6  S = some r) : GW z ad o S 26 [(6, .int y6)] [] := by
  unfold fX0_findMove_s26 at hF
  refine g_iload X dX0_findMove_26 0 rfl ?_
  refine g_if_ne (tgt := 35) X dX0_findMove_28 (by decide) (fun c_5 => ?_) (fun c_5 => ?_)
  · rw [if_neg c_5] at hF
    refine g_iload X dX0_findMove_35 0 rfl ?_
    have hF := Option.some.inj hF
    subst hF
    exact g_iret X dX0_findMove_37 ho
  · rw [if_pos c_5] at hF
    refine g_iconst (v := -1) X dX0_findMove_31 (by decide) ?_
    refine g_goto (tgt := 37) X dX0_findMove_32 (by decide) ?_
    have hF := Option.some.inj hF
    subst hF
    exact g_iret X dX0_findMove_37 ho
theorem wX0_findMove {z : Mx} {ad : Nat → Nat} {o : Option Value × St} (X : CxOk z ad RX0 cX0_findMove 7 (some .int) 5) (a0 : Nat) (a1 : Nat) (x2 : Int32) (x3 : Int32) (x4 : Int32) (h0 : KT a0 = 0) (h1 : KT a1 = 9) (S : St) (r : Int32) (ho : o = (some (.int r), S)) (hF : fX0_findMove a0 a1 x2 x3 x4 S = some r) : GW z ad o S 0 [(0, .ref (ad a0)), (1, .ref (ad a1)), (2, .int x2), (3, .int x3), (4, .int x4)] [] := by
  unfold fX0_findMove at hF
  refine g_aload_n X dX0_findMove_0 1 rfl rfl ?_
  refine g_iload_n X dX0_findMove_1 2 rfl rfl ?_
  refine g_iload_n X dX0_findMove_2 3 rfl rfl ?_
  obtain ⟨r_1, q_2, hF⟩ := obind hF
  refine g_callSi (As := [.ref (ad a1), .int x2, .int x3]) X dX0_findMove_3 mlX0_134 (fun l D cyy => tX0_skipsTo (cx_inj X) l D cyy a1 x2 x3 h1 S r_1 q_2) (by decide) rfl rfl (Nat.le_of_ble_eq_true rfl) ?_
  refine g_istore X dX0_findMove_6 (by decide) (lv' := [(5, .int r_1), (0, .ref (ad a0)), (1, .ref (ad a1)), (2, .int x2), (3, .int x3), (4, .int x4)]) rfl ?_
  refine g_iload X dX0_findMove_8 0 rfl ?_
  refine g_if_ge (tgt := 17) X dX0_findMove_10 (by decide) (fun c_3 => ?_) (fun c_3 => ?_)
  · rw [if_pos c_3] at hF
    refine g_iload X dX0_findMove_17 0 rfl ?_
    refine g_iload X dX0_findMove_19 5 rfl ?_
    refine g_iconst (v := 1) X dX0_findMove_21 (by decide) ?_
    refine g_iadd X dX0_findMove_22 ?_
    obtain ⟨e_4, hF⟩ := oguard hF
    refine g_irem X dX0_findMove_23 e_4 ?_
    refine g_istore X dX0_findMove_24 (by decide) (lv' := [(6, .int (r_1 - r_1 / (x4 + (1 : Int32)) * (x4 + (1 : Int32)))), (5, .int r_1), (0, .ref (ad a0)), (1, .ref (ad a1)), (2, .int x2), (3, .int x3), (4, .int x4)]) rfl ?_
    exact g_perm [0] rfl (wX0_findMove_s26 X a0 a1 x2 x3 x4 h0 h1 (r_1 - r_1 / (x4 + (1 : Int32)) * (x4 + (1 : Int32))) S r ho hF)
  · rw [if_neg c_3] at hF
    refine g_iconst (v := 0) X dX0_findMove_13 (by decide) ?_
    refine g_goto (tgt := 24) X dX0_findMove_14 (by decide) ?_
    refine g_istore X dX0_findMove_24 (by decide) (lv' := [(6, .int (0 : Int32)), (5, .int r_1), (0, .ref (ad a0)), (1, .ref (ad a1)), (2, .int x2), (3, .int x3), (4, .int x4)]) rfl ?_
    refine g_iload X dX0_findMove_26 0 rfl ?_
    refine g_if_ne (tgt := 35) X dX0_findMove_28 (by decide) (fun c0 => absurd c0 (by decide)) (fun _ => ?_)
    refine g_iconst (v := -1) X dX0_findMove_31 (by decide) ?_
    refine g_goto (tgt := 37) X dX0_findMove_32 (by decide) ?_
    have hF := Option.some.inj hF
    subst hF
    exact g_iret X dX0_findMove_37 ho
theorem tX0_findMove {ad : Nat → Nat} (hI : Inj ad) (l : Launch) (D : va_G) (cyy : Nat → ClassId) (a0 : Nat) (a1 : Nat) (x2 : Int32) (x3 : Int32) (x4 : Int32) (h0 : KT a0 = 0) (h1 : KT a1 = 9) (S : St) (r : Int32) (hF : fX0_findMove a0 a1 x2 x3 x4 S = some r) : OkM l yX0_findMove cX0_findMove 7 (some .int) 5 ad D cyy [.ref (ad a0), .ref (ad a1), .int x2, .int x3, .int x4] S (some (.int r), S) := okM_of hI (by decide) (inr_43 _ (List.mem_of_getElem? (i := 3) rfl)) (by show _ ≤ 7; exact Nat.le_of_ble_eq_true rfl) (fun z X => wX0_findMove X a0 a1 x2 x3 x4 h0 h1 S r rfl hF)
def fX0_countFalling_s27 (k4 : Int32 → Int32 → Option Int32) (a0 : Nat) (x1 : Int32) (y2 : Int32) (y3 : Int32)  (S : St) : Option Int32 :=
  k4 y2 (y3 + (1 : Int32))
def fX0_countFalling_s4 (k4 : Int32 → Int32 → Option Int32) (a0 : Nat) (x1 : Int32) (y2 : Int32) (y3 : Int32)  (S : St) : Option Int32 :=
  if (gI S 8 3 (a0 + 1)) ≤ y3 then (some y2) else
  ((fX9_fallsOn a0 y3 x1 S).bind fun r_2 =>
  if r_2 = 0 then (fX0_countFalling_s27 k4 a0 x1 y2 y3 S) else
  (fX0_countFalling_s27 k4 a0 x1 (y2 + (1 : Int32)) y3 S))
def fX0_countFalling_h4 (a0 : Nat) (x1 : Int32) : Nat → Int32 → Int32 → St → Option Int32
  | 0, _, _, _ => none
  | n + 1, y2, y3, S => fX0_countFalling_s4 (fun y2 y3 => fX0_countFalling_h4 a0 x1 n y2 y3 S) a0 x1 y2 y3 S
def fX0_countFalling (a0 : Nat) (x1 : Int32) (S : St) : Option Int32 :=
  fX0_countFalling_h4 a0 x1 NN (0 : Int32) (0 : Int32) S
theorem wX0_countFalling_s27 {z : Mx} {ad : Nat → Nat} {o : Option Value × St} (X : CxOk z ad RX0 cX0_countFalling 4 (some .int) 5) (a0 : Nat) (x1 : Int32) (h0 : KT a0 = 9) (y2 : Int32) (y3 : Int32)  (k4 : Int32 → Int32 → Option Int32)   (S : St) (r : Int32) (ho : o = (some (.int r), S)) (hk4 : ∀ (y2 : Int32) (y3 : Int32), k4 y2 y3 = some r → GW z ad o S 4 [(0, .ref (ad a0)), (1, .int x1), (2, .int y2), (3, .int y3)] []) (hF : fX0_countFalling_s27 k4 a0 x1 y2 y3  S = some r) : GW z ad o S 27 [(0, .ref (ad a0)), (1, .int x1), (2, .int y2), (3, .int y3)] [] := by
  unfold fX0_countFalling_s27 at hF
  refine g_iinc (v := (y3 + (1 : Int32))) X dX0_countFalling_27 3 rfl rfl (by decide) (lv' := [(3, .int (y3 + (1 : Int32))), (0, .ref (ad a0)), (1, .int x1), (2, .int y2)]) rfl ?_
  refine g_goto (tgt := 4) X dX0_countFalling_30 (by decide) ?_
  exact g_perm [1, 2, 3, 0] rfl (hk4 y2 (y3 + (1 : Int32)) hF)
theorem wX0_countFalling_s4 {z : Mx} {ad : Nat → Nat} {o : Option Value × St} (X : CxOk z ad RX0 cX0_countFalling 4 (some .int) 5) (a0 : Nat) (x1 : Int32) (h0 : KT a0 = 9) (y2 : Int32) (y3 : Int32)  (k4 : Int32 → Int32 → Option Int32)   (S : St) (r : Int32) (ho : o = (some (.int r), S)) (hk4 : ∀ (y2 : Int32) (y3 : Int32), k4 y2 y3 = some r → GW z ad o S 4 [(0, .ref (ad a0)), (1, .int x1), (2, .int y2), (3, .int y3)] []) (hF : fX0_countFalling_s4 k4 a0 x1 y2 y3  S = some r) : GW z ad o S 4 [(0, .ref (ad a0)), (1, .int x1), (2, .int y2), (3, .int y3)] [] := by
  unfold fX0_countFalling_s4 at hF
  refine g_iload_n X dX0_countFalling_4 3 rfl rfl ?_
  refine g_aload_n X dX0_countFalling_5 0 rfl rfl ?_
  refine g_getR (f := 1) X dX0_countFalling_6 flX0_27 rfl rfl h0 ?_
  refine g_getI X dX0_countFalling_9 flX0_145 rfl (on_9_0 h0) ?_
  refine g_icmp_ge (tgt := 33) X dX0_countFalling_12 (by decide) (fun c_1 => ?_) (fun c_1 => ?_)
  · rw [if_pos c_1] at hF
    refine g_iload_n X dX0_countFalling_33 2 rfl rfl ?_
    have hF := Option.some.inj hF
    subst hF
    exact g_iret X dX0_countFalling_34 ho
  · rw [if_neg c_1] at hF
    refine g_aload_n X dX0_countFalling_15 0 rfl rfl ?_
    refine g_iload_n X dX0_countFalling_16 3 rfl rfl ?_
    refine g_iload_n X dX0_countFalling_17 1 rfl rfl ?_
    obtain ⟨r_2, q_3, hF⟩ := obind hF
    refine g_callVi (As := [.int y3, .int x1]) X dX0_countFalling_18 mlX0_51 (fun l D cyy => tX9_fallsOn (cx_inj X) l D cyy a0 y3 x1 h0 S r_2 q_3) h0 (by decide) rfl rfl (Nat.le_of_ble_eq_true rfl) ?_
    refine g_if_eq (tgt := 27) X dX0_countFalling_21 (by decide) (fun c_4 => ?_) (fun c_4 => ?_)
    · rw [if_pos c_4] at hF
      exact (wX0_countFalling_s27 X a0 x1 h0 y2 y3 k4 S r ho hk4 hF)
    · rw [if_neg c_4] at hF
      refine g_iinc (v := (y2 + (1 : Int32))) X dX0_countFalling_24 2 rfl rfl (by decide) (lv' := [(2, .int (y2 + (1 : Int32))), (0, .ref (ad a0)), (1, .int x1), (3, .int y3)]) rfl ?_
      exact g_perm [1, 2, 0, 3] rfl (wX0_countFalling_s27 X a0 x1 h0 (y2 + (1 : Int32)) y3 k4 S r ho hk4 hF)
theorem wX0_countFalling_h4 {z : Mx} {ad : Nat → Nat} {o : Option Value × St} (X : CxOk z ad RX0 cX0_countFalling 4 (some .int) 5) (a0 : Nat) (x1 : Int32) (h0 : KT a0 = 9)  (S : St) (r : Int32) (ho : o = (some (.int r), S)) : ∀ (n : Nat) (y2 : Int32) (y3 : Int32), fX0_countFalling_h4 a0 x1 n y2 y3 S = some r → GW z ad o S 4 [(0, .ref (ad a0)), (1, .int x1), (2, .int y2), (3, .int y3)] [] := by
  intro n
  induction n with
  | zero => intro y2 y3  hF; cases hF
  | succ n ih => intro y2 y3  hF; exact wX0_countFalling_s4 X a0 x1 h0 y2 y3 (fun y2 y3 => fX0_countFalling_h4 a0 x1 n y2 y3 S)  S r ho (fun y2 y3 hF => ih y2 y3  hF) hF
theorem wX0_countFalling {z : Mx} {ad : Nat → Nat} {o : Option Value × St} (X : CxOk z ad RX0 cX0_countFalling 4 (some .int) 5) (a0 : Nat) (x1 : Int32) (h0 : KT a0 = 9) (S : St) (r : Int32) (ho : o = (some (.int r), S)) (hF : fX0_countFalling a0 x1 S = some r) : GW z ad o S 0 [(0, .ref (ad a0)), (1, .int x1)] [] := by
  unfold fX0_countFalling at hF
  refine g_iconst (v := 0) X dX0_countFalling_0 (by decide) ?_
  refine g_istore_n X dX0_countFalling_1 rfl (by decide) (lv' := [(2, .int (0 : Int32)), (0, .ref (ad a0)), (1, .int x1)]) rfl ?_
  refine g_iconst (v := 0) X dX0_countFalling_2 (by decide) ?_
  refine g_istore_n X dX0_countFalling_3 rfl (by decide) (lv' := [(3, .int (0 : Int32)), (2, .int (0 : Int32)), (0, .ref (ad a0)), (1, .int x1)]) rfl ?_
  exact g_perm [2, 3, 1, 0] rfl (wX0_countFalling_h4 X a0 x1 h0 S r ho NN (0 : Int32) (0 : Int32) hF)
theorem tX0_countFalling {ad : Nat → Nat} (hI : Inj ad) (l : Launch) (D : va_G) (cyy : Nat → ClassId) (a0 : Nat) (x1 : Int32) (h0 : KT a0 = 9) (S : St) (r : Int32) (hF : fX0_countFalling a0 x1 S = some r) : OkM l yX0_countFalling cX0_countFalling 4 (some .int) 5 ad D cyy [.ref (ad a0), .int x1] S (some (.int r), S) := okM_of hI (by decide) (inr_43 _ (List.mem_of_getElem? (i := 18) rfl)) (by show _ ≤ 4; exact Nat.le_of_ble_eq_true rfl) (fun z X => wX0_countFalling X a0 x1 h0 S r rfl hF)
def fX0_findCrowd_s34 (k5 : Int32 → Int32 → St → Option (Int32 × St)) (a0 : Nat) (a1 : Nat) (x2 : Int32) (y3 : Int32) (y4 : Int32)  (S : St) : Option (Int32 × St) :=
  k5 y3 (y4 + (1 : Int32)) S
def fX0_findCrowd_s5 (k5 : Int32 → Int32 → St → Option (Int32 × St)) (a0 : Nat) (a1 : Nat) (x2 : Int32) (y3 : Int32) (y4 : Int32)  (S : St) : Option (Int32 × St) :=
  if x2 < y4 then (some (y3, S)) else
  ((fX0_countFalling a1 y4 S).bind fun r_2 =>
  if r_2 ≤ y3 then (fX0_findCrowd_s34 k5 a0 a1 x2 y3 y4 S) else
  (fX0_findCrowd_s34 k5 a0 a1 x2 r_2 y4 (sI S 0 4 a0 y4)))
def fX0_findCrowd_h5 (a0 : Nat) (a1 : Nat) (x2 : Int32) : Nat → Int32 → Int32 → St → Option (Int32 × St)
  | 0, _, _, _ => none
  | n + 1, y3, y4, S => fX0_findCrowd_s5 (fX0_findCrowd_h5 a0 a1 x2 n) a0 a1 x2 y3 y4 S
def fX0_findCrowd (a0 : Nat) (a1 : Nat) (x2 : Int32) (S : St) : Option (Int32 × St) :=
  fX0_findCrowd_h5 a0 a1 x2 NN (-1 : Int32) (0 : Int32) S
theorem wX0_findCrowd_s34 {z : Mx} {ad : Nat → Nat} {o : Option Value × St} (X : CxOk z ad RX0 cX0_findCrowd 6 (some .int) 6) (a0 : Nat) (a1 : Nat) (x2 : Int32) (h0 : KT a0 = 0) (h1 : KT a1 = 9) (y3 : Int32) (y4 : Int32)  (k5 : Int32 → Int32 → St → Option (Int32 × St))   (S : St) (r : (Int32 × St)) (ho : o = (some (.int r.1), r.2)) (hk5 : ∀ (y3 : Int32) (y4 : Int32) (S : St), k5 y3 y4 S = some r → GW z ad o S 5 [(0, .ref (ad a0)), (1, .ref (ad a1)), (2, .int x2), (3, .int y3), (4, .int y4)] []) (hF : fX0_findCrowd_s34 k5 a0 a1 x2 y3 y4  S = some r) : GW z ad o S 34 [(0, .ref (ad a0)), (1, .ref (ad a1)), (2, .int x2), (3, .int y3), (4, .int y4)] [] := by
  unfold fX0_findCrowd_s34 at hF
  refine g_iinc (v := (y4 + (1 : Int32))) X dX0_findCrowd_34 4 rfl rfl (by decide) (lv' := [(4, .int (y4 + (1 : Int32))), (0, .ref (ad a0)), (1, .ref (ad a1)), (2, .int x2), (3, .int y3)]) rfl ?_
  refine g_goto (tgt := 5) X dX0_findCrowd_37 (by decide) ?_
  exact g_perm [1, 2, 3, 4, 0] rfl (hk5 y3 (y4 + (1 : Int32)) S hF)
theorem wX0_findCrowd_s5 {z : Mx} {ad : Nat → Nat} {o : Option Value × St} (X : CxOk z ad RX0 cX0_findCrowd 6 (some .int) 6) (a0 : Nat) (a1 : Nat) (x2 : Int32) (h0 : KT a0 = 0) (h1 : KT a1 = 9) (y3 : Int32) (y4 : Int32)  (k5 : Int32 → Int32 → St → Option (Int32 × St))   (S : St) (r : (Int32 × St)) (ho : o = (some (.int r.1), r.2)) (hk5 : ∀ (y3 : Int32) (y4 : Int32) (S : St), k5 y3 y4 S = some r → GW z ad o S 5 [(0, .ref (ad a0)), (1, .ref (ad a1)), (2, .int x2), (3, .int y3), (4, .int y4)] []) (hF : fX0_findCrowd_s5 k5 a0 a1 x2 y3 y4  S = some r) : GW z ad o S 5 [(0, .ref (ad a0)), (1, .ref (ad a1)), (2, .int x2), (3, .int y3), (4, .int y4)] [] := by
  unfold fX0_findCrowd_s5 at hF
  refine g_iload X dX0_findCrowd_5 4 rfl ?_
  refine g_iload_n X dX0_findCrowd_7 2 rfl rfl ?_
  refine g_icmp_gt (tgt := 40) X dX0_findCrowd_8 (by decide) (fun c_1 => ?_) (fun c_1 => ?_)
  · rw [if_pos c_1] at hF
    refine g_iload_n X dX0_findCrowd_40 3 rfl rfl ?_
    have hF := Option.some.inj hF
    subst hF
    exact g_iret X dX0_findCrowd_41 ho
  · rw [if_neg c_1] at hF
    refine g_aload_n X dX0_findCrowd_11 1 rfl rfl ?_
    refine g_iload X dX0_findCrowd_12 4 rfl ?_
    obtain ⟨r_2, q_3, hF⟩ := obind hF
    refine g_callSi (As := [.ref (ad a1), .int y4]) X dX0_findCrowd_14 mlX0_142 (fun l D cyy => tX0_countFalling (cx_inj X) l D cyy a1 y4 h1 S r_2 q_3) (by decide) rfl rfl (Nat.le_of_ble_eq_true rfl) ?_
    refine g_istore X dX0_findCrowd_17 (by decide) (lv' := [(5, .int r_2), (0, .ref (ad a0)), (1, .ref (ad a1)), (2, .int x2), (3, .int y3), (4, .int y4)]) rfl ?_
    refine g_iload X dX0_findCrowd_19 0 rfl ?_
    refine g_iload_n X dX0_findCrowd_21 4 rfl rfl ?_
    refine g_icmp_le (tgt := 34) X dX0_findCrowd_22 (by decide) (fun c_4 => ?_) (fun c_4 => ?_)
    · rw [if_pos c_4] at hF
      exact g_perm [1, 2, 3, 4, 5] rfl (wX0_findCrowd_s34 X a0 a1 x2 h0 h1 y3 y4 k5 S r ho hk5 hF)
    · rw [if_neg c_4] at hF
      refine g_iload X dX0_findCrowd_25 0 rfl ?_
      refine g_istore_n X dX0_findCrowd_27 rfl (by decide) (lv' := [(3, .int r_2), (5, .int r_2), (0, .ref (ad a0)), (1, .ref (ad a1)), (2, .int x2), (4, .int y4)]) rfl ?_
      refine g_aload_n X dX0_findCrowd_28 2 rfl rfl ?_
      refine g_iload X dX0_findCrowd_29 5 rfl ?_
      refine g_putI X dX0_findCrowd_31 fpX0_24 rfl rfl rfl h0 ?_
      exact g_perm [2, 3, 4, 0, 5] rfl (wX0_findCrowd_s34 X a0 a1 x2 h0 h1 r_2 y4 k5 (sI S 0 4 a0 y4) r ho hk5 hF)
theorem wX0_findCrowd_h5 {z : Mx} {ad : Nat → Nat} {o : Option Value × St} (X : CxOk z ad RX0 cX0_findCrowd 6 (some .int) 6) (a0 : Nat) (a1 : Nat) (x2 : Int32) (h0 : KT a0 = 0) (h1 : KT a1 = 9)  (r : (Int32 × St)) (ho : o = (some (.int r.1), r.2)) : ∀ (n : Nat) (y3 : Int32) (y4 : Int32) (S : St), fX0_findCrowd_h5 a0 a1 x2 n y3 y4 S = some r → GW z ad o S 5 [(0, .ref (ad a0)), (1, .ref (ad a1)), (2, .int x2), (3, .int y3), (4, .int y4)] [] := by
  intro n
  induction n with
  | zero => intro y3 y4 S  hF; cases hF
  | succ n ih => intro y3 y4 S  hF; exact wX0_findCrowd_s5 X a0 a1 x2 h0 h1 y3 y4 (fX0_findCrowd_h5 a0 a1 x2 n)  S r ho ih hF
theorem wX0_findCrowd {z : Mx} {ad : Nat → Nat} {o : Option Value × St} (X : CxOk z ad RX0 cX0_findCrowd 6 (some .int) 6) (a0 : Nat) (a1 : Nat) (x2 : Int32) (h0 : KT a0 = 0) (h1 : KT a1 = 9) (S : St) (r : (Int32 × St)) (ho : o = (some (.int r.1), r.2)) (hF : fX0_findCrowd a0 a1 x2 S = some r) : GW z ad o S 0 [(0, .ref (ad a0)), (1, .ref (ad a1)), (2, .int x2)] [] := by
  unfold fX0_findCrowd at hF
  refine g_iconst (v := -1) X dX0_findCrowd_0 (by decide) ?_
  refine g_istore_n X dX0_findCrowd_1 rfl (by decide) (lv' := [(3, .int (-1 : Int32)), (0, .ref (ad a0)), (1, .ref (ad a1)), (2, .int x2)]) rfl ?_
  refine g_iconst (v := 0) X dX0_findCrowd_2 (by decide) ?_
  refine g_istore X dX0_findCrowd_3 (by decide) (lv' := [(4, .int (0 : Int32)), (3, .int (-1 : Int32)), (0, .ref (ad a0)), (1, .ref (ad a1)), (2, .int x2)]) rfl ?_
  exact g_perm [2, 3, 4, 1, 0] rfl (wX0_findCrowd_h5 X a0 a1 x2 h0 h1 r ho NN (-1 : Int32) (0 : Int32) S hF)
theorem tX0_findCrowd {ad : Nat → Nat} (hI : Inj ad) (l : Launch) (D : va_G) (cyy : Nat → ClassId) (a0 : Nat) (a1 : Nat) (x2 : Int32) (h0 : KT a0 = 0) (h1 : KT a1 = 9) (S : St) (r : (Int32 × St)) (hF : fX0_findCrowd a0 a1 x2 S = some r) : OkM l yX0_findCrowd cX0_findCrowd 6 (some .int) 6 ad D cyy [.ref (ad a0), .ref (ad a1), .int x2] S (some (.int r.1), r.2) := okM_of hI (by decide) (inr_43 _ (List.mem_of_getElem? (i := 15) rfl)) (by show _ ≤ 6; exact Nat.le_of_ble_eq_true rfl) (fun z X => wX0_findCrowd X a0 a1 x2 h0 h1 S r rfl hF)
def fX0_isCalled_s33 (k2 : Int32 → Option Int32) (a0 : Nat) (x1 : Int32) (a2 : Nat) (y3 : Int32)  (S : St) : Option Int32 :=
  k2 (y3 + (1 : Int32))
def fX0_isCalled_s2 (k2 : Int32 → Option Int32) (a0 : Nat) (x1 : Int32) (a2 : Nat) (y3 : Int32)  (S : St) : Option Int32 :=
  if (3 : Int32) ≤ y3 then (some (1 : Int32)) else
  (if (y3 < 0 ∨ 3 ≤ y3.toNatClampNeg) then none else
  if (gA S 24 a2 y3.toNatClampNeg) = (255 : Int32) then (fX0_isCalled_s33 k2 a0 x1 a2 y3 S) else
  (if (y3 < 0 ∨ 3 ≤ y3.toNatClampNeg) then none else
  (fX4_called a0 x1 (y3 + (1 : Int32)) S).bind fun r_5 =>
  if (gA S 24 a2 y3.toNatClampNeg) = r_5 then (fX0_isCalled_s33 k2 a0 x1 a2 y3 S) else
  (some (0 : Int32))))
def fX0_isCalled_h2 (a0 : Nat) (x1 : Int32) (a2 : Nat) : Nat → Int32 → St → Option Int32
  | 0, _, _ => none
  | n + 1, y3, S => fX0_isCalled_s2 (fun y3 => fX0_isCalled_h2 a0 x1 a2 n y3 S) a0 x1 a2 y3 S
def fX0_isCalled (a0 : Nat) (x1 : Int32) (a2 : Nat) (S : St) : Option Int32 :=
  fX0_isCalled_h2 a0 x1 a2 NN (0 : Int32) S
theorem wX0_isCalled_s33 {z : Mx} {ad : Nat → Nat} {o : Option Value × St} (X : CxOk z ad RX0 cX0_isCalled 4 (some .boolean) 4) (a0 : Nat) (x1 : Int32) (a2 : Nat) (h0 : KT a0 = 4) (h2 : KT a2 = 24) (y3 : Int32)  (k2 : Int32 → Option Int32)   (S : St) (r : Int32) (ho : o = (some (.int r), S)) (hk2 : ∀ (y3 : Int32), k2 y3 = some r → GW z ad o S 2 [(0, .ref (ad a0)), (1, .int x1), (2, .ref (ad a2)), (3, .int y3)] []) (hF : fX0_isCalled_s33 k2 a0 x1 a2 y3  S = some r) : GW z ad o S 33 [(0, .ref (ad a0)), (1, .int x1), (2, .ref (ad a2)), (3, .int y3)] [] := by
  unfold fX0_isCalled_s33 at hF
  refine g_iinc (v := (y3 + (1 : Int32))) X dX0_isCalled_33 3 rfl rfl (by decide) (lv' := [(3, .int (y3 + (1 : Int32))), (0, .ref (ad a0)), (1, .int x1), (2, .ref (ad a2))]) rfl ?_
  refine g_goto (tgt := 2) X dX0_isCalled_36 (by decide) ?_
  exact g_perm [1, 2, 3, 0] rfl (hk2 (y3 + (1 : Int32)) hF)
theorem wX0_isCalled_s2 {z : Mx} {ad : Nat → Nat} {o : Option Value × St} (X : CxOk z ad RX0 cX0_isCalled 4 (some .boolean) 4) (a0 : Nat) (x1 : Int32) (a2 : Nat) (h0 : KT a0 = 4) (h2 : KT a2 = 24) (y3 : Int32)  (k2 : Int32 → Option Int32)   (S : St) (r : Int32) (ho : o = (some (.int r), S)) (hk2 : ∀ (y3 : Int32), k2 y3 = some r → GW z ad o S 2 [(0, .ref (ad a0)), (1, .int x1), (2, .ref (ad a2)), (3, .int y3)] []) (hF : fX0_isCalled_s2 k2 a0 x1 a2 y3  S = some r) : GW z ad o S 2 [(0, .ref (ad a0)), (1, .int x1), (2, .ref (ad a2)), (3, .int y3)] [] := by
  unfold fX0_isCalled_s2 at hF
  refine g_iload_n X dX0_isCalled_2 3 rfl rfl ?_
  refine g_aload_n X dX0_isCalled_3 2 rfl rfl ?_
  refine g_alen (v := 3) X dX0_isCalled_4 kd_24 h2 (by decide) ?_
  refine g_icmp_ge (tgt := 39) X dX0_isCalled_5 (by decide) (fun c_1 => ?_) (fun c_1 => ?_)
  · rw [if_pos c_1] at hF
    refine g_iconst (v := 1) X dX0_isCalled_39 (by decide) ?_
    have hF := Option.some.inj hF
    subst hF
    exact g_zret X dX0_isCalled_40 (by decide) ho
  · rw [if_neg c_1] at hF
    refine g_aload_n X dX0_isCalled_8 2 rfl rfl ?_
    refine g_iload_n X dX0_isCalled_9 3 rfl rfl ?_
    obtain ⟨e_2, hF⟩ := oguard hF
    refine g_iald X dX0_isCalled_10 kd_24 h2 e_2 ?_
    refine g_sipush (v := 255) X dX0_isCalled_11 (by decide) ?_
    refine g_icmp_eq (tgt := 33) X dX0_isCalled_14 (by decide) (fun c_3 => ?_) (fun c_3 => ?_)
    · rw [if_pos c_3] at hF
      exact (wX0_isCalled_s33 X a0 x1 a2 h0 h2 y3 k2 S r ho hk2 hF)
    · rw [if_neg c_3] at hF
      refine g_aload_n X dX0_isCalled_17 2 rfl rfl ?_
      refine g_iload_n X dX0_isCalled_18 3 rfl rfl ?_
      obtain ⟨e_4, hF⟩ := oguard hF
      refine g_iald X dX0_isCalled_19 kd_24 h2 e_4 ?_
      refine g_aload_n X dX0_isCalled_20 0 rfl rfl ?_
      refine g_iload_n X dX0_isCalled_21 1 rfl rfl ?_
      refine g_iload_n X dX0_isCalled_22 3 rfl rfl ?_
      refine g_iconst (v := 1) X dX0_isCalled_23 (by decide) ?_
      refine g_iadd X dX0_isCalled_24 ?_
      obtain ⟨r_5, q_6, hF⟩ := obind hF
      refine g_callVi (As := [.int x1, .int (y3 + (1 : Int32))]) X dX0_isCalled_25 mlX0_152 (fun l D cyy => tX4_called (cx_inj X) l D cyy a0 x1 (y3 + (1 : Int32)) h0 S r_5 q_6) h0 (by decide) rfl rfl (Nat.le_of_ble_eq_true rfl) ?_
      refine g_icmp_eq (tgt := 33) X dX0_isCalled_28 (by decide) (fun c_7 => ?_) (fun c_7 => ?_)
      · rw [if_pos c_7] at hF
        exact (wX0_isCalled_s33 X a0 x1 a2 h0 h2 y3 k2 S r ho hk2 hF)
      · rw [if_neg c_7] at hF
        refine g_iconst (v := 0) X dX0_isCalled_31 (by decide) ?_
        have hF := Option.some.inj hF
        subst hF
        exact g_zret X dX0_isCalled_32 (by decide) ho
theorem wX0_isCalled_h2 {z : Mx} {ad : Nat → Nat} {o : Option Value × St} (X : CxOk z ad RX0 cX0_isCalled 4 (some .boolean) 4) (a0 : Nat) (x1 : Int32) (a2 : Nat) (h0 : KT a0 = 4) (h2 : KT a2 = 24)  (S : St) (r : Int32) (ho : o = (some (.int r), S)) : ∀ (n : Nat) (y3 : Int32), fX0_isCalled_h2 a0 x1 a2 n y3 S = some r → GW z ad o S 2 [(0, .ref (ad a0)), (1, .int x1), (2, .ref (ad a2)), (3, .int y3)] [] := by
  intro n
  induction n with
  | zero => intro y3  hF; cases hF
  | succ n ih => intro y3  hF; exact wX0_isCalled_s2 X a0 x1 a2 h0 h2 y3 (fun y3 => fX0_isCalled_h2 a0 x1 a2 n y3 S)  S r ho (fun y3 hF => ih y3  hF) hF
theorem wX0_isCalled {z : Mx} {ad : Nat → Nat} {o : Option Value × St} (X : CxOk z ad RX0 cX0_isCalled 4 (some .boolean) 4) (a0 : Nat) (x1 : Int32) (a2 : Nat) (h0 : KT a0 = 4) (h2 : KT a2 = 24) (S : St) (r : Int32) (ho : o = (some (.int r), S)) (hF : fX0_isCalled a0 x1 a2 S = some r) : GW z ad o S 0 [(0, .ref (ad a0)), (1, .int x1), (2, .ref (ad a2))] [] := by
  unfold fX0_isCalled at hF
  refine g_iconst (v := 0) X dX0_isCalled_0 (by decide) ?_
  refine g_istore_n X dX0_isCalled_1 rfl (by decide) (lv' := [(3, .int (0 : Int32)), (0, .ref (ad a0)), (1, .int x1), (2, .ref (ad a2))]) rfl ?_
  exact g_perm [1, 2, 3, 0] rfl (wX0_isCalled_h2 X a0 x1 a2 h0 h2 S r ho NN (0 : Int32) hF)
theorem tX0_isCalled {ad : Nat → Nat} (hI : Inj ad) (l : Launch) (D : va_G) (cyy : Nat → ClassId) (a0 : Nat) (x1 : Int32) (a2 : Nat) (h0 : KT a0 = 4) (h2 : KT a2 = 24) (S : St) (r : Int32) (hF : fX0_isCalled a0 x1 a2 S = some r) : OkM l yX0_isCalled cX0_isCalled 4 (some .boolean) 4 ad D cyy [.ref (ad a0), .int x1, .ref (ad a2)] S (some (.int r), S) := okM_of hI (by decide) (inr_45 _ (List.mem_of_getElem? (i := 0) rfl)) (by show _ ≤ 4; exact Nat.le_of_ble_eq_true rfl) (fun z X => wX0_isCalled X a0 x1 a2 h0 h2 S r rfl hF)
def fX0_findWriters_s51 (k5 : Int32 → Int32 → Option Int32) (a0 : Nat) (a1 : Nat) (a2 : Nat) (y3 : Int32) (y4 : Int32)  (S : St) : Option Int32 :=
  k5 y3 (y4 + (1 : Int32))
def fX0_findWriters_s5 (k5 : Int32 → Int32 → Option Int32) (a0 : Nat) (a1 : Nat) (a2 : Nat) (y3 : Int32) (y4 : Int32)  (S : St) : Option Int32 :=
  if (gI S 8 2 (a1 + 1)) ≤ y4 then (some y3) else
  (if (y4 < 0 ∨ 5 ≤ y4.toNatClampNeg) then none else
  if (y4 < 0 ∨ 5 ≤ y4.toNatClampNeg) then none else
  (fX0_isCalled (((a1 + 1) + 1) + 2 + y4.toNatClampNeg) (gA S 15 ((a1 + 15) + 1) y4.toNatClampNeg) a2 S).bind fun r_4 =>
  if r_4 = 0 then (fX0_findWriters_s51 k5 a0 a1 a2 y3 y4 S) else
  (fX0_findWriters_s51 k5 a0 a1 a2 (y3 ||| ((1 : Int32) <<< (y4 &&& 31))) y4 S))
def fX0_findWriters_h5 (a0 : Nat) (a1 : Nat) (a2 : Nat) : Nat → Int32 → Int32 → St → Option Int32
  | 0, _, _, _ => none
  | n + 1, y3, y4, S => fX0_findWriters_s5 (fun y3 y4 => fX0_findWriters_h5 a0 a1 a2 n y3 y4 S) a0 a1 a2 y3 y4 S
def fX0_findWriters (a0 : Nat) (a1 : Nat) (a2 : Nat) (S : St) : Option Int32 :=
  fX0_findWriters_h5 a0 a1 a2 NN (0 : Int32) (0 : Int32) S
theorem wX0_findWriters_s51 {z : Mx} {ad : Nat → Nat} {o : Option Value × St} (X : CxOk z ad RX0 cX0_findWriters 5 (some .int) 5) (a0 : Nat) (a1 : Nat) (a2 : Nat) (h0 : KT a0 = 0) (h1 : KT a1 = 9) (h2 : KT a2 = 24) (y3 : Int32) (y4 : Int32)  (k5 : Int32 → Int32 → Option Int32)   (S : St) (r : Int32) (ho : o = (some (.int r), S)) (hk5 : ∀ (y3 : Int32) (y4 : Int32), k5 y3 y4 = some r → GW z ad o S 5 [(1, .ref (ad a1)), (2, .ref (ad a2)), (3, .int y3), (4, .int y4)] []) (hF : fX0_findWriters_s51 k5 a0 a1 a2 y3 y4  S = some r) : GW z ad o S 51 [(1, .ref (ad a1)), (2, .ref (ad a2)), (3, .int y3), (4, .int y4)] [] := by
  unfold fX0_findWriters_s51 at hF
  refine g_iinc (v := (y4 + (1 : Int32))) X dX0_findWriters_51 3 rfl rfl (by decide) (lv' := [(4, .int (y4 + (1 : Int32))), (1, .ref (ad a1)), (2, .ref (ad a2)), (3, .int y3)]) rfl ?_
  refine g_goto (tgt := 5) X dX0_findWriters_54 (by decide) ?_
  exact g_perm [1, 2, 3, 0] rfl (hk5 y3 (y4 + (1 : Int32)) hF)
theorem wX0_findWriters_s5 {z : Mx} {ad : Nat → Nat} {o : Option Value × St} (X : CxOk z ad RX0 cX0_findWriters 5 (some .int) 5) (a0 : Nat) (a1 : Nat) (a2 : Nat) (h0 : KT a0 = 0) (h1 : KT a1 = 9) (h2 : KT a2 = 24) (y3 : Int32) (y4 : Int32)  (k5 : Int32 → Int32 → Option Int32)   (S : St) (r : Int32) (ho : o = (some (.int r), S)) (hk5 : ∀ (y3 : Int32) (y4 : Int32), k5 y3 y4 = some r → GW z ad o S 5 [(1, .ref (ad a1)), (2, .ref (ad a2)), (3, .int y3), (4, .int y4)] []) (hF : fX0_findWriters_s5 k5 a0 a1 a2 y3 y4  S = some r) : GW z ad o S 5 [(1, .ref (ad a1)), (2, .ref (ad a2)), (3, .int y3), (4, .int y4)] [] := by
  unfold fX0_findWriters_s5 at hF
  refine g_iload X dX0_findWriters_5 3 rfl ?_
  refine g_aload_n X dX0_findWriters_7 0 rfl rfl ?_
  refine g_getR (f := 1) X dX0_findWriters_8 flX0_27 rfl rfl h1 ?_
  refine g_getI X dX0_findWriters_11 flX0_92 rfl (on_9_0 h1) ?_
  refine g_icmp_ge (tgt := 57) X dX0_findWriters_14 (by decide) (fun c_1 => ?_) (fun c_1 => ?_)
  · rw [if_pos c_1] at hF
    refine g_iload_n X dX0_findWriters_57 2 rfl rfl ?_
    have hF := Option.some.inj hF
    subst hF
    exact g_iret X dX0_findWriters_58 ho
  · rw [if_neg c_1] at hF
    refine g_aload_n X dX0_findWriters_17 0 rfl rfl ?_
    refine g_getR (f := 1) X dX0_findWriters_18 flX0_27 rfl rfl h1 ?_
    refine g_getR (f := 1) X dX0_findWriters_21 flX0_48 rfl rfl (on_9_0 h1) ?_
    refine g_iload X dX0_findWriters_24 3 rfl ?_
    obtain ⟨e_2, hF⟩ := oguard hF
    refine g_aaldP X dX0_findWriters_26 (on_8_0 (on_9_0 h1)) rfl e_2 ?_
    refine g_aload_n X dX0_findWriters_27 0 rfl rfl ?_
    refine g_getR (f := 15) X dX0_findWriters_28 flX0_55 rfl rfl h1 ?_
    refine g_getR (f := 1) X dX0_findWriters_31 flX0_77 rfl rfl (on_9_1 h1) ?_
    refine g_iload X dX0_findWriters_34 3 rfl ?_
    obtain ⟨e_3, hF⟩ := oguard hF
    refine g_iald X dX0_findWriters_36 kd_15 (on_2_3 (on_9_1 h1)) e_3 ?_
    refine g_aload_n X dX0_findWriters_37 1 rfl rfl ?_
    obtain ⟨r_4, q_5, hF⟩ := obind hF
    refine g_callSi (As := [.ref (ad (((a1 + 1) + 1) + 2 + y4.toNatClampNeg)), .int (gA S 15 ((a1 + 15) + 1) y4.toNatClampNeg), .ref (ad a2)]) X dX0_findWriters_38 mlX0_148 (fun l D cyy => tX0_isCalled (cx_inj X) l D cyy (((a1 + 1) + 1) + 2 + y4.toNatClampNeg) (gA S 15 ((a1 + 15) + 1) y4.toNatClampNeg) a2 (on_p (on_8_0 (on_9_0 h1)) (inb e_2)) h2 S r_4 q_5) (by decide) rfl rfl (Nat.le_of_ble_eq_true rfl) ?_
    refine g_if_eq (tgt := 51) X dX0_findWriters_41 (by decide) (fun c_6 => ?_) (fun c_6 => ?_)
    · rw [if_pos c_6] at hF
      exact (wX0_findWriters_s51 X a0 a1 a2 h0 h1 h2 y3 y4 k5 S r ho hk5 hF)
    · rw [if_neg c_6] at hF
      refine g_iload_n X dX0_findWriters_44 2 rfl rfl ?_
      refine g_iconst (v := 1) X dX0_findWriters_45 (by decide) ?_
      refine g_iload X dX0_findWriters_46 3 rfl ?_
      refine g_ishl X dX0_findWriters_48 ?_
      refine g_ior X dX0_findWriters_49 ?_
      refine g_istore_n X dX0_findWriters_50 rfl (by decide) (lv' := [(3, .int (y3 ||| ((1 : Int32) <<< (y4 &&& 31)))), (1, .ref (ad a1)), (2, .ref (ad a2)), (4, .int y4)]) rfl ?_
      exact g_perm [1, 2, 0, 3] rfl (wX0_findWriters_s51 X a0 a1 a2 h0 h1 h2 (y3 ||| ((1 : Int32) <<< (y4 &&& 31))) y4 k5 S r ho hk5 hF)
theorem wX0_findWriters_h5 {z : Mx} {ad : Nat → Nat} {o : Option Value × St} (X : CxOk z ad RX0 cX0_findWriters 5 (some .int) 5) (a0 : Nat) (a1 : Nat) (a2 : Nat) (h0 : KT a0 = 0) (h1 : KT a1 = 9) (h2 : KT a2 = 24)  (S : St) (r : Int32) (ho : o = (some (.int r), S)) : ∀ (n : Nat) (y3 : Int32) (y4 : Int32), fX0_findWriters_h5 a0 a1 a2 n y3 y4 S = some r → GW z ad o S 5 [(1, .ref (ad a1)), (2, .ref (ad a2)), (3, .int y3), (4, .int y4)] [] := by
  intro n
  induction n with
  | zero => intro y3 y4  hF; cases hF
  | succ n ih => intro y3 y4  hF; exact wX0_findWriters_s5 X a0 a1 a2 h0 h1 h2 y3 y4 (fun y3 y4 => fX0_findWriters_h5 a0 a1 a2 n y3 y4 S)  S r ho (fun y3 y4 hF => ih y3 y4  hF) hF
theorem wX0_findWriters {z : Mx} {ad : Nat → Nat} {o : Option Value × St} (X : CxOk z ad RX0 cX0_findWriters 5 (some .int) 5) (a0 : Nat) (a1 : Nat) (a2 : Nat) (h0 : KT a0 = 0) (h1 : KT a1 = 9) (h2 : KT a2 = 24) (S : St) (r : Int32) (ho : o = (some (.int r), S)) (hF : fX0_findWriters a0 a1 a2 S = some r) : GW z ad o S 0 [(0, .ref (ad a0)), (1, .ref (ad a1)), (2, .ref (ad a2))] [] := by
  unfold fX0_findWriters at hF
  refine g_iconst (v := 0) X dX0_findWriters_0 (by decide) ?_
  refine g_istore_n X dX0_findWriters_1 rfl (by decide) (lv' := [(3, .int (0 : Int32)), (0, .ref (ad a0)), (1, .ref (ad a1)), (2, .ref (ad a2))]) rfl ?_
  refine g_iconst (v := 0) X dX0_findWriters_2 (by decide) ?_
  refine g_istore X dX0_findWriters_3 (by decide) (lv' := [(4, .int (0 : Int32)), (3, .int (0 : Int32)), (0, .ref (ad a0)), (1, .ref (ad a1)), (2, .ref (ad a2))]) rfl ?_
  exact g_perm [3, 4, 1, 0] rfl (wX0_findWriters_h5 X a0 a1 a2 h0 h1 h2 S r ho NN (0 : Int32) (0 : Int32) hF)
theorem tX0_findWriters {ad : Nat → Nat} (hI : Inj ad) (l : Launch) (D : va_G) (cyy : Nat → ClassId) (a0 : Nat) (a1 : Nat) (a2 : Nat) (h0 : KT a0 = 0) (h1 : KT a1 = 9) (h2 : KT a2 = 24) (S : St) (r : Int32) (hF : fX0_findWriters a0 a1 a2 S = some r) : OkM l yX0_findWriters cX0_findWriters 5 (some .int) 5 ad D cyy [.ref (ad a0), .ref (ad a1), .ref (ad a2)] S (some (.int r), S) := okM_of hI (by decide) (inr_44 _ (List.mem_of_getElem? (i := 21) rfl)) (by show _ ≤ 5; exact Nat.le_of_ble_eq_true rfl) (fun z X => wX0_findWriters X a0 a1 a2 h0 h1 h2 S r rfl hF)
def fX0_findAgo_s14 (k14 : Int32 → Int32 → Option Int32) (a0 : Nat) (a1 : Nat) (x2 : Int32) (a3 : Nat) (y4 : Int32) (y5 : Int32)  (S : St) : Option Int32 :=
  if (9999 : Int32) < y5 then (some (-1 : Int32)) else
  (if y4 < y5 then (some (-1 : Int32)) else
  (if (x2 < 0 ∨ 5 ≤ x2.toNatClampNeg) then none else
  (fX0_isCalled (((a1 + 1) + 1) + 2 + x2.toNatClampNeg) (y4 - y5) a3 S).bind fun r_5 =>
  if r_5 = 0 then (k14 y4 (y5 + (1 : Int32))) else
  (some y5)))
def fX0_findAgo_h14 (a0 : Nat) (a1 : Nat) (x2 : Int32) (a3 : Nat) : Nat → Int32 → Int32 → St → Option Int32
  | 0, _, _, _ => none
  | n + 1, y4, y5, S => fX0_findAgo_s14 (fun y4 y5 => fX0_findAgo_h14 a0 a1 x2 a3 n y4 y5 S) a0 a1 x2 a3 y4 y5 S
def fX0_findAgo_s11 (a0 : Nat) (a1 : Nat) (x2 : Int32) (a3 : Nat) (y4 : Int32)  (S : St) : Option Int32 :=
  fX0_findAgo_h14 a0 a1 x2 a3 NN y4 (0 : Int32) S
def fX0_findAgo (a0 : Nat) (a1 : Nat) (x2 : Int32) (a3 : Nat) (S : St) : Option Int32 :=
  if (x2 < 0 ∨ 5 ≤ x2.toNatClampNeg) then none else
  fX0_findAgo_s11 a0 a1 x2 a3 (gA S 15 ((a1 + 15) + 1) x2.toNatClampNeg) S
theorem wX0_findAgo_s14 {z : Mx} {ad : Nat → Nat} {o : Option Value × St} (X : CxOk z ad RX0 cX0_findAgo 6 (some .int) 5) (a0 : Nat) (a1 : Nat) (x2 : Int32) (a3 : Nat) (h0 : KT a0 = 0) (h1 : KT a1 = 9) (h3 : KT a3 = 24) (y4 : Int32) (y5 : Int32)  (k14 : Int32 → Int32 → Option Int32)   (S : St) (r : Int32) (ho : o = (some (.int r), S)) (hk14 : ∀ (y4 : Int32) (y5 : Int32), k14 y4 y5 = some r → GW z ad o S 14 [(1, .ref (ad a1)), (2, .int x2), (3, .ref (ad a3)), (4, .int y4), (5, .int y5)] []) (hF : fX0_findAgo_s14 k14 a0 a1 x2 a3 y4 y5  S = some r) : GW z ad o S 14 [(1, .ref (ad a1)), (2, .int x2), (3, .ref (ad a3)), (4, .int y4), (5, .int y5)] [] := by
  unfold fX0_findAgo_s14 at hF
  refine g_iload X dX0_findAgo_14 4 rfl ?_
  refine g_sipush (v := 9999) X dX0_findAgo_16 (by decide) ?_
  refine g_icmp_gt (tgt := 59) X dX0_findAgo_19 (by decide) (fun c_2 => ?_) (fun c_2 => ?_)
  · rw [if_pos c_2] at hF
    refine g_iconst (v := -1) X dX0_findAgo_59 (by decide) ?_
    have hF := Option.some.inj hF
    subst hF
    exact g_iret X dX0_findAgo_60 ho
  · rw [if_neg c_2] at hF
    refine g_iload X dX0_findAgo_22 4 rfl ?_
    refine g_iload X dX0_findAgo_24 3 rfl ?_
    refine g_icmp_gt (tgt := 59) X dX0_findAgo_26 (by decide) (fun c_3 => ?_) (fun c_3 => ?_)
    · rw [if_pos c_3] at hF
      refine g_iconst (v := -1) X dX0_findAgo_59 (by decide) ?_
      have hF := Option.some.inj hF
      subst hF
      exact g_iret X dX0_findAgo_60 ho
    · rw [if_neg c_3] at hF
      refine g_aload_n X dX0_findAgo_29 0 rfl rfl ?_
      refine g_getR (f := 1) X dX0_findAgo_30 flX0_27 rfl rfl h1 ?_
      refine g_getR (f := 1) X dX0_findAgo_33 flX0_48 rfl rfl (on_9_0 h1) ?_
      refine g_iload_n X dX0_findAgo_36 1 rfl rfl ?_
      obtain ⟨e_4, hF⟩ := oguard hF
      refine g_aaldP X dX0_findAgo_37 (on_8_0 (on_9_0 h1)) rfl e_4 ?_
      refine g_iload X dX0_findAgo_38 3 rfl ?_
      refine g_iload X dX0_findAgo_40 4 rfl ?_
      refine g_isub X dX0_findAgo_42 ?_
      refine g_aload_n X dX0_findAgo_43 2 rfl rfl ?_
      obtain ⟨r_5, q_6, hF⟩ := obind hF
      refine g_callSi (As := [.ref (ad (((a1 + 1) + 1) + 2 + x2.toNatClampNeg)), .int (y4 - y5), .ref (ad a3)]) X dX0_findAgo_44 mlX0_148 (fun l D cyy => tX0_isCalled (cx_inj X) l D cyy (((a1 + 1) + 1) + 2 + x2.toNatClampNeg) (y4 - y5) a3 (on_p (on_8_0 (on_9_0 h1)) (inb e_4)) h3 S r_5 q_6) (by decide) rfl rfl (Nat.le_of_ble_eq_true rfl) ?_
      refine g_if_eq (tgt := 53) X dX0_findAgo_47 (by decide) (fun c_7 => ?_) (fun c_7 => ?_)
      · rw [if_pos c_7] at hF
        refine g_iinc (v := (y5 + (1 : Int32))) X dX0_findAgo_53 4 rfl rfl (by decide) (lv' := [(5, .int (y5 + (1 : Int32))), (1, .ref (ad a1)), (2, .int x2), (3, .ref (ad a3)), (4, .int y4)]) rfl ?_
        refine g_goto (tgt := 14) X dX0_findAgo_56 (by decide) ?_
        exact g_perm [1, 2, 3, 4, 0] rfl (hk14 y4 (y5 + (1 : Int32)) hF)
      · rw [if_neg c_7] at hF
        refine g_iload X dX0_findAgo_50 4 rfl ?_
        have hF := Option.some.inj hF
        subst hF
        exact g_iret X dX0_findAgo_52 ho
theorem wX0_findAgo_h14 {z : Mx} {ad : Nat → Nat} {o : Option Value × St} (X : CxOk z ad RX0 cX0_findAgo 6 (some .int) 5) (a0 : Nat) (a1 : Nat) (x2 : Int32) (a3 : Nat) (h0 : KT a0 = 0) (h1 : KT a1 = 9) (h3 : KT a3 = 24)  (S : St) (r : Int32) (ho : o = (some (.int r), S)) : ∀ (n : Nat) (y4 : Int32) (y5 : Int32), fX0_findAgo_h14 a0 a1 x2 a3 n y4 y5 S = some r → GW z ad o S 14 [(1, .ref (ad a1)), (2, .int x2), (3, .ref (ad a3)), (4, .int y4), (5, .int y5)] [] := by
  intro n
  induction n with
  | zero => intro y4 y5  hF; cases hF
  | succ n ih => intro y4 y5  hF; exact wX0_findAgo_s14 X a0 a1 x2 a3 h0 h1 h3 y4 y5 (fun y4 y5 => fX0_findAgo_h14 a0 a1 x2 a3 n y4 y5 S)  S r ho (fun y4 y5 hF => ih y4 y5  hF) hF
theorem wX0_findAgo_s11 {z : Mx} {ad : Nat → Nat} {o : Option Value × St} (X : CxOk z ad RX0 cX0_findAgo 6 (some .int) 5) (a0 : Nat) (a1 : Nat) (x2 : Int32) (a3 : Nat) (h0 : KT a0 = 0) (h1 : KT a1 = 9) (h3 : KT a3 = 24) (y4 : Int32)    (S : St) (r : Int32) (ho : o = (some (.int r), S)) (hF : fX0_findAgo_s11 a0 a1 x2 a3 y4  S = some r) : GW z ad o S 11 [(1, .ref (ad a1)), (2, .int x2), (3, .ref (ad a3)), (4, .int y4)] [] := by
  unfold fX0_findAgo_s11 at hF
  refine g_iconst (v := 0) X dX0_findAgo_11 (by decide) ?_
  refine g_istore X dX0_findAgo_12 (by decide) (lv' := [(5, .int (0 : Int32)), (1, .ref (ad a1)), (2, .int x2), (3, .ref (ad a3)), (4, .int y4)]) rfl ?_
  exact g_perm [1, 2, 3, 4, 0] rfl (wX0_findAgo_h14 X a0 a1 x2 a3 h0 h1 h3 S r ho NN y4 (0 : Int32) hF)
theorem wX0_findAgo {z : Mx} {ad : Nat → Nat} {o : Option Value × St} (X : CxOk z ad RX0 cX0_findAgo 6 (some .int) 5) (a0 : Nat) (a1 : Nat) (x2 : Int32) (a3 : Nat) (h0 : KT a0 = 0) (h1 : KT a1 = 9) (h3 : KT a3 = 24) (S : St) (r : Int32) (ho : o = (some (.int r), S)) (hF : fX0_findAgo a0 a1 x2 a3 S = some r) : GW z ad o S 0 [(0, .ref (ad a0)), (1, .ref (ad a1)), (2, .int x2), (3, .ref (ad a3))] [] := by
  unfold fX0_findAgo at hF
  refine g_aload_n X dX0_findAgo_0 1 rfl rfl ?_
  refine g_getR (f := 15) X dX0_findAgo_1 flX0_55 rfl rfl h1 ?_
  refine g_getR (f := 1) X dX0_findAgo_4 flX0_77 rfl rfl (on_9_1 h1) ?_
  refine g_iload_n X dX0_findAgo_7 2 rfl rfl ?_
  obtain ⟨e_1, hF⟩ := oguard hF
  refine g_iald X dX0_findAgo_8 kd_15 (on_2_3 (on_9_1 h1)) e_1 ?_
  refine g_istore X dX0_findAgo_9 (by decide) (lv' := [(4, .int (gA S 15 ((a1 + 15) + 1) x2.toNatClampNeg)), (0, .ref (ad a0)), (1, .ref (ad a1)), (2, .int x2), (3, .ref (ad a3))]) rfl ?_
  exact g_perm [2, 3, 4, 0] rfl (wX0_findAgo_s11 X a0 a1 x2 a3 h0 h1 h3 (gA S 15 ((a1 + 15) + 1) x2.toNatClampNeg) S r ho hF)
theorem tX0_findAgo {ad : Nat → Nat} (hI : Inj ad) (l : Launch) (D : va_G) (cyy : Nat → ClassId) (a0 : Nat) (a1 : Nat) (x2 : Int32) (a3 : Nat) (h0 : KT a0 = 0) (h1 : KT a1 = 9) (h3 : KT a3 = 24) (S : St) (r : Int32) (hF : fX0_findAgo a0 a1 x2 a3 S = some r) : OkM l yX0_findAgo cX0_findAgo 6 (some .int) 5 ad D cyy [.ref (ad a0), .ref (ad a1), .int x2, .ref (ad a3)] S (some (.int r), S) := okM_of hI (by decide) (inr_45 _ (List.mem_of_getElem? (i := 21) rfl)) (by show _ ≤ 6; exact Nat.le_of_ble_eq_true rfl) (fun z X => wX0_findAgo X a0 a1 x2 a3 h0 h1 h3 S r rfl hF)
def fX0_countAge_s34 (a0 : Nat) (a1 : Nat) (x2 : Int32) (x3 : Int32) (x4 : Int32) (x5 : Int32) (b6 : Nat) (y7 : Int32) (y8 : Int32)  (S : St) : Option Int32 :=
  if y7 = (-1 : Int32) then (some (-1 : Int32)) else
  (if y7 ≤ y8 then ((fX4_timesUpTo b6 y8 x4 x5 S).bind fun r_7 =>
  (fX4_timesUpTo b6 y7 x4 x5 S).bind fun r_9 =>
  some (r_7 - r_9)) else
  (some (-1 : Int32)))
def fX0_countAge_s11 (a0 : Nat) (a1 : Nat) (x2 : Int32) (x3 : Int32) (x4 : Int32) (x5 : Int32) (b6 : Nat)  (S : St) : Option Int32 :=
  (fX4_countAt b6 x3 x4 x5 S).bind fun r_2 =>
  if (x2 < 0 ∨ 5 ≤ x2.toNatClampNeg) then none else
  fX0_countAge_s34 a0 a1 x2 x3 x4 x5 b6 r_2 (gA S 15 ((a1 + 15) + 1) x2.toNatClampNeg) S
def fX0_countAge (a0 : Nat) (a1 : Nat) (x2 : Int32) (x3 : Int32) (x4 : Int32) (x5 : Int32) (S : St) : Option Int32 :=
  if (x2 < 0 ∨ 5 ≤ x2.toNatClampNeg) then none else
  fX0_countAge_s11 a0 a1 x2 x3 x4 x5 (((a1 + 1) + 1) + 2 + x2.toNatClampNeg) S
theorem wX0_countAge_s34 {z : Mx} {ad : Nat → Nat} {o : Option Value × St} (X : CxOk z ad RX0 cX0_countAge 9 (some .int) 4) (a0 : Nat) (a1 : Nat) (x2 : Int32) (x3 : Int32) (x4 : Int32) (x5 : Int32) (h0 : KT a0 = 0) (h1 : KT a1 = 9) (b6 : Nat) (y7 : Int32) (y8 : Int32)  (g6 : KT b6 = 4)  (S : St) (r : Int32) (ho : o = (some (.int r), S)) (hF : fX0_countAge_s34 a0 a1 x2 x3 x4 x5 b6 y7 y8  S = some r) : GW z ad o S 34 [(4, .int x4), (5, .int x5), (6, .ref (ad b6)), (7, .int y7), (8, .int y8)] [] := by
  unfold fX0_countAge_s34 at hF
  refine g_iload X dX0_countAge_34 3 rfl ?_
  refine g_iconst (v := -1) X dX0_countAge_36 (by decide) ?_
  refine g_icmp_eq (tgt := 47) X dX0_countAge_37 (by decide) (fun c_5 => ?_) (fun c_5 => ?_)
  · rw [if_pos c_5] at hF
    refine g_iconst (v := -1) X dX0_countAge_47 (by decide) ?_
    have hF := Option.some.inj hF
    subst hF
    exact g_iret X dX0_countAge_48 ho
  · rw [if_neg c_5] at hF
    refine g_iload X dX0_countAge_40 3 rfl ?_
    refine g_iload X dX0_countAge_42 4 rfl ?_
    refine g_icmp_le (tgt := 49) X dX0_countAge_44 (by decide) (fun c_6 => ?_) (fun c_6 => ?_)
    · rw [if_pos c_6] at hF
      refine g_aload X dX0_countAge_49 2 rfl ?_
      refine g_iload X dX0_countAge_51 4 rfl ?_
      refine g_iload X dX0_countAge_53 0 rfl ?_
      refine g_iload X dX0_countAge_55 1 rfl ?_
      obtain ⟨r_7, q_8, hF⟩ := obind hF
      refine g_callVi (As := [.int y8, .int x4, .int x5]) X dX0_countAge_57 mlX0_71 (fun l D cyy => tX4_timesUpTo (cx_inj X) l D cyy b6 y8 x4 x5 g6 S r_7 q_8) g6 (by decide) rfl rfl (Nat.le_of_ble_eq_true rfl) ?_
      refine g_aload X dX0_countAge_60 2 rfl ?_
      refine g_iload X dX0_countAge_62 3 rfl ?_
      refine g_iload X dX0_countAge_64 0 rfl ?_
      refine g_iload X dX0_countAge_66 1 rfl ?_
      obtain ⟨r_9, q_10, hF⟩ := obind hF
      refine g_callVi (As := [.int y7, .int x4, .int x5]) X dX0_countAge_68 mlX0_71 (fun l D cyy => tX4_timesUpTo (cx_inj X) l D cyy b6 y7 x4 x5 g6 S r_9 q_10) g6 (by decide) rfl rfl (Nat.le_of_ble_eq_true rfl) ?_
      refine g_isub X dX0_countAge_71 ?_
      have hF := Option.some.inj hF
      subst hF
      exact g_iret X dX0_countAge_72 ho
    · rw [if_neg c_6] at hF
      refine g_iconst (v := -1) X dX0_countAge_47 (by decide) ?_
      have hF := Option.some.inj hF
      subst hF
      exact g_iret X dX0_countAge_48 ho
theorem wX0_countAge_s11 {z : Mx} {ad : Nat → Nat} {o : Option Value × St} (X : CxOk z ad RX0 cX0_countAge 9 (some .int) 4) (a0 : Nat) (a1 : Nat) (x2 : Int32) (x3 : Int32) (x4 : Int32) (x5 : Int32) (h0 : KT a0 = 0) (h1 : KT a1 = 9) (b6 : Nat)  (g6 : KT b6 = 4)  (S : St) (r : Int32) (ho : o = (some (.int r), S)) (hF : fX0_countAge_s11 a0 a1 x2 x3 x4 x5 b6  S = some r) : GW z ad o S 11 [(1, .ref (ad a1)), (2, .int x2), (3, .int x3), (4, .int x4), (5, .int x5), (6, .ref (ad b6))] [] := by
  unfold fX0_countAge_s11 at hF
  refine g_aload X dX0_countAge_11 5 rfl ?_
  refine g_iload_n X dX0_countAge_13 2 rfl rfl ?_
  refine g_iload X dX0_countAge_14 3 rfl ?_
  refine g_iload X dX0_countAge_16 4 rfl ?_
  obtain ⟨r_2, q_3, hF⟩ := obind hF
  refine g_callVi (As := [.int x3, .int x4, .int x5]) X dX0_countAge_18 mlX0_155 (fun l D cyy => tX4_countAt (cx_inj X) l D cyy b6 x3 x4 x5 g6 S r_2 q_3) g6 (by decide) rfl rfl (Nat.le_of_ble_eq_true rfl) ?_
  refine g_istore X dX0_countAge_21 (by decide) (lv' := [(7, .int r_2), (1, .ref (ad a1)), (2, .int x2), (3, .int x3), (4, .int x4), (5, .int x5), (6, .ref (ad b6))]) rfl ?_
  refine g_aload_n X dX0_countAge_23 1 rfl rfl ?_
  refine g_getR (f := 15) X dX0_countAge_24 flX0_55 rfl rfl h1 ?_
  refine g_getR (f := 1) X dX0_countAge_27 flX0_77 rfl rfl (on_9_1 h1) ?_
  refine g_iload_n X dX0_countAge_30 2 rfl rfl ?_
  obtain ⟨e_4, hF⟩ := oguard hF
  refine g_iald X dX0_countAge_31 kd_15 (on_2_3 (on_9_1 h1)) e_4 ?_
  refine g_istore X dX0_countAge_32 (by decide) (lv' := [(8, .int (gA S 15 ((a1 + 15) + 1) x2.toNatClampNeg)), (7, .int r_2), (1, .ref (ad a1)), (2, .int x2), (3, .int x3), (4, .int x4), (5, .int x5), (6, .ref (ad b6))]) rfl ?_
  exact g_perm [5, 6, 7, 1, 0] rfl (wX0_countAge_s34 X a0 a1 x2 x3 x4 x5 h0 h1 b6 r_2 (gA S 15 ((a1 + 15) + 1) x2.toNatClampNeg) g6 S r ho hF)
theorem wX0_countAge {z : Mx} {ad : Nat → Nat} {o : Option Value × St} (X : CxOk z ad RX0 cX0_countAge 9 (some .int) 4) (a0 : Nat) (a1 : Nat) (x2 : Int32) (x3 : Int32) (x4 : Int32) (x5 : Int32) (h0 : KT a0 = 0) (h1 : KT a1 = 9) (S : St) (r : Int32) (ho : o = (some (.int r), S)) (hF : fX0_countAge a0 a1 x2 x3 x4 x5 S = some r) : GW z ad o S 0 [(0, .ref (ad a0)), (1, .ref (ad a1)), (2, .int x2), (3, .int x3), (4, .int x4), (5, .int x5)] [] := by
  unfold fX0_countAge at hF
  refine g_aload_n X dX0_countAge_0 1 rfl rfl ?_
  refine g_getR (f := 1) X dX0_countAge_1 flX0_27 rfl rfl h1 ?_
  refine g_getR (f := 1) X dX0_countAge_4 flX0_48 rfl rfl (on_9_0 h1) ?_
  refine g_iload_n X dX0_countAge_7 2 rfl rfl ?_
  obtain ⟨e_1, hF⟩ := oguard hF
  refine g_aaldP X dX0_countAge_8 (on_8_0 (on_9_0 h1)) rfl e_1 ?_
  refine g_astore X dX0_countAge_9 (by decide) (lv' := [(6, .ref (ad (((a1 + 1) + 1) + 2 + x2.toNatClampNeg))), (0, .ref (ad a0)), (1, .ref (ad a1)), (2, .int x2), (3, .int x3), (4, .int x4), (5, .int x5)]) rfl ?_
  exact g_perm [2, 3, 4, 5, 6, 0] rfl (wX0_countAge_s11 X a0 a1 x2 x3 x4 x5 h0 h1 (((a1 + 1) + 1) + 2 + x2.toNatClampNeg) (on_p (on_8_0 (on_9_0 h1)) (inb e_1)) S r ho hF)
theorem tX0_countAge {ad : Nat → Nat} (hI : Inj ad) (l : Launch) (D : va_G) (cyy : Nat → ClassId) (a0 : Nat) (a1 : Nat) (x2 : Int32) (x3 : Int32) (x4 : Int32) (x5 : Int32) (h0 : KT a0 = 0) (h1 : KT a1 = 9) (S : St) (r : Int32) (hF : fX0_countAge a0 a1 x2 x3 x4 x5 S = some r) : OkM l yX0_countAge cX0_countAge 9 (some .int) 4 ad D cyy [.ref (ad a0), .ref (ad a1), .int x2, .int x3, .int x4, .int x5] S (some (.int r), S) := okM_of hI (by decide) (inr_46 _ (List.mem_of_getElem? (i := 9) rfl)) (by show _ ≤ 9; exact Nat.le_of_ble_eq_true rfl) (fun z X => wX0_countAge X a0 a1 x2 x3 x4 x5 h0 h1 S r rfl hF)
def fX0_mostLeft_s102 (k4 : Int32 → Int32 → Option Int32) (a0 : Nat) (x1 : Int32) (y2 : Int32) (y3 : Int32)  (S : St) : Option Int32 :=
  k4 y2 (y3 + (1 : Int32))
def fX0_mostLeft_s89 (k4 : Int32 → Int32 → Option Int32) (k45 : Int32 → Int32 → Int32 → Int32 → Int32 → Option Int32) (a0 : Nat) (x1 : Int32) (y2 : Int32) (y3 : Int32) (y4 : Int32) (y5 : Int32) (y6 : Int32)  (S : St) : Option Int32 :=
  k45 y2 y3 y4 y5 (y6 + (1 : Int32))
def fX0_mostLeft_s45 (k4 : Int32 → Int32 → Option Int32) (k45 : Int32 → Int32 → Int32 → Int32 → Int32 → Option Int32) (a0 : Nat) (x1 : Int32) (y2 : Int32) (y3 : Int32) (y4 : Int32) (y5 : Int32) (y6 : Int32)  (S : St) : Option Int32 :=
  if (gI S 8 2 (a0 + 1)) ≤ y6 then (fX0_mostLeft_s102 k4 a0 x1 (if y2 < y5 then y5 else y2) y3 S) else
  (if (y6 < 0 ∨ 5 ≤ y6.toNatClampNeg) then none else
  if (y6 < 0 ∨ 5 ≤ y6.toNatClampNeg) then none else
  (fX4_called (((a0 + 1) + 1) + 2 + y6.toNatClampNeg) (gA S 15 ((a0 + 15) + 1) y6.toNatClampNeg) x1 S).bind fun r_9 =>
  if r_9 = y4 then (fX0_mostLeft_s89 k4 k45 a0 x1 y2 y3 y4 (y5 + (1 : Int32)) y6 S) else
  (fX0_mostLeft_s89 k4 k45 a0 x1 y2 y3 y4 y5 y6 S))
def fX0_mostLeft_h45 (k4 : Int32 → Int32 → Option Int32) (a0 : Nat) (x1 : Int32) : Nat → Int32 → Int32 → Int32 → Int32 → Int32 → St → Option Int32
  | 0, _, _, _, _, _, _ => none
  | n + 1, y2, y3, y4, y5, y6, S => fX0_mostLeft_s45 k4 (fun y2 y3 y4 y5 y6 => fX0_mostLeft_h45 k4 a0 x1 n y2 y3 y4 y5 y6 S) a0 x1 y2 y3 y4 y5 y6 S
def fX0_mostLeft_s4 (k4 : Int32 → Int32 → Option Int32) (a0 : Nat) (x1 : Int32) (y2 : Int32) (y3 : Int32)  (S : St) : Option Int32 :=
  if (gI S 8 2 (a0 + 1)) ≤ y3 then (some y2) else
  (if (y3 < 0 ∨ 5 ≤ y3.toNatClampNeg) then none else
  if (y3 < 0 ∨ 5 ≤ y3.toNatClampNeg) then none else
  (fX4_called (((a0 + 1) + 1) + 2 + y3.toNatClampNeg) (gA S 15 ((a0 + 15) + 1) y3.toNatClampNeg) x1 S).bind fun r_4 =>
  fX0_mostLeft_h45 k4 a0 x1 NN y2 y3 r_4 (0 : Int32) (0 : Int32) S)
def fX0_mostLeft_h4 (a0 : Nat) (x1 : Int32) : Nat → Int32 → Int32 → St → Option Int32
  | 0, _, _, _ => none
  | n + 1, y2, y3, S => fX0_mostLeft_s4 (fun y2 y3 => fX0_mostLeft_h4 a0 x1 n y2 y3 S) a0 x1 y2 y3 S
def fX0_mostLeft (a0 : Nat) (x1 : Int32) (S : St) : Option Int32 :=
  fX0_mostLeft_h4 a0 x1 NN (0 : Int32) (0 : Int32) S
theorem wX0_mostLeft_s102 {z : Mx} {ad : Nat → Nat} {o : Option Value × St} (X : CxOk z ad RX0 cX0_mostLeft 7 (some .int) 4) (a0 : Nat) (x1 : Int32) (h0 : KT a0 = 9) (y2 : Int32) (y3 : Int32)  (k4 : Int32 → Int32 → Option Int32)   (S : St) (r : Int32) (ho : o = (some (.int r), S)) (hk4 : ∀ (y2 : Int32) (y3 : Int32), k4 y2 y3 = some r → GW z ad o S 4 [(0, .ref (ad a0)), (1, .int x1), (2, .int y2), (3, .int y3)] []) (hF : fX0_mostLeft_s102 k4 a0 x1 y2 y3  S = some r) : GW z ad o S 102 [(0, .ref (ad a0)), (1, .int x1), (2, .int y2), (3, .int y3)] [] := by
  unfold fX0_mostLeft_s102 at hF
  refine g_iinc (v := (y3 + (1 : Int32))) X dX0_mostLeft_102 3 rfl rfl (by decide) (lv' := [(3, .int (y3 + (1 : Int32))), (0, .ref (ad a0)), (1, .int x1), (2, .int y2)]) rfl ?_
  refine g_goto (tgt := 4) X dX0_mostLeft_105 (by decide) ?_
  exact g_perm [1, 2, 3, 0] rfl (hk4 y2 (y3 + (1 : Int32)) hF)
theorem wX0_mostLeft_s89 {z : Mx} {ad : Nat → Nat} {o : Option Value × St} (X : CxOk z ad RX0 cX0_mostLeft 7 (some .int) 4) (a0 : Nat) (x1 : Int32) (h0 : KT a0 = 9) (y2 : Int32) (y3 : Int32) (y4 : Int32) (y5 : Int32) (y6 : Int32)  (k4 : Int32 → Int32 → Option Int32) (k45 : Int32 → Int32 → Int32 → Int32 → Int32 → Option Int32)   (S : St) (r : Int32) (ho : o = (some (.int r), S)) (hk4 : ∀ (y2 : Int32) (y3 : Int32), k4 y2 y3 = some r → GW z ad o S 4 [(0, .ref (ad a0)), (1, .int x1), (2, .int y2), (3, .int y3)] []) (hk45 : ∀ (y2 : Int32) (y3 : Int32) (y4 : Int32) (y5 : Int32) (y6 : Int32), k45 y2 y3 y4 y5 y6 = some r → GW z ad o S 45 [(0, .ref (ad a0)), (1, .int x1), (2, .int y2), (3, .int y3), (4, .int y4), (5, .int y5), (6, .int y6)] []) (hF : fX0_mostLeft_s89 k4 k45 a0 x1 y2 y3 y4 y5 y6  S = some r) : GW z ad o S 89 [(0, .ref (ad a0)), (1, .int x1), (2, .int y2), (3, .int y3), (4, .int y4), (5, .int y5), (6, .int y6)] [] := by
  unfold fX0_mostLeft_s89 at hF
  refine g_iinc (v := (y6 + (1 : Int32))) X dX0_mostLeft_89 6 rfl rfl (by decide) (lv' := [(6, .int (y6 + (1 : Int32))), (0, .ref (ad a0)), (1, .int x1), (2, .int y2), (3, .int y3), (4, .int y4), (5, .int y5)]) rfl ?_
  refine g_goto (tgt := 45) X dX0_mostLeft_92 (by decide) ?_
  exact g_perm [1, 2, 3, 4, 5, 6, 0] rfl (hk45 y2 y3 y4 y5 (y6 + (1 : Int32)) hF)
theorem wX0_mostLeft_s45 {z : Mx} {ad : Nat → Nat} {o : Option Value × St} (X : CxOk z ad RX0 cX0_mostLeft 7 (some .int) 4) (a0 : Nat) (x1 : Int32) (h0 : KT a0 = 9) (y2 : Int32) (y3 : Int32) (y4 : Int32) (y5 : Int32) (y6 : Int32)  (k4 : Int32 → Int32 → Option Int32) (k45 : Int32 → Int32 → Int32 → Int32 → Int32 → Option Int32)   (S : St) (r : Int32) (ho : o = (some (.int r), S)) (hk4 : ∀ (y2 : Int32) (y3 : Int32), k4 y2 y3 = some r → GW z ad o S 4 [(0, .ref (ad a0)), (1, .int x1), (2, .int y2), (3, .int y3)] []) (hk45 : ∀ (y2 : Int32) (y3 : Int32) (y4 : Int32) (y5 : Int32) (y6 : Int32), k45 y2 y3 y4 y5 y6 = some r → GW z ad o S 45 [(0, .ref (ad a0)), (1, .int x1), (2, .int y2), (3, .int y3), (4, .int y4), (5, .int y5), (6, .int y6)] []) (hF : fX0_mostLeft_s45 k4 k45 a0 x1 y2 y3 y4 y5 y6  S = some r) : GW z ad o S 45 [(0, .ref (ad a0)), (1, .int x1), (2, .int y2), (3, .int y3), (4, .int y4), (5, .int y5), (6, .int y6)] [] := by
  unfold fX0_mostLeft_s45 at hF
  refine g_iload X dX0_mostLeft_45 6 rfl ?_
  refine g_aload_n X dX0_mostLeft_47 0 rfl rfl ?_
  refine g_getR (f := 1) X dX0_mostLeft_48 flX0_27 rfl rfl h0 ?_
  refine g_getI X dX0_mostLeft_51 flX0_92 rfl (on_9_0 h0) ?_
  refine g_icmp_ge (tgt := 95) X dX0_mostLeft_54 (by decide) (fun c_6 => ?_) (fun c_6 => ?_)
  · rw [if_pos c_6] at hF
    refine g_iload_n X dX0_mostLeft_95 2 rfl rfl ?_
    refine g_iload X dX0_mostLeft_96 5 rfl ?_
    refine g_mmax X dX0_mostLeft_98 (inr_47 _ (List.mem_of_getElem? (i := 2) rfl)) (inr_13 _ (List.mem_of_getElem? (i := 18) rfl)) (inr_10 _ (List.mem_of_getElem? (i := 22) rfl)) (inr_13 _ (List.mem_of_getElem? (i := 19) rfl)) (by decide) (Nat.le_of_ble_eq_true rfl) ?_
    refine g_istore_n X dX0_mostLeft_101 rfl (by decide) (lv' := [(2, .int (if y2 < y5 then y5 else y2)), (0, .ref (ad a0)), (1, .int x1), (3, .int y3), (4, .int y4), (5, .int y5), (6, .int y6)]) rfl ?_
    exact g_perm [1, 2, 0, 3] rfl (wX0_mostLeft_s102 X a0 x1 h0 (if y2 < y5 then y5 else y2) y3 k4 S r ho hk4 hF)
  · rw [if_neg c_6] at hF
    refine g_aload_n X dX0_mostLeft_57 0 rfl rfl ?_
    refine g_getR (f := 1) X dX0_mostLeft_58 flX0_27 rfl rfl h0 ?_
    refine g_getR (f := 1) X dX0_mostLeft_61 flX0_48 rfl rfl (on_9_0 h0) ?_
    refine g_iload X dX0_mostLeft_64 6 rfl ?_
    obtain ⟨e_7, hF⟩ := oguard hF
    refine g_aaldP X dX0_mostLeft_66 (on_8_0 (on_9_0 h0)) rfl e_7 ?_
    refine g_aload_n X dX0_mostLeft_67 0 rfl rfl ?_
    refine g_getR (f := 15) X dX0_mostLeft_68 flX0_55 rfl rfl h0 ?_
    refine g_getR (f := 1) X dX0_mostLeft_71 flX0_77 rfl rfl (on_9_1 h0) ?_
    refine g_iload X dX0_mostLeft_74 6 rfl ?_
    obtain ⟨e_8, hF⟩ := oguard hF
    refine g_iald X dX0_mostLeft_76 kd_15 (on_2_3 (on_9_1 h0)) e_8 ?_
    refine g_iload_n X dX0_mostLeft_77 1 rfl rfl ?_
    obtain ⟨r_9, q_10, hF⟩ := obind hF
    refine g_callVi (As := [.int (gA S 15 ((a0 + 15) + 1) y6.toNatClampNeg), .int x1]) X dX0_mostLeft_78 mlX0_152 (fun l D cyy => tX4_called (cx_inj X) l D cyy (((a0 + 1) + 1) + 2 + y6.toNatClampNeg) (gA S 15 ((a0 + 15) + 1) y6.toNatClampNeg) x1 (on_p (on_8_0 (on_9_0 h0)) (inb e_7)) S r_9 q_10) (on_p (on_8_0 (on_9_0 h0)) (inb e_7)) (by decide) rfl rfl (Nat.le_of_ble_eq_true rfl) ?_
    refine g_iload X dX0_mostLeft_81 4 rfl ?_
    refine g_icmp_ne (tgt := 89) X dX0_mostLeft_83 (by decide) (fun c_11 => ?_) (fun c_11 => ?_)
    · rw [if_neg c_11] at hF
      exact (wX0_mostLeft_s89 X a0 x1 h0 y2 y3 y4 y5 y6 k4 k45 S r ho hk4 hk45 hF)
    · rw [if_pos c_11] at hF
      refine g_iinc (v := (y5 + (1 : Int32))) X dX0_mostLeft_86 5 rfl rfl (by decide) (lv' := [(5, .int (y5 + (1 : Int32))), (0, .ref (ad a0)), (1, .int x1), (2, .int y2), (3, .int y3), (4, .int y4), (6, .int y6)]) rfl ?_
      exact g_perm [1, 2, 3, 4, 5, 0, 6] rfl (wX0_mostLeft_s89 X a0 x1 h0 y2 y3 y4 (y5 + (1 : Int32)) y6 k4 k45 S r ho hk4 hk45 hF)
theorem wX0_mostLeft_h45 {z : Mx} {ad : Nat → Nat} {o : Option Value × St} (X : CxOk z ad RX0 cX0_mostLeft 7 (some .int) 4) (a0 : Nat) (x1 : Int32) (h0 : KT a0 = 9) (k4 : Int32 → Int32 → Option Int32)  (S : St) (r : Int32) (ho : o = (some (.int r), S)) (hk4 : ∀ (y2 : Int32) (y3 : Int32), k4 y2 y3 = some r → GW z ad o S 4 [(0, .ref (ad a0)), (1, .int x1), (2, .int y2), (3, .int y3)] []) : ∀ (n : Nat) (y2 : Int32) (y3 : Int32) (y4 : Int32) (y5 : Int32) (y6 : Int32), fX0_mostLeft_h45 k4 a0 x1 n y2 y3 y4 y5 y6 S = some r → GW z ad o S 45 [(0, .ref (ad a0)), (1, .int x1), (2, .int y2), (3, .int y3), (4, .int y4), (5, .int y5), (6, .int y6)] [] := by
  intro n
  induction n with
  | zero => intro y2 y3 y4 y5 y6  hF; cases hF
  | succ n ih => intro y2 y3 y4 y5 y6  hF; exact wX0_mostLeft_s45 X a0 x1 h0 y2 y3 y4 y5 y6 k4 (fun y2 y3 y4 y5 y6 => fX0_mostLeft_h45 k4 a0 x1 n y2 y3 y4 y5 y6 S)  S r ho hk4 (fun y2 y3 y4 y5 y6 hF => ih y2 y3 y4 y5 y6  hF) hF
theorem wX0_mostLeft_s4 {z : Mx} {ad : Nat → Nat} {o : Option Value × St} (X : CxOk z ad RX0 cX0_mostLeft 7 (some .int) 4) (a0 : Nat) (x1 : Int32) (h0 : KT a0 = 9) (y2 : Int32) (y3 : Int32)  (k4 : Int32 → Int32 → Option Int32)   (S : St) (r : Int32) (ho : o = (some (.int r), S)) (hk4 : ∀ (y2 : Int32) (y3 : Int32), k4 y2 y3 = some r → GW z ad o S 4 [(0, .ref (ad a0)), (1, .int x1), (2, .int y2), (3, .int y3)] []) (hF : fX0_mostLeft_s4 k4 a0 x1 y2 y3  S = some r) : GW z ad o S 4 [(0, .ref (ad a0)), (1, .int x1), (2, .int y2), (3, .int y3)] [] := by
  unfold fX0_mostLeft_s4 at hF
  refine g_iload_n X dX0_mostLeft_4 3 rfl rfl ?_
  refine g_aload_n X dX0_mostLeft_5 0 rfl rfl ?_
  refine g_getR (f := 1) X dX0_mostLeft_6 flX0_27 rfl rfl h0 ?_
  refine g_getI X dX0_mostLeft_9 flX0_92 rfl (on_9_0 h0) ?_
  refine g_icmp_ge (tgt := 108) X dX0_mostLeft_12 (by decide) (fun c_1 => ?_) (fun c_1 => ?_)
  · rw [if_pos c_1] at hF
    refine g_iload_n X dX0_mostLeft_108 2 rfl rfl ?_
    have hF := Option.some.inj hF
    subst hF
    exact g_iret X dX0_mostLeft_109 ho
  · rw [if_neg c_1] at hF
    refine g_aload_n X dX0_mostLeft_15 0 rfl rfl ?_
    refine g_getR (f := 1) X dX0_mostLeft_16 flX0_27 rfl rfl h0 ?_
    refine g_getR (f := 1) X dX0_mostLeft_19 flX0_48 rfl rfl (on_9_0 h0) ?_
    refine g_iload_n X dX0_mostLeft_22 3 rfl rfl ?_
    obtain ⟨e_2, hF⟩ := oguard hF
    refine g_aaldP X dX0_mostLeft_23 (on_8_0 (on_9_0 h0)) rfl e_2 ?_
    refine g_aload_n X dX0_mostLeft_24 0 rfl rfl ?_
    refine g_getR (f := 15) X dX0_mostLeft_25 flX0_55 rfl rfl h0 ?_
    refine g_getR (f := 1) X dX0_mostLeft_28 flX0_77 rfl rfl (on_9_1 h0) ?_
    refine g_iload_n X dX0_mostLeft_31 3 rfl rfl ?_
    obtain ⟨e_3, hF⟩ := oguard hF
    refine g_iald X dX0_mostLeft_32 kd_15 (on_2_3 (on_9_1 h0)) e_3 ?_
    refine g_iload_n X dX0_mostLeft_33 1 rfl rfl ?_
    obtain ⟨r_4, q_5, hF⟩ := obind hF
    refine g_callVi (As := [.int (gA S 15 ((a0 + 15) + 1) y3.toNatClampNeg), .int x1]) X dX0_mostLeft_34 mlX0_152 (fun l D cyy => tX4_called (cx_inj X) l D cyy (((a0 + 1) + 1) + 2 + y3.toNatClampNeg) (gA S 15 ((a0 + 15) + 1) y3.toNatClampNeg) x1 (on_p (on_8_0 (on_9_0 h0)) (inb e_2)) S r_4 q_5) (on_p (on_8_0 (on_9_0 h0)) (inb e_2)) (by decide) rfl rfl (Nat.le_of_ble_eq_true rfl) ?_
    refine g_istore X dX0_mostLeft_37 (by decide) (lv' := [(4, .int r_4), (0, .ref (ad a0)), (1, .int x1), (2, .int y2), (3, .int y3)]) rfl ?_
    refine g_iconst (v := 0) X dX0_mostLeft_39 (by decide) ?_
    refine g_istore X dX0_mostLeft_40 (by decide) (lv' := [(5, .int (0 : Int32)), (4, .int r_4), (0, .ref (ad a0)), (1, .int x1), (2, .int y2), (3, .int y3)]) rfl ?_
    refine g_iconst (v := 0) X dX0_mostLeft_42 (by decide) ?_
    refine g_istore X dX0_mostLeft_43 (by decide) (lv' := [(6, .int (0 : Int32)), (5, .int (0 : Int32)), (4, .int r_4), (0, .ref (ad a0)), (1, .int x1), (2, .int y2), (3, .int y3)]) rfl ?_
    exact g_perm [3, 4, 5, 6, 2, 1, 0] rfl (wX0_mostLeft_h45 X a0 x1 h0 k4 S r ho hk4 NN y2 y3 r_4 (0 : Int32) (0 : Int32) hF)
theorem wX0_mostLeft_h4 {z : Mx} {ad : Nat → Nat} {o : Option Value × St} (X : CxOk z ad RX0 cX0_mostLeft 7 (some .int) 4) (a0 : Nat) (x1 : Int32) (h0 : KT a0 = 9)  (S : St) (r : Int32) (ho : o = (some (.int r), S)) : ∀ (n : Nat) (y2 : Int32) (y3 : Int32), fX0_mostLeft_h4 a0 x1 n y2 y3 S = some r → GW z ad o S 4 [(0, .ref (ad a0)), (1, .int x1), (2, .int y2), (3, .int y3)] [] := by
  intro n
  induction n with
  | zero => intro y2 y3  hF; cases hF
  | succ n ih => intro y2 y3  hF; exact wX0_mostLeft_s4 X a0 x1 h0 y2 y3 (fun y2 y3 => fX0_mostLeft_h4 a0 x1 n y2 y3 S)  S r ho (fun y2 y3 hF => ih y2 y3  hF) hF
theorem wX0_mostLeft {z : Mx} {ad : Nat → Nat} {o : Option Value × St} (X : CxOk z ad RX0 cX0_mostLeft 7 (some .int) 4) (a0 : Nat) (x1 : Int32) (h0 : KT a0 = 9) (S : St) (r : Int32) (ho : o = (some (.int r), S)) (hF : fX0_mostLeft a0 x1 S = some r) : GW z ad o S 0 [(0, .ref (ad a0)), (1, .int x1)] [] := by
  unfold fX0_mostLeft at hF
  refine g_iconst (v := 0) X dX0_mostLeft_0 (by decide) ?_
  refine g_istore_n X dX0_mostLeft_1 rfl (by decide) (lv' := [(2, .int (0 : Int32)), (0, .ref (ad a0)), (1, .int x1)]) rfl ?_
  refine g_iconst (v := 0) X dX0_mostLeft_2 (by decide) ?_
  refine g_istore_n X dX0_mostLeft_3 rfl (by decide) (lv' := [(3, .int (0 : Int32)), (2, .int (0 : Int32)), (0, .ref (ad a0)), (1, .int x1)]) rfl ?_
  exact g_perm [2, 3, 1, 0] rfl (wX0_mostLeft_h4 X a0 x1 h0 S r ho NN (0 : Int32) (0 : Int32) hF)
theorem tX0_mostLeft {ad : Nat → Nat} (hI : Inj ad) (l : Launch) (D : va_G) (cyy : Nat → ClassId) (a0 : Nat) (x1 : Int32) (h0 : KT a0 = 9) (S : St) (r : Int32) (hF : fX0_mostLeft a0 x1 S = some r) : OkM l yX0_mostLeft cX0_mostLeft 7 (some .int) 4 ad D cyy [.ref (ad a0), .int x1] S (some (.int r), S) := okM_of hI (by decide) (inr_47 _ (List.mem_of_getElem? (i := 1) rfl)) (by show _ ≤ 7; exact Nat.le_of_ble_eq_true rfl) (fun z X => wX0_mostLeft X a0 x1 h0 S r rfl hF)
def fX0_findQuestion_s51 (k13 : Int32 → Int32 → Int32 → Option Int32) (a0 : Nat) (a1 : Nat) (y2 : Int32) (y3 : Int32) (y4 : Int32)  (S : St) : Option Int32 :=
  k13 y2 y3 (y4 + (1 : Int32))
def fX0_findQuestion_s45 (k13 : Int32 → Int32 → Int32 → Option Int32) (a0 : Nat) (a1 : Nat) (y4 : Int32) (y5 : Int32)  (S : St) : Option Int32 :=
  fX0_findQuestion_s51 k13 a0 a1 y4 y5 y4 S
def fX0_findQuestion_s13 (k13 : Int32 → Int32 → Int32 → Option Int32) (a0 : Nat) (a1 : Nat) (y2 : Int32) (y3 : Int32) (y4 : Int32)  (S : St) : Option Int32 :=
  if (3 : Int32) ≤ y4 then (some y2) else
  ((fX0_mostLeft a1 (y4 + (1 : Int32)) S).bind fun r_2 =>
  if r_2 ≤ 0 then (fX0_findQuestion_s51 k13 a0 a1 y2 y3 y4 S) else
  (if y2 = (-1 : Int32) then (fX0_findQuestion_s45 k13 a0 a1 y4 r_2 S) else
  (if y3 ≤ r_2 then (fX0_findQuestion_s51 k13 a0 a1 y2 y3 y4 S) else
  (fX0_findQuestion_s45 k13 a0 a1 y4 r_2 S))))
def fX0_findQuestion_h13 (a0 : Nat) (a1 : Nat) : Nat → Int32 → Int32 → Int32 → St → Option Int32
  | 0, _, _, _, _ => none
  | n + 1, y2, y3, y4, S => fX0_findQuestion_s13 (fun y2 y3 y4 => fX0_findQuestion_h13 a0 a1 n y2 y3 y4 S) a0 a1 y2 y3 y4 S
def fX0_findQuestion_s10 (a0 : Nat) (a1 : Nat) (y2 : Int32) (y3 : Int32)  (S : St) : Option Int32 :=
  fX0_findQuestion_h13 a0 a1 NN y2 y3 (0 : Int32) S
def fX0_findQuestion (a0 : Nat) (a1 : Nat) (S : St) : Option Int32 :=
  fX0_findQuestion_s10 a0 a1 (-1 : Int32) (gI S 8 2 (a1 + 1)) S
theorem wX0_findQuestion_s51 {z : Mx} {ad : Nat → Nat} {o : Option Value × St} (X : CxOk z ad RX0 cX0_findQuestion 6 (some .int) 5) (a0 : Nat) (a1 : Nat) (h0 : KT a0 = 0) (h1 : KT a1 = 9) (y2 : Int32) (y3 : Int32) (y4 : Int32)  (k13 : Int32 → Int32 → Int32 → Option Int32)   (S : St) (r : Int32) (ho : o = (some (.int r), S)) (hk13 : ∀ (y2 : Int32) (y3 : Int32) (y4 : Int32), k13 y2 y3 y4 = some r → GW z ad o S 13 [(1, .ref (ad a1)), (2, .int y2), (3, .int y3), (4, .int y4)] []) (hF : fX0_findQuestion_s51 k13 a0 a1 y2 y3 y4  S = some r) : GW z ad o S 51 [(1, .ref (ad a1)), (2, .int y2), (3, .int y3), (4, .int y4)] [] := by
  unfold fX0_findQuestion_s51 at hF
  refine g_iinc (v := (y4 + (1 : Int32))) X dX0_findQuestion_51 3 rfl rfl (by decide) (lv' := [(4, .int (y4 + (1 : Int32))), (1, .ref (ad a1)), (2, .int y2), (3, .int y3)]) rfl ?_
  refine g_goto (tgt := 13) X dX0_findQuestion_54 (by decide) ?_
  exact g_perm [1, 2, 3, 0] rfl (hk13 y2 y3 (y4 + (1 : Int32)) hF)
theorem wX0_findQuestion_s45 {z : Mx} {ad : Nat → Nat} {o : Option Value × St} (X : CxOk z ad RX0 cX0_findQuestion 6 (some .int) 5) (a0 : Nat) (a1 : Nat) (h0 : KT a0 = 0) (h1 : KT a1 = 9) (y4 : Int32) (y5 : Int32)  (k13 : Int32 → Int32 → Int32 → Option Int32)   (S : St) (r : Int32) (ho : o = (some (.int r), S)) (hk13 : ∀ (y2 : Int32) (y3 : Int32) (y4 : Int32), k13 y2 y3 y4 = some r → GW z ad o S 13 [(1, .ref (ad a1)), (2, .int y2), (3, .int y3), (4, .int y4)] []) (hF : fX0_findQuestion_s45 k13 a0 a1 y4 y5  S = some r) : GW z ad o S 45 [(1, .ref (ad a1)), (4, .int y4), (5, .int y5)] [] := by
  unfold fX0_findQuestion_s45 at hF
  refine g_iload X dX0_findQuestion_45 1 rfl ?_
  refine g_istore_n X dX0_findQuestion_47 rfl (by decide) (lv' := [(2, .int y4), (1, .ref (ad a1)), (4, .int y4), (5, .int y5)]) rfl ?_
  refine g_iload X dX0_findQuestion_48 3 rfl ?_
  refine g_istore_n X dX0_findQuestion_50 rfl (by decide) (lv' := [(3, .int y5), (2, .int y4), (1, .ref (ad a1)), (4, .int y4), (5, .int y5)]) rfl ?_
  exact g_perm [2, 1, 0, 3] rfl (wX0_findQuestion_s51 X a0 a1 h0 h1 y4 y5 y4 k13 S r ho hk13 hF)
theorem wX0_findQuestion_s13 {z : Mx} {ad : Nat → Nat} {o : Option Value × St} (X : CxOk z ad RX0 cX0_findQuestion 6 (some .int) 5) (a0 : Nat) (a1 : Nat) (h0 : KT a0 = 0) (h1 : KT a1 = 9) (y2 : Int32) (y3 : Int32) (y4 : Int32)  (k13 : Int32 → Int32 → Int32 → Option Int32)   (S : St) (r : Int32) (ho : o = (some (.int r), S)) (hk13 : ∀ (y2 : Int32) (y3 : Int32) (y4 : Int32), k13 y2 y3 y4 = some r → GW z ad o S 13 [(1, .ref (ad a1)), (2, .int y2), (3, .int y3), (4, .int y4)] []) (hF : fX0_findQuestion_s13 k13 a0 a1 y2 y3 y4  S = some r) : GW z ad o S 13 [(1, .ref (ad a1)), (2, .int y2), (3, .int y3), (4, .int y4)] [] := by
  unfold fX0_findQuestion_s13 at hF
  refine g_iload X dX0_findQuestion_13 3 rfl ?_
  refine g_iconst (v := 3) X dX0_findQuestion_15 (by decide) ?_
  refine g_icmp_ge (tgt := 57) X dX0_findQuestion_16 (by decide) (fun c_1 => ?_) (fun c_1 => ?_)
  · rw [if_pos c_1] at hF
    refine g_iload_n X dX0_findQuestion_57 1 rfl rfl ?_
    have hF := Option.some.inj hF
    subst hF
    exact g_iret X dX0_findQuestion_58 ho
  · rw [if_neg c_1] at hF
    refine g_aload_n X dX0_findQuestion_19 0 rfl rfl ?_
    refine g_iload X dX0_findQuestion_20 3 rfl ?_
    refine g_iconst (v := 1) X dX0_findQuestion_22 (by decide) ?_
    refine g_iadd X dX0_findQuestion_23 ?_
    obtain ⟨r_2, q_3, hF⟩ := obind hF
    refine g_callSi (As := [.ref (ad a1), .int (y4 + (1 : Int32))]) X dX0_findQuestion_24 mlX0_158 (fun l D cyy => tX0_mostLeft (cx_inj X) l D cyy a1 (y4 + (1 : Int32)) h1 S r_2 q_3) (by decide) rfl rfl (Nat.le_of_ble_eq_true rfl) ?_
    refine g_istore X dX0_findQuestion_27 (by decide) (lv' := [(5, .int r_2), (1, .ref (ad a1)), (2, .int y2), (3, .int y3), (4, .int y4)]) rfl ?_
    refine g_iload X dX0_findQuestion_29 0 rfl ?_
    refine g_if_le (tgt := 51) X dX0_findQuestion_31 (by decide) (fun c_4 => ?_) (fun c_4 => ?_)
    · rw [if_pos c_4] at hF
      exact g_perm [1, 2, 3, 4] rfl (wX0_findQuestion_s51 X a0 a1 h0 h1 y2 y3 y4 k13 S r ho hk13 hF)
    · rw [if_neg c_4] at hF
      refine g_iload_n X dX0_findQuestion_34 2 rfl rfl ?_
      refine g_iconst (v := -1) X dX0_findQuestion_35 (by decide) ?_
      refine g_icmp_eq (tgt := 45) X dX0_findQuestion_36 (by decide) (fun c_5 => ?_) (fun c_5 => ?_)
      · rw [if_pos c_5] at hF
        exact g_perm [1, 4, 0] rfl (wX0_findQuestion_s45 X a0 a1 h0 h1 y4 r_2 k13 S r ho hk13 hF)
      · rw [if_neg c_5] at hF
        refine g_iload X dX0_findQuestion_39 0 rfl ?_
        refine g_iload_n X dX0_findQuestion_41 3 rfl rfl ?_
        refine g_icmp_ge (tgt := 51) X dX0_findQuestion_42 (by decide) (fun c_6 => ?_) (fun c_6 => ?_)
        · rw [if_pos c_6] at hF
          exact g_perm [1, 2, 3, 4] rfl (wX0_findQuestion_s51 X a0 a1 h0 h1 y2 y3 y4 k13 S r ho hk13 hF)
        · rw [if_neg c_6] at hF
          exact g_perm [1, 4, 0] rfl (wX0_findQuestion_s45 X a0 a1 h0 h1 y4 r_2 k13 S r ho hk13 hF)
theorem wX0_findQuestion_h13 {z : Mx} {ad : Nat → Nat} {o : Option Value × St} (X : CxOk z ad RX0 cX0_findQuestion 6 (some .int) 5) (a0 : Nat) (a1 : Nat) (h0 : KT a0 = 0) (h1 : KT a1 = 9)  (S : St) (r : Int32) (ho : o = (some (.int r), S)) : ∀ (n : Nat) (y2 : Int32) (y3 : Int32) (y4 : Int32), fX0_findQuestion_h13 a0 a1 n y2 y3 y4 S = some r → GW z ad o S 13 [(1, .ref (ad a1)), (2, .int y2), (3, .int y3), (4, .int y4)] [] := by
  intro n
  induction n with
  | zero => intro y2 y3 y4  hF; cases hF
  | succ n ih => intro y2 y3 y4  hF; exact wX0_findQuestion_s13 X a0 a1 h0 h1 y2 y3 y4 (fun y2 y3 y4 => fX0_findQuestion_h13 a0 a1 n y2 y3 y4 S)  S r ho (fun y2 y3 y4 hF => ih y2 y3 y4  hF) hF
theorem wX0_findQuestion_s10 {z : Mx} {ad : Nat → Nat} {o : Option Value × St} (X : CxOk z ad RX0 cX0_findQuestion 6 (some .int) 5) (a0 : Nat) (a1 : Nat) (h0 : KT a0 = 0) (h1 : KT a1 = 9) (y2 : Int32) (y3 : Int32)    (S : St) (r : Int32) (ho : o = (some (.int r), S)) (hF : fX0_findQuestion_s10 a0 a1 y2 y3  S = some r) : GW z ad o S 10 [(1, .ref (ad a1)), (2, .int y2), (3, .int y3)] [] := by
  unfold fX0_findQuestion_s10 at hF
  refine g_iconst (v := 0) X dX0_findQuestion_10 (by decide) ?_
  refine g_istore X dX0_findQuestion_11 (by decide) (lv' := [(4, .int (0 : Int32)), (1, .ref (ad a1)), (2, .int y2), (3, .int y3)]) rfl ?_
  exact g_perm [1, 2, 3, 0] rfl (wX0_findQuestion_h13 X a0 a1 h0 h1 S r ho NN y2 y3 (0 : Int32) hF)
theorem wX0_findQuestion {z : Mx} {ad : Nat → Nat} {o : Option Value × St} (X : CxOk z ad RX0 cX0_findQuestion 6 (some .int) 5) (a0 : Nat) (a1 : Nat) (h0 : KT a0 = 0) (h1 : KT a1 = 9) (S : St) (r : Int32) (ho : o = (some (.int r), S)) (hF : fX0_findQuestion a0 a1 S = some r) : GW z ad o S 0 [(0, .ref (ad a0)), (1, .ref (ad a1))] [] := by
  unfold fX0_findQuestion at hF
  refine g_iconst (v := -1) X dX0_findQuestion_0 (by decide) ?_
  refine g_istore_n X dX0_findQuestion_1 rfl (by decide) (lv' := [(2, .int (-1 : Int32)), (0, .ref (ad a0)), (1, .ref (ad a1))]) rfl ?_
  refine g_aload_n X dX0_findQuestion_2 2 rfl rfl ?_
  refine g_getR (f := 1) X dX0_findQuestion_3 flX0_27 rfl rfl h1 ?_
  refine g_getI X dX0_findQuestion_6 flX0_92 rfl (on_9_0 h1) ?_
  refine g_istore_n X dX0_findQuestion_9 rfl (by decide) (lv' := [(3, .int (gI S 8 2 (a1 + 1))), (2, .int (-1 : Int32)), (0, .ref (ad a0)), (1, .ref (ad a1))]) rfl ?_
  exact g_perm [3, 1, 0] rfl (wX0_findQuestion_s10 X a0 a1 h0 h1 (-1 : Int32) (gI S 8 2 (a1 + 1)) S r ho hF)
theorem tX0_findQuestion {ad : Nat → Nat} (hI : Inj ad) (l : Launch) (D : va_G) (cyy : Nat → ClassId) (a0 : Nat) (a1 : Nat) (h0 : KT a0 = 0) (h1 : KT a1 = 9) (S : St) (r : Int32) (hF : fX0_findQuestion a0 a1 S = some r) : OkM l yX0_findQuestion cX0_findQuestion 6 (some .int) 5 ad D cyy [.ref (ad a0), .ref (ad a1)] S (some (.int r), S) := okM_of hI (by decide) (inr_46 _ (List.mem_of_getElem? (i := 22) rfl)) (by show _ ≤ 6; exact Nat.le_of_ble_eq_true rfl) (fun z X => wX0_findQuestion X a0 a1 h0 h1 S r rfl hF)
def fX0_findBirthday_s101 (a0 : Nat) (a1 : Nat) (x2 : Int32) (x3 : Int32) (y9 : Int32)  (S : St) : Option Int32 :=
  if (99999 : Int32) < y9 then (some (-1 : Int32)) else
  (some y9)
def fX0_findBirthday_s78 (a0 : Nat) (a1 : Nat) (x2 : Int32) (x3 : Int32) (b4 : Nat) (y5 : Int32) (y7 : Int32) (y8 : Int32)  (S : St) : Option Int32 :=
  (fX4_startOfYear b4 y8 S).bind fun r_9 =>
  (fX4_dayInYear b4 y5 S).bind fun r_11 =>
  fX0_findBirthday_s101 a0 a1 x2 x3 (((r_9 + r_11) - y5) + y7) S
def fX0_findBirthday_s43 (a0 : Nat) (a1 : Nat) (x2 : Int32) (x3 : Int32) (b4 : Nat) (y5 : Int32) (y6 : Int32)  (S : St) : Option Int32 :=
  if (fX2_isHeld (a1 + 15) x2 S) = 0 then ((fX4_yearAt b4 y5 S).bind fun r_17 =>
  fX0_findBirthday_s78 a0 a1 x2 x3 b4 y5 (0 : Int32) (r_17 + ((x3 - (0 : Int32)) * y6)) S) else
  ((fX4_yearAt b4 y5 S).bind fun r_19 =>
  fX0_findBirthday_s78 a0 a1 x2 x3 b4 y5 (1 : Int32) (r_19 + ((x3 - (1 : Int32)) * y6)) S)
def fX0_findBirthday_s22 (a0 : Nat) (a1 : Nat) (x2 : Int32) (x3 : Int32) (b4 : Nat) (y5 : Int32)  (S : St) : Option Int32 :=
  (fX4_isBetween b4 y5 S).bind fun r_3 =>
  if r_3 = 0 then (if (fX2_isHeld (a1 + 15) x2 S) = 0 then ((fX4_yearAt b4 y5 S).bind fun r_7 =>
  fX0_findBirthday_s78 a0 a1 x2 x3 b4 y5 (0 : Int32) (r_7 + ((x3 - (0 : Int32)) * (1 : Int32))) S) else
  ((fX4_yearAt b4 y5 S).bind fun r_14 =>
  fX0_findBirthday_s78 a0 a1 x2 x3 b4 y5 (1 : Int32) (r_14 + ((x3 - (1 : Int32)) * (1 : Int32))) S)) else
  (fX0_findBirthday_s43 a0 a1 x2 x3 b4 y5 (gI S 4 6 b4) S)
def fX0_findBirthday_s11 (a0 : Nat) (a1 : Nat) (x2 : Int32) (x3 : Int32) (b4 : Nat)  (S : St) : Option Int32 :=
  if (x2 < 0 ∨ 5 ≤ x2.toNatClampNeg) then none else
  fX0_findBirthday_s22 a0 a1 x2 x3 b4 (gA S 15 ((a1 + 15) + 1) x2.toNatClampNeg) S
def fX0_findBirthday (a0 : Nat) (a1 : Nat) (x2 : Int32) (x3 : Int32) (S : St) : Option Int32 :=
  if (x2 < 0 ∨ 5 ≤ x2.toNatClampNeg) then none else
  fX0_findBirthday_s11 a0 a1 x2 x3 (((a1 + 1) + 1) + 2 + x2.toNatClampNeg) S
theorem wX0_findBirthday_s101 {z : Mx} {ad : Nat → Nat} {o : Option Value × St} (X : CxOk z ad RX0 cX0_findBirthday 10 (some .int) 3) (a0 : Nat) (a1 : Nat) (x2 : Int32) (x3 : Int32) (h0 : KT a0 = 0) (h1 : KT a1 = 9) (y9 : Int32)    (S : St) (r : Int32) (ho : o = (some (.int r), S)) (hF : fX0_findBirthday_s101 a0 a1 x2 x3 y9  S = some r) : GW z ad o S 101 [(9, .int y9)] [] := by
  unfold fX0_findBirthday_s101 at hF
  refine g_iload X dX0_findBirthday_101 0 rfl ?_
  refine g_ldc (v := 99999) X dX0_findBirthday_103 (inr_36 _ (List.mem_of_getElem? (i := 5) rfl)) ?_
  refine g_icmp_gt (tgt := 113) X dX0_findBirthday_105 (by decide) (fun c_13 => ?_) (fun c_13 => ?_)
  · rw [if_pos c_13] at hF
    refine g_iconst (v := -1) X dX0_findBirthday_113 (by decide) ?_
    have hF := Option.some.inj hF
    subst hF
    exact g_iret X dX0_findBirthday_114 ho
  · rw [if_neg c_13] at hF
    refine g_iload X dX0_findBirthday_108 0 rfl ?_
    refine g_goto (tgt := 114) X dX0_findBirthday_110 (by decide) ?_
    have hF := Option.some.inj hF
    subst hF
    exact g_iret X dX0_findBirthday_114 ho
theorem wX0_findBirthday_s78 {z : Mx} {ad : Nat → Nat} {o : Option Value × St} (X : CxOk z ad RX0 cX0_findBirthday 10 (some .int) 3) (a0 : Nat) (a1 : Nat) (x2 : Int32) (x3 : Int32) (h0 : KT a0 = 0) (h1 : KT a1 = 9) (b4 : Nat) (y5 : Int32) (y7 : Int32) (y8 : Int32)  (g4 : KT b4 = 4)  (S : St) (r : Int32) (ho : o = (some (.int r), S)) (hF : fX0_findBirthday_s78 a0 a1 x2 x3 b4 y5 y7 y8  S = some r) : GW z ad o S 78 [(4, .ref (ad b4)), (5, .int y5), (7, .int y7), (8, .int y8)] [] := by
  unfold fX0_findBirthday_s78 at hF
  refine g_aload X dX0_findBirthday_78 0 rfl ?_
  refine g_iload X dX0_findBirthday_80 3 rfl ?_
  obtain ⟨r_9, q_10, hF⟩ := obind hF
  refine g_callVi (As := [.int y8]) X dX0_findBirthday_82 mlX0_170 (fun l D cyy => tX4_startOfYear (cx_inj X) l D cyy b4 y8 g4 S r_9 q_10) g4 (by decide) rfl rfl (Nat.le_of_ble_eq_true rfl) ?_
  refine g_aload X dX0_findBirthday_85 0 rfl ?_
  refine g_iload X dX0_findBirthday_87 1 rfl ?_
  obtain ⟨r_11, q_12, hF⟩ := obind hF
  refine g_callVi (As := [.int y5]) X dX0_findBirthday_89 mlX0_173 (fun l D cyy => tX4_dayInYear (cx_inj X) l D cyy b4 y5 g4 S r_11 q_12) g4 (by decide) rfl rfl (Nat.le_of_ble_eq_true rfl) ?_
  refine g_iadd X dX0_findBirthday_92 ?_
  refine g_iload X dX0_findBirthday_93 1 rfl ?_
  refine g_isub X dX0_findBirthday_95 ?_
  refine g_iload X dX0_findBirthday_96 2 rfl ?_
  refine g_iadd X dX0_findBirthday_98 ?_
  refine g_istore X dX0_findBirthday_99 (by decide) (lv' := [(9, .int (((r_9 + r_11) - y5) + y7)), (4, .ref (ad b4)), (5, .int y5), (7, .int y7), (8, .int y8)]) rfl ?_
  exact g_perm [0] rfl (wX0_findBirthday_s101 X a0 a1 x2 x3 h0 h1 (((r_9 + r_11) - y5) + y7) S r ho hF)
theorem wX0_findBirthday_s43 {z : Mx} {ad : Nat → Nat} {o : Option Value × St} (X : CxOk z ad RX0 cX0_findBirthday 10 (some .int) 3) (a0 : Nat) (a1 : Nat) (x2 : Int32) (x3 : Int32) (h0 : KT a0 = 0) (h1 : KT a1 = 9) (b4 : Nat) (y5 : Int32) (y6 : Int32)  (g4 : KT b4 = 4)  (S : St) (r : Int32) (ho : o = (some (.int r), S)) (hF : fX0_findBirthday_s43 a0 a1 x2 x3 b4 y5 y6  S = some r) : GW z ad o S 43 [(1, .ref (ad a1)), (2, .int x2), (3, .int x3), (4, .ref (ad b4)), (5, .int y5), (6, .int y6)] [] := by
  unfold fX0_findBirthday_s43 at hF
  refine g_aload_n X dX0_findBirthday_43 0 rfl rfl ?_
  refine g_getR (f := 15) X dX0_findBirthday_44 flX0_55 rfl rfl h1 ?_
  refine g_iload_n X dX0_findBirthday_47 1 rfl rfl ?_
  refine g_callVi (As := [.int x2]) X dX0_findBirthday_48 mlX0_81 (fun l D cyy => tX2_isHeld (cx_inj X) l D cyy (a1 + 15) x2 (on_9_1 h1) S) (on_9_1 h1) (by decide) rfl rfl (Nat.le_of_ble_eq_true rfl) ?_
  refine g_if_eq (tgt := 58) X dX0_findBirthday_51 (by decide) (fun c_16 => ?_) (fun c_16 => ?_)
  · rw [if_pos c_16] at hF
    refine g_iconst (v := 0) X dX0_findBirthday_58 (by decide) ?_
    refine g_istore X dX0_findBirthday_59 (by decide) (lv' := [(7, .int (0 : Int32)), (1, .ref (ad a1)), (2, .int x2), (3, .int x3), (4, .ref (ad b4)), (5, .int y5), (6, .int y6)]) rfl ?_
    refine g_aload X dX0_findBirthday_61 4 rfl ?_
    refine g_iload X dX0_findBirthday_63 5 rfl ?_
    obtain ⟨r_17, q_18, hF⟩ := obind hF
    refine g_callVi (As := [.int y5]) X dX0_findBirthday_65 mlX0_167 (fun l D cyy => tX4_yearAt (cx_inj X) l D cyy b4 y5 g4 S r_17 q_18) g4 (by decide) rfl rfl (Nat.le_of_ble_eq_true rfl) ?_
    refine g_iload_n X dX0_findBirthday_68 3 rfl rfl ?_
    refine g_iload X dX0_findBirthday_69 0 rfl ?_
    refine g_isub X dX0_findBirthday_71 ?_
    refine g_iload X dX0_findBirthday_72 6 rfl ?_
    refine g_imul X dX0_findBirthday_74 ?_
    refine g_iadd X dX0_findBirthday_75 ?_
    refine g_istore X dX0_findBirthday_76 (by decide) (lv' := [(8, .int (r_17 + ((x3 - (0 : Int32)) * y6))), (7, .int (0 : Int32)), (1, .ref (ad a1)), (2, .int x2), (3, .int x3), (4, .ref (ad b4)), (5, .int y5), (6, .int y6)]) rfl ?_
    exact g_perm [5, 6, 1, 0] rfl (wX0_findBirthday_s78 X a0 a1 x2 x3 h0 h1 b4 y5 (0 : Int32) (r_17 + ((x3 - (0 : Int32)) * y6)) g4 S r ho hF)
  · rw [if_neg c_16] at hF
    refine g_iconst (v := 1) X dX0_findBirthday_54 (by decide) ?_
    refine g_goto (tgt := 59) X dX0_findBirthday_55 (by decide) ?_
    refine g_istore X dX0_findBirthday_59 (by decide) (lv' := [(7, .int (1 : Int32)), (1, .ref (ad a1)), (2, .int x2), (3, .int x3), (4, .ref (ad b4)), (5, .int y5), (6, .int y6)]) rfl ?_
    refine g_aload X dX0_findBirthday_61 4 rfl ?_
    refine g_iload X dX0_findBirthday_63 5 rfl ?_
    obtain ⟨r_19, q_20, hF⟩ := obind hF
    refine g_callVi (As := [.int y5]) X dX0_findBirthday_65 mlX0_167 (fun l D cyy => tX4_yearAt (cx_inj X) l D cyy b4 y5 g4 S r_19 q_20) g4 (by decide) rfl rfl (Nat.le_of_ble_eq_true rfl) ?_
    refine g_iload_n X dX0_findBirthday_68 3 rfl rfl ?_
    refine g_iload X dX0_findBirthday_69 0 rfl ?_
    refine g_isub X dX0_findBirthday_71 ?_
    refine g_iload X dX0_findBirthday_72 6 rfl ?_
    refine g_imul X dX0_findBirthday_74 ?_
    refine g_iadd X dX0_findBirthday_75 ?_
    refine g_istore X dX0_findBirthday_76 (by decide) (lv' := [(8, .int (r_19 + ((x3 - (1 : Int32)) * y6))), (7, .int (1 : Int32)), (1, .ref (ad a1)), (2, .int x2), (3, .int x3), (4, .ref (ad b4)), (5, .int y5), (6, .int y6)]) rfl ?_
    exact g_perm [5, 6, 1, 0] rfl (wX0_findBirthday_s78 X a0 a1 x2 x3 h0 h1 b4 y5 (1 : Int32) (r_19 + ((x3 - (1 : Int32)) * y6)) g4 S r ho hF)
theorem wX0_findBirthday_s22 {z : Mx} {ad : Nat → Nat} {o : Option Value × St} (X : CxOk z ad RX0 cX0_findBirthday 10 (some .int) 3) (a0 : Nat) (a1 : Nat) (x2 : Int32) (x3 : Int32) (h0 : KT a0 = 0) (h1 : KT a1 = 9) (b4 : Nat) (y5 : Int32)  (g4 : KT b4 = 4)  (S : St) (r : Int32) (ho : o = (some (.int r), S)) (hF : fX0_findBirthday_s22 a0 a1 x2 x3 b4 y5  S = some r) : GW z ad o S 22 [(1, .ref (ad a1)), (2, .int x2), (3, .int x3), (4, .ref (ad b4)), (5, .int y5)] [] := by
  unfold fX0_findBirthday_s22 at hF
  refine g_aload X dX0_findBirthday_22 3 rfl ?_
  refine g_iload X dX0_findBirthday_24 4 rfl ?_
  obtain ⟨r_3, q_4, hF⟩ := obind hF
  refine g_callVi (As := [.int y5]) X dX0_findBirthday_26 mlX0_164 (fun l D cyy => tX4_isBetween (cx_inj X) l D cyy b4 y5 g4 S r_3 q_4) g4 (by decide) rfl rfl (Nat.le_of_ble_eq_true rfl) ?_
  refine g_if_eq (tgt := 40) X dX0_findBirthday_29 (by decide) (fun c_5 => ?_) (fun c_5 => ?_)
  · rw [if_pos c_5] at hF
    refine g_iconst (v := 1) X dX0_findBirthday_40 (by decide) ?_
    refine g_istore X dX0_findBirthday_41 (by decide) (lv' := [(6, .int (1 : Int32)), (1, .ref (ad a1)), (2, .int x2), (3, .int x3), (4, .ref (ad b4)), (5, .int y5)]) rfl ?_
    refine g_aload_n X dX0_findBirthday_43 1 rfl rfl ?_
    refine g_getR (f := 15) X dX0_findBirthday_44 flX0_55 rfl rfl h1 ?_
    refine g_iload_n X dX0_findBirthday_47 2 rfl rfl ?_
    refine g_callVi (As := [.int x2]) X dX0_findBirthday_48 mlX0_81 (fun l D cyy => tX2_isHeld (cx_inj X) l D cyy (a1 + 15) x2 (on_9_1 h1) S) (on_9_1 h1) (by decide) rfl rfl (Nat.le_of_ble_eq_true rfl) ?_
    refine g_if_eq (tgt := 58) X dX0_findBirthday_51 (by decide) (fun c_6 => ?_) (fun c_6 => ?_)
    · rw [if_pos c_6] at hF
      refine g_iconst (v := 0) X dX0_findBirthday_58 (by decide) ?_
      refine g_istore X dX0_findBirthday_59 (by decide) (lv' := [(7, .int (0 : Int32)), (6, .int (1 : Int32)), (1, .ref (ad a1)), (2, .int x2), (3, .int x3), (4, .ref (ad b4)), (5, .int y5)]) rfl ?_
      refine g_aload X dX0_findBirthday_61 5 rfl ?_
      refine g_iload X dX0_findBirthday_63 6 rfl ?_
      obtain ⟨r_7, q_8, hF⟩ := obind hF
      refine g_callVi (As := [.int y5]) X dX0_findBirthday_65 mlX0_167 (fun l D cyy => tX4_yearAt (cx_inj X) l D cyy b4 y5 g4 S r_7 q_8) g4 (by decide) rfl rfl (Nat.le_of_ble_eq_true rfl) ?_
      refine g_iload_n X dX0_findBirthday_68 4 rfl rfl ?_
      refine g_iload X dX0_findBirthday_69 0 rfl ?_
      refine g_isub X dX0_findBirthday_71 ?_
      refine g_iload X dX0_findBirthday_72 1 rfl ?_
      refine g_imul X dX0_findBirthday_74 ?_
      refine g_iadd X dX0_findBirthday_75 ?_
      refine g_istore X dX0_findBirthday_76 (by decide) (lv' := [(8, .int (r_7 + ((x3 - (0 : Int32)) * (1 : Int32)))), (7, .int (0 : Int32)), (6, .int (1 : Int32)), (1, .ref (ad a1)), (2, .int x2), (3, .int x3), (4, .ref (ad b4)), (5, .int y5)]) rfl ?_
      exact g_perm [6, 7, 1, 0] rfl (wX0_findBirthday_s78 X a0 a1 x2 x3 h0 h1 b4 y5 (0 : Int32) (r_7 + ((x3 - (0 : Int32)) * (1 : Int32))) g4 S r ho hF)
    · rw [if_neg c_6] at hF
      refine g_iconst (v := 1) X dX0_findBirthday_54 (by decide) ?_
      refine g_goto (tgt := 59) X dX0_findBirthday_55 (by decide) ?_
      refine g_istore X dX0_findBirthday_59 (by decide) (lv' := [(7, .int (1 : Int32)), (6, .int (1 : Int32)), (1, .ref (ad a1)), (2, .int x2), (3, .int x3), (4, .ref (ad b4)), (5, .int y5)]) rfl ?_
      refine g_aload X dX0_findBirthday_61 5 rfl ?_
      refine g_iload X dX0_findBirthday_63 6 rfl ?_
      obtain ⟨r_14, q_15, hF⟩ := obind hF
      refine g_callVi (As := [.int y5]) X dX0_findBirthday_65 mlX0_167 (fun l D cyy => tX4_yearAt (cx_inj X) l D cyy b4 y5 g4 S r_14 q_15) g4 (by decide) rfl rfl (Nat.le_of_ble_eq_true rfl) ?_
      refine g_iload_n X dX0_findBirthday_68 4 rfl rfl ?_
      refine g_iload X dX0_findBirthday_69 0 rfl ?_
      refine g_isub X dX0_findBirthday_71 ?_
      refine g_iload X dX0_findBirthday_72 1 rfl ?_
      refine g_imul X dX0_findBirthday_74 ?_
      refine g_iadd X dX0_findBirthday_75 ?_
      refine g_istore X dX0_findBirthday_76 (by decide) (lv' := [(8, .int (r_14 + ((x3 - (1 : Int32)) * (1 : Int32)))), (7, .int (1 : Int32)), (6, .int (1 : Int32)), (1, .ref (ad a1)), (2, .int x2), (3, .int x3), (4, .ref (ad b4)), (5, .int y5)]) rfl ?_
      exact g_perm [6, 7, 1, 0] rfl (wX0_findBirthday_s78 X a0 a1 x2 x3 h0 h1 b4 y5 (1 : Int32) (r_14 + ((x3 - (1 : Int32)) * (1 : Int32))) g4 S r ho hF)
  · rw [if_neg c_5] at hF
    refine g_aload X dX0_findBirthday_32 3 rfl ?_
    refine g_getI X dX0_findBirthday_34 flX0_103 rfl g4 ?_
    refine g_goto (tgt := 41) X dX0_findBirthday_37 (by decide) ?_
    refine g_istore X dX0_findBirthday_41 (by decide) (lv' := [(6, .int (gI S 4 6 b4)), (1, .ref (ad a1)), (2, .int x2), (3, .int x3), (4, .ref (ad b4)), (5, .int y5)]) rfl ?_
    exact g_perm [1, 2, 3, 4, 5, 0] rfl (wX0_findBirthday_s43 X a0 a1 x2 x3 h0 h1 b4 y5 (gI S 4 6 b4) g4 S r ho hF)
theorem wX0_findBirthday_s11 {z : Mx} {ad : Nat → Nat} {o : Option Value × St} (X : CxOk z ad RX0 cX0_findBirthday 10 (some .int) 3) (a0 : Nat) (a1 : Nat) (x2 : Int32) (x3 : Int32) (h0 : KT a0 = 0) (h1 : KT a1 = 9) (b4 : Nat)  (g4 : KT b4 = 4)  (S : St) (r : Int32) (ho : o = (some (.int r), S)) (hF : fX0_findBirthday_s11 a0 a1 x2 x3 b4  S = some r) : GW z ad o S 11 [(1, .ref (ad a1)), (2, .int x2), (3, .int x3), (4, .ref (ad b4))] [] := by
  unfold fX0_findBirthday_s11 at hF
  refine g_aload_n X dX0_findBirthday_11 0 rfl rfl ?_
  refine g_getR (f := 15) X dX0_findBirthday_12 flX0_55 rfl rfl h1 ?_
  refine g_getR (f := 1) X dX0_findBirthday_15 flX0_77 rfl rfl (on_9_1 h1) ?_
  refine g_iload_n X dX0_findBirthday_18 1 rfl rfl ?_
  obtain ⟨e_2, hF⟩ := oguard hF
  refine g_iald X dX0_findBirthday_19 kd_15 (on_2_3 (on_9_1 h1)) e_2 ?_
  refine g_istore X dX0_findBirthday_20 (by decide) (lv' := [(5, .int (gA S 15 ((a1 + 15) + 1) x2.toNatClampNeg)), (1, .ref (ad a1)), (2, .int x2), (3, .int x3), (4, .ref (ad b4))]) rfl ?_
  exact g_perm [1, 2, 3, 4, 0] rfl (wX0_findBirthday_s22 X a0 a1 x2 x3 h0 h1 b4 (gA S 15 ((a1 + 15) + 1) x2.toNatClampNeg) g4 S r ho hF)
theorem wX0_findBirthday {z : Mx} {ad : Nat → Nat} {o : Option Value × St} (X : CxOk z ad RX0 cX0_findBirthday 10 (some .int) 3) (a0 : Nat) (a1 : Nat) (x2 : Int32) (x3 : Int32) (h0 : KT a0 = 0) (h1 : KT a1 = 9) (S : St) (r : Int32) (ho : o = (some (.int r), S)) (hF : fX0_findBirthday a0 a1 x2 x3 S = some r) : GW z ad o S 0 [(0, .ref (ad a0)), (1, .ref (ad a1)), (2, .int x2), (3, .int x3)] [] := by
  unfold fX0_findBirthday at hF
  refine g_aload_n X dX0_findBirthday_0 1 rfl rfl ?_
  refine g_getR (f := 1) X dX0_findBirthday_1 flX0_27 rfl rfl h1 ?_
  refine g_getR (f := 1) X dX0_findBirthday_4 flX0_48 rfl rfl (on_9_0 h1) ?_
  refine g_iload_n X dX0_findBirthday_7 2 rfl rfl ?_
  obtain ⟨e_1, hF⟩ := oguard hF
  refine g_aaldP X dX0_findBirthday_8 (on_8_0 (on_9_0 h1)) rfl e_1 ?_
  refine g_astore X dX0_findBirthday_9 (by decide) (lv' := [(4, .ref (ad (((a1 + 1) + 1) + 2 + x2.toNatClampNeg))), (0, .ref (ad a0)), (1, .ref (ad a1)), (2, .int x2), (3, .int x3)]) rfl ?_
  exact g_perm [2, 3, 4, 0] rfl (wX0_findBirthday_s11 X a0 a1 x2 x3 h0 h1 (((a1 + 1) + 1) + 2 + x2.toNatClampNeg) (on_p (on_8_0 (on_9_0 h1)) (inb e_1)) S r ho hF)
theorem tX0_findBirthday {ad : Nat → Nat} (hI : Inj ad) (l : Launch) (D : va_G) (cyy : Nat → ClassId) (a0 : Nat) (a1 : Nat) (x2 : Int32) (x3 : Int32) (h0 : KT a0 = 0) (h1 : KT a1 = 9) (S : St) (r : Int32) (hF : fX0_findBirthday a0 a1 x2 x3 S = some r) : OkM l yX0_findBirthday cX0_findBirthday 10 (some .int) 3 ad D cyy [.ref (ad a0), .ref (ad a1), .int x2, .int x3] S (some (.int r), S) := okM_of hI (by decide) (inr_48 _ (List.mem_of_getElem? (i := 1) rfl)) (by show _ ≤ 10; exact Nat.le_of_ble_eq_true rfl) (fun z X => wX0_findBirthday X a0 a1 x2 x3 h0 h1 S r rfl hF)
