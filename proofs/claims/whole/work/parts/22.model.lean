theorem dX11_skip_0 : decode cX11_skip 0 = .ok (.aload_n 0, 1) := by decide +kernel
theorem dX11_skip_1 : decode cX11_skip 1 = .ok (.iconst 0, 1) := by decide +kernel
theorem dX11_skip_2 : decode cX11_skip 2 = .ok (.putfield 1, 3) := by decide +kernel
theorem dX11_skip_5 : decode cX11_skip 5 = .ok (.aload_n 0, 1) := by decide +kernel
theorem dX11_skip_6 : decode cX11_skip 6 = .ok (.iload_n 1, 1) := by decide +kernel
theorem dX11_skip_7 : decode cX11_skip 7 = .ok (.invokevirtual 267, 3) := by decide +kernel
theorem dX11_skip_10 : decode cX11_skip 10 = .ok (.ifCond .eq 13, 3) := by decide +kernel
theorem dX11_skip_13 : decode cX11_skip 13 = .ok (.iload_n 2, 1) := by decide +kernel
theorem dX11_skip_14 : decode cX11_skip 14 = .ok (.iconst 1, 1) := by decide +kernel
theorem dX11_skip_15 : decode cX11_skip 15 = .ok (.bipush 99, 2) := by decide +kernel
theorem dX11_skip_17 : decode cX11_skip 17 = .ok (.invokestatic 173, 3) := by decide +kernel
theorem dX11_skip_20 : decode cX11_skip 20 = .ok (.ifCond .ne 5, 3) := by decide +kernel
theorem dX11_skip_23 : decode cX11_skip 23 = .ok (.iconst (-1), 1) := by decide +kernel
theorem dX11_skip_24 : decode cX11_skip 24 = .ok (.ireturn, 1) := by decide +kernel
theorem dX11_skip_25 : decode cX11_skip 25 = .ok (.aload_n 0, 1) := by decide +kernel
theorem dX11_skip_26 : decode cX11_skip 26 = .ok (.iload_n 1, 1) := by decide +kernel
theorem dX11_skip_27 : decode cX11_skip 27 = .ok (.iload_n 2, 1) := by decide +kernel
theorem dX11_skip_28 : decode cX11_skip 28 = .ok (.invokevirtual 306, 3) := by decide +kernel
theorem dX11_skip_31 : decode cX11_skip 31 = .ok (.ifCond .le 5, 3) := by decide +kernel
theorem dX11_skip_34 : decode cX11_skip 34 = .ok (.iconst 1, 1) := by decide +kernel
theorem dX11_skip_35 : decode cX11_skip 35 = .ok (.ireturn, 1) := by decide +kernel
theorem dX11_skip_36 : decode cX11_skip 36 = .ok (.aload_n 0, 1) := by decide +kernel
theorem dX11_skip_37 : decode cX11_skip 37 = .ok (.invokevirtual 300, 3) := by decide +kernel
theorem dX11_skip_40 : decode cX11_skip 40 = .ok (.aload_n 0, 1) := by decide +kernel
theorem dX11_skip_41 : decode cX11_skip 41 = .ok (.iload_n 1, 1) := by decide +kernel
theorem dX11_skip_42 : decode cX11_skip 42 = .ok (.iload_n 2, 1) := by decide +kernel
theorem dX11_skip_43 : decode cX11_skip 43 = .ok (.invokevirtual 309, 3) := by decide +kernel
theorem dX11_skip_46 : decode cX11_skip 46 = .ok (.iconst 0, 1) := by decide +kernel
theorem dX11_skip_47 : decode cX11_skip 47 = .ok (.ireturn, 1) := by decide +kernel
theorem dX11_days_0 : decode cX11_days 0 = .ok (.aload_n 0, 1) := by decide +kernel
theorem dX11_days_1 : decode cX11_days 1 = .ok (.iconst 0, 1) := by decide +kernel
theorem dX11_days_2 : decode cX11_days 2 = .ok (.putfield 1, 3) := by decide +kernel
theorem dX11_days_5 : decode cX11_days 5 = .ok (.iload_n 1, 1) := by decide +kernel
theorem dX11_days_6 : decode cX11_days 6 = .ok (.iconst 1, 1) := by decide +kernel
theorem dX11_days_7 : decode cX11_days 7 = .ok (.sipush 999, 3) := by decide +kernel
theorem dX11_days_10 : decode cX11_days 10 = .ok (.invokestatic 173, 3) := by decide +kernel
theorem dX11_days_13 : decode cX11_days 13 = .ok (.ifCond .ne 5, 3) := by decide +kernel
theorem dX11_days_16 : decode cX11_days 16 = .ok (.iconst (-1), 1) := by decide +kernel
theorem dX11_days_17 : decode cX11_days 17 = .ok (.ireturn, 1) := by decide +kernel
theorem dX11_days_18 : decode cX11_days 18 = .ok (.aload_n 0, 1) := by decide +kernel
theorem dX11_days_19 : decode cX11_days 19 = .ok (.getfield 33, 3) := by decide +kernel
theorem dX11_days_22 : decode cX11_days 22 = .ok (.bipush 52, 2) := by decide +kernel
theorem dX11_days_24 : decode cX11_days 24 = .ok (.iaload, 1) := by decide +kernel
theorem dX11_days_25 : decode cX11_days 25 = .ok (.sipush 10000, 3) := by decide +kernel
theorem dX11_days_28 : decode cX11_days 28 = .ok (.if_icmp .ne 5, 3) := by decide +kernel
theorem dX11_days_31 : decode cX11_days 31 = .ok (.iconst 0, 1) := by decide +kernel
theorem dX11_days_32 : decode cX11_days 32 = .ok (.ireturn, 1) := by decide +kernel
theorem dX11_days_33 : decode cX11_days 33 = .ok (.aload_n 0, 1) := by decide +kernel
theorem dX11_days_34 : decode cX11_days 34 = .ok (.invokevirtual 300, 3) := by decide +kernel
theorem dX11_days_37 : decode cX11_days 37 = .ok (.aload_n 0, 1) := by decide +kernel
theorem dX11_days_38 : decode cX11_days 38 = .ok (.iload_n 1, 1) := by decide +kernel
theorem dX11_days_39 : decode cX11_days 39 = .ok (.invokevirtual 313, 3) := by decide +kernel
theorem dX11_days_42 : decode cX11_days 42 = .ok (.ireturn, 1) := by decide +kernel
theorem dX11_undo_0 : decode cX11_undo 0 = .ok (.aload_n 0, 1) := by decide +kernel
theorem dX11_undo_1 : decode cX11_undo 1 = .ok (.iconst 0, 1) := by decide +kernel
theorem dX11_undo_2 : decode cX11_undo 2 = .ok (.putfield 1, 3) := by decide +kernel
theorem dX11_undo_5 : decode cX11_undo 5 = .ok (.aload_n 0, 1) := by decide +kernel
theorem dX11_undo_6 : decode cX11_undo 6 = .ok (.getfield 233, 3) := by decide +kernel
theorem dX11_undo_9 : decode cX11_undo 9 = .ok (.ifCond .ne 5, 3) := by decide +kernel
theorem dX11_undo_12 : decode cX11_undo 12 = .ok (.iconst (-1), 1) := by decide +kernel
theorem dX11_undo_13 : decode cX11_undo 13 = .ok (.ireturn, 1) := by decide +kernel
theorem dX11_undo_14 : decode cX11_undo 14 = .ok (.aload_n 0, 1) := by decide +kernel
theorem dX11_undo_15 : decode cX11_undo 15 = .ok (.dup, 1) := by decide +kernel
theorem dX11_undo_16 : decode cX11_undo 16 = .ok (.getfield 233, 3) := by decide +kernel
theorem dX11_undo_19 : decode cX11_undo 19 = .ok (.iconst 1, 1) := by decide +kernel
theorem dX11_undo_20 : decode cX11_undo 20 = .ok (.isub, 1) := by decide +kernel
theorem dX11_undo_21 : decode cX11_undo 21 = .ok (.putfield 233, 3) := by decide +kernel
theorem dX11_undo_24 : decode cX11_undo 24 = .ok (.iconst 0, 1) := by decide +kernel
theorem dX11_undo_25 : decode cX11_undo 25 = .ok (.istore_n 1, 1) := by decide +kernel
theorem dX11_undo_26 : decode cX11_undo 26 = .ok (.iload_n 1, 1) := by decide +kernel
theorem dX11_undo_27 : decode cX11_undo 27 = .ok (.bipush 17, 2) := by decide +kernel
theorem dX11_undo_29 : decode cX11_undo 29 = .ok (.if_icmp .ge 32, 3) := by decide +kernel
theorem dX11_undo_32 : decode cX11_undo 32 = .ok (.aload_n 0, 1) := by decide +kernel
theorem dX11_undo_33 : decode cX11_undo 33 = .ok (.getfield 33, 3) := by decide +kernel
theorem dX11_undo_36 : decode cX11_undo 36 = .ok (.bipush 52, 2) := by decide +kernel
theorem dX11_undo_38 : decode cX11_undo 38 = .ok (.iload_n 1, 1) := by decide +kernel
theorem dX11_undo_39 : decode cX11_undo 39 = .ok (.iadd, 1) := by decide +kernel
theorem dX11_undo_40 : decode cX11_undo 40 = .ok (.aload_n 0, 1) := by decide +kernel
theorem dX11_undo_41 : decode cX11_undo 41 = .ok (.getfield 50, 3) := by decide +kernel
theorem dX11_undo_44 : decode cX11_undo 44 = .ok (.bipush 17, 2) := by decide +kernel
theorem dX11_undo_46 : decode cX11_undo 46 = .ok (.aload_n 0, 1) := by decide +kernel
theorem dX11_undo_47 : decode cX11_undo 47 = .ok (.getfield 233, 3) := by decide +kernel
theorem dX11_undo_50 : decode cX11_undo 50 = .ok (.imul, 1) := by decide +kernel
theorem dX11_undo_51 : decode cX11_undo 51 = .ok (.iload_n 1, 1) := by decide +kernel
theorem dX11_undo_52 : decode cX11_undo 52 = .ok (.iadd, 1) := by decide +kernel
theorem dX11_undo_53 : decode cX11_undo 53 = .ok (.iaload, 1) := by decide +kernel
theorem dX11_undo_54 : decode cX11_undo 54 = .ok (.iastore, 1) := by decide +kernel
theorem dX11_undo_55 : decode cX11_undo 55 = .ok (.iinc 1 1, 3) := by decide +kernel
theorem dX11_undo_58 : decode cX11_undo 58 = .ok (.goto (-32), 3) := by decide +kernel
theorem dX11_undo_61 : decode cX11_undo 61 = .ok (.aload_n 0, 1) := by decide +kernel
theorem dX11_undo_62 : decode cX11_undo 62 = .ok (.getfield 233, 3) := by decide +kernel
theorem dX11_undo_65 : decode cX11_undo 65 = .ok (.ireturn, 1) := by decide +kernel
theorem dX11_tries_0 : decode cX11_tries 0 = .ok (.iconst 0, 1) := by decide +kernel
theorem dX11_tries_1 : decode cX11_tries 1 = .ok (.istore_n 1, 1) := by decide +kernel
theorem dX11_tries_2 : decode cX11_tries 2 = .ok (.iload_n 1, 1) := by decide +kernel
theorem dX11_tries_3 : decode cX11_tries 3 = .ok (.bipush 17, 2) := by decide +kernel
theorem dX11_tries_5 : decode cX11_tries 5 = .ok (.if_icmp .ge 24, 3) := by decide +kernel
theorem dX11_tries_8 : decode cX11_tries 8 = .ok (.aload_n 0, 1) := by decide +kernel
theorem dX11_tries_9 : decode cX11_tries 9 = .ok (.getfield 53, 3) := by decide +kernel
theorem dX11_tries_12 : decode cX11_tries 12 = .ok (.iload_n 1, 1) := by decide +kernel
theorem dX11_tries_13 : decode cX11_tries 13 = .ok (.aload_n 0, 1) := by decide +kernel
theorem dX11_tries_14 : decode cX11_tries 14 = .ok (.getfield 33, 3) := by decide +kernel
theorem dX11_tries_17 : decode cX11_tries 17 = .ok (.bipush 52, 2) := by decide +kernel
theorem dX11_tries_19 : decode cX11_tries 19 = .ok (.iload_n 1, 1) := by decide +kernel
theorem dX11_tries_20 : decode cX11_tries 20 = .ok (.iadd, 1) := by decide +kernel
theorem dX11_tries_21 : decode cX11_tries 21 = .ok (.iaload, 1) := by decide +kernel
theorem dX11_tries_22 : decode cX11_tries 22 = .ok (.iastore, 1) := by decide +kernel
theorem dX11_tries_23 : decode cX11_tries 23 = .ok (.iinc 1 1, 3) := by decide +kernel
theorem dX11_tries_26 : decode cX11_tries 26 = .ok (.goto (-24), 3) := by decide +kernel
theorem dX11_tries_29 : decode cX11_tries 29 = .ok (.return_, 1) := by decide +kernel
theorem dX11_back_0 : decode cX11_back 0 = .ok (.iconst 0, 1) := by decide +kernel
theorem dX11_back_1 : decode cX11_back 1 = .ok (.istore_n 1, 1) := by decide +kernel
theorem dX11_back_2 : decode cX11_back 2 = .ok (.iload_n 1, 1) := by decide +kernel
theorem dX11_back_3 : decode cX11_back 3 = .ok (.bipush 17, 2) := by decide +kernel
theorem dX11_back_5 : decode cX11_back 5 = .ok (.if_icmp .ge 24, 3) := by decide +kernel
theorem dX11_back_8 : decode cX11_back 8 = .ok (.aload_n 0, 1) := by decide +kernel
theorem dX11_back_9 : decode cX11_back 9 = .ok (.getfield 33, 3) := by decide +kernel
theorem dX11_back_12 : decode cX11_back 12 = .ok (.bipush 52, 2) := by decide +kernel
theorem dX11_back_14 : decode cX11_back 14 = .ok (.iload_n 1, 1) := by decide +kernel
theorem dX11_back_15 : decode cX11_back 15 = .ok (.iadd, 1) := by decide +kernel
theorem dX11_back_16 : decode cX11_back 16 = .ok (.aload_n 0, 1) := by decide +kernel
theorem dX11_back_17 : decode cX11_back 17 = .ok (.getfield 53, 3) := by decide +kernel
theorem dX11_back_20 : decode cX11_back 20 = .ok (.iload_n 1, 1) := by decide +kernel
theorem dX11_back_21 : decode cX11_back 21 = .ok (.iaload, 1) := by decide +kernel
theorem dX11_back_22 : decode cX11_back 22 = .ok (.iastore, 1) := by decide +kernel
theorem dX11_back_23 : decode cX11_back 23 = .ok (.iinc 1 1, 3) := by decide +kernel
theorem dX11_back_26 : decode cX11_back 26 = .ok (.goto (-24), 3) := by decide +kernel
theorem dX11_back_29 : decode cX11_back 29 = .ok (.return_, 1) := by decide +kernel
theorem dX11_next_0 : decode cX11_next 0 = .ok (.aload_n 0, 1) := by decide +kernel
theorem dX11_next_1 : decode cX11_next 1 = .ok (.iconst 0, 1) := by decide +kernel
theorem dX11_next_2 : decode cX11_next 2 = .ok (.putfield 1, 3) := by decide +kernel
theorem dX11_next_5 : decode cX11_next 5 = .ok (.aload_n 0, 1) := by decide +kernel
theorem dX11_next_6 : decode cX11_next 6 = .ok (.iload_n 1, 1) := by decide +kernel
theorem dX11_next_7 : decode cX11_next 7 = .ok (.invokevirtual 279, 3) := by decide +kernel
theorem dX11_next_10 : decode cX11_next 10 = .ok (.ifCond .ne 5, 3) := by decide +kernel
theorem dX11_next_13 : decode cX11_next 13 = .ok (.iconst (-1), 1) := by decide +kernel
theorem dX11_next_14 : decode cX11_next 14 = .ok (.ireturn, 1) := by decide +kernel
theorem dX11_next_15 : decode cX11_next 15 = .ok (.iconst 0, 1) := by decide +kernel
theorem dX11_next_16 : decode cX11_next 16 = .ok (.istore_n 2, 1) := by decide +kernel
theorem dX11_next_17 : decode cX11_next 17 = .ok (.aload_n 0, 1) := by decide +kernel
theorem dX11_next_18 : decode cX11_next 18 = .ok (.iload_n 1, 1) := by decide +kernel
theorem dX11_next_19 : decode cX11_next 19 = .ok (.iload_n 2, 1) := by decide +kernel
theorem dX11_next_20 : decode cX11_next 20 = .ok (.invokevirtual 282, 3) := by decide +kernel
theorem dX11_next_23 : decode cX11_next 23 = .ok (.ifCond .ne 9, 3) := by decide +kernel
theorem dX11_next_26 : decode cX11_next 26 = .ok (.iinc 2 1, 3) := by decide +kernel
theorem dX11_next_29 : decode cX11_next 29 = .ok (.goto (-12), 3) := by decide +kernel
theorem dX11_next_32 : decode cX11_next 32 = .ok (.iload_n 2, 1) := by decide +kernel
theorem dX11_next_33 : decode cX11_next 33 = .ok (.ireturn, 1) := by decide +kernel
theorem dX11_falls_0 : decode cX11_falls 0 = .ok (.aload_n 0, 1) := by decide +kernel
theorem dX11_falls_1 : decode cX11_falls 1 = .ok (.iconst 0, 1) := by decide +kernel
theorem dX11_falls_2 : decode cX11_falls 2 = .ok (.putfield 1, 3) := by decide +kernel
theorem dX11_falls_5 : decode cX11_falls 5 = .ok (.aload_n 0, 1) := by decide +kernel
theorem dX11_falls_6 : decode cX11_falls 6 = .ok (.iload_n 1, 1) := by decide +kernel
theorem dX11_falls_7 : decode cX11_falls 7 = .ok (.invokevirtual 279, 3) := by decide +kernel
theorem dX11_falls_10 : decode cX11_falls 10 = .ok (.ifCond .eq 14, 3) := by decide +kernel
theorem dX11_falls_13 : decode cX11_falls 13 = .ok (.iload_n 2, 1) := by decide +kernel
theorem dX11_falls_14 : decode cX11_falls 14 = .ok (.iconst 0, 1) := by decide +kernel
theorem dX11_falls_15 : decode cX11_falls 15 = .ok (.sipush 9999, 3) := by decide +kernel
theorem dX11_falls_18 : decode cX11_falls 18 = .ok (.invokestatic 173, 3) := by decide +kernel
theorem dX11_falls_21 : decode cX11_falls 21 = .ok (.ifCond .ne 5, 3) := by decide +kernel
theorem dX11_falls_24 : decode cX11_falls 24 = .ok (.iconst (-1), 1) := by decide +kernel
theorem dX11_falls_25 : decode cX11_falls 25 = .ok (.ireturn, 1) := by decide +kernel
theorem dX11_falls_26 : decode cX11_falls 26 = .ok (.iconst 0, 1) := by decide +kernel
theorem dX11_falls_27 : decode cX11_falls 27 = .ok (.istore_n 3, 1) := by decide +kernel
theorem dX11_falls_28 : decode cX11_falls 28 = .ok (.iconst 0, 1) := by decide +kernel
theorem dX11_falls_29 : decode cX11_falls 29 = .ok (.istore 4, 2) := by decide +kernel
theorem dX11_falls_31 : decode cX11_falls 31 = .ok (.iload 4, 2) := by decide +kernel
theorem dX11_falls_33 : decode cX11_falls 33 = .ok (.iload_n 2, 1) := by decide +kernel
theorem dX11_falls_34 : decode cX11_falls 34 = .ok (.if_icmp .gt 27, 3) := by decide +kernel
theorem dX11_falls_37 : decode cX11_falls 37 = .ok (.iload_n 3, 1) := by decide +kernel
theorem dX11_falls_38 : decode cX11_falls 38 = .ok (.aload_n 0, 1) := by decide +kernel
theorem dX11_falls_39 : decode cX11_falls 39 = .ok (.iload_n 1, 1) := by decide +kernel
theorem dX11_falls_40 : decode cX11_falls 40 = .ok (.iload 4, 2) := by decide +kernel
theorem dX11_falls_42 : decode cX11_falls 42 = .ok (.invokevirtual 282, 3) := by decide +kernel
theorem dX11_falls_45 : decode cX11_falls 45 = .ok (.ifCond .eq 7, 3) := by decide +kernel
theorem dX11_falls_48 : decode cX11_falls 48 = .ok (.iconst 1, 1) := by decide +kernel
theorem dX11_falls_49 : decode cX11_falls 49 = .ok (.goto 4, 3) := by decide +kernel
theorem dX11_falls_52 : decode cX11_falls 52 = .ok (.iconst 0, 1) := by decide +kernel
theorem dX11_falls_53 : decode cX11_falls 53 = .ok (.iadd, 1) := by decide +kernel
theorem dX11_falls_54 : decode cX11_falls 54 = .ok (.istore_n 3, 1) := by decide +kernel
theorem dX11_falls_55 : decode cX11_falls 55 = .ok (.iinc 4 1, 3) := by decide +kernel
theorem dX11_falls_58 : decode cX11_falls 58 = .ok (.goto (-27), 3) := by decide +kernel
theorem dX11_falls_61 : decode cX11_falls 61 = .ok (.iload_n 3, 1) := by decide +kernel
theorem dX11_falls_62 : decode cX11_falls 62 = .ok (.ireturn, 1) := by decide +kernel
theorem dX11_meet_0 : decode cX11_meet 0 = .ok (.aload_n 0, 1) := by decide +kernel
theorem dX11_meet_1 : decode cX11_meet 1 = .ok (.iconst 0, 1) := by decide +kernel
theorem dX11_meet_2 : decode cX11_meet 2 = .ok (.putfield 1, 3) := by decide +kernel
theorem dX11_meet_5 : decode cX11_meet 5 = .ok (.aload_n 0, 1) := by decide +kernel
theorem dX11_meet_6 : decode cX11_meet 6 = .ok (.iload_n 1, 1) := by decide +kernel
theorem dX11_meet_7 : decode cX11_meet 7 = .ok (.invokevirtual 279, 3) := by decide +kernel
theorem dX11_meet_10 : decode cX11_meet 10 = .ok (.ifCond .eq 11, 3) := by decide +kernel
theorem dX11_meet_13 : decode cX11_meet 13 = .ok (.aload_n 0, 1) := by decide +kernel
theorem dX11_meet_14 : decode cX11_meet 14 = .ok (.iload_n 2, 1) := by decide +kernel
theorem dX11_meet_15 : decode cX11_meet 15 = .ok (.invokevirtual 279, 3) := by decide +kernel
theorem dX11_meet_18 : decode cX11_meet 18 = .ok (.ifCond .ne 5, 3) := by decide +kernel
theorem dX11_meet_21 : decode cX11_meet 21 = .ok (.iconst (-1), 1) := by decide +kernel
theorem dX11_meet_22 : decode cX11_meet 22 = .ok (.ireturn, 1) := by decide +kernel
theorem dX11_meet_23 : decode cX11_meet 23 = .ok (.iconst 0, 1) := by decide +kernel
theorem dX11_meet_24 : decode cX11_meet 24 = .ok (.istore_n 3, 1) := by decide +kernel
theorem dX11_meet_25 : decode cX11_meet 25 = .ok (.iload_n 3, 1) := by decide +kernel
theorem dX11_meet_26 : decode cX11_meet 26 = .ok (.ldc_w 274, 3) := by decide +kernel
theorem dX11_meet_29 : decode cX11_meet 29 = .ok (.if_icmp .gt 29, 3) := by decide +kernel
theorem dX11_meet_32 : decode cX11_meet 32 = .ok (.aload_n 0, 1) := by decide +kernel
theorem dX11_meet_33 : decode cX11_meet 33 = .ok (.iload_n 1, 1) := by decide +kernel
theorem dX11_meet_34 : decode cX11_meet 34 = .ok (.iload_n 3, 1) := by decide +kernel
theorem dX11_meet_35 : decode cX11_meet 35 = .ok (.invokevirtual 282, 3) := by decide +kernel
theorem dX11_meet_38 : decode cX11_meet 38 = .ok (.ifCond .eq 14, 3) := by decide +kernel
theorem dX11_meet_41 : decode cX11_meet 41 = .ok (.aload_n 0, 1) := by decide +kernel
theorem dX11_meet_42 : decode cX11_meet 42 = .ok (.iload_n 2, 1) := by decide +kernel
theorem dX11_meet_43 : decode cX11_meet 43 = .ok (.iload_n 3, 1) := by decide +kernel
theorem dX11_meet_44 : decode cX11_meet 44 = .ok (.invokevirtual 282, 3) := by decide +kernel
theorem dX11_meet_47 : decode cX11_meet 47 = .ok (.ifCond .eq 5, 3) := by decide +kernel
theorem dX11_meet_50 : decode cX11_meet 50 = .ok (.iload_n 3, 1) := by decide +kernel
theorem dX11_meet_51 : decode cX11_meet 51 = .ok (.ireturn, 1) := by decide +kernel
theorem dX11_meet_52 : decode cX11_meet 52 = .ok (.iinc 3 1, 3) := by decide +kernel
theorem dX11_meet_55 : decode cX11_meet 55 = .ok (.goto (-30), 3) := by decide +kernel
theorem dX11_meet_58 : decode cX11_meet 58 = .ok (.iconst (-1), 1) := by decide +kernel
theorem dX11_meet_59 : decode cX11_meet 59 = .ok (.ireturn, 1) := by decide +kernel
theorem dX11_fair_0 : decode cX11_fair 0 = .ok (.aload_n 0, 1) := by decide +kernel
theorem dX11_fair_1 : decode cX11_fair 1 = .ok (.iconst 0, 1) := by decide +kernel
theorem dX11_fair_2 : decode cX11_fair 2 = .ok (.putfield 1, 3) := by decide +kernel
theorem dX11_fair_5 : decode cX11_fair 5 = .ok (.iload_n 1, 1) := by decide +kernel
theorem dX11_fair_6 : decode cX11_fair 6 = .ok (.ifCond .le 15, 3) := by decide +kernel
theorem dX11_fair_9 : decode cX11_fair 9 = .ok (.iload_n 1, 1) := by decide +kernel
theorem dX11_fair_10 : decode cX11_fair 10 = .ok (.iconst 1, 1) := by decide +kernel
theorem dX11_fair_11 : decode cX11_fair 11 = .ok (.aload_n 0, 1) := by decide +kernel
theorem dX11_fair_12 : decode cX11_fair 12 = .ok (.getfield 33, 3) := by decide +kernel
theorem dX11_fair_15 : decode cX11_fair 15 = .ok (.iconst 0, 1) := by decide +kernel
theorem dX11_fair_16 : decode cX11_fair 16 = .ok (.iaload, 1) := by decide +kernel
theorem dX11_fair_17 : decode cX11_fair 17 = .ok (.ishl, 1) := by decide +kernel
theorem dX11_fair_18 : decode cX11_fair 18 = .ok (.if_icmp .lt 5, 3) := by decide +kernel
theorem dX11_fair_21 : decode cX11_fair 21 = .ok (.iconst (-1), 1) := by decide +kernel
theorem dX11_fair_22 : decode cX11_fair 22 = .ok (.ireturn, 1) := by decide +kernel
theorem dX11_fair_23 : decode cX11_fair 23 = .ok (.iconst 0, 1) := by decide +kernel
theorem dX11_fair_24 : decode cX11_fair 24 = .ok (.istore_n 2, 1) := by decide +kernel
theorem dX11_fair_25 : decode cX11_fair 25 = .ok (.iload_n 2, 1) := by decide +kernel
theorem dX11_fair_26 : decode cX11_fair 26 = .ok (.sipush 2530, 3) := by decide +kernel
theorem dX11_fair_29 : decode cX11_fair 29 = .ok (.if_icmp .ge 77, 3) := by decide +kernel
theorem dX11_fair_32 : decode cX11_fair 32 = .ok (.iconst 1, 1) := by decide +kernel
theorem dX11_fair_33 : decode cX11_fair 33 = .ok (.istore_n 3, 1) := by decide +kernel
theorem dX11_fair_34 : decode cX11_fair 34 = .ok (.iconst 0, 1) := by decide +kernel
theorem dX11_fair_35 : decode cX11_fair 35 = .ok (.istore 4, 2) := by decide +kernel
theorem dX11_fair_37 : decode cX11_fair 37 = .ok (.iload 4, 2) := by decide +kernel
theorem dX11_fair_39 : decode cX11_fair 39 = .ok (.aload_n 0, 1) := by decide +kernel
theorem dX11_fair_40 : decode cX11_fair 40 = .ok (.getfield 33, 3) := by decide +kernel
theorem dX11_fair_43 : decode cX11_fair 43 = .ok (.iconst 0, 1) := by decide +kernel
theorem dX11_fair_44 : decode cX11_fair 44 = .ok (.iaload, 1) := by decide +kernel
theorem dX11_fair_45 : decode cX11_fair 45 = .ok (.if_icmp .ge 49, 3) := by decide +kernel
theorem dX11_fair_48 : decode cX11_fair 48 = .ok (.iload_n 3, 1) := by decide +kernel
theorem dX11_fair_49 : decode cX11_fair 49 = .ok (.ifCond .eq 37, 3) := by decide +kernel
theorem dX11_fair_52 : decode cX11_fair 52 = .ok (.iload_n 1, 1) := by decide +kernel
theorem dX11_fair_53 : decode cX11_fair 53 = .ok (.iload 4, 2) := by decide +kernel
theorem dX11_fair_55 : decode cX11_fair 55 = .ok (.invokestatic 236, 3) := by decide +kernel
theorem dX11_fair_58 : decode cX11_fair 58 = .ok (.ifCond .eq 24, 3) := by decide +kernel
theorem dX11_fair_61 : decode cX11_fair 61 = .ok (.aload_n 0, 1) := by decide +kernel
theorem dX11_fair_62 : decode cX11_fair 62 = .ok (.iload 4, 2) := by decide +kernel
theorem dX11_fair_64 : decode cX11_fair 64 = .ok (.iload_n 2, 1) := by decide +kernel
theorem dX11_fair_65 : decode cX11_fair 65 = .ok (.invokevirtual 258, 3) := by decide +kernel
theorem dX11_fair_68 : decode cX11_fair 68 = .ok (.aload_n 0, 1) := by decide +kernel
theorem dX11_fair_69 : decode cX11_fair 69 = .ok (.getfield 33, 3) := by decide +kernel
theorem dX11_fair_72 : decode cX11_fair 72 = .ok (.bipush 14, 2) := by decide +kernel
theorem dX11_fair_74 : decode cX11_fair 74 = .ok (.iload 4, 2) := by decide +kernel
theorem dX11_fair_76 : decode cX11_fair 76 = .ok (.iadd, 1) := by decide +kernel
theorem dX11_fair_77 : decode cX11_fair 77 = .ok (.iaload, 1) := by decide +kernel
theorem dX11_fair_78 : decode cX11_fair 78 = .ok (.irem, 1) := by decide +kernel
theorem dX11_fair_79 : decode cX11_fair 79 = .ok (.ifCond .ne 7, 3) := by decide +kernel
theorem dX11_fair_82 : decode cX11_fair 82 = .ok (.iconst 1, 1) := by decide +kernel
theorem dX11_fair_83 : decode cX11_fair 83 = .ok (.goto 4, 3) := by decide +kernel
theorem dX11_fair_86 : decode cX11_fair 86 = .ok (.iconst 0, 1) := by decide +kernel
theorem dX11_fair_87 : decode cX11_fair 87 = .ok (.istore_n 3, 1) := by decide +kernel
theorem dX11_fair_88 : decode cX11_fair 88 = .ok (.iinc 4 1, 3) := by decide +kernel
theorem dX11_fair_91 : decode cX11_fair 91 = .ok (.goto (-54), 3) := by decide +kernel
theorem dX11_fair_94 : decode cX11_fair 94 = .ok (.iload_n 3, 1) := by decide +kernel
theorem dX11_fair_95 : decode cX11_fair 95 = .ok (.ifCond .eq 5, 3) := by decide +kernel
theorem dX11_fair_98 : decode cX11_fair 98 = .ok (.iload_n 2, 1) := by decide +kernel
theorem dX11_fair_99 : decode cX11_fair 99 = .ok (.ireturn, 1) := by decide +kernel
theorem dX11_fair_100 : decode cX11_fair 100 = .ok (.iinc 2 1, 3) := by decide +kernel
theorem dX11_fair_103 : decode cX11_fair 103 = .ok (.goto (-78), 3) := by decide +kernel
theorem dX11_fair_106 : decode cX11_fair 106 = .ok (.iconst (-1), 1) := by decide +kernel
theorem dX11_fair_107 : decode cX11_fair 107 = .ok (.ireturn, 1) := by decide +kernel
theorem dX11_crowd_0 : decode cX11_crowd 0 = .ok (.aload_n 0, 1) := by decide +kernel
theorem dX11_crowd_1 : decode cX11_crowd 1 = .ok (.iconst 0, 1) := by decide +kernel
theorem dX11_crowd_2 : decode cX11_crowd 2 = .ok (.putfield 1, 3) := by decide +kernel
theorem dX11_crowd_5 : decode cX11_crowd 5 = .ok (.iload_n 1, 1) := by decide +kernel
theorem dX11_crowd_6 : decode cX11_crowd 6 = .ok (.iconst 0, 1) := by decide +kernel
theorem dX11_crowd_7 : decode cX11_crowd 7 = .ok (.sipush 999, 3) := by decide +kernel
theorem dX11_crowd_10 : decode cX11_crowd 10 = .ok (.invokestatic 173, 3) := by decide +kernel
theorem dX11_crowd_13 : decode cX11_crowd 13 = .ok (.ifCond .ne 5, 3) := by decide +kernel
theorem dX11_crowd_16 : decode cX11_crowd 16 = .ok (.iconst (-1), 1) := by decide +kernel
theorem dX11_crowd_17 : decode cX11_crowd 17 = .ok (.ireturn, 1) := by decide +kernel
theorem dX11_crowd_18 : decode cX11_crowd 18 = .ok (.iconst (-1), 1) := by decide +kernel
theorem dX11_crowd_19 : decode cX11_crowd 19 = .ok (.istore_n 2, 1) := by decide +kernel
theorem dX11_crowd_20 : decode cX11_crowd 20 = .ok (.iconst 0, 1) := by decide +kernel
theorem dX11_crowd_21 : decode cX11_crowd 21 = .ok (.istore_n 3, 1) := by decide +kernel
theorem dX11_crowd_22 : decode cX11_crowd 22 = .ok (.iload_n 3, 1) := by decide +kernel
theorem dX11_crowd_23 : decode cX11_crowd 23 = .ok (.iload_n 1, 1) := by decide +kernel
theorem dX11_crowd_24 : decode cX11_crowd 24 = .ok (.if_icmp .gt 69, 3) := by decide +kernel
theorem dX11_crowd_27 : decode cX11_crowd 27 = .ok (.iconst 0, 1) := by decide +kernel
theorem dX11_crowd_28 : decode cX11_crowd 28 = .ok (.istore 4, 2) := by decide +kernel
theorem dX11_crowd_30 : decode cX11_crowd 30 = .ok (.iconst 0, 1) := by decide +kernel
theorem dX11_crowd_31 : decode cX11_crowd 31 = .ok (.istore 5, 2) := by decide +kernel
theorem dX11_crowd_33 : decode cX11_crowd 33 = .ok (.iload 5, 2) := by decide +kernel
theorem dX11_crowd_35 : decode cX11_crowd 35 = .ok (.aload_n 0, 1) := by decide +kernel
theorem dX11_crowd_36 : decode cX11_crowd 36 = .ok (.getfield 33, 3) := by decide +kernel
theorem dX11_crowd_39 : decode cX11_crowd 39 = .ok (.iconst 1, 1) := by decide +kernel
theorem dX11_crowd_40 : decode cX11_crowd 40 = .ok (.iaload, 1) := by decide +kernel
theorem dX11_crowd_41 : decode cX11_crowd 41 = .ok (.if_icmp .ge 29, 3) := by decide +kernel
theorem dX11_crowd_44 : decode cX11_crowd 44 = .ok (.iload 4, 2) := by decide +kernel
theorem dX11_crowd_46 : decode cX11_crowd 46 = .ok (.aload_n 0, 1) := by decide +kernel
theorem dX11_crowd_47 : decode cX11_crowd 47 = .ok (.iload 5, 2) := by decide +kernel
theorem dX11_crowd_49 : decode cX11_crowd 49 = .ok (.iload_n 3, 1) := by decide +kernel
theorem dX11_crowd_50 : decode cX11_crowd 50 = .ok (.invokevirtual 282, 3) := by decide +kernel
theorem dX11_crowd_53 : decode cX11_crowd 53 = .ok (.ifCond .eq 7, 3) := by decide +kernel
theorem dX11_crowd_56 : decode cX11_crowd 56 = .ok (.iconst 1, 1) := by decide +kernel
theorem dX11_crowd_57 : decode cX11_crowd 57 = .ok (.goto 4, 3) := by decide +kernel
theorem dX11_crowd_60 : decode cX11_crowd 60 = .ok (.iconst 0, 1) := by decide +kernel
theorem dX11_crowd_61 : decode cX11_crowd 61 = .ok (.iadd, 1) := by decide +kernel
theorem dX11_crowd_62 : decode cX11_crowd 62 = .ok (.istore 4, 2) := by decide +kernel
theorem dX11_crowd_64 : decode cX11_crowd 64 = .ok (.iinc 5 1, 3) := by decide +kernel
theorem dX11_crowd_67 : decode cX11_crowd 67 = .ok (.goto (-34), 3) := by decide +kernel
theorem dX11_crowd_70 : decode cX11_crowd 70 = .ok (.iload 4, 2) := by decide +kernel
theorem dX11_crowd_72 : decode cX11_crowd 72 = .ok (.iload_n 2, 1) := by decide +kernel
theorem dX11_crowd_73 : decode cX11_crowd 73 = .ok (.if_icmp .gt 6, 3) := by decide +kernel
theorem dX11_crowd_76 : decode cX11_crowd 76 = .ok (.goto 11, 3) := by decide +kernel
theorem dX11_crowd_79 : decode cX11_crowd 79 = .ok (.iload 4, 2) := by decide +kernel
theorem dX11_crowd_81 : decode cX11_crowd 81 = .ok (.istore_n 2, 1) := by decide +kernel
theorem dX11_crowd_82 : decode cX11_crowd 82 = .ok (.aload_n 0, 1) := by decide +kernel
theorem dX11_crowd_83 : decode cX11_crowd 83 = .ok (.iload_n 3, 1) := by decide +kernel
theorem dX11_crowd_84 : decode cX11_crowd 84 = .ok (.putfield 56, 3) := by decide +kernel
theorem dX11_crowd_87 : decode cX11_crowd 87 = .ok (.iinc 3 1, 3) := by decide +kernel
theorem dX11_crowd_90 : decode cX11_crowd 90 = .ok (.goto (-68), 3) := by decide +kernel
theorem dX11_crowd_93 : decode cX11_crowd 93 = .ok (.iload_n 2, 1) := by decide +kernel
theorem dX11_crowd_94 : decode cX11_crowd 94 = .ok (.ireturn, 1) := by decide +kernel
theorem dX11_crowdOn_0 : decode cX11_crowdOn 0 = .ok (.aload_n 0, 1) := by decide +kernel
theorem dX11_crowdOn_1 : decode cX11_crowdOn 1 = .ok (.iconst 0, 1) := by decide +kernel
theorem dX11_crowdOn_2 : decode cX11_crowdOn 2 = .ok (.putfield 1, 3) := by decide +kernel
theorem dX11_crowdOn_5 : decode cX11_crowdOn 5 = .ok (.aload_n 0, 1) := by decide +kernel
theorem dX11_crowdOn_6 : decode cX11_crowdOn 6 = .ok (.getfield 56, 3) := by decide +kernel
theorem dX11_crowdOn_9 : decode cX11_crowdOn 9 = .ok (.ireturn, 1) := by decide +kernel
theorem dX11_common_0 : decode cX11_common 0 = .ok (.iload_n 0, 1) := by decide +kernel
theorem dX11_common_1 : decode cX11_common 1 = .ok (.istore_n 2, 1) := by decide +kernel
theorem dX11_common_2 : decode cX11_common 2 = .ok (.iload_n 1, 1) := by decide +kernel
theorem dX11_common_3 : decode cX11_common 3 = .ok (.istore_n 3, 1) := by decide +kernel
theorem dX11_common_4 : decode cX11_common 4 = .ok (.iload_n 3, 1) := by decide +kernel
theorem dX11_common_5 : decode cX11_common 5 = .ok (.ifCond .eq 16, 3) := by decide +kernel
theorem dX11_common_8 : decode cX11_common 8 = .ok (.iload_n 2, 1) := by decide +kernel
theorem dX11_common_9 : decode cX11_common 9 = .ok (.iload_n 3, 1) := by decide +kernel
theorem dX11_common_10 : decode cX11_common 10 = .ok (.irem, 1) := by decide +kernel
theorem dX11_common_11 : decode cX11_common 11 = .ok (.istore 4, 2) := by decide +kernel
theorem dX11_common_13 : decode cX11_common 13 = .ok (.iload_n 3, 1) := by decide +kernel
theorem dX11_common_14 : decode cX11_common 14 = .ok (.istore_n 2, 1) := by decide +kernel
theorem dX11_common_15 : decode cX11_common 15 = .ok (.iload 4, 2) := by decide +kernel
theorem dX11_common_17 : decode cX11_common 17 = .ok (.istore_n 3, 1) := by decide +kernel
theorem dX11_common_18 : decode cX11_common 18 = .ok (.goto (-14), 3) := by decide +kernel
theorem dX11_common_21 : decode cX11_common 21 = .ok (.iload_n 2, 1) := by decide +kernel
theorem dX11_common_22 : decode cX11_common 22 = .ok (.ireturn, 1) := by decide +kernel
theorem dX11_drift_0 : decode cX11_drift 0 = .ok (.aload_n 0, 1) := by decide +kernel
theorem dX11_drift_1 : decode cX11_drift 1 = .ok (.aload_n 0, 1) := by decide +kernel
theorem dX11_drift_2 : decode cX11_drift 2 = .ok (.iload_n 1, 1) := by decide +kernel
theorem dX11_drift_3 : decode cX11_drift 3 = .ok (.invokevirtual 267, 3) := by decide +kernel
theorem dX11_drift_6 : decode cX11_drift 6 = .ok (.ifCond .eq 12, 3) := by decide +kernel
theorem dX11_drift_9 : decode cX11_drift 9 = .ok (.iload_n 2, 1) := by decide +kernel
theorem dX11_drift_10 : decode cX11_drift 10 = .ok (.iconst 0, 1) := by decide +kernel
theorem dX11_drift_11 : decode cX11_drift 11 = .ok (.iconst 1, 1) := by decide +kernel
theorem dX11_drift_12 : decode cX11_drift 12 = .ok (.invokestatic 173, 3) := by decide +kernel
theorem dX11_drift_15 : decode cX11_drift 15 = .ok (.ifCond .ne 7, 3) := by decide +kernel
theorem dX11_drift_18 : decode cX11_drift 18 = .ok (.iconst 1, 1) := by decide +kernel
theorem dX11_drift_19 : decode cX11_drift 19 = .ok (.goto 4, 3) := by decide +kernel
theorem dX11_drift_22 : decode cX11_drift 22 = .ok (.iconst 0, 1) := by decide +kernel
theorem dX11_drift_23 : decode cX11_drift 23 = .ok (.invokevirtual 270, 3) := by decide +kernel
theorem dX11_drift_26 : decode cX11_drift 26 = .ok (.ifCond .eq 5, 3) := by decide +kernel
theorem dX11_drift_29 : decode cX11_drift 29 = .ok (.iconst 0, 1) := by decide +kernel
theorem dX11_drift_30 : decode cX11_drift 30 = .ok (.ireturn, 1) := by decide +kernel
theorem dX11_drift_31 : decode cX11_drift 31 = .ok (.aload_n 0, 1) := by decide +kernel
theorem dX11_drift_32 : decode cX11_drift 32 = .ok (.iload_n 1, 1) := by decide +kernel
theorem dX11_drift_33 : decode cX11_drift 33 = .ok (.invokevirtual 243, 3) := by decide +kernel
theorem dX11_drift_36 : decode cX11_drift 36 = .ok (.aload_n 0, 1) := by decide +kernel
theorem dX11_drift_37 : decode cX11_drift 37 = .ok (.getfield 33, 3) := by decide +kernel
theorem dX11_drift_40 : decode cX11_drift 40 = .ok (.iconst 3, 1) := by decide +kernel
theorem dX11_drift_41 : decode cX11_drift 41 = .ok (.iaload, 1) := by decide +kernel
theorem dX11_drift_42 : decode cX11_drift 42 = .ok (.imul, 1) := by decide +kernel
theorem dX11_drift_43 : decode cX11_drift 43 = .ok (.aload_n 0, 1) := by decide +kernel
theorem dX11_drift_44 : decode cX11_drift 44 = .ok (.getfield 33, 3) := by decide +kernel
theorem dX11_drift_47 : decode cX11_drift 47 = .ok (.iconst 2, 1) := by decide +kernel
theorem dX11_drift_48 : decode cX11_drift 48 = .ok (.iaload, 1) := by decide +kernel
theorem dX11_drift_49 : decode cX11_drift 49 = .ok (.aload_n 0, 1) := by decide +kernel
theorem dX11_drift_50 : decode cX11_drift 50 = .ok (.getfield 33, 3) := by decide +kernel
theorem dX11_drift_53 : decode cX11_drift 53 = .ok (.bipush 29, 2) := by decide +kernel
theorem dX11_drift_55 : decode cX11_drift 55 = .ok (.iload_n 1, 1) := by decide +kernel
theorem dX11_drift_56 : decode cX11_drift 56 = .ok (.iadd, 1) := by decide +kernel
theorem dX11_drift_57 : decode cX11_drift 57 = .ok (.iaload, 1) := by decide +kernel
theorem dX11_drift_58 : decode cX11_drift 58 = .ok (.imul, 1) := by decide +kernel
theorem dX11_drift_59 : decode cX11_drift 59 = .ok (.isub, 1) := by decide +kernel
theorem dX11_drift_60 : decode cX11_drift 60 = .ok (.istore_n 3, 1) := by decide +kernel
theorem dX11_drift_61 : decode cX11_drift 61 = .ok (.aload_n 0, 1) := by decide +kernel
theorem dX11_drift_62 : decode cX11_drift 62 = .ok (.getfield 33, 3) := by decide +kernel
theorem dX11_drift_65 : decode cX11_drift 65 = .ok (.bipush 29, 2) := by decide +kernel
theorem dX11_drift_67 : decode cX11_drift 67 = .ok (.iload_n 1, 1) := by decide +kernel
theorem dX11_drift_68 : decode cX11_drift 68 = .ok (.iadd, 1) := by decide +kernel
theorem dX11_drift_69 : decode cX11_drift 69 = .ok (.iaload, 1) := by decide +kernel
theorem dX11_drift_70 : decode cX11_drift 70 = .ok (.aload_n 0, 1) := by decide +kernel
theorem dX11_drift_71 : decode cX11_drift 71 = .ok (.getfield 33, 3) := by decide +kernel
theorem dX11_drift_74 : decode cX11_drift 74 = .ok (.iconst 3, 1) := by decide +kernel
theorem dX11_drift_75 : decode cX11_drift 75 = .ok (.iaload, 1) := by decide +kernel
theorem dX11_drift_76 : decode cX11_drift 76 = .ok (.imul, 1) := by decide +kernel
theorem dX11_drift_77 : decode cX11_drift 77 = .ok (.istore 4, 2) := by decide +kernel
theorem dX11_drift_79 : decode cX11_drift 79 = .ok (.iload_n 2, 1) := by decide +kernel
theorem dX11_drift_80 : decode cX11_drift 80 = .ok (.ifCond .ne 7, 3) := by decide +kernel
theorem dX11_drift_83 : decode cX11_drift 83 = .ok (.iload_n 3, 1) := by decide +kernel
theorem dX11_drift_84 : decode cX11_drift 84 = .ok (.goto 5, 3) := by decide +kernel
theorem dX11_drift_87 : decode cX11_drift 87 = .ok (.iload 4, 2) := by decide +kernel
theorem dX11_drift_89 : decode cX11_drift 89 = .ok (.iload 4, 2) := by decide +kernel
theorem dX11_drift_91 : decode cX11_drift 91 = .ok (.iload_n 3, 1) := by decide +kernel
theorem dX11_drift_92 : decode cX11_drift 92 = .ok (.invokestatic 316, 3) := by decide +kernel
theorem dX11_drift_95 : decode cX11_drift 95 = .ok (.invokestatic 319, 3) := by decide +kernel
theorem dX11_drift_98 : decode cX11_drift 98 = .ok (.idiv, 1) := by decide +kernel
theorem dX11_drift_99 : decode cX11_drift 99 = .ok (.ireturn, 1) := by decide +kernel
theorem dX11_tune_0 : decode cX11_tune 0 = .ok (.aload_n 0, 1) := by decide +kernel
theorem dX11_tune_1 : decode cX11_tune 1 = .ok (.iconst 0, 1) := by decide +kernel
theorem dX11_tune_2 : decode cX11_tune 2 = .ok (.putfield 1, 3) := by decide +kernel
theorem dX11_tune_5 : decode cX11_tune 5 = .ok (.aload_n 0, 1) := by decide +kernel
theorem dX11_tune_6 : decode cX11_tune 6 = .ok (.iload_n 1, 1) := by decide +kernel
theorem dX11_tune_7 : decode cX11_tune 7 = .ok (.invokevirtual 267, 3) := by decide +kernel
theorem dX11_tune_10 : decode cX11_tune 10 = .ok (.ifCond .eq 13, 3) := by decide +kernel
theorem dX11_tune_13 : decode cX11_tune 13 = .ok (.iload_n 2, 1) := by decide +kernel
theorem dX11_tune_14 : decode cX11_tune 14 = .ok (.iconst 1, 1) := by decide +kernel
theorem dX11_tune_15 : decode cX11_tune 15 = .ok (.bipush 30, 2) := by decide +kernel
theorem dX11_tune_17 : decode cX11_tune 17 = .ok (.invokestatic 173, 3) := by decide +kernel
theorem dX11_tune_20 : decode cX11_tune 20 = .ok (.ifCond .ne 5, 3) := by decide +kernel
theorem dX11_tune_23 : decode cX11_tune 23 = .ok (.iconst (-1), 1) := by decide +kernel
theorem dX11_tune_24 : decode cX11_tune 24 = .ok (.ireturn, 1) := by decide +kernel
theorem dX11_tune_25 : decode cX11_tune 25 = .ok (.iconst 0, 1) := by decide +kernel
theorem dX11_tune_26 : decode cX11_tune 26 = .ok (.istore_n 3, 1) := by decide +kernel
theorem dX11_tune_27 : decode cX11_tune 27 = .ok (.iconst 0, 1) := by decide +kernel
theorem dX11_tune_28 : decode cX11_tune 28 = .ok (.istore 4, 2) := by decide +kernel
theorem dX11_tune_30 : decode cX11_tune 30 = .ok (.iconst 1, 1) := by decide +kernel
theorem dX11_tune_31 : decode cX11_tune 31 = .ok (.istore 5, 2) := by decide +kernel
theorem dX11_tune_33 : decode cX11_tune 33 = .ok (.iload 5, 2) := by decide +kernel
theorem dX11_tune_35 : decode cX11_tune 35 = .ok (.iload_n 2, 1) := by decide +kernel
theorem dX11_tune_36 : decode cX11_tune 36 = .ok (.if_icmp .gt 90, 3) := by decide +kernel
theorem dX11_tune_39 : decode cX11_tune 39 = .ok (.iconst 0, 1) := by decide +kernel
theorem dX11_tune_40 : decode cX11_tune 40 = .ok (.istore 6, 2) := by decide +kernel
theorem dX11_tune_42 : decode cX11_tune 42 = .ok (.iload 6, 2) := by decide +kernel
theorem dX11_tune_44 : decode cX11_tune 44 = .ok (.bipush 10, 2) := by decide +kernel
theorem dX11_tune_46 : decode cX11_tune 46 = .ok (.if_icmp .ge 74, 3) := by decide +kernel
theorem dX11_tune_49 : decode cX11_tune 49 = .ok (.aload_n 0, 1) := by decide +kernel
theorem dX11_tune_50 : decode cX11_tune 50 = .ok (.iload_n 1, 1) := by decide +kernel
theorem dX11_tune_51 : decode cX11_tune 51 = .ok (.invokevirtual 239, 3) := by decide +kernel
theorem dX11_tune_54 : decode cX11_tune 54 = .ok (.iload 5, 2) := by decide +kernel
theorem dX11_tune_56 : decode cX11_tune 56 = .ok (.imul, 1) := by decide +kernel
theorem dX11_tune_57 : decode cX11_tune 57 = .ok (.iload 6, 2) := by decide +kernel
theorem dX11_tune_59 : decode cX11_tune 59 = .ok (.iadd, 1) := by decide +kernel
theorem dX11_tune_60 : decode cX11_tune 60 = .ok (.aload_n 0, 1) := by decide +kernel
theorem dX11_tune_61 : decode cX11_tune 61 = .ok (.getfield 33, 3) := by decide +kernel
theorem dX11_tune_64 : decode cX11_tune 64 = .ok (.iconst 3, 1) := by decide +kernel
theorem dX11_tune_65 : decode cX11_tune 65 = .ok (.iaload, 1) := by decide +kernel
theorem dX11_tune_66 : decode cX11_tune 66 = .ok (.imul, 1) := by decide +kernel
theorem dX11_tune_67 : decode cX11_tune 67 = .ok (.aload_n 0, 1) := by decide +kernel
theorem dX11_tune_68 : decode cX11_tune 68 = .ok (.getfield 33, 3) := by decide +kernel
theorem dX11_tune_71 : decode cX11_tune 71 = .ok (.iconst 2, 1) := by decide +kernel
theorem dX11_tune_72 : decode cX11_tune 72 = .ok (.iaload, 1) := by decide +kernel
theorem dX11_tune_73 : decode cX11_tune 73 = .ok (.iload 5, 2) := by decide +kernel
theorem dX11_tune_75 : decode cX11_tune 75 = .ok (.imul, 1) := by decide +kernel
theorem dX11_tune_76 : decode cX11_tune 76 = .ok (.isub, 1) := by decide +kernel
theorem dX11_tune_77 : decode cX11_tune 77 = .ok (.invokestatic 316, 3) := by decide +kernel
theorem dX11_tune_80 : decode cX11_tune 80 = .ok (.istore 7, 2) := by decide +kernel
theorem dX11_tune_82 : decode cX11_tune 82 = .ok (.iload_n 3, 1) := by decide +kernel
theorem dX11_tune_83 : decode cX11_tune 83 = .ok (.ifCond .le 18, 3) := by decide +kernel
theorem dX11_tune_86 : decode cX11_tune 86 = .ok (.iload 7, 2) := by decide +kernel
theorem dX11_tune_88 : decode cX11_tune 88 = .ok (.iload_n 3, 1) := by decide +kernel
theorem dX11_tune_89 : decode cX11_tune 89 = .ok (.imul, 1) := by decide +kernel
theorem dX11_tune_90 : decode cX11_tune 90 = .ok (.iload 4, 2) := by decide +kernel
theorem dX11_tune_92 : decode cX11_tune 92 = .ok (.iload 5, 2) := by decide +kernel
theorem dX11_tune_94 : decode cX11_tune 94 = .ok (.imul, 1) := by decide +kernel
theorem dX11_tune_95 : decode cX11_tune 95 = .ok (.if_icmp .lt 6, 3) := by decide +kernel
theorem dX11_tune_98 : decode cX11_tune 98 = .ok (.goto 16, 3) := by decide +kernel
theorem dX11_tune_101 : decode cX11_tune 101 = .ok (.iload 5, 2) := by decide +kernel
theorem dX11_tune_103 : decode cX11_tune 103 = .ok (.istore_n 3, 1) := by decide +kernel
theorem dX11_tune_104 : decode cX11_tune 104 = .ok (.iload 7, 2) := by decide +kernel
theorem dX11_tune_106 : decode cX11_tune 106 = .ok (.istore 4, 2) := by decide +kernel
theorem dX11_tune_108 : decode cX11_tune 108 = .ok (.aload_n 0, 1) := by decide +kernel
theorem dX11_tune_109 : decode cX11_tune 109 = .ok (.iload 6, 2) := by decide +kernel
theorem dX11_tune_111 : decode cX11_tune 111 = .ok (.putfield 59, 3) := by decide +kernel
theorem dX11_tune_114 : decode cX11_tune 114 = .ok (.iinc 6 1, 3) := by decide +kernel
theorem dX11_tune_117 : decode cX11_tune 117 = .ok (.goto (-75), 3) := by decide +kernel
theorem dX11_tune_120 : decode cX11_tune 120 = .ok (.iinc 5 1, 3) := by decide +kernel
theorem dX11_tune_123 : decode cX11_tune 123 = .ok (.goto (-90), 3) := by decide +kernel
theorem dX11_tune_126 : decode cX11_tune 126 = .ok (.iload_n 3, 1) := by decide +kernel
theorem dX11_tune_127 : decode cX11_tune 127 = .ok (.ireturn, 1) := by decide +kernel
theorem dX11_tuned_0 : decode cX11_tuned 0 = .ok (.aload_n 0, 1) := by decide +kernel
theorem dX11_tuned_1 : decode cX11_tuned 1 = .ok (.iconst 0, 1) := by decide +kernel
theorem dX11_tuned_2 : decode cX11_tuned 2 = .ok (.putfield 1, 3) := by decide +kernel
theorem dX11_tuned_5 : decode cX11_tuned 5 = .ok (.aload_n 0, 1) := by decide +kernel
theorem dX11_tuned_6 : decode cX11_tuned 6 = .ok (.getfield 59, 3) := by decide +kernel
theorem dX11_tuned_9 : decode cX11_tuned 9 = .ok (.ireturn, 1) := by decide +kernel
theorem dX11_skipsTo_0 : decode cX11_skipsTo 0 = .ok (.iconst 0, 1) := by decide +kernel
theorem dX11_skipsTo_1 : decode cX11_skipsTo 1 = .ok (.istore_n 3, 1) := by decide +kernel
theorem dX11_skipsTo_2 : decode cX11_skipsTo 2 = .ok (.iload_n 3, 1) := by decide +kernel
theorem dX11_skipsTo_3 : decode cX11_skipsTo 3 = .ok (.sipush 400, 3) := by decide +kernel
theorem dX11_skipsTo_6 : decode cX11_skipsTo 6 = .ok (.if_icmp .gt 35, 3) := by decide +kernel
theorem dX11_skipsTo_9 : decode cX11_skipsTo 9 = .ok (.aload_n 0, 1) := by decide +kernel
theorem dX11_skipsTo_10 : decode cX11_skipsTo 10 = .ok (.iload_n 1, 1) := by decide +kernel
theorem dX11_skipsTo_11 : decode cX11_skipsTo 11 = .ok (.aload_n 0, 1) := by decide +kernel
theorem dX11_skipsTo_12 : decode cX11_skipsTo 12 = .ok (.getfield 33, 3) := by decide +kernel
theorem dX11_skipsTo_15 : decode cX11_skipsTo 15 = .ok (.bipush 54, 2) := by decide +kernel
theorem dX11_skipsTo_17 : decode cX11_skipsTo 17 = .ok (.iload_n 1, 1) := by decide +kernel
theorem dX11_skipsTo_18 : decode cX11_skipsTo 18 = .ok (.iadd, 1) := by decide +kernel
theorem dX11_skipsTo_19 : decode cX11_skipsTo 19 = .ok (.iaload, 1) := by decide +kernel
theorem dX11_skipsTo_20 : decode cX11_skipsTo 20 = .ok (.iload_n 3, 1) := by decide +kernel
theorem dX11_skipsTo_21 : decode cX11_skipsTo 21 = .ok (.iadd, 1) := by decide +kernel
theorem dX11_skipsTo_22 : decode cX11_skipsTo 22 = .ok (.invokevirtual 252, 3) := by decide +kernel
theorem dX11_skipsTo_25 : decode cX11_skipsTo 25 = .ok (.aload_n 0, 1) := by decide +kernel
theorem dX11_skipsTo_26 : decode cX11_skipsTo 26 = .ok (.iload_n 2, 1) := by decide +kernel
theorem dX11_skipsTo_27 : decode cX11_skipsTo 27 = .ok (.invokevirtual 264, 3) := by decide +kernel
theorem dX11_skipsTo_30 : decode cX11_skipsTo 30 = .ok (.if_icmp .ne 5, 3) := by decide +kernel
theorem dX11_skipsTo_33 : decode cX11_skipsTo 33 = .ok (.iload_n 3, 1) := by decide +kernel
theorem dX11_skipsTo_34 : decode cX11_skipsTo 34 = .ok (.ireturn, 1) := by decide +kernel
theorem dX11_skipsTo_35 : decode cX11_skipsTo 35 = .ok (.iinc 3 1, 3) := by decide +kernel
theorem dX11_skipsTo_38 : decode cX11_skipsTo 38 = .ok (.goto (-36), 3) := by decide +kernel
theorem dX11_skipsTo_41 : decode cX11_skipsTo 41 = .ok (.ldc_w 322, 3) := by decide +kernel
theorem dX11_skipsTo_44 : decode cX11_skipsTo 44 = .ok (.ireturn, 1) := by decide +kernel
theorem dX11_agree_0 : decode cX11_agree 0 = .ok (.aload_n 0, 1) := by decide +kernel
theorem dX11_agree_1 : decode cX11_agree 1 = .ok (.iconst 0, 1) := by decide +kernel
theorem dX11_agree_2 : decode cX11_agree 2 = .ok (.putfield 1, 3) := by decide +kernel
theorem dX11_agree_5 : decode cX11_agree 5 = .ok (.aload_n 0, 1) := by decide +kernel
theorem dX11_agree_6 : decode cX11_agree 6 = .ok (.iload_n 1, 1) := by decide +kernel
theorem dX11_agree_7 : decode cX11_agree 7 = .ok (.invokevirtual 267, 3) := by decide +kernel
theorem dX11_agree_10 : decode cX11_agree 10 = .ok (.ifCond .eq 11, 3) := by decide +kernel
theorem dX11_agree_13 : decode cX11_agree 13 = .ok (.aload_n 0, 1) := by decide +kernel
theorem dX11_agree_14 : decode cX11_agree 14 = .ok (.iload_n 2, 1) := by decide +kernel
theorem dX11_agree_15 : decode cX11_agree 15 = .ok (.invokevirtual 267, 3) := by decide +kernel
theorem dX11_agree_18 : decode cX11_agree 18 = .ok (.ifCond .ne 5, 3) := by decide +kernel
theorem dX11_agree_21 : decode cX11_agree 21 = .ok (.iconst (-1), 1) := by decide +kernel
theorem dX11_agree_22 : decode cX11_agree 22 = .ok (.ireturn, 1) := by decide +kernel
theorem dX11_agree_23 : decode cX11_agree 23 = .ok (.aload_n 0, 1) := by decide +kernel
theorem dX11_agree_24 : decode cX11_agree 24 = .ok (.iload_n 1, 1) := by decide +kernel
theorem dX11_agree_25 : decode cX11_agree 25 = .ok (.iload_n 2, 1) := by decide +kernel
theorem dX11_agree_26 : decode cX11_agree 26 = .ok (.invokevirtual 323, 3) := by decide +kernel
theorem dX11_agree_29 : decode cX11_agree 29 = .ok (.istore_n 3, 1) := by decide +kernel
theorem dX11_agree_30 : decode cX11_agree 30 = .ok (.aload_n 0, 1) := by decide +kernel
theorem dX11_agree_31 : decode cX11_agree 31 = .ok (.iload_n 2, 1) := by decide +kernel
theorem dX11_agree_32 : decode cX11_agree 32 = .ok (.iload_n 1, 1) := by decide +kernel
theorem dX11_agree_33 : decode cX11_agree 33 = .ok (.invokevirtual 323, 3) := by decide +kernel
theorem dX11_agree_36 : decode cX11_agree 36 = .ok (.istore 4, 2) := by decide +kernel
theorem dX11_agree_38 : decode cX11_agree 38 = .ok (.iload_n 3, 1) := by decide +kernel
theorem dX11_agree_39 : decode cX11_agree 39 = .ok (.ldc_w 322, 3) := by decide +kernel
theorem dX11_agree_42 : decode cX11_agree 42 = .ok (.if_icmp .ne 13, 3) := by decide +kernel
theorem dX11_agree_45 : decode cX11_agree 45 = .ok (.iload 4, 2) := by decide +kernel
theorem dX11_agree_47 : decode cX11_agree 47 = .ok (.ldc_w 322, 3) := by decide +kernel
theorem dX11_agree_50 : decode cX11_agree 50 = .ok (.if_icmp .ne 5, 3) := by decide +kernel
theorem dX11_agree_53 : decode cX11_agree 53 = .ok (.iconst (-1), 1) := by decide +kernel
theorem dX11_agree_54 : decode cX11_agree 54 = .ok (.ireturn, 1) := by decide +kernel
theorem dX11_agree_55 : decode cX11_agree 55 = .ok (.aload_n 0, 1) := by decide +kernel
theorem dX11_agree_56 : decode cX11_agree 56 = .ok (.iload 4, 2) := by decide +kernel
theorem dX11_agree_58 : decode cX11_agree 58 = .ok (.iload_n 3, 1) := by decide +kernel
theorem dX11_agree_59 : decode cX11_agree 59 = .ok (.if_icmp .ge 7, 3) := by decide +kernel
theorem dX11_agree_62 : decode cX11_agree 62 = .ok (.iload_n 2, 1) := by decide +kernel
theorem dX11_agree_63 : decode cX11_agree 63 = .ok (.goto 4, 3) := by decide +kernel
theorem dX11_agree_66 : decode cX11_agree 66 = .ok (.iload_n 1, 1) := by decide +kernel
theorem dX11_agree_67 : decode cX11_agree 67 = .ok (.putfield 62, 3) := by decide +kernel
theorem dX11_agree_70 : decode cX11_agree 70 = .ok (.iload 4, 2) := by decide +kernel
theorem dX11_agree_72 : decode cX11_agree 72 = .ok (.iload_n 3, 1) := by decide +kernel
theorem dX11_agree_73 : decode cX11_agree 73 = .ok (.if_icmp .ge 8, 3) := by decide +kernel
theorem dX11_agree_76 : decode cX11_agree 76 = .ok (.iload 4, 2) := by decide +kernel
theorem dX11_agree_78 : decode cX11_agree 78 = .ok (.goto 4, 3) := by decide +kernel
theorem dX11_agree_81 : decode cX11_agree 81 = .ok (.iload_n 3, 1) := by decide +kernel
theorem dX11_agree_82 : decode cX11_agree 82 = .ok (.ireturn, 1) := by decide +kernel
theorem dX11_agreeing_0 : decode cX11_agreeing 0 = .ok (.aload_n 0, 1) := by decide +kernel
theorem dX11_agreeing_1 : decode cX11_agreeing 1 = .ok (.iconst 0, 1) := by decide +kernel
theorem dX11_agreeing_2 : decode cX11_agreeing 2 = .ok (.putfield 1, 3) := by decide +kernel
theorem dX11_agreeing_5 : decode cX11_agreeing 5 = .ok (.aload_n 0, 1) := by decide +kernel
theorem dX11_agreeing_6 : decode cX11_agreeing 6 = .ok (.getfield 62, 3) := by decide +kernel
theorem dX11_agreeing_9 : decode cX11_agreeing 9 = .ok (.ireturn, 1) := by decide +kernel
theorem dX11_match_0 : decode cX11_match 0 = .ok (.aload_n 0, 1) := by decide +kernel
theorem dX11_match_1 : decode cX11_match 1 = .ok (.iconst 0, 1) := by decide +kernel
theorem dX11_match_2 : decode cX11_match 2 = .ok (.putfield 1, 3) := by decide +kernel
theorem dX11_match_5 : decode cX11_match 5 = .ok (.aload_n 0, 1) := by decide +kernel
theorem dX11_match_6 : decode cX11_match 6 = .ok (.iload_n 1, 1) := by decide +kernel
theorem dX11_match_7 : decode cX11_match 7 = .ok (.invokevirtual 267, 3) := by decide +kernel
theorem dX11_match_10 : decode cX11_match 10 = .ok (.ifCond .eq 22, 3) := by decide +kernel
theorem dX11_match_13 : decode cX11_match 13 = .ok (.aload_n 0, 1) := by decide +kernel
theorem dX11_match_14 : decode cX11_match 14 = .ok (.iload_n 2, 1) := by decide +kernel
theorem dX11_match_15 : decode cX11_match 15 = .ok (.invokevirtual 267, 3) := by decide +kernel
theorem dX11_match_18 : decode cX11_match 18 = .ok (.ifCond .eq 14, 3) := by decide +kernel
theorem dX11_match_21 : decode cX11_match 21 = .ok (.iload_n 3, 1) := by decide +kernel
theorem dX11_match_22 : decode cX11_match 22 = .ok (.iconst 0, 1) := by decide +kernel
theorem dX11_match_23 : decode cX11_match 23 = .ok (.sipush 999, 3) := by decide +kernel
theorem dX11_match_26 : decode cX11_match 26 = .ok (.invokestatic 173, 3) := by decide +kernel
theorem dX11_match_29 : decode cX11_match 29 = .ok (.ifCond .ne 5, 3) := by decide +kernel
theorem dX11_match_32 : decode cX11_match 32 = .ok (.iconst (-1), 1) := by decide +kernel
theorem dX11_match_33 : decode cX11_match 33 = .ok (.ireturn, 1) := by decide +kernel
theorem dX11_match_34 : decode cX11_match 34 = .ok (.iconst 0, 1) := by decide +kernel
theorem dX11_match_35 : decode cX11_match 35 = .ok (.istore 4, 2) := by decide +kernel
theorem dX11_match_37 : decode cX11_match 37 = .ok (.iload_n 3, 1) := by decide +kernel
theorem dX11_match_38 : decode cX11_match 38 = .ok (.istore 5, 2) := by decide +kernel
theorem dX11_match_40 : decode cX11_match 40 = .ok (.iload 5, 2) := by decide +kernel
theorem dX11_match_42 : decode cX11_match 42 = .ok (.ifCond .lt 38, 3) := by decide +kernel
theorem dX11_match_45 : decode cX11_match 45 = .ok (.aload_n 0, 1) := by decide +kernel
theorem dX11_match_46 : decode cX11_match 46 = .ok (.iload_n 1, 1) := by decide +kernel
theorem dX11_match_47 : decode cX11_match 47 = .ok (.iload 5, 2) := by decide +kernel
theorem dX11_match_49 : decode cX11_match 49 = .ok (.invokevirtual 261, 3) := by decide +kernel
theorem dX11_match_52 : decode cX11_match 52 = .ok (.aload_n 0, 1) := by decide +kernel
theorem dX11_match_53 : decode cX11_match 53 = .ok (.iload_n 2, 1) := by decide +kernel
theorem dX11_match_54 : decode cX11_match 54 = .ok (.iload 5, 2) := by decide +kernel
theorem dX11_match_56 : decode cX11_match 56 = .ok (.invokevirtual 261, 3) := by decide +kernel
theorem dX11_match_59 : decode cX11_match 59 = .ok (.if_icmp .eq 6, 3) := by decide +kernel
theorem dX11_match_62 : decode cX11_match 62 = .ok (.goto 12, 3) := by decide +kernel
theorem dX11_match_65 : decode cX11_match 65 = .ok (.iinc 4 1, 3) := by decide +kernel
theorem dX11_match_68 : decode cX11_match 68 = .ok (.aload_n 0, 1) := by decide +kernel
theorem dX11_match_69 : decode cX11_match 69 = .ok (.iload 5, 2) := by decide +kernel
theorem dX11_match_71 : decode cX11_match 71 = .ok (.putfield 326, 3) := by decide +kernel
theorem dX11_match_74 : decode cX11_match 74 = .ok (.iinc 5 (-1), 3) := by decide +kernel
theorem dX11_match_77 : decode cX11_match 77 = .ok (.goto (-37), 3) := by decide +kernel
theorem dX11_match_80 : decode cX11_match 80 = .ok (.aload_n 0, 1) := by decide +kernel
theorem dX11_match_81 : decode cX11_match 81 = .ok (.aload_n 0, 1) := by decide +kernel
theorem dX11_match_82 : decode cX11_match 82 = .ok (.getfield 329, 3) := by decide +kernel
theorem dX11_match_85 : decode cX11_match 85 = .ok (.ifCond .ne 8, 3) := by decide +kernel
theorem dX11_match_88 : decode cX11_match 88 = .ok (.iload 4, 2) := by decide +kernel
theorem dX11_match_90 : decode cX11_match 90 = .ok (.ifCond .le 7, 3) := by decide +kernel
theorem dX11_match_93 : decode cX11_match 93 = .ok (.iconst 1, 1) := by decide +kernel
theorem dX11_match_94 : decode cX11_match 94 = .ok (.goto 4, 3) := by decide +kernel
theorem dX11_match_97 : decode cX11_match 97 = .ok (.iconst 0, 1) := by decide +kernel
theorem dX11_match_98 : decode cX11_match 98 = .ok (.putfield 329, 3) := by decide +kernel
theorem dX11_match_101 : decode cX11_match 101 = .ok (.iload 4, 2) := by decide +kernel
theorem dX11_match_103 : decode cX11_match 103 = .ok (.ireturn, 1) := by decide +kernel
theorem dX11_matchOn_0 : decode cX11_matchOn 0 = .ok (.aload_n 0, 1) := by decide +kernel
theorem dX11_matchOn_1 : decode cX11_matchOn 1 = .ok (.iconst 0, 1) := by decide +kernel
theorem dX11_matchOn_2 : decode cX11_matchOn 2 = .ok (.putfield 1, 3) := by decide +kernel
theorem dX11_matchOn_5 : decode cX11_matchOn 5 = .ok (.aload_n 0, 1) := by decide +kernel
theorem dX11_matchOn_6 : decode cX11_matchOn 6 = .ok (.getfield 329, 3) := by decide +kernel
theorem dX11_matchOn_9 : decode cX11_matchOn 9 = .ok (.ifCond .eq 10, 3) := by decide +kernel
theorem dX11_matchOn_12 : decode cX11_matchOn 12 = .ok (.aload_n 0, 1) := by decide +kernel
theorem dX11_matchOn_13 : decode cX11_matchOn 13 = .ok (.getfield 326, 3) := by decide +kernel
theorem dX11_matchOn_16 : decode cX11_matchOn 16 = .ok (.goto 4, 3) := by decide +kernel
theorem dX11_matchOn_19 : decode cX11_matchOn 19 = .ok (.iconst (-1), 1) := by decide +kernel
theorem dX11_matchOn_20 : decode cX11_matchOn 20 = .ok (.ireturn, 1) := by decide +kernel
theorem dX11_reform_0 : decode cX11_reform 0 = .ok (.aload_n 0, 1) := by decide +kernel
theorem dX11_reform_1 : decode cX11_reform 1 = .ok (.iconst 0, 1) := by decide +kernel
theorem dX11_reform_2 : decode cX11_reform 2 = .ok (.putfield 1, 3) := by decide +kernel
theorem dX11_reform_5 : decode cX11_reform 5 = .ok (.ldc_w 322, 3) := by decide +kernel
theorem dX11_reform_8 : decode cX11_reform 8 = .ok (.istore_n 1, 1) := by decide +kernel
theorem dX11_reform_9 : decode cX11_reform 9 = .ok (.iconst (-1), 1) := by decide +kernel
theorem dX11_reform_10 : decode cX11_reform 10 = .ok (.istore_n 2, 1) := by decide +kernel
theorem dX11_reform_11 : decode cX11_reform 11 = .ok (.iconst 0, 1) := by decide +kernel
theorem dX11_reform_12 : decode cX11_reform 12 = .ok (.istore_n 3, 1) := by decide +kernel
theorem dX11_reform_13 : decode cX11_reform 13 = .ok (.iload_n 3, 1) := by decide +kernel
theorem dX11_reform_14 : decode cX11_reform 14 = .ok (.aload_n 0, 1) := by decide +kernel
theorem dX11_reform_15 : decode cX11_reform 15 = .ok (.getfield 33, 3) := by decide +kernel
theorem dX11_reform_18 : decode cX11_reform 18 = .ok (.iconst 0, 1) := by decide +kernel
theorem dX11_reform_19 : decode cX11_reform 19 = .ok (.iaload, 1) := by decide +kernel
theorem dX11_reform_20 : decode cX11_reform 20 = .ok (.if_icmp .ge 58, 3) := by decide +kernel
theorem dX11_reform_23 : decode cX11_reform 23 = .ok (.iconst 0, 1) := by decide +kernel
theorem dX11_reform_24 : decode cX11_reform 24 = .ok (.istore 4, 2) := by decide +kernel
theorem dX11_reform_26 : decode cX11_reform 26 = .ok (.iconst 0, 1) := by decide +kernel
theorem dX11_reform_27 : decode cX11_reform 27 = .ok (.istore 5, 2) := by decide +kernel
theorem dX11_reform_29 : decode cX11_reform 29 = .ok (.iload 5, 2) := by decide +kernel
theorem dX11_reform_31 : decode cX11_reform 31 = .ok (.aload_n 0, 1) := by decide +kernel
theorem dX11_reform_32 : decode cX11_reform 32 = .ok (.getfield 33, 3) := by decide +kernel
theorem dX11_reform_35 : decode cX11_reform 35 = .ok (.iconst 0, 1) := by decide +kernel
theorem dX11_reform_36 : decode cX11_reform 36 = .ok (.iaload, 1) := by decide +kernel
theorem dX11_reform_37 : decode cX11_reform 37 = .ok (.if_icmp .ge 21, 3) := by decide +kernel
theorem dX11_reform_40 : decode cX11_reform 40 = .ok (.iload 4, 2) := by decide +kernel
theorem dX11_reform_42 : decode cX11_reform 42 = .ok (.aload_n 0, 1) := by decide +kernel
theorem dX11_reform_43 : decode cX11_reform 43 = .ok (.iload 5, 2) := by decide +kernel
theorem dX11_reform_45 : decode cX11_reform 45 = .ok (.iload_n 3, 1) := by decide +kernel
theorem dX11_reform_46 : decode cX11_reform 46 = .ok (.invokevirtual 323, 3) := by decide +kernel
theorem dX11_reform_49 : decode cX11_reform 49 = .ok (.iadd, 1) := by decide +kernel
theorem dX11_reform_50 : decode cX11_reform 50 = .ok (.istore 4, 2) := by decide +kernel
theorem dX11_reform_52 : decode cX11_reform 52 = .ok (.iinc 5 1, 3) := by decide +kernel
theorem dX11_reform_55 : decode cX11_reform 55 = .ok (.goto (-26), 3) := by decide +kernel
theorem dX11_reform_58 : decode cX11_reform 58 = .ok (.iload 4, 2) := by decide +kernel
theorem dX11_reform_60 : decode cX11_reform 60 = .ok (.iload_n 1, 1) := by decide +kernel
theorem dX11_reform_61 : decode cX11_reform 61 = .ok (.if_icmp .lt 6, 3) := by decide +kernel
theorem dX11_reform_64 : decode cX11_reform 64 = .ok (.goto 8, 3) := by decide +kernel
theorem dX11_reform_67 : decode cX11_reform 67 = .ok (.iload 4, 2) := by decide +kernel
theorem dX11_reform_69 : decode cX11_reform 69 = .ok (.istore_n 1, 1) := by decide +kernel
theorem dX11_reform_70 : decode cX11_reform 70 = .ok (.iload_n 3, 1) := by decide +kernel
theorem dX11_reform_71 : decode cX11_reform 71 = .ok (.istore_n 2, 1) := by decide +kernel
theorem dX11_reform_72 : decode cX11_reform 72 = .ok (.iinc 3 1, 3) := by decide +kernel
theorem dX11_reform_75 : decode cX11_reform 75 = .ok (.goto (-62), 3) := by decide +kernel
theorem dX11_reform_78 : decode cX11_reform 78 = .ok (.iload_n 2, 1) := by decide +kernel
theorem dX11_reform_79 : decode cX11_reform 79 = .ok (.ifCond .ge 5, 3) := by decide +kernel
theorem dX11_reform_82 : decode cX11_reform 82 = .ok (.iconst (-1), 1) := by decide +kernel
theorem dX11_reform_83 : decode cX11_reform 83 = .ok (.ireturn, 1) := by decide +kernel
theorem dX11_reform_84 : decode cX11_reform 84 = .ok (.aload_n 0, 1) := by decide +kernel
theorem dX11_reform_85 : decode cX11_reform 85 = .ok (.iload_n 2, 1) := by decide +kernel
theorem dX11_reform_86 : decode cX11_reform 86 = .ok (.putfield 65, 3) := by decide +kernel
theorem dX11_reform_89 : decode cX11_reform 89 = .ok (.iload_n 1, 1) := by decide +kernel
theorem dX11_reform_90 : decode cX11_reform 90 = .ok (.ireturn, 1) := by decide +kernel
theorem dX11_reformTo_0 : decode cX11_reformTo 0 = .ok (.aload_n 0, 1) := by decide +kernel
theorem dX11_reformTo_1 : decode cX11_reformTo 1 = .ok (.iconst 0, 1) := by decide +kernel
theorem dX11_reformTo_2 : decode cX11_reformTo 2 = .ok (.putfield 1, 3) := by decide +kernel
theorem dX11_reformTo_5 : decode cX11_reformTo 5 = .ok (.aload_n 0, 1) := by decide +kernel
theorem dX11_reformTo_6 : decode cX11_reformTo 6 = .ok (.getfield 65, 3) := by decide +kernel
theorem dX11_reformTo_9 : decode cX11_reformTo 9 = .ok (.ireturn, 1) := by decide +kernel
theorem dX11_play_0 : decode cX11_play 0 = .ok (.aload_n 0, 1) := by decide +kernel
theorem dX11_play_1 : decode cX11_play 1 = .ok (.iconst 0, 1) := by decide +kernel
theorem dX11_play_2 : decode cX11_play 2 = .ok (.putfield 1, 3) := by decide +kernel
theorem dX11_play_5 : decode cX11_play 5 = .ok (.aload_n 0, 1) := by decide +kernel
theorem dX11_play_6 : decode cX11_play 6 = .ok (.iload_n 1, 1) := by decide +kernel
theorem dX11_play_7 : decode cX11_play 7 = .ok (.invokevirtual 267, 3) := by decide +kernel
theorem dX11_play_10 : decode cX11_play 10 = .ok (.ifCond .eq 21, 3) := by decide +kernel
theorem dX11_play_13 : decode cX11_play 13 = .ok (.aload_n 0, 1) := by decide +kernel
theorem dX11_play_14 : decode cX11_play 14 = .ok (.iload_n 2, 1) := by decide +kernel
theorem dX11_play_15 : decode cX11_play 15 = .ok (.invokevirtual 267, 3) := by decide +kernel
theorem dX11_play_18 : decode cX11_play 18 = .ok (.ifCond .eq 13, 3) := by decide +kernel
theorem dX11_play_21 : decode cX11_play 21 = .ok (.iload_n 3, 1) := by decide +kernel
theorem dX11_play_22 : decode cX11_play 22 = .ok (.iconst 1, 1) := by decide +kernel
theorem dX11_play_23 : decode cX11_play 23 = .ok (.bipush 9, 2) := by decide +kernel
theorem dX11_play_25 : decode cX11_play 25 = .ok (.invokestatic 173, 3) := by decide +kernel
theorem dX11_play_28 : decode cX11_play 28 = .ok (.ifCond .ne 5, 3) := by decide +kernel
theorem dX11_play_31 : decode cX11_play 31 = .ok (.iconst (-1), 1) := by decide +kernel
theorem dX11_play_32 : decode cX11_play 32 = .ok (.ireturn, 1) := by decide +kernel
theorem dX11_play_33 : decode cX11_play 33 = .ok (.aload_n 0, 1) := by decide +kernel
theorem dX11_play_34 : decode cX11_play 34 = .ok (.iload_n 1, 1) := by decide +kernel
theorem dX11_play_35 : decode cX11_play 35 = .ok (.iload_n 2, 1) := by decide +kernel
theorem dX11_play_36 : decode cX11_play 36 = .ok (.invokevirtual 323, 3) := by decide +kernel
theorem dX11_play_39 : decode cX11_play 39 = .ok (.istore 4, 2) := by decide +kernel
theorem dX11_play_41 : decode cX11_play 41 = .ok (.iload 4, 2) := by decide +kernel
theorem dX11_play_43 : decode cX11_play 43 = .ok (.ldc_w 322, 3) := by decide +kernel
theorem dX11_play_46 : decode cX11_play 46 = .ok (.if_icmp .eq 12, 3) := by decide +kernel
theorem dX11_play_49 : decode cX11_play 49 = .ok (.iload 4, 2) := by decide +kernel
theorem dX11_play_51 : decode cX11_play 51 = .ok (.iload_n 3, 1) := by decide +kernel
theorem dX11_play_52 : decode cX11_play 52 = .ok (.iconst 1, 1) := by decide +kernel
theorem dX11_play_53 : decode cX11_play 53 = .ok (.iadd, 1) := by decide +kernel
theorem dX11_play_54 : decode cX11_play 54 = .ok (.irem, 1) := by decide +kernel
theorem dX11_play_55 : decode cX11_play 55 = .ok (.ifCond .ne 7, 3) := by decide +kernel
theorem dX11_play_58 : decode cX11_play 58 = .ok (.iconst (-1), 1) := by decide +kernel
theorem dX11_play_59 : decode cX11_play 59 = .ok (.goto 9, 3) := by decide +kernel
theorem dX11_play_62 : decode cX11_play 62 = .ok (.iload 4, 2) := by decide +kernel
theorem dX11_play_64 : decode cX11_play 64 = .ok (.iload_n 3, 1) := by decide +kernel
theorem dX11_play_65 : decode cX11_play 65 = .ok (.iconst 1, 1) := by decide +kernel
theorem dX11_play_66 : decode cX11_play 66 = .ok (.iadd, 1) := by decide +kernel
theorem dX11_play_67 : decode cX11_play 67 = .ok (.irem, 1) := by decide +kernel
theorem dX11_play_68 : decode cX11_play 68 = .ok (.ireturn, 1) := by decide +kernel
theorem dX11_isCalled_0 : decode cX11_isCalled 0 = .ok (.aload_n 0, 1) := by decide +kernel
theorem dX11_isCalled_1 : decode cX11_isCalled 1 = .ok (.iload_n 1, 1) := by decide +kernel
theorem dX11_isCalled_2 : decode cX11_isCalled 2 = .ok (.iload_n 2, 1) := by decide +kernel
theorem dX11_isCalled_3 : decode cX11_isCalled 3 = .ok (.invokevirtual 252, 3) := by decide +kernel
theorem dX11_isCalled_6 : decode cX11_isCalled 6 = .ok (.istore_n 3, 1) := by decide +kernel
theorem dX11_isCalled_7 : decode cX11_isCalled 7 = .ok (.aload_n 0, 1) := by decide +kernel
theorem dX11_isCalled_8 : decode cX11_isCalled 8 = .ok (.iconst 0, 1) := by decide +kernel
theorem dX11_isCalled_9 : decode cX11_isCalled 9 = .ok (.invokevirtual 332, 3) := by decide +kernel
theorem dX11_isCalled_12 : decode cX11_isCalled 12 = .ok (.sipush 255, 3) := by decide +kernel
theorem dX11_isCalled_15 : decode cX11_isCalled 15 = .ok (.if_icmp .eq 15, 3) := by decide +kernel
theorem dX11_isCalled_18 : decode cX11_isCalled 18 = .ok (.aload_n 0, 1) := by decide +kernel
theorem dX11_isCalled_19 : decode cX11_isCalled 19 = .ok (.iconst 0, 1) := by decide +kernel
theorem dX11_isCalled_20 : decode cX11_isCalled 20 = .ok (.invokevirtual 332, 3) := by decide +kernel
theorem dX11_isCalled_23 : decode cX11_isCalled 23 = .ok (.iload_n 3, 1) := by decide +kernel
theorem dX11_isCalled_24 : decode cX11_isCalled 24 = .ok (.bipush 32, 2) := by decide +kernel
theorem dX11_isCalled_26 : decode cX11_isCalled 26 = .ok (.idiv, 1) := by decide +kernel
theorem dX11_isCalled_27 : decode cX11_isCalled 27 = .ok (.if_icmp .ne 60, 3) := by decide +kernel
theorem dX11_isCalled_30 : decode cX11_isCalled 30 = .ok (.aload_n 0, 1) := by decide +kernel
theorem dX11_isCalled_31 : decode cX11_isCalled 31 = .ok (.iconst 1, 1) := by decide +kernel
theorem dX11_isCalled_32 : decode cX11_isCalled 32 = .ok (.invokevirtual 332, 3) := by decide +kernel
theorem dX11_isCalled_35 : decode cX11_isCalled 35 = .ok (.sipush 255, 3) := by decide +kernel
theorem dX11_isCalled_38 : decode cX11_isCalled 38 = .ok (.if_icmp .eq 15, 3) := by decide +kernel
theorem dX11_isCalled_41 : decode cX11_isCalled 41 = .ok (.aload_n 0, 1) := by decide +kernel
theorem dX11_isCalled_42 : decode cX11_isCalled 42 = .ok (.iconst 1, 1) := by decide +kernel
theorem dX11_isCalled_43 : decode cX11_isCalled 43 = .ok (.invokevirtual 332, 3) := by decide +kernel
theorem dX11_isCalled_46 : decode cX11_isCalled 46 = .ok (.iload_n 3, 1) := by decide +kernel
theorem dX11_isCalled_47 : decode cX11_isCalled 47 = .ok (.bipush 32, 2) := by decide +kernel
theorem dX11_isCalled_49 : decode cX11_isCalled 49 = .ok (.irem, 1) := by decide +kernel
theorem dX11_isCalled_50 : decode cX11_isCalled 50 = .ok (.if_icmp .ne 37, 3) := by decide +kernel
theorem dX11_isCalled_53 : decode cX11_isCalled 53 = .ok (.aload_n 0, 1) := by decide +kernel
theorem dX11_isCalled_54 : decode cX11_isCalled 54 = .ok (.iconst 2, 1) := by decide +kernel
theorem dX11_isCalled_55 : decode cX11_isCalled 55 = .ok (.invokevirtual 332, 3) := by decide +kernel
theorem dX11_isCalled_58 : decode cX11_isCalled 58 = .ok (.sipush 255, 3) := by decide +kernel
theorem dX11_isCalled_61 : decode cX11_isCalled 61 = .ok (.if_icmp .eq 22, 3) := by decide +kernel
theorem dX11_isCalled_64 : decode cX11_isCalled 64 = .ok (.aload_n 0, 1) := by decide +kernel
theorem dX11_isCalled_65 : decode cX11_isCalled 65 = .ok (.iconst 2, 1) := by decide +kernel
theorem dX11_isCalled_66 : decode cX11_isCalled 66 = .ok (.invokevirtual 332, 3) := by decide +kernel
theorem dX11_isCalled_69 : decode cX11_isCalled 69 = .ok (.iload_n 2, 1) := by decide +kernel
theorem dX11_isCalled_70 : decode cX11_isCalled 70 = .ok (.aload_n 0, 1) := by decide +kernel
theorem dX11_isCalled_71 : decode cX11_isCalled 71 = .ok (.getfield 33, 3) := by decide +kernel
theorem dX11_isCalled_74 : decode cX11_isCalled 74 = .ok (.bipush 14, 2) := by decide +kernel
theorem dX11_isCalled_76 : decode cX11_isCalled 76 = .ok (.iload_n 1, 1) := by decide +kernel
theorem dX11_isCalled_77 : decode cX11_isCalled 77 = .ok (.iadd, 1) := by decide +kernel
theorem dX11_isCalled_78 : decode cX11_isCalled 78 = .ok (.iaload, 1) := by decide +kernel
theorem dX11_isCalled_79 : decode cX11_isCalled 79 = .ok (.irem, 1) := by decide +kernel
theorem dX11_isCalled_80 : decode cX11_isCalled 80 = .ok (.if_icmp .ne 7, 3) := by decide +kernel
theorem dX11_isCalled_83 : decode cX11_isCalled 83 = .ok (.iconst 1, 1) := by decide +kernel
theorem dX11_isCalled_84 : decode cX11_isCalled 84 = .ok (.goto 4, 3) := by decide +kernel
theorem dX11_isCalled_87 : decode cX11_isCalled 87 = .ok (.iconst 0, 1) := by decide +kernel
theorem dX11_isCalled_88 : decode cX11_isCalled 88 = .ok (.ireturn, 1) := by decide +kernel
theorem dX11_wrote_0 : decode cX11_wrote 0 = .ok (.aload_n 0, 1) := by decide +kernel
theorem dX11_wrote_1 : decode cX11_wrote 1 = .ok (.iconst 0, 1) := by decide +kernel
theorem dX11_wrote_2 : decode cX11_wrote 2 = .ok (.putfield 1, 3) := by decide +kernel
theorem dX11_wrote_5 : decode cX11_wrote 5 = .ok (.aload_n 0, 1) := by decide +kernel
theorem dX11_wrote_6 : decode cX11_wrote 6 = .ok (.sipush 940, 3) := by decide +kernel
theorem dX11_wrote_9 : decode cX11_wrote 9 = .ok (.invokevirtual 221, 3) := by decide +kernel
theorem dX11_wrote_12 : decode cX11_wrote 12 = .ok (.aload_n 0, 1) := by decide +kernel
theorem dX11_wrote_13 : decode cX11_wrote 13 = .ok (.getfield 18, 3) := by decide +kernel
theorem dX11_wrote_16 : decode cX11_wrote 16 = .ok (.iconst 3, 1) := by decide +kernel
theorem dX11_wrote_17 : decode cX11_wrote 17 = .ok (.if_icmp .eq 5, 3) := by decide +kernel
theorem dX11_wrote_20 : decode cX11_wrote 20 = .ok (.iconst (-1), 1) := by decide +kernel
theorem dX11_wrote_21 : decode cX11_wrote 21 = .ok (.ireturn, 1) := by decide +kernel
theorem dX11_wrote_22 : decode cX11_wrote 22 = .ok (.iconst 0, 1) := by decide +kernel
theorem dX11_wrote_23 : decode cX11_wrote 23 = .ok (.istore_n 1, 1) := by decide +kernel
theorem dX11_wrote_24 : decode cX11_wrote 24 = .ok (.iconst 0, 1) := by decide +kernel
theorem dX11_wrote_25 : decode cX11_wrote 25 = .ok (.istore_n 2, 1) := by decide +kernel
theorem dX11_wrote_26 : decode cX11_wrote 26 = .ok (.iload_n 2, 1) := by decide +kernel
theorem dX11_wrote_27 : decode cX11_wrote 27 = .ok (.aload_n 0, 1) := by decide +kernel
theorem dX11_wrote_28 : decode cX11_wrote 28 = .ok (.getfield 33, 3) := by decide +kernel
theorem dX11_wrote_31 : decode cX11_wrote 31 = .ok (.iconst 0, 1) := by decide +kernel
theorem dX11_wrote_32 : decode cX11_wrote 32 = .ok (.iaload, 1) := by decide +kernel
theorem dX11_wrote_33 : decode cX11_wrote 33 = .ok (.if_icmp .ge 36, 3) := by decide +kernel
theorem dX11_wrote_36 : decode cX11_wrote 36 = .ok (.iload_n 1, 1) := by decide +kernel
theorem dX11_wrote_37 : decode cX11_wrote 37 = .ok (.aload_n 0, 1) := by decide +kernel
theorem dX11_wrote_38 : decode cX11_wrote 38 = .ok (.iload_n 2, 1) := by decide +kernel
theorem dX11_wrote_39 : decode cX11_wrote 39 = .ok (.aload_n 0, 1) := by decide +kernel
theorem dX11_wrote_40 : decode cX11_wrote 40 = .ok (.getfield 33, 3) := by decide +kernel
theorem dX11_wrote_43 : decode cX11_wrote 43 = .ok (.bipush 54, 2) := by decide +kernel
theorem dX11_wrote_45 : decode cX11_wrote 45 = .ok (.iload_n 2, 1) := by decide +kernel
theorem dX11_wrote_46 : decode cX11_wrote 46 = .ok (.iadd, 1) := by decide +kernel
theorem dX11_wrote_47 : decode cX11_wrote 47 = .ok (.iaload, 1) := by decide +kernel
theorem dX11_wrote_48 : decode cX11_wrote 48 = .ok (.invokevirtual 335, 3) := by decide +kernel
theorem dX11_wrote_51 : decode cX11_wrote 51 = .ok (.ifCond .eq 9, 3) := by decide +kernel
theorem dX11_wrote_54 : decode cX11_wrote 54 = .ok (.iconst 1, 1) := by decide +kernel
theorem dX11_wrote_55 : decode cX11_wrote 55 = .ok (.iload_n 2, 1) := by decide +kernel
theorem dX11_wrote_56 : decode cX11_wrote 56 = .ok (.ishl, 1) := by decide +kernel
theorem dX11_wrote_57 : decode cX11_wrote 57 = .ok (.goto 4, 3) := by decide +kernel
theorem dX11_wrote_60 : decode cX11_wrote 60 = .ok (.iconst 0, 1) := by decide +kernel
theorem dX11_wrote_61 : decode cX11_wrote 61 = .ok (.ior, 1) := by decide +kernel
theorem dX11_wrote_62 : decode cX11_wrote 62 = .ok (.istore_n 1, 1) := by decide +kernel
theorem dX11_wrote_63 : decode cX11_wrote 63 = .ok (.iinc 2 1, 3) := by decide +kernel
theorem dX11_wrote_66 : decode cX11_wrote 66 = .ok (.goto (-40), 3) := by decide +kernel
theorem dX11_wrote_69 : decode cX11_wrote 69 = .ok (.iload_n 1, 1) := by decide +kernel
theorem dX11_wrote_70 : decode cX11_wrote 70 = .ok (.ireturn, 1) := by decide +kernel
theorem dX11_ago_0 : decode cX11_ago 0 = .ok (.aload_n 0, 1) := by decide +kernel
theorem dX11_ago_1 : decode cX11_ago 1 = .ok (.iconst 0, 1) := by decide +kernel
theorem dX11_ago_2 : decode cX11_ago 2 = .ok (.putfield 1, 3) := by decide +kernel
theorem dX11_ago_5 : decode cX11_ago 5 = .ok (.aload_n 0, 1) := by decide +kernel
theorem dX11_ago_6 : decode cX11_ago 6 = .ok (.sipush 940, 3) := by decide +kernel
theorem dX11_ago_9 : decode cX11_ago 9 = .ok (.invokevirtual 221, 3) := by decide +kernel
theorem dX11_ago_12 : decode cX11_ago 12 = .ok (.aload_n 0, 1) := by decide +kernel
theorem dX11_ago_13 : decode cX11_ago 13 = .ok (.getfield 18, 3) := by decide +kernel
theorem dX11_ago_16 : decode cX11_ago 16 = .ok (.iconst 3, 1) := by decide +kernel
theorem dX11_ago_17 : decode cX11_ago 17 = .ok (.if_icmp .ne 11, 3) := by decide +kernel
theorem dX11_ago_20 : decode cX11_ago 20 = .ok (.aload_n 0, 1) := by decide +kernel
theorem dX11_ago_21 : decode cX11_ago 21 = .ok (.iload_n 1, 1) := by decide +kernel
theorem dX11_ago_22 : decode cX11_ago 22 = .ok (.invokevirtual 267, 3) := by decide +kernel
theorem dX11_ago_25 : decode cX11_ago 25 = .ok (.ifCond .ne 5, 3) := by decide +kernel
theorem dX11_ago_28 : decode cX11_ago 28 = .ok (.iconst (-1), 1) := by decide +kernel
theorem dX11_ago_29 : decode cX11_ago 29 = .ok (.ireturn, 1) := by decide +kernel
theorem dX11_ago_30 : decode cX11_ago 30 = .ok (.iconst 0, 1) := by decide +kernel
theorem dX11_ago_31 : decode cX11_ago 31 = .ok (.istore_n 2, 1) := by decide +kernel
theorem dX11_ago_32 : decode cX11_ago 32 = .ok (.iload_n 2, 1) := by decide +kernel
theorem dX11_ago_33 : decode cX11_ago 33 = .ok (.sipush 9999, 3) := by decide +kernel
theorem dX11_ago_36 : decode cX11_ago 36 = .ok (.if_icmp .gt 43, 3) := by decide +kernel
theorem dX11_ago_39 : decode cX11_ago 39 = .ok (.iload_n 2, 1) := by decide +kernel
theorem dX11_ago_40 : decode cX11_ago 40 = .ok (.aload_n 0, 1) := by decide +kernel
theorem dX11_ago_41 : decode cX11_ago 41 = .ok (.getfield 33, 3) := by decide +kernel
theorem dX11_ago_44 : decode cX11_ago 44 = .ok (.bipush 54, 2) := by decide +kernel
theorem dX11_ago_46 : decode cX11_ago 46 = .ok (.iload_n 1, 1) := by decide +kernel
theorem dX11_ago_47 : decode cX11_ago 47 = .ok (.iadd, 1) := by decide +kernel
theorem dX11_ago_48 : decode cX11_ago 48 = .ok (.iaload, 1) := by decide +kernel
theorem dX11_ago_49 : decode cX11_ago 49 = .ok (.if_icmp .gt 30, 3) := by decide +kernel
theorem dX11_ago_52 : decode cX11_ago 52 = .ok (.aload_n 0, 1) := by decide +kernel
theorem dX11_ago_53 : decode cX11_ago 53 = .ok (.iload_n 1, 1) := by decide +kernel
theorem dX11_ago_54 : decode cX11_ago 54 = .ok (.aload_n 0, 1) := by decide +kernel
theorem dX11_ago_55 : decode cX11_ago 55 = .ok (.getfield 33, 3) := by decide +kernel
theorem dX11_ago_58 : decode cX11_ago 58 = .ok (.bipush 54, 2) := by decide +kernel
theorem dX11_ago_60 : decode cX11_ago 60 = .ok (.iload_n 1, 1) := by decide +kernel
theorem dX11_ago_61 : decode cX11_ago 61 = .ok (.iadd, 1) := by decide +kernel
theorem dX11_ago_62 : decode cX11_ago 62 = .ok (.iaload, 1) := by decide +kernel
theorem dX11_ago_63 : decode cX11_ago 63 = .ok (.iload_n 2, 1) := by decide +kernel
theorem dX11_ago_64 : decode cX11_ago 64 = .ok (.isub, 1) := by decide +kernel
theorem dX11_ago_65 : decode cX11_ago 65 = .ok (.invokevirtual 335, 3) := by decide +kernel
theorem dX11_ago_68 : decode cX11_ago 68 = .ok (.ifCond .eq 5, 3) := by decide +kernel
theorem dX11_ago_71 : decode cX11_ago 71 = .ok (.iload_n 2, 1) := by decide +kernel
theorem dX11_ago_72 : decode cX11_ago 72 = .ok (.ireturn, 1) := by decide +kernel
theorem dX11_ago_73 : decode cX11_ago 73 = .ok (.iinc 2 1, 3) := by decide +kernel
theorem dX11_ago_76 : decode cX11_ago 76 = .ok (.goto (-44), 3) := by decide +kernel
theorem dX11_ago_79 : decode cX11_ago 79 = .ok (.iconst (-1), 1) := by decide +kernel
theorem dX11_ago_80 : decode cX11_ago 80 = .ok (.ireturn, 1) := by decide +kernel
theorem dX11_partOf_0 : decode cX11_partOf 0 = .ok (.iload_n 2, 1) := by decide +kernel
theorem dX11_partOf_1 : decode cX11_partOf 1 = .ok (.ifCond .ne 14, 3) := by decide +kernel
theorem dX11_partOf_4 : decode cX11_partOf 4 = .ok (.aload_n 0, 1) := by decide +kernel
theorem dX11_partOf_5 : decode cX11_partOf 5 = .ok (.iload_n 1, 1) := by decide +kernel
theorem dX11_partOf_6 : decode cX11_partOf 6 = .ok (.invokevirtual 264, 3) := by decide +kernel
theorem dX11_partOf_9 : decode cX11_partOf 9 = .ok (.bipush 32, 2) := by decide +kernel
theorem dX11_partOf_11 : decode cX11_partOf 11 = .ok (.idiv, 1) := by decide +kernel
theorem dX11_partOf_12 : decode cX11_partOf 12 = .ok (.goto 24, 3) := by decide +kernel
theorem dX11_partOf_15 : decode cX11_partOf 15 = .ok (.iload_n 2, 1) := by decide +kernel
theorem dX11_partOf_16 : decode cX11_partOf 16 = .ok (.iconst 1, 1) := by decide +kernel
theorem dX11_partOf_17 : decode cX11_partOf 17 = .ok (.if_icmp .ne 14, 3) := by decide +kernel
theorem dX11_partOf_20 : decode cX11_partOf 20 = .ok (.aload_n 0, 1) := by decide +kernel
theorem dX11_partOf_21 : decode cX11_partOf 21 = .ok (.iload_n 1, 1) := by decide +kernel
theorem dX11_partOf_22 : decode cX11_partOf 22 = .ok (.invokevirtual 264, 3) := by decide +kernel
theorem dX11_partOf_25 : decode cX11_partOf 25 = .ok (.bipush 32, 2) := by decide +kernel
theorem dX11_partOf_27 : decode cX11_partOf 27 = .ok (.irem, 1) := by decide +kernel
theorem dX11_partOf_28 : decode cX11_partOf 28 = .ok (.goto 8, 3) := by decide +kernel
theorem dX11_partOf_31 : decode cX11_partOf 31 = .ok (.aload_n 0, 1) := by decide +kernel
theorem dX11_partOf_32 : decode cX11_partOf 32 = .ok (.iload_n 1, 1) := by decide +kernel
theorem dX11_partOf_33 : decode cX11_partOf 33 = .ok (.invokevirtual 285, 3) := by decide +kernel
theorem dX11_partOf_36 : decode cX11_partOf 36 = .ok (.ireturn, 1) := by decide +kernel
theorem dX11_leftBy_0 : decode cX11_leftBy 0 = .ok (.iconst 0, 1) := by decide +kernel
theorem dX11_leftBy_1 : decode cX11_leftBy 1 = .ok (.istore_n 2, 1) := by decide +kernel
theorem dX11_leftBy_2 : decode cX11_leftBy 2 = .ok (.iconst 0, 1) := by decide +kernel
theorem dX11_leftBy_3 : decode cX11_leftBy 3 = .ok (.istore_n 3, 1) := by decide +kernel
theorem dX11_leftBy_4 : decode cX11_leftBy 4 = .ok (.iload_n 3, 1) := by decide +kernel
theorem dX11_leftBy_5 : decode cX11_leftBy 5 = .ok (.aload_n 0, 1) := by decide +kernel
theorem dX11_leftBy_6 : decode cX11_leftBy 6 = .ok (.getfield 33, 3) := by decide +kernel
theorem dX11_leftBy_9 : decode cX11_leftBy 9 = .ok (.iconst 0, 1) := by decide +kernel
theorem dX11_leftBy_10 : decode cX11_leftBy 10 = .ok (.iaload, 1) := by decide +kernel
theorem dX11_leftBy_11 : decode cX11_leftBy 11 = .ok (.if_icmp .ge 65, 3) := by decide +kernel
theorem dX11_leftBy_14 : decode cX11_leftBy 14 = .ok (.iconst 0, 1) := by decide +kernel
theorem dX11_leftBy_15 : decode cX11_leftBy 15 = .ok (.istore 4, 2) := by decide +kernel
theorem dX11_leftBy_17 : decode cX11_leftBy 17 = .ok (.iconst 0, 1) := by decide +kernel
theorem dX11_leftBy_18 : decode cX11_leftBy 18 = .ok (.istore 5, 2) := by decide +kernel
theorem dX11_leftBy_20 : decode cX11_leftBy 20 = .ok (.iload 5, 2) := by decide +kernel
theorem dX11_leftBy_22 : decode cX11_leftBy 22 = .ok (.aload_n 0, 1) := by decide +kernel
theorem dX11_leftBy_23 : decode cX11_leftBy 23 = .ok (.getfield 33, 3) := by decide +kernel
theorem dX11_leftBy_26 : decode cX11_leftBy 26 = .ok (.iconst 0, 1) := by decide +kernel
theorem dX11_leftBy_27 : decode cX11_leftBy 27 = .ok (.iaload, 1) := by decide +kernel
theorem dX11_leftBy_28 : decode cX11_leftBy 28 = .ok (.if_icmp .ge 35, 3) := by decide +kernel
theorem dX11_leftBy_31 : decode cX11_leftBy 31 = .ok (.iload 4, 2) := by decide +kernel
theorem dX11_leftBy_33 : decode cX11_leftBy 33 = .ok (.aload_n 0, 1) := by decide +kernel
theorem dX11_leftBy_34 : decode cX11_leftBy 34 = .ok (.iload 5, 2) := by decide +kernel
theorem dX11_leftBy_36 : decode cX11_leftBy 36 = .ok (.iload_n 1, 1) := by decide +kernel
theorem dX11_leftBy_37 : decode cX11_leftBy 37 = .ok (.invokevirtual 338, 3) := by decide +kernel
theorem dX11_leftBy_40 : decode cX11_leftBy 40 = .ok (.aload_n 0, 1) := by decide +kernel
theorem dX11_leftBy_41 : decode cX11_leftBy 41 = .ok (.iload_n 3, 1) := by decide +kernel
theorem dX11_leftBy_42 : decode cX11_leftBy 42 = .ok (.iload_n 1, 1) := by decide +kernel
theorem dX11_leftBy_43 : decode cX11_leftBy 43 = .ok (.invokevirtual 338, 3) := by decide +kernel
theorem dX11_leftBy_46 : decode cX11_leftBy 46 = .ok (.if_icmp .ne 7, 3) := by decide +kernel
theorem dX11_leftBy_49 : decode cX11_leftBy 49 = .ok (.iconst 1, 1) := by decide +kernel
theorem dX11_leftBy_50 : decode cX11_leftBy 50 = .ok (.goto 4, 3) := by decide +kernel
theorem dX11_leftBy_53 : decode cX11_leftBy 53 = .ok (.iconst 0, 1) := by decide +kernel
theorem dX11_leftBy_54 : decode cX11_leftBy 54 = .ok (.iadd, 1) := by decide +kernel
theorem dX11_leftBy_55 : decode cX11_leftBy 55 = .ok (.istore 4, 2) := by decide +kernel
theorem dX11_leftBy_57 : decode cX11_leftBy 57 = .ok (.iinc 5 1, 3) := by decide +kernel
theorem dX11_leftBy_60 : decode cX11_leftBy 60 = .ok (.goto (-40), 3) := by decide +kernel
theorem dX11_leftBy_63 : decode cX11_leftBy 63 = .ok (.iload_n 2, 1) := by decide +kernel
theorem dX11_leftBy_64 : decode cX11_leftBy 64 = .ok (.iload 4, 2) := by decide +kernel
theorem dX11_leftBy_66 : decode cX11_leftBy 66 = .ok (.invokestatic 341, 3) := by decide +kernel
theorem dX11_leftBy_69 : decode cX11_leftBy 69 = .ok (.istore_n 2, 1) := by decide +kernel
theorem dX11_leftBy_70 : decode cX11_leftBy 70 = .ok (.iinc 3 1, 3) := by decide +kernel
theorem dX11_leftBy_73 : decode cX11_leftBy 73 = .ok (.goto (-69), 3) := by decide +kernel
theorem dX11_leftBy_76 : decode cX11_leftBy 76 = .ok (.iload_n 2, 1) := by decide +kernel
theorem dX11_leftBy_77 : decode cX11_leftBy 77 = .ok (.ireturn, 1) := by decide +kernel
theorem dX11_ask_0 : decode cX11_ask 0 = .ok (.aload_n 0, 1) := by decide +kernel
theorem dX11_ask_1 : decode cX11_ask 1 = .ok (.iconst 0, 1) := by decide +kernel
theorem dX11_ask_2 : decode cX11_ask 2 = .ok (.putfield 1, 3) := by decide +kernel
theorem dX11_ask_5 : decode cX11_ask 5 = .ok (.aload_n 0, 1) := by decide +kernel
theorem dX11_ask_6 : decode cX11_ask 6 = .ok (.getfield 33, 3) := by decide +kernel
theorem dX11_ask_9 : decode cX11_ask 9 = .ok (.iconst 0, 1) := by decide +kernel
theorem dX11_ask_10 : decode cX11_ask 10 = .ok (.iaload, 1) := by decide +kernel
theorem dX11_ask_11 : decode cX11_ask 11 = .ok (.ifCond .ne 5, 3) := by decide +kernel
theorem dX11_ask_14 : decode cX11_ask 14 = .ok (.iconst (-1), 1) := by decide +kernel
theorem dX11_ask_15 : decode cX11_ask 15 = .ok (.ireturn, 1) := by decide +kernel
theorem dX11_ask_16 : decode cX11_ask 16 = .ok (.iconst 0, 1) := by decide +kernel
theorem dX11_ask_17 : decode cX11_ask 17 = .ok (.istore_n 1, 1) := by decide +kernel
theorem dX11_ask_18 : decode cX11_ask 18 = .ok (.iconst 1, 1) := by decide +kernel
theorem dX11_ask_19 : decode cX11_ask 19 = .ok (.istore_n 2, 1) := by decide +kernel
theorem dX11_ask_20 : decode cX11_ask 20 = .ok (.iload_n 2, 1) := by decide +kernel
theorem dX11_ask_21 : decode cX11_ask 21 = .ok (.iconst 3, 1) := by decide +kernel
theorem dX11_ask_22 : decode cX11_ask 22 = .ok (.if_icmp .ge 24, 3) := by decide +kernel
theorem dX11_ask_25 : decode cX11_ask 25 = .ok (.aload_n 0, 1) := by decide +kernel
theorem dX11_ask_26 : decode cX11_ask 26 = .ok (.iload_n 2, 1) := by decide +kernel
theorem dX11_ask_27 : decode cX11_ask 27 = .ok (.invokevirtual 344, 3) := by decide +kernel
theorem dX11_ask_30 : decode cX11_ask 30 = .ok (.aload_n 0, 1) := by decide +kernel
theorem dX11_ask_31 : decode cX11_ask 31 = .ok (.iload_n 1, 1) := by decide +kernel
theorem dX11_ask_32 : decode cX11_ask 32 = .ok (.invokevirtual 344, 3) := by decide +kernel
theorem dX11_ask_35 : decode cX11_ask 35 = .ok (.if_icmp .ge 5, 3) := by decide +kernel
theorem dX11_ask_38 : decode cX11_ask 38 = .ok (.iload_n 2, 1) := by decide +kernel
theorem dX11_ask_39 : decode cX11_ask 39 = .ok (.istore_n 1, 1) := by decide +kernel
theorem dX11_ask_40 : decode cX11_ask 40 = .ok (.iinc 2 1, 3) := by decide +kernel
theorem dX11_ask_43 : decode cX11_ask 43 = .ok (.goto (-23), 3) := by decide +kernel
theorem dX11_ask_46 : decode cX11_ask 46 = .ok (.iload_n 1, 1) := by decide +kernel
theorem dX11_ask_47 : decode cX11_ask 47 = .ok (.ireturn, 1) := by decide +kernel
theorem dX11_age_0 : decode cX11_age 0 = .ok (.aload_n 0, 1) := by decide +kernel
theorem dX11_age_1 : decode cX11_age 1 = .ok (.iconst 0, 1) := by decide +kernel
theorem dX11_age_2 : decode cX11_age 2 = .ok (.putfield 1, 3) := by decide +kernel
theorem dX11_age_5 : decode cX11_age 5 = .ok (.aload_n 0, 1) := by decide +kernel
theorem dX11_age_6 : decode cX11_age 6 = .ok (.iload_n 1, 1) := by decide +kernel
theorem dX11_age_7 : decode cX11_age 7 = .ok (.iload_n 2, 1) := by decide +kernel
theorem dX11_age_8 : decode cX11_age 8 = .ok (.iload_n 3, 1) := by decide +kernel
theorem dX11_age_9 : decode cX11_age 9 = .ok (.iload 4, 2) := by decide +kernel
theorem dX11_age_11 : decode cX11_age 11 = .ok (.invokevirtual 275, 3) := by decide +kernel
theorem dX11_age_14 : decode cX11_age 14 = .ok (.istore 5, 2) := by decide +kernel
theorem dX11_age_16 : decode cX11_age 16 = .ok (.iload 5, 2) := by decide +kernel
theorem dX11_age_18 : decode cX11_age 18 = .ok (.ifCond .lt 17, 3) := by decide +kernel
theorem dX11_age_21 : decode cX11_age 21 = .ok (.iload 5, 2) := by decide +kernel
theorem dX11_age_23 : decode cX11_age 23 = .ok (.aload_n 0, 1) := by decide +kernel
theorem dX11_age_24 : decode cX11_age 24 = .ok (.getfield 33, 3) := by decide +kernel
theorem dX11_age_27 : decode cX11_age 27 = .ok (.bipush 54, 2) := by decide +kernel
theorem dX11_age_29 : decode cX11_age 29 = .ok (.iload_n 1, 1) := by decide +kernel
theorem dX11_age_30 : decode cX11_age 30 = .ok (.iadd, 1) := by decide +kernel
theorem dX11_age_31 : decode cX11_age 31 = .ok (.iaload, 1) := by decide +kernel
theorem dX11_age_32 : decode cX11_age 32 = .ok (.if_icmp .le 5, 3) := by decide +kernel
theorem dX11_age_35 : decode cX11_age 35 = .ok (.iconst (-1), 1) := by decide +kernel
theorem dX11_age_36 : decode cX11_age 36 = .ok (.ireturn, 1) := by decide +kernel
theorem dX11_age_37 : decode cX11_age 37 = .ok (.aload_n 0, 1) := by decide +kernel
theorem dX11_age_38 : decode cX11_age 38 = .ok (.iload_n 1, 1) := by decide +kernel
theorem dX11_age_39 : decode cX11_age 39 = .ok (.iload 5, 2) := by decide +kernel
theorem dX11_age_41 : decode cX11_age 41 = .ok (.invokevirtual 252, 3) := by decide +kernel
theorem dX11_age_44 : decode cX11_age 44 = .ok (.istore 6, 2) := by decide +kernel
theorem dX11_age_46 : decode cX11_age 46 = .ok (.iconst 0, 1) := by decide +kernel
theorem dX11_age_47 : decode cX11_age 47 = .ok (.istore 7, 2) := by decide +kernel
theorem dX11_age_49 : decode cX11_age 49 = .ok (.iload 5, 2) := by decide +kernel
theorem dX11_age_51 : decode cX11_age 51 = .ok (.iconst 1, 1) := by decide +kernel
theorem dX11_age_52 : decode cX11_age 52 = .ok (.iadd, 1) := by decide +kernel
theorem dX11_age_53 : decode cX11_age 53 = .ok (.istore 8, 2) := by decide +kernel
theorem dX11_age_55 : decode cX11_age 55 = .ok (.iload 8, 2) := by decide +kernel
theorem dX11_age_57 : decode cX11_age 57 = .ok (.aload_n 0, 1) := by decide +kernel
theorem dX11_age_58 : decode cX11_age 58 = .ok (.getfield 33, 3) := by decide +kernel
theorem dX11_age_61 : decode cX11_age 61 = .ok (.bipush 54, 2) := by decide +kernel
theorem dX11_age_63 : decode cX11_age 63 = .ok (.iload_n 1, 1) := by decide +kernel
theorem dX11_age_64 : decode cX11_age 64 = .ok (.iadd, 1) := by decide +kernel
theorem dX11_age_65 : decode cX11_age 65 = .ok (.iaload, 1) := by decide +kernel
theorem dX11_age_66 : decode cX11_age 66 = .ok (.if_icmp .gt 31, 3) := by decide +kernel
theorem dX11_age_69 : decode cX11_age 69 = .ok (.iload 7, 2) := by decide +kernel
theorem dX11_age_71 : decode cX11_age 71 = .ok (.aload_n 0, 1) := by decide +kernel
theorem dX11_age_72 : decode cX11_age 72 = .ok (.iload_n 1, 1) := by decide +kernel
theorem dX11_age_73 : decode cX11_age 73 = .ok (.iload 8, 2) := by decide +kernel
theorem dX11_age_75 : decode cX11_age 75 = .ok (.invokevirtual 252, 3) := by decide +kernel
theorem dX11_age_78 : decode cX11_age 78 = .ok (.iload 6, 2) := by decide +kernel
theorem dX11_age_80 : decode cX11_age 80 = .ok (.if_icmp .ne 7, 3) := by decide +kernel
theorem dX11_age_83 : decode cX11_age 83 = .ok (.iconst 1, 1) := by decide +kernel
theorem dX11_age_84 : decode cX11_age 84 = .ok (.goto 4, 3) := by decide +kernel
theorem dX11_age_87 : decode cX11_age 87 = .ok (.iconst 0, 1) := by decide +kernel
theorem dX11_age_88 : decode cX11_age 88 = .ok (.iadd, 1) := by decide +kernel
theorem dX11_age_89 : decode cX11_age 89 = .ok (.istore 7, 2) := by decide +kernel
theorem dX11_age_91 : decode cX11_age 91 = .ok (.iinc 8 1, 3) := by decide +kernel
theorem dX11_age_94 : decode cX11_age 94 = .ok (.goto (-39), 3) := by decide +kernel
theorem dX11_age_97 : decode cX11_age 97 = .ok (.iload 7, 2) := by decide +kernel
theorem dX11_age_99 : decode cX11_age 99 = .ok (.ireturn, 1) := by decide +kernel
theorem dX11_born_0 : decode cX11_born 0 = .ok (.aload_n 0, 1) := by decide +kernel
theorem dX11_born_1 : decode cX11_born 1 = .ok (.iconst 0, 1) := by decide +kernel
theorem dX11_born_2 : decode cX11_born 2 = .ok (.putfield 1, 3) := by decide +kernel
theorem dX11_born_5 : decode cX11_born 5 = .ok (.aload_n 0, 1) := by decide +kernel
theorem dX11_born_6 : decode cX11_born 6 = .ok (.iload_n 1, 1) := by decide +kernel
theorem dX11_born_7 : decode cX11_born 7 = .ok (.invokevirtual 267, 3) := by decide +kernel
theorem dX11_born_10 : decode cX11_born 10 = .ok (.ifCond .eq 13, 3) := by decide +kernel
theorem dX11_born_13 : decode cX11_born 13 = .ok (.iload_n 2, 1) := by decide +kernel
theorem dX11_born_14 : decode cX11_born 14 = .ok (.iconst 1, 1) := by decide +kernel
theorem dX11_born_15 : decode cX11_born 15 = .ok (.bipush 99, 2) := by decide +kernel
theorem dX11_born_17 : decode cX11_born 17 = .ok (.invokestatic 173, 3) := by decide +kernel
theorem dX11_born_20 : decode cX11_born 20 = .ok (.ifCond .ne 5, 3) := by decide +kernel
theorem dX11_born_23 : decode cX11_born 23 = .ok (.iconst (-1), 1) := by decide +kernel
theorem dX11_born_24 : decode cX11_born 24 = .ok (.ireturn, 1) := by decide +kernel
theorem dX11_born_25 : decode cX11_born 25 = .ok (.iload_n 2, 1) := by decide +kernel
theorem dX11_born_26 : decode cX11_born 26 = .ok (.istore_n 3, 1) := by decide +kernel
theorem dX11_born_27 : decode cX11_born 27 = .ok (.iconst 1, 1) := by decide +kernel
theorem dX11_born_28 : decode cX11_born 28 = .ok (.istore 4, 2) := by decide +kernel
theorem dX11_born_30 : decode cX11_born 30 = .ok (.iload 4, 2) := by decide +kernel
theorem dX11_born_32 : decode cX11_born 32 = .ok (.ldc_w 274, 3) := by decide +kernel
theorem dX11_born_35 : decode cX11_born 35 = .ok (.if_icmp .gt 39, 3) := by decide +kernel
theorem dX11_born_38 : decode cX11_born 38 = .ok (.iload_n 3, 1) := by decide +kernel
theorem dX11_born_39 : decode cX11_born 39 = .ok (.aload_n 0, 1) := by decide +kernel
theorem dX11_born_40 : decode cX11_born 40 = .ok (.iload_n 1, 1) := by decide +kernel
theorem dX11_born_41 : decode cX11_born 41 = .ok (.iload 4, 2) := by decide +kernel
theorem dX11_born_43 : decode cX11_born 43 = .ok (.invokevirtual 261, 3) := by decide +kernel
theorem dX11_born_46 : decode cX11_born 46 = .ok (.aload_n 0, 1) := by decide +kernel
theorem dX11_born_47 : decode cX11_born 47 = .ok (.iload_n 1, 1) := by decide +kernel
theorem dX11_born_48 : decode cX11_born 48 = .ok (.invokevirtual 264, 3) := by decide +kernel
theorem dX11_born_51 : decode cX11_born 51 = .ok (.if_icmp .ne 7, 3) := by decide +kernel
theorem dX11_born_54 : decode cX11_born 54 = .ok (.iconst 1, 1) := by decide +kernel
theorem dX11_born_55 : decode cX11_born 55 = .ok (.goto 4, 3) := by decide +kernel
theorem dX11_born_58 : decode cX11_born 58 = .ok (.iconst 0, 1) := by decide +kernel
theorem dX11_born_59 : decode cX11_born 59 = .ok (.isub, 1) := by decide +kernel
theorem dX11_born_60 : decode cX11_born 60 = .ok (.istore_n 3, 1) := by decide +kernel
theorem dX11_born_61 : decode cX11_born 61 = .ok (.iload_n 3, 1) := by decide +kernel
theorem dX11_born_62 : decode cX11_born 62 = .ok (.ifCond .ne 6, 3) := by decide +kernel
theorem dX11_born_65 : decode cX11_born 65 = .ok (.iload 4, 2) := by decide +kernel
theorem dX11_born_67 : decode cX11_born 67 = .ok (.ireturn, 1) := by decide +kernel
theorem dX11_born_68 : decode cX11_born 68 = .ok (.iinc 4 1, 3) := by decide +kernel
theorem dX11_born_71 : decode cX11_born 71 = .ok (.goto (-41), 3) := by decide +kernel
theorem dX11_born_74 : decode cX11_born 74 = .ok (.iconst (-1), 1) := by decide +kernel
theorem dX11_born_75 : decode cX11_born 75 = .ok (.ireturn, 1) := by decide +kernel
theorem flX11_53 : FL RX11 53 11 22 := ⟨RX11, TX11, 46, tyX11, cd_11, by decide, Or.inl (inr_6 _ (List.mem_of_getElem? (i := 22) rfl))⟩
theorem flX11_56 : FL RX11 56 11 24 := ⟨RX11, TX11, 46, tyX11, cd_11, by decide, Or.inl (inr_6 _ (List.mem_of_getElem? (i := 23) rfl))⟩
theorem flX11_59 : FL RX11 59 11 25 := ⟨RX11, TX11, 46, tyX11, cd_11, by decide, Or.inl (inr_7 _ (List.mem_of_getElem? (i := 0) rfl))⟩
theorem flX11_62 : FL RX11 62 11 26 := ⟨RX11, TX11, 46, tyX11, cd_11, by decide, Or.inl (inr_7 _ (List.mem_of_getElem? (i := 1) rfl))⟩
theorem flX11_65 : FL RX11 65 11 27 := ⟨RX11, TX11, 46, tyX11, cd_11, by decide, Or.inl (inr_7 _ (List.mem_of_getElem? (i := 2) rfl))⟩
theorem flX11_326 : FL RX11 326 11 28 := ⟨RX11, TX11, 46, tyX11, cd_11, by decide, Or.inl (inr_41 _ (List.mem_of_getElem? (i := 9) rfl))⟩
theorem flX11_329 : FL RX11 329 11 29 := ⟨RX11, TX11, 46, tyX11, cd_11, by decide, Or.inl (inr_41 _ (List.mem_of_getElem? (i := 10) rfl))⟩
theorem fpX11_56 : FP RX11 56 11 24 .int := ⟨RX11, TX11, 46, tyX11, cd_11, by decide, (inr_6 _ (List.mem_of_getElem? (i := 23) rfl)), rfl, by decide +kernel⟩
theorem fpX11_59 : FP RX11 59 11 25 .int := ⟨RX11, TX11, 46, tyX11, cd_11, by decide, (inr_7 _ (List.mem_of_getElem? (i := 0) rfl)), rfl, by decide +kernel⟩
theorem fpX11_62 : FP RX11 62 11 26 .int := ⟨RX11, TX11, 46, tyX11, cd_11, by decide, (inr_7 _ (List.mem_of_getElem? (i := 1) rfl)), rfl, by decide +kernel⟩
theorem fpX11_65 : FP RX11 65 11 27 .int := ⟨RX11, TX11, 46, tyX11, cd_11, by decide, (inr_7 _ (List.mem_of_getElem? (i := 2) rfl)), rfl, by decide +kernel⟩
theorem fpX11_326 : FP RX11 326 11 28 .int := ⟨RX11, TX11, 46, tyX11, cd_11, by decide, (inr_41 _ (List.mem_of_getElem? (i := 9) rfl)), rfl, by decide +kernel⟩
theorem fpX11_329 : FP RX11 329 11 29 .boolean := ⟨RX11, TX11, 46, tyX11, cd_11, by decide, (inr_41 _ (List.mem_of_getElem? (i := 10) rfl)), rfl, by decide +kernel⟩
theorem mlX11_306 : MLv RX11 306 RX11 11 yX11_whySkip cX11_whySkip 3 (some .int) 2 := ⟨(inr_32 _ (List.mem_of_getElem? (i := 10) rfl)), (inr_32 _ (List.mem_of_getElem? (i := 7) rfl)), (inr_32 _ (List.mem_of_getElem? (i := 8) rfl)), (inr_32 _ (List.mem_of_getElem? (i := 9) rfl)), (inr_1 _ (List.mem_of_getElem? (i := 5) rfl)), rfl, ⟨by decide, by decide, by decide +kernel⟩, by decide, by decide, rfl⟩
theorem mlX11_309 : MLv RX11 309 RX11 11 yX11_skips cX11_skips 3 none 2 := ⟨(inr_32 _ (List.mem_of_getElem? (i := 14) rfl)), (inr_32 _ (List.mem_of_getElem? (i := 11) rfl)), (inr_32 _ (List.mem_of_getElem? (i := 12) rfl)), (inr_32 _ (List.mem_of_getElem? (i := 13) rfl)), (inr_1 _ (List.mem_of_getElem? (i := 5) rfl)), rfl, ⟨by decide, by decide, by decide +kernel⟩, by decide, by decide, rfl⟩
theorem mlX11_313 : MLv RX11 313 RX11 11 yX11_goesOn cX11_goesOn 3 (some .int) 1 := ⟨(inr_33 _ (List.mem_of_getElem? (i := 11) rfl)), (inr_33 _ (List.mem_of_getElem? (i := 8) rfl)), (inr_33 _ (List.mem_of_getElem? (i := 9) rfl)), (inr_33 _ (List.mem_of_getElem? (i := 10) rfl)), (inr_1 _ (List.mem_of_getElem? (i := 5) rfl)), rfl, ⟨by decide, by decide, by decide +kernel⟩, by decide, by decide, rfl⟩
theorem mlX11_316 : MLs RX11 316 yX11_absolute cX11_absolute 1 (some .int) 1 := ⟨(inr_38 _ (List.mem_of_getElem? (i := 6) rfl)), (inr_38 _ (List.mem_of_getElem? (i := 4) rfl)), (inr_38 _ (List.mem_of_getElem? (i := 5) rfl)), (inr_1 _ (List.mem_of_getElem? (i := 5) rfl)), ⟨by decide, by decide, by decide +kernel⟩, by decide⟩
theorem mlX11_319 : MLs RX11 319 yX11_common cX11_common 5 (some .int) 2 := ⟨(inr_38 _ (List.mem_of_getElem? (i := 9) rfl)), (inr_38 _ (List.mem_of_getElem? (i := 7) rfl)), (inr_38 _ (List.mem_of_getElem? (i := 8) rfl)), (inr_1 _ (List.mem_of_getElem? (i := 5) rfl)), ⟨by decide, by decide, by decide +kernel⟩, by decide⟩
theorem mlX11_323 : MLv RX11 323 RX11 11 yX11_skipsTo cX11_skipsTo 4 (some .int) 2 := ⟨(inr_40 _ (List.mem_of_getElem? (i := 11) rfl)), (inr_40 _ (List.mem_of_getElem? (i := 8) rfl)), (inr_40 _ (List.mem_of_getElem? (i := 9) rfl)), (inr_40 _ (List.mem_of_getElem? (i := 10) rfl)), (inr_1 _ (List.mem_of_getElem? (i := 5) rfl)), rfl, ⟨by decide, by decide, by decide +kernel⟩, by decide, by decide, rfl⟩
theorem mlX11_332 : MLv RX11 332 RX11 11 yX11_octet cX11_octet 2 (some .int) 1 := ⟨(inr_45 _ (List.mem_of_getElem? (i := 13) rfl)), (inr_45 _ (List.mem_of_getElem? (i := 10) rfl)), (inr_45 _ (List.mem_of_getElem? (i := 11) rfl)), (inr_45 _ (List.mem_of_getElem? (i := 12) rfl)), (inr_1 _ (List.mem_of_getElem? (i := 5) rfl)), rfl, ⟨by decide, by decide, by decide +kernel⟩, by decide, by decide, rfl⟩
theorem mlX11_335 : MLv RX11 335 RX11 11 yX11_isCalled cX11_isCalled 4 (some .boolean) 2 := ⟨(inr_45 _ (List.mem_of_getElem? (i := 9) rfl)), (inr_45 _ (List.mem_of_getElem? (i := 6) rfl)), (inr_45 _ (List.mem_of_getElem? (i := 7) rfl)), (inr_45 _ (List.mem_of_getElem? (i := 8) rfl)), (inr_1 _ (List.mem_of_getElem? (i := 5) rfl)), rfl, ⟨by decide, by decide, by decide +kernel⟩, by decide, by decide, rfl⟩
theorem mlX11_338 : MLv RX11 338 RX11 11 yX11_partOf cX11_partOf 3 (some .int) 2 := ⟨(inr_47 _ (List.mem_of_getElem? (i := 14) rfl)), (inr_47 _ (List.mem_of_getElem? (i := 11) rfl)), (inr_47 _ (List.mem_of_getElem? (i := 12) rfl)), (inr_47 _ (List.mem_of_getElem? (i := 13) rfl)), (inr_1 _ (List.mem_of_getElem? (i := 5) rfl)), rfl, ⟨by decide, by decide, by decide +kernel⟩, by decide, by decide, rfl⟩
theorem mlX11_341 : MLs RX11 341 yX11_greater cX11_greater 2 (some .int) 2 := ⟨(inr_47 _ (List.mem_of_getElem? (i := 17) rfl)), (inr_47 _ (List.mem_of_getElem? (i := 15) rfl)), (inr_47 _ (List.mem_of_getElem? (i := 16) rfl)), (inr_1 _ (List.mem_of_getElem? (i := 5) rfl)), ⟨by decide, by decide, by decide +kernel⟩, by decide⟩
theorem mlX11_344 : MLv RX11 344 RX11 11 yX11_leftBy cX11_leftBy 6 (some .int) 1 := ⟨(inr_47 _ (List.mem_of_getElem? (i := 10) rfl)), (inr_47 _ (List.mem_of_getElem? (i := 7) rfl)), (inr_47 _ (List.mem_of_getElem? (i := 8) rfl)), (inr_47 _ (List.mem_of_getElem? (i := 9) rfl)), (inr_1 _ (List.mem_of_getElem? (i := 5) rfl)), rfl, ⟨by decide, by decide, by decide +kernel⟩, by decide, by decide, rfl⟩
def fX11_skip_s5 (a0 : Nat) (x1 : Int32) (x2 : Int32)   (S : St) : Option (Int32 × St) :=
  (fX11_isParish a0 x1 S).bind fun r_1 =>
  if r_1 = 0 then (some ((-1 : Int32), S)) else
  (if (fX11_isIn x2 (1 : Int32) (99 : Int32) S) = 0 then (some ((-1 : Int32), S)) else
  ((fX11_whySkip a0 x1 x2 S).bind fun r_5 =>
  if r_5 ≤ 0 then ((fX11_keep a0 S).bind fun r_8 =>
  (fX11_skips a0 x1 x2 r_8).bind fun r_10 =>
  some ((0 : Int32), r_10)) else
  (some ((1 : Int32), S))))
def fX11_skip (a0 : Nat) (x1 : Int32) (x2 : Int32) (S : St) : Option (Int32 × St) :=
  fX11_skip_s5 a0 x1 x2 (sI S 11 0 a0 (0 : Int32))
theorem wX11_skip_s5 {z : Mx} {ad : Nat → Nat} {o : Option Value × St} (X : CxOk z ad RX11 cX11_skip 3 (some .int) 3) (a0 : Nat) (x1 : Int32) (x2 : Int32) (h0 : KT a0 = 11)     (S : St) (r : (Int32 × St)) (ho : o = (some (.int r.1), r.2)) (hF : fX11_skip_s5 a0 x1 x2   S = some r) : GW z ad o S 5 [(0, .ref (ad a0)), (1, .int x1), (2, .int x2)] [] := by
  unfold fX11_skip_s5 at hF
  refine g_aload_n X dX11_skip_5 0 rfl rfl ?_
  refine g_iload_n X dX11_skip_6 1 rfl rfl ?_
  obtain ⟨r_1, q_2, hF⟩ := obind hF
  refine g_callVi (As := [.int x1]) X dX11_skip_7 mlX11_267 (fun l D cyy => tX11_isParish (cx_inj X) l D cyy a0 x1 h0 S r_1 q_2) h0 (by decide) rfl rfl (Nat.le_of_ble_eq_true rfl) ?_
  refine g_if_eq (tgt := 23) X dX11_skip_10 (by decide) (fun c_3 => ?_) (fun c_3 => ?_)
  · rw [if_pos c_3] at hF
    refine g_iconst (v := -1) X dX11_skip_23 (by decide) ?_
    have hF := Option.some.inj hF
    subst hF
    exact g_iret X dX11_skip_24 ho
  · rw [if_neg c_3] at hF
    refine g_iload_n X dX11_skip_13 2 rfl rfl ?_
    refine g_iconst (v := 1) X dX11_skip_14 (by decide) ?_
    refine g_bipush (v := 99) X dX11_skip_15 (by decide) ?_
    refine g_callSi (As := [.int x2, .int (1 : Int32), .int (99 : Int32)]) X dX11_skip_17 mlX11_173 (fun l D cyy => tX11_isIn (cx_inj X) l D cyy x2 (1 : Int32) (99 : Int32)  S) (by decide) rfl rfl (Nat.le_of_ble_eq_true rfl) ?_
    refine g_if_ne (tgt := 25) X dX11_skip_20 (by decide) (fun c_4 => ?_) (fun c_4 => ?_)
    · rw [if_neg c_4] at hF
      refine g_aload_n X dX11_skip_25 0 rfl rfl ?_
      refine g_iload_n X dX11_skip_26 1 rfl rfl ?_
      refine g_iload_n X dX11_skip_27 2 rfl rfl ?_
      obtain ⟨r_5, q_6, hF⟩ := obind hF
      refine g_callVi (As := [.int x1, .int x2]) X dX11_skip_28 mlX11_306 (fun l D cyy => tX11_whySkip (cx_inj X) l D cyy a0 x1 x2 h0 S r_5 q_6) h0 (by decide) rfl rfl (Nat.le_of_ble_eq_true rfl) ?_
      refine g_if_le (tgt := 36) X dX11_skip_31 (by decide) (fun c_7 => ?_) (fun c_7 => ?_)
      · rw [if_pos c_7] at hF
        refine g_aload_n X dX11_skip_36 0 rfl rfl ?_
        obtain ⟨r_8, q_9, hF⟩ := obind hF
        refine g_callVv (As := []) X dX11_skip_37 mlX11_300 (fun l D cyy => tX11_keep (cx_inj X) l D cyy a0 h0 S r_8 q_9) h0 (by decide) rfl rfl (Nat.le_of_ble_eq_true rfl) ?_
        refine g_aload_n X dX11_skip_40 0 rfl rfl ?_
        refine g_iload_n X dX11_skip_41 1 rfl rfl ?_
        refine g_iload_n X dX11_skip_42 2 rfl rfl ?_
        obtain ⟨r_10, q_11, hF⟩ := obind hF
        refine g_callVv (As := [.int x1, .int x2]) X dX11_skip_43 mlX11_309 (fun l D cyy => tX11_skips (cx_inj X) l D cyy a0 x1 x2 h0 r_8 r_10 q_11) h0 (by decide) rfl rfl (Nat.le_of_ble_eq_true rfl) ?_
        refine g_iconst (v := 0) X dX11_skip_46 (by decide) ?_
        have hF := Option.some.inj hF
        subst hF
        exact g_iret X dX11_skip_47 ho
      · rw [if_neg c_7] at hF
        refine g_iconst (v := 1) X dX11_skip_34 (by decide) ?_
        have hF := Option.some.inj hF
        subst hF
        exact g_iret X dX11_skip_35 ho
    · rw [if_pos c_4] at hF
      refine g_iconst (v := -1) X dX11_skip_23 (by decide) ?_
      have hF := Option.some.inj hF
      subst hF
      exact g_iret X dX11_skip_24 ho
theorem wX11_skip {z : Mx} {ad : Nat → Nat} {o : Option Value × St} (X : CxOk z ad RX11 cX11_skip 3 (some .int) 3) (a0 : Nat) (x1 : Int32) (x2 : Int32) (h0 : KT a0 = 11) (S : St) (r : (Int32 × St)) (ho : o = (some (.int r.1), r.2)) (hF : fX11_skip a0 x1 x2 S = some r) : GW z ad o S 0 [(0, .ref (ad a0)), (1, .int x1), (2, .int x2)] [] := by
  unfold fX11_skip at hF
  refine g_aload_n X dX11_skip_0 0 rfl rfl ?_
  refine g_iconst (v := 0) X dX11_skip_1 (by decide) ?_
  refine g_putI X dX11_skip_2 fpX11_1 rfl rfl rfl h0 ?_
  exact (wX11_skip_s5 X a0 x1 x2 h0 (sI S 11 0 a0 (0 : Int32)) r ho hF)
theorem tX11_skip {ad : Nat → Nat} (hI : Inj ad) (l : Launch) (D : va_G) (cyy : Nat → ClassId) (a0 : Nat) (x1 : Int32) (x2 : Int32) (h0 : KT a0 = 11) (S : St) (r : (Int32 × St)) (hF : fX11_skip a0 x1 x2 S = some r) : OkM l yX11_skip cX11_skip 3 (some .int) 3 ad D cyy [.ref (ad a0), .int x1, .int x2] S (some (.int r.1), r.2) := okM_of hI (by decide) (inr_32 _ (List.mem_of_getElem? (i := 6) rfl)) (by show _ ≤ 3; exact Nat.le_of_ble_eq_true rfl) (fun z X => wX11_skip X a0 x1 x2 h0 S r rfl hF)
def fX11_days_s42 (a0 : Nat) (x1 : Int32)  (t0 : Int32) (S : St) : Option (Int32 × St) :=
  some (t0, S)
def fX11_days_s5 (a0 : Nat) (x1 : Int32)   (S : St) : Option (Int32 × St) :=
  if (fX11_isIn x1 (1 : Int32) (999 : Int32) S) = 0 then (some ((-1 : Int32), S)) else
  (if (gA S 29 (a0 + 2) 52) = (10000 : Int32) then (some ((0 : Int32), S)) else
  ((fX11_keep a0 S).bind fun r_3 =>
  (fX11_goesOn a0 x1 r_3).bind fun r_5 =>
  fX11_days_s42 a0 x1 r_5.1 r_5.2))
def fX11_days (a0 : Nat) (x1 : Int32) (S : St) : Option (Int32 × St) :=
  fX11_days_s5 a0 x1 (sI S 11 0 a0 (0 : Int32))
theorem wX11_days_s42 {z : Mx} {ad : Nat → Nat} {o : Option Value × St} (X : CxOk z ad RX11 cX11_days 2 (some .int) 5) (a0 : Nat) (x1 : Int32) (h0 : KT a0 = 11)  (t0 : Int32)   (S : St) (r : (Int32 × St)) (ho : o = (some (.int r.1), r.2)) (hF : fX11_days_s42 a0 x1  t0 S = some r) : GW z ad o S 42 [] [.int t0] := by
  unfold fX11_days_s42 at hF
  have hF := Option.some.inj hF
  subst hF
  exact g_iret X dX11_days_42 ho
theorem wX11_days_s5 {z : Mx} {ad : Nat → Nat} {o : Option Value × St} (X : CxOk z ad RX11 cX11_days 2 (some .int) 5) (a0 : Nat) (x1 : Int32) (h0 : KT a0 = 11)     (S : St) (r : (Int32 × St)) (ho : o = (some (.int r.1), r.2)) (hF : fX11_days_s5 a0 x1   S = some r) : GW z ad o S 5 [(0, .ref (ad a0)), (1, .int x1)] [] := by
  unfold fX11_days_s5 at hF
  refine g_iload_n X dX11_days_5 1 rfl rfl ?_
  refine g_iconst (v := 1) X dX11_days_6 (by decide) ?_
  refine g_sipush (v := 999) X dX11_days_7 (by decide) ?_
  refine g_callSi (As := [.int x1, .int (1 : Int32), .int (999 : Int32)]) X dX11_days_10 mlX11_173 (fun l D cyy => tX11_isIn (cx_inj X) l D cyy x1 (1 : Int32) (999 : Int32)  S) (by decide) rfl rfl (Nat.le_of_ble_eq_true rfl) ?_
  refine g_if_ne (tgt := 18) X dX11_days_13 (by decide) (fun c_1 => ?_) (fun c_1 => ?_)
  · rw [if_neg c_1] at hF
    refine g_aload_n X dX11_days_18 0 rfl rfl ?_
    refine g_getR (f := 2) X dX11_days_19 flX11_33 rfl rfl h0 ?_
    refine g_bipush (v := 52) X dX11_days_22 (by decide) ?_
    refine g_ialdK (j := 52) X dX11_days_24 kd_29 (on_11_6 h0) (by decide) (by decide) ?_
    refine g_sipush (v := 10000) X dX11_days_25 (by decide) ?_
    refine g_icmp_ne (tgt := 33) X dX11_days_28 (by decide) (fun c_2 => ?_) (fun c_2 => ?_)
    · rw [if_neg c_2] at hF
      refine g_aload_n X dX11_days_33 0 rfl rfl ?_
      obtain ⟨r_3, q_4, hF⟩ := obind hF
      refine g_callVv (As := []) X dX11_days_34 mlX11_300 (fun l D cyy => tX11_keep (cx_inj X) l D cyy a0 h0 S r_3 q_4) h0 (by decide) rfl rfl (Nat.le_of_ble_eq_true rfl) ?_
      refine g_aload_n X dX11_days_37 0 rfl rfl ?_
      refine g_iload_n X dX11_days_38 1 rfl rfl ?_
      obtain ⟨r_5, q_6, hF⟩ := obind hF
      refine g_callVi (As := [.int x1]) X dX11_days_39 mlX11_313 (fun l D cyy => tX11_goesOn (cx_inj X) l D cyy a0 x1 h0 r_3 r_5 q_6) h0 (by decide) rfl rfl (Nat.le_of_ble_eq_true rfl) ?_
      exact g_perm [] rfl (wX11_days_s42 X a0 x1 h0 r_5.1 r_5.2 r ho hF)
    · rw [if_pos c_2] at hF
      refine g_iconst (v := 0) X dX11_days_31 (by decide) ?_
      have hF := Option.some.inj hF
      subst hF
      exact g_iret X dX11_days_32 ho
  · rw [if_pos c_1] at hF
    refine g_iconst (v := -1) X dX11_days_16 (by decide) ?_
    have hF := Option.some.inj hF
    subst hF
    exact g_iret X dX11_days_17 ho
theorem wX11_days {z : Mx} {ad : Nat → Nat} {o : Option Value × St} (X : CxOk z ad RX11 cX11_days 2 (some .int) 5) (a0 : Nat) (x1 : Int32) (h0 : KT a0 = 11) (S : St) (r : (Int32 × St)) (ho : o = (some (.int r.1), r.2)) (hF : fX11_days a0 x1 S = some r) : GW z ad o S 0 [(0, .ref (ad a0)), (1, .int x1)] [] := by
  unfold fX11_days at hF
  refine g_aload_n X dX11_days_0 0 rfl rfl ?_
  refine g_iconst (v := 0) X dX11_days_1 (by decide) ?_
  refine g_putI X dX11_days_2 fpX11_1 rfl rfl rfl h0 ?_
  exact (wX11_days_s5 X a0 x1 h0 (sI S 11 0 a0 (0 : Int32)) r ho hF)
theorem tX11_days {ad : Nat → Nat} (hI : Inj ad) (l : Launch) (D : va_G) (cyy : Nat → ClassId) (a0 : Nat) (x1 : Int32) (h0 : KT a0 = 11) (S : St) (r : (Int32 × St)) (hF : fX11_days a0 x1 S = some r) : OkM l yX11_days cX11_days 2 (some .int) 5 ad D cyy [.ref (ad a0), .int x1] S (some (.int r.1), r.2) := okM_of hI (by decide) (inr_33 _ (List.mem_of_getElem? (i := 7) rfl)) (by show _ ≤ 2; exact Nat.le_of_ble_eq_true rfl) (fun z X => wX11_days X a0 x1 h0 S r rfl hF)
def fX11_undo_s55 (k26 : Int32 → St → Option (Int32 × St)) (a0 : Nat) (y1 : Int32)  (S : St) : Option (Int32 × St) :=
  k26 (y1 + (1 : Int32)) S
def fX11_undo_s26 (k26 : Int32 → St → Option (Int32 × St)) (a0 : Nat) (y1 : Int32)  (S : St) : Option (Int32 × St) :=
  if (17 : Int32) ≤ y1 then (some ((gI S 11 23 a0), S)) else
  (if ((((17 : Int32) * (gI S 11 23 a0)) + y1) < 0 ∨ 136 ≤ (((17 : Int32) * (gI S 11 23 a0)) + y1).toNatClampNeg) then none else
  if (((52 : Int32) + y1) < 0 ∨ 250 ≤ ((52 : Int32) + y1).toNatClampNeg) then none else
  fX11_undo_s55 k26 a0 y1 (sA S 29 (a0 + 2) (((52 : Int32) + y1).toNatClampNeg) (gA S 34 (a0 + 7) ((((17 : Int32) * (gI S 11 23 a0)) + y1).toNatClampNeg))))
def fX11_undo_h26 (a0 : Nat) : Nat → Int32 → St → Option (Int32 × St)
  | 0, _, _ => none
  | n + 1, y1, S => fX11_undo_s26 (fX11_undo_h26 a0 n) a0 y1 S
def fX11_undo_s24 (a0 : Nat)   (S : St) : Option (Int32 × St) :=
  fX11_undo_h26 a0 NN (0 : Int32) S
def fX11_undo_s5 (a0 : Nat)   (S : St) : Option (Int32 × St) :=
  if (gI S 11 23 a0) = 0 then (some ((-1 : Int32), S)) else
  (fX11_undo_s24 a0 (sI S 11 23 a0 ((gI S 11 23 a0) - (1 : Int32))))
def fX11_undo (a0 : Nat) (S : St) : Option (Int32 × St) :=
  fX11_undo_s5 a0 (sI S 11 0 a0 (0 : Int32))
theorem wX11_undo_s55 {z : Mx} {ad : Nat → Nat} {o : Option Value × St} (X : CxOk z ad RX11 cX11_undo 2 (some .int) 1) (a0 : Nat) (h0 : KT a0 = 11) (y1 : Int32)  (k26 : Int32 → St → Option (Int32 × St))   (S : St) (r : (Int32 × St)) (ho : o = (some (.int r.1), r.2)) (hk26 : ∀ (y1 : Int32) (S : St), k26 y1 S = some r → GW z ad o S 26 [(0, .ref (ad a0)), (1, .int y1)] []) (hF : fX11_undo_s55 k26 a0 y1  S = some r) : GW z ad o S 55 [(0, .ref (ad a0)), (1, .int y1)] [] := by
  unfold fX11_undo_s55 at hF
  refine g_iinc (v := (y1 + (1 : Int32))) X dX11_undo_55 1 rfl rfl (by decide) (lv' := [(1, .int (y1 + (1 : Int32))), (0, .ref (ad a0))]) rfl ?_
  refine g_goto (tgt := 26) X dX11_undo_58 (by decide) ?_
  exact g_perm [1, 0] rfl (hk26 (y1 + (1 : Int32)) S hF)
theorem wX11_undo_s26 {z : Mx} {ad : Nat → Nat} {o : Option Value × St} (X : CxOk z ad RX11 cX11_undo 2 (some .int) 1) (a0 : Nat) (h0 : KT a0 = 11) (y1 : Int32)  (k26 : Int32 → St → Option (Int32 × St))   (S : St) (r : (Int32 × St)) (ho : o = (some (.int r.1), r.2)) (hk26 : ∀ (y1 : Int32) (S : St), k26 y1 S = some r → GW z ad o S 26 [(0, .ref (ad a0)), (1, .int y1)] []) (hF : fX11_undo_s26 k26 a0 y1  S = some r) : GW z ad o S 26 [(0, .ref (ad a0)), (1, .int y1)] [] := by
  unfold fX11_undo_s26 at hF
  refine g_iload_n X dX11_undo_26 1 rfl rfl ?_
  refine g_bipush (v := 17) X dX11_undo_27 (by decide) ?_
  refine g_icmp_ge (tgt := 61) X dX11_undo_29 (by decide) (fun c_2 => ?_) (fun c_2 => ?_)
  · rw [if_pos c_2] at hF
    refine g_aload_n X dX11_undo_61 0 rfl rfl ?_
    refine g_getI X dX11_undo_62 flX11_233 rfl h0 ?_
    have hF := Option.some.inj hF
    subst hF
    exact g_iret X dX11_undo_65 ho
  · rw [if_neg c_2] at hF
    refine g_aload_n X dX11_undo_32 0 rfl rfl ?_
    refine g_getR (f := 2) X dX11_undo_33 flX11_33 rfl rfl h0 ?_
    refine g_bipush (v := 52) X dX11_undo_36 (by decide) ?_
    refine g_iload_n X dX11_undo_38 1 rfl rfl ?_
    refine g_iadd X dX11_undo_39 ?_
    refine g_aload_n X dX11_undo_40 0 rfl rfl ?_
    refine g_getR (f := 7) X dX11_undo_41 flX11_50 rfl rfl h0 ?_
    refine g_bipush (v := 17) X dX11_undo_44 (by decide) ?_
    refine g_aload_n X dX11_undo_46 0 rfl rfl ?_
    refine g_getI X dX11_undo_47 flX11_233 rfl h0 ?_
    refine g_imul X dX11_undo_50 ?_
    refine g_iload_n X dX11_undo_51 1 rfl rfl ?_
    refine g_iadd X dX11_undo_52 ?_
    obtain ⟨e_3, hF⟩ := oguard hF
    refine g_iald X dX11_undo_53 kd_34 (on_11_21 h0) e_3 ?_
    obtain ⟨e_4, hF⟩ := oguard hF
    refine g_iast X dX11_undo_54 kd_29 (on_11_6 h0) e_4 ?_
    exact (wX11_undo_s55 X a0 h0 y1 k26 (sA S 29 (a0 + 2) (((52 : Int32) + y1).toNatClampNeg) (gA S 34 (a0 + 7) ((((17 : Int32) * (gI S 11 23 a0)) + y1).toNatClampNeg))) r ho hk26 hF)
theorem wX11_undo_h26 {z : Mx} {ad : Nat → Nat} {o : Option Value × St} (X : CxOk z ad RX11 cX11_undo 2 (some .int) 1) (a0 : Nat) (h0 : KT a0 = 11)  (r : (Int32 × St)) (ho : o = (some (.int r.1), r.2)) : ∀ (n : Nat) (y1 : Int32) (S : St), fX11_undo_h26 a0 n y1 S = some r → GW z ad o S 26 [(0, .ref (ad a0)), (1, .int y1)] [] := by
  intro n
  induction n with
  | zero => intro y1 S  hF; cases hF
  | succ n ih => intro y1 S  hF; exact wX11_undo_s26 X a0 h0 y1 (fX11_undo_h26 a0 n)  S r ho ih hF
theorem wX11_undo_s24 {z : Mx} {ad : Nat → Nat} {o : Option Value × St} (X : CxOk z ad RX11 cX11_undo 2 (some .int) 1) (a0 : Nat) (h0 : KT a0 = 11)     (S : St) (r : (Int32 × St)) (ho : o = (some (.int r.1), r.2)) (hF : fX11_undo_s24 a0   S = some r) : GW z ad o S 24 [(0, .ref (ad a0))] [] := by
  unfold fX11_undo_s24 at hF
  refine g_iconst (v := 0) X dX11_undo_24 (by decide) ?_
  refine g_istore_n X dX11_undo_25 rfl (by decide) (lv' := [(1, .int (0 : Int32)), (0, .ref (ad a0))]) rfl ?_
  exact g_perm [1, 0] rfl (wX11_undo_h26 X a0 h0 r ho NN (0 : Int32) S hF)
theorem wX11_undo_s5 {z : Mx} {ad : Nat → Nat} {o : Option Value × St} (X : CxOk z ad RX11 cX11_undo 2 (some .int) 1) (a0 : Nat) (h0 : KT a0 = 11)     (S : St) (r : (Int32 × St)) (ho : o = (some (.int r.1), r.2)) (hF : fX11_undo_s5 a0   S = some r) : GW z ad o S 5 [(0, .ref (ad a0))] [] := by
  unfold fX11_undo_s5 at hF
  refine g_aload_n X dX11_undo_5 0 rfl rfl ?_
  refine g_getI X dX11_undo_6 flX11_233 rfl h0 ?_
  refine g_if_ne (tgt := 14) X dX11_undo_9 (by decide) (fun c_1 => ?_) (fun c_1 => ?_)
  · rw [if_neg c_1] at hF
    refine g_aload_n X dX11_undo_14 0 rfl rfl ?_
    refine g_dup (a := .ref (ad a0)) X dX11_undo_15 rfl ?_
    refine g_getI X dX11_undo_16 flX11_233 rfl h0 ?_
    refine g_iconst (v := 1) X dX11_undo_19 (by decide) ?_
    refine g_isub X dX11_undo_20 ?_
    refine g_putI X dX11_undo_21 fpX11_233 rfl rfl rfl h0 ?_
    exact (wX11_undo_s24 X a0 h0 (sI S 11 23 a0 ((gI S 11 23 a0) - (1 : Int32))) r ho hF)
  · rw [if_pos c_1] at hF
    refine g_iconst (v := -1) X dX11_undo_12 (by decide) ?_
    have hF := Option.some.inj hF
    subst hF
    exact g_iret X dX11_undo_13 ho
theorem wX11_undo {z : Mx} {ad : Nat → Nat} {o : Option Value × St} (X : CxOk z ad RX11 cX11_undo 2 (some .int) 1) (a0 : Nat) (h0 : KT a0 = 11) (S : St) (r : (Int32 × St)) (ho : o = (some (.int r.1), r.2)) (hF : fX11_undo a0 S = some r) : GW z ad o S 0 [(0, .ref (ad a0))] [] := by
  unfold fX11_undo at hF
  refine g_aload_n X dX11_undo_0 0 rfl rfl ?_
  refine g_iconst (v := 0) X dX11_undo_1 (by decide) ?_
  refine g_putI X dX11_undo_2 fpX11_1 rfl rfl rfl h0 ?_
  exact (wX11_undo_s5 X a0 h0 (sI S 11 0 a0 (0 : Int32)) r ho hF)
theorem tX11_undo {ad : Nat → Nat} (hI : Inj ad) (l : Launch) (D : va_G) (cyy : Nat → ClassId) (a0 : Nat) (h0 : KT a0 = 11) (S : St) (r : (Int32 × St)) (hF : fX11_undo a0 S = some r) : OkM l yX11_undo cX11_undo 2 (some .int) 1 ad D cyy [.ref (ad a0)] S (some (.int r.1), r.2) := okM_of hI (by decide) (inr_33 _ (List.mem_of_getElem? (i := 23) rfl)) (by show _ ≤ 2; exact Nat.le_of_ble_eq_true rfl) (fun z X => wX11_undo X a0 h0 S r rfl hF)
def fX11_tries_s23 (k2 : Int32 → St → Option St) (a0 : Nat) (y1 : Int32)  (S : St) : Option St :=
  k2 (y1 + (1 : Int32)) S
def fX11_tries_s2 (k2 : Int32 → St → Option St) (a0 : Nat) (y1 : Int32)  (S : St) : Option St :=
  if (17 : Int32) ≤ y1 then (some S) else
  (if (((52 : Int32) + y1) < 0 ∨ 250 ≤ ((52 : Int32) + y1).toNatClampNeg) then none else
  if (y1 < 0 ∨ 17 ≤ y1.toNatClampNeg) then none else
  fX11_tries_s23 k2 a0 y1 (sA S 35 (a0 + 8) y1.toNatClampNeg (gA S 29 (a0 + 2) (((52 : Int32) + y1).toNatClampNeg))))
def fX11_tries_h2 (a0 : Nat) : Nat → Int32 → St → Option St
  | 0, _, _ => none
  | n + 1, y1, S => fX11_tries_s2 (fX11_tries_h2 a0 n) a0 y1 S
def fX11_tries (a0 : Nat) (S : St) : Option St :=
  fX11_tries_h2 a0 NN (0 : Int32) S
theorem wX11_tries_s23 {z : Mx} {ad : Nat → Nat} {o : Option Value × St} (X : CxOk z ad RX11 cX11_tries 2 none 1) (a0 : Nat) (h0 : KT a0 = 11) (y1 : Int32)  (k2 : Int32 → St → Option St)   (S : St) (r : St) (ho : o = (none, r)) (hk2 : ∀ (y1 : Int32) (S : St), k2 y1 S = some r → GW z ad o S 2 [(0, .ref (ad a0)), (1, .int y1)] []) (hF : fX11_tries_s23 k2 a0 y1  S = some r) : GW z ad o S 23 [(0, .ref (ad a0)), (1, .int y1)] [] := by
  unfold fX11_tries_s23 at hF
  refine g_iinc (v := (y1 + (1 : Int32))) X dX11_tries_23 1 rfl rfl (by decide) (lv' := [(1, .int (y1 + (1 : Int32))), (0, .ref (ad a0))]) rfl ?_
  refine g_goto (tgt := 2) X dX11_tries_26 (by decide) ?_
  exact g_perm [1, 0] rfl (hk2 (y1 + (1 : Int32)) S hF)
theorem wX11_tries_s2 {z : Mx} {ad : Nat → Nat} {o : Option Value × St} (X : CxOk z ad RX11 cX11_tries 2 none 1) (a0 : Nat) (h0 : KT a0 = 11) (y1 : Int32)  (k2 : Int32 → St → Option St)   (S : St) (r : St) (ho : o = (none, r)) (hk2 : ∀ (y1 : Int32) (S : St), k2 y1 S = some r → GW z ad o S 2 [(0, .ref (ad a0)), (1, .int y1)] []) (hF : fX11_tries_s2 k2 a0 y1  S = some r) : GW z ad o S 2 [(0, .ref (ad a0)), (1, .int y1)] [] := by
  unfold fX11_tries_s2 at hF
  refine g_iload_n X dX11_tries_2 1 rfl rfl ?_
  refine g_bipush (v := 17) X dX11_tries_3 (by decide) ?_
  refine g_icmp_ge (tgt := 29) X dX11_tries_5 (by decide) (fun c_1 => ?_) (fun c_1 => ?_)
  · rw [if_pos c_1] at hF
    have hF := Option.some.inj hF
    subst hF
    exact g_vret X dX11_tries_29 ho
  · rw [if_neg c_1] at hF
    refine g_aload_n X dX11_tries_8 0 rfl rfl ?_
    refine g_getR (f := 8) X dX11_tries_9 flX11_53 rfl rfl h0 ?_
    refine g_iload_n X dX11_tries_12 1 rfl rfl ?_
    refine g_aload_n X dX11_tries_13 0 rfl rfl ?_
    refine g_getR (f := 2) X dX11_tries_14 flX11_33 rfl rfl h0 ?_
    refine g_bipush (v := 52) X dX11_tries_17 (by decide) ?_
    refine g_iload_n X dX11_tries_19 1 rfl rfl ?_
    refine g_iadd X dX11_tries_20 ?_
    obtain ⟨e_2, hF⟩ := oguard hF
    refine g_iald X dX11_tries_21 kd_29 (on_11_6 h0) e_2 ?_
    obtain ⟨e_3, hF⟩ := oguard hF
    refine g_iast X dX11_tries_22 kd_35 (on_11_22 h0) e_3 ?_
    exact (wX11_tries_s23 X a0 h0 y1 k2 (sA S 35 (a0 + 8) y1.toNatClampNeg (gA S 29 (a0 + 2) (((52 : Int32) + y1).toNatClampNeg))) r ho hk2 hF)
theorem wX11_tries_h2 {z : Mx} {ad : Nat → Nat} {o : Option Value × St} (X : CxOk z ad RX11 cX11_tries 2 none 1) (a0 : Nat) (h0 : KT a0 = 11)  (r : St) (ho : o = (none, r)) : ∀ (n : Nat) (y1 : Int32) (S : St), fX11_tries_h2 a0 n y1 S = some r → GW z ad o S 2 [(0, .ref (ad a0)), (1, .int y1)] [] := by
  intro n
  induction n with
  | zero => intro y1 S  hF; cases hF
  | succ n ih => intro y1 S  hF; exact wX11_tries_s2 X a0 h0 y1 (fX11_tries_h2 a0 n)  S r ho ih hF
theorem wX11_tries {z : Mx} {ad : Nat → Nat} {o : Option Value × St} (X : CxOk z ad RX11 cX11_tries 2 none 1) (a0 : Nat) (h0 : KT a0 = 11) (S : St) (r : St) (ho : o = (none, r)) (hF : fX11_tries a0 S = some r) : GW z ad o S 0 [(0, .ref (ad a0))] [] := by
  unfold fX11_tries at hF
  refine g_iconst (v := 0) X dX11_tries_0 (by decide) ?_
  refine g_istore_n X dX11_tries_1 rfl (by decide) (lv' := [(1, .int (0 : Int32)), (0, .ref (ad a0))]) rfl ?_
  exact g_perm [1, 0] rfl (wX11_tries_h2 X a0 h0 r ho NN (0 : Int32) S hF)
theorem tX11_tries {ad : Nat → Nat} (hI : Inj ad) (l : Launch) (D : va_G) (cyy : Nat → ClassId) (a0 : Nat) (h0 : KT a0 = 11) (S : St) (r : St) (hF : fX11_tries a0 S = some r) : OkM l yX11_tries cX11_tries 2 none 1 ad D cyy [.ref (ad a0)] S (none, r) := okM_of hI (by decide) (inr_55 _ (List.mem_of_getElem? (i := 9) rfl)) (by show _ ≤ 2; exact Nat.le_of_ble_eq_true rfl) (fun z X => wX11_tries X a0 h0 S r rfl hF)
def fX11_back_s23 (k2 : Int32 → St → Option St) (a0 : Nat) (y1 : Int32)  (S : St) : Option St :=
  k2 (y1 + (1 : Int32)) S
def fX11_back_s2 (k2 : Int32 → St → Option St) (a0 : Nat) (y1 : Int32)  (S : St) : Option St :=
  if (17 : Int32) ≤ y1 then (some S) else
  (if (y1 < 0 ∨ 17 ≤ y1.toNatClampNeg) then none else
  if (((52 : Int32) + y1) < 0 ∨ 250 ≤ ((52 : Int32) + y1).toNatClampNeg) then none else
  fX11_back_s23 k2 a0 y1 (sA S 29 (a0 + 2) (((52 : Int32) + y1).toNatClampNeg) (gA S 35 (a0 + 8) y1.toNatClampNeg)))
def fX11_back_h2 (a0 : Nat) : Nat → Int32 → St → Option St
  | 0, _, _ => none
  | n + 1, y1, S => fX11_back_s2 (fX11_back_h2 a0 n) a0 y1 S
def fX11_back (a0 : Nat) (S : St) : Option St :=
  fX11_back_h2 a0 NN (0 : Int32) S
theorem wX11_back_s23 {z : Mx} {ad : Nat → Nat} {o : Option Value × St} (X : CxOk z ad RX11 cX11_back 2 none 1) (a0 : Nat) (h0 : KT a0 = 11) (y1 : Int32)  (k2 : Int32 → St → Option St)   (S : St) (r : St) (ho : o = (none, r)) (hk2 : ∀ (y1 : Int32) (S : St), k2 y1 S = some r → GW z ad o S 2 [(0, .ref (ad a0)), (1, .int y1)] []) (hF : fX11_back_s23 k2 a0 y1  S = some r) : GW z ad o S 23 [(0, .ref (ad a0)), (1, .int y1)] [] := by
  unfold fX11_back_s23 at hF
  refine g_iinc (v := (y1 + (1 : Int32))) X dX11_back_23 1 rfl rfl (by decide) (lv' := [(1, .int (y1 + (1 : Int32))), (0, .ref (ad a0))]) rfl ?_
  refine g_goto (tgt := 2) X dX11_back_26 (by decide) ?_
  exact g_perm [1, 0] rfl (hk2 (y1 + (1 : Int32)) S hF)
theorem wX11_back_s2 {z : Mx} {ad : Nat → Nat} {o : Option Value × St} (X : CxOk z ad RX11 cX11_back 2 none 1) (a0 : Nat) (h0 : KT a0 = 11) (y1 : Int32)  (k2 : Int32 → St → Option St)   (S : St) (r : St) (ho : o = (none, r)) (hk2 : ∀ (y1 : Int32) (S : St), k2 y1 S = some r → GW z ad o S 2 [(0, .ref (ad a0)), (1, .int y1)] []) (hF : fX11_back_s2 k2 a0 y1  S = some r) : GW z ad o S 2 [(0, .ref (ad a0)), (1, .int y1)] [] := by
  unfold fX11_back_s2 at hF
  refine g_iload_n X dX11_back_2 1 rfl rfl ?_
  refine g_bipush (v := 17) X dX11_back_3 (by decide) ?_
  refine g_icmp_ge (tgt := 29) X dX11_back_5 (by decide) (fun c_1 => ?_) (fun c_1 => ?_)
  · rw [if_pos c_1] at hF
    have hF := Option.some.inj hF
    subst hF
    exact g_vret X dX11_back_29 ho
  · rw [if_neg c_1] at hF
    refine g_aload_n X dX11_back_8 0 rfl rfl ?_
    refine g_getR (f := 2) X dX11_back_9 flX11_33 rfl rfl h0 ?_
    refine g_bipush (v := 52) X dX11_back_12 (by decide) ?_
    refine g_iload_n X dX11_back_14 1 rfl rfl ?_
    refine g_iadd X dX11_back_15 ?_
    refine g_aload_n X dX11_back_16 0 rfl rfl ?_
    refine g_getR (f := 8) X dX11_back_17 flX11_53 rfl rfl h0 ?_
    refine g_iload_n X dX11_back_20 1 rfl rfl ?_
    obtain ⟨e_2, hF⟩ := oguard hF
    refine g_iald X dX11_back_21 kd_35 (on_11_22 h0) e_2 ?_
    obtain ⟨e_3, hF⟩ := oguard hF
    refine g_iast X dX11_back_22 kd_29 (on_11_6 h0) e_3 ?_
    exact (wX11_back_s23 X a0 h0 y1 k2 (sA S 29 (a0 + 2) (((52 : Int32) + y1).toNatClampNeg) (gA S 35 (a0 + 8) y1.toNatClampNeg)) r ho hk2 hF)
theorem wX11_back_h2 {z : Mx} {ad : Nat → Nat} {o : Option Value × St} (X : CxOk z ad RX11 cX11_back 2 none 1) (a0 : Nat) (h0 : KT a0 = 11)  (r : St) (ho : o = (none, r)) : ∀ (n : Nat) (y1 : Int32) (S : St), fX11_back_h2 a0 n y1 S = some r → GW z ad o S 2 [(0, .ref (ad a0)), (1, .int y1)] [] := by
  intro n
  induction n with
  | zero => intro y1 S  hF; cases hF
  | succ n ih => intro y1 S  hF; exact wX11_back_s2 X a0 h0 y1 (fX11_back_h2 a0 n)  S r ho ih hF
theorem wX11_back {z : Mx} {ad : Nat → Nat} {o : Option Value × St} (X : CxOk z ad RX11 cX11_back 2 none 1) (a0 : Nat) (h0 : KT a0 = 11) (S : St) (r : St) (ho : o = (none, r)) (hF : fX11_back a0 S = some r) : GW z ad o S 0 [(0, .ref (ad a0))] [] := by
  unfold fX11_back at hF
  refine g_iconst (v := 0) X dX11_back_0 (by decide) ?_
  refine g_istore_n X dX11_back_1 rfl (by decide) (lv' := [(1, .int (0 : Int32)), (0, .ref (ad a0))]) rfl ?_
  exact g_perm [1, 0] rfl (wX11_back_h2 X a0 h0 r ho NN (0 : Int32) S hF)
theorem tX11_back {ad : Nat → Nat} (hI : Inj ad) (l : Launch) (D : va_G) (cyy : Nat → ClassId) (a0 : Nat) (h0 : KT a0 = 11) (S : St) (r : St) (hF : fX11_back a0 S = some r) : OkM l yX11_back cX11_back 2 none 1 ad D cyy [.ref (ad a0)] S (none, r) := okM_of hI (by decide) (inr_55 _ (List.mem_of_getElem? (i := 13) rfl)) (by show _ ≤ 2; exact Nat.le_of_ble_eq_true rfl) (fun z X => wX11_back X a0 h0 S r rfl hF)
def fX11_next_s17 (k17 : Int32 → St → Option (Int32 × St)) (a0 : Nat) (x1 : Int32) (y2 : Int32)  (S : St) : Option (Int32 × St) :=
  (fX11_fallsIn a0 x1 y2 S).bind fun r_4 =>
  if r_4 = 0 then (k17 (y2 + (1 : Int32)) S) else
  (some (y2, S))
def fX11_next_h17 (a0 : Nat) (x1 : Int32) : Nat → Int32 → St → Option (Int32 × St)
  | 0, _, _ => none
  | n + 1, y2, S => fX11_next_s17 (fX11_next_h17 a0 x1 n) a0 x1 y2 S
def fX11_next_s5 (a0 : Nat) (x1 : Int32)   (S : St) : Option (Int32 × St) :=
  (fX11_isFeast a0 x1 S).bind fun r_1 =>
  if r_1 = 0 then (some ((-1 : Int32), S)) else
  (fX11_next_h17 a0 x1 NN (0 : Int32) S)
def fX11_next (a0 : Nat) (x1 : Int32) (S : St) : Option (Int32 × St) :=
  fX11_next_s5 a0 x1 (sI S 11 0 a0 (0 : Int32))
theorem wX11_next_s17 {z : Mx} {ad : Nat → Nat} {o : Option Value × St} (X : CxOk z ad RX11 cX11_next 3 (some .int) 7) (a0 : Nat) (x1 : Int32) (h0 : KT a0 = 11) (y2 : Int32)  (k17 : Int32 → St → Option (Int32 × St))   (S : St) (r : (Int32 × St)) (ho : o = (some (.int r.1), r.2)) (hk17 : ∀ (y2 : Int32) (S : St), k17 y2 S = some r → GW z ad o S 17 [(0, .ref (ad a0)), (1, .int x1), (2, .int y2)] []) (hF : fX11_next_s17 k17 a0 x1 y2  S = some r) : GW z ad o S 17 [(0, .ref (ad a0)), (1, .int x1), (2, .int y2)] [] := by
  unfold fX11_next_s17 at hF
  refine g_aload_n X dX11_next_17 0 rfl rfl ?_
  refine g_iload_n X dX11_next_18 1 rfl rfl ?_
  refine g_iload_n X dX11_next_19 2 rfl rfl ?_
  obtain ⟨r_4, q_5, hF⟩ := obind hF
  refine g_callVi (As := [.int x1, .int y2]) X dX11_next_20 mlX11_282 (fun l D cyy => tX11_fallsIn (cx_inj X) l D cyy a0 x1 y2 h0 S r_4 q_5) h0 (by decide) rfl rfl (Nat.le_of_ble_eq_true rfl) ?_
  refine g_if_ne (tgt := 32) X dX11_next_23 (by decide) (fun c_6 => ?_) (fun c_6 => ?_)
  · rw [if_neg c_6] at hF
    refine g_iload_n X dX11_next_32 2 rfl rfl ?_
    have hF := Option.some.inj hF
    subst hF
    exact g_iret X dX11_next_33 ho
  · rw [if_pos c_6] at hF
    refine g_iinc (v := (y2 + (1 : Int32))) X dX11_next_26 2 rfl rfl (by decide) (lv' := [(2, .int (y2 + (1 : Int32))), (0, .ref (ad a0)), (1, .int x1)]) rfl ?_
    refine g_goto (tgt := 17) X dX11_next_29 (by decide) ?_
    exact g_perm [1, 2, 0] rfl (hk17 (y2 + (1 : Int32)) S hF)
theorem wX11_next_h17 {z : Mx} {ad : Nat → Nat} {o : Option Value × St} (X : CxOk z ad RX11 cX11_next 3 (some .int) 7) (a0 : Nat) (x1 : Int32) (h0 : KT a0 = 11)  (r : (Int32 × St)) (ho : o = (some (.int r.1), r.2)) : ∀ (n : Nat) (y2 : Int32) (S : St), fX11_next_h17 a0 x1 n y2 S = some r → GW z ad o S 17 [(0, .ref (ad a0)), (1, .int x1), (2, .int y2)] [] := by
  intro n
  induction n with
  | zero => intro y2 S  hF; cases hF
  | succ n ih => intro y2 S  hF; exact wX11_next_s17 X a0 x1 h0 y2 (fX11_next_h17 a0 x1 n)  S r ho ih hF
theorem wX11_next_s5 {z : Mx} {ad : Nat → Nat} {o : Option Value × St} (X : CxOk z ad RX11 cX11_next 3 (some .int) 7) (a0 : Nat) (x1 : Int32) (h0 : KT a0 = 11)     (S : St) (r : (Int32 × St)) (ho : o = (some (.int r.1), r.2)) (hF : fX11_next_s5 a0 x1   S = some r) : GW z ad o S 5 [(0, .ref (ad a0)), (1, .int x1)] [] := by
  unfold fX11_next_s5 at hF
  refine g_aload_n X dX11_next_5 0 rfl rfl ?_
  refine g_iload_n X dX11_next_6 1 rfl rfl ?_
  obtain ⟨r_1, q_2, hF⟩ := obind hF
  refine g_callVi (As := [.int x1]) X dX11_next_7 mlX11_279 (fun l D cyy => tX11_isFeast (cx_inj X) l D cyy a0 x1 h0 S r_1 q_2) h0 (by decide) rfl rfl (Nat.le_of_ble_eq_true rfl) ?_
  refine g_if_ne (tgt := 15) X dX11_next_10 (by decide) (fun c_3 => ?_) (fun c_3 => ?_)
  · rw [if_neg c_3] at hF
    refine g_iconst (v := 0) X dX11_next_15 (by decide) ?_
    refine g_istore_n X dX11_next_16 rfl (by decide) (lv' := [(2, .int (0 : Int32)), (0, .ref (ad a0)), (1, .int x1)]) rfl ?_
    exact g_perm [1, 2, 0] rfl (wX11_next_h17 X a0 x1 h0 r ho NN (0 : Int32) S hF)
  · rw [if_pos c_3] at hF
    refine g_iconst (v := -1) X dX11_next_13 (by decide) ?_
    have hF := Option.some.inj hF
    subst hF
    exact g_iret X dX11_next_14 ho
theorem wX11_next {z : Mx} {ad : Nat → Nat} {o : Option Value × St} (X : CxOk z ad RX11 cX11_next 3 (some .int) 7) (a0 : Nat) (x1 : Int32) (h0 : KT a0 = 11) (S : St) (r : (Int32 × St)) (ho : o = (some (.int r.1), r.2)) (hF : fX11_next a0 x1 S = some r) : GW z ad o S 0 [(0, .ref (ad a0)), (1, .int x1)] [] := by
  unfold fX11_next at hF
  refine g_aload_n X dX11_next_0 0 rfl rfl ?_
  refine g_iconst (v := 0) X dX11_next_1 (by decide) ?_
  refine g_putI X dX11_next_2 fpX11_1 rfl rfl rfl h0 ?_
  exact (wX11_next_s5 X a0 x1 h0 (sI S 11 0 a0 (0 : Int32)) r ho hF)
theorem tX11_next {ad : Nat → Nat} (hI : Inj ad) (l : Launch) (D : va_G) (cyy : Nat → ClassId) (a0 : Nat) (x1 : Int32) (h0 : KT a0 = 11) (S : St) (r : (Int32 × St)) (hF : fX11_next a0 x1 S = some r) : OkM l yX11_next cX11_next 3 (some .int) 7 ad D cyy [.ref (ad a0), .int x1] S (some (.int r.1), r.2) := okM_of hI (by decide) (inr_34 _ (List.mem_of_getElem? (i := 16) rfl)) (by show _ ≤ 3; exact Nat.le_of_ble_eq_true rfl) (fun z X => wX11_next X a0 x1 h0 S r rfl hF)
def fX11_falls_s31 (k31 : Int32 → Int32 → St → Option (Int32 × St)) (a0 : Nat) (x1 : Int32) (x2 : Int32) (y3 : Int32) (y4 : Int32)  (S : St) : Option (Int32 × St) :=
  if x2 < y4 then (some (y3, S)) else
  ((fX11_fallsIn a0 x1 y4 S).bind fun r_6 =>
  if r_6 = 0 then (k31 (y3 + (0 : Int32)) (y4 + (1 : Int32)) S) else
  (k31 (y3 + (1 : Int32)) (y4 + (1 : Int32)) S))
def fX11_falls_h31 (a0 : Nat) (x1 : Int32) (x2 : Int32) : Nat → Int32 → Int32 → St → Option (Int32 × St)
  | 0, _, _, _ => none
  | n + 1, y3, y4, S => fX11_falls_s31 (fX11_falls_h31 a0 x1 x2 n) a0 x1 x2 y3 y4 S
def fX11_falls_s5 (a0 : Nat) (x1 : Int32) (x2 : Int32)   (S : St) : Option (Int32 × St) :=
  (fX11_isFeast a0 x1 S).bind fun r_1 =>
  if r_1 = 0 then (some ((-1 : Int32), S)) else
  (if (fX11_isIn x2 (0 : Int32) (9999 : Int32) S) = 0 then (some ((-1 : Int32), S)) else
  (fX11_falls_h31 a0 x1 x2 NN (0 : Int32) (0 : Int32) S))
def fX11_falls (a0 : Nat) (x1 : Int32) (x2 : Int32) (S : St) : Option (Int32 × St) :=
  fX11_falls_s5 a0 x1 x2 (sI S 11 0 a0 (0 : Int32))
theorem wX11_falls_s31 {z : Mx} {ad : Nat → Nat} {o : Option Value × St} (X : CxOk z ad RX11 cX11_falls 5 (some .int) 7) (a0 : Nat) (x1 : Int32) (x2 : Int32) (h0 : KT a0 = 11) (y3 : Int32) (y4 : Int32)  (k31 : Int32 → Int32 → St → Option (Int32 × St))   (S : St) (r : (Int32 × St)) (ho : o = (some (.int r.1), r.2)) (hk31 : ∀ (y3 : Int32) (y4 : Int32) (S : St), k31 y3 y4 S = some r → GW z ad o S 31 [(0, .ref (ad a0)), (1, .int x1), (2, .int x2), (3, .int y3), (4, .int y4)] []) (hF : fX11_falls_s31 k31 a0 x1 x2 y3 y4  S = some r) : GW z ad o S 31 [(0, .ref (ad a0)), (1, .int x1), (2, .int x2), (3, .int y3), (4, .int y4)] [] := by
  unfold fX11_falls_s31 at hF
  refine g_iload X dX11_falls_31 4 rfl ?_
  refine g_iload_n X dX11_falls_33 2 rfl rfl ?_
  refine g_icmp_gt (tgt := 61) X dX11_falls_34 (by decide) (fun c_5 => ?_) (fun c_5 => ?_)
  · rw [if_pos c_5] at hF
    refine g_iload_n X dX11_falls_61 3 rfl rfl ?_
    have hF := Option.some.inj hF
    subst hF
    exact g_iret X dX11_falls_62 ho
  · rw [if_neg c_5] at hF
    refine g_iload_n X dX11_falls_37 3 rfl rfl ?_
    refine g_aload_n X dX11_falls_38 0 rfl rfl ?_
    refine g_iload_n X dX11_falls_39 1 rfl rfl ?_
    refine g_iload X dX11_falls_40 4 rfl ?_
    obtain ⟨r_6, q_7, hF⟩ := obind hF
    refine g_callVi (As := [.int x1, .int y4]) X dX11_falls_42 mlX11_282 (fun l D cyy => tX11_fallsIn (cx_inj X) l D cyy a0 x1 y4 h0 S r_6 q_7) h0 (by decide) rfl rfl (Nat.le_of_ble_eq_true rfl) ?_
    refine g_if_eq (tgt := 52) X dX11_falls_45 (by decide) (fun c_8 => ?_) (fun c_8 => ?_)
    · rw [if_pos c_8] at hF
      refine g_iconst (v := 0) X dX11_falls_52 (by decide) ?_
      refine g_iadd X dX11_falls_53 ?_
      refine g_istore_n X dX11_falls_54 rfl (by decide) (lv' := [(3, .int (y3 + (0 : Int32))), (0, .ref (ad a0)), (1, .int x1), (2, .int x2), (4, .int y4)]) rfl ?_
      refine g_iinc (v := (y4 + (1 : Int32))) X dX11_falls_55 4 rfl rfl (by decide) (lv' := [(4, .int (y4 + (1 : Int32))), (3, .int (y3 + (0 : Int32))), (0, .ref (ad a0)), (1, .int x1), (2, .int x2)]) rfl ?_
      refine g_goto (tgt := 31) X dX11_falls_58 (by decide) ?_
      exact g_perm [2, 3, 4, 1, 0] rfl (hk31 (y3 + (0 : Int32)) (y4 + (1 : Int32)) S hF)
    · rw [if_neg c_8] at hF
      refine g_iconst (v := 1) X dX11_falls_48 (by decide) ?_
      refine g_goto (tgt := 53) X dX11_falls_49 (by decide) ?_
      refine g_iadd X dX11_falls_53 ?_
      refine g_istore_n X dX11_falls_54 rfl (by decide) (lv' := [(3, .int (y3 + (1 : Int32))), (0, .ref (ad a0)), (1, .int x1), (2, .int x2), (4, .int y4)]) rfl ?_
      refine g_iinc (v := (y4 + (1 : Int32))) X dX11_falls_55 4 rfl rfl (by decide) (lv' := [(4, .int (y4 + (1 : Int32))), (3, .int (y3 + (1 : Int32))), (0, .ref (ad a0)), (1, .int x1), (2, .int x2)]) rfl ?_
      refine g_goto (tgt := 31) X dX11_falls_58 (by decide) ?_
      exact g_perm [2, 3, 4, 1, 0] rfl (hk31 (y3 + (1 : Int32)) (y4 + (1 : Int32)) S hF)
theorem wX11_falls_h31 {z : Mx} {ad : Nat → Nat} {o : Option Value × St} (X : CxOk z ad RX11 cX11_falls 5 (some .int) 7) (a0 : Nat) (x1 : Int32) (x2 : Int32) (h0 : KT a0 = 11)  (r : (Int32 × St)) (ho : o = (some (.int r.1), r.2)) : ∀ (n : Nat) (y3 : Int32) (y4 : Int32) (S : St), fX11_falls_h31 a0 x1 x2 n y3 y4 S = some r → GW z ad o S 31 [(0, .ref (ad a0)), (1, .int x1), (2, .int x2), (3, .int y3), (4, .int y4)] [] := by
  intro n
  induction n with
  | zero => intro y3 y4 S  hF; cases hF
  | succ n ih => intro y3 y4 S  hF; exact wX11_falls_s31 X a0 x1 x2 h0 y3 y4 (fX11_falls_h31 a0 x1 x2 n)  S r ho ih hF
theorem wX11_falls_s5 {z : Mx} {ad : Nat → Nat} {o : Option Value × St} (X : CxOk z ad RX11 cX11_falls 5 (some .int) 7) (a0 : Nat) (x1 : Int32) (x2 : Int32) (h0 : KT a0 = 11)     (S : St) (r : (Int32 × St)) (ho : o = (some (.int r.1), r.2)) (hF : fX11_falls_s5 a0 x1 x2   S = some r) : GW z ad o S 5 [(0, .ref (ad a0)), (1, .int x1), (2, .int x2)] [] := by
  unfold fX11_falls_s5 at hF
  refine g_aload_n X dX11_falls_5 0 rfl rfl ?_
  refine g_iload_n X dX11_falls_6 1 rfl rfl ?_
  obtain ⟨r_1, q_2, hF⟩ := obind hF
  refine g_callVi (As := [.int x1]) X dX11_falls_7 mlX11_279 (fun l D cyy => tX11_isFeast (cx_inj X) l D cyy a0 x1 h0 S r_1 q_2) h0 (by decide) rfl rfl (Nat.le_of_ble_eq_true rfl) ?_
  refine g_if_eq (tgt := 24) X dX11_falls_10 (by decide) (fun c_3 => ?_) (fun c_3 => ?_)
  · rw [if_pos c_3] at hF
    refine g_iconst (v := -1) X dX11_falls_24 (by decide) ?_
    have hF := Option.some.inj hF
    subst hF
    exact g_iret X dX11_falls_25 ho
  · rw [if_neg c_3] at hF
    refine g_iload_n X dX11_falls_13 2 rfl rfl ?_
    refine g_iconst (v := 0) X dX11_falls_14 (by decide) ?_
    refine g_sipush (v := 9999) X dX11_falls_15 (by decide) ?_
    refine g_callSi (As := [.int x2, .int (0 : Int32), .int (9999 : Int32)]) X dX11_falls_18 mlX11_173 (fun l D cyy => tX11_isIn (cx_inj X) l D cyy x2 (0 : Int32) (9999 : Int32)  S) (by decide) rfl rfl (Nat.le_of_ble_eq_true rfl) ?_
    refine g_if_ne (tgt := 26) X dX11_falls_21 (by decide) (fun c_4 => ?_) (fun c_4 => ?_)
    · rw [if_neg c_4] at hF
      refine g_iconst (v := 0) X dX11_falls_26 (by decide) ?_
      refine g_istore_n X dX11_falls_27 rfl (by decide) (lv' := [(3, .int (0 : Int32)), (0, .ref (ad a0)), (1, .int x1), (2, .int x2)]) rfl ?_
      refine g_iconst (v := 0) X dX11_falls_28 (by decide) ?_
      refine g_istore X dX11_falls_29 (by decide) (lv' := [(4, .int (0 : Int32)), (3, .int (0 : Int32)), (0, .ref (ad a0)), (1, .int x1), (2, .int x2)]) rfl ?_
      exact g_perm [2, 3, 4, 1, 0] rfl (wX11_falls_h31 X a0 x1 x2 h0 r ho NN (0 : Int32) (0 : Int32) S hF)
    · rw [if_pos c_4] at hF
      refine g_iconst (v := -1) X dX11_falls_24 (by decide) ?_
      have hF := Option.some.inj hF
      subst hF
      exact g_iret X dX11_falls_25 ho
theorem wX11_falls {z : Mx} {ad : Nat → Nat} {o : Option Value × St} (X : CxOk z ad RX11 cX11_falls 5 (some .int) 7) (a0 : Nat) (x1 : Int32) (x2 : Int32) (h0 : KT a0 = 11) (S : St) (r : (Int32 × St)) (ho : o = (some (.int r.1), r.2)) (hF : fX11_falls a0 x1 x2 S = some r) : GW z ad o S 0 [(0, .ref (ad a0)), (1, .int x1), (2, .int x2)] [] := by
  unfold fX11_falls at hF
  refine g_aload_n X dX11_falls_0 0 rfl rfl ?_
  refine g_iconst (v := 0) X dX11_falls_1 (by decide) ?_
  refine g_putI X dX11_falls_2 fpX11_1 rfl rfl rfl h0 ?_
  exact (wX11_falls_s5 X a0 x1 x2 h0 (sI S 11 0 a0 (0 : Int32)) r ho hF)
theorem tX11_falls {ad : Nat → Nat} (hI : Inj ad) (l : Launch) (D : va_G) (cyy : Nat → ClassId) (a0 : Nat) (x1 : Int32) (x2 : Int32) (h0 : KT a0 = 11) (S : St) (r : (Int32 × St)) (hF : fX11_falls a0 x1 x2 S = some r) : OkM l yX11_falls cX11_falls 5 (some .int) 7 ad D cyy [.ref (ad a0), .int x1, .int x2] S (some (.int r.1), r.2) := okM_of hI (by decide) (inr_35 _ (List.mem_of_getElem? (i := 20) rfl)) (by show _ ≤ 5; exact Nat.le_of_ble_eq_true rfl) (fun z X => wX11_falls X a0 x1 x2 h0 S r rfl hF)
def fX11_meet_s52 (k25 : Int32 → St → Option (Int32 × St)) (a0 : Nat) (x1 : Int32) (x2 : Int32) (y3 : Int32)  (S : St) : Option (Int32 × St) :=
  k25 (y3 + (1 : Int32)) S
def fX11_meet_s25 (k25 : Int32 → St → Option (Int32 × St)) (a0 : Nat) (x1 : Int32) (x2 : Int32) (y3 : Int32)  (S : St) : Option (Int32 × St) :=
  if (99999 : Int32) < y3 then (some ((-1 : Int32), S)) else
  ((fX11_fallsIn a0 x1 y3 S).bind fun r_8 =>
  if r_8 = 0 then (fX11_meet_s52 k25 a0 x1 x2 y3 S) else
  ((fX11_fallsIn a0 x2 y3 S).bind fun r_11 =>
  if r_11 = 0 then (fX11_meet_s52 k25 a0 x1 x2 y3 S) else
  (some (y3, S))))
def fX11_meet_h25 (a0 : Nat) (x1 : Int32) (x2 : Int32) : Nat → Int32 → St → Option (Int32 × St)
  | 0, _, _ => none
  | n + 1, y3, S => fX11_meet_s25 (fX11_meet_h25 a0 x1 x2 n) a0 x1 x2 y3 S
def fX11_meet_s5 (a0 : Nat) (x1 : Int32) (x2 : Int32)   (S : St) : Option (Int32 × St) :=
  (fX11_isFeast a0 x1 S).bind fun r_1 =>
  if r_1 = 0 then (some ((-1 : Int32), S)) else
  ((fX11_isFeast a0 x2 S).bind fun r_4 =>
  if r_4 = 0 then (some ((-1 : Int32), S)) else
  (fX11_meet_h25 a0 x1 x2 NN (0 : Int32) S))
def fX11_meet (a0 : Nat) (x1 : Int32) (x2 : Int32) (S : St) : Option (Int32 × St) :=
  fX11_meet_s5 a0 x1 x2 (sI S 11 0 a0 (0 : Int32))
theorem wX11_meet_s52 {z : Mx} {ad : Nat → Nat} {o : Option Value × St} (X : CxOk z ad RX11 cX11_meet 4 (some .int) 7) (a0 : Nat) (x1 : Int32) (x2 : Int32) (h0 : KT a0 = 11) (y3 : Int32)  (k25 : Int32 → St → Option (Int32 × St))   (S : St) (r : (Int32 × St)) (ho : o = (some (.int r.1), r.2)) (hk25 : ∀ (y3 : Int32) (S : St), k25 y3 S = some r → GW z ad o S 25 [(0, .ref (ad a0)), (1, .int x1), (2, .int x2), (3, .int y3)] []) (hF : fX11_meet_s52 k25 a0 x1 x2 y3  S = some r) : GW z ad o S 52 [(0, .ref (ad a0)), (1, .int x1), (2, .int x2), (3, .int y3)] [] := by
  unfold fX11_meet_s52 at hF
  refine g_iinc (v := (y3 + (1 : Int32))) X dX11_meet_52 3 rfl rfl (by decide) (lv' := [(3, .int (y3 + (1 : Int32))), (0, .ref (ad a0)), (1, .int x1), (2, .int x2)]) rfl ?_
  refine g_goto (tgt := 25) X dX11_meet_55 (by decide) ?_
  exact g_perm [1, 2, 3, 0] rfl (hk25 (y3 + (1 : Int32)) S hF)
theorem wX11_meet_s25 {z : Mx} {ad : Nat → Nat} {o : Option Value × St} (X : CxOk z ad RX11 cX11_meet 4 (some .int) 7) (a0 : Nat) (x1 : Int32) (x2 : Int32) (h0 : KT a0 = 11) (y3 : Int32)  (k25 : Int32 → St → Option (Int32 × St))   (S : St) (r : (Int32 × St)) (ho : o = (some (.int r.1), r.2)) (hk25 : ∀ (y3 : Int32) (S : St), k25 y3 S = some r → GW z ad o S 25 [(0, .ref (ad a0)), (1, .int x1), (2, .int x2), (3, .int y3)] []) (hF : fX11_meet_s25 k25 a0 x1 x2 y3  S = some r) : GW z ad o S 25 [(0, .ref (ad a0)), (1, .int x1), (2, .int x2), (3, .int y3)] [] := by
  unfold fX11_meet_s25 at hF
  refine g_iload_n X dX11_meet_25 3 rfl rfl ?_
  refine g_ldcw (v := 99999) X dX11_meet_26 (inr_23 _ (List.mem_of_getElem? (i := 21) rfl)) ?_
  refine g_icmp_gt (tgt := 58) X dX11_meet_29 (by decide) (fun c_7 => ?_) (fun c_7 => ?_)
  · rw [if_pos c_7] at hF
    refine g_iconst (v := -1) X dX11_meet_58 (by decide) ?_
    have hF := Option.some.inj hF
    subst hF
    exact g_iret X dX11_meet_59 ho
  · rw [if_neg c_7] at hF
    refine g_aload_n X dX11_meet_32 0 rfl rfl ?_
    refine g_iload_n X dX11_meet_33 1 rfl rfl ?_
    refine g_iload_n X dX11_meet_34 3 rfl rfl ?_
    obtain ⟨r_8, q_9, hF⟩ := obind hF
    refine g_callVi (As := [.int x1, .int y3]) X dX11_meet_35 mlX11_282 (fun l D cyy => tX11_fallsIn (cx_inj X) l D cyy a0 x1 y3 h0 S r_8 q_9) h0 (by decide) rfl rfl (Nat.le_of_ble_eq_true rfl) ?_
    refine g_if_eq (tgt := 52) X dX11_meet_38 (by decide) (fun c_10 => ?_) (fun c_10 => ?_)
    · rw [if_pos c_10] at hF
      exact (wX11_meet_s52 X a0 x1 x2 h0 y3 k25 S r ho hk25 hF)
    · rw [if_neg c_10] at hF
      refine g_aload_n X dX11_meet_41 0 rfl rfl ?_
      refine g_iload_n X dX11_meet_42 2 rfl rfl ?_
      refine g_iload_n X dX11_meet_43 3 rfl rfl ?_
      obtain ⟨r_11, q_12, hF⟩ := obind hF
      refine g_callVi (As := [.int x2, .int y3]) X dX11_meet_44 mlX11_282 (fun l D cyy => tX11_fallsIn (cx_inj X) l D cyy a0 x2 y3 h0 S r_11 q_12) h0 (by decide) rfl rfl (Nat.le_of_ble_eq_true rfl) ?_
      refine g_if_eq (tgt := 52) X dX11_meet_47 (by decide) (fun c_13 => ?_) (fun c_13 => ?_)
      · rw [if_pos c_13] at hF
        exact (wX11_meet_s52 X a0 x1 x2 h0 y3 k25 S r ho hk25 hF)
      · rw [if_neg c_13] at hF
        refine g_iload_n X dX11_meet_50 3 rfl rfl ?_
        have hF := Option.some.inj hF
        subst hF
        exact g_iret X dX11_meet_51 ho
theorem wX11_meet_h25 {z : Mx} {ad : Nat → Nat} {o : Option Value × St} (X : CxOk z ad RX11 cX11_meet 4 (some .int) 7) (a0 : Nat) (x1 : Int32) (x2 : Int32) (h0 : KT a0 = 11)  (r : (Int32 × St)) (ho : o = (some (.int r.1), r.2)) : ∀ (n : Nat) (y3 : Int32) (S : St), fX11_meet_h25 a0 x1 x2 n y3 S = some r → GW z ad o S 25 [(0, .ref (ad a0)), (1, .int x1), (2, .int x2), (3, .int y3)] [] := by
  intro n
  induction n with
  | zero => intro y3 S  hF; cases hF
  | succ n ih => intro y3 S  hF; exact wX11_meet_s25 X a0 x1 x2 h0 y3 (fX11_meet_h25 a0 x1 x2 n)  S r ho ih hF
theorem wX11_meet_s5 {z : Mx} {ad : Nat → Nat} {o : Option Value × St} (X : CxOk z ad RX11 cX11_meet 4 (some .int) 7) (a0 : Nat) (x1 : Int32) (x2 : Int32) (h0 : KT a0 = 11)     (S : St) (r : (Int32 × St)) (ho : o = (some (.int r.1), r.2)) (hF : fX11_meet_s5 a0 x1 x2   S = some r) : GW z ad o S 5 [(0, .ref (ad a0)), (1, .int x1), (2, .int x2)] [] := by
  unfold fX11_meet_s5 at hF
  refine g_aload_n X dX11_meet_5 0 rfl rfl ?_
  refine g_iload_n X dX11_meet_6 1 rfl rfl ?_
  obtain ⟨r_1, q_2, hF⟩ := obind hF
  refine g_callVi (As := [.int x1]) X dX11_meet_7 mlX11_279 (fun l D cyy => tX11_isFeast (cx_inj X) l D cyy a0 x1 h0 S r_1 q_2) h0 (by decide) rfl rfl (Nat.le_of_ble_eq_true rfl) ?_
  refine g_if_eq (tgt := 21) X dX11_meet_10 (by decide) (fun c_3 => ?_) (fun c_3 => ?_)
  · rw [if_pos c_3] at hF
    refine g_iconst (v := -1) X dX11_meet_21 (by decide) ?_
    have hF := Option.some.inj hF
    subst hF
    exact g_iret X dX11_meet_22 ho
  · rw [if_neg c_3] at hF
    refine g_aload_n X dX11_meet_13 0 rfl rfl ?_
    refine g_iload_n X dX11_meet_14 2 rfl rfl ?_
    obtain ⟨r_4, q_5, hF⟩ := obind hF
    refine g_callVi (As := [.int x2]) X dX11_meet_15 mlX11_279 (fun l D cyy => tX11_isFeast (cx_inj X) l D cyy a0 x2 h0 S r_4 q_5) h0 (by decide) rfl rfl (Nat.le_of_ble_eq_true rfl) ?_
    refine g_if_ne (tgt := 23) X dX11_meet_18 (by decide) (fun c_6 => ?_) (fun c_6 => ?_)
    · rw [if_neg c_6] at hF
      refine g_iconst (v := 0) X dX11_meet_23 (by decide) ?_
      refine g_istore_n X dX11_meet_24 rfl (by decide) (lv' := [(3, .int (0 : Int32)), (0, .ref (ad a0)), (1, .int x1), (2, .int x2)]) rfl ?_
      exact g_perm [1, 2, 3, 0] rfl (wX11_meet_h25 X a0 x1 x2 h0 r ho NN (0 : Int32) S hF)
    · rw [if_pos c_6] at hF
      refine g_iconst (v := -1) X dX11_meet_21 (by decide) ?_
      have hF := Option.some.inj hF
      subst hF
      exact g_iret X dX11_meet_22 ho
theorem wX11_meet {z : Mx} {ad : Nat → Nat} {o : Option Value × St} (X : CxOk z ad RX11 cX11_meet 4 (some .int) 7) (a0 : Nat) (x1 : Int32) (x2 : Int32) (h0 : KT a0 = 11) (S : St) (r : (Int32 × St)) (ho : o = (some (.int r.1), r.2)) (hF : fX11_meet a0 x1 x2 S = some r) : GW z ad o S 0 [(0, .ref (ad a0)), (1, .int x1), (2, .int x2)] [] := by
  unfold fX11_meet at hF
  refine g_aload_n X dX11_meet_0 0 rfl rfl ?_
  refine g_iconst (v := 0) X dX11_meet_1 (by decide) ?_
  refine g_putI X dX11_meet_2 fpX11_1 rfl rfl rfl h0 ?_
  exact (wX11_meet_s5 X a0 x1 x2 h0 (sI S 11 0 a0 (0 : Int32)) r ho hF)
theorem tX11_meet {ad : Nat → Nat} (hI : Inj ad) (l : Launch) (D : va_G) (cyy : Nat → ClassId) (a0 : Nat) (x1 : Int32) (x2 : Int32) (h0 : KT a0 = 11) (S : St) (r : (Int32 × St)) (hF : fX11_meet a0 x1 x2 S = some r) : OkM l yX11_meet cX11_meet 4 (some .int) 7 ad D cyy [.ref (ad a0), .int x1, .int x2] S (some (.int r.1), r.2) := okM_of hI (by decide) (inr_36 _ (List.mem_of_getElem? (i := 10) rfl)) (by show _ ≤ 4; exact Nat.le_of_ble_eq_true rfl) (fun z X => wX11_meet X a0 x1 x2 h0 S r rfl hF)
def fX11_fair_s37 (k25 : Int32 → St → Option (Int32 × St)) (k37 : Int32 → Int32 → Int32 → St → Option (Int32 × St)) (a0 : Nat) (x1 : Int32) (y2 : Int32) (y3 : Int32) (y4 : Int32)  (S : St) : Option (Int32 × St) :=
  if (gA S 29 (a0 + 2) 0) ≤ y4 then (if y3 = 0 then (k25 (y2 + (1 : Int32)) S) else
  (some (y2, S))) else
  (if y3 = 0 then (k37 y2 (0 : Int32) (y4 + (1 : Int32)) S) else
  (if (fX11_bitOf x1 y4 S) = 0 then (k37 y2 (1 : Int32) (y4 + (1 : Int32)) S) else
  ((fX11_ahead a0 y4 y2 S).bind fun r_8 =>
  if (((14 : Int32) + y4) < 0 ∨ 250 ≤ ((14 : Int32) + y4).toNatClampNeg) then none else
  if (gA S 29 (a0 + 2) (((14 : Int32) + y4).toNatClampNeg)) = 0 then none else
  if (r_8 - r_8 / (gA S 29 (a0 + 2) (((14 : Int32) + y4).toNatClampNeg)) * (gA S 29 (a0 + 2) (((14 : Int32) + y4).toNatClampNeg))) = 0 then (k37 y2 (1 : Int32) (y4 + (1 : Int32)) S) else
  (k37 y2 (0 : Int32) (y4 + (1 : Int32)) S))))
def fX11_fair_h37 (k25 : Int32 → St → Option (Int32 × St)) (a0 : Nat) (x1 : Int32) : Nat → Int32 → Int32 → Int32 → St → Option (Int32 × St)
  | 0, _, _, _, _ => none
  | n + 1, y2, y3, y4, S => fX11_fair_s37 k25 (fX11_fair_h37 k25 a0 x1 n) a0 x1 y2 y3 y4 S
def fX11_fair_s25 (k25 : Int32 → St → Option (Int32 × St)) (a0 : Nat) (x1 : Int32) (y2 : Int32)  (S : St) : Option (Int32 × St) :=
  if (2530 : Int32) ≤ y2 then (some ((-1 : Int32), S)) else
  (fX11_fair_h37 k25 a0 x1 NN y2 (1 : Int32) (0 : Int32) S)
def fX11_fair_h25 (a0 : Nat) (x1 : Int32) : Nat → Int32 → St → Option (Int32 × St)
  | 0, _, _ => none
  | n + 1, y2, S => fX11_fair_s25 (fX11_fair_h25 a0 x1 n) a0 x1 y2 S
def fX11_fair_s5 (a0 : Nat) (x1 : Int32)   (S : St) : Option (Int32 × St) :=
  if x1 ≤ 0 then (some ((-1 : Int32), S)) else
  (if x1 < ((1 : Int32) <<< ((gA S 29 (a0 + 2) 0) &&& 31)) then (fX11_fair_h25 a0 x1 NN (0 : Int32) S) else
  (some ((-1 : Int32), S)))
def fX11_fair (a0 : Nat) (x1 : Int32) (S : St) : Option (Int32 × St) :=
  fX11_fair_s5 a0 x1 (sI S 11 0 a0 (0 : Int32))
theorem wX11_fair_s37 {z : Mx} {ad : Nat → Nat} {o : Option Value × St} (X : CxOk z ad RX11 cX11_fair 5 (some .int) 4) (a0 : Nat) (x1 : Int32) (h0 : KT a0 = 11) (y2 : Int32) (y3 : Int32) (y4 : Int32)  (k25 : Int32 → St → Option (Int32 × St)) (k37 : Int32 → Int32 → Int32 → St → Option (Int32 × St))   (S : St) (r : (Int32 × St)) (ho : o = (some (.int r.1), r.2)) (hk25 : ∀ (y2 : Int32) (S : St), k25 y2 S = some r → GW z ad o S 25 [(0, .ref (ad a0)), (1, .int x1), (2, .int y2)] []) (hk37 : ∀ (y2 : Int32) (y3 : Int32) (y4 : Int32) (S : St), k37 y2 y3 y4 S = some r → GW z ad o S 37 [(0, .ref (ad a0)), (1, .int x1), (2, .int y2), (3, .int y3), (4, .int y4)] []) (hF : fX11_fair_s37 k25 k37 a0 x1 y2 y3 y4  S = some r) : GW z ad o S 37 [(0, .ref (ad a0)), (1, .int x1), (2, .int y2), (3, .int y3), (4, .int y4)] [] := by
  unfold fX11_fair_s37 at hF
  refine g_iload X dX11_fair_37 4 rfl ?_
  refine g_aload_n X dX11_fair_39 0 rfl rfl ?_
  refine g_getR (f := 2) X dX11_fair_40 flX11_33 rfl rfl h0 ?_
  refine g_iconst (v := 0) X dX11_fair_43 (by decide) ?_
  refine g_ialdK (j := 0) X dX11_fair_44 kd_29 (on_11_6 h0) (by decide) (by decide) ?_
  refine g_icmp_ge (tgt := 94) X dX11_fair_45 (by decide) (fun c_4 => ?_) (fun c_4 => ?_)
  · rw [if_pos c_4] at hF
    refine g_iload_n X dX11_fair_94 3 rfl rfl ?_
    refine g_if_eq (tgt := 100) X dX11_fair_95 (by decide) (fun c_5 => ?_) (fun c_5 => ?_)
    · rw [if_pos c_5] at hF
      refine g_iinc (v := (y2 + (1 : Int32))) X dX11_fair_100 2 rfl rfl (by decide) (lv' := [(2, .int (y2 + (1 : Int32))), (0, .ref (ad a0)), (1, .int x1), (3, .int y3), (4, .int y4)]) rfl ?_
      refine g_goto (tgt := 25) X dX11_fair_103 (by decide) ?_
      exact g_perm [1, 2, 0] rfl (hk25 (y2 + (1 : Int32)) S hF)
    · rw [if_neg c_5] at hF
      refine g_iload_n X dX11_fair_98 2 rfl rfl ?_
      have hF := Option.some.inj hF
      subst hF
      exact g_iret X dX11_fair_99 ho
  · rw [if_neg c_4] at hF
    refine g_iload_n X dX11_fair_48 3 rfl rfl ?_
    refine g_if_eq (tgt := 86) X dX11_fair_49 (by decide) (fun c_6 => ?_) (fun c_6 => ?_)
    · rw [if_pos c_6] at hF
      refine g_iconst (v := 0) X dX11_fair_86 (by decide) ?_
      refine g_istore_n X dX11_fair_87 rfl (by decide) (lv' := [(3, .int (0 : Int32)), (0, .ref (ad a0)), (1, .int x1), (2, .int y2), (4, .int y4)]) rfl ?_
      refine g_iinc (v := (y4 + (1 : Int32))) X dX11_fair_88 4 rfl rfl (by decide) (lv' := [(4, .int (y4 + (1 : Int32))), (3, .int (0 : Int32)), (0, .ref (ad a0)), (1, .int x1), (2, .int y2)]) rfl ?_
      refine g_goto (tgt := 37) X dX11_fair_91 (by decide) ?_
      exact g_perm [2, 3, 4, 1, 0] rfl (hk37 y2 (0 : Int32) (y4 + (1 : Int32)) S hF)
    · rw [if_neg c_6] at hF
      refine g_iload_n X dX11_fair_52 1 rfl rfl ?_
      refine g_iload X dX11_fair_53 4 rfl ?_
      refine g_callSi (As := [.int x1, .int y4]) X dX11_fair_55 mlX11_236 (fun l D cyy => tX11_bitOf (cx_inj X) l D cyy x1 y4  S) (by decide) rfl rfl (Nat.le_of_ble_eq_true rfl) ?_
      refine g_if_eq (tgt := 82) X dX11_fair_58 (by decide) (fun c_7 => ?_) (fun c_7 => ?_)
      · rw [if_pos c_7] at hF
        refine g_iconst (v := 1) X dX11_fair_82 (by decide) ?_
        refine g_goto (tgt := 87) X dX11_fair_83 (by decide) ?_
        refine g_istore_n X dX11_fair_87 rfl (by decide) (lv' := [(3, .int (1 : Int32)), (0, .ref (ad a0)), (1, .int x1), (2, .int y2), (4, .int y4)]) rfl ?_
        refine g_iinc (v := (y4 + (1 : Int32))) X dX11_fair_88 4 rfl rfl (by decide) (lv' := [(4, .int (y4 + (1 : Int32))), (3, .int (1 : Int32)), (0, .ref (ad a0)), (1, .int x1), (2, .int y2)]) rfl ?_
        refine g_goto (tgt := 37) X dX11_fair_91 (by decide) ?_
        exact g_perm [2, 3, 4, 1, 0] rfl (hk37 y2 (1 : Int32) (y4 + (1 : Int32)) S hF)
      · rw [if_neg c_7] at hF
        refine g_aload_n X dX11_fair_61 0 rfl rfl ?_
        refine g_iload X dX11_fair_62 4 rfl ?_
        refine g_iload_n X dX11_fair_64 2 rfl rfl ?_
        obtain ⟨r_8, q_9, hF⟩ := obind hF
        refine g_callVi (As := [.int y4, .int y2]) X dX11_fair_65 mlX11_258 (fun l D cyy => tX11_ahead (cx_inj X) l D cyy a0 y4 y2 h0 S r_8 q_9) h0 (by decide) rfl rfl (Nat.le_of_ble_eq_true rfl) ?_
        refine g_aload_n X dX11_fair_68 0 rfl rfl ?_
        refine g_getR (f := 2) X dX11_fair_69 flX11_33 rfl rfl h0 ?_
        refine g_bipush (v := 14) X dX11_fair_72 (by decide) ?_
        refine g_iload X dX11_fair_74 4 rfl ?_
        refine g_iadd X dX11_fair_76 ?_
        obtain ⟨e_10, hF⟩ := oguard hF
        refine g_iald X dX11_fair_77 kd_29 (on_11_6 h0) e_10 ?_
        obtain ⟨e_11, hF⟩ := oguard hF
        refine g_irem X dX11_fair_78 e_11 ?_
        refine g_if_ne (tgt := 86) X dX11_fair_79 (by decide) (fun c_12 => ?_) (fun c_12 => ?_)
        · rw [if_neg c_12] at hF
          refine g_iconst (v := 0) X dX11_fair_86 (by decide) ?_
          refine g_istore_n X dX11_fair_87 rfl (by decide) (lv' := [(3, .int (0 : Int32)), (0, .ref (ad a0)), (1, .int x1), (2, .int y2), (4, .int y4)]) rfl ?_
          refine g_iinc (v := (y4 + (1 : Int32))) X dX11_fair_88 4 rfl rfl (by decide) (lv' := [(4, .int (y4 + (1 : Int32))), (3, .int (0 : Int32)), (0, .ref (ad a0)), (1, .int x1), (2, .int y2)]) rfl ?_
          refine g_goto (tgt := 37) X dX11_fair_91 (by decide) ?_
          exact g_perm [2, 3, 4, 1, 0] rfl (hk37 y2 (0 : Int32) (y4 + (1 : Int32)) S hF)
        · rw [if_pos c_12] at hF
          refine g_iconst (v := 1) X dX11_fair_82 (by decide) ?_
          refine g_goto (tgt := 87) X dX11_fair_83 (by decide) ?_
          refine g_istore_n X dX11_fair_87 rfl (by decide) (lv' := [(3, .int (1 : Int32)), (0, .ref (ad a0)), (1, .int x1), (2, .int y2), (4, .int y4)]) rfl ?_
          refine g_iinc (v := (y4 + (1 : Int32))) X dX11_fair_88 4 rfl rfl (by decide) (lv' := [(4, .int (y4 + (1 : Int32))), (3, .int (1 : Int32)), (0, .ref (ad a0)), (1, .int x1), (2, .int y2)]) rfl ?_
          refine g_goto (tgt := 37) X dX11_fair_91 (by decide) ?_
          exact g_perm [2, 3, 4, 1, 0] rfl (hk37 y2 (1 : Int32) (y4 + (1 : Int32)) S hF)
theorem wX11_fair_h37 {z : Mx} {ad : Nat → Nat} {o : Option Value × St} (X : CxOk z ad RX11 cX11_fair 5 (some .int) 4) (a0 : Nat) (x1 : Int32) (h0 : KT a0 = 11) (k25 : Int32 → St → Option (Int32 × St))  (r : (Int32 × St)) (ho : o = (some (.int r.1), r.2)) (hk25 : ∀ (y2 : Int32) (S : St), k25 y2 S = some r → GW z ad o S 25 [(0, .ref (ad a0)), (1, .int x1), (2, .int y2)] []) : ∀ (n : Nat) (y2 : Int32) (y3 : Int32) (y4 : Int32) (S : St), fX11_fair_h37 k25 a0 x1 n y2 y3 y4 S = some r → GW z ad o S 37 [(0, .ref (ad a0)), (1, .int x1), (2, .int y2), (3, .int y3), (4, .int y4)] [] := by
  intro n
  induction n with
  | zero => intro y2 y3 y4 S  hF; cases hF
  | succ n ih => intro y2 y3 y4 S  hF; exact wX11_fair_s37 X a0 x1 h0 y2 y3 y4 k25 (fX11_fair_h37 k25 a0 x1 n)  S r ho hk25 ih hF
theorem wX11_fair_s25 {z : Mx} {ad : Nat → Nat} {o : Option Value × St} (X : CxOk z ad RX11 cX11_fair 5 (some .int) 4) (a0 : Nat) (x1 : Int32) (h0 : KT a0 = 11) (y2 : Int32)  (k25 : Int32 → St → Option (Int32 × St))   (S : St) (r : (Int32 × St)) (ho : o = (some (.int r.1), r.2)) (hk25 : ∀ (y2 : Int32) (S : St), k25 y2 S = some r → GW z ad o S 25 [(0, .ref (ad a0)), (1, .int x1), (2, .int y2)] []) (hF : fX11_fair_s25 k25 a0 x1 y2  S = some r) : GW z ad o S 25 [(0, .ref (ad a0)), (1, .int x1), (2, .int y2)] [] := by
  unfold fX11_fair_s25 at hF
  refine g_iload_n X dX11_fair_25 2 rfl rfl ?_
  refine g_sipush (v := 2530) X dX11_fair_26 (by decide) ?_
  refine g_icmp_ge (tgt := 106) X dX11_fair_29 (by decide) (fun c_3 => ?_) (fun c_3 => ?_)
  · rw [if_pos c_3] at hF
    refine g_iconst (v := -1) X dX11_fair_106 (by decide) ?_
    have hF := Option.some.inj hF
    subst hF
    exact g_iret X dX11_fair_107 ho
  · rw [if_neg c_3] at hF
    refine g_iconst (v := 1) X dX11_fair_32 (by decide) ?_
    refine g_istore_n X dX11_fair_33 rfl (by decide) (lv' := [(3, .int (1 : Int32)), (0, .ref (ad a0)), (1, .int x1), (2, .int y2)]) rfl ?_
    refine g_iconst (v := 0) X dX11_fair_34 (by decide) ?_
    refine g_istore X dX11_fair_35 (by decide) (lv' := [(4, .int (0 : Int32)), (3, .int (1 : Int32)), (0, .ref (ad a0)), (1, .int x1), (2, .int y2)]) rfl ?_
    exact g_perm [2, 3, 4, 1, 0] rfl (wX11_fair_h37 X a0 x1 h0 k25 r ho hk25 NN y2 (1 : Int32) (0 : Int32) S hF)
theorem wX11_fair_h25 {z : Mx} {ad : Nat → Nat} {o : Option Value × St} (X : CxOk z ad RX11 cX11_fair 5 (some .int) 4) (a0 : Nat) (x1 : Int32) (h0 : KT a0 = 11)  (r : (Int32 × St)) (ho : o = (some (.int r.1), r.2)) : ∀ (n : Nat) (y2 : Int32) (S : St), fX11_fair_h25 a0 x1 n y2 S = some r → GW z ad o S 25 [(0, .ref (ad a0)), (1, .int x1), (2, .int y2)] [] := by
  intro n
  induction n with
  | zero => intro y2 S  hF; cases hF
  | succ n ih => intro y2 S  hF; exact wX11_fair_s25 X a0 x1 h0 y2 (fX11_fair_h25 a0 x1 n)  S r ho ih hF
theorem wX11_fair_s5 {z : Mx} {ad : Nat → Nat} {o : Option Value × St} (X : CxOk z ad RX11 cX11_fair 5 (some .int) 4) (a0 : Nat) (x1 : Int32) (h0 : KT a0 = 11)     (S : St) (r : (Int32 × St)) (ho : o = (some (.int r.1), r.2)) (hF : fX11_fair_s5 a0 x1   S = some r) : GW z ad o S 5 [(0, .ref (ad a0)), (1, .int x1)] [] := by
  unfold fX11_fair_s5 at hF
  refine g_iload_n X dX11_fair_5 1 rfl rfl ?_
  refine g_if_le (tgt := 21) X dX11_fair_6 (by decide) (fun c_1 => ?_) (fun c_1 => ?_)
  · rw [if_pos c_1] at hF
    refine g_iconst (v := -1) X dX11_fair_21 (by decide) ?_
    have hF := Option.some.inj hF
    subst hF
    exact g_iret X dX11_fair_22 ho
  · rw [if_neg c_1] at hF
    refine g_iload_n X dX11_fair_9 1 rfl rfl ?_
    refine g_iconst (v := 1) X dX11_fair_10 (by decide) ?_
    refine g_aload_n X dX11_fair_11 0 rfl rfl ?_
    refine g_getR (f := 2) X dX11_fair_12 flX11_33 rfl rfl h0 ?_
    refine g_iconst (v := 0) X dX11_fair_15 (by decide) ?_
    refine g_ialdK (j := 0) X dX11_fair_16 kd_29 (on_11_6 h0) (by decide) (by decide) ?_
    refine g_ishl X dX11_fair_17 ?_
    refine g_icmp_lt (tgt := 23) X dX11_fair_18 (by decide) (fun c_2 => ?_) (fun c_2 => ?_)
    · rw [if_pos c_2] at hF
      refine g_iconst (v := 0) X dX11_fair_23 (by decide) ?_
      refine g_istore_n X dX11_fair_24 rfl (by decide) (lv' := [(2, .int (0 : Int32)), (0, .ref (ad a0)), (1, .int x1)]) rfl ?_
      exact g_perm [1, 2, 0] rfl (wX11_fair_h25 X a0 x1 h0 r ho NN (0 : Int32) S hF)
    · rw [if_neg c_2] at hF
      refine g_iconst (v := -1) X dX11_fair_21 (by decide) ?_
      have hF := Option.some.inj hF
      subst hF
      exact g_iret X dX11_fair_22 ho
theorem wX11_fair {z : Mx} {ad : Nat → Nat} {o : Option Value × St} (X : CxOk z ad RX11 cX11_fair 5 (some .int) 4) (a0 : Nat) (x1 : Int32) (h0 : KT a0 = 11) (S : St) (r : (Int32 × St)) (ho : o = (some (.int r.1), r.2)) (hF : fX11_fair a0 x1 S = some r) : GW z ad o S 0 [(0, .ref (ad a0)), (1, .int x1)] [] := by
  unfold fX11_fair at hF
  refine g_aload_n X dX11_fair_0 0 rfl rfl ?_
  refine g_iconst (v := 0) X dX11_fair_1 (by decide) ?_
  refine g_putI X dX11_fair_2 fpX11_1 rfl rfl rfl h0 ?_
  exact (wX11_fair_s5 X a0 x1 h0 (sI S 11 0 a0 (0 : Int32)) r ho hF)
theorem tX11_fair {ad : Nat → Nat} (hI : Inj ad) (l : Launch) (D : va_G) (cyy : Nat → ClassId) (a0 : Nat) (x1 : Int32) (h0 : KT a0 = 11) (S : St) (r : (Int32 × St)) (hF : fX11_fair a0 x1 S = some r) : OkM l yX11_fair cX11_fair 5 (some .int) 4 ad D cyy [.ref (ad a0), .int x1] S (some (.int r.1), r.2) := okM_of hI (by decide) (inr_37 _ (List.mem_of_getElem? (i := 4) rfl)) (by show _ ≤ 5; exact Nat.le_of_ble_eq_true rfl) (fun z X => wX11_fair X a0 x1 h0 S r rfl hF)
def fX11_crowd_s87 (k22 : Int32 → Int32 → St → Option (Int32 × St)) (a0 : Nat) (x1 : Int32) (y2 : Int32) (y3 : Int32)  (S : St) : Option (Int32 × St) :=
  k22 y2 (y3 + (1 : Int32)) S
def fX11_crowd_s33 (k22 : Int32 → Int32 → St → Option (Int32 × St)) (k33 : Int32 → Int32 → Int32 → Int32 → St → Option (Int32 × St)) (a0 : Nat) (x1 : Int32) (y2 : Int32) (y3 : Int32) (y4 : Int32) (y5 : Int32)  (S : St) : Option (Int32 × St) :=
  if (gA S 29 (a0 + 2) 1) ≤ y5 then (if y2 < y4 then (fX11_crowd_s87 k22 a0 x1 y4 y3 (sI S 11 24 a0 y3)) else
  (fX11_crowd_s87 k22 a0 x1 y2 y3 S)) else
  ((fX11_fallsIn a0 y5 y3 S).bind fun r_5 =>
  if r_5 = 0 then (k33 y2 y3 (y4 + (0 : Int32)) (y5 + (1 : Int32)) S) else
  (k33 y2 y3 (y4 + (1 : Int32)) (y5 + (1 : Int32)) S))
def fX11_crowd_h33 (k22 : Int32 → Int32 → St → Option (Int32 × St)) (a0 : Nat) (x1 : Int32) : Nat → Int32 → Int32 → Int32 → Int32 → St → Option (Int32 × St)
  | 0, _, _, _, _, _ => none
  | n + 1, y2, y3, y4, y5, S => fX11_crowd_s33 k22 (fX11_crowd_h33 k22 a0 x1 n) a0 x1 y2 y3 y4 y5 S
def fX11_crowd_s22 (k22 : Int32 → Int32 → St → Option (Int32 × St)) (a0 : Nat) (x1 : Int32) (y2 : Int32) (y3 : Int32)  (S : St) : Option (Int32 × St) :=
  if x1 < y3 then (some (y2, S)) else
  (fX11_crowd_h33 k22 a0 x1 NN y2 y3 (0 : Int32) (0 : Int32) S)
def fX11_crowd_h22 (a0 : Nat) (x1 : Int32) : Nat → Int32 → Int32 → St → Option (Int32 × St)
  | 0, _, _, _ => none
  | n + 1, y2, y3, S => fX11_crowd_s22 (fX11_crowd_h22 a0 x1 n) a0 x1 y2 y3 S
def fX11_crowd_s5 (a0 : Nat) (x1 : Int32)   (S : St) : Option (Int32 × St) :=
  if (fX11_isIn x1 (0 : Int32) (999 : Int32) S) = 0 then (some ((-1 : Int32), S)) else
  (fX11_crowd_h22 a0 x1 NN (-1 : Int32) (0 : Int32) S)
def fX11_crowd (a0 : Nat) (x1 : Int32) (S : St) : Option (Int32 × St) :=
  fX11_crowd_s5 a0 x1 (sI S 11 0 a0 (0 : Int32))
theorem wX11_crowd_s87 {z : Mx} {ad : Nat → Nat} {o : Option Value × St} (X : CxOk z ad RX11 cX11_crowd 6 (some .int) 7) (a0 : Nat) (x1 : Int32) (h0 : KT a0 = 11) (y2 : Int32) (y3 : Int32)  (k22 : Int32 → Int32 → St → Option (Int32 × St))   (S : St) (r : (Int32 × St)) (ho : o = (some (.int r.1), r.2)) (hk22 : ∀ (y2 : Int32) (y3 : Int32) (S : St), k22 y2 y3 S = some r → GW z ad o S 22 [(0, .ref (ad a0)), (1, .int x1), (2, .int y2), (3, .int y3)] []) (hF : fX11_crowd_s87 k22 a0 x1 y2 y3  S = some r) : GW z ad o S 87 [(0, .ref (ad a0)), (1, .int x1), (2, .int y2), (3, .int y3)] [] := by
  unfold fX11_crowd_s87 at hF
  refine g_iinc (v := (y3 + (1 : Int32))) X dX11_crowd_87 3 rfl rfl (by decide) (lv' := [(3, .int (y3 + (1 : Int32))), (0, .ref (ad a0)), (1, .int x1), (2, .int y2)]) rfl ?_
  refine g_goto (tgt := 22) X dX11_crowd_90 (by decide) ?_
  exact g_perm [1, 2, 3, 0] rfl (hk22 y2 (y3 + (1 : Int32)) S hF)
theorem wX11_crowd_s33 {z : Mx} {ad : Nat → Nat} {o : Option Value × St} (X : CxOk z ad RX11 cX11_crowd 6 (some .int) 7) (a0 : Nat) (x1 : Int32) (h0 : KT a0 = 11) (y2 : Int32) (y3 : Int32) (y4 : Int32) (y5 : Int32)  (k22 : Int32 → Int32 → St → Option (Int32 × St)) (k33 : Int32 → Int32 → Int32 → Int32 → St → Option (Int32 × St))   (S : St) (r : (Int32 × St)) (ho : o = (some (.int r.1), r.2)) (hk22 : ∀ (y2 : Int32) (y3 : Int32) (S : St), k22 y2 y3 S = some r → GW z ad o S 22 [(0, .ref (ad a0)), (1, .int x1), (2, .int y2), (3, .int y3)] []) (hk33 : ∀ (y2 : Int32) (y3 : Int32) (y4 : Int32) (y5 : Int32) (S : St), k33 y2 y3 y4 y5 S = some r → GW z ad o S 33 [(0, .ref (ad a0)), (1, .int x1), (2, .int y2), (3, .int y3), (4, .int y4), (5, .int y5)] []) (hF : fX11_crowd_s33 k22 k33 a0 x1 y2 y3 y4 y5  S = some r) : GW z ad o S 33 [(0, .ref (ad a0)), (1, .int x1), (2, .int y2), (3, .int y3), (4, .int y4), (5, .int y5)] [] := by
  unfold fX11_crowd_s33 at hF
  refine g_iload X dX11_crowd_33 5 rfl ?_
  refine g_aload_n X dX11_crowd_35 0 rfl rfl ?_
  refine g_getR (f := 2) X dX11_crowd_36 flX11_33 rfl rfl h0 ?_
  refine g_iconst (v := 1) X dX11_crowd_39 (by decide) ?_
  refine g_ialdK (j := 1) X dX11_crowd_40 kd_29 (on_11_6 h0) (by decide) (by decide) ?_
  refine g_icmp_ge (tgt := 70) X dX11_crowd_41 (by decide) (fun c_3 => ?_) (fun c_3 => ?_)
  · rw [if_pos c_3] at hF
    refine g_iload X dX11_crowd_70 4 rfl ?_
    refine g_iload_n X dX11_crowd_72 2 rfl rfl ?_
    refine g_icmp_gt (tgt := 79) X dX11_crowd_73 (by decide) (fun c_4 => ?_) (fun c_4 => ?_)
    · rw [if_pos c_4] at hF
      refine g_iload X dX11_crowd_79 4 rfl ?_
      refine g_istore_n X dX11_crowd_81 rfl (by decide) (lv' := [(2, .int y4), (0, .ref (ad a0)), (1, .int x1), (3, .int y3), (4, .int y4), (5, .int y5)]) rfl ?_
      refine g_aload_n X dX11_crowd_82 1 rfl rfl ?_
      refine g_iload_n X dX11_crowd_83 3 rfl rfl ?_
      refine g_putI X dX11_crowd_84 fpX11_56 rfl rfl rfl h0 ?_
      exact g_perm [1, 2, 0, 3] rfl (wX11_crowd_s87 X a0 x1 h0 y4 y3 k22 (sI S 11 24 a0 y3) r ho hk22 hF)
    · rw [if_neg c_4] at hF
      refine g_goto (tgt := 87) X dX11_crowd_76 (by decide) ?_
      exact g_perm [0, 1, 2, 3] rfl (wX11_crowd_s87 X a0 x1 h0 y2 y3 k22 S r ho hk22 hF)
  · rw [if_neg c_3] at hF
    refine g_iload X dX11_crowd_44 4 rfl ?_
    refine g_aload_n X dX11_crowd_46 0 rfl rfl ?_
    refine g_iload X dX11_crowd_47 5 rfl ?_
    refine g_iload_n X dX11_crowd_49 3 rfl rfl ?_
    obtain ⟨r_5, q_6, hF⟩ := obind hF
    refine g_callVi (As := [.int y5, .int y3]) X dX11_crowd_50 mlX11_282 (fun l D cyy => tX11_fallsIn (cx_inj X) l D cyy a0 y5 y3 h0 S r_5 q_6) h0 (by decide) rfl rfl (Nat.le_of_ble_eq_true rfl) ?_
    refine g_if_eq (tgt := 60) X dX11_crowd_53 (by decide) (fun c_7 => ?_) (fun c_7 => ?_)
    · rw [if_pos c_7] at hF
      refine g_iconst (v := 0) X dX11_crowd_60 (by decide) ?_
      refine g_iadd X dX11_crowd_61 ?_
      refine g_istore X dX11_crowd_62 (by decide) (lv' := [(4, .int (y4 + (0 : Int32))), (0, .ref (ad a0)), (1, .int x1), (2, .int y2), (3, .int y3), (5, .int y5)]) rfl ?_
      refine g_iinc (v := (y5 + (1 : Int32))) X dX11_crowd_64 5 rfl rfl (by decide) (lv' := [(5, .int (y5 + (1 : Int32))), (4, .int (y4 + (0 : Int32))), (0, .ref (ad a0)), (1, .int x1), (2, .int y2), (3, .int y3)]) rfl ?_
      refine g_goto (tgt := 33) X dX11_crowd_67 (by decide) ?_
      exact g_perm [2, 3, 4, 5, 1, 0] rfl (hk33 y2 y3 (y4 + (0 : Int32)) (y5 + (1 : Int32)) S hF)
    · rw [if_neg c_7] at hF
      refine g_iconst (v := 1) X dX11_crowd_56 (by decide) ?_
      refine g_goto (tgt := 61) X dX11_crowd_57 (by decide) ?_
      refine g_iadd X dX11_crowd_61 ?_
      refine g_istore X dX11_crowd_62 (by decide) (lv' := [(4, .int (y4 + (1 : Int32))), (0, .ref (ad a0)), (1, .int x1), (2, .int y2), (3, .int y3), (5, .int y5)]) rfl ?_
      refine g_iinc (v := (y5 + (1 : Int32))) X dX11_crowd_64 5 rfl rfl (by decide) (lv' := [(5, .int (y5 + (1 : Int32))), (4, .int (y4 + (1 : Int32))), (0, .ref (ad a0)), (1, .int x1), (2, .int y2), (3, .int y3)]) rfl ?_
      refine g_goto (tgt := 33) X dX11_crowd_67 (by decide) ?_
      exact g_perm [2, 3, 4, 5, 1, 0] rfl (hk33 y2 y3 (y4 + (1 : Int32)) (y5 + (1 : Int32)) S hF)
theorem wX11_crowd_h33 {z : Mx} {ad : Nat → Nat} {o : Option Value × St} (X : CxOk z ad RX11 cX11_crowd 6 (some .int) 7) (a0 : Nat) (x1 : Int32) (h0 : KT a0 = 11) (k22 : Int32 → Int32 → St → Option (Int32 × St))  (r : (Int32 × St)) (ho : o = (some (.int r.1), r.2)) (hk22 : ∀ (y2 : Int32) (y3 : Int32) (S : St), k22 y2 y3 S = some r → GW z ad o S 22 [(0, .ref (ad a0)), (1, .int x1), (2, .int y2), (3, .int y3)] []) : ∀ (n : Nat) (y2 : Int32) (y3 : Int32) (y4 : Int32) (y5 : Int32) (S : St), fX11_crowd_h33 k22 a0 x1 n y2 y3 y4 y5 S = some r → GW z ad o S 33 [(0, .ref (ad a0)), (1, .int x1), (2, .int y2), (3, .int y3), (4, .int y4), (5, .int y5)] [] := by
  intro n
  induction n with
  | zero => intro y2 y3 y4 y5 S  hF; cases hF
  | succ n ih => intro y2 y3 y4 y5 S  hF; exact wX11_crowd_s33 X a0 x1 h0 y2 y3 y4 y5 k22 (fX11_crowd_h33 k22 a0 x1 n)  S r ho hk22 ih hF
theorem wX11_crowd_s22 {z : Mx} {ad : Nat → Nat} {o : Option Value × St} (X : CxOk z ad RX11 cX11_crowd 6 (some .int) 7) (a0 : Nat) (x1 : Int32) (h0 : KT a0 = 11) (y2 : Int32) (y3 : Int32)  (k22 : Int32 → Int32 → St → Option (Int32 × St))   (S : St) (r : (Int32 × St)) (ho : o = (some (.int r.1), r.2)) (hk22 : ∀ (y2 : Int32) (y3 : Int32) (S : St), k22 y2 y3 S = some r → GW z ad o S 22 [(0, .ref (ad a0)), (1, .int x1), (2, .int y2), (3, .int y3)] []) (hF : fX11_crowd_s22 k22 a0 x1 y2 y3  S = some r) : GW z ad o S 22 [(0, .ref (ad a0)), (1, .int x1), (2, .int y2), (3, .int y3)] [] := by
  unfold fX11_crowd_s22 at hF
  refine g_iload_n X dX11_crowd_22 3 rfl rfl ?_
  refine g_iload_n X dX11_crowd_23 1 rfl rfl ?_
  refine g_icmp_gt (tgt := 93) X dX11_crowd_24 (by decide) (fun c_2 => ?_) (fun c_2 => ?_)
  · rw [if_pos c_2] at hF
    refine g_iload_n X dX11_crowd_93 2 rfl rfl ?_
    have hF := Option.some.inj hF
    subst hF
    exact g_iret X dX11_crowd_94 ho
  · rw [if_neg c_2] at hF
    refine g_iconst (v := 0) X dX11_crowd_27 (by decide) ?_
    refine g_istore X dX11_crowd_28 (by decide) (lv' := [(4, .int (0 : Int32)), (0, .ref (ad a0)), (1, .int x1), (2, .int y2), (3, .int y3)]) rfl ?_
    refine g_iconst (v := 0) X dX11_crowd_30 (by decide) ?_
    refine g_istore X dX11_crowd_31 (by decide) (lv' := [(5, .int (0 : Int32)), (4, .int (0 : Int32)), (0, .ref (ad a0)), (1, .int x1), (2, .int y2), (3, .int y3)]) rfl ?_
    exact g_perm [2, 3, 4, 5, 1, 0] rfl (wX11_crowd_h33 X a0 x1 h0 k22 r ho hk22 NN y2 y3 (0 : Int32) (0 : Int32) S hF)
theorem wX11_crowd_h22 {z : Mx} {ad : Nat → Nat} {o : Option Value × St} (X : CxOk z ad RX11 cX11_crowd 6 (some .int) 7) (a0 : Nat) (x1 : Int32) (h0 : KT a0 = 11)  (r : (Int32 × St)) (ho : o = (some (.int r.1), r.2)) : ∀ (n : Nat) (y2 : Int32) (y3 : Int32) (S : St), fX11_crowd_h22 a0 x1 n y2 y3 S = some r → GW z ad o S 22 [(0, .ref (ad a0)), (1, .int x1), (2, .int y2), (3, .int y3)] [] := by
  intro n
  induction n with
  | zero => intro y2 y3 S  hF; cases hF
  | succ n ih => intro y2 y3 S  hF; exact wX11_crowd_s22 X a0 x1 h0 y2 y3 (fX11_crowd_h22 a0 x1 n)  S r ho ih hF
theorem wX11_crowd_s5 {z : Mx} {ad : Nat → Nat} {o : Option Value × St} (X : CxOk z ad RX11 cX11_crowd 6 (some .int) 7) (a0 : Nat) (x1 : Int32) (h0 : KT a0 = 11)     (S : St) (r : (Int32 × St)) (ho : o = (some (.int r.1), r.2)) (hF : fX11_crowd_s5 a0 x1   S = some r) : GW z ad o S 5 [(0, .ref (ad a0)), (1, .int x1)] [] := by
  unfold fX11_crowd_s5 at hF
  refine g_iload_n X dX11_crowd_5 1 rfl rfl ?_
  refine g_iconst (v := 0) X dX11_crowd_6 (by decide) ?_
  refine g_sipush (v := 999) X dX11_crowd_7 (by decide) ?_
  refine g_callSi (As := [.int x1, .int (0 : Int32), .int (999 : Int32)]) X dX11_crowd_10 mlX11_173 (fun l D cyy => tX11_isIn (cx_inj X) l D cyy x1 (0 : Int32) (999 : Int32)  S) (by decide) rfl rfl (Nat.le_of_ble_eq_true rfl) ?_
  refine g_if_ne (tgt := 18) X dX11_crowd_13 (by decide) (fun c_1 => ?_) (fun c_1 => ?_)
  · rw [if_neg c_1] at hF
    refine g_iconst (v := -1) X dX11_crowd_18 (by decide) ?_
    refine g_istore_n X dX11_crowd_19 rfl (by decide) (lv' := [(2, .int (-1 : Int32)), (0, .ref (ad a0)), (1, .int x1)]) rfl ?_
    refine g_iconst (v := 0) X dX11_crowd_20 (by decide) ?_
    refine g_istore_n X dX11_crowd_21 rfl (by decide) (lv' := [(3, .int (0 : Int32)), (2, .int (-1 : Int32)), (0, .ref (ad a0)), (1, .int x1)]) rfl ?_
    exact g_perm [2, 3, 1, 0] rfl (wX11_crowd_h22 X a0 x1 h0 r ho NN (-1 : Int32) (0 : Int32) S hF)
  · rw [if_pos c_1] at hF
    refine g_iconst (v := -1) X dX11_crowd_16 (by decide) ?_
    have hF := Option.some.inj hF
    subst hF
    exact g_iret X dX11_crowd_17 ho
theorem wX11_crowd {z : Mx} {ad : Nat → Nat} {o : Option Value × St} (X : CxOk z ad RX11 cX11_crowd 6 (some .int) 7) (a0 : Nat) (x1 : Int32) (h0 : KT a0 = 11) (S : St) (r : (Int32 × St)) (ho : o = (some (.int r.1), r.2)) (hF : fX11_crowd a0 x1 S = some r) : GW z ad o S 0 [(0, .ref (ad a0)), (1, .int x1)] [] := by
  unfold fX11_crowd at hF
  refine g_aload_n X dX11_crowd_0 0 rfl rfl ?_
  refine g_iconst (v := 0) X dX11_crowd_1 (by decide) ?_
  refine g_putI X dX11_crowd_2 fpX11_1 rfl rfl rfl h0 ?_
  exact (wX11_crowd_s5 X a0 x1 h0 (sI S 11 0 a0 (0 : Int32)) r ho hF)
theorem tX11_crowd {ad : Nat → Nat} (hI : Inj ad) (l : Launch) (D : va_G) (cyy : Nat → ClassId) (a0 : Nat) (x1 : Int32) (h0 : KT a0 = 11) (S : St) (r : (Int32 × St)) (hF : fX11_crowd a0 x1 S = some r) : OkM l yX11_crowd cX11_crowd 6 (some .int) 7 ad D cyy [.ref (ad a0), .int x1] S (some (.int r.1), r.2) := okM_of hI (by decide) (inr_43 _ (List.mem_of_getElem? (i := 23) rfl)) (by show _ ≤ 6; exact Nat.le_of_ble_eq_true rfl) (fun z X => wX11_crowd X a0 x1 h0 S r rfl hF)
def fX11_crowdOn_s5 (a0 : Nat)   (S : St) : (Int32 × St) :=
  ((gI S 11 24 a0), S)
def fX11_crowdOn (a0 : Nat) (S : St) : (Int32 × St) :=
  fX11_crowdOn_s5 a0 (sI S 11 0 a0 (0 : Int32))
theorem wX11_crowdOn_s5 {z : Mx} {ad : Nat → Nat} {o : Option Value × St} (X : CxOk z ad RX11 cX11_crowdOn 1 (some .int) 1) (a0 : Nat) (h0 : KT a0 = 11)     (S : St) (r : (Int32 × St)) (ho : o = (some (.int r.1), r.2)) (hF : fX11_crowdOn_s5 a0   S = r) : GW z ad o S 5 [(0, .ref (ad a0))] [] := by
  unfold fX11_crowdOn_s5 at hF
  refine g_aload_n X dX11_crowdOn_5 0 rfl rfl ?_
  refine g_getI X dX11_crowdOn_6 flX11_56 rfl h0 ?_
  subst hF
  exact g_iret X dX11_crowdOn_9 ho
theorem wX11_crowdOn {z : Mx} {ad : Nat → Nat} {o : Option Value × St} (X : CxOk z ad RX11 cX11_crowdOn 1 (some .int) 1) (a0 : Nat) (h0 : KT a0 = 11) (S : St) (r : (Int32 × St)) (ho : o = (some (.int r.1), r.2)) (hF : fX11_crowdOn a0 S = r) : GW z ad o S 0 [(0, .ref (ad a0))] [] := by
  unfold fX11_crowdOn at hF
  refine g_aload_n X dX11_crowdOn_0 0 rfl rfl ?_
  refine g_iconst (v := 0) X dX11_crowdOn_1 (by decide) ?_
  refine g_putI X dX11_crowdOn_2 fpX11_1 rfl rfl rfl h0 ?_
  exact (wX11_crowdOn_s5 X a0 h0 (sI S 11 0 a0 (0 : Int32)) r ho hF)
theorem tX11_crowdOn {ad : Nat → Nat} (hI : Inj ad) (l : Launch) (D : va_G) (cyy : Nat → ClassId) (a0 : Nat) (h0 : KT a0 = 11) (S : St) : OkM l yX11_crowdOn cX11_crowdOn 1 (some .int) 1 ad D cyy [.ref (ad a0)] S (some (.int (fX11_crowdOn a0 S).1), (fX11_crowdOn a0 S).2) := okM_of hI (by decide) (inr_44 _ (List.mem_of_getElem? (i := 8) rfl)) (by show _ ≤ 1; exact Nat.le_of_ble_eq_true rfl) (fun z X => wX11_crowdOn X a0 h0 S _ rfl rfl)
def fX11_common_s13 (k4 : Int32 → Int32 → Option Int32) (x0 : Int32) (x1 : Int32) (y3 : Int32) (y4 : Int32)  (S : St) : Option Int32 :=
  k4 y3 y4
def fX11_common_s4 (k4 : Int32 → Int32 → Option Int32) (x0 : Int32) (x1 : Int32) (y2 : Int32) (y3 : Int32)  (S : St) : Option Int32 :=
  if y3 = 0 then (some y2) else
  (if y3 = 0 then none else
  fX11_common_s13 k4 x0 x1 y3 (y2 - y2 / y3 * y3) S)
def fX11_common_h4 (x0 : Int32) (x1 : Int32) : Nat → Int32 → Int32 → St → Option Int32
  | 0, _, _, _ => none
  | n + 1, y2, y3, S => fX11_common_s4 (fun y2 y3 => fX11_common_h4 x0 x1 n y2 y3 S) x0 x1 y2 y3 S
def fX11_common (x0 : Int32) (x1 : Int32) (S : St) : Option Int32 :=
  fX11_common_h4 x0 x1 NN x0 x1 S
theorem wX11_common_s13 {z : Mx} {ad : Nat → Nat} {o : Option Value × St} (X : CxOk z ad RX11 cX11_common 5 (some .int) 1) (x0 : Int32) (x1 : Int32)  (y3 : Int32) (y4 : Int32)  (k4 : Int32 → Int32 → Option Int32)   (S : St) (r : Int32) (ho : o = (some (.int r), S)) (hk4 : ∀ (y2 : Int32) (y3 : Int32), k4 y2 y3 = some r → GW z ad o S 4 [(2, .int y2), (3, .int y3)] []) (hF : fX11_common_s13 k4 x0 x1 y3 y4  S = some r) : GW z ad o S 13 [(3, .int y3), (4, .int y4)] [] := by
  unfold fX11_common_s13 at hF
  refine g_iload_n X dX11_common_13 0 rfl rfl ?_
  refine g_istore_n X dX11_common_14 rfl (by decide) (lv' := [(2, .int y3), (3, .int y3), (4, .int y4)]) rfl ?_
  refine g_iload X dX11_common_15 2 rfl ?_
  refine g_istore_n X dX11_common_17 rfl (by decide) (lv' := [(3, .int y4), (2, .int y3), (4, .int y4)]) rfl ?_
  refine g_goto (tgt := 4) X dX11_common_18 (by decide) ?_
  exact g_perm [1, 0] rfl (hk4 y3 y4 hF)
theorem wX11_common_s4 {z : Mx} {ad : Nat → Nat} {o : Option Value × St} (X : CxOk z ad RX11 cX11_common 5 (some .int) 1) (x0 : Int32) (x1 : Int32)  (y2 : Int32) (y3 : Int32)  (k4 : Int32 → Int32 → Option Int32)   (S : St) (r : Int32) (ho : o = (some (.int r), S)) (hk4 : ∀ (y2 : Int32) (y3 : Int32), k4 y2 y3 = some r → GW z ad o S 4 [(2, .int y2), (3, .int y3)] []) (hF : fX11_common_s4 k4 x0 x1 y2 y3  S = some r) : GW z ad o S 4 [(2, .int y2), (3, .int y3)] [] := by
  unfold fX11_common_s4 at hF
  refine g_iload_n X dX11_common_4 1 rfl rfl ?_
  refine g_if_eq (tgt := 21) X dX11_common_5 (by decide) (fun c_1 => ?_) (fun c_1 => ?_)
  · rw [if_pos c_1] at hF
    refine g_iload_n X dX11_common_21 0 rfl rfl ?_
    have hF := Option.some.inj hF
    subst hF
    exact g_iret X dX11_common_22 ho
  · rw [if_neg c_1] at hF
    refine g_iload_n X dX11_common_8 0 rfl rfl ?_
    refine g_iload_n X dX11_common_9 1 rfl rfl ?_
    obtain ⟨e_2, hF⟩ := oguard hF
    refine g_irem X dX11_common_10 e_2 ?_
    refine g_istore X dX11_common_11 (by decide) (lv' := [(4, .int (y2 - y2 / y3 * y3)), (2, .int y2), (3, .int y3)]) rfl ?_
    exact g_perm [2, 0] rfl (wX11_common_s13 X x0 x1 y3 (y2 - y2 / y3 * y3) k4 S r ho hk4 hF)
theorem wX11_common_h4 {z : Mx} {ad : Nat → Nat} {o : Option Value × St} (X : CxOk z ad RX11 cX11_common 5 (some .int) 1) (x0 : Int32) (x1 : Int32)   (S : St) (r : Int32) (ho : o = (some (.int r), S)) : ∀ (n : Nat) (y2 : Int32) (y3 : Int32), fX11_common_h4 x0 x1 n y2 y3 S = some r → GW z ad o S 4 [(2, .int y2), (3, .int y3)] [] := by
  intro n
  induction n with
  | zero => intro y2 y3  hF; cases hF
  | succ n ih => intro y2 y3  hF; exact wX11_common_s4 X x0 x1  y2 y3 (fun y2 y3 => fX11_common_h4 x0 x1 n y2 y3 S)  S r ho (fun y2 y3 hF => ih y2 y3  hF) hF
theorem wX11_common {z : Mx} {ad : Nat → Nat} {o : Option Value × St} (X : CxOk z ad RX11 cX11_common 5 (some .int) 1) (x0 : Int32) (x1 : Int32)  (S : St) (r : Int32) (ho : o = (some (.int r), S)) (hF : fX11_common x0 x1 S = some r) : GW z ad o S 0 [(0, .int x0), (1, .int x1)] [] := by
  unfold fX11_common at hF
  refine g_iload_n X dX11_common_0 0 rfl rfl ?_
  refine g_istore_n X dX11_common_1 rfl (by decide) (lv' := [(2, .int x0), (0, .int x0), (1, .int x1)]) rfl ?_
  refine g_iload_n X dX11_common_2 2 rfl rfl ?_
  refine g_istore_n X dX11_common_3 rfl (by decide) (lv' := [(3, .int x1), (2, .int x0), (0, .int x0), (1, .int x1)]) rfl ?_
  exact g_perm [1, 0] rfl (wX11_common_h4 X x0 x1 S r ho NN x0 x1 hF)
theorem tX11_common {ad : Nat → Nat} (hI : Inj ad) (l : Launch) (D : va_G) (cyy : Nat → ClassId) (x0 : Int32) (x1 : Int32)  (S : St) (r : Int32) (hF : fX11_common x0 x1 S = some r) : OkM l yX11_common cX11_common 5 (some .int) 1 ad D cyy [.int x0, .int x1] S (some (.int r), S) := okM_of hI (by decide) (inr_38 _ (List.mem_of_getElem? (i := 9) rfl)) (by show _ ≤ 5; exact Nat.le_of_ble_eq_true rfl) (fun z X => wX11_common X x0 x1  S r rfl hF)
def fX11_drift_s79 (a0 : Nat) (x1 : Int32) (x2 : Int32) (y3 : Int32) (y4 : Int32)  (S : St) : Option (Int32 × St) :=
  if x2 = 0 then ((fX11_common y4 (fX11_absolute y3 S) S).bind fun r_13 =>
  if r_13 = 0 then none else
  some ((y3 / r_13), S)) else
  ((fX11_common y4 (fX11_absolute y3 S) S).bind fun r_10 =>
  if r_10 = 0 then none else
  some ((y4 / r_10), S))
def fX11_drift_s61 (a0 : Nat) (x1 : Int32) (x2 : Int32) (y3 : Int32)  (S : St) : Option (Int32 × St) :=
  if (((29 : Int32) + x1) < 0 ∨ 250 ≤ ((29 : Int32) + x1).toNatClampNeg) then none else
  fX11_drift_s79 a0 x1 x2 y3 ((gA S 29 (a0 + 2) (((29 : Int32) + x1).toNatClampNeg)) * (gA S 29 (a0 + 2) 3)) S
def fX11_drift_s26 (a0 : Nat) (x1 : Int32) (x2 : Int32)  (t0 : Int32) (S : St) : Option (Int32 × St) :=
  if t0 = 0 then ((fX11_allYears a0 x1 S).bind fun r_5 =>
  if (((29 : Int32) + x1) < 0 ∨ 250 ≤ ((29 : Int32) + x1).toNatClampNeg) then none else
  fX11_drift_s61 a0 x1 x2 ((r_5 * (gA S 29 (a0 + 2) 3)) - ((gA S 29 (a0 + 2) 2) * (gA S 29 (a0 + 2) (((29 : Int32) + x1).toNatClampNeg)))) S) else
  (some ((0 : Int32), S))
def fX11_drift (a0 : Nat) (x1 : Int32) (x2 : Int32) (S : St) : Option (Int32 × St) :=
  (fX11_isParish a0 x1 S).bind fun r_1 =>
  if r_1 = 0 then (fX11_drift_s26 a0 x1 x2 ((fX11_throwsIf a0 (1 : Int32) S).1) ((fX11_throwsIf a0 (1 : Int32) S).2)) else
  (if (fX11_isIn x2 (0 : Int32) (1 : Int32) S) = 0 then (fX11_drift_s26 a0 x1 x2 ((fX11_throwsIf a0 (1 : Int32) S).1) ((fX11_throwsIf a0 (1 : Int32) S).2)) else
  (fX11_drift_s26 a0 x1 x2 ((fX11_throwsIf a0 (0 : Int32) S).1) ((fX11_throwsIf a0 (0 : Int32) S).2)))
theorem wX11_drift_s79 {z : Mx} {ad : Nat → Nat} {o : Option Value × St} (X : CxOk z ad RX11 cX11_drift 5 (some .int) 3) (a0 : Nat) (x1 : Int32) (x2 : Int32) (h0 : KT a0 = 11) (y3 : Int32) (y4 : Int32)    (S : St) (r : (Int32 × St)) (ho : o = (some (.int r.1), r.2)) (hF : fX11_drift_s79 a0 x1 x2 y3 y4  S = some r) : GW z ad o S 79 [(2, .int x2), (3, .int y3), (4, .int y4)] [] := by
  unfold fX11_drift_s79 at hF
  refine g_iload_n X dX11_drift_79 0 rfl rfl ?_
  refine g_if_ne (tgt := 87) X dX11_drift_80 (by decide) (fun c_9 => ?_) (fun c_9 => ?_)
  · rw [if_neg c_9] at hF
    refine g_iload X dX11_drift_87 2 rfl ?_
    refine g_iload X dX11_drift_89 2 rfl ?_
    refine g_iload_n X dX11_drift_91 1 rfl rfl ?_
    refine g_callSi (As := [.int y3]) X dX11_drift_92 mlX11_316 (fun l D cyy => tX11_absolute (cx_inj X) l D cyy y3  S) (by decide) rfl rfl (Nat.le_of_ble_eq_true rfl) ?_
    obtain ⟨r_10, q_11, hF⟩ := obind hF
    refine g_callSi (As := [.int y4, .int (fX11_absolute y3 S)]) X dX11_drift_95 mlX11_319 (fun l D cyy => tX11_common (cx_inj X) l D cyy y4 (fX11_absolute y3 S)  S r_10 q_11) (by decide) rfl rfl (Nat.le_of_ble_eq_true rfl) ?_
    obtain ⟨e_12, hF⟩ := oguard hF
    refine g_idiv X dX11_drift_98 e_12 ?_
    have hF := Option.some.inj hF
    subst hF
    exact g_iret X dX11_drift_99 ho
  · rw [if_pos c_9] at hF
    refine g_iload_n X dX11_drift_83 1 rfl rfl ?_
    refine g_goto (tgt := 89) X dX11_drift_84 (by decide) ?_
    refine g_iload X dX11_drift_89 2 rfl ?_
    refine g_iload_n X dX11_drift_91 1 rfl rfl ?_
    refine g_callSi (As := [.int y3]) X dX11_drift_92 mlX11_316 (fun l D cyy => tX11_absolute (cx_inj X) l D cyy y3  S) (by decide) rfl rfl (Nat.le_of_ble_eq_true rfl) ?_
    obtain ⟨r_13, q_14, hF⟩ := obind hF
    refine g_callSi (As := [.int y4, .int (fX11_absolute y3 S)]) X dX11_drift_95 mlX11_319 (fun l D cyy => tX11_common (cx_inj X) l D cyy y4 (fX11_absolute y3 S)  S r_13 q_14) (by decide) rfl rfl (Nat.le_of_ble_eq_true rfl) ?_
    obtain ⟨e_15, hF⟩ := oguard hF
    refine g_idiv X dX11_drift_98 e_15 ?_
    have hF := Option.some.inj hF
    subst hF
    exact g_iret X dX11_drift_99 ho
theorem wX11_drift_s61 {z : Mx} {ad : Nat → Nat} {o : Option Value × St} (X : CxOk z ad RX11 cX11_drift 5 (some .int) 3) (a0 : Nat) (x1 : Int32) (x2 : Int32) (h0 : KT a0 = 11) (y3 : Int32)    (S : St) (r : (Int32 × St)) (ho : o = (some (.int r.1), r.2)) (hF : fX11_drift_s61 a0 x1 x2 y3  S = some r) : GW z ad o S 61 [(0, .ref (ad a0)), (1, .int x1), (2, .int x2), (3, .int y3)] [] := by
  unfold fX11_drift_s61 at hF
  refine g_aload_n X dX11_drift_61 0 rfl rfl ?_
  refine g_getR (f := 2) X dX11_drift_62 flX11_33 rfl rfl h0 ?_
  refine g_bipush (v := 29) X dX11_drift_65 (by decide) ?_
  refine g_iload_n X dX11_drift_67 1 rfl rfl ?_
  refine g_iadd X dX11_drift_68 ?_
  obtain ⟨e_8, hF⟩ := oguard hF
  refine g_iald X dX11_drift_69 kd_29 (on_11_6 h0) e_8 ?_
  refine g_aload_n X dX11_drift_70 0 rfl rfl ?_
  refine g_getR (f := 2) X dX11_drift_71 flX11_33 rfl rfl h0 ?_
  refine g_iconst (v := 3) X dX11_drift_74 (by decide) ?_
  refine g_ialdK (j := 3) X dX11_drift_75 kd_29 (on_11_6 h0) (by decide) (by decide) ?_
  refine g_imul X dX11_drift_76 ?_
  refine g_istore X dX11_drift_77 (by decide) (lv' := [(4, .int ((gA S 29 (a0 + 2) (((29 : Int32) + x1).toNatClampNeg)) * (gA S 29 (a0 + 2) 3))), (0, .ref (ad a0)), (1, .int x1), (2, .int x2), (3, .int y3)]) rfl ?_
  exact g_perm [3, 4, 0] rfl (wX11_drift_s79 X a0 x1 x2 h0 y3 ((gA S 29 (a0 + 2) (((29 : Int32) + x1).toNatClampNeg)) * (gA S 29 (a0 + 2) 3)) S r ho hF)
theorem wX11_drift_s26 {z : Mx} {ad : Nat → Nat} {o : Option Value × St} (X : CxOk z ad RX11 cX11_drift 5 (some .int) 3) (a0 : Nat) (x1 : Int32) (x2 : Int32) (h0 : KT a0 = 11)  (t0 : Int32)   (S : St) (r : (Int32 × St)) (ho : o = (some (.int r.1), r.2)) (hF : fX11_drift_s26 a0 x1 x2  t0 S = some r) : GW z ad o S 26 [(0, .ref (ad a0)), (1, .int x1), (2, .int x2)] [.int t0] := by
  unfold fX11_drift_s26 at hF
  refine g_if_eq (tgt := 31) X dX11_drift_26 (by decide) (fun c_4 => ?_) (fun c_4 => ?_)
  · rw [if_pos c_4] at hF
    refine g_aload_n X dX11_drift_31 0 rfl rfl ?_
    refine g_iload_n X dX11_drift_32 1 rfl rfl ?_
    obtain ⟨r_5, q_6, hF⟩ := obind hF
    refine g_callVi (As := [.int x1]) X dX11_drift_33 mlX11_243 (fun l D cyy => tX11_allYears (cx_inj X) l D cyy a0 x1 h0 S r_5 q_6) h0 (by decide) rfl rfl (Nat.le_of_ble_eq_true rfl) ?_
    refine g_aload_n X dX11_drift_36 0 rfl rfl ?_
    refine g_getR (f := 2) X dX11_drift_37 flX11_33 rfl rfl h0 ?_
    refine g_iconst (v := 3) X dX11_drift_40 (by decide) ?_
    refine g_ialdK (j := 3) X dX11_drift_41 kd_29 (on_11_6 h0) (by decide) (by decide) ?_
    refine g_imul X dX11_drift_42 ?_
    refine g_aload_n X dX11_drift_43 0 rfl rfl ?_
    refine g_getR (f := 2) X dX11_drift_44 flX11_33 rfl rfl h0 ?_
    refine g_iconst (v := 2) X dX11_drift_47 (by decide) ?_
    refine g_ialdK (j := 2) X dX11_drift_48 kd_29 (on_11_6 h0) (by decide) (by decide) ?_
    refine g_aload_n X dX11_drift_49 0 rfl rfl ?_
    refine g_getR (f := 2) X dX11_drift_50 flX11_33 rfl rfl h0 ?_
    refine g_bipush (v := 29) X dX11_drift_53 (by decide) ?_
    refine g_iload_n X dX11_drift_55 1 rfl rfl ?_
    refine g_iadd X dX11_drift_56 ?_
    obtain ⟨e_7, hF⟩ := oguard hF
    refine g_iald X dX11_drift_57 kd_29 (on_11_6 h0) e_7 ?_
    refine g_imul X dX11_drift_58 ?_
    refine g_isub X dX11_drift_59 ?_
    refine g_istore_n X dX11_drift_60 rfl (by decide) (lv' := [(3, .int ((r_5 * (gA S 29 (a0 + 2) 3)) - ((gA S 29 (a0 + 2) 2) * (gA S 29 (a0 + 2) (((29 : Int32) + x1).toNatClampNeg))))), (0, .ref (ad a0)), (1, .int x1), (2, .int x2)]) rfl ?_
    exact g_perm [1, 2, 3, 0] rfl (wX11_drift_s61 X a0 x1 x2 h0 ((r_5 * (gA S 29 (a0 + 2) 3)) - ((gA S 29 (a0 + 2) 2) * (gA S 29 (a0 + 2) (((29 : Int32) + x1).toNatClampNeg)))) S r ho hF)
  · rw [if_neg c_4] at hF
    refine g_iconst (v := 0) X dX11_drift_29 (by decide) ?_
    have hF := Option.some.inj hF
    subst hF
    exact g_iret X dX11_drift_30 ho
theorem wX11_drift {z : Mx} {ad : Nat → Nat} {o : Option Value × St} (X : CxOk z ad RX11 cX11_drift 5 (some .int) 3) (a0 : Nat) (x1 : Int32) (x2 : Int32) (h0 : KT a0 = 11) (S : St) (r : (Int32 × St)) (ho : o = (some (.int r.1), r.2)) (hF : fX11_drift a0 x1 x2 S = some r) : GW z ad o S 0 [(0, .ref (ad a0)), (1, .int x1), (2, .int x2)] [] := by
  unfold fX11_drift at hF
  refine g_aload_n X dX11_drift_0 0 rfl rfl ?_
  refine g_aload_n X dX11_drift_1 0 rfl rfl ?_
  refine g_iload_n X dX11_drift_2 1 rfl rfl ?_
  obtain ⟨r_1, q_2, hF⟩ := obind hF
  refine g_callVi (As := [.int x1]) X dX11_drift_3 mlX11_267 (fun l D cyy => tX11_isParish (cx_inj X) l D cyy a0 x1 h0 S r_1 q_2) h0 (by decide) rfl rfl (Nat.le_of_ble_eq_true rfl) ?_
  refine g_if_eq (tgt := 18) X dX11_drift_6 (by decide) (fun c_3 => ?_) (fun c_3 => ?_)
  · rw [if_pos c_3] at hF
    refine g_iconst (v := 1) X dX11_drift_18 (by decide) ?_
    refine g_goto (tgt := 23) X dX11_drift_19 (by decide) ?_
    refine g_callVi (As := [.int (1 : Int32)]) X dX11_drift_23 mlX11_270 (fun l D cyy => tX11_throwsIf (cx_inj X) l D cyy a0 (1 : Int32) h0 S) h0 (by decide) rfl rfl (Nat.le_of_ble_eq_true rfl) ?_
    exact (wX11_drift_s26 X a0 x1 x2 h0 ((fX11_throwsIf a0 (1 : Int32) S).1) ((fX11_throwsIf a0 (1 : Int32) S).2) r ho hF)
  · rw [if_neg c_3] at hF
    refine g_iload_n X dX11_drift_9 2 rfl rfl ?_
    refine g_iconst (v := 0) X dX11_drift_10 (by decide) ?_
    refine g_iconst (v := 1) X dX11_drift_11 (by decide) ?_
    refine g_callSi (As := [.int x2, .int (0 : Int32), .int (1 : Int32)]) X dX11_drift_12 mlX11_173 (fun l D cyy => tX11_isIn (cx_inj X) l D cyy x2 (0 : Int32) (1 : Int32)  S) (by decide) rfl rfl (Nat.le_of_ble_eq_true rfl) ?_
    refine g_if_ne (tgt := 22) X dX11_drift_15 (by decide) (fun c_16 => ?_) (fun c_16 => ?_)
    · rw [if_neg c_16] at hF
      refine g_iconst (v := 0) X dX11_drift_22 (by decide) ?_
      refine g_callVi (As := [.int (0 : Int32)]) X dX11_drift_23 mlX11_270 (fun l D cyy => tX11_throwsIf (cx_inj X) l D cyy a0 (0 : Int32) h0 S) h0 (by decide) rfl rfl (Nat.le_of_ble_eq_true rfl) ?_
      exact (wX11_drift_s26 X a0 x1 x2 h0 ((fX11_throwsIf a0 (0 : Int32) S).1) ((fX11_throwsIf a0 (0 : Int32) S).2) r ho hF)
    · rw [if_pos c_16] at hF
      refine g_iconst (v := 1) X dX11_drift_18 (by decide) ?_
      refine g_goto (tgt := 23) X dX11_drift_19 (by decide) ?_
      refine g_callVi (As := [.int (1 : Int32)]) X dX11_drift_23 mlX11_270 (fun l D cyy => tX11_throwsIf (cx_inj X) l D cyy a0 (1 : Int32) h0 S) h0 (by decide) rfl rfl (Nat.le_of_ble_eq_true rfl) ?_
      exact (wX11_drift_s26 X a0 x1 x2 h0 ((fX11_throwsIf a0 (1 : Int32) S).1) ((fX11_throwsIf a0 (1 : Int32) S).2) r ho hF)
theorem tX11_drift {ad : Nat → Nat} (hI : Inj ad) (l : Launch) (D : va_G) (cyy : Nat → ClassId) (a0 : Nat) (x1 : Int32) (x2 : Int32) (h0 : KT a0 = 11) (S : St) (r : (Int32 × St)) (hF : fX11_drift a0 x1 x2 S = some r) : OkM l yX11_drift cX11_drift 5 (some .int) 3 ad D cyy [.ref (ad a0), .int x1, .int x2] S (some (.int r.1), r.2) := okM_of hI (by decide) (inr_38 _ (List.mem_of_getElem? (i := 3) rfl)) (by show _ ≤ 5; exact Nat.le_of_ble_eq_true rfl) (fun z X => wX11_drift X a0 x1 x2 h0 S r rfl hF)
def fX11_tune_s114 (k33 : Int32 → Int32 → Int32 → St → Option (Int32 × St)) (k42 : Int32 → Int32 → Int32 → Int32 → St → Option (Int32 × St)) (a0 : Nat) (x1 : Int32) (x2 : Int32) (y3 : Int32) (y4 : Int32) (y5 : Int32) (y6 : Int32)  (S : St) : Option (Int32 × St) :=
  k42 y3 y4 y5 (y6 + (1 : Int32)) S
def fX11_tune_s101 (k33 : Int32 → Int32 → Int32 → St → Option (Int32 × St)) (k42 : Int32 → Int32 → Int32 → Int32 → St → Option (Int32 × St)) (a0 : Nat) (x1 : Int32) (x2 : Int32) (y5 : Int32) (y6 : Int32) (y7 : Int32)  (S : St) : Option (Int32 × St) :=
  fX11_tune_s114 k33 k42 a0 x1 x2 y5 y7 y5 y6 (sI S 11 25 a0 y6)
def fX11_tune_s82 (k33 : Int32 → Int32 → Int32 → St → Option (Int32 × St)) (k42 : Int32 → Int32 → Int32 → Int32 → St → Option (Int32 × St)) (a0 : Nat) (x1 : Int32) (x2 : Int32) (y3 : Int32) (y4 : Int32) (y5 : Int32) (y6 : Int32) (y7 : Int32)  (S : St) : Option (Int32 × St) :=
  if y3 ≤ 0 then (fX11_tune_s101 k33 k42 a0 x1 x2 y5 y6 y7 S) else
  (if (y7 * y3) < (y4 * y5) then (fX11_tune_s101 k33 k42 a0 x1 x2 y5 y6 y7 S) else
  (fX11_tune_s114 k33 k42 a0 x1 x2 y3 y4 y5 y6 S))
def fX11_tune_s42 (k33 : Int32 → Int32 → Int32 → St → Option (Int32 × St)) (k42 : Int32 → Int32 → Int32 → Int32 → St → Option (Int32 × St)) (a0 : Nat) (x1 : Int32) (x2 : Int32) (y3 : Int32) (y4 : Int32) (y5 : Int32) (y6 : Int32)  (S : St) : Option (Int32 × St) :=
  if (10 : Int32) ≤ y6 then (k33 y3 y4 (y5 + (1 : Int32)) S) else
  ((fX11_plainYear a0 x1 S).bind fun r_7 =>
  fX11_tune_s82 k33 k42 a0 x1 x2 y3 y4 y5 y6 (fX11_absolute ((((r_7 * y5) + y6) * (gA S 29 (a0 + 2) 3)) - ((gA S 29 (a0 + 2) 2) * y5)) S) S)
def fX11_tune_h42 (k33 : Int32 → Int32 → Int32 → St → Option (Int32 × St)) (a0 : Nat) (x1 : Int32) (x2 : Int32) : Nat → Int32 → Int32 → Int32 → Int32 → St → Option (Int32 × St)
  | 0, _, _, _, _, _ => none
  | n + 1, y3, y4, y5, y6, S => fX11_tune_s42 k33 (fX11_tune_h42 k33 a0 x1 x2 n) a0 x1 x2 y3 y4 y5 y6 S
def fX11_tune_s33 (k33 : Int32 → Int32 → Int32 → St → Option (Int32 × St)) (a0 : Nat) (x1 : Int32) (x2 : Int32) (y3 : Int32) (y4 : Int32) (y5 : Int32)  (S : St) : Option (Int32 × St) :=
  if x2 < y5 then (some (y3, S)) else
  (fX11_tune_h42 k33 a0 x1 x2 NN y3 y4 y5 (0 : Int32) S)
def fX11_tune_h33 (a0 : Nat) (x1 : Int32) (x2 : Int32) : Nat → Int32 → Int32 → Int32 → St → Option (Int32 × St)
  | 0, _, _, _, _ => none
  | n + 1, y3, y4, y5, S => fX11_tune_s33 (fX11_tune_h33 a0 x1 x2 n) a0 x1 x2 y3 y4 y5 S
def fX11_tune_s5 (a0 : Nat) (x1 : Int32) (x2 : Int32)   (S : St) : Option (Int32 × St) :=
  (fX11_isParish a0 x1 S).bind fun r_1 =>
  if r_1 = 0 then (some ((-1 : Int32), S)) else
  (if (fX11_isIn x2 (1 : Int32) (30 : Int32) S) = 0 then (some ((-1 : Int32), S)) else
  (fX11_tune_h33 a0 x1 x2 NN (0 : Int32) (0 : Int32) (1 : Int32) S))
def fX11_tune (a0 : Nat) (x1 : Int32) (x2 : Int32) (S : St) : Option (Int32 × St) :=
  fX11_tune_s5 a0 x1 x2 (sI S 11 0 a0 (0 : Int32))
theorem wX11_tune_s114 {z : Mx} {ad : Nat → Nat} {o : Option Value × St} (X : CxOk z ad RX11 cX11_tune 8 (some .int) 3) (a0 : Nat) (x1 : Int32) (x2 : Int32) (h0 : KT a0 = 11) (y3 : Int32) (y4 : Int32) (y5 : Int32) (y6 : Int32)  (k33 : Int32 → Int32 → Int32 → St → Option (Int32 × St)) (k42 : Int32 → Int32 → Int32 → Int32 → St → Option (Int32 × St))   (S : St) (r : (Int32 × St)) (ho : o = (some (.int r.1), r.2)) (hk33 : ∀ (y3 : Int32) (y4 : Int32) (y5 : Int32) (S : St), k33 y3 y4 y5 S = some r → GW z ad o S 33 [(0, .ref (ad a0)), (1, .int x1), (2, .int x2), (3, .int y3), (4, .int y4), (5, .int y5)] []) (hk42 : ∀ (y3 : Int32) (y4 : Int32) (y5 : Int32) (y6 : Int32) (S : St), k42 y3 y4 y5 y6 S = some r → GW z ad o S 42 [(0, .ref (ad a0)), (1, .int x1), (2, .int x2), (3, .int y3), (4, .int y4), (5, .int y5), (6, .int y6)] []) (hF : fX11_tune_s114 k33 k42 a0 x1 x2 y3 y4 y5 y6  S = some r) : GW z ad o S 114 [(0, .ref (ad a0)), (1, .int x1), (2, .int x2), (3, .int y3), (4, .int y4), (5, .int y5), (6, .int y6)] [] := by
  unfold fX11_tune_s114 at hF
  refine g_iinc (v := (y6 + (1 : Int32))) X dX11_tune_114 6 rfl rfl (by decide) (lv' := [(6, .int (y6 + (1 : Int32))), (0, .ref (ad a0)), (1, .int x1), (2, .int x2), (3, .int y3), (4, .int y4), (5, .int y5)]) rfl ?_
  refine g_goto (tgt := 42) X dX11_tune_117 (by decide) ?_
  exact g_perm [1, 2, 3, 4, 5, 6, 0] rfl (hk42 y3 y4 y5 (y6 + (1 : Int32)) S hF)
theorem wX11_tune_s101 {z : Mx} {ad : Nat → Nat} {o : Option Value × St} (X : CxOk z ad RX11 cX11_tune 8 (some .int) 3) (a0 : Nat) (x1 : Int32) (x2 : Int32) (h0 : KT a0 = 11) (y5 : Int32) (y6 : Int32) (y7 : Int32)  (k33 : Int32 → Int32 → Int32 → St → Option (Int32 × St)) (k42 : Int32 → Int32 → Int32 → Int32 → St → Option (Int32 × St))   (S : St) (r : (Int32 × St)) (ho : o = (some (.int r.1), r.2)) (hk33 : ∀ (y3 : Int32) (y4 : Int32) (y5 : Int32) (S : St), k33 y3 y4 y5 S = some r → GW z ad o S 33 [(0, .ref (ad a0)), (1, .int x1), (2, .int x2), (3, .int y3), (4, .int y4), (5, .int y5)] []) (hk42 : ∀ (y3 : Int32) (y4 : Int32) (y5 : Int32) (y6 : Int32) (S : St), k42 y3 y4 y5 y6 S = some r → GW z ad o S 42 [(0, .ref (ad a0)), (1, .int x1), (2, .int x2), (3, .int y3), (4, .int y4), (5, .int y5), (6, .int y6)] []) (hF : fX11_tune_s101 k33 k42 a0 x1 x2 y5 y6 y7  S = some r) : GW z ad o S 101 [(0, .ref (ad a0)), (1, .int x1), (2, .int x2), (5, .int y5), (6, .int y6), (7, .int y7)] [] := by
  unfold fX11_tune_s101 at hF
  refine g_iload X dX11_tune_101 3 rfl ?_
  refine g_istore_n X dX11_tune_103 rfl (by decide) (lv' := [(3, .int y5), (0, .ref (ad a0)), (1, .int x1), (2, .int x2), (5, .int y5), (6, .int y6), (7, .int y7)]) rfl ?_
  refine g_iload X dX11_tune_104 6 rfl ?_
  refine g_istore X dX11_tune_106 (by decide) (lv' := [(4, .int y7), (3, .int y5), (0, .ref (ad a0)), (1, .int x1), (2, .int x2), (5, .int y5), (6, .int y6), (7, .int y7)]) rfl ?_
  refine g_aload_n X dX11_tune_108 2 rfl rfl ?_
  refine g_iload X dX11_tune_109 6 rfl ?_
  refine g_putI X dX11_tune_111 fpX11_59 rfl rfl rfl h0 ?_
  exact g_perm [2, 3, 4, 1, 0, 5, 6] rfl (wX11_tune_s114 X a0 x1 x2 h0 y5 y7 y5 y6 k33 k42 (sI S 11 25 a0 y6) r ho hk33 hk42 hF)
theorem wX11_tune_s82 {z : Mx} {ad : Nat → Nat} {o : Option Value × St} (X : CxOk z ad RX11 cX11_tune 8 (some .int) 3) (a0 : Nat) (x1 : Int32) (x2 : Int32) (h0 : KT a0 = 11) (y3 : Int32) (y4 : Int32) (y5 : Int32) (y6 : Int32) (y7 : Int32)  (k33 : Int32 → Int32 → Int32 → St → Option (Int32 × St)) (k42 : Int32 → Int32 → Int32 → Int32 → St → Option (Int32 × St))   (S : St) (r : (Int32 × St)) (ho : o = (some (.int r.1), r.2)) (hk33 : ∀ (y3 : Int32) (y4 : Int32) (y5 : Int32) (S : St), k33 y3 y4 y5 S = some r → GW z ad o S 33 [(0, .ref (ad a0)), (1, .int x1), (2, .int x2), (3, .int y3), (4, .int y4), (5, .int y5)] []) (hk42 : ∀ (y3 : Int32) (y4 : Int32) (y5 : Int32) (y6 : Int32) (S : St), k42 y3 y4 y5 y6 S = some r → GW z ad o S 42 [(0, .ref (ad a0)), (1, .int x1), (2, .int x2), (3, .int y3), (4, .int y4), (5, .int y5), (6, .int y6)] []) (hF : fX11_tune_s82 k33 k42 a0 x1 x2 y3 y4 y5 y6 y7  S = some r) : GW z ad o S 82 [(0, .ref (ad a0)), (1, .int x1), (2, .int x2), (3, .int y3), (4, .int y4), (5, .int y5), (6, .int y6), (7, .int y7)] [] := by
  unfold fX11_tune_s82 at hF
  refine g_iload_n X dX11_tune_82 3 rfl rfl ?_
  refine g_if_le (tgt := 101) X dX11_tune_83 (by decide) (fun c_9 => ?_) (fun c_9 => ?_)
  · rw [if_pos c_9] at hF
    exact g_perm [0, 1, 2, 5, 6, 7] rfl (wX11_tune_s101 X a0 x1 x2 h0 y5 y6 y7 k33 k42 S r ho hk33 hk42 hF)
  · rw [if_neg c_9] at hF
    refine g_iload X dX11_tune_86 7 rfl ?_
    refine g_iload_n X dX11_tune_88 3 rfl rfl ?_
    refine g_imul X dX11_tune_89 ?_
    refine g_iload X dX11_tune_90 4 rfl ?_
    refine g_iload X dX11_tune_92 5 rfl ?_
    refine g_imul X dX11_tune_94 ?_
    refine g_icmp_lt (tgt := 101) X dX11_tune_95 (by decide) (fun c_10 => ?_) (fun c_10 => ?_)
    · rw [if_pos c_10] at hF
      exact g_perm [0, 1, 2, 5, 6, 7] rfl (wX11_tune_s101 X a0 x1 x2 h0 y5 y6 y7 k33 k42 S r ho hk33 hk42 hF)
    · rw [if_neg c_10] at hF
      refine g_goto (tgt := 114) X dX11_tune_98 (by decide) ?_
      exact g_perm [0, 1, 2, 3, 4, 5, 6] rfl (wX11_tune_s114 X a0 x1 x2 h0 y3 y4 y5 y6 k33 k42 S r ho hk33 hk42 hF)
theorem wX11_tune_s42 {z : Mx} {ad : Nat → Nat} {o : Option Value × St} (X : CxOk z ad RX11 cX11_tune 8 (some .int) 3) (a0 : Nat) (x1 : Int32) (x2 : Int32) (h0 : KT a0 = 11) (y3 : Int32) (y4 : Int32) (y5 : Int32) (y6 : Int32)  (k33 : Int32 → Int32 → Int32 → St → Option (Int32 × St)) (k42 : Int32 → Int32 → Int32 → Int32 → St → Option (Int32 × St))   (S : St) (r : (Int32 × St)) (ho : o = (some (.int r.1), r.2)) (hk33 : ∀ (y3 : Int32) (y4 : Int32) (y5 : Int32) (S : St), k33 y3 y4 y5 S = some r → GW z ad o S 33 [(0, .ref (ad a0)), (1, .int x1), (2, .int x2), (3, .int y3), (4, .int y4), (5, .int y5)] []) (hk42 : ∀ (y3 : Int32) (y4 : Int32) (y5 : Int32) (y6 : Int32) (S : St), k42 y3 y4 y5 y6 S = some r → GW z ad o S 42 [(0, .ref (ad a0)), (1, .int x1), (2, .int x2), (3, .int y3), (4, .int y4), (5, .int y5), (6, .int y6)] []) (hF : fX11_tune_s42 k33 k42 a0 x1 x2 y3 y4 y5 y6  S = some r) : GW z ad o S 42 [(0, .ref (ad a0)), (1, .int x1), (2, .int x2), (3, .int y3), (4, .int y4), (5, .int y5), (6, .int y6)] [] := by
  unfold fX11_tune_s42 at hF
  refine g_iload X dX11_tune_42 6 rfl ?_
  refine g_bipush (v := 10) X dX11_tune_44 (by decide) ?_
  refine g_icmp_ge (tgt := 120) X dX11_tune_46 (by decide) (fun c_6 => ?_) (fun c_6 => ?_)
  · rw [if_pos c_6] at hF
    refine g_iinc (v := (y5 + (1 : Int32))) X dX11_tune_120 5 rfl rfl (by decide) (lv' := [(5, .int (y5 + (1 : Int32))), (0, .ref (ad a0)), (1, .int x1), (2, .int x2), (3, .int y3), (4, .int y4), (6, .int y6)]) rfl ?_
    refine g_goto (tgt := 33) X dX11_tune_123 (by decide) ?_
    exact g_perm [1, 2, 3, 4, 5, 0] rfl (hk33 y3 y4 (y5 + (1 : Int32)) S hF)
  · rw [if_neg c_6] at hF
    refine g_aload_n X dX11_tune_49 0 rfl rfl ?_
    refine g_iload_n X dX11_tune_50 1 rfl rfl ?_
    obtain ⟨r_7, q_8, hF⟩ := obind hF
    refine g_callVi (As := [.int x1]) X dX11_tune_51 mlX11_239 (fun l D cyy => tX11_plainYear (cx_inj X) l D cyy a0 x1 h0 S r_7 q_8) h0 (by decide) rfl rfl (Nat.le_of_ble_eq_true rfl) ?_
    refine g_iload X dX11_tune_54 5 rfl ?_
    refine g_imul X dX11_tune_56 ?_
    refine g_iload X dX11_tune_57 6 rfl ?_
    refine g_iadd X dX11_tune_59 ?_
    refine g_aload_n X dX11_tune_60 0 rfl rfl ?_
    refine g_getR (f := 2) X dX11_tune_61 flX11_33 rfl rfl h0 ?_
    refine g_iconst (v := 3) X dX11_tune_64 (by decide) ?_
    refine g_ialdK (j := 3) X dX11_tune_65 kd_29 (on_11_6 h0) (by decide) (by decide) ?_
    refine g_imul X dX11_tune_66 ?_
    refine g_aload_n X dX11_tune_67 0 rfl rfl ?_
    refine g_getR (f := 2) X dX11_tune_68 flX11_33 rfl rfl h0 ?_
    refine g_iconst (v := 2) X dX11_tune_71 (by decide) ?_
    refine g_ialdK (j := 2) X dX11_tune_72 kd_29 (on_11_6 h0) (by decide) (by decide) ?_
    refine g_iload X dX11_tune_73 5 rfl ?_
    refine g_imul X dX11_tune_75 ?_
    refine g_isub X dX11_tune_76 ?_
    refine g_callSi (As := [.int ((((r_7 * y5) + y6) * (gA S 29 (a0 + 2) 3)) - ((gA S 29 (a0 + 2) 2) * y5))]) X dX11_tune_77 mlX11_316 (fun l D cyy => tX11_absolute (cx_inj X) l D cyy ((((r_7 * y5) + y6) * (gA S 29 (a0 + 2) 3)) - ((gA S 29 (a0 + 2) 2) * y5))  S) (by decide) rfl rfl (Nat.le_of_ble_eq_true rfl) ?_
    refine g_istore X dX11_tune_80 (by decide) (lv' := [(7, .int (fX11_absolute ((((r_7 * y5) + y6) * (gA S 29 (a0 + 2) 3)) - ((gA S 29 (a0 + 2) 2) * y5)) S)), (0, .ref (ad a0)), (1, .int x1), (2, .int x2), (3, .int y3), (4, .int y4), (5, .int y5), (6, .int y6)]) rfl ?_
    exact g_perm [1, 2, 3, 4, 5, 6, 7, 0] rfl (wX11_tune_s82 X a0 x1 x2 h0 y3 y4 y5 y6 (fX11_absolute ((((r_7 * y5) + y6) * (gA S 29 (a0 + 2) 3)) - ((gA S 29 (a0 + 2) 2) * y5)) S) k33 k42 S r ho hk33 hk42 hF)
theorem wX11_tune_h42 {z : Mx} {ad : Nat → Nat} {o : Option Value × St} (X : CxOk z ad RX11 cX11_tune 8 (some .int) 3) (a0 : Nat) (x1 : Int32) (x2 : Int32) (h0 : KT a0 = 11) (k33 : Int32 → Int32 → Int32 → St → Option (Int32 × St))  (r : (Int32 × St)) (ho : o = (some (.int r.1), r.2)) (hk33 : ∀ (y3 : Int32) (y4 : Int32) (y5 : Int32) (S : St), k33 y3 y4 y5 S = some r → GW z ad o S 33 [(0, .ref (ad a0)), (1, .int x1), (2, .int x2), (3, .int y3), (4, .int y4), (5, .int y5)] []) : ∀ (n : Nat) (y3 : Int32) (y4 : Int32) (y5 : Int32) (y6 : Int32) (S : St), fX11_tune_h42 k33 a0 x1 x2 n y3 y4 y5 y6 S = some r → GW z ad o S 42 [(0, .ref (ad a0)), (1, .int x1), (2, .int x2), (3, .int y3), (4, .int y4), (5, .int y5), (6, .int y6)] [] := by
  intro n
  induction n with
  | zero => intro y3 y4 y5 y6 S  hF; cases hF
  | succ n ih => intro y3 y4 y5 y6 S  hF; exact wX11_tune_s42 X a0 x1 x2 h0 y3 y4 y5 y6 k33 (fX11_tune_h42 k33 a0 x1 x2 n)  S r ho hk33 ih hF
theorem wX11_tune_s33 {z : Mx} {ad : Nat → Nat} {o : Option Value × St} (X : CxOk z ad RX11 cX11_tune 8 (some .int) 3) (a0 : Nat) (x1 : Int32) (x2 : Int32) (h0 : KT a0 = 11) (y3 : Int32) (y4 : Int32) (y5 : Int32)  (k33 : Int32 → Int32 → Int32 → St → Option (Int32 × St))   (S : St) (r : (Int32 × St)) (ho : o = (some (.int r.1), r.2)) (hk33 : ∀ (y3 : Int32) (y4 : Int32) (y5 : Int32) (S : St), k33 y3 y4 y5 S = some r → GW z ad o S 33 [(0, .ref (ad a0)), (1, .int x1), (2, .int x2), (3, .int y3), (4, .int y4), (5, .int y5)] []) (hF : fX11_tune_s33 k33 a0 x1 x2 y3 y4 y5  S = some r) : GW z ad o S 33 [(0, .ref (ad a0)), (1, .int x1), (2, .int x2), (3, .int y3), (4, .int y4), (5, .int y5)] [] := by
  unfold fX11_tune_s33 at hF
  refine g_iload X dX11_tune_33 5 rfl ?_
  refine g_iload_n X dX11_tune_35 2 rfl rfl ?_
  refine g_icmp_gt (tgt := 126) X dX11_tune_36 (by decide) (fun c_5 => ?_) (fun c_5 => ?_)
  · rw [if_pos c_5] at hF
    refine g_iload_n X dX11_tune_126 3 rfl rfl ?_
    have hF := Option.some.inj hF
    subst hF
    exact g_iret X dX11_tune_127 ho
  · rw [if_neg c_5] at hF
    refine g_iconst (v := 0) X dX11_tune_39 (by decide) ?_
    refine g_istore X dX11_tune_40 (by decide) (lv' := [(6, .int (0 : Int32)), (0, .ref (ad a0)), (1, .int x1), (2, .int x2), (3, .int y3), (4, .int y4), (5, .int y5)]) rfl ?_
    exact g_perm [1, 2, 3, 4, 5, 6, 0] rfl (wX11_tune_h42 X a0 x1 x2 h0 k33 r ho hk33 NN y3 y4 y5 (0 : Int32) S hF)
theorem wX11_tune_h33 {z : Mx} {ad : Nat → Nat} {o : Option Value × St} (X : CxOk z ad RX11 cX11_tune 8 (some .int) 3) (a0 : Nat) (x1 : Int32) (x2 : Int32) (h0 : KT a0 = 11)  (r : (Int32 × St)) (ho : o = (some (.int r.1), r.2)) : ∀ (n : Nat) (y3 : Int32) (y4 : Int32) (y5 : Int32) (S : St), fX11_tune_h33 a0 x1 x2 n y3 y4 y5 S = some r → GW z ad o S 33 [(0, .ref (ad a0)), (1, .int x1), (2, .int x2), (3, .int y3), (4, .int y4), (5, .int y5)] [] := by
  intro n
  induction n with
  | zero => intro y3 y4 y5 S  hF; cases hF
  | succ n ih => intro y3 y4 y5 S  hF; exact wX11_tune_s33 X a0 x1 x2 h0 y3 y4 y5 (fX11_tune_h33 a0 x1 x2 n)  S r ho ih hF
theorem wX11_tune_s5 {z : Mx} {ad : Nat → Nat} {o : Option Value × St} (X : CxOk z ad RX11 cX11_tune 8 (some .int) 3) (a0 : Nat) (x1 : Int32) (x2 : Int32) (h0 : KT a0 = 11)     (S : St) (r : (Int32 × St)) (ho : o = (some (.int r.1), r.2)) (hF : fX11_tune_s5 a0 x1 x2   S = some r) : GW z ad o S 5 [(0, .ref (ad a0)), (1, .int x1), (2, .int x2)] [] := by
  unfold fX11_tune_s5 at hF
  refine g_aload_n X dX11_tune_5 0 rfl rfl ?_
  refine g_iload_n X dX11_tune_6 1 rfl rfl ?_
  obtain ⟨r_1, q_2, hF⟩ := obind hF
  refine g_callVi (As := [.int x1]) X dX11_tune_7 mlX11_267 (fun l D cyy => tX11_isParish (cx_inj X) l D cyy a0 x1 h0 S r_1 q_2) h0 (by decide) rfl rfl (Nat.le_of_ble_eq_true rfl) ?_
  refine g_if_eq (tgt := 23) X dX11_tune_10 (by decide) (fun c_3 => ?_) (fun c_3 => ?_)
  · rw [if_pos c_3] at hF
    refine g_iconst (v := -1) X dX11_tune_23 (by decide) ?_
    have hF := Option.some.inj hF
    subst hF
    exact g_iret X dX11_tune_24 ho
  · rw [if_neg c_3] at hF
    refine g_iload_n X dX11_tune_13 2 rfl rfl ?_
    refine g_iconst (v := 1) X dX11_tune_14 (by decide) ?_
    refine g_bipush (v := 30) X dX11_tune_15 (by decide) ?_
    refine g_callSi (As := [.int x2, .int (1 : Int32), .int (30 : Int32)]) X dX11_tune_17 mlX11_173 (fun l D cyy => tX11_isIn (cx_inj X) l D cyy x2 (1 : Int32) (30 : Int32)  S) (by decide) rfl rfl (Nat.le_of_ble_eq_true rfl) ?_
    refine g_if_ne (tgt := 25) X dX11_tune_20 (by decide) (fun c_4 => ?_) (fun c_4 => ?_)
    · rw [if_neg c_4] at hF
      refine g_iconst (v := 0) X dX11_tune_25 (by decide) ?_
      refine g_istore_n X dX11_tune_26 rfl (by decide) (lv' := [(3, .int (0 : Int32)), (0, .ref (ad a0)), (1, .int x1), (2, .int x2)]) rfl ?_
      refine g_iconst (v := 0) X dX11_tune_27 (by decide) ?_
      refine g_istore X dX11_tune_28 (by decide) (lv' := [(4, .int (0 : Int32)), (3, .int (0 : Int32)), (0, .ref (ad a0)), (1, .int x1), (2, .int x2)]) rfl ?_
      refine g_iconst (v := 1) X dX11_tune_30 (by decide) ?_
      refine g_istore X dX11_tune_31 (by decide) (lv' := [(5, .int (1 : Int32)), (4, .int (0 : Int32)), (3, .int (0 : Int32)), (0, .ref (ad a0)), (1, .int x1), (2, .int x2)]) rfl ?_
      exact g_perm [3, 4, 5, 2, 1, 0] rfl (wX11_tune_h33 X a0 x1 x2 h0 r ho NN (0 : Int32) (0 : Int32) (1 : Int32) S hF)
    · rw [if_pos c_4] at hF
      refine g_iconst (v := -1) X dX11_tune_23 (by decide) ?_
      have hF := Option.some.inj hF
      subst hF
      exact g_iret X dX11_tune_24 ho
theorem wX11_tune {z : Mx} {ad : Nat → Nat} {o : Option Value × St} (X : CxOk z ad RX11 cX11_tune 8 (some .int) 3) (a0 : Nat) (x1 : Int32) (x2 : Int32) (h0 : KT a0 = 11) (S : St) (r : (Int32 × St)) (ho : o = (some (.int r.1), r.2)) (hF : fX11_tune a0 x1 x2 S = some r) : GW z ad o S 0 [(0, .ref (ad a0)), (1, .int x1), (2, .int x2)] [] := by
  unfold fX11_tune at hF
  refine g_aload_n X dX11_tune_0 0 rfl rfl ?_
  refine g_iconst (v := 0) X dX11_tune_1 (by decide) ?_
  refine g_putI X dX11_tune_2 fpX11_1 rfl rfl rfl h0 ?_
  exact (wX11_tune_s5 X a0 x1 x2 h0 (sI S 11 0 a0 (0 : Int32)) r ho hF)
theorem tX11_tune {ad : Nat → Nat} (hI : Inj ad) (l : Launch) (D : va_G) (cyy : Nat → ClassId) (a0 : Nat) (x1 : Int32) (x2 : Int32) (h0 : KT a0 = 11) (S : St) (r : (Int32 × St)) (hF : fX11_tune a0 x1 x2 S = some r) : OkM l yX11_tune cX11_tune 8 (some .int) 3 ad D cyy [.ref (ad a0), .int x1, .int x2] S (some (.int r.1), r.2) := okM_of hI (by decide) (inr_39 _ (List.mem_of_getElem? (i := 0) rfl)) (by show _ ≤ 8; exact Nat.le_of_ble_eq_true rfl) (fun z X => wX11_tune X a0 x1 x2 h0 S r rfl hF)
def fX11_tuned_s5 (a0 : Nat)   (S : St) : (Int32 × St) :=
  ((gI S 11 25 a0), S)
def fX11_tuned (a0 : Nat) (S : St) : (Int32 × St) :=
  fX11_tuned_s5 a0 (sI S 11 0 a0 (0 : Int32))
theorem wX11_tuned_s5 {z : Mx} {ad : Nat → Nat} {o : Option Value × St} (X : CxOk z ad RX11 cX11_tuned 1 (some .int) 1) (a0 : Nat) (h0 : KT a0 = 11)     (S : St) (r : (Int32 × St)) (ho : o = (some (.int r.1), r.2)) (hF : fX11_tuned_s5 a0   S = r) : GW z ad o S 5 [(0, .ref (ad a0))] [] := by
  unfold fX11_tuned_s5 at hF
  refine g_aload_n X dX11_tuned_5 0 rfl rfl ?_
  refine g_getI X dX11_tuned_6 flX11_59 rfl h0 ?_
  subst hF
  exact g_iret X dX11_tuned_9 ho
theorem wX11_tuned {z : Mx} {ad : Nat → Nat} {o : Option Value × St} (X : CxOk z ad RX11 cX11_tuned 1 (some .int) 1) (a0 : Nat) (h0 : KT a0 = 11) (S : St) (r : (Int32 × St)) (ho : o = (some (.int r.1), r.2)) (hF : fX11_tuned a0 S = r) : GW z ad o S 0 [(0, .ref (ad a0))] [] := by
  unfold fX11_tuned at hF
  refine g_aload_n X dX11_tuned_0 0 rfl rfl ?_
  refine g_iconst (v := 0) X dX11_tuned_1 (by decide) ?_
  refine g_putI X dX11_tuned_2 fpX11_1 rfl rfl rfl h0 ?_
  exact (wX11_tuned_s5 X a0 h0 (sI S 11 0 a0 (0 : Int32)) r ho hF)
theorem tX11_tuned {ad : Nat → Nat} (hI : Inj ad) (l : Launch) (D : va_G) (cyy : Nat → ClassId) (a0 : Nat) (h0 : KT a0 = 11) (S : St) : OkM l yX11_tuned cX11_tuned 1 (some .int) 1 ad D cyy [.ref (ad a0)] S (some (.int (fX11_tuned a0 S).1), (fX11_tuned a0 S).2) := okM_of hI (by decide) (inr_39 _ (List.mem_of_getElem? (i := 9) rfl)) (by show _ ≤ 1; exact Nat.le_of_ble_eq_true rfl) (fun z X => wX11_tuned X a0 h0 S _ rfl rfl)
def fX11_skipsTo_s2 (k2 : Int32 → Option Int32) (a0 : Nat) (x1 : Int32) (x2 : Int32) (y3 : Int32)  (S : St) : Option Int32 :=
  if (400 : Int32) < y3 then (some (1000000 : Int32)) else
  (if (((54 : Int32) + x1) < 0 ∨ 250 ≤ ((54 : Int32) + x1).toNatClampNeg) then none else
  (fX11_dated a0 x1 ((gA S 29 (a0 + 2) (((54 : Int32) + x1).toNatClampNeg)) + y3) S).bind fun r_3 =>
  (fX11_today a0 x2 S).bind fun r_5 =>
  if r_3 = r_5 then (some y3) else
  (k2 (y3 + (1 : Int32))))
def fX11_skipsTo_h2 (a0 : Nat) (x1 : Int32) (x2 : Int32) : Nat → Int32 → St → Option Int32
  | 0, _, _ => none
  | n + 1, y3, S => fX11_skipsTo_s2 (fun y3 => fX11_skipsTo_h2 a0 x1 x2 n y3 S) a0 x1 x2 y3 S
def fX11_skipsTo (a0 : Nat) (x1 : Int32) (x2 : Int32) (S : St) : Option Int32 :=
  fX11_skipsTo_h2 a0 x1 x2 NN (0 : Int32) S
theorem wX11_skipsTo_s2 {z : Mx} {ad : Nat → Nat} {o : Option Value × St} (X : CxOk z ad RX11 cX11_skipsTo 4 (some .int) 6) (a0 : Nat) (x1 : Int32) (x2 : Int32) (h0 : KT a0 = 11) (y3 : Int32)  (k2 : Int32 → Option Int32)   (S : St) (r : Int32) (ho : o = (some (.int r), S)) (hk2 : ∀ (y3 : Int32), k2 y3 = some r → GW z ad o S 2 [(0, .ref (ad a0)), (1, .int x1), (2, .int x2), (3, .int y3)] []) (hF : fX11_skipsTo_s2 k2 a0 x1 x2 y3  S = some r) : GW z ad o S 2 [(0, .ref (ad a0)), (1, .int x1), (2, .int x2), (3, .int y3)] [] := by
  unfold fX11_skipsTo_s2 at hF
  refine g_iload_n X dX11_skipsTo_2 3 rfl rfl ?_
  refine g_sipush (v := 400) X dX11_skipsTo_3 (by decide) ?_
  refine g_icmp_gt (tgt := 41) X dX11_skipsTo_6 (by decide) (fun c_1 => ?_) (fun c_1 => ?_)
  · rw [if_pos c_1] at hF
    refine g_ldcw (v := 1000000) X dX11_skipsTo_41 (inr_40 _ (List.mem_of_getElem? (i := 7) rfl)) ?_
    have hF := Option.some.inj hF
    subst hF
    exact g_iret X dX11_skipsTo_44 ho
  · rw [if_neg c_1] at hF
    refine g_aload_n X dX11_skipsTo_9 0 rfl rfl ?_
    refine g_iload_n X dX11_skipsTo_10 1 rfl rfl ?_
    refine g_aload_n X dX11_skipsTo_11 0 rfl rfl ?_
    refine g_getR (f := 2) X dX11_skipsTo_12 flX11_33 rfl rfl h0 ?_
    refine g_bipush (v := 54) X dX11_skipsTo_15 (by decide) ?_
    refine g_iload_n X dX11_skipsTo_17 1 rfl rfl ?_
    refine g_iadd X dX11_skipsTo_18 ?_
    obtain ⟨e_2, hF⟩ := oguard hF
    refine g_iald X dX11_skipsTo_19 kd_29 (on_11_6 h0) e_2 ?_
    refine g_iload_n X dX11_skipsTo_20 3 rfl rfl ?_
    refine g_iadd X dX11_skipsTo_21 ?_
    obtain ⟨r_3, q_4, hF⟩ := obind hF
    refine g_callVi (As := [.int x1, .int ((gA S 29 (a0 + 2) (((54 : Int32) + x1).toNatClampNeg)) + y3)]) X dX11_skipsTo_22 mlX11_252 (fun l D cyy => tX11_dated (cx_inj X) l D cyy a0 x1 ((gA S 29 (a0 + 2) (((54 : Int32) + x1).toNatClampNeg)) + y3) h0 S r_3 q_4) h0 (by decide) rfl rfl (Nat.le_of_ble_eq_true rfl) ?_
    refine g_aload_n X dX11_skipsTo_25 0 rfl rfl ?_
    refine g_iload_n X dX11_skipsTo_26 2 rfl rfl ?_
    obtain ⟨r_5, q_6, hF⟩ := obind hF
    refine g_callVi (As := [.int x2]) X dX11_skipsTo_27 mlX11_264 (fun l D cyy => tX11_today (cx_inj X) l D cyy a0 x2 h0 S r_5 q_6) h0 (by decide) rfl rfl (Nat.le_of_ble_eq_true rfl) ?_
    refine g_icmp_ne (tgt := 35) X dX11_skipsTo_30 (by decide) (fun c_7 => ?_) (fun c_7 => ?_)
    · rw [if_neg c_7] at hF
      refine g_iinc (v := (y3 + (1 : Int32))) X dX11_skipsTo_35 3 rfl rfl (by decide) (lv' := [(3, .int (y3 + (1 : Int32))), (0, .ref (ad a0)), (1, .int x1), (2, .int x2)]) rfl ?_
      refine g_goto (tgt := 2) X dX11_skipsTo_38 (by decide) ?_
      exact g_perm [1, 2, 3, 0] rfl (hk2 (y3 + (1 : Int32)) hF)
    · rw [if_pos c_7] at hF
      refine g_iload_n X dX11_skipsTo_33 3 rfl rfl ?_
      have hF := Option.some.inj hF
      subst hF
      exact g_iret X dX11_skipsTo_34 ho
theorem wX11_skipsTo_h2 {z : Mx} {ad : Nat → Nat} {o : Option Value × St} (X : CxOk z ad RX11 cX11_skipsTo 4 (some .int) 6) (a0 : Nat) (x1 : Int32) (x2 : Int32) (h0 : KT a0 = 11)  (S : St) (r : Int32) (ho : o = (some (.int r), S)) : ∀ (n : Nat) (y3 : Int32), fX11_skipsTo_h2 a0 x1 x2 n y3 S = some r → GW z ad o S 2 [(0, .ref (ad a0)), (1, .int x1), (2, .int x2), (3, .int y3)] [] := by
  intro n
  induction n with
  | zero => intro y3  hF; cases hF
  | succ n ih => intro y3  hF; exact wX11_skipsTo_s2 X a0 x1 x2 h0 y3 (fun y3 => fX11_skipsTo_h2 a0 x1 x2 n y3 S)  S r ho (fun y3 hF => ih y3  hF) hF
theorem wX11_skipsTo {z : Mx} {ad : Nat → Nat} {o : Option Value × St} (X : CxOk z ad RX11 cX11_skipsTo 4 (some .int) 6) (a0 : Nat) (x1 : Int32) (x2 : Int32) (h0 : KT a0 = 11) (S : St) (r : Int32) (ho : o = (some (.int r), S)) (hF : fX11_skipsTo a0 x1 x2 S = some r) : GW z ad o S 0 [(0, .ref (ad a0)), (1, .int x1), (2, .int x2)] [] := by
  unfold fX11_skipsTo at hF
  refine g_iconst (v := 0) X dX11_skipsTo_0 (by decide) ?_
  refine g_istore_n X dX11_skipsTo_1 rfl (by decide) (lv' := [(3, .int (0 : Int32)), (0, .ref (ad a0)), (1, .int x1), (2, .int x2)]) rfl ?_
  exact g_perm [1, 2, 3, 0] rfl (wX11_skipsTo_h2 X a0 x1 x2 h0 S r ho NN (0 : Int32) hF)
theorem tX11_skipsTo {ad : Nat → Nat} (hI : Inj ad) (l : Launch) (D : va_G) (cyy : Nat → ClassId) (a0 : Nat) (x1 : Int32) (x2 : Int32) (h0 : KT a0 = 11) (S : St) (r : Int32) (hF : fX11_skipsTo a0 x1 x2 S = some r) : OkM l yX11_skipsTo cX11_skipsTo 4 (some .int) 6 ad D cyy [.ref (ad a0), .int x1, .int x2] S (some (.int r), S) := okM_of hI (by decide) (inr_40 _ (List.mem_of_getElem? (i := 11) rfl)) (by show _ ≤ 4; exact Nat.le_of_ble_eq_true rfl) (fun z X => wX11_skipsTo X a0 x1 x2 h0 S r rfl hF)
def fX11_agree_s70 (a0 : Nat) (x1 : Int32) (x2 : Int32) (y3 : Int32) (y4 : Int32)  (S : St) : Option (Int32 × St) :=
  if y3 ≤ y4 then (some (y3, S)) else
  (some (y4, S))
def fX11_agree_s55 (a0 : Nat) (x1 : Int32) (x2 : Int32) (y3 : Int32) (y4 : Int32)  (S : St) : Option (Int32 × St) :=
  if y3 ≤ y4 then (fX11_agree_s70 a0 x1 x2 y3 y4 (sI S 11 26 a0 x1)) else
  (fX11_agree_s70 a0 x1 x2 y3 y4 (sI S 11 26 a0 x2))
def fX11_agree_s5 (a0 : Nat) (x1 : Int32) (x2 : Int32)   (S : St) : Option (Int32 × St) :=
  (fX11_isParish a0 x1 S).bind fun r_1 =>
  if r_1 = 0 then (some ((-1 : Int32), S)) else
  ((fX11_isParish a0 x2 S).bind fun r_4 =>
  if r_4 = 0 then (some ((-1 : Int32), S)) else
  ((fX11_skipsTo a0 x1 x2 S).bind fun r_7 =>
  (fX11_skipsTo a0 x2 x1 S).bind fun r_9 =>
  if r_7 = (1000000 : Int32) then (if r_9 = (1000000 : Int32) then (some ((-1 : Int32), S)) else
  (fX11_agree_s55 a0 x1 x2 r_7 r_9 S)) else
  (fX11_agree_s55 a0 x1 x2 r_7 r_9 S)))
def fX11_agree (a0 : Nat) (x1 : Int32) (x2 : Int32) (S : St) : Option (Int32 × St) :=
  fX11_agree_s5 a0 x1 x2 (sI S 11 0 a0 (0 : Int32))
theorem wX11_agree_s70 {z : Mx} {ad : Nat → Nat} {o : Option Value × St} (X : CxOk z ad RX11 cX11_agree 5 (some .int) 7) (a0 : Nat) (x1 : Int32) (x2 : Int32) (h0 : KT a0 = 11) (y3 : Int32) (y4 : Int32)    (S : St) (r : (Int32 × St)) (ho : o = (some (.int r.1), r.2)) (hF : fX11_agree_s70 a0 x1 x2 y3 y4  S = some r) : GW z ad o S 70 [(3, .int y3), (4, .int y4)] [] := by
  unfold fX11_agree_s70 at hF
  refine g_iload X dX11_agree_70 1 rfl ?_
  refine g_iload_n X dX11_agree_72 0 rfl rfl ?_
  refine g_icmp_ge (tgt := 81) X dX11_agree_73 (by decide) (fun c_13 => ?_) (fun c_13 => ?_)
  · rw [if_pos c_13] at hF
    refine g_iload_n X dX11_agree_81 0 rfl rfl ?_
    have hF := Option.some.inj hF
    subst hF
    exact g_iret X dX11_agree_82 ho
  · rw [if_neg c_13] at hF
    refine g_iload X dX11_agree_76 1 rfl ?_
    refine g_goto (tgt := 82) X dX11_agree_78 (by decide) ?_
    have hF := Option.some.inj hF
    subst hF
    exact g_iret X dX11_agree_82 ho
theorem wX11_agree_s55 {z : Mx} {ad : Nat → Nat} {o : Option Value × St} (X : CxOk z ad RX11 cX11_agree 5 (some .int) 7) (a0 : Nat) (x1 : Int32) (x2 : Int32) (h0 : KT a0 = 11) (y3 : Int32) (y4 : Int32)    (S : St) (r : (Int32 × St)) (ho : o = (some (.int r.1), r.2)) (hF : fX11_agree_s55 a0 x1 x2 y3 y4  S = some r) : GW z ad o S 55 [(0, .ref (ad a0)), (1, .int x1), (2, .int x2), (3, .int y3), (4, .int y4)] [] := by
  unfold fX11_agree_s55 at hF
  refine g_aload_n X dX11_agree_55 0 rfl rfl ?_
  refine g_iload X dX11_agree_56 4 rfl ?_
  refine g_iload_n X dX11_agree_58 3 rfl rfl ?_
  refine g_icmp_ge (tgt := 66) X dX11_agree_59 (by decide) (fun c_12 => ?_) (fun c_12 => ?_)
  · rw [if_pos c_12] at hF
    refine g_iload_n X dX11_agree_66 1 rfl rfl ?_
    refine g_putI X dX11_agree_67 fpX11_62 rfl rfl rfl h0 ?_
    exact g_perm [3, 4] rfl (wX11_agree_s70 X a0 x1 x2 h0 y3 y4 (sI S 11 26 a0 x1) r ho hF)
  · rw [if_neg c_12] at hF
    refine g_iload_n X dX11_agree_62 2 rfl rfl ?_
    refine g_goto (tgt := 67) X dX11_agree_63 (by decide) ?_
    refine g_putI X dX11_agree_67 fpX11_62 rfl rfl rfl h0 ?_
    exact g_perm [3, 4] rfl (wX11_agree_s70 X a0 x1 x2 h0 y3 y4 (sI S 11 26 a0 x2) r ho hF)
theorem wX11_agree_s5 {z : Mx} {ad : Nat → Nat} {o : Option Value × St} (X : CxOk z ad RX11 cX11_agree 5 (some .int) 7) (a0 : Nat) (x1 : Int32) (x2 : Int32) (h0 : KT a0 = 11)     (S : St) (r : (Int32 × St)) (ho : o = (some (.int r.1), r.2)) (hF : fX11_agree_s5 a0 x1 x2   S = some r) : GW z ad o S 5 [(0, .ref (ad a0)), (1, .int x1), (2, .int x2)] [] := by
  unfold fX11_agree_s5 at hF
  refine g_aload_n X dX11_agree_5 0 rfl rfl ?_
  refine g_iload_n X dX11_agree_6 1 rfl rfl ?_
  obtain ⟨r_1, q_2, hF⟩ := obind hF
  refine g_callVi (As := [.int x1]) X dX11_agree_7 mlX11_267 (fun l D cyy => tX11_isParish (cx_inj X) l D cyy a0 x1 h0 S r_1 q_2) h0 (by decide) rfl rfl (Nat.le_of_ble_eq_true rfl) ?_
  refine g_if_eq (tgt := 21) X dX11_agree_10 (by decide) (fun c_3 => ?_) (fun c_3 => ?_)
  · rw [if_pos c_3] at hF
    refine g_iconst (v := -1) X dX11_agree_21 (by decide) ?_
    have hF := Option.some.inj hF
    subst hF
    exact g_iret X dX11_agree_22 ho
  · rw [if_neg c_3] at hF
    refine g_aload_n X dX11_agree_13 0 rfl rfl ?_
    refine g_iload_n X dX11_agree_14 2 rfl rfl ?_
    obtain ⟨r_4, q_5, hF⟩ := obind hF
    refine g_callVi (As := [.int x2]) X dX11_agree_15 mlX11_267 (fun l D cyy => tX11_isParish (cx_inj X) l D cyy a0 x2 h0 S r_4 q_5) h0 (by decide) rfl rfl (Nat.le_of_ble_eq_true rfl) ?_
    refine g_if_ne (tgt := 23) X dX11_agree_18 (by decide) (fun c_6 => ?_) (fun c_6 => ?_)
    · rw [if_neg c_6] at hF
      refine g_aload_n X dX11_agree_23 0 rfl rfl ?_
      refine g_iload_n X dX11_agree_24 1 rfl rfl ?_
      refine g_iload_n X dX11_agree_25 2 rfl rfl ?_
      obtain ⟨r_7, q_8, hF⟩ := obind hF
      refine g_callVi (As := [.int x1, .int x2]) X dX11_agree_26 mlX11_323 (fun l D cyy => tX11_skipsTo (cx_inj X) l D cyy a0 x1 x2 h0 S r_7 q_8) h0 (by decide) rfl rfl (Nat.le_of_ble_eq_true rfl) ?_
      refine g_istore_n X dX11_agree_29 rfl (by decide) (lv' := [(3, .int r_7), (0, .ref (ad a0)), (1, .int x1), (2, .int x2)]) rfl ?_
      refine g_aload_n X dX11_agree_30 1 rfl rfl ?_
      refine g_iload_n X dX11_agree_31 3 rfl rfl ?_
      refine g_iload_n X dX11_agree_32 2 rfl rfl ?_
      obtain ⟨r_9, q_10, hF⟩ := obind hF
      refine g_callVi (As := [.int x2, .int x1]) X dX11_agree_33 mlX11_323 (fun l D cyy => tX11_skipsTo (cx_inj X) l D cyy a0 x2 x1 h0 S r_9 q_10) h0 (by decide) rfl rfl (Nat.le_of_ble_eq_true rfl) ?_
      refine g_istore X dX11_agree_36 (by decide) (lv' := [(4, .int r_9), (3, .int r_7), (0, .ref (ad a0)), (1, .int x1), (2, .int x2)]) rfl ?_
      refine g_iload_n X dX11_agree_38 1 rfl rfl ?_
      refine g_ldcw (v := 1000000) X dX11_agree_39 (inr_40 _ (List.mem_of_getElem? (i := 7) rfl)) ?_
      refine g_icmp_ne (tgt := 55) X dX11_agree_42 (by decide) (fun c_11 => ?_) (fun c_11 => ?_)
      · rw [if_neg c_11] at hF
        exact g_perm [2, 3, 4, 1, 0] rfl (wX11_agree_s55 X a0 x1 x2 h0 r_7 r_9 S r ho hF)
      · rw [if_pos c_11] at hF
        refine g_iload X dX11_agree_45 0 rfl ?_
        refine g_ldcw (v := 1000000) X dX11_agree_47 (inr_40 _ (List.mem_of_getElem? (i := 7) rfl)) ?_
        refine g_icmp_ne (tgt := 55) X dX11_agree_50 (by decide) (fun c_14 => ?_) (fun c_14 => ?_)
        · rw [if_neg c_14] at hF
          exact g_perm [2, 3, 4, 1, 0] rfl (wX11_agree_s55 X a0 x1 x2 h0 r_7 r_9 S r ho hF)
        · rw [if_pos c_14] at hF
          refine g_iconst (v := -1) X dX11_agree_53 (by decide) ?_
          have hF := Option.some.inj hF
          subst hF
          exact g_iret X dX11_agree_54 ho
    · rw [if_pos c_6] at hF
      refine g_iconst (v := -1) X dX11_agree_21 (by decide) ?_
      have hF := Option.some.inj hF
      subst hF
      exact g_iret X dX11_agree_22 ho
theorem wX11_agree {z : Mx} {ad : Nat → Nat} {o : Option Value × St} (X : CxOk z ad RX11 cX11_agree 5 (some .int) 7) (a0 : Nat) (x1 : Int32) (x2 : Int32) (h0 : KT a0 = 11) (S : St) (r : (Int32 × St)) (ho : o = (some (.int r.1), r.2)) (hF : fX11_agree a0 x1 x2 S = some r) : GW z ad o S 0 [(0, .ref (ad a0)), (1, .int x1), (2, .int x2)] [] := by
  unfold fX11_agree at hF
  refine g_aload_n X dX11_agree_0 0 rfl rfl ?_
  refine g_iconst (v := 0) X dX11_agree_1 (by decide) ?_
  refine g_putI X dX11_agree_2 fpX11_1 rfl rfl rfl h0 ?_
  exact (wX11_agree_s5 X a0 x1 x2 h0 (sI S 11 0 a0 (0 : Int32)) r ho hF)
theorem tX11_agree {ad : Nat → Nat} (hI : Inj ad) (l : Launch) (D : va_G) (cyy : Nat → ClassId) (a0 : Nat) (x1 : Int32) (x2 : Int32) (h0 : KT a0 = 11) (S : St) (r : (Int32 × St)) (hF : fX11_agree a0 x1 x2 S = some r) : OkM l yX11_agree cX11_agree 5 (some .int) 7 ad D cyy [.ref (ad a0), .int x1, .int x2] S (some (.int r.1), r.2) := okM_of hI (by decide) (inr_40 _ (List.mem_of_getElem? (i := 6) rfl)) (by show _ ≤ 5; exact Nat.le_of_ble_eq_true rfl) (fun z X => wX11_agree X a0 x1 x2 h0 S r rfl hF)
def fX11_agreeing_s5 (a0 : Nat)   (S : St) : (Int32 × St) :=
  ((gI S 11 26 a0), S)
def fX11_agreeing (a0 : Nat) (S : St) : (Int32 × St) :=
  fX11_agreeing_s5 a0 (sI S 11 0 a0 (0 : Int32))
theorem wX11_agreeing_s5 {z : Mx} {ad : Nat → Nat} {o : Option Value × St} (X : CxOk z ad RX11 cX11_agreeing 1 (some .int) 1) (a0 : Nat) (h0 : KT a0 = 11)     (S : St) (r : (Int32 × St)) (ho : o = (some (.int r.1), r.2)) (hF : fX11_agreeing_s5 a0   S = r) : GW z ad o S 5 [(0, .ref (ad a0))] [] := by
  unfold fX11_agreeing_s5 at hF
  refine g_aload_n X dX11_agreeing_5 0 rfl rfl ?_
  refine g_getI X dX11_agreeing_6 flX11_62 rfl h0 ?_
  subst hF
  exact g_iret X dX11_agreeing_9 ho
theorem wX11_agreeing {z : Mx} {ad : Nat → Nat} {o : Option Value × St} (X : CxOk z ad RX11 cX11_agreeing 1 (some .int) 1) (a0 : Nat) (h0 : KT a0 = 11) (S : St) (r : (Int32 × St)) (ho : o = (some (.int r.1), r.2)) (hF : fX11_agreeing a0 S = r) : GW z ad o S 0 [(0, .ref (ad a0))] [] := by
  unfold fX11_agreeing at hF
  refine g_aload_n X dX11_agreeing_0 0 rfl rfl ?_
  refine g_iconst (v := 0) X dX11_agreeing_1 (by decide) ?_
  refine g_putI X dX11_agreeing_2 fpX11_1 rfl rfl rfl h0 ?_
  exact (wX11_agreeing_s5 X a0 h0 (sI S 11 0 a0 (0 : Int32)) r ho hF)
theorem tX11_agreeing {ad : Nat → Nat} (hI : Inj ad) (l : Launch) (D : va_G) (cyy : Nat → ClassId) (a0 : Nat) (h0 : KT a0 = 11) (S : St) : OkM l yX11_agreeing cX11_agreeing 1 (some .int) 1 ad D cyy [.ref (ad a0)] S (some (.int (fX11_agreeing a0 S).1), (fX11_agreeing a0 S).2) := okM_of hI (by decide) (inr_40 _ (List.mem_of_getElem? (i := 20) rfl)) (by show _ ≤ 1; exact Nat.le_of_ble_eq_true rfl) (fun z X => wX11_agreeing X a0 h0 S _ rfl rfl)
def fX11_match_s101 (a0 : Nat) (x1 : Int32) (x2 : Int32) (x3 : Int32) (y4 : Int32)  (S : St) : Option (Int32 × St) :=
  some (y4, S)
def fX11_match_s74 (k40 : Int32 → Int32 → St → Option (Int32 × St)) (a0 : Nat) (x1 : Int32) (x2 : Int32) (x3 : Int32) (y4 : Int32) (y5 : Int32)  (S : St) : Option (Int32 × St) :=
  k40 y4 (y5 + (-1 : Int32)) S
def fX11_match_s40 (k40 : Int32 → Int32 → St → Option (Int32 × St)) (a0 : Nat) (x1 : Int32) (x2 : Int32) (x3 : Int32) (y4 : Int32) (y5 : Int32)  (S : St) : Option (Int32 × St) :=
  if y5 < 0 then (if (gI S 11 29 a0) = 0 then (if y4 ≤ 0 then (fX11_match_s101 a0 x1 x2 x3 y4 (sI S 11 29 a0 (0 : Int32))) else
  (fX11_match_s101 a0 x1 x2 x3 y4 (sI S 11 29 a0 (1 : Int32)))) else
  (fX11_match_s101 a0 x1 x2 x3 y4 (sI S 11 29 a0 (1 : Int32)))) else
  ((fX11_datedIn a0 x1 y5 S).bind fun r_11 =>
  (fX11_datedIn a0 x2 y5 S).bind fun r_13 =>
  if r_11 = r_13 then (fX11_match_s74 k40 a0 x1 x2 x3 (y4 + (1 : Int32)) y5 (sI S 11 28 a0 y5)) else
  (fX11_match_s74 k40 a0 x1 x2 x3 y4 y5 S))
def fX11_match_h40 (a0 : Nat) (x1 : Int32) (x2 : Int32) (x3 : Int32) : Nat → Int32 → Int32 → St → Option (Int32 × St)
  | 0, _, _, _ => none
  | n + 1, y4, y5, S => fX11_match_s40 (fX11_match_h40 a0 x1 x2 x3 n) a0 x1 x2 x3 y4 y5 S
def fX11_match_s5 (a0 : Nat) (x1 : Int32) (x2 : Int32) (x3 : Int32)   (S : St) : Option (Int32 × St) :=
  (fX11_isParish a0 x1 S).bind fun r_1 =>
  if r_1 = 0 then (some ((-1 : Int32), S)) else
  ((fX11_isParish a0 x2 S).bind fun r_4 =>
  if r_4 = 0 then (some ((-1 : Int32), S)) else
  (if (fX11_isIn x3 (0 : Int32) (999 : Int32) S) = 0 then (some ((-1 : Int32), S)) else
  (fX11_match_h40 a0 x1 x2 x3 NN (0 : Int32) x3 S)))
def fX11_match (a0 : Nat) (x1 : Int32) (x2 : Int32) (x3 : Int32) (S : St) : Option (Int32 × St) :=
  fX11_match_s5 a0 x1 x2 x3 (sI S 11 0 a0 (0 : Int32))
theorem wX11_match_s101 {z : Mx} {ad : Nat → Nat} {o : Option Value × St} (X : CxOk z ad RX11 cX11_match 6 (some .int) 6) (a0 : Nat) (x1 : Int32) (x2 : Int32) (x3 : Int32) (h0 : KT a0 = 11) (y4 : Int32)    (S : St) (r : (Int32 × St)) (ho : o = (some (.int r.1), r.2)) (hF : fX11_match_s101 a0 x1 x2 x3 y4  S = some r) : GW z ad o S 101 [(4, .int y4)] [] := by
  unfold fX11_match_s101 at hF
  refine g_iload X dX11_match_101 0 rfl ?_
  have hF := Option.some.inj hF
  subst hF
  exact g_iret X dX11_match_103 ho
theorem wX11_match_s74 {z : Mx} {ad : Nat → Nat} {o : Option Value × St} (X : CxOk z ad RX11 cX11_match 6 (some .int) 6) (a0 : Nat) (x1 : Int32) (x2 : Int32) (x3 : Int32) (h0 : KT a0 = 11) (y4 : Int32) (y5 : Int32)  (k40 : Int32 → Int32 → St → Option (Int32 × St))   (S : St) (r : (Int32 × St)) (ho : o = (some (.int r.1), r.2)) (hk40 : ∀ (y4 : Int32) (y5 : Int32) (S : St), k40 y4 y5 S = some r → GW z ad o S 40 [(0, .ref (ad a0)), (1, .int x1), (2, .int x2), (4, .int y4), (5, .int y5)] []) (hF : fX11_match_s74 k40 a0 x1 x2 x3 y4 y5  S = some r) : GW z ad o S 74 [(0, .ref (ad a0)), (1, .int x1), (2, .int x2), (4, .int y4), (5, .int y5)] [] := by
  unfold fX11_match_s74 at hF
  refine g_iinc (v := (y5 + (-1 : Int32))) X dX11_match_74 4 rfl rfl (by decide) (lv' := [(5, .int (y5 + (-1 : Int32))), (0, .ref (ad a0)), (1, .int x1), (2, .int x2), (4, .int y4)]) rfl ?_
  refine g_goto (tgt := 40) X dX11_match_77 (by decide) ?_
  exact g_perm [1, 2, 3, 4, 0] rfl (hk40 y4 (y5 + (-1 : Int32)) S hF)
theorem wX11_match_s40 {z : Mx} {ad : Nat → Nat} {o : Option Value × St} (X : CxOk z ad RX11 cX11_match 6 (some .int) 6) (a0 : Nat) (x1 : Int32) (x2 : Int32) (x3 : Int32) (h0 : KT a0 = 11) (y4 : Int32) (y5 : Int32)  (k40 : Int32 → Int32 → St → Option (Int32 × St))   (S : St) (r : (Int32 × St)) (ho : o = (some (.int r.1), r.2)) (hk40 : ∀ (y4 : Int32) (y5 : Int32) (S : St), k40 y4 y5 S = some r → GW z ad o S 40 [(0, .ref (ad a0)), (1, .int x1), (2, .int x2), (4, .int y4), (5, .int y5)] []) (hF : fX11_match_s40 k40 a0 x1 x2 x3 y4 y5  S = some r) : GW z ad o S 40 [(0, .ref (ad a0)), (1, .int x1), (2, .int x2), (4, .int y4), (5, .int y5)] [] := by
  unfold fX11_match_s40 at hF
  refine g_iload X dX11_match_40 4 rfl ?_
  refine g_if_lt (tgt := 80) X dX11_match_42 (by decide) (fun c_8 => ?_) (fun c_8 => ?_)
  · rw [if_pos c_8] at hF
    refine g_aload_n X dX11_match_80 0 rfl rfl ?_
    refine g_aload_n X dX11_match_81 0 rfl rfl ?_
    refine g_getI X dX11_match_82 flX11_329 rfl h0 ?_
    refine g_if_ne (tgt := 93) X dX11_match_85 (by decide) (fun c_9 => ?_) (fun c_9 => ?_)
    · rw [if_neg c_9] at hF
      refine g_iconst (v := 1) X dX11_match_93 (by decide) ?_
      refine g_goto (tgt := 98) X dX11_match_94 (by decide) ?_
      refine g_putI X dX11_match_98 fpX11_329 rfl (by decide) (by decide) h0 ?_
      exact g_perm [3] rfl (wX11_match_s101 X a0 x1 x2 x3 h0 y4 (sI S 11 29 a0 (1 : Int32)) r ho hF)
    · rw [if_pos c_9] at hF
      refine g_iload X dX11_match_88 3 rfl ?_
      refine g_if_le (tgt := 97) X dX11_match_90 (by decide) (fun c_10 => ?_) (fun c_10 => ?_)
      · rw [if_pos c_10] at hF
        refine g_iconst (v := 0) X dX11_match_97 (by decide) ?_
        refine g_putI X dX11_match_98 fpX11_329 rfl (by decide) (by decide) h0 ?_
        exact g_perm [3] rfl (wX11_match_s101 X a0 x1 x2 x3 h0 y4 (sI S 11 29 a0 (0 : Int32)) r ho hF)
      · rw [if_neg c_10] at hF
        refine g_iconst (v := 1) X dX11_match_93 (by decide) ?_
        refine g_goto (tgt := 98) X dX11_match_94 (by decide) ?_
        refine g_putI X dX11_match_98 fpX11_329 rfl (by decide) (by decide) h0 ?_
        exact g_perm [3] rfl (wX11_match_s101 X a0 x1 x2 x3 h0 y4 (sI S 11 29 a0 (1 : Int32)) r ho hF)
  · rw [if_neg c_8] at hF
    refine g_aload_n X dX11_match_45 0 rfl rfl ?_
    refine g_iload_n X dX11_match_46 1 rfl rfl ?_
    refine g_iload X dX11_match_47 4 rfl ?_
    obtain ⟨r_11, q_12, hF⟩ := obind hF
    refine g_callVi (As := [.int x1, .int y5]) X dX11_match_49 mlX11_261 (fun l D cyy => tX11_datedIn (cx_inj X) l D cyy a0 x1 y5 h0 S r_11 q_12) h0 (by decide) rfl rfl (Nat.le_of_ble_eq_true rfl) ?_
    refine g_aload_n X dX11_match_52 0 rfl rfl ?_
    refine g_iload_n X dX11_match_53 2 rfl rfl ?_
    refine g_iload X dX11_match_54 4 rfl ?_
    obtain ⟨r_13, q_14, hF⟩ := obind hF
    refine g_callVi (As := [.int x2, .int y5]) X dX11_match_56 mlX11_261 (fun l D cyy => tX11_datedIn (cx_inj X) l D cyy a0 x2 y5 h0 S r_13 q_14) h0 (by decide) rfl rfl (Nat.le_of_ble_eq_true rfl) ?_
    refine g_icmp_eq (tgt := 65) X dX11_match_59 (by decide) (fun c_15 => ?_) (fun c_15 => ?_)
    · rw [if_pos c_15] at hF
      refine g_iinc (v := (y4 + (1 : Int32))) X dX11_match_65 3 rfl rfl (by decide) (lv' := [(4, .int (y4 + (1 : Int32))), (0, .ref (ad a0)), (1, .int x1), (2, .int x2), (5, .int y5)]) rfl ?_
      refine g_aload_n X dX11_match_68 1 rfl rfl ?_
      refine g_iload X dX11_match_69 4 rfl ?_
      refine g_putI X dX11_match_71 fpX11_326 rfl rfl rfl h0 ?_
      exact g_perm [1, 2, 3, 0, 4] rfl (wX11_match_s74 X a0 x1 x2 x3 h0 (y4 + (1 : Int32)) y5 k40 (sI S 11 28 a0 y5) r ho hk40 hF)
    · rw [if_neg c_15] at hF
      refine g_goto (tgt := 74) X dX11_match_62 (by decide) ?_
      exact (wX11_match_s74 X a0 x1 x2 x3 h0 y4 y5 k40 S r ho hk40 hF)
theorem wX11_match_h40 {z : Mx} {ad : Nat → Nat} {o : Option Value × St} (X : CxOk z ad RX11 cX11_match 6 (some .int) 6) (a0 : Nat) (x1 : Int32) (x2 : Int32) (x3 : Int32) (h0 : KT a0 = 11)  (r : (Int32 × St)) (ho : o = (some (.int r.1), r.2)) : ∀ (n : Nat) (y4 : Int32) (y5 : Int32) (S : St), fX11_match_h40 a0 x1 x2 x3 n y4 y5 S = some r → GW z ad o S 40 [(0, .ref (ad a0)), (1, .int x1), (2, .int x2), (4, .int y4), (5, .int y5)] [] := by
  intro n
  induction n with
  | zero => intro y4 y5 S  hF; cases hF
  | succ n ih => intro y4 y5 S  hF; exact wX11_match_s40 X a0 x1 x2 x3 h0 y4 y5 (fX11_match_h40 a0 x1 x2 x3 n)  S r ho ih hF
theorem wX11_match_s5 {z : Mx} {ad : Nat → Nat} {o : Option Value × St} (X : CxOk z ad RX11 cX11_match 6 (some .int) 6) (a0 : Nat) (x1 : Int32) (x2 : Int32) (x3 : Int32) (h0 : KT a0 = 11)     (S : St) (r : (Int32 × St)) (ho : o = (some (.int r.1), r.2)) (hF : fX11_match_s5 a0 x1 x2 x3   S = some r) : GW z ad o S 5 [(0, .ref (ad a0)), (1, .int x1), (2, .int x2), (3, .int x3)] [] := by
  unfold fX11_match_s5 at hF
  refine g_aload_n X dX11_match_5 0 rfl rfl ?_
  refine g_iload_n X dX11_match_6 1 rfl rfl ?_
  obtain ⟨r_1, q_2, hF⟩ := obind hF
  refine g_callVi (As := [.int x1]) X dX11_match_7 mlX11_267 (fun l D cyy => tX11_isParish (cx_inj X) l D cyy a0 x1 h0 S r_1 q_2) h0 (by decide) rfl rfl (Nat.le_of_ble_eq_true rfl) ?_
  refine g_if_eq (tgt := 32) X dX11_match_10 (by decide) (fun c_3 => ?_) (fun c_3 => ?_)
  · rw [if_pos c_3] at hF
    refine g_iconst (v := -1) X dX11_match_32 (by decide) ?_
    have hF := Option.some.inj hF
    subst hF
    exact g_iret X dX11_match_33 ho
  · rw [if_neg c_3] at hF
    refine g_aload_n X dX11_match_13 0 rfl rfl ?_
    refine g_iload_n X dX11_match_14 2 rfl rfl ?_
    obtain ⟨r_4, q_5, hF⟩ := obind hF
    refine g_callVi (As := [.int x2]) X dX11_match_15 mlX11_267 (fun l D cyy => tX11_isParish (cx_inj X) l D cyy a0 x2 h0 S r_4 q_5) h0 (by decide) rfl rfl (Nat.le_of_ble_eq_true rfl) ?_
    refine g_if_eq (tgt := 32) X dX11_match_18 (by decide) (fun c_6 => ?_) (fun c_6 => ?_)
    · rw [if_pos c_6] at hF
      refine g_iconst (v := -1) X dX11_match_32 (by decide) ?_
      have hF := Option.some.inj hF
      subst hF
      exact g_iret X dX11_match_33 ho
    · rw [if_neg c_6] at hF
      refine g_iload_n X dX11_match_21 3 rfl rfl ?_
      refine g_iconst (v := 0) X dX11_match_22 (by decide) ?_
      refine g_sipush (v := 999) X dX11_match_23 (by decide) ?_
      refine g_callSi (As := [.int x3, .int (0 : Int32), .int (999 : Int32)]) X dX11_match_26 mlX11_173 (fun l D cyy => tX11_isIn (cx_inj X) l D cyy x3 (0 : Int32) (999 : Int32)  S) (by decide) rfl rfl (Nat.le_of_ble_eq_true rfl) ?_
      refine g_if_ne (tgt := 34) X dX11_match_29 (by decide) (fun c_7 => ?_) (fun c_7 => ?_)
      · rw [if_neg c_7] at hF
        refine g_iconst (v := 0) X dX11_match_34 (by decide) ?_
        refine g_istore X dX11_match_35 (by decide) (lv' := [(4, .int (0 : Int32)), (0, .ref (ad a0)), (1, .int x1), (2, .int x2), (3, .int x3)]) rfl ?_
        refine g_iload_n X dX11_match_37 4 rfl rfl ?_
        refine g_istore X dX11_match_38 (by decide) (lv' := [(5, .int x3), (4, .int (0 : Int32)), (0, .ref (ad a0)), (1, .int x1), (2, .int x2), (3, .int x3)]) rfl ?_
        exact g_perm [2, 3, 4, 1, 0] rfl (wX11_match_h40 X a0 x1 x2 x3 h0 r ho NN (0 : Int32) x3 S hF)
      · rw [if_pos c_7] at hF
        refine g_iconst (v := -1) X dX11_match_32 (by decide) ?_
        have hF := Option.some.inj hF
        subst hF
        exact g_iret X dX11_match_33 ho
theorem wX11_match {z : Mx} {ad : Nat → Nat} {o : Option Value × St} (X : CxOk z ad RX11 cX11_match 6 (some .int) 6) (a0 : Nat) (x1 : Int32) (x2 : Int32) (x3 : Int32) (h0 : KT a0 = 11) (S : St) (r : (Int32 × St)) (ho : o = (some (.int r.1), r.2)) (hF : fX11_match a0 x1 x2 x3 S = some r) : GW z ad o S 0 [(0, .ref (ad a0)), (1, .int x1), (2, .int x2), (3, .int x3)] [] := by
  unfold fX11_match at hF
  refine g_aload_n X dX11_match_0 0 rfl rfl ?_
  refine g_iconst (v := 0) X dX11_match_1 (by decide) ?_
  refine g_putI X dX11_match_2 fpX11_1 rfl rfl rfl h0 ?_
  exact (wX11_match_s5 X a0 x1 x2 x3 h0 (sI S 11 0 a0 (0 : Int32)) r ho hF)
theorem tX11_match {ad : Nat → Nat} (hI : Inj ad) (l : Launch) (D : va_G) (cyy : Nat → ClassId) (a0 : Nat) (x1 : Int32) (x2 : Int32) (x3 : Int32) (h0 : KT a0 = 11) (S : St) (r : (Int32 × St)) (hF : fX11_match a0 x1 x2 x3 S = some r) : OkM l yX11_match cX11_match 6 (some .int) 6 ad D cyy [.ref (ad a0), .int x1, .int x2, .int x3] S (some (.int r.1), r.2) := okM_of hI (by decide) (inr_41 _ (List.mem_of_getElem? (i := 8) rfl)) (by show _ ≤ 6; exact Nat.le_of_ble_eq_true rfl) (fun z X => wX11_match X a0 x1 x2 x3 h0 S r rfl hF)
def fX11_matchOn_s5 (a0 : Nat)   (S : St) : (Int32 × St) :=
  if (gI S 11 29 a0) = 0 then (((-1 : Int32), S)) else
  (((gI S 11 28 a0), S))
def fX11_matchOn (a0 : Nat) (S : St) : (Int32 × St) :=
  fX11_matchOn_s5 a0 (sI S 11 0 a0 (0 : Int32))
theorem wX11_matchOn_s5 {z : Mx} {ad : Nat → Nat} {o : Option Value × St} (X : CxOk z ad RX11 cX11_matchOn 1 (some .int) 1) (a0 : Nat) (h0 : KT a0 = 11)     (S : St) (r : (Int32 × St)) (ho : o = (some (.int r.1), r.2)) (hF : fX11_matchOn_s5 a0   S = r) : GW z ad o S 5 [(0, .ref (ad a0))] [] := by
  unfold fX11_matchOn_s5 at hF
  refine g_aload_n X dX11_matchOn_5 0 rfl rfl ?_
  refine g_getI X dX11_matchOn_6 flX11_329 rfl h0 ?_
  refine g_if_eq (tgt := 19) X dX11_matchOn_9 (by decide) (fun c_1 => ?_) (fun c_1 => ?_)
  · rw [if_pos c_1] at hF
    refine g_iconst (v := -1) X dX11_matchOn_19 (by decide) ?_
    subst hF
    exact g_iret X dX11_matchOn_20 ho
  · rw [if_neg c_1] at hF
    refine g_aload_n X dX11_matchOn_12 0 rfl rfl ?_
    refine g_getI X dX11_matchOn_13 flX11_326 rfl h0 ?_
    refine g_goto (tgt := 20) X dX11_matchOn_16 (by decide) ?_
    subst hF
    exact g_iret X dX11_matchOn_20 ho
theorem wX11_matchOn {z : Mx} {ad : Nat → Nat} {o : Option Value × St} (X : CxOk z ad RX11 cX11_matchOn 1 (some .int) 1) (a0 : Nat) (h0 : KT a0 = 11) (S : St) (r : (Int32 × St)) (ho : o = (some (.int r.1), r.2)) (hF : fX11_matchOn a0 S = r) : GW z ad o S 0 [(0, .ref (ad a0))] [] := by
  unfold fX11_matchOn at hF
  refine g_aload_n X dX11_matchOn_0 0 rfl rfl ?_
  refine g_iconst (v := 0) X dX11_matchOn_1 (by decide) ?_
  refine g_putI X dX11_matchOn_2 fpX11_1 rfl rfl rfl h0 ?_
  exact (wX11_matchOn_s5 X a0 h0 (sI S 11 0 a0 (0 : Int32)) r ho hF)
theorem tX11_matchOn {ad : Nat → Nat} (hI : Inj ad) (l : Launch) (D : va_G) (cyy : Nat → ClassId) (a0 : Nat) (h0 : KT a0 = 11) (S : St) : OkM l yX11_matchOn cX11_matchOn 1 (some .int) 1 ad D cyy [.ref (ad a0)] S (some (.int (fX11_matchOn a0 S).1), (fX11_matchOn a0 S).2) := okM_of hI (by decide) (inr_41 _ (List.mem_of_getElem? (i := 19) rfl)) (by show _ ≤ 1; exact Nat.le_of_ble_eq_true rfl) (fun z X => wX11_matchOn X a0 h0 S _ rfl rfl)
def fX11_reform_s89 (a0 : Nat) (y1 : Int32)  (S : St) : Option (Int32 × St) :=
  some (y1, S)
def fX11_reform_s72 (k13 : Int32 → Int32 → Int32 → St → Option (Int32 × St)) (a0 : Nat) (y1 : Int32) (y2 : Int32) (y3 : Int32)  (S : St) : Option (Int32 × St) :=
  k13 y1 y2 (y3 + (1 : Int32)) S
def fX11_reform_s52 (k13 : Int32 → Int32 → Int32 → St → Option (Int32 × St)) (k29 : Int32 → Int32 → Int32 → Int32 → Int32 → St → Option (Int32 × St)) (a0 : Nat) (y1 : Int32) (y2 : Int32) (y3 : Int32) (y4 : Int32) (y5 : Int32)  (S : St) : Option (Int32 × St) :=
  k29 y1 y2 y3 y4 (y5 + (1 : Int32)) S
def fX11_reform_s29 (k13 : Int32 → Int32 → Int32 → St → Option (Int32 × St)) (k29 : Int32 → Int32 → Int32 → Int32 → Int32 → St → Option (Int32 × St)) (a0 : Nat) (y1 : Int32) (y2 : Int32) (y3 : Int32) (y4 : Int32) (y5 : Int32)  (S : St) : Option (Int32 × St) :=
  if (gA S 29 (a0 + 2) 0) ≤ y5 then (if y4 < y1 then (fX11_reform_s72 k13 a0 y4 y3 y3 S) else
  (fX11_reform_s72 k13 a0 y1 y2 y3 S)) else
  ((fX11_skipsTo a0 y5 y3 S).bind fun r_5 =>
  fX11_reform_s52 k13 k29 a0 y1 y2 y3 (y4 + r_5) y5 S)
def fX11_reform_h29 (k13 : Int32 → Int32 → Int32 → St → Option (Int32 × St)) (a0 : Nat) : Nat → Int32 → Int32 → Int32 → Int32 → Int32 → St → Option (Int32 × St)
  | 0, _, _, _, _, _, _ => none
  | n + 1, y1, y2, y3, y4, y5, S => fX11_reform_s29 k13 (fX11_reform_h29 k13 a0 n) a0 y1 y2 y3 y4 y5 S
def fX11_reform_s13 (k13 : Int32 → Int32 → Int32 → St → Option (Int32 × St)) (a0 : Nat) (y1 : Int32) (y2 : Int32) (y3 : Int32)  (S : St) : Option (Int32 × St) :=
  if (gA S 29 (a0 + 2) 0) ≤ y3 then (if 0 ≤ y2 then (fX11_reform_s89 a0 y1 (sI S 11 27 a0 y2)) else
  (some ((-1 : Int32), S))) else
  (fX11_reform_h29 k13 a0 NN y1 y2 y3 (0 : Int32) (0 : Int32) S)
def fX11_reform_h13 (a0 : Nat) : Nat → Int32 → Int32 → Int32 → St → Option (Int32 × St)
  | 0, _, _, _, _ => none
  | n + 1, y1, y2, y3, S => fX11_reform_s13 (fX11_reform_h13 a0 n) a0 y1 y2 y3 S
def fX11_reform_s5 (a0 : Nat)   (S : St) : Option (Int32 × St) :=
  fX11_reform_h13 a0 NN (1000000 : Int32) (-1 : Int32) (0 : Int32) S
def fX11_reform (a0 : Nat) (S : St) : Option (Int32 × St) :=
  fX11_reform_s5 a0 (sI S 11 0 a0 (0 : Int32))
theorem wX11_reform_s89 {z : Mx} {ad : Nat → Nat} {o : Option Value × St} (X : CxOk z ad RX11 cX11_reform 6 (some .int) 7) (a0 : Nat) (h0 : KT a0 = 11) (y1 : Int32)    (S : St) (r : (Int32 × St)) (ho : o = (some (.int r.1), r.2)) (hF : fX11_reform_s89 a0 y1  S = some r) : GW z ad o S 89 [(1, .int y1)] [] := by
  unfold fX11_reform_s89 at hF
  refine g_iload_n X dX11_reform_89 0 rfl rfl ?_
  have hF := Option.some.inj hF
  subst hF
  exact g_iret X dX11_reform_90 ho
theorem wX11_reform_s72 {z : Mx} {ad : Nat → Nat} {o : Option Value × St} (X : CxOk z ad RX11 cX11_reform 6 (some .int) 7) (a0 : Nat) (h0 : KT a0 = 11) (y1 : Int32) (y2 : Int32) (y3 : Int32)  (k13 : Int32 → Int32 → Int32 → St → Option (Int32 × St))   (S : St) (r : (Int32 × St)) (ho : o = (some (.int r.1), r.2)) (hk13 : ∀ (y1 : Int32) (y2 : Int32) (y3 : Int32) (S : St), k13 y1 y2 y3 S = some r → GW z ad o S 13 [(0, .ref (ad a0)), (1, .int y1), (2, .int y2), (3, .int y3)] []) (hF : fX11_reform_s72 k13 a0 y1 y2 y3  S = some r) : GW z ad o S 72 [(0, .ref (ad a0)), (1, .int y1), (2, .int y2), (3, .int y3)] [] := by
  unfold fX11_reform_s72 at hF
  refine g_iinc (v := (y3 + (1 : Int32))) X dX11_reform_72 3 rfl rfl (by decide) (lv' := [(3, .int (y3 + (1 : Int32))), (0, .ref (ad a0)), (1, .int y1), (2, .int y2)]) rfl ?_
  refine g_goto (tgt := 13) X dX11_reform_75 (by decide) ?_
  exact g_perm [1, 2, 3, 0] rfl (hk13 y1 y2 (y3 + (1 : Int32)) S hF)
theorem wX11_reform_s52 {z : Mx} {ad : Nat → Nat} {o : Option Value × St} (X : CxOk z ad RX11 cX11_reform 6 (some .int) 7) (a0 : Nat) (h0 : KT a0 = 11) (y1 : Int32) (y2 : Int32) (y3 : Int32) (y4 : Int32) (y5 : Int32)  (k13 : Int32 → Int32 → Int32 → St → Option (Int32 × St)) (k29 : Int32 → Int32 → Int32 → Int32 → Int32 → St → Option (Int32 × St))   (S : St) (r : (Int32 × St)) (ho : o = (some (.int r.1), r.2)) (hk13 : ∀ (y1 : Int32) (y2 : Int32) (y3 : Int32) (S : St), k13 y1 y2 y3 S = some r → GW z ad o S 13 [(0, .ref (ad a0)), (1, .int y1), (2, .int y2), (3, .int y3)] []) (hk29 : ∀ (y1 : Int32) (y2 : Int32) (y3 : Int32) (y4 : Int32) (y5 : Int32) (S : St), k29 y1 y2 y3 y4 y5 S = some r → GW z ad o S 29 [(0, .ref (ad a0)), (1, .int y1), (2, .int y2), (3, .int y3), (4, .int y4), (5, .int y5)] []) (hF : fX11_reform_s52 k13 k29 a0 y1 y2 y3 y4 y5  S = some r) : GW z ad o S 52 [(0, .ref (ad a0)), (1, .int y1), (2, .int y2), (3, .int y3), (4, .int y4), (5, .int y5)] [] := by
  unfold fX11_reform_s52 at hF
  refine g_iinc (v := (y5 + (1 : Int32))) X dX11_reform_52 5 rfl rfl (by decide) (lv' := [(5, .int (y5 + (1 : Int32))), (0, .ref (ad a0)), (1, .int y1), (2, .int y2), (3, .int y3), (4, .int y4)]) rfl ?_
  refine g_goto (tgt := 29) X dX11_reform_55 (by decide) ?_
  exact g_perm [1, 2, 3, 4, 5, 0] rfl (hk29 y1 y2 y3 y4 (y5 + (1 : Int32)) S hF)
theorem wX11_reform_s29 {z : Mx} {ad : Nat → Nat} {o : Option Value × St} (X : CxOk z ad RX11 cX11_reform 6 (some .int) 7) (a0 : Nat) (h0 : KT a0 = 11) (y1 : Int32) (y2 : Int32) (y3 : Int32) (y4 : Int32) (y5 : Int32)  (k13 : Int32 → Int32 → Int32 → St → Option (Int32 × St)) (k29 : Int32 → Int32 → Int32 → Int32 → Int32 → St → Option (Int32 × St))   (S : St) (r : (Int32 × St)) (ho : o = (some (.int r.1), r.2)) (hk13 : ∀ (y1 : Int32) (y2 : Int32) (y3 : Int32) (S : St), k13 y1 y2 y3 S = some r → GW z ad o S 13 [(0, .ref (ad a0)), (1, .int y1), (2, .int y2), (3, .int y3)] []) (hk29 : ∀ (y1 : Int32) (y2 : Int32) (y3 : Int32) (y4 : Int32) (y5 : Int32) (S : St), k29 y1 y2 y3 y4 y5 S = some r → GW z ad o S 29 [(0, .ref (ad a0)), (1, .int y1), (2, .int y2), (3, .int y3), (4, .int y4), (5, .int y5)] []) (hF : fX11_reform_s29 k13 k29 a0 y1 y2 y3 y4 y5  S = some r) : GW z ad o S 29 [(0, .ref (ad a0)), (1, .int y1), (2, .int y2), (3, .int y3), (4, .int y4), (5, .int y5)] [] := by
  unfold fX11_reform_s29 at hF
  refine g_iload X dX11_reform_29 5 rfl ?_
  refine g_aload_n X dX11_reform_31 0 rfl rfl ?_
  refine g_getR (f := 2) X dX11_reform_32 flX11_33 rfl rfl h0 ?_
  refine g_iconst (v := 0) X dX11_reform_35 (by decide) ?_
  refine g_ialdK (j := 0) X dX11_reform_36 kd_29 (on_11_6 h0) (by decide) (by decide) ?_
  refine g_icmp_ge (tgt := 58) X dX11_reform_37 (by decide) (fun c_3 => ?_) (fun c_3 => ?_)
  · rw [if_pos c_3] at hF
    refine g_iload X dX11_reform_58 4 rfl ?_
    refine g_iload_n X dX11_reform_60 1 rfl rfl ?_
    refine g_icmp_lt (tgt := 67) X dX11_reform_61 (by decide) (fun c_4 => ?_) (fun c_4 => ?_)
    · rw [if_pos c_4] at hF
      refine g_iload X dX11_reform_67 4 rfl ?_
      refine g_istore_n X dX11_reform_69 rfl (by decide) (lv' := [(1, .int y4), (0, .ref (ad a0)), (2, .int y2), (3, .int y3), (4, .int y4), (5, .int y5)]) rfl ?_
      refine g_iload_n X dX11_reform_70 3 rfl rfl ?_
      refine g_istore_n X dX11_reform_71 rfl (by decide) (lv' := [(2, .int y3), (1, .int y4), (0, .ref (ad a0)), (3, .int y3), (4, .int y4), (5, .int y5)]) rfl ?_
      exact g_perm [2, 1, 0, 3] rfl (wX11_reform_s72 X a0 h0 y4 y3 y3 k13 S r ho hk13 hF)
    · rw [if_neg c_4] at hF
      refine g_goto (tgt := 72) X dX11_reform_64 (by decide) ?_
      exact g_perm [0, 1, 2, 3] rfl (wX11_reform_s72 X a0 h0 y1 y2 y3 k13 S r ho hk13 hF)
  · rw [if_neg c_3] at hF
    refine g_iload X dX11_reform_40 4 rfl ?_
    refine g_aload_n X dX11_reform_42 0 rfl rfl ?_
    refine g_iload X dX11_reform_43 5 rfl ?_
    refine g_iload_n X dX11_reform_45 3 rfl rfl ?_
    obtain ⟨r_5, q_6, hF⟩ := obind hF
    refine g_callVi (As := [.int y5, .int y3]) X dX11_reform_46 mlX11_323 (fun l D cyy => tX11_skipsTo (cx_inj X) l D cyy a0 y5 y3 h0 S r_5 q_6) h0 (by decide) rfl rfl (Nat.le_of_ble_eq_true rfl) ?_
    refine g_iadd X dX11_reform_49 ?_
    refine g_istore X dX11_reform_50 (by decide) (lv' := [(4, .int (y4 + r_5)), (0, .ref (ad a0)), (1, .int y1), (2, .int y2), (3, .int y3), (5, .int y5)]) rfl ?_
    exact g_perm [1, 2, 3, 4, 0, 5] rfl (wX11_reform_s52 X a0 h0 y1 y2 y3 (y4 + r_5) y5 k13 k29 S r ho hk13 hk29 hF)
theorem wX11_reform_h29 {z : Mx} {ad : Nat → Nat} {o : Option Value × St} (X : CxOk z ad RX11 cX11_reform 6 (some .int) 7) (a0 : Nat) (h0 : KT a0 = 11) (k13 : Int32 → Int32 → Int32 → St → Option (Int32 × St))  (r : (Int32 × St)) (ho : o = (some (.int r.1), r.2)) (hk13 : ∀ (y1 : Int32) (y2 : Int32) (y3 : Int32) (S : St), k13 y1 y2 y3 S = some r → GW z ad o S 13 [(0, .ref (ad a0)), (1, .int y1), (2, .int y2), (3, .int y3)] []) : ∀ (n : Nat) (y1 : Int32) (y2 : Int32) (y3 : Int32) (y4 : Int32) (y5 : Int32) (S : St), fX11_reform_h29 k13 a0 n y1 y2 y3 y4 y5 S = some r → GW z ad o S 29 [(0, .ref (ad a0)), (1, .int y1), (2, .int y2), (3, .int y3), (4, .int y4), (5, .int y5)] [] := by
  intro n
  induction n with
  | zero => intro y1 y2 y3 y4 y5 S  hF; cases hF
  | succ n ih => intro y1 y2 y3 y4 y5 S  hF; exact wX11_reform_s29 X a0 h0 y1 y2 y3 y4 y5 k13 (fX11_reform_h29 k13 a0 n)  S r ho hk13 ih hF
theorem wX11_reform_s13 {z : Mx} {ad : Nat → Nat} {o : Option Value × St} (X : CxOk z ad RX11 cX11_reform 6 (some .int) 7) (a0 : Nat) (h0 : KT a0 = 11) (y1 : Int32) (y2 : Int32) (y3 : Int32)  (k13 : Int32 → Int32 → Int32 → St → Option (Int32 × St))   (S : St) (r : (Int32 × St)) (ho : o = (some (.int r.1), r.2)) (hk13 : ∀ (y1 : Int32) (y2 : Int32) (y3 : Int32) (S : St), k13 y1 y2 y3 S = some r → GW z ad o S 13 [(0, .ref (ad a0)), (1, .int y1), (2, .int y2), (3, .int y3)] []) (hF : fX11_reform_s13 k13 a0 y1 y2 y3  S = some r) : GW z ad o S 13 [(0, .ref (ad a0)), (1, .int y1), (2, .int y2), (3, .int y3)] [] := by
  unfold fX11_reform_s13 at hF
  refine g_iload_n X dX11_reform_13 3 rfl rfl ?_
  refine g_aload_n X dX11_reform_14 0 rfl rfl ?_
  refine g_getR (f := 2) X dX11_reform_15 flX11_33 rfl rfl h0 ?_
  refine g_iconst (v := 0) X dX11_reform_18 (by decide) ?_
  refine g_ialdK (j := 0) X dX11_reform_19 kd_29 (on_11_6 h0) (by decide) (by decide) ?_
  refine g_icmp_ge (tgt := 78) X dX11_reform_20 (by decide) (fun c_1 => ?_) (fun c_1 => ?_)
  · rw [if_pos c_1] at hF
    refine g_iload_n X dX11_reform_78 2 rfl rfl ?_
    refine g_if_ge (tgt := 84) X dX11_reform_79 (by decide) (fun c_2 => ?_) (fun c_2 => ?_)
    · rw [if_pos c_2] at hF
      refine g_aload_n X dX11_reform_84 0 rfl rfl ?_
      refine g_iload_n X dX11_reform_85 2 rfl rfl ?_
      refine g_putI X dX11_reform_86 fpX11_65 rfl rfl rfl h0 ?_
      exact g_perm [1] rfl (wX11_reform_s89 X a0 h0 y1 (sI S 11 27 a0 y2) r ho hF)
    · rw [if_neg c_2] at hF
      refine g_iconst (v := -1) X dX11_reform_82 (by decide) ?_
      have hF := Option.some.inj hF
      subst hF
      exact g_iret X dX11_reform_83 ho
  · rw [if_neg c_1] at hF
    refine g_iconst (v := 0) X dX11_reform_23 (by decide) ?_
    refine g_istore X dX11_reform_24 (by decide) (lv' := [(4, .int (0 : Int32)), (0, .ref (ad a0)), (1, .int y1), (2, .int y2), (3, .int y3)]) rfl ?_
    refine g_iconst (v := 0) X dX11_reform_26 (by decide) ?_
    refine g_istore X dX11_reform_27 (by decide) (lv' := [(5, .int (0 : Int32)), (4, .int (0 : Int32)), (0, .ref (ad a0)), (1, .int y1), (2, .int y2), (3, .int y3)]) rfl ?_
    exact g_perm [2, 3, 4, 5, 1, 0] rfl (wX11_reform_h29 X a0 h0 k13 r ho hk13 NN y1 y2 y3 (0 : Int32) (0 : Int32) S hF)
theorem wX11_reform_h13 {z : Mx} {ad : Nat → Nat} {o : Option Value × St} (X : CxOk z ad RX11 cX11_reform 6 (some .int) 7) (a0 : Nat) (h0 : KT a0 = 11)  (r : (Int32 × St)) (ho : o = (some (.int r.1), r.2)) : ∀ (n : Nat) (y1 : Int32) (y2 : Int32) (y3 : Int32) (S : St), fX11_reform_h13 a0 n y1 y2 y3 S = some r → GW z ad o S 13 [(0, .ref (ad a0)), (1, .int y1), (2, .int y2), (3, .int y3)] [] := by
  intro n
  induction n with
  | zero => intro y1 y2 y3 S  hF; cases hF
  | succ n ih => intro y1 y2 y3 S  hF; exact wX11_reform_s13 X a0 h0 y1 y2 y3 (fX11_reform_h13 a0 n)  S r ho ih hF
theorem wX11_reform_s5 {z : Mx} {ad : Nat → Nat} {o : Option Value × St} (X : CxOk z ad RX11 cX11_reform 6 (some .int) 7) (a0 : Nat) (h0 : KT a0 = 11)     (S : St) (r : (Int32 × St)) (ho : o = (some (.int r.1), r.2)) (hF : fX11_reform_s5 a0   S = some r) : GW z ad o S 5 [(0, .ref (ad a0))] [] := by
  unfold fX11_reform_s5 at hF
  refine g_ldcw (v := 1000000) X dX11_reform_5 (inr_40 _ (List.mem_of_getElem? (i := 7) rfl)) ?_
  refine g_istore_n X dX11_reform_8 rfl (by decide) (lv' := [(1, .int (1000000 : Int32)), (0, .ref (ad a0))]) rfl ?_
  refine g_iconst (v := -1) X dX11_reform_9 (by decide) ?_
  refine g_istore_n X dX11_reform_10 rfl (by decide) (lv' := [(2, .int (-1 : Int32)), (1, .int (1000000 : Int32)), (0, .ref (ad a0))]) rfl ?_
  refine g_iconst (v := 0) X dX11_reform_11 (by decide) ?_
  refine g_istore_n X dX11_reform_12 rfl (by decide) (lv' := [(3, .int (0 : Int32)), (2, .int (-1 : Int32)), (1, .int (1000000 : Int32)), (0, .ref (ad a0))]) rfl ?_
  exact g_perm [3, 2, 1, 0] rfl (wX11_reform_h13 X a0 h0 r ho NN (1000000 : Int32) (-1 : Int32) (0 : Int32) S hF)
theorem wX11_reform {z : Mx} {ad : Nat → Nat} {o : Option Value × St} (X : CxOk z ad RX11 cX11_reform 6 (some .int) 7) (a0 : Nat) (h0 : KT a0 = 11) (S : St) (r : (Int32 × St)) (ho : o = (some (.int r.1), r.2)) (hF : fX11_reform a0 S = some r) : GW z ad o S 0 [(0, .ref (ad a0))] [] := by
  unfold fX11_reform at hF
  refine g_aload_n X dX11_reform_0 0 rfl rfl ?_
  refine g_iconst (v := 0) X dX11_reform_1 (by decide) ?_
  refine g_putI X dX11_reform_2 fpX11_1 rfl rfl rfl h0 ?_
  exact (wX11_reform_s5 X a0 h0 (sI S 11 0 a0 (0 : Int32)) r ho hF)
theorem tX11_reform {ad : Nat → Nat} (hI : Inj ad) (l : Launch) (D : va_G) (cyy : Nat → ClassId) (a0 : Nat) (h0 : KT a0 = 11) (S : St) (r : (Int32 × St)) (hF : fX11_reform a0 S = some r) : OkM l yX11_reform cX11_reform 6 (some .int) 7 ad D cyy [.ref (ad a0)] S (some (.int r.1), r.2) := okM_of hI (by decide) (inr_42 _ (List.mem_of_getElem? (i := 10) rfl)) (by show _ ≤ 6; exact Nat.le_of_ble_eq_true rfl) (fun z X => wX11_reform X a0 h0 S r rfl hF)
def fX11_reformTo_s5 (a0 : Nat)   (S : St) : (Int32 × St) :=
  ((gI S 11 27 a0), S)
def fX11_reformTo (a0 : Nat) (S : St) : (Int32 × St) :=
  fX11_reformTo_s5 a0 (sI S 11 0 a0 (0 : Int32))
theorem wX11_reformTo_s5 {z : Mx} {ad : Nat → Nat} {o : Option Value × St} (X : CxOk z ad RX11 cX11_reformTo 1 (some .int) 1) (a0 : Nat) (h0 : KT a0 = 11)     (S : St) (r : (Int32 × St)) (ho : o = (some (.int r.1), r.2)) (hF : fX11_reformTo_s5 a0   S = r) : GW z ad o S 5 [(0, .ref (ad a0))] [] := by
  unfold fX11_reformTo_s5 at hF
  refine g_aload_n X dX11_reformTo_5 0 rfl rfl ?_
  refine g_getI X dX11_reformTo_6 flX11_65 rfl h0 ?_
  subst hF
  exact g_iret X dX11_reformTo_9 ho
theorem wX11_reformTo {z : Mx} {ad : Nat → Nat} {o : Option Value × St} (X : CxOk z ad RX11 cX11_reformTo 1 (some .int) 1) (a0 : Nat) (h0 : KT a0 = 11) (S : St) (r : (Int32 × St)) (ho : o = (some (.int r.1), r.2)) (hF : fX11_reformTo a0 S = r) : GW z ad o S 0 [(0, .ref (ad a0))] [] := by
  unfold fX11_reformTo at hF
  refine g_aload_n X dX11_reformTo_0 0 rfl rfl ?_
  refine g_iconst (v := 0) X dX11_reformTo_1 (by decide) ?_
  refine g_putI X dX11_reformTo_2 fpX11_1 rfl rfl rfl h0 ?_
  exact (wX11_reformTo_s5 X a0 h0 (sI S 11 0 a0 (0 : Int32)) r ho hF)
theorem tX11_reformTo {ad : Nat → Nat} (hI : Inj ad) (l : Launch) (D : va_G) (cyy : Nat → ClassId) (a0 : Nat) (h0 : KT a0 = 11) (S : St) : OkM l yX11_reformTo cX11_reformTo 1 (some .int) 1 ad D cyy [.ref (ad a0)] S (some (.int (fX11_reformTo a0 S).1), (fX11_reformTo a0 S).2) := okM_of hI (by decide) (inr_42 _ (List.mem_of_getElem? (i := 19) rfl)) (by show _ ≤ 1; exact Nat.le_of_ble_eq_true rfl) (fun z X => wX11_reformTo X a0 h0 S _ rfl rfl)
def fX11_play_s5 (a0 : Nat) (x1 : Int32) (x2 : Int32) (x3 : Int32)   (S : St) : Option (Int32 × St) :=
  (fX11_isParish a0 x1 S).bind fun r_1 =>
  if r_1 = 0 then (some ((-1 : Int32), S)) else
  ((fX11_isParish a0 x2 S).bind fun r_4 =>
  if r_4 = 0 then (some ((-1 : Int32), S)) else
  (if (fX11_isIn x3 (1 : Int32) (9 : Int32) S) = 0 then (some ((-1 : Int32), S)) else
  ((fX11_skipsTo a0 x1 x2 S).bind fun r_8 =>
  if r_8 = (1000000 : Int32) then (some ((-1 : Int32), S)) else
  (if (x3 + (1 : Int32)) = 0 then none else
  if (r_8 - r_8 / (x3 + (1 : Int32)) * (x3 + (1 : Int32))) = 0 then (some ((-1 : Int32), S)) else
  (if (x3 + (1 : Int32)) = 0 then none else
  some ((r_8 - r_8 / (x3 + (1 : Int32)) * (x3 + (1 : Int32))), S))))))
def fX11_play (a0 : Nat) (x1 : Int32) (x2 : Int32) (x3 : Int32) (S : St) : Option (Int32 × St) :=
  fX11_play_s5 a0 x1 x2 x3 (sI S 11 0 a0 (0 : Int32))
theorem wX11_play_s5 {z : Mx} {ad : Nat → Nat} {o : Option Value × St} (X : CxOk z ad RX11 cX11_play 5 (some .int) 7) (a0 : Nat) (x1 : Int32) (x2 : Int32) (x3 : Int32) (h0 : KT a0 = 11)     (S : St) (r : (Int32 × St)) (ho : o = (some (.int r.1), r.2)) (hF : fX11_play_s5 a0 x1 x2 x3   S = some r) : GW z ad o S 5 [(0, .ref (ad a0)), (1, .int x1), (2, .int x2), (3, .int x3)] [] := by
  unfold fX11_play_s5 at hF
  refine g_aload_n X dX11_play_5 0 rfl rfl ?_
  refine g_iload_n X dX11_play_6 1 rfl rfl ?_
  obtain ⟨r_1, q_2, hF⟩ := obind hF
  refine g_callVi (As := [.int x1]) X dX11_play_7 mlX11_267 (fun l D cyy => tX11_isParish (cx_inj X) l D cyy a0 x1 h0 S r_1 q_2) h0 (by decide) rfl rfl (Nat.le_of_ble_eq_true rfl) ?_
  refine g_if_eq (tgt := 31) X dX11_play_10 (by decide) (fun c_3 => ?_) (fun c_3 => ?_)
  · rw [if_pos c_3] at hF
    refine g_iconst (v := -1) X dX11_play_31 (by decide) ?_
    have hF := Option.some.inj hF
    subst hF
    exact g_iret X dX11_play_32 ho
  · rw [if_neg c_3] at hF
    refine g_aload_n X dX11_play_13 0 rfl rfl ?_
    refine g_iload_n X dX11_play_14 2 rfl rfl ?_
    obtain ⟨r_4, q_5, hF⟩ := obind hF
    refine g_callVi (As := [.int x2]) X dX11_play_15 mlX11_267 (fun l D cyy => tX11_isParish (cx_inj X) l D cyy a0 x2 h0 S r_4 q_5) h0 (by decide) rfl rfl (Nat.le_of_ble_eq_true rfl) ?_
    refine g_if_eq (tgt := 31) X dX11_play_18 (by decide) (fun c_6 => ?_) (fun c_6 => ?_)
    · rw [if_pos c_6] at hF
      refine g_iconst (v := -1) X dX11_play_31 (by decide) ?_
      have hF := Option.some.inj hF
      subst hF
      exact g_iret X dX11_play_32 ho
    · rw [if_neg c_6] at hF
      refine g_iload_n X dX11_play_21 3 rfl rfl ?_
      refine g_iconst (v := 1) X dX11_play_22 (by decide) ?_
      refine g_bipush (v := 9) X dX11_play_23 (by decide) ?_
      refine g_callSi (As := [.int x3, .int (1 : Int32), .int (9 : Int32)]) X dX11_play_25 mlX11_173 (fun l D cyy => tX11_isIn (cx_inj X) l D cyy x3 (1 : Int32) (9 : Int32)  S) (by decide) rfl rfl (Nat.le_of_ble_eq_true rfl) ?_
      refine g_if_ne (tgt := 33) X dX11_play_28 (by decide) (fun c_7 => ?_) (fun c_7 => ?_)
      · rw [if_neg c_7] at hF
        refine g_aload_n X dX11_play_33 0 rfl rfl ?_
        refine g_iload_n X dX11_play_34 1 rfl rfl ?_
        refine g_iload_n X dX11_play_35 2 rfl rfl ?_
        obtain ⟨r_8, q_9, hF⟩ := obind hF
        refine g_callVi (As := [.int x1, .int x2]) X dX11_play_36 mlX11_323 (fun l D cyy => tX11_skipsTo (cx_inj X) l D cyy a0 x1 x2 h0 S r_8 q_9) h0 (by decide) rfl rfl (Nat.le_of_ble_eq_true rfl) ?_
        refine g_istore X dX11_play_39 (by decide) (lv' := [(4, .int r_8), (0, .ref (ad a0)), (1, .int x1), (2, .int x2), (3, .int x3)]) rfl ?_
        refine g_iload X dX11_play_41 0 rfl ?_
        refine g_ldcw (v := 1000000) X dX11_play_43 (inr_40 _ (List.mem_of_getElem? (i := 7) rfl)) ?_
        refine g_icmp_eq (tgt := 58) X dX11_play_46 (by decide) (fun c_10 => ?_) (fun c_10 => ?_)
        · rw [if_pos c_10] at hF
          refine g_iconst (v := -1) X dX11_play_58 (by decide) ?_
          refine g_goto (tgt := 68) X dX11_play_59 (by decide) ?_
          have hF := Option.some.inj hF
          subst hF
          exact g_iret X dX11_play_68 ho
        · rw [if_neg c_10] at hF
          refine g_iload X dX11_play_49 0 rfl ?_
          refine g_iload_n X dX11_play_51 4 rfl rfl ?_
          refine g_iconst (v := 1) X dX11_play_52 (by decide) ?_
          refine g_iadd X dX11_play_53 ?_
          obtain ⟨e_11, hF⟩ := oguard hF
          refine g_irem X dX11_play_54 e_11 ?_
          refine g_if_ne (tgt := 62) X dX11_play_55 (by decide) (fun c_12 => ?_) (fun c_12 => ?_)
          · rw [if_neg c_12] at hF
            refine g_iload X dX11_play_62 0 rfl ?_
            refine g_iload_n X dX11_play_64 4 rfl rfl ?_
            refine g_iconst (v := 1) X dX11_play_65 (by decide) ?_
            refine g_iadd X dX11_play_66 ?_
            obtain ⟨e_13, hF⟩ := oguard hF
            refine g_irem X dX11_play_67 e_13 ?_
            have hF := Option.some.inj hF
            subst hF
            exact g_iret X dX11_play_68 ho
          · rw [if_pos c_12] at hF
            refine g_iconst (v := -1) X dX11_play_58 (by decide) ?_
            refine g_goto (tgt := 68) X dX11_play_59 (by decide) ?_
            have hF := Option.some.inj hF
            subst hF
            exact g_iret X dX11_play_68 ho
      · rw [if_pos c_7] at hF
        refine g_iconst (v := -1) X dX11_play_31 (by decide) ?_
        have hF := Option.some.inj hF
        subst hF
        exact g_iret X dX11_play_32 ho
theorem wX11_play {z : Mx} {ad : Nat → Nat} {o : Option Value × St} (X : CxOk z ad RX11 cX11_play 5 (some .int) 7) (a0 : Nat) (x1 : Int32) (x2 : Int32) (x3 : Int32) (h0 : KT a0 = 11) (S : St) (r : (Int32 × St)) (ho : o = (some (.int r.1), r.2)) (hF : fX11_play a0 x1 x2 x3 S = some r) : GW z ad o S 0 [(0, .ref (ad a0)), (1, .int x1), (2, .int x2), (3, .int x3)] [] := by
  unfold fX11_play at hF
  refine g_aload_n X dX11_play_0 0 rfl rfl ?_
  refine g_iconst (v := 0) X dX11_play_1 (by decide) ?_
  refine g_putI X dX11_play_2 fpX11_1 rfl rfl rfl h0 ?_
  exact (wX11_play_s5 X a0 x1 x2 x3 h0 (sI S 11 0 a0 (0 : Int32)) r ho hF)
theorem tX11_play {ad : Nat → Nat} (hI : Inj ad) (l : Launch) (D : va_G) (cyy : Nat → ClassId) (a0 : Nat) (x1 : Int32) (x2 : Int32) (x3 : Int32) (h0 : KT a0 = 11) (S : St) (r : (Int32 × St)) (hF : fX11_play a0 x1 x2 x3 S = some r) : OkM l yX11_play cX11_play 5 (some .int) 7 ad D cyy [.ref (ad a0), .int x1, .int x2, .int x3] S (some (.int r.1), r.2) := okM_of hI (by decide) (inr_43 _ (List.mem_of_getElem? (i := 7) rfl)) (by show _ ≤ 5; exact Nat.le_of_ble_eq_true rfl) (fun z X => wX11_play X a0 x1 x2 x3 h0 S r rfl hF)
def fX11_isCalled_s53 (a0 : Nat) (x1 : Int32) (x2 : Int32)   (S : St) : Option Int32 :=
  (fX11_octet a0 (2 : Int32) S).bind fun r_9 =>
  if r_9 = (255 : Int32) then (some (1 : Int32)) else
  ((fX11_octet a0 (2 : Int32) S).bind fun r_12 =>
  if (((14 : Int32) + x1) < 0 ∨ 250 ≤ ((14 : Int32) + x1).toNatClampNeg) then none else
  if (gA S 29 (a0 + 2) (((14 : Int32) + x1).toNatClampNeg)) = 0 then none else
  if r_12 = (x2 - x2 / (gA S 29 (a0 + 2) (((14 : Int32) + x1).toNatClampNeg)) * (gA S 29 (a0 + 2) (((14 : Int32) + x1).toNatClampNeg))) then (some (1 : Int32)) else
  (some (0 : Int32)))
def fX11_isCalled_s30 (a0 : Nat) (x1 : Int32) (x2 : Int32) (y3 : Int32)  (S : St) : Option Int32 :=
  (fX11_octet a0 (1 : Int32) S).bind fun r_6 =>
  if r_6 = (255 : Int32) then (fX11_isCalled_s53 a0 x1 x2 S) else
  ((fX11_octet a0 (1 : Int32) S).bind fun r_17 =>
  if r_17 = (y3 - y3 / (32 : Int32) * (32 : Int32)) then (fX11_isCalled_s53 a0 x1 x2 S) else
  (some (0 : Int32)))
def fX11_isCalled (a0 : Nat) (x1 : Int32) (x2 : Int32) (S : St) : Option Int32 :=
  (fX11_dated a0 x1 x2 S).bind fun r_1 =>
  (fX11_octet a0 (0 : Int32) S).bind fun r_3 =>
  if r_3 = (255 : Int32) then (fX11_isCalled_s30 a0 x1 x2 r_1 S) else
  ((fX11_octet a0 (0 : Int32) S).bind fun r_20 =>
  if r_20 = (r_1 / (32 : Int32)) then (fX11_isCalled_s30 a0 x1 x2 r_1 S) else
  (some (0 : Int32)))
theorem wX11_isCalled_s53 {z : Mx} {ad : Nat → Nat} {o : Option Value × St} (X : CxOk z ad RX11 cX11_isCalled 4 (some .boolean) 5) (a0 : Nat) (x1 : Int32) (x2 : Int32) (h0 : KT a0 = 11)     (S : St) (r : Int32) (ho : o = (some (.int r), S)) (hF : fX11_isCalled_s53 a0 x1 x2   S = some r) : GW z ad o S 53 [(0, .ref (ad a0)), (1, .int x1), (2, .int x2)] [] := by
  unfold fX11_isCalled_s53 at hF
  refine g_aload_n X dX11_isCalled_53 0 rfl rfl ?_
  refine g_iconst (v := 2) X dX11_isCalled_54 (by decide) ?_
  obtain ⟨r_9, q_10, hF⟩ := obind hF
  refine g_callVi (As := [.int (2 : Int32)]) X dX11_isCalled_55 mlX11_332 (fun l D cyy => tX11_octet (cx_inj X) l D cyy a0 (2 : Int32) h0 S r_9 q_10) h0 (by decide) rfl rfl (Nat.le_of_ble_eq_true rfl) ?_
  refine g_sipush (v := 255) X dX11_isCalled_58 (by decide) ?_
  refine g_icmp_eq (tgt := 83) X dX11_isCalled_61 (by decide) (fun c_11 => ?_) (fun c_11 => ?_)
  · rw [if_pos c_11] at hF
    refine g_iconst (v := 1) X dX11_isCalled_83 (by decide) ?_
    refine g_goto (tgt := 88) X dX11_isCalled_84 (by decide) ?_
    have hF := Option.some.inj hF
    subst hF
    exact g_zret X dX11_isCalled_88 (by decide) ho
  · rw [if_neg c_11] at hF
    refine g_aload_n X dX11_isCalled_64 0 rfl rfl ?_
    refine g_iconst (v := 2) X dX11_isCalled_65 (by decide) ?_
    obtain ⟨r_12, q_13, hF⟩ := obind hF
    refine g_callVi (As := [.int (2 : Int32)]) X dX11_isCalled_66 mlX11_332 (fun l D cyy => tX11_octet (cx_inj X) l D cyy a0 (2 : Int32) h0 S r_12 q_13) h0 (by decide) rfl rfl (Nat.le_of_ble_eq_true rfl) ?_
    refine g_iload_n X dX11_isCalled_69 2 rfl rfl ?_
    refine g_aload_n X dX11_isCalled_70 0 rfl rfl ?_
    refine g_getR (f := 2) X dX11_isCalled_71 flX11_33 rfl rfl h0 ?_
    refine g_bipush (v := 14) X dX11_isCalled_74 (by decide) ?_
    refine g_iload_n X dX11_isCalled_76 1 rfl rfl ?_
    refine g_iadd X dX11_isCalled_77 ?_
    obtain ⟨e_14, hF⟩ := oguard hF
    refine g_iald X dX11_isCalled_78 kd_29 (on_11_6 h0) e_14 ?_
    obtain ⟨e_15, hF⟩ := oguard hF
    refine g_irem X dX11_isCalled_79 e_15 ?_
    refine g_icmp_ne (tgt := 87) X dX11_isCalled_80 (by decide) (fun c_16 => ?_) (fun c_16 => ?_)
    · rw [if_neg c_16] at hF
      refine g_iconst (v := 0) X dX11_isCalled_87 (by decide) ?_
      have hF := Option.some.inj hF
      subst hF
      exact g_zret X dX11_isCalled_88 (by decide) ho
    · rw [if_pos c_16] at hF
      refine g_iconst (v := 1) X dX11_isCalled_83 (by decide) ?_
      refine g_goto (tgt := 88) X dX11_isCalled_84 (by decide) ?_
      have hF := Option.some.inj hF
      subst hF
      exact g_zret X dX11_isCalled_88 (by decide) ho
theorem wX11_isCalled_s30 {z : Mx} {ad : Nat → Nat} {o : Option Value × St} (X : CxOk z ad RX11 cX11_isCalled 4 (some .boolean) 5) (a0 : Nat) (x1 : Int32) (x2 : Int32) (h0 : KT a0 = 11) (y3 : Int32)    (S : St) (r : Int32) (ho : o = (some (.int r), S)) (hF : fX11_isCalled_s30 a0 x1 x2 y3  S = some r) : GW z ad o S 30 [(0, .ref (ad a0)), (1, .int x1), (2, .int x2), (3, .int y3)] [] := by
  unfold fX11_isCalled_s30 at hF
  refine g_aload_n X dX11_isCalled_30 0 rfl rfl ?_
  refine g_iconst (v := 1) X dX11_isCalled_31 (by decide) ?_
  obtain ⟨r_6, q_7, hF⟩ := obind hF
  refine g_callVi (As := [.int (1 : Int32)]) X dX11_isCalled_32 mlX11_332 (fun l D cyy => tX11_octet (cx_inj X) l D cyy a0 (1 : Int32) h0 S r_6 q_7) h0 (by decide) rfl rfl (Nat.le_of_ble_eq_true rfl) ?_
  refine g_sipush (v := 255) X dX11_isCalled_35 (by decide) ?_
  refine g_icmp_eq (tgt := 53) X dX11_isCalled_38 (by decide) (fun c_8 => ?_) (fun c_8 => ?_)
  · rw [if_pos c_8] at hF
    exact g_perm [0, 1, 2] rfl (wX11_isCalled_s53 X a0 x1 x2 h0 S r ho hF)
  · rw [if_neg c_8] at hF
    refine g_aload_n X dX11_isCalled_41 0 rfl rfl ?_
    refine g_iconst (v := 1) X dX11_isCalled_42 (by decide) ?_
    obtain ⟨r_17, q_18, hF⟩ := obind hF
    refine g_callVi (As := [.int (1 : Int32)]) X dX11_isCalled_43 mlX11_332 (fun l D cyy => tX11_octet (cx_inj X) l D cyy a0 (1 : Int32) h0 S r_17 q_18) h0 (by decide) rfl rfl (Nat.le_of_ble_eq_true rfl) ?_
    refine g_iload_n X dX11_isCalled_46 3 rfl rfl ?_
    refine g_bipush (v := 32) X dX11_isCalled_47 (by decide) ?_
    refine g_irem X dX11_isCalled_49 (by decide) ?_
    refine g_icmp_ne (tgt := 87) X dX11_isCalled_50 (by decide) (fun c_19 => ?_) (fun c_19 => ?_)
    · rw [if_neg c_19] at hF
      refine g_iconst (v := 0) X dX11_isCalled_87 (by decide) ?_
      have hF := Option.some.inj hF
      subst hF
      exact g_zret X dX11_isCalled_88 (by decide) ho
    · rw [if_pos c_19] at hF
      exact g_perm [0, 1, 2] rfl (wX11_isCalled_s53 X a0 x1 x2 h0 S r ho hF)
theorem wX11_isCalled {z : Mx} {ad : Nat → Nat} {o : Option Value × St} (X : CxOk z ad RX11 cX11_isCalled 4 (some .boolean) 5) (a0 : Nat) (x1 : Int32) (x2 : Int32) (h0 : KT a0 = 11) (S : St) (r : Int32) (ho : o = (some (.int r), S)) (hF : fX11_isCalled a0 x1 x2 S = some r) : GW z ad o S 0 [(0, .ref (ad a0)), (1, .int x1), (2, .int x2)] [] := by
  unfold fX11_isCalled at hF
  refine g_aload_n X dX11_isCalled_0 0 rfl rfl ?_
  refine g_iload_n X dX11_isCalled_1 1 rfl rfl ?_
  refine g_iload_n X dX11_isCalled_2 2 rfl rfl ?_
  obtain ⟨r_1, q_2, hF⟩ := obind hF
  refine g_callVi (As := [.int x1, .int x2]) X dX11_isCalled_3 mlX11_252 (fun l D cyy => tX11_dated (cx_inj X) l D cyy a0 x1 x2 h0 S r_1 q_2) h0 (by decide) rfl rfl (Nat.le_of_ble_eq_true rfl) ?_
  refine g_istore_n X dX11_isCalled_6 rfl (by decide) (lv' := [(3, .int r_1), (0, .ref (ad a0)), (1, .int x1), (2, .int x2)]) rfl ?_
  refine g_aload_n X dX11_isCalled_7 1 rfl rfl ?_
  refine g_iconst (v := 0) X dX11_isCalled_8 (by decide) ?_
  obtain ⟨r_3, q_4, hF⟩ := obind hF
  refine g_callVi (As := [.int (0 : Int32)]) X dX11_isCalled_9 mlX11_332 (fun l D cyy => tX11_octet (cx_inj X) l D cyy a0 (0 : Int32) h0 S r_3 q_4) h0 (by decide) rfl rfl (Nat.le_of_ble_eq_true rfl) ?_
  refine g_sipush (v := 255) X dX11_isCalled_12 (by decide) ?_
  refine g_icmp_eq (tgt := 30) X dX11_isCalled_15 (by decide) (fun c_5 => ?_) (fun c_5 => ?_)
  · rw [if_pos c_5] at hF
    exact g_perm [1, 2, 3, 0] rfl (wX11_isCalled_s30 X a0 x1 x2 h0 r_1 S r ho hF)
  · rw [if_neg c_5] at hF
    refine g_aload_n X dX11_isCalled_18 1 rfl rfl ?_
    refine g_iconst (v := 0) X dX11_isCalled_19 (by decide) ?_
    obtain ⟨r_20, q_21, hF⟩ := obind hF
    refine g_callVi (As := [.int (0 : Int32)]) X dX11_isCalled_20 mlX11_332 (fun l D cyy => tX11_octet (cx_inj X) l D cyy a0 (0 : Int32) h0 S r_20 q_21) h0 (by decide) rfl rfl (Nat.le_of_ble_eq_true rfl) ?_
    refine g_iload_n X dX11_isCalled_23 0 rfl rfl ?_
    refine g_bipush (v := 32) X dX11_isCalled_24 (by decide) ?_
    refine g_idiv X dX11_isCalled_26 (by decide) ?_
    refine g_icmp_ne (tgt := 87) X dX11_isCalled_27 (by decide) (fun c_22 => ?_) (fun c_22 => ?_)
    · rw [if_neg c_22] at hF
      refine g_iconst (v := 0) X dX11_isCalled_87 (by decide) ?_
      have hF := Option.some.inj hF
      subst hF
      exact g_zret X dX11_isCalled_88 (by decide) ho
    · rw [if_pos c_22] at hF
      exact g_perm [1, 2, 3, 0] rfl (wX11_isCalled_s30 X a0 x1 x2 h0 r_1 S r ho hF)
theorem tX11_isCalled {ad : Nat → Nat} (hI : Inj ad) (l : Launch) (D : va_G) (cyy : Nat → ClassId) (a0 : Nat) (x1 : Int32) (x2 : Int32) (h0 : KT a0 = 11) (S : St) (r : Int32) (hF : fX11_isCalled a0 x1 x2 S = some r) : OkM l yX11_isCalled cX11_isCalled 4 (some .boolean) 5 ad D cyy [.ref (ad a0), .int x1, .int x2] S (some (.int r), S) := okM_of hI (by decide) (inr_45 _ (List.mem_of_getElem? (i := 9) rfl)) (by show _ ≤ 4; exact Nat.le_of_ble_eq_true rfl) (fun z X => wX11_isCalled X a0 x1 x2 h0 S r rfl hF)
def fX11_wrote_s63 (k26 : Int32 → Int32 → St → Option (Int32 × St)) (a0 : Nat) (y1 : Int32) (y2 : Int32)  (S : St) : Option (Int32 × St) :=
  k26 y1 (y2 + (1 : Int32)) S
def fX11_wrote_s26 (k26 : Int32 → Int32 → St → Option (Int32 × St)) (a0 : Nat) (y1 : Int32) (y2 : Int32)  (S : St) : Option (Int32 × St) :=
  if (gA S 29 (a0 + 2) 0) ≤ y2 then (some (y1, S)) else
  (if (((54 : Int32) + y2) < 0 ∨ 250 ≤ ((54 : Int32) + y2).toNatClampNeg) then none else
  (fX11_isCalled a0 y2 (gA S 29 (a0 + 2) (((54 : Int32) + y2).toNatClampNeg)) S).bind fun r_4 =>
  if r_4 = 0 then (fX11_wrote_s63 k26 a0 (y1 ||| (0 : Int32)) y2 S) else
  (fX11_wrote_s63 k26 a0 (y1 ||| ((1 : Int32) <<< (y2 &&& 31))) y2 S))
def fX11_wrote_h26 (a0 : Nat) : Nat → Int32 → Int32 → St → Option (Int32 × St)
  | 0, _, _, _ => none
  | n + 1, y1, y2, S => fX11_wrote_s26 (fX11_wrote_h26 a0 n) a0 y1 y2 S
def fX11_wrote_s12 (a0 : Nat)   (S : St) : Option (Int32 × St) :=
  if (gI S 11 3 a0) = (3 : Int32) then (fX11_wrote_h26 a0 NN (0 : Int32) (0 : Int32) S) else
  (some ((-1 : Int32), S))
def fX11_wrote_s5 (a0 : Nat)   (S : St) : Option (Int32 × St) :=
  fX11_wrote_s12 a0 (fX11_taken a0 (940 : Int32) S)
def fX11_wrote (a0 : Nat) (S : St) : Option (Int32 × St) :=
  fX11_wrote_s5 a0 (sI S 11 0 a0 (0 : Int32))
theorem wX11_wrote_s63 {z : Mx} {ad : Nat → Nat} {o : Option Value × St} (X : CxOk z ad RX11 cX11_wrote 3 (some .int) 6) (a0 : Nat) (h0 : KT a0 = 11) (y1 : Int32) (y2 : Int32)  (k26 : Int32 → Int32 → St → Option (Int32 × St))   (S : St) (r : (Int32 × St)) (ho : o = (some (.int r.1), r.2)) (hk26 : ∀ (y1 : Int32) (y2 : Int32) (S : St), k26 y1 y2 S = some r → GW z ad o S 26 [(0, .ref (ad a0)), (1, .int y1), (2, .int y2)] []) (hF : fX11_wrote_s63 k26 a0 y1 y2  S = some r) : GW z ad o S 63 [(0, .ref (ad a0)), (1, .int y1), (2, .int y2)] [] := by
  unfold fX11_wrote_s63 at hF
  refine g_iinc (v := (y2 + (1 : Int32))) X dX11_wrote_63 2 rfl rfl (by decide) (lv' := [(2, .int (y2 + (1 : Int32))), (0, .ref (ad a0)), (1, .int y1)]) rfl ?_
  refine g_goto (tgt := 26) X dX11_wrote_66 (by decide) ?_
  exact g_perm [1, 2, 0] rfl (hk26 y1 (y2 + (1 : Int32)) S hF)
theorem wX11_wrote_s26 {z : Mx} {ad : Nat → Nat} {o : Option Value × St} (X : CxOk z ad RX11 cX11_wrote 3 (some .int) 6) (a0 : Nat) (h0 : KT a0 = 11) (y1 : Int32) (y2 : Int32)  (k26 : Int32 → Int32 → St → Option (Int32 × St))   (S : St) (r : (Int32 × St)) (ho : o = (some (.int r.1), r.2)) (hk26 : ∀ (y1 : Int32) (y2 : Int32) (S : St), k26 y1 y2 S = some r → GW z ad o S 26 [(0, .ref (ad a0)), (1, .int y1), (2, .int y2)] []) (hF : fX11_wrote_s26 k26 a0 y1 y2  S = some r) : GW z ad o S 26 [(0, .ref (ad a0)), (1, .int y1), (2, .int y2)] [] := by
  unfold fX11_wrote_s26 at hF
  refine g_iload_n X dX11_wrote_26 2 rfl rfl ?_
  refine g_aload_n X dX11_wrote_27 0 rfl rfl ?_
  refine g_getR (f := 2) X dX11_wrote_28 flX11_33 rfl rfl h0 ?_
  refine g_iconst (v := 0) X dX11_wrote_31 (by decide) ?_
  refine g_ialdK (j := 0) X dX11_wrote_32 kd_29 (on_11_6 h0) (by decide) (by decide) ?_
  refine g_icmp_ge (tgt := 69) X dX11_wrote_33 (by decide) (fun c_2 => ?_) (fun c_2 => ?_)
  · rw [if_pos c_2] at hF
    refine g_iload_n X dX11_wrote_69 1 rfl rfl ?_
    have hF := Option.some.inj hF
    subst hF
    exact g_iret X dX11_wrote_70 ho
  · rw [if_neg c_2] at hF
    refine g_iload_n X dX11_wrote_36 1 rfl rfl ?_
    refine g_aload_n X dX11_wrote_37 0 rfl rfl ?_
    refine g_iload_n X dX11_wrote_38 2 rfl rfl ?_
    refine g_aload_n X dX11_wrote_39 0 rfl rfl ?_
    refine g_getR (f := 2) X dX11_wrote_40 flX11_33 rfl rfl h0 ?_
    refine g_bipush (v := 54) X dX11_wrote_43 (by decide) ?_
    refine g_iload_n X dX11_wrote_45 2 rfl rfl ?_
    refine g_iadd X dX11_wrote_46 ?_
    obtain ⟨e_3, hF⟩ := oguard hF
    refine g_iald X dX11_wrote_47 kd_29 (on_11_6 h0) e_3 ?_
    obtain ⟨r_4, q_5, hF⟩ := obind hF
    refine g_callVi (As := [.int y2, .int (gA S 29 (a0 + 2) (((54 : Int32) + y2).toNatClampNeg))]) X dX11_wrote_48 mlX11_335 (fun l D cyy => tX11_isCalled (cx_inj X) l D cyy a0 y2 (gA S 29 (a0 + 2) (((54 : Int32) + y2).toNatClampNeg)) h0 S r_4 q_5) h0 (by decide) rfl rfl (Nat.le_of_ble_eq_true rfl) ?_
    refine g_if_eq (tgt := 60) X dX11_wrote_51 (by decide) (fun c_6 => ?_) (fun c_6 => ?_)
    · rw [if_pos c_6] at hF
      refine g_iconst (v := 0) X dX11_wrote_60 (by decide) ?_
      refine g_ior X dX11_wrote_61 ?_
      refine g_istore_n X dX11_wrote_62 rfl (by decide) (lv' := [(1, .int (y1 ||| (0 : Int32))), (0, .ref (ad a0)), (2, .int y2)]) rfl ?_
      exact g_perm [1, 0, 2] rfl (wX11_wrote_s63 X a0 h0 (y1 ||| (0 : Int32)) y2 k26 S r ho hk26 hF)
    · rw [if_neg c_6] at hF
      refine g_iconst (v := 1) X dX11_wrote_54 (by decide) ?_
      refine g_iload_n X dX11_wrote_55 2 rfl rfl ?_
      refine g_ishl X dX11_wrote_56 ?_
      refine g_goto (tgt := 61) X dX11_wrote_57 (by decide) ?_
      refine g_ior X dX11_wrote_61 ?_
      refine g_istore_n X dX11_wrote_62 rfl (by decide) (lv' := [(1, .int (y1 ||| ((1 : Int32) <<< (y2 &&& 31)))), (0, .ref (ad a0)), (2, .int y2)]) rfl ?_
      exact g_perm [1, 0, 2] rfl (wX11_wrote_s63 X a0 h0 (y1 ||| ((1 : Int32) <<< (y2 &&& 31))) y2 k26 S r ho hk26 hF)
theorem wX11_wrote_h26 {z : Mx} {ad : Nat → Nat} {o : Option Value × St} (X : CxOk z ad RX11 cX11_wrote 3 (some .int) 6) (a0 : Nat) (h0 : KT a0 = 11)  (r : (Int32 × St)) (ho : o = (some (.int r.1), r.2)) : ∀ (n : Nat) (y1 : Int32) (y2 : Int32) (S : St), fX11_wrote_h26 a0 n y1 y2 S = some r → GW z ad o S 26 [(0, .ref (ad a0)), (1, .int y1), (2, .int y2)] [] := by
  intro n
  induction n with
  | zero => intro y1 y2 S  hF; cases hF
  | succ n ih => intro y1 y2 S  hF; exact wX11_wrote_s26 X a0 h0 y1 y2 (fX11_wrote_h26 a0 n)  S r ho ih hF
theorem wX11_wrote_s12 {z : Mx} {ad : Nat → Nat} {o : Option Value × St} (X : CxOk z ad RX11 cX11_wrote 3 (some .int) 6) (a0 : Nat) (h0 : KT a0 = 11)     (S : St) (r : (Int32 × St)) (ho : o = (some (.int r.1), r.2)) (hF : fX11_wrote_s12 a0   S = some r) : GW z ad o S 12 [(0, .ref (ad a0))] [] := by
  unfold fX11_wrote_s12 at hF
  refine g_aload_n X dX11_wrote_12 0 rfl rfl ?_
  refine g_getI X dX11_wrote_13 flX11_18 rfl h0 ?_
  refine g_iconst (v := 3) X dX11_wrote_16 (by decide) ?_
  refine g_icmp_eq (tgt := 22) X dX11_wrote_17 (by decide) (fun c_1 => ?_) (fun c_1 => ?_)
  · rw [if_pos c_1] at hF
    refine g_iconst (v := 0) X dX11_wrote_22 (by decide) ?_
    refine g_istore_n X dX11_wrote_23 rfl (by decide) (lv' := [(1, .int (0 : Int32)), (0, .ref (ad a0))]) rfl ?_
    refine g_iconst (v := 0) X dX11_wrote_24 (by decide) ?_
    refine g_istore_n X dX11_wrote_25 rfl (by decide) (lv' := [(2, .int (0 : Int32)), (1, .int (0 : Int32)), (0, .ref (ad a0))]) rfl ?_
    exact g_perm [2, 1, 0] rfl (wX11_wrote_h26 X a0 h0 r ho NN (0 : Int32) (0 : Int32) S hF)
  · rw [if_neg c_1] at hF
    refine g_iconst (v := -1) X dX11_wrote_20 (by decide) ?_
    have hF := Option.some.inj hF
    subst hF
    exact g_iret X dX11_wrote_21 ho
theorem wX11_wrote_s5 {z : Mx} {ad : Nat → Nat} {o : Option Value × St} (X : CxOk z ad RX11 cX11_wrote 3 (some .int) 6) (a0 : Nat) (h0 : KT a0 = 11)     (S : St) (r : (Int32 × St)) (ho : o = (some (.int r.1), r.2)) (hF : fX11_wrote_s5 a0   S = some r) : GW z ad o S 5 [(0, .ref (ad a0))] [] := by
  unfold fX11_wrote_s5 at hF
  refine g_aload_n X dX11_wrote_5 0 rfl rfl ?_
  refine g_sipush (v := 940) X dX11_wrote_6 (by decide) ?_
  refine g_callVv (As := [.int (940 : Int32)]) X dX11_wrote_9 mlX11_221 (fun l D cyy => tX11_taken (cx_inj X) l D cyy a0 (940 : Int32) h0 S) h0 (by decide) rfl rfl (Nat.le_of_ble_eq_true rfl) ?_
  exact (wX11_wrote_s12 X a0 h0 (fX11_taken a0 (940 : Int32) S) r ho hF)
theorem wX11_wrote {z : Mx} {ad : Nat → Nat} {o : Option Value × St} (X : CxOk z ad RX11 cX11_wrote 3 (some .int) 6) (a0 : Nat) (h0 : KT a0 = 11) (S : St) (r : (Int32 × St)) (ho : o = (some (.int r.1), r.2)) (hF : fX11_wrote a0 S = some r) : GW z ad o S 0 [(0, .ref (ad a0))] [] := by
  unfold fX11_wrote at hF
  refine g_aload_n X dX11_wrote_0 0 rfl rfl ?_
  refine g_iconst (v := 0) X dX11_wrote_1 (by decide) ?_
  refine g_putI X dX11_wrote_2 fpX11_1 rfl rfl rfl h0 ?_
  exact (wX11_wrote_s5 X a0 h0 (sI S 11 0 a0 (0 : Int32)) r ho hF)
theorem tX11_wrote {ad : Nat → Nat} (hI : Inj ad) (l : Launch) (D : va_G) (cyy : Nat → ClassId) (a0 : Nat) (h0 : KT a0 = 11) (S : St) (r : (Int32 × St)) (hF : fX11_wrote a0 S = some r) : OkM l yX11_wrote cX11_wrote 3 (some .int) 6 ad D cyy [.ref (ad a0)] S (some (.int r.1), r.2) := okM_of hI (by decide) (inr_45 _ (List.mem_of_getElem? (i := 5) rfl)) (by show _ ≤ 3; exact Nat.le_of_ble_eq_true rfl) (fun z X => wX11_wrote X a0 h0 S r rfl hF)
def fX11_ago_s32 (k32 : Int32 → St → Option (Int32 × St)) (a0 : Nat) (x1 : Int32) (y2 : Int32)  (S : St) : Option (Int32 × St) :=
  if (9999 : Int32) < y2 then (some ((-1 : Int32), S)) else
  (if (((54 : Int32) + x1) < 0 ∨ 250 ≤ ((54 : Int32) + x1).toNatClampNeg) then none else
  if (gA S 29 (a0 + 2) (((54 : Int32) + x1).toNatClampNeg)) < y2 then (some ((-1 : Int32), S)) else
  (if (((54 : Int32) + x1) < 0 ∨ 250 ≤ ((54 : Int32) + x1).toNatClampNeg) then none else
  (fX11_isCalled a0 x1 ((gA S 29 (a0 + 2) (((54 : Int32) + x1).toNatClampNeg)) - y2) S).bind fun r_9 =>
  if r_9 = 0 then (k32 (y2 + (1 : Int32)) S) else
  (some (y2, S))))
def fX11_ago_h32 (a0 : Nat) (x1 : Int32) : Nat → Int32 → St → Option (Int32 × St)
  | 0, _, _ => none
  | n + 1, y2, S => fX11_ago_s32 (fX11_ago_h32 a0 x1 n) a0 x1 y2 S
def fX11_ago_s12 (a0 : Nat) (x1 : Int32)   (S : St) : Option (Int32 × St) :=
  if (gI S 11 3 a0) = (3 : Int32) then ((fX11_isParish a0 x1 S).bind fun r_2 =>
  if r_2 = 0 then (some ((-1 : Int32), S)) else
  (fX11_ago_h32 a0 x1 NN (0 : Int32) S)) else
  (some ((-1 : Int32), S))
def fX11_ago_s5 (a0 : Nat) (x1 : Int32)   (S : St) : Option (Int32 × St) :=
  fX11_ago_s12 a0 x1 (fX11_taken a0 (940 : Int32) S)
def fX11_ago (a0 : Nat) (x1 : Int32) (S : St) : Option (Int32 × St) :=
  fX11_ago_s5 a0 x1 (sI S 11 0 a0 (0 : Int32))
theorem wX11_ago_s32 {z : Mx} {ad : Nat → Nat} {o : Option Value × St} (X : CxOk z ad RX11 cX11_ago 3 (some .int) 6) (a0 : Nat) (x1 : Int32) (h0 : KT a0 = 11) (y2 : Int32)  (k32 : Int32 → St → Option (Int32 × St))   (S : St) (r : (Int32 × St)) (ho : o = (some (.int r.1), r.2)) (hk32 : ∀ (y2 : Int32) (S : St), k32 y2 S = some r → GW z ad o S 32 [(0, .ref (ad a0)), (1, .int x1), (2, .int y2)] []) (hF : fX11_ago_s32 k32 a0 x1 y2  S = some r) : GW z ad o S 32 [(0, .ref (ad a0)), (1, .int x1), (2, .int y2)] [] := by
  unfold fX11_ago_s32 at hF
  refine g_iload_n X dX11_ago_32 2 rfl rfl ?_
  refine g_sipush (v := 9999) X dX11_ago_33 (by decide) ?_
  refine g_icmp_gt (tgt := 79) X dX11_ago_36 (by decide) (fun c_5 => ?_) (fun c_5 => ?_)
  · rw [if_pos c_5] at hF
    refine g_iconst (v := -1) X dX11_ago_79 (by decide) ?_
    have hF := Option.some.inj hF
    subst hF
    exact g_iret X dX11_ago_80 ho
  · rw [if_neg c_5] at hF
    refine g_iload_n X dX11_ago_39 2 rfl rfl ?_
    refine g_aload_n X dX11_ago_40 0 rfl rfl ?_
    refine g_getR (f := 2) X dX11_ago_41 flX11_33 rfl rfl h0 ?_
    refine g_bipush (v := 54) X dX11_ago_44 (by decide) ?_
    refine g_iload_n X dX11_ago_46 1 rfl rfl ?_
    refine g_iadd X dX11_ago_47 ?_
    obtain ⟨e_6, hF⟩ := oguard hF
    refine g_iald X dX11_ago_48 kd_29 (on_11_6 h0) e_6 ?_
    refine g_icmp_gt (tgt := 79) X dX11_ago_49 (by decide) (fun c_7 => ?_) (fun c_7 => ?_)
    · rw [if_pos c_7] at hF
      refine g_iconst (v := -1) X dX11_ago_79 (by decide) ?_
      have hF := Option.some.inj hF
      subst hF
      exact g_iret X dX11_ago_80 ho
    · rw [if_neg c_7] at hF
      refine g_aload_n X dX11_ago_52 0 rfl rfl ?_
      refine g_iload_n X dX11_ago_53 1 rfl rfl ?_
      refine g_aload_n X dX11_ago_54 0 rfl rfl ?_
      refine g_getR (f := 2) X dX11_ago_55 flX11_33 rfl rfl h0 ?_
      refine g_bipush (v := 54) X dX11_ago_58 (by decide) ?_
      refine g_iload_n X dX11_ago_60 1 rfl rfl ?_
      refine g_iadd X dX11_ago_61 ?_
      obtain ⟨e_8, hF⟩ := oguard hF
      refine g_iald X dX11_ago_62 kd_29 (on_11_6 h0) e_8 ?_
      refine g_iload_n X dX11_ago_63 2 rfl rfl ?_
      refine g_isub X dX11_ago_64 ?_
      obtain ⟨r_9, q_10, hF⟩ := obind hF
      refine g_callVi (As := [.int x1, .int ((gA S 29 (a0 + 2) (((54 : Int32) + x1).toNatClampNeg)) - y2)]) X dX11_ago_65 mlX11_335 (fun l D cyy => tX11_isCalled (cx_inj X) l D cyy a0 x1 ((gA S 29 (a0 + 2) (((54 : Int32) + x1).toNatClampNeg)) - y2) h0 S r_9 q_10) h0 (by decide) rfl rfl (Nat.le_of_ble_eq_true rfl) ?_
      refine g_if_eq (tgt := 73) X dX11_ago_68 (by decide) (fun c_11 => ?_) (fun c_11 => ?_)
      · rw [if_pos c_11] at hF
        refine g_iinc (v := (y2 + (1 : Int32))) X dX11_ago_73 2 rfl rfl (by decide) (lv' := [(2, .int (y2 + (1 : Int32))), (0, .ref (ad a0)), (1, .int x1)]) rfl ?_
        refine g_goto (tgt := 32) X dX11_ago_76 (by decide) ?_
        exact g_perm [1, 2, 0] rfl (hk32 (y2 + (1 : Int32)) S hF)
      · rw [if_neg c_11] at hF
        refine g_iload_n X dX11_ago_71 2 rfl rfl ?_
        have hF := Option.some.inj hF
        subst hF
        exact g_iret X dX11_ago_72 ho
theorem wX11_ago_h32 {z : Mx} {ad : Nat → Nat} {o : Option Value × St} (X : CxOk z ad RX11 cX11_ago 3 (some .int) 6) (a0 : Nat) (x1 : Int32) (h0 : KT a0 = 11)  (r : (Int32 × St)) (ho : o = (some (.int r.1), r.2)) : ∀ (n : Nat) (y2 : Int32) (S : St), fX11_ago_h32 a0 x1 n y2 S = some r → GW z ad o S 32 [(0, .ref (ad a0)), (1, .int x1), (2, .int y2)] [] := by
  intro n
  induction n with
  | zero => intro y2 S  hF; cases hF
  | succ n ih => intro y2 S  hF; exact wX11_ago_s32 X a0 x1 h0 y2 (fX11_ago_h32 a0 x1 n)  S r ho ih hF
theorem wX11_ago_s12 {z : Mx} {ad : Nat → Nat} {o : Option Value × St} (X : CxOk z ad RX11 cX11_ago 3 (some .int) 6) (a0 : Nat) (x1 : Int32) (h0 : KT a0 = 11)     (S : St) (r : (Int32 × St)) (ho : o = (some (.int r.1), r.2)) (hF : fX11_ago_s12 a0 x1   S = some r) : GW z ad o S 12 [(0, .ref (ad a0)), (1, .int x1)] [] := by
  unfold fX11_ago_s12 at hF
  refine g_aload_n X dX11_ago_12 0 rfl rfl ?_
  refine g_getI X dX11_ago_13 flX11_18 rfl h0 ?_
  refine g_iconst (v := 3) X dX11_ago_16 (by decide) ?_
  refine g_icmp_ne (tgt := 28) X dX11_ago_17 (by decide) (fun c_1 => ?_) (fun c_1 => ?_)
  · rw [if_neg c_1] at hF
    refine g_iconst (v := -1) X dX11_ago_28 (by decide) ?_
    have hF := Option.some.inj hF
    subst hF
    exact g_iret X dX11_ago_29 ho
  · rw [if_pos c_1] at hF
    refine g_aload_n X dX11_ago_20 0 rfl rfl ?_
    refine g_iload_n X dX11_ago_21 1 rfl rfl ?_
    obtain ⟨r_2, q_3, hF⟩ := obind hF
    refine g_callVi (As := [.int x1]) X dX11_ago_22 mlX11_267 (fun l D cyy => tX11_isParish (cx_inj X) l D cyy a0 x1 h0 S r_2 q_3) h0 (by decide) rfl rfl (Nat.le_of_ble_eq_true rfl) ?_
    refine g_if_ne (tgt := 30) X dX11_ago_25 (by decide) (fun c_4 => ?_) (fun c_4 => ?_)
    · rw [if_neg c_4] at hF
      refine g_iconst (v := 0) X dX11_ago_30 (by decide) ?_
      refine g_istore_n X dX11_ago_31 rfl (by decide) (lv' := [(2, .int (0 : Int32)), (0, .ref (ad a0)), (1, .int x1)]) rfl ?_
      exact g_perm [1, 2, 0] rfl (wX11_ago_h32 X a0 x1 h0 r ho NN (0 : Int32) S hF)
    · rw [if_pos c_4] at hF
      refine g_iconst (v := -1) X dX11_ago_28 (by decide) ?_
      have hF := Option.some.inj hF
      subst hF
      exact g_iret X dX11_ago_29 ho
theorem wX11_ago_s5 {z : Mx} {ad : Nat → Nat} {o : Option Value × St} (X : CxOk z ad RX11 cX11_ago 3 (some .int) 6) (a0 : Nat) (x1 : Int32) (h0 : KT a0 = 11)     (S : St) (r : (Int32 × St)) (ho : o = (some (.int r.1), r.2)) (hF : fX11_ago_s5 a0 x1   S = some r) : GW z ad o S 5 [(0, .ref (ad a0)), (1, .int x1)] [] := by
  unfold fX11_ago_s5 at hF
  refine g_aload_n X dX11_ago_5 0 rfl rfl ?_
  refine g_sipush (v := 940) X dX11_ago_6 (by decide) ?_
  refine g_callVv (As := [.int (940 : Int32)]) X dX11_ago_9 mlX11_221 (fun l D cyy => tX11_taken (cx_inj X) l D cyy a0 (940 : Int32) h0 S) h0 (by decide) rfl rfl (Nat.le_of_ble_eq_true rfl) ?_
  exact (wX11_ago_s12 X a0 x1 h0 (fX11_taken a0 (940 : Int32) S) r ho hF)
theorem wX11_ago {z : Mx} {ad : Nat → Nat} {o : Option Value × St} (X : CxOk z ad RX11 cX11_ago 3 (some .int) 6) (a0 : Nat) (x1 : Int32) (h0 : KT a0 = 11) (S : St) (r : (Int32 × St)) (ho : o = (some (.int r.1), r.2)) (hF : fX11_ago a0 x1 S = some r) : GW z ad o S 0 [(0, .ref (ad a0)), (1, .int x1)] [] := by
  unfold fX11_ago at hF
  refine g_aload_n X dX11_ago_0 0 rfl rfl ?_
  refine g_iconst (v := 0) X dX11_ago_1 (by decide) ?_
  refine g_putI X dX11_ago_2 fpX11_1 rfl rfl rfl h0 ?_
  exact (wX11_ago_s5 X a0 x1 h0 (sI S 11 0 a0 (0 : Int32)) r ho hF)
theorem tX11_ago {ad : Nat → Nat} (hI : Inj ad) (l : Launch) (D : va_G) (cyy : Nat → ClassId) (a0 : Nat) (x1 : Int32) (h0 : KT a0 = 11) (S : St) (r : (Int32 × St)) (hF : fX11_ago a0 x1 S = some r) : OkM l yX11_ago cX11_ago 3 (some .int) 6 ad D cyy [.ref (ad a0), .int x1] S (some (.int r.1), r.2) := okM_of hI (by decide) (inr_46 _ (List.mem_of_getElem? (i := 1) rfl)) (by show _ ≤ 3; exact Nat.le_of_ble_eq_true rfl) (fun z X => wX11_ago X a0 x1 h0 S r rfl hF)
def fX11_partOf (a0 : Nat) (x1 : Int32) (x2 : Int32) (S : St) : Option Int32 :=
  if x2 = 0 then ((fX11_today a0 x1 S).bind fun r_7 =>
  some (r_7 / (32 : Int32))) else
  (if x2 = (1 : Int32) then ((fX11_today a0 x1 S).bind fun r_5 =>
  some (r_5 - r_5 / (32 : Int32) * (32 : Int32))) else
  ((fX11_weekday a0 x1 S).bind fun r_3 =>
  some r_3))
theorem wX11_partOf {z : Mx} {ad : Nat → Nat} {o : Option Value × St} (X : CxOk z ad RX11 cX11_partOf 3 (some .int) 6) (a0 : Nat) (x1 : Int32) (x2 : Int32) (h0 : KT a0 = 11) (S : St) (r : Int32) (ho : o = (some (.int r), S)) (hF : fX11_partOf a0 x1 x2 S = some r) : GW z ad o S 0 [(0, .ref (ad a0)), (1, .int x1), (2, .int x2)] [] := by
  unfold fX11_partOf at hF
  refine g_iload_n X dX11_partOf_0 2 rfl rfl ?_
  refine g_if_ne (tgt := 15) X dX11_partOf_1 (by decide) (fun c_1 => ?_) (fun c_1 => ?_)
  · rw [if_neg c_1] at hF
    refine g_iload_n X dX11_partOf_15 2 rfl rfl ?_
    refine g_iconst (v := 1) X dX11_partOf_16 (by decide) ?_
    refine g_icmp_ne (tgt := 31) X dX11_partOf_17 (by decide) (fun c_2 => ?_) (fun c_2 => ?_)
    · rw [if_neg c_2] at hF
      refine g_aload_n X dX11_partOf_31 0 rfl rfl ?_
      refine g_iload_n X dX11_partOf_32 1 rfl rfl ?_
      obtain ⟨r_3, q_4, hF⟩ := obind hF
      refine g_callVi (As := [.int x1]) X dX11_partOf_33 mlX11_285 (fun l D cyy => tX11_weekday (cx_inj X) l D cyy a0 x1 h0 S r_3 q_4) h0 (by decide) rfl rfl (Nat.le_of_ble_eq_true rfl) ?_
      have hF := Option.some.inj hF
      subst hF
      exact g_iret X dX11_partOf_36 ho
    · rw [if_pos c_2] at hF
      refine g_aload_n X dX11_partOf_20 0 rfl rfl ?_
      refine g_iload_n X dX11_partOf_21 1 rfl rfl ?_
      obtain ⟨r_5, q_6, hF⟩ := obind hF
      refine g_callVi (As := [.int x1]) X dX11_partOf_22 mlX11_264 (fun l D cyy => tX11_today (cx_inj X) l D cyy a0 x1 h0 S r_5 q_6) h0 (by decide) rfl rfl (Nat.le_of_ble_eq_true rfl) ?_
      refine g_bipush (v := 32) X dX11_partOf_25 (by decide) ?_
      refine g_irem X dX11_partOf_27 (by decide) ?_
      refine g_goto (tgt := 36) X dX11_partOf_28 (by decide) ?_
      have hF := Option.some.inj hF
      subst hF
      exact g_iret X dX11_partOf_36 ho
  · rw [if_pos c_1] at hF
    refine g_aload_n X dX11_partOf_4 0 rfl rfl ?_
    refine g_iload_n X dX11_partOf_5 1 rfl rfl ?_
    obtain ⟨r_7, q_8, hF⟩ := obind hF
    refine g_callVi (As := [.int x1]) X dX11_partOf_6 mlX11_264 (fun l D cyy => tX11_today (cx_inj X) l D cyy a0 x1 h0 S r_7 q_8) h0 (by decide) rfl rfl (Nat.le_of_ble_eq_true rfl) ?_
    refine g_bipush (v := 32) X dX11_partOf_9 (by decide) ?_
    refine g_idiv X dX11_partOf_11 (by decide) ?_
    refine g_goto (tgt := 36) X dX11_partOf_12 (by decide) ?_
    have hF := Option.some.inj hF
    subst hF
    exact g_iret X dX11_partOf_36 ho
theorem tX11_partOf {ad : Nat → Nat} (hI : Inj ad) (l : Launch) (D : va_G) (cyy : Nat → ClassId) (a0 : Nat) (x1 : Int32) (x2 : Int32) (h0 : KT a0 = 11) (S : St) (r : Int32) (hF : fX11_partOf a0 x1 x2 S = some r) : OkM l yX11_partOf cX11_partOf 3 (some .int) 6 ad D cyy [.ref (ad a0), .int x1, .int x2] S (some (.int r), S) := okM_of hI (by decide) (inr_47 _ (List.mem_of_getElem? (i := 14) rfl)) (by show _ ≤ 3; exact Nat.le_of_ble_eq_true rfl) (fun z X => wX11_partOf X a0 x1 x2 h0 S r rfl hF)
def fX11_leftBy_s70 (k4 : Int32 → Int32 → Option Int32) (a0 : Nat) (x1 : Int32) (y2 : Int32) (y3 : Int32)  (S : St) : Option Int32 :=
  k4 y2 (y3 + (1 : Int32))
def fX11_leftBy_s20 (k4 : Int32 → Int32 → Option Int32) (k20 : Int32 → Int32 → Int32 → Int32 → Option Int32) (a0 : Nat) (x1 : Int32) (y2 : Int32) (y3 : Int32) (y4 : Int32) (y5 : Int32)  (S : St) : Option Int32 :=
  if (gA S 29 (a0 + 2) 0) ≤ y5 then (fX11_leftBy_s70 k4 a0 x1 (fX11_greater y2 y4 S) y3 S) else
  ((fX11_partOf a0 y5 x1 S).bind fun r_3 =>
  (fX11_partOf a0 y3 x1 S).bind fun r_5 =>
  if r_3 = r_5 then (k20 y2 y3 (y4 + (1 : Int32)) (y5 + (1 : Int32))) else
  (k20 y2 y3 (y4 + (0 : Int32)) (y5 + (1 : Int32))))
def fX11_leftBy_h20 (k4 : Int32 → Int32 → Option Int32) (a0 : Nat) (x1 : Int32) : Nat → Int32 → Int32 → Int32 → Int32 → St → Option Int32
  | 0, _, _, _, _, _ => none
  | n + 1, y2, y3, y4, y5, S => fX11_leftBy_s20 k4 (fun y2 y3 y4 y5 => fX11_leftBy_h20 k4 a0 x1 n y2 y3 y4 y5 S) a0 x1 y2 y3 y4 y5 S
def fX11_leftBy_s4 (k4 : Int32 → Int32 → Option Int32) (a0 : Nat) (x1 : Int32) (y2 : Int32) (y3 : Int32)  (S : St) : Option Int32 :=
  if (gA S 29 (a0 + 2) 0) ≤ y3 then (some y2) else
  (fX11_leftBy_h20 k4 a0 x1 NN y2 y3 (0 : Int32) (0 : Int32) S)
def fX11_leftBy_h4 (a0 : Nat) (x1 : Int32) : Nat → Int32 → Int32 → St → Option Int32
  | 0, _, _, _ => none
  | n + 1, y2, y3, S => fX11_leftBy_s4 (fun y2 y3 => fX11_leftBy_h4 a0 x1 n y2 y3 S) a0 x1 y2 y3 S
def fX11_leftBy (a0 : Nat) (x1 : Int32) (S : St) : Option Int32 :=
  fX11_leftBy_h4 a0 x1 NN (0 : Int32) (0 : Int32) S
theorem wX11_leftBy_s70 {z : Mx} {ad : Nat → Nat} {o : Option Value × St} (X : CxOk z ad RX11 cX11_leftBy 6 (some .int) 7) (a0 : Nat) (x1 : Int32) (h0 : KT a0 = 11) (y2 : Int32) (y3 : Int32)  (k4 : Int32 → Int32 → Option Int32)   (S : St) (r : Int32) (ho : o = (some (.int r), S)) (hk4 : ∀ (y2 : Int32) (y3 : Int32), k4 y2 y3 = some r → GW z ad o S 4 [(0, .ref (ad a0)), (1, .int x1), (2, .int y2), (3, .int y3)] []) (hF : fX11_leftBy_s70 k4 a0 x1 y2 y3  S = some r) : GW z ad o S 70 [(0, .ref (ad a0)), (1, .int x1), (2, .int y2), (3, .int y3)] [] := by
  unfold fX11_leftBy_s70 at hF
  refine g_iinc (v := (y3 + (1 : Int32))) X dX11_leftBy_70 3 rfl rfl (by decide) (lv' := [(3, .int (y3 + (1 : Int32))), (0, .ref (ad a0)), (1, .int x1), (2, .int y2)]) rfl ?_
  refine g_goto (tgt := 4) X dX11_leftBy_73 (by decide) ?_
  exact g_perm [1, 2, 3, 0] rfl (hk4 y2 (y3 + (1 : Int32)) hF)
theorem wX11_leftBy_s20 {z : Mx} {ad : Nat → Nat} {o : Option Value × St} (X : CxOk z ad RX11 cX11_leftBy 6 (some .int) 7) (a0 : Nat) (x1 : Int32) (h0 : KT a0 = 11) (y2 : Int32) (y3 : Int32) (y4 : Int32) (y5 : Int32)  (k4 : Int32 → Int32 → Option Int32) (k20 : Int32 → Int32 → Int32 → Int32 → Option Int32)   (S : St) (r : Int32) (ho : o = (some (.int r), S)) (hk4 : ∀ (y2 : Int32) (y3 : Int32), k4 y2 y3 = some r → GW z ad o S 4 [(0, .ref (ad a0)), (1, .int x1), (2, .int y2), (3, .int y3)] []) (hk20 : ∀ (y2 : Int32) (y3 : Int32) (y4 : Int32) (y5 : Int32), k20 y2 y3 y4 y5 = some r → GW z ad o S 20 [(0, .ref (ad a0)), (1, .int x1), (2, .int y2), (3, .int y3), (4, .int y4), (5, .int y5)] []) (hF : fX11_leftBy_s20 k4 k20 a0 x1 y2 y3 y4 y5  S = some r) : GW z ad o S 20 [(0, .ref (ad a0)), (1, .int x1), (2, .int y2), (3, .int y3), (4, .int y4), (5, .int y5)] [] := by
  unfold fX11_leftBy_s20 at hF
  refine g_iload X dX11_leftBy_20 5 rfl ?_
  refine g_aload_n X dX11_leftBy_22 0 rfl rfl ?_
  refine g_getR (f := 2) X dX11_leftBy_23 flX11_33 rfl rfl h0 ?_
  refine g_iconst (v := 0) X dX11_leftBy_26 (by decide) ?_
  refine g_ialdK (j := 0) X dX11_leftBy_27 kd_29 (on_11_6 h0) (by decide) (by decide) ?_
  refine g_icmp_ge (tgt := 63) X dX11_leftBy_28 (by decide) (fun c_2 => ?_) (fun c_2 => ?_)
  · rw [if_pos c_2] at hF
    refine g_iload_n X dX11_leftBy_63 2 rfl rfl ?_
    refine g_iload X dX11_leftBy_64 4 rfl ?_
    refine g_callSi (As := [.int y2, .int y4]) X dX11_leftBy_66 mlX11_341 (fun l D cyy => tX11_greater (cx_inj X) l D cyy y2 y4  S) (by decide) rfl rfl (Nat.le_of_ble_eq_true rfl) ?_
    refine g_istore_n X dX11_leftBy_69 rfl (by decide) (lv' := [(2, .int (fX11_greater y2 y4 S)), (0, .ref (ad a0)), (1, .int x1), (3, .int y3), (4, .int y4), (5, .int y5)]) rfl ?_
    exact g_perm [1, 2, 0, 3] rfl (wX11_leftBy_s70 X a0 x1 h0 (fX11_greater y2 y4 S) y3 k4 S r ho hk4 hF)
  · rw [if_neg c_2] at hF
    refine g_iload X dX11_leftBy_31 4 rfl ?_
    refine g_aload_n X dX11_leftBy_33 0 rfl rfl ?_
    refine g_iload X dX11_leftBy_34 5 rfl ?_
    refine g_iload_n X dX11_leftBy_36 1 rfl rfl ?_
    obtain ⟨r_3, q_4, hF⟩ := obind hF
    refine g_callVi (As := [.int y5, .int x1]) X dX11_leftBy_37 mlX11_338 (fun l D cyy => tX11_partOf (cx_inj X) l D cyy a0 y5 x1 h0 S r_3 q_4) h0 (by decide) rfl rfl (Nat.le_of_ble_eq_true rfl) ?_
    refine g_aload_n X dX11_leftBy_40 0 rfl rfl ?_
    refine g_iload_n X dX11_leftBy_41 3 rfl rfl ?_
    refine g_iload_n X dX11_leftBy_42 1 rfl rfl ?_
    obtain ⟨r_5, q_6, hF⟩ := obind hF
    refine g_callVi (As := [.int y3, .int x1]) X dX11_leftBy_43 mlX11_338 (fun l D cyy => tX11_partOf (cx_inj X) l D cyy a0 y3 x1 h0 S r_5 q_6) h0 (by decide) rfl rfl (Nat.le_of_ble_eq_true rfl) ?_
    refine g_icmp_ne (tgt := 53) X dX11_leftBy_46 (by decide) (fun c_7 => ?_) (fun c_7 => ?_)
    · rw [if_neg c_7] at hF
      refine g_iconst (v := 0) X dX11_leftBy_53 (by decide) ?_
      refine g_iadd X dX11_leftBy_54 ?_
      refine g_istore X dX11_leftBy_55 (by decide) (lv' := [(4, .int (y4 + (0 : Int32))), (0, .ref (ad a0)), (1, .int x1), (2, .int y2), (3, .int y3), (5, .int y5)]) rfl ?_
      refine g_iinc (v := (y5 + (1 : Int32))) X dX11_leftBy_57 5 rfl rfl (by decide) (lv' := [(5, .int (y5 + (1 : Int32))), (4, .int (y4 + (0 : Int32))), (0, .ref (ad a0)), (1, .int x1), (2, .int y2), (3, .int y3)]) rfl ?_
      refine g_goto (tgt := 20) X dX11_leftBy_60 (by decide) ?_
      exact g_perm [2, 3, 4, 5, 1, 0] rfl (hk20 y2 y3 (y4 + (0 : Int32)) (y5 + (1 : Int32)) hF)
    · rw [if_pos c_7] at hF
      refine g_iconst (v := 1) X dX11_leftBy_49 (by decide) ?_
      refine g_goto (tgt := 54) X dX11_leftBy_50 (by decide) ?_
      refine g_iadd X dX11_leftBy_54 ?_
      refine g_istore X dX11_leftBy_55 (by decide) (lv' := [(4, .int (y4 + (1 : Int32))), (0, .ref (ad a0)), (1, .int x1), (2, .int y2), (3, .int y3), (5, .int y5)]) rfl ?_
      refine g_iinc (v := (y5 + (1 : Int32))) X dX11_leftBy_57 5 rfl rfl (by decide) (lv' := [(5, .int (y5 + (1 : Int32))), (4, .int (y4 + (1 : Int32))), (0, .ref (ad a0)), (1, .int x1), (2, .int y2), (3, .int y3)]) rfl ?_
      refine g_goto (tgt := 20) X dX11_leftBy_60 (by decide) ?_
      exact g_perm [2, 3, 4, 5, 1, 0] rfl (hk20 y2 y3 (y4 + (1 : Int32)) (y5 + (1 : Int32)) hF)
theorem wX11_leftBy_h20 {z : Mx} {ad : Nat → Nat} {o : Option Value × St} (X : CxOk z ad RX11 cX11_leftBy 6 (some .int) 7) (a0 : Nat) (x1 : Int32) (h0 : KT a0 = 11) (k4 : Int32 → Int32 → Option Int32)  (S : St) (r : Int32) (ho : o = (some (.int r), S)) (hk4 : ∀ (y2 : Int32) (y3 : Int32), k4 y2 y3 = some r → GW z ad o S 4 [(0, .ref (ad a0)), (1, .int x1), (2, .int y2), (3, .int y3)] []) : ∀ (n : Nat) (y2 : Int32) (y3 : Int32) (y4 : Int32) (y5 : Int32), fX11_leftBy_h20 k4 a0 x1 n y2 y3 y4 y5 S = some r → GW z ad o S 20 [(0, .ref (ad a0)), (1, .int x1), (2, .int y2), (3, .int y3), (4, .int y4), (5, .int y5)] [] := by
  intro n
  induction n with
  | zero => intro y2 y3 y4 y5  hF; cases hF
  | succ n ih => intro y2 y3 y4 y5  hF; exact wX11_leftBy_s20 X a0 x1 h0 y2 y3 y4 y5 k4 (fun y2 y3 y4 y5 => fX11_leftBy_h20 k4 a0 x1 n y2 y3 y4 y5 S)  S r ho hk4 (fun y2 y3 y4 y5 hF => ih y2 y3 y4 y5  hF) hF
theorem wX11_leftBy_s4 {z : Mx} {ad : Nat → Nat} {o : Option Value × St} (X : CxOk z ad RX11 cX11_leftBy 6 (some .int) 7) (a0 : Nat) (x1 : Int32) (h0 : KT a0 = 11) (y2 : Int32) (y3 : Int32)  (k4 : Int32 → Int32 → Option Int32)   (S : St) (r : Int32) (ho : o = (some (.int r), S)) (hk4 : ∀ (y2 : Int32) (y3 : Int32), k4 y2 y3 = some r → GW z ad o S 4 [(0, .ref (ad a0)), (1, .int x1), (2, .int y2), (3, .int y3)] []) (hF : fX11_leftBy_s4 k4 a0 x1 y2 y3  S = some r) : GW z ad o S 4 [(0, .ref (ad a0)), (1, .int x1), (2, .int y2), (3, .int y3)] [] := by
  unfold fX11_leftBy_s4 at hF
  refine g_iload_n X dX11_leftBy_4 3 rfl rfl ?_
  refine g_aload_n X dX11_leftBy_5 0 rfl rfl ?_
  refine g_getR (f := 2) X dX11_leftBy_6 flX11_33 rfl rfl h0 ?_
  refine g_iconst (v := 0) X dX11_leftBy_9 (by decide) ?_
  refine g_ialdK (j := 0) X dX11_leftBy_10 kd_29 (on_11_6 h0) (by decide) (by decide) ?_
  refine g_icmp_ge (tgt := 76) X dX11_leftBy_11 (by decide) (fun c_1 => ?_) (fun c_1 => ?_)
  · rw [if_pos c_1] at hF
    refine g_iload_n X dX11_leftBy_76 2 rfl rfl ?_
    have hF := Option.some.inj hF
    subst hF
    exact g_iret X dX11_leftBy_77 ho
  · rw [if_neg c_1] at hF
    refine g_iconst (v := 0) X dX11_leftBy_14 (by decide) ?_
    refine g_istore X dX11_leftBy_15 (by decide) (lv' := [(4, .int (0 : Int32)), (0, .ref (ad a0)), (1, .int x1), (2, .int y2), (3, .int y3)]) rfl ?_
    refine g_iconst (v := 0) X dX11_leftBy_17 (by decide) ?_
    refine g_istore X dX11_leftBy_18 (by decide) (lv' := [(5, .int (0 : Int32)), (4, .int (0 : Int32)), (0, .ref (ad a0)), (1, .int x1), (2, .int y2), (3, .int y3)]) rfl ?_
    exact g_perm [2, 3, 4, 5, 1, 0] rfl (wX11_leftBy_h20 X a0 x1 h0 k4 S r ho hk4 NN y2 y3 (0 : Int32) (0 : Int32) hF)
theorem wX11_leftBy_h4 {z : Mx} {ad : Nat → Nat} {o : Option Value × St} (X : CxOk z ad RX11 cX11_leftBy 6 (some .int) 7) (a0 : Nat) (x1 : Int32) (h0 : KT a0 = 11)  (S : St) (r : Int32) (ho : o = (some (.int r), S)) : ∀ (n : Nat) (y2 : Int32) (y3 : Int32), fX11_leftBy_h4 a0 x1 n y2 y3 S = some r → GW z ad o S 4 [(0, .ref (ad a0)), (1, .int x1), (2, .int y2), (3, .int y3)] [] := by
  intro n
  induction n with
  | zero => intro y2 y3  hF; cases hF
  | succ n ih => intro y2 y3  hF; exact wX11_leftBy_s4 X a0 x1 h0 y2 y3 (fun y2 y3 => fX11_leftBy_h4 a0 x1 n y2 y3 S)  S r ho (fun y2 y3 hF => ih y2 y3  hF) hF
theorem wX11_leftBy {z : Mx} {ad : Nat → Nat} {o : Option Value × St} (X : CxOk z ad RX11 cX11_leftBy 6 (some .int) 7) (a0 : Nat) (x1 : Int32) (h0 : KT a0 = 11) (S : St) (r : Int32) (ho : o = (some (.int r), S)) (hF : fX11_leftBy a0 x1 S = some r) : GW z ad o S 0 [(0, .ref (ad a0)), (1, .int x1)] [] := by
  unfold fX11_leftBy at hF
  refine g_iconst (v := 0) X dX11_leftBy_0 (by decide) ?_
  refine g_istore_n X dX11_leftBy_1 rfl (by decide) (lv' := [(2, .int (0 : Int32)), (0, .ref (ad a0)), (1, .int x1)]) rfl ?_
  refine g_iconst (v := 0) X dX11_leftBy_2 (by decide) ?_
  refine g_istore_n X dX11_leftBy_3 rfl (by decide) (lv' := [(3, .int (0 : Int32)), (2, .int (0 : Int32)), (0, .ref (ad a0)), (1, .int x1)]) rfl ?_
  exact g_perm [2, 3, 1, 0] rfl (wX11_leftBy_h4 X a0 x1 h0 S r ho NN (0 : Int32) (0 : Int32) hF)
theorem tX11_leftBy {ad : Nat → Nat} (hI : Inj ad) (l : Launch) (D : va_G) (cyy : Nat → ClassId) (a0 : Nat) (x1 : Int32) (h0 : KT a0 = 11) (S : St) (r : Int32) (hF : fX11_leftBy a0 x1 S = some r) : OkM l yX11_leftBy cX11_leftBy 6 (some .int) 7 ad D cyy [.ref (ad a0), .int x1] S (some (.int r), S) := okM_of hI (by decide) (inr_47 _ (List.mem_of_getElem? (i := 10) rfl)) (by show _ ≤ 6; exact Nat.le_of_ble_eq_true rfl) (fun z X => wX11_leftBy X a0 x1 h0 S r rfl hF)
def fX11_ask_s40 (k20 : Int32 → Int32 → St → Option (Int32 × St)) (a0 : Nat) (y1 : Int32) (y2 : Int32)  (S : St) : Option (Int32 × St) :=
  k20 y1 (y2 + (1 : Int32)) S
def fX11_ask_s20 (k20 : Int32 → Int32 → St → Option (Int32 × St)) (a0 : Nat) (y1 : Int32) (y2 : Int32)  (S : St) : Option (Int32 × St) :=
  if (3 : Int32) ≤ y2 then (some (y1, S)) else
  ((fX11_leftBy a0 y2 S).bind fun r_3 =>
  (fX11_leftBy a0 y1 S).bind fun r_5 =>
  if r_5 ≤ r_3 then (fX11_ask_s40 k20 a0 y1 y2 S) else
  (fX11_ask_s40 k20 a0 y2 y2 S))
def fX11_ask_h20 (a0 : Nat) : Nat → Int32 → Int32 → St → Option (Int32 × St)
  | 0, _, _, _ => none
  | n + 1, y1, y2, S => fX11_ask_s20 (fX11_ask_h20 a0 n) a0 y1 y2 S
def fX11_ask_s5 (a0 : Nat)   (S : St) : Option (Int32 × St) :=
  if (gA S 29 (a0 + 2) 0) = 0 then (some ((-1 : Int32), S)) else
  (fX11_ask_h20 a0 NN (0 : Int32) (1 : Int32) S)
def fX11_ask (a0 : Nat) (S : St) : Option (Int32 × St) :=
  fX11_ask_s5 a0 (sI S 11 0 a0 (0 : Int32))
theorem wX11_ask_s40 {z : Mx} {ad : Nat → Nat} {o : Option Value × St} (X : CxOk z ad RX11 cX11_ask 3 (some .int) 8) (a0 : Nat) (h0 : KT a0 = 11) (y1 : Int32) (y2 : Int32)  (k20 : Int32 → Int32 → St → Option (Int32 × St))   (S : St) (r : (Int32 × St)) (ho : o = (some (.int r.1), r.2)) (hk20 : ∀ (y1 : Int32) (y2 : Int32) (S : St), k20 y1 y2 S = some r → GW z ad o S 20 [(0, .ref (ad a0)), (1, .int y1), (2, .int y2)] []) (hF : fX11_ask_s40 k20 a0 y1 y2  S = some r) : GW z ad o S 40 [(0, .ref (ad a0)), (1, .int y1), (2, .int y2)] [] := by
  unfold fX11_ask_s40 at hF
  refine g_iinc (v := (y2 + (1 : Int32))) X dX11_ask_40 2 rfl rfl (by decide) (lv' := [(2, .int (y2 + (1 : Int32))), (0, .ref (ad a0)), (1, .int y1)]) rfl ?_
  refine g_goto (tgt := 20) X dX11_ask_43 (by decide) ?_
  exact g_perm [1, 2, 0] rfl (hk20 y1 (y2 + (1 : Int32)) S hF)
theorem wX11_ask_s20 {z : Mx} {ad : Nat → Nat} {o : Option Value × St} (X : CxOk z ad RX11 cX11_ask 3 (some .int) 8) (a0 : Nat) (h0 : KT a0 = 11) (y1 : Int32) (y2 : Int32)  (k20 : Int32 → Int32 → St → Option (Int32 × St))   (S : St) (r : (Int32 × St)) (ho : o = (some (.int r.1), r.2)) (hk20 : ∀ (y1 : Int32) (y2 : Int32) (S : St), k20 y1 y2 S = some r → GW z ad o S 20 [(0, .ref (ad a0)), (1, .int y1), (2, .int y2)] []) (hF : fX11_ask_s20 k20 a0 y1 y2  S = some r) : GW z ad o S 20 [(0, .ref (ad a0)), (1, .int y1), (2, .int y2)] [] := by
  unfold fX11_ask_s20 at hF
  refine g_iload_n X dX11_ask_20 2 rfl rfl ?_
  refine g_iconst (v := 3) X dX11_ask_21 (by decide) ?_
  refine g_icmp_ge (tgt := 46) X dX11_ask_22 (by decide) (fun c_2 => ?_) (fun c_2 => ?_)
  · rw [if_pos c_2] at hF
    refine g_iload_n X dX11_ask_46 1 rfl rfl ?_
    have hF := Option.some.inj hF
    subst hF
    exact g_iret X dX11_ask_47 ho
  · rw [if_neg c_2] at hF
    refine g_aload_n X dX11_ask_25 0 rfl rfl ?_
    refine g_iload_n X dX11_ask_26 2 rfl rfl ?_
    obtain ⟨r_3, q_4, hF⟩ := obind hF
    refine g_callVi (As := [.int y2]) X dX11_ask_27 mlX11_344 (fun l D cyy => tX11_leftBy (cx_inj X) l D cyy a0 y2 h0 S r_3 q_4) h0 (by decide) rfl rfl (Nat.le_of_ble_eq_true rfl) ?_
    refine g_aload_n X dX11_ask_30 0 rfl rfl ?_
    refine g_iload_n X dX11_ask_31 1 rfl rfl ?_
    obtain ⟨r_5, q_6, hF⟩ := obind hF
    refine g_callVi (As := [.int y1]) X dX11_ask_32 mlX11_344 (fun l D cyy => tX11_leftBy (cx_inj X) l D cyy a0 y1 h0 S r_5 q_6) h0 (by decide) rfl rfl (Nat.le_of_ble_eq_true rfl) ?_
    refine g_icmp_ge (tgt := 40) X dX11_ask_35 (by decide) (fun c_7 => ?_) (fun c_7 => ?_)
    · rw [if_pos c_7] at hF
      exact (wX11_ask_s40 X a0 h0 y1 y2 k20 S r ho hk20 hF)
    · rw [if_neg c_7] at hF
      refine g_iload_n X dX11_ask_38 2 rfl rfl ?_
      refine g_istore_n X dX11_ask_39 rfl (by decide) (lv' := [(1, .int y2), (0, .ref (ad a0)), (2, .int y2)]) rfl ?_
      exact g_perm [1, 0, 2] rfl (wX11_ask_s40 X a0 h0 y2 y2 k20 S r ho hk20 hF)
theorem wX11_ask_h20 {z : Mx} {ad : Nat → Nat} {o : Option Value × St} (X : CxOk z ad RX11 cX11_ask 3 (some .int) 8) (a0 : Nat) (h0 : KT a0 = 11)  (r : (Int32 × St)) (ho : o = (some (.int r.1), r.2)) : ∀ (n : Nat) (y1 : Int32) (y2 : Int32) (S : St), fX11_ask_h20 a0 n y1 y2 S = some r → GW z ad o S 20 [(0, .ref (ad a0)), (1, .int y1), (2, .int y2)] [] := by
  intro n
  induction n with
  | zero => intro y1 y2 S  hF; cases hF
  | succ n ih => intro y1 y2 S  hF; exact wX11_ask_s20 X a0 h0 y1 y2 (fX11_ask_h20 a0 n)  S r ho ih hF
theorem wX11_ask_s5 {z : Mx} {ad : Nat → Nat} {o : Option Value × St} (X : CxOk z ad RX11 cX11_ask 3 (some .int) 8) (a0 : Nat) (h0 : KT a0 = 11)     (S : St) (r : (Int32 × St)) (ho : o = (some (.int r.1), r.2)) (hF : fX11_ask_s5 a0   S = some r) : GW z ad o S 5 [(0, .ref (ad a0))] [] := by
  unfold fX11_ask_s5 at hF
  refine g_aload_n X dX11_ask_5 0 rfl rfl ?_
  refine g_getR (f := 2) X dX11_ask_6 flX11_33 rfl rfl h0 ?_
  refine g_iconst (v := 0) X dX11_ask_9 (by decide) ?_
  refine g_ialdK (j := 0) X dX11_ask_10 kd_29 (on_11_6 h0) (by decide) (by decide) ?_
  refine g_if_ne (tgt := 16) X dX11_ask_11 (by decide) (fun c_1 => ?_) (fun c_1 => ?_)
  · rw [if_neg c_1] at hF
    refine g_iconst (v := 0) X dX11_ask_16 (by decide) ?_
    refine g_istore_n X dX11_ask_17 rfl (by decide) (lv' := [(1, .int (0 : Int32)), (0, .ref (ad a0))]) rfl ?_
    refine g_iconst (v := 1) X dX11_ask_18 (by decide) ?_
    refine g_istore_n X dX11_ask_19 rfl (by decide) (lv' := [(2, .int (1 : Int32)), (1, .int (0 : Int32)), (0, .ref (ad a0))]) rfl ?_
    exact g_perm [2, 1, 0] rfl (wX11_ask_h20 X a0 h0 r ho NN (0 : Int32) (1 : Int32) S hF)
  · rw [if_pos c_1] at hF
    refine g_iconst (v := -1) X dX11_ask_14 (by decide) ?_
    have hF := Option.some.inj hF
    subst hF
    exact g_iret X dX11_ask_15 ho
theorem wX11_ask {z : Mx} {ad : Nat → Nat} {o : Option Value × St} (X : CxOk z ad RX11 cX11_ask 3 (some .int) 8) (a0 : Nat) (h0 : KT a0 = 11) (S : St) (r : (Int32 × St)) (ho : o = (some (.int r.1), r.2)) (hF : fX11_ask a0 S = some r) : GW z ad o S 0 [(0, .ref (ad a0))] [] := by
  unfold fX11_ask at hF
  refine g_aload_n X dX11_ask_0 0 rfl rfl ?_
  refine g_iconst (v := 0) X dX11_ask_1 (by decide) ?_
  refine g_putI X dX11_ask_2 fpX11_1 rfl rfl rfl h0 ?_
  exact (wX11_ask_s5 X a0 h0 (sI S 11 0 a0 (0 : Int32)) r ho hF)
theorem tX11_ask {ad : Nat → Nat} (hI : Inj ad) (l : Launch) (D : va_G) (cyy : Nat → ClassId) (a0 : Nat) (h0 : KT a0 = 11) (S : St) (r : (Int32 × St)) (hF : fX11_ask a0 S = some r) : OkM l yX11_ask cX11_ask 3 (some .int) 8 ad D cyy [.ref (ad a0)] S (some (.int r.1), r.2) := okM_of hI (by decide) (inr_47 _ (List.mem_of_getElem? (i := 6) rfl)) (by show _ ≤ 3; exact Nat.le_of_ble_eq_true rfl) (fun z X => wX11_ask X a0 h0 S r rfl hF)
def fX11_age_s55 (k55 : Int32 → Int32 → Int32 → St → Option (Int32 × St)) (a0 : Nat) (x1 : Int32) (x2 : Int32) (x3 : Int32) (x4 : Int32) (y6 : Int32) (y7 : Int32) (y8 : Int32)  (S : St) : Option (Int32 × St) :=
  if (((54 : Int32) + x1) < 0 ∨ 250 ≤ ((54 : Int32) + x1).toNatClampNeg) then none else
  if (gA S 29 (a0 + 2) (((54 : Int32) + x1).toNatClampNeg)) < y8 then (some (y7, S)) else
  ((fX11_dated a0 x1 y8 S).bind fun r_10 =>
  if r_10 = y6 then (k55 y6 (y7 + (1 : Int32)) (y8 + (1 : Int32)) S) else
  (k55 y6 (y7 + (0 : Int32)) (y8 + (1 : Int32)) S))
def fX11_age_h55 (a0 : Nat) (x1 : Int32) (x2 : Int32) (x3 : Int32) (x4 : Int32) : Nat → Int32 → Int32 → Int32 → St → Option (Int32 × St)
  | 0, _, _, _, _ => none
  | n + 1, y6, y7, y8, S => fX11_age_s55 (fX11_age_h55 a0 x1 x2 x3 x4 n) a0 x1 x2 x3 x4 y6 y7 y8 S
def fX11_age_s5 (a0 : Nat) (x1 : Int32) (x2 : Int32) (x3 : Int32) (x4 : Int32)   (S : St) : Option (Int32 × St) :=
  (fX11_counted a0 x1 x2 x3 x4 S).bind fun r_1 =>
  if r_1 < 0 then (some ((-1 : Int32), S)) else
  (if (((54 : Int32) + x1) < 0 ∨ 250 ≤ ((54 : Int32) + x1).toNatClampNeg) then none else
  if r_1 ≤ (gA S 29 (a0 + 2) (((54 : Int32) + x1).toNatClampNeg)) then ((fX11_dated a0 x1 r_1 S).bind fun r_6 =>
  fX11_age_h55 a0 x1 x2 x3 x4 NN r_6 (0 : Int32) (r_1 + (1 : Int32)) S) else
  (some ((-1 : Int32), S)))
def fX11_age (a0 : Nat) (x1 : Int32) (x2 : Int32) (x3 : Int32) (x4 : Int32) (S : St) : Option (Int32 × St) :=
  fX11_age_s5 a0 x1 x2 x3 x4 (sI S 11 0 a0 (0 : Int32))
theorem wX11_age_s55 {z : Mx} {ad : Nat → Nat} {o : Option Value × St} (X : CxOk z ad RX11 cX11_age 9 (some .int) 5) (a0 : Nat) (x1 : Int32) (x2 : Int32) (x3 : Int32) (x4 : Int32) (h0 : KT a0 = 11) (y6 : Int32) (y7 : Int32) (y8 : Int32)  (k55 : Int32 → Int32 → Int32 → St → Option (Int32 × St))   (S : St) (r : (Int32 × St)) (ho : o = (some (.int r.1), r.2)) (hk55 : ∀ (y6 : Int32) (y7 : Int32) (y8 : Int32) (S : St), k55 y6 y7 y8 S = some r → GW z ad o S 55 [(0, .ref (ad a0)), (1, .int x1), (6, .int y6), (7, .int y7), (8, .int y8)] []) (hF : fX11_age_s55 k55 a0 x1 x2 x3 x4 y6 y7 y8  S = some r) : GW z ad o S 55 [(0, .ref (ad a0)), (1, .int x1), (6, .int y6), (7, .int y7), (8, .int y8)] [] := by
  unfold fX11_age_s55 at hF
  refine g_iload X dX11_age_55 4 rfl ?_
  refine g_aload_n X dX11_age_57 0 rfl rfl ?_
  refine g_getR (f := 2) X dX11_age_58 flX11_33 rfl rfl h0 ?_
  refine g_bipush (v := 54) X dX11_age_61 (by decide) ?_
  refine g_iload_n X dX11_age_63 1 rfl rfl ?_
  refine g_iadd X dX11_age_64 ?_
  obtain ⟨e_8, hF⟩ := oguard hF
  refine g_iald X dX11_age_65 kd_29 (on_11_6 h0) e_8 ?_
  refine g_icmp_gt (tgt := 97) X dX11_age_66 (by decide) (fun c_9 => ?_) (fun c_9 => ?_)
  · rw [if_pos c_9] at hF
    refine g_iload X dX11_age_97 3 rfl ?_
    have hF := Option.some.inj hF
    subst hF
    exact g_iret X dX11_age_99 ho
  · rw [if_neg c_9] at hF
    refine g_iload X dX11_age_69 3 rfl ?_
    refine g_aload_n X dX11_age_71 0 rfl rfl ?_
    refine g_iload_n X dX11_age_72 1 rfl rfl ?_
    refine g_iload X dX11_age_73 4 rfl ?_
    obtain ⟨r_10, q_11, hF⟩ := obind hF
    refine g_callVi (As := [.int x1, .int y8]) X dX11_age_75 mlX11_252 (fun l D cyy => tX11_dated (cx_inj X) l D cyy a0 x1 y8 h0 S r_10 q_11) h0 (by decide) rfl rfl (Nat.le_of_ble_eq_true rfl) ?_
    refine g_iload X dX11_age_78 2 rfl ?_
    refine g_icmp_ne (tgt := 87) X dX11_age_80 (by decide) (fun c_12 => ?_) (fun c_12 => ?_)
    · rw [if_neg c_12] at hF
      refine g_iconst (v := 0) X dX11_age_87 (by decide) ?_
      refine g_iadd X dX11_age_88 ?_
      refine g_istore X dX11_age_89 (by decide) (lv' := [(7, .int (y7 + (0 : Int32))), (0, .ref (ad a0)), (1, .int x1), (6, .int y6), (8, .int y8)]) rfl ?_
      refine g_iinc (v := (y8 + (1 : Int32))) X dX11_age_91 4 rfl rfl (by decide) (lv' := [(8, .int (y8 + (1 : Int32))), (7, .int (y7 + (0 : Int32))), (0, .ref (ad a0)), (1, .int x1), (6, .int y6)]) rfl ?_
      refine g_goto (tgt := 55) X dX11_age_94 (by decide) ?_
      exact g_perm [2, 3, 4, 1, 0] rfl (hk55 y6 (y7 + (0 : Int32)) (y8 + (1 : Int32)) S hF)
    · rw [if_pos c_12] at hF
      refine g_iconst (v := 1) X dX11_age_83 (by decide) ?_
      refine g_goto (tgt := 88) X dX11_age_84 (by decide) ?_
      refine g_iadd X dX11_age_88 ?_
      refine g_istore X dX11_age_89 (by decide) (lv' := [(7, .int (y7 + (1 : Int32))), (0, .ref (ad a0)), (1, .int x1), (6, .int y6), (8, .int y8)]) rfl ?_
      refine g_iinc (v := (y8 + (1 : Int32))) X dX11_age_91 4 rfl rfl (by decide) (lv' := [(8, .int (y8 + (1 : Int32))), (7, .int (y7 + (1 : Int32))), (0, .ref (ad a0)), (1, .int x1), (6, .int y6)]) rfl ?_
      refine g_goto (tgt := 55) X dX11_age_94 (by decide) ?_
      exact g_perm [2, 3, 4, 1, 0] rfl (hk55 y6 (y7 + (1 : Int32)) (y8 + (1 : Int32)) S hF)
theorem wX11_age_h55 {z : Mx} {ad : Nat → Nat} {o : Option Value × St} (X : CxOk z ad RX11 cX11_age 9 (some .int) 5) (a0 : Nat) (x1 : Int32) (x2 : Int32) (x3 : Int32) (x4 : Int32) (h0 : KT a0 = 11)  (r : (Int32 × St)) (ho : o = (some (.int r.1), r.2)) : ∀ (n : Nat) (y6 : Int32) (y7 : Int32) (y8 : Int32) (S : St), fX11_age_h55 a0 x1 x2 x3 x4 n y6 y7 y8 S = some r → GW z ad o S 55 [(0, .ref (ad a0)), (1, .int x1), (6, .int y6), (7, .int y7), (8, .int y8)] [] := by
  intro n
  induction n with
  | zero => intro y6 y7 y8 S  hF; cases hF
  | succ n ih => intro y6 y7 y8 S  hF; exact wX11_age_s55 X a0 x1 x2 x3 x4 h0 y6 y7 y8 (fX11_age_h55 a0 x1 x2 x3 x4 n)  S r ho ih hF
theorem wX11_age_s5 {z : Mx} {ad : Nat → Nat} {o : Option Value × St} (X : CxOk z ad RX11 cX11_age 9 (some .int) 5) (a0 : Nat) (x1 : Int32) (x2 : Int32) (x3 : Int32) (x4 : Int32) (h0 : KT a0 = 11)     (S : St) (r : (Int32 × St)) (ho : o = (some (.int r.1), r.2)) (hF : fX11_age_s5 a0 x1 x2 x3 x4   S = some r) : GW z ad o S 5 [(0, .ref (ad a0)), (1, .int x1), (2, .int x2), (3, .int x3), (4, .int x4)] [] := by
  unfold fX11_age_s5 at hF
  refine g_aload_n X dX11_age_5 0 rfl rfl ?_
  refine g_iload_n X dX11_age_6 1 rfl rfl ?_
  refine g_iload_n X dX11_age_7 2 rfl rfl ?_
  refine g_iload_n X dX11_age_8 3 rfl rfl ?_
  refine g_iload X dX11_age_9 4 rfl ?_
  obtain ⟨r_1, q_2, hF⟩ := obind hF
  refine g_callVi (As := [.int x1, .int x2, .int x3, .int x4]) X dX11_age_11 mlX11_275 (fun l D cyy => tX11_counted (cx_inj X) l D cyy a0 x1 x2 x3 x4 h0 S r_1 q_2) h0 (by decide) rfl rfl (Nat.le_of_ble_eq_true rfl) ?_
  refine g_istore X dX11_age_14 (by decide) (lv' := [(5, .int r_1), (0, .ref (ad a0)), (1, .int x1), (2, .int x2), (3, .int x3), (4, .int x4)]) rfl ?_
  refine g_iload X dX11_age_16 0 rfl ?_
  refine g_if_lt (tgt := 35) X dX11_age_18 (by decide) (fun c_3 => ?_) (fun c_3 => ?_)
  · rw [if_pos c_3] at hF
    refine g_iconst (v := -1) X dX11_age_35 (by decide) ?_
    have hF := Option.some.inj hF
    subst hF
    exact g_iret X dX11_age_36 ho
  · rw [if_neg c_3] at hF
    refine g_iload X dX11_age_21 0 rfl ?_
    refine g_aload_n X dX11_age_23 1 rfl rfl ?_
    refine g_getR (f := 2) X dX11_age_24 flX11_33 rfl rfl h0 ?_
    refine g_bipush (v := 54) X dX11_age_27 (by decide) ?_
    refine g_iload_n X dX11_age_29 2 rfl rfl ?_
    refine g_iadd X dX11_age_30 ?_
    obtain ⟨e_4, hF⟩ := oguard hF
    refine g_iald X dX11_age_31 kd_29 (on_11_6 h0) e_4 ?_
    refine g_icmp_le (tgt := 37) X dX11_age_32 (by decide) (fun c_5 => ?_) (fun c_5 => ?_)
    · rw [if_pos c_5] at hF
      refine g_aload_n X dX11_age_37 1 rfl rfl ?_
      refine g_iload_n X dX11_age_38 2 rfl rfl ?_
      refine g_iload X dX11_age_39 0 rfl ?_
      obtain ⟨r_6, q_7, hF⟩ := obind hF
      refine g_callVi (As := [.int x1, .int r_1]) X dX11_age_41 mlX11_252 (fun l D cyy => tX11_dated (cx_inj X) l D cyy a0 x1 r_1 h0 S r_6 q_7) h0 (by decide) rfl rfl (Nat.le_of_ble_eq_true rfl) ?_
      refine g_istore X dX11_age_44 (by decide) (lv' := [(6, .int r_6), (5, .int r_1), (0, .ref (ad a0)), (1, .int x1), (2, .int x2), (3, .int x3), (4, .int x4)]) rfl ?_
      refine g_iconst (v := 0) X dX11_age_46 (by decide) ?_
      refine g_istore X dX11_age_47 (by decide) (lv' := [(7, .int (0 : Int32)), (6, .int r_6), (5, .int r_1), (0, .ref (ad a0)), (1, .int x1), (2, .int x2), (3, .int x3), (4, .int x4)]) rfl ?_
      refine g_iload X dX11_age_49 2 rfl ?_
      refine g_iconst (v := 1) X dX11_age_51 (by decide) ?_
      refine g_iadd X dX11_age_52 ?_
      refine g_istore X dX11_age_53 (by decide) (lv' := [(8, .int (r_1 + (1 : Int32))), (7, .int (0 : Int32)), (6, .int r_6), (5, .int r_1), (0, .ref (ad a0)), (1, .int x1), (2, .int x2), (3, .int x3), (4, .int x4)]) rfl ?_
      exact g_perm [4, 5, 2, 1, 0] rfl (wX11_age_h55 X a0 x1 x2 x3 x4 h0 r ho NN r_6 (0 : Int32) (r_1 + (1 : Int32)) S hF)
    · rw [if_neg c_5] at hF
      refine g_iconst (v := -1) X dX11_age_35 (by decide) ?_
      have hF := Option.some.inj hF
      subst hF
      exact g_iret X dX11_age_36 ho
theorem wX11_age {z : Mx} {ad : Nat → Nat} {o : Option Value × St} (X : CxOk z ad RX11 cX11_age 9 (some .int) 5) (a0 : Nat) (x1 : Int32) (x2 : Int32) (x3 : Int32) (x4 : Int32) (h0 : KT a0 = 11) (S : St) (r : (Int32 × St)) (ho : o = (some (.int r.1), r.2)) (hF : fX11_age a0 x1 x2 x3 x4 S = some r) : GW z ad o S 0 [(0, .ref (ad a0)), (1, .int x1), (2, .int x2), (3, .int x3), (4, .int x4)] [] := by
  unfold fX11_age at hF
  refine g_aload_n X dX11_age_0 0 rfl rfl ?_
  refine g_iconst (v := 0) X dX11_age_1 (by decide) ?_
  refine g_putI X dX11_age_2 fpX11_1 rfl rfl rfl h0 ?_
  exact (wX11_age_s5 X a0 x1 x2 x3 x4 h0 (sI S 11 0 a0 (0 : Int32)) r ho hF)
theorem tX11_age {ad : Nat → Nat} (hI : Inj ad) (l : Launch) (D : va_G) (cyy : Nat → ClassId) (a0 : Nat) (x1 : Int32) (x2 : Int32) (x3 : Int32) (x4 : Int32) (h0 : KT a0 = 11) (S : St) (r : (Int32 × St)) (hF : fX11_age a0 x1 x2 x3 x4 S = some r) : OkM l yX11_age cX11_age 9 (some .int) 5 ad D cyy [.ref (ad a0), .int x1, .int x2, .int x3, .int x4] S (some (.int r.1), r.2) := okM_of hI (by decide) (inr_46 _ (List.mem_of_getElem? (i := 14) rfl)) (by show _ ≤ 9; exact Nat.le_of_ble_eq_true rfl) (fun z X => wX11_age X a0 x1 x2 x3 x4 h0 S r rfl hF)
def fX11_born_s30 (k30 : Int32 → Int32 → St → Option (Int32 × St)) (a0 : Nat) (x1 : Int32) (x2 : Int32) (y3 : Int32) (y4 : Int32)  (S : St) : Option (Int32 × St) :=
  if (99999 : Int32) < y4 then (some ((-1 : Int32), S)) else
  ((fX11_datedIn a0 x1 y4 S).bind fun r_6 =>
  (fX11_today a0 x1 S).bind fun r_8 =>
  if r_6 = r_8 then (if (y3 - (1 : Int32)) = 0 then (some (y4, S)) else
  (k30 (y3 - (1 : Int32)) (y4 + (1 : Int32)) S)) else
  (if (y3 - (0 : Int32)) = 0 then (some (y4, S)) else
  (k30 (y3 - (0 : Int32)) (y4 + (1 : Int32)) S)))
def fX11_born_h30 (a0 : Nat) (x1 : Int32) (x2 : Int32) : Nat → Int32 → Int32 → St → Option (Int32 × St)
  | 0, _, _, _ => none
  | n + 1, y3, y4, S => fX11_born_s30 (fX11_born_h30 a0 x1 x2 n) a0 x1 x2 y3 y4 S
def fX11_born_s5 (a0 : Nat) (x1 : Int32) (x2 : Int32)   (S : St) : Option (Int32 × St) :=
  (fX11_isParish a0 x1 S).bind fun r_1 =>
  if r_1 = 0 then (some ((-1 : Int32), S)) else
  (if (fX11_isIn x2 (1 : Int32) (99 : Int32) S) = 0 then (some ((-1 : Int32), S)) else
  (fX11_born_h30 a0 x1 x2 NN x2 (1 : Int32) S))
def fX11_born (a0 : Nat) (x1 : Int32) (x2 : Int32) (S : St) : Option (Int32 × St) :=
  fX11_born_s5 a0 x1 x2 (sI S 11 0 a0 (0 : Int32))
theorem wX11_born_s30 {z : Mx} {ad : Nat → Nat} {o : Option Value × St} (X : CxOk z ad RX11 cX11_born 5 (some .int) 6) (a0 : Nat) (x1 : Int32) (x2 : Int32) (h0 : KT a0 = 11) (y3 : Int32) (y4 : Int32)  (k30 : Int32 → Int32 → St → Option (Int32 × St))   (S : St) (r : (Int32 × St)) (ho : o = (some (.int r.1), r.2)) (hk30 : ∀ (y3 : Int32) (y4 : Int32) (S : St), k30 y3 y4 S = some r → GW z ad o S 30 [(0, .ref (ad a0)), (1, .int x1), (3, .int y3), (4, .int y4)] []) (hF : fX11_born_s30 k30 a0 x1 x2 y3 y4  S = some r) : GW z ad o S 30 [(0, .ref (ad a0)), (1, .int x1), (3, .int y3), (4, .int y4)] [] := by
  unfold fX11_born_s30 at hF
  refine g_iload X dX11_born_30 3 rfl ?_
  refine g_ldcw (v := 99999) X dX11_born_32 (inr_23 _ (List.mem_of_getElem? (i := 21) rfl)) ?_
  refine g_icmp_gt (tgt := 74) X dX11_born_35 (by decide) (fun c_5 => ?_) (fun c_5 => ?_)
  · rw [if_pos c_5] at hF
    refine g_iconst (v := -1) X dX11_born_74 (by decide) ?_
    have hF := Option.some.inj hF
    subst hF
    exact g_iret X dX11_born_75 ho
  · rw [if_neg c_5] at hF
    refine g_iload_n X dX11_born_38 2 rfl rfl ?_
    refine g_aload_n X dX11_born_39 0 rfl rfl ?_
    refine g_iload_n X dX11_born_40 1 rfl rfl ?_
    refine g_iload X dX11_born_41 3 rfl ?_
    obtain ⟨r_6, q_7, hF⟩ := obind hF
    refine g_callVi (As := [.int x1, .int y4]) X dX11_born_43 mlX11_261 (fun l D cyy => tX11_datedIn (cx_inj X) l D cyy a0 x1 y4 h0 S r_6 q_7) h0 (by decide) rfl rfl (Nat.le_of_ble_eq_true rfl) ?_
    refine g_aload_n X dX11_born_46 0 rfl rfl ?_
    refine g_iload_n X dX11_born_47 1 rfl rfl ?_
    obtain ⟨r_8, q_9, hF⟩ := obind hF
    refine g_callVi (As := [.int x1]) X dX11_born_48 mlX11_264 (fun l D cyy => tX11_today (cx_inj X) l D cyy a0 x1 h0 S r_8 q_9) h0 (by decide) rfl rfl (Nat.le_of_ble_eq_true rfl) ?_
    refine g_icmp_ne (tgt := 58) X dX11_born_51 (by decide) (fun c_10 => ?_) (fun c_10 => ?_)
    · rw [if_neg c_10] at hF
      refine g_iconst (v := 0) X dX11_born_58 (by decide) ?_
      refine g_isub X dX11_born_59 ?_
      refine g_istore_n X dX11_born_60 rfl (by decide) (lv' := [(3, .int (y3 - (0 : Int32))), (0, .ref (ad a0)), (1, .int x1), (4, .int y4)]) rfl ?_
      refine g_iload_n X dX11_born_61 0 rfl rfl ?_
      refine g_if_ne (tgt := 68) X dX11_born_62 (by decide) (fun c_11 => ?_) (fun c_11 => ?_)
      · rw [if_neg c_11] at hF
        refine g_iinc (v := (y4 + (1 : Int32))) X dX11_born_68 3 rfl rfl (by decide) (lv' := [(4, .int (y4 + (1 : Int32))), (3, .int (y3 - (0 : Int32))), (0, .ref (ad a0)), (1, .int x1)]) rfl ?_
        refine g_goto (tgt := 30) X dX11_born_71 (by decide) ?_
        exact g_perm [2, 3, 1, 0] rfl (hk30 (y3 - (0 : Int32)) (y4 + (1 : Int32)) S hF)
      · rw [if_pos c_11] at hF
        refine g_iload X dX11_born_65 3 rfl ?_
        have hF := Option.some.inj hF
        subst hF
        exact g_iret X dX11_born_67 ho
    · rw [if_pos c_10] at hF
      refine g_iconst (v := 1) X dX11_born_54 (by decide) ?_
      refine g_goto (tgt := 59) X dX11_born_55 (by decide) ?_
      refine g_isub X dX11_born_59 ?_
      refine g_istore_n X dX11_born_60 rfl (by decide) (lv' := [(3, .int (y3 - (1 : Int32))), (0, .ref (ad a0)), (1, .int x1), (4, .int y4)]) rfl ?_
      refine g_iload_n X dX11_born_61 0 rfl rfl ?_
      refine g_if_ne (tgt := 68) X dX11_born_62 (by decide) (fun c_12 => ?_) (fun c_12 => ?_)
      · rw [if_neg c_12] at hF
        refine g_iinc (v := (y4 + (1 : Int32))) X dX11_born_68 3 rfl rfl (by decide) (lv' := [(4, .int (y4 + (1 : Int32))), (3, .int (y3 - (1 : Int32))), (0, .ref (ad a0)), (1, .int x1)]) rfl ?_
        refine g_goto (tgt := 30) X dX11_born_71 (by decide) ?_
        exact g_perm [2, 3, 1, 0] rfl (hk30 (y3 - (1 : Int32)) (y4 + (1 : Int32)) S hF)
      · rw [if_pos c_12] at hF
        refine g_iload X dX11_born_65 3 rfl ?_
        have hF := Option.some.inj hF
        subst hF
        exact g_iret X dX11_born_67 ho
theorem wX11_born_h30 {z : Mx} {ad : Nat → Nat} {o : Option Value × St} (X : CxOk z ad RX11 cX11_born 5 (some .int) 6) (a0 : Nat) (x1 : Int32) (x2 : Int32) (h0 : KT a0 = 11)  (r : (Int32 × St)) (ho : o = (some (.int r.1), r.2)) : ∀ (n : Nat) (y3 : Int32) (y4 : Int32) (S : St), fX11_born_h30 a0 x1 x2 n y3 y4 S = some r → GW z ad o S 30 [(0, .ref (ad a0)), (1, .int x1), (3, .int y3), (4, .int y4)] [] := by
  intro n
  induction n with
  | zero => intro y3 y4 S  hF; cases hF
  | succ n ih => intro y3 y4 S  hF; exact wX11_born_s30 X a0 x1 x2 h0 y3 y4 (fX11_born_h30 a0 x1 x2 n)  S r ho ih hF
theorem wX11_born_s5 {z : Mx} {ad : Nat → Nat} {o : Option Value × St} (X : CxOk z ad RX11 cX11_born 5 (some .int) 6) (a0 : Nat) (x1 : Int32) (x2 : Int32) (h0 : KT a0 = 11)     (S : St) (r : (Int32 × St)) (ho : o = (some (.int r.1), r.2)) (hF : fX11_born_s5 a0 x1 x2   S = some r) : GW z ad o S 5 [(0, .ref (ad a0)), (1, .int x1), (2, .int x2)] [] := by
  unfold fX11_born_s5 at hF
  refine g_aload_n X dX11_born_5 0 rfl rfl ?_
  refine g_iload_n X dX11_born_6 1 rfl rfl ?_
  obtain ⟨r_1, q_2, hF⟩ := obind hF
  refine g_callVi (As := [.int x1]) X dX11_born_7 mlX11_267 (fun l D cyy => tX11_isParish (cx_inj X) l D cyy a0 x1 h0 S r_1 q_2) h0 (by decide) rfl rfl (Nat.le_of_ble_eq_true rfl) ?_
  refine g_if_eq (tgt := 23) X dX11_born_10 (by decide) (fun c_3 => ?_) (fun c_3 => ?_)
  · rw [if_pos c_3] at hF
    refine g_iconst (v := -1) X dX11_born_23 (by decide) ?_
    have hF := Option.some.inj hF
    subst hF
    exact g_iret X dX11_born_24 ho
  · rw [if_neg c_3] at hF
    refine g_iload_n X dX11_born_13 2 rfl rfl ?_
    refine g_iconst (v := 1) X dX11_born_14 (by decide) ?_
    refine g_bipush (v := 99) X dX11_born_15 (by decide) ?_
    refine g_callSi (As := [.int x2, .int (1 : Int32), .int (99 : Int32)]) X dX11_born_17 mlX11_173 (fun l D cyy => tX11_isIn (cx_inj X) l D cyy x2 (1 : Int32) (99 : Int32)  S) (by decide) rfl rfl (Nat.le_of_ble_eq_true rfl) ?_
    refine g_if_ne (tgt := 25) X dX11_born_20 (by decide) (fun c_4 => ?_) (fun c_4 => ?_)
    · rw [if_neg c_4] at hF
      refine g_iload_n X dX11_born_25 2 rfl rfl ?_
      refine g_istore_n X dX11_born_26 rfl (by decide) (lv' := [(3, .int x2), (0, .ref (ad a0)), (1, .int x1), (2, .int x2)]) rfl ?_
      refine g_iconst (v := 1) X dX11_born_27 (by decide) ?_
      refine g_istore X dX11_born_28 (by decide) (lv' := [(4, .int (1 : Int32)), (3, .int x2), (0, .ref (ad a0)), (1, .int x1), (2, .int x2)]) rfl ?_
      exact g_perm [2, 3, 1, 0] rfl (wX11_born_h30 X a0 x1 x2 h0 r ho NN x2 (1 : Int32) S hF)
    · rw [if_pos c_4] at hF
      refine g_iconst (v := -1) X dX11_born_23 (by decide) ?_
      have hF := Option.some.inj hF
      subst hF
      exact g_iret X dX11_born_24 ho
theorem wX11_born {z : Mx} {ad : Nat → Nat} {o : Option Value × St} (X : CxOk z ad RX11 cX11_born 5 (some .int) 6) (a0 : Nat) (x1 : Int32) (x2 : Int32) (h0 : KT a0 = 11) (S : St) (r : (Int32 × St)) (ho : o = (some (.int r.1), r.2)) (hF : fX11_born a0 x1 x2 S = some r) : GW z ad o S 0 [(0, .ref (ad a0)), (1, .int x1), (2, .int x2)] [] := by
  unfold fX11_born at hF
  refine g_aload_n X dX11_born_0 0 rfl rfl ?_
  refine g_iconst (v := 0) X dX11_born_1 (by decide) ?_
  refine g_putI X dX11_born_2 fpX11_1 rfl rfl rfl h0 ?_
  exact (wX11_born_s5 X a0 x1 x2 h0 (sI S 11 0 a0 (0 : Int32)) r ho hF)
theorem tX11_born {ad : Nat → Nat} (hI : Inj ad) (l : Launch) (D : va_G) (cyy : Nat → ClassId) (a0 : Nat) (x1 : Int32) (x2 : Int32) (h0 : KT a0 = 11) (S : St) (r : (Int32 × St)) (hF : fX11_born a0 x1 x2 S = some r) : OkM l yX11_born cX11_born 5 (some .int) 6 ad D cyy [.ref (ad a0), .int x1, .int x2] S (some (.int r.1), r.2) := okM_of hI (by decide) (inr_48 _ (List.mem_of_getElem? (i := 9) rfl)) (by show _ ≤ 5; exact Nat.le_of_ble_eq_true rfl) (fun z X => wX11_born X a0 x1 x2 h0 S r rfl hF)
