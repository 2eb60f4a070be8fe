theorem dX9_begin_0 : decode cX9_begin 0 = .ok (.aload_n 0, 1) := by decide +kernel
theorem dX9_begin_1 : decode cX9_begin 1 = .ok (.getfield 12, 3) := by decide +kernel
theorem dX9_begin_4 : decode cX9_begin 4 = .ok (.aload_n 1, 1) := by decide +kernel
theorem dX9_begin_5 : decode cX9_begin 5 = .ok (.invokevirtual 32, 3) := by decide +kernel
theorem dX9_begin_8 : decode cX9_begin 8 = .ok (.aload_n 0, 1) := by decide +kernel
theorem dX9_begin_9 : decode cX9_begin 9 = .ok (.getfield 21, 3) := by decide +kernel
theorem dX9_begin_12 : decode cX9_begin 12 = .ok (.aload_n 1, 1) := by decide +kernel
theorem dX9_begin_13 : decode cX9_begin 13 = .ok (.invokevirtual 36, 3) := by decide +kernel
theorem dX9_begin_16 : decode cX9_begin 16 = .ok (.aload_n 0, 1) := by decide +kernel
theorem dX9_begin_17 : decode cX9_begin 17 = .ok (.getfield 28, 3) := by decide +kernel
theorem dX9_begin_20 : decode cX9_begin 20 = .ok (.invokevirtual 39, 3) := by decide +kernel
theorem dX9_begin_23 : decode cX9_begin 23 = .ok (.return_, 1) := by decide +kernel
theorem dX9_copyFrom_0 : decode cX9_copyFrom 0 = .ok (.aload_n 0, 1) := by decide +kernel
theorem dX9_copyFrom_1 : decode cX9_copyFrom 1 = .ok (.getfield 12, 3) := by decide +kernel
theorem dX9_copyFrom_4 : decode cX9_copyFrom 4 = .ok (.aload_n 1, 1) := by decide +kernel
theorem dX9_copyFrom_5 : decode cX9_copyFrom 5 = .ok (.getfield 12, 3) := by decide +kernel
theorem dX9_copyFrom_8 : decode cX9_copyFrom 8 = .ok (.invokevirtual 32, 3) := by decide +kernel
theorem dX9_copyFrom_11 : decode cX9_copyFrom 11 = .ok (.aload_n 0, 1) := by decide +kernel
theorem dX9_copyFrom_12 : decode cX9_copyFrom 12 = .ok (.getfield 21, 3) := by decide +kernel
theorem dX9_copyFrom_15 : decode cX9_copyFrom 15 = .ok (.aload_n 1, 1) := by decide +kernel
theorem dX9_copyFrom_16 : decode cX9_copyFrom 16 = .ok (.getfield 21, 3) := by decide +kernel
theorem dX9_copyFrom_19 : decode cX9_copyFrom 19 = .ok (.invokevirtual 42, 3) := by decide +kernel
theorem dX9_copyFrom_22 : decode cX9_copyFrom 22 = .ok (.aload_n 0, 1) := by decide +kernel
theorem dX9_copyFrom_23 : decode cX9_copyFrom 23 = .ok (.getfield 28, 3) := by decide +kernel
theorem dX9_copyFrom_26 : decode cX9_copyFrom 26 = .ok (.aload_n 1, 1) := by decide +kernel
theorem dX9_copyFrom_27 : decode cX9_copyFrom 27 = .ok (.getfield 28, 3) := by decide +kernel
theorem dX9_copyFrom_30 : decode cX9_copyFrom 30 = .ok (.invokevirtual 45, 3) := by decide +kernel
theorem dX9_copyFrom_33 : decode cX9_copyFrom 33 = .ok (.return_, 1) := by decide +kernel
theorem dX9_dateIn_0 : decode cX9_dateIn 0 = .ok (.aload_n 0, 1) := by decide +kernel
theorem dX9_dateIn_1 : decode cX9_dateIn 1 = .ok (.getfield 12, 3) := by decide +kernel
theorem dX9_dateIn_4 : decode cX9_dateIn 4 = .ok (.getfield 48, 3) := by decide +kernel
theorem dX9_dateIn_7 : decode cX9_dateIn 7 = .ok (.iload_n 1, 1) := by decide +kernel
theorem dX9_dateIn_8 : decode cX9_dateIn 8 = .ok (.aaload, 1) := by decide +kernel
theorem dX9_dateIn_9 : decode cX9_dateIn 9 = .ok (.aload_n 0, 1) := by decide +kernel
theorem dX9_dateIn_10 : decode cX9_dateIn 10 = .ok (.getfield 21, 3) := by decide +kernel
theorem dX9_dateIn_13 : decode cX9_dateIn 13 = .ok (.iload_n 1, 1) := by decide +kernel
theorem dX9_dateIn_14 : decode cX9_dateIn 14 = .ok (.iload_n 2, 1) := by decide +kernel
theorem dX9_dateIn_15 : decode cX9_dateIn 15 = .ok (.invokevirtual 52, 3) := by decide +kernel
theorem dX9_dateIn_18 : decode cX9_dateIn 18 = .ok (.invokevirtual 56, 3) := by decide +kernel
theorem dX9_dateIn_21 : decode cX9_dateIn 21 = .ok (.ireturn, 1) := by decide +kernel
theorem dX9_fallsOn_0 : decode cX9_fallsOn 0 = .ok (.aload_n 0, 1) := by decide +kernel
theorem dX9_fallsOn_1 : decode cX9_fallsOn 1 = .ok (.getfield 12, 3) := by decide +kernel
theorem dX9_fallsOn_4 : decode cX9_fallsOn 4 = .ok (.getfield 62, 3) := by decide +kernel
theorem dX9_fallsOn_7 : decode cX9_fallsOn 7 = .ok (.iload_n 1, 1) := by decide +kernel
theorem dX9_fallsOn_8 : decode cX9_fallsOn 8 = .ok (.aaload, 1) := by decide +kernel
theorem dX9_fallsOn_9 : decode cX9_fallsOn 9 = .ok (.astore_n 3, 1) := by decide +kernel
theorem dX9_fallsOn_10 : decode cX9_fallsOn 10 = .ok (.aload_n 0, 1) := by decide +kernel
theorem dX9_fallsOn_11 : decode cX9_fallsOn 11 = .ok (.getfield 12, 3) := by decide +kernel
theorem dX9_fallsOn_14 : decode cX9_fallsOn 14 = .ok (.aload_n 3, 1) := by decide +kernel
theorem dX9_fallsOn_15 : decode cX9_fallsOn 15 = .ok (.getfield 66, 3) := by decide +kernel
theorem dX9_fallsOn_18 : decode cX9_fallsOn 18 = .ok (.invokevirtual 71, 3) := by decide +kernel
theorem dX9_fallsOn_21 : decode cX9_fallsOn 21 = .ok (.ifCond .eq 31, 3) := by decide +kernel
theorem dX9_fallsOn_24 : decode cX9_fallsOn 24 = .ok (.aload_n 0, 1) := by decide +kernel
theorem dX9_fallsOn_25 : decode cX9_fallsOn 25 = .ok (.aload_n 3, 1) := by decide +kernel
theorem dX9_fallsOn_26 : decode cX9_fallsOn 26 = .ok (.getfield 66, 3) := by decide +kernel
theorem dX9_fallsOn_29 : decode cX9_fallsOn 29 = .ok (.iload_n 2, 1) := by decide +kernel
theorem dX9_fallsOn_30 : decode cX9_fallsOn 30 = .ok (.invokevirtual 75, 3) := by decide +kernel
theorem dX9_fallsOn_33 : decode cX9_fallsOn 33 = .ok (.aload_n 3, 1) := by decide +kernel
theorem dX9_fallsOn_34 : decode cX9_fallsOn 34 = .ok (.getfield 78, 3) := by decide +kernel
theorem dX9_fallsOn_37 : decode cX9_fallsOn 37 = .ok (.bipush 32, 2) := by decide +kernel
theorem dX9_fallsOn_39 : decode cX9_fallsOn 39 = .ok (.imul, 1) := by decide +kernel
theorem dX9_fallsOn_40 : decode cX9_fallsOn 40 = .ok (.aload_n 3, 1) := by decide +kernel
theorem dX9_fallsOn_41 : decode cX9_fallsOn 41 = .ok (.getfield 81, 3) := by decide +kernel
theorem dX9_fallsOn_44 : decode cX9_fallsOn 44 = .ok (.iadd, 1) := by decide +kernel
theorem dX9_fallsOn_45 : decode cX9_fallsOn 45 = .ok (.if_icmp .ne 7, 3) := by decide +kernel
theorem dX9_fallsOn_48 : decode cX9_fallsOn 48 = .ok (.iconst 1, 1) := by decide +kernel
theorem dX9_fallsOn_49 : decode cX9_fallsOn 49 = .ok (.goto 4, 3) := by decide +kernel
theorem dX9_fallsOn_52 : decode cX9_fallsOn 52 = .ok (.iconst 0, 1) := by decide +kernel
theorem dX9_fallsOn_53 : decode cX9_fallsOn 53 = .ok (.ireturn, 1) := by decide +kernel
theorem dX9_fallsBy_0 : decode cX9_fallsBy 0 = .ok (.aload_n 0, 1) := by decide +kernel
theorem dX9_fallsBy_1 : decode cX9_fallsBy 1 = .ok (.getfield 12, 3) := by decide +kernel
theorem dX9_fallsBy_4 : decode cX9_fallsBy 4 = .ok (.getfield 62, 3) := by decide +kernel
theorem dX9_fallsBy_7 : decode cX9_fallsBy 7 = .ok (.iload_n 2, 1) := by decide +kernel
theorem dX9_fallsBy_8 : decode cX9_fallsBy 8 = .ok (.aaload, 1) := by decide +kernel
theorem dX9_fallsBy_9 : decode cX9_fallsBy 9 = .ok (.astore_n 3, 1) := by decide +kernel
theorem dX9_fallsBy_10 : decode cX9_fallsBy 10 = .ok (.aload_n 0, 1) := by decide +kernel
theorem dX9_fallsBy_11 : decode cX9_fallsBy 11 = .ok (.getfield 12, 3) := by decide +kernel
theorem dX9_fallsBy_14 : decode cX9_fallsBy 14 = .ok (.aload_n 3, 1) := by decide +kernel
theorem dX9_fallsBy_15 : decode cX9_fallsBy 15 = .ok (.getfield 66, 3) := by decide +kernel
theorem dX9_fallsBy_18 : decode cX9_fallsBy 18 = .ok (.invokevirtual 71, 3) := by decide +kernel
theorem dX9_fallsBy_21 : decode cX9_fallsBy 21 = .ok (.ifCond .eq 46, 3) := by decide +kernel
theorem dX9_fallsBy_24 : decode cX9_fallsBy 24 = .ok (.aload_n 0, 1) := by decide +kernel
theorem dX9_fallsBy_25 : decode cX9_fallsBy 25 = .ok (.getfield 12, 3) := by decide +kernel
theorem dX9_fallsBy_28 : decode cX9_fallsBy 28 = .ok (.getfield 48, 3) := by decide +kernel
theorem dX9_fallsBy_31 : decode cX9_fallsBy 31 = .ok (.aload_n 3, 1) := by decide +kernel
theorem dX9_fallsBy_32 : decode cX9_fallsBy 32 = .ok (.getfield 66, 3) := by decide +kernel
theorem dX9_fallsBy_35 : decode cX9_fallsBy 35 = .ok (.aaload, 1) := by decide +kernel
theorem dX9_fallsBy_36 : decode cX9_fallsBy 36 = .ok (.aload_n 1, 1) := by decide +kernel
theorem dX9_fallsBy_37 : decode cX9_fallsBy 37 = .ok (.getfield 84, 3) := by decide +kernel
theorem dX9_fallsBy_40 : decode cX9_fallsBy 40 = .ok (.aload_n 3, 1) := by decide +kernel
theorem dX9_fallsBy_41 : decode cX9_fallsBy 41 = .ok (.getfield 66, 3) := by decide +kernel
theorem dX9_fallsBy_44 : decode cX9_fallsBy 44 = .ok (.iaload, 1) := by decide +kernel
theorem dX9_fallsBy_45 : decode cX9_fallsBy 45 = .ok (.invokevirtual 56, 3) := by decide +kernel
theorem dX9_fallsBy_48 : decode cX9_fallsBy 48 = .ok (.aload_n 3, 1) := by decide +kernel
theorem dX9_fallsBy_49 : decode cX9_fallsBy 49 = .ok (.getfield 78, 3) := by decide +kernel
theorem dX9_fallsBy_52 : decode cX9_fallsBy 52 = .ok (.bipush 32, 2) := by decide +kernel
theorem dX9_fallsBy_54 : decode cX9_fallsBy 54 = .ok (.imul, 1) := by decide +kernel
theorem dX9_fallsBy_55 : decode cX9_fallsBy 55 = .ok (.aload_n 3, 1) := by decide +kernel
theorem dX9_fallsBy_56 : decode cX9_fallsBy 56 = .ok (.getfield 81, 3) := by decide +kernel
theorem dX9_fallsBy_59 : decode cX9_fallsBy 59 = .ok (.iadd, 1) := by decide +kernel
theorem dX9_fallsBy_60 : decode cX9_fallsBy 60 = .ok (.if_icmp .ne 7, 3) := by decide +kernel
theorem dX9_fallsBy_63 : decode cX9_fallsBy 63 = .ok (.iconst 1, 1) := by decide +kernel
theorem dX9_fallsBy_64 : decode cX9_fallsBy 64 = .ok (.goto 4, 3) := by decide +kernel
theorem dX9_fallsBy_67 : decode cX9_fallsBy 67 = .ok (.iconst 0, 1) := by decide +kernel
theorem dX9_fallsBy_68 : decode cX9_fallsBy 68 = .ok (.ireturn, 1) := by decide +kernel
theorem dX9_nextFrom_0 : decode cX9_nextFrom 0 = .ok (.aload_n 0, 1) := by decide +kernel
theorem dX9_nextFrom_1 : decode cX9_nextFrom 1 = .ok (.getfield 12, 3) := by decide +kernel
theorem dX9_nextFrom_4 : decode cX9_nextFrom 4 = .ok (.getfield 62, 3) := by decide +kernel
theorem dX9_nextFrom_7 : decode cX9_nextFrom 7 = .ok (.iload_n 1, 1) := by decide +kernel
theorem dX9_nextFrom_8 : decode cX9_nextFrom 8 = .ok (.aaload, 1) := by decide +kernel
theorem dX9_nextFrom_9 : decode cX9_nextFrom 9 = .ok (.astore_n 3, 1) := by decide +kernel
theorem dX9_nextFrom_10 : decode cX9_nextFrom 10 = .ok (.aload_n 3, 1) := by decide +kernel
theorem dX9_nextFrom_11 : decode cX9_nextFrom 11 = .ok (.getfield 66, 3) := by decide +kernel
theorem dX9_nextFrom_14 : decode cX9_nextFrom 14 = .ok (.istore 4, 2) := by decide +kernel
theorem dX9_nextFrom_16 : decode cX9_nextFrom 16 = .ok (.aload_n 0, 1) := by decide +kernel
theorem dX9_nextFrom_17 : decode cX9_nextFrom 17 = .ok (.getfield 12, 3) := by decide +kernel
theorem dX9_nextFrom_20 : decode cX9_nextFrom 20 = .ok (.iload 4, 2) := by decide +kernel
theorem dX9_nextFrom_22 : decode cX9_nextFrom 22 = .ok (.invokevirtual 71, 3) := by decide +kernel
theorem dX9_nextFrom_25 : decode cX9_nextFrom 25 = .ok (.ifCond .ne 5, 3) := by decide +kernel
theorem dX9_nextFrom_28 : decode cX9_nextFrom 28 = .ok (.iconst (-1), 1) := by decide +kernel
theorem dX9_nextFrom_29 : decode cX9_nextFrom 29 = .ok (.ireturn, 1) := by decide +kernel
theorem dX9_nextFrom_30 : decode cX9_nextFrom 30 = .ok (.aload_n 0, 1) := by decide +kernel
theorem dX9_nextFrom_31 : decode cX9_nextFrom 31 = .ok (.getfield 21, 3) := by decide +kernel
theorem dX9_nextFrom_34 : decode cX9_nextFrom 34 = .ok (.iload 4, 2) := by decide +kernel
theorem dX9_nextFrom_36 : decode cX9_nextFrom 36 = .ok (.iload_n 2, 1) := by decide +kernel
theorem dX9_nextFrom_37 : decode cX9_nextFrom 37 = .ok (.invokevirtual 52, 3) := by decide +kernel
theorem dX9_nextFrom_40 : decode cX9_nextFrom 40 = .ok (.istore 5, 2) := by decide +kernel
theorem dX9_nextFrom_42 : decode cX9_nextFrom 42 = .ok (.aload_n 0, 1) := by decide +kernel
theorem dX9_nextFrom_43 : decode cX9_nextFrom 43 = .ok (.getfield 12, 3) := by decide +kernel
theorem dX9_nextFrom_46 : decode cX9_nextFrom 46 = .ok (.getfield 48, 3) := by decide +kernel
theorem dX9_nextFrom_49 : decode cX9_nextFrom 49 = .ok (.iload 4, 2) := by decide +kernel
theorem dX9_nextFrom_51 : decode cX9_nextFrom 51 = .ok (.aaload, 1) := by decide +kernel
theorem dX9_nextFrom_52 : decode cX9_nextFrom 52 = .ok (.iload 5, 2) := by decide +kernel
theorem dX9_nextFrom_54 : decode cX9_nextFrom 54 = .ok (.aload_n 3, 1) := by decide +kernel
theorem dX9_nextFrom_55 : decode cX9_nextFrom 55 = .ok (.getfield 78, 3) := by decide +kernel
theorem dX9_nextFrom_58 : decode cX9_nextFrom 58 = .ok (.aload_n 3, 1) := by decide +kernel
theorem dX9_nextFrom_59 : decode cX9_nextFrom 59 = .ok (.getfield 81, 3) := by decide +kernel
theorem dX9_nextFrom_62 : decode cX9_nextFrom 62 = .ok (.invokevirtual 88, 3) := by decide +kernel
theorem dX9_nextFrom_65 : decode cX9_nextFrom 65 = .ok (.iload 5, 2) := by decide +kernel
theorem dX9_nextFrom_67 : decode cX9_nextFrom 67 = .ok (.isub, 1) := by decide +kernel
theorem dX9_nextFrom_68 : decode cX9_nextFrom 68 = .ok (.istore 6, 2) := by decide +kernel
theorem dX9_nextFrom_70 : decode cX9_nextFrom 70 = .ok (.iload 6, 2) := by decide +kernel
theorem dX9_nextFrom_72 : decode cX9_nextFrom 72 = .ok (.ifCond .le 26, 3) := by decide +kernel
theorem dX9_nextFrom_75 : decode cX9_nextFrom 75 = .ok (.iload_n 2, 1) := by decide +kernel
theorem dX9_nextFrom_76 : decode cX9_nextFrom 76 = .ok (.ifCond .ne 22, 3) := by decide +kernel
theorem dX9_nextFrom_79 : decode cX9_nextFrom 79 = .ok (.aload_n 0, 1) := by decide +kernel
theorem dX9_nextFrom_80 : decode cX9_nextFrom 80 = .ok (.getfield 21, 3) := by decide +kernel
theorem dX9_nextFrom_83 : decode cX9_nextFrom 83 = .ok (.iload 4, 2) := by decide +kernel
theorem dX9_nextFrom_85 : decode cX9_nextFrom 85 = .ok (.invokevirtual 92, 3) := by decide +kernel
theorem dX9_nextFrom_88 : decode cX9_nextFrom 88 = .ok (.ifCond .eq 10, 3) := by decide +kernel
theorem dX9_nextFrom_91 : decode cX9_nextFrom 91 = .ok (.iload 6, 2) := by decide +kernel
theorem dX9_nextFrom_93 : decode cX9_nextFrom 93 = .ok (.iconst 1, 1) := by decide +kernel
theorem dX9_nextFrom_94 : decode cX9_nextFrom 94 = .ok (.iadd, 1) := by decide +kernel
theorem dX9_nextFrom_95 : decode cX9_nextFrom 95 = .ok (.goto 7, 3) := by decide +kernel
theorem dX9_nextFrom_98 : decode cX9_nextFrom 98 = .ok (.iload_n 2, 1) := by decide +kernel
theorem dX9_nextFrom_99 : decode cX9_nextFrom 99 = .ok (.iload 6, 2) := by decide +kernel
theorem dX9_nextFrom_101 : decode cX9_nextFrom 101 = .ok (.iadd, 1) := by decide +kernel
theorem dX9_nextFrom_102 : decode cX9_nextFrom 102 = .ok (.ireturn, 1) := by decide +kernel
theorem dX9_feastsToday_0 : decode cX9_feastsToday 0 = .ok (.iconst 0, 1) := by decide +kernel
theorem dX9_feastsToday_1 : decode cX9_feastsToday 1 = .ok (.istore_n 1, 1) := by decide +kernel
theorem dX9_feastsToday_2 : decode cX9_feastsToday 2 = .ok (.iconst 0, 1) := by decide +kernel
theorem dX9_feastsToday_3 : decode cX9_feastsToday 3 = .ok (.istore_n 2, 1) := by decide +kernel
theorem dX9_feastsToday_4 : decode cX9_feastsToday 4 = .ok (.iload_n 2, 1) := by decide +kernel
theorem dX9_feastsToday_5 : decode cX9_feastsToday 5 = .ok (.aload_n 0, 1) := by decide +kernel
theorem dX9_feastsToday_6 : decode cX9_feastsToday 6 = .ok (.getfield 12, 3) := by decide +kernel
theorem dX9_feastsToday_9 : decode cX9_feastsToday 9 = .ok (.getfield 95, 3) := by decide +kernel
theorem dX9_feastsToday_12 : decode cX9_feastsToday 12 = .ok (.if_icmp .ge 24, 3) := by decide +kernel
theorem dX9_feastsToday_15 : decode cX9_feastsToday 15 = .ok (.aload_n 0, 1) := by decide +kernel
theorem dX9_feastsToday_16 : decode cX9_feastsToday 16 = .ok (.iload_n 2, 1) := by decide +kernel
theorem dX9_feastsToday_17 : decode cX9_feastsToday 17 = .ok (.iconst 0, 1) := by decide +kernel
theorem dX9_feastsToday_18 : decode cX9_feastsToday 18 = .ok (.invokevirtual 98, 3) := by decide +kernel
theorem dX9_feastsToday_21 : decode cX9_feastsToday 21 = .ok (.ifCond .eq 9, 3) := by decide +kernel
theorem dX9_feastsToday_24 : decode cX9_feastsToday 24 = .ok (.iload_n 1, 1) := by decide +kernel
theorem dX9_feastsToday_25 : decode cX9_feastsToday 25 = .ok (.iconst 1, 1) := by decide +kernel
theorem dX9_feastsToday_26 : decode cX9_feastsToday 26 = .ok (.iload_n 2, 1) := by decide +kernel
theorem dX9_feastsToday_27 : decode cX9_feastsToday 27 = .ok (.ishl, 1) := by decide +kernel
theorem dX9_feastsToday_28 : decode cX9_feastsToday 28 = .ok (.ior, 1) := by decide +kernel
theorem dX9_feastsToday_29 : decode cX9_feastsToday 29 = .ok (.istore_n 1, 1) := by decide +kernel
theorem dX9_feastsToday_30 : decode cX9_feastsToday 30 = .ok (.iinc 2 1, 3) := by decide +kernel
theorem dX9_feastsToday_33 : decode cX9_feastsToday 33 = .ok (.goto (-29), 3) := by decide +kernel
theorem dX9_feastsToday_36 : decode cX9_feastsToday 36 = .ok (.iload_n 1, 1) := by decide +kernel
theorem dX9_feastsToday_37 : decode cX9_feastsToday 37 = .ok (.ireturn, 1) := by decide +kernel
theorem dX9_firstWeekdays_0 : decode cX9_firstWeekdays 0 = .ok (.iconst 0, 1) := by decide +kernel
theorem dX9_firstWeekdays_1 : decode cX9_firstWeekdays 1 = .ok (.istore_n 1, 1) := by decide +kernel
theorem dX9_firstWeekdays_2 : decode cX9_firstWeekdays 2 = .ok (.iconst 0, 1) := by decide +kernel
theorem dX9_firstWeekdays_3 : decode cX9_firstWeekdays 3 = .ok (.istore_n 2, 1) := by decide +kernel
theorem dX9_firstWeekdays_4 : decode cX9_firstWeekdays 4 = .ok (.iload_n 2, 1) := by decide +kernel
theorem dX9_firstWeekdays_5 : decode cX9_firstWeekdays 5 = .ok (.aload_n 0, 1) := by decide +kernel
theorem dX9_firstWeekdays_6 : decode cX9_firstWeekdays 6 = .ok (.getfield 12, 3) := by decide +kernel
theorem dX9_firstWeekdays_9 : decode cX9_firstWeekdays 9 = .ok (.getfield 102, 3) := by decide +kernel
theorem dX9_firstWeekdays_12 : decode cX9_firstWeekdays 12 = .ok (.if_icmp .ge 40, 3) := by decide +kernel
theorem dX9_firstWeekdays_15 : decode cX9_firstWeekdays 15 = .ok (.aload_n 0, 1) := by decide +kernel
theorem dX9_firstWeekdays_16 : decode cX9_firstWeekdays 16 = .ok (.getfield 21, 3) := by decide +kernel
theorem dX9_firstWeekdays_19 : decode cX9_firstWeekdays 19 = .ok (.getfield 84, 3) := by decide +kernel
theorem dX9_firstWeekdays_22 : decode cX9_firstWeekdays 22 = .ok (.iload_n 2, 1) := by decide +kernel
theorem dX9_firstWeekdays_23 : decode cX9_firstWeekdays 23 = .ok (.iaload, 1) := by decide +kernel
theorem dX9_firstWeekdays_24 : decode cX9_firstWeekdays 24 = .ok (.aload_n 0, 1) := by decide +kernel
theorem dX9_firstWeekdays_25 : decode cX9_firstWeekdays 25 = .ok (.getfield 12, 3) := by decide +kernel
theorem dX9_firstWeekdays_28 : decode cX9_firstWeekdays 28 = .ok (.getfield 48, 3) := by decide +kernel
theorem dX9_firstWeekdays_31 : decode cX9_firstWeekdays 31 = .ok (.iload_n 2, 1) := by decide +kernel
theorem dX9_firstWeekdays_32 : decode cX9_firstWeekdays 32 = .ok (.aaload, 1) := by decide +kernel
theorem dX9_firstWeekdays_33 : decode cX9_firstWeekdays 33 = .ok (.getfield 105, 3) := by decide +kernel
theorem dX9_firstWeekdays_36 : decode cX9_firstWeekdays 36 = .ok (.irem, 1) := by decide +kernel
theorem dX9_firstWeekdays_37 : decode cX9_firstWeekdays 37 = .ok (.ifCond .ne 9, 3) := by decide +kernel
theorem dX9_firstWeekdays_40 : decode cX9_firstWeekdays 40 = .ok (.iload_n 1, 1) := by decide +kernel
theorem dX9_firstWeekdays_41 : decode cX9_firstWeekdays 41 = .ok (.iconst 1, 1) := by decide +kernel
theorem dX9_firstWeekdays_42 : decode cX9_firstWeekdays 42 = .ok (.iload_n 2, 1) := by decide +kernel
theorem dX9_firstWeekdays_43 : decode cX9_firstWeekdays 43 = .ok (.ishl, 1) := by decide +kernel
theorem dX9_firstWeekdays_44 : decode cX9_firstWeekdays 44 = .ok (.ior, 1) := by decide +kernel
theorem dX9_firstWeekdays_45 : decode cX9_firstWeekdays 45 = .ok (.istore_n 1, 1) := by decide +kernel
theorem dX9_firstWeekdays_46 : decode cX9_firstWeekdays 46 = .ok (.iinc 2 1, 3) := by decide +kernel
theorem dX9_firstWeekdays_49 : decode cX9_firstWeekdays 49 = .ok (.goto (-45), 3) := by decide +kernel
theorem dX9_firstWeekdays_52 : decode cX9_firstWeekdays 52 = .ok (.iload_n 1, 1) := by decide +kernel
theorem dX9_firstWeekdays_53 : decode cX9_firstWeekdays 53 = .ok (.ireturn, 1) := by decide +kernel
theorem dX9_betweenToday_0 : decode cX9_betweenToday 0 = .ok (.iconst 0, 1) := by decide +kernel
theorem dX9_betweenToday_1 : decode cX9_betweenToday 1 = .ok (.istore_n 1, 1) := by decide +kernel
theorem dX9_betweenToday_2 : decode cX9_betweenToday 2 = .ok (.iconst 0, 1) := by decide +kernel
theorem dX9_betweenToday_3 : decode cX9_betweenToday 3 = .ok (.istore_n 2, 1) := by decide +kernel
theorem dX9_betweenToday_4 : decode cX9_betweenToday 4 = .ok (.iload_n 2, 1) := by decide +kernel
theorem dX9_betweenToday_5 : decode cX9_betweenToday 5 = .ok (.aload_n 0, 1) := by decide +kernel
theorem dX9_betweenToday_6 : decode cX9_betweenToday 6 = .ok (.getfield 12, 3) := by decide +kernel
theorem dX9_betweenToday_9 : decode cX9_betweenToday 9 = .ok (.getfield 102, 3) := by decide +kernel
theorem dX9_betweenToday_12 : decode cX9_betweenToday 12 = .ok (.if_icmp .ge 39, 3) := by decide +kernel
theorem dX9_betweenToday_15 : decode cX9_betweenToday 15 = .ok (.aload_n 0, 1) := by decide +kernel
theorem dX9_betweenToday_16 : decode cX9_betweenToday 16 = .ok (.getfield 12, 3) := by decide +kernel
theorem dX9_betweenToday_19 : decode cX9_betweenToday 19 = .ok (.getfield 48, 3) := by decide +kernel
theorem dX9_betweenToday_22 : decode cX9_betweenToday 22 = .ok (.iload_n 2, 1) := by decide +kernel
theorem dX9_betweenToday_23 : decode cX9_betweenToday 23 = .ok (.aaload, 1) := by decide +kernel
theorem dX9_betweenToday_24 : decode cX9_betweenToday 24 = .ok (.aload_n 0, 1) := by decide +kernel
theorem dX9_betweenToday_25 : decode cX9_betweenToday 25 = .ok (.getfield 21, 3) := by decide +kernel
theorem dX9_betweenToday_28 : decode cX9_betweenToday 28 = .ok (.getfield 84, 3) := by decide +kernel
theorem dX9_betweenToday_31 : decode cX9_betweenToday 31 = .ok (.iload_n 2, 1) := by decide +kernel
theorem dX9_betweenToday_32 : decode cX9_betweenToday 32 = .ok (.iaload, 1) := by decide +kernel
theorem dX9_betweenToday_33 : decode cX9_betweenToday 33 = .ok (.invokevirtual 108, 3) := by decide +kernel
theorem dX9_betweenToday_36 : decode cX9_betweenToday 36 = .ok (.ifCond .eq 9, 3) := by decide +kernel
theorem dX9_betweenToday_39 : decode cX9_betweenToday 39 = .ok (.iload_n 1, 1) := by decide +kernel
theorem dX9_betweenToday_40 : decode cX9_betweenToday 40 = .ok (.iconst 1, 1) := by decide +kernel
theorem dX9_betweenToday_41 : decode cX9_betweenToday 41 = .ok (.iload_n 2, 1) := by decide +kernel
theorem dX9_betweenToday_42 : decode cX9_betweenToday 42 = .ok (.ishl, 1) := by decide +kernel
theorem dX9_betweenToday_43 : decode cX9_betweenToday 43 = .ok (.ior, 1) := by decide +kernel
theorem dX9_betweenToday_44 : decode cX9_betweenToday 44 = .ok (.istore_n 1, 1) := by decide +kernel
theorem dX9_betweenToday_45 : decode cX9_betweenToday 45 = .ok (.iinc 2 1, 3) := by decide +kernel
theorem dX9_betweenToday_48 : decode cX9_betweenToday 48 = .ok (.goto (-44), 3) := by decide +kernel
theorem dX9_betweenToday_51 : decode cX9_betweenToday 51 = .ok (.iload_n 1, 1) := by decide +kernel
theorem dX9_betweenToday_52 : decode cX9_betweenToday 52 = .ok (.ireturn, 1) := by decide +kernel
theorem flX9_12 : FL RX9 12 9 0 := ⟨RX9, TX9, 3, tyX9, cd_9, by decide, Or.inl (inr_3 _ (List.mem_of_getElem? (i := 15) rfl))⟩
theorem flX9_21 : FL RX9 21 9 1 := ⟨RX9, TX9, 3, tyX9, cd_9, by decide, Or.inl (inr_3 _ (List.mem_of_getElem? (i := 17) rfl))⟩
theorem flX9_28 : FL RX9 28 9 2 := ⟨RX9, TX9, 3, tyX9, cd_9, by decide, Or.inl (inr_3 _ (List.mem_of_getElem? (i := 19) rfl))⟩
theorem flX9_48 : FL RX9 48 8 0 := ⟨RX8, TX8, 7, tyX8, cd_8, by decide, Or.inl (inr_26 _ (List.mem_of_getElem? (i := 19) rfl))⟩
theorem flX9_62 : FL RX9 62 8 1 := ⟨RX8, TX8, 7, tyX8, cd_8, by decide, Or.inl (inr_26 _ (List.mem_of_getElem? (i := 10) rfl))⟩
theorem flX9_66 : FL RX9 66 3 1 := ⟨RX3, TX3, 4, tyX3, cd_3, by decide, Or.inl (inr_26 _ (List.mem_of_getElem? (i := 11) rfl))⟩
theorem flX9_78 : FL RX9 78 3 2 := ⟨RX3, TX3, 4, tyX3, cd_3, by decide, Or.inl (inr_26 _ (List.mem_of_getElem? (i := 12) rfl))⟩
theorem flX9_81 : FL RX9 81 3 3 := ⟨RX3, TX3, 4, tyX3, cd_3, by decide, Or.inl (inr_26 _ (List.mem_of_getElem? (i := 13) rfl))⟩
theorem flX9_84 : FL RX9 84 2 3 := ⟨RX2, TX2, 6, tyX2, cd_2, by decide, Or.inl (inr_28 _ (List.mem_of_getElem? (i := 22) rfl))⟩
theorem flX9_95 : FL RX9 95 8 3 := ⟨RX8, TX8, 7, tyX8, cd_8, by decide, Or.inl (inr_28 _ (List.mem_of_getElem? (i := 15) rfl))⟩
theorem flX9_102 : FL RX9 102 8 2 := ⟨RX8, TX8, 7, tyX8, cd_8, by decide, Or.inl (inr_28 _ (List.mem_of_getElem? (i := 21) rfl))⟩
theorem flX9_105 : FL RX9 105 4 4 := ⟨RX4, TX4, 7, tyX4, cd_4, by decide, Or.inr ⟨"ParishYears", inT_1 _ (List.mem_of_getElem? (i := 111) rfl)⟩⟩
theorem mlX9_32 : MLv RX9 32 RX8 8 yX8_copyFrom cX8_copyFrom 3 none 1 := ⟨(inr_15 _ (List.mem_of_getElem? (i := 15) rfl)), (inr_15 _ (List.mem_of_getElem? (i := 12) rfl)), (inr_15 _ (List.mem_of_getElem? (i := 13) rfl)), (inr_15 _ (List.mem_of_getElem? (i := 14) rfl)), (inr_1 _ (List.mem_of_getElem? (i := 23) rfl)), rfl, ⟨by decide, by decide, by decide +kernel⟩, by decide, by decide, rfl⟩
theorem mlX9_36 : MLv RX9 36 RX2 2 yX2_begin cX2_begin 3 none 1 := ⟨(inr_16 _ (List.mem_of_getElem? (i := 7) rfl)), (inr_16 _ (List.mem_of_getElem? (i := 4) rfl)), (inr_16 _ (List.mem_of_getElem? (i := 5) rfl)), (inr_16 _ (List.mem_of_getElem? (i := 6) rfl)), (inr_2 _ (List.mem_of_getElem? (i := 21) rfl)), rfl, ⟨by decide, by decide, by decide +kernel⟩, by decide, by decide, rfl⟩
theorem mlX9_39 : MLv RX9 39 RX5 5 yX5_forget cX5_forget 1 none 0 := ⟨(inr_16 _ (List.mem_of_getElem? (i := 16) rfl)), (inr_16 _ (List.mem_of_getElem? (i := 13) rfl)), (inr_16 _ (List.mem_of_getElem? (i := 14) rfl)), (inr_16 _ (List.mem_of_getElem? (i := 15) rfl)), (inr_2 _ (List.mem_of_getElem? (i := 3) rfl)), rfl, ⟨by decide, by decide, by decide +kernel⟩, by decide, by decide, rfl⟩
theorem mlX9_42 : MLv RX9 42 RX2 2 yX2_copyFrom cX2_copyFrom 3 none 1 := ⟨(inr_30 _ (List.mem_of_getElem? (i := 18) rfl)), (inr_64 _ (List.mem_of_getElem? (i := 17) rfl)), (inr_30 _ (List.mem_of_getElem? (i := 16) rfl)), (inr_30 _ (List.mem_of_getElem? (i := 17) rfl)), (inr_2 _ (List.mem_of_getElem? (i := 21) rfl)), rfl, ⟨by decide, by decide, by decide +kernel⟩, by decide, by decide, rfl⟩
theorem mlX9_45 : MLv RX9 45 RX5 5 yX5_copyFrom cX5_copyFrom 3 none 1 := ⟨(inr_61 _ (List.mem_of_getElem? (i := 7) rfl)), (inr_64 _ (List.mem_of_getElem? (i := 18) rfl)), (inr_61 _ (List.mem_of_getElem? (i := 5) rfl)), (inr_61 _ (List.mem_of_getElem? (i := 6) rfl)), (inr_2 _ (List.mem_of_getElem? (i := 3) rfl)), rfl, ⟨by decide, by decide, by decide +kernel⟩, by decide, by decide, rfl⟩
theorem mlX9_52 : MLv RX9 52 RX2 2 yX2_countIn cX2_countIn 3 (some .int) 2 := ⟨(inr_26 _ (List.mem_of_getElem? (i := 23) rfl)), (inr_26 _ (List.mem_of_getElem? (i := 20) rfl)), (inr_26 _ (List.mem_of_getElem? (i := 21) rfl)), (inr_26 _ (List.mem_of_getElem? (i := 22) rfl)), (inr_2 _ (List.mem_of_getElem? (i := 21) rfl)), rfl, ⟨by decide, by decide, by decide +kernel⟩, by decide, by decide, rfl⟩
theorem mlX9_56 : MLv RX9 56 RX4 4 yX4_dateAt cX4_dateAt 4 (some .int) 1 := ⟨(inr_23 _ (List.mem_of_getElem? (i := 12) rfl)), (inr_27 _ (List.mem_of_getElem? (i := 1) rfl)), (inr_23 _ (List.mem_of_getElem? (i := 10) rfl)), (inr_23 _ (List.mem_of_getElem? (i := 11) rfl)), (inr_4 _ (List.mem_of_getElem? (i := 7) rfl)), rfl, ⟨by decide, by decide, by decide +kernel⟩, by decide, by decide, rfl⟩
theorem mlX9_71 : MLv RX9 71 RX8 8 yX8_hasParish cX8_hasParish 2 (some .boolean) 1 := ⟨(inr_14 _ (List.mem_of_getElem? (i := 7) rfl)), (inr_26 _ (List.mem_of_getElem? (i := 14) rfl)), (inr_14 _ (List.mem_of_getElem? (i := 5) rfl)), (inr_14 _ (List.mem_of_getElem? (i := 6) rfl)), (inr_1 _ (List.mem_of_getElem? (i := 23) rfl)), rfl, ⟨by decide, by decide, by decide +kernel⟩, by decide, by decide, rfl⟩
theorem mlX9_75 : MLv RX9 75 RX9 9 yX9_dateIn cX9_dateIn 3 (some .int) 2 := ⟨(inr_26 _ (List.mem_of_getElem? (i := 18) rfl)), (inr_26 _ (List.mem_of_getElem? (i := 15) rfl)), (inr_26 _ (List.mem_of_getElem? (i := 16) rfl)), (inr_26 _ (List.mem_of_getElem? (i := 17) rfl)), (inr_1 _ (List.mem_of_getElem? (i := 19) rfl)), rfl, ⟨by decide, by decide, by decide +kernel⟩, by decide, by decide, rfl⟩
theorem mlX9_88 : MLv RX9 88 RX4 4 yX4_countFrom cX4_countFrom 6 (some .int) 3 := ⟨(inr_34 _ (List.mem_of_getElem? (i := 11) rfl)), (inr_34 _ (List.mem_of_getElem? (i := 8) rfl)), (inr_34 _ (List.mem_of_getElem? (i := 9) rfl)), (inr_34 _ (List.mem_of_getElem? (i := 10) rfl)), (inr_4 _ (List.mem_of_getElem? (i := 7) rfl)), rfl, ⟨by decide, by decide, by decide +kernel⟩, by decide, by decide, rfl⟩
theorem mlX9_92 : MLv RX9 92 RX2 2 yX2_isHeld cX2_isHeld 2 (some .boolean) 1 := ⟨(inr_22 _ (List.mem_of_getElem? (i := 3) rfl)), (inr_34 _ (List.mem_of_getElem? (i := 12) rfl)), (inr_22 _ (List.mem_of_getElem? (i := 1) rfl)), (inr_22 _ (List.mem_of_getElem? (i := 2) rfl)), (inr_2 _ (List.mem_of_getElem? (i := 21) rfl)), rfl, ⟨by decide, by decide, by decide +kernel⟩, by decide, by decide, rfl⟩
theorem mlX9_98 : MLv RX9 98 RX9 9 yX9_fallsOn cX9_fallsOn 4 (some .boolean) 2 := ⟨(inr_26 _ (List.mem_of_getElem? (i := 9) rfl)), (inr_28 _ (List.mem_of_getElem? (i := 16) rfl)), (inr_26 _ (List.mem_of_getElem? (i := 7) rfl)), (inr_26 _ (List.mem_of_getElem? (i := 8) rfl)), (inr_1 _ (List.mem_of_getElem? (i := 19) rfl)), rfl, ⟨by decide, by decide, by decide +kernel⟩, by decide, by decide, rfl⟩
theorem mlX9_108 : MLv RX9 108 RX4 4 yX4_isBetween cX4_isBetween 2 (some .boolean) 1 := ⟨(inr_29 _ (List.mem_of_getElem? (i := 6) rfl)), (inr_29 _ (List.mem_of_getElem? (i := 3) rfl)), (inr_29 _ (List.mem_of_getElem? (i := 4) rfl)), (inr_29 _ (List.mem_of_getElem? (i := 5) rfl)), (inr_4 _ (List.mem_of_getElem? (i := 7) rfl)), rfl, ⟨by decide, by decide, by decide +kernel⟩, by decide, by decide, rfl⟩
def fX9_dateIn (a0 : Nat) (x1 : Int32) (x2 : Int32) (S : St) : Option Int32 :=
  if (x1 < 0 ∨ 5 ≤ x1.toNatClampNeg) then none else
  (fX2_countIn (a0 + 15) x1 x2 S).bind fun r_2 =>
  (fX4_dateAt (((a0 + 1) + 1) + 2 + x1.toNatClampNeg) r_2 S).bind fun r_4 =>
  some r_4
theorem wX9_dateIn {z : Mx} {ad : Nat → Nat} {o : Option Value × St} (X : CxOk z ad RX9 cX9_dateIn 3 (some .int) 3) (a0 : Nat) (x1 : Int32) (x2 : Int32) (h0 : KT a0 = 9) (S : St) (r : Int32) (ho : o = (some (.int r), S)) (hF : fX9_dateIn a0 x1 x2 S = some r) : GW z ad o S 0 [(0, .ref (ad a0)), (1, .int x1), (2, .int x2)] [] := by
  unfold fX9_dateIn at hF
  refine g_aload_n X dX9_dateIn_0 0 rfl rfl ?_
  refine g_getR (f := 1) X dX9_dateIn_1 flX9_12 rfl rfl h0 ?_
  refine g_getR (f := 1) X dX9_dateIn_4 flX9_48 rfl rfl (on_9_0 h0) ?_
  refine g_iload_n X dX9_dateIn_7 1 rfl rfl ?_
  obtain ⟨e_1, hF⟩ := oguard hF
  refine g_aaldP X dX9_dateIn_8 (on_8_0 (on_9_0 h0)) rfl e_1 ?_
  refine g_aload_n X dX9_dateIn_9 0 rfl rfl ?_
  refine g_getR (f := 15) X dX9_dateIn_10 flX9_21 rfl rfl h0 ?_
  refine g_iload_n X dX9_dateIn_13 1 rfl rfl ?_
  refine g_iload_n X dX9_dateIn_14 2 rfl rfl ?_
  obtain ⟨r_2, q_3, hF⟩ := obind hF
  refine g_callVi (As := [.int x1, .int x2]) X dX9_dateIn_15 mlX9_52 (fun l D cyy => tX2_countIn (cx_inj X) l D cyy (a0 + 15) x1 x2 (on_9_1 h0) S r_2 q_3) (on_9_1 h0) (by decide) rfl rfl (Nat.le_of_ble_eq_true rfl) ?_
  obtain ⟨r_4, q_5, hF⟩ := obind hF
  refine g_callVi (As := [.int r_2]) X dX9_dateIn_18 mlX9_56 (fun l D cyy => tX4_dateAt (cx_inj X) l D cyy (((a0 + 1) + 1) + 2 + x1.toNatClampNeg) r_2 (on_p (on_8_0 (on_9_0 h0)) (inb e_1)) S r_4 q_5) (on_p (on_8_0 (on_9_0 h0)) (inb e_1)) (by decide) rfl rfl (Nat.le_of_ble_eq_true rfl) ?_
  have hF := Option.some.inj hF
  subst hF
  exact g_iret X dX9_dateIn_21 ho
theorem tX9_dateIn {ad : Nat → Nat} (hI : Inj ad) (l : Launch) (D : va_G) (cyy : Nat → ClassId) (a0 : Nat) (x1 : Int32) (x2 : Int32) (h0 : KT a0 = 9) (S : St) (r : Int32) (hF : fX9_dateIn a0 x1 x2 S = some r) : OkM l yX9_dateIn cX9_dateIn 3 (some .int) 3 ad D cyy [.ref (ad a0), .int x1, .int x2] S (some (.int r), S) := okM_of hI (by decide) (inr_26 _ (List.mem_of_getElem? (i := 18) rfl)) (by show _ ≤ 3; exact Nat.le_of_ble_eq_true rfl) (fun z X => wX9_dateIn X a0 x1 x2 h0 S r rfl hF)
def fX9_fallsOn_s10 (a0 : Nat) (x1 : Int32) (x2 : Int32) (b3 : Nat)  (S : St) : Option Int32 :=
  if (fX8_hasParish (a0 + 1) (gI S 3 1 b3) S) = 0 then (some (0 : Int32)) else
  ((fX9_dateIn a0 (gI S 3 1 b3) x2 S).bind fun r_3 =>
  if r_3 = (((gI S 3 2 b3) * (32 : Int32)) + (gI S 3 3 b3)) then (some (1 : Int32)) else
  (some (0 : Int32)))
def fX9_fallsOn (a0 : Nat) (x1 : Int32) (x2 : Int32) (S : St) : Option Int32 :=
  if (x1 < 0 ∨ 6 ≤ x1.toNatClampNeg) then none else
  fX9_fallsOn_s10 a0 x1 x2 (((a0 + 1) + 2) + 6 + x1.toNatClampNeg) S
theorem wX9_fallsOn_s10 {z : Mx} {ad : Nat → Nat} {o : Option Value × St} (X : CxOk z ad RX9 cX9_fallsOn 4 (some .boolean) 4) (a0 : Nat) (x1 : Int32) (x2 : Int32) (h0 : KT a0 = 9) (b3 : Nat)  (g3 : KT b3 = 3)  (S : St) (r : Int32) (ho : o = (some (.int r), S)) (hF : fX9_fallsOn_s10 a0 x1 x2 b3  S = some r) : GW z ad o S 10 [(0, .ref (ad a0)), (2, .int x2), (3, .ref (ad b3))] [] := by
  unfold fX9_fallsOn_s10 at hF
  refine g_aload_n X dX9_fallsOn_10 0 rfl rfl ?_
  refine g_getR (f := 1) X dX9_fallsOn_11 flX9_12 rfl rfl h0 ?_
  refine g_aload_n X dX9_fallsOn_14 2 rfl rfl ?_
  refine g_getI X dX9_fallsOn_15 flX9_66 rfl g3 ?_
  refine g_callVi (As := [.int (gI S 3 1 b3)]) X dX9_fallsOn_18 mlX9_71 (fun l D cyy => tX8_hasParish (cx_inj X) l D cyy (a0 + 1) (gI S 3 1 b3) (on_9_0 h0) S) (on_9_0 h0) (by decide) rfl rfl (Nat.le_of_ble_eq_true rfl) ?_
  refine g_if_eq (tgt := 52) X dX9_fallsOn_21 (by decide) (fun c_2 => ?_) (fun c_2 => ?_)
  · rw [if_pos c_2] at hF
    refine g_iconst (v := 0) X dX9_fallsOn_52 (by decide) ?_
    have hF := Option.some.inj hF
    subst hF
    exact g_zret X dX9_fallsOn_53 (by decide) ho
  · rw [if_neg c_2] at hF
    refine g_aload_n X dX9_fallsOn_24 0 rfl rfl ?_
    refine g_aload_n X dX9_fallsOn_25 2 rfl rfl ?_
    refine g_getI X dX9_fallsOn_26 flX9_66 rfl g3 ?_
    refine g_iload_n X dX9_fallsOn_29 1 rfl rfl ?_
    obtain ⟨r_3, q_4, hF⟩ := obind hF
    refine g_callVi (As := [.int (gI S 3 1 b3), .int x2]) X dX9_fallsOn_30 mlX9_75 (fun l D cyy => tX9_dateIn (cx_inj X) l D cyy a0 (gI S 3 1 b3) x2 h0 S r_3 q_4) h0 (by decide) rfl rfl (Nat.le_of_ble_eq_true rfl) ?_
    refine g_aload_n X dX9_fallsOn_33 2 rfl rfl ?_
    refine g_getI X dX9_fallsOn_34 flX9_78 rfl g3 ?_
    refine g_bipush (v := 32) X dX9_fallsOn_37 (by decide) ?_
    refine g_imul X dX9_fallsOn_39 ?_
    refine g_aload_n X dX9_fallsOn_40 2 rfl rfl ?_
    refine g_getI X dX9_fallsOn_41 flX9_81 rfl g3 ?_
    refine g_iadd X dX9_fallsOn_44 ?_
    refine g_icmp_ne (tgt := 52) X dX9_fallsOn_45 (by decide) (fun c_5 => ?_) (fun c_5 => ?_)
    · rw [if_neg c_5] at hF
      refine g_iconst (v := 0) X dX9_fallsOn_52 (by decide) ?_
      have hF := Option.some.inj hF
      subst hF
      exact g_zret X dX9_fallsOn_53 (by decide) ho
    · rw [if_pos c_5] at hF
      refine g_iconst (v := 1) X dX9_fallsOn_48 (by decide) ?_
      refine g_goto (tgt := 53) X dX9_fallsOn_49 (by decide) ?_
      have hF := Option.some.inj hF
      subst hF
      exact g_zret X dX9_fallsOn_53 (by decide) ho
theorem wX9_fallsOn {z : Mx} {ad : Nat → Nat} {o : Option Value × St} (X : CxOk z ad RX9 cX9_fallsOn 4 (some .boolean) 4) (a0 : Nat) (x1 : Int32) (x2 : Int32) (h0 : KT a0 = 9) (S : St) (r : Int32) (ho : o = (some (.int r), S)) (hF : fX9_fallsOn a0 x1 x2 S = some r) : GW z ad o S 0 [(0, .ref (ad a0)), (1, .int x1), (2, .int x2)] [] := by
  unfold fX9_fallsOn at hF
  refine g_aload_n X dX9_fallsOn_0 0 rfl rfl ?_
  refine g_getR (f := 1) X dX9_fallsOn_1 flX9_12 rfl rfl h0 ?_
  refine g_getR (f := 2) X dX9_fallsOn_4 flX9_62 rfl rfl (on_9_0 h0) ?_
  refine g_iload_n X dX9_fallsOn_7 1 rfl rfl ?_
  obtain ⟨e_1, hF⟩ := oguard hF
  refine g_aaldF X dX9_fallsOn_8 (on_8_1 (on_9_0 h0)) rfl e_1 ?_
  refine g_astore_n X dX9_fallsOn_9 rfl (by decide) (lv' := [(3, .ref (ad (((a0 + 1) + 2) + 6 + x1.toNatClampNeg))), (0, .ref (ad a0)), (1, .int x1), (2, .int x2)]) rfl ?_
  exact g_perm [1, 3, 0] rfl (wX9_fallsOn_s10 X a0 x1 x2 h0 (((a0 + 1) + 2) + 6 + x1.toNatClampNeg) (on_f (on_8_1 (on_9_0 h0)) (inb e_1)) S r ho hF)
theorem tX9_fallsOn {ad : Nat → Nat} (hI : Inj ad) (l : Launch) (D : va_G) (cyy : Nat → ClassId) (a0 : Nat) (x1 : Int32) (x2 : Int32) (h0 : KT a0 = 9) (S : St) (r : Int32) (hF : fX9_fallsOn a0 x1 x2 S = some r) : OkM l yX9_fallsOn cX9_fallsOn 4 (some .boolean) 4 ad D cyy [.ref (ad a0), .int x1, .int x2] S (some (.int r), S) := okM_of hI (by decide) (inr_26 _ (List.mem_of_getElem? (i := 9) rfl)) (by show _ ≤ 4; exact Nat.le_of_ble_eq_true rfl) (fun z X => wX9_fallsOn X a0 x1 x2 h0 S r rfl hF)
def fX9_nextFrom_s98 (a0 : Nat) (x1 : Int32) (x2 : Int32) (y6 : Int32)  (S : St) : Option Int32 :=
  some (x2 + y6)
def fX9_nextFrom_s70 (a0 : Nat) (x1 : Int32) (x2 : Int32) (y4 : Int32) (y6 : Int32)  (S : St) : Option Int32 :=
  if y6 ≤ 0 then (fX9_nextFrom_s98 a0 x1 x2 y6 S) else
  (if x2 = 0 then (if (fX2_isHeld (a0 + 15) y4 S) = 0 then (fX9_nextFrom_s98 a0 x1 x2 y6 S) else
  (some (y6 + (1 : Int32)))) else
  (fX9_nextFrom_s98 a0 x1 x2 y6 S))
def fX9_nextFrom_s16 (a0 : Nat) (x1 : Int32) (x2 : Int32) (b3 : Nat) (y4 : Int32)  (S : St) : Option Int32 :=
  if (fX8_hasParish (a0 + 1) y4 S) = 0 then (some (-1 : Int32)) else
  ((fX2_countIn (a0 + 15) y4 x2 S).bind fun r_3 =>
  if (y4 < 0 ∨ 5 ≤ y4.toNatClampNeg) then none else
  (fX4_countFrom (((a0 + 1) + 1) + 2 + y4.toNatClampNeg) r_3 (gI S 3 2 b3) (gI S 3 3 b3) S).bind fun r_6 =>
  fX9_nextFrom_s70 a0 x1 x2 y4 (r_6 - r_3) S)
def fX9_nextFrom_s10 (a0 : Nat) (x1 : Int32) (x2 : Int32) (b3 : Nat)  (S : St) : Option Int32 :=
  fX9_nextFrom_s16 a0 x1 x2 b3 (gI S 3 1 b3) S
def fX9_nextFrom (a0 : Nat) (x1 : Int32) (x2 : Int32) (S : St) : Option Int32 :=
  if (x1 < 0 ∨ 6 ≤ x1.toNatClampNeg) then none else
  fX9_nextFrom_s10 a0 x1 x2 (((a0 + 1) + 2) + 6 + x1.toNatClampNeg) S
theorem wX9_nextFrom_s98 {z : Mx} {ad : Nat → Nat} {o : Option Value × St} (X : CxOk z ad RX9 cX9_nextFrom 7 (some .int) 4) (a0 : Nat) (x1 : Int32) (x2 : Int32) (h0 : KT a0 = 9) (y6 : Int32)    (S : St) (r : Int32) (ho : o = (some (.int r), S)) (hF : fX9_nextFrom_s98 a0 x1 x2 y6  S = some r) : GW z ad o S 98 [(2, .int x2), (6, .int y6)] [] := by
  unfold fX9_nextFrom_s98 at hF
  refine g_iload_n X dX9_nextFrom_98 0 rfl rfl ?_
  refine g_iload X dX9_nextFrom_99 1 rfl ?_
  refine g_iadd X dX9_nextFrom_101 ?_
  have hF := Option.some.inj hF
  subst hF
  exact g_iret X dX9_nextFrom_102 ho
theorem wX9_nextFrom_s70 {z : Mx} {ad : Nat → Nat} {o : Option Value × St} (X : CxOk z ad RX9 cX9_nextFrom 7 (some .int) 4) (a0 : Nat) (x1 : Int32) (x2 : Int32) (h0 : KT a0 = 9) (y4 : Int32) (y6 : Int32)    (S : St) (r : Int32) (ho : o = (some (.int r), S)) (hF : fX9_nextFrom_s70 a0 x1 x2 y4 y6  S = some r) : GW z ad o S 70 [(0, .ref (ad a0)), (2, .int x2), (4, .int y4), (6, .int y6)] [] := by
  unfold fX9_nextFrom_s70 at hF
  refine g_iload X dX9_nextFrom_70 3 rfl ?_
  refine g_if_le (tgt := 98) X dX9_nextFrom_72 (by decide) (fun c_8 => ?_) (fun c_8 => ?_)
  · rw [if_pos c_8] at hF
    exact g_perm [1, 3] rfl (wX9_nextFrom_s98 X a0 x1 x2 h0 y6 S r ho hF)
  · rw [if_neg c_8] at hF
    refine g_iload_n X dX9_nextFrom_75 1 rfl rfl ?_
    refine g_if_ne (tgt := 98) X dX9_nextFrom_76 (by decide) (fun c_9 => ?_) (fun c_9 => ?_)
    · rw [if_neg c_9] at hF
      exact g_perm [1, 3] rfl (wX9_nextFrom_s98 X a0 x1 x2 h0 y6 S r ho hF)
    · rw [if_pos c_9] at hF
      refine g_aload_n X dX9_nextFrom_79 0 rfl rfl ?_
      refine g_getR (f := 15) X dX9_nextFrom_80 flX9_21 rfl rfl h0 ?_
      refine g_iload X dX9_nextFrom_83 2 rfl ?_
      refine g_callVi (As := [.int y4]) X dX9_nextFrom_85 mlX9_92 (fun l D cyy => tX2_isHeld (cx_inj X) l D cyy (a0 + 15) y4 (on_9_1 h0) S) (on_9_1 h0) (by decide) rfl rfl (Nat.le_of_ble_eq_true rfl) ?_
      refine g_if_eq (tgt := 98) X dX9_nextFrom_88 (by decide) (fun c_10 => ?_) (fun c_10 => ?_)
      · rw [if_pos c_10] at hF
        exact g_perm [1, 3] rfl (wX9_nextFrom_s98 X a0 x1 x2 h0 y6 S r ho hF)
      · rw [if_neg c_10] at hF
        refine g_iload X dX9_nextFrom_91 3 rfl ?_
        refine g_iconst (v := 1) X dX9_nextFrom_93 (by decide) ?_
        refine g_iadd X dX9_nextFrom_94 ?_
        refine g_goto (tgt := 102) X dX9_nextFrom_95 (by decide) ?_
        have hF := Option.some.inj hF
        subst hF
        exact g_iret X dX9_nextFrom_102 ho
theorem wX9_nextFrom_s16 {z : Mx} {ad : Nat → Nat} {o : Option Value × St} (X : CxOk z ad RX9 cX9_nextFrom 7 (some .int) 4) (a0 : Nat) (x1 : Int32) (x2 : Int32) (h0 : KT a0 = 9) (b3 : Nat) (y4 : Int32)  (g3 : KT b3 = 3)  (S : St) (r : Int32) (ho : o = (some (.int r), S)) (hF : fX9_nextFrom_s16 a0 x1 x2 b3 y4  S = some r) : GW z ad o S 16 [(0, .ref (ad a0)), (2, .int x2), (3, .ref (ad b3)), (4, .int y4)] [] := by
  unfold fX9_nextFrom_s16 at hF
  refine g_aload_n X dX9_nextFrom_16 0 rfl rfl ?_
  refine g_getR (f := 1) X dX9_nextFrom_17 flX9_12 rfl rfl h0 ?_
  refine g_iload X dX9_nextFrom_20 3 rfl ?_
  refine g_callVi (As := [.int y4]) X dX9_nextFrom_22 mlX9_71 (fun l D cyy => tX8_hasParish (cx_inj X) l D cyy (a0 + 1) y4 (on_9_0 h0) S) (on_9_0 h0) (by decide) rfl rfl (Nat.le_of_ble_eq_true rfl) ?_
  refine g_if_ne (tgt := 30) X dX9_nextFrom_25 (by decide) (fun c_2 => ?_) (fun c_2 => ?_)
  · rw [if_neg c_2] at hF
    refine g_aload_n X dX9_nextFrom_30 0 rfl rfl ?_
    refine g_getR (f := 15) X dX9_nextFrom_31 flX9_21 rfl rfl h0 ?_
    refine g_iload X dX9_nextFrom_34 3 rfl ?_
    refine g_iload_n X dX9_nextFrom_36 1 rfl rfl ?_
    obtain ⟨r_3, q_4, hF⟩ := obind hF
    refine g_callVi (As := [.int y4, .int x2]) X dX9_nextFrom_37 mlX9_52 (fun l D cyy => tX2_countIn (cx_inj X) l D cyy (a0 + 15) y4 x2 (on_9_1 h0) S r_3 q_4) (on_9_1 h0) (by decide) rfl rfl (Nat.le_of_ble_eq_true rfl) ?_
    refine g_istore X dX9_nextFrom_40 (by decide) (lv' := [(5, .int r_3), (0, .ref (ad a0)), (2, .int x2), (3, .ref (ad b3)), (4, .int y4)]) rfl ?_
    refine g_aload_n X dX9_nextFrom_42 1 rfl rfl ?_
    refine g_getR (f := 1) X dX9_nextFrom_43 flX9_12 rfl rfl h0 ?_
    refine g_getR (f := 1) X dX9_nextFrom_46 flX9_48 rfl rfl (on_9_0 h0) ?_
    refine g_iload X dX9_nextFrom_49 4 rfl ?_
    obtain ⟨e_5, hF⟩ := oguard hF
    refine g_aaldP X dX9_nextFrom_51 (on_8_0 (on_9_0 h0)) rfl e_5 ?_
    refine g_iload X dX9_nextFrom_52 0 rfl ?_
    refine g_aload_n X dX9_nextFrom_54 3 rfl rfl ?_
    refine g_getI X dX9_nextFrom_55 flX9_78 rfl g3 ?_
    refine g_aload_n X dX9_nextFrom_58 3 rfl rfl ?_
    refine g_getI X dX9_nextFrom_59 flX9_81 rfl g3 ?_
    obtain ⟨r_6, q_7, hF⟩ := obind hF
    refine g_callVi (As := [.int r_3, .int (gI S 3 2 b3), .int (gI S 3 3 b3)]) X dX9_nextFrom_62 mlX9_88 (fun l D cyy => tX4_countFrom (cx_inj X) l D cyy (((a0 + 1) + 1) + 2 + y4.toNatClampNeg) r_3 (gI S 3 2 b3) (gI S 3 3 b3) (on_p (on_8_0 (on_9_0 h0)) (inb e_5)) S r_6 q_7) (on_p (on_8_0 (on_9_0 h0)) (inb e_5)) (by decide) rfl rfl (Nat.le_of_ble_eq_true rfl) ?_
    refine g_iload X dX9_nextFrom_65 0 rfl ?_
    refine g_isub X dX9_nextFrom_67 ?_
    refine g_istore X dX9_nextFrom_68 (by decide) (lv' := [(6, .int (r_6 - r_3)), (5, .int r_3), (0, .ref (ad a0)), (2, .int x2), (3, .ref (ad b3)), (4, .int y4)]) rfl ?_
    exact g_perm [2, 3, 5, 0] rfl (wX9_nextFrom_s70 X a0 x1 x2 h0 y4 (r_6 - r_3) S r ho hF)
  · rw [if_pos c_2] at hF
    refine g_iconst (v := -1) X dX9_nextFrom_28 (by decide) ?_
    have hF := Option.some.inj hF
    subst hF
    exact g_iret X dX9_nextFrom_29 ho
theorem wX9_nextFrom_s10 {z : Mx} {ad : Nat → Nat} {o : Option Value × St} (X : CxOk z ad RX9 cX9_nextFrom 7 (some .int) 4) (a0 : Nat) (x1 : Int32) (x2 : Int32) (h0 : KT a0 = 9) (b3 : Nat)  (g3 : KT b3 = 3)  (S : St) (r : Int32) (ho : o = (some (.int r), S)) (hF : fX9_nextFrom_s10 a0 x1 x2 b3  S = some r) : GW z ad o S 10 [(0, .ref (ad a0)), (2, .int x2), (3, .ref (ad b3))] [] := by
  unfold fX9_nextFrom_s10 at hF
  refine g_aload_n X dX9_nextFrom_10 2 rfl rfl ?_
  refine g_getI X dX9_nextFrom_11 flX9_66 rfl g3 ?_
  refine g_istore X dX9_nextFrom_14 (by decide) (lv' := [(4, .int (gI S 3 1 b3)), (0, .ref (ad a0)), (2, .int x2), (3, .ref (ad b3))]) rfl ?_
  exact g_perm [1, 2, 3, 0] rfl (wX9_nextFrom_s16 X a0 x1 x2 h0 b3 (gI S 3 1 b3) g3 S r ho hF)
theorem wX9_nextFrom {z : Mx} {ad : Nat → Nat} {o : Option Value × St} (X : CxOk z ad RX9 cX9_nextFrom 7 (some .int) 4) (a0 : Nat) (x1 : Int32) (x2 : Int32) (h0 : KT a0 = 9) (S : St) (r : Int32) (ho : o = (some (.int r), S)) (hF : fX9_nextFrom a0 x1 x2 S = some r) : GW z ad o S 0 [(0, .ref (ad a0)), (1, .int x1), (2, .int x2)] [] := by
  unfold fX9_nextFrom at hF
  refine g_aload_n X dX9_nextFrom_0 0 rfl rfl ?_
  refine g_getR (f := 1) X dX9_nextFrom_1 flX9_12 rfl rfl h0 ?_
  refine g_getR (f := 2) X dX9_nextFrom_4 flX9_62 rfl rfl (on_9_0 h0) ?_
  refine g_iload_n X dX9_nextFrom_7 1 rfl rfl ?_
  obtain ⟨e_1, hF⟩ := oguard hF
  refine g_aaldF X dX9_nextFrom_8 (on_8_1 (on_9_0 h0)) rfl e_1 ?_
  refine g_astore_n X dX9_nextFrom_9 rfl (by decide) (lv' := [(3, .ref (ad (((a0 + 1) + 2) + 6 + x1.toNatClampNeg))), (0, .ref (ad a0)), (1, .int x1), (2, .int x2)]) rfl ?_
  exact g_perm [1, 3, 0] rfl (wX9_nextFrom_s10 X a0 x1 x2 h0 (((a0 + 1) + 2) + 6 + x1.toNatClampNeg) (on_f (on_8_1 (on_9_0 h0)) (inb e_1)) S r ho hF)
theorem tX9_nextFrom {ad : Nat → Nat} (hI : Inj ad) (l : Launch) (D : va_G) (cyy : Nat → ClassId) (a0 : Nat) (x1 : Int32) (x2 : Int32) (h0 : KT a0 = 9) (S : St) (r : Int32) (hF : fX9_nextFrom a0 x1 x2 S = some r) : OkM l yX9_nextFrom cX9_nextFrom 7 (some .int) 4 ad D cyy [.ref (ad a0), .int x1, .int x2] S (some (.int r), S) := okM_of hI (by decide) (inr_34 _ (List.mem_of_getElem? (i := 7) rfl)) (by show _ ≤ 7; exact Nat.le_of_ble_eq_true rfl) (fun z X => wX9_nextFrom X a0 x1 x2 h0 S r rfl hF)
def fX9_begin (a0 : Nat) (a1 : Nat) (S : St) : Option St :=
  (fX8_copyFrom (a0 + 1) a1 S).bind fun r_1 =>
  (fX2_begin (a0 + 15) a1 r_1).bind fun r_3 =>
  some (fX5_forget (a0 + 19) r_3)
theorem wX9_begin {z : Mx} {ad : Nat → Nat} {o : Option Value × St} (X : CxOk z ad RX9 cX9_begin 2 none 3) (a0 : Nat) (a1 : Nat) (h0 : KT a0 = 9) (h1 : KT a1 = 8) (S : St) (r : St) (ho : o = (none, r)) (hF : fX9_begin a0 a1 S = some r) : GW z ad o S 0 [(0, .ref (ad a0)), (1, .ref (ad a1))] [] := by
  unfold fX9_begin at hF
  refine g_aload_n X dX9_begin_0 0 rfl rfl ?_
  refine g_getR (f := 1) X dX9_begin_1 flX9_12 rfl rfl h0 ?_
  refine g_aload_n X dX9_begin_4 1 rfl rfl ?_
  obtain ⟨r_1, q_2, hF⟩ := obind hF
  refine g_callVv (As := [.ref (ad a1)]) X dX9_begin_5 mlX9_32 (fun l D cyy => tX8_copyFrom (cx_inj X) l D cyy (a0 + 1) a1 (on_9_0 h0) h1 S r_1 q_2) (on_9_0 h0) (by decide) rfl rfl (Nat.le_of_ble_eq_true rfl) ?_
  refine g_aload_n X dX9_begin_8 0 rfl rfl ?_
  refine g_getR (f := 15) X dX9_begin_9 flX9_21 rfl rfl h0 ?_
  refine g_aload_n X dX9_begin_12 1 rfl rfl ?_
  obtain ⟨r_3, q_4, hF⟩ := obind hF
  refine g_callVv (As := [.ref (ad a1)]) X dX9_begin_13 mlX9_36 (fun l D cyy => tX2_begin (cx_inj X) l D cyy (a0 + 15) a1 (on_9_1 h0) h1 r_1 r_3 q_4) (on_9_1 h0) (by decide) rfl rfl (Nat.le_of_ble_eq_true rfl) ?_
  refine g_aload_n X dX9_begin_16 0 rfl rfl ?_
  refine g_getR (f := 19) X dX9_begin_17 flX9_28 rfl rfl h0 ?_
  refine g_callVv (As := []) X dX9_begin_20 mlX9_39 (fun l D cyy => tX5_forget (cx_inj X) l D cyy (a0 + 19) (on_9_2 h0) r_3) (on_9_2 h0) (by decide) rfl rfl (Nat.le_of_ble_eq_true rfl) ?_
  have hF := Option.some.inj hF
  subst hF
  exact g_vret X dX9_begin_23 ho
theorem tX9_begin {ad : Nat → Nat} (hI : Inj ad) (l : Launch) (D : va_G) (cyy : Nat → ClassId) (a0 : Nat) (a1 : Nat) (h0 : KT a0 = 9) (h1 : KT a1 = 8) (S : St) (r : St) (hF : fX9_begin a0 a1 S = some r) : OkM l yX9_begin cX9_begin 2 none 3 ad D cyy [.ref (ad a0), .ref (ad a1)] S (none, r) := okM_of hI (by decide) (inr_15 _ (List.mem_of_getElem? (i := 11) rfl)) (by show _ ≤ 2; exact Nat.le_of_ble_eq_true rfl) (fun z X => wX9_begin X a0 a1 h0 h1 S r rfl hF)
def fX9_copyFrom (a0 : Nat) (a1 : Nat) (S : St) : Option St :=
  (fX8_copyFrom (a0 + 1) (a1 + 1) S).bind fun r_1 =>
  (fX2_copyFrom (a0 + 15) (a1 + 15) r_1).bind fun r_3 =>
  (fX5_copyFrom (a0 + 19) (a1 + 19) r_3).bind fun r_5 =>
  some r_5
theorem wX9_copyFrom {z : Mx} {ad : Nat → Nat} {o : Option Value × St} (X : CxOk z ad RX9 cX9_copyFrom 2 none 3) (a0 : Nat) (a1 : Nat) (h0 : KT a0 = 9) (h1 : KT a1 = 9) (S : St) (r : St) (ho : o = (none, r)) (hF : fX9_copyFrom a0 a1 S = some r) : GW z ad o S 0 [(0, .ref (ad a0)), (1, .ref (ad a1))] [] := by
  unfold fX9_copyFrom at hF
  refine g_aload_n X dX9_copyFrom_0 0 rfl rfl ?_
  refine g_getR (f := 1) X dX9_copyFrom_1 flX9_12 rfl rfl h0 ?_
  refine g_aload_n X dX9_copyFrom_4 1 rfl rfl ?_
  refine g_getR (f := 1) X dX9_copyFrom_5 flX9_12 rfl rfl h1 ?_
  obtain ⟨r_1, q_2, hF⟩ := obind hF
  refine g_callVv (As := [.ref (ad (a1 + 1))]) X dX9_copyFrom_8 mlX9_32 (fun l D cyy => tX8_copyFrom (cx_inj X) l D cyy (a0 + 1) (a1 + 1) (on_9_0 h0) (on_9_0 h1) S r_1 q_2) (on_9_0 h0) (by decide) rfl rfl (Nat.le_of_ble_eq_true rfl) ?_
  refine g_aload_n X dX9_copyFrom_11 0 rfl rfl ?_
  refine g_getR (f := 15) X dX9_copyFrom_12 flX9_21 rfl rfl h0 ?_
  refine g_aload_n X dX9_copyFrom_15 1 rfl rfl ?_
  refine g_getR (f := 15) X dX9_copyFrom_16 flX9_21 rfl rfl h1 ?_
  obtain ⟨r_3, q_4, hF⟩ := obind hF
  refine g_callVv (As := [.ref (ad (a1 + 15))]) X dX9_copyFrom_19 mlX9_42 (fun l D cyy => tX2_copyFrom (cx_inj X) l D cyy (a0 + 15) (a1 + 15) (on_9_1 h0) (on_9_1 h1) r_1 r_3 q_4) (on_9_1 h0) (by decide) rfl rfl (Nat.le_of_ble_eq_true rfl) ?_
  refine g_aload_n X dX9_copyFrom_22 0 rfl rfl ?_
  refine g_getR (f := 19) X dX9_copyFrom_23 flX9_28 rfl rfl h0 ?_
  refine g_aload_n X dX9_copyFrom_26 1 rfl rfl ?_
  refine g_getR (f := 19) X dX9_copyFrom_27 flX9_28 rfl rfl h1 ?_
  obtain ⟨r_5, q_6, hF⟩ := obind hF
  refine g_callVv (As := [.ref (ad (a1 + 19))]) X dX9_copyFrom_30 mlX9_45 (fun l D cyy => tX5_copyFrom (cx_inj X) l D cyy (a0 + 19) (a1 + 19) (on_9_2 h0) (on_9_2 h1) r_3 r_5 q_6) (on_9_2 h0) (by decide) rfl rfl (Nat.le_of_ble_eq_true rfl) ?_
  have hF := Option.some.inj hF
  subst hF
  exact g_vret X dX9_copyFrom_33 ho
theorem tX9_copyFrom {ad : Nat → Nat} (hI : Inj ad) (l : Launch) (D : va_G) (cyy : Nat → ClassId) (a0 : Nat) (a1 : Nat) (h0 : KT a0 = 9) (h1 : KT a1 = 9) (S : St) (r : St) (hF : fX9_copyFrom a0 a1 S = some r) : OkM l yX9_copyFrom cX9_copyFrom 2 none 3 ad D cyy [.ref (ad a0), .ref (ad a1)] S (none, r) := okM_of hI (by decide) (inr_64 _ (List.mem_of_getElem? (i := 16) rfl)) (by show _ ≤ 2; exact Nat.le_of_ble_eq_true rfl) (fun z X => wX9_copyFrom X a0 a1 h0 h1 S r rfl hF)
def fX9_fallsBy_s10 (a0 : Nat) (a1 : Nat) (x2 : Int32) (b3 : Nat)  (S : St) : Option Int32 :=
  if (fX8_hasParish (a0 + 1) (gI S 3 1 b3) S) = 0 then (some (0 : Int32)) else
  (if ((gI S 3 1 b3) < 0 ∨ 5 ≤ (gI S 3 1 b3).toNatClampNeg) then none else
  if ((gI S 3 1 b3) < 0 ∨ 5 ≤ (gI S 3 1 b3).toNatClampNeg) then none else
  (fX4_dateAt (((a0 + 1) + 1) + 2 + (gI S 3 1 b3).toNatClampNeg) (gA S 15 (a1 + 1) ((gI S 3 1 b3).toNatClampNeg)) S).bind fun r_5 =>
  if r_5 = (((gI S 3 2 b3) * (32 : Int32)) + (gI S 3 3 b3)) then (some (1 : Int32)) else
  (some (0 : Int32)))
def fX9_fallsBy (a0 : Nat) (a1 : Nat) (x2 : Int32) (S : St) : Option Int32 :=
  if (x2 < 0 ∨ 6 ≤ x2.toNatClampNeg) then none else
  fX9_fallsBy_s10 a0 a1 x2 (((a0 + 1) + 2) + 6 + x2.toNatClampNeg) S
theorem wX9_fallsBy_s10 {z : Mx} {ad : Nat → Nat} {o : Option Value × St} (X : CxOk z ad RX9 cX9_fallsBy 4 (some .boolean) 3) (a0 : Nat) (a1 : Nat) (x2 : Int32) (h0 : KT a0 = 9) (h1 : KT a1 = 2) (b3 : Nat)  (g3 : KT b3 = 3)  (S : St) (r : Int32) (ho : o = (some (.int r), S)) (hF : fX9_fallsBy_s10 a0 a1 x2 b3  S = some r) : GW z ad o S 10 [(0, .ref (ad a0)), (1, .ref (ad a1)), (3, .ref (ad b3))] [] := by
  unfold fX9_fallsBy_s10 at hF
  refine g_aload_n X dX9_fallsBy_10 0 rfl rfl ?_
  refine g_getR (f := 1) X dX9_fallsBy_11 flX9_12 rfl rfl h0 ?_
  refine g_aload_n X dX9_fallsBy_14 2 rfl rfl ?_
  refine g_getI X dX9_fallsBy_15 flX9_66 rfl g3 ?_
  refine g_callVi (As := [.int (gI S 3 1 b3)]) X dX9_fallsBy_18 mlX9_71 (fun l D cyy => tX8_hasParish (cx_inj X) l D cyy (a0 + 1) (gI S 3 1 b3) (on_9_0 h0) S) (on_9_0 h0) (by decide) rfl rfl (Nat.le_of_ble_eq_true rfl) ?_
  refine g_if_eq (tgt := 67) X dX9_fallsBy_21 (by decide) (fun c_2 => ?_) (fun c_2 => ?_)
  · rw [if_pos c_2] at hF
    refine g_iconst (v := 0) X dX9_fallsBy_67 (by decide) ?_
    have hF := Option.some.inj hF
    subst hF
    exact g_zret X dX9_fallsBy_68 (by decide) ho
  · rw [if_neg c_2] at hF
    refine g_aload_n X dX9_fallsBy_24 0 rfl rfl ?_
    refine g_getR (f := 1) X dX9_fallsBy_25 flX9_12 rfl rfl h0 ?_
    refine g_getR (f := 1) X dX9_fallsBy_28 flX9_48 rfl rfl (on_9_0 h0) ?_
    refine g_aload_n X dX9_fallsBy_31 2 rfl rfl ?_
    refine g_getI X dX9_fallsBy_32 flX9_66 rfl g3 ?_
    obtain ⟨e_3, hF⟩ := oguard hF
    refine g_aaldP X dX9_fallsBy_35 (on_8_0 (on_9_0 h0)) rfl e_3 ?_
    refine g_aload_n X dX9_fallsBy_36 1 rfl rfl ?_
    refine g_getR (f := 1) X dX9_fallsBy_37 flX9_84 rfl rfl h1 ?_
    refine g_aload_n X dX9_fallsBy_40 2 rfl rfl ?_
    refine g_getI X dX9_fallsBy_41 flX9_66 rfl g3 ?_
    obtain ⟨e_4, hF⟩ := oguard hF
    refine g_iald X dX9_fallsBy_44 kd_15 (on_2_3 h1) e_4 ?_
    obtain ⟨r_5, q_6, hF⟩ := obind hF
    refine g_callVi (As := [.int (gA S 15 (a1 + 1) ((gI S 3 1 b3).toNatClampNeg))]) X dX9_fallsBy_45 mlX9_56 (fun l D cyy => tX4_dateAt (cx_inj X) l D cyy (((a0 + 1) + 1) + 2 + (gI S 3 1 b3).toNatClampNeg) (gA S 15 (a1 + 1) ((gI S 3 1 b3).toNatClampNeg)) (on_p (on_8_0 (on_9_0 h0)) (inb e_3)) S r_5 q_6) (on_p (on_8_0 (on_9_0 h0)) (inb e_3)) (by decide) rfl rfl (Nat.le_of_ble_eq_true rfl) ?_
    refine g_aload_n X dX9_fallsBy_48 2 rfl rfl ?_
    refine g_getI X dX9_fallsBy_49 flX9_78 rfl g3 ?_
    refine g_bipush (v := 32) X dX9_fallsBy_52 (by decide) ?_
    refine g_imul X dX9_fallsBy_54 ?_
    refine g_aload_n X dX9_fallsBy_55 2 rfl rfl ?_
    refine g_getI X dX9_fallsBy_56 flX9_81 rfl g3 ?_
    refine g_iadd X dX9_fallsBy_59 ?_
    refine g_icmp_ne (tgt := 67) X dX9_fallsBy_60 (by decide) (fun c_7 => ?_) (fun c_7 => ?_)
    · rw [if_neg c_7] at hF
      refine g_iconst (v := 0) X dX9_fallsBy_67 (by decide) ?_
      have hF := Option.some.inj hF
      subst hF
      exact g_zret X dX9_fallsBy_68 (by decide) ho
    · rw [if_pos c_7] at hF
      refine g_iconst (v := 1) X dX9_fallsBy_63 (by decide) ?_
      refine g_goto (tgt := 68) X dX9_fallsBy_64 (by decide) ?_
      have hF := Option.some.inj hF
      subst hF
      exact g_zret X dX9_fallsBy_68 (by decide) ho
theorem wX9_fallsBy {z : Mx} {ad : Nat → Nat} {o : Option Value × St} (X : CxOk z ad RX9 cX9_fallsBy 4 (some .boolean) 3) (a0 : Nat) (a1 : Nat) (x2 : Int32) (h0 : KT a0 = 9) (h1 : KT a1 = 2) (S : St) (r : Int32) (ho : o = (some (.int r), S)) (hF : fX9_fallsBy a0 a1 x2 S = some r) : GW z ad o S 0 [(0, .ref (ad a0)), (1, .ref (ad a1)), (2, .int x2)] [] := by
  unfold fX9_fallsBy at hF
  refine g_aload_n X dX9_fallsBy_0 0 rfl rfl ?_
  refine g_getR (f := 1) X dX9_fallsBy_1 flX9_12 rfl rfl h0 ?_
  refine g_getR (f := 2) X dX9_fallsBy_4 flX9_62 rfl rfl (on_9_0 h0) ?_
  refine g_iload_n X dX9_fallsBy_7 2 rfl rfl ?_
  obtain ⟨e_1, hF⟩ := oguard hF
  refine g_aaldF X dX9_fallsBy_8 (on_8_1 (on_9_0 h0)) rfl e_1 ?_
  refine g_astore_n X dX9_fallsBy_9 rfl (by decide) (lv' := [(3, .ref (ad (((a0 + 1) + 2) + 6 + x2.toNatClampNeg))), (0, .ref (ad a0)), (1, .ref (ad a1)), (2, .int x2)]) rfl ?_
  exact g_perm [1, 2, 0] rfl (wX9_fallsBy_s10 X a0 a1 x2 h0 h1 (((a0 + 1) + 2) + 6 + x2.toNatClampNeg) (on_f (on_8_1 (on_9_0 h0)) (inb e_1)) S r ho hF)
theorem tX9_fallsBy {ad : Nat → Nat} (hI : Inj ad) (l : Launch) (D : va_G) (cyy : Nat → ClassId) (a0 : Nat) (a1 : Nat) (x2 : Int32) (h0 : KT a0 = 9) (h1 : KT a1 = 2) (S : St) (r : Int32) (hF : fX9_fallsBy a0 a1 x2 S = some r) : OkM l yX9_fallsBy cX9_fallsBy 4 (some .boolean) 3 ad D cyy [.ref (ad a0), .ref (ad a1), .int x2] S (some (.int r), S) := okM_of hI (by decide) (inr_55 _ (List.mem_of_getElem? (i := 1) rfl)) (by show _ ≤ 4; exact Nat.le_of_ble_eq_true rfl) (fun z X => wX9_fallsBy X a0 a1 x2 h0 h1 S r rfl hF)
def fX9_feastsToday_s30 (k4 : Int32 → Int32 → Option Int32) (a0 : Nat) (y1 : Int32) (y2 : Int32)  (S : St) : Option Int32 :=
  k4 y1 (y2 + (1 : Int32))
def fX9_feastsToday_s4 (k4 : Int32 → Int32 → Option Int32) (a0 : Nat) (y1 : Int32) (y2 : Int32)  (S : St) : Option Int32 :=
  if (gI S 8 3 (a0 + 1)) ≤ y2 then (some y1) else
  ((fX9_fallsOn a0 y2 (0 : Int32) S).bind fun r_2 =>
  if r_2 = 0 then (fX9_feastsToday_s30 k4 a0 y1 y2 S) else
  (fX9_feastsToday_s30 k4 a0 (y1 ||| ((1 : Int32) <<< (y2 &&& 31))) y2 S))
def fX9_feastsToday_h4 (a0 : Nat) : Nat → Int32 → Int32 → St → Option Int32
  | 0, _, _, _ => none
  | n + 1, y1, y2, S => fX9_feastsToday_s4 (fun y1 y2 => fX9_feastsToday_h4 a0 n y1 y2 S) a0 y1 y2 S
def fX9_feastsToday (a0 : Nat) (S : St) : Option Int32 :=
  fX9_feastsToday_h4 a0 NN (0 : Int32) (0 : Int32) S
theorem wX9_feastsToday_s30 {z : Mx} {ad : Nat → Nat} {o : Option Value × St} (X : CxOk z ad RX9 cX9_feastsToday 3 (some .int) 5) (a0 : Nat) (h0 : KT a0 = 9) (y1 : Int32) (y2 : Int32)  (k4 : Int32 → Int32 → Option Int32)   (S : St) (r : Int32) (ho : o = (some (.int r), S)) (hk4 : ∀ (y1 : Int32) (y2 : Int32), k4 y1 y2 = some r → GW z ad o S 4 [(0, .ref (ad a0)), (1, .int y1), (2, .int y2)] []) (hF : fX9_feastsToday_s30 k4 a0 y1 y2  S = some r) : GW z ad o S 30 [(0, .ref (ad a0)), (1, .int y1), (2, .int y2)] [] := by
  unfold fX9_feastsToday_s30 at hF
  refine g_iinc (v := (y2 + (1 : Int32))) X dX9_feastsToday_30 2 rfl rfl (by decide) (lv' := [(2, .int (y2 + (1 : Int32))), (0, .ref (ad a0)), (1, .int y1)]) rfl ?_
  refine g_goto (tgt := 4) X dX9_feastsToday_33 (by decide) ?_
  exact g_perm [1, 2, 0] rfl (hk4 y1 (y2 + (1 : Int32)) hF)
theorem wX9_feastsToday_s4 {z : Mx} {ad : Nat → Nat} {o : Option Value × St} (X : CxOk z ad RX9 cX9_feastsToday 3 (some .int) 5) (a0 : Nat) (h0 : KT a0 = 9) (y1 : Int32) (y2 : Int32)  (k4 : Int32 → Int32 → Option Int32)   (S : St) (r : Int32) (ho : o = (some (.int r), S)) (hk4 : ∀ (y1 : Int32) (y2 : Int32), k4 y1 y2 = some r → GW z ad o S 4 [(0, .ref (ad a0)), (1, .int y1), (2, .int y2)] []) (hF : fX9_feastsToday_s4 k4 a0 y1 y2  S = some r) : GW z ad o S 4 [(0, .ref (ad a0)), (1, .int y1), (2, .int y2)] [] := by
  unfold fX9_feastsToday_s4 at hF
  refine g_iload_n X dX9_feastsToday_4 2 rfl rfl ?_
  refine g_aload_n X dX9_feastsToday_5 0 rfl rfl ?_
  refine g_getR (f := 1) X dX9_feastsToday_6 flX9_12 rfl rfl h0 ?_
  refine g_getI X dX9_feastsToday_9 flX9_95 rfl (on_9_0 h0) ?_
  refine g_icmp_ge (tgt := 36) X dX9_feastsToday_12 (by decide) (fun c_1 => ?_) (fun c_1 => ?_)
  · rw [if_pos c_1] at hF
    refine g_iload_n X dX9_feastsToday_36 1 rfl rfl ?_
    have hF := Option.some.inj hF
    subst hF
    exact g_iret X dX9_feastsToday_37 ho
  · rw [if_neg c_1] at hF
    refine g_aload_n X dX9_feastsToday_15 0 rfl rfl ?_
    refine g_iload_n X dX9_feastsToday_16 2 rfl rfl ?_
    refine g_iconst (v := 0) X dX9_feastsToday_17 (by decide) ?_
    obtain ⟨r_2, q_3, hF⟩ := obind hF
    refine g_callVi (As := [.int y2, .int (0 : Int32)]) X dX9_feastsToday_18 mlX9_98 (fun l D cyy => tX9_fallsOn (cx_inj X) l D cyy a0 y2 (0 : Int32) h0 S r_2 q_3) h0 (by decide) rfl rfl (Nat.le_of_ble_eq_true rfl) ?_
    refine g_if_eq (tgt := 30) X dX9_feastsToday_21 (by decide) (fun c_4 => ?_) (fun c_4 => ?_)
    · rw [if_pos c_4] at hF
      exact (wX9_feastsToday_s30 X a0 h0 y1 y2 k4 S r ho hk4 hF)
    · rw [if_neg c_4] at hF
      refine g_iload_n X dX9_feastsToday_24 1 rfl rfl ?_
      refine g_iconst (v := 1) X dX9_feastsToday_25 (by decide) ?_
      refine g_iload_n X dX9_feastsToday_26 2 rfl rfl ?_
      refine g_ishl X dX9_feastsToday_27 ?_
      refine g_ior X dX9_feastsToday_28 ?_
      refine g_istore_n X dX9_feastsToday_29 rfl (by decide) (lv' := [(1, .int (y1 ||| ((1 : Int32) <<< (y2 &&& 31)))), (0, .ref (ad a0)), (2, .int y2)]) rfl ?_
      exact g_perm [1, 0, 2] rfl (wX9_feastsToday_s30 X a0 h0 (y1 ||| ((1 : Int32) <<< (y2 &&& 31))) y2 k4 S r ho hk4 hF)
theorem wX9_feastsToday_h4 {z : Mx} {ad : Nat → Nat} {o : Option Value × St} (X : CxOk z ad RX9 cX9_feastsToday 3 (some .int) 5) (a0 : Nat) (h0 : KT a0 = 9)  (S : St) (r : Int32) (ho : o = (some (.int r), S)) : ∀ (n : Nat) (y1 : Int32) (y2 : Int32), fX9_feastsToday_h4 a0 n y1 y2 S = some r → GW z ad o S 4 [(0, .ref (ad a0)), (1, .int y1), (2, .int y2)] [] := by
  intro n
  induction n with
  | zero => intro y1 y2  hF; cases hF
  | succ n ih => intro y1 y2  hF; exact wX9_feastsToday_s4 X a0 h0 y1 y2 (fun y1 y2 => fX9_feastsToday_h4 a0 n y1 y2 S)  S r ho (fun y1 y2 hF => ih y1 y2  hF) hF
theorem wX9_feastsToday {z : Mx} {ad : Nat → Nat} {o : Option Value × St} (X : CxOk z ad RX9 cX9_feastsToday 3 (some .int) 5) (a0 : Nat) (h0 : KT a0 = 9) (S : St) (r : Int32) (ho : o = (some (.int r), S)) (hF : fX9_feastsToday a0 S = some r) : GW z ad o S 0 [(0, .ref (ad a0))] [] := by
  unfold fX9_feastsToday at hF
  refine g_iconst (v := 0) X dX9_feastsToday_0 (by decide) ?_
  refine g_istore_n X dX9_feastsToday_1 rfl (by decide) (lv' := [(1, .int (0 : Int32)), (0, .ref (ad a0))]) rfl ?_
  refine g_iconst (v := 0) X dX9_feastsToday_2 (by decide) ?_
  refine g_istore_n X dX9_feastsToday_3 rfl (by decide) (lv' := [(2, .int (0 : Int32)), (1, .int (0 : Int32)), (0, .ref (ad a0))]) rfl ?_
  exact g_perm [2, 1, 0] rfl (wX9_feastsToday_h4 X a0 h0 S r ho NN (0 : Int32) (0 : Int32) hF)
theorem tX9_feastsToday {ad : Nat → Nat} (hI : Inj ad) (l : Launch) (D : va_G) (cyy : Nat → ClassId) (a0 : Nat) (h0 : KT a0 = 9) (S : St) (r : Int32) (hF : fX9_feastsToday a0 S = some r) : OkM l yX9_feastsToday cX9_feastsToday 3 (some .int) 5 ad D cyy [.ref (ad a0)] S (some (.int r), S) := okM_of hI (by decide) (inr_28 _ (List.mem_of_getElem? (i := 14) rfl)) (by show _ ≤ 3; exact Nat.le_of_ble_eq_true rfl) (fun z X => wX9_feastsToday X a0 h0 S r rfl hF)
def fX9_firstWeekdays_s46 (k4 : Int32 → Int32 → Option Int32) (a0 : Nat) (y1 : Int32) (y2 : Int32)  (S : St) : Option Int32 :=
  k4 y1 (y2 + (1 : Int32))
def fX9_firstWeekdays_s4 (k4 : Int32 → Int32 → Option Int32) (a0 : Nat) (y1 : Int32) (y2 : Int32)  (S : St) : Option Int32 :=
  if (gI S 8 2 (a0 + 1)) ≤ y2 then (some y1) else
  (if (y2 < 0 ∨ 5 ≤ y2.toNatClampNeg) then none else
  if (y2 < 0 ∨ 5 ≤ y2.toNatClampNeg) then none else
  if (gI S 4 4 (((a0 + 1) + 1) + 2 + y2.toNatClampNeg)) = 0 then none else
  if ((gA S 15 ((a0 + 15) + 1) y2.toNatClampNeg) - (gA S 15 ((a0 + 15) + 1) y2.toNatClampNeg) / (gI S 4 4 (((a0 + 1) + 1) + 2 + y2.toNatClampNeg)) * (gI S 4 4 (((a0 + 1) + 1) + 2 + y2.toNatClampNeg))) = 0 then (fX9_firstWeekdays_s46 k4 a0 (y1 ||| ((1 : Int32) <<< (y2 &&& 31))) y2 S) else
  (fX9_firstWeekdays_s46 k4 a0 y1 y2 S))
def fX9_firstWeekdays_h4 (a0 : Nat) : Nat → Int32 → Int32 → St → Option Int32
  | 0, _, _, _ => none
  | n + 1, y1, y2, S => fX9_firstWeekdays_s4 (fun y1 y2 => fX9_firstWeekdays_h4 a0 n y1 y2 S) a0 y1 y2 S
def fX9_firstWeekdays (a0 : Nat) (S : St) : Option Int32 :=
  fX9_firstWeekdays_h4 a0 NN (0 : Int32) (0 : Int32) S
theorem wX9_firstWeekdays_s46 {z : Mx} {ad : Nat → Nat} {o : Option Value × St} (X : CxOk z ad RX9 cX9_firstWeekdays 3 (some .int) 1) (a0 : Nat) (h0 : KT a0 = 9) (y1 : Int32) (y2 : Int32)  (k4 : Int32 → Int32 → Option Int32)   (S : St) (r : Int32) (ho : o = (some (.int r), S)) (hk4 : ∀ (y1 : Int32) (y2 : Int32), k4 y1 y2 = some r → GW z ad o S 4 [(0, .ref (ad a0)), (1, .int y1), (2, .int y2)] []) (hF : fX9_firstWeekdays_s46 k4 a0 y1 y2  S = some r) : GW z ad o S 46 [(0, .ref (ad a0)), (1, .int y1), (2, .int y2)] [] := by
  unfold fX9_firstWeekdays_s46 at hF
  refine g_iinc (v := (y2 + (1 : Int32))) X dX9_firstWeekdays_46 2 rfl rfl (by decide) (lv' := [(2, .int (y2 + (1 : Int32))), (0, .ref (ad a0)), (1, .int y1)]) rfl ?_
  refine g_goto (tgt := 4) X dX9_firstWeekdays_49 (by decide) ?_
  exact g_perm [1, 2, 0] rfl (hk4 y1 (y2 + (1 : Int32)) hF)
theorem wX9_firstWeekdays_s4 {z : Mx} {ad : Nat → Nat} {o : Option Value × St} (X : CxOk z ad RX9 cX9_firstWeekdays 3 (some .int) 1) (a0 : Nat) (h0 : KT a0 = 9) (y1 : Int32) (y2 : Int32)  (k4 : Int32 → Int32 → Option Int32)   (S : St) (r : Int32) (ho : o = (some (.int r), S)) (hk4 : ∀ (y1 : Int32) (y2 : Int32), k4 y1 y2 = some r → GW z ad o S 4 [(0, .ref (ad a0)), (1, .int y1), (2, .int y2)] []) (hF : fX9_firstWeekdays_s4 k4 a0 y1 y2  S = some r) : GW z ad o S 4 [(0, .ref (ad a0)), (1, .int y1), (2, .int y2)] [] := by
  unfold fX9_firstWeekdays_s4 at hF
  refine g_iload_n X dX9_firstWeekdays_4 2 rfl rfl ?_
  refine g_aload_n X dX9_firstWeekdays_5 0 rfl rfl ?_
  refine g_getR (f := 1) X dX9_firstWeekdays_6 flX9_12 rfl rfl h0 ?_
  refine g_getI X dX9_firstWeekdays_9 flX9_102 rfl (on_9_0 h0) ?_
  refine g_icmp_ge (tgt := 52) X dX9_firstWeekdays_12 (by decide) (fun c_1 => ?_) (fun c_1 => ?_)
  · rw [if_pos c_1] at hF
    refine g_iload_n X dX9_firstWeekdays_52 1 rfl rfl ?_
    have hF := Option.some.inj hF
    subst hF
    exact g_iret X dX9_firstWeekdays_53 ho
  · rw [if_neg c_1] at hF
    refine g_aload_n X dX9_firstWeekdays_15 0 rfl rfl ?_
    refine g_getR (f := 15) X dX9_firstWeekdays_16 flX9_21 rfl rfl h0 ?_
    refine g_getR (f := 1) X dX9_firstWeekdays_19 flX9_84 rfl rfl (on_9_1 h0) ?_
    refine g_iload_n X dX9_firstWeekdays_22 2 rfl rfl ?_
    obtain ⟨e_2, hF⟩ := oguard hF
    refine g_iald X dX9_firstWeekdays_23 kd_15 (on_2_3 (on_9_1 h0)) e_2 ?_
    refine g_aload_n X dX9_firstWeekdays_24 0 rfl rfl ?_
    refine g_getR (f := 1) X dX9_firstWeekdays_25 flX9_12 rfl rfl h0 ?_
    refine g_getR (f := 1) X dX9_firstWeekdays_28 flX9_48 rfl rfl (on_9_0 h0) ?_
    refine g_iload_n X dX9_firstWeekdays_31 2 rfl rfl ?_
    obtain ⟨e_3, hF⟩ := oguard hF
    refine g_aaldP X dX9_firstWeekdays_32 (on_8_0 (on_9_0 h0)) rfl e_3 ?_
    refine g_getI X dX9_firstWeekdays_33 flX9_105 rfl (on_p (on_8_0 (on_9_0 h0)) (inb e_3)) ?_
    obtain ⟨e_4, hF⟩ := oguard hF
    refine g_irem X dX9_firstWeekdays_36 e_4 ?_
    refine g_if_ne (tgt := 46) X dX9_firstWeekdays_37 (by decide) (fun c_5 => ?_) (fun c_5 => ?_)
    · rw [if_neg c_5] at hF
      exact (wX9_firstWeekdays_s46 X a0 h0 y1 y2 k4 S r ho hk4 hF)
    · rw [if_pos c_5] at hF
      refine g_iload_n X dX9_firstWeekdays_40 1 rfl rfl ?_
      refine g_iconst (v := 1) X dX9_firstWeekdays_41 (by decide) ?_
      refine g_iload_n X dX9_firstWeekdays_42 2 rfl rfl ?_
      refine g_ishl X dX9_firstWeekdays_43 ?_
      refine g_ior X dX9_firstWeekdays_44 ?_
      refine g_istore_n X dX9_firstWeekdays_45 rfl (by decide) (lv' := [(1, .int (y1 ||| ((1 : Int32) <<< (y2 &&& 31)))), (0, .ref (ad a0)), (2, .int y2)]) rfl ?_
      exact g_perm [1, 0, 2] rfl (wX9_firstWeekdays_s46 X a0 h0 (y1 ||| ((1 : Int32) <<< (y2 &&& 31))) y2 k4 S r ho hk4 hF)
theorem wX9_firstWeekdays_h4 {z : Mx} {ad : Nat → Nat} {o : Option Value × St} (X : CxOk z ad RX9 cX9_firstWeekdays 3 (some .int) 1) (a0 : Nat) (h0 : KT a0 = 9)  (S : St) (r : Int32) (ho : o = (some (.int r), S)) : ∀ (n : Nat) (y1 : Int32) (y2 : Int32), fX9_firstWeekdays_h4 a0 n y1 y2 S = some r → GW z ad o S 4 [(0, .ref (ad a0)), (1, .int y1), (2, .int y2)] [] := by
  intro n
  induction n with
  | zero => intro y1 y2  hF; cases hF
  | succ n ih => intro y1 y2  hF; exact wX9_firstWeekdays_s4 X a0 h0 y1 y2 (fun y1 y2 => fX9_firstWeekdays_h4 a0 n y1 y2 S)  S r ho (fun y1 y2 hF => ih y1 y2  hF) hF
theorem wX9_firstWeekdays {z : Mx} {ad : Nat → Nat} {o : Option Value × St} (X : CxOk z ad RX9 cX9_firstWeekdays 3 (some .int) 1) (a0 : Nat) (h0 : KT a0 = 9) (S : St) (r : Int32) (ho : o = (some (.int r), S)) (hF : fX9_firstWeekdays a0 S = some r) : GW z ad o S 0 [(0, .ref (ad a0))] [] := by
  unfold fX9_firstWeekdays at hF
  refine g_iconst (v := 0) X dX9_firstWeekdays_0 (by decide) ?_
  refine g_istore_n X dX9_firstWeekdays_1 rfl (by decide) (lv' := [(1, .int (0 : Int32)), (0, .ref (ad a0))]) rfl ?_
  refine g_iconst (v := 0) X dX9_firstWeekdays_2 (by decide) ?_
  refine g_istore_n X dX9_firstWeekdays_3 rfl (by decide) (lv' := [(2, .int (0 : Int32)), (1, .int (0 : Int32)), (0, .ref (ad a0))]) rfl ?_
  exact g_perm [2, 1, 0] rfl (wX9_firstWeekdays_h4 X a0 h0 S r ho NN (0 : Int32) (0 : Int32) hF)
theorem tX9_firstWeekdays {ad : Nat → Nat} (hI : Inj ad) (l : Launch) (D : va_G) (cyy : Nat → ClassId) (a0 : Nat) (h0 : KT a0 = 9) (S : St) (r : Int32) (hF : fX9_firstWeekdays a0 S = some r) : OkM l yX9_firstWeekdays cX9_firstWeekdays 3 (some .int) 1 ad D cyy [.ref (ad a0)] S (some (.int r), S) := okM_of hI (by decide) (inr_28 _ (List.mem_of_getElem? (i := 20) rfl)) (by show _ ≤ 3; exact Nat.le_of_ble_eq_true rfl) (fun z X => wX9_firstWeekdays X a0 h0 S r rfl hF)
def fX9_betweenToday_s45 (k4 : Int32 → Int32 → Option Int32) (a0 : Nat) (y1 : Int32) (y2 : Int32)  (S : St) : Option Int32 :=
  k4 y1 (y2 + (1 : Int32))
def fX9_betweenToday_s4 (k4 : Int32 → Int32 → Option Int32) (a0 : Nat) (y1 : Int32) (y2 : Int32)  (S : St) : Option Int32 :=
  if (gI S 8 2 (a0 + 1)) ≤ y2 then (some y1) else
  (if (y2 < 0 ∨ 5 ≤ y2.toNatClampNeg) then none else
  if (y2 < 0 ∨ 5 ≤ y2.toNatClampNeg) then none else
  (fX4_isBetween (((a0 + 1) + 1) + 2 + y2.toNatClampNeg) (gA S 15 ((a0 + 15) + 1) y2.toNatClampNeg) S).bind fun r_4 =>
  if r_4 = 0 then (fX9_betweenToday_s45 k4 a0 y1 y2 S) else
  (fX9_betweenToday_s45 k4 a0 (y1 ||| ((1 : Int32) <<< (y2 &&& 31))) y2 S))
def fX9_betweenToday_h4 (a0 : Nat) : Nat → Int32 → Int32 → St → Option Int32
  | 0, _, _, _ => none
  | n + 1, y1, y2, S => fX9_betweenToday_s4 (fun y1 y2 => fX9_betweenToday_h4 a0 n y1 y2 S) a0 y1 y2 S
def fX9_betweenToday (a0 : Nat) (S : St) : Option Int32 :=
  fX9_betweenToday_h4 a0 NN (0 : Int32) (0 : Int32) S
theorem wX9_betweenToday_s45 {z : Mx} {ad : Nat → Nat} {o : Option Value × St} (X : CxOk z ad RX9 cX9_betweenToday 3 (some .int) 3) (a0 : Nat) (h0 : KT a0 = 9) (y1 : Int32) (y2 : Int32)  (k4 : Int32 → Int32 → Option Int32)   (S : St) (r : Int32) (ho : o = (some (.int r), S)) (hk4 : ∀ (y1 : Int32) (y2 : Int32), k4 y1 y2 = some r → GW z ad o S 4 [(0, .ref (ad a0)), (1, .int y1), (2, .int y2)] []) (hF : fX9_betweenToday_s45 k4 a0 y1 y2  S = some r) : GW z ad o S 45 [(0, .ref (ad a0)), (1, .int y1), (2, .int y2)] [] := by
  unfold fX9_betweenToday_s45 at hF
  refine g_iinc (v := (y2 + (1 : Int32))) X dX9_betweenToday_45 2 rfl rfl (by decide) (lv' := [(2, .int (y2 + (1 : Int32))), (0, .ref (ad a0)), (1, .int y1)]) rfl ?_
  refine g_goto (tgt := 4) X dX9_betweenToday_48 (by decide) ?_
  exact g_perm [1, 2, 0] rfl (hk4 y1 (y2 + (1 : Int32)) hF)
theorem wX9_betweenToday_s4 {z : Mx} {ad : Nat → Nat} {o : Option Value × St} (X : CxOk z ad RX9 cX9_betweenToday 3 (some .int) 3) (a0 : Nat) (h0 : KT a0 = 9) (y1 : Int32) (y2 : Int32)  (k4 : Int32 → Int32 → Option Int32)   (S : St) (r : Int32) (ho : o = (some (.int r), S)) (hk4 : ∀ (y1 : Int32) (y2 : Int32), k4 y1 y2 = some r → GW z ad o S 4 [(0, .ref (ad a0)), (1, .int y1), (2, .int y2)] []) (hF : fX9_betweenToday_s4 k4 a0 y1 y2  S = some r) : GW z ad o S 4 [(0, .ref (ad a0)), (1, .int y1), (2, .int y2)] [] := by
  unfold fX9_betweenToday_s4 at hF
  refine g_iload_n X dX9_betweenToday_4 2 rfl rfl ?_
  refine g_aload_n X dX9_betweenToday_5 0 rfl rfl ?_
  refine g_getR (f := 1) X dX9_betweenToday_6 flX9_12 rfl rfl h0 ?_
  refine g_getI X dX9_betweenToday_9 flX9_102 rfl (on_9_0 h0) ?_
  refine g_icmp_ge (tgt := 51) X dX9_betweenToday_12 (by decide) (fun c_1 => ?_) (fun c_1 => ?_)
  · rw [if_pos c_1] at hF
    refine g_iload_n X dX9_betweenToday_51 1 rfl rfl ?_
    have hF := Option.some.inj hF
    subst hF
    exact g_iret X dX9_betweenToday_52 ho
  · rw [if_neg c_1] at hF
    refine g_aload_n X dX9_betweenToday_15 0 rfl rfl ?_
    refine g_getR (f := 1) X dX9_betweenToday_16 flX9_12 rfl rfl h0 ?_
    refine g_getR (f := 1) X dX9_betweenToday_19 flX9_48 rfl rfl (on_9_0 h0) ?_
    refine g_iload_n X dX9_betweenToday_22 2 rfl rfl ?_
    obtain ⟨e_2, hF⟩ := oguard hF
    refine g_aaldP X dX9_betweenToday_23 (on_8_0 (on_9_0 h0)) rfl e_2 ?_
    refine g_aload_n X dX9_betweenToday_24 0 rfl rfl ?_
    refine g_getR (f := 15) X dX9_betweenToday_25 flX9_21 rfl rfl h0 ?_
    refine g_getR (f := 1) X dX9_betweenToday_28 flX9_84 rfl rfl (on_9_1 h0) ?_
    refine g_iload_n X dX9_betweenToday_31 2 rfl rfl ?_
    obtain ⟨e_3, hF⟩ := oguard hF
    refine g_iald X dX9_betweenToday_32 kd_15 (on_2_3 (on_9_1 h0)) e_3 ?_
    obtain ⟨r_4, q_5, hF⟩ := obind hF
    refine g_callVi (As := [.int (gA S 15 ((a0 + 15) + 1) y2.toNatClampNeg)]) X dX9_betweenToday_33 mlX9_108 (fun l D cyy => tX4_isBetween (cx_inj X) l D cyy (((a0 + 1) + 1) + 2 + y2.toNatClampNeg) (gA S 15 ((a0 + 15) + 1) y2.toNatClampNeg) (on_p (on_8_0 (on_9_0 h0)) (inb e_2)) S r_4 q_5) (on_p (on_8_0 (on_9_0 h0)) (inb e_2)) (by decide) rfl rfl (Nat.le_of_ble_eq_true rfl) ?_
    refine g_if_eq (tgt := 45) X dX9_betweenToday_36 (by decide) (fun c_6 => ?_) (fun c_6 => ?_)
    · rw [if_pos c_6] at hF
      exact (wX9_betweenToday_s45 X a0 h0 y1 y2 k4 S r ho hk4 hF)
    · rw [if_neg c_6] at hF
      refine g_iload_n X dX9_betweenToday_39 1 rfl rfl ?_
      refine g_iconst (v := 1) X dX9_betweenToday_40 (by decide) ?_
      refine g_iload_n X dX9_betweenToday_41 2 rfl rfl ?_
      refine g_ishl X dX9_betweenToday_42 ?_
      refine g_ior X dX9_betweenToday_43 ?_
      refine g_istore_n X dX9_betweenToday_44 rfl (by decide) (lv' := [(1, .int (y1 ||| ((1 : Int32) <<< (y2 &&& 31)))), (0, .ref (ad a0)), (2, .int y2)]) rfl ?_
      exact g_perm [1, 0, 2] rfl (wX9_betweenToday_s45 X a0 h0 (y1 ||| ((1 : Int32) <<< (y2 &&& 31))) y2 k4 S r ho hk4 hF)
theorem wX9_betweenToday_h4 {z : Mx} {ad : Nat → Nat} {o : Option Value × St} (X : CxOk z ad RX9 cX9_betweenToday 3 (some .int) 3) (a0 : Nat) (h0 : KT a0 = 9)  (S : St) (r : Int32) (ho : o = (some (.int r), S)) : ∀ (n : Nat) (y1 : Int32) (y2 : Int32), fX9_betweenToday_h4 a0 n y1 y2 S = some r → GW z ad o S 4 [(0, .ref (ad a0)), (1, .int y1), (2, .int y2)] [] := by
  intro n
  induction n with
  | zero => intro y1 y2  hF; cases hF
  | succ n ih => intro y1 y2  hF; exact wX9_betweenToday_s4 X a0 h0 y1 y2 (fun y1 y2 => fX9_betweenToday_h4 a0 n y1 y2 S)  S r ho (fun y1 y2 hF => ih y1 y2  hF) hF
theorem wX9_betweenToday {z : Mx} {ad : Nat → Nat} {o : Option Value × St} (X : CxOk z ad RX9 cX9_betweenToday 3 (some .int) 3) (a0 : Nat) (h0 : KT a0 = 9) (S : St) (r : Int32) (ho : o = (some (.int r), S)) (hF : fX9_betweenToday a0 S = some r) : GW z ad o S 0 [(0, .ref (ad a0))] [] := by
  unfold fX9_betweenToday at hF
  refine g_iconst (v := 0) X dX9_betweenToday_0 (by decide) ?_
  refine g_istore_n X dX9_betweenToday_1 rfl (by decide) (lv' := [(1, .int (0 : Int32)), (0, .ref (ad a0))]) rfl ?_
  refine g_iconst (v := 0) X dX9_betweenToday_2 (by decide) ?_
  refine g_istore_n X dX9_betweenToday_3 rfl (by decide) (lv' := [(2, .int (0 : Int32)), (1, .int (0 : Int32)), (0, .ref (ad a0))]) rfl ?_
  exact g_perm [2, 1, 0] rfl (wX9_betweenToday_h4 X a0 h0 S r ho NN (0 : Int32) (0 : Int32) hF)
theorem tX9_betweenToday {ad : Nat → Nat} (hI : Inj ad) (l : Launch) (D : va_G) (cyy : Nat → ClassId) (a0 : Nat) (h0 : KT a0 = 9) (S : St) (r : Int32) (hF : fX9_betweenToday a0 S = some r) : OkM l yX9_betweenToday cX9_betweenToday 3 (some .int) 3 ad D cyy [.ref (ad a0)] S (some (.int r), S) := okM_of hI (by decide) (inr_29 _ (List.mem_of_getElem? (i := 2) rfl)) (by show _ ≤ 3; exact Nat.le_of_ble_eq_true rfl) (fun z X => wX9_betweenToday X a0 h0 S r rfl hF)
