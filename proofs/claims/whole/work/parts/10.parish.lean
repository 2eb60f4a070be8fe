theorem dX4_tellName_0 : decode cX4_tellName 0 = .ok (.aload_n 0, 1) := by decide +kernel
theorem dX4_tellName_1 : decode cX4_tellName 1 = .ok (.lload_n 1, 1) := by decide +kernel
theorem dX4_tellName_2 : decode cX4_tellName 2 = .ok (.putfield 24, 3) := by decide +kernel
theorem dX4_tellName_5 : decode cX4_tellName 5 = .ok (.aload_n 0, 1) := by decide +kernel
theorem dX4_tellName_6 : decode cX4_tellName 6 = .ok (.iload_n 3, 1) := by decide +kernel
theorem dX4_tellName_7 : decode cX4_tellName 7 = .ok (.putfield 28, 3) := by decide +kernel
theorem dX4_tellName_10 : decode cX4_tellName 10 = .ok (.aload_n 0, 1) := by decide +kernel
theorem dX4_tellName_11 : decode cX4_tellName 11 = .ok (.iconst 0, 1) := by decide +kernel
theorem dX4_tellName_12 : decode cX4_tellName 12 = .ok (.putfield 31, 3) := by decide +kernel
theorem dX4_tellName_15 : decode cX4_tellName 15 = .ok (.aload_n 0, 1) := by decide +kernel
theorem dX4_tellName_16 : decode cX4_tellName 16 = .ok (.iconst 1, 1) := by decide +kernel
theorem dX4_tellName_17 : decode cX4_tellName 17 = .ok (.putfield 21, 3) := by decide +kernel
theorem dX4_tellName_20 : decode cX4_tellName 20 = .ok (.return_, 1) := by decide +kernel
theorem dX4_tellYear_0 : decode cX4_tellYear 0 = .ok (.aload_n 0, 1) := by decide +kernel
theorem dX4_tellYear_1 : decode cX4_tellYear 1 = .ok (.iconst 1, 1) := by decide +kernel
theorem dX4_tellYear_2 : decode cX4_tellYear 2 = .ok (.iload_n 1, 1) := by decide +kernel
theorem dX4_tellYear_3 : decode cX4_tellYear 3 = .ok (.invokestatic 34, 3) := by decide +kernel
theorem dX4_tellYear_6 : decode cX4_tellYear 6 = .ok (.putfield 9, 3) := by decide +kernel
theorem dX4_tellYear_9 : decode cX4_tellYear 9 = .ok (.aload_n 0, 1) := by decide +kernel
theorem dX4_tellYear_10 : decode cX4_tellYear 10 = .ok (.iconst 1, 1) := by decide +kernel
theorem dX4_tellYear_11 : decode cX4_tellYear 11 = .ok (.iload_n 2, 1) := by decide +kernel
theorem dX4_tellYear_12 : decode cX4_tellYear 12 = .ok (.invokestatic 34, 3) := by decide +kernel
theorem dX4_tellYear_15 : decode cX4_tellYear 15 = .ok (.putfield 15, 3) := by decide +kernel
theorem dX4_tellYear_18 : decode cX4_tellYear 18 = .ok (.aload_n 0, 1) := by decide +kernel
theorem dX4_tellYear_19 : decode cX4_tellYear 19 = .ok (.iconst 1, 1) := by decide +kernel
theorem dX4_tellYear_20 : decode cX4_tellYear 20 = .ok (.iload_n 3, 1) := by decide +kernel
theorem dX4_tellYear_21 : decode cX4_tellYear 21 = .ok (.invokestatic 34, 3) := by decide +kernel
theorem dX4_tellYear_24 : decode cX4_tellYear 24 = .ok (.putfield 18, 3) := by decide +kernel
theorem dX4_tellYear_27 : decode cX4_tellYear 27 = .ok (.return_, 1) := by decide +kernel
theorem dX4_tellLeap_0 : decode cX4_tellLeap 0 = .ok (.aload_n 0, 1) := by decide +kernel
theorem dX4_tellLeap_1 : decode cX4_tellLeap 1 = .ok (.iconst 0, 1) := by decide +kernel
theorem dX4_tellLeap_2 : decode cX4_tellLeap 2 = .ok (.iload_n 1, 1) := by decide +kernel
theorem dX4_tellLeap_3 : decode cX4_tellLeap 3 = .ok (.invokestatic 34, 3) := by decide +kernel
theorem dX4_tellLeap_6 : decode cX4_tellLeap 6 = .ok (.putfield 31, 3) := by decide +kernel
theorem dX4_tellLeap_9 : decode cX4_tellLeap 9 = .ok (.aload_n 0, 1) := by decide +kernel
theorem dX4_tellLeap_10 : decode cX4_tellLeap 10 = .ok (.iconst 1, 1) := by decide +kernel
theorem dX4_tellLeap_11 : decode cX4_tellLeap 11 = .ok (.iload_n 2, 1) := by decide +kernel
theorem dX4_tellLeap_12 : decode cX4_tellLeap 12 = .ok (.invokestatic 34, 3) := by decide +kernel
theorem dX4_tellLeap_15 : decode cX4_tellLeap 15 = .ok (.putfield 21, 3) := by decide +kernel
theorem dX4_tellLeap_18 : decode cX4_tellLeap 18 = .ok (.return_, 1) := by decide +kernel
theorem dX4_copyFrom_0 : decode cX4_copyFrom 0 = .ok (.aload_n 0, 1) := by decide +kernel
theorem dX4_copyFrom_1 : decode cX4_copyFrom 1 = .ok (.aload_n 1, 1) := by decide +kernel
theorem dX4_copyFrom_2 : decode cX4_copyFrom 2 = .ok (.getfield 24, 3) := by decide +kernel
theorem dX4_copyFrom_5 : decode cX4_copyFrom 5 = .ok (.putfield 24, 3) := by decide +kernel
theorem dX4_copyFrom_8 : decode cX4_copyFrom 8 = .ok (.aload_n 0, 1) := by decide +kernel
theorem dX4_copyFrom_9 : decode cX4_copyFrom 9 = .ok (.aload_n 1, 1) := by decide +kernel
theorem dX4_copyFrom_10 : decode cX4_copyFrom 10 = .ok (.getfield 9, 3) := by decide +kernel
theorem dX4_copyFrom_13 : decode cX4_copyFrom 13 = .ok (.putfield 9, 3) := by decide +kernel
theorem dX4_copyFrom_16 : decode cX4_copyFrom 16 = .ok (.aload_n 0, 1) := by decide +kernel
theorem dX4_copyFrom_17 : decode cX4_copyFrom 17 = .ok (.aload_n 1, 1) := by decide +kernel
theorem dX4_copyFrom_18 : decode cX4_copyFrom 18 = .ok (.getfield 15, 3) := by decide +kernel
theorem dX4_copyFrom_21 : decode cX4_copyFrom 21 = .ok (.putfield 15, 3) := by decide +kernel
theorem dX4_copyFrom_24 : decode cX4_copyFrom 24 = .ok (.aload_n 0, 1) := by decide +kernel
theorem dX4_copyFrom_25 : decode cX4_copyFrom 25 = .ok (.aload_n 1, 1) := by decide +kernel
theorem dX4_copyFrom_26 : decode cX4_copyFrom 26 = .ok (.getfield 18, 3) := by decide +kernel
theorem dX4_copyFrom_29 : decode cX4_copyFrom 29 = .ok (.putfield 18, 3) := by decide +kernel
theorem dX4_copyFrom_32 : decode cX4_copyFrom 32 = .ok (.aload_n 0, 1) := by decide +kernel
theorem dX4_copyFrom_33 : decode cX4_copyFrom 33 = .ok (.aload_n 1, 1) := by decide +kernel
theorem dX4_copyFrom_34 : decode cX4_copyFrom 34 = .ok (.getfield 31, 3) := by decide +kernel
theorem dX4_copyFrom_37 : decode cX4_copyFrom 37 = .ok (.putfield 31, 3) := by decide +kernel
theorem dX4_copyFrom_40 : decode cX4_copyFrom 40 = .ok (.aload_n 0, 1) := by decide +kernel
theorem dX4_copyFrom_41 : decode cX4_copyFrom 41 = .ok (.aload_n 1, 1) := by decide +kernel
theorem dX4_copyFrom_42 : decode cX4_copyFrom 42 = .ok (.getfield 21, 3) := by decide +kernel
theorem dX4_copyFrom_45 : decode cX4_copyFrom 45 = .ok (.putfield 21, 3) := by decide +kernel
theorem dX4_copyFrom_48 : decode cX4_copyFrom 48 = .ok (.aload_n 0, 1) := by decide +kernel
theorem dX4_copyFrom_49 : decode cX4_copyFrom 49 = .ok (.aload_n 1, 1) := by decide +kernel
theorem dX4_copyFrom_50 : decode cX4_copyFrom 50 = .ok (.getfield 28, 3) := by decide +kernel
theorem dX4_copyFrom_53 : decode cX4_copyFrom 53 = .ok (.putfield 28, 3) := by decide +kernel
theorem dX4_copyFrom_56 : decode cX4_copyFrom 56 = .ok (.return_, 1) := by decide +kernel
theorem dX4_yearAt_0 : decode cX4_yearAt 0 = .ok (.aload_n 0, 1) := by decide +kernel
theorem dX4_yearAt_1 : decode cX4_yearAt 1 = .ok (.getfield 9, 3) := by decide +kernel
theorem dX4_yearAt_4 : decode cX4_yearAt 4 = .ok (.aload_n 0, 1) := by decide +kernel
theorem dX4_yearAt_5 : decode cX4_yearAt 5 = .ok (.getfield 15, 3) := by decide +kernel
theorem dX4_yearAt_8 : decode cX4_yearAt 8 = .ok (.imul, 1) := by decide +kernel
theorem dX4_yearAt_9 : decode cX4_yearAt 9 = .ok (.istore_n 2, 1) := by decide +kernel
theorem dX4_yearAt_10 : decode cX4_yearAt 10 = .ok (.iload_n 2, 1) := by decide +kernel
theorem dX4_yearAt_11 : decode cX4_yearAt 11 = .ok (.aload_n 0, 1) := by decide +kernel
theorem dX4_yearAt_12 : decode cX4_yearAt 12 = .ok (.getfield 21, 3) := by decide +kernel
theorem dX4_yearAt_15 : decode cX4_yearAt 15 = .ok (.imul, 1) := by decide +kernel
theorem dX4_yearAt_16 : decode cX4_yearAt 16 = .ok (.aload_n 0, 1) := by decide +kernel
theorem dX4_yearAt_17 : decode cX4_yearAt 17 = .ok (.getfield 31, 3) := by decide +kernel
theorem dX4_yearAt_20 : decode cX4_yearAt 20 = .ok (.iadd, 1) := by decide +kernel
theorem dX4_yearAt_21 : decode cX4_yearAt 21 = .ok (.istore_n 3, 1) := by decide +kernel
theorem dX4_yearAt_22 : decode cX4_yearAt 22 = .ok (.iload_n 1, 1) := by decide +kernel
theorem dX4_yearAt_23 : decode cX4_yearAt 23 = .ok (.iload_n 3, 1) := by decide +kernel
theorem dX4_yearAt_24 : decode cX4_yearAt 24 = .ok (.irem, 1) := by decide +kernel
theorem dX4_yearAt_25 : decode cX4_yearAt 25 = .ok (.istore 4, 2) := by decide +kernel
theorem dX4_yearAt_27 : decode cX4_yearAt 27 = .ok (.iload_n 1, 1) := by decide +kernel
theorem dX4_yearAt_28 : decode cX4_yearAt 28 = .ok (.iload_n 3, 1) := by decide +kernel
theorem dX4_yearAt_29 : decode cX4_yearAt 29 = .ok (.idiv, 1) := by decide +kernel
theorem dX4_yearAt_30 : decode cX4_yearAt 30 = .ok (.aload_n 0, 1) := by decide +kernel
theorem dX4_yearAt_31 : decode cX4_yearAt 31 = .ok (.getfield 21, 3) := by decide +kernel
theorem dX4_yearAt_34 : decode cX4_yearAt 34 = .ok (.imul, 1) := by decide +kernel
theorem dX4_yearAt_35 : decode cX4_yearAt 35 = .ok (.istore 5, 2) := by decide +kernel
theorem dX4_yearAt_37 : decode cX4_yearAt 37 = .ok (.iload 4, 2) := by decide +kernel
theorem dX4_yearAt_39 : decode cX4_yearAt 39 = .ok (.iload_n 2, 1) := by decide +kernel
theorem dX4_yearAt_40 : decode cX4_yearAt 40 = .ok (.aload_n 0, 1) := by decide +kernel
theorem dX4_yearAt_41 : decode cX4_yearAt 41 = .ok (.getfield 31, 3) := by decide +kernel
theorem dX4_yearAt_44 : decode cX4_yearAt 44 = .ok (.iadd, 1) := by decide +kernel
theorem dX4_yearAt_45 : decode cX4_yearAt 45 = .ok (.if_icmp .ge 8, 3) := by decide +kernel
theorem dX4_yearAt_48 : decode cX4_yearAt 48 = .ok (.iload 5, 2) := by decide +kernel
theorem dX4_yearAt_50 : decode cX4_yearAt 50 = .ok (.goto 19, 3) := by decide +kernel
theorem dX4_yearAt_53 : decode cX4_yearAt 53 = .ok (.iload 5, 2) := by decide +kernel
theorem dX4_yearAt_55 : decode cX4_yearAt 55 = .ok (.iconst 1, 1) := by decide +kernel
theorem dX4_yearAt_56 : decode cX4_yearAt 56 = .ok (.iadd, 1) := by decide +kernel
theorem dX4_yearAt_57 : decode cX4_yearAt 57 = .ok (.iload 4, 2) := by decide +kernel
theorem dX4_yearAt_59 : decode cX4_yearAt 59 = .ok (.iload_n 2, 1) := by decide +kernel
theorem dX4_yearAt_60 : decode cX4_yearAt 60 = .ok (.isub, 1) := by decide +kernel
theorem dX4_yearAt_61 : decode cX4_yearAt 61 = .ok (.aload_n 0, 1) := by decide +kernel
theorem dX4_yearAt_62 : decode cX4_yearAt 62 = .ok (.getfield 31, 3) := by decide +kernel
theorem dX4_yearAt_65 : decode cX4_yearAt 65 = .ok (.isub, 1) := by decide +kernel
theorem dX4_yearAt_66 : decode cX4_yearAt 66 = .ok (.iload_n 2, 1) := by decide +kernel
theorem dX4_yearAt_67 : decode cX4_yearAt 67 = .ok (.idiv, 1) := by decide +kernel
theorem dX4_yearAt_68 : decode cX4_yearAt 68 = .ok (.iadd, 1) := by decide +kernel
theorem dX4_yearAt_69 : decode cX4_yearAt 69 = .ok (.ireturn, 1) := by decide +kernel
theorem dX4_dayInYear_0 : decode cX4_dayInYear 0 = .ok (.aload_n 0, 1) := by decide +kernel
theorem dX4_dayInYear_1 : decode cX4_dayInYear 1 = .ok (.getfield 9, 3) := by decide +kernel
theorem dX4_dayInYear_4 : decode cX4_dayInYear 4 = .ok (.aload_n 0, 1) := by decide +kernel
theorem dX4_dayInYear_5 : decode cX4_dayInYear 5 = .ok (.getfield 15, 3) := by decide +kernel
theorem dX4_dayInYear_8 : decode cX4_dayInYear 8 = .ok (.imul, 1) := by decide +kernel
theorem dX4_dayInYear_9 : decode cX4_dayInYear 9 = .ok (.istore_n 2, 1) := by decide +kernel
theorem dX4_dayInYear_10 : decode cX4_dayInYear 10 = .ok (.iload_n 1, 1) := by decide +kernel
theorem dX4_dayInYear_11 : decode cX4_dayInYear 11 = .ok (.iload_n 2, 1) := by decide +kernel
theorem dX4_dayInYear_12 : decode cX4_dayInYear 12 = .ok (.aload_n 0, 1) := by decide +kernel
theorem dX4_dayInYear_13 : decode cX4_dayInYear 13 = .ok (.getfield 21, 3) := by decide +kernel
theorem dX4_dayInYear_16 : decode cX4_dayInYear 16 = .ok (.imul, 1) := by decide +kernel
theorem dX4_dayInYear_17 : decode cX4_dayInYear 17 = .ok (.aload_n 0, 1) := by decide +kernel
theorem dX4_dayInYear_18 : decode cX4_dayInYear 18 = .ok (.getfield 31, 3) := by decide +kernel
theorem dX4_dayInYear_21 : decode cX4_dayInYear 21 = .ok (.iadd, 1) := by decide +kernel
theorem dX4_dayInYear_22 : decode cX4_dayInYear 22 = .ok (.irem, 1) := by decide +kernel
theorem dX4_dayInYear_23 : decode cX4_dayInYear 23 = .ok (.istore_n 3, 1) := by decide +kernel
theorem dX4_dayInYear_24 : decode cX4_dayInYear 24 = .ok (.iload_n 3, 1) := by decide +kernel
theorem dX4_dayInYear_25 : decode cX4_dayInYear 25 = .ok (.iload_n 2, 1) := by decide +kernel
theorem dX4_dayInYear_26 : decode cX4_dayInYear 26 = .ok (.aload_n 0, 1) := by decide +kernel
theorem dX4_dayInYear_27 : decode cX4_dayInYear 27 = .ok (.getfield 31, 3) := by decide +kernel
theorem dX4_dayInYear_30 : decode cX4_dayInYear 30 = .ok (.iadd, 1) := by decide +kernel
theorem dX4_dayInYear_31 : decode cX4_dayInYear 31 = .ok (.if_icmp .ge 7, 3) := by decide +kernel
theorem dX4_dayInYear_34 : decode cX4_dayInYear 34 = .ok (.iload_n 3, 1) := by decide +kernel
theorem dX4_dayInYear_35 : decode cX4_dayInYear 35 = .ok (.goto 13, 3) := by decide +kernel
theorem dX4_dayInYear_38 : decode cX4_dayInYear 38 = .ok (.iload_n 3, 1) := by decide +kernel
theorem dX4_dayInYear_39 : decode cX4_dayInYear 39 = .ok (.iload_n 2, 1) := by decide +kernel
theorem dX4_dayInYear_40 : decode cX4_dayInYear 40 = .ok (.isub, 1) := by decide +kernel
theorem dX4_dayInYear_41 : decode cX4_dayInYear 41 = .ok (.aload_n 0, 1) := by decide +kernel
theorem dX4_dayInYear_42 : decode cX4_dayInYear 42 = .ok (.getfield 31, 3) := by decide +kernel
theorem dX4_dayInYear_45 : decode cX4_dayInYear 45 = .ok (.isub, 1) := by decide +kernel
theorem dX4_dayInYear_46 : decode cX4_dayInYear 46 = .ok (.iload_n 2, 1) := by decide +kernel
theorem dX4_dayInYear_47 : decode cX4_dayInYear 47 = .ok (.irem, 1) := by decide +kernel
theorem dX4_dayInYear_48 : decode cX4_dayInYear 48 = .ok (.ireturn, 1) := by decide +kernel
theorem dX4_startOfYear_0 : decode cX4_startOfYear 0 = .ok (.iload_n 1, 1) := by decide +kernel
theorem dX4_startOfYear_1 : decode cX4_startOfYear 1 = .ok (.aload_n 0, 1) := by decide +kernel
theorem dX4_startOfYear_2 : decode cX4_startOfYear 2 = .ok (.getfield 9, 3) := by decide +kernel
theorem dX4_startOfYear_5 : decode cX4_startOfYear 5 = .ok (.imul, 1) := by decide +kernel
theorem dX4_startOfYear_6 : decode cX4_startOfYear 6 = .ok (.aload_n 0, 1) := by decide +kernel
theorem dX4_startOfYear_7 : decode cX4_startOfYear 7 = .ok (.getfield 15, 3) := by decide +kernel
theorem dX4_startOfYear_10 : decode cX4_startOfYear 10 = .ok (.imul, 1) := by decide +kernel
theorem dX4_startOfYear_11 : decode cX4_startOfYear 11 = .ok (.aload_n 0, 1) := by decide +kernel
theorem dX4_startOfYear_12 : decode cX4_startOfYear 12 = .ok (.getfield 31, 3) := by decide +kernel
theorem dX4_startOfYear_15 : decode cX4_startOfYear 15 = .ok (.aload_n 0, 1) := by decide +kernel
theorem dX4_startOfYear_16 : decode cX4_startOfYear 16 = .ok (.iload_n 1, 1) := by decide +kernel
theorem dX4_startOfYear_17 : decode cX4_startOfYear 17 = .ok (.invokevirtual 40, 3) := by decide +kernel
theorem dX4_startOfYear_20 : decode cX4_startOfYear 20 = .ok (.imul, 1) := by decide +kernel
theorem dX4_startOfYear_21 : decode cX4_startOfYear 21 = .ok (.iadd, 1) := by decide +kernel
theorem dX4_startOfYear_22 : decode cX4_startOfYear 22 = .ok (.ireturn, 1) := by decide +kernel
theorem dX4_longYearsAhead_0 : decode cX4_longYearsAhead 0 = .ok (.iload_n 1, 1) := by decide +kernel
theorem dX4_longYearsAhead_1 : decode cX4_longYearsAhead 1 = .ok (.aload_n 0, 1) := by decide +kernel
theorem dX4_longYearsAhead_2 : decode cX4_longYearsAhead 2 = .ok (.getfield 21, 3) := by decide +kernel
theorem dX4_longYearsAhead_5 : decode cX4_longYearsAhead 5 = .ok (.iadd, 1) := by decide +kernel
theorem dX4_longYearsAhead_6 : decode cX4_longYearsAhead 6 = .ok (.iconst 1, 1) := by decide +kernel
theorem dX4_longYearsAhead_7 : decode cX4_longYearsAhead 7 = .ok (.isub, 1) := by decide +kernel
theorem dX4_longYearsAhead_8 : decode cX4_longYearsAhead 8 = .ok (.aload_n 0, 1) := by decide +kernel
theorem dX4_longYearsAhead_9 : decode cX4_longYearsAhead 9 = .ok (.getfield 21, 3) := by decide +kernel
theorem dX4_longYearsAhead_12 : decode cX4_longYearsAhead 12 = .ok (.idiv, 1) := by decide +kernel
theorem dX4_longYearsAhead_13 : decode cX4_longYearsAhead 13 = .ok (.ireturn, 1) := by decide +kernel
theorem dX4_dateAt_0 : decode cX4_dateAt 0 = .ok (.aload_n 0, 1) := by decide +kernel
theorem dX4_dateAt_1 : decode cX4_dateAt 1 = .ok (.iload_n 1, 1) := by decide +kernel
theorem dX4_dateAt_2 : decode cX4_dateAt 2 = .ok (.invokevirtual 44, 3) := by decide +kernel
theorem dX4_dateAt_5 : decode cX4_dateAt 5 = .ok (.istore_n 2, 1) := by decide +kernel
theorem dX4_dateAt_6 : decode cX4_dateAt 6 = .ok (.aload_n 0, 1) := by decide +kernel
theorem dX4_dateAt_7 : decode cX4_dateAt 7 = .ok (.getfield 9, 3) := by decide +kernel
theorem dX4_dateAt_10 : decode cX4_dateAt 10 = .ok (.aload_n 0, 1) := by decide +kernel
theorem dX4_dateAt_11 : decode cX4_dateAt 11 = .ok (.getfield 15, 3) := by decide +kernel
theorem dX4_dateAt_14 : decode cX4_dateAt 14 = .ok (.imul, 1) := by decide +kernel
theorem dX4_dateAt_15 : decode cX4_dateAt 15 = .ok (.istore_n 3, 1) := by decide +kernel
theorem dX4_dateAt_16 : decode cX4_dateAt 16 = .ok (.iload_n 2, 1) := by decide +kernel
theorem dX4_dateAt_17 : decode cX4_dateAt 17 = .ok (.iload_n 3, 1) := by decide +kernel
theorem dX4_dateAt_18 : decode cX4_dateAt 18 = .ok (.if_icmp .ge 22, 3) := by decide +kernel
theorem dX4_dateAt_21 : decode cX4_dateAt 21 = .ok (.iload_n 2, 1) := by decide +kernel
theorem dX4_dateAt_22 : decode cX4_dateAt 22 = .ok (.aload_n 0, 1) := by decide +kernel
theorem dX4_dateAt_23 : decode cX4_dateAt 23 = .ok (.getfield 15, 3) := by decide +kernel
theorem dX4_dateAt_26 : decode cX4_dateAt 26 = .ok (.idiv, 1) := by decide +kernel
theorem dX4_dateAt_27 : decode cX4_dateAt 27 = .ok (.bipush 32, 2) := by decide +kernel
theorem dX4_dateAt_29 : decode cX4_dateAt 29 = .ok (.imul, 1) := by decide +kernel
theorem dX4_dateAt_30 : decode cX4_dateAt 30 = .ok (.iload_n 2, 1) := by decide +kernel
theorem dX4_dateAt_31 : decode cX4_dateAt 31 = .ok (.aload_n 0, 1) := by decide +kernel
theorem dX4_dateAt_32 : decode cX4_dateAt 32 = .ok (.getfield 15, 3) := by decide +kernel
theorem dX4_dateAt_35 : decode cX4_dateAt 35 = .ok (.irem, 1) := by decide +kernel
theorem dX4_dateAt_36 : decode cX4_dateAt 36 = .ok (.iadd, 1) := by decide +kernel
theorem dX4_dateAt_37 : decode cX4_dateAt 37 = .ok (.goto 14, 3) := by decide +kernel
theorem dX4_dateAt_40 : decode cX4_dateAt 40 = .ok (.aload_n 0, 1) := by decide +kernel
theorem dX4_dateAt_41 : decode cX4_dateAt 41 = .ok (.getfield 9, 3) := by decide +kernel
theorem dX4_dateAt_44 : decode cX4_dateAt 44 = .ok (.bipush 32, 2) := by decide +kernel
theorem dX4_dateAt_46 : decode cX4_dateAt 46 = .ok (.imul, 1) := by decide +kernel
theorem dX4_dateAt_47 : decode cX4_dateAt 47 = .ok (.iload_n 2, 1) := by decide +kernel
theorem dX4_dateAt_48 : decode cX4_dateAt 48 = .ok (.iadd, 1) := by decide +kernel
theorem dX4_dateAt_49 : decode cX4_dateAt 49 = .ok (.iload_n 3, 1) := by decide +kernel
theorem dX4_dateAt_50 : decode cX4_dateAt 50 = .ok (.isub, 1) := by decide +kernel
theorem dX4_dateAt_51 : decode cX4_dateAt 51 = .ok (.ireturn, 1) := by decide +kernel
theorem dX4_isBetween_0 : decode cX4_isBetween 0 = .ok (.aload_n 0, 1) := by decide +kernel
theorem dX4_isBetween_1 : decode cX4_isBetween 1 = .ok (.iload_n 1, 1) := by decide +kernel
theorem dX4_isBetween_2 : decode cX4_isBetween 2 = .ok (.invokevirtual 44, 3) := by decide +kernel
theorem dX4_isBetween_5 : decode cX4_isBetween 5 = .ok (.aload_n 0, 1) := by decide +kernel
theorem dX4_isBetween_6 : decode cX4_isBetween 6 = .ok (.getfield 9, 3) := by decide +kernel
theorem dX4_isBetween_9 : decode cX4_isBetween 9 = .ok (.aload_n 0, 1) := by decide +kernel
theorem dX4_isBetween_10 : decode cX4_isBetween 10 = .ok (.getfield 15, 3) := by decide +kernel
theorem dX4_isBetween_13 : decode cX4_isBetween 13 = .ok (.imul, 1) := by decide +kernel
theorem dX4_isBetween_14 : decode cX4_isBetween 14 = .ok (.if_icmp .lt 7, 3) := by decide +kernel
theorem dX4_isBetween_17 : decode cX4_isBetween 17 = .ok (.iconst 1, 1) := by decide +kernel
theorem dX4_isBetween_18 : decode cX4_isBetween 18 = .ok (.goto 4, 3) := by decide +kernel
theorem dX4_isBetween_21 : decode cX4_isBetween 21 = .ok (.iconst 0, 1) := by decide +kernel
theorem dX4_isBetween_22 : decode cX4_isBetween 22 = .ok (.ireturn, 1) := by decide +kernel
theorem dX4_called_0 : decode cX4_called 0 = .ok (.iload_n 2, 1) := by decide +kernel
theorem dX4_called_1 : decode cX4_called 1 = .ok (.tableswitch 51 0 2 #[27, 33, 42], 27) := by decide +kernel
theorem dX4_called_28 : decode cX4_called 28 = .ok (.aload_n 0, 1) := by decide +kernel
theorem dX4_called_29 : decode cX4_called 29 = .ok (.iload_n 1, 1) := by decide +kernel
theorem dX4_called_30 : decode cX4_called 30 = .ok (.invokevirtual 47, 3) := by decide +kernel
theorem dX4_called_33 : decode cX4_called 33 = .ok (.ireturn, 1) := by decide +kernel
theorem dX4_called_34 : decode cX4_called 34 = .ok (.aload_n 0, 1) := by decide +kernel
theorem dX4_called_35 : decode cX4_called 35 = .ok (.iload_n 1, 1) := by decide +kernel
theorem dX4_called_36 : decode cX4_called 36 = .ok (.invokevirtual 50, 3) := by decide +kernel
theorem dX4_called_39 : decode cX4_called 39 = .ok (.bipush 32, 2) := by decide +kernel
theorem dX4_called_41 : decode cX4_called 41 = .ok (.idiv, 1) := by decide +kernel
theorem dX4_called_42 : decode cX4_called 42 = .ok (.ireturn, 1) := by decide +kernel
theorem dX4_called_43 : decode cX4_called 43 = .ok (.aload_n 0, 1) := by decide +kernel
theorem dX4_called_44 : decode cX4_called 44 = .ok (.iload_n 1, 1) := by decide +kernel
theorem dX4_called_45 : decode cX4_called 45 = .ok (.invokevirtual 50, 3) := by decide +kernel
theorem dX4_called_48 : decode cX4_called 48 = .ok (.bipush 32, 2) := by decide +kernel
theorem dX4_called_50 : decode cX4_called 50 = .ok (.irem, 1) := by decide +kernel
theorem dX4_called_51 : decode cX4_called 51 = .ok (.ireturn, 1) := by decide +kernel
theorem dX4_called_52 : decode cX4_called 52 = .ok (.iload_n 1, 1) := by decide +kernel
theorem dX4_called_53 : decode cX4_called 53 = .ok (.aload_n 0, 1) := by decide +kernel
theorem dX4_called_54 : decode cX4_called 54 = .ok (.getfield 18, 3) := by decide +kernel
theorem dX4_called_57 : decode cX4_called 57 = .ok (.irem, 1) := by decide +kernel
theorem dX4_called_58 : decode cX4_called 58 = .ok (.ireturn, 1) := by decide +kernel
theorem dX4_countAt_0 : decode cX4_countAt 0 = .ok (.iload_n 1, 1) := by decide +kernel
theorem dX4_countAt_1 : decode cX4_countAt 1 = .ok (.ifCond .lt 26, 3) := by decide +kernel
theorem dX4_countAt_4 : decode cX4_countAt 4 = .ok (.iload_n 1, 1) := by decide +kernel
theorem dX4_countAt_5 : decode cX4_countAt 5 = .ok (.sipush 999, 3) := by decide +kernel
theorem dX4_countAt_8 : decode cX4_countAt 8 = .ok (.if_icmp .gt 19, 3) := by decide +kernel
theorem dX4_countAt_11 : decode cX4_countAt 11 = .ok (.iload_n 2, 1) := by decide +kernel
theorem dX4_countAt_12 : decode cX4_countAt 12 = .ok (.ifCond .lt 15, 3) := by decide +kernel
theorem dX4_countAt_15 : decode cX4_countAt 15 = .ok (.iload_n 2, 1) := by decide +kernel
theorem dX4_countAt_16 : decode cX4_countAt 16 = .ok (.aload_n 0, 1) := by decide +kernel
theorem dX4_countAt_17 : decode cX4_countAt 17 = .ok (.getfield 9, 3) := by decide +kernel
theorem dX4_countAt_20 : decode cX4_countAt 20 = .ok (.if_icmp .gt 7, 3) := by decide +kernel
theorem dX4_countAt_23 : decode cX4_countAt 23 = .ok (.iload_n 3, 1) := by decide +kernel
theorem dX4_countAt_24 : decode cX4_countAt 24 = .ok (.ifCond .ge 5, 3) := by decide +kernel
theorem dX4_countAt_27 : decode cX4_countAt 27 = .ok (.iconst (-1), 1) := by decide +kernel
theorem dX4_countAt_28 : decode cX4_countAt 28 = .ok (.ireturn, 1) := by decide +kernel
theorem dX4_countAt_29 : decode cX4_countAt 29 = .ok (.iload_n 2, 1) := by decide +kernel
theorem dX4_countAt_30 : decode cX4_countAt 30 = .ok (.aload_n 0, 1) := by decide +kernel
theorem dX4_countAt_31 : decode cX4_countAt 31 = .ok (.getfield 9, 3) := by decide +kernel
theorem dX4_countAt_34 : decode cX4_countAt 34 = .ok (.if_icmp .ge 10, 3) := by decide +kernel
theorem dX4_countAt_37 : decode cX4_countAt 37 = .ok (.aload_n 0, 1) := by decide +kernel
theorem dX4_countAt_38 : decode cX4_countAt 38 = .ok (.getfield 15, 3) := by decide +kernel
theorem dX4_countAt_41 : decode cX4_countAt 41 = .ok (.goto 20, 3) := by decide +kernel
theorem dX4_countAt_44 : decode cX4_countAt 44 = .ok (.iload_n 1, 1) := by decide +kernel
theorem dX4_countAt_45 : decode cX4_countAt 45 = .ok (.aload_n 0, 1) := by decide +kernel
theorem dX4_countAt_46 : decode cX4_countAt 46 = .ok (.getfield 21, 3) := by decide +kernel
theorem dX4_countAt_49 : decode cX4_countAt 49 = .ok (.irem, 1) := by decide +kernel
theorem dX4_countAt_50 : decode cX4_countAt 50 = .ok (.ifCond .ne 10, 3) := by decide +kernel
theorem dX4_countAt_53 : decode cX4_countAt 53 = .ok (.aload_n 0, 1) := by decide +kernel
theorem dX4_countAt_54 : decode cX4_countAt 54 = .ok (.getfield 31, 3) := by decide +kernel
theorem dX4_countAt_57 : decode cX4_countAt 57 = .ok (.goto 4, 3) := by decide +kernel
theorem dX4_countAt_60 : decode cX4_countAt 60 = .ok (.iconst 0, 1) := by decide +kernel
theorem dX4_countAt_61 : decode cX4_countAt 61 = .ok (.istore 4, 2) := by decide +kernel
theorem dX4_countAt_63 : decode cX4_countAt 63 = .ok (.iload_n 3, 1) := by decide +kernel
theorem dX4_countAt_64 : decode cX4_countAt 64 = .ok (.iload 4, 2) := by decide +kernel
theorem dX4_countAt_66 : decode cX4_countAt 66 = .ok (.if_icmp .ge 20, 3) := by decide +kernel
theorem dX4_countAt_69 : decode cX4_countAt 69 = .ok (.aload_n 0, 1) := by decide +kernel
theorem dX4_countAt_70 : decode cX4_countAt 70 = .ok (.iload_n 1, 1) := by decide +kernel
theorem dX4_countAt_71 : decode cX4_countAt 71 = .ok (.invokevirtual 53, 3) := by decide +kernel
theorem dX4_countAt_74 : decode cX4_countAt 74 = .ok (.iload_n 2, 1) := by decide +kernel
theorem dX4_countAt_75 : decode cX4_countAt 75 = .ok (.aload_n 0, 1) := by decide +kernel
theorem dX4_countAt_76 : decode cX4_countAt 76 = .ok (.getfield 15, 3) := by decide +kernel
theorem dX4_countAt_79 : decode cX4_countAt 79 = .ok (.imul, 1) := by decide +kernel
theorem dX4_countAt_80 : decode cX4_countAt 80 = .ok (.iadd, 1) := by decide +kernel
theorem dX4_countAt_81 : decode cX4_countAt 81 = .ok (.iload_n 3, 1) := by decide +kernel
theorem dX4_countAt_82 : decode cX4_countAt 82 = .ok (.iadd, 1) := by decide +kernel
theorem dX4_countAt_83 : decode cX4_countAt 83 = .ok (.goto 4, 3) := by decide +kernel
theorem dX4_countAt_86 : decode cX4_countAt 86 = .ok (.iconst (-1), 1) := by decide +kernel
theorem dX4_countAt_87 : decode cX4_countAt 87 = .ok (.ireturn, 1) := by decide +kernel
theorem dX4_timesUpTo_0 : decode cX4_timesUpTo 0 = .ok (.aload_n 0, 1) := by decide +kernel
theorem dX4_timesUpTo_1 : decode cX4_timesUpTo 1 = .ok (.iload_n 1, 1) := by decide +kernel
theorem dX4_timesUpTo_2 : decode cX4_timesUpTo 2 = .ok (.invokevirtual 47, 3) := by decide +kernel
theorem dX4_timesUpTo_5 : decode cX4_timesUpTo 5 = .ok (.istore 4, 2) := by decide +kernel
theorem dX4_timesUpTo_7 : decode cX4_timesUpTo 7 = .ok (.iload_n 2, 1) := by decide +kernel
theorem dX4_timesUpTo_8 : decode cX4_timesUpTo 8 = .ok (.aload_n 0, 1) := by decide +kernel
theorem dX4_timesUpTo_9 : decode cX4_timesUpTo 9 = .ok (.getfield 9, 3) := by decide +kernel
theorem dX4_timesUpTo_12 : decode cX4_timesUpTo 12 = .ok (.if_icmp .ge 8, 3) := by decide +kernel
theorem dX4_timesUpTo_15 : decode cX4_timesUpTo 15 = .ok (.iload 4, 2) := by decide +kernel
theorem dX4_timesUpTo_17 : decode cX4_timesUpTo 17 = .ok (.goto 9, 3) := by decide +kernel
theorem dX4_timesUpTo_20 : decode cX4_timesUpTo 20 = .ok (.aload_n 0, 1) := by decide +kernel
theorem dX4_timesUpTo_21 : decode cX4_timesUpTo 21 = .ok (.iload 4, 2) := by decide +kernel
theorem dX4_timesUpTo_23 : decode cX4_timesUpTo 23 = .ok (.invokevirtual 40, 3) := by decide +kernel
theorem dX4_timesUpTo_26 : decode cX4_timesUpTo 26 = .ok (.istore 5, 2) := by decide +kernel
theorem dX4_timesUpTo_28 : decode cX4_timesUpTo 28 = .ok (.aload_n 0, 1) := by decide +kernel
theorem dX4_timesUpTo_29 : decode cX4_timesUpTo 29 = .ok (.iload_n 1, 1) := by decide +kernel
theorem dX4_timesUpTo_30 : decode cX4_timesUpTo 30 = .ok (.invokevirtual 44, 3) := by decide +kernel
theorem dX4_timesUpTo_33 : decode cX4_timesUpTo 33 = .ok (.iload_n 2, 1) := by decide +kernel
theorem dX4_timesUpTo_34 : decode cX4_timesUpTo 34 = .ok (.aload_n 0, 1) := by decide +kernel
theorem dX4_timesUpTo_35 : decode cX4_timesUpTo 35 = .ok (.getfield 15, 3) := by decide +kernel
theorem dX4_timesUpTo_38 : decode cX4_timesUpTo 38 = .ok (.imul, 1) := by decide +kernel
theorem dX4_timesUpTo_39 : decode cX4_timesUpTo 39 = .ok (.iload_n 3, 1) := by decide +kernel
theorem dX4_timesUpTo_40 : decode cX4_timesUpTo 40 = .ok (.iadd, 1) := by decide +kernel
theorem dX4_timesUpTo_41 : decode cX4_timesUpTo 41 = .ok (.if_icmp .lt 10, 3) := by decide +kernel
theorem dX4_timesUpTo_44 : decode cX4_timesUpTo 44 = .ok (.iload 5, 2) := by decide +kernel
theorem dX4_timesUpTo_46 : decode cX4_timesUpTo 46 = .ok (.iconst 1, 1) := by decide +kernel
theorem dX4_timesUpTo_47 : decode cX4_timesUpTo 47 = .ok (.iadd, 1) := by decide +kernel
theorem dX4_timesUpTo_48 : decode cX4_timesUpTo 48 = .ok (.goto 5, 3) := by decide +kernel
theorem dX4_timesUpTo_51 : decode cX4_timesUpTo 51 = .ok (.iload 5, 2) := by decide +kernel
theorem dX4_timesUpTo_53 : decode cX4_timesUpTo 53 = .ok (.ireturn, 1) := by decide +kernel
theorem dX4_countFrom_0 : decode cX4_countFrom 0 = .ok (.iload_n 2, 1) := by decide +kernel
theorem dX4_countFrom_1 : decode cX4_countFrom 1 = .ok (.aload_n 0, 1) := by decide +kernel
theorem dX4_countFrom_2 : decode cX4_countFrom 2 = .ok (.getfield 15, 3) := by decide +kernel
theorem dX4_countFrom_5 : decode cX4_countFrom 5 = .ok (.imul, 1) := by decide +kernel
theorem dX4_countFrom_6 : decode cX4_countFrom 6 = .ok (.iload_n 3, 1) := by decide +kernel
theorem dX4_countFrom_7 : decode cX4_countFrom 7 = .ok (.iadd, 1) := by decide +kernel
theorem dX4_countFrom_8 : decode cX4_countFrom 8 = .ok (.istore 4, 2) := by decide +kernel
theorem dX4_countFrom_10 : decode cX4_countFrom 10 = .ok (.aload_n 0, 1) := by decide +kernel
theorem dX4_countFrom_11 : decode cX4_countFrom 11 = .ok (.iload_n 1, 1) := by decide +kernel
theorem dX4_countFrom_12 : decode cX4_countFrom 12 = .ok (.invokevirtual 44, 3) := by decide +kernel
theorem dX4_countFrom_15 : decode cX4_countFrom 15 = .ok (.istore 5, 2) := by decide +kernel
theorem dX4_countFrom_17 : decode cX4_countFrom 17 = .ok (.iload 5, 2) := by decide +kernel
theorem dX4_countFrom_19 : decode cX4_countFrom 19 = .ok (.iload 4, 2) := by decide +kernel
theorem dX4_countFrom_21 : decode cX4_countFrom 21 = .ok (.if_icmp .gt 13, 3) := by decide +kernel
theorem dX4_countFrom_24 : decode cX4_countFrom 24 = .ok (.iload_n 1, 1) := by decide +kernel
theorem dX4_countFrom_25 : decode cX4_countFrom 25 = .ok (.iload 5, 2) := by decide +kernel
theorem dX4_countFrom_27 : decode cX4_countFrom 27 = .ok (.isub, 1) := by decide +kernel
theorem dX4_countFrom_28 : decode cX4_countFrom 28 = .ok (.iload 4, 2) := by decide +kernel
theorem dX4_countFrom_30 : decode cX4_countFrom 30 = .ok (.iadd, 1) := by decide +kernel
theorem dX4_countFrom_31 : decode cX4_countFrom 31 = .ok (.goto 17, 3) := by decide +kernel
theorem dX4_countFrom_34 : decode cX4_countFrom 34 = .ok (.aload_n 0, 1) := by decide +kernel
theorem dX4_countFrom_35 : decode cX4_countFrom 35 = .ok (.aload_n 0, 1) := by decide +kernel
theorem dX4_countFrom_36 : decode cX4_countFrom 36 = .ok (.iload_n 1, 1) := by decide +kernel
theorem dX4_countFrom_37 : decode cX4_countFrom 37 = .ok (.invokevirtual 47, 3) := by decide +kernel
theorem dX4_countFrom_40 : decode cX4_countFrom 40 = .ok (.iconst 1, 1) := by decide +kernel
theorem dX4_countFrom_41 : decode cX4_countFrom 41 = .ok (.iadd, 1) := by decide +kernel
theorem dX4_countFrom_42 : decode cX4_countFrom 42 = .ok (.invokevirtual 53, 3) := by decide +kernel
theorem dX4_countFrom_45 : decode cX4_countFrom 45 = .ok (.iload 4, 2) := by decide +kernel
theorem dX4_countFrom_47 : decode cX4_countFrom 47 = .ok (.iadd, 1) := by decide +kernel
theorem dX4_countFrom_48 : decode cX4_countFrom 48 = .ok (.ireturn, 1) := by decide +kernel
theorem flX4_9 : FL RX4 9 4 2 := ⟨RX4, TX4, 7, tyX4, cd_4, by decide, Or.inl (inr_4 _ (List.mem_of_getElem? (i := 14) rfl))⟩
theorem flX4_15 : FL RX4 15 4 3 := ⟨RX4, TX4, 7, tyX4, cd_4, by decide, Or.inl (inr_4 _ (List.mem_of_getElem? (i := 15) rfl))⟩
theorem flX4_18 : FL RX4 18 4 4 := ⟨RX4, TX4, 7, tyX4, cd_4, by decide, Or.inl (inr_4 _ (List.mem_of_getElem? (i := 16) rfl))⟩
theorem flX4_21 : FL RX4 21 4 6 := ⟨RX4, TX4, 7, tyX4, cd_4, by decide, Or.inl (inr_4 _ (List.mem_of_getElem? (i := 17) rfl))⟩
theorem flX4_24 : FL RX4 24 4 0 := ⟨RX4, TX4, 7, tyX4, cd_4, by decide, Or.inl (inr_13 _ (List.mem_of_getElem? (i := 10) rfl))⟩
theorem flX4_28 : FL RX4 28 4 1 := ⟨RX4, TX4, 7, tyX4, cd_4, by decide, Or.inl (inr_13 _ (List.mem_of_getElem? (i := 11) rfl))⟩
theorem flX4_31 : FL RX4 31 4 5 := ⟨RX4, TX4, 7, tyX4, cd_4, by decide, Or.inl (inr_13 _ (List.mem_of_getElem? (i := 12) rfl))⟩
theorem fpX4_9 : FP RX4 9 4 2 .int := ⟨RX4, TX4, 7, tyX4, cd_4, by decide, (inr_4 _ (List.mem_of_getElem? (i := 14) rfl)), rfl, by decide +kernel⟩
theorem fpX4_15 : FP RX4 15 4 3 .int := ⟨RX4, TX4, 7, tyX4, cd_4, by decide, (inr_4 _ (List.mem_of_getElem? (i := 15) rfl)), rfl, by decide +kernel⟩
theorem fpX4_18 : FP RX4 18 4 4 .int := ⟨RX4, TX4, 7, tyX4, cd_4, by decide, (inr_4 _ (List.mem_of_getElem? (i := 16) rfl)), rfl, by decide +kernel⟩
theorem fpX4_21 : FP RX4 21 4 6 .int := ⟨RX4, TX4, 7, tyX4, cd_4, by decide, (inr_4 _ (List.mem_of_getElem? (i := 17) rfl)), rfl, by decide +kernel⟩
theorem fpX4_24 : FP RX4 24 4 0 .long := ⟨RX4, TX4, 7, tyX4, cd_4, by decide, (inr_13 _ (List.mem_of_getElem? (i := 10) rfl)), rfl, by decide +kernel⟩
theorem fpX4_28 : FP RX4 28 4 1 .int := ⟨RX4, TX4, 7, tyX4, cd_4, by decide, (inr_13 _ (List.mem_of_getElem? (i := 11) rfl)), rfl, by decide +kernel⟩
theorem fpX4_31 : FP RX4 31 4 5 .int := ⟨RX4, TX4, 7, tyX4, cd_4, by decide, (inr_13 _ (List.mem_of_getElem? (i := 12) rfl)), rfl, by decide +kernel⟩
theorem mlX4_40 : MLv RX4 40 RX4 4 yX4_longYearsAhead cX4_longYearsAhead 2 (some .int) 1 := ⟨(inr_25 _ (List.mem_of_getElem? (i := 9) rfl)), (inr_25 _ (List.mem_of_getElem? (i := 6) rfl)), (inr_25 _ (List.mem_of_getElem? (i := 7) rfl)), (inr_25 _ (List.mem_of_getElem? (i := 8) rfl)), (inr_4 _ (List.mem_of_getElem? (i := 7) rfl)), rfl, ⟨by decide, by decide, by decide +kernel⟩, by decide, by decide, rfl⟩
theorem mlX4_44 : MLv RX4 44 RX4 4 yX4_dayInYear cX4_dayInYear 4 (some .int) 1 := ⟨(inr_23 _ (List.mem_of_getElem? (i := 16) rfl)), (inr_23 _ (List.mem_of_getElem? (i := 13) rfl)), (inr_23 _ (List.mem_of_getElem? (i := 14) rfl)), (inr_23 _ (List.mem_of_getElem? (i := 15) rfl)), (inr_4 _ (List.mem_of_getElem? (i := 7) rfl)), rfl, ⟨by decide, by decide, by decide +kernel⟩, by decide, by decide, rfl⟩
theorem mlX4_47 : MLv RX4 47 RX4 4 yX4_yearAt cX4_yearAt 6 (some .int) 1 := ⟨(inr_23 _ (List.mem_of_getElem? (i := 8) rfl)), (inr_23 _ (List.mem_of_getElem? (i := 5) rfl)), (inr_23 _ (List.mem_of_getElem? (i := 6) rfl)), (inr_23 _ (List.mem_of_getElem? (i := 7) rfl)), (inr_4 _ (List.mem_of_getElem? (i := 7) rfl)), rfl, ⟨by decide, by decide, by decide +kernel⟩, by decide, by decide, rfl⟩
theorem mlX4_50 : MLv RX4 50 RX4 4 yX4_dateAt cX4_dateAt 4 (some .int) 1 := ⟨(inr_23 _ (List.mem_of_getElem? (i := 12) rfl)), (inr_23 _ (List.mem_of_getElem? (i := 9) rfl)), (inr_23 _ (List.mem_of_getElem? (i := 10) rfl)), (inr_23 _ (List.mem_of_getElem? (i := 11) rfl)), (inr_4 _ (List.mem_of_getElem? (i := 7) rfl)), rfl, ⟨by decide, by decide, by decide +kernel⟩, by decide, by decide, rfl⟩
theorem mlX4_53 : MLv RX4 53 RX4 4 yX4_startOfYear cX4_startOfYear 2 (some .int) 1 := ⟨(inr_25 _ (List.mem_of_getElem? (i := 5) rfl)), (inr_25 _ (List.mem_of_getElem? (i := 2) rfl)), (inr_25 _ (List.mem_of_getElem? (i := 3) rfl)), (inr_25 _ (List.mem_of_getElem? (i := 4) rfl)), (inr_4 _ (List.mem_of_getElem? (i := 7) rfl)), rfl, ⟨by decide, by decide, by decide +kernel⟩, by decide, by decide, rfl⟩
def fX4_dayInYear_s24 (a0 : Nat) (x1 : Int32) (y2 : Int32) (y3 : Int32)  (S : St) : Option Int32 :=
  if (y2 + (gI S 4 5 a0)) ≤ y3 then (if y2 = 0 then none else
  some (((y3 - y2) - (gI S 4 5 a0)) - ((y3 - y2) - (gI S 4 5 a0)) / y2 * y2)) else
  (some y3)
def fX4_dayInYear_s10 (a0 : Nat) (x1 : Int32) (y2 : Int32)  (S : St) : Option Int32 :=
  if ((y2 * (gI S 4 6 a0)) + (gI S 4 5 a0)) = 0 then none else
  fX4_dayInYear_s24 a0 x1 y2 (x1 - x1 / ((y2 * (gI S 4 6 a0)) + (gI S 4 5 a0)) * ((y2 * (gI S 4 6 a0)) + (gI S 4 5 a0))) S
def fX4_dayInYear (a0 : Nat) (x1 : Int32) (S : St) : Option Int32 :=
  fX4_dayInYear_s10 a0 x1 ((gI S 4 2 a0) * (gI S 4 3 a0)) S
theorem wX4_dayInYear_s24 {z : Mx} {ad : Nat → Nat} {o : Option Value × St} (X : CxOk z ad RX4 cX4_dayInYear 4 (some .int) 1) (a0 : Nat) (x1 : Int32) (h0 : KT a0 = 4) (y2 : Int32) (y3 : Int32)    (S : St) (r : Int32) (ho : o = (some (.int r), S)) (hF : fX4_dayInYear_s24 a0 x1 y2 y3  S = some r) : GW z ad o S 24 [(0, .ref (ad a0)), (2, .int y2), (3, .int y3)] [] := by
  unfold fX4_dayInYear_s24 at hF
  refine g_iload_n X dX4_dayInYear_24 2 rfl rfl ?_
  refine g_iload_n X dX4_dayInYear_25 1 rfl rfl ?_
  refine g_aload_n X dX4_dayInYear_26 0 rfl rfl ?_
  refine g_getI X dX4_dayInYear_27 flX4_31 rfl h0 ?_
  refine g_iadd X dX4_dayInYear_30 ?_
  refine g_icmp_ge (tgt := 38) X dX4_dayInYear_31 (by decide) (fun c_2 => ?_) (fun c_2 => ?_)
  · rw [if_pos c_2] at hF
    refine g_iload_n X dX4_dayInYear_38 2 rfl rfl ?_
    refine g_iload_n X dX4_dayInYear_39 1 rfl rfl ?_
    refine g_isub X dX4_dayInYear_40 ?_
    refine g_aload_n X dX4_dayInYear_41 0 rfl rfl ?_
    refine g_getI X dX4_dayInYear_42 flX4_31 rfl h0 ?_
    refine g_isub X dX4_dayInYear_45 ?_
    refine g_iload_n X dX4_dayInYear_46 1 rfl rfl ?_
    obtain ⟨e_3, hF⟩ := oguard hF
    refine g_irem X dX4_dayInYear_47 e_3 ?_
    have hF := Option.some.inj hF
    subst hF
    exact g_iret X dX4_dayInYear_48 ho
  · rw [if_neg c_2] at hF
    refine g_iload_n X dX4_dayInYear_34 2 rfl rfl ?_
    refine g_goto (tgt := 48) X dX4_dayInYear_35 (by decide) ?_
    have hF := Option.some.inj hF
    subst hF
    exact g_iret X dX4_dayInYear_48 ho
theorem wX4_dayInYear_s10 {z : Mx} {ad : Nat → Nat} {o : Option Value × St} (X : CxOk z ad RX4 cX4_dayInYear 4 (some .int) 1) (a0 : Nat) (x1 : Int32) (h0 : KT a0 = 4) (y2 : Int32)    (S : St) (r : Int32) (ho : o = (some (.int r), S)) (hF : fX4_dayInYear_s10 a0 x1 y2  S = some r) : GW z ad o S 10 [(0, .ref (ad a0)), (1, .int x1), (2, .int y2)] [] := by
  unfold fX4_dayInYear_s10 at hF
  refine g_iload_n X dX4_dayInYear_10 1 rfl rfl ?_
  refine g_iload_n X dX4_dayInYear_11 2 rfl rfl ?_
  refine g_aload_n X dX4_dayInYear_12 0 rfl rfl ?_
  refine g_getI X dX4_dayInYear_13 flX4_21 rfl h0 ?_
  refine g_imul X dX4_dayInYear_16 ?_
  refine g_aload_n X dX4_dayInYear_17 0 rfl rfl ?_
  refine g_getI X dX4_dayInYear_18 flX4_31 rfl h0 ?_
  refine g_iadd X dX4_dayInYear_21 ?_
  obtain ⟨e_1, hF⟩ := oguard hF
  refine g_irem X dX4_dayInYear_22 e_1 ?_
  refine g_istore_n X dX4_dayInYear_23 rfl (by decide) (lv' := [(3, .int (x1 - x1 / ((y2 * (gI S 4 6 a0)) + (gI S 4 5 a0)) * ((y2 * (gI S 4 6 a0)) + (gI S 4 5 a0)))), (0, .ref (ad a0)), (1, .int x1), (2, .int y2)]) rfl ?_
  exact g_perm [1, 3, 0] rfl (wX4_dayInYear_s24 X a0 x1 h0 y2 (x1 - x1 / ((y2 * (gI S 4 6 a0)) + (gI S 4 5 a0)) * ((y2 * (gI S 4 6 a0)) + (gI S 4 5 a0))) S r ho hF)
theorem wX4_dayInYear {z : Mx} {ad : Nat → Nat} {o : Option Value × St} (X : CxOk z ad RX4 cX4_dayInYear 4 (some .int) 1) (a0 : Nat) (x1 : Int32) (h0 : KT a0 = 4) (S : St) (r : Int32) (ho : o = (some (.int r), S)) (hF : fX4_dayInYear a0 x1 S = some r) : GW z ad o S 0 [(0, .ref (ad a0)), (1, .int x1)] [] := by
  unfold fX4_dayInYear at hF
  refine g_aload_n X dX4_dayInYear_0 0 rfl rfl ?_
  refine g_getI X dX4_dayInYear_1 flX4_9 rfl h0 ?_
  refine g_aload_n X dX4_dayInYear_4 0 rfl rfl ?_
  refine g_getI X dX4_dayInYear_5 flX4_15 rfl h0 ?_
  refine g_imul X dX4_dayInYear_8 ?_
  refine g_istore_n X dX4_dayInYear_9 rfl (by decide) (lv' := [(2, .int ((gI S 4 2 a0) * (gI S 4 3 a0))), (0, .ref (ad a0)), (1, .int x1)]) rfl ?_
  exact g_perm [1, 2, 0] rfl (wX4_dayInYear_s10 X a0 x1 h0 ((gI S 4 2 a0) * (gI S 4 3 a0)) S r ho hF)
theorem tX4_dayInYear {ad : Nat → Nat} (hI : Inj ad) (l : Launch) (D : va_G) (cyy : Nat → ClassId) (a0 : Nat) (x1 : Int32) (h0 : KT a0 = 4) (S : St) (r : Int32) (hF : fX4_dayInYear a0 x1 S = some r) : OkM l yX4_dayInYear cX4_dayInYear 4 (some .int) 1 ad D cyy [.ref (ad a0), .int x1] S (some (.int r), S) := okM_of hI (by decide) (inr_23 _ (List.mem_of_getElem? (i := 16) rfl)) (by show _ ≤ 4; exact Nat.le_of_ble_eq_true rfl) (fun z X => wX4_dayInYear X a0 x1 h0 S r rfl hF)
def fX4_dateAt_s16 (a0 : Nat) (x1 : Int32) (y2 : Int32) (y3 : Int32)  (S : St) : Option Int32 :=
  if y3 ≤ y2 then (some ((((gI S 4 2 a0) * (32 : Int32)) + y2) - y3)) else
  (if (gI S 4 3 a0) = 0 then none else
  if (gI S 4 3 a0) = 0 then none else
  some (((y2 / (gI S 4 3 a0)) * (32 : Int32)) + (y2 - y2 / (gI S 4 3 a0) * (gI S 4 3 a0))))
def fX4_dateAt (a0 : Nat) (x1 : Int32) (S : St) : Option Int32 :=
  (fX4_dayInYear a0 x1 S).bind fun r_1 =>
  fX4_dateAt_s16 a0 x1 r_1 ((gI S 4 2 a0) * (gI S 4 3 a0)) S
theorem wX4_dateAt_s16 {z : Mx} {ad : Nat → Nat} {o : Option Value × St} (X : CxOk z ad RX4 cX4_dateAt 4 (some .int) 2) (a0 : Nat) (x1 : Int32) (h0 : KT a0 = 4) (y2 : Int32) (y3 : Int32)    (S : St) (r : Int32) (ho : o = (some (.int r), S)) (hF : fX4_dateAt_s16 a0 x1 y2 y3  S = some r) : GW z ad o S 16 [(0, .ref (ad a0)), (2, .int y2), (3, .int y3)] [] := by
  unfold fX4_dateAt_s16 at hF
  refine g_iload_n X dX4_dateAt_16 1 rfl rfl ?_
  refine g_iload_n X dX4_dateAt_17 2 rfl rfl ?_
  refine g_icmp_ge (tgt := 40) X dX4_dateAt_18 (by decide) (fun c_3 => ?_) (fun c_3 => ?_)
  · rw [if_pos c_3] at hF
    refine g_aload_n X dX4_dateAt_40 0 rfl rfl ?_
    refine g_getI X dX4_dateAt_41 flX4_9 rfl h0 ?_
    refine g_bipush (v := 32) X dX4_dateAt_44 (by decide) ?_
    refine g_imul X dX4_dateAt_46 ?_
    refine g_iload_n X dX4_dateAt_47 1 rfl rfl ?_
    refine g_iadd X dX4_dateAt_48 ?_
    refine g_iload_n X dX4_dateAt_49 2 rfl rfl ?_
    refine g_isub X dX4_dateAt_50 ?_
    have hF := Option.some.inj hF
    subst hF
    exact g_iret X dX4_dateAt_51 ho
  · rw [if_neg c_3] at hF
    refine g_iload_n X dX4_dateAt_21 1 rfl rfl ?_
    refine g_aload_n X dX4_dateAt_22 0 rfl rfl ?_
    refine g_getI X dX4_dateAt_23 flX4_15 rfl h0 ?_
    obtain ⟨e_4, hF⟩ := oguard hF
    refine g_idiv X dX4_dateAt_26 e_4 ?_
    refine g_bipush (v := 32) X dX4_dateAt_27 (by decide) ?_
    refine g_imul X dX4_dateAt_29 ?_
    refine g_iload_n X dX4_dateAt_30 1 rfl rfl ?_
    refine g_aload_n X dX4_dateAt_31 0 rfl rfl ?_
    refine g_getI X dX4_dateAt_32 flX4_15 rfl h0 ?_
    obtain ⟨e_5, hF⟩ := oguard hF
    refine g_irem X dX4_dateAt_35 e_5 ?_
    refine g_iadd X dX4_dateAt_36 ?_
    refine g_goto (tgt := 51) X dX4_dateAt_37 (by decide) ?_
    have hF := Option.some.inj hF
    subst hF
    exact g_iret X dX4_dateAt_51 ho
theorem wX4_dateAt {z : Mx} {ad : Nat → Nat} {o : Option Value × St} (X : CxOk z ad RX4 cX4_dateAt 4 (some .int) 2) (a0 : Nat) (x1 : Int32) (h0 : KT a0 = 4) (S : St) (r : Int32) (ho : o = (some (.int r), S)) (hF : fX4_dateAt a0 x1 S = some r) : GW z ad o S 0 [(0, .ref (ad a0)), (1, .int x1)] [] := by
  unfold fX4_dateAt at hF
  refine g_aload_n X dX4_dateAt_0 0 rfl rfl ?_
  refine g_iload_n X dX4_dateAt_1 1 rfl rfl ?_
  obtain ⟨r_1, q_2, hF⟩ := obind hF
  refine g_callVi (As := [.int x1]) X dX4_dateAt_2 mlX4_44 (fun l D cyy => tX4_dayInYear (cx_inj X) l D cyy a0 x1 h0 S r_1 q_2) h0 (by decide) rfl rfl (Nat.le_of_ble_eq_true rfl) ?_
  refine g_istore_n X dX4_dateAt_5 rfl (by decide) (lv' := [(2, .int r_1), (0, .ref (ad a0)), (1, .int x1)]) rfl ?_
  refine g_aload_n X dX4_dateAt_6 1 rfl rfl ?_
  refine g_getI X dX4_dateAt_7 flX4_9 rfl h0 ?_
  refine g_aload_n X dX4_dateAt_10 1 rfl rfl ?_
  refine g_getI X dX4_dateAt_11 flX4_15 rfl h0 ?_
  refine g_imul X dX4_dateAt_14 ?_
  refine g_istore_n X dX4_dateAt_15 rfl (by decide) (lv' := [(3, .int ((gI S 4 2 a0) * (gI S 4 3 a0))), (2, .int r_1), (0, .ref (ad a0)), (1, .int x1)]) rfl ?_
  exact g_perm [2, 1, 0] rfl (wX4_dateAt_s16 X a0 x1 h0 r_1 ((gI S 4 2 a0) * (gI S 4 3 a0)) S r ho hF)
theorem tX4_dateAt {ad : Nat → Nat} (hI : Inj ad) (l : Launch) (D : va_G) (cyy : Nat → ClassId) (a0 : Nat) (x1 : Int32) (h0 : KT a0 = 4) (S : St) (r : Int32) (hF : fX4_dateAt a0 x1 S = some r) : OkM l yX4_dateAt cX4_dateAt 4 (some .int) 2 ad D cyy [.ref (ad a0), .int x1] S (some (.int r), S) := okM_of hI (by decide) (inr_23 _ (List.mem_of_getElem? (i := 12) rfl)) (by show _ ≤ 4; exact Nat.le_of_ble_eq_true rfl) (fun z X => wX4_dateAt X a0 x1 h0 S r rfl hF)
def fX4_yearAt_s37 (a0 : Nat) (x1 : Int32) (y2 : Int32) (y4 : Int32) (y5 : Int32)  (S : St) : Option Int32 :=
  if (y2 + (gI S 4 5 a0)) ≤ y4 then (if y2 = 0 then none else
  some ((y5 + (1 : Int32)) + (((y4 - y2) - (gI S 4 5 a0)) / y2))) else
  (some y5)
def fX4_yearAt_s27 (a0 : Nat) (x1 : Int32) (y2 : Int32) (y3 : Int32) (y4 : Int32)  (S : St) : Option Int32 :=
  if y3 = 0 then none else
  fX4_yearAt_s37 a0 x1 y2 y4 ((x1 / y3) * (gI S 4 6 a0)) S
def fX4_yearAt_s22 (a0 : Nat) (x1 : Int32) (y2 : Int32) (y3 : Int32)  (S : St) : Option Int32 :=
  if y3 = 0 then none else
  fX4_yearAt_s27 a0 x1 y2 y3 (x1 - x1 / y3 * y3) S
def fX4_yearAt_s10 (a0 : Nat) (x1 : Int32) (y2 : Int32)  (S : St) : Option Int32 :=
  fX4_yearAt_s22 a0 x1 y2 ((y2 * (gI S 4 6 a0)) + (gI S 4 5 a0)) S
def fX4_yearAt (a0 : Nat) (x1 : Int32) (S : St) : Option Int32 :=
  fX4_yearAt_s10 a0 x1 ((gI S 4 2 a0) * (gI S 4 3 a0)) S
theorem wX4_yearAt_s37 {z : Mx} {ad : Nat → Nat} {o : Option Value × St} (X : CxOk z ad RX4 cX4_yearAt 6 (some .int) 1) (a0 : Nat) (x1 : Int32) (h0 : KT a0 = 4) (y2 : Int32) (y4 : Int32) (y5 : Int32)    (S : St) (r : Int32) (ho : o = (some (.int r), S)) (hF : fX4_yearAt_s37 a0 x1 y2 y4 y5  S = some r) : GW z ad o S 37 [(0, .ref (ad a0)), (2, .int y2), (4, .int y4), (5, .int y5)] [] := by
  unfold fX4_yearAt_s37 at hF
  refine g_iload X dX4_yearAt_37 2 rfl ?_
  refine g_iload_n X dX4_yearAt_39 1 rfl rfl ?_
  refine g_aload_n X dX4_yearAt_40 0 rfl rfl ?_
  refine g_getI X dX4_yearAt_41 flX4_31 rfl h0 ?_
  refine g_iadd X dX4_yearAt_44 ?_
  refine g_icmp_ge (tgt := 53) X dX4_yearAt_45 (by decide) (fun c_3 => ?_) (fun c_3 => ?_)
  · rw [if_pos c_3] at hF
    refine g_iload X dX4_yearAt_53 3 rfl ?_
    refine g_iconst (v := 1) X dX4_yearAt_55 (by decide) ?_
    refine g_iadd X dX4_yearAt_56 ?_
    refine g_iload X dX4_yearAt_57 2 rfl ?_
    refine g_iload_n X dX4_yearAt_59 1 rfl rfl ?_
    refine g_isub X dX4_yearAt_60 ?_
    refine g_aload_n X dX4_yearAt_61 0 rfl rfl ?_
    refine g_getI X dX4_yearAt_62 flX4_31 rfl h0 ?_
    refine g_isub X dX4_yearAt_65 ?_
    refine g_iload_n X dX4_yearAt_66 1 rfl rfl ?_
    obtain ⟨e_4, hF⟩ := oguard hF
    refine g_idiv X dX4_yearAt_67 e_4 ?_
    refine g_iadd X dX4_yearAt_68 ?_
    have hF := Option.some.inj hF
    subst hF
    exact g_iret X dX4_yearAt_69 ho
  · rw [if_neg c_3] at hF
    refine g_iload X dX4_yearAt_48 3 rfl ?_
    refine g_goto (tgt := 69) X dX4_yearAt_50 (by decide) ?_
    have hF := Option.some.inj hF
    subst hF
    exact g_iret X dX4_yearAt_69 ho
theorem wX4_yearAt_s27 {z : Mx} {ad : Nat → Nat} {o : Option Value × St} (X : CxOk z ad RX4 cX4_yearAt 6 (some .int) 1) (a0 : Nat) (x1 : Int32) (h0 : KT a0 = 4) (y2 : Int32) (y3 : Int32) (y4 : Int32)    (S : St) (r : Int32) (ho : o = (some (.int r), S)) (hF : fX4_yearAt_s27 a0 x1 y2 y3 y4  S = some r) : GW z ad o S 27 [(0, .ref (ad a0)), (1, .int x1), (2, .int y2), (3, .int y3), (4, .int y4)] [] := by
  unfold fX4_yearAt_s27 at hF
  refine g_iload_n X dX4_yearAt_27 1 rfl rfl ?_
  refine g_iload_n X dX4_yearAt_28 3 rfl rfl ?_
  obtain ⟨e_2, hF⟩ := oguard hF
  refine g_idiv X dX4_yearAt_29 e_2 ?_
  refine g_aload_n X dX4_yearAt_30 0 rfl rfl ?_
  refine g_getI X dX4_yearAt_31 flX4_21 rfl h0 ?_
  refine g_imul X dX4_yearAt_34 ?_
  refine g_istore X dX4_yearAt_35 (by decide) (lv' := [(5, .int ((x1 / y3) * (gI S 4 6 a0))), (0, .ref (ad a0)), (1, .int x1), (2, .int y2), (3, .int y3), (4, .int y4)]) rfl ?_
  exact g_perm [1, 3, 5, 0] rfl (wX4_yearAt_s37 X a0 x1 h0 y2 y4 ((x1 / y3) * (gI S 4 6 a0)) S r ho hF)
theorem wX4_yearAt_s22 {z : Mx} {ad : Nat → Nat} {o : Option Value × St} (X : CxOk z ad RX4 cX4_yearAt 6 (some .int) 1) (a0 : Nat) (x1 : Int32) (h0 : KT a0 = 4) (y2 : Int32) (y3 : Int32)    (S : St) (r : Int32) (ho : o = (some (.int r), S)) (hF : fX4_yearAt_s22 a0 x1 y2 y3  S = some r) : GW z ad o S 22 [(0, .ref (ad a0)), (1, .int x1), (2, .int y2), (3, .int y3)] [] := by
  unfold fX4_yearAt_s22 at hF
  refine g_iload_n X dX4_yearAt_22 1 rfl rfl ?_
  refine g_iload_n X dX4_yearAt_23 3 rfl rfl ?_
  obtain ⟨e_1, hF⟩ := oguard hF
  refine g_irem X dX4_yearAt_24 e_1 ?_
  refine g_istore X dX4_yearAt_25 (by decide) (lv' := [(4, .int (x1 - x1 / y3 * y3)), (0, .ref (ad a0)), (1, .int x1), (2, .int y2), (3, .int y3)]) rfl ?_
  exact g_perm [1, 2, 3, 4, 0] rfl (wX4_yearAt_s27 X a0 x1 h0 y2 y3 (x1 - x1 / y3 * y3) S r ho hF)
theorem wX4_yearAt_s10 {z : Mx} {ad : Nat → Nat} {o : Option Value × St} (X : CxOk z ad RX4 cX4_yearAt 6 (some .int) 1) (a0 : Nat) (x1 : Int32) (h0 : KT a0 = 4) (y2 : Int32)    (S : St) (r : Int32) (ho : o = (some (.int r), S)) (hF : fX4_yearAt_s10 a0 x1 y2  S = some r) : GW z ad o S 10 [(0, .ref (ad a0)), (1, .int x1), (2, .int y2)] [] := by
  unfold fX4_yearAt_s10 at hF
  refine g_iload_n X dX4_yearAt_10 2 rfl rfl ?_
  refine g_aload_n X dX4_yearAt_11 0 rfl rfl ?_
  refine g_getI X dX4_yearAt_12 flX4_21 rfl h0 ?_
  refine g_imul X dX4_yearAt_15 ?_
  refine g_aload_n X dX4_yearAt_16 0 rfl rfl ?_
  refine g_getI X dX4_yearAt_17 flX4_31 rfl h0 ?_
  refine g_iadd X dX4_yearAt_20 ?_
  refine g_istore_n X dX4_yearAt_21 rfl (by decide) (lv' := [(3, .int ((y2 * (gI S 4 6 a0)) + (gI S 4 5 a0))), (0, .ref (ad a0)), (1, .int x1), (2, .int y2)]) rfl ?_
  exact g_perm [1, 2, 3, 0] rfl (wX4_yearAt_s22 X a0 x1 h0 y2 ((y2 * (gI S 4 6 a0)) + (gI S 4 5 a0)) S r ho hF)
theorem wX4_yearAt {z : Mx} {ad : Nat → Nat} {o : Option Value × St} (X : CxOk z ad RX4 cX4_yearAt 6 (some .int) 1) (a0 : Nat) (x1 : Int32) (h0 : KT a0 = 4) (S : St) (r : Int32) (ho : o = (some (.int r), S)) (hF : fX4_yearAt a0 x1 S = some r) : GW z ad o S 0 [(0, .ref (ad a0)), (1, .int x1)] [] := by
  unfold fX4_yearAt at hF
  refine g_aload_n X dX4_yearAt_0 0 rfl rfl ?_
  refine g_getI X dX4_yearAt_1 flX4_9 rfl h0 ?_
  refine g_aload_n X dX4_yearAt_4 0 rfl rfl ?_
  refine g_getI X dX4_yearAt_5 flX4_15 rfl h0 ?_
  refine g_imul X dX4_yearAt_8 ?_
  refine g_istore_n X dX4_yearAt_9 rfl (by decide) (lv' := [(2, .int ((gI S 4 2 a0) * (gI S 4 3 a0))), (0, .ref (ad a0)), (1, .int x1)]) rfl ?_
  exact g_perm [1, 2, 0] rfl (wX4_yearAt_s10 X a0 x1 h0 ((gI S 4 2 a0) * (gI S 4 3 a0)) S r ho hF)
theorem tX4_yearAt {ad : Nat → Nat} (hI : Inj ad) (l : Launch) (D : va_G) (cyy : Nat → ClassId) (a0 : Nat) (x1 : Int32) (h0 : KT a0 = 4) (S : St) (r : Int32) (hF : fX4_yearAt a0 x1 S = some r) : OkM l yX4_yearAt cX4_yearAt 6 (some .int) 1 ad D cyy [.ref (ad a0), .int x1] S (some (.int r), S) := okM_of hI (by decide) (inr_23 _ (List.mem_of_getElem? (i := 8) rfl)) (by show _ ≤ 6; exact Nat.le_of_ble_eq_true rfl) (fun z X => wX4_yearAt X a0 x1 h0 S r rfl hF)
def fX4_longYearsAhead (a0 : Nat) (x1 : Int32) (S : St) : Option Int32 :=
  if (gI S 4 6 a0) = 0 then none else
  some (((x1 + (gI S 4 6 a0)) - (1 : Int32)) / (gI S 4 6 a0))
theorem wX4_longYearsAhead {z : Mx} {ad : Nat → Nat} {o : Option Value × St} (X : CxOk z ad RX4 cX4_longYearsAhead 2 (some .int) 1) (a0 : Nat) (x1 : Int32) (h0 : KT a0 = 4) (S : St) (r : Int32) (ho : o = (some (.int r), S)) (hF : fX4_longYearsAhead a0 x1 S = some r) : GW z ad o S 0 [(0, .ref (ad a0)), (1, .int x1)] [] := by
  unfold fX4_longYearsAhead at hF
  refine g_iload_n X dX4_longYearsAhead_0 1 rfl rfl ?_
  refine g_aload_n X dX4_longYearsAhead_1 0 rfl rfl ?_
  refine g_getI X dX4_longYearsAhead_2 flX4_21 rfl h0 ?_
  refine g_iadd X dX4_longYearsAhead_5 ?_
  refine g_iconst (v := 1) X dX4_longYearsAhead_6 (by decide) ?_
  refine g_isub X dX4_longYearsAhead_7 ?_
  refine g_aload_n X dX4_longYearsAhead_8 0 rfl rfl ?_
  refine g_getI X dX4_longYearsAhead_9 flX4_21 rfl h0 ?_
  obtain ⟨e_1, hF⟩ := oguard hF
  refine g_idiv X dX4_longYearsAhead_12 e_1 ?_
  have hF := Option.some.inj hF
  subst hF
  exact g_iret X dX4_longYearsAhead_13 ho
theorem tX4_longYearsAhead {ad : Nat → Nat} (hI : Inj ad) (l : Launch) (D : va_G) (cyy : Nat → ClassId) (a0 : Nat) (x1 : Int32) (h0 : KT a0 = 4) (S : St) (r : Int32) (hF : fX4_longYearsAhead a0 x1 S = some r) : OkM l yX4_longYearsAhead cX4_longYearsAhead 2 (some .int) 1 ad D cyy [.ref (ad a0), .int x1] S (some (.int r), S) := okM_of hI (by decide) (inr_25 _ (List.mem_of_getElem? (i := 9) rfl)) (by show _ ≤ 2; exact Nat.le_of_ble_eq_true rfl) (fun z X => wX4_longYearsAhead X a0 x1 h0 S r rfl hF)
def fX4_timesUpTo (a0 : Nat) (x1 : Int32) (x2 : Int32) (x3 : Int32) (S : St) : Option Int32 :=
  (fX4_yearAt a0 x1 S).bind fun r_1 =>
  if (gI S 4 2 a0) ≤ x2 then ((fX4_longYearsAhead a0 r_1 S).bind fun r_4 =>
  (fX4_dayInYear a0 x1 S).bind fun r_6 =>
  if r_6 < ((x2 * (gI S 4 3 a0)) + x3) then (some r_4) else
  (some (r_4 + (1 : Int32)))) else
  ((fX4_dayInYear a0 x1 S).bind fun r_9 =>
  if r_9 < ((x2 * (gI S 4 3 a0)) + x3) then (some r_1) else
  (some (r_1 + (1 : Int32))))
theorem wX4_timesUpTo {z : Mx} {ad : Nat → Nat} {o : Option Value × St} (X : CxOk z ad RX4 cX4_timesUpTo 6 (some .int) 2) (a0 : Nat) (x1 : Int32) (x2 : Int32) (x3 : Int32) (h0 : KT a0 = 4) (S : St) (r : Int32) (ho : o = (some (.int r), S)) (hF : fX4_timesUpTo a0 x1 x2 x3 S = some r) : GW z ad o S 0 [(0, .ref (ad a0)), (1, .int x1), (2, .int x2), (3, .int x3)] [] := by
  unfold fX4_timesUpTo at hF
  refine g_aload_n X dX4_timesUpTo_0 0 rfl rfl ?_
  refine g_iload_n X dX4_timesUpTo_1 1 rfl rfl ?_
  obtain ⟨r_1, q_2, hF⟩ := obind hF
  refine g_callVi (As := [.int x1]) X dX4_timesUpTo_2 mlX4_47 (fun l D cyy => tX4_yearAt (cx_inj X) l D cyy a0 x1 h0 S r_1 q_2) h0 (by decide) rfl rfl (Nat.le_of_ble_eq_true rfl) ?_
  refine g_istore X dX4_timesUpTo_5 (by decide) (lv' := [(4, .int r_1), (0, .ref (ad a0)), (1, .int x1), (2, .int x2), (3, .int x3)]) rfl ?_
  refine g_iload_n X dX4_timesUpTo_7 3 rfl rfl ?_
  refine g_aload_n X dX4_timesUpTo_8 1 rfl rfl ?_
  refine g_getI X dX4_timesUpTo_9 flX4_9 rfl h0 ?_
  refine g_icmp_ge (tgt := 20) X dX4_timesUpTo_12 (by decide) (fun c_3 => ?_) (fun c_3 => ?_)
  · rw [if_pos c_3] at hF
    refine g_aload_n X dX4_timesUpTo_20 1 rfl rfl ?_
    refine g_iload X dX4_timesUpTo_21 0 rfl ?_
    obtain ⟨r_4, q_5, hF⟩ := obind hF
    refine g_callVi (As := [.int r_1]) X dX4_timesUpTo_23 mlX4_40 (fun l D cyy => tX4_longYearsAhead (cx_inj X) l D cyy a0 r_1 h0 S r_4 q_5) h0 (by decide) rfl rfl (Nat.le_of_ble_eq_true rfl) ?_
    refine g_istore X dX4_timesUpTo_26 (by decide) (lv' := [(5, .int r_4), (4, .int r_1), (0, .ref (ad a0)), (1, .int x1), (2, .int x2), (3, .int x3)]) rfl ?_
    refine g_aload_n X dX4_timesUpTo_28 2 rfl rfl ?_
    refine g_iload_n X dX4_timesUpTo_29 3 rfl rfl ?_
    obtain ⟨r_6, q_7, hF⟩ := obind hF
    refine g_callVi (As := [.int x1]) X dX4_timesUpTo_30 mlX4_44 (fun l D cyy => tX4_dayInYear (cx_inj X) l D cyy a0 x1 h0 S r_6 q_7) h0 (by decide) rfl rfl (Nat.le_of_ble_eq_true rfl) ?_
    refine g_iload_n X dX4_timesUpTo_33 4 rfl rfl ?_
    refine g_aload_n X dX4_timesUpTo_34 2 rfl rfl ?_
    refine g_getI X dX4_timesUpTo_35 flX4_15 rfl h0 ?_
    refine g_imul X dX4_timesUpTo_38 ?_
    refine g_iload_n X dX4_timesUpTo_39 5 rfl rfl ?_
    refine g_iadd X dX4_timesUpTo_40 ?_
    refine g_icmp_lt (tgt := 51) X dX4_timesUpTo_41 (by decide) (fun c_8 => ?_) (fun c_8 => ?_)
    · rw [if_pos c_8] at hF
      refine g_iload X dX4_timesUpTo_51 0 rfl ?_
      have hF := Option.some.inj hF
      subst hF
      exact g_iret X dX4_timesUpTo_53 ho
    · rw [if_neg c_8] at hF
      refine g_iload X dX4_timesUpTo_44 0 rfl ?_
      refine g_iconst (v := 1) X dX4_timesUpTo_46 (by decide) ?_
      refine g_iadd X dX4_timesUpTo_47 ?_
      refine g_goto (tgt := 53) X dX4_timesUpTo_48 (by decide) ?_
      have hF := Option.some.inj hF
      subst hF
      exact g_iret X dX4_timesUpTo_53 ho
  · rw [if_neg c_3] at hF
    refine g_iload X dX4_timesUpTo_15 0 rfl ?_
    refine g_goto (tgt := 26) X dX4_timesUpTo_17 (by decide) ?_
    refine g_istore X dX4_timesUpTo_26 (by decide) (lv' := [(5, .int r_1), (4, .int r_1), (0, .ref (ad a0)), (1, .int x1), (2, .int x2), (3, .int x3)]) rfl ?_
    refine g_aload_n X dX4_timesUpTo_28 2 rfl rfl ?_
    refine g_iload_n X dX4_timesUpTo_29 3 rfl rfl ?_
    obtain ⟨r_9, q_10, hF⟩ := obind hF
    refine g_callVi (As := [.int x1]) X dX4_timesUpTo_30 mlX4_44 (fun l D cyy => tX4_dayInYear (cx_inj X) l D cyy a0 x1 h0 S r_9 q_10) h0 (by decide) rfl rfl (Nat.le_of_ble_eq_true rfl) ?_
    refine g_iload_n X dX4_timesUpTo_33 4 rfl rfl ?_
    refine g_aload_n X dX4_timesUpTo_34 2 rfl rfl ?_
    refine g_getI X dX4_timesUpTo_35 flX4_15 rfl h0 ?_
    refine g_imul X dX4_timesUpTo_38 ?_
    refine g_iload_n X dX4_timesUpTo_39 5 rfl rfl ?_
    refine g_iadd X dX4_timesUpTo_40 ?_
    refine g_icmp_lt (tgt := 51) X dX4_timesUpTo_41 (by decide) (fun c_11 => ?_) (fun c_11 => ?_)
    · rw [if_pos c_11] at hF
      refine g_iload X dX4_timesUpTo_51 0 rfl ?_
      have hF := Option.some.inj hF
      subst hF
      exact g_iret X dX4_timesUpTo_53 ho
    · rw [if_neg c_11] at hF
      refine g_iload X dX4_timesUpTo_44 0 rfl ?_
      refine g_iconst (v := 1) X dX4_timesUpTo_46 (by decide) ?_
      refine g_iadd X dX4_timesUpTo_47 ?_
      refine g_goto (tgt := 53) X dX4_timesUpTo_48 (by decide) ?_
      have hF := Option.some.inj hF
      subst hF
      exact g_iret X dX4_timesUpTo_53 ho
theorem tX4_timesUpTo {ad : Nat → Nat} (hI : Inj ad) (l : Launch) (D : va_G) (cyy : Nat → ClassId) (a0 : Nat) (x1 : Int32) (x2 : Int32) (x3 : Int32) (h0 : KT a0 = 4) (S : St) (r : Int32) (hF : fX4_timesUpTo a0 x1 x2 x3 S = some r) : OkM l yX4_timesUpTo cX4_timesUpTo 6 (some .int) 2 ad D cyy [.ref (ad a0), .int x1, .int x2, .int x3] S (some (.int r), S) := okM_of hI (by decide) (inr_35 _ (List.mem_of_getElem? (i := 15) rfl)) (by show _ ≤ 6; exact Nat.le_of_ble_eq_true rfl) (fun z X => wX4_timesUpTo X a0 x1 x2 x3 h0 S r rfl hF)
def fX4_startOfYear (a0 : Nat) (x1 : Int32) (S : St) : Option Int32 :=
  (fX4_longYearsAhead a0 x1 S).bind fun r_1 =>
  some (((x1 * (gI S 4 2 a0)) * (gI S 4 3 a0)) + ((gI S 4 5 a0) * r_1))
theorem wX4_startOfYear {z : Mx} {ad : Nat → Nat} {o : Option Value × St} (X : CxOk z ad RX4 cX4_startOfYear 2 (some .int) 2) (a0 : Nat) (x1 : Int32) (h0 : KT a0 = 4) (S : St) (r : Int32) (ho : o = (some (.int r), S)) (hF : fX4_startOfYear a0 x1 S = some r) : GW z ad o S 0 [(0, .ref (ad a0)), (1, .int x1)] [] := by
  unfold fX4_startOfYear at hF
  refine g_iload_n X dX4_startOfYear_0 1 rfl rfl ?_
  refine g_aload_n X dX4_startOfYear_1 0 rfl rfl ?_
  refine g_getI X dX4_startOfYear_2 flX4_9 rfl h0 ?_
  refine g_imul X dX4_startOfYear_5 ?_
  refine g_aload_n X dX4_startOfYear_6 0 rfl rfl ?_
  refine g_getI X dX4_startOfYear_7 flX4_15 rfl h0 ?_
  refine g_imul X dX4_startOfYear_10 ?_
  refine g_aload_n X dX4_startOfYear_11 0 rfl rfl ?_
  refine g_getI X dX4_startOfYear_12 flX4_31 rfl h0 ?_
  refine g_aload_n X dX4_startOfYear_15 0 rfl rfl ?_
  refine g_iload_n X dX4_startOfYear_16 1 rfl rfl ?_
  obtain ⟨r_1, q_2, hF⟩ := obind hF
  refine g_callVi (As := [.int x1]) X dX4_startOfYear_17 mlX4_40 (fun l D cyy => tX4_longYearsAhead (cx_inj X) l D cyy a0 x1 h0 S r_1 q_2) h0 (by decide) rfl rfl (Nat.le_of_ble_eq_true rfl) ?_
  refine g_imul X dX4_startOfYear_20 ?_
  refine g_iadd X dX4_startOfYear_21 ?_
  have hF := Option.some.inj hF
  subst hF
  exact g_iret X dX4_startOfYear_22 ho
theorem tX4_startOfYear {ad : Nat → Nat} (hI : Inj ad) (l : Launch) (D : va_G) (cyy : Nat → ClassId) (a0 : Nat) (x1 : Int32) (h0 : KT a0 = 4) (S : St) (r : Int32) (hF : fX4_startOfYear a0 x1 S = some r) : OkM l yX4_startOfYear cX4_startOfYear 2 (some .int) 2 ad D cyy [.ref (ad a0), .int x1] S (some (.int r), S) := okM_of hI (by decide) (inr_25 _ (List.mem_of_getElem? (i := 5) rfl)) (by show _ ≤ 2; exact Nat.le_of_ble_eq_true rfl) (fun z X => wX4_startOfYear X a0 x1 h0 S r rfl hF)
def fX4_countFrom_s10 (a0 : Nat) (x1 : Int32) (x2 : Int32) (x3 : Int32) (y4 : Int32)  (S : St) : Option Int32 :=
  (fX4_dayInYear a0 x1 S).bind fun r_1 =>
  if y4 < r_1 then ((fX4_yearAt a0 x1 S).bind fun r_4 =>
  (fX4_startOfYear a0 (r_4 + (1 : Int32)) S).bind fun r_6 =>
  some (r_6 + y4)) else
  (some ((x1 - r_1) + y4))
def fX4_countFrom (a0 : Nat) (x1 : Int32) (x2 : Int32) (x3 : Int32) (S : St) : Option Int32 :=
  fX4_countFrom_s10 a0 x1 x2 x3 ((x2 * (gI S 4 3 a0)) + x3) S
theorem wX4_countFrom_s10 {z : Mx} {ad : Nat → Nat} {o : Option Value × St} (X : CxOk z ad RX4 cX4_countFrom 6 (some .int) 3) (a0 : Nat) (x1 : Int32) (x2 : Int32) (x3 : Int32) (h0 : KT a0 = 4) (y4 : Int32)    (S : St) (r : Int32) (ho : o = (some (.int r), S)) (hF : fX4_countFrom_s10 a0 x1 x2 x3 y4  S = some r) : GW z ad o S 10 [(0, .ref (ad a0)), (1, .int x1), (4, .int y4)] [] := by
  unfold fX4_countFrom_s10 at hF
  refine g_aload_n X dX4_countFrom_10 0 rfl rfl ?_
  refine g_iload_n X dX4_countFrom_11 1 rfl rfl ?_
  obtain ⟨r_1, q_2, hF⟩ := obind hF
  refine g_callVi (As := [.int x1]) X dX4_countFrom_12 mlX4_44 (fun l D cyy => tX4_dayInYear (cx_inj X) l D cyy a0 x1 h0 S r_1 q_2) h0 (by decide) rfl rfl (Nat.le_of_ble_eq_true rfl) ?_
  refine g_istore X dX4_countFrom_15 (by decide) (lv' := [(5, .int r_1), (0, .ref (ad a0)), (1, .int x1), (4, .int y4)]) rfl ?_
  refine g_iload X dX4_countFrom_17 0 rfl ?_
  refine g_iload X dX4_countFrom_19 3 rfl ?_
  refine g_icmp_gt (tgt := 34) X dX4_countFrom_21 (by decide) (fun c_3 => ?_) (fun c_3 => ?_)
  · rw [if_pos c_3] at hF
    refine g_aload_n X dX4_countFrom_34 1 rfl rfl ?_
    refine g_aload_n X dX4_countFrom_35 1 rfl rfl ?_
    refine g_iload_n X dX4_countFrom_36 2 rfl rfl ?_
    obtain ⟨r_4, q_5, hF⟩ := obind hF
    refine g_callVi (As := [.int x1]) X dX4_countFrom_37 mlX4_47 (fun l D cyy => tX4_yearAt (cx_inj X) l D cyy a0 x1 h0 S r_4 q_5) h0 (by decide) rfl rfl (Nat.le_of_ble_eq_true rfl) ?_
    refine g_iconst (v := 1) X dX4_countFrom_40 (by decide) ?_
    refine g_iadd X dX4_countFrom_41 ?_
    obtain ⟨r_6, q_7, hF⟩ := obind hF
    refine g_callVi (As := [.int (r_4 + (1 : Int32))]) X dX4_countFrom_42 mlX4_53 (fun l D cyy => tX4_startOfYear (cx_inj X) l D cyy a0 (r_4 + (1 : Int32)) h0 S r_6 q_7) h0 (by decide) rfl rfl (Nat.le_of_ble_eq_true rfl) ?_
    refine g_iload X dX4_countFrom_45 3 rfl ?_
    refine g_iadd X dX4_countFrom_47 ?_
    have hF := Option.some.inj hF
    subst hF
    exact g_iret X dX4_countFrom_48 ho
  · rw [if_neg c_3] at hF
    refine g_iload_n X dX4_countFrom_24 2 rfl rfl ?_
    refine g_iload X dX4_countFrom_25 0 rfl ?_
    refine g_isub X dX4_countFrom_27 ?_
    refine g_iload X dX4_countFrom_28 3 rfl ?_
    refine g_iadd X dX4_countFrom_30 ?_
    refine g_goto (tgt := 48) X dX4_countFrom_31 (by decide) ?_
    have hF := Option.some.inj hF
    subst hF
    exact g_iret X dX4_countFrom_48 ho
theorem wX4_countFrom {z : Mx} {ad : Nat → Nat} {o : Option Value × St} (X : CxOk z ad RX4 cX4_countFrom 6 (some .int) 3) (a0 : Nat) (x1 : Int32) (x2 : Int32) (x3 : Int32) (h0 : KT a0 = 4) (S : St) (r : Int32) (ho : o = (some (.int r), S)) (hF : fX4_countFrom a0 x1 x2 x3 S = some r) : GW z ad o S 0 [(0, .ref (ad a0)), (1, .int x1), (2, .int x2), (3, .int x3)] [] := by
  unfold fX4_countFrom at hF
  refine g_iload_n X dX4_countFrom_0 2 rfl rfl ?_
  refine g_aload_n X dX4_countFrom_1 0 rfl rfl ?_
  refine g_getI X dX4_countFrom_2 flX4_15 rfl h0 ?_
  refine g_imul X dX4_countFrom_5 ?_
  refine g_iload_n X dX4_countFrom_6 3 rfl rfl ?_
  refine g_iadd X dX4_countFrom_7 ?_
  refine g_istore X dX4_countFrom_8 (by decide) (lv' := [(4, .int ((x2 * (gI S 4 3 a0)) + x3)), (0, .ref (ad a0)), (1, .int x1), (2, .int x2), (3, .int x3)]) rfl ?_
  exact g_perm [1, 2, 0] rfl (wX4_countFrom_s10 X a0 x1 x2 x3 h0 ((x2 * (gI S 4 3 a0)) + x3) S r ho hF)
theorem tX4_countFrom {ad : Nat → Nat} (hI : Inj ad) (l : Launch) (D : va_G) (cyy : Nat → ClassId) (a0 : Nat) (x1 : Int32) (x2 : Int32) (x3 : Int32) (h0 : KT a0 = 4) (S : St) (r : Int32) (hF : fX4_countFrom a0 x1 x2 x3 S = some r) : OkM l yX4_countFrom cX4_countFrom 6 (some .int) 3 ad D cyy [.ref (ad a0), .int x1, .int x2, .int x3] S (some (.int r), S) := okM_of hI (by decide) (inr_34 _ (List.mem_of_getElem? (i := 11) rfl)) (by show _ ≤ 6; exact Nat.le_of_ble_eq_true rfl) (fun z X => wX4_countFrom X a0 x1 x2 x3 h0 S r rfl hF)
def fX4_called (a0 : Nat) (x1 : Int32) (x2 : Int32) (S : St) : Option Int32 :=
  if x2 = 0 then ((fX4_yearAt a0 x1 S).bind fun r_2 =>
  some r_2) else
  (if x2 = 1 then ((fX4_dateAt a0 x1 S).bind fun r_5 =>
  some (r_5 / (32 : Int32))) else
  (if x2 = 2 then ((fX4_dateAt a0 x1 S).bind fun r_8 =>
  some (r_8 - r_8 / (32 : Int32) * (32 : Int32))) else
  (if (gI S 4 4 a0) = 0 then none else
  some (x1 - x1 / (gI S 4 4 a0) * (gI S 4 4 a0)))))
theorem wX4_called {z : Mx} {ad : Nat → Nat} {o : Option Value × St} (X : CxOk z ad RX4 cX4_called 3 (some .int) 3) (a0 : Nat) (x1 : Int32) (x2 : Int32) (h0 : KT a0 = 4) (S : St) (r : Int32) (ho : o = (some (.int r), S)) (hF : fX4_called a0 x1 x2 S = some r) : GW z ad o S 0 [(0, .ref (ad a0)), (1, .int x1), (2, .int x2)] [] := by
  unfold fX4_called at hF
  refine g_iload_n X dX4_called_0 2 rfl rfl ?_
  by_cases c_1 : x2 = 0
  · rw [if_pos c_1] at hF
    refine g_tabIn (tgt := 28) (off := 27) X dX4_called_1 (by rw [c_1]; decide) (by rw [c_1]; decide) (by rw [c_1]; decide) (by decide) ?_
    refine g_aload_n X dX4_called_28 0 rfl rfl ?_
    refine g_iload_n X dX4_called_29 1 rfl rfl ?_
    obtain ⟨r_2, q_3, hF⟩ := obind hF
    refine g_callVi (As := [.int x1]) X dX4_called_30 mlX4_47 (fun l D cyy => tX4_yearAt (cx_inj X) l D cyy a0 x1 h0 S r_2 q_3) h0 (by decide) rfl rfl (Nat.le_of_ble_eq_true rfl) ?_
    have hF := Option.some.inj hF
    subst hF
    exact g_iret X dX4_called_33 ho
  rw [if_neg c_1] at hF
  by_cases c_4 : x2 = 1
  · rw [if_pos c_4] at hF
    refine g_tabIn (tgt := 34) (off := 33) X dX4_called_1 (by rw [c_4]; decide) (by rw [c_4]; decide) (by rw [c_4]; decide) (by decide) ?_
    refine g_aload_n X dX4_called_34 0 rfl rfl ?_
    refine g_iload_n X dX4_called_35 1 rfl rfl ?_
    obtain ⟨r_5, q_6, hF⟩ := obind hF
    refine g_callVi (As := [.int x1]) X dX4_called_36 mlX4_50 (fun l D cyy => tX4_dateAt (cx_inj X) l D cyy a0 x1 h0 S r_5 q_6) h0 (by decide) rfl rfl (Nat.le_of_ble_eq_true rfl) ?_
    refine g_bipush (v := 32) X dX4_called_39 (by decide) ?_
    refine g_idiv X dX4_called_41 (by decide) ?_
    have hF := Option.some.inj hF
    subst hF
    exact g_iret X dX4_called_42 ho
  rw [if_neg c_4] at hF
  by_cases c_7 : x2 = 2
  · rw [if_pos c_7] at hF
    refine g_tabIn (tgt := 43) (off := 42) X dX4_called_1 (by rw [c_7]; decide) (by rw [c_7]; decide) (by rw [c_7]; decide) (by decide) ?_
    refine g_aload_n X dX4_called_43 0 rfl rfl ?_
    refine g_iload_n X dX4_called_44 1 rfl rfl ?_
    obtain ⟨r_8, q_9, hF⟩ := obind hF
    refine g_callVi (As := [.int x1]) X dX4_called_45 mlX4_50 (fun l D cyy => tX4_dateAt (cx_inj X) l D cyy a0 x1 h0 S r_8 q_9) h0 (by decide) rfl rfl (Nat.le_of_ble_eq_true rfl) ?_
    refine g_bipush (v := 32) X dX4_called_48 (by decide) ?_
    refine g_irem X dX4_called_50 (by decide) ?_
    have hF := Option.some.inj hF
    subst hF
    exact g_iret X dX4_called_51 ho
  rw [if_neg c_7] at hF
  have c_11 : (x2).toInt < 0 ∨ 2 < (x2).toInt := by
    have := ti_ne (n := 0) c_1 (by decide)
    have := ti_ne (n := 1) c_4 (by decide)
    have := ti_ne (n := 2) c_7 (by decide)
    omega
  refine g_tabOut (tgt := 52) X dX4_called_1 c_11 (by decide) ?_
  refine g_iload_n X dX4_called_52 1 rfl rfl ?_
  refine g_aload_n X dX4_called_53 0 rfl rfl ?_
  refine g_getI X dX4_called_54 flX4_18 rfl h0 ?_
  obtain ⟨e_10, hF⟩ := oguard hF
  refine g_irem X dX4_called_57 e_10 ?_
  have hF := Option.some.inj hF
  subst hF
  exact g_iret X dX4_called_58 ho
theorem tX4_called {ad : Nat → Nat} (hI : Inj ad) (l : Launch) (D : va_G) (cyy : Nat → ClassId) (a0 : Nat) (x1 : Int32) (x2 : Int32) (h0 : KT a0 = 4) (S : St) (r : Int32) (hF : fX4_called a0 x1 x2 S = some r) : OkM l yX4_called cX4_called 3 (some .int) 3 ad D cyy [.ref (ad a0), .int x1, .int x2] S (some (.int r), S) := okM_of hI (by decide) (inr_23 _ (List.mem_of_getElem? (i := 4) rfl)) (by show _ ≤ 3; exact Nat.le_of_ble_eq_true rfl) (fun z X => wX4_called X a0 x1 x2 h0 S r rfl hF)
def fX4_countAt_s63 (a0 : Nat) (x1 : Int32) (x2 : Int32) (x3 : Int32) (y4 : Int32)  (S : St) : Option Int32 :=
  if y4 ≤ x3 then (some (-1 : Int32)) else
  ((fX4_startOfYear a0 x1 S).bind fun r_13 =>
  some ((r_13 + (x2 * (gI S 4 3 a0))) + x3))
def fX4_countAt (a0 : Nat) (x1 : Int32) (x2 : Int32) (x3 : Int32) (S : St) : Option Int32 :=
  if x1 < 0 then (some (-1 : Int32)) else
  (if (999 : Int32) < x1 then (some (-1 : Int32)) else
  (if x2 < 0 then (some (-1 : Int32)) else
  (if (gI S 4 2 a0) < x2 then (some (-1 : Int32)) else
  (if 0 ≤ x3 then (if (gI S 4 2 a0) ≤ x2 then (if (gI S 4 6 a0) = 0 then none else
  if (x1 - x1 / (gI S 4 6 a0) * (gI S 4 6 a0)) = 0 then (fX4_countAt_s63 a0 x1 x2 x3 (gI S 4 5 a0) S) else
  (if (0 : Int32) ≤ x3 then (some (-1 : Int32)) else
  ((fX4_startOfYear a0 x1 S).bind fun r_10 =>
  some ((r_10 + (x2 * (gI S 4 3 a0))) + x3)))) else
  (fX4_countAt_s63 a0 x1 x2 x3 (gI S 4 3 a0) S)) else
  (some (-1 : Int32))))))
theorem wX4_countAt_s63 {z : Mx} {ad : Nat → Nat} {o : Option Value × St} (X : CxOk z ad RX4 cX4_countAt 5 (some .int) 3) (a0 : Nat) (x1 : Int32) (x2 : Int32) (x3 : Int32) (h0 : KT a0 = 4) (y4 : Int32)    (S : St) (r : Int32) (ho : o = (some (.int r), S)) (hF : fX4_countAt_s63 a0 x1 x2 x3 y4  S = some r) : GW z ad o S 63 [(0, .ref (ad a0)), (1, .int x1), (2, .int x2), (3, .int x3), (4, .int y4)] [] := by
  unfold fX4_countAt_s63 at hF
  refine g_iload_n X dX4_countAt_63 3 rfl rfl ?_
  refine g_iload X dX4_countAt_64 4 rfl ?_
  refine g_icmp_ge (tgt := 86) X dX4_countAt_66 (by decide) (fun c_12 => ?_) (fun c_12 => ?_)
  · rw [if_pos c_12] at hF
    refine g_iconst (v := -1) X dX4_countAt_86 (by decide) ?_
    have hF := Option.some.inj hF
    subst hF
    exact g_iret X dX4_countAt_87 ho
  · rw [if_neg c_12] at hF
    refine g_aload_n X dX4_countAt_69 0 rfl rfl ?_
    refine g_iload_n X dX4_countAt_70 1 rfl rfl ?_
    obtain ⟨r_13, q_14, hF⟩ := obind hF
    refine g_callVi (As := [.int x1]) X dX4_countAt_71 mlX4_53 (fun l D cyy => tX4_startOfYear (cx_inj X) l D cyy a0 x1 h0 S r_13 q_14) h0 (by decide) rfl rfl (Nat.le_of_ble_eq_true rfl) ?_
    refine g_iload_n X dX4_countAt_74 2 rfl rfl ?_
    refine g_aload_n X dX4_countAt_75 0 rfl rfl ?_
    refine g_getI X dX4_countAt_76 flX4_15 rfl h0 ?_
    refine g_imul X dX4_countAt_79 ?_
    refine g_iadd X dX4_countAt_80 ?_
    refine g_iload_n X dX4_countAt_81 3 rfl rfl ?_
    refine g_iadd X dX4_countAt_82 ?_
    refine g_goto (tgt := 87) X dX4_countAt_83 (by decide) ?_
    have hF := Option.some.inj hF
    subst hF
    exact g_iret X dX4_countAt_87 ho
theorem wX4_countAt {z : Mx} {ad : Nat → Nat} {o : Option Value × St} (X : CxOk z ad RX4 cX4_countAt 5 (some .int) 3) (a0 : Nat) (x1 : Int32) (x2 : Int32) (x3 : Int32) (h0 : KT a0 = 4) (S : St) (r : Int32) (ho : o = (some (.int r), S)) (hF : fX4_countAt a0 x1 x2 x3 S = some r) : GW z ad o S 0 [(0, .ref (ad a0)), (1, .int x1), (2, .int x2), (3, .int x3)] [] := by
  unfold fX4_countAt at hF
  refine g_iload_n X dX4_countAt_0 1 rfl rfl ?_
  refine g_if_lt (tgt := 27) X dX4_countAt_1 (by decide) (fun c_1 => ?_) (fun c_1 => ?_)
  · rw [if_pos c_1] at hF
    refine g_iconst (v := -1) X dX4_countAt_27 (by decide) ?_
    have hF := Option.some.inj hF
    subst hF
    exact g_iret X dX4_countAt_28 ho
  · rw [if_neg c_1] at hF
    refine g_iload_n X dX4_countAt_4 1 rfl rfl ?_
    refine g_sipush (v := 999) X dX4_countAt_5 (by decide) ?_
    refine g_icmp_gt (tgt := 27) X dX4_countAt_8 (by decide) (fun c_2 => ?_) (fun c_2 => ?_)
    · rw [if_pos c_2] at hF
      refine g_iconst (v := -1) X dX4_countAt_27 (by decide) ?_
      have hF := Option.some.inj hF
      subst hF
      exact g_iret X dX4_countAt_28 ho
    · rw [if_neg c_2] at hF
      refine g_iload_n X dX4_countAt_11 2 rfl rfl ?_
      refine g_if_lt (tgt := 27) X dX4_countAt_12 (by decide) (fun c_3 => ?_) (fun c_3 => ?_)
      · rw [if_pos c_3] at hF
        refine g_iconst (v := -1) X dX4_countAt_27 (by decide) ?_
        have hF := Option.some.inj hF
        subst hF
        exact g_iret X dX4_countAt_28 ho
      · rw [if_neg c_3] at hF
        refine g_iload_n X dX4_countAt_15 2 rfl rfl ?_
        refine g_aload_n X dX4_countAt_16 0 rfl rfl ?_
        refine g_getI X dX4_countAt_17 flX4_9 rfl h0 ?_
        refine g_icmp_gt (tgt := 27) X dX4_countAt_20 (by decide) (fun c_4 => ?_) (fun c_4 => ?_)
        · rw [if_pos c_4] at hF
          refine g_iconst (v := -1) X dX4_countAt_27 (by decide) ?_
          have hF := Option.some.inj hF
          subst hF
          exact g_iret X dX4_countAt_28 ho
        · rw [if_neg c_4] at hF
          refine g_iload_n X dX4_countAt_23 3 rfl rfl ?_
          refine g_if_ge (tgt := 29) X dX4_countAt_24 (by decide) (fun c_5 => ?_) (fun c_5 => ?_)
          · rw [if_pos c_5] at hF
            refine g_iload_n X dX4_countAt_29 2 rfl rfl ?_
            refine g_aload_n X dX4_countAt_30 0 rfl rfl ?_
            refine g_getI X dX4_countAt_31 flX4_9 rfl h0 ?_
            refine g_icmp_ge (tgt := 44) X dX4_countAt_34 (by decide) (fun c_6 => ?_) (fun c_6 => ?_)
            · rw [if_pos c_6] at hF
              refine g_iload_n X dX4_countAt_44 1 rfl rfl ?_
              refine g_aload_n X dX4_countAt_45 0 rfl rfl ?_
              refine g_getI X dX4_countAt_46 flX4_21 rfl h0 ?_
              obtain ⟨e_7, hF⟩ := oguard hF
              refine g_irem X dX4_countAt_49 e_7 ?_
              refine g_if_ne (tgt := 60) X dX4_countAt_50 (by decide) (fun c_8 => ?_) (fun c_8 => ?_)
              · rw [if_neg c_8] at hF
                refine g_iconst (v := 0) X dX4_countAt_60 (by decide) ?_
                refine g_istore X dX4_countAt_61 (by decide) (lv' := [(4, .int (0 : Int32)), (0, .ref (ad a0)), (1, .int x1), (2, .int x2), (3, .int x3)]) rfl ?_
                refine g_iload_n X dX4_countAt_63 4 rfl rfl ?_
                refine g_iload X dX4_countAt_64 0 rfl ?_
                refine g_icmp_ge (tgt := 86) X dX4_countAt_66 (by decide) (fun c_9 => ?_) (fun c_9 => ?_)
                · rw [if_pos c_9] at hF
                  refine g_iconst (v := -1) X dX4_countAt_86 (by decide) ?_
                  have hF := Option.some.inj hF
                  subst hF
                  exact g_iret X dX4_countAt_87 ho
                · rw [if_neg c_9] at hF
                  refine g_aload_n X dX4_countAt_69 1 rfl rfl ?_
                  refine g_iload_n X dX4_countAt_70 2 rfl rfl ?_
                  obtain ⟨r_10, q_11, hF⟩ := obind hF
                  refine g_callVi (As := [.int x1]) X dX4_countAt_71 mlX4_53 (fun l D cyy => tX4_startOfYear (cx_inj X) l D cyy a0 x1 h0 S r_10 q_11) h0 (by decide) rfl rfl (Nat.le_of_ble_eq_true rfl) ?_
                  refine g_iload_n X dX4_countAt_74 3 rfl rfl ?_
                  refine g_aload_n X dX4_countAt_75 1 rfl rfl ?_
                  refine g_getI X dX4_countAt_76 flX4_15 rfl h0 ?_
                  refine g_imul X dX4_countAt_79 ?_
                  refine g_iadd X dX4_countAt_80 ?_
                  refine g_iload_n X dX4_countAt_81 4 rfl rfl ?_
                  refine g_iadd X dX4_countAt_82 ?_
                  refine g_goto (tgt := 87) X dX4_countAt_83 (by decide) ?_
                  have hF := Option.some.inj hF
                  subst hF
                  exact g_iret X dX4_countAt_87 ho
              · rw [if_pos c_8] at hF
                refine g_aload_n X dX4_countAt_53 0 rfl rfl ?_
                refine g_getI X dX4_countAt_54 flX4_31 rfl h0 ?_
                refine g_goto (tgt := 61) X dX4_countAt_57 (by decide) ?_
                refine g_istore X dX4_countAt_61 (by decide) (lv' := [(4, .int (gI S 4 5 a0)), (0, .ref (ad a0)), (1, .int x1), (2, .int x2), (3, .int x3)]) rfl ?_
                exact g_perm [1, 2, 3, 4, 0] rfl (wX4_countAt_s63 X a0 x1 x2 x3 h0 (gI S 4 5 a0) S r ho hF)
            · rw [if_neg c_6] at hF
              refine g_aload_n X dX4_countAt_37 0 rfl rfl ?_
              refine g_getI X dX4_countAt_38 flX4_15 rfl h0 ?_
              refine g_goto (tgt := 61) X dX4_countAt_41 (by decide) ?_
              refine g_istore X dX4_countAt_61 (by decide) (lv' := [(4, .int (gI S 4 3 a0)), (0, .ref (ad a0)), (1, .int x1), (2, .int x2), (3, .int x3)]) rfl ?_
              exact g_perm [1, 2, 3, 4, 0] rfl (wX4_countAt_s63 X a0 x1 x2 x3 h0 (gI S 4 3 a0) S r ho hF)
          · rw [if_neg c_5] at hF
            refine g_iconst (v := -1) X dX4_countAt_27 (by decide) ?_
            have hF := Option.some.inj hF
            subst hF
            exact g_iret X dX4_countAt_28 ho
theorem tX4_countAt {ad : Nat → Nat} (hI : Inj ad) (l : Launch) (D : va_G) (cyy : Nat → ClassId) (a0 : Nat) (x1 : Int32) (x2 : Int32) (x3 : Int32) (h0 : KT a0 = 4) (S : St) (r : Int32) (hF : fX4_countAt a0 x1 x2 x3 S = some r) : OkM l yX4_countAt cX4_countAt 5 (some .int) 3 ad D cyy [.ref (ad a0), .int x1, .int x2, .int x3] S (some (.int r), S) := okM_of hI (by decide) (inr_25 _ (List.mem_of_getElem? (i := 1) rfl)) (by show _ ≤ 5; exact Nat.le_of_ble_eq_true rfl) (fun z X => wX4_countAt X a0 x1 x2 x3 h0 S r rfl hF)
def fX4_isBetween (a0 : Nat) (x1 : Int32) (S : St) : Option Int32 :=
  (fX4_dayInYear a0 x1 S).bind fun r_1 =>
  if r_1 < ((gI S 4 2 a0) * (gI S 4 3 a0)) then (some (0 : Int32)) else
  (some (1 : Int32))
theorem wX4_isBetween {z : Mx} {ad : Nat → Nat} {o : Option Value × St} (X : CxOk z ad RX4 cX4_isBetween 2 (some .boolean) 2) (a0 : Nat) (x1 : Int32) (h0 : KT a0 = 4) (S : St) (r : Int32) (ho : o = (some (.int r), S)) (hF : fX4_isBetween a0 x1 S = some r) : GW z ad o S 0 [(0, .ref (ad a0)), (1, .int x1)] [] := by
  unfold fX4_isBetween at hF
  refine g_aload_n X dX4_isBetween_0 0 rfl rfl ?_
  refine g_iload_n X dX4_isBetween_1 1 rfl rfl ?_
  obtain ⟨r_1, q_2, hF⟩ := obind hF
  refine g_callVi (As := [.int x1]) X dX4_isBetween_2 mlX4_44 (fun l D cyy => tX4_dayInYear (cx_inj X) l D cyy a0 x1 h0 S r_1 q_2) h0 (by decide) rfl rfl (Nat.le_of_ble_eq_true rfl) ?_
  refine g_aload_n X dX4_isBetween_5 0 rfl rfl ?_
  refine g_getI X dX4_isBetween_6 flX4_9 rfl h0 ?_
  refine g_aload_n X dX4_isBetween_9 0 rfl rfl ?_
  refine g_getI X dX4_isBetween_10 flX4_15 rfl h0 ?_
  refine g_imul X dX4_isBetween_13 ?_
  refine g_icmp_lt (tgt := 21) X dX4_isBetween_14 (by decide) (fun c_3 => ?_) (fun c_3 => ?_)
  · rw [if_pos c_3] at hF
    refine g_iconst (v := 0) X dX4_isBetween_21 (by decide) ?_
    have hF := Option.some.inj hF
    subst hF
    exact g_zret X dX4_isBetween_22 (by decide) ho
  · rw [if_neg c_3] at hF
    refine g_iconst (v := 1) X dX4_isBetween_17 (by decide) ?_
    refine g_goto (tgt := 22) X dX4_isBetween_18 (by decide) ?_
    have hF := Option.some.inj hF
    subst hF
    exact g_zret X dX4_isBetween_22 (by decide) ho
theorem tX4_isBetween {ad : Nat → Nat} (hI : Inj ad) (l : Launch) (D : va_G) (cyy : Nat → ClassId) (a0 : Nat) (x1 : Int32) (h0 : KT a0 = 4) (S : St) (r : Int32) (hF : fX4_isBetween a0 x1 S = some r) : OkM l yX4_isBetween cX4_isBetween 2 (some .boolean) 2 ad D cyy [.ref (ad a0), .int x1] S (some (.int r), S) := okM_of hI (by decide) (inr_29 _ (List.mem_of_getElem? (i := 6) rfl)) (by show _ ≤ 2; exact Nat.le_of_ble_eq_true rfl) (fun z X => wX4_isBetween X a0 x1 h0 S r rfl hF)
def fX4_tellName_s15 (a0 : Nat) (x1 : Int64) (x3 : Int32)   (S : St) : St :=
  (sI S 4 6 a0 (1 : Int32))
def fX4_tellName_s10 (a0 : Nat) (x1 : Int64) (x3 : Int32)   (S : St) : St :=
  fX4_tellName_s15 a0 x1 x3 (sI S 4 5 a0 (0 : Int32))
def fX4_tellName_s5 (a0 : Nat) (x1 : Int64) (x3 : Int32)   (S : St) : St :=
  fX4_tellName_s10 a0 x1 x3 (sI S 4 1 a0 x3)
def fX4_tellName (a0 : Nat) (x1 : Int64) (x3 : Int32) (S : St) : St :=
  fX4_tellName_s5 a0 x1 x3 (sJ S 4 0 a0 x1)
theorem wX4_tellName_s15 {z : Mx} {ad : Nat → Nat} {o : Option Value × St} (X : CxOk z ad RX4 cX4_tellName 4 none 1) (a0 : Nat) (x1 : Int64) (x3 : Int32) (h0 : KT a0 = 4)     (S : St) (r : St) (ho : o = (none, r)) (hF : fX4_tellName_s15 a0 x1 x3   S = r) : GW z ad o S 15 [(0, .ref (ad a0))] [] := by
  unfold fX4_tellName_s15 at hF
  refine g_aload_n X dX4_tellName_15 0 rfl rfl ?_
  refine g_iconst (v := 1) X dX4_tellName_16 (by decide) ?_
  refine g_putI X dX4_tellName_17 fpX4_21 rfl rfl rfl h0 ?_
  subst hF
  exact g_vret X dX4_tellName_20 ho
theorem wX4_tellName_s10 {z : Mx} {ad : Nat → Nat} {o : Option Value × St} (X : CxOk z ad RX4 cX4_tellName 4 none 1) (a0 : Nat) (x1 : Int64) (x3 : Int32) (h0 : KT a0 = 4)     (S : St) (r : St) (ho : o = (none, r)) (hF : fX4_tellName_s10 a0 x1 x3   S = r) : GW z ad o S 10 [(0, .ref (ad a0))] [] := by
  unfold fX4_tellName_s10 at hF
  refine g_aload_n X dX4_tellName_10 0 rfl rfl ?_
  refine g_iconst (v := 0) X dX4_tellName_11 (by decide) ?_
  refine g_putI X dX4_tellName_12 fpX4_31 rfl rfl rfl h0 ?_
  exact (wX4_tellName_s15 X a0 x1 x3 h0 (sI S 4 5 a0 (0 : Int32)) r ho hF)
theorem wX4_tellName_s5 {z : Mx} {ad : Nat → Nat} {o : Option Value × St} (X : CxOk z ad RX4 cX4_tellName 4 none 1) (a0 : Nat) (x1 : Int64) (x3 : Int32) (h0 : KT a0 = 4)     (S : St) (r : St) (ho : o = (none, r)) (hF : fX4_tellName_s5 a0 x1 x3   S = r) : GW z ad o S 5 [(0, .ref (ad a0)), (3, .int x3)] [] := by
  unfold fX4_tellName_s5 at hF
  refine g_aload_n X dX4_tellName_5 0 rfl rfl ?_
  refine g_iload_n X dX4_tellName_6 1 rfl rfl ?_
  refine g_putI X dX4_tellName_7 fpX4_28 rfl rfl rfl h0 ?_
  exact g_perm [0] rfl (wX4_tellName_s10 X a0 x1 x3 h0 (sI S 4 1 a0 x3) r ho hF)
theorem wX4_tellName {z : Mx} {ad : Nat → Nat} {o : Option Value × St} (X : CxOk z ad RX4 cX4_tellName 4 none 1) (a0 : Nat) (x1 : Int64) (x3 : Int32) (h0 : KT a0 = 4) (S : St) (r : St) (ho : o = (none, r)) (hF : fX4_tellName a0 x1 x3 S = r) : GW z ad o S 0 [(0, .ref (ad a0)), (1, .long x1), (3, .int x3)] [] := by
  unfold fX4_tellName at hF
  refine g_aload_n X dX4_tellName_0 0 rfl rfl ?_
  refine g_lload_n X dX4_tellName_1 1 rfl rfl ?_
  refine g_putJ X dX4_tellName_2 fpX4_24 rfl h0 ?_
  exact g_perm [0, 2] rfl (wX4_tellName_s5 X a0 x1 x3 h0 (sJ S 4 0 a0 x1) r ho hF)
theorem tX4_tellName {ad : Nat → Nat} (hI : Inj ad) (l : Launch) (D : va_G) (cyy : Nat → ClassId) (a0 : Nat) (x1 : Int64) (x3 : Int32) (h0 : KT a0 = 4) (S : St) : OkM l yX4_tellName cX4_tellName 4 none 1 ad D cyy [.ref (ad a0), .long x1, .int x3] S (none, fX4_tellName a0 x1 x3 S) := okM_of hI (by decide) (inr_13 _ (List.mem_of_getElem? (i := 9) rfl)) (by show _ ≤ 4; exact Nat.le_of_ble_eq_true rfl) (fun z X => wX4_tellName X a0 x1 x3 h0 S _ rfl rfl)
def fX4_tellYear_s18 (a0 : Nat) (x1 : Int32) (x2 : Int32) (x3 : Int32)   (S : St) : St :=
  (sI S 4 4 a0 (if (1 : Int32) < x3 then x3 else (1 : Int32)))
def fX4_tellYear_s9 (a0 : Nat) (x1 : Int32) (x2 : Int32) (x3 : Int32)   (S : St) : St :=
  fX4_tellYear_s18 a0 x1 x2 x3 (sI S 4 3 a0 (if (1 : Int32) < x2 then x2 else (1 : Int32)))
def fX4_tellYear (a0 : Nat) (x1 : Int32) (x2 : Int32) (x3 : Int32) (S : St) : St :=
  fX4_tellYear_s9 a0 x1 x2 x3 (sI S 4 2 a0 (if (1 : Int32) < x1 then x1 else (1 : Int32)))
theorem wX4_tellYear_s18 {z : Mx} {ad : Nat → Nat} {o : Option Value × St} (X : CxOk z ad RX4 cX4_tellYear 4 none 1) (a0 : Nat) (x1 : Int32) (x2 : Int32) (x3 : Int32) (h0 : KT a0 = 4)     (S : St) (r : St) (ho : o = (none, r)) (hF : fX4_tellYear_s18 a0 x1 x2 x3   S = r) : GW z ad o S 18 [(0, .ref (ad a0)), (3, .int x3)] [] := by
  unfold fX4_tellYear_s18 at hF
  refine g_aload_n X dX4_tellYear_18 0 rfl rfl ?_
  refine g_iconst (v := 1) X dX4_tellYear_19 (by decide) ?_
  refine g_iload_n X dX4_tellYear_20 1 rfl rfl ?_
  refine g_mmax X dX4_tellYear_21 (inr_13 _ (List.mem_of_getElem? (i := 17) rfl)) (inr_13 _ (List.mem_of_getElem? (i := 18) rfl)) (inr_10 _ (List.mem_of_getElem? (i := 22) rfl)) (inr_13 _ (List.mem_of_getElem? (i := 19) rfl)) (by decide) (Nat.le_of_ble_eq_true rfl) ?_
  refine g_putI X dX4_tellYear_24 fpX4_18 rfl rfl rfl h0 ?_
  subst hF
  exact g_vret X dX4_tellYear_27 ho
theorem wX4_tellYear_s9 {z : Mx} {ad : Nat → Nat} {o : Option Value × St} (X : CxOk z ad RX4 cX4_tellYear 4 none 1) (a0 : Nat) (x1 : Int32) (x2 : Int32) (x3 : Int32) (h0 : KT a0 = 4)     (S : St) (r : St) (ho : o = (none, r)) (hF : fX4_tellYear_s9 a0 x1 x2 x3   S = r) : GW z ad o S 9 [(0, .ref (ad a0)), (2, .int x2), (3, .int x3)] [] := by
  unfold fX4_tellYear_s9 at hF
  refine g_aload_n X dX4_tellYear_9 0 rfl rfl ?_
  refine g_iconst (v := 1) X dX4_tellYear_10 (by decide) ?_
  refine g_iload_n X dX4_tellYear_11 1 rfl rfl ?_
  refine g_mmax X dX4_tellYear_12 (inr_13 _ (List.mem_of_getElem? (i := 17) rfl)) (inr_13 _ (List.mem_of_getElem? (i := 18) rfl)) (inr_10 _ (List.mem_of_getElem? (i := 22) rfl)) (inr_13 _ (List.mem_of_getElem? (i := 19) rfl)) (by decide) (Nat.le_of_ble_eq_true rfl) ?_
  refine g_putI X dX4_tellYear_15 fpX4_15 rfl rfl rfl h0 ?_
  exact g_perm [0, 2] rfl (wX4_tellYear_s18 X a0 x1 x2 x3 h0 (sI S 4 3 a0 (if (1 : Int32) < x2 then x2 else (1 : Int32))) r ho hF)
theorem wX4_tellYear {z : Mx} {ad : Nat → Nat} {o : Option Value × St} (X : CxOk z ad RX4 cX4_tellYear 4 none 1) (a0 : Nat) (x1 : Int32) (x2 : Int32) (x3 : Int32) (h0 : KT a0 = 4) (S : St) (r : St) (ho : o = (none, r)) (hF : fX4_tellYear a0 x1 x2 x3 S = r) : GW z ad o S 0 [(0, .ref (ad a0)), (1, .int x1), (2, .int x2), (3, .int x3)] [] := by
  unfold fX4_tellYear at hF
  refine g_aload_n X dX4_tellYear_0 0 rfl rfl ?_
  refine g_iconst (v := 1) X dX4_tellYear_1 (by decide) ?_
  refine g_iload_n X dX4_tellYear_2 1 rfl rfl ?_
  refine g_mmax X dX4_tellYear_3 (inr_13 _ (List.mem_of_getElem? (i := 17) rfl)) (inr_13 _ (List.mem_of_getElem? (i := 18) rfl)) (inr_10 _ (List.mem_of_getElem? (i := 22) rfl)) (inr_13 _ (List.mem_of_getElem? (i := 19) rfl)) (by decide) (Nat.le_of_ble_eq_true rfl) ?_
  refine g_putI X dX4_tellYear_6 fpX4_9 rfl rfl rfl h0 ?_
  exact g_perm [0, 2, 3] rfl (wX4_tellYear_s9 X a0 x1 x2 x3 h0 (sI S 4 2 a0 (if (1 : Int32) < x1 then x1 else (1 : Int32))) r ho hF)
theorem tX4_tellYear {ad : Nat → Nat} (hI : Inj ad) (l : Launch) (D : va_G) (cyy : Nat → ClassId) (a0 : Nat) (x1 : Int32) (x2 : Int32) (x3 : Int32) (h0 : KT a0 = 4) (S : St) : OkM l yX4_tellYear cX4_tellYear 4 none 1 ad D cyy [.ref (ad a0), .int x1, .int x2, .int x3] S (none, fX4_tellYear a0 x1 x2 x3 S) := okM_of hI (by decide) (inr_13 _ (List.mem_of_getElem? (i := 16) rfl)) (by show _ ≤ 4; exact Nat.le_of_ble_eq_true rfl) (fun z X => wX4_tellYear X a0 x1 x2 x3 h0 S _ rfl rfl)
def fX4_tellLeap_s9 (a0 : Nat) (x1 : Int32) (x2 : Int32)   (S : St) : St :=
  (sI S 4 6 a0 (if (1 : Int32) < x2 then x2 else (1 : Int32)))
def fX4_tellLeap (a0 : Nat) (x1 : Int32) (x2 : Int32) (S : St) : St :=
  fX4_tellLeap_s9 a0 x1 x2 (sI S 4 5 a0 (if (0 : Int32) < x1 then x1 else (0 : Int32)))
theorem wX4_tellLeap_s9 {z : Mx} {ad : Nat → Nat} {o : Option Value × St} (X : CxOk z ad RX4 cX4_tellLeap 3 none 1) (a0 : Nat) (x1 : Int32) (x2 : Int32) (h0 : KT a0 = 4)     (S : St) (r : St) (ho : o = (none, r)) (hF : fX4_tellLeap_s9 a0 x1 x2   S = r) : GW z ad o S 9 [(0, .ref (ad a0)), (2, .int x2)] [] := by
  unfold fX4_tellLeap_s9 at hF
  refine g_aload_n X dX4_tellLeap_9 0 rfl rfl ?_
  refine g_iconst (v := 1) X dX4_tellLeap_10 (by decide) ?_
  refine g_iload_n X dX4_tellLeap_11 1 rfl rfl ?_
  refine g_mmax X dX4_tellLeap_12 (inr_13 _ (List.mem_of_getElem? (i := 17) rfl)) (inr_13 _ (List.mem_of_getElem? (i := 18) rfl)) (inr_10 _ (List.mem_of_getElem? (i := 22) rfl)) (inr_13 _ (List.mem_of_getElem? (i := 19) rfl)) (by decide) (Nat.le_of_ble_eq_true rfl) ?_
  refine g_putI X dX4_tellLeap_15 fpX4_21 rfl rfl rfl h0 ?_
  subst hF
  exact g_vret X dX4_tellLeap_18 ho
theorem wX4_tellLeap {z : Mx} {ad : Nat → Nat} {o : Option Value × St} (X : CxOk z ad RX4 cX4_tellLeap 3 none 1) (a0 : Nat) (x1 : Int32) (x2 : Int32) (h0 : KT a0 = 4) (S : St) (r : St) (ho : o = (none, r)) (hF : fX4_tellLeap a0 x1 x2 S = r) : GW z ad o S 0 [(0, .ref (ad a0)), (1, .int x1), (2, .int x2)] [] := by
  unfold fX4_tellLeap at hF
  refine g_aload_n X dX4_tellLeap_0 0 rfl rfl ?_
  refine g_iconst (v := 0) X dX4_tellLeap_1 (by decide) ?_
  refine g_iload_n X dX4_tellLeap_2 1 rfl rfl ?_
  refine g_mmax X dX4_tellLeap_3 (inr_13 _ (List.mem_of_getElem? (i := 17) rfl)) (inr_13 _ (List.mem_of_getElem? (i := 18) rfl)) (inr_10 _ (List.mem_of_getElem? (i := 22) rfl)) (inr_13 _ (List.mem_of_getElem? (i := 19) rfl)) (by decide) (Nat.le_of_ble_eq_true rfl) ?_
  refine g_putI X dX4_tellLeap_6 fpX4_31 rfl rfl rfl h0 ?_
  exact g_perm [0, 2] rfl (wX4_tellLeap_s9 X a0 x1 x2 h0 (sI S 4 5 a0 (if (0 : Int32) < x1 then x1 else (0 : Int32))) r ho hF)
theorem tX4_tellLeap {ad : Nat → Nat} (hI : Inj ad) (l : Launch) (D : va_G) (cyy : Nat → ClassId) (a0 : Nat) (x1 : Int32) (x2 : Int32) (h0 : KT a0 = 4) (S : St) : OkM l yX4_tellLeap cX4_tellLeap 3 none 1 ad D cyy [.ref (ad a0), .int x1, .int x2] S (none, fX4_tellLeap a0 x1 x2 S) := okM_of hI (by decide) (inr_14 _ (List.mem_of_getElem? (i := 11) rfl)) (by show _ ≤ 3; exact Nat.le_of_ble_eq_true rfl) (fun z X => wX4_tellLeap X a0 x1 x2 h0 S _ rfl rfl)
def fX4_copyFrom_s48 (a0 : Nat) (a1 : Nat)   (S : St) : St :=
  (sI S 4 1 a0 (gI S 4 1 a1))
def fX4_copyFrom_s40 (a0 : Nat) (a1 : Nat)   (S : St) : St :=
  fX4_copyFrom_s48 a0 a1 (sI S 4 6 a0 (gI S 4 6 a1))
def fX4_copyFrom_s32 (a0 : Nat) (a1 : Nat)   (S : St) : St :=
  fX4_copyFrom_s40 a0 a1 (sI S 4 5 a0 (gI S 4 5 a1))
def fX4_copyFrom_s24 (a0 : Nat) (a1 : Nat)   (S : St) : St :=
  fX4_copyFrom_s32 a0 a1 (sI S 4 4 a0 (gI S 4 4 a1))
def fX4_copyFrom_s16 (a0 : Nat) (a1 : Nat)   (S : St) : St :=
  fX4_copyFrom_s24 a0 a1 (sI S 4 3 a0 (gI S 4 3 a1))
def fX4_copyFrom_s8 (a0 : Nat) (a1 : Nat)   (S : St) : St :=
  fX4_copyFrom_s16 a0 a1 (sI S 4 2 a0 (gI S 4 2 a1))
def fX4_copyFrom (a0 : Nat) (a1 : Nat) (S : St) : St :=
  fX4_copyFrom_s8 a0 a1 (sJ S 4 0 a0 (gJ S 4 0 a1))
theorem wX4_copyFrom_s48 {z : Mx} {ad : Nat → Nat} {o : Option Value × St} (X : CxOk z ad RX4 cX4_copyFrom 2 none 1) (a0 : Nat) (a1 : Nat) (h0 : KT a0 = 4) (h1 : KT a1 = 4)     (S : St) (r : St) (ho : o = (none, r)) (hF : fX4_copyFrom_s48 a0 a1   S = r) : GW z ad o S 48 [(0, .ref (ad a0)), (1, .ref (ad a1))] [] := by
  unfold fX4_copyFrom_s48 at hF
  refine g_aload_n X dX4_copyFrom_48 0 rfl rfl ?_
  refine g_aload_n X dX4_copyFrom_49 1 rfl rfl ?_
  refine g_getI X dX4_copyFrom_50 flX4_28 rfl h1 ?_
  refine g_putI X dX4_copyFrom_53 fpX4_28 rfl rfl rfl h0 ?_
  subst hF
  exact g_vret X dX4_copyFrom_56 ho
theorem wX4_copyFrom_s40 {z : Mx} {ad : Nat → Nat} {o : Option Value × St} (X : CxOk z ad RX4 cX4_copyFrom 2 none 1) (a0 : Nat) (a1 : Nat) (h0 : KT a0 = 4) (h1 : KT a1 = 4)     (S : St) (r : St) (ho : o = (none, r)) (hF : fX4_copyFrom_s40 a0 a1   S = r) : GW z ad o S 40 [(0, .ref (ad a0)), (1, .ref (ad a1))] [] := by
  unfold fX4_copyFrom_s40 at hF
  refine g_aload_n X dX4_copyFrom_40 0 rfl rfl ?_
  refine g_aload_n X dX4_copyFrom_41 1 rfl rfl ?_
  refine g_getI X dX4_copyFrom_42 flX4_21 rfl h1 ?_
  refine g_putI X dX4_copyFrom_45 fpX4_21 rfl rfl rfl h0 ?_
  exact (wX4_copyFrom_s48 X a0 a1 h0 h1 (sI S 4 6 a0 (gI S 4 6 a1)) r ho hF)
theorem wX4_copyFrom_s32 {z : Mx} {ad : Nat → Nat} {o : Option Value × St} (X : CxOk z ad RX4 cX4_copyFrom 2 none 1) (a0 : Nat) (a1 : Nat) (h0 : KT a0 = 4) (h1 : KT a1 = 4)     (S : St) (r : St) (ho : o = (none, r)) (hF : fX4_copyFrom_s32 a0 a1   S = r) : GW z ad o S 32 [(0, .ref (ad a0)), (1, .ref (ad a1))] [] := by
  unfold fX4_copyFrom_s32 at hF
  refine g_aload_n X dX4_copyFrom_32 0 rfl rfl ?_
  refine g_aload_n X dX4_copyFrom_33 1 rfl rfl ?_
  refine g_getI X dX4_copyFrom_34 flX4_31 rfl h1 ?_
  refine g_putI X dX4_copyFrom_37 fpX4_31 rfl rfl rfl h0 ?_
  exact (wX4_copyFrom_s40 X a0 a1 h0 h1 (sI S 4 5 a0 (gI S 4 5 a1)) r ho hF)
theorem wX4_copyFrom_s24 {z : Mx} {ad : Nat → Nat} {o : Option Value × St} (X : CxOk z ad RX4 cX4_copyFrom 2 none 1) (a0 : Nat) (a1 : Nat) (h0 : KT a0 = 4) (h1 : KT a1 = 4)     (S : St) (r : St) (ho : o = (none, r)) (hF : fX4_copyFrom_s24 a0 a1   S = r) : GW z ad o S 24 [(0, .ref (ad a0)), (1, .ref (ad a1))] [] := by
  unfold fX4_copyFrom_s24 at hF
  refine g_aload_n X dX4_copyFrom_24 0 rfl rfl ?_
  refine g_aload_n X dX4_copyFrom_25 1 rfl rfl ?_
  refine g_getI X dX4_copyFrom_26 flX4_18 rfl h1 ?_
  refine g_putI X dX4_copyFrom_29 fpX4_18 rfl rfl rfl h0 ?_
  exact (wX4_copyFrom_s32 X a0 a1 h0 h1 (sI S 4 4 a0 (gI S 4 4 a1)) r ho hF)
theorem wX4_copyFrom_s16 {z : Mx} {ad : Nat → Nat} {o : Option Value × St} (X : CxOk z ad RX4 cX4_copyFrom 2 none 1) (a0 : Nat) (a1 : Nat) (h0 : KT a0 = 4) (h1 : KT a1 = 4)     (S : St) (r : St) (ho : o = (none, r)) (hF : fX4_copyFrom_s16 a0 a1   S = r) : GW z ad o S 16 [(0, .ref (ad a0)), (1, .ref (ad a1))] [] := by
  unfold fX4_copyFrom_s16 at hF
  refine g_aload_n X dX4_copyFrom_16 0 rfl rfl ?_
  refine g_aload_n X dX4_copyFrom_17 1 rfl rfl ?_
  refine g_getI X dX4_copyFrom_18 flX4_15 rfl h1 ?_
  refine g_putI X dX4_copyFrom_21 fpX4_15 rfl rfl rfl h0 ?_
  exact (wX4_copyFrom_s24 X a0 a1 h0 h1 (sI S 4 3 a0 (gI S 4 3 a1)) r ho hF)
theorem wX4_copyFrom_s8 {z : Mx} {ad : Nat → Nat} {o : Option Value × St} (X : CxOk z ad RX4 cX4_copyFrom 2 none 1) (a0 : Nat) (a1 : Nat) (h0 : KT a0 = 4) (h1 : KT a1 = 4)     (S : St) (r : St) (ho : o = (none, r)) (hF : fX4_copyFrom_s8 a0 a1   S = r) : GW z ad o S 8 [(0, .ref (ad a0)), (1, .ref (ad a1))] [] := by
  unfold fX4_copyFrom_s8 at hF
  refine g_aload_n X dX4_copyFrom_8 0 rfl rfl ?_
  refine g_aload_n X dX4_copyFrom_9 1 rfl rfl ?_
  refine g_getI X dX4_copyFrom_10 flX4_9 rfl h1 ?_
  refine g_putI X dX4_copyFrom_13 fpX4_9 rfl rfl rfl h0 ?_
  exact (wX4_copyFrom_s16 X a0 a1 h0 h1 (sI S 4 2 a0 (gI S 4 2 a1)) r ho hF)
theorem wX4_copyFrom {z : Mx} {ad : Nat → Nat} {o : Option Value × St} (X : CxOk z ad RX4 cX4_copyFrom 2 none 1) (a0 : Nat) (a1 : Nat) (h0 : KT a0 = 4) (h1 : KT a1 = 4) (S : St) (r : St) (ho : o = (none, r)) (hF : fX4_copyFrom a0 a1 S = r) : GW z ad o S 0 [(0, .ref (ad a0)), (1, .ref (ad a1))] [] := by
  unfold fX4_copyFrom at hF
  refine g_aload_n X dX4_copyFrom_0 0 rfl rfl ?_
  refine g_aload_n X dX4_copyFrom_1 1 rfl rfl ?_
  refine g_getJ X dX4_copyFrom_2 flX4_24 rfl h1 ?_
  refine g_putJ X dX4_copyFrom_5 fpX4_24 rfl h0 ?_
  exact (wX4_copyFrom_s8 X a0 a1 h0 h1 (sJ S 4 0 a0 (gJ S 4 0 a1)) r ho hF)
theorem tX4_copyFrom {ad : Nat → Nat} (hI : Inj ad) (l : Launch) (D : va_G) (cyy : Nat → ClassId) (a0 : Nat) (a1 : Nat) (h0 : KT a0 = 4) (h1 : KT a1 = 4) (S : St) : OkM l yX4_copyFrom cX4_copyFrom 2 none 1 ad D cyy [.ref (ad a0), .ref (ad a1)] S (none, fX4_copyFrom a0 a1 S) := okM_of hI (by decide) (inr_15 _ (List.mem_of_getElem? (i := 19) rfl)) (by show _ ≤ 2; exact Nat.le_of_ble_eq_true rfl) (fun z X => wX4_copyFrom X a0 a1 h0 h1 S _ rfl rfl)
