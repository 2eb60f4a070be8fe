theorem dX2_begin_0 : decode cX2_begin 0 = .ok (.aload_n 0, 1) := by decide +kernel
theorem dX2_begin_1 : decode cX2_begin 1 = .ok (.iconst 0, 1) := by decide +kernel
theorem dX2_begin_2 : decode cX2_begin 2 = .ok (.putfield 21, 3) := by decide +kernel
theorem dX2_begin_5 : decode cX2_begin 5 = .ok (.aload_n 0, 1) := by decide +kernel
theorem dX2_begin_6 : decode cX2_begin 6 = .ok (.iconst 0, 1) := by decide +kernel
theorem dX2_begin_7 : decode cX2_begin 7 = .ok (.putfield 25, 3) := by decide +kernel
theorem dX2_begin_10 : decode cX2_begin 10 = .ok (.aload_n 0, 1) := by decide +kernel
theorem dX2_begin_11 : decode cX2_begin 11 = .ok (.aload_n 1, 1) := by decide +kernel
theorem dX2_begin_12 : decode cX2_begin 12 = .ok (.getfield 28, 3) := by decide +kernel
theorem dX2_begin_15 : decode cX2_begin 15 = .ok (.putfield 33, 3) := by decide +kernel
theorem dX2_begin_18 : decode cX2_begin 18 = .ok (.iconst 0, 1) := by decide +kernel
theorem dX2_begin_19 : decode cX2_begin 19 = .ok (.istore_n 2, 1) := by decide +kernel
theorem dX2_begin_20 : decode cX2_begin 20 = .ok (.iload_n 2, 1) := by decide +kernel
theorem dX2_begin_21 : decode cX2_begin 21 = .ok (.iconst 5, 1) := by decide +kernel
theorem dX2_begin_22 : decode cX2_begin 22 = .ok (.if_icmp .ge 38, 3) := by decide +kernel
theorem dX2_begin_25 : decode cX2_begin 25 = .ok (.aload_n 0, 1) := by decide +kernel
theorem dX2_begin_26 : decode cX2_begin 26 = .ok (.getfield 9, 3) := by decide +kernel
theorem dX2_begin_29 : decode cX2_begin 29 = .ok (.iload_n 2, 1) := by decide +kernel
theorem dX2_begin_30 : decode cX2_begin 30 = .ok (.aload_n 1, 1) := by decide +kernel
theorem dX2_begin_31 : decode cX2_begin 31 = .ok (.getfield 34, 3) := by decide +kernel
theorem dX2_begin_34 : decode cX2_begin 34 = .ok (.iload_n 2, 1) := by decide +kernel
theorem dX2_begin_35 : decode cX2_begin 35 = .ok (.aaload, 1) := by decide +kernel
theorem dX2_begin_36 : decode cX2_begin 36 = .ok (.getfield 38, 3) := by decide +kernel
theorem dX2_begin_39 : decode cX2_begin 39 = .ok (.iastore, 1) := by decide +kernel
theorem dX2_begin_40 : decode cX2_begin 40 = .ok (.aload_n 0, 1) := by decide +kernel
theorem dX2_begin_41 : decode cX2_begin 41 = .ok (.getfield 15, 3) := by decide +kernel
theorem dX2_begin_44 : decode cX2_begin 44 = .ok (.iload_n 2, 1) := by decide +kernel
theorem dX2_begin_45 : decode cX2_begin 45 = .ok (.iconst 0, 1) := by decide +kernel
theorem dX2_begin_46 : decode cX2_begin 46 = .ok (.iastore, 1) := by decide +kernel
theorem dX2_begin_47 : decode cX2_begin 47 = .ok (.aload_n 0, 1) := by decide +kernel
theorem dX2_begin_48 : decode cX2_begin 48 = .ok (.getfield 18, 3) := by decide +kernel
theorem dX2_begin_51 : decode cX2_begin 51 = .ok (.iload_n 2, 1) := by decide +kernel
theorem dX2_begin_52 : decode cX2_begin 52 = .ok (.iconst 0, 1) := by decide +kernel
theorem dX2_begin_53 : decode cX2_begin 53 = .ok (.iastore, 1) := by decide +kernel
theorem dX2_begin_54 : decode cX2_begin 54 = .ok (.iinc 2 1, 3) := by decide +kernel
theorem dX2_begin_57 : decode cX2_begin 57 = .ok (.goto (-37), 3) := by decide +kernel
theorem dX2_begin_60 : decode cX2_begin 60 = .ok (.return_, 1) := by decide +kernel
theorem dX2_copyFrom_0 : decode cX2_copyFrom 0 = .ok (.aload_n 0, 1) := by decide +kernel
theorem dX2_copyFrom_1 : decode cX2_copyFrom 1 = .ok (.aload_n 1, 1) := by decide +kernel
theorem dX2_copyFrom_2 : decode cX2_copyFrom 2 = .ok (.getfield 21, 3) := by decide +kernel
theorem dX2_copyFrom_5 : decode cX2_copyFrom 5 = .ok (.putfield 21, 3) := by decide +kernel
theorem dX2_copyFrom_8 : decode cX2_copyFrom 8 = .ok (.aload_n 0, 1) := by decide +kernel
theorem dX2_copyFrom_9 : decode cX2_copyFrom 9 = .ok (.aload_n 1, 1) := by decide +kernel
theorem dX2_copyFrom_10 : decode cX2_copyFrom 10 = .ok (.getfield 25, 3) := by decide +kernel
theorem dX2_copyFrom_13 : decode cX2_copyFrom 13 = .ok (.putfield 25, 3) := by decide +kernel
theorem dX2_copyFrom_16 : decode cX2_copyFrom 16 = .ok (.aload_n 0, 1) := by decide +kernel
theorem dX2_copyFrom_17 : decode cX2_copyFrom 17 = .ok (.aload_n 1, 1) := by decide +kernel
theorem dX2_copyFrom_18 : decode cX2_copyFrom 18 = .ok (.getfield 33, 3) := by decide +kernel
theorem dX2_copyFrom_21 : decode cX2_copyFrom 21 = .ok (.putfield 33, 3) := by decide +kernel
theorem dX2_copyFrom_24 : decode cX2_copyFrom 24 = .ok (.iconst 0, 1) := by decide +kernel
theorem dX2_copyFrom_25 : decode cX2_copyFrom 25 = .ok (.istore_n 2, 1) := by decide +kernel
theorem dX2_copyFrom_26 : decode cX2_copyFrom 26 = .ok (.iload_n 2, 1) := by decide +kernel
theorem dX2_copyFrom_27 : decode cX2_copyFrom 27 = .ok (.iconst 5, 1) := by decide +kernel
theorem dX2_copyFrom_28 : decode cX2_copyFrom 28 = .ok (.if_icmp .ge 45, 3) := by decide +kernel
theorem dX2_copyFrom_31 : decode cX2_copyFrom 31 = .ok (.aload_n 0, 1) := by decide +kernel
theorem dX2_copyFrom_32 : decode cX2_copyFrom 32 = .ok (.getfield 9, 3) := by decide +kernel
theorem dX2_copyFrom_35 : decode cX2_copyFrom 35 = .ok (.iload_n 2, 1) := by decide +kernel
theorem dX2_copyFrom_36 : decode cX2_copyFrom 36 = .ok (.aload_n 1, 1) := by decide +kernel
theorem dX2_copyFrom_37 : decode cX2_copyFrom 37 = .ok (.getfield 9, 3) := by decide +kernel
theorem dX2_copyFrom_40 : decode cX2_copyFrom 40 = .ok (.iload_n 2, 1) := by decide +kernel
theorem dX2_copyFrom_41 : decode cX2_copyFrom 41 = .ok (.iaload, 1) := by decide +kernel
theorem dX2_copyFrom_42 : decode cX2_copyFrom 42 = .ok (.iastore, 1) := by decide +kernel
theorem dX2_copyFrom_43 : decode cX2_copyFrom 43 = .ok (.aload_n 0, 1) := by decide +kernel
theorem dX2_copyFrom_44 : decode cX2_copyFrom 44 = .ok (.getfield 15, 3) := by decide +kernel
theorem dX2_copyFrom_47 : decode cX2_copyFrom 47 = .ok (.iload_n 2, 1) := by decide +kernel
theorem dX2_copyFrom_48 : decode cX2_copyFrom 48 = .ok (.aload_n 1, 1) := by decide +kernel
theorem dX2_copyFrom_49 : decode cX2_copyFrom 49 = .ok (.getfield 15, 3) := by decide +kernel
theorem dX2_copyFrom_52 : decode cX2_copyFrom 52 = .ok (.iload_n 2, 1) := by decide +kernel
theorem dX2_copyFrom_53 : decode cX2_copyFrom 53 = .ok (.iaload, 1) := by decide +kernel
theorem dX2_copyFrom_54 : decode cX2_copyFrom 54 = .ok (.iastore, 1) := by decide +kernel
theorem dX2_copyFrom_55 : decode cX2_copyFrom 55 = .ok (.aload_n 0, 1) := by decide +kernel
theorem dX2_copyFrom_56 : decode cX2_copyFrom 56 = .ok (.getfield 18, 3) := by decide +kernel
theorem dX2_copyFrom_59 : decode cX2_copyFrom 59 = .ok (.iload_n 2, 1) := by decide +kernel
theorem dX2_copyFrom_60 : decode cX2_copyFrom 60 = .ok (.aload_n 1, 1) := by decide +kernel
theorem dX2_copyFrom_61 : decode cX2_copyFrom 61 = .ok (.getfield 18, 3) := by decide +kernel
theorem dX2_copyFrom_64 : decode cX2_copyFrom 64 = .ok (.iload_n 2, 1) := by decide +kernel
theorem dX2_copyFrom_65 : decode cX2_copyFrom 65 = .ok (.iaload, 1) := by decide +kernel
theorem dX2_copyFrom_66 : decode cX2_copyFrom 66 = .ok (.iastore, 1) := by decide +kernel
theorem dX2_copyFrom_67 : decode cX2_copyFrom 67 = .ok (.iinc 2 1, 3) := by decide +kernel
theorem dX2_copyFrom_70 : decode cX2_copyFrom 70 = .ok (.goto (-44), 3) := by decide +kernel
theorem dX2_copyFrom_73 : decode cX2_copyFrom 73 = .ok (.return_, 1) := by decide +kernel
theorem dX2_isHeld_0 : decode cX2_isHeld 0 = .ok (.aload_n 0, 1) := by decide +kernel
theorem dX2_isHeld_1 : decode cX2_isHeld 1 = .ok (.getfield 25, 3) := by decide +kernel
theorem dX2_isHeld_4 : decode cX2_isHeld 4 = .ok (.iload_n 1, 1) := by decide +kernel
theorem dX2_isHeld_5 : decode cX2_isHeld 5 = .ok (.ishr, 1) := by decide +kernel
theorem dX2_isHeld_6 : decode cX2_isHeld 6 = .ok (.iconst 1, 1) := by decide +kernel
theorem dX2_isHeld_7 : decode cX2_isHeld 7 = .ok (.iand, 1) := by decide +kernel
theorem dX2_isHeld_8 : decode cX2_isHeld 8 = .ok (.iconst 1, 1) := by decide +kernel
theorem dX2_isHeld_9 : decode cX2_isHeld 9 = .ok (.if_icmp .ne 7, 3) := by decide +kernel
theorem dX2_isHeld_12 : decode cX2_isHeld 12 = .ok (.iconst 1, 1) := by decide +kernel
theorem dX2_isHeld_13 : decode cX2_isHeld 13 = .ok (.goto 4, 3) := by decide +kernel
theorem dX2_isHeld_16 : decode cX2_isHeld 16 = .ok (.iconst 0, 1) := by decide +kernel
theorem dX2_isHeld_17 : decode cX2_isHeld 17 = .ok (.ireturn, 1) := by decide +kernel
theorem dX2_holdDay_0 : decode cX2_holdDay 0 = .ok (.aload_n 0, 1) := by decide +kernel
theorem dX2_holdDay_1 : decode cX2_holdDay 1 = .ok (.iload_n 1, 1) := by decide +kernel
theorem dX2_holdDay_2 : decode cX2_holdDay 2 = .ok (.invokevirtual 43, 3) := by decide +kernel
theorem dX2_holdDay_5 : decode cX2_holdDay 5 = .ok (.ifCond .eq 5, 3) := by decide +kernel
theorem dX2_holdDay_8 : decode cX2_holdDay 8 = .ok (.iconst 1, 1) := by decide +kernel
theorem dX2_holdDay_9 : decode cX2_holdDay 9 = .ok (.ireturn, 1) := by decide +kernel
theorem dX2_holdDay_10 : decode cX2_holdDay 10 = .ok (.aload_n 0, 1) := by decide +kernel
theorem dX2_holdDay_11 : decode cX2_holdDay 11 = .ok (.dup, 1) := by decide +kernel
theorem dX2_holdDay_12 : decode cX2_holdDay 12 = .ok (.getfield 25, 3) := by decide +kernel
theorem dX2_holdDay_15 : decode cX2_holdDay 15 = .ok (.iconst 1, 1) := by decide +kernel
theorem dX2_holdDay_16 : decode cX2_holdDay 16 = .ok (.iload_n 1, 1) := by decide +kernel
theorem dX2_holdDay_17 : decode cX2_holdDay 17 = .ok (.ishl, 1) := by decide +kernel
theorem dX2_holdDay_18 : decode cX2_holdDay 18 = .ok (.ior, 1) := by decide +kernel
theorem dX2_holdDay_19 : decode cX2_holdDay 19 = .ok (.putfield 25, 3) := by decide +kernel
theorem dX2_holdDay_22 : decode cX2_holdDay 22 = .ok (.aload_n 0, 1) := by decide +kernel
theorem dX2_holdDay_23 : decode cX2_holdDay 23 = .ok (.getfield 15, 3) := by decide +kernel
theorem dX2_holdDay_26 : decode cX2_holdDay 26 = .ok (.iload_n 1, 1) := by decide +kernel
theorem dX2_holdDay_27 : decode cX2_holdDay 27 = .ok (.dup2, 1) := by decide +kernel
theorem dX2_holdDay_28 : decode cX2_holdDay 28 = .ok (.iaload, 1) := by decide +kernel
theorem dX2_holdDay_29 : decode cX2_holdDay 29 = .ok (.iconst 1, 1) := by decide +kernel
theorem dX2_holdDay_30 : decode cX2_holdDay 30 = .ok (.iadd, 1) := by decide +kernel
theorem dX2_holdDay_31 : decode cX2_holdDay 31 = .ok (.iastore, 1) := by decide +kernel
theorem dX2_holdDay_32 : decode cX2_holdDay 32 = .ok (.iconst 0, 1) := by decide +kernel
theorem dX2_holdDay_33 : decode cX2_holdDay 33 = .ok (.ireturn, 1) := by decide +kernel
theorem dX2_skipDays_0 : decode cX2_skipDays 0 = .ok (.aload_n 0, 1) := by decide +kernel
theorem dX2_skipDays_1 : decode cX2_skipDays 1 = .ok (.getfield 9, 3) := by decide +kernel
theorem dX2_skipDays_4 : decode cX2_skipDays 4 = .ok (.iload_n 1, 1) := by decide +kernel
theorem dX2_skipDays_5 : decode cX2_skipDays 5 = .ok (.iaload, 1) := by decide +kernel
theorem dX2_skipDays_6 : decode cX2_skipDays 6 = .ok (.iload_n 2, 1) := by decide +kernel
theorem dX2_skipDays_7 : decode cX2_skipDays 7 = .ok (.iadd, 1) := by decide +kernel
theorem dX2_skipDays_8 : decode cX2_skipDays 8 = .ok (.sipush 9999, 3) := by decide +kernel
theorem dX2_skipDays_11 : decode cX2_skipDays 11 = .ok (.if_icmp .le 5, 3) := by decide +kernel
theorem dX2_skipDays_14 : decode cX2_skipDays 14 = .ok (.iconst 1, 1) := by decide +kernel
theorem dX2_skipDays_15 : decode cX2_skipDays 15 = .ok (.ireturn, 1) := by decide +kernel
theorem dX2_skipDays_16 : decode cX2_skipDays 16 = .ok (.aload_n 0, 1) := by decide +kernel
theorem dX2_skipDays_17 : decode cX2_skipDays 17 = .ok (.getfield 9, 3) := by decide +kernel
theorem dX2_skipDays_20 : decode cX2_skipDays 20 = .ok (.iload_n 1, 1) := by decide +kernel
theorem dX2_skipDays_21 : decode cX2_skipDays 21 = .ok (.dup2, 1) := by decide +kernel
theorem dX2_skipDays_22 : decode cX2_skipDays 22 = .ok (.iaload, 1) := by decide +kernel
theorem dX2_skipDays_23 : decode cX2_skipDays 23 = .ok (.iload_n 2, 1) := by decide +kernel
theorem dX2_skipDays_24 : decode cX2_skipDays 24 = .ok (.iadd, 1) := by decide +kernel
theorem dX2_skipDays_25 : decode cX2_skipDays 25 = .ok (.iastore, 1) := by decide +kernel
theorem dX2_skipDays_26 : decode cX2_skipDays 26 = .ok (.aload_n 0, 1) := by decide +kernel
theorem dX2_skipDays_27 : decode cX2_skipDays 27 = .ok (.getfield 18, 3) := by decide +kernel
theorem dX2_skipDays_30 : decode cX2_skipDays 30 = .ok (.iload_n 1, 1) := by decide +kernel
theorem dX2_skipDays_31 : decode cX2_skipDays 31 = .ok (.dup2, 1) := by decide +kernel
theorem dX2_skipDays_32 : decode cX2_skipDays 32 = .ok (.iaload, 1) := by decide +kernel
theorem dX2_skipDays_33 : decode cX2_skipDays 33 = .ok (.iload_n 2, 1) := by decide +kernel
theorem dX2_skipDays_34 : decode cX2_skipDays 34 = .ok (.iadd, 1) := by decide +kernel
theorem dX2_skipDays_35 : decode cX2_skipDays 35 = .ok (.iastore, 1) := by decide +kernel
theorem dX2_skipDays_36 : decode cX2_skipDays 36 = .ok (.iconst 0, 1) := by decide +kernel
theorem dX2_skipDays_37 : decode cX2_skipDays 37 = .ok (.ireturn, 1) := by decide +kernel
theorem dX2_daysLeft_0 : decode cX2_daysLeft 0 = .ok (.sipush 10000, 3) := by decide +kernel
theorem dX2_daysLeft_3 : decode cX2_daysLeft 3 = .ok (.aload_n 0, 1) := by decide +kernel
theorem dX2_daysLeft_4 : decode cX2_daysLeft 4 = .ok (.getfield 21, 3) := by decide +kernel
theorem dX2_daysLeft_7 : decode cX2_daysLeft 7 = .ok (.isub, 1) := by decide +kernel
theorem dX2_daysLeft_8 : decode cX2_daysLeft 8 = .ok (.ireturn, 1) := by decide +kernel
theorem dX2_passDays_0 : decode cX2_passDays 0 = .ok (.iload_n 1, 1) := by decide +kernel
theorem dX2_passDays_1 : decode cX2_passDays 1 = .ok (.aload_n 0, 1) := by decide +kernel
theorem dX2_passDays_2 : decode cX2_passDays 2 = .ok (.invokevirtual 47, 3) := by decide +kernel
theorem dX2_passDays_5 : decode cX2_passDays 5 = .ok (.if_icmp .ge 7, 3) := by decide +kernel
theorem dX2_passDays_8 : decode cX2_passDays 8 = .ok (.iload_n 1, 1) := by decide +kernel
theorem dX2_passDays_9 : decode cX2_passDays 9 = .ok (.goto 7, 3) := by decide +kernel
theorem dX2_passDays_12 : decode cX2_passDays 12 = .ok (.aload_n 0, 1) := by decide +kernel
theorem dX2_passDays_13 : decode cX2_passDays 13 = .ok (.invokevirtual 47, 3) := by decide +kernel
theorem dX2_passDays_16 : decode cX2_passDays 16 = .ok (.istore_n 2, 1) := by decide +kernel
theorem dX2_passDays_17 : decode cX2_passDays 17 = .ok (.iload_n 2, 1) := by decide +kernel
theorem dX2_passDays_18 : decode cX2_passDays 18 = .ok (.ifCond .gt 5, 3) := by decide +kernel
theorem dX2_passDays_21 : decode cX2_passDays 21 = .ok (.iconst 0, 1) := by decide +kernel
theorem dX2_passDays_22 : decode cX2_passDays 22 = .ok (.ireturn, 1) := by decide +kernel
theorem dX2_passDays_23 : decode cX2_passDays 23 = .ok (.iconst 0, 1) := by decide +kernel
theorem dX2_passDays_24 : decode cX2_passDays 24 = .ok (.istore_n 3, 1) := by decide +kernel
theorem dX2_passDays_25 : decode cX2_passDays 25 = .ok (.iload_n 3, 1) := by decide +kernel
theorem dX2_passDays_26 : decode cX2_passDays 26 = .ok (.aload_n 0, 1) := by decide +kernel
theorem dX2_passDays_27 : decode cX2_passDays 27 = .ok (.getfield 33, 3) := by decide +kernel
theorem dX2_passDays_30 : decode cX2_passDays 30 = .ok (.if_icmp .ge 21, 3) := by decide +kernel
theorem dX2_passDays_33 : decode cX2_passDays 33 = .ok (.aload_n 0, 1) := by decide +kernel
theorem dX2_passDays_34 : decode cX2_passDays 34 = .ok (.getfield 9, 3) := by decide +kernel
theorem dX2_passDays_37 : decode cX2_passDays 37 = .ok (.iload_n 3, 1) := by decide +kernel
theorem dX2_passDays_38 : decode cX2_passDays 38 = .ok (.aload_n 0, 1) := by decide +kernel
theorem dX2_passDays_39 : decode cX2_passDays 39 = .ok (.iload_n 3, 1) := by decide +kernel
theorem dX2_passDays_40 : decode cX2_passDays 40 = .ok (.iload_n 2, 1) := by decide +kernel
theorem dX2_passDays_41 : decode cX2_passDays 41 = .ok (.invokevirtual 51, 3) := by decide +kernel
theorem dX2_passDays_44 : decode cX2_passDays 44 = .ok (.iastore, 1) := by decide +kernel
theorem dX2_passDays_45 : decode cX2_passDays 45 = .ok (.iinc 3 1, 3) := by decide +kernel
theorem dX2_passDays_48 : decode cX2_passDays 48 = .ok (.goto (-23), 3) := by decide +kernel
theorem dX2_passDays_51 : decode cX2_passDays 51 = .ok (.aload_n 0, 1) := by decide +kernel
theorem dX2_passDays_52 : decode cX2_passDays 52 = .ok (.iconst 0, 1) := by decide +kernel
theorem dX2_passDays_53 : decode cX2_passDays 53 = .ok (.putfield 25, 3) := by decide +kernel
theorem dX2_passDays_56 : decode cX2_passDays 56 = .ok (.aload_n 0, 1) := by decide +kernel
theorem dX2_passDays_57 : decode cX2_passDays 57 = .ok (.dup, 1) := by decide +kernel
theorem dX2_passDays_58 : decode cX2_passDays 58 = .ok (.getfield 21, 3) := by decide +kernel
theorem dX2_passDays_61 : decode cX2_passDays 61 = .ok (.iload_n 2, 1) := by decide +kernel
theorem dX2_passDays_62 : decode cX2_passDays 62 = .ok (.iadd, 1) := by decide +kernel
theorem dX2_passDays_63 : decode cX2_passDays 63 = .ok (.putfield 21, 3) := by decide +kernel
theorem dX2_passDays_66 : decode cX2_passDays 66 = .ok (.iload_n 2, 1) := by decide +kernel
theorem dX2_passDays_67 : decode cX2_passDays 67 = .ok (.ireturn, 1) := by decide +kernel
theorem dX2_countIn_0 : decode cX2_countIn 0 = .ok (.iload_n 2, 1) := by decide +kernel
theorem dX2_countIn_1 : decode cX2_countIn 1 = .ok (.ifCond .le 24, 3) := by decide +kernel
theorem dX2_countIn_4 : decode cX2_countIn 4 = .ok (.aload_n 0, 1) := by decide +kernel
theorem dX2_countIn_5 : decode cX2_countIn 5 = .ok (.iload_n 1, 1) := by decide +kernel
theorem dX2_countIn_6 : decode cX2_countIn 6 = .ok (.invokevirtual 43, 3) := by decide +kernel
theorem dX2_countIn_9 : decode cX2_countIn 9 = .ok (.ifCond .eq 16, 3) := by decide +kernel
theorem dX2_countIn_12 : decode cX2_countIn 12 = .ok (.aload_n 0, 1) := by decide +kernel
theorem dX2_countIn_13 : decode cX2_countIn 13 = .ok (.getfield 9, 3) := by decide +kernel
theorem dX2_countIn_16 : decode cX2_countIn 16 = .ok (.iload_n 1, 1) := by decide +kernel
theorem dX2_countIn_17 : decode cX2_countIn 17 = .ok (.iaload, 1) := by decide +kernel
theorem dX2_countIn_18 : decode cX2_countIn 18 = .ok (.iload_n 2, 1) := by decide +kernel
theorem dX2_countIn_19 : decode cX2_countIn 19 = .ok (.iadd, 1) := by decide +kernel
theorem dX2_countIn_20 : decode cX2_countIn 20 = .ok (.iconst 1, 1) := by decide +kernel
theorem dX2_countIn_21 : decode cX2_countIn 21 = .ok (.isub, 1) := by decide +kernel
theorem dX2_countIn_22 : decode cX2_countIn 22 = .ok (.goto 11, 3) := by decide +kernel
theorem dX2_countIn_25 : decode cX2_countIn 25 = .ok (.aload_n 0, 1) := by decide +kernel
theorem dX2_countIn_26 : decode cX2_countIn 26 = .ok (.getfield 9, 3) := by decide +kernel
theorem dX2_countIn_29 : decode cX2_countIn 29 = .ok (.iload_n 1, 1) := by decide +kernel
theorem dX2_countIn_30 : decode cX2_countIn 30 = .ok (.iaload, 1) := by decide +kernel
theorem dX2_countIn_31 : decode cX2_countIn 31 = .ok (.iload_n 2, 1) := by decide +kernel
theorem dX2_countIn_32 : decode cX2_countIn 32 = .ok (.iadd, 1) := by decide +kernel
theorem dX2_countIn_33 : decode cX2_countIn 33 = .ok (.ireturn, 1) := by decide +kernel
theorem dX2_drawDay_0 : decode cX2_drawDay 0 = .ok (.iload_n 1, 1) := by decide +kernel
theorem dX2_drawDay_1 : decode cX2_drawDay 1 = .ok (.istore_n 2, 1) := by decide +kernel
theorem dX2_drawDay_2 : decode cX2_drawDay 2 = .ok (.iconst 0, 1) := by decide +kernel
theorem dX2_drawDay_3 : decode cX2_drawDay 3 = .ok (.istore_n 3, 1) := by decide +kernel
theorem dX2_drawDay_4 : decode cX2_drawDay 4 = .ok (.iload_n 3, 1) := by decide +kernel
theorem dX2_drawDay_5 : decode cX2_drawDay 5 = .ok (.aload_n 0, 1) := by decide +kernel
theorem dX2_drawDay_6 : decode cX2_drawDay 6 = .ok (.getfield 33, 3) := by decide +kernel
theorem dX2_drawDay_9 : decode cX2_drawDay 9 = .ok (.if_icmp .ge 71, 3) := by decide +kernel
theorem dX2_drawDay_12 : decode cX2_drawDay 12 = .ok (.iload_n 2, 1) := by decide +kernel
theorem dX2_drawDay_13 : decode cX2_drawDay 13 = .ok (.ldc 55, 2) := by decide +kernel
theorem dX2_drawDay_15 : decode cX2_drawDay 15 = .ok (.imul, 1) := by decide +kernel
theorem dX2_drawDay_16 : decode cX2_drawDay 16 = .ok (.sipush 12345, 3) := by decide +kernel
theorem dX2_drawDay_19 : decode cX2_drawDay 19 = .ok (.iadd, 1) := by decide +kernel
theorem dX2_drawDay_20 : decode cX2_drawDay 20 = .ok (.istore_n 2, 1) := by decide +kernel
theorem dX2_drawDay_21 : decode cX2_drawDay 21 = .ok (.iload_n 2, 1) := by decide +kernel
theorem dX2_drawDay_22 : decode cX2_drawDay 22 = .ok (.bipush 8, 2) := by decide +kernel
theorem dX2_drawDay_24 : decode cX2_drawDay 24 = .ok (.iushr, 1) := by decide +kernel
theorem dX2_drawDay_25 : decode cX2_drawDay 25 = .ok (.bipush 12, 2) := by decide +kernel
theorem dX2_drawDay_27 : decode cX2_drawDay 27 = .ok (.irem, 1) := by decide +kernel
theorem dX2_drawDay_28 : decode cX2_drawDay 28 = .ok (.istore 4, 2) := by decide +kernel
theorem dX2_drawDay_30 : decode cX2_drawDay 30 = .ok (.iload 4, 2) := by decide +kernel
theorem dX2_drawDay_32 : decode cX2_drawDay 32 = .ok (.ifCond .ne 12, 3) := by decide +kernel
theorem dX2_drawDay_35 : decode cX2_drawDay 35 = .ok (.aload_n 0, 1) := by decide +kernel
theorem dX2_drawDay_36 : decode cX2_drawDay 36 = .ok (.iload_n 3, 1) := by decide +kernel
theorem dX2_drawDay_37 : decode cX2_drawDay 37 = .ok (.invokevirtual 56, 3) := by decide +kernel
theorem dX2_drawDay_40 : decode cX2_drawDay 40 = .ok (.pop, 1) := by decide +kernel
theorem dX2_drawDay_41 : decode cX2_drawDay 41 = .ok (.goto 33, 3) := by decide +kernel
theorem dX2_drawDay_44 : decode cX2_drawDay 44 = .ok (.iload 4, 2) := by decide +kernel
theorem dX2_drawDay_46 : decode cX2_drawDay 46 = .ok (.iconst 1, 1) := by decide +kernel
theorem dX2_drawDay_47 : decode cX2_drawDay 47 = .ok (.if_icmp .ne 27, 3) := by decide +kernel
theorem dX2_drawDay_50 : decode cX2_drawDay 50 = .ok (.iload_n 2, 1) := by decide +kernel
theorem dX2_drawDay_51 : decode cX2_drawDay 51 = .ok (.ldc 55, 2) := by decide +kernel
theorem dX2_drawDay_53 : decode cX2_drawDay 53 = .ok (.imul, 1) := by decide +kernel
theorem dX2_drawDay_54 : decode cX2_drawDay 54 = .ok (.sipush 12345, 3) := by decide +kernel
theorem dX2_drawDay_57 : decode cX2_drawDay 57 = .ok (.iadd, 1) := by decide +kernel
theorem dX2_drawDay_58 : decode cX2_drawDay 58 = .ok (.istore_n 2, 1) := by decide +kernel
theorem dX2_drawDay_59 : decode cX2_drawDay 59 = .ok (.aload_n 0, 1) := by decide +kernel
theorem dX2_drawDay_60 : decode cX2_drawDay 60 = .ok (.iload_n 3, 1) := by decide +kernel
theorem dX2_drawDay_61 : decode cX2_drawDay 61 = .ok (.iload_n 2, 1) := by decide +kernel
theorem dX2_drawDay_62 : decode cX2_drawDay 62 = .ok (.bipush 8, 2) := by decide +kernel
theorem dX2_drawDay_64 : decode cX2_drawDay 64 = .ok (.iushr, 1) := by decide +kernel
theorem dX2_drawDay_65 : decode cX2_drawDay 65 = .ok (.bipush 9, 2) := by decide +kernel
theorem dX2_drawDay_67 : decode cX2_drawDay 67 = .ok (.irem, 1) := by decide +kernel
theorem dX2_drawDay_68 : decode cX2_drawDay 68 = .ok (.iconst 1, 1) := by decide +kernel
theorem dX2_drawDay_69 : decode cX2_drawDay 69 = .ok (.iadd, 1) := by decide +kernel
theorem dX2_drawDay_70 : decode cX2_drawDay 70 = .ok (.invokevirtual 60, 3) := by decide +kernel
theorem dX2_drawDay_73 : decode cX2_drawDay 73 = .ok (.pop, 1) := by decide +kernel
theorem dX2_drawDay_74 : decode cX2_drawDay 74 = .ok (.iinc 3 1, 3) := by decide +kernel
theorem dX2_drawDay_77 : decode cX2_drawDay 77 = .ok (.goto (-73), 3) := by decide +kernel
theorem dX2_drawDay_80 : decode cX2_drawDay 80 = .ok (.aload_n 0, 1) := by decide +kernel
theorem dX2_drawDay_81 : decode cX2_drawDay 81 = .ok (.iconst 1, 1) := by decide +kernel
theorem dX2_drawDay_82 : decode cX2_drawDay 82 = .ok (.invokevirtual 63, 3) := by decide +kernel
theorem dX2_drawDay_85 : decode cX2_drawDay 85 = .ok (.pop, 1) := by decide +kernel
theorem dX2_drawDay_86 : decode cX2_drawDay 86 = .ok (.iload_n 2, 1) := by decide +kernel
theorem dX2_drawDay_87 : decode cX2_drawDay 87 = .ok (.ireturn, 1) := by decide +kernel
theorem dX2_heldInAll_0 : decode cX2_heldInAll 0 = .ok (.iconst 0, 1) := by decide +kernel
theorem dX2_heldInAll_1 : decode cX2_heldInAll 1 = .ok (.istore_n 1, 1) := by decide +kernel
theorem dX2_heldInAll_2 : decode cX2_heldInAll 2 = .ok (.iconst 0, 1) := by decide +kernel
theorem dX2_heldInAll_3 : decode cX2_heldInAll 3 = .ok (.istore_n 2, 1) := by decide +kernel
theorem dX2_heldInAll_4 : decode cX2_heldInAll 4 = .ok (.iload_n 2, 1) := by decide +kernel
theorem dX2_heldInAll_5 : decode cX2_heldInAll 5 = .ok (.aload_n 0, 1) := by decide +kernel
theorem dX2_heldInAll_6 : decode cX2_heldInAll 6 = .ok (.getfield 33, 3) := by decide +kernel
theorem dX2_heldInAll_9 : decode cX2_heldInAll 9 = .ok (.if_icmp .ge 18, 3) := by decide +kernel
theorem dX2_heldInAll_12 : decode cX2_heldInAll 12 = .ok (.iload_n 1, 1) := by decide +kernel
theorem dX2_heldInAll_13 : decode cX2_heldInAll 13 = .ok (.aload_n 0, 1) := by decide +kernel
theorem dX2_heldInAll_14 : decode cX2_heldInAll 14 = .ok (.getfield 15, 3) := by decide +kernel
theorem dX2_heldInAll_17 : decode cX2_heldInAll 17 = .ok (.iload_n 2, 1) := by decide +kernel
theorem dX2_heldInAll_18 : decode cX2_heldInAll 18 = .ok (.iaload, 1) := by decide +kernel
theorem dX2_heldInAll_19 : decode cX2_heldInAll 19 = .ok (.iadd, 1) := by decide +kernel
theorem dX2_heldInAll_20 : decode cX2_heldInAll 20 = .ok (.istore_n 1, 1) := by decide +kernel
theorem dX2_heldInAll_21 : decode cX2_heldInAll 21 = .ok (.iinc 2 1, 3) := by decide +kernel
theorem dX2_heldInAll_24 : decode cX2_heldInAll 24 = .ok (.goto (-20), 3) := by decide +kernel
theorem dX2_heldInAll_27 : decode cX2_heldInAll 27 = .ok (.iload_n 1, 1) := by decide +kernel
theorem dX2_heldInAll_28 : decode cX2_heldInAll 28 = .ok (.ireturn, 1) := by decide +kernel
theorem dX2_skippedInAll_0 : decode cX2_skippedInAll 0 = .ok (.iconst 0, 1) := by decide +kernel
theorem dX2_skippedInAll_1 : decode cX2_skippedInAll 1 = .ok (.istore_n 1, 1) := by decide +kernel
theorem dX2_skippedInAll_2 : decode cX2_skippedInAll 2 = .ok (.iconst 0, 1) := by decide +kernel
theorem dX2_skippedInAll_3 : decode cX2_skippedInAll 3 = .ok (.istore_n 2, 1) := by decide +kernel
theorem dX2_skippedInAll_4 : decode cX2_skippedInAll 4 = .ok (.iload_n 2, 1) := by decide +kernel
theorem dX2_skippedInAll_5 : decode cX2_skippedInAll 5 = .ok (.aload_n 0, 1) := by decide +kernel
theorem dX2_skippedInAll_6 : decode cX2_skippedInAll 6 = .ok (.getfield 33, 3) := by decide +kernel
theorem dX2_skippedInAll_9 : decode cX2_skippedInAll 9 = .ok (.if_icmp .ge 18, 3) := by decide +kernel
theorem dX2_skippedInAll_12 : decode cX2_skippedInAll 12 = .ok (.iload_n 1, 1) := by decide +kernel
theorem dX2_skippedInAll_13 : decode cX2_skippedInAll 13 = .ok (.aload_n 0, 1) := by decide +kernel
theorem dX2_skippedInAll_14 : decode cX2_skippedInAll 14 = .ok (.getfield 18, 3) := by decide +kernel
theorem dX2_skippedInAll_17 : decode cX2_skippedInAll 17 = .ok (.iload_n 2, 1) := by decide +kernel
theorem dX2_skippedInAll_18 : decode cX2_skippedInAll 18 = .ok (.iaload, 1) := by decide +kernel
theorem dX2_skippedInAll_19 : decode cX2_skippedInAll 19 = .ok (.iadd, 1) := by decide +kernel
theorem dX2_skippedInAll_20 : decode cX2_skippedInAll 20 = .ok (.istore_n 1, 1) := by decide +kernel
theorem dX2_skippedInAll_21 : decode cX2_skippedInAll 21 = .ok (.iinc 2 1, 3) := by decide +kernel
theorem dX2_skippedInAll_24 : decode cX2_skippedInAll 24 = .ok (.goto (-20), 3) := by decide +kernel
theorem dX2_skippedInAll_27 : decode cX2_skippedInAll 27 = .ok (.iload_n 1, 1) := by decide +kernel
theorem dX2_skippedInAll_28 : decode cX2_skippedInAll 28 = .ok (.ireturn, 1) := by decide +kernel
theorem flX2_9 : FL RX2 9 2 3 := ⟨RX2, TX2, 6, tyX2, cd_2, by decide, Or.inl (inr_5 _ (List.mem_of_getElem? (i := 2) rfl))⟩
theorem flX2_15 : FL RX2 15 2 4 := ⟨RX2, TX2, 6, tyX2, cd_2, by decide, Or.inl (inr_5 _ (List.mem_of_getElem? (i := 3) rfl))⟩
theorem flX2_18 : FL RX2 18 2 5 := ⟨RX2, TX2, 6, tyX2, cd_2, by decide, Or.inl (inr_5 _ (List.mem_of_getElem? (i := 4) rfl))⟩
theorem flX2_21 : FL RX2 21 2 0 := ⟨RX2, TX2, 6, tyX2, cd_2, by decide, Or.inl (inr_16 _ (List.mem_of_getElem? (i := 8) rfl))⟩
theorem flX2_25 : FL RX2 25 2 2 := ⟨RX2, TX2, 6, tyX2, cd_2, by decide, Or.inl (inr_16 _ (List.mem_of_getElem? (i := 9) rfl))⟩
theorem flX2_28 : FL RX2 28 8 2 := ⟨RX8, TX8, 7, tyX8, cd_8, by decide, Or.inl (inr_16 _ (List.mem_of_getElem? (i := 10) rfl))⟩
theorem flX2_33 : FL RX2 33 2 1 := ⟨RX2, TX2, 6, tyX2, cd_2, by decide, Or.inl (inr_16 _ (List.mem_of_getElem? (i := 11) rfl))⟩
theorem flX2_34 : FL RX2 34 8 0 := ⟨RX8, TX8, 7, tyX8, cd_8, by decide, Or.inl (inr_16 _ (List.mem_of_getElem? (i := 12) rfl))⟩
theorem flX2_38 : FL RX2 38 4 1 := ⟨RX4, TX4, 7, tyX4, cd_4, by decide, Or.inr ⟨"ParishYears", inT_1 _ (List.mem_of_getElem? (i := 99) rfl)⟩⟩
theorem fpX2_21 : FP RX2 21 2 0 .int := ⟨RX2, TX2, 6, tyX2, cd_2, by decide, (inr_16 _ (List.mem_of_getElem? (i := 8) rfl)), rfl, by decide +kernel⟩
theorem fpX2_25 : FP RX2 25 2 2 .int := ⟨RX2, TX2, 6, tyX2, cd_2, by decide, (inr_16 _ (List.mem_of_getElem? (i := 9) rfl)), rfl, by decide +kernel⟩
theorem fpX2_33 : FP RX2 33 2 1 .int := ⟨RX2, TX2, 6, tyX2, cd_2, by decide, (inr_16 _ (List.mem_of_getElem? (i := 11) rfl)), rfl, by decide +kernel⟩
theorem mlX2_43 : MLv RX2 43 RX2 2 yX2_isHeld cX2_isHeld 2 (some .boolean) 1 := ⟨(inr_22 _ (List.mem_of_getElem? (i := 3) rfl)), (inr_27 _ (List.mem_of_getElem? (i := 0) rfl)), (inr_22 _ (List.mem_of_getElem? (i := 1) rfl)), (inr_22 _ (List.mem_of_getElem? (i := 2) rfl)), (inr_2 _ (List.mem_of_getElem? (i := 21) rfl)), rfl, ⟨by decide, by decide, by decide +kernel⟩, by decide, by decide, rfl⟩
theorem mlX2_47 : MLv RX2 47 RX2 2 yX2_daysLeft cX2_daysLeft 1 (some .int) 0 := ⟨(inr_33 _ (List.mem_of_getElem? (i := 2) rfl)), (inr_32 _ (List.mem_of_getElem? (i := 23) rfl)), (inr_33 _ (List.mem_of_getElem? (i := 0) rfl)), (inr_33 _ (List.mem_of_getElem? (i := 1) rfl)), (inr_2 _ (List.mem_of_getElem? (i := 21) rfl)), rfl, ⟨by decide, by decide, by decide +kernel⟩, by decide, by decide, rfl⟩
theorem mlX2_51 : MLv RX2 51 RX2 2 yX2_countIn cX2_countIn 3 (some .int) 2 := ⟨(inr_26 _ (List.mem_of_getElem? (i := 23) rfl)), (inr_33 _ (List.mem_of_getElem? (i := 3) rfl)), (inr_26 _ (List.mem_of_getElem? (i := 21) rfl)), (inr_26 _ (List.mem_of_getElem? (i := 22) rfl)), (inr_2 _ (List.mem_of_getElem? (i := 21) rfl)), rfl, ⟨by decide, by decide, by decide +kernel⟩, by decide, by decide, rfl⟩
theorem mlX2_56 : MLv RX2 56 RX2 2 yX2_holdDay cX2_holdDay 2 (some .int) 1 := ⟨(inr_30 _ (List.mem_of_getElem? (i := 22) rfl)), (inr_53 _ (List.mem_of_getElem? (i := 17) rfl)), (inr_30 _ (List.mem_of_getElem? (i := 20) rfl)), (inr_30 _ (List.mem_of_getElem? (i := 21) rfl)), (inr_2 _ (List.mem_of_getElem? (i := 21) rfl)), rfl, ⟨by decide, by decide, by decide +kernel⟩, by decide, by decide, rfl⟩
theorem mlX2_60 : MLv RX2 60 RX2 2 yX2_skipDays cX2_skipDays 3 (some .int) 2 := ⟨(inr_32 _ (List.mem_of_getElem? (i := 2) rfl)), (inr_53 _ (List.mem_of_getElem? (i := 18) rfl)), (inr_32 _ (List.mem_of_getElem? (i := 0) rfl)), (inr_32 _ (List.mem_of_getElem? (i := 1) rfl)), (inr_2 _ (List.mem_of_getElem? (i := 21) rfl)), rfl, ⟨by decide, by decide, by decide +kernel⟩, by decide, by decide, rfl⟩
theorem mlX2_63 : MLv RX2 63 RX2 2 yX2_passDays cX2_passDays 4 (some .int) 1 := ⟨(inr_32 _ (List.mem_of_getElem? (i := 22) rfl)), (inr_53 _ (List.mem_of_getElem? (i := 19) rfl)), (inr_32 _ (List.mem_of_getElem? (i := 20) rfl)), (inr_32 _ (List.mem_of_getElem? (i := 21) rfl)), (inr_2 _ (List.mem_of_getElem? (i := 21) rfl)), rfl, ⟨by decide, by decide, by decide +kernel⟩, by decide, by decide, rfl⟩
def fX2_isHeld (a0 : Nat) (x1 : Int32) (S : St) : Int32 :=
  if (((gI S 2 2 a0) >>> (x1 &&& 31)) &&& (1 : Int32)) = (1 : Int32) then ((1 : Int32)) else
  ((0 : Int32))
theorem wX2_isHeld {z : Mx} {ad : Nat → Nat} {o : Option Value × St} (X : CxOk z ad RX2 cX2_isHeld 2 (some .boolean) 1) (a0 : Nat) (x1 : Int32) (h0 : KT a0 = 2) (S : St) (r : Int32) (ho : o = (some (.int r), S)) (hF : fX2_isHeld a0 x1 S = r) : GW z ad o S 0 [(0, .ref (ad a0)), (1, .int x1)] [] := by
  unfold fX2_isHeld at hF
  refine g_aload_n X dX2_isHeld_0 0 rfl rfl ?_
  refine g_getI X dX2_isHeld_1 flX2_25 rfl h0 ?_
  refine g_iload_n X dX2_isHeld_4 1 rfl rfl ?_
  refine g_ishr X dX2_isHeld_5 ?_
  refine g_iconst (v := 1) X dX2_isHeld_6 (by decide) ?_
  refine g_iand X dX2_isHeld_7 ?_
  refine g_iconst (v := 1) X dX2_isHeld_8 (by decide) ?_
  refine g_icmp_ne (tgt := 16) X dX2_isHeld_9 (by decide) (fun c_1 => ?_) (fun c_1 => ?_)
  · rw [if_neg c_1] at hF
    refine g_iconst (v := 0) X dX2_isHeld_16 (by decide) ?_
    subst hF
    exact g_zret X dX2_isHeld_17 (by decide) ho
  · rw [if_pos c_1] at hF
    refine g_iconst (v := 1) X dX2_isHeld_12 (by decide) ?_
    refine g_goto (tgt := 17) X dX2_isHeld_13 (by decide) ?_
    subst hF
    exact g_zret X dX2_isHeld_17 (by decide) ho
theorem tX2_isHeld {ad : Nat → Nat} (hI : Inj ad) (l : Launch) (D : va_G) (cyy : Nat → ClassId) (a0 : Nat) (x1 : Int32) (h0 : KT a0 = 2) (S : St) : OkM l yX2_isHeld cX2_isHeld 2 (some .boolean) 1 ad D cyy [.ref (ad a0), .int x1] S (some (.int (fX2_isHeld a0 x1 S)), S) := okM_of hI (by decide) (inr_22 _ (List.mem_of_getElem? (i := 3) rfl)) (by show _ ≤ 2; exact Nat.le_of_ble_eq_true rfl) (fun z X => wX2_isHeld X a0 x1 h0 S _ rfl rfl)
def fX2_countIn_s25 (a0 : Nat) (x1 : Int32) (x2 : Int32)   (S : St) : Option Int32 :=
  if (x1 < 0 ∨ 5 ≤ x1.toNatClampNeg) then none else
  some ((gA S 15 (a0 + 1) x1.toNatClampNeg) + x2)
def fX2_countIn (a0 : Nat) (x1 : Int32) (x2 : Int32) (S : St) : Option Int32 :=
  if x2 ≤ 0 then (fX2_countIn_s25 a0 x1 x2 S) else
  (if (fX2_isHeld a0 x1 S) = 0 then (fX2_countIn_s25 a0 x1 x2 S) else
  (if (x1 < 0 ∨ 5 ≤ x1.toNatClampNeg) then none else
  some (((gA S 15 (a0 + 1) x1.toNatClampNeg) + x2) - (1 : Int32))))
theorem wX2_countIn_s25 {z : Mx} {ad : Nat → Nat} {o : Option Value × St} (X : CxOk z ad RX2 cX2_countIn 3 (some .int) 2) (a0 : Nat) (x1 : Int32) (x2 : Int32) (h0 : KT a0 = 2)     (S : St) (r : Int32) (ho : o = (some (.int r), S)) (hF : fX2_countIn_s25 a0 x1 x2   S = some r) : GW z ad o S 25 [(0, .ref (ad a0)), (1, .int x1), (2, .int x2)] [] := by
  unfold fX2_countIn_s25 at hF
  refine g_aload_n X dX2_countIn_25 0 rfl rfl ?_
  refine g_getR (f := 1) X dX2_countIn_26 flX2_9 rfl rfl h0 ?_
  refine g_iload_n X dX2_countIn_29 1 rfl rfl ?_
  obtain ⟨e_2, hF⟩ := oguard hF
  refine g_iald X dX2_countIn_30 kd_15 (on_2_3 h0) e_2 ?_
  refine g_iload_n X dX2_countIn_31 2 rfl rfl ?_
  refine g_iadd X dX2_countIn_32 ?_
  have hF := Option.some.inj hF
  subst hF
  exact g_iret X dX2_countIn_33 ho
theorem wX2_countIn {z : Mx} {ad : Nat → Nat} {o : Option Value × St} (X : CxOk z ad RX2 cX2_countIn 3 (some .int) 2) (a0 : Nat) (x1 : Int32) (x2 : Int32) (h0 : KT a0 = 2) (S : St) (r : Int32) (ho : o = (some (.int r), S)) (hF : fX2_countIn a0 x1 x2 S = some r) : GW z ad o S 0 [(0, .ref (ad a0)), (1, .int x1), (2, .int x2)] [] := by
  unfold fX2_countIn at hF
  refine g_iload_n X dX2_countIn_0 2 rfl rfl ?_
  refine g_if_le (tgt := 25) X dX2_countIn_1 (by decide) (fun c_1 => ?_) (fun c_1 => ?_)
  · rw [if_pos c_1] at hF
    exact (wX2_countIn_s25 X a0 x1 x2 h0 S r ho hF)
  · rw [if_neg c_1] at hF
    refine g_aload_n X dX2_countIn_4 0 rfl rfl ?_
    refine g_iload_n X dX2_countIn_5 1 rfl rfl ?_
    refine g_callVi (As := [.int x1]) X dX2_countIn_6 mlX2_43 (fun l D cyy => tX2_isHeld (cx_inj X) l D cyy a0 x1 h0 S) h0 (by decide) rfl rfl (Nat.le_of_ble_eq_true rfl) ?_
    refine g_if_eq (tgt := 25) X dX2_countIn_9 (by decide) (fun c_3 => ?_) (fun c_3 => ?_)
    · rw [if_pos c_3] at hF
      exact (wX2_countIn_s25 X a0 x1 x2 h0 S r ho hF)
    · rw [if_neg c_3] at hF
      refine g_aload_n X dX2_countIn_12 0 rfl rfl ?_
      refine g_getR (f := 1) X dX2_countIn_13 flX2_9 rfl rfl h0 ?_
      refine g_iload_n X dX2_countIn_16 1 rfl rfl ?_
      obtain ⟨e_4, hF⟩ := oguard hF
      refine g_iald X dX2_countIn_17 kd_15 (on_2_3 h0) e_4 ?_
      refine g_iload_n X dX2_countIn_18 2 rfl rfl ?_
      refine g_iadd X dX2_countIn_19 ?_
      refine g_iconst (v := 1) X dX2_countIn_20 (by decide) ?_
      refine g_isub X dX2_countIn_21 ?_
      refine g_goto (tgt := 33) X dX2_countIn_22 (by decide) ?_
      have hF := Option.some.inj hF
      subst hF
      exact g_iret X dX2_countIn_33 ho
theorem tX2_countIn {ad : Nat → Nat} (hI : Inj ad) (l : Launch) (D : va_G) (cyy : Nat → ClassId) (a0 : Nat) (x1 : Int32) (x2 : Int32) (h0 : KT a0 = 2) (S : St) (r : Int32) (hF : fX2_countIn a0 x1 x2 S = some r) : OkM l yX2_countIn cX2_countIn 3 (some .int) 2 ad D cyy [.ref (ad a0), .int x1, .int x2] S (some (.int r), S) := okM_of hI (by decide) (inr_26 _ (List.mem_of_getElem? (i := 23) rfl)) (by show _ ≤ 3; exact Nat.le_of_ble_eq_true rfl) (fun z X => wX2_countIn X a0 x1 x2 h0 S r rfl hF)
def fX2_daysLeft (a0 : Nat) (S : St) : Int32 :=
  ((10000 : Int32) - (gI S 2 0 a0))
theorem wX2_daysLeft {z : Mx} {ad : Nat → Nat} {o : Option Value × St} (X : CxOk z ad RX2 cX2_daysLeft 1 (some .int) 1) (a0 : Nat) (h0 : KT a0 = 2) (S : St) (r : Int32) (ho : o = (some (.int r), S)) (hF : fX2_daysLeft a0 S = r) : GW z ad o S 0 [(0, .ref (ad a0))] [] := by
  unfold fX2_daysLeft at hF
  refine g_sipush (v := 10000) X dX2_daysLeft_0 (by decide) ?_
  refine g_aload_n X dX2_daysLeft_3 0 rfl rfl ?_
  refine g_getI X dX2_daysLeft_4 flX2_21 rfl h0 ?_
  refine g_isub X dX2_daysLeft_7 ?_
  subst hF
  exact g_iret X dX2_daysLeft_8 ho
theorem tX2_daysLeft {ad : Nat → Nat} (hI : Inj ad) (l : Launch) (D : va_G) (cyy : Nat → ClassId) (a0 : Nat) (h0 : KT a0 = 2) (S : St) : OkM l yX2_daysLeft cX2_daysLeft 1 (some .int) 1 ad D cyy [.ref (ad a0)] S (some (.int (fX2_daysLeft a0 S)), S) := okM_of hI (by decide) (inr_33 _ (List.mem_of_getElem? (i := 2) rfl)) (by show _ ≤ 1; exact Nat.le_of_ble_eq_true rfl) (fun z X => wX2_daysLeft X a0 h0 S _ rfl rfl)
def fX2_passDays_s66 (a0 : Nat) (x1 : Int32) (y2 : Int32)  (S : St) : Option (Int32 × St) :=
  some (y2, S)
def fX2_passDays_s56 (a0 : Nat) (x1 : Int32) (y2 : Int32)  (S : St) : Option (Int32 × St) :=
  fX2_passDays_s66 a0 x1 y2 (sI S 2 0 a0 ((gI S 2 0 a0) + y2))
def fX2_passDays_s45 (k25 : Int32 → Int32 → St → Option (Int32 × St)) (a0 : Nat) (x1 : Int32) (y2 : Int32) (y3 : Int32)  (S : St) : Option (Int32 × St) :=
  k25 y2 (y3 + (1 : Int32)) S
def fX2_passDays_s25 (k25 : Int32 → Int32 → St → Option (Int32 × St)) (a0 : Nat) (x1 : Int32) (y2 : Int32) (y3 : Int32)  (S : St) : Option (Int32 × St) :=
  if (gI S 2 1 a0) ≤ y3 then (fX2_passDays_s56 a0 x1 y2 (sI S 2 2 a0 (0 : Int32))) else
  ((fX2_countIn a0 y3 y2 S).bind fun r_4 =>
  if (y3 < 0 ∨ 5 ≤ y3.toNatClampNeg) then none else
  fX2_passDays_s45 k25 a0 x1 y2 y3 (sA S 15 (a0 + 1) y3.toNatClampNeg r_4))
def fX2_passDays_h25 (a0 : Nat) (x1 : Int32) : Nat → Int32 → Int32 → St → Option (Int32 × St)
  | 0, _, _, _ => none
  | n + 1, y2, y3, S => fX2_passDays_s25 (fX2_passDays_h25 a0 x1 n) a0 x1 y2 y3 S
def fX2_passDays_s17 (a0 : Nat) (x1 : Int32) (y2 : Int32)  (S : St) : Option (Int32 × St) :=
  if 0 < y2 then (fX2_passDays_h25 a0 x1 NN y2 (0 : Int32) S) else
  (some ((0 : Int32), S))
def fX2_passDays (a0 : Nat) (x1 : Int32) (S : St) : Option (Int32 × St) :=
  if (fX2_daysLeft a0 S) ≤ x1 then (fX2_passDays_s17 a0 x1 (fX2_daysLeft a0 S) S) else
  (if 0 < x1 then (fX2_passDays_h25 a0 x1 NN x1 (0 : Int32) S) else
  (some ((0 : Int32), S)))
theorem wX2_passDays_s66 {z : Mx} {ad : Nat → Nat} {o : Option Value × St} (X : CxOk z ad RX2 cX2_passDays 4 (some .int) 3) (a0 : Nat) (x1 : Int32) (h0 : KT a0 = 2) (y2 : Int32)    (S : St) (r : (Int32 × St)) (ho : o = (some (.int r.1), r.2)) (hF : fX2_passDays_s66 a0 x1 y2  S = some r) : GW z ad o S 66 [(2, .int y2)] [] := by
  unfold fX2_passDays_s66 at hF
  refine g_iload_n X dX2_passDays_66 0 rfl rfl ?_
  have hF := Option.some.inj hF
  subst hF
  exact g_iret X dX2_passDays_67 ho
theorem wX2_passDays_s56 {z : Mx} {ad : Nat → Nat} {o : Option Value × St} (X : CxOk z ad RX2 cX2_passDays 4 (some .int) 3) (a0 : Nat) (x1 : Int32) (h0 : KT a0 = 2) (y2 : Int32)    (S : St) (r : (Int32 × St)) (ho : o = (some (.int r.1), r.2)) (hF : fX2_passDays_s56 a0 x1 y2  S = some r) : GW z ad o S 56 [(0, .ref (ad a0)), (2, .int y2)] [] := by
  unfold fX2_passDays_s56 at hF
  refine g_aload_n X dX2_passDays_56 0 rfl rfl ?_
  refine g_dup (a := .ref (ad a0)) X dX2_passDays_57 rfl ?_
  refine g_getI X dX2_passDays_58 flX2_21 rfl h0 ?_
  refine g_iload_n X dX2_passDays_61 1 rfl rfl ?_
  refine g_iadd X dX2_passDays_62 ?_
  refine g_putI X dX2_passDays_63 fpX2_21 rfl rfl rfl h0 ?_
  exact g_perm [1] rfl (wX2_passDays_s66 X a0 x1 h0 y2 (sI S 2 0 a0 ((gI S 2 0 a0) + y2)) r ho hF)
theorem wX2_passDays_s45 {z : Mx} {ad : Nat → Nat} {o : Option Value × St} (X : CxOk z ad RX2 cX2_passDays 4 (some .int) 3) (a0 : Nat) (x1 : Int32) (h0 : KT a0 = 2) (y2 : Int32) (y3 : Int32)  (k25 : Int32 → Int32 → St → Option (Int32 × St))   (S : St) (r : (Int32 × St)) (ho : o = (some (.int r.1), r.2)) (hk25 : ∀ (y2 : Int32) (y3 : Int32) (S : St), k25 y2 y3 S = some r → GW z ad o S 25 [(0, .ref (ad a0)), (2, .int y2), (3, .int y3)] []) (hF : fX2_passDays_s45 k25 a0 x1 y2 y3  S = some r) : GW z ad o S 45 [(0, .ref (ad a0)), (2, .int y2), (3, .int y3)] [] := by
  unfold fX2_passDays_s45 at hF
  refine g_iinc (v := (y3 + (1 : Int32))) X dX2_passDays_45 2 rfl rfl (by decide) (lv' := [(3, .int (y3 + (1 : Int32))), (0, .ref (ad a0)), (2, .int y2)]) rfl ?_
  refine g_goto (tgt := 25) X dX2_passDays_48 (by decide) ?_
  exact g_perm [1, 2, 0] rfl (hk25 y2 (y3 + (1 : Int32)) S hF)
theorem wX2_passDays_s25 {z : Mx} {ad : Nat → Nat} {o : Option Value × St} (X : CxOk z ad RX2 cX2_passDays 4 (some .int) 3) (a0 : Nat) (x1 : Int32) (h0 : KT a0 = 2) (y2 : Int32) (y3 : Int32)  (k25 : Int32 → Int32 → St → Option (Int32 × St))   (S : St) (r : (Int32 × St)) (ho : o = (some (.int r.1), r.2)) (hk25 : ∀ (y2 : Int32) (y3 : Int32) (S : St), k25 y2 y3 S = some r → GW z ad o S 25 [(0, .ref (ad a0)), (2, .int y2), (3, .int y3)] []) (hF : fX2_passDays_s25 k25 a0 x1 y2 y3  S = some r) : GW z ad o S 25 [(0, .ref (ad a0)), (2, .int y2), (3, .int y3)] [] := by
  unfold fX2_passDays_s25 at hF
  refine g_iload_n X dX2_passDays_25 2 rfl rfl ?_
  refine g_aload_n X dX2_passDays_26 0 rfl rfl ?_
  refine g_getI X dX2_passDays_27 flX2_33 rfl h0 ?_
  refine g_icmp_ge (tgt := 51) X dX2_passDays_30 (by decide) (fun c_3 => ?_) (fun c_3 => ?_)
  · rw [if_pos c_3] at hF
    refine g_aload_n X dX2_passDays_51 0 rfl rfl ?_
    refine g_iconst (v := 0) X dX2_passDays_52 (by decide) ?_
    refine g_putI X dX2_passDays_53 fpX2_25 rfl rfl rfl h0 ?_
    exact g_perm [0, 1] rfl (wX2_passDays_s56 X a0 x1 h0 y2 (sI S 2 2 a0 (0 : Int32)) r ho hF)
  · rw [if_neg c_3] at hF
    refine g_aload_n X dX2_passDays_33 0 rfl rfl ?_
    refine g_getR (f := 1) X dX2_passDays_34 flX2_9 rfl rfl h0 ?_
    refine g_iload_n X dX2_passDays_37 2 rfl rfl ?_
    refine g_aload_n X dX2_passDays_38 0 rfl rfl ?_
    refine g_iload_n X dX2_passDays_39 2 rfl rfl ?_
    refine g_iload_n X dX2_passDays_40 1 rfl rfl ?_
    obtain ⟨r_4, q_5, hF⟩ := obind hF
    refine g_callVi (As := [.int y3, .int y2]) X dX2_passDays_41 mlX2_51 (fun l D cyy => tX2_countIn (cx_inj X) l D cyy a0 y3 y2 h0 S r_4 q_5) h0 (by decide) rfl rfl (Nat.le_of_ble_eq_true rfl) ?_
    obtain ⟨e_6, hF⟩ := oguard hF
    refine g_iast X dX2_passDays_44 kd_15 (on_2_3 h0) e_6 ?_
    exact (wX2_passDays_s45 X a0 x1 h0 y2 y3 k25 (sA S 15 (a0 + 1) y3.toNatClampNeg r_4) r ho hk25 hF)
theorem wX2_passDays_h25 {z : Mx} {ad : Nat → Nat} {o : Option Value × St} (X : CxOk z ad RX2 cX2_passDays 4 (some .int) 3) (a0 : Nat) (x1 : Int32) (h0 : KT a0 = 2)  (r : (Int32 × St)) (ho : o = (some (.int r.1), r.2)) : ∀ (n : Nat) (y2 : Int32) (y3 : Int32) (S : St), fX2_passDays_h25 a0 x1 n y2 y3 S = some r → GW z ad o S 25 [(0, .ref (ad a0)), (2, .int y2), (3, .int y3)] [] := by
  intro n
  induction n with
  | zero => intro y2 y3 S  hF; cases hF
  | succ n ih => intro y2 y3 S  hF; exact wX2_passDays_s25 X a0 x1 h0 y2 y3 (fX2_passDays_h25 a0 x1 n)  S r ho ih hF
theorem wX2_passDays_s17 {z : Mx} {ad : Nat → Nat} {o : Option Value × St} (X : CxOk z ad RX2 cX2_passDays 4 (some .int) 3) (a0 : Nat) (x1 : Int32) (h0 : KT a0 = 2) (y2 : Int32)    (S : St) (r : (Int32 × St)) (ho : o = (some (.int r.1), r.2)) (hF : fX2_passDays_s17 a0 x1 y2  S = some r) : GW z ad o S 17 [(0, .ref (ad a0)), (2, .int y2)] [] := by
  unfold fX2_passDays_s17 at hF
  refine g_iload_n X dX2_passDays_17 1 rfl rfl ?_
  refine g_if_gt (tgt := 23) X dX2_passDays_18 (by decide) (fun c_2 => ?_) (fun c_2 => ?_)
  · rw [if_pos c_2] at hF
    refine g_iconst (v := 0) X dX2_passDays_23 (by decide) ?_
    refine g_istore_n X dX2_passDays_24 rfl (by decide) (lv' := [(3, .int (0 : Int32)), (0, .ref (ad a0)), (2, .int y2)]) rfl ?_
    exact g_perm [1, 2, 0] rfl (wX2_passDays_h25 X a0 x1 h0 r ho NN y2 (0 : Int32) S hF)
  · rw [if_neg c_2] at hF
    refine g_iconst (v := 0) X dX2_passDays_21 (by decide) ?_
    have hF := Option.some.inj hF
    subst hF
    exact g_iret X dX2_passDays_22 ho
theorem wX2_passDays {z : Mx} {ad : Nat → Nat} {o : Option Value × St} (X : CxOk z ad RX2 cX2_passDays 4 (some .int) 3) (a0 : Nat) (x1 : Int32) (h0 : KT a0 = 2) (S : St) (r : (Int32 × St)) (ho : o = (some (.int r.1), r.2)) (hF : fX2_passDays a0 x1 S = some r) : GW z ad o S 0 [(0, .ref (ad a0)), (1, .int x1)] [] := by
  unfold fX2_passDays at hF
  refine g_iload_n X dX2_passDays_0 1 rfl rfl ?_
  refine g_aload_n X dX2_passDays_1 0 rfl rfl ?_
  refine g_callVi (As := []) X dX2_passDays_2 mlX2_47 (fun l D cyy => tX2_daysLeft (cx_inj X) l D cyy a0 h0 S) h0 (by decide) rfl rfl (Nat.le_of_ble_eq_true rfl) ?_
  refine g_icmp_ge (tgt := 12) X dX2_passDays_5 (by decide) (fun c_1 => ?_) (fun c_1 => ?_)
  · rw [if_pos c_1] at hF
    refine g_aload_n X dX2_passDays_12 0 rfl rfl ?_
    refine g_callVi (As := []) X dX2_passDays_13 mlX2_47 (fun l D cyy => tX2_daysLeft (cx_inj X) l D cyy a0 h0 S) h0 (by decide) rfl rfl (Nat.le_of_ble_eq_true rfl) ?_
    refine g_istore_n X dX2_passDays_16 rfl (by decide) (lv' := [(2, .int (fX2_daysLeft a0 S)), (0, .ref (ad a0)), (1, .int x1)]) rfl ?_
    exact g_perm [1, 0] rfl (wX2_passDays_s17 X a0 x1 h0 (fX2_daysLeft a0 S) S r ho hF)
  · rw [if_neg c_1] at hF
    refine g_iload_n X dX2_passDays_8 1 rfl rfl ?_
    refine g_goto (tgt := 16) X dX2_passDays_9 (by decide) ?_
    refine g_istore_n X dX2_passDays_16 rfl (by decide) (lv' := [(2, .int x1), (0, .ref (ad a0)), (1, .int x1)]) rfl ?_
    refine g_iload_n X dX2_passDays_17 0 rfl rfl ?_
    refine g_if_gt (tgt := 23) X dX2_passDays_18 (by decide) (fun c_7 => ?_) (fun c_7 => ?_)
    · rw [if_pos c_7] at hF
      refine g_iconst (v := 0) X dX2_passDays_23 (by decide) ?_
      refine g_istore_n X dX2_passDays_24 rfl (by decide) (lv' := [(3, .int (0 : Int32)), (2, .int x1), (0, .ref (ad a0)), (1, .int x1)]) rfl ?_
      exact g_perm [2, 1, 0] rfl (wX2_passDays_h25 X a0 x1 h0 r ho NN x1 (0 : Int32) S hF)
    · rw [if_neg c_7] at hF
      refine g_iconst (v := 0) X dX2_passDays_21 (by decide) ?_
      have hF := Option.some.inj hF
      subst hF
      exact g_iret X dX2_passDays_22 ho
theorem tX2_passDays {ad : Nat → Nat} (hI : Inj ad) (l : Launch) (D : va_G) (cyy : Nat → ClassId) (a0 : Nat) (x1 : Int32) (h0 : KT a0 = 2) (S : St) (r : (Int32 × St)) (hF : fX2_passDays a0 x1 S = some r) : OkM l yX2_passDays cX2_passDays 4 (some .int) 3 ad D cyy [.ref (ad a0), .int x1] S (some (.int r.1), r.2) := okM_of hI (by decide) (inr_32 _ (List.mem_of_getElem? (i := 22) rfl)) (by show _ ≤ 4; exact Nat.le_of_ble_eq_true rfl) (fun z X => wX2_passDays X a0 x1 h0 S r rfl hF)
def fX2_holdDay_s32 (a0 : Nat) (x1 : Int32)   (S : St) : Option (Int32 × St) :=
  some ((0 : Int32), S)
def fX2_holdDay_s22 (a0 : Nat) (x1 : Int32)   (S : St) : Option (Int32 × St) :=
  if (x1 < 0 ∨ 5 ≤ x1.toNatClampNeg) then none else
  if (x1 < 0 ∨ 5 ≤ x1.toNatClampNeg) then none else
  fX2_holdDay_s32 a0 x1 (sA S 16 (a0 + 2) x1.toNatClampNeg ((gA S 16 (a0 + 2) x1.toNatClampNeg) + (1 : Int32)))
def fX2_holdDay (a0 : Nat) (x1 : Int32) (S : St) : Option (Int32 × St) :=
  if (fX2_isHeld a0 x1 S) = 0 then (fX2_holdDay_s22 a0 x1 (sI S 2 2 a0 ((gI S 2 2 a0) ||| ((1 : Int32) <<< (x1 &&& 31))))) else
  (some ((1 : Int32), S))
theorem wX2_holdDay_s32 {z : Mx} {ad : Nat → Nat} {o : Option Value × St} (X : CxOk z ad RX2 cX2_holdDay 2 (some .int) 2) (a0 : Nat) (x1 : Int32) (h0 : KT a0 = 2)     (S : St) (r : (Int32 × St)) (ho : o = (some (.int r.1), r.2)) (hF : fX2_holdDay_s32 a0 x1   S = some r) : GW z ad o S 32 [] [] := by
  unfold fX2_holdDay_s32 at hF
  refine g_iconst (v := 0) X dX2_holdDay_32 (by decide) ?_
  have hF := Option.some.inj hF
  subst hF
  exact g_iret X dX2_holdDay_33 ho
theorem wX2_holdDay_s22 {z : Mx} {ad : Nat → Nat} {o : Option Value × St} (X : CxOk z ad RX2 cX2_holdDay 2 (some .int) 2) (a0 : Nat) (x1 : Int32) (h0 : KT a0 = 2)     (S : St) (r : (Int32 × St)) (ho : o = (some (.int r.1), r.2)) (hF : fX2_holdDay_s22 a0 x1   S = some r) : GW z ad o S 22 [(0, .ref (ad a0)), (1, .int x1)] [] := by
  unfold fX2_holdDay_s22 at hF
  refine g_aload_n X dX2_holdDay_22 0 rfl rfl ?_
  refine g_getR (f := 2) X dX2_holdDay_23 flX2_15 rfl rfl h0 ?_
  refine g_iload_n X dX2_holdDay_26 1 rfl rfl ?_
  refine g_dup2 (a := .int x1) (b := .ref (ad (a0 + 2))) X dX2_holdDay_27 rfl rfl ?_
  obtain ⟨e_2, hF⟩ := oguard hF
  refine g_iald X dX2_holdDay_28 kd_16 (on_2_4 h0) e_2 ?_
  refine g_iconst (v := 1) X dX2_holdDay_29 (by decide) ?_
  refine g_iadd X dX2_holdDay_30 ?_
  obtain ⟨e_3, hF⟩ := oguard hF
  refine g_iast X dX2_holdDay_31 kd_16 (on_2_4 h0) e_3 ?_
  exact g_perm [] rfl (wX2_holdDay_s32 X a0 x1 h0 (sA S 16 (a0 + 2) x1.toNatClampNeg ((gA S 16 (a0 + 2) x1.toNatClampNeg) + (1 : Int32))) r ho hF)
theorem wX2_holdDay {z : Mx} {ad : Nat → Nat} {o : Option Value × St} (X : CxOk z ad RX2 cX2_holdDay 2 (some .int) 2) (a0 : Nat) (x1 : Int32) (h0 : KT a0 = 2) (S : St) (r : (Int32 × St)) (ho : o = (some (.int r.1), r.2)) (hF : fX2_holdDay a0 x1 S = some r) : GW z ad o S 0 [(0, .ref (ad a0)), (1, .int x1)] [] := by
  unfold fX2_holdDay at hF
  refine g_aload_n X dX2_holdDay_0 0 rfl rfl ?_
  refine g_iload_n X dX2_holdDay_1 1 rfl rfl ?_
  refine g_callVi (As := [.int x1]) X dX2_holdDay_2 mlX2_43 (fun l D cyy => tX2_isHeld (cx_inj X) l D cyy a0 x1 h0 S) h0 (by decide) rfl rfl (Nat.le_of_ble_eq_true rfl) ?_
  refine g_if_eq (tgt := 10) X dX2_holdDay_5 (by decide) (fun c_1 => ?_) (fun c_1 => ?_)
  · rw [if_pos c_1] at hF
    refine g_aload_n X dX2_holdDay_10 0 rfl rfl ?_
    refine g_dup (a := .ref (ad a0)) X dX2_holdDay_11 rfl ?_
    refine g_getI X dX2_holdDay_12 flX2_25 rfl h0 ?_
    refine g_iconst (v := 1) X dX2_holdDay_15 (by decide) ?_
    refine g_iload_n X dX2_holdDay_16 1 rfl rfl ?_
    refine g_ishl X dX2_holdDay_17 ?_
    refine g_ior X dX2_holdDay_18 ?_
    refine g_putI X dX2_holdDay_19 fpX2_25 rfl rfl rfl h0 ?_
    exact (wX2_holdDay_s22 X a0 x1 h0 (sI S 2 2 a0 ((gI S 2 2 a0) ||| ((1 : Int32) <<< (x1 &&& 31)))) r ho hF)
  · rw [if_neg c_1] at hF
    refine g_iconst (v := 1) X dX2_holdDay_8 (by decide) ?_
    have hF := Option.some.inj hF
    subst hF
    exact g_iret X dX2_holdDay_9 ho
theorem tX2_holdDay {ad : Nat → Nat} (hI : Inj ad) (l : Launch) (D : va_G) (cyy : Nat → ClassId) (a0 : Nat) (x1 : Int32) (h0 : KT a0 = 2) (S : St) (r : (Int32 × St)) (hF : fX2_holdDay a0 x1 S = some r) : OkM l yX2_holdDay cX2_holdDay 2 (some .int) 2 ad D cyy [.ref (ad a0), .int x1] S (some (.int r.1), r.2) := okM_of hI (by decide) (inr_30 _ (List.mem_of_getElem? (i := 22) rfl)) (by show _ ≤ 2; exact Nat.le_of_ble_eq_true rfl) (fun z X => wX2_holdDay X a0 x1 h0 S r rfl hF)
def fX2_skipDays_s36 (a0 : Nat) (x1 : Int32) (x2 : Int32)   (S : St) : Option (Int32 × St) :=
  some ((0 : Int32), S)
def fX2_skipDays_s26 (a0 : Nat) (x1 : Int32) (x2 : Int32)   (S : St) : Option (Int32 × St) :=
  if (x1 < 0 ∨ 5 ≤ x1.toNatClampNeg) then none else
  if (x1 < 0 ∨ 5 ≤ x1.toNatClampNeg) then none else
  fX2_skipDays_s36 a0 x1 x2 (sA S 17 (a0 + 3) x1.toNatClampNeg ((gA S 17 (a0 + 3) x1.toNatClampNeg) + x2))
def fX2_skipDays (a0 : Nat) (x1 : Int32) (x2 : Int32) (S : St) : Option (Int32 × St) :=
  if (x1 < 0 ∨ 5 ≤ x1.toNatClampNeg) then none else
  if ((gA S 15 (a0 + 1) x1.toNatClampNeg) + x2) ≤ (9999 : Int32) then (if (x1 < 0 ∨ 5 ≤ x1.toNatClampNeg) then none else
  if (x1 < 0 ∨ 5 ≤ x1.toNatClampNeg) then none else
  fX2_skipDays_s26 a0 x1 x2 (sA S 15 (a0 + 1) x1.toNatClampNeg ((gA S 15 (a0 + 1) x1.toNatClampNeg) + x2))) else
  (some ((1 : Int32), S))
theorem wX2_skipDays_s36 {z : Mx} {ad : Nat → Nat} {o : Option Value × St} (X : CxOk z ad RX2 cX2_skipDays 3 (some .int) 1) (a0 : Nat) (x1 : Int32) (x2 : Int32) (h0 : KT a0 = 2)     (S : St) (r : (Int32 × St)) (ho : o = (some (.int r.1), r.2)) (hF : fX2_skipDays_s36 a0 x1 x2   S = some r) : GW z ad o S 36 [] [] := by
  unfold fX2_skipDays_s36 at hF
  refine g_iconst (v := 0) X dX2_skipDays_36 (by decide) ?_
  have hF := Option.some.inj hF
  subst hF
  exact g_iret X dX2_skipDays_37 ho
theorem wX2_skipDays_s26 {z : Mx} {ad : Nat → Nat} {o : Option Value × St} (X : CxOk z ad RX2 cX2_skipDays 3 (some .int) 1) (a0 : Nat) (x1 : Int32) (x2 : Int32) (h0 : KT a0 = 2)     (S : St) (r : (Int32 × St)) (ho : o = (some (.int r.1), r.2)) (hF : fX2_skipDays_s26 a0 x1 x2   S = some r) : GW z ad o S 26 [(0, .ref (ad a0)), (1, .int x1), (2, .int x2)] [] := by
  unfold fX2_skipDays_s26 at hF
  refine g_aload_n X dX2_skipDays_26 0 rfl rfl ?_
  refine g_getR (f := 3) X dX2_skipDays_27 flX2_18 rfl rfl h0 ?_
  refine g_iload_n X dX2_skipDays_30 1 rfl rfl ?_
  refine g_dup2 (a := .int x1) (b := .ref (ad (a0 + 3))) X dX2_skipDays_31 rfl rfl ?_
  obtain ⟨e_5, hF⟩ := oguard hF
  refine g_iald X dX2_skipDays_32 kd_17 (on_2_5 h0) e_5 ?_
  refine g_iload_n X dX2_skipDays_33 2 rfl rfl ?_
  refine g_iadd X dX2_skipDays_34 ?_
  obtain ⟨e_6, hF⟩ := oguard hF
  refine g_iast X dX2_skipDays_35 kd_17 (on_2_5 h0) e_6 ?_
  exact g_perm [] rfl (wX2_skipDays_s36 X a0 x1 x2 h0 (sA S 17 (a0 + 3) x1.toNatClampNeg ((gA S 17 (a0 + 3) x1.toNatClampNeg) + x2)) r ho hF)
theorem wX2_skipDays {z : Mx} {ad : Nat → Nat} {o : Option Value × St} (X : CxOk z ad RX2 cX2_skipDays 3 (some .int) 1) (a0 : Nat) (x1 : Int32) (x2 : Int32) (h0 : KT a0 = 2) (S : St) (r : (Int32 × St)) (ho : o = (some (.int r.1), r.2)) (hF : fX2_skipDays a0 x1 x2 S = some r) : GW z ad o S 0 [(0, .ref (ad a0)), (1, .int x1), (2, .int x2)] [] := by
  unfold fX2_skipDays at hF
  refine g_aload_n X dX2_skipDays_0 0 rfl rfl ?_
  refine g_getR (f := 1) X dX2_skipDays_1 flX2_9 rfl rfl h0 ?_
  refine g_iload_n X dX2_skipDays_4 1 rfl rfl ?_
  obtain ⟨e_1, hF⟩ := oguard hF
  refine g_iald X dX2_skipDays_5 kd_15 (on_2_3 h0) e_1 ?_
  refine g_iload_n X dX2_skipDays_6 2 rfl rfl ?_
  refine g_iadd X dX2_skipDays_7 ?_
  refine g_sipush (v := 9999) X dX2_skipDays_8 (by decide) ?_
  refine g_icmp_le (tgt := 16) X dX2_skipDays_11 (by decide) (fun c_2 => ?_) (fun c_2 => ?_)
  · rw [if_pos c_2] at hF
    refine g_aload_n X dX2_skipDays_16 0 rfl rfl ?_
    refine g_getR (f := 1) X dX2_skipDays_17 flX2_9 rfl rfl h0 ?_
    refine g_iload_n X dX2_skipDays_20 1 rfl rfl ?_
    refine g_dup2 (a := .int x1) (b := .ref (ad (a0 + 1))) X dX2_skipDays_21 rfl rfl ?_
    obtain ⟨e_3, hF⟩ := oguard hF
    refine g_iald X dX2_skipDays_22 kd_15 (on_2_3 h0) e_3 ?_
    refine g_iload_n X dX2_skipDays_23 2 rfl rfl ?_
    refine g_iadd X dX2_skipDays_24 ?_
    obtain ⟨e_4, hF⟩ := oguard hF
    refine g_iast X dX2_skipDays_25 kd_15 (on_2_3 h0) e_4 ?_
    exact (wX2_skipDays_s26 X a0 x1 x2 h0 (sA S 15 (a0 + 1) x1.toNatClampNeg ((gA S 15 (a0 + 1) x1.toNatClampNeg) + x2)) r ho hF)
  · rw [if_neg c_2] at hF
    refine g_iconst (v := 1) X dX2_skipDays_14 (by decide) ?_
    have hF := Option.some.inj hF
    subst hF
    exact g_iret X dX2_skipDays_15 ho
theorem tX2_skipDays {ad : Nat → Nat} (hI : Inj ad) (l : Launch) (D : va_G) (cyy : Nat → ClassId) (a0 : Nat) (x1 : Int32) (x2 : Int32) (h0 : KT a0 = 2) (S : St) (r : (Int32 × St)) (hF : fX2_skipDays a0 x1 x2 S = some r) : OkM l yX2_skipDays cX2_skipDays 3 (some .int) 1 ad D cyy [.ref (ad a0), .int x1, .int x2] S (some (.int r.1), r.2) := okM_of hI (by decide) (inr_32 _ (List.mem_of_getElem? (i := 2) rfl)) (by show _ ≤ 3; exact Nat.le_of_ble_eq_true rfl) (fun z X => wX2_skipDays X a0 x1 x2 h0 S r rfl hF)
def fX2_begin_s54 (k20 : Int32 → St → Option St) (a0 : Nat) (a1 : Nat) (y2 : Int32)  (S : St) : Option St :=
  k20 (y2 + (1 : Int32)) S
def fX2_begin_s47 (k20 : Int32 → St → Option St) (a0 : Nat) (a1 : Nat) (y2 : Int32)  (S : St) : Option St :=
  if (y2 < 0 ∨ 5 ≤ y2.toNatClampNeg) then none else
  fX2_begin_s54 k20 a0 a1 y2 (sA S 17 (a0 + 3) y2.toNatClampNeg (0 : Int32))
def fX2_begin_s40 (k20 : Int32 → St → Option St) (a0 : Nat) (a1 : Nat) (y2 : Int32)  (S : St) : Option St :=
  if (y2 < 0 ∨ 5 ≤ y2.toNatClampNeg) then none else
  fX2_begin_s47 k20 a0 a1 y2 (sA S 16 (a0 + 2) y2.toNatClampNeg (0 : Int32))
def fX2_begin_s20 (k20 : Int32 → St → Option St) (a0 : Nat) (a1 : Nat) (y2 : Int32)  (S : St) : Option St :=
  if (5 : Int32) ≤ y2 then (some S) else
  (if (y2 < 0 ∨ 5 ≤ y2.toNatClampNeg) then none else
  if (y2 < 0 ∨ 5 ≤ y2.toNatClampNeg) then none else
  fX2_begin_s40 k20 a0 a1 y2 (sA S 15 (a0 + 1) y2.toNatClampNeg (gI S 4 1 ((a1 + 1) + 2 + y2.toNatClampNeg))))
def fX2_begin_h20 (a0 : Nat) (a1 : Nat) : Nat → Int32 → St → Option St
  | 0, _, _ => none
  | n + 1, y2, S => fX2_begin_s20 (fX2_begin_h20 a0 a1 n) a0 a1 y2 S
def fX2_begin_s18 (a0 : Nat) (a1 : Nat)   (S : St) : Option St :=
  fX2_begin_h20 a0 a1 NN (0 : Int32) S
def fX2_begin_s10 (a0 : Nat) (a1 : Nat)   (S : St) : Option St :=
  fX2_begin_s18 a0 a1 (sI S 2 1 a0 (gI S 8 2 a1))
def fX2_begin_s5 (a0 : Nat) (a1 : Nat)   (S : St) : Option St :=
  fX2_begin_s10 a0 a1 (sI S 2 2 a0 (0 : Int32))
def fX2_begin (a0 : Nat) (a1 : Nat) (S : St) : Option St :=
  fX2_begin_s5 a0 a1 (sI S 2 0 a0 (0 : Int32))
theorem wX2_begin_s54 {z : Mx} {ad : Nat → Nat} {o : Option Value × St} (X : CxOk z ad RX2 cX2_begin 3 none 1) (a0 : Nat) (a1 : Nat) (h0 : KT a0 = 2) (h1 : KT a1 = 8) (y2 : Int32)  (k20 : Int32 → St → Option St)   (S : St) (r : St) (ho : o = (none, r)) (hk20 : ∀ (y2 : Int32) (S : St), k20 y2 S = some r → GW z ad o S 20 [(0, .ref (ad a0)), (1, .ref (ad a1)), (2, .int y2)] []) (hF : fX2_begin_s54 k20 a0 a1 y2  S = some r) : GW z ad o S 54 [(0, .ref (ad a0)), (1, .ref (ad a1)), (2, .int y2)] [] := by
  unfold fX2_begin_s54 at hF
  refine g_iinc (v := (y2 + (1 : Int32))) X dX2_begin_54 2 rfl rfl (by decide) (lv' := [(2, .int (y2 + (1 : Int32))), (0, .ref (ad a0)), (1, .ref (ad a1))]) rfl ?_
  refine g_goto (tgt := 20) X dX2_begin_57 (by decide) ?_
  exact g_perm [1, 2, 0] rfl (hk20 (y2 + (1 : Int32)) S hF)
theorem wX2_begin_s47 {z : Mx} {ad : Nat → Nat} {o : Option Value × St} (X : CxOk z ad RX2 cX2_begin 3 none 1) (a0 : Nat) (a1 : Nat) (h0 : KT a0 = 2) (h1 : KT a1 = 8) (y2 : Int32)  (k20 : Int32 → St → Option St)   (S : St) (r : St) (ho : o = (none, r)) (hk20 : ∀ (y2 : Int32) (S : St), k20 y2 S = some r → GW z ad o S 20 [(0, .ref (ad a0)), (1, .ref (ad a1)), (2, .int y2)] []) (hF : fX2_begin_s47 k20 a0 a1 y2  S = some r) : GW z ad o S 47 [(0, .ref (ad a0)), (1, .ref (ad a1)), (2, .int y2)] [] := by
  unfold fX2_begin_s47 at hF
  refine g_aload_n X dX2_begin_47 0 rfl rfl ?_
  refine g_getR (f := 3) X dX2_begin_48 flX2_18 rfl rfl h0 ?_
  refine g_iload_n X dX2_begin_51 2 rfl rfl ?_
  refine g_iconst (v := 0) X dX2_begin_52 (by decide) ?_
  obtain ⟨e_5, hF⟩ := oguard hF
  refine g_iast X dX2_begin_53 kd_17 (on_2_5 h0) e_5 ?_
  exact (wX2_begin_s54 X a0 a1 h0 h1 y2 k20 (sA S 17 (a0 + 3) y2.toNatClampNeg (0 : Int32)) r ho hk20 hF)
theorem wX2_begin_s40 {z : Mx} {ad : Nat → Nat} {o : Option Value × St} (X : CxOk z ad RX2 cX2_begin 3 none 1) (a0 : Nat) (a1 : Nat) (h0 : KT a0 = 2) (h1 : KT a1 = 8) (y2 : Int32)  (k20 : Int32 → St → Option St)   (S : St) (r : St) (ho : o = (none, r)) (hk20 : ∀ (y2 : Int32) (S : St), k20 y2 S = some r → GW z ad o S 20 [(0, .ref (ad a0)), (1, .ref (ad a1)), (2, .int y2)] []) (hF : fX2_begin_s40 k20 a0 a1 y2  S = some r) : GW z ad o S 40 [(0, .ref (ad a0)), (1, .ref (ad a1)), (2, .int y2)] [] := by
  unfold fX2_begin_s40 at hF
  refine g_aload_n X dX2_begin_40 0 rfl rfl ?_
  refine g_getR (f := 2) X dX2_begin_41 flX2_15 rfl rfl h0 ?_
  refine g_iload_n X dX2_begin_44 2 rfl rfl ?_
  refine g_iconst (v := 0) X dX2_begin_45 (by decide) ?_
  obtain ⟨e_4, hF⟩ := oguard hF
  refine g_iast X dX2_begin_46 kd_16 (on_2_4 h0) e_4 ?_
  exact (wX2_begin_s47 X a0 a1 h0 h1 y2 k20 (sA S 16 (a0 + 2) y2.toNatClampNeg (0 : Int32)) r ho hk20 hF)
theorem wX2_begin_s20 {z : Mx} {ad : Nat → Nat} {o : Option Value × St} (X : CxOk z ad RX2 cX2_begin 3 none 1) (a0 : Nat) (a1 : Nat) (h0 : KT a0 = 2) (h1 : KT a1 = 8) (y2 : Int32)  (k20 : Int32 → St → Option St)   (S : St) (r : St) (ho : o = (none, r)) (hk20 : ∀ (y2 : Int32) (S : St), k20 y2 S = some r → GW z ad o S 20 [(0, .ref (ad a0)), (1, .ref (ad a1)), (2, .int y2)] []) (hF : fX2_begin_s20 k20 a0 a1 y2  S = some r) : GW z ad o S 20 [(0, .ref (ad a0)), (1, .ref (ad a1)), (2, .int y2)] [] := by
  unfold fX2_begin_s20 at hF
  refine g_iload_n X dX2_begin_20 2 rfl rfl ?_
  refine g_iconst (v := 5) X dX2_begin_21 (by decide) ?_
  refine g_icmp_ge (tgt := 60) X dX2_begin_22 (by decide) (fun c_1 => ?_) (fun c_1 => ?_)
  · rw [if_pos c_1] at hF
    have hF := Option.some.inj hF
    subst hF
    exact g_vret X dX2_begin_60 ho
  · rw [if_neg c_1] at hF
    refine g_aload_n X dX2_begin_25 0 rfl rfl ?_
    refine g_getR (f := 1) X dX2_begin_26 flX2_9 rfl rfl h0 ?_
    refine g_iload_n X dX2_begin_29 2 rfl rfl ?_
    refine g_aload_n X dX2_begin_30 1 rfl rfl ?_
    refine g_getR (f := 1) X dX2_begin_31 flX2_34 rfl rfl h1 ?_
    refine g_iload_n X dX2_begin_34 2 rfl rfl ?_
    obtain ⟨e_2, hF⟩ := oguard hF
    refine g_aaldP X dX2_begin_35 (on_8_0 h1) rfl e_2 ?_
    refine g_getI X dX2_begin_36 flX2_38 rfl (on_p (on_8_0 h1) (inb e_2)) ?_
    obtain ⟨e_3, hF⟩ := oguard hF
    refine g_iast X dX2_begin_39 kd_15 (on_2_3 h0) e_3 ?_
    exact (wX2_begin_s40 X a0 a1 h0 h1 y2 k20 (sA S 15 (a0 + 1) y2.toNatClampNeg (gI S 4 1 ((a1 + 1) + 2 + y2.toNatClampNeg))) r ho hk20 hF)
theorem wX2_begin_h20 {z : Mx} {ad : Nat → Nat} {o : Option Value × St} (X : CxOk z ad RX2 cX2_begin 3 none 1) (a0 : Nat) (a1 : Nat) (h0 : KT a0 = 2) (h1 : KT a1 = 8)  (r : St) (ho : o = (none, r)) : ∀ (n : Nat) (y2 : Int32) (S : St), fX2_begin_h20 a0 a1 n y2 S = some r → GW z ad o S 20 [(0, .ref (ad a0)), (1, .ref (ad a1)), (2, .int y2)] [] := by
  intro n
  induction n with
  | zero => intro y2 S  hF; cases hF
  | succ n ih => intro y2 S  hF; exact wX2_begin_s20 X a0 a1 h0 h1 y2 (fX2_begin_h20 a0 a1 n)  S r ho ih hF
theorem wX2_begin_s18 {z : Mx} {ad : Nat → Nat} {o : Option Value × St} (X : CxOk z ad RX2 cX2_begin 3 none 1) (a0 : Nat) (a1 : Nat) (h0 : KT a0 = 2) (h1 : KT a1 = 8)     (S : St) (r : St) (ho : o = (none, r)) (hF : fX2_begin_s18 a0 a1   S = some r) : GW z ad o S 18 [(0, .ref (ad a0)), (1, .ref (ad a1))] [] := by
  unfold fX2_begin_s18 at hF
  refine g_iconst (v := 0) X dX2_begin_18 (by decide) ?_
  refine g_istore_n X dX2_begin_19 rfl (by decide) (lv' := [(2, .int (0 : Int32)), (0, .ref (ad a0)), (1, .ref (ad a1))]) rfl ?_
  exact g_perm [1, 2, 0] rfl (wX2_begin_h20 X a0 a1 h0 h1 r ho NN (0 : Int32) S hF)
theorem wX2_begin_s10 {z : Mx} {ad : Nat → Nat} {o : Option Value × St} (X : CxOk z ad RX2 cX2_begin 3 none 1) (a0 : Nat) (a1 : Nat) (h0 : KT a0 = 2) (h1 : KT a1 = 8)     (S : St) (r : St) (ho : o = (none, r)) (hF : fX2_begin_s10 a0 a1   S = some r) : GW z ad o S 10 [(0, .ref (ad a0)), (1, .ref (ad a1))] [] := by
  unfold fX2_begin_s10 at hF
  refine g_aload_n X dX2_begin_10 0 rfl rfl ?_
  refine g_aload_n X dX2_begin_11 1 rfl rfl ?_
  refine g_getI X dX2_begin_12 flX2_28 rfl h1 ?_
  refine g_putI X dX2_begin_15 fpX2_33 rfl rfl rfl h0 ?_
  exact (wX2_begin_s18 X a0 a1 h0 h1 (sI S 2 1 a0 (gI S 8 2 a1)) r ho hF)
theorem wX2_begin_s5 {z : Mx} {ad : Nat → Nat} {o : Option Value × St} (X : CxOk z ad RX2 cX2_begin 3 none 1) (a0 : Nat) (a1 : Nat) (h0 : KT a0 = 2) (h1 : KT a1 = 8)     (S : St) (r : St) (ho : o = (none, r)) (hF : fX2_begin_s5 a0 a1   S = some r) : GW z ad o S 5 [(0, .ref (ad a0)), (1, .ref (ad a1))] [] := by
  unfold fX2_begin_s5 at hF
  refine g_aload_n X dX2_begin_5 0 rfl rfl ?_
  refine g_iconst (v := 0) X dX2_begin_6 (by decide) ?_
  refine g_putI X dX2_begin_7 fpX2_25 rfl rfl rfl h0 ?_
  exact (wX2_begin_s10 X a0 a1 h0 h1 (sI S 2 2 a0 (0 : Int32)) r ho hF)
theorem wX2_begin {z : Mx} {ad : Nat → Nat} {o : Option Value × St} (X : CxOk z ad RX2 cX2_begin 3 none 1) (a0 : Nat) (a1 : Nat) (h0 : KT a0 = 2) (h1 : KT a1 = 8) (S : St) (r : St) (ho : o = (none, r)) (hF : fX2_begin a0 a1 S = some r) : GW z ad o S 0 [(0, .ref (ad a0)), (1, .ref (ad a1))] [] := by
  unfold fX2_begin at hF
  refine g_aload_n X dX2_begin_0 0 rfl rfl ?_
  refine g_iconst (v := 0) X dX2_begin_1 (by decide) ?_
  refine g_putI X dX2_begin_2 fpX2_21 rfl rfl rfl h0 ?_
  exact (wX2_begin_s5 X a0 a1 h0 h1 (sI S 2 0 a0 (0 : Int32)) r ho hF)
theorem tX2_begin {ad : Nat → Nat} (hI : Inj ad) (l : Launch) (D : va_G) (cyy : Nat → ClassId) (a0 : Nat) (a1 : Nat) (h0 : KT a0 = 2) (h1 : KT a1 = 8) (S : St) (r : St) (hF : fX2_begin a0 a1 S = some r) : OkM l yX2_begin cX2_begin 3 none 1 ad D cyy [.ref (ad a0), .ref (ad a1)] S (none, r) := okM_of hI (by decide) (inr_16 _ (List.mem_of_getElem? (i := 7) rfl)) (by show _ ≤ 3; exact Nat.le_of_ble_eq_true rfl) (fun z X => wX2_begin X a0 a1 h0 h1 S r rfl hF)
def fX2_copyFrom_s67 (k26 : Int32 → St → Option St) (a0 : Nat) (a1 : Nat) (y2 : Int32)  (S : St) : Option St :=
  k26 (y2 + (1 : Int32)) S
def fX2_copyFrom_s55 (k26 : Int32 → St → Option St) (a0 : Nat) (a1 : Nat) (y2 : Int32)  (S : St) : Option St :=
  if (y2 < 0 ∨ 5 ≤ y2.toNatClampNeg) then none else
  if (y2 < 0 ∨ 5 ≤ y2.toNatClampNeg) then none else
  fX2_copyFrom_s67 k26 a0 a1 y2 (sA S 17 (a0 + 3) y2.toNatClampNeg (gA S 17 (a1 + 3) y2.toNatClampNeg))
def fX2_copyFrom_s43 (k26 : Int32 → St → Option St) (a0 : Nat) (a1 : Nat) (y2 : Int32)  (S : St) : Option St :=
  if (y2 < 0 ∨ 5 ≤ y2.toNatClampNeg) then none else
  if (y2 < 0 ∨ 5 ≤ y2.toNatClampNeg) then none else
  fX2_copyFrom_s55 k26 a0 a1 y2 (sA S 16 (a0 + 2) y2.toNatClampNeg (gA S 16 (a1 + 2) y2.toNatClampNeg))
def fX2_copyFrom_s26 (k26 : Int32 → St → Option St) (a0 : Nat) (a1 : Nat) (y2 : Int32)  (S : St) : Option St :=
  if (5 : Int32) ≤ y2 then (some S) else
  (if (y2 < 0 ∨ 5 ≤ y2.toNatClampNeg) then none else
  if (y2 < 0 ∨ 5 ≤ y2.toNatClampNeg) then none else
  fX2_copyFrom_s43 k26 a0 a1 y2 (sA S 15 (a0 + 1) y2.toNatClampNeg (gA S 15 (a1 + 1) y2.toNatClampNeg)))
def fX2_copyFrom_h26 (a0 : Nat) (a1 : Nat) : Nat → Int32 → St → Option St
  | 0, _, _ => none
  | n + 1, y2, S => fX2_copyFrom_s26 (fX2_copyFrom_h26 a0 a1 n) a0 a1 y2 S
def fX2_copyFrom_s24 (a0 : Nat) (a1 : Nat)   (S : St) : Option St :=
  fX2_copyFrom_h26 a0 a1 NN (0 : Int32) S
def fX2_copyFrom_s16 (a0 : Nat) (a1 : Nat)   (S : St) : Option St :=
  fX2_copyFrom_s24 a0 a1 (sI S 2 1 a0 (gI S 2 1 a1))
def fX2_copyFrom_s8 (a0 : Nat) (a1 : Nat)   (S : St) : Option St :=
  fX2_copyFrom_s16 a0 a1 (sI S 2 2 a0 (gI S 2 2 a1))
def fX2_copyFrom (a0 : Nat) (a1 : Nat) (S : St) : Option St :=
  fX2_copyFrom_s8 a0 a1 (sI S 2 0 a0 (gI S 2 0 a1))
theorem wX2_copyFrom_s67 {z : Mx} {ad : Nat → Nat} {o : Option Value × St} (X : CxOk z ad RX2 cX2_copyFrom 3 none 1) (a0 : Nat) (a1 : Nat) (h0 : KT a0 = 2) (h1 : KT a1 = 2) (y2 : Int32)  (k26 : Int32 → St → Option St)   (S : St) (r : St) (ho : o = (none, r)) (hk26 : ∀ (y2 : Int32) (S : St), k26 y2 S = some r → GW z ad o S 26 [(0, .ref (ad a0)), (1, .ref (ad a1)), (2, .int y2)] []) (hF : fX2_copyFrom_s67 k26 a0 a1 y2  S = some r) : GW z ad o S 67 [(0, .ref (ad a0)), (1, .ref (ad a1)), (2, .int y2)] [] := by
  unfold fX2_copyFrom_s67 at hF
  refine g_iinc (v := (y2 + (1 : Int32))) X dX2_copyFrom_67 2 rfl rfl (by decide) (lv' := [(2, .int (y2 + (1 : Int32))), (0, .ref (ad a0)), (1, .ref (ad a1))]) rfl ?_
  refine g_goto (tgt := 26) X dX2_copyFrom_70 (by decide) ?_
  exact g_perm [1, 2, 0] rfl (hk26 (y2 + (1 : Int32)) S hF)
theorem wX2_copyFrom_s55 {z : Mx} {ad : Nat → Nat} {o : Option Value × St} (X : CxOk z ad RX2 cX2_copyFrom 3 none 1) (a0 : Nat) (a1 : Nat) (h0 : KT a0 = 2) (h1 : KT a1 = 2) (y2 : Int32)  (k26 : Int32 → St → Option St)   (S : St) (r : St) (ho : o = (none, r)) (hk26 : ∀ (y2 : Int32) (S : St), k26 y2 S = some r → GW z ad o S 26 [(0, .ref (ad a0)), (1, .ref (ad a1)), (2, .int y2)] []) (hF : fX2_copyFrom_s55 k26 a0 a1 y2  S = some r) : GW z ad o S 55 [(0, .ref (ad a0)), (1, .ref (ad a1)), (2, .int y2)] [] := by
  unfold fX2_copyFrom_s55 at hF
  refine g_aload_n X dX2_copyFrom_55 0 rfl rfl ?_
  refine g_getR (f := 3) X dX2_copyFrom_56 flX2_18 rfl rfl h0 ?_
  refine g_iload_n X dX2_copyFrom_59 2 rfl rfl ?_
  refine g_aload_n X dX2_copyFrom_60 1 rfl rfl ?_
  refine g_getR (f := 3) X dX2_copyFrom_61 flX2_18 rfl rfl h1 ?_
  refine g_iload_n X dX2_copyFrom_64 2 rfl rfl ?_
  obtain ⟨e_6, hF⟩ := oguard hF
  refine g_iald X dX2_copyFrom_65 kd_17 (on_2_5 h1) e_6 ?_
  obtain ⟨e_7, hF⟩ := oguard hF
  refine g_iast X dX2_copyFrom_66 kd_17 (on_2_5 h0) e_7 ?_
  exact (wX2_copyFrom_s67 X a0 a1 h0 h1 y2 k26 (sA S 17 (a0 + 3) y2.toNatClampNeg (gA S 17 (a1 + 3) y2.toNatClampNeg)) r ho hk26 hF)
theorem wX2_copyFrom_s43 {z : Mx} {ad : Nat → Nat} {o : Option Value × St} (X : CxOk z ad RX2 cX2_copyFrom 3 none 1) (a0 : Nat) (a1 : Nat) (h0 : KT a0 = 2) (h1 : KT a1 = 2) (y2 : Int32)  (k26 : Int32 → St → Option St)   (S : St) (r : St) (ho : o = (none, r)) (hk26 : ∀ (y2 : Int32) (S : St), k26 y2 S = some r → GW z ad o S 26 [(0, .ref (ad a0)), (1, .ref (ad a1)), (2, .int y2)] []) (hF : fX2_copyFrom_s43 k26 a0 a1 y2  S = some r) : GW z ad o S 43 [(0, .ref (ad a0)), (1, .ref (ad a1)), (2, .int y2)] [] := by
  unfold fX2_copyFrom_s43 at hF
  refine g_aload_n X dX2_copyFrom_43 0 rfl rfl ?_
  refine g_getR (f := 2) X dX2_copyFrom_44 flX2_15 rfl rfl h0 ?_
  refine g_iload_n X dX2_copyFrom_47 2 rfl rfl ?_
  refine g_aload_n X dX2_copyFrom_48 1 rfl rfl ?_
  refine g_getR (f := 2) X dX2_copyFrom_49 flX2_15 rfl rfl h1 ?_
  refine g_iload_n X dX2_copyFrom_52 2 rfl rfl ?_
  obtain ⟨e_4, hF⟩ := oguard hF
  refine g_iald X dX2_copyFrom_53 kd_16 (on_2_4 h1) e_4 ?_
  obtain ⟨e_5, hF⟩ := oguard hF
  refine g_iast X dX2_copyFrom_54 kd_16 (on_2_4 h0) e_5 ?_
  exact (wX2_copyFrom_s55 X a0 a1 h0 h1 y2 k26 (sA S 16 (a0 + 2) y2.toNatClampNeg (gA S 16 (a1 + 2) y2.toNatClampNeg)) r ho hk26 hF)
theorem wX2_copyFrom_s26 {z : Mx} {ad : Nat → Nat} {o : Option Value × St} (X : CxOk z ad RX2 cX2_copyFrom 3 none 1) (a0 : Nat) (a1 : Nat) (h0 : KT a0 = 2) (h1 : KT a1 = 2) (y2 : Int32)  (k26 : Int32 → St → Option St)   (S : St) (r : St) (ho : o = (none, r)) (hk26 : ∀ (y2 : Int32) (S : St), k26 y2 S = some r → GW z ad o S 26 [(0, .ref (ad a0)), (1, .ref (ad a1)), (2, .int y2)] []) (hF : fX2_copyFrom_s26 k26 a0 a1 y2  S = some r) : GW z ad o S 26 [(0, .ref (ad a0)), (1, .ref (ad a1)), (2, .int y2)] [] := by
  unfold fX2_copyFrom_s26 at hF
  refine g_iload_n X dX2_copyFrom_26 2 rfl rfl ?_
  refine g_iconst (v := 5) X dX2_copyFrom_27 (by decide) ?_
  refine g_icmp_ge (tgt := 73) X dX2_copyFrom_28 (by decide) (fun c_1 => ?_) (fun c_1 => ?_)
  · rw [if_pos c_1] at hF
    have hF := Option.some.inj hF
    subst hF
    exact g_vret X dX2_copyFrom_73 ho
  · rw [if_neg c_1] at hF
    refine g_aload_n X dX2_copyFrom_31 0 rfl rfl ?_
    refine g_getR (f := 1) X dX2_copyFrom_32 flX2_9 rfl rfl h0 ?_
    refine g_iload_n X dX2_copyFrom_35 2 rfl rfl ?_
    refine g_aload_n X dX2_copyFrom_36 1 rfl rfl ?_
    refine g_getR (f := 1) X dX2_copyFrom_37 flX2_9 rfl rfl h1 ?_
    refine g_iload_n X dX2_copyFrom_40 2 rfl rfl ?_
    obtain ⟨e_2, hF⟩ := oguard hF
    refine g_iald X dX2_copyFrom_41 kd_15 (on_2_3 h1) e_2 ?_
    obtain ⟨e_3, hF⟩ := oguard hF
    refine g_iast X dX2_copyFrom_42 kd_15 (on_2_3 h0) e_3 ?_
    exact (wX2_copyFrom_s43 X a0 a1 h0 h1 y2 k26 (sA S 15 (a0 + 1) y2.toNatClampNeg (gA S 15 (a1 + 1) y2.toNatClampNeg)) r ho hk26 hF)
theorem wX2_copyFrom_h26 {z : Mx} {ad : Nat → Nat} {o : Option Value × St} (X : CxOk z ad RX2 cX2_copyFrom 3 none 1) (a0 : Nat) (a1 : Nat) (h0 : KT a0 = 2) (h1 : KT a1 = 2)  (r : St) (ho : o = (none, r)) : ∀ (n : Nat) (y2 : Int32) (S : St), fX2_copyFrom_h26 a0 a1 n y2 S = some r → GW z ad o S 26 [(0, .ref (ad a0)), (1, .ref (ad a1)), (2, .int y2)] [] := by
  intro n
  induction n with
  | zero => intro y2 S  hF; cases hF
  | succ n ih => intro y2 S  hF; exact wX2_copyFrom_s26 X a0 a1 h0 h1 y2 (fX2_copyFrom_h26 a0 a1 n)  S r ho ih hF
theorem wX2_copyFrom_s24 {z : Mx} {ad : Nat → Nat} {o : Option Value × St} (X : CxOk z ad RX2 cX2_copyFrom 3 none 1) (a0 : Nat) (a1 : Nat) (h0 : KT a0 = 2) (h1 : KT a1 = 2)     (S : St) (r : St) (ho : o = (none, r)) (hF : fX2_copyFrom_s24 a0 a1   S = some r) : GW z ad o S 24 [(0, .ref (ad a0)), (1, .ref (ad a1))] [] := by
  unfold fX2_copyFrom_s24 at hF
  refine g_iconst (v := 0) X dX2_copyFrom_24 (by decide) ?_
  refine g_istore_n X dX2_copyFrom_25 rfl (by decide) (lv' := [(2, .int (0 : Int32)), (0, .ref (ad a0)), (1, .ref (ad a1))]) rfl ?_
  exact g_perm [1, 2, 0] rfl (wX2_copyFrom_h26 X a0 a1 h0 h1 r ho NN (0 : Int32) S hF)
theorem wX2_copyFrom_s16 {z : Mx} {ad : Nat → Nat} {o : Option Value × St} (X : CxOk z ad RX2 cX2_copyFrom 3 none 1) (a0 : Nat) (a1 : Nat) (h0 : KT a0 = 2) (h1 : KT a1 = 2)     (S : St) (r : St) (ho : o = (none, r)) (hF : fX2_copyFrom_s16 a0 a1   S = some r) : GW z ad o S 16 [(0, .ref (ad a0)), (1, .ref (ad a1))] [] := by
  unfold fX2_copyFrom_s16 at hF
  refine g_aload_n X dX2_copyFrom_16 0 rfl rfl ?_
  refine g_aload_n X dX2_copyFrom_17 1 rfl rfl ?_
  refine g_getI X dX2_copyFrom_18 flX2_33 rfl h1 ?_
  refine g_putI X dX2_copyFrom_21 fpX2_33 rfl rfl rfl h0 ?_
  exact (wX2_copyFrom_s24 X a0 a1 h0 h1 (sI S 2 1 a0 (gI S 2 1 a1)) r ho hF)
theorem wX2_copyFrom_s8 {z : Mx} {ad : Nat → Nat} {o : Option Value × St} (X : CxOk z ad RX2 cX2_copyFrom 3 none 1) (a0 : Nat) (a1 : Nat) (h0 : KT a0 = 2) (h1 : KT a1 = 2)     (S : St) (r : St) (ho : o = (none, r)) (hF : fX2_copyFrom_s8 a0 a1   S = some r) : GW z ad o S 8 [(0, .ref (ad a0)), (1, .ref (ad a1))] [] := by
  unfold fX2_copyFrom_s8 at hF
  refine g_aload_n X dX2_copyFrom_8 0 rfl rfl ?_
  refine g_aload_n X dX2_copyFrom_9 1 rfl rfl ?_
  refine g_getI X dX2_copyFrom_10 flX2_25 rfl h1 ?_
  refine g_putI X dX2_copyFrom_13 fpX2_25 rfl rfl rfl h0 ?_
  exact (wX2_copyFrom_s16 X a0 a1 h0 h1 (sI S 2 2 a0 (gI S 2 2 a1)) r ho hF)
theorem wX2_copyFrom {z : Mx} {ad : Nat → Nat} {o : Option Value × St} (X : CxOk z ad RX2 cX2_copyFrom 3 none 1) (a0 : Nat) (a1 : Nat) (h0 : KT a0 = 2) (h1 : KT a1 = 2) (S : St) (r : St) (ho : o = (none, r)) (hF : fX2_copyFrom a0 a1 S = some r) : GW z ad o S 0 [(0, .ref (ad a0)), (1, .ref (ad a1))] [] := by
  unfold fX2_copyFrom at hF
  refine g_aload_n X dX2_copyFrom_0 0 rfl rfl ?_
  refine g_aload_n X dX2_copyFrom_1 1 rfl rfl ?_
  refine g_getI X dX2_copyFrom_2 flX2_21 rfl h1 ?_
  refine g_putI X dX2_copyFrom_5 fpX2_21 rfl rfl rfl h0 ?_
  exact (wX2_copyFrom_s8 X a0 a1 h0 h1 (sI S 2 0 a0 (gI S 2 0 a1)) r ho hF)
theorem tX2_copyFrom {ad : Nat → Nat} (hI : Inj ad) (l : Launch) (D : va_G) (cyy : Nat → ClassId) (a0 : Nat) (a1 : Nat) (h0 : KT a0 = 2) (h1 : KT a1 = 2) (S : St) (r : St) (hF : fX2_copyFrom a0 a1 S = some r) : OkM l yX2_copyFrom cX2_copyFrom 3 none 1 ad D cyy [.ref (ad a0), .ref (ad a1)] S (none, r) := okM_of hI (by decide) (inr_30 _ (List.mem_of_getElem? (i := 18) rfl)) (by show _ ≤ 3; exact Nat.le_of_ble_eq_true rfl) (fun z X => wX2_copyFrom X a0 a1 h0 h1 S r rfl hF)
def fX2_drawDay_s85 (a0 : Nat) (x1 : Int32) (y2 : Int32) (t0 : Int32) (S : St) : Option (Int32 × St) :=
  some (y2, S)
def fX2_drawDay_s74 (k4 : Int32 → Int32 → St → Option (Int32 × St)) (a0 : Nat) (x1 : Int32) (y2 : Int32) (y3 : Int32)  (S : St) : Option (Int32 × St) :=
  k4 y2 (y3 + (1 : Int32)) S
def fX2_drawDay_s73 (k4 : Int32 → Int32 → St → Option (Int32 × St)) (a0 : Nat) (x1 : Int32) (y2 : Int32) (y3 : Int32) (t0 : Int32) (S : St) : Option (Int32 × St) :=
  fX2_drawDay_s74 k4 a0 x1 y2 y3 S
def fX2_drawDay_s59 (k4 : Int32 → Int32 → St → Option (Int32 × St)) (a0 : Nat) (x1 : Int32) (y2 : Int32) (y3 : Int32)  (S : St) : Option (Int32 × St) :=
  (fX2_skipDays a0 y3 (((y2.toUInt32 >>> ((8 : Int32).toUInt32 &&& Int32.toUInt32 31)).toInt32 - (y2.toUInt32 >>> ((8 : Int32).toUInt32 &&& Int32.toUInt32 31)).toInt32 / (9 : Int32) * (9 : Int32)) + (1 : Int32)) S).bind fun r_6 =>
  fX2_drawDay_s73 k4 a0 x1 y2 y3 r_6.1 r_6.2
def fX2_drawDay_s40 (k4 : Int32 → Int32 → St → Option (Int32 × St)) (a0 : Nat) (x1 : Int32) (y2 : Int32) (y3 : Int32) (t0 : Int32) (S : St) : Option (Int32 × St) :=
  fX2_drawDay_s74 k4 a0 x1 y2 y3 S
def fX2_drawDay_s30 (k4 : Int32 → Int32 → St → Option (Int32 × St)) (a0 : Nat) (x1 : Int32) (y2 : Int32) (y3 : Int32) (y4 : Int32)  (S : St) : Option (Int32 × St) :=
  if y4 = 0 then ((fX2_holdDay a0 y3 S).bind fun r_8 =>
  fX2_drawDay_s40 k4 a0 x1 y2 y3 r_8.1 r_8.2) else
  (if y4 = (1 : Int32) then (fX2_drawDay_s59 k4 a0 x1 ((y2 * (1103515245 : Int32)) + (12345 : Int32)) y3 S) else
  (fX2_drawDay_s74 k4 a0 x1 y2 y3 S))
def fX2_drawDay_s21 (k4 : Int32 → Int32 → St → Option (Int32 × St)) (a0 : Nat) (x1 : Int32) (y2 : Int32) (y3 : Int32)  (S : St) : Option (Int32 × St) :=
  fX2_drawDay_s30 k4 a0 x1 y2 y3 ((y2.toUInt32 >>> ((8 : Int32).toUInt32 &&& Int32.toUInt32 31)).toInt32 - (y2.toUInt32 >>> ((8 : Int32).toUInt32 &&& Int32.toUInt32 31)).toInt32 / (12 : Int32) * (12 : Int32)) S
def fX2_drawDay_s4 (k4 : Int32 → Int32 → St → Option (Int32 × St)) (a0 : Nat) (x1 : Int32) (y2 : Int32) (y3 : Int32)  (S : St) : Option (Int32 × St) :=
  if (gI S 2 1 a0) ≤ y3 then ((fX2_passDays a0 (1 : Int32) S).bind fun r_2 =>
  fX2_drawDay_s85 a0 x1 y2 r_2.1 r_2.2) else
  (fX2_drawDay_s21 k4 a0 x1 ((y2 * (1103515245 : Int32)) + (12345 : Int32)) y3 S)
def fX2_drawDay_h4 (a0 : Nat) (x1 : Int32) : Nat → Int32 → Int32 → St → Option (Int32 × St)
  | 0, _, _, _ => none
  | n + 1, y2, y3, S => fX2_drawDay_s4 (fX2_drawDay_h4 a0 x1 n) a0 x1 y2 y3 S
def fX2_drawDay (a0 : Nat) (x1 : Int32) (S : St) : Option (Int32 × St) :=
  fX2_drawDay_h4 a0 x1 NN x1 (0 : Int32) S
theorem wX2_drawDay_s85 {z : Mx} {ad : Nat → Nat} {o : Option Value × St} (X : CxOk z ad RX2 cX2_drawDay 5 (some .int) 4) (a0 : Nat) (x1 : Int32) (h0 : KT a0 = 2) (y2 : Int32) (t0 : Int32)   (S : St) (r : (Int32 × St)) (ho : o = (some (.int r.1), r.2)) (hF : fX2_drawDay_s85 a0 x1 y2 t0 S = some r) : GW z ad o S 85 [(2, .int y2)] [.int t0] := by
  unfold fX2_drawDay_s85 at hF
  refine g_pop (a := .int t0) X dX2_drawDay_85 rfl ?_
  refine g_iload_n X dX2_drawDay_86 0 rfl rfl ?_
  have hF := Option.some.inj hF
  subst hF
  exact g_iret X dX2_drawDay_87 ho
theorem wX2_drawDay_s74 {z : Mx} {ad : Nat → Nat} {o : Option Value × St} (X : CxOk z ad RX2 cX2_drawDay 5 (some .int) 4) (a0 : Nat) (x1 : Int32) (h0 : KT a0 = 2) (y2 : Int32) (y3 : Int32)  (k4 : Int32 → Int32 → St → Option (Int32 × St))   (S : St) (r : (Int32 × St)) (ho : o = (some (.int r.1), r.2)) (hk4 : ∀ (y2 : Int32) (y3 : Int32) (S : St), k4 y2 y3 S = some r → GW z ad o S 4 [(0, .ref (ad a0)), (2, .int y2), (3, .int y3)] []) (hF : fX2_drawDay_s74 k4 a0 x1 y2 y3  S = some r) : GW z ad o S 74 [(0, .ref (ad a0)), (2, .int y2), (3, .int y3)] [] := by
  unfold fX2_drawDay_s74 at hF
  refine g_iinc (v := (y3 + (1 : Int32))) X dX2_drawDay_74 2 rfl rfl (by decide) (lv' := [(3, .int (y3 + (1 : Int32))), (0, .ref (ad a0)), (2, .int y2)]) rfl ?_
  refine g_goto (tgt := 4) X dX2_drawDay_77 (by decide) ?_
  exact g_perm [1, 2, 0] rfl (hk4 y2 (y3 + (1 : Int32)) S hF)
theorem wX2_drawDay_s73 {z : Mx} {ad : Nat → Nat} {o : Option Value × St} (X : CxOk z ad RX2 cX2_drawDay 5 (some .int) 4) (a0 : Nat) (x1 : Int32) (h0 : KT a0 = 2) (y2 : Int32) (y3 : Int32) (t0 : Int32) (k4 : Int32 → Int32 → St → Option (Int32 × St))   (S : St) (r : (Int32 × St)) (ho : o = (some (.int r.1), r.2)) (hk4 : ∀ (y2 : Int32) (y3 : Int32) (S : St), k4 y2 y3 S = some r → GW z ad o S 4 [(0, .ref (ad a0)), (2, .int y2), (3, .int y3)] []) (hF : fX2_drawDay_s73 k4 a0 x1 y2 y3 t0 S = some r) : GW z ad o S 73 [(0, .ref (ad a0)), (2, .int y2), (3, .int y3)] [.int t0] := by
  unfold fX2_drawDay_s73 at hF
  refine g_pop (a := .int t0) X dX2_drawDay_73 rfl ?_
  exact (wX2_drawDay_s74 X a0 x1 h0 y2 y3 k4 S r ho hk4 hF)
theorem wX2_drawDay_s59 {z : Mx} {ad : Nat → Nat} {o : Option Value × St} (X : CxOk z ad RX2 cX2_drawDay 5 (some .int) 4) (a0 : Nat) (x1 : Int32) (h0 : KT a0 = 2) (y2 : Int32) (y3 : Int32)  (k4 : Int32 → Int32 → St → Option (Int32 × St))   (S : St) (r : (Int32 × St)) (ho : o = (some (.int r.1), r.2)) (hk4 : ∀ (y2 : Int32) (y3 : Int32) (S : St), k4 y2 y3 S = some r → GW z ad o S 4 [(0, .ref (ad a0)), (2, .int y2), (3, .int y3)] []) (hF : fX2_drawDay_s59 k4 a0 x1 y2 y3  S = some r) : GW z ad o S 59 [(0, .ref (ad a0)), (2, .int y2), (3, .int y3)] [] := by
  unfold fX2_drawDay_s59 at hF
  refine g_aload_n X dX2_drawDay_59 0 rfl rfl ?_
  refine g_iload_n X dX2_drawDay_60 2 rfl rfl ?_
  refine g_iload_n X dX2_drawDay_61 1 rfl rfl ?_
  refine g_bipush (v := 8) X dX2_drawDay_62 (by decide) ?_
  refine g_iushr X dX2_drawDay_64 ?_
  refine g_bipush (v := 9) X dX2_drawDay_65 (by decide) ?_
  refine g_irem X dX2_drawDay_67 (by decide) ?_
  refine g_iconst (v := 1) X dX2_drawDay_68 (by decide) ?_
  refine g_iadd X dX2_drawDay_69 ?_
  obtain ⟨r_6, q_7, hF⟩ := obind hF
  refine g_callVi (As := [.int y3, .int (((y2.toUInt32 >>> ((8 : Int32).toUInt32 &&& Int32.toUInt32 31)).toInt32 - (y2.toUInt32 >>> ((8 : Int32).toUInt32 &&& Int32.toUInt32 31)).toInt32 / (9 : Int32) * (9 : Int32)) + (1 : Int32))]) X dX2_drawDay_70 mlX2_60 (fun l D cyy => tX2_skipDays (cx_inj X) l D cyy a0 y3 (((y2.toUInt32 >>> ((8 : Int32).toUInt32 &&& Int32.toUInt32 31)).toInt32 - (y2.toUInt32 >>> ((8 : Int32).toUInt32 &&& Int32.toUInt32 31)).toInt32 / (9 : Int32) * (9 : Int32)) + (1 : Int32)) h0 S r_6 q_7) h0 (by decide) rfl rfl (Nat.le_of_ble_eq_true rfl) ?_
  exact (wX2_drawDay_s73 X a0 x1 h0 y2 y3 r_6.1 k4 r_6.2 r ho hk4 hF)
theorem wX2_drawDay_s40 {z : Mx} {ad : Nat → Nat} {o : Option Value × St} (X : CxOk z ad RX2 cX2_drawDay 5 (some .int) 4) (a0 : Nat) (x1 : Int32) (h0 : KT a0 = 2) (y2 : Int32) (y3 : Int32) (t0 : Int32) (k4 : Int32 → Int32 → St → Option (Int32 × St))   (S : St) (r : (Int32 × St)) (ho : o = (some (.int r.1), r.2)) (hk4 : ∀ (y2 : Int32) (y3 : Int32) (S : St), k4 y2 y3 S = some r → GW z ad o S 4 [(0, .ref (ad a0)), (2, .int y2), (3, .int y3)] []) (hF : fX2_drawDay_s40 k4 a0 x1 y2 y3 t0 S = some r) : GW z ad o S 40 [(0, .ref (ad a0)), (2, .int y2), (3, .int y3)] [.int t0] := by
  unfold fX2_drawDay_s40 at hF
  refine g_pop (a := .int t0) X dX2_drawDay_40 rfl ?_
  refine g_goto (tgt := 74) X dX2_drawDay_41 (by decide) ?_
  exact (wX2_drawDay_s74 X a0 x1 h0 y2 y3 k4 S r ho hk4 hF)
theorem wX2_drawDay_s30 {z : Mx} {ad : Nat → Nat} {o : Option Value × St} (X : CxOk z ad RX2 cX2_drawDay 5 (some .int) 4) (a0 : Nat) (x1 : Int32) (h0 : KT a0 = 2) (y2 : Int32) (y3 : Int32) (y4 : Int32)  (k4 : Int32 → Int32 → St → Option (Int32 × St))   (S : St) (r : (Int32 × St)) (ho : o = (some (.int r.1), r.2)) (hk4 : ∀ (y2 : Int32) (y3 : Int32) (S : St), k4 y2 y3 S = some r → GW z ad o S 4 [(0, .ref (ad a0)), (2, .int y2), (3, .int y3)] []) (hF : fX2_drawDay_s30 k4 a0 x1 y2 y3 y4  S = some r) : GW z ad o S 30 [(0, .ref (ad a0)), (2, .int y2), (3, .int y3), (4, .int y4)] [] := by
  unfold fX2_drawDay_s30 at hF
  refine g_iload X dX2_drawDay_30 3 rfl ?_
  refine g_if_ne (tgt := 44) X dX2_drawDay_32 (by decide) (fun c_4 => ?_) (fun c_4 => ?_)
  · rw [if_neg c_4] at hF
    refine g_iload X dX2_drawDay_44 3 rfl ?_
    refine g_iconst (v := 1) X dX2_drawDay_46 (by decide) ?_
    refine g_icmp_ne (tgt := 74) X dX2_drawDay_47 (by decide) (fun c_5 => ?_) (fun c_5 => ?_)
    · rw [if_neg c_5] at hF
      exact g_perm [0, 1, 2] rfl (wX2_drawDay_s74 X a0 x1 h0 y2 y3 k4 S r ho hk4 hF)
    · rw [if_pos c_5] at hF
      refine g_iload_n X dX2_drawDay_50 1 rfl rfl ?_
      refine g_ldc (v := 1103515245) X dX2_drawDay_51 (inr_53 _ (List.mem_of_getElem? (i := 16) rfl)) ?_
      refine g_imul X dX2_drawDay_53 ?_
      refine g_sipush (v := 12345) X dX2_drawDay_54 (by decide) ?_
      refine g_iadd X dX2_drawDay_57 ?_
      refine g_istore_n X dX2_drawDay_58 rfl (by decide) (lv' := [(2, .int ((y2 * (1103515245 : Int32)) + (12345 : Int32))), (0, .ref (ad a0)), (3, .int y3), (4, .int y4)]) rfl ?_
      exact g_perm [1, 0, 2] rfl (wX2_drawDay_s59 X a0 x1 h0 ((y2 * (1103515245 : Int32)) + (12345 : Int32)) y3 k4 S r ho hk4 hF)
  · rw [if_pos c_4] at hF
    refine g_aload_n X dX2_drawDay_35 0 rfl rfl ?_
    refine g_iload_n X dX2_drawDay_36 2 rfl rfl ?_
    obtain ⟨r_8, q_9, hF⟩ := obind hF
    refine g_callVi (As := [.int y3]) X dX2_drawDay_37 mlX2_56 (fun l D cyy => tX2_holdDay (cx_inj X) l D cyy a0 y3 h0 S r_8 q_9) h0 (by decide) rfl rfl (Nat.le_of_ble_eq_true rfl) ?_
    exact g_perm [0, 1, 2] rfl (wX2_drawDay_s40 X a0 x1 h0 y2 y3 r_8.1 k4 r_8.2 r ho hk4 hF)
theorem wX2_drawDay_s21 {z : Mx} {ad : Nat → Nat} {o : Option Value × St} (X : CxOk z ad RX2 cX2_drawDay 5 (some .int) 4) (a0 : Nat) (x1 : Int32) (h0 : KT a0 = 2) (y2 : Int32) (y3 : Int32)  (k4 : Int32 → Int32 → St → Option (Int32 × St))   (S : St) (r : (Int32 × St)) (ho : o = (some (.int r.1), r.2)) (hk4 : ∀ (y2 : Int32) (y3 : Int32) (S : St), k4 y2 y3 S = some r → GW z ad o S 4 [(0, .ref (ad a0)), (2, .int y2), (3, .int y3)] []) (hF : fX2_drawDay_s21 k4 a0 x1 y2 y3  S = some r) : GW z ad o S 21 [(0, .ref (ad a0)), (2, .int y2), (3, .int y3)] [] := by
  unfold fX2_drawDay_s21 at hF
  refine g_iload_n X dX2_drawDay_21 1 rfl rfl ?_
  refine g_bipush (v := 8) X dX2_drawDay_22 (by decide) ?_
  refine g_iushr X dX2_drawDay_24 ?_
  refine g_bipush (v := 12) X dX2_drawDay_25 (by decide) ?_
  refine g_irem X dX2_drawDay_27 (by decide) ?_
  refine g_istore X dX2_drawDay_28 (by decide) (lv' := [(4, .int ((y2.toUInt32 >>> ((8 : Int32).toUInt32 &&& Int32.toUInt32 31)).toInt32 - (y2.toUInt32 >>> ((8 : Int32).toUInt32 &&& Int32.toUInt32 31)).toInt32 / (12 : Int32) * (12 : Int32))), (0, .ref (ad a0)), (2, .int y2), (3, .int y3)]) rfl ?_
  exact g_perm [1, 2, 3, 0] rfl (wX2_drawDay_s30 X a0 x1 h0 y2 y3 ((y2.toUInt32 >>> ((8 : Int32).toUInt32 &&& Int32.toUInt32 31)).toInt32 - (y2.toUInt32 >>> ((8 : Int32).toUInt32 &&& Int32.toUInt32 31)).toInt32 / (12 : Int32) * (12 : Int32)) k4 S r ho hk4 hF)
theorem wX2_drawDay_s4 {z : Mx} {ad : Nat → Nat} {o : Option Value × St} (X : CxOk z ad RX2 cX2_drawDay 5 (some .int) 4) (a0 : Nat) (x1 : Int32) (h0 : KT a0 = 2) (y2 : Int32) (y3 : Int32)  (k4 : Int32 → Int32 → St → Option (Int32 × St))   (S : St) (r : (Int32 × St)) (ho : o = (some (.int r.1), r.2)) (hk4 : ∀ (y2 : Int32) (y3 : Int32) (S : St), k4 y2 y3 S = some r → GW z ad o S 4 [(0, .ref (ad a0)), (2, .int y2), (3, .int y3)] []) (hF : fX2_drawDay_s4 k4 a0 x1 y2 y3  S = some r) : GW z ad o S 4 [(0, .ref (ad a0)), (2, .int y2), (3, .int y3)] [] := by
  unfold fX2_drawDay_s4 at hF
  refine g_iload_n X dX2_drawDay_4 2 rfl rfl ?_
  refine g_aload_n X dX2_drawDay_5 0 rfl rfl ?_
  refine g_getI X dX2_drawDay_6 flX2_33 rfl h0 ?_
  refine g_icmp_ge (tgt := 80) X dX2_drawDay_9 (by decide) (fun c_1 => ?_) (fun c_1 => ?_)
  · rw [if_pos c_1] at hF
    refine g_aload_n X dX2_drawDay_80 0 rfl rfl ?_
    refine g_iconst (v := 1) X dX2_drawDay_81 (by decide) ?_
    obtain ⟨r_2, q_3, hF⟩ := obind hF
    refine g_callVi (As := [.int (1 : Int32)]) X dX2_drawDay_82 mlX2_63 (fun l D cyy => tX2_passDays (cx_inj X) l D cyy a0 (1 : Int32) h0 S r_2 q_3) h0 (by decide) rfl rfl (Nat.le_of_ble_eq_true rfl) ?_
    exact g_perm [1] rfl (wX2_drawDay_s85 X a0 x1 h0 y2 r_2.1 r_2.2 r ho hF)
  · rw [if_neg c_1] at hF
    refine g_iload_n X dX2_drawDay_12 1 rfl rfl ?_
    refine g_ldc (v := 1103515245) X dX2_drawDay_13 (inr_53 _ (List.mem_of_getElem? (i := 16) rfl)) ?_
    refine g_imul X dX2_drawDay_15 ?_
    refine g_sipush (v := 12345) X dX2_drawDay_16 (by decide) ?_
    refine g_iadd X dX2_drawDay_19 ?_
    refine g_istore_n X dX2_drawDay_20 rfl (by decide) (lv' := [(2, .int ((y2 * (1103515245 : Int32)) + (12345 : Int32))), (0, .ref (ad a0)), (3, .int y3)]) rfl ?_
    exact g_perm [1, 0, 2] rfl (wX2_drawDay_s21 X a0 x1 h0 ((y2 * (1103515245 : Int32)) + (12345 : Int32)) y3 k4 S r ho hk4 hF)
theorem wX2_drawDay_h4 {z : Mx} {ad : Nat → Nat} {o : Option Value × St} (X : CxOk z ad RX2 cX2_drawDay 5 (some .int) 4) (a0 : Nat) (x1 : Int32) (h0 : KT a0 = 2)  (r : (Int32 × St)) (ho : o = (some (.int r.1), r.2)) : ∀ (n : Nat) (y2 : Int32) (y3 : Int32) (S : St), fX2_drawDay_h4 a0 x1 n y2 y3 S = some r → GW z ad o S 4 [(0, .ref (ad a0)), (2, .int y2), (3, .int y3)] [] := by
  intro n
  induction n with
  | zero => intro y2 y3 S  hF; cases hF
  | succ n ih => intro y2 y3 S  hF; exact wX2_drawDay_s4 X a0 x1 h0 y2 y3 (fX2_drawDay_h4 a0 x1 n)  S r ho ih hF
theorem wX2_drawDay {z : Mx} {ad : Nat → Nat} {o : Option Value × St} (X : CxOk z ad RX2 cX2_drawDay 5 (some .int) 4) (a0 : Nat) (x1 : Int32) (h0 : KT a0 = 2) (S : St) (r : (Int32 × St)) (ho : o = (some (.int r.1), r.2)) (hF : fX2_drawDay a0 x1 S = some r) : GW z ad o S 0 [(0, .ref (ad a0)), (1, .int x1)] [] := by
  unfold fX2_drawDay at hF
  refine g_iload_n X dX2_drawDay_0 1 rfl rfl ?_
  refine g_istore_n X dX2_drawDay_1 rfl (by decide) (lv' := [(2, .int x1), (0, .ref (ad a0)), (1, .int x1)]) rfl ?_
  refine g_iconst (v := 0) X dX2_drawDay_2 (by decide) ?_
  refine g_istore_n X dX2_drawDay_3 rfl (by decide) (lv' := [(3, .int (0 : Int32)), (2, .int x1), (0, .ref (ad a0)), (1, .int x1)]) rfl ?_
  exact g_perm [2, 1, 0] rfl (wX2_drawDay_h4 X a0 x1 h0 r ho NN x1 (0 : Int32) S hF)
theorem tX2_drawDay {ad : Nat → Nat} (hI : Inj ad) (l : Launch) (D : va_G) (cyy : Nat → ClassId) (a0 : Nat) (x1 : Int32) (h0 : KT a0 = 2) (S : St) (r : (Int32 × St)) (hF : fX2_drawDay a0 x1 S = some r) : OkM l yX2_drawDay cX2_drawDay 5 (some .int) 4 ad D cyy [.ref (ad a0), .int x1] S (some (.int r.1), r.2) := okM_of hI (by decide) (inr_53 _ (List.mem_of_getElem? (i := 15) rfl)) (by show _ ≤ 5; exact Nat.le_of_ble_eq_true rfl) (fun z X => wX2_drawDay X a0 x1 h0 S r rfl hF)
def fX2_heldInAll_s21 (k4 : Int32 → Int32 → Option Int32) (a0 : Nat) (y1 : Int32) (y2 : Int32)  (S : St) : Option Int32 :=
  k4 y1 (y2 + (1 : Int32))
def fX2_heldInAll_s4 (k4 : Int32 → Int32 → Option Int32) (a0 : Nat) (y1 : Int32) (y2 : Int32)  (S : St) : Option Int32 :=
  if (gI S 2 1 a0) ≤ y2 then (some y1) else
  (if (y2 < 0 ∨ 5 ≤ y2.toNatClampNeg) then none else
  fX2_heldInAll_s21 k4 a0 (y1 + (gA S 16 (a0 + 2) y2.toNatClampNeg)) y2 S)
def fX2_heldInAll_h4 (a0 : Nat) : Nat → Int32 → Int32 → St → Option Int32
  | 0, _, _, _ => none
  | n + 1, y1, y2, S => fX2_heldInAll_s4 (fun y1 y2 => fX2_heldInAll_h4 a0 n y1 y2 S) a0 y1 y2 S
def fX2_heldInAll (a0 : Nat) (S : St) : Option Int32 :=
  fX2_heldInAll_h4 a0 NN (0 : Int32) (0 : Int32) S
theorem wX2_heldInAll_s21 {z : Mx} {ad : Nat → Nat} {o : Option Value × St} (X : CxOk z ad RX2 cX2_heldInAll 3 (some .int) 1) (a0 : Nat) (h0 : KT a0 = 2) (y1 : Int32) (y2 : Int32)  (k4 : Int32 → Int32 → Option Int32)   (S : St) (r : Int32) (ho : o = (some (.int r), S)) (hk4 : ∀ (y1 : Int32) (y2 : Int32), k4 y1 y2 = some r → GW z ad o S 4 [(0, .ref (ad a0)), (1, .int y1), (2, .int y2)] []) (hF : fX2_heldInAll_s21 k4 a0 y1 y2  S = some r) : GW z ad o S 21 [(0, .ref (ad a0)), (1, .int y1), (2, .int y2)] [] := by
  unfold fX2_heldInAll_s21 at hF
  refine g_iinc (v := (y2 + (1 : Int32))) X dX2_heldInAll_21 2 rfl rfl (by decide) (lv' := [(2, .int (y2 + (1 : Int32))), (0, .ref (ad a0)), (1, .int y1)]) rfl ?_
  refine g_goto (tgt := 4) X dX2_heldInAll_24 (by decide) ?_
  exact g_perm [1, 2, 0] rfl (hk4 y1 (y2 + (1 : Int32)) hF)
theorem wX2_heldInAll_s4 {z : Mx} {ad : Nat → Nat} {o : Option Value × St} (X : CxOk z ad RX2 cX2_heldInAll 3 (some .int) 1) (a0 : Nat) (h0 : KT a0 = 2) (y1 : Int32) (y2 : Int32)  (k4 : Int32 → Int32 → Option Int32)   (S : St) (r : Int32) (ho : o = (some (.int r), S)) (hk4 : ∀ (y1 : Int32) (y2 : Int32), k4 y1 y2 = some r → GW z ad o S 4 [(0, .ref (ad a0)), (1, .int y1), (2, .int y2)] []) (hF : fX2_heldInAll_s4 k4 a0 y1 y2  S = some r) : GW z ad o S 4 [(0, .ref (ad a0)), (1, .int y1), (2, .int y2)] [] := by
  unfold fX2_heldInAll_s4 at hF
  refine g_iload_n X dX2_heldInAll_4 2 rfl rfl ?_
  refine g_aload_n X dX2_heldInAll_5 0 rfl rfl ?_
  refine g_getI X dX2_heldInAll_6 flX2_33 rfl h0 ?_
  refine g_icmp_ge (tgt := 27) X dX2_heldInAll_9 (by decide) (fun c_1 => ?_) (fun c_1 => ?_)
  · rw [if_pos c_1] at hF
    refine g_iload_n X dX2_heldInAll_27 1 rfl rfl ?_
    have hF := Option.some.inj hF
    subst hF
    exact g_iret X dX2_heldInAll_28 ho
  · rw [if_neg c_1] at hF
    refine g_iload_n X dX2_heldInAll_12 1 rfl rfl ?_
    refine g_aload_n X dX2_heldInAll_13 0 rfl rfl ?_
    refine g_getR (f := 2) X dX2_heldInAll_14 flX2_15 rfl rfl h0 ?_
    refine g_iload_n X dX2_heldInAll_17 2 rfl rfl ?_
    obtain ⟨e_2, hF⟩ := oguard hF
    refine g_iald X dX2_heldInAll_18 kd_16 (on_2_4 h0) e_2 ?_
    refine g_iadd X dX2_heldInAll_19 ?_
    refine g_istore_n X dX2_heldInAll_20 rfl (by decide) (lv' := [(1, .int (y1 + (gA S 16 (a0 + 2) y2.toNatClampNeg))), (0, .ref (ad a0)), (2, .int y2)]) rfl ?_
    exact g_perm [1, 0, 2] rfl (wX2_heldInAll_s21 X a0 h0 (y1 + (gA S 16 (a0 + 2) y2.toNatClampNeg)) y2 k4 S r ho hk4 hF)
theorem wX2_heldInAll_h4 {z : Mx} {ad : Nat → Nat} {o : Option Value × St} (X : CxOk z ad RX2 cX2_heldInAll 3 (some .int) 1) (a0 : Nat) (h0 : KT a0 = 2)  (S : St) (r : Int32) (ho : o = (some (.int r), S)) : ∀ (n : Nat) (y1 : Int32) (y2 : Int32), fX2_heldInAll_h4 a0 n y1 y2 S = some r → GW z ad o S 4 [(0, .ref (ad a0)), (1, .int y1), (2, .int y2)] [] := by
  intro n
  induction n with
  | zero => intro y1 y2  hF; cases hF
  | succ n ih => intro y1 y2  hF; exact wX2_heldInAll_s4 X a0 h0 y1 y2 (fun y1 y2 => fX2_heldInAll_h4 a0 n y1 y2 S)  S r ho (fun y1 y2 hF => ih y1 y2  hF) hF
theorem wX2_heldInAll {z : Mx} {ad : Nat → Nat} {o : Option Value × St} (X : CxOk z ad RX2 cX2_heldInAll 3 (some .int) 1) (a0 : Nat) (h0 : KT a0 = 2) (S : St) (r : Int32) (ho : o = (some (.int r), S)) (hF : fX2_heldInAll a0 S = some r) : GW z ad o S 0 [(0, .ref (ad a0))] [] := by
  unfold fX2_heldInAll at hF
  refine g_iconst (v := 0) X dX2_heldInAll_0 (by decide) ?_
  refine g_istore_n X dX2_heldInAll_1 rfl (by decide) (lv' := [(1, .int (0 : Int32)), (0, .ref (ad a0))]) rfl ?_
  refine g_iconst (v := 0) X dX2_heldInAll_2 (by decide) ?_
  refine g_istore_n X dX2_heldInAll_3 rfl (by decide) (lv' := [(2, .int (0 : Int32)), (1, .int (0 : Int32)), (0, .ref (ad a0))]) rfl ?_
  exact g_perm [2, 1, 0] rfl (wX2_heldInAll_h4 X a0 h0 S r ho NN (0 : Int32) (0 : Int32) hF)
theorem tX2_heldInAll {ad : Nat → Nat} (hI : Inj ad) (l : Launch) (D : va_G) (cyy : Nat → ClassId) (a0 : Nat) (h0 : KT a0 = 2) (S : St) (r : Int32) (hF : fX2_heldInAll a0 S = some r) : OkM l yX2_heldInAll cX2_heldInAll 3 (some .int) 1 ad D cyy [.ref (ad a0)] S (some (.int r), S) := okM_of hI (by decide) (inr_29 _ (List.mem_of_getElem? (i := 10) rfl)) (by show _ ≤ 3; exact Nat.le_of_ble_eq_true rfl) (fun z X => wX2_heldInAll X a0 h0 S r rfl hF)
def fX2_skippedInAll_s21 (k4 : Int32 → Int32 → Option Int32) (a0 : Nat) (y1 : Int32) (y2 : Int32)  (S : St) : Option Int32 :=
  k4 y1 (y2 + (1 : Int32))
def fX2_skippedInAll_s4 (k4 : Int32 → Int32 → Option Int32) (a0 : Nat) (y1 : Int32) (y2 : Int32)  (S : St) : Option Int32 :=
  if (gI S 2 1 a0) ≤ y2 then (some y1) else
  (if (y2 < 0 ∨ 5 ≤ y2.toNatClampNeg) then none else
  fX2_skippedInAll_s21 k4 a0 (y1 + (gA S 17 (a0 + 3) y2.toNatClampNeg)) y2 S)
def fX2_skippedInAll_h4 (a0 : Nat) : Nat → Int32 → Int32 → St → Option Int32
  | 0, _, _, _ => none
  | n + 1, y1, y2, S => fX2_skippedInAll_s4 (fun y1 y2 => fX2_skippedInAll_h4 a0 n y1 y2 S) a0 y1 y2 S
def fX2_skippedInAll (a0 : Nat) (S : St) : Option Int32 :=
  fX2_skippedInAll_h4 a0 NN (0 : Int32) (0 : Int32) S
theorem wX2_skippedInAll_s21 {z : Mx} {ad : Nat → Nat} {o : Option Value × St} (X : CxOk z ad RX2 cX2_skippedInAll 3 (some .int) 1) (a0 : Nat) (h0 : KT a0 = 2) (y1 : Int32) (y2 : Int32)  (k4 : Int32 → Int32 → Option Int32)   (S : St) (r : Int32) (ho : o = (some (.int r), S)) (hk4 : ∀ (y1 : Int32) (y2 : Int32), k4 y1 y2 = some r → GW z ad o S 4 [(0, .ref (ad a0)), (1, .int y1), (2, .int y2)] []) (hF : fX2_skippedInAll_s21 k4 a0 y1 y2  S = some r) : GW z ad o S 21 [(0, .ref (ad a0)), (1, .int y1), (2, .int y2)] [] := by
  unfold fX2_skippedInAll_s21 at hF
  refine g_iinc (v := (y2 + (1 : Int32))) X dX2_skippedInAll_21 2 rfl rfl (by decide) (lv' := [(2, .int (y2 + (1 : Int32))), (0, .ref (ad a0)), (1, .int y1)]) rfl ?_
  refine g_goto (tgt := 4) X dX2_skippedInAll_24 (by decide) ?_
  exact g_perm [1, 2, 0] rfl (hk4 y1 (y2 + (1 : Int32)) hF)
theorem wX2_skippedInAll_s4 {z : Mx} {ad : Nat → Nat} {o : Option Value × St} (X : CxOk z ad RX2 cX2_skippedInAll 3 (some .int) 1) (a0 : Nat) (h0 : KT a0 = 2) (y1 : Int32) (y2 : Int32)  (k4 : Int32 → Int32 → Option Int32)   (S : St) (r : Int32) (ho : o = (some (.int r), S)) (hk4 : ∀ (y1 : Int32) (y2 : Int32), k4 y1 y2 = some r → GW z ad o S 4 [(0, .ref (ad a0)), (1, .int y1), (2, .int y2)] []) (hF : fX2_skippedInAll_s4 k4 a0 y1 y2  S = some r) : GW z ad o S 4 [(0, .ref (ad a0)), (1, .int y1), (2, .int y2)] [] := by
  unfold fX2_skippedInAll_s4 at hF
  refine g_iload_n X dX2_skippedInAll_4 2 rfl rfl ?_
  refine g_aload_n X dX2_skippedInAll_5 0 rfl rfl ?_
  refine g_getI X dX2_skippedInAll_6 flX2_33 rfl h0 ?_
  refine g_icmp_ge (tgt := 27) X dX2_skippedInAll_9 (by decide) (fun c_1 => ?_) (fun c_1 => ?_)
  · rw [if_pos c_1] at hF
    refine g_iload_n X dX2_skippedInAll_27 1 rfl rfl ?_
    have hF := Option.some.inj hF
    subst hF
    exact g_iret X dX2_skippedInAll_28 ho
  · rw [if_neg c_1] at hF
    refine g_iload_n X dX2_skippedInAll_12 1 rfl rfl ?_
    refine g_aload_n X dX2_skippedInAll_13 0 rfl rfl ?_
    refine g_getR (f := 3) X dX2_skippedInAll_14 flX2_18 rfl rfl h0 ?_
    refine g_iload_n X dX2_skippedInAll_17 2 rfl rfl ?_
    obtain ⟨e_2, hF⟩ := oguard hF
    refine g_iald X dX2_skippedInAll_18 kd_17 (on_2_5 h0) e_2 ?_
    refine g_iadd X dX2_skippedInAll_19 ?_
    refine g_istore_n X dX2_skippedInAll_20 rfl (by decide) (lv' := [(1, .int (y1 + (gA S 17 (a0 + 3) y2.toNatClampNeg))), (0, .ref (ad a0)), (2, .int y2)]) rfl ?_
    exact g_perm [1, 0, 2] rfl (wX2_skippedInAll_s21 X a0 h0 (y1 + (gA S 17 (a0 + 3) y2.toNatClampNeg)) y2 k4 S r ho hk4 hF)
theorem wX2_skippedInAll_h4 {z : Mx} {ad : Nat → Nat} {o : Option Value × St} (X : CxOk z ad RX2 cX2_skippedInAll 3 (some .int) 1) (a0 : Nat) (h0 : KT a0 = 2)  (S : St) (r : Int32) (ho : o = (some (.int r), S)) : ∀ (n : Nat) (y1 : Int32) (y2 : Int32), fX2_skippedInAll_h4 a0 n y1 y2 S = some r → GW z ad o S 4 [(0, .ref (ad a0)), (1, .int y1), (2, .int y2)] [] := by
  intro n
  induction n with
  | zero => intro y1 y2  hF; cases hF
  | succ n ih => intro y1 y2  hF; exact wX2_skippedInAll_s4 X a0 h0 y1 y2 (fun y1 y2 => fX2_skippedInAll_h4 a0 n y1 y2 S)  S r ho (fun y1 y2 hF => ih y1 y2  hF) hF
theorem wX2_skippedInAll {z : Mx} {ad : Nat → Nat} {o : Option Value × St} (X : CxOk z ad RX2 cX2_skippedInAll 3 (some .int) 1) (a0 : Nat) (h0 : KT a0 = 2) (S : St) (r : Int32) (ho : o = (some (.int r), S)) (hF : fX2_skippedInAll a0 S = some r) : GW z ad o S 0 [(0, .ref (ad a0))] [] := by
  unfold fX2_skippedInAll at hF
  refine g_iconst (v := 0) X dX2_skippedInAll_0 (by decide) ?_
  refine g_istore_n X dX2_skippedInAll_1 rfl (by decide) (lv' := [(1, .int (0 : Int32)), (0, .ref (ad a0))]) rfl ?_
  refine g_iconst (v := 0) X dX2_skippedInAll_2 (by decide) ?_
  refine g_istore_n X dX2_skippedInAll_3 rfl (by decide) (lv' := [(2, .int (0 : Int32)), (1, .int (0 : Int32)), (0, .ref (ad a0))]) rfl ?_
  exact g_perm [2, 1, 0] rfl (wX2_skippedInAll_h4 X a0 h0 S r ho NN (0 : Int32) (0 : Int32) hF)
theorem tX2_skippedInAll {ad : Nat → Nat} (hI : Inj ad) (l : Launch) (D : va_G) (cyy : Nat → ClassId) (a0 : Nat) (h0 : KT a0 = 2) (S : St) (r : Int32) (hF : fX2_skippedInAll a0 S = some r) : OkM l yX2_skippedInAll cX2_skippedInAll 3 (some .int) 1 ad D cyy [.ref (ad a0)] S (some (.int r), S) := okM_of hI (by decide) (inr_29 _ (List.mem_of_getElem? (i := 14) rfl)) (by show _ ≤ 3; exact Nat.le_of_ble_eq_true rfl) (fun z X => wX2_skippedInAll X a0 h0 S r rfl hF)
