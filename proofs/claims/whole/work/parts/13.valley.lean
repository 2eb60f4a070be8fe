theorem dX8_hasParish_0 : decode cX8_hasParish 0 = .ok (.iload_n 1, 1) := by decide +kernel
theorem dX8_hasParish_1 : decode cX8_hasParish 1 = .ok (.ifCond .lt 15, 3) := by decide +kernel
theorem dX8_hasParish_4 : decode cX8_hasParish 4 = .ok (.iload_n 1, 1) := by decide +kernel
theorem dX8_hasParish_5 : decode cX8_hasParish 5 = .ok (.aload_n 0, 1) := by decide +kernel
theorem dX8_hasParish_6 : decode cX8_hasParish 6 = .ok (.getfield 32, 3) := by decide +kernel
theorem dX8_hasParish_9 : decode cX8_hasParish 9 = .ok (.if_icmp .ge 7, 3) := by decide +kernel
theorem dX8_hasParish_12 : decode cX8_hasParish 12 = .ok (.iconst 1, 1) := by decide +kernel
theorem dX8_hasParish_13 : decode cX8_hasParish 13 = .ok (.goto 4, 3) := by decide +kernel
theorem dX8_hasParish_16 : decode cX8_hasParish 16 = .ok (.iconst 0, 1) := by decide +kernel
theorem dX8_hasParish_17 : decode cX8_hasParish 17 = .ok (.ireturn, 1) := by decide +kernel
theorem dX8_hasFeast_0 : decode cX8_hasFeast 0 = .ok (.iload_n 1, 1) := by decide +kernel
theorem dX8_hasFeast_1 : decode cX8_hasFeast 1 = .ok (.ifCond .lt 15, 3) := by decide +kernel
theorem dX8_hasFeast_4 : decode cX8_hasFeast 4 = .ok (.iload_n 1, 1) := by decide +kernel
theorem dX8_hasFeast_5 : decode cX8_hasFeast 5 = .ok (.aload_n 0, 1) := by decide +kernel
theorem dX8_hasFeast_6 : decode cX8_hasFeast 6 = .ok (.getfield 35, 3) := by decide +kernel
theorem dX8_hasFeast_9 : decode cX8_hasFeast 9 = .ok (.if_icmp .ge 7, 3) := by decide +kernel
theorem dX8_hasFeast_12 : decode cX8_hasFeast 12 = .ok (.iconst 1, 1) := by decide +kernel
theorem dX8_hasFeast_13 : decode cX8_hasFeast 13 = .ok (.goto 4, 3) := by decide +kernel
theorem dX8_hasFeast_16 : decode cX8_hasFeast 16 = .ok (.iconst 0, 1) := by decide +kernel
theorem dX8_hasFeast_17 : decode cX8_hasFeast 17 = .ok (.ireturn, 1) := by decide +kernel
theorem dX8_copyFrom_0 : decode cX8_copyFrom 0 = .ok (.iconst 0, 1) := by decide +kernel
theorem dX8_copyFrom_1 : decode cX8_copyFrom 1 = .ok (.istore_n 2, 1) := by decide +kernel
theorem dX8_copyFrom_2 : decode cX8_copyFrom 2 = .ok (.iload_n 2, 1) := by decide +kernel
theorem dX8_copyFrom_3 : decode cX8_copyFrom 3 = .ok (.iconst 5, 1) := by decide +kernel
theorem dX8_copyFrom_4 : decode cX8_copyFrom 4 = .ok (.if_icmp .ge 24, 3) := by decide +kernel
theorem dX8_copyFrom_7 : decode cX8_copyFrom 7 = .ok (.aload_n 0, 1) := by decide +kernel
theorem dX8_copyFrom_8 : decode cX8_copyFrom 8 = .ok (.getfield 11, 3) := by decide +kernel
theorem dX8_copyFrom_11 : decode cX8_copyFrom 11 = .ok (.iload_n 2, 1) := by decide +kernel
theorem dX8_copyFrom_12 : decode cX8_copyFrom 12 = .ok (.aaload, 1) := by decide +kernel
theorem dX8_copyFrom_13 : decode cX8_copyFrom 13 = .ok (.aload_n 1, 1) := by decide +kernel
theorem dX8_copyFrom_14 : decode cX8_copyFrom 14 = .ok (.getfield 11, 3) := by decide +kernel
theorem dX8_copyFrom_17 : decode cX8_copyFrom 17 = .ok (.iload_n 2, 1) := by decide +kernel
theorem dX8_copyFrom_18 : decode cX8_copyFrom 18 = .ok (.aaload, 1) := by decide +kernel
theorem dX8_copyFrom_19 : decode cX8_copyFrom 19 = .ok (.invokevirtual 38, 3) := by decide +kernel
theorem dX8_copyFrom_22 : decode cX8_copyFrom 22 = .ok (.iinc 2 1, 3) := by decide +kernel
theorem dX8_copyFrom_25 : decode cX8_copyFrom 25 = .ok (.goto (-23), 3) := by decide +kernel
theorem dX8_copyFrom_28 : decode cX8_copyFrom 28 = .ok (.iconst 0, 1) := by decide +kernel
theorem dX8_copyFrom_29 : decode cX8_copyFrom 29 = .ok (.istore_n 2, 1) := by decide +kernel
theorem dX8_copyFrom_30 : decode cX8_copyFrom 30 = .ok (.iload_n 2, 1) := by decide +kernel
theorem dX8_copyFrom_31 : decode cX8_copyFrom 31 = .ok (.bipush 6, 2) := by decide +kernel
theorem dX8_copyFrom_33 : decode cX8_copyFrom 33 = .ok (.if_icmp .ge 24, 3) := by decide +kernel
theorem dX8_copyFrom_36 : decode cX8_copyFrom 36 = .ok (.aload_n 0, 1) := by decide +kernel
theorem dX8_copyFrom_37 : decode cX8_copyFrom 37 = .ok (.getfield 19, 3) := by decide +kernel
theorem dX8_copyFrom_40 : decode cX8_copyFrom 40 = .ok (.iload_n 2, 1) := by decide +kernel
theorem dX8_copyFrom_41 : decode cX8_copyFrom 41 = .ok (.aaload, 1) := by decide +kernel
theorem dX8_copyFrom_42 : decode cX8_copyFrom 42 = .ok (.aload_n 1, 1) := by decide +kernel
theorem dX8_copyFrom_43 : decode cX8_copyFrom 43 = .ok (.getfield 19, 3) := by decide +kernel
theorem dX8_copyFrom_46 : decode cX8_copyFrom 46 = .ok (.iload_n 2, 1) := by decide +kernel
theorem dX8_copyFrom_47 : decode cX8_copyFrom 47 = .ok (.aaload, 1) := by decide +kernel
theorem dX8_copyFrom_48 : decode cX8_copyFrom 48 = .ok (.invokevirtual 42, 3) := by decide +kernel
theorem dX8_copyFrom_51 : decode cX8_copyFrom 51 = .ok (.iinc 2 1, 3) := by decide +kernel
theorem dX8_copyFrom_54 : decode cX8_copyFrom 54 = .ok (.goto (-24), 3) := by decide +kernel
theorem dX8_copyFrom_57 : decode cX8_copyFrom 57 = .ok (.aload_n 0, 1) := by decide +kernel
theorem dX8_copyFrom_58 : decode cX8_copyFrom 58 = .ok (.aload_n 1, 1) := by decide +kernel
theorem dX8_copyFrom_59 : decode cX8_copyFrom 59 = .ok (.getfield 32, 3) := by decide +kernel
theorem dX8_copyFrom_62 : decode cX8_copyFrom 62 = .ok (.putfield 32, 3) := by decide +kernel
theorem dX8_copyFrom_65 : decode cX8_copyFrom 65 = .ok (.aload_n 0, 1) := by decide +kernel
theorem dX8_copyFrom_66 : decode cX8_copyFrom 66 = .ok (.aload_n 1, 1) := by decide +kernel
theorem dX8_copyFrom_67 : decode cX8_copyFrom 67 = .ok (.getfield 35, 3) := by decide +kernel
theorem dX8_copyFrom_70 : decode cX8_copyFrom 70 = .ok (.putfield 35, 3) := by decide +kernel
theorem dX8_copyFrom_73 : decode cX8_copyFrom 73 = .ok (.aload_n 0, 1) := by decide +kernel
theorem dX8_copyFrom_74 : decode cX8_copyFrom 74 = .ok (.aload_n 1, 1) := by decide +kernel
theorem dX8_copyFrom_75 : decode cX8_copyFrom 75 = .ok (.getfield 23, 3) := by decide +kernel
theorem dX8_copyFrom_78 : decode cX8_copyFrom 78 = .ok (.putfield 23, 3) := by decide +kernel
theorem dX8_copyFrom_81 : decode cX8_copyFrom 81 = .ok (.aload_n 0, 1) := by decide +kernel
theorem dX8_copyFrom_82 : decode cX8_copyFrom 82 = .ok (.aload_n 1, 1) := by decide +kernel
theorem dX8_copyFrom_83 : decode cX8_copyFrom 83 = .ok (.getfield 27, 3) := by decide +kernel
theorem dX8_copyFrom_86 : decode cX8_copyFrom 86 = .ok (.putfield 27, 3) := by decide +kernel
theorem dX8_copyFrom_89 : decode cX8_copyFrom 89 = .ok (.aload_n 0, 1) := by decide +kernel
theorem dX8_copyFrom_90 : decode cX8_copyFrom 90 = .ok (.aload_n 1, 1) := by decide +kernel
theorem dX8_copyFrom_91 : decode cX8_copyFrom 91 = .ok (.getfield 45, 3) := by decide +kernel
theorem dX8_copyFrom_94 : decode cX8_copyFrom 94 = .ok (.putfield 45, 3) := by decide +kernel
theorem dX8_copyFrom_97 : decode cX8_copyFrom 97 = .ok (.return_, 1) := by decide +kernel
theorem dX8_readFrom_0 : decode cX8_readFrom 0 = .ok (.aload_n 0, 1) := by decide +kernel
theorem dX8_readFrom_1 : decode cX8_readFrom 1 = .ok (.iconst 0, 1) := by decide +kernel
theorem dX8_readFrom_2 : decode cX8_readFrom 2 = .ok (.putfield 32, 3) := by decide +kernel
theorem dX8_readFrom_5 : decode cX8_readFrom 5 = .ok (.aload_n 0, 1) := by decide +kernel
theorem dX8_readFrom_6 : decode cX8_readFrom 6 = .ok (.iconst 0, 1) := by decide +kernel
theorem dX8_readFrom_7 : decode cX8_readFrom 7 = .ok (.putfield 35, 3) := by decide +kernel
theorem dX8_readFrom_10 : decode cX8_readFrom 10 = .ok (.aload_n 0, 1) := by decide +kernel
theorem dX8_readFrom_11 : decode cX8_readFrom 11 = .ok (.sipush 365, 3) := by decide +kernel
theorem dX8_readFrom_14 : decode cX8_readFrom 14 = .ok (.putfield 23, 3) := by decide +kernel
theorem dX8_readFrom_17 : decode cX8_readFrom 17 = .ok (.aload_n 0, 1) := by decide +kernel
theorem dX8_readFrom_18 : decode cX8_readFrom 18 = .ok (.iconst 1, 1) := by decide +kernel
theorem dX8_readFrom_19 : decode cX8_readFrom 19 = .ok (.putfield 27, 3) := by decide +kernel
theorem dX8_readFrom_22 : decode cX8_readFrom 22 = .ok (.aload_n 0, 1) := by decide +kernel
theorem dX8_readFrom_23 : decode cX8_readFrom 23 = .ok (.iconst 0, 1) := by decide +kernel
theorem dX8_readFrom_24 : decode cX8_readFrom 24 = .ok (.putfield 45, 3) := by decide +kernel
theorem dX8_readFrom_27 : decode cX8_readFrom 27 = .ok (.aload_n 1, 1) := by decide +kernel
theorem dX8_readFrom_28 : decode cX8_readFrom 28 = .ok (.sipush 900, 3) := by decide +kernel
theorem dX8_readFrom_31 : decode cX8_readFrom 31 = .ok (.invokevirtual 49, 3) := by decide +kernel
theorem dX8_readFrom_34 : decode cX8_readFrom 34 = .ok (.iconst 0, 1) := by decide +kernel
theorem dX8_readFrom_35 : decode cX8_readFrom 35 = .ok (.istore_n 2, 1) := by decide +kernel
theorem dX8_readFrom_36 : decode cX8_readFrom 36 = .ok (.iload_n 2, 1) := by decide +kernel
theorem dX8_readFrom_37 : decode cX8_readFrom 37 = .ok (.sipush 900, 3) := by decide +kernel
theorem dX8_readFrom_40 : decode cX8_readFrom 40 = .ok (.if_icmp .ge 27, 3) := by decide +kernel
theorem dX8_readFrom_43 : decode cX8_readFrom 43 = .ok (.aload_n 1, 1) := by decide +kernel
theorem dX8_readFrom_44 : decode cX8_readFrom 44 = .ok (.invokevirtual 55, 3) := by decide +kernel
theorem dX8_readFrom_47 : decode cX8_readFrom 47 = .ok (.ifCond .eq 20, 3) := by decide +kernel
theorem dX8_readFrom_50 : decode cX8_readFrom 50 = .ok (.aload_n 0, 1) := by decide +kernel
theorem dX8_readFrom_51 : decode cX8_readFrom 51 = .ok (.aload_n 1, 1) := by decide +kernel
theorem dX8_readFrom_52 : decode cX8_readFrom 52 = .ok (.invokevirtual 59, 3) := by decide +kernel
theorem dX8_readFrom_55 : decode cX8_readFrom 55 = .ok (.aload_n 1, 1) := by decide +kernel
theorem dX8_readFrom_56 : decode cX8_readFrom 56 = .ok (.bipush 59, 2) := by decide +kernel
theorem dX8_readFrom_58 : decode cX8_readFrom 58 = .ok (.invokevirtual 63, 3) := by decide +kernel
theorem dX8_readFrom_61 : decode cX8_readFrom 61 = .ok (.iinc 2 1, 3) := by decide +kernel
theorem dX8_readFrom_64 : decode cX8_readFrom 64 = .ok (.goto (-28), 3) := by decide +kernel
theorem dX8_readFrom_67 : decode cX8_readFrom 67 = .ok (.iload_n 2, 1) := by decide +kernel
theorem dX8_readFrom_68 : decode cX8_readFrom 68 = .ok (.ireturn, 1) := by decide +kernel
theorem dX8_readLine_0 : decode cX8_readLine 0 = .ok (.aload_n 1, 1) := by decide +kernel
theorem dX8_readLine_1 : decode cX8_readLine 1 = .ok (.ldc2_w 66, 3) := by decide +kernel
theorem dX8_readLine_4 : decode cX8_readLine 4 = .ok (.invokevirtual 68, 3) := by decide +kernel
theorem dX8_readLine_7 : decode cX8_readLine 7 = .ok (.ifCond .eq 11, 3) := by decide +kernel
theorem dX8_readLine_10 : decode cX8_readLine 10 = .ok (.aload_n 0, 1) := by decide +kernel
theorem dX8_readLine_11 : decode cX8_readLine 11 = .ok (.aload_n 1, 1) := by decide +kernel
theorem dX8_readLine_12 : decode cX8_readLine 12 = .ok (.invokevirtual 72, 3) := by decide +kernel
theorem dX8_readLine_15 : decode cX8_readLine 15 = .ok (.goto 62, 3) := by decide +kernel
theorem dX8_readLine_18 : decode cX8_readLine 18 = .ok (.aload_n 1, 1) := by decide +kernel
theorem dX8_readLine_19 : decode cX8_readLine 19 = .ok (.ldc2_w 75, 3) := by decide +kernel
theorem dX8_readLine_22 : decode cX8_readLine 22 = .ok (.invokevirtual 68, 3) := by decide +kernel
theorem dX8_readLine_25 : decode cX8_readLine 25 = .ok (.ifCond .eq 11, 3) := by decide +kernel
theorem dX8_readLine_28 : decode cX8_readLine 28 = .ok (.aload_n 0, 1) := by decide +kernel
theorem dX8_readLine_29 : decode cX8_readLine 29 = .ok (.aload_n 1, 1) := by decide +kernel
theorem dX8_readLine_30 : decode cX8_readLine 30 = .ok (.invokevirtual 77, 3) := by decide +kernel
theorem dX8_readLine_33 : decode cX8_readLine 33 = .ok (.goto 44, 3) := by decide +kernel
theorem dX8_readLine_36 : decode cX8_readLine 36 = .ok (.aload_n 1, 1) := by decide +kernel
theorem dX8_readLine_37 : decode cX8_readLine 37 = .ok (.ldc2_w 80, 3) := by decide +kernel
theorem dX8_readLine_40 : decode cX8_readLine 40 = .ok (.invokevirtual 68, 3) := by decide +kernel
theorem dX8_readLine_43 : decode cX8_readLine 43 = .ok (.ifCond .eq 11, 3) := by decide +kernel
theorem dX8_readLine_46 : decode cX8_readLine 46 = .ok (.aload_n 0, 1) := by decide +kernel
theorem dX8_readLine_47 : decode cX8_readLine 47 = .ok (.aload_n 1, 1) := by decide +kernel
theorem dX8_readLine_48 : decode cX8_readLine 48 = .ok (.invokevirtual 82, 3) := by decide +kernel
theorem dX8_readLine_51 : decode cX8_readLine 51 = .ok (.goto 26, 3) := by decide +kernel
theorem dX8_readLine_54 : decode cX8_readLine 54 = .ok (.aload_n 1, 1) := by decide +kernel
theorem dX8_readLine_55 : decode cX8_readLine 55 = .ok (.ldc2_w 85, 3) := by decide +kernel
theorem dX8_readLine_58 : decode cX8_readLine 58 = .ok (.invokevirtual 68, 3) := by decide +kernel
theorem dX8_readLine_61 : decode cX8_readLine 61 = .ok (.ifCond .eq 11, 3) := by decide +kernel
theorem dX8_readLine_64 : decode cX8_readLine 64 = .ok (.aload_n 0, 1) := by decide +kernel
theorem dX8_readLine_65 : decode cX8_readLine 65 = .ok (.aload_n 1, 1) := by decide +kernel
theorem dX8_readLine_66 : decode cX8_readLine 66 = .ok (.invokevirtual 87, 3) := by decide +kernel
theorem dX8_readLine_69 : decode cX8_readLine 69 = .ok (.goto 8, 3) := by decide +kernel
theorem dX8_readLine_72 : decode cX8_readLine 72 = .ok (.aload_n 1, 1) := by decide +kernel
theorem dX8_readLine_73 : decode cX8_readLine 73 = .ok (.iconst 1, 1) := by decide +kernel
theorem dX8_readLine_74 : decode cX8_readLine 74 = .ok (.invokevirtual 90, 3) := by decide +kernel
theorem dX8_readLine_77 : decode cX8_readLine 77 = .ok (.return_, 1) := by decide +kernel
theorem dX8_readParish_0 : decode cX8_readParish 0 = .ok (.aload_n 0, 1) := by decide +kernel
theorem dX8_readParish_1 : decode cX8_readParish 1 = .ok (.getfield 32, 3) := by decide +kernel
theorem dX8_readParish_4 : decode cX8_readParish 4 = .ok (.iconst 5, 1) := by decide +kernel
theorem dX8_readParish_5 : decode cX8_readParish 5 = .ok (.if_icmp .lt 9, 3) := by decide +kernel
theorem dX8_readParish_8 : decode cX8_readParish 8 = .ok (.aload_n 1, 1) := by decide +kernel
theorem dX8_readParish_9 : decode cX8_readParish 9 = .ok (.iconst 4, 1) := by decide +kernel
theorem dX8_readParish_10 : decode cX8_readParish 10 = .ok (.invokevirtual 90, 3) := by decide +kernel
theorem dX8_readParish_13 : decode cX8_readParish 13 = .ok (.return_, 1) := by decide +kernel
theorem dX8_readParish_14 : decode cX8_readParish 14 = .ok (.aload_n 1, 1) := by decide +kernel
theorem dX8_readParish_15 : decode cX8_readParish 15 = .ok (.invokevirtual 93, 3) := by decide +kernel
theorem dX8_readParish_18 : decode cX8_readParish 18 = .ok (.aload_n 0, 1) := by decide +kernel
theorem dX8_readParish_19 : decode cX8_readParish 19 = .ok (.aload_n 1, 1) := by decide +kernel
theorem dX8_readParish_20 : decode cX8_readParish 20 = .ok (.invokevirtual 96, 3) := by decide +kernel
theorem dX8_readParish_23 : decode cX8_readParish 23 = .ok (.lstore_n 2, 1) := by decide +kernel
theorem dX8_readParish_24 : decode cX8_readParish 24 = .ok (.aload_n 1, 1) := by decide +kernel
theorem dX8_readParish_25 : decode cX8_readParish 25 = .ok (.iconst 2, 1) := by decide +kernel
theorem dX8_readParish_26 : decode cX8_readParish 26 = .ok (.bipush 13, 2) := by decide +kernel
theorem dX8_readParish_28 : decode cX8_readParish 28 = .ok (.invokevirtual 100, 3) := by decide +kernel
theorem dX8_readParish_31 : decode cX8_readParish 31 = .ok (.istore 4, 2) := by decide +kernel
theorem dX8_readParish_33 : decode cX8_readParish 33 = .ok (.aload_n 1, 1) := by decide +kernel
theorem dX8_readParish_34 : decode cX8_readParish 34 = .ok (.iconst 2, 1) := by decide +kernel
theorem dX8_readParish_35 : decode cX8_readParish 35 = .ok (.bipush 30, 2) := by decide +kernel
theorem dX8_readParish_37 : decode cX8_readParish 37 = .ok (.invokevirtual 100, 3) := by decide +kernel
theorem dX8_readParish_40 : decode cX8_readParish 40 = .ok (.istore 5, 2) := by decide +kernel
theorem dX8_readParish_42 : decode cX8_readParish 42 = .ok (.aload_n 1, 1) := by decide +kernel
theorem dX8_readParish_43 : decode cX8_readParish 43 = .ok (.iconst 2, 1) := by decide +kernel
theorem dX8_readParish_44 : decode cX8_readParish 44 = .ok (.bipush 9, 2) := by decide +kernel
theorem dX8_readParish_46 : decode cX8_readParish 46 = .ok (.invokevirtual 100, 3) := by decide +kernel
theorem dX8_readParish_49 : decode cX8_readParish 49 = .ok (.istore 6, 2) := by decide +kernel
theorem dX8_readParish_51 : decode cX8_readParish 51 = .ok (.aload_n 0, 1) := by decide +kernel
theorem dX8_readParish_52 : decode cX8_readParish 52 = .ok (.getfield 11, 3) := by decide +kernel
theorem dX8_readParish_55 : decode cX8_readParish 55 = .ok (.aload_n 0, 1) := by decide +kernel
theorem dX8_readParish_56 : decode cX8_readParish 56 = .ok (.getfield 32, 3) := by decide +kernel
theorem dX8_readParish_59 : decode cX8_readParish 59 = .ok (.aaload, 1) := by decide +kernel
theorem dX8_readParish_60 : decode cX8_readParish 60 = .ok (.lload_n 2, 1) := by decide +kernel
theorem dX8_readParish_61 : decode cX8_readParish 61 = .ok (.aload_n 1, 1) := by decide +kernel
theorem dX8_readParish_62 : decode cX8_readParish 62 = .ok (.iconst 0, 1) := by decide +kernel
theorem dX8_readParish_63 : decode cX8_readParish 63 = .ok (.sipush 999, 3) := by decide +kernel
theorem dX8_readParish_66 : decode cX8_readParish 66 = .ok (.invokevirtual 100, 3) := by decide +kernel
theorem dX8_readParish_69 : decode cX8_readParish 69 = .ok (.invokevirtual 104, 3) := by decide +kernel
theorem dX8_readParish_72 : decode cX8_readParish 72 = .ok (.aload_n 0, 1) := by decide +kernel
theorem dX8_readParish_73 : decode cX8_readParish 73 = .ok (.getfield 11, 3) := by decide +kernel
theorem dX8_readParish_76 : decode cX8_readParish 76 = .ok (.aload_n 0, 1) := by decide +kernel
theorem dX8_readParish_77 : decode cX8_readParish 77 = .ok (.getfield 32, 3) := by decide +kernel
theorem dX8_readParish_80 : decode cX8_readParish 80 = .ok (.aaload, 1) := by decide +kernel
theorem dX8_readParish_81 : decode cX8_readParish 81 = .ok (.iload 4, 2) := by decide +kernel
theorem dX8_readParish_83 : decode cX8_readParish 83 = .ok (.iload 5, 2) := by decide +kernel
theorem dX8_readParish_85 : decode cX8_readParish 85 = .ok (.iload 6, 2) := by decide +kernel
theorem dX8_readParish_87 : decode cX8_readParish 87 = .ok (.invokevirtual 108, 3) := by decide +kernel
theorem dX8_readParish_90 : decode cX8_readParish 90 = .ok (.aload_n 0, 1) := by decide +kernel
theorem dX8_readParish_91 : decode cX8_readParish 91 = .ok (.dup, 1) := by decide +kernel
theorem dX8_readParish_92 : decode cX8_readParish 92 = .ok (.getfield 32, 3) := by decide +kernel
theorem dX8_readParish_95 : decode cX8_readParish 95 = .ok (.iconst 1, 1) := by decide +kernel
theorem dX8_readParish_96 : decode cX8_readParish 96 = .ok (.iadd, 1) := by decide +kernel
theorem dX8_readParish_97 : decode cX8_readParish 97 = .ok (.putfield 32, 3) := by decide +kernel
theorem dX8_readParish_100 : decode cX8_readParish 100 = .ok (.return_, 1) := by decide +kernel
theorem dX8_readLeap_0 : decode cX8_readLeap 0 = .ok (.aload_n 1, 1) := by decide +kernel
theorem dX8_readLeap_1 : decode cX8_readLeap 1 = .ok (.invokevirtual 93, 3) := by decide +kernel
theorem dX8_readLeap_4 : decode cX8_readLeap 4 = .ok (.aload_n 0, 1) := by decide +kernel
theorem dX8_readLeap_5 : decode cX8_readLeap 5 = .ok (.aload_n 1, 1) := by decide +kernel
theorem dX8_readLeap_6 : decode cX8_readLeap 6 = .ok (.invokevirtual 112, 3) := by decide +kernel
theorem dX8_readLeap_9 : decode cX8_readLeap 9 = .ok (.istore_n 2, 1) := by decide +kernel
theorem dX8_readLeap_10 : decode cX8_readLeap 10 = .ok (.aload_n 0, 1) := by decide +kernel
theorem dX8_readLeap_11 : decode cX8_readLeap 11 = .ok (.iload_n 2, 1) := by decide +kernel
theorem dX8_readLeap_12 : decode cX8_readLeap 12 = .ok (.invokevirtual 116, 3) := by decide +kernel
theorem dX8_readLeap_15 : decode cX8_readLeap 15 = .ok (.ifCond .ne 4, 3) := by decide +kernel
theorem dX8_readLeap_18 : decode cX8_readLeap 18 = .ok (.return_, 1) := by decide +kernel
theorem dX8_readLeap_19 : decode cX8_readLeap 19 = .ok (.aload_n 0, 1) := by decide +kernel
theorem dX8_readLeap_20 : decode cX8_readLeap 20 = .ok (.getfield 11, 3) := by decide +kernel
theorem dX8_readLeap_23 : decode cX8_readLeap 23 = .ok (.iload_n 2, 1) := by decide +kernel
theorem dX8_readLeap_24 : decode cX8_readLeap 24 = .ok (.aaload, 1) := by decide +kernel
theorem dX8_readLeap_25 : decode cX8_readLeap 25 = .ok (.getfield 120, 3) := by decide +kernel
theorem dX8_readLeap_28 : decode cX8_readLeap 28 = .ok (.ifCond .le 8, 3) := by decide +kernel
theorem dX8_readLeap_31 : decode cX8_readLeap 31 = .ok (.aload_n 1, 1) := by decide +kernel
theorem dX8_readLeap_32 : decode cX8_readLeap 32 = .ok (.iconst 3, 1) := by decide +kernel
theorem dX8_readLeap_33 : decode cX8_readLeap 33 = .ok (.invokevirtual 90, 3) := by decide +kernel
theorem dX8_readLeap_36 : decode cX8_readLeap 36 = .ok (.aload_n 1, 1) := by decide +kernel
theorem dX8_readLeap_37 : decode cX8_readLeap 37 = .ok (.invokevirtual 93, 3) := by decide +kernel
theorem dX8_readLeap_40 : decode cX8_readLeap 40 = .ok (.aload_n 1, 1) := by decide +kernel
theorem dX8_readLeap_41 : decode cX8_readLeap 41 = .ok (.iconst 1, 1) := by decide +kernel
theorem dX8_readLeap_42 : decode cX8_readLeap 42 = .ok (.bipush 9, 2) := by decide +kernel
theorem dX8_readLeap_44 : decode cX8_readLeap 44 = .ok (.invokevirtual 100, 3) := by decide +kernel
theorem dX8_readLeap_47 : decode cX8_readLeap 47 = .ok (.istore_n 3, 1) := by decide +kernel
theorem dX8_readLeap_48 : decode cX8_readLeap 48 = .ok (.aload_n 0, 1) := by decide +kernel
theorem dX8_readLeap_49 : decode cX8_readLeap 49 = .ok (.getfield 11, 3) := by decide +kernel
theorem dX8_readLeap_52 : decode cX8_readLeap 52 = .ok (.iload_n 2, 1) := by decide +kernel
theorem dX8_readLeap_53 : decode cX8_readLeap 53 = .ok (.aaload, 1) := by decide +kernel
theorem dX8_readLeap_54 : decode cX8_readLeap 54 = .ok (.iload_n 3, 1) := by decide +kernel
theorem dX8_readLeap_55 : decode cX8_readLeap 55 = .ok (.aload_n 1, 1) := by decide +kernel
theorem dX8_readLeap_56 : decode cX8_readLeap 56 = .ok (.iconst 1, 1) := by decide +kernel
theorem dX8_readLeap_57 : decode cX8_readLeap 57 = .ok (.bipush 9, 2) := by decide +kernel
theorem dX8_readLeap_59 : decode cX8_readLeap 59 = .ok (.invokevirtual 100, 3) := by decide +kernel
theorem dX8_readLeap_62 : decode cX8_readLeap 62 = .ok (.invokevirtual 123, 3) := by decide +kernel
theorem dX8_readLeap_65 : decode cX8_readLeap 65 = .ok (.return_, 1) := by decide +kernel
theorem dX8_readFeast_0 : decode cX8_readFeast 0 = .ok (.aload_n 0, 1) := by decide +kernel
theorem dX8_readFeast_1 : decode cX8_readFeast 1 = .ok (.getfield 35, 3) := by decide +kernel
theorem dX8_readFeast_4 : decode cX8_readFeast 4 = .ok (.bipush 6, 2) := by decide +kernel
theorem dX8_readFeast_6 : decode cX8_readFeast 6 = .ok (.if_icmp .lt 9, 3) := by decide +kernel
theorem dX8_readFeast_9 : decode cX8_readFeast 9 = .ok (.aload_n 1, 1) := by decide +kernel
theorem dX8_readFeast_10 : decode cX8_readFeast 10 = .ok (.iconst 4, 1) := by decide +kernel
theorem dX8_readFeast_11 : decode cX8_readFeast 11 = .ok (.invokevirtual 90, 3) := by decide +kernel
theorem dX8_readFeast_14 : decode cX8_readFeast 14 = .ok (.return_, 1) := by decide +kernel
theorem dX8_readFeast_15 : decode cX8_readFeast 15 = .ok (.aload_n 1, 1) := by decide +kernel
theorem dX8_readFeast_16 : decode cX8_readFeast 16 = .ok (.invokevirtual 93, 3) := by decide +kernel
theorem dX8_readFeast_19 : decode cX8_readFeast 19 = .ok (.aload_n 0, 1) := by decide +kernel
theorem dX8_readFeast_20 : decode cX8_readFeast 20 = .ok (.getfield 19, 3) := by decide +kernel
theorem dX8_readFeast_23 : decode cX8_readFeast 23 = .ok (.aload_n 0, 1) := by decide +kernel
theorem dX8_readFeast_24 : decode cX8_readFeast 24 = .ok (.getfield 35, 3) := by decide +kernel
theorem dX8_readFeast_27 : decode cX8_readFeast 27 = .ok (.aaload, 1) := by decide +kernel
theorem dX8_readFeast_28 : decode cX8_readFeast 28 = .ok (.astore_n 2, 1) := by decide +kernel
theorem dX8_readFeast_29 : decode cX8_readFeast 29 = .ok (.aload_n 2, 1) := by decide +kernel
theorem dX8_readFeast_30 : decode cX8_readFeast 30 = .ok (.aload_n 0, 1) := by decide +kernel
theorem dX8_readFeast_31 : decode cX8_readFeast 31 = .ok (.aload_n 1, 1) := by decide +kernel
theorem dX8_readFeast_32 : decode cX8_readFeast 32 = .ok (.invokevirtual 96, 3) := by decide +kernel
theorem dX8_readFeast_35 : decode cX8_readFeast 35 = .ok (.putfield 127, 3) := by decide +kernel
theorem dX8_readFeast_38 : decode cX8_readFeast 38 = .ok (.aload_n 2, 1) := by decide +kernel
theorem dX8_readFeast_39 : decode cX8_readFeast 39 = .ok (.aload_n 0, 1) := by decide +kernel
theorem dX8_readFeast_40 : decode cX8_readFeast 40 = .ok (.aload_n 1, 1) := by decide +kernel
theorem dX8_readFeast_41 : decode cX8_readFeast 41 = .ok (.invokevirtual 112, 3) := by decide +kernel
theorem dX8_readFeast_44 : decode cX8_readFeast 44 = .ok (.putfield 131, 3) := by decide +kernel
theorem dX8_readFeast_47 : decode cX8_readFeast 47 = .ok (.aload_n 0, 1) := by decide +kernel
theorem dX8_readFeast_48 : decode cX8_readFeast 48 = .ok (.aload_n 2, 1) := by decide +kernel
theorem dX8_readFeast_49 : decode cX8_readFeast 49 = .ok (.getfield 131, 3) := by decide +kernel
theorem dX8_readFeast_52 : decode cX8_readFeast 52 = .ok (.invokevirtual 116, 3) := by decide +kernel
theorem dX8_readFeast_55 : decode cX8_readFeast 55 = .ok (.ifCond .ne 4, 3) := by decide +kernel
theorem dX8_readFeast_58 : decode cX8_readFeast 58 = .ok (.return_, 1) := by decide +kernel
theorem dX8_readFeast_59 : decode cX8_readFeast 59 = .ok (.aload_n 1, 1) := by decide +kernel
theorem dX8_readFeast_60 : decode cX8_readFeast 60 = .ok (.invokevirtual 93, 3) := by decide +kernel
theorem dX8_readFeast_63 : decode cX8_readFeast 63 = .ok (.aload_n 0, 1) := by decide +kernel
theorem dX8_readFeast_64 : decode cX8_readFeast 64 = .ok (.getfield 11, 3) := by decide +kernel
theorem dX8_readFeast_67 : decode cX8_readFeast 67 = .ok (.aload_n 2, 1) := by decide +kernel
theorem dX8_readFeast_68 : decode cX8_readFeast 68 = .ok (.getfield 131, 3) := by decide +kernel
theorem dX8_readFeast_71 : decode cX8_readFeast 71 = .ok (.aaload, 1) := by decide +kernel
theorem dX8_readFeast_72 : decode cX8_readFeast 72 = .ok (.astore_n 3, 1) := by decide +kernel
theorem dX8_readFeast_73 : decode cX8_readFeast 73 = .ok (.aload_n 2, 1) := by decide +kernel
theorem dX8_readFeast_74 : decode cX8_readFeast 74 = .ok (.aload_n 1, 1) := by decide +kernel
theorem dX8_readFeast_75 : decode cX8_readFeast 75 = .ok (.iconst 0, 1) := by decide +kernel
theorem dX8_readFeast_76 : decode cX8_readFeast 76 = .ok (.aload_n 3, 1) := by decide +kernel
theorem dX8_readFeast_77 : decode cX8_readFeast 77 = .ok (.getfield 133, 3) := by decide +kernel
theorem dX8_readFeast_80 : decode cX8_readFeast 80 = .ok (.iconst 1, 1) := by decide +kernel
theorem dX8_readFeast_81 : decode cX8_readFeast 81 = .ok (.isub, 1) := by decide +kernel
theorem dX8_readFeast_82 : decode cX8_readFeast 82 = .ok (.invokevirtual 100, 3) := by decide +kernel
theorem dX8_readFeast_85 : decode cX8_readFeast 85 = .ok (.putfield 136, 3) := by decide +kernel
theorem dX8_readFeast_88 : decode cX8_readFeast 88 = .ok (.aload_n 2, 1) := by decide +kernel
theorem dX8_readFeast_89 : decode cX8_readFeast 89 = .ok (.aload_n 1, 1) := by decide +kernel
theorem dX8_readFeast_90 : decode cX8_readFeast 90 = .ok (.iconst 0, 1) := by decide +kernel
theorem dX8_readFeast_91 : decode cX8_readFeast 91 = .ok (.aload_n 3, 1) := by decide +kernel
theorem dX8_readFeast_92 : decode cX8_readFeast 92 = .ok (.getfield 139, 3) := by decide +kernel
theorem dX8_readFeast_95 : decode cX8_readFeast 95 = .ok (.iconst 1, 1) := by decide +kernel
theorem dX8_readFeast_96 : decode cX8_readFeast 96 = .ok (.isub, 1) := by decide +kernel
theorem dX8_readFeast_97 : decode cX8_readFeast 97 = .ok (.invokevirtual 100, 3) := by decide +kernel
theorem dX8_readFeast_100 : decode cX8_readFeast 100 = .ok (.putfield 142, 3) := by decide +kernel
theorem dX8_readFeast_103 : decode cX8_readFeast 103 = .ok (.aload_n 0, 1) := by decide +kernel
theorem dX8_readFeast_104 : decode cX8_readFeast 104 = .ok (.dup, 1) := by decide +kernel
theorem dX8_readFeast_105 : decode cX8_readFeast 105 = .ok (.getfield 35, 3) := by decide +kernel
theorem dX8_readFeast_108 : decode cX8_readFeast 108 = .ok (.iconst 1, 1) := by decide +kernel
theorem dX8_readFeast_109 : decode cX8_readFeast 109 = .ok (.iadd, 1) := by decide +kernel
theorem dX8_readFeast_110 : decode cX8_readFeast 110 = .ok (.putfield 35, 3) := by decide +kernel
theorem dX8_readFeast_113 : decode cX8_readFeast 113 = .ok (.return_, 1) := by decide +kernel
theorem dX8_readSun_0 : decode cX8_readSun 0 = .ok (.aload_n 0, 1) := by decide +kernel
theorem dX8_readSun_1 : decode cX8_readSun 1 = .ok (.getfield 45, 3) := by decide +kernel
theorem dX8_readSun_4 : decode cX8_readSun 4 = .ok (.ifCond .eq 8, 3) := by decide +kernel
theorem dX8_readSun_7 : decode cX8_readSun 7 = .ok (.aload_n 1, 1) := by decide +kernel
theorem dX8_readSun_8 : decode cX8_readSun 8 = .ok (.iconst 3, 1) := by decide +kernel
theorem dX8_readSun_9 : decode cX8_readSun 9 = .ok (.invokevirtual 90, 3) := by decide +kernel
theorem dX8_readSun_12 : decode cX8_readSun 12 = .ok (.aload_n 1, 1) := by decide +kernel
theorem dX8_readSun_13 : decode cX8_readSun 13 = .ok (.invokevirtual 93, 3) := by decide +kernel
theorem dX8_readSun_16 : decode cX8_readSun 16 = .ok (.aload_n 0, 1) := by decide +kernel
theorem dX8_readSun_17 : decode cX8_readSun 17 = .ok (.iconst 1, 1) := by decide +kernel
theorem dX8_readSun_18 : decode cX8_readSun 18 = .ok (.putfield 45, 3) := by decide +kernel
theorem dX8_readSun_21 : decode cX8_readSun 21 = .ok (.aload_n 0, 1) := by decide +kernel
theorem dX8_readSun_22 : decode cX8_readSun 22 = .ok (.aload_n 1, 1) := by decide +kernel
theorem dX8_readSun_23 : decode cX8_readSun 23 = .ok (.iconst 1, 1) := by decide +kernel
theorem dX8_readSun_24 : decode cX8_readSun 24 = .ok (.sipush 999, 3) := by decide +kernel
theorem dX8_readSun_27 : decode cX8_readSun 27 = .ok (.invokevirtual 100, 3) := by decide +kernel
theorem dX8_readSun_30 : decode cX8_readSun 30 = .ok (.putfield 23, 3) := by decide +kernel
theorem dX8_readSun_33 : decode cX8_readSun 33 = .ok (.aload_n 0, 1) := by decide +kernel
theorem dX8_readSun_34 : decode cX8_readSun 34 = .ok (.aload_n 1, 1) := by decide +kernel
theorem dX8_readSun_35 : decode cX8_readSun 35 = .ok (.iconst 1, 1) := by decide +kernel
theorem dX8_readSun_36 : decode cX8_readSun 36 = .ok (.bipush 30, 2) := by decide +kernel
theorem dX8_readSun_38 : decode cX8_readSun 38 = .ok (.invokevirtual 100, 3) := by decide +kernel
theorem dX8_readSun_41 : decode cX8_readSun 41 = .ok (.putfield 27, 3) := by decide +kernel
theorem dX8_readSun_44 : decode cX8_readSun 44 = .ok (.return_, 1) := by decide +kernel
theorem dX8_takeNewName_0 : decode cX8_takeNewName 0 = .ok (.aload_n 1, 1) := by decide +kernel
theorem dX8_takeNewName_1 : decode cX8_takeNewName 1 = .ok (.invokevirtual 145, 3) := by decide +kernel
theorem dX8_takeNewName_4 : decode cX8_takeNewName 4 = .ok (.ifCond .ne 11, 3) := by decide +kernel
theorem dX8_takeNewName_7 : decode cX8_takeNewName 7 = .ok (.aload_n 1, 1) := by decide +kernel
theorem dX8_takeNewName_8 : decode cX8_takeNewName 8 = .ok (.iconst 1, 1) := by decide +kernel
theorem dX8_takeNewName_9 : decode cX8_takeNewName 9 = .ok (.invokevirtual 90, 3) := by decide +kernel
theorem dX8_takeNewName_12 : decode cX8_takeNewName 12 = .ok (.goto 32, 3) := by decide +kernel
theorem dX8_takeNewName_15 : decode cX8_takeNewName 15 = .ok (.aload_n 0, 1) := by decide +kernel
theorem dX8_takeNewName_16 : decode cX8_takeNewName 16 = .ok (.aload_n 1, 1) := by decide +kernel
theorem dX8_takeNewName_17 : decode cX8_takeNewName 17 = .ok (.getfield 148, 3) := by decide +kernel
theorem dX8_takeNewName_20 : decode cX8_takeNewName 20 = .ok (.invokevirtual 151, 3) := by decide +kernel
theorem dX8_takeNewName_23 : decode cX8_takeNewName 23 = .ok (.iconst (-1), 1) := by decide +kernel
theorem dX8_takeNewName_24 : decode cX8_takeNewName 24 = .ok (.if_icmp .ne 15, 3) := by decide +kernel
theorem dX8_takeNewName_27 : decode cX8_takeNewName 27 = .ok (.aload_n 0, 1) := by decide +kernel
theorem dX8_takeNewName_28 : decode cX8_takeNewName 28 = .ok (.aload_n 1, 1) := by decide +kernel
theorem dX8_takeNewName_29 : decode cX8_takeNewName 29 = .ok (.getfield 148, 3) := by decide +kernel
theorem dX8_takeNewName_32 : decode cX8_takeNewName 32 = .ok (.invokevirtual 155, 3) := by decide +kernel
theorem dX8_takeNewName_35 : decode cX8_takeNewName 35 = .ok (.iconst (-1), 1) := by decide +kernel
theorem dX8_takeNewName_36 : decode cX8_takeNewName 36 = .ok (.if_icmp .eq 8, 3) := by decide +kernel
theorem dX8_takeNewName_39 : decode cX8_takeNewName 39 = .ok (.aload_n 1, 1) := by decide +kernel
theorem dX8_takeNewName_40 : decode cX8_takeNewName 40 = .ok (.iconst 3, 1) := by decide +kernel
theorem dX8_takeNewName_41 : decode cX8_takeNewName 41 = .ok (.invokevirtual 90, 3) := by decide +kernel
theorem dX8_takeNewName_44 : decode cX8_takeNewName 44 = .ok (.aload_n 1, 1) := by decide +kernel
theorem dX8_takeNewName_45 : decode cX8_takeNewName 45 = .ok (.getfield 148, 3) := by decide +kernel
theorem dX8_takeNewName_48 : decode cX8_takeNewName 48 = .ok (.lstore_n 2, 1) := by decide +kernel
theorem dX8_takeNewName_49 : decode cX8_takeNewName 49 = .ok (.aload_n 1, 1) := by decide +kernel
theorem dX8_takeNewName_50 : decode cX8_takeNewName 50 = .ok (.invokevirtual 93, 3) := by decide +kernel
theorem dX8_takeNewName_53 : decode cX8_takeNewName 53 = .ok (.lload_n 2, 1) := by decide +kernel
theorem dX8_takeNewName_54 : decode cX8_takeNewName 54 = .ok (.lreturn, 1) := by decide +kernel
theorem dX8_parishAt_0 : decode cX8_parishAt 0 = .ok (.aload_n 1, 1) := by decide +kernel
theorem dX8_parishAt_1 : decode cX8_parishAt 1 = .ok (.invokevirtual 145, 3) := by decide +kernel
theorem dX8_parishAt_4 : decode cX8_parishAt 4 = .ok (.ifCond .ne 10, 3) := by decide +kernel
theorem dX8_parishAt_7 : decode cX8_parishAt 7 = .ok (.aload_n 1, 1) := by decide +kernel
theorem dX8_parishAt_8 : decode cX8_parishAt 8 = .ok (.iconst 1, 1) := by decide +kernel
theorem dX8_parishAt_9 : decode cX8_parishAt 9 = .ok (.invokevirtual 90, 3) := by decide +kernel
theorem dX8_parishAt_12 : decode cX8_parishAt 12 = .ok (.iconst (-1), 1) := by decide +kernel
theorem dX8_parishAt_13 : decode cX8_parishAt 13 = .ok (.ireturn, 1) := by decide +kernel
theorem dX8_parishAt_14 : decode cX8_parishAt 14 = .ok (.aload_n 0, 1) := by decide +kernel
theorem dX8_parishAt_15 : decode cX8_parishAt 15 = .ok (.aload_n 1, 1) := by decide +kernel
theorem dX8_parishAt_16 : decode cX8_parishAt 16 = .ok (.getfield 148, 3) := by decide +kernel
theorem dX8_parishAt_19 : decode cX8_parishAt 19 = .ok (.invokevirtual 151, 3) := by decide +kernel
theorem dX8_parishAt_22 : decode cX8_parishAt 22 = .ok (.istore_n 2, 1) := by decide +kernel
theorem dX8_parishAt_23 : decode cX8_parishAt 23 = .ok (.iload_n 2, 1) := by decide +kernel
theorem dX8_parishAt_24 : decode cX8_parishAt 24 = .ok (.iconst (-1), 1) := by decide +kernel
theorem dX8_parishAt_25 : decode cX8_parishAt 25 = .ok (.if_icmp .ne 8, 3) := by decide +kernel
theorem dX8_parishAt_28 : decode cX8_parishAt 28 = .ok (.aload_n 1, 1) := by decide +kernel
theorem dX8_parishAt_29 : decode cX8_parishAt 29 = .ok (.iconst 3, 1) := by decide +kernel
theorem dX8_parishAt_30 : decode cX8_parishAt 30 = .ok (.invokevirtual 90, 3) := by decide +kernel
theorem dX8_parishAt_33 : decode cX8_parishAt 33 = .ok (.iload_n 2, 1) := by decide +kernel
theorem dX8_parishAt_34 : decode cX8_parishAt 34 = .ok (.ireturn, 1) := by decide +kernel
theorem dX8_feastAt_0 : decode cX8_feastAt 0 = .ok (.aload_n 1, 1) := by decide +kernel
theorem dX8_feastAt_1 : decode cX8_feastAt 1 = .ok (.invokevirtual 145, 3) := by decide +kernel
theorem dX8_feastAt_4 : decode cX8_feastAt 4 = .ok (.ifCond .ne 10, 3) := by decide +kernel
theorem dX8_feastAt_7 : decode cX8_feastAt 7 = .ok (.aload_n 1, 1) := by decide +kernel
theorem dX8_feastAt_8 : decode cX8_feastAt 8 = .ok (.iconst 1, 1) := by decide +kernel
theorem dX8_feastAt_9 : decode cX8_feastAt 9 = .ok (.invokevirtual 90, 3) := by decide +kernel
theorem dX8_feastAt_12 : decode cX8_feastAt 12 = .ok (.iconst (-1), 1) := by decide +kernel
theorem dX8_feastAt_13 : decode cX8_feastAt 13 = .ok (.ireturn, 1) := by decide +kernel
theorem dX8_feastAt_14 : decode cX8_feastAt 14 = .ok (.aload_n 0, 1) := by decide +kernel
theorem dX8_feastAt_15 : decode cX8_feastAt 15 = .ok (.aload_n 1, 1) := by decide +kernel
theorem dX8_feastAt_16 : decode cX8_feastAt 16 = .ok (.getfield 148, 3) := by decide +kernel
theorem dX8_feastAt_19 : decode cX8_feastAt 19 = .ok (.invokevirtual 155, 3) := by decide +kernel
theorem dX8_feastAt_22 : decode cX8_feastAt 22 = .ok (.istore_n 2, 1) := by decide +kernel
theorem dX8_feastAt_23 : decode cX8_feastAt 23 = .ok (.iload_n 2, 1) := by decide +kernel
theorem dX8_feastAt_24 : decode cX8_feastAt 24 = .ok (.iconst (-1), 1) := by decide +kernel
theorem dX8_feastAt_25 : decode cX8_feastAt 25 = .ok (.if_icmp .ne 8, 3) := by decide +kernel
theorem dX8_feastAt_28 : decode cX8_feastAt 28 = .ok (.aload_n 1, 1) := by decide +kernel
theorem dX8_feastAt_29 : decode cX8_feastAt 29 = .ok (.iconst 3, 1) := by decide +kernel
theorem dX8_feastAt_30 : decode cX8_feastAt 30 = .ok (.invokevirtual 90, 3) := by decide +kernel
theorem dX8_feastAt_33 : decode cX8_feastAt 33 = .ok (.iload_n 2, 1) := by decide +kernel
theorem dX8_feastAt_34 : decode cX8_feastAt 34 = .ok (.ireturn, 1) := by decide +kernel
theorem dX8_parishNamed_0 : decode cX8_parishNamed 0 = .ok (.iconst 0, 1) := by decide +kernel
theorem dX8_parishNamed_1 : decode cX8_parishNamed 1 = .ok (.istore_n 3, 1) := by decide +kernel
theorem dX8_parishNamed_2 : decode cX8_parishNamed 2 = .ok (.iload_n 3, 1) := by decide +kernel
theorem dX8_parishNamed_3 : decode cX8_parishNamed 3 = .ok (.aload_n 0, 1) := by decide +kernel
theorem dX8_parishNamed_4 : decode cX8_parishNamed 4 = .ok (.getfield 32, 3) := by decide +kernel
theorem dX8_parishNamed_7 : decode cX8_parishNamed 7 = .ok (.if_icmp .ge 25, 3) := by decide +kernel
theorem dX8_parishNamed_10 : decode cX8_parishNamed 10 = .ok (.aload_n 0, 1) := by decide +kernel
theorem dX8_parishNamed_11 : decode cX8_parishNamed 11 = .ok (.getfield 11, 3) := by decide +kernel
theorem dX8_parishNamed_14 : decode cX8_parishNamed 14 = .ok (.iload_n 3, 1) := by decide +kernel
theorem dX8_parishNamed_15 : decode cX8_parishNamed 15 = .ok (.aaload, 1) := by decide +kernel
theorem dX8_parishNamed_16 : decode cX8_parishNamed 16 = .ok (.getfield 158, 3) := by decide +kernel
theorem dX8_parishNamed_19 : decode cX8_parishNamed 19 = .ok (.lload_n 1, 1) := by decide +kernel
theorem dX8_parishNamed_20 : decode cX8_parishNamed 20 = .ok (.lcmp, 1) := by decide +kernel
theorem dX8_parishNamed_21 : decode cX8_parishNamed 21 = .ok (.ifCond .ne 5, 3) := by decide +kernel
theorem dX8_parishNamed_24 : decode cX8_parishNamed 24 = .ok (.iload_n 3, 1) := by decide +kernel
theorem dX8_parishNamed_25 : decode cX8_parishNamed 25 = .ok (.ireturn, 1) := by decide +kernel
theorem dX8_parishNamed_26 : decode cX8_parishNamed 26 = .ok (.iinc 3 1, 3) := by decide +kernel
theorem dX8_parishNamed_29 : decode cX8_parishNamed 29 = .ok (.goto (-27), 3) := by decide +kernel
theorem dX8_parishNamed_32 : decode cX8_parishNamed 32 = .ok (.iconst (-1), 1) := by decide +kernel
theorem dX8_parishNamed_33 : decode cX8_parishNamed 33 = .ok (.ireturn, 1) := by decide +kernel
theorem dX8_feastNamed_0 : decode cX8_feastNamed 0 = .ok (.iconst 0, 1) := by decide +kernel
theorem dX8_feastNamed_1 : decode cX8_feastNamed 1 = .ok (.istore_n 3, 1) := by decide +kernel
theorem dX8_feastNamed_2 : decode cX8_feastNamed 2 = .ok (.iload_n 3, 1) := by decide +kernel
theorem dX8_feastNamed_3 : decode cX8_feastNamed 3 = .ok (.aload_n 0, 1) := by decide +kernel
theorem dX8_feastNamed_4 : decode cX8_feastNamed 4 = .ok (.getfield 35, 3) := by decide +kernel
theorem dX8_feastNamed_7 : decode cX8_feastNamed 7 = .ok (.if_icmp .ge 25, 3) := by decide +kernel
theorem dX8_feastNamed_10 : decode cX8_feastNamed 10 = .ok (.aload_n 0, 1) := by decide +kernel
theorem dX8_feastNamed_11 : decode cX8_feastNamed 11 = .ok (.getfield 19, 3) := by decide +kernel
theorem dX8_feastNamed_14 : decode cX8_feastNamed 14 = .ok (.iload_n 3, 1) := by decide +kernel
theorem dX8_feastNamed_15 : decode cX8_feastNamed 15 = .ok (.aaload, 1) := by decide +kernel
theorem dX8_feastNamed_16 : decode cX8_feastNamed 16 = .ok (.getfield 127, 3) := by decide +kernel
theorem dX8_feastNamed_19 : decode cX8_feastNamed 19 = .ok (.lload_n 1, 1) := by decide +kernel
theorem dX8_feastNamed_20 : decode cX8_feastNamed 20 = .ok (.lcmp, 1) := by decide +kernel
theorem dX8_feastNamed_21 : decode cX8_feastNamed 21 = .ok (.ifCond .ne 5, 3) := by decide +kernel
theorem dX8_feastNamed_24 : decode cX8_feastNamed 24 = .ok (.iload_n 3, 1) := by decide +kernel
theorem dX8_feastNamed_25 : decode cX8_feastNamed 25 = .ok (.ireturn, 1) := by decide +kernel
theorem dX8_feastNamed_26 : decode cX8_feastNamed 26 = .ok (.iinc 3 1, 3) := by decide +kernel
theorem dX8_feastNamed_29 : decode cX8_feastNamed 29 = .ok (.goto (-27), 3) := by decide +kernel
theorem dX8_feastNamed_32 : decode cX8_feastNamed 32 = .ok (.iconst (-1), 1) := by decide +kernel
theorem dX8_feastNamed_33 : decode cX8_feastNamed 33 = .ok (.ireturn, 1) := by decide +kernel
theorem flX8_11 : FL RX8 11 8 0 := ⟨RX8, TX8, 7, tyX8, cd_8, by decide, Or.inl (inr_4 _ (List.mem_of_getElem? (i := 1) rfl))⟩
theorem flX8_19 : FL RX8 19 8 1 := ⟨RX8, TX8, 7, tyX8, cd_8, by decide, Or.inl (inr_4 _ (List.mem_of_getElem? (i := 3) rfl))⟩
theorem flX8_23 : FL RX8 23 8 4 := ⟨RX8, TX8, 7, tyX8, cd_8, by decide, Or.inl (inr_4 _ (List.mem_of_getElem? (i := 4) rfl))⟩
theorem flX8_27 : FL RX8 27 8 5 := ⟨RX8, TX8, 7, tyX8, cd_8, by decide, Or.inl (inr_4 _ (List.mem_of_getElem? (i := 5) rfl))⟩
theorem flX8_32 : FL RX8 32 8 2 := ⟨RX8, TX8, 7, tyX8, cd_8, by decide, Or.inl (inr_10 _ (List.mem_of_getElem? (i := 4) rfl))⟩
theorem flX8_35 : FL RX8 35 8 3 := ⟨RX8, TX8, 7, tyX8, cd_8, by decide, Or.inl (inr_10 _ (List.mem_of_getElem? (i := 5) rfl))⟩
theorem flX8_45 : FL RX8 45 8 6 := ⟨RX8, TX8, 7, tyX8, cd_8, by decide, Or.inl (inr_10 _ (List.mem_of_getElem? (i := 6) rfl))⟩
theorem flX8_120 : FL RX8 120 4 5 := ⟨RX4, TX4, 7, tyX4, cd_4, by decide, Or.inr ⟨"ParishYears", inT_1 _ (List.mem_of_getElem? (i := 115) rfl)⟩⟩
theorem flX8_127 : FL RX8 127 3 0 := ⟨RX3, TX3, 4, tyX3, cd_3, by decide, Or.inl (inr_13 _ (List.mem_of_getElem? (i := 0) rfl))⟩
theorem flX8_131 : FL RX8 131 3 1 := ⟨RX3, TX3, 4, tyX3, cd_3, by decide, Or.inl (inr_14 _ (List.mem_of_getElem? (i := 16) rfl))⟩
theorem flX8_133 : FL RX8 133 4 2 := ⟨RX4, TX4, 7, tyX4, cd_4, by decide, Or.inr ⟨"ParishYears", inT_1 _ (List.mem_of_getElem? (i := 103) rfl)⟩⟩
theorem flX8_139 : FL RX8 139 4 3 := ⟨RX4, TX4, 7, tyX4, cd_4, by decide, Or.inr ⟨"ParishYears", inT_1 _ (List.mem_of_getElem? (i := 107) rfl)⟩⟩
theorem flX8_148 : FL RX8 148 6 6 := ⟨RX6, TX6, 10, tyX6, cd_6, by decide, Or.inl (inr_12 _ (List.mem_of_getElem? (i := 11) rfl))⟩
theorem flX8_158 : FL RX8 158 4 0 := ⟨RX4, TX4, 7, tyX4, cd_4, by decide, Or.inr ⟨"ParishYears", inT_1 _ (List.mem_of_getElem? (i := 97) rfl)⟩⟩
theorem fpX8_23 : FP RX8 23 8 4 .int := ⟨RX8, TX8, 7, tyX8, cd_8, by decide, (inr_4 _ (List.mem_of_getElem? (i := 4) rfl)), rfl, by decide +kernel⟩
theorem fpX8_27 : FP RX8 27 8 5 .int := ⟨RX8, TX8, 7, tyX8, cd_8, by decide, (inr_4 _ (List.mem_of_getElem? (i := 5) rfl)), rfl, by decide +kernel⟩
theorem fpX8_32 : FP RX8 32 8 2 .int := ⟨RX8, TX8, 7, tyX8, cd_8, by decide, (inr_10 _ (List.mem_of_getElem? (i := 4) rfl)), rfl, by decide +kernel⟩
theorem fpX8_35 : FP RX8 35 8 3 .int := ⟨RX8, TX8, 7, tyX8, cd_8, by decide, (inr_10 _ (List.mem_of_getElem? (i := 5) rfl)), rfl, by decide +kernel⟩
theorem fpX8_45 : FP RX8 45 8 6 .boolean := ⟨RX8, TX8, 7, tyX8, cd_8, by decide, (inr_10 _ (List.mem_of_getElem? (i := 6) rfl)), rfl, by decide +kernel⟩
theorem fpX8_127 : FP RX8 127 3 0 .long := ⟨RX3, TX3, 4, tyX3, cd_3, by decide, (inr_13 _ (List.mem_of_getElem? (i := 0) rfl)), rfl, by decide +kernel⟩
theorem fpX8_131 : FP RX8 131 3 1 .int := ⟨RX3, TX3, 4, tyX3, cd_3, by decide, (inr_14 _ (List.mem_of_getElem? (i := 16) rfl)), rfl, by decide +kernel⟩
theorem fpX8_136 : FP RX8 136 3 2 .int := ⟨RX3, TX3, 4, tyX3, cd_3, by decide, (inr_14 _ (List.mem_of_getElem? (i := 17) rfl)), rfl, by decide +kernel⟩
theorem fpX8_142 : FP RX8 142 3 3 .int := ⟨RX3, TX3, 4, tyX3, cd_3, by decide, (inr_14 _ (List.mem_of_getElem? (i := 18) rfl)), rfl, by decide +kernel⟩
theorem mlX8_38 : MLv RX8 38 RX4 4 yX4_copyFrom cX4_copyFrom 2 none 1 := ⟨(inr_15 _ (List.mem_of_getElem? (i := 19) rfl)), (inr_15 _ (List.mem_of_getElem? (i := 16) rfl)), (inr_15 _ (List.mem_of_getElem? (i := 17) rfl)), (inr_15 _ (List.mem_of_getElem? (i := 18) rfl)), (inr_4 _ (List.mem_of_getElem? (i := 7) rfl)), rfl, ⟨by decide, by decide, by decide +kernel⟩, by decide, by decide, rfl⟩
theorem mlX8_42 : MLv RX8 42 RX3 3 yX3_copyFrom cX3_copyFrom 2 none 1 := ⟨(inr_15 _ (List.mem_of_getElem? (i := 23) rfl)), (inr_15 _ (List.mem_of_getElem? (i := 20) rfl)), (inr_15 _ (List.mem_of_getElem? (i := 21) rfl)), (inr_15 _ (List.mem_of_getElem? (i := 22) rfl)), (inr_4 _ (List.mem_of_getElem? (i := 9) rfl)), rfl, ⟨by decide, by decide, by decide +kernel⟩, by decide, by decide, rfl⟩
theorem mlX8_49 : MLv RX8 49 RX6 6 yX6_open cX6_open 2 none 1 := ⟨(inr_10 _ (List.mem_of_getElem? (i := 10) rfl)), (inr_10 _ (List.mem_of_getElem? (i := 7) rfl)), (inr_10 _ (List.mem_of_getElem? (i := 8) rfl)), (inr_10 _ (List.mem_of_getElem? (i := 9) rfl)), (inr_1 _ (List.mem_of_getElem? (i := 15) rfl)), rfl, ⟨by decide, by decide, by decide +kernel⟩, by decide, by decide, rfl⟩
theorem mlX8_55 : MLv RX8 55 RX6 6 yX6_goesOn cX6_goesOn 1 (some .boolean) 0 := ⟨(inr_11 _ (List.mem_of_getElem? (i := 9) rfl)), (inr_11 _ (List.mem_of_getElem? (i := 6) rfl)), (inr_11 _ (List.mem_of_getElem? (i := 7) rfl)), (inr_11 _ (List.mem_of_getElem? (i := 8) rfl)), (inr_1 _ (List.mem_of_getElem? (i := 15) rfl)), rfl, ⟨by decide, by decide, by decide +kernel⟩, by decide, by decide, rfl⟩
theorem mlX8_59 : MLv RX8 59 RX8 8 yX8_readLine cX8_readLine 2 none 1 := ⟨(inr_11 _ (List.mem_of_getElem? (i := 13) rfl)), (inr_11 _ (List.mem_of_getElem? (i := 10) rfl)), (inr_11 _ (List.mem_of_getElem? (i := 11) rfl)), (inr_11 _ (List.mem_of_getElem? (i := 12) rfl)), (inr_1 _ (List.mem_of_getElem? (i := 23) rfl)), rfl, ⟨by decide, by decide, by decide +kernel⟩, by decide, by decide, rfl⟩
theorem mlX8_63 : MLv RX8 63 RX6 6 yX6_takeSign cX6_takeSign 2 none 1 := ⟨(inr_15 _ (List.mem_of_getElem? (i := 2) rfl)), (inr_14 _ (List.mem_of_getElem? (i := 23) rfl)), (inr_15 _ (List.mem_of_getElem? (i := 0) rfl)), (inr_15 _ (List.mem_of_getElem? (i := 1) rfl)), (inr_1 _ (List.mem_of_getElem? (i := 15) rfl)), rfl, ⟨by decide, by decide, by decide +kernel⟩, by decide, by decide, rfl⟩
theorem mlX8_68 : MLv RX8 68 RX6 6 yX6_isAt cX6_isAt 3 (some .boolean) 1 := ⟨(inr_11 _ (List.mem_of_getElem? (i := 21) rfl)), (inr_11 _ (List.mem_of_getElem? (i := 18) rfl)), (inr_11 _ (List.mem_of_getElem? (i := 19) rfl)), (inr_11 _ (List.mem_of_getElem? (i := 20) rfl)), (inr_1 _ (List.mem_of_getElem? (i := 15) rfl)), rfl, ⟨by decide, by decide, by decide +kernel⟩, by decide, by decide, rfl⟩
theorem mlX8_72 : MLv RX8 72 RX8 8 yX8_readParish cX8_readParish 7 none 1 := ⟨(inr_12 _ (List.mem_of_getElem? (i := 1) rfl)), (inr_11 _ (List.mem_of_getElem? (i := 22) rfl)), (inr_11 _ (List.mem_of_getElem? (i := 23) rfl)), (inr_12 _ (List.mem_of_getElem? (i := 0) rfl)), (inr_1 _ (List.mem_of_getElem? (i := 23) rfl)), rfl, ⟨by decide, by decide, by decide +kernel⟩, by decide, by decide, rfl⟩
theorem mlX8_77 : MLv RX8 77 RX8 8 yX8_readLeap cX8_readLeap 4 none 1 := ⟨(inr_13 _ (List.mem_of_getElem? (i := 23) rfl)), (inr_13 _ (List.mem_of_getElem? (i := 20) rfl)), (inr_13 _ (List.mem_of_getElem? (i := 21) rfl)), (inr_13 _ (List.mem_of_getElem? (i := 22) rfl)), (inr_1 _ (List.mem_of_getElem? (i := 23) rfl)), rfl, ⟨by decide, by decide, by decide +kernel⟩, by decide, by decide, rfl⟩
theorem mlX8_82 : MLv RX8 82 RX8 8 yX8_readFeast cX8_readFeast 4 none 1 := ⟨(inr_14 _ (List.mem_of_getElem? (i := 15) rfl)), (inr_14 _ (List.mem_of_getElem? (i := 12) rfl)), (inr_14 _ (List.mem_of_getElem? (i := 13) rfl)), (inr_14 _ (List.mem_of_getElem? (i := 14) rfl)), (inr_1 _ (List.mem_of_getElem? (i := 23) rfl)), rfl, ⟨by decide, by decide, by decide +kernel⟩, by decide, by decide, rfl⟩
theorem mlX8_87 : MLv RX8 87 RX8 8 yX8_readSun cX8_readSun 2 none 1 := ⟨(inr_14 _ (List.mem_of_getElem? (i := 22) rfl)), (inr_14 _ (List.mem_of_getElem? (i := 19) rfl)), (inr_14 _ (List.mem_of_getElem? (i := 20) rfl)), (inr_14 _ (List.mem_of_getElem? (i := 21) rfl)), (inr_1 _ (List.mem_of_getElem? (i := 23) rfl)), rfl, ⟨by decide, by decide, by decide +kernel⟩, by decide, by decide, rfl⟩
theorem mlX8_90 : MLv RX8 90 RX6 6 yX6_fail cX6_fail 2 none 1 := ⟨(inr_12 _ (List.mem_of_getElem? (i := 5) rfl)), (inr_12 _ (List.mem_of_getElem? (i := 2) rfl)), (inr_12 _ (List.mem_of_getElem? (i := 3) rfl)), (inr_12 _ (List.mem_of_getElem? (i := 4) rfl)), (inr_1 _ (List.mem_of_getElem? (i := 15) rfl)), rfl, ⟨by decide, by decide, by decide +kernel⟩, by decide, by decide, rfl⟩
theorem mlX8_93 : MLv RX8 93 RX6 6 yX6_advance cX6_advance 5 none 0 := ⟨(inr_10 _ (List.mem_of_getElem? (i := 18) rfl)), (inr_12 _ (List.mem_of_getElem? (i := 6) rfl)), (inr_10 _ (List.mem_of_getElem? (i := 16) rfl)), (inr_10 _ (List.mem_of_getElem? (i := 17) rfl)), (inr_1 _ (List.mem_of_getElem? (i := 15) rfl)), rfl, ⟨by decide, by decide, by decide +kernel⟩, by decide, by decide, rfl⟩
theorem mlX8_96 : MLv RX8 96 RX8 8 yX8_takeNewName cX8_takeNewName 4 (some .long) 1 := ⟨(inr_12 _ (List.mem_of_getElem? (i := 10) rfl)), (inr_12 _ (List.mem_of_getElem? (i := 7) rfl)), (inr_12 _ (List.mem_of_getElem? (i := 8) rfl)), (inr_12 _ (List.mem_of_getElem? (i := 9) rfl)), (inr_1 _ (List.mem_of_getElem? (i := 23) rfl)), rfl, ⟨by decide, by decide, by decide +kernel⟩, by decide, by decide, rfl⟩
theorem mlX8_100 : MLv RX8 100 RX6 6 yX6_takeNumber cX6_takeNumber 4 (some .int) 2 := ⟨(inr_13 _ (List.mem_of_getElem? (i := 4) rfl)), (inr_13 _ (List.mem_of_getElem? (i := 1) rfl)), (inr_13 _ (List.mem_of_getElem? (i := 2) rfl)), (inr_13 _ (List.mem_of_getElem? (i := 3) rfl)), (inr_1 _ (List.mem_of_getElem? (i := 15) rfl)), rfl, ⟨by decide, by decide, by decide +kernel⟩, by decide, by decide, rfl⟩
theorem mlX8_104 : MLv RX8 104 RX4 4 yX4_tellName cX4_tellName 4 none 2 := ⟨(inr_13 _ (List.mem_of_getElem? (i := 9) rfl)), (inr_13 _ (List.mem_of_getElem? (i := 6) rfl)), (inr_13 _ (List.mem_of_getElem? (i := 7) rfl)), (inr_13 _ (List.mem_of_getElem? (i := 8) rfl)), (inr_4 _ (List.mem_of_getElem? (i := 7) rfl)), rfl, ⟨by decide, by decide, by decide +kernel⟩, by decide, by decide, rfl⟩
theorem mlX8_108 : MLv RX8 108 RX4 4 yX4_tellYear cX4_tellYear 4 none 3 := ⟨(inr_13 _ (List.mem_of_getElem? (i := 16) rfl)), (inr_13 _ (List.mem_of_getElem? (i := 13) rfl)), (inr_13 _ (List.mem_of_getElem? (i := 14) rfl)), (inr_13 _ (List.mem_of_getElem? (i := 15) rfl)), (inr_4 _ (List.mem_of_getElem? (i := 7) rfl)), rfl, ⟨by decide, by decide, by decide +kernel⟩, by decide, by decide, rfl⟩
theorem mlX8_112 : MLv RX8 112 RX8 8 yX8_parishAt cX8_parishAt 3 (some .int) 1 := ⟨(inr_14 _ (List.mem_of_getElem? (i := 3) rfl)), (inr_14 _ (List.mem_of_getElem? (i := 0) rfl)), (inr_14 _ (List.mem_of_getElem? (i := 1) rfl)), (inr_14 _ (List.mem_of_getElem? (i := 2) rfl)), (inr_1 _ (List.mem_of_getElem? (i := 23) rfl)), rfl, ⟨by decide, by decide, by decide +kernel⟩, by decide, by decide, rfl⟩
theorem mlX8_116 : MLv RX8 116 RX8 8 yX8_hasParish cX8_hasParish 2 (some .boolean) 1 := ⟨(inr_14 _ (List.mem_of_getElem? (i := 7) rfl)), (inr_14 _ (List.mem_of_getElem? (i := 4) rfl)), (inr_14 _ (List.mem_of_getElem? (i := 5) rfl)), (inr_14 _ (List.mem_of_getElem? (i := 6) rfl)), (inr_1 _ (List.mem_of_getElem? (i := 23) rfl)), rfl, ⟨by decide, by decide, by decide +kernel⟩, by decide, by decide, rfl⟩
theorem mlX8_123 : MLv RX8 123 RX4 4 yX4_tellLeap cX4_tellLeap 3 none 2 := ⟨(inr_14 _ (List.mem_of_getElem? (i := 11) rfl)), (inr_14 _ (List.mem_of_getElem? (i := 8) rfl)), (inr_14 _ (List.mem_of_getElem? (i := 9) rfl)), (inr_14 _ (List.mem_of_getElem? (i := 10) rfl)), (inr_4 _ (List.mem_of_getElem? (i := 7) rfl)), rfl, ⟨by decide, by decide, by decide +kernel⟩, by decide, by decide, rfl⟩
theorem mlX8_145 : MLv RX8 145 RX6 6 yX6_isAtName cX6_isAtName 2 (some .boolean) 0 := ⟨(inr_12 _ (List.mem_of_getElem? (i := 15) rfl)), (inr_12 _ (List.mem_of_getElem? (i := 12) rfl)), (inr_12 _ (List.mem_of_getElem? (i := 13) rfl)), (inr_12 _ (List.mem_of_getElem? (i := 14) rfl)), (inr_1 _ (List.mem_of_getElem? (i := 15) rfl)), rfl, ⟨by decide, by decide, by decide +kernel⟩, by decide, by decide, rfl⟩
theorem mlX8_151 : MLv RX8 151 RX8 8 yX8_parishNamed cX8_parishNamed 4 (some .int) 1 := ⟨(inr_12 _ (List.mem_of_getElem? (i := 19) rfl)), (inr_12 _ (List.mem_of_getElem? (i := 16) rfl)), (inr_12 _ (List.mem_of_getElem? (i := 17) rfl)), (inr_12 _ (List.mem_of_getElem? (i := 18) rfl)), (inr_1 _ (List.mem_of_getElem? (i := 23) rfl)), rfl, ⟨by decide, by decide, by decide +kernel⟩, by decide, by decide, rfl⟩
theorem mlX8_155 : MLv RX8 155 RX8 8 yX8_feastNamed cX8_feastNamed 4 (some .int) 1 := ⟨(inr_12 _ (List.mem_of_getElem? (i := 23) rfl)), (inr_12 _ (List.mem_of_getElem? (i := 20) rfl)), (inr_12 _ (List.mem_of_getElem? (i := 21) rfl)), (inr_12 _ (List.mem_of_getElem? (i := 22) rfl)), (inr_1 _ (List.mem_of_getElem? (i := 23) rfl)), rfl, ⟨by decide, by decide, by decide +kernel⟩, by decide, by decide, rfl⟩
def fX8_hasParish (a0 : Nat) (x1 : Int32) (S : St) : Int32 :=
  if x1 < 0 then ((0 : Int32)) else
  (if (gI S 8 2 a0) ≤ x1 then ((0 : Int32)) else
  ((1 : Int32)))
theorem wX8_hasParish {z : Mx} {ad : Nat → Nat} {o : Option Value × St} (X : CxOk z ad RX8 cX8_hasParish 2 (some .boolean) 1) (a0 : Nat) (x1 : Int32) (h0 : KT a0 = 8) (S : St) (r : Int32) (ho : o = (some (.int r), S)) (hF : fX8_hasParish a0 x1 S = r) : GW z ad o S 0 [(0, .ref (ad a0)), (1, .int x1)] [] := by
  unfold fX8_hasParish at hF
  refine g_iload_n X dX8_hasParish_0 1 rfl rfl ?_
  refine g_if_lt (tgt := 16) X dX8_hasParish_1 (by decide) (fun c_1 => ?_) (fun c_1 => ?_)
  · rw [if_pos c_1] at hF
    refine g_iconst (v := 0) X dX8_hasParish_16 (by decide) ?_
    subst hF
    exact g_zret X dX8_hasParish_17 (by decide) ho
  · rw [if_neg c_1] at hF
    refine g_iload_n X dX8_hasParish_4 1 rfl rfl ?_
    refine g_aload_n X dX8_hasParish_5 0 rfl rfl ?_
    refine g_getI X dX8_hasParish_6 flX8_32 rfl h0 ?_
    refine g_icmp_ge (tgt := 16) X dX8_hasParish_9 (by decide) (fun c_2 => ?_) (fun c_2 => ?_)
    · rw [if_pos c_2] at hF
      refine g_iconst (v := 0) X dX8_hasParish_16 (by decide) ?_
      subst hF
      exact g_zret X dX8_hasParish_17 (by decide) ho
    · rw [if_neg c_2] at hF
      refine g_iconst (v := 1) X dX8_hasParish_12 (by decide) ?_
      refine g_goto (tgt := 17) X dX8_hasParish_13 (by decide) ?_
      subst hF
      exact g_zret X dX8_hasParish_17 (by decide) ho
theorem tX8_hasParish {ad : Nat → Nat} (hI : Inj ad) (l : Launch) (D : va_G) (cyy : Nat → ClassId) (a0 : Nat) (x1 : Int32) (h0 : KT a0 = 8) (S : St) : OkM l yX8_hasParish cX8_hasParish 2 (some .boolean) 1 ad D cyy [.ref (ad a0), .int x1] S (some (.int (fX8_hasParish a0 x1 S)), S) := okM_of hI (by decide) (inr_14 _ (List.mem_of_getElem? (i := 7) rfl)) (by show _ ≤ 2; exact Nat.le_of_ble_eq_true rfl) (fun z X => wX8_hasParish X a0 x1 h0 S _ rfl rfl)
def fX8_parishNamed_s2 (k2 : Int32 → Option Int32) (a0 : Nat) (x1 : Int64) (y3 : Int32)  (S : St) : Option Int32 :=
  if (gI S 8 2 a0) ≤ y3 then (some (-1 : Int32)) else
  (if (y3 < 0 ∨ 5 ≤ y3.toNatClampNeg) then none else
  if (lg_cmp (gJ S 4 0 ((a0 + 1) + 2 + y3.toNatClampNeg)) x1) = 0 then (some y3) else
  (k2 (y3 + (1 : Int32))))
def fX8_parishNamed_h2 (a0 : Nat) (x1 : Int64) : Nat → Int32 → St → Option Int32
  | 0, _, _ => none
  | n + 1, y3, S => fX8_parishNamed_s2 (fun y3 => fX8_parishNamed_h2 a0 x1 n y3 S) a0 x1 y3 S
def fX8_parishNamed (a0 : Nat) (x1 : Int64) (S : St) : Option Int32 :=
  fX8_parishNamed_h2 a0 x1 NN (0 : Int32) S
theorem wX8_parishNamed_s2 {z : Mx} {ad : Nat → Nat} {o : Option Value × St} (X : CxOk z ad RX8 cX8_parishNamed 4 (some .int) 1) (a0 : Nat) (x1 : Int64) (h0 : KT a0 = 8) (y3 : Int32)  (k2 : Int32 → Option Int32)   (S : St) (r : Int32) (ho : o = (some (.int r), S)) (hk2 : ∀ (y3 : Int32), k2 y3 = some r → GW z ad o S 2 [(0, .ref (ad a0)), (1, .long x1), (3, .int y3)] []) (hF : fX8_parishNamed_s2 k2 a0 x1 y3  S = some r) : GW z ad o S 2 [(0, .ref (ad a0)), (1, .long x1), (3, .int y3)] [] := by
  unfold fX8_parishNamed_s2 at hF
  refine g_iload_n X dX8_parishNamed_2 2 rfl rfl ?_
  refine g_aload_n X dX8_parishNamed_3 0 rfl rfl ?_
  refine g_getI X dX8_parishNamed_4 flX8_32 rfl h0 ?_
  refine g_icmp_ge (tgt := 32) X dX8_parishNamed_7 (by decide) (fun c_1 => ?_) (fun c_1 => ?_)
  · rw [if_pos c_1] at hF
    refine g_iconst (v := -1) X dX8_parishNamed_32 (by decide) ?_
    have hF := Option.some.inj hF
    subst hF
    exact g_iret X dX8_parishNamed_33 ho
  · rw [if_neg c_1] at hF
    refine g_aload_n X dX8_parishNamed_10 0 rfl rfl ?_
    refine g_getR (f := 1) X dX8_parishNamed_11 flX8_11 rfl rfl h0 ?_
    refine g_iload_n X dX8_parishNamed_14 2 rfl rfl ?_
    obtain ⟨e_2, hF⟩ := oguard hF
    refine g_aaldP X dX8_parishNamed_15 (on_8_0 h0) rfl e_2 ?_
    refine g_getJ X dX8_parishNamed_16 flX8_158 rfl (on_p (on_8_0 h0) (inb e_2)) ?_
    refine g_lload_n X dX8_parishNamed_19 1 rfl rfl ?_
    refine g_lcmp X dX8_parishNamed_20 ?_
    refine g_if_ne (tgt := 26) X dX8_parishNamed_21 (by decide) (fun c_3 => ?_) (fun c_3 => ?_)
    · rw [if_neg c_3] at hF
      refine g_iinc (v := (y3 + (1 : Int32))) X dX8_parishNamed_26 2 rfl rfl (by decide) (lv' := [(3, .int (y3 + (1 : Int32))), (0, .ref (ad a0)), (1, .long x1)]) rfl ?_
      refine g_goto (tgt := 2) X dX8_parishNamed_29 (by decide) ?_
      exact g_perm [1, 2, 0] rfl (hk2 (y3 + (1 : Int32)) hF)
    · rw [if_pos c_3] at hF
      refine g_iload_n X dX8_parishNamed_24 2 rfl rfl ?_
      have hF := Option.some.inj hF
      subst hF
      exact g_iret X dX8_parishNamed_25 ho
theorem wX8_parishNamed_h2 {z : Mx} {ad : Nat → Nat} {o : Option Value × St} (X : CxOk z ad RX8 cX8_parishNamed 4 (some .int) 1) (a0 : Nat) (x1 : Int64) (h0 : KT a0 = 8)  (S : St) (r : Int32) (ho : o = (some (.int r), S)) : ∀ (n : Nat) (y3 : Int32), fX8_parishNamed_h2 a0 x1 n y3 S = some r → GW z ad o S 2 [(0, .ref (ad a0)), (1, .long x1), (3, .int y3)] [] := by
  intro n
  induction n with
  | zero => intro y3  hF; cases hF
  | succ n ih => intro y3  hF; exact wX8_parishNamed_s2 X a0 x1 h0 y3 (fun y3 => fX8_parishNamed_h2 a0 x1 n y3 S)  S r ho (fun y3 hF => ih y3  hF) hF
theorem wX8_parishNamed {z : Mx} {ad : Nat → Nat} {o : Option Value × St} (X : CxOk z ad RX8 cX8_parishNamed 4 (some .int) 1) (a0 : Nat) (x1 : Int64) (h0 : KT a0 = 8) (S : St) (r : Int32) (ho : o = (some (.int r), S)) (hF : fX8_parishNamed a0 x1 S = some r) : GW z ad o S 0 [(0, .ref (ad a0)), (1, .long x1)] [] := by
  unfold fX8_parishNamed at hF
  refine g_iconst (v := 0) X dX8_parishNamed_0 (by decide) ?_
  refine g_istore_n X dX8_parishNamed_1 rfl (by decide) (lv' := [(3, .int (0 : Int32)), (0, .ref (ad a0)), (1, .long x1)]) rfl ?_
  exact g_perm [1, 2, 0] rfl (wX8_parishNamed_h2 X a0 x1 h0 S r ho NN (0 : Int32) hF)
theorem tX8_parishNamed {ad : Nat → Nat} (hI : Inj ad) (l : Launch) (D : va_G) (cyy : Nat → ClassId) (a0 : Nat) (x1 : Int64) (h0 : KT a0 = 8) (S : St) (r : Int32) (hF : fX8_parishNamed a0 x1 S = some r) : OkM l yX8_parishNamed cX8_parishNamed 4 (some .int) 1 ad D cyy [.ref (ad a0), .long x1] S (some (.int r), S) := okM_of hI (by decide) (inr_12 _ (List.mem_of_getElem? (i := 19) rfl)) (by show _ ≤ 4; exact Nat.le_of_ble_eq_true rfl) (fun z X => wX8_parishNamed X a0 x1 h0 S r rfl hF)
def fX8_parishAt_s33 (a0 : Nat) (a1 : Nat) (y2 : Int32)  (S : St) : Option (Int32 × St) :=
  some (y2, S)
def fX8_parishAt_s12 (a0 : Nat) (a1 : Nat)   (S : St) : Option (Int32 × St) :=
  some ((-1 : Int32), S)
def fX8_parishAt (a0 : Nat) (a1 : Nat) (S : St) : Option (Int32 × St) :=
  (fX6_isAtName a1 S).bind fun r_1 =>
  if r_1 = 0 then (fX8_parishAt_s12 a0 a1 (fX6_fail a1 (1 : Int32) S)) else
  ((fX8_parishNamed a0 (gJ S 6 6 a1) S).bind fun r_4 =>
  if r_4 = (-1 : Int32) then (fX8_parishAt_s33 a0 a1 r_4 (fX6_fail a1 (3 : Int32) S)) else
  (some (r_4, S)))
theorem wX8_parishAt_s33 {z : Mx} {ad : Nat → Nat} {o : Option Value × St} (X : CxOk z ad RX8 cX8_parishAt 3 (some .int) 2) (a0 : Nat) (a1 : Nat) (h0 : KT a0 = 8) (h1 : KT a1 = 6) (y2 : Int32)    (S : St) (r : (Int32 × St)) (ho : o = (some (.int r.1), r.2)) (hF : fX8_parishAt_s33 a0 a1 y2  S = some r) : GW z ad o S 33 [(2, .int y2)] [] := by
  unfold fX8_parishAt_s33 at hF
  refine g_iload_n X dX8_parishAt_33 0 rfl rfl ?_
  have hF := Option.some.inj hF
  subst hF
  exact g_iret X dX8_parishAt_34 ho
theorem wX8_parishAt_s12 {z : Mx} {ad : Nat → Nat} {o : Option Value × St} (X : CxOk z ad RX8 cX8_parishAt 3 (some .int) 2) (a0 : Nat) (a1 : Nat) (h0 : KT a0 = 8) (h1 : KT a1 = 6)     (S : St) (r : (Int32 × St)) (ho : o = (some (.int r.1), r.2)) (hF : fX8_parishAt_s12 a0 a1   S = some r) : GW z ad o S 12 [] [] := by
  unfold fX8_parishAt_s12 at hF
  refine g_iconst (v := -1) X dX8_parishAt_12 (by decide) ?_
  have hF := Option.some.inj hF
  subst hF
  exact g_iret X dX8_parishAt_13 ho
theorem wX8_parishAt {z : Mx} {ad : Nat → Nat} {o : Option Value × St} (X : CxOk z ad RX8 cX8_parishAt 3 (some .int) 2) (a0 : Nat) (a1 : Nat) (h0 : KT a0 = 8) (h1 : KT a1 = 6) (S : St) (r : (Int32 × St)) (ho : o = (some (.int r.1), r.2)) (hF : fX8_parishAt a0 a1 S = some r) : GW z ad o S 0 [(0, .ref (ad a0)), (1, .ref (ad a1))] [] := by
  unfold fX8_parishAt at hF
  refine g_aload_n X dX8_parishAt_0 1 rfl rfl ?_
  obtain ⟨r_1, q_2, hF⟩ := obind hF
  refine g_callVi (As := []) X dX8_parishAt_1 mlX8_145 (fun l D cyy => tX6_isAtName (cx_inj X) l D cyy a1 h1 S r_1 q_2) h1 (by decide) rfl rfl (Nat.le_of_ble_eq_true rfl) ?_
  refine g_if_ne (tgt := 14) X dX8_parishAt_4 (by decide) (fun c_3 => ?_) (fun c_3 => ?_)
  · rw [if_neg c_3] at hF
    refine g_aload_n X dX8_parishAt_14 0 rfl rfl ?_
    refine g_aload_n X dX8_parishAt_15 1 rfl rfl ?_
    refine g_getJ X dX8_parishAt_16 flX8_148 rfl h1 ?_
    obtain ⟨r_4, q_5, hF⟩ := obind hF
    refine g_callVi (As := [.long (gJ S 6 6 a1)]) X dX8_parishAt_19 mlX8_151 (fun l D cyy => tX8_parishNamed (cx_inj X) l D cyy a0 (gJ S 6 6 a1) h0 S r_4 q_5) h0 (by decide) rfl rfl (Nat.le_of_ble_eq_true rfl) ?_
    refine g_istore_n X dX8_parishAt_22 rfl (by decide) (lv' := [(2, .int r_4), (0, .ref (ad a0)), (1, .ref (ad a1))]) rfl ?_
    refine g_iload_n X dX8_parishAt_23 0 rfl rfl ?_
    refine g_iconst (v := -1) X dX8_parishAt_24 (by decide) ?_
    refine g_icmp_ne (tgt := 33) X dX8_parishAt_25 (by decide) (fun c_6 => ?_) (fun c_6 => ?_)
    · rw [if_neg c_6] at hF
      refine g_iload_n X dX8_parishAt_33 0 rfl rfl ?_
      have hF := Option.some.inj hF
      subst hF
      exact g_iret X dX8_parishAt_34 ho
    · rw [if_pos c_6] at hF
      refine g_aload_n X dX8_parishAt_28 2 rfl rfl ?_
      refine g_iconst (v := 3) X dX8_parishAt_29 (by decide) ?_
      refine g_callVv (As := [.int (3 : Int32)]) X dX8_parishAt_30 mlX8_90 (fun l D cyy => tX6_fail (cx_inj X) l D cyy a1 (3 : Int32) h1 S) h1 (by decide) rfl rfl (Nat.le_of_ble_eq_true rfl) ?_
      exact g_perm [0] rfl (wX8_parishAt_s33 X a0 a1 h0 h1 r_4 (fX6_fail a1 (3 : Int32) S) r ho hF)
  · rw [if_pos c_3] at hF
    refine g_aload_n X dX8_parishAt_7 1 rfl rfl ?_
    refine g_iconst (v := 1) X dX8_parishAt_8 (by decide) ?_
    refine g_callVv (As := [.int (1 : Int32)]) X dX8_parishAt_9 mlX8_90 (fun l D cyy => tX6_fail (cx_inj X) l D cyy a1 (1 : Int32) h1 S) h1 (by decide) rfl rfl (Nat.le_of_ble_eq_true rfl) ?_
    exact g_perm [] rfl (wX8_parishAt_s12 X a0 a1 h0 h1 (fX6_fail a1 (1 : Int32) S) r ho hF)
theorem tX8_parishAt {ad : Nat → Nat} (hI : Inj ad) (l : Launch) (D : va_G) (cyy : Nat → ClassId) (a0 : Nat) (a1 : Nat) (h0 : KT a0 = 8) (h1 : KT a1 = 6) (S : St) (r : (Int32 × St)) (hF : fX8_parishAt a0 a1 S = some r) : OkM l yX8_parishAt cX8_parishAt 3 (some .int) 2 ad D cyy [.ref (ad a0), .ref (ad a1)] S (some (.int r.1), r.2) := okM_of hI (by decide) (inr_14 _ (List.mem_of_getElem? (i := 3) rfl)) (by show _ ≤ 3; exact Nat.le_of_ble_eq_true rfl) (fun z X => wX8_parishAt X a0 a1 h0 h1 S r rfl hF)
def fX8_feastNamed_s2 (k2 : Int32 → Option Int32) (a0 : Nat) (x1 : Int64) (y3 : Int32)  (S : St) : Option Int32 :=
  if (gI S 8 3 a0) ≤ y3 then (some (-1 : Int32)) else
  (if (y3 < 0 ∨ 6 ≤ y3.toNatClampNeg) then none else
  if (lg_cmp (gJ S 3 0 ((a0 + 2) + 6 + y3.toNatClampNeg)) x1) = 0 then (some y3) else
  (k2 (y3 + (1 : Int32))))
def fX8_feastNamed_h2 (a0 : Nat) (x1 : Int64) : Nat → Int32 → St → Option Int32
  | 0, _, _ => none
  | n + 1, y3, S => fX8_feastNamed_s2 (fun y3 => fX8_feastNamed_h2 a0 x1 n y3 S) a0 x1 y3 S
def fX8_feastNamed (a0 : Nat) (x1 : Int64) (S : St) : Option Int32 :=
  fX8_feastNamed_h2 a0 x1 NN (0 : Int32) S
theorem wX8_feastNamed_s2 {z : Mx} {ad : Nat → Nat} {o : Option Value × St} (X : CxOk z ad RX8 cX8_feastNamed 4 (some .int) 1) (a0 : Nat) (x1 : Int64) (h0 : KT a0 = 8) (y3 : Int32)  (k2 : Int32 → Option Int32)   (S : St) (r : Int32) (ho : o = (some (.int r), S)) (hk2 : ∀ (y3 : Int32), k2 y3 = some r → GW z ad o S 2 [(0, .ref (ad a0)), (1, .long x1), (3, .int y3)] []) (hF : fX8_feastNamed_s2 k2 a0 x1 y3  S = some r) : GW z ad o S 2 [(0, .ref (ad a0)), (1, .long x1), (3, .int y3)] [] := by
  unfold fX8_feastNamed_s2 at hF
  refine g_iload_n X dX8_feastNamed_2 2 rfl rfl ?_
  refine g_aload_n X dX8_feastNamed_3 0 rfl rfl ?_
  refine g_getI X dX8_feastNamed_4 flX8_35 rfl h0 ?_
  refine g_icmp_ge (tgt := 32) X dX8_feastNamed_7 (by decide) (fun c_1 => ?_) (fun c_1 => ?_)
  · rw [if_pos c_1] at hF
    refine g_iconst (v := -1) X dX8_feastNamed_32 (by decide) ?_
    have hF := Option.some.inj hF
    subst hF
    exact g_iret X dX8_feastNamed_33 ho
  · rw [if_neg c_1] at hF
    refine g_aload_n X dX8_feastNamed_10 0 rfl rfl ?_
    refine g_getR (f := 2) X dX8_feastNamed_11 flX8_19 rfl rfl h0 ?_
    refine g_iload_n X dX8_feastNamed_14 2 rfl rfl ?_
    obtain ⟨e_2, hF⟩ := oguard hF
    refine g_aaldF X dX8_feastNamed_15 (on_8_1 h0) rfl e_2 ?_
    refine g_getJ X dX8_feastNamed_16 flX8_127 rfl (on_f (on_8_1 h0) (inb e_2)) ?_
    refine g_lload_n X dX8_feastNamed_19 1 rfl rfl ?_
    refine g_lcmp X dX8_feastNamed_20 ?_
    refine g_if_ne (tgt := 26) X dX8_feastNamed_21 (by decide) (fun c_3 => ?_) (fun c_3 => ?_)
    · rw [if_neg c_3] at hF
      refine g_iinc (v := (y3 + (1 : Int32))) X dX8_feastNamed_26 2 rfl rfl (by decide) (lv' := [(3, .int (y3 + (1 : Int32))), (0, .ref (ad a0)), (1, .long x1)]) rfl ?_
      refine g_goto (tgt := 2) X dX8_feastNamed_29 (by decide) ?_
      exact g_perm [1, 2, 0] rfl (hk2 (y3 + (1 : Int32)) hF)
    · rw [if_pos c_3] at hF
      refine g_iload_n X dX8_feastNamed_24 2 rfl rfl ?_
      have hF := Option.some.inj hF
      subst hF
      exact g_iret X dX8_feastNamed_25 ho
theorem wX8_feastNamed_h2 {z : Mx} {ad : Nat → Nat} {o : Option Value × St} (X : CxOk z ad RX8 cX8_feastNamed 4 (some .int) 1) (a0 : Nat) (x1 : Int64) (h0 : KT a0 = 8)  (S : St) (r : Int32) (ho : o = (some (.int r), S)) : ∀ (n : Nat) (y3 : Int32), fX8_feastNamed_h2 a0 x1 n y3 S = some r → GW z ad o S 2 [(0, .ref (ad a0)), (1, .long x1), (3, .int y3)] [] := by
  intro n
  induction n with
  | zero => intro y3  hF; cases hF
  | succ n ih => intro y3  hF; exact wX8_feastNamed_s2 X a0 x1 h0 y3 (fun y3 => fX8_feastNamed_h2 a0 x1 n y3 S)  S r ho (fun y3 hF => ih y3  hF) hF
theorem wX8_feastNamed {z : Mx} {ad : Nat → Nat} {o : Option Value × St} (X : CxOk z ad RX8 cX8_feastNamed 4 (some .int) 1) (a0 : Nat) (x1 : Int64) (h0 : KT a0 = 8) (S : St) (r : Int32) (ho : o = (some (.int r), S)) (hF : fX8_feastNamed a0 x1 S = some r) : GW z ad o S 0 [(0, .ref (ad a0)), (1, .long x1)] [] := by
  unfold fX8_feastNamed at hF
  refine g_iconst (v := 0) X dX8_feastNamed_0 (by decide) ?_
  refine g_istore_n X dX8_feastNamed_1 rfl (by decide) (lv' := [(3, .int (0 : Int32)), (0, .ref (ad a0)), (1, .long x1)]) rfl ?_
  exact g_perm [1, 2, 0] rfl (wX8_feastNamed_h2 X a0 x1 h0 S r ho NN (0 : Int32) hF)
theorem tX8_feastNamed {ad : Nat → Nat} (hI : Inj ad) (l : Launch) (D : va_G) (cyy : Nat → ClassId) (a0 : Nat) (x1 : Int64) (h0 : KT a0 = 8) (S : St) (r : Int32) (hF : fX8_feastNamed a0 x1 S = some r) : OkM l yX8_feastNamed cX8_feastNamed 4 (some .int) 1 ad D cyy [.ref (ad a0), .long x1] S (some (.int r), S) := okM_of hI (by decide) (inr_12 _ (List.mem_of_getElem? (i := 23) rfl)) (by show _ ≤ 4; exact Nat.le_of_ble_eq_true rfl) (fun z X => wX8_feastNamed X a0 x1 h0 S r rfl hF)
def fX8_feastAt_s33 (a0 : Nat) (a1 : Nat) (y2 : Int32)  (S : St) : Option (Int32 × St) :=
  some (y2, S)
def fX8_feastAt_s12 (a0 : Nat) (a1 : Nat)   (S : St) : Option (Int32 × St) :=
  some ((-1 : Int32), S)
def fX8_feastAt (a0 : Nat) (a1 : Nat) (S : St) : Option (Int32 × St) :=
  (fX6_isAtName a1 S).bind fun r_1 =>
  if r_1 = 0 then (fX8_feastAt_s12 a0 a1 (fX6_fail a1 (1 : Int32) S)) else
  ((fX8_feastNamed a0 (gJ S 6 6 a1) S).bind fun r_4 =>
  if r_4 = (-1 : Int32) then (fX8_feastAt_s33 a0 a1 r_4 (fX6_fail a1 (3 : Int32) S)) else
  (some (r_4, S)))
theorem wX8_feastAt_s33 {z : Mx} {ad : Nat → Nat} {o : Option Value × St} (X : CxOk z ad RX8 cX8_feastAt 3 (some .int) 2) (a0 : Nat) (a1 : Nat) (h0 : KT a0 = 8) (h1 : KT a1 = 6) (y2 : Int32)    (S : St) (r : (Int32 × St)) (ho : o = (some (.int r.1), r.2)) (hF : fX8_feastAt_s33 a0 a1 y2  S = some r) : GW z ad o S 33 [(2, .int y2)] [] := by
  unfold fX8_feastAt_s33 at hF
  refine g_iload_n X dX8_feastAt_33 0 rfl rfl ?_
  have hF := Option.some.inj hF
  subst hF
  exact g_iret X dX8_feastAt_34 ho
theorem wX8_feastAt_s12 {z : Mx} {ad : Nat → Nat} {o : Option Value × St} (X : CxOk z ad RX8 cX8_feastAt 3 (some .int) 2) (a0 : Nat) (a1 : Nat) (h0 : KT a0 = 8) (h1 : KT a1 = 6)     (S : St) (r : (Int32 × St)) (ho : o = (some (.int r.1), r.2)) (hF : fX8_feastAt_s12 a0 a1   S = some r) : GW z ad o S 12 [] [] := by
  unfold fX8_feastAt_s12 at hF
  refine g_iconst (v := -1) X dX8_feastAt_12 (by decide) ?_
  have hF := Option.some.inj hF
  subst hF
  exact g_iret X dX8_feastAt_13 ho
theorem wX8_feastAt {z : Mx} {ad : Nat → Nat} {o : Option Value × St} (X : CxOk z ad RX8 cX8_feastAt 3 (some .int) 2) (a0 : Nat) (a1 : Nat) (h0 : KT a0 = 8) (h1 : KT a1 = 6) (S : St) (r : (Int32 × St)) (ho : o = (some (.int r.1), r.2)) (hF : fX8_feastAt a0 a1 S = some r) : GW z ad o S 0 [(0, .ref (ad a0)), (1, .ref (ad a1))] [] := by
  unfold fX8_feastAt at hF
  refine g_aload_n X dX8_feastAt_0 1 rfl rfl ?_
  obtain ⟨r_1, q_2, hF⟩ := obind hF
  refine g_callVi (As := []) X dX8_feastAt_1 mlX8_145 (fun l D cyy => tX6_isAtName (cx_inj X) l D cyy a1 h1 S r_1 q_2) h1 (by decide) rfl rfl (Nat.le_of_ble_eq_true rfl) ?_
  refine g_if_ne (tgt := 14) X dX8_feastAt_4 (by decide) (fun c_3 => ?_) (fun c_3 => ?_)
  · rw [if_neg c_3] at hF
    refine g_aload_n X dX8_feastAt_14 0 rfl rfl ?_
    refine g_aload_n X dX8_feastAt_15 1 rfl rfl ?_
    refine g_getJ X dX8_feastAt_16 flX8_148 rfl h1 ?_
    obtain ⟨r_4, q_5, hF⟩ := obind hF
    refine g_callVi (As := [.long (gJ S 6 6 a1)]) X dX8_feastAt_19 mlX8_155 (fun l D cyy => tX8_feastNamed (cx_inj X) l D cyy a0 (gJ S 6 6 a1) h0 S r_4 q_5) h0 (by decide) rfl rfl (Nat.le_of_ble_eq_true rfl) ?_
    refine g_istore_n X dX8_feastAt_22 rfl (by decide) (lv' := [(2, .int r_4), (0, .ref (ad a0)), (1, .ref (ad a1))]) rfl ?_
    refine g_iload_n X dX8_feastAt_23 0 rfl rfl ?_
    refine g_iconst (v := -1) X dX8_feastAt_24 (by decide) ?_
    refine g_icmp_ne (tgt := 33) X dX8_feastAt_25 (by decide) (fun c_6 => ?_) (fun c_6 => ?_)
    · rw [if_neg c_6] at hF
      refine g_iload_n X dX8_feastAt_33 0 rfl rfl ?_
      have hF := Option.some.inj hF
      subst hF
      exact g_iret X dX8_feastAt_34 ho
    · rw [if_pos c_6] at hF
      refine g_aload_n X dX8_feastAt_28 2 rfl rfl ?_
      refine g_iconst (v := 3) X dX8_feastAt_29 (by decide) ?_
      refine g_callVv (As := [.int (3 : Int32)]) X dX8_feastAt_30 mlX8_90 (fun l D cyy => tX6_fail (cx_inj X) l D cyy a1 (3 : Int32) h1 S) h1 (by decide) rfl rfl (Nat.le_of_ble_eq_true rfl) ?_
      exact g_perm [0] rfl (wX8_feastAt_s33 X a0 a1 h0 h1 r_4 (fX6_fail a1 (3 : Int32) S) r ho hF)
  · rw [if_pos c_3] at hF
    refine g_aload_n X dX8_feastAt_7 1 rfl rfl ?_
    refine g_iconst (v := 1) X dX8_feastAt_8 (by decide) ?_
    refine g_callVv (As := [.int (1 : Int32)]) X dX8_feastAt_9 mlX8_90 (fun l D cyy => tX6_fail (cx_inj X) l D cyy a1 (1 : Int32) h1 S) h1 (by decide) rfl rfl (Nat.le_of_ble_eq_true rfl) ?_
    exact g_perm [] rfl (wX8_feastAt_s12 X a0 a1 h0 h1 (fX6_fail a1 (1 : Int32) S) r ho hF)
theorem tX8_feastAt {ad : Nat → Nat} (hI : Inj ad) (l : Launch) (D : va_G) (cyy : Nat → ClassId) (a0 : Nat) (a1 : Nat) (h0 : KT a0 = 8) (h1 : KT a1 = 6) (S : St) (r : (Int32 × St)) (hF : fX8_feastAt a0 a1 S = some r) : OkM l yX8_feastAt cX8_feastAt 3 (some .int) 2 ad D cyy [.ref (ad a0), .ref (ad a1)] S (some (.int r.1), r.2) := okM_of hI (by decide) (inr_61 _ (List.mem_of_getElem? (i := 0) rfl)) (by show _ ≤ 3; exact Nat.le_of_ble_eq_true rfl) (fun z X => wX8_feastAt X a0 a1 h0 h1 S r rfl hF)
def fX8_hasFeast (a0 : Nat) (x1 : Int32) (S : St) : Int32 :=
  if x1 < 0 then ((0 : Int32)) else
  (if (gI S 8 3 a0) ≤ x1 then ((0 : Int32)) else
  ((1 : Int32)))
theorem wX8_hasFeast {z : Mx} {ad : Nat → Nat} {o : Option Value × St} (X : CxOk z ad RX8 cX8_hasFeast 2 (some .boolean) 1) (a0 : Nat) (x1 : Int32) (h0 : KT a0 = 8) (S : St) (r : Int32) (ho : o = (some (.int r), S)) (hF : fX8_hasFeast a0 x1 S = r) : GW z ad o S 0 [(0, .ref (ad a0)), (1, .int x1)] [] := by
  unfold fX8_hasFeast at hF
  refine g_iload_n X dX8_hasFeast_0 1 rfl rfl ?_
  refine g_if_lt (tgt := 16) X dX8_hasFeast_1 (by decide) (fun c_1 => ?_) (fun c_1 => ?_)
  · rw [if_pos c_1] at hF
    refine g_iconst (v := 0) X dX8_hasFeast_16 (by decide) ?_
    subst hF
    exact g_zret X dX8_hasFeast_17 (by decide) ho
  · rw [if_neg c_1] at hF
    refine g_iload_n X dX8_hasFeast_4 1 rfl rfl ?_
    refine g_aload_n X dX8_hasFeast_5 0 rfl rfl ?_
    refine g_getI X dX8_hasFeast_6 flX8_35 rfl h0 ?_
    refine g_icmp_ge (tgt := 16) X dX8_hasFeast_9 (by decide) (fun c_2 => ?_) (fun c_2 => ?_)
    · rw [if_pos c_2] at hF
      refine g_iconst (v := 0) X dX8_hasFeast_16 (by decide) ?_
      subst hF
      exact g_zret X dX8_hasFeast_17 (by decide) ho
    · rw [if_neg c_2] at hF
      refine g_iconst (v := 1) X dX8_hasFeast_12 (by decide) ?_
      refine g_goto (tgt := 17) X dX8_hasFeast_13 (by decide) ?_
      subst hF
      exact g_zret X dX8_hasFeast_17 (by decide) ho
theorem tX8_hasFeast {ad : Nat → Nat} (hI : Inj ad) (l : Launch) (D : va_G) (cyy : Nat → ClassId) (a0 : Nat) (x1 : Int32) (h0 : KT a0 = 8) (S : St) : OkM l yX8_hasFeast cX8_hasFeast 2 (some .boolean) 1 ad D cyy [.ref (ad a0), .int x1] S (some (.int (fX8_hasFeast a0 x1 S)), S) := okM_of hI (by decide) (inr_26 _ (List.mem_of_getElem? (i := 5) rfl)) (by show _ ≤ 2; exact Nat.le_of_ble_eq_true rfl) (fun z X => wX8_hasFeast X a0 x1 h0 S _ rfl rfl)
def fX8_copyFrom_s89 (a0 : Nat) (a1 : Nat)   (S : St) : Option St :=
  if ¬ ((gI S 8 6 a1) = 0 ∨ (gI S 8 6 a1) = 1) then none else
  some (sI S 8 6 a0 (gI S 8 6 a1))
def fX8_copyFrom_s81 (a0 : Nat) (a1 : Nat)   (S : St) : Option St :=
  fX8_copyFrom_s89 a0 a1 (sI S 8 5 a0 (gI S 8 5 a1))
def fX8_copyFrom_s73 (a0 : Nat) (a1 : Nat)   (S : St) : Option St :=
  fX8_copyFrom_s81 a0 a1 (sI S 8 4 a0 (gI S 8 4 a1))
def fX8_copyFrom_s65 (a0 : Nat) (a1 : Nat)   (S : St) : Option St :=
  fX8_copyFrom_s73 a0 a1 (sI S 8 3 a0 (gI S 8 3 a1))
def fX8_copyFrom_s51 (k30 : Int32 → St → Option St) (a0 : Nat) (a1 : Nat) (y2 : Int32)  (S : St) : Option St :=
  k30 (y2 + (1 : Int32)) S
def fX8_copyFrom_s30 (k30 : Int32 → St → Option St) (a0 : Nat) (a1 : Nat) (y2 : Int32)  (S : St) : Option St :=
  if (6 : Int32) ≤ y2 then (fX8_copyFrom_s65 a0 a1 (sI S 8 2 a0 (gI S 8 2 a1))) else
  (if (y2 < 0 ∨ 6 ≤ y2.toNatClampNeg) then none else
  if (y2 < 0 ∨ 6 ≤ y2.toNatClampNeg) then none else
  fX8_copyFrom_s51 k30 a0 a1 y2 (fX3_copyFrom ((a0 + 2) + 6 + y2.toNatClampNeg) ((a1 + 2) + 6 + y2.toNatClampNeg) S))
def fX8_copyFrom_h30 (a0 : Nat) (a1 : Nat) : Nat → Int32 → St → Option St
  | 0, _, _ => none
  | n + 1, y2, S => fX8_copyFrom_s30 (fX8_copyFrom_h30 a0 a1 n) a0 a1 y2 S
def fX8_copyFrom_s22 (k2 : Int32 → St → Option St) (a0 : Nat) (a1 : Nat) (y2 : Int32)  (S : St) : Option St :=
  k2 (y2 + (1 : Int32)) S
def fX8_copyFrom_s2 (k2 : Int32 → St → Option St) (a0 : Nat) (a1 : Nat) (y2 : Int32)  (S : St) : Option St :=
  if (5 : Int32) ≤ y2 then (fX8_copyFrom_h30 a0 a1 NN (0 : Int32) S) else
  (if (y2 < 0 ∨ 5 ≤ y2.toNatClampNeg) then none else
  if (y2 < 0 ∨ 5 ≤ y2.toNatClampNeg) then none else
  fX8_copyFrom_s22 k2 a0 a1 y2 (fX4_copyFrom ((a0 + 1) + 2 + y2.toNatClampNeg) ((a1 + 1) + 2 + y2.toNatClampNeg) S))
def fX8_copyFrom_h2 (a0 : Nat) (a1 : Nat) : Nat → Int32 → St → Option St
  | 0, _, _ => none
  | n + 1, y2, S => fX8_copyFrom_s2 (fX8_copyFrom_h2 a0 a1 n) a0 a1 y2 S
def fX8_copyFrom (a0 : Nat) (a1 : Nat) (S : St) : Option St :=
  fX8_copyFrom_h2 a0 a1 NN (0 : Int32) S
theorem wX8_copyFrom_s89 {z : Mx} {ad : Nat → Nat} {o : Option Value × St} (X : CxOk z ad RX8 cX8_copyFrom 3 none 2) (a0 : Nat) (a1 : Nat) (h0 : KT a0 = 8) (h1 : KT a1 = 8)     (S : St) (r : St) (ho : o = (none, r)) (hF : fX8_copyFrom_s89 a0 a1   S = some r) : GW z ad o S 89 [(0, .ref (ad a0)), (1, .ref (ad a1))] [] := by
  unfold fX8_copyFrom_s89 at hF
  refine g_aload_n X dX8_copyFrom_89 0 rfl rfl ?_
  refine g_aload_n X dX8_copyFrom_90 1 rfl rfl ?_
  refine g_getI X dX8_copyFrom_91 flX8_45 rfl h1 ?_
  obtain ⟨e_3, hF⟩ := oguard hF
  refine g_putI X dX8_copyFrom_94 fpX8_45 rfl (nar_z e_3) (fit_z e_3) h0 ?_
  have hF := Option.some.inj hF
  subst hF
  exact g_vret X dX8_copyFrom_97 ho
theorem wX8_copyFrom_s81 {z : Mx} {ad : Nat → Nat} {o : Option Value × St} (X : CxOk z ad RX8 cX8_copyFrom 3 none 2) (a0 : Nat) (a1 : Nat) (h0 : KT a0 = 8) (h1 : KT a1 = 8)     (S : St) (r : St) (ho : o = (none, r)) (hF : fX8_copyFrom_s81 a0 a1   S = some r) : GW z ad o S 81 [(0, .ref (ad a0)), (1, .ref (ad a1))] [] := by
  unfold fX8_copyFrom_s81 at hF
  refine g_aload_n X dX8_copyFrom_81 0 rfl rfl ?_
  refine g_aload_n X dX8_copyFrom_82 1 rfl rfl ?_
  refine g_getI X dX8_copyFrom_83 flX8_27 rfl h1 ?_
  refine g_putI X dX8_copyFrom_86 fpX8_27 rfl rfl rfl h0 ?_
  exact (wX8_copyFrom_s89 X a0 a1 h0 h1 (sI S 8 5 a0 (gI S 8 5 a1)) r ho hF)
theorem wX8_copyFrom_s73 {z : Mx} {ad : Nat → Nat} {o : Option Value × St} (X : CxOk z ad RX8 cX8_copyFrom 3 none 2) (a0 : Nat) (a1 : Nat) (h0 : KT a0 = 8) (h1 : KT a1 = 8)     (S : St) (r : St) (ho : o = (none, r)) (hF : fX8_copyFrom_s73 a0 a1   S = some r) : GW z ad o S 73 [(0, .ref (ad a0)), (1, .ref (ad a1))] [] := by
  unfold fX8_copyFrom_s73 at hF
  refine g_aload_n X dX8_copyFrom_73 0 rfl rfl ?_
  refine g_aload_n X dX8_copyFrom_74 1 rfl rfl ?_
  refine g_getI X dX8_copyFrom_75 flX8_23 rfl h1 ?_
  refine g_putI X dX8_copyFrom_78 fpX8_23 rfl rfl rfl h0 ?_
  exact (wX8_copyFrom_s81 X a0 a1 h0 h1 (sI S 8 4 a0 (gI S 8 4 a1)) r ho hF)
theorem wX8_copyFrom_s65 {z : Mx} {ad : Nat → Nat} {o : Option Value × St} (X : CxOk z ad RX8 cX8_copyFrom 3 none 2) (a0 : Nat) (a1 : Nat) (h0 : KT a0 = 8) (h1 : KT a1 = 8)     (S : St) (r : St) (ho : o = (none, r)) (hF : fX8_copyFrom_s65 a0 a1   S = some r) : GW z ad o S 65 [(0, .ref (ad a0)), (1, .ref (ad a1))] [] := by
  unfold fX8_copyFrom_s65 at hF
  refine g_aload_n X dX8_copyFrom_65 0 rfl rfl ?_
  refine g_aload_n X dX8_copyFrom_66 1 rfl rfl ?_
  refine g_getI X dX8_copyFrom_67 flX8_35 rfl h1 ?_
  refine g_putI X dX8_copyFrom_70 fpX8_35 rfl rfl rfl h0 ?_
  exact (wX8_copyFrom_s73 X a0 a1 h0 h1 (sI S 8 3 a0 (gI S 8 3 a1)) r ho hF)
theorem wX8_copyFrom_s51 {z : Mx} {ad : Nat → Nat} {o : Option Value × St} (X : CxOk z ad RX8 cX8_copyFrom 3 none 2) (a0 : Nat) (a1 : Nat) (h0 : KT a0 = 8) (h1 : KT a1 = 8) (y2 : Int32)  (k30 : Int32 → St → Option St)   (S : St) (r : St) (ho : o = (none, r)) (hk30 : ∀ (y2 : Int32) (S : St), k30 y2 S = some r → GW z ad o S 30 [(0, .ref (ad a0)), (1, .ref (ad a1)), (2, .int y2)] []) (hF : fX8_copyFrom_s51 k30 a0 a1 y2  S = some r) : GW z ad o S 51 [(0, .ref (ad a0)), (1, .ref (ad a1)), (2, .int y2)] [] := by
  unfold fX8_copyFrom_s51 at hF
  refine g_iinc (v := (y2 + (1 : Int32))) X dX8_copyFrom_51 2 rfl rfl (by decide) (lv' := [(2, .int (y2 + (1 : Int32))), (0, .ref (ad a0)), (1, .ref (ad a1))]) rfl ?_
  refine g_goto (tgt := 30) X dX8_copyFrom_54 (by decide) ?_
  exact g_perm [1, 2, 0] rfl (hk30 (y2 + (1 : Int32)) S hF)
theorem wX8_copyFrom_s30 {z : Mx} {ad : Nat → Nat} {o : Option Value × St} (X : CxOk z ad RX8 cX8_copyFrom 3 none 2) (a0 : Nat) (a1 : Nat) (h0 : KT a0 = 8) (h1 : KT a1 = 8) (y2 : Int32)  (k30 : Int32 → St → Option St)   (S : St) (r : St) (ho : o = (none, r)) (hk30 : ∀ (y2 : Int32) (S : St), k30 y2 S = some r → GW z ad o S 30 [(0, .ref (ad a0)), (1, .ref (ad a1)), (2, .int y2)] []) (hF : fX8_copyFrom_s30 k30 a0 a1 y2  S = some r) : GW z ad o S 30 [(0, .ref (ad a0)), (1, .ref (ad a1)), (2, .int y2)] [] := by
  unfold fX8_copyFrom_s30 at hF
  refine g_iload_n X dX8_copyFrom_30 2 rfl rfl ?_
  refine g_bipush (v := 6) X dX8_copyFrom_31 (by decide) ?_
  refine g_icmp_ge (tgt := 57) X dX8_copyFrom_33 (by decide) (fun c_2 => ?_) (fun c_2 => ?_)
  · rw [if_pos c_2] at hF
    refine g_aload_n X dX8_copyFrom_57 0 rfl rfl ?_
    refine g_aload_n X dX8_copyFrom_58 1 rfl rfl ?_
    refine g_getI X dX8_copyFrom_59 flX8_32 rfl h1 ?_
    refine g_putI X dX8_copyFrom_62 fpX8_32 rfl rfl rfl h0 ?_
    exact g_perm [0, 1] rfl (wX8_copyFrom_s65 X a0 a1 h0 h1 (sI S 8 2 a0 (gI S 8 2 a1)) r ho hF)
  · rw [if_neg c_2] at hF
    refine g_aload_n X dX8_copyFrom_36 0 rfl rfl ?_
    refine g_getR (f := 2) X dX8_copyFrom_37 flX8_19 rfl rfl h0 ?_
    refine g_iload_n X dX8_copyFrom_40 2 rfl rfl ?_
    obtain ⟨e_4, hF⟩ := oguard hF
    refine g_aaldF X dX8_copyFrom_41 (on_8_1 h0) rfl e_4 ?_
    refine g_aload_n X dX8_copyFrom_42 1 rfl rfl ?_
    refine g_getR (f := 2) X dX8_copyFrom_43 flX8_19 rfl rfl h1 ?_
    refine g_iload_n X dX8_copyFrom_46 2 rfl rfl ?_
    obtain ⟨e_5, hF⟩ := oguard hF
    refine g_aaldF X dX8_copyFrom_47 (on_8_1 h1) rfl e_5 ?_
    refine g_callVv (As := [.ref (ad ((a1 + 2) + 6 + y2.toNatClampNeg))]) X dX8_copyFrom_48 mlX8_42 (fun l D cyy => tX3_copyFrom (cx_inj X) l D cyy ((a0 + 2) + 6 + y2.toNatClampNeg) ((a1 + 2) + 6 + y2.toNatClampNeg) (on_f (on_8_1 h0) (inb e_4)) (on_f (on_8_1 h1) (inb e_5)) S) (on_f (on_8_1 h0) (inb e_4)) (by decide) rfl rfl (Nat.le_of_ble_eq_true rfl) ?_
    exact (wX8_copyFrom_s51 X a0 a1 h0 h1 y2 k30 (fX3_copyFrom ((a0 + 2) + 6 + y2.toNatClampNeg) ((a1 + 2) + 6 + y2.toNatClampNeg) S) r ho hk30 hF)
theorem wX8_copyFrom_h30 {z : Mx} {ad : Nat → Nat} {o : Option Value × St} (X : CxOk z ad RX8 cX8_copyFrom 3 none 2) (a0 : Nat) (a1 : Nat) (h0 : KT a0 = 8) (h1 : KT a1 = 8)  (r : St) (ho : o = (none, r)) : ∀ (n : Nat) (y2 : Int32) (S : St), fX8_copyFrom_h30 a0 a1 n y2 S = some r → GW z ad o S 30 [(0, .ref (ad a0)), (1, .ref (ad a1)), (2, .int y2)] [] := by
  intro n
  induction n with
  | zero => intro y2 S  hF; cases hF
  | succ n ih => intro y2 S  hF; exact wX8_copyFrom_s30 X a0 a1 h0 h1 y2 (fX8_copyFrom_h30 a0 a1 n)  S r ho ih hF
theorem wX8_copyFrom_s22 {z : Mx} {ad : Nat → Nat} {o : Option Value × St} (X : CxOk z ad RX8 cX8_copyFrom 3 none 2) (a0 : Nat) (a1 : Nat) (h0 : KT a0 = 8) (h1 : KT a1 = 8) (y2 : Int32)  (k2 : Int32 → St → Option St)   (S : St) (r : St) (ho : o = (none, r)) (hk2 : ∀ (y2 : Int32) (S : St), k2 y2 S = some r → GW z ad o S 2 [(0, .ref (ad a0)), (1, .ref (ad a1)), (2, .int y2)] []) (hF : fX8_copyFrom_s22 k2 a0 a1 y2  S = some r) : GW z ad o S 22 [(0, .ref (ad a0)), (1, .ref (ad a1)), (2, .int y2)] [] := by
  unfold fX8_copyFrom_s22 at hF
  refine g_iinc (v := (y2 + (1 : Int32))) X dX8_copyFrom_22 2 rfl rfl (by decide) (lv' := [(2, .int (y2 + (1 : Int32))), (0, .ref (ad a0)), (1, .ref (ad a1))]) rfl ?_
  refine g_goto (tgt := 2) X dX8_copyFrom_25 (by decide) ?_
  exact g_perm [1, 2, 0] rfl (hk2 (y2 + (1 : Int32)) S hF)
theorem wX8_copyFrom_s2 {z : Mx} {ad : Nat → Nat} {o : Option Value × St} (X : CxOk z ad RX8 cX8_copyFrom 3 none 2) (a0 : Nat) (a1 : Nat) (h0 : KT a0 = 8) (h1 : KT a1 = 8) (y2 : Int32)  (k2 : Int32 → St → Option St)   (S : St) (r : St) (ho : o = (none, r)) (hk2 : ∀ (y2 : Int32) (S : St), k2 y2 S = some r → GW z ad o S 2 [(0, .ref (ad a0)), (1, .ref (ad a1)), (2, .int y2)] []) (hF : fX8_copyFrom_s2 k2 a0 a1 y2  S = some r) : GW z ad o S 2 [(0, .ref (ad a0)), (1, .ref (ad a1)), (2, .int y2)] [] := by
  unfold fX8_copyFrom_s2 at hF
  refine g_iload_n X dX8_copyFrom_2 2 rfl rfl ?_
  refine g_iconst (v := 5) X dX8_copyFrom_3 (by decide) ?_
  refine g_icmp_ge (tgt := 28) X dX8_copyFrom_4 (by decide) (fun c_1 => ?_) (fun c_1 => ?_)
  · rw [if_pos c_1] at hF
    refine g_iconst (v := 0) X dX8_copyFrom_28 (by decide) ?_
    refine g_istore_n X dX8_copyFrom_29 rfl (by decide) (lv' := [(2, .int (0 : Int32)), (0, .ref (ad a0)), (1, .ref (ad a1))]) rfl ?_
    exact g_perm [1, 2, 0] rfl (wX8_copyFrom_h30 X a0 a1 h0 h1 r ho NN (0 : Int32) S hF)
  · rw [if_neg c_1] at hF
    refine g_aload_n X dX8_copyFrom_7 0 rfl rfl ?_
    refine g_getR (f := 1) X dX8_copyFrom_8 flX8_11 rfl rfl h0 ?_
    refine g_iload_n X dX8_copyFrom_11 2 rfl rfl ?_
    obtain ⟨e_6, hF⟩ := oguard hF
    refine g_aaldP X dX8_copyFrom_12 (on_8_0 h0) rfl e_6 ?_
    refine g_aload_n X dX8_copyFrom_13 1 rfl rfl ?_
    refine g_getR (f := 1) X dX8_copyFrom_14 flX8_11 rfl rfl h1 ?_
    refine g_iload_n X dX8_copyFrom_17 2 rfl rfl ?_
    obtain ⟨e_7, hF⟩ := oguard hF
    refine g_aaldP X dX8_copyFrom_18 (on_8_0 h1) rfl e_7 ?_
    refine g_callVv (As := [.ref (ad ((a1 + 1) + 2 + y2.toNatClampNeg))]) X dX8_copyFrom_19 mlX8_38 (fun l D cyy => tX4_copyFrom (cx_inj X) l D cyy ((a0 + 1) + 2 + y2.toNatClampNeg) ((a1 + 1) + 2 + y2.toNatClampNeg) (on_p (on_8_0 h0) (inb e_6)) (on_p (on_8_0 h1) (inb e_7)) S) (on_p (on_8_0 h0) (inb e_6)) (by decide) rfl rfl (Nat.le_of_ble_eq_true rfl) ?_
    exact (wX8_copyFrom_s22 X a0 a1 h0 h1 y2 k2 (fX4_copyFrom ((a0 + 1) + 2 + y2.toNatClampNeg) ((a1 + 1) + 2 + y2.toNatClampNeg) S) r ho hk2 hF)
theorem wX8_copyFrom_h2 {z : Mx} {ad : Nat → Nat} {o : Option Value × St} (X : CxOk z ad RX8 cX8_copyFrom 3 none 2) (a0 : Nat) (a1 : Nat) (h0 : KT a0 = 8) (h1 : KT a1 = 8)  (r : St) (ho : o = (none, r)) : ∀ (n : Nat) (y2 : Int32) (S : St), fX8_copyFrom_h2 a0 a1 n y2 S = some r → GW z ad o S 2 [(0, .ref (ad a0)), (1, .ref (ad a1)), (2, .int y2)] [] := by
  intro n
  induction n with
  | zero => intro y2 S  hF; cases hF
  | succ n ih => intro y2 S  hF; exact wX8_copyFrom_s2 X a0 a1 h0 h1 y2 (fX8_copyFrom_h2 a0 a1 n)  S r ho ih hF
theorem wX8_copyFrom {z : Mx} {ad : Nat → Nat} {o : Option Value × St} (X : CxOk z ad RX8 cX8_copyFrom 3 none 2) (a0 : Nat) (a1 : Nat) (h0 : KT a0 = 8) (h1 : KT a1 = 8) (S : St) (r : St) (ho : o = (none, r)) (hF : fX8_copyFrom a0 a1 S = some r) : GW z ad o S 0 [(0, .ref (ad a0)), (1, .ref (ad a1))] [] := by
  unfold fX8_copyFrom at hF
  refine g_iconst (v := 0) X dX8_copyFrom_0 (by decide) ?_
  refine g_istore_n X dX8_copyFrom_1 rfl (by decide) (lv' := [(2, .int (0 : Int32)), (0, .ref (ad a0)), (1, .ref (ad a1))]) rfl ?_
  exact g_perm [1, 2, 0] rfl (wX8_copyFrom_h2 X a0 a1 h0 h1 r ho NN (0 : Int32) S hF)
theorem tX8_copyFrom {ad : Nat → Nat} (hI : Inj ad) (l : Launch) (D : va_G) (cyy : Nat → ClassId) (a0 : Nat) (a1 : Nat) (h0 : KT a0 = 8) (h1 : KT a1 = 8) (S : St) (r : St) (hF : fX8_copyFrom a0 a1 S = some r) : OkM l yX8_copyFrom cX8_copyFrom 3 none 2 ad D cyy [.ref (ad a0), .ref (ad a1)] S (none, r) := okM_of hI (by decide) (inr_15 _ (List.mem_of_getElem? (i := 15) rfl)) (by show _ ≤ 3; exact Nat.le_of_ble_eq_true rfl) (fun z X => wX8_copyFrom X a0 a1 h0 h1 S r rfl hF)
def fX8_takeNewName_s49 (a0 : Nat) (a1 : Nat) (y2 : Int64)  (S : St) : Option (Int64 × St) :=
  (fX6_advance a1 S).bind fun r_7 =>
  some (y2, r_7)
def fX8_takeNewName_s44 (a0 : Nat) (a1 : Nat)   (S : St) : Option (Int64 × St) :=
  fX8_takeNewName_s49 a0 a1 (gJ S 6 6 a1) S
def fX8_takeNewName_s39 (a0 : Nat) (a1 : Nat)   (S : St) : Option (Int64 × St) :=
  fX8_takeNewName_s44 a0 a1 (fX6_fail a1 (3 : Int32) S)
def fX8_takeNewName_s12 (a0 : Nat) (a1 : Nat)   (S : St) : Option (Int64 × St) :=
  fX8_takeNewName_s44 a0 a1 S
def fX8_takeNewName (a0 : Nat) (a1 : Nat) (S : St) : Option (Int64 × St) :=
  (fX6_isAtName a1 S).bind fun r_1 =>
  if r_1 = 0 then (fX8_takeNewName_s12 a0 a1 (fX6_fail a1 (1 : Int32) S)) else
  ((fX8_parishNamed a0 (gJ S 6 6 a1) S).bind fun r_4 =>
  if r_4 = (-1 : Int32) then ((fX8_feastNamed a0 (gJ S 6 6 a1) S).bind fun r_9 =>
  if r_9 = (-1 : Int32) then (fX8_takeNewName_s44 a0 a1 S) else
  (fX8_takeNewName_s39 a0 a1 S)) else
  (fX8_takeNewName_s39 a0 a1 S))
theorem wX8_takeNewName_s49 {z : Mx} {ad : Nat → Nat} {o : Option Value × St} (X : CxOk z ad RX8 cX8_takeNewName 4 (some .long) 3) (a0 : Nat) (a1 : Nat) (h0 : KT a0 = 8) (h1 : KT a1 = 6) (y2 : Int64)    (S : St) (r : (Int64 × St)) (ho : o = (some (.long r.1), r.2)) (hF : fX8_takeNewName_s49 a0 a1 y2  S = some r) : GW z ad o S 49 [(1, .ref (ad a1)), (2, .long y2)] [] := by
  unfold fX8_takeNewName_s49 at hF
  refine g_aload_n X dX8_takeNewName_49 0 rfl rfl ?_
  obtain ⟨r_7, q_8, hF⟩ := obind hF
  refine g_callVv (As := []) X dX8_takeNewName_50 mlX8_93 (fun l D cyy => tX6_advance (cx_inj X) l D cyy a1 h1 S r_7 q_8) h1 (by decide) rfl rfl (Nat.le_of_ble_eq_true rfl) ?_
  refine g_lload_n X dX8_takeNewName_53 1 rfl rfl ?_
  have hF := Option.some.inj hF
  subst hF
  exact g_lret X dX8_takeNewName_54 ho
theorem wX8_takeNewName_s44 {z : Mx} {ad : Nat → Nat} {o : Option Value × St} (X : CxOk z ad RX8 cX8_takeNewName 4 (some .long) 3) (a0 : Nat) (a1 : Nat) (h0 : KT a0 = 8) (h1 : KT a1 = 6)     (S : St) (r : (Int64 × St)) (ho : o = (some (.long r.1), r.2)) (hF : fX8_takeNewName_s44 a0 a1   S = some r) : GW z ad o S 44 [(1, .ref (ad a1))] [] := by
  unfold fX8_takeNewName_s44 at hF
  refine g_aload_n X dX8_takeNewName_44 0 rfl rfl ?_
  refine g_getJ X dX8_takeNewName_45 flX8_148 rfl h1 ?_
  refine g_lstore_n X dX8_takeNewName_48 rfl (by decide) (lv' := [(2, .long (gJ S 6 6 a1)), (1, .ref (ad a1))]) rfl ?_
  exact g_perm [1, 0] rfl (wX8_takeNewName_s49 X a0 a1 h0 h1 (gJ S 6 6 a1) S r ho hF)
theorem wX8_takeNewName_s39 {z : Mx} {ad : Nat → Nat} {o : Option Value × St} (X : CxOk z ad RX8 cX8_takeNewName 4 (some .long) 3) (a0 : Nat) (a1 : Nat) (h0 : KT a0 = 8) (h1 : KT a1 = 6)     (S : St) (r : (Int64 × St)) (ho : o = (some (.long r.1), r.2)) (hF : fX8_takeNewName_s39 a0 a1   S = some r) : GW z ad o S 39 [(1, .ref (ad a1))] [] := by
  unfold fX8_takeNewName_s39 at hF
  refine g_aload_n X dX8_takeNewName_39 0 rfl rfl ?_
  refine g_iconst (v := 3) X dX8_takeNewName_40 (by decide) ?_
  refine g_callVv (As := [.int (3 : Int32)]) X dX8_takeNewName_41 mlX8_90 (fun l D cyy => tX6_fail (cx_inj X) l D cyy a1 (3 : Int32) h1 S) h1 (by decide) rfl rfl (Nat.le_of_ble_eq_true rfl) ?_
  exact (wX8_takeNewName_s44 X a0 a1 h0 h1 (fX6_fail a1 (3 : Int32) S) r ho hF)
theorem wX8_takeNewName_s12 {z : Mx} {ad : Nat → Nat} {o : Option Value × St} (X : CxOk z ad RX8 cX8_takeNewName 4 (some .long) 3) (a0 : Nat) (a1 : Nat) (h0 : KT a0 = 8) (h1 : KT a1 = 6)     (S : St) (r : (Int64 × St)) (ho : o = (some (.long r.1), r.2)) (hF : fX8_takeNewName_s12 a0 a1   S = some r) : GW z ad o S 12 [(1, .ref (ad a1))] [] := by
  unfold fX8_takeNewName_s12 at hF
  refine g_goto (tgt := 44) X dX8_takeNewName_12 (by decide) ?_
  exact (wX8_takeNewName_s44 X a0 a1 h0 h1 S r ho hF)
theorem wX8_takeNewName {z : Mx} {ad : Nat → Nat} {o : Option Value × St} (X : CxOk z ad RX8 cX8_takeNewName 4 (some .long) 3) (a0 : Nat) (a1 : Nat) (h0 : KT a0 = 8) (h1 : KT a1 = 6) (S : St) (r : (Int64 × St)) (ho : o = (some (.long r.1), r.2)) (hF : fX8_takeNewName a0 a1 S = some r) : GW z ad o S 0 [(0, .ref (ad a0)), (1, .ref (ad a1))] [] := by
  unfold fX8_takeNewName at hF
  refine g_aload_n X dX8_takeNewName_0 1 rfl rfl ?_
  obtain ⟨r_1, q_2, hF⟩ := obind hF
  refine g_callVi (As := []) X dX8_takeNewName_1 mlX8_145 (fun l D cyy => tX6_isAtName (cx_inj X) l D cyy a1 h1 S r_1 q_2) h1 (by decide) rfl rfl (Nat.le_of_ble_eq_true rfl) ?_
  refine g_if_ne (tgt := 15) X dX8_takeNewName_4 (by decide) (fun c_3 => ?_) (fun c_3 => ?_)
  · rw [if_neg c_3] at hF
    refine g_aload_n X dX8_takeNewName_15 0 rfl rfl ?_
    refine g_aload_n X dX8_takeNewName_16 1 rfl rfl ?_
    refine g_getJ X dX8_takeNewName_17 flX8_148 rfl h1 ?_
    obtain ⟨r_4, q_5, hF⟩ := obind hF
    refine g_callVi (As := [.long (gJ S 6 6 a1)]) X dX8_takeNewName_20 mlX8_151 (fun l D cyy => tX8_parishNamed (cx_inj X) l D cyy a0 (gJ S 6 6 a1) h0 S r_4 q_5) h0 (by decide) rfl rfl (Nat.le_of_ble_eq_true rfl) ?_
    refine g_iconst (v := -1) X dX8_takeNewName_23 (by decide) ?_
    refine g_icmp_ne (tgt := 39) X dX8_takeNewName_24 (by decide) (fun c_6 => ?_) (fun c_6 => ?_)
    · rw [if_neg c_6] at hF
      exact g_perm [1] rfl (wX8_takeNewName_s39 X a0 a1 h0 h1 S r ho hF)
    · rw [if_pos c_6] at hF
      refine g_aload_n X dX8_takeNewName_27 0 rfl rfl ?_
      refine g_aload_n X dX8_takeNewName_28 1 rfl rfl ?_
      refine g_getJ X dX8_takeNewName_29 flX8_148 rfl h1 ?_
      obtain ⟨r_9, q_10, hF⟩ := obind hF
      refine g_callVi (As := [.long (gJ S 6 6 a1)]) X dX8_takeNewName_32 mlX8_155 (fun l D cyy => tX8_feastNamed (cx_inj X) l D cyy a0 (gJ S 6 6 a1) h0 S r_9 q_10) h0 (by decide) rfl rfl (Nat.le_of_ble_eq_true rfl) ?_
      refine g_iconst (v := -1) X dX8_takeNewName_35 (by decide) ?_
      refine g_icmp_eq (tgt := 44) X dX8_takeNewName_36 (by decide) (fun c_11 => ?_) (fun c_11 => ?_)
      · rw [if_pos c_11] at hF
        exact g_perm [1] rfl (wX8_takeNewName_s44 X a0 a1 h0 h1 S r ho hF)
      · rw [if_neg c_11] at hF
        exact g_perm [1] rfl (wX8_takeNewName_s39 X a0 a1 h0 h1 S r ho hF)
  · rw [if_pos c_3] at hF
    refine g_aload_n X dX8_takeNewName_7 1 rfl rfl ?_
    refine g_iconst (v := 1) X dX8_takeNewName_8 (by decide) ?_
    refine g_callVv (As := [.int (1 : Int32)]) X dX8_takeNewName_9 mlX8_90 (fun l D cyy => tX6_fail (cx_inj X) l D cyy a1 (1 : Int32) h1 S) h1 (by decide) rfl rfl (Nat.le_of_ble_eq_true rfl) ?_
    exact g_perm [1] rfl (wX8_takeNewName_s12 X a0 a1 h0 h1 (fX6_fail a1 (1 : Int32) S) r ho hF)
theorem tX8_takeNewName {ad : Nat → Nat} (hI : Inj ad) (l : Launch) (D : va_G) (cyy : Nat → ClassId) (a0 : Nat) (a1 : Nat) (h0 : KT a0 = 8) (h1 : KT a1 = 6) (S : St) (r : (Int64 × St)) (hF : fX8_takeNewName a0 a1 S = some r) : OkM l yX8_takeNewName cX8_takeNewName 4 (some .long) 3 ad D cyy [.ref (ad a0), .ref (ad a1)] S (some (.long r.1), r.2) := okM_of hI (by decide) (inr_12 _ (List.mem_of_getElem? (i := 10) rfl)) (by show _ ≤ 4; exact Nat.le_of_ble_eq_true rfl) (fun z X => wX8_takeNewName X a0 a1 h0 h1 S r rfl hF)
def fX8_readParish_s90 (a0 : Nat) (a1 : Nat)   (S : St) : Option St :=
  some (sI S 8 2 a0 ((gI S 8 2 a0) + (1 : Int32)))
def fX8_readParish_s72 (a0 : Nat) (a1 : Nat) (y4 : Int32) (y5 : Int32) (y6 : Int32)  (S : St) : Option St :=
  if ((gI S 8 2 a0) < 0 ∨ 5 ≤ (gI S 8 2 a0).toNatClampNeg) then none else
  fX8_readParish_s90 a0 a1 (fX4_tellYear ((a0 + 1) + 2 + (gI S 8 2 a0).toNatClampNeg) y4 y5 y6 S)
def fX8_readParish_s69 (a0 : Nat) (a1 : Nat) (y4 : Int32) (y5 : Int32) (y6 : Int32) (t0 : Nat) (t1 : Int64) (t2 : Int32) (S : St) : Option St :=
  fX8_readParish_s72 a0 a1 y4 y5 y6 (fX4_tellName t0 t1 t2 S)
def fX8_readParish_s49 (a0 : Nat) (a1 : Nat) (y2 : Int64) (y4 : Int32) (y5 : Int32) (t0 : Int32) (S : St) : Option St :=
  if ((gI S 8 2 a0) < 0 ∨ 5 ≤ (gI S 8 2 a0).toNatClampNeg) then none else
  (fX6_takeNumber a1 (0 : Int32) (999 : Int32) S).bind fun r_13 =>
  fX8_readParish_s69 a0 a1 y4 y5 t0 ((a0 + 1) + 2 + (gI S 8 2 a0).toNatClampNeg) y2 r_13.1 r_13.2
def fX8_readParish_s40 (a0 : Nat) (a1 : Nat) (y2 : Int64) (y4 : Int32) (t0 : Int32) (S : St) : Option St :=
  (fX6_takeNumber a1 (2 : Int32) (9 : Int32) S).bind fun r_10 =>
  fX8_readParish_s49 a0 a1 y2 y4 t0 r_10.1 r_10.2
def fX8_readParish_s31 (a0 : Nat) (a1 : Nat) (y2 : Int64) (t0 : Int32) (S : St) : Option St :=
  (fX6_takeNumber a1 (2 : Int32) (30 : Int32) S).bind fun r_8 =>
  fX8_readParish_s40 a0 a1 y2 t0 r_8.1 r_8.2
def fX8_readParish_s23 (a0 : Nat) (a1 : Nat)  (t0 : Int64) (S : St) : Option St :=
  (fX6_takeNumber a1 (2 : Int32) (13 : Int32) S).bind fun r_6 =>
  fX8_readParish_s31 a0 a1 t0 r_6.1 r_6.2
def fX8_readParish (a0 : Nat) (a1 : Nat) (S : St) : Option St :=
  if (gI S 8 2 a0) < (5 : Int32) then ((fX6_advance a1 S).bind fun r_2 =>
  (fX8_takeNewName a0 a1 r_2).bind fun r_4 =>
  fX8_readParish_s23 a0 a1 r_4.1 r_4.2) else
  (some (fX6_fail a1 (4 : Int32) S))
theorem wX8_readParish_s90 {z : Mx} {ad : Nat → Nat} {o : Option Value × St} (X : CxOk z ad RX8 cX8_readParish 7 none 4) (a0 : Nat) (a1 : Nat) (h0 : KT a0 = 8) (h1 : KT a1 = 6)     (S : St) (r : St) (ho : o = (none, r)) (hF : fX8_readParish_s90 a0 a1   S = some r) : GW z ad o S 90 [(0, .ref (ad a0))] [] := by
  unfold fX8_readParish_s90 at hF
  refine g_aload_n X dX8_readParish_90 0 rfl rfl ?_
  refine g_dup (a := .ref (ad a0)) X dX8_readParish_91 rfl ?_
  refine g_getI X dX8_readParish_92 flX8_32 rfl h0 ?_
  refine g_iconst (v := 1) X dX8_readParish_95 (by decide) ?_
  refine g_iadd X dX8_readParish_96 ?_
  refine g_putI X dX8_readParish_97 fpX8_32 rfl rfl rfl h0 ?_
  have hF := Option.some.inj hF
  subst hF
  exact g_vret X dX8_readParish_100 ho
theorem wX8_readParish_s72 {z : Mx} {ad : Nat → Nat} {o : Option Value × St} (X : CxOk z ad RX8 cX8_readParish 7 none 4) (a0 : Nat) (a1 : Nat) (h0 : KT a0 = 8) (h1 : KT a1 = 6) (y4 : Int32) (y5 : Int32) (y6 : Int32)    (S : St) (r : St) (ho : o = (none, r)) (hF : fX8_readParish_s72 a0 a1 y4 y5 y6  S = some r) : GW z ad o S 72 [(0, .ref (ad a0)), (4, .int y4), (5, .int y5), (6, .int y6)] [] := by
  unfold fX8_readParish_s72 at hF
  refine g_aload_n X dX8_readParish_72 0 rfl rfl ?_
  refine g_getR (f := 1) X dX8_readParish_73 flX8_11 rfl rfl h0 ?_
  refine g_aload_n X dX8_readParish_76 0 rfl rfl ?_
  refine g_getI X dX8_readParish_77 flX8_32 rfl h0 ?_
  obtain ⟨e_15, hF⟩ := oguard hF
  refine g_aaldP X dX8_readParish_80 (on_8_0 h0) rfl e_15 ?_
  refine g_iload X dX8_readParish_81 1 rfl ?_
  refine g_iload X dX8_readParish_83 2 rfl ?_
  refine g_iload X dX8_readParish_85 3 rfl ?_
  refine g_callVv (As := [.int y4, .int y5, .int y6]) X dX8_readParish_87 mlX8_108 (fun l D cyy => tX4_tellYear (cx_inj X) l D cyy ((a0 + 1) + 2 + (gI S 8 2 a0).toNatClampNeg) y4 y5 y6 (on_p (on_8_0 h0) (inb e_15)) S) (on_p (on_8_0 h0) (inb e_15)) (by decide) rfl rfl (Nat.le_of_ble_eq_true rfl) ?_
  exact g_perm [0] rfl (wX8_readParish_s90 X a0 a1 h0 h1 (fX4_tellYear ((a0 + 1) + 2 + (gI S 8 2 a0).toNatClampNeg) y4 y5 y6 S) r ho hF)
theorem wX8_readParish_s69 {z : Mx} {ad : Nat → Nat} {o : Option Value × St} (X : CxOk z ad RX8 cX8_readParish 7 none 4) (a0 : Nat) (a1 : Nat) (h0 : KT a0 = 8) (h1 : KT a1 = 6) (y4 : Int32) (y5 : Int32) (y6 : Int32) (t0 : Nat) (t1 : Int64) (t2 : Int32)  (gt0 : KT t0 = 4) (S : St) (r : St) (ho : o = (none, r)) (hF : fX8_readParish_s69 a0 a1 y4 y5 y6 t0 t1 t2 S = some r) : GW z ad o S 69 [(0, .ref (ad a0)), (4, .int y4), (5, .int y5), (6, .int y6)] [.int t2, .long t1, .ref (ad t0)] := by
  unfold fX8_readParish_s69 at hF
  refine g_callVv (As := [.long t1, .int t2]) X dX8_readParish_69 mlX8_104 (fun l D cyy => tX4_tellName (cx_inj X) l D cyy t0 t1 t2 gt0 S) gt0 (by decide) rfl rfl (Nat.le_of_ble_eq_true rfl) ?_
  exact (wX8_readParish_s72 X a0 a1 h0 h1 y4 y5 y6 (fX4_tellName t0 t1 t2 S) r ho hF)
theorem wX8_readParish_s49 {z : Mx} {ad : Nat → Nat} {o : Option Value × St} (X : CxOk z ad RX8 cX8_readParish 7 none 4) (a0 : Nat) (a1 : Nat) (h0 : KT a0 = 8) (h1 : KT a1 = 6) (y2 : Int64) (y4 : Int32) (y5 : Int32) (t0 : Int32)   (S : St) (r : St) (ho : o = (none, r)) (hF : fX8_readParish_s49 a0 a1 y2 y4 y5 t0 S = some r) : GW z ad o S 49 [(0, .ref (ad a0)), (1, .ref (ad a1)), (2, .long y2), (4, .int y4), (5, .int y5)] [.int t0] := by
  unfold fX8_readParish_s49 at hF
  refine g_istore X dX8_readParish_49 (by decide) (lv' := [(6, .int t0), (0, .ref (ad a0)), (1, .ref (ad a1)), (2, .long y2), (4, .int y4), (5, .int y5)]) rfl ?_
  refine g_aload_n X dX8_readParish_51 1 rfl rfl ?_
  refine g_getR (f := 1) X dX8_readParish_52 flX8_11 rfl rfl h0 ?_
  refine g_aload_n X dX8_readParish_55 1 rfl rfl ?_
  refine g_getI X dX8_readParish_56 flX8_32 rfl h0 ?_
  obtain ⟨e_12, hF⟩ := oguard hF
  refine g_aaldP X dX8_readParish_59 (on_8_0 h0) rfl e_12 ?_
  refine g_lload_n X dX8_readParish_60 3 rfl rfl ?_
  refine g_aload_n X dX8_readParish_61 2 rfl rfl ?_
  refine g_iconst (v := 0) X dX8_readParish_62 (by decide) ?_
  refine g_sipush (v := 999) X dX8_readParish_63 (by decide) ?_
  obtain ⟨r_13, q_14, hF⟩ := obind hF
  refine g_callVi (As := [.int (0 : Int32), .int (999 : Int32)]) X dX8_readParish_66 mlX8_100 (fun l D cyy => tX6_takeNumber (cx_inj X) l D cyy a1 (0 : Int32) (999 : Int32) h1 S r_13 q_14) h1 (by decide) rfl rfl (Nat.le_of_ble_eq_true rfl) ?_
  exact g_perm [1, 4, 5, 0] rfl (wX8_readParish_s69 X a0 a1 h0 h1 y4 y5 t0 ((a0 + 1) + 2 + (gI S 8 2 a0).toNatClampNeg) y2 r_13.1 (on_p (on_8_0 h0) (inb e_12)) r_13.2 r ho hF)
theorem wX8_readParish_s40 {z : Mx} {ad : Nat → Nat} {o : Option Value × St} (X : CxOk z ad RX8 cX8_readParish 7 none 4) (a0 : Nat) (a1 : Nat) (h0 : KT a0 = 8) (h1 : KT a1 = 6) (y2 : Int64) (y4 : Int32) (t0 : Int32)   (S : St) (r : St) (ho : o = (none, r)) (hF : fX8_readParish_s40 a0 a1 y2 y4 t0 S = some r) : GW z ad o S 40 [(0, .ref (ad a0)), (1, .ref (ad a1)), (2, .long y2), (4, .int y4)] [.int t0] := by
  unfold fX8_readParish_s40 at hF
  refine g_istore X dX8_readParish_40 (by decide) (lv' := [(5, .int t0), (0, .ref (ad a0)), (1, .ref (ad a1)), (2, .long y2), (4, .int y4)]) rfl ?_
  refine g_aload_n X dX8_readParish_42 2 rfl rfl ?_
  refine g_iconst (v := 2) X dX8_readParish_43 (by decide) ?_
  refine g_bipush (v := 9) X dX8_readParish_44 (by decide) ?_
  obtain ⟨r_10, q_11, hF⟩ := obind hF
  refine g_callVi (As := [.int (2 : Int32), .int (9 : Int32)]) X dX8_readParish_46 mlX8_100 (fun l D cyy => tX6_takeNumber (cx_inj X) l D cyy a1 (2 : Int32) (9 : Int32) h1 S r_10 q_11) h1 (by decide) rfl rfl (Nat.le_of_ble_eq_true rfl) ?_
  exact g_perm [1, 2, 3, 4, 0] rfl (wX8_readParish_s49 X a0 a1 h0 h1 y2 y4 t0 r_10.1 r_10.2 r ho hF)
theorem wX8_readParish_s31 {z : Mx} {ad : Nat → Nat} {o : Option Value × St} (X : CxOk z ad RX8 cX8_readParish 7 none 4) (a0 : Nat) (a1 : Nat) (h0 : KT a0 = 8) (h1 : KT a1 = 6) (y2 : Int64) (t0 : Int32)   (S : St) (r : St) (ho : o = (none, r)) (hF : fX8_readParish_s31 a0 a1 y2 t0 S = some r) : GW z ad o S 31 [(0, .ref (ad a0)), (1, .ref (ad a1)), (2, .long y2)] [.int t0] := by
  unfold fX8_readParish_s31 at hF
  refine g_istore X dX8_readParish_31 (by decide) (lv' := [(4, .int t0), (0, .ref (ad a0)), (1, .ref (ad a1)), (2, .long y2)]) rfl ?_
  refine g_aload_n X dX8_readParish_33 2 rfl rfl ?_
  refine g_iconst (v := 2) X dX8_readParish_34 (by decide) ?_
  refine g_bipush (v := 30) X dX8_readParish_35 (by decide) ?_
  obtain ⟨r_8, q_9, hF⟩ := obind hF
  refine g_callVi (As := [.int (2 : Int32), .int (30 : Int32)]) X dX8_readParish_37 mlX8_100 (fun l D cyy => tX6_takeNumber (cx_inj X) l D cyy a1 (2 : Int32) (30 : Int32) h1 S r_8 q_9) h1 (by decide) rfl rfl (Nat.le_of_ble_eq_true rfl) ?_
  exact g_perm [1, 2, 3, 0] rfl (wX8_readParish_s40 X a0 a1 h0 h1 y2 t0 r_8.1 r_8.2 r ho hF)
theorem wX8_readParish_s23 {z : Mx} {ad : Nat → Nat} {o : Option Value × St} (X : CxOk z ad RX8 cX8_readParish 7 none 4) (a0 : Nat) (a1 : Nat) (h0 : KT a0 = 8) (h1 : KT a1 = 6)  (t0 : Int64)   (S : St) (r : St) (ho : o = (none, r)) (hF : fX8_readParish_s23 a0 a1  t0 S = some r) : GW z ad o S 23 [(0, .ref (ad a0)), (1, .ref (ad a1))] [.long t0] := by
  unfold fX8_readParish_s23 at hF
  refine g_lstore_n X dX8_readParish_23 rfl (by decide) (lv' := [(2, .long t0), (0, .ref (ad a0)), (1, .ref (ad a1))]) rfl ?_
  refine g_aload_n X dX8_readParish_24 2 rfl rfl ?_
  refine g_iconst (v := 2) X dX8_readParish_25 (by decide) ?_
  refine g_bipush (v := 13) X dX8_readParish_26 (by decide) ?_
  obtain ⟨r_6, q_7, hF⟩ := obind hF
  refine g_callVi (As := [.int (2 : Int32), .int (13 : Int32)]) X dX8_readParish_28 mlX8_100 (fun l D cyy => tX6_takeNumber (cx_inj X) l D cyy a1 (2 : Int32) (13 : Int32) h1 S r_6 q_7) h1 (by decide) rfl rfl (Nat.le_of_ble_eq_true rfl) ?_
  exact g_perm [1, 2, 0] rfl (wX8_readParish_s31 X a0 a1 h0 h1 t0 r_6.1 r_6.2 r ho hF)
theorem wX8_readParish {z : Mx} {ad : Nat → Nat} {o : Option Value × St} (X : CxOk z ad RX8 cX8_readParish 7 none 4) (a0 : Nat) (a1 : Nat) (h0 : KT a0 = 8) (h1 : KT a1 = 6) (S : St) (r : St) (ho : o = (none, r)) (hF : fX8_readParish a0 a1 S = some r) : GW z ad o S 0 [(0, .ref (ad a0)), (1, .ref (ad a1))] [] := by
  unfold fX8_readParish at hF
  refine g_aload_n X dX8_readParish_0 0 rfl rfl ?_
  refine g_getI X dX8_readParish_1 flX8_32 rfl h0 ?_
  refine g_iconst (v := 5) X dX8_readParish_4 (by decide) ?_
  refine g_icmp_lt (tgt := 14) X dX8_readParish_5 (by decide) (fun c_1 => ?_) (fun c_1 => ?_)
  · rw [if_pos c_1] at hF
    refine g_aload_n X dX8_readParish_14 1 rfl rfl ?_
    obtain ⟨r_2, q_3, hF⟩ := obind hF
    refine g_callVv (As := []) X dX8_readParish_15 mlX8_93 (fun l D cyy => tX6_advance (cx_inj X) l D cyy a1 h1 S r_2 q_3) h1 (by decide) rfl rfl (Nat.le_of_ble_eq_true rfl) ?_
    refine g_aload_n X dX8_readParish_18 0 rfl rfl ?_
    refine g_aload_n X dX8_readParish_19 1 rfl rfl ?_
    obtain ⟨r_4, q_5, hF⟩ := obind hF
    refine g_callVl (As := [.ref (ad a1)]) X dX8_readParish_20 mlX8_96 (fun l D cyy => tX8_takeNewName (cx_inj X) l D cyy a0 a1 h0 h1 r_2 r_4 q_5) h0 (by decide) rfl rfl (Nat.le_of_ble_eq_true rfl) ?_
    exact (wX8_readParish_s23 X a0 a1 h0 h1 r_4.1 r_4.2 r ho hF)
  · rw [if_neg c_1] at hF
    refine g_aload_n X dX8_readParish_8 1 rfl rfl ?_
    refine g_iconst (v := 4) X dX8_readParish_9 (by decide) ?_
    refine g_callVv (As := [.int (4 : Int32)]) X dX8_readParish_10 mlX8_90 (fun l D cyy => tX6_fail (cx_inj X) l D cyy a1 (4 : Int32) h1 S) h1 (by decide) rfl rfl (Nat.le_of_ble_eq_true rfl) ?_
    have hF := Option.some.inj hF
    subst hF
    exact g_vret X dX8_readParish_13 ho
theorem tX8_readParish {ad : Nat → Nat} (hI : Inj ad) (l : Launch) (D : va_G) (cyy : Nat → ClassId) (a0 : Nat) (a1 : Nat) (h0 : KT a0 = 8) (h1 : KT a1 = 6) (S : St) (r : St) (hF : fX8_readParish a0 a1 S = some r) : OkM l yX8_readParish cX8_readParish 7 none 4 ad D cyy [.ref (ad a0), .ref (ad a1)] S (none, r) := okM_of hI (by decide) (inr_12 _ (List.mem_of_getElem? (i := 1) rfl)) (by show _ ≤ 7; exact Nat.le_of_ble_eq_true rfl) (fun z X => wX8_readParish X a0 a1 h0 h1 S r rfl hF)
def fX8_readLeap_s62 (a0 : Nat) (a1 : Nat)  (t0 : Nat) (t1 : Int32) (t2 : Int32) (S : St) : Option St :=
  some (fX4_tellLeap t0 t1 t2 S)
def fX8_readLeap_s47 (a0 : Nat) (a1 : Nat) (y2 : Int32) (t0 : Int32) (S : St) : Option St :=
  if (y2 < 0 ∨ 5 ≤ y2.toNatClampNeg) then none else
  (fX6_takeNumber a1 (1 : Int32) (9 : Int32) S).bind fun r_13 =>
  fX8_readLeap_s62 a0 a1 ((a0 + 1) + 2 + y2.toNatClampNeg) t0 r_13.1 r_13.2
def fX8_readLeap_s36 (a0 : Nat) (a1 : Nat) (y2 : Int32)  (S : St) : Option St :=
  (fX6_advance a1 S).bind fun r_8 =>
  (fX6_takeNumber a1 (1 : Int32) (9 : Int32) r_8).bind fun r_10 =>
  fX8_readLeap_s47 a0 a1 y2 r_10.1 r_10.2
def fX8_readLeap_s9 (a0 : Nat) (a1 : Nat)  (t0 : Int32) (S : St) : Option St :=
  if (fX8_hasParish a0 t0 S) = 0 then (some S) else
  (if (t0 < 0 ∨ 5 ≤ t0.toNatClampNeg) then none else
  if (gI S 4 5 ((a0 + 1) + 2 + t0.toNatClampNeg)) ≤ 0 then (fX8_readLeap_s36 a0 a1 t0 S) else
  (fX8_readLeap_s36 a0 a1 t0 (fX6_fail a1 (3 : Int32) S)))
def fX8_readLeap (a0 : Nat) (a1 : Nat) (S : St) : Option St :=
  (fX6_advance a1 S).bind fun r_1 =>
  (fX8_parishAt a0 a1 r_1).bind fun r_3 =>
  fX8_readLeap_s9 a0 a1 r_3.1 r_3.2
theorem wX8_readLeap_s62 {z : Mx} {ad : Nat → Nat} {o : Option Value × St} (X : CxOk z ad RX8 cX8_readLeap 4 none 4) (a0 : Nat) (a1 : Nat) (h0 : KT a0 = 8) (h1 : KT a1 = 6)  (t0 : Nat) (t1 : Int32) (t2 : Int32)  (gt0 : KT t0 = 4) (S : St) (r : St) (ho : o = (none, r)) (hF : fX8_readLeap_s62 a0 a1  t0 t1 t2 S = some r) : GW z ad o S 62 [] [.int t2, .int t1, .ref (ad t0)] := by
  unfold fX8_readLeap_s62 at hF
  refine g_callVv (As := [.int t1, .int t2]) X dX8_readLeap_62 mlX8_123 (fun l D cyy => tX4_tellLeap (cx_inj X) l D cyy t0 t1 t2 gt0 S) gt0 (by decide) rfl rfl (Nat.le_of_ble_eq_true rfl) ?_
  have hF := Option.some.inj hF
  subst hF
  exact g_vret X dX8_readLeap_65 ho
theorem wX8_readLeap_s47 {z : Mx} {ad : Nat → Nat} {o : Option Value × St} (X : CxOk z ad RX8 cX8_readLeap 4 none 4) (a0 : Nat) (a1 : Nat) (h0 : KT a0 = 8) (h1 : KT a1 = 6) (y2 : Int32) (t0 : Int32)   (S : St) (r : St) (ho : o = (none, r)) (hF : fX8_readLeap_s47 a0 a1 y2 t0 S = some r) : GW z ad o S 47 [(0, .ref (ad a0)), (1, .ref (ad a1)), (2, .int y2)] [.int t0] := by
  unfold fX8_readLeap_s47 at hF
  refine g_istore_n X dX8_readLeap_47 rfl (by decide) (lv' := [(3, .int t0), (0, .ref (ad a0)), (1, .ref (ad a1)), (2, .int y2)]) rfl ?_
  refine g_aload_n X dX8_readLeap_48 1 rfl rfl ?_
  refine g_getR (f := 1) X dX8_readLeap_49 flX8_11 rfl rfl h0 ?_
  refine g_iload_n X dX8_readLeap_52 3 rfl rfl ?_
  obtain ⟨e_12, hF⟩ := oguard hF
  refine g_aaldP X dX8_readLeap_53 (on_8_0 h0) rfl e_12 ?_
  refine g_iload_n X dX8_readLeap_54 0 rfl rfl ?_
  refine g_aload_n X dX8_readLeap_55 2 rfl rfl ?_
  refine g_iconst (v := 1) X dX8_readLeap_56 (by decide) ?_
  refine g_bipush (v := 9) X dX8_readLeap_57 (by decide) ?_
  obtain ⟨r_13, q_14, hF⟩ := obind hF
  refine g_callVi (As := [.int (1 : Int32), .int (9 : Int32)]) X dX8_readLeap_59 mlX8_100 (fun l D cyy => tX6_takeNumber (cx_inj X) l D cyy a1 (1 : Int32) (9 : Int32) h1 S r_13 q_14) h1 (by decide) rfl rfl (Nat.le_of_ble_eq_true rfl) ?_
  exact g_perm [] rfl (wX8_readLeap_s62 X a0 a1 h0 h1 ((a0 + 1) + 2 + y2.toNatClampNeg) t0 r_13.1 (on_p (on_8_0 h0) (inb e_12)) r_13.2 r ho hF)
theorem wX8_readLeap_s36 {z : Mx} {ad : Nat → Nat} {o : Option Value × St} (X : CxOk z ad RX8 cX8_readLeap 4 none 4) (a0 : Nat) (a1 : Nat) (h0 : KT a0 = 8) (h1 : KT a1 = 6) (y2 : Int32)    (S : St) (r : St) (ho : o = (none, r)) (hF : fX8_readLeap_s36 a0 a1 y2  S = some r) : GW z ad o S 36 [(0, .ref (ad a0)), (1, .ref (ad a1)), (2, .int y2)] [] := by
  unfold fX8_readLeap_s36 at hF
  refine g_aload_n X dX8_readLeap_36 1 rfl rfl ?_
  obtain ⟨r_8, q_9, hF⟩ := obind hF
  refine g_callVv (As := []) X dX8_readLeap_37 mlX8_93 (fun l D cyy => tX6_advance (cx_inj X) l D cyy a1 h1 S r_8 q_9) h1 (by decide) rfl rfl (Nat.le_of_ble_eq_true rfl) ?_
  refine g_aload_n X dX8_readLeap_40 1 rfl rfl ?_
  refine g_iconst (v := 1) X dX8_readLeap_41 (by decide) ?_
  refine g_bipush (v := 9) X dX8_readLeap_42 (by decide) ?_
  obtain ⟨r_10, q_11, hF⟩ := obind hF
  refine g_callVi (As := [.int (1 : Int32), .int (9 : Int32)]) X dX8_readLeap_44 mlX8_100 (fun l D cyy => tX6_takeNumber (cx_inj X) l D cyy a1 (1 : Int32) (9 : Int32) h1 r_8 r_10 q_11) h1 (by decide) rfl rfl (Nat.le_of_ble_eq_true rfl) ?_
  exact (wX8_readLeap_s47 X a0 a1 h0 h1 y2 r_10.1 r_10.2 r ho hF)
theorem wX8_readLeap_s9 {z : Mx} {ad : Nat → Nat} {o : Option Value × St} (X : CxOk z ad RX8 cX8_readLeap 4 none 4) (a0 : Nat) (a1 : Nat) (h0 : KT a0 = 8) (h1 : KT a1 = 6)  (t0 : Int32)   (S : St) (r : St) (ho : o = (none, r)) (hF : fX8_readLeap_s9 a0 a1  t0 S = some r) : GW z ad o S 9 [(0, .ref (ad a0)), (1, .ref (ad a1))] [.int t0] := by
  unfold fX8_readLeap_s9 at hF
  refine g_istore_n X dX8_readLeap_9 rfl (by decide) (lv' := [(2, .int t0), (0, .ref (ad a0)), (1, .ref (ad a1))]) rfl ?_
  refine g_aload_n X dX8_readLeap_10 1 rfl rfl ?_
  refine g_iload_n X dX8_readLeap_11 0 rfl rfl ?_
  refine g_callVi (As := [.int t0]) X dX8_readLeap_12 mlX8_116 (fun l D cyy => tX8_hasParish (cx_inj X) l D cyy a0 t0 h0 S) h0 (by decide) rfl rfl (Nat.le_of_ble_eq_true rfl) ?_
  refine g_if_ne (tgt := 19) X dX8_readLeap_15 (by decide) (fun c_5 => ?_) (fun c_5 => ?_)
  · rw [if_neg c_5] at hF
    refine g_aload_n X dX8_readLeap_19 1 rfl rfl ?_
    refine g_getR (f := 1) X dX8_readLeap_20 flX8_11 rfl rfl h0 ?_
    refine g_iload_n X dX8_readLeap_23 0 rfl rfl ?_
    obtain ⟨e_6, hF⟩ := oguard hF
    refine g_aaldP X dX8_readLeap_24 (on_8_0 h0) rfl e_6 ?_
    refine g_getI X dX8_readLeap_25 flX8_120 rfl (on_p (on_8_0 h0) (inb e_6)) ?_
    refine g_if_le (tgt := 36) X dX8_readLeap_28 (by decide) (fun c_7 => ?_) (fun c_7 => ?_)
    · rw [if_pos c_7] at hF
      exact g_perm [1, 2, 0] rfl (wX8_readLeap_s36 X a0 a1 h0 h1 t0 S r ho hF)
    · rw [if_neg c_7] at hF
      refine g_aload_n X dX8_readLeap_31 2 rfl rfl ?_
      refine g_iconst (v := 3) X dX8_readLeap_32 (by decide) ?_
      refine g_callVv (As := [.int (3 : Int32)]) X dX8_readLeap_33 mlX8_90 (fun l D cyy => tX6_fail (cx_inj X) l D cyy a1 (3 : Int32) h1 S) h1 (by decide) rfl rfl (Nat.le_of_ble_eq_true rfl) ?_
      exact g_perm [1, 2, 0] rfl (wX8_readLeap_s36 X a0 a1 h0 h1 t0 (fX6_fail a1 (3 : Int32) S) r ho hF)
  · rw [if_pos c_5] at hF
    have hF := Option.some.inj hF
    subst hF
    exact g_vret X dX8_readLeap_18 ho
theorem wX8_readLeap {z : Mx} {ad : Nat → Nat} {o : Option Value × St} (X : CxOk z ad RX8 cX8_readLeap 4 none 4) (a0 : Nat) (a1 : Nat) (h0 : KT a0 = 8) (h1 : KT a1 = 6) (S : St) (r : St) (ho : o = (none, r)) (hF : fX8_readLeap a0 a1 S = some r) : GW z ad o S 0 [(0, .ref (ad a0)), (1, .ref (ad a1))] [] := by
  unfold fX8_readLeap at hF
  refine g_aload_n X dX8_readLeap_0 1 rfl rfl ?_
  obtain ⟨r_1, q_2, hF⟩ := obind hF
  refine g_callVv (As := []) X dX8_readLeap_1 mlX8_93 (fun l D cyy => tX6_advance (cx_inj X) l D cyy a1 h1 S r_1 q_2) h1 (by decide) rfl rfl (Nat.le_of_ble_eq_true rfl) ?_
  refine g_aload_n X dX8_readLeap_4 0 rfl rfl ?_
  refine g_aload_n X dX8_readLeap_5 1 rfl rfl ?_
  obtain ⟨r_3, q_4, hF⟩ := obind hF
  refine g_callVi (As := [.ref (ad a1)]) X dX8_readLeap_6 mlX8_112 (fun l D cyy => tX8_parishAt (cx_inj X) l D cyy a0 a1 h0 h1 r_1 r_3 q_4) h0 (by decide) rfl rfl (Nat.le_of_ble_eq_true rfl) ?_
  exact (wX8_readLeap_s9 X a0 a1 h0 h1 r_3.1 r_3.2 r ho hF)
theorem tX8_readLeap {ad : Nat → Nat} (hI : Inj ad) (l : Launch) (D : va_G) (cyy : Nat → ClassId) (a0 : Nat) (a1 : Nat) (h0 : KT a0 = 8) (h1 : KT a1 = 6) (S : St) (r : St) (hF : fX8_readLeap a0 a1 S = some r) : OkM l yX8_readLeap cX8_readLeap 4 none 4 ad D cyy [.ref (ad a0), .ref (ad a1)] S (none, r) := okM_of hI (by decide) (inr_13 _ (List.mem_of_getElem? (i := 23) rfl)) (by show _ ≤ 4; exact Nat.le_of_ble_eq_true rfl) (fun z X => wX8_readLeap X a0 a1 h0 h1 S r rfl hF)
def fX8_readFeast_s103 (a0 : Nat) (a1 : Nat)   (S : St) : Option St :=
  some (sI S 8 3 a0 ((gI S 8 3 a0) + (1 : Int32)))
def fX8_readFeast_s100 (a0 : Nat) (a1 : Nat)  (t0 : Nat) (t1 : Int32) (S : St) : Option St :=
  fX8_readFeast_s103 a0 a1 (sI S 3 3 t0 t1)
def fX8_readFeast_s88 (a0 : Nat) (a1 : Nat) (b2 : Nat) (b3 : Nat)  (S : St) : Option St :=
  (fX6_takeNumber a1 (0 : Int32) ((gI S 4 3 b3) - (1 : Int32)) S).bind fun r_15 =>
  fX8_readFeast_s100 a0 a1 b2 r_15.1 r_15.2
def fX8_readFeast_s85 (a0 : Nat) (a1 : Nat) (b2 : Nat) (b3 : Nat) (t0 : Nat) (t1 : Int32) (S : St) : Option St :=
  fX8_readFeast_s88 a0 a1 b2 b3 (sI S 3 2 t0 t1)
def fX8_readFeast_s73 (a0 : Nat) (a1 : Nat) (b2 : Nat) (b3 : Nat)  (S : St) : Option St :=
  (fX6_takeNumber a1 (0 : Int32) ((gI S 4 2 b3) - (1 : Int32)) S).bind fun r_13 =>
  fX8_readFeast_s85 a0 a1 b2 b3 b2 r_13.1 r_13.2
def fX8_readFeast_s47 (a0 : Nat) (a1 : Nat) (b2 : Nat)  (S : St) : Option St :=
  if (fX8_hasParish a0 (gI S 3 1 b2) S) = 0 then (some S) else
  ((fX6_advance a1 S).bind fun r_10 =>
  if ((gI r_10 3 1 b2) < 0 ∨ 5 ≤ (gI r_10 3 1 b2).toNatClampNeg) then none else
  fX8_readFeast_s73 a0 a1 b2 ((a0 + 1) + 2 + (gI r_10 3 1 b2).toNatClampNeg) r_10)
def fX8_readFeast_s44 (a0 : Nat) (a1 : Nat) (b2 : Nat) (t0 : Nat) (t1 : Int32) (S : St) : Option St :=
  fX8_readFeast_s47 a0 a1 b2 (sI S 3 1 t0 t1)
def fX8_readFeast_s38 (a0 : Nat) (a1 : Nat) (b2 : Nat)  (S : St) : Option St :=
  (fX8_parishAt a0 a1 S).bind fun r_7 =>
  fX8_readFeast_s44 a0 a1 b2 b2 r_7.1 r_7.2
def fX8_readFeast_s35 (a0 : Nat) (a1 : Nat) (b2 : Nat) (t0 : Nat) (t1 : Int64) (S : St) : Option St :=
  fX8_readFeast_s38 a0 a1 b2 (sJ S 3 0 t0 t1)
def fX8_readFeast_s29 (a0 : Nat) (a1 : Nat) (b2 : Nat)  (S : St) : Option St :=
  (fX8_takeNewName a0 a1 S).bind fun r_5 =>
  fX8_readFeast_s35 a0 a1 b2 b2 r_5.1 r_5.2
def fX8_readFeast (a0 : Nat) (a1 : Nat) (S : St) : Option St :=
  if (gI S 8 3 a0) < (6 : Int32) then ((fX6_advance a1 S).bind fun r_2 =>
  if ((gI r_2 8 3 a0) < 0 ∨ 6 ≤ (gI r_2 8 3 a0).toNatClampNeg) then none else
  fX8_readFeast_s29 a0 a1 ((a0 + 2) + 6 + (gI r_2 8 3 a0).toNatClampNeg) r_2) else
  (some (fX6_fail a1 (4 : Int32) S))
theorem wX8_readFeast_s103 {z : Mx} {ad : Nat → Nat} {o : Option Value × St} (X : CxOk z ad RX8 cX8_readFeast 4 none 4) (a0 : Nat) (a1 : Nat) (h0 : KT a0 = 8) (h1 : KT a1 = 6)     (S : St) (r : St) (ho : o = (none, r)) (hF : fX8_readFeast_s103 a0 a1   S = some r) : GW z ad o S 103 [(0, .ref (ad a0))] [] := by
  unfold fX8_readFeast_s103 at hF
  refine g_aload_n X dX8_readFeast_103 0 rfl rfl ?_
  refine g_dup (a := .ref (ad a0)) X dX8_readFeast_104 rfl ?_
  refine g_getI X dX8_readFeast_105 flX8_35 rfl h0 ?_
  refine g_iconst (v := 1) X dX8_readFeast_108 (by decide) ?_
  refine g_iadd X dX8_readFeast_109 ?_
  refine g_putI X dX8_readFeast_110 fpX8_35 rfl rfl rfl h0 ?_
  have hF := Option.some.inj hF
  subst hF
  exact g_vret X dX8_readFeast_113 ho
theorem wX8_readFeast_s100 {z : Mx} {ad : Nat → Nat} {o : Option Value × St} (X : CxOk z ad RX8 cX8_readFeast 4 none 4) (a0 : Nat) (a1 : Nat) (h0 : KT a0 = 8) (h1 : KT a1 = 6)  (t0 : Nat) (t1 : Int32)  (gt0 : KT t0 = 3) (S : St) (r : St) (ho : o = (none, r)) (hF : fX8_readFeast_s100 a0 a1  t0 t1 S = some r) : GW z ad o S 100 [(0, .ref (ad a0))] [.int t1, .ref (ad t0)] := by
  unfold fX8_readFeast_s100 at hF
  refine g_putI X dX8_readFeast_100 fpX8_142 rfl rfl rfl gt0 ?_
  exact (wX8_readFeast_s103 X a0 a1 h0 h1 (sI S 3 3 t0 t1) r ho hF)
theorem wX8_readFeast_s88 {z : Mx} {ad : Nat → Nat} {o : Option Value × St} (X : CxOk z ad RX8 cX8_readFeast 4 none 4) (a0 : Nat) (a1 : Nat) (h0 : KT a0 = 8) (h1 : KT a1 = 6) (b2 : Nat) (b3 : Nat)  (g2 : KT b2 = 3) (g3 : KT b3 = 4)  (S : St) (r : St) (ho : o = (none, r)) (hF : fX8_readFeast_s88 a0 a1 b2 b3  S = some r) : GW z ad o S 88 [(0, .ref (ad a0)), (1, .ref (ad a1)), (2, .ref (ad b2)), (3, .ref (ad b3))] [] := by
  unfold fX8_readFeast_s88 at hF
  refine g_aload_n X dX8_readFeast_88 2 rfl rfl ?_
  refine g_aload_n X dX8_readFeast_89 1 rfl rfl ?_
  refine g_iconst (v := 0) X dX8_readFeast_90 (by decide) ?_
  refine g_aload_n X dX8_readFeast_91 3 rfl rfl ?_
  refine g_getI X dX8_readFeast_92 flX8_139 rfl g3 ?_
  refine g_iconst (v := 1) X dX8_readFeast_95 (by decide) ?_
  refine g_isub X dX8_readFeast_96 ?_
  obtain ⟨r_15, q_16, hF⟩ := obind hF
  refine g_callVi (As := [.int (0 : Int32), .int ((gI S 4 3 b3) - (1 : Int32))]) X dX8_readFeast_97 mlX8_100 (fun l D cyy => tX6_takeNumber (cx_inj X) l D cyy a1 (0 : Int32) ((gI S 4 3 b3) - (1 : Int32)) h1 S r_15 q_16) h1 (by decide) rfl rfl (Nat.le_of_ble_eq_true rfl) ?_
  exact g_perm [0] rfl (wX8_readFeast_s100 X a0 a1 h0 h1 b2 r_15.1 g2 r_15.2 r ho hF)
theorem wX8_readFeast_s85 {z : Mx} {ad : Nat → Nat} {o : Option Value × St} (X : CxOk z ad RX8 cX8_readFeast 4 none 4) (a0 : Nat) (a1 : Nat) (h0 : KT a0 = 8) (h1 : KT a1 = 6) (b2 : Nat) (b3 : Nat) (t0 : Nat) (t1 : Int32) (g2 : KT b2 = 3) (g3 : KT b3 = 4) (gt0 : KT t0 = 3) (S : St) (r : St) (ho : o = (none, r)) (hF : fX8_readFeast_s85 a0 a1 b2 b3 t0 t1 S = some r) : GW z ad o S 85 [(0, .ref (ad a0)), (1, .ref (ad a1)), (2, .ref (ad b2)), (3, .ref (ad b3))] [.int t1, .ref (ad t0)] := by
  unfold fX8_readFeast_s85 at hF
  refine g_putI X dX8_readFeast_85 fpX8_136 rfl rfl rfl gt0 ?_
  exact (wX8_readFeast_s88 X a0 a1 h0 h1 b2 b3 g2 g3 (sI S 3 2 t0 t1) r ho hF)
theorem wX8_readFeast_s73 {z : Mx} {ad : Nat → Nat} {o : Option Value × St} (X : CxOk z ad RX8 cX8_readFeast 4 none 4) (a0 : Nat) (a1 : Nat) (h0 : KT a0 = 8) (h1 : KT a1 = 6) (b2 : Nat) (b3 : Nat)  (g2 : KT b2 = 3) (g3 : KT b3 = 4)  (S : St) (r : St) (ho : o = (none, r)) (hF : fX8_readFeast_s73 a0 a1 b2 b3  S = some r) : GW z ad o S 73 [(0, .ref (ad a0)), (1, .ref (ad a1)), (2, .ref (ad b2)), (3, .ref (ad b3))] [] := by
  unfold fX8_readFeast_s73 at hF
  refine g_aload_n X dX8_readFeast_73 2 rfl rfl ?_
  refine g_aload_n X dX8_readFeast_74 1 rfl rfl ?_
  refine g_iconst (v := 0) X dX8_readFeast_75 (by decide) ?_
  refine g_aload_n X dX8_readFeast_76 3 rfl rfl ?_
  refine g_getI X dX8_readFeast_77 flX8_133 rfl g3 ?_
  refine g_iconst (v := 1) X dX8_readFeast_80 (by decide) ?_
  refine g_isub X dX8_readFeast_81 ?_
  obtain ⟨r_13, q_14, hF⟩ := obind hF
  refine g_callVi (As := [.int (0 : Int32), .int ((gI S 4 2 b3) - (1 : Int32))]) X dX8_readFeast_82 mlX8_100 (fun l D cyy => tX6_takeNumber (cx_inj X) l D cyy a1 (0 : Int32) ((gI S 4 2 b3) - (1 : Int32)) h1 S r_13 q_14) h1 (by decide) rfl rfl (Nat.le_of_ble_eq_true rfl) ?_
  exact (wX8_readFeast_s85 X a0 a1 h0 h1 b2 b3 b2 r_13.1 g2 g3 g2 r_13.2 r ho hF)
theorem wX8_readFeast_s47 {z : Mx} {ad : Nat → Nat} {o : Option Value × St} (X : CxOk z ad RX8 cX8_readFeast 4 none 4) (a0 : Nat) (a1 : Nat) (h0 : KT a0 = 8) (h1 : KT a1 = 6) (b2 : Nat)  (g2 : KT b2 = 3)  (S : St) (r : St) (ho : o = (none, r)) (hF : fX8_readFeast_s47 a0 a1 b2  S = some r) : GW z ad o S 47 [(0, .ref (ad a0)), (1, .ref (ad a1)), (2, .ref (ad b2))] [] := by
  unfold fX8_readFeast_s47 at hF
  refine g_aload_n X dX8_readFeast_47 0 rfl rfl ?_
  refine g_aload_n X dX8_readFeast_48 2 rfl rfl ?_
  refine g_getI X dX8_readFeast_49 flX8_131 rfl g2 ?_
  refine g_callVi (As := [.int (gI S 3 1 b2)]) X dX8_readFeast_52 mlX8_116 (fun l D cyy => tX8_hasParish (cx_inj X) l D cyy a0 (gI S 3 1 b2) h0 S) h0 (by decide) rfl rfl (Nat.le_of_ble_eq_true rfl) ?_
  refine g_if_ne (tgt := 59) X dX8_readFeast_55 (by decide) (fun c_9 => ?_) (fun c_9 => ?_)
  · rw [if_neg c_9] at hF
    refine g_aload_n X dX8_readFeast_59 1 rfl rfl ?_
    obtain ⟨r_10, q_11, hF⟩ := obind hF
    refine g_callVv (As := []) X dX8_readFeast_60 mlX8_93 (fun l D cyy => tX6_advance (cx_inj X) l D cyy a1 h1 S r_10 q_11) h1 (by decide) rfl rfl (Nat.le_of_ble_eq_true rfl) ?_
    refine g_aload_n X dX8_readFeast_63 0 rfl rfl ?_
    refine g_getR (f := 1) X dX8_readFeast_64 flX8_11 rfl rfl h0 ?_
    refine g_aload_n X dX8_readFeast_67 2 rfl rfl ?_
    refine g_getI X dX8_readFeast_68 flX8_131 rfl g2 ?_
    obtain ⟨e_12, hF⟩ := oguard hF
    refine g_aaldP X dX8_readFeast_71 (on_8_0 h0) rfl e_12 ?_
    refine g_astore_n X dX8_readFeast_72 rfl (by decide) (lv' := [(3, .ref (ad ((a0 + 1) + 2 + (gI r_10 3 1 b2).toNatClampNeg))), (0, .ref (ad a0)), (1, .ref (ad a1)), (2, .ref (ad b2))]) rfl ?_
    exact g_perm [1, 2, 3, 0] rfl (wX8_readFeast_s73 X a0 a1 h0 h1 b2 ((a0 + 1) + 2 + (gI r_10 3 1 b2).toNatClampNeg) g2 (on_p (on_8_0 h0) (inb e_12)) r_10 r ho hF)
  · rw [if_pos c_9] at hF
    have hF := Option.some.inj hF
    subst hF
    exact g_vret X dX8_readFeast_58 ho
theorem wX8_readFeast_s44 {z : Mx} {ad : Nat → Nat} {o : Option Value × St} (X : CxOk z ad RX8 cX8_readFeast 4 none 4) (a0 : Nat) (a1 : Nat) (h0 : KT a0 = 8) (h1 : KT a1 = 6) (b2 : Nat) (t0 : Nat) (t1 : Int32) (g2 : KT b2 = 3) (gt0 : KT t0 = 3) (S : St) (r : St) (ho : o = (none, r)) (hF : fX8_readFeast_s44 a0 a1 b2 t0 t1 S = some r) : GW z ad o S 44 [(0, .ref (ad a0)), (1, .ref (ad a1)), (2, .ref (ad b2))] [.int t1, .ref (ad t0)] := by
  unfold fX8_readFeast_s44 at hF
  refine g_putI X dX8_readFeast_44 fpX8_131 rfl rfl rfl gt0 ?_
  exact (wX8_readFeast_s47 X a0 a1 h0 h1 b2 g2 (sI S 3 1 t0 t1) r ho hF)
theorem wX8_readFeast_s38 {z : Mx} {ad : Nat → Nat} {o : Option Value × St} (X : CxOk z ad RX8 cX8_readFeast 4 none 4) (a0 : Nat) (a1 : Nat) (h0 : KT a0 = 8) (h1 : KT a1 = 6) (b2 : Nat)  (g2 : KT b2 = 3)  (S : St) (r : St) (ho : o = (none, r)) (hF : fX8_readFeast_s38 a0 a1 b2  S = some r) : GW z ad o S 38 [(0, .ref (ad a0)), (1, .ref (ad a1)), (2, .ref (ad b2))] [] := by
  unfold fX8_readFeast_s38 at hF
  refine g_aload_n X dX8_readFeast_38 2 rfl rfl ?_
  refine g_aload_n X dX8_readFeast_39 0 rfl rfl ?_
  refine g_aload_n X dX8_readFeast_40 1 rfl rfl ?_
  obtain ⟨r_7, q_8, hF⟩ := obind hF
  refine g_callVi (As := [.ref (ad a1)]) X dX8_readFeast_41 mlX8_112 (fun l D cyy => tX8_parishAt (cx_inj X) l D cyy a0 a1 h0 h1 S r_7 q_8) h0 (by decide) rfl rfl (Nat.le_of_ble_eq_true rfl) ?_
  exact (wX8_readFeast_s44 X a0 a1 h0 h1 b2 b2 r_7.1 g2 g2 r_7.2 r ho hF)
theorem wX8_readFeast_s35 {z : Mx} {ad : Nat → Nat} {o : Option Value × St} (X : CxOk z ad RX8 cX8_readFeast 4 none 4) (a0 : Nat) (a1 : Nat) (h0 : KT a0 = 8) (h1 : KT a1 = 6) (b2 : Nat) (t0 : Nat) (t1 : Int64) (g2 : KT b2 = 3) (gt0 : KT t0 = 3) (S : St) (r : St) (ho : o = (none, r)) (hF : fX8_readFeast_s35 a0 a1 b2 t0 t1 S = some r) : GW z ad o S 35 [(0, .ref (ad a0)), (1, .ref (ad a1)), (2, .ref (ad b2))] [.long t1, .ref (ad t0)] := by
  unfold fX8_readFeast_s35 at hF
  refine g_putJ X dX8_readFeast_35 fpX8_127 rfl gt0 ?_
  exact (wX8_readFeast_s38 X a0 a1 h0 h1 b2 g2 (sJ S 3 0 t0 t1) r ho hF)
theorem wX8_readFeast_s29 {z : Mx} {ad : Nat → Nat} {o : Option Value × St} (X : CxOk z ad RX8 cX8_readFeast 4 none 4) (a0 : Nat) (a1 : Nat) (h0 : KT a0 = 8) (h1 : KT a1 = 6) (b2 : Nat)  (g2 : KT b2 = 3)  (S : St) (r : St) (ho : o = (none, r)) (hF : fX8_readFeast_s29 a0 a1 b2  S = some r) : GW z ad o S 29 [(0, .ref (ad a0)), (1, .ref (ad a1)), (2, .ref (ad b2))] [] := by
  unfold fX8_readFeast_s29 at hF
  refine g_aload_n X dX8_readFeast_29 2 rfl rfl ?_
  refine g_aload_n X dX8_readFeast_30 0 rfl rfl ?_
  refine g_aload_n X dX8_readFeast_31 1 rfl rfl ?_
  obtain ⟨r_5, q_6, hF⟩ := obind hF
  refine g_callVl (As := [.ref (ad a1)]) X dX8_readFeast_32 mlX8_96 (fun l D cyy => tX8_takeNewName (cx_inj X) l D cyy a0 a1 h0 h1 S r_5 q_6) h0 (by decide) rfl rfl (Nat.le_of_ble_eq_true rfl) ?_
  exact (wX8_readFeast_s35 X a0 a1 h0 h1 b2 b2 r_5.1 g2 g2 r_5.2 r ho hF)
theorem wX8_readFeast {z : Mx} {ad : Nat → Nat} {o : Option Value × St} (X : CxOk z ad RX8 cX8_readFeast 4 none 4) (a0 : Nat) (a1 : Nat) (h0 : KT a0 = 8) (h1 : KT a1 = 6) (S : St) (r : St) (ho : o = (none, r)) (hF : fX8_readFeast a0 a1 S = some r) : GW z ad o S 0 [(0, .ref (ad a0)), (1, .ref (ad a1))] [] := by
  unfold fX8_readFeast at hF
  refine g_aload_n X dX8_readFeast_0 0 rfl rfl ?_
  refine g_getI X dX8_readFeast_1 flX8_35 rfl h0 ?_
  refine g_bipush (v := 6) X dX8_readFeast_4 (by decide) ?_
  refine g_icmp_lt (tgt := 15) X dX8_readFeast_6 (by decide) (fun c_1 => ?_) (fun c_1 => ?_)
  · rw [if_pos c_1] at hF
    refine g_aload_n X dX8_readFeast_15 1 rfl rfl ?_
    obtain ⟨r_2, q_3, hF⟩ := obind hF
    refine g_callVv (As := []) X dX8_readFeast_16 mlX8_93 (fun l D cyy => tX6_advance (cx_inj X) l D cyy a1 h1 S r_2 q_3) h1 (by decide) rfl rfl (Nat.le_of_ble_eq_true rfl) ?_
    refine g_aload_n X dX8_readFeast_19 0 rfl rfl ?_
    refine g_getR (f := 2) X dX8_readFeast_20 flX8_19 rfl rfl h0 ?_
    refine g_aload_n X dX8_readFeast_23 0 rfl rfl ?_
    refine g_getI X dX8_readFeast_24 flX8_35 rfl h0 ?_
    obtain ⟨e_4, hF⟩ := oguard hF
    refine g_aaldF X dX8_readFeast_27 (on_8_1 h0) rfl e_4 ?_
    refine g_astore_n X dX8_readFeast_28 rfl (by decide) (lv' := [(2, .ref (ad ((a0 + 2) + 6 + (gI r_2 8 3 a0).toNatClampNeg))), (0, .ref (ad a0)), (1, .ref (ad a1))]) rfl ?_
    exact g_perm [1, 2, 0] rfl (wX8_readFeast_s29 X a0 a1 h0 h1 ((a0 + 2) + 6 + (gI r_2 8 3 a0).toNatClampNeg) (on_f (on_8_1 h0) (inb e_4)) r_2 r ho hF)
  · rw [if_neg c_1] at hF
    refine g_aload_n X dX8_readFeast_9 1 rfl rfl ?_
    refine g_iconst (v := 4) X dX8_readFeast_10 (by decide) ?_
    refine g_callVv (As := [.int (4 : Int32)]) X dX8_readFeast_11 mlX8_90 (fun l D cyy => tX6_fail (cx_inj X) l D cyy a1 (4 : Int32) h1 S) h1 (by decide) rfl rfl (Nat.le_of_ble_eq_true rfl) ?_
    have hF := Option.some.inj hF
    subst hF
    exact g_vret X dX8_readFeast_14 ho
theorem tX8_readFeast {ad : Nat → Nat} (hI : Inj ad) (l : Launch) (D : va_G) (cyy : Nat → ClassId) (a0 : Nat) (a1 : Nat) (h0 : KT a0 = 8) (h1 : KT a1 = 6) (S : St) (r : St) (hF : fX8_readFeast a0 a1 S = some r) : OkM l yX8_readFeast cX8_readFeast 4 none 4 ad D cyy [.ref (ad a0), .ref (ad a1)] S (none, r) := okM_of hI (by decide) (inr_14 _ (List.mem_of_getElem? (i := 15) rfl)) (by show _ ≤ 4; exact Nat.le_of_ble_eq_true rfl) (fun z X => wX8_readFeast X a0 a1 h0 h1 S r rfl hF)
def fX8_readSun_s41 (a0 : Nat) (a1 : Nat)  (t0 : Nat) (t1 : Int32) (S : St) : Option St :=
  some (sI S 8 5 t0 t1)
def fX8_readSun_s33 (a0 : Nat) (a1 : Nat)   (S : St) : Option St :=
  (fX6_takeNumber a1 (1 : Int32) (30 : Int32) S).bind fun r_6 =>
  fX8_readSun_s41 a0 a1 a0 r_6.1 r_6.2
def fX8_readSun_s30 (a0 : Nat) (a1 : Nat)  (t0 : Nat) (t1 : Int32) (S : St) : Option St :=
  fX8_readSun_s33 a0 a1 (sI S 8 4 t0 t1)
def fX8_readSun_s21 (a0 : Nat) (a1 : Nat)   (S : St) : Option St :=
  (fX6_takeNumber a1 (1 : Int32) (999 : Int32) S).bind fun r_4 =>
  fX8_readSun_s30 a0 a1 a0 r_4.1 r_4.2
def fX8_readSun_s12 (a0 : Nat) (a1 : Nat)   (S : St) : Option St :=
  (fX6_advance a1 S).bind fun r_2 =>
  fX8_readSun_s21 a0 a1 (sI r_2 8 6 a0 (1 : Int32))
def fX8_readSun (a0 : Nat) (a1 : Nat) (S : St) : Option St :=
  if (gI S 8 6 a0) = 0 then (fX8_readSun_s12 a0 a1 S) else
  (fX8_readSun_s12 a0 a1 (fX6_fail a1 (3 : Int32) S))
theorem wX8_readSun_s41 {z : Mx} {ad : Nat → Nat} {o : Option Value × St} (X : CxOk z ad RX8 cX8_readSun 2 none 4) (a0 : Nat) (a1 : Nat) (h0 : KT a0 = 8) (h1 : KT a1 = 6)  (t0 : Nat) (t1 : Int32)  (gt0 : KT t0 = 8) (S : St) (r : St) (ho : o = (none, r)) (hF : fX8_readSun_s41 a0 a1  t0 t1 S = some r) : GW z ad o S 41 [] [.int t1, .ref (ad t0)] := by
  unfold fX8_readSun_s41 at hF
  refine g_putI X dX8_readSun_41 fpX8_27 rfl rfl rfl gt0 ?_
  have hF := Option.some.inj hF
  subst hF
  exact g_vret X dX8_readSun_44 ho
theorem wX8_readSun_s33 {z : Mx} {ad : Nat → Nat} {o : Option Value × St} (X : CxOk z ad RX8 cX8_readSun 2 none 4) (a0 : Nat) (a1 : Nat) (h0 : KT a0 = 8) (h1 : KT a1 = 6)     (S : St) (r : St) (ho : o = (none, r)) (hF : fX8_readSun_s33 a0 a1   S = some r) : GW z ad o S 33 [(0, .ref (ad a0)), (1, .ref (ad a1))] [] := by
  unfold fX8_readSun_s33 at hF
  refine g_aload_n X dX8_readSun_33 0 rfl rfl ?_
  refine g_aload_n X dX8_readSun_34 1 rfl rfl ?_
  refine g_iconst (v := 1) X dX8_readSun_35 (by decide) ?_
  refine g_bipush (v := 30) X dX8_readSun_36 (by decide) ?_
  obtain ⟨r_6, q_7, hF⟩ := obind hF
  refine g_callVi (As := [.int (1 : Int32), .int (30 : Int32)]) X dX8_readSun_38 mlX8_100 (fun l D cyy => tX6_takeNumber (cx_inj X) l D cyy a1 (1 : Int32) (30 : Int32) h1 S r_6 q_7) h1 (by decide) rfl rfl (Nat.le_of_ble_eq_true rfl) ?_
  exact g_perm [] rfl (wX8_readSun_s41 X a0 a1 h0 h1 a0 r_6.1 h0 r_6.2 r ho hF)
theorem wX8_readSun_s30 {z : Mx} {ad : Nat → Nat} {o : Option Value × St} (X : CxOk z ad RX8 cX8_readSun 2 none 4) (a0 : Nat) (a1 : Nat) (h0 : KT a0 = 8) (h1 : KT a1 = 6)  (t0 : Nat) (t1 : Int32)  (gt0 : KT t0 = 8) (S : St) (r : St) (ho : o = (none, r)) (hF : fX8_readSun_s30 a0 a1  t0 t1 S = some r) : GW z ad o S 30 [(0, .ref (ad a0)), (1, .ref (ad a1))] [.int t1, .ref (ad t0)] := by
  unfold fX8_readSun_s30 at hF
  refine g_putI X dX8_readSun_30 fpX8_23 rfl rfl rfl gt0 ?_
  exact (wX8_readSun_s33 X a0 a1 h0 h1 (sI S 8 4 t0 t1) r ho hF)
theorem wX8_readSun_s21 {z : Mx} {ad : Nat → Nat} {o : Option Value × St} (X : CxOk z ad RX8 cX8_readSun 2 none 4) (a0 : Nat) (a1 : Nat) (h0 : KT a0 = 8) (h1 : KT a1 = 6)     (S : St) (r : St) (ho : o = (none, r)) (hF : fX8_readSun_s21 a0 a1   S = some r) : GW z ad o S 21 [(0, .ref (ad a0)), (1, .ref (ad a1))] [] := by
  unfold fX8_readSun_s21 at hF
  refine g_aload_n X dX8_readSun_21 0 rfl rfl ?_
  refine g_aload_n X dX8_readSun_22 1 rfl rfl ?_
  refine g_iconst (v := 1) X dX8_readSun_23 (by decide) ?_
  refine g_sipush (v := 999) X dX8_readSun_24 (by decide) ?_
  obtain ⟨r_4, q_5, hF⟩ := obind hF
  refine g_callVi (As := [.int (1 : Int32), .int (999 : Int32)]) X dX8_readSun_27 mlX8_100 (fun l D cyy => tX6_takeNumber (cx_inj X) l D cyy a1 (1 : Int32) (999 : Int32) h1 S r_4 q_5) h1 (by decide) rfl rfl (Nat.le_of_ble_eq_true rfl) ?_
  exact (wX8_readSun_s30 X a0 a1 h0 h1 a0 r_4.1 h0 r_4.2 r ho hF)
theorem wX8_readSun_s12 {z : Mx} {ad : Nat → Nat} {o : Option Value × St} (X : CxOk z ad RX8 cX8_readSun 2 none 4) (a0 : Nat) (a1 : Nat) (h0 : KT a0 = 8) (h1 : KT a1 = 6)     (S : St) (r : St) (ho : o = (none, r)) (hF : fX8_readSun_s12 a0 a1   S = some r) : GW z ad o S 12 [(0, .ref (ad a0)), (1, .ref (ad a1))] [] := by
  unfold fX8_readSun_s12 at hF
  refine g_aload_n X dX8_readSun_12 1 rfl rfl ?_
  obtain ⟨r_2, q_3, hF⟩ := obind hF
  refine g_callVv (As := []) X dX8_readSun_13 mlX8_93 (fun l D cyy => tX6_advance (cx_inj X) l D cyy a1 h1 S r_2 q_3) h1 (by decide) rfl rfl (Nat.le_of_ble_eq_true rfl) ?_
  refine g_aload_n X dX8_readSun_16 0 rfl rfl ?_
  refine g_iconst (v := 1) X dX8_readSun_17 (by decide) ?_
  refine g_putI X dX8_readSun_18 fpX8_45 rfl (by decide) (by decide) h0 ?_
  exact (wX8_readSun_s21 X a0 a1 h0 h1 (sI r_2 8 6 a0 (1 : Int32)) r ho hF)
theorem wX8_readSun {z : Mx} {ad : Nat → Nat} {o : Option Value × St} (X : CxOk z ad RX8 cX8_readSun 2 none 4) (a0 : Nat) (a1 : Nat) (h0 : KT a0 = 8) (h1 : KT a1 = 6) (S : St) (r : St) (ho : o = (none, r)) (hF : fX8_readSun a0 a1 S = some r) : GW z ad o S 0 [(0, .ref (ad a0)), (1, .ref (ad a1))] [] := by
  unfold fX8_readSun at hF
  refine g_aload_n X dX8_readSun_0 0 rfl rfl ?_
  refine g_getI X dX8_readSun_1 flX8_45 rfl h0 ?_
  refine g_if_eq (tgt := 12) X dX8_readSun_4 (by decide) (fun c_1 => ?_) (fun c_1 => ?_)
  · rw [if_pos c_1] at hF
    exact (wX8_readSun_s12 X a0 a1 h0 h1 S r ho hF)
  · rw [if_neg c_1] at hF
    refine g_aload_n X dX8_readSun_7 1 rfl rfl ?_
    refine g_iconst (v := 3) X dX8_readSun_8 (by decide) ?_
    refine g_callVv (As := [.int (3 : Int32)]) X dX8_readSun_9 mlX8_90 (fun l D cyy => tX6_fail (cx_inj X) l D cyy a1 (3 : Int32) h1 S) h1 (by decide) rfl rfl (Nat.le_of_ble_eq_true rfl) ?_
    exact (wX8_readSun_s12 X a0 a1 h0 h1 (fX6_fail a1 (3 : Int32) S) r ho hF)
theorem tX8_readSun {ad : Nat → Nat} (hI : Inj ad) (l : Launch) (D : va_G) (cyy : Nat → ClassId) (a0 : Nat) (a1 : Nat) (h0 : KT a0 = 8) (h1 : KT a1 = 6) (S : St) (r : St) (hF : fX8_readSun a0 a1 S = some r) : OkM l yX8_readSun cX8_readSun 2 none 4 ad D cyy [.ref (ad a0), .ref (ad a1)] S (none, r) := okM_of hI (by decide) (inr_14 _ (List.mem_of_getElem? (i := 22) rfl)) (by show _ ≤ 2; exact Nat.le_of_ble_eq_true rfl) (fun z X => wX8_readSun X a0 a1 h0 h1 S r rfl hF)
def fX8_readLine (a0 : Nat) (a1 : Nat) (S : St) : Option St :=
  if (fX6_isAt a1 (123563833652072 : Int64) S) = 0 then (if (fX6_isAt a1 (1818583408 : Int64) S) = 0 then (if (fX6_isAt a1 (439787549556 : Int64) S) = 0 then (if (fX6_isAt a1 (7566702 : Int64) S) = 0 then (some (fX6_fail a1 (1 : Int32) S)) else
  ((fX8_readSun a0 a1 S).bind fun r_5 =>
  some r_5)) else
  ((fX8_readFeast a0 a1 S).bind fun r_7 =>
  some r_7)) else
  ((fX8_readLeap a0 a1 S).bind fun r_9 =>
  some r_9)) else
  ((fX8_readParish a0 a1 S).bind fun r_11 =>
  some r_11)
theorem wX8_readLine {z : Mx} {ad : Nat → Nat} {o : Option Value × St} (X : CxOk z ad RX8 cX8_readLine 2 none 5) (a0 : Nat) (a1 : Nat) (h0 : KT a0 = 8) (h1 : KT a1 = 6) (S : St) (r : St) (ho : o = (none, r)) (hF : fX8_readLine a0 a1 S = some r) : GW z ad o S 0 [(0, .ref (ad a0)), (1, .ref (ad a1))] [] := by
  unfold fX8_readLine at hF
  refine g_aload_n X dX8_readLine_0 1 rfl rfl ?_
  refine g_ldc2 (v := 123563833652072) X dX8_readLine_1 (inr_11 _ (List.mem_of_getElem? (i := 14) rfl)) ?_
  refine g_callVi (As := [.long (123563833652072 : Int64)]) X dX8_readLine_4 mlX8_68 (fun l D cyy => tX6_isAt (cx_inj X) l D cyy a1 (123563833652072 : Int64) h1 S) h1 (by decide) rfl rfl (Nat.le_of_ble_eq_true rfl) ?_
  refine g_if_eq (tgt := 18) X dX8_readLine_7 (by decide) (fun c_1 => ?_) (fun c_1 => ?_)
  · rw [if_pos c_1] at hF
    refine g_aload_n X dX8_readLine_18 1 rfl rfl ?_
    refine g_ldc2 (v := 1818583408) X dX8_readLine_19 (inr_11 _ (List.mem_of_getElem? (i := 15) rfl)) ?_
    refine g_callVi (As := [.long (1818583408 : Int64)]) X dX8_readLine_22 mlX8_68 (fun l D cyy => tX6_isAt (cx_inj X) l D cyy a1 (1818583408 : Int64) h1 S) h1 (by decide) rfl rfl (Nat.le_of_ble_eq_true rfl) ?_
    refine g_if_eq (tgt := 36) X dX8_readLine_25 (by decide) (fun c_2 => ?_) (fun c_2 => ?_)
    · rw [if_pos c_2] at hF
      refine g_aload_n X dX8_readLine_36 1 rfl rfl ?_
      refine g_ldc2 (v := 439787549556) X dX8_readLine_37 (inr_11 _ (List.mem_of_getElem? (i := 16) rfl)) ?_
      refine g_callVi (As := [.long (439787549556 : Int64)]) X dX8_readLine_40 mlX8_68 (fun l D cyy => tX6_isAt (cx_inj X) l D cyy a1 (439787549556 : Int64) h1 S) h1 (by decide) rfl rfl (Nat.le_of_ble_eq_true rfl) ?_
      refine g_if_eq (tgt := 54) X dX8_readLine_43 (by decide) (fun c_3 => ?_) (fun c_3 => ?_)
      · rw [if_pos c_3] at hF
        refine g_aload_n X dX8_readLine_54 1 rfl rfl ?_
        refine g_ldc2 (v := 7566702) X dX8_readLine_55 (inr_11 _ (List.mem_of_getElem? (i := 17) rfl)) ?_
        refine g_callVi (As := [.long (7566702 : Int64)]) X dX8_readLine_58 mlX8_68 (fun l D cyy => tX6_isAt (cx_inj X) l D cyy a1 (7566702 : Int64) h1 S) h1 (by decide) rfl rfl (Nat.le_of_ble_eq_true rfl) ?_
        refine g_if_eq (tgt := 72) X dX8_readLine_61 (by decide) (fun c_4 => ?_) (fun c_4 => ?_)
        · rw [if_pos c_4] at hF
          refine g_aload_n X dX8_readLine_72 1 rfl rfl ?_
          refine g_iconst (v := 1) X dX8_readLine_73 (by decide) ?_
          refine g_callVv (As := [.int (1 : Int32)]) X dX8_readLine_74 mlX8_90 (fun l D cyy => tX6_fail (cx_inj X) l D cyy a1 (1 : Int32) h1 S) h1 (by decide) rfl rfl (Nat.le_of_ble_eq_true rfl) ?_
          have hF := Option.some.inj hF
          subst hF
          exact g_vret X dX8_readLine_77 ho
        · rw [if_neg c_4] at hF
          refine g_aload_n X dX8_readLine_64 0 rfl rfl ?_
          refine g_aload_n X dX8_readLine_65 1 rfl rfl ?_
          obtain ⟨r_5, q_6, hF⟩ := obind hF
          refine g_callVv (As := [.ref (ad a1)]) X dX8_readLine_66 mlX8_87 (fun l D cyy => tX8_readSun (cx_inj X) l D cyy a0 a1 h0 h1 S r_5 q_6) h0 (by decide) rfl rfl (Nat.le_of_ble_eq_true rfl) ?_
          refine g_goto (tgt := 77) X dX8_readLine_69 (by decide) ?_
          have hF := Option.some.inj hF
          subst hF
          exact g_vret X dX8_readLine_77 ho
      · rw [if_neg c_3] at hF
        refine g_aload_n X dX8_readLine_46 0 rfl rfl ?_
        refine g_aload_n X dX8_readLine_47 1 rfl rfl ?_
        obtain ⟨r_7, q_8, hF⟩ := obind hF
        refine g_callVv (As := [.ref (ad a1)]) X dX8_readLine_48 mlX8_82 (fun l D cyy => tX8_readFeast (cx_inj X) l D cyy a0 a1 h0 h1 S r_7 q_8) h0 (by decide) rfl rfl (Nat.le_of_ble_eq_true rfl) ?_
        refine g_goto (tgt := 77) X dX8_readLine_51 (by decide) ?_
        have hF := Option.some.inj hF
        subst hF
        exact g_vret X dX8_readLine_77 ho
    · rw [if_neg c_2] at hF
      refine g_aload_n X dX8_readLine_28 0 rfl rfl ?_
      refine g_aload_n X dX8_readLine_29 1 rfl rfl ?_
      obtain ⟨r_9, q_10, hF⟩ := obind hF
      refine g_callVv (As := [.ref (ad a1)]) X dX8_readLine_30 mlX8_77 (fun l D cyy => tX8_readLeap (cx_inj X) l D cyy a0 a1 h0 h1 S r_9 q_10) h0 (by decide) rfl rfl (Nat.le_of_ble_eq_true rfl) ?_
      refine g_goto (tgt := 77) X dX8_readLine_33 (by decide) ?_
      have hF := Option.some.inj hF
      subst hF
      exact g_vret X dX8_readLine_77 ho
  · rw [if_neg c_1] at hF
    refine g_aload_n X dX8_readLine_10 0 rfl rfl ?_
    refine g_aload_n X dX8_readLine_11 1 rfl rfl ?_
    obtain ⟨r_11, q_12, hF⟩ := obind hF
    refine g_callVv (As := [.ref (ad a1)]) X dX8_readLine_12 mlX8_72 (fun l D cyy => tX8_readParish (cx_inj X) l D cyy a0 a1 h0 h1 S r_11 q_12) h0 (by decide) rfl rfl (Nat.le_of_ble_eq_true rfl) ?_
    refine g_goto (tgt := 77) X dX8_readLine_15 (by decide) ?_
    have hF := Option.some.inj hF
    subst hF
    exact g_vret X dX8_readLine_77 ho
theorem tX8_readLine {ad : Nat → Nat} (hI : Inj ad) (l : Launch) (D : va_G) (cyy : Nat → ClassId) (a0 : Nat) (a1 : Nat) (h0 : KT a0 = 8) (h1 : KT a1 = 6) (S : St) (r : St) (hF : fX8_readLine a0 a1 S = some r) : OkM l yX8_readLine cX8_readLine 2 none 5 ad D cyy [.ref (ad a0), .ref (ad a1)] S (none, r) := okM_of hI (by decide) (inr_11 _ (List.mem_of_getElem? (i := 13) rfl)) (by show _ ≤ 2; exact Nat.le_of_ble_eq_true rfl) (fun z X => wX8_readLine X a0 a1 h0 h1 S r rfl hF)
def fX8_readFrom_s36 (k36 : Int32 → St → Option (Int32 × St)) (a0 : Nat) (a1 : Nat) (y2 : Int32)  (S : St) : Option (Int32 × St) :=
  if (900 : Int32) ≤ y2 then (some (y2, S)) else
  (if (fX6_goesOn a1 S) = 0 then (some (y2, S)) else
  ((fX8_readLine a0 a1 S).bind fun r_5 =>
  (fX6_takeSign a1 (59 : Int32) r_5).bind fun r_7 =>
  k36 (y2 + (1 : Int32)) r_7))
def fX8_readFrom_h36 (a0 : Nat) (a1 : Nat) : Nat → Int32 → St → Option (Int32 × St)
  | 0, _, _ => none
  | n + 1, y2, S => fX8_readFrom_s36 (fX8_readFrom_h36 a0 a1 n) a0 a1 y2 S
def fX8_readFrom_s27 (a0 : Nat) (a1 : Nat)   (S : St) : Option (Int32 × St) :=
  (fX6_open a1 (900 : Int32) S).bind fun r_1 =>
  fX8_readFrom_h36 a0 a1 NN (0 : Int32) r_1
def fX8_readFrom_s22 (a0 : Nat) (a1 : Nat)   (S : St) : Option (Int32 × St) :=
  fX8_readFrom_s27 a0 a1 (sI S 8 6 a0 (0 : Int32))
def fX8_readFrom_s17 (a0 : Nat) (a1 : Nat)   (S : St) : Option (Int32 × St) :=
  fX8_readFrom_s22 a0 a1 (sI S 8 5 a0 (1 : Int32))
def fX8_readFrom_s10 (a0 : Nat) (a1 : Nat)   (S : St) : Option (Int32 × St) :=
  fX8_readFrom_s17 a0 a1 (sI S 8 4 a0 (365 : Int32))
def fX8_readFrom_s5 (a0 : Nat) (a1 : Nat)   (S : St) : Option (Int32 × St) :=
  fX8_readFrom_s10 a0 a1 (sI S 8 3 a0 (0 : Int32))
def fX8_readFrom (a0 : Nat) (a1 : Nat) (S : St) : Option (Int32 × St) :=
  fX8_readFrom_s5 a0 a1 (sI S 8 2 a0 (0 : Int32))
theorem wX8_readFrom_s36 {z : Mx} {ad : Nat → Nat} {o : Option Value × St} (X : CxOk z ad RX8 cX8_readFrom 3 (some .int) 6) (a0 : Nat) (a1 : Nat) (h0 : KT a0 = 8) (h1 : KT a1 = 6) (y2 : Int32)  (k36 : Int32 → St → Option (Int32 × St))   (S : St) (r : (Int32 × St)) (ho : o = (some (.int r.1), r.2)) (hk36 : ∀ (y2 : Int32) (S : St), k36 y2 S = some r → GW z ad o S 36 [(0, .ref (ad a0)), (1, .ref (ad a1)), (2, .int y2)] []) (hF : fX8_readFrom_s36 k36 a0 a1 y2  S = some r) : GW z ad o S 36 [(0, .ref (ad a0)), (1, .ref (ad a1)), (2, .int y2)] [] := by
  unfold fX8_readFrom_s36 at hF
  refine g_iload_n X dX8_readFrom_36 2 rfl rfl ?_
  refine g_sipush (v := 900) X dX8_readFrom_37 (by decide) ?_
  refine g_icmp_ge (tgt := 67) X dX8_readFrom_40 (by decide) (fun c_3 => ?_) (fun c_3 => ?_)
  · rw [if_pos c_3] at hF
    refine g_iload_n X dX8_readFrom_67 2 rfl rfl ?_
    have hF := Option.some.inj hF
    subst hF
    exact g_iret X dX8_readFrom_68 ho
  · rw [if_neg c_3] at hF
    refine g_aload_n X dX8_readFrom_43 1 rfl rfl ?_
    refine g_callVi (As := []) X dX8_readFrom_44 mlX8_55 (fun l D cyy => tX6_goesOn (cx_inj X) l D cyy a1 h1 S) h1 (by decide) rfl rfl (Nat.le_of_ble_eq_true rfl) ?_
    refine g_if_eq (tgt := 67) X dX8_readFrom_47 (by decide) (fun c_4 => ?_) (fun c_4 => ?_)
    · rw [if_pos c_4] at hF
      refine g_iload_n X dX8_readFrom_67 2 rfl rfl ?_
      have hF := Option.some.inj hF
      subst hF
      exact g_iret X dX8_readFrom_68 ho
    · rw [if_neg c_4] at hF
      refine g_aload_n X dX8_readFrom_50 0 rfl rfl ?_
      refine g_aload_n X dX8_readFrom_51 1 rfl rfl ?_
      obtain ⟨r_5, q_6, hF⟩ := obind hF
      refine g_callVv (As := [.ref (ad a1)]) X dX8_readFrom_52 mlX8_59 (fun l D cyy => tX8_readLine (cx_inj X) l D cyy a0 a1 h0 h1 S r_5 q_6) h0 (by decide) rfl rfl (Nat.le_of_ble_eq_true rfl) ?_
      refine g_aload_n X dX8_readFrom_55 1 rfl rfl ?_
      refine g_bipush (v := 59) X dX8_readFrom_56 (by decide) ?_
      obtain ⟨r_7, q_8, hF⟩ := obind hF
      refine g_callVv (As := [.int (59 : Int32)]) X dX8_readFrom_58 mlX8_63 (fun l D cyy => tX6_takeSign (cx_inj X) l D cyy a1 (59 : Int32) h1 r_5 r_7 q_8) h1 (by decide) rfl rfl (Nat.le_of_ble_eq_true rfl) ?_
      refine g_iinc (v := (y2 + (1 : Int32))) X dX8_readFrom_61 2 rfl rfl (by decide) (lv' := [(2, .int (y2 + (1 : Int32))), (0, .ref (ad a0)), (1, .ref (ad a1))]) rfl ?_
      refine g_goto (tgt := 36) X dX8_readFrom_64 (by decide) ?_
      exact g_perm [1, 2, 0] rfl (hk36 (y2 + (1 : Int32)) r_7 hF)
theorem wX8_readFrom_h36 {z : Mx} {ad : Nat → Nat} {o : Option Value × St} (X : CxOk z ad RX8 cX8_readFrom 3 (some .int) 6) (a0 : Nat) (a1 : Nat) (h0 : KT a0 = 8) (h1 : KT a1 = 6)  (r : (Int32 × St)) (ho : o = (some (.int r.1), r.2)) : ∀ (n : Nat) (y2 : Int32) (S : St), fX8_readFrom_h36 a0 a1 n y2 S = some r → GW z ad o S 36 [(0, .ref (ad a0)), (1, .ref (ad a1)), (2, .int y2)] [] := by
  intro n
  induction n with
  | zero => intro y2 S  hF; cases hF
  | succ n ih => intro y2 S  hF; exact wX8_readFrom_s36 X a0 a1 h0 h1 y2 (fX8_readFrom_h36 a0 a1 n)  S r ho ih hF
theorem wX8_readFrom_s27 {z : Mx} {ad : Nat → Nat} {o : Option Value × St} (X : CxOk z ad RX8 cX8_readFrom 3 (some .int) 6) (a0 : Nat) (a1 : Nat) (h0 : KT a0 = 8) (h1 : KT a1 = 6)     (S : St) (r : (Int32 × St)) (ho : o = (some (.int r.1), r.2)) (hF : fX8_readFrom_s27 a0 a1   S = some r) : GW z ad o S 27 [(0, .ref (ad a0)), (1, .ref (ad a1))] [] := by
  unfold fX8_readFrom_s27 at hF
  refine g_aload_n X dX8_readFrom_27 1 rfl rfl ?_
  refine g_sipush (v := 900) X dX8_readFrom_28 (by decide) ?_
  obtain ⟨r_1, q_2, hF⟩ := obind hF
  refine g_callVv (As := [.int (900 : Int32)]) X dX8_readFrom_31 mlX8_49 (fun l D cyy => tX6_open (cx_inj X) l D cyy a1 (900 : Int32) h1 S r_1 q_2) h1 (by decide) rfl rfl (Nat.le_of_ble_eq_true rfl) ?_
  refine g_iconst (v := 0) X dX8_readFrom_34 (by decide) ?_
  refine g_istore_n X dX8_readFrom_35 rfl (by decide) (lv' := [(2, .int (0 : Int32)), (0, .ref (ad a0)), (1, .ref (ad a1))]) rfl ?_
  exact g_perm [1, 2, 0] rfl (wX8_readFrom_h36 X a0 a1 h0 h1 r ho NN (0 : Int32) r_1 hF)
theorem wX8_readFrom_s22 {z : Mx} {ad : Nat → Nat} {o : Option Value × St} (X : CxOk z ad RX8 cX8_readFrom 3 (some .int) 6) (a0 : Nat) (a1 : Nat) (h0 : KT a0 = 8) (h1 : KT a1 = 6)     (S : St) (r : (Int32 × St)) (ho : o = (some (.int r.1), r.2)) (hF : fX8_readFrom_s22 a0 a1   S = some r) : GW z ad o S 22 [(0, .ref (ad a0)), (1, .ref (ad a1))] [] := by
  unfold fX8_readFrom_s22 at hF
  refine g_aload_n X dX8_readFrom_22 0 rfl rfl ?_
  refine g_iconst (v := 0) X dX8_readFrom_23 (by decide) ?_
  refine g_putI X dX8_readFrom_24 fpX8_45 rfl (by decide) (by decide) h0 ?_
  exact (wX8_readFrom_s27 X a0 a1 h0 h1 (sI S 8 6 a0 (0 : Int32)) r ho hF)
theorem wX8_readFrom_s17 {z : Mx} {ad : Nat → Nat} {o : Option Value × St} (X : CxOk z ad RX8 cX8_readFrom 3 (some .int) 6) (a0 : Nat) (a1 : Nat) (h0 : KT a0 = 8) (h1 : KT a1 = 6)     (S : St) (r : (Int32 × St)) (ho : o = (some (.int r.1), r.2)) (hF : fX8_readFrom_s17 a0 a1   S = some r) : GW z ad o S 17 [(0, .ref (ad a0)), (1, .ref (ad a1))] [] := by
  unfold fX8_readFrom_s17 at hF
  refine g_aload_n X dX8_readFrom_17 0 rfl rfl ?_
  refine g_iconst (v := 1) X dX8_readFrom_18 (by decide) ?_
  refine g_putI X dX8_readFrom_19 fpX8_27 rfl rfl rfl h0 ?_
  exact (wX8_readFrom_s22 X a0 a1 h0 h1 (sI S 8 5 a0 (1 : Int32)) r ho hF)
theorem wX8_readFrom_s10 {z : Mx} {ad : Nat → Nat} {o : Option Value × St} (X : CxOk z ad RX8 cX8_readFrom 3 (some .int) 6) (a0 : Nat) (a1 : Nat) (h0 : KT a0 = 8) (h1 : KT a1 = 6)     (S : St) (r : (Int32 × St)) (ho : o = (some (.int r.1), r.2)) (hF : fX8_readFrom_s10 a0 a1   S = some r) : GW z ad o S 10 [(0, .ref (ad a0)), (1, .ref (ad a1))] [] := by
  unfold fX8_readFrom_s10 at hF
  refine g_aload_n X dX8_readFrom_10 0 rfl rfl ?_
  refine g_sipush (v := 365) X dX8_readFrom_11 (by decide) ?_
  refine g_putI X dX8_readFrom_14 fpX8_23 rfl rfl rfl h0 ?_
  exact (wX8_readFrom_s17 X a0 a1 h0 h1 (sI S 8 4 a0 (365 : Int32)) r ho hF)
theorem wX8_readFrom_s5 {z : Mx} {ad : Nat → Nat} {o : Option Value × St} (X : CxOk z ad RX8 cX8_readFrom 3 (some .int) 6) (a0 : Nat) (a1 : Nat) (h0 : KT a0 = 8) (h1 : KT a1 = 6)     (S : St) (r : (Int32 × St)) (ho : o = (some (.int r.1), r.2)) (hF : fX8_readFrom_s5 a0 a1   S = some r) : GW z ad o S 5 [(0, .ref (ad a0)), (1, .ref (ad a1))] [] := by
  unfold fX8_readFrom_s5 at hF
  refine g_aload_n X dX8_readFrom_5 0 rfl rfl ?_
  refine g_iconst (v := 0) X dX8_readFrom_6 (by decide) ?_
  refine g_putI X dX8_readFrom_7 fpX8_35 rfl rfl rfl h0 ?_
  exact (wX8_readFrom_s10 X a0 a1 h0 h1 (sI S 8 3 a0 (0 : Int32)) r ho hF)
theorem wX8_readFrom {z : Mx} {ad : Nat → Nat} {o : Option Value × St} (X : CxOk z ad RX8 cX8_readFrom 3 (some .int) 6) (a0 : Nat) (a1 : Nat) (h0 : KT a0 = 8) (h1 : KT a1 = 6) (S : St) (r : (Int32 × St)) (ho : o = (some (.int r.1), r.2)) (hF : fX8_readFrom a0 a1 S = some r) : GW z ad o S 0 [(0, .ref (ad a0)), (1, .ref (ad a1))] [] := by
  unfold fX8_readFrom at hF
  refine g_aload_n X dX8_readFrom_0 0 rfl rfl ?_
  refine g_iconst (v := 0) X dX8_readFrom_1 (by decide) ?_
  refine g_putI X dX8_readFrom_2 fpX8_32 rfl rfl rfl h0 ?_
  exact (wX8_readFrom_s5 X a0 a1 h0 h1 (sI S 8 2 a0 (0 : Int32)) r ho hF)
theorem tX8_readFrom {ad : Nat → Nat} (hI : Inj ad) (l : Launch) (D : va_G) (cyy : Nat → ClassId) (a0 : Nat) (a1 : Nat) (h0 : KT a0 = 8) (h1 : KT a1 = 6) (S : St) (r : (Int32 × St)) (hF : fX8_readFrom a0 a1 S = some r) : OkM l yX8_readFrom cX8_readFrom 3 (some .int) 6 ad D cyy [.ref (ad a0), .ref (ad a1)] S (some (.int r.1), r.2) := okM_of hI (by decide) (inr_10 _ (List.mem_of_getElem? (i := 3) rfl)) (by show _ ≤ 3; exact Nat.le_of_ble_eq_true rfl) (fun z X => wX8_readFrom X a0 a1 h0 h1 S r rfl hF)
