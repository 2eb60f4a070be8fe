theorem dX10_feed_0 : decode cX10_feed 0 = .ok (.aload_n 0, 1) := by decide +kernel
theorem dX10_feed_1 : decode cX10_feed 1 = .ok (.getfield 10, 3) := by decide +kernel
theorem dX10_feed_4 : decode cX10_feed 4 = .ok (.bipush 20, 2) := by decide +kernel
theorem dX10_feed_6 : decode cX10_feed 6 = .ok (.invokevirtual 84, 3) := by decide +kernel
theorem dX10_feed_9 : decode cX10_feed 9 = .ok (.ifCond .ne 5, 3) := by decide +kernel
theorem dX10_feed_12 : decode cX10_feed 12 = .ok (.iconst (-1), 1) := by decide +kernel
theorem dX10_feed_13 : decode cX10_feed 13 = .ok (.ireturn, 1) := by decide +kernel
theorem dX10_feed_14 : decode cX10_feed 14 = .ok (.aload_n 0, 1) := by decide +kernel
theorem dX10_feed_15 : decode cX10_feed 15 = .ok (.getfield 10, 3) := by decide +kernel
theorem dX10_feed_18 : decode cX10_feed 18 = .ok (.iload_n 1, 1) := by decide +kernel
theorem dX10_feed_19 : decode cX10_feed 19 = .ok (.invokevirtual 88, 3) := by decide +kernel
theorem dX10_feed_22 : decode cX10_feed 22 = .ok (.aload_n 0, 1) := by decide +kernel
theorem dX10_feed_23 : decode cX10_feed 23 = .ok (.getfield 10, 3) := by decide +kernel
theorem dX10_feed_26 : decode cX10_feed 26 = .ok (.iload_n 2, 1) := by decide +kernel
theorem dX10_feed_27 : decode cX10_feed 27 = .ok (.invokevirtual 88, 3) := by decide +kernel
theorem dX10_feed_30 : decode cX10_feed 30 = .ok (.aload_n 0, 1) := by decide +kernel
theorem dX10_feed_31 : decode cX10_feed 31 = .ok (.getfield 10, 3) := by decide +kernel
theorem dX10_feed_34 : decode cX10_feed 34 = .ok (.iload_n 3, 1) := by decide +kernel
theorem dX10_feed_35 : decode cX10_feed 35 = .ok (.invokevirtual 88, 3) := by decide +kernel
theorem dX10_feed_38 : decode cX10_feed 38 = .ok (.aload_n 0, 1) := by decide +kernel
theorem dX10_feed_39 : decode cX10_feed 39 = .ok (.getfield 10, 3) := by decide +kernel
theorem dX10_feed_42 : decode cX10_feed 42 = .ok (.iload 4, 2) := by decide +kernel
theorem dX10_feed_44 : decode cX10_feed 44 = .ok (.invokevirtual 88, 3) := by decide +kernel
theorem dX10_feed_47 : decode cX10_feed 47 = .ok (.aload_n 0, 1) := by decide +kernel
theorem dX10_feed_48 : decode cX10_feed 48 = .ok (.getfield 10, 3) := by decide +kernel
theorem dX10_feed_51 : decode cX10_feed 51 = .ok (.iload 5, 2) := by decide +kernel
theorem dX10_feed_53 : decode cX10_feed 53 = .ok (.invokevirtual 88, 3) := by decide +kernel
theorem dX10_feed_56 : decode cX10_feed 56 = .ok (.aload_n 0, 1) := by decide +kernel
theorem dX10_feed_57 : decode cX10_feed 57 = .ok (.getfield 10, 3) := by decide +kernel
theorem dX10_feed_60 : decode cX10_feed 60 = .ok (.getfield 92, 3) := by decide +kernel
theorem dX10_feed_63 : decode cX10_feed 63 = .ok (.ireturn, 1) := by decide +kernel
theorem dX10_end_0 : decode cX10_end 0 = .ok (.iload_n 1, 1) := by decide +kernel
theorem dX10_end_1 : decode cX10_end 1 = .ok (.ifCond .lt 14, 3) := by decide +kernel
theorem dX10_end_4 : decode cX10_end 4 = .ok (.iload_n 1, 1) := by decide +kernel
theorem dX10_end_5 : decode cX10_end 5 = .ok (.aload_n 0, 1) := by decide +kernel
theorem dX10_end_6 : decode cX10_end 6 = .ok (.getfield 10, 3) := by decide +kernel
theorem dX10_end_9 : decode cX10_end 9 = .ok (.getfield 92, 3) := by decide +kernel
theorem dX10_end_12 : decode cX10_end 12 = .ok (.if_icmp .le 5, 3) := by decide +kernel
theorem dX10_end_15 : decode cX10_end 15 = .ok (.iconst 0, 1) := by decide +kernel
theorem dX10_end_16 : decode cX10_end 16 = .ok (.ireturn, 1) := by decide +kernel
theorem dX10_end_17 : decode cX10_end 17 = .ok (.aload_n 0, 1) := by decide +kernel
theorem dX10_end_18 : decode cX10_end 18 = .ok (.getfield 10, 3) := by decide +kernel
theorem dX10_end_21 : decode cX10_end 21 = .ok (.iload_n 1, 1) := by decide +kernel
theorem dX10_end_22 : decode cX10_end 22 = .ok (.putfield 92, 3) := by decide +kernel
theorem dX10_end_25 : decode cX10_end 25 = .ok (.iconst 1, 1) := by decide +kernel
theorem dX10_end_26 : decode cX10_end 26 = .ok (.ireturn, 1) := by decide +kernel
theorem dX10_valley_0 : decode cX10_valley 0 = .ok (.aload_n 0, 1) := by decide +kernel
theorem dX10_valley_1 : decode cX10_valley 1 = .ok (.getfield 26, 3) := by decide +kernel
theorem dX10_valley_4 : decode cX10_valley 4 = .ok (.aload_n 0, 1) := by decide +kernel
theorem dX10_valley_5 : decode cX10_valley 5 = .ok (.getfield 10, 3) := by decide +kernel
theorem dX10_valley_8 : decode cX10_valley 8 = .ok (.invokevirtual 96, 3) := by decide +kernel
theorem dX10_valley_11 : decode cX10_valley 11 = .ok (.istore_n 1, 1) := by decide +kernel
theorem dX10_valley_12 : decode cX10_valley 12 = .ok (.aload_n 0, 1) := by decide +kernel
theorem dX10_valley_13 : decode cX10_valley 13 = .ok (.invokevirtual 100, 3) := by decide +kernel
theorem dX10_valley_16 : decode cX10_valley 16 = .ok (.aload_n 0, 1) := by decide +kernel
theorem dX10_valley_17 : decode cX10_valley 17 = .ok (.getfield 103, 3) := by decide +kernel
theorem dX10_valley_20 : decode cX10_valley 20 = .ok (.ifCond .eq 13, 3) := by decide +kernel
theorem dX10_valley_23 : decode cX10_valley 23 = .ok (.iconst (-1), 1) := by decide +kernel
theorem dX10_valley_24 : decode cX10_valley 24 = .ok (.aload_n 0, 1) := by decide +kernel
theorem dX10_valley_25 : decode cX10_valley 25 = .ok (.getfield 10, 3) := by decide +kernel
theorem dX10_valley_28 : decode cX10_valley 28 = .ok (.getfield 106, 3) := by decide +kernel
theorem dX10_valley_31 : decode cX10_valley 31 = .ok (.isub, 1) := by decide +kernel
theorem dX10_valley_32 : decode cX10_valley 32 = .ok (.ireturn, 1) := by decide +kernel
theorem dX10_valley_33 : decode cX10_valley 33 = .ok (.aload_n 0, 1) := by decide +kernel
theorem dX10_valley_34 : decode cX10_valley 34 = .ok (.getfield 19, 3) := by decide +kernel
theorem dX10_valley_37 : decode cX10_valley 37 = .ok (.aload_n 0, 1) := by decide +kernel
theorem dX10_valley_38 : decode cX10_valley 38 = .ok (.getfield 26, 3) := by decide +kernel
theorem dX10_valley_41 : decode cX10_valley 41 = .ok (.invokevirtual 109, 3) := by decide +kernel
theorem dX10_valley_44 : decode cX10_valley 44 = .ok (.aload_n 0, 1) := by decide +kernel
theorem dX10_valley_45 : decode cX10_valley 45 = .ok (.iconst 0, 1) := by decide +kernel
theorem dX10_valley_46 : decode cX10_valley 46 = .ok (.putfield 113, 3) := by decide +kernel
theorem dX10_valley_49 : decode cX10_valley 49 = .ok (.iload_n 1, 1) := by decide +kernel
theorem dX10_valley_50 : decode cX10_valley 50 = .ok (.ireturn, 1) := by decide +kernel
theorem dX10_fault_0 : decode cX10_fault 0 = .ok (.aload_n 0, 1) := by decide +kernel
theorem dX10_fault_1 : decode cX10_fault 1 = .ok (.getfield 103, 3) := by decide +kernel
theorem dX10_fault_4 : decode cX10_fault 4 = .ok (.ireturn, 1) := by decide +kernel
theorem dX10_at_0 : decode cX10_at 0 = .ok (.aload_n 0, 1) := by decide +kernel
theorem dX10_at_1 : decode cX10_at 1 = .ok (.getfield 19, 3) := by decide +kernel
theorem dX10_at_4 : decode cX10_at 4 = .ok (.getfield 116, 3) := by decide +kernel
theorem dX10_at_7 : decode cX10_at 7 = .ok (.iload_n 1, 1) := by decide +kernel
theorem dX10_at_8 : decode cX10_at 8 = .ok (.invokevirtual 119, 3) := by decide +kernel
theorem dX10_at_11 : decode cX10_at 11 = .ok (.ifCond .eq 25, 3) := by decide +kernel
theorem dX10_at_14 : decode cX10_at 14 = .ok (.iload_n 2, 1) := by decide +kernel
theorem dX10_at_15 : decode cX10_at 15 = .ok (.sipush (-9999), 3) := by decide +kernel
theorem dX10_at_18 : decode cX10_at 18 = .ok (.if_icmp .lt 18, 3) := by decide +kernel
theorem dX10_at_21 : decode cX10_at 21 = .ok (.iload_n 2, 1) := by decide +kernel
theorem dX10_at_22 : decode cX10_at 22 = .ok (.ldc 160, 2) := by decide +kernel
theorem dX10_at_24 : decode cX10_at 24 = .ok (.if_icmp .gt 12, 3) := by decide +kernel
theorem dX10_at_27 : decode cX10_at 27 = .ok (.iload_n 3, 1) := by decide +kernel
theorem dX10_at_28 : decode cX10_at 28 = .ok (.ifCond .lt 8, 3) := by decide +kernel
theorem dX10_at_31 : decode cX10_at 31 = .ok (.iload_n 3, 1) := by decide +kernel
theorem dX10_at_32 : decode cX10_at 32 = .ok (.iconst 3, 1) := by decide +kernel
theorem dX10_at_33 : decode cX10_at 33 = .ok (.if_icmp .le 5, 3) := by decide +kernel
theorem dX10_at_36 : decode cX10_at 36 = .ok (.iconst (-1), 1) := by decide +kernel
theorem dX10_at_37 : decode cX10_at 37 = .ok (.ireturn, 1) := by decide +kernel
theorem dX10_at_38 : decode cX10_at 38 = .ok (.aload_n 0, 1) := by decide +kernel
theorem dX10_at_39 : decode cX10_at 39 = .ok (.getfield 19, 3) := by decide +kernel
theorem dX10_at_42 : decode cX10_at 42 = .ok (.getfield 129, 3) := by decide +kernel
theorem dX10_at_45 : decode cX10_at 45 = .ok (.getfield 148, 3) := by decide +kernel
theorem dX10_at_48 : decode cX10_at 48 = .ok (.iload_n 1, 1) := by decide +kernel
theorem dX10_at_49 : decode cX10_at 49 = .ok (.iaload, 1) := by decide +kernel
theorem dX10_at_50 : decode cX10_at 50 = .ok (.iload_n 2, 1) := by decide +kernel
theorem dX10_at_51 : decode cX10_at 51 = .ok (.iadd, 1) := by decide +kernel
theorem dX10_at_52 : decode cX10_at 52 = .ok (.istore 4, 2) := by decide +kernel
theorem dX10_at_54 : decode cX10_at 54 = .ok (.iload 4, 2) := by decide +kernel
theorem dX10_at_56 : decode cX10_at 56 = .ok (.ifCond .ge 7, 3) := by decide +kernel
theorem dX10_at_59 : decode cX10_at 59 = .ok (.iconst (-1), 1) := by decide +kernel
theorem dX10_at_60 : decode cX10_at 60 = .ok (.goto 21, 3) := by decide +kernel
theorem dX10_at_63 : decode cX10_at 63 = .ok (.aload_n 0, 1) := by decide +kernel
theorem dX10_at_64 : decode cX10_at 64 = .ok (.getfield 19, 3) := by decide +kernel
theorem dX10_at_67 : decode cX10_at 67 = .ok (.getfield 116, 3) := by decide +kernel
theorem dX10_at_70 : decode cX10_at 70 = .ok (.getfield 125, 3) := by decide +kernel
theorem dX10_at_73 : decode cX10_at 73 = .ok (.iload_n 1, 1) := by decide +kernel
theorem dX10_at_74 : decode cX10_at 74 = .ok (.aaload, 1) := by decide +kernel
theorem dX10_at_75 : decode cX10_at 75 = .ok (.iload 4, 2) := by decide +kernel
theorem dX10_at_77 : decode cX10_at 77 = .ok (.iload_n 3, 1) := by decide +kernel
theorem dX10_at_78 : decode cX10_at 78 = .ok (.invokevirtual 161, 3) := by decide +kernel
theorem dX10_at_81 : decode cX10_at 81 = .ok (.ireturn, 1) := by decide +kernel
theorem dX10_countOf_0 : decode cX10_countOf 0 = .ok (.aload_n 0, 1) := by decide +kernel
theorem dX10_countOf_1 : decode cX10_countOf 1 = .ok (.getfield 19, 3) := by decide +kernel
theorem dX10_countOf_4 : decode cX10_countOf 4 = .ok (.getfield 116, 3) := by decide +kernel
theorem dX10_countOf_7 : decode cX10_countOf 7 = .ok (.iload_n 1, 1) := by decide +kernel
theorem dX10_countOf_8 : decode cX10_countOf 8 = .ok (.invokevirtual 119, 3) := by decide +kernel
theorem dX10_countOf_11 : decode cX10_countOf 11 = .ok (.ifCond .eq 25, 3) := by decide +kernel
theorem dX10_countOf_14 : decode cX10_countOf 14 = .ok (.aload_n 0, 1) := by decide +kernel
theorem dX10_countOf_15 : decode cX10_countOf 15 = .ok (.getfield 19, 3) := by decide +kernel
theorem dX10_countOf_18 : decode cX10_countOf 18 = .ok (.getfield 116, 3) := by decide +kernel
theorem dX10_countOf_21 : decode cX10_countOf 21 = .ok (.getfield 125, 3) := by decide +kernel
theorem dX10_countOf_24 : decode cX10_countOf 24 = .ok (.iload_n 1, 1) := by decide +kernel
theorem dX10_countOf_25 : decode cX10_countOf 25 = .ok (.aaload, 1) := by decide +kernel
theorem dX10_countOf_26 : decode cX10_countOf 26 = .ok (.iload_n 2, 1) := by decide +kernel
theorem dX10_countOf_27 : decode cX10_countOf 27 = .ok (.iload_n 3, 1) := by decide +kernel
theorem dX10_countOf_28 : decode cX10_countOf 28 = .ok (.iload 4, 2) := by decide +kernel
theorem dX10_countOf_30 : decode cX10_countOf 30 = .ok (.invokevirtual 165, 3) := by decide +kernel
theorem dX10_countOf_33 : decode cX10_countOf 33 = .ok (.goto 4, 3) := by decide +kernel
theorem dX10_countOf_36 : decode cX10_countOf 36 = .ok (.iconst (-1), 1) := by decide +kernel
theorem dX10_countOf_37 : decode cX10_countOf 37 = .ok (.ireturn, 1) := by decide +kernel
theorem dX10_feast_0 : decode cX10_feast 0 = .ok (.aload_n 0, 1) := by decide +kernel
theorem dX10_feast_1 : decode cX10_feast 1 = .ok (.getfield 19, 3) := by decide +kernel
theorem dX10_feast_4 : decode cX10_feast 4 = .ok (.getfield 116, 3) := by decide +kernel
theorem dX10_feast_7 : decode cX10_feast 7 = .ok (.iload_n 1, 1) := by decide +kernel
theorem dX10_feast_8 : decode cX10_feast 8 = .ok (.invokevirtual 169, 3) := by decide +kernel
theorem dX10_feast_11 : decode cX10_feast 11 = .ok (.ifCond .ne 5, 3) := by decide +kernel
theorem dX10_feast_14 : decode cX10_feast 14 = .ok (.iconst (-1), 1) := by decide +kernel
theorem dX10_feast_15 : decode cX10_feast 15 = .ok (.ireturn, 1) := by decide +kernel
theorem dX10_feast_16 : decode cX10_feast 16 = .ok (.aload_n 0, 1) := by decide +kernel
theorem dX10_feast_17 : decode cX10_feast 17 = .ok (.getfield 19, 3) := by decide +kernel
theorem dX10_feast_20 : decode cX10_feast 20 = .ok (.getfield 116, 3) := by decide +kernel
theorem dX10_feast_23 : decode cX10_feast 23 = .ok (.getfield 172, 3) := by decide +kernel
theorem dX10_feast_26 : decode cX10_feast 26 = .ok (.iload_n 1, 1) := by decide +kernel
theorem dX10_feast_27 : decode cX10_feast 27 = .ok (.aaload, 1) := by decide +kernel
theorem dX10_feast_28 : decode cX10_feast 28 = .ok (.astore_n 3, 1) := by decide +kernel
theorem dX10_feast_29 : decode cX10_feast 29 = .ok (.iload_n 2, 1) := by decide +kernel
theorem dX10_feast_30 : decode cX10_feast 30 = .ok (.tableswitch 63 0 3 #[30, 35, 40, 45], 30) := by decide +kernel
theorem dX10_feast_60 : decode cX10_feast 60 = .ok (.aload_n 3, 1) := by decide +kernel
theorem dX10_feast_61 : decode cX10_feast 61 = .ok (.getfield 176, 3) := by decide +kernel
theorem dX10_feast_64 : decode cX10_feast 64 = .ok (.ireturn, 1) := by decide +kernel
theorem dX10_feast_65 : decode cX10_feast 65 = .ok (.aload_n 3, 1) := by decide +kernel
theorem dX10_feast_66 : decode cX10_feast 66 = .ok (.getfield 180, 3) := by decide +kernel
theorem dX10_feast_69 : decode cX10_feast 69 = .ok (.ireturn, 1) := by decide +kernel
theorem dX10_feast_70 : decode cX10_feast 70 = .ok (.aload_n 3, 1) := by decide +kernel
theorem dX10_feast_71 : decode cX10_feast 71 = .ok (.getfield 183, 3) := by decide +kernel
theorem dX10_feast_74 : decode cX10_feast 74 = .ok (.ireturn, 1) := by decide +kernel
theorem dX10_feast_75 : decode cX10_feast 75 = .ok (.aload_n 0, 1) := by decide +kernel
theorem dX10_feast_76 : decode cX10_feast 76 = .ok (.getfield 19, 3) := by decide +kernel
theorem dX10_feast_79 : decode cX10_feast 79 = .ok (.iload_n 1, 1) := by decide +kernel
theorem dX10_feast_80 : decode cX10_feast 80 = .ok (.iconst 0, 1) := by decide +kernel
theorem dX10_feast_81 : decode cX10_feast 81 = .ok (.invokevirtual 186, 3) := by decide +kernel
theorem dX10_feast_84 : decode cX10_feast 84 = .ok (.ifCond .eq 7, 3) := by decide +kernel
theorem dX10_feast_87 : decode cX10_feast 87 = .ok (.iconst 1, 1) := by decide +kernel
theorem dX10_feast_88 : decode cX10_feast 88 = .ok (.goto 4, 3) := by decide +kernel
theorem dX10_feast_91 : decode cX10_feast 91 = .ok (.iconst 0, 1) := by decide +kernel
theorem dX10_feast_92 : decode cX10_feast 92 = .ok (.ireturn, 1) := by decide +kernel
theorem dX10_feast_93 : decode cX10_feast 93 = .ok (.iconst (-1), 1) := by decide +kernel
theorem dX10_feast_94 : decode cX10_feast 94 = .ok (.ireturn, 1) := by decide +kernel
theorem dX10_now_0 : decode cX10_now 0 = .ok (.iload_n 1, 1) := by decide +kernel
theorem dX10_now_1 : decode cX10_now 1 = .ok (.tableswitch 111 0 6 #[43, 54, 65, 73, 81, 89, 100], 43) := by decide +kernel
theorem dX10_now_44 : decode cX10_now 44 = .ok (.aload_n 0, 1) := by decide +kernel
theorem dX10_now_45 : decode cX10_now 45 = .ok (.getfield 19, 3) := by decide +kernel
theorem dX10_now_48 : decode cX10_now 48 = .ok (.getfield 129, 3) := by decide +kernel
theorem dX10_now_51 : decode cX10_now 51 = .ok (.getfield 190, 3) := by decide +kernel
theorem dX10_now_54 : decode cX10_now 54 = .ok (.ireturn, 1) := by decide +kernel
theorem dX10_now_55 : decode cX10_now 55 = .ok (.aload_n 0, 1) := by decide +kernel
theorem dX10_now_56 : decode cX10_now 56 = .ok (.getfield 19, 3) := by decide +kernel
theorem dX10_now_59 : decode cX10_now 59 = .ok (.getfield 129, 3) := by decide +kernel
theorem dX10_now_62 : decode cX10_now 62 = .ok (.getfield 193, 3) := by decide +kernel
theorem dX10_now_65 : decode cX10_now 65 = .ok (.ireturn, 1) := by decide +kernel
theorem dX10_now_66 : decode cX10_now 66 = .ok (.aload_n 0, 1) := by decide +kernel
theorem dX10_now_67 : decode cX10_now 67 = .ok (.getfield 19, 3) := by decide +kernel
theorem dX10_now_70 : decode cX10_now 70 = .ok (.invokevirtual 196, 3) := by decide +kernel
theorem dX10_now_73 : decode cX10_now 73 = .ok (.ireturn, 1) := by decide +kernel
theorem dX10_now_74 : decode cX10_now 74 = .ok (.aload_n 0, 1) := by decide +kernel
theorem dX10_now_75 : decode cX10_now 75 = .ok (.getfield 19, 3) := by decide +kernel
theorem dX10_now_78 : decode cX10_now 78 = .ok (.invokevirtual 200, 3) := by decide +kernel
theorem dX10_now_81 : decode cX10_now 81 = .ok (.ireturn, 1) := by decide +kernel
theorem dX10_now_82 : decode cX10_now 82 = .ok (.aload_n 0, 1) := by decide +kernel
theorem dX10_now_83 : decode cX10_now 83 = .ok (.getfield 19, 3) := by decide +kernel
theorem dX10_now_86 : decode cX10_now 86 = .ok (.invokevirtual 203, 3) := by decide +kernel
theorem dX10_now_89 : decode cX10_now 89 = .ok (.ireturn, 1) := by decide +kernel
theorem dX10_now_90 : decode cX10_now 90 = .ok (.aload_n 0, 1) := by decide +kernel
theorem dX10_now_91 : decode cX10_now 91 = .ok (.getfield 19, 3) := by decide +kernel
theorem dX10_now_94 : decode cX10_now 94 = .ok (.getfield 129, 3) := by decide +kernel
theorem dX10_now_97 : decode cX10_now 97 = .ok (.invokevirtual 206, 3) := by decide +kernel
theorem dX10_now_100 : decode cX10_now 100 = .ok (.ireturn, 1) := by decide +kernel
theorem dX10_now_101 : decode cX10_now 101 = .ok (.aload_n 0, 1) := by decide +kernel
theorem dX10_now_102 : decode cX10_now 102 = .ok (.getfield 19, 3) := by decide +kernel
theorem dX10_now_105 : decode cX10_now 105 = .ok (.getfield 129, 3) := by decide +kernel
theorem dX10_now_108 : decode cX10_now 108 = .ok (.invokevirtual 209, 3) := by decide +kernel
theorem dX10_now_111 : decode cX10_now 111 = .ok (.ireturn, 1) := by decide +kernel
theorem dX10_now_112 : decode cX10_now 112 = .ok (.iconst (-1), 1) := by decide +kernel
theorem dX10_now_113 : decode cX10_now 113 = .ok (.ireturn, 1) := by decide +kernel
theorem dX10_hold_0 : decode cX10_hold 0 = .ok (.aload_n 0, 1) := by decide +kernel
theorem dX10_hold_1 : decode cX10_hold 1 = .ok (.getfield 19, 3) := by decide +kernel
theorem dX10_hold_4 : decode cX10_hold 4 = .ok (.getfield 116, 3) := by decide +kernel
theorem dX10_hold_7 : decode cX10_hold 7 = .ok (.iload_n 1, 1) := by decide +kernel
theorem dX10_hold_8 : decode cX10_hold 8 = .ok (.invokevirtual 119, 3) := by decide +kernel
theorem dX10_hold_11 : decode cX10_hold 11 = .ok (.ifCond .ne 5, 3) := by decide +kernel
theorem dX10_hold_14 : decode cX10_hold 14 = .ok (.iconst (-1), 1) := by decide +kernel
theorem dX10_hold_15 : decode cX10_hold 15 = .ok (.ireturn, 1) := by decide +kernel
theorem dX10_hold_16 : decode cX10_hold 16 = .ok (.aload_n 0, 1) := by decide +kernel
theorem dX10_hold_17 : decode cX10_hold 17 = .ok (.getfield 65, 3) := by decide +kernel
theorem dX10_hold_20 : decode cX10_hold 20 = .ok (.aload_n 0, 1) := by decide +kernel
theorem dX10_hold_21 : decode cX10_hold 21 = .ok (.getfield 19, 3) := by decide +kernel
theorem dX10_hold_24 : decode cX10_hold 24 = .ok (.getfield 129, 3) := by decide +kernel
theorem dX10_hold_27 : decode cX10_hold 27 = .ok (.invokevirtual 212, 3) := by decide +kernel
theorem dX10_hold_30 : decode cX10_hold 30 = .ok (.aload_n 0, 1) := by decide +kernel
theorem dX10_hold_31 : decode cX10_hold 31 = .ok (.getfield 19, 3) := by decide +kernel
theorem dX10_hold_34 : decode cX10_hold 34 = .ok (.getfield 129, 3) := by decide +kernel
theorem dX10_hold_37 : decode cX10_hold 37 = .ok (.iload_n 1, 1) := by decide +kernel
theorem dX10_hold_38 : decode cX10_hold 38 = .ok (.invokevirtual 216, 3) := by decide +kernel
theorem dX10_hold_41 : decode cX10_hold 41 = .ok (.istore_n 2, 1) := by decide +kernel
theorem dX10_hold_42 : decode cX10_hold 42 = .ok (.iload_n 2, 1) := by decide +kernel
theorem dX10_hold_43 : decode cX10_hold 43 = .ok (.ifCond .ne 7, 3) := by decide +kernel
theorem dX10_hold_46 : decode cX10_hold 46 = .ok (.aload_n 0, 1) := by decide +kernel
theorem dX10_hold_47 : decode cX10_hold 47 = .ok (.invokevirtual 220, 3) := by decide +kernel
theorem dX10_hold_50 : decode cX10_hold 50 = .ok (.iload_n 2, 1) := by decide +kernel
theorem dX10_hold_51 : decode cX10_hold 51 = .ok (.ireturn, 1) := by decide +kernel
theorem dX10_skip_0 : decode cX10_skip 0 = .ok (.aload_n 0, 1) := by decide +kernel
theorem dX10_skip_1 : decode cX10_skip 1 = .ok (.getfield 19, 3) := by decide +kernel
theorem dX10_skip_4 : decode cX10_skip 4 = .ok (.getfield 116, 3) := by decide +kernel
theorem dX10_skip_7 : decode cX10_skip 7 = .ok (.iload_n 1, 1) := by decide +kernel
theorem dX10_skip_8 : decode cX10_skip 8 = .ok (.invokevirtual 119, 3) := by decide +kernel
theorem dX10_skip_11 : decode cX10_skip 11 = .ok (.ifCond .eq 14, 3) := by decide +kernel
theorem dX10_skip_14 : decode cX10_skip 14 = .ok (.iload_n 2, 1) := by decide +kernel
theorem dX10_skip_15 : decode cX10_skip 15 = .ok (.iconst 1, 1) := by decide +kernel
theorem dX10_skip_16 : decode cX10_skip 16 = .ok (.if_icmp .lt 9, 3) := by decide +kernel
theorem dX10_skip_19 : decode cX10_skip 19 = .ok (.iload_n 2, 1) := by decide +kernel
theorem dX10_skip_20 : decode cX10_skip 20 = .ok (.bipush 99, 2) := by decide +kernel
theorem dX10_skip_22 : decode cX10_skip 22 = .ok (.if_icmp .le 5, 3) := by decide +kernel
theorem dX10_skip_25 : decode cX10_skip 25 = .ok (.iconst (-1), 1) := by decide +kernel
theorem dX10_skip_26 : decode cX10_skip 26 = .ok (.ireturn, 1) := by decide +kernel
theorem dX10_skip_27 : decode cX10_skip 27 = .ok (.aload_n 0, 1) := by decide +kernel
theorem dX10_skip_28 : decode cX10_skip 28 = .ok (.getfield 65, 3) := by decide +kernel
theorem dX10_skip_31 : decode cX10_skip 31 = .ok (.aload_n 0, 1) := by decide +kernel
theorem dX10_skip_32 : decode cX10_skip 32 = .ok (.getfield 19, 3) := by decide +kernel
theorem dX10_skip_35 : decode cX10_skip 35 = .ok (.getfield 129, 3) := by decide +kernel
theorem dX10_skip_38 : decode cX10_skip 38 = .ok (.invokevirtual 212, 3) := by decide +kernel
theorem dX10_skip_41 : decode cX10_skip 41 = .ok (.aload_n 0, 1) := by decide +kernel
theorem dX10_skip_42 : decode cX10_skip 42 = .ok (.getfield 19, 3) := by decide +kernel
theorem dX10_skip_45 : decode cX10_skip 45 = .ok (.getfield 129, 3) := by decide +kernel
theorem dX10_skip_48 : decode cX10_skip 48 = .ok (.iload_n 1, 1) := by decide +kernel
theorem dX10_skip_49 : decode cX10_skip 49 = .ok (.iload_n 2, 1) := by decide +kernel
theorem dX10_skip_50 : decode cX10_skip 50 = .ok (.invokevirtual 223, 3) := by decide +kernel
theorem dX10_skip_53 : decode cX10_skip 53 = .ok (.istore_n 3, 1) := by decide +kernel
theorem dX10_skip_54 : decode cX10_skip 54 = .ok (.iload_n 3, 1) := by decide +kernel
theorem dX10_skip_55 : decode cX10_skip 55 = .ok (.ifCond .ne 7, 3) := by decide +kernel
theorem dX10_skip_58 : decode cX10_skip 58 = .ok (.aload_n 0, 1) := by decide +kernel
theorem dX10_skip_59 : decode cX10_skip 59 = .ok (.invokevirtual 220, 3) := by decide +kernel
theorem dX10_skip_62 : decode cX10_skip 62 = .ok (.iload_n 3, 1) := by decide +kernel
theorem dX10_skip_63 : decode cX10_skip 63 = .ok (.ireturn, 1) := by decide +kernel
theorem dX10_days_0 : decode cX10_days 0 = .ok (.iload_n 1, 1) := by decide +kernel
theorem dX10_days_1 : decode cX10_days 1 = .ok (.iconst 1, 1) := by decide +kernel
theorem dX10_days_2 : decode cX10_days 2 = .ok (.if_icmp .lt 10, 3) := by decide +kernel
theorem dX10_days_5 : decode cX10_days 5 = .ok (.iload_n 1, 1) := by decide +kernel
theorem dX10_days_6 : decode cX10_days 6 = .ok (.sipush 999, 3) := by decide +kernel
theorem dX10_days_9 : decode cX10_days 9 = .ok (.if_icmp .le 5, 3) := by decide +kernel
theorem dX10_days_12 : decode cX10_days 12 = .ok (.iconst (-1), 1) := by decide +kernel
theorem dX10_days_13 : decode cX10_days 13 = .ok (.ireturn, 1) := by decide +kernel
theorem dX10_days_14 : decode cX10_days 14 = .ok (.aload_n 0, 1) := by decide +kernel
theorem dX10_days_15 : decode cX10_days 15 = .ok (.getfield 65, 3) := by decide +kernel
theorem dX10_days_18 : decode cX10_days 18 = .ok (.aload_n 0, 1) := by decide +kernel
theorem dX10_days_19 : decode cX10_days 19 = .ok (.getfield 19, 3) := by decide +kernel
theorem dX10_days_22 : decode cX10_days 22 = .ok (.getfield 129, 3) := by decide +kernel
theorem dX10_days_25 : decode cX10_days 25 = .ok (.invokevirtual 212, 3) := by decide +kernel
theorem dX10_days_28 : decode cX10_days 28 = .ok (.aload_n 0, 1) := by decide +kernel
theorem dX10_days_29 : decode cX10_days 29 = .ok (.getfield 19, 3) := by decide +kernel
theorem dX10_days_32 : decode cX10_days 32 = .ok (.getfield 129, 3) := by decide +kernel
theorem dX10_days_35 : decode cX10_days 35 = .ok (.iload_n 1, 1) := by decide +kernel
theorem dX10_days_36 : decode cX10_days 36 = .ok (.invokevirtual 226, 3) := by decide +kernel
theorem dX10_days_39 : decode cX10_days 39 = .ok (.istore_n 2, 1) := by decide +kernel
theorem dX10_days_40 : decode cX10_days 40 = .ok (.iload_n 2, 1) := by decide +kernel
theorem dX10_days_41 : decode cX10_days 41 = .ok (.ifCond .le 7, 3) := by decide +kernel
theorem dX10_days_44 : decode cX10_days 44 = .ok (.aload_n 0, 1) := by decide +kernel
theorem dX10_days_45 : decode cX10_days 45 = .ok (.invokevirtual 220, 3) := by decide +kernel
theorem dX10_days_48 : decode cX10_days 48 = .ok (.iload_n 2, 1) := by decide +kernel
theorem dX10_days_49 : decode cX10_days 49 = .ok (.ireturn, 1) := by decide +kernel
theorem dX10_undo_0 : decode cX10_undo 0 = .ok (.aload_n 0, 1) := by decide +kernel
theorem dX10_undo_1 : decode cX10_undo 1 = .ok (.getfield 113, 3) := by decide +kernel
theorem dX10_undo_4 : decode cX10_undo 4 = .ok (.iconst 1, 1) := by decide +kernel
theorem dX10_undo_5 : decode cX10_undo 5 = .ok (.if_icmp .lt 15, 3) := by decide +kernel
theorem dX10_undo_8 : decode cX10_undo 8 = .ok (.aload_n 0, 1) := by decide +kernel
theorem dX10_undo_9 : decode cX10_undo 9 = .ok (.getfield 113, 3) := by decide +kernel
theorem dX10_undo_12 : decode cX10_undo 12 = .ok (.aload_n 0, 1) := by decide +kernel
theorem dX10_undo_13 : decode cX10_undo 13 = .ok (.getfield 72, 3) := by decide +kernel
theorem dX10_undo_16 : decode cX10_undo 16 = .ok (.arraylength, 1) := by decide +kernel
theorem dX10_undo_17 : decode cX10_undo 17 = .ok (.if_icmp .le 5, 3) := by decide +kernel
theorem dX10_undo_20 : decode cX10_undo 20 = .ok (.iconst (-1), 1) := by decide +kernel
theorem dX10_undo_21 : decode cX10_undo 21 = .ok (.ireturn, 1) := by decide +kernel
theorem dX10_undo_22 : decode cX10_undo 22 = .ok (.aload_n 0, 1) := by decide +kernel
theorem dX10_undo_23 : decode cX10_undo 23 = .ok (.dup, 1) := by decide +kernel
theorem dX10_undo_24 : decode cX10_undo 24 = .ok (.getfield 113, 3) := by decide +kernel
theorem dX10_undo_27 : decode cX10_undo 27 = .ok (.iconst 1, 1) := by decide +kernel
theorem dX10_undo_28 : decode cX10_undo 28 = .ok (.isub, 1) := by decide +kernel
theorem dX10_undo_29 : decode cX10_undo 29 = .ok (.putfield 113, 3) := by decide +kernel
theorem dX10_undo_32 : decode cX10_undo 32 = .ok (.aload_n 0, 1) := by decide +kernel
theorem dX10_undo_33 : decode cX10_undo 33 = .ok (.getfield 19, 3) := by decide +kernel
theorem dX10_undo_36 : decode cX10_undo 36 = .ok (.getfield 129, 3) := by decide +kernel
theorem dX10_undo_39 : decode cX10_undo 39 = .ok (.aload_n 0, 1) := by decide +kernel
theorem dX10_undo_40 : decode cX10_undo 40 = .ok (.getfield 72, 3) := by decide +kernel
theorem dX10_undo_43 : decode cX10_undo 43 = .ok (.aload_n 0, 1) := by decide +kernel
theorem dX10_undo_44 : decode cX10_undo 44 = .ok (.getfield 113, 3) := by decide +kernel
theorem dX10_undo_47 : decode cX10_undo 47 = .ok (.aaload, 1) := by decide +kernel
theorem dX10_undo_48 : decode cX10_undo 48 = .ok (.invokevirtual 212, 3) := by decide +kernel
theorem dX10_undo_51 : decode cX10_undo 51 = .ok (.aload_n 0, 1) := by decide +kernel
theorem dX10_undo_52 : decode cX10_undo 52 = .ok (.getfield 113, 3) := by decide +kernel
theorem dX10_undo_55 : decode cX10_undo 55 = .ok (.ireturn, 1) := by decide +kernel
theorem dX10_next_0 : decode cX10_next 0 = .ok (.aload_n 0, 1) := by decide +kernel
theorem dX10_next_1 : decode cX10_next 1 = .ok (.getfield 19, 3) := by decide +kernel
theorem dX10_next_4 : decode cX10_next 4 = .ok (.getfield 116, 3) := by decide +kernel
theorem dX10_next_7 : decode cX10_next 7 = .ok (.iload_n 1, 1) := by decide +kernel
theorem dX10_next_8 : decode cX10_next 8 = .ok (.invokevirtual 169, 3) := by decide +kernel
theorem dX10_next_11 : decode cX10_next 11 = .ok (.ifCond .eq 15, 3) := by decide +kernel
theorem dX10_next_14 : decode cX10_next 14 = .ok (.aload_n 0, 1) := by decide +kernel
theorem dX10_next_15 : decode cX10_next 15 = .ok (.getfield 19, 3) := by decide +kernel
theorem dX10_next_18 : decode cX10_next 18 = .ok (.iload_n 1, 1) := by decide +kernel
theorem dX10_next_19 : decode cX10_next 19 = .ok (.iconst 0, 1) := by decide +kernel
theorem dX10_next_20 : decode cX10_next 20 = .ok (.invokevirtual 229, 3) := by decide +kernel
theorem dX10_next_23 : decode cX10_next 23 = .ok (.goto 4, 3) := by decide +kernel
theorem dX10_next_26 : decode cX10_next 26 = .ok (.iconst (-1), 1) := by decide +kernel
theorem dX10_next_27 : decode cX10_next 27 = .ok (.ireturn, 1) := by decide +kernel
theorem dX10_falls_0 : decode cX10_falls 0 = .ok (.aload_n 0, 1) := by decide +kernel
theorem dX10_falls_1 : decode cX10_falls 1 = .ok (.getfield 19, 3) := by decide +kernel
theorem dX10_falls_4 : decode cX10_falls 4 = .ok (.getfield 116, 3) := by decide +kernel
theorem dX10_falls_7 : decode cX10_falls 7 = .ok (.iload_n 1, 1) := by decide +kernel
theorem dX10_falls_8 : decode cX10_falls 8 = .ok (.invokevirtual 169, 3) := by decide +kernel
theorem dX10_falls_11 : decode cX10_falls 11 = .ok (.ifCond .eq 30, 3) := by decide +kernel
theorem dX10_falls_14 : decode cX10_falls 14 = .ok (.iload_n 2, 1) := by decide +kernel
theorem dX10_falls_15 : decode cX10_falls 15 = .ok (.ifCond .lt 26, 3) := by decide +kernel
theorem dX10_falls_18 : decode cX10_falls 18 = .ok (.iload_n 2, 1) := by decide +kernel
theorem dX10_falls_19 : decode cX10_falls 19 = .ok (.sipush 9999, 3) := by decide +kernel
theorem dX10_falls_22 : decode cX10_falls 22 = .ok (.if_icmp .gt 19, 3) := by decide +kernel
theorem dX10_falls_25 : decode cX10_falls 25 = .ok (.aload_n 0, 1) := by decide +kernel
theorem dX10_falls_26 : decode cX10_falls 26 = .ok (.getfield 47, 3) := by decide +kernel
theorem dX10_falls_29 : decode cX10_falls 29 = .ok (.aload_n 0, 1) := by decide +kernel
theorem dX10_falls_30 : decode cX10_falls 30 = .ok (.getfield 19, 3) := by decide +kernel
theorem dX10_falls_33 : decode cX10_falls 33 = .ok (.iload_n 1, 1) := by decide +kernel
theorem dX10_falls_34 : decode cX10_falls 34 = .ok (.iload_n 2, 1) := by decide +kernel
theorem dX10_falls_35 : decode cX10_falls 35 = .ok (.invokevirtual 232, 3) := by decide +kernel
theorem dX10_falls_38 : decode cX10_falls 38 = .ok (.goto 4, 3) := by decide +kernel
theorem dX10_falls_41 : decode cX10_falls 41 = .ok (.iconst (-1), 1) := by decide +kernel
theorem dX10_falls_42 : decode cX10_falls 42 = .ok (.ireturn, 1) := by decide +kernel
theorem dX10_meet_0 : decode cX10_meet 0 = .ok (.aload_n 0, 1) := by decide +kernel
theorem dX10_meet_1 : decode cX10_meet 1 = .ok (.getfield 19, 3) := by decide +kernel
theorem dX10_meet_4 : decode cX10_meet 4 = .ok (.getfield 116, 3) := by decide +kernel
theorem dX10_meet_7 : decode cX10_meet 7 = .ok (.iload_n 1, 1) := by decide +kernel
theorem dX10_meet_8 : decode cX10_meet 8 = .ok (.invokevirtual 169, 3) := by decide +kernel
theorem dX10_meet_11 : decode cX10_meet 11 = .ok (.ifCond .eq 33, 3) := by decide +kernel
theorem dX10_meet_14 : decode cX10_meet 14 = .ok (.aload_n 0, 1) := by decide +kernel
theorem dX10_meet_15 : decode cX10_meet 15 = .ok (.getfield 19, 3) := by decide +kernel
theorem dX10_meet_18 : decode cX10_meet 18 = .ok (.getfield 116, 3) := by decide +kernel
theorem dX10_meet_21 : decode cX10_meet 21 = .ok (.iload_n 2, 1) := by decide +kernel
theorem dX10_meet_22 : decode cX10_meet 22 = .ok (.invokevirtual 169, 3) := by decide +kernel
theorem dX10_meet_25 : decode cX10_meet 25 = .ok (.ifCond .eq 19, 3) := by decide +kernel
theorem dX10_meet_28 : decode cX10_meet 28 = .ok (.aload_n 0, 1) := by decide +kernel
theorem dX10_meet_29 : decode cX10_meet 29 = .ok (.getfield 47, 3) := by decide +kernel
theorem dX10_meet_32 : decode cX10_meet 32 = .ok (.aload_n 0, 1) := by decide +kernel
theorem dX10_meet_33 : decode cX10_meet 33 = .ok (.getfield 19, 3) := by decide +kernel
theorem dX10_meet_36 : decode cX10_meet 36 = .ok (.iload_n 1, 1) := by decide +kernel
theorem dX10_meet_37 : decode cX10_meet 37 = .ok (.iload_n 2, 1) := by decide +kernel
theorem dX10_meet_38 : decode cX10_meet 38 = .ok (.invokevirtual 236, 3) := by decide +kernel
theorem dX10_meet_41 : decode cX10_meet 41 = .ok (.goto 4, 3) := by decide +kernel
theorem dX10_meet_44 : decode cX10_meet 44 = .ok (.iconst (-1), 1) := by decide +kernel
theorem dX10_meet_45 : decode cX10_meet 45 = .ok (.ireturn, 1) := by decide +kernel
theorem dX10_fair_0 : decode cX10_fair 0 = .ok (.iload_n 1, 1) := by decide +kernel
theorem dX10_fair_1 : decode cX10_fair 1 = .ok (.ifCond .le 34, 3) := by decide +kernel
theorem dX10_fair_4 : decode cX10_fair 4 = .ok (.iload_n 1, 1) := by decide +kernel
theorem dX10_fair_5 : decode cX10_fair 5 = .ok (.iconst 1, 1) := by decide +kernel
theorem dX10_fair_6 : decode cX10_fair 6 = .ok (.aload_n 0, 1) := by decide +kernel
theorem dX10_fair_7 : decode cX10_fair 7 = .ok (.getfield 19, 3) := by decide +kernel
theorem dX10_fair_10 : decode cX10_fair 10 = .ok (.getfield 116, 3) := by decide +kernel
theorem dX10_fair_13 : decode cX10_fair 13 = .ok (.getfield 239, 3) := by decide +kernel
theorem dX10_fair_16 : decode cX10_fair 16 = .ok (.ishl, 1) := by decide +kernel
theorem dX10_fair_17 : decode cX10_fair 17 = .ok (.if_icmp .ge 18, 3) := by decide +kernel
theorem dX10_fair_20 : decode cX10_fair 20 = .ok (.aload_n 0, 1) := by decide +kernel
theorem dX10_fair_21 : decode cX10_fair 21 = .ok (.getfield 47, 3) := by decide +kernel
theorem dX10_fair_24 : decode cX10_fair 24 = .ok (.aload_n 0, 1) := by decide +kernel
theorem dX10_fair_25 : decode cX10_fair 25 = .ok (.getfield 19, 3) := by decide +kernel
theorem dX10_fair_28 : decode cX10_fair 28 = .ok (.iload_n 1, 1) := by decide +kernel
theorem dX10_fair_29 : decode cX10_fair 29 = .ok (.invokevirtual 242, 3) := by decide +kernel
theorem dX10_fair_32 : decode cX10_fair 32 = .ok (.goto 4, 3) := by decide +kernel
theorem dX10_fair_35 : decode cX10_fair 35 = .ok (.iconst (-1), 1) := by decide +kernel
theorem dX10_fair_36 : decode cX10_fair 36 = .ok (.ireturn, 1) := by decide +kernel
theorem dX10_tune_0 : decode cX10_tune 0 = .ok (.aload_n 0, 1) := by decide +kernel
theorem dX10_tune_1 : decode cX10_tune 1 = .ok (.getfield 19, 3) := by decide +kernel
theorem dX10_tune_4 : decode cX10_tune 4 = .ok (.getfield 116, 3) := by decide +kernel
theorem dX10_tune_7 : decode cX10_tune 7 = .ok (.iload_n 1, 1) := by decide +kernel
theorem dX10_tune_8 : decode cX10_tune 8 = .ok (.invokevirtual 119, 3) := by decide +kernel
theorem dX10_tune_11 : decode cX10_tune 11 = .ok (.ifCond .eq 33, 3) := by decide +kernel
theorem dX10_tune_14 : decode cX10_tune 14 = .ok (.iload_n 2, 1) := by decide +kernel
theorem dX10_tune_15 : decode cX10_tune 15 = .ok (.iconst 1, 1) := by decide +kernel
theorem dX10_tune_16 : decode cX10_tune 16 = .ok (.if_icmp .lt 28, 3) := by decide +kernel
theorem dX10_tune_19 : decode cX10_tune 19 = .ok (.iload_n 2, 1) := by decide +kernel
theorem dX10_tune_20 : decode cX10_tune 20 = .ok (.bipush 30, 2) := by decide +kernel
theorem dX10_tune_22 : decode cX10_tune 22 = .ok (.if_icmp .gt 22, 3) := by decide +kernel
theorem dX10_tune_25 : decode cX10_tune 25 = .ok (.aload_n 0, 1) := by decide +kernel
theorem dX10_tune_26 : decode cX10_tune 26 = .ok (.getfield 47, 3) := by decide +kernel
theorem dX10_tune_29 : decode cX10_tune 29 = .ok (.aload_n 0, 1) := by decide +kernel
theorem dX10_tune_30 : decode cX10_tune 30 = .ok (.getfield 19, 3) := by decide +kernel
theorem dX10_tune_33 : decode cX10_tune 33 = .ok (.getfield 116, 3) := by decide +kernel
theorem dX10_tune_36 : decode cX10_tune 36 = .ok (.iload_n 1, 1) := by decide +kernel
theorem dX10_tune_37 : decode cX10_tune 37 = .ok (.iload_n 2, 1) := by decide +kernel
theorem dX10_tune_38 : decode cX10_tune 38 = .ok (.invokevirtual 250, 3) := by decide +kernel
theorem dX10_tune_41 : decode cX10_tune 41 = .ok (.goto 4, 3) := by decide +kernel
theorem dX10_tune_44 : decode cX10_tune 44 = .ok (.iconst (-1), 1) := by decide +kernel
theorem dX10_tune_45 : decode cX10_tune 45 = .ok (.ireturn, 1) := by decide +kernel
theorem dX10_tuned_0 : decode cX10_tuned 0 = .ok (.aload_n 0, 1) := by decide +kernel
theorem dX10_tuned_1 : decode cX10_tuned 1 = .ok (.getfield 47, 3) := by decide +kernel
theorem dX10_tuned_4 : decode cX10_tuned 4 = .ok (.getfield 253, 3) := by decide +kernel
theorem dX10_tuned_7 : decode cX10_tuned 7 = .ok (.ireturn, 1) := by decide +kernel
theorem dX10_agree_0 : decode cX10_agree 0 = .ok (.aload_n 0, 1) := by decide +kernel
theorem dX10_agree_1 : decode cX10_agree 1 = .ok (.iload_n 1, 1) := by decide +kernel
theorem dX10_agree_2 : decode cX10_agree 2 = .ok (.iload_n 2, 1) := by decide +kernel
theorem dX10_agree_3 : decode cX10_agree 3 = .ok (.invokevirtual 256, 3) := by decide +kernel
theorem dX10_agree_6 : decode cX10_agree 6 = .ok (.ifCond .eq 19, 3) := by decide +kernel
theorem dX10_agree_9 : decode cX10_agree 9 = .ok (.aload_n 0, 1) := by decide +kernel
theorem dX10_agree_10 : decode cX10_agree 10 = .ok (.getfield 47, 3) := by decide +kernel
theorem dX10_agree_13 : decode cX10_agree 13 = .ok (.aload_n 0, 1) := by decide +kernel
theorem dX10_agree_14 : decode cX10_agree 14 = .ok (.getfield 19, 3) := by decide +kernel
theorem dX10_agree_17 : decode cX10_agree 17 = .ok (.iload_n 1, 1) := by decide +kernel
theorem dX10_agree_18 : decode cX10_agree 18 = .ok (.iload_n 2, 1) := by decide +kernel
theorem dX10_agree_19 : decode cX10_agree 19 = .ok (.invokevirtual 259, 3) := by decide +kernel
theorem dX10_agree_22 : decode cX10_agree 22 = .ok (.goto 4, 3) := by decide +kernel
theorem dX10_agree_25 : decode cX10_agree 25 = .ok (.iconst (-1), 1) := by decide +kernel
theorem dX10_agree_26 : decode cX10_agree 26 = .ok (.ireturn, 1) := by decide +kernel
theorem dX10_agreeing_0 : decode cX10_agreeing 0 = .ok (.aload_n 0, 1) := by decide +kernel
theorem dX10_agreeing_1 : decode cX10_agreeing 1 = .ok (.getfield 47, 3) := by decide +kernel
theorem dX10_agreeing_4 : decode cX10_agreeing 4 = .ok (.getfield 262, 3) := by decide +kernel
theorem dX10_agreeing_7 : decode cX10_agreeing 7 = .ok (.ireturn, 1) := by decide +kernel
theorem dX10_match_0 : decode cX10_match 0 = .ok (.aload_n 0, 1) := by decide +kernel
theorem dX10_match_1 : decode cX10_match 1 = .ok (.iload_n 1, 1) := by decide +kernel
theorem dX10_match_2 : decode cX10_match 2 = .ok (.iload_n 2, 1) := by decide +kernel
theorem dX10_match_3 : decode cX10_match 3 = .ok (.invokevirtual 256, 3) := by decide +kernel
theorem dX10_match_6 : decode cX10_match 6 = .ok (.ifCond .eq 31, 3) := by decide +kernel
theorem dX10_match_9 : decode cX10_match 9 = .ok (.iload_n 3, 1) := by decide +kernel
theorem dX10_match_10 : decode cX10_match 10 = .ok (.ifCond .lt 27, 3) := by decide +kernel
theorem dX10_match_13 : decode cX10_match 13 = .ok (.iload_n 3, 1) := by decide +kernel
theorem dX10_match_14 : decode cX10_match 14 = .ok (.sipush 999, 3) := by decide +kernel
theorem dX10_match_17 : decode cX10_match 17 = .ok (.if_icmp .gt 20, 3) := by decide +kernel
theorem dX10_match_20 : decode cX10_match 20 = .ok (.aload_n 0, 1) := by decide +kernel
theorem dX10_match_21 : decode cX10_match 21 = .ok (.getfield 47, 3) := by decide +kernel
theorem dX10_match_24 : decode cX10_match 24 = .ok (.aload_n 0, 1) := by decide +kernel
theorem dX10_match_25 : decode cX10_match 25 = .ok (.getfield 19, 3) := by decide +kernel
theorem dX10_match_28 : decode cX10_match 28 = .ok (.iload_n 1, 1) := by decide +kernel
theorem dX10_match_29 : decode cX10_match 29 = .ok (.iload_n 2, 1) := by decide +kernel
theorem dX10_match_30 : decode cX10_match 30 = .ok (.iload_n 3, 1) := by decide +kernel
theorem dX10_match_31 : decode cX10_match 31 = .ok (.invokevirtual 265, 3) := by decide +kernel
theorem dX10_match_34 : decode cX10_match 34 = .ok (.goto 4, 3) := by decide +kernel
theorem dX10_match_37 : decode cX10_match 37 = .ok (.iconst (-1), 1) := by decide +kernel
theorem dX10_match_38 : decode cX10_match 38 = .ok (.ireturn, 1) := by decide +kernel
theorem dX10_matchOn_0 : decode cX10_matchOn 0 = .ok (.aload_n 0, 1) := by decide +kernel
theorem dX10_matchOn_1 : decode cX10_matchOn 1 = .ok (.getfield 47, 3) := by decide +kernel
theorem dX10_matchOn_4 : decode cX10_matchOn 4 = .ok (.getfield 269, 3) := by decide +kernel
theorem dX10_matchOn_7 : decode cX10_matchOn 7 = .ok (.ireturn, 1) := by decide +kernel
theorem dX10_reform_0 : decode cX10_reform 0 = .ok (.aload_n 0, 1) := by decide +kernel
theorem dX10_reform_1 : decode cX10_reform 1 = .ok (.getfield 47, 3) := by decide +kernel
theorem dX10_reform_4 : decode cX10_reform 4 = .ok (.aload_n 0, 1) := by decide +kernel
theorem dX10_reform_5 : decode cX10_reform 5 = .ok (.getfield 19, 3) := by decide +kernel
theorem dX10_reform_8 : decode cX10_reform 8 = .ok (.invokevirtual 272, 3) := by decide +kernel
theorem dX10_reform_11 : decode cX10_reform 11 = .ok (.ireturn, 1) := by decide +kernel
theorem dX10_reformTo_0 : decode cX10_reformTo 0 = .ok (.aload_n 0, 1) := by decide +kernel
theorem dX10_reformTo_1 : decode cX10_reformTo 1 = .ok (.getfield 47, 3) := by decide +kernel
theorem dX10_reformTo_4 : decode cX10_reformTo 4 = .ok (.getfield 276, 3) := by decide +kernel
theorem dX10_reformTo_7 : decode cX10_reformTo 7 = .ok (.ireturn, 1) := by decide +kernel
theorem dX10_play_0 : decode cX10_play 0 = .ok (.aload_n 0, 1) := by decide +kernel
theorem dX10_play_1 : decode cX10_play 1 = .ok (.iload_n 1, 1) := by decide +kernel
theorem dX10_play_2 : decode cX10_play 2 = .ok (.iload_n 2, 1) := by decide +kernel
theorem dX10_play_3 : decode cX10_play 3 = .ok (.invokevirtual 256, 3) := by decide +kernel
theorem dX10_play_6 : decode cX10_play 6 = .ok (.ifCond .eq 31, 3) := by decide +kernel
theorem dX10_play_9 : decode cX10_play 9 = .ok (.iload_n 3, 1) := by decide +kernel
theorem dX10_play_10 : decode cX10_play 10 = .ok (.iconst 1, 1) := by decide +kernel
theorem dX10_play_11 : decode cX10_play 11 = .ok (.if_icmp .lt 26, 3) := by decide +kernel
theorem dX10_play_14 : decode cX10_play 14 = .ok (.iload_n 3, 1) := by decide +kernel
theorem dX10_play_15 : decode cX10_play 15 = .ok (.bipush 9, 2) := by decide +kernel
theorem dX10_play_17 : decode cX10_play 17 = .ok (.if_icmp .gt 20, 3) := by decide +kernel
theorem dX10_play_20 : decode cX10_play 20 = .ok (.aload_n 0, 1) := by decide +kernel
theorem dX10_play_21 : decode cX10_play 21 = .ok (.getfield 47, 3) := by decide +kernel
theorem dX10_play_24 : decode cX10_play 24 = .ok (.aload_n 0, 1) := by decide +kernel
theorem dX10_play_25 : decode cX10_play 25 = .ok (.getfield 19, 3) := by decide +kernel
theorem dX10_play_28 : decode cX10_play 28 = .ok (.iload_n 1, 1) := by decide +kernel
theorem dX10_play_29 : decode cX10_play 29 = .ok (.iload_n 2, 1) := by decide +kernel
theorem dX10_play_30 : decode cX10_play 30 = .ok (.iload_n 3, 1) := by decide +kernel
theorem dX10_play_31 : decode cX10_play 31 = .ok (.invokevirtual 279, 3) := by decide +kernel
theorem dX10_play_34 : decode cX10_play 34 = .ok (.goto 4, 3) := by decide +kernel
theorem dX10_play_37 : decode cX10_play 37 = .ok (.iconst (-1), 1) := by decide +kernel
theorem dX10_play_38 : decode cX10_play 38 = .ok (.ireturn, 1) := by decide +kernel
theorem dX10_crowd_0 : decode cX10_crowd 0 = .ok (.iload_n 1, 1) := by decide +kernel
theorem dX10_crowd_1 : decode cX10_crowd 1 = .ok (.ifCond .lt 25, 3) := by decide +kernel
theorem dX10_crowd_4 : decode cX10_crowd 4 = .ok (.iload_n 1, 1) := by decide +kernel
theorem dX10_crowd_5 : decode cX10_crowd 5 = .ok (.sipush 999, 3) := by decide +kernel
theorem dX10_crowd_8 : decode cX10_crowd 8 = .ok (.if_icmp .gt 18, 3) := by decide +kernel
theorem dX10_crowd_11 : decode cX10_crowd 11 = .ok (.aload_n 0, 1) := by decide +kernel
theorem dX10_crowd_12 : decode cX10_crowd 12 = .ok (.getfield 47, 3) := by decide +kernel
theorem dX10_crowd_15 : decode cX10_crowd 15 = .ok (.aload_n 0, 1) := by decide +kernel
theorem dX10_crowd_16 : decode cX10_crowd 16 = .ok (.getfield 19, 3) := by decide +kernel
theorem dX10_crowd_19 : decode cX10_crowd 19 = .ok (.iload_n 1, 1) := by decide +kernel
theorem dX10_crowd_20 : decode cX10_crowd 20 = .ok (.invokevirtual 282, 3) := by decide +kernel
theorem dX10_crowd_23 : decode cX10_crowd 23 = .ok (.goto 4, 3) := by decide +kernel
theorem dX10_crowd_26 : decode cX10_crowd 26 = .ok (.iconst (-1), 1) := by decide +kernel
theorem dX10_crowd_27 : decode cX10_crowd 27 = .ok (.ireturn, 1) := by decide +kernel
theorem dX10_crowdOn_0 : decode cX10_crowdOn 0 = .ok (.aload_n 0, 1) := by decide +kernel
theorem dX10_crowdOn_1 : decode cX10_crowdOn 1 = .ok (.getfield 47, 3) := by decide +kernel
theorem dX10_crowdOn_4 : decode cX10_crowdOn 4 = .ok (.getfield 285, 3) := by decide +kernel
theorem dX10_crowdOn_7 : decode cX10_crowdOn 7 = .ok (.ireturn, 1) := by decide +kernel
theorem dX10_wrote_0 : decode cX10_wrote 0 = .ok (.aload_n 0, 1) := by decide +kernel
theorem dX10_wrote_1 : decode cX10_wrote 1 = .ok (.invokevirtual 288, 3) := by decide +kernel
theorem dX10_wrote_4 : decode cX10_wrote 4 = .ok (.ifCond .eq 21, 3) := by decide +kernel
theorem dX10_wrote_7 : decode cX10_wrote 7 = .ok (.aload_n 0, 1) := by decide +kernel
theorem dX10_wrote_8 : decode cX10_wrote 8 = .ok (.getfield 47, 3) := by decide +kernel
theorem dX10_wrote_11 : decode cX10_wrote 11 = .ok (.aload_n 0, 1) := by decide +kernel
theorem dX10_wrote_12 : decode cX10_wrote 12 = .ok (.getfield 19, 3) := by decide +kernel
theorem dX10_wrote_15 : decode cX10_wrote 15 = .ok (.aload_n 0, 1) := by decide +kernel
theorem dX10_wrote_16 : decode cX10_wrote 16 = .ok (.getfield 58, 3) := by decide +kernel
theorem dX10_wrote_19 : decode cX10_wrote 19 = .ok (.invokevirtual 292, 3) := by decide +kernel
theorem dX10_wrote_22 : decode cX10_wrote 22 = .ok (.goto 4, 3) := by decide +kernel
theorem dX10_wrote_25 : decode cX10_wrote 25 = .ok (.iconst (-1), 1) := by decide +kernel
theorem dX10_wrote_26 : decode cX10_wrote 26 = .ok (.ireturn, 1) := by decide +kernel
theorem dX10_ago_0 : decode cX10_ago 0 = .ok (.aload_n 0, 1) := by decide +kernel
theorem dX10_ago_1 : decode cX10_ago 1 = .ok (.invokevirtual 288, 3) := by decide +kernel
theorem dX10_ago_4 : decode cX10_ago 4 = .ok (.istore_n 2, 1) := by decide +kernel
theorem dX10_ago_5 : decode cX10_ago 5 = .ok (.iload_n 2, 1) := by decide +kernel
theorem dX10_ago_6 : decode cX10_ago 6 = .ok (.ifCond .eq 36, 3) := by decide +kernel
theorem dX10_ago_9 : decode cX10_ago 9 = .ok (.aload_n 0, 1) := by decide +kernel
theorem dX10_ago_10 : decode cX10_ago 10 = .ok (.getfield 19, 3) := by decide +kernel
theorem dX10_ago_13 : decode cX10_ago 13 = .ok (.getfield 116, 3) := by decide +kernel
theorem dX10_ago_16 : decode cX10_ago 16 = .ok (.iload_n 1, 1) := by decide +kernel
theorem dX10_ago_17 : decode cX10_ago 17 = .ok (.invokevirtual 119, 3) := by decide +kernel
theorem dX10_ago_20 : decode cX10_ago 20 = .ok (.ifCond .eq 22, 3) := by decide +kernel
theorem dX10_ago_23 : decode cX10_ago 23 = .ok (.aload_n 0, 1) := by decide +kernel
theorem dX10_ago_24 : decode cX10_ago 24 = .ok (.getfield 47, 3) := by decide +kernel
theorem dX10_ago_27 : decode cX10_ago 27 = .ok (.aload_n 0, 1) := by decide +kernel
theorem dX10_ago_28 : decode cX10_ago 28 = .ok (.getfield 19, 3) := by decide +kernel
theorem dX10_ago_31 : decode cX10_ago 31 = .ok (.iload_n 1, 1) := by decide +kernel
theorem dX10_ago_32 : decode cX10_ago 32 = .ok (.aload_n 0, 1) := by decide +kernel
theorem dX10_ago_33 : decode cX10_ago 33 = .ok (.getfield 58, 3) := by decide +kernel
theorem dX10_ago_36 : decode cX10_ago 36 = .ok (.invokevirtual 296, 3) := by decide +kernel
theorem dX10_ago_39 : decode cX10_ago 39 = .ok (.goto 4, 3) := by decide +kernel
theorem dX10_ago_42 : decode cX10_ago 42 = .ok (.iconst (-1), 1) := by decide +kernel
theorem dX10_ago_43 : decode cX10_ago 43 = .ok (.ireturn, 1) := by decide +kernel
theorem dX10_age_0 : decode cX10_age 0 = .ok (.aload_n 0, 1) := by decide +kernel
theorem dX10_age_1 : decode cX10_age 1 = .ok (.getfield 19, 3) := by decide +kernel
theorem dX10_age_4 : decode cX10_age 4 = .ok (.getfield 116, 3) := by decide +kernel
theorem dX10_age_7 : decode cX10_age 7 = .ok (.iload_n 1, 1) := by decide +kernel
theorem dX10_age_8 : decode cX10_age 8 = .ok (.invokevirtual 119, 3) := by decide +kernel
theorem dX10_age_11 : decode cX10_age 11 = .ok (.ifCond .eq 22, 3) := by decide +kernel
theorem dX10_age_14 : decode cX10_age 14 = .ok (.aload_n 0, 1) := by decide +kernel
theorem dX10_age_15 : decode cX10_age 15 = .ok (.getfield 47, 3) := by decide +kernel
theorem dX10_age_18 : decode cX10_age 18 = .ok (.aload_n 0, 1) := by decide +kernel
theorem dX10_age_19 : decode cX10_age 19 = .ok (.getfield 19, 3) := by decide +kernel
theorem dX10_age_22 : decode cX10_age 22 = .ok (.iload_n 1, 1) := by decide +kernel
theorem dX10_age_23 : decode cX10_age 23 = .ok (.iload_n 2, 1) := by decide +kernel
theorem dX10_age_24 : decode cX10_age 24 = .ok (.iload_n 3, 1) := by decide +kernel
theorem dX10_age_25 : decode cX10_age 25 = .ok (.iload 4, 2) := by decide +kernel
theorem dX10_age_27 : decode cX10_age 27 = .ok (.invokevirtual 300, 3) := by decide +kernel
theorem dX10_age_30 : decode cX10_age 30 = .ok (.goto 4, 3) := by decide +kernel
theorem dX10_age_33 : decode cX10_age 33 = .ok (.iconst (-1), 1) := by decide +kernel
theorem dX10_age_34 : decode cX10_age 34 = .ok (.ireturn, 1) := by decide +kernel
theorem dX10_ask_0 : decode cX10_ask 0 = .ok (.aload_n 0, 1) := by decide +kernel
theorem dX10_ask_1 : decode cX10_ask 1 = .ok (.getfield 47, 3) := by decide +kernel
theorem dX10_ask_4 : decode cX10_ask 4 = .ok (.aload_n 0, 1) := by decide +kernel
theorem dX10_ask_5 : decode cX10_ask 5 = .ok (.getfield 19, 3) := by decide +kernel
theorem dX10_ask_8 : decode cX10_ask 8 = .ok (.invokevirtual 304, 3) := by decide +kernel
theorem dX10_ask_11 : decode cX10_ask 11 = .ok (.ireturn, 1) := by decide +kernel
theorem dX10_born_0 : decode cX10_born 0 = .ok (.aload_n 0, 1) := by decide +kernel
theorem dX10_born_1 : decode cX10_born 1 = .ok (.getfield 19, 3) := by decide +kernel
theorem dX10_born_4 : decode cX10_born 4 = .ok (.getfield 116, 3) := by decide +kernel
theorem dX10_born_7 : decode cX10_born 7 = .ok (.iload_n 1, 1) := by decide +kernel
theorem dX10_born_8 : decode cX10_born 8 = .ok (.invokevirtual 119, 3) := by decide +kernel
theorem dX10_born_11 : decode cX10_born 11 = .ok (.ifCond .eq 30, 3) := by decide +kernel
theorem dX10_born_14 : decode cX10_born 14 = .ok (.iload_n 2, 1) := by decide +kernel
theorem dX10_born_15 : decode cX10_born 15 = .ok (.iconst 1, 1) := by decide +kernel
theorem dX10_born_16 : decode cX10_born 16 = .ok (.if_icmp .lt 25, 3) := by decide +kernel
theorem dX10_born_19 : decode cX10_born 19 = .ok (.iload_n 2, 1) := by decide +kernel
theorem dX10_born_20 : decode cX10_born 20 = .ok (.bipush 99, 2) := by decide +kernel
theorem dX10_born_22 : decode cX10_born 22 = .ok (.if_icmp .gt 19, 3) := by decide +kernel
theorem dX10_born_25 : decode cX10_born 25 = .ok (.aload_n 0, 1) := by decide +kernel
theorem dX10_born_26 : decode cX10_born 26 = .ok (.getfield 47, 3) := by decide +kernel
theorem dX10_born_29 : decode cX10_born 29 = .ok (.aload_n 0, 1) := by decide +kernel
theorem dX10_born_30 : decode cX10_born 30 = .ok (.getfield 19, 3) := by decide +kernel
theorem dX10_born_33 : decode cX10_born 33 = .ok (.iload_n 1, 1) := by decide +kernel
theorem dX10_born_34 : decode cX10_born 34 = .ok (.iload_n 2, 1) := by decide +kernel
theorem dX10_born_35 : decode cX10_born 35 = .ok (.invokevirtual 307, 3) := by decide +kernel
theorem dX10_born_38 : decode cX10_born 38 = .ok (.goto 4, 3) := by decide +kernel
theorem dX10_born_41 : decode cX10_born 41 = .ok (.iconst (-1), 1) := by decide +kernel
theorem dX10_born_42 : decode cX10_born 42 = .ok (.ireturn, 1) := by decide +kernel
theorem dX10_title_0 : decode cX10_title 0 = .ok (.aload_n 0, 1) := by decide +kernel
theorem dX10_title_1 : decode cX10_title 1 = .ok (.getfield 19, 3) := by decide +kernel
theorem dX10_title_4 : decode cX10_title 4 = .ok (.getfield 116, 3) := by decide +kernel
theorem dX10_title_7 : decode cX10_title 7 = .ok (.iload_n 1, 1) := by decide +kernel
theorem dX10_title_8 : decode cX10_title 8 = .ok (.invokevirtual 119, 3) := by decide +kernel
theorem dX10_title_11 : decode cX10_title 11 = .ok (.ifCond .ne 5, 3) := by decide +kernel
theorem dX10_title_14 : decode cX10_title 14 = .ok (.iconst (-1), 1) := by decide +kernel
theorem dX10_title_15 : decode cX10_title 15 = .ok (.ireturn, 1) := by decide +kernel
theorem dX10_title_16 : decode cX10_title 16 = .ok (.aload_n 0, 1) := by decide +kernel
theorem dX10_title_17 : decode cX10_title 17 = .ok (.getfield 54, 3) := by decide +kernel
theorem dX10_title_20 : decode cX10_title 20 = .ok (.aload_n 0, 1) := by decide +kernel
theorem dX10_title_21 : decode cX10_title 21 = .ok (.getfield 19, 3) := by decide +kernel
theorem dX10_title_24 : decode cX10_title 24 = .ok (.iload_n 1, 1) := by decide +kernel
theorem dX10_title_25 : decode cX10_title 25 = .ok (.invokevirtual 310, 3) := by decide +kernel
theorem dX10_title_28 : decode cX10_title 28 = .ok (.aload_n 0, 1) := by decide +kernel
theorem dX10_title_29 : decode cX10_title 29 = .ok (.getfield 54, 3) := by decide +kernel
theorem dX10_title_32 : decode cX10_title 32 = .ok (.getfield 314, 3) := by decide +kernel
theorem dX10_title_35 : decode cX10_title 35 = .ok (.ireturn, 1) := by decide +kernel
theorem dX10_byteAt_0 : decode cX10_byteAt 0 = .ok (.aload_n 0, 1) := by decide +kernel
theorem dX10_byteAt_1 : decode cX10_byteAt 1 = .ok (.getfield 54, 3) := by decide +kernel
theorem dX10_byteAt_4 : decode cX10_byteAt 4 = .ok (.iload_n 1, 1) := by decide +kernel
theorem dX10_byteAt_5 : decode cX10_byteAt 5 = .ok (.invokevirtual 315, 3) := by decide +kernel
theorem dX10_byteAt_8 : decode cX10_byteAt 8 = .ok (.ifCond .eq 15, 3) := by decide +kernel
theorem dX10_byteAt_11 : decode cX10_byteAt 11 = .ok (.aload_n 0, 1) := by decide +kernel
theorem dX10_byteAt_12 : decode cX10_byteAt 12 = .ok (.getfield 54, 3) := by decide +kernel
theorem dX10_byteAt_15 : decode cX10_byteAt 15 = .ok (.getfield 318, 3) := by decide +kernel
theorem dX10_byteAt_18 : decode cX10_byteAt 18 = .ok (.iload_n 1, 1) := by decide +kernel
theorem dX10_byteAt_19 : decode cX10_byteAt 19 = .ok (.baload, 1) := by decide +kernel
theorem dX10_byteAt_20 : decode cX10_byteAt 20 = .ok (.goto 4, 3) := by decide +kernel
theorem dX10_byteAt_23 : decode cX10_byteAt 23 = .ok (.iconst (-1), 1) := by decide +kernel
theorem dX10_byteAt_24 : decode cX10_byteAt 24 = .ok (.ireturn, 1) := by decide +kernel
theorem dX10_drawn_0 : decode cX10_drawn 0 = .ok (.iload_n 1, 1) := by decide +kernel
theorem dX10_drawn_1 : decode cX10_drawn 1 = .ok (.iconst 1, 1) := by decide +kernel
theorem dX10_drawn_2 : decode cX10_drawn 2 = .ok (.if_icmp .lt 9, 3) := by decide +kernel
theorem dX10_drawn_5 : decode cX10_drawn 5 = .ok (.iload_n 1, 1) := by decide +kernel
theorem dX10_drawn_6 : decode cX10_drawn 6 = .ok (.bipush 99, 2) := by decide +kernel
theorem dX10_drawn_8 : decode cX10_drawn 8 = .ok (.if_icmp .le 5, 3) := by decide +kernel
theorem dX10_drawn_11 : decode cX10_drawn 11 = .ok (.iconst (-1), 1) := by decide +kernel
theorem dX10_drawn_12 : decode cX10_drawn 12 = .ok (.ireturn, 1) := by decide +kernel
theorem dX10_drawn_13 : decode cX10_drawn 13 = .ok (.aload_n 0, 1) := by decide +kernel
theorem dX10_drawn_14 : decode cX10_drawn 14 = .ok (.getfield 65, 3) := by decide +kernel
theorem dX10_drawn_17 : decode cX10_drawn 17 = .ok (.aload_n 0, 1) := by decide +kernel
theorem dX10_drawn_18 : decode cX10_drawn 18 = .ok (.getfield 19, 3) := by decide +kernel
theorem dX10_drawn_21 : decode cX10_drawn 21 = .ok (.getfield 129, 3) := by decide +kernel
theorem dX10_drawn_24 : decode cX10_drawn 24 = .ok (.invokevirtual 212, 3) := by decide +kernel
theorem dX10_drawn_27 : decode cX10_drawn 27 = .ok (.iconst 0, 1) := by decide +kernel
theorem dX10_drawn_28 : decode cX10_drawn 28 = .ok (.istore_n 3, 1) := by decide +kernel
theorem dX10_drawn_29 : decode cX10_drawn 29 = .ok (.iload_n 2, 1) := by decide +kernel
theorem dX10_drawn_30 : decode cX10_drawn 30 = .ok (.istore 4, 2) := by decide +kernel
theorem dX10_drawn_32 : decode cX10_drawn 32 = .ok (.iload_n 3, 1) := by decide +kernel
theorem dX10_drawn_33 : decode cX10_drawn 33 = .ok (.iload_n 1, 1) := by decide +kernel
theorem dX10_drawn_34 : decode cX10_drawn 34 = .ok (.if_icmp .ge 39, 3) := by decide +kernel
theorem dX10_drawn_37 : decode cX10_drawn 37 = .ok (.aload_n 0, 1) := by decide +kernel
theorem dX10_drawn_38 : decode cX10_drawn 38 = .ok (.getfield 19, 3) := by decide +kernel
theorem dX10_drawn_41 : decode cX10_drawn 41 = .ok (.getfield 129, 3) := by decide +kernel
theorem dX10_drawn_44 : decode cX10_drawn 44 = .ok (.getfield 190, 3) := by decide +kernel
theorem dX10_drawn_47 : decode cX10_drawn 47 = .ok (.sipush 10000, 3) := by decide +kernel
theorem dX10_drawn_50 : decode cX10_drawn 50 = .ok (.if_icmp .ge 23, 3) := by decide +kernel
theorem dX10_drawn_53 : decode cX10_drawn 53 = .ok (.aload_n 0, 1) := by decide +kernel
theorem dX10_drawn_54 : decode cX10_drawn 54 = .ok (.getfield 19, 3) := by decide +kernel
theorem dX10_drawn_57 : decode cX10_drawn 57 = .ok (.getfield 129, 3) := by decide +kernel
theorem dX10_drawn_60 : decode cX10_drawn 60 = .ok (.iload 4, 2) := by decide +kernel
theorem dX10_drawn_62 : decode cX10_drawn 62 = .ok (.invokevirtual 322, 3) := by decide +kernel
theorem dX10_drawn_65 : decode cX10_drawn 65 = .ok (.istore 4, 2) := by decide +kernel
theorem dX10_drawn_67 : decode cX10_drawn 67 = .ok (.iinc 3 1, 3) := by decide +kernel
theorem dX10_drawn_70 : decode cX10_drawn 70 = .ok (.goto (-38), 3) := by decide +kernel
theorem dX10_drawn_73 : decode cX10_drawn 73 = .ok (.iload_n 3, 1) := by decide +kernel
theorem dX10_drawn_74 : decode cX10_drawn 74 = .ok (.ifCond .le 7, 3) := by decide +kernel
theorem dX10_drawn_77 : decode cX10_drawn 77 = .ok (.aload_n 0, 1) := by decide +kernel
theorem dX10_drawn_78 : decode cX10_drawn 78 = .ok (.invokevirtual 220, 3) := by decide +kernel
theorem dX10_drawn_81 : decode cX10_drawn 81 = .ok (.iload_n 3, 1) := by decide +kernel
theorem dX10_drawn_82 : decode cX10_drawn 82 = .ok (.ireturn, 1) := by decide +kernel
theorem dX10_odds_0 : decode cX10_odds 0 = .ok (.aload_n 0, 1) := by decide +kernel
theorem dX10_odds_1 : decode cX10_odds 1 = .ok (.getfield 19, 3) := by decide +kernel
theorem dX10_odds_4 : decode cX10_odds 4 = .ok (.getfield 116, 3) := by decide +kernel
theorem dX10_odds_7 : decode cX10_odds 7 = .ok (.iload_n 1, 1) := by decide +kernel
theorem dX10_odds_8 : decode cX10_odds 8 = .ok (.invokevirtual 169, 3) := by decide +kernel
theorem dX10_odds_11 : decode cX10_odds 11 = .ok (.ifCond .eq 14, 3) := by decide +kernel
theorem dX10_odds_14 : decode cX10_odds 14 = .ok (.iload_n 2, 1) := by decide +kernel
theorem dX10_odds_15 : decode cX10_odds 15 = .ok (.iconst 1, 1) := by decide +kernel
theorem dX10_odds_16 : decode cX10_odds 16 = .ok (.if_icmp .lt 9, 3) := by decide +kernel
theorem dX10_odds_19 : decode cX10_odds 19 = .ok (.iload_n 2, 1) := by decide +kernel
theorem dX10_odds_20 : decode cX10_odds 20 = .ok (.bipush 30, 2) := by decide +kernel
theorem dX10_odds_22 : decode cX10_odds 22 = .ok (.if_icmp .le 5, 3) := by decide +kernel
theorem dX10_odds_25 : decode cX10_odds 25 = .ok (.iconst (-1), 1) := by decide +kernel
theorem dX10_odds_26 : decode cX10_odds 26 = .ok (.ireturn, 1) := by decide +kernel
theorem dX10_odds_27 : decode cX10_odds 27 = .ok (.iconst 0, 1) := by decide +kernel
theorem dX10_odds_28 : decode cX10_odds 28 = .ok (.istore 4, 2) := by decide +kernel
theorem dX10_odds_30 : decode cX10_odds 30 = .ok (.iconst 0, 1) := by decide +kernel
theorem dX10_odds_31 : decode cX10_odds 31 = .ok (.istore 5, 2) := by decide +kernel
theorem dX10_odds_33 : decode cX10_odds 33 = .ok (.iload 5, 2) := by decide +kernel
theorem dX10_odds_35 : decode cX10_odds 35 = .ok (.iload_n 2, 1) := by decide +kernel
theorem dX10_odds_36 : decode cX10_odds 36 = .ok (.if_icmp .ge 38, 3) := by decide +kernel
theorem dX10_odds_39 : decode cX10_odds 39 = .ok (.aload_n 0, 1) := by decide +kernel
theorem dX10_odds_40 : decode cX10_odds 40 = .ok (.getfield 69, 3) := by decide +kernel
theorem dX10_odds_43 : decode cX10_odds 43 = .ok (.aload_n 0, 1) := by decide +kernel
theorem dX10_odds_44 : decode cX10_odds 44 = .ok (.getfield 19, 3) := by decide +kernel
theorem dX10_odds_47 : decode cX10_odds 47 = .ok (.getfield 129, 3) := by decide +kernel
theorem dX10_odds_50 : decode cX10_odds 50 = .ok (.invokevirtual 212, 3) := by decide +kernel
theorem dX10_odds_53 : decode cX10_odds 53 = .ok (.aload_n 0, 1) := by decide +kernel
theorem dX10_odds_54 : decode cX10_odds 54 = .ok (.iload_n 1, 1) := by decide +kernel
theorem dX10_odds_55 : decode cX10_odds 55 = .ok (.iload_n 3, 1) := by decide +kernel
theorem dX10_odds_56 : decode cX10_odds 56 = .ok (.iload 5, 2) := by decide +kernel
theorem dX10_odds_58 : decode cX10_odds 58 = .ok (.iadd, 1) := by decide +kernel
theorem dX10_odds_59 : decode cX10_odds 59 = .ok (.invokevirtual 325, 3) := by decide +kernel
theorem dX10_odds_62 : decode cX10_odds 62 = .ok (.ifCond .eq 6, 3) := by decide +kernel
theorem dX10_odds_65 : decode cX10_odds 65 = .ok (.iinc 4 1, 3) := by decide +kernel
theorem dX10_odds_68 : decode cX10_odds 68 = .ok (.iinc 5 1, 3) := by decide +kernel
theorem dX10_odds_71 : decode cX10_odds 71 = .ok (.goto (-38), 3) := by decide +kernel
theorem dX10_odds_74 : decode cX10_odds 74 = .ok (.iload 4, 2) := by decide +kernel
theorem dX10_odds_76 : decode cX10_odds 76 = .ok (.ireturn, 1) := by decide +kernel
theorem dX10_book_0 : decode cX10_book 0 = .ok (.iload_n 1, 1) := by decide +kernel
theorem dX10_book_1 : decode cX10_book 1 = .ok (.ifCond .lt 8, 3) := by decide +kernel
theorem dX10_book_4 : decode cX10_book 4 = .ok (.iload_n 1, 1) := by decide +kernel
theorem dX10_book_5 : decode cX10_book 5 = .ok (.iconst 1, 1) := by decide +kernel
theorem dX10_book_6 : decode cX10_book 6 = .ok (.if_icmp .le 7, 3) := by decide +kernel
theorem dX10_book_9 : decode cX10_book 9 = .ok (.sipush (-1000), 3) := by decide +kernel
theorem dX10_book_12 : decode cX10_book 12 = .ok (.ireturn, 1) := by decide +kernel
theorem dX10_book_13 : decode cX10_book 13 = .ok (.aload_n 0, 1) := by decide +kernel
theorem dX10_book_14 : decode cX10_book 14 = .ok (.getfield 40, 3) := by decide +kernel
theorem dX10_book_17 : decode cX10_book 17 = .ok (.aload_n 0, 1) := by decide +kernel
theorem dX10_book_18 : decode cX10_book 18 = .ok (.getfield 10, 3) := by decide +kernel
theorem dX10_book_21 : decode cX10_book 21 = .ok (.aload_n 0, 1) := by decide +kernel
theorem dX10_book_22 : decode cX10_book 22 = .ok (.getfield 19, 3) := by decide +kernel
theorem dX10_book_25 : decode cX10_book 25 = .ok (.getfield 116, 3) := by decide +kernel
theorem dX10_book_28 : decode cX10_book 28 = .ok (.invokevirtual 328, 3) := by decide +kernel
theorem dX10_book_31 : decode cX10_book 31 = .ok (.aload_n 0, 1) := by decide +kernel
theorem dX10_book_32 : decode cX10_book 32 = .ok (.invokevirtual 100, 3) := by decide +kernel
theorem dX10_book_35 : decode cX10_book 35 = .ok (.aload_n 0, 1) := by decide +kernel
theorem dX10_book_36 : decode cX10_book 36 = .ok (.getfield 103, 3) := by decide +kernel
theorem dX10_book_39 : decode cX10_book 39 = .ok (.ifCond .eq 14, 3) := by decide +kernel
theorem dX10_book_42 : decode cX10_book 42 = .ok (.bipush (-2), 2) := by decide +kernel
theorem dX10_book_44 : decode cX10_book 44 = .ok (.aload_n 0, 1) := by decide +kernel
theorem dX10_book_45 : decode cX10_book 45 = .ok (.getfield 10, 3) := by decide +kernel
theorem dX10_book_48 : decode cX10_book 48 = .ok (.getfield 106, 3) := by decide +kernel
theorem dX10_book_51 : decode cX10_book 51 = .ok (.isub, 1) := by decide +kernel
theorem dX10_book_52 : decode cX10_book 52 = .ok (.ireturn, 1) := by decide +kernel
theorem dX10_book_53 : decode cX10_book 53 = .ok (.iload_n 1, 1) := by decide +kernel
theorem dX10_book_54 : decode cX10_book 54 = .ok (.ifCond .ne 29, 3) := by decide +kernel
theorem dX10_book_57 : decode cX10_book 57 = .ok (.aload_n 0, 1) := by decide +kernel
theorem dX10_book_58 : decode cX10_book 58 = .ok (.getfield 69, 3) := by decide +kernel
theorem dX10_book_61 : decode cX10_book 61 = .ok (.aload_n 0, 1) := by decide +kernel
theorem dX10_book_62 : decode cX10_book 62 = .ok (.getfield 19, 3) := by decide +kernel
theorem dX10_book_65 : decode cX10_book 65 = .ok (.getfield 129, 3) := by decide +kernel
theorem dX10_book_68 : decode cX10_book 68 = .ok (.invokevirtual 212, 3) := by decide +kernel
theorem dX10_book_71 : decode cX10_book 71 = .ok (.aload_n 0, 1) := by decide +kernel
theorem dX10_book_72 : decode cX10_book 72 = .ok (.getfield 40, 3) := by decide +kernel
theorem dX10_book_75 : decode cX10_book 75 = .ok (.aload_n 0, 1) := by decide +kernel
theorem dX10_book_76 : decode cX10_book 76 = .ok (.getfield 69, 3) := by decide +kernel
theorem dX10_book_79 : decode cX10_book 79 = .ok (.invokevirtual 331, 3) := by decide +kernel
theorem dX10_book_82 : decode cX10_book 82 = .ok (.ireturn, 1) := by decide +kernel
theorem dX10_book_83 : decode cX10_book 83 = .ok (.aload_n 0, 1) := by decide +kernel
theorem dX10_book_84 : decode cX10_book 84 = .ok (.getfield 65, 3) := by decide +kernel
theorem dX10_book_87 : decode cX10_book 87 = .ok (.aload_n 0, 1) := by decide +kernel
theorem dX10_book_88 : decode cX10_book 88 = .ok (.getfield 19, 3) := by decide +kernel
theorem dX10_book_91 : decode cX10_book 91 = .ok (.getfield 129, 3) := by decide +kernel
theorem dX10_book_94 : decode cX10_book 94 = .ok (.invokevirtual 212, 3) := by decide +kernel
theorem dX10_book_97 : decode cX10_book 97 = .ok (.aload_n 0, 1) := by decide +kernel
theorem dX10_book_98 : decode cX10_book 98 = .ok (.getfield 40, 3) := by decide +kernel
theorem dX10_book_101 : decode cX10_book 101 = .ok (.aload_n 0, 1) := by decide +kernel
theorem dX10_book_102 : decode cX10_book 102 = .ok (.getfield 19, 3) := by decide +kernel
theorem dX10_book_105 : decode cX10_book 105 = .ok (.getfield 129, 3) := by decide +kernel
theorem dX10_book_108 : decode cX10_book 108 = .ok (.invokevirtual 331, 3) := by decide +kernel
theorem dX10_book_111 : decode cX10_book 111 = .ok (.istore_n 2, 1) := by decide +kernel
theorem dX10_book_112 : decode cX10_book 112 = .ok (.aload_n 0, 1) := by decide +kernel
theorem dX10_book_113 : decode cX10_book 113 = .ok (.getfield 40, 3) := by decide +kernel
theorem dX10_book_116 : decode cX10_book 116 = .ok (.getfield 335, 3) := by decide +kernel
theorem dX10_book_119 : decode cX10_book 119 = .ok (.ifCond .le 7, 3) := by decide +kernel
theorem dX10_book_122 : decode cX10_book 122 = .ok (.aload_n 0, 1) := by decide +kernel
theorem dX10_book_123 : decode cX10_book 123 = .ok (.invokevirtual 220, 3) := by decide +kernel
theorem dX10_book_126 : decode cX10_book 126 = .ok (.iload_n 2, 1) := by decide +kernel
theorem dX10_book_127 : decode cX10_book 127 = .ok (.ireturn, 1) := by decide +kernel
theorem dX10_told_0 : decode cX10_told 0 = .ok (.aload_n 0, 1) := by decide +kernel
theorem dX10_told_1 : decode cX10_told 1 = .ok (.getfield 40, 3) := by decide +kernel
theorem dX10_told_4 : decode cX10_told 4 = .ok (.getfield 338, 3) := by decide +kernel
theorem dX10_told_7 : decode cX10_told 7 = .ok (.ifCond .ne 5, 3) := by decide +kernel
theorem dX10_told_10 : decode cX10_told 10 = .ok (.iconst (-1), 1) := by decide +kernel
theorem dX10_told_11 : decode cX10_told 11 = .ok (.ireturn, 1) := by decide +kernel
theorem dX10_told_12 : decode cX10_told 12 = .ok (.iload_n 1, 1) := by decide +kernel
theorem dX10_told_13 : decode cX10_told 13 = .ok (.tableswitch 63 0 3 #[31, 39, 47, 55], 31) := by decide +kernel
theorem dX10_told_44 : decode cX10_told 44 = .ok (.aload_n 0, 1) := by decide +kernel
theorem dX10_told_45 : decode cX10_told 45 = .ok (.getfield 40, 3) := by decide +kernel
theorem dX10_told_48 : decode cX10_told 48 = .ok (.getfield 342, 3) := by decide +kernel
theorem dX10_told_51 : decode cX10_told 51 = .ok (.ireturn, 1) := by decide +kernel
theorem dX10_told_52 : decode cX10_told 52 = .ok (.aload_n 0, 1) := by decide +kernel
theorem dX10_told_53 : decode cX10_told 53 = .ok (.getfield 40, 3) := by decide +kernel
theorem dX10_told_56 : decode cX10_told 56 = .ok (.getfield 335, 3) := by decide +kernel
theorem dX10_told_59 : decode cX10_told 59 = .ok (.ireturn, 1) := by decide +kernel
theorem dX10_told_60 : decode cX10_told 60 = .ok (.aload_n 0, 1) := by decide +kernel
theorem dX10_told_61 : decode cX10_told 61 = .ok (.getfield 40, 3) := by decide +kernel
theorem dX10_told_64 : decode cX10_told 64 = .ok (.getfield 345, 3) := by decide +kernel
theorem dX10_told_67 : decode cX10_told 67 = .ok (.ireturn, 1) := by decide +kernel
theorem dX10_told_68 : decode cX10_told 68 = .ok (.aload_n 0, 1) := by decide +kernel
theorem dX10_told_69 : decode cX10_told 69 = .ok (.getfield 40, 3) := by decide +kernel
theorem dX10_told_72 : decode cX10_told 72 = .ok (.getfield 348, 3) := by decide +kernel
theorem dX10_told_75 : decode cX10_told 75 = .ok (.ireturn, 1) := by decide +kernel
theorem dX10_told_76 : decode cX10_told 76 = .ok (.iconst (-1), 1) := by decide +kernel
theorem dX10_told_77 : decode cX10_told 77 = .ok (.ireturn, 1) := by decide +kernel
theorem dX10_said_0 : decode cX10_said 0 = .ok (.aload_n 0, 1) := by decide +kernel
theorem dX10_said_1 : decode cX10_said 1 = .ok (.getfield 19, 3) := by decide +kernel
theorem dX10_said_4 : decode cX10_said 4 = .ok (.getfield 352, 3) := by decide +kernel
theorem dX10_said_7 : decode cX10_said 7 = .ok (.getfield 358, 3) := by decide +kernel
theorem dX10_said_10 : decode cX10_said 10 = .ok (.ifCond .ne 5, 3) := by decide +kernel
theorem dX10_said_13 : decode cX10_said 13 = .ok (.iconst (-1), 1) := by decide +kernel
theorem dX10_said_14 : decode cX10_said 14 = .ok (.ireturn, 1) := by decide +kernel
theorem dX10_said_15 : decode cX10_said 15 = .ok (.iconst 0, 1) := by decide +kernel
theorem dX10_said_16 : decode cX10_said 16 = .ok (.istore_n 2, 1) := by decide +kernel
theorem dX10_said_17 : decode cX10_said 17 = .ok (.iconst 0, 1) := by decide +kernel
theorem dX10_said_18 : decode cX10_said 18 = .ok (.istore_n 3, 1) := by decide +kernel
theorem dX10_said_19 : decode cX10_said 19 = .ok (.iload_n 3, 1) := by decide +kernel
theorem dX10_said_20 : decode cX10_said 20 = .ok (.aload_n 0, 1) := by decide +kernel
theorem dX10_said_21 : decode cX10_said 21 = .ok (.getfield 19, 3) := by decide +kernel
theorem dX10_said_24 : decode cX10_said 24 = .ok (.getfield 116, 3) := by decide +kernel
theorem dX10_said_27 : decode cX10_said 27 = .ok (.getfield 239, 3) := by decide +kernel
theorem dX10_said_30 : decode cX10_said 30 = .ok (.if_icmp .ge 37, 3) := by decide +kernel
theorem dX10_said_33 : decode cX10_said 33 = .ok (.aload_n 0, 1) := by decide +kernel
theorem dX10_said_34 : decode cX10_said 34 = .ok (.getfield 19, 3) := by decide +kernel
theorem dX10_said_37 : decode cX10_said 37 = .ok (.getfield 352, 3) := by decide +kernel
theorem dX10_said_40 : decode cX10_said 40 = .ok (.aload_n 0, 1) := by decide +kernel
theorem dX10_said_41 : decode cX10_said 41 = .ok (.getfield 19, 3) := by decide +kernel
theorem dX10_said_44 : decode cX10_said 44 = .ok (.iload_n 3, 1) := by decide +kernel
theorem dX10_said_45 : decode cX10_said 45 = .ok (.invokevirtual 361, 3) := by decide +kernel
theorem dX10_said_48 : decode cX10_said 48 = .ok (.ifCond .eq 13, 3) := by decide +kernel
theorem dX10_said_51 : decode cX10_said 51 = .ok (.iload_n 2, 1) := by decide +kernel
theorem dX10_said_52 : decode cX10_said 52 = .ok (.iload_n 1, 1) := by decide +kernel
theorem dX10_said_53 : decode cX10_said 53 = .ok (.if_icmp .ne 5, 3) := by decide +kernel
theorem dX10_said_56 : decode cX10_said 56 = .ok (.iload_n 3, 1) := by decide +kernel
theorem dX10_said_57 : decode cX10_said 57 = .ok (.ireturn, 1) := by decide +kernel
theorem dX10_said_58 : decode cX10_said 58 = .ok (.iinc 2 1, 3) := by decide +kernel
theorem dX10_said_61 : decode cX10_said 61 = .ok (.iinc 3 1, 3) := by decide +kernel
theorem dX10_said_64 : decode cX10_said 64 = .ok (.goto (-45), 3) := by decide +kernel
theorem dX10_said_67 : decode cX10_said 67 = .ok (.iload_n 1, 1) := by decide +kernel
theorem dX10_said_68 : decode cX10_said 68 = .ok (.iconst (-1), 1) := by decide +kernel
theorem dX10_said_69 : decode cX10_said 69 = .ok (.if_icmp .ne 7, 3) := by decide +kernel
theorem dX10_said_72 : decode cX10_said 72 = .ok (.iload_n 2, 1) := by decide +kernel
theorem dX10_said_73 : decode cX10_said 73 = .ok (.goto 4, 3) := by decide +kernel
theorem dX10_said_76 : decode cX10_said 76 = .ok (.iconst (-1), 1) := by decide +kernel
theorem dX10_said_77 : decode cX10_said 77 = .ok (.ireturn, 1) := by decide +kernel
theorem dX10_image_0 : decode cX10_image 0 = .ok (.iload_n 1, 1) := by decide +kernel
theorem dX10_image_1 : decode cX10_image 1 = .ok (.ifCond .lt 8, 3) := by decide +kernel
theorem dX10_image_4 : decode cX10_image 4 = .ok (.iload_n 1, 1) := by decide +kernel
theorem dX10_image_5 : decode cX10_image 5 = .ok (.iconst 2, 1) := by decide +kernel
theorem dX10_image_6 : decode cX10_image 6 = .ok (.if_icmp .lt 5, 3) := by decide +kernel
theorem dX10_image_9 : decode cX10_image 9 = .ok (.iconst 0, 1) := by decide +kernel
theorem dX10_image_10 : decode cX10_image 10 = .ok (.ireturn, 1) := by decide +kernel
theorem dX10_image_11 : decode cX10_image 11 = .ok (.aload_n 0, 1) := by decide +kernel
theorem dX10_image_12 : decode cX10_image 12 = .ok (.getfield 76, 3) := by decide +kernel
theorem dX10_image_15 : decode cX10_image 15 = .ok (.iload_n 1, 1) := by decide +kernel
theorem dX10_image_16 : decode cX10_image 16 = .ok (.aaload, 1) := by decide +kernel
theorem dX10_image_17 : decode cX10_image 17 = .ok (.aload_n 0, 1) := by decide +kernel
theorem dX10_image_18 : decode cX10_image 18 = .ok (.getfield 19, 3) := by decide +kernel
theorem dX10_image_21 : decode cX10_image 21 = .ok (.invokevirtual 365, 3) := by decide +kernel
theorem dX10_image_24 : decode cX10_image 24 = .ok (.aload_n 0, 1) := by decide +kernel
theorem dX10_image_25 : decode cX10_image 25 = .ok (.getfield 80, 3) := by decide +kernel
theorem dX10_image_28 : decode cX10_image 28 = .ok (.iload_n 1, 1) := by decide +kernel
theorem dX10_image_29 : decode cX10_image 29 = .ok (.iconst 1, 1) := by decide +kernel
theorem dX10_image_30 : decode cX10_image 30 = .ok (.bastore, 1) := by decide +kernel
theorem dX10_image_31 : decode cX10_image 31 = .ok (.iconst 1, 1) := by decide +kernel
theorem dX10_image_32 : decode cX10_image 32 = .ok (.ireturn, 1) := by decide +kernel
theorem dX10_restore_0 : decode cX10_restore 0 = .ok (.iload_n 1, 1) := by decide +kernel
theorem dX10_restore_1 : decode cX10_restore 1 = .ok (.ifCond .lt 17, 3) := by decide +kernel
theorem dX10_restore_4 : decode cX10_restore 4 = .ok (.iload_n 1, 1) := by decide +kernel
theorem dX10_restore_5 : decode cX10_restore 5 = .ok (.iconst 2, 1) := by decide +kernel
theorem dX10_restore_6 : decode cX10_restore 6 = .ok (.if_icmp .ge 12, 3) := by decide +kernel
theorem dX10_restore_9 : decode cX10_restore 9 = .ok (.aload_n 0, 1) := by decide +kernel
theorem dX10_restore_10 : decode cX10_restore 10 = .ok (.getfield 80, 3) := by decide +kernel
theorem dX10_restore_13 : decode cX10_restore 13 = .ok (.iload_n 1, 1) := by decide +kernel
theorem dX10_restore_14 : decode cX10_restore 14 = .ok (.baload, 1) := by decide +kernel
theorem dX10_restore_15 : decode cX10_restore 15 = .ok (.ifCond .ne 5, 3) := by decide +kernel
theorem dX10_restore_18 : decode cX10_restore 18 = .ok (.iconst 0, 1) := by decide +kernel
theorem dX10_restore_19 : decode cX10_restore 19 = .ok (.ireturn, 1) := by decide +kernel
theorem dX10_restore_20 : decode cX10_restore 20 = .ok (.aload_n 0, 1) := by decide +kernel
theorem dX10_restore_21 : decode cX10_restore 21 = .ok (.getfield 19, 3) := by decide +kernel
theorem dX10_restore_24 : decode cX10_restore 24 = .ok (.aload_n 0, 1) := by decide +kernel
theorem dX10_restore_25 : decode cX10_restore 25 = .ok (.getfield 76, 3) := by decide +kernel
theorem dX10_restore_28 : decode cX10_restore 28 = .ok (.iload_n 1, 1) := by decide +kernel
theorem dX10_restore_29 : decode cX10_restore 29 = .ok (.aaload, 1) := by decide +kernel
theorem dX10_restore_30 : decode cX10_restore 30 = .ok (.invokevirtual 365, 3) := by decide +kernel
theorem dX10_restore_33 : decode cX10_restore 33 = .ok (.aload_n 0, 1) := by decide +kernel
theorem dX10_restore_34 : decode cX10_restore 34 = .ok (.iconst 0, 1) := by decide +kernel
theorem dX10_restore_35 : decode cX10_restore 35 = .ok (.putfield 113, 3) := by decide +kernel
theorem dX10_restore_38 : decode cX10_restore 38 = .ok (.iconst 1, 1) := by decide +kernel
theorem dX10_restore_39 : decode cX10_restore 39 = .ok (.ireturn, 1) := by decide +kernel
theorem dX10_count_0 : decode cX10_count 0 = .ok (.iload_n 1, 1) := by decide +kernel
theorem dX10_count_1 : decode cX10_count 1 = .ok (.tableswitch 87 0 4 #[35, 46, 57, 68, 79], 35) := by decide +kernel
theorem dX10_count_36 : decode cX10_count 36 = .ok (.aload_n 0, 1) := by decide +kernel
theorem dX10_count_37 : decode cX10_count 37 = .ok (.getfield 19, 3) := by decide +kernel
theorem dX10_count_40 : decode cX10_count 40 = .ok (.getfield 116, 3) := by decide +kernel
theorem dX10_count_43 : decode cX10_count 43 = .ok (.getfield 239, 3) := by decide +kernel
theorem dX10_count_46 : decode cX10_count 46 = .ok (.ireturn, 1) := by decide +kernel
theorem dX10_count_47 : decode cX10_count 47 = .ok (.aload_n 0, 1) := by decide +kernel
theorem dX10_count_48 : decode cX10_count 48 = .ok (.getfield 19, 3) := by decide +kernel
theorem dX10_count_51 : decode cX10_count 51 = .ok (.getfield 116, 3) := by decide +kernel
theorem dX10_count_54 : decode cX10_count 54 = .ok (.getfield 368, 3) := by decide +kernel
theorem dX10_count_57 : decode cX10_count 57 = .ok (.ireturn, 1) := by decide +kernel
theorem dX10_count_58 : decode cX10_count 58 = .ok (.aload_n 0, 1) := by decide +kernel
theorem dX10_count_59 : decode cX10_count 59 = .ok (.getfield 19, 3) := by decide +kernel
theorem dX10_count_62 : decode cX10_count 62 = .ok (.getfield 116, 3) := by decide +kernel
theorem dX10_count_65 : decode cX10_count 65 = .ok (.getfield 371, 3) := by decide +kernel
theorem dX10_count_68 : decode cX10_count 68 = .ok (.ireturn, 1) := by decide +kernel
theorem dX10_count_69 : decode cX10_count 69 = .ok (.aload_n 0, 1) := by decide +kernel
theorem dX10_count_70 : decode cX10_count 70 = .ok (.getfield 19, 3) := by decide +kernel
theorem dX10_count_73 : decode cX10_count 73 = .ok (.getfield 116, 3) := by decide +kernel
theorem dX10_count_76 : decode cX10_count 76 = .ok (.getfield 374, 3) := by decide +kernel
theorem dX10_count_79 : decode cX10_count 79 = .ok (.ireturn, 1) := by decide +kernel
theorem dX10_count_80 : decode cX10_count 80 = .ok (.aload_n 0, 1) := by decide +kernel
theorem dX10_count_81 : decode cX10_count 81 = .ok (.getfield 10, 3) := by decide +kernel
theorem dX10_count_84 : decode cX10_count 84 = .ok (.getfield 92, 3) := by decide +kernel
theorem dX10_count_87 : decode cX10_count 87 = .ok (.ireturn, 1) := by decide +kernel
theorem dX10_count_88 : decode cX10_count 88 = .ok (.iconst (-1), 1) := by decide +kernel
theorem dX10_count_89 : decode cX10_count 89 = .ok (.ireturn, 1) := by decide +kernel
theorem dX10_hasBoth_0 : decode cX10_hasBoth 0 = .ok (.aload_n 0, 1) := by decide +kernel
theorem dX10_hasBoth_1 : decode cX10_hasBoth 1 = .ok (.getfield 19, 3) := by decide +kernel
theorem dX10_hasBoth_4 : decode cX10_hasBoth 4 = .ok (.getfield 116, 3) := by decide +kernel
theorem dX10_hasBoth_7 : decode cX10_hasBoth 7 = .ok (.iload_n 1, 1) := by decide +kernel
theorem dX10_hasBoth_8 : decode cX10_hasBoth 8 = .ok (.invokevirtual 119, 3) := by decide +kernel
theorem dX10_hasBoth_11 : decode cX10_hasBoth 11 = .ok (.ifCond .eq 21, 3) := by decide +kernel
theorem dX10_hasBoth_14 : decode cX10_hasBoth 14 = .ok (.aload_n 0, 1) := by decide +kernel
theorem dX10_hasBoth_15 : decode cX10_hasBoth 15 = .ok (.getfield 19, 3) := by decide +kernel
theorem dX10_hasBoth_18 : decode cX10_hasBoth 18 = .ok (.getfield 116, 3) := by decide +kernel
theorem dX10_hasBoth_21 : decode cX10_hasBoth 21 = .ok (.iload_n 2, 1) := by decide +kernel
theorem dX10_hasBoth_22 : decode cX10_hasBoth 22 = .ok (.invokevirtual 119, 3) := by decide +kernel
theorem dX10_hasBoth_25 : decode cX10_hasBoth 25 = .ok (.ifCond .eq 7, 3) := by decide +kernel
theorem dX10_hasBoth_28 : decode cX10_hasBoth 28 = .ok (.iconst 1, 1) := by decide +kernel
theorem dX10_hasBoth_29 : decode cX10_hasBoth 29 = .ok (.goto 4, 3) := by decide +kernel
theorem dX10_hasBoth_32 : decode cX10_hasBoth 32 = .ok (.iconst 0, 1) := by decide +kernel
theorem dX10_hasBoth_33 : decode cX10_hasBoth 33 = .ok (.ireturn, 1) := by decide +kernel
theorem dX10_closeText_0 : decode cX10_closeText 0 = .ok (.aload_n 0, 1) := by decide +kernel
theorem dX10_closeText_1 : decode cX10_closeText 1 = .ok (.aload_n 0, 1) := by decide +kernel
theorem dX10_closeText_2 : decode cX10_closeText 2 = .ok (.getfield 10, 3) := by decide +kernel
theorem dX10_closeText_5 : decode cX10_closeText 5 = .ok (.getfield 377, 3) := by decide +kernel
theorem dX10_closeText_8 : decode cX10_closeText 8 = .ok (.putfield 103, 3) := by decide +kernel
theorem dX10_closeText_11 : decode cX10_closeText 11 = .ok (.aload_n 0, 1) := by decide +kernel
theorem dX10_closeText_12 : decode cX10_closeText 12 = .ok (.getfield 10, 3) := by decide +kernel
theorem dX10_closeText_15 : decode cX10_closeText 15 = .ok (.iconst 0, 1) := by decide +kernel
theorem dX10_closeText_16 : decode cX10_closeText 16 = .ok (.putfield 92, 3) := by decide +kernel
theorem dX10_closeText_19 : decode cX10_closeText 19 = .ok (.return_, 1) := by decide +kernel
theorem dX10_takeLetter_0 : decode cX10_takeLetter 0 = .ok (.aload_n 0, 1) := by decide +kernel
theorem dX10_takeLetter_1 : decode cX10_takeLetter 1 = .ok (.getfield 10, 3) := by decide +kernel
theorem dX10_takeLetter_4 : decode cX10_takeLetter 4 = .ok (.getfield 92, 3) := by decide +kernel
theorem dX10_takeLetter_7 : decode cX10_takeLetter 7 = .ok (.iconst 3, 1) := by decide +kernel
theorem dX10_takeLetter_8 : decode cX10_takeLetter 8 = .ok (.if_icmp .ne 7, 3) := by decide +kernel
theorem dX10_takeLetter_11 : decode cX10_takeLetter 11 = .ok (.iconst 1, 1) := by decide +kernel
theorem dX10_takeLetter_12 : decode cX10_takeLetter 12 = .ok (.goto 4, 3) := by decide +kernel
theorem dX10_takeLetter_15 : decode cX10_takeLetter 15 = .ok (.iconst 0, 1) := by decide +kernel
theorem dX10_takeLetter_16 : decode cX10_takeLetter 16 = .ok (.istore_n 1, 1) := by decide +kernel
theorem dX10_takeLetter_17 : decode cX10_takeLetter 17 = .ok (.iconst 0, 1) := by decide +kernel
theorem dX10_takeLetter_18 : decode cX10_takeLetter 18 = .ok (.istore_n 2, 1) := by decide +kernel
theorem dX10_takeLetter_19 : decode cX10_takeLetter 19 = .ok (.iload_n 2, 1) := by decide +kernel
theorem dX10_takeLetter_20 : decode cX10_takeLetter 20 = .ok (.iconst 3, 1) := by decide +kernel
theorem dX10_takeLetter_21 : decode cX10_takeLetter 21 = .ok (.if_icmp .ge 28, 3) := by decide +kernel
theorem dX10_takeLetter_24 : decode cX10_takeLetter 24 = .ok (.aload_n 0, 1) := by decide +kernel
theorem dX10_takeLetter_25 : decode cX10_takeLetter 25 = .ok (.getfield 58, 3) := by decide +kernel
theorem dX10_takeLetter_28 : decode cX10_takeLetter 28 = .ok (.iload_n 2, 1) := by decide +kernel
theorem dX10_takeLetter_29 : decode cX10_takeLetter 29 = .ok (.aload_n 0, 1) := by decide +kernel
theorem dX10_takeLetter_30 : decode cX10_takeLetter 30 = .ok (.getfield 10, 3) := by decide +kernel
theorem dX10_takeLetter_33 : decode cX10_takeLetter 33 = .ok (.getfield 378, 3) := by decide +kernel
theorem dX10_takeLetter_36 : decode cX10_takeLetter 36 = .ok (.iload_n 2, 1) := by decide +kernel
theorem dX10_takeLetter_37 : decode cX10_takeLetter 37 = .ok (.baload, 1) := by decide +kernel
theorem dX10_takeLetter_38 : decode cX10_takeLetter 38 = .ok (.sipush 255, 3) := by decide +kernel
theorem dX10_takeLetter_41 : decode cX10_takeLetter 41 = .ok (.iand, 1) := by decide +kernel
theorem dX10_takeLetter_42 : decode cX10_takeLetter 42 = .ok (.iastore, 1) := by decide +kernel
theorem dX10_takeLetter_43 : decode cX10_takeLetter 43 = .ok (.iinc 2 1, 3) := by decide +kernel
theorem dX10_takeLetter_46 : decode cX10_takeLetter 46 = .ok (.goto (-27), 3) := by decide +kernel
theorem dX10_takeLetter_49 : decode cX10_takeLetter 49 = .ok (.aload_n 0, 1) := by decide +kernel
theorem dX10_takeLetter_50 : decode cX10_takeLetter 50 = .ok (.getfield 10, 3) := by decide +kernel
theorem dX10_takeLetter_53 : decode cX10_takeLetter 53 = .ok (.iconst 0, 1) := by decide +kernel
theorem dX10_takeLetter_54 : decode cX10_takeLetter 54 = .ok (.putfield 92, 3) := by decide +kernel
theorem dX10_takeLetter_57 : decode cX10_takeLetter 57 = .ok (.iload_n 1, 1) := by decide +kernel
theorem dX10_takeLetter_58 : decode cX10_takeLetter 58 = .ok (.ireturn, 1) := by decide +kernel
theorem dX10_keepForUndo_0 : decode cX10_keepForUndo 0 = .ok (.aload_n 0, 1) := by decide +kernel
theorem dX10_keepForUndo_1 : decode cX10_keepForUndo 1 = .ok (.getfield 113, 3) := by decide +kernel
theorem dX10_keepForUndo_4 : decode cX10_keepForUndo 4 = .ok (.aload_n 0, 1) := by decide +kernel
theorem dX10_keepForUndo_5 : decode cX10_keepForUndo 5 = .ok (.getfield 72, 3) := by decide +kernel
theorem dX10_keepForUndo_8 : decode cX10_keepForUndo 8 = .ok (.arraylength, 1) := by decide +kernel
theorem dX10_keepForUndo_9 : decode cX10_keepForUndo 9 = .ok (.if_icmp .lt 65, 3) := by decide +kernel
theorem dX10_keepForUndo_12 : decode cX10_keepForUndo 12 = .ok (.aload_n 0, 1) := by decide +kernel
theorem dX10_keepForUndo_13 : decode cX10_keepForUndo 13 = .ok (.getfield 72, 3) := by decide +kernel
theorem dX10_keepForUndo_16 : decode cX10_keepForUndo 16 = .ok (.iconst 0, 1) := by decide +kernel
theorem dX10_keepForUndo_17 : decode cX10_keepForUndo 17 = .ok (.aaload, 1) := by decide +kernel
theorem dX10_keepForUndo_18 : decode cX10_keepForUndo 18 = .ok (.astore_n 1, 1) := by decide +kernel
theorem dX10_keepForUndo_19 : decode cX10_keepForUndo 19 = .ok (.iconst 1, 1) := by decide +kernel
theorem dX10_keepForUndo_20 : decode cX10_keepForUndo 20 = .ok (.istore_n 2, 1) := by decide +kernel
theorem dX10_keepForUndo_21 : decode cX10_keepForUndo 21 = .ok (.iload_n 2, 1) := by decide +kernel
theorem dX10_keepForUndo_22 : decode cX10_keepForUndo 22 = .ok (.aload_n 0, 1) := by decide +kernel
theorem dX10_keepForUndo_23 : decode cX10_keepForUndo 23 = .ok (.getfield 72, 3) := by decide +kernel
theorem dX10_keepForUndo_26 : decode cX10_keepForUndo 26 = .ok (.arraylength, 1) := by decide +kernel
theorem dX10_keepForUndo_27 : decode cX10_keepForUndo 27 = .ok (.if_icmp .ge 23, 3) := by decide +kernel
theorem dX10_keepForUndo_30 : decode cX10_keepForUndo 30 = .ok (.aload_n 0, 1) := by decide +kernel
theorem dX10_keepForUndo_31 : decode cX10_keepForUndo 31 = .ok (.getfield 72, 3) := by decide +kernel
theorem dX10_keepForUndo_34 : decode cX10_keepForUndo 34 = .ok (.iload_n 2, 1) := by decide +kernel
theorem dX10_keepForUndo_35 : decode cX10_keepForUndo 35 = .ok (.iconst 1, 1) := by decide +kernel
theorem dX10_keepForUndo_36 : decode cX10_keepForUndo 36 = .ok (.isub, 1) := by decide +kernel
theorem dX10_keepForUndo_37 : decode cX10_keepForUndo 37 = .ok (.aload_n 0, 1) := by decide +kernel
theorem dX10_keepForUndo_38 : decode cX10_keepForUndo 38 = .ok (.getfield 72, 3) := by decide +kernel
theorem dX10_keepForUndo_41 : decode cX10_keepForUndo 41 = .ok (.iload_n 2, 1) := by decide +kernel
theorem dX10_keepForUndo_42 : decode cX10_keepForUndo 42 = .ok (.aaload, 1) := by decide +kernel
theorem dX10_keepForUndo_43 : decode cX10_keepForUndo 43 = .ok (.aastore, 1) := by decide +kernel
theorem dX10_keepForUndo_44 : decode cX10_keepForUndo 44 = .ok (.iinc 2 1, 3) := by decide +kernel
theorem dX10_keepForUndo_47 : decode cX10_keepForUndo 47 = .ok (.goto (-26), 3) := by decide +kernel
theorem dX10_keepForUndo_50 : decode cX10_keepForUndo 50 = .ok (.aload_n 0, 1) := by decide +kernel
theorem dX10_keepForUndo_51 : decode cX10_keepForUndo 51 = .ok (.getfield 72, 3) := by decide +kernel
theorem dX10_keepForUndo_54 : decode cX10_keepForUndo 54 = .ok (.aload_n 0, 1) := by decide +kernel
theorem dX10_keepForUndo_55 : decode cX10_keepForUndo 55 = .ok (.getfield 72, 3) := by decide +kernel
theorem dX10_keepForUndo_58 : decode cX10_keepForUndo 58 = .ok (.arraylength, 1) := by decide +kernel
theorem dX10_keepForUndo_59 : decode cX10_keepForUndo 59 = .ok (.iconst 1, 1) := by decide +kernel
theorem dX10_keepForUndo_60 : decode cX10_keepForUndo 60 = .ok (.isub, 1) := by decide +kernel
theorem dX10_keepForUndo_61 : decode cX10_keepForUndo 61 = .ok (.aload_n 1, 1) := by decide +kernel
theorem dX10_keepForUndo_62 : decode cX10_keepForUndo 62 = .ok (.aastore, 1) := by decide +kernel
theorem dX10_keepForUndo_63 : decode cX10_keepForUndo 63 = .ok (.aload_n 0, 1) := by decide +kernel
theorem dX10_keepForUndo_64 : decode cX10_keepForUndo 64 = .ok (.aload_n 0, 1) := by decide +kernel
theorem dX10_keepForUndo_65 : decode cX10_keepForUndo 65 = .ok (.getfield 72, 3) := by decide +kernel
theorem dX10_keepForUndo_68 : decode cX10_keepForUndo 68 = .ok (.arraylength, 1) := by decide +kernel
theorem dX10_keepForUndo_69 : decode cX10_keepForUndo 69 = .ok (.iconst 1, 1) := by decide +kernel
theorem dX10_keepForUndo_70 : decode cX10_keepForUndo 70 = .ok (.isub, 1) := by decide +kernel
theorem dX10_keepForUndo_71 : decode cX10_keepForUndo 71 = .ok (.putfield 113, 3) := by decide +kernel
theorem dX10_keepForUndo_74 : decode cX10_keepForUndo 74 = .ok (.aload_n 0, 1) := by decide +kernel
theorem dX10_keepForUndo_75 : decode cX10_keepForUndo 75 = .ok (.getfield 72, 3) := by decide +kernel
theorem dX10_keepForUndo_78 : decode cX10_keepForUndo 78 = .ok (.aload_n 0, 1) := by decide +kernel
theorem dX10_keepForUndo_79 : decode cX10_keepForUndo 79 = .ok (.getfield 113, 3) := by decide +kernel
theorem dX10_keepForUndo_82 : decode cX10_keepForUndo 82 = .ok (.aaload, 1) := by decide +kernel
theorem dX10_keepForUndo_83 : decode cX10_keepForUndo 83 = .ok (.aload_n 0, 1) := by decide +kernel
theorem dX10_keepForUndo_84 : decode cX10_keepForUndo 84 = .ok (.getfield 65, 3) := by decide +kernel
theorem dX10_keepForUndo_87 : decode cX10_keepForUndo 87 = .ok (.invokevirtual 212, 3) := by decide +kernel
theorem dX10_keepForUndo_90 : decode cX10_keepForUndo 90 = .ok (.aload_n 0, 1) := by decide +kernel
theorem dX10_keepForUndo_91 : decode cX10_keepForUndo 91 = .ok (.dup, 1) := by decide +kernel
theorem dX10_keepForUndo_92 : decode cX10_keepForUndo 92 = .ok (.getfield 113, 3) := by decide +kernel
theorem dX10_keepForUndo_95 : decode cX10_keepForUndo 95 = .ok (.iconst 1, 1) := by decide +kernel
theorem dX10_keepForUndo_96 : decode cX10_keepForUndo 96 = .ok (.iadd, 1) := by decide +kernel
theorem dX10_keepForUndo_97 : decode cX10_keepForUndo 97 = .ok (.putfield 113, 3) := by decide +kernel
theorem dX10_keepForUndo_100 : decode cX10_keepForUndo 100 = .ok (.return_, 1) := by decide +kernel
theorem dX10_fallsWhenDrawn_0 : decode cX10_fallsWhenDrawn 0 = .ok (.iload_n 2, 1) := by decide +kernel
theorem dX10_fallsWhenDrawn_1 : decode cX10_fallsWhenDrawn 1 = .ok (.istore_n 3, 1) := by decide +kernel
theorem dX10_fallsWhenDrawn_2 : decode cX10_fallsWhenDrawn 2 = .ok (.iconst 0, 1) := by decide +kernel
theorem dX10_fallsWhenDrawn_3 : decode cX10_fallsWhenDrawn 3 = .ok (.istore 4, 2) := by decide +kernel
theorem dX10_fallsWhenDrawn_5 : decode cX10_fallsWhenDrawn 5 = .ok (.iload 4, 2) := by decide +kernel
theorem dX10_fallsWhenDrawn_7 : decode cX10_fallsWhenDrawn 7 = .ok (.bipush 40, 2) := by decide +kernel
theorem dX10_fallsWhenDrawn_9 : decode cX10_fallsWhenDrawn 9 = .ok (.if_icmp .ge 48, 3) := by decide +kernel
theorem dX10_fallsWhenDrawn_12 : decode cX10_fallsWhenDrawn 12 = .ok (.aload_n 0, 1) := by decide +kernel
theorem dX10_fallsWhenDrawn_13 : decode cX10_fallsWhenDrawn 13 = .ok (.getfield 69, 3) := by decide +kernel
theorem dX10_fallsWhenDrawn_16 : decode cX10_fallsWhenDrawn 16 = .ok (.getfield 190, 3) := by decide +kernel
theorem dX10_fallsWhenDrawn_19 : decode cX10_fallsWhenDrawn 19 = .ok (.sipush 10000, 3) := by decide +kernel
theorem dX10_fallsWhenDrawn_22 : decode cX10_fallsWhenDrawn 22 = .ok (.if_icmp .ge 35, 3) := by decide +kernel
theorem dX10_fallsWhenDrawn_25 : decode cX10_fallsWhenDrawn 25 = .ok (.aload_n 0, 1) := by decide +kernel
theorem dX10_fallsWhenDrawn_26 : decode cX10_fallsWhenDrawn 26 = .ok (.getfield 69, 3) := by decide +kernel
theorem dX10_fallsWhenDrawn_29 : decode cX10_fallsWhenDrawn 29 = .ok (.iload_n 3, 1) := by decide +kernel
theorem dX10_fallsWhenDrawn_30 : decode cX10_fallsWhenDrawn 30 = .ok (.invokevirtual 322, 3) := by decide +kernel
theorem dX10_fallsWhenDrawn_33 : decode cX10_fallsWhenDrawn 33 = .ok (.istore_n 3, 1) := by decide +kernel
theorem dX10_fallsWhenDrawn_34 : decode cX10_fallsWhenDrawn 34 = .ok (.aload_n 0, 1) := by decide +kernel
theorem dX10_fallsWhenDrawn_35 : decode cX10_fallsWhenDrawn 35 = .ok (.getfield 19, 3) := by decide +kernel
theorem dX10_fallsWhenDrawn_38 : decode cX10_fallsWhenDrawn 38 = .ok (.aload_n 0, 1) := by decide +kernel
theorem dX10_fallsWhenDrawn_39 : decode cX10_fallsWhenDrawn 39 = .ok (.getfield 69, 3) := by decide +kernel
theorem dX10_fallsWhenDrawn_42 : decode cX10_fallsWhenDrawn 42 = .ok (.iload_n 1, 1) := by decide +kernel
theorem dX10_fallsWhenDrawn_43 : decode cX10_fallsWhenDrawn 43 = .ok (.invokevirtual 379, 3) := by decide +kernel
theorem dX10_fallsWhenDrawn_46 : decode cX10_fallsWhenDrawn 46 = .ok (.ifCond .eq 5, 3) := by decide +kernel
theorem dX10_fallsWhenDrawn_49 : decode cX10_fallsWhenDrawn 49 = .ok (.iconst 1, 1) := by decide +kernel
theorem dX10_fallsWhenDrawn_50 : decode cX10_fallsWhenDrawn 50 = .ok (.ireturn, 1) := by decide +kernel
theorem dX10_fallsWhenDrawn_51 : decode cX10_fallsWhenDrawn 51 = .ok (.iinc 4 1, 3) := by decide +kernel
theorem dX10_fallsWhenDrawn_54 : decode cX10_fallsWhenDrawn 54 = .ok (.goto (-49), 3) := by decide +kernel
theorem dX10_fallsWhenDrawn_57 : decode cX10_fallsWhenDrawn 57 = .ok (.iconst 0, 1) := by decide +kernel
theorem dX10_fallsWhenDrawn_58 : decode cX10_fallsWhenDrawn 58 = .ok (.ireturn, 1) := by decide +kernel
theorem flX10_10 : FL RX10 10 10 0 := ⟨RX10, TX10, 15, tyX10, cd_10, by decide, Or.inl (inr_1 _ (List.mem_of_getElem? (i := 16) rfl))⟩
theorem flX10_19 : FL RX10 19 10 1 := ⟨RX10, TX10, 15, tyX10, cd_10, by decide, Or.inl (inr_1 _ (List.mem_of_getElem? (i := 20) rfl))⟩
theorem flX10_26 : FL RX10 26 10 2 := ⟨RX10, TX10, 15, tyX10, cd_10, by decide, Or.inl (inr_2 _ (List.mem_of_getElem? (i := 0) rfl))⟩
theorem flX10_40 : FL RX10 40 10 4 := ⟨RX10, TX10, 15, tyX10, cd_10, by decide, Or.inl (inr_2 _ (List.mem_of_getElem? (i := 8) rfl))⟩
theorem flX10_47 : FL RX10 47 10 5 := ⟨RX10, TX10, 15, tyX10, cd_10, by decide, Or.inl (inr_2 _ (List.mem_of_getElem? (i := 12) rfl))⟩
theorem flX10_54 : FL RX10 54 10 6 := ⟨RX10, TX10, 15, tyX10, cd_10, by decide, Or.inl (inr_2 _ (List.mem_of_getElem? (i := 16) rfl))⟩
theorem flX10_58 : FL RX10 58 10 7 := ⟨RX10, TX10, 15, tyX10, cd_10, by decide, Or.inl (inr_2 _ (List.mem_of_getElem? (i := 18) rfl))⟩
theorem flX10_65 : FL RX10 65 10 8 := ⟨RX10, TX10, 15, tyX10, cd_10, by decide, Or.inl (inr_2 _ (List.mem_of_getElem? (i := 22) rfl))⟩
theorem flX10_69 : FL RX10 69 10 9 := ⟨RX10, TX10, 15, tyX10, cd_10, by decide, Or.inl (inr_2 _ (List.mem_of_getElem? (i := 23) rfl))⟩
theorem flX10_72 : FL RX10 72 10 10 := ⟨RX10, TX10, 15, tyX10, cd_10, by decide, Or.inl (inr_3 _ (List.mem_of_getElem? (i := 0) rfl))⟩
theorem flX10_76 : FL RX10 76 10 12 := ⟨RX10, TX10, 15, tyX10, cd_10, by decide, Or.inl (inr_3 _ (List.mem_of_getElem? (i := 1) rfl))⟩
theorem flX10_80 : FL RX10 80 10 13 := ⟨RX10, TX10, 15, tyX10, cd_10, by decide, Or.inl (inr_3 _ (List.mem_of_getElem? (i := 3) rfl))⟩
theorem flX10_92 : FL RX10 92 6 1 := ⟨RX6, TX6, 10, tyX6, cd_6, by decide, Or.inl (inr_8 _ (List.mem_of_getElem? (i := 13) rfl))⟩
theorem flX10_103 : FL RX10 103 10 14 := ⟨RX10, TX10, 15, tyX10, cd_10, by decide, Or.inl (inr_9 _ (List.mem_of_getElem? (i := 21) rfl))⟩
theorem flX10_106 : FL RX10 106 6 9 := ⟨RX6, TX6, 10, tyX6, cd_6, by decide, Or.inl (inr_9 _ (List.mem_of_getElem? (i := 22) rfl))⟩
theorem flX10_113 : FL RX10 113 10 11 := ⟨RX10, TX10, 15, tyX10, cd_10, by decide, Or.inl (inr_9 _ (List.mem_of_getElem? (i := 23) rfl))⟩
theorem flX10_116 : FL RX10 116 9 0 := ⟨RX9, TX9, 3, tyX9, cd_9, by decide, Or.inl (inr_21 _ (List.mem_of_getElem? (i := 17) rfl))⟩
theorem flX10_125 : FL RX10 125 8 0 := ⟨RX8, TX8, 7, tyX8, cd_8, by decide, Or.inl (inr_21 _ (List.mem_of_getElem? (i := 18) rfl))⟩
theorem flX10_129 : FL RX10 129 9 1 := ⟨RX9, TX9, 3, tyX9, cd_9, by decide, Or.inl (inr_21 _ (List.mem_of_getElem? (i := 19) rfl))⟩
theorem flX10_148 : FL RX10 148 2 3 := ⟨RX2, TX2, 6, tyX2, cd_2, by decide, Or.inl (inr_21 _ (List.mem_of_getElem? (i := 20) rfl))⟩
theorem flX10_172 : FL RX10 172 8 1 := ⟨RX8, TX8, 7, tyX8, cd_8, by decide, Or.inl (inr_25 _ (List.mem_of_getElem? (i := 22) rfl))⟩
theorem flX10_176 : FL RX10 176 3 1 := ⟨RX3, TX3, 4, tyX3, cd_3, by decide, Or.inl (inr_25 _ (List.mem_of_getElem? (i := 23) rfl))⟩
theorem flX10_180 : FL RX10 180 3 2 := ⟨RX3, TX3, 4, tyX3, cd_3, by decide, Or.inl (inr_26 _ (List.mem_of_getElem? (i := 0) rfl))⟩
theorem flX10_183 : FL RX10 183 3 3 := ⟨RX3, TX3, 4, tyX3, cd_3, by decide, Or.inl (inr_26 _ (List.mem_of_getElem? (i := 1) rfl))⟩
theorem flX10_190 : FL RX10 190 2 0 := ⟨RX2, TX2, 6, tyX2, cd_2, by decide, Or.inl (inr_28 _ (List.mem_of_getElem? (i := 9) rfl))⟩
theorem flX10_193 : FL RX10 193 2 2 := ⟨RX2, TX2, 6, tyX2, cd_2, by decide, Or.inl (inr_28 _ (List.mem_of_getElem? (i := 10) rfl))⟩
theorem flX10_239 : FL RX10 239 8 2 := ⟨RX8, TX8, 7, tyX8, cd_8, by decide, Or.inl (inr_36 _ (List.mem_of_getElem? (i := 15) rfl))⟩
theorem flX10_253 : FL RX10 253 0 0 := ⟨RX0, TX0, 5, tyX0, cd_0, by decide, Or.inl (inr_39 _ (List.mem_of_getElem? (i := 5) rfl))⟩
theorem flX10_262 : FL RX10 262 0 1 := ⟨RX0, TX0, 5, tyX0, cd_0, by decide, Or.inl (inr_40 _ (List.mem_of_getElem? (i := 16) rfl))⟩
theorem flX10_269 : FL RX10 269 0 2 := ⟨RX0, TX0, 5, tyX0, cd_0, by decide, Or.inl (inr_41 _ (List.mem_of_getElem? (i := 15) rfl))⟩
theorem flX10_276 : FL RX10 276 0 3 := ⟨RX0, TX0, 5, tyX0, cd_0, by decide, Or.inl (inr_42 _ (List.mem_of_getElem? (i := 15) rfl))⟩
theorem flX10_285 : FL RX10 285 0 4 := ⟨RX0, TX0, 5, tyX0, cd_0, by decide, Or.inl (inr_44 _ (List.mem_of_getElem? (i := 4) rfl))⟩
theorem flX10_314 : FL RX10 314 7 1 := ⟨RX7, TX7, 2, tyX7, cd_7, by decide, Or.inl (inr_48 _ (List.mem_of_getElem? (i := 14) rfl))⟩
theorem flX10_318 : FL RX10 318 7 0 := ⟨RX7, TX7, 2, tyX7, cd_7, by decide, Or.inl (inr_52 _ (List.mem_of_getElem? (i := 23) rfl))⟩
theorem flX10_335 : FL RX10 335 1 5 := ⟨RX1, TX1, 8, tyX1, cd_1, by decide, Or.inl (inr_55 _ (List.mem_of_getElem? (i := 18) rfl))⟩
theorem flX10_338 : FL RX10 338 1 3 := ⟨RX1, TX1, 8, tyX1, cd_1, by decide, Or.inl (inr_58 _ (List.mem_of_getElem? (i := 6) rfl))⟩
theorem flX10_342 : FL RX10 342 1 4 := ⟨RX1, TX1, 8, tyX1, cd_1, by decide, Or.inl (inr_58 _ (List.mem_of_getElem? (i := 7) rfl))⟩
theorem flX10_345 : FL RX10 345 1 6 := ⟨RX1, TX1, 8, tyX1, cd_1, by decide, Or.inl (inr_58 _ (List.mem_of_getElem? (i := 8) rfl))⟩
theorem flX10_348 : FL RX10 348 1 7 := ⟨RX1, TX1, 8, tyX1, cd_1, by decide, Or.inl (inr_58 _ (List.mem_of_getElem? (i := 9) rfl))⟩
theorem flX10_352 : FL RX10 352 9 2 := ⟨RX9, TX9, 3, tyX9, cd_9, by decide, Or.inl (inr_58 _ (List.mem_of_getElem? (i := 18) rfl))⟩
theorem flX10_358 : FL RX10 358 5 4 := ⟨RX5, TX5, 5, tyX5, cd_5, by decide, Or.inl (inr_58 _ (List.mem_of_getElem? (i := 19) rfl))⟩
theorem flX10_368 : FL RX10 368 8 3 := ⟨RX8, TX8, 7, tyX8, cd_8, by decide, Or.inl (inr_65 _ (List.mem_of_getElem? (i := 11) rfl))⟩
theorem flX10_371 : FL RX10 371 8 4 := ⟨RX8, TX8, 7, tyX8, cd_8, by decide, Or.inl (inr_65 _ (List.mem_of_getElem? (i := 12) rfl))⟩
theorem flX10_374 : FL RX10 374 8 5 := ⟨RX8, TX8, 7, tyX8, cd_8, by decide, Or.inl (inr_65 _ (List.mem_of_getElem? (i := 13) rfl))⟩
theorem flX10_377 : FL RX10 377 6 8 := ⟨RX6, TX6, 10, tyX6, cd_6, by decide, Or.inl (inr_15 _ (List.mem_of_getElem? (i := 7) rfl))⟩
theorem flX10_378 : FL RX10 378 6 0 := ⟨RX6, TX6, 10, tyX6, cd_6, by decide, Or.inl (inr_44 _ (List.mem_of_getElem? (i := 17) rfl))⟩
theorem fpX10_92 : FP RX10 92 6 1 .int := ⟨RX6, TX6, 10, tyX6, cd_6, by decide, (inr_8 _ (List.mem_of_getElem? (i := 13) rfl)), rfl, by decide +kernel⟩
theorem fpX10_103 : FP RX10 103 10 14 .int := ⟨RX10, TX10, 15, tyX10, cd_10, by decide, (inr_9 _ (List.mem_of_getElem? (i := 21) rfl)), rfl, by decide +kernel⟩
theorem fpX10_113 : FP RX10 113 10 11 .int := ⟨RX10, TX10, 15, tyX10, cd_10, by decide, (inr_9 _ (List.mem_of_getElem? (i := 23) rfl)), rfl, by decide +kernel⟩
theorem mlX10_84 : MLv RX10 84 RX6 6 yX6_hasRoom cX6_hasRoom 2 (some .boolean) 1 := ⟨(inr_8 _ (List.mem_of_getElem? (i := 17) rfl)), (inr_8 _ (List.mem_of_getElem? (i := 14) rfl)), (inr_8 _ (List.mem_of_getElem? (i := 15) rfl)), (inr_8 _ (List.mem_of_getElem? (i := 16) rfl)), (inr_1 _ (List.mem_of_getElem? (i := 15) rfl)), rfl, ⟨by decide, by decide, by decide +kernel⟩, by decide, by decide, rfl⟩
theorem mlX10_88 : MLv RX10 88 RX6 6 yX6_addNumber cX6_addNumber 3 none 1 := ⟨(inr_8 _ (List.mem_of_getElem? (i := 22) rfl)), (inr_8 _ (List.mem_of_getElem? (i := 19) rfl)), (inr_8 _ (List.mem_of_getElem? (i := 20) rfl)), (inr_8 _ (List.mem_of_getElem? (i := 21) rfl)), (inr_1 _ (List.mem_of_getElem? (i := 15) rfl)), rfl, ⟨by decide, by decide, by decide +kernel⟩, by decide, by decide, rfl⟩
theorem mlX10_96 : MLv RX10 96 RX8 8 yX8_readFrom cX8_readFrom 3 (some .int) 1 := ⟨(inr_10 _ (List.mem_of_getElem? (i := 3) rfl)), (inr_10 _ (List.mem_of_getElem? (i := 0) rfl)), (inr_10 _ (List.mem_of_getElem? (i := 1) rfl)), (inr_10 _ (List.mem_of_getElem? (i := 2) rfl)), (inr_1 _ (List.mem_of_getElem? (i := 23) rfl)), rfl, ⟨by decide, by decide, by decide +kernel⟩, by decide, by decide, rfl⟩
theorem mlX10_100 : MLv RX10 100 RX10 10 yX10_closeText cX10_closeText 1 none 0 := ⟨(inr_15 _ (List.mem_of_getElem? (i := 6) rfl)), (inr_15 _ (List.mem_of_getElem? (i := 3) rfl)), (inr_15 _ (List.mem_of_getElem? (i := 4) rfl)), (inr_15 _ (List.mem_of_getElem? (i := 5) rfl)), (inr_1 _ (List.mem_of_getElem? (i := 2) rfl)), rfl, ⟨by decide, by decide, by decide +kernel⟩, by decide, by decide, rfl⟩
theorem mlX10_109 : MLv RX10 109 RX9 9 yX9_begin cX9_begin 2 none 1 := ⟨(inr_15 _ (List.mem_of_getElem? (i := 11) rfl)), (inr_15 _ (List.mem_of_getElem? (i := 8) rfl)), (inr_15 _ (List.mem_of_getElem? (i := 9) rfl)), (inr_15 _ (List.mem_of_getElem? (i := 10) rfl)), (inr_1 _ (List.mem_of_getElem? (i := 19) rfl)), rfl, ⟨by decide, by decide, by decide +kernel⟩, by decide, by decide, rfl⟩
theorem mlX10_119 : MLv RX10 119 RX8 8 yX8_hasParish cX8_hasParish 2 (some .boolean) 1 := ⟨(inr_14 _ (List.mem_of_getElem? (i := 7) rfl)), (inr_21 _ (List.mem_of_getElem? (i := 23) rfl)), (inr_14 _ (List.mem_of_getElem? (i := 5) rfl)), (inr_14 _ (List.mem_of_getElem? (i := 6) rfl)), (inr_1 _ (List.mem_of_getElem? (i := 23) rfl)), rfl, ⟨by decide, by decide, by decide +kernel⟩, by decide, by decide, rfl⟩
theorem mlX10_161 : MLv RX10 161 RX4 4 yX4_called cX4_called 3 (some .int) 2 := ⟨(inr_23 _ (List.mem_of_getElem? (i := 4) rfl)), (inr_23 _ (List.mem_of_getElem? (i := 1) rfl)), (inr_23 _ (List.mem_of_getElem? (i := 2) rfl)), (inr_23 _ (List.mem_of_getElem? (i := 3) rfl)), (inr_4 _ (List.mem_of_getElem? (i := 7) rfl)), rfl, ⟨by decide, by decide, by decide +kernel⟩, by decide, by decide, rfl⟩
theorem mlX10_165 : MLv RX10 165 RX4 4 yX4_countAt cX4_countAt 5 (some .int) 3 := ⟨(inr_25 _ (List.mem_of_getElem? (i := 1) rfl)), (inr_24 _ (List.mem_of_getElem? (i := 22) rfl)), (inr_24 _ (List.mem_of_getElem? (i := 23) rfl)), (inr_25 _ (List.mem_of_getElem? (i := 0) rfl)), (inr_4 _ (List.mem_of_getElem? (i := 7) rfl)), rfl, ⟨by decide, by decide, by decide +kernel⟩, by decide, by decide, rfl⟩
theorem mlX10_169 : MLv RX10 169 RX8 8 yX8_hasFeast cX8_hasFeast 2 (some .boolean) 1 := ⟨(inr_26 _ (List.mem_of_getElem? (i := 5) rfl)), (inr_26 _ (List.mem_of_getElem? (i := 2) rfl)), (inr_26 _ (List.mem_of_getElem? (i := 3) rfl)), (inr_26 _ (List.mem_of_getElem? (i := 4) rfl)), (inr_1 _ (List.mem_of_getElem? (i := 23) rfl)), rfl, ⟨by decide, by decide, by decide +kernel⟩, by decide, by decide, rfl⟩
theorem mlX10_186 : MLv RX10 186 RX9 9 yX9_fallsOn cX9_fallsOn 4 (some .boolean) 2 := ⟨(inr_26 _ (List.mem_of_getElem? (i := 9) rfl)), (inr_26 _ (List.mem_of_getElem? (i := 6) rfl)), (inr_26 _ (List.mem_of_getElem? (i := 7) rfl)), (inr_26 _ (List.mem_of_getElem? (i := 8) rfl)), (inr_1 _ (List.mem_of_getElem? (i := 19) rfl)), rfl, ⟨by decide, by decide, by decide +kernel⟩, by decide, by decide, rfl⟩
theorem mlX10_196 : MLv RX10 196 RX9 9 yX9_feastsToday cX9_feastsToday 3 (some .int) 0 := ⟨(inr_28 _ (List.mem_of_getElem? (i := 14) rfl)), (inr_28 _ (List.mem_of_getElem? (i := 11) rfl)), (inr_28 _ (List.mem_of_getElem? (i := 12) rfl)), (inr_28 _ (List.mem_of_getElem? (i := 13) rfl)), (inr_1 _ (List.mem_of_getElem? (i := 19) rfl)), rfl, ⟨by decide, by decide, by decide +kernel⟩, by decide, by decide, rfl⟩
theorem mlX10_200 : MLv RX10 200 RX9 9 yX9_firstWeekdays cX9_firstWeekdays 3 (some .int) 0 := ⟨(inr_28 _ (List.mem_of_getElem? (i := 20) rfl)), (inr_28 _ (List.mem_of_getElem? (i := 17) rfl)), (inr_28 _ (List.mem_of_getElem? (i := 18) rfl)), (inr_28 _ (List.mem_of_getElem? (i := 19) rfl)), (inr_1 _ (List.mem_of_getElem? (i := 19) rfl)), rfl, ⟨by decide, by decide, by decide +kernel⟩, by decide, by decide, rfl⟩
theorem mlX10_203 : MLv RX10 203 RX9 9 yX9_betweenToday cX9_betweenToday 3 (some .int) 0 := ⟨(inr_29 _ (List.mem_of_getElem? (i := 2) rfl)), (inr_28 _ (List.mem_of_getElem? (i := 23) rfl)), (inr_29 _ (List.mem_of_getElem? (i := 0) rfl)), (inr_29 _ (List.mem_of_getElem? (i := 1) rfl)), (inr_1 _ (List.mem_of_getElem? (i := 19) rfl)), rfl, ⟨by decide, by decide, by decide +kernel⟩, by decide, by decide, rfl⟩
theorem mlX10_206 : MLv RX10 206 RX2 2 yX2_heldInAll cX2_heldInAll 3 (some .int) 0 := ⟨(inr_29 _ (List.mem_of_getElem? (i := 10) rfl)), (inr_29 _ (List.mem_of_getElem? (i := 7) rfl)), (inr_29 _ (List.mem_of_getElem? (i := 8) rfl)), (inr_29 _ (List.mem_of_getElem? (i := 9) rfl)), (inr_2 _ (List.mem_of_getElem? (i := 21) rfl)), rfl, ⟨by decide, by decide, by decide +kernel⟩, by decide, by decide, rfl⟩
theorem mlX10_209 : MLv RX10 209 RX2 2 yX2_skippedInAll cX2_skippedInAll 3 (some .int) 0 := ⟨(inr_29 _ (List.mem_of_getElem? (i := 14) rfl)), (inr_29 _ (List.mem_of_getElem? (i := 11) rfl)), (inr_29 _ (List.mem_of_getElem? (i := 12) rfl)), (inr_29 _ (List.mem_of_getElem? (i := 13) rfl)), (inr_2 _ (List.mem_of_getElem? (i := 21) rfl)), rfl, ⟨by decide, by decide, by decide +kernel⟩, by decide, by decide, rfl⟩
theorem mlX10_212 : MLv RX10 212 RX2 2 yX2_copyFrom cX2_copyFrom 3 none 1 := ⟨(inr_30 _ (List.mem_of_getElem? (i := 18) rfl)), (inr_30 _ (List.mem_of_getElem? (i := 15) rfl)), (inr_30 _ (List.mem_of_getElem? (i := 16) rfl)), (inr_30 _ (List.mem_of_getElem? (i := 17) rfl)), (inr_2 _ (List.mem_of_getElem? (i := 21) rfl)), rfl, ⟨by decide, by decide, by decide +kernel⟩, by decide, by decide, rfl⟩
theorem mlX10_216 : MLv RX10 216 RX2 2 yX2_holdDay cX2_holdDay 2 (some .int) 1 := ⟨(inr_30 _ (List.mem_of_getElem? (i := 22) rfl)), (inr_30 _ (List.mem_of_getElem? (i := 19) rfl)), (inr_30 _ (List.mem_of_getElem? (i := 20) rfl)), (inr_30 _ (List.mem_of_getElem? (i := 21) rfl)), (inr_2 _ (List.mem_of_getElem? (i := 21) rfl)), rfl, ⟨by decide, by decide, by decide +kernel⟩, by decide, by decide, rfl⟩
theorem mlX10_220 : MLv RX10 220 RX10 10 yX10_keepForUndo cX10_keepForUndo 3 none 0 := ⟨(inr_31 _ (List.mem_of_getElem? (i := 2) rfl)), (inr_30 _ (List.mem_of_getElem? (i := 23) rfl)), (inr_31 _ (List.mem_of_getElem? (i := 0) rfl)), (inr_31 _ (List.mem_of_getElem? (i := 1) rfl)), (inr_1 _ (List.mem_of_getElem? (i := 2) rfl)), rfl, ⟨by decide, by decide, by decide +kernel⟩, by decide, by decide, rfl⟩
theorem mlX10_223 : MLv RX10 223 RX2 2 yX2_skipDays cX2_skipDays 3 (some .int) 2 := ⟨(inr_32 _ (List.mem_of_getElem? (i := 2) rfl)), (inr_31 _ (List.mem_of_getElem? (i := 23) rfl)), (inr_32 _ (List.mem_of_getElem? (i := 0) rfl)), (inr_32 _ (List.mem_of_getElem? (i := 1) rfl)), (inr_2 _ (List.mem_of_getElem? (i := 21) rfl)), rfl, ⟨by decide, by decide, by decide +kernel⟩, by decide, by decide, rfl⟩
theorem mlX10_226 : MLv RX10 226 RX2 2 yX2_passDays cX2_passDays 4 (some .int) 1 := ⟨(inr_32 _ (List.mem_of_getElem? (i := 22) rfl)), (inr_32 _ (List.mem_of_getElem? (i := 19) rfl)), (inr_32 _ (List.mem_of_getElem? (i := 20) rfl)), (inr_32 _ (List.mem_of_getElem? (i := 21) rfl)), (inr_2 _ (List.mem_of_getElem? (i := 21) rfl)), rfl, ⟨by decide, by decide, by decide +kernel⟩, by decide, by decide, rfl⟩
theorem mlX10_229 : MLv RX10 229 RX9 9 yX9_nextFrom cX9_nextFrom 7 (some .int) 2 := ⟨(inr_34 _ (List.mem_of_getElem? (i := 7) rfl)), (inr_34 _ (List.mem_of_getElem? (i := 4) rfl)), (inr_34 _ (List.mem_of_getElem? (i := 5) rfl)), (inr_34 _ (List.mem_of_getElem? (i := 6) rfl)), (inr_1 _ (List.mem_of_getElem? (i := 19) rfl)), rfl, ⟨by decide, by decide, by decide +kernel⟩, by decide, by decide, rfl⟩
theorem mlX10_232 : MLv RX10 232 RX0 0 yX0_countFalls cX0_countFalls 10 (some .int) 3 := ⟨(inr_35 _ (List.mem_of_getElem? (i := 0) rfl)), (inr_34 _ (List.mem_of_getElem? (i := 21) rfl)), (inr_34 _ (List.mem_of_getElem? (i := 22) rfl)), (inr_34 _ (List.mem_of_getElem? (i := 23) rfl)), (inr_2 _ (List.mem_of_getElem? (i := 11) rfl)), rfl, ⟨by decide, by decide, by decide +kernel⟩, by decide, by decide, rfl⟩
theorem mlX10_236 : MLv RX10 236 RX0 0 yX0_findMeeting cX0_findMeeting 8 (some .int) 3 := ⟨(inr_36 _ (List.mem_of_getElem? (i := 4) rfl)), (inr_36 _ (List.mem_of_getElem? (i := 1) rfl)), (inr_36 _ (List.mem_of_getElem? (i := 2) rfl)), (inr_36 _ (List.mem_of_getElem? (i := 3) rfl)), (inr_2 _ (List.mem_of_getElem? (i := 11) rfl)), rfl, ⟨by decide, by decide, by decide +kernel⟩, by decide, by decide, rfl⟩
theorem mlX10_242 : MLv RX10 242 RX0 0 yX0_findFair cX0_findFair 4 (some .int) 2 := ⟨(inr_36 _ (List.mem_of_getElem? (i := 19) rfl)), (inr_36 _ (List.mem_of_getElem? (i := 16) rfl)), (inr_36 _ (List.mem_of_getElem? (i := 17) rfl)), (inr_36 _ (List.mem_of_getElem? (i := 18) rfl)), (inr_2 _ (List.mem_of_getElem? (i := 11) rfl)), rfl, ⟨by decide, by decide, by decide +kernel⟩, by decide, by decide, rfl⟩
theorem mlX10_250 : MLv RX10 250 RX0 0 yX0_findTune cX0_findTune 9 (some .int) 3 := ⟨(inr_38 _ (List.mem_of_getElem? (i := 17) rfl)), (inr_38 _ (List.mem_of_getElem? (i := 14) rfl)), (inr_38 _ (List.mem_of_getElem? (i := 15) rfl)), (inr_38 _ (List.mem_of_getElem? (i := 16) rfl)), (inr_2 _ (List.mem_of_getElem? (i := 11) rfl)), rfl, ⟨by decide, by decide, by decide +kernel⟩, by decide, by decide, rfl⟩
theorem mlX10_256 : MLv RX10 256 RX10 10 yX10_hasBoth cX10_hasBoth 3 (some .boolean) 2 := ⟨(inr_39 _ (List.mem_of_getElem? (i := 17) rfl)), (inr_39 _ (List.mem_of_getElem? (i := 14) rfl)), (inr_39 _ (List.mem_of_getElem? (i := 15) rfl)), (inr_39 _ (List.mem_of_getElem? (i := 16) rfl)), (inr_1 _ (List.mem_of_getElem? (i := 2) rfl)), rfl, ⟨by decide, by decide, by decide +kernel⟩, by decide, by decide, rfl⟩
theorem mlX10_259 : MLv RX10 259 RX0 0 yX0_findAgreement cX0_findAgreement 6 (some .int) 3 := ⟨(inr_39 _ (List.mem_of_getElem? (i := 21) rfl)), (inr_39 _ (List.mem_of_getElem? (i := 18) rfl)), (inr_39 _ (List.mem_of_getElem? (i := 19) rfl)), (inr_39 _ (List.mem_of_getElem? (i := 20) rfl)), (inr_2 _ (List.mem_of_getElem? (i := 11) rfl)), rfl, ⟨by decide, by decide, by decide +kernel⟩, by decide, by decide, rfl⟩
theorem mlX10_265 : MLv RX10 265 RX0 0 yX0_countMatches cX0_countMatches 7 (some .int) 4 := ⟨(inr_41 _ (List.mem_of_getElem? (i := 4) rfl)), (inr_41 _ (List.mem_of_getElem? (i := 1) rfl)), (inr_41 _ (List.mem_of_getElem? (i := 2) rfl)), (inr_41 _ (List.mem_of_getElem? (i := 3) rfl)), (inr_2 _ (List.mem_of_getElem? (i := 11) rfl)), rfl, ⟨by decide, by decide, by decide +kernel⟩, by decide, by decide, rfl⟩
theorem mlX10_272 : MLv RX10 272 RX0 0 yX0_findReform cX0_findReform 5 (some .int) 1 := ⟨(inr_42 _ (List.mem_of_getElem? (i := 3) rfl)), (inr_42 _ (List.mem_of_getElem? (i := 0) rfl)), (inr_42 _ (List.mem_of_getElem? (i := 1) rfl)), (inr_42 _ (List.mem_of_getElem? (i := 2) rfl)), (inr_2 _ (List.mem_of_getElem? (i := 11) rfl)), rfl, ⟨by decide, by decide, by decide +kernel⟩, by decide, by decide, rfl⟩
theorem mlX10_279 : MLv RX10 279 RX0 0 yX0_findMove cX0_findMove 7 (some .int) 4 := ⟨(inr_43 _ (List.mem_of_getElem? (i := 3) rfl)), (inr_43 _ (List.mem_of_getElem? (i := 0) rfl)), (inr_43 _ (List.mem_of_getElem? (i := 1) rfl)), (inr_43 _ (List.mem_of_getElem? (i := 2) rfl)), (inr_2 _ (List.mem_of_getElem? (i := 11) rfl)), rfl, ⟨by decide, by decide, by decide +kernel⟩, by decide, by decide, rfl⟩
theorem mlX10_282 : MLv RX10 282 RX0 0 yX0_findCrowd cX0_findCrowd 6 (some .int) 2 := ⟨(inr_43 _ (List.mem_of_getElem? (i := 15) rfl)), (inr_43 _ (List.mem_of_getElem? (i := 12) rfl)), (inr_43 _ (List.mem_of_getElem? (i := 13) rfl)), (inr_43 _ (List.mem_of_getElem? (i := 14) rfl)), (inr_2 _ (List.mem_of_getElem? (i := 11) rfl)), rfl, ⟨by decide, by decide, by decide +kernel⟩, by decide, by decide, rfl⟩
theorem mlX10_288 : MLv RX10 288 RX10 10 yX10_takeLetter cX10_takeLetter 3 (some .boolean) 0 := ⟨(inr_44 _ (List.mem_of_getElem? (i := 16) rfl)), (inr_44 _ (List.mem_of_getElem? (i := 13) rfl)), (inr_44 _ (List.mem_of_getElem? (i := 14) rfl)), (inr_44 _ (List.mem_of_getElem? (i := 15) rfl)), (inr_1 _ (List.mem_of_getElem? (i := 2) rfl)), rfl, ⟨by decide, by decide, by decide +kernel⟩, by decide, by decide, rfl⟩
theorem mlX10_292 : MLv RX10 292 RX0 0 yX0_findWriters cX0_findWriters 5 (some .int) 2 := ⟨(inr_44 _ (List.mem_of_getElem? (i := 21) rfl)), (inr_44 _ (List.mem_of_getElem? (i := 18) rfl)), (inr_44 _ (List.mem_of_getElem? (i := 19) rfl)), (inr_44 _ (List.mem_of_getElem? (i := 20) rfl)), (inr_2 _ (List.mem_of_getElem? (i := 11) rfl)), rfl, ⟨by decide, by decide, by decide +kernel⟩, by decide, by decide, rfl⟩
theorem mlX10_296 : MLv RX10 296 RX0 0 yX0_findAgo cX0_findAgo 6 (some .int) 3 := ⟨(inr_45 _ (List.mem_of_getElem? (i := 21) rfl)), (inr_45 _ (List.mem_of_getElem? (i := 18) rfl)), (inr_45 _ (List.mem_of_getElem? (i := 19) rfl)), (inr_45 _ (List.mem_of_getElem? (i := 20) rfl)), (inr_2 _ (List.mem_of_getElem? (i := 11) rfl)), rfl, ⟨by decide, by decide, by decide +kernel⟩, by decide, by decide, rfl⟩
theorem mlX10_300 : MLv RX10 300 RX0 0 yX0_countAge cX0_countAge 9 (some .int) 5 := ⟨(inr_46 _ (List.mem_of_getElem? (i := 9) rfl)), (inr_46 _ (List.mem_of_getElem? (i := 6) rfl)), (inr_46 _ (List.mem_of_getElem? (i := 7) rfl)), (inr_46 _ (List.mem_of_getElem? (i := 8) rfl)), (inr_2 _ (List.mem_of_getElem? (i := 11) rfl)), rfl, ⟨by decide, by decide, by decide +kernel⟩, by decide, by decide, rfl⟩
theorem mlX10_304 : MLv RX10 304 RX0 0 yX0_findQuestion cX0_findQuestion 6 (some .int) 1 := ⟨(inr_46 _ (List.mem_of_getElem? (i := 22) rfl)), (inr_46 _ (List.mem_of_getElem? (i := 19) rfl)), (inr_46 _ (List.mem_of_getElem? (i := 20) rfl)), (inr_46 _ (List.mem_of_getElem? (i := 21) rfl)), (inr_2 _ (List.mem_of_getElem? (i := 11) rfl)), rfl, ⟨by decide, by decide, by decide +kernel⟩, by decide, by decide, rfl⟩
theorem mlX10_307 : MLv RX10 307 RX0 0 yX0_findBirthday cX0_findBirthday 10 (some .int) 3 := ⟨(inr_48 _ (List.mem_of_getElem? (i := 1) rfl)), (inr_47 _ (List.mem_of_getElem? (i := 22) rfl)), (inr_47 _ (List.mem_of_getElem? (i := 23) rfl)), (inr_48 _ (List.mem_of_getElem? (i := 0) rfl)), (inr_2 _ (List.mem_of_getElem? (i := 11) rfl)), rfl, ⟨by decide, by decide, by decide +kernel⟩, by decide, by decide, rfl⟩
theorem mlX10_310 : MLv RX10 310 RX7 7 yX7_write cX7_write 5 none 2 := ⟨(inr_48 _ (List.mem_of_getElem? (i := 18) rfl)), (inr_48 _ (List.mem_of_getElem? (i := 15) rfl)), (inr_48 _ (List.mem_of_getElem? (i := 16) rfl)), (inr_48 _ (List.mem_of_getElem? (i := 17) rfl)), (inr_2 _ (List.mem_of_getElem? (i := 15) rfl)), rfl, ⟨by decide, by decide, by decide +kernel⟩, by decide, by decide, rfl⟩
theorem mlX10_315 : MLv RX10 315 RX7 7 yX7_has cX7_has 2 (some .boolean) 1 := ⟨(inr_53 _ (List.mem_of_getElem? (i := 3) rfl)), (inr_53 _ (List.mem_of_getElem? (i := 0) rfl)), (inr_53 _ (List.mem_of_getElem? (i := 1) rfl)), (inr_53 _ (List.mem_of_getElem? (i := 2) rfl)), (inr_2 _ (List.mem_of_getElem? (i := 15) rfl)), rfl, ⟨by decide, by decide, by decide +kernel⟩, by decide, by decide, rfl⟩
theorem mlX10_322 : MLv RX10 322 RX2 2 yX2_drawDay cX2_drawDay 5 (some .int) 1 := ⟨(inr_53 _ (List.mem_of_getElem? (i := 15) rfl)), (inr_53 _ (List.mem_of_getElem? (i := 12) rfl)), (inr_53 _ (List.mem_of_getElem? (i := 13) rfl)), (inr_53 _ (List.mem_of_getElem? (i := 14) rfl)), (inr_2 _ (List.mem_of_getElem? (i := 21) rfl)), rfl, ⟨by decide, by decide, by decide +kernel⟩, by decide, by decide, rfl⟩
theorem mlX10_325 : MLv RX10 325 RX10 10 yX10_fallsWhenDrawn cX10_fallsWhenDrawn 5 (some .boolean) 2 := ⟨(inr_54 _ (List.mem_of_getElem? (i := 21) rfl)), (inr_54 _ (List.mem_of_getElem? (i := 18) rfl)), (inr_54 _ (List.mem_of_getElem? (i := 19) rfl)), (inr_54 _ (List.mem_of_getElem? (i := 20) rfl)), (inr_1 _ (List.mem_of_getElem? (i := 2) rfl)), rfl, ⟨by decide, by decide, by decide +kernel⟩, by decide, by decide, rfl⟩
theorem mlX10_328 : MLv RX10 328 RX1 1 yX1_readFrom cX1_readFrom 4 none 2 := ⟨(inr_55 _ (List.mem_of_getElem? (i := 22) rfl)), (inr_55 _ (List.mem_of_getElem? (i := 19) rfl)), (inr_55 _ (List.mem_of_getElem? (i := 20) rfl)), (inr_55 _ (List.mem_of_getElem? (i := 21) rfl)), (inr_2 _ (List.mem_of_getElem? (i := 7) rfl)), rfl, ⟨by decide, by decide, by decide +kernel⟩, by decide, by decide, rfl⟩
theorem mlX10_331 : MLv RX10 331 RX1 1 yX1_judge cX1_judge 2 (some .int) 1 := ⟨(inr_56 _ (List.mem_of_getElem? (i := 21) rfl)), (inr_56 _ (List.mem_of_getElem? (i := 18) rfl)), (inr_56 _ (List.mem_of_getElem? (i := 19) rfl)), (inr_56 _ (List.mem_of_getElem? (i := 20) rfl)), (inr_2 _ (List.mem_of_getElem? (i := 7) rfl)), rfl, ⟨by decide, by decide, by decide +kernel⟩, by decide, by decide, rfl⟩
theorem mlX10_361 : MLv RX10 361 RX5 5 yX5_isTrueOf cX5_isTrueOf 5 (some .boolean) 2 := ⟨(inr_63 _ (List.mem_of_getElem? (i := 0) rfl)), (inr_62 _ (List.mem_of_getElem? (i := 21) rfl)), (inr_62 _ (List.mem_of_getElem? (i := 22) rfl)), (inr_62 _ (List.mem_of_getElem? (i := 23) rfl)), (inr_2 _ (List.mem_of_getElem? (i := 3) rfl)), rfl, ⟨by decide, by decide, by decide +kernel⟩, by decide, by decide, rfl⟩
theorem mlX10_365 : MLv RX10 365 RX9 9 yX9_copyFrom cX9_copyFrom 2 none 1 := ⟨(inr_64 _ (List.mem_of_getElem? (i := 16) rfl)), (inr_64 _ (List.mem_of_getElem? (i := 13) rfl)), (inr_64 _ (List.mem_of_getElem? (i := 14) rfl)), (inr_64 _ (List.mem_of_getElem? (i := 15) rfl)), (inr_1 _ (List.mem_of_getElem? (i := 19) rfl)), rfl, ⟨by decide, by decide, by decide +kernel⟩, by decide, by decide, rfl⟩
theorem mlX10_379 : MLv RX10 379 RX9 9 yX9_fallsBy cX9_fallsBy 4 (some .boolean) 2 := ⟨(inr_55 _ (List.mem_of_getElem? (i := 1) rfl)), (inr_54 _ (List.mem_of_getElem? (i := 22) rfl)), (inr_54 _ (List.mem_of_getElem? (i := 23) rfl)), (inr_55 _ (List.mem_of_getElem? (i := 0) rfl)), (inr_1 _ (List.mem_of_getElem? (i := 19) rfl)), rfl, ⟨by decide, by decide, by decide +kernel⟩, by decide, by decide, rfl⟩
def fX10_feed (a0 : Nat) (x1 : Int32) (x2 : Int32) (x3 : Int32) (x4 : Int32) (x5 : Int32) (S : St) : Option (Int32 × St) :=
  if (fX6_hasRoom (a0 + 1) (20 : Int32) S) = 0 then (some ((-1 : Int32), S)) else
  ((fX6_addNumber (a0 + 1) x1 S).bind fun r_2 =>
  (fX6_addNumber (a0 + 1) x2 r_2).bind fun r_4 =>
  (fX6_addNumber (a0 + 1) x3 r_4).bind fun r_6 =>
  (fX6_addNumber (a0 + 1) x4 r_6).bind fun r_8 =>
  (fX6_addNumber (a0 + 1) x5 r_8).bind fun r_10 =>
  some ((gI r_10 6 1 (a0 + 1)), r_10))
theorem wX10_feed {z : Mx} {ad : Nat → Nat} {o : Option Value × St} (X : CxOk z ad RX10 cX10_feed 6 (some .int) 2) (a0 : Nat) (x1 : Int32) (x2 : Int32) (x3 : Int32) (x4 : Int32) (x5 : Int32) (h0 : KT a0 = 10) (S : St) (r : (Int32 × St)) (ho : o = (some (.int r.1), r.2)) (hF : fX10_feed a0 x1 x2 x3 x4 x5 S = some r) : GW z ad o S 0 [(0, .ref (ad a0)), (1, .int x1), (2, .int x2), (3, .int x3), (4, .int x4), (5, .int x5)] [] := by
  unfold fX10_feed at hF
  refine g_aload_n X dX10_feed_0 0 rfl rfl ?_
  refine g_getR (f := 1) X dX10_feed_1 flX10_10 rfl rfl h0 ?_
  refine g_bipush (v := 20) X dX10_feed_4 (by decide) ?_
  refine g_callVi (As := [.int (20 : Int32)]) X dX10_feed_6 mlX10_84 (fun l D cyy => tX6_hasRoom (cx_inj X) l D cyy (a0 + 1) (20 : Int32) (on_10_0 h0) S) (on_10_0 h0) (by decide) rfl rfl (Nat.le_of_ble_eq_true rfl) ?_
  refine g_if_ne (tgt := 14) X dX10_feed_9 (by decide) (fun c_1 => ?_) (fun c_1 => ?_)
  · rw [if_neg c_1] at hF
    refine g_aload_n X dX10_feed_14 0 rfl rfl ?_
    refine g_getR (f := 1) X dX10_feed_15 flX10_10 rfl rfl h0 ?_
    refine g_iload_n X dX10_feed_18 1 rfl rfl ?_
    obtain ⟨r_2, q_3, hF⟩ := obind hF
    refine g_callVv (As := [.int x1]) X dX10_feed_19 mlX10_88 (fun l D cyy => tX6_addNumber (cx_inj X) l D cyy (a0 + 1) x1 (on_10_0 h0) S r_2 q_3) (on_10_0 h0) (by decide) rfl rfl (Nat.le_of_ble_eq_true rfl) ?_
    refine g_aload_n X dX10_feed_22 0 rfl rfl ?_
    refine g_getR (f := 1) X dX10_feed_23 flX10_10 rfl rfl h0 ?_
    refine g_iload_n X dX10_feed_26 2 rfl rfl ?_
    obtain ⟨r_4, q_5, hF⟩ := obind hF
    refine g_callVv (As := [.int x2]) X dX10_feed_27 mlX10_88 (fun l D cyy => tX6_addNumber (cx_inj X) l D cyy (a0 + 1) x2 (on_10_0 h0) r_2 r_4 q_5) (on_10_0 h0) (by decide) rfl rfl (Nat.le_of_ble_eq_true rfl) ?_
    refine g_aload_n X dX10_feed_30 0 rfl rfl ?_
    refine g_getR (f := 1) X dX10_feed_31 flX10_10 rfl rfl h0 ?_
    refine g_iload_n X dX10_feed_34 3 rfl rfl ?_
    obtain ⟨r_6, q_7, hF⟩ := obind hF
    refine g_callVv (As := [.int x3]) X dX10_feed_35 mlX10_88 (fun l D cyy => tX6_addNumber (cx_inj X) l D cyy (a0 + 1) x3 (on_10_0 h0) r_4 r_6 q_7) (on_10_0 h0) (by decide) rfl rfl (Nat.le_of_ble_eq_true rfl) ?_
    refine g_aload_n X dX10_feed_38 0 rfl rfl ?_
    refine g_getR (f := 1) X dX10_feed_39 flX10_10 rfl rfl h0 ?_
    refine g_iload X dX10_feed_42 4 rfl ?_
    obtain ⟨r_8, q_9, hF⟩ := obind hF
    refine g_callVv (As := [.int x4]) X dX10_feed_44 mlX10_88 (fun l D cyy => tX6_addNumber (cx_inj X) l D cyy (a0 + 1) x4 (on_10_0 h0) r_6 r_8 q_9) (on_10_0 h0) (by decide) rfl rfl (Nat.le_of_ble_eq_true rfl) ?_
    refine g_aload_n X dX10_feed_47 0 rfl rfl ?_
    refine g_getR (f := 1) X dX10_feed_48 flX10_10 rfl rfl h0 ?_
    refine g_iload X dX10_feed_51 5 rfl ?_
    obtain ⟨r_10, q_11, hF⟩ := obind hF
    refine g_callVv (As := [.int x5]) X dX10_feed_53 mlX10_88 (fun l D cyy => tX6_addNumber (cx_inj X) l D cyy (a0 + 1) x5 (on_10_0 h0) r_8 r_10 q_11) (on_10_0 h0) (by decide) rfl rfl (Nat.le_of_ble_eq_true rfl) ?_
    refine g_aload_n X dX10_feed_56 0 rfl rfl ?_
    refine g_getR (f := 1) X dX10_feed_57 flX10_10 rfl rfl h0 ?_
    refine g_getI X dX10_feed_60 flX10_92 rfl (on_10_0 h0) ?_
    have hF := Option.some.inj hF
    subst hF
    exact g_iret X dX10_feed_63 ho
  · rw [if_pos c_1] at hF
    refine g_iconst (v := -1) X dX10_feed_12 (by decide) ?_
    have hF := Option.some.inj hF
    subst hF
    exact g_iret X dX10_feed_13 ho
theorem tX10_feed {ad : Nat → Nat} (hI : Inj ad) (l : Launch) (D : va_G) (cyy : Nat → ClassId) (a0 : Nat) (x1 : Int32) (x2 : Int32) (x3 : Int32) (x4 : Int32) (x5 : Int32) (h0 : KT a0 = 10) (S : St) (r : (Int32 × St)) (hF : fX10_feed a0 x1 x2 x3 x4 x5 S = some r) : OkM l yX10_feed cX10_feed 6 (some .int) 2 ad D cyy [.ref (ad a0), .int x1, .int x2, .int x3, .int x4, .int x5] S (some (.int r.1), r.2) := okM_of hI (by decide) (inr_8 _ (List.mem_of_getElem? (i := 12) rfl)) (by show _ ≤ 6; exact Nat.le_of_ble_eq_true rfl) (fun z X => wX10_feed X a0 x1 x2 x3 x4 x5 h0 S r rfl hF)
def fX10_end_s25 (a0 : Nat) (x1 : Int32)   (S : St) : (Int32 × St) :=
  ((1 : Int32), S)
def fX10_end (a0 : Nat) (x1 : Int32) (S : St) : (Int32 × St) :=
  if x1 < 0 then (((0 : Int32), S)) else
  (if x1 ≤ (gI S 6 1 (a0 + 1)) then (fX10_end_s25 a0 x1 (sI S 6 1 (a0 + 1) x1)) else
  (((0 : Int32), S)))
theorem wX10_end_s25 {z : Mx} {ad : Nat → Nat} {o : Option Value × St} (X : CxOk z ad RX10 cX10_end 2 (some .boolean) 1) (a0 : Nat) (x1 : Int32) (h0 : KT a0 = 10)     (S : St) (r : (Int32 × St)) (ho : o = (some (.int r.1), r.2)) (hF : fX10_end_s25 a0 x1   S = r) : GW z ad o S 25 [] [] := by
  unfold fX10_end_s25 at hF
  refine g_iconst (v := 1) X dX10_end_25 (by decide) ?_
  subst hF
  exact g_zret X dX10_end_26 (by decide) ho
theorem wX10_end {z : Mx} {ad : Nat → Nat} {o : Option Value × St} (X : CxOk z ad RX10 cX10_end 2 (some .boolean) 1) (a0 : Nat) (x1 : Int32) (h0 : KT a0 = 10) (S : St) (r : (Int32 × St)) (ho : o = (some (.int r.1), r.2)) (hF : fX10_end a0 x1 S = r) : GW z ad o S 0 [(0, .ref (ad a0)), (1, .int x1)] [] := by
  unfold fX10_end at hF
  refine g_iload_n X dX10_end_0 1 rfl rfl ?_
  refine g_if_lt (tgt := 15) X dX10_end_1 (by decide) (fun c_1 => ?_) (fun c_1 => ?_)
  · rw [if_pos c_1] at hF
    refine g_iconst (v := 0) X dX10_end_15 (by decide) ?_
    subst hF
    exact g_zret X dX10_end_16 (by decide) ho
  · rw [if_neg c_1] at hF
    refine g_iload_n X dX10_end_4 1 rfl rfl ?_
    refine g_aload_n X dX10_end_5 0 rfl rfl ?_
    refine g_getR (f := 1) X dX10_end_6 flX10_10 rfl rfl h0 ?_
    refine g_getI X dX10_end_9 flX10_92 rfl (on_10_0 h0) ?_
    refine g_icmp_le (tgt := 17) X dX10_end_12 (by decide) (fun c_2 => ?_) (fun c_2 => ?_)
    · rw [if_pos c_2] at hF
      refine g_aload_n X dX10_end_17 0 rfl rfl ?_
      refine g_getR (f := 1) X dX10_end_18 flX10_10 rfl rfl h0 ?_
      refine g_iload_n X dX10_end_21 1 rfl rfl ?_
      refine g_putI X dX10_end_22 fpX10_92 rfl rfl rfl (on_10_0 h0) ?_
      exact g_perm [] rfl (wX10_end_s25 X a0 x1 h0 (sI S 6 1 (a0 + 1) x1) r ho hF)
    · rw [if_neg c_2] at hF
      refine g_iconst (v := 0) X dX10_end_15 (by decide) ?_
      subst hF
      exact g_zret X dX10_end_16 (by decide) ho
theorem tX10_end {ad : Nat → Nat} (hI : Inj ad) (l : Launch) (D : va_G) (cyy : Nat → ClassId) (a0 : Nat) (x1 : Int32) (h0 : KT a0 = 10) (S : St) : OkM l yX10_end cX10_end 2 (some .boolean) 1 ad D cyy [.ref (ad a0), .int x1] S (some (.int (fX10_end a0 x1 S).1), (fX10_end a0 x1 S).2) := okM_of hI (by decide) (inr_9 _ (List.mem_of_getElem? (i := 12) rfl)) (by show _ ≤ 2; exact Nat.le_of_ble_eq_true rfl) (fun z X => wX10_end X a0 x1 h0 S _ rfl rfl)
def fX10_closeText_s11 (a0 : Nat)   (S : St) : St :=
  (sI S 6 1 (a0 + 1) (0 : Int32))
def fX10_closeText (a0 : Nat) (S : St) : St :=
  fX10_closeText_s11 a0 (sI S 10 14 a0 (gI S 6 8 (a0 + 1)))
theorem wX10_closeText_s11 {z : Mx} {ad : Nat → Nat} {o : Option Value × St} (X : CxOk z ad RX10 cX10_closeText 1 none 1) (a0 : Nat) (h0 : KT a0 = 10)     (S : St) (r : St) (ho : o = (none, r)) (hF : fX10_closeText_s11 a0   S = r) : GW z ad o S 11 [(0, .ref (ad a0))] [] := by
  unfold fX10_closeText_s11 at hF
  refine g_aload_n X dX10_closeText_11 0 rfl rfl ?_
  refine g_getR (f := 1) X dX10_closeText_12 flX10_10 rfl rfl h0 ?_
  refine g_iconst (v := 0) X dX10_closeText_15 (by decide) ?_
  refine g_putI X dX10_closeText_16 fpX10_92 rfl rfl rfl (on_10_0 h0) ?_
  subst hF
  exact g_vret X dX10_closeText_19 ho
theorem wX10_closeText {z : Mx} {ad : Nat → Nat} {o : Option Value × St} (X : CxOk z ad RX10 cX10_closeText 1 none 1) (a0 : Nat) (h0 : KT a0 = 10) (S : St) (r : St) (ho : o = (none, r)) (hF : fX10_closeText a0 S = r) : GW z ad o S 0 [(0, .ref (ad a0))] [] := by
  unfold fX10_closeText at hF
  refine g_aload_n X dX10_closeText_0 0 rfl rfl ?_
  refine g_aload_n X dX10_closeText_1 0 rfl rfl ?_
  refine g_getR (f := 1) X dX10_closeText_2 flX10_10 rfl rfl h0 ?_
  refine g_getI X dX10_closeText_5 flX10_377 rfl (on_10_0 h0) ?_
  refine g_putI X dX10_closeText_8 fpX10_103 rfl rfl rfl h0 ?_
  exact (wX10_closeText_s11 X a0 h0 (sI S 10 14 a0 (gI S 6 8 (a0 + 1))) r ho hF)
theorem tX10_closeText {ad : Nat → Nat} (hI : Inj ad) (l : Launch) (D : va_G) (cyy : Nat → ClassId) (a0 : Nat) (h0 : KT a0 = 10) (S : St) : OkM l yX10_closeText cX10_closeText 1 none 1 ad D cyy [.ref (ad a0)] S (none, fX10_closeText a0 S) := okM_of hI (by decide) (inr_15 _ (List.mem_of_getElem? (i := 6) rfl)) (by show _ ≤ 1; exact Nat.le_of_ble_eq_true rfl) (fun z X => wX10_closeText X a0 h0 S _ rfl rfl)
def fX10_valley_s49 (a0 : Nat) (y1 : Int32)  (S : St) : Option (Int32 × St) :=
  some (y1, S)
def fX10_valley_s16 (a0 : Nat) (y1 : Int32)  (S : St) : Option (Int32 × St) :=
  if (gI S 10 14 a0) = 0 then ((fX9_begin (a0 + 3) (a0 + 72) S).bind fun r_4 =>
  fX10_valley_s49 a0 y1 (sI r_4 10 11 a0 (0 : Int32))) else
  (some (((-1 : Int32) - (gI S 6 9 (a0 + 1))), S))
def fX10_valley_s11 (a0 : Nat)  (t0 : Int32) (S : St) : Option (Int32 × St) :=
  fX10_valley_s16 a0 t0 (fX10_closeText a0 S)
def fX10_valley (a0 : Nat) (S : St) : Option (Int32 × St) :=
  (fX8_readFrom (a0 + 72) (a0 + 1) S).bind fun r_1 =>
  fX10_valley_s11 a0 r_1.1 r_1.2
theorem wX10_valley_s49 {z : Mx} {ad : Nat → Nat} {o : Option Value × St} (X : CxOk z ad RX10 cX10_valley 2 (some .int) 7) (a0 : Nat) (h0 : KT a0 = 10) (y1 : Int32)    (S : St) (r : (Int32 × St)) (ho : o = (some (.int r.1), r.2)) (hF : fX10_valley_s49 a0 y1  S = some r) : GW z ad o S 49 [(1, .int y1)] [] := by
  unfold fX10_valley_s49 at hF
  refine g_iload_n X dX10_valley_49 0 rfl rfl ?_
  have hF := Option.some.inj hF
  subst hF
  exact g_iret X dX10_valley_50 ho
theorem wX10_valley_s16 {z : Mx} {ad : Nat → Nat} {o : Option Value × St} (X : CxOk z ad RX10 cX10_valley 2 (some .int) 7) (a0 : Nat) (h0 : KT a0 = 10) (y1 : Int32)    (S : St) (r : (Int32 × St)) (ho : o = (some (.int r.1), r.2)) (hF : fX10_valley_s16 a0 y1  S = some r) : GW z ad o S 16 [(0, .ref (ad a0)), (1, .int y1)] [] := by
  unfold fX10_valley_s16 at hF
  refine g_aload_n X dX10_valley_16 0 rfl rfl ?_
  refine g_getI X dX10_valley_17 flX10_103 rfl h0 ?_
  refine g_if_eq (tgt := 33) X dX10_valley_20 (by decide) (fun c_3 => ?_) (fun c_3 => ?_)
  · rw [if_pos c_3] at hF
    refine g_aload_n X dX10_valley_33 0 rfl rfl ?_
    refine g_getR (f := 3) X dX10_valley_34 flX10_19 rfl rfl h0 ?_
    refine g_aload_n X dX10_valley_37 0 rfl rfl ?_
    refine g_getR (f := 72) X dX10_valley_38 flX10_26 rfl rfl h0 ?_
    obtain ⟨r_4, q_5, hF⟩ := obind hF
    refine g_callVv (As := [.ref (ad (a0 + 72))]) X dX10_valley_41 mlX10_109 (fun l D cyy => tX9_begin (cx_inj X) l D cyy (a0 + 3) (a0 + 72) (on_10_1 h0) (on_10_2 h0) S r_4 q_5) (on_10_1 h0) (by decide) rfl rfl (Nat.le_of_ble_eq_true rfl) ?_
    refine g_aload_n X dX10_valley_44 0 rfl rfl ?_
    refine g_iconst (v := 0) X dX10_valley_45 (by decide) ?_
    refine g_putI X dX10_valley_46 fpX10_113 rfl rfl rfl h0 ?_
    exact g_perm [1] rfl (wX10_valley_s49 X a0 h0 y1 (sI r_4 10 11 a0 (0 : Int32)) r ho hF)
  · rw [if_neg c_3] at hF
    refine g_iconst (v := -1) X dX10_valley_23 (by decide) ?_
    refine g_aload_n X dX10_valley_24 0 rfl rfl ?_
    refine g_getR (f := 1) X dX10_valley_25 flX10_10 rfl rfl h0 ?_
    refine g_getI X dX10_valley_28 flX10_106 rfl (on_10_0 h0) ?_
    refine g_isub X dX10_valley_31 ?_
    have hF := Option.some.inj hF
    subst hF
    exact g_iret X dX10_valley_32 ho
theorem wX10_valley_s11 {z : Mx} {ad : Nat → Nat} {o : Option Value × St} (X : CxOk z ad RX10 cX10_valley 2 (some .int) 7) (a0 : Nat) (h0 : KT a0 = 10)  (t0 : Int32)   (S : St) (r : (Int32 × St)) (ho : o = (some (.int r.1), r.2)) (hF : fX10_valley_s11 a0  t0 S = some r) : GW z ad o S 11 [(0, .ref (ad a0))] [.int t0] := by
  unfold fX10_valley_s11 at hF
  refine g_istore_n X dX10_valley_11 rfl (by decide) (lv' := [(1, .int t0), (0, .ref (ad a0))]) rfl ?_
  refine g_aload_n X dX10_valley_12 1 rfl rfl ?_
  refine g_callVv (As := []) X dX10_valley_13 mlX10_100 (fun l D cyy => tX10_closeText (cx_inj X) l D cyy a0 h0 S) h0 (by decide) rfl rfl (Nat.le_of_ble_eq_true rfl) ?_
  exact g_perm [1, 0] rfl (wX10_valley_s16 X a0 h0 t0 (fX10_closeText a0 S) r ho hF)
theorem wX10_valley {z : Mx} {ad : Nat → Nat} {o : Option Value × St} (X : CxOk z ad RX10 cX10_valley 2 (some .int) 7) (a0 : Nat) (h0 : KT a0 = 10) (S : St) (r : (Int32 × St)) (ho : o = (some (.int r.1), r.2)) (hF : fX10_valley a0 S = some r) : GW z ad o S 0 [(0, .ref (ad a0))] [] := by
  unfold fX10_valley at hF
  refine g_aload_n X dX10_valley_0 0 rfl rfl ?_
  refine g_getR (f := 72) X dX10_valley_1 flX10_26 rfl rfl h0 ?_
  refine g_aload_n X dX10_valley_4 0 rfl rfl ?_
  refine g_getR (f := 1) X dX10_valley_5 flX10_10 rfl rfl h0 ?_
  obtain ⟨r_1, q_2, hF⟩ := obind hF
  refine g_callVi (As := [.ref (ad (a0 + 1))]) X dX10_valley_8 mlX10_96 (fun l D cyy => tX8_readFrom (cx_inj X) l D cyy (a0 + 72) (a0 + 1) (on_10_2 h0) (on_10_0 h0) S r_1 q_2) (on_10_2 h0) (by decide) rfl rfl (Nat.le_of_ble_eq_true rfl) ?_
  exact (wX10_valley_s11 X a0 h0 r_1.1 r_1.2 r ho hF)
theorem tX10_valley {ad : Nat → Nat} (hI : Inj ad) (l : Launch) (D : va_G) (cyy : Nat → ClassId) (a0 : Nat) (h0 : KT a0 = 10) (S : St) (r : (Int32 × St)) (hF : fX10_valley a0 S = some r) : OkM l yX10_valley cX10_valley 2 (some .int) 7 ad D cyy [.ref (ad a0)] S (some (.int r.1), r.2) := okM_of hI (by decide) (inr_9 _ (List.mem_of_getElem? (i := 20) rfl)) (by show _ ≤ 2; exact Nat.le_of_ble_eq_true rfl) (fun z X => wX10_valley X a0 h0 S r rfl hF)
def fX10_fault (a0 : Nat) (S : St) : Int32 :=
  (gI S 10 14 a0)
theorem wX10_fault {z : Mx} {ad : Nat → Nat} {o : Option Value × St} (X : CxOk z ad RX10 cX10_fault 1 (some .int) 1) (a0 : Nat) (h0 : KT a0 = 10) (S : St) (r : Int32) (ho : o = (some (.int r), S)) (hF : fX10_fault a0 S = r) : GW z ad o S 0 [(0, .ref (ad a0))] [] := by
  unfold fX10_fault at hF
  refine g_aload_n X dX10_fault_0 0 rfl rfl ?_
  refine g_getI X dX10_fault_1 flX10_103 rfl h0 ?_
  subst hF
  exact g_iret X dX10_fault_4 ho
theorem tX10_fault {ad : Nat → Nat} (hI : Inj ad) (l : Launch) (D : va_G) (cyy : Nat → ClassId) (a0 : Nat) (h0 : KT a0 = 10) (S : St) : OkM l yX10_fault cX10_fault 1 (some .int) 1 ad D cyy [.ref (ad a0)] S (some (.int (fX10_fault a0 S)), S) := okM_of hI (by decide) (inr_21 _ (List.mem_of_getElem? (i := 1) rfl)) (by show _ ≤ 1; exact Nat.le_of_ble_eq_true rfl) (fun z X => wX10_fault X a0 h0 S _ rfl rfl)
def fX10_at_s54 (a0 : Nat) (x1 : Int32) (x2 : Int32) (x3 : Int32) (y4 : Int32)  (S : St) : Option Int32 :=
  if 0 ≤ y4 then (if (x1 < 0 ∨ 5 ≤ x1.toNatClampNeg) then none else
  (fX4_called ((((a0 + 3) + 1) + 1) + 2 + x1.toNatClampNeg) y4 x3 S).bind fun r_9 =>
  some r_9) else
  (some (-1 : Int32))
def fX10_at (a0 : Nat) (x1 : Int32) (x2 : Int32) (x3 : Int32) (S : St) : Option Int32 :=
  if (fX8_hasParish ((a0 + 3) + 1) x1 S) = 0 then (some (-1 : Int32)) else
  (if x2 < (-9999 : Int32) then (some (-1 : Int32)) else
  (if (99999 : Int32) < x2 then (some (-1 : Int32)) else
  (if x3 < 0 then (some (-1 : Int32)) else
  (if x3 ≤ (3 : Int32) then (if (x1 < 0 ∨ 5 ≤ x1.toNatClampNeg) then none else
  fX10_at_s54 a0 x1 x2 x3 ((gA S 15 (((a0 + 3) + 15) + 1) x1.toNatClampNeg) + x2) S) else
  (some (-1 : Int32))))))
theorem wX10_at_s54 {z : Mx} {ad : Nat → Nat} {o : Option Value × St} (X : CxOk z ad RX10 cX10_at 5 (some .int) 4) (a0 : Nat) (x1 : Int32) (x2 : Int32) (x3 : Int32) (h0 : KT a0 = 10) (y4 : Int32)    (S : St) (r : Int32) (ho : o = (some (.int r), S)) (hF : fX10_at_s54 a0 x1 x2 x3 y4  S = some r) : GW z ad o S 54 [(0, .ref (ad a0)), (1, .int x1), (3, .int x3), (4, .int y4)] [] := by
  unfold fX10_at_s54 at hF
  refine g_iload X dX10_at_54 3 rfl ?_
  refine g_if_ge (tgt := 63) X dX10_at_56 (by decide) (fun c_7 => ?_) (fun c_7 => ?_)
  · rw [if_pos c_7] at hF
    refine g_aload_n X dX10_at_63 0 rfl rfl ?_
    refine g_getR (f := 3) X dX10_at_64 flX10_19 rfl rfl h0 ?_
    refine g_getR (f := 1) X dX10_at_67 flX10_116 rfl rfl (on_10_1 h0) ?_
    refine g_getR (f := 1) X dX10_at_70 flX10_125 rfl rfl (on_9_0 (on_10_1 h0)) ?_
    refine g_iload_n X dX10_at_73 1 rfl rfl ?_
    obtain ⟨e_8, hF⟩ := oguard hF
    refine g_aaldP X dX10_at_74 (on_8_0 (on_9_0 (on_10_1 h0))) rfl e_8 ?_
    refine g_iload X dX10_at_75 3 rfl ?_
    refine g_iload_n X dX10_at_77 2 rfl rfl ?_
    obtain ⟨r_9, q_10, hF⟩ := obind hF
    refine g_callVi (As := [.int y4, .int x3]) X dX10_at_78 mlX10_161 (fun l D cyy => tX4_called (cx_inj X) l D cyy ((((a0 + 3) + 1) + 1) + 2 + x1.toNatClampNeg) y4 x3 (on_p (on_8_0 (on_9_0 (on_10_1 h0))) (inb e_8)) S r_9 q_10) (on_p (on_8_0 (on_9_0 (on_10_1 h0))) (inb e_8)) (by decide) rfl rfl (Nat.le_of_ble_eq_true rfl) ?_
    have hF := Option.some.inj hF
    subst hF
    exact g_iret X dX10_at_81 ho
  · rw [if_neg c_7] at hF
    refine g_iconst (v := -1) X dX10_at_59 (by decide) ?_
    refine g_goto (tgt := 81) X dX10_at_60 (by decide) ?_
    have hF := Option.some.inj hF
    subst hF
    exact g_iret X dX10_at_81 ho
theorem wX10_at {z : Mx} {ad : Nat → Nat} {o : Option Value × St} (X : CxOk z ad RX10 cX10_at 5 (some .int) 4) (a0 : Nat) (x1 : Int32) (x2 : Int32) (x3 : Int32) (h0 : KT a0 = 10) (S : St) (r : Int32) (ho : o = (some (.int r), S)) (hF : fX10_at a0 x1 x2 x3 S = some r) : GW z ad o S 0 [(0, .ref (ad a0)), (1, .int x1), (2, .int x2), (3, .int x3)] [] := by
  unfold fX10_at at hF
  refine g_aload_n X dX10_at_0 0 rfl rfl ?_
  refine g_getR (f := 3) X dX10_at_1 flX10_19 rfl rfl h0 ?_
  refine g_getR (f := 1) X dX10_at_4 flX10_116 rfl rfl (on_10_1 h0) ?_
  refine g_iload_n X dX10_at_7 1 rfl rfl ?_
  refine g_callVi (As := [.int x1]) X dX10_at_8 mlX10_119 (fun l D cyy => tX8_hasParish (cx_inj X) l D cyy ((a0 + 3) + 1) x1 (on_9_0 (on_10_1 h0)) S) (on_9_0 (on_10_1 h0)) (by decide) rfl rfl (Nat.le_of_ble_eq_true rfl) ?_
  refine g_if_eq (tgt := 36) X dX10_at_11 (by decide) (fun c_1 => ?_) (fun c_1 => ?_)
  · rw [if_pos c_1] at hF
    refine g_iconst (v := -1) X dX10_at_36 (by decide) ?_
    have hF := Option.some.inj hF
    subst hF
    exact g_iret X dX10_at_37 ho
  · rw [if_neg c_1] at hF
    refine g_iload_n X dX10_at_14 2 rfl rfl ?_
    refine g_sipush (v := -9999) X dX10_at_15 (by decide) ?_
    refine g_icmp_lt (tgt := 36) X dX10_at_18 (by decide) (fun c_2 => ?_) (fun c_2 => ?_)
    · rw [if_pos c_2] at hF
      refine g_iconst (v := -1) X dX10_at_36 (by decide) ?_
      have hF := Option.some.inj hF
      subst hF
      exact g_iret X dX10_at_37 ho
    · rw [if_neg c_2] at hF
      refine g_iload_n X dX10_at_21 2 rfl rfl ?_
      refine g_ldc (v := 99999) X dX10_at_22 (inr_23 _ (List.mem_of_getElem? (i := 0) rfl)) ?_
      refine g_icmp_gt (tgt := 36) X dX10_at_24 (by decide) (fun c_3 => ?_) (fun c_3 => ?_)
      · rw [if_pos c_3] at hF
        refine g_iconst (v := -1) X dX10_at_36 (by decide) ?_
        have hF := Option.some.inj hF
        subst hF
        exact g_iret X dX10_at_37 ho
      · rw [if_neg c_3] at hF
        refine g_iload_n X dX10_at_27 3 rfl rfl ?_
        refine g_if_lt (tgt := 36) X dX10_at_28 (by decide) (fun c_4 => ?_) (fun c_4 => ?_)
        · rw [if_pos c_4] at hF
          refine g_iconst (v := -1) X dX10_at_36 (by decide) ?_
          have hF := Option.some.inj hF
          subst hF
          exact g_iret X dX10_at_37 ho
        · rw [if_neg c_4] at hF
          refine g_iload_n X dX10_at_31 3 rfl rfl ?_
          refine g_iconst (v := 3) X dX10_at_32 (by decide) ?_
          refine g_icmp_le (tgt := 38) X dX10_at_33 (by decide) (fun c_5 => ?_) (fun c_5 => ?_)
          · rw [if_pos c_5] at hF
            refine g_aload_n X dX10_at_38 0 rfl rfl ?_
            refine g_getR (f := 3) X dX10_at_39 flX10_19 rfl rfl h0 ?_
            refine g_getR (f := 15) X dX10_at_42 flX10_129 rfl rfl (on_10_1 h0) ?_
            refine g_getR (f := 1) X dX10_at_45 flX10_148 rfl rfl (on_9_1 (on_10_1 h0)) ?_
            refine g_iload_n X dX10_at_48 1 rfl rfl ?_
            obtain ⟨e_6, hF⟩ := oguard hF
            refine g_iald X dX10_at_49 kd_15 (on_2_3 (on_9_1 (on_10_1 h0))) e_6 ?_
            refine g_iload_n X dX10_at_50 2 rfl rfl ?_
            refine g_iadd X dX10_at_51 ?_
            refine g_istore X dX10_at_52 (by decide) (lv' := [(4, .int ((gA S 15 (((a0 + 3) + 15) + 1) x1.toNatClampNeg) + x2)), (0, .ref (ad a0)), (1, .int x1), (2, .int x2), (3, .int x3)]) rfl ?_
            exact g_perm [1, 2, 4, 0] rfl (wX10_at_s54 X a0 x1 x2 x3 h0 ((gA S 15 (((a0 + 3) + 15) + 1) x1.toNatClampNeg) + x2) S r ho hF)
          · rw [if_neg c_5] at hF
            refine g_iconst (v := -1) X dX10_at_36 (by decide) ?_
            have hF := Option.some.inj hF
            subst hF
            exact g_iret X dX10_at_37 ho
theorem tX10_at {ad : Nat → Nat} (hI : Inj ad) (l : Launch) (D : va_G) (cyy : Nat → ClassId) (a0 : Nat) (x1 : Int32) (x2 : Int32) (x3 : Int32) (h0 : KT a0 = 10) (S : St) (r : Int32) (hF : fX10_at a0 x1 x2 x3 S = some r) : OkM l yX10_at cX10_at 5 (some .int) 4 ad D cyy [.ref (ad a0), .int x1, .int x2, .int x3] S (some (.int r), S) := okM_of hI (by decide) (inr_22 _ (List.mem_of_getElem? (i := 23) rfl)) (by show _ ≤ 5; exact Nat.le_of_ble_eq_true rfl) (fun z X => wX10_at X a0 x1 x2 x3 h0 S r rfl hF)
def fX10_countOf (a0 : Nat) (x1 : Int32) (x2 : Int32) (x3 : Int32) (x4 : Int32) (S : St) : Option Int32 :=
  if (fX8_hasParish ((a0 + 3) + 1) x1 S) = 0 then (some (-1 : Int32)) else
  (if (x1 < 0 ∨ 5 ≤ x1.toNatClampNeg) then none else
  (fX4_countAt ((((a0 + 3) + 1) + 1) + 2 + x1.toNatClampNeg) x2 x3 x4 S).bind fun r_3 =>
  some r_3)
theorem wX10_countOf {z : Mx} {ad : Nat → Nat} {o : Option Value × St} (X : CxOk z ad RX10 cX10_countOf 5 (some .int) 4) (a0 : Nat) (x1 : Int32) (x2 : Int32) (x3 : Int32) (x4 : Int32) (h0 : KT a0 = 10) (S : St) (r : Int32) (ho : o = (some (.int r), S)) (hF : fX10_countOf a0 x1 x2 x3 x4 S = some r) : GW z ad o S 0 [(0, .ref (ad a0)), (1, .int x1), (2, .int x2), (3, .int x3), (4, .int x4)] [] := by
  unfold fX10_countOf at hF
  refine g_aload_n X dX10_countOf_0 0 rfl rfl ?_
  refine g_getR (f := 3) X dX10_countOf_1 flX10_19 rfl rfl h0 ?_
  refine g_getR (f := 1) X dX10_countOf_4 flX10_116 rfl rfl (on_10_1 h0) ?_
  refine g_iload_n X dX10_countOf_7 1 rfl rfl ?_
  refine g_callVi (As := [.int x1]) X dX10_countOf_8 mlX10_119 (fun l D cyy => tX8_hasParish (cx_inj X) l D cyy ((a0 + 3) + 1) x1 (on_9_0 (on_10_1 h0)) S) (on_9_0 (on_10_1 h0)) (by decide) rfl rfl (Nat.le_of_ble_eq_true rfl) ?_
  refine g_if_eq (tgt := 36) X dX10_countOf_11 (by decide) (fun c_1 => ?_) (fun c_1 => ?_)
  · rw [if_pos c_1] at hF
    refine g_iconst (v := -1) X dX10_countOf_36 (by decide) ?_
    have hF := Option.some.inj hF
    subst hF
    exact g_iret X dX10_countOf_37 ho
  · rw [if_neg c_1] at hF
    refine g_aload_n X dX10_countOf_14 0 rfl rfl ?_
    refine g_getR (f := 3) X dX10_countOf_15 flX10_19 rfl rfl h0 ?_
    refine g_getR (f := 1) X dX10_countOf_18 flX10_116 rfl rfl (on_10_1 h0) ?_
    refine g_getR (f := 1) X dX10_countOf_21 flX10_125 rfl rfl (on_9_0 (on_10_1 h0)) ?_
    refine g_iload_n X dX10_countOf_24 1 rfl rfl ?_
    obtain ⟨e_2, hF⟩ := oguard hF
    refine g_aaldP X dX10_countOf_25 (on_8_0 (on_9_0 (on_10_1 h0))) rfl e_2 ?_
    refine g_iload_n X dX10_countOf_26 2 rfl rfl ?_
    refine g_iload_n X dX10_countOf_27 3 rfl rfl ?_
    refine g_iload X dX10_countOf_28 4 rfl ?_
    obtain ⟨r_3, q_4, hF⟩ := obind hF
    refine g_callVi (As := [.int x2, .int x3, .int x4]) X dX10_countOf_30 mlX10_165 (fun l D cyy => tX4_countAt (cx_inj X) l D cyy ((((a0 + 3) + 1) + 1) + 2 + x1.toNatClampNeg) x2 x3 x4 (on_p (on_8_0 (on_9_0 (on_10_1 h0))) (inb e_2)) S r_3 q_4) (on_p (on_8_0 (on_9_0 (on_10_1 h0))) (inb e_2)) (by decide) rfl rfl (Nat.le_of_ble_eq_true rfl) ?_
    refine g_goto (tgt := 37) X dX10_countOf_33 (by decide) ?_
    have hF := Option.some.inj hF
    subst hF
    exact g_iret X dX10_countOf_37 ho
theorem tX10_countOf {ad : Nat → Nat} (hI : Inj ad) (l : Launch) (D : va_G) (cyy : Nat → ClassId) (a0 : Nat) (x1 : Int32) (x2 : Int32) (x3 : Int32) (x4 : Int32) (h0 : KT a0 = 10) (S : St) (r : Int32) (hF : fX10_countOf a0 x1 x2 x3 x4 S = some r) : OkM l yX10_countOf cX10_countOf 5 (some .int) 4 ad D cyy [.ref (ad a0), .int x1, .int x2, .int x3, .int x4] S (some (.int r), S) := okM_of hI (by decide) (inr_24 _ (List.mem_of_getElem? (i := 21) rfl)) (by show _ ≤ 5; exact Nat.le_of_ble_eq_true rfl) (fun z X => wX10_countOf X a0 x1 x2 x3 x4 h0 S r rfl hF)
def fX10_feast_s29 (a0 : Nat) (x1 : Int32) (x2 : Int32) (b3 : Nat)  (S : St) : Option Int32 :=
  if x2 = 0 then (some (gI S 3 1 b3)) else
  (if x2 = 1 then (some (gI S 3 2 b3)) else
  (if x2 = 2 then (some (gI S 3 3 b3)) else
  (if x2 = 3 then ((fX9_fallsOn (a0 + 3) x1 (0 : Int32) S).bind fun r_7 =>
  if r_7 = 0 then (some (0 : Int32)) else
  (some (1 : Int32))) else
  (some (-1 : Int32)))))
def fX10_feast (a0 : Nat) (x1 : Int32) (x2 : Int32) (S : St) : Option Int32 :=
  if (fX8_hasFeast ((a0 + 3) + 1) x1 S) = 0 then (some (-1 : Int32)) else
  (if (x1 < 0 ∨ 6 ≤ x1.toNatClampNeg) then none else
  fX10_feast_s29 a0 x1 x2 ((((a0 + 3) + 1) + 2) + 6 + x1.toNatClampNeg) S)
theorem wX10_feast_s29 {z : Mx} {ad : Nat → Nat} {o : Option Value × St} (X : CxOk z ad RX10 cX10_feast 4 (some .int) 5) (a0 : Nat) (x1 : Int32) (x2 : Int32) (h0 : KT a0 = 10) (b3 : Nat)  (g3 : KT b3 = 3)  (S : St) (r : Int32) (ho : o = (some (.int r), S)) (hF : fX10_feast_s29 a0 x1 x2 b3  S = some r) : GW z ad o S 29 [(0, .ref (ad a0)), (1, .int x1), (2, .int x2), (3, .ref (ad b3))] [] := by
  unfold fX10_feast_s29 at hF
  refine g_iload_n X dX10_feast_29 2 rfl rfl ?_
  by_cases c_3 : x2 = 0
  · rw [if_pos c_3] at hF
    refine g_tabIn (tgt := 60) (off := 30) X dX10_feast_30 (by rw [c_3]; decide) (by rw [c_3]; decide) (by rw [c_3]; decide) (by decide) ?_
    refine g_aload_n X dX10_feast_60 3 rfl rfl ?_
    refine g_getI X dX10_feast_61 flX10_176 rfl g3 ?_
    have hF := Option.some.inj hF
    subst hF
    exact g_iret X dX10_feast_64 ho
  rw [if_neg c_3] at hF
  by_cases c_4 : x2 = 1
  · rw [if_pos c_4] at hF
    refine g_tabIn (tgt := 65) (off := 35) X dX10_feast_30 (by rw [c_4]; decide) (by rw [c_4]; decide) (by rw [c_4]; decide) (by decide) ?_
    refine g_aload_n X dX10_feast_65 3 rfl rfl ?_
    refine g_getI X dX10_feast_66 flX10_180 rfl g3 ?_
    have hF := Option.some.inj hF
    subst hF
    exact g_iret X dX10_feast_69 ho
  rw [if_neg c_4] at hF
  by_cases c_5 : x2 = 2
  · rw [if_pos c_5] at hF
    refine g_tabIn (tgt := 70) (off := 40) X dX10_feast_30 (by rw [c_5]; decide) (by rw [c_5]; decide) (by rw [c_5]; decide) (by decide) ?_
    refine g_aload_n X dX10_feast_70 3 rfl rfl ?_
    refine g_getI X dX10_feast_71 flX10_183 rfl g3 ?_
    have hF := Option.some.inj hF
    subst hF
    exact g_iret X dX10_feast_74 ho
  rw [if_neg c_5] at hF
  by_cases c_6 : x2 = 3
  · rw [if_pos c_6] at hF
    refine g_tabIn (tgt := 75) (off := 45) X dX10_feast_30 (by rw [c_6]; decide) (by rw [c_6]; decide) (by rw [c_6]; decide) (by decide) ?_
    refine g_aload_n X dX10_feast_75 0 rfl rfl ?_
    refine g_getR (f := 3) X dX10_feast_76 flX10_19 rfl rfl h0 ?_
    refine g_iload_n X dX10_feast_79 1 rfl rfl ?_
    refine g_iconst (v := 0) X dX10_feast_80 (by decide) ?_
    obtain ⟨r_7, q_8, hF⟩ := obind hF
    refine g_callVi (As := [.int x1, .int (0 : Int32)]) X dX10_feast_81 mlX10_186 (fun l D cyy => tX9_fallsOn (cx_inj X) l D cyy (a0 + 3) x1 (0 : Int32) (on_10_1 h0) S r_7 q_8) (on_10_1 h0) (by decide) rfl rfl (Nat.le_of_ble_eq_true rfl) ?_
    refine g_if_eq (tgt := 91) X dX10_feast_84 (by decide) (fun c_9 => ?_) (fun c_9 => ?_)
    · rw [if_pos c_9] at hF
      refine g_iconst (v := 0) X dX10_feast_91 (by decide) ?_
      have hF := Option.some.inj hF
      subst hF
      exact g_iret X dX10_feast_92 ho
    · rw [if_neg c_9] at hF
      refine g_iconst (v := 1) X dX10_feast_87 (by decide) ?_
      refine g_goto (tgt := 92) X dX10_feast_88 (by decide) ?_
      have hF := Option.some.inj hF
      subst hF
      exact g_iret X dX10_feast_92 ho
  rw [if_neg c_6] at hF
  have c_10 : (x2).toInt < 0 ∨ 3 < (x2).toInt := by
    have := ti_ne (n := 0) c_3 (by decide)
    have := ti_ne (n := 1) c_4 (by decide)
    have := ti_ne (n := 2) c_5 (by decide)
    have := ti_ne (n := 3) c_6 (by decide)
    omega
  refine g_tabOut (tgt := 93) X dX10_feast_30 c_10 (by decide) ?_
  refine g_iconst (v := -1) X dX10_feast_93 (by decide) ?_
  have hF := Option.some.inj hF
  subst hF
  exact g_iret X dX10_feast_94 ho
theorem wX10_feast {z : Mx} {ad : Nat → Nat} {o : Option Value × St} (X : CxOk z ad RX10 cX10_feast 4 (some .int) 5) (a0 : Nat) (x1 : Int32) (x2 : Int32) (h0 : KT a0 = 10) (S : St) (r : Int32) (ho : o = (some (.int r), S)) (hF : fX10_feast a0 x1 x2 S = some r) : GW z ad o S 0 [(0, .ref (ad a0)), (1, .int x1), (2, .int x2)] [] := by
  unfold fX10_feast at hF
  refine g_aload_n X dX10_feast_0 0 rfl rfl ?_
  refine g_getR (f := 3) X dX10_feast_1 flX10_19 rfl rfl h0 ?_
  refine g_getR (f := 1) X dX10_feast_4 flX10_116 rfl rfl (on_10_1 h0) ?_
  refine g_iload_n X dX10_feast_7 1 rfl rfl ?_
  refine g_callVi (As := [.int x1]) X dX10_feast_8 mlX10_169 (fun l D cyy => tX8_hasFeast (cx_inj X) l D cyy ((a0 + 3) + 1) x1 (on_9_0 (on_10_1 h0)) S) (on_9_0 (on_10_1 h0)) (by decide) rfl rfl (Nat.le_of_ble_eq_true rfl) ?_
  refine g_if_ne (tgt := 16) X dX10_feast_11 (by decide) (fun c_1 => ?_) (fun c_1 => ?_)
  · rw [if_neg c_1] at hF
    refine g_aload_n X dX10_feast_16 0 rfl rfl ?_
    refine g_getR (f := 3) X dX10_feast_17 flX10_19 rfl rfl h0 ?_
    refine g_getR (f := 1) X dX10_feast_20 flX10_116 rfl rfl (on_10_1 h0) ?_
    refine g_getR (f := 2) X dX10_feast_23 flX10_172 rfl rfl (on_9_0 (on_10_1 h0)) ?_
    refine g_iload_n X dX10_feast_26 1 rfl rfl ?_
    obtain ⟨e_2, hF⟩ := oguard hF
    refine g_aaldF X dX10_feast_27 (on_8_1 (on_9_0 (on_10_1 h0))) rfl e_2 ?_
    refine g_astore_n X dX10_feast_28 rfl (by decide) (lv' := [(3, .ref (ad ((((a0 + 3) + 1) + 2) + 6 + x1.toNatClampNeg))), (0, .ref (ad a0)), (1, .int x1), (2, .int x2)]) rfl ?_
    exact g_perm [1, 2, 3, 0] rfl (wX10_feast_s29 X a0 x1 x2 h0 ((((a0 + 3) + 1) + 2) + 6 + x1.toNatClampNeg) (on_f (on_8_1 (on_9_0 (on_10_1 h0))) (inb e_2)) S r ho hF)
  · rw [if_pos c_1] at hF
    refine g_iconst (v := -1) X dX10_feast_14 (by decide) ?_
    have hF := Option.some.inj hF
    subst hF
    exact g_iret X dX10_feast_15 ho
theorem tX10_feast {ad : Nat → Nat} (hI : Inj ad) (l : Launch) (D : va_G) (cyy : Nat → ClassId) (a0 : Nat) (x1 : Int32) (x2 : Int32) (h0 : KT a0 = 10) (S : St) (r : Int32) (hF : fX10_feast a0 x1 x2 S = some r) : OkM l yX10_feast cX10_feast 4 (some .int) 5 ad D cyy [.ref (ad a0), .int x1, .int x2] S (some (.int r), S) := okM_of hI (by decide) (inr_25 _ (List.mem_of_getElem? (i := 21) rfl)) (by show _ ≤ 4; exact Nat.le_of_ble_eq_true rfl) (fun z X => wX10_feast X a0 x1 x2 h0 S r rfl hF)
def fX10_now (a0 : Nat) (x1 : Int32) (S : St) : Option Int32 :=
  if x1 = 0 then (some (gI S 2 0 ((a0 + 3) + 15))) else
  (if x1 = 1 then (some (gI S 2 2 ((a0 + 3) + 15))) else
  (if x1 = 2 then ((fX9_feastsToday (a0 + 3) S).bind fun r_4 =>
  some r_4) else
  (if x1 = 3 then ((fX9_firstWeekdays (a0 + 3) S).bind fun r_7 =>
  some r_7) else
  (if x1 = 4 then ((fX9_betweenToday (a0 + 3) S).bind fun r_10 =>
  some r_10) else
  (if x1 = 5 then ((fX2_heldInAll ((a0 + 3) + 15) S).bind fun r_13 =>
  some r_13) else
  (if x1 = 6 then ((fX2_skippedInAll ((a0 + 3) + 15) S).bind fun r_16 =>
  some r_16) else
  (some (-1 : Int32))))))))
theorem wX10_now {z : Mx} {ad : Nat → Nat} {o : Option Value × St} (X : CxOk z ad RX10 cX10_now 2 (some .int) 6) (a0 : Nat) (x1 : Int32) (h0 : KT a0 = 10) (S : St) (r : Int32) (ho : o = (some (.int r), S)) (hF : fX10_now a0 x1 S = some r) : GW z ad o S 0 [(0, .ref (ad a0)), (1, .int x1)] [] := by
  unfold fX10_now at hF
  refine g_iload_n X dX10_now_0 1 rfl rfl ?_
  by_cases c_1 : x1 = 0
  · rw [if_pos c_1] at hF
    refine g_tabIn (tgt := 44) (off := 43) X dX10_now_1 (by rw [c_1]; decide) (by rw [c_1]; decide) (by rw [c_1]; decide) (by decide) ?_
    refine g_aload_n X dX10_now_44 0 rfl rfl ?_
    refine g_getR (f := 3) X dX10_now_45 flX10_19 rfl rfl h0 ?_
    refine g_getR (f := 15) X dX10_now_48 flX10_129 rfl rfl (on_10_1 h0) ?_
    refine g_getI X dX10_now_51 flX10_190 rfl (on_9_1 (on_10_1 h0)) ?_
    have hF := Option.some.inj hF
    subst hF
    exact g_iret X dX10_now_54 ho
  rw [if_neg c_1] at hF
  by_cases c_2 : x1 = 1
  · rw [if_pos c_2] at hF
    refine g_tabIn (tgt := 55) (off := 54) X dX10_now_1 (by rw [c_2]; decide) (by rw [c_2]; decide) (by rw [c_2]; decide) (by decide) ?_
    refine g_aload_n X dX10_now_55 0 rfl rfl ?_
    refine g_getR (f := 3) X dX10_now_56 flX10_19 rfl rfl h0 ?_
    refine g_getR (f := 15) X dX10_now_59 flX10_129 rfl rfl (on_10_1 h0) ?_
    refine g_getI X dX10_now_62 flX10_193 rfl (on_9_1 (on_10_1 h0)) ?_
    have hF := Option.some.inj hF
    subst hF
    exact g_iret X dX10_now_65 ho
  rw [if_neg c_2] at hF
  by_cases c_3 : x1 = 2
  · rw [if_pos c_3] at hF
    refine g_tabIn (tgt := 66) (off := 65) X dX10_now_1 (by rw [c_3]; decide) (by rw [c_3]; decide) (by rw [c_3]; decide) (by decide) ?_
    refine g_aload_n X dX10_now_66 0 rfl rfl ?_
    refine g_getR (f := 3) X dX10_now_67 flX10_19 rfl rfl h0 ?_
    obtain ⟨r_4, q_5, hF⟩ := obind hF
    refine g_callVi (As := []) X dX10_now_70 mlX10_196 (fun l D cyy => tX9_feastsToday (cx_inj X) l D cyy (a0 + 3) (on_10_1 h0) S r_4 q_5) (on_10_1 h0) (by decide) rfl rfl (Nat.le_of_ble_eq_true rfl) ?_
    have hF := Option.some.inj hF
    subst hF
    exact g_iret X dX10_now_73 ho
  rw [if_neg c_3] at hF
  by_cases c_6 : x1 = 3
  · rw [if_pos c_6] at hF
    refine g_tabIn (tgt := 74) (off := 73) X dX10_now_1 (by rw [c_6]; decide) (by rw [c_6]; decide) (by rw [c_6]; decide) (by decide) ?_
    refine g_aload_n X dX10_now_74 0 rfl rfl ?_
    refine g_getR (f := 3) X dX10_now_75 flX10_19 rfl rfl h0 ?_
    obtain ⟨r_7, q_8, hF⟩ := obind hF
    refine g_callVi (As := []) X dX10_now_78 mlX10_200 (fun l D cyy => tX9_firstWeekdays (cx_inj X) l D cyy (a0 + 3) (on_10_1 h0) S r_7 q_8) (on_10_1 h0) (by decide) rfl rfl (Nat.le_of_ble_eq_true rfl) ?_
    have hF := Option.some.inj hF
    subst hF
    exact g_iret X dX10_now_81 ho
  rw [if_neg c_6] at hF
  by_cases c_9 : x1 = 4
  · rw [if_pos c_9] at hF
    refine g_tabIn (tgt := 82) (off := 81) X dX10_now_1 (by rw [c_9]; decide) (by rw [c_9]; decide) (by rw [c_9]; decide) (by decide) ?_
    refine g_aload_n X dX10_now_82 0 rfl rfl ?_
    refine g_getR (f := 3) X dX10_now_83 flX10_19 rfl rfl h0 ?_
    obtain ⟨r_10, q_11, hF⟩ := obind hF
    refine g_callVi (As := []) X dX10_now_86 mlX10_203 (fun l D cyy => tX9_betweenToday (cx_inj X) l D cyy (a0 + 3) (on_10_1 h0) S r_10 q_11) (on_10_1 h0) (by decide) rfl rfl (Nat.le_of_ble_eq_true rfl) ?_
    have hF := Option.some.inj hF
    subst hF
    exact g_iret X dX10_now_89 ho
  rw [if_neg c_9] at hF
  by_cases c_12 : x1 = 5
  · rw [if_pos c_12] at hF
    refine g_tabIn (tgt := 90) (off := 89) X dX10_now_1 (by rw [c_12]; decide) (by rw [c_12]; decide) (by rw [c_12]; decide) (by decide) ?_
    refine g_aload_n X dX10_now_90 0 rfl rfl ?_
    refine g_getR (f := 3) X dX10_now_91 flX10_19 rfl rfl h0 ?_
    refine g_getR (f := 15) X dX10_now_94 flX10_129 rfl rfl (on_10_1 h0) ?_
    obtain ⟨r_13, q_14, hF⟩ := obind hF
    refine g_callVi (As := []) X dX10_now_97 mlX10_206 (fun l D cyy => tX2_heldInAll (cx_inj X) l D cyy ((a0 + 3) + 15) (on_9_1 (on_10_1 h0)) S r_13 q_14) (on_9_1 (on_10_1 h0)) (by decide) rfl rfl (Nat.le_of_ble_eq_true rfl) ?_
    have hF := Option.some.inj hF
    subst hF
    exact g_iret X dX10_now_100 ho
  rw [if_neg c_12] at hF
  by_cases c_15 : x1 = 6
  · rw [if_pos c_15] at hF
    refine g_tabIn (tgt := 101) (off := 100) X dX10_now_1 (by rw [c_15]; decide) (by rw [c_15]; decide) (by rw [c_15]; decide) (by decide) ?_
    refine g_aload_n X dX10_now_101 0 rfl rfl ?_
    refine g_getR (f := 3) X dX10_now_102 flX10_19 rfl rfl h0 ?_
    refine g_getR (f := 15) X dX10_now_105 flX10_129 rfl rfl (on_10_1 h0) ?_
    obtain ⟨r_16, q_17, hF⟩ := obind hF
    refine g_callVi (As := []) X dX10_now_108 mlX10_209 (fun l D cyy => tX2_skippedInAll (cx_inj X) l D cyy ((a0 + 3) + 15) (on_9_1 (on_10_1 h0)) S r_16 q_17) (on_9_1 (on_10_1 h0)) (by decide) rfl rfl (Nat.le_of_ble_eq_true rfl) ?_
    have hF := Option.some.inj hF
    subst hF
    exact g_iret X dX10_now_111 ho
  rw [if_neg c_15] at hF
  have c_18 : (x1).toInt < 0 ∨ 6 < (x1).toInt := by
    have := ti_ne (n := 0) c_1 (by decide)
    have := ti_ne (n := 1) c_2 (by decide)
    have := ti_ne (n := 2) c_3 (by decide)
    have := ti_ne (n := 3) c_6 (by decide)
    have := ti_ne (n := 4) c_9 (by decide)
    have := ti_ne (n := 5) c_12 (by decide)
    have := ti_ne (n := 6) c_15 (by decide)
    omega
  refine g_tabOut (tgt := 112) X dX10_now_1 c_18 (by decide) ?_
  refine g_iconst (v := -1) X dX10_now_112 (by decide) ?_
  have hF := Option.some.inj hF
  subst hF
  exact g_iret X dX10_now_113 ho
theorem tX10_now {ad : Nat → Nat} (hI : Inj ad) (l : Launch) (D : va_G) (cyy : Nat → ClassId) (a0 : Nat) (x1 : Int32) (h0 : KT a0 = 10) (S : St) (r : Int32) (hF : fX10_now a0 x1 S = some r) : OkM l yX10_now cX10_now 2 (some .int) 6 ad D cyy [.ref (ad a0), .int x1] S (some (.int r), S) := okM_of hI (by decide) (inr_28 _ (List.mem_of_getElem? (i := 8) rfl)) (by show _ ≤ 2; exact Nat.le_of_ble_eq_true rfl) (fun z X => wX10_now X a0 x1 h0 S r rfl hF)
def fX10_keepForUndo_s74 (a0 : Nat)   (S : St) : Option St :=
  if ((gI S 10 11 a0) < 0 ∨ 8 ≤ (gI S 10 11 a0).toNatClampNeg) then none else
  if ¬ KT (gQ S (a0 + 105) ((gI S 10 11 a0).toNatClampNeg)) = 2 then none else
  (fX2_copyFrom (gQ S (a0 + 105) ((gI S 10 11 a0).toNatClampNeg)) (a0 + 97) S).bind fun r_4 =>
  some (sI r_4 10 11 a0 ((gI r_4 10 11 a0) + (1 : Int32)))
def fX10_keepForUndo_s63 (a0 : Nat)   (S : St) : Option St :=
  fX10_keepForUndo_s74 a0 (sI S 10 11 a0 ((8 : Int32) - (1 : Int32)))
def fX10_keepForUndo_s44 (k21 : Nat → Int32 → St → Option St) (a0 : Nat) (b1 : Nat) (y2 : Int32)  (S : St) : Option St :=
  k21 b1 (y2 + (1 : Int32)) S
def fX10_keepForUndo_s21 (k21 : Nat → Int32 → St → Option St) (a0 : Nat) (b1 : Nat) (y2 : Int32)  (S : St) : Option St :=
  if (8 : Int32) ≤ y2 then (if (((8 : Int32) - (1 : Int32)) < 0 ∨ 8 ≤ ((8 : Int32) - (1 : Int32)).toNatClampNeg) then none else
  fX10_keepForUndo_s63 a0 (sQ S (a0 + 105) (((8 : Int32) - (1 : Int32)).toNatClampNeg) b1)) else
  (if (y2 < 0 ∨ 8 ≤ y2.toNatClampNeg) then none else
  if ¬ KT (gQ S (a0 + 105) y2.toNatClampNeg) = 2 then none else
  if ((y2 - (1 : Int32)) < 0 ∨ 8 ≤ (y2 - (1 : Int32)).toNatClampNeg) then none else
  fX10_keepForUndo_s44 k21 a0 b1 y2 (sQ S (a0 + 105) ((y2 - (1 : Int32)).toNatClampNeg) (gQ S (a0 + 105) y2.toNatClampNeg)))
def fX10_keepForUndo_h21 (a0 : Nat) : Nat → Nat → Int32 → St → Option St
  | 0, _, _, _ => none
  | n + 1, b1, y2, S => fX10_keepForUndo_s21 (fX10_keepForUndo_h21 a0 n) a0 b1 y2 S
def fX10_keepForUndo_s19 (a0 : Nat) (b1 : Nat)  (S : St) : Option St :=
  fX10_keepForUndo_h21 a0 NN b1 (1 : Int32) S
def fX10_keepForUndo (a0 : Nat) (S : St) : Option St :=
  if (gI S 10 11 a0) < (8 : Int32) then (fX10_keepForUndo_s74 a0 S) else
  (if ¬ KT (gQ S (a0 + 105) 0) = 2 then none else
  fX10_keepForUndo_s19 a0 (gQ S (a0 + 105) 0) S)
theorem wX10_keepForUndo_s74 {z : Mx} {ad : Nat → Nat} {o : Option Value × St} (X : CxOk z ad RX10 cX10_keepForUndo 3 none 2) (a0 : Nat) (h0 : KT a0 = 10)     (S : St) (r : St) (ho : o = (none, r)) (hF : fX10_keepForUndo_s74 a0   S = some r) : GW z ad o S 74 [(0, .ref (ad a0))] [] := by
  unfold fX10_keepForUndo_s74 at hF
  refine g_aload_n X dX10_keepForUndo_74 0 rfl rfl ?_
  refine g_getR (f := 105) X dX10_keepForUndo_75 flX10_72 rfl rfl h0 ?_
  refine g_aload_n X dX10_keepForUndo_78 0 rfl rfl ?_
  refine g_getI X dX10_keepForUndo_79 flX10_113 rfl h0 ?_
  obtain ⟨e_2, hF⟩ := oguard hF
  refine g_aaldQ X dX10_keepForUndo_82 (on_10_10 h0) rfl e_2 ?_
  obtain ⟨e_3, hF⟩ := oguardN hF
  refine g_aload_n X dX10_keepForUndo_83 0 rfl rfl ?_
  refine g_getR (f := 97) X dX10_keepForUndo_84 flX10_65 rfl rfl h0 ?_
  obtain ⟨r_4, q_5, hF⟩ := obind hF
  refine g_callVv (As := [.ref (ad (a0 + 97))]) X dX10_keepForUndo_87 mlX10_212 (fun l D cyy => tX2_copyFrom (cx_inj X) l D cyy (gQ S (a0 + 105) ((gI S 10 11 a0).toNatClampNeg)) (a0 + 97) e_3 (on_10_8 h0) S r_4 q_5) e_3 (by decide) rfl rfl (Nat.le_of_ble_eq_true rfl) ?_
  refine g_aload_n X dX10_keepForUndo_90 0 rfl rfl ?_
  refine g_dup (a := .ref (ad a0)) X dX10_keepForUndo_91 rfl ?_
  refine g_getI X dX10_keepForUndo_92 flX10_113 rfl h0 ?_
  refine g_iconst (v := 1) X dX10_keepForUndo_95 (by decide) ?_
  refine g_iadd X dX10_keepForUndo_96 ?_
  refine g_putI X dX10_keepForUndo_97 fpX10_113 rfl rfl rfl h0 ?_
  have hF := Option.some.inj hF
  subst hF
  exact g_vret X dX10_keepForUndo_100 ho
theorem wX10_keepForUndo_s63 {z : Mx} {ad : Nat → Nat} {o : Option Value × St} (X : CxOk z ad RX10 cX10_keepForUndo 3 none 2) (a0 : Nat) (h0 : KT a0 = 10)     (S : St) (r : St) (ho : o = (none, r)) (hF : fX10_keepForUndo_s63 a0   S = some r) : GW z ad o S 63 [(0, .ref (ad a0))] [] := by
  unfold fX10_keepForUndo_s63 at hF
  refine g_aload_n X dX10_keepForUndo_63 0 rfl rfl ?_
  refine g_aload_n X dX10_keepForUndo_64 0 rfl rfl ?_
  refine g_getR (f := 105) X dX10_keepForUndo_65 flX10_72 rfl rfl h0 ?_
  refine g_alen (v := 8) X dX10_keepForUndo_68 kd_25 (on_10_10 h0) (by decide) ?_
  refine g_iconst (v := 1) X dX10_keepForUndo_69 (by decide) ?_
  refine g_isub X dX10_keepForUndo_70 ?_
  refine g_putI X dX10_keepForUndo_71 fpX10_113 rfl rfl rfl h0 ?_
  exact (wX10_keepForUndo_s74 X a0 h0 (sI S 10 11 a0 ((8 : Int32) - (1 : Int32))) r ho hF)
theorem wX10_keepForUndo_s44 {z : Mx} {ad : Nat → Nat} {o : Option Value × St} (X : CxOk z ad RX10 cX10_keepForUndo 3 none 2) (a0 : Nat) (h0 : KT a0 = 10) (b1 : Nat) (y2 : Int32)  (k21 : Nat → Int32 → St → Option St) (g1 : KT b1 = 2)  (S : St) (r : St) (ho : o = (none, r)) (hk21 : ∀ (b1 : Nat) (y2 : Int32) (S : St), KT b1 = 2 → k21 b1 y2 S = some r → GW z ad o S 21 [(0, .ref (ad a0)), (1, .ref (ad b1)), (2, .int y2)] []) (hF : fX10_keepForUndo_s44 k21 a0 b1 y2  S = some r) : GW z ad o S 44 [(0, .ref (ad a0)), (1, .ref (ad b1)), (2, .int y2)] [] := by
  unfold fX10_keepForUndo_s44 at hF
  refine g_iinc (v := (y2 + (1 : Int32))) X dX10_keepForUndo_44 2 rfl rfl (by decide) (lv' := [(2, .int (y2 + (1 : Int32))), (0, .ref (ad a0)), (1, .ref (ad b1))]) rfl ?_
  refine g_goto (tgt := 21) X dX10_keepForUndo_47 (by decide) ?_
  exact g_perm [1, 2, 0] rfl (hk21 b1 (y2 + (1 : Int32)) S g1 hF)
theorem wX10_keepForUndo_s21 {z : Mx} {ad : Nat → Nat} {o : Option Value × St} (X : CxOk z ad RX10 cX10_keepForUndo 3 none 2) (a0 : Nat) (h0 : KT a0 = 10) (b1 : Nat) (y2 : Int32)  (k21 : Nat → Int32 → St → Option St) (g1 : KT b1 = 2)  (S : St) (r : St) (ho : o = (none, r)) (hk21 : ∀ (b1 : Nat) (y2 : Int32) (S : St), KT b1 = 2 → k21 b1 y2 S = some r → GW z ad o S 21 [(0, .ref (ad a0)), (1, .ref (ad b1)), (2, .int y2)] []) (hF : fX10_keepForUndo_s21 k21 a0 b1 y2  S = some r) : GW z ad o S 21 [(0, .ref (ad a0)), (1, .ref (ad b1)), (2, .int y2)] [] := by
  unfold fX10_keepForUndo_s21 at hF
  refine g_iload_n X dX10_keepForUndo_21 2 rfl rfl ?_
  refine g_aload_n X dX10_keepForUndo_22 0 rfl rfl ?_
  refine g_getR (f := 105) X dX10_keepForUndo_23 flX10_72 rfl rfl h0 ?_
  refine g_alen (v := 8) X dX10_keepForUndo_26 kd_25 (on_10_10 h0) (by decide) ?_
  refine g_icmp_ge (tgt := 50) X dX10_keepForUndo_27 (by decide) (fun c_7 => ?_) (fun c_7 => ?_)
  · rw [if_pos c_7] at hF
    refine g_aload_n X dX10_keepForUndo_50 0 rfl rfl ?_
    refine g_getR (f := 105) X dX10_keepForUndo_51 flX10_72 rfl rfl h0 ?_
    refine g_aload_n X dX10_keepForUndo_54 0 rfl rfl ?_
    refine g_getR (f := 105) X dX10_keepForUndo_55 flX10_72 rfl rfl h0 ?_
    refine g_alen (v := 8) X dX10_keepForUndo_58 kd_25 (on_10_10 h0) (by decide) ?_
    refine g_iconst (v := 1) X dX10_keepForUndo_59 (by decide) ?_
    refine g_isub X dX10_keepForUndo_60 ?_
    refine g_aload_n X dX10_keepForUndo_61 1 rfl rfl ?_
    obtain ⟨e_8, hF⟩ := oguard hF
    refine g_aast X dX10_keepForUndo_62 (on_10_10 h0) g1 e_8 ?_
    exact g_perm [0] rfl (wX10_keepForUndo_s63 X a0 h0 (sQ S (a0 + 105) (((8 : Int32) - (1 : Int32)).toNatClampNeg) b1) r ho hF)
  · rw [if_neg c_7] at hF
    refine g_aload_n X dX10_keepForUndo_30 0 rfl rfl ?_
    refine g_getR (f := 105) X dX10_keepForUndo_31 flX10_72 rfl rfl h0 ?_
    refine g_iload_n X dX10_keepForUndo_34 2 rfl rfl ?_
    refine g_iconst (v := 1) X dX10_keepForUndo_35 (by decide) ?_
    refine g_isub X dX10_keepForUndo_36 ?_
    refine g_aload_n X dX10_keepForUndo_37 0 rfl rfl ?_
    refine g_getR (f := 105) X dX10_keepForUndo_38 flX10_72 rfl rfl h0 ?_
    refine g_iload_n X dX10_keepForUndo_41 2 rfl rfl ?_
    obtain ⟨e_9, hF⟩ := oguard hF
    refine g_aaldQ X dX10_keepForUndo_42 (on_10_10 h0) rfl e_9 ?_
    obtain ⟨e_10, hF⟩ := oguardN hF
    obtain ⟨e_11, hF⟩ := oguard hF
    refine g_aast X dX10_keepForUndo_43 (on_10_10 h0) e_10 e_11 ?_
    exact (wX10_keepForUndo_s44 X a0 h0 b1 y2 k21 g1 (sQ S (a0 + 105) ((y2 - (1 : Int32)).toNatClampNeg) (gQ S (a0 + 105) y2.toNatClampNeg)) r ho hk21 hF)
theorem wX10_keepForUndo_h21 {z : Mx} {ad : Nat → Nat} {o : Option Value × St} (X : CxOk z ad RX10 cX10_keepForUndo 3 none 2) (a0 : Nat) (h0 : KT a0 = 10)  (r : St) (ho : o = (none, r)) : ∀ (n : Nat) (b1 : Nat) (y2 : Int32) (S : St), KT b1 = 2 → fX10_keepForUndo_h21 a0 n b1 y2 S = some r → GW z ad o S 21 [(0, .ref (ad a0)), (1, .ref (ad b1)), (2, .int y2)] [] := by
  intro n
  induction n with
  | zero => intro b1 y2 S g1 hF; cases hF
  | succ n ih => intro b1 y2 S g1 hF; exact wX10_keepForUndo_s21 X a0 h0 b1 y2 (fX10_keepForUndo_h21 a0 n) g1 S r ho ih hF
theorem wX10_keepForUndo_s19 {z : Mx} {ad : Nat → Nat} {o : Option Value × St} (X : CxOk z ad RX10 cX10_keepForUndo 3 none 2) (a0 : Nat) (h0 : KT a0 = 10) (b1 : Nat)  (g1 : KT b1 = 2)  (S : St) (r : St) (ho : o = (none, r)) (hF : fX10_keepForUndo_s19 a0 b1  S = some r) : GW z ad o S 19 [(0, .ref (ad a0)), (1, .ref (ad b1))] [] := by
  unfold fX10_keepForUndo_s19 at hF
  refine g_iconst (v := 1) X dX10_keepForUndo_19 (by decide) ?_
  refine g_istore_n X dX10_keepForUndo_20 rfl (by decide) (lv' := [(2, .int (1 : Int32)), (0, .ref (ad a0)), (1, .ref (ad b1))]) rfl ?_
  exact g_perm [1, 2, 0] rfl (wX10_keepForUndo_h21 X a0 h0 r ho NN b1 (1 : Int32) S g1 hF)
theorem wX10_keepForUndo {z : Mx} {ad : Nat → Nat} {o : Option Value × St} (X : CxOk z ad RX10 cX10_keepForUndo 3 none 2) (a0 : Nat) (h0 : KT a0 = 10) (S : St) (r : St) (ho : o = (none, r)) (hF : fX10_keepForUndo a0 S = some r) : GW z ad o S 0 [(0, .ref (ad a0))] [] := by
  unfold fX10_keepForUndo at hF
  refine g_aload_n X dX10_keepForUndo_0 0 rfl rfl ?_
  refine g_getI X dX10_keepForUndo_1 flX10_113 rfl h0 ?_
  refine g_aload_n X dX10_keepForUndo_4 0 rfl rfl ?_
  refine g_getR (f := 105) X dX10_keepForUndo_5 flX10_72 rfl rfl h0 ?_
  refine g_alen (v := 8) X dX10_keepForUndo_8 kd_25 (on_10_10 h0) (by decide) ?_
  refine g_icmp_lt (tgt := 74) X dX10_keepForUndo_9 (by decide) (fun c_1 => ?_) (fun c_1 => ?_)
  · rw [if_pos c_1] at hF
    exact (wX10_keepForUndo_s74 X a0 h0 S r ho hF)
  · rw [if_neg c_1] at hF
    refine g_aload_n X dX10_keepForUndo_12 0 rfl rfl ?_
    refine g_getR (f := 105) X dX10_keepForUndo_13 flX10_72 rfl rfl h0 ?_
    refine g_iconst (v := 0) X dX10_keepForUndo_16 (by decide) ?_
    refine g_aaldQ (j := 0) X dX10_keepForUndo_17 (on_10_10 h0) (by decide) (by decide) ?_
    obtain ⟨e_6, hF⟩ := oguardN hF
    refine g_astore_n X dX10_keepForUndo_18 rfl (by decide) (lv' := [(1, .ref (ad (gQ S (a0 + 105) 0))), (0, .ref (ad a0))]) rfl ?_
    exact g_perm [1, 0] rfl (wX10_keepForUndo_s19 X a0 h0 (gQ S (a0 + 105) 0) e_6 S r ho hF)
theorem tX10_keepForUndo {ad : Nat → Nat} (hI : Inj ad) (l : Launch) (D : va_G) (cyy : Nat → ClassId) (a0 : Nat) (h0 : KT a0 = 10) (S : St) (r : St) (hF : fX10_keepForUndo a0 S = some r) : OkM l yX10_keepForUndo cX10_keepForUndo 3 none 2 ad D cyy [.ref (ad a0)] S (none, r) := okM_of hI (by decide) (inr_31 _ (List.mem_of_getElem? (i := 2) rfl)) (by show _ ≤ 3; exact Nat.le_of_ble_eq_true rfl) (fun z X => wX10_keepForUndo X a0 h0 S r rfl hF)
def fX10_hold_s41 (a0 : Nat) (x1 : Int32)  (t0 : Int32) (S : St) : Option (Int32 × St) :=
  if t0 = 0 then ((fX10_keepForUndo a0 S).bind fun r_7 =>
  some (t0, r_7)) else
  (some (t0, S))
def fX10_hold (a0 : Nat) (x1 : Int32) (S : St) : Option (Int32 × St) :=
  if (fX8_hasParish ((a0 + 3) + 1) x1 S) = 0 then (some ((-1 : Int32), S)) else
  ((fX2_copyFrom (a0 + 97) ((a0 + 3) + 15) S).bind fun r_2 =>
  (fX2_holdDay ((a0 + 3) + 15) x1 r_2).bind fun r_4 =>
  fX10_hold_s41 a0 x1 r_4.1 r_4.2)
theorem wX10_hold_s41 {z : Mx} {ad : Nat → Nat} {o : Option Value × St} (X : CxOk z ad RX10 cX10_hold 3 (some .int) 3) (a0 : Nat) (x1 : Int32) (h0 : KT a0 = 10)  (t0 : Int32)   (S : St) (r : (Int32 × St)) (ho : o = (some (.int r.1), r.2)) (hF : fX10_hold_s41 a0 x1  t0 S = some r) : GW z ad o S 41 [(0, .ref (ad a0))] [.int t0] := by
  unfold fX10_hold_s41 at hF
  refine g_istore_n X dX10_hold_41 rfl (by decide) (lv' := [(2, .int t0), (0, .ref (ad a0))]) rfl ?_
  refine g_iload_n X dX10_hold_42 0 rfl rfl ?_
  refine g_if_ne (tgt := 50) X dX10_hold_43 (by decide) (fun c_6 => ?_) (fun c_6 => ?_)
  · rw [if_neg c_6] at hF
    refine g_iload_n X dX10_hold_50 0 rfl rfl ?_
    have hF := Option.some.inj hF
    subst hF
    exact g_iret X dX10_hold_51 ho
  · rw [if_pos c_6] at hF
    refine g_aload_n X dX10_hold_46 1 rfl rfl ?_
    obtain ⟨r_7, q_8, hF⟩ := obind hF
    refine g_callVv (As := []) X dX10_hold_47 mlX10_220 (fun l D cyy => tX10_keepForUndo (cx_inj X) l D cyy a0 h0 S r_7 q_8) h0 (by decide) rfl rfl (Nat.le_of_ble_eq_true rfl) ?_
    refine g_iload_n X dX10_hold_50 0 rfl rfl ?_
    have hF := Option.some.inj hF
    subst hF
    exact g_iret X dX10_hold_51 ho
theorem wX10_hold {z : Mx} {ad : Nat → Nat} {o : Option Value × St} (X : CxOk z ad RX10 cX10_hold 3 (some .int) 3) (a0 : Nat) (x1 : Int32) (h0 : KT a0 = 10) (S : St) (r : (Int32 × St)) (ho : o = (some (.int r.1), r.2)) (hF : fX10_hold a0 x1 S = some r) : GW z ad o S 0 [(0, .ref (ad a0)), (1, .int x1)] [] := by
  unfold fX10_hold at hF
  refine g_aload_n X dX10_hold_0 0 rfl rfl ?_
  refine g_getR (f := 3) X dX10_hold_1 flX10_19 rfl rfl h0 ?_
  refine g_getR (f := 1) X dX10_hold_4 flX10_116 rfl rfl (on_10_1 h0) ?_
  refine g_iload_n X dX10_hold_7 1 rfl rfl ?_
  refine g_callVi (As := [.int x1]) X dX10_hold_8 mlX10_119 (fun l D cyy => tX8_hasParish (cx_inj X) l D cyy ((a0 + 3) + 1) x1 (on_9_0 (on_10_1 h0)) S) (on_9_0 (on_10_1 h0)) (by decide) rfl rfl (Nat.le_of_ble_eq_true rfl) ?_
  refine g_if_ne (tgt := 16) X dX10_hold_11 (by decide) (fun c_1 => ?_) (fun c_1 => ?_)
  · rw [if_neg c_1] at hF
    refine g_aload_n X dX10_hold_16 0 rfl rfl ?_
    refine g_getR (f := 97) X dX10_hold_17 flX10_65 rfl rfl h0 ?_
    refine g_aload_n X dX10_hold_20 0 rfl rfl ?_
    refine g_getR (f := 3) X dX10_hold_21 flX10_19 rfl rfl h0 ?_
    refine g_getR (f := 15) X dX10_hold_24 flX10_129 rfl rfl (on_10_1 h0) ?_
    obtain ⟨r_2, q_3, hF⟩ := obind hF
    refine g_callVv (As := [.ref (ad ((a0 + 3) + 15))]) X dX10_hold_27 mlX10_212 (fun l D cyy => tX2_copyFrom (cx_inj X) l D cyy (a0 + 97) ((a0 + 3) + 15) (on_10_8 h0) (on_9_1 (on_10_1 h0)) S r_2 q_3) (on_10_8 h0) (by decide) rfl rfl (Nat.le_of_ble_eq_true rfl) ?_
    refine g_aload_n X dX10_hold_30 0 rfl rfl ?_
    refine g_getR (f := 3) X dX10_hold_31 flX10_19 rfl rfl h0 ?_
    refine g_getR (f := 15) X dX10_hold_34 flX10_129 rfl rfl (on_10_1 h0) ?_
    refine g_iload_n X dX10_hold_37 1 rfl rfl ?_
    obtain ⟨r_4, q_5, hF⟩ := obind hF
    refine g_callVi (As := [.int x1]) X dX10_hold_38 mlX10_216 (fun l D cyy => tX2_holdDay (cx_inj X) l D cyy ((a0 + 3) + 15) x1 (on_9_1 (on_10_1 h0)) r_2 r_4 q_5) (on_9_1 (on_10_1 h0)) (by decide) rfl rfl (Nat.le_of_ble_eq_true rfl) ?_
    exact g_perm [0] rfl (wX10_hold_s41 X a0 x1 h0 r_4.1 r_4.2 r ho hF)
  · rw [if_pos c_1] at hF
    refine g_iconst (v := -1) X dX10_hold_14 (by decide) ?_
    have hF := Option.some.inj hF
    subst hF
    exact g_iret X dX10_hold_15 ho
theorem tX10_hold {ad : Nat → Nat} (hI : Inj ad) (l : Launch) (D : va_G) (cyy : Nat → ClassId) (a0 : Nat) (x1 : Int32) (h0 : KT a0 = 10) (S : St) (r : (Int32 × St)) (hF : fX10_hold a0 x1 S = some r) : OkM l yX10_hold cX10_hold 3 (some .int) 3 ad D cyy [.ref (ad a0), .int x1] S (some (.int r.1), r.2) := okM_of hI (by decide) (inr_30 _ (List.mem_of_getElem? (i := 14) rfl)) (by show _ ≤ 3; exact Nat.le_of_ble_eq_true rfl) (fun z X => wX10_hold X a0 x1 h0 S r rfl hF)
def fX10_skip_s53 (a0 : Nat) (x1 : Int32) (x2 : Int32)  (t0 : Int32) (S : St) : Option (Int32 × St) :=
  if t0 = 0 then ((fX10_keepForUndo a0 S).bind fun r_9 =>
  some (t0, r_9)) else
  (some (t0, S))
def fX10_skip (a0 : Nat) (x1 : Int32) (x2 : Int32) (S : St) : Option (Int32 × St) :=
  if (fX8_hasParish ((a0 + 3) + 1) x1 S) = 0 then (some ((-1 : Int32), S)) else
  (if x2 < (1 : Int32) then (some ((-1 : Int32), S)) else
  (if x2 ≤ (99 : Int32) then ((fX2_copyFrom (a0 + 97) ((a0 + 3) + 15) S).bind fun r_4 =>
  (fX2_skipDays ((a0 + 3) + 15) x1 x2 r_4).bind fun r_6 =>
  fX10_skip_s53 a0 x1 x2 r_6.1 r_6.2) else
  (some ((-1 : Int32), S))))
theorem wX10_skip_s53 {z : Mx} {ad : Nat → Nat} {o : Option Value × St} (X : CxOk z ad RX10 cX10_skip 4 (some .int) 3) (a0 : Nat) (x1 : Int32) (x2 : Int32) (h0 : KT a0 = 10)  (t0 : Int32)   (S : St) (r : (Int32 × St)) (ho : o = (some (.int r.1), r.2)) (hF : fX10_skip_s53 a0 x1 x2  t0 S = some r) : GW z ad o S 53 [(0, .ref (ad a0))] [.int t0] := by
  unfold fX10_skip_s53 at hF
  refine g_istore_n X dX10_skip_53 rfl (by decide) (lv' := [(3, .int t0), (0, .ref (ad a0))]) rfl ?_
  refine g_iload_n X dX10_skip_54 0 rfl rfl ?_
  refine g_if_ne (tgt := 62) X dX10_skip_55 (by decide) (fun c_8 => ?_) (fun c_8 => ?_)
  · rw [if_neg c_8] at hF
    refine g_iload_n X dX10_skip_62 0 rfl rfl ?_
    have hF := Option.some.inj hF
    subst hF
    exact g_iret X dX10_skip_63 ho
  · rw [if_pos c_8] at hF
    refine g_aload_n X dX10_skip_58 1 rfl rfl ?_
    obtain ⟨r_9, q_10, hF⟩ := obind hF
    refine g_callVv (As := []) X dX10_skip_59 mlX10_220 (fun l D cyy => tX10_keepForUndo (cx_inj X) l D cyy a0 h0 S r_9 q_10) h0 (by decide) rfl rfl (Nat.le_of_ble_eq_true rfl) ?_
    refine g_iload_n X dX10_skip_62 0 rfl rfl ?_
    have hF := Option.some.inj hF
    subst hF
    exact g_iret X dX10_skip_63 ho
theorem wX10_skip {z : Mx} {ad : Nat → Nat} {o : Option Value × St} (X : CxOk z ad RX10 cX10_skip 4 (some .int) 3) (a0 : Nat) (x1 : Int32) (x2 : Int32) (h0 : KT a0 = 10) (S : St) (r : (Int32 × St)) (ho : o = (some (.int r.1), r.2)) (hF : fX10_skip a0 x1 x2 S = some r) : GW z ad o S 0 [(0, .ref (ad a0)), (1, .int x1), (2, .int x2)] [] := by
  unfold fX10_skip at hF
  refine g_aload_n X dX10_skip_0 0 rfl rfl ?_
  refine g_getR (f := 3) X dX10_skip_1 flX10_19 rfl rfl h0 ?_
  refine g_getR (f := 1) X dX10_skip_4 flX10_116 rfl rfl (on_10_1 h0) ?_
  refine g_iload_n X dX10_skip_7 1 rfl rfl ?_
  refine g_callVi (As := [.int x1]) X dX10_skip_8 mlX10_119 (fun l D cyy => tX8_hasParish (cx_inj X) l D cyy ((a0 + 3) + 1) x1 (on_9_0 (on_10_1 h0)) S) (on_9_0 (on_10_1 h0)) (by decide) rfl rfl (Nat.le_of_ble_eq_true rfl) ?_
  refine g_if_eq (tgt := 25) X dX10_skip_11 (by decide) (fun c_1 => ?_) (fun c_1 => ?_)
  · rw [if_pos c_1] at hF
    refine g_iconst (v := -1) X dX10_skip_25 (by decide) ?_
    have hF := Option.some.inj hF
    subst hF
    exact g_iret X dX10_skip_26 ho
  · rw [if_neg c_1] at hF
    refine g_iload_n X dX10_skip_14 2 rfl rfl ?_
    refine g_iconst (v := 1) X dX10_skip_15 (by decide) ?_
    refine g_icmp_lt (tgt := 25) X dX10_skip_16 (by decide) (fun c_2 => ?_) (fun c_2 => ?_)
    · rw [if_pos c_2] at hF
      refine g_iconst (v := -1) X dX10_skip_25 (by decide) ?_
      have hF := Option.some.inj hF
      subst hF
      exact g_iret X dX10_skip_26 ho
    · rw [if_neg c_2] at hF
      refine g_iload_n X dX10_skip_19 2 rfl rfl ?_
      refine g_bipush (v := 99) X dX10_skip_20 (by decide) ?_
      refine g_icmp_le (tgt := 27) X dX10_skip_22 (by decide) (fun c_3 => ?_) (fun c_3 => ?_)
      · rw [if_pos c_3] at hF
        refine g_aload_n X dX10_skip_27 0 rfl rfl ?_
        refine g_getR (f := 97) X dX10_skip_28 flX10_65 rfl rfl h0 ?_
        refine g_aload_n X dX10_skip_31 0 rfl rfl ?_
        refine g_getR (f := 3) X dX10_skip_32 flX10_19 rfl rfl h0 ?_
        refine g_getR (f := 15) X dX10_skip_35 flX10_129 rfl rfl (on_10_1 h0) ?_
        obtain ⟨r_4, q_5, hF⟩ := obind hF
        refine g_callVv (As := [.ref (ad ((a0 + 3) + 15))]) X dX10_skip_38 mlX10_212 (fun l D cyy => tX2_copyFrom (cx_inj X) l D cyy (a0 + 97) ((a0 + 3) + 15) (on_10_8 h0) (on_9_1 (on_10_1 h0)) S r_4 q_5) (on_10_8 h0) (by decide) rfl rfl (Nat.le_of_ble_eq_true rfl) ?_
        refine g_aload_n X dX10_skip_41 0 rfl rfl ?_
        refine g_getR (f := 3) X dX10_skip_42 flX10_19 rfl rfl h0 ?_
        refine g_getR (f := 15) X dX10_skip_45 flX10_129 rfl rfl (on_10_1 h0) ?_
        refine g_iload_n X dX10_skip_48 1 rfl rfl ?_
        refine g_iload_n X dX10_skip_49 2 rfl rfl ?_
        obtain ⟨r_6, q_7, hF⟩ := obind hF
        refine g_callVi (As := [.int x1, .int x2]) X dX10_skip_50 mlX10_223 (fun l D cyy => tX2_skipDays (cx_inj X) l D cyy ((a0 + 3) + 15) x1 x2 (on_9_1 (on_10_1 h0)) r_4 r_6 q_7) (on_9_1 (on_10_1 h0)) (by decide) rfl rfl (Nat.le_of_ble_eq_true rfl) ?_
        exact g_perm [0] rfl (wX10_skip_s53 X a0 x1 x2 h0 r_6.1 r_6.2 r ho hF)
      · rw [if_neg c_3] at hF
        refine g_iconst (v := -1) X dX10_skip_25 (by decide) ?_
        have hF := Option.some.inj hF
        subst hF
        exact g_iret X dX10_skip_26 ho
theorem tX10_skip {ad : Nat → Nat} (hI : Inj ad) (l : Launch) (D : va_G) (cyy : Nat → ClassId) (a0 : Nat) (x1 : Int32) (x2 : Int32) (h0 : KT a0 = 10) (S : St) (r : (Int32 × St)) (hF : fX10_skip a0 x1 x2 S = some r) : OkM l yX10_skip cX10_skip 4 (some .int) 3 ad D cyy [.ref (ad a0), .int x1, .int x2] S (some (.int r.1), r.2) := okM_of hI (by decide) (inr_31 _ (List.mem_of_getElem? (i := 22) rfl)) (by show _ ≤ 4; exact Nat.le_of_ble_eq_true rfl) (fun z X => wX10_skip X a0 x1 x2 h0 S r rfl hF)
def fX10_days_s39 (a0 : Nat) (x1 : Int32)  (t0 : Int32) (S : St) : Option (Int32 × St) :=
  if t0 ≤ 0 then (some (t0, S)) else
  ((fX10_keepForUndo a0 S).bind fun r_8 =>
  some (t0, r_8))
def fX10_days (a0 : Nat) (x1 : Int32) (S : St) : Option (Int32 × St) :=
  if x1 < (1 : Int32) then (some ((-1 : Int32), S)) else
  (if x1 ≤ (999 : Int32) then ((fX2_copyFrom (a0 + 97) ((a0 + 3) + 15) S).bind fun r_3 =>
  (fX2_passDays ((a0 + 3) + 15) x1 r_3).bind fun r_5 =>
  fX10_days_s39 a0 x1 r_5.1 r_5.2) else
  (some ((-1 : Int32), S)))
theorem wX10_days_s39 {z : Mx} {ad : Nat → Nat} {o : Option Value × St} (X : CxOk z ad RX10 cX10_days 3 (some .int) 4) (a0 : Nat) (x1 : Int32) (h0 : KT a0 = 10)  (t0 : Int32)   (S : St) (r : (Int32 × St)) (ho : o = (some (.int r.1), r.2)) (hF : fX10_days_s39 a0 x1  t0 S = some r) : GW z ad o S 39 [(0, .ref (ad a0))] [.int t0] := by
  unfold fX10_days_s39 at hF
  refine g_istore_n X dX10_days_39 rfl (by decide) (lv' := [(2, .int t0), (0, .ref (ad a0))]) rfl ?_
  refine g_iload_n X dX10_days_40 0 rfl rfl ?_
  refine g_if_le (tgt := 48) X dX10_days_41 (by decide) (fun c_7 => ?_) (fun c_7 => ?_)
  · rw [if_pos c_7] at hF
    refine g_iload_n X dX10_days_48 0 rfl rfl ?_
    have hF := Option.some.inj hF
    subst hF
    exact g_iret X dX10_days_49 ho
  · rw [if_neg c_7] at hF
    refine g_aload_n X dX10_days_44 1 rfl rfl ?_
    obtain ⟨r_8, q_9, hF⟩ := obind hF
    refine g_callVv (As := []) X dX10_days_45 mlX10_220 (fun l D cyy => tX10_keepForUndo (cx_inj X) l D cyy a0 h0 S r_8 q_9) h0 (by decide) rfl rfl (Nat.le_of_ble_eq_true rfl) ?_
    refine g_iload_n X dX10_days_48 0 rfl rfl ?_
    have hF := Option.some.inj hF
    subst hF
    exact g_iret X dX10_days_49 ho
theorem wX10_days {z : Mx} {ad : Nat → Nat} {o : Option Value × St} (X : CxOk z ad RX10 cX10_days 3 (some .int) 4) (a0 : Nat) (x1 : Int32) (h0 : KT a0 = 10) (S : St) (r : (Int32 × St)) (ho : o = (some (.int r.1), r.2)) (hF : fX10_days a0 x1 S = some r) : GW z ad o S 0 [(0, .ref (ad a0)), (1, .int x1)] [] := by
  unfold fX10_days at hF
  refine g_iload_n X dX10_days_0 1 rfl rfl ?_
  refine g_iconst (v := 1) X dX10_days_1 (by decide) ?_
  refine g_icmp_lt (tgt := 12) X dX10_days_2 (by decide) (fun c_1 => ?_) (fun c_1 => ?_)
  · rw [if_pos c_1] at hF
    refine g_iconst (v := -1) X dX10_days_12 (by decide) ?_
    have hF := Option.some.inj hF
    subst hF
    exact g_iret X dX10_days_13 ho
  · rw [if_neg c_1] at hF
    refine g_iload_n X dX10_days_5 1 rfl rfl ?_
    refine g_sipush (v := 999) X dX10_days_6 (by decide) ?_
    refine g_icmp_le (tgt := 14) X dX10_days_9 (by decide) (fun c_2 => ?_) (fun c_2 => ?_)
    · rw [if_pos c_2] at hF
      refine g_aload_n X dX10_days_14 0 rfl rfl ?_
      refine g_getR (f := 97) X dX10_days_15 flX10_65 rfl rfl h0 ?_
      refine g_aload_n X dX10_days_18 0 rfl rfl ?_
      refine g_getR (f := 3) X dX10_days_19 flX10_19 rfl rfl h0 ?_
      refine g_getR (f := 15) X dX10_days_22 flX10_129 rfl rfl (on_10_1 h0) ?_
      obtain ⟨r_3, q_4, hF⟩ := obind hF
      refine g_callVv (As := [.ref (ad ((a0 + 3) + 15))]) X dX10_days_25 mlX10_212 (fun l D cyy => tX2_copyFrom (cx_inj X) l D cyy (a0 + 97) ((a0 + 3) + 15) (on_10_8 h0) (on_9_1 (on_10_1 h0)) S r_3 q_4) (on_10_8 h0) (by decide) rfl rfl (Nat.le_of_ble_eq_true rfl) ?_
      refine g_aload_n X dX10_days_28 0 rfl rfl ?_
      refine g_getR (f := 3) X dX10_days_29 flX10_19 rfl rfl h0 ?_
      refine g_getR (f := 15) X dX10_days_32 flX10_129 rfl rfl (on_10_1 h0) ?_
      refine g_iload_n X dX10_days_35 1 rfl rfl ?_
      obtain ⟨r_5, q_6, hF⟩ := obind hF
      refine g_callVi (As := [.int x1]) X dX10_days_36 mlX10_226 (fun l D cyy => tX2_passDays (cx_inj X) l D cyy ((a0 + 3) + 15) x1 (on_9_1 (on_10_1 h0)) r_3 r_5 q_6) (on_9_1 (on_10_1 h0)) (by decide) rfl rfl (Nat.le_of_ble_eq_true rfl) ?_
      exact g_perm [0] rfl (wX10_days_s39 X a0 x1 h0 r_5.1 r_5.2 r ho hF)
    · rw [if_neg c_2] at hF
      refine g_iconst (v := -1) X dX10_days_12 (by decide) ?_
      have hF := Option.some.inj hF
      subst hF
      exact g_iret X dX10_days_13 ho
theorem tX10_days {ad : Nat → Nat} (hI : Inj ad) (l : Launch) (D : va_G) (cyy : Nat → ClassId) (a0 : Nat) (x1 : Int32) (h0 : KT a0 = 10) (S : St) (r : (Int32 × St)) (hF : fX10_days a0 x1 S = some r) : OkM l yX10_days cX10_days 3 (some .int) 4 ad D cyy [.ref (ad a0), .int x1] S (some (.int r.1), r.2) := okM_of hI (by decide) (inr_32 _ (List.mem_of_getElem? (i := 18) rfl)) (by show _ ≤ 3; exact Nat.le_of_ble_eq_true rfl) (fun z X => wX10_days X a0 x1 h0 S r rfl hF)
def fX10_undo_s32 (a0 : Nat)   (S : St) : Option (Int32 × St) :=
  if ((gI S 10 11 a0) < 0 ∨ 8 ≤ (gI S 10 11 a0).toNatClampNeg) then none else
  if ¬ KT (gQ S (a0 + 105) ((gI S 10 11 a0).toNatClampNeg)) = 2 then none else
  (fX2_copyFrom ((a0 + 3) + 15) (gQ S (a0 + 105) ((gI S 10 11 a0).toNatClampNeg)) S).bind fun r_5 =>
  some ((gI r_5 10 11 a0), r_5)
def fX10_undo (a0 : Nat) (S : St) : Option (Int32 × St) :=
  if (gI S 10 11 a0) < (1 : Int32) then (some ((-1 : Int32), S)) else
  (if (gI S 10 11 a0) ≤ (8 : Int32) then (fX10_undo_s32 a0 (sI S 10 11 a0 ((gI S 10 11 a0) - (1 : Int32)))) else
  (some ((-1 : Int32), S)))
theorem wX10_undo_s32 {z : Mx} {ad : Nat → Nat} {o : Option Value × St} (X : CxOk z ad RX10 cX10_undo 1 (some .int) 2) (a0 : Nat) (h0 : KT a0 = 10)     (S : St) (r : (Int32 × St)) (ho : o = (some (.int r.1), r.2)) (hF : fX10_undo_s32 a0   S = some r) : GW z ad o S 32 [(0, .ref (ad a0))] [] := by
  unfold fX10_undo_s32 at hF
  refine g_aload_n X dX10_undo_32 0 rfl rfl ?_
  refine g_getR (f := 3) X dX10_undo_33 flX10_19 rfl rfl h0 ?_
  refine g_getR (f := 15) X dX10_undo_36 flX10_129 rfl rfl (on_10_1 h0) ?_
  refine g_aload_n X dX10_undo_39 0 rfl rfl ?_
  refine g_getR (f := 105) X dX10_undo_40 flX10_72 rfl rfl h0 ?_
  refine g_aload_n X dX10_undo_43 0 rfl rfl ?_
  refine g_getI X dX10_undo_44 flX10_113 rfl h0 ?_
  obtain ⟨e_3, hF⟩ := oguard hF
  refine g_aaldQ X dX10_undo_47 (on_10_10 h0) rfl e_3 ?_
  obtain ⟨e_4, hF⟩ := oguardN hF
  obtain ⟨r_5, q_6, hF⟩ := obind hF
  refine g_callVv (As := [.ref (ad (gQ S (a0 + 105) ((gI S 10 11 a0).toNatClampNeg)))]) X dX10_undo_48 mlX10_212 (fun l D cyy => tX2_copyFrom (cx_inj X) l D cyy ((a0 + 3) + 15) (gQ S (a0 + 105) ((gI S 10 11 a0).toNatClampNeg)) (on_9_1 (on_10_1 h0)) e_4 S r_5 q_6) (on_9_1 (on_10_1 h0)) (by decide) rfl rfl (Nat.le_of_ble_eq_true rfl) ?_
  refine g_aload_n X dX10_undo_51 0 rfl rfl ?_
  refine g_getI X dX10_undo_52 flX10_113 rfl h0 ?_
  have hF := Option.some.inj hF
  subst hF
  exact g_iret X dX10_undo_55 ho
theorem wX10_undo {z : Mx} {ad : Nat → Nat} {o : Option Value × St} (X : CxOk z ad RX10 cX10_undo 1 (some .int) 2) (a0 : Nat) (h0 : KT a0 = 10) (S : St) (r : (Int32 × St)) (ho : o = (some (.int r.1), r.2)) (hF : fX10_undo a0 S = some r) : GW z ad o S 0 [(0, .ref (ad a0))] [] := by
  unfold fX10_undo at hF
  refine g_aload_n X dX10_undo_0 0 rfl rfl ?_
  refine g_getI X dX10_undo_1 flX10_113 rfl h0 ?_
  refine g_iconst (v := 1) X dX10_undo_4 (by decide) ?_
  refine g_icmp_lt (tgt := 20) X dX10_undo_5 (by decide) (fun c_1 => ?_) (fun c_1 => ?_)
  · rw [if_pos c_1] at hF
    refine g_iconst (v := -1) X dX10_undo_20 (by decide) ?_
    have hF := Option.some.inj hF
    subst hF
    exact g_iret X dX10_undo_21 ho
  · rw [if_neg c_1] at hF
    refine g_aload_n X dX10_undo_8 0 rfl rfl ?_
    refine g_getI X dX10_undo_9 flX10_113 rfl h0 ?_
    refine g_aload_n X dX10_undo_12 0 rfl rfl ?_
    refine g_getR (f := 105) X dX10_undo_13 flX10_72 rfl rfl h0 ?_
    refine g_alen (v := 8) X dX10_undo_16 kd_25 (on_10_10 h0) (by decide) ?_
    refine g_icmp_le (tgt := 22) X dX10_undo_17 (by decide) (fun c_2 => ?_) (fun c_2 => ?_)
    · rw [if_pos c_2] at hF
      refine g_aload_n X dX10_undo_22 0 rfl rfl ?_
      refine g_dup (a := .ref (ad a0)) X dX10_undo_23 rfl ?_
      refine g_getI X dX10_undo_24 flX10_113 rfl h0 ?_
      refine g_iconst (v := 1) X dX10_undo_27 (by decide) ?_
      refine g_isub X dX10_undo_28 ?_
      refine g_putI X dX10_undo_29 fpX10_113 rfl rfl rfl h0 ?_
      exact (wX10_undo_s32 X a0 h0 (sI S 10 11 a0 ((gI S 10 11 a0) - (1 : Int32))) r ho hF)
    · rw [if_neg c_2] at hF
      refine g_iconst (v := -1) X dX10_undo_20 (by decide) ?_
      have hF := Option.some.inj hF
      subst hF
      exact g_iret X dX10_undo_21 ho
theorem tX10_undo {ad : Nat → Nat} (hI : Inj ad) (l : Launch) (D : va_G) (cyy : Nat → ClassId) (a0 : Nat) (h0 : KT a0 = 10) (S : St) (r : (Int32 × St)) (hF : fX10_undo a0 S = some r) : OkM l yX10_undo cX10_undo 1 (some .int) 2 ad D cyy [.ref (ad a0)] S (some (.int r.1), r.2) := okM_of hI (by decide) (inr_33 _ (List.mem_of_getElem? (i := 19) rfl)) (by show _ ≤ 1; exact Nat.le_of_ble_eq_true rfl) (fun z X => wX10_undo X a0 h0 S r rfl hF)
def fX10_next (a0 : Nat) (x1 : Int32) (S : St) : Option Int32 :=
  if (fX8_hasFeast ((a0 + 3) + 1) x1 S) = 0 then (some (-1 : Int32)) else
  ((fX9_nextFrom (a0 + 3) x1 (0 : Int32) S).bind fun r_2 =>
  some r_2)
theorem wX10_next {z : Mx} {ad : Nat → Nat} {o : Option Value × St} (X : CxOk z ad RX10 cX10_next 2 (some .int) 5) (a0 : Nat) (x1 : Int32) (h0 : KT a0 = 10) (S : St) (r : Int32) (ho : o = (some (.int r), S)) (hF : fX10_next a0 x1 S = some r) : GW z ad o S 0 [(0, .ref (ad a0)), (1, .int x1)] [] := by
  unfold fX10_next at hF
  refine g_aload_n X dX10_next_0 0 rfl rfl ?_
  refine g_getR (f := 3) X dX10_next_1 flX10_19 rfl rfl h0 ?_
  refine g_getR (f := 1) X dX10_next_4 flX10_116 rfl rfl (on_10_1 h0) ?_
  refine g_iload_n X dX10_next_7 1 rfl rfl ?_
  refine g_callVi (As := [.int x1]) X dX10_next_8 mlX10_169 (fun l D cyy => tX8_hasFeast (cx_inj X) l D cyy ((a0 + 3) + 1) x1 (on_9_0 (on_10_1 h0)) S) (on_9_0 (on_10_1 h0)) (by decide) rfl rfl (Nat.le_of_ble_eq_true rfl) ?_
  refine g_if_eq (tgt := 26) X dX10_next_11 (by decide) (fun c_1 => ?_) (fun c_1 => ?_)
  · rw [if_pos c_1] at hF
    refine g_iconst (v := -1) X dX10_next_26 (by decide) ?_
    have hF := Option.some.inj hF
    subst hF
    exact g_iret X dX10_next_27 ho
  · rw [if_neg c_1] at hF
    refine g_aload_n X dX10_next_14 0 rfl rfl ?_
    refine g_getR (f := 3) X dX10_next_15 flX10_19 rfl rfl h0 ?_
    refine g_iload_n X dX10_next_18 1 rfl rfl ?_
    refine g_iconst (v := 0) X dX10_next_19 (by decide) ?_
    obtain ⟨r_2, q_3, hF⟩ := obind hF
    refine g_callVi (As := [.int x1, .int (0 : Int32)]) X dX10_next_20 mlX10_229 (fun l D cyy => tX9_nextFrom (cx_inj X) l D cyy (a0 + 3) x1 (0 : Int32) (on_10_1 h0) S r_2 q_3) (on_10_1 h0) (by decide) rfl rfl (Nat.le_of_ble_eq_true rfl) ?_
    refine g_goto (tgt := 27) X dX10_next_23 (by decide) ?_
    have hF := Option.some.inj hF
    subst hF
    exact g_iret X dX10_next_27 ho
theorem tX10_next {ad : Nat → Nat} (hI : Inj ad) (l : Launch) (D : va_G) (cyy : Nat → ClassId) (a0 : Nat) (x1 : Int32) (h0 : KT a0 = 10) (S : St) (r : Int32) (hF : fX10_next a0 x1 S = some r) : OkM l yX10_next cX10_next 2 (some .int) 5 ad D cyy [.ref (ad a0), .int x1] S (some (.int r), S) := okM_of hI (by decide) (inr_34 _ (List.mem_of_getElem? (i := 3) rfl)) (by show _ ≤ 2; exact Nat.le_of_ble_eq_true rfl) (fun z X => wX10_next X a0 x1 h0 S r rfl hF)
def fX10_falls (a0 : Nat) (x1 : Int32) (x2 : Int32) (S : St) : Option Int32 :=
  if (fX8_hasFeast ((a0 + 3) + 1) x1 S) = 0 then (some (-1 : Int32)) else
  (if x2 < 0 then (some (-1 : Int32)) else
  (if (9999 : Int32) < x2 then (some (-1 : Int32)) else
  ((fX0_countFalls (a0 + 93) (a0 + 3) x1 x2 S).bind fun r_4 =>
  some r_4)))
theorem wX10_falls {z : Mx} {ad : Nat → Nat} {o : Option Value × St} (X : CxOk z ad RX10 cX10_falls 3 (some .int) 6) (a0 : Nat) (x1 : Int32) (x2 : Int32) (h0 : KT a0 = 10) (S : St) (r : Int32) (ho : o = (some (.int r), S)) (hF : fX10_falls a0 x1 x2 S = some r) : GW z ad o S 0 [(0, .ref (ad a0)), (1, .int x1), (2, .int x2)] [] := by
  unfold fX10_falls at hF
  refine g_aload_n X dX10_falls_0 0 rfl rfl ?_
  refine g_getR (f := 3) X dX10_falls_1 flX10_19 rfl rfl h0 ?_
  refine g_getR (f := 1) X dX10_falls_4 flX10_116 rfl rfl (on_10_1 h0) ?_
  refine g_iload_n X dX10_falls_7 1 rfl rfl ?_
  refine g_callVi (As := [.int x1]) X dX10_falls_8 mlX10_169 (fun l D cyy => tX8_hasFeast (cx_inj X) l D cyy ((a0 + 3) + 1) x1 (on_9_0 (on_10_1 h0)) S) (on_9_0 (on_10_1 h0)) (by decide) rfl rfl (Nat.le_of_ble_eq_true rfl) ?_
  refine g_if_eq (tgt := 41) X dX10_falls_11 (by decide) (fun c_1 => ?_) (fun c_1 => ?_)
  · rw [if_pos c_1] at hF
    refine g_iconst (v := -1) X dX10_falls_41 (by decide) ?_
    have hF := Option.some.inj hF
    subst hF
    exact g_iret X dX10_falls_42 ho
  · rw [if_neg c_1] at hF
    refine g_iload_n X dX10_falls_14 2 rfl rfl ?_
    refine g_if_lt (tgt := 41) X dX10_falls_15 (by decide) (fun c_2 => ?_) (fun c_2 => ?_)
    · rw [if_pos c_2] at hF
      refine g_iconst (v := -1) X dX10_falls_41 (by decide) ?_
      have hF := Option.some.inj hF
      subst hF
      exact g_iret X dX10_falls_42 ho
    · rw [if_neg c_2] at hF
      refine g_iload_n X dX10_falls_18 2 rfl rfl ?_
      refine g_sipush (v := 9999) X dX10_falls_19 (by decide) ?_
      refine g_icmp_gt (tgt := 41) X dX10_falls_22 (by decide) (fun c_3 => ?_) (fun c_3 => ?_)
      · rw [if_pos c_3] at hF
        refine g_iconst (v := -1) X dX10_falls_41 (by decide) ?_
        have hF := Option.some.inj hF
        subst hF
        exact g_iret X dX10_falls_42 ho
      · rw [if_neg c_3] at hF
        refine g_aload_n X dX10_falls_25 0 rfl rfl ?_
        refine g_getR (f := 93) X dX10_falls_26 flX10_47 rfl rfl h0 ?_
        refine g_aload_n X dX10_falls_29 0 rfl rfl ?_
        refine g_getR (f := 3) X dX10_falls_30 flX10_19 rfl rfl h0 ?_
        refine g_iload_n X dX10_falls_33 1 rfl rfl ?_
        refine g_iload_n X dX10_falls_34 2 rfl rfl ?_
        obtain ⟨r_4, q_5, hF⟩ := obind hF
        refine g_callVi (As := [.ref (ad (a0 + 3)), .int x1, .int x2]) X dX10_falls_35 mlX10_232 (fun l D cyy => tX0_countFalls (cx_inj X) l D cyy (a0 + 93) (a0 + 3) x1 x2 (on_10_5 h0) (on_10_1 h0) S r_4 q_5) (on_10_5 h0) (by decide) rfl rfl (Nat.le_of_ble_eq_true rfl) ?_
        refine g_goto (tgt := 42) X dX10_falls_38 (by decide) ?_
        have hF := Option.some.inj hF
        subst hF
        exact g_iret X dX10_falls_42 ho
theorem tX10_falls {ad : Nat → Nat} (hI : Inj ad) (l : Launch) (D : va_G) (cyy : Nat → ClassId) (a0 : Nat) (x1 : Int32) (x2 : Int32) (h0 : KT a0 = 10) (S : St) (r : Int32) (hF : fX10_falls a0 x1 x2 S = some r) : OkM l yX10_falls cX10_falls 3 (some .int) 6 ad D cyy [.ref (ad a0), .int x1, .int x2] S (some (.int r), S) := okM_of hI (by decide) (inr_34 _ (List.mem_of_getElem? (i := 20) rfl)) (by show _ ≤ 3; exact Nat.le_of_ble_eq_true rfl) (fun z X => wX10_falls X a0 x1 x2 h0 S r rfl hF)
def fX10_meet (a0 : Nat) (x1 : Int32) (x2 : Int32) (S : St) : Option Int32 :=
  if (fX8_hasFeast ((a0 + 3) + 1) x1 S) = 0 then (some (-1 : Int32)) else
  (if (fX8_hasFeast ((a0 + 3) + 1) x2 S) = 0 then (some (-1 : Int32)) else
  ((fX0_findMeeting (a0 + 93) (a0 + 3) x1 x2 S).bind fun r_3 =>
  some r_3))
theorem wX10_meet {z : Mx} {ad : Nat → Nat} {o : Option Value × St} (X : CxOk z ad RX10 cX10_meet 3 (some .int) 6) (a0 : Nat) (x1 : Int32) (x2 : Int32) (h0 : KT a0 = 10) (S : St) (r : Int32) (ho : o = (some (.int r), S)) (hF : fX10_meet a0 x1 x2 S = some r) : GW z ad o S 0 [(0, .ref (ad a0)), (1, .int x1), (2, .int x2)] [] := by
  unfold fX10_meet at hF
  refine g_aload_n X dX10_meet_0 0 rfl rfl ?_
  refine g_getR (f := 3) X dX10_meet_1 flX10_19 rfl rfl h0 ?_
  refine g_getR (f := 1) X dX10_meet_4 flX10_116 rfl rfl (on_10_1 h0) ?_
  refine g_iload_n X dX10_meet_7 1 rfl rfl ?_
  refine g_callVi (As := [.int x1]) X dX10_meet_8 mlX10_169 (fun l D cyy => tX8_hasFeast (cx_inj X) l D cyy ((a0 + 3) + 1) x1 (on_9_0 (on_10_1 h0)) S) (on_9_0 (on_10_1 h0)) (by decide) rfl rfl (Nat.le_of_ble_eq_true rfl) ?_
  refine g_if_eq (tgt := 44) X dX10_meet_11 (by decide) (fun c_1 => ?_) (fun c_1 => ?_)
  · rw [if_pos c_1] at hF
    refine g_iconst (v := -1) X dX10_meet_44 (by decide) ?_
    have hF := Option.some.inj hF
    subst hF
    exact g_iret X dX10_meet_45 ho
  · rw [if_neg c_1] at hF
    refine g_aload_n X dX10_meet_14 0 rfl rfl ?_
    refine g_getR (f := 3) X dX10_meet_15 flX10_19 rfl rfl h0 ?_
    refine g_getR (f := 1) X dX10_meet_18 flX10_116 rfl rfl (on_10_1 h0) ?_
    refine g_iload_n X dX10_meet_21 2 rfl rfl ?_
    refine g_callVi (As := [.int x2]) X dX10_meet_22 mlX10_169 (fun l D cyy => tX8_hasFeast (cx_inj X) l D cyy ((a0 + 3) + 1) x2 (on_9_0 (on_10_1 h0)) S) (on_9_0 (on_10_1 h0)) (by decide) rfl rfl (Nat.le_of_ble_eq_true rfl) ?_
    refine g_if_eq (tgt := 44) X dX10_meet_25 (by decide) (fun c_2 => ?_) (fun c_2 => ?_)
    · rw [if_pos c_2] at hF
      refine g_iconst (v := -1) X dX10_meet_44 (by decide) ?_
      have hF := Option.some.inj hF
      subst hF
      exact g_iret X dX10_meet_45 ho
    · rw [if_neg c_2] at hF
      refine g_aload_n X dX10_meet_28 0 rfl rfl ?_
      refine g_getR (f := 93) X dX10_meet_29 flX10_47 rfl rfl h0 ?_
      refine g_aload_n X dX10_meet_32 0 rfl rfl ?_
      refine g_getR (f := 3) X dX10_meet_33 flX10_19 rfl rfl h0 ?_
      refine g_iload_n X dX10_meet_36 1 rfl rfl ?_
      refine g_iload_n X dX10_meet_37 2 rfl rfl ?_
      obtain ⟨r_3, q_4, hF⟩ := obind hF
      refine g_callVi (As := [.ref (ad (a0 + 3)), .int x1, .int x2]) X dX10_meet_38 mlX10_236 (fun l D cyy => tX0_findMeeting (cx_inj X) l D cyy (a0 + 93) (a0 + 3) x1 x2 (on_10_5 h0) (on_10_1 h0) S r_3 q_4) (on_10_5 h0) (by decide) rfl rfl (Nat.le_of_ble_eq_true rfl) ?_
      refine g_goto (tgt := 45) X dX10_meet_41 (by decide) ?_
      have hF := Option.some.inj hF
      subst hF
      exact g_iret X dX10_meet_45 ho
theorem tX10_meet {ad : Nat → Nat} (hI : Inj ad) (l : Launch) (D : va_G) (cyy : Nat → ClassId) (a0 : Nat) (x1 : Int32) (x2 : Int32) (h0 : KT a0 = 10) (S : St) (r : Int32) (hF : fX10_meet a0 x1 x2 S = some r) : OkM l yX10_meet cX10_meet 3 (some .int) 6 ad D cyy [.ref (ad a0), .int x1, .int x2] S (some (.int r), S) := okM_of hI (by decide) (inr_36 _ (List.mem_of_getElem? (i := 0) rfl)) (by show _ ≤ 3; exact Nat.le_of_ble_eq_true rfl) (fun z X => wX10_meet X a0 x1 x2 h0 S r rfl hF)
def fX10_fair (a0 : Nat) (x1 : Int32) (S : St) : Option Int32 :=
  if x1 ≤ 0 then (some (-1 : Int32)) else
  (if ((1 : Int32) <<< ((gI S 8 2 ((a0 + 3) + 1)) &&& 31)) ≤ x1 then (some (-1 : Int32)) else
  ((fX0_findFair (a0 + 93) (a0 + 3) x1 S).bind fun r_3 =>
  some r_3))
theorem wX10_fair {z : Mx} {ad : Nat → Nat} {o : Option Value × St} (X : CxOk z ad RX10 cX10_fair 2 (some .int) 5) (a0 : Nat) (x1 : Int32) (h0 : KT a0 = 10) (S : St) (r : Int32) (ho : o = (some (.int r), S)) (hF : fX10_fair a0 x1 S = some r) : GW z ad o S 0 [(0, .ref (ad a0)), (1, .int x1)] [] := by
  unfold fX10_fair at hF
  refine g_iload_n X dX10_fair_0 1 rfl rfl ?_
  refine g_if_le (tgt := 35) X dX10_fair_1 (by decide) (fun c_1 => ?_) (fun c_1 => ?_)
  · rw [if_pos c_1] at hF
    refine g_iconst (v := -1) X dX10_fair_35 (by decide) ?_
    have hF := Option.some.inj hF
    subst hF
    exact g_iret X dX10_fair_36 ho
  · rw [if_neg c_1] at hF
    refine g_iload_n X dX10_fair_4 1 rfl rfl ?_
    refine g_iconst (v := 1) X dX10_fair_5 (by decide) ?_
    refine g_aload_n X dX10_fair_6 0 rfl rfl ?_
    refine g_getR (f := 3) X dX10_fair_7 flX10_19 rfl rfl h0 ?_
    refine g_getR (f := 1) X dX10_fair_10 flX10_116 rfl rfl (on_10_1 h0) ?_
    refine g_getI X dX10_fair_13 flX10_239 rfl (on_9_0 (on_10_1 h0)) ?_
    refine g_ishl X dX10_fair_16 ?_
    refine g_icmp_ge (tgt := 35) X dX10_fair_17 (by decide) (fun c_2 => ?_) (fun c_2 => ?_)
    · rw [if_pos c_2] at hF
      refine g_iconst (v := -1) X dX10_fair_35 (by decide) ?_
      have hF := Option.some.inj hF
      subst hF
      exact g_iret X dX10_fair_36 ho
    · rw [if_neg c_2] at hF
      refine g_aload_n X dX10_fair_20 0 rfl rfl ?_
      refine g_getR (f := 93) X dX10_fair_21 flX10_47 rfl rfl h0 ?_
      refine g_aload_n X dX10_fair_24 0 rfl rfl ?_
      refine g_getR (f := 3) X dX10_fair_25 flX10_19 rfl rfl h0 ?_
      refine g_iload_n X dX10_fair_28 1 rfl rfl ?_
      obtain ⟨r_3, q_4, hF⟩ := obind hF
      refine g_callVi (As := [.ref (ad (a0 + 3)), .int x1]) X dX10_fair_29 mlX10_242 (fun l D cyy => tX0_findFair (cx_inj X) l D cyy (a0 + 93) (a0 + 3) x1 (on_10_5 h0) (on_10_1 h0) S r_3 q_4) (on_10_5 h0) (by decide) rfl rfl (Nat.le_of_ble_eq_true rfl) ?_
      refine g_goto (tgt := 36) X dX10_fair_32 (by decide) ?_
      have hF := Option.some.inj hF
      subst hF
      exact g_iret X dX10_fair_36 ho
theorem tX10_fair {ad : Nat → Nat} (hI : Inj ad) (l : Launch) (D : va_G) (cyy : Nat → ClassId) (a0 : Nat) (x1 : Int32) (h0 : KT a0 = 10) (S : St) (r : Int32) (hF : fX10_fair a0 x1 S = some r) : OkM l yX10_fair cX10_fair 2 (some .int) 5 ad D cyy [.ref (ad a0), .int x1] S (some (.int r), S) := okM_of hI (by decide) (inr_36 _ (List.mem_of_getElem? (i := 14) rfl)) (by show _ ≤ 2; exact Nat.le_of_ble_eq_true rfl) (fun z X => wX10_fair X a0 x1 h0 S r rfl hF)
def fX10_tune_s41 (a0 : Nat) (x1 : Int32) (x2 : Int32)  (t0 : Int32) (S : St) : Option (Int32 × St) :=
  some (t0, S)
def fX10_tune (a0 : Nat) (x1 : Int32) (x2 : Int32) (S : St) : Option (Int32 × St) :=
  if (fX8_hasParish ((a0 + 3) + 1) x1 S) = 0 then (some ((-1 : Int32), S)) else
  (if x2 < (1 : Int32) then (some ((-1 : Int32), S)) else
  (if (30 : Int32) < x2 then (some ((-1 : Int32), S)) else
  ((fX0_findTune (a0 + 93) ((a0 + 3) + 1) x1 x2 S).bind fun r_4 =>
  fX10_tune_s41 a0 x1 x2 r_4.1 r_4.2)))
theorem wX10_tune_s41 {z : Mx} {ad : Nat → Nat} {o : Option Value × St} (X : CxOk z ad RX10 cX10_tune 3 (some .int) 3) (a0 : Nat) (x1 : Int32) (x2 : Int32) (h0 : KT a0 = 10)  (t0 : Int32)   (S : St) (r : (Int32 × St)) (ho : o = (some (.int r.1), r.2)) (hF : fX10_tune_s41 a0 x1 x2  t0 S = some r) : GW z ad o S 41 [] [.int t0] := by
  unfold fX10_tune_s41 at hF
  refine g_goto (tgt := 45) X dX10_tune_41 (by decide) ?_
  have hF := Option.some.inj hF
  subst hF
  exact g_iret X dX10_tune_45 ho
theorem wX10_tune {z : Mx} {ad : Nat → Nat} {o : Option Value × St} (X : CxOk z ad RX10 cX10_tune 3 (some .int) 3) (a0 : Nat) (x1 : Int32) (x2 : Int32) (h0 : KT a0 = 10) (S : St) (r : (Int32 × St)) (ho : o = (some (.int r.1), r.2)) (hF : fX10_tune a0 x1 x2 S = some r) : GW z ad o S 0 [(0, .ref (ad a0)), (1, .int x1), (2, .int x2)] [] := by
  unfold fX10_tune at hF
  refine g_aload_n X dX10_tune_0 0 rfl rfl ?_
  refine g_getR (f := 3) X dX10_tune_1 flX10_19 rfl rfl h0 ?_
  refine g_getR (f := 1) X dX10_tune_4 flX10_116 rfl rfl (on_10_1 h0) ?_
  refine g_iload_n X dX10_tune_7 1 rfl rfl ?_
  refine g_callVi (As := [.int x1]) X dX10_tune_8 mlX10_119 (fun l D cyy => tX8_hasParish (cx_inj X) l D cyy ((a0 + 3) + 1) x1 (on_9_0 (on_10_1 h0)) S) (on_9_0 (on_10_1 h0)) (by decide) rfl rfl (Nat.le_of_ble_eq_true rfl) ?_
  refine g_if_eq (tgt := 44) X dX10_tune_11 (by decide) (fun c_1 => ?_) (fun c_1 => ?_)
  · rw [if_pos c_1] at hF
    refine g_iconst (v := -1) X dX10_tune_44 (by decide) ?_
    have hF := Option.some.inj hF
    subst hF
    exact g_iret X dX10_tune_45 ho
  · rw [if_neg c_1] at hF
    refine g_iload_n X dX10_tune_14 2 rfl rfl ?_
    refine g_iconst (v := 1) X dX10_tune_15 (by decide) ?_
    refine g_icmp_lt (tgt := 44) X dX10_tune_16 (by decide) (fun c_2 => ?_) (fun c_2 => ?_)
    · rw [if_pos c_2] at hF
      refine g_iconst (v := -1) X dX10_tune_44 (by decide) ?_
      have hF := Option.some.inj hF
      subst hF
      exact g_iret X dX10_tune_45 ho
    · rw [if_neg c_2] at hF
      refine g_iload_n X dX10_tune_19 2 rfl rfl ?_
      refine g_bipush (v := 30) X dX10_tune_20 (by decide) ?_
      refine g_icmp_gt (tgt := 44) X dX10_tune_22 (by decide) (fun c_3 => ?_) (fun c_3 => ?_)
      · rw [if_pos c_3] at hF
        refine g_iconst (v := -1) X dX10_tune_44 (by decide) ?_
        have hF := Option.some.inj hF
        subst hF
        exact g_iret X dX10_tune_45 ho
      · rw [if_neg c_3] at hF
        refine g_aload_n X dX10_tune_25 0 rfl rfl ?_
        refine g_getR (f := 93) X dX10_tune_26 flX10_47 rfl rfl h0 ?_
        refine g_aload_n X dX10_tune_29 0 rfl rfl ?_
        refine g_getR (f := 3) X dX10_tune_30 flX10_19 rfl rfl h0 ?_
        refine g_getR (f := 1) X dX10_tune_33 flX10_116 rfl rfl (on_10_1 h0) ?_
        refine g_iload_n X dX10_tune_36 1 rfl rfl ?_
        refine g_iload_n X dX10_tune_37 2 rfl rfl ?_
        obtain ⟨r_4, q_5, hF⟩ := obind hF
        refine g_callVi (As := [.ref (ad ((a0 + 3) + 1)), .int x1, .int x2]) X dX10_tune_38 mlX10_250 (fun l D cyy => tX0_findTune (cx_inj X) l D cyy (a0 + 93) ((a0 + 3) + 1) x1 x2 (on_10_5 h0) (on_9_0 (on_10_1 h0)) S r_4 q_5) (on_10_5 h0) (by decide) rfl rfl (Nat.le_of_ble_eq_true rfl) ?_
        exact g_perm [] rfl (wX10_tune_s41 X a0 x1 x2 h0 r_4.1 r_4.2 r ho hF)
theorem tX10_tune {ad : Nat → Nat} (hI : Inj ad) (l : Launch) (D : va_G) (cyy : Nat → ClassId) (a0 : Nat) (x1 : Int32) (x2 : Int32) (h0 : KT a0 = 10) (S : St) (r : (Int32 × St)) (hF : fX10_tune a0 x1 x2 S = some r) : OkM l yX10_tune cX10_tune 3 (some .int) 3 ad D cyy [.ref (ad a0), .int x1, .int x2] S (some (.int r.1), r.2) := okM_of hI (by decide) (inr_38 _ (List.mem_of_getElem? (i := 13) rfl)) (by show _ ≤ 3; exact Nat.le_of_ble_eq_true rfl) (fun z X => wX10_tune X a0 x1 x2 h0 S r rfl hF)
def fX10_tuned (a0 : Nat) (S : St) : Int32 :=
  (gI S 0 0 (a0 + 93))
theorem wX10_tuned {z : Mx} {ad : Nat → Nat} {o : Option Value × St} (X : CxOk z ad RX10 cX10_tuned 1 (some .int) 1) (a0 : Nat) (h0 : KT a0 = 10) (S : St) (r : Int32) (ho : o = (some (.int r), S)) (hF : fX10_tuned a0 S = r) : GW z ad o S 0 [(0, .ref (ad a0))] [] := by
  unfold fX10_tuned at hF
  refine g_aload_n X dX10_tuned_0 0 rfl rfl ?_
  refine g_getR (f := 93) X dX10_tuned_1 flX10_47 rfl rfl h0 ?_
  refine g_getI X dX10_tuned_4 flX10_253 rfl (on_10_5 h0) ?_
  subst hF
  exact g_iret X dX10_tuned_7 ho
theorem tX10_tuned {ad : Nat → Nat} (hI : Inj ad) (l : Launch) (D : va_G) (cyy : Nat → ClassId) (a0 : Nat) (h0 : KT a0 = 10) (S : St) : OkM l yX10_tuned cX10_tuned 1 (some .int) 1 ad D cyy [.ref (ad a0)] S (some (.int (fX10_tuned a0 S)), S) := okM_of hI (by decide) (inr_39 _ (List.mem_of_getElem? (i := 4) rfl)) (by show _ ≤ 1; exact Nat.le_of_ble_eq_true rfl) (fun z X => wX10_tuned X a0 h0 S _ rfl rfl)
def fX10_hasBoth (a0 : Nat) (x1 : Int32) (x2 : Int32) (S : St) : Int32 :=
  if (fX8_hasParish ((a0 + 3) + 1) x1 S) = 0 then ((0 : Int32)) else
  (if (fX8_hasParish ((a0 + 3) + 1) x2 S) = 0 then ((0 : Int32)) else
  ((1 : Int32)))
theorem wX10_hasBoth {z : Mx} {ad : Nat → Nat} {o : Option Value × St} (X : CxOk z ad RX10 cX10_hasBoth 3 (some .boolean) 2) (a0 : Nat) (x1 : Int32) (x2 : Int32) (h0 : KT a0 = 10) (S : St) (r : Int32) (ho : o = (some (.int r), S)) (hF : fX10_hasBoth a0 x1 x2 S = r) : GW z ad o S 0 [(0, .ref (ad a0)), (1, .int x1), (2, .int x2)] [] := by
  unfold fX10_hasBoth at hF
  refine g_aload_n X dX10_hasBoth_0 0 rfl rfl ?_
  refine g_getR (f := 3) X dX10_hasBoth_1 flX10_19 rfl rfl h0 ?_
  refine g_getR (f := 1) X dX10_hasBoth_4 flX10_116 rfl rfl (on_10_1 h0) ?_
  refine g_iload_n X dX10_hasBoth_7 1 rfl rfl ?_
  refine g_callVi (As := [.int x1]) X dX10_hasBoth_8 mlX10_119 (fun l D cyy => tX8_hasParish (cx_inj X) l D cyy ((a0 + 3) + 1) x1 (on_9_0 (on_10_1 h0)) S) (on_9_0 (on_10_1 h0)) (by decide) rfl rfl (Nat.le_of_ble_eq_true rfl) ?_
  refine g_if_eq (tgt := 32) X dX10_hasBoth_11 (by decide) (fun c_1 => ?_) (fun c_1 => ?_)
  · rw [if_pos c_1] at hF
    refine g_iconst (v := 0) X dX10_hasBoth_32 (by decide) ?_
    subst hF
    exact g_zret X dX10_hasBoth_33 (by decide) ho
  · rw [if_neg c_1] at hF
    refine g_aload_n X dX10_hasBoth_14 0 rfl rfl ?_
    refine g_getR (f := 3) X dX10_hasBoth_15 flX10_19 rfl rfl h0 ?_
    refine g_getR (f := 1) X dX10_hasBoth_18 flX10_116 rfl rfl (on_10_1 h0) ?_
    refine g_iload_n X dX10_hasBoth_21 2 rfl rfl ?_
    refine g_callVi (As := [.int x2]) X dX10_hasBoth_22 mlX10_119 (fun l D cyy => tX8_hasParish (cx_inj X) l D cyy ((a0 + 3) + 1) x2 (on_9_0 (on_10_1 h0)) S) (on_9_0 (on_10_1 h0)) (by decide) rfl rfl (Nat.le_of_ble_eq_true rfl) ?_
    refine g_if_eq (tgt := 32) X dX10_hasBoth_25 (by decide) (fun c_2 => ?_) (fun c_2 => ?_)
    · rw [if_pos c_2] at hF
      refine g_iconst (v := 0) X dX10_hasBoth_32 (by decide) ?_
      subst hF
      exact g_zret X dX10_hasBoth_33 (by decide) ho
    · rw [if_neg c_2] at hF
      refine g_iconst (v := 1) X dX10_hasBoth_28 (by decide) ?_
      refine g_goto (tgt := 33) X dX10_hasBoth_29 (by decide) ?_
      subst hF
      exact g_zret X dX10_hasBoth_33 (by decide) ho
theorem tX10_hasBoth {ad : Nat → Nat} (hI : Inj ad) (l : Launch) (D : va_G) (cyy : Nat → ClassId) (a0 : Nat) (x1 : Int32) (x2 : Int32) (h0 : KT a0 = 10) (S : St) : OkM l yX10_hasBoth cX10_hasBoth 3 (some .boolean) 2 ad D cyy [.ref (ad a0), .int x1, .int x2] S (some (.int (fX10_hasBoth a0 x1 x2 S)), S) := okM_of hI (by decide) (inr_39 _ (List.mem_of_getElem? (i := 17) rfl)) (by show _ ≤ 3; exact Nat.le_of_ble_eq_true rfl) (fun z X => wX10_hasBoth X a0 x1 x2 h0 S _ rfl rfl)
def fX10_agree_s22 (a0 : Nat) (x1 : Int32) (x2 : Int32)  (t0 : Int32) (S : St) : Option (Int32 × St) :=
  some (t0, S)
def fX10_agree (a0 : Nat) (x1 : Int32) (x2 : Int32) (S : St) : Option (Int32 × St) :=
  if (fX10_hasBoth a0 x1 x2 S) = 0 then (some ((-1 : Int32), S)) else
  ((fX0_findAgreement (a0 + 93) (a0 + 3) x1 x2 S).bind fun r_2 =>
  fX10_agree_s22 a0 x1 x2 r_2.1 r_2.2)
theorem wX10_agree_s22 {z : Mx} {ad : Nat → Nat} {o : Option Value × St} (X : CxOk z ad RX10 cX10_agree 3 (some .int) 6) (a0 : Nat) (x1 : Int32) (x2 : Int32) (h0 : KT a0 = 10)  (t0 : Int32)   (S : St) (r : (Int32 × St)) (ho : o = (some (.int r.1), r.2)) (hF : fX10_agree_s22 a0 x1 x2  t0 S = some r) : GW z ad o S 22 [] [.int t0] := by
  unfold fX10_agree_s22 at hF
  refine g_goto (tgt := 26) X dX10_agree_22 (by decide) ?_
  have hF := Option.some.inj hF
  subst hF
  exact g_iret X dX10_agree_26 ho
theorem wX10_agree {z : Mx} {ad : Nat → Nat} {o : Option Value × St} (X : CxOk z ad RX10 cX10_agree 3 (some .int) 6) (a0 : Nat) (x1 : Int32) (x2 : Int32) (h0 : KT a0 = 10) (S : St) (r : (Int32 × St)) (ho : o = (some (.int r.1), r.2)) (hF : fX10_agree a0 x1 x2 S = some r) : GW z ad o S 0 [(0, .ref (ad a0)), (1, .int x1), (2, .int x2)] [] := by
  unfold fX10_agree at hF
  refine g_aload_n X dX10_agree_0 0 rfl rfl ?_
  refine g_iload_n X dX10_agree_1 1 rfl rfl ?_
  refine g_iload_n X dX10_agree_2 2 rfl rfl ?_
  refine g_callVi (As := [.int x1, .int x2]) X dX10_agree_3 mlX10_256 (fun l D cyy => tX10_hasBoth (cx_inj X) l D cyy a0 x1 x2 h0 S) h0 (by decide) rfl rfl (Nat.le_of_ble_eq_true rfl) ?_
  refine g_if_eq (tgt := 25) X dX10_agree_6 (by decide) (fun c_1 => ?_) (fun c_1 => ?_)
  · rw [if_pos c_1] at hF
    refine g_iconst (v := -1) X dX10_agree_25 (by decide) ?_
    have hF := Option.some.inj hF
    subst hF
    exact g_iret X dX10_agree_26 ho
  · rw [if_neg c_1] at hF
    refine g_aload_n X dX10_agree_9 0 rfl rfl ?_
    refine g_getR (f := 93) X dX10_agree_10 flX10_47 rfl rfl h0 ?_
    refine g_aload_n X dX10_agree_13 0 rfl rfl ?_
    refine g_getR (f := 3) X dX10_agree_14 flX10_19 rfl rfl h0 ?_
    refine g_iload_n X dX10_agree_17 1 rfl rfl ?_
    refine g_iload_n X dX10_agree_18 2 rfl rfl ?_
    obtain ⟨r_2, q_3, hF⟩ := obind hF
    refine g_callVi (As := [.ref (ad (a0 + 3)), .int x1, .int x2]) X dX10_agree_19 mlX10_259 (fun l D cyy => tX0_findAgreement (cx_inj X) l D cyy (a0 + 93) (a0 + 3) x1 x2 (on_10_5 h0) (on_10_1 h0) S r_2 q_3) (on_10_5 h0) (by decide) rfl rfl (Nat.le_of_ble_eq_true rfl) ?_
    exact g_perm [] rfl (wX10_agree_s22 X a0 x1 x2 h0 r_2.1 r_2.2 r ho hF)
theorem tX10_agree {ad : Nat → Nat} (hI : Inj ad) (l : Launch) (D : va_G) (cyy : Nat → ClassId) (a0 : Nat) (x1 : Int32) (x2 : Int32) (h0 : KT a0 = 10) (S : St) (r : (Int32 × St)) (hF : fX10_agree a0 x1 x2 S = some r) : OkM l yX10_agree cX10_agree 3 (some .int) 6 ad D cyy [.ref (ad a0), .int x1, .int x2] S (some (.int r.1), r.2) := okM_of hI (by decide) (inr_39 _ (List.mem_of_getElem? (i := 13) rfl)) (by show _ ≤ 3; exact Nat.le_of_ble_eq_true rfl) (fun z X => wX10_agree X a0 x1 x2 h0 S r rfl hF)
def fX10_agreeing (a0 : Nat) (S : St) : Int32 :=
  (gI S 0 1 (a0 + 93))
theorem wX10_agreeing {z : Mx} {ad : Nat → Nat} {o : Option Value × St} (X : CxOk z ad RX10 cX10_agreeing 1 (some .int) 1) (a0 : Nat) (h0 : KT a0 = 10) (S : St) (r : Int32) (ho : o = (some (.int r), S)) (hF : fX10_agreeing a0 S = r) : GW z ad o S 0 [(0, .ref (ad a0))] [] := by
  unfold fX10_agreeing at hF
  refine g_aload_n X dX10_agreeing_0 0 rfl rfl ?_
  refine g_getR (f := 93) X dX10_agreeing_1 flX10_47 rfl rfl h0 ?_
  refine g_getI X dX10_agreeing_4 flX10_262 rfl (on_10_5 h0) ?_
  subst hF
  exact g_iret X dX10_agreeing_7 ho
theorem tX10_agreeing {ad : Nat → Nat} (hI : Inj ad) (l : Launch) (D : va_G) (cyy : Nat → ClassId) (a0 : Nat) (h0 : KT a0 = 10) (S : St) : OkM l yX10_agreeing cX10_agreeing 1 (some .int) 1 ad D cyy [.ref (ad a0)] S (some (.int (fX10_agreeing a0 S)), S) := okM_of hI (by decide) (inr_40 _ (List.mem_of_getElem? (i := 15) rfl)) (by show _ ≤ 1; exact Nat.le_of_ble_eq_true rfl) (fun z X => wX10_agreeing X a0 h0 S _ rfl rfl)
def fX10_match_s34 (a0 : Nat) (x1 : Int32) (x2 : Int32) (x3 : Int32)  (t0 : Int32) (S : St) : Option (Int32 × St) :=
  some (t0, S)
def fX10_match (a0 : Nat) (x1 : Int32) (x2 : Int32) (x3 : Int32) (S : St) : Option (Int32 × St) :=
  if (fX10_hasBoth a0 x1 x2 S) = 0 then (some ((-1 : Int32), S)) else
  (if x3 < 0 then (some ((-1 : Int32), S)) else
  (if (999 : Int32) < x3 then (some ((-1 : Int32), S)) else
  ((fX0_countMatches (a0 + 93) (a0 + 3) x1 x2 x3 S).bind fun r_4 =>
  fX10_match_s34 a0 x1 x2 x3 r_4.1 r_4.2)))
theorem wX10_match_s34 {z : Mx} {ad : Nat → Nat} {o : Option Value × St} (X : CxOk z ad RX10 cX10_match 4 (some .int) 5) (a0 : Nat) (x1 : Int32) (x2 : Int32) (x3 : Int32) (h0 : KT a0 = 10)  (t0 : Int32)   (S : St) (r : (Int32 × St)) (ho : o = (some (.int r.1), r.2)) (hF : fX10_match_s34 a0 x1 x2 x3  t0 S = some r) : GW z ad o S 34 [] [.int t0] := by
  unfold fX10_match_s34 at hF
  refine g_goto (tgt := 38) X dX10_match_34 (by decide) ?_
  have hF := Option.some.inj hF
  subst hF
  exact g_iret X dX10_match_38 ho
theorem wX10_match {z : Mx} {ad : Nat → Nat} {o : Option Value × St} (X : CxOk z ad RX10 cX10_match 4 (some .int) 5) (a0 : Nat) (x1 : Int32) (x2 : Int32) (x3 : Int32) (h0 : KT a0 = 10) (S : St) (r : (Int32 × St)) (ho : o = (some (.int r.1), r.2)) (hF : fX10_match a0 x1 x2 x3 S = some r) : GW z ad o S 0 [(0, .ref (ad a0)), (1, .int x1), (2, .int x2), (3, .int x3)] [] := by
  unfold fX10_match at hF
  refine g_aload_n X dX10_match_0 0 rfl rfl ?_
  refine g_iload_n X dX10_match_1 1 rfl rfl ?_
  refine g_iload_n X dX10_match_2 2 rfl rfl ?_
  refine g_callVi (As := [.int x1, .int x2]) X dX10_match_3 mlX10_256 (fun l D cyy => tX10_hasBoth (cx_inj X) l D cyy a0 x1 x2 h0 S) h0 (by decide) rfl rfl (Nat.le_of_ble_eq_true rfl) ?_
  refine g_if_eq (tgt := 37) X dX10_match_6 (by decide) (fun c_1 => ?_) (fun c_1 => ?_)
  · rw [if_pos c_1] at hF
    refine g_iconst (v := -1) X dX10_match_37 (by decide) ?_
    have hF := Option.some.inj hF
    subst hF
    exact g_iret X dX10_match_38 ho
  · rw [if_neg c_1] at hF
    refine g_iload_n X dX10_match_9 3 rfl rfl ?_
    refine g_if_lt (tgt := 37) X dX10_match_10 (by decide) (fun c_2 => ?_) (fun c_2 => ?_)
    · rw [if_pos c_2] at hF
      refine g_iconst (v := -1) X dX10_match_37 (by decide) ?_
      have hF := Option.some.inj hF
      subst hF
      exact g_iret X dX10_match_38 ho
    · rw [if_neg c_2] at hF
      refine g_iload_n X dX10_match_13 3 rfl rfl ?_
      refine g_sipush (v := 999) X dX10_match_14 (by decide) ?_
      refine g_icmp_gt (tgt := 37) X dX10_match_17 (by decide) (fun c_3 => ?_) (fun c_3 => ?_)
      · rw [if_pos c_3] at hF
        refine g_iconst (v := -1) X dX10_match_37 (by decide) ?_
        have hF := Option.some.inj hF
        subst hF
        exact g_iret X dX10_match_38 ho
      · rw [if_neg c_3] at hF
        refine g_aload_n X dX10_match_20 0 rfl rfl ?_
        refine g_getR (f := 93) X dX10_match_21 flX10_47 rfl rfl h0 ?_
        refine g_aload_n X dX10_match_24 0 rfl rfl ?_
        refine g_getR (f := 3) X dX10_match_25 flX10_19 rfl rfl h0 ?_
        refine g_iload_n X dX10_match_28 1 rfl rfl ?_
        refine g_iload_n X dX10_match_29 2 rfl rfl ?_
        refine g_iload_n X dX10_match_30 3 rfl rfl ?_
        obtain ⟨r_4, q_5, hF⟩ := obind hF
        refine g_callVi (As := [.ref (ad (a0 + 3)), .int x1, .int x2, .int x3]) X dX10_match_31 mlX10_265 (fun l D cyy => tX0_countMatches (cx_inj X) l D cyy (a0 + 93) (a0 + 3) x1 x2 x3 (on_10_5 h0) (on_10_1 h0) S r_4 q_5) (on_10_5 h0) (by decide) rfl rfl (Nat.le_of_ble_eq_true rfl) ?_
        exact g_perm [] rfl (wX10_match_s34 X a0 x1 x2 x3 h0 r_4.1 r_4.2 r ho hF)
theorem tX10_match {ad : Nat → Nat} (hI : Inj ad) (l : Launch) (D : va_G) (cyy : Nat → ClassId) (a0 : Nat) (x1 : Int32) (x2 : Int32) (x3 : Int32) (h0 : KT a0 = 10) (S : St) (r : (Int32 × St)) (hF : fX10_match a0 x1 x2 x3 S = some r) : OkM l yX10_match cX10_match 4 (some .int) 5 ad D cyy [.ref (ad a0), .int x1, .int x2, .int x3] S (some (.int r.1), r.2) := okM_of hI (by decide) (inr_41 _ (List.mem_of_getElem? (i := 0) rfl)) (by show _ ≤ 4; exact Nat.le_of_ble_eq_true rfl) (fun z X => wX10_match X a0 x1 x2 x3 h0 S r rfl hF)
def fX10_matchOn (a0 : Nat) (S : St) : Int32 :=
  (gI S 0 2 (a0 + 93))
theorem wX10_matchOn {z : Mx} {ad : Nat → Nat} {o : Option Value × St} (X : CxOk z ad RX10 cX10_matchOn 1 (some .int) 1) (a0 : Nat) (h0 : KT a0 = 10) (S : St) (r : Int32) (ho : o = (some (.int r), S)) (hF : fX10_matchOn a0 S = r) : GW z ad o S 0 [(0, .ref (ad a0))] [] := by
  unfold fX10_matchOn at hF
  refine g_aload_n X dX10_matchOn_0 0 rfl rfl ?_
  refine g_getR (f := 93) X dX10_matchOn_1 flX10_47 rfl rfl h0 ?_
  refine g_getI X dX10_matchOn_4 flX10_269 rfl (on_10_5 h0) ?_
  subst hF
  exact g_iret X dX10_matchOn_7 ho
theorem tX10_matchOn {ad : Nat → Nat} (hI : Inj ad) (l : Launch) (D : va_G) (cyy : Nat → ClassId) (a0 : Nat) (h0 : KT a0 = 10) (S : St) : OkM l yX10_matchOn cX10_matchOn 1 (some .int) 1 ad D cyy [.ref (ad a0)] S (some (.int (fX10_matchOn a0 S)), S) := okM_of hI (by decide) (inr_41 _ (List.mem_of_getElem? (i := 14) rfl)) (by show _ ≤ 1; exact Nat.le_of_ble_eq_true rfl) (fun z X => wX10_matchOn X a0 h0 S _ rfl rfl)
def fX10_reform_s11 (a0 : Nat)  (t0 : Int32) (S : St) : Option (Int32 × St) :=
  some (t0, S)
def fX10_reform (a0 : Nat) (S : St) : Option (Int32 × St) :=
  (fX0_findReform (a0 + 93) (a0 + 3) S).bind fun r_1 =>
  fX10_reform_s11 a0 r_1.1 r_1.2
theorem wX10_reform_s11 {z : Mx} {ad : Nat → Nat} {o : Option Value × St} (X : CxOk z ad RX10 cX10_reform 1 (some .int) 7) (a0 : Nat) (h0 : KT a0 = 10)  (t0 : Int32)   (S : St) (r : (Int32 × St)) (ho : o = (some (.int r.1), r.2)) (hF : fX10_reform_s11 a0  t0 S = some r) : GW z ad o S 11 [] [.int t0] := by
  unfold fX10_reform_s11 at hF
  have hF := Option.some.inj hF
  subst hF
  exact g_iret X dX10_reform_11 ho
theorem wX10_reform {z : Mx} {ad : Nat → Nat} {o : Option Value × St} (X : CxOk z ad RX10 cX10_reform 1 (some .int) 7) (a0 : Nat) (h0 : KT a0 = 10) (S : St) (r : (Int32 × St)) (ho : o = (some (.int r.1), r.2)) (hF : fX10_reform a0 S = some r) : GW z ad o S 0 [(0, .ref (ad a0))] [] := by
  unfold fX10_reform at hF
  refine g_aload_n X dX10_reform_0 0 rfl rfl ?_
  refine g_getR (f := 93) X dX10_reform_1 flX10_47 rfl rfl h0 ?_
  refine g_aload_n X dX10_reform_4 0 rfl rfl ?_
  refine g_getR (f := 3) X dX10_reform_5 flX10_19 rfl rfl h0 ?_
  obtain ⟨r_1, q_2, hF⟩ := obind hF
  refine g_callVi (As := [.ref (ad (a0 + 3))]) X dX10_reform_8 mlX10_272 (fun l D cyy => tX0_findReform (cx_inj X) l D cyy (a0 + 93) (a0 + 3) (on_10_5 h0) (on_10_1 h0) S r_1 q_2) (on_10_5 h0) (by decide) rfl rfl (Nat.le_of_ble_eq_true rfl) ?_
  exact g_perm [] rfl (wX10_reform_s11 X a0 h0 r_1.1 r_1.2 r ho hF)
theorem tX10_reform {ad : Nat → Nat} (hI : Inj ad) (l : Launch) (D : va_G) (cyy : Nat → ClassId) (a0 : Nat) (h0 : KT a0 = 10) (S : St) (r : (Int32 × St)) (hF : fX10_reform a0 S = some r) : OkM l yX10_reform cX10_reform 1 (some .int) 7 ad D cyy [.ref (ad a0)] S (some (.int r.1), r.2) := okM_of hI (by decide) (inr_41 _ (List.mem_of_getElem? (i := 23) rfl)) (by show _ ≤ 1; exact Nat.le_of_ble_eq_true rfl) (fun z X => wX10_reform X a0 h0 S r rfl hF)
def fX10_reformTo (a0 : Nat) (S : St) : Int32 :=
  (gI S 0 3 (a0 + 93))
theorem wX10_reformTo {z : Mx} {ad : Nat → Nat} {o : Option Value × St} (X : CxOk z ad RX10 cX10_reformTo 1 (some .int) 1) (a0 : Nat) (h0 : KT a0 = 10) (S : St) (r : Int32) (ho : o = (some (.int r), S)) (hF : fX10_reformTo a0 S = r) : GW z ad o S 0 [(0, .ref (ad a0))] [] := by
  unfold fX10_reformTo at hF
  refine g_aload_n X dX10_reformTo_0 0 rfl rfl ?_
  refine g_getR (f := 93) X dX10_reformTo_1 flX10_47 rfl rfl h0 ?_
  refine g_getI X dX10_reformTo_4 flX10_276 rfl (on_10_5 h0) ?_
  subst hF
  exact g_iret X dX10_reformTo_7 ho
theorem tX10_reformTo {ad : Nat → Nat} (hI : Inj ad) (l : Launch) (D : va_G) (cyy : Nat → ClassId) (a0 : Nat) (h0 : KT a0 = 10) (S : St) : OkM l yX10_reformTo cX10_reformTo 1 (some .int) 1 ad D cyy [.ref (ad a0)] S (some (.int (fX10_reformTo a0 S)), S) := okM_of hI (by decide) (inr_42 _ (List.mem_of_getElem? (i := 14) rfl)) (by show _ ≤ 1; exact Nat.le_of_ble_eq_true rfl) (fun z X => wX10_reformTo X a0 h0 S _ rfl rfl)
def fX10_play (a0 : Nat) (x1 : Int32) (x2 : Int32) (x3 : Int32) (S : St) : Option Int32 :=
  if (fX10_hasBoth a0 x1 x2 S) = 0 then (some (-1 : Int32)) else
  (if x3 < (1 : Int32) then (some (-1 : Int32)) else
  (if (9 : Int32) < x3 then (some (-1 : Int32)) else
  ((fX0_findMove (a0 + 93) (a0 + 3) x1 x2 x3 S).bind fun r_4 =>
  some r_4)))
theorem wX10_play {z : Mx} {ad : Nat → Nat} {o : Option Value × St} (X : CxOk z ad RX10 cX10_play 4 (some .int) 6) (a0 : Nat) (x1 : Int32) (x2 : Int32) (x3 : Int32) (h0 : KT a0 = 10) (S : St) (r : Int32) (ho : o = (some (.int r), S)) (hF : fX10_play a0 x1 x2 x3 S = some r) : GW z ad o S 0 [(0, .ref (ad a0)), (1, .int x1), (2, .int x2), (3, .int x3)] [] := by
  unfold fX10_play at hF
  refine g_aload_n X dX10_play_0 0 rfl rfl ?_
  refine g_iload_n X dX10_play_1 1 rfl rfl ?_
  refine g_iload_n X dX10_play_2 2 rfl rfl ?_
  refine g_callVi (As := [.int x1, .int x2]) X dX10_play_3 mlX10_256 (fun l D cyy => tX10_hasBoth (cx_inj X) l D cyy a0 x1 x2 h0 S) h0 (by decide) rfl rfl (Nat.le_of_ble_eq_true rfl) ?_
  refine g_if_eq (tgt := 37) X dX10_play_6 (by decide) (fun c_1 => ?_) (fun c_1 => ?_)
  · rw [if_pos c_1] at hF
    refine g_iconst (v := -1) X dX10_play_37 (by decide) ?_
    have hF := Option.some.inj hF
    subst hF
    exact g_iret X dX10_play_38 ho
  · rw [if_neg c_1] at hF
    refine g_iload_n X dX10_play_9 3 rfl rfl ?_
    refine g_iconst (v := 1) X dX10_play_10 (by decide) ?_
    refine g_icmp_lt (tgt := 37) X dX10_play_11 (by decide) (fun c_2 => ?_) (fun c_2 => ?_)
    · rw [if_pos c_2] at hF
      refine g_iconst (v := -1) X dX10_play_37 (by decide) ?_
      have hF := Option.some.inj hF
      subst hF
      exact g_iret X dX10_play_38 ho
    · rw [if_neg c_2] at hF
      refine g_iload_n X dX10_play_14 3 rfl rfl ?_
      refine g_bipush (v := 9) X dX10_play_15 (by decide) ?_
      refine g_icmp_gt (tgt := 37) X dX10_play_17 (by decide) (fun c_3 => ?_) (fun c_3 => ?_)
      · rw [if_pos c_3] at hF
        refine g_iconst (v := -1) X dX10_play_37 (by decide) ?_
        have hF := Option.some.inj hF
        subst hF
        exact g_iret X dX10_play_38 ho
      · rw [if_neg c_3] at hF
        refine g_aload_n X dX10_play_20 0 rfl rfl ?_
        refine g_getR (f := 93) X dX10_play_21 flX10_47 rfl rfl h0 ?_
        refine g_aload_n X dX10_play_24 0 rfl rfl ?_
        refine g_getR (f := 3) X dX10_play_25 flX10_19 rfl rfl h0 ?_
        refine g_iload_n X dX10_play_28 1 rfl rfl ?_
        refine g_iload_n X dX10_play_29 2 rfl rfl ?_
        refine g_iload_n X dX10_play_30 3 rfl rfl ?_
        obtain ⟨r_4, q_5, hF⟩ := obind hF
        refine g_callVi (As := [.ref (ad (a0 + 3)), .int x1, .int x2, .int x3]) X dX10_play_31 mlX10_279 (fun l D cyy => tX0_findMove (cx_inj X) l D cyy (a0 + 93) (a0 + 3) x1 x2 x3 (on_10_5 h0) (on_10_1 h0) S r_4 q_5) (on_10_5 h0) (by decide) rfl rfl (Nat.le_of_ble_eq_true rfl) ?_
        refine g_goto (tgt := 38) X dX10_play_34 (by decide) ?_
        have hF := Option.some.inj hF
        subst hF
        exact g_iret X dX10_play_38 ho
theorem tX10_play {ad : Nat → Nat} (hI : Inj ad) (l : Launch) (D : va_G) (cyy : Nat → ClassId) (a0 : Nat) (x1 : Int32) (x2 : Int32) (x3 : Int32) (h0 : KT a0 = 10) (S : St) (r : Int32) (hF : fX10_play a0 x1 x2 x3 S = some r) : OkM l yX10_play cX10_play 4 (some .int) 6 ad D cyy [.ref (ad a0), .int x1, .int x2, .int x3] S (some (.int r), S) := okM_of hI (by decide) (inr_42 _ (List.mem_of_getElem? (i := 23) rfl)) (by show _ ≤ 4; exact Nat.le_of_ble_eq_true rfl) (fun z X => wX10_play X a0 x1 x2 x3 h0 S r rfl hF)
def fX10_crowd_s23 (a0 : Nat) (x1 : Int32)  (t0 : Int32) (S : St) : Option (Int32 × St) :=
  some (t0, S)
def fX10_crowd (a0 : Nat) (x1 : Int32) (S : St) : Option (Int32 × St) :=
  if x1 < 0 then (some ((-1 : Int32), S)) else
  (if (999 : Int32) < x1 then (some ((-1 : Int32), S)) else
  ((fX0_findCrowd (a0 + 93) (a0 + 3) x1 S).bind fun r_3 =>
  fX10_crowd_s23 a0 x1 r_3.1 r_3.2))
theorem wX10_crowd_s23 {z : Mx} {ad : Nat → Nat} {o : Option Value × St} (X : CxOk z ad RX10 cX10_crowd 2 (some .int) 7) (a0 : Nat) (x1 : Int32) (h0 : KT a0 = 10)  (t0 : Int32)   (S : St) (r : (Int32 × St)) (ho : o = (some (.int r.1), r.2)) (hF : fX10_crowd_s23 a0 x1  t0 S = some r) : GW z ad o S 23 [] [.int t0] := by
  unfold fX10_crowd_s23 at hF
  refine g_goto (tgt := 27) X dX10_crowd_23 (by decide) ?_
  have hF := Option.some.inj hF
  subst hF
  exact g_iret X dX10_crowd_27 ho
theorem wX10_crowd {z : Mx} {ad : Nat → Nat} {o : Option Value × St} (X : CxOk z ad RX10 cX10_crowd 2 (some .int) 7) (a0 : Nat) (x1 : Int32) (h0 : KT a0 = 10) (S : St) (r : (Int32 × St)) (ho : o = (some (.int r.1), r.2)) (hF : fX10_crowd a0 x1 S = some r) : GW z ad o S 0 [(0, .ref (ad a0)), (1, .int x1)] [] := by
  unfold fX10_crowd at hF
  refine g_iload_n X dX10_crowd_0 1 rfl rfl ?_
  refine g_if_lt (tgt := 26) X dX10_crowd_1 (by decide) (fun c_1 => ?_) (fun c_1 => ?_)
  · rw [if_pos c_1] at hF
    refine g_iconst (v := -1) X dX10_crowd_26 (by decide) ?_
    have hF := Option.some.inj hF
    subst hF
    exact g_iret X dX10_crowd_27 ho
  · rw [if_neg c_1] at hF
    refine g_iload_n X dX10_crowd_4 1 rfl rfl ?_
    refine g_sipush (v := 999) X dX10_crowd_5 (by decide) ?_
    refine g_icmp_gt (tgt := 26) X dX10_crowd_8 (by decide) (fun c_2 => ?_) (fun c_2 => ?_)
    · rw [if_pos c_2] at hF
      refine g_iconst (v := -1) X dX10_crowd_26 (by decide) ?_
      have hF := Option.some.inj hF
      subst hF
      exact g_iret X dX10_crowd_27 ho
    · rw [if_neg c_2] at hF
      refine g_aload_n X dX10_crowd_11 0 rfl rfl ?_
      refine g_getR (f := 93) X dX10_crowd_12 flX10_47 rfl rfl h0 ?_
      refine g_aload_n X dX10_crowd_15 0 rfl rfl ?_
      refine g_getR (f := 3) X dX10_crowd_16 flX10_19 rfl rfl h0 ?_
      refine g_iload_n X dX10_crowd_19 1 rfl rfl ?_
      obtain ⟨r_3, q_4, hF⟩ := obind hF
      refine g_callVi (As := [.ref (ad (a0 + 3)), .int x1]) X dX10_crowd_20 mlX10_282 (fun l D cyy => tX0_findCrowd (cx_inj X) l D cyy (a0 + 93) (a0 + 3) x1 (on_10_5 h0) (on_10_1 h0) S r_3 q_4) (on_10_5 h0) (by decide) rfl rfl (Nat.le_of_ble_eq_true rfl) ?_
      exact g_perm [] rfl (wX10_crowd_s23 X a0 x1 h0 r_3.1 r_3.2 r ho hF)
theorem tX10_crowd {ad : Nat → Nat} (hI : Inj ad) (l : Launch) (D : va_G) (cyy : Nat → ClassId) (a0 : Nat) (x1 : Int32) (h0 : KT a0 = 10) (S : St) (r : (Int32 × St)) (hF : fX10_crowd a0 x1 S = some r) : OkM l yX10_crowd cX10_crowd 2 (some .int) 7 ad D cyy [.ref (ad a0), .int x1] S (some (.int r.1), r.2) := okM_of hI (by decide) (inr_43 _ (List.mem_of_getElem? (i := 11) rfl)) (by show _ ≤ 2; exact Nat.le_of_ble_eq_true rfl) (fun z X => wX10_crowd X a0 x1 h0 S r rfl hF)
def fX10_crowdOn (a0 : Nat) (S : St) : Int32 :=
  (gI S 0 4 (a0 + 93))
theorem wX10_crowdOn {z : Mx} {ad : Nat → Nat} {o : Option Value × St} (X : CxOk z ad RX10 cX10_crowdOn 1 (some .int) 1) (a0 : Nat) (h0 : KT a0 = 10) (S : St) (r : Int32) (ho : o = (some (.int r), S)) (hF : fX10_crowdOn a0 S = r) : GW z ad o S 0 [(0, .ref (ad a0))] [] := by
  unfold fX10_crowdOn at hF
  refine g_aload_n X dX10_crowdOn_0 0 rfl rfl ?_
  refine g_getR (f := 93) X dX10_crowdOn_1 flX10_47 rfl rfl h0 ?_
  refine g_getI X dX10_crowdOn_4 flX10_285 rfl (on_10_5 h0) ?_
  subst hF
  exact g_iret X dX10_crowdOn_7 ho
theorem tX10_crowdOn {ad : Nat → Nat} (hI : Inj ad) (l : Launch) (D : va_G) (cyy : Nat → ClassId) (a0 : Nat) (h0 : KT a0 = 10) (S : St) : OkM l yX10_crowdOn cX10_crowdOn 1 (some .int) 1 ad D cyy [.ref (ad a0)] S (some (.int (fX10_crowdOn a0 S)), S) := okM_of hI (by decide) (inr_44 _ (List.mem_of_getElem? (i := 3) rfl)) (by show _ ≤ 1; exact Nat.le_of_ble_eq_true rfl) (fun z X => wX10_crowdOn X a0 h0 S _ rfl rfl)
def fX10_takeLetter_s57 (a0 : Nat) (y1 : Int32)  (S : St) : Option (Int32 × St) :=
  some ((vp_nar .boolean y1), S)
def fX10_takeLetter_s43 (k19 : Int32 → Int32 → St → Option (Int32 × St)) (a0 : Nat) (y1 : Int32) (y2 : Int32)  (S : St) : Option (Int32 × St) :=
  k19 y1 (y2 + (1 : Int32)) S
def fX10_takeLetter_s19 (k19 : Int32 → Int32 → St → Option (Int32 × St)) (a0 : Nat) (y1 : Int32) (y2 : Int32)  (S : St) : Option (Int32 × St) :=
  if (3 : Int32) ≤ y2 then (fX10_takeLetter_s57 a0 y1 (sI S 6 1 (a0 + 1) (0 : Int32))) else
  (if (y2 < 0 ∨ 940 ≤ y2.toNatClampNeg) then none else
  if (y2 < 0 ∨ 3 ≤ y2.toNatClampNeg) then none else
  fX10_takeLetter_s43 k19 a0 y1 y2 (sA S 24 (a0 + 96) y2.toNatClampNeg ((gA S 12 ((a0 + 1) + 1) y2.toNatClampNeg) &&& (255 : Int32))))
def fX10_takeLetter_h19 (a0 : Nat) : Nat → Int32 → Int32 → St → Option (Int32 × St)
  | 0, _, _, _ => none
  | n + 1, y1, y2, S => fX10_takeLetter_s19 (fX10_takeLetter_h19 a0 n) a0 y1 y2 S
def fX10_takeLetter (a0 : Nat) (S : St) : Option (Int32 × St) :=
  if (gI S 6 1 (a0 + 1)) = (3 : Int32) then (fX10_takeLetter_h19 a0 NN (1 : Int32) (0 : Int32) S) else
  (fX10_takeLetter_h19 a0 NN (0 : Int32) (0 : Int32) S)
theorem wX10_takeLetter_s57 {z : Mx} {ad : Nat → Nat} {o : Option Value × St} (X : CxOk z ad RX10 cX10_takeLetter 3 (some .boolean) 1) (a0 : Nat) (h0 : KT a0 = 10) (y1 : Int32)    (S : St) (r : (Int32 × St)) (ho : o = (some (.int r.1), r.2)) (hF : fX10_takeLetter_s57 a0 y1  S = some r) : GW z ad o S 57 [(1, .int y1)] [] := by
  unfold fX10_takeLetter_s57 at hF
  refine g_iload_n X dX10_takeLetter_57 0 rfl rfl ?_
  have hF := Option.some.inj hF
  subst hF
  exact g_zretN X dX10_takeLetter_58 ho
theorem wX10_takeLetter_s43 {z : Mx} {ad : Nat → Nat} {o : Option Value × St} (X : CxOk z ad RX10 cX10_takeLetter 3 (some .boolean) 1) (a0 : Nat) (h0 : KT a0 = 10) (y1 : Int32) (y2 : Int32)  (k19 : Int32 → Int32 → St → Option (Int32 × St))   (S : St) (r : (Int32 × St)) (ho : o = (some (.int r.1), r.2)) (hk19 : ∀ (y1 : Int32) (y2 : Int32) (S : St), k19 y1 y2 S = some r → GW z ad o S 19 [(0, .ref (ad a0)), (1, .int y1), (2, .int y2)] []) (hF : fX10_takeLetter_s43 k19 a0 y1 y2  S = some r) : GW z ad o S 43 [(0, .ref (ad a0)), (1, .int y1), (2, .int y2)] [] := by
  unfold fX10_takeLetter_s43 at hF
  refine g_iinc (v := (y2 + (1 : Int32))) X dX10_takeLetter_43 2 rfl rfl (by decide) (lv' := [(2, .int (y2 + (1 : Int32))), (0, .ref (ad a0)), (1, .int y1)]) rfl ?_
  refine g_goto (tgt := 19) X dX10_takeLetter_46 (by decide) ?_
  exact g_perm [1, 2, 0] rfl (hk19 y1 (y2 + (1 : Int32)) S hF)
theorem wX10_takeLetter_s19 {z : Mx} {ad : Nat → Nat} {o : Option Value × St} (X : CxOk z ad RX10 cX10_takeLetter 3 (some .boolean) 1) (a0 : Nat) (h0 : KT a0 = 10) (y1 : Int32) (y2 : Int32)  (k19 : Int32 → Int32 → St → Option (Int32 × St))   (S : St) (r : (Int32 × St)) (ho : o = (some (.int r.1), r.2)) (hk19 : ∀ (y1 : Int32) (y2 : Int32) (S : St), k19 y1 y2 S = some r → GW z ad o S 19 [(0, .ref (ad a0)), (1, .int y1), (2, .int y2)] []) (hF : fX10_takeLetter_s19 k19 a0 y1 y2  S = some r) : GW z ad o S 19 [(0, .ref (ad a0)), (1, .int y1), (2, .int y2)] [] := by
  unfold fX10_takeLetter_s19 at hF
  refine g_iload_n X dX10_takeLetter_19 2 rfl rfl ?_
  refine g_iconst (v := 3) X dX10_takeLetter_20 (by decide) ?_
  refine g_icmp_ge (tgt := 49) X dX10_takeLetter_21 (by decide) (fun c_2 => ?_) (fun c_2 => ?_)
  · rw [if_pos c_2] at hF
    refine g_aload_n X dX10_takeLetter_49 0 rfl rfl ?_
    refine g_getR (f := 1) X dX10_takeLetter_50 flX10_10 rfl rfl h0 ?_
    refine g_iconst (v := 0) X dX10_takeLetter_53 (by decide) ?_
    refine g_putI X dX10_takeLetter_54 fpX10_92 rfl rfl rfl (on_10_0 h0) ?_
    exact g_perm [1] rfl (wX10_takeLetter_s57 X a0 h0 y1 (sI S 6 1 (a0 + 1) (0 : Int32)) r ho hF)
  · rw [if_neg c_2] at hF
    refine g_aload_n X dX10_takeLetter_24 0 rfl rfl ?_
    refine g_getR (f := 96) X dX10_takeLetter_25 flX10_58 rfl rfl h0 ?_
    refine g_iload_n X dX10_takeLetter_28 2 rfl rfl ?_
    refine g_aload_n X dX10_takeLetter_29 0 rfl rfl ?_
    refine g_getR (f := 1) X dX10_takeLetter_30 flX10_10 rfl rfl h0 ?_
    refine g_getR (f := 1) X dX10_takeLetter_33 flX10_378 rfl rfl (on_10_0 h0) ?_
    refine g_iload_n X dX10_takeLetter_36 2 rfl rfl ?_
    obtain ⟨e_3, hF⟩ := oguard hF
    refine g_bald X dX10_takeLetter_37 kd_12 (on_6_0 (on_10_0 h0)) e_3 ?_
    refine g_sipush (v := 255) X dX10_takeLetter_38 (by decide) ?_
    refine g_iand X dX10_takeLetter_41 ?_
    obtain ⟨e_4, hF⟩ := oguard hF
    refine g_iast X dX10_takeLetter_42 kd_24 (on_10_7 h0) e_4 ?_
    exact (wX10_takeLetter_s43 X a0 h0 y1 y2 k19 (sA S 24 (a0 + 96) y2.toNatClampNeg ((gA S 12 ((a0 + 1) + 1) y2.toNatClampNeg) &&& (255 : Int32))) r ho hk19 hF)
theorem wX10_takeLetter_h19 {z : Mx} {ad : Nat → Nat} {o : Option Value × St} (X : CxOk z ad RX10 cX10_takeLetter 3 (some .boolean) 1) (a0 : Nat) (h0 : KT a0 = 10)  (r : (Int32 × St)) (ho : o = (some (.int r.1), r.2)) : ∀ (n : Nat) (y1 : Int32) (y2 : Int32) (S : St), fX10_takeLetter_h19 a0 n y1 y2 S = some r → GW z ad o S 19 [(0, .ref (ad a0)), (1, .int y1), (2, .int y2)] [] := by
  intro n
  induction n with
  | zero => intro y1 y2 S  hF; cases hF
  | succ n ih => intro y1 y2 S  hF; exact wX10_takeLetter_s19 X a0 h0 y1 y2 (fX10_takeLetter_h19 a0 n)  S r ho ih hF
theorem wX10_takeLetter {z : Mx} {ad : Nat → Nat} {o : Option Value × St} (X : CxOk z ad RX10 cX10_takeLetter 3 (some .boolean) 1) (a0 : Nat) (h0 : KT a0 = 10) (S : St) (r : (Int32 × St)) (ho : o = (some (.int r.1), r.2)) (hF : fX10_takeLetter a0 S = some r) : GW z ad o S 0 [(0, .ref (ad a0))] [] := by
  unfold fX10_takeLetter at hF
  refine g_aload_n X dX10_takeLetter_0 0 rfl rfl ?_
  refine g_getR (f := 1) X dX10_takeLetter_1 flX10_10 rfl rfl h0 ?_
  refine g_getI X dX10_takeLetter_4 flX10_92 rfl (on_10_0 h0) ?_
  refine g_iconst (v := 3) X dX10_takeLetter_7 (by decide) ?_
  refine g_icmp_ne (tgt := 15) X dX10_takeLetter_8 (by decide) (fun c_1 => ?_) (fun c_1 => ?_)
  · rw [if_neg c_1] at hF
    refine g_iconst (v := 0) X dX10_takeLetter_15 (by decide) ?_
    refine g_istore_n X dX10_takeLetter_16 rfl (by decide) (lv' := [(1, .int (0 : Int32)), (0, .ref (ad a0))]) rfl ?_
    refine g_iconst (v := 0) X dX10_takeLetter_17 (by decide) ?_
    refine g_istore_n X dX10_takeLetter_18 rfl (by decide) (lv' := [(2, .int (0 : Int32)), (1, .int (0 : Int32)), (0, .ref (ad a0))]) rfl ?_
    exact g_perm [2, 1, 0] rfl (wX10_takeLetter_h19 X a0 h0 r ho NN (0 : Int32) (0 : Int32) S hF)
  · rw [if_pos c_1] at hF
    refine g_iconst (v := 1) X dX10_takeLetter_11 (by decide) ?_
    refine g_goto (tgt := 16) X dX10_takeLetter_12 (by decide) ?_
    refine g_istore_n X dX10_takeLetter_16 rfl (by decide) (lv' := [(1, .int (1 : Int32)), (0, .ref (ad a0))]) rfl ?_
    refine g_iconst (v := 0) X dX10_takeLetter_17 (by decide) ?_
    refine g_istore_n X dX10_takeLetter_18 rfl (by decide) (lv' := [(2, .int (0 : Int32)), (1, .int (1 : Int32)), (0, .ref (ad a0))]) rfl ?_
    exact g_perm [2, 1, 0] rfl (wX10_takeLetter_h19 X a0 h0 r ho NN (1 : Int32) (0 : Int32) S hF)
theorem tX10_takeLetter {ad : Nat → Nat} (hI : Inj ad) (l : Launch) (D : va_G) (cyy : Nat → ClassId) (a0 : Nat) (h0 : KT a0 = 10) (S : St) (r : (Int32 × St)) (hF : fX10_takeLetter a0 S = some r) : OkM l yX10_takeLetter cX10_takeLetter 3 (some .boolean) 1 ad D cyy [.ref (ad a0)] S (some (.int r.1), r.2) := okM_of hI (by decide) (inr_44 _ (List.mem_of_getElem? (i := 16) rfl)) (by show _ ≤ 3; exact Nat.le_of_ble_eq_true rfl) (fun z X => wX10_takeLetter X a0 h0 S r rfl hF)
def fX10_wrote_s4 (a0 : Nat)  (t0 : Int32) (S : St) : Option (Int32 × St) :=
  if t0 = 0 then (some ((-1 : Int32), S)) else
  ((fX0_findWriters (a0 + 93) (a0 + 3) (a0 + 96) S).bind fun r_4 =>
  some (r_4, S))
def fX10_wrote (a0 : Nat) (S : St) : Option (Int32 × St) :=
  (fX10_takeLetter a0 S).bind fun r_1 =>
  fX10_wrote_s4 a0 r_1.1 r_1.2
theorem wX10_wrote_s4 {z : Mx} {ad : Nat → Nat} {o : Option Value × St} (X : CxOk z ad RX10 cX10_wrote 1 (some .int) 6) (a0 : Nat) (h0 : KT a0 = 10)  (t0 : Int32)   (S : St) (r : (Int32 × St)) (ho : o = (some (.int r.1), r.2)) (hF : fX10_wrote_s4 a0  t0 S = some r) : GW z ad o S 4 [(0, .ref (ad a0))] [.int t0] := by
  unfold fX10_wrote_s4 at hF
  refine g_if_eq (tgt := 25) X dX10_wrote_4 (by decide) (fun c_3 => ?_) (fun c_3 => ?_)
  · rw [if_pos c_3] at hF
    refine g_iconst (v := -1) X dX10_wrote_25 (by decide) ?_
    have hF := Option.some.inj hF
    subst hF
    exact g_iret X dX10_wrote_26 ho
  · rw [if_neg c_3] at hF
    refine g_aload_n X dX10_wrote_7 0 rfl rfl ?_
    refine g_getR (f := 93) X dX10_wrote_8 flX10_47 rfl rfl h0 ?_
    refine g_aload_n X dX10_wrote_11 0 rfl rfl ?_
    refine g_getR (f := 3) X dX10_wrote_12 flX10_19 rfl rfl h0 ?_
    refine g_aload_n X dX10_wrote_15 0 rfl rfl ?_
    refine g_getR (f := 96) X dX10_wrote_16 flX10_58 rfl rfl h0 ?_
    obtain ⟨r_4, q_5, hF⟩ := obind hF
    refine g_callVi (As := [.ref (ad (a0 + 3)), .ref (ad (a0 + 96))]) X dX10_wrote_19 mlX10_292 (fun l D cyy => tX0_findWriters (cx_inj X) l D cyy (a0 + 93) (a0 + 3) (a0 + 96) (on_10_5 h0) (on_10_1 h0) (on_10_7 h0) S r_4 q_5) (on_10_5 h0) (by decide) rfl rfl (Nat.le_of_ble_eq_true rfl) ?_
    refine g_goto (tgt := 26) X dX10_wrote_22 (by decide) ?_
    have hF := Option.some.inj hF
    subst hF
    exact g_iret X dX10_wrote_26 ho
theorem wX10_wrote {z : Mx} {ad : Nat → Nat} {o : Option Value × St} (X : CxOk z ad RX10 cX10_wrote 1 (some .int) 6) (a0 : Nat) (h0 : KT a0 = 10) (S : St) (r : (Int32 × St)) (ho : o = (some (.int r.1), r.2)) (hF : fX10_wrote a0 S = some r) : GW z ad o S 0 [(0, .ref (ad a0))] [] := by
  unfold fX10_wrote at hF
  refine g_aload_n X dX10_wrote_0 0 rfl rfl ?_
  obtain ⟨r_1, q_2, hF⟩ := obind hF
  refine g_callVi (As := []) X dX10_wrote_1 mlX10_288 (fun l D cyy => tX10_takeLetter (cx_inj X) l D cyy a0 h0 S r_1 q_2) h0 (by decide) rfl rfl (Nat.le_of_ble_eq_true rfl) ?_
  exact (wX10_wrote_s4 X a0 h0 r_1.1 r_1.2 r ho hF)
theorem tX10_wrote {ad : Nat → Nat} (hI : Inj ad) (l : Launch) (D : va_G) (cyy : Nat → ClassId) (a0 : Nat) (h0 : KT a0 = 10) (S : St) (r : (Int32 × St)) (hF : fX10_wrote a0 S = some r) : OkM l yX10_wrote cX10_wrote 1 (some .int) 6 ad D cyy [.ref (ad a0)] S (some (.int r.1), r.2) := okM_of hI (by decide) (inr_44 _ (List.mem_of_getElem? (i := 12) rfl)) (by show _ ≤ 1; exact Nat.le_of_ble_eq_true rfl) (fun z X => wX10_wrote X a0 h0 S r rfl hF)
def fX10_ago_s4 (a0 : Nat) (x1 : Int32)  (t0 : Int32) (S : St) : Option (Int32 × St) :=
  if t0 = 0 then (some ((-1 : Int32), S)) else
  (if (fX8_hasParish ((a0 + 3) + 1) x1 S) = 0 then (some ((-1 : Int32), S)) else
  ((fX0_findAgo (a0 + 93) (a0 + 3) x1 (a0 + 96) S).bind fun r_5 =>
  some (r_5, S)))
def fX10_ago (a0 : Nat) (x1 : Int32) (S : St) : Option (Int32 × St) :=
  (fX10_takeLetter a0 S).bind fun r_1 =>
  fX10_ago_s4 a0 x1 r_1.1 r_1.2
theorem wX10_ago_s4 {z : Mx} {ad : Nat → Nat} {o : Option Value × St} (X : CxOk z ad RX10 cX10_ago 3 (some .int) 6) (a0 : Nat) (x1 : Int32) (h0 : KT a0 = 10)  (t0 : Int32)   (S : St) (r : (Int32 × St)) (ho : o = (some (.int r.1), r.2)) (hF : fX10_ago_s4 a0 x1  t0 S = some r) : GW z ad o S 4 [(0, .ref (ad a0)), (1, .int x1)] [.int t0] := by
  unfold fX10_ago_s4 at hF
  refine g_istore_n X dX10_ago_4 rfl (by decide) (lv' := [(2, .int t0), (0, .ref (ad a0)), (1, .int x1)]) rfl ?_
  refine g_iload_n X dX10_ago_5 0 rfl rfl ?_
  refine g_if_eq (tgt := 42) X dX10_ago_6 (by decide) (fun c_3 => ?_) (fun c_3 => ?_)
  · rw [if_pos c_3] at hF
    refine g_iconst (v := -1) X dX10_ago_42 (by decide) ?_
    have hF := Option.some.inj hF
    subst hF
    exact g_iret X dX10_ago_43 ho
  · rw [if_neg c_3] at hF
    refine g_aload_n X dX10_ago_9 1 rfl rfl ?_
    refine g_getR (f := 3) X dX10_ago_10 flX10_19 rfl rfl h0 ?_
    refine g_getR (f := 1) X dX10_ago_13 flX10_116 rfl rfl (on_10_1 h0) ?_
    refine g_iload_n X dX10_ago_16 2 rfl rfl ?_
    refine g_callVi (As := [.int x1]) X dX10_ago_17 mlX10_119 (fun l D cyy => tX8_hasParish (cx_inj X) l D cyy ((a0 + 3) + 1) x1 (on_9_0 (on_10_1 h0)) S) (on_9_0 (on_10_1 h0)) (by decide) rfl rfl (Nat.le_of_ble_eq_true rfl) ?_
    refine g_if_eq (tgt := 42) X dX10_ago_20 (by decide) (fun c_4 => ?_) (fun c_4 => ?_)
    · rw [if_pos c_4] at hF
      refine g_iconst (v := -1) X dX10_ago_42 (by decide) ?_
      have hF := Option.some.inj hF
      subst hF
      exact g_iret X dX10_ago_43 ho
    · rw [if_neg c_4] at hF
      refine g_aload_n X dX10_ago_23 1 rfl rfl ?_
      refine g_getR (f := 93) X dX10_ago_24 flX10_47 rfl rfl h0 ?_
      refine g_aload_n X dX10_ago_27 1 rfl rfl ?_
      refine g_getR (f := 3) X dX10_ago_28 flX10_19 rfl rfl h0 ?_
      refine g_iload_n X dX10_ago_31 2 rfl rfl ?_
      refine g_aload_n X dX10_ago_32 1 rfl rfl ?_
      refine g_getR (f := 96) X dX10_ago_33 flX10_58 rfl rfl h0 ?_
      obtain ⟨r_5, q_6, hF⟩ := obind hF
      refine g_callVi (As := [.ref (ad (a0 + 3)), .int x1, .ref (ad (a0 + 96))]) X dX10_ago_36 mlX10_296 (fun l D cyy => tX0_findAgo (cx_inj X) l D cyy (a0 + 93) (a0 + 3) x1 (a0 + 96) (on_10_5 h0) (on_10_1 h0) (on_10_7 h0) S r_5 q_6) (on_10_5 h0) (by decide) rfl rfl (Nat.le_of_ble_eq_true rfl) ?_
      refine g_goto (tgt := 43) X dX10_ago_39 (by decide) ?_
      have hF := Option.some.inj hF
      subst hF
      exact g_iret X dX10_ago_43 ho
theorem wX10_ago {z : Mx} {ad : Nat → Nat} {o : Option Value × St} (X : CxOk z ad RX10 cX10_ago 3 (some .int) 6) (a0 : Nat) (x1 : Int32) (h0 : KT a0 = 10) (S : St) (r : (Int32 × St)) (ho : o = (some (.int r.1), r.2)) (hF : fX10_ago a0 x1 S = some r) : GW z ad o S 0 [(0, .ref (ad a0)), (1, .int x1)] [] := by
  unfold fX10_ago at hF
  refine g_aload_n X dX10_ago_0 0 rfl rfl ?_
  obtain ⟨r_1, q_2, hF⟩ := obind hF
  refine g_callVi (As := []) X dX10_ago_1 mlX10_288 (fun l D cyy => tX10_takeLetter (cx_inj X) l D cyy a0 h0 S r_1 q_2) h0 (by decide) rfl rfl (Nat.le_of_ble_eq_true rfl) ?_
  exact (wX10_ago_s4 X a0 x1 h0 r_1.1 r_1.2 r ho hF)
theorem tX10_ago {ad : Nat → Nat} (hI : Inj ad) (l : Launch) (D : va_G) (cyy : Nat → ClassId) (a0 : Nat) (x1 : Int32) (h0 : KT a0 = 10) (S : St) (r : (Int32 × St)) (hF : fX10_ago a0 x1 S = some r) : OkM l yX10_ago cX10_ago 3 (some .int) 6 ad D cyy [.ref (ad a0), .int x1] S (some (.int r.1), r.2) := okM_of hI (by decide) (inr_45 _ (List.mem_of_getElem? (i := 17) rfl)) (by show _ ≤ 3; exact Nat.le_of_ble_eq_true rfl) (fun z X => wX10_ago X a0 x1 h0 S r rfl hF)
def fX10_age (a0 : Nat) (x1 : Int32) (x2 : Int32) (x3 : Int32) (x4 : Int32) (S : St) : Option Int32 :=
  if (fX8_hasParish ((a0 + 3) + 1) x1 S) = 0 then (some (-1 : Int32)) else
  ((fX0_countAge (a0 + 93) (a0 + 3) x1 x2 x3 x4 S).bind fun r_2 =>
  some r_2)
theorem wX10_age {z : Mx} {ad : Nat → Nat} {o : Option Value × St} (X : CxOk z ad RX10 cX10_age 5 (some .int) 5) (a0 : Nat) (x1 : Int32) (x2 : Int32) (x3 : Int32) (x4 : Int32) (h0 : KT a0 = 10) (S : St) (r : Int32) (ho : o = (some (.int r), S)) (hF : fX10_age a0 x1 x2 x3 x4 S = some r) : GW z ad o S 0 [(0, .ref (ad a0)), (1, .int x1), (2, .int x2), (3, .int x3), (4, .int x4)] [] := by
  unfold fX10_age at hF
  refine g_aload_n X dX10_age_0 0 rfl rfl ?_
  refine g_getR (f := 3) X dX10_age_1 flX10_19 rfl rfl h0 ?_
  refine g_getR (f := 1) X dX10_age_4 flX10_116 rfl rfl (on_10_1 h0) ?_
  refine g_iload_n X dX10_age_7 1 rfl rfl ?_
  refine g_callVi (As := [.int x1]) X dX10_age_8 mlX10_119 (fun l D cyy => tX8_hasParish (cx_inj X) l D cyy ((a0 + 3) + 1) x1 (on_9_0 (on_10_1 h0)) S) (on_9_0 (on_10_1 h0)) (by decide) rfl rfl (Nat.le_of_ble_eq_true rfl) ?_
  refine g_if_eq (tgt := 33) X dX10_age_11 (by decide) (fun c_1 => ?_) (fun c_1 => ?_)
  · rw [if_pos c_1] at hF
    refine g_iconst (v := -1) X dX10_age_33 (by decide) ?_
    have hF := Option.some.inj hF
    subst hF
    exact g_iret X dX10_age_34 ho
  · rw [if_neg c_1] at hF
    refine g_aload_n X dX10_age_14 0 rfl rfl ?_
    refine g_getR (f := 93) X dX10_age_15 flX10_47 rfl rfl h0 ?_
    refine g_aload_n X dX10_age_18 0 rfl rfl ?_
    refine g_getR (f := 3) X dX10_age_19 flX10_19 rfl rfl h0 ?_
    refine g_iload_n X dX10_age_22 1 rfl rfl ?_
    refine g_iload_n X dX10_age_23 2 rfl rfl ?_
    refine g_iload_n X dX10_age_24 3 rfl rfl ?_
    refine g_iload X dX10_age_25 4 rfl ?_
    obtain ⟨r_2, q_3, hF⟩ := obind hF
    refine g_callVi (As := [.ref (ad (a0 + 3)), .int x1, .int x2, .int x3, .int x4]) X dX10_age_27 mlX10_300 (fun l D cyy => tX0_countAge (cx_inj X) l D cyy (a0 + 93) (a0 + 3) x1 x2 x3 x4 (on_10_5 h0) (on_10_1 h0) S r_2 q_3) (on_10_5 h0) (by decide) rfl rfl (Nat.le_of_ble_eq_true rfl) ?_
    refine g_goto (tgt := 34) X dX10_age_30 (by decide) ?_
    have hF := Option.some.inj hF
    subst hF
    exact g_iret X dX10_age_34 ho
theorem tX10_age {ad : Nat → Nat} (hI : Inj ad) (l : Launch) (D : va_G) (cyy : Nat → ClassId) (a0 : Nat) (x1 : Int32) (x2 : Int32) (x3 : Int32) (x4 : Int32) (h0 : KT a0 = 10) (S : St) (r : Int32) (hF : fX10_age a0 x1 x2 x3 x4 S = some r) : OkM l yX10_age cX10_age 5 (some .int) 5 ad D cyy [.ref (ad a0), .int x1, .int x2, .int x3, .int x4] S (some (.int r), S) := okM_of hI (by decide) (inr_46 _ (List.mem_of_getElem? (i := 5) rfl)) (by show _ ≤ 5; exact Nat.le_of_ble_eq_true rfl) (fun z X => wX10_age X a0 x1 x2 x3 x4 h0 S r rfl hF)
def fX10_ask (a0 : Nat) (S : St) : Option Int32 :=
  (fX0_findQuestion (a0 + 93) (a0 + 3) S).bind fun r_1 =>
  some r_1
theorem wX10_ask {z : Mx} {ad : Nat → Nat} {o : Option Value × St} (X : CxOk z ad RX10 cX10_ask 1 (some .int) 6) (a0 : Nat) (h0 : KT a0 = 10) (S : St) (r : Int32) (ho : o = (some (.int r), S)) (hF : fX10_ask a0 S = some r) : GW z ad o S 0 [(0, .ref (ad a0))] [] := by
  unfold fX10_ask at hF
  refine g_aload_n X dX10_ask_0 0 rfl rfl ?_
  refine g_getR (f := 93) X dX10_ask_1 flX10_47 rfl rfl h0 ?_
  refine g_aload_n X dX10_ask_4 0 rfl rfl ?_
  refine g_getR (f := 3) X dX10_ask_5 flX10_19 rfl rfl h0 ?_
  obtain ⟨r_1, q_2, hF⟩ := obind hF
  refine g_callVi (As := [.ref (ad (a0 + 3))]) X dX10_ask_8 mlX10_304 (fun l D cyy => tX0_findQuestion (cx_inj X) l D cyy (a0 + 93) (a0 + 3) (on_10_5 h0) (on_10_1 h0) S r_1 q_2) (on_10_5 h0) (by decide) rfl rfl (Nat.le_of_ble_eq_true rfl) ?_
  have hF := Option.some.inj hF
  subst hF
  exact g_iret X dX10_ask_11 ho
theorem tX10_ask {ad : Nat → Nat} (hI : Inj ad) (l : Launch) (D : va_G) (cyy : Nat → ClassId) (a0 : Nat) (h0 : KT a0 = 10) (S : St) (r : Int32) (hF : fX10_ask a0 S = some r) : OkM l yX10_ask cX10_ask 1 (some .int) 6 ad D cyy [.ref (ad a0)] S (some (.int r), S) := okM_of hI (by decide) (inr_46 _ (List.mem_of_getElem? (i := 18) rfl)) (by show _ ≤ 1; exact Nat.le_of_ble_eq_true rfl) (fun z X => wX10_ask X a0 h0 S r rfl hF)
def fX10_born (a0 : Nat) (x1 : Int32) (x2 : Int32) (S : St) : Option Int32 :=
  if (fX8_hasParish ((a0 + 3) + 1) x1 S) = 0 then (some (-1 : Int32)) else
  (if x2 < (1 : Int32) then (some (-1 : Int32)) else
  (if (99 : Int32) < x2 then (some (-1 : Int32)) else
  ((fX0_findBirthday (a0 + 93) (a0 + 3) x1 x2 S).bind fun r_4 =>
  some r_4)))
theorem wX10_born {z : Mx} {ad : Nat → Nat} {o : Option Value × St} (X : CxOk z ad RX10 cX10_born 3 (some .int) 4) (a0 : Nat) (x1 : Int32) (x2 : Int32) (h0 : KT a0 = 10) (S : St) (r : Int32) (ho : o = (some (.int r), S)) (hF : fX10_born a0 x1 x2 S = some r) : GW z ad o S 0 [(0, .ref (ad a0)), (1, .int x1), (2, .int x2)] [] := by
  unfold fX10_born at hF
  refine g_aload_n X dX10_born_0 0 rfl rfl ?_
  refine g_getR (f := 3) X dX10_born_1 flX10_19 rfl rfl h0 ?_
  refine g_getR (f := 1) X dX10_born_4 flX10_116 rfl rfl (on_10_1 h0) ?_
  refine g_iload_n X dX10_born_7 1 rfl rfl ?_
  refine g_callVi (As := [.int x1]) X dX10_born_8 mlX10_119 (fun l D cyy => tX8_hasParish (cx_inj X) l D cyy ((a0 + 3) + 1) x1 (on_9_0 (on_10_1 h0)) S) (on_9_0 (on_10_1 h0)) (by decide) rfl rfl (Nat.le_of_ble_eq_true rfl) ?_
  refine g_if_eq (tgt := 41) X dX10_born_11 (by decide) (fun c_1 => ?_) (fun c_1 => ?_)
  · rw [if_pos c_1] at hF
    refine g_iconst (v := -1) X dX10_born_41 (by decide) ?_
    have hF := Option.some.inj hF
    subst hF
    exact g_iret X dX10_born_42 ho
  · rw [if_neg c_1] at hF
    refine g_iload_n X dX10_born_14 2 rfl rfl ?_
    refine g_iconst (v := 1) X dX10_born_15 (by decide) ?_
    refine g_icmp_lt (tgt := 41) X dX10_born_16 (by decide) (fun c_2 => ?_) (fun c_2 => ?_)
    · rw [if_pos c_2] at hF
      refine g_iconst (v := -1) X dX10_born_41 (by decide) ?_
      have hF := Option.some.inj hF
      subst hF
      exact g_iret X dX10_born_42 ho
    · rw [if_neg c_2] at hF
      refine g_iload_n X dX10_born_19 2 rfl rfl ?_
      refine g_bipush (v := 99) X dX10_born_20 (by decide) ?_
      refine g_icmp_gt (tgt := 41) X dX10_born_22 (by decide) (fun c_3 => ?_) (fun c_3 => ?_)
      · rw [if_pos c_3] at hF
        refine g_iconst (v := -1) X dX10_born_41 (by decide) ?_
        have hF := Option.some.inj hF
        subst hF
        exact g_iret X dX10_born_42 ho
      · rw [if_neg c_3] at hF
        refine g_aload_n X dX10_born_25 0 rfl rfl ?_
        refine g_getR (f := 93) X dX10_born_26 flX10_47 rfl rfl h0 ?_
        refine g_aload_n X dX10_born_29 0 rfl rfl ?_
        refine g_getR (f := 3) X dX10_born_30 flX10_19 rfl rfl h0 ?_
        refine g_iload_n X dX10_born_33 1 rfl rfl ?_
        refine g_iload_n X dX10_born_34 2 rfl rfl ?_
        obtain ⟨r_4, q_5, hF⟩ := obind hF
        refine g_callVi (As := [.ref (ad (a0 + 3)), .int x1, .int x2]) X dX10_born_35 mlX10_307 (fun l D cyy => tX0_findBirthday (cx_inj X) l D cyy (a0 + 93) (a0 + 3) x1 x2 (on_10_5 h0) (on_10_1 h0) S r_4 q_5) (on_10_5 h0) (by decide) rfl rfl (Nat.le_of_ble_eq_true rfl) ?_
        refine g_goto (tgt := 42) X dX10_born_38 (by decide) ?_
        have hF := Option.some.inj hF
        subst hF
        exact g_iret X dX10_born_42 ho
theorem tX10_born {ad : Nat → Nat} (hI : Inj ad) (l : Launch) (D : va_G) (cyy : Nat → ClassId) (a0 : Nat) (x1 : Int32) (x2 : Int32) (h0 : KT a0 = 10) (S : St) (r : Int32) (hF : fX10_born a0 x1 x2 S = some r) : OkM l yX10_born cX10_born 3 (some .int) 4 ad D cyy [.ref (ad a0), .int x1, .int x2] S (some (.int r), S) := okM_of hI (by decide) (inr_47 _ (List.mem_of_getElem? (i := 21) rfl)) (by show _ ≤ 3; exact Nat.le_of_ble_eq_true rfl) (fun z X => wX10_born X a0 x1 x2 h0 S r rfl hF)
def fX10_title (a0 : Nat) (x1 : Int32) (S : St) : Option (Int32 × St) :=
  if (fX8_hasParish ((a0 + 3) + 1) x1 S) = 0 then (some ((-1 : Int32), S)) else
  ((fX7_write (a0 + 94) (a0 + 3) x1 S).bind fun r_2 =>
  some ((gI r_2 7 1 (a0 + 94)), r_2))
theorem wX10_title {z : Mx} {ad : Nat → Nat} {o : Option Value × St} (X : CxOk z ad RX10 cX10_title 2 (some .int) 7) (a0 : Nat) (x1 : Int32) (h0 : KT a0 = 10) (S : St) (r : (Int32 × St)) (ho : o = (some (.int r.1), r.2)) (hF : fX10_title a0 x1 S = some r) : GW z ad o S 0 [(0, .ref (ad a0)), (1, .int x1)] [] := by
  unfold fX10_title at hF
  refine g_aload_n X dX10_title_0 0 rfl rfl ?_
  refine g_getR (f := 3) X dX10_title_1 flX10_19 rfl rfl h0 ?_
  refine g_getR (f := 1) X dX10_title_4 flX10_116 rfl rfl (on_10_1 h0) ?_
  refine g_iload_n X dX10_title_7 1 rfl rfl ?_
  refine g_callVi (As := [.int x1]) X dX10_title_8 mlX10_119 (fun l D cyy => tX8_hasParish (cx_inj X) l D cyy ((a0 + 3) + 1) x1 (on_9_0 (on_10_1 h0)) S) (on_9_0 (on_10_1 h0)) (by decide) rfl rfl (Nat.le_of_ble_eq_true rfl) ?_
  refine g_if_ne (tgt := 16) X dX10_title_11 (by decide) (fun c_1 => ?_) (fun c_1 => ?_)
  · rw [if_neg c_1] at hF
    refine g_aload_n X dX10_title_16 0 rfl rfl ?_
    refine g_getR (f := 94) X dX10_title_17 flX10_54 rfl rfl h0 ?_
    refine g_aload_n X dX10_title_20 0 rfl rfl ?_
    refine g_getR (f := 3) X dX10_title_21 flX10_19 rfl rfl h0 ?_
    refine g_iload_n X dX10_title_24 1 rfl rfl ?_
    obtain ⟨r_2, q_3, hF⟩ := obind hF
    refine g_callVv (As := [.ref (ad (a0 + 3)), .int x1]) X dX10_title_25 mlX10_310 (fun l D cyy => tX7_write (cx_inj X) l D cyy (a0 + 94) (a0 + 3) x1 (on_10_6 h0) (on_10_1 h0) S r_2 q_3) (on_10_6 h0) (by decide) rfl rfl (Nat.le_of_ble_eq_true rfl) ?_
    refine g_aload_n X dX10_title_28 0 rfl rfl ?_
    refine g_getR (f := 94) X dX10_title_29 flX10_54 rfl rfl h0 ?_
    refine g_getI X dX10_title_32 flX10_314 rfl (on_10_6 h0) ?_
    have hF := Option.some.inj hF
    subst hF
    exact g_iret X dX10_title_35 ho
  · rw [if_pos c_1] at hF
    refine g_iconst (v := -1) X dX10_title_14 (by decide) ?_
    have hF := Option.some.inj hF
    subst hF
    exact g_iret X dX10_title_15 ho
theorem tX10_title {ad : Nat → Nat} (hI : Inj ad) (l : Launch) (D : va_G) (cyy : Nat → ClassId) (a0 : Nat) (x1 : Int32) (h0 : KT a0 = 10) (S : St) (r : (Int32 × St)) (hF : fX10_title a0 x1 S = some r) : OkM l yX10_title cX10_title 2 (some .int) 7 ad D cyy [.ref (ad a0), .int x1] S (some (.int r.1), r.2) := okM_of hI (by decide) (inr_48 _ (List.mem_of_getElem? (i := 13) rfl)) (by show _ ≤ 2; exact Nat.le_of_ble_eq_true rfl) (fun z X => wX10_title X a0 x1 h0 S r rfl hF)
def fX10_byteAt (a0 : Nat) (x1 : Int32) (S : St) : Option Int32 :=
  if (fX7_has (a0 + 94) x1 S) = 0 then (some (-1 : Int32)) else
  (if (x1 < 0 ∨ 64 ≤ x1.toNatClampNeg) then none else
  some (gA S 23 ((a0 + 94) + 1) x1.toNatClampNeg))
theorem wX10_byteAt {z : Mx} {ad : Nat → Nat} {o : Option Value × St} (X : CxOk z ad RX10 cX10_byteAt 2 (some .int) 2) (a0 : Nat) (x1 : Int32) (h0 : KT a0 = 10) (S : St) (r : Int32) (ho : o = (some (.int r), S)) (hF : fX10_byteAt a0 x1 S = some r) : GW z ad o S 0 [(0, .ref (ad a0)), (1, .int x1)] [] := by
  unfold fX10_byteAt at hF
  refine g_aload_n X dX10_byteAt_0 0 rfl rfl ?_
  refine g_getR (f := 94) X dX10_byteAt_1 flX10_54 rfl rfl h0 ?_
  refine g_iload_n X dX10_byteAt_4 1 rfl rfl ?_
  refine g_callVi (As := [.int x1]) X dX10_byteAt_5 mlX10_315 (fun l D cyy => tX7_has (cx_inj X) l D cyy (a0 + 94) x1 (on_10_6 h0) S) (on_10_6 h0) (by decide) rfl rfl (Nat.le_of_ble_eq_true rfl) ?_
  refine g_if_eq (tgt := 23) X dX10_byteAt_8 (by decide) (fun c_1 => ?_) (fun c_1 => ?_)
  · rw [if_pos c_1] at hF
    refine g_iconst (v := -1) X dX10_byteAt_23 (by decide) ?_
    have hF := Option.some.inj hF
    subst hF
    exact g_iret X dX10_byteAt_24 ho
  · rw [if_neg c_1] at hF
    refine g_aload_n X dX10_byteAt_11 0 rfl rfl ?_
    refine g_getR (f := 94) X dX10_byteAt_12 flX10_54 rfl rfl h0 ?_
    refine g_getR (f := 1) X dX10_byteAt_15 flX10_318 rfl rfl (on_10_6 h0) ?_
    refine g_iload_n X dX10_byteAt_18 1 rfl rfl ?_
    obtain ⟨e_2, hF⟩ := oguard hF
    refine g_bald X dX10_byteAt_19 kd_23 (on_7_0 (on_10_6 h0)) e_2 ?_
    refine g_goto (tgt := 24) X dX10_byteAt_20 (by decide) ?_
    have hF := Option.some.inj hF
    subst hF
    exact g_iret X dX10_byteAt_24 ho
theorem tX10_byteAt {ad : Nat → Nat} (hI : Inj ad) (l : Launch) (D : va_G) (cyy : Nat → ClassId) (a0 : Nat) (x1 : Int32) (h0 : KT a0 = 10) (S : St) (r : Int32) (hF : fX10_byteAt a0 x1 S = some r) : OkM l yX10_byteAt cX10_byteAt 2 (some .int) 2 ad D cyy [.ref (ad a0), .int x1] S (some (.int r), S) := okM_of hI (by decide) (inr_52 _ (List.mem_of_getElem? (i := 22) rfl)) (by show _ ≤ 2; exact Nat.le_of_ble_eq_true rfl) (fun z X => wX10_byteAt X a0 x1 h0 S r rfl hF)
def fX10_drawn_s73 (a0 : Nat) (x1 : Int32) (x2 : Int32) (y3 : Int32)  (S : St) : Option (Int32 × St) :=
  if y3 ≤ 0 then (some (y3, S)) else
  ((fX10_keepForUndo a0 S).bind fun r_7 =>
  some (y3, r_7))
def fX10_drawn_s65 (k32 : Int32 → Int32 → St → Option (Int32 × St)) (a0 : Nat) (x1 : Int32) (x2 : Int32) (y3 : Int32) (t0 : Int32) (S : St) : Option (Int32 × St) :=
  k32 (y3 + (1 : Int32)) t0 S
def fX10_drawn_s32 (k32 : Int32 → Int32 → St → Option (Int32 × St)) (a0 : Nat) (x1 : Int32) (x2 : Int32) (y3 : Int32) (y4 : Int32)  (S : St) : Option (Int32 × St) :=
  if x1 ≤ y3 then (fX10_drawn_s73 a0 x1 x2 y3 S) else
  (if (10000 : Int32) ≤ (gI S 2 0 ((a0 + 3) + 15)) then (fX10_drawn_s73 a0 x1 x2 y3 S) else
  ((fX2_drawDay ((a0 + 3) + 15) y4 S).bind fun r_10 =>
  fX10_drawn_s65 k32 a0 x1 x2 y3 r_10.1 r_10.2))
def fX10_drawn_h32 (a0 : Nat) (x1 : Int32) (x2 : Int32) : Nat → Int32 → Int32 → St → Option (Int32 × St)
  | 0, _, _, _ => none
  | n + 1, y3, y4, S => fX10_drawn_s32 (fX10_drawn_h32 a0 x1 x2 n) a0 x1 x2 y3 y4 S
def fX10_drawn (a0 : Nat) (x1 : Int32) (x2 : Int32) (S : St) : Option (Int32 × St) :=
  if x1 < (1 : Int32) then (some ((-1 : Int32), S)) else
  (if x1 ≤ (99 : Int32) then ((fX2_copyFrom (a0 + 97) ((a0 + 3) + 15) S).bind fun r_3 =>
  fX10_drawn_h32 a0 x1 x2 NN (0 : Int32) x2 r_3) else
  (some ((-1 : Int32), S)))
theorem wX10_drawn_s73 {z : Mx} {ad : Nat → Nat} {o : Option Value × St} (X : CxOk z ad RX10 cX10_drawn 5 (some .int) 5) (a0 : Nat) (x1 : Int32) (x2 : Int32) (h0 : KT a0 = 10) (y3 : Int32)    (S : St) (r : (Int32 × St)) (ho : o = (some (.int r.1), r.2)) (hF : fX10_drawn_s73 a0 x1 x2 y3  S = some r) : GW z ad o S 73 [(0, .ref (ad a0)), (3, .int y3)] [] := by
  unfold fX10_drawn_s73 at hF
  refine g_iload_n X dX10_drawn_73 1 rfl rfl ?_
  refine g_if_le (tgt := 81) X dX10_drawn_74 (by decide) (fun c_6 => ?_) (fun c_6 => ?_)
  · rw [if_pos c_6] at hF
    refine g_iload_n X dX10_drawn_81 1 rfl rfl ?_
    have hF := Option.some.inj hF
    subst hF
    exact g_iret X dX10_drawn_82 ho
  · rw [if_neg c_6] at hF
    refine g_aload_n X dX10_drawn_77 0 rfl rfl ?_
    obtain ⟨r_7, q_8, hF⟩ := obind hF
    refine g_callVv (As := []) X dX10_drawn_78 mlX10_220 (fun l D cyy => tX10_keepForUndo (cx_inj X) l D cyy a0 h0 S r_7 q_8) h0 (by decide) rfl rfl (Nat.le_of_ble_eq_true rfl) ?_
    refine g_iload_n X dX10_drawn_81 1 rfl rfl ?_
    have hF := Option.some.inj hF
    subst hF
    exact g_iret X dX10_drawn_82 ho
theorem wX10_drawn_s65 {z : Mx} {ad : Nat → Nat} {o : Option Value × St} (X : CxOk z ad RX10 cX10_drawn 5 (some .int) 5) (a0 : Nat) (x1 : Int32) (x2 : Int32) (h0 : KT a0 = 10) (y3 : Int32) (t0 : Int32) (k32 : Int32 → Int32 → St → Option (Int32 × St))   (S : St) (r : (Int32 × St)) (ho : o = (some (.int r.1), r.2)) (hk32 : ∀ (y3 : Int32) (y4 : Int32) (S : St), k32 y3 y4 S = some r → GW z ad o S 32 [(0, .ref (ad a0)), (1, .int x1), (3, .int y3), (4, .int y4)] []) (hF : fX10_drawn_s65 k32 a0 x1 x2 y3 t0 S = some r) : GW z ad o S 65 [(0, .ref (ad a0)), (1, .int x1), (3, .int y3)] [.int t0] := by
  unfold fX10_drawn_s65 at hF
  refine g_istore X dX10_drawn_65 (by decide) (lv' := [(4, .int t0), (0, .ref (ad a0)), (1, .int x1), (3, .int y3)]) rfl ?_
  refine g_iinc (v := (y3 + (1 : Int32))) X dX10_drawn_67 3 rfl rfl (by decide) (lv' := [(3, .int (y3 + (1 : Int32))), (4, .int t0), (0, .ref (ad a0)), (1, .int x1)]) rfl ?_
  refine g_goto (tgt := 32) X dX10_drawn_70 (by decide) ?_
  exact g_perm [2, 3, 0, 1] rfl (hk32 (y3 + (1 : Int32)) t0 S hF)
theorem wX10_drawn_s32 {z : Mx} {ad : Nat → Nat} {o : Option Value × St} (X : CxOk z ad RX10 cX10_drawn 5 (some .int) 5) (a0 : Nat) (x1 : Int32) (x2 : Int32) (h0 : KT a0 = 10) (y3 : Int32) (y4 : Int32)  (k32 : Int32 → Int32 → St → Option (Int32 × St))   (S : St) (r : (Int32 × St)) (ho : o = (some (.int r.1), r.2)) (hk32 : ∀ (y3 : Int32) (y4 : Int32) (S : St), k32 y3 y4 S = some r → GW z ad o S 32 [(0, .ref (ad a0)), (1, .int x1), (3, .int y3), (4, .int y4)] []) (hF : fX10_drawn_s32 k32 a0 x1 x2 y3 y4  S = some r) : GW z ad o S 32 [(0, .ref (ad a0)), (1, .int x1), (3, .int y3), (4, .int y4)] [] := by
  unfold fX10_drawn_s32 at hF
  refine g_iload_n X dX10_drawn_32 2 rfl rfl ?_
  refine g_iload_n X dX10_drawn_33 1 rfl rfl ?_
  refine g_icmp_ge (tgt := 73) X dX10_drawn_34 (by decide) (fun c_5 => ?_) (fun c_5 => ?_)
  · rw [if_pos c_5] at hF
    exact g_perm [0, 2] rfl (wX10_drawn_s73 X a0 x1 x2 h0 y3 S r ho hF)
  · rw [if_neg c_5] at hF
    refine g_aload_n X dX10_drawn_37 0 rfl rfl ?_
    refine g_getR (f := 3) X dX10_drawn_38 flX10_19 rfl rfl h0 ?_
    refine g_getR (f := 15) X dX10_drawn_41 flX10_129 rfl rfl (on_10_1 h0) ?_
    refine g_getI X dX10_drawn_44 flX10_190 rfl (on_9_1 (on_10_1 h0)) ?_
    refine g_sipush (v := 10000) X dX10_drawn_47 (by decide) ?_
    refine g_icmp_ge (tgt := 73) X dX10_drawn_50 (by decide) (fun c_9 => ?_) (fun c_9 => ?_)
    · rw [if_pos c_9] at hF
      exact g_perm [0, 2] rfl (wX10_drawn_s73 X a0 x1 x2 h0 y3 S r ho hF)
    · rw [if_neg c_9] at hF
      refine g_aload_n X dX10_drawn_53 0 rfl rfl ?_
      refine g_getR (f := 3) X dX10_drawn_54 flX10_19 rfl rfl h0 ?_
      refine g_getR (f := 15) X dX10_drawn_57 flX10_129 rfl rfl (on_10_1 h0) ?_
      refine g_iload X dX10_drawn_60 3 rfl ?_
      obtain ⟨r_10, q_11, hF⟩ := obind hF
      refine g_callVi (As := [.int y4]) X dX10_drawn_62 mlX10_322 (fun l D cyy => tX2_drawDay (cx_inj X) l D cyy ((a0 + 3) + 15) y4 (on_9_1 (on_10_1 h0)) S r_10 q_11) (on_9_1 (on_10_1 h0)) (by decide) rfl rfl (Nat.le_of_ble_eq_true rfl) ?_
      exact g_perm [0, 1, 2] rfl (wX10_drawn_s65 X a0 x1 x2 h0 y3 r_10.1 k32 r_10.2 r ho hk32 hF)
theorem wX10_drawn_h32 {z : Mx} {ad : Nat → Nat} {o : Option Value × St} (X : CxOk z ad RX10 cX10_drawn 5 (some .int) 5) (a0 : Nat) (x1 : Int32) (x2 : Int32) (h0 : KT a0 = 10)  (r : (Int32 × St)) (ho : o = (some (.int r.1), r.2)) : ∀ (n : Nat) (y3 : Int32) (y4 : Int32) (S : St), fX10_drawn_h32 a0 x1 x2 n y3 y4 S = some r → GW z ad o S 32 [(0, .ref (ad a0)), (1, .int x1), (3, .int y3), (4, .int y4)] [] := by
  intro n
  induction n with
  | zero => intro y3 y4 S  hF; cases hF
  | succ n ih => intro y3 y4 S  hF; exact wX10_drawn_s32 X a0 x1 x2 h0 y3 y4 (fX10_drawn_h32 a0 x1 x2 n)  S r ho ih hF
theorem wX10_drawn {z : Mx} {ad : Nat → Nat} {o : Option Value × St} (X : CxOk z ad RX10 cX10_drawn 5 (some .int) 5) (a0 : Nat) (x1 : Int32) (x2 : Int32) (h0 : KT a0 = 10) (S : St) (r : (Int32 × St)) (ho : o = (some (.int r.1), r.2)) (hF : fX10_drawn a0 x1 x2 S = some r) : GW z ad o S 0 [(0, .ref (ad a0)), (1, .int x1), (2, .int x2)] [] := by
  unfold fX10_drawn at hF
  refine g_iload_n X dX10_drawn_0 1 rfl rfl ?_
  refine g_iconst (v := 1) X dX10_drawn_1 (by decide) ?_
  refine g_icmp_lt (tgt := 11) X dX10_drawn_2 (by decide) (fun c_1 => ?_) (fun c_1 => ?_)
  · rw [if_pos c_1] at hF
    refine g_iconst (v := -1) X dX10_drawn_11 (by decide) ?_
    have hF := Option.some.inj hF
    subst hF
    exact g_iret X dX10_drawn_12 ho
  · rw [if_neg c_1] at hF
    refine g_iload_n X dX10_drawn_5 1 rfl rfl ?_
    refine g_bipush (v := 99) X dX10_drawn_6 (by decide) ?_
    refine g_icmp_le (tgt := 13) X dX10_drawn_8 (by decide) (fun c_2 => ?_) (fun c_2 => ?_)
    · rw [if_pos c_2] at hF
      refine g_aload_n X dX10_drawn_13 0 rfl rfl ?_
      refine g_getR (f := 97) X dX10_drawn_14 flX10_65 rfl rfl h0 ?_
      refine g_aload_n X dX10_drawn_17 0 rfl rfl ?_
      refine g_getR (f := 3) X dX10_drawn_18 flX10_19 rfl rfl h0 ?_
      refine g_getR (f := 15) X dX10_drawn_21 flX10_129 rfl rfl (on_10_1 h0) ?_
      obtain ⟨r_3, q_4, hF⟩ := obind hF
      refine g_callVv (As := [.ref (ad ((a0 + 3) + 15))]) X dX10_drawn_24 mlX10_212 (fun l D cyy => tX2_copyFrom (cx_inj X) l D cyy (a0 + 97) ((a0 + 3) + 15) (on_10_8 h0) (on_9_1 (on_10_1 h0)) S r_3 q_4) (on_10_8 h0) (by decide) rfl rfl (Nat.le_of_ble_eq_true rfl) ?_
      refine g_iconst (v := 0) X dX10_drawn_27 (by decide) ?_
      refine g_istore_n X dX10_drawn_28 rfl (by decide) (lv' := [(3, .int (0 : Int32)), (0, .ref (ad a0)), (1, .int x1), (2, .int x2)]) rfl ?_
      refine g_iload_n X dX10_drawn_29 3 rfl rfl ?_
      refine g_istore X dX10_drawn_30 (by decide) (lv' := [(4, .int x2), (3, .int (0 : Int32)), (0, .ref (ad a0)), (1, .int x1), (2, .int x2)]) rfl ?_
      exact g_perm [2, 3, 1, 0] rfl (wX10_drawn_h32 X a0 x1 x2 h0 r ho NN (0 : Int32) x2 r_3 hF)
    · rw [if_neg c_2] at hF
      refine g_iconst (v := -1) X dX10_drawn_11 (by decide) ?_
      have hF := Option.some.inj hF
      subst hF
      exact g_iret X dX10_drawn_12 ho
theorem tX10_drawn {ad : Nat → Nat} (hI : Inj ad) (l : Launch) (D : va_G) (cyy : Nat → ClassId) (a0 : Nat) (x1 : Int32) (x2 : Int32) (h0 : KT a0 = 10) (S : St) (r : (Int32 × St)) (hF : fX10_drawn a0 x1 x2 S = some r) : OkM l yX10_drawn cX10_drawn 5 (some .int) 5 ad D cyy [.ref (ad a0), .int x1, .int x2] S (some (.int r.1), r.2) := okM_of hI (by decide) (inr_53 _ (List.mem_of_getElem? (i := 11) rfl)) (by show _ ≤ 5; exact Nat.le_of_ble_eq_true rfl) (fun z X => wX10_drawn X a0 x1 x2 h0 S r rfl hF)
def fX10_fallsWhenDrawn_s33 (k5 : Int32 → Int32 → St → Option (Int32 × St)) (a0 : Nat) (x1 : Int32) (x2 : Int32) (y4 : Int32) (t0 : Int32) (S : St) : Option (Int32 × St) :=
  (fX9_fallsBy (a0 + 3) (a0 + 101) x1 S).bind fun r_5 =>
  if r_5 = 0 then (k5 t0 (y4 + (1 : Int32)) S) else
  (some ((1 : Int32), S))
def fX10_fallsWhenDrawn_s5 (k5 : Int32 → Int32 → St → Option (Int32 × St)) (a0 : Nat) (x1 : Int32) (x2 : Int32) (y3 : Int32) (y4 : Int32)  (S : St) : Option (Int32 × St) :=
  if (40 : Int32) ≤ y4 then (some ((0 : Int32), S)) else
  (if (10000 : Int32) ≤ (gI S 2 0 (a0 + 101)) then (some ((0 : Int32), S)) else
  ((fX2_drawDay (a0 + 101) y3 S).bind fun r_3 =>
  fX10_fallsWhenDrawn_s33 k5 a0 x1 x2 y4 r_3.1 r_3.2))
def fX10_fallsWhenDrawn_h5 (a0 : Nat) (x1 : Int32) (x2 : Int32) : Nat → Int32 → Int32 → St → Option (Int32 × St)
  | 0, _, _, _ => none
  | n + 1, y3, y4, S => fX10_fallsWhenDrawn_s5 (fX10_fallsWhenDrawn_h5 a0 x1 x2 n) a0 x1 x2 y3 y4 S
def fX10_fallsWhenDrawn (a0 : Nat) (x1 : Int32) (x2 : Int32) (S : St) : Option (Int32 × St) :=
  fX10_fallsWhenDrawn_h5 a0 x1 x2 NN x2 (0 : Int32) S
theorem wX10_fallsWhenDrawn_s33 {z : Mx} {ad : Nat → Nat} {o : Option Value × St} (X : CxOk z ad RX10 cX10_fallsWhenDrawn 5 (some .boolean) 5) (a0 : Nat) (x1 : Int32) (x2 : Int32) (h0 : KT a0 = 10) (y4 : Int32) (t0 : Int32) (k5 : Int32 → Int32 → St → Option (Int32 × St))   (S : St) (r : (Int32 × St)) (ho : o = (some (.int r.1), r.2)) (hk5 : ∀ (y3 : Int32) (y4 : Int32) (S : St), k5 y3 y4 S = some r → GW z ad o S 5 [(0, .ref (ad a0)), (1, .int x1), (3, .int y3), (4, .int y4)] []) (hF : fX10_fallsWhenDrawn_s33 k5 a0 x1 x2 y4 t0 S = some r) : GW z ad o S 33 [(0, .ref (ad a0)), (1, .int x1), (4, .int y4)] [.int t0] := by
  unfold fX10_fallsWhenDrawn_s33 at hF
  refine g_istore_n X dX10_fallsWhenDrawn_33 rfl (by decide) (lv' := [(3, .int t0), (0, .ref (ad a0)), (1, .int x1), (4, .int y4)]) rfl ?_
  refine g_aload_n X dX10_fallsWhenDrawn_34 1 rfl rfl ?_
  refine g_getR (f := 3) X dX10_fallsWhenDrawn_35 flX10_19 rfl rfl h0 ?_
  refine g_aload_n X dX10_fallsWhenDrawn_38 1 rfl rfl ?_
  refine g_getR (f := 101) X dX10_fallsWhenDrawn_39 flX10_69 rfl rfl h0 ?_
  refine g_iload_n X dX10_fallsWhenDrawn_42 2 rfl rfl ?_
  obtain ⟨r_5, q_6, hF⟩ := obind hF
  refine g_callVi (As := [.ref (ad (a0 + 101)), .int x1]) X dX10_fallsWhenDrawn_43 mlX10_379 (fun l D cyy => tX9_fallsBy (cx_inj X) l D cyy (a0 + 3) (a0 + 101) x1 (on_10_1 h0) (on_10_9 h0) S r_5 q_6) (on_10_1 h0) (by decide) rfl rfl (Nat.le_of_ble_eq_true rfl) ?_
  refine g_if_eq (tgt := 51) X dX10_fallsWhenDrawn_46 (by decide) (fun c_7 => ?_) (fun c_7 => ?_)
  · rw [if_pos c_7] at hF
    refine g_iinc (v := (y4 + (1 : Int32))) X dX10_fallsWhenDrawn_51 3 rfl rfl (by decide) (lv' := [(4, .int (y4 + (1 : Int32))), (3, .int t0), (0, .ref (ad a0)), (1, .int x1)]) rfl ?_
    refine g_goto (tgt := 5) X dX10_fallsWhenDrawn_54 (by decide) ?_
    exact g_perm [2, 3, 1, 0] rfl (hk5 t0 (y4 + (1 : Int32)) S hF)
  · rw [if_neg c_7] at hF
    refine g_iconst (v := 1) X dX10_fallsWhenDrawn_49 (by decide) ?_
    have hF := Option.some.inj hF
    subst hF
    exact g_zret X dX10_fallsWhenDrawn_50 (by decide) ho
theorem wX10_fallsWhenDrawn_s5 {z : Mx} {ad : Nat → Nat} {o : Option Value × St} (X : CxOk z ad RX10 cX10_fallsWhenDrawn 5 (some .boolean) 5) (a0 : Nat) (x1 : Int32) (x2 : Int32) (h0 : KT a0 = 10) (y3 : Int32) (y4 : Int32)  (k5 : Int32 → Int32 → St → Option (Int32 × St))   (S : St) (r : (Int32 × St)) (ho : o = (some (.int r.1), r.2)) (hk5 : ∀ (y3 : Int32) (y4 : Int32) (S : St), k5 y3 y4 S = some r → GW z ad o S 5 [(0, .ref (ad a0)), (1, .int x1), (3, .int y3), (4, .int y4)] []) (hF : fX10_fallsWhenDrawn_s5 k5 a0 x1 x2 y3 y4  S = some r) : GW z ad o S 5 [(0, .ref (ad a0)), (1, .int x1), (3, .int y3), (4, .int y4)] [] := by
  unfold fX10_fallsWhenDrawn_s5 at hF
  refine g_iload X dX10_fallsWhenDrawn_5 3 rfl ?_
  refine g_bipush (v := 40) X dX10_fallsWhenDrawn_7 (by decide) ?_
  refine g_icmp_ge (tgt := 57) X dX10_fallsWhenDrawn_9 (by decide) (fun c_1 => ?_) (fun c_1 => ?_)
  · rw [if_pos c_1] at hF
    refine g_iconst (v := 0) X dX10_fallsWhenDrawn_57 (by decide) ?_
    have hF := Option.some.inj hF
    subst hF
    exact g_zret X dX10_fallsWhenDrawn_58 (by decide) ho
  · rw [if_neg c_1] at hF
    refine g_aload_n X dX10_fallsWhenDrawn_12 0 rfl rfl ?_
    refine g_getR (f := 101) X dX10_fallsWhenDrawn_13 flX10_69 rfl rfl h0 ?_
    refine g_getI X dX10_fallsWhenDrawn_16 flX10_190 rfl (on_10_9 h0) ?_
    refine g_sipush (v := 10000) X dX10_fallsWhenDrawn_19 (by decide) ?_
    refine g_icmp_ge (tgt := 57) X dX10_fallsWhenDrawn_22 (by decide) (fun c_2 => ?_) (fun c_2 => ?_)
    · rw [if_pos c_2] at hF
      refine g_iconst (v := 0) X dX10_fallsWhenDrawn_57 (by decide) ?_
      have hF := Option.some.inj hF
      subst hF
      exact g_zret X dX10_fallsWhenDrawn_58 (by decide) ho
    · rw [if_neg c_2] at hF
      refine g_aload_n X dX10_fallsWhenDrawn_25 0 rfl rfl ?_
      refine g_getR (f := 101) X dX10_fallsWhenDrawn_26 flX10_69 rfl rfl h0 ?_
      refine g_iload_n X dX10_fallsWhenDrawn_29 2 rfl rfl ?_
      obtain ⟨r_3, q_4, hF⟩ := obind hF
      refine g_callVi (As := [.int y3]) X dX10_fallsWhenDrawn_30 mlX10_322 (fun l D cyy => tX2_drawDay (cx_inj X) l D cyy (a0 + 101) y3 (on_10_9 h0) S r_3 q_4) (on_10_9 h0) (by decide) rfl rfl (Nat.le_of_ble_eq_true rfl) ?_
      exact g_perm [0, 1, 3] rfl (wX10_fallsWhenDrawn_s33 X a0 x1 x2 h0 y4 r_3.1 k5 r_3.2 r ho hk5 hF)
theorem wX10_fallsWhenDrawn_h5 {z : Mx} {ad : Nat → Nat} {o : Option Value × St} (X : CxOk z ad RX10 cX10_fallsWhenDrawn 5 (some .boolean) 5) (a0 : Nat) (x1 : Int32) (x2 : Int32) (h0 : KT a0 = 10)  (r : (Int32 × St)) (ho : o = (some (.int r.1), r.2)) : ∀ (n : Nat) (y3 : Int32) (y4 : Int32) (S : St), fX10_fallsWhenDrawn_h5 a0 x1 x2 n y3 y4 S = some r → GW z ad o S 5 [(0, .ref (ad a0)), (1, .int x1), (3, .int y3), (4, .int y4)] [] := by
  intro n
  induction n with
  | zero => intro y3 y4 S  hF; cases hF
  | succ n ih => intro y3 y4 S  hF; exact wX10_fallsWhenDrawn_s5 X a0 x1 x2 h0 y3 y4 (fX10_fallsWhenDrawn_h5 a0 x1 x2 n)  S r ho ih hF
theorem wX10_fallsWhenDrawn {z : Mx} {ad : Nat → Nat} {o : Option Value × St} (X : CxOk z ad RX10 cX10_fallsWhenDrawn 5 (some .boolean) 5) (a0 : Nat) (x1 : Int32) (x2 : Int32) (h0 : KT a0 = 10) (S : St) (r : (Int32 × St)) (ho : o = (some (.int r.1), r.2)) (hF : fX10_fallsWhenDrawn a0 x1 x2 S = some r) : GW z ad o S 0 [(0, .ref (ad a0)), (1, .int x1), (2, .int x2)] [] := by
  unfold fX10_fallsWhenDrawn at hF
  refine g_iload_n X dX10_fallsWhenDrawn_0 2 rfl rfl ?_
  refine g_istore_n X dX10_fallsWhenDrawn_1 rfl (by decide) (lv' := [(3, .int x2), (0, .ref (ad a0)), (1, .int x1), (2, .int x2)]) rfl ?_
  refine g_iconst (v := 0) X dX10_fallsWhenDrawn_2 (by decide) ?_
  refine g_istore X dX10_fallsWhenDrawn_3 (by decide) (lv' := [(4, .int (0 : Int32)), (3, .int x2), (0, .ref (ad a0)), (1, .int x1), (2, .int x2)]) rfl ?_
  exact g_perm [2, 3, 1, 0] rfl (wX10_fallsWhenDrawn_h5 X a0 x1 x2 h0 r ho NN x2 (0 : Int32) S hF)
theorem tX10_fallsWhenDrawn {ad : Nat → Nat} (hI : Inj ad) (l : Launch) (D : va_G) (cyy : Nat → ClassId) (a0 : Nat) (x1 : Int32) (x2 : Int32) (h0 : KT a0 = 10) (S : St) (r : (Int32 × St)) (hF : fX10_fallsWhenDrawn a0 x1 x2 S = some r) : OkM l yX10_fallsWhenDrawn cX10_fallsWhenDrawn 5 (some .boolean) 5 ad D cyy [.ref (ad a0), .int x1, .int x2] S (some (.int r.1), r.2) := okM_of hI (by decide) (inr_54 _ (List.mem_of_getElem? (i := 21) rfl)) (by show _ ≤ 5; exact Nat.le_of_ble_eq_true rfl) (fun z X => wX10_fallsWhenDrawn X a0 x1 x2 h0 S r rfl hF)
def fX10_odds_s68 (k33 : Int32 → Int32 → St → Option (Int32 × St)) (a0 : Nat) (x1 : Int32) (x2 : Int32) (x3 : Int32) (y4 : Int32) (y5 : Int32)  (S : St) : Option (Int32 × St) :=
  k33 y4 (y5 + (1 : Int32)) S
def fX10_odds_s62 (k33 : Int32 → Int32 → St → Option (Int32 × St)) (a0 : Nat) (x1 : Int32) (x2 : Int32) (x3 : Int32) (y4 : Int32) (y5 : Int32) (t0 : Int32) (S : St) : Option (Int32 × St) :=
  if t0 = 0 then (fX10_odds_s68 k33 a0 x1 x2 x3 y4 y5 S) else
  (fX10_odds_s68 k33 a0 x1 x2 x3 (y4 + (1 : Int32)) y5 S)
def fX10_odds_s33 (k33 : Int32 → Int32 → St → Option (Int32 × St)) (a0 : Nat) (x1 : Int32) (x2 : Int32) (x3 : Int32) (y4 : Int32) (y5 : Int32)  (S : St) : Option (Int32 × St) :=
  if x2 ≤ y5 then (some (y4, S)) else
  ((fX2_copyFrom (a0 + 101) ((a0 + 3) + 15) S).bind fun r_5 =>
  (fX10_fallsWhenDrawn a0 x1 (x3 + y5) r_5).bind fun r_7 =>
  fX10_odds_s62 k33 a0 x1 x2 x3 y4 y5 r_7.1 r_7.2)
def fX10_odds_h33 (a0 : Nat) (x1 : Int32) (x2 : Int32) (x3 : Int32) : Nat → Int32 → Int32 → St → Option (Int32 × St)
  | 0, _, _, _ => none
  | n + 1, y4, y5, S => fX10_odds_s33 (fX10_odds_h33 a0 x1 x2 x3 n) a0 x1 x2 x3 y4 y5 S
def fX10_odds (a0 : Nat) (x1 : Int32) (x2 : Int32) (x3 : Int32) (S : St) : Option (Int32 × St) :=
  if (fX8_hasFeast ((a0 + 3) + 1) x1 S) = 0 then (some ((-1 : Int32), S)) else
  (if x2 < (1 : Int32) then (some ((-1 : Int32), S)) else
  (if x2 ≤ (30 : Int32) then (fX10_odds_h33 a0 x1 x2 x3 NN (0 : Int32) (0 : Int32) S) else
  (some ((-1 : Int32), S))))
theorem wX10_odds_s68 {z : Mx} {ad : Nat → Nat} {o : Option Value × St} (X : CxOk z ad RX10 cX10_odds 6 (some .int) 6) (a0 : Nat) (x1 : Int32) (x2 : Int32) (x3 : Int32) (h0 : KT a0 = 10) (y4 : Int32) (y5 : Int32)  (k33 : Int32 → Int32 → St → Option (Int32 × St))   (S : St) (r : (Int32 × St)) (ho : o = (some (.int r.1), r.2)) (hk33 : ∀ (y4 : Int32) (y5 : Int32) (S : St), k33 y4 y5 S = some r → GW z ad o S 33 [(0, .ref (ad a0)), (1, .int x1), (2, .int x2), (3, .int x3), (4, .int y4), (5, .int y5)] []) (hF : fX10_odds_s68 k33 a0 x1 x2 x3 y4 y5  S = some r) : GW z ad o S 68 [(0, .ref (ad a0)), (1, .int x1), (2, .int x2), (3, .int x3), (4, .int y4), (5, .int y5)] [] := by
  unfold fX10_odds_s68 at hF
  refine g_iinc (v := (y5 + (1 : Int32))) X dX10_odds_68 5 rfl rfl (by decide) (lv' := [(5, .int (y5 + (1 : Int32))), (0, .ref (ad a0)), (1, .int x1), (2, .int x2), (3, .int x3), (4, .int y4)]) rfl ?_
  refine g_goto (tgt := 33) X dX10_odds_71 (by decide) ?_
  exact g_perm [1, 2, 3, 4, 5, 0] rfl (hk33 y4 (y5 + (1 : Int32)) S hF)
theorem wX10_odds_s62 {z : Mx} {ad : Nat → Nat} {o : Option Value × St} (X : CxOk z ad RX10 cX10_odds 6 (some .int) 6) (a0 : Nat) (x1 : Int32) (x2 : Int32) (x3 : Int32) (h0 : KT a0 = 10) (y4 : Int32) (y5 : Int32) (t0 : Int32) (k33 : Int32 → Int32 → St → Option (Int32 × St))   (S : St) (r : (Int32 × St)) (ho : o = (some (.int r.1), r.2)) (hk33 : ∀ (y4 : Int32) (y5 : Int32) (S : St), k33 y4 y5 S = some r → GW z ad o S 33 [(0, .ref (ad a0)), (1, .int x1), (2, .int x2), (3, .int x3), (4, .int y4), (5, .int y5)] []) (hF : fX10_odds_s62 k33 a0 x1 x2 x3 y4 y5 t0 S = some r) : GW z ad o S 62 [(0, .ref (ad a0)), (1, .int x1), (2, .int x2), (3, .int x3), (4, .int y4), (5, .int y5)] [.int t0] := by
  unfold fX10_odds_s62 at hF
  refine g_if_eq (tgt := 68) X dX10_odds_62 (by decide) (fun c_9 => ?_) (fun c_9 => ?_)
  · rw [if_pos c_9] at hF
    exact (wX10_odds_s68 X a0 x1 x2 x3 h0 y4 y5 k33 S r ho hk33 hF)
  · rw [if_neg c_9] at hF
    refine g_iinc (v := (y4 + (1 : Int32))) X dX10_odds_65 4 rfl rfl (by decide) (lv' := [(4, .int (y4 + (1 : Int32))), (0, .ref (ad a0)), (1, .int x1), (2, .int x2), (3, .int x3), (5, .int y5)]) rfl ?_
    exact g_perm [1, 2, 3, 4, 0, 5] rfl (wX10_odds_s68 X a0 x1 x2 x3 h0 (y4 + (1 : Int32)) y5 k33 S r ho hk33 hF)
theorem wX10_odds_s33 {z : Mx} {ad : Nat → Nat} {o : Option Value × St} (X : CxOk z ad RX10 cX10_odds 6 (some .int) 6) (a0 : Nat) (x1 : Int32) (x2 : Int32) (x3 : Int32) (h0 : KT a0 = 10) (y4 : Int32) (y5 : Int32)  (k33 : Int32 → Int32 → St → Option (Int32 × St))   (S : St) (r : (Int32 × St)) (ho : o = (some (.int r.1), r.2)) (hk33 : ∀ (y4 : Int32) (y5 : Int32) (S : St), k33 y4 y5 S = some r → GW z ad o S 33 [(0, .ref (ad a0)), (1, .int x1), (2, .int x2), (3, .int x3), (4, .int y4), (5, .int y5)] []) (hF : fX10_odds_s33 k33 a0 x1 x2 x3 y4 y5  S = some r) : GW z ad o S 33 [(0, .ref (ad a0)), (1, .int x1), (2, .int x2), (3, .int x3), (4, .int y4), (5, .int y5)] [] := by
  unfold fX10_odds_s33 at hF
  refine g_iload X dX10_odds_33 5 rfl ?_
  refine g_iload_n X dX10_odds_35 2 rfl rfl ?_
  refine g_icmp_ge (tgt := 74) X dX10_odds_36 (by decide) (fun c_4 => ?_) (fun c_4 => ?_)
  · rw [if_pos c_4] at hF
    refine g_iload X dX10_odds_74 4 rfl ?_
    have hF := Option.some.inj hF
    subst hF
    exact g_iret X dX10_odds_76 ho
  · rw [if_neg c_4] at hF
    refine g_aload_n X dX10_odds_39 0 rfl rfl ?_
    refine g_getR (f := 101) X dX10_odds_40 flX10_69 rfl rfl h0 ?_
    refine g_aload_n X dX10_odds_43 0 rfl rfl ?_
    refine g_getR (f := 3) X dX10_odds_44 flX10_19 rfl rfl h0 ?_
    refine g_getR (f := 15) X dX10_odds_47 flX10_129 rfl rfl (on_10_1 h0) ?_
    obtain ⟨r_5, q_6, hF⟩ := obind hF
    refine g_callVv (As := [.ref (ad ((a0 + 3) + 15))]) X dX10_odds_50 mlX10_212 (fun l D cyy => tX2_copyFrom (cx_inj X) l D cyy (a0 + 101) ((a0 + 3) + 15) (on_10_9 h0) (on_9_1 (on_10_1 h0)) S r_5 q_6) (on_10_9 h0) (by decide) rfl rfl (Nat.le_of_ble_eq_true rfl) ?_
    refine g_aload_n X dX10_odds_53 0 rfl rfl ?_
    refine g_iload_n X dX10_odds_54 1 rfl rfl ?_
    refine g_iload_n X dX10_odds_55 3 rfl rfl ?_
    refine g_iload X dX10_odds_56 5 rfl ?_
    refine g_iadd X dX10_odds_58 ?_
    obtain ⟨r_7, q_8, hF⟩ := obind hF
    refine g_callVi (As := [.int x1, .int (x3 + y5)]) X dX10_odds_59 mlX10_325 (fun l D cyy => tX10_fallsWhenDrawn (cx_inj X) l D cyy a0 x1 (x3 + y5) h0 r_5 r_7 q_8) h0 (by decide) rfl rfl (Nat.le_of_ble_eq_true rfl) ?_
    exact (wX10_odds_s62 X a0 x1 x2 x3 h0 y4 y5 r_7.1 k33 r_7.2 r ho hk33 hF)
theorem wX10_odds_h33 {z : Mx} {ad : Nat → Nat} {o : Option Value × St} (X : CxOk z ad RX10 cX10_odds 6 (some .int) 6) (a0 : Nat) (x1 : Int32) (x2 : Int32) (x3 : Int32) (h0 : KT a0 = 10)  (r : (Int32 × St)) (ho : o = (some (.int r.1), r.2)) : ∀ (n : Nat) (y4 : Int32) (y5 : Int32) (S : St), fX10_odds_h33 a0 x1 x2 x3 n y4 y5 S = some r → GW z ad o S 33 [(0, .ref (ad a0)), (1, .int x1), (2, .int x2), (3, .int x3), (4, .int y4), (5, .int y5)] [] := by
  intro n
  induction n with
  | zero => intro y4 y5 S  hF; cases hF
  | succ n ih => intro y4 y5 S  hF; exact wX10_odds_s33 X a0 x1 x2 x3 h0 y4 y5 (fX10_odds_h33 a0 x1 x2 x3 n)  S r ho ih hF
theorem wX10_odds {z : Mx} {ad : Nat → Nat} {o : Option Value × St} (X : CxOk z ad RX10 cX10_odds 6 (some .int) 6) (a0 : Nat) (x1 : Int32) (x2 : Int32) (x3 : Int32) (h0 : KT a0 = 10) (S : St) (r : (Int32 × St)) (ho : o = (some (.int r.1), r.2)) (hF : fX10_odds a0 x1 x2 x3 S = some r) : GW z ad o S 0 [(0, .ref (ad a0)), (1, .int x1), (2, .int x2), (3, .int x3)] [] := by
  unfold fX10_odds at hF
  refine g_aload_n X dX10_odds_0 0 rfl rfl ?_
  refine g_getR (f := 3) X dX10_odds_1 flX10_19 rfl rfl h0 ?_
  refine g_getR (f := 1) X dX10_odds_4 flX10_116 rfl rfl (on_10_1 h0) ?_
  refine g_iload_n X dX10_odds_7 1 rfl rfl ?_
  refine g_callVi (As := [.int x1]) X dX10_odds_8 mlX10_169 (fun l D cyy => tX8_hasFeast (cx_inj X) l D cyy ((a0 + 3) + 1) x1 (on_9_0 (on_10_1 h0)) S) (on_9_0 (on_10_1 h0)) (by decide) rfl rfl (Nat.le_of_ble_eq_true rfl) ?_
  refine g_if_eq (tgt := 25) X dX10_odds_11 (by decide) (fun c_1 => ?_) (fun c_1 => ?_)
  · rw [if_pos c_1] at hF
    refine g_iconst (v := -1) X dX10_odds_25 (by decide) ?_
    have hF := Option.some.inj hF
    subst hF
    exact g_iret X dX10_odds_26 ho
  · rw [if_neg c_1] at hF
    refine g_iload_n X dX10_odds_14 2 rfl rfl ?_
    refine g_iconst (v := 1) X dX10_odds_15 (by decide) ?_
    refine g_icmp_lt (tgt := 25) X dX10_odds_16 (by decide) (fun c_2 => ?_) (fun c_2 => ?_)
    · rw [if_pos c_2] at hF
      refine g_iconst (v := -1) X dX10_odds_25 (by decide) ?_
      have hF := Option.some.inj hF
      subst hF
      exact g_iret X dX10_odds_26 ho
    · rw [if_neg c_2] at hF
      refine g_iload_n X dX10_odds_19 2 rfl rfl ?_
      refine g_bipush (v := 30) X dX10_odds_20 (by decide) ?_
      refine g_icmp_le (tgt := 27) X dX10_odds_22 (by decide) (fun c_3 => ?_) (fun c_3 => ?_)
      · rw [if_pos c_3] at hF
        refine g_iconst (v := 0) X dX10_odds_27 (by decide) ?_
        refine g_istore X dX10_odds_28 (by decide) (lv' := [(4, .int (0 : Int32)), (0, .ref (ad a0)), (1, .int x1), (2, .int x2), (3, .int x3)]) rfl ?_
        refine g_iconst (v := 0) X dX10_odds_30 (by decide) ?_
        refine g_istore X dX10_odds_31 (by decide) (lv' := [(5, .int (0 : Int32)), (4, .int (0 : Int32)), (0, .ref (ad a0)), (1, .int x1), (2, .int x2), (3, .int x3)]) rfl ?_
        exact g_perm [2, 3, 4, 5, 1, 0] rfl (wX10_odds_h33 X a0 x1 x2 x3 h0 r ho NN (0 : Int32) (0 : Int32) S hF)
      · rw [if_neg c_3] at hF
        refine g_iconst (v := -1) X dX10_odds_25 (by decide) ?_
        have hF := Option.some.inj hF
        subst hF
        exact g_iret X dX10_odds_26 ho
theorem tX10_odds {ad : Nat → Nat} (hI : Inj ad) (l : Launch) (D : va_G) (cyy : Nat → ClassId) (a0 : Nat) (x1 : Int32) (x2 : Int32) (x3 : Int32) (h0 : KT a0 = 10) (S : St) (r : (Int32 × St)) (hF : fX10_odds a0 x1 x2 x3 S = some r) : OkM l yX10_odds cX10_odds 6 (some .int) 6 ad D cyy [.ref (ad a0), .int x1, .int x2, .int x3] S (some (.int r.1), r.2) := okM_of hI (by decide) (inr_54 _ (List.mem_of_getElem? (i := 17) rfl)) (by show _ ≤ 6; exact Nat.le_of_ble_eq_true rfl) (fun z X => wX10_odds X a0 x1 x2 x3 h0 S r rfl hF)
def fX10_book_s111 (a0 : Nat) (x1 : Int32)  (t0 : Int32) (S : St) : Option (Int32 × St) :=
  if (gI S 1 5 (a0 + 90)) ≤ 0 then (some (t0, S)) else
  ((fX10_keepForUndo a0 S).bind fun r_12 =>
  some (t0, r_12))
def fX10_book_s82 (a0 : Nat) (x1 : Int32)  (t0 : Int32) (S : St) : Option (Int32 × St) :=
  some (t0, S)
def fX10_book_s35 (a0 : Nat) (x1 : Int32)   (S : St) : Option (Int32 × St) :=
  if (gI S 10 14 a0) = 0 then (if x1 = 0 then ((fX2_copyFrom (a0 + 101) ((a0 + 3) + 15) S).bind fun r_14 =>
  (fX1_judge (a0 + 90) (a0 + 101) r_14).bind fun r_16 =>
  fX10_book_s82 a0 x1 r_16.1 r_16.2) else
  ((fX2_copyFrom (a0 + 97) ((a0 + 3) + 15) S).bind fun r_7 =>
  (fX1_judge (a0 + 90) ((a0 + 3) + 15) r_7).bind fun r_9 =>
  fX10_book_s111 a0 x1 r_9.1 r_9.2)) else
  (some (((-2 : Int32) - (gI S 6 9 (a0 + 1))), S))
def fX10_book (a0 : Nat) (x1 : Int32) (S : St) : Option (Int32 × St) :=
  if x1 < 0 then (some ((-1000 : Int32), S)) else
  (if x1 ≤ (1 : Int32) then ((fX1_readFrom (a0 + 90) (a0 + 1) ((a0 + 3) + 1) S).bind fun r_3 =>
  fX10_book_s35 a0 x1 (fX10_closeText a0 r_3)) else
  (some ((-1000 : Int32), S)))
theorem wX10_book_s111 {z : Mx} {ad : Nat → Nat} {o : Option Value × St} (X : CxOk z ad RX10 cX10_book 3 (some .int) 7) (a0 : Nat) (x1 : Int32) (h0 : KT a0 = 10)  (t0 : Int32)   (S : St) (r : (Int32 × St)) (ho : o = (some (.int r.1), r.2)) (hF : fX10_book_s111 a0 x1  t0 S = some r) : GW z ad o S 111 [(0, .ref (ad a0))] [.int t0] := by
  unfold fX10_book_s111 at hF
  refine g_istore_n X dX10_book_111 rfl (by decide) (lv' := [(2, .int t0), (0, .ref (ad a0))]) rfl ?_
  refine g_aload_n X dX10_book_112 1 rfl rfl ?_
  refine g_getR (f := 90) X dX10_book_113 flX10_40 rfl rfl h0 ?_
  refine g_getI X dX10_book_116 flX10_335 rfl (on_10_4 h0) ?_
  refine g_if_le (tgt := 126) X dX10_book_119 (by decide) (fun c_11 => ?_) (fun c_11 => ?_)
  · rw [if_pos c_11] at hF
    refine g_iload_n X dX10_book_126 0 rfl rfl ?_
    have hF := Option.some.inj hF
    subst hF
    exact g_iret X dX10_book_127 ho
  · rw [if_neg c_11] at hF
    refine g_aload_n X dX10_book_122 1 rfl rfl ?_
    obtain ⟨r_12, q_13, hF⟩ := obind hF
    refine g_callVv (As := []) X dX10_book_123 mlX10_220 (fun l D cyy => tX10_keepForUndo (cx_inj X) l D cyy a0 h0 S r_12 q_13) h0 (by decide) rfl rfl (Nat.le_of_ble_eq_true rfl) ?_
    refine g_iload_n X dX10_book_126 0 rfl rfl ?_
    have hF := Option.some.inj hF
    subst hF
    exact g_iret X dX10_book_127 ho
theorem wX10_book_s82 {z : Mx} {ad : Nat → Nat} {o : Option Value × St} (X : CxOk z ad RX10 cX10_book 3 (some .int) 7) (a0 : Nat) (x1 : Int32) (h0 : KT a0 = 10)  (t0 : Int32)   (S : St) (r : (Int32 × St)) (ho : o = (some (.int r.1), r.2)) (hF : fX10_book_s82 a0 x1  t0 S = some r) : GW z ad o S 82 [] [.int t0] := by
  unfold fX10_book_s82 at hF
  have hF := Option.some.inj hF
  subst hF
  exact g_iret X dX10_book_82 ho
theorem wX10_book_s35 {z : Mx} {ad : Nat → Nat} {o : Option Value × St} (X : CxOk z ad RX10 cX10_book 3 (some .int) 7) (a0 : Nat) (x1 : Int32) (h0 : KT a0 = 10)     (S : St) (r : (Int32 × St)) (ho : o = (some (.int r.1), r.2)) (hF : fX10_book_s35 a0 x1   S = some r) : GW z ad o S 35 [(0, .ref (ad a0)), (1, .int x1)] [] := by
  unfold fX10_book_s35 at hF
  refine g_aload_n X dX10_book_35 0 rfl rfl ?_
  refine g_getI X dX10_book_36 flX10_103 rfl h0 ?_
  refine g_if_eq (tgt := 53) X dX10_book_39 (by decide) (fun c_5 => ?_) (fun c_5 => ?_)
  · rw [if_pos c_5] at hF
    refine g_iload_n X dX10_book_53 1 rfl rfl ?_
    refine g_if_ne (tgt := 83) X dX10_book_54 (by decide) (fun c_6 => ?_) (fun c_6 => ?_)
    · rw [if_neg c_6] at hF
      refine g_aload_n X dX10_book_83 0 rfl rfl ?_
      refine g_getR (f := 97) X dX10_book_84 flX10_65 rfl rfl h0 ?_
      refine g_aload_n X dX10_book_87 0 rfl rfl ?_
      refine g_getR (f := 3) X dX10_book_88 flX10_19 rfl rfl h0 ?_
      refine g_getR (f := 15) X dX10_book_91 flX10_129 rfl rfl (on_10_1 h0) ?_
      obtain ⟨r_7, q_8, hF⟩ := obind hF
      refine g_callVv (As := [.ref (ad ((a0 + 3) + 15))]) X dX10_book_94 mlX10_212 (fun l D cyy => tX2_copyFrom (cx_inj X) l D cyy (a0 + 97) ((a0 + 3) + 15) (on_10_8 h0) (on_9_1 (on_10_1 h0)) S r_7 q_8) (on_10_8 h0) (by decide) rfl rfl (Nat.le_of_ble_eq_true rfl) ?_
      refine g_aload_n X dX10_book_97 0 rfl rfl ?_
      refine g_getR (f := 90) X dX10_book_98 flX10_40 rfl rfl h0 ?_
      refine g_aload_n X dX10_book_101 0 rfl rfl ?_
      refine g_getR (f := 3) X dX10_book_102 flX10_19 rfl rfl h0 ?_
      refine g_getR (f := 15) X dX10_book_105 flX10_129 rfl rfl (on_10_1 h0) ?_
      obtain ⟨r_9, q_10, hF⟩ := obind hF
      refine g_callVi (As := [.ref (ad ((a0 + 3) + 15))]) X dX10_book_108 mlX10_331 (fun l D cyy => tX1_judge (cx_inj X) l D cyy (a0 + 90) ((a0 + 3) + 15) (on_10_4 h0) (on_9_1 (on_10_1 h0)) r_7 r_9 q_10) (on_10_4 h0) (by decide) rfl rfl (Nat.le_of_ble_eq_true rfl) ?_
      exact g_perm [0] rfl (wX10_book_s111 X a0 x1 h0 r_9.1 r_9.2 r ho hF)
    · rw [if_pos c_6] at hF
      refine g_aload_n X dX10_book_57 0 rfl rfl ?_
      refine g_getR (f := 101) X dX10_book_58 flX10_69 rfl rfl h0 ?_
      refine g_aload_n X dX10_book_61 0 rfl rfl ?_
      refine g_getR (f := 3) X dX10_book_62 flX10_19 rfl rfl h0 ?_
      refine g_getR (f := 15) X dX10_book_65 flX10_129 rfl rfl (on_10_1 h0) ?_
      obtain ⟨r_14, q_15, hF⟩ := obind hF
      refine g_callVv (As := [.ref (ad ((a0 + 3) + 15))]) X dX10_book_68 mlX10_212 (fun l D cyy => tX2_copyFrom (cx_inj X) l D cyy (a0 + 101) ((a0 + 3) + 15) (on_10_9 h0) (on_9_1 (on_10_1 h0)) S r_14 q_15) (on_10_9 h0) (by decide) rfl rfl (Nat.le_of_ble_eq_true rfl) ?_
      refine g_aload_n X dX10_book_71 0 rfl rfl ?_
      refine g_getR (f := 90) X dX10_book_72 flX10_40 rfl rfl h0 ?_
      refine g_aload_n X dX10_book_75 0 rfl rfl ?_
      refine g_getR (f := 101) X dX10_book_76 flX10_69 rfl rfl h0 ?_
      obtain ⟨r_16, q_17, hF⟩ := obind hF
      refine g_callVi (As := [.ref (ad (a0 + 101))]) X dX10_book_79 mlX10_331 (fun l D cyy => tX1_judge (cx_inj X) l D cyy (a0 + 90) (a0 + 101) (on_10_4 h0) (on_10_9 h0) r_14 r_16 q_17) (on_10_4 h0) (by decide) rfl rfl (Nat.le_of_ble_eq_true rfl) ?_
      exact g_perm [] rfl (wX10_book_s82 X a0 x1 h0 r_16.1 r_16.2 r ho hF)
  · rw [if_neg c_5] at hF
    refine g_bipush (v := -2) X dX10_book_42 (by decide) ?_
    refine g_aload_n X dX10_book_44 0 rfl rfl ?_
    refine g_getR (f := 1) X dX10_book_45 flX10_10 rfl rfl h0 ?_
    refine g_getI X dX10_book_48 flX10_106 rfl (on_10_0 h0) ?_
    refine g_isub X dX10_book_51 ?_
    have hF := Option.some.inj hF
    subst hF
    exact g_iret X dX10_book_52 ho
theorem wX10_book {z : Mx} {ad : Nat → Nat} {o : Option Value × St} (X : CxOk z ad RX10 cX10_book 3 (some .int) 7) (a0 : Nat) (x1 : Int32) (h0 : KT a0 = 10) (S : St) (r : (Int32 × St)) (ho : o = (some (.int r.1), r.2)) (hF : fX10_book a0 x1 S = some r) : GW z ad o S 0 [(0, .ref (ad a0)), (1, .int x1)] [] := by
  unfold fX10_book at hF
  refine g_iload_n X dX10_book_0 1 rfl rfl ?_
  refine g_if_lt (tgt := 9) X dX10_book_1 (by decide) (fun c_1 => ?_) (fun c_1 => ?_)
  · rw [if_pos c_1] at hF
    refine g_sipush (v := -1000) X dX10_book_9 (by decide) ?_
    have hF := Option.some.inj hF
    subst hF
    exact g_iret X dX10_book_12 ho
  · rw [if_neg c_1] at hF
    refine g_iload_n X dX10_book_4 1 rfl rfl ?_
    refine g_iconst (v := 1) X dX10_book_5 (by decide) ?_
    refine g_icmp_le (tgt := 13) X dX10_book_6 (by decide) (fun c_2 => ?_) (fun c_2 => ?_)
    · rw [if_pos c_2] at hF
      refine g_aload_n X dX10_book_13 0 rfl rfl ?_
      refine g_getR (f := 90) X dX10_book_14 flX10_40 rfl rfl h0 ?_
      refine g_aload_n X dX10_book_17 0 rfl rfl ?_
      refine g_getR (f := 1) X dX10_book_18 flX10_10 rfl rfl h0 ?_
      refine g_aload_n X dX10_book_21 0 rfl rfl ?_
      refine g_getR (f := 3) X dX10_book_22 flX10_19 rfl rfl h0 ?_
      refine g_getR (f := 1) X dX10_book_25 flX10_116 rfl rfl (on_10_1 h0) ?_
      obtain ⟨r_3, q_4, hF⟩ := obind hF
      refine g_callVv (As := [.ref (ad (a0 + 1)), .ref (ad ((a0 + 3) + 1))]) X dX10_book_28 mlX10_328 (fun l D cyy => tX1_readFrom (cx_inj X) l D cyy (a0 + 90) (a0 + 1) ((a0 + 3) + 1) (on_10_4 h0) (on_10_0 h0) (on_9_0 (on_10_1 h0)) S r_3 q_4) (on_10_4 h0) (by decide) rfl rfl (Nat.le_of_ble_eq_true rfl) ?_
      refine g_aload_n X dX10_book_31 0 rfl rfl ?_
      refine g_callVv (As := []) X dX10_book_32 mlX10_100 (fun l D cyy => tX10_closeText (cx_inj X) l D cyy a0 h0 r_3) h0 (by decide) rfl rfl (Nat.le_of_ble_eq_true rfl) ?_
      exact (wX10_book_s35 X a0 x1 h0 (fX10_closeText a0 r_3) r ho hF)
    · rw [if_neg c_2] at hF
      refine g_sipush (v := -1000) X dX10_book_9 (by decide) ?_
      have hF := Option.some.inj hF
      subst hF
      exact g_iret X dX10_book_12 ho
theorem tX10_book {ad : Nat → Nat} (hI : Inj ad) (l : Launch) (D : va_G) (cyy : Nat → ClassId) (a0 : Nat) (x1 : Int32) (h0 : KT a0 = 10) (S : St) (r : (Int32 × St)) (hF : fX10_book a0 x1 S = some r) : OkM l yX10_book cX10_book 3 (some .int) 7 ad D cyy [.ref (ad a0), .int x1] S (some (.int r.1), r.2) := okM_of hI (by decide) (inr_55 _ (List.mem_of_getElem? (i := 17) rfl)) (by show _ ≤ 3; exact Nat.le_of_ble_eq_true rfl) (fun z X => wX10_book X a0 x1 h0 S r rfl hF)
def fX10_told (a0 : Nat) (x1 : Int32) (S : St) : Int32 :=
  if (gI S 1 3 (a0 + 90)) = 0 then ((-1 : Int32)) else
  (if x1 = 0 then ((gI S 1 4 (a0 + 90))) else
  (if x1 = 1 then ((gI S 1 5 (a0 + 90))) else
  (if x1 = 2 then ((gI S 1 6 (a0 + 90))) else
  (if x1 = 3 then ((gI S 1 7 (a0 + 90))) else
  ((-1 : Int32))))))
theorem wX10_told {z : Mx} {ad : Nat → Nat} {o : Option Value × St} (X : CxOk z ad RX10 cX10_told 2 (some .int) 1) (a0 : Nat) (x1 : Int32) (h0 : KT a0 = 10) (S : St) (r : Int32) (ho : o = (some (.int r), S)) (hF : fX10_told a0 x1 S = r) : GW z ad o S 0 [(0, .ref (ad a0)), (1, .int x1)] [] := by
  unfold fX10_told at hF
  refine g_aload_n X dX10_told_0 0 rfl rfl ?_
  refine g_getR (f := 90) X dX10_told_1 flX10_40 rfl rfl h0 ?_
  refine g_getI X dX10_told_4 flX10_338 rfl (on_10_4 h0) ?_
  refine g_if_ne (tgt := 12) X dX10_told_7 (by decide) (fun c_1 => ?_) (fun c_1 => ?_)
  · rw [if_neg c_1] at hF
    refine g_iload_n X dX10_told_12 1 rfl rfl ?_
    by_cases c_2 : x1 = 0
    · rw [if_pos c_2] at hF
      refine g_tabIn (tgt := 44) (off := 31) X dX10_told_13 (by rw [c_2]; decide) (by rw [c_2]; decide) (by rw [c_2]; decide) (by decide) ?_
      refine g_aload_n X dX10_told_44 0 rfl rfl ?_
      refine g_getR (f := 90) X dX10_told_45 flX10_40 rfl rfl h0 ?_
      refine g_getI X dX10_told_48 flX10_342 rfl (on_10_4 h0) ?_
      subst hF
      exact g_iret X dX10_told_51 ho
    rw [if_neg c_2] at hF
    by_cases c_3 : x1 = 1
    · rw [if_pos c_3] at hF
      refine g_tabIn (tgt := 52) (off := 39) X dX10_told_13 (by rw [c_3]; decide) (by rw [c_3]; decide) (by rw [c_3]; decide) (by decide) ?_
      refine g_aload_n X dX10_told_52 0 rfl rfl ?_
      refine g_getR (f := 90) X dX10_told_53 flX10_40 rfl rfl h0 ?_
      refine g_getI X dX10_told_56 flX10_335 rfl (on_10_4 h0) ?_
      subst hF
      exact g_iret X dX10_told_59 ho
    rw [if_neg c_3] at hF
    by_cases c_4 : x1 = 2
    · rw [if_pos c_4] at hF
      refine g_tabIn (tgt := 60) (off := 47) X dX10_told_13 (by rw [c_4]; decide) (by rw [c_4]; decide) (by rw [c_4]; decide) (by decide) ?_
      refine g_aload_n X dX10_told_60 0 rfl rfl ?_
      refine g_getR (f := 90) X dX10_told_61 flX10_40 rfl rfl h0 ?_
      refine g_getI X dX10_told_64 flX10_345 rfl (on_10_4 h0) ?_
      subst hF
      exact g_iret X dX10_told_67 ho
    rw [if_neg c_4] at hF
    by_cases c_5 : x1 = 3
    · rw [if_pos c_5] at hF
      refine g_tabIn (tgt := 68) (off := 55) X dX10_told_13 (by rw [c_5]; decide) (by rw [c_5]; decide) (by rw [c_5]; decide) (by decide) ?_
      refine g_aload_n X dX10_told_68 0 rfl rfl ?_
      refine g_getR (f := 90) X dX10_told_69 flX10_40 rfl rfl h0 ?_
      refine g_getI X dX10_told_72 flX10_348 rfl (on_10_4 h0) ?_
      subst hF
      exact g_iret X dX10_told_75 ho
    rw [if_neg c_5] at hF
    have c_6 : (x1).toInt < 0 ∨ 3 < (x1).toInt := by
      have := ti_ne (n := 0) c_2 (by decide)
      have := ti_ne (n := 1) c_3 (by decide)
      have := ti_ne (n := 2) c_4 (by decide)
      have := ti_ne (n := 3) c_5 (by decide)
      omega
    refine g_tabOut (tgt := 76) X dX10_told_13 c_6 (by decide) ?_
    refine g_iconst (v := -1) X dX10_told_76 (by decide) ?_
    subst hF
    exact g_iret X dX10_told_77 ho
  · rw [if_pos c_1] at hF
    refine g_iconst (v := -1) X dX10_told_10 (by decide) ?_
    subst hF
    exact g_iret X dX10_told_11 ho
theorem tX10_told {ad : Nat → Nat} (hI : Inj ad) (l : Launch) (D : va_G) (cyy : Nat → ClassId) (a0 : Nat) (x1 : Int32) (h0 : KT a0 = 10) (S : St) : OkM l yX10_told cX10_told 2 (some .int) 1 ad D cyy [.ref (ad a0), .int x1] S (some (.int (fX10_told a0 x1 S)), S) := okM_of hI (by decide) (inr_58 _ (List.mem_of_getElem? (i := 5) rfl)) (by show _ ≤ 2; exact Nat.le_of_ble_eq_true rfl) (fun z X => wX10_told X a0 x1 h0 S _ rfl rfl)
def fX10_said_s61 (k19 : Int32 → Int32 → Option Int32) (a0 : Nat) (x1 : Int32) (y2 : Int32) (y3 : Int32)  (S : St) : Option Int32 :=
  k19 y2 (y3 + (1 : Int32))
def fX10_said_s19 (k19 : Int32 → Int32 → Option Int32) (a0 : Nat) (x1 : Int32) (y2 : Int32) (y3 : Int32)  (S : St) : Option Int32 :=
  if (gI S 8 2 ((a0 + 3) + 1)) ≤ y3 then (if x1 = (-1 : Int32) then (some y2) else
  (some (-1 : Int32))) else
  ((fX5_isTrueOf ((a0 + 3) + 19) (a0 + 3) y3 S).bind fun r_4 =>
  if r_4 = 0 then (fX10_said_s61 k19 a0 x1 y2 y3 S) else
  (if y2 = x1 then (some y3) else
  (fX10_said_s61 k19 a0 x1 (y2 + (1 : Int32)) y3 S)))
def fX10_said_h19 (a0 : Nat) (x1 : Int32) : Nat → Int32 → Int32 → St → Option Int32
  | 0, _, _, _ => none
  | n + 1, y2, y3, S => fX10_said_s19 (fun y2 y3 => fX10_said_h19 a0 x1 n y2 y3 S) a0 x1 y2 y3 S
def fX10_said (a0 : Nat) (x1 : Int32) (S : St) : Option Int32 :=
  if (gI S 5 4 ((a0 + 3) + 19)) = 0 then (some (-1 : Int32)) else
  (fX10_said_h19 a0 x1 NN (0 : Int32) (0 : Int32) S)
theorem wX10_said_s61 {z : Mx} {ad : Nat → Nat} {o : Option Value × St} (X : CxOk z ad RX10 cX10_said 4 (some .int) 7) (a0 : Nat) (x1 : Int32) (h0 : KT a0 = 10) (y2 : Int32) (y3 : Int32)  (k19 : Int32 → Int32 → Option Int32)   (S : St) (r : Int32) (ho : o = (some (.int r), S)) (hk19 : ∀ (y2 : Int32) (y3 : Int32), k19 y2 y3 = some r → GW z ad o S 19 [(0, .ref (ad a0)), (1, .int x1), (2, .int y2), (3, .int y3)] []) (hF : fX10_said_s61 k19 a0 x1 y2 y3  S = some r) : GW z ad o S 61 [(0, .ref (ad a0)), (1, .int x1), (2, .int y2), (3, .int y3)] [] := by
  unfold fX10_said_s61 at hF
  refine g_iinc (v := (y3 + (1 : Int32))) X dX10_said_61 3 rfl rfl (by decide) (lv' := [(3, .int (y3 + (1 : Int32))), (0, .ref (ad a0)), (1, .int x1), (2, .int y2)]) rfl ?_
  refine g_goto (tgt := 19) X dX10_said_64 (by decide) ?_
  exact g_perm [1, 2, 3, 0] rfl (hk19 y2 (y3 + (1 : Int32)) hF)
theorem wX10_said_s19 {z : Mx} {ad : Nat → Nat} {o : Option Value × St} (X : CxOk z ad RX10 cX10_said 4 (some .int) 7) (a0 : Nat) (x1 : Int32) (h0 : KT a0 = 10) (y2 : Int32) (y3 : Int32)  (k19 : Int32 → Int32 → Option Int32)   (S : St) (r : Int32) (ho : o = (some (.int r), S)) (hk19 : ∀ (y2 : Int32) (y3 : Int32), k19 y2 y3 = some r → GW z ad o S 19 [(0, .ref (ad a0)), (1, .int x1), (2, .int y2), (3, .int y3)] []) (hF : fX10_said_s19 k19 a0 x1 y2 y3  S = some r) : GW z ad o S 19 [(0, .ref (ad a0)), (1, .int x1), (2, .int y2), (3, .int y3)] [] := by
  unfold fX10_said_s19 at hF
  refine g_iload_n X dX10_said_19 3 rfl rfl ?_
  refine g_aload_n X dX10_said_20 0 rfl rfl ?_
  refine g_getR (f := 3) X dX10_said_21 flX10_19 rfl rfl h0 ?_
  refine g_getR (f := 1) X dX10_said_24 flX10_116 rfl rfl (on_10_1 h0) ?_
  refine g_getI X dX10_said_27 flX10_239 rfl (on_9_0 (on_10_1 h0)) ?_
  refine g_icmp_ge (tgt := 67) X dX10_said_30 (by decide) (fun c_2 => ?_) (fun c_2 => ?_)
  · rw [if_pos c_2] at hF
    refine g_iload_n X dX10_said_67 1 rfl rfl ?_
    refine g_iconst (v := -1) X dX10_said_68 (by decide) ?_
    refine g_icmp_ne (tgt := 76) X dX10_said_69 (by decide) (fun c_3 => ?_) (fun c_3 => ?_)
    · rw [if_neg c_3] at hF
      refine g_iconst (v := -1) X dX10_said_76 (by decide) ?_
      have hF := Option.some.inj hF
      subst hF
      exact g_iret X dX10_said_77 ho
    · rw [if_pos c_3] at hF
      refine g_iload_n X dX10_said_72 2 rfl rfl ?_
      refine g_goto (tgt := 77) X dX10_said_73 (by decide) ?_
      have hF := Option.some.inj hF
      subst hF
      exact g_iret X dX10_said_77 ho
  · rw [if_neg c_2] at hF
    refine g_aload_n X dX10_said_33 0 rfl rfl ?_
    refine g_getR (f := 3) X dX10_said_34 flX10_19 rfl rfl h0 ?_
    refine g_getR (f := 19) X dX10_said_37 flX10_352 rfl rfl (on_10_1 h0) ?_
    refine g_aload_n X dX10_said_40 0 rfl rfl ?_
    refine g_getR (f := 3) X dX10_said_41 flX10_19 rfl rfl h0 ?_
    refine g_iload_n X dX10_said_44 3 rfl rfl ?_
    obtain ⟨r_4, q_5, hF⟩ := obind hF
    refine g_callVi (As := [.ref (ad (a0 + 3)), .int y3]) X dX10_said_45 mlX10_361 (fun l D cyy => tX5_isTrueOf (cx_inj X) l D cyy ((a0 + 3) + 19) (a0 + 3) y3 (on_9_2 (on_10_1 h0)) (on_10_1 h0) S r_4 q_5) (on_9_2 (on_10_1 h0)) (by decide) rfl rfl (Nat.le_of_ble_eq_true rfl) ?_
    refine g_if_eq (tgt := 61) X dX10_said_48 (by decide) (fun c_6 => ?_) (fun c_6 => ?_)
    · rw [if_pos c_6] at hF
      exact (wX10_said_s61 X a0 x1 h0 y2 y3 k19 S r ho hk19 hF)
    · rw [if_neg c_6] at hF
      refine g_iload_n X dX10_said_51 2 rfl rfl ?_
      refine g_iload_n X dX10_said_52 1 rfl rfl ?_
      refine g_icmp_ne (tgt := 58) X dX10_said_53 (by decide) (fun c_7 => ?_) (fun c_7 => ?_)
      · rw [if_neg c_7] at hF
        refine g_iinc (v := (y2 + (1 : Int32))) X dX10_said_58 2 rfl rfl (by decide) (lv' := [(2, .int (y2 + (1 : Int32))), (0, .ref (ad a0)), (1, .int x1), (3, .int y3)]) rfl ?_
        exact g_perm [1, 2, 0, 3] rfl (wX10_said_s61 X a0 x1 h0 (y2 + (1 : Int32)) y3 k19 S r ho hk19 hF)
      · rw [if_pos c_7] at hF
        refine g_iload_n X dX10_said_56 3 rfl rfl ?_
        have hF := Option.some.inj hF
        subst hF
        exact g_iret X dX10_said_57 ho
theorem wX10_said_h19 {z : Mx} {ad : Nat → Nat} {o : Option Value × St} (X : CxOk z ad RX10 cX10_said 4 (some .int) 7) (a0 : Nat) (x1 : Int32) (h0 : KT a0 = 10)  (S : St) (r : Int32) (ho : o = (some (.int r), S)) : ∀ (n : Nat) (y2 : Int32) (y3 : Int32), fX10_said_h19 a0 x1 n y2 y3 S = some r → GW z ad o S 19 [(0, .ref (ad a0)), (1, .int x1), (2, .int y2), (3, .int y3)] [] := by
  intro n
  induction n with
  | zero => intro y2 y3  hF; cases hF
  | succ n ih => intro y2 y3  hF; exact wX10_said_s19 X a0 x1 h0 y2 y3 (fun y2 y3 => fX10_said_h19 a0 x1 n y2 y3 S)  S r ho (fun y2 y3 hF => ih y2 y3  hF) hF
theorem wX10_said {z : Mx} {ad : Nat → Nat} {o : Option Value × St} (X : CxOk z ad RX10 cX10_said 4 (some .int) 7) (a0 : Nat) (x1 : Int32) (h0 : KT a0 = 10) (S : St) (r : Int32) (ho : o = (some (.int r), S)) (hF : fX10_said a0 x1 S = some r) : GW z ad o S 0 [(0, .ref (ad a0)), (1, .int x1)] [] := by
  unfold fX10_said at hF
  refine g_aload_n X dX10_said_0 0 rfl rfl ?_
  refine g_getR (f := 3) X dX10_said_1 flX10_19 rfl rfl h0 ?_
  refine g_getR (f := 19) X dX10_said_4 flX10_352 rfl rfl (on_10_1 h0) ?_
  refine g_getI X dX10_said_7 flX10_358 rfl (on_9_2 (on_10_1 h0)) ?_
  refine g_if_ne (tgt := 15) X dX10_said_10 (by decide) (fun c_1 => ?_) (fun c_1 => ?_)
  · rw [if_neg c_1] at hF
    refine g_iconst (v := 0) X dX10_said_15 (by decide) ?_
    refine g_istore_n X dX10_said_16 rfl (by decide) (lv' := [(2, .int (0 : Int32)), (0, .ref (ad a0)), (1, .int x1)]) rfl ?_
    refine g_iconst (v := 0) X dX10_said_17 (by decide) ?_
    refine g_istore_n X dX10_said_18 rfl (by decide) (lv' := [(3, .int (0 : Int32)), (2, .int (0 : Int32)), (0, .ref (ad a0)), (1, .int x1)]) rfl ?_
    exact g_perm [2, 3, 1, 0] rfl (wX10_said_h19 X a0 x1 h0 S r ho NN (0 : Int32) (0 : Int32) hF)
  · rw [if_pos c_1] at hF
    refine g_iconst (v := -1) X dX10_said_13 (by decide) ?_
    have hF := Option.some.inj hF
    subst hF
    exact g_iret X dX10_said_14 ho
theorem tX10_said {ad : Nat → Nat} (hI : Inj ad) (l : Launch) (D : va_G) (cyy : Nat → ClassId) (a0 : Nat) (x1 : Int32) (h0 : KT a0 = 10) (S : St) (r : Int32) (hF : fX10_said a0 x1 S = some r) : OkM l yX10_said cX10_said 4 (some .int) 7 ad D cyy [.ref (ad a0), .int x1] S (some (.int r), S) := okM_of hI (by decide) (inr_62 _ (List.mem_of_getElem? (i := 20) rfl)) (by show _ ≤ 4; exact Nat.le_of_ble_eq_true rfl) (fun z X => wX10_said X a0 x1 h0 S r rfl hF)
def fX10_image_s31 (a0 : Nat) (x1 : Int32)   (S : St) : Option (Int32 × St) :=
  some ((1 : Int32), S)
def fX10_image (a0 : Nat) (x1 : Int32) (S : St) : Option (Int32 × St) :=
  if x1 < 0 then (some ((0 : Int32), S)) else
  (if x1 < (2 : Int32) then (if (x1 < 0 ∨ 2 ≤ x1.toNatClampNeg) then none else
  (fX9_copyFrom (26 + 23 * x1.toNatClampNeg) (a0 + 3) S).bind fun r_4 =>
  if (x1 < 0 ∨ 2 ≤ x1.toNatClampNeg) then none else
  fX10_image_s31 a0 x1 (sA r_4 27 (a0 + 139) x1.toNatClampNeg (vp_nar .boolean (1 : Int32)))) else
  (some ((0 : Int32), S)))
theorem wX10_image_s31 {z : Mx} {ad : Nat → Nat} {o : Option Value × St} (X : CxOk z ad RX10 cX10_image 2 (some .boolean) 4) (a0 : Nat) (x1 : Int32) (h0 : KT a0 = 10)     (S : St) (r : (Int32 × St)) (ho : o = (some (.int r.1), r.2)) (hF : fX10_image_s31 a0 x1   S = some r) : GW z ad o S 31 [] [] := by
  unfold fX10_image_s31 at hF
  refine g_iconst (v := 1) X dX10_image_31 (by decide) ?_
  have hF := Option.some.inj hF
  subst hF
  exact g_zret X dX10_image_32 (by decide) ho
theorem wX10_image {z : Mx} {ad : Nat → Nat} {o : Option Value × St} (X : CxOk z ad RX10 cX10_image 2 (some .boolean) 4) (a0 : Nat) (x1 : Int32) (h0 : KT a0 = 10) (S : St) (r : (Int32 × St)) (ho : o = (some (.int r.1), r.2)) (hF : fX10_image a0 x1 S = some r) : GW z ad o S 0 [(0, .ref (ad a0)), (1, .int x1)] [] := by
  unfold fX10_image at hF
  refine g_iload_n X dX10_image_0 1 rfl rfl ?_
  refine g_if_lt (tgt := 9) X dX10_image_1 (by decide) (fun c_1 => ?_) (fun c_1 => ?_)
  · rw [if_pos c_1] at hF
    refine g_iconst (v := 0) X dX10_image_9 (by decide) ?_
    have hF := Option.some.inj hF
    subst hF
    exact g_zret X dX10_image_10 (by decide) ho
  · rw [if_neg c_1] at hF
    refine g_iload_n X dX10_image_4 1 rfl rfl ?_
    refine g_iconst (v := 2) X dX10_image_5 (by decide) ?_
    refine g_icmp_lt (tgt := 11) X dX10_image_6 (by decide) (fun c_2 => ?_) (fun c_2 => ?_)
    · rw [if_pos c_2] at hF
      refine g_aload_n X dX10_image_11 0 rfl rfl ?_
      refine g_getR (f := 138) X dX10_image_12 flX10_76 rfl rfl h0 ?_
      refine g_iload_n X dX10_image_15 1 rfl rfl ?_
      obtain ⟨e_3, hF⟩ := oguard hF
      refine g_aaldW X dX10_image_16 (on_10_12 h0) rfl e_3 ?_
      refine g_aload_n X dX10_image_17 0 rfl rfl ?_
      refine g_getR (f := 3) X dX10_image_18 flX10_19 rfl rfl h0 ?_
      obtain ⟨r_4, q_5, hF⟩ := obind hF
      refine g_callVv (As := [.ref (ad (a0 + 3))]) X dX10_image_21 mlX10_365 (fun l D cyy => tX9_copyFrom (cx_inj X) l D cyy (26 + 23 * x1.toNatClampNeg) (a0 + 3) (on_w (inb e_3)) (on_10_1 h0) S r_4 q_5) (on_w (inb e_3)) (by decide) rfl rfl (Nat.le_of_ble_eq_true rfl) ?_
      refine g_aload_n X dX10_image_24 0 rfl rfl ?_
      refine g_getR (f := 139) X dX10_image_25 flX10_80 rfl rfl h0 ?_
      refine g_iload_n X dX10_image_28 1 rfl rfl ?_
      refine g_iconst (v := 1) X dX10_image_29 (by decide) ?_
      obtain ⟨e_6, hF⟩ := oguard hF
      refine g_zast X dX10_image_30 kd_27 (on_10_13 h0) e_6 ?_
      exact g_perm [] rfl (wX10_image_s31 X a0 x1 h0 (sA r_4 27 (a0 + 139) x1.toNatClampNeg (vp_nar .boolean (1 : Int32))) r ho hF)
    · rw [if_neg c_2] at hF
      refine g_iconst (v := 0) X dX10_image_9 (by decide) ?_
      have hF := Option.some.inj hF
      subst hF
      exact g_zret X dX10_image_10 (by decide) ho
theorem tX10_image {ad : Nat → Nat} (hI : Inj ad) (l : Launch) (D : va_G) (cyy : Nat → ClassId) (a0 : Nat) (x1 : Int32) (h0 : KT a0 = 10) (S : St) (r : (Int32 × St)) (hF : fX10_image a0 x1 S = some r) : OkM l yX10_image cX10_image 2 (some .boolean) 4 ad D cyy [.ref (ad a0), .int x1] S (some (.int r.1), r.2) := okM_of hI (by decide) (inr_64 _ (List.mem_of_getElem? (i := 12) rfl)) (by show _ ≤ 2; exact Nat.le_of_ble_eq_true rfl) (fun z X => wX10_image X a0 x1 h0 S r rfl hF)
def fX10_restore_s38 (a0 : Nat) (x1 : Int32)   (S : St) : Option (Int32 × St) :=
  some ((1 : Int32), S)
def fX10_restore (a0 : Nat) (x1 : Int32) (S : St) : Option (Int32 × St) :=
  if x1 < 0 then (some ((0 : Int32), S)) else
  (if (2 : Int32) ≤ x1 then (some ((0 : Int32), S)) else
  (if (x1 < 0 ∨ 2 ≤ x1.toNatClampNeg) then none else
  if (gA S 27 (a0 + 139) x1.toNatClampNeg) = 0 then (some ((0 : Int32), S)) else
  (if (x1 < 0 ∨ 2 ≤ x1.toNatClampNeg) then none else
  (fX9_copyFrom (a0 + 3) (26 + 23 * x1.toNatClampNeg) S).bind fun r_6 =>
  fX10_restore_s38 a0 x1 (sI r_6 10 11 a0 (0 : Int32)))))
theorem wX10_restore_s38 {z : Mx} {ad : Nat → Nat} {o : Option Value × St} (X : CxOk z ad RX10 cX10_restore 2 (some .boolean) 4) (a0 : Nat) (x1 : Int32) (h0 : KT a0 = 10)     (S : St) (r : (Int32 × St)) (ho : o = (some (.int r.1), r.2)) (hF : fX10_restore_s38 a0 x1   S = some r) : GW z ad o S 38 [] [] := by
  unfold fX10_restore_s38 at hF
  refine g_iconst (v := 1) X dX10_restore_38 (by decide) ?_
  have hF := Option.some.inj hF
  subst hF
  exact g_zret X dX10_restore_39 (by decide) ho
theorem wX10_restore {z : Mx} {ad : Nat → Nat} {o : Option Value × St} (X : CxOk z ad RX10 cX10_restore 2 (some .boolean) 4) (a0 : Nat) (x1 : Int32) (h0 : KT a0 = 10) (S : St) (r : (Int32 × St)) (ho : o = (some (.int r.1), r.2)) (hF : fX10_restore a0 x1 S = some r) : GW z ad o S 0 [(0, .ref (ad a0)), (1, .int x1)] [] := by
  unfold fX10_restore at hF
  refine g_iload_n X dX10_restore_0 1 rfl rfl ?_
  refine g_if_lt (tgt := 18) X dX10_restore_1 (by decide) (fun c_1 => ?_) (fun c_1 => ?_)
  · rw [if_pos c_1] at hF
    refine g_iconst (v := 0) X dX10_restore_18 (by decide) ?_
    have hF := Option.some.inj hF
    subst hF
    exact g_zret X dX10_restore_19 (by decide) ho
  · rw [if_neg c_1] at hF
    refine g_iload_n X dX10_restore_4 1 rfl rfl ?_
    refine g_iconst (v := 2) X dX10_restore_5 (by decide) ?_
    refine g_icmp_ge (tgt := 18) X dX10_restore_6 (by decide) (fun c_2 => ?_) (fun c_2 => ?_)
    · rw [if_pos c_2] at hF
      refine g_iconst (v := 0) X dX10_restore_18 (by decide) ?_
      have hF := Option.some.inj hF
      subst hF
      exact g_zret X dX10_restore_19 (by decide) ho
    · rw [if_neg c_2] at hF
      refine g_aload_n X dX10_restore_9 0 rfl rfl ?_
      refine g_getR (f := 139) X dX10_restore_10 flX10_80 rfl rfl h0 ?_
      refine g_iload_n X dX10_restore_13 1 rfl rfl ?_
      obtain ⟨e_3, hF⟩ := oguard hF
      refine g_zald X dX10_restore_14 kd_27 (on_10_13 h0) e_3 ?_
      refine g_if_ne (tgt := 20) X dX10_restore_15 (by decide) (fun c_4 => ?_) (fun c_4 => ?_)
      · rw [if_neg c_4] at hF
        refine g_aload_n X dX10_restore_20 0 rfl rfl ?_
        refine g_getR (f := 3) X dX10_restore_21 flX10_19 rfl rfl h0 ?_
        refine g_aload_n X dX10_restore_24 0 rfl rfl ?_
        refine g_getR (f := 138) X dX10_restore_25 flX10_76 rfl rfl h0 ?_
        refine g_iload_n X dX10_restore_28 1 rfl rfl ?_
        obtain ⟨e_5, hF⟩ := oguard hF
        refine g_aaldW X dX10_restore_29 (on_10_12 h0) rfl e_5 ?_
        obtain ⟨r_6, q_7, hF⟩ := obind hF
        refine g_callVv (As := [.ref (ad (26 + 23 * x1.toNatClampNeg))]) X dX10_restore_30 mlX10_365 (fun l D cyy => tX9_copyFrom (cx_inj X) l D cyy (a0 + 3) (26 + 23 * x1.toNatClampNeg) (on_10_1 h0) (on_w (inb e_5)) S r_6 q_7) (on_10_1 h0) (by decide) rfl rfl (Nat.le_of_ble_eq_true rfl) ?_
        refine g_aload_n X dX10_restore_33 0 rfl rfl ?_
        refine g_iconst (v := 0) X dX10_restore_34 (by decide) ?_
        refine g_putI X dX10_restore_35 fpX10_113 rfl rfl rfl h0 ?_
        exact g_perm [] rfl (wX10_restore_s38 X a0 x1 h0 (sI r_6 10 11 a0 (0 : Int32)) r ho hF)
      · rw [if_pos c_4] at hF
        refine g_iconst (v := 0) X dX10_restore_18 (by decide) ?_
        have hF := Option.some.inj hF
        subst hF
        exact g_zret X dX10_restore_19 (by decide) ho
theorem tX10_restore {ad : Nat → Nat} (hI : Inj ad) (l : Launch) (D : va_G) (cyy : Nat → ClassId) (a0 : Nat) (x1 : Int32) (h0 : KT a0 = 10) (S : St) (r : (Int32 × St)) (hF : fX10_restore a0 x1 S = some r) : OkM l yX10_restore cX10_restore 2 (some .boolean) 4 ad D cyy [.ref (ad a0), .int x1] S (some (.int r.1), r.2) := okM_of hI (by decide) (inr_65 _ (List.mem_of_getElem? (i := 2) rfl)) (by show _ ≤ 2; exact Nat.le_of_ble_eq_true rfl) (fun z X => wX10_restore X a0 x1 h0 S r rfl hF)
def fX10_count (a0 : Nat) (x1 : Int32) (S : St) : Int32 :=
  if x1 = 0 then ((gI S 8 2 ((a0 + 3) + 1))) else
  (if x1 = 1 then ((gI S 8 3 ((a0 + 3) + 1))) else
  (if x1 = 2 then ((gI S 8 4 ((a0 + 3) + 1))) else
  (if x1 = 3 then ((gI S 8 5 ((a0 + 3) + 1))) else
  (if x1 = 4 then ((gI S 6 1 (a0 + 1))) else
  ((-1 : Int32))))))
theorem wX10_count {z : Mx} {ad : Nat → Nat} {o : Option Value × St} (X : CxOk z ad RX10 cX10_count 2 (some .int) 1) (a0 : Nat) (x1 : Int32) (h0 : KT a0 = 10) (S : St) (r : Int32) (ho : o = (some (.int r), S)) (hF : fX10_count a0 x1 S = r) : GW z ad o S 0 [(0, .ref (ad a0)), (1, .int x1)] [] := by
  unfold fX10_count at hF
  refine g_iload_n X dX10_count_0 1 rfl rfl ?_
  by_cases c_1 : x1 = 0
  · rw [if_pos c_1] at hF
    refine g_tabIn (tgt := 36) (off := 35) X dX10_count_1 (by rw [c_1]; decide) (by rw [c_1]; decide) (by rw [c_1]; decide) (by decide) ?_
    refine g_aload_n X dX10_count_36 0 rfl rfl ?_
    refine g_getR (f := 3) X dX10_count_37 flX10_19 rfl rfl h0 ?_
    refine g_getR (f := 1) X dX10_count_40 flX10_116 rfl rfl (on_10_1 h0) ?_
    refine g_getI X dX10_count_43 flX10_239 rfl (on_9_0 (on_10_1 h0)) ?_
    subst hF
    exact g_iret X dX10_count_46 ho
  rw [if_neg c_1] at hF
  by_cases c_2 : x1 = 1
  · rw [if_pos c_2] at hF
    refine g_tabIn (tgt := 47) (off := 46) X dX10_count_1 (by rw [c_2]; decide) (by rw [c_2]; decide) (by rw [c_2]; decide) (by decide) ?_
    refine g_aload_n X dX10_count_47 0 rfl rfl ?_
    refine g_getR (f := 3) X dX10_count_48 flX10_19 rfl rfl h0 ?_
    refine g_getR (f := 1) X dX10_count_51 flX10_116 rfl rfl (on_10_1 h0) ?_
    refine g_getI X dX10_count_54 flX10_368 rfl (on_9_0 (on_10_1 h0)) ?_
    subst hF
    exact g_iret X dX10_count_57 ho
  rw [if_neg c_2] at hF
  by_cases c_3 : x1 = 2
  · rw [if_pos c_3] at hF
    refine g_tabIn (tgt := 58) (off := 57) X dX10_count_1 (by rw [c_3]; decide) (by rw [c_3]; decide) (by rw [c_3]; decide) (by decide) ?_
    refine g_aload_n X dX10_count_58 0 rfl rfl ?_
    refine g_getR (f := 3) X dX10_count_59 flX10_19 rfl rfl h0 ?_
    refine g_getR (f := 1) X dX10_count_62 flX10_116 rfl rfl (on_10_1 h0) ?_
    refine g_getI X dX10_count_65 flX10_371 rfl (on_9_0 (on_10_1 h0)) ?_
    subst hF
    exact g_iret X dX10_count_68 ho
  rw [if_neg c_3] at hF
  by_cases c_4 : x1 = 3
  · rw [if_pos c_4] at hF
    refine g_tabIn (tgt := 69) (off := 68) X dX10_count_1 (by rw [c_4]; decide) (by rw [c_4]; decide) (by rw [c_4]; decide) (by decide) ?_
    refine g_aload_n X dX10_count_69 0 rfl rfl ?_
    refine g_getR (f := 3) X dX10_count_70 flX10_19 rfl rfl h0 ?_
    refine g_getR (f := 1) X dX10_count_73 flX10_116 rfl rfl (on_10_1 h0) ?_
    refine g_getI X dX10_count_76 flX10_374 rfl (on_9_0 (on_10_1 h0)) ?_
    subst hF
    exact g_iret X dX10_count_79 ho
  rw [if_neg c_4] at hF
  by_cases c_5 : x1 = 4
  · rw [if_pos c_5] at hF
    refine g_tabIn (tgt := 80) (off := 79) X dX10_count_1 (by rw [c_5]; decide) (by rw [c_5]; decide) (by rw [c_5]; decide) (by decide) ?_
    refine g_aload_n X dX10_count_80 0 rfl rfl ?_
    refine g_getR (f := 1) X dX10_count_81 flX10_10 rfl rfl h0 ?_
    refine g_getI X dX10_count_84 flX10_92 rfl (on_10_0 h0) ?_
    subst hF
    exact g_iret X dX10_count_87 ho
  rw [if_neg c_5] at hF
  have c_6 : (x1).toInt < 0 ∨ 4 < (x1).toInt := by
    have := ti_ne (n := 0) c_1 (by decide)
    have := ti_ne (n := 1) c_2 (by decide)
    have := ti_ne (n := 2) c_3 (by decide)
    have := ti_ne (n := 3) c_4 (by decide)
    have := ti_ne (n := 4) c_5 (by decide)
    omega
  refine g_tabOut (tgt := 88) X dX10_count_1 c_6 (by decide) ?_
  refine g_iconst (v := -1) X dX10_count_88 (by decide) ?_
  subst hF
  exact g_iret X dX10_count_89 ho
theorem tX10_count {ad : Nat → Nat} (hI : Inj ad) (l : Launch) (D : va_G) (cyy : Nat → ClassId) (a0 : Nat) (x1 : Int32) (h0 : KT a0 = 10) (S : St) : OkM l yX10_count cX10_count 2 (some .int) 1 ad D cyy [.ref (ad a0), .int x1] S (some (.int (fX10_count a0 x1 S)), S) := okM_of hI (by decide) (inr_65 _ (List.mem_of_getElem? (i := 10) rfl)) (by show _ ≤ 2; exact Nat.le_of_ble_eq_true rfl) (fun z X => wX10_count X a0 x1 h0 S _ rfl rfl)
