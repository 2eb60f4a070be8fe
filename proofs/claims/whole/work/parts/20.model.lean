theorem dX11_thrown_0 : decode cX11_thrown 0 = .ok (.aload_n 0, 1) := by decide +kernel
theorem dX11_thrown_1 : decode cX11_thrown 1 = .ok (.getfield 1, 3) := by decide +kernel
theorem dX11_thrown_4 : decode cX11_thrown 4 = .ok (.ireturn, 1) := by decide +kernel
theorem dX11_throwsIf_0 : decode cX11_throwsIf 0 = .ok (.aload_n 0, 1) := by decide +kernel
theorem dX11_throwsIf_1 : decode cX11_throwsIf 1 = .ok (.iload_n 1, 1) := by decide +kernel
theorem dX11_throwsIf_2 : decode cX11_throwsIf 2 = .ok (.ifCond .eq 7, 3) := by decide +kernel
theorem dX11_throwsIf_5 : decode cX11_throwsIf 5 = .ok (.iconst 1, 1) := by decide +kernel
theorem dX11_throwsIf_6 : decode cX11_throwsIf 6 = .ok (.goto 4, 3) := by decide +kernel
theorem dX11_throwsIf_9 : decode cX11_throwsIf 9 = .ok (.iconst 0, 1) := by decide +kernel
theorem dX11_throwsIf_10 : decode cX11_throwsIf 10 = .ok (.putfield 1, 3) := by decide +kernel
theorem dX11_throwsIf_13 : decode cX11_throwsIf 13 = .ok (.iload_n 1, 1) := by decide +kernel
theorem dX11_throwsIf_14 : decode cX11_throwsIf 14 = .ok (.ireturn, 1) := by decide +kernel
theorem dX11_feed_0 : decode cX11_feed 0 = .ok (.aload_n 0, 1) := by decide +kernel
theorem dX11_feed_1 : decode cX11_feed 1 = .ok (.iconst 0, 1) := by decide +kernel
theorem dX11_feed_2 : decode cX11_feed 2 = .ok (.putfield 1, 3) := by decide +kernel
theorem dX11_feed_5 : decode cX11_feed 5 = .ok (.aload_n 0, 1) := by decide +kernel
theorem dX11_feed_6 : decode cX11_feed 6 = .ok (.getfield 7, 3) := by decide +kernel
theorem dX11_feed_9 : decode cX11_feed 9 = .ok (.bipush 20, 2) := by decide +kernel
theorem dX11_feed_11 : decode cX11_feed 11 = .ok (.iadd, 1) := by decide +kernel
theorem dX11_feed_12 : decode cX11_feed 12 = .ok (.sipush 940, 3) := by decide +kernel
theorem dX11_feed_15 : decode cX11_feed 15 = .ok (.if_icmp .le 5, 3) := by decide +kernel
theorem dX11_feed_18 : decode cX11_feed 18 = .ok (.iconst (-1), 1) := by decide +kernel
theorem dX11_feed_19 : decode cX11_feed 19 = .ok (.ireturn, 1) := by decide +kernel
theorem dX11_feed_20 : decode cX11_feed 20 = .ok (.aload_n 0, 1) := by decide +kernel
theorem dX11_feed_21 : decode cX11_feed 21 = .ok (.iload_n 1, 1) := by decide +kernel
theorem dX11_feed_22 : decode cX11_feed 22 = .ok (.invokevirtual 10, 3) := by decide +kernel
theorem dX11_feed_25 : decode cX11_feed 25 = .ok (.aload_n 0, 1) := by decide +kernel
theorem dX11_feed_26 : decode cX11_feed 26 = .ok (.iload_n 2, 1) := by decide +kernel
theorem dX11_feed_27 : decode cX11_feed 27 = .ok (.invokevirtual 10, 3) := by decide +kernel
theorem dX11_feed_30 : decode cX11_feed 30 = .ok (.aload_n 0, 1) := by decide +kernel
theorem dX11_feed_31 : decode cX11_feed 31 = .ok (.iload_n 3, 1) := by decide +kernel
theorem dX11_feed_32 : decode cX11_feed 32 = .ok (.invokevirtual 10, 3) := by decide +kernel
theorem dX11_feed_35 : decode cX11_feed 35 = .ok (.aload_n 0, 1) := by decide +kernel
theorem dX11_feed_36 : decode cX11_feed 36 = .ok (.iload 4, 2) := by decide +kernel
theorem dX11_feed_38 : decode cX11_feed 38 = .ok (.invokevirtual 10, 3) := by decide +kernel
theorem dX11_feed_41 : decode cX11_feed 41 = .ok (.aload_n 0, 1) := by decide +kernel
theorem dX11_feed_42 : decode cX11_feed 42 = .ok (.iload 5, 2) := by decide +kernel
theorem dX11_feed_44 : decode cX11_feed 44 = .ok (.invokevirtual 10, 3) := by decide +kernel
theorem dX11_feed_47 : decode cX11_feed 47 = .ok (.aload_n 0, 1) := by decide +kernel
theorem dX11_feed_48 : decode cX11_feed 48 = .ok (.getfield 7, 3) := by decide +kernel
theorem dX11_feed_51 : decode cX11_feed 51 = .ok (.ireturn, 1) := by decide +kernel
theorem dX11_four_0 : decode cX11_four 0 = .ok (.bipush 24, 2) := by decide +kernel
theorem dX11_four_2 : decode cX11_four 2 = .ok (.istore_n 2, 1) := by decide +kernel
theorem dX11_four_3 : decode cX11_four 3 = .ok (.iload_n 2, 1) := by decide +kernel
theorem dX11_four_4 : decode cX11_four 4 = .ok (.ifCond .lt 32, 3) := by decide +kernel
theorem dX11_four_7 : decode cX11_four 7 = .ok (.aload_n 0, 1) := by decide +kernel
theorem dX11_four_8 : decode cX11_four 8 = .ok (.getfield 14, 3) := by decide +kernel
theorem dX11_four_11 : decode cX11_four 11 = .ok (.aload_n 0, 1) := by decide +kernel
theorem dX11_four_12 : decode cX11_four 12 = .ok (.getfield 7, 3) := by decide +kernel
theorem dX11_four_15 : decode cX11_four 15 = .ok (.iload_n 1, 1) := by decide +kernel
theorem dX11_four_16 : decode cX11_four 16 = .ok (.iload_n 2, 1) := by decide +kernel
theorem dX11_four_17 : decode cX11_four 17 = .ok (.ishr, 1) := by decide +kernel
theorem dX11_four_18 : decode cX11_four 18 = .ok (.i2b, 1) := by decide +kernel
theorem dX11_four_19 : decode cX11_four 19 = .ok (.bastore, 1) := by decide +kernel
theorem dX11_four_20 : decode cX11_four 20 = .ok (.aload_n 0, 1) := by decide +kernel
theorem dX11_four_21 : decode cX11_four 21 = .ok (.dup, 1) := by decide +kernel
theorem dX11_four_22 : decode cX11_four 22 = .ok (.getfield 7, 3) := by decide +kernel
theorem dX11_four_25 : decode cX11_four 25 = .ok (.iconst 1, 1) := by decide +kernel
theorem dX11_four_26 : decode cX11_four 26 = .ok (.iadd, 1) := by decide +kernel
theorem dX11_four_27 : decode cX11_four 27 = .ok (.putfield 7, 3) := by decide +kernel
theorem dX11_four_30 : decode cX11_four 30 = .ok (.iinc 2 (-8), 3) := by decide +kernel
theorem dX11_four_33 : decode cX11_four 33 = .ok (.goto (-30), 3) := by decide +kernel
theorem dX11_four_36 : decode cX11_four 36 = .ok (.return_, 1) := by decide +kernel
theorem dX11_end_0 : decode cX11_end 0 = .ok (.aload_n 0, 1) := by decide +kernel
theorem dX11_end_1 : decode cX11_end 1 = .ok (.iconst 0, 1) := by decide +kernel
theorem dX11_end_2 : decode cX11_end 2 = .ok (.putfield 1, 3) := by decide +kernel
theorem dX11_end_5 : decode cX11_end 5 = .ok (.iload_n 1, 1) := by decide +kernel
theorem dX11_end_6 : decode cX11_end 6 = .ok (.ifCond .lt 11, 3) := by decide +kernel
theorem dX11_end_9 : decode cX11_end 9 = .ok (.iload_n 1, 1) := by decide +kernel
theorem dX11_end_10 : decode cX11_end 10 = .ok (.aload_n 0, 1) := by decide +kernel
theorem dX11_end_11 : decode cX11_end 11 = .ok (.getfield 7, 3) := by decide +kernel
theorem dX11_end_14 : decode cX11_end 14 = .ok (.if_icmp .le 5, 3) := by decide +kernel
theorem dX11_end_17 : decode cX11_end 17 = .ok (.iconst 0, 1) := by decide +kernel
theorem dX11_end_18 : decode cX11_end 18 = .ok (.ireturn, 1) := by decide +kernel
theorem dX11_end_19 : decode cX11_end 19 = .ok (.aload_n 0, 1) := by decide +kernel
theorem dX11_end_20 : decode cX11_end 20 = .ok (.iload_n 1, 1) := by decide +kernel
theorem dX11_end_21 : decode cX11_end 21 = .ok (.putfield 7, 3) := by decide +kernel
theorem dX11_end_24 : decode cX11_end 24 = .ok (.iconst 1, 1) := by decide +kernel
theorem dX11_end_25 : decode cX11_end 25 = .ok (.ireturn, 1) := by decide +kernel
theorem dX11_taken_0 : decode cX11_taken 0 = .ok (.aload_n 0, 1) := by decide +kernel
theorem dX11_taken_1 : decode cX11_taken 1 = .ok (.aload_n 0, 1) := by decide +kernel
theorem dX11_taken_2 : decode cX11_taken 2 = .ok (.getfield 7, 3) := by decide +kernel
theorem dX11_taken_5 : decode cX11_taken 5 = .ok (.putfield 18, 3) := by decide +kernel
theorem dX11_taken_8 : decode cX11_taken 8 = .ok (.aload_n 0, 1) := by decide +kernel
theorem dX11_taken_9 : decode cX11_taken 9 = .ok (.iconst 0, 1) := by decide +kernel
theorem dX11_taken_10 : decode cX11_taken 10 = .ok (.putfield 7, 3) := by decide +kernel
theorem dX11_taken_13 : decode cX11_taken 13 = .ok (.aload_n 0, 1) := by decide +kernel
theorem dX11_taken_14 : decode cX11_taken 14 = .ok (.iconst 0, 1) := by decide +kernel
theorem dX11_taken_15 : decode cX11_taken 15 = .ok (.putfield 21, 3) := by decide +kernel
theorem dX11_taken_18 : decode cX11_taken 18 = .ok (.aload_n 0, 1) := by decide +kernel
theorem dX11_taken_19 : decode cX11_taken 19 = .ok (.iload_n 1, 1) := by decide +kernel
theorem dX11_taken_20 : decode cX11_taken 20 = .ok (.putfield 24, 3) := by decide +kernel
theorem dX11_taken_23 : decode cX11_taken 23 = .ok (.return_, 1) := by decide +kernel
theorem dX11_isIn_0 : decode cX11_isIn 0 = .ok (.iload_n 0, 1) := by decide +kernel
theorem dX11_isIn_1 : decode cX11_isIn 1 = .ok (.iload_n 1, 1) := by decide +kernel
theorem dX11_isIn_2 : decode cX11_isIn 2 = .ok (.if_icmp .lt 12, 3) := by decide +kernel
theorem dX11_isIn_5 : decode cX11_isIn 5 = .ok (.iload_n 0, 1) := by decide +kernel
theorem dX11_isIn_6 : decode cX11_isIn 6 = .ok (.iload_n 2, 1) := by decide +kernel
theorem dX11_isIn_7 : decode cX11_isIn 7 = .ok (.if_icmp .gt 7, 3) := by decide +kernel
theorem dX11_isIn_10 : decode cX11_isIn 10 = .ok (.iconst 1, 1) := by decide +kernel
theorem dX11_isIn_11 : decode cX11_isIn 11 = .ok (.goto 4, 3) := by decide +kernel
theorem dX11_isIn_14 : decode cX11_isIn 14 = .ok (.iconst 0, 1) := by decide +kernel
theorem dX11_isIn_15 : decode cX11_isIn 15 = .ok (.ireturn, 1) := by decide +kernel
theorem dX11_bitOf_0 : decode cX11_bitOf 0 = .ok (.iload_n 0, 1) := by decide +kernel
theorem dX11_bitOf_1 : decode cX11_bitOf 1 = .ok (.iload_n 1, 1) := by decide +kernel
theorem dX11_bitOf_2 : decode cX11_bitOf 2 = .ok (.ishr, 1) := by decide +kernel
theorem dX11_bitOf_3 : decode cX11_bitOf 3 = .ok (.iconst 1, 1) := by decide +kernel
theorem dX11_bitOf_4 : decode cX11_bitOf 4 = .ok (.iand, 1) := by decide +kernel
theorem dX11_bitOf_5 : decode cX11_bitOf 5 = .ok (.iconst 1, 1) := by decide +kernel
theorem dX11_bitOf_6 : decode cX11_bitOf 6 = .ok (.if_icmp .ne 7, 3) := by decide +kernel
theorem dX11_bitOf_9 : decode cX11_bitOf 9 = .ok (.iconst 1, 1) := by decide +kernel
theorem dX11_bitOf_10 : decode cX11_bitOf 10 = .ok (.goto 4, 3) := by decide +kernel
theorem dX11_bitOf_13 : decode cX11_bitOf 13 = .ok (.iconst 0, 1) := by decide +kernel
theorem dX11_bitOf_14 : decode cX11_bitOf 14 = .ok (.ireturn, 1) := by decide +kernel
theorem dX11_greater_0 : decode cX11_greater 0 = .ok (.iload_n 0, 1) := by decide +kernel
theorem dX11_greater_1 : decode cX11_greater 1 = .ok (.iload_n 1, 1) := by decide +kernel
theorem dX11_greater_2 : decode cX11_greater 2 = .ok (.if_icmp .le 7, 3) := by decide +kernel
theorem dX11_greater_5 : decode cX11_greater 5 = .ok (.iload_n 0, 1) := by decide +kernel
theorem dX11_greater_6 : decode cX11_greater 6 = .ok (.goto 4, 3) := by decide +kernel
theorem dX11_greater_9 : decode cX11_greater 9 = .ok (.iload_n 1, 1) := by decide +kernel
theorem dX11_greater_10 : decode cX11_greater 10 = .ok (.ireturn, 1) := by decide +kernel
theorem dX11_absolute_0 : decode cX11_absolute 0 = .ok (.iload_n 0, 1) := by decide +kernel
theorem dX11_absolute_1 : decode cX11_absolute 1 = .ok (.ifCond .ge 8, 3) := by decide +kernel
theorem dX11_absolute_4 : decode cX11_absolute 4 = .ok (.iload_n 0, 1) := by decide +kernel
theorem dX11_absolute_5 : decode cX11_absolute 5 = .ok (.ineg, 1) := by decide +kernel
theorem dX11_absolute_6 : decode cX11_absolute 6 = .ok (.goto 4, 3) := by decide +kernel
theorem dX11_absolute_9 : decode cX11_absolute 9 = .ok (.iload_n 0, 1) := by decide +kernel
theorem dX11_absolute_10 : decode cX11_absolute 10 = .ok (.ireturn, 1) := by decide +kernel
theorem dX11_octet_0 : decode cX11_octet 0 = .ok (.aload_n 0, 1) := by decide +kernel
theorem dX11_octet_1 : decode cX11_octet 1 = .ok (.getfield 14, 3) := by decide +kernel
theorem dX11_octet_4 : decode cX11_octet 4 = .ok (.iload_n 1, 1) := by decide +kernel
theorem dX11_octet_5 : decode cX11_octet 5 = .ok (.baload, 1) := by decide +kernel
theorem dX11_octet_6 : decode cX11_octet 6 = .ok (.sipush 255, 3) := by decide +kernel
theorem dX11_octet_9 : decode cX11_octet 9 = .ok (.iand, 1) := by decide +kernel
theorem dX11_octet_10 : decode cX11_octet 10 = .ok (.ireturn, 1) := by decide +kernel
theorem dX11_clears_0 : decode cX11_clears 0 = .ok (.iconst 0, 1) := by decide +kernel
theorem dX11_clears_1 : decode cX11_clears 1 = .ok (.istore_n 1, 1) := by decide +kernel
theorem dX11_clears_2 : decode cX11_clears 2 = .ok (.iload_n 1, 1) := by decide +kernel
theorem dX11_clears_3 : decode cX11_clears 3 = .ok (.bipush 52, 2) := by decide +kernel
theorem dX11_clears_5 : decode cX11_clears 5 = .ok (.if_icmp .ge 16, 3) := by decide +kernel
theorem dX11_clears_8 : decode cX11_clears 8 = .ok (.aload_n 0, 1) := by decide +kernel
theorem dX11_clears_9 : decode cX11_clears 9 = .ok (.getfield 37, 3) := by decide +kernel
theorem dX11_clears_12 : decode cX11_clears 12 = .ok (.iload_n 1, 1) := by decide +kernel
theorem dX11_clears_13 : decode cX11_clears 13 = .ok (.iconst 0, 1) := by decide +kernel
theorem dX11_clears_14 : decode cX11_clears 14 = .ok (.iastore, 1) := by decide +kernel
theorem dX11_clears_15 : decode cX11_clears 15 = .ok (.iinc 1 1, 3) := by decide +kernel
theorem dX11_clears_18 : decode cX11_clears 18 = .ok (.goto (-16), 3) := by decide +kernel
theorem dX11_clears_21 : decode cX11_clears 21 = .ok (.aload_n 0, 1) := by decide +kernel
theorem dX11_clears_22 : decode cX11_clears 22 = .ok (.getfield 37, 3) := by decide +kernel
theorem dX11_clears_25 : decode cX11_clears 25 = .ok (.iconst 2, 1) := by decide +kernel
theorem dX11_clears_26 : decode cX11_clears 26 = .ok (.sipush 365, 3) := by decide +kernel
theorem dX11_clears_29 : decode cX11_clears 29 = .ok (.iastore, 1) := by decide +kernel
theorem dX11_clears_30 : decode cX11_clears 30 = .ok (.aload_n 0, 1) := by decide +kernel
theorem dX11_clears_31 : decode cX11_clears 31 = .ok (.getfield 37, 3) := by decide +kernel
theorem dX11_clears_34 : decode cX11_clears 34 = .ok (.iconst 3, 1) := by decide +kernel
theorem dX11_clears_35 : decode cX11_clears 35 = .ok (.iconst 1, 1) := by decide +kernel
theorem dX11_clears_36 : decode cX11_clears 36 = .ok (.iastore, 1) := by decide +kernel
theorem dX11_clears_37 : decode cX11_clears 37 = .ok (.iconst 0, 1) := by decide +kernel
theorem dX11_clears_38 : decode cX11_clears 38 = .ok (.istore_n 1, 1) := by decide +kernel
theorem dX11_clears_39 : decode cX11_clears 39 = .ok (.iload_n 1, 1) := by decide +kernel
theorem dX11_clears_40 : decode cX11_clears 40 = .ok (.iconst 5, 1) := by decide +kernel
theorem dX11_clears_41 : decode cX11_clears 41 = .ok (.if_icmp .ge 19, 3) := by decide +kernel
theorem dX11_clears_44 : decode cX11_clears 44 = .ok (.aload_n 0, 1) := by decide +kernel
theorem dX11_clears_45 : decode cX11_clears 45 = .ok (.getfield 37, 3) := by decide +kernel
theorem dX11_clears_48 : decode cX11_clears 48 = .ok (.bipush 29, 2) := by decide +kernel
theorem dX11_clears_50 : decode cX11_clears 50 = .ok (.iload_n 1, 1) := by decide +kernel
theorem dX11_clears_51 : decode cX11_clears 51 = .ok (.iadd, 1) := by decide +kernel
theorem dX11_clears_52 : decode cX11_clears 52 = .ok (.iconst 1, 1) := by decide +kernel
theorem dX11_clears_53 : decode cX11_clears 53 = .ok (.iastore, 1) := by decide +kernel
theorem dX11_clears_54 : decode cX11_clears 54 = .ok (.iinc 1 1, 3) := by decide +kernel
theorem dX11_clears_57 : decode cX11_clears 57 = .ok (.goto (-18), 3) := by decide +kernel
theorem dX11_clears_60 : decode cX11_clears 60 = .ok (.return_, 1) := by decide +kernel
theorem dX11_peek_0 : decode cX11_peek 0 = .ok (.aload_n 0, 1) := by decide +kernel
theorem dX11_peek_1 : decode cX11_peek 1 = .ok (.getfield 21, 3) := by decide +kernel
theorem dX11_peek_4 : decode cX11_peek 4 = .ok (.aload_n 0, 1) := by decide +kernel
theorem dX11_peek_5 : decode cX11_peek 5 = .ok (.getfield 18, 3) := by decide +kernel
theorem dX11_peek_8 : decode cX11_peek 8 = .ok (.if_icmp .ge 19, 3) := by decide +kernel
theorem dX11_peek_11 : decode cX11_peek 11 = .ok (.aload_n 0, 1) := by decide +kernel
theorem dX11_peek_12 : decode cX11_peek 12 = .ok (.getfield 14, 3) := by decide +kernel
theorem dX11_peek_15 : decode cX11_peek 15 = .ok (.aload_n 0, 1) := by decide +kernel
theorem dX11_peek_16 : decode cX11_peek 16 = .ok (.getfield 21, 3) := by decide +kernel
theorem dX11_peek_19 : decode cX11_peek 19 = .ok (.baload, 1) := by decide +kernel
theorem dX11_peek_20 : decode cX11_peek 20 = .ok (.sipush 255, 3) := by decide +kernel
theorem dX11_peek_23 : decode cX11_peek 23 = .ok (.iand, 1) := by decide +kernel
theorem dX11_peek_24 : decode cX11_peek 24 = .ok (.goto 4, 3) := by decide +kernel
theorem dX11_peek_27 : decode cX11_peek 27 = .ok (.iconst (-1), 1) := by decide +kernel
theorem dX11_peek_28 : decode cX11_peek 28 = .ok (.ireturn, 1) := by decide +kernel
theorem dX11_isSmall_0 : decode cX11_isSmall 0 = .ok (.iload_n 0, 1) := by decide +kernel
theorem dX11_isSmall_1 : decode cX11_isSmall 1 = .ok (.bipush 97, 2) := by decide +kernel
theorem dX11_isSmall_3 : decode cX11_isSmall 3 = .ok (.if_icmp .lt 13, 3) := by decide +kernel
theorem dX11_isSmall_6 : decode cX11_isSmall 6 = .ok (.iload_n 0, 1) := by decide +kernel
theorem dX11_isSmall_7 : decode cX11_isSmall 7 = .ok (.bipush 122, 2) := by decide +kernel
theorem dX11_isSmall_9 : decode cX11_isSmall 9 = .ok (.if_icmp .gt 7, 3) := by decide +kernel
theorem dX11_isSmall_12 : decode cX11_isSmall 12 = .ok (.iconst 1, 1) := by decide +kernel
theorem dX11_isSmall_13 : decode cX11_isSmall 13 = .ok (.goto 4, 3) := by decide +kernel
theorem dX11_isSmall_16 : decode cX11_isSmall 16 = .ok (.iconst 0, 1) := by decide +kernel
theorem dX11_isSmall_17 : decode cX11_isSmall 17 = .ok (.ireturn, 1) := by decide +kernel
theorem dX11_isDigit_0 : decode cX11_isDigit 0 = .ok (.iload_n 0, 1) := by decide +kernel
theorem dX11_isDigit_1 : decode cX11_isDigit 1 = .ok (.bipush 48, 2) := by decide +kernel
theorem dX11_isDigit_3 : decode cX11_isDigit 3 = .ok (.if_icmp .lt 13, 3) := by decide +kernel
theorem dX11_isDigit_6 : decode cX11_isDigit 6 = .ok (.iload_n 0, 1) := by decide +kernel
theorem dX11_isDigit_7 : decode cX11_isDigit 7 = .ok (.bipush 57, 2) := by decide +kernel
theorem dX11_isDigit_9 : decode cX11_isDigit 9 = .ok (.if_icmp .gt 7, 3) := by decide +kernel
theorem dX11_isDigit_12 : decode cX11_isDigit 12 = .ok (.iconst 1, 1) := by decide +kernel
theorem dX11_isDigit_13 : decode cX11_isDigit 13 = .ok (.goto 4, 3) := by decide +kernel
theorem dX11_isDigit_16 : decode cX11_isDigit 16 = .ok (.iconst 0, 1) := by decide +kernel
theorem dX11_isDigit_17 : decode cX11_isDigit 17 = .ok (.ireturn, 1) := by decide +kernel
theorem dX11_step_0 : decode cX11_step 0 = .ok (.aload_n 0, 1) := by decide +kernel
theorem dX11_step_1 : decode cX11_step 1 = .ok (.invokevirtual 131, 3) := by decide +kernel
theorem dX11_step_4 : decode cX11_step 4 = .ok (.bipush 32, 2) := by decide +kernel
theorem dX11_step_6 : decode cX11_step 6 = .ok (.if_icmp .eq 12, 3) := by decide +kernel
theorem dX11_step_9 : decode cX11_step 9 = .ok (.aload_n 0, 1) := by decide +kernel
theorem dX11_step_10 : decode cX11_step 10 = .ok (.invokevirtual 131, 3) := by decide +kernel
theorem dX11_step_13 : decode cX11_step 13 = .ok (.bipush 10, 2) := by decide +kernel
theorem dX11_step_15 : decode cX11_step 15 = .ok (.if_icmp .ne 16, 3) := by decide +kernel
theorem dX11_step_18 : decode cX11_step 18 = .ok (.aload_n 0, 1) := by decide +kernel
theorem dX11_step_19 : decode cX11_step 19 = .ok (.dup, 1) := by decide +kernel
theorem dX11_step_20 : decode cX11_step 20 = .ok (.getfield 21, 3) := by decide +kernel
theorem dX11_step_23 : decode cX11_step 23 = .ok (.iconst 1, 1) := by decide +kernel
theorem dX11_step_24 : decode cX11_step 24 = .ok (.iadd, 1) := by decide +kernel
theorem dX11_step_25 : decode cX11_step 25 = .ok (.putfield 21, 3) := by decide +kernel
theorem dX11_step_28 : decode cX11_step 28 = .ok (.goto (-28), 3) := by decide +kernel
theorem dX11_step_31 : decode cX11_step 31 = .ok (.aload_n 0, 1) := by decide +kernel
theorem dX11_step_32 : decode cX11_step 32 = .ok (.aload_n 0, 1) := by decide +kernel
theorem dX11_step_33 : decode cX11_step 33 = .ok (.getfield 21, 3) := by decide +kernel
theorem dX11_step_36 : decode cX11_step 36 = .ok (.putfield 135, 3) := by decide +kernel
theorem dX11_step_39 : decode cX11_step 39 = .ok (.aload_n 0, 1) := by decide +kernel
theorem dX11_step_40 : decode cX11_step 40 = .ok (.iconst 0, 1) := by decide +kernel
theorem dX11_step_41 : decode cX11_step 41 = .ok (.putfield 138, 3) := by decide +kernel
theorem dX11_step_44 : decode cX11_step 44 = .ok (.aload_n 0, 1) := by decide +kernel
theorem dX11_step_45 : decode cX11_step 45 = .ok (.getfield 18, 3) := by decide +kernel
theorem dX11_step_48 : decode cX11_step 48 = .ok (.aload_n 0, 1) := by decide +kernel
theorem dX11_step_49 : decode cX11_step 49 = .ok (.getfield 24, 3) := by decide +kernel
theorem dX11_step_52 : decode cX11_step 52 = .ok (.if_icmp .le 28, 3) := by decide +kernel
theorem dX11_step_55 : decode cX11_step 55 = .ok (.aload_n 0, 1) := by decide +kernel
theorem dX11_step_56 : decode cX11_step 56 = .ok (.getfield 21, 3) := by decide +kernel
theorem dX11_step_59 : decode cX11_step 59 = .ok (.aload_n 0, 1) := by decide +kernel
theorem dX11_step_60 : decode cX11_step 60 = .ok (.getfield 24, 3) := by decide +kernel
theorem dX11_step_63 : decode cX11_step 63 = .ok (.if_icmp .lt 17, 3) := by decide +kernel
theorem dX11_step_66 : decode cX11_step 66 = .ok (.aload_n 0, 1) := by decide +kernel
theorem dX11_step_67 : decode cX11_step 67 = .ok (.aload_n 0, 1) := by decide +kernel
theorem dX11_step_68 : decode cX11_step 68 = .ok (.getfield 24, 3) := by decide +kernel
theorem dX11_step_71 : decode cX11_step 71 = .ok (.putfield 135, 3) := by decide +kernel
theorem dX11_step_74 : decode cX11_step 74 = .ok (.aload_n 0, 1) := by decide +kernel
theorem dX11_step_75 : decode cX11_step 75 = .ok (.iconst 4, 1) := by decide +kernel
theorem dX11_step_76 : decode cX11_step 76 = .ok (.putfield 141, 3) := by decide +kernel
theorem dX11_step_79 : decode cX11_step 79 = .ok (.return_, 1) := by decide +kernel
theorem dX11_step_80 : decode cX11_step 80 = .ok (.aload_n 0, 1) := by decide +kernel
theorem dX11_step_81 : decode cX11_step 81 = .ok (.invokevirtual 131, 3) := by decide +kernel
theorem dX11_step_84 : decode cX11_step 84 = .ok (.istore_n 1, 1) := by decide +kernel
theorem dX11_step_85 : decode cX11_step 85 = .ok (.iload_n 1, 1) := by decide +kernel
theorem dX11_step_86 : decode cX11_step 86 = .ok (.ifCond .ge 9, 3) := by decide +kernel
theorem dX11_step_89 : decode cX11_step 89 = .ok (.aload_n 0, 1) := by decide +kernel
theorem dX11_step_90 : decode cX11_step 90 = .ok (.iconst 0, 1) := by decide +kernel
theorem dX11_step_91 : decode cX11_step 91 = .ok (.putfield 141, 3) := by decide +kernel
theorem dX11_step_94 : decode cX11_step 94 = .ok (.return_, 1) := by decide +kernel
theorem dX11_step_95 : decode cX11_step 95 = .ok (.iload_n 1, 1) := by decide +kernel
theorem dX11_step_96 : decode cX11_step 96 = .ok (.invokestatic 144, 3) := by decide +kernel
theorem dX11_step_99 : decode cX11_step 99 = .ok (.ifCond .ne 65, 3) := by decide +kernel
theorem dX11_step_102 : decode cX11_step 102 = .ok (.iload_n 1, 1) := by decide +kernel
theorem dX11_step_103 : decode cX11_step 103 = .ok (.invokestatic 148, 3) := by decide +kernel
theorem dX11_step_106 : decode cX11_step 106 = .ok (.ifCond .ne 58, 3) := by decide +kernel
theorem dX11_step_109 : decode cX11_step 109 = .ok (.aload_n 0, 1) := by decide +kernel
theorem dX11_step_110 : decode cX11_step 110 = .ok (.iload_n 1, 1) := by decide +kernel
theorem dX11_step_111 : decode cX11_step 111 = .ok (.bipush 59, 2) := by decide +kernel
theorem dX11_step_113 : decode cX11_step 113 = .ok (.if_icmp .eq 27, 3) := by decide +kernel
theorem dX11_step_116 : decode cX11_step 116 = .ok (.iload_n 1, 1) := by decide +kernel
theorem dX11_step_117 : decode cX11_step 117 = .ok (.bipush 40, 2) := by decide +kernel
theorem dX11_step_119 : decode cX11_step 119 = .ok (.if_icmp .eq 21, 3) := by decide +kernel
theorem dX11_step_122 : decode cX11_step 122 = .ok (.iload_n 1, 1) := by decide +kernel
theorem dX11_step_123 : decode cX11_step 123 = .ok (.bipush 41, 2) := by decide +kernel
theorem dX11_step_125 : decode cX11_step 125 = .ok (.if_icmp .eq 15, 3) := by decide +kernel
theorem dX11_step_128 : decode cX11_step 128 = .ok (.iload_n 1, 1) := by decide +kernel
theorem dX11_step_129 : decode cX11_step 129 = .ok (.bipush 60, 2) := by decide +kernel
theorem dX11_step_131 : decode cX11_step 131 = .ok (.if_icmp .lt 13, 3) := by decide +kernel
theorem dX11_step_134 : decode cX11_step 134 = .ok (.iload_n 1, 1) := by decide +kernel
theorem dX11_step_135 : decode cX11_step 135 = .ok (.bipush 62, 2) := by decide +kernel
theorem dX11_step_137 : decode cX11_step 137 = .ok (.if_icmp .gt 7, 3) := by decide +kernel
theorem dX11_step_140 : decode cX11_step 140 = .ok (.iconst 3, 1) := by decide +kernel
theorem dX11_step_141 : decode cX11_step 141 = .ok (.goto 4, 3) := by decide +kernel
theorem dX11_step_144 : decode cX11_step 144 = .ok (.iconst 4, 1) := by decide +kernel
theorem dX11_step_145 : decode cX11_step 145 = .ok (.putfield 141, 3) := by decide +kernel
theorem dX11_step_148 : decode cX11_step 148 = .ok (.aload_n 0, 1) := by decide +kernel
theorem dX11_step_149 : decode cX11_step 149 = .ok (.iload_n 1, 1) := by decide +kernel
theorem dX11_step_150 : decode cX11_step 150 = .ok (.putfield 151, 3) := by decide +kernel
theorem dX11_step_153 : decode cX11_step 153 = .ok (.aload_n 0, 1) := by decide +kernel
theorem dX11_step_154 : decode cX11_step 154 = .ok (.dup, 1) := by decide +kernel
theorem dX11_step_155 : decode cX11_step 155 = .ok (.getfield 21, 3) := by decide +kernel
theorem dX11_step_158 : decode cX11_step 158 = .ok (.iconst 1, 1) := by decide +kernel
theorem dX11_step_159 : decode cX11_step 159 = .ok (.iadd, 1) := by decide +kernel
theorem dX11_step_160 : decode cX11_step 160 = .ok (.putfield 21, 3) := by decide +kernel
theorem dX11_step_163 : decode cX11_step 163 = .ok (.return_, 1) := by decide +kernel
theorem dX11_step_164 : decode cX11_step 164 = .ok (.iload_n 1, 1) := by decide +kernel
theorem dX11_step_165 : decode cX11_step 165 = .ok (.invokestatic 144, 3) := by decide +kernel
theorem dX11_step_168 : decode cX11_step 168 = .ok (.istore_n 2, 1) := by decide +kernel
theorem dX11_step_169 : decode cX11_step 169 = .ok (.iconst 1, 1) := by decide +kernel
theorem dX11_step_170 : decode cX11_step 170 = .ok (.istore_n 3, 1) := by decide +kernel
theorem dX11_step_171 : decode cX11_step 171 = .ok (.aload_n 0, 1) := by decide +kernel
theorem dX11_step_172 : decode cX11_step 172 = .ok (.lconst 0, 1) := by decide +kernel
theorem dX11_step_173 : decode cX11_step 173 = .ok (.putfield 154, 3) := by decide +kernel
theorem dX11_step_176 : decode cX11_step 176 = .ok (.aload_n 0, 1) := by decide +kernel
theorem dX11_step_177 : decode cX11_step 177 = .ok (.iconst 0, 1) := by decide +kernel
theorem dX11_step_178 : decode cX11_step 178 = .ok (.putfield 151, 3) := by decide +kernel
theorem dX11_step_181 : decode cX11_step 181 = .ok (.aload_n 0, 1) := by decide +kernel
theorem dX11_step_182 : decode cX11_step 182 = .ok (.invokevirtual 131, 3) := by decide +kernel
theorem dX11_step_185 : decode cX11_step 185 = .ok (.invokestatic 144, 3) := by decide +kernel
theorem dX11_step_188 : decode cX11_step 188 = .ok (.ifCond .ne 13, 3) := by decide +kernel
theorem dX11_step_191 : decode cX11_step 191 = .ok (.aload_n 0, 1) := by decide +kernel
theorem dX11_step_192 : decode cX11_step 192 = .ok (.invokevirtual 131, 3) := by decide +kernel
theorem dX11_step_195 : decode cX11_step 195 = .ok (.invokestatic 148, 3) := by decide +kernel
theorem dX11_step_198 : decode cX11_step 198 = .ok (.ifCond .eq 100, 3) := by decide +kernel
theorem dX11_step_201 : decode cX11_step 201 = .ok (.iload_n 3, 1) := by decide +kernel
theorem dX11_step_202 : decode cX11_step 202 = .ok (.ifCond .eq 18, 3) := by decide +kernel
theorem dX11_step_205 : decode cX11_step 205 = .ok (.aload_n 0, 1) := by decide +kernel
theorem dX11_step_206 : decode cX11_step 206 = .ok (.invokevirtual 131, 3) := by decide +kernel
theorem dX11_step_209 : decode cX11_step 209 = .ok (.invokestatic 144, 3) := by decide +kernel
theorem dX11_step_212 : decode cX11_step 212 = .ok (.iload_n 2, 1) := by decide +kernel
theorem dX11_step_213 : decode cX11_step 213 = .ok (.if_icmp .ne 7, 3) := by decide +kernel
theorem dX11_step_216 : decode cX11_step 216 = .ok (.iconst 1, 1) := by decide +kernel
theorem dX11_step_217 : decode cX11_step 217 = .ok (.goto 4, 3) := by decide +kernel
theorem dX11_step_220 : decode cX11_step 220 = .ok (.iconst 0, 1) := by decide +kernel
theorem dX11_step_221 : decode cX11_step 221 = .ok (.istore_n 3, 1) := by decide +kernel
theorem dX11_step_222 : decode cX11_step 222 = .ok (.aload_n 0, 1) := by decide +kernel
theorem dX11_step_223 : decode cX11_step 223 = .ok (.getfield 138, 3) := by decide +kernel
theorem dX11_step_226 : decode cX11_step 226 = .ok (.bipush 7, 2) := by decide +kernel
theorem dX11_step_228 : decode cX11_step 228 = .ok (.if_icmp .ge 20, 3) := by decide +kernel
theorem dX11_step_231 : decode cX11_step 231 = .ok (.aload_n 0, 1) := by decide +kernel
theorem dX11_step_232 : decode cX11_step 232 = .ok (.aload_n 0, 1) := by decide +kernel
theorem dX11_step_233 : decode cX11_step 233 = .ok (.getfield 154, 3) := by decide +kernel
theorem dX11_step_236 : decode cX11_step 236 = .ok (.bipush 8, 2) := by decide +kernel
theorem dX11_step_238 : decode cX11_step 238 = .ok (.lshl, 1) := by decide +kernel
theorem dX11_step_239 : decode cX11_step 239 = .ok (.aload_n 0, 1) := by decide +kernel
theorem dX11_step_240 : decode cX11_step 240 = .ok (.invokevirtual 131, 3) := by decide +kernel
theorem dX11_step_243 : decode cX11_step 243 = .ok (.i2l, 1) := by decide +kernel
theorem dX11_step_244 : decode cX11_step 244 = .ok (.lor, 1) := by decide +kernel
theorem dX11_step_245 : decode cX11_step 245 = .ok (.putfield 154, 3) := by decide +kernel
theorem dX11_step_248 : decode cX11_step 248 = .ok (.aload_n 0, 1) := by decide +kernel
theorem dX11_step_249 : decode cX11_step 249 = .ok (.getfield 138, 3) := by decide +kernel
theorem dX11_step_252 : decode cX11_step 252 = .ok (.iconst 3, 1) := by decide +kernel
theorem dX11_step_253 : decode cX11_step 253 = .ok (.if_icmp .ge 22, 3) := by decide +kernel
theorem dX11_step_256 : decode cX11_step 256 = .ok (.aload_n 0, 1) := by decide +kernel
theorem dX11_step_257 : decode cX11_step 257 = .ok (.bipush 10, 2) := by decide +kernel
theorem dX11_step_259 : decode cX11_step 259 = .ok (.aload_n 0, 1) := by decide +kernel
theorem dX11_step_260 : decode cX11_step 260 = .ok (.getfield 151, 3) := by decide +kernel
theorem dX11_step_263 : decode cX11_step 263 = .ok (.imul, 1) := by decide +kernel
theorem dX11_step_264 : decode cX11_step 264 = .ok (.aload_n 0, 1) := by decide +kernel
theorem dX11_step_265 : decode cX11_step 265 = .ok (.invokevirtual 131, 3) := by decide +kernel
theorem dX11_step_268 : decode cX11_step 268 = .ok (.iadd, 1) := by decide +kernel
theorem dX11_step_269 : decode cX11_step 269 = .ok (.bipush 48, 2) := by decide +kernel
theorem dX11_step_271 : decode cX11_step 271 = .ok (.isub, 1) := by decide +kernel
theorem dX11_step_272 : decode cX11_step 272 = .ok (.putfield 151, 3) := by decide +kernel
theorem dX11_step_275 : decode cX11_step 275 = .ok (.aload_n 0, 1) := by decide +kernel
theorem dX11_step_276 : decode cX11_step 276 = .ok (.dup, 1) := by decide +kernel
theorem dX11_step_277 : decode cX11_step 277 = .ok (.getfield 138, 3) := by decide +kernel
theorem dX11_step_280 : decode cX11_step 280 = .ok (.iconst 1, 1) := by decide +kernel
theorem dX11_step_281 : decode cX11_step 281 = .ok (.iadd, 1) := by decide +kernel
theorem dX11_step_282 : decode cX11_step 282 = .ok (.putfield 138, 3) := by decide +kernel
theorem dX11_step_285 : decode cX11_step 285 = .ok (.aload_n 0, 1) := by decide +kernel
theorem dX11_step_286 : decode cX11_step 286 = .ok (.dup, 1) := by decide +kernel
theorem dX11_step_287 : decode cX11_step 287 = .ok (.getfield 21, 3) := by decide +kernel
theorem dX11_step_290 : decode cX11_step 290 = .ok (.iconst 1, 1) := by decide +kernel
theorem dX11_step_291 : decode cX11_step 291 = .ok (.iadd, 1) := by decide +kernel
theorem dX11_step_292 : decode cX11_step 292 = .ok (.putfield 21, 3) := by decide +kernel
theorem dX11_step_295 : decode cX11_step 295 = .ok (.goto (-114), 3) := by decide +kernel
theorem dX11_step_298 : decode cX11_step 298 = .ok (.aload_n 0, 1) := by decide +kernel
theorem dX11_step_299 : decode cX11_step 299 = .ok (.iload_n 3, 1) := by decide +kernel
theorem dX11_step_300 : decode cX11_step 300 = .ok (.ifCond .eq 20, 3) := by decide +kernel
theorem dX11_step_303 : decode cX11_step 303 = .ok (.aload_n 0, 1) := by decide +kernel
theorem dX11_step_304 : decode cX11_step 304 = .ok (.getfield 138, 3) := by decide +kernel
theorem dX11_step_307 : decode cX11_step 307 = .ok (.iload_n 2, 1) := by decide +kernel
theorem dX11_step_308 : decode cX11_step 308 = .ok (.ifCond .eq 8, 3) := by decide +kernel
theorem dX11_step_311 : decode cX11_step 311 = .ok (.bipush 7, 2) := by decide +kernel
theorem dX11_step_313 : decode cX11_step 313 = .ok (.goto 4, 3) := by decide +kernel
theorem dX11_step_316 : decode cX11_step 316 = .ok (.iconst 3, 1) := by decide +kernel
theorem dX11_step_317 : decode cX11_step 317 = .ok (.if_icmp .le 7, 3) := by decide +kernel
theorem dX11_step_320 : decode cX11_step 320 = .ok (.iconst 4, 1) := by decide +kernel
theorem dX11_step_321 : decode cX11_step 321 = .ok (.goto 12, 3) := by decide +kernel
theorem dX11_step_324 : decode cX11_step 324 = .ok (.iload_n 2, 1) := by decide +kernel
theorem dX11_step_325 : decode cX11_step 325 = .ok (.ifCond .eq 7, 3) := by decide +kernel
theorem dX11_step_328 : decode cX11_step 328 = .ok (.iconst 1, 1) := by decide +kernel
theorem dX11_step_329 : decode cX11_step 329 = .ok (.goto 4, 3) := by decide +kernel
theorem dX11_step_332 : decode cX11_step 332 = .ok (.iconst 2, 1) := by decide +kernel
theorem dX11_step_333 : decode cX11_step 333 = .ok (.putfield 141, 3) := by decide +kernel
theorem dX11_step_336 : decode cX11_step 336 = .ok (.return_, 1) := by decide +kernel
theorem dX11_bad_0 : decode cX11_bad 0 = .ok (.aload_n 0, 1) := by decide +kernel
theorem dX11_bad_1 : decode cX11_bad 1 = .ok (.iload_n 1, 1) := by decide +kernel
theorem dX11_bad_2 : decode cX11_bad 2 = .ok (.putfield 158, 3) := by decide +kernel
theorem dX11_bad_5 : decode cX11_bad 5 = .ok (.aload_n 0, 1) := by decide +kernel
theorem dX11_bad_6 : decode cX11_bad 6 = .ok (.aload_n 0, 1) := by decide +kernel
theorem dX11_bad_7 : decode cX11_bad 7 = .ok (.getfield 135, 3) := by decide +kernel
theorem dX11_bad_10 : decode cX11_bad 10 = .ok (.putfield 161, 3) := by decide +kernel
theorem dX11_bad_13 : decode cX11_bad 13 = .ok (.iconst 0, 1) := by decide +kernel
theorem dX11_bad_14 : decode cX11_bad 14 = .ok (.ireturn, 1) := by decide +kernel
theorem dX11_isWord_0 : decode cX11_isWord 0 = .ok (.aload_n 0, 1) := by decide +kernel
theorem dX11_isWord_1 : decode cX11_isWord 1 = .ok (.getfield 141, 3) := by decide +kernel
theorem dX11_isWord_4 : decode cX11_isWord 4 = .ok (.iconst 1, 1) := by decide +kernel
theorem dX11_isWord_5 : decode cX11_isWord 5 = .ok (.if_icmp .ne 16, 3) := by decide +kernel
theorem dX11_isWord_8 : decode cX11_isWord 8 = .ok (.aload_n 0, 1) := by decide +kernel
theorem dX11_isWord_9 : decode cX11_isWord 9 = .ok (.getfield 154, 3) := by decide +kernel
theorem dX11_isWord_12 : decode cX11_isWord 12 = .ok (.lload_n 1, 1) := by decide +kernel
theorem dX11_isWord_13 : decode cX11_isWord 13 = .ok (.lcmp, 1) := by decide +kernel
theorem dX11_isWord_14 : decode cX11_isWord 14 = .ok (.ifCond .ne 7, 3) := by decide +kernel
theorem dX11_isWord_17 : decode cX11_isWord 17 = .ok (.iconst 1, 1) := by decide +kernel
theorem dX11_isWord_18 : decode cX11_isWord 18 = .ok (.goto 4, 3) := by decide +kernel
theorem dX11_isWord_21 : decode cX11_isWord 21 = .ok (.iconst 0, 1) := by decide +kernel
theorem dX11_isWord_22 : decode cX11_isWord 22 = .ok (.ireturn, 1) := by decide +kernel
theorem dX11_isSign_0 : decode cX11_isSign 0 = .ok (.aload_n 0, 1) := by decide +kernel
theorem dX11_isSign_1 : decode cX11_isSign 1 = .ok (.getfield 141, 3) := by decide +kernel
theorem dX11_isSign_4 : decode cX11_isSign 4 = .ok (.iconst 3, 1) := by decide +kernel
theorem dX11_isSign_5 : decode cX11_isSign 5 = .ok (.if_icmp .ne 15, 3) := by decide +kernel
theorem dX11_isSign_8 : decode cX11_isSign 8 = .ok (.aload_n 0, 1) := by decide +kernel
theorem dX11_isSign_9 : decode cX11_isSign 9 = .ok (.getfield 151, 3) := by decide +kernel
theorem dX11_isSign_12 : decode cX11_isSign 12 = .ok (.iload_n 1, 1) := by decide +kernel
theorem dX11_isSign_13 : decode cX11_isSign 13 = .ok (.if_icmp .ne 7, 3) := by decide +kernel
theorem dX11_isSign_16 : decode cX11_isSign 16 = .ok (.iconst 1, 1) := by decide +kernel
theorem dX11_isSign_17 : decode cX11_isSign 17 = .ok (.goto 4, 3) := by decide +kernel
theorem dX11_isSign_20 : decode cX11_isSign 20 = .ok (.iconst 0, 1) := by decide +kernel
theorem dX11_isSign_21 : decode cX11_isSign 21 = .ok (.ireturn, 1) := by decide +kernel
theorem dX11_sign_0 : decode cX11_sign 0 = .ok (.aload_n 0, 1) := by decide +kernel
theorem dX11_sign_1 : decode cX11_sign 1 = .ok (.iload_n 1, 1) := by decide +kernel
theorem dX11_sign_2 : decode cX11_sign 2 = .ok (.invokevirtual 164, 3) := by decide +kernel
theorem dX11_sign_5 : decode cX11_sign 5 = .ok (.ifCond .ne 9, 3) := by decide +kernel
theorem dX11_sign_8 : decode cX11_sign 8 = .ok (.aload_n 0, 1) := by decide +kernel
theorem dX11_sign_9 : decode cX11_sign 9 = .ok (.iconst 1, 1) := by decide +kernel
theorem dX11_sign_10 : decode cX11_sign 10 = .ok (.invokevirtual 167, 3) := by decide +kernel
theorem dX11_sign_13 : decode cX11_sign 13 = .ok (.ireturn, 1) := by decide +kernel
theorem dX11_sign_14 : decode cX11_sign 14 = .ok (.aload_n 0, 1) := by decide +kernel
theorem dX11_sign_15 : decode cX11_sign 15 = .ok (.invokevirtual 170, 3) := by decide +kernel
theorem dX11_sign_18 : decode cX11_sign 18 = .ok (.iconst 1, 1) := by decide +kernel
theorem dX11_sign_19 : decode cX11_sign 19 = .ok (.ireturn, 1) := by decide +kernel
theorem dX11_isName_0 : decode cX11_isName 0 = .ok (.aload_n 0, 1) := by decide +kernel
theorem dX11_isName_1 : decode cX11_isName 1 = .ok (.getfield 141, 3) := by decide +kernel
theorem dX11_isName_4 : decode cX11_isName 4 = .ok (.iconst 1, 1) := by decide +kernel
theorem dX11_isName_5 : decode cX11_isName 5 = .ok (.if_icmp .ne 7, 3) := by decide +kernel
theorem dX11_isName_8 : decode cX11_isName 8 = .ok (.iconst 1, 1) := by decide +kernel
theorem dX11_isName_9 : decode cX11_isName 9 = .ok (.goto 4, 3) := by decide +kernel
theorem dX11_isName_12 : decode cX11_isName 12 = .ok (.iconst 0, 1) := by decide +kernel
theorem dX11_isName_13 : decode cX11_isName 13 = .ok (.istore_n 1, 1) := by decide +kernel
theorem dX11_isName_14 : decode cX11_isName 14 = .ok (.iconst 0, 1) := by decide +kernel
theorem dX11_isName_15 : decode cX11_isName 15 = .ok (.istore_n 2, 1) := by decide +kernel
theorem dX11_isName_16 : decode cX11_isName 16 = .ok (.iload_n 2, 1) := by decide +kernel
theorem dX11_isName_17 : decode cX11_isName 17 = .ok (.bipush 19, 2) := by decide +kernel
theorem dX11_isName_19 : decode cX11_isName 19 = .ok (.if_icmp .ge 33, 3) := by decide +kernel
theorem dX11_isName_22 : decode cX11_isName 22 = .ok (.iload_n 1, 1) := by decide +kernel
theorem dX11_isName_23 : decode cX11_isName 23 = .ok (.ifCond .eq 21, 3) := by decide +kernel
theorem dX11_isName_26 : decode cX11_isName 26 = .ok (.aload_n 0, 1) := by decide +kernel
theorem dX11_isName_27 : decode cX11_isName 27 = .ok (.getfield 154, 3) := by decide +kernel
theorem dX11_isName_30 : decode cX11_isName 30 = .ok (.aload_n 0, 1) := by decide +kernel
theorem dX11_isName_31 : decode cX11_isName 31 = .ok (.getfield 47, 3) := by decide +kernel
theorem dX11_isName_34 : decode cX11_isName 34 = .ok (.iload_n 2, 1) := by decide +kernel
theorem dX11_isName_35 : decode cX11_isName 35 = .ok (.laload, 1) := by decide +kernel
theorem dX11_isName_36 : decode cX11_isName 36 = .ok (.lcmp, 1) := by decide +kernel
theorem dX11_isName_37 : decode cX11_isName 37 = .ok (.ifCond .eq 7, 3) := by decide +kernel
theorem dX11_isName_40 : decode cX11_isName 40 = .ok (.iconst 1, 1) := by decide +kernel
theorem dX11_isName_41 : decode cX11_isName 41 = .ok (.goto 4, 3) := by decide +kernel
theorem dX11_isName_44 : decode cX11_isName 44 = .ok (.iconst 0, 1) := by decide +kernel
theorem dX11_isName_45 : decode cX11_isName 45 = .ok (.istore_n 1, 1) := by decide +kernel
theorem dX11_isName_46 : decode cX11_isName 46 = .ok (.iinc 2 1, 3) := by decide +kernel
theorem dX11_isName_49 : decode cX11_isName 49 = .ok (.goto (-33), 3) := by decide +kernel
theorem dX11_isName_52 : decode cX11_isName 52 = .ok (.iload_n 1, 1) := by decide +kernel
theorem dX11_isName_53 : decode cX11_isName 53 = .ok (.ireturn, 1) := by decide +kernel
theorem dX11_takes_0 : decode cX11_takes 0 = .ok (.aload_n 0, 1) := by decide +kernel
theorem dX11_takes_1 : decode cX11_takes 1 = .ok (.getfield 141, 3) := by decide +kernel
theorem dX11_takes_4 : decode cX11_takes 4 = .ok (.iconst 2, 1) := by decide +kernel
theorem dX11_takes_5 : decode cX11_takes 5 = .ok (.if_icmp .eq 9, 3) := by decide +kernel
theorem dX11_takes_8 : decode cX11_takes 8 = .ok (.aload_n 0, 1) := by decide +kernel
theorem dX11_takes_9 : decode cX11_takes 9 = .ok (.iconst 1, 1) := by decide +kernel
theorem dX11_takes_10 : decode cX11_takes 10 = .ok (.invokevirtual 167, 3) := by decide +kernel
theorem dX11_takes_13 : decode cX11_takes 13 = .ok (.ireturn, 1) := by decide +kernel
theorem dX11_takes_14 : decode cX11_takes 14 = .ok (.aload_n 0, 1) := by decide +kernel
theorem dX11_takes_15 : decode cX11_takes 15 = .ok (.getfield 151, 3) := by decide +kernel
theorem dX11_takes_18 : decode cX11_takes 18 = .ok (.iload_n 1, 1) := by decide +kernel
theorem dX11_takes_19 : decode cX11_takes 19 = .ok (.iload_n 2, 1) := by decide +kernel
theorem dX11_takes_20 : decode cX11_takes 20 = .ok (.invokestatic 173, 3) := by decide +kernel
theorem dX11_takes_23 : decode cX11_takes 23 = .ok (.ifCond .ne 9, 3) := by decide +kernel
theorem dX11_takes_26 : decode cX11_takes 26 = .ok (.aload_n 0, 1) := by decide +kernel
theorem dX11_takes_27 : decode cX11_takes 27 = .ok (.iconst 2, 1) := by decide +kernel
theorem dX11_takes_28 : decode cX11_takes 28 = .ok (.invokevirtual 167, 3) := by decide +kernel
theorem dX11_takes_31 : decode cX11_takes 31 = .ok (.ireturn, 1) := by decide +kernel
theorem dX11_takes_32 : decode cX11_takes 32 = .ok (.aload_n 0, 1) := by decide +kernel
theorem dX11_takes_33 : decode cX11_takes 33 = .ok (.aload_n 0, 1) := by decide +kernel
theorem dX11_takes_34 : decode cX11_takes 34 = .ok (.getfield 151, 3) := by decide +kernel
theorem dX11_takes_37 : decode cX11_takes 37 = .ok (.putfield 177, 3) := by decide +kernel
theorem dX11_takes_40 : decode cX11_takes 40 = .ok (.aload_n 0, 1) := by decide +kernel
theorem dX11_takes_41 : decode cX11_takes 41 = .ok (.invokevirtual 170, 3) := by decide +kernel
theorem dX11_takes_44 : decode cX11_takes 44 = .ok (.iconst 1, 1) := by decide +kernel
theorem dX11_takes_45 : decode cX11_takes 45 = .ok (.ireturn, 1) := by decide +kernel
theorem dX11_puts_0 : decode cX11_puts 0 = .ok (.aload_n 0, 1) := by decide +kernel
theorem dX11_puts_1 : decode cX11_puts 1 = .ok (.iload_n 2, 1) := by decide +kernel
theorem dX11_puts_2 : decode cX11_puts 2 = .ok (.iload_n 3, 1) := by decide +kernel
theorem dX11_puts_3 : decode cX11_puts 3 = .ok (.invokevirtual 180, 3) := by decide +kernel
theorem dX11_puts_6 : decode cX11_puts 6 = .ok (.ifCond .ne 5, 3) := by decide +kernel
theorem dX11_puts_9 : decode cX11_puts 9 = .ok (.iconst 0, 1) := by decide +kernel
theorem dX11_puts_10 : decode cX11_puts 10 = .ok (.ireturn, 1) := by decide +kernel
theorem dX11_puts_11 : decode cX11_puts 11 = .ok (.aload_n 0, 1) := by decide +kernel
theorem dX11_puts_12 : decode cX11_puts 12 = .ok (.getfield 37, 3) := by decide +kernel
theorem dX11_puts_15 : decode cX11_puts 15 = .ok (.iload_n 1, 1) := by decide +kernel
theorem dX11_puts_16 : decode cX11_puts 16 = .ok (.aload_n 0, 1) := by decide +kernel
theorem dX11_puts_17 : decode cX11_puts 17 = .ok (.getfield 177, 3) := by decide +kernel
theorem dX11_puts_20 : decode cX11_puts 20 = .ok (.iastore, 1) := by decide +kernel
theorem dX11_puts_21 : decode cX11_puts 21 = .ok (.iconst 1, 1) := by decide +kernel
theorem dX11_puts_22 : decode cX11_puts 22 = .ok (.ireturn, 1) := by decide +kernel
theorem dX11_seek_0 : decode cX11_seek 0 = .ok (.iconst 0, 1) := by decide +kernel
theorem dX11_seek_1 : decode cX11_seek 1 = .ok (.istore_n 3, 1) := by decide +kernel
theorem dX11_seek_2 : decode cX11_seek 2 = .ok (.iload_n 3, 1) := by decide +kernel
theorem dX11_seek_3 : decode cX11_seek 3 = .ok (.iload_n 2, 1) := by decide +kernel
theorem dX11_seek_4 : decode cX11_seek 4 = .ok (.if_icmp .ge 27, 3) := by decide +kernel
theorem dX11_seek_7 : decode cX11_seek 7 = .ok (.aload_n 0, 1) := by decide +kernel
theorem dX11_seek_8 : decode cX11_seek 8 = .ok (.getfield 43, 3) := by decide +kernel
theorem dX11_seek_11 : decode cX11_seek 11 = .ok (.iload_n 1, 1) := by decide +kernel
theorem dX11_seek_12 : decode cX11_seek 12 = .ok (.iload_n 3, 1) := by decide +kernel
theorem dX11_seek_13 : decode cX11_seek 13 = .ok (.iadd, 1) := by decide +kernel
theorem dX11_seek_14 : decode cX11_seek 14 = .ok (.laload, 1) := by decide +kernel
theorem dX11_seek_15 : decode cX11_seek 15 = .ok (.aload_n 0, 1) := by decide +kernel
theorem dX11_seek_16 : decode cX11_seek 16 = .ok (.getfield 154, 3) := by decide +kernel
theorem dX11_seek_19 : decode cX11_seek 19 = .ok (.lcmp, 1) := by decide +kernel
theorem dX11_seek_20 : decode cX11_seek 20 = .ok (.ifCond .ne 5, 3) := by decide +kernel
theorem dX11_seek_23 : decode cX11_seek 23 = .ok (.iload_n 3, 1) := by decide +kernel
theorem dX11_seek_24 : decode cX11_seek 24 = .ok (.ireturn, 1) := by decide +kernel
theorem dX11_seek_25 : decode cX11_seek 25 = .ok (.iinc 3 1, 3) := by decide +kernel
theorem dX11_seek_28 : decode cX11_seek 28 = .ok (.goto (-26), 3) := by decide +kernel
theorem dX11_seek_31 : decode cX11_seek 31 = .ok (.iconst (-1), 1) := by decide +kernel
theorem dX11_seek_32 : decode cX11_seek 32 = .ok (.ireturn, 1) := by decide +kernel
theorem dX11_fresh_0 : decode cX11_fresh 0 = .ok (.aload_n 0, 1) := by decide +kernel
theorem dX11_fresh_1 : decode cX11_fresh 1 = .ok (.invokevirtual 184, 3) := by decide +kernel
theorem dX11_fresh_4 : decode cX11_fresh 4 = .ok (.ifCond .ne 9, 3) := by decide +kernel
theorem dX11_fresh_7 : decode cX11_fresh 7 = .ok (.aload_n 0, 1) := by decide +kernel
theorem dX11_fresh_8 : decode cX11_fresh 8 = .ok (.iconst 1, 1) := by decide +kernel
theorem dX11_fresh_9 : decode cX11_fresh 9 = .ok (.invokevirtual 167, 3) := by decide +kernel
theorem dX11_fresh_12 : decode cX11_fresh 12 = .ok (.ireturn, 1) := by decide +kernel
theorem dX11_fresh_13 : decode cX11_fresh 13 = .ok (.aload_n 0, 1) := by decide +kernel
theorem dX11_fresh_14 : decode cX11_fresh 14 = .ok (.bipush 11, 2) := by decide +kernel
theorem dX11_fresh_16 : decode cX11_fresh 16 = .ok (.aload_n 0, 1) := by decide +kernel
theorem dX11_fresh_17 : decode cX11_fresh 17 = .ok (.getfield 37, 3) := by decide +kernel
theorem dX11_fresh_20 : decode cX11_fresh 20 = .ok (.iconst 0, 1) := by decide +kernel
theorem dX11_fresh_21 : decode cX11_fresh 21 = .ok (.iaload, 1) := by decide +kernel
theorem dX11_fresh_22 : decode cX11_fresh 22 = .ok (.invokevirtual 188, 3) := by decide +kernel
theorem dX11_fresh_25 : decode cX11_fresh 25 = .ok (.ifCond .ge 18, 3) := by decide +kernel
theorem dX11_fresh_28 : decode cX11_fresh 28 = .ok (.aload_n 0, 1) := by decide +kernel
theorem dX11_fresh_29 : decode cX11_fresh 29 = .ok (.bipush 16, 2) := by decide +kernel
theorem dX11_fresh_31 : decode cX11_fresh 31 = .ok (.aload_n 0, 1) := by decide +kernel
theorem dX11_fresh_32 : decode cX11_fresh 32 = .ok (.getfield 37, 3) := by decide +kernel
theorem dX11_fresh_35 : decode cX11_fresh 35 = .ok (.iconst 1, 1) := by decide +kernel
theorem dX11_fresh_36 : decode cX11_fresh 36 = .ok (.iaload, 1) := by decide +kernel
theorem dX11_fresh_37 : decode cX11_fresh 37 = .ok (.invokevirtual 188, 3) := by decide +kernel
theorem dX11_fresh_40 : decode cX11_fresh 40 = .ok (.ifCond .lt 9, 3) := by decide +kernel
theorem dX11_fresh_43 : decode cX11_fresh 43 = .ok (.aload_n 0, 1) := by decide +kernel
theorem dX11_fresh_44 : decode cX11_fresh 44 = .ok (.iconst 3, 1) := by decide +kernel
theorem dX11_fresh_45 : decode cX11_fresh 45 = .ok (.invokevirtual 167, 3) := by decide +kernel
theorem dX11_fresh_48 : decode cX11_fresh 48 = .ok (.ireturn, 1) := by decide +kernel
theorem dX11_fresh_49 : decode cX11_fresh 49 = .ok (.aload_n 0, 1) := by decide +kernel
theorem dX11_fresh_50 : decode cX11_fresh 50 = .ok (.getfield 43, 3) := by decide +kernel
theorem dX11_fresh_53 : decode cX11_fresh 53 = .ok (.iload_n 1, 1) := by decide +kernel
theorem dX11_fresh_54 : decode cX11_fresh 54 = .ok (.aload_n 0, 1) := by decide +kernel
theorem dX11_fresh_55 : decode cX11_fresh 55 = .ok (.getfield 154, 3) := by decide +kernel
theorem dX11_fresh_58 : decode cX11_fresh 58 = .ok (.lastore, 1) := by decide +kernel
theorem dX11_fresh_59 : decode cX11_fresh 59 = .ok (.aload_n 0, 1) := by decide +kernel
theorem dX11_fresh_60 : decode cX11_fresh 60 = .ok (.invokevirtual 170, 3) := by decide +kernel
theorem dX11_fresh_63 : decode cX11_fresh 63 = .ok (.iconst 1, 1) := by decide +kernel
theorem dX11_fresh_64 : decode cX11_fresh 64 = .ok (.ireturn, 1) := by decide +kernel
theorem dX11_looksAt_0 : decode cX11_looksAt 0 = .ok (.aload_n 0, 1) := by decide +kernel
theorem dX11_looksAt_1 : decode cX11_looksAt 1 = .ok (.invokevirtual 184, 3) := by decide +kernel
theorem dX11_looksAt_4 : decode cX11_looksAt 4 = .ok (.ifCond .ne 9, 3) := by decide +kernel
theorem dX11_looksAt_7 : decode cX11_looksAt 7 = .ok (.aload_n 0, 1) := by decide +kernel
theorem dX11_looksAt_8 : decode cX11_looksAt 8 = .ok (.iconst 1, 1) := by decide +kernel
theorem dX11_looksAt_9 : decode cX11_looksAt 9 = .ok (.invokevirtual 167, 3) := by decide +kernel
theorem dX11_looksAt_12 : decode cX11_looksAt 12 = .ok (.ireturn, 1) := by decide +kernel
theorem dX11_looksAt_13 : decode cX11_looksAt 13 = .ok (.aload_n 0, 1) := by decide +kernel
theorem dX11_looksAt_14 : decode cX11_looksAt 14 = .ok (.aload_n 0, 1) := by decide +kernel
theorem dX11_looksAt_15 : decode cX11_looksAt 15 = .ok (.iload_n 1, 1) := by decide +kernel
theorem dX11_looksAt_16 : decode cX11_looksAt 16 = .ok (.iload_n 2, 1) := by decide +kernel
theorem dX11_looksAt_17 : decode cX11_looksAt 17 = .ok (.invokevirtual 188, 3) := by decide +kernel
theorem dX11_looksAt_20 : decode cX11_looksAt 20 = .ok (.putfield 177, 3) := by decide +kernel
theorem dX11_looksAt_23 : decode cX11_looksAt 23 = .ok (.aload_n 0, 1) := by decide +kernel
theorem dX11_looksAt_24 : decode cX11_looksAt 24 = .ok (.getfield 177, 3) := by decide +kernel
theorem dX11_looksAt_27 : decode cX11_looksAt 27 = .ok (.ifCond .ge 11, 3) := by decide +kernel
theorem dX11_looksAt_30 : decode cX11_looksAt 30 = .ok (.aload_n 0, 1) := by decide +kernel
theorem dX11_looksAt_31 : decode cX11_looksAt 31 = .ok (.iconst 3, 1) := by decide +kernel
theorem dX11_looksAt_32 : decode cX11_looksAt 32 = .ok (.invokevirtual 167, 3) := by decide +kernel
theorem dX11_looksAt_35 : decode cX11_looksAt 35 = .ok (.ifCond .eq 7, 3) := by decide +kernel
theorem dX11_looksAt_38 : decode cX11_looksAt 38 = .ok (.iconst 1, 1) := by decide +kernel
theorem dX11_looksAt_39 : decode cX11_looksAt 39 = .ok (.goto 4, 3) := by decide +kernel
theorem dX11_looksAt_42 : decode cX11_looksAt 42 = .ok (.iconst 0, 1) := by decide +kernel
theorem dX11_looksAt_43 : decode cX11_looksAt 43 = .ok (.ireturn, 1) := by decide +kernel
theorem dX11_takesName_0 : decode cX11_takesName 0 = .ok (.aload_n 0, 1) := by decide +kernel
theorem dX11_takesName_1 : decode cX11_takesName 1 = .ok (.iload_n 1, 1) := by decide +kernel
theorem dX11_takesName_2 : decode cX11_takesName 2 = .ok (.iload_n 2, 1) := by decide +kernel
theorem dX11_takesName_3 : decode cX11_takesName 3 = .ok (.invokevirtual 192, 3) := by decide +kernel
theorem dX11_takesName_6 : decode cX11_takesName 6 = .ok (.ifCond .ne 5, 3) := by decide +kernel
theorem dX11_takesName_9 : decode cX11_takesName 9 = .ok (.iconst 0, 1) := by decide +kernel
theorem dX11_takesName_10 : decode cX11_takesName 10 = .ok (.ireturn, 1) := by decide +kernel
theorem dX11_takesName_11 : decode cX11_takesName 11 = .ok (.aload_n 0, 1) := by decide +kernel
theorem dX11_takesName_12 : decode cX11_takesName 12 = .ok (.invokevirtual 170, 3) := by decide +kernel
theorem dX11_takesName_15 : decode cX11_takesName 15 = .ok (.iconst 1, 1) := by decide +kernel
theorem dX11_takesName_16 : decode cX11_takesName 16 = .ok (.ireturn, 1) := by decide +kernel
theorem dX11_line_0 : decode cX11_line 0 = .ok (.aload_n 0, 1) := by decide +kernel
theorem dX11_line_1 : decode cX11_line 1 = .ok (.ldc2_w 90, 3) := by decide +kernel
theorem dX11_line_4 : decode cX11_line 4 = .ok (.invokevirtual 195, 3) := by decide +kernel
theorem dX11_line_7 : decode cX11_line 7 = .ok (.ifCond .eq 8, 3) := by decide +kernel
theorem dX11_line_10 : decode cX11_line 10 = .ok (.aload_n 0, 1) := by decide +kernel
theorem dX11_line_11 : decode cX11_line 11 = .ok (.invokevirtual 199, 3) := by decide +kernel
theorem dX11_line_14 : decode cX11_line 14 = .ok (.ireturn, 1) := by decide +kernel
theorem dX11_line_15 : decode cX11_line 15 = .ok (.aload_n 0, 1) := by decide +kernel
theorem dX11_line_16 : decode cX11_line 16 = .ok (.ldc2_w 92, 3) := by decide +kernel
theorem dX11_line_19 : decode cX11_line 19 = .ok (.invokevirtual 195, 3) := by decide +kernel
theorem dX11_line_22 : decode cX11_line 22 = .ok (.ifCond .eq 8, 3) := by decide +kernel
theorem dX11_line_25 : decode cX11_line 25 = .ok (.aload_n 0, 1) := by decide +kernel
theorem dX11_line_26 : decode cX11_line 26 = .ok (.invokevirtual 202, 3) := by decide +kernel
theorem dX11_line_29 : decode cX11_line 29 = .ok (.ireturn, 1) := by decide +kernel
theorem dX11_line_30 : decode cX11_line 30 = .ok (.aload_n 0, 1) := by decide +kernel
theorem dX11_line_31 : decode cX11_line 31 = .ok (.ldc2_w 94, 3) := by decide +kernel
theorem dX11_line_34 : decode cX11_line 34 = .ok (.invokevirtual 195, 3) := by decide +kernel
theorem dX11_line_37 : decode cX11_line 37 = .ok (.ifCond .eq 8, 3) := by decide +kernel
theorem dX11_line_40 : decode cX11_line 40 = .ok (.aload_n 0, 1) := by decide +kernel
theorem dX11_line_41 : decode cX11_line 41 = .ok (.invokevirtual 205, 3) := by decide +kernel
theorem dX11_line_44 : decode cX11_line 44 = .ok (.ireturn, 1) := by decide +kernel
theorem dX11_line_45 : decode cX11_line 45 = .ok (.aload_n 0, 1) := by decide +kernel
theorem dX11_line_46 : decode cX11_line 46 = .ok (.ldc2_w 96, 3) := by decide +kernel
theorem dX11_line_49 : decode cX11_line 49 = .ok (.invokevirtual 195, 3) := by decide +kernel
theorem dX11_line_52 : decode cX11_line 52 = .ok (.ifCond .ne 9, 3) := by decide +kernel
theorem dX11_line_55 : decode cX11_line 55 = .ok (.aload_n 0, 1) := by decide +kernel
theorem dX11_line_56 : decode cX11_line 56 = .ok (.iconst 1, 1) := by decide +kernel
theorem dX11_line_57 : decode cX11_line 57 = .ok (.invokevirtual 167, 3) := by decide +kernel
theorem dX11_line_60 : decode cX11_line 60 = .ok (.ireturn, 1) := by decide +kernel
theorem dX11_line_61 : decode cX11_line 61 = .ok (.aload_n 0, 1) := by decide +kernel
theorem dX11_line_62 : decode cX11_line 62 = .ok (.getfield 208, 3) := by decide +kernel
theorem dX11_line_65 : decode cX11_line 65 = .ok (.ifCond .eq 9, 3) := by decide +kernel
theorem dX11_line_68 : decode cX11_line 68 = .ok (.aload_n 0, 1) := by decide +kernel
theorem dX11_line_69 : decode cX11_line 69 = .ok (.iconst 3, 1) := by decide +kernel
theorem dX11_line_70 : decode cX11_line 70 = .ok (.invokevirtual 167, 3) := by decide +kernel
theorem dX11_line_73 : decode cX11_line 73 = .ok (.ireturn, 1) := by decide +kernel
theorem dX11_line_74 : decode cX11_line 74 = .ok (.aload_n 0, 1) := by decide +kernel
theorem dX11_line_75 : decode cX11_line 75 = .ok (.iconst 1, 1) := by decide +kernel
theorem dX11_line_76 : decode cX11_line 76 = .ok (.putfield 208, 3) := by decide +kernel
theorem dX11_line_79 : decode cX11_line 79 = .ok (.aload_n 0, 1) := by decide +kernel
theorem dX11_line_80 : decode cX11_line 80 = .ok (.invokevirtual 170, 3) := by decide +kernel
theorem dX11_line_83 : decode cX11_line 83 = .ok (.aload_n 0, 1) := by decide +kernel
theorem dX11_line_84 : decode cX11_line 84 = .ok (.iconst 2, 1) := by decide +kernel
theorem dX11_line_85 : decode cX11_line 85 = .ok (.iconst 1, 1) := by decide +kernel
theorem dX11_line_86 : decode cX11_line 86 = .ok (.sipush 999, 3) := by decide +kernel
theorem dX11_line_89 : decode cX11_line 89 = .ok (.invokevirtual 212, 3) := by decide +kernel
theorem dX11_line_92 : decode cX11_line 92 = .ok (.ifCond .eq 18, 3) := by decide +kernel
theorem dX11_line_95 : decode cX11_line 95 = .ok (.aload_n 0, 1) := by decide +kernel
theorem dX11_line_96 : decode cX11_line 96 = .ok (.iconst 3, 1) := by decide +kernel
theorem dX11_line_97 : decode cX11_line 97 = .ok (.iconst 1, 1) := by decide +kernel
theorem dX11_line_98 : decode cX11_line 98 = .ok (.bipush 30, 2) := by decide +kernel
theorem dX11_line_100 : decode cX11_line 100 = .ok (.invokevirtual 212, 3) := by decide +kernel
theorem dX11_line_103 : decode cX11_line 103 = .ok (.ifCond .eq 7, 3) := by decide +kernel
theorem dX11_line_106 : decode cX11_line 106 = .ok (.iconst 1, 1) := by decide +kernel
theorem dX11_line_107 : decode cX11_line 107 = .ok (.goto 4, 3) := by decide +kernel
theorem dX11_line_110 : decode cX11_line 110 = .ok (.iconst 0, 1) := by decide +kernel
theorem dX11_line_111 : decode cX11_line 111 = .ok (.ireturn, 1) := by decide +kernel
theorem dX11_readParish_0 : decode cX11_readParish 0 = .ok (.aload_n 0, 1) := by decide +kernel
theorem dX11_readParish_1 : decode cX11_readParish 1 = .ok (.getfield 37, 3) := by decide +kernel
theorem dX11_readParish_4 : decode cX11_readParish 4 = .ok (.iconst 0, 1) := by decide +kernel
theorem dX11_readParish_5 : decode cX11_readParish 5 = .ok (.iaload, 1) := by decide +kernel
theorem dX11_readParish_6 : decode cX11_readParish 6 = .ok (.istore_n 1, 1) := by decide +kernel
theorem dX11_readParish_7 : decode cX11_readParish 7 = .ok (.iload_n 1, 1) := by decide +kernel
theorem dX11_readParish_8 : decode cX11_readParish 8 = .ok (.iconst 5, 1) := by decide +kernel
theorem dX11_readParish_9 : decode cX11_readParish 9 = .ok (.if_icmp .ne 9, 3) := by decide +kernel
theorem dX11_readParish_12 : decode cX11_readParish 12 = .ok (.aload_n 0, 1) := by decide +kernel
theorem dX11_readParish_13 : decode cX11_readParish 13 = .ok (.iconst 4, 1) := by decide +kernel
theorem dX11_readParish_14 : decode cX11_readParish 14 = .ok (.invokevirtual 167, 3) := by decide +kernel
theorem dX11_readParish_17 : decode cX11_readParish 17 = .ok (.ireturn, 1) := by decide +kernel
theorem dX11_readParish_18 : decode cX11_readParish 18 = .ok (.aload_n 0, 1) := by decide +kernel
theorem dX11_readParish_19 : decode cX11_readParish 19 = .ok (.invokevirtual 170, 3) := by decide +kernel
theorem dX11_readParish_22 : decode cX11_readParish 22 = .ok (.aload_n 0, 1) := by decide +kernel
theorem dX11_readParish_23 : decode cX11_readParish 23 = .ok (.bipush 11, 2) := by decide +kernel
theorem dX11_readParish_25 : decode cX11_readParish 25 = .ok (.iload_n 1, 1) := by decide +kernel
theorem dX11_readParish_26 : decode cX11_readParish 26 = .ok (.iadd, 1) := by decide +kernel
theorem dX11_readParish_27 : decode cX11_readParish 27 = .ok (.invokevirtual 215, 3) := by decide +kernel
theorem dX11_readParish_30 : decode cX11_readParish 30 = .ok (.ifCond .eq 59, 3) := by decide +kernel
theorem dX11_readParish_33 : decode cX11_readParish 33 = .ok (.aload_n 0, 1) := by decide +kernel
theorem dX11_readParish_34 : decode cX11_readParish 34 = .ok (.iconst 4, 1) := by decide +kernel
theorem dX11_readParish_35 : decode cX11_readParish 35 = .ok (.iload_n 1, 1) := by decide +kernel
theorem dX11_readParish_36 : decode cX11_readParish 36 = .ok (.iadd, 1) := by decide +kernel
theorem dX11_readParish_37 : decode cX11_readParish 37 = .ok (.iconst 2, 1) := by decide +kernel
theorem dX11_readParish_38 : decode cX11_readParish 38 = .ok (.bipush 13, 2) := by decide +kernel
theorem dX11_readParish_40 : decode cX11_readParish 40 = .ok (.invokevirtual 212, 3) := by decide +kernel
theorem dX11_readParish_43 : decode cX11_readParish 43 = .ok (.ifCond .eq 46, 3) := by decide +kernel
theorem dX11_readParish_46 : decode cX11_readParish 46 = .ok (.aload_n 0, 1) := by decide +kernel
theorem dX11_readParish_47 : decode cX11_readParish 47 = .ok (.bipush 9, 2) := by decide +kernel
theorem dX11_readParish_49 : decode cX11_readParish 49 = .ok (.iload_n 1, 1) := by decide +kernel
theorem dX11_readParish_50 : decode cX11_readParish 50 = .ok (.iadd, 1) := by decide +kernel
theorem dX11_readParish_51 : decode cX11_readParish 51 = .ok (.iconst 2, 1) := by decide +kernel
theorem dX11_readParish_52 : decode cX11_readParish 52 = .ok (.bipush 30, 2) := by decide +kernel
theorem dX11_readParish_54 : decode cX11_readParish 54 = .ok (.invokevirtual 212, 3) := by decide +kernel
theorem dX11_readParish_57 : decode cX11_readParish 57 = .ok (.ifCond .eq 32, 3) := by decide +kernel
theorem dX11_readParish_60 : decode cX11_readParish 60 = .ok (.aload_n 0, 1) := by decide +kernel
theorem dX11_readParish_61 : decode cX11_readParish 61 = .ok (.bipush 14, 2) := by decide +kernel
theorem dX11_readParish_63 : decode cX11_readParish 63 = .ok (.iload_n 1, 1) := by decide +kernel
theorem dX11_readParish_64 : decode cX11_readParish 64 = .ok (.iadd, 1) := by decide +kernel
theorem dX11_readParish_65 : decode cX11_readParish 65 = .ok (.iconst 2, 1) := by decide +kernel
theorem dX11_readParish_66 : decode cX11_readParish 66 = .ok (.bipush 9, 2) := by decide +kernel
theorem dX11_readParish_68 : decode cX11_readParish 68 = .ok (.invokevirtual 212, 3) := by decide +kernel
theorem dX11_readParish_71 : decode cX11_readParish 71 = .ok (.ifCond .eq 18, 3) := by decide +kernel
theorem dX11_readParish_74 : decode cX11_readParish 74 = .ok (.aload_n 0, 1) := by decide +kernel
theorem dX11_readParish_75 : decode cX11_readParish 75 = .ok (.bipush 19, 2) := by decide +kernel
theorem dX11_readParish_77 : decode cX11_readParish 77 = .ok (.iload_n 1, 1) := by decide +kernel
theorem dX11_readParish_78 : decode cX11_readParish 78 = .ok (.iadd, 1) := by decide +kernel
theorem dX11_readParish_79 : decode cX11_readParish 79 = .ok (.iconst 0, 1) := by decide +kernel
theorem dX11_readParish_80 : decode cX11_readParish 80 = .ok (.sipush 999, 3) := by decide +kernel
theorem dX11_readParish_83 : decode cX11_readParish 83 = .ok (.invokevirtual 212, 3) := by decide +kernel
theorem dX11_readParish_86 : decode cX11_readParish 86 = .ok (.ifCond .ne 5, 3) := by decide +kernel
theorem dX11_readParish_89 : decode cX11_readParish 89 = .ok (.iconst 0, 1) := by decide +kernel
theorem dX11_readParish_90 : decode cX11_readParish 90 = .ok (.ireturn, 1) := by decide +kernel
theorem dX11_readParish_91 : decode cX11_readParish 91 = .ok (.aload_n 0, 1) := by decide +kernel
theorem dX11_readParish_92 : decode cX11_readParish 92 = .ok (.getfield 37, 3) := by decide +kernel
theorem dX11_readParish_95 : decode cX11_readParish 95 = .ok (.iconst 0, 1) := by decide +kernel
theorem dX11_readParish_96 : decode cX11_readParish 96 = .ok (.dup2, 1) := by decide +kernel
theorem dX11_readParish_97 : decode cX11_readParish 97 = .ok (.iaload, 1) := by decide +kernel
theorem dX11_readParish_98 : decode cX11_readParish 98 = .ok (.iconst 1, 1) := by decide +kernel
theorem dX11_readParish_99 : decode cX11_readParish 99 = .ok (.iadd, 1) := by decide +kernel
theorem dX11_readParish_100 : decode cX11_readParish 100 = .ok (.iastore, 1) := by decide +kernel
theorem dX11_readParish_101 : decode cX11_readParish 101 = .ok (.iconst 1, 1) := by decide +kernel
theorem dX11_readParish_102 : decode cX11_readParish 102 = .ok (.ireturn, 1) := by decide +kernel
theorem dX11_readLeap_0 : decode cX11_readLeap 0 = .ok (.aload_n 0, 1) := by decide +kernel
theorem dX11_readLeap_1 : decode cX11_readLeap 1 = .ok (.invokevirtual 170, 3) := by decide +kernel
theorem dX11_readLeap_4 : decode cX11_readLeap 4 = .ok (.aload_n 0, 1) := by decide +kernel
theorem dX11_readLeap_5 : decode cX11_readLeap 5 = .ok (.bipush 11, 2) := by decide +kernel
theorem dX11_readLeap_7 : decode cX11_readLeap 7 = .ok (.aload_n 0, 1) := by decide +kernel
theorem dX11_readLeap_8 : decode cX11_readLeap 8 = .ok (.getfield 37, 3) := by decide +kernel
theorem dX11_readLeap_11 : decode cX11_readLeap 11 = .ok (.iconst 0, 1) := by decide +kernel
theorem dX11_readLeap_12 : decode cX11_readLeap 12 = .ok (.iaload, 1) := by decide +kernel
theorem dX11_readLeap_13 : decode cX11_readLeap 13 = .ok (.invokevirtual 192, 3) := by decide +kernel
theorem dX11_readLeap_16 : decode cX11_readLeap 16 = .ok (.ifCond .ne 5, 3) := by decide +kernel
theorem dX11_readLeap_19 : decode cX11_readLeap 19 = .ok (.iconst 0, 1) := by decide +kernel
theorem dX11_readLeap_20 : decode cX11_readLeap 20 = .ok (.ireturn, 1) := by decide +kernel
theorem dX11_readLeap_21 : decode cX11_readLeap 21 = .ok (.aload_n 0, 1) := by decide +kernel
theorem dX11_readLeap_22 : decode cX11_readLeap 22 = .ok (.getfield 177, 3) := by decide +kernel
theorem dX11_readLeap_25 : decode cX11_readLeap 25 = .ok (.istore_n 1, 1) := by decide +kernel
theorem dX11_readLeap_26 : decode cX11_readLeap 26 = .ok (.aload_n 0, 1) := by decide +kernel
theorem dX11_readLeap_27 : decode cX11_readLeap 27 = .ok (.getfield 37, 3) := by decide +kernel
theorem dX11_readLeap_30 : decode cX11_readLeap 30 = .ok (.bipush 24, 2) := by decide +kernel
theorem dX11_readLeap_32 : decode cX11_readLeap 32 = .ok (.iload_n 1, 1) := by decide +kernel
theorem dX11_readLeap_33 : decode cX11_readLeap 33 = .ok (.iadd, 1) := by decide +kernel
theorem dX11_readLeap_34 : decode cX11_readLeap 34 = .ok (.iaload, 1) := by decide +kernel
theorem dX11_readLeap_35 : decode cX11_readLeap 35 = .ok (.ifCond .le 9, 3) := by decide +kernel
theorem dX11_readLeap_38 : decode cX11_readLeap 38 = .ok (.aload_n 0, 1) := by decide +kernel
theorem dX11_readLeap_39 : decode cX11_readLeap 39 = .ok (.iconst 3, 1) := by decide +kernel
theorem dX11_readLeap_40 : decode cX11_readLeap 40 = .ok (.invokevirtual 167, 3) := by decide +kernel
theorem dX11_readLeap_43 : decode cX11_readLeap 43 = .ok (.ireturn, 1) := by decide +kernel
theorem dX11_readLeap_44 : decode cX11_readLeap 44 = .ok (.aload_n 0, 1) := by decide +kernel
theorem dX11_readLeap_45 : decode cX11_readLeap 45 = .ok (.invokevirtual 170, 3) := by decide +kernel
theorem dX11_readLeap_48 : decode cX11_readLeap 48 = .ok (.aload_n 0, 1) := by decide +kernel
theorem dX11_readLeap_49 : decode cX11_readLeap 49 = .ok (.bipush 24, 2) := by decide +kernel
theorem dX11_readLeap_51 : decode cX11_readLeap 51 = .ok (.iload_n 1, 1) := by decide +kernel
theorem dX11_readLeap_52 : decode cX11_readLeap 52 = .ok (.iadd, 1) := by decide +kernel
theorem dX11_readLeap_53 : decode cX11_readLeap 53 = .ok (.iconst 1, 1) := by decide +kernel
theorem dX11_readLeap_54 : decode cX11_readLeap 54 = .ok (.bipush 9, 2) := by decide +kernel
theorem dX11_readLeap_56 : decode cX11_readLeap 56 = .ok (.invokevirtual 212, 3) := by decide +kernel
theorem dX11_readLeap_59 : decode cX11_readLeap 59 = .ok (.ifCond .eq 21, 3) := by decide +kernel
theorem dX11_readLeap_62 : decode cX11_readLeap 62 = .ok (.aload_n 0, 1) := by decide +kernel
theorem dX11_readLeap_63 : decode cX11_readLeap 63 = .ok (.bipush 29, 2) := by decide +kernel
theorem dX11_readLeap_65 : decode cX11_readLeap 65 = .ok (.iload_n 1, 1) := by decide +kernel
theorem dX11_readLeap_66 : decode cX11_readLeap 66 = .ok (.iadd, 1) := by decide +kernel
theorem dX11_readLeap_67 : decode cX11_readLeap 67 = .ok (.iconst 1, 1) := by decide +kernel
theorem dX11_readLeap_68 : decode cX11_readLeap 68 = .ok (.bipush 9, 2) := by decide +kernel
theorem dX11_readLeap_70 : decode cX11_readLeap 70 = .ok (.invokevirtual 212, 3) := by decide +kernel
theorem dX11_readLeap_73 : decode cX11_readLeap 73 = .ok (.ifCond .eq 7, 3) := by decide +kernel
theorem dX11_readLeap_76 : decode cX11_readLeap 76 = .ok (.iconst 1, 1) := by decide +kernel
theorem dX11_readLeap_77 : decode cX11_readLeap 77 = .ok (.goto 4, 3) := by decide +kernel
theorem dX11_readLeap_80 : decode cX11_readLeap 80 = .ok (.iconst 0, 1) := by decide +kernel
theorem dX11_readLeap_81 : decode cX11_readLeap 81 = .ok (.ireturn, 1) := by decide +kernel
theorem dX11_readFeast_0 : decode cX11_readFeast 0 = .ok (.aload_n 0, 1) := by decide +kernel
theorem dX11_readFeast_1 : decode cX11_readFeast 1 = .ok (.getfield 37, 3) := by decide +kernel
theorem dX11_readFeast_4 : decode cX11_readFeast 4 = .ok (.iconst 1, 1) := by decide +kernel
theorem dX11_readFeast_5 : decode cX11_readFeast 5 = .ok (.iaload, 1) := by decide +kernel
theorem dX11_readFeast_6 : decode cX11_readFeast 6 = .ok (.istore_n 1, 1) := by decide +kernel
theorem dX11_readFeast_7 : decode cX11_readFeast 7 = .ok (.iload_n 1, 1) := by decide +kernel
theorem dX11_readFeast_8 : decode cX11_readFeast 8 = .ok (.bipush 6, 2) := by decide +kernel
theorem dX11_readFeast_10 : decode cX11_readFeast 10 = .ok (.if_icmp .ne 9, 3) := by decide +kernel
theorem dX11_readFeast_13 : decode cX11_readFeast 13 = .ok (.aload_n 0, 1) := by decide +kernel
theorem dX11_readFeast_14 : decode cX11_readFeast 14 = .ok (.iconst 4, 1) := by decide +kernel
theorem dX11_readFeast_15 : decode cX11_readFeast 15 = .ok (.invokevirtual 167, 3) := by decide +kernel
theorem dX11_readFeast_18 : decode cX11_readFeast 18 = .ok (.ireturn, 1) := by decide +kernel
theorem dX11_readFeast_19 : decode cX11_readFeast 19 = .ok (.aload_n 0, 1) := by decide +kernel
theorem dX11_readFeast_20 : decode cX11_readFeast 20 = .ok (.invokevirtual 170, 3) := by decide +kernel
theorem dX11_readFeast_23 : decode cX11_readFeast 23 = .ok (.aload_n 0, 1) := by decide +kernel
theorem dX11_readFeast_24 : decode cX11_readFeast 24 = .ok (.bipush 16, 2) := by decide +kernel
theorem dX11_readFeast_26 : decode cX11_readFeast 26 = .ok (.iload_n 1, 1) := by decide +kernel
theorem dX11_readFeast_27 : decode cX11_readFeast 27 = .ok (.iadd, 1) := by decide +kernel
theorem dX11_readFeast_28 : decode cX11_readFeast 28 = .ok (.invokevirtual 215, 3) := by decide +kernel
theorem dX11_readFeast_31 : decode cX11_readFeast 31 = .ok (.ifCond .eq 18, 3) := by decide +kernel
theorem dX11_readFeast_34 : decode cX11_readFeast 34 = .ok (.aload_n 0, 1) := by decide +kernel
theorem dX11_readFeast_35 : decode cX11_readFeast 35 = .ok (.bipush 11, 2) := by decide +kernel
theorem dX11_readFeast_37 : decode cX11_readFeast 37 = .ok (.aload_n 0, 1) := by decide +kernel
theorem dX11_readFeast_38 : decode cX11_readFeast 38 = .ok (.getfield 37, 3) := by decide +kernel
theorem dX11_readFeast_41 : decode cX11_readFeast 41 = .ok (.iconst 0, 1) := by decide +kernel
theorem dX11_readFeast_42 : decode cX11_readFeast 42 = .ok (.iaload, 1) := by decide +kernel
theorem dX11_readFeast_43 : decode cX11_readFeast 43 = .ok (.invokevirtual 218, 3) := by decide +kernel
theorem dX11_readFeast_46 : decode cX11_readFeast 46 = .ok (.ifCond .ne 5, 3) := by decide +kernel
theorem dX11_readFeast_49 : decode cX11_readFeast 49 = .ok (.iconst 0, 1) := by decide +kernel
theorem dX11_readFeast_50 : decode cX11_readFeast 50 = .ok (.ireturn, 1) := by decide +kernel
theorem dX11_readFeast_51 : decode cX11_readFeast 51 = .ok (.aload_n 0, 1) := by decide +kernel
theorem dX11_readFeast_52 : decode cX11_readFeast 52 = .ok (.getfield 177, 3) := by decide +kernel
theorem dX11_readFeast_55 : decode cX11_readFeast 55 = .ok (.istore_n 2, 1) := by decide +kernel
theorem dX11_readFeast_56 : decode cX11_readFeast 56 = .ok (.aload_n 0, 1) := by decide +kernel
theorem dX11_readFeast_57 : decode cX11_readFeast 57 = .ok (.getfield 37, 3) := by decide +kernel
theorem dX11_readFeast_60 : decode cX11_readFeast 60 = .ok (.bipush 34, 2) := by decide +kernel
theorem dX11_readFeast_62 : decode cX11_readFeast 62 = .ok (.iload_n 1, 1) := by decide +kernel
theorem dX11_readFeast_63 : decode cX11_readFeast 63 = .ok (.iadd, 1) := by decide +kernel
theorem dX11_readFeast_64 : decode cX11_readFeast 64 = .ok (.iload_n 2, 1) := by decide +kernel
theorem dX11_readFeast_65 : decode cX11_readFeast 65 = .ok (.iastore, 1) := by decide +kernel
theorem dX11_readFeast_66 : decode cX11_readFeast 66 = .ok (.aload_n 0, 1) := by decide +kernel
theorem dX11_readFeast_67 : decode cX11_readFeast 67 = .ok (.bipush 40, 2) := by decide +kernel
theorem dX11_readFeast_69 : decode cX11_readFeast 69 = .ok (.iload_n 1, 1) := by decide +kernel
theorem dX11_readFeast_70 : decode cX11_readFeast 70 = .ok (.iadd, 1) := by decide +kernel
theorem dX11_readFeast_71 : decode cX11_readFeast 71 = .ok (.iconst 0, 1) := by decide +kernel
theorem dX11_readFeast_72 : decode cX11_readFeast 72 = .ok (.aload_n 0, 1) := by decide +kernel
theorem dX11_readFeast_73 : decode cX11_readFeast 73 = .ok (.getfield 37, 3) := by decide +kernel
theorem dX11_readFeast_76 : decode cX11_readFeast 76 = .ok (.iconst 4, 1) := by decide +kernel
theorem dX11_readFeast_77 : decode cX11_readFeast 77 = .ok (.iload_n 2, 1) := by decide +kernel
theorem dX11_readFeast_78 : decode cX11_readFeast 78 = .ok (.iadd, 1) := by decide +kernel
theorem dX11_readFeast_79 : decode cX11_readFeast 79 = .ok (.iaload, 1) := by decide +kernel
theorem dX11_readFeast_80 : decode cX11_readFeast 80 = .ok (.iconst 1, 1) := by decide +kernel
theorem dX11_readFeast_81 : decode cX11_readFeast 81 = .ok (.isub, 1) := by decide +kernel
theorem dX11_readFeast_82 : decode cX11_readFeast 82 = .ok (.invokevirtual 212, 3) := by decide +kernel
theorem dX11_readFeast_85 : decode cX11_readFeast 85 = .ok (.ifCond .eq 26, 3) := by decide +kernel
theorem dX11_readFeast_88 : decode cX11_readFeast 88 = .ok (.aload_n 0, 1) := by decide +kernel
theorem dX11_readFeast_89 : decode cX11_readFeast 89 = .ok (.bipush 46, 2) := by decide +kernel
theorem dX11_readFeast_91 : decode cX11_readFeast 91 = .ok (.iload_n 1, 1) := by decide +kernel
theorem dX11_readFeast_92 : decode cX11_readFeast 92 = .ok (.iadd, 1) := by decide +kernel
theorem dX11_readFeast_93 : decode cX11_readFeast 93 = .ok (.iconst 0, 1) := by decide +kernel
theorem dX11_readFeast_94 : decode cX11_readFeast 94 = .ok (.aload_n 0, 1) := by decide +kernel
theorem dX11_readFeast_95 : decode cX11_readFeast 95 = .ok (.getfield 37, 3) := by decide +kernel
theorem dX11_readFeast_98 : decode cX11_readFeast 98 = .ok (.bipush 9, 2) := by decide +kernel
theorem dX11_readFeast_100 : decode cX11_readFeast 100 = .ok (.iload_n 2, 1) := by decide +kernel
theorem dX11_readFeast_101 : decode cX11_readFeast 101 = .ok (.iadd, 1) := by decide +kernel
theorem dX11_readFeast_102 : decode cX11_readFeast 102 = .ok (.iaload, 1) := by decide +kernel
theorem dX11_readFeast_103 : decode cX11_readFeast 103 = .ok (.iconst 1, 1) := by decide +kernel
theorem dX11_readFeast_104 : decode cX11_readFeast 104 = .ok (.isub, 1) := by decide +kernel
theorem dX11_readFeast_105 : decode cX11_readFeast 105 = .ok (.invokevirtual 212, 3) := by decide +kernel
theorem dX11_readFeast_108 : decode cX11_readFeast 108 = .ok (.ifCond .ne 5, 3) := by decide +kernel
theorem dX11_readFeast_111 : decode cX11_readFeast 111 = .ok (.iconst 0, 1) := by decide +kernel
theorem dX11_readFeast_112 : decode cX11_readFeast 112 = .ok (.ireturn, 1) := by decide +kernel
theorem dX11_readFeast_113 : decode cX11_readFeast 113 = .ok (.aload_n 0, 1) := by decide +kernel
theorem dX11_readFeast_114 : decode cX11_readFeast 114 = .ok (.getfield 37, 3) := by decide +kernel
theorem dX11_readFeast_117 : decode cX11_readFeast 117 = .ok (.iconst 1, 1) := by decide +kernel
theorem dX11_readFeast_118 : decode cX11_readFeast 118 = .ok (.dup2, 1) := by decide +kernel
theorem dX11_readFeast_119 : decode cX11_readFeast 119 = .ok (.iaload, 1) := by decide +kernel
theorem dX11_readFeast_120 : decode cX11_readFeast 120 = .ok (.iconst 1, 1) := by decide +kernel
theorem dX11_readFeast_121 : decode cX11_readFeast 121 = .ok (.iadd, 1) := by decide +kernel
theorem dX11_readFeast_122 : decode cX11_readFeast 122 = .ok (.iastore, 1) := by decide +kernel
theorem dX11_readFeast_123 : decode cX11_readFeast 123 = .ok (.iconst 1, 1) := by decide +kernel
theorem dX11_readFeast_124 : decode cX11_readFeast 124 = .ok (.ireturn, 1) := by decide +kernel
theorem flX11_1 : FL RX11 1 11 0 := ⟨RX11, TX11, 46, tyX11, cd_11, by decide, Or.inl (inr_9 _ (List.mem_of_getElem? (i := 3) rfl))⟩
theorem flX11_7 : FL RX11 7 11 2 := ⟨RX11, TX11, 46, tyX11, cd_11, by decide, Or.inl (inr_9 _ (List.mem_of_getElem? (i := 4) rfl))⟩
theorem flX11_14 : FL RX11 14 11 1 := ⟨RX11, TX11, 46, tyX11, cd_11, by decide, Or.inl (inr_6 _ (List.mem_of_getElem? (i := 15) rfl))⟩
theorem flX11_18 : FL RX11 18 11 3 := ⟨RX11, TX11, 46, tyX11, cd_11, by decide, Or.inl (inr_17 _ (List.mem_of_getElem? (i := 9) rfl))⟩
theorem flX11_21 : FL RX11 21 11 4 := ⟨RX11, TX11, 46, tyX11, cd_11, by decide, Or.inl (inr_17 _ (List.mem_of_getElem? (i := 10) rfl))⟩
theorem flX11_24 : FL RX11 24 11 5 := ⟨RX11, TX11, 46, tyX11, cd_11, by decide, Or.inl (inr_17 _ (List.mem_of_getElem? (i := 11) rfl))⟩
theorem flX11_37 : FL RX11 37 11 7 := ⟨RX11, TX11, 46, tyX11, cd_11, by decide, Or.inl (inr_6 _ (List.mem_of_getElem? (i := 17) rfl))⟩
theorem flX11_43 : FL RX11 43 11 9 := ⟨RX11, TX11, 46, tyX11, cd_11, by decide, Or.inl (inr_6 _ (List.mem_of_getElem? (i := 19) rfl))⟩
theorem flX11_47 : FL RX11 47 11 10 := ⟨RX11, TX11, 46, tyX11, cd_11, by decide, Or.inl (inr_6 _ (List.mem_of_getElem? (i := 20) rfl))⟩
theorem flX11_135 : FL RX11 135 11 12 := ⟨RX11, TX11, 46, tyX11, cd_11, by decide, Or.inl (inr_17 _ (List.mem_of_getElem? (i := 16) rfl))⟩
theorem flX11_138 : FL RX11 138 11 13 := ⟨RX11, TX11, 46, tyX11, cd_11, by decide, Or.inl (inr_17 _ (List.mem_of_getElem? (i := 17) rfl))⟩
theorem flX11_141 : FL RX11 141 11 11 := ⟨RX11, TX11, 46, tyX11, cd_11, by decide, Or.inl (inr_17 _ (List.mem_of_getElem? (i := 2) rfl))⟩
theorem flX11_151 : FL RX11 151 11 14 := ⟨RX11, TX11, 46, tyX11, cd_11, by decide, Or.inl (inr_17 _ (List.mem_of_getElem? (i := 18) rfl))⟩
theorem flX11_154 : FL RX11 154 11 17 := ⟨RX11, TX11, 46, tyX11, cd_11, by decide, Or.inl (inr_17 _ (List.mem_of_getElem? (i := 19) rfl))⟩
theorem flX11_177 : FL RX11 177 11 18 := ⟨RX11, TX11, 46, tyX11, cd_11, by decide, Or.inl (inr_19 _ (List.mem_of_getElem? (i := 14) rfl))⟩
theorem flX11_208 : FL RX11 208 11 20 := ⟨RX11, TX11, 46, tyX11, cd_11, by decide, Or.inl (inr_17 _ (List.mem_of_getElem? (i := 1) rfl))⟩
theorem fpX11_1 : FP RX11 1 11 0 .int := ⟨RX11, TX11, 46, tyX11, cd_11, by decide, (inr_9 _ (List.mem_of_getElem? (i := 3) rfl)), rfl, by decide +kernel⟩
theorem fpX11_7 : FP RX11 7 11 2 .int := ⟨RX11, TX11, 46, tyX11, cd_11, by decide, (inr_9 _ (List.mem_of_getElem? (i := 4) rfl)), rfl, by decide +kernel⟩
theorem fpX11_18 : FP RX11 18 11 3 .int := ⟨RX11, TX11, 46, tyX11, cd_11, by decide, (inr_17 _ (List.mem_of_getElem? (i := 9) rfl)), rfl, by decide +kernel⟩
theorem fpX11_21 : FP RX11 21 11 4 .int := ⟨RX11, TX11, 46, tyX11, cd_11, by decide, (inr_17 _ (List.mem_of_getElem? (i := 10) rfl)), rfl, by decide +kernel⟩
theorem fpX11_24 : FP RX11 24 11 5 .int := ⟨RX11, TX11, 46, tyX11, cd_11, by decide, (inr_17 _ (List.mem_of_getElem? (i := 11) rfl)), rfl, by decide +kernel⟩
theorem fpX11_135 : FP RX11 135 11 12 .int := ⟨RX11, TX11, 46, tyX11, cd_11, by decide, (inr_17 _ (List.mem_of_getElem? (i := 16) rfl)), rfl, by decide +kernel⟩
theorem fpX11_138 : FP RX11 138 11 13 .int := ⟨RX11, TX11, 46, tyX11, cd_11, by decide, (inr_17 _ (List.mem_of_getElem? (i := 17) rfl)), rfl, by decide +kernel⟩
theorem fpX11_141 : FP RX11 141 11 11 .int := ⟨RX11, TX11, 46, tyX11, cd_11, by decide, (inr_17 _ (List.mem_of_getElem? (i := 2) rfl)), rfl, by decide +kernel⟩
theorem fpX11_151 : FP RX11 151 11 14 .int := ⟨RX11, TX11, 46, tyX11, cd_11, by decide, (inr_17 _ (List.mem_of_getElem? (i := 18) rfl)), rfl, by decide +kernel⟩
theorem fpX11_154 : FP RX11 154 11 17 .long := ⟨RX11, TX11, 46, tyX11, cd_11, by decide, (inr_17 _ (List.mem_of_getElem? (i := 19) rfl)), rfl, by decide +kernel⟩
theorem fpX11_158 : FP RX11 158 11 15 .int := ⟨RX11, TX11, 46, tyX11, cd_11, by decide, (inr_16 _ (List.mem_of_getElem? (i := 23) rfl)), rfl, by decide +kernel⟩
theorem fpX11_161 : FP RX11 161 11 16 .int := ⟨RX11, TX11, 46, tyX11, cd_11, by decide, (inr_17 _ (List.mem_of_getElem? (i := 3) rfl)), rfl, by decide +kernel⟩
theorem fpX11_177 : FP RX11 177 11 18 .int := ⟨RX11, TX11, 46, tyX11, cd_11, by decide, (inr_19 _ (List.mem_of_getElem? (i := 14) rfl)), rfl, by decide +kernel⟩
theorem fpX11_208 : FP RX11 208 11 20 .boolean := ⟨RX11, TX11, 46, tyX11, cd_11, by decide, (inr_17 _ (List.mem_of_getElem? (i := 1) rfl)), rfl, by decide +kernel⟩
theorem mlX11_10 : MLv RX11 10 RX11 11 yX11_four cX11_four 3 none 1 := ⟨(inr_9 _ (List.mem_of_getElem? (i := 8) rfl)), (inr_9 _ (List.mem_of_getElem? (i := 5) rfl)), (inr_9 _ (List.mem_of_getElem? (i := 6) rfl)), (inr_9 _ (List.mem_of_getElem? (i := 7) rfl)), (inr_1 _ (List.mem_of_getElem? (i := 5) rfl)), rfl, ⟨by decide, by decide, by decide +kernel⟩, by decide, by decide, rfl⟩
theorem mlX11_131 : MLv RX11 131 RX11 11 yX11_peek cX11_peek 1 (some .int) 0 := ⟨(inr_17 _ (List.mem_of_getElem? (i := 23) rfl)), (inr_17 _ (List.mem_of_getElem? (i := 20) rfl)), (inr_17 _ (List.mem_of_getElem? (i := 21) rfl)), (inr_17 _ (List.mem_of_getElem? (i := 22) rfl)), (inr_1 _ (List.mem_of_getElem? (i := 5) rfl)), rfl, ⟨by decide, by decide, by decide +kernel⟩, by decide, by decide, rfl⟩
theorem mlX11_144 : MLs RX11 144 yX11_isSmall cX11_isSmall 1 (some .boolean) 1 := ⟨(inr_18 _ (List.mem_of_getElem? (i := 2) rfl)), (inr_18 _ (List.mem_of_getElem? (i := 0) rfl)), (inr_18 _ (List.mem_of_getElem? (i := 1) rfl)), (inr_1 _ (List.mem_of_getElem? (i := 5) rfl)), ⟨by decide, by decide, by decide +kernel⟩, by decide⟩
theorem mlX11_148 : MLs RX11 148 yX11_isDigit cX11_isDigit 1 (some .boolean) 1 := ⟨(inr_18 _ (List.mem_of_getElem? (i := 5) rfl)), (inr_18 _ (List.mem_of_getElem? (i := 3) rfl)), (inr_18 _ (List.mem_of_getElem? (i := 4) rfl)), (inr_1 _ (List.mem_of_getElem? (i := 5) rfl)), ⟨by decide, by decide, by decide +kernel⟩, by decide⟩
theorem mlX11_164 : MLv RX11 164 RX11 11 yX11_isSign cX11_isSign 2 (some .boolean) 1 := ⟨(inr_20 _ (List.mem_of_getElem? (i := 21) rfl)), (inr_20 _ (List.mem_of_getElem? (i := 18) rfl)), (inr_20 _ (List.mem_of_getElem? (i := 19) rfl)), (inr_20 _ (List.mem_of_getElem? (i := 20) rfl)), (inr_1 _ (List.mem_of_getElem? (i := 5) rfl)), rfl, ⟨by decide, by decide, by decide +kernel⟩, by decide, by decide, rfl⟩
theorem mlX11_167 : MLv RX11 167 RX11 11 yX11_bad cX11_bad 2 (some .boolean) 1 := ⟨(inr_18 _ (List.mem_of_getElem? (i := 21) rfl)), (inr_18 _ (List.mem_of_getElem? (i := 18) rfl)), (inr_18 _ (List.mem_of_getElem? (i := 19) rfl)), (inr_18 _ (List.mem_of_getElem? (i := 20) rfl)), (inr_1 _ (List.mem_of_getElem? (i := 5) rfl)), rfl, ⟨by decide, by decide, by decide +kernel⟩, by decide, by decide, rfl⟩
theorem mlX11_170 : MLv RX11 170 RX11 11 yX11_step cX11_step 4 none 0 := ⟨(inr_17 _ (List.mem_of_getElem? (i := 15) rfl)), (inr_17 _ (List.mem_of_getElem? (i := 12) rfl)), (inr_17 _ (List.mem_of_getElem? (i := 13) rfl)), (inr_17 _ (List.mem_of_getElem? (i := 14) rfl)), (inr_1 _ (List.mem_of_getElem? (i := 5) rfl)), rfl, ⟨by decide, by decide, by decide +kernel⟩, by decide, by decide, rfl⟩
theorem mlX11_173 : MLs RX11 173 yX11_isIn cX11_isIn 3 (some .boolean) 3 := ⟨(inr_19 _ (List.mem_of_getElem? (i := 21) rfl)), (inr_19 _ (List.mem_of_getElem? (i := 19) rfl)), (inr_19 _ (List.mem_of_getElem? (i := 20) rfl)), (inr_1 _ (List.mem_of_getElem? (i := 5) rfl)), ⟨by decide, by decide, by decide +kernel⟩, by decide⟩
theorem mlX11_180 : MLv RX11 180 RX11 11 yX11_takes cX11_takes 3 (some .boolean) 2 := ⟨(inr_19 _ (List.mem_of_getElem? (i := 18) rfl)), (inr_19 _ (List.mem_of_getElem? (i := 15) rfl)), (inr_19 _ (List.mem_of_getElem? (i := 16) rfl)), (inr_19 _ (List.mem_of_getElem? (i := 17) rfl)), (inr_1 _ (List.mem_of_getElem? (i := 5) rfl)), rfl, ⟨by decide, by decide, by decide +kernel⟩, by decide, by decide, rfl⟩
theorem mlX11_184 : MLv RX11 184 RX11 11 yX11_isName cX11_isName 3 (some .boolean) 0 := ⟨(inr_19 _ (List.mem_of_getElem? (i := 5) rfl)), (inr_19 _ (List.mem_of_getElem? (i := 2) rfl)), (inr_19 _ (List.mem_of_getElem? (i := 3) rfl)), (inr_19 _ (List.mem_of_getElem? (i := 4) rfl)), (inr_1 _ (List.mem_of_getElem? (i := 5) rfl)), rfl, ⟨by decide, by decide, by decide +kernel⟩, by decide, by decide, rfl⟩
theorem mlX11_188 : MLv RX11 188 RX11 11 yX11_seek cX11_seek 4 (some .int) 2 := ⟨(inr_19 _ (List.mem_of_getElem? (i := 9) rfl)), (inr_19 _ (List.mem_of_getElem? (i := 6) rfl)), (inr_19 _ (List.mem_of_getElem? (i := 7) rfl)), (inr_19 _ (List.mem_of_getElem? (i := 8) rfl)), (inr_1 _ (List.mem_of_getElem? (i := 5) rfl)), rfl, ⟨by decide, by decide, by decide +kernel⟩, by decide, by decide, rfl⟩
theorem mlX11_192 : MLv RX11 192 RX11 11 yX11_looksAt cX11_looksAt 3 (some .boolean) 2 := ⟨(inr_20 _ (List.mem_of_getElem? (i := 5) rfl)), (inr_20 _ (List.mem_of_getElem? (i := 2) rfl)), (inr_20 _ (List.mem_of_getElem? (i := 3) rfl)), (inr_20 _ (List.mem_of_getElem? (i := 4) rfl)), (inr_1 _ (List.mem_of_getElem? (i := 5) rfl)), rfl, ⟨by decide, by decide, by decide +kernel⟩, by decide, by decide, rfl⟩
theorem mlX11_195 : MLv RX11 195 RX11 11 yX11_isWord cX11_isWord 3 (some .boolean) 1 := ⟨(inr_18 _ (List.mem_of_getElem? (i := 13) rfl)), (inr_18 _ (List.mem_of_getElem? (i := 10) rfl)), (inr_18 _ (List.mem_of_getElem? (i := 11) rfl)), (inr_18 _ (List.mem_of_getElem? (i := 12) rfl)), (inr_1 _ (List.mem_of_getElem? (i := 5) rfl)), rfl, ⟨by decide, by decide, by decide +kernel⟩, by decide, by decide, rfl⟩
theorem mlX11_199 : MLv RX11 199 RX11 11 yX11_readParish cX11_readParish 2 (some .boolean) 0 := ⟨(inr_18 _ (List.mem_of_getElem? (i := 17) rfl)), (inr_18 _ (List.mem_of_getElem? (i := 14) rfl)), (inr_18 _ (List.mem_of_getElem? (i := 15) rfl)), (inr_18 _ (List.mem_of_getElem? (i := 16) rfl)), (inr_1 _ (List.mem_of_getElem? (i := 5) rfl)), rfl, ⟨by decide, by decide, by decide +kernel⟩, by decide, by decide, rfl⟩
theorem mlX11_202 : MLv RX11 202 RX11 11 yX11_readLeap cX11_readLeap 2 (some .boolean) 0 := ⟨(inr_20 _ (List.mem_of_getElem? (i := 1) rfl)), (inr_19 _ (List.mem_of_getElem? (i := 22) rfl)), (inr_19 _ (List.mem_of_getElem? (i := 23) rfl)), (inr_20 _ (List.mem_of_getElem? (i := 0) rfl)), (inr_1 _ (List.mem_of_getElem? (i := 5) rfl)), rfl, ⟨by decide, by decide, by decide +kernel⟩, by decide, by decide, rfl⟩
theorem mlX11_205 : MLv RX11 205 RX11 11 yX11_readFeast cX11_readFeast 3 (some .boolean) 0 := ⟨(inr_20 _ (List.mem_of_getElem? (i := 9) rfl)), (inr_20 _ (List.mem_of_getElem? (i := 6) rfl)), (inr_20 _ (List.mem_of_getElem? (i := 7) rfl)), (inr_20 _ (List.mem_of_getElem? (i := 8) rfl)), (inr_1 _ (List.mem_of_getElem? (i := 5) rfl)), rfl, ⟨by decide, by decide, by decide +kernel⟩, by decide, by decide, rfl⟩
theorem mlX11_212 : MLv RX11 212 RX11 11 yX11_puts cX11_puts 4 (some .boolean) 3 := ⟨(inr_19 _ (List.mem_of_getElem? (i := 13) rfl)), (inr_19 _ (List.mem_of_getElem? (i := 10) rfl)), (inr_19 _ (List.mem_of_getElem? (i := 11) rfl)), (inr_19 _ (List.mem_of_getElem? (i := 12) rfl)), (inr_1 _ (List.mem_of_getElem? (i := 5) rfl)), rfl, ⟨by decide, by decide, by decide +kernel⟩, by decide, by decide, rfl⟩
theorem mlX11_215 : MLv RX11 215 RX11 11 yX11_fresh cX11_fresh 2 (some .boolean) 1 := ⟨(inr_19 _ (List.mem_of_getElem? (i := 1) rfl)), (inr_18 _ (List.mem_of_getElem? (i := 22) rfl)), (inr_18 _ (List.mem_of_getElem? (i := 23) rfl)), (inr_19 _ (List.mem_of_getElem? (i := 0) rfl)), (inr_1 _ (List.mem_of_getElem? (i := 5) rfl)), rfl, ⟨by decide, by decide, by decide +kernel⟩, by decide, by decide, rfl⟩
theorem mlX11_218 : MLv RX11 218 RX11 11 yX11_takesName cX11_takesName 3 (some .boolean) 2 := ⟨(inr_20 _ (List.mem_of_getElem? (i := 13) rfl)), (inr_20 _ (List.mem_of_getElem? (i := 10) rfl)), (inr_20 _ (List.mem_of_getElem? (i := 11) rfl)), (inr_20 _ (List.mem_of_getElem? (i := 12) rfl)), (inr_1 _ (List.mem_of_getElem? (i := 5) rfl)), rfl, ⟨by decide, by decide, by decide +kernel⟩, by decide, by decide, rfl⟩
def fX11_thrown (a0 : Nat) (S : St) : Int32 :=
  (gI S 11 0 a0)
theorem wX11_thrown {z : Mx} {ad : Nat → Nat} {o : Option Value × St} (X : CxOk z ad RX11 cX11_thrown 1 (some .int) 1) (a0 : Nat) (h0 : KT a0 = 11) (S : St) (r : Int32) (ho : o = (some (.int r), S)) (hF : fX11_thrown a0 S = r) : GW z ad o S 0 [(0, .ref (ad a0))] [] := by
  unfold fX11_thrown at hF
  refine g_aload_n X dX11_thrown_0 0 rfl rfl ?_
  refine g_getI X dX11_thrown_1 flX11_1 rfl h0 ?_
  subst hF
  exact g_iret X dX11_thrown_4 ho
theorem tX11_thrown {ad : Nat → Nat} (hI : Inj ad) (l : Launch) (D : va_G) (cyy : Nat → ClassId) (a0 : Nat) (h0 : KT a0 = 11) (S : St) : OkM l yX11_thrown cX11_thrown 1 (some .int) 1 ad D cyy [.ref (ad a0)] S (some (.int (fX11_thrown a0 S)), S) := okM_of hI (by decide) (inr_22 _ (List.mem_of_getElem? (i := 19) rfl)) (by show _ ≤ 1; exact Nat.le_of_ble_eq_true rfl) (fun z X => wX11_thrown X a0 h0 S _ rfl rfl)
def fX11_throwsIf_s13 (a0 : Nat) (x1 : Int32)   (S : St) : (Int32 × St) :=
  ((vp_nar .boolean x1), S)
def fX11_throwsIf (a0 : Nat) (x1 : Int32) (S : St) : (Int32 × St) :=
  if x1 = 0 then (fX11_throwsIf_s13 a0 x1 (sI S 11 0 a0 (0 : Int32))) else
  (fX11_throwsIf_s13 a0 x1 (sI S 11 0 a0 (1 : Int32)))
theorem wX11_throwsIf_s13 {z : Mx} {ad : Nat → Nat} {o : Option Value × St} (X : CxOk z ad RX11 cX11_throwsIf 2 (some .boolean) 1) (a0 : Nat) (x1 : Int32) (h0 : KT a0 = 11)     (S : St) (r : (Int32 × St)) (ho : o = (some (.int r.1), r.2)) (hF : fX11_throwsIf_s13 a0 x1   S = r) : GW z ad o S 13 [(1, .int x1)] [] := by
  unfold fX11_throwsIf_s13 at hF
  refine g_iload_n X dX11_throwsIf_13 0 rfl rfl ?_
  subst hF
  exact g_zretN X dX11_throwsIf_14 ho
theorem wX11_throwsIf {z : Mx} {ad : Nat → Nat} {o : Option Value × St} (X : CxOk z ad RX11 cX11_throwsIf 2 (some .boolean) 1) (a0 : Nat) (x1 : Int32) (h0 : KT a0 = 11) (S : St) (r : (Int32 × St)) (ho : o = (some (.int r.1), r.2)) (hF : fX11_throwsIf a0 x1 S = r) : GW z ad o S 0 [(0, .ref (ad a0)), (1, .int x1)] [] := by
  unfold fX11_throwsIf at hF
  refine g_aload_n X dX11_throwsIf_0 0 rfl rfl ?_
  refine g_iload_n X dX11_throwsIf_1 1 rfl rfl ?_
  refine g_if_eq (tgt := 9) X dX11_throwsIf_2 (by decide) (fun c_1 => ?_) (fun c_1 => ?_)
  · rw [if_pos c_1] at hF
    refine g_iconst (v := 0) X dX11_throwsIf_9 (by decide) ?_
    refine g_putI X dX11_throwsIf_10 fpX11_1 rfl rfl rfl h0 ?_
    exact g_perm [1] rfl (wX11_throwsIf_s13 X a0 x1 h0 (sI S 11 0 a0 (0 : Int32)) r ho hF)
  · rw [if_neg c_1] at hF
    refine g_iconst (v := 1) X dX11_throwsIf_5 (by decide) ?_
    refine g_goto (tgt := 10) X dX11_throwsIf_6 (by decide) ?_
    refine g_putI X dX11_throwsIf_10 fpX11_1 rfl rfl rfl h0 ?_
    exact g_perm [1] rfl (wX11_throwsIf_s13 X a0 x1 h0 (sI S 11 0 a0 (1 : Int32)) r ho hF)
theorem tX11_throwsIf {ad : Nat → Nat} (hI : Inj ad) (l : Launch) (D : va_G) (cyy : Nat → ClassId) (a0 : Nat) (x1 : Int32) (h0 : KT a0 = 11) (S : St) : OkM l yX11_throwsIf cX11_throwsIf 2 (some .boolean) 1 ad D cyy [.ref (ad a0), .int x1] S (some (.int (fX11_throwsIf a0 x1 S).1), (fX11_throwsIf a0 x1 S).2) := okM_of hI (by decide) (inr_22 _ (List.mem_of_getElem? (i := 15) rfl)) (by show _ ≤ 2; exact Nat.le_of_ble_eq_true rfl) (fun z X => wX11_throwsIf X a0 x1 h0 S _ rfl rfl)
def fX11_four_s30 (k3 : Int32 → St → Option St) (a0 : Nat) (x1 : Int32) (y2 : Int32)  (S : St) : Option St :=
  k3 (y2 + (-8 : Int32)) S
def fX11_four_s20 (k3 : Int32 → St → Option St) (a0 : Nat) (x1 : Int32) (y2 : Int32)  (S : St) : Option St :=
  fX11_four_s30 k3 a0 x1 y2 (sI S 11 2 a0 ((gI S 11 2 a0) + (1 : Int32)))
def fX11_four_s3 (k3 : Int32 → St → Option St) (a0 : Nat) (x1 : Int32) (y2 : Int32)  (S : St) : Option St :=
  if y2 < 0 then (some S) else
  (if ((gI S 11 2 a0) < 0 ∨ 940 ≤ (gI S 11 2 a0).toNatClampNeg) then none else
  fX11_four_s20 k3 a0 x1 y2 (sA S 28 (a0 + 1) ((gI S 11 2 a0).toNatClampNeg) (vp_nar .byte ((x1 >>> (y2 &&& 31)).toInt8.toInt32))))
def fX11_four_h3 (a0 : Nat) (x1 : Int32) : Nat → Int32 → St → Option St
  | 0, _, _ => none
  | n + 1, y2, S => fX11_four_s3 (fX11_four_h3 a0 x1 n) a0 x1 y2 S
def fX11_four (a0 : Nat) (x1 : Int32) (S : St) : Option St :=
  fX11_four_h3 a0 x1 NN (24 : Int32) S
theorem wX11_four_s30 {z : Mx} {ad : Nat → Nat} {o : Option Value × St} (X : CxOk z ad RX11 cX11_four 3 none 1) (a0 : Nat) (x1 : Int32) (h0 : KT a0 = 11) (y2 : Int32)  (k3 : Int32 → St → Option St)   (S : St) (r : St) (ho : o = (none, r)) (hk3 : ∀ (y2 : Int32) (S : St), k3 y2 S = some r → GW z ad o S 3 [(0, .ref (ad a0)), (1, .int x1), (2, .int y2)] []) (hF : fX11_four_s30 k3 a0 x1 y2  S = some r) : GW z ad o S 30 [(0, .ref (ad a0)), (1, .int x1), (2, .int y2)] [] := by
  unfold fX11_four_s30 at hF
  refine g_iinc (v := (y2 + (-8 : Int32))) X dX11_four_30 2 rfl rfl (by decide) (lv' := [(2, .int (y2 + (-8 : Int32))), (0, .ref (ad a0)), (1, .int x1)]) rfl ?_
  refine g_goto (tgt := 3) X dX11_four_33 (by decide) ?_
  exact g_perm [1, 2, 0] rfl (hk3 (y2 + (-8 : Int32)) S hF)
theorem wX11_four_s20 {z : Mx} {ad : Nat → Nat} {o : Option Value × St} (X : CxOk z ad RX11 cX11_four 3 none 1) (a0 : Nat) (x1 : Int32) (h0 : KT a0 = 11) (y2 : Int32)  (k3 : Int32 → St → Option St)   (S : St) (r : St) (ho : o = (none, r)) (hk3 : ∀ (y2 : Int32) (S : St), k3 y2 S = some r → GW z ad o S 3 [(0, .ref (ad a0)), (1, .int x1), (2, .int y2)] []) (hF : fX11_four_s20 k3 a0 x1 y2  S = some r) : GW z ad o S 20 [(0, .ref (ad a0)), (1, .int x1), (2, .int y2)] [] := by
  unfold fX11_four_s20 at hF
  refine g_aload_n X dX11_four_20 0 rfl rfl ?_
  refine g_dup (a := .ref (ad a0)) X dX11_four_21 rfl ?_
  refine g_getI X dX11_four_22 flX11_7 rfl h0 ?_
  refine g_iconst (v := 1) X dX11_four_25 (by decide) ?_
  refine g_iadd X dX11_four_26 ?_
  refine g_putI X dX11_four_27 fpX11_7 rfl rfl rfl h0 ?_
  exact (wX11_four_s30 X a0 x1 h0 y2 k3 (sI S 11 2 a0 ((gI S 11 2 a0) + (1 : Int32))) r ho hk3 hF)
theorem wX11_four_s3 {z : Mx} {ad : Nat → Nat} {o : Option Value × St} (X : CxOk z ad RX11 cX11_four 3 none 1) (a0 : Nat) (x1 : Int32) (h0 : KT a0 = 11) (y2 : Int32)  (k3 : Int32 → St → Option St)   (S : St) (r : St) (ho : o = (none, r)) (hk3 : ∀ (y2 : Int32) (S : St), k3 y2 S = some r → GW z ad o S 3 [(0, .ref (ad a0)), (1, .int x1), (2, .int y2)] []) (hF : fX11_four_s3 k3 a0 x1 y2  S = some r) : GW z ad o S 3 [(0, .ref (ad a0)), (1, .int x1), (2, .int y2)] [] := by
  unfold fX11_four_s3 at hF
  refine g_iload_n X dX11_four_3 2 rfl rfl ?_
  refine g_if_lt (tgt := 36) X dX11_four_4 (by decide) (fun c_1 => ?_) (fun c_1 => ?_)
  · rw [if_pos c_1] at hF
    have hF := Option.some.inj hF
    subst hF
    exact g_vret X dX11_four_36 ho
  · rw [if_neg c_1] at hF
    refine g_aload_n X dX11_four_7 0 rfl rfl ?_
    refine g_getR (f := 1) X dX11_four_8 flX11_14 rfl rfl h0 ?_
    refine g_aload_n X dX11_four_11 0 rfl rfl ?_
    refine g_getI X dX11_four_12 flX11_7 rfl h0 ?_
    refine g_iload_n X dX11_four_15 1 rfl rfl ?_
    refine g_iload_n X dX11_four_16 2 rfl rfl ?_
    refine g_ishr X dX11_four_17 ?_
    refine g_i2b X dX11_four_18 ?_
    obtain ⟨e_2, hF⟩ := oguard hF
    refine g_bast X dX11_four_19 kd_28 (on_11_1 h0) e_2 ?_
    exact (wX11_four_s20 X a0 x1 h0 y2 k3 (sA S 28 (a0 + 1) ((gI S 11 2 a0).toNatClampNeg) (vp_nar .byte ((x1 >>> (y2 &&& 31)).toInt8.toInt32))) r ho hk3 hF)
theorem wX11_four_h3 {z : Mx} {ad : Nat → Nat} {o : Option Value × St} (X : CxOk z ad RX11 cX11_four 3 none 1) (a0 : Nat) (x1 : Int32) (h0 : KT a0 = 11)  (r : St) (ho : o = (none, r)) : ∀ (n : Nat) (y2 : Int32) (S : St), fX11_four_h3 a0 x1 n y2 S = some r → GW z ad o S 3 [(0, .ref (ad a0)), (1, .int x1), (2, .int y2)] [] := by
  intro n
  induction n with
  | zero => intro y2 S  hF; cases hF
  | succ n ih => intro y2 S  hF; exact wX11_four_s3 X a0 x1 h0 y2 (fX11_four_h3 a0 x1 n)  S r ho ih hF
theorem wX11_four {z : Mx} {ad : Nat → Nat} {o : Option Value × St} (X : CxOk z ad RX11 cX11_four 3 none 1) (a0 : Nat) (x1 : Int32) (h0 : KT a0 = 11) (S : St) (r : St) (ho : o = (none, r)) (hF : fX11_four a0 x1 S = some r) : GW z ad o S 0 [(0, .ref (ad a0)), (1, .int x1)] [] := by
  unfold fX11_four at hF
  refine g_bipush (v := 24) X dX11_four_0 (by decide) ?_
  refine g_istore_n X dX11_four_2 rfl (by decide) (lv' := [(2, .int (24 : Int32)), (0, .ref (ad a0)), (1, .int x1)]) rfl ?_
  exact g_perm [1, 2, 0] rfl (wX11_four_h3 X a0 x1 h0 r ho NN (24 : Int32) S hF)
theorem tX11_four {ad : Nat → Nat} (hI : Inj ad) (l : Launch) (D : va_G) (cyy : Nat → ClassId) (a0 : Nat) (x1 : Int32) (h0 : KT a0 = 11) (S : St) (r : St) (hF : fX11_four a0 x1 S = some r) : OkM l yX11_four cX11_four 3 none 1 ad D cyy [.ref (ad a0), .int x1] S (none, r) := okM_of hI (by decide) (inr_9 _ (List.mem_of_getElem? (i := 8) rfl)) (by show _ ≤ 3; exact Nat.le_of_ble_eq_true rfl) (fun z X => wX11_four X a0 x1 h0 S r rfl hF)
def fX11_feed_s5 (a0 : Nat) (x1 : Int32) (x2 : Int32) (x3 : Int32) (x4 : Int32) (x5 : Int32)   (S : St) : Option (Int32 × St) :=
  if ((gI S 11 2 a0) + (20 : Int32)) ≤ (940 : Int32) then ((fX11_four a0 x1 S).bind fun r_2 =>
  (fX11_four a0 x2 r_2).bind fun r_4 =>
  (fX11_four a0 x3 r_4).bind fun r_6 =>
  (fX11_four a0 x4 r_6).bind fun r_8 =>
  (fX11_four a0 x5 r_8).bind fun r_10 =>
  some ((gI r_10 11 2 a0), r_10)) else
  (some ((-1 : Int32), S))
def fX11_feed (a0 : Nat) (x1 : Int32) (x2 : Int32) (x3 : Int32) (x4 : Int32) (x5 : Int32) (S : St) : Option (Int32 × St) :=
  fX11_feed_s5 a0 x1 x2 x3 x4 x5 (sI S 11 0 a0 (0 : Int32))
theorem wX11_feed_s5 {z : Mx} {ad : Nat → Nat} {o : Option Value × St} (X : CxOk z ad RX11 cX11_feed 6 (some .int) 2) (a0 : Nat) (x1 : Int32) (x2 : Int32) (x3 : Int32) (x4 : Int32) (x5 : Int32) (h0 : KT a0 = 11)     (S : St) (r : (Int32 × St)) (ho : o = (some (.int r.1), r.2)) (hF : fX11_feed_s5 a0 x1 x2 x3 x4 x5   S = some r) : GW z ad o S 5 [(0, .ref (ad a0)), (1, .int x1), (2, .int x2), (3, .int x3), (4, .int x4), (5, .int x5)] [] := by
  unfold fX11_feed_s5 at hF
  refine g_aload_n X dX11_feed_5 0 rfl rfl ?_
  refine g_getI X dX11_feed_6 flX11_7 rfl h0 ?_
  refine g_bipush (v := 20) X dX11_feed_9 (by decide) ?_
  refine g_iadd X dX11_feed_11 ?_
  refine g_sipush (v := 940) X dX11_feed_12 (by decide) ?_
  refine g_icmp_le (tgt := 20) X dX11_feed_15 (by decide) (fun c_1 => ?_) (fun c_1 => ?_)
  · rw [if_pos c_1] at hF
    refine g_aload_n X dX11_feed_20 0 rfl rfl ?_
    refine g_iload_n X dX11_feed_21 1 rfl rfl ?_
    obtain ⟨r_2, q_3, hF⟩ := obind hF
    refine g_callVv (As := [.int x1]) X dX11_feed_22 mlX11_10 (fun l D cyy => tX11_four (cx_inj X) l D cyy a0 x1 h0 S r_2 q_3) h0 (by decide) rfl rfl (Nat.le_of_ble_eq_true rfl) ?_
    refine g_aload_n X dX11_feed_25 0 rfl rfl ?_
    refine g_iload_n X dX11_feed_26 2 rfl rfl ?_
    obtain ⟨r_4, q_5, hF⟩ := obind hF
    refine g_callVv (As := [.int x2]) X dX11_feed_27 mlX11_10 (fun l D cyy => tX11_four (cx_inj X) l D cyy a0 x2 h0 r_2 r_4 q_5) h0 (by decide) rfl rfl (Nat.le_of_ble_eq_true rfl) ?_
    refine g_aload_n X dX11_feed_30 0 rfl rfl ?_
    refine g_iload_n X dX11_feed_31 3 rfl rfl ?_
    obtain ⟨r_6, q_7, hF⟩ := obind hF
    refine g_callVv (As := [.int x3]) X dX11_feed_32 mlX11_10 (fun l D cyy => tX11_four (cx_inj X) l D cyy a0 x3 h0 r_4 r_6 q_7) h0 (by decide) rfl rfl (Nat.le_of_ble_eq_true rfl) ?_
    refine g_aload_n X dX11_feed_35 0 rfl rfl ?_
    refine g_iload X dX11_feed_36 4 rfl ?_
    obtain ⟨r_8, q_9, hF⟩ := obind hF
    refine g_callVv (As := [.int x4]) X dX11_feed_38 mlX11_10 (fun l D cyy => tX11_four (cx_inj X) l D cyy a0 x4 h0 r_6 r_8 q_9) h0 (by decide) rfl rfl (Nat.le_of_ble_eq_true rfl) ?_
    refine g_aload_n X dX11_feed_41 0 rfl rfl ?_
    refine g_iload X dX11_feed_42 5 rfl ?_
    obtain ⟨r_10, q_11, hF⟩ := obind hF
    refine g_callVv (As := [.int x5]) X dX11_feed_44 mlX11_10 (fun l D cyy => tX11_four (cx_inj X) l D cyy a0 x5 h0 r_8 r_10 q_11) h0 (by decide) rfl rfl (Nat.le_of_ble_eq_true rfl) ?_
    refine g_aload_n X dX11_feed_47 0 rfl rfl ?_
    refine g_getI X dX11_feed_48 flX11_7 rfl h0 ?_
    have hF := Option.some.inj hF
    subst hF
    exact g_iret X dX11_feed_51 ho
  · rw [if_neg c_1] at hF
    refine g_iconst (v := -1) X dX11_feed_18 (by decide) ?_
    have hF := Option.some.inj hF
    subst hF
    exact g_iret X dX11_feed_19 ho
theorem wX11_feed {z : Mx} {ad : Nat → Nat} {o : Option Value × St} (X : CxOk z ad RX11 cX11_feed 6 (some .int) 2) (a0 : Nat) (x1 : Int32) (x2 : Int32) (x3 : Int32) (x4 : Int32) (x5 : Int32) (h0 : KT a0 = 11) (S : St) (r : (Int32 × St)) (ho : o = (some (.int r.1), r.2)) (hF : fX11_feed a0 x1 x2 x3 x4 x5 S = some r) : GW z ad o S 0 [(0, .ref (ad a0)), (1, .int x1), (2, .int x2), (3, .int x3), (4, .int x4), (5, .int x5)] [] := by
  unfold fX11_feed at hF
  refine g_aload_n X dX11_feed_0 0 rfl rfl ?_
  refine g_iconst (v := 0) X dX11_feed_1 (by decide) ?_
  refine g_putI X dX11_feed_2 fpX11_1 rfl rfl rfl h0 ?_
  exact (wX11_feed_s5 X a0 x1 x2 x3 x4 x5 h0 (sI S 11 0 a0 (0 : Int32)) r ho hF)
theorem tX11_feed {ad : Nat → Nat} (hI : Inj ad) (l : Launch) (D : va_G) (cyy : Nat → ClassId) (a0 : Nat) (x1 : Int32) (x2 : Int32) (x3 : Int32) (x4 : Int32) (x5 : Int32) (h0 : KT a0 = 11) (S : St) (r : (Int32 × St)) (hF : fX11_feed a0 x1 x2 x3 x4 x5 S = some r) : OkM l yX11_feed cX11_feed 6 (some .int) 2 ad D cyy [.ref (ad a0), .int x1, .int x2, .int x3, .int x4, .int x5] S (some (.int r.1), r.2) := okM_of hI (by decide) (inr_9 _ (List.mem_of_getElem? (i := 2) rfl)) (by show _ ≤ 6; exact Nat.le_of_ble_eq_true rfl) (fun z X => wX11_feed X a0 x1 x2 x3 x4 x5 h0 S r rfl hF)
def fX11_end_s24 (a0 : Nat) (x1 : Int32)   (S : St) : (Int32 × St) :=
  ((1 : Int32), S)
def fX11_end_s5 (a0 : Nat) (x1 : Int32)   (S : St) : (Int32 × St) :=
  if x1 < 0 then (((0 : Int32), S)) else
  (if x1 ≤ (gI S 11 2 a0) then (fX11_end_s24 a0 x1 (sI S 11 2 a0 x1)) else
  (((0 : Int32), S)))
def fX11_end (a0 : Nat) (x1 : Int32) (S : St) : (Int32 × St) :=
  fX11_end_s5 a0 x1 (sI S 11 0 a0 (0 : Int32))
theorem wX11_end_s24 {z : Mx} {ad : Nat → Nat} {o : Option Value × St} (X : CxOk z ad RX11 cX11_end 2 (some .boolean) 1) (a0 : Nat) (x1 : Int32) (h0 : KT a0 = 11)     (S : St) (r : (Int32 × St)) (ho : o = (some (.int r.1), r.2)) (hF : fX11_end_s24 a0 x1   S = r) : GW z ad o S 24 [] [] := by
  unfold fX11_end_s24 at hF
  refine g_iconst (v := 1) X dX11_end_24 (by decide) ?_
  subst hF
  exact g_zret X dX11_end_25 (by decide) ho
theorem wX11_end_s5 {z : Mx} {ad : Nat → Nat} {o : Option Value × St} (X : CxOk z ad RX11 cX11_end 2 (some .boolean) 1) (a0 : Nat) (x1 : Int32) (h0 : KT a0 = 11)     (S : St) (r : (Int32 × St)) (ho : o = (some (.int r.1), r.2)) (hF : fX11_end_s5 a0 x1   S = r) : GW z ad o S 5 [(0, .ref (ad a0)), (1, .int x1)] [] := by
  unfold fX11_end_s5 at hF
  refine g_iload_n X dX11_end_5 1 rfl rfl ?_
  refine g_if_lt (tgt := 17) X dX11_end_6 (by decide) (fun c_1 => ?_) (fun c_1 => ?_)
  · rw [if_pos c_1] at hF
    refine g_iconst (v := 0) X dX11_end_17 (by decide) ?_
    subst hF
    exact g_zret X dX11_end_18 (by decide) ho
  · rw [if_neg c_1] at hF
    refine g_iload_n X dX11_end_9 1 rfl rfl ?_
    refine g_aload_n X dX11_end_10 0 rfl rfl ?_
    refine g_getI X dX11_end_11 flX11_7 rfl h0 ?_
    refine g_icmp_le (tgt := 19) X dX11_end_14 (by decide) (fun c_2 => ?_) (fun c_2 => ?_)
    · rw [if_pos c_2] at hF
      refine g_aload_n X dX11_end_19 0 rfl rfl ?_
      refine g_iload_n X dX11_end_20 1 rfl rfl ?_
      refine g_putI X dX11_end_21 fpX11_7 rfl rfl rfl h0 ?_
      exact g_perm [] rfl (wX11_end_s24 X a0 x1 h0 (sI S 11 2 a0 x1) r ho hF)
    · rw [if_neg c_2] at hF
      refine g_iconst (v := 0) X dX11_end_17 (by decide) ?_
      subst hF
      exact g_zret X dX11_end_18 (by decide) ho
theorem wX11_end {z : Mx} {ad : Nat → Nat} {o : Option Value × St} (X : CxOk z ad RX11 cX11_end 2 (some .boolean) 1) (a0 : Nat) (x1 : Int32) (h0 : KT a0 = 11) (S : St) (r : (Int32 × St)) (ho : o = (some (.int r.1), r.2)) (hF : fX11_end a0 x1 S = r) : GW z ad o S 0 [(0, .ref (ad a0)), (1, .int x1)] [] := by
  unfold fX11_end at hF
  refine g_aload_n X dX11_end_0 0 rfl rfl ?_
  refine g_iconst (v := 0) X dX11_end_1 (by decide) ?_
  refine g_putI X dX11_end_2 fpX11_1 rfl rfl rfl h0 ?_
  exact (wX11_end_s5 X a0 x1 h0 (sI S 11 0 a0 (0 : Int32)) r ho hF)
theorem tX11_end {ad : Nat → Nat} (hI : Inj ad) (l : Launch) (D : va_G) (cyy : Nat → ClassId) (a0 : Nat) (x1 : Int32) (h0 : KT a0 = 11) (S : St) : OkM l yX11_end cX11_end 2 (some .boolean) 1 ad D cyy [.ref (ad a0), .int x1] S (some (.int (fX11_end a0 x1 S).1), (fX11_end a0 x1 S).2) := okM_of hI (by decide) (inr_9 _ (List.mem_of_getElem? (i := 16) rfl)) (by show _ ≤ 2; exact Nat.le_of_ble_eq_true rfl) (fun z X => wX11_end X a0 x1 h0 S _ rfl rfl)
def fX11_taken_s18 (a0 : Nat) (x1 : Int32)   (S : St) : St :=
  (sI S 11 5 a0 x1)
def fX11_taken_s13 (a0 : Nat) (x1 : Int32)   (S : St) : St :=
  fX11_taken_s18 a0 x1 (sI S 11 4 a0 (0 : Int32))
def fX11_taken_s8 (a0 : Nat) (x1 : Int32)   (S : St) : St :=
  fX11_taken_s13 a0 x1 (sI S 11 2 a0 (0 : Int32))
def fX11_taken (a0 : Nat) (x1 : Int32) (S : St) : St :=
  fX11_taken_s8 a0 x1 (sI S 11 3 a0 (gI S 11 2 a0))
theorem wX11_taken_s18 {z : Mx} {ad : Nat → Nat} {o : Option Value × St} (X : CxOk z ad RX11 cX11_taken 2 none 1) (a0 : Nat) (x1 : Int32) (h0 : KT a0 = 11)     (S : St) (r : St) (ho : o = (none, r)) (hF : fX11_taken_s18 a0 x1   S = r) : GW z ad o S 18 [(0, .ref (ad a0)), (1, .int x1)] [] := by
  unfold fX11_taken_s18 at hF
  refine g_aload_n X dX11_taken_18 0 rfl rfl ?_
  refine g_iload_n X dX11_taken_19 1 rfl rfl ?_
  refine g_putI X dX11_taken_20 fpX11_24 rfl rfl rfl h0 ?_
  subst hF
  exact g_vret X dX11_taken_23 ho
theorem wX11_taken_s13 {z : Mx} {ad : Nat → Nat} {o : Option Value × St} (X : CxOk z ad RX11 cX11_taken 2 none 1) (a0 : Nat) (x1 : Int32) (h0 : KT a0 = 11)     (S : St) (r : St) (ho : o = (none, r)) (hF : fX11_taken_s13 a0 x1   S = r) : GW z ad o S 13 [(0, .ref (ad a0)), (1, .int x1)] [] := by
  unfold fX11_taken_s13 at hF
  refine g_aload_n X dX11_taken_13 0 rfl rfl ?_
  refine g_iconst (v := 0) X dX11_taken_14 (by decide) ?_
  refine g_putI X dX11_taken_15 fpX11_21 rfl rfl rfl h0 ?_
  exact (wX11_taken_s18 X a0 x1 h0 (sI S 11 4 a0 (0 : Int32)) r ho hF)
theorem wX11_taken_s8 {z : Mx} {ad : Nat → Nat} {o : Option Value × St} (X : CxOk z ad RX11 cX11_taken 2 none 1) (a0 : Nat) (x1 : Int32) (h0 : KT a0 = 11)     (S : St) (r : St) (ho : o = (none, r)) (hF : fX11_taken_s8 a0 x1   S = r) : GW z ad o S 8 [(0, .ref (ad a0)), (1, .int x1)] [] := by
  unfold fX11_taken_s8 at hF
  refine g_aload_n X dX11_taken_8 0 rfl rfl ?_
  refine g_iconst (v := 0) X dX11_taken_9 (by decide) ?_
  refine g_putI X dX11_taken_10 fpX11_7 rfl rfl rfl h0 ?_
  exact (wX11_taken_s13 X a0 x1 h0 (sI S 11 2 a0 (0 : Int32)) r ho hF)
theorem wX11_taken {z : Mx} {ad : Nat → Nat} {o : Option Value × St} (X : CxOk z ad RX11 cX11_taken 2 none 1) (a0 : Nat) (x1 : Int32) (h0 : KT a0 = 11) (S : St) (r : St) (ho : o = (none, r)) (hF : fX11_taken a0 x1 S = r) : GW z ad o S 0 [(0, .ref (ad a0)), (1, .int x1)] [] := by
  unfold fX11_taken at hF
  refine g_aload_n X dX11_taken_0 0 rfl rfl ?_
  refine g_aload_n X dX11_taken_1 0 rfl rfl ?_
  refine g_getI X dX11_taken_2 flX11_7 rfl h0 ?_
  refine g_putI X dX11_taken_5 fpX11_18 rfl rfl rfl h0 ?_
  exact (wX11_taken_s8 X a0 x1 h0 (sI S 11 3 a0 (gI S 11 2 a0)) r ho hF)
theorem tX11_taken {ad : Nat → Nat} (hI : Inj ad) (l : Launch) (D : va_G) (cyy : Nat → ClassId) (a0 : Nat) (x1 : Int32) (h0 : KT a0 = 11) (S : St) : OkM l yX11_taken cX11_taken 2 none 1 ad D cyy [.ref (ad a0), .int x1] S (none, fX11_taken a0 x1 S) := okM_of hI (by decide) (inr_17 _ (List.mem_of_getElem? (i := 8) rfl)) (by show _ ≤ 2; exact Nat.le_of_ble_eq_true rfl) (fun z X => wX11_taken X a0 x1 h0 S _ rfl rfl)
def fX11_isIn (x0 : Int32) (x1 : Int32) (x2 : Int32) (S : St) : Int32 :=
  if x0 < x1 then ((0 : Int32)) else
  (if x2 < x0 then ((0 : Int32)) else
  ((1 : Int32)))
theorem wX11_isIn {z : Mx} {ad : Nat → Nat} {o : Option Value × St} (X : CxOk z ad RX11 cX11_isIn 3 (some .boolean) 1) (x0 : Int32) (x1 : Int32) (x2 : Int32)  (S : St) (r : Int32) (ho : o = (some (.int r), S)) (hF : fX11_isIn x0 x1 x2 S = r) : GW z ad o S 0 [(0, .int x0), (1, .int x1), (2, .int x2)] [] := by
  unfold fX11_isIn at hF
  refine g_iload_n X dX11_isIn_0 0 rfl rfl ?_
  refine g_iload_n X dX11_isIn_1 1 rfl rfl ?_
  refine g_icmp_lt (tgt := 14) X dX11_isIn_2 (by decide) (fun c_1 => ?_) (fun c_1 => ?_)
  · rw [if_pos c_1] at hF
    refine g_iconst (v := 0) X dX11_isIn_14 (by decide) ?_
    subst hF
    exact g_zret X dX11_isIn_15 (by decide) ho
  · rw [if_neg c_1] at hF
    refine g_iload_n X dX11_isIn_5 0 rfl rfl ?_
    refine g_iload_n X dX11_isIn_6 2 rfl rfl ?_
    refine g_icmp_gt (tgt := 14) X dX11_isIn_7 (by decide) (fun c_2 => ?_) (fun c_2 => ?_)
    · rw [if_pos c_2] at hF
      refine g_iconst (v := 0) X dX11_isIn_14 (by decide) ?_
      subst hF
      exact g_zret X dX11_isIn_15 (by decide) ho
    · rw [if_neg c_2] at hF
      refine g_iconst (v := 1) X dX11_isIn_10 (by decide) ?_
      refine g_goto (tgt := 15) X dX11_isIn_11 (by decide) ?_
      subst hF
      exact g_zret X dX11_isIn_15 (by decide) ho
theorem tX11_isIn {ad : Nat → Nat} (hI : Inj ad) (l : Launch) (D : va_G) (cyy : Nat → ClassId) (x0 : Int32) (x1 : Int32) (x2 : Int32)  (S : St) : OkM l yX11_isIn cX11_isIn 3 (some .boolean) 1 ad D cyy [.int x0, .int x1, .int x2] S (some (.int (fX11_isIn x0 x1 x2 S)), S) := okM_of hI (by decide) (inr_19 _ (List.mem_of_getElem? (i := 21) rfl)) (by show _ ≤ 3; exact Nat.le_of_ble_eq_true rfl) (fun z X => wX11_isIn X x0 x1 x2  S _ rfl rfl)
def fX11_bitOf (x0 : Int32) (x1 : Int32) (S : St) : Int32 :=
  if ((x0 >>> (x1 &&& 31)) &&& (1 : Int32)) = (1 : Int32) then ((1 : Int32)) else
  ((0 : Int32))
theorem wX11_bitOf {z : Mx} {ad : Nat → Nat} {o : Option Value × St} (X : CxOk z ad RX11 cX11_bitOf 2 (some .boolean) 1) (x0 : Int32) (x1 : Int32)  (S : St) (r : Int32) (ho : o = (some (.int r), S)) (hF : fX11_bitOf x0 x1 S = r) : GW z ad o S 0 [(0, .int x0), (1, .int x1)] [] := by
  unfold fX11_bitOf at hF
  refine g_iload_n X dX11_bitOf_0 0 rfl rfl ?_
  refine g_iload_n X dX11_bitOf_1 1 rfl rfl ?_
  refine g_ishr X dX11_bitOf_2 ?_
  refine g_iconst (v := 1) X dX11_bitOf_3 (by decide) ?_
  refine g_iand X dX11_bitOf_4 ?_
  refine g_iconst (v := 1) X dX11_bitOf_5 (by decide) ?_
  refine g_icmp_ne (tgt := 13) X dX11_bitOf_6 (by decide) (fun c_1 => ?_) (fun c_1 => ?_)
  · rw [if_neg c_1] at hF
    refine g_iconst (v := 0) X dX11_bitOf_13 (by decide) ?_
    subst hF
    exact g_zret X dX11_bitOf_14 (by decide) ho
  · rw [if_pos c_1] at hF
    refine g_iconst (v := 1) X dX11_bitOf_9 (by decide) ?_
    refine g_goto (tgt := 14) X dX11_bitOf_10 (by decide) ?_
    subst hF
    exact g_zret X dX11_bitOf_14 (by decide) ho
theorem tX11_bitOf {ad : Nat → Nat} (hI : Inj ad) (l : Launch) (D : va_G) (cyy : Nat → ClassId) (x0 : Int32) (x1 : Int32)  (S : St) : OkM l yX11_bitOf cX11_bitOf 2 (some .boolean) 1 ad D cyy [.int x0, .int x1] S (some (.int (fX11_bitOf x0 x1 S)), S) := okM_of hI (by decide) (inr_28 _ (List.mem_of_getElem? (i := 4) rfl)) (by show _ ≤ 2; exact Nat.le_of_ble_eq_true rfl) (fun z X => wX11_bitOf X x0 x1  S _ rfl rfl)
def fX11_greater (x0 : Int32) (x1 : Int32) (S : St) : Int32 :=
  if x0 ≤ x1 then (x1) else
  (x0)
theorem wX11_greater {z : Mx} {ad : Nat → Nat} {o : Option Value × St} (X : CxOk z ad RX11 cX11_greater 2 (some .int) 1) (x0 : Int32) (x1 : Int32)  (S : St) (r : Int32) (ho : o = (some (.int r), S)) (hF : fX11_greater x0 x1 S = r) : GW z ad o S 0 [(0, .int x0), (1, .int x1)] [] := by
  unfold fX11_greater at hF
  refine g_iload_n X dX11_greater_0 0 rfl rfl ?_
  refine g_iload_n X dX11_greater_1 1 rfl rfl ?_
  refine g_icmp_le (tgt := 9) X dX11_greater_2 (by decide) (fun c_1 => ?_) (fun c_1 => ?_)
  · rw [if_pos c_1] at hF
    refine g_iload_n X dX11_greater_9 1 rfl rfl ?_
    subst hF
    exact g_iret X dX11_greater_10 ho
  · rw [if_neg c_1] at hF
    refine g_iload_n X dX11_greater_5 0 rfl rfl ?_
    refine g_goto (tgt := 10) X dX11_greater_6 (by decide) ?_
    subst hF
    exact g_iret X dX11_greater_10 ho
theorem tX11_greater {ad : Nat → Nat} (hI : Inj ad) (l : Launch) (D : va_G) (cyy : Nat → ClassId) (x0 : Int32) (x1 : Int32)  (S : St) : OkM l yX11_greater cX11_greater 2 (some .int) 1 ad D cyy [.int x0, .int x1] S (some (.int (fX11_greater x0 x1 S)), S) := okM_of hI (by decide) (inr_47 _ (List.mem_of_getElem? (i := 17) rfl)) (by show _ ≤ 2; exact Nat.le_of_ble_eq_true rfl) (fun z X => wX11_greater X x0 x1  S _ rfl rfl)
def fX11_absolute (x0 : Int32) (S : St) : Int32 :=
  if 0 ≤ x0 then (x0) else
  ((-x0))
theorem wX11_absolute {z : Mx} {ad : Nat → Nat} {o : Option Value × St} (X : CxOk z ad RX11 cX11_absolute 1 (some .int) 1) (x0 : Int32)  (S : St) (r : Int32) (ho : o = (some (.int r), S)) (hF : fX11_absolute x0 S = r) : GW z ad o S 0 [(0, .int x0)] [] := by
  unfold fX11_absolute at hF
  refine g_iload_n X dX11_absolute_0 0 rfl rfl ?_
  refine g_if_ge (tgt := 9) X dX11_absolute_1 (by decide) (fun c_1 => ?_) (fun c_1 => ?_)
  · rw [if_pos c_1] at hF
    refine g_iload_n X dX11_absolute_9 0 rfl rfl ?_
    subst hF
    exact g_iret X dX11_absolute_10 ho
  · rw [if_neg c_1] at hF
    refine g_iload_n X dX11_absolute_4 0 rfl rfl ?_
    refine g_ineg X dX11_absolute_5 ?_
    refine g_goto (tgt := 10) X dX11_absolute_6 (by decide) ?_
    subst hF
    exact g_iret X dX11_absolute_10 ho
theorem tX11_absolute {ad : Nat → Nat} (hI : Inj ad) (l : Launch) (D : va_G) (cyy : Nat → ClassId) (x0 : Int32)  (S : St) : OkM l yX11_absolute cX11_absolute 1 (some .int) 1 ad D cyy [.int x0] S (some (.int (fX11_absolute x0 S)), S) := okM_of hI (by decide) (inr_38 _ (List.mem_of_getElem? (i := 6) rfl)) (by show _ ≤ 1; exact Nat.le_of_ble_eq_true rfl) (fun z X => wX11_absolute X x0  S _ rfl rfl)
def fX11_octet (a0 : Nat) (x1 : Int32) (S : St) : Option Int32 :=
  if (x1 < 0 ∨ 940 ≤ x1.toNatClampNeg) then none else
  some ((gA S 28 (a0 + 1) x1.toNatClampNeg) &&& (255 : Int32))
theorem wX11_octet {z : Mx} {ad : Nat → Nat} {o : Option Value × St} (X : CxOk z ad RX11 cX11_octet 2 (some .int) 1) (a0 : Nat) (x1 : Int32) (h0 : KT a0 = 11) (S : St) (r : Int32) (ho : o = (some (.int r), S)) (hF : fX11_octet a0 x1 S = some r) : GW z ad o S 0 [(0, .ref (ad a0)), (1, .int x1)] [] := by
  unfold fX11_octet at hF
  refine g_aload_n X dX11_octet_0 0 rfl rfl ?_
  refine g_getR (f := 1) X dX11_octet_1 flX11_14 rfl rfl h0 ?_
  refine g_iload_n X dX11_octet_4 1 rfl rfl ?_
  obtain ⟨e_1, hF⟩ := oguard hF
  refine g_bald X dX11_octet_5 kd_28 (on_11_1 h0) e_1 ?_
  refine g_sipush (v := 255) X dX11_octet_6 (by decide) ?_
  refine g_iand X dX11_octet_9 ?_
  have hF := Option.some.inj hF
  subst hF
  exact g_iret X dX11_octet_10 ho
theorem tX11_octet {ad : Nat → Nat} (hI : Inj ad) (l : Launch) (D : va_G) (cyy : Nat → ClassId) (a0 : Nat) (x1 : Int32) (h0 : KT a0 = 11) (S : St) (r : Int32) (hF : fX11_octet a0 x1 S = some r) : OkM l yX11_octet cX11_octet 2 (some .int) 1 ad D cyy [.ref (ad a0), .int x1] S (some (.int r), S) := okM_of hI (by decide) (inr_45 _ (List.mem_of_getElem? (i := 13) rfl)) (by show _ ≤ 2; exact Nat.le_of_ble_eq_true rfl) (fun z X => wX11_octet X a0 x1 h0 S r rfl hF)
def fX11_clears_s54 (k39 : Int32 → St → Option St) (a0 : Nat) (y1 : Int32)  (S : St) : Option St :=
  k39 (y1 + (1 : Int32)) S
def fX11_clears_s39 (k39 : Int32 → St → Option St) (a0 : Nat) (y1 : Int32)  (S : St) : Option St :=
  if (5 : Int32) ≤ y1 then (some S) else
  (if (((29 : Int32) + y1) < 0 ∨ 52 ≤ ((29 : Int32) + y1).toNatClampNeg) then none else
  fX11_clears_s54 k39 a0 y1 (sA S 30 (a0 + 3) (((29 : Int32) + y1).toNatClampNeg) (1 : Int32)))
def fX11_clears_h39 (a0 : Nat) : Nat → Int32 → St → Option St
  | 0, _, _ => none
  | n + 1, y1, S => fX11_clears_s39 (fX11_clears_h39 a0 n) a0 y1 S
def fX11_clears_s37 (a0 : Nat)   (S : St) : Option St :=
  fX11_clears_h39 a0 NN (0 : Int32) S
def fX11_clears_s30 (a0 : Nat)   (S : St) : Option St :=
  fX11_clears_s37 a0 (sA S 30 (a0 + 3) 3 (1 : Int32))
def fX11_clears_s15 (k2 : Int32 → St → Option St) (a0 : Nat) (y1 : Int32)  (S : St) : Option St :=
  k2 (y1 + (1 : Int32)) S
def fX11_clears_s2 (k2 : Int32 → St → Option St) (a0 : Nat) (y1 : Int32)  (S : St) : Option St :=
  if (52 : Int32) ≤ y1 then (fX11_clears_s30 a0 (sA S 30 (a0 + 3) 2 (365 : Int32))) else
  (if (y1 < 0 ∨ 52 ≤ y1.toNatClampNeg) then none else
  fX11_clears_s15 k2 a0 y1 (sA S 30 (a0 + 3) y1.toNatClampNeg (0 : Int32)))
def fX11_clears_h2 (a0 : Nat) : Nat → Int32 → St → Option St
  | 0, _, _ => none
  | n + 1, y1, S => fX11_clears_s2 (fX11_clears_h2 a0 n) a0 y1 S
def fX11_clears (a0 : Nat) (S : St) : Option St :=
  fX11_clears_h2 a0 NN (0 : Int32) S
theorem wX11_clears_s54 {z : Mx} {ad : Nat → Nat} {o : Option Value × St} (X : CxOk z ad RX11 cX11_clears 2 none 1) (a0 : Nat) (h0 : KT a0 = 11) (y1 : Int32)  (k39 : Int32 → St → Option St)   (S : St) (r : St) (ho : o = (none, r)) (hk39 : ∀ (y1 : Int32) (S : St), k39 y1 S = some r → GW z ad o S 39 [(0, .ref (ad a0)), (1, .int y1)] []) (hF : fX11_clears_s54 k39 a0 y1  S = some r) : GW z ad o S 54 [(0, .ref (ad a0)), (1, .int y1)] [] := by
  unfold fX11_clears_s54 at hF
  refine g_iinc (v := (y1 + (1 : Int32))) X dX11_clears_54 1 rfl rfl (by decide) (lv' := [(1, .int (y1 + (1 : Int32))), (0, .ref (ad a0))]) rfl ?_
  refine g_goto (tgt := 39) X dX11_clears_57 (by decide) ?_
  exact g_perm [1, 0] rfl (hk39 (y1 + (1 : Int32)) S hF)
theorem wX11_clears_s39 {z : Mx} {ad : Nat → Nat} {o : Option Value × St} (X : CxOk z ad RX11 cX11_clears 2 none 1) (a0 : Nat) (h0 : KT a0 = 11) (y1 : Int32)  (k39 : Int32 → St → Option St)   (S : St) (r : St) (ho : o = (none, r)) (hk39 : ∀ (y1 : Int32) (S : St), k39 y1 S = some r → GW z ad o S 39 [(0, .ref (ad a0)), (1, .int y1)] []) (hF : fX11_clears_s39 k39 a0 y1  S = some r) : GW z ad o S 39 [(0, .ref (ad a0)), (1, .int y1)] [] := by
  unfold fX11_clears_s39 at hF
  refine g_iload_n X dX11_clears_39 1 rfl rfl ?_
  refine g_iconst (v := 5) X dX11_clears_40 (by decide) ?_
  refine g_icmp_ge (tgt := 60) X dX11_clears_41 (by decide) (fun c_2 => ?_) (fun c_2 => ?_)
  · rw [if_pos c_2] at hF
    have hF := Option.some.inj hF
    subst hF
    exact g_vret X dX11_clears_60 ho
  · rw [if_neg c_2] at hF
    refine g_aload_n X dX11_clears_44 0 rfl rfl ?_
    refine g_getR (f := 3) X dX11_clears_45 flX11_37 rfl rfl h0 ?_
    refine g_bipush (v := 29) X dX11_clears_48 (by decide) ?_
    refine g_iload_n X dX11_clears_50 1 rfl rfl ?_
    refine g_iadd X dX11_clears_51 ?_
    refine g_iconst (v := 1) X dX11_clears_52 (by decide) ?_
    obtain ⟨e_3, hF⟩ := oguard hF
    refine g_iast X dX11_clears_53 kd_30 (on_11_7 h0) e_3 ?_
    exact (wX11_clears_s54 X a0 h0 y1 k39 (sA S 30 (a0 + 3) (((29 : Int32) + y1).toNatClampNeg) (1 : Int32)) r ho hk39 hF)
theorem wX11_clears_h39 {z : Mx} {ad : Nat → Nat} {o : Option Value × St} (X : CxOk z ad RX11 cX11_clears 2 none 1) (a0 : Nat) (h0 : KT a0 = 11)  (r : St) (ho : o = (none, r)) : ∀ (n : Nat) (y1 : Int32) (S : St), fX11_clears_h39 a0 n y1 S = some r → GW z ad o S 39 [(0, .ref (ad a0)), (1, .int y1)] [] := by
  intro n
  induction n with
  | zero => intro y1 S  hF; cases hF
  | succ n ih => intro y1 S  hF; exact wX11_clears_s39 X a0 h0 y1 (fX11_clears_h39 a0 n)  S r ho ih hF
theorem wX11_clears_s37 {z : Mx} {ad : Nat → Nat} {o : Option Value × St} (X : CxOk z ad RX11 cX11_clears 2 none 1) (a0 : Nat) (h0 : KT a0 = 11)     (S : St) (r : St) (ho : o = (none, r)) (hF : fX11_clears_s37 a0   S = some r) : GW z ad o S 37 [(0, .ref (ad a0))] [] := by
  unfold fX11_clears_s37 at hF
  refine g_iconst (v := 0) X dX11_clears_37 (by decide) ?_
  refine g_istore_n X dX11_clears_38 rfl (by decide) (lv' := [(1, .int (0 : Int32)), (0, .ref (ad a0))]) rfl ?_
  exact g_perm [1, 0] rfl (wX11_clears_h39 X a0 h0 r ho NN (0 : Int32) S hF)
theorem wX11_clears_s30 {z : Mx} {ad : Nat → Nat} {o : Option Value × St} (X : CxOk z ad RX11 cX11_clears 2 none 1) (a0 : Nat) (h0 : KT a0 = 11)     (S : St) (r : St) (ho : o = (none, r)) (hF : fX11_clears_s30 a0   S = some r) : GW z ad o S 30 [(0, .ref (ad a0))] [] := by
  unfold fX11_clears_s30 at hF
  refine g_aload_n X dX11_clears_30 0 rfl rfl ?_
  refine g_getR (f := 3) X dX11_clears_31 flX11_37 rfl rfl h0 ?_
  refine g_iconst (v := 3) X dX11_clears_34 (by decide) ?_
  refine g_iconst (v := 1) X dX11_clears_35 (by decide) ?_
  refine g_iastK (j := 3) X dX11_clears_36 kd_30 (on_11_7 h0) (by decide) (by decide) ?_
  exact (wX11_clears_s37 X a0 h0 (sA S 30 (a0 + 3) 3 (1 : Int32)) r ho hF)
theorem wX11_clears_s15 {z : Mx} {ad : Nat → Nat} {o : Option Value × St} (X : CxOk z ad RX11 cX11_clears 2 none 1) (a0 : Nat) (h0 : KT a0 = 11) (y1 : Int32)  (k2 : Int32 → St → Option St)   (S : St) (r : St) (ho : o = (none, r)) (hk2 : ∀ (y1 : Int32) (S : St), k2 y1 S = some r → GW z ad o S 2 [(0, .ref (ad a0)), (1, .int y1)] []) (hF : fX11_clears_s15 k2 a0 y1  S = some r) : GW z ad o S 15 [(0, .ref (ad a0)), (1, .int y1)] [] := by
  unfold fX11_clears_s15 at hF
  refine g_iinc (v := (y1 + (1 : Int32))) X dX11_clears_15 1 rfl rfl (by decide) (lv' := [(1, .int (y1 + (1 : Int32))), (0, .ref (ad a0))]) rfl ?_
  refine g_goto (tgt := 2) X dX11_clears_18 (by decide) ?_
  exact g_perm [1, 0] rfl (hk2 (y1 + (1 : Int32)) S hF)
theorem wX11_clears_s2 {z : Mx} {ad : Nat → Nat} {o : Option Value × St} (X : CxOk z ad RX11 cX11_clears 2 none 1) (a0 : Nat) (h0 : KT a0 = 11) (y1 : Int32)  (k2 : Int32 → St → Option St)   (S : St) (r : St) (ho : o = (none, r)) (hk2 : ∀ (y1 : Int32) (S : St), k2 y1 S = some r → GW z ad o S 2 [(0, .ref (ad a0)), (1, .int y1)] []) (hF : fX11_clears_s2 k2 a0 y1  S = some r) : GW z ad o S 2 [(0, .ref (ad a0)), (1, .int y1)] [] := by
  unfold fX11_clears_s2 at hF
  refine g_iload_n X dX11_clears_2 1 rfl rfl ?_
  refine g_bipush (v := 52) X dX11_clears_3 (by decide) ?_
  refine g_icmp_ge (tgt := 21) X dX11_clears_5 (by decide) (fun c_1 => ?_) (fun c_1 => ?_)
  · rw [if_pos c_1] at hF
    refine g_aload_n X dX11_clears_21 0 rfl rfl ?_
    refine g_getR (f := 3) X dX11_clears_22 flX11_37 rfl rfl h0 ?_
    refine g_iconst (v := 2) X dX11_clears_25 (by decide) ?_
    refine g_sipush (v := 365) X dX11_clears_26 (by decide) ?_
    refine g_iastK (j := 2) X dX11_clears_29 kd_30 (on_11_7 h0) (by decide) (by decide) ?_
    exact g_perm [0] rfl (wX11_clears_s30 X a0 h0 (sA S 30 (a0 + 3) 2 (365 : Int32)) r ho hF)
  · rw [if_neg c_1] at hF
    refine g_aload_n X dX11_clears_8 0 rfl rfl ?_
    refine g_getR (f := 3) X dX11_clears_9 flX11_37 rfl rfl h0 ?_
    refine g_iload_n X dX11_clears_12 1 rfl rfl ?_
    refine g_iconst (v := 0) X dX11_clears_13 (by decide) ?_
    obtain ⟨e_4, hF⟩ := oguard hF
    refine g_iast X dX11_clears_14 kd_30 (on_11_7 h0) e_4 ?_
    exact (wX11_clears_s15 X a0 h0 y1 k2 (sA S 30 (a0 + 3) y1.toNatClampNeg (0 : Int32)) r ho hk2 hF)
theorem wX11_clears_h2 {z : Mx} {ad : Nat → Nat} {o : Option Value × St} (X : CxOk z ad RX11 cX11_clears 2 none 1) (a0 : Nat) (h0 : KT a0 = 11)  (r : St) (ho : o = (none, r)) : ∀ (n : Nat) (y1 : Int32) (S : St), fX11_clears_h2 a0 n y1 S = some r → GW z ad o S 2 [(0, .ref (ad a0)), (1, .int y1)] [] := by
  intro n
  induction n with
  | zero => intro y1 S  hF; cases hF
  | succ n ih => intro y1 S  hF; exact wX11_clears_s2 X a0 h0 y1 (fX11_clears_h2 a0 n)  S r ho ih hF
theorem wX11_clears {z : Mx} {ad : Nat → Nat} {o : Option Value × St} (X : CxOk z ad RX11 cX11_clears 2 none 1) (a0 : Nat) (h0 : KT a0 = 11) (S : St) (r : St) (ho : o = (none, r)) (hF : fX11_clears a0 S = some r) : GW z ad o S 0 [(0, .ref (ad a0))] [] := by
  unfold fX11_clears at hF
  refine g_iconst (v := 0) X dX11_clears_0 (by decide) ?_
  refine g_istore_n X dX11_clears_1 rfl (by decide) (lv' := [(1, .int (0 : Int32)), (0, .ref (ad a0))]) rfl ?_
  exact g_perm [1, 0] rfl (wX11_clears_h2 X a0 h0 r ho NN (0 : Int32) S hF)
theorem tX11_clears {ad : Nat → Nat} (hI : Inj ad) (l : Launch) (D : va_G) (cyy : Nat → ClassId) (a0 : Nat) (h0 : KT a0 = 11) (S : St) (r : St) (hF : fX11_clears a0 S = some r) : OkM l yX11_clears cX11_clears 2 none 1 ad D cyy [.ref (ad a0)] S (none, r) := okM_of hI (by decide) (inr_8 _ (List.mem_of_getElem? (i := 8) rfl)) (by show _ ≤ 2; exact Nat.le_of_ble_eq_true rfl) (fun z X => wX11_clears X a0 h0 S r rfl hF)
def fX11_peek (a0 : Nat) (S : St) : Option Int32 :=
  if (gI S 11 3 a0) ≤ (gI S 11 4 a0) then (some (-1 : Int32)) else
  (if ((gI S 11 4 a0) < 0 ∨ 940 ≤ (gI S 11 4 a0).toNatClampNeg) then none else
  some ((gA S 28 (a0 + 1) ((gI S 11 4 a0).toNatClampNeg)) &&& (255 : Int32)))
theorem wX11_peek {z : Mx} {ad : Nat → Nat} {o : Option Value × St} (X : CxOk z ad RX11 cX11_peek 1 (some .int) 1) (a0 : Nat) (h0 : KT a0 = 11) (S : St) (r : Int32) (ho : o = (some (.int r), S)) (hF : fX11_peek a0 S = some r) : GW z ad o S 0 [(0, .ref (ad a0))] [] := by
  unfold fX11_peek at hF
  refine g_aload_n X dX11_peek_0 0 rfl rfl ?_
  refine g_getI X dX11_peek_1 flX11_21 rfl h0 ?_
  refine g_aload_n X dX11_peek_4 0 rfl rfl ?_
  refine g_getI X dX11_peek_5 flX11_18 rfl h0 ?_
  refine g_icmp_ge (tgt := 27) X dX11_peek_8 (by decide) (fun c_1 => ?_) (fun c_1 => ?_)
  · rw [if_pos c_1] at hF
    refine g_iconst (v := -1) X dX11_peek_27 (by decide) ?_
    have hF := Option.some.inj hF
    subst hF
    exact g_iret X dX11_peek_28 ho
  · rw [if_neg c_1] at hF
    refine g_aload_n X dX11_peek_11 0 rfl rfl ?_
    refine g_getR (f := 1) X dX11_peek_12 flX11_14 rfl rfl h0 ?_
    refine g_aload_n X dX11_peek_15 0 rfl rfl ?_
    refine g_getI X dX11_peek_16 flX11_21 rfl h0 ?_
    obtain ⟨e_2, hF⟩ := oguard hF
    refine g_bald X dX11_peek_19 kd_28 (on_11_1 h0) e_2 ?_
    refine g_sipush (v := 255) X dX11_peek_20 (by decide) ?_
    refine g_iand X dX11_peek_23 ?_
    refine g_goto (tgt := 28) X dX11_peek_24 (by decide) ?_
    have hF := Option.some.inj hF
    subst hF
    exact g_iret X dX11_peek_28 ho
theorem tX11_peek {ad : Nat → Nat} (hI : Inj ad) (l : Launch) (D : va_G) (cyy : Nat → ClassId) (a0 : Nat) (h0 : KT a0 = 11) (S : St) (r : Int32) (hF : fX11_peek a0 S = some r) : OkM l yX11_peek cX11_peek 1 (some .int) 1 ad D cyy [.ref (ad a0)] S (some (.int r), S) := okM_of hI (by decide) (inr_17 _ (List.mem_of_getElem? (i := 23) rfl)) (by show _ ≤ 1; exact Nat.le_of_ble_eq_true rfl) (fun z X => wX11_peek X a0 h0 S r rfl hF)
def fX11_isSmall (x0 : Int32) (S : St) : Int32 :=
  if x0 < (97 : Int32) then ((0 : Int32)) else
  (if (122 : Int32) < x0 then ((0 : Int32)) else
  ((1 : Int32)))
theorem wX11_isSmall {z : Mx} {ad : Nat → Nat} {o : Option Value × St} (X : CxOk z ad RX11 cX11_isSmall 1 (some .boolean) 1) (x0 : Int32)  (S : St) (r : Int32) (ho : o = (some (.int r), S)) (hF : fX11_isSmall x0 S = r) : GW z ad o S 0 [(0, .int x0)] [] := by
  unfold fX11_isSmall at hF
  refine g_iload_n X dX11_isSmall_0 0 rfl rfl ?_
  refine g_bipush (v := 97) X dX11_isSmall_1 (by decide) ?_
  refine g_icmp_lt (tgt := 16) X dX11_isSmall_3 (by decide) (fun c_1 => ?_) (fun c_1 => ?_)
  · rw [if_pos c_1] at hF
    refine g_iconst (v := 0) X dX11_isSmall_16 (by decide) ?_
    subst hF
    exact g_zret X dX11_isSmall_17 (by decide) ho
  · rw [if_neg c_1] at hF
    refine g_iload_n X dX11_isSmall_6 0 rfl rfl ?_
    refine g_bipush (v := 122) X dX11_isSmall_7 (by decide) ?_
    refine g_icmp_gt (tgt := 16) X dX11_isSmall_9 (by decide) (fun c_2 => ?_) (fun c_2 => ?_)
    · rw [if_pos c_2] at hF
      refine g_iconst (v := 0) X dX11_isSmall_16 (by decide) ?_
      subst hF
      exact g_zret X dX11_isSmall_17 (by decide) ho
    · rw [if_neg c_2] at hF
      refine g_iconst (v := 1) X dX11_isSmall_12 (by decide) ?_
      refine g_goto (tgt := 17) X dX11_isSmall_13 (by decide) ?_
      subst hF
      exact g_zret X dX11_isSmall_17 (by decide) ho
theorem tX11_isSmall {ad : Nat → Nat} (hI : Inj ad) (l : Launch) (D : va_G) (cyy : Nat → ClassId) (x0 : Int32)  (S : St) : OkM l yX11_isSmall cX11_isSmall 1 (some .boolean) 1 ad D cyy [.int x0] S (some (.int (fX11_isSmall x0 S)), S) := okM_of hI (by decide) (inr_18 _ (List.mem_of_getElem? (i := 2) rfl)) (by show _ ≤ 1; exact Nat.le_of_ble_eq_true rfl) (fun z X => wX11_isSmall X x0  S _ rfl rfl)
def fX11_isDigit (x0 : Int32) (S : St) : Int32 :=
  if x0 < (48 : Int32) then ((0 : Int32)) else
  (if (57 : Int32) < x0 then ((0 : Int32)) else
  ((1 : Int32)))
theorem wX11_isDigit {z : Mx} {ad : Nat → Nat} {o : Option Value × St} (X : CxOk z ad RX11 cX11_isDigit 1 (some .boolean) 1) (x0 : Int32)  (S : St) (r : Int32) (ho : o = (some (.int r), S)) (hF : fX11_isDigit x0 S = r) : GW z ad o S 0 [(0, .int x0)] [] := by
  unfold fX11_isDigit at hF
  refine g_iload_n X dX11_isDigit_0 0 rfl rfl ?_
  refine g_bipush (v := 48) X dX11_isDigit_1 (by decide) ?_
  refine g_icmp_lt (tgt := 16) X dX11_isDigit_3 (by decide) (fun c_1 => ?_) (fun c_1 => ?_)
  · rw [if_pos c_1] at hF
    refine g_iconst (v := 0) X dX11_isDigit_16 (by decide) ?_
    subst hF
    exact g_zret X dX11_isDigit_17 (by decide) ho
  · rw [if_neg c_1] at hF
    refine g_iload_n X dX11_isDigit_6 0 rfl rfl ?_
    refine g_bipush (v := 57) X dX11_isDigit_7 (by decide) ?_
    refine g_icmp_gt (tgt := 16) X dX11_isDigit_9 (by decide) (fun c_2 => ?_) (fun c_2 => ?_)
    · rw [if_pos c_2] at hF
      refine g_iconst (v := 0) X dX11_isDigit_16 (by decide) ?_
      subst hF
      exact g_zret X dX11_isDigit_17 (by decide) ho
    · rw [if_neg c_2] at hF
      refine g_iconst (v := 1) X dX11_isDigit_12 (by decide) ?_
      refine g_goto (tgt := 17) X dX11_isDigit_13 (by decide) ?_
      subst hF
      exact g_zret X dX11_isDigit_17 (by decide) ho
theorem tX11_isDigit {ad : Nat → Nat} (hI : Inj ad) (l : Launch) (D : va_G) (cyy : Nat → ClassId) (x0 : Int32)  (S : St) : OkM l yX11_isDigit cX11_isDigit 1 (some .boolean) 1 ad D cyy [.int x0] S (some (.int (fX11_isDigit x0 S)), S) := okM_of hI (by decide) (inr_18 _ (List.mem_of_getElem? (i := 5) rfl)) (by show _ ≤ 1; exact Nat.le_of_ble_eq_true rfl) (fun z X => wX11_isDigit X x0  S _ rfl rfl)
def fX11_step_s28 (k0 : St → Option St) (a0 : Nat)   (S : St) : Option St :=
  k0  S
def fX11_step_s18 (k0 : St → Option St) (a0 : Nat)   (S : St) : Option St :=
  fX11_step_s28 k0 a0 (sI S 11 4 a0 ((gI S 11 4 a0) + (1 : Int32)))
def fX11_step_s295 (k181 : Int32 → Int32 → St → Option St) (a0 : Nat) (y2 : Int32) (y3 : Int32)  (S : St) : Option St :=
  k181 y2 y3 S
def fX11_step_s285 (k181 : Int32 → Int32 → St → Option St) (a0 : Nat) (y2 : Int32) (y3 : Int32)  (S : St) : Option St :=
  fX11_step_s295 k181 a0 y2 y3 (sI S 11 4 a0 ((gI S 11 4 a0) + (1 : Int32)))
def fX11_step_s275 (k181 : Int32 → Int32 → St → Option St) (a0 : Nat) (y2 : Int32) (y3 : Int32)  (S : St) : Option St :=
  fX11_step_s285 k181 a0 y2 y3 (sI S 11 13 a0 ((gI S 11 13 a0) + (1 : Int32)))
def fX11_step_s248 (k181 : Int32 → Int32 → St → Option St) (a0 : Nat) (y2 : Int32) (y3 : Int32)  (S : St) : Option St :=
  if (3 : Int32) ≤ (gI S 11 13 a0) then (fX11_step_s275 k181 a0 y2 y3 S) else
  ((fX11_peek a0 S).bind fun r_18 =>
  fX11_step_s275 k181 a0 y2 y3 (sI S 11 14 a0 ((((10 : Int32) * (gI S 11 14 a0)) + r_18) - (48 : Int32))))
def fX11_step_s201 (k181 : Int32 → Int32 → St → Option St) (a0 : Nat) (y2 : Int32) (y3 : Int32)  (S : St) : Option St :=
  if y3 = 0 then (if (7 : Int32) ≤ (gI S 11 13 a0) then (fX11_step_s248 k181 a0 y2 (0 : Int32) S) else
  ((fX11_peek a0 S).bind fun r_20 =>
  fX11_step_s248 k181 a0 y2 (0 : Int32) (sJ S 11 17 a0 (((gJ S 11 17 a0) <<< ((8 : Int32).toInt64 &&& 63)) ||| r_20.toInt64)))) else
  ((fX11_peek a0 S).bind fun r_22 =>
  if (fX11_isSmall r_22 S) = y2 then (if (7 : Int32) ≤ (gI S 11 13 a0) then (fX11_step_s248 k181 a0 y2 (1 : Int32) S) else
  ((fX11_peek a0 S).bind fun r_29 =>
  fX11_step_s248 k181 a0 y2 (1 : Int32) (sJ S 11 17 a0 (((gJ S 11 17 a0) <<< ((8 : Int32).toInt64 &&& 63)) ||| r_29.toInt64)))) else
  (if (7 : Int32) ≤ (gI S 11 13 a0) then (fX11_step_s248 k181 a0 y2 (0 : Int32) S) else
  ((fX11_peek a0 S).bind fun r_26 =>
  fX11_step_s248 k181 a0 y2 (0 : Int32) (sJ S 11 17 a0 (((gJ S 11 17 a0) <<< ((8 : Int32).toInt64 &&& 63)) ||| r_26.toInt64)))))
def fX11_step_s181 (k181 : Int32 → Int32 → St → Option St) (a0 : Nat) (y2 : Int32) (y3 : Int32)  (S : St) : Option St :=
  (fX11_peek a0 S).bind fun r_12 =>
  if (fX11_isSmall r_12 S) = 0 then ((fX11_peek a0 S).bind fun r_31 =>
  if (fX11_isDigit r_31 S) = 0 then (if y3 = 0 then (some (sI S 11 11 a0 (4 : Int32))) else
  (if y2 = 0 then (if (gI S 11 13 a0) ≤ (3 : Int32) then (if y2 = 0 then (some (sI S 11 11 a0 (2 : Int32))) else
  (some (sI S 11 11 a0 (1 : Int32)))) else
  (some (sI S 11 11 a0 (4 : Int32)))) else
  (if (gI S 11 13 a0) ≤ (7 : Int32) then (if y2 = 0 then (some (sI S 11 11 a0 (2 : Int32))) else
  (some (sI S 11 11 a0 (1 : Int32)))) else
  (some (sI S 11 11 a0 (4 : Int32)))))) else
  (fX11_step_s201 k181 a0 y2 y3 S)) else
  (fX11_step_s201 k181 a0 y2 y3 S)
def fX11_step_h181 (a0 : Nat) : Nat → Int32 → Int32 → St → Option St
  | 0, _, _, _ => none
  | n + 1, y2, y3, S => fX11_step_s181 (fX11_step_h181 a0 n) a0 y2 y3 S
def fX11_step_s176 (a0 : Nat) (y2 : Int32) (y3 : Int32)  (S : St) : Option St :=
  fX11_step_h181 a0 NN y2 y3 (sI S 11 14 a0 (0 : Int32))
def fX11_step_s169 (a0 : Nat) (y2 : Int32)  (S : St) : Option St :=
  fX11_step_s176 a0 y2 (1 : Int32) (sJ S 11 17 a0 (0 : Int64))
def fX11_step_s164 (a0 : Nat) (y1 : Int32)  (S : St) : Option St :=
  fX11_step_s169 a0 (fX11_isSmall y1 S) S
def fX11_step_s153 (a0 : Nat)   (S : St) : Option St :=
  some (sI S 11 4 a0 ((gI S 11 4 a0) + (1 : Int32)))
def fX11_step_s148 (a0 : Nat) (y1 : Int32)  (S : St) : Option St :=
  fX11_step_s153 a0 (sI S 11 14 a0 y1)
def fX11_step_s80 (a0 : Nat)   (S : St) : Option St :=
  (fX11_peek a0 S).bind fun r_8 =>
  if 0 ≤ r_8 then (if (fX11_isSmall r_8 S) = 0 then (if (fX11_isDigit r_8 S) = 0 then (if r_8 = (59 : Int32) then (fX11_step_s148 a0 r_8 (sI S 11 11 a0 (3 : Int32))) else
  (if r_8 = (40 : Int32) then (fX11_step_s148 a0 r_8 (sI S 11 11 a0 (3 : Int32))) else
  (if r_8 = (41 : Int32) then (fX11_step_s148 a0 r_8 (sI S 11 11 a0 (3 : Int32))) else
  (if r_8 < (60 : Int32) then (fX11_step_s148 a0 r_8 (sI S 11 11 a0 (4 : Int32))) else
  (if (62 : Int32) < r_8 then (fX11_step_s148 a0 r_8 (sI S 11 11 a0 (4 : Int32))) else
  (fX11_step_s148 a0 r_8 (sI S 11 11 a0 (3 : Int32)))))))) else
  (fX11_step_s164 a0 r_8 S)) else
  (fX11_step_s164 a0 r_8 S)) else
  (some (sI S 11 11 a0 (0 : Int32)))
def fX11_step_s74 (a0 : Nat)   (S : St) : Option St :=
  some (sI S 11 11 a0 (4 : Int32))
def fX11_step_s44 (a0 : Nat)   (S : St) : Option St :=
  if (gI S 11 3 a0) ≤ (gI S 11 5 a0) then (fX11_step_s80 a0 S) else
  (if (gI S 11 4 a0) < (gI S 11 5 a0) then (fX11_step_s80 a0 S) else
  (fX11_step_s74 a0 (sI S 11 12 a0 (gI S 11 5 a0))))
def fX11_step_s39 (a0 : Nat)   (S : St) : Option St :=
  fX11_step_s44 a0 (sI S 11 13 a0 (0 : Int32))
def fX11_step_s0 (k0 : St → Option St) (a0 : Nat)   (S : St) : Option St :=
  (fX11_peek a0 S).bind fun r_1 =>
  if r_1 = (32 : Int32) then (fX11_step_s18 k0 a0 S) else
  ((fX11_peek a0 S).bind fun r_4 =>
  if r_4 = (10 : Int32) then (fX11_step_s18 k0 a0 S) else
  (fX11_step_s39 a0 (sI S 11 12 a0 (gI S 11 4 a0))))
def fX11_step_h0 (a0 : Nat) : Nat → St → Option St
  | 0, _ => none
  | n + 1, S => fX11_step_s0 (fX11_step_h0 a0 n) a0  S
def fX11_step (a0 : Nat) (S : St) : Option St :=
  fX11_step_h0 a0 NN S
theorem wX11_step_s28 {z : Mx} {ad : Nat → Nat} {o : Option Value × St} (X : CxOk z ad RX11 cX11_step 4 none 2) (a0 : Nat) (h0 : KT a0 = 11)   (k0 : St → Option St)   (S : St) (r : St) (ho : o = (none, r)) (hk0 : ∀  (S : St), k0  S = some r → GW z ad o S 0 [(0, .ref (ad a0))] []) (hF : fX11_step_s28 k0 a0   S = some r) : GW z ad o S 28 [(0, .ref (ad a0))] [] := by
  unfold fX11_step_s28 at hF
  refine g_goto (tgt := 0) X dX11_step_28 (by decide) ?_
  exact (hk0  S hF)
theorem wX11_step_s18 {z : Mx} {ad : Nat → Nat} {o : Option Value × St} (X : CxOk z ad RX11 cX11_step 4 none 2) (a0 : Nat) (h0 : KT a0 = 11)   (k0 : St → Option St)   (S : St) (r : St) (ho : o = (none, r)) (hk0 : ∀  (S : St), k0  S = some r → GW z ad o S 0 [(0, .ref (ad a0))] []) (hF : fX11_step_s18 k0 a0   S = some r) : GW z ad o S 18 [(0, .ref (ad a0))] [] := by
  unfold fX11_step_s18 at hF
  refine g_aload_n X dX11_step_18 0 rfl rfl ?_
  refine g_dup (a := .ref (ad a0)) X dX11_step_19 rfl ?_
  refine g_getI X dX11_step_20 flX11_21 rfl h0 ?_
  refine g_iconst (v := 1) X dX11_step_23 (by decide) ?_
  refine g_iadd X dX11_step_24 ?_
  refine g_putI X dX11_step_25 fpX11_21 rfl rfl rfl h0 ?_
  exact (wX11_step_s28 X a0 h0 k0 (sI S 11 4 a0 ((gI S 11 4 a0) + (1 : Int32))) r ho hk0 hF)
theorem wX11_step_s295 {z : Mx} {ad : Nat → Nat} {o : Option Value × St} (X : CxOk z ad RX11 cX11_step 4 none 2) (a0 : Nat) (h0 : KT a0 = 11) (y2 : Int32) (y3 : Int32)  (k181 : Int32 → Int32 → St → Option St)   (S : St) (r : St) (ho : o = (none, r)) (hk181 : ∀ (y2 : Int32) (y3 : Int32) (S : St), k181 y2 y3 S = some r → GW z ad o S 181 [(0, .ref (ad a0)), (2, .int y2), (3, .int y3)] []) (hF : fX11_step_s295 k181 a0 y2 y3  S = some r) : GW z ad o S 295 [(0, .ref (ad a0)), (2, .int y2), (3, .int y3)] [] := by
  unfold fX11_step_s295 at hF
  refine g_goto (tgt := 181) X dX11_step_295 (by decide) ?_
  exact (hk181 y2 y3 S hF)
theorem wX11_step_s285 {z : Mx} {ad : Nat → Nat} {o : Option Value × St} (X : CxOk z ad RX11 cX11_step 4 none 2) (a0 : Nat) (h0 : KT a0 = 11) (y2 : Int32) (y3 : Int32)  (k181 : Int32 → Int32 → St → Option St)   (S : St) (r : St) (ho : o = (none, r)) (hk181 : ∀ (y2 : Int32) (y3 : Int32) (S : St), k181 y2 y3 S = some r → GW z ad o S 181 [(0, .ref (ad a0)), (2, .int y2), (3, .int y3)] []) (hF : fX11_step_s285 k181 a0 y2 y3  S = some r) : GW z ad o S 285 [(0, .ref (ad a0)), (2, .int y2), (3, .int y3)] [] := by
  unfold fX11_step_s285 at hF
  refine g_aload_n X dX11_step_285 0 rfl rfl ?_
  refine g_dup (a := .ref (ad a0)) X dX11_step_286 rfl ?_
  refine g_getI X dX11_step_287 flX11_21 rfl h0 ?_
  refine g_iconst (v := 1) X dX11_step_290 (by decide) ?_
  refine g_iadd X dX11_step_291 ?_
  refine g_putI X dX11_step_292 fpX11_21 rfl rfl rfl h0 ?_
  exact (wX11_step_s295 X a0 h0 y2 y3 k181 (sI S 11 4 a0 ((gI S 11 4 a0) + (1 : Int32))) r ho hk181 hF)
theorem wX11_step_s275 {z : Mx} {ad : Nat → Nat} {o : Option Value × St} (X : CxOk z ad RX11 cX11_step 4 none 2) (a0 : Nat) (h0 : KT a0 = 11) (y2 : Int32) (y3 : Int32)  (k181 : Int32 → Int32 → St → Option St)   (S : St) (r : St) (ho : o = (none, r)) (hk181 : ∀ (y2 : Int32) (y3 : Int32) (S : St), k181 y2 y3 S = some r → GW z ad o S 181 [(0, .ref (ad a0)), (2, .int y2), (3, .int y3)] []) (hF : fX11_step_s275 k181 a0 y2 y3  S = some r) : GW z ad o S 275 [(0, .ref (ad a0)), (2, .int y2), (3, .int y3)] [] := by
  unfold fX11_step_s275 at hF
  refine g_aload_n X dX11_step_275 0 rfl rfl ?_
  refine g_dup (a := .ref (ad a0)) X dX11_step_276 rfl ?_
  refine g_getI X dX11_step_277 flX11_138 rfl h0 ?_
  refine g_iconst (v := 1) X dX11_step_280 (by decide) ?_
  refine g_iadd X dX11_step_281 ?_
  refine g_putI X dX11_step_282 fpX11_138 rfl rfl rfl h0 ?_
  exact (wX11_step_s285 X a0 h0 y2 y3 k181 (sI S 11 13 a0 ((gI S 11 13 a0) + (1 : Int32))) r ho hk181 hF)
theorem wX11_step_s248 {z : Mx} {ad : Nat → Nat} {o : Option Value × St} (X : CxOk z ad RX11 cX11_step 4 none 2) (a0 : Nat) (h0 : KT a0 = 11) (y2 : Int32) (y3 : Int32)  (k181 : Int32 → Int32 → St → Option St)   (S : St) (r : St) (ho : o = (none, r)) (hk181 : ∀ (y2 : Int32) (y3 : Int32) (S : St), k181 y2 y3 S = some r → GW z ad o S 181 [(0, .ref (ad a0)), (2, .int y2), (3, .int y3)] []) (hF : fX11_step_s248 k181 a0 y2 y3  S = some r) : GW z ad o S 248 [(0, .ref (ad a0)), (2, .int y2), (3, .int y3)] [] := by
  unfold fX11_step_s248 at hF
  refine g_aload_n X dX11_step_248 0 rfl rfl ?_
  refine g_getI X dX11_step_249 flX11_138 rfl h0 ?_
  refine g_iconst (v := 3) X dX11_step_252 (by decide) ?_
  refine g_icmp_ge (tgt := 275) X dX11_step_253 (by decide) (fun c_17 => ?_) (fun c_17 => ?_)
  · rw [if_pos c_17] at hF
    exact (wX11_step_s275 X a0 h0 y2 y3 k181 S r ho hk181 hF)
  · rw [if_neg c_17] at hF
    refine g_aload_n X dX11_step_256 0 rfl rfl ?_
    refine g_bipush (v := 10) X dX11_step_257 (by decide) ?_
    refine g_aload_n X dX11_step_259 0 rfl rfl ?_
    refine g_getI X dX11_step_260 flX11_151 rfl h0 ?_
    refine g_imul X dX11_step_263 ?_
    refine g_aload_n X dX11_step_264 0 rfl rfl ?_
    obtain ⟨r_18, q_19, hF⟩ := obind hF
    refine g_callVi (As := []) X dX11_step_265 mlX11_131 (fun l D cyy => tX11_peek (cx_inj X) l D cyy a0 h0 S r_18 q_19) h0 (by decide) rfl rfl (Nat.le_of_ble_eq_true rfl) ?_
    refine g_iadd X dX11_step_268 ?_
    refine g_bipush (v := 48) X dX11_step_269 (by decide) ?_
    refine g_isub X dX11_step_271 ?_
    refine g_putI X dX11_step_272 fpX11_151 rfl rfl rfl h0 ?_
    exact (wX11_step_s275 X a0 h0 y2 y3 k181 (sI S 11 14 a0 ((((10 : Int32) * (gI S 11 14 a0)) + r_18) - (48 : Int32))) r ho hk181 hF)
theorem wX11_step_s201 {z : Mx} {ad : Nat → Nat} {o : Option Value × St} (X : CxOk z ad RX11 cX11_step 4 none 2) (a0 : Nat) (h0 : KT a0 = 11) (y2 : Int32) (y3 : Int32)  (k181 : Int32 → Int32 → St → Option St)   (S : St) (r : St) (ho : o = (none, r)) (hk181 : ∀ (y2 : Int32) (y3 : Int32) (S : St), k181 y2 y3 S = some r → GW z ad o S 181 [(0, .ref (ad a0)), (2, .int y2), (3, .int y3)] []) (hF : fX11_step_s201 k181 a0 y2 y3  S = some r) : GW z ad o S 201 [(0, .ref (ad a0)), (2, .int y2), (3, .int y3)] [] := by
  unfold fX11_step_s201 at hF
  refine g_iload_n X dX11_step_201 2 rfl rfl ?_
  refine g_if_eq (tgt := 220) X dX11_step_202 (by decide) (fun c_15 => ?_) (fun c_15 => ?_)
  · rw [if_pos c_15] at hF
    refine g_iconst (v := 0) X dX11_step_220 (by decide) ?_
    refine g_istore_n X dX11_step_221 rfl (by decide) (lv' := [(3, .int (0 : Int32)), (0, .ref (ad a0)), (2, .int y2)]) rfl ?_
    refine g_aload_n X dX11_step_222 1 rfl rfl ?_
    refine g_getI X dX11_step_223 flX11_138 rfl h0 ?_
    refine g_bipush (v := 7) X dX11_step_226 (by decide) ?_
    refine g_icmp_ge (tgt := 248) X dX11_step_228 (by decide) (fun c_16 => ?_) (fun c_16 => ?_)
    · rw [if_pos c_16] at hF
      exact g_perm [1, 2, 0] rfl (wX11_step_s248 X a0 h0 y2 (0 : Int32) k181 S r ho hk181 hF)
    · rw [if_neg c_16] at hF
      refine g_aload_n X dX11_step_231 1 rfl rfl ?_
      refine g_aload_n X dX11_step_232 1 rfl rfl ?_
      refine g_getJ X dX11_step_233 flX11_154 rfl h0 ?_
      refine g_bipush (v := 8) X dX11_step_236 (by decide) ?_
      refine g_lshl X dX11_step_238 ?_
      refine g_aload_n X dX11_step_239 1 rfl rfl ?_
      obtain ⟨r_20, q_21, hF⟩ := obind hF
      refine g_callVi (As := []) X dX11_step_240 mlX11_131 (fun l D cyy => tX11_peek (cx_inj X) l D cyy a0 h0 S r_20 q_21) h0 (by decide) rfl rfl (Nat.le_of_ble_eq_true rfl) ?_
      refine g_i2l X dX11_step_243 ?_
      refine g_lor X dX11_step_244 ?_
      refine g_putJ X dX11_step_245 fpX11_154 rfl h0 ?_
      exact g_perm [1, 2, 0] rfl (wX11_step_s248 X a0 h0 y2 (0 : Int32) k181 (sJ S 11 17 a0 (((gJ S 11 17 a0) <<< ((8 : Int32).toInt64 &&& 63)) ||| r_20.toInt64)) r ho hk181 hF)
  · rw [if_neg c_15] at hF
    refine g_aload_n X dX11_step_205 0 rfl rfl ?_
    obtain ⟨r_22, q_23, hF⟩ := obind hF
    refine g_callVi (As := []) X dX11_step_206 mlX11_131 (fun l D cyy => tX11_peek (cx_inj X) l D cyy a0 h0 S r_22 q_23) h0 (by decide) rfl rfl (Nat.le_of_ble_eq_true rfl) ?_
    refine g_callSi (As := [.int r_22]) X dX11_step_209 mlX11_144 (fun l D cyy => tX11_isSmall (cx_inj X) l D cyy r_22  S) (by decide) rfl rfl (Nat.le_of_ble_eq_true rfl) ?_
    refine g_iload_n X dX11_step_212 1 rfl rfl ?_
    refine g_icmp_ne (tgt := 220) X dX11_step_213 (by decide) (fun c_24 => ?_) (fun c_24 => ?_)
    · rw [if_neg c_24] at hF
      refine g_iconst (v := 0) X dX11_step_220 (by decide) ?_
      refine g_istore_n X dX11_step_221 rfl (by decide) (lv' := [(3, .int (0 : Int32)), (0, .ref (ad a0)), (2, .int y2)]) rfl ?_
      refine g_aload_n X dX11_step_222 1 rfl rfl ?_
      refine g_getI X dX11_step_223 flX11_138 rfl h0 ?_
      refine g_bipush (v := 7) X dX11_step_226 (by decide) ?_
      refine g_icmp_ge (tgt := 248) X dX11_step_228 (by decide) (fun c_25 => ?_) (fun c_25 => ?_)
      · rw [if_pos c_25] at hF
        exact g_perm [1, 2, 0] rfl (wX11_step_s248 X a0 h0 y2 (0 : Int32) k181 S r ho hk181 hF)
      · rw [if_neg c_25] at hF
        refine g_aload_n X dX11_step_231 1 rfl rfl ?_
        refine g_aload_n X dX11_step_232 1 rfl rfl ?_
        refine g_getJ X dX11_step_233 flX11_154 rfl h0 ?_
        refine g_bipush (v := 8) X dX11_step_236 (by decide) ?_
        refine g_lshl X dX11_step_238 ?_
        refine g_aload_n X dX11_step_239 1 rfl rfl ?_
        obtain ⟨r_26, q_27, hF⟩ := obind hF
        refine g_callVi (As := []) X dX11_step_240 mlX11_131 (fun l D cyy => tX11_peek (cx_inj X) l D cyy a0 h0 S r_26 q_27) h0 (by decide) rfl rfl (Nat.le_of_ble_eq_true rfl) ?_
        refine g_i2l X dX11_step_243 ?_
        refine g_lor X dX11_step_244 ?_
        refine g_putJ X dX11_step_245 fpX11_154 rfl h0 ?_
        exact g_perm [1, 2, 0] rfl (wX11_step_s248 X a0 h0 y2 (0 : Int32) k181 (sJ S 11 17 a0 (((gJ S 11 17 a0) <<< ((8 : Int32).toInt64 &&& 63)) ||| r_26.toInt64)) r ho hk181 hF)
    · rw [if_pos c_24] at hF
      refine g_iconst (v := 1) X dX11_step_216 (by decide) ?_
      refine g_goto (tgt := 221) X dX11_step_217 (by decide) ?_
      refine g_istore_n X dX11_step_221 rfl (by decide) (lv' := [(3, .int (1 : Int32)), (0, .ref (ad a0)), (2, .int y2)]) rfl ?_
      refine g_aload_n X dX11_step_222 1 rfl rfl ?_
      refine g_getI X dX11_step_223 flX11_138 rfl h0 ?_
      refine g_bipush (v := 7) X dX11_step_226 (by decide) ?_
      refine g_icmp_ge (tgt := 248) X dX11_step_228 (by decide) (fun c_28 => ?_) (fun c_28 => ?_)
      · rw [if_pos c_28] at hF
        exact g_perm [1, 2, 0] rfl (wX11_step_s248 X a0 h0 y2 (1 : Int32) k181 S r ho hk181 hF)
      · rw [if_neg c_28] at hF
        refine g_aload_n X dX11_step_231 1 rfl rfl ?_
        refine g_aload_n X dX11_step_232 1 rfl rfl ?_
        refine g_getJ X dX11_step_233 flX11_154 rfl h0 ?_
        refine g_bipush (v := 8) X dX11_step_236 (by decide) ?_
        refine g_lshl X dX11_step_238 ?_
        refine g_aload_n X dX11_step_239 1 rfl rfl ?_
        obtain ⟨r_29, q_30, hF⟩ := obind hF
        refine g_callVi (As := []) X dX11_step_240 mlX11_131 (fun l D cyy => tX11_peek (cx_inj X) l D cyy a0 h0 S r_29 q_30) h0 (by decide) rfl rfl (Nat.le_of_ble_eq_true rfl) ?_
        refine g_i2l X dX11_step_243 ?_
        refine g_lor X dX11_step_244 ?_
        refine g_putJ X dX11_step_245 fpX11_154 rfl h0 ?_
        exact g_perm [1, 2, 0] rfl (wX11_step_s248 X a0 h0 y2 (1 : Int32) k181 (sJ S 11 17 a0 (((gJ S 11 17 a0) <<< ((8 : Int32).toInt64 &&& 63)) ||| r_29.toInt64)) r ho hk181 hF)
theorem wX11_step_s181 {z : Mx} {ad : Nat → Nat} {o : Option Value × St} (X : CxOk z ad RX11 cX11_step 4 none 2) (a0 : Nat) (h0 : KT a0 = 11) (y2 : Int32) (y3 : Int32)  (k181 : Int32 → Int32 → St → Option St)   (S : St) (r : St) (ho : o = (none, r)) (hk181 : ∀ (y2 : Int32) (y3 : Int32) (S : St), k181 y2 y3 S = some r → GW z ad o S 181 [(0, .ref (ad a0)), (2, .int y2), (3, .int y3)] []) (hF : fX11_step_s181 k181 a0 y2 y3  S = some r) : GW z ad o S 181 [(0, .ref (ad a0)), (2, .int y2), (3, .int y3)] [] := by
  unfold fX11_step_s181 at hF
  refine g_aload_n X dX11_step_181 0 rfl rfl ?_
  obtain ⟨r_12, q_13, hF⟩ := obind hF
  refine g_callVi (As := []) X dX11_step_182 mlX11_131 (fun l D cyy => tX11_peek (cx_inj X) l D cyy a0 h0 S r_12 q_13) h0 (by decide) rfl rfl (Nat.le_of_ble_eq_true rfl) ?_
  refine g_callSi (As := [.int r_12]) X dX11_step_185 mlX11_144 (fun l D cyy => tX11_isSmall (cx_inj X) l D cyy r_12  S) (by decide) rfl rfl (Nat.le_of_ble_eq_true rfl) ?_
  refine g_if_ne (tgt := 201) X dX11_step_188 (by decide) (fun c_14 => ?_) (fun c_14 => ?_)
  · rw [if_neg c_14] at hF
    exact (wX11_step_s201 X a0 h0 y2 y3 k181 S r ho hk181 hF)
  · rw [if_pos c_14] at hF
    refine g_aload_n X dX11_step_191 0 rfl rfl ?_
    obtain ⟨r_31, q_32, hF⟩ := obind hF
    refine g_callVi (As := []) X dX11_step_192 mlX11_131 (fun l D cyy => tX11_peek (cx_inj X) l D cyy a0 h0 S r_31 q_32) h0 (by decide) rfl rfl (Nat.le_of_ble_eq_true rfl) ?_
    refine g_callSi (As := [.int r_31]) X dX11_step_195 mlX11_148 (fun l D cyy => tX11_isDigit (cx_inj X) l D cyy r_31  S) (by decide) rfl rfl (Nat.le_of_ble_eq_true rfl) ?_
    refine g_if_eq (tgt := 298) X dX11_step_198 (by decide) (fun c_33 => ?_) (fun c_33 => ?_)
    · rw [if_pos c_33] at hF
      refine g_aload_n X dX11_step_298 0 rfl rfl ?_
      refine g_iload_n X dX11_step_299 2 rfl rfl ?_
      refine g_if_eq (tgt := 320) X dX11_step_300 (by decide) (fun c_34 => ?_) (fun c_34 => ?_)
      · rw [if_pos c_34] at hF
        refine g_iconst (v := 4) X dX11_step_320 (by decide) ?_
        refine g_goto (tgt := 333) X dX11_step_321 (by decide) ?_
        refine g_putI X dX11_step_333 fpX11_141 rfl rfl rfl h0 ?_
        have hF := Option.some.inj hF
        subst hF
        exact g_vret X dX11_step_336 ho
      · rw [if_neg c_34] at hF
        refine g_aload_n X dX11_step_303 0 rfl rfl ?_
        refine g_getI X dX11_step_304 flX11_138 rfl h0 ?_
        refine g_iload_n X dX11_step_307 1 rfl rfl ?_
        refine g_if_eq (tgt := 316) X dX11_step_308 (by decide) (fun c_35 => ?_) (fun c_35 => ?_)
        · rw [if_pos c_35] at hF
          refine g_iconst (v := 3) X dX11_step_316 (by decide) ?_
          refine g_icmp_le (tgt := 324) X dX11_step_317 (by decide) (fun c_36 => ?_) (fun c_36 => ?_)
          · rw [if_pos c_36] at hF
            refine g_iload_n X dX11_step_324 1 rfl rfl ?_
            refine g_if_eq (tgt := 332) X dX11_step_325 (by decide) (fun c_37 => ?_) (fun c_37 => ?_)
            · rw [if_pos c_37] at hF
              refine g_iconst (v := 2) X dX11_step_332 (by decide) ?_
              refine g_putI X dX11_step_333 fpX11_141 rfl rfl rfl h0 ?_
              have hF := Option.some.inj hF
              subst hF
              exact g_vret X dX11_step_336 ho
            · rw [if_neg c_37] at hF
              refine g_iconst (v := 1) X dX11_step_328 (by decide) ?_
              refine g_goto (tgt := 333) X dX11_step_329 (by decide) ?_
              refine g_putI X dX11_step_333 fpX11_141 rfl rfl rfl h0 ?_
              have hF := Option.some.inj hF
              subst hF
              exact g_vret X dX11_step_336 ho
          · rw [if_neg c_36] at hF
            refine g_iconst (v := 4) X dX11_step_320 (by decide) ?_
            refine g_goto (tgt := 333) X dX11_step_321 (by decide) ?_
            refine g_putI X dX11_step_333 fpX11_141 rfl rfl rfl h0 ?_
            have hF := Option.some.inj hF
            subst hF
            exact g_vret X dX11_step_336 ho
        · rw [if_neg c_35] at hF
          refine g_bipush (v := 7) X dX11_step_311 (by decide) ?_
          refine g_goto (tgt := 317) X dX11_step_313 (by decide) ?_
          refine g_icmp_le (tgt := 324) X dX11_step_317 (by decide) (fun c_38 => ?_) (fun c_38 => ?_)
          · rw [if_pos c_38] at hF
            refine g_iload_n X dX11_step_324 1 rfl rfl ?_
            refine g_if_eq (tgt := 332) X dX11_step_325 (by decide) (fun c_39 => ?_) (fun c_39 => ?_)
            · rw [if_pos c_39] at hF
              refine g_iconst (v := 2) X dX11_step_332 (by decide) ?_
              refine g_putI X dX11_step_333 fpX11_141 rfl rfl rfl h0 ?_
              have hF := Option.some.inj hF
              subst hF
              exact g_vret X dX11_step_336 ho
            · rw [if_neg c_39] at hF
              refine g_iconst (v := 1) X dX11_step_328 (by decide) ?_
              refine g_goto (tgt := 333) X dX11_step_329 (by decide) ?_
              refine g_putI X dX11_step_333 fpX11_141 rfl rfl rfl h0 ?_
              have hF := Option.some.inj hF
              subst hF
              exact g_vret X dX11_step_336 ho
          · rw [if_neg c_38] at hF
            refine g_iconst (v := 4) X dX11_step_320 (by decide) ?_
            refine g_goto (tgt := 333) X dX11_step_321 (by decide) ?_
            refine g_putI X dX11_step_333 fpX11_141 rfl rfl rfl h0 ?_
            have hF := Option.some.inj hF
            subst hF
            exact g_vret X dX11_step_336 ho
    · rw [if_neg c_33] at hF
      exact (wX11_step_s201 X a0 h0 y2 y3 k181 S r ho hk181 hF)
theorem wX11_step_h181 {z : Mx} {ad : Nat → Nat} {o : Option Value × St} (X : CxOk z ad RX11 cX11_step 4 none 2) (a0 : Nat) (h0 : KT a0 = 11)  (r : St) (ho : o = (none, r)) : ∀ (n : Nat) (y2 : Int32) (y3 : Int32) (S : St), fX11_step_h181 a0 n y2 y3 S = some r → GW z ad o S 181 [(0, .ref (ad a0)), (2, .int y2), (3, .int y3)] [] := by
  intro n
  induction n with
  | zero => intro y2 y3 S  hF; cases hF
  | succ n ih => intro y2 y3 S  hF; exact wX11_step_s181 X a0 h0 y2 y3 (fX11_step_h181 a0 n)  S r ho ih hF
theorem wX11_step_s176 {z : Mx} {ad : Nat → Nat} {o : Option Value × St} (X : CxOk z ad RX11 cX11_step 4 none 2) (a0 : Nat) (h0 : KT a0 = 11) (y2 : Int32) (y3 : Int32)    (S : St) (r : St) (ho : o = (none, r)) (hF : fX11_step_s176 a0 y2 y3  S = some r) : GW z ad o S 176 [(0, .ref (ad a0)), (2, .int y2), (3, .int y3)] [] := by
  unfold fX11_step_s176 at hF
  refine g_aload_n X dX11_step_176 0 rfl rfl ?_
  refine g_iconst (v := 0) X dX11_step_177 (by decide) ?_
  refine g_putI X dX11_step_178 fpX11_151 rfl rfl rfl h0 ?_
  exact (wX11_step_h181 X a0 h0 r ho NN y2 y3 (sI S 11 14 a0 (0 : Int32)) hF)
theorem wX11_step_s169 {z : Mx} {ad : Nat → Nat} {o : Option Value × St} (X : CxOk z ad RX11 cX11_step 4 none 2) (a0 : Nat) (h0 : KT a0 = 11) (y2 : Int32)    (S : St) (r : St) (ho : o = (none, r)) (hF : fX11_step_s169 a0 y2  S = some r) : GW z ad o S 169 [(0, .ref (ad a0)), (2, .int y2)] [] := by
  unfold fX11_step_s169 at hF
  refine g_iconst (v := 1) X dX11_step_169 (by decide) ?_
  refine g_istore_n X dX11_step_170 rfl (by decide) (lv' := [(3, .int (1 : Int32)), (0, .ref (ad a0)), (2, .int y2)]) rfl ?_
  refine g_aload_n X dX11_step_171 1 rfl rfl ?_
  refine g_lconst (v := 0) X dX11_step_172 (by decide) ?_
  refine g_putJ X dX11_step_173 fpX11_154 rfl h0 ?_
  exact g_perm [1, 2, 0] rfl (wX11_step_s176 X a0 h0 y2 (1 : Int32) (sJ S 11 17 a0 (0 : Int64)) r ho hF)
theorem wX11_step_s164 {z : Mx} {ad : Nat → Nat} {o : Option Value × St} (X : CxOk z ad RX11 cX11_step 4 none 2) (a0 : Nat) (h0 : KT a0 = 11) (y1 : Int32)    (S : St) (r : St) (ho : o = (none, r)) (hF : fX11_step_s164 a0 y1  S = some r) : GW z ad o S 164 [(0, .ref (ad a0)), (1, .int y1)] [] := by
  unfold fX11_step_s164 at hF
  refine g_iload_n X dX11_step_164 1 rfl rfl ?_
  refine g_callSi (As := [.int y1]) X dX11_step_165 mlX11_144 (fun l D cyy => tX11_isSmall (cx_inj X) l D cyy y1  S) (by decide) rfl rfl (Nat.le_of_ble_eq_true rfl) ?_
  refine g_istore_n X dX11_step_168 rfl (by decide) (lv' := [(2, .int (fX11_isSmall y1 S)), (0, .ref (ad a0)), (1, .int y1)]) rfl ?_
  exact g_perm [1, 0] rfl (wX11_step_s169 X a0 h0 (fX11_isSmall y1 S) S r ho hF)
theorem wX11_step_s153 {z : Mx} {ad : Nat → Nat} {o : Option Value × St} (X : CxOk z ad RX11 cX11_step 4 none 2) (a0 : Nat) (h0 : KT a0 = 11)     (S : St) (r : St) (ho : o = (none, r)) (hF : fX11_step_s153 a0   S = some r) : GW z ad o S 153 [(0, .ref (ad a0))] [] := by
  unfold fX11_step_s153 at hF
  refine g_aload_n X dX11_step_153 0 rfl rfl ?_
  refine g_dup (a := .ref (ad a0)) X dX11_step_154 rfl ?_
  refine g_getI X dX11_step_155 flX11_21 rfl h0 ?_
  refine g_iconst (v := 1) X dX11_step_158 (by decide) ?_
  refine g_iadd X dX11_step_159 ?_
  refine g_putI X dX11_step_160 fpX11_21 rfl rfl rfl h0 ?_
  have hF := Option.some.inj hF
  subst hF
  exact g_vret X dX11_step_163 ho
theorem wX11_step_s148 {z : Mx} {ad : Nat → Nat} {o : Option Value × St} (X : CxOk z ad RX11 cX11_step 4 none 2) (a0 : Nat) (h0 : KT a0 = 11) (y1 : Int32)    (S : St) (r : St) (ho : o = (none, r)) (hF : fX11_step_s148 a0 y1  S = some r) : GW z ad o S 148 [(0, .ref (ad a0)), (1, .int y1)] [] := by
  unfold fX11_step_s148 at hF
  refine g_aload_n X dX11_step_148 0 rfl rfl ?_
  refine g_iload_n X dX11_step_149 1 rfl rfl ?_
  refine g_putI X dX11_step_150 fpX11_151 rfl rfl rfl h0 ?_
  exact g_perm [0] rfl (wX11_step_s153 X a0 h0 (sI S 11 14 a0 y1) r ho hF)
theorem wX11_step_s80 {z : Mx} {ad : Nat → Nat} {o : Option Value × St} (X : CxOk z ad RX11 cX11_step 4 none 2) (a0 : Nat) (h0 : KT a0 = 11)     (S : St) (r : St) (ho : o = (none, r)) (hF : fX11_step_s80 a0   S = some r) : GW z ad o S 80 [(0, .ref (ad a0))] [] := by
  unfold fX11_step_s80 at hF
  refine g_aload_n X dX11_step_80 0 rfl rfl ?_
  obtain ⟨r_8, q_9, hF⟩ := obind hF
  refine g_callVi (As := []) X dX11_step_81 mlX11_131 (fun l D cyy => tX11_peek (cx_inj X) l D cyy a0 h0 S r_8 q_9) h0 (by decide) rfl rfl (Nat.le_of_ble_eq_true rfl) ?_
  refine g_istore_n X dX11_step_84 rfl (by decide) (lv' := [(1, .int r_8), (0, .ref (ad a0))]) rfl ?_
  refine g_iload_n X dX11_step_85 0 rfl rfl ?_
  refine g_if_ge (tgt := 95) X dX11_step_86 (by decide) (fun c_10 => ?_) (fun c_10 => ?_)
  · rw [if_pos c_10] at hF
    refine g_iload_n X dX11_step_95 0 rfl rfl ?_
    refine g_callSi (As := [.int r_8]) X dX11_step_96 mlX11_144 (fun l D cyy => tX11_isSmall (cx_inj X) l D cyy r_8  S) (by decide) rfl rfl (Nat.le_of_ble_eq_true rfl) ?_
    refine g_if_ne (tgt := 164) X dX11_step_99 (by decide) (fun c_11 => ?_) (fun c_11 => ?_)
    · rw [if_neg c_11] at hF
      exact g_perm [1, 0] rfl (wX11_step_s164 X a0 h0 r_8 S r ho hF)
    · rw [if_pos c_11] at hF
      refine g_iload_n X dX11_step_102 0 rfl rfl ?_
      refine g_callSi (As := [.int r_8]) X dX11_step_103 mlX11_148 (fun l D cyy => tX11_isDigit (cx_inj X) l D cyy r_8  S) (by decide) rfl rfl (Nat.le_of_ble_eq_true rfl) ?_
      refine g_if_ne (tgt := 164) X dX11_step_106 (by decide) (fun c_40 => ?_) (fun c_40 => ?_)
      · rw [if_neg c_40] at hF
        exact g_perm [1, 0] rfl (wX11_step_s164 X a0 h0 r_8 S r ho hF)
      · rw [if_pos c_40] at hF
        refine g_aload_n X dX11_step_109 1 rfl rfl ?_
        refine g_iload_n X dX11_step_110 0 rfl rfl ?_
        refine g_bipush (v := 59) X dX11_step_111 (by decide) ?_
        refine g_icmp_eq (tgt := 140) X dX11_step_113 (by decide) (fun c_41 => ?_) (fun c_41 => ?_)
        · rw [if_pos c_41] at hF
          refine g_iconst (v := 3) X dX11_step_140 (by decide) ?_
          refine g_goto (tgt := 145) X dX11_step_141 (by decide) ?_
          refine g_putI X dX11_step_145 fpX11_141 rfl rfl rfl h0 ?_
          exact g_perm [1, 0] rfl (wX11_step_s148 X a0 h0 r_8 (sI S 11 11 a0 (3 : Int32)) r ho hF)
        · rw [if_neg c_41] at hF
          refine g_iload_n X dX11_step_116 0 rfl rfl ?_
          refine g_bipush (v := 40) X dX11_step_117 (by decide) ?_
          refine g_icmp_eq (tgt := 140) X dX11_step_119 (by decide) (fun c_42 => ?_) (fun c_42 => ?_)
          · rw [if_pos c_42] at hF
            refine g_iconst (v := 3) X dX11_step_140 (by decide) ?_
            refine g_goto (tgt := 145) X dX11_step_141 (by decide) ?_
            refine g_putI X dX11_step_145 fpX11_141 rfl rfl rfl h0 ?_
            exact g_perm [1, 0] rfl (wX11_step_s148 X a0 h0 r_8 (sI S 11 11 a0 (3 : Int32)) r ho hF)
          · rw [if_neg c_42] at hF
            refine g_iload_n X dX11_step_122 0 rfl rfl ?_
            refine g_bipush (v := 41) X dX11_step_123 (by decide) ?_
            refine g_icmp_eq (tgt := 140) X dX11_step_125 (by decide) (fun c_43 => ?_) (fun c_43 => ?_)
            · rw [if_pos c_43] at hF
              refine g_iconst (v := 3) X dX11_step_140 (by decide) ?_
              refine g_goto (tgt := 145) X dX11_step_141 (by decide) ?_
              refine g_putI X dX11_step_145 fpX11_141 rfl rfl rfl h0 ?_
              exact g_perm [1, 0] rfl (wX11_step_s148 X a0 h0 r_8 (sI S 11 11 a0 (3 : Int32)) r ho hF)
            · rw [if_neg c_43] at hF
              refine g_iload_n X dX11_step_128 0 rfl rfl ?_
              refine g_bipush (v := 60) X dX11_step_129 (by decide) ?_
              refine g_icmp_lt (tgt := 144) X dX11_step_131 (by decide) (fun c_44 => ?_) (fun c_44 => ?_)
              · rw [if_pos c_44] at hF
                refine g_iconst (v := 4) X dX11_step_144 (by decide) ?_
                refine g_putI X dX11_step_145 fpX11_141 rfl rfl rfl h0 ?_
                exact g_perm [1, 0] rfl (wX11_step_s148 X a0 h0 r_8 (sI S 11 11 a0 (4 : Int32)) r ho hF)
              · rw [if_neg c_44] at hF
                refine g_iload_n X dX11_step_134 0 rfl rfl ?_
                refine g_bipush (v := 62) X dX11_step_135 (by decide) ?_
                refine g_icmp_gt (tgt := 144) X dX11_step_137 (by decide) (fun c_45 => ?_) (fun c_45 => ?_)
                · rw [if_pos c_45] at hF
                  refine g_iconst (v := 4) X dX11_step_144 (by decide) ?_
                  refine g_putI X dX11_step_145 fpX11_141 rfl rfl rfl h0 ?_
                  exact g_perm [1, 0] rfl (wX11_step_s148 X a0 h0 r_8 (sI S 11 11 a0 (4 : Int32)) r ho hF)
                · rw [if_neg c_45] at hF
                  refine g_iconst (v := 3) X dX11_step_140 (by decide) ?_
                  refine g_goto (tgt := 145) X dX11_step_141 (by decide) ?_
                  refine g_putI X dX11_step_145 fpX11_141 rfl rfl rfl h0 ?_
                  exact g_perm [1, 0] rfl (wX11_step_s148 X a0 h0 r_8 (sI S 11 11 a0 (3 : Int32)) r ho hF)
  · rw [if_neg c_10] at hF
    refine g_aload_n X dX11_step_89 1 rfl rfl ?_
    refine g_iconst (v := 0) X dX11_step_90 (by decide) ?_
    refine g_putI X dX11_step_91 fpX11_141 rfl rfl rfl h0 ?_
    have hF := Option.some.inj hF
    subst hF
    exact g_vret X dX11_step_94 ho
theorem wX11_step_s74 {z : Mx} {ad : Nat → Nat} {o : Option Value × St} (X : CxOk z ad RX11 cX11_step 4 none 2) (a0 : Nat) (h0 : KT a0 = 11)     (S : St) (r : St) (ho : o = (none, r)) (hF : fX11_step_s74 a0   S = some r) : GW z ad o S 74 [(0, .ref (ad a0))] [] := by
  unfold fX11_step_s74 at hF
  refine g_aload_n X dX11_step_74 0 rfl rfl ?_
  refine g_iconst (v := 4) X dX11_step_75 (by decide) ?_
  refine g_putI X dX11_step_76 fpX11_141 rfl rfl rfl h0 ?_
  have hF := Option.some.inj hF
  subst hF
  exact g_vret X dX11_step_79 ho
theorem wX11_step_s44 {z : Mx} {ad : Nat → Nat} {o : Option Value × St} (X : CxOk z ad RX11 cX11_step 4 none 2) (a0 : Nat) (h0 : KT a0 = 11)     (S : St) (r : St) (ho : o = (none, r)) (hF : fX11_step_s44 a0   S = some r) : GW z ad o S 44 [(0, .ref (ad a0))] [] := by
  unfold fX11_step_s44 at hF
  refine g_aload_n X dX11_step_44 0 rfl rfl ?_
  refine g_getI X dX11_step_45 flX11_18 rfl h0 ?_
  refine g_aload_n X dX11_step_48 0 rfl rfl ?_
  refine g_getI X dX11_step_49 flX11_24 rfl h0 ?_
  refine g_icmp_le (tgt := 80) X dX11_step_52 (by decide) (fun c_7 => ?_) (fun c_7 => ?_)
  · rw [if_pos c_7] at hF
    exact (wX11_step_s80 X a0 h0 S r ho hF)
  · rw [if_neg c_7] at hF
    refine g_aload_n X dX11_step_55 0 rfl rfl ?_
    refine g_getI X dX11_step_56 flX11_21 rfl h0 ?_
    refine g_aload_n X dX11_step_59 0 rfl rfl ?_
    refine g_getI X dX11_step_60 flX11_24 rfl h0 ?_
    refine g_icmp_lt (tgt := 80) X dX11_step_63 (by decide) (fun c_46 => ?_) (fun c_46 => ?_)
    · rw [if_pos c_46] at hF
      exact (wX11_step_s80 X a0 h0 S r ho hF)
    · rw [if_neg c_46] at hF
      refine g_aload_n X dX11_step_66 0 rfl rfl ?_
      refine g_aload_n X dX11_step_67 0 rfl rfl ?_
      refine g_getI X dX11_step_68 flX11_24 rfl h0 ?_
      refine g_putI X dX11_step_71 fpX11_135 rfl rfl rfl h0 ?_
      exact (wX11_step_s74 X a0 h0 (sI S 11 12 a0 (gI S 11 5 a0)) r ho hF)
theorem wX11_step_s39 {z : Mx} {ad : Nat → Nat} {o : Option Value × St} (X : CxOk z ad RX11 cX11_step 4 none 2) (a0 : Nat) (h0 : KT a0 = 11)     (S : St) (r : St) (ho : o = (none, r)) (hF : fX11_step_s39 a0   S = some r) : GW z ad o S 39 [(0, .ref (ad a0))] [] := by
  unfold fX11_step_s39 at hF
  refine g_aload_n X dX11_step_39 0 rfl rfl ?_
  refine g_iconst (v := 0) X dX11_step_40 (by decide) ?_
  refine g_putI X dX11_step_41 fpX11_138 rfl rfl rfl h0 ?_
  exact (wX11_step_s44 X a0 h0 (sI S 11 13 a0 (0 : Int32)) r ho hF)
theorem wX11_step_s0 {z : Mx} {ad : Nat → Nat} {o : Option Value × St} (X : CxOk z ad RX11 cX11_step 4 none 2) (a0 : Nat) (h0 : KT a0 = 11)   (k0 : St → Option St)   (S : St) (r : St) (ho : o = (none, r)) (hk0 : ∀  (S : St), k0  S = some r → GW z ad o S 0 [(0, .ref (ad a0))] []) (hF : fX11_step_s0 k0 a0   S = some r) : GW z ad o S 0 [(0, .ref (ad a0))] [] := by
  unfold fX11_step_s0 at hF
  refine g_aload_n X dX11_step_0 0 rfl rfl ?_
  obtain ⟨r_1, q_2, hF⟩ := obind hF
  refine g_callVi (As := []) X dX11_step_1 mlX11_131 (fun l D cyy => tX11_peek (cx_inj X) l D cyy a0 h0 S r_1 q_2) h0 (by decide) rfl rfl (Nat.le_of_ble_eq_true rfl) ?_
  refine g_bipush (v := 32) X dX11_step_4 (by decide) ?_
  refine g_icmp_eq (tgt := 18) X dX11_step_6 (by decide) (fun c_3 => ?_) (fun c_3 => ?_)
  · rw [if_pos c_3] at hF
    exact (wX11_step_s18 X a0 h0 k0 S r ho hk0 hF)
  · rw [if_neg c_3] at hF
    refine g_aload_n X dX11_step_9 0 rfl rfl ?_
    obtain ⟨r_4, q_5, hF⟩ := obind hF
    refine g_callVi (As := []) X dX11_step_10 mlX11_131 (fun l D cyy => tX11_peek (cx_inj X) l D cyy a0 h0 S r_4 q_5) h0 (by decide) rfl rfl (Nat.le_of_ble_eq_true rfl) ?_
    refine g_bipush (v := 10) X dX11_step_13 (by decide) ?_
    refine g_icmp_ne (tgt := 31) X dX11_step_15 (by decide) (fun c_6 => ?_) (fun c_6 => ?_)
    · rw [if_neg c_6] at hF
      refine g_aload_n X dX11_step_31 0 rfl rfl ?_
      refine g_aload_n X dX11_step_32 0 rfl rfl ?_
      refine g_getI X dX11_step_33 flX11_21 rfl h0 ?_
      refine g_putI X dX11_step_36 fpX11_135 rfl rfl rfl h0 ?_
      exact (wX11_step_s39 X a0 h0 (sI S 11 12 a0 (gI S 11 4 a0)) r ho hF)
    · rw [if_pos c_6] at hF
      exact (wX11_step_s18 X a0 h0 k0 S r ho hk0 hF)
theorem wX11_step_h0 {z : Mx} {ad : Nat → Nat} {o : Option Value × St} (X : CxOk z ad RX11 cX11_step 4 none 2) (a0 : Nat) (h0 : KT a0 = 11)  (r : St) (ho : o = (none, r)) : ∀ (n : Nat)  (S : St), fX11_step_h0 a0 n  S = some r → GW z ad o S 0 [(0, .ref (ad a0))] [] := by
  intro n
  induction n with
  | zero => intro  S  hF; cases hF
  | succ n ih => intro  S  hF; exact wX11_step_s0 X a0 h0  (fX11_step_h0 a0 n)  S r ho ih hF
theorem wX11_step {z : Mx} {ad : Nat → Nat} {o : Option Value × St} (X : CxOk z ad RX11 cX11_step 4 none 2) (a0 : Nat) (h0 : KT a0 = 11) (S : St) (r : St) (ho : o = (none, r)) (hF : fX11_step a0 S = some r) : GW z ad o S 0 [(0, .ref (ad a0))] [] := by
  unfold fX11_step at hF
  exact (wX11_step_h0 X a0 h0 r ho NN S hF)
theorem tX11_step {ad : Nat → Nat} (hI : Inj ad) (l : Launch) (D : va_G) (cyy : Nat → ClassId) (a0 : Nat) (h0 : KT a0 = 11) (S : St) (r : St) (hF : fX11_step a0 S = some r) : OkM l yX11_step cX11_step 4 none 2 ad D cyy [.ref (ad a0)] S (none, r) := okM_of hI (by decide) (inr_17 _ (List.mem_of_getElem? (i := 15) rfl)) (by show _ ≤ 4; exact Nat.le_of_ble_eq_true rfl) (fun z X => wX11_step X a0 h0 S r rfl hF)
def fX11_bad_s13 (a0 : Nat) (x1 : Int32)   (S : St) : (Int32 × St) :=
  ((0 : Int32), S)
def fX11_bad_s5 (a0 : Nat) (x1 : Int32)   (S : St) : (Int32 × St) :=
  fX11_bad_s13 a0 x1 (sI S 11 16 a0 (gI S 11 12 a0))
def fX11_bad (a0 : Nat) (x1 : Int32) (S : St) : (Int32 × St) :=
  fX11_bad_s5 a0 x1 (sI S 11 15 a0 x1)
theorem wX11_bad_s13 {z : Mx} {ad : Nat → Nat} {o : Option Value × St} (X : CxOk z ad RX11 cX11_bad 2 (some .boolean) 1) (a0 : Nat) (x1 : Int32) (h0 : KT a0 = 11)     (S : St) (r : (Int32 × St)) (ho : o = (some (.int r.1), r.2)) (hF : fX11_bad_s13 a0 x1   S = r) : GW z ad o S 13 [] [] := by
  unfold fX11_bad_s13 at hF
  refine g_iconst (v := 0) X dX11_bad_13 (by decide) ?_
  subst hF
  exact g_zret X dX11_bad_14 (by decide) ho
theorem wX11_bad_s5 {z : Mx} {ad : Nat → Nat} {o : Option Value × St} (X : CxOk z ad RX11 cX11_bad 2 (some .boolean) 1) (a0 : Nat) (x1 : Int32) (h0 : KT a0 = 11)     (S : St) (r : (Int32 × St)) (ho : o = (some (.int r.1), r.2)) (hF : fX11_bad_s5 a0 x1   S = r) : GW z ad o S 5 [(0, .ref (ad a0))] [] := by
  unfold fX11_bad_s5 at hF
  refine g_aload_n X dX11_bad_5 0 rfl rfl ?_
  refine g_aload_n X dX11_bad_6 0 rfl rfl ?_
  refine g_getI X dX11_bad_7 flX11_135 rfl h0 ?_
  refine g_putI X dX11_bad_10 fpX11_161 rfl rfl rfl h0 ?_
  exact g_perm [] rfl (wX11_bad_s13 X a0 x1 h0 (sI S 11 16 a0 (gI S 11 12 a0)) r ho hF)
theorem wX11_bad {z : Mx} {ad : Nat → Nat} {o : Option Value × St} (X : CxOk z ad RX11 cX11_bad 2 (some .boolean) 1) (a0 : Nat) (x1 : Int32) (h0 : KT a0 = 11) (S : St) (r : (Int32 × St)) (ho : o = (some (.int r.1), r.2)) (hF : fX11_bad a0 x1 S = r) : GW z ad o S 0 [(0, .ref (ad a0)), (1, .int x1)] [] := by
  unfold fX11_bad at hF
  refine g_aload_n X dX11_bad_0 0 rfl rfl ?_
  refine g_iload_n X dX11_bad_1 1 rfl rfl ?_
  refine g_putI X dX11_bad_2 fpX11_158 rfl rfl rfl h0 ?_
  exact g_perm [0] rfl (wX11_bad_s5 X a0 x1 h0 (sI S 11 15 a0 x1) r ho hF)
theorem tX11_bad {ad : Nat → Nat} (hI : Inj ad) (l : Launch) (D : va_G) (cyy : Nat → ClassId) (a0 : Nat) (x1 : Int32) (h0 : KT a0 = 11) (S : St) : OkM l yX11_bad cX11_bad 2 (some .boolean) 1 ad D cyy [.ref (ad a0), .int x1] S (some (.int (fX11_bad a0 x1 S).1), (fX11_bad a0 x1 S).2) := okM_of hI (by decide) (inr_18 _ (List.mem_of_getElem? (i := 21) rfl)) (by show _ ≤ 2; exact Nat.le_of_ble_eq_true rfl) (fun z X => wX11_bad X a0 x1 h0 S _ rfl rfl)
def fX11_isWord (a0 : Nat) (x1 : Int64) (S : St) : Int32 :=
  if (gI S 11 11 a0) = (1 : Int32) then (if (lg_cmp (gJ S 11 17 a0) x1) = 0 then ((1 : Int32)) else
  ((0 : Int32))) else
  ((0 : Int32))
theorem wX11_isWord {z : Mx} {ad : Nat → Nat} {o : Option Value × St} (X : CxOk z ad RX11 cX11_isWord 3 (some .boolean) 1) (a0 : Nat) (x1 : Int64) (h0 : KT a0 = 11) (S : St) (r : Int32) (ho : o = (some (.int r), S)) (hF : fX11_isWord a0 x1 S = r) : GW z ad o S 0 [(0, .ref (ad a0)), (1, .long x1)] [] := by
  unfold fX11_isWord at hF
  refine g_aload_n X dX11_isWord_0 0 rfl rfl ?_
  refine g_getI X dX11_isWord_1 flX11_141 rfl h0 ?_
  refine g_iconst (v := 1) X dX11_isWord_4 (by decide) ?_
  refine g_icmp_ne (tgt := 21) X dX11_isWord_5 (by decide) (fun c_1 => ?_) (fun c_1 => ?_)
  · rw [if_neg c_1] at hF
    refine g_iconst (v := 0) X dX11_isWord_21 (by decide) ?_
    subst hF
    exact g_zret X dX11_isWord_22 (by decide) ho
  · rw [if_pos c_1] at hF
    refine g_aload_n X dX11_isWord_8 0 rfl rfl ?_
    refine g_getJ X dX11_isWord_9 flX11_154 rfl h0 ?_
    refine g_lload_n X dX11_isWord_12 1 rfl rfl ?_
    refine g_lcmp X dX11_isWord_13 ?_
    refine g_if_ne (tgt := 21) X dX11_isWord_14 (by decide) (fun c_2 => ?_) (fun c_2 => ?_)
    · rw [if_neg c_2] at hF
      refine g_iconst (v := 0) X dX11_isWord_21 (by decide) ?_
      subst hF
      exact g_zret X dX11_isWord_22 (by decide) ho
    · rw [if_pos c_2] at hF
      refine g_iconst (v := 1) X dX11_isWord_17 (by decide) ?_
      refine g_goto (tgt := 22) X dX11_isWord_18 (by decide) ?_
      subst hF
      exact g_zret X dX11_isWord_22 (by decide) ho
theorem tX11_isWord {ad : Nat → Nat} (hI : Inj ad) (l : Launch) (D : va_G) (cyy : Nat → ClassId) (a0 : Nat) (x1 : Int64) (h0 : KT a0 = 11) (S : St) : OkM l yX11_isWord cX11_isWord 3 (some .boolean) 1 ad D cyy [.ref (ad a0), .long x1] S (some (.int (fX11_isWord a0 x1 S)), S) := okM_of hI (by decide) (inr_18 _ (List.mem_of_getElem? (i := 13) rfl)) (by show _ ≤ 3; exact Nat.le_of_ble_eq_true rfl) (fun z X => wX11_isWord X a0 x1 h0 S _ rfl rfl)
def fX11_isSign (a0 : Nat) (x1 : Int32) (S : St) : Int32 :=
  if (gI S 11 11 a0) = (3 : Int32) then (if (gI S 11 14 a0) = x1 then ((1 : Int32)) else
  ((0 : Int32))) else
  ((0 : Int32))
theorem wX11_isSign {z : Mx} {ad : Nat → Nat} {o : Option Value × St} (X : CxOk z ad RX11 cX11_isSign 2 (some .boolean) 1) (a0 : Nat) (x1 : Int32) (h0 : KT a0 = 11) (S : St) (r : Int32) (ho : o = (some (.int r), S)) (hF : fX11_isSign a0 x1 S = r) : GW z ad o S 0 [(0, .ref (ad a0)), (1, .int x1)] [] := by
  unfold fX11_isSign at hF
  refine g_aload_n X dX11_isSign_0 0 rfl rfl ?_
  refine g_getI X dX11_isSign_1 flX11_141 rfl h0 ?_
  refine g_iconst (v := 3) X dX11_isSign_4 (by decide) ?_
  refine g_icmp_ne (tgt := 20) X dX11_isSign_5 (by decide) (fun c_1 => ?_) (fun c_1 => ?_)
  · rw [if_neg c_1] at hF
    refine g_iconst (v := 0) X dX11_isSign_20 (by decide) ?_
    subst hF
    exact g_zret X dX11_isSign_21 (by decide) ho
  · rw [if_pos c_1] at hF
    refine g_aload_n X dX11_isSign_8 0 rfl rfl ?_
    refine g_getI X dX11_isSign_9 flX11_151 rfl h0 ?_
    refine g_iload_n X dX11_isSign_12 1 rfl rfl ?_
    refine g_icmp_ne (tgt := 20) X dX11_isSign_13 (by decide) (fun c_2 => ?_) (fun c_2 => ?_)
    · rw [if_neg c_2] at hF
      refine g_iconst (v := 0) X dX11_isSign_20 (by decide) ?_
      subst hF
      exact g_zret X dX11_isSign_21 (by decide) ho
    · rw [if_pos c_2] at hF
      refine g_iconst (v := 1) X dX11_isSign_16 (by decide) ?_
      refine g_goto (tgt := 21) X dX11_isSign_17 (by decide) ?_
      subst hF
      exact g_zret X dX11_isSign_21 (by decide) ho
theorem tX11_isSign {ad : Nat → Nat} (hI : Inj ad) (l : Launch) (D : va_G) (cyy : Nat → ClassId) (a0 : Nat) (x1 : Int32) (h0 : KT a0 = 11) (S : St) : OkM l yX11_isSign cX11_isSign 2 (some .boolean) 1 ad D cyy [.ref (ad a0), .int x1] S (some (.int (fX11_isSign a0 x1 S)), S) := okM_of hI (by decide) (inr_20 _ (List.mem_of_getElem? (i := 21) rfl)) (by show _ ≤ 2; exact Nat.le_of_ble_eq_true rfl) (fun z X => wX11_isSign X a0 x1 h0 S _ rfl rfl)
def fX11_sign_s13 (a0 : Nat) (x1 : Int32)  (t0 : Int32) (S : St) : Option (Int32 × St) :=
  some ((vp_nar .boolean t0), S)
def fX11_sign (a0 : Nat) (x1 : Int32) (S : St) : Option (Int32 × St) :=
  if (fX11_isSign a0 x1 S) = 0 then (fX11_sign_s13 a0 x1 ((fX11_bad a0 (1 : Int32) S).1) ((fX11_bad a0 (1 : Int32) S).2)) else
  ((fX11_step a0 S).bind fun r_2 =>
  some ((1 : Int32), r_2))
theorem wX11_sign_s13 {z : Mx} {ad : Nat → Nat} {o : Option Value × St} (X : CxOk z ad RX11 cX11_sign 2 (some .boolean) 3) (a0 : Nat) (x1 : Int32) (h0 : KT a0 = 11)  (t0 : Int32)   (S : St) (r : (Int32 × St)) (ho : o = (some (.int r.1), r.2)) (hF : fX11_sign_s13 a0 x1  t0 S = some r) : GW z ad o S 13 [] [.int t0] := by
  unfold fX11_sign_s13 at hF
  have hF := Option.some.inj hF
  subst hF
  exact g_zretN X dX11_sign_13 ho
theorem wX11_sign {z : Mx} {ad : Nat → Nat} {o : Option Value × St} (X : CxOk z ad RX11 cX11_sign 2 (some .boolean) 3) (a0 : Nat) (x1 : Int32) (h0 : KT a0 = 11) (S : St) (r : (Int32 × St)) (ho : o = (some (.int r.1), r.2)) (hF : fX11_sign a0 x1 S = some r) : GW z ad o S 0 [(0, .ref (ad a0)), (1, .int x1)] [] := by
  unfold fX11_sign at hF
  refine g_aload_n X dX11_sign_0 0 rfl rfl ?_
  refine g_iload_n X dX11_sign_1 1 rfl rfl ?_
  refine g_callVi (As := [.int x1]) X dX11_sign_2 mlX11_164 (fun l D cyy => tX11_isSign (cx_inj X) l D cyy a0 x1 h0 S) h0 (by decide) rfl rfl (Nat.le_of_ble_eq_true rfl) ?_
  refine g_if_ne (tgt := 14) X dX11_sign_5 (by decide) (fun c_1 => ?_) (fun c_1 => ?_)
  · rw [if_neg c_1] at hF
    refine g_aload_n X dX11_sign_14 0 rfl rfl ?_
    obtain ⟨r_2, q_3, hF⟩ := obind hF
    refine g_callVv (As := []) X dX11_sign_15 mlX11_170 (fun l D cyy => tX11_step (cx_inj X) l D cyy a0 h0 S r_2 q_3) h0 (by decide) rfl rfl (Nat.le_of_ble_eq_true rfl) ?_
    refine g_iconst (v := 1) X dX11_sign_18 (by decide) ?_
    have hF := Option.some.inj hF
    subst hF
    exact g_zret X dX11_sign_19 (by decide) ho
  · rw [if_pos c_1] at hF
    refine g_aload_n X dX11_sign_8 0 rfl rfl ?_
    refine g_iconst (v := 1) X dX11_sign_9 (by decide) ?_
    refine g_callVi (As := [.int (1 : Int32)]) X dX11_sign_10 mlX11_167 (fun l D cyy => tX11_bad (cx_inj X) l D cyy a0 (1 : Int32) h0 S) h0 (by decide) rfl rfl (Nat.le_of_ble_eq_true rfl) ?_
    exact g_perm [] rfl (wX11_sign_s13 X a0 x1 h0 ((fX11_bad a0 (1 : Int32) S).1) ((fX11_bad a0 (1 : Int32) S).2) r ho hF)
theorem tX11_sign {ad : Nat → Nat} (hI : Inj ad) (l : Launch) (D : va_G) (cyy : Nat → ClassId) (a0 : Nat) (x1 : Int32) (h0 : KT a0 = 11) (S : St) (r : (Int32 × St)) (hF : fX11_sign a0 x1 S = some r) : OkM l yX11_sign cX11_sign 2 (some .boolean) 3 ad D cyy [.ref (ad a0), .int x1] S (some (.int r.1), r.2) := okM_of hI (by decide) (inr_20 _ (List.mem_of_getElem? (i := 17) rfl)) (by show _ ≤ 2; exact Nat.le_of_ble_eq_true rfl) (fun z X => wX11_sign X a0 x1 h0 S r rfl hF)
def fX11_isName_s16 (k16 : Int32 → Int32 → Option Int32) (a0 : Nat) (y1 : Int32) (y2 : Int32)  (S : St) : Option Int32 :=
  if (19 : Int32) ≤ y2 then (some (vp_nar .boolean y1)) else
  (if y1 = 0 then (k16 (0 : Int32) (y2 + (1 : Int32))) else
  (if (y2 < 0 ∨ 19 ≤ y2.toNatClampNeg) then none else
  if (lg_cmp (gJ S 11 17 a0) (gB S 33 (a0 + 6) y2.toNatClampNeg)) = 0 then (k16 (0 : Int32) (y2 + (1 : Int32))) else
  (k16 (1 : Int32) (y2 + (1 : Int32)))))
def fX11_isName_h16 (a0 : Nat) : Nat → Int32 → Int32 → St → Option Int32
  | 0, _, _, _ => none
  | n + 1, y1, y2, S => fX11_isName_s16 (fun y1 y2 => fX11_isName_h16 a0 n y1 y2 S) a0 y1 y2 S
def fX11_isName (a0 : Nat) (S : St) : Option Int32 :=
  if (gI S 11 11 a0) = (1 : Int32) then (fX11_isName_h16 a0 NN (1 : Int32) (0 : Int32) S) else
  (fX11_isName_h16 a0 NN (0 : Int32) (0 : Int32) S)
theorem wX11_isName_s16 {z : Mx} {ad : Nat → Nat} {o : Option Value × St} (X : CxOk z ad RX11 cX11_isName 3 (some .boolean) 1) (a0 : Nat) (h0 : KT a0 = 11) (y1 : Int32) (y2 : Int32)  (k16 : Int32 → Int32 → Option Int32)   (S : St) (r : Int32) (ho : o = (some (.int r), S)) (hk16 : ∀ (y1 : Int32) (y2 : Int32), k16 y1 y2 = some r → GW z ad o S 16 [(0, .ref (ad a0)), (1, .int y1), (2, .int y2)] []) (hF : fX11_isName_s16 k16 a0 y1 y2  S = some r) : GW z ad o S 16 [(0, .ref (ad a0)), (1, .int y1), (2, .int y2)] [] := by
  unfold fX11_isName_s16 at hF
  refine g_iload_n X dX11_isName_16 2 rfl rfl ?_
  refine g_bipush (v := 19) X dX11_isName_17 (by decide) ?_
  refine g_icmp_ge (tgt := 52) X dX11_isName_19 (by decide) (fun c_2 => ?_) (fun c_2 => ?_)
  · rw [if_pos c_2] at hF
    refine g_iload_n X dX11_isName_52 1 rfl rfl ?_
    have hF := Option.some.inj hF
    subst hF
    exact g_zretN X dX11_isName_53 ho
  · rw [if_neg c_2] at hF
    refine g_iload_n X dX11_isName_22 1 rfl rfl ?_
    refine g_if_eq (tgt := 44) X dX11_isName_23 (by decide) (fun c_3 => ?_) (fun c_3 => ?_)
    · rw [if_pos c_3] at hF
      refine g_iconst (v := 0) X dX11_isName_44 (by decide) ?_
      refine g_istore_n X dX11_isName_45 rfl (by decide) (lv' := [(1, .int (0 : Int32)), (0, .ref (ad a0)), (2, .int y2)]) rfl ?_
      refine g_iinc (v := (y2 + (1 : Int32))) X dX11_isName_46 2 rfl rfl (by decide) (lv' := [(2, .int (y2 + (1 : Int32))), (1, .int (0 : Int32)), (0, .ref (ad a0))]) rfl ?_
      refine g_goto (tgt := 16) X dX11_isName_49 (by decide) ?_
      exact g_perm [2, 1, 0] rfl (hk16 (0 : Int32) (y2 + (1 : Int32)) hF)
    · rw [if_neg c_3] at hF
      refine g_aload_n X dX11_isName_26 0 rfl rfl ?_
      refine g_getJ X dX11_isName_27 flX11_154 rfl h0 ?_
      refine g_aload_n X dX11_isName_30 0 rfl rfl ?_
      refine g_getR (f := 6) X dX11_isName_31 flX11_47 rfl rfl h0 ?_
      refine g_iload_n X dX11_isName_34 2 rfl rfl ?_
      obtain ⟨e_4, hF⟩ := oguard hF
      refine g_lald X dX11_isName_35 kd_33 (on_11_10 h0) e_4 ?_
      refine g_lcmp X dX11_isName_36 ?_
      refine g_if_eq (tgt := 44) X dX11_isName_37 (by decide) (fun c_5 => ?_) (fun c_5 => ?_)
      · rw [if_pos c_5] at hF
        refine g_iconst (v := 0) X dX11_isName_44 (by decide) ?_
        refine g_istore_n X dX11_isName_45 rfl (by decide) (lv' := [(1, .int (0 : Int32)), (0, .ref (ad a0)), (2, .int y2)]) rfl ?_
        refine g_iinc (v := (y2 + (1 : Int32))) X dX11_isName_46 2 rfl rfl (by decide) (lv' := [(2, .int (y2 + (1 : Int32))), (1, .int (0 : Int32)), (0, .ref (ad a0))]) rfl ?_
        refine g_goto (tgt := 16) X dX11_isName_49 (by decide) ?_
        exact g_perm [2, 1, 0] rfl (hk16 (0 : Int32) (y2 + (1 : Int32)) hF)
      · rw [if_neg c_5] at hF
        refine g_iconst (v := 1) X dX11_isName_40 (by decide) ?_
        refine g_goto (tgt := 45) X dX11_isName_41 (by decide) ?_
        refine g_istore_n X dX11_isName_45 rfl (by decide) (lv' := [(1, .int (1 : Int32)), (0, .ref (ad a0)), (2, .int y2)]) rfl ?_
        refine g_iinc (v := (y2 + (1 : Int32))) X dX11_isName_46 2 rfl rfl (by decide) (lv' := [(2, .int (y2 + (1 : Int32))), (1, .int (1 : Int32)), (0, .ref (ad a0))]) rfl ?_
        refine g_goto (tgt := 16) X dX11_isName_49 (by decide) ?_
        exact g_perm [2, 1, 0] rfl (hk16 (1 : Int32) (y2 + (1 : Int32)) hF)
theorem wX11_isName_h16 {z : Mx} {ad : Nat → Nat} {o : Option Value × St} (X : CxOk z ad RX11 cX11_isName 3 (some .boolean) 1) (a0 : Nat) (h0 : KT a0 = 11)  (S : St) (r : Int32) (ho : o = (some (.int r), S)) : ∀ (n : Nat) (y1 : Int32) (y2 : Int32), fX11_isName_h16 a0 n y1 y2 S = some r → GW z ad o S 16 [(0, .ref (ad a0)), (1, .int y1), (2, .int y2)] [] := by
  intro n
  induction n with
  | zero => intro y1 y2  hF; cases hF
  | succ n ih => intro y1 y2  hF; exact wX11_isName_s16 X a0 h0 y1 y2 (fun y1 y2 => fX11_isName_h16 a0 n y1 y2 S)  S r ho (fun y1 y2 hF => ih y1 y2  hF) hF
theorem wX11_isName {z : Mx} {ad : Nat → Nat} {o : Option Value × St} (X : CxOk z ad RX11 cX11_isName 3 (some .boolean) 1) (a0 : Nat) (h0 : KT a0 = 11) (S : St) (r : Int32) (ho : o = (some (.int r), S)) (hF : fX11_isName a0 S = some r) : GW z ad o S 0 [(0, .ref (ad a0))] [] := by
  unfold fX11_isName at hF
  refine g_aload_n X dX11_isName_0 0 rfl rfl ?_
  refine g_getI X dX11_isName_1 flX11_141 rfl h0 ?_
  refine g_iconst (v := 1) X dX11_isName_4 (by decide) ?_
  refine g_icmp_ne (tgt := 12) X dX11_isName_5 (by decide) (fun c_1 => ?_) (fun c_1 => ?_)
  · rw [if_neg c_1] at hF
    refine g_iconst (v := 0) X dX11_isName_12 (by decide) ?_
    refine g_istore_n X dX11_isName_13 rfl (by decide) (lv' := [(1, .int (0 : Int32)), (0, .ref (ad a0))]) rfl ?_
    refine g_iconst (v := 0) X dX11_isName_14 (by decide) ?_
    refine g_istore_n X dX11_isName_15 rfl (by decide) (lv' := [(2, .int (0 : Int32)), (1, .int (0 : Int32)), (0, .ref (ad a0))]) rfl ?_
    exact g_perm [2, 1, 0] rfl (wX11_isName_h16 X a0 h0 S r ho NN (0 : Int32) (0 : Int32) hF)
  · rw [if_pos c_1] at hF
    refine g_iconst (v := 1) X dX11_isName_8 (by decide) ?_
    refine g_goto (tgt := 13) X dX11_isName_9 (by decide) ?_
    refine g_istore_n X dX11_isName_13 rfl (by decide) (lv' := [(1, .int (1 : Int32)), (0, .ref (ad a0))]) rfl ?_
    refine g_iconst (v := 0) X dX11_isName_14 (by decide) ?_
    refine g_istore_n X dX11_isName_15 rfl (by decide) (lv' := [(2, .int (0 : Int32)), (1, .int (1 : Int32)), (0, .ref (ad a0))]) rfl ?_
    exact g_perm [2, 1, 0] rfl (wX11_isName_h16 X a0 h0 S r ho NN (1 : Int32) (0 : Int32) hF)
theorem tX11_isName {ad : Nat → Nat} (hI : Inj ad) (l : Launch) (D : va_G) (cyy : Nat → ClassId) (a0 : Nat) (h0 : KT a0 = 11) (S : St) (r : Int32) (hF : fX11_isName a0 S = some r) : OkM l yX11_isName cX11_isName 3 (some .boolean) 1 ad D cyy [.ref (ad a0)] S (some (.int r), S) := okM_of hI (by decide) (inr_19 _ (List.mem_of_getElem? (i := 5) rfl)) (by show _ ≤ 3; exact Nat.le_of_ble_eq_true rfl) (fun z X => wX11_isName X a0 h0 S r rfl hF)
def fX11_takes_s40 (a0 : Nat) (x1 : Int32) (x2 : Int32)   (S : St) : Option (Int32 × St) :=
  (fX11_step a0 S).bind fun r_3 =>
  some ((1 : Int32), r_3)
def fX11_takes_s31 (a0 : Nat) (x1 : Int32) (x2 : Int32)  (t0 : Int32) (S : St) : Option (Int32 × St) :=
  some ((vp_nar .boolean t0), S)
def fX11_takes_s13 (a0 : Nat) (x1 : Int32) (x2 : Int32)  (t0 : Int32) (S : St) : Option (Int32 × St) :=
  some ((vp_nar .boolean t0), S)
def fX11_takes (a0 : Nat) (x1 : Int32) (x2 : Int32) (S : St) : Option (Int32 × St) :=
  if (gI S 11 11 a0) = (2 : Int32) then (if (fX11_isIn (gI S 11 14 a0) x1 x2 S) = 0 then (fX11_takes_s31 a0 x1 x2 ((fX11_bad a0 (2 : Int32) S).1) ((fX11_bad a0 (2 : Int32) S).2)) else
  (fX11_takes_s40 a0 x1 x2 (sI S 11 18 a0 (gI S 11 14 a0)))) else
  (fX11_takes_s13 a0 x1 x2 ((fX11_bad a0 (1 : Int32) S).1) ((fX11_bad a0 (1 : Int32) S).2))
theorem wX11_takes_s40 {z : Mx} {ad : Nat → Nat} {o : Option Value × St} (X : CxOk z ad RX11 cX11_takes 3 (some .boolean) 3) (a0 : Nat) (x1 : Int32) (x2 : Int32) (h0 : KT a0 = 11)     (S : St) (r : (Int32 × St)) (ho : o = (some (.int r.1), r.2)) (hF : fX11_takes_s40 a0 x1 x2   S = some r) : GW z ad o S 40 [(0, .ref (ad a0))] [] := by
  unfold fX11_takes_s40 at hF
  refine g_aload_n X dX11_takes_40 0 rfl rfl ?_
  obtain ⟨r_3, q_4, hF⟩ := obind hF
  refine g_callVv (As := []) X dX11_takes_41 mlX11_170 (fun l D cyy => tX11_step (cx_inj X) l D cyy a0 h0 S r_3 q_4) h0 (by decide) rfl rfl (Nat.le_of_ble_eq_true rfl) ?_
  refine g_iconst (v := 1) X dX11_takes_44 (by decide) ?_
  have hF := Option.some.inj hF
  subst hF
  exact g_zret X dX11_takes_45 (by decide) ho
theorem wX11_takes_s31 {z : Mx} {ad : Nat → Nat} {o : Option Value × St} (X : CxOk z ad RX11 cX11_takes 3 (some .boolean) 3) (a0 : Nat) (x1 : Int32) (x2 : Int32) (h0 : KT a0 = 11)  (t0 : Int32)   (S : St) (r : (Int32 × St)) (ho : o = (some (.int r.1), r.2)) (hF : fX11_takes_s31 a0 x1 x2  t0 S = some r) : GW z ad o S 31 [] [.int t0] := by
  unfold fX11_takes_s31 at hF
  have hF := Option.some.inj hF
  subst hF
  exact g_zretN X dX11_takes_31 ho
theorem wX11_takes_s13 {z : Mx} {ad : Nat → Nat} {o : Option Value × St} (X : CxOk z ad RX11 cX11_takes 3 (some .boolean) 3) (a0 : Nat) (x1 : Int32) (x2 : Int32) (h0 : KT a0 = 11)  (t0 : Int32)   (S : St) (r : (Int32 × St)) (ho : o = (some (.int r.1), r.2)) (hF : fX11_takes_s13 a0 x1 x2  t0 S = some r) : GW z ad o S 13 [] [.int t0] := by
  unfold fX11_takes_s13 at hF
  have hF := Option.some.inj hF
  subst hF
  exact g_zretN X dX11_takes_13 ho
theorem wX11_takes {z : Mx} {ad : Nat → Nat} {o : Option Value × St} (X : CxOk z ad RX11 cX11_takes 3 (some .boolean) 3) (a0 : Nat) (x1 : Int32) (x2 : Int32) (h0 : KT a0 = 11) (S : St) (r : (Int32 × St)) (ho : o = (some (.int r.1), r.2)) (hF : fX11_takes a0 x1 x2 S = some r) : GW z ad o S 0 [(0, .ref (ad a0)), (1, .int x1), (2, .int x2)] [] := by
  unfold fX11_takes at hF
  refine g_aload_n X dX11_takes_0 0 rfl rfl ?_
  refine g_getI X dX11_takes_1 flX11_141 rfl h0 ?_
  refine g_iconst (v := 2) X dX11_takes_4 (by decide) ?_
  refine g_icmp_eq (tgt := 14) X dX11_takes_5 (by decide) (fun c_1 => ?_) (fun c_1 => ?_)
  · rw [if_pos c_1] at hF
    refine g_aload_n X dX11_takes_14 0 rfl rfl ?_
    refine g_getI X dX11_takes_15 flX11_151 rfl h0 ?_
    refine g_iload_n X dX11_takes_18 1 rfl rfl ?_
    refine g_iload_n X dX11_takes_19 2 rfl rfl ?_
    refine g_callSi (As := [.int (gI S 11 14 a0), .int x1, .int x2]) X dX11_takes_20 mlX11_173 (fun l D cyy => tX11_isIn (cx_inj X) l D cyy (gI S 11 14 a0) x1 x2  S) (by decide) rfl rfl (Nat.le_of_ble_eq_true rfl) ?_
    refine g_if_ne (tgt := 32) X dX11_takes_23 (by decide) (fun c_2 => ?_) (fun c_2 => ?_)
    · rw [if_neg c_2] at hF
      refine g_aload_n X dX11_takes_32 0 rfl rfl ?_
      refine g_aload_n X dX11_takes_33 0 rfl rfl ?_
      refine g_getI X dX11_takes_34 flX11_151 rfl h0 ?_
      refine g_putI X dX11_takes_37 fpX11_177 rfl rfl rfl h0 ?_
      exact g_perm [0] rfl (wX11_takes_s40 X a0 x1 x2 h0 (sI S 11 18 a0 (gI S 11 14 a0)) r ho hF)
    · rw [if_pos c_2] at hF
      refine g_aload_n X dX11_takes_26 0 rfl rfl ?_
      refine g_iconst (v := 2) X dX11_takes_27 (by decide) ?_
      refine g_callVi (As := [.int (2 : Int32)]) X dX11_takes_28 mlX11_167 (fun l D cyy => tX11_bad (cx_inj X) l D cyy a0 (2 : Int32) h0 S) h0 (by decide) rfl rfl (Nat.le_of_ble_eq_true rfl) ?_
      exact g_perm [] rfl (wX11_takes_s31 X a0 x1 x2 h0 ((fX11_bad a0 (2 : Int32) S).1) ((fX11_bad a0 (2 : Int32) S).2) r ho hF)
  · rw [if_neg c_1] at hF
    refine g_aload_n X dX11_takes_8 0 rfl rfl ?_
    refine g_iconst (v := 1) X dX11_takes_9 (by decide) ?_
    refine g_callVi (As := [.int (1 : Int32)]) X dX11_takes_10 mlX11_167 (fun l D cyy => tX11_bad (cx_inj X) l D cyy a0 (1 : Int32) h0 S) h0 (by decide) rfl rfl (Nat.le_of_ble_eq_true rfl) ?_
    exact g_perm [] rfl (wX11_takes_s13 X a0 x1 x2 h0 ((fX11_bad a0 (1 : Int32) S).1) ((fX11_bad a0 (1 : Int32) S).2) r ho hF)
theorem tX11_takes {ad : Nat → Nat} (hI : Inj ad) (l : Launch) (D : va_G) (cyy : Nat → ClassId) (a0 : Nat) (x1 : Int32) (x2 : Int32) (h0 : KT a0 = 11) (S : St) (r : (Int32 × St)) (hF : fX11_takes a0 x1 x2 S = some r) : OkM l yX11_takes cX11_takes 3 (some .boolean) 3 ad D cyy [.ref (ad a0), .int x1, .int x2] S (some (.int r.1), r.2) := okM_of hI (by decide) (inr_19 _ (List.mem_of_getElem? (i := 18) rfl)) (by show _ ≤ 3; exact Nat.le_of_ble_eq_true rfl) (fun z X => wX11_takes X a0 x1 x2 h0 S r rfl hF)
def fX11_puts_s21 (a0 : Nat) (x1 : Int32) (x2 : Int32) (x3 : Int32)   (S : St) : Option (Int32 × St) :=
  some ((1 : Int32), S)
def fX11_puts_s6 (a0 : Nat) (x1 : Int32) (x2 : Int32) (x3 : Int32)  (t0 : Int32) (S : St) : Option (Int32 × St) :=
  if t0 = 0 then (some ((0 : Int32), S)) else
  (if (x1 < 0 ∨ 52 ≤ x1.toNatClampNeg) then none else
  fX11_puts_s21 a0 x1 x2 x3 (sA S 30 (a0 + 3) x1.toNatClampNeg (gI S 11 18 a0)))
def fX11_puts (a0 : Nat) (x1 : Int32) (x2 : Int32) (x3 : Int32) (S : St) : Option (Int32 × St) :=
  (fX11_takes a0 x2 x3 S).bind fun r_1 =>
  fX11_puts_s6 a0 x1 x2 x3 r_1.1 r_1.2
theorem wX11_puts_s21 {z : Mx} {ad : Nat → Nat} {o : Option Value × St} (X : CxOk z ad RX11 cX11_puts 4 (some .boolean) 4) (a0 : Nat) (x1 : Int32) (x2 : Int32) (x3 : Int32) (h0 : KT a0 = 11)     (S : St) (r : (Int32 × St)) (ho : o = (some (.int r.1), r.2)) (hF : fX11_puts_s21 a0 x1 x2 x3   S = some r) : GW z ad o S 21 [] [] := by
  unfold fX11_puts_s21 at hF
  refine g_iconst (v := 1) X dX11_puts_21 (by decide) ?_
  have hF := Option.some.inj hF
  subst hF
  exact g_zret X dX11_puts_22 (by decide) ho
theorem wX11_puts_s6 {z : Mx} {ad : Nat → Nat} {o : Option Value × St} (X : CxOk z ad RX11 cX11_puts 4 (some .boolean) 4) (a0 : Nat) (x1 : Int32) (x2 : Int32) (x3 : Int32) (h0 : KT a0 = 11)  (t0 : Int32)   (S : St) (r : (Int32 × St)) (ho : o = (some (.int r.1), r.2)) (hF : fX11_puts_s6 a0 x1 x2 x3  t0 S = some r) : GW z ad o S 6 [(0, .ref (ad a0)), (1, .int x1)] [.int t0] := by
  unfold fX11_puts_s6 at hF
  refine g_if_ne (tgt := 11) X dX11_puts_6 (by decide) (fun c_3 => ?_) (fun c_3 => ?_)
  · rw [if_neg c_3] at hF
    refine g_aload_n X dX11_puts_11 0 rfl rfl ?_
    refine g_getR (f := 3) X dX11_puts_12 flX11_37 rfl rfl h0 ?_
    refine g_iload_n X dX11_puts_15 1 rfl rfl ?_
    refine g_aload_n X dX11_puts_16 0 rfl rfl ?_
    refine g_getI X dX11_puts_17 flX11_177 rfl h0 ?_
    obtain ⟨e_4, hF⟩ := oguard hF
    refine g_iast X dX11_puts_20 kd_30 (on_11_7 h0) e_4 ?_
    exact g_perm [] rfl (wX11_puts_s21 X a0 x1 x2 x3 h0 (sA S 30 (a0 + 3) x1.toNatClampNeg (gI S 11 18 a0)) r ho hF)
  · rw [if_pos c_3] at hF
    refine g_iconst (v := 0) X dX11_puts_9 (by decide) ?_
    have hF := Option.some.inj hF
    subst hF
    exact g_zret X dX11_puts_10 (by decide) ho
theorem wX11_puts {z : Mx} {ad : Nat → Nat} {o : Option Value × St} (X : CxOk z ad RX11 cX11_puts 4 (some .boolean) 4) (a0 : Nat) (x1 : Int32) (x2 : Int32) (x3 : Int32) (h0 : KT a0 = 11) (S : St) (r : (Int32 × St)) (ho : o = (some (.int r.1), r.2)) (hF : fX11_puts a0 x1 x2 x3 S = some r) : GW z ad o S 0 [(0, .ref (ad a0)), (1, .int x1), (2, .int x2), (3, .int x3)] [] := by
  unfold fX11_puts at hF
  refine g_aload_n X dX11_puts_0 0 rfl rfl ?_
  refine g_iload_n X dX11_puts_1 2 rfl rfl ?_
  refine g_iload_n X dX11_puts_2 3 rfl rfl ?_
  obtain ⟨r_1, q_2, hF⟩ := obind hF
  refine g_callVi (As := [.int x2, .int x3]) X dX11_puts_3 mlX11_180 (fun l D cyy => tX11_takes (cx_inj X) l D cyy a0 x2 x3 h0 S r_1 q_2) h0 (by decide) rfl rfl (Nat.le_of_ble_eq_true rfl) ?_
  exact g_perm [0, 1] rfl (wX11_puts_s6 X a0 x1 x2 x3 h0 r_1.1 r_1.2 r ho hF)
theorem tX11_puts {ad : Nat → Nat} (hI : Inj ad) (l : Launch) (D : va_G) (cyy : Nat → ClassId) (a0 : Nat) (x1 : Int32) (x2 : Int32) (x3 : Int32) (h0 : KT a0 = 11) (S : St) (r : (Int32 × St)) (hF : fX11_puts a0 x1 x2 x3 S = some r) : OkM l yX11_puts cX11_puts 4 (some .boolean) 4 ad D cyy [.ref (ad a0), .int x1, .int x2, .int x3] S (some (.int r.1), r.2) := okM_of hI (by decide) (inr_19 _ (List.mem_of_getElem? (i := 13) rfl)) (by show _ ≤ 4; exact Nat.le_of_ble_eq_true rfl) (fun z X => wX11_puts X a0 x1 x2 x3 h0 S r rfl hF)
def fX11_seek_s2 (k2 : Int32 → Option Int32) (a0 : Nat) (x1 : Int32) (x2 : Int32) (y3 : Int32)  (S : St) : Option Int32 :=
  if x2 ≤ y3 then (some (-1 : Int32)) else
  (if ((x1 + y3) < 0 ∨ 22 ≤ (x1 + y3).toNatClampNeg) then none else
  if (lg_cmp (gB S 32 (a0 + 5) ((x1 + y3).toNatClampNeg)) (gJ S 11 17 a0)) = 0 then (some y3) else
  (k2 (y3 + (1 : Int32))))
def fX11_seek_h2 (a0 : Nat) (x1 : Int32) (x2 : Int32) : Nat → Int32 → St → Option Int32
  | 0, _, _ => none
  | n + 1, y3, S => fX11_seek_s2 (fun y3 => fX11_seek_h2 a0 x1 x2 n y3 S) a0 x1 x2 y3 S
def fX11_seek (a0 : Nat) (x1 : Int32) (x2 : Int32) (S : St) : Option Int32 :=
  fX11_seek_h2 a0 x1 x2 NN (0 : Int32) S
theorem wX11_seek_s2 {z : Mx} {ad : Nat → Nat} {o : Option Value × St} (X : CxOk z ad RX11 cX11_seek 4 (some .int) 1) (a0 : Nat) (x1 : Int32) (x2 : Int32) (h0 : KT a0 = 11) (y3 : Int32)  (k2 : Int32 → Option Int32)   (S : St) (r : Int32) (ho : o = (some (.int r), S)) (hk2 : ∀ (y3 : Int32), k2 y3 = some r → GW z ad o S 2 [(0, .ref (ad a0)), (1, .int x1), (2, .int x2), (3, .int y3)] []) (hF : fX11_seek_s2 k2 a0 x1 x2 y3  S = some r) : GW z ad o S 2 [(0, .ref (ad a0)), (1, .int x1), (2, .int x2), (3, .int y3)] [] := by
  unfold fX11_seek_s2 at hF
  refine g_iload_n X dX11_seek_2 3 rfl rfl ?_
  refine g_iload_n X dX11_seek_3 2 rfl rfl ?_
  refine g_icmp_ge (tgt := 31) X dX11_seek_4 (by decide) (fun c_1 => ?_) (fun c_1 => ?_)
  · rw [if_pos c_1] at hF
    refine g_iconst (v := -1) X dX11_seek_31 (by decide) ?_
    have hF := Option.some.inj hF
    subst hF
    exact g_iret X dX11_seek_32 ho
  · rw [if_neg c_1] at hF
    refine g_aload_n X dX11_seek_7 0 rfl rfl ?_
    refine g_getR (f := 5) X dX11_seek_8 flX11_43 rfl rfl h0 ?_
    refine g_iload_n X dX11_seek_11 1 rfl rfl ?_
    refine g_iload_n X dX11_seek_12 3 rfl rfl ?_
    refine g_iadd X dX11_seek_13 ?_
    obtain ⟨e_2, hF⟩ := oguard hF
    refine g_lald X dX11_seek_14 kd_32 (on_11_9 h0) e_2 ?_
    refine g_aload_n X dX11_seek_15 0 rfl rfl ?_
    refine g_getJ X dX11_seek_16 flX11_154 rfl h0 ?_
    refine g_lcmp X dX11_seek_19 ?_
    refine g_if_ne (tgt := 25) X dX11_seek_20 (by decide) (fun c_3 => ?_) (fun c_3 => ?_)
    · rw [if_neg c_3] at hF
      refine g_iinc (v := (y3 + (1 : Int32))) X dX11_seek_25 3 rfl rfl (by decide) (lv' := [(3, .int (y3 + (1 : Int32))), (0, .ref (ad a0)), (1, .int x1), (2, .int x2)]) rfl ?_
      refine g_goto (tgt := 2) X dX11_seek_28 (by decide) ?_
      exact g_perm [1, 2, 3, 0] rfl (hk2 (y3 + (1 : Int32)) hF)
    · rw [if_pos c_3] at hF
      refine g_iload_n X dX11_seek_23 3 rfl rfl ?_
      have hF := Option.some.inj hF
      subst hF
      exact g_iret X dX11_seek_24 ho
theorem wX11_seek_h2 {z : Mx} {ad : Nat → Nat} {o : Option Value × St} (X : CxOk z ad RX11 cX11_seek 4 (some .int) 1) (a0 : Nat) (x1 : Int32) (x2 : Int32) (h0 : KT a0 = 11)  (S : St) (r : Int32) (ho : o = (some (.int r), S)) : ∀ (n : Nat) (y3 : Int32), fX11_seek_h2 a0 x1 x2 n y3 S = some r → GW z ad o S 2 [(0, .ref (ad a0)), (1, .int x1), (2, .int x2), (3, .int y3)] [] := by
  intro n
  induction n with
  | zero => intro y3  hF; cases hF
  | succ n ih => intro y3  hF; exact wX11_seek_s2 X a0 x1 x2 h0 y3 (fun y3 => fX11_seek_h2 a0 x1 x2 n y3 S)  S r ho (fun y3 hF => ih y3  hF) hF
theorem wX11_seek {z : Mx} {ad : Nat → Nat} {o : Option Value × St} (X : CxOk z ad RX11 cX11_seek 4 (some .int) 1) (a0 : Nat) (x1 : Int32) (x2 : Int32) (h0 : KT a0 = 11) (S : St) (r : Int32) (ho : o = (some (.int r), S)) (hF : fX11_seek a0 x1 x2 S = some r) : GW z ad o S 0 [(0, .ref (ad a0)), (1, .int x1), (2, .int x2)] [] := by
  unfold fX11_seek at hF
  refine g_iconst (v := 0) X dX11_seek_0 (by decide) ?_
  refine g_istore_n X dX11_seek_1 rfl (by decide) (lv' := [(3, .int (0 : Int32)), (0, .ref (ad a0)), (1, .int x1), (2, .int x2)]) rfl ?_
  exact g_perm [1, 2, 3, 0] rfl (wX11_seek_h2 X a0 x1 x2 h0 S r ho NN (0 : Int32) hF)
theorem tX11_seek {ad : Nat → Nat} (hI : Inj ad) (l : Launch) (D : va_G) (cyy : Nat → ClassId) (a0 : Nat) (x1 : Int32) (x2 : Int32) (h0 : KT a0 = 11) (S : St) (r : Int32) (hF : fX11_seek a0 x1 x2 S = some r) : OkM l yX11_seek cX11_seek 4 (some .int) 1 ad D cyy [.ref (ad a0), .int x1, .int x2] S (some (.int r), S) := okM_of hI (by decide) (inr_19 _ (List.mem_of_getElem? (i := 9) rfl)) (by show _ ≤ 4; exact Nat.le_of_ble_eq_true rfl) (fun z X => wX11_seek X a0 x1 x2 h0 S r rfl hF)
def fX11_fresh_s48 (a0 : Nat) (x1 : Int32)  (t0 : Int32) (S : St) : Option (Int32 × St) :=
  some ((vp_nar .boolean t0), S)
def fX11_fresh_s43 (a0 : Nat) (x1 : Int32)   (S : St) : Option (Int32 × St) :=
  fX11_fresh_s48 a0 x1 ((fX11_bad a0 (3 : Int32) S).1) ((fX11_bad a0 (3 : Int32) S).2)
def fX11_fresh_s59 (a0 : Nat) (x1 : Int32)   (S : St) : Option (Int32 × St) :=
  (fX11_step a0 S).bind fun r_11 =>
  some ((1 : Int32), r_11)
def fX11_fresh_s12 (a0 : Nat) (x1 : Int32)  (t0 : Int32) (S : St) : Option (Int32 × St) :=
  some ((vp_nar .boolean t0), S)
def fX11_fresh (a0 : Nat) (x1 : Int32) (S : St) : Option (Int32 × St) :=
  (fX11_isName a0 S).bind fun r_1 =>
  if r_1 = 0 then (fX11_fresh_s12 a0 x1 ((fX11_bad a0 (1 : Int32) S).1) ((fX11_bad a0 (1 : Int32) S).2)) else
  ((fX11_seek a0 (11 : Int32) (gA S 30 (a0 + 3) 0) S).bind fun r_4 =>
  if 0 ≤ r_4 then (fX11_fresh_s43 a0 x1 S) else
  ((fX11_seek a0 (16 : Int32) (gA S 30 (a0 + 3) 1) S).bind fun r_7 =>
  if r_7 < 0 then (if (x1 < 0 ∨ 22 ≤ x1.toNatClampNeg) then none else
  fX11_fresh_s59 a0 x1 (sB S 32 (a0 + 5) x1.toNatClampNeg (gJ S 11 17 a0))) else
  (fX11_fresh_s43 a0 x1 S)))
theorem wX11_fresh_s48 {z : Mx} {ad : Nat → Nat} {o : Option Value × St} (X : CxOk z ad RX11 cX11_fresh 2 (some .boolean) 3) (a0 : Nat) (x1 : Int32) (h0 : KT a0 = 11)  (t0 : Int32)   (S : St) (r : (Int32 × St)) (ho : o = (some (.int r.1), r.2)) (hF : fX11_fresh_s48 a0 x1  t0 S = some r) : GW z ad o S 48 [] [.int t0] := by
  unfold fX11_fresh_s48 at hF
  have hF := Option.some.inj hF
  subst hF
  exact g_zretN X dX11_fresh_48 ho
theorem wX11_fresh_s43 {z : Mx} {ad : Nat → Nat} {o : Option Value × St} (X : CxOk z ad RX11 cX11_fresh 2 (some .boolean) 3) (a0 : Nat) (x1 : Int32) (h0 : KT a0 = 11)     (S : St) (r : (Int32 × St)) (ho : o = (some (.int r.1), r.2)) (hF : fX11_fresh_s43 a0 x1   S = some r) : GW z ad o S 43 [(0, .ref (ad a0))] [] := by
  unfold fX11_fresh_s43 at hF
  refine g_aload_n X dX11_fresh_43 0 rfl rfl ?_
  refine g_iconst (v := 3) X dX11_fresh_44 (by decide) ?_
  refine g_callVi (As := [.int (3 : Int32)]) X dX11_fresh_45 mlX11_167 (fun l D cyy => tX11_bad (cx_inj X) l D cyy a0 (3 : Int32) h0 S) h0 (by decide) rfl rfl (Nat.le_of_ble_eq_true rfl) ?_
  exact g_perm [] rfl (wX11_fresh_s48 X a0 x1 h0 ((fX11_bad a0 (3 : Int32) S).1) ((fX11_bad a0 (3 : Int32) S).2) r ho hF)
theorem wX11_fresh_s59 {z : Mx} {ad : Nat → Nat} {o : Option Value × St} (X : CxOk z ad RX11 cX11_fresh 2 (some .boolean) 3) (a0 : Nat) (x1 : Int32) (h0 : KT a0 = 11)     (S : St) (r : (Int32 × St)) (ho : o = (some (.int r.1), r.2)) (hF : fX11_fresh_s59 a0 x1   S = some r) : GW z ad o S 59 [(0, .ref (ad a0))] [] := by
  unfold fX11_fresh_s59 at hF
  refine g_aload_n X dX11_fresh_59 0 rfl rfl ?_
  obtain ⟨r_11, q_12, hF⟩ := obind hF
  refine g_callVv (As := []) X dX11_fresh_60 mlX11_170 (fun l D cyy => tX11_step (cx_inj X) l D cyy a0 h0 S r_11 q_12) h0 (by decide) rfl rfl (Nat.le_of_ble_eq_true rfl) ?_
  refine g_iconst (v := 1) X dX11_fresh_63 (by decide) ?_
  have hF := Option.some.inj hF
  subst hF
  exact g_zret X dX11_fresh_64 (by decide) ho
theorem wX11_fresh_s12 {z : Mx} {ad : Nat → Nat} {o : Option Value × St} (X : CxOk z ad RX11 cX11_fresh 2 (some .boolean) 3) (a0 : Nat) (x1 : Int32) (h0 : KT a0 = 11)  (t0 : Int32)   (S : St) (r : (Int32 × St)) (ho : o = (some (.int r.1), r.2)) (hF : fX11_fresh_s12 a0 x1  t0 S = some r) : GW z ad o S 12 [] [.int t0] := by
  unfold fX11_fresh_s12 at hF
  have hF := Option.some.inj hF
  subst hF
  exact g_zretN X dX11_fresh_12 ho
theorem wX11_fresh {z : Mx} {ad : Nat → Nat} {o : Option Value × St} (X : CxOk z ad RX11 cX11_fresh 2 (some .boolean) 3) (a0 : Nat) (x1 : Int32) (h0 : KT a0 = 11) (S : St) (r : (Int32 × St)) (ho : o = (some (.int r.1), r.2)) (hF : fX11_fresh a0 x1 S = some r) : GW z ad o S 0 [(0, .ref (ad a0)), (1, .int x1)] [] := by
  unfold fX11_fresh at hF
  refine g_aload_n X dX11_fresh_0 0 rfl rfl ?_
  obtain ⟨r_1, q_2, hF⟩ := obind hF
  refine g_callVi (As := []) X dX11_fresh_1 mlX11_184 (fun l D cyy => tX11_isName (cx_inj X) l D cyy a0 h0 S r_1 q_2) h0 (by decide) rfl rfl (Nat.le_of_ble_eq_true rfl) ?_
  refine g_if_ne (tgt := 13) X dX11_fresh_4 (by decide) (fun c_3 => ?_) (fun c_3 => ?_)
  · rw [if_neg c_3] at hF
    refine g_aload_n X dX11_fresh_13 0 rfl rfl ?_
    refine g_bipush (v := 11) X dX11_fresh_14 (by decide) ?_
    refine g_aload_n X dX11_fresh_16 0 rfl rfl ?_
    refine g_getR (f := 3) X dX11_fresh_17 flX11_37 rfl rfl h0 ?_
    refine g_iconst (v := 0) X dX11_fresh_20 (by decide) ?_
    refine g_ialdK (j := 0) X dX11_fresh_21 kd_30 (on_11_7 h0) (by decide) (by decide) ?_
    obtain ⟨r_4, q_5, hF⟩ := obind hF
    refine g_callVi (As := [.int (11 : Int32), .int (gA S 30 (a0 + 3) 0)]) X dX11_fresh_22 mlX11_188 (fun l D cyy => tX11_seek (cx_inj X) l D cyy a0 (11 : Int32) (gA S 30 (a0 + 3) 0) h0 S r_4 q_5) h0 (by decide) rfl rfl (Nat.le_of_ble_eq_true rfl) ?_
    refine g_if_ge (tgt := 43) X dX11_fresh_25 (by decide) (fun c_6 => ?_) (fun c_6 => ?_)
    · rw [if_pos c_6] at hF
      exact g_perm [0] rfl (wX11_fresh_s43 X a0 x1 h0 S r ho hF)
    · rw [if_neg c_6] at hF
      refine g_aload_n X dX11_fresh_28 0 rfl rfl ?_
      refine g_bipush (v := 16) X dX11_fresh_29 (by decide) ?_
      refine g_aload_n X dX11_fresh_31 0 rfl rfl ?_
      refine g_getR (f := 3) X dX11_fresh_32 flX11_37 rfl rfl h0 ?_
      refine g_iconst (v := 1) X dX11_fresh_35 (by decide) ?_
      refine g_ialdK (j := 1) X dX11_fresh_36 kd_30 (on_11_7 h0) (by decide) (by decide) ?_
      obtain ⟨r_7, q_8, hF⟩ := obind hF
      refine g_callVi (As := [.int (16 : Int32), .int (gA S 30 (a0 + 3) 1)]) X dX11_fresh_37 mlX11_188 (fun l D cyy => tX11_seek (cx_inj X) l D cyy a0 (16 : Int32) (gA S 30 (a0 + 3) 1) h0 S r_7 q_8) h0 (by decide) rfl rfl (Nat.le_of_ble_eq_true rfl) ?_
      refine g_if_lt (tgt := 49) X dX11_fresh_40 (by decide) (fun c_9 => ?_) (fun c_9 => ?_)
      · rw [if_pos c_9] at hF
        refine g_aload_n X dX11_fresh_49 0 rfl rfl ?_
        refine g_getR (f := 5) X dX11_fresh_50 flX11_43 rfl rfl h0 ?_
        refine g_iload_n X dX11_fresh_53 1 rfl rfl ?_
        refine g_aload_n X dX11_fresh_54 0 rfl rfl ?_
        refine g_getJ X dX11_fresh_55 flX11_154 rfl h0 ?_
        obtain ⟨e_10, hF⟩ := oguard hF
        refine g_last X dX11_fresh_58 kd_32 (on_11_9 h0) e_10 ?_
        exact g_perm [0] rfl (wX11_fresh_s59 X a0 x1 h0 (sB S 32 (a0 + 5) x1.toNatClampNeg (gJ S 11 17 a0)) r ho hF)
      · rw [if_neg c_9] at hF
        exact g_perm [0] rfl (wX11_fresh_s43 X a0 x1 h0 S r ho hF)
  · rw [if_pos c_3] at hF
    refine g_aload_n X dX11_fresh_7 0 rfl rfl ?_
    refine g_iconst (v := 1) X dX11_fresh_8 (by decide) ?_
    refine g_callVi (As := [.int (1 : Int32)]) X dX11_fresh_9 mlX11_167 (fun l D cyy => tX11_bad (cx_inj X) l D cyy a0 (1 : Int32) h0 S) h0 (by decide) rfl rfl (Nat.le_of_ble_eq_true rfl) ?_
    exact g_perm [] rfl (wX11_fresh_s12 X a0 x1 h0 ((fX11_bad a0 (1 : Int32) S).1) ((fX11_bad a0 (1 : Int32) S).2) r ho hF)
theorem tX11_fresh {ad : Nat → Nat} (hI : Inj ad) (l : Launch) (D : va_G) (cyy : Nat → ClassId) (a0 : Nat) (x1 : Int32) (h0 : KT a0 = 11) (S : St) (r : (Int32 × St)) (hF : fX11_fresh a0 x1 S = some r) : OkM l yX11_fresh cX11_fresh 2 (some .boolean) 3 ad D cyy [.ref (ad a0), .int x1] S (some (.int r.1), r.2) := okM_of hI (by decide) (inr_19 _ (List.mem_of_getElem? (i := 1) rfl)) (by show _ ≤ 2; exact Nat.le_of_ble_eq_true rfl) (fun z X => wX11_fresh X a0 x1 h0 S r rfl hF)
def fX11_looksAt_s35 (a0 : Nat) (x1 : Int32) (x2 : Int32)  (t0 : Int32) (S : St) : Option (Int32 × St) :=
  if t0 = 0 then (some ((0 : Int32), S)) else
  (some ((1 : Int32), S))
def fX11_looksAt_s23 (a0 : Nat) (x1 : Int32) (x2 : Int32)   (S : St) : Option (Int32 × St) :=
  if 0 ≤ (gI S 11 18 a0) then (some ((1 : Int32), S)) else
  (fX11_looksAt_s35 a0 x1 x2 ((fX11_bad a0 (3 : Int32) S).1) ((fX11_bad a0 (3 : Int32) S).2))
def fX11_looksAt_s12 (a0 : Nat) (x1 : Int32) (x2 : Int32)  (t0 : Int32) (S : St) : Option (Int32 × St) :=
  some ((vp_nar .boolean t0), S)
def fX11_looksAt (a0 : Nat) (x1 : Int32) (x2 : Int32) (S : St) : Option (Int32 × St) :=
  (fX11_isName a0 S).bind fun r_1 =>
  if r_1 = 0 then (fX11_looksAt_s12 a0 x1 x2 ((fX11_bad a0 (1 : Int32) S).1) ((fX11_bad a0 (1 : Int32) S).2)) else
  ((fX11_seek a0 x1 x2 S).bind fun r_4 =>
  fX11_looksAt_s23 a0 x1 x2 (sI S 11 18 a0 r_4))
theorem wX11_looksAt_s35 {z : Mx} {ad : Nat → Nat} {o : Option Value × St} (X : CxOk z ad RX11 cX11_looksAt 3 (some .boolean) 2) (a0 : Nat) (x1 : Int32) (x2 : Int32) (h0 : KT a0 = 11)  (t0 : Int32)   (S : St) (r : (Int32 × St)) (ho : o = (some (.int r.1), r.2)) (hF : fX11_looksAt_s35 a0 x1 x2  t0 S = some r) : GW z ad o S 35 [] [.int t0] := by
  unfold fX11_looksAt_s35 at hF
  refine g_if_eq (tgt := 42) X dX11_looksAt_35 (by decide) (fun c_7 => ?_) (fun c_7 => ?_)
  · rw [if_pos c_7] at hF
    refine g_iconst (v := 0) X dX11_looksAt_42 (by decide) ?_
    have hF := Option.some.inj hF
    subst hF
    exact g_zret X dX11_looksAt_43 (by decide) ho
  · rw [if_neg c_7] at hF
    refine g_iconst (v := 1) X dX11_looksAt_38 (by decide) ?_
    refine g_goto (tgt := 43) X dX11_looksAt_39 (by decide) ?_
    have hF := Option.some.inj hF
    subst hF
    exact g_zret X dX11_looksAt_43 (by decide) ho
theorem wX11_looksAt_s23 {z : Mx} {ad : Nat → Nat} {o : Option Value × St} (X : CxOk z ad RX11 cX11_looksAt 3 (some .boolean) 2) (a0 : Nat) (x1 : Int32) (x2 : Int32) (h0 : KT a0 = 11)     (S : St) (r : (Int32 × St)) (ho : o = (some (.int r.1), r.2)) (hF : fX11_looksAt_s23 a0 x1 x2   S = some r) : GW z ad o S 23 [(0, .ref (ad a0))] [] := by
  unfold fX11_looksAt_s23 at hF
  refine g_aload_n X dX11_looksAt_23 0 rfl rfl ?_
  refine g_getI X dX11_looksAt_24 flX11_177 rfl h0 ?_
  refine g_if_ge (tgt := 38) X dX11_looksAt_27 (by decide) (fun c_6 => ?_) (fun c_6 => ?_)
  · rw [if_pos c_6] at hF
    refine g_iconst (v := 1) X dX11_looksAt_38 (by decide) ?_
    refine g_goto (tgt := 43) X dX11_looksAt_39 (by decide) ?_
    have hF := Option.some.inj hF
    subst hF
    exact g_zret X dX11_looksAt_43 (by decide) ho
  · rw [if_neg c_6] at hF
    refine g_aload_n X dX11_looksAt_30 0 rfl rfl ?_
    refine g_iconst (v := 3) X dX11_looksAt_31 (by decide) ?_
    refine g_callVi (As := [.int (3 : Int32)]) X dX11_looksAt_32 mlX11_167 (fun l D cyy => tX11_bad (cx_inj X) l D cyy a0 (3 : Int32) h0 S) h0 (by decide) rfl rfl (Nat.le_of_ble_eq_true rfl) ?_
    exact g_perm [] rfl (wX11_looksAt_s35 X a0 x1 x2 h0 ((fX11_bad a0 (3 : Int32) S).1) ((fX11_bad a0 (3 : Int32) S).2) r ho hF)
theorem wX11_looksAt_s12 {z : Mx} {ad : Nat → Nat} {o : Option Value × St} (X : CxOk z ad RX11 cX11_looksAt 3 (some .boolean) 2) (a0 : Nat) (x1 : Int32) (x2 : Int32) (h0 : KT a0 = 11)  (t0 : Int32)   (S : St) (r : (Int32 × St)) (ho : o = (some (.int r.1), r.2)) (hF : fX11_looksAt_s12 a0 x1 x2  t0 S = some r) : GW z ad o S 12 [] [.int t0] := by
  unfold fX11_looksAt_s12 at hF
  have hF := Option.some.inj hF
  subst hF
  exact g_zretN X dX11_looksAt_12 ho
theorem wX11_looksAt {z : Mx} {ad : Nat → Nat} {o : Option Value × St} (X : CxOk z ad RX11 cX11_looksAt 3 (some .boolean) 2) (a0 : Nat) (x1 : Int32) (x2 : Int32) (h0 : KT a0 = 11) (S : St) (r : (Int32 × St)) (ho : o = (some (.int r.1), r.2)) (hF : fX11_looksAt a0 x1 x2 S = some r) : GW z ad o S 0 [(0, .ref (ad a0)), (1, .int x1), (2, .int x2)] [] := by
  unfold fX11_looksAt at hF
  refine g_aload_n X dX11_looksAt_0 0 rfl rfl ?_
  obtain ⟨r_1, q_2, hF⟩ := obind hF
  refine g_callVi (As := []) X dX11_looksAt_1 mlX11_184 (fun l D cyy => tX11_isName (cx_inj X) l D cyy a0 h0 S r_1 q_2) h0 (by decide) rfl rfl (Nat.le_of_ble_eq_true rfl) ?_
  refine g_if_ne (tgt := 13) X dX11_looksAt_4 (by decide) (fun c_3 => ?_) (fun c_3 => ?_)
  · rw [if_neg c_3] at hF
    refine g_aload_n X dX11_looksAt_13 0 rfl rfl ?_
    refine g_aload_n X dX11_looksAt_14 0 rfl rfl ?_
    refine g_iload_n X dX11_looksAt_15 1 rfl rfl ?_
    refine g_iload_n X dX11_looksAt_16 2 rfl rfl ?_
    obtain ⟨r_4, q_5, hF⟩ := obind hF
    refine g_callVi (As := [.int x1, .int x2]) X dX11_looksAt_17 mlX11_188 (fun l D cyy => tX11_seek (cx_inj X) l D cyy a0 x1 x2 h0 S r_4 q_5) h0 (by decide) rfl rfl (Nat.le_of_ble_eq_true rfl) ?_
    refine g_putI X dX11_looksAt_20 fpX11_177 rfl rfl rfl h0 ?_
    exact g_perm [0] rfl (wX11_looksAt_s23 X a0 x1 x2 h0 (sI S 11 18 a0 r_4) r ho hF)
  · rw [if_pos c_3] at hF
    refine g_aload_n X dX11_looksAt_7 0 rfl rfl ?_
    refine g_iconst (v := 1) X dX11_looksAt_8 (by decide) ?_
    refine g_callVi (As := [.int (1 : Int32)]) X dX11_looksAt_9 mlX11_167 (fun l D cyy => tX11_bad (cx_inj X) l D cyy a0 (1 : Int32) h0 S) h0 (by decide) rfl rfl (Nat.le_of_ble_eq_true rfl) ?_
    exact g_perm [] rfl (wX11_looksAt_s12 X a0 x1 x2 h0 ((fX11_bad a0 (1 : Int32) S).1) ((fX11_bad a0 (1 : Int32) S).2) r ho hF)
theorem tX11_looksAt {ad : Nat → Nat} (hI : Inj ad) (l : Launch) (D : va_G) (cyy : Nat → ClassId) (a0 : Nat) (x1 : Int32) (x2 : Int32) (h0 : KT a0 = 11) (S : St) (r : (Int32 × St)) (hF : fX11_looksAt a0 x1 x2 S = some r) : OkM l yX11_looksAt cX11_looksAt 3 (some .boolean) 2 ad D cyy [.ref (ad a0), .int x1, .int x2] S (some (.int r.1), r.2) := okM_of hI (by decide) (inr_20 _ (List.mem_of_getElem? (i := 5) rfl)) (by show _ ≤ 3; exact Nat.le_of_ble_eq_true rfl) (fun z X => wX11_looksAt X a0 x1 x2 h0 S r rfl hF)
def fX11_takesName_s6 (a0 : Nat) (x1 : Int32) (x2 : Int32)  (t0 : Int32) (S : St) : Option (Int32 × St) :=
  if t0 = 0 then (some ((0 : Int32), S)) else
  ((fX11_step a0 S).bind fun r_4 =>
  some ((1 : Int32), r_4))
def fX11_takesName (a0 : Nat) (x1 : Int32) (x2 : Int32) (S : St) : Option (Int32 × St) :=
  (fX11_looksAt a0 x1 x2 S).bind fun r_1 =>
  fX11_takesName_s6 a0 x1 x2 r_1.1 r_1.2
theorem wX11_takesName_s6 {z : Mx} {ad : Nat → Nat} {o : Option Value × St} (X : CxOk z ad RX11 cX11_takesName 3 (some .boolean) 3) (a0 : Nat) (x1 : Int32) (x2 : Int32) (h0 : KT a0 = 11)  (t0 : Int32)   (S : St) (r : (Int32 × St)) (ho : o = (some (.int r.1), r.2)) (hF : fX11_takesName_s6 a0 x1 x2  t0 S = some r) : GW z ad o S 6 [(0, .ref (ad a0))] [.int t0] := by
  unfold fX11_takesName_s6 at hF
  refine g_if_ne (tgt := 11) X dX11_takesName_6 (by decide) (fun c_3 => ?_) (fun c_3 => ?_)
  · rw [if_neg c_3] at hF
    refine g_aload_n X dX11_takesName_11 0 rfl rfl ?_
    obtain ⟨r_4, q_5, hF⟩ := obind hF
    refine g_callVv (As := []) X dX11_takesName_12 mlX11_170 (fun l D cyy => tX11_step (cx_inj X) l D cyy a0 h0 S r_4 q_5) h0 (by decide) rfl rfl (Nat.le_of_ble_eq_true rfl) ?_
    refine g_iconst (v := 1) X dX11_takesName_15 (by decide) ?_
    have hF := Option.some.inj hF
    subst hF
    exact g_zret X dX11_takesName_16 (by decide) ho
  · rw [if_pos c_3] at hF
    refine g_iconst (v := 0) X dX11_takesName_9 (by decide) ?_
    have hF := Option.some.inj hF
    subst hF
    exact g_zret X dX11_takesName_10 (by decide) ho
theorem wX11_takesName {z : Mx} {ad : Nat → Nat} {o : Option Value × St} (X : CxOk z ad RX11 cX11_takesName 3 (some .boolean) 3) (a0 : Nat) (x1 : Int32) (x2 : Int32) (h0 : KT a0 = 11) (S : St) (r : (Int32 × St)) (ho : o = (some (.int r.1), r.2)) (hF : fX11_takesName a0 x1 x2 S = some r) : GW z ad o S 0 [(0, .ref (ad a0)), (1, .int x1), (2, .int x2)] [] := by
  unfold fX11_takesName at hF
  refine g_aload_n X dX11_takesName_0 0 rfl rfl ?_
  refine g_iload_n X dX11_takesName_1 1 rfl rfl ?_
  refine g_iload_n X dX11_takesName_2 2 rfl rfl ?_
  obtain ⟨r_1, q_2, hF⟩ := obind hF
  refine g_callVi (As := [.int x1, .int x2]) X dX11_takesName_3 mlX11_192 (fun l D cyy => tX11_looksAt (cx_inj X) l D cyy a0 x1 x2 h0 S r_1 q_2) h0 (by decide) rfl rfl (Nat.le_of_ble_eq_true rfl) ?_
  exact g_perm [0] rfl (wX11_takesName_s6 X a0 x1 x2 h0 r_1.1 r_1.2 r ho hF)
theorem tX11_takesName {ad : Nat → Nat} (hI : Inj ad) (l : Launch) (D : va_G) (cyy : Nat → ClassId) (a0 : Nat) (x1 : Int32) (x2 : Int32) (h0 : KT a0 = 11) (S : St) (r : (Int32 × St)) (hF : fX11_takesName a0 x1 x2 S = some r) : OkM l yX11_takesName cX11_takesName 3 (some .boolean) 3 ad D cyy [.ref (ad a0), .int x1, .int x2] S (some (.int r.1), r.2) := okM_of hI (by decide) (inr_20 _ (List.mem_of_getElem? (i := 13) rfl)) (by show _ ≤ 3; exact Nat.le_of_ble_eq_true rfl) (fun z X => wX11_takesName X a0 x1 x2 h0 S r rfl hF)
def fX11_readParish_s101 (a0 : Nat)   (S : St) : Option (Int32 × St) :=
  some ((1 : Int32), S)
def fX11_readParish_s86 (a0 : Nat)  (t0 : Int32) (S : St) : Option (Int32 × St) :=
  if t0 = 0 then (some ((0 : Int32), S)) else
  (fX11_readParish_s101 a0 (sA S 30 (a0 + 3) 0 ((gA S 30 (a0 + 3) 0) + (1 : Int32))))
def fX11_readParish_s71 (a0 : Nat) (y1 : Int32) (t0 : Int32) (S : St) : Option (Int32 × St) :=
  if t0 = 0 then (some ((0 : Int32), S)) else
  ((fX11_puts a0 ((19 : Int32) + y1) (0 : Int32) (999 : Int32) S).bind fun r_16 =>
  fX11_readParish_s86 a0 r_16.1 r_16.2)
def fX11_readParish_s57 (a0 : Nat) (y1 : Int32) (t0 : Int32) (S : St) : Option (Int32 × St) :=
  if t0 = 0 then (some ((0 : Int32), S)) else
  ((fX11_puts a0 ((14 : Int32) + y1) (2 : Int32) (9 : Int32) S).bind fun r_13 =>
  fX11_readParish_s71 a0 y1 r_13.1 r_13.2)
def fX11_readParish_s43 (a0 : Nat) (y1 : Int32) (t0 : Int32) (S : St) : Option (Int32 × St) :=
  if t0 = 0 then (some ((0 : Int32), S)) else
  ((fX11_puts a0 ((9 : Int32) + y1) (2 : Int32) (30 : Int32) S).bind fun r_10 =>
  fX11_readParish_s57 a0 y1 r_10.1 r_10.2)
def fX11_readParish_s30 (a0 : Nat) (y1 : Int32) (t0 : Int32) (S : St) : Option (Int32 × St) :=
  if t0 = 0 then (some ((0 : Int32), S)) else
  ((fX11_puts a0 ((4 : Int32) + y1) (2 : Int32) (13 : Int32) S).bind fun r_7 =>
  fX11_readParish_s43 a0 y1 r_7.1 r_7.2)
def fX11_readParish_s17 (a0 : Nat)  (t0 : Int32) (S : St) : Option (Int32 × St) :=
  some ((vp_nar .boolean t0), S)
def fX11_readParish_s7 (a0 : Nat) (y1 : Int32)  (S : St) : Option (Int32 × St) :=
  if y1 = (5 : Int32) then (fX11_readParish_s17 a0 ((fX11_bad a0 (4 : Int32) S).1) ((fX11_bad a0 (4 : Int32) S).2)) else
  ((fX11_step a0 S).bind fun r_2 =>
  (fX11_fresh a0 ((11 : Int32) + y1) r_2).bind fun r_4 =>
  fX11_readParish_s30 a0 y1 r_4.1 r_4.2)
def fX11_readParish (a0 : Nat) (S : St) : Option (Int32 × St) :=
  fX11_readParish_s7 a0 (gA S 30 (a0 + 3) 0) S
theorem wX11_readParish_s101 {z : Mx} {ad : Nat → Nat} {o : Option Value × St} (X : CxOk z ad RX11 cX11_readParish 2 (some .boolean) 5) (a0 : Nat) (h0 : KT a0 = 11)     (S : St) (r : (Int32 × St)) (ho : o = (some (.int r.1), r.2)) (hF : fX11_readParish_s101 a0   S = some r) : GW z ad o S 101 [] [] := by
  unfold fX11_readParish_s101 at hF
  refine g_iconst (v := 1) X dX11_readParish_101 (by decide) ?_
  have hF := Option.some.inj hF
  subst hF
  exact g_zret X dX11_readParish_102 (by decide) ho
theorem wX11_readParish_s86 {z : Mx} {ad : Nat → Nat} {o : Option Value × St} (X : CxOk z ad RX11 cX11_readParish 2 (some .boolean) 5) (a0 : Nat) (h0 : KT a0 = 11)  (t0 : Int32)   (S : St) (r : (Int32 × St)) (ho : o = (some (.int r.1), r.2)) (hF : fX11_readParish_s86 a0  t0 S = some r) : GW z ad o S 86 [(0, .ref (ad a0))] [.int t0] := by
  unfold fX11_readParish_s86 at hF
  refine g_if_ne (tgt := 91) X dX11_readParish_86 (by decide) (fun c_18 => ?_) (fun c_18 => ?_)
  · rw [if_neg c_18] at hF
    refine g_aload_n X dX11_readParish_91 0 rfl rfl ?_
    refine g_getR (f := 3) X dX11_readParish_92 flX11_37 rfl rfl h0 ?_
    refine g_iconst (v := 0) X dX11_readParish_95 (by decide) ?_
    refine g_dup2 (a := .int (0 : Int32)) (b := .ref (ad (a0 + 3))) X dX11_readParish_96 rfl rfl ?_
    refine g_ialdK (j := 0) X dX11_readParish_97 kd_30 (on_11_7 h0) (by decide) (by decide) ?_
    refine g_iconst (v := 1) X dX11_readParish_98 (by decide) ?_
    refine g_iadd X dX11_readParish_99 ?_
    refine g_iastK (j := 0) X dX11_readParish_100 kd_30 (on_11_7 h0) (by decide) (by decide) ?_
    exact g_perm [] rfl (wX11_readParish_s101 X a0 h0 (sA S 30 (a0 + 3) 0 ((gA S 30 (a0 + 3) 0) + (1 : Int32))) r ho hF)
  · rw [if_pos c_18] at hF
    refine g_iconst (v := 0) X dX11_readParish_89 (by decide) ?_
    have hF := Option.some.inj hF
    subst hF
    exact g_zret X dX11_readParish_90 (by decide) ho
theorem wX11_readParish_s71 {z : Mx} {ad : Nat → Nat} {o : Option Value × St} (X : CxOk z ad RX11 cX11_readParish 2 (some .boolean) 5) (a0 : Nat) (h0 : KT a0 = 11) (y1 : Int32) (t0 : Int32)   (S : St) (r : (Int32 × St)) (ho : o = (some (.int r.1), r.2)) (hF : fX11_readParish_s71 a0 y1 t0 S = some r) : GW z ad o S 71 [(0, .ref (ad a0)), (1, .int y1)] [.int t0] := by
  unfold fX11_readParish_s71 at hF
  refine g_if_eq (tgt := 89) X dX11_readParish_71 (by decide) (fun c_15 => ?_) (fun c_15 => ?_)
  · rw [if_pos c_15] at hF
    refine g_iconst (v := 0) X dX11_readParish_89 (by decide) ?_
    have hF := Option.some.inj hF
    subst hF
    exact g_zret X dX11_readParish_90 (by decide) ho
  · rw [if_neg c_15] at hF
    refine g_aload_n X dX11_readParish_74 0 rfl rfl ?_
    refine g_bipush (v := 19) X dX11_readParish_75 (by decide) ?_
    refine g_iload_n X dX11_readParish_77 1 rfl rfl ?_
    refine g_iadd X dX11_readParish_78 ?_
    refine g_iconst (v := 0) X dX11_readParish_79 (by decide) ?_
    refine g_sipush (v := 999) X dX11_readParish_80 (by decide) ?_
    obtain ⟨r_16, q_17, hF⟩ := obind hF
    refine g_callVi (As := [.int ((19 : Int32) + y1), .int (0 : Int32), .int (999 : Int32)]) X dX11_readParish_83 mlX11_212 (fun l D cyy => tX11_puts (cx_inj X) l D cyy a0 ((19 : Int32) + y1) (0 : Int32) (999 : Int32) h0 S r_16 q_17) h0 (by decide) rfl rfl (Nat.le_of_ble_eq_true rfl) ?_
    exact g_perm [0] rfl (wX11_readParish_s86 X a0 h0 r_16.1 r_16.2 r ho hF)
theorem wX11_readParish_s57 {z : Mx} {ad : Nat → Nat} {o : Option Value × St} (X : CxOk z ad RX11 cX11_readParish 2 (some .boolean) 5) (a0 : Nat) (h0 : KT a0 = 11) (y1 : Int32) (t0 : Int32)   (S : St) (r : (Int32 × St)) (ho : o = (some (.int r.1), r.2)) (hF : fX11_readParish_s57 a0 y1 t0 S = some r) : GW z ad o S 57 [(0, .ref (ad a0)), (1, .int y1)] [.int t0] := by
  unfold fX11_readParish_s57 at hF
  refine g_if_eq (tgt := 89) X dX11_readParish_57 (by decide) (fun c_12 => ?_) (fun c_12 => ?_)
  · rw [if_pos c_12] at hF
    refine g_iconst (v := 0) X dX11_readParish_89 (by decide) ?_
    have hF := Option.some.inj hF
    subst hF
    exact g_zret X dX11_readParish_90 (by decide) ho
  · rw [if_neg c_12] at hF
    refine g_aload_n X dX11_readParish_60 0 rfl rfl ?_
    refine g_bipush (v := 14) X dX11_readParish_61 (by decide) ?_
    refine g_iload_n X dX11_readParish_63 1 rfl rfl ?_
    refine g_iadd X dX11_readParish_64 ?_
    refine g_iconst (v := 2) X dX11_readParish_65 (by decide) ?_
    refine g_bipush (v := 9) X dX11_readParish_66 (by decide) ?_
    obtain ⟨r_13, q_14, hF⟩ := obind hF
    refine g_callVi (As := [.int ((14 : Int32) + y1), .int (2 : Int32), .int (9 : Int32)]) X dX11_readParish_68 mlX11_212 (fun l D cyy => tX11_puts (cx_inj X) l D cyy a0 ((14 : Int32) + y1) (2 : Int32) (9 : Int32) h0 S r_13 q_14) h0 (by decide) rfl rfl (Nat.le_of_ble_eq_true rfl) ?_
    exact (wX11_readParish_s71 X a0 h0 y1 r_13.1 r_13.2 r ho hF)
theorem wX11_readParish_s43 {z : Mx} {ad : Nat → Nat} {o : Option Value × St} (X : CxOk z ad RX11 cX11_readParish 2 (some .boolean) 5) (a0 : Nat) (h0 : KT a0 = 11) (y1 : Int32) (t0 : Int32)   (S : St) (r : (Int32 × St)) (ho : o = (some (.int r.1), r.2)) (hF : fX11_readParish_s43 a0 y1 t0 S = some r) : GW z ad o S 43 [(0, .ref (ad a0)), (1, .int y1)] [.int t0] := by
  unfold fX11_readParish_s43 at hF
  refine g_if_eq (tgt := 89) X dX11_readParish_43 (by decide) (fun c_9 => ?_) (fun c_9 => ?_)
  · rw [if_pos c_9] at hF
    refine g_iconst (v := 0) X dX11_readParish_89 (by decide) ?_
    have hF := Option.some.inj hF
    subst hF
    exact g_zret X dX11_readParish_90 (by decide) ho
  · rw [if_neg c_9] at hF
    refine g_aload_n X dX11_readParish_46 0 rfl rfl ?_
    refine g_bipush (v := 9) X dX11_readParish_47 (by decide) ?_
    refine g_iload_n X dX11_readParish_49 1 rfl rfl ?_
    refine g_iadd X dX11_readParish_50 ?_
    refine g_iconst (v := 2) X dX11_readParish_51 (by decide) ?_
    refine g_bipush (v := 30) X dX11_readParish_52 (by decide) ?_
    obtain ⟨r_10, q_11, hF⟩ := obind hF
    refine g_callVi (As := [.int ((9 : Int32) + y1), .int (2 : Int32), .int (30 : Int32)]) X dX11_readParish_54 mlX11_212 (fun l D cyy => tX11_puts (cx_inj X) l D cyy a0 ((9 : Int32) + y1) (2 : Int32) (30 : Int32) h0 S r_10 q_11) h0 (by decide) rfl rfl (Nat.le_of_ble_eq_true rfl) ?_
    exact (wX11_readParish_s57 X a0 h0 y1 r_10.1 r_10.2 r ho hF)
theorem wX11_readParish_s30 {z : Mx} {ad : Nat → Nat} {o : Option Value × St} (X : CxOk z ad RX11 cX11_readParish 2 (some .boolean) 5) (a0 : Nat) (h0 : KT a0 = 11) (y1 : Int32) (t0 : Int32)   (S : St) (r : (Int32 × St)) (ho : o = (some (.int r.1), r.2)) (hF : fX11_readParish_s30 a0 y1 t0 S = some r) : GW z ad o S 30 [(0, .ref (ad a0)), (1, .int y1)] [.int t0] := by
  unfold fX11_readParish_s30 at hF
  refine g_if_eq (tgt := 89) X dX11_readParish_30 (by decide) (fun c_6 => ?_) (fun c_6 => ?_)
  · rw [if_pos c_6] at hF
    refine g_iconst (v := 0) X dX11_readParish_89 (by decide) ?_
    have hF := Option.some.inj hF
    subst hF
    exact g_zret X dX11_readParish_90 (by decide) ho
  · rw [if_neg c_6] at hF
    refine g_aload_n X dX11_readParish_33 0 rfl rfl ?_
    refine g_iconst (v := 4) X dX11_readParish_34 (by decide) ?_
    refine g_iload_n X dX11_readParish_35 1 rfl rfl ?_
    refine g_iadd X dX11_readParish_36 ?_
    refine g_iconst (v := 2) X dX11_readParish_37 (by decide) ?_
    refine g_bipush (v := 13) X dX11_readParish_38 (by decide) ?_
    obtain ⟨r_7, q_8, hF⟩ := obind hF
    refine g_callVi (As := [.int ((4 : Int32) + y1), .int (2 : Int32), .int (13 : Int32)]) X dX11_readParish_40 mlX11_212 (fun l D cyy => tX11_puts (cx_inj X) l D cyy a0 ((4 : Int32) + y1) (2 : Int32) (13 : Int32) h0 S r_7 q_8) h0 (by decide) rfl rfl (Nat.le_of_ble_eq_true rfl) ?_
    exact (wX11_readParish_s43 X a0 h0 y1 r_7.1 r_7.2 r ho hF)
theorem wX11_readParish_s17 {z : Mx} {ad : Nat → Nat} {o : Option Value × St} (X : CxOk z ad RX11 cX11_readParish 2 (some .boolean) 5) (a0 : Nat) (h0 : KT a0 = 11)  (t0 : Int32)   (S : St) (r : (Int32 × St)) (ho : o = (some (.int r.1), r.2)) (hF : fX11_readParish_s17 a0  t0 S = some r) : GW z ad o S 17 [] [.int t0] := by
  unfold fX11_readParish_s17 at hF
  have hF := Option.some.inj hF
  subst hF
  exact g_zretN X dX11_readParish_17 ho
theorem wX11_readParish_s7 {z : Mx} {ad : Nat → Nat} {o : Option Value × St} (X : CxOk z ad RX11 cX11_readParish 2 (some .boolean) 5) (a0 : Nat) (h0 : KT a0 = 11) (y1 : Int32)    (S : St) (r : (Int32 × St)) (ho : o = (some (.int r.1), r.2)) (hF : fX11_readParish_s7 a0 y1  S = some r) : GW z ad o S 7 [(0, .ref (ad a0)), (1, .int y1)] [] := by
  unfold fX11_readParish_s7 at hF
  refine g_iload_n X dX11_readParish_7 1 rfl rfl ?_
  refine g_iconst (v := 5) X dX11_readParish_8 (by decide) ?_
  refine g_icmp_ne (tgt := 18) X dX11_readParish_9 (by decide) (fun c_1 => ?_) (fun c_1 => ?_)
  · rw [if_neg c_1] at hF
    refine g_aload_n X dX11_readParish_18 0 rfl rfl ?_
    obtain ⟨r_2, q_3, hF⟩ := obind hF
    refine g_callVv (As := []) X dX11_readParish_19 mlX11_170 (fun l D cyy => tX11_step (cx_inj X) l D cyy a0 h0 S r_2 q_3) h0 (by decide) rfl rfl (Nat.le_of_ble_eq_true rfl) ?_
    refine g_aload_n X dX11_readParish_22 0 rfl rfl ?_
    refine g_bipush (v := 11) X dX11_readParish_23 (by decide) ?_
    refine g_iload_n X dX11_readParish_25 1 rfl rfl ?_
    refine g_iadd X dX11_readParish_26 ?_
    obtain ⟨r_4, q_5, hF⟩ := obind hF
    refine g_callVi (As := [.int ((11 : Int32) + y1)]) X dX11_readParish_27 mlX11_215 (fun l D cyy => tX11_fresh (cx_inj X) l D cyy a0 ((11 : Int32) + y1) h0 r_2 r_4 q_5) h0 (by decide) rfl rfl (Nat.le_of_ble_eq_true rfl) ?_
    exact (wX11_readParish_s30 X a0 h0 y1 r_4.1 r_4.2 r ho hF)
  · rw [if_pos c_1] at hF
    refine g_aload_n X dX11_readParish_12 0 rfl rfl ?_
    refine g_iconst (v := 4) X dX11_readParish_13 (by decide) ?_
    refine g_callVi (As := [.int (4 : Int32)]) X dX11_readParish_14 mlX11_167 (fun l D cyy => tX11_bad (cx_inj X) l D cyy a0 (4 : Int32) h0 S) h0 (by decide) rfl rfl (Nat.le_of_ble_eq_true rfl) ?_
    exact g_perm [] rfl (wX11_readParish_s17 X a0 h0 ((fX11_bad a0 (4 : Int32) S).1) ((fX11_bad a0 (4 : Int32) S).2) r ho hF)
theorem wX11_readParish {z : Mx} {ad : Nat → Nat} {o : Option Value × St} (X : CxOk z ad RX11 cX11_readParish 2 (some .boolean) 5) (a0 : Nat) (h0 : KT a0 = 11) (S : St) (r : (Int32 × St)) (ho : o = (some (.int r.1), r.2)) (hF : fX11_readParish a0 S = some r) : GW z ad o S 0 [(0, .ref (ad a0))] [] := by
  unfold fX11_readParish at hF
  refine g_aload_n X dX11_readParish_0 0 rfl rfl ?_
  refine g_getR (f := 3) X dX11_readParish_1 flX11_37 rfl rfl h0 ?_
  refine g_iconst (v := 0) X dX11_readParish_4 (by decide) ?_
  refine g_ialdK (j := 0) X dX11_readParish_5 kd_30 (on_11_7 h0) (by decide) (by decide) ?_
  refine g_istore_n X dX11_readParish_6 rfl (by decide) (lv' := [(1, .int (gA S 30 (a0 + 3) 0)), (0, .ref (ad a0))]) rfl ?_
  exact g_perm [1, 0] rfl (wX11_readParish_s7 X a0 h0 (gA S 30 (a0 + 3) 0) S r ho hF)
theorem tX11_readParish {ad : Nat → Nat} (hI : Inj ad) (l : Launch) (D : va_G) (cyy : Nat → ClassId) (a0 : Nat) (h0 : KT a0 = 11) (S : St) (r : (Int32 × St)) (hF : fX11_readParish a0 S = some r) : OkM l yX11_readParish cX11_readParish 2 (some .boolean) 5 ad D cyy [.ref (ad a0)] S (some (.int r.1), r.2) := okM_of hI (by decide) (inr_18 _ (List.mem_of_getElem? (i := 17) rfl)) (by show _ ≤ 2; exact Nat.le_of_ble_eq_true rfl) (fun z X => wX11_readParish X a0 h0 S r rfl hF)
def fX11_readLeap_s73 (a0 : Nat)  (t0 : Int32) (S : St) : Option (Int32 × St) :=
  if t0 = 0 then (some ((0 : Int32), S)) else
  (some ((1 : Int32), S))
def fX11_readLeap_s59 (a0 : Nat) (y1 : Int32) (t0 : Int32) (S : St) : Option (Int32 × St) :=
  if t0 = 0 then (some ((0 : Int32), S)) else
  ((fX11_puts a0 ((29 : Int32) + y1) (1 : Int32) (9 : Int32) S).bind fun r_13 =>
  fX11_readLeap_s73 a0 r_13.1 r_13.2)
def fX11_readLeap_s43 (a0 : Nat)  (t0 : Int32) (S : St) : Option (Int32 × St) :=
  some ((vp_nar .boolean t0), S)
def fX11_readLeap_s26 (a0 : Nat) (y1 : Int32)  (S : St) : Option (Int32 × St) :=
  if (((24 : Int32) + y1) < 0 ∨ 52 ≤ ((24 : Int32) + y1).toNatClampNeg) then none else
  if (gA S 30 (a0 + 3) (((24 : Int32) + y1).toNatClampNeg)) ≤ 0 then ((fX11_step a0 S).bind fun r_8 =>
  (fX11_puts a0 ((24 : Int32) + y1) (1 : Int32) (9 : Int32) r_8).bind fun r_10 =>
  fX11_readLeap_s59 a0 y1 r_10.1 r_10.2) else
  (fX11_readLeap_s43 a0 ((fX11_bad a0 (3 : Int32) S).1) ((fX11_bad a0 (3 : Int32) S).2))
def fX11_readLeap_s16 (a0 : Nat)  (t0 : Int32) (S : St) : Option (Int32 × St) :=
  if t0 = 0 then (some ((0 : Int32), S)) else
  (fX11_readLeap_s26 a0 (gI S 11 18 a0) S)
def fX11_readLeap (a0 : Nat) (S : St) : Option (Int32 × St) :=
  (fX11_step a0 S).bind fun r_1 =>
  (fX11_looksAt a0 (11 : Int32) (gA r_1 30 (a0 + 3) 0) r_1).bind fun r_3 =>
  fX11_readLeap_s16 a0 r_3.1 r_3.2
theorem wX11_readLeap_s73 {z : Mx} {ad : Nat → Nat} {o : Option Value × St} (X : CxOk z ad RX11 cX11_readLeap 2 (some .boolean) 5) (a0 : Nat) (h0 : KT a0 = 11)  (t0 : Int32)   (S : St) (r : (Int32 × St)) (ho : o = (some (.int r.1), r.2)) (hF : fX11_readLeap_s73 a0  t0 S = some r) : GW z ad o S 73 [] [.int t0] := by
  unfold fX11_readLeap_s73 at hF
  refine g_if_eq (tgt := 80) X dX11_readLeap_73 (by decide) (fun c_15 => ?_) (fun c_15 => ?_)
  · rw [if_pos c_15] at hF
    refine g_iconst (v := 0) X dX11_readLeap_80 (by decide) ?_
    have hF := Option.some.inj hF
    subst hF
    exact g_zret X dX11_readLeap_81 (by decide) ho
  · rw [if_neg c_15] at hF
    refine g_iconst (v := 1) X dX11_readLeap_76 (by decide) ?_
    refine g_goto (tgt := 81) X dX11_readLeap_77 (by decide) ?_
    have hF := Option.some.inj hF
    subst hF
    exact g_zret X dX11_readLeap_81 (by decide) ho
theorem wX11_readLeap_s59 {z : Mx} {ad : Nat → Nat} {o : Option Value × St} (X : CxOk z ad RX11 cX11_readLeap 2 (some .boolean) 5) (a0 : Nat) (h0 : KT a0 = 11) (y1 : Int32) (t0 : Int32)   (S : St) (r : (Int32 × St)) (ho : o = (some (.int r.1), r.2)) (hF : fX11_readLeap_s59 a0 y1 t0 S = some r) : GW z ad o S 59 [(0, .ref (ad a0)), (1, .int y1)] [.int t0] := by
  unfold fX11_readLeap_s59 at hF
  refine g_if_eq (tgt := 80) X dX11_readLeap_59 (by decide) (fun c_12 => ?_) (fun c_12 => ?_)
  · rw [if_pos c_12] at hF
    refine g_iconst (v := 0) X dX11_readLeap_80 (by decide) ?_
    have hF := Option.some.inj hF
    subst hF
    exact g_zret X dX11_readLeap_81 (by decide) ho
  · rw [if_neg c_12] at hF
    refine g_aload_n X dX11_readLeap_62 0 rfl rfl ?_
    refine g_bipush (v := 29) X dX11_readLeap_63 (by decide) ?_
    refine g_iload_n X dX11_readLeap_65 1 rfl rfl ?_
    refine g_iadd X dX11_readLeap_66 ?_
    refine g_iconst (v := 1) X dX11_readLeap_67 (by decide) ?_
    refine g_bipush (v := 9) X dX11_readLeap_68 (by decide) ?_
    obtain ⟨r_13, q_14, hF⟩ := obind hF
    refine g_callVi (As := [.int ((29 : Int32) + y1), .int (1 : Int32), .int (9 : Int32)]) X dX11_readLeap_70 mlX11_212 (fun l D cyy => tX11_puts (cx_inj X) l D cyy a0 ((29 : Int32) + y1) (1 : Int32) (9 : Int32) h0 S r_13 q_14) h0 (by decide) rfl rfl (Nat.le_of_ble_eq_true rfl) ?_
    exact g_perm [] rfl (wX11_readLeap_s73 X a0 h0 r_13.1 r_13.2 r ho hF)
theorem wX11_readLeap_s43 {z : Mx} {ad : Nat → Nat} {o : Option Value × St} (X : CxOk z ad RX11 cX11_readLeap 2 (some .boolean) 5) (a0 : Nat) (h0 : KT a0 = 11)  (t0 : Int32)   (S : St) (r : (Int32 × St)) (ho : o = (some (.int r.1), r.2)) (hF : fX11_readLeap_s43 a0  t0 S = some r) : GW z ad o S 43 [] [.int t0] := by
  unfold fX11_readLeap_s43 at hF
  have hF := Option.some.inj hF
  subst hF
  exact g_zretN X dX11_readLeap_43 ho
theorem wX11_readLeap_s26 {z : Mx} {ad : Nat → Nat} {o : Option Value × St} (X : CxOk z ad RX11 cX11_readLeap 2 (some .boolean) 5) (a0 : Nat) (h0 : KT a0 = 11) (y1 : Int32)    (S : St) (r : (Int32 × St)) (ho : o = (some (.int r.1), r.2)) (hF : fX11_readLeap_s26 a0 y1  S = some r) : GW z ad o S 26 [(0, .ref (ad a0)), (1, .int y1)] [] := by
  unfold fX11_readLeap_s26 at hF
  refine g_aload_n X dX11_readLeap_26 0 rfl rfl ?_
  refine g_getR (f := 3) X dX11_readLeap_27 flX11_37 rfl rfl h0 ?_
  refine g_bipush (v := 24) X dX11_readLeap_30 (by decide) ?_
  refine g_iload_n X dX11_readLeap_32 1 rfl rfl ?_
  refine g_iadd X dX11_readLeap_33 ?_
  obtain ⟨e_6, hF⟩ := oguard hF
  refine g_iald X dX11_readLeap_34 kd_30 (on_11_7 h0) e_6 ?_
  refine g_if_le (tgt := 44) X dX11_readLeap_35 (by decide) (fun c_7 => ?_) (fun c_7 => ?_)
  · rw [if_pos c_7] at hF
    refine g_aload_n X dX11_readLeap_44 0 rfl rfl ?_
    obtain ⟨r_8, q_9, hF⟩ := obind hF
    refine g_callVv (As := []) X dX11_readLeap_45 mlX11_170 (fun l D cyy => tX11_step (cx_inj X) l D cyy a0 h0 S r_8 q_9) h0 (by decide) rfl rfl (Nat.le_of_ble_eq_true rfl) ?_
    refine g_aload_n X dX11_readLeap_48 0 rfl rfl ?_
    refine g_bipush (v := 24) X dX11_readLeap_49 (by decide) ?_
    refine g_iload_n X dX11_readLeap_51 1 rfl rfl ?_
    refine g_iadd X dX11_readLeap_52 ?_
    refine g_iconst (v := 1) X dX11_readLeap_53 (by decide) ?_
    refine g_bipush (v := 9) X dX11_readLeap_54 (by decide) ?_
    obtain ⟨r_10, q_11, hF⟩ := obind hF
    refine g_callVi (As := [.int ((24 : Int32) + y1), .int (1 : Int32), .int (9 : Int32)]) X dX11_readLeap_56 mlX11_212 (fun l D cyy => tX11_puts (cx_inj X) l D cyy a0 ((24 : Int32) + y1) (1 : Int32) (9 : Int32) h0 r_8 r_10 q_11) h0 (by decide) rfl rfl (Nat.le_of_ble_eq_true rfl) ?_
    exact (wX11_readLeap_s59 X a0 h0 y1 r_10.1 r_10.2 r ho hF)
  · rw [if_neg c_7] at hF
    refine g_aload_n X dX11_readLeap_38 0 rfl rfl ?_
    refine g_iconst (v := 3) X dX11_readLeap_39 (by decide) ?_
    refine g_callVi (As := [.int (3 : Int32)]) X dX11_readLeap_40 mlX11_167 (fun l D cyy => tX11_bad (cx_inj X) l D cyy a0 (3 : Int32) h0 S) h0 (by decide) rfl rfl (Nat.le_of_ble_eq_true rfl) ?_
    exact g_perm [] rfl (wX11_readLeap_s43 X a0 h0 ((fX11_bad a0 (3 : Int32) S).1) ((fX11_bad a0 (3 : Int32) S).2) r ho hF)
theorem wX11_readLeap_s16 {z : Mx} {ad : Nat → Nat} {o : Option Value × St} (X : CxOk z ad RX11 cX11_readLeap 2 (some .boolean) 5) (a0 : Nat) (h0 : KT a0 = 11)  (t0 : Int32)   (S : St) (r : (Int32 × St)) (ho : o = (some (.int r.1), r.2)) (hF : fX11_readLeap_s16 a0  t0 S = some r) : GW z ad o S 16 [(0, .ref (ad a0))] [.int t0] := by
  unfold fX11_readLeap_s16 at hF
  refine g_if_ne (tgt := 21) X dX11_readLeap_16 (by decide) (fun c_5 => ?_) (fun c_5 => ?_)
  · rw [if_neg c_5] at hF
    refine g_aload_n X dX11_readLeap_21 0 rfl rfl ?_
    refine g_getI X dX11_readLeap_22 flX11_177 rfl h0 ?_
    refine g_istore_n X dX11_readLeap_25 rfl (by decide) (lv' := [(1, .int (gI S 11 18 a0)), (0, .ref (ad a0))]) rfl ?_
    exact g_perm [1, 0] rfl (wX11_readLeap_s26 X a0 h0 (gI S 11 18 a0) S r ho hF)
  · rw [if_pos c_5] at hF
    refine g_iconst (v := 0) X dX11_readLeap_19 (by decide) ?_
    have hF := Option.some.inj hF
    subst hF
    exact g_zret X dX11_readLeap_20 (by decide) ho
theorem wX11_readLeap {z : Mx} {ad : Nat → Nat} {o : Option Value × St} (X : CxOk z ad RX11 cX11_readLeap 2 (some .boolean) 5) (a0 : Nat) (h0 : KT a0 = 11) (S : St) (r : (Int32 × St)) (ho : o = (some (.int r.1), r.2)) (hF : fX11_readLeap a0 S = some r) : GW z ad o S 0 [(0, .ref (ad a0))] [] := by
  unfold fX11_readLeap at hF
  refine g_aload_n X dX11_readLeap_0 0 rfl rfl ?_
  obtain ⟨r_1, q_2, hF⟩ := obind hF
  refine g_callVv (As := []) X dX11_readLeap_1 mlX11_170 (fun l D cyy => tX11_step (cx_inj X) l D cyy a0 h0 S r_1 q_2) h0 (by decide) rfl rfl (Nat.le_of_ble_eq_true rfl) ?_
  refine g_aload_n X dX11_readLeap_4 0 rfl rfl ?_
  refine g_bipush (v := 11) X dX11_readLeap_5 (by decide) ?_
  refine g_aload_n X dX11_readLeap_7 0 rfl rfl ?_
  refine g_getR (f := 3) X dX11_readLeap_8 flX11_37 rfl rfl h0 ?_
  refine g_iconst (v := 0) X dX11_readLeap_11 (by decide) ?_
  refine g_ialdK (j := 0) X dX11_readLeap_12 kd_30 (on_11_7 h0) (by decide) (by decide) ?_
  obtain ⟨r_3, q_4, hF⟩ := obind hF
  refine g_callVi (As := [.int (11 : Int32), .int (gA r_1 30 (a0 + 3) 0)]) X dX11_readLeap_13 mlX11_192 (fun l D cyy => tX11_looksAt (cx_inj X) l D cyy a0 (11 : Int32) (gA r_1 30 (a0 + 3) 0) h0 r_1 r_3 q_4) h0 (by decide) rfl rfl (Nat.le_of_ble_eq_true rfl) ?_
  exact (wX11_readLeap_s16 X a0 h0 r_3.1 r_3.2 r ho hF)
theorem tX11_readLeap {ad : Nat → Nat} (hI : Inj ad) (l : Launch) (D : va_G) (cyy : Nat → ClassId) (a0 : Nat) (h0 : KT a0 = 11) (S : St) (r : (Int32 × St)) (hF : fX11_readLeap a0 S = some r) : OkM l yX11_readLeap cX11_readLeap 2 (some .boolean) 5 ad D cyy [.ref (ad a0)] S (some (.int r.1), r.2) := okM_of hI (by decide) (inr_20 _ (List.mem_of_getElem? (i := 1) rfl)) (by show _ ≤ 2; exact Nat.le_of_ble_eq_true rfl) (fun z X => wX11_readLeap X a0 h0 S r rfl hF)
def fX11_readFeast_s123 (a0 : Nat)   (S : St) : Option (Int32 × St) :=
  some ((1 : Int32), S)
def fX11_readFeast_s108 (a0 : Nat)  (t0 : Int32) (S : St) : Option (Int32 × St) :=
  if t0 = 0 then (some ((0 : Int32), S)) else
  (fX11_readFeast_s123 a0 (sA S 30 (a0 + 3) 1 ((gA S 30 (a0 + 3) 1) + (1 : Int32))))
def fX11_readFeast_s85 (a0 : Nat) (y1 : Int32) (y2 : Int32) (t0 : Int32) (S : St) : Option (Int32 × St) :=
  if t0 = 0 then (some ((0 : Int32), S)) else
  (if (((9 : Int32) + y2) < 0 ∨ 52 ≤ ((9 : Int32) + y2).toNatClampNeg) then none else
  (fX11_puts a0 ((46 : Int32) + y1) (0 : Int32) ((gA S 30 (a0 + 3) (((9 : Int32) + y2).toNatClampNeg)) - (1 : Int32)) S).bind fun r_16 =>
  fX11_readFeast_s108 a0 r_16.1 r_16.2)
def fX11_readFeast_s66 (a0 : Nat) (y1 : Int32) (y2 : Int32)  (S : St) : Option (Int32 × St) :=
  if (((4 : Int32) + y2) < 0 ∨ 52 ≤ ((4 : Int32) + y2).toNatClampNeg) then none else
  (fX11_puts a0 ((40 : Int32) + y1) (0 : Int32) ((gA S 30 (a0 + 3) (((4 : Int32) + y2).toNatClampNeg)) - (1 : Int32)) S).bind fun r_12 =>
  fX11_readFeast_s85 a0 y1 y2 r_12.1 r_12.2
def fX11_readFeast_s56 (a0 : Nat) (y1 : Int32) (y2 : Int32)  (S : St) : Option (Int32 × St) :=
  if (((34 : Int32) + y1) < 0 ∨ 52 ≤ ((34 : Int32) + y1).toNatClampNeg) then none else
  fX11_readFeast_s66 a0 y1 y2 (sA S 30 (a0 + 3) (((34 : Int32) + y1).toNatClampNeg) y2)
def fX11_readFeast_s46 (a0 : Nat) (y1 : Int32) (t0 : Int32) (S : St) : Option (Int32 × St) :=
  if t0 = 0 then (some ((0 : Int32), S)) else
  (fX11_readFeast_s56 a0 y1 (gI S 11 18 a0) S)
def fX11_readFeast_s31 (a0 : Nat) (y1 : Int32) (t0 : Int32) (S : St) : Option (Int32 × St) :=
  if t0 = 0 then (some ((0 : Int32), S)) else
  ((fX11_takesName a0 (11 : Int32) (gA S 30 (a0 + 3) 0) S).bind fun r_7 =>
  fX11_readFeast_s46 a0 y1 r_7.1 r_7.2)
def fX11_readFeast_s18 (a0 : Nat)  (t0 : Int32) (S : St) : Option (Int32 × St) :=
  some ((vp_nar .boolean t0), S)
def fX11_readFeast_s7 (a0 : Nat) (y1 : Int32)  (S : St) : Option (Int32 × St) :=
  if y1 = (6 : Int32) then (fX11_readFeast_s18 a0 ((fX11_bad a0 (4 : Int32) S).1) ((fX11_bad a0 (4 : Int32) S).2)) else
  ((fX11_step a0 S).bind fun r_2 =>
  (fX11_fresh a0 ((16 : Int32) + y1) r_2).bind fun r_4 =>
  fX11_readFeast_s31 a0 y1 r_4.1 r_4.2)
def fX11_readFeast (a0 : Nat) (S : St) : Option (Int32 × St) :=
  fX11_readFeast_s7 a0 (gA S 30 (a0 + 3) 1) S
theorem wX11_readFeast_s123 {z : Mx} {ad : Nat → Nat} {o : Option Value × St} (X : CxOk z ad RX11 cX11_readFeast 3 (some .boolean) 5) (a0 : Nat) (h0 : KT a0 = 11)     (S : St) (r : (Int32 × St)) (ho : o = (some (.int r.1), r.2)) (hF : fX11_readFeast_s123 a0   S = some r) : GW z ad o S 123 [] [] := by
  unfold fX11_readFeast_s123 at hF
  refine g_iconst (v := 1) X dX11_readFeast_123 (by decide) ?_
  have hF := Option.some.inj hF
  subst hF
  exact g_zret X dX11_readFeast_124 (by decide) ho
theorem wX11_readFeast_s108 {z : Mx} {ad : Nat → Nat} {o : Option Value × St} (X : CxOk z ad RX11 cX11_readFeast 3 (some .boolean) 5) (a0 : Nat) (h0 : KT a0 = 11)  (t0 : Int32)   (S : St) (r : (Int32 × St)) (ho : o = (some (.int r.1), r.2)) (hF : fX11_readFeast_s108 a0  t0 S = some r) : GW z ad o S 108 [(0, .ref (ad a0))] [.int t0] := by
  unfold fX11_readFeast_s108 at hF
  refine g_if_ne (tgt := 113) X dX11_readFeast_108 (by decide) (fun c_18 => ?_) (fun c_18 => ?_)
  · rw [if_neg c_18] at hF
    refine g_aload_n X dX11_readFeast_113 0 rfl rfl ?_
    refine g_getR (f := 3) X dX11_readFeast_114 flX11_37 rfl rfl h0 ?_
    refine g_iconst (v := 1) X dX11_readFeast_117 (by decide) ?_
    refine g_dup2 (a := .int (1 : Int32)) (b := .ref (ad (a0 + 3))) X dX11_readFeast_118 rfl rfl ?_
    refine g_ialdK (j := 1) X dX11_readFeast_119 kd_30 (on_11_7 h0) (by decide) (by decide) ?_
    refine g_iconst (v := 1) X dX11_readFeast_120 (by decide) ?_
    refine g_iadd X dX11_readFeast_121 ?_
    refine g_iastK (j := 1) X dX11_readFeast_122 kd_30 (on_11_7 h0) (by decide) (by decide) ?_
    exact g_perm [] rfl (wX11_readFeast_s123 X a0 h0 (sA S 30 (a0 + 3) 1 ((gA S 30 (a0 + 3) 1) + (1 : Int32))) r ho hF)
  · rw [if_pos c_18] at hF
    refine g_iconst (v := 0) X dX11_readFeast_111 (by decide) ?_
    have hF := Option.some.inj hF
    subst hF
    exact g_zret X dX11_readFeast_112 (by decide) ho
theorem wX11_readFeast_s85 {z : Mx} {ad : Nat → Nat} {o : Option Value × St} (X : CxOk z ad RX11 cX11_readFeast 3 (some .boolean) 5) (a0 : Nat) (h0 : KT a0 = 11) (y1 : Int32) (y2 : Int32) (t0 : Int32)   (S : St) (r : (Int32 × St)) (ho : o = (some (.int r.1), r.2)) (hF : fX11_readFeast_s85 a0 y1 y2 t0 S = some r) : GW z ad o S 85 [(0, .ref (ad a0)), (1, .int y1), (2, .int y2)] [.int t0] := by
  unfold fX11_readFeast_s85 at hF
  refine g_if_eq (tgt := 111) X dX11_readFeast_85 (by decide) (fun c_14 => ?_) (fun c_14 => ?_)
  · rw [if_pos c_14] at hF
    refine g_iconst (v := 0) X dX11_readFeast_111 (by decide) ?_
    have hF := Option.some.inj hF
    subst hF
    exact g_zret X dX11_readFeast_112 (by decide) ho
  · rw [if_neg c_14] at hF
    refine g_aload_n X dX11_readFeast_88 0 rfl rfl ?_
    refine g_bipush (v := 46) X dX11_readFeast_89 (by decide) ?_
    refine g_iload_n X dX11_readFeast_91 1 rfl rfl ?_
    refine g_iadd X dX11_readFeast_92 ?_
    refine g_iconst (v := 0) X dX11_readFeast_93 (by decide) ?_
    refine g_aload_n X dX11_readFeast_94 0 rfl rfl ?_
    refine g_getR (f := 3) X dX11_readFeast_95 flX11_37 rfl rfl h0 ?_
    refine g_bipush (v := 9) X dX11_readFeast_98 (by decide) ?_
    refine g_iload_n X dX11_readFeast_100 2 rfl rfl ?_
    refine g_iadd X dX11_readFeast_101 ?_
    obtain ⟨e_15, hF⟩ := oguard hF
    refine g_iald X dX11_readFeast_102 kd_30 (on_11_7 h0) e_15 ?_
    refine g_iconst (v := 1) X dX11_readFeast_103 (by decide) ?_
    refine g_isub X dX11_readFeast_104 ?_
    obtain ⟨r_16, q_17, hF⟩ := obind hF
    refine g_callVi (As := [.int ((46 : Int32) + y1), .int (0 : Int32), .int ((gA S 30 (a0 + 3) (((9 : Int32) + y2).toNatClampNeg)) - (1 : Int32))]) X dX11_readFeast_105 mlX11_212 (fun l D cyy => tX11_puts (cx_inj X) l D cyy a0 ((46 : Int32) + y1) (0 : Int32) ((gA S 30 (a0 + 3) (((9 : Int32) + y2).toNatClampNeg)) - (1 : Int32)) h0 S r_16 q_17) h0 (by decide) rfl rfl (Nat.le_of_ble_eq_true rfl) ?_
    exact g_perm [0] rfl (wX11_readFeast_s108 X a0 h0 r_16.1 r_16.2 r ho hF)
theorem wX11_readFeast_s66 {z : Mx} {ad : Nat → Nat} {o : Option Value × St} (X : CxOk z ad RX11 cX11_readFeast 3 (some .boolean) 5) (a0 : Nat) (h0 : KT a0 = 11) (y1 : Int32) (y2 : Int32)    (S : St) (r : (Int32 × St)) (ho : o = (some (.int r.1), r.2)) (hF : fX11_readFeast_s66 a0 y1 y2  S = some r) : GW z ad o S 66 [(0, .ref (ad a0)), (1, .int y1), (2, .int y2)] [] := by
  unfold fX11_readFeast_s66 at hF
  refine g_aload_n X dX11_readFeast_66 0 rfl rfl ?_
  refine g_bipush (v := 40) X dX11_readFeast_67 (by decide) ?_
  refine g_iload_n X dX11_readFeast_69 1 rfl rfl ?_
  refine g_iadd X dX11_readFeast_70 ?_
  refine g_iconst (v := 0) X dX11_readFeast_71 (by decide) ?_
  refine g_aload_n X dX11_readFeast_72 0 rfl rfl ?_
  refine g_getR (f := 3) X dX11_readFeast_73 flX11_37 rfl rfl h0 ?_
  refine g_iconst (v := 4) X dX11_readFeast_76 (by decide) ?_
  refine g_iload_n X dX11_readFeast_77 2 rfl rfl ?_
  refine g_iadd X dX11_readFeast_78 ?_
  obtain ⟨e_11, hF⟩ := oguard hF
  refine g_iald X dX11_readFeast_79 kd_30 (on_11_7 h0) e_11 ?_
  refine g_iconst (v := 1) X dX11_readFeast_80 (by decide) ?_
  refine g_isub X dX11_readFeast_81 ?_
  obtain ⟨r_12, q_13, hF⟩ := obind hF
  refine g_callVi (As := [.int ((40 : Int32) + y1), .int (0 : Int32), .int ((gA S 30 (a0 + 3) (((4 : Int32) + y2).toNatClampNeg)) - (1 : Int32))]) X dX11_readFeast_82 mlX11_212 (fun l D cyy => tX11_puts (cx_inj X) l D cyy a0 ((40 : Int32) + y1) (0 : Int32) ((gA S 30 (a0 + 3) (((4 : Int32) + y2).toNatClampNeg)) - (1 : Int32)) h0 S r_12 q_13) h0 (by decide) rfl rfl (Nat.le_of_ble_eq_true rfl) ?_
  exact (wX11_readFeast_s85 X a0 h0 y1 y2 r_12.1 r_12.2 r ho hF)
theorem wX11_readFeast_s56 {z : Mx} {ad : Nat → Nat} {o : Option Value × St} (X : CxOk z ad RX11 cX11_readFeast 3 (some .boolean) 5) (a0 : Nat) (h0 : KT a0 = 11) (y1 : Int32) (y2 : Int32)    (S : St) (r : (Int32 × St)) (ho : o = (some (.int r.1), r.2)) (hF : fX11_readFeast_s56 a0 y1 y2  S = some r) : GW z ad o S 56 [(0, .ref (ad a0)), (1, .int y1), (2, .int y2)] [] := by
  unfold fX11_readFeast_s56 at hF
  refine g_aload_n X dX11_readFeast_56 0 rfl rfl ?_
  refine g_getR (f := 3) X dX11_readFeast_57 flX11_37 rfl rfl h0 ?_
  refine g_bipush (v := 34) X dX11_readFeast_60 (by decide) ?_
  refine g_iload_n X dX11_readFeast_62 1 rfl rfl ?_
  refine g_iadd X dX11_readFeast_63 ?_
  refine g_iload_n X dX11_readFeast_64 2 rfl rfl ?_
  obtain ⟨e_10, hF⟩ := oguard hF
  refine g_iast X dX11_readFeast_65 kd_30 (on_11_7 h0) e_10 ?_
  exact (wX11_readFeast_s66 X a0 h0 y1 y2 (sA S 30 (a0 + 3) (((34 : Int32) + y1).toNatClampNeg) y2) r ho hF)
theorem wX11_readFeast_s46 {z : Mx} {ad : Nat → Nat} {o : Option Value × St} (X : CxOk z ad RX11 cX11_readFeast 3 (some .boolean) 5) (a0 : Nat) (h0 : KT a0 = 11) (y1 : Int32) (t0 : Int32)   (S : St) (r : (Int32 × St)) (ho : o = (some (.int r.1), r.2)) (hF : fX11_readFeast_s46 a0 y1 t0 S = some r) : GW z ad o S 46 [(0, .ref (ad a0)), (1, .int y1)] [.int t0] := by
  unfold fX11_readFeast_s46 at hF
  refine g_if_ne (tgt := 51) X dX11_readFeast_46 (by decide) (fun c_9 => ?_) (fun c_9 => ?_)
  · rw [if_neg c_9] at hF
    refine g_aload_n X dX11_readFeast_51 0 rfl rfl ?_
    refine g_getI X dX11_readFeast_52 flX11_177 rfl h0 ?_
    refine g_istore_n X dX11_readFeast_55 rfl (by decide) (lv' := [(2, .int (gI S 11 18 a0)), (0, .ref (ad a0)), (1, .int y1)]) rfl ?_
    exact g_perm [1, 2, 0] rfl (wX11_readFeast_s56 X a0 h0 y1 (gI S 11 18 a0) S r ho hF)
  · rw [if_pos c_9] at hF
    refine g_iconst (v := 0) X dX11_readFeast_49 (by decide) ?_
    have hF := Option.some.inj hF
    subst hF
    exact g_zret X dX11_readFeast_50 (by decide) ho
theorem wX11_readFeast_s31 {z : Mx} {ad : Nat → Nat} {o : Option Value × St} (X : CxOk z ad RX11 cX11_readFeast 3 (some .boolean) 5) (a0 : Nat) (h0 : KT a0 = 11) (y1 : Int32) (t0 : Int32)   (S : St) (r : (Int32 × St)) (ho : o = (some (.int r.1), r.2)) (hF : fX11_readFeast_s31 a0 y1 t0 S = some r) : GW z ad o S 31 [(0, .ref (ad a0)), (1, .int y1)] [.int t0] := by
  unfold fX11_readFeast_s31 at hF
  refine g_if_eq (tgt := 49) X dX11_readFeast_31 (by decide) (fun c_6 => ?_) (fun c_6 => ?_)
  · rw [if_pos c_6] at hF
    refine g_iconst (v := 0) X dX11_readFeast_49 (by decide) ?_
    have hF := Option.some.inj hF
    subst hF
    exact g_zret X dX11_readFeast_50 (by decide) ho
  · rw [if_neg c_6] at hF
    refine g_aload_n X dX11_readFeast_34 0 rfl rfl ?_
    refine g_bipush (v := 11) X dX11_readFeast_35 (by decide) ?_
    refine g_aload_n X dX11_readFeast_37 0 rfl rfl ?_
    refine g_getR (f := 3) X dX11_readFeast_38 flX11_37 rfl rfl h0 ?_
    refine g_iconst (v := 0) X dX11_readFeast_41 (by decide) ?_
    refine g_ialdK (j := 0) X dX11_readFeast_42 kd_30 (on_11_7 h0) (by decide) (by decide) ?_
    obtain ⟨r_7, q_8, hF⟩ := obind hF
    refine g_callVi (As := [.int (11 : Int32), .int (gA S 30 (a0 + 3) 0)]) X dX11_readFeast_43 mlX11_218 (fun l D cyy => tX11_takesName (cx_inj X) l D cyy a0 (11 : Int32) (gA S 30 (a0 + 3) 0) h0 S r_7 q_8) h0 (by decide) rfl rfl (Nat.le_of_ble_eq_true rfl) ?_
    exact (wX11_readFeast_s46 X a0 h0 y1 r_7.1 r_7.2 r ho hF)
theorem wX11_readFeast_s18 {z : Mx} {ad : Nat → Nat} {o : Option Value × St} (X : CxOk z ad RX11 cX11_readFeast 3 (some .boolean) 5) (a0 : Nat) (h0 : KT a0 = 11)  (t0 : Int32)   (S : St) (r : (Int32 × St)) (ho : o = (some (.int r.1), r.2)) (hF : fX11_readFeast_s18 a0  t0 S = some r) : GW z ad o S 18 [] [.int t0] := by
  unfold fX11_readFeast_s18 at hF
  have hF := Option.some.inj hF
  subst hF
  exact g_zretN X dX11_readFeast_18 ho
theorem wX11_readFeast_s7 {z : Mx} {ad : Nat → Nat} {o : Option Value × St} (X : CxOk z ad RX11 cX11_readFeast 3 (some .boolean) 5) (a0 : Nat) (h0 : KT a0 = 11) (y1 : Int32)    (S : St) (r : (Int32 × St)) (ho : o = (some (.int r.1), r.2)) (hF : fX11_readFeast_s7 a0 y1  S = some r) : GW z ad o S 7 [(0, .ref (ad a0)), (1, .int y1)] [] := by
  unfold fX11_readFeast_s7 at hF
  refine g_iload_n X dX11_readFeast_7 1 rfl rfl ?_
  refine g_bipush (v := 6) X dX11_readFeast_8 (by decide) ?_
  refine g_icmp_ne (tgt := 19) X dX11_readFeast_10 (by decide) (fun c_1 => ?_) (fun c_1 => ?_)
  · rw [if_neg c_1] at hF
    refine g_aload_n X dX11_readFeast_19 0 rfl rfl ?_
    obtain ⟨r_2, q_3, hF⟩ := obind hF
    refine g_callVv (As := []) X dX11_readFeast_20 mlX11_170 (fun l D cyy => tX11_step (cx_inj X) l D cyy a0 h0 S r_2 q_3) h0 (by decide) rfl rfl (Nat.le_of_ble_eq_true rfl) ?_
    refine g_aload_n X dX11_readFeast_23 0 rfl rfl ?_
    refine g_bipush (v := 16) X dX11_readFeast_24 (by decide) ?_
    refine g_iload_n X dX11_readFeast_26 1 rfl rfl ?_
    refine g_iadd X dX11_readFeast_27 ?_
    obtain ⟨r_4, q_5, hF⟩ := obind hF
    refine g_callVi (As := [.int ((16 : Int32) + y1)]) X dX11_readFeast_28 mlX11_215 (fun l D cyy => tX11_fresh (cx_inj X) l D cyy a0 ((16 : Int32) + y1) h0 r_2 r_4 q_5) h0 (by decide) rfl rfl (Nat.le_of_ble_eq_true rfl) ?_
    exact (wX11_readFeast_s31 X a0 h0 y1 r_4.1 r_4.2 r ho hF)
  · rw [if_pos c_1] at hF
    refine g_aload_n X dX11_readFeast_13 0 rfl rfl ?_
    refine g_iconst (v := 4) X dX11_readFeast_14 (by decide) ?_
    refine g_callVi (As := [.int (4 : Int32)]) X dX11_readFeast_15 mlX11_167 (fun l D cyy => tX11_bad (cx_inj X) l D cyy a0 (4 : Int32) h0 S) h0 (by decide) rfl rfl (Nat.le_of_ble_eq_true rfl) ?_
    exact g_perm [] rfl (wX11_readFeast_s18 X a0 h0 ((fX11_bad a0 (4 : Int32) S).1) ((fX11_bad a0 (4 : Int32) S).2) r ho hF)
theorem wX11_readFeast {z : Mx} {ad : Nat → Nat} {o : Option Value × St} (X : CxOk z ad RX11 cX11_readFeast 3 (some .boolean) 5) (a0 : Nat) (h0 : KT a0 = 11) (S : St) (r : (Int32 × St)) (ho : o = (some (.int r.1), r.2)) (hF : fX11_readFeast a0 S = some r) : GW z ad o S 0 [(0, .ref (ad a0))] [] := by
  unfold fX11_readFeast at hF
  refine g_aload_n X dX11_readFeast_0 0 rfl rfl ?_
  refine g_getR (f := 3) X dX11_readFeast_1 flX11_37 rfl rfl h0 ?_
  refine g_iconst (v := 1) X dX11_readFeast_4 (by decide) ?_
  refine g_ialdK (j := 1) X dX11_readFeast_5 kd_30 (on_11_7 h0) (by decide) (by decide) ?_
  refine g_istore_n X dX11_readFeast_6 rfl (by decide) (lv' := [(1, .int (gA S 30 (a0 + 3) 1)), (0, .ref (ad a0))]) rfl ?_
  exact g_perm [1, 0] rfl (wX11_readFeast_s7 X a0 h0 (gA S 30 (a0 + 3) 1) S r ho hF)
theorem tX11_readFeast {ad : Nat → Nat} (hI : Inj ad) (l : Launch) (D : va_G) (cyy : Nat → ClassId) (a0 : Nat) (h0 : KT a0 = 11) (S : St) (r : (Int32 × St)) (hF : fX11_readFeast a0 S = some r) : OkM l yX11_readFeast cX11_readFeast 3 (some .boolean) 5 ad D cyy [.ref (ad a0)] S (some (.int r.1), r.2) := okM_of hI (by decide) (inr_20 _ (List.mem_of_getElem? (i := 9) rfl)) (by show _ ≤ 3; exact Nat.le_of_ble_eq_true rfl) (fun z X => wX11_readFeast X a0 h0 S r rfl hF)
def fX11_line_s103 (a0 : Nat)  (t0 : Int32) (S : St) : Option (Int32 × St) :=
  if t0 = 0 then (some ((0 : Int32), S)) else
  (some ((1 : Int32), S))
def fX11_line_s92 (a0 : Nat)  (t0 : Int32) (S : St) : Option (Int32 × St) :=
  if t0 = 0 then (some ((0 : Int32), S)) else
  ((fX11_puts a0 (3 : Int32) (1 : Int32) (30 : Int32) S).bind fun r_11 =>
  fX11_line_s103 a0 r_11.1 r_11.2)
def fX11_line_s79 (a0 : Nat)   (S : St) : Option (Int32 × St) :=
  (fX11_step a0 S).bind fun r_6 =>
  (fX11_puts a0 (2 : Int32) (1 : Int32) (999 : Int32) r_6).bind fun r_8 =>
  fX11_line_s92 a0 r_8.1 r_8.2
def fX11_line_s73 (a0 : Nat)  (t0 : Int32) (S : St) : Option (Int32 × St) :=
  some ((vp_nar .boolean t0), S)
def fX11_line_s60 (a0 : Nat)  (t0 : Int32) (S : St) : Option (Int32 × St) :=
  some ((vp_nar .boolean t0), S)
def fX11_line_s44 (a0 : Nat)  (t0 : Int32) (S : St) : Option (Int32 × St) :=
  some ((vp_nar .boolean t0), S)
def fX11_line_s29 (a0 : Nat)  (t0 : Int32) (S : St) : Option (Int32 × St) :=
  some ((vp_nar .boolean t0), S)
def fX11_line_s14 (a0 : Nat)  (t0 : Int32) (S : St) : Option (Int32 × St) :=
  some ((vp_nar .boolean t0), S)
def fX11_line (a0 : Nat) (S : St) : Option (Int32 × St) :=
  if (fX11_isWord a0 (123563833652072 : Int64) S) = 0 then (if (fX11_isWord a0 (1818583408 : Int64) S) = 0 then (if (fX11_isWord a0 (439787549556 : Int64) S) = 0 then (if (fX11_isWord a0 (7566702 : Int64) S) = 0 then (fX11_line_s60 a0 ((fX11_bad a0 (1 : Int32) S).1) ((fX11_bad a0 (1 : Int32) S).2)) else
  (if (gI S 11 20 a0) = 0 then (fX11_line_s79 a0 (sI S 11 20 a0 (1 : Int32))) else
  (fX11_line_s73 a0 ((fX11_bad a0 (3 : Int32) S).1) ((fX11_bad a0 (3 : Int32) S).2)))) else
  ((fX11_readFeast a0 S).bind fun r_14 =>
  fX11_line_s44 a0 r_14.1 r_14.2)) else
  ((fX11_readLeap a0 S).bind fun r_16 =>
  fX11_line_s29 a0 r_16.1 r_16.2)) else
  ((fX11_readParish a0 S).bind fun r_18 =>
  fX11_line_s14 a0 r_18.1 r_18.2)
theorem wX11_line_s103 {z : Mx} {ad : Nat → Nat} {o : Option Value × St} (X : CxOk z ad RX11 cX11_line 1 (some .boolean) 6) (a0 : Nat) (h0 : KT a0 = 11)  (t0 : Int32)   (S : St) (r : (Int32 × St)) (ho : o = (some (.int r.1), r.2)) (hF : fX11_line_s103 a0  t0 S = some r) : GW z ad o S 103 [] [.int t0] := by
  unfold fX11_line_s103 at hF
  refine g_if_eq (tgt := 110) X dX11_line_103 (by decide) (fun c_13 => ?_) (fun c_13 => ?_)
  · rw [if_pos c_13] at hF
    refine g_iconst (v := 0) X dX11_line_110 (by decide) ?_
    have hF := Option.some.inj hF
    subst hF
    exact g_zret X dX11_line_111 (by decide) ho
  · rw [if_neg c_13] at hF
    refine g_iconst (v := 1) X dX11_line_106 (by decide) ?_
    refine g_goto (tgt := 111) X dX11_line_107 (by decide) ?_
    have hF := Option.some.inj hF
    subst hF
    exact g_zret X dX11_line_111 (by decide) ho
theorem wX11_line_s92 {z : Mx} {ad : Nat → Nat} {o : Option Value × St} (X : CxOk z ad RX11 cX11_line 1 (some .boolean) 6) (a0 : Nat) (h0 : KT a0 = 11)  (t0 : Int32)   (S : St) (r : (Int32 × St)) (ho : o = (some (.int r.1), r.2)) (hF : fX11_line_s92 a0  t0 S = some r) : GW z ad o S 92 [(0, .ref (ad a0))] [.int t0] := by
  unfold fX11_line_s92 at hF
  refine g_if_eq (tgt := 110) X dX11_line_92 (by decide) (fun c_10 => ?_) (fun c_10 => ?_)
  · rw [if_pos c_10] at hF
    refine g_iconst (v := 0) X dX11_line_110 (by decide) ?_
    have hF := Option.some.inj hF
    subst hF
    exact g_zret X dX11_line_111 (by decide) ho
  · rw [if_neg c_10] at hF
    refine g_aload_n X dX11_line_95 0 rfl rfl ?_
    refine g_iconst (v := 3) X dX11_line_96 (by decide) ?_
    refine g_iconst (v := 1) X dX11_line_97 (by decide) ?_
    refine g_bipush (v := 30) X dX11_line_98 (by decide) ?_
    obtain ⟨r_11, q_12, hF⟩ := obind hF
    refine g_callVi (As := [.int (3 : Int32), .int (1 : Int32), .int (30 : Int32)]) X dX11_line_100 mlX11_212 (fun l D cyy => tX11_puts (cx_inj X) l D cyy a0 (3 : Int32) (1 : Int32) (30 : Int32) h0 S r_11 q_12) h0 (by decide) rfl rfl (Nat.le_of_ble_eq_true rfl) ?_
    exact g_perm [] rfl (wX11_line_s103 X a0 h0 r_11.1 r_11.2 r ho hF)
theorem wX11_line_s79 {z : Mx} {ad : Nat → Nat} {o : Option Value × St} (X : CxOk z ad RX11 cX11_line 1 (some .boolean) 6) (a0 : Nat) (h0 : KT a0 = 11)     (S : St) (r : (Int32 × St)) (ho : o = (some (.int r.1), r.2)) (hF : fX11_line_s79 a0   S = some r) : GW z ad o S 79 [(0, .ref (ad a0))] [] := by
  unfold fX11_line_s79 at hF
  refine g_aload_n X dX11_line_79 0 rfl rfl ?_
  obtain ⟨r_6, q_7, hF⟩ := obind hF
  refine g_callVv (As := []) X dX11_line_80 mlX11_170 (fun l D cyy => tX11_step (cx_inj X) l D cyy a0 h0 S r_6 q_7) h0 (by decide) rfl rfl (Nat.le_of_ble_eq_true rfl) ?_
  refine g_aload_n X dX11_line_83 0 rfl rfl ?_
  refine g_iconst (v := 2) X dX11_line_84 (by decide) ?_
  refine g_iconst (v := 1) X dX11_line_85 (by decide) ?_
  refine g_sipush (v := 999) X dX11_line_86 (by decide) ?_
  obtain ⟨r_8, q_9, hF⟩ := obind hF
  refine g_callVi (As := [.int (2 : Int32), .int (1 : Int32), .int (999 : Int32)]) X dX11_line_89 mlX11_212 (fun l D cyy => tX11_puts (cx_inj X) l D cyy a0 (2 : Int32) (1 : Int32) (999 : Int32) h0 r_6 r_8 q_9) h0 (by decide) rfl rfl (Nat.le_of_ble_eq_true rfl) ?_
  exact (wX11_line_s92 X a0 h0 r_8.1 r_8.2 r ho hF)
theorem wX11_line_s73 {z : Mx} {ad : Nat → Nat} {o : Option Value × St} (X : CxOk z ad RX11 cX11_line 1 (some .boolean) 6) (a0 : Nat) (h0 : KT a0 = 11)  (t0 : Int32)   (S : St) (r : (Int32 × St)) (ho : o = (some (.int r.1), r.2)) (hF : fX11_line_s73 a0  t0 S = some r) : GW z ad o S 73 [] [.int t0] := by
  unfold fX11_line_s73 at hF
  have hF := Option.some.inj hF
  subst hF
  exact g_zretN X dX11_line_73 ho
theorem wX11_line_s60 {z : Mx} {ad : Nat → Nat} {o : Option Value × St} (X : CxOk z ad RX11 cX11_line 1 (some .boolean) 6) (a0 : Nat) (h0 : KT a0 = 11)  (t0 : Int32)   (S : St) (r : (Int32 × St)) (ho : o = (some (.int r.1), r.2)) (hF : fX11_line_s60 a0  t0 S = some r) : GW z ad o S 60 [] [.int t0] := by
  unfold fX11_line_s60 at hF
  have hF := Option.some.inj hF
  subst hF
  exact g_zretN X dX11_line_60 ho
theorem wX11_line_s44 {z : Mx} {ad : Nat → Nat} {o : Option Value × St} (X : CxOk z ad RX11 cX11_line 1 (some .boolean) 6) (a0 : Nat) (h0 : KT a0 = 11)  (t0 : Int32)   (S : St) (r : (Int32 × St)) (ho : o = (some (.int r.1), r.2)) (hF : fX11_line_s44 a0  t0 S = some r) : GW z ad o S 44 [] [.int t0] := by
  unfold fX11_line_s44 at hF
  have hF := Option.some.inj hF
  subst hF
  exact g_zretN X dX11_line_44 ho
theorem wX11_line_s29 {z : Mx} {ad : Nat → Nat} {o : Option Value × St} (X : CxOk z ad RX11 cX11_line 1 (some .boolean) 6) (a0 : Nat) (h0 : KT a0 = 11)  (t0 : Int32)   (S : St) (r : (Int32 × St)) (ho : o = (some (.int r.1), r.2)) (hF : fX11_line_s29 a0  t0 S = some r) : GW z ad o S 29 [] [.int t0] := by
  unfold fX11_line_s29 at hF
  have hF := Option.some.inj hF
  subst hF
  exact g_zretN X dX11_line_29 ho
theorem wX11_line_s14 {z : Mx} {ad : Nat → Nat} {o : Option Value × St} (X : CxOk z ad RX11 cX11_line 1 (some .boolean) 6) (a0 : Nat) (h0 : KT a0 = 11)  (t0 : Int32)   (S : St) (r : (Int32 × St)) (ho : o = (some (.int r.1), r.2)) (hF : fX11_line_s14 a0  t0 S = some r) : GW z ad o S 14 [] [.int t0] := by
  unfold fX11_line_s14 at hF
  have hF := Option.some.inj hF
  subst hF
  exact g_zretN X dX11_line_14 ho
theorem wX11_line {z : Mx} {ad : Nat → Nat} {o : Option Value × St} (X : CxOk z ad RX11 cX11_line 1 (some .boolean) 6) (a0 : Nat) (h0 : KT a0 = 11) (S : St) (r : (Int32 × St)) (ho : o = (some (.int r.1), r.2)) (hF : fX11_line a0 S = some r) : GW z ad o S 0 [(0, .ref (ad a0))] [] := by
  unfold fX11_line at hF
  refine g_aload_n X dX11_line_0 0 rfl rfl ?_
  refine g_ldc2 (v := 123563833652072) X dX11_line_1 (inr_7 _ (List.mem_of_getElem? (i := 10) rfl)) ?_
  refine g_callVi (As := [.long (123563833652072 : Int64)]) X dX11_line_4 mlX11_195 (fun l D cyy => tX11_isWord (cx_inj X) l D cyy a0 (123563833652072 : Int64) h0 S) h0 (by decide) rfl rfl (Nat.le_of_ble_eq_true rfl) ?_
  refine g_if_eq (tgt := 15) X dX11_line_7 (by decide) (fun c_1 => ?_) (fun c_1 => ?_)
  · rw [if_pos c_1] at hF
    refine g_aload_n X dX11_line_15 0 rfl rfl ?_
    refine g_ldc2 (v := 1818583408) X dX11_line_16 (inr_7 _ (List.mem_of_getElem? (i := 11) rfl)) ?_
    refine g_callVi (As := [.long (1818583408 : Int64)]) X dX11_line_19 mlX11_195 (fun l D cyy => tX11_isWord (cx_inj X) l D cyy a0 (1818583408 : Int64) h0 S) h0 (by decide) rfl rfl (Nat.le_of_ble_eq_true rfl) ?_
    refine g_if_eq (tgt := 30) X dX11_line_22 (by decide) (fun c_2 => ?_) (fun c_2 => ?_)
    · rw [if_pos c_2] at hF
      refine g_aload_n X dX11_line_30 0 rfl rfl ?_
      refine g_ldc2 (v := 439787549556) X dX11_line_31 (inr_7 _ (List.mem_of_getElem? (i := 12) rfl)) ?_
      refine g_callVi (As := [.long (439787549556 : Int64)]) X dX11_line_34 mlX11_195 (fun l D cyy => tX11_isWord (cx_inj X) l D cyy a0 (439787549556 : Int64) h0 S) h0 (by decide) rfl rfl (Nat.le_of_ble_eq_true rfl) ?_
      refine g_if_eq (tgt := 45) X dX11_line_37 (by decide) (fun c_3 => ?_) (fun c_3 => ?_)
      · rw [if_pos c_3] at hF
        refine g_aload_n X dX11_line_45 0 rfl rfl ?_
        refine g_ldc2 (v := 7566702) X dX11_line_46 (inr_7 _ (List.mem_of_getElem? (i := 13) rfl)) ?_
        refine g_callVi (As := [.long (7566702 : Int64)]) X dX11_line_49 mlX11_195 (fun l D cyy => tX11_isWord (cx_inj X) l D cyy a0 (7566702 : Int64) h0 S) h0 (by decide) rfl rfl (Nat.le_of_ble_eq_true rfl) ?_
        refine g_if_ne (tgt := 61) X dX11_line_52 (by decide) (fun c_4 => ?_) (fun c_4 => ?_)
        · rw [if_neg c_4] at hF
          refine g_aload_n X dX11_line_61 0 rfl rfl ?_
          refine g_getI X dX11_line_62 flX11_208 rfl h0 ?_
          refine g_if_eq (tgt := 74) X dX11_line_65 (by decide) (fun c_5 => ?_) (fun c_5 => ?_)
          · rw [if_pos c_5] at hF
            refine g_aload_n X dX11_line_74 0 rfl rfl ?_
            refine g_iconst (v := 1) X dX11_line_75 (by decide) ?_
            refine g_putI X dX11_line_76 fpX11_208 rfl (by decide) (by decide) h0 ?_
            exact (wX11_line_s79 X a0 h0 (sI S 11 20 a0 (1 : Int32)) r ho hF)
          · rw [if_neg c_5] at hF
            refine g_aload_n X dX11_line_68 0 rfl rfl ?_
            refine g_iconst (v := 3) X dX11_line_69 (by decide) ?_
            refine g_callVi (As := [.int (3 : Int32)]) X dX11_line_70 mlX11_167 (fun l D cyy => tX11_bad (cx_inj X) l D cyy a0 (3 : Int32) h0 S) h0 (by decide) rfl rfl (Nat.le_of_ble_eq_true rfl) ?_
            exact g_perm [] rfl (wX11_line_s73 X a0 h0 ((fX11_bad a0 (3 : Int32) S).1) ((fX11_bad a0 (3 : Int32) S).2) r ho hF)
        · rw [if_pos c_4] at hF
          refine g_aload_n X dX11_line_55 0 rfl rfl ?_
          refine g_iconst (v := 1) X dX11_line_56 (by decide) ?_
          refine g_callVi (As := [.int (1 : Int32)]) X dX11_line_57 mlX11_167 (fun l D cyy => tX11_bad (cx_inj X) l D cyy a0 (1 : Int32) h0 S) h0 (by decide) rfl rfl (Nat.le_of_ble_eq_true rfl) ?_
          exact g_perm [] rfl (wX11_line_s60 X a0 h0 ((fX11_bad a0 (1 : Int32) S).1) ((fX11_bad a0 (1 : Int32) S).2) r ho hF)
      · rw [if_neg c_3] at hF
        refine g_aload_n X dX11_line_40 0 rfl rfl ?_
        obtain ⟨r_14, q_15, hF⟩ := obind hF
        refine g_callVi (As := []) X dX11_line_41 mlX11_205 (fun l D cyy => tX11_readFeast (cx_inj X) l D cyy a0 h0 S r_14 q_15) h0 (by decide) rfl rfl (Nat.le_of_ble_eq_true rfl) ?_
        exact g_perm [] rfl (wX11_line_s44 X a0 h0 r_14.1 r_14.2 r ho hF)
    · rw [if_neg c_2] at hF
      refine g_aload_n X dX11_line_25 0 rfl rfl ?_
      obtain ⟨r_16, q_17, hF⟩ := obind hF
      refine g_callVi (As := []) X dX11_line_26 mlX11_202 (fun l D cyy => tX11_readLeap (cx_inj X) l D cyy a0 h0 S r_16 q_17) h0 (by decide) rfl rfl (Nat.le_of_ble_eq_true rfl) ?_
      exact g_perm [] rfl (wX11_line_s29 X a0 h0 r_16.1 r_16.2 r ho hF)
  · rw [if_neg c_1] at hF
    refine g_aload_n X dX11_line_10 0 rfl rfl ?_
    obtain ⟨r_18, q_19, hF⟩ := obind hF
    refine g_callVi (As := []) X dX11_line_11 mlX11_199 (fun l D cyy => tX11_readParish (cx_inj X) l D cyy a0 h0 S r_18 q_19) h0 (by decide) rfl rfl (Nat.le_of_ble_eq_true rfl) ?_
    exact g_perm [] rfl (wX11_line_s14 X a0 h0 r_18.1 r_18.2 r ho hF)
theorem tX11_line {ad : Nat → Nat} (hI : Inj ad) (l : Launch) (D : va_G) (cyy : Nat → ClassId) (a0 : Nat) (h0 : KT a0 = 11) (S : St) (r : (Int32 × St)) (hF : fX11_line a0 S = some r) : OkM l yX11_line cX11_line 1 (some .boolean) 6 ad D cyy [.ref (ad a0)] S (some (.int r.1), r.2) := okM_of hI (by decide) (inr_18 _ (List.mem_of_getElem? (i := 9) rfl)) (by show _ ≤ 1; exact Nat.le_of_ble_eq_true rfl) (fun z X => wX11_line X a0 h0 S r rfl hF)
