theorem dX11_lays_0 : decode cX11_lays 0 = .ok (.aload_n 0, 1) := by decide +kernel
theorem dX11_lays_1 : decode cX11_lays 1 = .ok (.getfield 68, 3) := by decide +kernel
theorem dX11_lays_4 : decode cX11_lays 4 = .ok (.aload_n 0, 1) := by decide +kernel
theorem dX11_lays_5 : decode cX11_lays 5 = .ok (.getfield 347, 3) := by decide +kernel
theorem dX11_lays_8 : decode cX11_lays 8 = .ok (.iload_n 1, 1) := by decide +kernel
theorem dX11_lays_9 : decode cX11_lays 9 = .ok (.i2b, 1) := by decide +kernel
theorem dX11_lays_10 : decode cX11_lays 10 = .ok (.bastore, 1) := by decide +kernel
theorem dX11_lays_11 : decode cX11_lays 11 = .ok (.aload_n 0, 1) := by decide +kernel
theorem dX11_lays_12 : decode cX11_lays 12 = .ok (.dup, 1) := by decide +kernel
theorem dX11_lays_13 : decode cX11_lays 13 = .ok (.getfield 347, 3) := by decide +kernel
theorem dX11_lays_16 : decode cX11_lays 16 = .ok (.iconst 1, 1) := by decide +kernel
theorem dX11_lays_17 : decode cX11_lays 17 = .ok (.iadd, 1) := by decide +kernel
theorem dX11_lays_18 : decode cX11_lays 18 = .ok (.putfield 347, 3) := by decide +kernel
theorem dX11_lays_21 : decode cX11_lays 21 = .ok (.return_, 1) := by decide +kernel
theorem dX11_spells_0 : decode cX11_spells 0 = .ok (.bipush 56, 2) := by decide +kernel
theorem dX11_spells_2 : decode cX11_spells 2 = .ok (.istore_n 3, 1) := by decide +kernel
theorem dX11_spells_3 : decode cX11_spells 3 = .ok (.iload_n 3, 1) := by decide +kernel
theorem dX11_spells_4 : decode cX11_spells 4 = .ok (.ifCond .lt 33, 3) := by decide +kernel
theorem dX11_spells_7 : decode cX11_spells 7 = .ok (.lload_n 1, 1) := by decide +kernel
theorem dX11_spells_8 : decode cX11_spells 8 = .ok (.iload_n 3, 1) := by decide +kernel
theorem dX11_spells_9 : decode cX11_spells 9 = .ok (.lshr, 1) := by decide +kernel
theorem dX11_spells_10 : decode cX11_spells 10 = .ok (.ldc2_w 350, 3) := by decide +kernel
theorem dX11_spells_13 : decode cX11_spells 13 = .ok (.land, 1) := by decide +kernel
theorem dX11_spells_14 : decode cX11_spells 14 = .ok (.lconst 0, 1) := by decide +kernel
theorem dX11_spells_15 : decode cX11_spells 15 = .ok (.lcmp, 1) := by decide +kernel
theorem dX11_spells_16 : decode cX11_spells 16 = .ok (.ifCond .eq 15, 3) := by decide +kernel
theorem dX11_spells_19 : decode cX11_spells 19 = .ok (.aload_n 0, 1) := by decide +kernel
theorem dX11_spells_20 : decode cX11_spells 20 = .ok (.lload_n 1, 1) := by decide +kernel
theorem dX11_spells_21 : decode cX11_spells 21 = .ok (.iload_n 3, 1) := by decide +kernel
theorem dX11_spells_22 : decode cX11_spells 22 = .ok (.lshr, 1) := by decide +kernel
theorem dX11_spells_23 : decode cX11_spells 23 = .ok (.ldc2_w 350, 3) := by decide +kernel
theorem dX11_spells_26 : decode cX11_spells 26 = .ok (.land, 1) := by decide +kernel
theorem dX11_spells_27 : decode cX11_spells 27 = .ok (.l2i, 1) := by decide +kernel
theorem dX11_spells_28 : decode cX11_spells 28 = .ok (.invokevirtual 352, 3) := by decide +kernel
theorem dX11_spells_31 : decode cX11_spells 31 = .ok (.iinc 3 (-8), 3) := by decide +kernel
theorem dX11_spells_34 : decode cX11_spells 34 = .ok (.goto (-31), 3) := by decide +kernel
theorem dX11_spells_37 : decode cX11_spells 37 = .ok (.return_, 1) := by decide +kernel
theorem dX11_says_0 : decode cX11_says 0 = .ok (.aload_n 0, 1) := by decide +kernel
theorem dX11_says_1 : decode cX11_says 1 = .ok (.bipush 32, 2) := by decide +kernel
theorem dX11_says_3 : decode cX11_says 3 = .ok (.invokevirtual 352, 3) := by decide +kernel
theorem dX11_says_6 : decode cX11_says 6 = .ok (.aload_n 0, 1) := by decide +kernel
theorem dX11_says_7 : decode cX11_says 7 = .ok (.lload_n 1, 1) := by decide +kernel
theorem dX11_says_8 : decode cX11_says 8 = .ok (.invokevirtual 355, 3) := by decide +kernel
theorem dX11_says_11 : decode cX11_says 11 = .ok (.return_, 1) := by decide +kernel
theorem dX11_saysOf_0 : decode cX11_saysOf 0 = .ok (.aload_n 0, 1) := by decide +kernel
theorem dX11_saysOf_1 : decode cX11_saysOf 1 = .ok (.lload_n 1, 1) := by decide +kernel
theorem dX11_saysOf_2 : decode cX11_saysOf 2 = .ok (.invokevirtual 359, 3) := by decide +kernel
theorem dX11_saysOf_5 : decode cX11_saysOf 5 = .ok (.aload_n 0, 1) := by decide +kernel
theorem dX11_saysOf_6 : decode cX11_saysOf 6 = .ok (.bipush 32, 2) := by decide +kernel
theorem dX11_saysOf_8 : decode cX11_saysOf 8 = .ok (.invokevirtual 352, 3) := by decide +kernel
theorem dX11_saysOf_11 : decode cX11_saysOf 11 = .ok (.iconst 1, 1) := by decide +kernel
theorem dX11_saysOf_12 : decode cX11_saysOf 12 = .ok (.istore 4, 2) := by decide +kernel
theorem dX11_saysOf_14 : decode cX11_saysOf 14 = .ok (.iload_n 3, 1) := by decide +kernel
theorem dX11_saysOf_15 : decode cX11_saysOf 15 = .ok (.iload 4, 2) := by decide +kernel
theorem dX11_saysOf_17 : decode cX11_saysOf 17 = .ok (.idiv, 1) := by decide +kernel
theorem dX11_saysOf_18 : decode cX11_saysOf 18 = .ok (.bipush 9, 2) := by decide +kernel
theorem dX11_saysOf_20 : decode cX11_saysOf 20 = .ok (.if_icmp .le 13, 3) := by decide +kernel
theorem dX11_saysOf_23 : decode cX11_saysOf 23 = .ok (.iload 4, 2) := by decide +kernel
theorem dX11_saysOf_25 : decode cX11_saysOf 25 = .ok (.bipush 10, 2) := by decide +kernel
theorem dX11_saysOf_27 : decode cX11_saysOf 27 = .ok (.imul, 1) := by decide +kernel
theorem dX11_saysOf_28 : decode cX11_saysOf 28 = .ok (.istore 4, 2) := by decide +kernel
theorem dX11_saysOf_30 : decode cX11_saysOf 30 = .ok (.goto (-16), 3) := by decide +kernel
theorem dX11_saysOf_33 : decode cX11_saysOf 33 = .ok (.iload 4, 2) := by decide +kernel
theorem dX11_saysOf_35 : decode cX11_saysOf 35 = .ok (.ifCond .le 27, 3) := by decide +kernel
theorem dX11_saysOf_38 : decode cX11_saysOf 38 = .ok (.aload_n 0, 1) := by decide +kernel
theorem dX11_saysOf_39 : decode cX11_saysOf 39 = .ok (.bipush 48, 2) := by decide +kernel
theorem dX11_saysOf_41 : decode cX11_saysOf 41 = .ok (.iload_n 3, 1) := by decide +kernel
theorem dX11_saysOf_42 : decode cX11_saysOf 42 = .ok (.iload 4, 2) := by decide +kernel
theorem dX11_saysOf_44 : decode cX11_saysOf 44 = .ok (.idiv, 1) := by decide +kernel
theorem dX11_saysOf_45 : decode cX11_saysOf 45 = .ok (.bipush 10, 2) := by decide +kernel
theorem dX11_saysOf_47 : decode cX11_saysOf 47 = .ok (.irem, 1) := by decide +kernel
theorem dX11_saysOf_48 : decode cX11_saysOf 48 = .ok (.iadd, 1) := by decide +kernel
theorem dX11_saysOf_49 : decode cX11_saysOf 49 = .ok (.invokevirtual 352, 3) := by decide +kernel
theorem dX11_saysOf_52 : decode cX11_saysOf 52 = .ok (.iload 4, 2) := by decide +kernel
theorem dX11_saysOf_54 : decode cX11_saysOf 54 = .ok (.bipush 10, 2) := by decide +kernel
theorem dX11_saysOf_56 : decode cX11_saysOf 56 = .ok (.idiv, 1) := by decide +kernel
theorem dX11_saysOf_57 : decode cX11_saysOf 57 = .ok (.istore 4, 2) := by decide +kernel
theorem dX11_saysOf_59 : decode cX11_saysOf 59 = .ok (.goto (-26), 3) := by decide +kernel
theorem dX11_saysOf_62 : decode cX11_saysOf 62 = .ok (.return_, 1) := by decide +kernel
theorem dX11_title_0 : decode cX11_title 0 = .ok (.aload_n 0, 1) := by decide +kernel
theorem dX11_title_1 : decode cX11_title 1 = .ok (.iconst 0, 1) := by decide +kernel
theorem dX11_title_2 : decode cX11_title 2 = .ok (.putfield 1, 3) := by decide +kernel
theorem dX11_title_5 : decode cX11_title 5 = .ok (.aload_n 0, 1) := by decide +kernel
theorem dX11_title_6 : decode cX11_title 6 = .ok (.iload_n 1, 1) := by decide +kernel
theorem dX11_title_7 : decode cX11_title 7 = .ok (.invokevirtual 267, 3) := by decide +kernel
theorem dX11_title_10 : decode cX11_title 10 = .ok (.ifCond .ne 5, 3) := by decide +kernel
theorem dX11_title_13 : decode cX11_title 13 = .ok (.iconst (-1), 1) := by decide +kernel
theorem dX11_title_14 : decode cX11_title 14 = .ok (.ireturn, 1) := by decide +kernel
theorem dX11_title_15 : decode cX11_title 15 = .ok (.aload_n 0, 1) := by decide +kernel
theorem dX11_title_16 : decode cX11_title 16 = .ok (.iconst 0, 1) := by decide +kernel
theorem dX11_title_17 : decode cX11_title 17 = .ok (.putfield 347, 3) := by decide +kernel
theorem dX11_title_20 : decode cX11_title 20 = .ok (.aload_n 0, 1) := by decide +kernel
theorem dX11_title_21 : decode cX11_title 21 = .ok (.aload_n 0, 1) := by decide +kernel
theorem dX11_title_22 : decode cX11_title 22 = .ok (.getfield 43, 3) := by decide +kernel
theorem dX11_title_25 : decode cX11_title 25 = .ok (.iload_n 1, 1) := by decide +kernel
theorem dX11_title_26 : decode cX11_title 26 = .ok (.laload, 1) := by decide +kernel
theorem dX11_title_27 : decode cX11_title 27 = .ok (.invokevirtual 355, 3) := by decide +kernel
theorem dX11_title_30 : decode cX11_title 30 = .ok (.aload_n 0, 1) := by decide +kernel
theorem dX11_title_31 : decode cX11_title 31 = .ok (.ldc2_w 118, 3) := by decide +kernel
theorem dX11_title_34 : decode cX11_title 34 = .ok (.aload_n 0, 1) := by decide +kernel
theorem dX11_title_35 : decode cX11_title 35 = .ok (.iload_n 1, 1) := by decide +kernel
theorem dX11_title_36 : decode cX11_title 36 = .ok (.aload_n 0, 1) := by decide +kernel
theorem dX11_title_37 : decode cX11_title 37 = .ok (.getfield 33, 3) := by decide +kernel
theorem dX11_title_40 : decode cX11_title 40 = .ok (.bipush 54, 2) := by decide +kernel
theorem dX11_title_42 : decode cX11_title 42 = .ok (.iload_n 1, 1) := by decide +kernel
theorem dX11_title_43 : decode cX11_title 43 = .ok (.iadd, 1) := by decide +kernel
theorem dX11_title_44 : decode cX11_title 44 = .ok (.iaload, 1) := by decide +kernel
theorem dX11_title_45 : decode cX11_title 45 = .ok (.invokevirtual 246, 3) := by decide +kernel
theorem dX11_title_48 : decode cX11_title 48 = .ok (.invokevirtual 362, 3) := by decide +kernel
theorem dX11_title_51 : decode cX11_title 51 = .ok (.aload_n 0, 1) := by decide +kernel
theorem dX11_title_52 : decode cX11_title 52 = .ok (.iload_n 1, 1) := by decide +kernel
theorem dX11_title_53 : decode cX11_title 53 = .ok (.invokevirtual 288, 3) := by decide +kernel
theorem dX11_title_56 : decode cX11_title 56 = .ok (.ifCond .eq 21, 3) := by decide +kernel
theorem dX11_title_59 : decode cX11_title 59 = .ok (.aload_n 0, 1) := by decide +kernel
theorem dX11_title_60 : decode cX11_title 60 = .ok (.ldc2_w 110, 3) := by decide +kernel
theorem dX11_title_63 : decode cX11_title 63 = .ok (.aload_n 0, 1) := by decide +kernel
theorem dX11_title_64 : decode cX11_title 64 = .ok (.iload_n 1, 1) := by decide +kernel
theorem dX11_title_65 : decode cX11_title 65 = .ok (.invokevirtual 264, 3) := by decide +kernel
theorem dX11_title_68 : decode cX11_title 68 = .ok (.bipush 32, 2) := by decide +kernel
theorem dX11_title_70 : decode cX11_title 70 = .ok (.irem, 1) := by decide +kernel
theorem dX11_title_71 : decode cX11_title 71 = .ok (.invokevirtual 362, 3) := by decide +kernel
theorem dX11_title_74 : decode cX11_title 74 = .ok (.goto 33, 3) := by decide +kernel
theorem dX11_title_77 : decode cX11_title 77 = .ok (.aload_n 0, 1) := by decide +kernel
theorem dX11_title_78 : decode cX11_title 78 = .ok (.ldc2_w 120, 3) := by decide +kernel
theorem dX11_title_81 : decode cX11_title 81 = .ok (.aload_n 0, 1) := by decide +kernel
theorem dX11_title_82 : decode cX11_title 82 = .ok (.iload_n 1, 1) := by decide +kernel
theorem dX11_title_83 : decode cX11_title 83 = .ok (.invokevirtual 264, 3) := by decide +kernel
theorem dX11_title_86 : decode cX11_title 86 = .ok (.bipush 32, 2) := by decide +kernel
theorem dX11_title_88 : decode cX11_title 88 = .ok (.idiv, 1) := by decide +kernel
theorem dX11_title_89 : decode cX11_title 89 = .ok (.invokevirtual 362, 3) := by decide +kernel
theorem dX11_title_92 : decode cX11_title 92 = .ok (.aload_n 0, 1) := by decide +kernel
theorem dX11_title_93 : decode cX11_title 93 = .ok (.ldc2_w 102, 3) := by decide +kernel
theorem dX11_title_96 : decode cX11_title 96 = .ok (.aload_n 0, 1) := by decide +kernel
theorem dX11_title_97 : decode cX11_title 97 = .ok (.iload_n 1, 1) := by decide +kernel
theorem dX11_title_98 : decode cX11_title 98 = .ok (.invokevirtual 264, 3) := by decide +kernel
theorem dX11_title_101 : decode cX11_title 101 = .ok (.bipush 32, 2) := by decide +kernel
theorem dX11_title_103 : decode cX11_title 103 = .ok (.irem, 1) := by decide +kernel
theorem dX11_title_104 : decode cX11_title 104 = .ok (.invokevirtual 362, 3) := by decide +kernel
theorem dX11_title_107 : decode cX11_title 107 = .ok (.aload_n 0, 1) := by decide +kernel
theorem dX11_title_108 : decode cX11_title 108 = .ok (.iload_n 1, 1) := by decide +kernel
theorem dX11_title_109 : decode cX11_title 109 = .ok (.invokevirtual 255, 3) := by decide +kernel
theorem dX11_title_112 : decode cX11_title 112 = .ok (.ifCond .eq 10, 3) := by decide +kernel
theorem dX11_title_115 : decode cX11_title 115 = .ok (.aload_n 0, 1) := by decide +kernel
theorem dX11_title_116 : decode cX11_title 116 = .ok (.ldc2_w 112, 3) := by decide +kernel
theorem dX11_title_119 : decode cX11_title 119 = .ok (.invokevirtual 359, 3) := by decide +kernel
theorem dX11_title_122 : decode cX11_title 122 = .ok (.aload_n 0, 1) := by decide +kernel
theorem dX11_title_123 : decode cX11_title 123 = .ok (.getfield 347, 3) := by decide +kernel
theorem dX11_title_126 : decode cX11_title 126 = .ok (.ireturn, 1) := by decide +kernel
theorem dX11_byteAt_0 : decode cX11_byteAt 0 = .ok (.aload_n 0, 1) := by decide +kernel
theorem dX11_byteAt_1 : decode cX11_byteAt 1 = .ok (.iconst 0, 1) := by decide +kernel
theorem dX11_byteAt_2 : decode cX11_byteAt 2 = .ok (.putfield 1, 3) := by decide +kernel
theorem dX11_byteAt_5 : decode cX11_byteAt 5 = .ok (.iload_n 1, 1) := by decide +kernel
theorem dX11_byteAt_6 : decode cX11_byteAt 6 = .ok (.iconst 0, 1) := by decide +kernel
theorem dX11_byteAt_7 : decode cX11_byteAt 7 = .ok (.aload_n 0, 1) := by decide +kernel
theorem dX11_byteAt_8 : decode cX11_byteAt 8 = .ok (.getfield 347, 3) := by decide +kernel
theorem dX11_byteAt_11 : decode cX11_byteAt 11 = .ok (.iconst 1, 1) := by decide +kernel
theorem dX11_byteAt_12 : decode cX11_byteAt 12 = .ok (.isub, 1) := by decide +kernel
theorem dX11_byteAt_13 : decode cX11_byteAt 13 = .ok (.invokestatic 173, 3) := by decide +kernel
theorem dX11_byteAt_16 : decode cX11_byteAt 16 = .ok (.ifCond .eq 12, 3) := by decide +kernel
theorem dX11_byteAt_19 : decode cX11_byteAt 19 = .ok (.aload_n 0, 1) := by decide +kernel
theorem dX11_byteAt_20 : decode cX11_byteAt 20 = .ok (.getfield 68, 3) := by decide +kernel
theorem dX11_byteAt_23 : decode cX11_byteAt 23 = .ok (.iload_n 1, 1) := by decide +kernel
theorem dX11_byteAt_24 : decode cX11_byteAt 24 = .ok (.baload, 1) := by decide +kernel
theorem dX11_byteAt_25 : decode cX11_byteAt 25 = .ok (.goto 4, 3) := by decide +kernel
theorem dX11_byteAt_28 : decode cX11_byteAt 28 = .ok (.iconst (-1), 1) := by decide +kernel
theorem dX11_byteAt_29 : decode cX11_byteAt 29 = .ok (.ireturn, 1) := by decide +kernel
theorem dX11_draw_0 : decode cX11_draw 0 = .ok (.aload_n 0, 1) := by decide +kernel
theorem dX11_draw_1 : decode cX11_draw 1 = .ok (.aload_n 0, 1) := by decide +kernel
theorem dX11_draw_2 : decode cX11_draw 2 = .ok (.getfield 366, 3) := by decide +kernel
theorem dX11_draw_5 : decode cX11_draw 5 = .ok (.ldc_w 369, 3) := by decide +kernel
theorem dX11_draw_8 : decode cX11_draw 8 = .ok (.imul, 1) := by decide +kernel
theorem dX11_draw_9 : decode cX11_draw 9 = .ok (.sipush 12345, 3) := by decide +kernel
theorem dX11_draw_12 : decode cX11_draw 12 = .ok (.iadd, 1) := by decide +kernel
theorem dX11_draw_13 : decode cX11_draw 13 = .ok (.putfield 366, 3) := by decide +kernel
theorem dX11_draw_16 : decode cX11_draw 16 = .ok (.aload_n 0, 1) := by decide +kernel
theorem dX11_draw_17 : decode cX11_draw 17 = .ok (.getfield 366, 3) := by decide +kernel
theorem dX11_draw_20 : decode cX11_draw 20 = .ok (.bipush 8, 2) := by decide +kernel
theorem dX11_draw_22 : decode cX11_draw 22 = .ok (.iushr, 1) := by decide +kernel
theorem dX11_draw_23 : decode cX11_draw 23 = .ok (.iload_n 1, 1) := by decide +kernel
theorem dX11_draw_24 : decode cX11_draw 24 = .ok (.irem, 1) := by decide +kernel
theorem dX11_draw_25 : decode cX11_draw 25 = .ok (.ireturn, 1) := by decide +kernel
theorem dX11_drawParish_0 : decode cX11_drawParish 0 = .ok (.aload_n 0, 1) := by decide +kernel
theorem dX11_drawParish_1 : decode cX11_drawParish 1 = .ok (.bipush 12, 2) := by decide +kernel
theorem dX11_drawParish_3 : decode cX11_drawParish 3 = .ok (.invokevirtual 370, 3) := by decide +kernel
theorem dX11_drawParish_6 : decode cX11_drawParish 6 = .ok (.istore_n 2, 1) := by decide +kernel
theorem dX11_drawParish_7 : decode cX11_drawParish 7 = .ok (.iload_n 2, 1) := by decide +kernel
theorem dX11_drawParish_8 : decode cX11_drawParish 8 = .ok (.ifCond .ne 16, 3) := by decide +kernel
theorem dX11_drawParish_11 : decode cX11_drawParish 11 = .ok (.aload_n 0, 1) := by decide +kernel
theorem dX11_drawParish_12 : decode cX11_drawParish 12 = .ok (.iload_n 1, 1) := by decide +kernel
theorem dX11_drawParish_13 : decode cX11_drawParish 13 = .ok (.invokevirtual 297, 3) := by decide +kernel
theorem dX11_drawParish_16 : decode cX11_drawParish 16 = .ok (.ifCond .ne 8, 3) := by decide +kernel
theorem dX11_drawParish_19 : decode cX11_drawParish 19 = .ok (.aload_n 0, 1) := by decide +kernel
theorem dX11_drawParish_20 : decode cX11_drawParish 20 = .ok (.iload_n 1, 1) := by decide +kernel
theorem dX11_drawParish_21 : decode cX11_drawParish 21 = .ok (.invokevirtual 303, 3) := by decide +kernel
theorem dX11_drawParish_24 : decode cX11_drawParish 24 = .ok (.iload_n 2, 1) := by decide +kernel
theorem dX11_drawParish_25 : decode cX11_drawParish 25 = .ok (.iconst 1, 1) := by decide +kernel
theorem dX11_drawParish_26 : decode cX11_drawParish 26 = .ok (.if_icmp .eq 4, 3) := by decide +kernel
theorem dX11_drawParish_29 : decode cX11_drawParish 29 = .ok (.return_, 1) := by decide +kernel
theorem dX11_drawParish_30 : decode cX11_drawParish 30 = .ok (.aload_n 0, 1) := by decide +kernel
theorem dX11_drawParish_31 : decode cX11_drawParish 31 = .ok (.bipush 9, 2) := by decide +kernel
theorem dX11_drawParish_33 : decode cX11_drawParish 33 = .ok (.invokevirtual 370, 3) := by decide +kernel
theorem dX11_drawParish_36 : decode cX11_drawParish 36 = .ok (.iconst 1, 1) := by decide +kernel
theorem dX11_drawParish_37 : decode cX11_drawParish 37 = .ok (.iadd, 1) := by decide +kernel
theorem dX11_drawParish_38 : decode cX11_drawParish 38 = .ok (.istore_n 3, 1) := by decide +kernel
theorem dX11_drawParish_39 : decode cX11_drawParish 39 = .ok (.aload_n 0, 1) := by decide +kernel
theorem dX11_drawParish_40 : decode cX11_drawParish 40 = .ok (.iload_n 1, 1) := by decide +kernel
theorem dX11_drawParish_41 : decode cX11_drawParish 41 = .ok (.iload_n 3, 1) := by decide +kernel
theorem dX11_drawParish_42 : decode cX11_drawParish 42 = .ok (.invokevirtual 306, 3) := by decide +kernel
theorem dX11_drawParish_45 : decode cX11_drawParish 45 = .ok (.ifCond .ne 9, 3) := by decide +kernel
theorem dX11_drawParish_48 : decode cX11_drawParish 48 = .ok (.aload_n 0, 1) := by decide +kernel
theorem dX11_drawParish_49 : decode cX11_drawParish 49 = .ok (.iload_n 1, 1) := by decide +kernel
theorem dX11_drawParish_50 : decode cX11_drawParish 50 = .ok (.iload_n 3, 1) := by decide +kernel
theorem dX11_drawParish_51 : decode cX11_drawParish 51 = .ok (.invokevirtual 309, 3) := by decide +kernel
theorem dX11_drawParish_54 : decode cX11_drawParish 54 = .ok (.return_, 1) := by decide +kernel
theorem dX11_drawDay_0 : decode cX11_drawDay 0 = .ok (.iconst 0, 1) := by decide +kernel
theorem dX11_drawDay_1 : decode cX11_drawDay 1 = .ok (.istore_n 1, 1) := by decide +kernel
theorem dX11_drawDay_2 : decode cX11_drawDay 2 = .ok (.iload_n 1, 1) := by decide +kernel
theorem dX11_drawDay_3 : decode cX11_drawDay 3 = .ok (.aload_n 0, 1) := by decide +kernel
theorem dX11_drawDay_4 : decode cX11_drawDay 4 = .ok (.getfield 33, 3) := by decide +kernel
theorem dX11_drawDay_7 : decode cX11_drawDay 7 = .ok (.iconst 0, 1) := by decide +kernel
theorem dX11_drawDay_8 : decode cX11_drawDay 8 = .ok (.iaload, 1) := by decide +kernel
theorem dX11_drawDay_9 : decode cX11_drawDay 9 = .ok (.if_icmp .ge 14, 3) := by decide +kernel
theorem dX11_drawDay_12 : decode cX11_drawDay 12 = .ok (.aload_n 0, 1) := by decide +kernel
theorem dX11_drawDay_13 : decode cX11_drawDay 13 = .ok (.iload_n 1, 1) := by decide +kernel
theorem dX11_drawDay_14 : decode cX11_drawDay 14 = .ok (.invokevirtual 373, 3) := by decide +kernel
theorem dX11_drawDay_17 : decode cX11_drawDay 17 = .ok (.iinc 1 1, 3) := by decide +kernel
theorem dX11_drawDay_20 : decode cX11_drawDay 20 = .ok (.goto (-18), 3) := by decide +kernel
theorem dX11_drawDay_23 : decode cX11_drawDay 23 = .ok (.aload_n 0, 1) := by decide +kernel
theorem dX11_drawDay_24 : decode cX11_drawDay 24 = .ok (.invokevirtual 294, 3) := by decide +kernel
theorem dX11_drawDay_27 : decode cX11_drawDay 27 = .ok (.return_, 1) := by decide +kernel
theorem dX11_drawn_0 : decode cX11_drawn 0 = .ok (.aload_n 0, 1) := by decide +kernel
theorem dX11_drawn_1 : decode cX11_drawn 1 = .ok (.iconst 0, 1) := by decide +kernel
theorem dX11_drawn_2 : decode cX11_drawn 2 = .ok (.putfield 1, 3) := by decide +kernel
theorem dX11_drawn_5 : decode cX11_drawn 5 = .ok (.iload_n 1, 1) := by decide +kernel
theorem dX11_drawn_6 : decode cX11_drawn 6 = .ok (.iconst 1, 1) := by decide +kernel
theorem dX11_drawn_7 : decode cX11_drawn 7 = .ok (.bipush 99, 2) := by decide +kernel
theorem dX11_drawn_9 : decode cX11_drawn 9 = .ok (.invokestatic 173, 3) := by decide +kernel
theorem dX11_drawn_12 : decode cX11_drawn 12 = .ok (.ifCond .ne 5, 3) := by decide +kernel
theorem dX11_drawn_15 : decode cX11_drawn 15 = .ok (.iconst (-1), 1) := by decide +kernel
theorem dX11_drawn_16 : decode cX11_drawn 16 = .ok (.ireturn, 1) := by decide +kernel
theorem dX11_drawn_17 : decode cX11_drawn 17 = .ok (.aload_n 0, 1) := by decide +kernel
theorem dX11_drawn_18 : decode cX11_drawn 18 = .ok (.getfield 33, 3) := by decide +kernel
theorem dX11_drawn_21 : decode cX11_drawn 21 = .ok (.bipush 52, 2) := by decide +kernel
theorem dX11_drawn_23 : decode cX11_drawn 23 = .ok (.iaload, 1) := by decide +kernel
theorem dX11_drawn_24 : decode cX11_drawn 24 = .ok (.sipush 10000, 3) := by decide +kernel
theorem dX11_drawn_27 : decode cX11_drawn 27 = .ok (.if_icmp .ne 5, 3) := by decide +kernel
theorem dX11_drawn_30 : decode cX11_drawn 30 = .ok (.iconst 0, 1) := by decide +kernel
theorem dX11_drawn_31 : decode cX11_drawn 31 = .ok (.ireturn, 1) := by decide +kernel
theorem dX11_drawn_32 : decode cX11_drawn 32 = .ok (.aload_n 0, 1) := by decide +kernel
theorem dX11_drawn_33 : decode cX11_drawn 33 = .ok (.invokevirtual 300, 3) := by decide +kernel
theorem dX11_drawn_36 : decode cX11_drawn 36 = .ok (.aload_n 0, 1) := by decide +kernel
theorem dX11_drawn_37 : decode cX11_drawn 37 = .ok (.iload_n 2, 1) := by decide +kernel
theorem dX11_drawn_38 : decode cX11_drawn 38 = .ok (.putfield 366, 3) := by decide +kernel
theorem dX11_drawn_41 : decode cX11_drawn 41 = .ok (.iconst 0, 1) := by decide +kernel
theorem dX11_drawn_42 : decode cX11_drawn 42 = .ok (.istore_n 3, 1) := by decide +kernel
theorem dX11_drawn_43 : decode cX11_drawn 43 = .ok (.iload_n 3, 1) := by decide +kernel
theorem dX11_drawn_44 : decode cX11_drawn 44 = .ok (.iload_n 1, 1) := by decide +kernel
theorem dX11_drawn_45 : decode cX11_drawn 45 = .ok (.if_icmp .ge 26, 3) := by decide +kernel
theorem dX11_drawn_48 : decode cX11_drawn 48 = .ok (.aload_n 0, 1) := by decide +kernel
theorem dX11_drawn_49 : decode cX11_drawn 49 = .ok (.getfield 33, 3) := by decide +kernel
theorem dX11_drawn_52 : decode cX11_drawn 52 = .ok (.bipush 52, 2) := by decide +kernel
theorem dX11_drawn_54 : decode cX11_drawn 54 = .ok (.iaload, 1) := by decide +kernel
theorem dX11_drawn_55 : decode cX11_drawn 55 = .ok (.sipush 10000, 3) := by decide +kernel
theorem dX11_drawn_58 : decode cX11_drawn 58 = .ok (.if_icmp .ge 13, 3) := by decide +kernel
theorem dX11_drawn_61 : decode cX11_drawn 61 = .ok (.aload_n 0, 1) := by decide +kernel
theorem dX11_drawn_62 : decode cX11_drawn 62 = .ok (.invokevirtual 376, 3) := by decide +kernel
theorem dX11_drawn_65 : decode cX11_drawn 65 = .ok (.iinc 3 1, 3) := by decide +kernel
theorem dX11_drawn_68 : decode cX11_drawn 68 = .ok (.goto (-25), 3) := by decide +kernel
theorem dX11_drawn_71 : decode cX11_drawn 71 = .ok (.iload_n 3, 1) := by decide +kernel
theorem dX11_drawn_72 : decode cX11_drawn 72 = .ok (.ireturn, 1) := by decide +kernel
theorem dX11_odds_0 : decode cX11_odds 0 = .ok (.aload_n 0, 1) := by decide +kernel
theorem dX11_odds_1 : decode cX11_odds 1 = .ok (.iconst 0, 1) := by decide +kernel
theorem dX11_odds_2 : decode cX11_odds 2 = .ok (.putfield 1, 3) := by decide +kernel
theorem dX11_odds_5 : decode cX11_odds 5 = .ok (.aload_n 0, 1) := by decide +kernel
theorem dX11_odds_6 : decode cX11_odds 6 = .ok (.iload_n 1, 1) := by decide +kernel
theorem dX11_odds_7 : decode cX11_odds 7 = .ok (.invokevirtual 279, 3) := by decide +kernel
theorem dX11_odds_10 : decode cX11_odds 10 = .ok (.ifCond .eq 13, 3) := by decide +kernel
theorem dX11_odds_13 : decode cX11_odds 13 = .ok (.iload_n 2, 1) := by decide +kernel
theorem dX11_odds_14 : decode cX11_odds 14 = .ok (.iconst 1, 1) := by decide +kernel
theorem dX11_odds_15 : decode cX11_odds 15 = .ok (.bipush 30, 2) := by decide +kernel
theorem dX11_odds_17 : decode cX11_odds 17 = .ok (.invokestatic 173, 3) := by decide +kernel
theorem dX11_odds_20 : decode cX11_odds 20 = .ok (.ifCond .ne 5, 3) := by decide +kernel
theorem dX11_odds_23 : decode cX11_odds 23 = .ok (.iconst (-1), 1) := by decide +kernel
theorem dX11_odds_24 : decode cX11_odds 24 = .ok (.ireturn, 1) := by decide +kernel
theorem dX11_odds_25 : decode cX11_odds 25 = .ok (.aload_n 0, 1) := by decide +kernel
theorem dX11_odds_26 : decode cX11_odds 26 = .ok (.invokevirtual 379, 3) := by decide +kernel
theorem dX11_odds_29 : decode cX11_odds 29 = .ok (.iconst 0, 1) := by decide +kernel
theorem dX11_odds_30 : decode cX11_odds 30 = .ok (.istore 4, 2) := by decide +kernel
theorem dX11_odds_32 : decode cX11_odds 32 = .ok (.iconst 0, 1) := by decide +kernel
theorem dX11_odds_33 : decode cX11_odds 33 = .ok (.istore 5, 2) := by decide +kernel
theorem dX11_odds_35 : decode cX11_odds 35 = .ok (.iload 5, 2) := by decide +kernel
theorem dX11_odds_37 : decode cX11_odds 37 = .ok (.iload_n 2, 1) := by decide +kernel
theorem dX11_odds_38 : decode cX11_odds 38 = .ok (.if_icmp .ge 85, 3) := by decide +kernel
theorem dX11_odds_41 : decode cX11_odds 41 = .ok (.aload_n 0, 1) := by decide +kernel
theorem dX11_odds_42 : decode cX11_odds 42 = .ok (.iload_n 3, 1) := by decide +kernel
theorem dX11_odds_43 : decode cX11_odds 43 = .ok (.iload 5, 2) := by decide +kernel
theorem dX11_odds_45 : decode cX11_odds 45 = .ok (.iadd, 1) := by decide +kernel
theorem dX11_odds_46 : decode cX11_odds 46 = .ok (.putfield 366, 3) := by decide +kernel
theorem dX11_odds_49 : decode cX11_odds 49 = .ok (.iconst 0, 1) := by decide +kernel
theorem dX11_odds_50 : decode cX11_odds 50 = .ok (.istore 6, 2) := by decide +kernel
theorem dX11_odds_52 : decode cX11_odds 52 = .ok (.iconst 0, 1) := by decide +kernel
theorem dX11_odds_53 : decode cX11_odds 53 = .ok (.istore 7, 2) := by decide +kernel
theorem dX11_odds_55 : decode cX11_odds 55 = .ok (.iload 7, 2) := by decide +kernel
theorem dX11_odds_57 : decode cX11_odds 57 = .ok (.bipush 40, 2) := by decide +kernel
theorem dX11_odds_59 : decode cX11_odds 59 = .ok (.if_icmp .ge 39, 3) := by decide +kernel
theorem dX11_odds_62 : decode cX11_odds 62 = .ok (.iload 6, 2) := by decide +kernel
theorem dX11_odds_64 : decode cX11_odds 64 = .ok (.ifCond .ne 34, 3) := by decide +kernel
theorem dX11_odds_67 : decode cX11_odds 67 = .ok (.aload_n 0, 1) := by decide +kernel
theorem dX11_odds_68 : decode cX11_odds 68 = .ok (.getfield 33, 3) := by decide +kernel
theorem dX11_odds_71 : decode cX11_odds 71 = .ok (.bipush 52, 2) := by decide +kernel
theorem dX11_odds_73 : decode cX11_odds 73 = .ok (.iaload, 1) := by decide +kernel
theorem dX11_odds_74 : decode cX11_odds 74 = .ok (.sipush 10000, 3) := by decide +kernel
theorem dX11_odds_77 : decode cX11_odds 77 = .ok (.if_icmp .ge 21, 3) := by decide +kernel
theorem dX11_odds_80 : decode cX11_odds 80 = .ok (.aload_n 0, 1) := by decide +kernel
theorem dX11_odds_81 : decode cX11_odds 81 = .ok (.invokevirtual 376, 3) := by decide +kernel
theorem dX11_odds_84 : decode cX11_odds 84 = .ok (.aload_n 0, 1) := by decide +kernel
theorem dX11_odds_85 : decode cX11_odds 85 = .ok (.iload_n 1, 1) := by decide +kernel
theorem dX11_odds_86 : decode cX11_odds 86 = .ok (.iconst 0, 1) := by decide +kernel
theorem dX11_odds_87 : decode cX11_odds 87 = .ok (.invokevirtual 282, 3) := by decide +kernel
theorem dX11_odds_90 : decode cX11_odds 90 = .ok (.istore 6, 2) := by decide +kernel
theorem dX11_odds_92 : decode cX11_odds 92 = .ok (.iinc 7 1, 3) := by decide +kernel
theorem dX11_odds_95 : decode cX11_odds 95 = .ok (.goto (-40), 3) := by decide +kernel
theorem dX11_odds_98 : decode cX11_odds 98 = .ok (.iload 4, 2) := by decide +kernel
theorem dX11_odds_100 : decode cX11_odds 100 = .ok (.iload 6, 2) := by decide +kernel
theorem dX11_odds_102 : decode cX11_odds 102 = .ok (.ifCond .eq 7, 3) := by decide +kernel
theorem dX11_odds_105 : decode cX11_odds 105 = .ok (.iconst 1, 1) := by decide +kernel
theorem dX11_odds_106 : decode cX11_odds 106 = .ok (.goto 4, 3) := by decide +kernel
theorem dX11_odds_109 : decode cX11_odds 109 = .ok (.iconst 0, 1) := by decide +kernel
theorem dX11_odds_110 : decode cX11_odds 110 = .ok (.iadd, 1) := by decide +kernel
theorem dX11_odds_111 : decode cX11_odds 111 = .ok (.istore 4, 2) := by decide +kernel
theorem dX11_odds_113 : decode cX11_odds 113 = .ok (.aload_n 0, 1) := by decide +kernel
theorem dX11_odds_114 : decode cX11_odds 114 = .ok (.invokevirtual 382, 3) := by decide +kernel
theorem dX11_odds_117 : decode cX11_odds 117 = .ok (.iinc 5 1, 3) := by decide +kernel
theorem dX11_odds_120 : decode cX11_odds 120 = .ok (.goto (-85), 3) := by decide +kernel
theorem dX11_odds_123 : decode cX11_odds 123 = .ok (.iload 4, 2) := by decide +kernel
theorem dX11_odds_125 : decode cX11_odds 125 = .ok (.ireturn, 1) := by decide +kernel
theorem dX11_bookLine_0 : decode cX11_bookLine 0 = .ok (.iconst 3, 1) := by decide +kernel
theorem dX11_bookLine_1 : decode cX11_bookLine 1 = .ok (.aload_n 0, 1) := by decide +kernel
theorem dX11_bookLine_2 : decode cX11_bookLine 2 = .ok (.getfield 385, 3) := by decide +kernel
theorem dX11_bookLine_5 : decode cX11_bookLine 5 = .ok (.imul, 1) := by decide +kernel
theorem dX11_bookLine_6 : decode cX11_bookLine 6 = .ok (.istore_n 1, 1) := by decide +kernel
theorem dX11_bookLine_7 : decode cX11_bookLine 7 = .ok (.aload_n 0, 1) := by decide +kernel
theorem dX11_bookLine_8 : decode cX11_bookLine 8 = .ok (.ldc2_w 102, 3) := by decide +kernel
theorem dX11_bookLine_11 : decode cX11_bookLine 11 = .ok (.invokevirtual 195, 3) := by decide +kernel
theorem dX11_bookLine_14 : decode cX11_bookLine 14 = .ok (.istore_n 2, 1) := by decide +kernel
theorem dX11_bookLine_15 : decode cX11_bookLine 15 = .ok (.iload_n 2, 1) := by decide +kernel
theorem dX11_bookLine_16 : decode cX11_bookLine 16 = .ok (.ifCond .ne 19, 3) := by decide +kernel
theorem dX11_bookLine_19 : decode cX11_bookLine 19 = .ok (.aload_n 0, 1) := by decide +kernel
theorem dX11_bookLine_20 : decode cX11_bookLine 20 = .ok (.iconst 0, 1) := by decide +kernel
theorem dX11_bookLine_21 : decode cX11_bookLine 21 = .ok (.aload_n 0, 1) := by decide +kernel
theorem dX11_bookLine_22 : decode cX11_bookLine 22 = .ok (.getfield 33, 3) := by decide +kernel
theorem dX11_bookLine_25 : decode cX11_bookLine 25 = .ok (.iconst 0, 1) := by decide +kernel
theorem dX11_bookLine_26 : decode cX11_bookLine 26 = .ok (.iaload, 1) := by decide +kernel
theorem dX11_bookLine_27 : decode cX11_bookLine 27 = .ok (.invokevirtual 192, 3) := by decide +kernel
theorem dX11_bookLine_30 : decode cX11_bookLine 30 = .ok (.ifCond .ne 5, 3) := by decide +kernel
theorem dX11_bookLine_33 : decode cX11_bookLine 33 = .ok (.iconst 0, 1) := by decide +kernel
theorem dX11_bookLine_34 : decode cX11_bookLine 34 = .ok (.ireturn, 1) := by decide +kernel
theorem dX11_bookLine_35 : decode cX11_bookLine 35 = .ok (.aload_n 0, 1) := by decide +kernel
theorem dX11_bookLine_36 : decode cX11_bookLine 36 = .ok (.getfield 385, 3) := by decide +kernel
theorem dX11_bookLine_39 : decode cX11_bookLine 39 = .ok (.bipush 40, 2) := by decide +kernel
theorem dX11_bookLine_41 : decode cX11_bookLine 41 = .ok (.if_icmp .ne 9, 3) := by decide +kernel
theorem dX11_bookLine_44 : decode cX11_bookLine 44 = .ok (.aload_n 0, 1) := by decide +kernel
theorem dX11_bookLine_45 : decode cX11_bookLine 45 = .ok (.iconst 4, 1) := by decide +kernel
theorem dX11_bookLine_46 : decode cX11_bookLine 46 = .ok (.invokevirtual 167, 3) := by decide +kernel
theorem dX11_bookLine_49 : decode cX11_bookLine 49 = .ok (.ireturn, 1) := by decide +kernel
theorem dX11_bookLine_50 : decode cX11_bookLine 50 = .ok (.aload_n 0, 1) := by decide +kernel
theorem dX11_bookLine_51 : decode cX11_bookLine 51 = .ok (.getfield 177, 3) := by decide +kernel
theorem dX11_bookLine_54 : decode cX11_bookLine 54 = .ok (.istore_n 3, 1) := by decide +kernel
theorem dX11_bookLine_55 : decode cX11_bookLine 55 = .ok (.aload_n 0, 1) := by decide +kernel
theorem dX11_bookLine_56 : decode cX11_bookLine 56 = .ok (.invokevirtual 170, 3) := by decide +kernel
theorem dX11_bookLine_59 : decode cX11_bookLine 59 = .ok (.iload_n 2, 1) := by decide +kernel
theorem dX11_bookLine_60 : decode cX11_bookLine 60 = .ok (.ifCond .eq 37, 3) := by decide +kernel
theorem dX11_bookLine_63 : decode cX11_bookLine 63 = .ok (.aload_n 0, 1) := by decide +kernel
theorem dX11_bookLine_64 : decode cX11_bookLine 64 = .ok (.getfield 40, 3) := by decide +kernel
theorem dX11_bookLine_67 : decode cX11_bookLine 67 = .ok (.iload_n 1, 1) := by decide +kernel
theorem dX11_bookLine_68 : decode cX11_bookLine 68 = .ok (.iconst 2, 1) := by decide +kernel
theorem dX11_bookLine_69 : decode cX11_bookLine 69 = .ok (.iastore, 1) := by decide +kernel
theorem dX11_bookLine_70 : decode cX11_bookLine 70 = .ok (.aload_n 0, 1) := by decide +kernel
theorem dX11_bookLine_71 : decode cX11_bookLine 71 = .ok (.iconst 1, 1) := by decide +kernel
theorem dX11_bookLine_72 : decode cX11_bookLine 72 = .ok (.sipush 999, 3) := by decide +kernel
theorem dX11_bookLine_75 : decode cX11_bookLine 75 = .ok (.invokevirtual 180, 3) := by decide +kernel
theorem dX11_bookLine_78 : decode cX11_bookLine 78 = .ok (.ifCond .ne 5, 3) := by decide +kernel
theorem dX11_bookLine_81 : decode cX11_bookLine 81 = .ok (.iconst 0, 1) := by decide +kernel
theorem dX11_bookLine_82 : decode cX11_bookLine 82 = .ok (.ireturn, 1) := by decide +kernel
theorem dX11_bookLine_83 : decode cX11_bookLine 83 = .ok (.aload_n 0, 1) := by decide +kernel
theorem dX11_bookLine_84 : decode cX11_bookLine 84 = .ok (.getfield 40, 3) := by decide +kernel
theorem dX11_bookLine_87 : decode cX11_bookLine 87 = .ok (.iload_n 1, 1) := by decide +kernel
theorem dX11_bookLine_88 : decode cX11_bookLine 88 = .ok (.iconst 1, 1) := by decide +kernel
theorem dX11_bookLine_89 : decode cX11_bookLine 89 = .ok (.iadd, 1) := by decide +kernel
theorem dX11_bookLine_90 : decode cX11_bookLine 90 = .ok (.aload_n 0, 1) := by decide +kernel
theorem dX11_bookLine_91 : decode cX11_bookLine 91 = .ok (.getfield 177, 3) := by decide +kernel
theorem dX11_bookLine_94 : decode cX11_bookLine 94 = .ok (.iastore, 1) := by decide +kernel
theorem dX11_bookLine_95 : decode cX11_bookLine 95 = .ok (.iconst 1, 1) := by decide +kernel
theorem dX11_bookLine_96 : decode cX11_bookLine 96 = .ok (.ireturn, 1) := by decide +kernel
theorem dX11_bookLine_97 : decode cX11_bookLine 97 = .ok (.aload_n 0, 1) := by decide +kernel
theorem dX11_bookLine_98 : decode cX11_bookLine 98 = .ok (.ldc2_w 100, 3) := by decide +kernel
theorem dX11_bookLine_101 : decode cX11_bookLine 101 = .ok (.invokevirtual 195, 3) := by decide +kernel
theorem dX11_bookLine_104 : decode cX11_bookLine 104 = .ok (.istore 4, 2) := by decide +kernel
theorem dX11_bookLine_106 : decode cX11_bookLine 106 = .ok (.iload 4, 2) := by decide +kernel
theorem dX11_bookLine_108 : decode cX11_bookLine 108 = .ok (.ifCond .ne 19, 3) := by decide +kernel
theorem dX11_bookLine_111 : decode cX11_bookLine 111 = .ok (.aload_n 0, 1) := by decide +kernel
theorem dX11_bookLine_112 : decode cX11_bookLine 112 = .ok (.ldc2_w 98, 3) := by decide +kernel
theorem dX11_bookLine_115 : decode cX11_bookLine 115 = .ok (.invokevirtual 195, 3) := by decide +kernel
theorem dX11_bookLine_118 : decode cX11_bookLine 118 = .ok (.ifCond .ne 9, 3) := by decide +kernel
theorem dX11_bookLine_121 : decode cX11_bookLine 121 = .ok (.aload_n 0, 1) := by decide +kernel
theorem dX11_bookLine_122 : decode cX11_bookLine 122 = .ok (.iconst 1, 1) := by decide +kernel
theorem dX11_bookLine_123 : decode cX11_bookLine 123 = .ok (.invokevirtual 167, 3) := by decide +kernel
theorem dX11_bookLine_126 : decode cX11_bookLine 126 = .ok (.ireturn, 1) := by decide +kernel
theorem dX11_bookLine_127 : decode cX11_bookLine 127 = .ok (.aload_n 0, 1) := by decide +kernel
theorem dX11_bookLine_128 : decode cX11_bookLine 128 = .ok (.invokevirtual 170, 3) := by decide +kernel
theorem dX11_bookLine_131 : decode cX11_bookLine 131 = .ok (.aload_n 0, 1) := by decide +kernel
theorem dX11_bookLine_132 : decode cX11_bookLine 132 = .ok (.getfield 40, 3) := by decide +kernel
theorem dX11_bookLine_135 : decode cX11_bookLine 135 = .ok (.iload_n 1, 1) := by decide +kernel
theorem dX11_bookLine_136 : decode cX11_bookLine 136 = .ok (.iload 4, 2) := by decide +kernel
theorem dX11_bookLine_138 : decode cX11_bookLine 138 = .ok (.ifCond .eq 7, 3) := by decide +kernel
theorem dX11_bookLine_141 : decode cX11_bookLine 141 = .ok (.iconst 1, 1) := by decide +kernel
theorem dX11_bookLine_142 : decode cX11_bookLine 142 = .ok (.goto 4, 3) := by decide +kernel
theorem dX11_bookLine_145 : decode cX11_bookLine 145 = .ok (.iconst 0, 1) := by decide +kernel
theorem dX11_bookLine_146 : decode cX11_bookLine 146 = .ok (.iastore, 1) := by decide +kernel
theorem dX11_bookLine_147 : decode cX11_bookLine 147 = .ok (.aload_n 0, 1) := by decide +kernel
theorem dX11_bookLine_148 : decode cX11_bookLine 148 = .ok (.getfield 40, 3) := by decide +kernel
theorem dX11_bookLine_151 : decode cX11_bookLine 151 = .ok (.iload_n 1, 1) := by decide +kernel
theorem dX11_bookLine_152 : decode cX11_bookLine 152 = .ok (.iconst 1, 1) := by decide +kernel
theorem dX11_bookLine_153 : decode cX11_bookLine 153 = .ok (.iadd, 1) := by decide +kernel
theorem dX11_bookLine_154 : decode cX11_bookLine 154 = .ok (.iload_n 3, 1) := by decide +kernel
theorem dX11_bookLine_155 : decode cX11_bookLine 155 = .ok (.iastore, 1) := by decide +kernel
theorem dX11_bookLine_156 : decode cX11_bookLine 156 = .ok (.iload 4, 2) := by decide +kernel
theorem dX11_bookLine_158 : decode cX11_bookLine 158 = .ok (.ifCond .ne 5, 3) := by decide +kernel
theorem dX11_bookLine_161 : decode cX11_bookLine 161 = .ok (.iconst 1, 1) := by decide +kernel
theorem dX11_bookLine_162 : decode cX11_bookLine 162 = .ok (.ireturn, 1) := by decide +kernel
theorem dX11_bookLine_163 : decode cX11_bookLine 163 = .ok (.aload_n 0, 1) := by decide +kernel
theorem dX11_bookLine_164 : decode cX11_bookLine 164 = .ok (.iconst 1, 1) := by decide +kernel
theorem dX11_bookLine_165 : decode cX11_bookLine 165 = .ok (.bipush 99, 2) := by decide +kernel
theorem dX11_bookLine_167 : decode cX11_bookLine 167 = .ok (.invokevirtual 180, 3) := by decide +kernel
theorem dX11_bookLine_170 : decode cX11_bookLine 170 = .ok (.ifCond .ne 5, 3) := by decide +kernel
theorem dX11_bookLine_173 : decode cX11_bookLine 173 = .ok (.iconst 0, 1) := by decide +kernel
theorem dX11_bookLine_174 : decode cX11_bookLine 174 = .ok (.ireturn, 1) := by decide +kernel
theorem dX11_bookLine_175 : decode cX11_bookLine 175 = .ok (.aload_n 0, 1) := by decide +kernel
theorem dX11_bookLine_176 : decode cX11_bookLine 176 = .ok (.getfield 40, 3) := by decide +kernel
theorem dX11_bookLine_179 : decode cX11_bookLine 179 = .ok (.iload_n 1, 1) := by decide +kernel
theorem dX11_bookLine_180 : decode cX11_bookLine 180 = .ok (.iconst 2, 1) := by decide +kernel
theorem dX11_bookLine_181 : decode cX11_bookLine 181 = .ok (.iadd, 1) := by decide +kernel
theorem dX11_bookLine_182 : decode cX11_bookLine 182 = .ok (.aload_n 0, 1) := by decide +kernel
theorem dX11_bookLine_183 : decode cX11_bookLine 183 = .ok (.getfield 177, 3) := by decide +kernel
theorem dX11_bookLine_186 : decode cX11_bookLine 186 = .ok (.iastore, 1) := by decide +kernel
theorem dX11_bookLine_187 : decode cX11_bookLine 187 = .ok (.iconst 1, 1) := by decide +kernel
theorem dX11_bookLine_188 : decode cX11_bookLine 188 = .ok (.ireturn, 1) := by decide +kernel
theorem dX11_does_0 : decode cX11_does 0 = .ok (.iload_n 1, 1) := by decide +kernel
theorem dX11_does_1 : decode cX11_does 1 = .ok (.ifCond .ne 21, 3) := by decide +kernel
theorem dX11_does_4 : decode cX11_does 4 = .ok (.aload_n 0, 1) := by decide +kernel
theorem dX11_does_5 : decode cX11_does 5 = .ok (.iload_n 2, 1) := by decide +kernel
theorem dX11_does_6 : decode cX11_does 6 = .ok (.invokevirtual 297, 3) := by decide +kernel
theorem dX11_does_9 : decode cX11_does 9 = .ok (.ifCond .le 5, 3) := by decide +kernel
theorem dX11_does_12 : decode cX11_does 12 = .ok (.iconst 1, 1) := by decide +kernel
theorem dX11_does_13 : decode cX11_does 13 = .ok (.ireturn, 1) := by decide +kernel
theorem dX11_does_14 : decode cX11_does 14 = .ok (.aload_n 0, 1) := by decide +kernel
theorem dX11_does_15 : decode cX11_does 15 = .ok (.iload_n 2, 1) := by decide +kernel
theorem dX11_does_16 : decode cX11_does 16 = .ok (.invokevirtual 303, 3) := by decide +kernel
theorem dX11_does_19 : decode cX11_does 19 = .ok (.goto 53, 3) := by decide +kernel
theorem dX11_does_22 : decode cX11_does 22 = .ok (.iload_n 1, 1) := by decide +kernel
theorem dX11_does_23 : decode cX11_does 23 = .ok (.iconst 1, 1) := by decide +kernel
theorem dX11_does_24 : decode cX11_does 24 = .ok (.if_icmp .ne 24, 3) := by decide +kernel
theorem dX11_does_27 : decode cX11_does 27 = .ok (.aload_n 0, 1) := by decide +kernel
theorem dX11_does_28 : decode cX11_does 28 = .ok (.iload_n 2, 1) := by decide +kernel
theorem dX11_does_29 : decode cX11_does 29 = .ok (.iload_n 3, 1) := by decide +kernel
theorem dX11_does_30 : decode cX11_does 30 = .ok (.invokevirtual 306, 3) := by decide +kernel
theorem dX11_does_33 : decode cX11_does 33 = .ok (.ifCond .le 6, 3) := by decide +kernel
theorem dX11_does_36 : decode cX11_does 36 = .ok (.bipush 11, 2) := by decide +kernel
theorem dX11_does_38 : decode cX11_does 38 = .ok (.ireturn, 1) := by decide +kernel
theorem dX11_does_39 : decode cX11_does 39 = .ok (.aload_n 0, 1) := by decide +kernel
theorem dX11_does_40 : decode cX11_does 40 = .ok (.iload_n 2, 1) := by decide +kernel
theorem dX11_does_41 : decode cX11_does 41 = .ok (.iload_n 3, 1) := by decide +kernel
theorem dX11_does_42 : decode cX11_does 42 = .ok (.invokevirtual 309, 3) := by decide +kernel
theorem dX11_does_45 : decode cX11_does 45 = .ok (.goto 27, 3) := by decide +kernel
theorem dX11_does_48 : decode cX11_does 48 = .ok (.aload_n 0, 1) := by decide +kernel
theorem dX11_does_49 : decode cX11_does 49 = .ok (.getfield 33, 3) := by decide +kernel
theorem dX11_does_52 : decode cX11_does 52 = .ok (.bipush 52, 2) := by decide +kernel
theorem dX11_does_54 : decode cX11_does 54 = .ok (.iaload, 1) := by decide +kernel
theorem dX11_does_55 : decode cX11_does 55 = .ok (.iload_n 2, 1) := by decide +kernel
theorem dX11_does_56 : decode cX11_does 56 = .ok (.iadd, 1) := by decide +kernel
theorem dX11_does_57 : decode cX11_does 57 = .ok (.sipush 10000, 3) := by decide +kernel
theorem dX11_does_60 : decode cX11_does 60 = .ok (.if_icmp .le 6, 3) := by decide +kernel
theorem dX11_does_63 : decode cX11_does 63 = .ok (.bipush 21, 2) := by decide +kernel
theorem dX11_does_65 : decode cX11_does 65 = .ok (.ireturn, 1) := by decide +kernel
theorem dX11_does_66 : decode cX11_does 66 = .ok (.aload_n 0, 1) := by decide +kernel
theorem dX11_does_67 : decode cX11_does 67 = .ok (.iload_n 2, 1) := by decide +kernel
theorem dX11_does_68 : decode cX11_does 68 = .ok (.invokevirtual 313, 3) := by decide +kernel
theorem dX11_does_71 : decode cX11_does 71 = .ok (.pop, 1) := by decide +kernel
theorem dX11_does_72 : decode cX11_does 72 = .ok (.iconst 0, 1) := by decide +kernel
theorem dX11_does_73 : decode cX11_does 73 = .ok (.ireturn, 1) := by decide +kernel
theorem dX11_book_0 : decode cX11_book 0 = .ok (.aload_n 0, 1) := by decide +kernel
theorem dX11_book_1 : decode cX11_book 1 = .ok (.iconst 0, 1) := by decide +kernel
theorem dX11_book_2 : decode cX11_book 2 = .ok (.putfield 1, 3) := by decide +kernel
theorem dX11_book_5 : decode cX11_book 5 = .ok (.iload_n 1, 1) := by decide +kernel
theorem dX11_book_6 : decode cX11_book 6 = .ok (.iconst 0, 1) := by decide +kernel
theorem dX11_book_7 : decode cX11_book 7 = .ok (.iconst 1, 1) := by decide +kernel
theorem dX11_book_8 : decode cX11_book 8 = .ok (.invokestatic 173, 3) := by decide +kernel
theorem dX11_book_11 : decode cX11_book 11 = .ok (.ifCond .ne 7, 3) := by decide +kernel
theorem dX11_book_14 : decode cX11_book 14 = .ok (.sipush (-1000), 3) := by decide +kernel
theorem dX11_book_17 : decode cX11_book 17 = .ok (.ireturn, 1) := by decide +kernel
theorem dX11_book_18 : decode cX11_book 18 = .ok (.aload_n 0, 1) := by decide +kernel
theorem dX11_book_19 : decode cX11_book 19 = .ok (.sipush 400, 3) := by decide +kernel
theorem dX11_book_22 : decode cX11_book 22 = .ok (.invokevirtual 221, 3) := by decide +kernel
theorem dX11_book_25 : decode cX11_book 25 = .ok (.aload_n 0, 1) := by decide +kernel
theorem dX11_book_26 : decode cX11_book 26 = .ok (.iconst 0, 1) := by decide +kernel
theorem dX11_book_27 : decode cX11_book 27 = .ok (.putfield 158, 3) := by decide +kernel
theorem dX11_book_30 : decode cX11_book 30 = .ok (.aload_n 0, 1) := by decide +kernel
theorem dX11_book_31 : decode cX11_book 31 = .ok (.iconst 0, 1) := by decide +kernel
theorem dX11_book_32 : decode cX11_book 32 = .ok (.putfield 385, 3) := by decide +kernel
theorem dX11_book_35 : decode cX11_book 35 = .ok (.aload_n 0, 1) := by decide +kernel
theorem dX11_book_36 : decode cX11_book 36 = .ok (.invokevirtual 170, 3) := by decide +kernel
theorem dX11_book_39 : decode cX11_book 39 = .ok (.aload_n 0, 1) := by decide +kernel
theorem dX11_book_40 : decode cX11_book 40 = .ok (.getfield 141, 3) := by decide +kernel
theorem dX11_book_43 : decode cX11_book 43 = .ok (.ifCond .eq 40, 3) := by decide +kernel
theorem dX11_book_46 : decode cX11_book 46 = .ok (.aload_n 0, 1) := by decide +kernel
theorem dX11_book_47 : decode cX11_book 47 = .ok (.invokevirtual 388, 3) := by decide +kernel
theorem dX11_book_50 : decode cX11_book 50 = .ok (.ifCond .eq 12, 3) := by decide +kernel
theorem dX11_book_53 : decode cX11_book 53 = .ok (.aload_n 0, 1) := by decide +kernel
theorem dX11_book_54 : decode cX11_book 54 = .ok (.bipush 59, 2) := by decide +kernel
theorem dX11_book_56 : decode cX11_book 56 = .ok (.invokevirtual 230, 3) := by decide +kernel
theorem dX11_book_59 : decode cX11_book 59 = .ok (.ifCond .ne 11, 3) := by decide +kernel
theorem dX11_book_62 : decode cX11_book 62 = .ok (.bipush (-2), 2) := by decide +kernel
theorem dX11_book_64 : decode cX11_book 64 = .ok (.aload_n 0, 1) := by decide +kernel
theorem dX11_book_65 : decode cX11_book 65 = .ok (.getfield 161, 3) := by decide +kernel
theorem dX11_book_68 : decode cX11_book 68 = .ok (.isub, 1) := by decide +kernel
theorem dX11_book_69 : decode cX11_book 69 = .ok (.ireturn, 1) := by decide +kernel
theorem dX11_book_70 : decode cX11_book 70 = .ok (.aload_n 0, 1) := by decide +kernel
theorem dX11_book_71 : decode cX11_book 71 = .ok (.dup, 1) := by decide +kernel
theorem dX11_book_72 : decode cX11_book 72 = .ok (.getfield 385, 3) := by decide +kernel
theorem dX11_book_75 : decode cX11_book 75 = .ok (.iconst 1, 1) := by decide +kernel
theorem dX11_book_76 : decode cX11_book 76 = .ok (.iadd, 1) := by decide +kernel
theorem dX11_book_77 : decode cX11_book 77 = .ok (.putfield 385, 3) := by decide +kernel
theorem dX11_book_80 : decode cX11_book 80 = .ok (.goto (-41), 3) := by decide +kernel
theorem dX11_book_83 : decode cX11_book 83 = .ok (.aload_n 0, 1) := by decide +kernel
theorem dX11_book_84 : decode cX11_book 84 = .ok (.invokevirtual 379, 3) := by decide +kernel
theorem dX11_book_87 : decode cX11_book 87 = .ok (.iconst 0, 1) := by decide +kernel
theorem dX11_book_88 : decode cX11_book 88 = .ok (.istore_n 2, 1) := by decide +kernel
theorem dX11_book_89 : decode cX11_book 89 = .ok (.iload_n 2, 1) := by decide +kernel
theorem dX11_book_90 : decode cX11_book 90 = .ok (.iconst 4, 1) := by decide +kernel
theorem dX11_book_91 : decode cX11_book 91 = .ok (.if_icmp .ge 16, 3) := by decide +kernel
theorem dX11_book_94 : decode cX11_book 94 = .ok (.aload_n 0, 1) := by decide +kernel
theorem dX11_book_95 : decode cX11_book 95 = .ok (.getfield 71, 3) := by decide +kernel
theorem dX11_book_98 : decode cX11_book 98 = .ok (.iload_n 2, 1) := by decide +kernel
theorem dX11_book_99 : decode cX11_book 99 = .ok (.iconst 0, 1) := by decide +kernel
theorem dX11_book_100 : decode cX11_book 100 = .ok (.iastore, 1) := by decide +kernel
theorem dX11_book_101 : decode cX11_book 101 = .ok (.iinc 2 1, 3) := by decide +kernel
theorem dX11_book_104 : decode cX11_book 104 = .ok (.goto (-15), 3) := by decide +kernel
theorem dX11_book_107 : decode cX11_book 107 = .ok (.iconst (-1), 1) := by decide +kernel
theorem dX11_book_108 : decode cX11_book 108 = .ok (.istore_n 2, 1) := by decide +kernel
theorem dX11_book_109 : decode cX11_book 109 = .ok (.iconst 0, 1) := by decide +kernel
theorem dX11_book_110 : decode cX11_book 110 = .ok (.istore_n 3, 1) := by decide +kernel
theorem dX11_book_111 : decode cX11_book 111 = .ok (.iload_n 3, 1) := by decide +kernel
theorem dX11_book_112 : decode cX11_book 112 = .ok (.aload_n 0, 1) := by decide +kernel
theorem dX11_book_113 : decode cX11_book 113 = .ok (.getfield 385, 3) := by decide +kernel
theorem dX11_book_116 : decode cX11_book 116 = .ok (.if_icmp .ge 75, 3) := by decide +kernel
theorem dX11_book_119 : decode cX11_book 119 = .ok (.iload_n 2, 1) := by decide +kernel
theorem dX11_book_120 : decode cX11_book 120 = .ok (.ifCond .ge 71, 3) := by decide +kernel
theorem dX11_book_123 : decode cX11_book 123 = .ok (.aload_n 0, 1) := by decide +kernel
theorem dX11_book_124 : decode cX11_book 124 = .ok (.getfield 71, 3) := by decide +kernel
theorem dX11_book_127 : decode cX11_book 127 = .ok (.iconst 0, 1) := by decide +kernel
theorem dX11_book_128 : decode cX11_book 128 = .ok (.aload_n 0, 1) := by decide +kernel
theorem dX11_book_129 : decode cX11_book 129 = .ok (.aload_n 0, 1) := by decide +kernel
theorem dX11_book_130 : decode cX11_book 130 = .ok (.getfield 40, 3) := by decide +kernel
theorem dX11_book_133 : decode cX11_book 133 = .ok (.iconst 3, 1) := by decide +kernel
theorem dX11_book_134 : decode cX11_book 134 = .ok (.iload_n 3, 1) := by decide +kernel
theorem dX11_book_135 : decode cX11_book 135 = .ok (.imul, 1) := by decide +kernel
theorem dX11_book_136 : decode cX11_book 136 = .ok (.iaload, 1) := by decide +kernel
theorem dX11_book_137 : decode cX11_book 137 = .ok (.aload_n 0, 1) := by decide +kernel
theorem dX11_book_138 : decode cX11_book 138 = .ok (.getfield 40, 3) := by decide +kernel
theorem dX11_book_141 : decode cX11_book 141 = .ok (.iconst 3, 1) := by decide +kernel
theorem dX11_book_142 : decode cX11_book 142 = .ok (.iload_n 3, 1) := by decide +kernel
theorem dX11_book_143 : decode cX11_book 143 = .ok (.imul, 1) := by decide +kernel
theorem dX11_book_144 : decode cX11_book 144 = .ok (.iconst 1, 1) := by decide +kernel
theorem dX11_book_145 : decode cX11_book 145 = .ok (.iadd, 1) := by decide +kernel
theorem dX11_book_146 : decode cX11_book 146 = .ok (.iaload, 1) := by decide +kernel
theorem dX11_book_147 : decode cX11_book 147 = .ok (.aload_n 0, 1) := by decide +kernel
theorem dX11_book_148 : decode cX11_book 148 = .ok (.getfield 40, 3) := by decide +kernel
theorem dX11_book_151 : decode cX11_book 151 = .ok (.iconst 3, 1) := by decide +kernel
theorem dX11_book_152 : decode cX11_book 152 = .ok (.iload_n 3, 1) := by decide +kernel
theorem dX11_book_153 : decode cX11_book 153 = .ok (.imul, 1) := by decide +kernel
theorem dX11_book_154 : decode cX11_book 154 = .ok (.iconst 2, 1) := by decide +kernel
theorem dX11_book_155 : decode cX11_book 155 = .ok (.iadd, 1) := by decide +kernel
theorem dX11_book_156 : decode cX11_book 156 = .ok (.iaload, 1) := by decide +kernel
theorem dX11_book_157 : decode cX11_book 157 = .ok (.invokevirtual 391, 3) := by decide +kernel
theorem dX11_book_160 : decode cX11_book 160 = .ok (.iastore, 1) := by decide +kernel
theorem dX11_book_161 : decode cX11_book 161 = .ok (.aload_n 0, 1) := by decide +kernel
theorem dX11_book_162 : decode cX11_book 162 = .ok (.getfield 71, 3) := by decide +kernel
theorem dX11_book_165 : decode cX11_book 165 = .ok (.iconst 0, 1) := by decide +kernel
theorem dX11_book_166 : decode cX11_book 166 = .ok (.iaload, 1) := by decide +kernel
theorem dX11_book_167 : decode cX11_book 167 = .ok (.ifCond .le 8, 3) := by decide +kernel
theorem dX11_book_170 : decode cX11_book 170 = .ok (.iload_n 3, 1) := by decide +kernel
theorem dX11_book_171 : decode cX11_book 171 = .ok (.istore_n 2, 1) := by decide +kernel
theorem dX11_book_172 : decode cX11_book 172 = .ok (.goto 13, 3) := by decide +kernel
theorem dX11_book_175 : decode cX11_book 175 = .ok (.aload_n 0, 1) := by decide +kernel
theorem dX11_book_176 : decode cX11_book 176 = .ok (.getfield 71, 3) := by decide +kernel
theorem dX11_book_179 : decode cX11_book 179 = .ok (.iconst 1, 1) := by decide +kernel
theorem dX11_book_180 : decode cX11_book 180 = .ok (.dup2, 1) := by decide +kernel
theorem dX11_book_181 : decode cX11_book 181 = .ok (.iaload, 1) := by decide +kernel
theorem dX11_book_182 : decode cX11_book 182 = .ok (.iconst 1, 1) := by decide +kernel
theorem dX11_book_183 : decode cX11_book 183 = .ok (.iadd, 1) := by decide +kernel
theorem dX11_book_184 : decode cX11_book 184 = .ok (.iastore, 1) := by decide +kernel
theorem dX11_book_185 : decode cX11_book 185 = .ok (.iinc 3 1, 3) := by decide +kernel
theorem dX11_book_188 : decode cX11_book 188 = .ok (.goto (-77), 3) := by decide +kernel
theorem dX11_book_191 : decode cX11_book 191 = .ok (.aload_n 0, 1) := by decide +kernel
theorem dX11_book_192 : decode cX11_book 192 = .ok (.getfield 71, 3) := by decide +kernel
theorem dX11_book_195 : decode cX11_book 195 = .ok (.iconst 2, 1) := by decide +kernel
theorem dX11_book_196 : decode cX11_book 196 = .ok (.aload_n 0, 1) := by decide +kernel
theorem dX11_book_197 : decode cX11_book 197 = .ok (.getfield 33, 3) := by decide +kernel
theorem dX11_book_200 : decode cX11_book 200 = .ok (.bipush 52, 2) := by decide +kernel
theorem dX11_book_202 : decode cX11_book 202 = .ok (.iaload, 1) := by decide +kernel
theorem dX11_book_203 : decode cX11_book 203 = .ok (.iastore, 1) := by decide +kernel
theorem dX11_book_204 : decode cX11_book 204 = .ok (.aload_n 0, 1) := by decide +kernel
theorem dX11_book_205 : decode cX11_book 205 = .ok (.getfield 71, 3) := by decide +kernel
theorem dX11_book_208 : decode cX11_book 208 = .ok (.iconst 3, 1) := by decide +kernel
theorem dX11_book_209 : decode cX11_book 209 = .ok (.aload_n 0, 1) := by decide +kernel
theorem dX11_book_210 : decode cX11_book 210 = .ok (.getfield 33, 3) := by decide +kernel
theorem dX11_book_213 : decode cX11_book 213 = .ok (.bipush 53, 2) := by decide +kernel
theorem dX11_book_215 : decode cX11_book 215 = .ok (.iaload, 1) := by decide +kernel
theorem dX11_book_216 : decode cX11_book 216 = .ok (.iastore, 1) := by decide +kernel
theorem dX11_book_217 : decode cX11_book 217 = .ok (.aload_n 0, 1) := by decide +kernel
theorem dX11_book_218 : decode cX11_book 218 = .ok (.iconst 1, 1) := by decide +kernel
theorem dX11_book_219 : decode cX11_book 219 = .ok (.putfield 395, 3) := by decide +kernel
theorem dX11_book_222 : decode cX11_book 222 = .ok (.iload_n 1, 1) := by decide +kernel
theorem dX11_book_223 : decode cX11_book 223 = .ok (.iconst 1, 1) := by decide +kernel
theorem dX11_book_224 : decode cX11_book 224 = .ok (.if_icmp .ne 52, 3) := by decide +kernel
theorem dX11_book_227 : decode cX11_book 227 = .ok (.aload_n 0, 1) := by decide +kernel
theorem dX11_book_228 : decode cX11_book 228 = .ok (.getfield 71, 3) := by decide +kernel
theorem dX11_book_231 : decode cX11_book 231 = .ok (.iconst 1, 1) := by decide +kernel
theorem dX11_book_232 : decode cX11_book 232 = .ok (.iaload, 1) := by decide +kernel
theorem dX11_book_233 : decode cX11_book 233 = .ok (.ifCond .le 43, 3) := by decide +kernel
theorem dX11_book_236 : decode cX11_book 236 = .ok (.aload_n 0, 1) := by decide +kernel
theorem dX11_book_237 : decode cX11_book 237 = .ok (.invokevirtual 300, 3) := by decide +kernel
theorem dX11_book_240 : decode cX11_book 240 = .ok (.iconst 0, 1) := by decide +kernel
theorem dX11_book_241 : decode cX11_book 241 = .ok (.istore_n 3, 1) := by decide +kernel
theorem dX11_book_242 : decode cX11_book 242 = .ok (.iload_n 3, 1) := by decide +kernel
theorem dX11_book_243 : decode cX11_book 243 = .ok (.bipush 17, 2) := by decide +kernel
theorem dX11_book_245 : decode cX11_book 245 = .ok (.if_icmp .ge 31, 3) := by decide +kernel
theorem dX11_book_248 : decode cX11_book 248 = .ok (.aload_n 0, 1) := by decide +kernel
theorem dX11_book_249 : decode cX11_book 249 = .ok (.getfield 50, 3) := by decide +kernel
theorem dX11_book_252 : decode cX11_book 252 = .ok (.bipush 17, 2) := by decide +kernel
theorem dX11_book_254 : decode cX11_book 254 = .ok (.aload_n 0, 1) := by decide +kernel
theorem dX11_book_255 : decode cX11_book 255 = .ok (.getfield 233, 3) := by decide +kernel
theorem dX11_book_258 : decode cX11_book 258 = .ok (.iconst 1, 1) := by decide +kernel
theorem dX11_book_259 : decode cX11_book 259 = .ok (.isub, 1) := by decide +kernel
theorem dX11_book_260 : decode cX11_book 260 = .ok (.imul, 1) := by decide +kernel
theorem dX11_book_261 : decode cX11_book 261 = .ok (.iload_n 3, 1) := by decide +kernel
theorem dX11_book_262 : decode cX11_book 262 = .ok (.iadd, 1) := by decide +kernel
theorem dX11_book_263 : decode cX11_book 263 = .ok (.aload_n 0, 1) := by decide +kernel
theorem dX11_book_264 : decode cX11_book 264 = .ok (.getfield 53, 3) := by decide +kernel
theorem dX11_book_267 : decode cX11_book 267 = .ok (.iload_n 3, 1) := by decide +kernel
theorem dX11_book_268 : decode cX11_book 268 = .ok (.iaload, 1) := by decide +kernel
theorem dX11_book_269 : decode cX11_book 269 = .ok (.iastore, 1) := by decide +kernel
theorem dX11_book_270 : decode cX11_book 270 = .ok (.iinc 3 1, 3) := by decide +kernel
theorem dX11_book_273 : decode cX11_book 273 = .ok (.goto (-31), 3) := by decide +kernel
theorem dX11_book_276 : decode cX11_book 276 = .ok (.iload_n 1, 1) := by decide +kernel
theorem dX11_book_277 : decode cX11_book 277 = .ok (.ifCond .ne 7, 3) := by decide +kernel
theorem dX11_book_280 : decode cX11_book 280 = .ok (.aload_n 0, 1) := by decide +kernel
theorem dX11_book_281 : decode cX11_book 281 = .ok (.invokevirtual 382, 3) := by decide +kernel
theorem dX11_book_284 : decode cX11_book 284 = .ok (.iload_n 2, 1) := by decide +kernel
theorem dX11_book_285 : decode cX11_book 285 = .ok (.ireturn, 1) := by decide +kernel
theorem dX11_told_0 : decode cX11_told 0 = .ok (.aload_n 0, 1) := by decide +kernel
theorem dX11_told_1 : decode cX11_told 1 = .ok (.iconst 0, 1) := by decide +kernel
theorem dX11_told_2 : decode cX11_told 2 = .ok (.putfield 1, 3) := by decide +kernel
theorem dX11_told_5 : decode cX11_told 5 = .ok (.aload_n 0, 1) := by decide +kernel
theorem dX11_told_6 : decode cX11_told 6 = .ok (.getfield 395, 3) := by decide +kernel
theorem dX11_told_9 : decode cX11_told 9 = .ok (.ifCond .eq 21, 3) := by decide +kernel
theorem dX11_told_12 : decode cX11_told 12 = .ok (.iload_n 1, 1) := by decide +kernel
theorem dX11_told_13 : decode cX11_told 13 = .ok (.iconst 0, 1) := by decide +kernel
theorem dX11_told_14 : decode cX11_told 14 = .ok (.iconst 3, 1) := by decide +kernel
theorem dX11_told_15 : decode cX11_told 15 = .ok (.invokestatic 173, 3) := by decide +kernel
theorem dX11_told_18 : decode cX11_told 18 = .ok (.ifCond .eq 12, 3) := by decide +kernel
theorem dX11_told_21 : decode cX11_told 21 = .ok (.aload_n 0, 1) := by decide +kernel
theorem dX11_told_22 : decode cX11_told 22 = .ok (.getfield 71, 3) := by decide +kernel
theorem dX11_told_25 : decode cX11_told 25 = .ok (.iload_n 1, 1) := by decide +kernel
theorem dX11_told_26 : decode cX11_told 26 = .ok (.iaload, 1) := by decide +kernel
theorem dX11_told_27 : decode cX11_told 27 = .ok (.goto 4, 3) := by decide +kernel
theorem dX11_told_30 : decode cX11_told 30 = .ok (.iconst (-1), 1) := by decide +kernel
theorem dX11_told_31 : decode cX11_told 31 = .ok (.ireturn, 1) := by decide +kernel
theorem dX11_code_0 : decode cX11_code 0 = .ok (.aload_n 0, 1) := by decide +kernel
theorem dX11_code_1 : decode cX11_code 1 = .ok (.getfield 40, 3) := by decide +kernel
theorem dX11_code_4 : decode cX11_code 4 = .ok (.iconst 3, 1) := by decide +kernel
theorem dX11_code_5 : decode cX11_code 5 = .ok (.aload_n 0, 1) := by decide +kernel
theorem dX11_code_6 : decode cX11_code 6 = .ok (.getfield 398, 3) := by decide +kernel
theorem dX11_code_9 : decode cX11_code 9 = .ok (.imul, 1) := by decide +kernel
theorem dX11_code_10 : decode cX11_code 10 = .ok (.iload_n 1, 1) := by decide +kernel
theorem dX11_code_11 : decode cX11_code 11 = .ok (.iastore, 1) := by decide +kernel
theorem dX11_code_12 : decode cX11_code 12 = .ok (.aload_n 0, 1) := by decide +kernel
theorem dX11_code_13 : decode cX11_code 13 = .ok (.getfield 40, 3) := by decide +kernel
theorem dX11_code_16 : decode cX11_code 16 = .ok (.iconst 3, 1) := by decide +kernel
theorem dX11_code_17 : decode cX11_code 17 = .ok (.aload_n 0, 1) := by decide +kernel
theorem dX11_code_18 : decode cX11_code 18 = .ok (.getfield 398, 3) := by decide +kernel
theorem dX11_code_21 : decode cX11_code 21 = .ok (.imul, 1) := by decide +kernel
theorem dX11_code_22 : decode cX11_code 22 = .ok (.iconst 1, 1) := by decide +kernel
theorem dX11_code_23 : decode cX11_code 23 = .ok (.iadd, 1) := by decide +kernel
theorem dX11_code_24 : decode cX11_code 24 = .ok (.iload_n 2, 1) := by decide +kernel
theorem dX11_code_25 : decode cX11_code 25 = .ok (.iastore, 1) := by decide +kernel
theorem dX11_code_26 : decode cX11_code 26 = .ok (.aload_n 0, 1) := by decide +kernel
theorem dX11_code_27 : decode cX11_code 27 = .ok (.getfield 40, 3) := by decide +kernel
theorem dX11_code_30 : decode cX11_code 30 = .ok (.iconst 3, 1) := by decide +kernel
theorem dX11_code_31 : decode cX11_code 31 = .ok (.aload_n 0, 1) := by decide +kernel
theorem dX11_code_32 : decode cX11_code 32 = .ok (.getfield 398, 3) := by decide +kernel
theorem dX11_code_35 : decode cX11_code 35 = .ok (.imul, 1) := by decide +kernel
theorem dX11_code_36 : decode cX11_code 36 = .ok (.iconst 2, 1) := by decide +kernel
theorem dX11_code_37 : decode cX11_code 37 = .ok (.iadd, 1) := by decide +kernel
theorem dX11_code_38 : decode cX11_code 38 = .ok (.iload_n 3, 1) := by decide +kernel
theorem dX11_code_39 : decode cX11_code 39 = .ok (.iastore, 1) := by decide +kernel
theorem dX11_code_40 : decode cX11_code 40 = .ok (.aload_n 0, 1) := by decide +kernel
theorem dX11_code_41 : decode cX11_code 41 = .ok (.dup, 1) := by decide +kernel
theorem dX11_code_42 : decode cX11_code 42 = .ok (.getfield 398, 3) := by decide +kernel
theorem dX11_code_45 : decode cX11_code 45 = .ok (.iconst 1, 1) := by decide +kernel
theorem dX11_code_46 : decode cX11_code 46 = .ok (.iadd, 1) := by decide +kernel
theorem dX11_code_47 : decode cX11_code 47 = .ok (.putfield 398, 3) := by decide +kernel
theorem dX11_code_50 : decode cX11_code 50 = .ok (.return_, 1) := by decide +kernel
theorem dX11_joins_0 : decode cX11_joins 0 = .ok (.aload_n 0, 1) := by decide +kernel
theorem dX11_joins_1 : decode cX11_joins 1 = .ok (.getfield 401, 3) := by decide +kernel
theorem dX11_joins_4 : decode cX11_joins 4 = .ok (.ifCond .le 69, 3) := by decide +kernel
theorem dX11_joins_7 : decode cX11_joins 7 = .ok (.aload_n 0, 1) := by decide +kernel
theorem dX11_joins_8 : decode cX11_joins 8 = .ok (.getfield 74, 3) := by decide +kernel
theorem dX11_joins_11 : decode cX11_joins 11 = .ok (.aload_n 0, 1) := by decide +kernel
theorem dX11_joins_12 : decode cX11_joins 12 = .ok (.getfield 401, 3) := by decide +kernel
theorem dX11_joins_15 : decode cX11_joins 15 = .ok (.iconst 1, 1) := by decide +kernel
theorem dX11_joins_16 : decode cX11_joins 16 = .ok (.isub, 1) := by decide +kernel
theorem dX11_joins_17 : decode cX11_joins 17 = .ok (.iaload, 1) := by decide +kernel
theorem dX11_joins_18 : decode cX11_joins 18 = .ok (.bipush 21, 2) := by decide +kernel
theorem dX11_joins_20 : decode cX11_joins 20 = .ok (.if_icmp .eq 25, 3) := by decide +kernel
theorem dX11_joins_23 : decode cX11_joins 23 = .ok (.aload_n 0, 1) := by decide +kernel
theorem dX11_joins_24 : decode cX11_joins 24 = .ok (.getfield 74, 3) := by decide +kernel
theorem dX11_joins_27 : decode cX11_joins 27 = .ok (.aload_n 0, 1) := by decide +kernel
theorem dX11_joins_28 : decode cX11_joins 28 = .ok (.getfield 401, 3) := by decide +kernel
theorem dX11_joins_31 : decode cX11_joins 31 = .ok (.iconst 1, 1) := by decide +kernel
theorem dX11_joins_32 : decode cX11_joins 32 = .ok (.isub, 1) := by decide +kernel
theorem dX11_joins_33 : decode cX11_joins 33 = .ok (.iaload, 1) := by decide +kernel
theorem dX11_joins_34 : decode cX11_joins 34 = .ok (.bipush 22, 2) := by decide +kernel
theorem dX11_joins_36 : decode cX11_joins 36 = .ok (.if_icmp .ne 37, 3) := by decide +kernel
theorem dX11_joins_39 : decode cX11_joins 39 = .ok (.iload_n 1, 1) := by decide +kernel
theorem dX11_joins_40 : decode cX11_joins 40 = .ok (.bipush 22, 2) := by decide +kernel
theorem dX11_joins_42 : decode cX11_joins 42 = .ok (.if_icmp .ne 31, 3) := by decide +kernel
theorem dX11_joins_45 : decode cX11_joins 45 = .ok (.aload_n 0, 1) := by decide +kernel
theorem dX11_joins_46 : decode cX11_joins 46 = .ok (.dup, 1) := by decide +kernel
theorem dX11_joins_47 : decode cX11_joins 47 = .ok (.getfield 401, 3) := by decide +kernel
theorem dX11_joins_50 : decode cX11_joins 50 = .ok (.iconst 1, 1) := by decide +kernel
theorem dX11_joins_51 : decode cX11_joins 51 = .ok (.isub, 1) := by decide +kernel
theorem dX11_joins_52 : decode cX11_joins 52 = .ok (.putfield 401, 3) := by decide +kernel
theorem dX11_joins_55 : decode cX11_joins 55 = .ok (.aload_n 0, 1) := by decide +kernel
theorem dX11_joins_56 : decode cX11_joins 56 = .ok (.aload_n 0, 1) := by decide +kernel
theorem dX11_joins_57 : decode cX11_joins 57 = .ok (.getfield 74, 3) := by decide +kernel
theorem dX11_joins_60 : decode cX11_joins 60 = .ok (.aload_n 0, 1) := by decide +kernel
theorem dX11_joins_61 : decode cX11_joins 61 = .ok (.getfield 401, 3) := by decide +kernel
theorem dX11_joins_64 : decode cX11_joins 64 = .ok (.iaload, 1) := by decide +kernel
theorem dX11_joins_65 : decode cX11_joins 65 = .ok (.iconst 0, 1) := by decide +kernel
theorem dX11_joins_66 : decode cX11_joins 66 = .ok (.iconst 0, 1) := by decide +kernel
theorem dX11_joins_67 : decode cX11_joins 67 = .ok (.invokevirtual 404, 3) := by decide +kernel
theorem dX11_joins_70 : decode cX11_joins 70 = .ok (.goto (-70), 3) := by decide +kernel
theorem dX11_joins_73 : decode cX11_joins 73 = .ok (.return_, 1) := by decide +kernel
theorem dX11_nots_0 : decode cX11_nots 0 = .ok (.aload_n 0, 1) := by decide +kernel
theorem dX11_nots_1 : decode cX11_nots 1 = .ok (.getfield 401, 3) := by decide +kernel
theorem dX11_nots_4 : decode cX11_nots 4 = .ok (.ifCond .le 50, 3) := by decide +kernel
theorem dX11_nots_7 : decode cX11_nots 7 = .ok (.aload_n 0, 1) := by decide +kernel
theorem dX11_nots_8 : decode cX11_nots 8 = .ok (.getfield 74, 3) := by decide +kernel
theorem dX11_nots_11 : decode cX11_nots 11 = .ok (.aload_n 0, 1) := by decide +kernel
theorem dX11_nots_12 : decode cX11_nots 12 = .ok (.getfield 401, 3) := by decide +kernel
theorem dX11_nots_15 : decode cX11_nots 15 = .ok (.iconst 1, 1) := by decide +kernel
theorem dX11_nots_16 : decode cX11_nots 16 = .ok (.isub, 1) := by decide +kernel
theorem dX11_nots_17 : decode cX11_nots 17 = .ok (.iaload, 1) := by decide +kernel
theorem dX11_nots_18 : decode cX11_nots 18 = .ok (.bipush 20, 2) := by decide +kernel
theorem dX11_nots_20 : decode cX11_nots 20 = .ok (.if_icmp .ne 34, 3) := by decide +kernel
theorem dX11_nots_23 : decode cX11_nots 23 = .ok (.aload_n 0, 1) := by decide +kernel
theorem dX11_nots_24 : decode cX11_nots 24 = .ok (.dup, 1) := by decide +kernel
theorem dX11_nots_25 : decode cX11_nots 25 = .ok (.getfield 401, 3) := by decide +kernel
theorem dX11_nots_28 : decode cX11_nots 28 = .ok (.iconst 1, 1) := by decide +kernel
theorem dX11_nots_29 : decode cX11_nots 29 = .ok (.isub, 1) := by decide +kernel
theorem dX11_nots_30 : decode cX11_nots 30 = .ok (.putfield 401, 3) := by decide +kernel
theorem dX11_nots_33 : decode cX11_nots 33 = .ok (.aload_n 0, 1) := by decide +kernel
theorem dX11_nots_34 : decode cX11_nots 34 = .ok (.dup, 1) := by decide +kernel
theorem dX11_nots_35 : decode cX11_nots 35 = .ok (.getfield 408, 3) := by decide +kernel
theorem dX11_nots_38 : decode cX11_nots 38 = .ok (.iconst 1, 1) := by decide +kernel
theorem dX11_nots_39 : decode cX11_nots 39 = .ok (.isub, 1) := by decide +kernel
theorem dX11_nots_40 : decode cX11_nots 40 = .ok (.putfield 408, 3) := by decide +kernel
theorem dX11_nots_43 : decode cX11_nots 43 = .ok (.aload_n 0, 1) := by decide +kernel
theorem dX11_nots_44 : decode cX11_nots 44 = .ok (.bipush 20, 2) := by decide +kernel
theorem dX11_nots_46 : decode cX11_nots 46 = .ok (.iconst 0, 1) := by decide +kernel
theorem dX11_nots_47 : decode cX11_nots 47 = .ok (.iconst 0, 1) := by decide +kernel
theorem dX11_nots_48 : decode cX11_nots 48 = .ok (.invokevirtual 404, 3) := by decide +kernel
theorem dX11_nots_51 : decode cX11_nots 51 = .ok (.goto (-51), 3) := by decide +kernel
theorem dX11_nots_54 : decode cX11_nots 54 = .ok (.return_, 1) := by decide +kernel
theorem dX11_leafOf_0 : decode cX11_leafOf 0 = .ok (.aload_n 0, 1) := by decide +kernel
theorem dX11_leafOf_1 : decode cX11_leafOf 1 = .ok (.ldc2_w 110, 3) := by decide +kernel
theorem dX11_leafOf_4 : decode cX11_leafOf 4 = .ok (.invokevirtual 195, 3) := by decide +kernel
theorem dX11_leafOf_7 : decode cX11_leafOf 7 = .ok (.ifCond .eq 7, 3) := by decide +kernel
theorem dX11_leafOf_10 : decode cX11_leafOf 10 = .ok (.iconst 0, 1) := by decide +kernel
theorem dX11_leafOf_11 : decode cX11_leafOf 11 = .ok (.goto 119, 3) := by decide +kernel
theorem dX11_leafOf_14 : decode cX11_leafOf 14 = .ok (.aload_n 0, 1) := by decide +kernel
theorem dX11_leafOf_15 : decode cX11_leafOf 15 = .ok (.ldc2_w 112, 3) := by decide +kernel
theorem dX11_leafOf_18 : decode cX11_leafOf 18 = .ok (.invokevirtual 195, 3) := by decide +kernel
theorem dX11_leafOf_21 : decode cX11_leafOf 21 = .ok (.ifCond .eq 7, 3) := by decide +kernel
theorem dX11_leafOf_24 : decode cX11_leafOf 24 = .ok (.iconst 1, 1) := by decide +kernel
theorem dX11_leafOf_25 : decode cX11_leafOf 25 = .ok (.goto 105, 3) := by decide +kernel
theorem dX11_leafOf_28 : decode cX11_leafOf 28 = .ok (.aload_n 0, 1) := by decide +kernel
theorem dX11_leafOf_29 : decode cX11_leafOf 29 = .ok (.ldc2_w 114, 3) := by decide +kernel
theorem dX11_leafOf_32 : decode cX11_leafOf 32 = .ok (.invokevirtual 195, 3) := by decide +kernel
theorem dX11_leafOf_35 : decode cX11_leafOf 35 = .ok (.ifCond .eq 7, 3) := by decide +kernel
theorem dX11_leafOf_38 : decode cX11_leafOf 38 = .ok (.iconst 2, 1) := by decide +kernel
theorem dX11_leafOf_39 : decode cX11_leafOf 39 = .ok (.goto 91, 3) := by decide +kernel
theorem dX11_leafOf_42 : decode cX11_leafOf 42 = .ok (.aload_n 0, 1) := by decide +kernel
theorem dX11_leafOf_43 : decode cX11_leafOf 43 = .ok (.ldc2_w 116, 3) := by decide +kernel
theorem dX11_leafOf_46 : decode cX11_leafOf 46 = .ok (.invokevirtual 195, 3) := by decide +kernel
theorem dX11_leafOf_49 : decode cX11_leafOf 49 = .ok (.ifCond .eq 7, 3) := by decide +kernel
theorem dX11_leafOf_52 : decode cX11_leafOf 52 = .ok (.iconst 3, 1) := by decide +kernel
theorem dX11_leafOf_53 : decode cX11_leafOf 53 = .ok (.goto 77, 3) := by decide +kernel
theorem dX11_leafOf_56 : decode cX11_leafOf 56 = .ok (.aload_n 0, 1) := by decide +kernel
theorem dX11_leafOf_57 : decode cX11_leafOf 57 = .ok (.ldc2_w 118, 3) := by decide +kernel
theorem dX11_leafOf_60 : decode cX11_leafOf 60 = .ok (.invokevirtual 195, 3) := by decide +kernel
theorem dX11_leafOf_63 : decode cX11_leafOf 63 = .ok (.ifCond .eq 7, 3) := by decide +kernel
theorem dX11_leafOf_66 : decode cX11_leafOf 66 = .ok (.iconst 4, 1) := by decide +kernel
theorem dX11_leafOf_67 : decode cX11_leafOf 67 = .ok (.goto 63, 3) := by decide +kernel
theorem dX11_leafOf_70 : decode cX11_leafOf 70 = .ok (.aload_n 0, 1) := by decide +kernel
theorem dX11_leafOf_71 : decode cX11_leafOf 71 = .ok (.ldc2_w 120, 3) := by decide +kernel
theorem dX11_leafOf_74 : decode cX11_leafOf 74 = .ok (.invokevirtual 195, 3) := by decide +kernel
theorem dX11_leafOf_77 : decode cX11_leafOf 77 = .ok (.ifCond .eq 7, 3) := by decide +kernel
theorem dX11_leafOf_80 : decode cX11_leafOf 80 = .ok (.iconst 5, 1) := by decide +kernel
theorem dX11_leafOf_81 : decode cX11_leafOf 81 = .ok (.goto 49, 3) := by decide +kernel
theorem dX11_leafOf_84 : decode cX11_leafOf 84 = .ok (.aload_n 0, 1) := by decide +kernel
theorem dX11_leafOf_85 : decode cX11_leafOf 85 = .ok (.ldc2_w 122, 3) := by decide +kernel
theorem dX11_leafOf_88 : decode cX11_leafOf 88 = .ok (.invokevirtual 195, 3) := by decide +kernel
theorem dX11_leafOf_91 : decode cX11_leafOf 91 = .ok (.ifCond .eq 8, 3) := by decide +kernel
theorem dX11_leafOf_94 : decode cX11_leafOf 94 = .ok (.bipush 6, 2) := by decide +kernel
theorem dX11_leafOf_96 : decode cX11_leafOf 96 = .ok (.goto 34, 3) := by decide +kernel
theorem dX11_leafOf_99 : decode cX11_leafOf 99 = .ok (.aload_n 0, 1) := by decide +kernel
theorem dX11_leafOf_100 : decode cX11_leafOf 100 = .ok (.ldc2_w 124, 3) := by decide +kernel
theorem dX11_leafOf_103 : decode cX11_leafOf 103 = .ok (.invokevirtual 195, 3) := by decide +kernel
theorem dX11_leafOf_106 : decode cX11_leafOf 106 = .ok (.ifCond .eq 8, 3) := by decide +kernel
theorem dX11_leafOf_109 : decode cX11_leafOf 109 = .ok (.bipush 7, 2) := by decide +kernel
theorem dX11_leafOf_111 : decode cX11_leafOf 111 = .ok (.goto 19, 3) := by decide +kernel
theorem dX11_leafOf_114 : decode cX11_leafOf 114 = .ok (.aload_n 0, 1) := by decide +kernel
theorem dX11_leafOf_115 : decode cX11_leafOf 115 = .ok (.ldc2_w 126, 3) := by decide +kernel
theorem dX11_leafOf_118 : decode cX11_leafOf 118 = .ok (.invokevirtual 195, 3) := by decide +kernel
theorem dX11_leafOf_121 : decode cX11_leafOf 121 = .ok (.ifCond .eq 8, 3) := by decide +kernel
theorem dX11_leafOf_124 : decode cX11_leafOf 124 = .ok (.bipush 8, 2) := by decide +kernel
theorem dX11_leafOf_126 : decode cX11_leafOf 126 = .ok (.goto 4, 3) := by decide +kernel
theorem dX11_leafOf_129 : decode cX11_leafOf 129 = .ok (.iconst (-1), 1) := by decide +kernel
theorem dX11_leafOf_130 : decode cX11_leafOf 130 = .ok (.ireturn, 1) := by decide +kernel
theorem dX11_operand_0 : decode cX11_operand 0 = .ok (.aload_n 0, 1) := by decide +kernel
theorem dX11_operand_1 : decode cX11_operand 1 = .ok (.ldc2_w 108, 3) := by decide +kernel
theorem dX11_operand_4 : decode cX11_operand 4 = .ok (.invokevirtual 195, 3) := by decide +kernel
theorem dX11_operand_7 : decode cX11_operand 7 = .ok (.istore_n 1, 1) := by decide +kernel
theorem dX11_operand_8 : decode cX11_operand 8 = .ok (.aload_n 0, 1) := by decide +kernel
theorem dX11_operand_9 : decode cX11_operand 9 = .ok (.bipush 40, 2) := by decide +kernel
theorem dX11_operand_11 : decode cX11_operand 11 = .ok (.invokevirtual 164, 3) := by decide +kernel
theorem dX11_operand_14 : decode cX11_operand 14 = .ok (.istore_n 2, 1) := by decide +kernel
theorem dX11_operand_15 : decode cX11_operand 15 = .ok (.aload_n 0, 1) := by decide +kernel
theorem dX11_operand_16 : decode cX11_operand 16 = .ok (.invokevirtual 411, 3) := by decide +kernel
theorem dX11_operand_19 : decode cX11_operand 19 = .ok (.istore_n 3, 1) := by decide +kernel
theorem dX11_operand_20 : decode cX11_operand 20 = .ok (.iload_n 1, 1) := by decide +kernel
theorem dX11_operand_21 : decode cX11_operand 21 = .ok (.ifCond .ne 17, 3) := by decide +kernel
theorem dX11_operand_24 : decode cX11_operand 24 = .ok (.iload_n 2, 1) := by decide +kernel
theorem dX11_operand_25 : decode cX11_operand 25 = .ok (.ifCond .ne 13, 3) := by decide +kernel
theorem dX11_operand_28 : decode cX11_operand 28 = .ok (.iload_n 3, 1) := by decide +kernel
theorem dX11_operand_29 : decode cX11_operand 29 = .ok (.ifCond .ge 9, 3) := by decide +kernel
theorem dX11_operand_32 : decode cX11_operand 32 = .ok (.aload_n 0, 1) := by decide +kernel
theorem dX11_operand_33 : decode cX11_operand 33 = .ok (.iconst 1, 1) := by decide +kernel
theorem dX11_operand_34 : decode cX11_operand 34 = .ok (.invokevirtual 167, 3) := by decide +kernel
theorem dX11_operand_37 : decode cX11_operand 37 = .ok (.ireturn, 1) := by decide +kernel
theorem dX11_operand_38 : decode cX11_operand 38 = .ok (.aload_n 0, 1) := by decide +kernel
theorem dX11_operand_39 : decode cX11_operand 39 = .ok (.getfield 414, 3) := by decide +kernel
theorem dX11_operand_42 : decode cX11_operand 42 = .ok (.bipush 20, 2) := by decide +kernel
theorem dX11_operand_44 : decode cX11_operand 44 = .ok (.if_icmp .eq 12, 3) := by decide +kernel
theorem dX11_operand_47 : decode cX11_operand 47 = .ok (.aload_n 0, 1) := by decide +kernel
theorem dX11_operand_48 : decode cX11_operand 48 = .ok (.getfield 408, 3) := by decide +kernel
theorem dX11_operand_51 : decode cX11_operand 51 = .ok (.bipush 8, 2) := by decide +kernel
theorem dX11_operand_53 : decode cX11_operand 53 = .ok (.if_icmp .le 9, 3) := by decide +kernel
theorem dX11_operand_56 : decode cX11_operand 56 = .ok (.aload_n 0, 1) := by decide +kernel
theorem dX11_operand_57 : decode cX11_operand 57 = .ok (.iconst 4, 1) := by decide +kernel
theorem dX11_operand_58 : decode cX11_operand 58 = .ok (.invokevirtual 167, 3) := by decide +kernel
theorem dX11_operand_61 : decode cX11_operand 61 = .ok (.ireturn, 1) := by decide +kernel
theorem dX11_operand_62 : decode cX11_operand 62 = .ok (.aload_n 0, 1) := by decide +kernel
theorem dX11_operand_63 : decode cX11_operand 63 = .ok (.dup, 1) := by decide +kernel
theorem dX11_operand_64 : decode cX11_operand 64 = .ok (.getfield 414, 3) := by decide +kernel
theorem dX11_operand_67 : decode cX11_operand 67 = .ok (.iconst 1, 1) := by decide +kernel
theorem dX11_operand_68 : decode cX11_operand 68 = .ok (.iadd, 1) := by decide +kernel
theorem dX11_operand_69 : decode cX11_operand 69 = .ok (.putfield 414, 3) := by decide +kernel
theorem dX11_operand_72 : decode cX11_operand 72 = .ok (.aload_n 0, 1) := by decide +kernel
theorem dX11_operand_73 : decode cX11_operand 73 = .ok (.invokevirtual 170, 3) := by decide +kernel
theorem dX11_operand_76 : decode cX11_operand 76 = .ok (.iload_n 1, 1) := by decide +kernel
theorem dX11_operand_77 : decode cX11_operand 77 = .ok (.ifCond .ne 7, 3) := by decide +kernel
theorem dX11_operand_80 : decode cX11_operand 80 = .ok (.iload_n 2, 1) := by decide +kernel
theorem dX11_operand_81 : decode cX11_operand 81 = .ok (.ifCond .eq 45, 3) := by decide +kernel
theorem dX11_operand_84 : decode cX11_operand 84 = .ok (.aload_n 0, 1) := by decide +kernel
theorem dX11_operand_85 : decode cX11_operand 85 = .ok (.getfield 74, 3) := by decide +kernel
theorem dX11_operand_88 : decode cX11_operand 88 = .ok (.aload_n 0, 1) := by decide +kernel
theorem dX11_operand_89 : decode cX11_operand 89 = .ok (.getfield 401, 3) := by decide +kernel
theorem dX11_operand_92 : decode cX11_operand 92 = .ok (.iload_n 1, 1) := by decide +kernel
theorem dX11_operand_93 : decode cX11_operand 93 = .ok (.ifCond .eq 8, 3) := by decide +kernel
theorem dX11_operand_96 : decode cX11_operand 96 = .ok (.bipush 20, 2) := by decide +kernel
theorem dX11_operand_98 : decode cX11_operand 98 = .ok (.goto 5, 3) := by decide +kernel
theorem dX11_operand_101 : decode cX11_operand 101 = .ok (.bipush 23, 2) := by decide +kernel
theorem dX11_operand_103 : decode cX11_operand 103 = .ok (.iastore, 1) := by decide +kernel
theorem dX11_operand_104 : decode cX11_operand 104 = .ok (.aload_n 0, 1) := by decide +kernel
theorem dX11_operand_105 : decode cX11_operand 105 = .ok (.dup, 1) := by decide +kernel
theorem dX11_operand_106 : decode cX11_operand 106 = .ok (.getfield 401, 3) := by decide +kernel
theorem dX11_operand_109 : decode cX11_operand 109 = .ok (.iconst 1, 1) := by decide +kernel
theorem dX11_operand_110 : decode cX11_operand 110 = .ok (.iadd, 1) := by decide +kernel
theorem dX11_operand_111 : decode cX11_operand 111 = .ok (.putfield 401, 3) := by decide +kernel
theorem dX11_operand_114 : decode cX11_operand 114 = .ok (.aload_n 0, 1) := by decide +kernel
theorem dX11_operand_115 : decode cX11_operand 115 = .ok (.dup, 1) := by decide +kernel
theorem dX11_operand_116 : decode cX11_operand 116 = .ok (.getfield 408, 3) := by decide +kernel
theorem dX11_operand_119 : decode cX11_operand 119 = .ok (.iconst 1, 1) := by decide +kernel
theorem dX11_operand_120 : decode cX11_operand 120 = .ok (.iadd, 1) := by decide +kernel
theorem dX11_operand_121 : decode cX11_operand 121 = .ok (.putfield 408, 3) := by decide +kernel
theorem dX11_operand_124 : decode cX11_operand 124 = .ok (.iconst 1, 1) := by decide +kernel
theorem dX11_operand_125 : decode cX11_operand 125 = .ok (.ireturn, 1) := by decide +kernel
theorem dX11_operand_126 : decode cX11_operand 126 = .ok (.aload_n 0, 1) := by decide +kernel
theorem dX11_operand_127 : decode cX11_operand 127 = .ok (.iconst 1, 1) := by decide +kernel
theorem dX11_operand_128 : decode cX11_operand 128 = .ok (.putfield 417, 3) := by decide +kernel
theorem dX11_operand_131 : decode cX11_operand 131 = .ok (.iload_n 3, 1) := by decide +kernel
theorem dX11_operand_132 : decode cX11_operand 132 = .ok (.iconst 2, 1) := by decide +kernel
theorem dX11_operand_133 : decode cX11_operand 133 = .ok (.if_icmp .ge 12, 3) := by decide +kernel
theorem dX11_operand_136 : decode cX11_operand 136 = .ok (.aload_n 0, 1) := by decide +kernel
theorem dX11_operand_137 : decode cX11_operand 137 = .ok (.iload_n 3, 1) := by decide +kernel
theorem dX11_operand_138 : decode cX11_operand 138 = .ok (.iconst 0, 1) := by decide +kernel
theorem dX11_operand_139 : decode cX11_operand 139 = .ok (.iconst 0, 1) := by decide +kernel
theorem dX11_operand_140 : decode cX11_operand 140 = .ok (.invokevirtual 404, 3) := by decide +kernel
theorem dX11_operand_143 : decode cX11_operand 143 = .ok (.iconst 1, 1) := by decide +kernel
theorem dX11_operand_144 : decode cX11_operand 144 = .ok (.ireturn, 1) := by decide +kernel
theorem dX11_operand_145 : decode cX11_operand 145 = .ok (.iload_n 3, 1) := by decide +kernel
theorem dX11_operand_146 : decode cX11_operand 146 = .ok (.iconst 4, 1) := by decide +kernel
theorem dX11_operand_147 : decode cX11_operand 147 = .ok (.if_icmp .ge 58, 3) := by decide +kernel
theorem dX11_operand_150 : decode cX11_operand 150 = .ok (.iload_n 3, 1) := by decide +kernel
theorem dX11_operand_151 : decode cX11_operand 151 = .ok (.iconst 2, 1) := by decide +kernel
theorem dX11_operand_152 : decode cX11_operand 152 = .ok (.if_icmp .ne 17, 3) := by decide +kernel
theorem dX11_operand_155 : decode cX11_operand 155 = .ok (.aload_n 0, 1) := by decide +kernel
theorem dX11_operand_156 : decode cX11_operand 156 = .ok (.iconst 5, 1) := by decide +kernel
theorem dX11_operand_157 : decode cX11_operand 157 = .ok (.aload_n 0, 1) := by decide +kernel
theorem dX11_operand_158 : decode cX11_operand 158 = .ok (.getfield 33, 3) := by decide +kernel
theorem dX11_operand_161 : decode cX11_operand 161 = .ok (.iconst 1, 1) := by decide +kernel
theorem dX11_operand_162 : decode cX11_operand 162 = .ok (.iaload, 1) := by decide +kernel
theorem dX11_operand_163 : decode cX11_operand 163 = .ok (.invokevirtual 192, 3) := by decide +kernel
theorem dX11_operand_166 : decode cX11_operand 166 = .ok (.goto 14, 3) := by decide +kernel
theorem dX11_operand_169 : decode cX11_operand 169 = .ok (.aload_n 0, 1) := by decide +kernel
theorem dX11_operand_170 : decode cX11_operand 170 = .ok (.iconst 0, 1) := by decide +kernel
theorem dX11_operand_171 : decode cX11_operand 171 = .ok (.aload_n 0, 1) := by decide +kernel
theorem dX11_operand_172 : decode cX11_operand 172 = .ok (.getfield 33, 3) := by decide +kernel
theorem dX11_operand_175 : decode cX11_operand 175 = .ok (.iconst 0, 1) := by decide +kernel
theorem dX11_operand_176 : decode cX11_operand 176 = .ok (.iaload, 1) := by decide +kernel
theorem dX11_operand_177 : decode cX11_operand 177 = .ok (.invokevirtual 192, 3) := by decide +kernel
theorem dX11_operand_180 : decode cX11_operand 180 = .ok (.istore 4, 2) := by decide +kernel
theorem dX11_operand_182 : decode cX11_operand 182 = .ok (.iload 4, 2) := by decide +kernel
theorem dX11_operand_184 : decode cX11_operand 184 = .ok (.ifCond .ne 5, 3) := by decide +kernel
theorem dX11_operand_187 : decode cX11_operand 187 = .ok (.iconst 0, 1) := by decide +kernel
theorem dX11_operand_188 : decode cX11_operand 188 = .ok (.ireturn, 1) := by decide +kernel
theorem dX11_operand_189 : decode cX11_operand 189 = .ok (.aload_n 0, 1) := by decide +kernel
theorem dX11_operand_190 : decode cX11_operand 190 = .ok (.iload_n 3, 1) := by decide +kernel
theorem dX11_operand_191 : decode cX11_operand 191 = .ok (.iconst 0, 1) := by decide +kernel
theorem dX11_operand_192 : decode cX11_operand 192 = .ok (.aload_n 0, 1) := by decide +kernel
theorem dX11_operand_193 : decode cX11_operand 193 = .ok (.getfield 177, 3) := by decide +kernel
theorem dX11_operand_196 : decode cX11_operand 196 = .ok (.invokevirtual 404, 3) := by decide +kernel
theorem dX11_operand_199 : decode cX11_operand 199 = .ok (.aload_n 0, 1) := by decide +kernel
theorem dX11_operand_200 : decode cX11_operand 200 = .ok (.invokevirtual 170, 3) := by decide +kernel
theorem dX11_operand_203 : decode cX11_operand 203 = .ok (.iconst 1, 1) := by decide +kernel
theorem dX11_operand_204 : decode cX11_operand 204 = .ok (.ireturn, 1) := by decide +kernel
theorem dX11_operand_205 : decode cX11_operand 205 = .ok (.aload_n 0, 1) := by decide +kernel
theorem dX11_operand_206 : decode cX11_operand 206 = .ok (.getfield 141, 3) := by decide +kernel
theorem dX11_operand_209 : decode cX11_operand 209 = .ok (.iconst 3, 1) := by decide +kernel
theorem dX11_operand_210 : decode cX11_operand 210 = .ok (.if_icmp .ne 21, 3) := by decide +kernel
theorem dX11_operand_213 : decode cX11_operand 213 = .ok (.aload_n 0, 1) := by decide +kernel
theorem dX11_operand_214 : decode cX11_operand 214 = .ok (.getfield 151, 3) := by decide +kernel
theorem dX11_operand_217 : decode cX11_operand 217 = .ok (.bipush 60, 2) := by decide +kernel
theorem dX11_operand_219 : decode cX11_operand 219 = .ok (.if_icmp .lt 12, 3) := by decide +kernel
theorem dX11_operand_222 : decode cX11_operand 222 = .ok (.aload_n 0, 1) := by decide +kernel
theorem dX11_operand_223 : decode cX11_operand 223 = .ok (.getfield 151, 3) := by decide +kernel
theorem dX11_operand_226 : decode cX11_operand 226 = .ok (.bipush 62, 2) := by decide +kernel
theorem dX11_operand_228 : decode cX11_operand 228 = .ok (.if_icmp .le 9, 3) := by decide +kernel
theorem dX11_operand_231 : decode cX11_operand 231 = .ok (.aload_n 0, 1) := by decide +kernel
theorem dX11_operand_232 : decode cX11_operand 232 = .ok (.iconst 1, 1) := by decide +kernel
theorem dX11_operand_233 : decode cX11_operand 233 = .ok (.invokevirtual 167, 3) := by decide +kernel
theorem dX11_operand_236 : decode cX11_operand 236 = .ok (.ireturn, 1) := by decide +kernel
theorem dX11_operand_237 : decode cX11_operand 237 = .ok (.aload_n 0, 1) := by decide +kernel
theorem dX11_operand_238 : decode cX11_operand 238 = .ok (.getfield 151, 3) := by decide +kernel
theorem dX11_operand_241 : decode cX11_operand 241 = .ok (.istore 4, 2) := by decide +kernel
theorem dX11_operand_243 : decode cX11_operand 243 = .ok (.aload_n 0, 1) := by decide +kernel
theorem dX11_operand_244 : decode cX11_operand 244 = .ok (.invokevirtual 170, 3) := by decide +kernel
theorem dX11_operand_247 : decode cX11_operand 247 = .ok (.aload_n 0, 1) := by decide +kernel
theorem dX11_operand_248 : decode cX11_operand 248 = .ok (.getfield 141, 3) := by decide +kernel
theorem dX11_operand_251 : decode cX11_operand 251 = .ok (.iconst 2, 1) := by decide +kernel
theorem dX11_operand_252 : decode cX11_operand 252 = .ok (.if_icmp .eq 9, 3) := by decide +kernel
theorem dX11_operand_255 : decode cX11_operand 255 = .ok (.aload_n 0, 1) := by decide +kernel
theorem dX11_operand_256 : decode cX11_operand 256 = .ok (.iconst 1, 1) := by decide +kernel
theorem dX11_operand_257 : decode cX11_operand 257 = .ok (.invokevirtual 167, 3) := by decide +kernel
theorem dX11_operand_260 : decode cX11_operand 260 = .ok (.ireturn, 1) := by decide +kernel
theorem dX11_operand_261 : decode cX11_operand 261 = .ok (.aload_n 0, 1) := by decide +kernel
theorem dX11_operand_262 : decode cX11_operand 262 = .ok (.iload_n 3, 1) := by decide +kernel
theorem dX11_operand_263 : decode cX11_operand 263 = .ok (.iload 4, 2) := by decide +kernel
theorem dX11_operand_265 : decode cX11_operand 265 = .ok (.aload_n 0, 1) := by decide +kernel
theorem dX11_operand_266 : decode cX11_operand 266 = .ok (.getfield 151, 3) := by decide +kernel
theorem dX11_operand_269 : decode cX11_operand 269 = .ok (.invokevirtual 404, 3) := by decide +kernel
theorem dX11_operand_272 : decode cX11_operand 272 = .ok (.aload_n 0, 1) := by decide +kernel
theorem dX11_operand_273 : decode cX11_operand 273 = .ok (.invokevirtual 170, 3) := by decide +kernel
theorem dX11_operand_276 : decode cX11_operand 276 = .ok (.iconst 1, 1) := by decide +kernel
theorem dX11_operand_277 : decode cX11_operand 277 = .ok (.ireturn, 1) := by decide +kernel
theorem dX11_behind_0 : decode cX11_behind 0 = .ok (.aload_n 0, 1) := by decide +kernel
theorem dX11_behind_1 : decode cX11_behind 1 = .ok (.invokevirtual 420, 3) := by decide +kernel
theorem dX11_behind_4 : decode cX11_behind 4 = .ok (.aload_n 0, 1) := by decide +kernel
theorem dX11_behind_5 : decode cX11_behind 5 = .ok (.ldc2_w 106, 3) := by decide +kernel
theorem dX11_behind_8 : decode cX11_behind 8 = .ok (.invokevirtual 195, 3) := by decide +kernel
theorem dX11_behind_11 : decode cX11_behind 11 = .ok (.ifCond .ne 13, 3) := by decide +kernel
theorem dX11_behind_14 : decode cX11_behind 14 = .ok (.aload_n 0, 1) := by decide +kernel
theorem dX11_behind_15 : decode cX11_behind 15 = .ok (.ldc2_w 104, 3) := by decide +kernel
theorem dX11_behind_18 : decode cX11_behind 18 = .ok (.invokevirtual 195, 3) := by decide +kernel
theorem dX11_behind_21 : decode cX11_behind 21 = .ok (.ifCond .eq 71, 3) := by decide +kernel
theorem dX11_behind_24 : decode cX11_behind 24 = .ok (.aload_n 0, 1) := by decide +kernel
theorem dX11_behind_25 : decode cX11_behind 25 = .ok (.aload_n 0, 1) := by decide +kernel
theorem dX11_behind_26 : decode cX11_behind 26 = .ok (.ldc2_w 106, 3) := by decide +kernel
theorem dX11_behind_29 : decode cX11_behind 29 = .ok (.invokevirtual 195, 3) := by decide +kernel
theorem dX11_behind_32 : decode cX11_behind 32 = .ok (.ifCond .eq 8, 3) := by decide +kernel
theorem dX11_behind_35 : decode cX11_behind 35 = .ok (.bipush 21, 2) := by decide +kernel
theorem dX11_behind_37 : decode cX11_behind 37 = .ok (.goto 5, 3) := by decide +kernel
theorem dX11_behind_40 : decode cX11_behind 40 = .ok (.bipush 22, 2) := by decide +kernel
theorem dX11_behind_42 : decode cX11_behind 42 = .ok (.invokevirtual 423, 3) := by decide +kernel
theorem dX11_behind_45 : decode cX11_behind 45 = .ok (.aload_n 0, 1) := by decide +kernel
theorem dX11_behind_46 : decode cX11_behind 46 = .ok (.getfield 74, 3) := by decide +kernel
theorem dX11_behind_49 : decode cX11_behind 49 = .ok (.aload_n 0, 1) := by decide +kernel
theorem dX11_behind_50 : decode cX11_behind 50 = .ok (.getfield 401, 3) := by decide +kernel
theorem dX11_behind_53 : decode cX11_behind 53 = .ok (.aload_n 0, 1) := by decide +kernel
theorem dX11_behind_54 : decode cX11_behind 54 = .ok (.ldc2_w 106, 3) := by decide +kernel
theorem dX11_behind_57 : decode cX11_behind 57 = .ok (.invokevirtual 195, 3) := by decide +kernel
theorem dX11_behind_60 : decode cX11_behind 60 = .ok (.ifCond .eq 8, 3) := by decide +kernel
theorem dX11_behind_63 : decode cX11_behind 63 = .ok (.bipush 21, 2) := by decide +kernel
theorem dX11_behind_65 : decode cX11_behind 65 = .ok (.goto 5, 3) := by decide +kernel
theorem dX11_behind_68 : decode cX11_behind 68 = .ok (.bipush 22, 2) := by decide +kernel
theorem dX11_behind_70 : decode cX11_behind 70 = .ok (.iastore, 1) := by decide +kernel
theorem dX11_behind_71 : decode cX11_behind 71 = .ok (.aload_n 0, 1) := by decide +kernel
theorem dX11_behind_72 : decode cX11_behind 72 = .ok (.dup, 1) := by decide +kernel
theorem dX11_behind_73 : decode cX11_behind 73 = .ok (.getfield 401, 3) := by decide +kernel
theorem dX11_behind_76 : decode cX11_behind 76 = .ok (.iconst 1, 1) := by decide +kernel
theorem dX11_behind_77 : decode cX11_behind 77 = .ok (.iadd, 1) := by decide +kernel
theorem dX11_behind_78 : decode cX11_behind 78 = .ok (.putfield 401, 3) := by decide +kernel
theorem dX11_behind_81 : decode cX11_behind 81 = .ok (.aload_n 0, 1) := by decide +kernel
theorem dX11_behind_82 : decode cX11_behind 82 = .ok (.iconst 0, 1) := by decide +kernel
theorem dX11_behind_83 : decode cX11_behind 83 = .ok (.putfield 417, 3) := by decide +kernel
theorem dX11_behind_86 : decode cX11_behind 86 = .ok (.aload_n 0, 1) := by decide +kernel
theorem dX11_behind_87 : decode cX11_behind 87 = .ok (.invokevirtual 170, 3) := by decide +kernel
theorem dX11_behind_90 : decode cX11_behind 90 = .ok (.iconst 1, 1) := by decide +kernel
theorem dX11_behind_91 : decode cX11_behind 91 = .ok (.ireturn, 1) := by decide +kernel
theorem dX11_behind_92 : decode cX11_behind 92 = .ok (.aload_n 0, 1) := by decide +kernel
theorem dX11_behind_93 : decode cX11_behind 93 = .ok (.bipush 22, 2) := by decide +kernel
theorem dX11_behind_95 : decode cX11_behind 95 = .ok (.invokevirtual 423, 3) := by decide +kernel
theorem dX11_behind_98 : decode cX11_behind 98 = .ok (.aload_n 0, 1) := by decide +kernel
theorem dX11_behind_99 : decode cX11_behind 99 = .ok (.bipush 41, 2) := by decide +kernel
theorem dX11_behind_101 : decode cX11_behind 101 = .ok (.invokevirtual 164, 3) := by decide +kernel
theorem dX11_behind_104 : decode cX11_behind 104 = .ok (.ifCond .eq 10, 3) := by decide +kernel
theorem dX11_behind_107 : decode cX11_behind 107 = .ok (.aload_n 0, 1) := by decide +kernel
theorem dX11_behind_108 : decode cX11_behind 108 = .ok (.getfield 401, 3) := by decide +kernel
theorem dX11_behind_111 : decode cX11_behind 111 = .ok (.ifCond .ne 9, 3) := by decide +kernel
theorem dX11_behind_114 : decode cX11_behind 114 = .ok (.aload_n 0, 1) := by decide +kernel
theorem dX11_behind_115 : decode cX11_behind 115 = .ok (.iconst 1, 1) := by decide +kernel
theorem dX11_behind_116 : decode cX11_behind 116 = .ok (.invokevirtual 167, 3) := by decide +kernel
theorem dX11_behind_119 : decode cX11_behind 119 = .ok (.ireturn, 1) := by decide +kernel
theorem dX11_behind_120 : decode cX11_behind 120 = .ok (.aload_n 0, 1) := by decide +kernel
theorem dX11_behind_121 : decode cX11_behind 121 = .ok (.dup, 1) := by decide +kernel
theorem dX11_behind_122 : decode cX11_behind 122 = .ok (.getfield 401, 3) := by decide +kernel
theorem dX11_behind_125 : decode cX11_behind 125 = .ok (.iconst 1, 1) := by decide +kernel
theorem dX11_behind_126 : decode cX11_behind 126 = .ok (.isub, 1) := by decide +kernel
theorem dX11_behind_127 : decode cX11_behind 127 = .ok (.putfield 401, 3) := by decide +kernel
theorem dX11_behind_130 : decode cX11_behind 130 = .ok (.aload_n 0, 1) := by decide +kernel
theorem dX11_behind_131 : decode cX11_behind 131 = .ok (.dup, 1) := by decide +kernel
theorem dX11_behind_132 : decode cX11_behind 132 = .ok (.getfield 408, 3) := by decide +kernel
theorem dX11_behind_135 : decode cX11_behind 135 = .ok (.iconst 1, 1) := by decide +kernel
theorem dX11_behind_136 : decode cX11_behind 136 = .ok (.isub, 1) := by decide +kernel
theorem dX11_behind_137 : decode cX11_behind 137 = .ok (.putfield 408, 3) := by decide +kernel
theorem dX11_behind_140 : decode cX11_behind 140 = .ok (.aload_n 0, 1) := by decide +kernel
theorem dX11_behind_141 : decode cX11_behind 141 = .ok (.invokevirtual 170, 3) := by decide +kernel
theorem dX11_behind_144 : decode cX11_behind 144 = .ok (.iconst 1, 1) := by decide +kernel
theorem dX11_behind_145 : decode cX11_behind 145 = .ok (.ireturn, 1) := by decide +kernel
theorem dX11_sentence_0 : decode cX11_sentence 0 = .ok (.aload_n 0, 1) := by decide +kernel
theorem dX11_sentence_1 : decode cX11_sentence 1 = .ok (.iconst 0, 1) := by decide +kernel
theorem dX11_sentence_2 : decode cX11_sentence 2 = .ok (.putfield 1, 3) := by decide +kernel
theorem dX11_sentence_5 : decode cX11_sentence 5 = .ok (.aload_n 0, 1) := by decide +kernel
theorem dX11_sentence_6 : decode cX11_sentence 6 = .ok (.sipush 200, 3) := by decide +kernel
theorem dX11_sentence_9 : decode cX11_sentence 9 = .ok (.invokevirtual 221, 3) := by decide +kernel
theorem dX11_sentence_12 : decode cX11_sentence 12 = .ok (.aload_n 0, 1) := by decide +kernel
theorem dX11_sentence_13 : decode cX11_sentence 13 = .ok (.iconst 0, 1) := by decide +kernel
theorem dX11_sentence_14 : decode cX11_sentence 14 = .ok (.putfield 158, 3) := by decide +kernel
theorem dX11_sentence_17 : decode cX11_sentence 17 = .ok (.aload_n 0, 1) := by decide +kernel
theorem dX11_sentence_18 : decode cX11_sentence 18 = .ok (.iconst 0, 1) := by decide +kernel
theorem dX11_sentence_19 : decode cX11_sentence 19 = .ok (.putfield 398, 3) := by decide +kernel
theorem dX11_sentence_22 : decode cX11_sentence 22 = .ok (.aload_n 0, 1) := by decide +kernel
theorem dX11_sentence_23 : decode cX11_sentence 23 = .ok (.iconst 0, 1) := by decide +kernel
theorem dX11_sentence_24 : decode cX11_sentence 24 = .ok (.putfield 414, 3) := by decide +kernel
theorem dX11_sentence_27 : decode cX11_sentence 27 = .ok (.aload_n 0, 1) := by decide +kernel
theorem dX11_sentence_28 : decode cX11_sentence 28 = .ok (.iconst 0, 1) := by decide +kernel
theorem dX11_sentence_29 : decode cX11_sentence 29 = .ok (.putfield 401, 3) := by decide +kernel
theorem dX11_sentence_32 : decode cX11_sentence 32 = .ok (.aload_n 0, 1) := by decide +kernel
theorem dX11_sentence_33 : decode cX11_sentence 33 = .ok (.iconst 1, 1) := by decide +kernel
theorem dX11_sentence_34 : decode cX11_sentence 34 = .ok (.putfield 408, 3) := by decide +kernel
theorem dX11_sentence_37 : decode cX11_sentence 37 = .ok (.aload_n 0, 1) := by decide +kernel
theorem dX11_sentence_38 : decode cX11_sentence 38 = .ok (.iconst 0, 1) := by decide +kernel
theorem dX11_sentence_39 : decode cX11_sentence 39 = .ok (.putfield 417, 3) := by decide +kernel
theorem dX11_sentence_42 : decode cX11_sentence 42 = .ok (.aload_n 0, 1) := by decide +kernel
theorem dX11_sentence_43 : decode cX11_sentence 43 = .ok (.invokevirtual 170, 3) := by decide +kernel
theorem dX11_sentence_46 : decode cX11_sentence 46 = .ok (.iconst 1, 1) := by decide +kernel
theorem dX11_sentence_47 : decode cX11_sentence 47 = .ok (.istore_n 1, 1) := by decide +kernel
theorem dX11_sentence_48 : decode cX11_sentence 48 = .ok (.iload_n 1, 1) := by decide +kernel
theorem dX11_sentence_49 : decode cX11_sentence 49 = .ok (.ifCond .eq 83, 3) := by decide +kernel
theorem dX11_sentence_52 : decode cX11_sentence 52 = .ok (.aload_n 0, 1) := by decide +kernel
theorem dX11_sentence_53 : decode cX11_sentence 53 = .ok (.getfield 417, 3) := by decide +kernel
theorem dX11_sentence_56 : decode cX11_sentence 56 = .ok (.ifCond .eq 45, 3) := by decide +kernel
theorem dX11_sentence_59 : decode cX11_sentence 59 = .ok (.aload_n 0, 1) := by decide +kernel
theorem dX11_sentence_60 : decode cX11_sentence 60 = .ok (.getfield 141, 3) := by decide +kernel
theorem dX11_sentence_63 : decode cX11_sentence 63 = .ok (.ifCond .ne 38, 3) := by decide +kernel
theorem dX11_sentence_66 : decode cX11_sentence 66 = .ok (.aload_n 0, 1) := by decide +kernel
theorem dX11_sentence_67 : decode cX11_sentence 67 = .ok (.invokevirtual 420, 3) := by decide +kernel
theorem dX11_sentence_70 : decode cX11_sentence 70 = .ok (.aload_n 0, 1) := by decide +kernel
theorem dX11_sentence_71 : decode cX11_sentence 71 = .ok (.bipush 22, 2) := by decide +kernel
theorem dX11_sentence_73 : decode cX11_sentence 73 = .ok (.invokevirtual 423, 3) := by decide +kernel
theorem dX11_sentence_76 : decode cX11_sentence 76 = .ok (.aload_n 0, 1) := by decide +kernel
theorem dX11_sentence_77 : decode cX11_sentence 77 = .ok (.getfield 401, 3) := by decide +kernel
theorem dX11_sentence_80 : decode cX11_sentence 80 = .ok (.ifCond .le 16, 3) := by decide +kernel
theorem dX11_sentence_83 : decode cX11_sentence 83 = .ok (.aload_n 0, 1) := by decide +kernel
theorem dX11_sentence_84 : decode cX11_sentence 84 = .ok (.iconst 1, 1) := by decide +kernel
theorem dX11_sentence_85 : decode cX11_sentence 85 = .ok (.invokevirtual 167, 3) := by decide +kernel
theorem dX11_sentence_88 : decode cX11_sentence 88 = .ok (.pop, 1) := by decide +kernel
theorem dX11_sentence_89 : decode cX11_sentence 89 = .ok (.iconst (-1), 1) := by decide +kernel
theorem dX11_sentence_90 : decode cX11_sentence 90 = .ok (.aload_n 0, 1) := by decide +kernel
theorem dX11_sentence_91 : decode cX11_sentence 91 = .ok (.getfield 161, 3) := by decide +kernel
theorem dX11_sentence_94 : decode cX11_sentence 94 = .ok (.isub, 1) := by decide +kernel
theorem dX11_sentence_95 : decode cX11_sentence 95 = .ok (.ireturn, 1) := by decide +kernel
theorem dX11_sentence_96 : decode cX11_sentence 96 = .ok (.iconst 0, 1) := by decide +kernel
theorem dX11_sentence_97 : decode cX11_sentence 97 = .ok (.istore_n 1, 1) := by decide +kernel
theorem dX11_sentence_98 : decode cX11_sentence 98 = .ok (.goto (-50), 3) := by decide +kernel
theorem dX11_sentence_101 : decode cX11_sentence 101 = .ok (.aload_n 0, 1) := by decide +kernel
theorem dX11_sentence_102 : decode cX11_sentence 102 = .ok (.getfield 417, 3) := by decide +kernel
theorem dX11_sentence_105 : decode cX11_sentence 105 = .ok (.ifCond .eq 13, 3) := by decide +kernel
theorem dX11_sentence_108 : decode cX11_sentence 108 = .ok (.aload_n 0, 1) := by decide +kernel
theorem dX11_sentence_109 : decode cX11_sentence 109 = .ok (.invokevirtual 426, 3) := by decide +kernel
theorem dX11_sentence_112 : decode cX11_sentence 112 = .ok (.ifCond .ne (-64), 3) := by decide +kernel
theorem dX11_sentence_115 : decode cX11_sentence 115 = .ok (.goto 10, 3) := by decide +kernel
theorem dX11_sentence_118 : decode cX11_sentence 118 = .ok (.aload_n 0, 1) := by decide +kernel
theorem dX11_sentence_119 : decode cX11_sentence 119 = .ok (.invokevirtual 429, 3) := by decide +kernel
theorem dX11_sentence_122 : decode cX11_sentence 122 = .ok (.ifCond .ne (-74), 3) := by decide +kernel
theorem dX11_sentence_125 : decode cX11_sentence 125 = .ok (.iconst (-1), 1) := by decide +kernel
theorem dX11_sentence_126 : decode cX11_sentence 126 = .ok (.aload_n 0, 1) := by decide +kernel
theorem dX11_sentence_127 : decode cX11_sentence 127 = .ok (.getfield 161, 3) := by decide +kernel
theorem dX11_sentence_130 : decode cX11_sentence 130 = .ok (.isub, 1) := by decide +kernel
theorem dX11_sentence_131 : decode cX11_sentence 131 = .ok (.ireturn, 1) := by decide +kernel
theorem dX11_sentence_132 : decode cX11_sentence 132 = .ok (.aload_n 0, 1) := by decide +kernel
theorem dX11_sentence_133 : decode cX11_sentence 133 = .ok (.getfield 33, 3) := by decide +kernel
theorem dX11_sentence_136 : decode cX11_sentence 136 = .ok (.bipush 69, 2) := by decide +kernel
theorem dX11_sentence_138 : decode cX11_sentence 138 = .ok (.aload_n 0, 1) := by decide +kernel
theorem dX11_sentence_139 : decode cX11_sentence 139 = .ok (.getfield 398, 3) := by decide +kernel
theorem dX11_sentence_142 : decode cX11_sentence 142 = .ok (.iastore, 1) := by decide +kernel
theorem dX11_sentence_143 : decode cX11_sentence 143 = .ok (.iconst 0, 1) := by decide +kernel
theorem dX11_sentence_144 : decode cX11_sentence 144 = .ok (.istore_n 2, 1) := by decide +kernel
theorem dX11_sentence_145 : decode cX11_sentence 145 = .ok (.iload_n 2, 1) := by decide +kernel
theorem dX11_sentence_146 : decode cX11_sentence 146 = .ok (.iconst 3, 1) := by decide +kernel
theorem dX11_sentence_147 : decode cX11_sentence 147 = .ok (.aload_n 0, 1) := by decide +kernel
theorem dX11_sentence_148 : decode cX11_sentence 148 = .ok (.getfield 398, 3) := by decide +kernel
theorem dX11_sentence_151 : decode cX11_sentence 151 = .ok (.imul, 1) := by decide +kernel
theorem dX11_sentence_152 : decode cX11_sentence 152 = .ok (.if_icmp .ge 24, 3) := by decide +kernel
theorem dX11_sentence_155 : decode cX11_sentence 155 = .ok (.aload_n 0, 1) := by decide +kernel
theorem dX11_sentence_156 : decode cX11_sentence 156 = .ok (.getfield 33, 3) := by decide +kernel
theorem dX11_sentence_159 : decode cX11_sentence 159 = .ok (.bipush 70, 2) := by decide +kernel
theorem dX11_sentence_161 : decode cX11_sentence 161 = .ok (.iload_n 2, 1) := by decide +kernel
theorem dX11_sentence_162 : decode cX11_sentence 162 = .ok (.iadd, 1) := by decide +kernel
theorem dX11_sentence_163 : decode cX11_sentence 163 = .ok (.aload_n 0, 1) := by decide +kernel
theorem dX11_sentence_164 : decode cX11_sentence 164 = .ok (.getfield 40, 3) := by decide +kernel
theorem dX11_sentence_167 : decode cX11_sentence 167 = .ok (.iload_n 2, 1) := by decide +kernel
theorem dX11_sentence_168 : decode cX11_sentence 168 = .ok (.iaload, 1) := by decide +kernel
theorem dX11_sentence_169 : decode cX11_sentence 169 = .ok (.iastore, 1) := by decide +kernel
theorem dX11_sentence_170 : decode cX11_sentence 170 = .ok (.iinc 2 1, 3) := by decide +kernel
theorem dX11_sentence_173 : decode cX11_sentence 173 = .ok (.goto (-28), 3) := by decide +kernel
theorem dX11_sentence_176 : decode cX11_sentence 176 = .ok (.aload_n 0, 1) := by decide +kernel
theorem dX11_sentence_177 : decode cX11_sentence 177 = .ok (.getfield 414, 3) := by decide +kernel
theorem dX11_sentence_180 : decode cX11_sentence 180 = .ok (.ireturn, 1) := by decide +kernel
theorem dX11_isLeaf_0 : decode cX11_isLeaf 0 = .ok (.iload_n 2, 1) := by decide +kernel
theorem dX11_isLeaf_1 : decode cX11_isLeaf 1 = .ok (.tableswitch 93 0 3 #[31, 37, 43, 73], 31) := by decide +kernel
theorem dX11_isLeaf_32 : decode cX11_isLeaf 32 = .ok (.aload_n 0, 1) := by decide +kernel
theorem dX11_isLeaf_33 : decode cX11_isLeaf 33 = .ok (.iload_n 1, 1) := by decide +kernel
theorem dX11_isLeaf_34 : decode cX11_isLeaf 34 = .ok (.invokevirtual 288, 3) := by decide +kernel
theorem dX11_isLeaf_37 : decode cX11_isLeaf 37 = .ok (.ireturn, 1) := by decide +kernel
theorem dX11_isLeaf_38 : decode cX11_isLeaf 38 = .ok (.aload_n 0, 1) := by decide +kernel
theorem dX11_isLeaf_39 : decode cX11_isLeaf 39 = .ok (.iload_n 1, 1) := by decide +kernel
theorem dX11_isLeaf_40 : decode cX11_isLeaf 40 = .ok (.invokevirtual 255, 3) := by decide +kernel
theorem dX11_isLeaf_43 : decode cX11_isLeaf 43 = .ok (.ireturn, 1) := by decide +kernel
theorem dX11_isLeaf_44 : decode cX11_isLeaf 44 = .ok (.aload_n 0, 1) := by decide +kernel
theorem dX11_isLeaf_45 : decode cX11_isLeaf 45 = .ok (.getfield 33, 3) := by decide +kernel
theorem dX11_isLeaf_48 : decode cX11_isLeaf 48 = .ok (.bipush 34, 2) := by decide +kernel
theorem dX11_isLeaf_50 : decode cX11_isLeaf 50 = .ok (.iload 4, 2) := by decide +kernel
theorem dX11_isLeaf_52 : decode cX11_isLeaf 52 = .ok (.iadd, 1) := by decide +kernel
theorem dX11_isLeaf_53 : decode cX11_isLeaf 53 = .ok (.iaload, 1) := by decide +kernel
theorem dX11_isLeaf_54 : decode cX11_isLeaf 54 = .ok (.iload_n 1, 1) := by decide +kernel
theorem dX11_isLeaf_55 : decode cX11_isLeaf 55 = .ok (.if_icmp .ne 17, 3) := by decide +kernel
theorem dX11_isLeaf_58 : decode cX11_isLeaf 58 = .ok (.aload_n 0, 1) := by decide +kernel
theorem dX11_isLeaf_59 : decode cX11_isLeaf 59 = .ok (.iload 4, 2) := by decide +kernel
theorem dX11_isLeaf_61 : decode cX11_isLeaf 61 = .ok (.iconst 0, 1) := by decide +kernel
theorem dX11_isLeaf_62 : decode cX11_isLeaf 62 = .ok (.invokevirtual 282, 3) := by decide +kernel
theorem dX11_isLeaf_65 : decode cX11_isLeaf 65 = .ok (.ifCond .eq 7, 3) := by decide +kernel
theorem dX11_isLeaf_68 : decode cX11_isLeaf 68 = .ok (.iconst 1, 1) := by decide +kernel
theorem dX11_isLeaf_69 : decode cX11_isLeaf 69 = .ok (.goto 4, 3) := by decide +kernel
theorem dX11_isLeaf_72 : decode cX11_isLeaf 72 = .ok (.iconst 0, 1) := by decide +kernel
theorem dX11_isLeaf_73 : decode cX11_isLeaf 73 = .ok (.ireturn, 1) := by decide +kernel
theorem dX11_isLeaf_74 : decode cX11_isLeaf 74 = .ok (.aload_n 0, 1) := by decide +kernel
theorem dX11_isLeaf_75 : decode cX11_isLeaf 75 = .ok (.iload_n 1, 1) := by decide +kernel
theorem dX11_isLeaf_76 : decode cX11_isLeaf 76 = .ok (.invokevirtual 264, 3) := by decide +kernel
theorem dX11_isLeaf_79 : decode cX11_isLeaf 79 = .ok (.aload_n 0, 1) := by decide +kernel
theorem dX11_isLeaf_80 : decode cX11_isLeaf 80 = .ok (.iload 4, 2) := by decide +kernel
theorem dX11_isLeaf_82 : decode cX11_isLeaf 82 = .ok (.invokevirtual 264, 3) := by decide +kernel
theorem dX11_isLeaf_85 : decode cX11_isLeaf 85 = .ok (.if_icmp .ne 7, 3) := by decide +kernel
theorem dX11_isLeaf_88 : decode cX11_isLeaf 88 = .ok (.iconst 1, 1) := by decide +kernel
theorem dX11_isLeaf_89 : decode cX11_isLeaf 89 = .ok (.goto 4, 3) := by decide +kernel
theorem dX11_isLeaf_92 : decode cX11_isLeaf 92 = .ok (.iconst 0, 1) := by decide +kernel
theorem dX11_isLeaf_93 : decode cX11_isLeaf 93 = .ok (.ireturn, 1) := by decide +kernel
theorem dX11_isLeaf_94 : decode cX11_isLeaf 94 = .ok (.iload_n 2, 1) := by decide +kernel
theorem dX11_isLeaf_95 : decode cX11_isLeaf 95 = .ok (.iconst 4, 1) := by decide +kernel
theorem dX11_isLeaf_96 : decode cX11_isLeaf 96 = .ok (.if_icmp .ne 20, 3) := by decide +kernel
theorem dX11_isLeaf_99 : decode cX11_isLeaf 99 = .ok (.aload_n 0, 1) := by decide +kernel
theorem dX11_isLeaf_100 : decode cX11_isLeaf 100 = .ok (.iload_n 1, 1) := by decide +kernel
theorem dX11_isLeaf_101 : decode cX11_isLeaf 101 = .ok (.aload_n 0, 1) := by decide +kernel
theorem dX11_isLeaf_102 : decode cX11_isLeaf 102 = .ok (.getfield 33, 3) := by decide +kernel
theorem dX11_isLeaf_105 : decode cX11_isLeaf 105 = .ok (.bipush 54, 2) := by decide +kernel
theorem dX11_isLeaf_107 : decode cX11_isLeaf 107 = .ok (.iload_n 1, 1) := by decide +kernel
theorem dX11_isLeaf_108 : decode cX11_isLeaf 108 = .ok (.iadd, 1) := by decide +kernel
theorem dX11_isLeaf_109 : decode cX11_isLeaf 109 = .ok (.iaload, 1) := by decide +kernel
theorem dX11_isLeaf_110 : decode cX11_isLeaf 110 = .ok (.invokevirtual 246, 3) := by decide +kernel
theorem dX11_isLeaf_113 : decode cX11_isLeaf 113 = .ok (.goto 21, 3) := by decide +kernel
theorem dX11_isLeaf_116 : decode cX11_isLeaf 116 = .ok (.iload_n 2, 1) := by decide +kernel
theorem dX11_isLeaf_117 : decode cX11_isLeaf 117 = .ok (.bipush 8, 2) := by decide +kernel
theorem dX11_isLeaf_119 : decode cX11_isLeaf 119 = .ok (.if_icmp .ne 7, 3) := by decide +kernel
theorem dX11_isLeaf_122 : decode cX11_isLeaf 122 = .ok (.iload_n 1, 1) := by decide +kernel
theorem dX11_isLeaf_123 : decode cX11_isLeaf 123 = .ok (.goto 11, 3) := by decide +kernel
theorem dX11_isLeaf_126 : decode cX11_isLeaf 126 = .ok (.aload_n 0, 1) := by decide +kernel
theorem dX11_isLeaf_127 : decode cX11_isLeaf 127 = .ok (.iload_n 1, 1) := by decide +kernel
theorem dX11_isLeaf_128 : decode cX11_isLeaf 128 = .ok (.iload_n 2, 1) := by decide +kernel
theorem dX11_isLeaf_129 : decode cX11_isLeaf 129 = .ok (.iconst 5, 1) := by decide +kernel
theorem dX11_isLeaf_130 : decode cX11_isLeaf 130 = .ok (.isub, 1) := by decide +kernel
theorem dX11_isLeaf_131 : decode cX11_isLeaf 131 = .ok (.invokevirtual 338, 3) := by decide +kernel
theorem dX11_isLeaf_134 : decode cX11_isLeaf 134 = .ok (.istore 5, 2) := by decide +kernel
theorem dX11_isLeaf_136 : decode cX11_isLeaf 136 = .ok (.iload_n 3, 1) := by decide +kernel
theorem dX11_isLeaf_137 : decode cX11_isLeaf 137 = .ok (.bipush 60, 2) := by decide +kernel
theorem dX11_isLeaf_139 : decode cX11_isLeaf 139 = .ok (.if_icmp .ne 18, 3) := by decide +kernel
theorem dX11_isLeaf_142 : decode cX11_isLeaf 142 = .ok (.iload 5, 2) := by decide +kernel
theorem dX11_isLeaf_144 : decode cX11_isLeaf 144 = .ok (.iload 4, 2) := by decide +kernel
theorem dX11_isLeaf_146 : decode cX11_isLeaf 146 = .ok (.if_icmp .ge 7, 3) := by decide +kernel
theorem dX11_isLeaf_149 : decode cX11_isLeaf 149 = .ok (.iconst 1, 1) := by decide +kernel
theorem dX11_isLeaf_150 : decode cX11_isLeaf 150 = .ok (.goto 40, 3) := by decide +kernel
theorem dX11_isLeaf_153 : decode cX11_isLeaf 153 = .ok (.iconst 0, 1) := by decide +kernel
theorem dX11_isLeaf_154 : decode cX11_isLeaf 154 = .ok (.goto 36, 3) := by decide +kernel
theorem dX11_isLeaf_157 : decode cX11_isLeaf 157 = .ok (.iload_n 3, 1) := by decide +kernel
theorem dX11_isLeaf_158 : decode cX11_isLeaf 158 = .ok (.bipush 61, 2) := by decide +kernel
theorem dX11_isLeaf_160 : decode cX11_isLeaf 160 = .ok (.if_icmp .ne 18, 3) := by decide +kernel
theorem dX11_isLeaf_163 : decode cX11_isLeaf 163 = .ok (.iload 5, 2) := by decide +kernel
theorem dX11_isLeaf_165 : decode cX11_isLeaf 165 = .ok (.iload 4, 2) := by decide +kernel
theorem dX11_isLeaf_167 : decode cX11_isLeaf 167 = .ok (.if_icmp .ne 7, 3) := by decide +kernel
theorem dX11_isLeaf_170 : decode cX11_isLeaf 170 = .ok (.iconst 1, 1) := by decide +kernel
theorem dX11_isLeaf_171 : decode cX11_isLeaf 171 = .ok (.goto 19, 3) := by decide +kernel
theorem dX11_isLeaf_174 : decode cX11_isLeaf 174 = .ok (.iconst 0, 1) := by decide +kernel
theorem dX11_isLeaf_175 : decode cX11_isLeaf 175 = .ok (.goto 15, 3) := by decide +kernel
theorem dX11_isLeaf_178 : decode cX11_isLeaf 178 = .ok (.iload 5, 2) := by decide +kernel
theorem dX11_isLeaf_180 : decode cX11_isLeaf 180 = .ok (.iload 4, 2) := by decide +kernel
theorem dX11_isLeaf_182 : decode cX11_isLeaf 182 = .ok (.if_icmp .le 7, 3) := by decide +kernel
theorem dX11_isLeaf_185 : decode cX11_isLeaf 185 = .ok (.iconst 1, 1) := by decide +kernel
theorem dX11_isLeaf_186 : decode cX11_isLeaf 186 = .ok (.goto 4, 3) := by decide +kernel
theorem dX11_isLeaf_189 : decode cX11_isLeaf 189 = .ok (.iconst 0, 1) := by decide +kernel
theorem dX11_isLeaf_190 : decode cX11_isLeaf 190 = .ok (.ireturn, 1) := by decide +kernel
theorem dX11_isSaid_0 : decode cX11_isSaid 0 = .ok (.iconst 0, 1) := by decide +kernel
theorem dX11_isSaid_1 : decode cX11_isSaid 1 = .ok (.istore_n 2, 1) := by decide +kernel
theorem dX11_isSaid_2 : decode cX11_isSaid 2 = .ok (.iconst 0, 1) := by decide +kernel
theorem dX11_isSaid_3 : decode cX11_isSaid 3 = .ok (.istore_n 3, 1) := by decide +kernel
theorem dX11_isSaid_4 : decode cX11_isSaid 4 = .ok (.iload_n 3, 1) := by decide +kernel
theorem dX11_isSaid_5 : decode cX11_isSaid 5 = .ok (.aload_n 0, 1) := by decide +kernel
theorem dX11_isSaid_6 : decode cX11_isSaid 6 = .ok (.getfield 33, 3) := by decide +kernel
theorem dX11_isSaid_9 : decode cX11_isSaid 9 = .ok (.bipush 69, 2) := by decide +kernel
theorem dX11_isSaid_11 : decode cX11_isSaid 11 = .ok (.iaload, 1) := by decide +kernel
theorem dX11_isSaid_12 : decode cX11_isSaid 12 = .ok (.if_icmp .ge 198, 3) := by decide +kernel
theorem dX11_isSaid_15 : decode cX11_isSaid 15 = .ok (.bipush 70, 2) := by decide +kernel
theorem dX11_isSaid_17 : decode cX11_isSaid 17 = .ok (.iconst 3, 1) := by decide +kernel
theorem dX11_isSaid_18 : decode cX11_isSaid 18 = .ok (.iload_n 3, 1) := by decide +kernel
theorem dX11_isSaid_19 : decode cX11_isSaid 19 = .ok (.imul, 1) := by decide +kernel
theorem dX11_isSaid_20 : decode cX11_isSaid 20 = .ok (.iadd, 1) := by decide +kernel
theorem dX11_isSaid_21 : decode cX11_isSaid 21 = .ok (.istore 4, 2) := by decide +kernel
theorem dX11_isSaid_23 : decode cX11_isSaid 23 = .ok (.aload_n 0, 1) := by decide +kernel
theorem dX11_isSaid_24 : decode cX11_isSaid 24 = .ok (.getfield 33, 3) := by decide +kernel
theorem dX11_isSaid_27 : decode cX11_isSaid 27 = .ok (.iload 4, 2) := by decide +kernel
theorem dX11_isSaid_29 : decode cX11_isSaid 29 = .ok (.iaload, 1) := by decide +kernel
theorem dX11_isSaid_30 : decode cX11_isSaid 30 = .ok (.bipush 20, 2) := by decide +kernel
theorem dX11_isSaid_32 : decode cX11_isSaid 32 = .ok (.if_icmp .ne 30, 3) := by decide +kernel
theorem dX11_isSaid_35 : decode cX11_isSaid 35 = .ok (.aload_n 0, 1) := by decide +kernel
theorem dX11_isSaid_36 : decode cX11_isSaid 36 = .ok (.getfield 77, 3) := by decide +kernel
theorem dX11_isSaid_39 : decode cX11_isSaid 39 = .ok (.iload_n 2, 1) := by decide +kernel
theorem dX11_isSaid_40 : decode cX11_isSaid 40 = .ok (.iconst 1, 1) := by decide +kernel
theorem dX11_isSaid_41 : decode cX11_isSaid 41 = .ok (.isub, 1) := by decide +kernel
theorem dX11_isSaid_42 : decode cX11_isSaid 42 = .ok (.aload_n 0, 1) := by decide +kernel
theorem dX11_isSaid_43 : decode cX11_isSaid 43 = .ok (.getfield 77, 3) := by decide +kernel
theorem dX11_isSaid_46 : decode cX11_isSaid 46 = .ok (.iload_n 2, 1) := by decide +kernel
theorem dX11_isSaid_47 : decode cX11_isSaid 47 = .ok (.iconst 1, 1) := by decide +kernel
theorem dX11_isSaid_48 : decode cX11_isSaid 48 = .ok (.isub, 1) := by decide +kernel
theorem dX11_isSaid_49 : decode cX11_isSaid 49 = .ok (.baload, 1) := by decide +kernel
theorem dX11_isSaid_50 : decode cX11_isSaid 50 = .ok (.ifCond .ne 7, 3) := by decide +kernel
theorem dX11_isSaid_53 : decode cX11_isSaid 53 = .ok (.iconst 1, 1) := by decide +kernel
theorem dX11_isSaid_54 : decode cX11_isSaid 54 = .ok (.goto 4, 3) := by decide +kernel
theorem dX11_isSaid_57 : decode cX11_isSaid 57 = .ok (.iconst 0, 1) := by decide +kernel
theorem dX11_isSaid_58 : decode cX11_isSaid 58 = .ok (.bastore, 1) := by decide +kernel
theorem dX11_isSaid_59 : decode cX11_isSaid 59 = .ok (.goto 145, 3) := by decide +kernel
theorem dX11_isSaid_62 : decode cX11_isSaid 62 = .ok (.aload_n 0, 1) := by decide +kernel
theorem dX11_isSaid_63 : decode cX11_isSaid 63 = .ok (.getfield 33, 3) := by decide +kernel
theorem dX11_isSaid_66 : decode cX11_isSaid 66 = .ok (.iload 4, 2) := by decide +kernel
theorem dX11_isSaid_68 : decode cX11_isSaid 68 = .ok (.iaload, 1) := by decide +kernel
theorem dX11_isSaid_69 : decode cX11_isSaid 69 = .ok (.bipush 21, 2) := by decide +kernel
theorem dX11_isSaid_71 : decode cX11_isSaid 71 = .ok (.if_icmp .eq 15, 3) := by decide +kernel
theorem dX11_isSaid_74 : decode cX11_isSaid 74 = .ok (.aload_n 0, 1) := by decide +kernel
theorem dX11_isSaid_75 : decode cX11_isSaid 75 = .ok (.getfield 33, 3) := by decide +kernel
theorem dX11_isSaid_78 : decode cX11_isSaid 78 = .ok (.iload 4, 2) := by decide +kernel
theorem dX11_isSaid_80 : decode cX11_isSaid 80 = .ok (.iaload, 1) := by decide +kernel
theorem dX11_isSaid_81 : decode cX11_isSaid 81 = .ok (.bipush 22, 2) := by decide +kernel
theorem dX11_isSaid_83 : decode cX11_isSaid 83 = .ok (.if_icmp .ne 82, 3) := by decide +kernel
theorem dX11_isSaid_86 : decode cX11_isSaid 86 = .ok (.iinc 2 (-1), 3) := by decide +kernel
theorem dX11_isSaid_89 : decode cX11_isSaid 89 = .ok (.aload_n 0, 1) := by decide +kernel
theorem dX11_isSaid_90 : decode cX11_isSaid 90 = .ok (.getfield 77, 3) := by decide +kernel
theorem dX11_isSaid_93 : decode cX11_isSaid 93 = .ok (.iload_n 2, 1) := by decide +kernel
theorem dX11_isSaid_94 : decode cX11_isSaid 94 = .ok (.iconst 1, 1) := by decide +kernel
theorem dX11_isSaid_95 : decode cX11_isSaid 95 = .ok (.isub, 1) := by decide +kernel
theorem dX11_isSaid_96 : decode cX11_isSaid 96 = .ok (.aload_n 0, 1) := by decide +kernel
theorem dX11_isSaid_97 : decode cX11_isSaid 97 = .ok (.getfield 33, 3) := by decide +kernel
theorem dX11_isSaid_100 : decode cX11_isSaid 100 = .ok (.iload 4, 2) := by decide +kernel
theorem dX11_isSaid_102 : decode cX11_isSaid 102 = .ok (.iaload, 1) := by decide +kernel
theorem dX11_isSaid_103 : decode cX11_isSaid 103 = .ok (.bipush 21, 2) := by decide +kernel
theorem dX11_isSaid_105 : decode cX11_isSaid 105 = .ok (.if_icmp .ne 31, 3) := by decide +kernel
theorem dX11_isSaid_108 : decode cX11_isSaid 108 = .ok (.aload_n 0, 1) := by decide +kernel
theorem dX11_isSaid_109 : decode cX11_isSaid 109 = .ok (.getfield 77, 3) := by decide +kernel
theorem dX11_isSaid_112 : decode cX11_isSaid 112 = .ok (.iload_n 2, 1) := by decide +kernel
theorem dX11_isSaid_113 : decode cX11_isSaid 113 = .ok (.iconst 1, 1) := by decide +kernel
theorem dX11_isSaid_114 : decode cX11_isSaid 114 = .ok (.isub, 1) := by decide +kernel
theorem dX11_isSaid_115 : decode cX11_isSaid 115 = .ok (.baload, 1) := by decide +kernel
theorem dX11_isSaid_116 : decode cX11_isSaid 116 = .ok (.ifCond .eq 16, 3) := by decide +kernel
theorem dX11_isSaid_119 : decode cX11_isSaid 119 = .ok (.aload_n 0, 1) := by decide +kernel
theorem dX11_isSaid_120 : decode cX11_isSaid 120 = .ok (.getfield 77, 3) := by decide +kernel
theorem dX11_isSaid_123 : decode cX11_isSaid 123 = .ok (.iload_n 2, 1) := by decide +kernel
theorem dX11_isSaid_124 : decode cX11_isSaid 124 = .ok (.baload, 1) := by decide +kernel
theorem dX11_isSaid_125 : decode cX11_isSaid 125 = .ok (.ifCond .eq 7, 3) := by decide +kernel
theorem dX11_isSaid_128 : decode cX11_isSaid 128 = .ok (.iconst 1, 1) := by decide +kernel
theorem dX11_isSaid_129 : decode cX11_isSaid 129 = .ok (.goto 32, 3) := by decide +kernel
theorem dX11_isSaid_132 : decode cX11_isSaid 132 = .ok (.iconst 0, 1) := by decide +kernel
theorem dX11_isSaid_133 : decode cX11_isSaid 133 = .ok (.goto 28, 3) := by decide +kernel
theorem dX11_isSaid_136 : decode cX11_isSaid 136 = .ok (.aload_n 0, 1) := by decide +kernel
theorem dX11_isSaid_137 : decode cX11_isSaid 137 = .ok (.getfield 77, 3) := by decide +kernel
theorem dX11_isSaid_140 : decode cX11_isSaid 140 = .ok (.iload_n 2, 1) := by decide +kernel
theorem dX11_isSaid_141 : decode cX11_isSaid 141 = .ok (.iconst 1, 1) := by decide +kernel
theorem dX11_isSaid_142 : decode cX11_isSaid 142 = .ok (.isub, 1) := by decide +kernel
theorem dX11_isSaid_143 : decode cX11_isSaid 143 = .ok (.baload, 1) := by decide +kernel
theorem dX11_isSaid_144 : decode cX11_isSaid 144 = .ok (.ifCond .ne 12, 3) := by decide +kernel
theorem dX11_isSaid_147 : decode cX11_isSaid 147 = .ok (.aload_n 0, 1) := by decide +kernel
theorem dX11_isSaid_148 : decode cX11_isSaid 148 = .ok (.getfield 77, 3) := by decide +kernel
theorem dX11_isSaid_151 : decode cX11_isSaid 151 = .ok (.iload_n 2, 1) := by decide +kernel
theorem dX11_isSaid_152 : decode cX11_isSaid 152 = .ok (.baload, 1) := by decide +kernel
theorem dX11_isSaid_153 : decode cX11_isSaid 153 = .ok (.ifCond .eq 7, 3) := by decide +kernel
theorem dX11_isSaid_156 : decode cX11_isSaid 156 = .ok (.iconst 1, 1) := by decide +kernel
theorem dX11_isSaid_157 : decode cX11_isSaid 157 = .ok (.goto 4, 3) := by decide +kernel
theorem dX11_isSaid_160 : decode cX11_isSaid 160 = .ok (.iconst 0, 1) := by decide +kernel
theorem dX11_isSaid_161 : decode cX11_isSaid 161 = .ok (.bastore, 1) := by decide +kernel
theorem dX11_isSaid_162 : decode cX11_isSaid 162 = .ok (.goto 42, 3) := by decide +kernel
theorem dX11_isSaid_165 : decode cX11_isSaid 165 = .ok (.aload_n 0, 1) := by decide +kernel
theorem dX11_isSaid_166 : decode cX11_isSaid 166 = .ok (.getfield 77, 3) := by decide +kernel
theorem dX11_isSaid_169 : decode cX11_isSaid 169 = .ok (.iload_n 2, 1) := by decide +kernel
theorem dX11_isSaid_170 : decode cX11_isSaid 170 = .ok (.aload_n 0, 1) := by decide +kernel
theorem dX11_isSaid_171 : decode cX11_isSaid 171 = .ok (.iload_n 1, 1) := by decide +kernel
theorem dX11_isSaid_172 : decode cX11_isSaid 172 = .ok (.aload_n 0, 1) := by decide +kernel
theorem dX11_isSaid_173 : decode cX11_isSaid 173 = .ok (.getfield 33, 3) := by decide +kernel
theorem dX11_isSaid_176 : decode cX11_isSaid 176 = .ok (.iload 4, 2) := by decide +kernel
theorem dX11_isSaid_178 : decode cX11_isSaid 178 = .ok (.iaload, 1) := by decide +kernel
theorem dX11_isSaid_179 : decode cX11_isSaid 179 = .ok (.aload_n 0, 1) := by decide +kernel
theorem dX11_isSaid_180 : decode cX11_isSaid 180 = .ok (.getfield 33, 3) := by decide +kernel
theorem dX11_isSaid_183 : decode cX11_isSaid 183 = .ok (.iload 4, 2) := by decide +kernel
theorem dX11_isSaid_185 : decode cX11_isSaid 185 = .ok (.iconst 1, 1) := by decide +kernel
theorem dX11_isSaid_186 : decode cX11_isSaid 186 = .ok (.iadd, 1) := by decide +kernel
theorem dX11_isSaid_187 : decode cX11_isSaid 187 = .ok (.iaload, 1) := by decide +kernel
theorem dX11_isSaid_188 : decode cX11_isSaid 188 = .ok (.aload_n 0, 1) := by decide +kernel
theorem dX11_isSaid_189 : decode cX11_isSaid 189 = .ok (.getfield 33, 3) := by decide +kernel
theorem dX11_isSaid_192 : decode cX11_isSaid 192 = .ok (.iload 4, 2) := by decide +kernel
theorem dX11_isSaid_194 : decode cX11_isSaid 194 = .ok (.iconst 2, 1) := by decide +kernel
theorem dX11_isSaid_195 : decode cX11_isSaid 195 = .ok (.iadd, 1) := by decide +kernel
theorem dX11_isSaid_196 : decode cX11_isSaid 196 = .ok (.iaload, 1) := by decide +kernel
theorem dX11_isSaid_197 : decode cX11_isSaid 197 = .ok (.invokevirtual 432, 3) := by decide +kernel
theorem dX11_isSaid_200 : decode cX11_isSaid 200 = .ok (.bastore, 1) := by decide +kernel
theorem dX11_isSaid_201 : decode cX11_isSaid 201 = .ok (.iinc 2 1, 3) := by decide +kernel
theorem dX11_isSaid_204 : decode cX11_isSaid 204 = .ok (.iinc 3 1, 3) := by decide +kernel
theorem dX11_isSaid_207 : decode cX11_isSaid 207 = .ok (.goto (-203), 3) := by decide +kernel
theorem dX11_isSaid_210 : decode cX11_isSaid 210 = .ok (.aload_n 0, 1) := by decide +kernel
theorem dX11_isSaid_211 : decode cX11_isSaid 211 = .ok (.getfield 77, 3) := by decide +kernel
theorem dX11_isSaid_214 : decode cX11_isSaid 214 = .ok (.iconst 0, 1) := by decide +kernel
theorem dX11_isSaid_215 : decode cX11_isSaid 215 = .ok (.baload, 1) := by decide +kernel
theorem dX11_isSaid_216 : decode cX11_isSaid 216 = .ok (.ireturn, 1) := by decide +kernel
theorem dX11_said_0 : decode cX11_said 0 = .ok (.aload_n 0, 1) := by decide +kernel
theorem dX11_said_1 : decode cX11_said 1 = .ok (.iconst 0, 1) := by decide +kernel
theorem dX11_said_2 : decode cX11_said 2 = .ok (.putfield 1, 3) := by decide +kernel
theorem dX11_said_5 : decode cX11_said 5 = .ok (.aload_n 0, 1) := by decide +kernel
theorem dX11_said_6 : decode cX11_said 6 = .ok (.getfield 33, 3) := by decide +kernel
theorem dX11_said_9 : decode cX11_said 9 = .ok (.bipush 69, 2) := by decide +kernel
theorem dX11_said_11 : decode cX11_said 11 = .ok (.iaload, 1) := by decide +kernel
theorem dX11_said_12 : decode cX11_said 12 = .ok (.ifCond .eq 8, 3) := by decide +kernel
theorem dX11_said_15 : decode cX11_said 15 = .ok (.iload_n 1, 1) := by decide +kernel
theorem dX11_said_16 : decode cX11_said 16 = .ok (.iconst (-1), 1) := by decide +kernel
theorem dX11_said_17 : decode cX11_said 17 = .ok (.if_icmp .ge 5, 3) := by decide +kernel
theorem dX11_said_20 : decode cX11_said 20 = .ok (.iconst (-1), 1) := by decide +kernel
theorem dX11_said_21 : decode cX11_said 21 = .ok (.ireturn, 1) := by decide +kernel
theorem dX11_said_22 : decode cX11_said 22 = .ok (.iconst 0, 1) := by decide +kernel
theorem dX11_said_23 : decode cX11_said 23 = .ok (.istore_n 2, 1) := by decide +kernel
theorem dX11_said_24 : decode cX11_said 24 = .ok (.iconst 0, 1) := by decide +kernel
theorem dX11_said_25 : decode cX11_said 25 = .ok (.istore_n 3, 1) := by decide +kernel
theorem dX11_said_26 : decode cX11_said 26 = .ok (.iload_n 3, 1) := by decide +kernel
theorem dX11_said_27 : decode cX11_said 27 = .ok (.aload_n 0, 1) := by decide +kernel
theorem dX11_said_28 : decode cX11_said 28 = .ok (.getfield 33, 3) := by decide +kernel
theorem dX11_said_31 : decode cX11_said 31 = .ok (.iconst 0, 1) := by decide +kernel
theorem dX11_said_32 : decode cX11_said 32 = .ok (.iaload, 1) := by decide +kernel
theorem dX11_said_33 : decode cX11_said 33 = .ok (.if_icmp .ge 30, 3) := by decide +kernel
theorem dX11_said_36 : decode cX11_said 36 = .ok (.aload_n 0, 1) := by decide +kernel
theorem dX11_said_37 : decode cX11_said 37 = .ok (.iload_n 3, 1) := by decide +kernel
theorem dX11_said_38 : decode cX11_said 38 = .ok (.invokevirtual 436, 3) := by decide +kernel
theorem dX11_said_41 : decode cX11_said 41 = .ok (.ifCond .ne 6, 3) := by decide +kernel
theorem dX11_said_44 : decode cX11_said 44 = .ok (.goto 13, 3) := by decide +kernel
theorem dX11_said_47 : decode cX11_said 47 = .ok (.iload_n 2, 1) := by decide +kernel
theorem dX11_said_48 : decode cX11_said 48 = .ok (.iload_n 1, 1) := by decide +kernel
theorem dX11_said_49 : decode cX11_said 49 = .ok (.if_icmp .ne 5, 3) := by decide +kernel
theorem dX11_said_52 : decode cX11_said 52 = .ok (.iload_n 3, 1) := by decide +kernel
theorem dX11_said_53 : decode cX11_said 53 = .ok (.ireturn, 1) := by decide +kernel
theorem dX11_said_54 : decode cX11_said 54 = .ok (.iinc 2 1, 3) := by decide +kernel
theorem dX11_said_57 : decode cX11_said 57 = .ok (.iinc 3 1, 3) := by decide +kernel
theorem dX11_said_60 : decode cX11_said 60 = .ok (.goto (-34), 3) := by decide +kernel
theorem dX11_said_63 : decode cX11_said 63 = .ok (.iload_n 1, 1) := by decide +kernel
theorem dX11_said_64 : decode cX11_said 64 = .ok (.iconst (-1), 1) := by decide +kernel
theorem dX11_said_65 : decode cX11_said 65 = .ok (.if_icmp .ne 7, 3) := by decide +kernel
theorem dX11_said_68 : decode cX11_said 68 = .ok (.iload_n 2, 1) := by decide +kernel
theorem dX11_said_69 : decode cX11_said 69 = .ok (.goto 4, 3) := by decide +kernel
theorem dX11_said_72 : decode cX11_said 72 = .ok (.iconst (-1), 1) := by decide +kernel
theorem dX11_said_73 : decode cX11_said 73 = .ok (.ireturn, 1) := by decide +kernel
theorem dX11_image_0 : decode cX11_image 0 = .ok (.aload_n 0, 1) := by decide +kernel
theorem dX11_image_1 : decode cX11_image 1 = .ok (.iconst 0, 1) := by decide +kernel
theorem dX11_image_2 : decode cX11_image 2 = .ok (.putfield 1, 3) := by decide +kernel
theorem dX11_image_5 : decode cX11_image 5 = .ok (.iload_n 1, 1) := by decide +kernel
theorem dX11_image_6 : decode cX11_image 6 = .ok (.iconst 0, 1) := by decide +kernel
theorem dX11_image_7 : decode cX11_image 7 = .ok (.iconst 1, 1) := by decide +kernel
theorem dX11_image_8 : decode cX11_image 8 = .ok (.invokestatic 173, 3) := by decide +kernel
theorem dX11_image_11 : decode cX11_image 11 = .ok (.ifCond .ne 5, 3) := by decide +kernel
theorem dX11_image_14 : decode cX11_image 14 = .ok (.iconst 0, 1) := by decide +kernel
theorem dX11_image_15 : decode cX11_image 15 = .ok (.ireturn, 1) := by decide +kernel
theorem dX11_image_16 : decode cX11_image 16 = .ok (.iconst 0, 1) := by decide +kernel
theorem dX11_image_17 : decode cX11_image 17 = .ok (.istore_n 2, 1) := by decide +kernel
theorem dX11_image_18 : decode cX11_image 18 = .ok (.iload_n 2, 1) := by decide +kernel
theorem dX11_image_19 : decode cX11_image 19 = .ok (.sipush 250, 3) := by decide +kernel
theorem dX11_image_22 : decode cX11_image 22 = .ok (.if_icmp .ge 27, 3) := by decide +kernel
theorem dX11_image_25 : decode cX11_image 25 = .ok (.aload_n 0, 1) := by decide +kernel
theorem dX11_image_26 : decode cX11_image 26 = .ok (.getfield 81, 3) := by decide +kernel
theorem dX11_image_29 : decode cX11_image 29 = .ok (.sipush 250, 3) := by decide +kernel
theorem dX11_image_32 : decode cX11_image 32 = .ok (.iload_n 1, 1) := by decide +kernel
theorem dX11_image_33 : decode cX11_image 33 = .ok (.imul, 1) := by decide +kernel
theorem dX11_image_34 : decode cX11_image 34 = .ok (.iload_n 2, 1) := by decide +kernel
theorem dX11_image_35 : decode cX11_image 35 = .ok (.iadd, 1) := by decide +kernel
theorem dX11_image_36 : decode cX11_image 36 = .ok (.aload_n 0, 1) := by decide +kernel
theorem dX11_image_37 : decode cX11_image 37 = .ok (.getfield 33, 3) := by decide +kernel
theorem dX11_image_40 : decode cX11_image 40 = .ok (.iload_n 2, 1) := by decide +kernel
theorem dX11_image_41 : decode cX11_image 41 = .ok (.iaload, 1) := by decide +kernel
theorem dX11_image_42 : decode cX11_image 42 = .ok (.iastore, 1) := by decide +kernel
theorem dX11_image_43 : decode cX11_image 43 = .ok (.iinc 2 1, 3) := by decide +kernel
theorem dX11_image_46 : decode cX11_image 46 = .ok (.goto (-28), 3) := by decide +kernel
theorem dX11_image_49 : decode cX11_image 49 = .ok (.iconst 0, 1) := by decide +kernel
theorem dX11_image_50 : decode cX11_image 50 = .ok (.istore_n 2, 1) := by decide +kernel
theorem dX11_image_51 : decode cX11_image 51 = .ok (.iload_n 2, 1) := by decide +kernel
theorem dX11_image_52 : decode cX11_image 52 = .ok (.bipush 11, 2) := by decide +kernel
theorem dX11_image_54 : decode cX11_image 54 = .ok (.if_icmp .ge 26, 3) := by decide +kernel
theorem dX11_image_57 : decode cX11_image 57 = .ok (.aload_n 0, 1) := by decide +kernel
theorem dX11_image_58 : decode cX11_image 58 = .ok (.getfield 84, 3) := by decide +kernel
theorem dX11_image_61 : decode cX11_image 61 = .ok (.bipush 11, 2) := by decide +kernel
theorem dX11_image_63 : decode cX11_image 63 = .ok (.iload_n 1, 1) := by decide +kernel
theorem dX11_image_64 : decode cX11_image 64 = .ok (.imul, 1) := by decide +kernel
theorem dX11_image_65 : decode cX11_image 65 = .ok (.iload_n 2, 1) := by decide +kernel
theorem dX11_image_66 : decode cX11_image 66 = .ok (.iadd, 1) := by decide +kernel
theorem dX11_image_67 : decode cX11_image 67 = .ok (.aload_n 0, 1) := by decide +kernel
theorem dX11_image_68 : decode cX11_image 68 = .ok (.getfield 43, 3) := by decide +kernel
theorem dX11_image_71 : decode cX11_image 71 = .ok (.iload_n 2, 1) := by decide +kernel
theorem dX11_image_72 : decode cX11_image 72 = .ok (.laload, 1) := by decide +kernel
theorem dX11_image_73 : decode cX11_image 73 = .ok (.lastore, 1) := by decide +kernel
theorem dX11_image_74 : decode cX11_image 74 = .ok (.iinc 2 1, 3) := by decide +kernel
theorem dX11_image_77 : decode cX11_image 77 = .ok (.goto (-26), 3) := by decide +kernel
theorem dX11_image_80 : decode cX11_image 80 = .ok (.aload_n 0, 1) := by decide +kernel
theorem dX11_image_81 : decode cX11_image 81 = .ok (.getfield 87, 3) := by decide +kernel
theorem dX11_image_84 : decode cX11_image 84 = .ok (.iload_n 1, 1) := by decide +kernel
theorem dX11_image_85 : decode cX11_image 85 = .ok (.iconst 1, 1) := by decide +kernel
theorem dX11_image_86 : decode cX11_image 86 = .ok (.bastore, 1) := by decide +kernel
theorem dX11_image_87 : decode cX11_image 87 = .ok (.iconst 1, 1) := by decide +kernel
theorem dX11_image_88 : decode cX11_image 88 = .ok (.ireturn, 1) := by decide +kernel
theorem dX11_restore_0 : decode cX11_restore 0 = .ok (.aload_n 0, 1) := by decide +kernel
theorem dX11_restore_1 : decode cX11_restore 1 = .ok (.iconst 0, 1) := by decide +kernel
theorem dX11_restore_2 : decode cX11_restore 2 = .ok (.putfield 1, 3) := by decide +kernel
theorem dX11_restore_5 : decode cX11_restore 5 = .ok (.iload_n 1, 1) := by decide +kernel
theorem dX11_restore_6 : decode cX11_restore 6 = .ok (.iconst 0, 1) := by decide +kernel
theorem dX11_restore_7 : decode cX11_restore 7 = .ok (.iconst 1, 1) := by decide +kernel
theorem dX11_restore_8 : decode cX11_restore 8 = .ok (.invokestatic 173, 3) := by decide +kernel
theorem dX11_restore_11 : decode cX11_restore 11 = .ok (.ifCond .eq 12, 3) := by decide +kernel
theorem dX11_restore_14 : decode cX11_restore 14 = .ok (.aload_n 0, 1) := by decide +kernel
theorem dX11_restore_15 : decode cX11_restore 15 = .ok (.getfield 87, 3) := by decide +kernel
theorem dX11_restore_18 : decode cX11_restore 18 = .ok (.iload_n 1, 1) := by decide +kernel
theorem dX11_restore_19 : decode cX11_restore 19 = .ok (.baload, 1) := by decide +kernel
theorem dX11_restore_20 : decode cX11_restore 20 = .ok (.ifCond .ne 5, 3) := by decide +kernel
theorem dX11_restore_23 : decode cX11_restore 23 = .ok (.iconst 0, 1) := by decide +kernel
theorem dX11_restore_24 : decode cX11_restore 24 = .ok (.ireturn, 1) := by decide +kernel
theorem dX11_restore_25 : decode cX11_restore 25 = .ok (.iconst 0, 1) := by decide +kernel
theorem dX11_restore_26 : decode cX11_restore 26 = .ok (.istore_n 2, 1) := by decide +kernel
theorem dX11_restore_27 : decode cX11_restore 27 = .ok (.iload_n 2, 1) := by decide +kernel
theorem dX11_restore_28 : decode cX11_restore 28 = .ok (.sipush 250, 3) := by decide +kernel
theorem dX11_restore_31 : decode cX11_restore 31 = .ok (.if_icmp .ge 27, 3) := by decide +kernel
theorem dX11_restore_34 : decode cX11_restore 34 = .ok (.aload_n 0, 1) := by decide +kernel
theorem dX11_restore_35 : decode cX11_restore 35 = .ok (.getfield 33, 3) := by decide +kernel
theorem dX11_restore_38 : decode cX11_restore 38 = .ok (.iload_n 2, 1) := by decide +kernel
theorem dX11_restore_39 : decode cX11_restore 39 = .ok (.aload_n 0, 1) := by decide +kernel
theorem dX11_restore_40 : decode cX11_restore 40 = .ok (.getfield 81, 3) := by decide +kernel
theorem dX11_restore_43 : decode cX11_restore 43 = .ok (.sipush 250, 3) := by decide +kernel
theorem dX11_restore_46 : decode cX11_restore 46 = .ok (.iload_n 1, 1) := by decide +kernel
theorem dX11_restore_47 : decode cX11_restore 47 = .ok (.imul, 1) := by decide +kernel
theorem dX11_restore_48 : decode cX11_restore 48 = .ok (.iload_n 2, 1) := by decide +kernel
theorem dX11_restore_49 : decode cX11_restore 49 = .ok (.iadd, 1) := by decide +kernel
theorem dX11_restore_50 : decode cX11_restore 50 = .ok (.iaload, 1) := by decide +kernel
theorem dX11_restore_51 : decode cX11_restore 51 = .ok (.iastore, 1) := by decide +kernel
theorem dX11_restore_52 : decode cX11_restore 52 = .ok (.iinc 2 1, 3) := by decide +kernel
theorem dX11_restore_55 : decode cX11_restore 55 = .ok (.goto (-28), 3) := by decide +kernel
theorem dX11_restore_58 : decode cX11_restore 58 = .ok (.iconst 0, 1) := by decide +kernel
theorem dX11_restore_59 : decode cX11_restore 59 = .ok (.istore_n 2, 1) := by decide +kernel
theorem dX11_restore_60 : decode cX11_restore 60 = .ok (.iload_n 2, 1) := by decide +kernel
theorem dX11_restore_61 : decode cX11_restore 61 = .ok (.bipush 11, 2) := by decide +kernel
theorem dX11_restore_63 : decode cX11_restore 63 = .ok (.if_icmp .ge 26, 3) := by decide +kernel
theorem dX11_restore_66 : decode cX11_restore 66 = .ok (.aload_n 0, 1) := by decide +kernel
theorem dX11_restore_67 : decode cX11_restore 67 = .ok (.getfield 43, 3) := by decide +kernel
theorem dX11_restore_70 : decode cX11_restore 70 = .ok (.iload_n 2, 1) := by decide +kernel
theorem dX11_restore_71 : decode cX11_restore 71 = .ok (.aload_n 0, 1) := by decide +kernel
theorem dX11_restore_72 : decode cX11_restore 72 = .ok (.getfield 84, 3) := by decide +kernel
theorem dX11_restore_75 : decode cX11_restore 75 = .ok (.bipush 11, 2) := by decide +kernel
theorem dX11_restore_77 : decode cX11_restore 77 = .ok (.iload_n 1, 1) := by decide +kernel
theorem dX11_restore_78 : decode cX11_restore 78 = .ok (.imul, 1) := by decide +kernel
theorem dX11_restore_79 : decode cX11_restore 79 = .ok (.iload_n 2, 1) := by decide +kernel
theorem dX11_restore_80 : decode cX11_restore 80 = .ok (.iadd, 1) := by decide +kernel
theorem dX11_restore_81 : decode cX11_restore 81 = .ok (.laload, 1) := by decide +kernel
theorem dX11_restore_82 : decode cX11_restore 82 = .ok (.lastore, 1) := by decide +kernel
theorem dX11_restore_83 : decode cX11_restore 83 = .ok (.iinc 2 1, 3) := by decide +kernel
theorem dX11_restore_86 : decode cX11_restore 86 = .ok (.goto (-26), 3) := by decide +kernel
theorem dX11_restore_89 : decode cX11_restore 89 = .ok (.aload_n 0, 1) := by decide +kernel
theorem dX11_restore_90 : decode cX11_restore 90 = .ok (.iconst 0, 1) := by decide +kernel
theorem dX11_restore_91 : decode cX11_restore 91 = .ok (.putfield 233, 3) := by decide +kernel
theorem dX11_restore_94 : decode cX11_restore 94 = .ok (.iconst 1, 1) := by decide +kernel
theorem dX11_restore_95 : decode cX11_restore 95 = .ok (.ireturn, 1) := by decide +kernel
theorem dX11_count_0 : decode cX11_count 0 = .ok (.aload_n 0, 1) := by decide +kernel
theorem dX11_count_1 : decode cX11_count 1 = .ok (.iconst 0, 1) := by decide +kernel
theorem dX11_count_2 : decode cX11_count 2 = .ok (.putfield 1, 3) := by decide +kernel
theorem dX11_count_5 : decode cX11_count 5 = .ok (.iload_n 1, 1) := by decide +kernel
theorem dX11_count_6 : decode cX11_count 6 = .ok (.iconst 4, 1) := by decide +kernel
theorem dX11_count_7 : decode cX11_count 7 = .ok (.if_icmp .ne 10, 3) := by decide +kernel
theorem dX11_count_10 : decode cX11_count 10 = .ok (.aload_n 0, 1) := by decide +kernel
theorem dX11_count_11 : decode cX11_count 11 = .ok (.getfield 7, 3) := by decide +kernel
theorem dX11_count_14 : decode cX11_count 14 = .ok (.goto 22, 3) := by decide +kernel
theorem dX11_count_17 : decode cX11_count 17 = .ok (.iload_n 1, 1) := by decide +kernel
theorem dX11_count_18 : decode cX11_count 18 = .ok (.iconst 0, 1) := by decide +kernel
theorem dX11_count_19 : decode cX11_count 19 = .ok (.iconst 3, 1) := by decide +kernel
theorem dX11_count_20 : decode cX11_count 20 = .ok (.invokestatic 173, 3) := by decide +kernel
theorem dX11_count_23 : decode cX11_count 23 = .ok (.ifCond .eq 12, 3) := by decide +kernel
theorem dX11_count_26 : decode cX11_count 26 = .ok (.aload_n 0, 1) := by decide +kernel
theorem dX11_count_27 : decode cX11_count 27 = .ok (.getfield 33, 3) := by decide +kernel
theorem dX11_count_30 : decode cX11_count 30 = .ok (.iload_n 1, 1) := by decide +kernel
theorem dX11_count_31 : decode cX11_count 31 = .ok (.iaload, 1) := by decide +kernel
theorem dX11_count_32 : decode cX11_count 32 = .ok (.goto 4, 3) := by decide +kernel
theorem dX11_count_35 : decode cX11_count 35 = .ok (.iconst (-1), 1) := by decide +kernel
theorem dX11_count_36 : decode cX11_count 36 = .ok (.ireturn, 1) := by decide +kernel
theorem flX11_40 : FL RX11 40 11 8 := ⟨RX11, TX11, 46, tyX11, cd_11, by decide, Or.inl (inr_6 _ (List.mem_of_getElem? (i := 18) rfl))⟩
theorem flX11_68 : FL RX11 68 11 30 := ⟨RX11, TX11, 46, tyX11, cd_11, by decide, Or.inl (inr_7 _ (List.mem_of_getElem? (i := 3) rfl))⟩
theorem flX11_71 : FL RX11 71 11 34 := ⟨RX11, TX11, 46, tyX11, cd_11, by decide, Or.inl (inr_7 _ (List.mem_of_getElem? (i := 4) rfl))⟩
theorem flX11_74 : FL RX11 74 11 36 := ⟨RX11, TX11, 46, tyX11, cd_11, by decide, Or.inl (inr_7 _ (List.mem_of_getElem? (i := 5) rfl))⟩
theorem flX11_77 : FL RX11 77 11 42 := ⟨RX11, TX11, 46, tyX11, cd_11, by decide, Or.inl (inr_7 _ (List.mem_of_getElem? (i := 6) rfl))⟩
theorem flX11_81 : FL RX11 81 11 43 := ⟨RX11, TX11, 46, tyX11, cd_11, by decide, Or.inl (inr_7 _ (List.mem_of_getElem? (i := 7) rfl))⟩
theorem flX11_84 : FL RX11 84 11 44 := ⟨RX11, TX11, 46, tyX11, cd_11, by decide, Or.inl (inr_7 _ (List.mem_of_getElem? (i := 8) rfl))⟩
theorem flX11_87 : FL RX11 87 11 45 := ⟨RX11, TX11, 46, tyX11, cd_11, by decide, Or.inl (inr_7 _ (List.mem_of_getElem? (i := 9) rfl))⟩
theorem flX11_347 : FL RX11 347 11 31 := ⟨RX11, TX11, 46, tyX11, cd_11, by decide, Or.inl (inr_52 _ (List.mem_of_getElem? (i := 1) rfl))⟩
theorem flX11_366 : FL RX11 366 11 32 := ⟨RX11, TX11, 46, tyX11, cd_11, by decide, Or.inl (inr_54 _ (List.mem_of_getElem? (i := 0) rfl))⟩
theorem flX11_385 : FL RX11 385 11 33 := ⟨RX11, TX11, 46, tyX11, cd_11, by decide, Or.inl (inr_57 _ (List.mem_of_getElem? (i := 16) rfl))⟩
theorem flX11_395 : FL RX11 395 11 35 := ⟨RX11, TX11, 46, tyX11, cd_11, by decide, Or.inl (inr_57 _ (List.mem_of_getElem? (i := 17) rfl))⟩
theorem flX11_398 : FL RX11 398 11 37 := ⟨RX11, TX11, 46, tyX11, cd_11, by decide, Or.inl (inr_61 _ (List.mem_of_getElem? (i := 12) rfl))⟩
theorem flX11_401 : FL RX11 401 11 39 := ⟨RX11, TX11, 46, tyX11, cd_11, by decide, Or.inl (inr_61 _ (List.mem_of_getElem? (i := 14) rfl))⟩
theorem flX11_408 : FL RX11 408 11 40 := ⟨RX11, TX11, 46, tyX11, cd_11, by decide, Or.inl (inr_61 _ (List.mem_of_getElem? (i := 15) rfl))⟩
theorem flX11_414 : FL RX11 414 11 38 := ⟨RX11, TX11, 46, tyX11, cd_11, by decide, Or.inl (inr_61 _ (List.mem_of_getElem? (i := 13) rfl))⟩
theorem flX11_417 : FL RX11 417 11 41 := ⟨RX11, TX11, 46, tyX11, cd_11, by decide, Or.inl (inr_61 _ (List.mem_of_getElem? (i := 16) rfl))⟩
theorem fpX11_347 : FP RX11 347 11 31 .int := ⟨RX11, TX11, 46, tyX11, cd_11, by decide, (inr_52 _ (List.mem_of_getElem? (i := 1) rfl)), rfl, by decide +kernel⟩
theorem fpX11_366 : FP RX11 366 11 32 .int := ⟨RX11, TX11, 46, tyX11, cd_11, by decide, (inr_54 _ (List.mem_of_getElem? (i := 0) rfl)), rfl, by decide +kernel⟩
theorem fpX11_385 : FP RX11 385 11 33 .int := ⟨RX11, TX11, 46, tyX11, cd_11, by decide, (inr_57 _ (List.mem_of_getElem? (i := 16) rfl)), rfl, by decide +kernel⟩
theorem fpX11_395 : FP RX11 395 11 35 .boolean := ⟨RX11, TX11, 46, tyX11, cd_11, by decide, (inr_57 _ (List.mem_of_getElem? (i := 17) rfl)), rfl, by decide +kernel⟩
theorem fpX11_398 : FP RX11 398 11 37 .int := ⟨RX11, TX11, 46, tyX11, cd_11, by decide, (inr_61 _ (List.mem_of_getElem? (i := 12) rfl)), rfl, by decide +kernel⟩
theorem fpX11_401 : FP RX11 401 11 39 .int := ⟨RX11, TX11, 46, tyX11, cd_11, by decide, (inr_61 _ (List.mem_of_getElem? (i := 14) rfl)), rfl, by decide +kernel⟩
theorem fpX11_408 : FP RX11 408 11 40 .int := ⟨RX11, TX11, 46, tyX11, cd_11, by decide, (inr_61 _ (List.mem_of_getElem? (i := 15) rfl)), rfl, by decide +kernel⟩
theorem fpX11_414 : FP RX11 414 11 38 .int := ⟨RX11, TX11, 46, tyX11, cd_11, by decide, (inr_61 _ (List.mem_of_getElem? (i := 13) rfl)), rfl, by decide +kernel⟩
theorem fpX11_417 : FP RX11 417 11 41 .boolean := ⟨RX11, TX11, 46, tyX11, cd_11, by decide, (inr_61 _ (List.mem_of_getElem? (i := 16) rfl)), rfl, by decide +kernel⟩
theorem mlX11_352 : MLv RX11 352 RX11 11 yX11_lays cX11_lays 2 none 1 := ⟨(inr_52 _ (List.mem_of_getElem? (i := 10) rfl)), (inr_52 _ (List.mem_of_getElem? (i := 7) rfl)), (inr_52 _ (List.mem_of_getElem? (i := 8) rfl)), (inr_52 _ (List.mem_of_getElem? (i := 9) rfl)), (inr_1 _ (List.mem_of_getElem? (i := 5) rfl)), rfl, ⟨by decide, by decide, by decide +kernel⟩, by decide, by decide, rfl⟩
theorem mlX11_355 : MLv RX11 355 RX11 11 yX11_spells cX11_spells 4 none 1 := ⟨(inr_52 _ (List.mem_of_getElem? (i := 5) rfl)), (inr_52 _ (List.mem_of_getElem? (i := 2) rfl)), (inr_52 _ (List.mem_of_getElem? (i := 3) rfl)), (inr_52 _ (List.mem_of_getElem? (i := 4) rfl)), (inr_1 _ (List.mem_of_getElem? (i := 5) rfl)), rfl, ⟨by decide, by decide, by decide +kernel⟩, by decide, by decide, rfl⟩
theorem mlX11_359 : MLv RX11 359 RX11 11 yX11_says cX11_says 3 none 1 := ⟨(inr_52 _ (List.mem_of_getElem? (i := 18) rfl)), (inr_52 _ (List.mem_of_getElem? (i := 15) rfl)), (inr_52 _ (List.mem_of_getElem? (i := 16) rfl)), (inr_52 _ (List.mem_of_getElem? (i := 17) rfl)), (inr_1 _ (List.mem_of_getElem? (i := 5) rfl)), rfl, ⟨by decide, by decide, by decide +kernel⟩, by decide, by decide, rfl⟩
theorem mlX11_362 : MLv RX11 362 RX11 11 yX11_saysOf cX11_saysOf 5 none 2 := ⟨(inr_52 _ (List.mem_of_getElem? (i := 14) rfl)), (inr_52 _ (List.mem_of_getElem? (i := 11) rfl)), (inr_52 _ (List.mem_of_getElem? (i := 12) rfl)), (inr_52 _ (List.mem_of_getElem? (i := 13) rfl)), (inr_1 _ (List.mem_of_getElem? (i := 5) rfl)), rfl, ⟨by decide, by decide, by decide +kernel⟩, by decide, by decide, rfl⟩
theorem mlX11_370 : MLv RX11 370 RX11 11 yX11_draw cX11_draw 2 (some .int) 1 := ⟨(inr_54 _ (List.mem_of_getElem? (i := 12) rfl)), (inr_54 _ (List.mem_of_getElem? (i := 9) rfl)), (inr_54 _ (List.mem_of_getElem? (i := 10) rfl)), (inr_54 _ (List.mem_of_getElem? (i := 11) rfl)), (inr_1 _ (List.mem_of_getElem? (i := 5) rfl)), rfl, ⟨by decide, by decide, by decide +kernel⟩, by decide, by decide, rfl⟩
theorem mlX11_373 : MLv RX11 373 RX11 11 yX11_drawParish cX11_drawParish 4 none 1 := ⟨(inr_54 _ (List.mem_of_getElem? (i := 8) rfl)), (inr_54 _ (List.mem_of_getElem? (i := 5) rfl)), (inr_54 _ (List.mem_of_getElem? (i := 6) rfl)), (inr_54 _ (List.mem_of_getElem? (i := 7) rfl)), (inr_1 _ (List.mem_of_getElem? (i := 5) rfl)), rfl, ⟨by decide, by decide, by decide +kernel⟩, by decide, by decide, rfl⟩
theorem mlX11_376 : MLv RX11 376 RX11 11 yX11_drawDay cX11_drawDay 2 none 0 := ⟨(inr_54 _ (List.mem_of_getElem? (i := 4) rfl)), (inr_54 _ (List.mem_of_getElem? (i := 1) rfl)), (inr_54 _ (List.mem_of_getElem? (i := 2) rfl)), (inr_54 _ (List.mem_of_getElem? (i := 3) rfl)), (inr_1 _ (List.mem_of_getElem? (i := 5) rfl)), rfl, ⟨by decide, by decide, by decide +kernel⟩, by decide, by decide, rfl⟩
theorem mlX11_379 : MLv RX11 379 RX11 11 yX11_tries cX11_tries 2 none 0 := ⟨(inr_55 _ (List.mem_of_getElem? (i := 9) rfl)), (inr_55 _ (List.mem_of_getElem? (i := 6) rfl)), (inr_55 _ (List.mem_of_getElem? (i := 7) rfl)), (inr_55 _ (List.mem_of_getElem? (i := 8) rfl)), (inr_1 _ (List.mem_of_getElem? (i := 5) rfl)), rfl, ⟨by decide, by decide, by decide +kernel⟩, by decide, by decide, rfl⟩
theorem mlX11_382 : MLv RX11 382 RX11 11 yX11_back cX11_back 2 none 0 := ⟨(inr_55 _ (List.mem_of_getElem? (i := 13) rfl)), (inr_55 _ (List.mem_of_getElem? (i := 10) rfl)), (inr_55 _ (List.mem_of_getElem? (i := 11) rfl)), (inr_55 _ (List.mem_of_getElem? (i := 12) rfl)), (inr_1 _ (List.mem_of_getElem? (i := 5) rfl)), rfl, ⟨by decide, by decide, by decide +kernel⟩, by decide, by decide, rfl⟩
theorem mlX11_388 : MLv RX11 388 RX11 11 yX11_bookLine cX11_bookLine 5 (some .boolean) 0 := ⟨(inr_57 _ (List.mem_of_getElem? (i := 21) rfl)), (inr_57 _ (List.mem_of_getElem? (i := 18) rfl)), (inr_57 _ (List.mem_of_getElem? (i := 19) rfl)), (inr_57 _ (List.mem_of_getElem? (i := 20) rfl)), (inr_1 _ (List.mem_of_getElem? (i := 5) rfl)), rfl, ⟨by decide, by decide, by decide +kernel⟩, by decide, by decide, rfl⟩
theorem mlX11_391 : MLv RX11 391 RX11 11 yX11_does cX11_does 4 (some .int) 3 := ⟨(inr_58 _ (List.mem_of_getElem? (i := 1) rfl)), (inr_57 _ (List.mem_of_getElem? (i := 22) rfl)), (inr_57 _ (List.mem_of_getElem? (i := 23) rfl)), (inr_58 _ (List.mem_of_getElem? (i := 0) rfl)), (inr_1 _ (List.mem_of_getElem? (i := 5) rfl)), rfl, ⟨by decide, by decide, by decide +kernel⟩, by decide, by decide, rfl⟩
theorem mlX11_404 : MLv RX11 404 RX11 11 yX11_code cX11_code 4 none 3 := ⟨(inr_62 _ (List.mem_of_getElem? (i := 0) rfl)), (inr_61 _ (List.mem_of_getElem? (i := 21) rfl)), (inr_61 _ (List.mem_of_getElem? (i := 22) rfl)), (inr_61 _ (List.mem_of_getElem? (i := 23) rfl)), (inr_1 _ (List.mem_of_getElem? (i := 5) rfl)), rfl, ⟨by decide, by decide, by decide +kernel⟩, by decide, by decide, rfl⟩
theorem mlX11_411 : MLv RX11 411 RX11 11 yX11_leafOf cX11_leafOf 1 (some .int) 0 := ⟨(inr_62 _ (List.mem_of_getElem? (i := 16) rfl)), (inr_62 _ (List.mem_of_getElem? (i := 13) rfl)), (inr_62 _ (List.mem_of_getElem? (i := 14) rfl)), (inr_62 _ (List.mem_of_getElem? (i := 15) rfl)), (inr_1 _ (List.mem_of_getElem? (i := 5) rfl)), rfl, ⟨by decide, by decide, by decide +kernel⟩, by decide, by decide, rfl⟩
theorem mlX11_420 : MLv RX11 420 RX11 11 yX11_nots cX11_nots 1 none 0 := ⟨(inr_61 _ (List.mem_of_getElem? (i := 20) rfl)), (inr_61 _ (List.mem_of_getElem? (i := 17) rfl)), (inr_61 _ (List.mem_of_getElem? (i := 18) rfl)), (inr_61 _ (List.mem_of_getElem? (i := 19) rfl)), (inr_1 _ (List.mem_of_getElem? (i := 5) rfl)), rfl, ⟨by decide, by decide, by decide +kernel⟩, by decide, by decide, rfl⟩
theorem mlX11_423 : MLv RX11 423 RX11 11 yX11_joins cX11_joins 2 none 1 := ⟨(inr_62 _ (List.mem_of_getElem? (i := 4) rfl)), (inr_62 _ (List.mem_of_getElem? (i := 1) rfl)), (inr_62 _ (List.mem_of_getElem? (i := 2) rfl)), (inr_62 _ (List.mem_of_getElem? (i := 3) rfl)), (inr_1 _ (List.mem_of_getElem? (i := 5) rfl)), rfl, ⟨by decide, by decide, by decide +kernel⟩, by decide, by decide, rfl⟩
theorem mlX11_426 : MLv RX11 426 RX11 11 yX11_behind cX11_behind 1 (some .boolean) 0 := ⟨(inr_62 _ (List.mem_of_getElem? (i := 8) rfl)), (inr_62 _ (List.mem_of_getElem? (i := 5) rfl)), (inr_62 _ (List.mem_of_getElem? (i := 6) rfl)), (inr_62 _ (List.mem_of_getElem? (i := 7) rfl)), (inr_1 _ (List.mem_of_getElem? (i := 5) rfl)), rfl, ⟨by decide, by decide, by decide +kernel⟩, by decide, by decide, rfl⟩
theorem mlX11_429 : MLv RX11 429 RX11 11 yX11_operand cX11_operand 5 (some .boolean) 0 := ⟨(inr_62 _ (List.mem_of_getElem? (i := 12) rfl)), (inr_62 _ (List.mem_of_getElem? (i := 9) rfl)), (inr_62 _ (List.mem_of_getElem? (i := 10) rfl)), (inr_62 _ (List.mem_of_getElem? (i := 11) rfl)), (inr_1 _ (List.mem_of_getElem? (i := 5) rfl)), rfl, ⟨by decide, by decide, by decide +kernel⟩, by decide, by decide, rfl⟩
theorem mlX11_432 : MLv RX11 432 RX11 11 yX11_isLeaf cX11_isLeaf 6 (some .boolean) 4 := ⟨(inr_64 _ (List.mem_of_getElem? (i := 8) rfl)), (inr_64 _ (List.mem_of_getElem? (i := 5) rfl)), (inr_64 _ (List.mem_of_getElem? (i := 6) rfl)), (inr_64 _ (List.mem_of_getElem? (i := 7) rfl)), (inr_1 _ (List.mem_of_getElem? (i := 5) rfl)), rfl, ⟨by decide, by decide, by decide +kernel⟩, by decide, by decide, rfl⟩
theorem mlX11_436 : MLv RX11 436 RX11 11 yX11_isSaid cX11_isSaid 5 (some .boolean) 1 := ⟨(inr_64 _ (List.mem_of_getElem? (i := 4) rfl)), (inr_64 _ (List.mem_of_getElem? (i := 1) rfl)), (inr_64 _ (List.mem_of_getElem? (i := 2) rfl)), (inr_64 _ (List.mem_of_getElem? (i := 3) rfl)), (inr_1 _ (List.mem_of_getElem? (i := 5) rfl)), rfl, ⟨by decide, by decide, by decide +kernel⟩, by decide, by decide, rfl⟩
def fX11_lays_s11 (a0 : Nat) (x1 : Int32)   (S : St) : Option St :=
  some (sI S 11 31 a0 ((gI S 11 31 a0) + (1 : Int32)))
def fX11_lays (a0 : Nat) (x1 : Int32) (S : St) : Option St :=
  if ((gI S 11 31 a0) < 0 ∨ 56 ≤ (gI S 11 31 a0).toNatClampNeg) then none else
  fX11_lays_s11 a0 x1 (sA S 36 (a0 + 9) ((gI S 11 31 a0).toNatClampNeg) (vp_nar .byte x1.toInt8.toInt32))
theorem wX11_lays_s11 {z : Mx} {ad : Nat → Nat} {o : Option Value × St} (X : CxOk z ad RX11 cX11_lays 2 none 1) (a0 : Nat) (x1 : Int32) (h0 : KT a0 = 11)     (S : St) (r : St) (ho : o = (none, r)) (hF : fX11_lays_s11 a0 x1   S = some r) : GW z ad o S 11 [(0, .ref (ad a0))] [] := by
  unfold fX11_lays_s11 at hF
  refine g_aload_n X dX11_lays_11 0 rfl rfl ?_
  refine g_dup (a := .ref (ad a0)) X dX11_lays_12 rfl ?_
  refine g_getI X dX11_lays_13 flX11_347 rfl h0 ?_
  refine g_iconst (v := 1) X dX11_lays_16 (by decide) ?_
  refine g_iadd X dX11_lays_17 ?_
  refine g_putI X dX11_lays_18 fpX11_347 rfl rfl rfl h0 ?_
  have hF := Option.some.inj hF
  subst hF
  exact g_vret X dX11_lays_21 ho
theorem wX11_lays {z : Mx} {ad : Nat → Nat} {o : Option Value × St} (X : CxOk z ad RX11 cX11_lays 2 none 1) (a0 : Nat) (x1 : Int32) (h0 : KT a0 = 11) (S : St) (r : St) (ho : o = (none, r)) (hF : fX11_lays a0 x1 S = some r) : GW z ad o S 0 [(0, .ref (ad a0)), (1, .int x1)] [] := by
  unfold fX11_lays at hF
  refine g_aload_n X dX11_lays_0 0 rfl rfl ?_
  refine g_getR (f := 9) X dX11_lays_1 flX11_68 rfl rfl h0 ?_
  refine g_aload_n X dX11_lays_4 0 rfl rfl ?_
  refine g_getI X dX11_lays_5 flX11_347 rfl h0 ?_
  refine g_iload_n X dX11_lays_8 1 rfl rfl ?_
  refine g_i2b X dX11_lays_9 ?_
  obtain ⟨e_1, hF⟩ := oguard hF
  refine g_bast X dX11_lays_10 kd_36 (on_11_30 h0) e_1 ?_
  exact g_perm [0] rfl (wX11_lays_s11 X a0 x1 h0 (sA S 36 (a0 + 9) ((gI S 11 31 a0).toNatClampNeg) (vp_nar .byte x1.toInt8.toInt32)) r ho hF)
theorem tX11_lays {ad : Nat → Nat} (hI : Inj ad) (l : Launch) (D : va_G) (cyy : Nat → ClassId) (a0 : Nat) (x1 : Int32) (h0 : KT a0 = 11) (S : St) (r : St) (hF : fX11_lays a0 x1 S = some r) : OkM l yX11_lays cX11_lays 2 none 1 ad D cyy [.ref (ad a0), .int x1] S (none, r) := okM_of hI (by decide) (inr_52 _ (List.mem_of_getElem? (i := 10) rfl)) (by show _ ≤ 2; exact Nat.le_of_ble_eq_true rfl) (fun z X => wX11_lays X a0 x1 h0 S r rfl hF)
def fX11_spells_s31 (k3 : Int32 → St → Option St) (a0 : Nat) (x1 : Int64) (y3 : Int32)  (S : St) : Option St :=
  k3 (y3 + (-8 : Int32)) S
def fX11_spells_s3 (k3 : Int32 → St → Option St) (a0 : Nat) (x1 : Int64) (y3 : Int32)  (S : St) : Option St :=
  if y3 < 0 then (some S) else
  (if (lg_cmp ((x1 >>> (y3.toInt64 &&& 63)) &&& (255 : Int64)) (0 : Int64)) = 0 then (fX11_spells_s31 k3 a0 x1 y3 S) else
  ((fX11_lays a0 (((x1 >>> (y3.toInt64 &&& 63)) &&& (255 : Int64)).toInt32) S).bind fun r_3 =>
  fX11_spells_s31 k3 a0 x1 y3 r_3))
def fX11_spells_h3 (a0 : Nat) (x1 : Int64) : Nat → Int32 → St → Option St
  | 0, _, _ => none
  | n + 1, y3, S => fX11_spells_s3 (fX11_spells_h3 a0 x1 n) a0 x1 y3 S
def fX11_spells (a0 : Nat) (x1 : Int64) (S : St) : Option St :=
  fX11_spells_h3 a0 x1 NN (56 : Int32) S
theorem wX11_spells_s31 {z : Mx} {ad : Nat → Nat} {o : Option Value × St} (X : CxOk z ad RX11 cX11_spells 4 none 2) (a0 : Nat) (x1 : Int64) (h0 : KT a0 = 11) (y3 : Int32)  (k3 : Int32 → St → Option St)   (S : St) (r : St) (ho : o = (none, r)) (hk3 : ∀ (y3 : Int32) (S : St), k3 y3 S = some r → GW z ad o S 3 [(0, .ref (ad a0)), (1, .long x1), (3, .int y3)] []) (hF : fX11_spells_s31 k3 a0 x1 y3  S = some r) : GW z ad o S 31 [(0, .ref (ad a0)), (1, .long x1), (3, .int y3)] [] := by
  unfold fX11_spells_s31 at hF
  refine g_iinc (v := (y3 + (-8 : Int32))) X dX11_spells_31 2 rfl rfl (by decide) (lv' := [(3, .int (y3 + (-8 : Int32))), (0, .ref (ad a0)), (1, .long x1)]) rfl ?_
  refine g_goto (tgt := 3) X dX11_spells_34 (by decide) ?_
  exact g_perm [1, 2, 0] rfl (hk3 (y3 + (-8 : Int32)) S hF)
theorem wX11_spells_s3 {z : Mx} {ad : Nat → Nat} {o : Option Value × St} (X : CxOk z ad RX11 cX11_spells 4 none 2) (a0 : Nat) (x1 : Int64) (h0 : KT a0 = 11) (y3 : Int32)  (k3 : Int32 → St → Option St)   (S : St) (r : St) (ho : o = (none, r)) (hk3 : ∀ (y3 : Int32) (S : St), k3 y3 S = some r → GW z ad o S 3 [(0, .ref (ad a0)), (1, .long x1), (3, .int y3)] []) (hF : fX11_spells_s3 k3 a0 x1 y3  S = some r) : GW z ad o S 3 [(0, .ref (ad a0)), (1, .long x1), (3, .int y3)] [] := by
  unfold fX11_spells_s3 at hF
  refine g_iload_n X dX11_spells_3 2 rfl rfl ?_
  refine g_if_lt (tgt := 37) X dX11_spells_4 (by decide) (fun c_1 => ?_) (fun c_1 => ?_)
  · rw [if_pos c_1] at hF
    have hF := Option.some.inj hF
    subst hF
    exact g_vret X dX11_spells_37 ho
  · rw [if_neg c_1] at hF
    refine g_lload_n X dX11_spells_7 1 rfl rfl ?_
    refine g_iload_n X dX11_spells_8 2 rfl rfl ?_
    refine g_lshr X dX11_spells_9 ?_
    refine g_ldc2 (v := 255) X dX11_spells_10 (inr_52 _ (List.mem_of_getElem? (i := 6) rfl)) ?_
    refine g_land X dX11_spells_13 ?_
    refine g_lconst (v := 0) X dX11_spells_14 (by decide) ?_
    refine g_lcmp X dX11_spells_15 ?_
    refine g_if_eq (tgt := 31) X dX11_spells_16 (by decide) (fun c_2 => ?_) (fun c_2 => ?_)
    · rw [if_pos c_2] at hF
      exact (wX11_spells_s31 X a0 x1 h0 y3 k3 S r ho hk3 hF)
    · rw [if_neg c_2] at hF
      refine g_aload_n X dX11_spells_19 0 rfl rfl ?_
      refine g_lload_n X dX11_spells_20 1 rfl rfl ?_
      refine g_iload_n X dX11_spells_21 2 rfl rfl ?_
      refine g_lshr X dX11_spells_22 ?_
      refine g_ldc2 (v := 255) X dX11_spells_23 (inr_52 _ (List.mem_of_getElem? (i := 6) rfl)) ?_
      refine g_land X dX11_spells_26 ?_
      refine g_l2i X dX11_spells_27 ?_
      obtain ⟨r_3, q_4, hF⟩ := obind hF
      refine g_callVv (As := [.int ((x1 >>> (y3.toInt64 &&& 63)) &&& (255 : Int64)).toInt32]) X dX11_spells_28 mlX11_352 (fun l D cyy => tX11_lays (cx_inj X) l D cyy a0 (((x1 >>> (y3.toInt64 &&& 63)) &&& (255 : Int64)).toInt32) h0 S r_3 q_4) h0 (by decide) rfl rfl (Nat.le_of_ble_eq_true rfl) ?_
      exact (wX11_spells_s31 X a0 x1 h0 y3 k3 r_3 r ho hk3 hF)
theorem wX11_spells_h3 {z : Mx} {ad : Nat → Nat} {o : Option Value × St} (X : CxOk z ad RX11 cX11_spells 4 none 2) (a0 : Nat) (x1 : Int64) (h0 : KT a0 = 11)  (r : St) (ho : o = (none, r)) : ∀ (n : Nat) (y3 : Int32) (S : St), fX11_spells_h3 a0 x1 n y3 S = some r → GW z ad o S 3 [(0, .ref (ad a0)), (1, .long x1), (3, .int y3)] [] := by
  intro n
  induction n with
  | zero => intro y3 S  hF; cases hF
  | succ n ih => intro y3 S  hF; exact wX11_spells_s3 X a0 x1 h0 y3 (fX11_spells_h3 a0 x1 n)  S r ho ih hF
theorem wX11_spells {z : Mx} {ad : Nat → Nat} {o : Option Value × St} (X : CxOk z ad RX11 cX11_spells 4 none 2) (a0 : Nat) (x1 : Int64) (h0 : KT a0 = 11) (S : St) (r : St) (ho : o = (none, r)) (hF : fX11_spells a0 x1 S = some r) : GW z ad o S 0 [(0, .ref (ad a0)), (1, .long x1)] [] := by
  unfold fX11_spells at hF
  refine g_bipush (v := 56) X dX11_spells_0 (by decide) ?_
  refine g_istore_n X dX11_spells_2 rfl (by decide) (lv' := [(3, .int (56 : Int32)), (0, .ref (ad a0)), (1, .long x1)]) rfl ?_
  exact g_perm [1, 2, 0] rfl (wX11_spells_h3 X a0 x1 h0 r ho NN (56 : Int32) S hF)
theorem tX11_spells {ad : Nat → Nat} (hI : Inj ad) (l : Launch) (D : va_G) (cyy : Nat → ClassId) (a0 : Nat) (x1 : Int64) (h0 : KT a0 = 11) (S : St) (r : St) (hF : fX11_spells a0 x1 S = some r) : OkM l yX11_spells cX11_spells 4 none 2 ad D cyy [.ref (ad a0), .long x1] S (none, r) := okM_of hI (by decide) (inr_52 _ (List.mem_of_getElem? (i := 5) rfl)) (by show _ ≤ 4; exact Nat.le_of_ble_eq_true rfl) (fun z X => wX11_spells X a0 x1 h0 S r rfl hF)
def fX11_says (a0 : Nat) (x1 : Int64) (S : St) : Option St :=
  (fX11_lays a0 (32 : Int32) S).bind fun r_1 =>
  (fX11_spells a0 x1 r_1).bind fun r_3 =>
  some r_3
theorem wX11_says {z : Mx} {ad : Nat → Nat} {o : Option Value × St} (X : CxOk z ad RX11 cX11_says 3 none 3) (a0 : Nat) (x1 : Int64) (h0 : KT a0 = 11) (S : St) (r : St) (ho : o = (none, r)) (hF : fX11_says a0 x1 S = some r) : GW z ad o S 0 [(0, .ref (ad a0)), (1, .long x1)] [] := by
  unfold fX11_says at hF
  refine g_aload_n X dX11_says_0 0 rfl rfl ?_
  refine g_bipush (v := 32) X dX11_says_1 (by decide) ?_
  obtain ⟨r_1, q_2, hF⟩ := obind hF
  refine g_callVv (As := [.int (32 : Int32)]) X dX11_says_3 mlX11_352 (fun l D cyy => tX11_lays (cx_inj X) l D cyy a0 (32 : Int32) h0 S r_1 q_2) h0 (by decide) rfl rfl (Nat.le_of_ble_eq_true rfl) ?_
  refine g_aload_n X dX11_says_6 0 rfl rfl ?_
  refine g_lload_n X dX11_says_7 1 rfl rfl ?_
  obtain ⟨r_3, q_4, hF⟩ := obind hF
  refine g_callVv (As := [.long x1]) X dX11_says_8 mlX11_355 (fun l D cyy => tX11_spells (cx_inj X) l D cyy a0 x1 h0 r_1 r_3 q_4) h0 (by decide) rfl rfl (Nat.le_of_ble_eq_true rfl) ?_
  have hF := Option.some.inj hF
  subst hF
  exact g_vret X dX11_says_11 ho
theorem tX11_says {ad : Nat → Nat} (hI : Inj ad) (l : Launch) (D : va_G) (cyy : Nat → ClassId) (a0 : Nat) (x1 : Int64) (h0 : KT a0 = 11) (S : St) (r : St) (hF : fX11_says a0 x1 S = some r) : OkM l yX11_says cX11_says 3 none 3 ad D cyy [.ref (ad a0), .long x1] S (none, r) := okM_of hI (by decide) (inr_52 _ (List.mem_of_getElem? (i := 18) rfl)) (by show _ ≤ 3; exact Nat.le_of_ble_eq_true rfl) (fun z X => wX11_says X a0 x1 h0 S r rfl hF)
def fX11_saysOf_s59 (k33 : Int32 → St → Option St) (a0 : Nat) (x1 : Int64) (x3 : Int32) (y4 : Int32)  (S : St) : Option St :=
  k33 y4 S
def fX11_saysOf_s33 (k33 : Int32 → St → Option St) (a0 : Nat) (x1 : Int64) (x3 : Int32) (y4 : Int32)  (S : St) : Option St :=
  if y4 ≤ 0 then (some S) else
  (if y4 = 0 then none else
  (fX11_lays a0 ((48 : Int32) + ((x3 / y4) - (x3 / y4) / (10 : Int32) * (10 : Int32))) S).bind fun r_9 =>
  fX11_saysOf_s59 k33 a0 x1 x3 (y4 / (10 : Int32)) r_9)
def fX11_saysOf_h33 (a0 : Nat) (x1 : Int64) (x3 : Int32) : Nat → Int32 → St → Option St
  | 0, _, _ => none
  | n + 1, y4, S => fX11_saysOf_s33 (fX11_saysOf_h33 a0 x1 x3 n) a0 x1 x3 y4 S
def fX11_saysOf_s30 (k14 : Int32 → St → Option St) (a0 : Nat) (x1 : Int64) (x3 : Int32) (y4 : Int32)  (S : St) : Option St :=
  k14 y4 S
def fX11_saysOf_s14 (k14 : Int32 → St → Option St) (a0 : Nat) (x1 : Int64) (x3 : Int32) (y4 : Int32)  (S : St) : Option St :=
  if y4 = 0 then none else
  if (x3 / y4) ≤ (9 : Int32) then (fX11_saysOf_h33 a0 x1 x3 NN y4 S) else
  (fX11_saysOf_s30 k14 a0 x1 x3 (y4 * (10 : Int32)) S)
def fX11_saysOf_h14 (a0 : Nat) (x1 : Int64) (x3 : Int32) : Nat → Int32 → St → Option St
  | 0, _, _ => none
  | n + 1, y4, S => fX11_saysOf_s14 (fX11_saysOf_h14 a0 x1 x3 n) a0 x1 x3 y4 S
def fX11_saysOf (a0 : Nat) (x1 : Int64) (x3 : Int32) (S : St) : Option St :=
  (fX11_says a0 x1 S).bind fun r_1 =>
  (fX11_lays a0 (32 : Int32) r_1).bind fun r_3 =>
  fX11_saysOf_h14 a0 x1 x3 NN (1 : Int32) r_3
theorem wX11_saysOf_s59 {z : Mx} {ad : Nat → Nat} {o : Option Value × St} (X : CxOk z ad RX11 cX11_saysOf 5 none 4) (a0 : Nat) (x1 : Int64) (x3 : Int32) (h0 : KT a0 = 11) (y4 : Int32)  (k33 : Int32 → St → Option St)   (S : St) (r : St) (ho : o = (none, r)) (hk33 : ∀ (y4 : Int32) (S : St), k33 y4 S = some r → GW z ad o S 33 [(0, .ref (ad a0)), (3, .int x3), (4, .int y4)] []) (hF : fX11_saysOf_s59 k33 a0 x1 x3 y4  S = some r) : GW z ad o S 59 [(0, .ref (ad a0)), (3, .int x3), (4, .int y4)] [] := by
  unfold fX11_saysOf_s59 at hF
  refine g_goto (tgt := 33) X dX11_saysOf_59 (by decide) ?_
  exact (hk33 y4 S hF)
theorem wX11_saysOf_s33 {z : Mx} {ad : Nat → Nat} {o : Option Value × St} (X : CxOk z ad RX11 cX11_saysOf 5 none 4) (a0 : Nat) (x1 : Int64) (x3 : Int32) (h0 : KT a0 = 11) (y4 : Int32)  (k33 : Int32 → St → Option St)   (S : St) (r : St) (ho : o = (none, r)) (hk33 : ∀ (y4 : Int32) (S : St), k33 y4 S = some r → GW z ad o S 33 [(0, .ref (ad a0)), (3, .int x3), (4, .int y4)] []) (hF : fX11_saysOf_s33 k33 a0 x1 x3 y4  S = some r) : GW z ad o S 33 [(0, .ref (ad a0)), (3, .int x3), (4, .int y4)] [] := by
  unfold fX11_saysOf_s33 at hF
  refine g_iload X dX11_saysOf_33 2 rfl ?_
  refine g_if_le (tgt := 62) X dX11_saysOf_35 (by decide) (fun c_7 => ?_) (fun c_7 => ?_)
  · rw [if_pos c_7] at hF
    have hF := Option.some.inj hF
    subst hF
    exact g_vret X dX11_saysOf_62 ho
  · rw [if_neg c_7] at hF
    refine g_aload_n X dX11_saysOf_38 0 rfl rfl ?_
    refine g_bipush (v := 48) X dX11_saysOf_39 (by decide) ?_
    refine g_iload_n X dX11_saysOf_41 1 rfl rfl ?_
    refine g_iload X dX11_saysOf_42 2 rfl ?_
    obtain ⟨e_8, hF⟩ := oguard hF
    refine g_idiv X dX11_saysOf_44 e_8 ?_
    refine g_bipush (v := 10) X dX11_saysOf_45 (by decide) ?_
    refine g_irem X dX11_saysOf_47 (by decide) ?_
    refine g_iadd X dX11_saysOf_48 ?_
    obtain ⟨r_9, q_10, hF⟩ := obind hF
    refine g_callVv (As := [.int ((48 : Int32) + ((x3 / y4) - (x3 / y4) / (10 : Int32) * (10 : Int32)))]) X dX11_saysOf_49 mlX11_352 (fun l D cyy => tX11_lays (cx_inj X) l D cyy a0 ((48 : Int32) + ((x3 / y4) - (x3 / y4) / (10 : Int32) * (10 : Int32))) h0 S r_9 q_10) h0 (by decide) rfl rfl (Nat.le_of_ble_eq_true rfl) ?_
    refine g_iload X dX11_saysOf_52 2 rfl ?_
    refine g_bipush (v := 10) X dX11_saysOf_54 (by decide) ?_
    refine g_idiv X dX11_saysOf_56 (by decide) ?_
    refine g_istore X dX11_saysOf_57 (by decide) (lv' := [(4, .int (y4 / (10 : Int32))), (0, .ref (ad a0)), (3, .int x3)]) rfl ?_
    exact g_perm [1, 2, 0] rfl (wX11_saysOf_s59 X a0 x1 x3 h0 (y4 / (10 : Int32)) k33 r_9 r ho hk33 hF)
theorem wX11_saysOf_h33 {z : Mx} {ad : Nat → Nat} {o : Option Value × St} (X : CxOk z ad RX11 cX11_saysOf 5 none 4) (a0 : Nat) (x1 : Int64) (x3 : Int32) (h0 : KT a0 = 11)  (r : St) (ho : o = (none, r)) : ∀ (n : Nat) (y4 : Int32) (S : St), fX11_saysOf_h33 a0 x1 x3 n y4 S = some r → GW z ad o S 33 [(0, .ref (ad a0)), (3, .int x3), (4, .int y4)] [] := by
  intro n
  induction n with
  | zero => intro y4 S  hF; cases hF
  | succ n ih => intro y4 S  hF; exact wX11_saysOf_s33 X a0 x1 x3 h0 y4 (fX11_saysOf_h33 a0 x1 x3 n)  S r ho ih hF
theorem wX11_saysOf_s30 {z : Mx} {ad : Nat → Nat} {o : Option Value × St} (X : CxOk z ad RX11 cX11_saysOf 5 none 4) (a0 : Nat) (x1 : Int64) (x3 : Int32) (h0 : KT a0 = 11) (y4 : Int32)  (k14 : Int32 → St → Option St)   (S : St) (r : St) (ho : o = (none, r)) (hk14 : ∀ (y4 : Int32) (S : St), k14 y4 S = some r → GW z ad o S 14 [(0, .ref (ad a0)), (3, .int x3), (4, .int y4)] []) (hF : fX11_saysOf_s30 k14 a0 x1 x3 y4  S = some r) : GW z ad o S 30 [(0, .ref (ad a0)), (3, .int x3), (4, .int y4)] [] := by
  unfold fX11_saysOf_s30 at hF
  refine g_goto (tgt := 14) X dX11_saysOf_30 (by decide) ?_
  exact (hk14 y4 S hF)
theorem wX11_saysOf_s14 {z : Mx} {ad : Nat → Nat} {o : Option Value × St} (X : CxOk z ad RX11 cX11_saysOf 5 none 4) (a0 : Nat) (x1 : Int64) (x3 : Int32) (h0 : KT a0 = 11) (y4 : Int32)  (k14 : Int32 → St → Option St)   (S : St) (r : St) (ho : o = (none, r)) (hk14 : ∀ (y4 : Int32) (S : St), k14 y4 S = some r → GW z ad o S 14 [(0, .ref (ad a0)), (3, .int x3), (4, .int y4)] []) (hF : fX11_saysOf_s14 k14 a0 x1 x3 y4  S = some r) : GW z ad o S 14 [(0, .ref (ad a0)), (3, .int x3), (4, .int y4)] [] := by
  unfold fX11_saysOf_s14 at hF
  refine g_iload_n X dX11_saysOf_14 1 rfl rfl ?_
  refine g_iload X dX11_saysOf_15 2 rfl ?_
  obtain ⟨e_5, hF⟩ := oguard hF
  refine g_idiv X dX11_saysOf_17 e_5 ?_
  refine g_bipush (v := 9) X dX11_saysOf_18 (by decide) ?_
  refine g_icmp_le (tgt := 33) X dX11_saysOf_20 (by decide) (fun c_6 => ?_) (fun c_6 => ?_)
  · rw [if_pos c_6] at hF
    exact (wX11_saysOf_h33 X a0 x1 x3 h0 r ho NN y4 S hF)
  · rw [if_neg c_6] at hF
    refine g_iload X dX11_saysOf_23 2 rfl ?_
    refine g_bipush (v := 10) X dX11_saysOf_25 (by decide) ?_
    refine g_imul X dX11_saysOf_27 ?_
    refine g_istore X dX11_saysOf_28 (by decide) (lv' := [(4, .int (y4 * (10 : Int32))), (0, .ref (ad a0)), (3, .int x3)]) rfl ?_
    exact g_perm [1, 2, 0] rfl (wX11_saysOf_s30 X a0 x1 x3 h0 (y4 * (10 : Int32)) k14 S r ho hk14 hF)
theorem wX11_saysOf_h14 {z : Mx} {ad : Nat → Nat} {o : Option Value × St} (X : CxOk z ad RX11 cX11_saysOf 5 none 4) (a0 : Nat) (x1 : Int64) (x3 : Int32) (h0 : KT a0 = 11)  (r : St) (ho : o = (none, r)) : ∀ (n : Nat) (y4 : Int32) (S : St), fX11_saysOf_h14 a0 x1 x3 n y4 S = some r → GW z ad o S 14 [(0, .ref (ad a0)), (3, .int x3), (4, .int y4)] [] := by
  intro n
  induction n with
  | zero => intro y4 S  hF; cases hF
  | succ n ih => intro y4 S  hF; exact wX11_saysOf_s14 X a0 x1 x3 h0 y4 (fX11_saysOf_h14 a0 x1 x3 n)  S r ho ih hF
theorem wX11_saysOf {z : Mx} {ad : Nat → Nat} {o : Option Value × St} (X : CxOk z ad RX11 cX11_saysOf 5 none 4) (a0 : Nat) (x1 : Int64) (x3 : Int32) (h0 : KT a0 = 11) (S : St) (r : St) (ho : o = (none, r)) (hF : fX11_saysOf a0 x1 x3 S = some r) : GW z ad o S 0 [(0, .ref (ad a0)), (1, .long x1), (3, .int x3)] [] := by
  unfold fX11_saysOf at hF
  refine g_aload_n X dX11_saysOf_0 0 rfl rfl ?_
  refine g_lload_n X dX11_saysOf_1 1 rfl rfl ?_
  obtain ⟨r_1, q_2, hF⟩ := obind hF
  refine g_callVv (As := [.long x1]) X dX11_saysOf_2 mlX11_359 (fun l D cyy => tX11_says (cx_inj X) l D cyy a0 x1 h0 S r_1 q_2) h0 (by decide) rfl rfl (Nat.le_of_ble_eq_true rfl) ?_
  refine g_aload_n X dX11_saysOf_5 0 rfl rfl ?_
  refine g_bipush (v := 32) X dX11_saysOf_6 (by decide) ?_
  obtain ⟨r_3, q_4, hF⟩ := obind hF
  refine g_callVv (As := [.int (32 : Int32)]) X dX11_saysOf_8 mlX11_352 (fun l D cyy => tX11_lays (cx_inj X) l D cyy a0 (32 : Int32) h0 r_1 r_3 q_4) h0 (by decide) rfl rfl (Nat.le_of_ble_eq_true rfl) ?_
  refine g_iconst (v := 1) X dX11_saysOf_11 (by decide) ?_
  refine g_istore X dX11_saysOf_12 (by decide) (lv' := [(4, .int (1 : Int32)), (0, .ref (ad a0)), (1, .long x1), (3, .int x3)]) rfl ?_
  exact g_perm [1, 3, 0] rfl (wX11_saysOf_h14 X a0 x1 x3 h0 r ho NN (1 : Int32) r_3 hF)
theorem tX11_saysOf {ad : Nat → Nat} (hI : Inj ad) (l : Launch) (D : va_G) (cyy : Nat → ClassId) (a0 : Nat) (x1 : Int64) (x3 : Int32) (h0 : KT a0 = 11) (S : St) (r : St) (hF : fX11_saysOf a0 x1 x3 S = some r) : OkM l yX11_saysOf cX11_saysOf 5 none 4 ad D cyy [.ref (ad a0), .long x1, .int x3] S (none, r) := okM_of hI (by decide) (inr_52 _ (List.mem_of_getElem? (i := 14) rfl)) (by show _ ≤ 5; exact Nat.le_of_ble_eq_true rfl) (fun z X => wX11_saysOf X a0 x1 x3 h0 S r rfl hF)
def fX11_title_s107 (a0 : Nat) (x1 : Int32)   (S : St) : Option (Int32 × St) :=
  (fX11_isHeld a0 x1 S).bind fun r_23 =>
  if r_23 = 0 then (some ((gI S 11 31 a0), S)) else
  ((fX11_says a0 (1751477348 : Int64) S).bind fun r_26 =>
  some ((gI r_26 11 31 a0), r_26))
def fX11_title_s20 (a0 : Nat) (x1 : Int32)   (S : St) : Option (Int32 × St) :=
  if (x1 < 0 ∨ 22 ≤ x1.toNatClampNeg) then none else
  (fX11_spells a0 (gB S 32 (a0 + 5) x1.toNatClampNeg) S).bind fun r_5 =>
  if (((54 : Int32) + x1) < 0 ∨ 250 ≤ ((54 : Int32) + x1).toNatClampNeg) then none else
  (fX11_yearBy a0 x1 (gA r_5 29 (a0 + 2) (((54 : Int32) + x1).toNatClampNeg)) r_5).bind fun r_8 =>
  (fX11_saysOf a0 (2036687218 : Int64) r_8 r_5).bind fun r_10 =>
  (fX11_isBetween a0 x1 r_10).bind fun r_12 =>
  if r_12 = 0 then ((fX11_today a0 x1 r_10).bind fun r_15 =>
  (fX11_saysOf a0 (470020945000 : Int64) (r_15 / (32 : Int32)) r_10).bind fun r_17 =>
  (fX11_today a0 x1 r_17).bind fun r_19 =>
  (fX11_saysOf a0 (6578553 : Int64) (r_19 - r_19 / (32 : Int32) * (32 : Int32)) r_17).bind fun r_21 =>
  fX11_title_s107 a0 x1 r_21) else
  ((fX11_today a0 x1 r_10).bind fun r_28 =>
  (fX11_saysOf a0 (27696098611389806 : Int64) (r_28 - r_28 / (32 : Int32) * (32 : Int32)) r_10).bind fun r_30 =>
  fX11_title_s107 a0 x1 r_30)
def fX11_title_s5 (a0 : Nat) (x1 : Int32)   (S : St) : Option (Int32 × St) :=
  (fX11_isParish a0 x1 S).bind fun r_1 =>
  if r_1 = 0 then (some ((-1 : Int32), S)) else
  (fX11_title_s20 a0 x1 (sI S 11 31 a0 (0 : Int32)))
def fX11_title (a0 : Nat) (x1 : Int32) (S : St) : Option (Int32 × St) :=
  fX11_title_s5 a0 x1 (sI S 11 0 a0 (0 : Int32))
theorem wX11_title_s107 {z : Mx} {ad : Nat → Nat} {o : Option Value × St} (X : CxOk z ad RX11 cX11_title 2 (some .int) 7) (a0 : Nat) (x1 : Int32) (h0 : KT a0 = 11)     (S : St) (r : (Int32 × St)) (ho : o = (some (.int r.1), r.2)) (hF : fX11_title_s107 a0 x1   S = some r) : GW z ad o S 107 [(0, .ref (ad a0)), (1, .int x1)] [] := by
  unfold fX11_title_s107 at hF
  refine g_aload_n X dX11_title_107 0 rfl rfl ?_
  refine g_iload_n X dX11_title_108 1 rfl rfl ?_
  obtain ⟨r_23, q_24, hF⟩ := obind hF
  refine g_callVi (As := [.int x1]) X dX11_title_109 mlX11_255 (fun l D cyy => tX11_isHeld (cx_inj X) l D cyy a0 x1 h0 S r_23 q_24) h0 (by decide) rfl rfl (Nat.le_of_ble_eq_true rfl) ?_
  refine g_if_eq (tgt := 122) X dX11_title_112 (by decide) (fun c_25 => ?_) (fun c_25 => ?_)
  · rw [if_pos c_25] at hF
    refine g_aload_n X dX11_title_122 0 rfl rfl ?_
    refine g_getI X dX11_title_123 flX11_347 rfl h0 ?_
    have hF := Option.some.inj hF
    subst hF
    exact g_iret X dX11_title_126 ho
  · rw [if_neg c_25] at hF
    refine g_aload_n X dX11_title_115 0 rfl rfl ?_
    refine g_ldc2 (v := 1751477348) X dX11_title_116 (inr_7 _ (List.mem_of_getElem? (i := 21) rfl)) ?_
    obtain ⟨r_26, q_27, hF⟩ := obind hF
    refine g_callVv (As := [.long (1751477348 : Int64)]) X dX11_title_119 mlX11_359 (fun l D cyy => tX11_says (cx_inj X) l D cyy a0 (1751477348 : Int64) h0 S r_26 q_27) h0 (by decide) rfl rfl (Nat.le_of_ble_eq_true rfl) ?_
    refine g_aload_n X dX11_title_122 0 rfl rfl ?_
    refine g_getI X dX11_title_123 flX11_347 rfl h0 ?_
    have hF := Option.some.inj hF
    subst hF
    exact g_iret X dX11_title_126 ho
theorem wX11_title_s20 {z : Mx} {ad : Nat → Nat} {o : Option Value × St} (X : CxOk z ad RX11 cX11_title 2 (some .int) 7) (a0 : Nat) (x1 : Int32) (h0 : KT a0 = 11)     (S : St) (r : (Int32 × St)) (ho : o = (some (.int r.1), r.2)) (hF : fX11_title_s20 a0 x1   S = some r) : GW z ad o S 20 [(0, .ref (ad a0)), (1, .int x1)] [] := by
  unfold fX11_title_s20 at hF
  refine g_aload_n X dX11_title_20 0 rfl rfl ?_
  refine g_aload_n X dX11_title_21 0 rfl rfl ?_
  refine g_getR (f := 5) X dX11_title_22 flX11_43 rfl rfl h0 ?_
  refine g_iload_n X dX11_title_25 1 rfl rfl ?_
  obtain ⟨e_4, hF⟩ := oguard hF
  refine g_lald X dX11_title_26 kd_32 (on_11_9 h0) e_4 ?_
  obtain ⟨r_5, q_6, hF⟩ := obind hF
  refine g_callVv (As := [.long (gB S 32 (a0 + 5) x1.toNatClampNeg)]) X dX11_title_27 mlX11_355 (fun l D cyy => tX11_spells (cx_inj X) l D cyy a0 (gB S 32 (a0 + 5) x1.toNatClampNeg) h0 S r_5 q_6) h0 (by decide) rfl rfl (Nat.le_of_ble_eq_true rfl) ?_
  refine g_aload_n X dX11_title_30 0 rfl rfl ?_
  refine g_ldc2 (v := 2036687218) X dX11_title_31 (inr_8 _ (List.mem_of_getElem? (i := 0) rfl)) ?_
  refine g_aload_n X dX11_title_34 0 rfl rfl ?_
  refine g_iload_n X dX11_title_35 1 rfl rfl ?_
  refine g_aload_n X dX11_title_36 0 rfl rfl ?_
  refine g_getR (f := 2) X dX11_title_37 flX11_33 rfl rfl h0 ?_
  refine g_bipush (v := 54) X dX11_title_40 (by decide) ?_
  refine g_iload_n X dX11_title_42 1 rfl rfl ?_
  refine g_iadd X dX11_title_43 ?_
  obtain ⟨e_7, hF⟩ := oguard hF
  refine g_iald X dX11_title_44 kd_29 (on_11_6 h0) e_7 ?_
  obtain ⟨r_8, q_9, hF⟩ := obind hF
  refine g_callVi (As := [.int x1, .int (gA r_5 29 (a0 + 2) (((54 : Int32) + x1).toNatClampNeg))]) X dX11_title_45 mlX11_246 (fun l D cyy => tX11_yearBy (cx_inj X) l D cyy a0 x1 (gA r_5 29 (a0 + 2) (((54 : Int32) + x1).toNatClampNeg)) h0 r_5 r_8 q_9) h0 (by decide) rfl rfl (Nat.le_of_ble_eq_true rfl) ?_
  obtain ⟨r_10, q_11, hF⟩ := obind hF
  refine g_callVv (As := [.long (2036687218 : Int64), .int r_8]) X dX11_title_48 mlX11_362 (fun l D cyy => tX11_saysOf (cx_inj X) l D cyy a0 (2036687218 : Int64) r_8 h0 r_5 r_10 q_11) h0 (by decide) rfl rfl (Nat.le_of_ble_eq_true rfl) ?_
  refine g_aload_n X dX11_title_51 0 rfl rfl ?_
  refine g_iload_n X dX11_title_52 1 rfl rfl ?_
  obtain ⟨r_12, q_13, hF⟩ := obind hF
  refine g_callVi (As := [.int x1]) X dX11_title_53 mlX11_288 (fun l D cyy => tX11_isBetween (cx_inj X) l D cyy a0 x1 h0 r_10 r_12 q_13) h0 (by decide) rfl rfl (Nat.le_of_ble_eq_true rfl) ?_
  refine g_if_eq (tgt := 77) X dX11_title_56 (by decide) (fun c_14 => ?_) (fun c_14 => ?_)
  · rw [if_pos c_14] at hF
    refine g_aload_n X dX11_title_77 0 rfl rfl ?_
    refine g_ldc2 (v := 470020945000) X dX11_title_78 (inr_8 _ (List.mem_of_getElem? (i := 1) rfl)) ?_
    refine g_aload_n X dX11_title_81 0 rfl rfl ?_
    refine g_iload_n X dX11_title_82 1 rfl rfl ?_
    obtain ⟨r_15, q_16, hF⟩ := obind hF
    refine g_callVi (As := [.int x1]) X dX11_title_83 mlX11_264 (fun l D cyy => tX11_today (cx_inj X) l D cyy a0 x1 h0 r_10 r_15 q_16) h0 (by decide) rfl rfl (Nat.le_of_ble_eq_true rfl) ?_
    refine g_bipush (v := 32) X dX11_title_86 (by decide) ?_
    refine g_idiv X dX11_title_88 (by decide) ?_
    obtain ⟨r_17, q_18, hF⟩ := obind hF
    refine g_callVv (As := [.long (470020945000 : Int64), .int (r_15 / (32 : Int32))]) X dX11_title_89 mlX11_362 (fun l D cyy => tX11_saysOf (cx_inj X) l D cyy a0 (470020945000 : Int64) (r_15 / (32 : Int32)) h0 r_10 r_17 q_18) h0 (by decide) rfl rfl (Nat.le_of_ble_eq_true rfl) ?_
    refine g_aload_n X dX11_title_92 0 rfl rfl ?_
    refine g_ldc2 (v := 6578553) X dX11_title_93 (inr_7 _ (List.mem_of_getElem? (i := 16) rfl)) ?_
    refine g_aload_n X dX11_title_96 0 rfl rfl ?_
    refine g_iload_n X dX11_title_97 1 rfl rfl ?_
    obtain ⟨r_19, q_20, hF⟩ := obind hF
    refine g_callVi (As := [.int x1]) X dX11_title_98 mlX11_264 (fun l D cyy => tX11_today (cx_inj X) l D cyy a0 x1 h0 r_17 r_19 q_20) h0 (by decide) rfl rfl (Nat.le_of_ble_eq_true rfl) ?_
    refine g_bipush (v := 32) X dX11_title_101 (by decide) ?_
    refine g_irem X dX11_title_103 (by decide) ?_
    obtain ⟨r_21, q_22, hF⟩ := obind hF
    refine g_callVv (As := [.long (6578553 : Int64), .int (r_19 - r_19 / (32 : Int32) * (32 : Int32))]) X dX11_title_104 mlX11_362 (fun l D cyy => tX11_saysOf (cx_inj X) l D cyy a0 (6578553 : Int64) (r_19 - r_19 / (32 : Int32) * (32 : Int32)) h0 r_17 r_21 q_22) h0 (by decide) rfl rfl (Nat.le_of_ble_eq_true rfl) ?_
    exact (wX11_title_s107 X a0 x1 h0 r_21 r ho hF)
  · rw [if_neg c_14] at hF
    refine g_aload_n X dX11_title_59 0 rfl rfl ?_
    refine g_ldc2 (v := 27696098611389806) X dX11_title_60 (inr_7 _ (List.mem_of_getElem? (i := 20) rfl)) ?_
    refine g_aload_n X dX11_title_63 0 rfl rfl ?_
    refine g_iload_n X dX11_title_64 1 rfl rfl ?_
    obtain ⟨r_28, q_29, hF⟩ := obind hF
    refine g_callVi (As := [.int x1]) X dX11_title_65 mlX11_264 (fun l D cyy => tX11_today (cx_inj X) l D cyy a0 x1 h0 r_10 r_28 q_29) h0 (by decide) rfl rfl (Nat.le_of_ble_eq_true rfl) ?_
    refine g_bipush (v := 32) X dX11_title_68 (by decide) ?_
    refine g_irem X dX11_title_70 (by decide) ?_
    obtain ⟨r_30, q_31, hF⟩ := obind hF
    refine g_callVv (As := [.long (27696098611389806 : Int64), .int (r_28 - r_28 / (32 : Int32) * (32 : Int32))]) X dX11_title_71 mlX11_362 (fun l D cyy => tX11_saysOf (cx_inj X) l D cyy a0 (27696098611389806 : Int64) (r_28 - r_28 / (32 : Int32) * (32 : Int32)) h0 r_10 r_30 q_31) h0 (by decide) rfl rfl (Nat.le_of_ble_eq_true rfl) ?_
    refine g_goto (tgt := 107) X dX11_title_74 (by decide) ?_
    exact (wX11_title_s107 X a0 x1 h0 r_30 r ho hF)
theorem wX11_title_s5 {z : Mx} {ad : Nat → Nat} {o : Option Value × St} (X : CxOk z ad RX11 cX11_title 2 (some .int) 7) (a0 : Nat) (x1 : Int32) (h0 : KT a0 = 11)     (S : St) (r : (Int32 × St)) (ho : o = (some (.int r.1), r.2)) (hF : fX11_title_s5 a0 x1   S = some r) : GW z ad o S 5 [(0, .ref (ad a0)), (1, .int x1)] [] := by
  unfold fX11_title_s5 at hF
  refine g_aload_n X dX11_title_5 0 rfl rfl ?_
  refine g_iload_n X dX11_title_6 1 rfl rfl ?_
  obtain ⟨r_1, q_2, hF⟩ := obind hF
  refine g_callVi (As := [.int x1]) X dX11_title_7 mlX11_267 (fun l D cyy => tX11_isParish (cx_inj X) l D cyy a0 x1 h0 S r_1 q_2) h0 (by decide) rfl rfl (Nat.le_of_ble_eq_true rfl) ?_
  refine g_if_ne (tgt := 15) X dX11_title_10 (by decide) (fun c_3 => ?_) (fun c_3 => ?_)
  · rw [if_neg c_3] at hF
    refine g_aload_n X dX11_title_15 0 rfl rfl ?_
    refine g_iconst (v := 0) X dX11_title_16 (by decide) ?_
    refine g_putI X dX11_title_17 fpX11_347 rfl rfl rfl h0 ?_
    exact (wX11_title_s20 X a0 x1 h0 (sI S 11 31 a0 (0 : Int32)) r ho hF)
  · rw [if_pos c_3] at hF
    refine g_iconst (v := -1) X dX11_title_13 (by decide) ?_
    have hF := Option.some.inj hF
    subst hF
    exact g_iret X dX11_title_14 ho
theorem wX11_title {z : Mx} {ad : Nat → Nat} {o : Option Value × St} (X : CxOk z ad RX11 cX11_title 2 (some .int) 7) (a0 : Nat) (x1 : Int32) (h0 : KT a0 = 11) (S : St) (r : (Int32 × St)) (ho : o = (some (.int r.1), r.2)) (hF : fX11_title a0 x1 S = some r) : GW z ad o S 0 [(0, .ref (ad a0)), (1, .int x1)] [] := by
  unfold fX11_title at hF
  refine g_aload_n X dX11_title_0 0 rfl rfl ?_
  refine g_iconst (v := 0) X dX11_title_1 (by decide) ?_
  refine g_putI X dX11_title_2 fpX11_1 rfl rfl rfl h0 ?_
  exact (wX11_title_s5 X a0 x1 h0 (sI S 11 0 a0 (0 : Int32)) r ho hF)
theorem tX11_title {ad : Nat → Nat} (hI : Inj ad) (l : Launch) (D : va_G) (cyy : Nat → ClassId) (a0 : Nat) (x1 : Int32) (h0 : KT a0 = 11) (S : St) (r : (Int32 × St)) (hF : fX11_title a0 x1 S = some r) : OkM l yX11_title cX11_title 2 (some .int) 7 ad D cyy [.ref (ad a0), .int x1] S (some (.int r.1), r.2) := okM_of hI (by decide) (inr_52 _ (List.mem_of_getElem? (i := 0) rfl)) (by show _ ≤ 2; exact Nat.le_of_ble_eq_true rfl) (fun z X => wX11_title X a0 x1 h0 S r rfl hF)
def fX11_byteAt_s5 (a0 : Nat) (x1 : Int32)   (S : St) : Option (Int32 × St) :=
  if (fX11_isIn x1 (0 : Int32) ((gI S 11 31 a0) - (1 : Int32)) S) = 0 then (some ((-1 : Int32), S)) else
  (if (x1 < 0 ∨ 56 ≤ x1.toNatClampNeg) then none else
  some ((gA S 36 (a0 + 9) x1.toNatClampNeg), S))
def fX11_byteAt (a0 : Nat) (x1 : Int32) (S : St) : Option (Int32 × St) :=
  fX11_byteAt_s5 a0 x1 (sI S 11 0 a0 (0 : Int32))
theorem wX11_byteAt_s5 {z : Mx} {ad : Nat → Nat} {o : Option Value × St} (X : CxOk z ad RX11 cX11_byteAt 2 (some .int) 2) (a0 : Nat) (x1 : Int32) (h0 : KT a0 = 11)     (S : St) (r : (Int32 × St)) (ho : o = (some (.int r.1), r.2)) (hF : fX11_byteAt_s5 a0 x1   S = some r) : GW z ad o S 5 [(0, .ref (ad a0)), (1, .int x1)] [] := by
  unfold fX11_byteAt_s5 at hF
  refine g_iload_n X dX11_byteAt_5 1 rfl rfl ?_
  refine g_iconst (v := 0) X dX11_byteAt_6 (by decide) ?_
  refine g_aload_n X dX11_byteAt_7 0 rfl rfl ?_
  refine g_getI X dX11_byteAt_8 flX11_347 rfl h0 ?_
  refine g_iconst (v := 1) X dX11_byteAt_11 (by decide) ?_
  refine g_isub X dX11_byteAt_12 ?_
  refine g_callSi (As := [.int x1, .int (0 : Int32), .int ((gI S 11 31 a0) - (1 : Int32))]) X dX11_byteAt_13 mlX11_173 (fun l D cyy => tX11_isIn (cx_inj X) l D cyy x1 (0 : Int32) ((gI S 11 31 a0) - (1 : Int32))  S) (by decide) rfl rfl (Nat.le_of_ble_eq_true rfl) ?_
  refine g_if_eq (tgt := 28) X dX11_byteAt_16 (by decide) (fun c_1 => ?_) (fun c_1 => ?_)
  · rw [if_pos c_1] at hF
    refine g_iconst (v := -1) X dX11_byteAt_28 (by decide) ?_
    have hF := Option.some.inj hF
    subst hF
    exact g_iret X dX11_byteAt_29 ho
  · rw [if_neg c_1] at hF
    refine g_aload_n X dX11_byteAt_19 0 rfl rfl ?_
    refine g_getR (f := 9) X dX11_byteAt_20 flX11_68 rfl rfl h0 ?_
    refine g_iload_n X dX11_byteAt_23 1 rfl rfl ?_
    obtain ⟨e_2, hF⟩ := oguard hF
    refine g_bald X dX11_byteAt_24 kd_36 (on_11_30 h0) e_2 ?_
    refine g_goto (tgt := 29) X dX11_byteAt_25 (by decide) ?_
    have hF := Option.some.inj hF
    subst hF
    exact g_iret X dX11_byteAt_29 ho
theorem wX11_byteAt {z : Mx} {ad : Nat → Nat} {o : Option Value × St} (X : CxOk z ad RX11 cX11_byteAt 2 (some .int) 2) (a0 : Nat) (x1 : Int32) (h0 : KT a0 = 11) (S : St) (r : (Int32 × St)) (ho : o = (some (.int r.1), r.2)) (hF : fX11_byteAt a0 x1 S = some r) : GW z ad o S 0 [(0, .ref (ad a0)), (1, .int x1)] [] := by
  unfold fX11_byteAt at hF
  refine g_aload_n X dX11_byteAt_0 0 rfl rfl ?_
  refine g_iconst (v := 0) X dX11_byteAt_1 (by decide) ?_
  refine g_putI X dX11_byteAt_2 fpX11_1 rfl rfl rfl h0 ?_
  exact (wX11_byteAt_s5 X a0 x1 h0 (sI S 11 0 a0 (0 : Int32)) r ho hF)
theorem tX11_byteAt {ad : Nat → Nat} (hI : Inj ad) (l : Launch) (D : va_G) (cyy : Nat → ClassId) (a0 : Nat) (x1 : Int32) (h0 : KT a0 = 11) (S : St) (r : (Int32 × St)) (hF : fX11_byteAt a0 x1 S = some r) : OkM l yX11_byteAt cX11_byteAt 2 (some .int) 2 ad D cyy [.ref (ad a0), .int x1] S (some (.int r.1), r.2) := okM_of hI (by decide) (inr_53 _ (List.mem_of_getElem? (i := 7) rfl)) (by show _ ≤ 2; exact Nat.le_of_ble_eq_true rfl) (fun z X => wX11_byteAt X a0 x1 h0 S r rfl hF)
def fX11_draw_s16 (a0 : Nat) (x1 : Int32)   (S : St) : Option (Int32 × St) :=
  if x1 = 0 then none else
  some ((((gI S 11 32 a0).toUInt32 >>> ((8 : Int32).toUInt32 &&& Int32.toUInt32 31)).toInt32 - ((gI S 11 32 a0).toUInt32 >>> ((8 : Int32).toUInt32 &&& Int32.toUInt32 31)).toInt32 / x1 * x1), S)
def fX11_draw (a0 : Nat) (x1 : Int32) (S : St) : Option (Int32 × St) :=
  fX11_draw_s16 a0 x1 (sI S 11 32 a0 (((gI S 11 32 a0) * (1103515245 : Int32)) + (12345 : Int32)))
theorem wX11_draw_s16 {z : Mx} {ad : Nat → Nat} {o : Option Value × St} (X : CxOk z ad RX11 cX11_draw 2 (some .int) 1) (a0 : Nat) (x1 : Int32) (h0 : KT a0 = 11)     (S : St) (r : (Int32 × St)) (ho : o = (some (.int r.1), r.2)) (hF : fX11_draw_s16 a0 x1   S = some r) : GW z ad o S 16 [(0, .ref (ad a0)), (1, .int x1)] [] := by
  unfold fX11_draw_s16 at hF
  refine g_aload_n X dX11_draw_16 0 rfl rfl ?_
  refine g_getI X dX11_draw_17 flX11_366 rfl h0 ?_
  refine g_bipush (v := 8) X dX11_draw_20 (by decide) ?_
  refine g_iushr X dX11_draw_22 ?_
  refine g_iload_n X dX11_draw_23 1 rfl rfl ?_
  obtain ⟨e_1, hF⟩ := oguard hF
  refine g_irem X dX11_draw_24 e_1 ?_
  have hF := Option.some.inj hF
  subst hF
  exact g_iret X dX11_draw_25 ho
theorem wX11_draw {z : Mx} {ad : Nat → Nat} {o : Option Value × St} (X : CxOk z ad RX11 cX11_draw 2 (some .int) 1) (a0 : Nat) (x1 : Int32) (h0 : KT a0 = 11) (S : St) (r : (Int32 × St)) (ho : o = (some (.int r.1), r.2)) (hF : fX11_draw a0 x1 S = some r) : GW z ad o S 0 [(0, .ref (ad a0)), (1, .int x1)] [] := by
  unfold fX11_draw at hF
  refine g_aload_n X dX11_draw_0 0 rfl rfl ?_
  refine g_aload_n X dX11_draw_1 0 rfl rfl ?_
  refine g_getI X dX11_draw_2 flX11_366 rfl h0 ?_
  refine g_ldcw (v := 1103515245) X dX11_draw_5 (inr_54 _ (List.mem_of_getElem? (i := 13) rfl)) ?_
  refine g_imul X dX11_draw_8 ?_
  refine g_sipush (v := 12345) X dX11_draw_9 (by decide) ?_
  refine g_iadd X dX11_draw_12 ?_
  refine g_putI X dX11_draw_13 fpX11_366 rfl rfl rfl h0 ?_
  exact (wX11_draw_s16 X a0 x1 h0 (sI S 11 32 a0 (((gI S 11 32 a0) * (1103515245 : Int32)) + (12345 : Int32))) r ho hF)
theorem tX11_draw {ad : Nat → Nat} (hI : Inj ad) (l : Launch) (D : va_G) (cyy : Nat → ClassId) (a0 : Nat) (x1 : Int32) (h0 : KT a0 = 11) (S : St) (r : (Int32 × St)) (hF : fX11_draw a0 x1 S = some r) : OkM l yX11_draw cX11_draw 2 (some .int) 1 ad D cyy [.ref (ad a0), .int x1] S (some (.int r.1), r.2) := okM_of hI (by decide) (inr_54 _ (List.mem_of_getElem? (i := 12) rfl)) (by show _ ≤ 2; exact Nat.le_of_ble_eq_true rfl) (fun z X => wX11_draw X a0 x1 h0 S r rfl hF)
def fX11_drawParish_s36 (a0 : Nat) (x1 : Int32)  (t0 : Int32) (S : St) : Option St :=
  (fX11_whySkip a0 x1 (t0 + (1 : Int32)) S).bind fun r_7 =>
  if r_7 = 0 then ((fX11_skips a0 x1 (t0 + (1 : Int32)) S).bind fun r_10 =>
  some r_10) else
  (some S)
def fX11_drawParish_s24 (a0 : Nat) (x1 : Int32) (y2 : Int32)  (S : St) : Option St :=
  if y2 = (1 : Int32) then ((fX11_draw a0 (9 : Int32) S).bind fun r_5 =>
  fX11_drawParish_s36 a0 x1 r_5.1 r_5.2) else
  (some S)
def fX11_drawParish_s6 (a0 : Nat) (x1 : Int32)  (t0 : Int32) (S : St) : Option St :=
  if t0 = 0 then ((fX11_whyHold a0 x1 S).bind fun r_12 =>
  if r_12 = 0 then ((fX11_holds a0 x1 S).bind fun r_15 =>
  fX11_drawParish_s24 a0 x1 t0 r_15) else
  (fX11_drawParish_s24 a0 x1 t0 S)) else
  (fX11_drawParish_s24 a0 x1 t0 S)
def fX11_drawParish (a0 : Nat) (x1 : Int32) (S : St) : Option St :=
  (fX11_draw a0 (12 : Int32) S).bind fun r_1 =>
  fX11_drawParish_s6 a0 x1 r_1.1 r_1.2
theorem wX11_drawParish_s36 {z : Mx} {ad : Nat → Nat} {o : Option Value × St} (X : CxOk z ad RX11 cX11_drawParish 4 none 4) (a0 : Nat) (x1 : Int32) (h0 : KT a0 = 11)  (t0 : Int32)   (S : St) (r : St) (ho : o = (none, r)) (hF : fX11_drawParish_s36 a0 x1  t0 S = some r) : GW z ad o S 36 [(0, .ref (ad a0)), (1, .int x1)] [.int t0] := by
  unfold fX11_drawParish_s36 at hF
  refine g_iconst (v := 1) X dX11_drawParish_36 (by decide) ?_
  refine g_iadd X dX11_drawParish_37 ?_
  refine g_istore_n X dX11_drawParish_38 rfl (by decide) (lv' := [(3, .int (t0 + (1 : Int32))), (0, .ref (ad a0)), (1, .int x1)]) rfl ?_
  refine g_aload_n X dX11_drawParish_39 1 rfl rfl ?_
  refine g_iload_n X dX11_drawParish_40 2 rfl rfl ?_
  refine g_iload_n X dX11_drawParish_41 0 rfl rfl ?_
  obtain ⟨r_7, q_8, hF⟩ := obind hF
  refine g_callVi (As := [.int x1, .int (t0 + (1 : Int32))]) X dX11_drawParish_42 mlX11_306 (fun l D cyy => tX11_whySkip (cx_inj X) l D cyy a0 x1 (t0 + (1 : Int32)) h0 S r_7 q_8) h0 (by decide) rfl rfl (Nat.le_of_ble_eq_true rfl) ?_
  refine g_if_ne (tgt := 54) X dX11_drawParish_45 (by decide) (fun c_9 => ?_) (fun c_9 => ?_)
  · rw [if_neg c_9] at hF
    have hF := Option.some.inj hF
    subst hF
    exact g_vret X dX11_drawParish_54 ho
  · rw [if_pos c_9] at hF
    refine g_aload_n X dX11_drawParish_48 1 rfl rfl ?_
    refine g_iload_n X dX11_drawParish_49 2 rfl rfl ?_
    refine g_iload_n X dX11_drawParish_50 0 rfl rfl ?_
    obtain ⟨r_10, q_11, hF⟩ := obind hF
    refine g_callVv (As := [.int x1, .int (t0 + (1 : Int32))]) X dX11_drawParish_51 mlX11_309 (fun l D cyy => tX11_skips (cx_inj X) l D cyy a0 x1 (t0 + (1 : Int32)) h0 S r_10 q_11) h0 (by decide) rfl rfl (Nat.le_of_ble_eq_true rfl) ?_
    have hF := Option.some.inj hF
    subst hF
    exact g_vret X dX11_drawParish_54 ho
theorem wX11_drawParish_s24 {z : Mx} {ad : Nat → Nat} {o : Option Value × St} (X : CxOk z ad RX11 cX11_drawParish 4 none 4) (a0 : Nat) (x1 : Int32) (h0 : KT a0 = 11) (y2 : Int32)    (S : St) (r : St) (ho : o = (none, r)) (hF : fX11_drawParish_s24 a0 x1 y2  S = some r) : GW z ad o S 24 [(0, .ref (ad a0)), (1, .int x1), (2, .int y2)] [] := by
  unfold fX11_drawParish_s24 at hF
  refine g_iload_n X dX11_drawParish_24 2 rfl rfl ?_
  refine g_iconst (v := 1) X dX11_drawParish_25 (by decide) ?_
  refine g_icmp_eq (tgt := 30) X dX11_drawParish_26 (by decide) (fun c_4 => ?_) (fun c_4 => ?_)
  · rw [if_pos c_4] at hF
    refine g_aload_n X dX11_drawParish_30 0 rfl rfl ?_
    refine g_bipush (v := 9) X dX11_drawParish_31 (by decide) ?_
    obtain ⟨r_5, q_6, hF⟩ := obind hF
    refine g_callVi (As := [.int (9 : Int32)]) X dX11_drawParish_33 mlX11_370 (fun l D cyy => tX11_draw (cx_inj X) l D cyy a0 (9 : Int32) h0 S r_5 q_6) h0 (by decide) rfl rfl (Nat.le_of_ble_eq_true rfl) ?_
    exact g_perm [0, 1] rfl (wX11_drawParish_s36 X a0 x1 h0 r_5.1 r_5.2 r ho hF)
  · rw [if_neg c_4] at hF
    have hF := Option.some.inj hF
    subst hF
    exact g_vret X dX11_drawParish_29 ho
theorem wX11_drawParish_s6 {z : Mx} {ad : Nat → Nat} {o : Option Value × St} (X : CxOk z ad RX11 cX11_drawParish 4 none 4) (a0 : Nat) (x1 : Int32) (h0 : KT a0 = 11)  (t0 : Int32)   (S : St) (r : St) (ho : o = (none, r)) (hF : fX11_drawParish_s6 a0 x1  t0 S = some r) : GW z ad o S 6 [(0, .ref (ad a0)), (1, .int x1)] [.int t0] := by
  unfold fX11_drawParish_s6 at hF
  refine g_istore_n X dX11_drawParish_6 rfl (by decide) (lv' := [(2, .int t0), (0, .ref (ad a0)), (1, .int x1)]) rfl ?_
  refine g_iload_n X dX11_drawParish_7 0 rfl rfl ?_
  refine g_if_ne (tgt := 24) X dX11_drawParish_8 (by decide) (fun c_3 => ?_) (fun c_3 => ?_)
  · rw [if_neg c_3] at hF
    exact g_perm [1, 2, 0] rfl (wX11_drawParish_s24 X a0 x1 h0 t0 S r ho hF)
  · rw [if_pos c_3] at hF
    refine g_aload_n X dX11_drawParish_11 1 rfl rfl ?_
    refine g_iload_n X dX11_drawParish_12 2 rfl rfl ?_
    obtain ⟨r_12, q_13, hF⟩ := obind hF
    refine g_callVi (As := [.int x1]) X dX11_drawParish_13 mlX11_297 (fun l D cyy => tX11_whyHold (cx_inj X) l D cyy a0 x1 h0 S r_12 q_13) h0 (by decide) rfl rfl (Nat.le_of_ble_eq_true rfl) ?_
    refine g_if_ne (tgt := 24) X dX11_drawParish_16 (by decide) (fun c_14 => ?_) (fun c_14 => ?_)
    · rw [if_neg c_14] at hF
      exact g_perm [1, 2, 0] rfl (wX11_drawParish_s24 X a0 x1 h0 t0 S r ho hF)
    · rw [if_pos c_14] at hF
      refine g_aload_n X dX11_drawParish_19 1 rfl rfl ?_
      refine g_iload_n X dX11_drawParish_20 2 rfl rfl ?_
      obtain ⟨r_15, q_16, hF⟩ := obind hF
      refine g_callVv (As := [.int x1]) X dX11_drawParish_21 mlX11_303 (fun l D cyy => tX11_holds (cx_inj X) l D cyy a0 x1 h0 S r_15 q_16) h0 (by decide) rfl rfl (Nat.le_of_ble_eq_true rfl) ?_
      exact g_perm [1, 2, 0] rfl (wX11_drawParish_s24 X a0 x1 h0 t0 r_15 r ho hF)
theorem wX11_drawParish {z : Mx} {ad : Nat → Nat} {o : Option Value × St} (X : CxOk z ad RX11 cX11_drawParish 4 none 4) (a0 : Nat) (x1 : Int32) (h0 : KT a0 = 11) (S : St) (r : St) (ho : o = (none, r)) (hF : fX11_drawParish a0 x1 S = some r) : GW z ad o S 0 [(0, .ref (ad a0)), (1, .int x1)] [] := by
  unfold fX11_drawParish at hF
  refine g_aload_n X dX11_drawParish_0 0 rfl rfl ?_
  refine g_bipush (v := 12) X dX11_drawParish_1 (by decide) ?_
  obtain ⟨r_1, q_2, hF⟩ := obind hF
  refine g_callVi (As := [.int (12 : Int32)]) X dX11_drawParish_3 mlX11_370 (fun l D cyy => tX11_draw (cx_inj X) l D cyy a0 (12 : Int32) h0 S r_1 q_2) h0 (by decide) rfl rfl (Nat.le_of_ble_eq_true rfl) ?_
  exact (wX11_drawParish_s6 X a0 x1 h0 r_1.1 r_1.2 r ho hF)
theorem tX11_drawParish {ad : Nat → Nat} (hI : Inj ad) (l : Launch) (D : va_G) (cyy : Nat → ClassId) (a0 : Nat) (x1 : Int32) (h0 : KT a0 = 11) (S : St) (r : St) (hF : fX11_drawParish a0 x1 S = some r) : OkM l yX11_drawParish cX11_drawParish 4 none 4 ad D cyy [.ref (ad a0), .int x1] S (none, r) := okM_of hI (by decide) (inr_54 _ (List.mem_of_getElem? (i := 8) rfl)) (by show _ ≤ 4; exact Nat.le_of_ble_eq_true rfl) (fun z X => wX11_drawParish X a0 x1 h0 S r rfl hF)
def fX11_drawDay_s2 (k2 : Int32 → St → Option St) (a0 : Nat) (y1 : Int32)  (S : St) : Option St :=
  if (gA S 29 (a0 + 2) 0) ≤ y1 then ((fX11_day a0 S).bind fun r_2 =>
  some r_2) else
  ((fX11_drawParish a0 y1 S).bind fun r_4 =>
  k2 (y1 + (1 : Int32)) r_4)
def fX11_drawDay_h2 (a0 : Nat) : Nat → Int32 → St → Option St
  | 0, _, _ => none
  | n + 1, y1, S => fX11_drawDay_s2 (fX11_drawDay_h2 a0 n) a0 y1 S
def fX11_drawDay (a0 : Nat) (S : St) : Option St :=
  fX11_drawDay_h2 a0 NN (0 : Int32) S
theorem wX11_drawDay_s2 {z : Mx} {ad : Nat → Nat} {o : Option Value × St} (X : CxOk z ad RX11 cX11_drawDay 2 none 5) (a0 : Nat) (h0 : KT a0 = 11) (y1 : Int32)  (k2 : Int32 → St → Option St)   (S : St) (r : St) (ho : o = (none, r)) (hk2 : ∀ (y1 : Int32) (S : St), k2 y1 S = some r → GW z ad o S 2 [(0, .ref (ad a0)), (1, .int y1)] []) (hF : fX11_drawDay_s2 k2 a0 y1  S = some r) : GW z ad o S 2 [(0, .ref (ad a0)), (1, .int y1)] [] := by
  unfold fX11_drawDay_s2 at hF
  refine g_iload_n X dX11_drawDay_2 1 rfl rfl ?_
  refine g_aload_n X dX11_drawDay_3 0 rfl rfl ?_
  refine g_getR (f := 2) X dX11_drawDay_4 flX11_33 rfl rfl h0 ?_
  refine g_iconst (v := 0) X dX11_drawDay_7 (by decide) ?_
  refine g_ialdK (j := 0) X dX11_drawDay_8 kd_29 (on_11_6 h0) (by decide) (by decide) ?_
  refine g_icmp_ge (tgt := 23) X dX11_drawDay_9 (by decide) (fun c_1 => ?_) (fun c_1 => ?_)
  · rw [if_pos c_1] at hF
    refine g_aload_n X dX11_drawDay_23 0 rfl rfl ?_
    obtain ⟨r_2, q_3, hF⟩ := obind hF
    refine g_callVv (As := []) X dX11_drawDay_24 mlX11_294 (fun l D cyy => tX11_day (cx_inj X) l D cyy a0 h0 S r_2 q_3) h0 (by decide) rfl rfl (Nat.le_of_ble_eq_true rfl) ?_
    have hF := Option.some.inj hF
    subst hF
    exact g_vret X dX11_drawDay_27 ho
  · rw [if_neg c_1] at hF
    refine g_aload_n X dX11_drawDay_12 0 rfl rfl ?_
    refine g_iload_n X dX11_drawDay_13 1 rfl rfl ?_
    obtain ⟨r_4, q_5, hF⟩ := obind hF
    refine g_callVv (As := [.int y1]) X dX11_drawDay_14 mlX11_373 (fun l D cyy => tX11_drawParish (cx_inj X) l D cyy a0 y1 h0 S r_4 q_5) h0 (by decide) rfl rfl (Nat.le_of_ble_eq_true rfl) ?_
    refine g_iinc (v := (y1 + (1 : Int32))) X dX11_drawDay_17 1 rfl rfl (by decide) (lv' := [(1, .int (y1 + (1 : Int32))), (0, .ref (ad a0))]) rfl ?_
    refine g_goto (tgt := 2) X dX11_drawDay_20 (by decide) ?_
    exact g_perm [1, 0] rfl (hk2 (y1 + (1 : Int32)) r_4 hF)
theorem wX11_drawDay_h2 {z : Mx} {ad : Nat → Nat} {o : Option Value × St} (X : CxOk z ad RX11 cX11_drawDay 2 none 5) (a0 : Nat) (h0 : KT a0 = 11)  (r : St) (ho : o = (none, r)) : ∀ (n : Nat) (y1 : Int32) (S : St), fX11_drawDay_h2 a0 n y1 S = some r → GW z ad o S 2 [(0, .ref (ad a0)), (1, .int y1)] [] := by
  intro n
  induction n with
  | zero => intro y1 S  hF; cases hF
  | succ n ih => intro y1 S  hF; exact wX11_drawDay_s2 X a0 h0 y1 (fX11_drawDay_h2 a0 n)  S r ho ih hF
theorem wX11_drawDay {z : Mx} {ad : Nat → Nat} {o : Option Value × St} (X : CxOk z ad RX11 cX11_drawDay 2 none 5) (a0 : Nat) (h0 : KT a0 = 11) (S : St) (r : St) (ho : o = (none, r)) (hF : fX11_drawDay a0 S = some r) : GW z ad o S 0 [(0, .ref (ad a0))] [] := by
  unfold fX11_drawDay at hF
  refine g_iconst (v := 0) X dX11_drawDay_0 (by decide) ?_
  refine g_istore_n X dX11_drawDay_1 rfl (by decide) (lv' := [(1, .int (0 : Int32)), (0, .ref (ad a0))]) rfl ?_
  exact g_perm [1, 0] rfl (wX11_drawDay_h2 X a0 h0 r ho NN (0 : Int32) S hF)
theorem tX11_drawDay {ad : Nat → Nat} (hI : Inj ad) (l : Launch) (D : va_G) (cyy : Nat → ClassId) (a0 : Nat) (h0 : KT a0 = 11) (S : St) (r : St) (hF : fX11_drawDay a0 S = some r) : OkM l yX11_drawDay cX11_drawDay 2 none 5 ad D cyy [.ref (ad a0)] S (none, r) := okM_of hI (by decide) (inr_54 _ (List.mem_of_getElem? (i := 4) rfl)) (by show _ ≤ 2; exact Nat.le_of_ble_eq_true rfl) (fun z X => wX11_drawDay X a0 h0 S r rfl hF)
def fX11_drawn_s43 (k43 : Int32 → St → Option (Int32 × St)) (a0 : Nat) (x1 : Int32) (x2 : Int32) (y3 : Int32)  (S : St) : Option (Int32 × St) :=
  if x1 ≤ y3 then (some (y3, S)) else
  (if (10000 : Int32) ≤ (gA S 29 (a0 + 2) 52) then (some (y3, S)) else
  ((fX11_drawDay a0 S).bind fun r_7 =>
  k43 (y3 + (1 : Int32)) r_7))
def fX11_drawn_h43 (a0 : Nat) (x1 : Int32) (x2 : Int32) : Nat → Int32 → St → Option (Int32 × St)
  | 0, _, _ => none
  | n + 1, y3, S => fX11_drawn_s43 (fX11_drawn_h43 a0 x1 x2 n) a0 x1 x2 y3 S
def fX11_drawn_s41 (a0 : Nat) (x1 : Int32) (x2 : Int32)   (S : St) : Option (Int32 × St) :=
  fX11_drawn_h43 a0 x1 x2 NN (0 : Int32) S
def fX11_drawn_s5 (a0 : Nat) (x1 : Int32) (x2 : Int32)   (S : St) : Option (Int32 × St) :=
  if (fX11_isIn x1 (1 : Int32) (99 : Int32) S) = 0 then (some ((-1 : Int32), S)) else
  (if (gA S 29 (a0 + 2) 52) = (10000 : Int32) then (some ((0 : Int32), S)) else
  ((fX11_keep a0 S).bind fun r_3 =>
  fX11_drawn_s41 a0 x1 x2 (sI r_3 11 32 a0 x2)))
def fX11_drawn (a0 : Nat) (x1 : Int32) (x2 : Int32) (S : St) : Option (Int32 × St) :=
  fX11_drawn_s5 a0 x1 x2 (sI S 11 0 a0 (0 : Int32))
theorem wX11_drawn_s43 {z : Mx} {ad : Nat → Nat} {o : Option Value × St} (X : CxOk z ad RX11 cX11_drawn 4 (some .int) 6) (a0 : Nat) (x1 : Int32) (x2 : Int32) (h0 : KT a0 = 11) (y3 : Int32)  (k43 : Int32 → St → Option (Int32 × St))   (S : St) (r : (Int32 × St)) (ho : o = (some (.int r.1), r.2)) (hk43 : ∀ (y3 : Int32) (S : St), k43 y3 S = some r → GW z ad o S 43 [(0, .ref (ad a0)), (1, .int x1), (3, .int y3)] []) (hF : fX11_drawn_s43 k43 a0 x1 x2 y3  S = some r) : GW z ad o S 43 [(0, .ref (ad a0)), (1, .int x1), (3, .int y3)] [] := by
  unfold fX11_drawn_s43 at hF
  refine g_iload_n X dX11_drawn_43 2 rfl rfl ?_
  refine g_iload_n X dX11_drawn_44 1 rfl rfl ?_
  refine g_icmp_ge (tgt := 71) X dX11_drawn_45 (by decide) (fun c_5 => ?_) (fun c_5 => ?_)
  · rw [if_pos c_5] at hF
    refine g_iload_n X dX11_drawn_71 2 rfl rfl ?_
    have hF := Option.some.inj hF
    subst hF
    exact g_iret X dX11_drawn_72 ho
  · rw [if_neg c_5] at hF
    refine g_aload_n X dX11_drawn_48 0 rfl rfl ?_
    refine g_getR (f := 2) X dX11_drawn_49 flX11_33 rfl rfl h0 ?_
    refine g_bipush (v := 52) X dX11_drawn_52 (by decide) ?_
    refine g_ialdK (j := 52) X dX11_drawn_54 kd_29 (on_11_6 h0) (by decide) (by decide) ?_
    refine g_sipush (v := 10000) X dX11_drawn_55 (by decide) ?_
    refine g_icmp_ge (tgt := 71) X dX11_drawn_58 (by decide) (fun c_6 => ?_) (fun c_6 => ?_)
    · rw [if_pos c_6] at hF
      refine g_iload_n X dX11_drawn_71 2 rfl rfl ?_
      have hF := Option.some.inj hF
      subst hF
      exact g_iret X dX11_drawn_72 ho
    · rw [if_neg c_6] at hF
      refine g_aload_n X dX11_drawn_61 0 rfl rfl ?_
      obtain ⟨r_7, q_8, hF⟩ := obind hF
      refine g_callVv (As := []) X dX11_drawn_62 mlX11_376 (fun l D cyy => tX11_drawDay (cx_inj X) l D cyy a0 h0 S r_7 q_8) h0 (by decide) rfl rfl (Nat.le_of_ble_eq_true rfl) ?_
      refine g_iinc (v := (y3 + (1 : Int32))) X dX11_drawn_65 2 rfl rfl (by decide) (lv' := [(3, .int (y3 + (1 : Int32))), (0, .ref (ad a0)), (1, .int x1)]) rfl ?_
      refine g_goto (tgt := 43) X dX11_drawn_68 (by decide) ?_
      exact g_perm [1, 2, 0] rfl (hk43 (y3 + (1 : Int32)) r_7 hF)
theorem wX11_drawn_h43 {z : Mx} {ad : Nat → Nat} {o : Option Value × St} (X : CxOk z ad RX11 cX11_drawn 4 (some .int) 6) (a0 : Nat) (x1 : Int32) (x2 : Int32) (h0 : KT a0 = 11)  (r : (Int32 × St)) (ho : o = (some (.int r.1), r.2)) : ∀ (n : Nat) (y3 : Int32) (S : St), fX11_drawn_h43 a0 x1 x2 n y3 S = some r → GW z ad o S 43 [(0, .ref (ad a0)), (1, .int x1), (3, .int y3)] [] := by
  intro n
  induction n with
  | zero => intro y3 S  hF; cases hF
  | succ n ih => intro y3 S  hF; exact wX11_drawn_s43 X a0 x1 x2 h0 y3 (fX11_drawn_h43 a0 x1 x2 n)  S r ho ih hF
theorem wX11_drawn_s41 {z : Mx} {ad : Nat → Nat} {o : Option Value × St} (X : CxOk z ad RX11 cX11_drawn 4 (some .int) 6) (a0 : Nat) (x1 : Int32) (x2 : Int32) (h0 : KT a0 = 11)     (S : St) (r : (Int32 × St)) (ho : o = (some (.int r.1), r.2)) (hF : fX11_drawn_s41 a0 x1 x2   S = some r) : GW z ad o S 41 [(0, .ref (ad a0)), (1, .int x1)] [] := by
  unfold fX11_drawn_s41 at hF
  refine g_iconst (v := 0) X dX11_drawn_41 (by decide) ?_
  refine g_istore_n X dX11_drawn_42 rfl (by decide) (lv' := [(3, .int (0 : Int32)), (0, .ref (ad a0)), (1, .int x1)]) rfl ?_
  exact g_perm [1, 2, 0] rfl (wX11_drawn_h43 X a0 x1 x2 h0 r ho NN (0 : Int32) S hF)
theorem wX11_drawn_s5 {z : Mx} {ad : Nat → Nat} {o : Option Value × St} (X : CxOk z ad RX11 cX11_drawn 4 (some .int) 6) (a0 : Nat) (x1 : Int32) (x2 : Int32) (h0 : KT a0 = 11)     (S : St) (r : (Int32 × St)) (ho : o = (some (.int r.1), r.2)) (hF : fX11_drawn_s5 a0 x1 x2   S = some r) : GW z ad o S 5 [(0, .ref (ad a0)), (1, .int x1), (2, .int x2)] [] := by
  unfold fX11_drawn_s5 at hF
  refine g_iload_n X dX11_drawn_5 1 rfl rfl ?_
  refine g_iconst (v := 1) X dX11_drawn_6 (by decide) ?_
  refine g_bipush (v := 99) X dX11_drawn_7 (by decide) ?_
  refine g_callSi (As := [.int x1, .int (1 : Int32), .int (99 : Int32)]) X dX11_drawn_9 mlX11_173 (fun l D cyy => tX11_isIn (cx_inj X) l D cyy x1 (1 : Int32) (99 : Int32)  S) (by decide) rfl rfl (Nat.le_of_ble_eq_true rfl) ?_
  refine g_if_ne (tgt := 17) X dX11_drawn_12 (by decide) (fun c_1 => ?_) (fun c_1 => ?_)
  · rw [if_neg c_1] at hF
    refine g_aload_n X dX11_drawn_17 0 rfl rfl ?_
    refine g_getR (f := 2) X dX11_drawn_18 flX11_33 rfl rfl h0 ?_
    refine g_bipush (v := 52) X dX11_drawn_21 (by decide) ?_
    refine g_ialdK (j := 52) X dX11_drawn_23 kd_29 (on_11_6 h0) (by decide) (by decide) ?_
    refine g_sipush (v := 10000) X dX11_drawn_24 (by decide) ?_
    refine g_icmp_ne (tgt := 32) X dX11_drawn_27 (by decide) (fun c_2 => ?_) (fun c_2 => ?_)
    · rw [if_neg c_2] at hF
      refine g_aload_n X dX11_drawn_32 0 rfl rfl ?_
      obtain ⟨r_3, q_4, hF⟩ := obind hF
      refine g_callVv (As := []) X dX11_drawn_33 mlX11_300 (fun l D cyy => tX11_keep (cx_inj X) l D cyy a0 h0 S r_3 q_4) h0 (by decide) rfl rfl (Nat.le_of_ble_eq_true rfl) ?_
      refine g_aload_n X dX11_drawn_36 0 rfl rfl ?_
      refine g_iload_n X dX11_drawn_37 2 rfl rfl ?_
      refine g_putI X dX11_drawn_38 fpX11_366 rfl rfl rfl h0 ?_
      exact g_perm [0, 1] rfl (wX11_drawn_s41 X a0 x1 x2 h0 (sI r_3 11 32 a0 x2) r ho hF)
    · rw [if_pos c_2] at hF
      refine g_iconst (v := 0) X dX11_drawn_30 (by decide) ?_
      have hF := Option.some.inj hF
      subst hF
      exact g_iret X dX11_drawn_31 ho
  · rw [if_pos c_1] at hF
    refine g_iconst (v := -1) X dX11_drawn_15 (by decide) ?_
    have hF := Option.some.inj hF
    subst hF
    exact g_iret X dX11_drawn_16 ho
theorem wX11_drawn {z : Mx} {ad : Nat → Nat} {o : Option Value × St} (X : CxOk z ad RX11 cX11_drawn 4 (some .int) 6) (a0 : Nat) (x1 : Int32) (x2 : Int32) (h0 : KT a0 = 11) (S : St) (r : (Int32 × St)) (ho : o = (some (.int r.1), r.2)) (hF : fX11_drawn a0 x1 x2 S = some r) : GW z ad o S 0 [(0, .ref (ad a0)), (1, .int x1), (2, .int x2)] [] := by
  unfold fX11_drawn at hF
  refine g_aload_n X dX11_drawn_0 0 rfl rfl ?_
  refine g_iconst (v := 0) X dX11_drawn_1 (by decide) ?_
  refine g_putI X dX11_drawn_2 fpX11_1 rfl rfl rfl h0 ?_
  exact (wX11_drawn_s5 X a0 x1 x2 h0 (sI S 11 0 a0 (0 : Int32)) r ho hF)
theorem tX11_drawn {ad : Nat → Nat} (hI : Inj ad) (l : Launch) (D : va_G) (cyy : Nat → ClassId) (a0 : Nat) (x1 : Int32) (x2 : Int32) (h0 : KT a0 = 11) (S : St) (r : (Int32 × St)) (hF : fX11_drawn a0 x1 x2 S = some r) : OkM l yX11_drawn cX11_drawn 4 (some .int) 6 ad D cyy [.ref (ad a0), .int x1, .int x2] S (some (.int r.1), r.2) := okM_of hI (by decide) (inr_53 _ (List.mem_of_getElem? (i := 23) rfl)) (by show _ ≤ 4; exact Nat.le_of_ble_eq_true rfl) (fun z X => wX11_drawn X a0 x1 x2 h0 S r rfl hF)
def fX11_odds_s98 (k35 : Int32 → Int32 → St → Option (Int32 × St)) (a0 : Nat) (x1 : Int32) (x2 : Int32) (x3 : Int32) (y4 : Int32) (y5 : Int32) (y6 : Int32)  (S : St) : Option (Int32 × St) :=
  if y6 = 0 then ((fX11_back a0 S).bind fun r_10 =>
  k35 (y4 + (0 : Int32)) (y5 + (1 : Int32)) r_10) else
  ((fX11_back a0 S).bind fun r_12 =>
  k35 (y4 + (1 : Int32)) (y5 + (1 : Int32)) r_12)
def fX11_odds_s55 (k35 : Int32 → Int32 → St → Option (Int32 × St)) (k55 : Int32 → Int32 → Int32 → Int32 → St → Option (Int32 × St)) (a0 : Nat) (x1 : Int32) (x2 : Int32) (x3 : Int32) (y4 : Int32) (y5 : Int32) (y6 : Int32) (y7 : Int32)  (S : St) : Option (Int32 × St) :=
  if (40 : Int32) ≤ y7 then (fX11_odds_s98 k35 a0 x1 x2 x3 y4 y5 y6 S) else
  (if y6 = 0 then (if (10000 : Int32) ≤ (gA S 29 (a0 + 2) 52) then (fX11_odds_s98 k35 a0 x1 x2 x3 y4 y5 y6 S) else
  ((fX11_drawDay a0 S).bind fun r_16 =>
  (fX11_fallsIn a0 x1 (0 : Int32) r_16).bind fun r_18 =>
  k55 y4 y5 r_18 (y7 + (1 : Int32)) r_16)) else
  (fX11_odds_s98 k35 a0 x1 x2 x3 y4 y5 y6 S))
def fX11_odds_h55 (k35 : Int32 → Int32 → St → Option (Int32 × St)) (a0 : Nat) (x1 : Int32) (x2 : Int32) (x3 : Int32) : Nat → Int32 → Int32 → Int32 → Int32 → St → Option (Int32 × St)
  | 0, _, _, _, _, _ => none
  | n + 1, y4, y5, y6, y7, S => fX11_odds_s55 k35 (fX11_odds_h55 k35 a0 x1 x2 x3 n) a0 x1 x2 x3 y4 y5 y6 y7 S
def fX11_odds_s49 (k35 : Int32 → Int32 → St → Option (Int32 × St)) (a0 : Nat) (x1 : Int32) (x2 : Int32) (x3 : Int32) (y4 : Int32) (y5 : Int32)  (S : St) : Option (Int32 × St) :=
  fX11_odds_h55 k35 a0 x1 x2 x3 NN y4 y5 (0 : Int32) (0 : Int32) S
def fX11_odds_s35 (k35 : Int32 → Int32 → St → Option (Int32 × St)) (a0 : Nat) (x1 : Int32) (x2 : Int32) (x3 : Int32) (y4 : Int32) (y5 : Int32)  (S : St) : Option (Int32 × St) :=
  if x2 ≤ y5 then (some (y4, S)) else
  (fX11_odds_s49 k35 a0 x1 x2 x3 y4 y5 (sI S 11 32 a0 (x3 + y5)))
def fX11_odds_h35 (a0 : Nat) (x1 : Int32) (x2 : Int32) (x3 : Int32) : Nat → Int32 → Int32 → St → Option (Int32 × St)
  | 0, _, _, _ => none
  | n + 1, y4, y5, S => fX11_odds_s35 (fX11_odds_h35 a0 x1 x2 x3 n) a0 x1 x2 x3 y4 y5 S
def fX11_odds_s5 (a0 : Nat) (x1 : Int32) (x2 : Int32) (x3 : Int32)   (S : St) : Option (Int32 × St) :=
  (fX11_isFeast a0 x1 S).bind fun r_1 =>
  if r_1 = 0 then (some ((-1 : Int32), S)) else
  (if (fX11_isIn x2 (1 : Int32) (30 : Int32) S) = 0 then (some ((-1 : Int32), S)) else
  ((fX11_tries a0 S).bind fun r_5 =>
  fX11_odds_h35 a0 x1 x2 x3 NN (0 : Int32) (0 : Int32) r_5))
def fX11_odds (a0 : Nat) (x1 : Int32) (x2 : Int32) (x3 : Int32) (S : St) : Option (Int32 × St) :=
  fX11_odds_s5 a0 x1 x2 x3 (sI S 11 0 a0 (0 : Int32))
theorem wX11_odds_s98 {z : Mx} {ad : Nat → Nat} {o : Option Value × St} (X : CxOk z ad RX11 cX11_odds 8 (some .int) 7) (a0 : Nat) (x1 : Int32) (x2 : Int32) (x3 : Int32) (h0 : KT a0 = 11) (y4 : Int32) (y5 : Int32) (y6 : Int32)  (k35 : Int32 → Int32 → St → Option (Int32 × St))   (S : St) (r : (Int32 × St)) (ho : o = (some (.int r.1), r.2)) (hk35 : ∀ (y4 : Int32) (y5 : Int32) (S : St), k35 y4 y5 S = some r → GW z ad o S 35 [(0, .ref (ad a0)), (1, .int x1), (2, .int x2), (3, .int x3), (4, .int y4), (5, .int y5)] []) (hF : fX11_odds_s98 k35 a0 x1 x2 x3 y4 y5 y6  S = some r) : GW z ad o S 98 [(0, .ref (ad a0)), (1, .int x1), (2, .int x2), (3, .int x3), (4, .int y4), (5, .int y5), (6, .int y6)] [] := by
  unfold fX11_odds_s98 at hF
  refine g_iload X dX11_odds_98 4 rfl ?_
  refine g_iload X dX11_odds_100 6 rfl ?_
  refine g_if_eq (tgt := 109) X dX11_odds_102 (by decide) (fun c_9 => ?_) (fun c_9 => ?_)
  · rw [if_pos c_9] at hF
    refine g_iconst (v := 0) X dX11_odds_109 (by decide) ?_
    refine g_iadd X dX11_odds_110 ?_
    refine g_istore X dX11_odds_111 (by decide) (lv' := [(4, .int (y4 + (0 : Int32))), (0, .ref (ad a0)), (1, .int x1), (2, .int x2), (3, .int x3), (5, .int y5), (6, .int y6)]) rfl ?_
    refine g_aload_n X dX11_odds_113 1 rfl rfl ?_
    obtain ⟨r_10, q_11, hF⟩ := obind hF
    refine g_callVv (As := []) X dX11_odds_114 mlX11_382 (fun l D cyy => tX11_back (cx_inj X) l D cyy a0 h0 S r_10 q_11) h0 (by decide) rfl rfl (Nat.le_of_ble_eq_true rfl) ?_
    refine g_iinc (v := (y5 + (1 : Int32))) X dX11_odds_117 5 rfl rfl (by decide) (lv' := [(5, .int (y5 + (1 : Int32))), (4, .int (y4 + (0 : Int32))), (0, .ref (ad a0)), (1, .int x1), (2, .int x2), (3, .int x3), (6, .int y6)]) rfl ?_
    refine g_goto (tgt := 35) X dX11_odds_120 (by decide) ?_
    exact g_perm [2, 3, 4, 5, 1, 0] rfl (hk35 (y4 + (0 : Int32)) (y5 + (1 : Int32)) r_10 hF)
  · rw [if_neg c_9] at hF
    refine g_iconst (v := 1) X dX11_odds_105 (by decide) ?_
    refine g_goto (tgt := 110) X dX11_odds_106 (by decide) ?_
    refine g_iadd X dX11_odds_110 ?_
    refine g_istore X dX11_odds_111 (by decide) (lv' := [(4, .int (y4 + (1 : Int32))), (0, .ref (ad a0)), (1, .int x1), (2, .int x2), (3, .int x3), (5, .int y5), (6, .int y6)]) rfl ?_
    refine g_aload_n X dX11_odds_113 1 rfl rfl ?_
    obtain ⟨r_12, q_13, hF⟩ := obind hF
    refine g_callVv (As := []) X dX11_odds_114 mlX11_382 (fun l D cyy => tX11_back (cx_inj X) l D cyy a0 h0 S r_12 q_13) h0 (by decide) rfl rfl (Nat.le_of_ble_eq_true rfl) ?_
    refine g_iinc (v := (y5 + (1 : Int32))) X dX11_odds_117 5 rfl rfl (by decide) (lv' := [(5, .int (y5 + (1 : Int32))), (4, .int (y4 + (1 : Int32))), (0, .ref (ad a0)), (1, .int x1), (2, .int x2), (3, .int x3), (6, .int y6)]) rfl ?_
    refine g_goto (tgt := 35) X dX11_odds_120 (by decide) ?_
    exact g_perm [2, 3, 4, 5, 1, 0] rfl (hk35 (y4 + (1 : Int32)) (y5 + (1 : Int32)) r_12 hF)
theorem wX11_odds_s55 {z : Mx} {ad : Nat → Nat} {o : Option Value × St} (X : CxOk z ad RX11 cX11_odds 8 (some .int) 7) (a0 : Nat) (x1 : Int32) (x2 : Int32) (x3 : Int32) (h0 : KT a0 = 11) (y4 : Int32) (y5 : Int32) (y6 : Int32) (y7 : Int32)  (k35 : Int32 → Int32 → St → Option (Int32 × St)) (k55 : Int32 → Int32 → Int32 → Int32 → St → Option (Int32 × St))   (S : St) (r : (Int32 × St)) (ho : o = (some (.int r.1), r.2)) (hk35 : ∀ (y4 : Int32) (y5 : Int32) (S : St), k35 y4 y5 S = some r → GW z ad o S 35 [(0, .ref (ad a0)), (1, .int x1), (2, .int x2), (3, .int x3), (4, .int y4), (5, .int y5)] []) (hk55 : ∀ (y4 : Int32) (y5 : Int32) (y6 : Int32) (y7 : Int32) (S : St), k55 y4 y5 y6 y7 S = some r → GW z ad o S 55 [(0, .ref (ad a0)), (1, .int x1), (2, .int x2), (3, .int x3), (4, .int y4), (5, .int y5), (6, .int y6), (7, .int y7)] []) (hF : fX11_odds_s55 k35 k55 a0 x1 x2 x3 y4 y5 y6 y7  S = some r) : GW z ad o S 55 [(0, .ref (ad a0)), (1, .int x1), (2, .int x2), (3, .int x3), (4, .int y4), (5, .int y5), (6, .int y6), (7, .int y7)] [] := by
  unfold fX11_odds_s55 at hF
  refine g_iload X dX11_odds_55 7 rfl ?_
  refine g_bipush (v := 40) X dX11_odds_57 (by decide) ?_
  refine g_icmp_ge (tgt := 98) X dX11_odds_59 (by decide) (fun c_8 => ?_) (fun c_8 => ?_)
  · rw [if_pos c_8] at hF
    exact g_perm [0, 1, 2, 3, 4, 5, 6] rfl (wX11_odds_s98 X a0 x1 x2 x3 h0 y4 y5 y6 k35 S r ho hk35 hF)
  · rw [if_neg c_8] at hF
    refine g_iload X dX11_odds_62 6 rfl ?_
    refine g_if_ne (tgt := 98) X dX11_odds_64 (by decide) (fun c_14 => ?_) (fun c_14 => ?_)
    · rw [if_neg c_14] at hF
      exact g_perm [0, 1, 2, 3, 4, 5, 6] rfl (wX11_odds_s98 X a0 x1 x2 x3 h0 y4 y5 y6 k35 S r ho hk35 hF)
    · rw [if_pos c_14] at hF
      refine g_aload_n X dX11_odds_67 0 rfl rfl ?_
      refine g_getR (f := 2) X dX11_odds_68 flX11_33 rfl rfl h0 ?_
      refine g_bipush (v := 52) X dX11_odds_71 (by decide) ?_
      refine g_ialdK (j := 52) X dX11_odds_73 kd_29 (on_11_6 h0) (by decide) (by decide) ?_
      refine g_sipush (v := 10000) X dX11_odds_74 (by decide) ?_
      refine g_icmp_ge (tgt := 98) X dX11_odds_77 (by decide) (fun c_15 => ?_) (fun c_15 => ?_)
      · rw [if_pos c_15] at hF
        exact g_perm [0, 1, 2, 3, 4, 5, 6] rfl (wX11_odds_s98 X a0 x1 x2 x3 h0 y4 y5 y6 k35 S r ho hk35 hF)
      · rw [if_neg c_15] at hF
        refine g_aload_n X dX11_odds_80 0 rfl rfl ?_
        obtain ⟨r_16, q_17, hF⟩ := obind hF
        refine g_callVv (As := []) X dX11_odds_81 mlX11_376 (fun l D cyy => tX11_drawDay (cx_inj X) l D cyy a0 h0 S r_16 q_17) h0 (by decide) rfl rfl (Nat.le_of_ble_eq_true rfl) ?_
        refine g_aload_n X dX11_odds_84 0 rfl rfl ?_
        refine g_iload_n X dX11_odds_85 1 rfl rfl ?_
        refine g_iconst (v := 0) X dX11_odds_86 (by decide) ?_
        obtain ⟨r_18, q_19, hF⟩ := obind hF
        refine g_callVi (As := [.int x1, .int (0 : Int32)]) X dX11_odds_87 mlX11_282 (fun l D cyy => tX11_fallsIn (cx_inj X) l D cyy a0 x1 (0 : Int32) h0 r_16 r_18 q_19) h0 (by decide) rfl rfl (Nat.le_of_ble_eq_true rfl) ?_
        refine g_istore X dX11_odds_90 (by decide) (lv' := [(6, .int r_18), (0, .ref (ad a0)), (1, .int x1), (2, .int x2), (3, .int x3), (4, .int y4), (5, .int y5), (7, .int y7)]) rfl ?_
        refine g_iinc (v := (y7 + (1 : Int32))) X dX11_odds_92 7 rfl rfl (by decide) (lv' := [(7, .int (y7 + (1 : Int32))), (6, .int r_18), (0, .ref (ad a0)), (1, .int x1), (2, .int x2), (3, .int x3), (4, .int y4), (5, .int y5)]) rfl ?_
        refine g_goto (tgt := 55) X dX11_odds_95 (by decide) ?_
        exact g_perm [2, 3, 4, 5, 6, 7, 1, 0] rfl (hk55 y4 y5 r_18 (y7 + (1 : Int32)) r_16 hF)
theorem wX11_odds_h55 {z : Mx} {ad : Nat → Nat} {o : Option Value × St} (X : CxOk z ad RX11 cX11_odds 8 (some .int) 7) (a0 : Nat) (x1 : Int32) (x2 : Int32) (x3 : Int32) (h0 : KT a0 = 11) (k35 : Int32 → Int32 → St → Option (Int32 × St))  (r : (Int32 × St)) (ho : o = (some (.int r.1), r.2)) (hk35 : ∀ (y4 : Int32) (y5 : Int32) (S : St), k35 y4 y5 S = some r → GW z ad o S 35 [(0, .ref (ad a0)), (1, .int x1), (2, .int x2), (3, .int x3), (4, .int y4), (5, .int y5)] []) : ∀ (n : Nat) (y4 : Int32) (y5 : Int32) (y6 : Int32) (y7 : Int32) (S : St), fX11_odds_h55 k35 a0 x1 x2 x3 n y4 y5 y6 y7 S = some r → GW z ad o S 55 [(0, .ref (ad a0)), (1, .int x1), (2, .int x2), (3, .int x3), (4, .int y4), (5, .int y5), (6, .int y6), (7, .int y7)] [] := by
  intro n
  induction n with
  | zero => intro y4 y5 y6 y7 S  hF; cases hF
  | succ n ih => intro y4 y5 y6 y7 S  hF; exact wX11_odds_s55 X a0 x1 x2 x3 h0 y4 y5 y6 y7 k35 (fX11_odds_h55 k35 a0 x1 x2 x3 n)  S r ho hk35 ih hF
theorem wX11_odds_s49 {z : Mx} {ad : Nat → Nat} {o : Option Value × St} (X : CxOk z ad RX11 cX11_odds 8 (some .int) 7) (a0 : Nat) (x1 : Int32) (x2 : Int32) (x3 : Int32) (h0 : KT a0 = 11) (y4 : Int32) (y5 : Int32)  (k35 : Int32 → Int32 → St → Option (Int32 × St))   (S : St) (r : (Int32 × St)) (ho : o = (some (.int r.1), r.2)) (hk35 : ∀ (y4 : Int32) (y5 : Int32) (S : St), k35 y4 y5 S = some r → GW z ad o S 35 [(0, .ref (ad a0)), (1, .int x1), (2, .int x2), (3, .int x3), (4, .int y4), (5, .int y5)] []) (hF : fX11_odds_s49 k35 a0 x1 x2 x3 y4 y5  S = some r) : GW z ad o S 49 [(0, .ref (ad a0)), (1, .int x1), (2, .int x2), (3, .int x3), (4, .int y4), (5, .int y5)] [] := by
  unfold fX11_odds_s49 at hF
  refine g_iconst (v := 0) X dX11_odds_49 (by decide) ?_
  refine g_istore X dX11_odds_50 (by decide) (lv' := [(6, .int (0 : Int32)), (0, .ref (ad a0)), (1, .int x1), (2, .int x2), (3, .int x3), (4, .int y4), (5, .int y5)]) rfl ?_
  refine g_iconst (v := 0) X dX11_odds_52 (by decide) ?_
  refine g_istore X dX11_odds_53 (by decide) (lv' := [(7, .int (0 : Int32)), (6, .int (0 : Int32)), (0, .ref (ad a0)), (1, .int x1), (2, .int x2), (3, .int x3), (4, .int y4), (5, .int y5)]) rfl ?_
  exact g_perm [2, 3, 4, 5, 6, 7, 1, 0] rfl (wX11_odds_h55 X a0 x1 x2 x3 h0 k35 r ho hk35 NN y4 y5 (0 : Int32) (0 : Int32) S hF)
theorem wX11_odds_s35 {z : Mx} {ad : Nat → Nat} {o : Option Value × St} (X : CxOk z ad RX11 cX11_odds 8 (some .int) 7) (a0 : Nat) (x1 : Int32) (x2 : Int32) (x3 : Int32) (h0 : KT a0 = 11) (y4 : Int32) (y5 : Int32)  (k35 : Int32 → Int32 → St → Option (Int32 × St))   (S : St) (r : (Int32 × St)) (ho : o = (some (.int r.1), r.2)) (hk35 : ∀ (y4 : Int32) (y5 : Int32) (S : St), k35 y4 y5 S = some r → GW z ad o S 35 [(0, .ref (ad a0)), (1, .int x1), (2, .int x2), (3, .int x3), (4, .int y4), (5, .int y5)] []) (hF : fX11_odds_s35 k35 a0 x1 x2 x3 y4 y5  S = some r) : GW z ad o S 35 [(0, .ref (ad a0)), (1, .int x1), (2, .int x2), (3, .int x3), (4, .int y4), (5, .int y5)] [] := by
  unfold fX11_odds_s35 at hF
  refine g_iload X dX11_odds_35 5 rfl ?_
  refine g_iload_n X dX11_odds_37 2 rfl rfl ?_
  refine g_icmp_ge (tgt := 123) X dX11_odds_38 (by decide) (fun c_7 => ?_) (fun c_7 => ?_)
  · rw [if_pos c_7] at hF
    refine g_iload X dX11_odds_123 4 rfl ?_
    have hF := Option.some.inj hF
    subst hF
    exact g_iret X dX11_odds_125 ho
  · rw [if_neg c_7] at hF
    refine g_aload_n X dX11_odds_41 0 rfl rfl ?_
    refine g_iload_n X dX11_odds_42 3 rfl rfl ?_
    refine g_iload X dX11_odds_43 5 rfl ?_
    refine g_iadd X dX11_odds_45 ?_
    refine g_putI X dX11_odds_46 fpX11_366 rfl rfl rfl h0 ?_
    exact (wX11_odds_s49 X a0 x1 x2 x3 h0 y4 y5 k35 (sI S 11 32 a0 (x3 + y5)) r ho hk35 hF)
theorem wX11_odds_h35 {z : Mx} {ad : Nat → Nat} {o : Option Value × St} (X : CxOk z ad RX11 cX11_odds 8 (some .int) 7) (a0 : Nat) (x1 : Int32) (x2 : Int32) (x3 : Int32) (h0 : KT a0 = 11)  (r : (Int32 × St)) (ho : o = (some (.int r.1), r.2)) : ∀ (n : Nat) (y4 : Int32) (y5 : Int32) (S : St), fX11_odds_h35 a0 x1 x2 x3 n y4 y5 S = some r → GW z ad o S 35 [(0, .ref (ad a0)), (1, .int x1), (2, .int x2), (3, .int x3), (4, .int y4), (5, .int y5)] [] := by
  intro n
  induction n with
  | zero => intro y4 y5 S  hF; cases hF
  | succ n ih => intro y4 y5 S  hF; exact wX11_odds_s35 X a0 x1 x2 x3 h0 y4 y5 (fX11_odds_h35 a0 x1 x2 x3 n)  S r ho ih hF
theorem wX11_odds_s5 {z : Mx} {ad : Nat → Nat} {o : Option Value × St} (X : CxOk z ad RX11 cX11_odds 8 (some .int) 7) (a0 : Nat) (x1 : Int32) (x2 : Int32) (x3 : Int32) (h0 : KT a0 = 11)     (S : St) (r : (Int32 × St)) (ho : o = (some (.int r.1), r.2)) (hF : fX11_odds_s5 a0 x1 x2 x3   S = some r) : GW z ad o S 5 [(0, .ref (ad a0)), (1, .int x1), (2, .int x2), (3, .int x3)] [] := by
  unfold fX11_odds_s5 at hF
  refine g_aload_n X dX11_odds_5 0 rfl rfl ?_
  refine g_iload_n X dX11_odds_6 1 rfl rfl ?_
  obtain ⟨r_1, q_2, hF⟩ := obind hF
  refine g_callVi (As := [.int x1]) X dX11_odds_7 mlX11_279 (fun l D cyy => tX11_isFeast (cx_inj X) l D cyy a0 x1 h0 S r_1 q_2) h0 (by decide) rfl rfl (Nat.le_of_ble_eq_true rfl) ?_
  refine g_if_eq (tgt := 23) X dX11_odds_10 (by decide) (fun c_3 => ?_) (fun c_3 => ?_)
  · rw [if_pos c_3] at hF
    refine g_iconst (v := -1) X dX11_odds_23 (by decide) ?_
    have hF := Option.some.inj hF
    subst hF
    exact g_iret X dX11_odds_24 ho
  · rw [if_neg c_3] at hF
    refine g_iload_n X dX11_odds_13 2 rfl rfl ?_
    refine g_iconst (v := 1) X dX11_odds_14 (by decide) ?_
    refine g_bipush (v := 30) X dX11_odds_15 (by decide) ?_
    refine g_callSi (As := [.int x2, .int (1 : Int32), .int (30 : Int32)]) X dX11_odds_17 mlX11_173 (fun l D cyy => tX11_isIn (cx_inj X) l D cyy x2 (1 : Int32) (30 : Int32)  S) (by decide) rfl rfl (Nat.le_of_ble_eq_true rfl) ?_
    refine g_if_ne (tgt := 25) X dX11_odds_20 (by decide) (fun c_4 => ?_) (fun c_4 => ?_)
    · rw [if_neg c_4] at hF
      refine g_aload_n X dX11_odds_25 0 rfl rfl ?_
      obtain ⟨r_5, q_6, hF⟩ := obind hF
      refine g_callVv (As := []) X dX11_odds_26 mlX11_379 (fun l D cyy => tX11_tries (cx_inj X) l D cyy a0 h0 S r_5 q_6) h0 (by decide) rfl rfl (Nat.le_of_ble_eq_true rfl) ?_
      refine g_iconst (v := 0) X dX11_odds_29 (by decide) ?_
      refine g_istore X dX11_odds_30 (by decide) (lv' := [(4, .int (0 : Int32)), (0, .ref (ad a0)), (1, .int x1), (2, .int x2), (3, .int x3)]) rfl ?_
      refine g_iconst (v := 0) X dX11_odds_32 (by decide) ?_
      refine g_istore X dX11_odds_33 (by decide) (lv' := [(5, .int (0 : Int32)), (4, .int (0 : Int32)), (0, .ref (ad a0)), (1, .int x1), (2, .int x2), (3, .int x3)]) rfl ?_
      exact g_perm [2, 3, 4, 5, 1, 0] rfl (wX11_odds_h35 X a0 x1 x2 x3 h0 r ho NN (0 : Int32) (0 : Int32) r_5 hF)
    · rw [if_pos c_4] at hF
      refine g_iconst (v := -1) X dX11_odds_23 (by decide) ?_
      have hF := Option.some.inj hF
      subst hF
      exact g_iret X dX11_odds_24 ho
theorem wX11_odds {z : Mx} {ad : Nat → Nat} {o : Option Value × St} (X : CxOk z ad RX11 cX11_odds 8 (some .int) 7) (a0 : Nat) (x1 : Int32) (x2 : Int32) (x3 : Int32) (h0 : KT a0 = 11) (S : St) (r : (Int32 × St)) (ho : o = (some (.int r.1), r.2)) (hF : fX11_odds a0 x1 x2 x3 S = some r) : GW z ad o S 0 [(0, .ref (ad a0)), (1, .int x1), (2, .int x2), (3, .int x3)] [] := by
  unfold fX11_odds at hF
  refine g_aload_n X dX11_odds_0 0 rfl rfl ?_
  refine g_iconst (v := 0) X dX11_odds_1 (by decide) ?_
  refine g_putI X dX11_odds_2 fpX11_1 rfl rfl rfl h0 ?_
  exact (wX11_odds_s5 X a0 x1 x2 x3 h0 (sI S 11 0 a0 (0 : Int32)) r ho hF)
theorem tX11_odds {ad : Nat → Nat} (hI : Inj ad) (l : Launch) (D : va_G) (cyy : Nat → ClassId) (a0 : Nat) (x1 : Int32) (x2 : Int32) (x3 : Int32) (h0 : KT a0 = 11) (S : St) (r : (Int32 × St)) (hF : fX11_odds a0 x1 x2 x3 S = some r) : OkM l yX11_odds cX11_odds 8 (some .int) 7 ad D cyy [.ref (ad a0), .int x1, .int x2, .int x3] S (some (.int r.1), r.2) := okM_of hI (by decide) (inr_55 _ (List.mem_of_getElem? (i := 5) rfl)) (by show _ ≤ 8; exact Nat.le_of_ble_eq_true rfl) (fun z X => wX11_odds X a0 x1 x2 x3 h0 S r rfl hF)
def fX11_bookLine_s187 (a0 : Nat)   (S : St) : Option (Int32 × St) :=
  some ((1 : Int32), S)
def fX11_bookLine_s170 (a0 : Nat) (y1 : Int32) (t0 : Int32) (S : St) : Option (Int32 × St) :=
  if t0 = 0 then (some ((0 : Int32), S)) else
  (if ((y1 + (2 : Int32)) < 0 ∨ 135 ≤ (y1 + (2 : Int32)).toNatClampNeg) then none else
  fX11_bookLine_s187 a0 (sA S 31 (a0 + 4) ((y1 + (2 : Int32)).toNatClampNeg) (gI S 11 18 a0)))
def fX11_bookLine_s156 (a0 : Nat) (y1 : Int32) (y4 : Int32)  (S : St) : Option (Int32 × St) :=
  if y4 = 0 then (some ((1 : Int32), S)) else
  ((fX11_takes a0 (1 : Int32) (99 : Int32) S).bind fun r_13 =>
  fX11_bookLine_s170 a0 y1 r_13.1 r_13.2)
def fX11_bookLine_s147 (a0 : Nat) (y1 : Int32) (y3 : Int32) (y4 : Int32)  (S : St) : Option (Int32 × St) :=
  if ((y1 + (1 : Int32)) < 0 ∨ 135 ≤ (y1 + (1 : Int32)).toNatClampNeg) then none else
  fX11_bookLine_s156 a0 y1 y4 (sA S 31 (a0 + 4) ((y1 + (1 : Int32)).toNatClampNeg) y3)
def fX11_bookLine_s127 (a0 : Nat) (y1 : Int32) (y3 : Int32) (y4 : Int32)  (S : St) : Option (Int32 × St) :=
  (fX11_step a0 S).bind fun r_7 =>
  if y4 = 0 then (if (y1 < 0 ∨ 135 ≤ y1.toNatClampNeg) then none else
  fX11_bookLine_s147 a0 y1 y3 y4 (sA r_7 31 (a0 + 4) y1.toNatClampNeg (0 : Int32))) else
  (if (y1 < 0 ∨ 135 ≤ y1.toNatClampNeg) then none else
  fX11_bookLine_s147 a0 y1 y3 y4 (sA r_7 31 (a0 + 4) y1.toNatClampNeg (1 : Int32)))
def fX11_bookLine_s126 (a0 : Nat)  (t0 : Int32) (S : St) : Option (Int32 × St) :=
  some ((vp_nar .boolean t0), S)
def fX11_bookLine_s106 (a0 : Nat) (y1 : Int32) (y3 : Int32) (y4 : Int32)  (S : St) : Option (Int32 × St) :=
  if y4 = 0 then (if (fX11_isWord a0 (448545973363 : Int64) S) = 0 then (fX11_bookLine_s126 a0 ((fX11_bad a0 (1 : Int32) S).1) ((fX11_bad a0 (1 : Int32) S).2)) else
  (fX11_bookLine_s127 a0 y1 y3 y4 S)) else
  (fX11_bookLine_s127 a0 y1 y3 y4 S)
def fX11_bookLine_s95 (a0 : Nat)   (S : St) : Option (Int32 × St) :=
  some ((1 : Int32), S)
def fX11_bookLine_s78 (a0 : Nat) (y1 : Int32) (t0 : Int32) (S : St) : Option (Int32 × St) :=
  if t0 = 0 then (some ((0 : Int32), S)) else
  (if ((y1 + (1 : Int32)) < 0 ∨ 135 ≤ (y1 + (1 : Int32)).toNatClampNeg) then none else
  fX11_bookLine_s95 a0 (sA S 31 (a0 + 4) ((y1 + (1 : Int32)).toNatClampNeg) (gI S 11 18 a0)))
def fX11_bookLine_s70 (a0 : Nat) (y1 : Int32)  (S : St) : Option (Int32 × St) :=
  (fX11_takes a0 (1 : Int32) (999 : Int32) S).bind fun r_20 =>
  fX11_bookLine_s78 a0 y1 r_20.1 r_20.2
def fX11_bookLine_s55 (a0 : Nat) (y1 : Int32) (y2 : Int32) (y3 : Int32)  (S : St) : Option (Int32 × St) :=
  (fX11_step a0 S).bind fun r_3 =>
  if y2 = 0 then (fX11_bookLine_s106 a0 y1 y3 (fX11_isWord a0 (495723311219 : Int64) r_3) r_3) else
  (if (y1 < 0 ∨ 135 ≤ y1.toNatClampNeg) then none else
  fX11_bookLine_s70 a0 y1 (sA r_3 31 (a0 + 4) y1.toNatClampNeg (2 : Int32)))
def fX11_bookLine_s49 (a0 : Nat)  (t0 : Int32) (S : St) : Option (Int32 × St) :=
  some ((vp_nar .boolean t0), S)
def fX11_bookLine_s35 (a0 : Nat) (y1 : Int32) (y2 : Int32)  (S : St) : Option (Int32 × St) :=
  if (gI S 11 33 a0) = (40 : Int32) then (fX11_bookLine_s49 a0 ((fX11_bad a0 (4 : Int32) S).1) ((fX11_bad a0 (4 : Int32) S).2)) else
  (fX11_bookLine_s55 a0 y1 y2 (gI S 11 18 a0) S)
def fX11_bookLine_s30 (a0 : Nat) (y1 : Int32) (y2 : Int32) (t0 : Int32) (S : St) : Option (Int32 × St) :=
  if t0 = 0 then (some ((0 : Int32), S)) else
  (fX11_bookLine_s35 a0 y1 y2 S)
def fX11_bookLine_s15 (a0 : Nat) (y1 : Int32) (y2 : Int32)  (S : St) : Option (Int32 × St) :=
  if y2 = 0 then ((fX11_looksAt a0 (0 : Int32) (gA S 29 (a0 + 2) 0) S).bind fun r_24 =>
  fX11_bookLine_s30 a0 y1 y2 r_24.1 r_24.2) else
  (fX11_bookLine_s35 a0 y1 y2 S)
def fX11_bookLine_s7 (a0 : Nat) (y1 : Int32)  (S : St) : Option (Int32 × St) :=
  fX11_bookLine_s15 a0 y1 (fX11_isWord a0 (6578553 : Int64) S) S
def fX11_bookLine (a0 : Nat) (S : St) : Option (Int32 × St) :=
  fX11_bookLine_s7 a0 ((3 : Int32) * (gI S 11 33 a0)) S
theorem wX11_bookLine_s187 {z : Mx} {ad : Nat → Nat} {o : Option Value × St} (X : CxOk z ad RX11 cX11_bookLine 5 (some .boolean) 4) (a0 : Nat) (h0 : KT a0 = 11)     (S : St) (r : (Int32 × St)) (ho : o = (some (.int r.1), r.2)) (hF : fX11_bookLine_s187 a0   S = some r) : GW z ad o S 187 [] [] := by
  unfold fX11_bookLine_s187 at hF
  refine g_iconst (v := 1) X dX11_bookLine_187 (by decide) ?_
  have hF := Option.some.inj hF
  subst hF
  exact g_zret X dX11_bookLine_188 (by decide) ho
theorem wX11_bookLine_s170 {z : Mx} {ad : Nat → Nat} {o : Option Value × St} (X : CxOk z ad RX11 cX11_bookLine 5 (some .boolean) 4) (a0 : Nat) (h0 : KT a0 = 11) (y1 : Int32) (t0 : Int32)   (S : St) (r : (Int32 × St)) (ho : o = (some (.int r.1), r.2)) (hF : fX11_bookLine_s170 a0 y1 t0 S = some r) : GW z ad o S 170 [(0, .ref (ad a0)), (1, .int y1)] [.int t0] := by
  unfold fX11_bookLine_s170 at hF
  refine g_if_ne (tgt := 175) X dX11_bookLine_170 (by decide) (fun c_15 => ?_) (fun c_15 => ?_)
  · rw [if_neg c_15] at hF
    refine g_aload_n X dX11_bookLine_175 0 rfl rfl ?_
    refine g_getR (f := 4) X dX11_bookLine_176 flX11_40 rfl rfl h0 ?_
    refine g_iload_n X dX11_bookLine_179 1 rfl rfl ?_
    refine g_iconst (v := 2) X dX11_bookLine_180 (by decide) ?_
    refine g_iadd X dX11_bookLine_181 ?_
    refine g_aload_n X dX11_bookLine_182 0 rfl rfl ?_
    refine g_getI X dX11_bookLine_183 flX11_177 rfl h0 ?_
    obtain ⟨e_16, hF⟩ := oguard hF
    refine g_iast X dX11_bookLine_186 kd_31 (on_11_8 h0) e_16 ?_
    exact g_perm [] rfl (wX11_bookLine_s187 X a0 h0 (sA S 31 (a0 + 4) ((y1 + (2 : Int32)).toNatClampNeg) (gI S 11 18 a0)) r ho hF)
  · rw [if_pos c_15] at hF
    refine g_iconst (v := 0) X dX11_bookLine_173 (by decide) ?_
    have hF := Option.some.inj hF
    subst hF
    exact g_zret X dX11_bookLine_174 (by decide) ho
theorem wX11_bookLine_s156 {z : Mx} {ad : Nat → Nat} {o : Option Value × St} (X : CxOk z ad RX11 cX11_bookLine 5 (some .boolean) 4) (a0 : Nat) (h0 : KT a0 = 11) (y1 : Int32) (y4 : Int32)    (S : St) (r : (Int32 × St)) (ho : o = (some (.int r.1), r.2)) (hF : fX11_bookLine_s156 a0 y1 y4  S = some r) : GW z ad o S 156 [(0, .ref (ad a0)), (1, .int y1), (4, .int y4)] [] := by
  unfold fX11_bookLine_s156 at hF
  refine g_iload X dX11_bookLine_156 2 rfl ?_
  refine g_if_ne (tgt := 163) X dX11_bookLine_158 (by decide) (fun c_12 => ?_) (fun c_12 => ?_)
  · rw [if_neg c_12] at hF
    refine g_aload_n X dX11_bookLine_163 0 rfl rfl ?_
    refine g_iconst (v := 1) X dX11_bookLine_164 (by decide) ?_
    refine g_bipush (v := 99) X dX11_bookLine_165 (by decide) ?_
    obtain ⟨r_13, q_14, hF⟩ := obind hF
    refine g_callVi (As := [.int (1 : Int32), .int (99 : Int32)]) X dX11_bookLine_167 mlX11_180 (fun l D cyy => tX11_takes (cx_inj X) l D cyy a0 (1 : Int32) (99 : Int32) h0 S r_13 q_14) h0 (by decide) rfl rfl (Nat.le_of_ble_eq_true rfl) ?_
    exact g_perm [0, 1] rfl (wX11_bookLine_s170 X a0 h0 y1 r_13.1 r_13.2 r ho hF)
  · rw [if_pos c_12] at hF
    refine g_iconst (v := 1) X dX11_bookLine_161 (by decide) ?_
    have hF := Option.some.inj hF
    subst hF
    exact g_zret X dX11_bookLine_162 (by decide) ho
theorem wX11_bookLine_s147 {z : Mx} {ad : Nat → Nat} {o : Option Value × St} (X : CxOk z ad RX11 cX11_bookLine 5 (some .boolean) 4) (a0 : Nat) (h0 : KT a0 = 11) (y1 : Int32) (y3 : Int32) (y4 : Int32)    (S : St) (r : (Int32 × St)) (ho : o = (some (.int r.1), r.2)) (hF : fX11_bookLine_s147 a0 y1 y3 y4  S = some r) : GW z ad o S 147 [(0, .ref (ad a0)), (1, .int y1), (3, .int y3), (4, .int y4)] [] := by
  unfold fX11_bookLine_s147 at hF
  refine g_aload_n X dX11_bookLine_147 0 rfl rfl ?_
  refine g_getR (f := 4) X dX11_bookLine_148 flX11_40 rfl rfl h0 ?_
  refine g_iload_n X dX11_bookLine_151 1 rfl rfl ?_
  refine g_iconst (v := 1) X dX11_bookLine_152 (by decide) ?_
  refine g_iadd X dX11_bookLine_153 ?_
  refine g_iload_n X dX11_bookLine_154 2 rfl rfl ?_
  obtain ⟨e_11, hF⟩ := oguard hF
  refine g_iast X dX11_bookLine_155 kd_31 (on_11_8 h0) e_11 ?_
  exact g_perm [0, 1, 3] rfl (wX11_bookLine_s156 X a0 h0 y1 y4 (sA S 31 (a0 + 4) ((y1 + (1 : Int32)).toNatClampNeg) y3) r ho hF)
theorem wX11_bookLine_s127 {z : Mx} {ad : Nat → Nat} {o : Option Value × St} (X : CxOk z ad RX11 cX11_bookLine 5 (some .boolean) 4) (a0 : Nat) (h0 : KT a0 = 11) (y1 : Int32) (y3 : Int32) (y4 : Int32)    (S : St) (r : (Int32 × St)) (ho : o = (some (.int r.1), r.2)) (hF : fX11_bookLine_s127 a0 y1 y3 y4  S = some r) : GW z ad o S 127 [(0, .ref (ad a0)), (1, .int y1), (3, .int y3), (4, .int y4)] [] := by
  unfold fX11_bookLine_s127 at hF
  refine g_aload_n X dX11_bookLine_127 0 rfl rfl ?_
  obtain ⟨r_7, q_8, hF⟩ := obind hF
  refine g_callVv (As := []) X dX11_bookLine_128 mlX11_170 (fun l D cyy => tX11_step (cx_inj X) l D cyy a0 h0 S r_7 q_8) h0 (by decide) rfl rfl (Nat.le_of_ble_eq_true rfl) ?_
  refine g_aload_n X dX11_bookLine_131 0 rfl rfl ?_
  refine g_getR (f := 4) X dX11_bookLine_132 flX11_40 rfl rfl h0 ?_
  refine g_iload_n X dX11_bookLine_135 1 rfl rfl ?_
  refine g_iload X dX11_bookLine_136 3 rfl ?_
  refine g_if_eq (tgt := 145) X dX11_bookLine_138 (by decide) (fun c_9 => ?_) (fun c_9 => ?_)
  · rw [if_pos c_9] at hF
    refine g_iconst (v := 0) X dX11_bookLine_145 (by decide) ?_
    obtain ⟨e_10, hF⟩ := oguard hF
    refine g_iast X dX11_bookLine_146 kd_31 (on_11_8 h0) e_10 ?_
    exact (wX11_bookLine_s147 X a0 h0 y1 y3 y4 (sA r_7 31 (a0 + 4) y1.toNatClampNeg (0 : Int32)) r ho hF)
  · rw [if_neg c_9] at hF
    refine g_iconst (v := 1) X dX11_bookLine_141 (by decide) ?_
    refine g_goto (tgt := 146) X dX11_bookLine_142 (by decide) ?_
    obtain ⟨e_17, hF⟩ := oguard hF
    refine g_iast X dX11_bookLine_146 kd_31 (on_11_8 h0) e_17 ?_
    exact (wX11_bookLine_s147 X a0 h0 y1 y3 y4 (sA r_7 31 (a0 + 4) y1.toNatClampNeg (1 : Int32)) r ho hF)
theorem wX11_bookLine_s126 {z : Mx} {ad : Nat → Nat} {o : Option Value × St} (X : CxOk z ad RX11 cX11_bookLine 5 (some .boolean) 4) (a0 : Nat) (h0 : KT a0 = 11)  (t0 : Int32)   (S : St) (r : (Int32 × St)) (ho : o = (some (.int r.1), r.2)) (hF : fX11_bookLine_s126 a0  t0 S = some r) : GW z ad o S 126 [] [.int t0] := by
  unfold fX11_bookLine_s126 at hF
  have hF := Option.some.inj hF
  subst hF
  exact g_zretN X dX11_bookLine_126 ho
theorem wX11_bookLine_s106 {z : Mx} {ad : Nat → Nat} {o : Option Value × St} (X : CxOk z ad RX11 cX11_bookLine 5 (some .boolean) 4) (a0 : Nat) (h0 : KT a0 = 11) (y1 : Int32) (y3 : Int32) (y4 : Int32)    (S : St) (r : (Int32 × St)) (ho : o = (some (.int r.1), r.2)) (hF : fX11_bookLine_s106 a0 y1 y3 y4  S = some r) : GW z ad o S 106 [(0, .ref (ad a0)), (1, .int y1), (3, .int y3), (4, .int y4)] [] := by
  unfold fX11_bookLine_s106 at hF
  refine g_iload X dX11_bookLine_106 3 rfl ?_
  refine g_if_ne (tgt := 127) X dX11_bookLine_108 (by decide) (fun c_6 => ?_) (fun c_6 => ?_)
  · rw [if_neg c_6] at hF
    exact (wX11_bookLine_s127 X a0 h0 y1 y3 y4 S r ho hF)
  · rw [if_pos c_6] at hF
    refine g_aload_n X dX11_bookLine_111 0 rfl rfl ?_
    refine g_ldc2 (v := 448545973363) X dX11_bookLine_112 (inr_7 _ (List.mem_of_getElem? (i := 14) rfl)) ?_
    refine g_callVi (As := [.long (448545973363 : Int64)]) X dX11_bookLine_115 mlX11_195 (fun l D cyy => tX11_isWord (cx_inj X) l D cyy a0 (448545973363 : Int64) h0 S) h0 (by decide) rfl rfl (Nat.le_of_ble_eq_true rfl) ?_
    refine g_if_ne (tgt := 127) X dX11_bookLine_118 (by decide) (fun c_18 => ?_) (fun c_18 => ?_)
    · rw [if_neg c_18] at hF
      exact (wX11_bookLine_s127 X a0 h0 y1 y3 y4 S r ho hF)
    · rw [if_pos c_18] at hF
      refine g_aload_n X dX11_bookLine_121 0 rfl rfl ?_
      refine g_iconst (v := 1) X dX11_bookLine_122 (by decide) ?_
      refine g_callVi (As := [.int (1 : Int32)]) X dX11_bookLine_123 mlX11_167 (fun l D cyy => tX11_bad (cx_inj X) l D cyy a0 (1 : Int32) h0 S) h0 (by decide) rfl rfl (Nat.le_of_ble_eq_true rfl) ?_
      exact g_perm [] rfl (wX11_bookLine_s126 X a0 h0 ((fX11_bad a0 (1 : Int32) S).1) ((fX11_bad a0 (1 : Int32) S).2) r ho hF)
theorem wX11_bookLine_s95 {z : Mx} {ad : Nat → Nat} {o : Option Value × St} (X : CxOk z ad RX11 cX11_bookLine 5 (some .boolean) 4) (a0 : Nat) (h0 : KT a0 = 11)     (S : St) (r : (Int32 × St)) (ho : o = (some (.int r.1), r.2)) (hF : fX11_bookLine_s95 a0   S = some r) : GW z ad o S 95 [] [] := by
  unfold fX11_bookLine_s95 at hF
  refine g_iconst (v := 1) X dX11_bookLine_95 (by decide) ?_
  have hF := Option.some.inj hF
  subst hF
  exact g_zret X dX11_bookLine_96 (by decide) ho
theorem wX11_bookLine_s78 {z : Mx} {ad : Nat → Nat} {o : Option Value × St} (X : CxOk z ad RX11 cX11_bookLine 5 (some .boolean) 4) (a0 : Nat) (h0 : KT a0 = 11) (y1 : Int32) (t0 : Int32)   (S : St) (r : (Int32 × St)) (ho : o = (some (.int r.1), r.2)) (hF : fX11_bookLine_s78 a0 y1 t0 S = some r) : GW z ad o S 78 [(0, .ref (ad a0)), (1, .int y1)] [.int t0] := by
  unfold fX11_bookLine_s78 at hF
  refine g_if_ne (tgt := 83) X dX11_bookLine_78 (by decide) (fun c_22 => ?_) (fun c_22 => ?_)
  · rw [if_neg c_22] at hF
    refine g_aload_n X dX11_bookLine_83 0 rfl rfl ?_
    refine g_getR (f := 4) X dX11_bookLine_84 flX11_40 rfl rfl h0 ?_
    refine g_iload_n X dX11_bookLine_87 1 rfl rfl ?_
    refine g_iconst (v := 1) X dX11_bookLine_88 (by decide) ?_
    refine g_iadd X dX11_bookLine_89 ?_
    refine g_aload_n X dX11_bookLine_90 0 rfl rfl ?_
    refine g_getI X dX11_bookLine_91 flX11_177 rfl h0 ?_
    obtain ⟨e_23, hF⟩ := oguard hF
    refine g_iast X dX11_bookLine_94 kd_31 (on_11_8 h0) e_23 ?_
    exact g_perm [] rfl (wX11_bookLine_s95 X a0 h0 (sA S 31 (a0 + 4) ((y1 + (1 : Int32)).toNatClampNeg) (gI S 11 18 a0)) r ho hF)
  · rw [if_pos c_22] at hF
    refine g_iconst (v := 0) X dX11_bookLine_81 (by decide) ?_
    have hF := Option.some.inj hF
    subst hF
    exact g_zret X dX11_bookLine_82 (by decide) ho
theorem wX11_bookLine_s70 {z : Mx} {ad : Nat → Nat} {o : Option Value × St} (X : CxOk z ad RX11 cX11_bookLine 5 (some .boolean) 4) (a0 : Nat) (h0 : KT a0 = 11) (y1 : Int32)    (S : St) (r : (Int32 × St)) (ho : o = (some (.int r.1), r.2)) (hF : fX11_bookLine_s70 a0 y1  S = some r) : GW z ad o S 70 [(0, .ref (ad a0)), (1, .int y1)] [] := by
  unfold fX11_bookLine_s70 at hF
  refine g_aload_n X dX11_bookLine_70 0 rfl rfl ?_
  refine g_iconst (v := 1) X dX11_bookLine_71 (by decide) ?_
  refine g_sipush (v := 999) X dX11_bookLine_72 (by decide) ?_
  obtain ⟨r_20, q_21, hF⟩ := obind hF
  refine g_callVi (As := [.int (1 : Int32), .int (999 : Int32)]) X dX11_bookLine_75 mlX11_180 (fun l D cyy => tX11_takes (cx_inj X) l D cyy a0 (1 : Int32) (999 : Int32) h0 S r_20 q_21) h0 (by decide) rfl rfl (Nat.le_of_ble_eq_true rfl) ?_
  exact (wX11_bookLine_s78 X a0 h0 y1 r_20.1 r_20.2 r ho hF)
theorem wX11_bookLine_s55 {z : Mx} {ad : Nat → Nat} {o : Option Value × St} (X : CxOk z ad RX11 cX11_bookLine 5 (some .boolean) 4) (a0 : Nat) (h0 : KT a0 = 11) (y1 : Int32) (y2 : Int32) (y3 : Int32)    (S : St) (r : (Int32 × St)) (ho : o = (some (.int r.1), r.2)) (hF : fX11_bookLine_s55 a0 y1 y2 y3  S = some r) : GW z ad o S 55 [(0, .ref (ad a0)), (1, .int y1), (2, .int y2), (3, .int y3)] [] := by
  unfold fX11_bookLine_s55 at hF
  refine g_aload_n X dX11_bookLine_55 0 rfl rfl ?_
  obtain ⟨r_3, q_4, hF⟩ := obind hF
  refine g_callVv (As := []) X dX11_bookLine_56 mlX11_170 (fun l D cyy => tX11_step (cx_inj X) l D cyy a0 h0 S r_3 q_4) h0 (by decide) rfl rfl (Nat.le_of_ble_eq_true rfl) ?_
  refine g_iload_n X dX11_bookLine_59 2 rfl rfl ?_
  refine g_if_eq (tgt := 97) X dX11_bookLine_60 (by decide) (fun c_5 => ?_) (fun c_5 => ?_)
  · rw [if_pos c_5] at hF
    refine g_aload_n X dX11_bookLine_97 0 rfl rfl ?_
    refine g_ldc2 (v := 495723311219) X dX11_bookLine_98 (inr_7 _ (List.mem_of_getElem? (i := 15) rfl)) ?_
    refine g_callVi (As := [.long (495723311219 : Int64)]) X dX11_bookLine_101 mlX11_195 (fun l D cyy => tX11_isWord (cx_inj X) l D cyy a0 (495723311219 : Int64) h0 r_3) h0 (by decide) rfl rfl (Nat.le_of_ble_eq_true rfl) ?_
    refine g_istore X dX11_bookLine_104 (by decide) (lv' := [(4, .int (fX11_isWord a0 (495723311219 : Int64) r_3)), (0, .ref (ad a0)), (1, .int y1), (2, .int y2), (3, .int y3)]) rfl ?_
    exact g_perm [1, 2, 4, 0] rfl (wX11_bookLine_s106 X a0 h0 y1 y3 (fX11_isWord a0 (495723311219 : Int64) r_3) r_3 r ho hF)
  · rw [if_neg c_5] at hF
    refine g_aload_n X dX11_bookLine_63 0 rfl rfl ?_
    refine g_getR (f := 4) X dX11_bookLine_64 flX11_40 rfl rfl h0 ?_
    refine g_iload_n X dX11_bookLine_67 1 rfl rfl ?_
    refine g_iconst (v := 2) X dX11_bookLine_68 (by decide) ?_
    obtain ⟨e_19, hF⟩ := oguard hF
    refine g_iast X dX11_bookLine_69 kd_31 (on_11_8 h0) e_19 ?_
    exact g_perm [0, 1] rfl (wX11_bookLine_s70 X a0 h0 y1 (sA r_3 31 (a0 + 4) y1.toNatClampNeg (2 : Int32)) r ho hF)
theorem wX11_bookLine_s49 {z : Mx} {ad : Nat → Nat} {o : Option Value × St} (X : CxOk z ad RX11 cX11_bookLine 5 (some .boolean) 4) (a0 : Nat) (h0 : KT a0 = 11)  (t0 : Int32)   (S : St) (r : (Int32 × St)) (ho : o = (some (.int r.1), r.2)) (hF : fX11_bookLine_s49 a0  t0 S = some r) : GW z ad o S 49 [] [.int t0] := by
  unfold fX11_bookLine_s49 at hF
  have hF := Option.some.inj hF
  subst hF
  exact g_zretN X dX11_bookLine_49 ho
theorem wX11_bookLine_s35 {z : Mx} {ad : Nat → Nat} {o : Option Value × St} (X : CxOk z ad RX11 cX11_bookLine 5 (some .boolean) 4) (a0 : Nat) (h0 : KT a0 = 11) (y1 : Int32) (y2 : Int32)    (S : St) (r : (Int32 × St)) (ho : o = (some (.int r.1), r.2)) (hF : fX11_bookLine_s35 a0 y1 y2  S = some r) : GW z ad o S 35 [(0, .ref (ad a0)), (1, .int y1), (2, .int y2)] [] := by
  unfold fX11_bookLine_s35 at hF
  refine g_aload_n X dX11_bookLine_35 0 rfl rfl ?_
  refine g_getI X dX11_bookLine_36 flX11_385 rfl h0 ?_
  refine g_bipush (v := 40) X dX11_bookLine_39 (by decide) ?_
  refine g_icmp_ne (tgt := 50) X dX11_bookLine_41 (by decide) (fun c_2 => ?_) (fun c_2 => ?_)
  · rw [if_neg c_2] at hF
    refine g_aload_n X dX11_bookLine_50 0 rfl rfl ?_
    refine g_getI X dX11_bookLine_51 flX11_177 rfl h0 ?_
    refine g_istore_n X dX11_bookLine_54 rfl (by decide) (lv' := [(3, .int (gI S 11 18 a0)), (0, .ref (ad a0)), (1, .int y1), (2, .int y2)]) rfl ?_
    exact g_perm [1, 2, 3, 0] rfl (wX11_bookLine_s55 X a0 h0 y1 y2 (gI S 11 18 a0) S r ho hF)
  · rw [if_pos c_2] at hF
    refine g_aload_n X dX11_bookLine_44 0 rfl rfl ?_
    refine g_iconst (v := 4) X dX11_bookLine_45 (by decide) ?_
    refine g_callVi (As := [.int (4 : Int32)]) X dX11_bookLine_46 mlX11_167 (fun l D cyy => tX11_bad (cx_inj X) l D cyy a0 (4 : Int32) h0 S) h0 (by decide) rfl rfl (Nat.le_of_ble_eq_true rfl) ?_
    exact g_perm [] rfl (wX11_bookLine_s49 X a0 h0 ((fX11_bad a0 (4 : Int32) S).1) ((fX11_bad a0 (4 : Int32) S).2) r ho hF)
theorem wX11_bookLine_s30 {z : Mx} {ad : Nat → Nat} {o : Option Value × St} (X : CxOk z ad RX11 cX11_bookLine 5 (some .boolean) 4) (a0 : Nat) (h0 : KT a0 = 11) (y1 : Int32) (y2 : Int32) (t0 : Int32)   (S : St) (r : (Int32 × St)) (ho : o = (some (.int r.1), r.2)) (hF : fX11_bookLine_s30 a0 y1 y2 t0 S = some r) : GW z ad o S 30 [(0, .ref (ad a0)), (1, .int y1), (2, .int y2)] [.int t0] := by
  unfold fX11_bookLine_s30 at hF
  refine g_if_ne (tgt := 35) X dX11_bookLine_30 (by decide) (fun c_26 => ?_) (fun c_26 => ?_)
  · rw [if_neg c_26] at hF
    exact (wX11_bookLine_s35 X a0 h0 y1 y2 S r ho hF)
  · rw [if_pos c_26] at hF
    refine g_iconst (v := 0) X dX11_bookLine_33 (by decide) ?_
    have hF := Option.some.inj hF
    subst hF
    exact g_zret X dX11_bookLine_34 (by decide) ho
theorem wX11_bookLine_s15 {z : Mx} {ad : Nat → Nat} {o : Option Value × St} (X : CxOk z ad RX11 cX11_bookLine 5 (some .boolean) 4) (a0 : Nat) (h0 : KT a0 = 11) (y1 : Int32) (y2 : Int32)    (S : St) (r : (Int32 × St)) (ho : o = (some (.int r.1), r.2)) (hF : fX11_bookLine_s15 a0 y1 y2  S = some r) : GW z ad o S 15 [(0, .ref (ad a0)), (1, .int y1), (2, .int y2)] [] := by
  unfold fX11_bookLine_s15 at hF
  refine g_iload_n X dX11_bookLine_15 2 rfl rfl ?_
  refine g_if_ne (tgt := 35) X dX11_bookLine_16 (by decide) (fun c_1 => ?_) (fun c_1 => ?_)
  · rw [if_neg c_1] at hF
    exact (wX11_bookLine_s35 X a0 h0 y1 y2 S r ho hF)
  · rw [if_pos c_1] at hF
    refine g_aload_n X dX11_bookLine_19 0 rfl rfl ?_
    refine g_iconst (v := 0) X dX11_bookLine_20 (by decide) ?_
    refine g_aload_n X dX11_bookLine_21 0 rfl rfl ?_
    refine g_getR (f := 2) X dX11_bookLine_22 flX11_33 rfl rfl h0 ?_
    refine g_iconst (v := 0) X dX11_bookLine_25 (by decide) ?_
    refine g_ialdK (j := 0) X dX11_bookLine_26 kd_29 (on_11_6 h0) (by decide) (by decide) ?_
    obtain ⟨r_24, q_25, hF⟩ := obind hF
    refine g_callVi (As := [.int (0 : Int32), .int (gA S 29 (a0 + 2) 0)]) X dX11_bookLine_27 mlX11_192 (fun l D cyy => tX11_looksAt (cx_inj X) l D cyy a0 (0 : Int32) (gA S 29 (a0 + 2) 0) h0 S r_24 q_25) h0 (by decide) rfl rfl (Nat.le_of_ble_eq_true rfl) ?_
    exact (wX11_bookLine_s30 X a0 h0 y1 y2 r_24.1 r_24.2 r ho hF)
theorem wX11_bookLine_s7 {z : Mx} {ad : Nat → Nat} {o : Option Value × St} (X : CxOk z ad RX11 cX11_bookLine 5 (some .boolean) 4) (a0 : Nat) (h0 : KT a0 = 11) (y1 : Int32)    (S : St) (r : (Int32 × St)) (ho : o = (some (.int r.1), r.2)) (hF : fX11_bookLine_s7 a0 y1  S = some r) : GW z ad o S 7 [(0, .ref (ad a0)), (1, .int y1)] [] := by
  unfold fX11_bookLine_s7 at hF
  refine g_aload_n X dX11_bookLine_7 0 rfl rfl ?_
  refine g_ldc2 (v := 6578553) X dX11_bookLine_8 (inr_7 _ (List.mem_of_getElem? (i := 16) rfl)) ?_
  refine g_callVi (As := [.long (6578553 : Int64)]) X dX11_bookLine_11 mlX11_195 (fun l D cyy => tX11_isWord (cx_inj X) l D cyy a0 (6578553 : Int64) h0 S) h0 (by decide) rfl rfl (Nat.le_of_ble_eq_true rfl) ?_
  refine g_istore_n X dX11_bookLine_14 rfl (by decide) (lv' := [(2, .int (fX11_isWord a0 (6578553 : Int64) S)), (0, .ref (ad a0)), (1, .int y1)]) rfl ?_
  exact g_perm [1, 2, 0] rfl (wX11_bookLine_s15 X a0 h0 y1 (fX11_isWord a0 (6578553 : Int64) S) S r ho hF)
theorem wX11_bookLine {z : Mx} {ad : Nat → Nat} {o : Option Value × St} (X : CxOk z ad RX11 cX11_bookLine 5 (some .boolean) 4) (a0 : Nat) (h0 : KT a0 = 11) (S : St) (r : (Int32 × St)) (ho : o = (some (.int r.1), r.2)) (hF : fX11_bookLine a0 S = some r) : GW z ad o S 0 [(0, .ref (ad a0))] [] := by
  unfold fX11_bookLine at hF
  refine g_iconst (v := 3) X dX11_bookLine_0 (by decide) ?_
  refine g_aload_n X dX11_bookLine_1 0 rfl rfl ?_
  refine g_getI X dX11_bookLine_2 flX11_385 rfl h0 ?_
  refine g_imul X dX11_bookLine_5 ?_
  refine g_istore_n X dX11_bookLine_6 rfl (by decide) (lv' := [(1, .int ((3 : Int32) * (gI S 11 33 a0))), (0, .ref (ad a0))]) rfl ?_
  exact g_perm [1, 0] rfl (wX11_bookLine_s7 X a0 h0 ((3 : Int32) * (gI S 11 33 a0)) S r ho hF)
theorem tX11_bookLine {ad : Nat → Nat} (hI : Inj ad) (l : Launch) (D : va_G) (cyy : Nat → ClassId) (a0 : Nat) (h0 : KT a0 = 11) (S : St) (r : (Int32 × St)) (hF : fX11_bookLine a0 S = some r) : OkM l yX11_bookLine cX11_bookLine 5 (some .boolean) 4 ad D cyy [.ref (ad a0)] S (some (.int r.1), r.2) := okM_of hI (by decide) (inr_57 _ (List.mem_of_getElem? (i := 21) rfl)) (by show _ ≤ 5; exact Nat.le_of_ble_eq_true rfl) (fun z X => wX11_bookLine X a0 h0 S r rfl hF)
def fX11_does_s71 (a0 : Nat) (x1 : Int32) (x2 : Int32) (x3 : Int32)  (t0 : Int32) (S : St) : Option (Int32 × St) :=
  some ((0 : Int32), S)
def fX11_does (a0 : Nat) (x1 : Int32) (x2 : Int32) (x3 : Int32) (S : St) : Option (Int32 × St) :=
  if x1 = 0 then ((fX11_whyHold a0 x2 S).bind fun r_11 =>
  if r_11 ≤ 0 then ((fX11_holds a0 x2 S).bind fun r_14 =>
  some ((0 : Int32), r_14)) else
  (some ((1 : Int32), S))) else
  (if x1 = (1 : Int32) then ((fX11_whySkip a0 x2 x3 S).bind fun r_6 =>
  if r_6 ≤ 0 then ((fX11_skips a0 x2 x3 S).bind fun r_9 =>
  some ((0 : Int32), r_9)) else
  (some ((11 : Int32), S))) else
  (if ((gA S 29 (a0 + 2) 52) + x2) ≤ (10000 : Int32) then ((fX11_goesOn a0 x2 S).bind fun r_4 =>
  fX11_does_s71 a0 x1 x2 x3 r_4.1 r_4.2) else
  (some ((21 : Int32), S))))
theorem wX11_does_s71 {z : Mx} {ad : Nat → Nat} {o : Option Value × St} (X : CxOk z ad RX11 cX11_does 4 (some .int) 5) (a0 : Nat) (x1 : Int32) (x2 : Int32) (x3 : Int32) (h0 : KT a0 = 11)  (t0 : Int32)   (S : St) (r : (Int32 × St)) (ho : o = (some (.int r.1), r.2)) (hF : fX11_does_s71 a0 x1 x2 x3  t0 S = some r) : GW z ad o S 71 [] [.int t0] := by
  unfold fX11_does_s71 at hF
  refine g_pop (a := .int t0) X dX11_does_71 rfl ?_
  refine g_iconst (v := 0) X dX11_does_72 (by decide) ?_
  have hF := Option.some.inj hF
  subst hF
  exact g_iret X dX11_does_73 ho
theorem wX11_does {z : Mx} {ad : Nat → Nat} {o : Option Value × St} (X : CxOk z ad RX11 cX11_does 4 (some .int) 5) (a0 : Nat) (x1 : Int32) (x2 : Int32) (x3 : Int32) (h0 : KT a0 = 11) (S : St) (r : (Int32 × St)) (ho : o = (some (.int r.1), r.2)) (hF : fX11_does a0 x1 x2 x3 S = some r) : GW z ad o S 0 [(0, .ref (ad a0)), (1, .int x1), (2, .int x2), (3, .int x3)] [] := by
  unfold fX11_does at hF
  refine g_iload_n X dX11_does_0 1 rfl rfl ?_
  refine g_if_ne (tgt := 22) X dX11_does_1 (by decide) (fun c_1 => ?_) (fun c_1 => ?_)
  · rw [if_neg c_1] at hF
    refine g_iload_n X dX11_does_22 1 rfl rfl ?_
    refine g_iconst (v := 1) X dX11_does_23 (by decide) ?_
    refine g_icmp_ne (tgt := 48) X dX11_does_24 (by decide) (fun c_2 => ?_) (fun c_2 => ?_)
    · rw [if_neg c_2] at hF
      refine g_aload_n X dX11_does_48 0 rfl rfl ?_
      refine g_getR (f := 2) X dX11_does_49 flX11_33 rfl rfl h0 ?_
      refine g_bipush (v := 52) X dX11_does_52 (by decide) ?_
      refine g_ialdK (j := 52) X dX11_does_54 kd_29 (on_11_6 h0) (by decide) (by decide) ?_
      refine g_iload_n X dX11_does_55 2 rfl rfl ?_
      refine g_iadd X dX11_does_56 ?_
      refine g_sipush (v := 10000) X dX11_does_57 (by decide) ?_
      refine g_icmp_le (tgt := 66) X dX11_does_60 (by decide) (fun c_3 => ?_) (fun c_3 => ?_)
      · rw [if_pos c_3] at hF
        refine g_aload_n X dX11_does_66 0 rfl rfl ?_
        refine g_iload_n X dX11_does_67 2 rfl rfl ?_
        obtain ⟨r_4, q_5, hF⟩ := obind hF
        refine g_callVi (As := [.int x2]) X dX11_does_68 mlX11_313 (fun l D cyy => tX11_goesOn (cx_inj X) l D cyy a0 x2 h0 S r_4 q_5) h0 (by decide) rfl rfl (Nat.le_of_ble_eq_true rfl) ?_
        exact g_perm [] rfl (wX11_does_s71 X a0 x1 x2 x3 h0 r_4.1 r_4.2 r ho hF)
      · rw [if_neg c_3] at hF
        refine g_bipush (v := 21) X dX11_does_63 (by decide) ?_
        have hF := Option.some.inj hF
        subst hF
        exact g_iret X dX11_does_65 ho
    · rw [if_pos c_2] at hF
      refine g_aload_n X dX11_does_27 0 rfl rfl ?_
      refine g_iload_n X dX11_does_28 2 rfl rfl ?_
      refine g_iload_n X dX11_does_29 3 rfl rfl ?_
      obtain ⟨r_6, q_7, hF⟩ := obind hF
      refine g_callVi (As := [.int x2, .int x3]) X dX11_does_30 mlX11_306 (fun l D cyy => tX11_whySkip (cx_inj X) l D cyy a0 x2 x3 h0 S r_6 q_7) h0 (by decide) rfl rfl (Nat.le_of_ble_eq_true rfl) ?_
      refine g_if_le (tgt := 39) X dX11_does_33 (by decide) (fun c_8 => ?_) (fun c_8 => ?_)
      · rw [if_pos c_8] at hF
        refine g_aload_n X dX11_does_39 0 rfl rfl ?_
        refine g_iload_n X dX11_does_40 2 rfl rfl ?_
        refine g_iload_n X dX11_does_41 3 rfl rfl ?_
        obtain ⟨r_9, q_10, hF⟩ := obind hF
        refine g_callVv (As := [.int x2, .int x3]) X dX11_does_42 mlX11_309 (fun l D cyy => tX11_skips (cx_inj X) l D cyy a0 x2 x3 h0 S r_9 q_10) h0 (by decide) rfl rfl (Nat.le_of_ble_eq_true rfl) ?_
        refine g_goto (tgt := 72) X dX11_does_45 (by decide) ?_
        refine g_iconst (v := 0) X dX11_does_72 (by decide) ?_
        have hF := Option.some.inj hF
        subst hF
        exact g_iret X dX11_does_73 ho
      · rw [if_neg c_8] at hF
        refine g_bipush (v := 11) X dX11_does_36 (by decide) ?_
        have hF := Option.some.inj hF
        subst hF
        exact g_iret X dX11_does_38 ho
  · rw [if_pos c_1] at hF
    refine g_aload_n X dX11_does_4 0 rfl rfl ?_
    refine g_iload_n X dX11_does_5 2 rfl rfl ?_
    obtain ⟨r_11, q_12, hF⟩ := obind hF
    refine g_callVi (As := [.int x2]) X dX11_does_6 mlX11_297 (fun l D cyy => tX11_whyHold (cx_inj X) l D cyy a0 x2 h0 S r_11 q_12) h0 (by decide) rfl rfl (Nat.le_of_ble_eq_true rfl) ?_
    refine g_if_le (tgt := 14) X dX11_does_9 (by decide) (fun c_13 => ?_) (fun c_13 => ?_)
    · rw [if_pos c_13] at hF
      refine g_aload_n X dX11_does_14 0 rfl rfl ?_
      refine g_iload_n X dX11_does_15 2 rfl rfl ?_
      obtain ⟨r_14, q_15, hF⟩ := obind hF
      refine g_callVv (As := [.int x2]) X dX11_does_16 mlX11_303 (fun l D cyy => tX11_holds (cx_inj X) l D cyy a0 x2 h0 S r_14 q_15) h0 (by decide) rfl rfl (Nat.le_of_ble_eq_true rfl) ?_
      refine g_goto (tgt := 72) X dX11_does_19 (by decide) ?_
      refine g_iconst (v := 0) X dX11_does_72 (by decide) ?_
      have hF := Option.some.inj hF
      subst hF
      exact g_iret X dX11_does_73 ho
    · rw [if_neg c_13] at hF
      refine g_iconst (v := 1) X dX11_does_12 (by decide) ?_
      have hF := Option.some.inj hF
      subst hF
      exact g_iret X dX11_does_13 ho
theorem tX11_does {ad : Nat → Nat} (hI : Inj ad) (l : Launch) (D : va_G) (cyy : Nat → ClassId) (a0 : Nat) (x1 : Int32) (x2 : Int32) (x3 : Int32) (h0 : KT a0 = 11) (S : St) (r : (Int32 × St)) (hF : fX11_does a0 x1 x2 x3 S = some r) : OkM l yX11_does cX11_does 4 (some .int) 5 ad D cyy [.ref (ad a0), .int x1, .int x2, .int x3] S (some (.int r.1), r.2) := okM_of hI (by decide) (inr_58 _ (List.mem_of_getElem? (i := 1) rfl)) (by show _ ≤ 4; exact Nat.le_of_ble_eq_true rfl) (fun z X => wX11_does X a0 x1 x2 x3 h0 S r rfl hF)
def fX11_book_s276 (a0 : Nat) (x1 : Int32) (y2 : Int32)  (S : St) : Option (Int32 × St) :=
  if x1 = 0 then ((fX11_back a0 S).bind fun r_11 =>
  some (y2, r_11)) else
  (some (y2, S))
def fX11_book_s270 (k242 : Int32 → Int32 → St → Option (Int32 × St)) (a0 : Nat) (x1 : Int32) (y2 : Int32) (y3 : Int32)  (S : St) : Option (Int32 × St) :=
  k242 y2 (y3 + (1 : Int32)) S
def fX11_book_s242 (k242 : Int32 → Int32 → St → Option (Int32 × St)) (a0 : Nat) (x1 : Int32) (y2 : Int32) (y3 : Int32)  (S : St) : Option (Int32 × St) :=
  if (17 : Int32) ≤ y3 then (fX11_book_s276 a0 x1 y2 S) else
  (if (y3 < 0 ∨ 17 ≤ y3.toNatClampNeg) then none else
  if ((((17 : Int32) * ((gI S 11 23 a0) - (1 : Int32))) + y3) < 0 ∨ 136 ≤ (((17 : Int32) * ((gI S 11 23 a0) - (1 : Int32))) + y3).toNatClampNeg) then none else
  fX11_book_s270 k242 a0 x1 y2 y3 (sA S 34 (a0 + 7) ((((17 : Int32) * ((gI S 11 23 a0) - (1 : Int32))) + y3).toNatClampNeg) (gA S 35 (a0 + 8) y3.toNatClampNeg)))
def fX11_book_h242 (a0 : Nat) (x1 : Int32) : Nat → Int32 → Int32 → St → Option (Int32 × St)
  | 0, _, _, _ => none
  | n + 1, y2, y3, S => fX11_book_s242 (fX11_book_h242 a0 x1 n) a0 x1 y2 y3 S
def fX11_book_s222 (a0 : Nat) (x1 : Int32) (y2 : Int32)  (S : St) : Option (Int32 × St) :=
  if x1 = (1 : Int32) then (if (gA S 37 (a0 + 10) 1) ≤ 0 then (fX11_book_s276 a0 x1 y2 S) else
  ((fX11_keep a0 S).bind fun r_14 =>
  fX11_book_h242 a0 x1 NN y2 (0 : Int32) r_14)) else
  (fX11_book_s276 a0 x1 y2 S)
def fX11_book_s217 (a0 : Nat) (x1 : Int32) (y2 : Int32)  (S : St) : Option (Int32 × St) :=
  fX11_book_s222 a0 x1 y2 (sI S 11 35 a0 (1 : Int32))
def fX11_book_s204 (a0 : Nat) (x1 : Int32) (y2 : Int32)  (S : St) : Option (Int32 × St) :=
  fX11_book_s217 a0 x1 y2 (sA S 37 (a0 + 10) 3 (gA S 29 (a0 + 2) 53))
def fX11_book_s191 (a0 : Nat) (x1 : Int32) (y2 : Int32)  (S : St) : Option (Int32 × St) :=
  fX11_book_s204 a0 x1 y2 (sA S 37 (a0 + 10) 2 (gA S 29 (a0 + 2) 52))
def fX11_book_s185 (k111 : Int32 → Int32 → St → Option (Int32 × St)) (a0 : Nat) (x1 : Int32) (y2 : Int32) (y3 : Int32)  (S : St) : Option (Int32 × St) :=
  k111 y2 (y3 + (1 : Int32)) S
def fX11_book_s161 (k111 : Int32 → Int32 → St → Option (Int32 × St)) (a0 : Nat) (x1 : Int32) (y2 : Int32) (y3 : Int32)  (S : St) : Option (Int32 × St) :=
  if (gA S 37 (a0 + 10) 0) ≤ 0 then (fX11_book_s185 k111 a0 x1 y2 y3 (sA S 37 (a0 + 10) 1 ((gA S 37 (a0 + 10) 1) + (1 : Int32)))) else
  (fX11_book_s185 k111 a0 x1 y3 y3 S)
def fX11_book_s160 (k111 : Int32 → Int32 → St → Option (Int32 × St)) (a0 : Nat) (x1 : Int32) (y2 : Int32) (y3 : Int32) (t0 : Nat) (t1 : Int32) (t2 : Int32) (S : St) : Option (Int32 × St) :=
  if (t1 < 0 ∨ 4 ≤ t1.toNatClampNeg) then none else
  fX11_book_s161 k111 a0 x1 y2 y3 (sA S 37 t0 t1.toNatClampNeg t2)
def fX11_book_s111 (k111 : Int32 → Int32 → St → Option (Int32 × St)) (a0 : Nat) (x1 : Int32) (y2 : Int32) (y3 : Int32)  (S : St) : Option (Int32 × St) :=
  if (gI S 11 33 a0) ≤ y3 then (fX11_book_s191 a0 x1 y2 S) else
  (if 0 ≤ y2 then (fX11_book_s191 a0 x1 y2 S) else
  (if (((3 : Int32) * y3) < 0 ∨ 135 ≤ ((3 : Int32) * y3).toNatClampNeg) then none else
  if ((((3 : Int32) * y3) + (1 : Int32)) < 0 ∨ 135 ≤ (((3 : Int32) * y3) + (1 : Int32)).toNatClampNeg) then none else
  if ((((3 : Int32) * y3) + (2 : Int32)) < 0 ∨ 135 ≤ (((3 : Int32) * y3) + (2 : Int32)).toNatClampNeg) then none else
  (fX11_does a0 (gA S 31 (a0 + 4) (((3 : Int32) * y3).toNatClampNeg)) (gA S 31 (a0 + 4) ((((3 : Int32) * y3) + (1 : Int32)).toNatClampNeg)) (gA S 31 (a0 + 4) ((((3 : Int32) * y3) + (2 : Int32)).toNatClampNeg)) S).bind fun r_23 =>
  fX11_book_s160 k111 a0 x1 y2 y3 (a0 + 10) (0 : Int32) r_23.1 r_23.2))
def fX11_book_h111 (a0 : Nat) (x1 : Int32) : Nat → Int32 → Int32 → St → Option (Int32 × St)
  | 0, _, _, _ => none
  | n + 1, y2, y3, S => fX11_book_s111 (fX11_book_h111 a0 x1 n) a0 x1 y2 y3 S
def fX11_book_s101 (k89 : Int32 → St → Option (Int32 × St)) (a0 : Nat) (x1 : Int32) (y2 : Int32)  (S : St) : Option (Int32 × St) :=
  k89 (y2 + (1 : Int32)) S
def fX11_book_s89 (k89 : Int32 → St → Option (Int32 × St)) (a0 : Nat) (x1 : Int32) (y2 : Int32)  (S : St) : Option (Int32 × St) :=
  if (4 : Int32) ≤ y2 then (fX11_book_h111 a0 x1 NN (-1 : Int32) (0 : Int32) S) else
  (if (y2 < 0 ∨ 4 ≤ y2.toNatClampNeg) then none else
  fX11_book_s101 k89 a0 x1 y2 (sA S 37 (a0 + 10) y2.toNatClampNeg (0 : Int32)))
def fX11_book_h89 (a0 : Nat) (x1 : Int32) : Nat → Int32 → St → Option (Int32 × St)
  | 0, _, _ => none
  | n + 1, y2, S => fX11_book_s89 (fX11_book_h89 a0 x1 n) a0 x1 y2 S
def fX11_book_s80 (k39 : St → Option (Int32 × St)) (a0 : Nat) (x1 : Int32)   (S : St) : Option (Int32 × St) :=
  k39  S
def fX11_book_s59 (k39 : St → Option (Int32 × St)) (a0 : Nat) (x1 : Int32)  (t0 : Int32) (S : St) : Option (Int32 × St) :=
  if t0 = 0 then (some (((-2 : Int32) - (gI S 11 16 a0)), S)) else
  (fX11_book_s80 k39 a0 x1 (sI S 11 33 a0 ((gI S 11 33 a0) + (1 : Int32))))
def fX11_book_s50 (k39 : St → Option (Int32 × St)) (a0 : Nat) (x1 : Int32)  (t0 : Int32) (S : St) : Option (Int32 × St) :=
  if t0 = 0 then (some (((-2 : Int32) - (gI S 11 16 a0)), S)) else
  ((fX11_sign a0 (59 : Int32) S).bind fun r_31 =>
  fX11_book_s59 k39 a0 x1 r_31.1 r_31.2)
def fX11_book_s39 (k39 : St → Option (Int32 × St)) (a0 : Nat) (x1 : Int32)   (S : St) : Option (Int32 × St) :=
  if (gI S 11 11 a0) = 0 then ((fX11_tries a0 S).bind fun r_5 =>
  fX11_book_h89 a0 x1 NN (0 : Int32) r_5) else
  ((fX11_bookLine a0 S).bind fun r_28 =>
  fX11_book_s50 k39 a0 x1 r_28.1 r_28.2)
def fX11_book_h39 (a0 : Nat) (x1 : Int32) : Nat → St → Option (Int32 × St)
  | 0, _ => none
  | n + 1, S => fX11_book_s39 (fX11_book_h39 a0 x1 n) a0 x1  S
def fX11_book_s35 (a0 : Nat) (x1 : Int32)   (S : St) : Option (Int32 × St) :=
  (fX11_step a0 S).bind fun r_2 =>
  fX11_book_h39 a0 x1 NN r_2
def fX11_book_s30 (a0 : Nat) (x1 : Int32)   (S : St) : Option (Int32 × St) :=
  fX11_book_s35 a0 x1 (sI S 11 33 a0 (0 : Int32))
def fX11_book_s25 (a0 : Nat) (x1 : Int32)   (S : St) : Option (Int32 × St) :=
  fX11_book_s30 a0 x1 (sI S 11 15 a0 (0 : Int32))
def fX11_book_s5 (a0 : Nat) (x1 : Int32)   (S : St) : Option (Int32 × St) :=
  if (fX11_isIn x1 (0 : Int32) (1 : Int32) S) = 0 then (some ((-1000 : Int32), S)) else
  (fX11_book_s25 a0 x1 (fX11_taken a0 (400 : Int32) S))
def fX11_book (a0 : Nat) (x1 : Int32) (S : St) : Option (Int32 × St) :=
  fX11_book_s5 a0 x1 (sI S 11 0 a0 (0 : Int32))
theorem wX11_book_s276 {z : Mx} {ad : Nat → Nat} {o : Option Value × St} (X : CxOk z ad RX11 cX11_book 4 (some .int) 6) (a0 : Nat) (x1 : Int32) (h0 : KT a0 = 11) (y2 : Int32)    (S : St) (r : (Int32 × St)) (ho : o = (some (.int r.1), r.2)) (hF : fX11_book_s276 a0 x1 y2  S = some r) : GW z ad o S 276 [(0, .ref (ad a0)), (1, .int x1), (2, .int y2)] [] := by
  unfold fX11_book_s276 at hF
  refine g_iload_n X dX11_book_276 1 rfl rfl ?_
  refine g_if_ne (tgt := 284) X dX11_book_277 (by decide) (fun c_10 => ?_) (fun c_10 => ?_)
  · rw [if_neg c_10] at hF
    refine g_iload_n X dX11_book_284 2 rfl rfl ?_
    have hF := Option.some.inj hF
    subst hF
    exact g_iret X dX11_book_285 ho
  · rw [if_pos c_10] at hF
    refine g_aload_n X dX11_book_280 0 rfl rfl ?_
    obtain ⟨r_11, q_12, hF⟩ := obind hF
    refine g_callVv (As := []) X dX11_book_281 mlX11_382 (fun l D cyy => tX11_back (cx_inj X) l D cyy a0 h0 S r_11 q_12) h0 (by decide) rfl rfl (Nat.le_of_ble_eq_true rfl) ?_
    refine g_iload_n X dX11_book_284 2 rfl rfl ?_
    have hF := Option.some.inj hF
    subst hF
    exact g_iret X dX11_book_285 ho
theorem wX11_book_s270 {z : Mx} {ad : Nat → Nat} {o : Option Value × St} (X : CxOk z ad RX11 cX11_book 4 (some .int) 6) (a0 : Nat) (x1 : Int32) (h0 : KT a0 = 11) (y2 : Int32) (y3 : Int32)  (k242 : Int32 → Int32 → St → Option (Int32 × St))   (S : St) (r : (Int32 × St)) (ho : o = (some (.int r.1), r.2)) (hk242 : ∀ (y2 : Int32) (y3 : Int32) (S : St), k242 y2 y3 S = some r → GW z ad o S 242 [(0, .ref (ad a0)), (1, .int x1), (2, .int y2), (3, .int y3)] []) (hF : fX11_book_s270 k242 a0 x1 y2 y3  S = some r) : GW z ad o S 270 [(0, .ref (ad a0)), (1, .int x1), (2, .int y2), (3, .int y3)] [] := by
  unfold fX11_book_s270 at hF
  refine g_iinc (v := (y3 + (1 : Int32))) X dX11_book_270 3 rfl rfl (by decide) (lv' := [(3, .int (y3 + (1 : Int32))), (0, .ref (ad a0)), (1, .int x1), (2, .int y2)]) rfl ?_
  refine g_goto (tgt := 242) X dX11_book_273 (by decide) ?_
  exact g_perm [1, 2, 3, 0] rfl (hk242 y2 (y3 + (1 : Int32)) S hF)
theorem wX11_book_s242 {z : Mx} {ad : Nat → Nat} {o : Option Value × St} (X : CxOk z ad RX11 cX11_book 4 (some .int) 6) (a0 : Nat) (x1 : Int32) (h0 : KT a0 = 11) (y2 : Int32) (y3 : Int32)  (k242 : Int32 → Int32 → St → Option (Int32 × St))   (S : St) (r : (Int32 × St)) (ho : o = (some (.int r.1), r.2)) (hk242 : ∀ (y2 : Int32) (y3 : Int32) (S : St), k242 y2 y3 S = some r → GW z ad o S 242 [(0, .ref (ad a0)), (1, .int x1), (2, .int y2), (3, .int y3)] []) (hF : fX11_book_s242 k242 a0 x1 y2 y3  S = some r) : GW z ad o S 242 [(0, .ref (ad a0)), (1, .int x1), (2, .int y2), (3, .int y3)] [] := by
  unfold fX11_book_s242 at hF
  refine g_iload_n X dX11_book_242 3 rfl rfl ?_
  refine g_bipush (v := 17) X dX11_book_243 (by decide) ?_
  refine g_icmp_ge (tgt := 276) X dX11_book_245 (by decide) (fun c_16 => ?_) (fun c_16 => ?_)
  · rw [if_pos c_16] at hF
    exact g_perm [0, 1, 2] rfl (wX11_book_s276 X a0 x1 h0 y2 S r ho hF)
  · rw [if_neg c_16] at hF
    refine g_aload_n X dX11_book_248 0 rfl rfl ?_
    refine g_getR (f := 7) X dX11_book_249 flX11_50 rfl rfl h0 ?_
    refine g_bipush (v := 17) X dX11_book_252 (by decide) ?_
    refine g_aload_n X dX11_book_254 0 rfl rfl ?_
    refine g_getI X dX11_book_255 flX11_233 rfl h0 ?_
    refine g_iconst (v := 1) X dX11_book_258 (by decide) ?_
    refine g_isub X dX11_book_259 ?_
    refine g_imul X dX11_book_260 ?_
    refine g_iload_n X dX11_book_261 3 rfl rfl ?_
    refine g_iadd X dX11_book_262 ?_
    refine g_aload_n X dX11_book_263 0 rfl rfl ?_
    refine g_getR (f := 8) X dX11_book_264 flX11_53 rfl rfl h0 ?_
    refine g_iload_n X dX11_book_267 3 rfl rfl ?_
    obtain ⟨e_17, hF⟩ := oguard hF
    refine g_iald X dX11_book_268 kd_35 (on_11_22 h0) e_17 ?_
    obtain ⟨e_18, hF⟩ := oguard hF
    refine g_iast X dX11_book_269 kd_34 (on_11_21 h0) e_18 ?_
    exact (wX11_book_s270 X a0 x1 h0 y2 y3 k242 (sA S 34 (a0 + 7) ((((17 : Int32) * ((gI S 11 23 a0) - (1 : Int32))) + y3).toNatClampNeg) (gA S 35 (a0 + 8) y3.toNatClampNeg)) r ho hk242 hF)
theorem wX11_book_h242 {z : Mx} {ad : Nat → Nat} {o : Option Value × St} (X : CxOk z ad RX11 cX11_book 4 (some .int) 6) (a0 : Nat) (x1 : Int32) (h0 : KT a0 = 11)  (r : (Int32 × St)) (ho : o = (some (.int r.1), r.2)) : ∀ (n : Nat) (y2 : Int32) (y3 : Int32) (S : St), fX11_book_h242 a0 x1 n y2 y3 S = some r → GW z ad o S 242 [(0, .ref (ad a0)), (1, .int x1), (2, .int y2), (3, .int y3)] [] := by
  intro n
  induction n with
  | zero => intro y2 y3 S  hF; cases hF
  | succ n ih => intro y2 y3 S  hF; exact wX11_book_s242 X a0 x1 h0 y2 y3 (fX11_book_h242 a0 x1 n)  S r ho ih hF
theorem wX11_book_s222 {z : Mx} {ad : Nat → Nat} {o : Option Value × St} (X : CxOk z ad RX11 cX11_book 4 (some .int) 6) (a0 : Nat) (x1 : Int32) (h0 : KT a0 = 11) (y2 : Int32)    (S : St) (r : (Int32 × St)) (ho : o = (some (.int r.1), r.2)) (hF : fX11_book_s222 a0 x1 y2  S = some r) : GW z ad o S 222 [(0, .ref (ad a0)), (1, .int x1), (2, .int y2)] [] := by
  unfold fX11_book_s222 at hF
  refine g_iload_n X dX11_book_222 1 rfl rfl ?_
  refine g_iconst (v := 1) X dX11_book_223 (by decide) ?_
  refine g_icmp_ne (tgt := 276) X dX11_book_224 (by decide) (fun c_9 => ?_) (fun c_9 => ?_)
  · rw [if_neg c_9] at hF
    exact (wX11_book_s276 X a0 x1 h0 y2 S r ho hF)
  · rw [if_pos c_9] at hF
    refine g_aload_n X dX11_book_227 0 rfl rfl ?_
    refine g_getR (f := 10) X dX11_book_228 flX11_71 rfl rfl h0 ?_
    refine g_iconst (v := 1) X dX11_book_231 (by decide) ?_
    refine g_ialdK (j := 1) X dX11_book_232 kd_37 (on_11_34 h0) (by decide) (by decide) ?_
    refine g_if_le (tgt := 276) X dX11_book_233 (by decide) (fun c_13 => ?_) (fun c_13 => ?_)
    · rw [if_pos c_13] at hF
      exact (wX11_book_s276 X a0 x1 h0 y2 S r ho hF)
    · rw [if_neg c_13] at hF
      refine g_aload_n X dX11_book_236 0 rfl rfl ?_
      obtain ⟨r_14, q_15, hF⟩ := obind hF
      refine g_callVv (As := []) X dX11_book_237 mlX11_300 (fun l D cyy => tX11_keep (cx_inj X) l D cyy a0 h0 S r_14 q_15) h0 (by decide) rfl rfl (Nat.le_of_ble_eq_true rfl) ?_
      refine g_iconst (v := 0) X dX11_book_240 (by decide) ?_
      refine g_istore_n X dX11_book_241 rfl (by decide) (lv' := [(3, .int (0 : Int32)), (0, .ref (ad a0)), (1, .int x1), (2, .int y2)]) rfl ?_
      exact g_perm [1, 2, 3, 0] rfl (wX11_book_h242 X a0 x1 h0 r ho NN y2 (0 : Int32) r_14 hF)
theorem wX11_book_s217 {z : Mx} {ad : Nat → Nat} {o : Option Value × St} (X : CxOk z ad RX11 cX11_book 4 (some .int) 6) (a0 : Nat) (x1 : Int32) (h0 : KT a0 = 11) (y2 : Int32)    (S : St) (r : (Int32 × St)) (ho : o = (some (.int r.1), r.2)) (hF : fX11_book_s217 a0 x1 y2  S = some r) : GW z ad o S 217 [(0, .ref (ad a0)), (1, .int x1), (2, .int y2)] [] := by
  unfold fX11_book_s217 at hF
  refine g_aload_n X dX11_book_217 0 rfl rfl ?_
  refine g_iconst (v := 1) X dX11_book_218 (by decide) ?_
  refine g_putI X dX11_book_219 fpX11_395 rfl (by decide) (by decide) h0 ?_
  exact (wX11_book_s222 X a0 x1 h0 y2 (sI S 11 35 a0 (1 : Int32)) r ho hF)
theorem wX11_book_s204 {z : Mx} {ad : Nat → Nat} {o : Option Value × St} (X : CxOk z ad RX11 cX11_book 4 (some .int) 6) (a0 : Nat) (x1 : Int32) (h0 : KT a0 = 11) (y2 : Int32)    (S : St) (r : (Int32 × St)) (ho : o = (some (.int r.1), r.2)) (hF : fX11_book_s204 a0 x1 y2  S = some r) : GW z ad o S 204 [(0, .ref (ad a0)), (1, .int x1), (2, .int y2)] [] := by
  unfold fX11_book_s204 at hF
  refine g_aload_n X dX11_book_204 0 rfl rfl ?_
  refine g_getR (f := 10) X dX11_book_205 flX11_71 rfl rfl h0 ?_
  refine g_iconst (v := 3) X dX11_book_208 (by decide) ?_
  refine g_aload_n X dX11_book_209 0 rfl rfl ?_
  refine g_getR (f := 2) X dX11_book_210 flX11_33 rfl rfl h0 ?_
  refine g_bipush (v := 53) X dX11_book_213 (by decide) ?_
  refine g_ialdK (j := 53) X dX11_book_215 kd_29 (on_11_6 h0) (by decide) (by decide) ?_
  refine g_iastK (j := 3) X dX11_book_216 kd_37 (on_11_34 h0) (by decide) (by decide) ?_
  exact (wX11_book_s217 X a0 x1 h0 y2 (sA S 37 (a0 + 10) 3 (gA S 29 (a0 + 2) 53)) r ho hF)
theorem wX11_book_s191 {z : Mx} {ad : Nat → Nat} {o : Option Value × St} (X : CxOk z ad RX11 cX11_book 4 (some .int) 6) (a0 : Nat) (x1 : Int32) (h0 : KT a0 = 11) (y2 : Int32)    (S : St) (r : (Int32 × St)) (ho : o = (some (.int r.1), r.2)) (hF : fX11_book_s191 a0 x1 y2  S = some r) : GW z ad o S 191 [(0, .ref (ad a0)), (1, .int x1), (2, .int y2)] [] := by
  unfold fX11_book_s191 at hF
  refine g_aload_n X dX11_book_191 0 rfl rfl ?_
  refine g_getR (f := 10) X dX11_book_192 flX11_71 rfl rfl h0 ?_
  refine g_iconst (v := 2) X dX11_book_195 (by decide) ?_
  refine g_aload_n X dX11_book_196 0 rfl rfl ?_
  refine g_getR (f := 2) X dX11_book_197 flX11_33 rfl rfl h0 ?_
  refine g_bipush (v := 52) X dX11_book_200 (by decide) ?_
  refine g_ialdK (j := 52) X dX11_book_202 kd_29 (on_11_6 h0) (by decide) (by decide) ?_
  refine g_iastK (j := 2) X dX11_book_203 kd_37 (on_11_34 h0) (by decide) (by decide) ?_
  exact (wX11_book_s204 X a0 x1 h0 y2 (sA S 37 (a0 + 10) 2 (gA S 29 (a0 + 2) 52)) r ho hF)
theorem wX11_book_s185 {z : Mx} {ad : Nat → Nat} {o : Option Value × St} (X : CxOk z ad RX11 cX11_book 4 (some .int) 6) (a0 : Nat) (x1 : Int32) (h0 : KT a0 = 11) (y2 : Int32) (y3 : Int32)  (k111 : Int32 → Int32 → St → Option (Int32 × St))   (S : St) (r : (Int32 × St)) (ho : o = (some (.int r.1), r.2)) (hk111 : ∀ (y2 : Int32) (y3 : Int32) (S : St), k111 y2 y3 S = some r → GW z ad o S 111 [(0, .ref (ad a0)), (1, .int x1), (2, .int y2), (3, .int y3)] []) (hF : fX11_book_s185 k111 a0 x1 y2 y3  S = some r) : GW z ad o S 185 [(0, .ref (ad a0)), (1, .int x1), (2, .int y2), (3, .int y3)] [] := by
  unfold fX11_book_s185 at hF
  refine g_iinc (v := (y3 + (1 : Int32))) X dX11_book_185 3 rfl rfl (by decide) (lv' := [(3, .int (y3 + (1 : Int32))), (0, .ref (ad a0)), (1, .int x1), (2, .int y2)]) rfl ?_
  refine g_goto (tgt := 111) X dX11_book_188 (by decide) ?_
  exact g_perm [1, 2, 3, 0] rfl (hk111 y2 (y3 + (1 : Int32)) S hF)
theorem wX11_book_s161 {z : Mx} {ad : Nat → Nat} {o : Option Value × St} (X : CxOk z ad RX11 cX11_book 4 (some .int) 6) (a0 : Nat) (x1 : Int32) (h0 : KT a0 = 11) (y2 : Int32) (y3 : Int32)  (k111 : Int32 → Int32 → St → Option (Int32 × St))   (S : St) (r : (Int32 × St)) (ho : o = (some (.int r.1), r.2)) (hk111 : ∀ (y2 : Int32) (y3 : Int32) (S : St), k111 y2 y3 S = some r → GW z ad o S 111 [(0, .ref (ad a0)), (1, .int x1), (2, .int y2), (3, .int y3)] []) (hF : fX11_book_s161 k111 a0 x1 y2 y3  S = some r) : GW z ad o S 161 [(0, .ref (ad a0)), (1, .int x1), (2, .int y2), (3, .int y3)] [] := by
  unfold fX11_book_s161 at hF
  refine g_aload_n X dX11_book_161 0 rfl rfl ?_
  refine g_getR (f := 10) X dX11_book_162 flX11_71 rfl rfl h0 ?_
  refine g_iconst (v := 0) X dX11_book_165 (by decide) ?_
  refine g_ialdK (j := 0) X dX11_book_166 kd_37 (on_11_34 h0) (by decide) (by decide) ?_
  refine g_if_le (tgt := 175) X dX11_book_167 (by decide) (fun c_26 => ?_) (fun c_26 => ?_)
  · rw [if_pos c_26] at hF
    refine g_aload_n X dX11_book_175 0 rfl rfl ?_
    refine g_getR (f := 10) X dX11_book_176 flX11_71 rfl rfl h0 ?_
    refine g_iconst (v := 1) X dX11_book_179 (by decide) ?_
    refine g_dup2 (a := .int (1 : Int32)) (b := .ref (ad (a0 + 10))) X dX11_book_180 rfl rfl ?_
    refine g_ialdK (j := 1) X dX11_book_181 kd_37 (on_11_34 h0) (by decide) (by decide) ?_
    refine g_iconst (v := 1) X dX11_book_182 (by decide) ?_
    refine g_iadd X dX11_book_183 ?_
    refine g_iastK (j := 1) X dX11_book_184 kd_37 (on_11_34 h0) (by decide) (by decide) ?_
    exact (wX11_book_s185 X a0 x1 h0 y2 y3 k111 (sA S 37 (a0 + 10) 1 ((gA S 37 (a0 + 10) 1) + (1 : Int32))) r ho hk111 hF)
  · rw [if_neg c_26] at hF
    refine g_iload_n X dX11_book_170 3 rfl rfl ?_
    refine g_istore_n X dX11_book_171 rfl (by decide) (lv' := [(2, .int y3), (0, .ref (ad a0)), (1, .int x1), (3, .int y3)]) rfl ?_
    refine g_goto (tgt := 185) X dX11_book_172 (by decide) ?_
    exact g_perm [1, 2, 0, 3] rfl (wX11_book_s185 X a0 x1 h0 y3 y3 k111 S r ho hk111 hF)
theorem wX11_book_s160 {z : Mx} {ad : Nat → Nat} {o : Option Value × St} (X : CxOk z ad RX11 cX11_book 4 (some .int) 6) (a0 : Nat) (x1 : Int32) (h0 : KT a0 = 11) (y2 : Int32) (y3 : Int32) (t0 : Nat) (t1 : Int32) (t2 : Int32) (k111 : Int32 → Int32 → St → Option (Int32 × St))  (gt0 : KT t0 = 37) (S : St) (r : (Int32 × St)) (ho : o = (some (.int r.1), r.2)) (hk111 : ∀ (y2 : Int32) (y3 : Int32) (S : St), k111 y2 y3 S = some r → GW z ad o S 111 [(0, .ref (ad a0)), (1, .int x1), (2, .int y2), (3, .int y3)] []) (hF : fX11_book_s160 k111 a0 x1 y2 y3 t0 t1 t2 S = some r) : GW z ad o S 160 [(0, .ref (ad a0)), (1, .int x1), (2, .int y2), (3, .int y3)] [.int t2, .int t1, .ref (ad t0)] := by
  unfold fX11_book_s160 at hF
  obtain ⟨e_25, hF⟩ := oguard hF
  refine g_iast X dX11_book_160 kd_37 gt0 e_25 ?_
  exact (wX11_book_s161 X a0 x1 h0 y2 y3 k111 (sA S 37 t0 t1.toNatClampNeg t2) r ho hk111 hF)
theorem wX11_book_s111 {z : Mx} {ad : Nat → Nat} {o : Option Value × St} (X : CxOk z ad RX11 cX11_book 4 (some .int) 6) (a0 : Nat) (x1 : Int32) (h0 : KT a0 = 11) (y2 : Int32) (y3 : Int32)  (k111 : Int32 → Int32 → St → Option (Int32 × St))   (S : St) (r : (Int32 × St)) (ho : o = (some (.int r.1), r.2)) (hk111 : ∀ (y2 : Int32) (y3 : Int32) (S : St), k111 y2 y3 S = some r → GW z ad o S 111 [(0, .ref (ad a0)), (1, .int x1), (2, .int y2), (3, .int y3)] []) (hF : fX11_book_s111 k111 a0 x1 y2 y3  S = some r) : GW z ad o S 111 [(0, .ref (ad a0)), (1, .int x1), (2, .int y2), (3, .int y3)] [] := by
  unfold fX11_book_s111 at hF
  refine g_iload_n X dX11_book_111 3 rfl rfl ?_
  refine g_aload_n X dX11_book_112 0 rfl rfl ?_
  refine g_getI X dX11_book_113 flX11_385 rfl h0 ?_
  refine g_icmp_ge (tgt := 191) X dX11_book_116 (by decide) (fun c_8 => ?_) (fun c_8 => ?_)
  · rw [if_pos c_8] at hF
    exact g_perm [0, 1, 2] rfl (wX11_book_s191 X a0 x1 h0 y2 S r ho hF)
  · rw [if_neg c_8] at hF
    refine g_iload_n X dX11_book_119 2 rfl rfl ?_
    refine g_if_ge (tgt := 191) X dX11_book_120 (by decide) (fun c_19 => ?_) (fun c_19 => ?_)
    · rw [if_pos c_19] at hF
      exact g_perm [0, 1, 2] rfl (wX11_book_s191 X a0 x1 h0 y2 S r ho hF)
    · rw [if_neg c_19] at hF
      refine g_aload_n X dX11_book_123 0 rfl rfl ?_
      refine g_getR (f := 10) X dX11_book_124 flX11_71 rfl rfl h0 ?_
      refine g_iconst (v := 0) X dX11_book_127 (by decide) ?_
      refine g_aload_n X dX11_book_128 0 rfl rfl ?_
      refine g_aload_n X dX11_book_129 0 rfl rfl ?_
      refine g_getR (f := 4) X dX11_book_130 flX11_40 rfl rfl h0 ?_
      refine g_iconst (v := 3) X dX11_book_133 (by decide) ?_
      refine g_iload_n X dX11_book_134 3 rfl rfl ?_
      refine g_imul X dX11_book_135 ?_
      obtain ⟨e_20, hF⟩ := oguard hF
      refine g_iald X dX11_book_136 kd_31 (on_11_8 h0) e_20 ?_
      refine g_aload_n X dX11_book_137 0 rfl rfl ?_
      refine g_getR (f := 4) X dX11_book_138 flX11_40 rfl rfl h0 ?_
      refine g_iconst (v := 3) X dX11_book_141 (by decide) ?_
      refine g_iload_n X dX11_book_142 3 rfl rfl ?_
      refine g_imul X dX11_book_143 ?_
      refine g_iconst (v := 1) X dX11_book_144 (by decide) ?_
      refine g_iadd X dX11_book_145 ?_
      obtain ⟨e_21, hF⟩ := oguard hF
      refine g_iald X dX11_book_146 kd_31 (on_11_8 h0) e_21 ?_
      refine g_aload_n X dX11_book_147 0 rfl rfl ?_
      refine g_getR (f := 4) X dX11_book_148 flX11_40 rfl rfl h0 ?_
      refine g_iconst (v := 3) X dX11_book_151 (by decide) ?_
      refine g_iload_n X dX11_book_152 3 rfl rfl ?_
      refine g_imul X dX11_book_153 ?_
      refine g_iconst (v := 2) X dX11_book_154 (by decide) ?_
      refine g_iadd X dX11_book_155 ?_
      obtain ⟨e_22, hF⟩ := oguard hF
      refine g_iald X dX11_book_156 kd_31 (on_11_8 h0) e_22 ?_
      obtain ⟨r_23, q_24, hF⟩ := obind hF
      refine g_callVi (As := [.int (gA S 31 (a0 + 4) (((3 : Int32) * y3).toNatClampNeg)), .int (gA S 31 (a0 + 4) ((((3 : Int32) * y3) + (1 : Int32)).toNatClampNeg)), .int (gA S 31 (a0 + 4) ((((3 : Int32) * y3) + (2 : Int32)).toNatClampNeg))]) X dX11_book_157 mlX11_391 (fun l D cyy => tX11_does (cx_inj X) l D cyy a0 (gA S 31 (a0 + 4) (((3 : Int32) * y3).toNatClampNeg)) (gA S 31 (a0 + 4) ((((3 : Int32) * y3) + (1 : Int32)).toNatClampNeg)) (gA S 31 (a0 + 4) ((((3 : Int32) * y3) + (2 : Int32)).toNatClampNeg)) h0 S r_23 q_24) h0 (by decide) rfl rfl (Nat.le_of_ble_eq_true rfl) ?_
      exact (wX11_book_s160 X a0 x1 h0 y2 y3 (a0 + 10) (0 : Int32) r_23.1 k111 (on_11_34 h0) r_23.2 r ho hk111 hF)
theorem wX11_book_h111 {z : Mx} {ad : Nat → Nat} {o : Option Value × St} (X : CxOk z ad RX11 cX11_book 4 (some .int) 6) (a0 : Nat) (x1 : Int32) (h0 : KT a0 = 11)  (r : (Int32 × St)) (ho : o = (some (.int r.1), r.2)) : ∀ (n : Nat) (y2 : Int32) (y3 : Int32) (S : St), fX11_book_h111 a0 x1 n y2 y3 S = some r → GW z ad o S 111 [(0, .ref (ad a0)), (1, .int x1), (2, .int y2), (3, .int y3)] [] := by
  intro n
  induction n with
  | zero => intro y2 y3 S  hF; cases hF
  | succ n ih => intro y2 y3 S  hF; exact wX11_book_s111 X a0 x1 h0 y2 y3 (fX11_book_h111 a0 x1 n)  S r ho ih hF
theorem wX11_book_s101 {z : Mx} {ad : Nat → Nat} {o : Option Value × St} (X : CxOk z ad RX11 cX11_book 4 (some .int) 6) (a0 : Nat) (x1 : Int32) (h0 : KT a0 = 11) (y2 : Int32)  (k89 : Int32 → St → Option (Int32 × St))   (S : St) (r : (Int32 × St)) (ho : o = (some (.int r.1), r.2)) (hk89 : ∀ (y2 : Int32) (S : St), k89 y2 S = some r → GW z ad o S 89 [(0, .ref (ad a0)), (1, .int x1), (2, .int y2)] []) (hF : fX11_book_s101 k89 a0 x1 y2  S = some r) : GW z ad o S 101 [(0, .ref (ad a0)), (1, .int x1), (2, .int y2)] [] := by
  unfold fX11_book_s101 at hF
  refine g_iinc (v := (y2 + (1 : Int32))) X dX11_book_101 2 rfl rfl (by decide) (lv' := [(2, .int (y2 + (1 : Int32))), (0, .ref (ad a0)), (1, .int x1)]) rfl ?_
  refine g_goto (tgt := 89) X dX11_book_104 (by decide) ?_
  exact g_perm [1, 2, 0] rfl (hk89 (y2 + (1 : Int32)) S hF)
theorem wX11_book_s89 {z : Mx} {ad : Nat → Nat} {o : Option Value × St} (X : CxOk z ad RX11 cX11_book 4 (some .int) 6) (a0 : Nat) (x1 : Int32) (h0 : KT a0 = 11) (y2 : Int32)  (k89 : Int32 → St → Option (Int32 × St))   (S : St) (r : (Int32 × St)) (ho : o = (some (.int r.1), r.2)) (hk89 : ∀ (y2 : Int32) (S : St), k89 y2 S = some r → GW z ad o S 89 [(0, .ref (ad a0)), (1, .int x1), (2, .int y2)] []) (hF : fX11_book_s89 k89 a0 x1 y2  S = some r) : GW z ad o S 89 [(0, .ref (ad a0)), (1, .int x1), (2, .int y2)] [] := by
  unfold fX11_book_s89 at hF
  refine g_iload_n X dX11_book_89 2 rfl rfl ?_
  refine g_iconst (v := 4) X dX11_book_90 (by decide) ?_
  refine g_icmp_ge (tgt := 107) X dX11_book_91 (by decide) (fun c_7 => ?_) (fun c_7 => ?_)
  · rw [if_pos c_7] at hF
    refine g_iconst (v := -1) X dX11_book_107 (by decide) ?_
    refine g_istore_n X dX11_book_108 rfl (by decide) (lv' := [(2, .int (-1 : Int32)), (0, .ref (ad a0)), (1, .int x1)]) rfl ?_
    refine g_iconst (v := 0) X dX11_book_109 (by decide) ?_
    refine g_istore_n X dX11_book_110 rfl (by decide) (lv' := [(3, .int (0 : Int32)), (2, .int (-1 : Int32)), (0, .ref (ad a0)), (1, .int x1)]) rfl ?_
    exact g_perm [2, 3, 1, 0] rfl (wX11_book_h111 X a0 x1 h0 r ho NN (-1 : Int32) (0 : Int32) S hF)
  · rw [if_neg c_7] at hF
    refine g_aload_n X dX11_book_94 0 rfl rfl ?_
    refine g_getR (f := 10) X dX11_book_95 flX11_71 rfl rfl h0 ?_
    refine g_iload_n X dX11_book_98 2 rfl rfl ?_
    refine g_iconst (v := 0) X dX11_book_99 (by decide) ?_
    obtain ⟨e_27, hF⟩ := oguard hF
    refine g_iast X dX11_book_100 kd_37 (on_11_34 h0) e_27 ?_
    exact (wX11_book_s101 X a0 x1 h0 y2 k89 (sA S 37 (a0 + 10) y2.toNatClampNeg (0 : Int32)) r ho hk89 hF)
theorem wX11_book_h89 {z : Mx} {ad : Nat → Nat} {o : Option Value × St} (X : CxOk z ad RX11 cX11_book 4 (some .int) 6) (a0 : Nat) (x1 : Int32) (h0 : KT a0 = 11)  (r : (Int32 × St)) (ho : o = (some (.int r.1), r.2)) : ∀ (n : Nat) (y2 : Int32) (S : St), fX11_book_h89 a0 x1 n y2 S = some r → GW z ad o S 89 [(0, .ref (ad a0)), (1, .int x1), (2, .int y2)] [] := by
  intro n
  induction n with
  | zero => intro y2 S  hF; cases hF
  | succ n ih => intro y2 S  hF; exact wX11_book_s89 X a0 x1 h0 y2 (fX11_book_h89 a0 x1 n)  S r ho ih hF
theorem wX11_book_s80 {z : Mx} {ad : Nat → Nat} {o : Option Value × St} (X : CxOk z ad RX11 cX11_book 4 (some .int) 6) (a0 : Nat) (x1 : Int32) (h0 : KT a0 = 11)   (k39 : St → Option (Int32 × St))   (S : St) (r : (Int32 × St)) (ho : o = (some (.int r.1), r.2)) (hk39 : ∀  (S : St), k39  S = some r → GW z ad o S 39 [(0, .ref (ad a0)), (1, .int x1)] []) (hF : fX11_book_s80 k39 a0 x1   S = some r) : GW z ad o S 80 [(0, .ref (ad a0)), (1, .int x1)] [] := by
  unfold fX11_book_s80 at hF
  refine g_goto (tgt := 39) X dX11_book_80 (by decide) ?_
  exact (hk39  S hF)
theorem wX11_book_s59 {z : Mx} {ad : Nat → Nat} {o : Option Value × St} (X : CxOk z ad RX11 cX11_book 4 (some .int) 6) (a0 : Nat) (x1 : Int32) (h0 : KT a0 = 11)  (t0 : Int32) (k39 : St → Option (Int32 × St))   (S : St) (r : (Int32 × St)) (ho : o = (some (.int r.1), r.2)) (hk39 : ∀  (S : St), k39  S = some r → GW z ad o S 39 [(0, .ref (ad a0)), (1, .int x1)] []) (hF : fX11_book_s59 k39 a0 x1  t0 S = some r) : GW z ad o S 59 [(0, .ref (ad a0)), (1, .int x1)] [.int t0] := by
  unfold fX11_book_s59 at hF
  refine g_if_ne (tgt := 70) X dX11_book_59 (by decide) (fun c_33 => ?_) (fun c_33 => ?_)
  · rw [if_neg c_33] at hF
    refine g_aload_n X dX11_book_70 0 rfl rfl ?_
    refine g_dup (a := .ref (ad a0)) X dX11_book_71 rfl ?_
    refine g_getI X dX11_book_72 flX11_385 rfl h0 ?_
    refine g_iconst (v := 1) X dX11_book_75 (by decide) ?_
    refine g_iadd X dX11_book_76 ?_
    refine g_putI X dX11_book_77 fpX11_385 rfl rfl rfl h0 ?_
    exact (wX11_book_s80 X a0 x1 h0 k39 (sI S 11 33 a0 ((gI S 11 33 a0) + (1 : Int32))) r ho hk39 hF)
  · rw [if_pos c_33] at hF
    refine g_bipush (v := -2) X dX11_book_62 (by decide) ?_
    refine g_aload_n X dX11_book_64 0 rfl rfl ?_
    refine g_getI X dX11_book_65 flX11_161 rfl h0 ?_
    refine g_isub X dX11_book_68 ?_
    have hF := Option.some.inj hF
    subst hF
    exact g_iret X dX11_book_69 ho
theorem wX11_book_s50 {z : Mx} {ad : Nat → Nat} {o : Option Value × St} (X : CxOk z ad RX11 cX11_book 4 (some .int) 6) (a0 : Nat) (x1 : Int32) (h0 : KT a0 = 11)  (t0 : Int32) (k39 : St → Option (Int32 × St))   (S : St) (r : (Int32 × St)) (ho : o = (some (.int r.1), r.2)) (hk39 : ∀  (S : St), k39  S = some r → GW z ad o S 39 [(0, .ref (ad a0)), (1, .int x1)] []) (hF : fX11_book_s50 k39 a0 x1  t0 S = some r) : GW z ad o S 50 [(0, .ref (ad a0)), (1, .int x1)] [.int t0] := by
  unfold fX11_book_s50 at hF
  refine g_if_eq (tgt := 62) X dX11_book_50 (by decide) (fun c_30 => ?_) (fun c_30 => ?_)
  · rw [if_pos c_30] at hF
    refine g_bipush (v := -2) X dX11_book_62 (by decide) ?_
    refine g_aload_n X dX11_book_64 0 rfl rfl ?_
    refine g_getI X dX11_book_65 flX11_161 rfl h0 ?_
    refine g_isub X dX11_book_68 ?_
    have hF := Option.some.inj hF
    subst hF
    exact g_iret X dX11_book_69 ho
  · rw [if_neg c_30] at hF
    refine g_aload_n X dX11_book_53 0 rfl rfl ?_
    refine g_bipush (v := 59) X dX11_book_54 (by decide) ?_
    obtain ⟨r_31, q_32, hF⟩ := obind hF
    refine g_callVi (As := [.int (59 : Int32)]) X dX11_book_56 mlX11_230 (fun l D cyy => tX11_sign (cx_inj X) l D cyy a0 (59 : Int32) h0 S r_31 q_32) h0 (by decide) rfl rfl (Nat.le_of_ble_eq_true rfl) ?_
    exact (wX11_book_s59 X a0 x1 h0 r_31.1 k39 r_31.2 r ho hk39 hF)
theorem wX11_book_s39 {z : Mx} {ad : Nat → Nat} {o : Option Value × St} (X : CxOk z ad RX11 cX11_book 4 (some .int) 6) (a0 : Nat) (x1 : Int32) (h0 : KT a0 = 11)   (k39 : St → Option (Int32 × St))   (S : St) (r : (Int32 × St)) (ho : o = (some (.int r.1), r.2)) (hk39 : ∀  (S : St), k39  S = some r → GW z ad o S 39 [(0, .ref (ad a0)), (1, .int x1)] []) (hF : fX11_book_s39 k39 a0 x1   S = some r) : GW z ad o S 39 [(0, .ref (ad a0)), (1, .int x1)] [] := by
  unfold fX11_book_s39 at hF
  refine g_aload_n X dX11_book_39 0 rfl rfl ?_
  refine g_getI X dX11_book_40 flX11_141 rfl h0 ?_
  refine g_if_eq (tgt := 83) X dX11_book_43 (by decide) (fun c_4 => ?_) (fun c_4 => ?_)
  · rw [if_pos c_4] at hF
    refine g_aload_n X dX11_book_83 0 rfl rfl ?_
    obtain ⟨r_5, q_6, hF⟩ := obind hF
    refine g_callVv (As := []) X dX11_book_84 mlX11_379 (fun l D cyy => tX11_tries (cx_inj X) l D cyy a0 h0 S r_5 q_6) h0 (by decide) rfl rfl (Nat.le_of_ble_eq_true rfl) ?_
    refine g_iconst (v := 0) X dX11_book_87 (by decide) ?_
    refine g_istore_n X dX11_book_88 rfl (by decide) (lv' := [(2, .int (0 : Int32)), (0, .ref (ad a0)), (1, .int x1)]) rfl ?_
    exact g_perm [1, 2, 0] rfl (wX11_book_h89 X a0 x1 h0 r ho NN (0 : Int32) r_5 hF)
  · rw [if_neg c_4] at hF
    refine g_aload_n X dX11_book_46 0 rfl rfl ?_
    obtain ⟨r_28, q_29, hF⟩ := obind hF
    refine g_callVi (As := []) X dX11_book_47 mlX11_388 (fun l D cyy => tX11_bookLine (cx_inj X) l D cyy a0 h0 S r_28 q_29) h0 (by decide) rfl rfl (Nat.le_of_ble_eq_true rfl) ?_
    exact (wX11_book_s50 X a0 x1 h0 r_28.1 k39 r_28.2 r ho hk39 hF)
theorem wX11_book_h39 {z : Mx} {ad : Nat → Nat} {o : Option Value × St} (X : CxOk z ad RX11 cX11_book 4 (some .int) 6) (a0 : Nat) (x1 : Int32) (h0 : KT a0 = 11)  (r : (Int32 × St)) (ho : o = (some (.int r.1), r.2)) : ∀ (n : Nat)  (S : St), fX11_book_h39 a0 x1 n  S = some r → GW z ad o S 39 [(0, .ref (ad a0)), (1, .int x1)] [] := by
  intro n
  induction n with
  | zero => intro  S  hF; cases hF
  | succ n ih => intro  S  hF; exact wX11_book_s39 X a0 x1 h0  (fX11_book_h39 a0 x1 n)  S r ho ih hF
theorem wX11_book_s35 {z : Mx} {ad : Nat → Nat} {o : Option Value × St} (X : CxOk z ad RX11 cX11_book 4 (some .int) 6) (a0 : Nat) (x1 : Int32) (h0 : KT a0 = 11)     (S : St) (r : (Int32 × St)) (ho : o = (some (.int r.1), r.2)) (hF : fX11_book_s35 a0 x1   S = some r) : GW z ad o S 35 [(0, .ref (ad a0)), (1, .int x1)] [] := by
  unfold fX11_book_s35 at hF
  refine g_aload_n X dX11_book_35 0 rfl rfl ?_
  obtain ⟨r_2, q_3, hF⟩ := obind hF
  refine g_callVv (As := []) X dX11_book_36 mlX11_170 (fun l D cyy => tX11_step (cx_inj X) l D cyy a0 h0 S r_2 q_3) h0 (by decide) rfl rfl (Nat.le_of_ble_eq_true rfl) ?_
  exact (wX11_book_h39 X a0 x1 h0 r ho NN r_2 hF)
theorem wX11_book_s30 {z : Mx} {ad : Nat → Nat} {o : Option Value × St} (X : CxOk z ad RX11 cX11_book 4 (some .int) 6) (a0 : Nat) (x1 : Int32) (h0 : KT a0 = 11)     (S : St) (r : (Int32 × St)) (ho : o = (some (.int r.1), r.2)) (hF : fX11_book_s30 a0 x1   S = some r) : GW z ad o S 30 [(0, .ref (ad a0)), (1, .int x1)] [] := by
  unfold fX11_book_s30 at hF
  refine g_aload_n X dX11_book_30 0 rfl rfl ?_
  refine g_iconst (v := 0) X dX11_book_31 (by decide) ?_
  refine g_putI X dX11_book_32 fpX11_385 rfl rfl rfl h0 ?_
  exact (wX11_book_s35 X a0 x1 h0 (sI S 11 33 a0 (0 : Int32)) r ho hF)
theorem wX11_book_s25 {z : Mx} {ad : Nat → Nat} {o : Option Value × St} (X : CxOk z ad RX11 cX11_book 4 (some .int) 6) (a0 : Nat) (x1 : Int32) (h0 : KT a0 = 11)     (S : St) (r : (Int32 × St)) (ho : o = (some (.int r.1), r.2)) (hF : fX11_book_s25 a0 x1   S = some r) : GW z ad o S 25 [(0, .ref (ad a0)), (1, .int x1)] [] := by
  unfold fX11_book_s25 at hF
  refine g_aload_n X dX11_book_25 0 rfl rfl ?_
  refine g_iconst (v := 0) X dX11_book_26 (by decide) ?_
  refine g_putI X dX11_book_27 fpX11_158 rfl rfl rfl h0 ?_
  exact (wX11_book_s30 X a0 x1 h0 (sI S 11 15 a0 (0 : Int32)) r ho hF)
theorem wX11_book_s5 {z : Mx} {ad : Nat → Nat} {o : Option Value × St} (X : CxOk z ad RX11 cX11_book 4 (some .int) 6) (a0 : Nat) (x1 : Int32) (h0 : KT a0 = 11)     (S : St) (r : (Int32 × St)) (ho : o = (some (.int r.1), r.2)) (hF : fX11_book_s5 a0 x1   S = some r) : GW z ad o S 5 [(0, .ref (ad a0)), (1, .int x1)] [] := by
  unfold fX11_book_s5 at hF
  refine g_iload_n X dX11_book_5 1 rfl rfl ?_
  refine g_iconst (v := 0) X dX11_book_6 (by decide) ?_
  refine g_iconst (v := 1) X dX11_book_7 (by decide) ?_
  refine g_callSi (As := [.int x1, .int (0 : Int32), .int (1 : Int32)]) X dX11_book_8 mlX11_173 (fun l D cyy => tX11_isIn (cx_inj X) l D cyy x1 (0 : Int32) (1 : Int32)  S) (by decide) rfl rfl (Nat.le_of_ble_eq_true rfl) ?_
  refine g_if_ne (tgt := 18) X dX11_book_11 (by decide) (fun c_1 => ?_) (fun c_1 => ?_)
  · rw [if_neg c_1] at hF
    refine g_aload_n X dX11_book_18 0 rfl rfl ?_
    refine g_sipush (v := 400) X dX11_book_19 (by decide) ?_
    refine g_callVv (As := [.int (400 : Int32)]) X dX11_book_22 mlX11_221 (fun l D cyy => tX11_taken (cx_inj X) l D cyy a0 (400 : Int32) h0 S) h0 (by decide) rfl rfl (Nat.le_of_ble_eq_true rfl) ?_
    exact (wX11_book_s25 X a0 x1 h0 (fX11_taken a0 (400 : Int32) S) r ho hF)
  · rw [if_pos c_1] at hF
    refine g_sipush (v := -1000) X dX11_book_14 (by decide) ?_
    have hF := Option.some.inj hF
    subst hF
    exact g_iret X dX11_book_17 ho
theorem wX11_book {z : Mx} {ad : Nat → Nat} {o : Option Value × St} (X : CxOk z ad RX11 cX11_book 4 (some .int) 6) (a0 : Nat) (x1 : Int32) (h0 : KT a0 = 11) (S : St) (r : (Int32 × St)) (ho : o = (some (.int r.1), r.2)) (hF : fX11_book a0 x1 S = some r) : GW z ad o S 0 [(0, .ref (ad a0)), (1, .int x1)] [] := by
  unfold fX11_book at hF
  refine g_aload_n X dX11_book_0 0 rfl rfl ?_
  refine g_iconst (v := 0) X dX11_book_1 (by decide) ?_
  refine g_putI X dX11_book_2 fpX11_1 rfl rfl rfl h0 ?_
  exact (wX11_book_s5 X a0 x1 h0 (sI S 11 0 a0 (0 : Int32)) r ho hF)
theorem tX11_book {ad : Nat → Nat} (hI : Inj ad) (l : Launch) (D : va_G) (cyy : Nat → ClassId) (a0 : Nat) (x1 : Int32) (h0 : KT a0 = 11) (S : St) (r : (Int32 × St)) (hF : fX11_book a0 x1 S = some r) : OkM l yX11_book cX11_book 4 (some .int) 6 ad D cyy [.ref (ad a0), .int x1] S (some (.int r.1), r.2) := okM_of hI (by decide) (inr_57 _ (List.mem_of_getElem? (i := 15) rfl)) (by show _ ≤ 4; exact Nat.le_of_ble_eq_true rfl) (fun z X => wX11_book X a0 x1 h0 S r rfl hF)
def fX11_told_s5 (a0 : Nat) (x1 : Int32)   (S : St) : Option (Int32 × St) :=
  if (gI S 11 35 a0) = 0 then (some ((-1 : Int32), S)) else
  (if (fX11_isIn x1 (0 : Int32) (3 : Int32) S) = 0 then (some ((-1 : Int32), S)) else
  (if (x1 < 0 ∨ 4 ≤ x1.toNatClampNeg) then none else
  some ((gA S 37 (a0 + 10) x1.toNatClampNeg), S)))
def fX11_told (a0 : Nat) (x1 : Int32) (S : St) : Option (Int32 × St) :=
  fX11_told_s5 a0 x1 (sI S 11 0 a0 (0 : Int32))
theorem wX11_told_s5 {z : Mx} {ad : Nat → Nat} {o : Option Value × St} (X : CxOk z ad RX11 cX11_told 2 (some .int) 2) (a0 : Nat) (x1 : Int32) (h0 : KT a0 = 11)     (S : St) (r : (Int32 × St)) (ho : o = (some (.int r.1), r.2)) (hF : fX11_told_s5 a0 x1   S = some r) : GW z ad o S 5 [(0, .ref (ad a0)), (1, .int x1)] [] := by
  unfold fX11_told_s5 at hF
  refine g_aload_n X dX11_told_5 0 rfl rfl ?_
  refine g_getI X dX11_told_6 flX11_395 rfl h0 ?_
  refine g_if_eq (tgt := 30) X dX11_told_9 (by decide) (fun c_1 => ?_) (fun c_1 => ?_)
  · rw [if_pos c_1] at hF
    refine g_iconst (v := -1) X dX11_told_30 (by decide) ?_
    have hF := Option.some.inj hF
    subst hF
    exact g_iret X dX11_told_31 ho
  · rw [if_neg c_1] at hF
    refine g_iload_n X dX11_told_12 1 rfl rfl ?_
    refine g_iconst (v := 0) X dX11_told_13 (by decide) ?_
    refine g_iconst (v := 3) X dX11_told_14 (by decide) ?_
    refine g_callSi (As := [.int x1, .int (0 : Int32), .int (3 : Int32)]) X dX11_told_15 mlX11_173 (fun l D cyy => tX11_isIn (cx_inj X) l D cyy x1 (0 : Int32) (3 : Int32)  S) (by decide) rfl rfl (Nat.le_of_ble_eq_true rfl) ?_
    refine g_if_eq (tgt := 30) X dX11_told_18 (by decide) (fun c_2 => ?_) (fun c_2 => ?_)
    · rw [if_pos c_2] at hF
      refine g_iconst (v := -1) X dX11_told_30 (by decide) ?_
      have hF := Option.some.inj hF
      subst hF
      exact g_iret X dX11_told_31 ho
    · rw [if_neg c_2] at hF
      refine g_aload_n X dX11_told_21 0 rfl rfl ?_
      refine g_getR (f := 10) X dX11_told_22 flX11_71 rfl rfl h0 ?_
      refine g_iload_n X dX11_told_25 1 rfl rfl ?_
      obtain ⟨e_3, hF⟩ := oguard hF
      refine g_iald X dX11_told_26 kd_37 (on_11_34 h0) e_3 ?_
      refine g_goto (tgt := 31) X dX11_told_27 (by decide) ?_
      have hF := Option.some.inj hF
      subst hF
      exact g_iret X dX11_told_31 ho
theorem wX11_told {z : Mx} {ad : Nat → Nat} {o : Option Value × St} (X : CxOk z ad RX11 cX11_told 2 (some .int) 2) (a0 : Nat) (x1 : Int32) (h0 : KT a0 = 11) (S : St) (r : (Int32 × St)) (ho : o = (some (.int r.1), r.2)) (hF : fX11_told a0 x1 S = some r) : GW z ad o S 0 [(0, .ref (ad a0)), (1, .int x1)] [] := by
  unfold fX11_told at hF
  refine g_aload_n X dX11_told_0 0 rfl rfl ?_
  refine g_iconst (v := 0) X dX11_told_1 (by decide) ?_
  refine g_putI X dX11_told_2 fpX11_1 rfl rfl rfl h0 ?_
  exact (wX11_told_s5 X a0 x1 h0 (sI S 11 0 a0 (0 : Int32)) r ho hF)
theorem tX11_told {ad : Nat → Nat} (hI : Inj ad) (l : Launch) (D : va_G) (cyy : Nat → ClassId) (a0 : Nat) (x1 : Int32) (h0 : KT a0 = 11) (S : St) (r : (Int32 × St)) (hF : fX11_told a0 x1 S = some r) : OkM l yX11_told cX11_told 2 (some .int) 2 ad D cyy [.ref (ad a0), .int x1] S (some (.int r.1), r.2) := okM_of hI (by decide) (inr_58 _ (List.mem_of_getElem? (i := 13) rfl)) (by show _ ≤ 2; exact Nat.le_of_ble_eq_true rfl) (fun z X => wX11_told X a0 x1 h0 S r rfl hF)
def fX11_code_s40 (a0 : Nat) (x1 : Int32) (x2 : Int32) (x3 : Int32)   (S : St) : Option St :=
  some (sI S 11 37 a0 ((gI S 11 37 a0) + (1 : Int32)))
def fX11_code_s26 (a0 : Nat) (x1 : Int32) (x2 : Int32) (x3 : Int32)   (S : St) : Option St :=
  if ((((3 : Int32) * (gI S 11 37 a0)) + (2 : Int32)) < 0 ∨ 135 ≤ (((3 : Int32) * (gI S 11 37 a0)) + (2 : Int32)).toNatClampNeg) then none else
  fX11_code_s40 a0 x1 x2 x3 (sA S 31 (a0 + 4) ((((3 : Int32) * (gI S 11 37 a0)) + (2 : Int32)).toNatClampNeg) x3)
def fX11_code_s12 (a0 : Nat) (x1 : Int32) (x2 : Int32) (x3 : Int32)   (S : St) : Option St :=
  if ((((3 : Int32) * (gI S 11 37 a0)) + (1 : Int32)) < 0 ∨ 135 ≤ (((3 : Int32) * (gI S 11 37 a0)) + (1 : Int32)).toNatClampNeg) then none else
  fX11_code_s26 a0 x1 x2 x3 (sA S 31 (a0 + 4) ((((3 : Int32) * (gI S 11 37 a0)) + (1 : Int32)).toNatClampNeg) x2)
def fX11_code (a0 : Nat) (x1 : Int32) (x2 : Int32) (x3 : Int32) (S : St) : Option St :=
  if (((3 : Int32) * (gI S 11 37 a0)) < 0 ∨ 135 ≤ ((3 : Int32) * (gI S 11 37 a0)).toNatClampNeg) then none else
  fX11_code_s12 a0 x1 x2 x3 (sA S 31 (a0 + 4) (((3 : Int32) * (gI S 11 37 a0)).toNatClampNeg) x1)
theorem wX11_code_s40 {z : Mx} {ad : Nat → Nat} {o : Option Value × St} (X : CxOk z ad RX11 cX11_code 4 none 1) (a0 : Nat) (x1 : Int32) (x2 : Int32) (x3 : Int32) (h0 : KT a0 = 11)     (S : St) (r : St) (ho : o = (none, r)) (hF : fX11_code_s40 a0 x1 x2 x3   S = some r) : GW z ad o S 40 [(0, .ref (ad a0))] [] := by
  unfold fX11_code_s40 at hF
  refine g_aload_n X dX11_code_40 0 rfl rfl ?_
  refine g_dup (a := .ref (ad a0)) X dX11_code_41 rfl ?_
  refine g_getI X dX11_code_42 flX11_398 rfl h0 ?_
  refine g_iconst (v := 1) X dX11_code_45 (by decide) ?_
  refine g_iadd X dX11_code_46 ?_
  refine g_putI X dX11_code_47 fpX11_398 rfl rfl rfl h0 ?_
  have hF := Option.some.inj hF
  subst hF
  exact g_vret X dX11_code_50 ho
theorem wX11_code_s26 {z : Mx} {ad : Nat → Nat} {o : Option Value × St} (X : CxOk z ad RX11 cX11_code 4 none 1) (a0 : Nat) (x1 : Int32) (x2 : Int32) (x3 : Int32) (h0 : KT a0 = 11)     (S : St) (r : St) (ho : o = (none, r)) (hF : fX11_code_s26 a0 x1 x2 x3   S = some r) : GW z ad o S 26 [(0, .ref (ad a0)), (3, .int x3)] [] := by
  unfold fX11_code_s26 at hF
  refine g_aload_n X dX11_code_26 0 rfl rfl ?_
  refine g_getR (f := 4) X dX11_code_27 flX11_40 rfl rfl h0 ?_
  refine g_iconst (v := 3) X dX11_code_30 (by decide) ?_
  refine g_aload_n X dX11_code_31 0 rfl rfl ?_
  refine g_getI X dX11_code_32 flX11_398 rfl h0 ?_
  refine g_imul X dX11_code_35 ?_
  refine g_iconst (v := 2) X dX11_code_36 (by decide) ?_
  refine g_iadd X dX11_code_37 ?_
  refine g_iload_n X dX11_code_38 1 rfl rfl ?_
  obtain ⟨e_3, hF⟩ := oguard hF
  refine g_iast X dX11_code_39 kd_31 (on_11_8 h0) e_3 ?_
  exact g_perm [0] rfl (wX11_code_s40 X a0 x1 x2 x3 h0 (sA S 31 (a0 + 4) ((((3 : Int32) * (gI S 11 37 a0)) + (2 : Int32)).toNatClampNeg) x3) r ho hF)
theorem wX11_code_s12 {z : Mx} {ad : Nat → Nat} {o : Option Value × St} (X : CxOk z ad RX11 cX11_code 4 none 1) (a0 : Nat) (x1 : Int32) (x2 : Int32) (x3 : Int32) (h0 : KT a0 = 11)     (S : St) (r : St) (ho : o = (none, r)) (hF : fX11_code_s12 a0 x1 x2 x3   S = some r) : GW z ad o S 12 [(0, .ref (ad a0)), (2, .int x2), (3, .int x3)] [] := by
  unfold fX11_code_s12 at hF
  refine g_aload_n X dX11_code_12 0 rfl rfl ?_
  refine g_getR (f := 4) X dX11_code_13 flX11_40 rfl rfl h0 ?_
  refine g_iconst (v := 3) X dX11_code_16 (by decide) ?_
  refine g_aload_n X dX11_code_17 0 rfl rfl ?_
  refine g_getI X dX11_code_18 flX11_398 rfl h0 ?_
  refine g_imul X dX11_code_21 ?_
  refine g_iconst (v := 1) X dX11_code_22 (by decide) ?_
  refine g_iadd X dX11_code_23 ?_
  refine g_iload_n X dX11_code_24 1 rfl rfl ?_
  obtain ⟨e_2, hF⟩ := oguard hF
  refine g_iast X dX11_code_25 kd_31 (on_11_8 h0) e_2 ?_
  exact g_perm [0, 2] rfl (wX11_code_s26 X a0 x1 x2 x3 h0 (sA S 31 (a0 + 4) ((((3 : Int32) * (gI S 11 37 a0)) + (1 : Int32)).toNatClampNeg) x2) r ho hF)
theorem wX11_code {z : Mx} {ad : Nat → Nat} {o : Option Value × St} (X : CxOk z ad RX11 cX11_code 4 none 1) (a0 : Nat) (x1 : Int32) (x2 : Int32) (x3 : Int32) (h0 : KT a0 = 11) (S : St) (r : St) (ho : o = (none, r)) (hF : fX11_code a0 x1 x2 x3 S = some r) : GW z ad o S 0 [(0, .ref (ad a0)), (1, .int x1), (2, .int x2), (3, .int x3)] [] := by
  unfold fX11_code at hF
  refine g_aload_n X dX11_code_0 0 rfl rfl ?_
  refine g_getR (f := 4) X dX11_code_1 flX11_40 rfl rfl h0 ?_
  refine g_iconst (v := 3) X dX11_code_4 (by decide) ?_
  refine g_aload_n X dX11_code_5 0 rfl rfl ?_
  refine g_getI X dX11_code_6 flX11_398 rfl h0 ?_
  refine g_imul X dX11_code_9 ?_
  refine g_iload_n X dX11_code_10 1 rfl rfl ?_
  obtain ⟨e_1, hF⟩ := oguard hF
  refine g_iast X dX11_code_11 kd_31 (on_11_8 h0) e_1 ?_
  exact g_perm [0, 2, 3] rfl (wX11_code_s12 X a0 x1 x2 x3 h0 (sA S 31 (a0 + 4) (((3 : Int32) * (gI S 11 37 a0)).toNatClampNeg) x1) r ho hF)
theorem tX11_code {ad : Nat → Nat} (hI : Inj ad) (l : Launch) (D : va_G) (cyy : Nat → ClassId) (a0 : Nat) (x1 : Int32) (x2 : Int32) (x3 : Int32) (h0 : KT a0 = 11) (S : St) (r : St) (hF : fX11_code a0 x1 x2 x3 S = some r) : OkM l yX11_code cX11_code 4 none 1 ad D cyy [.ref (ad a0), .int x1, .int x2, .int x3] S (none, r) := okM_of hI (by decide) (inr_62 _ (List.mem_of_getElem? (i := 0) rfl)) (by show _ ≤ 4; exact Nat.le_of_ble_eq_true rfl) (fun z X => wX11_code X a0 x1 x2 x3 h0 S r rfl hF)
def fX11_joins_s55 (k0 : St → Option St) (a0 : Nat) (x1 : Int32)   (S : St) : Option St :=
  if ((gI S 11 39 a0) < 0 ∨ 45 ≤ (gI S 11 39 a0).toNatClampNeg) then none else
  (fX11_code a0 (gA S 38 (a0 + 11) ((gI S 11 39 a0).toNatClampNeg)) (0 : Int32) (0 : Int32) S).bind fun r_5 =>
  k0  r_5
def fX11_joins_s45 (k0 : St → Option St) (a0 : Nat) (x1 : Int32)   (S : St) : Option St :=
  fX11_joins_s55 k0 a0 x1 (sI S 11 39 a0 ((gI S 11 39 a0) - (1 : Int32)))
def fX11_joins_s0 (k0 : St → Option St) (a0 : Nat) (x1 : Int32)   (S : St) : Option St :=
  if (gI S 11 39 a0) ≤ 0 then (some S) else
  (if (((gI S 11 39 a0) - (1 : Int32)) < 0 ∨ 45 ≤ ((gI S 11 39 a0) - (1 : Int32)).toNatClampNeg) then none else
  if (gA S 38 (a0 + 11) (((gI S 11 39 a0) - (1 : Int32)).toNatClampNeg)) = (21 : Int32) then (fX11_joins_s45 k0 a0 x1 S) else
  (if (((gI S 11 39 a0) - (1 : Int32)) < 0 ∨ 45 ≤ ((gI S 11 39 a0) - (1 : Int32)).toNatClampNeg) then none else
  if (gA S 38 (a0 + 11) (((gI S 11 39 a0) - (1 : Int32)).toNatClampNeg)) = (22 : Int32) then (if x1 = (22 : Int32) then (fX11_joins_s45 k0 a0 x1 S) else
  (some S)) else
  (some S)))
def fX11_joins_h0 (a0 : Nat) (x1 : Int32) : Nat → St → Option St
  | 0, _ => none
  | n + 1, S => fX11_joins_s0 (fX11_joins_h0 a0 x1 n) a0 x1  S
def fX11_joins (a0 : Nat) (x1 : Int32) (S : St) : Option St :=
  fX11_joins_h0 a0 x1 NN S
theorem wX11_joins_s55 {z : Mx} {ad : Nat → Nat} {o : Option Value × St} (X : CxOk z ad RX11 cX11_joins 2 none 2) (a0 : Nat) (x1 : Int32) (h0 : KT a0 = 11)   (k0 : St → Option St)   (S : St) (r : St) (ho : o = (none, r)) (hk0 : ∀  (S : St), k0  S = some r → GW z ad o S 0 [(0, .ref (ad a0)), (1, .int x1)] []) (hF : fX11_joins_s55 k0 a0 x1   S = some r) : GW z ad o S 55 [(0, .ref (ad a0)), (1, .int x1)] [] := by
  unfold fX11_joins_s55 at hF
  refine g_aload_n X dX11_joins_55 0 rfl rfl ?_
  refine g_aload_n X dX11_joins_56 0 rfl rfl ?_
  refine g_getR (f := 11) X dX11_joins_57 flX11_74 rfl rfl h0 ?_
  refine g_aload_n X dX11_joins_60 0 rfl rfl ?_
  refine g_getI X dX11_joins_61 flX11_401 rfl h0 ?_
  obtain ⟨e_4, hF⟩ := oguard hF
  refine g_iald X dX11_joins_64 kd_38 (on_11_36 h0) e_4 ?_
  refine g_iconst (v := 0) X dX11_joins_65 (by decide) ?_
  refine g_iconst (v := 0) X dX11_joins_66 (by decide) ?_
  obtain ⟨r_5, q_6, hF⟩ := obind hF
  refine g_callVv (As := [.int (gA S 38 (a0 + 11) ((gI S 11 39 a0).toNatClampNeg)), .int (0 : Int32), .int (0 : Int32)]) X dX11_joins_67 mlX11_404 (fun l D cyy => tX11_code (cx_inj X) l D cyy a0 (gA S 38 (a0 + 11) ((gI S 11 39 a0).toNatClampNeg)) (0 : Int32) (0 : Int32) h0 S r_5 q_6) h0 (by decide) rfl rfl (Nat.le_of_ble_eq_true rfl) ?_
  refine g_goto (tgt := 0) X dX11_joins_70 (by decide) ?_
  exact (hk0  r_5 hF)
theorem wX11_joins_s45 {z : Mx} {ad : Nat → Nat} {o : Option Value × St} (X : CxOk z ad RX11 cX11_joins 2 none 2) (a0 : Nat) (x1 : Int32) (h0 : KT a0 = 11)   (k0 : St → Option St)   (S : St) (r : St) (ho : o = (none, r)) (hk0 : ∀  (S : St), k0  S = some r → GW z ad o S 0 [(0, .ref (ad a0)), (1, .int x1)] []) (hF : fX11_joins_s45 k0 a0 x1   S = some r) : GW z ad o S 45 [(0, .ref (ad a0)), (1, .int x1)] [] := by
  unfold fX11_joins_s45 at hF
  refine g_aload_n X dX11_joins_45 0 rfl rfl ?_
  refine g_dup (a := .ref (ad a0)) X dX11_joins_46 rfl ?_
  refine g_getI X dX11_joins_47 flX11_401 rfl h0 ?_
  refine g_iconst (v := 1) X dX11_joins_50 (by decide) ?_
  refine g_isub X dX11_joins_51 ?_
  refine g_putI X dX11_joins_52 fpX11_401 rfl rfl rfl h0 ?_
  exact (wX11_joins_s55 X a0 x1 h0 k0 (sI S 11 39 a0 ((gI S 11 39 a0) - (1 : Int32))) r ho hk0 hF)
theorem wX11_joins_s0 {z : Mx} {ad : Nat → Nat} {o : Option Value × St} (X : CxOk z ad RX11 cX11_joins 2 none 2) (a0 : Nat) (x1 : Int32) (h0 : KT a0 = 11)   (k0 : St → Option St)   (S : St) (r : St) (ho : o = (none, r)) (hk0 : ∀  (S : St), k0  S = some r → GW z ad o S 0 [(0, .ref (ad a0)), (1, .int x1)] []) (hF : fX11_joins_s0 k0 a0 x1   S = some r) : GW z ad o S 0 [(0, .ref (ad a0)), (1, .int x1)] [] := by
  unfold fX11_joins_s0 at hF
  refine g_aload_n X dX11_joins_0 0 rfl rfl ?_
  refine g_getI X dX11_joins_1 flX11_401 rfl h0 ?_
  refine g_if_le (tgt := 73) X dX11_joins_4 (by decide) (fun c_1 => ?_) (fun c_1 => ?_)
  · rw [if_pos c_1] at hF
    have hF := Option.some.inj hF
    subst hF
    exact g_vret X dX11_joins_73 ho
  · rw [if_neg c_1] at hF
    refine g_aload_n X dX11_joins_7 0 rfl rfl ?_
    refine g_getR (f := 11) X dX11_joins_8 flX11_74 rfl rfl h0 ?_
    refine g_aload_n X dX11_joins_11 0 rfl rfl ?_
    refine g_getI X dX11_joins_12 flX11_401 rfl h0 ?_
    refine g_iconst (v := 1) X dX11_joins_15 (by decide) ?_
    refine g_isub X dX11_joins_16 ?_
    obtain ⟨e_2, hF⟩ := oguard hF
    refine g_iald X dX11_joins_17 kd_38 (on_11_36 h0) e_2 ?_
    refine g_bipush (v := 21) X dX11_joins_18 (by decide) ?_
    refine g_icmp_eq (tgt := 45) X dX11_joins_20 (by decide) (fun c_3 => ?_) (fun c_3 => ?_)
    · rw [if_pos c_3] at hF
      exact (wX11_joins_s45 X a0 x1 h0 k0 S r ho hk0 hF)
    · rw [if_neg c_3] at hF
      refine g_aload_n X dX11_joins_23 0 rfl rfl ?_
      refine g_getR (f := 11) X dX11_joins_24 flX11_74 rfl rfl h0 ?_
      refine g_aload_n X dX11_joins_27 0 rfl rfl ?_
      refine g_getI X dX11_joins_28 flX11_401 rfl h0 ?_
      refine g_iconst (v := 1) X dX11_joins_31 (by decide) ?_
      refine g_isub X dX11_joins_32 ?_
      obtain ⟨e_7, hF⟩ := oguard hF
      refine g_iald X dX11_joins_33 kd_38 (on_11_36 h0) e_7 ?_
      refine g_bipush (v := 22) X dX11_joins_34 (by decide) ?_
      refine g_icmp_ne (tgt := 73) X dX11_joins_36 (by decide) (fun c_8 => ?_) (fun c_8 => ?_)
      · rw [if_neg c_8] at hF
        have hF := Option.some.inj hF
        subst hF
        exact g_vret X dX11_joins_73 ho
      · rw [if_pos c_8] at hF
        refine g_iload_n X dX11_joins_39 1 rfl rfl ?_
        refine g_bipush (v := 22) X dX11_joins_40 (by decide) ?_
        refine g_icmp_ne (tgt := 73) X dX11_joins_42 (by decide) (fun c_9 => ?_) (fun c_9 => ?_)
        · rw [if_neg c_9] at hF
          have hF := Option.some.inj hF
          subst hF
          exact g_vret X dX11_joins_73 ho
        · rw [if_pos c_9] at hF
          exact (wX11_joins_s45 X a0 x1 h0 k0 S r ho hk0 hF)
theorem wX11_joins_h0 {z : Mx} {ad : Nat → Nat} {o : Option Value × St} (X : CxOk z ad RX11 cX11_joins 2 none 2) (a0 : Nat) (x1 : Int32) (h0 : KT a0 = 11)  (r : St) (ho : o = (none, r)) : ∀ (n : Nat)  (S : St), fX11_joins_h0 a0 x1 n  S = some r → GW z ad o S 0 [(0, .ref (ad a0)), (1, .int x1)] [] := by
  intro n
  induction n with
  | zero => intro  S  hF; cases hF
  | succ n ih => intro  S  hF; exact wX11_joins_s0 X a0 x1 h0  (fX11_joins_h0 a0 x1 n)  S r ho ih hF
theorem wX11_joins {z : Mx} {ad : Nat → Nat} {o : Option Value × St} (X : CxOk z ad RX11 cX11_joins 2 none 2) (a0 : Nat) (x1 : Int32) (h0 : KT a0 = 11) (S : St) (r : St) (ho : o = (none, r)) (hF : fX11_joins a0 x1 S = some r) : GW z ad o S 0 [(0, .ref (ad a0)), (1, .int x1)] [] := by
  unfold fX11_joins at hF
  exact (wX11_joins_h0 X a0 x1 h0 r ho NN S hF)
theorem tX11_joins {ad : Nat → Nat} (hI : Inj ad) (l : Launch) (D : va_G) (cyy : Nat → ClassId) (a0 : Nat) (x1 : Int32) (h0 : KT a0 = 11) (S : St) (r : St) (hF : fX11_joins a0 x1 S = some r) : OkM l yX11_joins cX11_joins 2 none 2 ad D cyy [.ref (ad a0), .int x1] S (none, r) := okM_of hI (by decide) (inr_62 _ (List.mem_of_getElem? (i := 4) rfl)) (by show _ ≤ 2; exact Nat.le_of_ble_eq_true rfl) (fun z X => wX11_joins X a0 x1 h0 S r rfl hF)
def fX11_nots_s43 (k0 : St → Option St) (a0 : Nat)   (S : St) : Option St :=
  (fX11_code a0 (20 : Int32) (0 : Int32) (0 : Int32) S).bind fun r_4 =>
  k0  r_4
def fX11_nots_s33 (k0 : St → Option St) (a0 : Nat)   (S : St) : Option St :=
  fX11_nots_s43 k0 a0 (sI S 11 40 a0 ((gI S 11 40 a0) - (1 : Int32)))
def fX11_nots_s0 (k0 : St → Option St) (a0 : Nat)   (S : St) : Option St :=
  if (gI S 11 39 a0) ≤ 0 then (some S) else
  (if (((gI S 11 39 a0) - (1 : Int32)) < 0 ∨ 45 ≤ ((gI S 11 39 a0) - (1 : Int32)).toNatClampNeg) then none else
  if (gA S 38 (a0 + 11) (((gI S 11 39 a0) - (1 : Int32)).toNatClampNeg)) = (20 : Int32) then (fX11_nots_s33 k0 a0 (sI S 11 39 a0 ((gI S 11 39 a0) - (1 : Int32)))) else
  (some S))
def fX11_nots_h0 (a0 : Nat) : Nat → St → Option St
  | 0, _ => none
  | n + 1, S => fX11_nots_s0 (fX11_nots_h0 a0 n) a0  S
def fX11_nots (a0 : Nat) (S : St) : Option St :=
  fX11_nots_h0 a0 NN S
theorem wX11_nots_s43 {z : Mx} {ad : Nat → Nat} {o : Option Value × St} (X : CxOk z ad RX11 cX11_nots 1 none 2) (a0 : Nat) (h0 : KT a0 = 11)   (k0 : St → Option St)   (S : St) (r : St) (ho : o = (none, r)) (hk0 : ∀  (S : St), k0  S = some r → GW z ad o S 0 [(0, .ref (ad a0))] []) (hF : fX11_nots_s43 k0 a0   S = some r) : GW z ad o S 43 [(0, .ref (ad a0))] [] := by
  unfold fX11_nots_s43 at hF
  refine g_aload_n X dX11_nots_43 0 rfl rfl ?_
  refine g_bipush (v := 20) X dX11_nots_44 (by decide) ?_
  refine g_iconst (v := 0) X dX11_nots_46 (by decide) ?_
  refine g_iconst (v := 0) X dX11_nots_47 (by decide) ?_
  obtain ⟨r_4, q_5, hF⟩ := obind hF
  refine g_callVv (As := [.int (20 : Int32), .int (0 : Int32), .int (0 : Int32)]) X dX11_nots_48 mlX11_404 (fun l D cyy => tX11_code (cx_inj X) l D cyy a0 (20 : Int32) (0 : Int32) (0 : Int32) h0 S r_4 q_5) h0 (by decide) rfl rfl (Nat.le_of_ble_eq_true rfl) ?_
  refine g_goto (tgt := 0) X dX11_nots_51 (by decide) ?_
  exact (hk0  r_4 hF)
theorem wX11_nots_s33 {z : Mx} {ad : Nat → Nat} {o : Option Value × St} (X : CxOk z ad RX11 cX11_nots 1 none 2) (a0 : Nat) (h0 : KT a0 = 11)   (k0 : St → Option St)   (S : St) (r : St) (ho : o = (none, r)) (hk0 : ∀  (S : St), k0  S = some r → GW z ad o S 0 [(0, .ref (ad a0))] []) (hF : fX11_nots_s33 k0 a0   S = some r) : GW z ad o S 33 [(0, .ref (ad a0))] [] := by
  unfold fX11_nots_s33 at hF
  refine g_aload_n X dX11_nots_33 0 rfl rfl ?_
  refine g_dup (a := .ref (ad a0)) X dX11_nots_34 rfl ?_
  refine g_getI X dX11_nots_35 flX11_408 rfl h0 ?_
  refine g_iconst (v := 1) X dX11_nots_38 (by decide) ?_
  refine g_isub X dX11_nots_39 ?_
  refine g_putI X dX11_nots_40 fpX11_408 rfl rfl rfl h0 ?_
  exact (wX11_nots_s43 X a0 h0 k0 (sI S 11 40 a0 ((gI S 11 40 a0) - (1 : Int32))) r ho hk0 hF)
theorem wX11_nots_s0 {z : Mx} {ad : Nat → Nat} {o : Option Value × St} (X : CxOk z ad RX11 cX11_nots 1 none 2) (a0 : Nat) (h0 : KT a0 = 11)   (k0 : St → Option St)   (S : St) (r : St) (ho : o = (none, r)) (hk0 : ∀  (S : St), k0  S = some r → GW z ad o S 0 [(0, .ref (ad a0))] []) (hF : fX11_nots_s0 k0 a0   S = some r) : GW z ad o S 0 [(0, .ref (ad a0))] [] := by
  unfold fX11_nots_s0 at hF
  refine g_aload_n X dX11_nots_0 0 rfl rfl ?_
  refine g_getI X dX11_nots_1 flX11_401 rfl h0 ?_
  refine g_if_le (tgt := 54) X dX11_nots_4 (by decide) (fun c_1 => ?_) (fun c_1 => ?_)
  · rw [if_pos c_1] at hF
    have hF := Option.some.inj hF
    subst hF
    exact g_vret X dX11_nots_54 ho
  · rw [if_neg c_1] at hF
    refine g_aload_n X dX11_nots_7 0 rfl rfl ?_
    refine g_getR (f := 11) X dX11_nots_8 flX11_74 rfl rfl h0 ?_
    refine g_aload_n X dX11_nots_11 0 rfl rfl ?_
    refine g_getI X dX11_nots_12 flX11_401 rfl h0 ?_
    refine g_iconst (v := 1) X dX11_nots_15 (by decide) ?_
    refine g_isub X dX11_nots_16 ?_
    obtain ⟨e_2, hF⟩ := oguard hF
    refine g_iald X dX11_nots_17 kd_38 (on_11_36 h0) e_2 ?_
    refine g_bipush (v := 20) X dX11_nots_18 (by decide) ?_
    refine g_icmp_ne (tgt := 54) X dX11_nots_20 (by decide) (fun c_3 => ?_) (fun c_3 => ?_)
    · rw [if_neg c_3] at hF
      have hF := Option.some.inj hF
      subst hF
      exact g_vret X dX11_nots_54 ho
    · rw [if_pos c_3] at hF
      refine g_aload_n X dX11_nots_23 0 rfl rfl ?_
      refine g_dup (a := .ref (ad a0)) X dX11_nots_24 rfl ?_
      refine g_getI X dX11_nots_25 flX11_401 rfl h0 ?_
      refine g_iconst (v := 1) X dX11_nots_28 (by decide) ?_
      refine g_isub X dX11_nots_29 ?_
      refine g_putI X dX11_nots_30 fpX11_401 rfl rfl rfl h0 ?_
      exact (wX11_nots_s33 X a0 h0 k0 (sI S 11 39 a0 ((gI S 11 39 a0) - (1 : Int32))) r ho hk0 hF)
theorem wX11_nots_h0 {z : Mx} {ad : Nat → Nat} {o : Option Value × St} (X : CxOk z ad RX11 cX11_nots 1 none 2) (a0 : Nat) (h0 : KT a0 = 11)  (r : St) (ho : o = (none, r)) : ∀ (n : Nat)  (S : St), fX11_nots_h0 a0 n  S = some r → GW z ad o S 0 [(0, .ref (ad a0))] [] := by
  intro n
  induction n with
  | zero => intro  S  hF; cases hF
  | succ n ih => intro  S  hF; exact wX11_nots_s0 X a0 h0  (fX11_nots_h0 a0 n)  S r ho ih hF
theorem wX11_nots {z : Mx} {ad : Nat → Nat} {o : Option Value × St} (X : CxOk z ad RX11 cX11_nots 1 none 2) (a0 : Nat) (h0 : KT a0 = 11) (S : St) (r : St) (ho : o = (none, r)) (hF : fX11_nots a0 S = some r) : GW z ad o S 0 [(0, .ref (ad a0))] [] := by
  unfold fX11_nots at hF
  exact (wX11_nots_h0 X a0 h0 r ho NN S hF)
theorem tX11_nots {ad : Nat → Nat} (hI : Inj ad) (l : Launch) (D : va_G) (cyy : Nat → ClassId) (a0 : Nat) (h0 : KT a0 = 11) (S : St) (r : St) (hF : fX11_nots a0 S = some r) : OkM l yX11_nots cX11_nots 1 none 2 ad D cyy [.ref (ad a0)] S (none, r) := okM_of hI (by decide) (inr_61 _ (List.mem_of_getElem? (i := 20) rfl)) (by show _ ≤ 1; exact Nat.le_of_ble_eq_true rfl) (fun z X => wX11_nots X a0 h0 S r rfl hF)
def fX11_leafOf (a0 : Nat) (S : St) : Int32 :=
  if (fX11_isWord a0 (27696098611389806 : Int64) S) = 0 then (if (fX11_isWord a0 (1751477348 : Int64) S) = 0 then (if (fX11_isWord a0 (461262647411 : Int64) S) = 0 then (if (fX11_isWord a0 (2003399784 : Int64) S) = 0 then (if (fX11_isWord a0 (2036687218 : Int64) S) = 0 then (if (fX11_isWord a0 (470020945000 : Int64) S) = 0 then (if (fX11_isWord a0 (1684108389 : Int64) S) = 0 then (if (fX11_isWord a0 (2003133803 : Int64) S) = 0 then (if (fX11_isWord a0 (121450625394034 : Int64) S) = 0 then ((-1 : Int32)) else
  ((8 : Int32))) else
  ((7 : Int32))) else
  ((6 : Int32))) else
  ((5 : Int32))) else
  ((4 : Int32))) else
  ((3 : Int32))) else
  ((2 : Int32))) else
  ((1 : Int32))) else
  ((0 : Int32))
theorem wX11_leafOf {z : Mx} {ad : Nat → Nat} {o : Option Value × St} (X : CxOk z ad RX11 cX11_leafOf 1 (some .int) 2) (a0 : Nat) (h0 : KT a0 = 11) (S : St) (r : Int32) (ho : o = (some (.int r), S)) (hF : fX11_leafOf a0 S = r) : GW z ad o S 0 [(0, .ref (ad a0))] [] := by
  unfold fX11_leafOf at hF
  refine g_aload_n X dX11_leafOf_0 0 rfl rfl ?_
  refine g_ldc2 (v := 27696098611389806) X dX11_leafOf_1 (inr_7 _ (List.mem_of_getElem? (i := 20) rfl)) ?_
  refine g_callVi (As := [.long (27696098611389806 : Int64)]) X dX11_leafOf_4 mlX11_195 (fun l D cyy => tX11_isWord (cx_inj X) l D cyy a0 (27696098611389806 : Int64) h0 S) h0 (by decide) rfl rfl (Nat.le_of_ble_eq_true rfl) ?_
  refine g_if_eq (tgt := 14) X dX11_leafOf_7 (by decide) (fun c_1 => ?_) (fun c_1 => ?_)
  · rw [if_pos c_1] at hF
    refine g_aload_n X dX11_leafOf_14 0 rfl rfl ?_
    refine g_ldc2 (v := 1751477348) X dX11_leafOf_15 (inr_7 _ (List.mem_of_getElem? (i := 21) rfl)) ?_
    refine g_callVi (As := [.long (1751477348 : Int64)]) X dX11_leafOf_18 mlX11_195 (fun l D cyy => tX11_isWord (cx_inj X) l D cyy a0 (1751477348 : Int64) h0 S) h0 (by decide) rfl rfl (Nat.le_of_ble_eq_true rfl) ?_
    refine g_if_eq (tgt := 28) X dX11_leafOf_21 (by decide) (fun c_2 => ?_) (fun c_2 => ?_)
    · rw [if_pos c_2] at hF
      refine g_aload_n X dX11_leafOf_28 0 rfl rfl ?_
      refine g_ldc2 (v := 461262647411) X dX11_leafOf_29 (inr_7 _ (List.mem_of_getElem? (i := 22) rfl)) ?_
      refine g_callVi (As := [.long (461262647411 : Int64)]) X dX11_leafOf_32 mlX11_195 (fun l D cyy => tX11_isWord (cx_inj X) l D cyy a0 (461262647411 : Int64) h0 S) h0 (by decide) rfl rfl (Nat.le_of_ble_eq_true rfl) ?_
      refine g_if_eq (tgt := 42) X dX11_leafOf_35 (by decide) (fun c_3 => ?_) (fun c_3 => ?_)
      · rw [if_pos c_3] at hF
        refine g_aload_n X dX11_leafOf_42 0 rfl rfl ?_
        refine g_ldc2 (v := 2003399784) X dX11_leafOf_43 (inr_7 _ (List.mem_of_getElem? (i := 23) rfl)) ?_
        refine g_callVi (As := [.long (2003399784 : Int64)]) X dX11_leafOf_46 mlX11_195 (fun l D cyy => tX11_isWord (cx_inj X) l D cyy a0 (2003399784 : Int64) h0 S) h0 (by decide) rfl rfl (Nat.le_of_ble_eq_true rfl) ?_
        refine g_if_eq (tgt := 56) X dX11_leafOf_49 (by decide) (fun c_4 => ?_) (fun c_4 => ?_)
        · rw [if_pos c_4] at hF
          refine g_aload_n X dX11_leafOf_56 0 rfl rfl ?_
          refine g_ldc2 (v := 2036687218) X dX11_leafOf_57 (inr_8 _ (List.mem_of_getElem? (i := 0) rfl)) ?_
          refine g_callVi (As := [.long (2036687218 : Int64)]) X dX11_leafOf_60 mlX11_195 (fun l D cyy => tX11_isWord (cx_inj X) l D cyy a0 (2036687218 : Int64) h0 S) h0 (by decide) rfl rfl (Nat.le_of_ble_eq_true rfl) ?_
          refine g_if_eq (tgt := 70) X dX11_leafOf_63 (by decide) (fun c_5 => ?_) (fun c_5 => ?_)
          · rw [if_pos c_5] at hF
            refine g_aload_n X dX11_leafOf_70 0 rfl rfl ?_
            refine g_ldc2 (v := 470020945000) X dX11_leafOf_71 (inr_8 _ (List.mem_of_getElem? (i := 1) rfl)) ?_
            refine g_callVi (As := [.long (470020945000 : Int64)]) X dX11_leafOf_74 mlX11_195 (fun l D cyy => tX11_isWord (cx_inj X) l D cyy a0 (470020945000 : Int64) h0 S) h0 (by decide) rfl rfl (Nat.le_of_ble_eq_true rfl) ?_
            refine g_if_eq (tgt := 84) X dX11_leafOf_77 (by decide) (fun c_6 => ?_) (fun c_6 => ?_)
            · rw [if_pos c_6] at hF
              refine g_aload_n X dX11_leafOf_84 0 rfl rfl ?_
              refine g_ldc2 (v := 1684108389) X dX11_leafOf_85 (inr_8 _ (List.mem_of_getElem? (i := 2) rfl)) ?_
              refine g_callVi (As := [.long (1684108389 : Int64)]) X dX11_leafOf_88 mlX11_195 (fun l D cyy => tX11_isWord (cx_inj X) l D cyy a0 (1684108389 : Int64) h0 S) h0 (by decide) rfl rfl (Nat.le_of_ble_eq_true rfl) ?_
              refine g_if_eq (tgt := 99) X dX11_leafOf_91 (by decide) (fun c_7 => ?_) (fun c_7 => ?_)
              · rw [if_pos c_7] at hF
                refine g_aload_n X dX11_leafOf_99 0 rfl rfl ?_
                refine g_ldc2 (v := 2003133803) X dX11_leafOf_100 (inr_8 _ (List.mem_of_getElem? (i := 3) rfl)) ?_
                refine g_callVi (As := [.long (2003133803 : Int64)]) X dX11_leafOf_103 mlX11_195 (fun l D cyy => tX11_isWord (cx_inj X) l D cyy a0 (2003133803 : Int64) h0 S) h0 (by decide) rfl rfl (Nat.le_of_ble_eq_true rfl) ?_
                refine g_if_eq (tgt := 114) X dX11_leafOf_106 (by decide) (fun c_8 => ?_) (fun c_8 => ?_)
                · rw [if_pos c_8] at hF
                  refine g_aload_n X dX11_leafOf_114 0 rfl rfl ?_
                  refine g_ldc2 (v := 121450625394034) X dX11_leafOf_115 (inr_8 _ (List.mem_of_getElem? (i := 4) rfl)) ?_
                  refine g_callVi (As := [.long (121450625394034 : Int64)]) X dX11_leafOf_118 mlX11_195 (fun l D cyy => tX11_isWord (cx_inj X) l D cyy a0 (121450625394034 : Int64) h0 S) h0 (by decide) rfl rfl (Nat.le_of_ble_eq_true rfl) ?_
                  refine g_if_eq (tgt := 129) X dX11_leafOf_121 (by decide) (fun c_9 => ?_) (fun c_9 => ?_)
                  · rw [if_pos c_9] at hF
                    refine g_iconst (v := -1) X dX11_leafOf_129 (by decide) ?_
                    subst hF
                    exact g_iret X dX11_leafOf_130 ho
                  · rw [if_neg c_9] at hF
                    refine g_bipush (v := 8) X dX11_leafOf_124 (by decide) ?_
                    refine g_goto (tgt := 130) X dX11_leafOf_126 (by decide) ?_
                    subst hF
                    exact g_iret X dX11_leafOf_130 ho
                · rw [if_neg c_8] at hF
                  refine g_bipush (v := 7) X dX11_leafOf_109 (by decide) ?_
                  refine g_goto (tgt := 130) X dX11_leafOf_111 (by decide) ?_
                  subst hF
                  exact g_iret X dX11_leafOf_130 ho
              · rw [if_neg c_7] at hF
                refine g_bipush (v := 6) X dX11_leafOf_94 (by decide) ?_
                refine g_goto (tgt := 130) X dX11_leafOf_96 (by decide) ?_
                subst hF
                exact g_iret X dX11_leafOf_130 ho
            · rw [if_neg c_6] at hF
              refine g_iconst (v := 5) X dX11_leafOf_80 (by decide) ?_
              refine g_goto (tgt := 130) X dX11_leafOf_81 (by decide) ?_
              subst hF
              exact g_iret X dX11_leafOf_130 ho
          · rw [if_neg c_5] at hF
            refine g_iconst (v := 4) X dX11_leafOf_66 (by decide) ?_
            refine g_goto (tgt := 130) X dX11_leafOf_67 (by decide) ?_
            subst hF
            exact g_iret X dX11_leafOf_130 ho
        · rw [if_neg c_4] at hF
          refine g_iconst (v := 3) X dX11_leafOf_52 (by decide) ?_
          refine g_goto (tgt := 130) X dX11_leafOf_53 (by decide) ?_
          subst hF
          exact g_iret X dX11_leafOf_130 ho
      · rw [if_neg c_3] at hF
        refine g_iconst (v := 2) X dX11_leafOf_38 (by decide) ?_
        refine g_goto (tgt := 130) X dX11_leafOf_39 (by decide) ?_
        subst hF
        exact g_iret X dX11_leafOf_130 ho
    · rw [if_neg c_2] at hF
      refine g_iconst (v := 1) X dX11_leafOf_24 (by decide) ?_
      refine g_goto (tgt := 130) X dX11_leafOf_25 (by decide) ?_
      subst hF
      exact g_iret X dX11_leafOf_130 ho
  · rw [if_neg c_1] at hF
    refine g_iconst (v := 0) X dX11_leafOf_10 (by decide) ?_
    refine g_goto (tgt := 130) X dX11_leafOf_11 (by decide) ?_
    subst hF
    exact g_iret X dX11_leafOf_130 ho
theorem tX11_leafOf {ad : Nat → Nat} (hI : Inj ad) (l : Launch) (D : va_G) (cyy : Nat → ClassId) (a0 : Nat) (h0 : KT a0 = 11) (S : St) : OkM l yX11_leafOf cX11_leafOf 1 (some .int) 2 ad D cyy [.ref (ad a0)] S (some (.int (fX11_leafOf a0 S)), S) := okM_of hI (by decide) (inr_62 _ (List.mem_of_getElem? (i := 16) rfl)) (by show _ ≤ 1; exact Nat.le_of_ble_eq_true rfl) (fun z X => wX11_leafOf X a0 h0 S _ rfl rfl)
def fX11_operand_s61 (a0 : Nat)  (t0 : Int32) (S : St) : Option (Int32 × St) :=
  some ((vp_nar .boolean t0), S)
def fX11_operand_s56 (a0 : Nat)   (S : St) : Option (Int32 × St) :=
  fX11_operand_s61 a0 ((fX11_bad a0 (4 : Int32) S).1) ((fX11_bad a0 (4 : Int32) S).2)
def fX11_operand_s124 (a0 : Nat)   (S : St) : Option (Int32 × St) :=
  some ((1 : Int32), S)
def fX11_operand_s114 (a0 : Nat)   (S : St) : Option (Int32 × St) :=
  fX11_operand_s124 a0 (sI S 11 40 a0 ((gI S 11 40 a0) + (1 : Int32)))
def fX11_operand_s104 (a0 : Nat)   (S : St) : Option (Int32 × St) :=
  fX11_operand_s114 a0 (sI S 11 39 a0 ((gI S 11 39 a0) + (1 : Int32)))
def fX11_operand_s84 (a0 : Nat) (y1 : Int32)  (S : St) : Option (Int32 × St) :=
  if y1 = 0 then (if ((gI S 11 39 a0) < 0 ∨ 45 ≤ (gI S 11 39 a0).toNatClampNeg) then none else
  fX11_operand_s104 a0 (sA S 38 (a0 + 11) ((gI S 11 39 a0).toNatClampNeg) (23 : Int32))) else
  (if ((gI S 11 39 a0) < 0 ∨ 45 ≤ (gI S 11 39 a0).toNatClampNeg) then none else
  fX11_operand_s104 a0 (sA S 38 (a0 + 11) ((gI S 11 39 a0).toNatClampNeg) (20 : Int32)))
def fX11_operand_s236 (a0 : Nat)  (t0 : Int32) (S : St) : Option (Int32 × St) :=
  some ((vp_nar .boolean t0), S)
def fX11_operand_s231 (a0 : Nat)   (S : St) : Option (Int32 × St) :=
  fX11_operand_s236 a0 ((fX11_bad a0 (1 : Int32) S).1) ((fX11_bad a0 (1 : Int32) S).2)
def fX11_operand_s260 (a0 : Nat)  (t0 : Int32) (S : St) : Option (Int32 × St) :=
  some ((vp_nar .boolean t0), S)
def fX11_operand_s243 (a0 : Nat) (y3 : Int32) (y4 : Int32)  (S : St) : Option (Int32 × St) :=
  (fX11_step a0 S).bind fun r_16 =>
  if (gI r_16 11 11 a0) = (2 : Int32) then ((fX11_code a0 y3 y4 (gI r_16 11 14 a0) r_16).bind fun r_19 =>
  (fX11_step a0 r_19).bind fun r_21 =>
  some ((1 : Int32), r_21)) else
  (fX11_operand_s260 a0 ((fX11_bad a0 (1 : Int32) r_16).1) ((fX11_bad a0 (1 : Int32) r_16).2))
def fX11_operand_s180 (a0 : Nat) (y3 : Int32) (t0 : Int32) (S : St) : Option (Int32 × St) :=
  if t0 = 0 then (some ((0 : Int32), S)) else
  ((fX11_code a0 y3 (0 : Int32) (gI S 11 18 a0) S).bind fun r_27 =>
  (fX11_step a0 r_27).bind fun r_29 =>
  some ((1 : Int32), r_29))
def fX11_operand_s166 (a0 : Nat) (y3 : Int32) (t0 : Int32) (S : St) : Option (Int32 × St) :=
  if t0 = 0 then (some ((0 : Int32), S)) else
  ((fX11_code a0 y3 (0 : Int32) (gI S 11 18 a0) S).bind fun r_34 =>
  (fX11_step a0 r_34).bind fun r_36 =>
  some ((1 : Int32), r_36))
def fX11_operand_s131 (a0 : Nat) (y3 : Int32)  (S : St) : Option (Int32 × St) :=
  if (2 : Int32) ≤ y3 then (if (4 : Int32) ≤ y3 then (if (gI S 11 11 a0) = (3 : Int32) then (if (gI S 11 14 a0) < (60 : Int32) then (fX11_operand_s231 a0 S) else
  (if (gI S 11 14 a0) ≤ (62 : Int32) then (fX11_operand_s243 a0 y3 (gI S 11 14 a0) S) else
  (fX11_operand_s231 a0 S))) else
  (fX11_operand_s231 a0 S)) else
  (if y3 = (2 : Int32) then ((fX11_looksAt a0 (5 : Int32) (gA S 29 (a0 + 2) 1) S).bind fun r_31 =>
  fX11_operand_s166 a0 y3 r_31.1 r_31.2) else
  ((fX11_looksAt a0 (0 : Int32) (gA S 29 (a0 + 2) 0) S).bind fun r_24 =>
  fX11_operand_s180 a0 y3 r_24.1 r_24.2))) else
  ((fX11_code a0 y3 (0 : Int32) (0 : Int32) S).bind fun r_38 =>
  some ((1 : Int32), r_38))
def fX11_operand_s72 (a0 : Nat) (y1 : Int32) (y2 : Int32) (y3 : Int32)  (S : St) : Option (Int32 × St) :=
  (fX11_step a0 S).bind fun r_4 =>
  if y1 = 0 then (if y2 = 0 then (fX11_operand_s131 a0 y3 (sI r_4 11 41 a0 (1 : Int32))) else
  (fX11_operand_s84 a0 y1 r_4)) else
  (fX11_operand_s84 a0 y1 r_4)
def fX11_operand_s38 (a0 : Nat) (y1 : Int32) (y2 : Int32) (y3 : Int32)  (S : St) : Option (Int32 × St) :=
  if (gI S 11 38 a0) = (20 : Int32) then (fX11_operand_s56 a0 S) else
  (if (gI S 11 40 a0) ≤ (8 : Int32) then (fX11_operand_s72 a0 y1 y2 y3 (sI S 11 38 a0 ((gI S 11 38 a0) + (1 : Int32)))) else
  (fX11_operand_s56 a0 S))
def fX11_operand_s37 (a0 : Nat)  (t0 : Int32) (S : St) : Option (Int32 × St) :=
  some ((vp_nar .boolean t0), S)
def fX11_operand_s20 (a0 : Nat) (y1 : Int32) (y2 : Int32) (y3 : Int32)  (S : St) : Option (Int32 × St) :=
  if y1 = 0 then (if y2 = 0 then (if 0 ≤ y3 then (fX11_operand_s38 a0 y1 y2 y3 S) else
  (fX11_operand_s37 a0 ((fX11_bad a0 (1 : Int32) S).1) ((fX11_bad a0 (1 : Int32) S).2))) else
  (fX11_operand_s38 a0 y1 y2 y3 S)) else
  (fX11_operand_s38 a0 y1 y2 y3 S)
def fX11_operand_s15 (a0 : Nat) (y1 : Int32) (y2 : Int32)  (S : St) : Option (Int32 × St) :=
  fX11_operand_s20 a0 y1 y2 (fX11_leafOf a0 S) S
def fX11_operand_s8 (a0 : Nat) (y1 : Int32)  (S : St) : Option (Int32 × St) :=
  fX11_operand_s15 a0 y1 (fX11_isSign a0 (40 : Int32) S) S
def fX11_operand (a0 : Nat) (S : St) : Option (Int32 × St) :=
  fX11_operand_s8 a0 (fX11_isWord a0 (7237492 : Int64) S) S
theorem wX11_operand_s61 {z : Mx} {ad : Nat → Nat} {o : Option Value × St} (X : CxOk z ad RX11 cX11_operand 5 (some .boolean) 3) (a0 : Nat) (h0 : KT a0 = 11)  (t0 : Int32)   (S : St) (r : (Int32 × St)) (ho : o = (some (.int r.1), r.2)) (hF : fX11_operand_s61 a0  t0 S = some r) : GW z ad o S 61 [] [.int t0] := by
  unfold fX11_operand_s61 at hF
  have hF := Option.some.inj hF
  subst hF
  exact g_zretN X dX11_operand_61 ho
theorem wX11_operand_s56 {z : Mx} {ad : Nat → Nat} {o : Option Value × St} (X : CxOk z ad RX11 cX11_operand 5 (some .boolean) 3) (a0 : Nat) (h0 : KT a0 = 11)     (S : St) (r : (Int32 × St)) (ho : o = (some (.int r.1), r.2)) (hF : fX11_operand_s56 a0   S = some r) : GW z ad o S 56 [(0, .ref (ad a0))] [] := by
  unfold fX11_operand_s56 at hF
  refine g_aload_n X dX11_operand_56 0 rfl rfl ?_
  refine g_iconst (v := 4) X dX11_operand_57 (by decide) ?_
  refine g_callVi (As := [.int (4 : Int32)]) X dX11_operand_58 mlX11_167 (fun l D cyy => tX11_bad (cx_inj X) l D cyy a0 (4 : Int32) h0 S) h0 (by decide) rfl rfl (Nat.le_of_ble_eq_true rfl) ?_
  exact g_perm [] rfl (wX11_operand_s61 X a0 h0 ((fX11_bad a0 (4 : Int32) S).1) ((fX11_bad a0 (4 : Int32) S).2) r ho hF)
theorem wX11_operand_s124 {z : Mx} {ad : Nat → Nat} {o : Option Value × St} (X : CxOk z ad RX11 cX11_operand 5 (some .boolean) 3) (a0 : Nat) (h0 : KT a0 = 11)     (S : St) (r : (Int32 × St)) (ho : o = (some (.int r.1), r.2)) (hF : fX11_operand_s124 a0   S = some r) : GW z ad o S 124 [] [] := by
  unfold fX11_operand_s124 at hF
  refine g_iconst (v := 1) X dX11_operand_124 (by decide) ?_
  have hF := Option.some.inj hF
  subst hF
  exact g_zret X dX11_operand_125 (by decide) ho
theorem wX11_operand_s114 {z : Mx} {ad : Nat → Nat} {o : Option Value × St} (X : CxOk z ad RX11 cX11_operand 5 (some .boolean) 3) (a0 : Nat) (h0 : KT a0 = 11)     (S : St) (r : (Int32 × St)) (ho : o = (some (.int r.1), r.2)) (hF : fX11_operand_s114 a0   S = some r) : GW z ad o S 114 [(0, .ref (ad a0))] [] := by
  unfold fX11_operand_s114 at hF
  refine g_aload_n X dX11_operand_114 0 rfl rfl ?_
  refine g_dup (a := .ref (ad a0)) X dX11_operand_115 rfl ?_
  refine g_getI X dX11_operand_116 flX11_408 rfl h0 ?_
  refine g_iconst (v := 1) X dX11_operand_119 (by decide) ?_
  refine g_iadd X dX11_operand_120 ?_
  refine g_putI X dX11_operand_121 fpX11_408 rfl rfl rfl h0 ?_
  exact g_perm [] rfl (wX11_operand_s124 X a0 h0 (sI S 11 40 a0 ((gI S 11 40 a0) + (1 : Int32))) r ho hF)
theorem wX11_operand_s104 {z : Mx} {ad : Nat → Nat} {o : Option Value × St} (X : CxOk z ad RX11 cX11_operand 5 (some .boolean) 3) (a0 : Nat) (h0 : KT a0 = 11)     (S : St) (r : (Int32 × St)) (ho : o = (some (.int r.1), r.2)) (hF : fX11_operand_s104 a0   S = some r) : GW z ad o S 104 [(0, .ref (ad a0))] [] := by
  unfold fX11_operand_s104 at hF
  refine g_aload_n X dX11_operand_104 0 rfl rfl ?_
  refine g_dup (a := .ref (ad a0)) X dX11_operand_105 rfl ?_
  refine g_getI X dX11_operand_106 flX11_401 rfl h0 ?_
  refine g_iconst (v := 1) X dX11_operand_109 (by decide) ?_
  refine g_iadd X dX11_operand_110 ?_
  refine g_putI X dX11_operand_111 fpX11_401 rfl rfl rfl h0 ?_
  exact (wX11_operand_s114 X a0 h0 (sI S 11 39 a0 ((gI S 11 39 a0) + (1 : Int32))) r ho hF)
theorem wX11_operand_s84 {z : Mx} {ad : Nat → Nat} {o : Option Value × St} (X : CxOk z ad RX11 cX11_operand 5 (some .boolean) 3) (a0 : Nat) (h0 : KT a0 = 11) (y1 : Int32)    (S : St) (r : (Int32 × St)) (ho : o = (some (.int r.1), r.2)) (hF : fX11_operand_s84 a0 y1  S = some r) : GW z ad o S 84 [(0, .ref (ad a0)), (1, .int y1)] [] := by
  unfold fX11_operand_s84 at hF
  refine g_aload_n X dX11_operand_84 0 rfl rfl ?_
  refine g_getR (f := 11) X dX11_operand_85 flX11_74 rfl rfl h0 ?_
  refine g_aload_n X dX11_operand_88 0 rfl rfl ?_
  refine g_getI X dX11_operand_89 flX11_401 rfl h0 ?_
  refine g_iload_n X dX11_operand_92 1 rfl rfl ?_
  refine g_if_eq (tgt := 101) X dX11_operand_93 (by decide) (fun c_7 => ?_) (fun c_7 => ?_)
  · rw [if_pos c_7] at hF
    refine g_bipush (v := 23) X dX11_operand_101 (by decide) ?_
    obtain ⟨e_8, hF⟩ := oguard hF
    refine g_iast X dX11_operand_103 kd_38 (on_11_36 h0) e_8 ?_
    exact g_perm [0] rfl (wX11_operand_s104 X a0 h0 (sA S 38 (a0 + 11) ((gI S 11 39 a0).toNatClampNeg) (23 : Int32)) r ho hF)
  · rw [if_neg c_7] at hF
    refine g_bipush (v := 20) X dX11_operand_96 (by decide) ?_
    refine g_goto (tgt := 103) X dX11_operand_98 (by decide) ?_
    obtain ⟨e_9, hF⟩ := oguard hF
    refine g_iast X dX11_operand_103 kd_38 (on_11_36 h0) e_9 ?_
    exact g_perm [0] rfl (wX11_operand_s104 X a0 h0 (sA S 38 (a0 + 11) ((gI S 11 39 a0).toNatClampNeg) (20 : Int32)) r ho hF)
theorem wX11_operand_s236 {z : Mx} {ad : Nat → Nat} {o : Option Value × St} (X : CxOk z ad RX11 cX11_operand 5 (some .boolean) 3) (a0 : Nat) (h0 : KT a0 = 11)  (t0 : Int32)   (S : St) (r : (Int32 × St)) (ho : o = (some (.int r.1), r.2)) (hF : fX11_operand_s236 a0  t0 S = some r) : GW z ad o S 236 [] [.int t0] := by
  unfold fX11_operand_s236 at hF
  have hF := Option.some.inj hF
  subst hF
  exact g_zretN X dX11_operand_236 ho
theorem wX11_operand_s231 {z : Mx} {ad : Nat → Nat} {o : Option Value × St} (X : CxOk z ad RX11 cX11_operand 5 (some .boolean) 3) (a0 : Nat) (h0 : KT a0 = 11)     (S : St) (r : (Int32 × St)) (ho : o = (some (.int r.1), r.2)) (hF : fX11_operand_s231 a0   S = some r) : GW z ad o S 231 [(0, .ref (ad a0))] [] := by
  unfold fX11_operand_s231 at hF
  refine g_aload_n X dX11_operand_231 0 rfl rfl ?_
  refine g_iconst (v := 1) X dX11_operand_232 (by decide) ?_
  refine g_callVi (As := [.int (1 : Int32)]) X dX11_operand_233 mlX11_167 (fun l D cyy => tX11_bad (cx_inj X) l D cyy a0 (1 : Int32) h0 S) h0 (by decide) rfl rfl (Nat.le_of_ble_eq_true rfl) ?_
  exact g_perm [] rfl (wX11_operand_s236 X a0 h0 ((fX11_bad a0 (1 : Int32) S).1) ((fX11_bad a0 (1 : Int32) S).2) r ho hF)
theorem wX11_operand_s260 {z : Mx} {ad : Nat → Nat} {o : Option Value × St} (X : CxOk z ad RX11 cX11_operand 5 (some .boolean) 3) (a0 : Nat) (h0 : KT a0 = 11)  (t0 : Int32)   (S : St) (r : (Int32 × St)) (ho : o = (some (.int r.1), r.2)) (hF : fX11_operand_s260 a0  t0 S = some r) : GW z ad o S 260 [] [.int t0] := by
  unfold fX11_operand_s260 at hF
  have hF := Option.some.inj hF
  subst hF
  exact g_zretN X dX11_operand_260 ho
theorem wX11_operand_s243 {z : Mx} {ad : Nat → Nat} {o : Option Value × St} (X : CxOk z ad RX11 cX11_operand 5 (some .boolean) 3) (a0 : Nat) (h0 : KT a0 = 11) (y3 : Int32) (y4 : Int32)    (S : St) (r : (Int32 × St)) (ho : o = (some (.int r.1), r.2)) (hF : fX11_operand_s243 a0 y3 y4  S = some r) : GW z ad o S 243 [(0, .ref (ad a0)), (3, .int y3), (4, .int y4)] [] := by
  unfold fX11_operand_s243 at hF
  refine g_aload_n X dX11_operand_243 0 rfl rfl ?_
  obtain ⟨r_16, q_17, hF⟩ := obind hF
  refine g_callVv (As := []) X dX11_operand_244 mlX11_170 (fun l D cyy => tX11_step (cx_inj X) l D cyy a0 h0 S r_16 q_17) h0 (by decide) rfl rfl (Nat.le_of_ble_eq_true rfl) ?_
  refine g_aload_n X dX11_operand_247 0 rfl rfl ?_
  refine g_getI X dX11_operand_248 flX11_141 rfl h0 ?_
  refine g_iconst (v := 2) X dX11_operand_251 (by decide) ?_
  refine g_icmp_eq (tgt := 261) X dX11_operand_252 (by decide) (fun c_18 => ?_) (fun c_18 => ?_)
  · rw [if_pos c_18] at hF
    refine g_aload_n X dX11_operand_261 0 rfl rfl ?_
    refine g_iload_n X dX11_operand_262 1 rfl rfl ?_
    refine g_iload X dX11_operand_263 2 rfl ?_
    refine g_aload_n X dX11_operand_265 0 rfl rfl ?_
    refine g_getI X dX11_operand_266 flX11_151 rfl h0 ?_
    obtain ⟨r_19, q_20, hF⟩ := obind hF
    refine g_callVv (As := [.int y3, .int y4, .int (gI r_16 11 14 a0)]) X dX11_operand_269 mlX11_404 (fun l D cyy => tX11_code (cx_inj X) l D cyy a0 y3 y4 (gI r_16 11 14 a0) h0 r_16 r_19 q_20) h0 (by decide) rfl rfl (Nat.le_of_ble_eq_true rfl) ?_
    refine g_aload_n X dX11_operand_272 0 rfl rfl ?_
    obtain ⟨r_21, q_22, hF⟩ := obind hF
    refine g_callVv (As := []) X dX11_operand_273 mlX11_170 (fun l D cyy => tX11_step (cx_inj X) l D cyy a0 h0 r_19 r_21 q_22) h0 (by decide) rfl rfl (Nat.le_of_ble_eq_true rfl) ?_
    refine g_iconst (v := 1) X dX11_operand_276 (by decide) ?_
    have hF := Option.some.inj hF
    subst hF
    exact g_zret X dX11_operand_277 (by decide) ho
  · rw [if_neg c_18] at hF
    refine g_aload_n X dX11_operand_255 0 rfl rfl ?_
    refine g_iconst (v := 1) X dX11_operand_256 (by decide) ?_
    refine g_callVi (As := [.int (1 : Int32)]) X dX11_operand_257 mlX11_167 (fun l D cyy => tX11_bad (cx_inj X) l D cyy a0 (1 : Int32) h0 r_16) h0 (by decide) rfl rfl (Nat.le_of_ble_eq_true rfl) ?_
    exact g_perm [] rfl (wX11_operand_s260 X a0 h0 ((fX11_bad a0 (1 : Int32) r_16).1) ((fX11_bad a0 (1 : Int32) r_16).2) r ho hF)
theorem wX11_operand_s180 {z : Mx} {ad : Nat → Nat} {o : Option Value × St} (X : CxOk z ad RX11 cX11_operand 5 (some .boolean) 3) (a0 : Nat) (h0 : KT a0 = 11) (y3 : Int32) (t0 : Int32)   (S : St) (r : (Int32 × St)) (ho : o = (some (.int r.1), r.2)) (hF : fX11_operand_s180 a0 y3 t0 S = some r) : GW z ad o S 180 [(0, .ref (ad a0)), (3, .int y3)] [.int t0] := by
  unfold fX11_operand_s180 at hF
  refine g_istore X dX11_operand_180 (by decide) (lv' := [(4, .int t0), (0, .ref (ad a0)), (3, .int y3)]) rfl ?_
  refine g_iload X dX11_operand_182 0 rfl ?_
  refine g_if_ne (tgt := 189) X dX11_operand_184 (by decide) (fun c_26 => ?_) (fun c_26 => ?_)
  · rw [if_neg c_26] at hF
    refine g_aload_n X dX11_operand_189 1 rfl rfl ?_
    refine g_iload_n X dX11_operand_190 2 rfl rfl ?_
    refine g_iconst (v := 0) X dX11_operand_191 (by decide) ?_
    refine g_aload_n X dX11_operand_192 1 rfl rfl ?_
    refine g_getI X dX11_operand_193 flX11_177 rfl h0 ?_
    obtain ⟨r_27, q_28, hF⟩ := obind hF
    refine g_callVv (As := [.int y3, .int (0 : Int32), .int (gI S 11 18 a0)]) X dX11_operand_196 mlX11_404 (fun l D cyy => tX11_code (cx_inj X) l D cyy a0 y3 (0 : Int32) (gI S 11 18 a0) h0 S r_27 q_28) h0 (by decide) rfl rfl (Nat.le_of_ble_eq_true rfl) ?_
    refine g_aload_n X dX11_operand_199 1 rfl rfl ?_
    obtain ⟨r_29, q_30, hF⟩ := obind hF
    refine g_callVv (As := []) X dX11_operand_200 mlX11_170 (fun l D cyy => tX11_step (cx_inj X) l D cyy a0 h0 r_27 r_29 q_30) h0 (by decide) rfl rfl (Nat.le_of_ble_eq_true rfl) ?_
    refine g_iconst (v := 1) X dX11_operand_203 (by decide) ?_
    have hF := Option.some.inj hF
    subst hF
    exact g_zret X dX11_operand_204 (by decide) ho
  · rw [if_pos c_26] at hF
    refine g_iconst (v := 0) X dX11_operand_187 (by decide) ?_
    have hF := Option.some.inj hF
    subst hF
    exact g_zret X dX11_operand_188 (by decide) ho
theorem wX11_operand_s166 {z : Mx} {ad : Nat → Nat} {o : Option Value × St} (X : CxOk z ad RX11 cX11_operand 5 (some .boolean) 3) (a0 : Nat) (h0 : KT a0 = 11) (y3 : Int32) (t0 : Int32)   (S : St) (r : (Int32 × St)) (ho : o = (some (.int r.1), r.2)) (hF : fX11_operand_s166 a0 y3 t0 S = some r) : GW z ad o S 166 [(0, .ref (ad a0)), (3, .int y3)] [.int t0] := by
  unfold fX11_operand_s166 at hF
  refine g_goto (tgt := 180) X dX11_operand_166 (by decide) ?_
  refine g_istore X dX11_operand_180 (by decide) (lv' := [(4, .int t0), (0, .ref (ad a0)), (3, .int y3)]) rfl ?_
  refine g_iload X dX11_operand_182 0 rfl ?_
  refine g_if_ne (tgt := 189) X dX11_operand_184 (by decide) (fun c_33 => ?_) (fun c_33 => ?_)
  · rw [if_neg c_33] at hF
    refine g_aload_n X dX11_operand_189 1 rfl rfl ?_
    refine g_iload_n X dX11_operand_190 2 rfl rfl ?_
    refine g_iconst (v := 0) X dX11_operand_191 (by decide) ?_
    refine g_aload_n X dX11_operand_192 1 rfl rfl ?_
    refine g_getI X dX11_operand_193 flX11_177 rfl h0 ?_
    obtain ⟨r_34, q_35, hF⟩ := obind hF
    refine g_callVv (As := [.int y3, .int (0 : Int32), .int (gI S 11 18 a0)]) X dX11_operand_196 mlX11_404 (fun l D cyy => tX11_code (cx_inj X) l D cyy a0 y3 (0 : Int32) (gI S 11 18 a0) h0 S r_34 q_35) h0 (by decide) rfl rfl (Nat.le_of_ble_eq_true rfl) ?_
    refine g_aload_n X dX11_operand_199 1 rfl rfl ?_
    obtain ⟨r_36, q_37, hF⟩ := obind hF
    refine g_callVv (As := []) X dX11_operand_200 mlX11_170 (fun l D cyy => tX11_step (cx_inj X) l D cyy a0 h0 r_34 r_36 q_37) h0 (by decide) rfl rfl (Nat.le_of_ble_eq_true rfl) ?_
    refine g_iconst (v := 1) X dX11_operand_203 (by decide) ?_
    have hF := Option.some.inj hF
    subst hF
    exact g_zret X dX11_operand_204 (by decide) ho
  · rw [if_pos c_33] at hF
    refine g_iconst (v := 0) X dX11_operand_187 (by decide) ?_
    have hF := Option.some.inj hF
    subst hF
    exact g_zret X dX11_operand_188 (by decide) ho
theorem wX11_operand_s131 {z : Mx} {ad : Nat → Nat} {o : Option Value × St} (X : CxOk z ad RX11 cX11_operand 5 (some .boolean) 3) (a0 : Nat) (h0 : KT a0 = 11) (y3 : Int32)    (S : St) (r : (Int32 × St)) (ho : o = (some (.int r.1), r.2)) (hF : fX11_operand_s131 a0 y3  S = some r) : GW z ad o S 131 [(0, .ref (ad a0)), (3, .int y3)] [] := by
  unfold fX11_operand_s131 at hF
  refine g_iload_n X dX11_operand_131 1 rfl rfl ?_
  refine g_iconst (v := 2) X dX11_operand_132 (by decide) ?_
  refine g_icmp_ge (tgt := 145) X dX11_operand_133 (by decide) (fun c_11 => ?_) (fun c_11 => ?_)
  · rw [if_pos c_11] at hF
    refine g_iload_n X dX11_operand_145 1 rfl rfl ?_
    refine g_iconst (v := 4) X dX11_operand_146 (by decide) ?_
    refine g_icmp_ge (tgt := 205) X dX11_operand_147 (by decide) (fun c_12 => ?_) (fun c_12 => ?_)
    · rw [if_pos c_12] at hF
      refine g_aload_n X dX11_operand_205 0 rfl rfl ?_
      refine g_getI X dX11_operand_206 flX11_141 rfl h0 ?_
      refine g_iconst (v := 3) X dX11_operand_209 (by decide) ?_
      refine g_icmp_ne (tgt := 231) X dX11_operand_210 (by decide) (fun c_13 => ?_) (fun c_13 => ?_)
      · rw [if_neg c_13] at hF
        exact g_perm [0] rfl (wX11_operand_s231 X a0 h0 S r ho hF)
      · rw [if_pos c_13] at hF
        refine g_aload_n X dX11_operand_213 0 rfl rfl ?_
        refine g_getI X dX11_operand_214 flX11_151 rfl h0 ?_
        refine g_bipush (v := 60) X dX11_operand_217 (by decide) ?_
        refine g_icmp_lt (tgt := 231) X dX11_operand_219 (by decide) (fun c_14 => ?_) (fun c_14 => ?_)
        · rw [if_pos c_14] at hF
          exact g_perm [0] rfl (wX11_operand_s231 X a0 h0 S r ho hF)
        · rw [if_neg c_14] at hF
          refine g_aload_n X dX11_operand_222 0 rfl rfl ?_
          refine g_getI X dX11_operand_223 flX11_151 rfl h0 ?_
          refine g_bipush (v := 62) X dX11_operand_226 (by decide) ?_
          refine g_icmp_le (tgt := 237) X dX11_operand_228 (by decide) (fun c_15 => ?_) (fun c_15 => ?_)
          · rw [if_pos c_15] at hF
            refine g_aload_n X dX11_operand_237 0 rfl rfl ?_
            refine g_getI X dX11_operand_238 flX11_151 rfl h0 ?_
            refine g_istore X dX11_operand_241 (by decide) (lv' := [(4, .int (gI S 11 14 a0)), (0, .ref (ad a0)), (3, .int y3)]) rfl ?_
            exact g_perm [1, 2, 0] rfl (wX11_operand_s243 X a0 h0 y3 (gI S 11 14 a0) S r ho hF)
          · rw [if_neg c_15] at hF
            exact g_perm [0] rfl (wX11_operand_s231 X a0 h0 S r ho hF)
    · rw [if_neg c_12] at hF
      refine g_iload_n X dX11_operand_150 1 rfl rfl ?_
      refine g_iconst (v := 2) X dX11_operand_151 (by decide) ?_
      refine g_icmp_ne (tgt := 169) X dX11_operand_152 (by decide) (fun c_23 => ?_) (fun c_23 => ?_)
      · rw [if_neg c_23] at hF
        refine g_aload_n X dX11_operand_169 0 rfl rfl ?_
        refine g_iconst (v := 0) X dX11_operand_170 (by decide) ?_
        refine g_aload_n X dX11_operand_171 0 rfl rfl ?_
        refine g_getR (f := 2) X dX11_operand_172 flX11_33 rfl rfl h0 ?_
        refine g_iconst (v := 0) X dX11_operand_175 (by decide) ?_
        refine g_ialdK (j := 0) X dX11_operand_176 kd_29 (on_11_6 h0) (by decide) (by decide) ?_
        obtain ⟨r_24, q_25, hF⟩ := obind hF
        refine g_callVi (As := [.int (0 : Int32), .int (gA S 29 (a0 + 2) 0)]) X dX11_operand_177 mlX11_192 (fun l D cyy => tX11_looksAt (cx_inj X) l D cyy a0 (0 : Int32) (gA S 29 (a0 + 2) 0) h0 S r_24 q_25) h0 (by decide) rfl rfl (Nat.le_of_ble_eq_true rfl) ?_
        exact (wX11_operand_s180 X a0 h0 y3 r_24.1 r_24.2 r ho hF)
      · rw [if_pos c_23] at hF
        refine g_aload_n X dX11_operand_155 0 rfl rfl ?_
        refine g_iconst (v := 5) X dX11_operand_156 (by decide) ?_
        refine g_aload_n X dX11_operand_157 0 rfl rfl ?_
        refine g_getR (f := 2) X dX11_operand_158 flX11_33 rfl rfl h0 ?_
        refine g_iconst (v := 1) X dX11_operand_161 (by decide) ?_
        refine g_ialdK (j := 1) X dX11_operand_162 kd_29 (on_11_6 h0) (by decide) (by decide) ?_
        obtain ⟨r_31, q_32, hF⟩ := obind hF
        refine g_callVi (As := [.int (5 : Int32), .int (gA S 29 (a0 + 2) 1)]) X dX11_operand_163 mlX11_192 (fun l D cyy => tX11_looksAt (cx_inj X) l D cyy a0 (5 : Int32) (gA S 29 (a0 + 2) 1) h0 S r_31 q_32) h0 (by decide) rfl rfl (Nat.le_of_ble_eq_true rfl) ?_
        exact (wX11_operand_s166 X a0 h0 y3 r_31.1 r_31.2 r ho hF)
  · rw [if_neg c_11] at hF
    refine g_aload_n X dX11_operand_136 0 rfl rfl ?_
    refine g_iload_n X dX11_operand_137 1 rfl rfl ?_
    refine g_iconst (v := 0) X dX11_operand_138 (by decide) ?_
    refine g_iconst (v := 0) X dX11_operand_139 (by decide) ?_
    obtain ⟨r_38, q_39, hF⟩ := obind hF
    refine g_callVv (As := [.int y3, .int (0 : Int32), .int (0 : Int32)]) X dX11_operand_140 mlX11_404 (fun l D cyy => tX11_code (cx_inj X) l D cyy a0 y3 (0 : Int32) (0 : Int32) h0 S r_38 q_39) h0 (by decide) rfl rfl (Nat.le_of_ble_eq_true rfl) ?_
    refine g_iconst (v := 1) X dX11_operand_143 (by decide) ?_
    have hF := Option.some.inj hF
    subst hF
    exact g_zret X dX11_operand_144 (by decide) ho
theorem wX11_operand_s72 {z : Mx} {ad : Nat → Nat} {o : Option Value × St} (X : CxOk z ad RX11 cX11_operand 5 (some .boolean) 3) (a0 : Nat) (h0 : KT a0 = 11) (y1 : Int32) (y2 : Int32) (y3 : Int32)    (S : St) (r : (Int32 × St)) (ho : o = (some (.int r.1), r.2)) (hF : fX11_operand_s72 a0 y1 y2 y3  S = some r) : GW z ad o S 72 [(0, .ref (ad a0)), (1, .int y1), (2, .int y2), (3, .int y3)] [] := by
  unfold fX11_operand_s72 at hF
  refine g_aload_n X dX11_operand_72 0 rfl rfl ?_
  obtain ⟨r_4, q_5, hF⟩ := obind hF
  refine g_callVv (As := []) X dX11_operand_73 mlX11_170 (fun l D cyy => tX11_step (cx_inj X) l D cyy a0 h0 S r_4 q_5) h0 (by decide) rfl rfl (Nat.le_of_ble_eq_true rfl) ?_
  refine g_iload_n X dX11_operand_76 1 rfl rfl ?_
  refine g_if_ne (tgt := 84) X dX11_operand_77 (by decide) (fun c_6 => ?_) (fun c_6 => ?_)
  · rw [if_neg c_6] at hF
    exact g_perm [0, 1] rfl (wX11_operand_s84 X a0 h0 y1 r_4 r ho hF)
  · rw [if_pos c_6] at hF
    refine g_iload_n X dX11_operand_80 2 rfl rfl ?_
    refine g_if_eq (tgt := 126) X dX11_operand_81 (by decide) (fun c_10 => ?_) (fun c_10 => ?_)
    · rw [if_pos c_10] at hF
      refine g_aload_n X dX11_operand_126 0 rfl rfl ?_
      refine g_iconst (v := 1) X dX11_operand_127 (by decide) ?_
      refine g_putI X dX11_operand_128 fpX11_417 rfl (by decide) (by decide) h0 ?_
      exact g_perm [0, 3] rfl (wX11_operand_s131 X a0 h0 y3 (sI r_4 11 41 a0 (1 : Int32)) r ho hF)
    · rw [if_neg c_10] at hF
      exact g_perm [0, 1] rfl (wX11_operand_s84 X a0 h0 y1 r_4 r ho hF)
theorem wX11_operand_s38 {z : Mx} {ad : Nat → Nat} {o : Option Value × St} (X : CxOk z ad RX11 cX11_operand 5 (some .boolean) 3) (a0 : Nat) (h0 : KT a0 = 11) (y1 : Int32) (y2 : Int32) (y3 : Int32)    (S : St) (r : (Int32 × St)) (ho : o = (some (.int r.1), r.2)) (hF : fX11_operand_s38 a0 y1 y2 y3  S = some r) : GW z ad o S 38 [(0, .ref (ad a0)), (1, .int y1), (2, .int y2), (3, .int y3)] [] := by
  unfold fX11_operand_s38 at hF
  refine g_aload_n X dX11_operand_38 0 rfl rfl ?_
  refine g_getI X dX11_operand_39 flX11_414 rfl h0 ?_
  refine g_bipush (v := 20) X dX11_operand_42 (by decide) ?_
  refine g_icmp_eq (tgt := 56) X dX11_operand_44 (by decide) (fun c_2 => ?_) (fun c_2 => ?_)
  · rw [if_pos c_2] at hF
    exact g_perm [0] rfl (wX11_operand_s56 X a0 h0 S r ho hF)
  · rw [if_neg c_2] at hF
    refine g_aload_n X dX11_operand_47 0 rfl rfl ?_
    refine g_getI X dX11_operand_48 flX11_408 rfl h0 ?_
    refine g_bipush (v := 8) X dX11_operand_51 (by decide) ?_
    refine g_icmp_le (tgt := 62) X dX11_operand_53 (by decide) (fun c_3 => ?_) (fun c_3 => ?_)
    · rw [if_pos c_3] at hF
      refine g_aload_n X dX11_operand_62 0 rfl rfl ?_
      refine g_dup (a := .ref (ad a0)) X dX11_operand_63 rfl ?_
      refine g_getI X dX11_operand_64 flX11_414 rfl h0 ?_
      refine g_iconst (v := 1) X dX11_operand_67 (by decide) ?_
      refine g_iadd X dX11_operand_68 ?_
      refine g_putI X dX11_operand_69 fpX11_414 rfl rfl rfl h0 ?_
      exact (wX11_operand_s72 X a0 h0 y1 y2 y3 (sI S 11 38 a0 ((gI S 11 38 a0) + (1 : Int32))) r ho hF)
    · rw [if_neg c_3] at hF
      exact g_perm [0] rfl (wX11_operand_s56 X a0 h0 S r ho hF)
theorem wX11_operand_s37 {z : Mx} {ad : Nat → Nat} {o : Option Value × St} (X : CxOk z ad RX11 cX11_operand 5 (some .boolean) 3) (a0 : Nat) (h0 : KT a0 = 11)  (t0 : Int32)   (S : St) (r : (Int32 × St)) (ho : o = (some (.int r.1), r.2)) (hF : fX11_operand_s37 a0  t0 S = some r) : GW z ad o S 37 [] [.int t0] := by
  unfold fX11_operand_s37 at hF
  have hF := Option.some.inj hF
  subst hF
  exact g_zretN X dX11_operand_37 ho
theorem wX11_operand_s20 {z : Mx} {ad : Nat → Nat} {o : Option Value × St} (X : CxOk z ad RX11 cX11_operand 5 (some .boolean) 3) (a0 : Nat) (h0 : KT a0 = 11) (y1 : Int32) (y2 : Int32) (y3 : Int32)    (S : St) (r : (Int32 × St)) (ho : o = (some (.int r.1), r.2)) (hF : fX11_operand_s20 a0 y1 y2 y3  S = some r) : GW z ad o S 20 [(0, .ref (ad a0)), (1, .int y1), (2, .int y2), (3, .int y3)] [] := by
  unfold fX11_operand_s20 at hF
  refine g_iload_n X dX11_operand_20 1 rfl rfl ?_
  refine g_if_ne (tgt := 38) X dX11_operand_21 (by decide) (fun c_1 => ?_) (fun c_1 => ?_)
  · rw [if_neg c_1] at hF
    exact (wX11_operand_s38 X a0 h0 y1 y2 y3 S r ho hF)
  · rw [if_pos c_1] at hF
    refine g_iload_n X dX11_operand_24 2 rfl rfl ?_
    refine g_if_ne (tgt := 38) X dX11_operand_25 (by decide) (fun c_40 => ?_) (fun c_40 => ?_)
    · rw [if_neg c_40] at hF
      exact (wX11_operand_s38 X a0 h0 y1 y2 y3 S r ho hF)
    · rw [if_pos c_40] at hF
      refine g_iload_n X dX11_operand_28 3 rfl rfl ?_
      refine g_if_ge (tgt := 38) X dX11_operand_29 (by decide) (fun c_41 => ?_) (fun c_41 => ?_)
      · rw [if_pos c_41] at hF
        exact (wX11_operand_s38 X a0 h0 y1 y2 y3 S r ho hF)
      · rw [if_neg c_41] at hF
        refine g_aload_n X dX11_operand_32 0 rfl rfl ?_
        refine g_iconst (v := 1) X dX11_operand_33 (by decide) ?_
        refine g_callVi (As := [.int (1 : Int32)]) X dX11_operand_34 mlX11_167 (fun l D cyy => tX11_bad (cx_inj X) l D cyy a0 (1 : Int32) h0 S) h0 (by decide) rfl rfl (Nat.le_of_ble_eq_true rfl) ?_
        exact g_perm [] rfl (wX11_operand_s37 X a0 h0 ((fX11_bad a0 (1 : Int32) S).1) ((fX11_bad a0 (1 : Int32) S).2) r ho hF)
theorem wX11_operand_s15 {z : Mx} {ad : Nat → Nat} {o : Option Value × St} (X : CxOk z ad RX11 cX11_operand 5 (some .boolean) 3) (a0 : Nat) (h0 : KT a0 = 11) (y1 : Int32) (y2 : Int32)    (S : St) (r : (Int32 × St)) (ho : o = (some (.int r.1), r.2)) (hF : fX11_operand_s15 a0 y1 y2  S = some r) : GW z ad o S 15 [(0, .ref (ad a0)), (1, .int y1), (2, .int y2)] [] := by
  unfold fX11_operand_s15 at hF
  refine g_aload_n X dX11_operand_15 0 rfl rfl ?_
  refine g_callVi (As := []) X dX11_operand_16 mlX11_411 (fun l D cyy => tX11_leafOf (cx_inj X) l D cyy a0 h0 S) h0 (by decide) rfl rfl (Nat.le_of_ble_eq_true rfl) ?_
  refine g_istore_n X dX11_operand_19 rfl (by decide) (lv' := [(3, .int (fX11_leafOf a0 S)), (0, .ref (ad a0)), (1, .int y1), (2, .int y2)]) rfl ?_
  exact g_perm [1, 2, 3, 0] rfl (wX11_operand_s20 X a0 h0 y1 y2 (fX11_leafOf a0 S) S r ho hF)
theorem wX11_operand_s8 {z : Mx} {ad : Nat → Nat} {o : Option Value × St} (X : CxOk z ad RX11 cX11_operand 5 (some .boolean) 3) (a0 : Nat) (h0 : KT a0 = 11) (y1 : Int32)    (S : St) (r : (Int32 × St)) (ho : o = (some (.int r.1), r.2)) (hF : fX11_operand_s8 a0 y1  S = some r) : GW z ad o S 8 [(0, .ref (ad a0)), (1, .int y1)] [] := by
  unfold fX11_operand_s8 at hF
  refine g_aload_n X dX11_operand_8 0 rfl rfl ?_
  refine g_bipush (v := 40) X dX11_operand_9 (by decide) ?_
  refine g_callVi (As := [.int (40 : Int32)]) X dX11_operand_11 mlX11_164 (fun l D cyy => tX11_isSign (cx_inj X) l D cyy a0 (40 : Int32) h0 S) h0 (by decide) rfl rfl (Nat.le_of_ble_eq_true rfl) ?_
  refine g_istore_n X dX11_operand_14 rfl (by decide) (lv' := [(2, .int (fX11_isSign a0 (40 : Int32) S)), (0, .ref (ad a0)), (1, .int y1)]) rfl ?_
  exact g_perm [1, 2, 0] rfl (wX11_operand_s15 X a0 h0 y1 (fX11_isSign a0 (40 : Int32) S) S r ho hF)
theorem wX11_operand {z : Mx} {ad : Nat → Nat} {o : Option Value × St} (X : CxOk z ad RX11 cX11_operand 5 (some .boolean) 3) (a0 : Nat) (h0 : KT a0 = 11) (S : St) (r : (Int32 × St)) (ho : o = (some (.int r.1), r.2)) (hF : fX11_operand a0 S = some r) : GW z ad o S 0 [(0, .ref (ad a0))] [] := by
  unfold fX11_operand at hF
  refine g_aload_n X dX11_operand_0 0 rfl rfl ?_
  refine g_ldc2 (v := 7237492) X dX11_operand_1 (inr_7 _ (List.mem_of_getElem? (i := 19) rfl)) ?_
  refine g_callVi (As := [.long (7237492 : Int64)]) X dX11_operand_4 mlX11_195 (fun l D cyy => tX11_isWord (cx_inj X) l D cyy a0 (7237492 : Int64) h0 S) h0 (by decide) rfl rfl (Nat.le_of_ble_eq_true rfl) ?_
  refine g_istore_n X dX11_operand_7 rfl (by decide) (lv' := [(1, .int (fX11_isWord a0 (7237492 : Int64) S)), (0, .ref (ad a0))]) rfl ?_
  exact g_perm [1, 0] rfl (wX11_operand_s8 X a0 h0 (fX11_isWord a0 (7237492 : Int64) S) S r ho hF)
theorem tX11_operand {ad : Nat → Nat} (hI : Inj ad) (l : Launch) (D : va_G) (cyy : Nat → ClassId) (a0 : Nat) (h0 : KT a0 = 11) (S : St) (r : (Int32 × St)) (hF : fX11_operand a0 S = some r) : OkM l yX11_operand cX11_operand 5 (some .boolean) 3 ad D cyy [.ref (ad a0)] S (some (.int r.1), r.2) := okM_of hI (by decide) (inr_62 _ (List.mem_of_getElem? (i := 12) rfl)) (by show _ ≤ 5; exact Nat.le_of_ble_eq_true rfl) (fun z X => wX11_operand X a0 h0 S r rfl hF)
def fX11_behind_s86 (a0 : Nat)   (S : St) : Option (Int32 × St) :=
  (fX11_step a0 S).bind fun r_9 =>
  some ((1 : Int32), r_9)
def fX11_behind_s81 (a0 : Nat)   (S : St) : Option (Int32 × St) :=
  fX11_behind_s86 a0 (sI S 11 41 a0 (0 : Int32))
def fX11_behind_s71 (a0 : Nat)   (S : St) : Option (Int32 × St) :=
  fX11_behind_s81 a0 (sI S 11 39 a0 ((gI S 11 39 a0) + (1 : Int32)))
def fX11_behind_s24 (a0 : Nat)   (S : St) : Option (Int32 × St) :=
  if (fX11_isWord a0 (6385252 : Int64) S) = 0 then ((fX11_joins a0 (22 : Int32) S).bind fun r_5 =>
  if (fX11_isWord a0 (6385252 : Int64) r_5) = 0 then (if ((gI r_5 11 39 a0) < 0 ∨ 45 ≤ (gI r_5 11 39 a0).toNatClampNeg) then none else
  fX11_behind_s71 a0 (sA r_5 38 (a0 + 11) ((gI r_5 11 39 a0).toNatClampNeg) (22 : Int32))) else
  (if ((gI r_5 11 39 a0) < 0 ∨ 45 ≤ (gI r_5 11 39 a0).toNatClampNeg) then none else
  fX11_behind_s71 a0 (sA r_5 38 (a0 + 11) ((gI r_5 11 39 a0).toNatClampNeg) (21 : Int32)))) else
  ((fX11_joins a0 (21 : Int32) S).bind fun r_12 =>
  if (fX11_isWord a0 (6385252 : Int64) r_12) = 0 then (if ((gI r_12 11 39 a0) < 0 ∨ 45 ≤ (gI r_12 11 39 a0).toNatClampNeg) then none else
  fX11_behind_s71 a0 (sA r_12 38 (a0 + 11) ((gI r_12 11 39 a0).toNatClampNeg) (22 : Int32))) else
  (if ((gI r_12 11 39 a0) < 0 ∨ 45 ≤ (gI r_12 11 39 a0).toNatClampNeg) then none else
  fX11_behind_s71 a0 (sA r_12 38 (a0 + 11) ((gI r_12 11 39 a0).toNatClampNeg) (21 : Int32))))
def fX11_behind_s119 (a0 : Nat)  (t0 : Int32) (S : St) : Option (Int32 × St) :=
  some ((vp_nar .boolean t0), S)
def fX11_behind_s114 (a0 : Nat)   (S : St) : Option (Int32 × St) :=
  fX11_behind_s119 a0 ((fX11_bad a0 (1 : Int32) S).1) ((fX11_bad a0 (1 : Int32) S).2)
def fX11_behind_s140 (a0 : Nat)   (S : St) : Option (Int32 × St) :=
  (fX11_step a0 S).bind fun r_22 =>
  some ((1 : Int32), r_22)
def fX11_behind_s130 (a0 : Nat)   (S : St) : Option (Int32 × St) :=
  fX11_behind_s140 a0 (sI S 11 40 a0 ((gI S 11 40 a0) - (1 : Int32)))
def fX11_behind (a0 : Nat) (S : St) : Option (Int32 × St) :=
  (fX11_nots a0 S).bind fun r_1 =>
  if (fX11_isWord a0 (6385252 : Int64) r_1) = 0 then (if (fX11_isWord a0 (28530 : Int64) r_1) = 0 then ((fX11_joins a0 (22 : Int32) r_1).bind fun r_18 =>
  if (fX11_isSign a0 (41 : Int32) r_18) = 0 then (fX11_behind_s114 a0 r_18) else
  (if (gI r_18 11 39 a0) = 0 then (fX11_behind_s114 a0 r_18) else
  (fX11_behind_s130 a0 (sI r_18 11 39 a0 ((gI r_18 11 39 a0) - (1 : Int32)))))) else
  (fX11_behind_s24 a0 r_1)) else
  (fX11_behind_s24 a0 r_1)
theorem wX11_behind_s86 {z : Mx} {ad : Nat → Nat} {o : Option Value × St} (X : CxOk z ad RX11 cX11_behind 1 (some .boolean) 3) (a0 : Nat) (h0 : KT a0 = 11)     (S : St) (r : (Int32 × St)) (ho : o = (some (.int r.1), r.2)) (hF : fX11_behind_s86 a0   S = some r) : GW z ad o S 86 [(0, .ref (ad a0))] [] := by
  unfold fX11_behind_s86 at hF
  refine g_aload_n X dX11_behind_86 0 rfl rfl ?_
  obtain ⟨r_9, q_10, hF⟩ := obind hF
  refine g_callVv (As := []) X dX11_behind_87 mlX11_170 (fun l D cyy => tX11_step (cx_inj X) l D cyy a0 h0 S r_9 q_10) h0 (by decide) rfl rfl (Nat.le_of_ble_eq_true rfl) ?_
  refine g_iconst (v := 1) X dX11_behind_90 (by decide) ?_
  have hF := Option.some.inj hF
  subst hF
  exact g_zret X dX11_behind_91 (by decide) ho
theorem wX11_behind_s81 {z : Mx} {ad : Nat → Nat} {o : Option Value × St} (X : CxOk z ad RX11 cX11_behind 1 (some .boolean) 3) (a0 : Nat) (h0 : KT a0 = 11)     (S : St) (r : (Int32 × St)) (ho : o = (some (.int r.1), r.2)) (hF : fX11_behind_s81 a0   S = some r) : GW z ad o S 81 [(0, .ref (ad a0))] [] := by
  unfold fX11_behind_s81 at hF
  refine g_aload_n X dX11_behind_81 0 rfl rfl ?_
  refine g_iconst (v := 0) X dX11_behind_82 (by decide) ?_
  refine g_putI X dX11_behind_83 fpX11_417 rfl (by decide) (by decide) h0 ?_
  exact (wX11_behind_s86 X a0 h0 (sI S 11 41 a0 (0 : Int32)) r ho hF)
theorem wX11_behind_s71 {z : Mx} {ad : Nat → Nat} {o : Option Value × St} (X : CxOk z ad RX11 cX11_behind 1 (some .boolean) 3) (a0 : Nat) (h0 : KT a0 = 11)     (S : St) (r : (Int32 × St)) (ho : o = (some (.int r.1), r.2)) (hF : fX11_behind_s71 a0   S = some r) : GW z ad o S 71 [(0, .ref (ad a0))] [] := by
  unfold fX11_behind_s71 at hF
  refine g_aload_n X dX11_behind_71 0 rfl rfl ?_
  refine g_dup (a := .ref (ad a0)) X dX11_behind_72 rfl ?_
  refine g_getI X dX11_behind_73 flX11_401 rfl h0 ?_
  refine g_iconst (v := 1) X dX11_behind_76 (by decide) ?_
  refine g_iadd X dX11_behind_77 ?_
  refine g_putI X dX11_behind_78 fpX11_401 rfl rfl rfl h0 ?_
  exact (wX11_behind_s81 X a0 h0 (sI S 11 39 a0 ((gI S 11 39 a0) + (1 : Int32))) r ho hF)
theorem wX11_behind_s24 {z : Mx} {ad : Nat → Nat} {o : Option Value × St} (X : CxOk z ad RX11 cX11_behind 1 (some .boolean) 3) (a0 : Nat) (h0 : KT a0 = 11)     (S : St) (r : (Int32 × St)) (ho : o = (some (.int r.1), r.2)) (hF : fX11_behind_s24 a0   S = some r) : GW z ad o S 24 [(0, .ref (ad a0))] [] := by
  unfold fX11_behind_s24 at hF
  refine g_aload_n X dX11_behind_24 0 rfl rfl ?_
  refine g_aload_n X dX11_behind_25 0 rfl rfl ?_
  refine g_ldc2 (v := 6385252) X dX11_behind_26 (inr_7 _ (List.mem_of_getElem? (i := 18) rfl)) ?_
  refine g_callVi (As := [.long (6385252 : Int64)]) X dX11_behind_29 mlX11_195 (fun l D cyy => tX11_isWord (cx_inj X) l D cyy a0 (6385252 : Int64) h0 S) h0 (by decide) rfl rfl (Nat.le_of_ble_eq_true rfl) ?_
  refine g_if_eq (tgt := 40) X dX11_behind_32 (by decide) (fun c_4 => ?_) (fun c_4 => ?_)
  · rw [if_pos c_4] at hF
    refine g_bipush (v := 22) X dX11_behind_40 (by decide) ?_
    obtain ⟨r_5, q_6, hF⟩ := obind hF
    refine g_callVv (As := [.int (22 : Int32)]) X dX11_behind_42 mlX11_423 (fun l D cyy => tX11_joins (cx_inj X) l D cyy a0 (22 : Int32) h0 S r_5 q_6) h0 (by decide) rfl rfl (Nat.le_of_ble_eq_true rfl) ?_
    refine g_aload_n X dX11_behind_45 0 rfl rfl ?_
    refine g_getR (f := 11) X dX11_behind_46 flX11_74 rfl rfl h0 ?_
    refine g_aload_n X dX11_behind_49 0 rfl rfl ?_
    refine g_getI X dX11_behind_50 flX11_401 rfl h0 ?_
    refine g_aload_n X dX11_behind_53 0 rfl rfl ?_
    refine g_ldc2 (v := 6385252) X dX11_behind_54 (inr_7 _ (List.mem_of_getElem? (i := 18) rfl)) ?_
    refine g_callVi (As := [.long (6385252 : Int64)]) X dX11_behind_57 mlX11_195 (fun l D cyy => tX11_isWord (cx_inj X) l D cyy a0 (6385252 : Int64) h0 r_5) h0 (by decide) rfl rfl (Nat.le_of_ble_eq_true rfl) ?_
    refine g_if_eq (tgt := 68) X dX11_behind_60 (by decide) (fun c_7 => ?_) (fun c_7 => ?_)
    · rw [if_pos c_7] at hF
      refine g_bipush (v := 22) X dX11_behind_68 (by decide) ?_
      obtain ⟨e_8, hF⟩ := oguard hF
      refine g_iast X dX11_behind_70 kd_38 (on_11_36 h0) e_8 ?_
      exact (wX11_behind_s71 X a0 h0 (sA r_5 38 (a0 + 11) ((gI r_5 11 39 a0).toNatClampNeg) (22 : Int32)) r ho hF)
    · rw [if_neg c_7] at hF
      refine g_bipush (v := 21) X dX11_behind_63 (by decide) ?_
      refine g_goto (tgt := 70) X dX11_behind_65 (by decide) ?_
      obtain ⟨e_11, hF⟩ := oguard hF
      refine g_iast X dX11_behind_70 kd_38 (on_11_36 h0) e_11 ?_
      exact (wX11_behind_s71 X a0 h0 (sA r_5 38 (a0 + 11) ((gI r_5 11 39 a0).toNatClampNeg) (21 : Int32)) r ho hF)
  · rw [if_neg c_4] at hF
    refine g_bipush (v := 21) X dX11_behind_35 (by decide) ?_
    refine g_goto (tgt := 42) X dX11_behind_37 (by decide) ?_
    obtain ⟨r_12, q_13, hF⟩ := obind hF
    refine g_callVv (As := [.int (21 : Int32)]) X dX11_behind_42 mlX11_423 (fun l D cyy => tX11_joins (cx_inj X) l D cyy a0 (21 : Int32) h0 S r_12 q_13) h0 (by decide) rfl rfl (Nat.le_of_ble_eq_true rfl) ?_
    refine g_aload_n X dX11_behind_45 0 rfl rfl ?_
    refine g_getR (f := 11) X dX11_behind_46 flX11_74 rfl rfl h0 ?_
    refine g_aload_n X dX11_behind_49 0 rfl rfl ?_
    refine g_getI X dX11_behind_50 flX11_401 rfl h0 ?_
    refine g_aload_n X dX11_behind_53 0 rfl rfl ?_
    refine g_ldc2 (v := 6385252) X dX11_behind_54 (inr_7 _ (List.mem_of_getElem? (i := 18) rfl)) ?_
    refine g_callVi (As := [.long (6385252 : Int64)]) X dX11_behind_57 mlX11_195 (fun l D cyy => tX11_isWord (cx_inj X) l D cyy a0 (6385252 : Int64) h0 r_12) h0 (by decide) rfl rfl (Nat.le_of_ble_eq_true rfl) ?_
    refine g_if_eq (tgt := 68) X dX11_behind_60 (by decide) (fun c_14 => ?_) (fun c_14 => ?_)
    · rw [if_pos c_14] at hF
      refine g_bipush (v := 22) X dX11_behind_68 (by decide) ?_
      obtain ⟨e_15, hF⟩ := oguard hF
      refine g_iast X dX11_behind_70 kd_38 (on_11_36 h0) e_15 ?_
      exact (wX11_behind_s71 X a0 h0 (sA r_12 38 (a0 + 11) ((gI r_12 11 39 a0).toNatClampNeg) (22 : Int32)) r ho hF)
    · rw [if_neg c_14] at hF
      refine g_bipush (v := 21) X dX11_behind_63 (by decide) ?_
      refine g_goto (tgt := 70) X dX11_behind_65 (by decide) ?_
      obtain ⟨e_16, hF⟩ := oguard hF
      refine g_iast X dX11_behind_70 kd_38 (on_11_36 h0) e_16 ?_
      exact (wX11_behind_s71 X a0 h0 (sA r_12 38 (a0 + 11) ((gI r_12 11 39 a0).toNatClampNeg) (21 : Int32)) r ho hF)
theorem wX11_behind_s119 {z : Mx} {ad : Nat → Nat} {o : Option Value × St} (X : CxOk z ad RX11 cX11_behind 1 (some .boolean) 3) (a0 : Nat) (h0 : KT a0 = 11)  (t0 : Int32)   (S : St) (r : (Int32 × St)) (ho : o = (some (.int r.1), r.2)) (hF : fX11_behind_s119 a0  t0 S = some r) : GW z ad o S 119 [] [.int t0] := by
  unfold fX11_behind_s119 at hF
  have hF := Option.some.inj hF
  subst hF
  exact g_zretN X dX11_behind_119 ho
theorem wX11_behind_s114 {z : Mx} {ad : Nat → Nat} {o : Option Value × St} (X : CxOk z ad RX11 cX11_behind 1 (some .boolean) 3) (a0 : Nat) (h0 : KT a0 = 11)     (S : St) (r : (Int32 × St)) (ho : o = (some (.int r.1), r.2)) (hF : fX11_behind_s114 a0   S = some r) : GW z ad o S 114 [(0, .ref (ad a0))] [] := by
  unfold fX11_behind_s114 at hF
  refine g_aload_n X dX11_behind_114 0 rfl rfl ?_
  refine g_iconst (v := 1) X dX11_behind_115 (by decide) ?_
  refine g_callVi (As := [.int (1 : Int32)]) X dX11_behind_116 mlX11_167 (fun l D cyy => tX11_bad (cx_inj X) l D cyy a0 (1 : Int32) h0 S) h0 (by decide) rfl rfl (Nat.le_of_ble_eq_true rfl) ?_
  exact g_perm [] rfl (wX11_behind_s119 X a0 h0 ((fX11_bad a0 (1 : Int32) S).1) ((fX11_bad a0 (1 : Int32) S).2) r ho hF)
theorem wX11_behind_s140 {z : Mx} {ad : Nat → Nat} {o : Option Value × St} (X : CxOk z ad RX11 cX11_behind 1 (some .boolean) 3) (a0 : Nat) (h0 : KT a0 = 11)     (S : St) (r : (Int32 × St)) (ho : o = (some (.int r.1), r.2)) (hF : fX11_behind_s140 a0   S = some r) : GW z ad o S 140 [(0, .ref (ad a0))] [] := by
  unfold fX11_behind_s140 at hF
  refine g_aload_n X dX11_behind_140 0 rfl rfl ?_
  obtain ⟨r_22, q_23, hF⟩ := obind hF
  refine g_callVv (As := []) X dX11_behind_141 mlX11_170 (fun l D cyy => tX11_step (cx_inj X) l D cyy a0 h0 S r_22 q_23) h0 (by decide) rfl rfl (Nat.le_of_ble_eq_true rfl) ?_
  refine g_iconst (v := 1) X dX11_behind_144 (by decide) ?_
  have hF := Option.some.inj hF
  subst hF
  exact g_zret X dX11_behind_145 (by decide) ho
theorem wX11_behind_s130 {z : Mx} {ad : Nat → Nat} {o : Option Value × St} (X : CxOk z ad RX11 cX11_behind 1 (some .boolean) 3) (a0 : Nat) (h0 : KT a0 = 11)     (S : St) (r : (Int32 × St)) (ho : o = (some (.int r.1), r.2)) (hF : fX11_behind_s130 a0   S = some r) : GW z ad o S 130 [(0, .ref (ad a0))] [] := by
  unfold fX11_behind_s130 at hF
  refine g_aload_n X dX11_behind_130 0 rfl rfl ?_
  refine g_dup (a := .ref (ad a0)) X dX11_behind_131 rfl ?_
  refine g_getI X dX11_behind_132 flX11_408 rfl h0 ?_
  refine g_iconst (v := 1) X dX11_behind_135 (by decide) ?_
  refine g_isub X dX11_behind_136 ?_
  refine g_putI X dX11_behind_137 fpX11_408 rfl rfl rfl h0 ?_
  exact (wX11_behind_s140 X a0 h0 (sI S 11 40 a0 ((gI S 11 40 a0) - (1 : Int32))) r ho hF)
theorem wX11_behind {z : Mx} {ad : Nat → Nat} {o : Option Value × St} (X : CxOk z ad RX11 cX11_behind 1 (some .boolean) 3) (a0 : Nat) (h0 : KT a0 = 11) (S : St) (r : (Int32 × St)) (ho : o = (some (.int r.1), r.2)) (hF : fX11_behind a0 S = some r) : GW z ad o S 0 [(0, .ref (ad a0))] [] := by
  unfold fX11_behind at hF
  refine g_aload_n X dX11_behind_0 0 rfl rfl ?_
  obtain ⟨r_1, q_2, hF⟩ := obind hF
  refine g_callVv (As := []) X dX11_behind_1 mlX11_420 (fun l D cyy => tX11_nots (cx_inj X) l D cyy a0 h0 S r_1 q_2) h0 (by decide) rfl rfl (Nat.le_of_ble_eq_true rfl) ?_
  refine g_aload_n X dX11_behind_4 0 rfl rfl ?_
  refine g_ldc2 (v := 6385252) X dX11_behind_5 (inr_7 _ (List.mem_of_getElem? (i := 18) rfl)) ?_
  refine g_callVi (As := [.long (6385252 : Int64)]) X dX11_behind_8 mlX11_195 (fun l D cyy => tX11_isWord (cx_inj X) l D cyy a0 (6385252 : Int64) h0 r_1) h0 (by decide) rfl rfl (Nat.le_of_ble_eq_true rfl) ?_
  refine g_if_ne (tgt := 24) X dX11_behind_11 (by decide) (fun c_3 => ?_) (fun c_3 => ?_)
  · rw [if_neg c_3] at hF
    exact (wX11_behind_s24 X a0 h0 r_1 r ho hF)
  · rw [if_pos c_3] at hF
    refine g_aload_n X dX11_behind_14 0 rfl rfl ?_
    refine g_ldc2 (v := 28530) X dX11_behind_15 (inr_7 _ (List.mem_of_getElem? (i := 17) rfl)) ?_
    refine g_callVi (As := [.long (28530 : Int64)]) X dX11_behind_18 mlX11_195 (fun l D cyy => tX11_isWord (cx_inj X) l D cyy a0 (28530 : Int64) h0 r_1) h0 (by decide) rfl rfl (Nat.le_of_ble_eq_true rfl) ?_
    refine g_if_eq (tgt := 92) X dX11_behind_21 (by decide) (fun c_17 => ?_) (fun c_17 => ?_)
    · rw [if_pos c_17] at hF
      refine g_aload_n X dX11_behind_92 0 rfl rfl ?_
      refine g_bipush (v := 22) X dX11_behind_93 (by decide) ?_
      obtain ⟨r_18, q_19, hF⟩ := obind hF
      refine g_callVv (As := [.int (22 : Int32)]) X dX11_behind_95 mlX11_423 (fun l D cyy => tX11_joins (cx_inj X) l D cyy a0 (22 : Int32) h0 r_1 r_18 q_19) h0 (by decide) rfl rfl (Nat.le_of_ble_eq_true rfl) ?_
      refine g_aload_n X dX11_behind_98 0 rfl rfl ?_
      refine g_bipush (v := 41) X dX11_behind_99 (by decide) ?_
      refine g_callVi (As := [.int (41 : Int32)]) X dX11_behind_101 mlX11_164 (fun l D cyy => tX11_isSign (cx_inj X) l D cyy a0 (41 : Int32) h0 r_18) h0 (by decide) rfl rfl (Nat.le_of_ble_eq_true rfl) ?_
      refine g_if_eq (tgt := 114) X dX11_behind_104 (by decide) (fun c_20 => ?_) (fun c_20 => ?_)
      · rw [if_pos c_20] at hF
        exact (wX11_behind_s114 X a0 h0 r_18 r ho hF)
      · rw [if_neg c_20] at hF
        refine g_aload_n X dX11_behind_107 0 rfl rfl ?_
        refine g_getI X dX11_behind_108 flX11_401 rfl h0 ?_
        refine g_if_ne (tgt := 120) X dX11_behind_111 (by decide) (fun c_21 => ?_) (fun c_21 => ?_)
        · rw [if_neg c_21] at hF
          refine g_aload_n X dX11_behind_120 0 rfl rfl ?_
          refine g_dup (a := .ref (ad a0)) X dX11_behind_121 rfl ?_
          refine g_getI X dX11_behind_122 flX11_401 rfl h0 ?_
          refine g_iconst (v := 1) X dX11_behind_125 (by decide) ?_
          refine g_isub X dX11_behind_126 ?_
          refine g_putI X dX11_behind_127 fpX11_401 rfl rfl rfl h0 ?_
          exact (wX11_behind_s130 X a0 h0 (sI r_18 11 39 a0 ((gI r_18 11 39 a0) - (1 : Int32))) r ho hF)
        · rw [if_pos c_21] at hF
          exact (wX11_behind_s114 X a0 h0 r_18 r ho hF)
    · rw [if_neg c_17] at hF
      exact (wX11_behind_s24 X a0 h0 r_1 r ho hF)
theorem tX11_behind {ad : Nat → Nat} (hI : Inj ad) (l : Launch) (D : va_G) (cyy : Nat → ClassId) (a0 : Nat) (h0 : KT a0 = 11) (S : St) (r : (Int32 × St)) (hF : fX11_behind a0 S = some r) : OkM l yX11_behind cX11_behind 1 (some .boolean) 3 ad D cyy [.ref (ad a0)] S (some (.int r.1), r.2) := okM_of hI (by decide) (inr_62 _ (List.mem_of_getElem? (i := 8) rfl)) (by show _ ≤ 1; exact Nat.le_of_ble_eq_true rfl) (fun z X => wX11_behind X a0 h0 S r rfl hF)
def fX11_sentence_s170 (k145 : Int32 → St → Option (Int32 × St)) (a0 : Nat) (y2 : Int32)  (S : St) : Option (Int32 × St) :=
  k145 (y2 + (1 : Int32)) S
def fX11_sentence_s145 (k145 : Int32 → St → Option (Int32 × St)) (a0 : Nat) (y2 : Int32)  (S : St) : Option (Int32 × St) :=
  if ((3 : Int32) * (gI S 11 37 a0)) ≤ y2 then (some ((gI S 11 38 a0), S)) else
  (if (y2 < 0 ∨ 135 ≤ y2.toNatClampNeg) then none else
  if (((70 : Int32) + y2) < 0 ∨ 250 ≤ ((70 : Int32) + y2).toNatClampNeg) then none else
  fX11_sentence_s170 k145 a0 y2 (sA S 29 (a0 + 2) (((70 : Int32) + y2).toNatClampNeg) (gA S 31 (a0 + 4) y2.toNatClampNeg)))
def fX11_sentence_h145 (a0 : Nat) : Nat → Int32 → St → Option (Int32 × St)
  | 0, _, _ => none
  | n + 1, y2, S => fX11_sentence_s145 (fX11_sentence_h145 a0 n) a0 y2 S
def fX11_sentence_s143 (a0 : Nat)   (S : St) : Option (Int32 × St) :=
  fX11_sentence_h145 a0 NN (0 : Int32) S
def fX11_sentence_s122 (k48 : Int32 → St → Option (Int32 × St)) (a0 : Nat) (y1 : Int32) (t0 : Int32) (S : St) : Option (Int32 × St) :=
  if t0 = 0 then (some (((-1 : Int32) - (gI S 11 16 a0)), S)) else
  (k48 y1 S)
def fX11_sentence_s112 (k48 : Int32 → St → Option (Int32 × St)) (a0 : Nat) (y1 : Int32) (t0 : Int32) (S : St) : Option (Int32 × St) :=
  if t0 = 0 then (some (((-1 : Int32) - (gI S 11 16 a0)), S)) else
  (k48 y1 S)
def fX11_sentence_s101 (k48 : Int32 → St → Option (Int32 × St)) (a0 : Nat) (y1 : Int32)  (S : St) : Option (Int32 × St) :=
  if (gI S 11 41 a0) = 0 then ((fX11_operand a0 S).bind fun r_9 =>
  fX11_sentence_s122 k48 a0 y1 r_9.1 r_9.2) else
  ((fX11_behind a0 S).bind fun r_12 =>
  fX11_sentence_s112 k48 a0 y1 r_12.1 r_12.2)
def fX11_sentence_s88 (a0 : Nat)  (t0 : Int32) (S : St) : Option (Int32 × St) :=
  some (((-1 : Int32) - (gI S 11 16 a0)), S)
def fX11_sentence_s48 (k48 : Int32 → St → Option (Int32 × St)) (a0 : Nat) (y1 : Int32)  (S : St) : Option (Int32 × St) :=
  if y1 = 0 then (fX11_sentence_s143 a0 (sA S 29 (a0 + 2) 69 (gI S 11 37 a0))) else
  (if (gI S 11 41 a0) = 0 then (fX11_sentence_s101 k48 a0 y1 S) else
  (if (gI S 11 11 a0) = 0 then ((fX11_nots a0 S).bind fun r_16 =>
  (fX11_joins a0 (22 : Int32) r_16).bind fun r_18 =>
  if (gI r_18 11 39 a0) ≤ 0 then (k48 (0 : Int32) r_18) else
  (fX11_sentence_s88 a0 ((fX11_bad a0 (1 : Int32) r_18).1) ((fX11_bad a0 (1 : Int32) r_18).2))) else
  (fX11_sentence_s101 k48 a0 y1 S)))
def fX11_sentence_h48 (a0 : Nat) : Nat → Int32 → St → Option (Int32 × St)
  | 0, _, _ => none
  | n + 1, y1, S => fX11_sentence_s48 (fX11_sentence_h48 a0 n) a0 y1 S
def fX11_sentence_s42 (a0 : Nat)   (S : St) : Option (Int32 × St) :=
  (fX11_step a0 S).bind fun r_1 =>
  fX11_sentence_h48 a0 NN (1 : Int32) r_1
def fX11_sentence_s37 (a0 : Nat)   (S : St) : Option (Int32 × St) :=
  fX11_sentence_s42 a0 (sI S 11 41 a0 (0 : Int32))
def fX11_sentence_s32 (a0 : Nat)   (S : St) : Option (Int32 × St) :=
  fX11_sentence_s37 a0 (sI S 11 40 a0 (1 : Int32))
def fX11_sentence_s27 (a0 : Nat)   (S : St) : Option (Int32 × St) :=
  fX11_sentence_s32 a0 (sI S 11 39 a0 (0 : Int32))
def fX11_sentence_s22 (a0 : Nat)   (S : St) : Option (Int32 × St) :=
  fX11_sentence_s27 a0 (sI S 11 38 a0 (0 : Int32))
def fX11_sentence_s17 (a0 : Nat)   (S : St) : Option (Int32 × St) :=
  fX11_sentence_s22 a0 (sI S 11 37 a0 (0 : Int32))
def fX11_sentence_s12 (a0 : Nat)   (S : St) : Option (Int32 × St) :=
  fX11_sentence_s17 a0 (sI S 11 15 a0 (0 : Int32))
def fX11_sentence_s5 (a0 : Nat)   (S : St) : Option (Int32 × St) :=
  fX11_sentence_s12 a0 (fX11_taken a0 (200 : Int32) S)
def fX11_sentence (a0 : Nat) (S : St) : Option (Int32 × St) :=
  fX11_sentence_s5 a0 (sI S 11 0 a0 (0 : Int32))
theorem wX11_sentence_s170 {z : Mx} {ad : Nat → Nat} {o : Option Value × St} (X : CxOk z ad RX11 cX11_sentence 3 (some .int) 4) (a0 : Nat) (h0 : KT a0 = 11) (y2 : Int32)  (k145 : Int32 → St → Option (Int32 × St))   (S : St) (r : (Int32 × St)) (ho : o = (some (.int r.1), r.2)) (hk145 : ∀ (y2 : Int32) (S : St), k145 y2 S = some r → GW z ad o S 145 [(0, .ref (ad a0)), (2, .int y2)] []) (hF : fX11_sentence_s170 k145 a0 y2  S = some r) : GW z ad o S 170 [(0, .ref (ad a0)), (2, .int y2)] [] := by
  unfold fX11_sentence_s170 at hF
  refine g_iinc (v := (y2 + (1 : Int32))) X dX11_sentence_170 1 rfl rfl (by decide) (lv' := [(2, .int (y2 + (1 : Int32))), (0, .ref (ad a0))]) rfl ?_
  refine g_goto (tgt := 145) X dX11_sentence_173 (by decide) ?_
  exact g_perm [1, 0] rfl (hk145 (y2 + (1 : Int32)) S hF)
theorem wX11_sentence_s145 {z : Mx} {ad : Nat → Nat} {o : Option Value × St} (X : CxOk z ad RX11 cX11_sentence 3 (some .int) 4) (a0 : Nat) (h0 : KT a0 = 11) (y2 : Int32)  (k145 : Int32 → St → Option (Int32 × St))   (S : St) (r : (Int32 × St)) (ho : o = (some (.int r.1), r.2)) (hk145 : ∀ (y2 : Int32) (S : St), k145 y2 S = some r → GW z ad o S 145 [(0, .ref (ad a0)), (2, .int y2)] []) (hF : fX11_sentence_s145 k145 a0 y2  S = some r) : GW z ad o S 145 [(0, .ref (ad a0)), (2, .int y2)] [] := by
  unfold fX11_sentence_s145 at hF
  refine g_iload_n X dX11_sentence_145 1 rfl rfl ?_
  refine g_iconst (v := 3) X dX11_sentence_146 (by decide) ?_
  refine g_aload_n X dX11_sentence_147 0 rfl rfl ?_
  refine g_getI X dX11_sentence_148 flX11_398 rfl h0 ?_
  refine g_imul X dX11_sentence_151 ?_
  refine g_icmp_ge (tgt := 176) X dX11_sentence_152 (by decide) (fun c_4 => ?_) (fun c_4 => ?_)
  · rw [if_pos c_4] at hF
    refine g_aload_n X dX11_sentence_176 0 rfl rfl ?_
    refine g_getI X dX11_sentence_177 flX11_414 rfl h0 ?_
    have hF := Option.some.inj hF
    subst hF
    exact g_iret X dX11_sentence_180 ho
  · rw [if_neg c_4] at hF
    refine g_aload_n X dX11_sentence_155 0 rfl rfl ?_
    refine g_getR (f := 2) X dX11_sentence_156 flX11_33 rfl rfl h0 ?_
    refine g_bipush (v := 70) X dX11_sentence_159 (by decide) ?_
    refine g_iload_n X dX11_sentence_161 1 rfl rfl ?_
    refine g_iadd X dX11_sentence_162 ?_
    refine g_aload_n X dX11_sentence_163 0 rfl rfl ?_
    refine g_getR (f := 4) X dX11_sentence_164 flX11_40 rfl rfl h0 ?_
    refine g_iload_n X dX11_sentence_167 1 rfl rfl ?_
    obtain ⟨e_5, hF⟩ := oguard hF
    refine g_iald X dX11_sentence_168 kd_31 (on_11_8 h0) e_5 ?_
    obtain ⟨e_6, hF⟩ := oguard hF
    refine g_iast X dX11_sentence_169 kd_29 (on_11_6 h0) e_6 ?_
    exact (wX11_sentence_s170 X a0 h0 y2 k145 (sA S 29 (a0 + 2) (((70 : Int32) + y2).toNatClampNeg) (gA S 31 (a0 + 4) y2.toNatClampNeg)) r ho hk145 hF)
theorem wX11_sentence_h145 {z : Mx} {ad : Nat → Nat} {o : Option Value × St} (X : CxOk z ad RX11 cX11_sentence 3 (some .int) 4) (a0 : Nat) (h0 : KT a0 = 11)  (r : (Int32 × St)) (ho : o = (some (.int r.1), r.2)) : ∀ (n : Nat) (y2 : Int32) (S : St), fX11_sentence_h145 a0 n y2 S = some r → GW z ad o S 145 [(0, .ref (ad a0)), (2, .int y2)] [] := by
  intro n
  induction n with
  | zero => intro y2 S  hF; cases hF
  | succ n ih => intro y2 S  hF; exact wX11_sentence_s145 X a0 h0 y2 (fX11_sentence_h145 a0 n)  S r ho ih hF
theorem wX11_sentence_s143 {z : Mx} {ad : Nat → Nat} {o : Option Value × St} (X : CxOk z ad RX11 cX11_sentence 3 (some .int) 4) (a0 : Nat) (h0 : KT a0 = 11)     (S : St) (r : (Int32 × St)) (ho : o = (some (.int r.1), r.2)) (hF : fX11_sentence_s143 a0   S = some r) : GW z ad o S 143 [(0, .ref (ad a0))] [] := by
  unfold fX11_sentence_s143 at hF
  refine g_iconst (v := 0) X dX11_sentence_143 (by decide) ?_
  refine g_istore_n X dX11_sentence_144 rfl (by decide) (lv' := [(2, .int (0 : Int32)), (0, .ref (ad a0))]) rfl ?_
  exact g_perm [1, 0] rfl (wX11_sentence_h145 X a0 h0 r ho NN (0 : Int32) S hF)
theorem wX11_sentence_s122 {z : Mx} {ad : Nat → Nat} {o : Option Value × St} (X : CxOk z ad RX11 cX11_sentence 3 (some .int) 4) (a0 : Nat) (h0 : KT a0 = 11) (y1 : Int32) (t0 : Int32) (k48 : Int32 → St → Option (Int32 × St))   (S : St) (r : (Int32 × St)) (ho : o = (some (.int r.1), r.2)) (hk48 : ∀ (y1 : Int32) (S : St), k48 y1 S = some r → GW z ad o S 48 [(0, .ref (ad a0)), (1, .int y1)] []) (hF : fX11_sentence_s122 k48 a0 y1 t0 S = some r) : GW z ad o S 122 [(0, .ref (ad a0)), (1, .int y1)] [.int t0] := by
  unfold fX11_sentence_s122 at hF
  refine g_if_ne (tgt := 48) X dX11_sentence_122 (by decide) (fun c_11 => ?_) (fun c_11 => ?_)
  · rw [if_neg c_11] at hF
    exact (hk48 y1 S hF)
  · rw [if_pos c_11] at hF
    refine g_iconst (v := -1) X dX11_sentence_125 (by decide) ?_
    refine g_aload_n X dX11_sentence_126 0 rfl rfl ?_
    refine g_getI X dX11_sentence_127 flX11_161 rfl h0 ?_
    refine g_isub X dX11_sentence_130 ?_
    have hF := Option.some.inj hF
    subst hF
    exact g_iret X dX11_sentence_131 ho
theorem wX11_sentence_s112 {z : Mx} {ad : Nat → Nat} {o : Option Value × St} (X : CxOk z ad RX11 cX11_sentence 3 (some .int) 4) (a0 : Nat) (h0 : KT a0 = 11) (y1 : Int32) (t0 : Int32) (k48 : Int32 → St → Option (Int32 × St))   (S : St) (r : (Int32 × St)) (ho : o = (some (.int r.1), r.2)) (hk48 : ∀ (y1 : Int32) (S : St), k48 y1 S = some r → GW z ad o S 48 [(0, .ref (ad a0)), (1, .int y1)] []) (hF : fX11_sentence_s112 k48 a0 y1 t0 S = some r) : GW z ad o S 112 [(0, .ref (ad a0)), (1, .int y1)] [.int t0] := by
  unfold fX11_sentence_s112 at hF
  refine g_if_ne (tgt := 48) X dX11_sentence_112 (by decide) (fun c_14 => ?_) (fun c_14 => ?_)
  · rw [if_neg c_14] at hF
    exact (hk48 y1 S hF)
  · rw [if_pos c_14] at hF
    refine g_goto (tgt := 125) X dX11_sentence_115 (by decide) ?_
    refine g_iconst (v := -1) X dX11_sentence_125 (by decide) ?_
    refine g_aload_n X dX11_sentence_126 0 rfl rfl ?_
    refine g_getI X dX11_sentence_127 flX11_161 rfl h0 ?_
    refine g_isub X dX11_sentence_130 ?_
    have hF := Option.some.inj hF
    subst hF
    exact g_iret X dX11_sentence_131 ho
theorem wX11_sentence_s101 {z : Mx} {ad : Nat → Nat} {o : Option Value × St} (X : CxOk z ad RX11 cX11_sentence 3 (some .int) 4) (a0 : Nat) (h0 : KT a0 = 11) (y1 : Int32)  (k48 : Int32 → St → Option (Int32 × St))   (S : St) (r : (Int32 × St)) (ho : o = (some (.int r.1), r.2)) (hk48 : ∀ (y1 : Int32) (S : St), k48 y1 S = some r → GW z ad o S 48 [(0, .ref (ad a0)), (1, .int y1)] []) (hF : fX11_sentence_s101 k48 a0 y1  S = some r) : GW z ad o S 101 [(0, .ref (ad a0)), (1, .int y1)] [] := by
  unfold fX11_sentence_s101 at hF
  refine g_aload_n X dX11_sentence_101 0 rfl rfl ?_
  refine g_getI X dX11_sentence_102 flX11_417 rfl h0 ?_
  refine g_if_eq (tgt := 118) X dX11_sentence_105 (by decide) (fun c_8 => ?_) (fun c_8 => ?_)
  · rw [if_pos c_8] at hF
    refine g_aload_n X dX11_sentence_118 0 rfl rfl ?_
    obtain ⟨r_9, q_10, hF⟩ := obind hF
    refine g_callVi (As := []) X dX11_sentence_119 mlX11_429 (fun l D cyy => tX11_operand (cx_inj X) l D cyy a0 h0 S r_9 q_10) h0 (by decide) rfl rfl (Nat.le_of_ble_eq_true rfl) ?_
    exact (wX11_sentence_s122 X a0 h0 y1 r_9.1 k48 r_9.2 r ho hk48 hF)
  · rw [if_neg c_8] at hF
    refine g_aload_n X dX11_sentence_108 0 rfl rfl ?_
    obtain ⟨r_12, q_13, hF⟩ := obind hF
    refine g_callVi (As := []) X dX11_sentence_109 mlX11_426 (fun l D cyy => tX11_behind (cx_inj X) l D cyy a0 h0 S r_12 q_13) h0 (by decide) rfl rfl (Nat.le_of_ble_eq_true rfl) ?_
    exact (wX11_sentence_s112 X a0 h0 y1 r_12.1 k48 r_12.2 r ho hk48 hF)
theorem wX11_sentence_s88 {z : Mx} {ad : Nat → Nat} {o : Option Value × St} (X : CxOk z ad RX11 cX11_sentence 3 (some .int) 4) (a0 : Nat) (h0 : KT a0 = 11)  (t0 : Int32)   (S : St) (r : (Int32 × St)) (ho : o = (some (.int r.1), r.2)) (hF : fX11_sentence_s88 a0  t0 S = some r) : GW z ad o S 88 [(0, .ref (ad a0))] [.int t0] := by
  unfold fX11_sentence_s88 at hF
  refine g_pop (a := .int t0) X dX11_sentence_88 rfl ?_
  refine g_iconst (v := -1) X dX11_sentence_89 (by decide) ?_
  refine g_aload_n X dX11_sentence_90 0 rfl rfl ?_
  refine g_getI X dX11_sentence_91 flX11_161 rfl h0 ?_
  refine g_isub X dX11_sentence_94 ?_
  have hF := Option.some.inj hF
  subst hF
  exact g_iret X dX11_sentence_95 ho
theorem wX11_sentence_s48 {z : Mx} {ad : Nat → Nat} {o : Option Value × St} (X : CxOk z ad RX11 cX11_sentence 3 (some .int) 4) (a0 : Nat) (h0 : KT a0 = 11) (y1 : Int32)  (k48 : Int32 → St → Option (Int32 × St))   (S : St) (r : (Int32 × St)) (ho : o = (some (.int r.1), r.2)) (hk48 : ∀ (y1 : Int32) (S : St), k48 y1 S = some r → GW z ad o S 48 [(0, .ref (ad a0)), (1, .int y1)] []) (hF : fX11_sentence_s48 k48 a0 y1  S = some r) : GW z ad o S 48 [(0, .ref (ad a0)), (1, .int y1)] [] := by
  unfold fX11_sentence_s48 at hF
  refine g_iload_n X dX11_sentence_48 1 rfl rfl ?_
  refine g_if_eq (tgt := 132) X dX11_sentence_49 (by decide) (fun c_3 => ?_) (fun c_3 => ?_)
  · rw [if_pos c_3] at hF
    refine g_aload_n X dX11_sentence_132 0 rfl rfl ?_
    refine g_getR (f := 2) X dX11_sentence_133 flX11_33 rfl rfl h0 ?_
    refine g_bipush (v := 69) X dX11_sentence_136 (by decide) ?_
    refine g_aload_n X dX11_sentence_138 0 rfl rfl ?_
    refine g_getI X dX11_sentence_139 flX11_398 rfl h0 ?_
    refine g_iastK (j := 69) X dX11_sentence_142 kd_29 (on_11_6 h0) (by decide) (by decide) ?_
    exact g_perm [0] rfl (wX11_sentence_s143 X a0 h0 (sA S 29 (a0 + 2) 69 (gI S 11 37 a0)) r ho hF)
  · rw [if_neg c_3] at hF
    refine g_aload_n X dX11_sentence_52 0 rfl rfl ?_
    refine g_getI X dX11_sentence_53 flX11_417 rfl h0 ?_
    refine g_if_eq (tgt := 101) X dX11_sentence_56 (by decide) (fun c_7 => ?_) (fun c_7 => ?_)
    · rw [if_pos c_7] at hF
      exact (wX11_sentence_s101 X a0 h0 y1 k48 S r ho hk48 hF)
    · rw [if_neg c_7] at hF
      refine g_aload_n X dX11_sentence_59 0 rfl rfl ?_
      refine g_getI X dX11_sentence_60 flX11_141 rfl h0 ?_
      refine g_if_ne (tgt := 101) X dX11_sentence_63 (by decide) (fun c_15 => ?_) (fun c_15 => ?_)
      · rw [if_neg c_15] at hF
        exact (wX11_sentence_s101 X a0 h0 y1 k48 S r ho hk48 hF)
      · rw [if_pos c_15] at hF
        refine g_aload_n X dX11_sentence_66 0 rfl rfl ?_
        obtain ⟨r_16, q_17, hF⟩ := obind hF
        refine g_callVv (As := []) X dX11_sentence_67 mlX11_420 (fun l D cyy => tX11_nots (cx_inj X) l D cyy a0 h0 S r_16 q_17) h0 (by decide) rfl rfl (Nat.le_of_ble_eq_true rfl) ?_
        refine g_aload_n X dX11_sentence_70 0 rfl rfl ?_
        refine g_bipush (v := 22) X dX11_sentence_71 (by decide) ?_
        obtain ⟨r_18, q_19, hF⟩ := obind hF
        refine g_callVv (As := [.int (22 : Int32)]) X dX11_sentence_73 mlX11_423 (fun l D cyy => tX11_joins (cx_inj X) l D cyy a0 (22 : Int32) h0 r_16 r_18 q_19) h0 (by decide) rfl rfl (Nat.le_of_ble_eq_true rfl) ?_
        refine g_aload_n X dX11_sentence_76 0 rfl rfl ?_
        refine g_getI X dX11_sentence_77 flX11_401 rfl h0 ?_
        refine g_if_le (tgt := 96) X dX11_sentence_80 (by decide) (fun c_20 => ?_) (fun c_20 => ?_)
        · rw [if_pos c_20] at hF
          refine g_iconst (v := 0) X dX11_sentence_96 (by decide) ?_
          refine g_istore_n X dX11_sentence_97 rfl (by decide) (lv' := [(1, .int (0 : Int32)), (0, .ref (ad a0))]) rfl ?_
          refine g_goto (tgt := 48) X dX11_sentence_98 (by decide) ?_
          exact g_perm [1, 0] rfl (hk48 (0 : Int32) r_18 hF)
        · rw [if_neg c_20] at hF
          refine g_aload_n X dX11_sentence_83 0 rfl rfl ?_
          refine g_iconst (v := 1) X dX11_sentence_84 (by decide) ?_
          refine g_callVi (As := [.int (1 : Int32)]) X dX11_sentence_85 mlX11_167 (fun l D cyy => tX11_bad (cx_inj X) l D cyy a0 (1 : Int32) h0 r_18) h0 (by decide) rfl rfl (Nat.le_of_ble_eq_true rfl) ?_
          exact g_perm [0] rfl (wX11_sentence_s88 X a0 h0 ((fX11_bad a0 (1 : Int32) r_18).1) ((fX11_bad a0 (1 : Int32) r_18).2) r ho hF)
theorem wX11_sentence_h48 {z : Mx} {ad : Nat → Nat} {o : Option Value × St} (X : CxOk z ad RX11 cX11_sentence 3 (some .int) 4) (a0 : Nat) (h0 : KT a0 = 11)  (r : (Int32 × St)) (ho : o = (some (.int r.1), r.2)) : ∀ (n : Nat) (y1 : Int32) (S : St), fX11_sentence_h48 a0 n y1 S = some r → GW z ad o S 48 [(0, .ref (ad a0)), (1, .int y1)] [] := by
  intro n
  induction n with
  | zero => intro y1 S  hF; cases hF
  | succ n ih => intro y1 S  hF; exact wX11_sentence_s48 X a0 h0 y1 (fX11_sentence_h48 a0 n)  S r ho ih hF
theorem wX11_sentence_s42 {z : Mx} {ad : Nat → Nat} {o : Option Value × St} (X : CxOk z ad RX11 cX11_sentence 3 (some .int) 4) (a0 : Nat) (h0 : KT a0 = 11)     (S : St) (r : (Int32 × St)) (ho : o = (some (.int r.1), r.2)) (hF : fX11_sentence_s42 a0   S = some r) : GW z ad o S 42 [(0, .ref (ad a0))] [] := by
  unfold fX11_sentence_s42 at hF
  refine g_aload_n X dX11_sentence_42 0 rfl rfl ?_
  obtain ⟨r_1, q_2, hF⟩ := obind hF
  refine g_callVv (As := []) X dX11_sentence_43 mlX11_170 (fun l D cyy => tX11_step (cx_inj X) l D cyy a0 h0 S r_1 q_2) h0 (by decide) rfl rfl (Nat.le_of_ble_eq_true rfl) ?_
  refine g_iconst (v := 1) X dX11_sentence_46 (by decide) ?_
  refine g_istore_n X dX11_sentence_47 rfl (by decide) (lv' := [(1, .int (1 : Int32)), (0, .ref (ad a0))]) rfl ?_
  exact g_perm [1, 0] rfl (wX11_sentence_h48 X a0 h0 r ho NN (1 : Int32) r_1 hF)
theorem wX11_sentence_s37 {z : Mx} {ad : Nat → Nat} {o : Option Value × St} (X : CxOk z ad RX11 cX11_sentence 3 (some .int) 4) (a0 : Nat) (h0 : KT a0 = 11)     (S : St) (r : (Int32 × St)) (ho : o = (some (.int r.1), r.2)) (hF : fX11_sentence_s37 a0   S = some r) : GW z ad o S 37 [(0, .ref (ad a0))] [] := by
  unfold fX11_sentence_s37 at hF
  refine g_aload_n X dX11_sentence_37 0 rfl rfl ?_
  refine g_iconst (v := 0) X dX11_sentence_38 (by decide) ?_
  refine g_putI X dX11_sentence_39 fpX11_417 rfl (by decide) (by decide) h0 ?_
  exact (wX11_sentence_s42 X a0 h0 (sI S 11 41 a0 (0 : Int32)) r ho hF)
theorem wX11_sentence_s32 {z : Mx} {ad : Nat → Nat} {o : Option Value × St} (X : CxOk z ad RX11 cX11_sentence 3 (some .int) 4) (a0 : Nat) (h0 : KT a0 = 11)     (S : St) (r : (Int32 × St)) (ho : o = (some (.int r.1), r.2)) (hF : fX11_sentence_s32 a0   S = some r) : GW z ad o S 32 [(0, .ref (ad a0))] [] := by
  unfold fX11_sentence_s32 at hF
  refine g_aload_n X dX11_sentence_32 0 rfl rfl ?_
  refine g_iconst (v := 1) X dX11_sentence_33 (by decide) ?_
  refine g_putI X dX11_sentence_34 fpX11_408 rfl rfl rfl h0 ?_
  exact (wX11_sentence_s37 X a0 h0 (sI S 11 40 a0 (1 : Int32)) r ho hF)
theorem wX11_sentence_s27 {z : Mx} {ad : Nat → Nat} {o : Option Value × St} (X : CxOk z ad RX11 cX11_sentence 3 (some .int) 4) (a0 : Nat) (h0 : KT a0 = 11)     (S : St) (r : (Int32 × St)) (ho : o = (some (.int r.1), r.2)) (hF : fX11_sentence_s27 a0   S = some r) : GW z ad o S 27 [(0, .ref (ad a0))] [] := by
  unfold fX11_sentence_s27 at hF
  refine g_aload_n X dX11_sentence_27 0 rfl rfl ?_
  refine g_iconst (v := 0) X dX11_sentence_28 (by decide) ?_
  refine g_putI X dX11_sentence_29 fpX11_401 rfl rfl rfl h0 ?_
  exact (wX11_sentence_s32 X a0 h0 (sI S 11 39 a0 (0 : Int32)) r ho hF)
theorem wX11_sentence_s22 {z : Mx} {ad : Nat → Nat} {o : Option Value × St} (X : CxOk z ad RX11 cX11_sentence 3 (some .int) 4) (a0 : Nat) (h0 : KT a0 = 11)     (S : St) (r : (Int32 × St)) (ho : o = (some (.int r.1), r.2)) (hF : fX11_sentence_s22 a0   S = some r) : GW z ad o S 22 [(0, .ref (ad a0))] [] := by
  unfold fX11_sentence_s22 at hF
  refine g_aload_n X dX11_sentence_22 0 rfl rfl ?_
  refine g_iconst (v := 0) X dX11_sentence_23 (by decide) ?_
  refine g_putI X dX11_sentence_24 fpX11_414 rfl rfl rfl h0 ?_
  exact (wX11_sentence_s27 X a0 h0 (sI S 11 38 a0 (0 : Int32)) r ho hF)
theorem wX11_sentence_s17 {z : Mx} {ad : Nat → Nat} {o : Option Value × St} (X : CxOk z ad RX11 cX11_sentence 3 (some .int) 4) (a0 : Nat) (h0 : KT a0 = 11)     (S : St) (r : (Int32 × St)) (ho : o = (some (.int r.1), r.2)) (hF : fX11_sentence_s17 a0   S = some r) : GW z ad o S 17 [(0, .ref (ad a0))] [] := by
  unfold fX11_sentence_s17 at hF
  refine g_aload_n X dX11_sentence_17 0 rfl rfl ?_
  refine g_iconst (v := 0) X dX11_sentence_18 (by decide) ?_
  refine g_putI X dX11_sentence_19 fpX11_398 rfl rfl rfl h0 ?_
  exact (wX11_sentence_s22 X a0 h0 (sI S 11 37 a0 (0 : Int32)) r ho hF)
theorem wX11_sentence_s12 {z : Mx} {ad : Nat → Nat} {o : Option Value × St} (X : CxOk z ad RX11 cX11_sentence 3 (some .int) 4) (a0 : Nat) (h0 : KT a0 = 11)     (S : St) (r : (Int32 × St)) (ho : o = (some (.int r.1), r.2)) (hF : fX11_sentence_s12 a0   S = some r) : GW z ad o S 12 [(0, .ref (ad a0))] [] := by
  unfold fX11_sentence_s12 at hF
  refine g_aload_n X dX11_sentence_12 0 rfl rfl ?_
  refine g_iconst (v := 0) X dX11_sentence_13 (by decide) ?_
  refine g_putI X dX11_sentence_14 fpX11_158 rfl rfl rfl h0 ?_
  exact (wX11_sentence_s17 X a0 h0 (sI S 11 15 a0 (0 : Int32)) r ho hF)
theorem wX11_sentence_s5 {z : Mx} {ad : Nat → Nat} {o : Option Value × St} (X : CxOk z ad RX11 cX11_sentence 3 (some .int) 4) (a0 : Nat) (h0 : KT a0 = 11)     (S : St) (r : (Int32 × St)) (ho : o = (some (.int r.1), r.2)) (hF : fX11_sentence_s5 a0   S = some r) : GW z ad o S 5 [(0, .ref (ad a0))] [] := by
  unfold fX11_sentence_s5 at hF
  refine g_aload_n X dX11_sentence_5 0 rfl rfl ?_
  refine g_sipush (v := 200) X dX11_sentence_6 (by decide) ?_
  refine g_callVv (As := [.int (200 : Int32)]) X dX11_sentence_9 mlX11_221 (fun l D cyy => tX11_taken (cx_inj X) l D cyy a0 (200 : Int32) h0 S) h0 (by decide) rfl rfl (Nat.le_of_ble_eq_true rfl) ?_
  exact (wX11_sentence_s12 X a0 h0 (fX11_taken a0 (200 : Int32) S) r ho hF)
theorem wX11_sentence {z : Mx} {ad : Nat → Nat} {o : Option Value × St} (X : CxOk z ad RX11 cX11_sentence 3 (some .int) 4) (a0 : Nat) (h0 : KT a0 = 11) (S : St) (r : (Int32 × St)) (ho : o = (some (.int r.1), r.2)) (hF : fX11_sentence a0 S = some r) : GW z ad o S 0 [(0, .ref (ad a0))] [] := by
  unfold fX11_sentence at hF
  refine g_aload_n X dX11_sentence_0 0 rfl rfl ?_
  refine g_iconst (v := 0) X dX11_sentence_1 (by decide) ?_
  refine g_putI X dX11_sentence_2 fpX11_1 rfl rfl rfl h0 ?_
  exact (wX11_sentence_s5 X a0 h0 (sI S 11 0 a0 (0 : Int32)) r ho hF)
theorem tX11_sentence {ad : Nat → Nat} (hI : Inj ad) (l : Launch) (D : va_G) (cyy : Nat → ClassId) (a0 : Nat) (h0 : KT a0 = 11) (S : St) (r : (Int32 × St)) (hF : fX11_sentence a0 S = some r) : OkM l yX11_sentence cX11_sentence 3 (some .int) 4 ad D cyy [.ref (ad a0)] S (some (.int r.1), r.2) := okM_of hI (by decide) (inr_61 _ (List.mem_of_getElem? (i := 11) rfl)) (by show _ ≤ 3; exact Nat.le_of_ble_eq_true rfl) (fun z X => wX11_sentence X a0 h0 S r rfl hF)
def fX11_isLeaf (a0 : Nat) (x1 : Int32) (x2 : Int32) (x3 : Int32) (x4 : Int32) (S : St) : Option Int32 :=
  if x2 = 0 then ((fX11_isBetween a0 x1 S).bind fun r_2 =>
  some (vp_nar .boolean r_2)) else
  (if x2 = 1 then ((fX11_isHeld a0 x1 S).bind fun r_5 =>
  some (vp_nar .boolean r_5)) else
  (if x2 = 2 then (if (((34 : Int32) + x4) < 0 ∨ 250 ≤ ((34 : Int32) + x4).toNatClampNeg) then none else
  if (gA S 29 (a0 + 2) (((34 : Int32) + x4).toNatClampNeg)) = x1 then ((fX11_fallsIn a0 x4 (0 : Int32) S).bind fun r_10 =>
  if r_10 = 0 then (some (0 : Int32)) else
  (some (1 : Int32))) else
  (some (0 : Int32))) else
  (if x2 = 3 then ((fX11_today a0 x1 S).bind fun r_14 =>
  (fX11_today a0 x4 S).bind fun r_16 =>
  if r_14 = r_16 then (some (1 : Int32)) else
  (some (0 : Int32))) else
  (if x2 = (4 : Int32) then (if (((54 : Int32) + x1) < 0 ∨ 250 ≤ ((54 : Int32) + x1).toNatClampNeg) then none else
  (fX11_yearBy a0 x1 (gA S 29 (a0 + 2) (((54 : Int32) + x1).toNatClampNeg)) S).bind fun r_34 =>
  if x3 = (60 : Int32) then (if x4 ≤ r_34 then (some (0 : Int32)) else
  (some (1 : Int32))) else
  (if x3 = (61 : Int32) then (if r_34 = x4 then (some (1 : Int32)) else
  (some (0 : Int32))) else
  (if r_34 ≤ x4 then (some (0 : Int32)) else
  (some (1 : Int32))))) else
  (if x2 = (8 : Int32) then (if x3 = (60 : Int32) then (if x4 ≤ x1 then (some (0 : Int32)) else
  (some (1 : Int32))) else
  (if x3 = (61 : Int32) then (if x1 = x4 then (some (1 : Int32)) else
  (some (0 : Int32))) else
  (if x1 ≤ x4 then (some (0 : Int32)) else
  (some (1 : Int32))))) else
  ((fX11_partOf a0 x1 (x2 - (5 : Int32)) S).bind fun r_21 =>
  if x3 = (60 : Int32) then (if x4 ≤ r_21 then (some (0 : Int32)) else
  (some (1 : Int32))) else
  (if x3 = (61 : Int32) then (if r_21 = x4 then (some (1 : Int32)) else
  (some (0 : Int32))) else
  (if r_21 ≤ x4 then (some (0 : Int32)) else
  (some (1 : Int32))))))))))
theorem wX11_isLeaf {z : Mx} {ad : Nat → Nat} {o : Option Value × St} (X : CxOk z ad RX11 cX11_isLeaf 6 (some .boolean) 7) (a0 : Nat) (x1 : Int32) (x2 : Int32) (x3 : Int32) (x4 : Int32) (h0 : KT a0 = 11) (S : St) (r : Int32) (ho : o = (some (.int r), S)) (hF : fX11_isLeaf a0 x1 x2 x3 x4 S = some r) : GW z ad o S 0 [(0, .ref (ad a0)), (1, .int x1), (2, .int x2), (3, .int x3), (4, .int x4)] [] := by
  unfold fX11_isLeaf at hF
  refine g_iload_n X dX11_isLeaf_0 2 rfl rfl ?_
  by_cases c_1 : x2 = 0
  · rw [if_pos c_1] at hF
    refine g_tabIn (tgt := 32) (off := 31) X dX11_isLeaf_1 (by rw [c_1]; decide) (by rw [c_1]; decide) (by rw [c_1]; decide) (by decide) ?_
    refine g_aload_n X dX11_isLeaf_32 0 rfl rfl ?_
    refine g_iload_n X dX11_isLeaf_33 1 rfl rfl ?_
    obtain ⟨r_2, q_3, hF⟩ := obind hF
    refine g_callVi (As := [.int x1]) X dX11_isLeaf_34 mlX11_288 (fun l D cyy => tX11_isBetween (cx_inj X) l D cyy a0 x1 h0 S r_2 q_3) h0 (by decide) rfl rfl (Nat.le_of_ble_eq_true rfl) ?_
    have hF := Option.some.inj hF
    subst hF
    exact g_zretN X dX11_isLeaf_37 ho
  rw [if_neg c_1] at hF
  by_cases c_4 : x2 = 1
  · rw [if_pos c_4] at hF
    refine g_tabIn (tgt := 38) (off := 37) X dX11_isLeaf_1 (by rw [c_4]; decide) (by rw [c_4]; decide) (by rw [c_4]; decide) (by decide) ?_
    refine g_aload_n X dX11_isLeaf_38 0 rfl rfl ?_
    refine g_iload_n X dX11_isLeaf_39 1 rfl rfl ?_
    obtain ⟨r_5, q_6, hF⟩ := obind hF
    refine g_callVi (As := [.int x1]) X dX11_isLeaf_40 mlX11_255 (fun l D cyy => tX11_isHeld (cx_inj X) l D cyy a0 x1 h0 S r_5 q_6) h0 (by decide) rfl rfl (Nat.le_of_ble_eq_true rfl) ?_
    have hF := Option.some.inj hF
    subst hF
    exact g_zretN X dX11_isLeaf_43 ho
  rw [if_neg c_4] at hF
  by_cases c_7 : x2 = 2
  · rw [if_pos c_7] at hF
    refine g_tabIn (tgt := 44) (off := 43) X dX11_isLeaf_1 (by rw [c_7]; decide) (by rw [c_7]; decide) (by rw [c_7]; decide) (by decide) ?_
    refine g_aload_n X dX11_isLeaf_44 0 rfl rfl ?_
    refine g_getR (f := 2) X dX11_isLeaf_45 flX11_33 rfl rfl h0 ?_
    refine g_bipush (v := 34) X dX11_isLeaf_48 (by decide) ?_
    refine g_iload X dX11_isLeaf_50 4 rfl ?_
    refine g_iadd X dX11_isLeaf_52 ?_
    obtain ⟨e_8, hF⟩ := oguard hF
    refine g_iald X dX11_isLeaf_53 kd_29 (on_11_6 h0) e_8 ?_
    refine g_iload_n X dX11_isLeaf_54 1 rfl rfl ?_
    refine g_icmp_ne (tgt := 72) X dX11_isLeaf_55 (by decide) (fun c_9 => ?_) (fun c_9 => ?_)
    · rw [if_neg c_9] at hF
      refine g_iconst (v := 0) X dX11_isLeaf_72 (by decide) ?_
      have hF := Option.some.inj hF
      subst hF
      exact g_zret X dX11_isLeaf_73 (by decide) ho
    · rw [if_pos c_9] at hF
      refine g_aload_n X dX11_isLeaf_58 0 rfl rfl ?_
      refine g_iload X dX11_isLeaf_59 4 rfl ?_
      refine g_iconst (v := 0) X dX11_isLeaf_61 (by decide) ?_
      obtain ⟨r_10, q_11, hF⟩ := obind hF
      refine g_callVi (As := [.int x4, .int (0 : Int32)]) X dX11_isLeaf_62 mlX11_282 (fun l D cyy => tX11_fallsIn (cx_inj X) l D cyy a0 x4 (0 : Int32) h0 S r_10 q_11) h0 (by decide) rfl rfl (Nat.le_of_ble_eq_true rfl) ?_
      refine g_if_eq (tgt := 72) X dX11_isLeaf_65 (by decide) (fun c_12 => ?_) (fun c_12 => ?_)
      · rw [if_pos c_12] at hF
        refine g_iconst (v := 0) X dX11_isLeaf_72 (by decide) ?_
        have hF := Option.some.inj hF
        subst hF
        exact g_zret X dX11_isLeaf_73 (by decide) ho
      · rw [if_neg c_12] at hF
        refine g_iconst (v := 1) X dX11_isLeaf_68 (by decide) ?_
        refine g_goto (tgt := 73) X dX11_isLeaf_69 (by decide) ?_
        have hF := Option.some.inj hF
        subst hF
        exact g_zret X dX11_isLeaf_73 (by decide) ho
  rw [if_neg c_7] at hF
  by_cases c_13 : x2 = 3
  · rw [if_pos c_13] at hF
    refine g_tabIn (tgt := 74) (off := 73) X dX11_isLeaf_1 (by rw [c_13]; decide) (by rw [c_13]; decide) (by rw [c_13]; decide) (by decide) ?_
    refine g_aload_n X dX11_isLeaf_74 0 rfl rfl ?_
    refine g_iload_n X dX11_isLeaf_75 1 rfl rfl ?_
    obtain ⟨r_14, q_15, hF⟩ := obind hF
    refine g_callVi (As := [.int x1]) X dX11_isLeaf_76 mlX11_264 (fun l D cyy => tX11_today (cx_inj X) l D cyy a0 x1 h0 S r_14 q_15) h0 (by decide) rfl rfl (Nat.le_of_ble_eq_true rfl) ?_
    refine g_aload_n X dX11_isLeaf_79 0 rfl rfl ?_
    refine g_iload X dX11_isLeaf_80 4 rfl ?_
    obtain ⟨r_16, q_17, hF⟩ := obind hF
    refine g_callVi (As := [.int x4]) X dX11_isLeaf_82 mlX11_264 (fun l D cyy => tX11_today (cx_inj X) l D cyy a0 x4 h0 S r_16 q_17) h0 (by decide) rfl rfl (Nat.le_of_ble_eq_true rfl) ?_
    refine g_icmp_ne (tgt := 92) X dX11_isLeaf_85 (by decide) (fun c_18 => ?_) (fun c_18 => ?_)
    · rw [if_neg c_18] at hF
      refine g_iconst (v := 0) X dX11_isLeaf_92 (by decide) ?_
      have hF := Option.some.inj hF
      subst hF
      exact g_zret X dX11_isLeaf_93 (by decide) ho
    · rw [if_pos c_18] at hF
      refine g_iconst (v := 1) X dX11_isLeaf_88 (by decide) ?_
      refine g_goto (tgt := 93) X dX11_isLeaf_89 (by decide) ?_
      have hF := Option.some.inj hF
      subst hF
      exact g_zret X dX11_isLeaf_93 (by decide) ho
  rw [if_neg c_13] at hF
  have c_41 : (x2).toInt < 0 ∨ 3 < (x2).toInt := by
    have := ti_ne (n := 0) c_1 (by decide)
    have := ti_ne (n := 1) c_4 (by decide)
    have := ti_ne (n := 2) c_7 (by decide)
    have := ti_ne (n := 3) c_13 (by decide)
    omega
  refine g_tabOut (tgt := 94) X dX11_isLeaf_1 c_41 (by decide) ?_
  refine g_iload_n X dX11_isLeaf_94 2 rfl rfl ?_
  refine g_iconst (v := 4) X dX11_isLeaf_95 (by decide) ?_
  refine g_icmp_ne (tgt := 116) X dX11_isLeaf_96 (by decide) (fun c_19 => ?_) (fun c_19 => ?_)
  · rw [if_neg c_19] at hF
    refine g_iload_n X dX11_isLeaf_116 2 rfl rfl ?_
    refine g_bipush (v := 8) X dX11_isLeaf_117 (by decide) ?_
    refine g_icmp_ne (tgt := 126) X dX11_isLeaf_119 (by decide) (fun c_20 => ?_) (fun c_20 => ?_)
    · rw [if_neg c_20] at hF
      refine g_aload_n X dX11_isLeaf_126 0 rfl rfl ?_
      refine g_iload_n X dX11_isLeaf_127 1 rfl rfl ?_
      refine g_iload_n X dX11_isLeaf_128 2 rfl rfl ?_
      refine g_iconst (v := 5) X dX11_isLeaf_129 (by decide) ?_
      refine g_isub X dX11_isLeaf_130 ?_
      obtain ⟨r_21, q_22, hF⟩ := obind hF
      refine g_callVi (As := [.int x1, .int (x2 - (5 : Int32))]) X dX11_isLeaf_131 mlX11_338 (fun l D cyy => tX11_partOf (cx_inj X) l D cyy a0 x1 (x2 - (5 : Int32)) h0 S r_21 q_22) h0 (by decide) rfl rfl (Nat.le_of_ble_eq_true rfl) ?_
      refine g_istore X dX11_isLeaf_134 (by decide) (lv' := [(5, .int r_21), (0, .ref (ad a0)), (1, .int x1), (2, .int x2), (3, .int x3), (4, .int x4)]) rfl ?_
      refine g_iload_n X dX11_isLeaf_136 4 rfl rfl ?_
      refine g_bipush (v := 60) X dX11_isLeaf_137 (by decide) ?_
      refine g_icmp_ne (tgt := 157) X dX11_isLeaf_139 (by decide) (fun c_23 => ?_) (fun c_23 => ?_)
      · rw [if_neg c_23] at hF
        refine g_iload_n X dX11_isLeaf_157 4 rfl rfl ?_
        refine g_bipush (v := 61) X dX11_isLeaf_158 (by decide) ?_
        refine g_icmp_ne (tgt := 178) X dX11_isLeaf_160 (by decide) (fun c_24 => ?_) (fun c_24 => ?_)
        · rw [if_neg c_24] at hF
          refine g_iload X dX11_isLeaf_178 0 rfl ?_
          refine g_iload X dX11_isLeaf_180 5 rfl ?_
          refine g_icmp_le (tgt := 189) X dX11_isLeaf_182 (by decide) (fun c_25 => ?_) (fun c_25 => ?_)
          · rw [if_pos c_25] at hF
            refine g_iconst (v := 0) X dX11_isLeaf_189 (by decide) ?_
            have hF := Option.some.inj hF
            subst hF
            exact g_zret X dX11_isLeaf_190 (by decide) ho
          · rw [if_neg c_25] at hF
            refine g_iconst (v := 1) X dX11_isLeaf_185 (by decide) ?_
            refine g_goto (tgt := 190) X dX11_isLeaf_186 (by decide) ?_
            have hF := Option.some.inj hF
            subst hF
            exact g_zret X dX11_isLeaf_190 (by decide) ho
        · rw [if_pos c_24] at hF
          refine g_iload X dX11_isLeaf_163 0 rfl ?_
          refine g_iload X dX11_isLeaf_165 5 rfl ?_
          refine g_icmp_ne (tgt := 174) X dX11_isLeaf_167 (by decide) (fun c_26 => ?_) (fun c_26 => ?_)
          · rw [if_neg c_26] at hF
            refine g_iconst (v := 0) X dX11_isLeaf_174 (by decide) ?_
            refine g_goto (tgt := 190) X dX11_isLeaf_175 (by decide) ?_
            have hF := Option.some.inj hF
            subst hF
            exact g_zret X dX11_isLeaf_190 (by decide) ho
          · rw [if_pos c_26] at hF
            refine g_iconst (v := 1) X dX11_isLeaf_170 (by decide) ?_
            refine g_goto (tgt := 190) X dX11_isLeaf_171 (by decide) ?_
            have hF := Option.some.inj hF
            subst hF
            exact g_zret X dX11_isLeaf_190 (by decide) ho
      · rw [if_pos c_23] at hF
        refine g_iload X dX11_isLeaf_142 0 rfl ?_
        refine g_iload X dX11_isLeaf_144 5 rfl ?_
        refine g_icmp_ge (tgt := 153) X dX11_isLeaf_146 (by decide) (fun c_27 => ?_) (fun c_27 => ?_)
        · rw [if_pos c_27] at hF
          refine g_iconst (v := 0) X dX11_isLeaf_153 (by decide) ?_
          refine g_goto (tgt := 190) X dX11_isLeaf_154 (by decide) ?_
          have hF := Option.some.inj hF
          subst hF
          exact g_zret X dX11_isLeaf_190 (by decide) ho
        · rw [if_neg c_27] at hF
          refine g_iconst (v := 1) X dX11_isLeaf_149 (by decide) ?_
          refine g_goto (tgt := 190) X dX11_isLeaf_150 (by decide) ?_
          have hF := Option.some.inj hF
          subst hF
          exact g_zret X dX11_isLeaf_190 (by decide) ho
    · rw [if_pos c_20] at hF
      refine g_iload_n X dX11_isLeaf_122 1 rfl rfl ?_
      refine g_goto (tgt := 134) X dX11_isLeaf_123 (by decide) ?_
      refine g_istore X dX11_isLeaf_134 (by decide) (lv' := [(5, .int x1), (0, .ref (ad a0)), (1, .int x1), (2, .int x2), (3, .int x3), (4, .int x4)]) rfl ?_
      refine g_iload_n X dX11_isLeaf_136 4 rfl rfl ?_
      refine g_bipush (v := 60) X dX11_isLeaf_137 (by decide) ?_
      refine g_icmp_ne (tgt := 157) X dX11_isLeaf_139 (by decide) (fun c_28 => ?_) (fun c_28 => ?_)
      · rw [if_neg c_28] at hF
        refine g_iload_n X dX11_isLeaf_157 4 rfl rfl ?_
        refine g_bipush (v := 61) X dX11_isLeaf_158 (by decide) ?_
        refine g_icmp_ne (tgt := 178) X dX11_isLeaf_160 (by decide) (fun c_29 => ?_) (fun c_29 => ?_)
        · rw [if_neg c_29] at hF
          refine g_iload X dX11_isLeaf_178 0 rfl ?_
          refine g_iload X dX11_isLeaf_180 5 rfl ?_
          refine g_icmp_le (tgt := 189) X dX11_isLeaf_182 (by decide) (fun c_30 => ?_) (fun c_30 => ?_)
          · rw [if_pos c_30] at hF
            refine g_iconst (v := 0) X dX11_isLeaf_189 (by decide) ?_
            have hF := Option.some.inj hF
            subst hF
            exact g_zret X dX11_isLeaf_190 (by decide) ho
          · rw [if_neg c_30] at hF
            refine g_iconst (v := 1) X dX11_isLeaf_185 (by decide) ?_
            refine g_goto (tgt := 190) X dX11_isLeaf_186 (by decide) ?_
            have hF := Option.some.inj hF
            subst hF
            exact g_zret X dX11_isLeaf_190 (by decide) ho
        · rw [if_pos c_29] at hF
          refine g_iload X dX11_isLeaf_163 0 rfl ?_
          refine g_iload X dX11_isLeaf_165 5 rfl ?_
          refine g_icmp_ne (tgt := 174) X dX11_isLeaf_167 (by decide) (fun c_31 => ?_) (fun c_31 => ?_)
          · rw [if_neg c_31] at hF
            refine g_iconst (v := 0) X dX11_isLeaf_174 (by decide) ?_
            refine g_goto (tgt := 190) X dX11_isLeaf_175 (by decide) ?_
            have hF := Option.some.inj hF
            subst hF
            exact g_zret X dX11_isLeaf_190 (by decide) ho
          · rw [if_pos c_31] at hF
            refine g_iconst (v := 1) X dX11_isLeaf_170 (by decide) ?_
            refine g_goto (tgt := 190) X dX11_isLeaf_171 (by decide) ?_
            have hF := Option.some.inj hF
            subst hF
            exact g_zret X dX11_isLeaf_190 (by decide) ho
      · rw [if_pos c_28] at hF
        refine g_iload X dX11_isLeaf_142 0 rfl ?_
        refine g_iload X dX11_isLeaf_144 5 rfl ?_
        refine g_icmp_ge (tgt := 153) X dX11_isLeaf_146 (by decide) (fun c_32 => ?_) (fun c_32 => ?_)
        · rw [if_pos c_32] at hF
          refine g_iconst (v := 0) X dX11_isLeaf_153 (by decide) ?_
          refine g_goto (tgt := 190) X dX11_isLeaf_154 (by decide) ?_
          have hF := Option.some.inj hF
          subst hF
          exact g_zret X dX11_isLeaf_190 (by decide) ho
        · rw [if_neg c_32] at hF
          refine g_iconst (v := 1) X dX11_isLeaf_149 (by decide) ?_
          refine g_goto (tgt := 190) X dX11_isLeaf_150 (by decide) ?_
          have hF := Option.some.inj hF
          subst hF
          exact g_zret X dX11_isLeaf_190 (by decide) ho
  · rw [if_pos c_19] at hF
    refine g_aload_n X dX11_isLeaf_99 0 rfl rfl ?_
    refine g_iload_n X dX11_isLeaf_100 1 rfl rfl ?_
    refine g_aload_n X dX11_isLeaf_101 0 rfl rfl ?_
    refine g_getR (f := 2) X dX11_isLeaf_102 flX11_33 rfl rfl h0 ?_
    refine g_bipush (v := 54) X dX11_isLeaf_105 (by decide) ?_
    refine g_iload_n X dX11_isLeaf_107 1 rfl rfl ?_
    refine g_iadd X dX11_isLeaf_108 ?_
    obtain ⟨e_33, hF⟩ := oguard hF
    refine g_iald X dX11_isLeaf_109 kd_29 (on_11_6 h0) e_33 ?_
    obtain ⟨r_34, q_35, hF⟩ := obind hF
    refine g_callVi (As := [.int x1, .int (gA S 29 (a0 + 2) (((54 : Int32) + x1).toNatClampNeg))]) X dX11_isLeaf_110 mlX11_246 (fun l D cyy => tX11_yearBy (cx_inj X) l D cyy a0 x1 (gA S 29 (a0 + 2) (((54 : Int32) + x1).toNatClampNeg)) h0 S r_34 q_35) h0 (by decide) rfl rfl (Nat.le_of_ble_eq_true rfl) ?_
    refine g_goto (tgt := 134) X dX11_isLeaf_113 (by decide) ?_
    refine g_istore X dX11_isLeaf_134 (by decide) (lv' := [(5, .int r_34), (0, .ref (ad a0)), (1, .int x1), (2, .int x2), (3, .int x3), (4, .int x4)]) rfl ?_
    refine g_iload_n X dX11_isLeaf_136 4 rfl rfl ?_
    refine g_bipush (v := 60) X dX11_isLeaf_137 (by decide) ?_
    refine g_icmp_ne (tgt := 157) X dX11_isLeaf_139 (by decide) (fun c_36 => ?_) (fun c_36 => ?_)
    · rw [if_neg c_36] at hF
      refine g_iload_n X dX11_isLeaf_157 4 rfl rfl ?_
      refine g_bipush (v := 61) X dX11_isLeaf_158 (by decide) ?_
      refine g_icmp_ne (tgt := 178) X dX11_isLeaf_160 (by decide) (fun c_37 => ?_) (fun c_37 => ?_)
      · rw [if_neg c_37] at hF
        refine g_iload X dX11_isLeaf_178 0 rfl ?_
        refine g_iload X dX11_isLeaf_180 5 rfl ?_
        refine g_icmp_le (tgt := 189) X dX11_isLeaf_182 (by decide) (fun c_38 => ?_) (fun c_38 => ?_)
        · rw [if_pos c_38] at hF
          refine g_iconst (v := 0) X dX11_isLeaf_189 (by decide) ?_
          have hF := Option.some.inj hF
          subst hF
          exact g_zret X dX11_isLeaf_190 (by decide) ho
        · rw [if_neg c_38] at hF
          refine g_iconst (v := 1) X dX11_isLeaf_185 (by decide) ?_
          refine g_goto (tgt := 190) X dX11_isLeaf_186 (by decide) ?_
          have hF := Option.some.inj hF
          subst hF
          exact g_zret X dX11_isLeaf_190 (by decide) ho
      · rw [if_pos c_37] at hF
        refine g_iload X dX11_isLeaf_163 0 rfl ?_
        refine g_iload X dX11_isLeaf_165 5 rfl ?_
        refine g_icmp_ne (tgt := 174) X dX11_isLeaf_167 (by decide) (fun c_39 => ?_) (fun c_39 => ?_)
        · rw [if_neg c_39] at hF
          refine g_iconst (v := 0) X dX11_isLeaf_174 (by decide) ?_
          refine g_goto (tgt := 190) X dX11_isLeaf_175 (by decide) ?_
          have hF := Option.some.inj hF
          subst hF
          exact g_zret X dX11_isLeaf_190 (by decide) ho
        · rw [if_pos c_39] at hF
          refine g_iconst (v := 1) X dX11_isLeaf_170 (by decide) ?_
          refine g_goto (tgt := 190) X dX11_isLeaf_171 (by decide) ?_
          have hF := Option.some.inj hF
          subst hF
          exact g_zret X dX11_isLeaf_190 (by decide) ho
    · rw [if_pos c_36] at hF
      refine g_iload X dX11_isLeaf_142 0 rfl ?_
      refine g_iload X dX11_isLeaf_144 5 rfl ?_
      refine g_icmp_ge (tgt := 153) X dX11_isLeaf_146 (by decide) (fun c_40 => ?_) (fun c_40 => ?_)
      · rw [if_pos c_40] at hF
        refine g_iconst (v := 0) X dX11_isLeaf_153 (by decide) ?_
        refine g_goto (tgt := 190) X dX11_isLeaf_154 (by decide) ?_
        have hF := Option.some.inj hF
        subst hF
        exact g_zret X dX11_isLeaf_190 (by decide) ho
      · rw [if_neg c_40] at hF
        refine g_iconst (v := 1) X dX11_isLeaf_149 (by decide) ?_
        refine g_goto (tgt := 190) X dX11_isLeaf_150 (by decide) ?_
        have hF := Option.some.inj hF
        subst hF
        exact g_zret X dX11_isLeaf_190 (by decide) ho
theorem tX11_isLeaf {ad : Nat → Nat} (hI : Inj ad) (l : Launch) (D : va_G) (cyy : Nat → ClassId) (a0 : Nat) (x1 : Int32) (x2 : Int32) (x3 : Int32) (x4 : Int32) (h0 : KT a0 = 11) (S : St) (r : Int32) (hF : fX11_isLeaf a0 x1 x2 x3 x4 S = some r) : OkM l yX11_isLeaf cX11_isLeaf 6 (some .boolean) 7 ad D cyy [.ref (ad a0), .int x1, .int x2, .int x3, .int x4] S (some (.int r), S) := okM_of hI (by decide) (inr_64 _ (List.mem_of_getElem? (i := 8) rfl)) (by show _ ≤ 6; exact Nat.le_of_ble_eq_true rfl) (fun z X => wX11_isLeaf X a0 x1 x2 x3 x4 h0 S r rfl hF)
def fX11_isSaid_s204 (k4 : Int32 → Int32 → St → Option (Int32 × St)) (a0 : Nat) (x1 : Int32) (y2 : Int32) (y3 : Int32)  (S : St) : Option (Int32 × St) :=
  k4 y2 (y3 + (1 : Int32)) S
def fX11_isSaid_s162 (k4 : Int32 → Int32 → St → Option (Int32 × St)) (a0 : Nat) (x1 : Int32) (y2 : Int32) (y3 : Int32)  (S : St) : Option (Int32 × St) :=
  fX11_isSaid_s204 k4 a0 x1 y2 y3 S
def fX11_isSaid_s86 (k4 : Int32 → Int32 → St → Option (Int32 × St)) (a0 : Nat) (x1 : Int32) (y2 : Int32) (y3 : Int32) (y4 : Int32)  (S : St) : Option (Int32 × St) :=
  if (y4 < 0 ∨ 250 ≤ y4.toNatClampNeg) then none else
  if (gA S 29 (a0 + 2) y4.toNatClampNeg) = (21 : Int32) then (if (((y2 + (-1 : Int32)) - (1 : Int32)) < 0 ∨ 45 ≤ ((y2 + (-1 : Int32)) - (1 : Int32)).toNatClampNeg) then none else
  if (gA S 39 (a0 + 12) (((y2 + (-1 : Int32)) - (1 : Int32)).toNatClampNeg)) = 0 then (if (((y2 + (-1 : Int32)) - (1 : Int32)) < 0 ∨ 45 ≤ ((y2 + (-1 : Int32)) - (1 : Int32)).toNatClampNeg) then none else
  fX11_isSaid_s162 k4 a0 x1 (y2 + (-1 : Int32)) y3 (sA S 39 (a0 + 12) (((y2 + (-1 : Int32)) - (1 : Int32)).toNatClampNeg) (vp_nar .boolean (0 : Int32)))) else
  (if ((y2 + (-1 : Int32)) < 0 ∨ 45 ≤ (y2 + (-1 : Int32)).toNatClampNeg) then none else
  if (gA S 39 (a0 + 12) ((y2 + (-1 : Int32)).toNatClampNeg)) = 0 then (if (((y2 + (-1 : Int32)) - (1 : Int32)) < 0 ∨ 45 ≤ ((y2 + (-1 : Int32)) - (1 : Int32)).toNatClampNeg) then none else
  fX11_isSaid_s162 k4 a0 x1 (y2 + (-1 : Int32)) y3 (sA S 39 (a0 + 12) (((y2 + (-1 : Int32)) - (1 : Int32)).toNatClampNeg) (vp_nar .boolean (0 : Int32)))) else
  (if (((y2 + (-1 : Int32)) - (1 : Int32)) < 0 ∨ 45 ≤ ((y2 + (-1 : Int32)) - (1 : Int32)).toNatClampNeg) then none else
  fX11_isSaid_s162 k4 a0 x1 (y2 + (-1 : Int32)) y3 (sA S 39 (a0 + 12) (((y2 + (-1 : Int32)) - (1 : Int32)).toNatClampNeg) (vp_nar .boolean (1 : Int32)))))) else
  (if (((y2 + (-1 : Int32)) - (1 : Int32)) < 0 ∨ 45 ≤ ((y2 + (-1 : Int32)) - (1 : Int32)).toNatClampNeg) then none else
  if (gA S 39 (a0 + 12) (((y2 + (-1 : Int32)) - (1 : Int32)).toNatClampNeg)) = 0 then (if ((y2 + (-1 : Int32)) < 0 ∨ 45 ≤ (y2 + (-1 : Int32)).toNatClampNeg) then none else
  if (gA S 39 (a0 + 12) ((y2 + (-1 : Int32)).toNatClampNeg)) = 0 then (if (((y2 + (-1 : Int32)) - (1 : Int32)) < 0 ∨ 45 ≤ ((y2 + (-1 : Int32)) - (1 : Int32)).toNatClampNeg) then none else
  fX11_isSaid_s162 k4 a0 x1 (y2 + (-1 : Int32)) y3 (sA S 39 (a0 + 12) (((y2 + (-1 : Int32)) - (1 : Int32)).toNatClampNeg) (vp_nar .boolean (0 : Int32)))) else
  (if (((y2 + (-1 : Int32)) - (1 : Int32)) < 0 ∨ 45 ≤ ((y2 + (-1 : Int32)) - (1 : Int32)).toNatClampNeg) then none else
  fX11_isSaid_s162 k4 a0 x1 (y2 + (-1 : Int32)) y3 (sA S 39 (a0 + 12) (((y2 + (-1 : Int32)) - (1 : Int32)).toNatClampNeg) (vp_nar .boolean (1 : Int32))))) else
  (if (((y2 + (-1 : Int32)) - (1 : Int32)) < 0 ∨ 45 ≤ ((y2 + (-1 : Int32)) - (1 : Int32)).toNatClampNeg) then none else
  fX11_isSaid_s162 k4 a0 x1 (y2 + (-1 : Int32)) y3 (sA S 39 (a0 + 12) (((y2 + (-1 : Int32)) - (1 : Int32)).toNatClampNeg) (vp_nar .boolean (1 : Int32)))))
def fX11_isSaid_s201 (k4 : Int32 → Int32 → St → Option (Int32 × St)) (a0 : Nat) (x1 : Int32) (y2 : Int32) (y3 : Int32)  (S : St) : Option (Int32 × St) :=
  fX11_isSaid_s204 k4 a0 x1 (y2 + (1 : Int32)) y3 S
def fX11_isSaid_s59 (k4 : Int32 → Int32 → St → Option (Int32 × St)) (a0 : Nat) (x1 : Int32) (y2 : Int32) (y3 : Int32)  (S : St) : Option (Int32 × St) :=
  fX11_isSaid_s204 k4 a0 x1 y2 y3 S
def fX11_isSaid_s23 (k4 : Int32 → Int32 → St → Option (Int32 × St)) (a0 : Nat) (x1 : Int32) (y2 : Int32) (y3 : Int32) (y4 : Int32)  (S : St) : Option (Int32 × St) :=
  if (y4 < 0 ∨ 250 ≤ y4.toNatClampNeg) then none else
  if (gA S 29 (a0 + 2) y4.toNatClampNeg) = (20 : Int32) then (if ((y2 - (1 : Int32)) < 0 ∨ 45 ≤ (y2 - (1 : Int32)).toNatClampNeg) then none else
  if (gA S 39 (a0 + 12) ((y2 - (1 : Int32)).toNatClampNeg)) = 0 then (if ((y2 - (1 : Int32)) < 0 ∨ 45 ≤ (y2 - (1 : Int32)).toNatClampNeg) then none else
  fX11_isSaid_s59 k4 a0 x1 y2 y3 (sA S 39 (a0 + 12) ((y2 - (1 : Int32)).toNatClampNeg) (vp_nar .boolean (1 : Int32)))) else
  (if ((y2 - (1 : Int32)) < 0 ∨ 45 ≤ (y2 - (1 : Int32)).toNatClampNeg) then none else
  fX11_isSaid_s59 k4 a0 x1 y2 y3 (sA S 39 (a0 + 12) ((y2 - (1 : Int32)).toNatClampNeg) (vp_nar .boolean (0 : Int32))))) else
  (if (y4 < 0 ∨ 250 ≤ y4.toNatClampNeg) then none else
  if (gA S 29 (a0 + 2) y4.toNatClampNeg) = (21 : Int32) then (fX11_isSaid_s86 k4 a0 x1 y2 y3 y4 S) else
  (if (y4 < 0 ∨ 250 ≤ y4.toNatClampNeg) then none else
  if (gA S 29 (a0 + 2) y4.toNatClampNeg) = (22 : Int32) then (fX11_isSaid_s86 k4 a0 x1 y2 y3 y4 S) else
  (if (y4 < 0 ∨ 250 ≤ y4.toNatClampNeg) then none else
  if ((y4 + (1 : Int32)) < 0 ∨ 250 ≤ (y4 + (1 : Int32)).toNatClampNeg) then none else
  if ((y4 + (2 : Int32)) < 0 ∨ 250 ≤ (y4 + (2 : Int32)).toNatClampNeg) then none else
  (fX11_isLeaf a0 x1 (gA S 29 (a0 + 2) y4.toNatClampNeg) (gA S 29 (a0 + 2) ((y4 + (1 : Int32)).toNatClampNeg)) (gA S 29 (a0 + 2) ((y4 + (2 : Int32)).toNatClampNeg)) S).bind fun r_27 =>
  if (y2 < 0 ∨ 45 ≤ y2.toNatClampNeg) then none else
  fX11_isSaid_s201 k4 a0 x1 y2 y3 (sA S 39 (a0 + 12) y2.toNatClampNeg (vp_nar .boolean r_27)))))
def fX11_isSaid_s4 (k4 : Int32 → Int32 → St → Option (Int32 × St)) (a0 : Nat) (x1 : Int32) (y2 : Int32) (y3 : Int32)  (S : St) : Option (Int32 × St) :=
  if (gA S 29 (a0 + 2) 69) ≤ y3 then (some ((vp_nar .boolean (gA S 39 (a0 + 12) 0)), S)) else
  (fX11_isSaid_s23 k4 a0 x1 y2 y3 ((70 : Int32) + ((3 : Int32) * y3)) S)
def fX11_isSaid_h4 (a0 : Nat) (x1 : Int32) : Nat → Int32 → Int32 → St → Option (Int32 × St)
  | 0, _, _, _ => none
  | n + 1, y2, y3, S => fX11_isSaid_s4 (fX11_isSaid_h4 a0 x1 n) a0 x1 y2 y3 S
def fX11_isSaid (a0 : Nat) (x1 : Int32) (S : St) : Option (Int32 × St) :=
  fX11_isSaid_h4 a0 x1 NN (0 : Int32) (0 : Int32) S
theorem wX11_isSaid_s204 {z : Mx} {ad : Nat → Nat} {o : Option Value × St} (X : CxOk z ad RX11 cX11_isSaid 5 (some .boolean) 8) (a0 : Nat) (x1 : Int32) (h0 : KT a0 = 11) (y2 : Int32) (y3 : Int32)  (k4 : Int32 → Int32 → St → Option (Int32 × St))   (S : St) (r : (Int32 × St)) (ho : o = (some (.int r.1), r.2)) (hk4 : ∀ (y2 : Int32) (y3 : Int32) (S : St), k4 y2 y3 S = some r → GW z ad o S 4 [(0, .ref (ad a0)), (1, .int x1), (2, .int y2), (3, .int y3)] []) (hF : fX11_isSaid_s204 k4 a0 x1 y2 y3  S = some r) : GW z ad o S 204 [(0, .ref (ad a0)), (1, .int x1), (2, .int y2), (3, .int y3)] [] := by
  unfold fX11_isSaid_s204 at hF
  refine g_iinc (v := (y3 + (1 : Int32))) X dX11_isSaid_204 3 rfl rfl (by decide) (lv' := [(3, .int (y3 + (1 : Int32))), (0, .ref (ad a0)), (1, .int x1), (2, .int y2)]) rfl ?_
  refine g_goto (tgt := 4) X dX11_isSaid_207 (by decide) ?_
  exact g_perm [1, 2, 3, 0] rfl (hk4 y2 (y3 + (1 : Int32)) S hF)
theorem wX11_isSaid_s162 {z : Mx} {ad : Nat → Nat} {o : Option Value × St} (X : CxOk z ad RX11 cX11_isSaid 5 (some .boolean) 8) (a0 : Nat) (x1 : Int32) (h0 : KT a0 = 11) (y2 : Int32) (y3 : Int32)  (k4 : Int32 → Int32 → St → Option (Int32 × St))   (S : St) (r : (Int32 × St)) (ho : o = (some (.int r.1), r.2)) (hk4 : ∀ (y2 : Int32) (y3 : Int32) (S : St), k4 y2 y3 S = some r → GW z ad o S 4 [(0, .ref (ad a0)), (1, .int x1), (2, .int y2), (3, .int y3)] []) (hF : fX11_isSaid_s162 k4 a0 x1 y2 y3  S = some r) : GW z ad o S 162 [(0, .ref (ad a0)), (1, .int x1), (2, .int y2), (3, .int y3)] [] := by
  unfold fX11_isSaid_s162 at hF
  refine g_goto (tgt := 204) X dX11_isSaid_162 (by decide) ?_
  exact (wX11_isSaid_s204 X a0 x1 h0 y2 y3 k4 S r ho hk4 hF)
theorem wX11_isSaid_s86 {z : Mx} {ad : Nat → Nat} {o : Option Value × St} (X : CxOk z ad RX11 cX11_isSaid 5 (some .boolean) 8) (a0 : Nat) (x1 : Int32) (h0 : KT a0 = 11) (y2 : Int32) (y3 : Int32) (y4 : Int32)  (k4 : Int32 → Int32 → St → Option (Int32 × St))   (S : St) (r : (Int32 × St)) (ho : o = (some (.int r.1), r.2)) (hk4 : ∀ (y2 : Int32) (y3 : Int32) (S : St), k4 y2 y3 S = some r → GW z ad o S 4 [(0, .ref (ad a0)), (1, .int x1), (2, .int y2), (3, .int y3)] []) (hF : fX11_isSaid_s86 k4 a0 x1 y2 y3 y4  S = some r) : GW z ad o S 86 [(0, .ref (ad a0)), (1, .int x1), (2, .int y2), (3, .int y3), (4, .int y4)] [] := by
  unfold fX11_isSaid_s86 at hF
  refine g_iinc (v := (y2 + (-1 : Int32))) X dX11_isSaid_86 2 rfl rfl (by decide) (lv' := [(2, .int (y2 + (-1 : Int32))), (0, .ref (ad a0)), (1, .int x1), (3, .int y3), (4, .int y4)]) rfl ?_
  refine g_aload_n X dX11_isSaid_89 1 rfl rfl ?_
  refine g_getR (f := 12) X dX11_isSaid_90 flX11_77 rfl rfl h0 ?_
  refine g_iload_n X dX11_isSaid_93 0 rfl rfl ?_
  refine g_iconst (v := 1) X dX11_isSaid_94 (by decide) ?_
  refine g_isub X dX11_isSaid_95 ?_
  refine g_aload_n X dX11_isSaid_96 1 rfl rfl ?_
  refine g_getR (f := 2) X dX11_isSaid_97 flX11_33 rfl rfl h0 ?_
  refine g_iload X dX11_isSaid_100 4 rfl ?_
  obtain ⟨e_6, hF⟩ := oguard hF
  refine g_iald X dX11_isSaid_102 kd_29 (on_11_6 h0) e_6 ?_
  refine g_bipush (v := 21) X dX11_isSaid_103 (by decide) ?_
  refine g_icmp_ne (tgt := 136) X dX11_isSaid_105 (by decide) (fun c_7 => ?_) (fun c_7 => ?_)
  · rw [if_neg c_7] at hF
    refine g_aload_n X dX11_isSaid_136 1 rfl rfl ?_
    refine g_getR (f := 12) X dX11_isSaid_137 flX11_77 rfl rfl h0 ?_
    refine g_iload_n X dX11_isSaid_140 0 rfl rfl ?_
    refine g_iconst (v := 1) X dX11_isSaid_141 (by decide) ?_
    refine g_isub X dX11_isSaid_142 ?_
    obtain ⟨e_8, hF⟩ := oguard hF
    refine g_zald X dX11_isSaid_143 kd_39 (on_11_42 h0) e_8 ?_
    refine g_if_ne (tgt := 156) X dX11_isSaid_144 (by decide) (fun c_9 => ?_) (fun c_9 => ?_)
    · rw [if_neg c_9] at hF
      refine g_iconst (v := 1) X dX11_isSaid_156 (by decide) ?_
      refine g_goto (tgt := 161) X dX11_isSaid_157 (by decide) ?_
      obtain ⟨e_10, hF⟩ := oguard hF
      refine g_zast X dX11_isSaid_161 kd_39 (on_11_42 h0) e_10 ?_
      exact g_perm [1, 2, 0, 3] rfl (wX11_isSaid_s162 X a0 x1 h0 (y2 + (-1 : Int32)) y3 k4 (sA S 39 (a0 + 12) (((y2 + (-1 : Int32)) - (1 : Int32)).toNatClampNeg) (vp_nar .boolean (1 : Int32))) r ho hk4 hF)
    · rw [if_pos c_9] at hF
      refine g_aload_n X dX11_isSaid_147 1 rfl rfl ?_
      refine g_getR (f := 12) X dX11_isSaid_148 flX11_77 rfl rfl h0 ?_
      refine g_iload_n X dX11_isSaid_151 0 rfl rfl ?_
      obtain ⟨e_11, hF⟩ := oguard hF
      refine g_zald X dX11_isSaid_152 kd_39 (on_11_42 h0) e_11 ?_
      refine g_if_eq (tgt := 160) X dX11_isSaid_153 (by decide) (fun c_12 => ?_) (fun c_12 => ?_)
      · rw [if_pos c_12] at hF
        refine g_iconst (v := 0) X dX11_isSaid_160 (by decide) ?_
        obtain ⟨e_13, hF⟩ := oguard hF
        refine g_zast X dX11_isSaid_161 kd_39 (on_11_42 h0) e_13 ?_
        exact g_perm [1, 2, 0, 3] rfl (wX11_isSaid_s162 X a0 x1 h0 (y2 + (-1 : Int32)) y3 k4 (sA S 39 (a0 + 12) (((y2 + (-1 : Int32)) - (1 : Int32)).toNatClampNeg) (vp_nar .boolean (0 : Int32))) r ho hk4 hF)
      · rw [if_neg c_12] at hF
        refine g_iconst (v := 1) X dX11_isSaid_156 (by decide) ?_
        refine g_goto (tgt := 161) X dX11_isSaid_157 (by decide) ?_
        obtain ⟨e_14, hF⟩ := oguard hF
        refine g_zast X dX11_isSaid_161 kd_39 (on_11_42 h0) e_14 ?_
        exact g_perm [1, 2, 0, 3] rfl (wX11_isSaid_s162 X a0 x1 h0 (y2 + (-1 : Int32)) y3 k4 (sA S 39 (a0 + 12) (((y2 + (-1 : Int32)) - (1 : Int32)).toNatClampNeg) (vp_nar .boolean (1 : Int32))) r ho hk4 hF)
  · rw [if_pos c_7] at hF
    refine g_aload_n X dX11_isSaid_108 1 rfl rfl ?_
    refine g_getR (f := 12) X dX11_isSaid_109 flX11_77 rfl rfl h0 ?_
    refine g_iload_n X dX11_isSaid_112 0 rfl rfl ?_
    refine g_iconst (v := 1) X dX11_isSaid_113 (by decide) ?_
    refine g_isub X dX11_isSaid_114 ?_
    obtain ⟨e_15, hF⟩ := oguard hF
    refine g_zald X dX11_isSaid_115 kd_39 (on_11_42 h0) e_15 ?_
    refine g_if_eq (tgt := 132) X dX11_isSaid_116 (by decide) (fun c_16 => ?_) (fun c_16 => ?_)
    · rw [if_pos c_16] at hF
      refine g_iconst (v := 0) X dX11_isSaid_132 (by decide) ?_
      refine g_goto (tgt := 161) X dX11_isSaid_133 (by decide) ?_
      obtain ⟨e_17, hF⟩ := oguard hF
      refine g_zast X dX11_isSaid_161 kd_39 (on_11_42 h0) e_17 ?_
      exact g_perm [1, 2, 0, 3] rfl (wX11_isSaid_s162 X a0 x1 h0 (y2 + (-1 : Int32)) y3 k4 (sA S 39 (a0 + 12) (((y2 + (-1 : Int32)) - (1 : Int32)).toNatClampNeg) (vp_nar .boolean (0 : Int32))) r ho hk4 hF)
    · rw [if_neg c_16] at hF
      refine g_aload_n X dX11_isSaid_119 1 rfl rfl ?_
      refine g_getR (f := 12) X dX11_isSaid_120 flX11_77 rfl rfl h0 ?_
      refine g_iload_n X dX11_isSaid_123 0 rfl rfl ?_
      obtain ⟨e_18, hF⟩ := oguard hF
      refine g_zald X dX11_isSaid_124 kd_39 (on_11_42 h0) e_18 ?_
      refine g_if_eq (tgt := 132) X dX11_isSaid_125 (by decide) (fun c_19 => ?_) (fun c_19 => ?_)
      · rw [if_pos c_19] at hF
        refine g_iconst (v := 0) X dX11_isSaid_132 (by decide) ?_
        refine g_goto (tgt := 161) X dX11_isSaid_133 (by decide) ?_
        obtain ⟨e_20, hF⟩ := oguard hF
        refine g_zast X dX11_isSaid_161 kd_39 (on_11_42 h0) e_20 ?_
        exact g_perm [1, 2, 0, 3] rfl (wX11_isSaid_s162 X a0 x1 h0 (y2 + (-1 : Int32)) y3 k4 (sA S 39 (a0 + 12) (((y2 + (-1 : Int32)) - (1 : Int32)).toNatClampNeg) (vp_nar .boolean (0 : Int32))) r ho hk4 hF)
      · rw [if_neg c_19] at hF
        refine g_iconst (v := 1) X dX11_isSaid_128 (by decide) ?_
        refine g_goto (tgt := 161) X dX11_isSaid_129 (by decide) ?_
        obtain ⟨e_21, hF⟩ := oguard hF
        refine g_zast X dX11_isSaid_161 kd_39 (on_11_42 h0) e_21 ?_
        exact g_perm [1, 2, 0, 3] rfl (wX11_isSaid_s162 X a0 x1 h0 (y2 + (-1 : Int32)) y3 k4 (sA S 39 (a0 + 12) (((y2 + (-1 : Int32)) - (1 : Int32)).toNatClampNeg) (vp_nar .boolean (1 : Int32))) r ho hk4 hF)
theorem wX11_isSaid_s201 {z : Mx} {ad : Nat → Nat} {o : Option Value × St} (X : CxOk z ad RX11 cX11_isSaid 5 (some .boolean) 8) (a0 : Nat) (x1 : Int32) (h0 : KT a0 = 11) (y2 : Int32) (y3 : Int32)  (k4 : Int32 → Int32 → St → Option (Int32 × St))   (S : St) (r : (Int32 × St)) (ho : o = (some (.int r.1), r.2)) (hk4 : ∀ (y2 : Int32) (y3 : Int32) (S : St), k4 y2 y3 S = some r → GW z ad o S 4 [(0, .ref (ad a0)), (1, .int x1), (2, .int y2), (3, .int y3)] []) (hF : fX11_isSaid_s201 k4 a0 x1 y2 y3  S = some r) : GW z ad o S 201 [(0, .ref (ad a0)), (1, .int x1), (2, .int y2), (3, .int y3)] [] := by
  unfold fX11_isSaid_s201 at hF
  refine g_iinc (v := (y2 + (1 : Int32))) X dX11_isSaid_201 2 rfl rfl (by decide) (lv' := [(2, .int (y2 + (1 : Int32))), (0, .ref (ad a0)), (1, .int x1), (3, .int y3)]) rfl ?_
  exact g_perm [1, 2, 0, 3] rfl (wX11_isSaid_s204 X a0 x1 h0 (y2 + (1 : Int32)) y3 k4 S r ho hk4 hF)
theorem wX11_isSaid_s59 {z : Mx} {ad : Nat → Nat} {o : Option Value × St} (X : CxOk z ad RX11 cX11_isSaid 5 (some .boolean) 8) (a0 : Nat) (x1 : Int32) (h0 : KT a0 = 11) (y2 : Int32) (y3 : Int32)  (k4 : Int32 → Int32 → St → Option (Int32 × St))   (S : St) (r : (Int32 × St)) (ho : o = (some (.int r.1), r.2)) (hk4 : ∀ (y2 : Int32) (y3 : Int32) (S : St), k4 y2 y3 S = some r → GW z ad o S 4 [(0, .ref (ad a0)), (1, .int x1), (2, .int y2), (3, .int y3)] []) (hF : fX11_isSaid_s59 k4 a0 x1 y2 y3  S = some r) : GW z ad o S 59 [(0, .ref (ad a0)), (1, .int x1), (2, .int y2), (3, .int y3)] [] := by
  unfold fX11_isSaid_s59 at hF
  refine g_goto (tgt := 204) X dX11_isSaid_59 (by decide) ?_
  exact (wX11_isSaid_s204 X a0 x1 h0 y2 y3 k4 S r ho hk4 hF)
theorem wX11_isSaid_s23 {z : Mx} {ad : Nat → Nat} {o : Option Value × St} (X : CxOk z ad RX11 cX11_isSaid 5 (some .boolean) 8) (a0 : Nat) (x1 : Int32) (h0 : KT a0 = 11) (y2 : Int32) (y3 : Int32) (y4 : Int32)  (k4 : Int32 → Int32 → St → Option (Int32 × St))   (S : St) (r : (Int32 × St)) (ho : o = (some (.int r.1), r.2)) (hk4 : ∀ (y2 : Int32) (y3 : Int32) (S : St), k4 y2 y3 S = some r → GW z ad o S 4 [(0, .ref (ad a0)), (1, .int x1), (2, .int y2), (3, .int y3)] []) (hF : fX11_isSaid_s23 k4 a0 x1 y2 y3 y4  S = some r) : GW z ad o S 23 [(0, .ref (ad a0)), (1, .int x1), (2, .int y2), (3, .int y3), (4, .int y4)] [] := by
  unfold fX11_isSaid_s23 at hF
  refine g_aload_n X dX11_isSaid_23 0 rfl rfl ?_
  refine g_getR (f := 2) X dX11_isSaid_24 flX11_33 rfl rfl h0 ?_
  refine g_iload X dX11_isSaid_27 4 rfl ?_
  obtain ⟨e_2, hF⟩ := oguard hF
  refine g_iald X dX11_isSaid_29 kd_29 (on_11_6 h0) e_2 ?_
  refine g_bipush (v := 20) X dX11_isSaid_30 (by decide) ?_
  refine g_icmp_ne (tgt := 62) X dX11_isSaid_32 (by decide) (fun c_3 => ?_) (fun c_3 => ?_)
  · rw [if_neg c_3] at hF
    refine g_aload_n X dX11_isSaid_62 0 rfl rfl ?_
    refine g_getR (f := 2) X dX11_isSaid_63 flX11_33 rfl rfl h0 ?_
    refine g_iload X dX11_isSaid_66 4 rfl ?_
    obtain ⟨e_4, hF⟩ := oguard hF
    refine g_iald X dX11_isSaid_68 kd_29 (on_11_6 h0) e_4 ?_
    refine g_bipush (v := 21) X dX11_isSaid_69 (by decide) ?_
    refine g_icmp_eq (tgt := 86) X dX11_isSaid_71 (by decide) (fun c_5 => ?_) (fun c_5 => ?_)
    · rw [if_pos c_5] at hF
      exact (wX11_isSaid_s86 X a0 x1 h0 y2 y3 y4 k4 S r ho hk4 hF)
    · rw [if_neg c_5] at hF
      refine g_aload_n X dX11_isSaid_74 0 rfl rfl ?_
      refine g_getR (f := 2) X dX11_isSaid_75 flX11_33 rfl rfl h0 ?_
      refine g_iload X dX11_isSaid_78 4 rfl ?_
      obtain ⟨e_22, hF⟩ := oguard hF
      refine g_iald X dX11_isSaid_80 kd_29 (on_11_6 h0) e_22 ?_
      refine g_bipush (v := 22) X dX11_isSaid_81 (by decide) ?_
      refine g_icmp_ne (tgt := 165) X dX11_isSaid_83 (by decide) (fun c_23 => ?_) (fun c_23 => ?_)
      · rw [if_neg c_23] at hF
        refine g_aload_n X dX11_isSaid_165 0 rfl rfl ?_
        refine g_getR (f := 12) X dX11_isSaid_166 flX11_77 rfl rfl h0 ?_
        refine g_iload_n X dX11_isSaid_169 2 rfl rfl ?_
        refine g_aload_n X dX11_isSaid_170 0 rfl rfl ?_
        refine g_iload_n X dX11_isSaid_171 1 rfl rfl ?_
        refine g_aload_n X dX11_isSaid_172 0 rfl rfl ?_
        refine g_getR (f := 2) X dX11_isSaid_173 flX11_33 rfl rfl h0 ?_
        refine g_iload X dX11_isSaid_176 4 rfl ?_
        obtain ⟨e_24, hF⟩ := oguard hF
        refine g_iald X dX11_isSaid_178 kd_29 (on_11_6 h0) e_24 ?_
        refine g_aload_n X dX11_isSaid_179 0 rfl rfl ?_
        refine g_getR (f := 2) X dX11_isSaid_180 flX11_33 rfl rfl h0 ?_
        refine g_iload X dX11_isSaid_183 4 rfl ?_
        refine g_iconst (v := 1) X dX11_isSaid_185 (by decide) ?_
        refine g_iadd X dX11_isSaid_186 ?_
        obtain ⟨e_25, hF⟩ := oguard hF
        refine g_iald X dX11_isSaid_187 kd_29 (on_11_6 h0) e_25 ?_
        refine g_aload_n X dX11_isSaid_188 0 rfl rfl ?_
        refine g_getR (f := 2) X dX11_isSaid_189 flX11_33 rfl rfl h0 ?_
        refine g_iload X dX11_isSaid_192 4 rfl ?_
        refine g_iconst (v := 2) X dX11_isSaid_194 (by decide) ?_
        refine g_iadd X dX11_isSaid_195 ?_
        obtain ⟨e_26, hF⟩ := oguard hF
        refine g_iald X dX11_isSaid_196 kd_29 (on_11_6 h0) e_26 ?_
        obtain ⟨r_27, q_28, hF⟩ := obind hF
        refine g_callVi (As := [.int x1, .int (gA S 29 (a0 + 2) y4.toNatClampNeg), .int (gA S 29 (a0 + 2) ((y4 + (1 : Int32)).toNatClampNeg)), .int (gA S 29 (a0 + 2) ((y4 + (2 : Int32)).toNatClampNeg))]) X dX11_isSaid_197 mlX11_432 (fun l D cyy => tX11_isLeaf (cx_inj X) l D cyy a0 x1 (gA S 29 (a0 + 2) y4.toNatClampNeg) (gA S 29 (a0 + 2) ((y4 + (1 : Int32)).toNatClampNeg)) (gA S 29 (a0 + 2) ((y4 + (2 : Int32)).toNatClampNeg)) h0 S r_27 q_28) h0 (by decide) rfl rfl (Nat.le_of_ble_eq_true rfl) ?_
        obtain ⟨e_29, hF⟩ := oguard hF
        refine g_zast X dX11_isSaid_200 kd_39 (on_11_42 h0) e_29 ?_
        exact g_perm [0, 1, 2, 3] rfl (wX11_isSaid_s201 X a0 x1 h0 y2 y3 k4 (sA S 39 (a0 + 12) y2.toNatClampNeg (vp_nar .boolean r_27)) r ho hk4 hF)
      · rw [if_pos c_23] at hF
        exact (wX11_isSaid_s86 X a0 x1 h0 y2 y3 y4 k4 S r ho hk4 hF)
  · rw [if_pos c_3] at hF
    refine g_aload_n X dX11_isSaid_35 0 rfl rfl ?_
    refine g_getR (f := 12) X dX11_isSaid_36 flX11_77 rfl rfl h0 ?_
    refine g_iload_n X dX11_isSaid_39 2 rfl rfl ?_
    refine g_iconst (v := 1) X dX11_isSaid_40 (by decide) ?_
    refine g_isub X dX11_isSaid_41 ?_
    refine g_aload_n X dX11_isSaid_42 0 rfl rfl ?_
    refine g_getR (f := 12) X dX11_isSaid_43 flX11_77 rfl rfl h0 ?_
    refine g_iload_n X dX11_isSaid_46 2 rfl rfl ?_
    refine g_iconst (v := 1) X dX11_isSaid_47 (by decide) ?_
    refine g_isub X dX11_isSaid_48 ?_
    obtain ⟨e_30, hF⟩ := oguard hF
    refine g_zald X dX11_isSaid_49 kd_39 (on_11_42 h0) e_30 ?_
    refine g_if_ne (tgt := 57) X dX11_isSaid_50 (by decide) (fun c_31 => ?_) (fun c_31 => ?_)
    · rw [if_neg c_31] at hF
      refine g_iconst (v := 0) X dX11_isSaid_57 (by decide) ?_
      obtain ⟨e_32, hF⟩ := oguard hF
      refine g_zast X dX11_isSaid_58 kd_39 (on_11_42 h0) e_32 ?_
      exact g_perm [0, 1, 2, 3] rfl (wX11_isSaid_s59 X a0 x1 h0 y2 y3 k4 (sA S 39 (a0 + 12) ((y2 - (1 : Int32)).toNatClampNeg) (vp_nar .boolean (0 : Int32))) r ho hk4 hF)
    · rw [if_pos c_31] at hF
      refine g_iconst (v := 1) X dX11_isSaid_53 (by decide) ?_
      refine g_goto (tgt := 58) X dX11_isSaid_54 (by decide) ?_
      obtain ⟨e_33, hF⟩ := oguard hF
      refine g_zast X dX11_isSaid_58 kd_39 (on_11_42 h0) e_33 ?_
      exact g_perm [0, 1, 2, 3] rfl (wX11_isSaid_s59 X a0 x1 h0 y2 y3 k4 (sA S 39 (a0 + 12) ((y2 - (1 : Int32)).toNatClampNeg) (vp_nar .boolean (1 : Int32))) r ho hk4 hF)
theorem wX11_isSaid_s4 {z : Mx} {ad : Nat → Nat} {o : Option Value × St} (X : CxOk z ad RX11 cX11_isSaid 5 (some .boolean) 8) (a0 : Nat) (x1 : Int32) (h0 : KT a0 = 11) (y2 : Int32) (y3 : Int32)  (k4 : Int32 → Int32 → St → Option (Int32 × St))   (S : St) (r : (Int32 × St)) (ho : o = (some (.int r.1), r.2)) (hk4 : ∀ (y2 : Int32) (y3 : Int32) (S : St), k4 y2 y3 S = some r → GW z ad o S 4 [(0, .ref (ad a0)), (1, .int x1), (2, .int y2), (3, .int y3)] []) (hF : fX11_isSaid_s4 k4 a0 x1 y2 y3  S = some r) : GW z ad o S 4 [(0, .ref (ad a0)), (1, .int x1), (2, .int y2), (3, .int y3)] [] := by
  unfold fX11_isSaid_s4 at hF
  refine g_iload_n X dX11_isSaid_4 3 rfl rfl ?_
  refine g_aload_n X dX11_isSaid_5 0 rfl rfl ?_
  refine g_getR (f := 2) X dX11_isSaid_6 flX11_33 rfl rfl h0 ?_
  refine g_bipush (v := 69) X dX11_isSaid_9 (by decide) ?_
  refine g_ialdK (j := 69) X dX11_isSaid_11 kd_29 (on_11_6 h0) (by decide) (by decide) ?_
  refine g_icmp_ge (tgt := 210) X dX11_isSaid_12 (by decide) (fun c_1 => ?_) (fun c_1 => ?_)
  · rw [if_pos c_1] at hF
    refine g_aload_n X dX11_isSaid_210 0 rfl rfl ?_
    refine g_getR (f := 12) X dX11_isSaid_211 flX11_77 rfl rfl h0 ?_
    refine g_iconst (v := 0) X dX11_isSaid_214 (by decide) ?_
    refine g_zaldK (j := 0) X dX11_isSaid_215 kd_39 (on_11_42 h0) (by decide) (by decide) ?_
    have hF := Option.some.inj hF
    subst hF
    exact g_zretN X dX11_isSaid_216 ho
  · rw [if_neg c_1] at hF
    refine g_bipush (v := 70) X dX11_isSaid_15 (by decide) ?_
    refine g_iconst (v := 3) X dX11_isSaid_17 (by decide) ?_
    refine g_iload_n X dX11_isSaid_18 3 rfl rfl ?_
    refine g_imul X dX11_isSaid_19 ?_
    refine g_iadd X dX11_isSaid_20 ?_
    refine g_istore X dX11_isSaid_21 (by decide) (lv' := [(4, .int ((70 : Int32) + ((3 : Int32) * y3))), (0, .ref (ad a0)), (1, .int x1), (2, .int y2), (3, .int y3)]) rfl ?_
    exact g_perm [1, 2, 3, 4, 0] rfl (wX11_isSaid_s23 X a0 x1 h0 y2 y3 ((70 : Int32) + ((3 : Int32) * y3)) k4 S r ho hk4 hF)
theorem wX11_isSaid_h4 {z : Mx} {ad : Nat → Nat} {o : Option Value × St} (X : CxOk z ad RX11 cX11_isSaid 5 (some .boolean) 8) (a0 : Nat) (x1 : Int32) (h0 : KT a0 = 11)  (r : (Int32 × St)) (ho : o = (some (.int r.1), r.2)) : ∀ (n : Nat) (y2 : Int32) (y3 : Int32) (S : St), fX11_isSaid_h4 a0 x1 n y2 y3 S = some r → GW z ad o S 4 [(0, .ref (ad a0)), (1, .int x1), (2, .int y2), (3, .int y3)] [] := by
  intro n
  induction n with
  | zero => intro y2 y3 S  hF; cases hF
  | succ n ih => intro y2 y3 S  hF; exact wX11_isSaid_s4 X a0 x1 h0 y2 y3 (fX11_isSaid_h4 a0 x1 n)  S r ho ih hF
theorem wX11_isSaid {z : Mx} {ad : Nat → Nat} {o : Option Value × St} (X : CxOk z ad RX11 cX11_isSaid 5 (some .boolean) 8) (a0 : Nat) (x1 : Int32) (h0 : KT a0 = 11) (S : St) (r : (Int32 × St)) (ho : o = (some (.int r.1), r.2)) (hF : fX11_isSaid a0 x1 S = some r) : GW z ad o S 0 [(0, .ref (ad a0)), (1, .int x1)] [] := by
  unfold fX11_isSaid at hF
  refine g_iconst (v := 0) X dX11_isSaid_0 (by decide) ?_
  refine g_istore_n X dX11_isSaid_1 rfl (by decide) (lv' := [(2, .int (0 : Int32)), (0, .ref (ad a0)), (1, .int x1)]) rfl ?_
  refine g_iconst (v := 0) X dX11_isSaid_2 (by decide) ?_
  refine g_istore_n X dX11_isSaid_3 rfl (by decide) (lv' := [(3, .int (0 : Int32)), (2, .int (0 : Int32)), (0, .ref (ad a0)), (1, .int x1)]) rfl ?_
  exact g_perm [2, 3, 1, 0] rfl (wX11_isSaid_h4 X a0 x1 h0 r ho NN (0 : Int32) (0 : Int32) S hF)
theorem tX11_isSaid {ad : Nat → Nat} (hI : Inj ad) (l : Launch) (D : va_G) (cyy : Nat → ClassId) (a0 : Nat) (x1 : Int32) (h0 : KT a0 = 11) (S : St) (r : (Int32 × St)) (hF : fX11_isSaid a0 x1 S = some r) : OkM l yX11_isSaid cX11_isSaid 5 (some .boolean) 8 ad D cyy [.ref (ad a0), .int x1] S (some (.int r.1), r.2) := okM_of hI (by decide) (inr_64 _ (List.mem_of_getElem? (i := 4) rfl)) (by show _ ≤ 5; exact Nat.le_of_ble_eq_true rfl) (fun z X => wX11_isSaid X a0 x1 h0 S r rfl hF)
def fX11_said_s57 (k26 : Int32 → Int32 → St → Option (Int32 × St)) (a0 : Nat) (x1 : Int32) (y2 : Int32) (y3 : Int32)  (S : St) : Option (Int32 × St) :=
  k26 y2 (y3 + (1 : Int32)) S
def fX11_said_s41 (k26 : Int32 → Int32 → St → Option (Int32 × St)) (a0 : Nat) (x1 : Int32) (y2 : Int32) (y3 : Int32) (t0 : Int32) (S : St) : Option (Int32 × St) :=
  if t0 = 0 then (fX11_said_s57 k26 a0 x1 y2 y3 S) else
  (if y2 = x1 then (some (y3, S)) else
  (fX11_said_s57 k26 a0 x1 (y2 + (1 : Int32)) y3 S))
def fX11_said_s26 (k26 : Int32 → Int32 → St → Option (Int32 × St)) (a0 : Nat) (x1 : Int32) (y2 : Int32) (y3 : Int32)  (S : St) : Option (Int32 × St) :=
  if (gA S 29 (a0 + 2) 0) ≤ y3 then (if x1 = (-1 : Int32) then (some (y2, S)) else
  (some ((-1 : Int32), S))) else
  ((fX11_isSaid a0 y3 S).bind fun r_5 =>
  fX11_said_s41 k26 a0 x1 y2 y3 r_5.1 r_5.2)
def fX11_said_h26 (a0 : Nat) (x1 : Int32) : Nat → Int32 → Int32 → St → Option (Int32 × St)
  | 0, _, _, _ => none
  | n + 1, y2, y3, S => fX11_said_s26 (fX11_said_h26 a0 x1 n) a0 x1 y2 y3 S
def fX11_said_s5 (a0 : Nat) (x1 : Int32)   (S : St) : Option (Int32 × St) :=
  if (gA S 29 (a0 + 2) 69) = 0 then (some ((-1 : Int32), S)) else
  (if (-1 : Int32) ≤ x1 then (fX11_said_h26 a0 x1 NN (0 : Int32) (0 : Int32) S) else
  (some ((-1 : Int32), S)))
def fX11_said (a0 : Nat) (x1 : Int32) (S : St) : Option (Int32 × St) :=
  fX11_said_s5 a0 x1 (sI S 11 0 a0 (0 : Int32))
theorem wX11_said_s57 {z : Mx} {ad : Nat → Nat} {o : Option Value × St} (X : CxOk z ad RX11 cX11_said 4 (some .int) 9) (a0 : Nat) (x1 : Int32) (h0 : KT a0 = 11) (y2 : Int32) (y3 : Int32)  (k26 : Int32 → Int32 → St → Option (Int32 × St))   (S : St) (r : (Int32 × St)) (ho : o = (some (.int r.1), r.2)) (hk26 : ∀ (y2 : Int32) (y3 : Int32) (S : St), k26 y2 y3 S = some r → GW z ad o S 26 [(0, .ref (ad a0)), (1, .int x1), (2, .int y2), (3, .int y3)] []) (hF : fX11_said_s57 k26 a0 x1 y2 y3  S = some r) : GW z ad o S 57 [(0, .ref (ad a0)), (1, .int x1), (2, .int y2), (3, .int y3)] [] := by
  unfold fX11_said_s57 at hF
  refine g_iinc (v := (y3 + (1 : Int32))) X dX11_said_57 3 rfl rfl (by decide) (lv' := [(3, .int (y3 + (1 : Int32))), (0, .ref (ad a0)), (1, .int x1), (2, .int y2)]) rfl ?_
  refine g_goto (tgt := 26) X dX11_said_60 (by decide) ?_
  exact g_perm [1, 2, 3, 0] rfl (hk26 y2 (y3 + (1 : Int32)) S hF)
theorem wX11_said_s41 {z : Mx} {ad : Nat → Nat} {o : Option Value × St} (X : CxOk z ad RX11 cX11_said 4 (some .int) 9) (a0 : Nat) (x1 : Int32) (h0 : KT a0 = 11) (y2 : Int32) (y3 : Int32) (t0 : Int32) (k26 : Int32 → Int32 → St → Option (Int32 × St))   (S : St) (r : (Int32 × St)) (ho : o = (some (.int r.1), r.2)) (hk26 : ∀ (y2 : Int32) (y3 : Int32) (S : St), k26 y2 y3 S = some r → GW z ad o S 26 [(0, .ref (ad a0)), (1, .int x1), (2, .int y2), (3, .int y3)] []) (hF : fX11_said_s41 k26 a0 x1 y2 y3 t0 S = some r) : GW z ad o S 41 [(0, .ref (ad a0)), (1, .int x1), (2, .int y2), (3, .int y3)] [.int t0] := by
  unfold fX11_said_s41 at hF
  refine g_if_ne (tgt := 47) X dX11_said_41 (by decide) (fun c_7 => ?_) (fun c_7 => ?_)
  · rw [if_neg c_7] at hF
    refine g_iload_n X dX11_said_47 2 rfl rfl ?_
    refine g_iload_n X dX11_said_48 1 rfl rfl ?_
    refine g_icmp_ne (tgt := 54) X dX11_said_49 (by decide) (fun c_8 => ?_) (fun c_8 => ?_)
    · rw [if_neg c_8] at hF
      refine g_iinc (v := (y2 + (1 : Int32))) X dX11_said_54 2 rfl rfl (by decide) (lv' := [(2, .int (y2 + (1 : Int32))), (0, .ref (ad a0)), (1, .int x1), (3, .int y3)]) rfl ?_
      exact g_perm [1, 2, 0, 3] rfl (wX11_said_s57 X a0 x1 h0 (y2 + (1 : Int32)) y3 k26 S r ho hk26 hF)
    · rw [if_pos c_8] at hF
      refine g_iload_n X dX11_said_52 3 rfl rfl ?_
      have hF := Option.some.inj hF
      subst hF
      exact g_iret X dX11_said_53 ho
  · rw [if_pos c_7] at hF
    refine g_goto (tgt := 57) X dX11_said_44 (by decide) ?_
    exact (wX11_said_s57 X a0 x1 h0 y2 y3 k26 S r ho hk26 hF)
theorem wX11_said_s26 {z : Mx} {ad : Nat → Nat} {o : Option Value × St} (X : CxOk z ad RX11 cX11_said 4 (some .int) 9) (a0 : Nat) (x1 : Int32) (h0 : KT a0 = 11) (y2 : Int32) (y3 : Int32)  (k26 : Int32 → Int32 → St → Option (Int32 × St))   (S : St) (r : (Int32 × St)) (ho : o = (some (.int r.1), r.2)) (hk26 : ∀ (y2 : Int32) (y3 : Int32) (S : St), k26 y2 y3 S = some r → GW z ad o S 26 [(0, .ref (ad a0)), (1, .int x1), (2, .int y2), (3, .int y3)] []) (hF : fX11_said_s26 k26 a0 x1 y2 y3  S = some r) : GW z ad o S 26 [(0, .ref (ad a0)), (1, .int x1), (2, .int y2), (3, .int y3)] [] := by
  unfold fX11_said_s26 at hF
  refine g_iload_n X dX11_said_26 3 rfl rfl ?_
  refine g_aload_n X dX11_said_27 0 rfl rfl ?_
  refine g_getR (f := 2) X dX11_said_28 flX11_33 rfl rfl h0 ?_
  refine g_iconst (v := 0) X dX11_said_31 (by decide) ?_
  refine g_ialdK (j := 0) X dX11_said_32 kd_29 (on_11_6 h0) (by decide) (by decide) ?_
  refine g_icmp_ge (tgt := 63) X dX11_said_33 (by decide) (fun c_3 => ?_) (fun c_3 => ?_)
  · rw [if_pos c_3] at hF
    refine g_iload_n X dX11_said_63 1 rfl rfl ?_
    refine g_iconst (v := -1) X dX11_said_64 (by decide) ?_
    refine g_icmp_ne (tgt := 72) X dX11_said_65 (by decide) (fun c_4 => ?_) (fun c_4 => ?_)
    · rw [if_neg c_4] at hF
      refine g_iconst (v := -1) X dX11_said_72 (by decide) ?_
      have hF := Option.some.inj hF
      subst hF
      exact g_iret X dX11_said_73 ho
    · rw [if_pos c_4] at hF
      refine g_iload_n X dX11_said_68 2 rfl rfl ?_
      refine g_goto (tgt := 73) X dX11_said_69 (by decide) ?_
      have hF := Option.some.inj hF
      subst hF
      exact g_iret X dX11_said_73 ho
  · rw [if_neg c_3] at hF
    refine g_aload_n X dX11_said_36 0 rfl rfl ?_
    refine g_iload_n X dX11_said_37 3 rfl rfl ?_
    obtain ⟨r_5, q_6, hF⟩ := obind hF
    refine g_callVi (As := [.int y3]) X dX11_said_38 mlX11_436 (fun l D cyy => tX11_isSaid (cx_inj X) l D cyy a0 y3 h0 S r_5 q_6) h0 (by decide) rfl rfl (Nat.le_of_ble_eq_true rfl) ?_
    exact (wX11_said_s41 X a0 x1 h0 y2 y3 r_5.1 k26 r_5.2 r ho hk26 hF)
theorem wX11_said_h26 {z : Mx} {ad : Nat → Nat} {o : Option Value × St} (X : CxOk z ad RX11 cX11_said 4 (some .int) 9) (a0 : Nat) (x1 : Int32) (h0 : KT a0 = 11)  (r : (Int32 × St)) (ho : o = (some (.int r.1), r.2)) : ∀ (n : Nat) (y2 : Int32) (y3 : Int32) (S : St), fX11_said_h26 a0 x1 n y2 y3 S = some r → GW z ad o S 26 [(0, .ref (ad a0)), (1, .int x1), (2, .int y2), (3, .int y3)] [] := by
  intro n
  induction n with
  | zero => intro y2 y3 S  hF; cases hF
  | succ n ih => intro y2 y3 S  hF; exact wX11_said_s26 X a0 x1 h0 y2 y3 (fX11_said_h26 a0 x1 n)  S r ho ih hF
theorem wX11_said_s5 {z : Mx} {ad : Nat → Nat} {o : Option Value × St} (X : CxOk z ad RX11 cX11_said 4 (some .int) 9) (a0 : Nat) (x1 : Int32) (h0 : KT a0 = 11)     (S : St) (r : (Int32 × St)) (ho : o = (some (.int r.1), r.2)) (hF : fX11_said_s5 a0 x1   S = some r) : GW z ad o S 5 [(0, .ref (ad a0)), (1, .int x1)] [] := by
  unfold fX11_said_s5 at hF
  refine g_aload_n X dX11_said_5 0 rfl rfl ?_
  refine g_getR (f := 2) X dX11_said_6 flX11_33 rfl rfl h0 ?_
  refine g_bipush (v := 69) X dX11_said_9 (by decide) ?_
  refine g_ialdK (j := 69) X dX11_said_11 kd_29 (on_11_6 h0) (by decide) (by decide) ?_
  refine g_if_eq (tgt := 20) X dX11_said_12 (by decide) (fun c_1 => ?_) (fun c_1 => ?_)
  · rw [if_pos c_1] at hF
    refine g_iconst (v := -1) X dX11_said_20 (by decide) ?_
    have hF := Option.some.inj hF
    subst hF
    exact g_iret X dX11_said_21 ho
  · rw [if_neg c_1] at hF
    refine g_iload_n X dX11_said_15 1 rfl rfl ?_
    refine g_iconst (v := -1) X dX11_said_16 (by decide) ?_
    refine g_icmp_ge (tgt := 22) X dX11_said_17 (by decide) (fun c_2 => ?_) (fun c_2 => ?_)
    · rw [if_pos c_2] at hF
      refine g_iconst (v := 0) X dX11_said_22 (by decide) ?_
      refine g_istore_n X dX11_said_23 rfl (by decide) (lv' := [(2, .int (0 : Int32)), (0, .ref (ad a0)), (1, .int x1)]) rfl ?_
      refine g_iconst (v := 0) X dX11_said_24 (by decide) ?_
      refine g_istore_n X dX11_said_25 rfl (by decide) (lv' := [(3, .int (0 : Int32)), (2, .int (0 : Int32)), (0, .ref (ad a0)), (1, .int x1)]) rfl ?_
      exact g_perm [2, 3, 1, 0] rfl (wX11_said_h26 X a0 x1 h0 r ho NN (0 : Int32) (0 : Int32) S hF)
    · rw [if_neg c_2] at hF
      refine g_iconst (v := -1) X dX11_said_20 (by decide) ?_
      have hF := Option.some.inj hF
      subst hF
      exact g_iret X dX11_said_21 ho
theorem wX11_said {z : Mx} {ad : Nat → Nat} {o : Option Value × St} (X : CxOk z ad RX11 cX11_said 4 (some .int) 9) (a0 : Nat) (x1 : Int32) (h0 : KT a0 = 11) (S : St) (r : (Int32 × St)) (ho : o = (some (.int r.1), r.2)) (hF : fX11_said a0 x1 S = some r) : GW z ad o S 0 [(0, .ref (ad a0)), (1, .int x1)] [] := by
  unfold fX11_said at hF
  refine g_aload_n X dX11_said_0 0 rfl rfl ?_
  refine g_iconst (v := 0) X dX11_said_1 (by decide) ?_
  refine g_putI X dX11_said_2 fpX11_1 rfl rfl rfl h0 ?_
  exact (wX11_said_s5 X a0 x1 h0 (sI S 11 0 a0 (0 : Int32)) r ho hF)
theorem tX11_said {ad : Nat → Nat} (hI : Inj ad) (l : Launch) (D : va_G) (cyy : Nat → ClassId) (a0 : Nat) (x1 : Int32) (h0 : KT a0 = 11) (S : St) (r : (Int32 × St)) (hF : fX11_said a0 x1 S = some r) : OkM l yX11_said cX11_said 4 (some .int) 9 ad D cyy [.ref (ad a0), .int x1] S (some (.int r.1), r.2) := okM_of hI (by decide) (inr_64 _ (List.mem_of_getElem? (i := 0) rfl)) (by show _ ≤ 4; exact Nat.le_of_ble_eq_true rfl) (fun z X => wX11_said X a0 x1 h0 S r rfl hF)
def fX11_image_s87 (a0 : Nat) (x1 : Int32)   (S : St) : Option (Int32 × St) :=
  some ((1 : Int32), S)
def fX11_image_s74 (k51 : Int32 → St → Option (Int32 × St)) (a0 : Nat) (x1 : Int32) (y2 : Int32)  (S : St) : Option (Int32 × St) :=
  k51 (y2 + (1 : Int32)) S
def fX11_image_s51 (k51 : Int32 → St → Option (Int32 × St)) (a0 : Nat) (x1 : Int32) (y2 : Int32)  (S : St) : Option (Int32 × St) :=
  if (11 : Int32) ≤ y2 then (if (x1 < 0 ∨ 2 ≤ x1.toNatClampNeg) then none else
  fX11_image_s87 a0 x1 (sA S 42 (a0 + 15) x1.toNatClampNeg (vp_nar .boolean (1 : Int32)))) else
  (if (y2 < 0 ∨ 22 ≤ y2.toNatClampNeg) then none else
  if ((((11 : Int32) * x1) + y2) < 0 ∨ 22 ≤ (((11 : Int32) * x1) + y2).toNatClampNeg) then none else
  fX11_image_s74 k51 a0 x1 y2 (sB S 41 (a0 + 14) ((((11 : Int32) * x1) + y2).toNatClampNeg) (gB S 32 (a0 + 5) y2.toNatClampNeg)))
def fX11_image_h51 (a0 : Nat) (x1 : Int32) : Nat → Int32 → St → Option (Int32 × St)
  | 0, _, _ => none
  | n + 1, y2, S => fX11_image_s51 (fX11_image_h51 a0 x1 n) a0 x1 y2 S
def fX11_image_s43 (k18 : Int32 → St → Option (Int32 × St)) (a0 : Nat) (x1 : Int32) (y2 : Int32)  (S : St) : Option (Int32 × St) :=
  k18 (y2 + (1 : Int32)) S
def fX11_image_s18 (k18 : Int32 → St → Option (Int32 × St)) (a0 : Nat) (x1 : Int32) (y2 : Int32)  (S : St) : Option (Int32 × St) :=
  if (250 : Int32) ≤ y2 then (fX11_image_h51 a0 x1 NN (0 : Int32) S) else
  (if (y2 < 0 ∨ 250 ≤ y2.toNatClampNeg) then none else
  if ((((250 : Int32) * x1) + y2) < 0 ∨ 500 ≤ (((250 : Int32) * x1) + y2).toNatClampNeg) then none else
  fX11_image_s43 k18 a0 x1 y2 (sA S 40 (a0 + 13) ((((250 : Int32) * x1) + y2).toNatClampNeg) (gA S 29 (a0 + 2) y2.toNatClampNeg)))
def fX11_image_h18 (a0 : Nat) (x1 : Int32) : Nat → Int32 → St → Option (Int32 × St)
  | 0, _, _ => none
  | n + 1, y2, S => fX11_image_s18 (fX11_image_h18 a0 x1 n) a0 x1 y2 S
def fX11_image_s5 (a0 : Nat) (x1 : Int32)   (S : St) : Option (Int32 × St) :=
  if (fX11_isIn x1 (0 : Int32) (1 : Int32) S) = 0 then (some ((0 : Int32), S)) else
  (fX11_image_h18 a0 x1 NN (0 : Int32) S)
def fX11_image (a0 : Nat) (x1 : Int32) (S : St) : Option (Int32 × St) :=
  fX11_image_s5 a0 x1 (sI S 11 0 a0 (0 : Int32))
theorem wX11_image_s87 {z : Mx} {ad : Nat → Nat} {o : Option Value × St} (X : CxOk z ad RX11 cX11_image 3 (some .boolean) 2) (a0 : Nat) (x1 : Int32) (h0 : KT a0 = 11)     (S : St) (r : (Int32 × St)) (ho : o = (some (.int r.1), r.2)) (hF : fX11_image_s87 a0 x1   S = some r) : GW z ad o S 87 [] [] := by
  unfold fX11_image_s87 at hF
  refine g_iconst (v := 1) X dX11_image_87 (by decide) ?_
  have hF := Option.some.inj hF
  subst hF
  exact g_zret X dX11_image_88 (by decide) ho
theorem wX11_image_s74 {z : Mx} {ad : Nat → Nat} {o : Option Value × St} (X : CxOk z ad RX11 cX11_image 3 (some .boolean) 2) (a0 : Nat) (x1 : Int32) (h0 : KT a0 = 11) (y2 : Int32)  (k51 : Int32 → St → Option (Int32 × St))   (S : St) (r : (Int32 × St)) (ho : o = (some (.int r.1), r.2)) (hk51 : ∀ (y2 : Int32) (S : St), k51 y2 S = some r → GW z ad o S 51 [(0, .ref (ad a0)), (1, .int x1), (2, .int y2)] []) (hF : fX11_image_s74 k51 a0 x1 y2  S = some r) : GW z ad o S 74 [(0, .ref (ad a0)), (1, .int x1), (2, .int y2)] [] := by
  unfold fX11_image_s74 at hF
  refine g_iinc (v := (y2 + (1 : Int32))) X dX11_image_74 2 rfl rfl (by decide) (lv' := [(2, .int (y2 + (1 : Int32))), (0, .ref (ad a0)), (1, .int x1)]) rfl ?_
  refine g_goto (tgt := 51) X dX11_image_77 (by decide) ?_
  exact g_perm [1, 2, 0] rfl (hk51 (y2 + (1 : Int32)) S hF)
theorem wX11_image_s51 {z : Mx} {ad : Nat → Nat} {o : Option Value × St} (X : CxOk z ad RX11 cX11_image 3 (some .boolean) 2) (a0 : Nat) (x1 : Int32) (h0 : KT a0 = 11) (y2 : Int32)  (k51 : Int32 → St → Option (Int32 × St))   (S : St) (r : (Int32 × St)) (ho : o = (some (.int r.1), r.2)) (hk51 : ∀ (y2 : Int32) (S : St), k51 y2 S = some r → GW z ad o S 51 [(0, .ref (ad a0)), (1, .int x1), (2, .int y2)] []) (hF : fX11_image_s51 k51 a0 x1 y2  S = some r) : GW z ad o S 51 [(0, .ref (ad a0)), (1, .int x1), (2, .int y2)] [] := by
  unfold fX11_image_s51 at hF
  refine g_iload_n X dX11_image_51 2 rfl rfl ?_
  refine g_bipush (v := 11) X dX11_image_52 (by decide) ?_
  refine g_icmp_ge (tgt := 80) X dX11_image_54 (by decide) (fun c_3 => ?_) (fun c_3 => ?_)
  · rw [if_pos c_3] at hF
    refine g_aload_n X dX11_image_80 0 rfl rfl ?_
    refine g_getR (f := 15) X dX11_image_81 flX11_87 rfl rfl h0 ?_
    refine g_iload_n X dX11_image_84 1 rfl rfl ?_
    refine g_iconst (v := 1) X dX11_image_85 (by decide) ?_
    obtain ⟨e_4, hF⟩ := oguard hF
    refine g_zast X dX11_image_86 kd_42 (on_11_45 h0) e_4 ?_
    exact g_perm [] rfl (wX11_image_s87 X a0 x1 h0 (sA S 42 (a0 + 15) x1.toNatClampNeg (vp_nar .boolean (1 : Int32))) r ho hF)
  · rw [if_neg c_3] at hF
    refine g_aload_n X dX11_image_57 0 rfl rfl ?_
    refine g_getR (f := 14) X dX11_image_58 flX11_84 rfl rfl h0 ?_
    refine g_bipush (v := 11) X dX11_image_61 (by decide) ?_
    refine g_iload_n X dX11_image_63 1 rfl rfl ?_
    refine g_imul X dX11_image_64 ?_
    refine g_iload_n X dX11_image_65 2 rfl rfl ?_
    refine g_iadd X dX11_image_66 ?_
    refine g_aload_n X dX11_image_67 0 rfl rfl ?_
    refine g_getR (f := 5) X dX11_image_68 flX11_43 rfl rfl h0 ?_
    refine g_iload_n X dX11_image_71 2 rfl rfl ?_
    obtain ⟨e_5, hF⟩ := oguard hF
    refine g_lald X dX11_image_72 kd_32 (on_11_9 h0) e_5 ?_
    obtain ⟨e_6, hF⟩ := oguard hF
    refine g_last X dX11_image_73 kd_41 (on_11_44 h0) e_6 ?_
    exact (wX11_image_s74 X a0 x1 h0 y2 k51 (sB S 41 (a0 + 14) ((((11 : Int32) * x1) + y2).toNatClampNeg) (gB S 32 (a0 + 5) y2.toNatClampNeg)) r ho hk51 hF)
theorem wX11_image_h51 {z : Mx} {ad : Nat → Nat} {o : Option Value × St} (X : CxOk z ad RX11 cX11_image 3 (some .boolean) 2) (a0 : Nat) (x1 : Int32) (h0 : KT a0 = 11)  (r : (Int32 × St)) (ho : o = (some (.int r.1), r.2)) : ∀ (n : Nat) (y2 : Int32) (S : St), fX11_image_h51 a0 x1 n y2 S = some r → GW z ad o S 51 [(0, .ref (ad a0)), (1, .int x1), (2, .int y2)] [] := by
  intro n
  induction n with
  | zero => intro y2 S  hF; cases hF
  | succ n ih => intro y2 S  hF; exact wX11_image_s51 X a0 x1 h0 y2 (fX11_image_h51 a0 x1 n)  S r ho ih hF
theorem wX11_image_s43 {z : Mx} {ad : Nat → Nat} {o : Option Value × St} (X : CxOk z ad RX11 cX11_image 3 (some .boolean) 2) (a0 : Nat) (x1 : Int32) (h0 : KT a0 = 11) (y2 : Int32)  (k18 : Int32 → St → Option (Int32 × St))   (S : St) (r : (Int32 × St)) (ho : o = (some (.int r.1), r.2)) (hk18 : ∀ (y2 : Int32) (S : St), k18 y2 S = some r → GW z ad o S 18 [(0, .ref (ad a0)), (1, .int x1), (2, .int y2)] []) (hF : fX11_image_s43 k18 a0 x1 y2  S = some r) : GW z ad o S 43 [(0, .ref (ad a0)), (1, .int x1), (2, .int y2)] [] := by
  unfold fX11_image_s43 at hF
  refine g_iinc (v := (y2 + (1 : Int32))) X dX11_image_43 2 rfl rfl (by decide) (lv' := [(2, .int (y2 + (1 : Int32))), (0, .ref (ad a0)), (1, .int x1)]) rfl ?_
  refine g_goto (tgt := 18) X dX11_image_46 (by decide) ?_
  exact g_perm [1, 2, 0] rfl (hk18 (y2 + (1 : Int32)) S hF)
theorem wX11_image_s18 {z : Mx} {ad : Nat → Nat} {o : Option Value × St} (X : CxOk z ad RX11 cX11_image 3 (some .boolean) 2) (a0 : Nat) (x1 : Int32) (h0 : KT a0 = 11) (y2 : Int32)  (k18 : Int32 → St → Option (Int32 × St))   (S : St) (r : (Int32 × St)) (ho : o = (some (.int r.1), r.2)) (hk18 : ∀ (y2 : Int32) (S : St), k18 y2 S = some r → GW z ad o S 18 [(0, .ref (ad a0)), (1, .int x1), (2, .int y2)] []) (hF : fX11_image_s18 k18 a0 x1 y2  S = some r) : GW z ad o S 18 [(0, .ref (ad a0)), (1, .int x1), (2, .int y2)] [] := by
  unfold fX11_image_s18 at hF
  refine g_iload_n X dX11_image_18 2 rfl rfl ?_
  refine g_sipush (v := 250) X dX11_image_19 (by decide) ?_
  refine g_icmp_ge (tgt := 49) X dX11_image_22 (by decide) (fun c_2 => ?_) (fun c_2 => ?_)
  · rw [if_pos c_2] at hF
    refine g_iconst (v := 0) X dX11_image_49 (by decide) ?_
    refine g_istore_n X dX11_image_50 rfl (by decide) (lv' := [(2, .int (0 : Int32)), (0, .ref (ad a0)), (1, .int x1)]) rfl ?_
    exact g_perm [1, 2, 0] rfl (wX11_image_h51 X a0 x1 h0 r ho NN (0 : Int32) S hF)
  · rw [if_neg c_2] at hF
    refine g_aload_n X dX11_image_25 0 rfl rfl ?_
    refine g_getR (f := 13) X dX11_image_26 flX11_81 rfl rfl h0 ?_
    refine g_sipush (v := 250) X dX11_image_29 (by decide) ?_
    refine g_iload_n X dX11_image_32 1 rfl rfl ?_
    refine g_imul X dX11_image_33 ?_
    refine g_iload_n X dX11_image_34 2 rfl rfl ?_
    refine g_iadd X dX11_image_35 ?_
    refine g_aload_n X dX11_image_36 0 rfl rfl ?_
    refine g_getR (f := 2) X dX11_image_37 flX11_33 rfl rfl h0 ?_
    refine g_iload_n X dX11_image_40 2 rfl rfl ?_
    obtain ⟨e_7, hF⟩ := oguard hF
    refine g_iald X dX11_image_41 kd_29 (on_11_6 h0) e_7 ?_
    obtain ⟨e_8, hF⟩ := oguard hF
    refine g_iast X dX11_image_42 kd_40 (on_11_43 h0) e_8 ?_
    exact (wX11_image_s43 X a0 x1 h0 y2 k18 (sA S 40 (a0 + 13) ((((250 : Int32) * x1) + y2).toNatClampNeg) (gA S 29 (a0 + 2) y2.toNatClampNeg)) r ho hk18 hF)
theorem wX11_image_h18 {z : Mx} {ad : Nat → Nat} {o : Option Value × St} (X : CxOk z ad RX11 cX11_image 3 (some .boolean) 2) (a0 : Nat) (x1 : Int32) (h0 : KT a0 = 11)  (r : (Int32 × St)) (ho : o = (some (.int r.1), r.2)) : ∀ (n : Nat) (y2 : Int32) (S : St), fX11_image_h18 a0 x1 n y2 S = some r → GW z ad o S 18 [(0, .ref (ad a0)), (1, .int x1), (2, .int y2)] [] := by
  intro n
  induction n with
  | zero => intro y2 S  hF; cases hF
  | succ n ih => intro y2 S  hF; exact wX11_image_s18 X a0 x1 h0 y2 (fX11_image_h18 a0 x1 n)  S r ho ih hF
theorem wX11_image_s5 {z : Mx} {ad : Nat → Nat} {o : Option Value × St} (X : CxOk z ad RX11 cX11_image 3 (some .boolean) 2) (a0 : Nat) (x1 : Int32) (h0 : KT a0 = 11)     (S : St) (r : (Int32 × St)) (ho : o = (some (.int r.1), r.2)) (hF : fX11_image_s5 a0 x1   S = some r) : GW z ad o S 5 [(0, .ref (ad a0)), (1, .int x1)] [] := by
  unfold fX11_image_s5 at hF
  refine g_iload_n X dX11_image_5 1 rfl rfl ?_
  refine g_iconst (v := 0) X dX11_image_6 (by decide) ?_
  refine g_iconst (v := 1) X dX11_image_7 (by decide) ?_
  refine g_callSi (As := [.int x1, .int (0 : Int32), .int (1 : Int32)]) X dX11_image_8 mlX11_173 (fun l D cyy => tX11_isIn (cx_inj X) l D cyy x1 (0 : Int32) (1 : Int32)  S) (by decide) rfl rfl (Nat.le_of_ble_eq_true rfl) ?_
  refine g_if_ne (tgt := 16) X dX11_image_11 (by decide) (fun c_1 => ?_) (fun c_1 => ?_)
  · rw [if_neg c_1] at hF
    refine g_iconst (v := 0) X dX11_image_16 (by decide) ?_
    refine g_istore_n X dX11_image_17 rfl (by decide) (lv' := [(2, .int (0 : Int32)), (0, .ref (ad a0)), (1, .int x1)]) rfl ?_
    exact g_perm [1, 2, 0] rfl (wX11_image_h18 X a0 x1 h0 r ho NN (0 : Int32) S hF)
  · rw [if_pos c_1] at hF
    refine g_iconst (v := 0) X dX11_image_14 (by decide) ?_
    have hF := Option.some.inj hF
    subst hF
    exact g_zret X dX11_image_15 (by decide) ho
theorem wX11_image {z : Mx} {ad : Nat → Nat} {o : Option Value × St} (X : CxOk z ad RX11 cX11_image 3 (some .boolean) 2) (a0 : Nat) (x1 : Int32) (h0 : KT a0 = 11) (S : St) (r : (Int32 × St)) (ho : o = (some (.int r.1), r.2)) (hF : fX11_image a0 x1 S = some r) : GW z ad o S 0 [(0, .ref (ad a0)), (1, .int x1)] [] := by
  unfold fX11_image at hF
  refine g_aload_n X dX11_image_0 0 rfl rfl ?_
  refine g_iconst (v := 0) X dX11_image_1 (by decide) ?_
  refine g_putI X dX11_image_2 fpX11_1 rfl rfl rfl h0 ?_
  exact (wX11_image_s5 X a0 x1 h0 (sI S 11 0 a0 (0 : Int32)) r ho hF)
theorem tX11_image {ad : Nat → Nat} (hI : Inj ad) (l : Launch) (D : va_G) (cyy : Nat → ClassId) (a0 : Nat) (x1 : Int32) (h0 : KT a0 = 11) (S : St) (r : (Int32 × St)) (hF : fX11_image a0 x1 S = some r) : OkM l yX11_image cX11_image 3 (some .boolean) 2 ad D cyy [.ref (ad a0), .int x1] S (some (.int r.1), r.2) := okM_of hI (by decide) (inr_64 _ (List.mem_of_getElem? (i := 22) rfl)) (by show _ ≤ 3; exact Nat.le_of_ble_eq_true rfl) (fun z X => wX11_image X a0 x1 h0 S r rfl hF)
def fX11_restore_s94 (a0 : Nat) (x1 : Int32)   (S : St) : Option (Int32 × St) :=
  some ((1 : Int32), S)
def fX11_restore_s83 (k60 : Int32 → St → Option (Int32 × St)) (a0 : Nat) (x1 : Int32) (y2 : Int32)  (S : St) : Option (Int32 × St) :=
  k60 (y2 + (1 : Int32)) S
def fX11_restore_s60 (k60 : Int32 → St → Option (Int32 × St)) (a0 : Nat) (x1 : Int32) (y2 : Int32)  (S : St) : Option (Int32 × St) :=
  if (11 : Int32) ≤ y2 then (fX11_restore_s94 a0 x1 (sI S 11 23 a0 (0 : Int32))) else
  (if ((((11 : Int32) * x1) + y2) < 0 ∨ 22 ≤ (((11 : Int32) * x1) + y2).toNatClampNeg) then none else
  if (y2 < 0 ∨ 22 ≤ y2.toNatClampNeg) then none else
  fX11_restore_s83 k60 a0 x1 y2 (sB S 32 (a0 + 5) y2.toNatClampNeg (gB S 41 (a0 + 14) ((((11 : Int32) * x1) + y2).toNatClampNeg))))
def fX11_restore_h60 (a0 : Nat) (x1 : Int32) : Nat → Int32 → St → Option (Int32 × St)
  | 0, _, _ => none
  | n + 1, y2, S => fX11_restore_s60 (fX11_restore_h60 a0 x1 n) a0 x1 y2 S
def fX11_restore_s52 (k27 : Int32 → St → Option (Int32 × St)) (a0 : Nat) (x1 : Int32) (y2 : Int32)  (S : St) : Option (Int32 × St) :=
  k27 (y2 + (1 : Int32)) S
def fX11_restore_s27 (k27 : Int32 → St → Option (Int32 × St)) (a0 : Nat) (x1 : Int32) (y2 : Int32)  (S : St) : Option (Int32 × St) :=
  if (250 : Int32) ≤ y2 then (fX11_restore_h60 a0 x1 NN (0 : Int32) S) else
  (if ((((250 : Int32) * x1) + y2) < 0 ∨ 500 ≤ (((250 : Int32) * x1) + y2).toNatClampNeg) then none else
  if (y2 < 0 ∨ 250 ≤ y2.toNatClampNeg) then none else
  fX11_restore_s52 k27 a0 x1 y2 (sA S 29 (a0 + 2) y2.toNatClampNeg (gA S 40 (a0 + 13) ((((250 : Int32) * x1) + y2).toNatClampNeg))))
def fX11_restore_h27 (a0 : Nat) (x1 : Int32) : Nat → Int32 → St → Option (Int32 × St)
  | 0, _, _ => none
  | n + 1, y2, S => fX11_restore_s27 (fX11_restore_h27 a0 x1 n) a0 x1 y2 S
def fX11_restore_s5 (a0 : Nat) (x1 : Int32)   (S : St) : Option (Int32 × St) :=
  if (fX11_isIn x1 (0 : Int32) (1 : Int32) S) = 0 then (some ((0 : Int32), S)) else
  (if (x1 < 0 ∨ 2 ≤ x1.toNatClampNeg) then none else
  if (gA S 42 (a0 + 15) x1.toNatClampNeg) = 0 then (some ((0 : Int32), S)) else
  (fX11_restore_h27 a0 x1 NN (0 : Int32) S))
def fX11_restore (a0 : Nat) (x1 : Int32) (S : St) : Option (Int32 × St) :=
  fX11_restore_s5 a0 x1 (sI S 11 0 a0 (0 : Int32))
theorem wX11_restore_s94 {z : Mx} {ad : Nat → Nat} {o : Option Value × St} (X : CxOk z ad RX11 cX11_restore 3 (some .boolean) 2) (a0 : Nat) (x1 : Int32) (h0 : KT a0 = 11)     (S : St) (r : (Int32 × St)) (ho : o = (some (.int r.1), r.2)) (hF : fX11_restore_s94 a0 x1   S = some r) : GW z ad o S 94 [] [] := by
  unfold fX11_restore_s94 at hF
  refine g_iconst (v := 1) X dX11_restore_94 (by decide) ?_
  have hF := Option.some.inj hF
  subst hF
  exact g_zret X dX11_restore_95 (by decide) ho
theorem wX11_restore_s83 {z : Mx} {ad : Nat → Nat} {o : Option Value × St} (X : CxOk z ad RX11 cX11_restore 3 (some .boolean) 2) (a0 : Nat) (x1 : Int32) (h0 : KT a0 = 11) (y2 : Int32)  (k60 : Int32 → St → Option (Int32 × St))   (S : St) (r : (Int32 × St)) (ho : o = (some (.int r.1), r.2)) (hk60 : ∀ (y2 : Int32) (S : St), k60 y2 S = some r → GW z ad o S 60 [(0, .ref (ad a0)), (1, .int x1), (2, .int y2)] []) (hF : fX11_restore_s83 k60 a0 x1 y2  S = some r) : GW z ad o S 83 [(0, .ref (ad a0)), (1, .int x1), (2, .int y2)] [] := by
  unfold fX11_restore_s83 at hF
  refine g_iinc (v := (y2 + (1 : Int32))) X dX11_restore_83 2 rfl rfl (by decide) (lv' := [(2, .int (y2 + (1 : Int32))), (0, .ref (ad a0)), (1, .int x1)]) rfl ?_
  refine g_goto (tgt := 60) X dX11_restore_86 (by decide) ?_
  exact g_perm [1, 2, 0] rfl (hk60 (y2 + (1 : Int32)) S hF)
theorem wX11_restore_s60 {z : Mx} {ad : Nat → Nat} {o : Option Value × St} (X : CxOk z ad RX11 cX11_restore 3 (some .boolean) 2) (a0 : Nat) (x1 : Int32) (h0 : KT a0 = 11) (y2 : Int32)  (k60 : Int32 → St → Option (Int32 × St))   (S : St) (r : (Int32 × St)) (ho : o = (some (.int r.1), r.2)) (hk60 : ∀ (y2 : Int32) (S : St), k60 y2 S = some r → GW z ad o S 60 [(0, .ref (ad a0)), (1, .int x1), (2, .int y2)] []) (hF : fX11_restore_s60 k60 a0 x1 y2  S = some r) : GW z ad o S 60 [(0, .ref (ad a0)), (1, .int x1), (2, .int y2)] [] := by
  unfold fX11_restore_s60 at hF
  refine g_iload_n X dX11_restore_60 2 rfl rfl ?_
  refine g_bipush (v := 11) X dX11_restore_61 (by decide) ?_
  refine g_icmp_ge (tgt := 89) X dX11_restore_63 (by decide) (fun c_5 => ?_) (fun c_5 => ?_)
  · rw [if_pos c_5] at hF
    refine g_aload_n X dX11_restore_89 0 rfl rfl ?_
    refine g_iconst (v := 0) X dX11_restore_90 (by decide) ?_
    refine g_putI X dX11_restore_91 fpX11_233 rfl rfl rfl h0 ?_
    exact g_perm [] rfl (wX11_restore_s94 X a0 x1 h0 (sI S 11 23 a0 (0 : Int32)) r ho hF)
  · rw [if_neg c_5] at hF
    refine g_aload_n X dX11_restore_66 0 rfl rfl ?_
    refine g_getR (f := 5) X dX11_restore_67 flX11_43 rfl rfl h0 ?_
    refine g_iload_n X dX11_restore_70 2 rfl rfl ?_
    refine g_aload_n X dX11_restore_71 0 rfl rfl ?_
    refine g_getR (f := 14) X dX11_restore_72 flX11_84 rfl rfl h0 ?_
    refine g_bipush (v := 11) X dX11_restore_75 (by decide) ?_
    refine g_iload_n X dX11_restore_77 1 rfl rfl ?_
    refine g_imul X dX11_restore_78 ?_
    refine g_iload_n X dX11_restore_79 2 rfl rfl ?_
    refine g_iadd X dX11_restore_80 ?_
    obtain ⟨e_6, hF⟩ := oguard hF
    refine g_lald X dX11_restore_81 kd_41 (on_11_44 h0) e_6 ?_
    obtain ⟨e_7, hF⟩ := oguard hF
    refine g_last X dX11_restore_82 kd_32 (on_11_9 h0) e_7 ?_
    exact (wX11_restore_s83 X a0 x1 h0 y2 k60 (sB S 32 (a0 + 5) y2.toNatClampNeg (gB S 41 (a0 + 14) ((((11 : Int32) * x1) + y2).toNatClampNeg))) r ho hk60 hF)
theorem wX11_restore_h60 {z : Mx} {ad : Nat → Nat} {o : Option Value × St} (X : CxOk z ad RX11 cX11_restore 3 (some .boolean) 2) (a0 : Nat) (x1 : Int32) (h0 : KT a0 = 11)  (r : (Int32 × St)) (ho : o = (some (.int r.1), r.2)) : ∀ (n : Nat) (y2 : Int32) (S : St), fX11_restore_h60 a0 x1 n y2 S = some r → GW z ad o S 60 [(0, .ref (ad a0)), (1, .int x1), (2, .int y2)] [] := by
  intro n
  induction n with
  | zero => intro y2 S  hF; cases hF
  | succ n ih => intro y2 S  hF; exact wX11_restore_s60 X a0 x1 h0 y2 (fX11_restore_h60 a0 x1 n)  S r ho ih hF
theorem wX11_restore_s52 {z : Mx} {ad : Nat → Nat} {o : Option Value × St} (X : CxOk z ad RX11 cX11_restore 3 (some .boolean) 2) (a0 : Nat) (x1 : Int32) (h0 : KT a0 = 11) (y2 : Int32)  (k27 : Int32 → St → Option (Int32 × St))   (S : St) (r : (Int32 × St)) (ho : o = (some (.int r.1), r.2)) (hk27 : ∀ (y2 : Int32) (S : St), k27 y2 S = some r → GW z ad o S 27 [(0, .ref (ad a0)), (1, .int x1), (2, .int y2)] []) (hF : fX11_restore_s52 k27 a0 x1 y2  S = some r) : GW z ad o S 52 [(0, .ref (ad a0)), (1, .int x1), (2, .int y2)] [] := by
  unfold fX11_restore_s52 at hF
  refine g_iinc (v := (y2 + (1 : Int32))) X dX11_restore_52 2 rfl rfl (by decide) (lv' := [(2, .int (y2 + (1 : Int32))), (0, .ref (ad a0)), (1, .int x1)]) rfl ?_
  refine g_goto (tgt := 27) X dX11_restore_55 (by decide) ?_
  exact g_perm [1, 2, 0] rfl (hk27 (y2 + (1 : Int32)) S hF)
theorem wX11_restore_s27 {z : Mx} {ad : Nat → Nat} {o : Option Value × St} (X : CxOk z ad RX11 cX11_restore 3 (some .boolean) 2) (a0 : Nat) (x1 : Int32) (h0 : KT a0 = 11) (y2 : Int32)  (k27 : Int32 → St → Option (Int32 × St))   (S : St) (r : (Int32 × St)) (ho : o = (some (.int r.1), r.2)) (hk27 : ∀ (y2 : Int32) (S : St), k27 y2 S = some r → GW z ad o S 27 [(0, .ref (ad a0)), (1, .int x1), (2, .int y2)] []) (hF : fX11_restore_s27 k27 a0 x1 y2  S = some r) : GW z ad o S 27 [(0, .ref (ad a0)), (1, .int x1), (2, .int y2)] [] := by
  unfold fX11_restore_s27 at hF
  refine g_iload_n X dX11_restore_27 2 rfl rfl ?_
  refine g_sipush (v := 250) X dX11_restore_28 (by decide) ?_
  refine g_icmp_ge (tgt := 58) X dX11_restore_31 (by decide) (fun c_4 => ?_) (fun c_4 => ?_)
  · rw [if_pos c_4] at hF
    refine g_iconst (v := 0) X dX11_restore_58 (by decide) ?_
    refine g_istore_n X dX11_restore_59 rfl (by decide) (lv' := [(2, .int (0 : Int32)), (0, .ref (ad a0)), (1, .int x1)]) rfl ?_
    exact g_perm [1, 2, 0] rfl (wX11_restore_h60 X a0 x1 h0 r ho NN (0 : Int32) S hF)
  · rw [if_neg c_4] at hF
    refine g_aload_n X dX11_restore_34 0 rfl rfl ?_
    refine g_getR (f := 2) X dX11_restore_35 flX11_33 rfl rfl h0 ?_
    refine g_iload_n X dX11_restore_38 2 rfl rfl ?_
    refine g_aload_n X dX11_restore_39 0 rfl rfl ?_
    refine g_getR (f := 13) X dX11_restore_40 flX11_81 rfl rfl h0 ?_
    refine g_sipush (v := 250) X dX11_restore_43 (by decide) ?_
    refine g_iload_n X dX11_restore_46 1 rfl rfl ?_
    refine g_imul X dX11_restore_47 ?_
    refine g_iload_n X dX11_restore_48 2 rfl rfl ?_
    refine g_iadd X dX11_restore_49 ?_
    obtain ⟨e_8, hF⟩ := oguard hF
    refine g_iald X dX11_restore_50 kd_40 (on_11_43 h0) e_8 ?_
    obtain ⟨e_9, hF⟩ := oguard hF
    refine g_iast X dX11_restore_51 kd_29 (on_11_6 h0) e_9 ?_
    exact (wX11_restore_s52 X a0 x1 h0 y2 k27 (sA S 29 (a0 + 2) y2.toNatClampNeg (gA S 40 (a0 + 13) ((((250 : Int32) * x1) + y2).toNatClampNeg))) r ho hk27 hF)
theorem wX11_restore_h27 {z : Mx} {ad : Nat → Nat} {o : Option Value × St} (X : CxOk z ad RX11 cX11_restore 3 (some .boolean) 2) (a0 : Nat) (x1 : Int32) (h0 : KT a0 = 11)  (r : (Int32 × St)) (ho : o = (some (.int r.1), r.2)) : ∀ (n : Nat) (y2 : Int32) (S : St), fX11_restore_h27 a0 x1 n y2 S = some r → GW z ad o S 27 [(0, .ref (ad a0)), (1, .int x1), (2, .int y2)] [] := by
  intro n
  induction n with
  | zero => intro y2 S  hF; cases hF
  | succ n ih => intro y2 S  hF; exact wX11_restore_s27 X a0 x1 h0 y2 (fX11_restore_h27 a0 x1 n)  S r ho ih hF
theorem wX11_restore_s5 {z : Mx} {ad : Nat → Nat} {o : Option Value × St} (X : CxOk z ad RX11 cX11_restore 3 (some .boolean) 2) (a0 : Nat) (x1 : Int32) (h0 : KT a0 = 11)     (S : St) (r : (Int32 × St)) (ho : o = (some (.int r.1), r.2)) (hF : fX11_restore_s5 a0 x1   S = some r) : GW z ad o S 5 [(0, .ref (ad a0)), (1, .int x1)] [] := by
  unfold fX11_restore_s5 at hF
  refine g_iload_n X dX11_restore_5 1 rfl rfl ?_
  refine g_iconst (v := 0) X dX11_restore_6 (by decide) ?_
  refine g_iconst (v := 1) X dX11_restore_7 (by decide) ?_
  refine g_callSi (As := [.int x1, .int (0 : Int32), .int (1 : Int32)]) X dX11_restore_8 mlX11_173 (fun l D cyy => tX11_isIn (cx_inj X) l D cyy x1 (0 : Int32) (1 : Int32)  S) (by decide) rfl rfl (Nat.le_of_ble_eq_true rfl) ?_
  refine g_if_eq (tgt := 23) X dX11_restore_11 (by decide) (fun c_1 => ?_) (fun c_1 => ?_)
  · rw [if_pos c_1] at hF
    refine g_iconst (v := 0) X dX11_restore_23 (by decide) ?_
    have hF := Option.some.inj hF
    subst hF
    exact g_zret X dX11_restore_24 (by decide) ho
  · rw [if_neg c_1] at hF
    refine g_aload_n X dX11_restore_14 0 rfl rfl ?_
    refine g_getR (f := 15) X dX11_restore_15 flX11_87 rfl rfl h0 ?_
    refine g_iload_n X dX11_restore_18 1 rfl rfl ?_
    obtain ⟨e_2, hF⟩ := oguard hF
    refine g_zald X dX11_restore_19 kd_42 (on_11_45 h0) e_2 ?_
    refine g_if_ne (tgt := 25) X dX11_restore_20 (by decide) (fun c_3 => ?_) (fun c_3 => ?_)
    · rw [if_neg c_3] at hF
      refine g_iconst (v := 0) X dX11_restore_25 (by decide) ?_
      refine g_istore_n X dX11_restore_26 rfl (by decide) (lv' := [(2, .int (0 : Int32)), (0, .ref (ad a0)), (1, .int x1)]) rfl ?_
      exact g_perm [1, 2, 0] rfl (wX11_restore_h27 X a0 x1 h0 r ho NN (0 : Int32) S hF)
    · rw [if_pos c_3] at hF
      refine g_iconst (v := 0) X dX11_restore_23 (by decide) ?_
      have hF := Option.some.inj hF
      subst hF
      exact g_zret X dX11_restore_24 (by decide) ho
theorem wX11_restore {z : Mx} {ad : Nat → Nat} {o : Option Value × St} (X : CxOk z ad RX11 cX11_restore 3 (some .boolean) 2) (a0 : Nat) (x1 : Int32) (h0 : KT a0 = 11) (S : St) (r : (Int32 × St)) (ho : o = (some (.int r.1), r.2)) (hF : fX11_restore a0 x1 S = some r) : GW z ad o S 0 [(0, .ref (ad a0)), (1, .int x1)] [] := by
  unfold fX11_restore at hF
  refine g_aload_n X dX11_restore_0 0 rfl rfl ?_
  refine g_iconst (v := 0) X dX11_restore_1 (by decide) ?_
  refine g_putI X dX11_restore_2 fpX11_1 rfl rfl rfl h0 ?_
  exact (wX11_restore_s5 X a0 x1 h0 (sI S 11 0 a0 (0 : Int32)) r ho hF)
theorem tX11_restore {ad : Nat → Nat} (hI : Inj ad) (l : Launch) (D : va_G) (cyy : Nat → ClassId) (a0 : Nat) (x1 : Int32) (h0 : KT a0 = 11) (S : St) (r : (Int32 × St)) (hF : fX11_restore a0 x1 S = some r) : OkM l yX11_restore cX11_restore 3 (some .boolean) 2 ad D cyy [.ref (ad a0), .int x1] S (some (.int r.1), r.2) := okM_of hI (by decide) (inr_65 _ (List.mem_of_getElem? (i := 6) rfl)) (by show _ ≤ 3; exact Nat.le_of_ble_eq_true rfl) (fun z X => wX11_restore X a0 x1 h0 S r rfl hF)
def fX11_count_s5 (a0 : Nat) (x1 : Int32)   (S : St) : Option (Int32 × St) :=
  if x1 = (4 : Int32) then (some ((gI S 11 2 a0), S)) else
  (if (fX11_isIn x1 (0 : Int32) (3 : Int32) S) = 0 then (some ((-1 : Int32), S)) else
  (if (x1 < 0 ∨ 250 ≤ x1.toNatClampNeg) then none else
  some ((gA S 29 (a0 + 2) x1.toNatClampNeg), S)))
def fX11_count (a0 : Nat) (x1 : Int32) (S : St) : Option (Int32 × St) :=
  fX11_count_s5 a0 x1 (sI S 11 0 a0 (0 : Int32))
theorem wX11_count_s5 {z : Mx} {ad : Nat → Nat} {o : Option Value × St} (X : CxOk z ad RX11 cX11_count 2 (some .int) 2) (a0 : Nat) (x1 : Int32) (h0 : KT a0 = 11)     (S : St) (r : (Int32 × St)) (ho : o = (some (.int r.1), r.2)) (hF : fX11_count_s5 a0 x1   S = some r) : GW z ad o S 5 [(0, .ref (ad a0)), (1, .int x1)] [] := by
  unfold fX11_count_s5 at hF
  refine g_iload_n X dX11_count_5 1 rfl rfl ?_
  refine g_iconst (v := 4) X dX11_count_6 (by decide) ?_
  refine g_icmp_ne (tgt := 17) X dX11_count_7 (by decide) (fun c_1 => ?_) (fun c_1 => ?_)
  · rw [if_neg c_1] at hF
    refine g_iload_n X dX11_count_17 1 rfl rfl ?_
    refine g_iconst (v := 0) X dX11_count_18 (by decide) ?_
    refine g_iconst (v := 3) X dX11_count_19 (by decide) ?_
    refine g_callSi (As := [.int x1, .int (0 : Int32), .int (3 : Int32)]) X dX11_count_20 mlX11_173 (fun l D cyy => tX11_isIn (cx_inj X) l D cyy x1 (0 : Int32) (3 : Int32)  S) (by decide) rfl rfl (Nat.le_of_ble_eq_true rfl) ?_
    refine g_if_eq (tgt := 35) X dX11_count_23 (by decide) (fun c_2 => ?_) (fun c_2 => ?_)
    · rw [if_pos c_2] at hF
      refine g_iconst (v := -1) X dX11_count_35 (by decide) ?_
      have hF := Option.some.inj hF
      subst hF
      exact g_iret X dX11_count_36 ho
    · rw [if_neg c_2] at hF
      refine g_aload_n X dX11_count_26 0 rfl rfl ?_
      refine g_getR (f := 2) X dX11_count_27 flX11_33 rfl rfl h0 ?_
      refine g_iload_n X dX11_count_30 1 rfl rfl ?_
      obtain ⟨e_3, hF⟩ := oguard hF
      refine g_iald X dX11_count_31 kd_29 (on_11_6 h0) e_3 ?_
      refine g_goto (tgt := 36) X dX11_count_32 (by decide) ?_
      have hF := Option.some.inj hF
      subst hF
      exact g_iret X dX11_count_36 ho
  · rw [if_pos c_1] at hF
    refine g_aload_n X dX11_count_10 0 rfl rfl ?_
    refine g_getI X dX11_count_11 flX11_7 rfl h0 ?_
    refine g_goto (tgt := 36) X dX11_count_14 (by decide) ?_
    have hF := Option.some.inj hF
    subst hF
    exact g_iret X dX11_count_36 ho
theorem wX11_count {z : Mx} {ad : Nat → Nat} {o : Option Value × St} (X : CxOk z ad RX11 cX11_count 2 (some .int) 2) (a0 : Nat) (x1 : Int32) (h0 : KT a0 = 11) (S : St) (r : (Int32 × St)) (ho : o = (some (.int r.1), r.2)) (hF : fX11_count a0 x1 S = some r) : GW z ad o S 0 [(0, .ref (ad a0)), (1, .int x1)] [] := by
  unfold fX11_count at hF
  refine g_aload_n X dX11_count_0 0 rfl rfl ?_
  refine g_iconst (v := 0) X dX11_count_1 (by decide) ?_
  refine g_putI X dX11_count_2 fpX11_1 rfl rfl rfl h0 ?_
  exact (wX11_count_s5 X a0 x1 h0 (sI S 11 0 a0 (0 : Int32)) r ho hF)
theorem tX11_count {ad : Nat → Nat} (hI : Inj ad) (l : Launch) (D : va_G) (cyy : Nat → ClassId) (a0 : Nat) (x1 : Int32) (h0 : KT a0 = 11) (S : St) (r : (Int32 × St)) (hF : fX11_count a0 x1 S = some r) : OkM l yX11_count cX11_count 2 (some .int) 2 ad D cyy [.ref (ad a0), .int x1] S (some (.int r.1), r.2) := okM_of hI (by decide) (inr_65 _ (List.mem_of_getElem? (i := 17) rfl)) (by show _ ≤ 2; exact Nat.le_of_ble_eq_true rfl) (fun z X => wX11_count X a0 x1 h0 S r rfl hF)
