theorem dX11_valley_0 : decode cX11_valley 0 = .ok (.aload_n 0, 1) := by decide +kernel
theorem dX11_valley_1 : decode cX11_valley 1 = .ok (.iconst 0, 1) := by decide +kernel
theorem dX11_valley_2 : decode cX11_valley 2 = .ok (.putfield 1, 3) := by decide +kernel
theorem dX11_valley_5 : decode cX11_valley 5 = .ok (.aload_n 0, 1) := by decide +kernel
theorem dX11_valley_6 : decode cX11_valley 6 = .ok (.sipush 900, 3) := by decide +kernel
theorem dX11_valley_9 : decode cX11_valley 9 = .ok (.invokevirtual 221, 3) := by decide +kernel
theorem dX11_valley_12 : decode cX11_valley 12 = .ok (.aload_n 0, 1) := by decide +kernel
theorem dX11_valley_13 : decode cX11_valley 13 = .ok (.iconst 0, 1) := by decide +kernel
theorem dX11_valley_14 : decode cX11_valley 14 = .ok (.putfield 158, 3) := by decide +kernel
theorem dX11_valley_17 : decode cX11_valley 17 = .ok (.aload_n 0, 1) := by decide +kernel
theorem dX11_valley_18 : decode cX11_valley 18 = .ok (.iconst 0, 1) := by decide +kernel
theorem dX11_valley_19 : decode cX11_valley 19 = .ok (.putfield 224, 3) := by decide +kernel
theorem dX11_valley_22 : decode cX11_valley 22 = .ok (.aload_n 0, 1) := by decide +kernel
theorem dX11_valley_23 : decode cX11_valley 23 = .ok (.iconst 0, 1) := by decide +kernel
theorem dX11_valley_24 : decode cX11_valley 24 = .ok (.putfield 208, 3) := by decide +kernel
theorem dX11_valley_27 : decode cX11_valley 27 = .ok (.aload_n 0, 1) := by decide +kernel
theorem dX11_valley_28 : decode cX11_valley 28 = .ok (.invokevirtual 128, 3) := by decide +kernel
theorem dX11_valley_31 : decode cX11_valley 31 = .ok (.aload_n 0, 1) := by decide +kernel
theorem dX11_valley_32 : decode cX11_valley 32 = .ok (.invokevirtual 170, 3) := by decide +kernel
theorem dX11_valley_35 : decode cX11_valley 35 = .ok (.aload_n 0, 1) := by decide +kernel
theorem dX11_valley_36 : decode cX11_valley 36 = .ok (.getfield 141, 3) := by decide +kernel
theorem dX11_valley_39 : decode cX11_valley 39 = .ok (.ifCond .eq 39, 3) := by decide +kernel
theorem dX11_valley_42 : decode cX11_valley 42 = .ok (.aload_n 0, 1) := by decide +kernel
theorem dX11_valley_43 : decode cX11_valley 43 = .ok (.invokevirtual 227, 3) := by decide +kernel
theorem dX11_valley_46 : decode cX11_valley 46 = .ok (.ifCond .eq 12, 3) := by decide +kernel
theorem dX11_valley_49 : decode cX11_valley 49 = .ok (.aload_n 0, 1) := by decide +kernel
theorem dX11_valley_50 : decode cX11_valley 50 = .ok (.bipush 59, 2) := by decide +kernel
theorem dX11_valley_52 : decode cX11_valley 52 = .ok (.invokevirtual 230, 3) := by decide +kernel
theorem dX11_valley_55 : decode cX11_valley 55 = .ok (.ifCond .ne 10, 3) := by decide +kernel
theorem dX11_valley_58 : decode cX11_valley 58 = .ok (.iconst (-1), 1) := by decide +kernel
theorem dX11_valley_59 : decode cX11_valley 59 = .ok (.aload_n 0, 1) := by decide +kernel
theorem dX11_valley_60 : decode cX11_valley 60 = .ok (.getfield 161, 3) := by decide +kernel
theorem dX11_valley_63 : decode cX11_valley 63 = .ok (.isub, 1) := by decide +kernel
theorem dX11_valley_64 : decode cX11_valley 64 = .ok (.ireturn, 1) := by decide +kernel
theorem dX11_valley_65 : decode cX11_valley 65 = .ok (.aload_n 0, 1) := by decide +kernel
theorem dX11_valley_66 : decode cX11_valley 66 = .ok (.dup, 1) := by decide +kernel
theorem dX11_valley_67 : decode cX11_valley 67 = .ok (.getfield 224, 3) := by decide +kernel
theorem dX11_valley_70 : decode cX11_valley 70 = .ok (.iconst 1, 1) := by decide +kernel
theorem dX11_valley_71 : decode cX11_valley 71 = .ok (.iadd, 1) := by decide +kernel
theorem dX11_valley_72 : decode cX11_valley 72 = .ok (.putfield 224, 3) := by decide +kernel
theorem dX11_valley_75 : decode cX11_valley 75 = .ok (.goto (-40), 3) := by decide +kernel
theorem dX11_valley_78 : decode cX11_valley 78 = .ok (.iconst 0, 1) := by decide +kernel
theorem dX11_valley_79 : decode cX11_valley 79 = .ok (.istore_n 1, 1) := by decide +kernel
theorem dX11_valley_80 : decode cX11_valley 80 = .ok (.iload_n 1, 1) := by decide +kernel
theorem dX11_valley_81 : decode cX11_valley 81 = .ok (.sipush 250, 3) := by decide +kernel
theorem dX11_valley_84 : decode cX11_valley 84 = .ok (.if_icmp .ge 31, 3) := by decide +kernel
theorem dX11_valley_87 : decode cX11_valley 87 = .ok (.aload_n 0, 1) := by decide +kernel
theorem dX11_valley_88 : decode cX11_valley 88 = .ok (.getfield 33, 3) := by decide +kernel
theorem dX11_valley_91 : decode cX11_valley 91 = .ok (.iload_n 1, 1) := by decide +kernel
theorem dX11_valley_92 : decode cX11_valley 92 = .ok (.iload_n 1, 1) := by decide +kernel
theorem dX11_valley_93 : decode cX11_valley 93 = .ok (.bipush 52, 2) := by decide +kernel
theorem dX11_valley_95 : decode cX11_valley 95 = .ok (.if_icmp .ge 12, 3) := by decide +kernel
theorem dX11_valley_98 : decode cX11_valley 98 = .ok (.aload_n 0, 1) := by decide +kernel
theorem dX11_valley_99 : decode cX11_valley 99 = .ok (.getfield 37, 3) := by decide +kernel
theorem dX11_valley_102 : decode cX11_valley 102 = .ok (.iload_n 1, 1) := by decide +kernel
theorem dX11_valley_103 : decode cX11_valley 103 = .ok (.iaload, 1) := by decide +kernel
theorem dX11_valley_104 : decode cX11_valley 104 = .ok (.goto 4, 3) := by decide +kernel
theorem dX11_valley_107 : decode cX11_valley 107 = .ok (.iconst 0, 1) := by decide +kernel
theorem dX11_valley_108 : decode cX11_valley 108 = .ok (.iastore, 1) := by decide +kernel
theorem dX11_valley_109 : decode cX11_valley 109 = .ok (.iinc 1 1, 3) := by decide +kernel
theorem dX11_valley_112 : decode cX11_valley 112 = .ok (.goto (-32), 3) := by decide +kernel
theorem dX11_valley_115 : decode cX11_valley 115 = .ok (.iconst 0, 1) := by decide +kernel
theorem dX11_valley_116 : decode cX11_valley 116 = .ok (.istore_n 1, 1) := by decide +kernel
theorem dX11_valley_117 : decode cX11_valley 117 = .ok (.iload_n 1, 1) := by decide +kernel
theorem dX11_valley_118 : decode cX11_valley 118 = .ok (.bipush 11, 2) := by decide +kernel
theorem dX11_valley_120 : decode cX11_valley 120 = .ok (.if_icmp .ge 24, 3) := by decide +kernel
theorem dX11_valley_123 : decode cX11_valley 123 = .ok (.aload_n 0, 1) := by decide +kernel
theorem dX11_valley_124 : decode cX11_valley 124 = .ok (.getfield 43, 3) := by decide +kernel
theorem dX11_valley_127 : decode cX11_valley 127 = .ok (.iload_n 1, 1) := by decide +kernel
theorem dX11_valley_128 : decode cX11_valley 128 = .ok (.aload_n 0, 1) := by decide +kernel
theorem dX11_valley_129 : decode cX11_valley 129 = .ok (.getfield 43, 3) := by decide +kernel
theorem dX11_valley_132 : decode cX11_valley 132 = .ok (.bipush 11, 2) := by decide +kernel
theorem dX11_valley_134 : decode cX11_valley 134 = .ok (.iload_n 1, 1) := by decide +kernel
theorem dX11_valley_135 : decode cX11_valley 135 = .ok (.iadd, 1) := by decide +kernel
theorem dX11_valley_136 : decode cX11_valley 136 = .ok (.laload, 1) := by decide +kernel
theorem dX11_valley_137 : decode cX11_valley 137 = .ok (.lastore, 1) := by decide +kernel
theorem dX11_valley_138 : decode cX11_valley 138 = .ok (.iinc 1 1, 3) := by decide +kernel
theorem dX11_valley_141 : decode cX11_valley 141 = .ok (.goto (-24), 3) := by decide +kernel
theorem dX11_valley_144 : decode cX11_valley 144 = .ok (.iconst 0, 1) := by decide +kernel
theorem dX11_valley_145 : decode cX11_valley 145 = .ok (.istore_n 1, 1) := by decide +kernel
theorem dX11_valley_146 : decode cX11_valley 146 = .ok (.iload_n 1, 1) := by decide +kernel
theorem dX11_valley_147 : decode cX11_valley 147 = .ok (.iconst 5, 1) := by decide +kernel
theorem dX11_valley_148 : decode cX11_valley 148 = .ok (.if_icmp .ge 27, 3) := by decide +kernel
theorem dX11_valley_151 : decode cX11_valley 151 = .ok (.aload_n 0, 1) := by decide +kernel
theorem dX11_valley_152 : decode cX11_valley 152 = .ok (.getfield 33, 3) := by decide +kernel
theorem dX11_valley_155 : decode cX11_valley 155 = .ok (.bipush 54, 2) := by decide +kernel
theorem dX11_valley_157 : decode cX11_valley 157 = .ok (.iload_n 1, 1) := by decide +kernel
theorem dX11_valley_158 : decode cX11_valley 158 = .ok (.iadd, 1) := by decide +kernel
theorem dX11_valley_159 : decode cX11_valley 159 = .ok (.aload_n 0, 1) := by decide +kernel
theorem dX11_valley_160 : decode cX11_valley 160 = .ok (.getfield 33, 3) := by decide +kernel
theorem dX11_valley_163 : decode cX11_valley 163 = .ok (.bipush 19, 2) := by decide +kernel
theorem dX11_valley_165 : decode cX11_valley 165 = .ok (.iload_n 1, 1) := by decide +kernel
theorem dX11_valley_166 : decode cX11_valley 166 = .ok (.iadd, 1) := by decide +kernel
theorem dX11_valley_167 : decode cX11_valley 167 = .ok (.iaload, 1) := by decide +kernel
theorem dX11_valley_168 : decode cX11_valley 168 = .ok (.iastore, 1) := by decide +kernel
theorem dX11_valley_169 : decode cX11_valley 169 = .ok (.iinc 1 1, 3) := by decide +kernel
theorem dX11_valley_172 : decode cX11_valley 172 = .ok (.goto (-26), 3) := by decide +kernel
theorem dX11_valley_175 : decode cX11_valley 175 = .ok (.aload_n 0, 1) := by decide +kernel
theorem dX11_valley_176 : decode cX11_valley 176 = .ok (.iconst 0, 1) := by decide +kernel
theorem dX11_valley_177 : decode cX11_valley 177 = .ok (.putfield 233, 3) := by decide +kernel
theorem dX11_valley_180 : decode cX11_valley 180 = .ok (.aload_n 0, 1) := by decide +kernel
theorem dX11_valley_181 : decode cX11_valley 181 = .ok (.getfield 224, 3) := by decide +kernel
theorem dX11_valley_184 : decode cX11_valley 184 = .ok (.ireturn, 1) := by decide +kernel
theorem dX11_fault_0 : decode cX11_fault 0 = .ok (.aload_n 0, 1) := by decide +kernel
theorem dX11_fault_1 : decode cX11_fault 1 = .ok (.iconst 0, 1) := by decide +kernel
theorem dX11_fault_2 : decode cX11_fault 2 = .ok (.putfield 1, 3) := by decide +kernel
theorem dX11_fault_5 : decode cX11_fault 5 = .ok (.aload_n 0, 1) := by decide +kernel
theorem dX11_fault_6 : decode cX11_fault 6 = .ok (.getfield 158, 3) := by decide +kernel
theorem dX11_fault_9 : decode cX11_fault 9 = .ok (.ireturn, 1) := by decide +kernel
theorem dX11_isParish_0 : decode cX11_isParish 0 = .ok (.iload_n 1, 1) := by decide +kernel
theorem dX11_isParish_1 : decode cX11_isParish 1 = .ok (.iconst 0, 1) := by decide +kernel
theorem dX11_isParish_2 : decode cX11_isParish 2 = .ok (.aload_n 0, 1) := by decide +kernel
theorem dX11_isParish_3 : decode cX11_isParish 3 = .ok (.getfield 33, 3) := by decide +kernel
theorem dX11_isParish_6 : decode cX11_isParish 6 = .ok (.iconst 0, 1) := by decide +kernel
theorem dX11_isParish_7 : decode cX11_isParish 7 = .ok (.iaload, 1) := by decide +kernel
theorem dX11_isParish_8 : decode cX11_isParish 8 = .ok (.iconst 1, 1) := by decide +kernel
theorem dX11_isParish_9 : decode cX11_isParish 9 = .ok (.isub, 1) := by decide +kernel
theorem dX11_isParish_10 : decode cX11_isParish 10 = .ok (.invokestatic 173, 3) := by decide +kernel
theorem dX11_isParish_13 : decode cX11_isParish 13 = .ok (.ireturn, 1) := by decide +kernel
theorem dX11_isFeast_0 : decode cX11_isFeast 0 = .ok (.iload_n 1, 1) := by decide +kernel
theorem dX11_isFeast_1 : decode cX11_isFeast 1 = .ok (.iconst 0, 1) := by decide +kernel
theorem dX11_isFeast_2 : decode cX11_isFeast 2 = .ok (.aload_n 0, 1) := by decide +kernel
theorem dX11_isFeast_3 : decode cX11_isFeast 3 = .ok (.getfield 33, 3) := by decide +kernel
theorem dX11_isFeast_6 : decode cX11_isFeast 6 = .ok (.iconst 1, 1) := by decide +kernel
theorem dX11_isFeast_7 : decode cX11_isFeast 7 = .ok (.iaload, 1) := by decide +kernel
theorem dX11_isFeast_8 : decode cX11_isFeast 8 = .ok (.iconst 1, 1) := by decide +kernel
theorem dX11_isFeast_9 : decode cX11_isFeast 9 = .ok (.isub, 1) := by decide +kernel
theorem dX11_isFeast_10 : decode cX11_isFeast 10 = .ok (.invokestatic 173, 3) := by decide +kernel
theorem dX11_isFeast_13 : decode cX11_isFeast 13 = .ok (.ireturn, 1) := by decide +kernel
theorem dX11_isHeld_0 : decode cX11_isHeld 0 = .ok (.aload_n 0, 1) := by decide +kernel
theorem dX11_isHeld_1 : decode cX11_isHeld 1 = .ok (.getfield 33, 3) := by decide +kernel
theorem dX11_isHeld_4 : decode cX11_isHeld 4 = .ok (.bipush 53, 2) := by decide +kernel
theorem dX11_isHeld_6 : decode cX11_isHeld 6 = .ok (.iaload, 1) := by decide +kernel
theorem dX11_isHeld_7 : decode cX11_isHeld 7 = .ok (.iload_n 1, 1) := by decide +kernel
theorem dX11_isHeld_8 : decode cX11_isHeld 8 = .ok (.invokestatic 236, 3) := by decide +kernel
theorem dX11_isHeld_11 : decode cX11_isHeld 11 = .ok (.ireturn, 1) := by decide +kernel
theorem dX11_plainYear_0 : decode cX11_plainYear 0 = .ok (.aload_n 0, 1) := by decide +kernel
theorem dX11_plainYear_1 : decode cX11_plainYear 1 = .ok (.getfield 33, 3) := by decide +kernel
theorem dX11_plainYear_4 : decode cX11_plainYear 4 = .ok (.iconst 4, 1) := by decide +kernel
theorem dX11_plainYear_5 : decode cX11_plainYear 5 = .ok (.iload_n 1, 1) := by decide +kernel
theorem dX11_plainYear_6 : decode cX11_plainYear 6 = .ok (.iadd, 1) := by decide +kernel
theorem dX11_plainYear_7 : decode cX11_plainYear 7 = .ok (.iaload, 1) := by decide +kernel
theorem dX11_plainYear_8 : decode cX11_plainYear 8 = .ok (.aload_n 0, 1) := by decide +kernel
theorem dX11_plainYear_9 : decode cX11_plainYear 9 = .ok (.getfield 33, 3) := by decide +kernel
theorem dX11_plainYear_12 : decode cX11_plainYear 12 = .ok (.bipush 9, 2) := by decide +kernel
theorem dX11_plainYear_14 : decode cX11_plainYear 14 = .ok (.iload_n 1, 1) := by decide +kernel
theorem dX11_plainYear_15 : decode cX11_plainYear 15 = .ok (.iadd, 1) := by decide +kernel
theorem dX11_plainYear_16 : decode cX11_plainYear 16 = .ok (.iaload, 1) := by decide +kernel
theorem dX11_plainYear_17 : decode cX11_plainYear 17 = .ok (.imul, 1) := by decide +kernel
theorem dX11_plainYear_18 : decode cX11_plainYear 18 = .ok (.ireturn, 1) := by decide +kernel
theorem dX11_allYears_0 : decode cX11_allYears 0 = .ok (.aload_n 0, 1) := by decide +kernel
theorem dX11_allYears_1 : decode cX11_allYears 1 = .ok (.getfield 33, 3) := by decide +kernel
theorem dX11_allYears_4 : decode cX11_allYears 4 = .ok (.bipush 29, 2) := by decide +kernel
theorem dX11_allYears_6 : decode cX11_allYears 6 = .ok (.iload_n 1, 1) := by decide +kernel
theorem dX11_allYears_7 : decode cX11_allYears 7 = .ok (.iadd, 1) := by decide +kernel
theorem dX11_allYears_8 : decode cX11_allYears 8 = .ok (.iaload, 1) := by decide +kernel
theorem dX11_allYears_9 : decode cX11_allYears 9 = .ok (.aload_n 0, 1) := by decide +kernel
theorem dX11_allYears_10 : decode cX11_allYears 10 = .ok (.iload_n 1, 1) := by decide +kernel
theorem dX11_allYears_11 : decode cX11_allYears 11 = .ok (.invokevirtual 239, 3) := by decide +kernel
theorem dX11_allYears_14 : decode cX11_allYears 14 = .ok (.imul, 1) := by decide +kernel
theorem dX11_allYears_15 : decode cX11_allYears 15 = .ok (.aload_n 0, 1) := by decide +kernel
theorem dX11_allYears_16 : decode cX11_allYears 16 = .ok (.getfield 33, 3) := by decide +kernel
theorem dX11_allYears_19 : decode cX11_allYears 19 = .ok (.bipush 24, 2) := by decide +kernel
theorem dX11_allYears_21 : decode cX11_allYears 21 = .ok (.iload_n 1, 1) := by decide +kernel
theorem dX11_allYears_22 : decode cX11_allYears 22 = .ok (.iadd, 1) := by decide +kernel
theorem dX11_allYears_23 : decode cX11_allYears 23 = .ok (.iaload, 1) := by decide +kernel
theorem dX11_allYears_24 : decode cX11_allYears 24 = .ok (.iadd, 1) := by decide +kernel
theorem dX11_allYears_25 : decode cX11_allYears 25 = .ok (.ireturn, 1) := by decide +kernel
theorem dX11_yearBy_0 : decode cX11_yearBy 0 = .ok (.iload_n 2, 1) := by decide +kernel
theorem dX11_yearBy_1 : decode cX11_yearBy 1 = .ok (.aload_n 0, 1) := by decide +kernel
theorem dX11_yearBy_2 : decode cX11_yearBy 2 = .ok (.iload_n 1, 1) := by decide +kernel
theorem dX11_yearBy_3 : decode cX11_yearBy 3 = .ok (.invokevirtual 243, 3) := by decide +kernel
theorem dX11_yearBy_6 : decode cX11_yearBy 6 = .ok (.irem, 1) := by decide +kernel
theorem dX11_yearBy_7 : decode cX11_yearBy 7 = .ok (.aload_n 0, 1) := by decide +kernel
theorem dX11_yearBy_8 : decode cX11_yearBy 8 = .ok (.iload_n 1, 1) := by decide +kernel
theorem dX11_yearBy_9 : decode cX11_yearBy 9 = .ok (.invokevirtual 239, 3) := by decide +kernel
theorem dX11_yearBy_12 : decode cX11_yearBy 12 = .ok (.isub, 1) := by decide +kernel
theorem dX11_yearBy_13 : decode cX11_yearBy 13 = .ok (.aload_n 0, 1) := by decide +kernel
theorem dX11_yearBy_14 : decode cX11_yearBy 14 = .ok (.getfield 33, 3) := by decide +kernel
theorem dX11_yearBy_17 : decode cX11_yearBy 17 = .ok (.bipush 24, 2) := by decide +kernel
theorem dX11_yearBy_19 : decode cX11_yearBy 19 = .ok (.iload_n 1, 1) := by decide +kernel
theorem dX11_yearBy_20 : decode cX11_yearBy 20 = .ok (.iadd, 1) := by decide +kernel
theorem dX11_yearBy_21 : decode cX11_yearBy 21 = .ok (.iaload, 1) := by decide +kernel
theorem dX11_yearBy_22 : decode cX11_yearBy 22 = .ok (.isub, 1) := by decide +kernel
theorem dX11_yearBy_23 : decode cX11_yearBy 23 = .ok (.istore_n 3, 1) := by decide +kernel
theorem dX11_yearBy_24 : decode cX11_yearBy 24 = .ok (.iload_n 2, 1) := by decide +kernel
theorem dX11_yearBy_25 : decode cX11_yearBy 25 = .ok (.aload_n 0, 1) := by decide +kernel
theorem dX11_yearBy_26 : decode cX11_yearBy 26 = .ok (.iload_n 1, 1) := by decide +kernel
theorem dX11_yearBy_27 : decode cX11_yearBy 27 = .ok (.invokevirtual 243, 3) := by decide +kernel
theorem dX11_yearBy_30 : decode cX11_yearBy 30 = .ok (.idiv, 1) := by decide +kernel
theorem dX11_yearBy_31 : decode cX11_yearBy 31 = .ok (.aload_n 0, 1) := by decide +kernel
theorem dX11_yearBy_32 : decode cX11_yearBy 32 = .ok (.getfield 33, 3) := by decide +kernel
theorem dX11_yearBy_35 : decode cX11_yearBy 35 = .ok (.bipush 29, 2) := by decide +kernel
theorem dX11_yearBy_37 : decode cX11_yearBy 37 = .ok (.iload_n 1, 1) := by decide +kernel
theorem dX11_yearBy_38 : decode cX11_yearBy 38 = .ok (.iadd, 1) := by decide +kernel
theorem dX11_yearBy_39 : decode cX11_yearBy 39 = .ok (.iaload, 1) := by decide +kernel
theorem dX11_yearBy_40 : decode cX11_yearBy 40 = .ok (.imul, 1) := by decide +kernel
theorem dX11_yearBy_41 : decode cX11_yearBy 41 = .ok (.iload_n 3, 1) := by decide +kernel
theorem dX11_yearBy_42 : decode cX11_yearBy 42 = .ok (.ifCond .ge 7, 3) := by decide +kernel
theorem dX11_yearBy_45 : decode cX11_yearBy 45 = .ok (.iconst 0, 1) := by decide +kernel
theorem dX11_yearBy_46 : decode cX11_yearBy 46 = .ok (.goto 12, 3) := by decide +kernel
theorem dX11_yearBy_49 : decode cX11_yearBy 49 = .ok (.iconst 1, 1) := by decide +kernel
theorem dX11_yearBy_50 : decode cX11_yearBy 50 = .ok (.iload_n 3, 1) := by decide +kernel
theorem dX11_yearBy_51 : decode cX11_yearBy 51 = .ok (.aload_n 0, 1) := by decide +kernel
theorem dX11_yearBy_52 : decode cX11_yearBy 52 = .ok (.iload_n 1, 1) := by decide +kernel
theorem dX11_yearBy_53 : decode cX11_yearBy 53 = .ok (.invokevirtual 239, 3) := by decide +kernel
theorem dX11_yearBy_56 : decode cX11_yearBy 56 = .ok (.idiv, 1) := by decide +kernel
theorem dX11_yearBy_57 : decode cX11_yearBy 57 = .ok (.iadd, 1) := by decide +kernel
theorem dX11_yearBy_58 : decode cX11_yearBy 58 = .ok (.iadd, 1) := by decide +kernel
theorem dX11_yearBy_59 : decode cX11_yearBy 59 = .ok (.ireturn, 1) := by decide +kernel
theorem dX11_firstBy_0 : decode cX11_firstBy 0 = .ok (.iload_n 2, 1) := by decide +kernel
theorem dX11_firstBy_1 : decode cX11_firstBy 1 = .ok (.aload_n 0, 1) := by decide +kernel
theorem dX11_firstBy_2 : decode cX11_firstBy 2 = .ok (.iload_n 1, 1) := by decide +kernel
theorem dX11_firstBy_3 : decode cX11_firstBy 3 = .ok (.invokevirtual 239, 3) := by decide +kernel
theorem dX11_firstBy_6 : decode cX11_firstBy 6 = .ok (.imul, 1) := by decide +kernel
theorem dX11_firstBy_7 : decode cX11_firstBy 7 = .ok (.aload_n 0, 1) := by decide +kernel
theorem dX11_firstBy_8 : decode cX11_firstBy 8 = .ok (.getfield 33, 3) := by decide +kernel
theorem dX11_firstBy_11 : decode cX11_firstBy 11 = .ok (.bipush 24, 2) := by decide +kernel
theorem dX11_firstBy_13 : decode cX11_firstBy 13 = .ok (.iload_n 1, 1) := by decide +kernel
theorem dX11_firstBy_14 : decode cX11_firstBy 14 = .ok (.iadd, 1) := by decide +kernel
theorem dX11_firstBy_15 : decode cX11_firstBy 15 = .ok (.iaload, 1) := by decide +kernel
theorem dX11_firstBy_16 : decode cX11_firstBy 16 = .ok (.iload_n 2, 1) := by decide +kernel
theorem dX11_firstBy_17 : decode cX11_firstBy 17 = .ok (.aload_n 0, 1) := by decide +kernel
theorem dX11_firstBy_18 : decode cX11_firstBy 18 = .ok (.getfield 33, 3) := by decide +kernel
theorem dX11_firstBy_21 : decode cX11_firstBy 21 = .ok (.bipush 29, 2) := by decide +kernel
theorem dX11_firstBy_23 : decode cX11_firstBy 23 = .ok (.iload_n 1, 1) := by decide +kernel
theorem dX11_firstBy_24 : decode cX11_firstBy 24 = .ok (.iadd, 1) := by decide +kernel
theorem dX11_firstBy_25 : decode cX11_firstBy 25 = .ok (.iaload, 1) := by decide +kernel
theorem dX11_firstBy_26 : decode cX11_firstBy 26 = .ok (.iadd, 1) := by decide +kernel
theorem dX11_firstBy_27 : decode cX11_firstBy 27 = .ok (.iconst 1, 1) := by decide +kernel
theorem dX11_firstBy_28 : decode cX11_firstBy 28 = .ok (.isub, 1) := by decide +kernel
theorem dX11_firstBy_29 : decode cX11_firstBy 29 = .ok (.aload_n 0, 1) := by decide +kernel
theorem dX11_firstBy_30 : decode cX11_firstBy 30 = .ok (.getfield 33, 3) := by decide +kernel
theorem dX11_firstBy_33 : decode cX11_firstBy 33 = .ok (.bipush 29, 2) := by decide +kernel
theorem dX11_firstBy_35 : decode cX11_firstBy 35 = .ok (.iload_n 1, 1) := by decide +kernel
theorem dX11_firstBy_36 : decode cX11_firstBy 36 = .ok (.iadd, 1) := by decide +kernel
theorem dX11_firstBy_37 : decode cX11_firstBy 37 = .ok (.iaload, 1) := by decide +kernel
theorem dX11_firstBy_38 : decode cX11_firstBy 38 = .ok (.idiv, 1) := by decide +kernel
theorem dX11_firstBy_39 : decode cX11_firstBy 39 = .ok (.imul, 1) := by decide +kernel
theorem dX11_firstBy_40 : decode cX11_firstBy 40 = .ok (.iadd, 1) := by decide +kernel
theorem dX11_firstBy_41 : decode cX11_firstBy 41 = .ok (.ireturn, 1) := by decide +kernel
theorem dX11_dated_0 : decode cX11_dated 0 = .ok (.iload_n 2, 1) := by decide +kernel
theorem dX11_dated_1 : decode cX11_dated 1 = .ok (.aload_n 0, 1) := by decide +kernel
theorem dX11_dated_2 : decode cX11_dated 2 = .ok (.iload_n 1, 1) := by decide +kernel
theorem dX11_dated_3 : decode cX11_dated 3 = .ok (.aload_n 0, 1) := by decide +kernel
theorem dX11_dated_4 : decode cX11_dated 4 = .ok (.iload_n 1, 1) := by decide +kernel
theorem dX11_dated_5 : decode cX11_dated 5 = .ok (.iload_n 2, 1) := by decide +kernel
theorem dX11_dated_6 : decode cX11_dated 6 = .ok (.invokevirtual 246, 3) := by decide +kernel
theorem dX11_dated_9 : decode cX11_dated 9 = .ok (.invokevirtual 249, 3) := by decide +kernel
theorem dX11_dated_12 : decode cX11_dated 12 = .ok (.isub, 1) := by decide +kernel
theorem dX11_dated_13 : decode cX11_dated 13 = .ok (.istore_n 3, 1) := by decide +kernel
theorem dX11_dated_14 : decode cX11_dated 14 = .ok (.aload_n 0, 1) := by decide +kernel
theorem dX11_dated_15 : decode cX11_dated 15 = .ok (.iload_n 1, 1) := by decide +kernel
theorem dX11_dated_16 : decode cX11_dated 16 = .ok (.invokevirtual 239, 3) := by decide +kernel
theorem dX11_dated_19 : decode cX11_dated 19 = .ok (.istore 4, 2) := by decide +kernel
theorem dX11_dated_21 : decode cX11_dated 21 = .ok (.iload_n 3, 1) := by decide +kernel
theorem dX11_dated_22 : decode cX11_dated 22 = .ok (.iload 4, 2) := by decide +kernel
theorem dX11_dated_24 : decode cX11_dated 24 = .ok (.if_icmp .ge 32, 3) := by decide +kernel
theorem dX11_dated_27 : decode cX11_dated 27 = .ok (.bipush 32, 2) := by decide +kernel
theorem dX11_dated_29 : decode cX11_dated 29 = .ok (.iload_n 3, 1) := by decide +kernel
theorem dX11_dated_30 : decode cX11_dated 30 = .ok (.aload_n 0, 1) := by decide +kernel
theorem dX11_dated_31 : decode cX11_dated 31 = .ok (.getfield 33, 3) := by decide +kernel
theorem dX11_dated_34 : decode cX11_dated 34 = .ok (.bipush 9, 2) := by decide +kernel
theorem dX11_dated_36 : decode cX11_dated 36 = .ok (.iload_n 1, 1) := by decide +kernel
theorem dX11_dated_37 : decode cX11_dated 37 = .ok (.iadd, 1) := by decide +kernel
theorem dX11_dated_38 : decode cX11_dated 38 = .ok (.iaload, 1) := by decide +kernel
theorem dX11_dated_39 : decode cX11_dated 39 = .ok (.idiv, 1) := by decide +kernel
theorem dX11_dated_40 : decode cX11_dated 40 = .ok (.imul, 1) := by decide +kernel
theorem dX11_dated_41 : decode cX11_dated 41 = .ok (.iload_n 3, 1) := by decide +kernel
theorem dX11_dated_42 : decode cX11_dated 42 = .ok (.aload_n 0, 1) := by decide +kernel
theorem dX11_dated_43 : decode cX11_dated 43 = .ok (.getfield 33, 3) := by decide +kernel
theorem dX11_dated_46 : decode cX11_dated 46 = .ok (.bipush 9, 2) := by decide +kernel
theorem dX11_dated_48 : decode cX11_dated 48 = .ok (.iload_n 1, 1) := by decide +kernel
theorem dX11_dated_49 : decode cX11_dated 49 = .ok (.iadd, 1) := by decide +kernel
theorem dX11_dated_50 : decode cX11_dated 50 = .ok (.iaload, 1) := by decide +kernel
theorem dX11_dated_51 : decode cX11_dated 51 = .ok (.irem, 1) := by decide +kernel
theorem dX11_dated_52 : decode cX11_dated 52 = .ok (.iadd, 1) := by decide +kernel
theorem dX11_dated_53 : decode cX11_dated 53 = .ok (.goto 19, 3) := by decide +kernel
theorem dX11_dated_56 : decode cX11_dated 56 = .ok (.bipush 32, 2) := by decide +kernel
theorem dX11_dated_58 : decode cX11_dated 58 = .ok (.aload_n 0, 1) := by decide +kernel
theorem dX11_dated_59 : decode cX11_dated 59 = .ok (.getfield 33, 3) := by decide +kernel
theorem dX11_dated_62 : decode cX11_dated 62 = .ok (.iconst 4, 1) := by decide +kernel
theorem dX11_dated_63 : decode cX11_dated 63 = .ok (.iload_n 1, 1) := by decide +kernel
theorem dX11_dated_64 : decode cX11_dated 64 = .ok (.iadd, 1) := by decide +kernel
theorem dX11_dated_65 : decode cX11_dated 65 = .ok (.iaload, 1) := by decide +kernel
theorem dX11_dated_66 : decode cX11_dated 66 = .ok (.imul, 1) := by decide +kernel
theorem dX11_dated_67 : decode cX11_dated 67 = .ok (.iload_n 3, 1) := by decide +kernel
theorem dX11_dated_68 : decode cX11_dated 68 = .ok (.iadd, 1) := by decide +kernel
theorem dX11_dated_69 : decode cX11_dated 69 = .ok (.iload 4, 2) := by decide +kernel
theorem dX11_dated_71 : decode cX11_dated 71 = .ok (.isub, 1) := by decide +kernel
theorem dX11_dated_72 : decode cX11_dated 72 = .ok (.ireturn, 1) := by decide +kernel
theorem dX11_today_0 : decode cX11_today 0 = .ok (.aload_n 0, 1) := by decide +kernel
theorem dX11_today_1 : decode cX11_today 1 = .ok (.iload_n 1, 1) := by decide +kernel
theorem dX11_today_2 : decode cX11_today 2 = .ok (.aload_n 0, 1) := by decide +kernel
theorem dX11_today_3 : decode cX11_today 3 = .ok (.getfield 33, 3) := by decide +kernel
theorem dX11_today_6 : decode cX11_today 6 = .ok (.bipush 54, 2) := by decide +kernel
theorem dX11_today_8 : decode cX11_today 8 = .ok (.iload_n 1, 1) := by decide +kernel
theorem dX11_today_9 : decode cX11_today 9 = .ok (.iadd, 1) := by decide +kernel
theorem dX11_today_10 : decode cX11_today 10 = .ok (.iaload, 1) := by decide +kernel
theorem dX11_today_11 : decode cX11_today 11 = .ok (.invokevirtual 252, 3) := by decide +kernel
theorem dX11_today_14 : decode cX11_today 14 = .ok (.ireturn, 1) := by decide +kernel
theorem dX11_ahead_0 : decode cX11_ahead 0 = .ok (.aload_n 0, 1) := by decide +kernel
theorem dX11_ahead_1 : decode cX11_ahead 1 = .ok (.getfield 33, 3) := by decide +kernel
theorem dX11_ahead_4 : decode cX11_ahead 4 = .ok (.bipush 54, 2) := by decide +kernel
theorem dX11_ahead_6 : decode cX11_ahead 6 = .ok (.iload_n 1, 1) := by decide +kernel
theorem dX11_ahead_7 : decode cX11_ahead 7 = .ok (.iadd, 1) := by decide +kernel
theorem dX11_ahead_8 : decode cX11_ahead 8 = .ok (.iaload, 1) := by decide +kernel
theorem dX11_ahead_9 : decode cX11_ahead 9 = .ok (.iload_n 2, 1) := by decide +kernel
theorem dX11_ahead_10 : decode cX11_ahead 10 = .ok (.iadd, 1) := by decide +kernel
theorem dX11_ahead_11 : decode cX11_ahead 11 = .ok (.iload_n 2, 1) := by decide +kernel
theorem dX11_ahead_12 : decode cX11_ahead 12 = .ok (.ifCond .le 15, 3) := by decide +kernel
theorem dX11_ahead_15 : decode cX11_ahead 15 = .ok (.aload_n 0, 1) := by decide +kernel
theorem dX11_ahead_16 : decode cX11_ahead 16 = .ok (.iload_n 1, 1) := by decide +kernel
theorem dX11_ahead_17 : decode cX11_ahead 17 = .ok (.invokevirtual 255, 3) := by decide +kernel
theorem dX11_ahead_20 : decode cX11_ahead 20 = .ok (.ifCond .eq 7, 3) := by decide +kernel
theorem dX11_ahead_23 : decode cX11_ahead 23 = .ok (.iconst 1, 1) := by decide +kernel
theorem dX11_ahead_24 : decode cX11_ahead 24 = .ok (.goto 4, 3) := by decide +kernel
theorem dX11_ahead_27 : decode cX11_ahead 27 = .ok (.iconst 0, 1) := by decide +kernel
theorem dX11_ahead_28 : decode cX11_ahead 28 = .ok (.isub, 1) := by decide +kernel
theorem dX11_ahead_29 : decode cX11_ahead 29 = .ok (.ireturn, 1) := by decide +kernel
theorem dX11_datedIn_0 : decode cX11_datedIn 0 = .ok (.aload_n 0, 1) := by decide +kernel
theorem dX11_datedIn_1 : decode cX11_datedIn 1 = .ok (.iload_n 1, 1) := by decide +kernel
theorem dX11_datedIn_2 : decode cX11_datedIn 2 = .ok (.aload_n 0, 1) := by decide +kernel
theorem dX11_datedIn_3 : decode cX11_datedIn 3 = .ok (.iload_n 1, 1) := by decide +kernel
theorem dX11_datedIn_4 : decode cX11_datedIn 4 = .ok (.iload_n 2, 1) := by decide +kernel
theorem dX11_datedIn_5 : decode cX11_datedIn 5 = .ok (.invokevirtual 258, 3) := by decide +kernel
theorem dX11_datedIn_8 : decode cX11_datedIn 8 = .ok (.invokevirtual 252, 3) := by decide +kernel
theorem dX11_datedIn_11 : decode cX11_datedIn 11 = .ok (.ireturn, 1) := by decide +kernel
theorem dX11_fallsIn_0 : decode cX11_fallsIn 0 = .ok (.aload_n 0, 1) := by decide +kernel
theorem dX11_fallsIn_1 : decode cX11_fallsIn 1 = .ok (.aload_n 0, 1) := by decide +kernel
theorem dX11_fallsIn_2 : decode cX11_fallsIn 2 = .ok (.getfield 33, 3) := by decide +kernel
theorem dX11_fallsIn_5 : decode cX11_fallsIn 5 = .ok (.bipush 34, 2) := by decide +kernel
theorem dX11_fallsIn_7 : decode cX11_fallsIn 7 = .ok (.iload_n 1, 1) := by decide +kernel
theorem dX11_fallsIn_8 : decode cX11_fallsIn 8 = .ok (.iadd, 1) := by decide +kernel
theorem dX11_fallsIn_9 : decode cX11_fallsIn 9 = .ok (.iaload, 1) := by decide +kernel
theorem dX11_fallsIn_10 : decode cX11_fallsIn 10 = .ok (.iload_n 2, 1) := by decide +kernel
theorem dX11_fallsIn_11 : decode cX11_fallsIn 11 = .ok (.invokevirtual 261, 3) := by decide +kernel
theorem dX11_fallsIn_14 : decode cX11_fallsIn 14 = .ok (.bipush 32, 2) := by decide +kernel
theorem dX11_fallsIn_16 : decode cX11_fallsIn 16 = .ok (.aload_n 0, 1) := by decide +kernel
theorem dX11_fallsIn_17 : decode cX11_fallsIn 17 = .ok (.getfield 33, 3) := by decide +kernel
theorem dX11_fallsIn_20 : decode cX11_fallsIn 20 = .ok (.bipush 40, 2) := by decide +kernel
theorem dX11_fallsIn_22 : decode cX11_fallsIn 22 = .ok (.iload_n 1, 1) := by decide +kernel
theorem dX11_fallsIn_23 : decode cX11_fallsIn 23 = .ok (.iadd, 1) := by decide +kernel
theorem dX11_fallsIn_24 : decode cX11_fallsIn 24 = .ok (.iaload, 1) := by decide +kernel
theorem dX11_fallsIn_25 : decode cX11_fallsIn 25 = .ok (.imul, 1) := by decide +kernel
theorem dX11_fallsIn_26 : decode cX11_fallsIn 26 = .ok (.aload_n 0, 1) := by decide +kernel
theorem dX11_fallsIn_27 : decode cX11_fallsIn 27 = .ok (.getfield 33, 3) := by decide +kernel
theorem dX11_fallsIn_30 : decode cX11_fallsIn 30 = .ok (.bipush 46, 2) := by decide +kernel
theorem dX11_fallsIn_32 : decode cX11_fallsIn 32 = .ok (.iload_n 1, 1) := by decide +kernel
theorem dX11_fallsIn_33 : decode cX11_fallsIn 33 = .ok (.iadd, 1) := by decide +kernel
theorem dX11_fallsIn_34 : decode cX11_fallsIn 34 = .ok (.iaload, 1) := by decide +kernel
theorem dX11_fallsIn_35 : decode cX11_fallsIn 35 = .ok (.iadd, 1) := by decide +kernel
theorem dX11_fallsIn_36 : decode cX11_fallsIn 36 = .ok (.if_icmp .ne 7, 3) := by decide +kernel
theorem dX11_fallsIn_39 : decode cX11_fallsIn 39 = .ok (.iconst 1, 1) := by decide +kernel
theorem dX11_fallsIn_40 : decode cX11_fallsIn 40 = .ok (.goto 4, 3) := by decide +kernel
theorem dX11_fallsIn_43 : decode cX11_fallsIn 43 = .ok (.iconst 0, 1) := by decide +kernel
theorem dX11_fallsIn_44 : decode cX11_fallsIn 44 = .ok (.ireturn, 1) := by decide +kernel
theorem dX11_isBetween_0 : decode cX11_isBetween 0 = .ok (.aload_n 0, 1) := by decide +kernel
theorem dX11_isBetween_1 : decode cX11_isBetween 1 = .ok (.iload_n 1, 1) := by decide +kernel
theorem dX11_isBetween_2 : decode cX11_isBetween 2 = .ok (.invokevirtual 264, 3) := by decide +kernel
theorem dX11_isBetween_5 : decode cX11_isBetween 5 = .ok (.bipush 32, 2) := by decide +kernel
theorem dX11_isBetween_7 : decode cX11_isBetween 7 = .ok (.idiv, 1) := by decide +kernel
theorem dX11_isBetween_8 : decode cX11_isBetween 8 = .ok (.aload_n 0, 1) := by decide +kernel
theorem dX11_isBetween_9 : decode cX11_isBetween 9 = .ok (.getfield 33, 3) := by decide +kernel
theorem dX11_isBetween_12 : decode cX11_isBetween 12 = .ok (.iconst 4, 1) := by decide +kernel
theorem dX11_isBetween_13 : decode cX11_isBetween 13 = .ok (.iload_n 1, 1) := by decide +kernel
theorem dX11_isBetween_14 : decode cX11_isBetween 14 = .ok (.iadd, 1) := by decide +kernel
theorem dX11_isBetween_15 : decode cX11_isBetween 15 = .ok (.iaload, 1) := by decide +kernel
theorem dX11_isBetween_16 : decode cX11_isBetween 16 = .ok (.if_icmp .ne 7, 3) := by decide +kernel
theorem dX11_isBetween_19 : decode cX11_isBetween 19 = .ok (.iconst 1, 1) := by decide +kernel
theorem dX11_isBetween_20 : decode cX11_isBetween 20 = .ok (.goto 4, 3) := by decide +kernel
theorem dX11_isBetween_23 : decode cX11_isBetween 23 = .ok (.iconst 0, 1) := by decide +kernel
theorem dX11_isBetween_24 : decode cX11_isBetween 24 = .ok (.ireturn, 1) := by decide +kernel
theorem dX11_weekday_0 : decode cX11_weekday 0 = .ok (.aload_n 0, 1) := by decide +kernel
theorem dX11_weekday_1 : decode cX11_weekday 1 = .ok (.getfield 33, 3) := by decide +kernel
theorem dX11_weekday_4 : decode cX11_weekday 4 = .ok (.bipush 54, 2) := by decide +kernel
theorem dX11_weekday_6 : decode cX11_weekday 6 = .ok (.iload_n 1, 1) := by decide +kernel
theorem dX11_weekday_7 : decode cX11_weekday 7 = .ok (.iadd, 1) := by decide +kernel
theorem dX11_weekday_8 : decode cX11_weekday 8 = .ok (.iaload, 1) := by decide +kernel
theorem dX11_weekday_9 : decode cX11_weekday 9 = .ok (.aload_n 0, 1) := by decide +kernel
theorem dX11_weekday_10 : decode cX11_weekday 10 = .ok (.getfield 33, 3) := by decide +kernel
theorem dX11_weekday_13 : decode cX11_weekday 13 = .ok (.bipush 14, 2) := by decide +kernel
theorem dX11_weekday_15 : decode cX11_weekday 15 = .ok (.iload_n 1, 1) := by decide +kernel
theorem dX11_weekday_16 : decode cX11_weekday 16 = .ok (.iadd, 1) := by decide +kernel
theorem dX11_weekday_17 : decode cX11_weekday 17 = .ok (.iaload, 1) := by decide +kernel
theorem dX11_weekday_18 : decode cX11_weekday 18 = .ok (.irem, 1) := by decide +kernel
theorem dX11_weekday_19 : decode cX11_weekday 19 = .ok (.ireturn, 1) := by decide +kernel
theorem dX11_sumOf_0 : decode cX11_sumOf 0 = .ok (.iconst 0, 1) := by decide +kernel
theorem dX11_sumOf_1 : decode cX11_sumOf 1 = .ok (.istore_n 2, 1) := by decide +kernel
theorem dX11_sumOf_2 : decode cX11_sumOf 2 = .ok (.iconst 0, 1) := by decide +kernel
theorem dX11_sumOf_3 : decode cX11_sumOf 3 = .ok (.istore_n 3, 1) := by decide +kernel
theorem dX11_sumOf_4 : decode cX11_sumOf 4 = .ok (.iload_n 3, 1) := by decide +kernel
theorem dX11_sumOf_5 : decode cX11_sumOf 5 = .ok (.aload_n 0, 1) := by decide +kernel
theorem dX11_sumOf_6 : decode cX11_sumOf 6 = .ok (.getfield 33, 3) := by decide +kernel
theorem dX11_sumOf_9 : decode cX11_sumOf 9 = .ok (.iconst 0, 1) := by decide +kernel
theorem dX11_sumOf_10 : decode cX11_sumOf 10 = .ok (.iaload, 1) := by decide +kernel
theorem dX11_sumOf_11 : decode cX11_sumOf 11 = .ok (.if_icmp .ge 20, 3) := by decide +kernel
theorem dX11_sumOf_14 : decode cX11_sumOf 14 = .ok (.iload_n 2, 1) := by decide +kernel
theorem dX11_sumOf_15 : decode cX11_sumOf 15 = .ok (.aload_n 0, 1) := by decide +kernel
theorem dX11_sumOf_16 : decode cX11_sumOf 16 = .ok (.getfield 33, 3) := by decide +kernel
theorem dX11_sumOf_19 : decode cX11_sumOf 19 = .ok (.iload_n 1, 1) := by decide +kernel
theorem dX11_sumOf_20 : decode cX11_sumOf 20 = .ok (.iload_n 3, 1) := by decide +kernel
theorem dX11_sumOf_21 : decode cX11_sumOf 21 = .ok (.iadd, 1) := by decide +kernel
theorem dX11_sumOf_22 : decode cX11_sumOf 22 = .ok (.iaload, 1) := by decide +kernel
theorem dX11_sumOf_23 : decode cX11_sumOf 23 = .ok (.iadd, 1) := by decide +kernel
theorem dX11_sumOf_24 : decode cX11_sumOf 24 = .ok (.istore_n 2, 1) := by decide +kernel
theorem dX11_sumOf_25 : decode cX11_sumOf 25 = .ok (.iinc 3 1, 3) := by decide +kernel
theorem dX11_sumOf_28 : decode cX11_sumOf 28 = .ok (.goto (-24), 3) := by decide +kernel
theorem dX11_sumOf_31 : decode cX11_sumOf 31 = .ok (.iload_n 2, 1) := by decide +kernel
theorem dX11_sumOf_32 : decode cX11_sumOf 32 = .ok (.ireturn, 1) := by decide +kernel
theorem dX11_parish_0 : decode cX11_parish 0 = .ok (.aload_n 0, 1) := by decide +kernel
theorem dX11_parish_1 : decode cX11_parish 1 = .ok (.aload_n 0, 1) := by decide +kernel
theorem dX11_parish_2 : decode cX11_parish 2 = .ok (.iload_n 1, 1) := by decide +kernel
theorem dX11_parish_3 : decode cX11_parish 3 = .ok (.invokevirtual 267, 3) := by decide +kernel
theorem dX11_parish_6 : decode cX11_parish 6 = .ok (.ifCond .eq 13, 3) := by decide +kernel
theorem dX11_parish_9 : decode cX11_parish 9 = .ok (.iload_n 2, 1) := by decide +kernel
theorem dX11_parish_10 : decode cX11_parish 10 = .ok (.iconst 0, 1) := by decide +kernel
theorem dX11_parish_11 : decode cX11_parish 11 = .ok (.bipush 8, 2) := by decide +kernel
theorem dX11_parish_13 : decode cX11_parish 13 = .ok (.invokestatic 173, 3) := by decide +kernel
theorem dX11_parish_16 : decode cX11_parish 16 = .ok (.ifCond .ne 7, 3) := by decide +kernel
theorem dX11_parish_19 : decode cX11_parish 19 = .ok (.iconst 1, 1) := by decide +kernel
theorem dX11_parish_20 : decode cX11_parish 20 = .ok (.goto 4, 3) := by decide +kernel
theorem dX11_parish_23 : decode cX11_parish 23 = .ok (.iconst 0, 1) := by decide +kernel
theorem dX11_parish_24 : decode cX11_parish 24 = .ok (.invokevirtual 270, 3) := by decide +kernel
theorem dX11_parish_27 : decode cX11_parish 27 = .ok (.ifCond .eq 5, 3) := by decide +kernel
theorem dX11_parish_30 : decode cX11_parish 30 = .ok (.iconst 0, 1) := by decide +kernel
theorem dX11_parish_31 : decode cX11_parish 31 = .ok (.ireturn, 1) := by decide +kernel
theorem dX11_parish_32 : decode cX11_parish 32 = .ok (.iload_n 2, 1) := by decide +kernel
theorem dX11_parish_33 : decode cX11_parish 33 = .ok (.tableswitch 128 0 7 #[47, 56, 66, 76, 86, 96, 106, 118], 47) := by decide +kernel
theorem dX11_parish_80 : decode cX11_parish 80 = .ok (.aload_n 0, 1) := by decide +kernel
theorem dX11_parish_81 : decode cX11_parish 81 = .ok (.getfield 33, 3) := by decide +kernel
theorem dX11_parish_84 : decode cX11_parish 84 = .ok (.iconst 4, 1) := by decide +kernel
theorem dX11_parish_85 : decode cX11_parish 85 = .ok (.iload_n 1, 1) := by decide +kernel
theorem dX11_parish_86 : decode cX11_parish 86 = .ok (.iadd, 1) := by decide +kernel
theorem dX11_parish_87 : decode cX11_parish 87 = .ok (.iaload, 1) := by decide +kernel
theorem dX11_parish_88 : decode cX11_parish 88 = .ok (.ireturn, 1) := by decide +kernel
theorem dX11_parish_89 : decode cX11_parish 89 = .ok (.aload_n 0, 1) := by decide +kernel
theorem dX11_parish_90 : decode cX11_parish 90 = .ok (.getfield 33, 3) := by decide +kernel
theorem dX11_parish_93 : decode cX11_parish 93 = .ok (.bipush 9, 2) := by decide +kernel
theorem dX11_parish_95 : decode cX11_parish 95 = .ok (.iload_n 1, 1) := by decide +kernel
theorem dX11_parish_96 : decode cX11_parish 96 = .ok (.iadd, 1) := by decide +kernel
theorem dX11_parish_97 : decode cX11_parish 97 = .ok (.iaload, 1) := by decide +kernel
theorem dX11_parish_98 : decode cX11_parish 98 = .ok (.ireturn, 1) := by decide +kernel
theorem dX11_parish_99 : decode cX11_parish 99 = .ok (.aload_n 0, 1) := by decide +kernel
theorem dX11_parish_100 : decode cX11_parish 100 = .ok (.getfield 33, 3) := by decide +kernel
theorem dX11_parish_103 : decode cX11_parish 103 = .ok (.bipush 14, 2) := by decide +kernel
theorem dX11_parish_105 : decode cX11_parish 105 = .ok (.iload_n 1, 1) := by decide +kernel
theorem dX11_parish_106 : decode cX11_parish 106 = .ok (.iadd, 1) := by decide +kernel
theorem dX11_parish_107 : decode cX11_parish 107 = .ok (.iaload, 1) := by decide +kernel
theorem dX11_parish_108 : decode cX11_parish 108 = .ok (.ireturn, 1) := by decide +kernel
theorem dX11_parish_109 : decode cX11_parish 109 = .ok (.aload_n 0, 1) := by decide +kernel
theorem dX11_parish_110 : decode cX11_parish 110 = .ok (.getfield 33, 3) := by decide +kernel
theorem dX11_parish_113 : decode cX11_parish 113 = .ok (.bipush 24, 2) := by decide +kernel
theorem dX11_parish_115 : decode cX11_parish 115 = .ok (.iload_n 1, 1) := by decide +kernel
theorem dX11_parish_116 : decode cX11_parish 116 = .ok (.iadd, 1) := by decide +kernel
theorem dX11_parish_117 : decode cX11_parish 117 = .ok (.iaload, 1) := by decide +kernel
theorem dX11_parish_118 : decode cX11_parish 118 = .ok (.ireturn, 1) := by decide +kernel
theorem dX11_parish_119 : decode cX11_parish 119 = .ok (.aload_n 0, 1) := by decide +kernel
theorem dX11_parish_120 : decode cX11_parish 120 = .ok (.getfield 33, 3) := by decide +kernel
theorem dX11_parish_123 : decode cX11_parish 123 = .ok (.bipush 29, 2) := by decide +kernel
theorem dX11_parish_125 : decode cX11_parish 125 = .ok (.iload_n 1, 1) := by decide +kernel
theorem dX11_parish_126 : decode cX11_parish 126 = .ok (.iadd, 1) := by decide +kernel
theorem dX11_parish_127 : decode cX11_parish 127 = .ok (.iaload, 1) := by decide +kernel
theorem dX11_parish_128 : decode cX11_parish 128 = .ok (.ireturn, 1) := by decide +kernel
theorem dX11_parish_129 : decode cX11_parish 129 = .ok (.aload_n 0, 1) := by decide +kernel
theorem dX11_parish_130 : decode cX11_parish 130 = .ok (.getfield 33, 3) := by decide +kernel
theorem dX11_parish_133 : decode cX11_parish 133 = .ok (.bipush 54, 2) := by decide +kernel
theorem dX11_parish_135 : decode cX11_parish 135 = .ok (.iload_n 1, 1) := by decide +kernel
theorem dX11_parish_136 : decode cX11_parish 136 = .ok (.iadd, 1) := by decide +kernel
theorem dX11_parish_137 : decode cX11_parish 137 = .ok (.iaload, 1) := by decide +kernel
theorem dX11_parish_138 : decode cX11_parish 138 = .ok (.ireturn, 1) := by decide +kernel
theorem dX11_parish_139 : decode cX11_parish 139 = .ok (.aload_n 0, 1) := by decide +kernel
theorem dX11_parish_140 : decode cX11_parish 140 = .ok (.getfield 33, 3) := by decide +kernel
theorem dX11_parish_143 : decode cX11_parish 143 = .ok (.bipush 53, 2) := by decide +kernel
theorem dX11_parish_145 : decode cX11_parish 145 = .ok (.iaload, 1) := by decide +kernel
theorem dX11_parish_146 : decode cX11_parish 146 = .ok (.iload_n 1, 1) := by decide +kernel
theorem dX11_parish_147 : decode cX11_parish 147 = .ok (.ishr, 1) := by decide +kernel
theorem dX11_parish_148 : decode cX11_parish 148 = .ok (.iconst 1, 1) := by decide +kernel
theorem dX11_parish_149 : decode cX11_parish 149 = .ok (.iand, 1) := by decide +kernel
theorem dX11_parish_150 : decode cX11_parish 150 = .ok (.ireturn, 1) := by decide +kernel
theorem dX11_parish_151 : decode cX11_parish 151 = .ok (.aload_n 0, 1) := by decide +kernel
theorem dX11_parish_152 : decode cX11_parish 152 = .ok (.getfield 33, 3) := by decide +kernel
theorem dX11_parish_155 : decode cX11_parish 155 = .ok (.bipush 59, 2) := by decide +kernel
theorem dX11_parish_157 : decode cX11_parish 157 = .ok (.iload_n 1, 1) := by decide +kernel
theorem dX11_parish_158 : decode cX11_parish 158 = .ok (.iadd, 1) := by decide +kernel
theorem dX11_parish_159 : decode cX11_parish 159 = .ok (.iaload, 1) := by decide +kernel
theorem dX11_parish_160 : decode cX11_parish 160 = .ok (.ireturn, 1) := by decide +kernel
theorem dX11_parish_161 : decode cX11_parish 161 = .ok (.aload_n 0, 1) := by decide +kernel
theorem dX11_parish_162 : decode cX11_parish 162 = .ok (.getfield 33, 3) := by decide +kernel
theorem dX11_parish_165 : decode cX11_parish 165 = .ok (.bipush 64, 2) := by decide +kernel
theorem dX11_parish_167 : decode cX11_parish 167 = .ok (.iload_n 1, 1) := by decide +kernel
theorem dX11_parish_168 : decode cX11_parish 168 = .ok (.iadd, 1) := by decide +kernel
theorem dX11_parish_169 : decode cX11_parish 169 = .ok (.iaload, 1) := by decide +kernel
theorem dX11_parish_170 : decode cX11_parish 170 = .ok (.ireturn, 1) := by decide +kernel
theorem dX11_at_0 : decode cX11_at 0 = .ok (.aload_n 0, 1) := by decide +kernel
theorem dX11_at_1 : decode cX11_at 1 = .ok (.iconst 0, 1) := by decide +kernel
theorem dX11_at_2 : decode cX11_at 2 = .ok (.putfield 1, 3) := by decide +kernel
theorem dX11_at_5 : decode cX11_at 5 = .ok (.aload_n 0, 1) := by decide +kernel
theorem dX11_at_6 : decode cX11_at 6 = .ok (.iload_n 1, 1) := by decide +kernel
theorem dX11_at_7 : decode cX11_at 7 = .ok (.invokevirtual 267, 3) := by decide +kernel
theorem dX11_at_10 : decode cX11_at 10 = .ok (.ifCond .eq 30, 3) := by decide +kernel
theorem dX11_at_13 : decode cX11_at 13 = .ok (.iload_n 2, 1) := by decide +kernel
theorem dX11_at_14 : decode cX11_at 14 = .ok (.sipush (-9999), 3) := by decide +kernel
theorem dX11_at_17 : decode cX11_at 17 = .ok (.ldc_w 274, 3) := by decide +kernel
theorem dX11_at_20 : decode cX11_at 20 = .ok (.invokestatic 173, 3) := by decide +kernel
theorem dX11_at_23 : decode cX11_at 23 = .ok (.ifCond .eq 17, 3) := by decide +kernel
theorem dX11_at_26 : decode cX11_at 26 = .ok (.aload_n 0, 1) := by decide +kernel
theorem dX11_at_27 : decode cX11_at 27 = .ok (.getfield 33, 3) := by decide +kernel
theorem dX11_at_30 : decode cX11_at 30 = .ok (.bipush 54, 2) := by decide +kernel
theorem dX11_at_32 : decode cX11_at 32 = .ok (.iload_n 1, 1) := by decide +kernel
theorem dX11_at_33 : decode cX11_at 33 = .ok (.iadd, 1) := by decide +kernel
theorem dX11_at_34 : decode cX11_at 34 = .ok (.iaload, 1) := by decide +kernel
theorem dX11_at_35 : decode cX11_at 35 = .ok (.iload_n 2, 1) := by decide +kernel
theorem dX11_at_36 : decode cX11_at 36 = .ok (.iadd, 1) := by decide +kernel
theorem dX11_at_37 : decode cX11_at 37 = .ok (.ifCond .ge 5, 3) := by decide +kernel
theorem dX11_at_40 : decode cX11_at 40 = .ok (.iconst (-1), 1) := by decide +kernel
theorem dX11_at_41 : decode cX11_at 41 = .ok (.ireturn, 1) := by decide +kernel
theorem dX11_at_42 : decode cX11_at 42 = .ok (.aload_n 0, 1) := by decide +kernel
theorem dX11_at_43 : decode cX11_at 43 = .ok (.getfield 33, 3) := by decide +kernel
theorem dX11_at_46 : decode cX11_at 46 = .ok (.bipush 54, 2) := by decide +kernel
theorem dX11_at_48 : decode cX11_at 48 = .ok (.iload_n 1, 1) := by decide +kernel
theorem dX11_at_49 : decode cX11_at 49 = .ok (.iadd, 1) := by decide +kernel
theorem dX11_at_50 : decode cX11_at 50 = .ok (.iaload, 1) := by decide +kernel
theorem dX11_at_51 : decode cX11_at 51 = .ok (.iload_n 2, 1) := by decide +kernel
theorem dX11_at_52 : decode cX11_at 52 = .ok (.iadd, 1) := by decide +kernel
theorem dX11_at_53 : decode cX11_at 53 = .ok (.istore 4, 2) := by decide +kernel
theorem dX11_at_55 : decode cX11_at 55 = .ok (.iload_n 3, 1) := by decide +kernel
theorem dX11_at_56 : decode cX11_at 56 = .ok (.tableswitch 75 0 3 #[32, 40, 51, 62], 32) := by decide +kernel
theorem dX11_at_88 : decode cX11_at 88 = .ok (.aload_n 0, 1) := by decide +kernel
theorem dX11_at_89 : decode cX11_at 89 = .ok (.iload_n 1, 1) := by decide +kernel
theorem dX11_at_90 : decode cX11_at 90 = .ok (.iload 4, 2) := by decide +kernel
theorem dX11_at_92 : decode cX11_at 92 = .ok (.invokevirtual 246, 3) := by decide +kernel
theorem dX11_at_95 : decode cX11_at 95 = .ok (.ireturn, 1) := by decide +kernel
theorem dX11_at_96 : decode cX11_at 96 = .ok (.aload_n 0, 1) := by decide +kernel
theorem dX11_at_97 : decode cX11_at 97 = .ok (.iload_n 1, 1) := by decide +kernel
theorem dX11_at_98 : decode cX11_at 98 = .ok (.iload 4, 2) := by decide +kernel
theorem dX11_at_100 : decode cX11_at 100 = .ok (.invokevirtual 252, 3) := by decide +kernel
theorem dX11_at_103 : decode cX11_at 103 = .ok (.bipush 32, 2) := by decide +kernel
theorem dX11_at_105 : decode cX11_at 105 = .ok (.idiv, 1) := by decide +kernel
theorem dX11_at_106 : decode cX11_at 106 = .ok (.ireturn, 1) := by decide +kernel
theorem dX11_at_107 : decode cX11_at 107 = .ok (.aload_n 0, 1) := by decide +kernel
theorem dX11_at_108 : decode cX11_at 108 = .ok (.iload_n 1, 1) := by decide +kernel
theorem dX11_at_109 : decode cX11_at 109 = .ok (.iload 4, 2) := by decide +kernel
theorem dX11_at_111 : decode cX11_at 111 = .ok (.invokevirtual 252, 3) := by decide +kernel
theorem dX11_at_114 : decode cX11_at 114 = .ok (.bipush 32, 2) := by decide +kernel
theorem dX11_at_116 : decode cX11_at 116 = .ok (.irem, 1) := by decide +kernel
theorem dX11_at_117 : decode cX11_at 117 = .ok (.ireturn, 1) := by decide +kernel
theorem dX11_at_118 : decode cX11_at 118 = .ok (.iload 4, 2) := by decide +kernel
theorem dX11_at_120 : decode cX11_at 120 = .ok (.aload_n 0, 1) := by decide +kernel
theorem dX11_at_121 : decode cX11_at 121 = .ok (.getfield 33, 3) := by decide +kernel
theorem dX11_at_124 : decode cX11_at 124 = .ok (.bipush 14, 2) := by decide +kernel
theorem dX11_at_126 : decode cX11_at 126 = .ok (.iload_n 1, 1) := by decide +kernel
theorem dX11_at_127 : decode cX11_at 127 = .ok (.iadd, 1) := by decide +kernel
theorem dX11_at_128 : decode cX11_at 128 = .ok (.iaload, 1) := by decide +kernel
theorem dX11_at_129 : decode cX11_at 129 = .ok (.irem, 1) := by decide +kernel
theorem dX11_at_130 : decode cX11_at 130 = .ok (.ireturn, 1) := by decide +kernel
theorem dX11_at_131 : decode cX11_at 131 = .ok (.iconst (-1), 1) := by decide +kernel
theorem dX11_at_132 : decode cX11_at 132 = .ok (.ireturn, 1) := by decide +kernel
theorem dX11_counted_0 : decode cX11_counted 0 = .ok (.aload_n 0, 1) := by decide +kernel
theorem dX11_counted_1 : decode cX11_counted 1 = .ok (.iload_n 1, 1) := by decide +kernel
theorem dX11_counted_2 : decode cX11_counted 2 = .ok (.invokevirtual 267, 3) := by decide +kernel
theorem dX11_counted_5 : decode cX11_counted 5 = .ok (.ifCond .eq 35, 3) := by decide +kernel
theorem dX11_counted_8 : decode cX11_counted 8 = .ok (.iload_n 2, 1) := by decide +kernel
theorem dX11_counted_9 : decode cX11_counted 9 = .ok (.iconst 0, 1) := by decide +kernel
theorem dX11_counted_10 : decode cX11_counted 10 = .ok (.sipush 999, 3) := by decide +kernel
theorem dX11_counted_13 : decode cX11_counted 13 = .ok (.invokestatic 173, 3) := by decide +kernel
theorem dX11_counted_16 : decode cX11_counted 16 = .ok (.ifCond .eq 24, 3) := by decide +kernel
theorem dX11_counted_19 : decode cX11_counted 19 = .ok (.iload_n 3, 1) := by decide +kernel
theorem dX11_counted_20 : decode cX11_counted 20 = .ok (.iconst 0, 1) := by decide +kernel
theorem dX11_counted_21 : decode cX11_counted 21 = .ok (.aload_n 0, 1) := by decide +kernel
theorem dX11_counted_22 : decode cX11_counted 22 = .ok (.getfield 33, 3) := by decide +kernel
theorem dX11_counted_25 : decode cX11_counted 25 = .ok (.iconst 4, 1) := by decide +kernel
theorem dX11_counted_26 : decode cX11_counted 26 = .ok (.iload_n 1, 1) := by decide +kernel
theorem dX11_counted_27 : decode cX11_counted 27 = .ok (.iadd, 1) := by decide +kernel
theorem dX11_counted_28 : decode cX11_counted 28 = .ok (.iaload, 1) := by decide +kernel
theorem dX11_counted_29 : decode cX11_counted 29 = .ok (.invokestatic 173, 3) := by decide +kernel
theorem dX11_counted_32 : decode cX11_counted 32 = .ok (.ifCond .eq 8, 3) := by decide +kernel
theorem dX11_counted_35 : decode cX11_counted 35 = .ok (.iload 4, 2) := by decide +kernel
theorem dX11_counted_37 : decode cX11_counted 37 = .ok (.ifCond .ge 5, 3) := by decide +kernel
theorem dX11_counted_40 : decode cX11_counted 40 = .ok (.iconst (-1), 1) := by decide +kernel
theorem dX11_counted_41 : decode cX11_counted 41 = .ok (.ireturn, 1) := by decide +kernel
theorem dX11_counted_42 : decode cX11_counted 42 = .ok (.iload_n 3, 1) := by decide +kernel
theorem dX11_counted_43 : decode cX11_counted 43 = .ok (.aload_n 0, 1) := by decide +kernel
theorem dX11_counted_44 : decode cX11_counted 44 = .ok (.getfield 33, 3) := by decide +kernel
theorem dX11_counted_47 : decode cX11_counted 47 = .ok (.iconst 4, 1) := by decide +kernel
theorem dX11_counted_48 : decode cX11_counted 48 = .ok (.iload_n 1, 1) := by decide +kernel
theorem dX11_counted_49 : decode cX11_counted 49 = .ok (.iadd, 1) := by decide +kernel
theorem dX11_counted_50 : decode cX11_counted 50 = .ok (.iaload, 1) := by decide +kernel
theorem dX11_counted_51 : decode cX11_counted 51 = .ok (.if_icmp .ne 7, 3) := by decide +kernel
theorem dX11_counted_54 : decode cX11_counted 54 = .ok (.iconst 1, 1) := by decide +kernel
theorem dX11_counted_55 : decode cX11_counted 55 = .ok (.goto 4, 3) := by decide +kernel
theorem dX11_counted_58 : decode cX11_counted 58 = .ok (.iconst 0, 1) := by decide +kernel
theorem dX11_counted_59 : decode cX11_counted 59 = .ok (.istore 5, 2) := by decide +kernel
theorem dX11_counted_61 : decode cX11_counted 61 = .ok (.iload 5, 2) := by decide +kernel
theorem dX11_counted_63 : decode cX11_counted 63 = .ok (.ifCond .eq 17, 3) := by decide +kernel
theorem dX11_counted_66 : decode cX11_counted 66 = .ok (.iload_n 2, 1) := by decide +kernel
theorem dX11_counted_67 : decode cX11_counted 67 = .ok (.aload_n 0, 1) := by decide +kernel
theorem dX11_counted_68 : decode cX11_counted 68 = .ok (.getfield 33, 3) := by decide +kernel
theorem dX11_counted_71 : decode cX11_counted 71 = .ok (.bipush 29, 2) := by decide +kernel
theorem dX11_counted_73 : decode cX11_counted 73 = .ok (.iload_n 1, 1) := by decide +kernel
theorem dX11_counted_74 : decode cX11_counted 74 = .ok (.iadd, 1) := by decide +kernel
theorem dX11_counted_75 : decode cX11_counted 75 = .ok (.iaload, 1) := by decide +kernel
theorem dX11_counted_76 : decode cX11_counted 76 = .ok (.irem, 1) := by decide +kernel
theorem dX11_counted_77 : decode cX11_counted 77 = .ok (.ifCond .ne 34, 3) := by decide +kernel
theorem dX11_counted_80 : decode cX11_counted 80 = .ok (.iload 4, 2) := by decide +kernel
theorem dX11_counted_82 : decode cX11_counted 82 = .ok (.iload 5, 2) := by decide +kernel
theorem dX11_counted_84 : decode cX11_counted 84 = .ok (.ifCond .eq 15, 3) := by decide +kernel
theorem dX11_counted_87 : decode cX11_counted 87 = .ok (.aload_n 0, 1) := by decide +kernel
theorem dX11_counted_88 : decode cX11_counted 88 = .ok (.getfield 33, 3) := by decide +kernel
theorem dX11_counted_91 : decode cX11_counted 91 = .ok (.bipush 24, 2) := by decide +kernel
theorem dX11_counted_93 : decode cX11_counted 93 = .ok (.iload_n 1, 1) := by decide +kernel
theorem dX11_counted_94 : decode cX11_counted 94 = .ok (.iadd, 1) := by decide +kernel
theorem dX11_counted_95 : decode cX11_counted 95 = .ok (.iaload, 1) := by decide +kernel
theorem dX11_counted_96 : decode cX11_counted 96 = .ok (.goto 12, 3) := by decide +kernel
theorem dX11_counted_99 : decode cX11_counted 99 = .ok (.aload_n 0, 1) := by decide +kernel
theorem dX11_counted_100 : decode cX11_counted 100 = .ok (.getfield 33, 3) := by decide +kernel
theorem dX11_counted_103 : decode cX11_counted 103 = .ok (.bipush 9, 2) := by decide +kernel
theorem dX11_counted_105 : decode cX11_counted 105 = .ok (.iload_n 1, 1) := by decide +kernel
theorem dX11_counted_106 : decode cX11_counted 106 = .ok (.iadd, 1) := by decide +kernel
theorem dX11_counted_107 : decode cX11_counted 107 = .ok (.iaload, 1) := by decide +kernel
theorem dX11_counted_108 : decode cX11_counted 108 = .ok (.if_icmp .lt 5, 3) := by decide +kernel
theorem dX11_counted_111 : decode cX11_counted 111 = .ok (.iconst (-1), 1) := by decide +kernel
theorem dX11_counted_112 : decode cX11_counted 112 = .ok (.ireturn, 1) := by decide +kernel
theorem dX11_counted_113 : decode cX11_counted 113 = .ok (.aload_n 0, 1) := by decide +kernel
theorem dX11_counted_114 : decode cX11_counted 114 = .ok (.iload_n 1, 1) := by decide +kernel
theorem dX11_counted_115 : decode cX11_counted 115 = .ok (.iload_n 2, 1) := by decide +kernel
theorem dX11_counted_116 : decode cX11_counted 116 = .ok (.invokevirtual 249, 3) := by decide +kernel
theorem dX11_counted_119 : decode cX11_counted 119 = .ok (.iload_n 3, 1) := by decide +kernel
theorem dX11_counted_120 : decode cX11_counted 120 = .ok (.aload_n 0, 1) := by decide +kernel
theorem dX11_counted_121 : decode cX11_counted 121 = .ok (.getfield 33, 3) := by decide +kernel
theorem dX11_counted_124 : decode cX11_counted 124 = .ok (.bipush 9, 2) := by decide +kernel
theorem dX11_counted_126 : decode cX11_counted 126 = .ok (.iload_n 1, 1) := by decide +kernel
theorem dX11_counted_127 : decode cX11_counted 127 = .ok (.iadd, 1) := by decide +kernel
theorem dX11_counted_128 : decode cX11_counted 128 = .ok (.iaload, 1) := by decide +kernel
theorem dX11_counted_129 : decode cX11_counted 129 = .ok (.imul, 1) := by decide +kernel
theorem dX11_counted_130 : decode cX11_counted 130 = .ok (.iadd, 1) := by decide +kernel
theorem dX11_counted_131 : decode cX11_counted 131 = .ok (.iload 4, 2) := by decide +kernel
theorem dX11_counted_133 : decode cX11_counted 133 = .ok (.iadd, 1) := by decide +kernel
theorem dX11_counted_134 : decode cX11_counted 134 = .ok (.ireturn, 1) := by decide +kernel
theorem dX11_countOf_0 : decode cX11_countOf 0 = .ok (.aload_n 0, 1) := by decide +kernel
theorem dX11_countOf_1 : decode cX11_countOf 1 = .ok (.iconst 0, 1) := by decide +kernel
theorem dX11_countOf_2 : decode cX11_countOf 2 = .ok (.putfield 1, 3) := by decide +kernel
theorem dX11_countOf_5 : decode cX11_countOf 5 = .ok (.aload_n 0, 1) := by decide +kernel
theorem dX11_countOf_6 : decode cX11_countOf 6 = .ok (.iload_n 1, 1) := by decide +kernel
theorem dX11_countOf_7 : decode cX11_countOf 7 = .ok (.iload_n 2, 1) := by decide +kernel
theorem dX11_countOf_8 : decode cX11_countOf 8 = .ok (.iload_n 3, 1) := by decide +kernel
theorem dX11_countOf_9 : decode cX11_countOf 9 = .ok (.iload 4, 2) := by decide +kernel
theorem dX11_countOf_11 : decode cX11_countOf 11 = .ok (.invokevirtual 275, 3) := by decide +kernel
theorem dX11_countOf_14 : decode cX11_countOf 14 = .ok (.ireturn, 1) := by decide +kernel
theorem dX11_feast_0 : decode cX11_feast 0 = .ok (.aload_n 0, 1) := by decide +kernel
theorem dX11_feast_1 : decode cX11_feast 1 = .ok (.iconst 0, 1) := by decide +kernel
theorem dX11_feast_2 : decode cX11_feast 2 = .ok (.putfield 1, 3) := by decide +kernel
theorem dX11_feast_5 : decode cX11_feast 5 = .ok (.aload_n 0, 1) := by decide +kernel
theorem dX11_feast_6 : decode cX11_feast 6 = .ok (.iload_n 1, 1) := by decide +kernel
theorem dX11_feast_7 : decode cX11_feast 7 = .ok (.invokevirtual 279, 3) := by decide +kernel
theorem dX11_feast_10 : decode cX11_feast 10 = .ok (.ifCond .ne 5, 3) := by decide +kernel
theorem dX11_feast_13 : decode cX11_feast 13 = .ok (.iconst (-1), 1) := by decide +kernel
theorem dX11_feast_14 : decode cX11_feast 14 = .ok (.ireturn, 1) := by decide +kernel
theorem dX11_feast_15 : decode cX11_feast 15 = .ok (.iload_n 2, 1) := by decide +kernel
theorem dX11_feast_16 : decode cX11_feast 16 = .ok (.ifCond .ne 15, 3) := by decide +kernel
theorem dX11_feast_19 : decode cX11_feast 19 = .ok (.aload_n 0, 1) := by decide +kernel
theorem dX11_feast_20 : decode cX11_feast 20 = .ok (.getfield 33, 3) := by decide +kernel
theorem dX11_feast_23 : decode cX11_feast 23 = .ok (.bipush 34, 2) := by decide +kernel
theorem dX11_feast_25 : decode cX11_feast 25 = .ok (.iload_n 1, 1) := by decide +kernel
theorem dX11_feast_26 : decode cX11_feast 26 = .ok (.iadd, 1) := by decide +kernel
theorem dX11_feast_27 : decode cX11_feast 27 = .ok (.iaload, 1) := by decide +kernel
theorem dX11_feast_28 : decode cX11_feast 28 = .ok (.goto 60, 3) := by decide +kernel
theorem dX11_feast_31 : decode cX11_feast 31 = .ok (.iload_n 2, 1) := by decide +kernel
theorem dX11_feast_32 : decode cX11_feast 32 = .ok (.iconst 1, 1) := by decide +kernel
theorem dX11_feast_33 : decode cX11_feast 33 = .ok (.if_icmp .ne 15, 3) := by decide +kernel
theorem dX11_feast_36 : decode cX11_feast 36 = .ok (.aload_n 0, 1) := by decide +kernel
theorem dX11_feast_37 : decode cX11_feast 37 = .ok (.getfield 33, 3) := by decide +kernel
theorem dX11_feast_40 : decode cX11_feast 40 = .ok (.bipush 40, 2) := by decide +kernel
theorem dX11_feast_42 : decode cX11_feast 42 = .ok (.iload_n 1, 1) := by decide +kernel
theorem dX11_feast_43 : decode cX11_feast 43 = .ok (.iadd, 1) := by decide +kernel
theorem dX11_feast_44 : decode cX11_feast 44 = .ok (.iaload, 1) := by decide +kernel
theorem dX11_feast_45 : decode cX11_feast 45 = .ok (.goto 43, 3) := by decide +kernel
theorem dX11_feast_48 : decode cX11_feast 48 = .ok (.iload_n 2, 1) := by decide +kernel
theorem dX11_feast_49 : decode cX11_feast 49 = .ok (.iconst 2, 1) := by decide +kernel
theorem dX11_feast_50 : decode cX11_feast 50 = .ok (.if_icmp .ne 15, 3) := by decide +kernel
theorem dX11_feast_53 : decode cX11_feast 53 = .ok (.aload_n 0, 1) := by decide +kernel
theorem dX11_feast_54 : decode cX11_feast 54 = .ok (.getfield 33, 3) := by decide +kernel
theorem dX11_feast_57 : decode cX11_feast 57 = .ok (.bipush 46, 2) := by decide +kernel
theorem dX11_feast_59 : decode cX11_feast 59 = .ok (.iload_n 1, 1) := by decide +kernel
theorem dX11_feast_60 : decode cX11_feast 60 = .ok (.iadd, 1) := by decide +kernel
theorem dX11_feast_61 : decode cX11_feast 61 = .ok (.iaload, 1) := by decide +kernel
theorem dX11_feast_62 : decode cX11_feast 62 = .ok (.goto 26, 3) := by decide +kernel
theorem dX11_feast_65 : decode cX11_feast 65 = .ok (.iload_n 2, 1) := by decide +kernel
theorem dX11_feast_66 : decode cX11_feast 66 = .ok (.iconst 3, 1) := by decide +kernel
theorem dX11_feast_67 : decode cX11_feast 67 = .ok (.if_icmp .ne 20, 3) := by decide +kernel
theorem dX11_feast_70 : decode cX11_feast 70 = .ok (.aload_n 0, 1) := by decide +kernel
theorem dX11_feast_71 : decode cX11_feast 71 = .ok (.iload_n 1, 1) := by decide +kernel
theorem dX11_feast_72 : decode cX11_feast 72 = .ok (.iconst 0, 1) := by decide +kernel
theorem dX11_feast_73 : decode cX11_feast 73 = .ok (.invokevirtual 282, 3) := by decide +kernel
theorem dX11_feast_76 : decode cX11_feast 76 = .ok (.ifCond .eq 7, 3) := by decide +kernel
theorem dX11_feast_79 : decode cX11_feast 79 = .ok (.iconst 1, 1) := by decide +kernel
theorem dX11_feast_80 : decode cX11_feast 80 = .ok (.goto 8, 3) := by decide +kernel
theorem dX11_feast_83 : decode cX11_feast 83 = .ok (.iconst 0, 1) := by decide +kernel
theorem dX11_feast_84 : decode cX11_feast 84 = .ok (.goto 4, 3) := by decide +kernel
theorem dX11_feast_87 : decode cX11_feast 87 = .ok (.iconst (-1), 1) := by decide +kernel
theorem dX11_feast_88 : decode cX11_feast 88 = .ok (.ireturn, 1) := by decide +kernel
theorem dX11_now_0 : decode cX11_now 0 = .ok (.aload_n 0, 1) := by decide +kernel
theorem dX11_now_1 : decode cX11_now 1 = .ok (.iconst 0, 1) := by decide +kernel
theorem dX11_now_2 : decode cX11_now 2 = .ok (.putfield 1, 3) := by decide +kernel
theorem dX11_now_5 : decode cX11_now 5 = .ok (.iconst 0, 1) := by decide +kernel
theorem dX11_now_6 : decode cX11_now 6 = .ok (.istore_n 2, 1) := by decide +kernel
theorem dX11_now_7 : decode cX11_now 7 = .ok (.iconst 0, 1) := by decide +kernel
theorem dX11_now_8 : decode cX11_now 8 = .ok (.istore_n 3, 1) := by decide +kernel
theorem dX11_now_9 : decode cX11_now 9 = .ok (.iconst 0, 1) := by decide +kernel
theorem dX11_now_10 : decode cX11_now 10 = .ok (.istore 4, 2) := by decide +kernel
theorem dX11_now_12 : decode cX11_now 12 = .ok (.iconst 0, 1) := by decide +kernel
theorem dX11_now_13 : decode cX11_now 13 = .ok (.istore 5, 2) := by decide +kernel
theorem dX11_now_15 : decode cX11_now 15 = .ok (.iload 5, 2) := by decide +kernel
theorem dX11_now_17 : decode cX11_now 17 = .ok (.aload_n 0, 1) := by decide +kernel
theorem dX11_now_18 : decode cX11_now 18 = .ok (.getfield 33, 3) := by decide +kernel
theorem dX11_now_21 : decode cX11_now 21 = .ok (.iconst 1, 1) := by decide +kernel
theorem dX11_now_22 : decode cX11_now 22 = .ok (.iaload, 1) := by decide +kernel
theorem dX11_now_23 : decode cX11_now 23 = .ok (.if_icmp .ge 30, 3) := by decide +kernel
theorem dX11_now_26 : decode cX11_now 26 = .ok (.iload_n 2, 1) := by decide +kernel
theorem dX11_now_27 : decode cX11_now 27 = .ok (.aload_n 0, 1) := by decide +kernel
theorem dX11_now_28 : decode cX11_now 28 = .ok (.iload 5, 2) := by decide +kernel
theorem dX11_now_30 : decode cX11_now 30 = .ok (.iconst 0, 1) := by decide +kernel
theorem dX11_now_31 : decode cX11_now 31 = .ok (.invokevirtual 282, 3) := by decide +kernel
theorem dX11_now_34 : decode cX11_now 34 = .ok (.ifCond .eq 10, 3) := by decide +kernel
theorem dX11_now_37 : decode cX11_now 37 = .ok (.iconst 1, 1) := by decide +kernel
theorem dX11_now_38 : decode cX11_now 38 = .ok (.iload 5, 2) := by decide +kernel
theorem dX11_now_40 : decode cX11_now 40 = .ok (.ishl, 1) := by decide +kernel
theorem dX11_now_41 : decode cX11_now 41 = .ok (.goto 4, 3) := by decide +kernel
theorem dX11_now_44 : decode cX11_now 44 = .ok (.iconst 0, 1) := by decide +kernel
theorem dX11_now_45 : decode cX11_now 45 = .ok (.ior, 1) := by decide +kernel
theorem dX11_now_46 : decode cX11_now 46 = .ok (.istore_n 2, 1) := by decide +kernel
theorem dX11_now_47 : decode cX11_now 47 = .ok (.iinc 5 1, 3) := by decide +kernel
theorem dX11_now_50 : decode cX11_now 50 = .ok (.goto (-35), 3) := by decide +kernel
theorem dX11_now_53 : decode cX11_now 53 = .ok (.iconst 0, 1) := by decide +kernel
theorem dX11_now_54 : decode cX11_now 54 = .ok (.istore 5, 2) := by decide +kernel
theorem dX11_now_56 : decode cX11_now 56 = .ok (.iload 5, 2) := by decide +kernel
theorem dX11_now_58 : decode cX11_now 58 = .ok (.aload_n 0, 1) := by decide +kernel
theorem dX11_now_59 : decode cX11_now 59 = .ok (.getfield 33, 3) := by decide +kernel
theorem dX11_now_62 : decode cX11_now 62 = .ok (.iconst 0, 1) := by decide +kernel
theorem dX11_now_63 : decode cX11_now 63 = .ok (.iaload, 1) := by decide +kernel
theorem dX11_now_64 : decode cX11_now 64 = .ok (.if_icmp .ge 51, 3) := by decide +kernel
theorem dX11_now_67 : decode cX11_now 67 = .ok (.iload_n 3, 1) := by decide +kernel
theorem dX11_now_68 : decode cX11_now 68 = .ok (.aload_n 0, 1) := by decide +kernel
theorem dX11_now_69 : decode cX11_now 69 = .ok (.iload 5, 2) := by decide +kernel
theorem dX11_now_71 : decode cX11_now 71 = .ok (.invokevirtual 285, 3) := by decide +kernel
theorem dX11_now_74 : decode cX11_now 74 = .ok (.ifCond .ne 10, 3) := by decide +kernel
theorem dX11_now_77 : decode cX11_now 77 = .ok (.iconst 1, 1) := by decide +kernel
theorem dX11_now_78 : decode cX11_now 78 = .ok (.iload 5, 2) := by decide +kernel
theorem dX11_now_80 : decode cX11_now 80 = .ok (.ishl, 1) := by decide +kernel
theorem dX11_now_81 : decode cX11_now 81 = .ok (.goto 4, 3) := by decide +kernel
theorem dX11_now_84 : decode cX11_now 84 = .ok (.iconst 0, 1) := by decide +kernel
theorem dX11_now_85 : decode cX11_now 85 = .ok (.ior, 1) := by decide +kernel
theorem dX11_now_86 : decode cX11_now 86 = .ok (.istore_n 3, 1) := by decide +kernel
theorem dX11_now_87 : decode cX11_now 87 = .ok (.iload 4, 2) := by decide +kernel
theorem dX11_now_89 : decode cX11_now 89 = .ok (.aload_n 0, 1) := by decide +kernel
theorem dX11_now_90 : decode cX11_now 90 = .ok (.iload 5, 2) := by decide +kernel
theorem dX11_now_92 : decode cX11_now 92 = .ok (.invokevirtual 288, 3) := by decide +kernel
theorem dX11_now_95 : decode cX11_now 95 = .ok (.ifCond .eq 10, 3) := by decide +kernel
theorem dX11_now_98 : decode cX11_now 98 = .ok (.iconst 1, 1) := by decide +kernel
theorem dX11_now_99 : decode cX11_now 99 = .ok (.iload 5, 2) := by decide +kernel
theorem dX11_now_101 : decode cX11_now 101 = .ok (.ishl, 1) := by decide +kernel
theorem dX11_now_102 : decode cX11_now 102 = .ok (.goto 4, 3) := by decide +kernel
theorem dX11_now_105 : decode cX11_now 105 = .ok (.iconst 0, 1) := by decide +kernel
theorem dX11_now_106 : decode cX11_now 106 = .ok (.ior, 1) := by decide +kernel
theorem dX11_now_107 : decode cX11_now 107 = .ok (.istore 4, 2) := by decide +kernel
theorem dX11_now_109 : decode cX11_now 109 = .ok (.iinc 5 1, 3) := by decide +kernel
theorem dX11_now_112 : decode cX11_now 112 = .ok (.goto (-56), 3) := by decide +kernel
theorem dX11_now_115 : decode cX11_now 115 = .ok (.iload_n 1, 1) := by decide +kernel
theorem dX11_now_116 : decode cX11_now 116 = .ok (.tableswitch 81 0 6 #[44, 52, 60, 62, 64, 67, 74], 44) := by decide +kernel
theorem dX11_now_160 : decode cX11_now 160 = .ok (.aload_n 0, 1) := by decide +kernel
theorem dX11_now_161 : decode cX11_now 161 = .ok (.getfield 33, 3) := by decide +kernel
theorem dX11_now_164 : decode cX11_now 164 = .ok (.bipush 52, 2) := by decide +kernel
theorem dX11_now_166 : decode cX11_now 166 = .ok (.iaload, 1) := by decide +kernel
theorem dX11_now_167 : decode cX11_now 167 = .ok (.ireturn, 1) := by decide +kernel
theorem dX11_now_168 : decode cX11_now 168 = .ok (.aload_n 0, 1) := by decide +kernel
theorem dX11_now_169 : decode cX11_now 169 = .ok (.getfield 33, 3) := by decide +kernel
theorem dX11_now_172 : decode cX11_now 172 = .ok (.bipush 53, 2) := by decide +kernel
theorem dX11_now_174 : decode cX11_now 174 = .ok (.iaload, 1) := by decide +kernel
theorem dX11_now_175 : decode cX11_now 175 = .ok (.ireturn, 1) := by decide +kernel
theorem dX11_now_176 : decode cX11_now 176 = .ok (.iload_n 2, 1) := by decide +kernel
theorem dX11_now_177 : decode cX11_now 177 = .ok (.ireturn, 1) := by decide +kernel
theorem dX11_now_178 : decode cX11_now 178 = .ok (.iload_n 3, 1) := by decide +kernel
theorem dX11_now_179 : decode cX11_now 179 = .ok (.ireturn, 1) := by decide +kernel
theorem dX11_now_180 : decode cX11_now 180 = .ok (.iload 4, 2) := by decide +kernel
theorem dX11_now_182 : decode cX11_now 182 = .ok (.ireturn, 1) := by decide +kernel
theorem dX11_now_183 : decode cX11_now 183 = .ok (.aload_n 0, 1) := by decide +kernel
theorem dX11_now_184 : decode cX11_now 184 = .ok (.bipush 59, 2) := by decide +kernel
theorem dX11_now_186 : decode cX11_now 186 = .ok (.invokevirtual 291, 3) := by decide +kernel
theorem dX11_now_189 : decode cX11_now 189 = .ok (.ireturn, 1) := by decide +kernel
theorem dX11_now_190 : decode cX11_now 190 = .ok (.aload_n 0, 1) := by decide +kernel
theorem dX11_now_191 : decode cX11_now 191 = .ok (.bipush 64, 2) := by decide +kernel
theorem dX11_now_193 : decode cX11_now 193 = .ok (.invokevirtual 291, 3) := by decide +kernel
theorem dX11_now_196 : decode cX11_now 196 = .ok (.ireturn, 1) := by decide +kernel
theorem dX11_now_197 : decode cX11_now 197 = .ok (.iconst (-1), 1) := by decide +kernel
theorem dX11_now_198 : decode cX11_now 198 = .ok (.ireturn, 1) := by decide +kernel
theorem dX11_whyHold_0 : decode cX11_whyHold 0 = .ok (.aload_n 0, 1) := by decide +kernel
theorem dX11_whyHold_1 : decode cX11_whyHold 1 = .ok (.iload_n 1, 1) := by decide +kernel
theorem dX11_whyHold_2 : decode cX11_whyHold 2 = .ok (.invokevirtual 255, 3) := by decide +kernel
theorem dX11_whyHold_5 : decode cX11_whyHold 5 = .ok (.ifCond .eq 7, 3) := by decide +kernel
theorem dX11_whyHold_8 : decode cX11_whyHold 8 = .ok (.iconst 1, 1) := by decide +kernel
theorem dX11_whyHold_9 : decode cX11_whyHold 9 = .ok (.goto 4, 3) := by decide +kernel
theorem dX11_whyHold_12 : decode cX11_whyHold 12 = .ok (.iconst 0, 1) := by decide +kernel
theorem dX11_whyHold_13 : decode cX11_whyHold 13 = .ok (.ireturn, 1) := by decide +kernel
theorem dX11_holds_0 : decode cX11_holds 0 = .ok (.aload_n 0, 1) := by decide +kernel
theorem dX11_holds_1 : decode cX11_holds 1 = .ok (.getfield 33, 3) := by decide +kernel
theorem dX11_holds_4 : decode cX11_holds 4 = .ok (.bipush 53, 2) := by decide +kernel
theorem dX11_holds_6 : decode cX11_holds 6 = .ok (.dup2, 1) := by decide +kernel
theorem dX11_holds_7 : decode cX11_holds 7 = .ok (.iaload, 1) := by decide +kernel
theorem dX11_holds_8 : decode cX11_holds 8 = .ok (.iconst 1, 1) := by decide +kernel
theorem dX11_holds_9 : decode cX11_holds 9 = .ok (.iload_n 1, 1) := by decide +kernel
theorem dX11_holds_10 : decode cX11_holds 10 = .ok (.ishl, 1) := by decide +kernel
theorem dX11_holds_11 : decode cX11_holds 11 = .ok (.ior, 1) := by decide +kernel
theorem dX11_holds_12 : decode cX11_holds 12 = .ok (.iastore, 1) := by decide +kernel
theorem dX11_holds_13 : decode cX11_holds 13 = .ok (.aload_n 0, 1) := by decide +kernel
theorem dX11_holds_14 : decode cX11_holds 14 = .ok (.getfield 33, 3) := by decide +kernel
theorem dX11_holds_17 : decode cX11_holds 17 = .ok (.bipush 59, 2) := by decide +kernel
theorem dX11_holds_19 : decode cX11_holds 19 = .ok (.iload_n 1, 1) := by decide +kernel
theorem dX11_holds_20 : decode cX11_holds 20 = .ok (.iadd, 1) := by decide +kernel
theorem dX11_holds_21 : decode cX11_holds 21 = .ok (.dup2, 1) := by decide +kernel
theorem dX11_holds_22 : decode cX11_holds 22 = .ok (.iaload, 1) := by decide +kernel
theorem dX11_holds_23 : decode cX11_holds 23 = .ok (.iconst 1, 1) := by decide +kernel
theorem dX11_holds_24 : decode cX11_holds 24 = .ok (.iadd, 1) := by decide +kernel
theorem dX11_holds_25 : decode cX11_holds 25 = .ok (.iastore, 1) := by decide +kernel
theorem dX11_holds_26 : decode cX11_holds 26 = .ok (.return_, 1) := by decide +kernel
theorem dX11_whySkip_0 : decode cX11_whySkip 0 = .ok (.aload_n 0, 1) := by decide +kernel
theorem dX11_whySkip_1 : decode cX11_whySkip 1 = .ok (.getfield 33, 3) := by decide +kernel
theorem dX11_whySkip_4 : decode cX11_whySkip 4 = .ok (.bipush 54, 2) := by decide +kernel
theorem dX11_whySkip_6 : decode cX11_whySkip 6 = .ok (.iload_n 1, 1) := by decide +kernel
theorem dX11_whySkip_7 : decode cX11_whySkip 7 = .ok (.iadd, 1) := by decide +kernel
theorem dX11_whySkip_8 : decode cX11_whySkip 8 = .ok (.iaload, 1) := by decide +kernel
theorem dX11_whySkip_9 : decode cX11_whySkip 9 = .ok (.iload_n 2, 1) := by decide +kernel
theorem dX11_whySkip_10 : decode cX11_whySkip 10 = .ok (.iadd, 1) := by decide +kernel
theorem dX11_whySkip_11 : decode cX11_whySkip 11 = .ok (.sipush 9999, 3) := by decide +kernel
theorem dX11_whySkip_14 : decode cX11_whySkip 14 = .ok (.if_icmp .le 7, 3) := by decide +kernel
theorem dX11_whySkip_17 : decode cX11_whySkip 17 = .ok (.iconst 1, 1) := by decide +kernel
theorem dX11_whySkip_18 : decode cX11_whySkip 18 = .ok (.goto 4, 3) := by decide +kernel
theorem dX11_whySkip_21 : decode cX11_whySkip 21 = .ok (.iconst 0, 1) := by decide +kernel
theorem dX11_whySkip_22 : decode cX11_whySkip 22 = .ok (.ireturn, 1) := by decide +kernel
theorem dX11_skips_0 : decode cX11_skips 0 = .ok (.aload_n 0, 1) := by decide +kernel
theorem dX11_skips_1 : decode cX11_skips 1 = .ok (.getfield 33, 3) := by decide +kernel
theorem dX11_skips_4 : decode cX11_skips 4 = .ok (.bipush 54, 2) := by decide +kernel
theorem dX11_skips_6 : decode cX11_skips 6 = .ok (.iload_n 1, 1) := by decide +kernel
theorem dX11_skips_7 : decode cX11_skips 7 = .ok (.iadd, 1) := by decide +kernel
theorem dX11_skips_8 : decode cX11_skips 8 = .ok (.dup2, 1) := by decide +kernel
theorem dX11_skips_9 : decode cX11_skips 9 = .ok (.iaload, 1) := by decide +kernel
theorem dX11_skips_10 : decode cX11_skips 10 = .ok (.iload_n 2, 1) := by decide +kernel
theorem dX11_skips_11 : decode cX11_skips 11 = .ok (.iadd, 1) := by decide +kernel
theorem dX11_skips_12 : decode cX11_skips 12 = .ok (.iastore, 1) := by decide +kernel
theorem dX11_skips_13 : decode cX11_skips 13 = .ok (.aload_n 0, 1) := by decide +kernel
theorem dX11_skips_14 : decode cX11_skips 14 = .ok (.getfield 33, 3) := by decide +kernel
theorem dX11_skips_17 : decode cX11_skips 17 = .ok (.bipush 64, 2) := by decide +kernel
theorem dX11_skips_19 : decode cX11_skips 19 = .ok (.iload_n 1, 1) := by decide +kernel
theorem dX11_skips_20 : decode cX11_skips 20 = .ok (.iadd, 1) := by decide +kernel
theorem dX11_skips_21 : decode cX11_skips 21 = .ok (.dup2, 1) := by decide +kernel
theorem dX11_skips_22 : decode cX11_skips 22 = .ok (.iaload, 1) := by decide +kernel
theorem dX11_skips_23 : decode cX11_skips 23 = .ok (.iload_n 2, 1) := by decide +kernel
theorem dX11_skips_24 : decode cX11_skips 24 = .ok (.iadd, 1) := by decide +kernel
theorem dX11_skips_25 : decode cX11_skips 25 = .ok (.iastore, 1) := by decide +kernel
theorem dX11_skips_26 : decode cX11_skips 26 = .ok (.return_, 1) := by decide +kernel
theorem dX11_day_0 : decode cX11_day 0 = .ok (.iconst 0, 1) := by decide +kernel
theorem dX11_day_1 : decode cX11_day 1 = .ok (.istore_n 1, 1) := by decide +kernel
theorem dX11_day_2 : decode cX11_day 2 = .ok (.iload_n 1, 1) := by decide +kernel
theorem dX11_day_3 : decode cX11_day 3 = .ok (.aload_n 0, 1) := by decide +kernel
theorem dX11_day_4 : decode cX11_day 4 = .ok (.getfield 33, 3) := by decide +kernel
theorem dX11_day_7 : decode cX11_day 7 = .ok (.iconst 0, 1) := by decide +kernel
theorem dX11_day_8 : decode cX11_day 8 = .ok (.iaload, 1) := by decide +kernel
theorem dX11_day_9 : decode cX11_day 9 = .ok (.if_icmp .ge 30, 3) := by decide +kernel
theorem dX11_day_12 : decode cX11_day 12 = .ok (.aload_n 0, 1) := by decide +kernel
theorem dX11_day_13 : decode cX11_day 13 = .ok (.iload_n 1, 1) := by decide +kernel
theorem dX11_day_14 : decode cX11_day 14 = .ok (.invokevirtual 255, 3) := by decide +kernel
theorem dX11_day_17 : decode cX11_day 17 = .ok (.ifCond .ne 16, 3) := by decide +kernel
theorem dX11_day_20 : decode cX11_day 20 = .ok (.aload_n 0, 1) := by decide +kernel
theorem dX11_day_21 : decode cX11_day 21 = .ok (.getfield 33, 3) := by decide +kernel
theorem dX11_day_24 : decode cX11_day 24 = .ok (.bipush 54, 2) := by decide +kernel
theorem dX11_day_26 : decode cX11_day 26 = .ok (.iload_n 1, 1) := by decide +kernel
theorem dX11_day_27 : decode cX11_day 27 = .ok (.iadd, 1) := by decide +kernel
theorem dX11_day_28 : decode cX11_day 28 = .ok (.dup2, 1) := by decide +kernel
theorem dX11_day_29 : decode cX11_day 29 = .ok (.iaload, 1) := by decide +kernel
theorem dX11_day_30 : decode cX11_day 30 = .ok (.iconst 1, 1) := by decide +kernel
theorem dX11_day_31 : decode cX11_day 31 = .ok (.iadd, 1) := by decide +kernel
theorem dX11_day_32 : decode cX11_day 32 = .ok (.iastore, 1) := by decide +kernel
theorem dX11_day_33 : decode cX11_day 33 = .ok (.iinc 1 1, 3) := by decide +kernel
theorem dX11_day_36 : decode cX11_day 36 = .ok (.goto (-34), 3) := by decide +kernel
theorem dX11_day_39 : decode cX11_day 39 = .ok (.aload_n 0, 1) := by decide +kernel
theorem dX11_day_40 : decode cX11_day 40 = .ok (.getfield 33, 3) := by decide +kernel
theorem dX11_day_43 : decode cX11_day 43 = .ok (.bipush 53, 2) := by decide +kernel
theorem dX11_day_45 : decode cX11_day 45 = .ok (.iconst 0, 1) := by decide +kernel
theorem dX11_day_46 : decode cX11_day 46 = .ok (.iastore, 1) := by decide +kernel
theorem dX11_day_47 : decode cX11_day 47 = .ok (.aload_n 0, 1) := by decide +kernel
theorem dX11_day_48 : decode cX11_day 48 = .ok (.getfield 33, 3) := by decide +kernel
theorem dX11_day_51 : decode cX11_day 51 = .ok (.bipush 52, 2) := by decide +kernel
theorem dX11_day_53 : decode cX11_day 53 = .ok (.dup2, 1) := by decide +kernel
theorem dX11_day_54 : decode cX11_day 54 = .ok (.iaload, 1) := by decide +kernel
theorem dX11_day_55 : decode cX11_day 55 = .ok (.iconst 1, 1) := by decide +kernel
theorem dX11_day_56 : decode cX11_day 56 = .ok (.iadd, 1) := by decide +kernel
theorem dX11_day_57 : decode cX11_day 57 = .ok (.iastore, 1) := by decide +kernel
theorem dX11_day_58 : decode cX11_day 58 = .ok (.return_, 1) := by decide +kernel
theorem dX11_goesOn_0 : decode cX11_goesOn 0 = .ok (.iconst 0, 1) := by decide +kernel
theorem dX11_goesOn_1 : decode cX11_goesOn 1 = .ok (.istore_n 2, 1) := by decide +kernel
theorem dX11_goesOn_2 : decode cX11_goesOn 2 = .ok (.iload_n 2, 1) := by decide +kernel
theorem dX11_goesOn_3 : decode cX11_goesOn 3 = .ok (.iload_n 1, 1) := by decide +kernel
theorem dX11_goesOn_4 : decode cX11_goesOn 4 = .ok (.if_icmp .ge 26, 3) := by decide +kernel
theorem dX11_goesOn_7 : decode cX11_goesOn 7 = .ok (.aload_n 0, 1) := by decide +kernel
theorem dX11_goesOn_8 : decode cX11_goesOn 8 = .ok (.getfield 33, 3) := by decide +kernel
theorem dX11_goesOn_11 : decode cX11_goesOn 11 = .ok (.bipush 52, 2) := by decide +kernel
theorem dX11_goesOn_13 : decode cX11_goesOn 13 = .ok (.iaload, 1) := by decide +kernel
theorem dX11_goesOn_14 : decode cX11_goesOn 14 = .ok (.sipush 10000, 3) := by decide +kernel
theorem dX11_goesOn_17 : decode cX11_goesOn 17 = .ok (.if_icmp .ge 13, 3) := by decide +kernel
theorem dX11_goesOn_20 : decode cX11_goesOn 20 = .ok (.aload_n 0, 1) := by decide +kernel
theorem dX11_goesOn_21 : decode cX11_goesOn 21 = .ok (.invokevirtual 294, 3) := by decide +kernel
theorem dX11_goesOn_24 : decode cX11_goesOn 24 = .ok (.iinc 2 1, 3) := by decide +kernel
theorem dX11_goesOn_27 : decode cX11_goesOn 27 = .ok (.goto (-25), 3) := by decide +kernel
theorem dX11_goesOn_30 : decode cX11_goesOn 30 = .ok (.iload_n 2, 1) := by decide +kernel
theorem dX11_goesOn_31 : decode cX11_goesOn 31 = .ok (.ireturn, 1) := by decide +kernel
theorem dX11_hold_0 : decode cX11_hold 0 = .ok (.aload_n 0, 1) := by decide +kernel
theorem dX11_hold_1 : decode cX11_hold 1 = .ok (.iconst 0, 1) := by decide +kernel
theorem dX11_hold_2 : decode cX11_hold 2 = .ok (.putfield 1, 3) := by decide +kernel
theorem dX11_hold_5 : decode cX11_hold 5 = .ok (.aload_n 0, 1) := by decide +kernel
theorem dX11_hold_6 : decode cX11_hold 6 = .ok (.iload_n 1, 1) := by decide +kernel
theorem dX11_hold_7 : decode cX11_hold 7 = .ok (.invokevirtual 267, 3) := by decide +kernel
theorem dX11_hold_10 : decode cX11_hold 10 = .ok (.ifCond .ne 5, 3) := by decide +kernel
theorem dX11_hold_13 : decode cX11_hold 13 = .ok (.iconst (-1), 1) := by decide +kernel
theorem dX11_hold_14 : decode cX11_hold 14 = .ok (.ireturn, 1) := by decide +kernel
theorem dX11_hold_15 : decode cX11_hold 15 = .ok (.aload_n 0, 1) := by decide +kernel
theorem dX11_hold_16 : decode cX11_hold 16 = .ok (.iload_n 1, 1) := by decide +kernel
theorem dX11_hold_17 : decode cX11_hold 17 = .ok (.invokevirtual 297, 3) := by decide +kernel
theorem dX11_hold_20 : decode cX11_hold 20 = .ok (.ifCond .le 5, 3) := by decide +kernel
theorem dX11_hold_23 : decode cX11_hold 23 = .ok (.iconst 1, 1) := by decide +kernel
theorem dX11_hold_24 : decode cX11_hold 24 = .ok (.ireturn, 1) := by decide +kernel
theorem dX11_hold_25 : decode cX11_hold 25 = .ok (.aload_n 0, 1) := by decide +kernel
theorem dX11_hold_26 : decode cX11_hold 26 = .ok (.invokevirtual 300, 3) := by decide +kernel
theorem dX11_hold_29 : decode cX11_hold 29 = .ok (.aload_n 0, 1) := by decide +kernel
theorem dX11_hold_30 : decode cX11_hold 30 = .ok (.iload_n 1, 1) := by decide +kernel
theorem dX11_hold_31 : decode cX11_hold 31 = .ok (.invokevirtual 303, 3) := by decide +kernel
theorem dX11_hold_34 : decode cX11_hold 34 = .ok (.iconst 0, 1) := by decide +kernel
theorem dX11_hold_35 : decode cX11_hold 35 = .ok (.ireturn, 1) := by decide +kernel
theorem dX11_keep_0 : decode cX11_keep 0 = .ok (.aload_n 0, 1) := by decide +kernel
theorem dX11_keep_1 : decode cX11_keep 1 = .ok (.getfield 233, 3) := by decide +kernel
theorem dX11_keep_4 : decode cX11_keep 4 = .ok (.bipush 8, 2) := by decide +kernel
theorem dX11_keep_6 : decode cX11_keep 6 = .ok (.if_icmp .ne 38, 3) := by decide +kernel
theorem dX11_keep_9 : decode cX11_keep 9 = .ok (.iconst 0, 1) := by decide +kernel
theorem dX11_keep_10 : decode cX11_keep 10 = .ok (.istore_n 1, 1) := by decide +kernel
theorem dX11_keep_11 : decode cX11_keep 11 = .ok (.iload_n 1, 1) := by decide +kernel
theorem dX11_keep_12 : decode cX11_keep 12 = .ok (.bipush 119, 2) := by decide +kernel
theorem dX11_keep_14 : decode cX11_keep 14 = .ok (.if_icmp .ge 24, 3) := by decide +kernel
theorem dX11_keep_17 : decode cX11_keep 17 = .ok (.aload_n 0, 1) := by decide +kernel
theorem dX11_keep_18 : decode cX11_keep 18 = .ok (.getfield 50, 3) := by decide +kernel
theorem dX11_keep_21 : decode cX11_keep 21 = .ok (.iload_n 1, 1) := by decide +kernel
theorem dX11_keep_22 : decode cX11_keep 22 = .ok (.aload_n 0, 1) := by decide +kernel
theorem dX11_keep_23 : decode cX11_keep 23 = .ok (.getfield 50, 3) := by decide +kernel
theorem dX11_keep_26 : decode cX11_keep 26 = .ok (.iload_n 1, 1) := by decide +kernel
theorem dX11_keep_27 : decode cX11_keep 27 = .ok (.bipush 17, 2) := by decide +kernel
theorem dX11_keep_29 : decode cX11_keep 29 = .ok (.iadd, 1) := by decide +kernel
theorem dX11_keep_30 : decode cX11_keep 30 = .ok (.iaload, 1) := by decide +kernel
theorem dX11_keep_31 : decode cX11_keep 31 = .ok (.iastore, 1) := by decide +kernel
theorem dX11_keep_32 : decode cX11_keep 32 = .ok (.iinc 1 1, 3) := by decide +kernel
theorem dX11_keep_35 : decode cX11_keep 35 = .ok (.goto (-24), 3) := by decide +kernel
theorem dX11_keep_38 : decode cX11_keep 38 = .ok (.aload_n 0, 1) := by decide +kernel
theorem dX11_keep_39 : decode cX11_keep 39 = .ok (.bipush 7, 2) := by decide +kernel
theorem dX11_keep_41 : decode cX11_keep 41 = .ok (.putfield 233, 3) := by decide +kernel
theorem dX11_keep_44 : decode cX11_keep 44 = .ok (.iconst 0, 1) := by decide +kernel
theorem dX11_keep_45 : decode cX11_keep 45 = .ok (.istore_n 1, 1) := by decide +kernel
theorem dX11_keep_46 : decode cX11_keep 46 = .ok (.iload_n 1, 1) := by decide +kernel
theorem dX11_keep_47 : decode cX11_keep 47 = .ok (.bipush 17, 2) := by decide +kernel
theorem dX11_keep_49 : decode cX11_keep 49 = .ok (.if_icmp .ge 32, 3) := by decide +kernel
theorem dX11_keep_52 : decode cX11_keep 52 = .ok (.aload_n 0, 1) := by decide +kernel
theorem dX11_keep_53 : decode cX11_keep 53 = .ok (.getfield 50, 3) := by decide +kernel
theorem dX11_keep_56 : decode cX11_keep 56 = .ok (.bipush 17, 2) := by decide +kernel
theorem dX11_keep_58 : decode cX11_keep 58 = .ok (.aload_n 0, 1) := by decide +kernel
theorem dX11_keep_59 : decode cX11_keep 59 = .ok (.getfield 233, 3) := by decide +kernel
theorem dX11_keep_62 : decode cX11_keep 62 = .ok (.imul, 1) := by decide +kernel
theorem dX11_keep_63 : decode cX11_keep 63 = .ok (.iload_n 1, 1) := by decide +kernel
theorem dX11_keep_64 : decode cX11_keep 64 = .ok (.iadd, 1) := by decide +kernel
theorem dX11_keep_65 : decode cX11_keep 65 = .ok (.aload_n 0, 1) := by decide +kernel
theorem dX11_keep_66 : decode cX11_keep 66 = .ok (.getfield 33, 3) := by decide +kernel
theorem dX11_keep_69 : decode cX11_keep 69 = .ok (.bipush 52, 2) := by decide +kernel
theorem dX11_keep_71 : decode cX11_keep 71 = .ok (.iload_n 1, 1) := by decide +kernel
theorem dX11_keep_72 : decode cX11_keep 72 = .ok (.iadd, 1) := by decide +kernel
theorem dX11_keep_73 : decode cX11_keep 73 = .ok (.iaload, 1) := by decide +kernel
theorem dX11_keep_74 : decode cX11_keep 74 = .ok (.iastore, 1) := by decide +kernel
theorem dX11_keep_75 : decode cX11_keep 75 = .ok (.iinc 1 1, 3) := by decide +kernel
theorem dX11_keep_78 : decode cX11_keep 78 = .ok (.goto (-32), 3) := by decide +kernel
theorem dX11_keep_81 : decode cX11_keep 81 = .ok (.aload_n 0, 1) := by decide +kernel
theorem dX11_keep_82 : decode cX11_keep 82 = .ok (.dup, 1) := by decide +kernel
theorem dX11_keep_83 : decode cX11_keep 83 = .ok (.getfield 233, 3) := by decide +kernel
theorem dX11_keep_86 : decode cX11_keep 86 = .ok (.iconst 1, 1) := by decide +kernel
theorem dX11_keep_87 : decode cX11_keep 87 = .ok (.iadd, 1) := by decide +kernel
theorem dX11_keep_88 : decode cX11_keep 88 = .ok (.putfield 233, 3) := by decide +kernel
theorem dX11_keep_91 : decode cX11_keep 91 = .ok (.return_, 1) := by decide +kernel
theorem flX11_33 : FL RX11 33 11 6 := ⟨RX11, TX11, 46, tyX11, cd_11, by decide, Or.inl (inr_6 _ (List.mem_of_getElem? (i := 16) rfl))⟩
theorem flX11_50 : FL RX11 50 11 21 := ⟨RX11, TX11, 46, tyX11, cd_11, by decide, Or.inl (inr_6 _ (List.mem_of_getElem? (i := 21) rfl))⟩
theorem flX11_158 : FL RX11 158 11 15 := ⟨RX11, TX11, 46, tyX11, cd_11, by decide, Or.inl (inr_16 _ (List.mem_of_getElem? (i := 23) rfl))⟩
theorem flX11_161 : FL RX11 161 11 16 := ⟨RX11, TX11, 46, tyX11, cd_11, by decide, Or.inl (inr_17 _ (List.mem_of_getElem? (i := 3) rfl))⟩
theorem flX11_224 : FL RX11 224 11 19 := ⟨RX11, TX11, 46, tyX11, cd_11, by decide, Or.inl (inr_17 _ (List.mem_of_getElem? (i := 0) rfl))⟩
theorem flX11_233 : FL RX11 233 11 23 := ⟨RX11, TX11, 46, tyX11, cd_11, by decide, Or.inl (inr_17 _ (List.mem_of_getElem? (i := 4) rfl))⟩
theorem fpX11_224 : FP RX11 224 11 19 .int := ⟨RX11, TX11, 46, tyX11, cd_11, by decide, (inr_17 _ (List.mem_of_getElem? (i := 0) rfl)), rfl, by decide +kernel⟩
theorem fpX11_233 : FP RX11 233 11 23 .int := ⟨RX11, TX11, 46, tyX11, cd_11, by decide, (inr_17 _ (List.mem_of_getElem? (i := 4) rfl)), rfl, by decide +kernel⟩
theorem mlX11_128 : MLv RX11 128 RX11 11 yX11_clears cX11_clears 2 none 0 := ⟨(inr_8 _ (List.mem_of_getElem? (i := 8) rfl)), (inr_8 _ (List.mem_of_getElem? (i := 5) rfl)), (inr_8 _ (List.mem_of_getElem? (i := 6) rfl)), (inr_8 _ (List.mem_of_getElem? (i := 7) rfl)), (inr_1 _ (List.mem_of_getElem? (i := 5) rfl)), rfl, ⟨by decide, by decide, by decide +kernel⟩, by decide, by decide, rfl⟩
theorem mlX11_221 : MLv RX11 221 RX11 11 yX11_taken cX11_taken 2 none 1 := ⟨(inr_17 _ (List.mem_of_getElem? (i := 8) rfl)), (inr_17 _ (List.mem_of_getElem? (i := 5) rfl)), (inr_17 _ (List.mem_of_getElem? (i := 6) rfl)), (inr_17 _ (List.mem_of_getElem? (i := 7) rfl)), (inr_1 _ (List.mem_of_getElem? (i := 5) rfl)), rfl, ⟨by decide, by decide, by decide +kernel⟩, by decide, by decide, rfl⟩
theorem mlX11_227 : MLv RX11 227 RX11 11 yX11_line cX11_line 1 (some .boolean) 0 := ⟨(inr_18 _ (List.mem_of_getElem? (i := 9) rfl)), (inr_18 _ (List.mem_of_getElem? (i := 6) rfl)), (inr_18 _ (List.mem_of_getElem? (i := 7) rfl)), (inr_18 _ (List.mem_of_getElem? (i := 8) rfl)), (inr_1 _ (List.mem_of_getElem? (i := 5) rfl)), rfl, ⟨by decide, by decide, by decide +kernel⟩, by decide, by decide, rfl⟩
theorem mlX11_230 : MLv RX11 230 RX11 11 yX11_sign cX11_sign 2 (some .boolean) 1 := ⟨(inr_20 _ (List.mem_of_getElem? (i := 17) rfl)), (inr_20 _ (List.mem_of_getElem? (i := 14) rfl)), (inr_20 _ (List.mem_of_getElem? (i := 15) rfl)), (inr_20 _ (List.mem_of_getElem? (i := 16) rfl)), (inr_1 _ (List.mem_of_getElem? (i := 5) rfl)), rfl, ⟨by decide, by decide, by decide +kernel⟩, by decide, by decide, rfl⟩
theorem mlX11_236 : MLs RX11 236 yX11_bitOf cX11_bitOf 2 (some .boolean) 2 := ⟨(inr_28 _ (List.mem_of_getElem? (i := 4) rfl)), (inr_28 _ (List.mem_of_getElem? (i := 2) rfl)), (inr_28 _ (List.mem_of_getElem? (i := 3) rfl)), (inr_1 _ (List.mem_of_getElem? (i := 5) rfl)), ⟨by decide, by decide, by decide +kernel⟩, by decide⟩
theorem mlX11_239 : MLv RX11 239 RX11 11 yX11_plainYear cX11_plainYear 2 (some .int) 1 := ⟨(inr_24 _ (List.mem_of_getElem? (i := 9) rfl)), (inr_24 _ (List.mem_of_getElem? (i := 6) rfl)), (inr_24 _ (List.mem_of_getElem? (i := 7) rfl)), (inr_24 _ (List.mem_of_getElem? (i := 8) rfl)), (inr_1 _ (List.mem_of_getElem? (i := 5) rfl)), rfl, ⟨by decide, by decide, by decide +kernel⟩, by decide, by decide, rfl⟩
theorem mlX11_243 : MLv RX11 243 RX11 11 yX11_allYears cX11_allYears 2 (some .int) 1 := ⟨(inr_24 _ (List.mem_of_getElem? (i := 5) rfl)), (inr_24 _ (List.mem_of_getElem? (i := 2) rfl)), (inr_24 _ (List.mem_of_getElem? (i := 3) rfl)), (inr_24 _ (List.mem_of_getElem? (i := 4) rfl)), (inr_1 _ (List.mem_of_getElem? (i := 5) rfl)), rfl, ⟨by decide, by decide, by decide +kernel⟩, by decide, by decide, rfl⟩
theorem mlX11_246 : MLv RX11 246 RX11 11 yX11_yearBy cX11_yearBy 4 (some .int) 2 := ⟨(inr_24 _ (List.mem_of_getElem? (i := 1) rfl)), (inr_23 _ (List.mem_of_getElem? (i := 22) rfl)), (inr_23 _ (List.mem_of_getElem? (i := 23) rfl)), (inr_24 _ (List.mem_of_getElem? (i := 0) rfl)), (inr_1 _ (List.mem_of_getElem? (i := 5) rfl)), rfl, ⟨by decide, by decide, by decide +kernel⟩, by decide, by decide, rfl⟩
theorem mlX11_249 : MLv RX11 249 RX11 11 yX11_firstBy cX11_firstBy 3 (some .int) 2 := ⟨(inr_24 _ (List.mem_of_getElem? (i := 17) rfl)), (inr_24 _ (List.mem_of_getElem? (i := 14) rfl)), (inr_24 _ (List.mem_of_getElem? (i := 15) rfl)), (inr_24 _ (List.mem_of_getElem? (i := 16) rfl)), (inr_1 _ (List.mem_of_getElem? (i := 5) rfl)), rfl, ⟨by decide, by decide, by decide +kernel⟩, by decide, by decide, rfl⟩
theorem mlX11_252 : MLv RX11 252 RX11 11 yX11_dated cX11_dated 5 (some .int) 2 := ⟨(inr_24 _ (List.mem_of_getElem? (i := 13) rfl)), (inr_24 _ (List.mem_of_getElem? (i := 10) rfl)), (inr_24 _ (List.mem_of_getElem? (i := 11) rfl)), (inr_24 _ (List.mem_of_getElem? (i := 12) rfl)), (inr_1 _ (List.mem_of_getElem? (i := 5) rfl)), rfl, ⟨by decide, by decide, by decide +kernel⟩, by decide, by decide, rfl⟩
theorem mlX11_255 : MLv RX11 255 RX11 11 yX11_isHeld cX11_isHeld 2 (some .boolean) 1 := ⟨(inr_28 _ (List.mem_of_getElem? (i := 1) rfl)), (inr_27 _ (List.mem_of_getElem? (i := 22) rfl)), (inr_27 _ (List.mem_of_getElem? (i := 23) rfl)), (inr_28 _ (List.mem_of_getElem? (i := 0) rfl)), (inr_1 _ (List.mem_of_getElem? (i := 5) rfl)), rfl, ⟨by decide, by decide, by decide +kernel⟩, by decide, by decide, rfl⟩
theorem mlX11_258 : MLv RX11 258 RX11 11 yX11_ahead cX11_ahead 3 (some .int) 2 := ⟨(inr_27 _ (List.mem_of_getElem? (i := 21) rfl)), (inr_27 _ (List.mem_of_getElem? (i := 18) rfl)), (inr_27 _ (List.mem_of_getElem? (i := 19) rfl)), (inr_27 _ (List.mem_of_getElem? (i := 20) rfl)), (inr_1 _ (List.mem_of_getElem? (i := 5) rfl)), rfl, ⟨by decide, by decide, by decide +kernel⟩, by decide, by decide, rfl⟩
theorem mlX11_261 : MLv RX11 261 RX11 11 yX11_datedIn cX11_datedIn 3 (some .int) 2 := ⟨(inr_27 _ (List.mem_of_getElem? (i := 17) rfl)), (inr_27 _ (List.mem_of_getElem? (i := 14) rfl)), (inr_27 _ (List.mem_of_getElem? (i := 15) rfl)), (inr_27 _ (List.mem_of_getElem? (i := 16) rfl)), (inr_1 _ (List.mem_of_getElem? (i := 5) rfl)), rfl, ⟨by decide, by decide, by decide +kernel⟩, by decide, by decide, rfl⟩
theorem mlX11_264 : MLv RX11 264 RX11 11 yX11_today cX11_today 2 (some .int) 1 := ⟨(inr_30 _ (List.mem_of_getElem? (i := 6) rfl)), (inr_30 _ (List.mem_of_getElem? (i := 3) rfl)), (inr_30 _ (List.mem_of_getElem? (i := 4) rfl)), (inr_30 _ (List.mem_of_getElem? (i := 5) rfl)), (inr_1 _ (List.mem_of_getElem? (i := 5) rfl)), rfl, ⟨by decide, by decide, by decide +kernel⟩, by decide, by decide, rfl⟩
theorem mlX11_267 : MLv RX11 267 RX11 11 yX11_isParish cX11_isParish 2 (some .boolean) 1 := ⟨(inr_22 _ (List.mem_of_getElem? (i := 11) rfl)), (inr_22 _ (List.mem_of_getElem? (i := 8) rfl)), (inr_22 _ (List.mem_of_getElem? (i := 9) rfl)), (inr_22 _ (List.mem_of_getElem? (i := 10) rfl)), (inr_1 _ (List.mem_of_getElem? (i := 5) rfl)), rfl, ⟨by decide, by decide, by decide +kernel⟩, by decide, by decide, rfl⟩
theorem mlX11_270 : MLv RX11 270 RX11 11 yX11_throwsIf cX11_throwsIf 2 (some .boolean) 1 := ⟨(inr_22 _ (List.mem_of_getElem? (i := 15) rfl)), (inr_22 _ (List.mem_of_getElem? (i := 12) rfl)), (inr_22 _ (List.mem_of_getElem? (i := 13) rfl)), (inr_22 _ (List.mem_of_getElem? (i := 14) rfl)), (inr_1 _ (List.mem_of_getElem? (i := 5) rfl)), rfl, ⟨by decide, by decide, by decide +kernel⟩, by decide, by decide, rfl⟩
theorem mlX11_275 : MLv RX11 275 RX11 11 yX11_counted cX11_counted 6 (some .int) 4 := ⟨(inr_25 _ (List.mem_of_getElem? (i := 17) rfl)), (inr_25 _ (List.mem_of_getElem? (i := 14) rfl)), (inr_25 _ (List.mem_of_getElem? (i := 15) rfl)), (inr_25 _ (List.mem_of_getElem? (i := 16) rfl)), (inr_1 _ (List.mem_of_getElem? (i := 5) rfl)), rfl, ⟨by decide, by decide, by decide +kernel⟩, by decide, by decide, rfl⟩
theorem mlX11_279 : MLv RX11 279 RX11 11 yX11_isFeast cX11_isFeast 2 (some .boolean) 1 := ⟨(inr_27 _ (List.mem_of_getElem? (i := 9) rfl)), (inr_27 _ (List.mem_of_getElem? (i := 6) rfl)), (inr_27 _ (List.mem_of_getElem? (i := 7) rfl)), (inr_27 _ (List.mem_of_getElem? (i := 8) rfl)), (inr_1 _ (List.mem_of_getElem? (i := 5) rfl)), rfl, ⟨by decide, by decide, by decide +kernel⟩, by decide, by decide, rfl⟩
theorem mlX11_282 : MLv RX11 282 RX11 11 yX11_fallsIn cX11_fallsIn 3 (some .boolean) 2 := ⟨(inr_27 _ (List.mem_of_getElem? (i := 13) rfl)), (inr_27 _ (List.mem_of_getElem? (i := 10) rfl)), (inr_27 _ (List.mem_of_getElem? (i := 11) rfl)), (inr_27 _ (List.mem_of_getElem? (i := 12) rfl)), (inr_1 _ (List.mem_of_getElem? (i := 5) rfl)), rfl, ⟨by decide, by decide, by decide +kernel⟩, by decide, by decide, rfl⟩
theorem mlX11_285 : MLv RX11 285 RX11 11 yX11_weekday cX11_weekday 2 (some .int) 1 := ⟨(inr_29 _ (List.mem_of_getElem? (i := 22) rfl)), (inr_29 _ (List.mem_of_getElem? (i := 19) rfl)), (inr_29 _ (List.mem_of_getElem? (i := 20) rfl)), (inr_29 _ (List.mem_of_getElem? (i := 21) rfl)), (inr_1 _ (List.mem_of_getElem? (i := 5) rfl)), rfl, ⟨by decide, by decide, by decide +kernel⟩, by decide, by decide, rfl⟩
theorem mlX11_288 : MLv RX11 288 RX11 11 yX11_isBetween cX11_isBetween 2 (some .boolean) 1 := ⟨(inr_30 _ (List.mem_of_getElem? (i := 2) rfl)), (inr_29 _ (List.mem_of_getElem? (i := 23) rfl)), (inr_30 _ (List.mem_of_getElem? (i := 0) rfl)), (inr_30 _ (List.mem_of_getElem? (i := 1) rfl)), (inr_1 _ (List.mem_of_getElem? (i := 5) rfl)), rfl, ⟨by decide, by decide, by decide +kernel⟩, by decide, by decide, rfl⟩
theorem mlX11_291 : MLv RX11 291 RX11 11 yX11_sumOf cX11_sumOf 4 (some .int) 1 := ⟨(inr_30 _ (List.mem_of_getElem? (i := 10) rfl)), (inr_30 _ (List.mem_of_getElem? (i := 7) rfl)), (inr_30 _ (List.mem_of_getElem? (i := 8) rfl)), (inr_30 _ (List.mem_of_getElem? (i := 9) rfl)), (inr_1 _ (List.mem_of_getElem? (i := 5) rfl)), rfl, ⟨by decide, by decide, by decide +kernel⟩, by decide, by decide, rfl⟩
theorem mlX11_294 : MLv RX11 294 RX11 11 yX11_day cX11_day 2 none 0 := ⟨(inr_33 _ (List.mem_of_getElem? (i := 15) rfl)), (inr_33 _ (List.mem_of_getElem? (i := 12) rfl)), (inr_33 _ (List.mem_of_getElem? (i := 13) rfl)), (inr_33 _ (List.mem_of_getElem? (i := 14) rfl)), (inr_1 _ (List.mem_of_getElem? (i := 5) rfl)), rfl, ⟨by decide, by decide, by decide +kernel⟩, by decide, by decide, rfl⟩
theorem mlX11_297 : MLv RX11 297 RX11 11 yX11_whyHold cX11_whyHold 2 (some .int) 1 := ⟨(inr_31 _ (List.mem_of_getElem? (i := 10) rfl)), (inr_31 _ (List.mem_of_getElem? (i := 7) rfl)), (inr_31 _ (List.mem_of_getElem? (i := 8) rfl)), (inr_31 _ (List.mem_of_getElem? (i := 9) rfl)), (inr_1 _ (List.mem_of_getElem? (i := 5) rfl)), rfl, ⟨by decide, by decide, by decide +kernel⟩, by decide, by decide, rfl⟩
theorem mlX11_300 : MLv RX11 300 RX11 11 yX11_keep cX11_keep 2 none 0 := ⟨(inr_31 _ (List.mem_of_getElem? (i := 14) rfl)), (inr_31 _ (List.mem_of_getElem? (i := 11) rfl)), (inr_31 _ (List.mem_of_getElem? (i := 12) rfl)), (inr_31 _ (List.mem_of_getElem? (i := 13) rfl)), (inr_1 _ (List.mem_of_getElem? (i := 5) rfl)), rfl, ⟨by decide, by decide, by decide +kernel⟩, by decide, by decide, rfl⟩
theorem mlX11_303 : MLv RX11 303 RX11 11 yX11_holds cX11_holds 2 none 1 := ⟨(inr_31 _ (List.mem_of_getElem? (i := 18) rfl)), (inr_31 _ (List.mem_of_getElem? (i := 15) rfl)), (inr_31 _ (List.mem_of_getElem? (i := 16) rfl)), (inr_31 _ (List.mem_of_getElem? (i := 17) rfl)), (inr_1 _ (List.mem_of_getElem? (i := 5) rfl)), rfl, ⟨by decide, by decide, by decide +kernel⟩, by decide, by decide, rfl⟩
def fX11_valley_s180 (a0 : Nat)   (S : St) : Option (Int32 × St) :=
  some ((gI S 11 19 a0), S)
def fX11_valley_s169 (k146 : Int32 → St → Option (Int32 × St)) (a0 : Nat) (y1 : Int32)  (S : St) : Option (Int32 × St) :=
  k146 (y1 + (1 : Int32)) S
def fX11_valley_s146 (k146 : Int32 → St → Option (Int32 × St)) (a0 : Nat) (y1 : Int32)  (S : St) : Option (Int32 × St) :=
  if (5 : Int32) ≤ y1 then (fX11_valley_s180 a0 (sI S 11 23 a0 (0 : Int32))) else
  (if (((19 : Int32) + y1) < 0 ∨ 250 ≤ ((19 : Int32) + y1).toNatClampNeg) then none else
  if (((54 : Int32) + y1) < 0 ∨ 250 ≤ ((54 : Int32) + y1).toNatClampNeg) then none else
  fX11_valley_s169 k146 a0 y1 (sA S 29 (a0 + 2) (((54 : Int32) + y1).toNatClampNeg) (gA S 29 (a0 + 2) (((19 : Int32) + y1).toNatClampNeg))))
def fX11_valley_h146 (a0 : Nat) : Nat → Int32 → St → Option (Int32 × St)
  | 0, _, _ => none
  | n + 1, y1, S => fX11_valley_s146 (fX11_valley_h146 a0 n) a0 y1 S
def fX11_valley_s138 (k117 : Int32 → St → Option (Int32 × St)) (a0 : Nat) (y1 : Int32)  (S : St) : Option (Int32 × St) :=
  k117 (y1 + (1 : Int32)) S
def fX11_valley_s117 (k117 : Int32 → St → Option (Int32 × St)) (a0 : Nat) (y1 : Int32)  (S : St) : Option (Int32 × St) :=
  if (11 : Int32) ≤ y1 then (fX11_valley_h146 a0 NN (0 : Int32) S) else
  (if (((11 : Int32) + y1) < 0 ∨ 22 ≤ ((11 : Int32) + y1).toNatClampNeg) then none else
  if (y1 < 0 ∨ 22 ≤ y1.toNatClampNeg) then none else
  fX11_valley_s138 k117 a0 y1 (sB S 32 (a0 + 5) y1.toNatClampNeg (gB S 32 (a0 + 5) (((11 : Int32) + y1).toNatClampNeg))))
def fX11_valley_h117 (a0 : Nat) : Nat → Int32 → St → Option (Int32 × St)
  | 0, _, _ => none
  | n + 1, y1, S => fX11_valley_s117 (fX11_valley_h117 a0 n) a0 y1 S
def fX11_valley_s109 (k80 : Int32 → St → Option (Int32 × St)) (a0 : Nat) (y1 : Int32)  (S : St) : Option (Int32 × St) :=
  k80 (y1 + (1 : Int32)) S
def fX11_valley_s80 (k80 : Int32 → St → Option (Int32 × St)) (a0 : Nat) (y1 : Int32)  (S : St) : Option (Int32 × St) :=
  if (250 : Int32) ≤ y1 then (fX11_valley_h117 a0 NN (0 : Int32) S) else
  (if (52 : Int32) ≤ y1 then (if (y1 < 0 ∨ 250 ≤ y1.toNatClampNeg) then none else
  fX11_valley_s109 k80 a0 y1 (sA S 29 (a0 + 2) y1.toNatClampNeg (0 : Int32))) else
  (if (y1 < 0 ∨ 52 ≤ y1.toNatClampNeg) then none else
  if (y1 < 0 ∨ 250 ≤ y1.toNatClampNeg) then none else
  fX11_valley_s109 k80 a0 y1 (sA S 29 (a0 + 2) y1.toNatClampNeg (gA S 30 (a0 + 3) y1.toNatClampNeg))))
def fX11_valley_h80 (a0 : Nat) : Nat → Int32 → St → Option (Int32 × St)
  | 0, _, _ => none
  | n + 1, y1, S => fX11_valley_s80 (fX11_valley_h80 a0 n) a0 y1 S
def fX11_valley_s75 (k35 : St → Option (Int32 × St)) (a0 : Nat)   (S : St) : Option (Int32 × St) :=
  k35  S
def fX11_valley_s55 (k35 : St → Option (Int32 × St)) (a0 : Nat)  (t0 : Int32) (S : St) : Option (Int32 × St) :=
  if t0 = 0 then (some (((-1 : Int32) - (gI S 11 16 a0)), S)) else
  (fX11_valley_s75 k35 a0 (sI S 11 19 a0 ((gI S 11 19 a0) + (1 : Int32))))
def fX11_valley_s46 (k35 : St → Option (Int32 × St)) (a0 : Nat)  (t0 : Int32) (S : St) : Option (Int32 × St) :=
  if t0 = 0 then (some (((-1 : Int32) - (gI S 11 16 a0)), S)) else
  ((fX11_sign a0 (59 : Int32) S).bind fun r_20 =>
  fX11_valley_s55 k35 a0 r_20.1 r_20.2)
def fX11_valley_s35 (k35 : St → Option (Int32 × St)) (a0 : Nat)   (S : St) : Option (Int32 × St) :=
  if (gI S 11 11 a0) = 0 then (fX11_valley_h80 a0 NN (0 : Int32) S) else
  ((fX11_line a0 S).bind fun r_17 =>
  fX11_valley_s46 k35 a0 r_17.1 r_17.2)
def fX11_valley_h35 (a0 : Nat) : Nat → St → Option (Int32 × St)
  | 0, _ => none
  | n + 1, S => fX11_valley_s35 (fX11_valley_h35 a0 n) a0  S
def fX11_valley_s27 (a0 : Nat)   (S : St) : Option (Int32 × St) :=
  (fX11_clears a0 S).bind fun r_1 =>
  (fX11_step a0 r_1).bind fun r_3 =>
  fX11_valley_h35 a0 NN r_3
def fX11_valley_s22 (a0 : Nat)   (S : St) : Option (Int32 × St) :=
  fX11_valley_s27 a0 (sI S 11 20 a0 (0 : Int32))
def fX11_valley_s17 (a0 : Nat)   (S : St) : Option (Int32 × St) :=
  fX11_valley_s22 a0 (sI S 11 19 a0 (0 : Int32))
def fX11_valley_s12 (a0 : Nat)   (S : St) : Option (Int32 × St) :=
  fX11_valley_s17 a0 (sI S 11 15 a0 (0 : Int32))
def fX11_valley_s5 (a0 : Nat)   (S : St) : Option (Int32 × St) :=
  fX11_valley_s12 a0 (fX11_taken a0 (900 : Int32) S)
def fX11_valley (a0 : Nat) (S : St) : Option (Int32 × St) :=
  fX11_valley_s5 a0 (sI S 11 0 a0 (0 : Int32))
theorem wX11_valley_s180 {z : Mx} {ad : Nat → Nat} {o : Option Value × St} (X : CxOk z ad RX11 cX11_valley 2 (some .int) 7) (a0 : Nat) (h0 : KT a0 = 11)     (S : St) (r : (Int32 × St)) (ho : o = (some (.int r.1), r.2)) (hF : fX11_valley_s180 a0   S = some r) : GW z ad o S 180 [(0, .ref (ad a0))] [] := by
  unfold fX11_valley_s180 at hF
  refine g_aload_n X dX11_valley_180 0 rfl rfl ?_
  refine g_getI X dX11_valley_181 flX11_224 rfl h0 ?_
  have hF := Option.some.inj hF
  subst hF
  exact g_iret X dX11_valley_184 ho
theorem wX11_valley_s169 {z : Mx} {ad : Nat → Nat} {o : Option Value × St} (X : CxOk z ad RX11 cX11_valley 2 (some .int) 7) (a0 : Nat) (h0 : KT a0 = 11) (y1 : Int32)  (k146 : Int32 → St → Option (Int32 × St))   (S : St) (r : (Int32 × St)) (ho : o = (some (.int r.1), r.2)) (hk146 : ∀ (y1 : Int32) (S : St), k146 y1 S = some r → GW z ad o S 146 [(0, .ref (ad a0)), (1, .int y1)] []) (hF : fX11_valley_s169 k146 a0 y1  S = some r) : GW z ad o S 169 [(0, .ref (ad a0)), (1, .int y1)] [] := by
  unfold fX11_valley_s169 at hF
  refine g_iinc (v := (y1 + (1 : Int32))) X dX11_valley_169 1 rfl rfl (by decide) (lv' := [(1, .int (y1 + (1 : Int32))), (0, .ref (ad a0))]) rfl ?_
  refine g_goto (tgt := 146) X dX11_valley_172 (by decide) ?_
  exact g_perm [1, 0] rfl (hk146 (y1 + (1 : Int32)) S hF)
theorem wX11_valley_s146 {z : Mx} {ad : Nat → Nat} {o : Option Value × St} (X : CxOk z ad RX11 cX11_valley 2 (some .int) 7) (a0 : Nat) (h0 : KT a0 = 11) (y1 : Int32)  (k146 : Int32 → St → Option (Int32 × St))   (S : St) (r : (Int32 × St)) (ho : o = (some (.int r.1), r.2)) (hk146 : ∀ (y1 : Int32) (S : St), k146 y1 S = some r → GW z ad o S 146 [(0, .ref (ad a0)), (1, .int y1)] []) (hF : fX11_valley_s146 k146 a0 y1  S = some r) : GW z ad o S 146 [(0, .ref (ad a0)), (1, .int y1)] [] := by
  unfold fX11_valley_s146 at hF
  refine g_iload_n X dX11_valley_146 1 rfl rfl ?_
  refine g_iconst (v := 5) X dX11_valley_147 (by decide) ?_
  refine g_icmp_ge (tgt := 175) X dX11_valley_148 (by decide) (fun c_8 => ?_) (fun c_8 => ?_)
  · rw [if_pos c_8] at hF
    refine g_aload_n X dX11_valley_175 0 rfl rfl ?_
    refine g_iconst (v := 0) X dX11_valley_176 (by decide) ?_
    refine g_putI X dX11_valley_177 fpX11_233 rfl rfl rfl h0 ?_
    exact g_perm [0] rfl (wX11_valley_s180 X a0 h0 (sI S 11 23 a0 (0 : Int32)) r ho hF)
  · rw [if_neg c_8] at hF
    refine g_aload_n X dX11_valley_151 0 rfl rfl ?_
    refine g_getR (f := 2) X dX11_valley_152 flX11_33 rfl rfl h0 ?_
    refine g_bipush (v := 54) X dX11_valley_155 (by decide) ?_
    refine g_iload_n X dX11_valley_157 1 rfl rfl ?_
    refine g_iadd X dX11_valley_158 ?_
    refine g_aload_n X dX11_valley_159 0 rfl rfl ?_
    refine g_getR (f := 2) X dX11_valley_160 flX11_33 rfl rfl h0 ?_
    refine g_bipush (v := 19) X dX11_valley_163 (by decide) ?_
    refine g_iload_n X dX11_valley_165 1 rfl rfl ?_
    refine g_iadd X dX11_valley_166 ?_
    obtain ⟨e_9, hF⟩ := oguard hF
    refine g_iald X dX11_valley_167 kd_29 (on_11_6 h0) e_9 ?_
    obtain ⟨e_10, hF⟩ := oguard hF
    refine g_iast X dX11_valley_168 kd_29 (on_11_6 h0) e_10 ?_
    exact (wX11_valley_s169 X a0 h0 y1 k146 (sA S 29 (a0 + 2) (((54 : Int32) + y1).toNatClampNeg) (gA S 29 (a0 + 2) (((19 : Int32) + y1).toNatClampNeg))) r ho hk146 hF)
theorem wX11_valley_h146 {z : Mx} {ad : Nat → Nat} {o : Option Value × St} (X : CxOk z ad RX11 cX11_valley 2 (some .int) 7) (a0 : Nat) (h0 : KT a0 = 11)  (r : (Int32 × St)) (ho : o = (some (.int r.1), r.2)) : ∀ (n : Nat) (y1 : Int32) (S : St), fX11_valley_h146 a0 n y1 S = some r → GW z ad o S 146 [(0, .ref (ad a0)), (1, .int y1)] [] := by
  intro n
  induction n with
  | zero => intro y1 S  hF; cases hF
  | succ n ih => intro y1 S  hF; exact wX11_valley_s146 X a0 h0 y1 (fX11_valley_h146 a0 n)  S r ho ih hF
theorem wX11_valley_s138 {z : Mx} {ad : Nat → Nat} {o : Option Value × St} (X : CxOk z ad RX11 cX11_valley 2 (some .int) 7) (a0 : Nat) (h0 : KT a0 = 11) (y1 : Int32)  (k117 : Int32 → St → Option (Int32 × St))   (S : St) (r : (Int32 × St)) (ho : o = (some (.int r.1), r.2)) (hk117 : ∀ (y1 : Int32) (S : St), k117 y1 S = some r → GW z ad o S 117 [(0, .ref (ad a0)), (1, .int y1)] []) (hF : fX11_valley_s138 k117 a0 y1  S = some r) : GW z ad o S 138 [(0, .ref (ad a0)), (1, .int y1)] [] := by
  unfold fX11_valley_s138 at hF
  refine g_iinc (v := (y1 + (1 : Int32))) X dX11_valley_138 1 rfl rfl (by decide) (lv' := [(1, .int (y1 + (1 : Int32))), (0, .ref (ad a0))]) rfl ?_
  refine g_goto (tgt := 117) X dX11_valley_141 (by decide) ?_
  exact g_perm [1, 0] rfl (hk117 (y1 + (1 : Int32)) S hF)
theorem wX11_valley_s117 {z : Mx} {ad : Nat → Nat} {o : Option Value × St} (X : CxOk z ad RX11 cX11_valley 2 (some .int) 7) (a0 : Nat) (h0 : KT a0 = 11) (y1 : Int32)  (k117 : Int32 → St → Option (Int32 × St))   (S : St) (r : (Int32 × St)) (ho : o = (some (.int r.1), r.2)) (hk117 : ∀ (y1 : Int32) (S : St), k117 y1 S = some r → GW z ad o S 117 [(0, .ref (ad a0)), (1, .int y1)] []) (hF : fX11_valley_s117 k117 a0 y1  S = some r) : GW z ad o S 117 [(0, .ref (ad a0)), (1, .int y1)] [] := by
  unfold fX11_valley_s117 at hF
  refine g_iload_n X dX11_valley_117 1 rfl rfl ?_
  refine g_bipush (v := 11) X dX11_valley_118 (by decide) ?_
  refine g_icmp_ge (tgt := 144) X dX11_valley_120 (by decide) (fun c_7 => ?_) (fun c_7 => ?_)
  · rw [if_pos c_7] at hF
    refine g_iconst (v := 0) X dX11_valley_144 (by decide) ?_
    refine g_istore_n X dX11_valley_145 rfl (by decide) (lv' := [(1, .int (0 : Int32)), (0, .ref (ad a0))]) rfl ?_
    exact g_perm [1, 0] rfl (wX11_valley_h146 X a0 h0 r ho NN (0 : Int32) S hF)
  · rw [if_neg c_7] at hF
    refine g_aload_n X dX11_valley_123 0 rfl rfl ?_
    refine g_getR (f := 5) X dX11_valley_124 flX11_43 rfl rfl h0 ?_
    refine g_iload_n X dX11_valley_127 1 rfl rfl ?_
    refine g_aload_n X dX11_valley_128 0 rfl rfl ?_
    refine g_getR (f := 5) X dX11_valley_129 flX11_43 rfl rfl h0 ?_
    refine g_bipush (v := 11) X dX11_valley_132 (by decide) ?_
    refine g_iload_n X dX11_valley_134 1 rfl rfl ?_
    refine g_iadd X dX11_valley_135 ?_
    obtain ⟨e_11, hF⟩ := oguard hF
    refine g_lald X dX11_valley_136 kd_32 (on_11_9 h0) e_11 ?_
    obtain ⟨e_12, hF⟩ := oguard hF
    refine g_last X dX11_valley_137 kd_32 (on_11_9 h0) e_12 ?_
    exact (wX11_valley_s138 X a0 h0 y1 k117 (sB S 32 (a0 + 5) y1.toNatClampNeg (gB S 32 (a0 + 5) (((11 : Int32) + y1).toNatClampNeg))) r ho hk117 hF)
theorem wX11_valley_h117 {z : Mx} {ad : Nat → Nat} {o : Option Value × St} (X : CxOk z ad RX11 cX11_valley 2 (some .int) 7) (a0 : Nat) (h0 : KT a0 = 11)  (r : (Int32 × St)) (ho : o = (some (.int r.1), r.2)) : ∀ (n : Nat) (y1 : Int32) (S : St), fX11_valley_h117 a0 n y1 S = some r → GW z ad o S 117 [(0, .ref (ad a0)), (1, .int y1)] [] := by
  intro n
  induction n with
  | zero => intro y1 S  hF; cases hF
  | succ n ih => intro y1 S  hF; exact wX11_valley_s117 X a0 h0 y1 (fX11_valley_h117 a0 n)  S r ho ih hF
theorem wX11_valley_s109 {z : Mx} {ad : Nat → Nat} {o : Option Value × St} (X : CxOk z ad RX11 cX11_valley 2 (some .int) 7) (a0 : Nat) (h0 : KT a0 = 11) (y1 : Int32)  (k80 : Int32 → St → Option (Int32 × St))   (S : St) (r : (Int32 × St)) (ho : o = (some (.int r.1), r.2)) (hk80 : ∀ (y1 : Int32) (S : St), k80 y1 S = some r → GW z ad o S 80 [(0, .ref (ad a0)), (1, .int y1)] []) (hF : fX11_valley_s109 k80 a0 y1  S = some r) : GW z ad o S 109 [(0, .ref (ad a0)), (1, .int y1)] [] := by
  unfold fX11_valley_s109 at hF
  refine g_iinc (v := (y1 + (1 : Int32))) X dX11_valley_109 1 rfl rfl (by decide) (lv' := [(1, .int (y1 + (1 : Int32))), (0, .ref (ad a0))]) rfl ?_
  refine g_goto (tgt := 80) X dX11_valley_112 (by decide) ?_
  exact g_perm [1, 0] rfl (hk80 (y1 + (1 : Int32)) S hF)
theorem wX11_valley_s80 {z : Mx} {ad : Nat → Nat} {o : Option Value × St} (X : CxOk z ad RX11 cX11_valley 2 (some .int) 7) (a0 : Nat) (h0 : KT a0 = 11) (y1 : Int32)  (k80 : Int32 → St → Option (Int32 × St))   (S : St) (r : (Int32 × St)) (ho : o = (some (.int r.1), r.2)) (hk80 : ∀ (y1 : Int32) (S : St), k80 y1 S = some r → GW z ad o S 80 [(0, .ref (ad a0)), (1, .int y1)] []) (hF : fX11_valley_s80 k80 a0 y1  S = some r) : GW z ad o S 80 [(0, .ref (ad a0)), (1, .int y1)] [] := by
  unfold fX11_valley_s80 at hF
  refine g_iload_n X dX11_valley_80 1 rfl rfl ?_
  refine g_sipush (v := 250) X dX11_valley_81 (by decide) ?_
  refine g_icmp_ge (tgt := 115) X dX11_valley_84 (by decide) (fun c_6 => ?_) (fun c_6 => ?_)
  · rw [if_pos c_6] at hF
    refine g_iconst (v := 0) X dX11_valley_115 (by decide) ?_
    refine g_istore_n X dX11_valley_116 rfl (by decide) (lv' := [(1, .int (0 : Int32)), (0, .ref (ad a0))]) rfl ?_
    exact g_perm [1, 0] rfl (wX11_valley_h117 X a0 h0 r ho NN (0 : Int32) S hF)
  · rw [if_neg c_6] at hF
    refine g_aload_n X dX11_valley_87 0 rfl rfl ?_
    refine g_getR (f := 2) X dX11_valley_88 flX11_33 rfl rfl h0 ?_
    refine g_iload_n X dX11_valley_91 1 rfl rfl ?_
    refine g_iload_n X dX11_valley_92 1 rfl rfl ?_
    refine g_bipush (v := 52) X dX11_valley_93 (by decide) ?_
    refine g_icmp_ge (tgt := 107) X dX11_valley_95 (by decide) (fun c_13 => ?_) (fun c_13 => ?_)
    · rw [if_pos c_13] at hF
      refine g_iconst (v := 0) X dX11_valley_107 (by decide) ?_
      obtain ⟨e_14, hF⟩ := oguard hF
      refine g_iast X dX11_valley_108 kd_29 (on_11_6 h0) e_14 ?_
      exact (wX11_valley_s109 X a0 h0 y1 k80 (sA S 29 (a0 + 2) y1.toNatClampNeg (0 : Int32)) r ho hk80 hF)
    · rw [if_neg c_13] at hF
      refine g_aload_n X dX11_valley_98 0 rfl rfl ?_
      refine g_getR (f := 3) X dX11_valley_99 flX11_37 rfl rfl h0 ?_
      refine g_iload_n X dX11_valley_102 1 rfl rfl ?_
      obtain ⟨e_15, hF⟩ := oguard hF
      refine g_iald X dX11_valley_103 kd_30 (on_11_7 h0) e_15 ?_
      refine g_goto (tgt := 108) X dX11_valley_104 (by decide) ?_
      obtain ⟨e_16, hF⟩ := oguard hF
      refine g_iast X dX11_valley_108 kd_29 (on_11_6 h0) e_16 ?_
      exact (wX11_valley_s109 X a0 h0 y1 k80 (sA S 29 (a0 + 2) y1.toNatClampNeg (gA S 30 (a0 + 3) y1.toNatClampNeg)) r ho hk80 hF)
theorem wX11_valley_h80 {z : Mx} {ad : Nat → Nat} {o : Option Value × St} (X : CxOk z ad RX11 cX11_valley 2 (some .int) 7) (a0 : Nat) (h0 : KT a0 = 11)  (r : (Int32 × St)) (ho : o = (some (.int r.1), r.2)) : ∀ (n : Nat) (y1 : Int32) (S : St), fX11_valley_h80 a0 n y1 S = some r → GW z ad o S 80 [(0, .ref (ad a0)), (1, .int y1)] [] := by
  intro n
  induction n with
  | zero => intro y1 S  hF; cases hF
  | succ n ih => intro y1 S  hF; exact wX11_valley_s80 X a0 h0 y1 (fX11_valley_h80 a0 n)  S r ho ih hF
theorem wX11_valley_s75 {z : Mx} {ad : Nat → Nat} {o : Option Value × St} (X : CxOk z ad RX11 cX11_valley 2 (some .int) 7) (a0 : Nat) (h0 : KT a0 = 11)   (k35 : St → Option (Int32 × St))   (S : St) (r : (Int32 × St)) (ho : o = (some (.int r.1), r.2)) (hk35 : ∀  (S : St), k35  S = some r → GW z ad o S 35 [(0, .ref (ad a0))] []) (hF : fX11_valley_s75 k35 a0   S = some r) : GW z ad o S 75 [(0, .ref (ad a0))] [] := by
  unfold fX11_valley_s75 at hF
  refine g_goto (tgt := 35) X dX11_valley_75 (by decide) ?_
  exact (hk35  S hF)
theorem wX11_valley_s55 {z : Mx} {ad : Nat → Nat} {o : Option Value × St} (X : CxOk z ad RX11 cX11_valley 2 (some .int) 7) (a0 : Nat) (h0 : KT a0 = 11)  (t0 : Int32) (k35 : St → Option (Int32 × St))   (S : St) (r : (Int32 × St)) (ho : o = (some (.int r.1), r.2)) (hk35 : ∀  (S : St), k35  S = some r → GW z ad o S 35 [(0, .ref (ad a0))] []) (hF : fX11_valley_s55 k35 a0  t0 S = some r) : GW z ad o S 55 [(0, .ref (ad a0))] [.int t0] := by
  unfold fX11_valley_s55 at hF
  refine g_if_ne (tgt := 65) X dX11_valley_55 (by decide) (fun c_22 => ?_) (fun c_22 => ?_)
  · rw [if_neg c_22] at hF
    refine g_aload_n X dX11_valley_65 0 rfl rfl ?_
    refine g_dup (a := .ref (ad a0)) X dX11_valley_66 rfl ?_
    refine g_getI X dX11_valley_67 flX11_224 rfl h0 ?_
    refine g_iconst (v := 1) X dX11_valley_70 (by decide) ?_
    refine g_iadd X dX11_valley_71 ?_
    refine g_putI X dX11_valley_72 fpX11_224 rfl rfl rfl h0 ?_
    exact (wX11_valley_s75 X a0 h0 k35 (sI S 11 19 a0 ((gI S 11 19 a0) + (1 : Int32))) r ho hk35 hF)
  · rw [if_pos c_22] at hF
    refine g_iconst (v := -1) X dX11_valley_58 (by decide) ?_
    refine g_aload_n X dX11_valley_59 0 rfl rfl ?_
    refine g_getI X dX11_valley_60 flX11_161 rfl h0 ?_
    refine g_isub X dX11_valley_63 ?_
    have hF := Option.some.inj hF
    subst hF
    exact g_iret X dX11_valley_64 ho
theorem wX11_valley_s46 {z : Mx} {ad : Nat → Nat} {o : Option Value × St} (X : CxOk z ad RX11 cX11_valley 2 (some .int) 7) (a0 : Nat) (h0 : KT a0 = 11)  (t0 : Int32) (k35 : St → Option (Int32 × St))   (S : St) (r : (Int32 × St)) (ho : o = (some (.int r.1), r.2)) (hk35 : ∀  (S : St), k35  S = some r → GW z ad o S 35 [(0, .ref (ad a0))] []) (hF : fX11_valley_s46 k35 a0  t0 S = some r) : GW z ad o S 46 [(0, .ref (ad a0))] [.int t0] := by
  unfold fX11_valley_s46 at hF
  refine g_if_eq (tgt := 58) X dX11_valley_46 (by decide) (fun c_19 => ?_) (fun c_19 => ?_)
  · rw [if_pos c_19] at hF
    refine g_iconst (v := -1) X dX11_valley_58 (by decide) ?_
    refine g_aload_n X dX11_valley_59 0 rfl rfl ?_
    refine g_getI X dX11_valley_60 flX11_161 rfl h0 ?_
    refine g_isub X dX11_valley_63 ?_
    have hF := Option.some.inj hF
    subst hF
    exact g_iret X dX11_valley_64 ho
  · rw [if_neg c_19] at hF
    refine g_aload_n X dX11_valley_49 0 rfl rfl ?_
    refine g_bipush (v := 59) X dX11_valley_50 (by decide) ?_
    obtain ⟨r_20, q_21, hF⟩ := obind hF
    refine g_callVi (As := [.int (59 : Int32)]) X dX11_valley_52 mlX11_230 (fun l D cyy => tX11_sign (cx_inj X) l D cyy a0 (59 : Int32) h0 S r_20 q_21) h0 (by decide) rfl rfl (Nat.le_of_ble_eq_true rfl) ?_
    exact (wX11_valley_s55 X a0 h0 r_20.1 k35 r_20.2 r ho hk35 hF)
theorem wX11_valley_s35 {z : Mx} {ad : Nat → Nat} {o : Option Value × St} (X : CxOk z ad RX11 cX11_valley 2 (some .int) 7) (a0 : Nat) (h0 : KT a0 = 11)   (k35 : St → Option (Int32 × St))   (S : St) (r : (Int32 × St)) (ho : o = (some (.int r.1), r.2)) (hk35 : ∀  (S : St), k35  S = some r → GW z ad o S 35 [(0, .ref (ad a0))] []) (hF : fX11_valley_s35 k35 a0   S = some r) : GW z ad o S 35 [(0, .ref (ad a0))] [] := by
  unfold fX11_valley_s35 at hF
  refine g_aload_n X dX11_valley_35 0 rfl rfl ?_
  refine g_getI X dX11_valley_36 flX11_141 rfl h0 ?_
  refine g_if_eq (tgt := 78) X dX11_valley_39 (by decide) (fun c_5 => ?_) (fun c_5 => ?_)
  · rw [if_pos c_5] at hF
    refine g_iconst (v := 0) X dX11_valley_78 (by decide) ?_
    refine g_istore_n X dX11_valley_79 rfl (by decide) (lv' := [(1, .int (0 : Int32)), (0, .ref (ad a0))]) rfl ?_
    exact g_perm [1, 0] rfl (wX11_valley_h80 X a0 h0 r ho NN (0 : Int32) S hF)
  · rw [if_neg c_5] at hF
    refine g_aload_n X dX11_valley_42 0 rfl rfl ?_
    obtain ⟨r_17, q_18, hF⟩ := obind hF
    refine g_callVi (As := []) X dX11_valley_43 mlX11_227 (fun l D cyy => tX11_line (cx_inj X) l D cyy a0 h0 S r_17 q_18) h0 (by decide) rfl rfl (Nat.le_of_ble_eq_true rfl) ?_
    exact (wX11_valley_s46 X a0 h0 r_17.1 k35 r_17.2 r ho hk35 hF)
theorem wX11_valley_h35 {z : Mx} {ad : Nat → Nat} {o : Option Value × St} (X : CxOk z ad RX11 cX11_valley 2 (some .int) 7) (a0 : Nat) (h0 : KT a0 = 11)  (r : (Int32 × St)) (ho : o = (some (.int r.1), r.2)) : ∀ (n : Nat)  (S : St), fX11_valley_h35 a0 n  S = some r → GW z ad o S 35 [(0, .ref (ad a0))] [] := by
  intro n
  induction n with
  | zero => intro  S  hF; cases hF
  | succ n ih => intro  S  hF; exact wX11_valley_s35 X a0 h0  (fX11_valley_h35 a0 n)  S r ho ih hF
theorem wX11_valley_s27 {z : Mx} {ad : Nat → Nat} {o : Option Value × St} (X : CxOk z ad RX11 cX11_valley 2 (some .int) 7) (a0 : Nat) (h0 : KT a0 = 11)     (S : St) (r : (Int32 × St)) (ho : o = (some (.int r.1), r.2)) (hF : fX11_valley_s27 a0   S = some r) : GW z ad o S 27 [(0, .ref (ad a0))] [] := by
  unfold fX11_valley_s27 at hF
  refine g_aload_n X dX11_valley_27 0 rfl rfl ?_
  obtain ⟨r_1, q_2, hF⟩ := obind hF
  refine g_callVv (As := []) X dX11_valley_28 mlX11_128 (fun l D cyy => tX11_clears (cx_inj X) l D cyy a0 h0 S r_1 q_2) h0 (by decide) rfl rfl (Nat.le_of_ble_eq_true rfl) ?_
  refine g_aload_n X dX11_valley_31 0 rfl rfl ?_
  obtain ⟨r_3, q_4, hF⟩ := obind hF
  refine g_callVv (As := []) X dX11_valley_32 mlX11_170 (fun l D cyy => tX11_step (cx_inj X) l D cyy a0 h0 r_1 r_3 q_4) h0 (by decide) rfl rfl (Nat.le_of_ble_eq_true rfl) ?_
  exact (wX11_valley_h35 X a0 h0 r ho NN r_3 hF)
theorem wX11_valley_s22 {z : Mx} {ad : Nat → Nat} {o : Option Value × St} (X : CxOk z ad RX11 cX11_valley 2 (some .int) 7) (a0 : Nat) (h0 : KT a0 = 11)     (S : St) (r : (Int32 × St)) (ho : o = (some (.int r.1), r.2)) (hF : fX11_valley_s22 a0   S = some r) : GW z ad o S 22 [(0, .ref (ad a0))] [] := by
  unfold fX11_valley_s22 at hF
  refine g_aload_n X dX11_valley_22 0 rfl rfl ?_
  refine g_iconst (v := 0) X dX11_valley_23 (by decide) ?_
  refine g_putI X dX11_valley_24 fpX11_208 rfl (by decide) (by decide) h0 ?_
  exact (wX11_valley_s27 X a0 h0 (sI S 11 20 a0 (0 : Int32)) r ho hF)
theorem wX11_valley_s17 {z : Mx} {ad : Nat → Nat} {o : Option Value × St} (X : CxOk z ad RX11 cX11_valley 2 (some .int) 7) (a0 : Nat) (h0 : KT a0 = 11)     (S : St) (r : (Int32 × St)) (ho : o = (some (.int r.1), r.2)) (hF : fX11_valley_s17 a0   S = some r) : GW z ad o S 17 [(0, .ref (ad a0))] [] := by
  unfold fX11_valley_s17 at hF
  refine g_aload_n X dX11_valley_17 0 rfl rfl ?_
  refine g_iconst (v := 0) X dX11_valley_18 (by decide) ?_
  refine g_putI X dX11_valley_19 fpX11_224 rfl rfl rfl h0 ?_
  exact (wX11_valley_s22 X a0 h0 (sI S 11 19 a0 (0 : Int32)) r ho hF)
theorem wX11_valley_s12 {z : Mx} {ad : Nat → Nat} {o : Option Value × St} (X : CxOk z ad RX11 cX11_valley 2 (some .int) 7) (a0 : Nat) (h0 : KT a0 = 11)     (S : St) (r : (Int32 × St)) (ho : o = (some (.int r.1), r.2)) (hF : fX11_valley_s12 a0   S = some r) : GW z ad o S 12 [(0, .ref (ad a0))] [] := by
  unfold fX11_valley_s12 at hF
  refine g_aload_n X dX11_valley_12 0 rfl rfl ?_
  refine g_iconst (v := 0) X dX11_valley_13 (by decide) ?_
  refine g_putI X dX11_valley_14 fpX11_158 rfl rfl rfl h0 ?_
  exact (wX11_valley_s17 X a0 h0 (sI S 11 15 a0 (0 : Int32)) r ho hF)
theorem wX11_valley_s5 {z : Mx} {ad : Nat → Nat} {o : Option Value × St} (X : CxOk z ad RX11 cX11_valley 2 (some .int) 7) (a0 : Nat) (h0 : KT a0 = 11)     (S : St) (r : (Int32 × St)) (ho : o = (some (.int r.1), r.2)) (hF : fX11_valley_s5 a0   S = some r) : GW z ad o S 5 [(0, .ref (ad a0))] [] := by
  unfold fX11_valley_s5 at hF
  refine g_aload_n X dX11_valley_5 0 rfl rfl ?_
  refine g_sipush (v := 900) X dX11_valley_6 (by decide) ?_
  refine g_callVv (As := [.int (900 : Int32)]) X dX11_valley_9 mlX11_221 (fun l D cyy => tX11_taken (cx_inj X) l D cyy a0 (900 : Int32) h0 S) h0 (by decide) rfl rfl (Nat.le_of_ble_eq_true rfl) ?_
  exact (wX11_valley_s12 X a0 h0 (fX11_taken a0 (900 : Int32) S) r ho hF)
theorem wX11_valley {z : Mx} {ad : Nat → Nat} {o : Option Value × St} (X : CxOk z ad RX11 cX11_valley 2 (some .int) 7) (a0 : Nat) (h0 : KT a0 = 11) (S : St) (r : (Int32 × St)) (ho : o = (some (.int r.1), r.2)) (hF : fX11_valley a0 S = some r) : GW z ad o S 0 [(0, .ref (ad a0))] [] := by
  unfold fX11_valley at hF
  refine g_aload_n X dX11_valley_0 0 rfl rfl ?_
  refine g_iconst (v := 0) X dX11_valley_1 (by decide) ?_
  refine g_putI X dX11_valley_2 fpX11_1 rfl rfl rfl h0 ?_
  exact (wX11_valley_s5 X a0 h0 (sI S 11 0 a0 (0 : Int32)) r ho hF)
theorem tX11_valley {ad : Nat → Nat} (hI : Inj ad) (l : Launch) (D : va_G) (cyy : Nat → ClassId) (a0 : Nat) (h0 : KT a0 = 11) (S : St) (r : (Int32 × St)) (hF : fX11_valley a0 S = some r) : OkM l yX11_valley cX11_valley 2 (some .int) 7 ad D cyy [.ref (ad a0)] S (some (.int r.1), r.2) := okM_of hI (by decide) (inr_16 _ (List.mem_of_getElem? (i := 22) rfl)) (by show _ ≤ 2; exact Nat.le_of_ble_eq_true rfl) (fun z X => wX11_valley X a0 h0 S r rfl hF)
def fX11_fault_s5 (a0 : Nat)   (S : St) : (Int32 × St) :=
  ((gI S 11 15 a0), S)
def fX11_fault (a0 : Nat) (S : St) : (Int32 × St) :=
  fX11_fault_s5 a0 (sI S 11 0 a0 (0 : Int32))
theorem wX11_fault_s5 {z : Mx} {ad : Nat → Nat} {o : Option Value × St} (X : CxOk z ad RX11 cX11_fault 1 (some .int) 1) (a0 : Nat) (h0 : KT a0 = 11)     (S : St) (r : (Int32 × St)) (ho : o = (some (.int r.1), r.2)) (hF : fX11_fault_s5 a0   S = r) : GW z ad o S 5 [(0, .ref (ad a0))] [] := by
  unfold fX11_fault_s5 at hF
  refine g_aload_n X dX11_fault_5 0 rfl rfl ?_
  refine g_getI X dX11_fault_6 flX11_158 rfl h0 ?_
  subst hF
  exact g_iret X dX11_fault_9 ho
theorem wX11_fault {z : Mx} {ad : Nat → Nat} {o : Option Value × St} (X : CxOk z ad RX11 cX11_fault 1 (some .int) 1) (a0 : Nat) (h0 : KT a0 = 11) (S : St) (r : (Int32 × St)) (ho : o = (some (.int r.1), r.2)) (hF : fX11_fault a0 S = r) : GW z ad o S 0 [(0, .ref (ad a0))] [] := by
  unfold fX11_fault at hF
  refine g_aload_n X dX11_fault_0 0 rfl rfl ?_
  refine g_iconst (v := 0) X dX11_fault_1 (by decide) ?_
  refine g_putI X dX11_fault_2 fpX11_1 rfl rfl rfl h0 ?_
  exact (wX11_fault_s5 X a0 h0 (sI S 11 0 a0 (0 : Int32)) r ho hF)
theorem tX11_fault {ad : Nat → Nat} (hI : Inj ad) (l : Launch) (D : va_G) (cyy : Nat → ClassId) (a0 : Nat) (h0 : KT a0 = 11) (S : St) : OkM l yX11_fault cX11_fault 1 (some .int) 1 ad D cyy [.ref (ad a0)] S (some (.int (fX11_fault a0 S).1), (fX11_fault a0 S).2) := okM_of hI (by decide) (inr_21 _ (List.mem_of_getElem? (i := 5) rfl)) (by show _ ≤ 1; exact Nat.le_of_ble_eq_true rfl) (fun z X => wX11_fault X a0 h0 S _ rfl rfl)
def fX11_isParish (a0 : Nat) (x1 : Int32) (S : St) : Option Int32 :=
  some (vp_nar .boolean (fX11_isIn x1 (0 : Int32) ((gA S 29 (a0 + 2) 0) - (1 : Int32)) S))
theorem wX11_isParish {z : Mx} {ad : Nat → Nat} {o : Option Value × St} (X : CxOk z ad RX11 cX11_isParish 2 (some .boolean) 2) (a0 : Nat) (x1 : Int32) (h0 : KT a0 = 11) (S : St) (r : Int32) (ho : o = (some (.int r), S)) (hF : fX11_isParish a0 x1 S = some r) : GW z ad o S 0 [(0, .ref (ad a0)), (1, .int x1)] [] := by
  unfold fX11_isParish at hF
  refine g_iload_n X dX11_isParish_0 1 rfl rfl ?_
  refine g_iconst (v := 0) X dX11_isParish_1 (by decide) ?_
  refine g_aload_n X dX11_isParish_2 0 rfl rfl ?_
  refine g_getR (f := 2) X dX11_isParish_3 flX11_33 rfl rfl h0 ?_
  refine g_iconst (v := 0) X dX11_isParish_6 (by decide) ?_
  refine g_ialdK (j := 0) X dX11_isParish_7 kd_29 (on_11_6 h0) (by decide) (by decide) ?_
  refine g_iconst (v := 1) X dX11_isParish_8 (by decide) ?_
  refine g_isub X dX11_isParish_9 ?_
  refine g_callSi (As := [.int x1, .int (0 : Int32), .int ((gA S 29 (a0 + 2) 0) - (1 : Int32))]) X dX11_isParish_10 mlX11_173 (fun l D cyy => tX11_isIn (cx_inj X) l D cyy x1 (0 : Int32) ((gA S 29 (a0 + 2) 0) - (1 : Int32))  S) (by decide) rfl rfl (Nat.le_of_ble_eq_true rfl) ?_
  have hF := Option.some.inj hF
  subst hF
  exact g_zretN X dX11_isParish_13 ho
theorem tX11_isParish {ad : Nat → Nat} (hI : Inj ad) (l : Launch) (D : va_G) (cyy : Nat → ClassId) (a0 : Nat) (x1 : Int32) (h0 : KT a0 = 11) (S : St) (r : Int32) (hF : fX11_isParish a0 x1 S = some r) : OkM l yX11_isParish cX11_isParish 2 (some .boolean) 2 ad D cyy [.ref (ad a0), .int x1] S (some (.int r), S) := okM_of hI (by decide) (inr_22 _ (List.mem_of_getElem? (i := 11) rfl)) (by show _ ≤ 2; exact Nat.le_of_ble_eq_true rfl) (fun z X => wX11_isParish X a0 x1 h0 S r rfl hF)
def fX11_isFeast (a0 : Nat) (x1 : Int32) (S : St) : Option Int32 :=
  some (vp_nar .boolean (fX11_isIn x1 (0 : Int32) ((gA S 29 (a0 + 2) 1) - (1 : Int32)) S))
theorem wX11_isFeast {z : Mx} {ad : Nat → Nat} {o : Option Value × St} (X : CxOk z ad RX11 cX11_isFeast 2 (some .boolean) 2) (a0 : Nat) (x1 : Int32) (h0 : KT a0 = 11) (S : St) (r : Int32) (ho : o = (some (.int r), S)) (hF : fX11_isFeast a0 x1 S = some r) : GW z ad o S 0 [(0, .ref (ad a0)), (1, .int x1)] [] := by
  unfold fX11_isFeast at hF
  refine g_iload_n X dX11_isFeast_0 1 rfl rfl ?_
  refine g_iconst (v := 0) X dX11_isFeast_1 (by decide) ?_
  refine g_aload_n X dX11_isFeast_2 0 rfl rfl ?_
  refine g_getR (f := 2) X dX11_isFeast_3 flX11_33 rfl rfl h0 ?_
  refine g_iconst (v := 1) X dX11_isFeast_6 (by decide) ?_
  refine g_ialdK (j := 1) X dX11_isFeast_7 kd_29 (on_11_6 h0) (by decide) (by decide) ?_
  refine g_iconst (v := 1) X dX11_isFeast_8 (by decide) ?_
  refine g_isub X dX11_isFeast_9 ?_
  refine g_callSi (As := [.int x1, .int (0 : Int32), .int ((gA S 29 (a0 + 2) 1) - (1 : Int32))]) X dX11_isFeast_10 mlX11_173 (fun l D cyy => tX11_isIn (cx_inj X) l D cyy x1 (0 : Int32) ((gA S 29 (a0 + 2) 1) - (1 : Int32))  S) (by decide) rfl rfl (Nat.le_of_ble_eq_true rfl) ?_
  have hF := Option.some.inj hF
  subst hF
  exact g_zretN X dX11_isFeast_13 ho
theorem tX11_isFeast {ad : Nat → Nat} (hI : Inj ad) (l : Launch) (D : va_G) (cyy : Nat → ClassId) (a0 : Nat) (x1 : Int32) (h0 : KT a0 = 11) (S : St) (r : Int32) (hF : fX11_isFeast a0 x1 S = some r) : OkM l yX11_isFeast cX11_isFeast 2 (some .boolean) 2 ad D cyy [.ref (ad a0), .int x1] S (some (.int r), S) := okM_of hI (by decide) (inr_27 _ (List.mem_of_getElem? (i := 9) rfl)) (by show _ ≤ 2; exact Nat.le_of_ble_eq_true rfl) (fun z X => wX11_isFeast X a0 x1 h0 S r rfl hF)
def fX11_isHeld (a0 : Nat) (x1 : Int32) (S : St) : Option Int32 :=
  some (vp_nar .boolean (fX11_bitOf (gA S 29 (a0 + 2) 53) x1 S))
theorem wX11_isHeld {z : Mx} {ad : Nat → Nat} {o : Option Value × St} (X : CxOk z ad RX11 cX11_isHeld 2 (some .boolean) 2) (a0 : Nat) (x1 : Int32) (h0 : KT a0 = 11) (S : St) (r : Int32) (ho : o = (some (.int r), S)) (hF : fX11_isHeld a0 x1 S = some r) : GW z ad o S 0 [(0, .ref (ad a0)), (1, .int x1)] [] := by
  unfold fX11_isHeld at hF
  refine g_aload_n X dX11_isHeld_0 0 rfl rfl ?_
  refine g_getR (f := 2) X dX11_isHeld_1 flX11_33 rfl rfl h0 ?_
  refine g_bipush (v := 53) X dX11_isHeld_4 (by decide) ?_
  refine g_ialdK (j := 53) X dX11_isHeld_6 kd_29 (on_11_6 h0) (by decide) (by decide) ?_
  refine g_iload_n X dX11_isHeld_7 1 rfl rfl ?_
  refine g_callSi (As := [.int (gA S 29 (a0 + 2) 53), .int x1]) X dX11_isHeld_8 mlX11_236 (fun l D cyy => tX11_bitOf (cx_inj X) l D cyy (gA S 29 (a0 + 2) 53) x1  S) (by decide) rfl rfl (Nat.le_of_ble_eq_true rfl) ?_
  have hF := Option.some.inj hF
  subst hF
  exact g_zretN X dX11_isHeld_11 ho
theorem tX11_isHeld {ad : Nat → Nat} (hI : Inj ad) (l : Launch) (D : va_G) (cyy : Nat → ClassId) (a0 : Nat) (x1 : Int32) (h0 : KT a0 = 11) (S : St) (r : Int32) (hF : fX11_isHeld a0 x1 S = some r) : OkM l yX11_isHeld cX11_isHeld 2 (some .boolean) 2 ad D cyy [.ref (ad a0), .int x1] S (some (.int r), S) := okM_of hI (by decide) (inr_28 _ (List.mem_of_getElem? (i := 1) rfl)) (by show _ ≤ 2; exact Nat.le_of_ble_eq_true rfl) (fun z X => wX11_isHeld X a0 x1 h0 S r rfl hF)
def fX11_plainYear (a0 : Nat) (x1 : Int32) (S : St) : Option Int32 :=
  if (((4 : Int32) + x1) < 0 ∨ 250 ≤ ((4 : Int32) + x1).toNatClampNeg) then none else
  if (((9 : Int32) + x1) < 0 ∨ 250 ≤ ((9 : Int32) + x1).toNatClampNeg) then none else
  some ((gA S 29 (a0 + 2) (((4 : Int32) + x1).toNatClampNeg)) * (gA S 29 (a0 + 2) (((9 : Int32) + x1).toNatClampNeg)))
theorem wX11_plainYear {z : Mx} {ad : Nat → Nat} {o : Option Value × St} (X : CxOk z ad RX11 cX11_plainYear 2 (some .int) 1) (a0 : Nat) (x1 : Int32) (h0 : KT a0 = 11) (S : St) (r : Int32) (ho : o = (some (.int r), S)) (hF : fX11_plainYear a0 x1 S = some r) : GW z ad o S 0 [(0, .ref (ad a0)), (1, .int x1)] [] := by
  unfold fX11_plainYear at hF
  refine g_aload_n X dX11_plainYear_0 0 rfl rfl ?_
  refine g_getR (f := 2) X dX11_plainYear_1 flX11_33 rfl rfl h0 ?_
  refine g_iconst (v := 4) X dX11_plainYear_4 (by decide) ?_
  refine g_iload_n X dX11_plainYear_5 1 rfl rfl ?_
  refine g_iadd X dX11_plainYear_6 ?_
  obtain ⟨e_1, hF⟩ := oguard hF
  refine g_iald X dX11_plainYear_7 kd_29 (on_11_6 h0) e_1 ?_
  refine g_aload_n X dX11_plainYear_8 0 rfl rfl ?_
  refine g_getR (f := 2) X dX11_plainYear_9 flX11_33 rfl rfl h0 ?_
  refine g_bipush (v := 9) X dX11_plainYear_12 (by decide) ?_
  refine g_iload_n X dX11_plainYear_14 1 rfl rfl ?_
  refine g_iadd X dX11_plainYear_15 ?_
  obtain ⟨e_2, hF⟩ := oguard hF
  refine g_iald X dX11_plainYear_16 kd_29 (on_11_6 h0) e_2 ?_
  refine g_imul X dX11_plainYear_17 ?_
  have hF := Option.some.inj hF
  subst hF
  exact g_iret X dX11_plainYear_18 ho
theorem tX11_plainYear {ad : Nat → Nat} (hI : Inj ad) (l : Launch) (D : va_G) (cyy : Nat → ClassId) (a0 : Nat) (x1 : Int32) (h0 : KT a0 = 11) (S : St) (r : Int32) (hF : fX11_plainYear a0 x1 S = some r) : OkM l yX11_plainYear cX11_plainYear 2 (some .int) 1 ad D cyy [.ref (ad a0), .int x1] S (some (.int r), S) := okM_of hI (by decide) (inr_24 _ (List.mem_of_getElem? (i := 9) rfl)) (by show _ ≤ 2; exact Nat.le_of_ble_eq_true rfl) (fun z X => wX11_plainYear X a0 x1 h0 S r rfl hF)
def fX11_allYears (a0 : Nat) (x1 : Int32) (S : St) : Option Int32 :=
  if (((29 : Int32) + x1) < 0 ∨ 250 ≤ ((29 : Int32) + x1).toNatClampNeg) then none else
  (fX11_plainYear a0 x1 S).bind fun r_2 =>
  if (((24 : Int32) + x1) < 0 ∨ 250 ≤ ((24 : Int32) + x1).toNatClampNeg) then none else
  some (((gA S 29 (a0 + 2) (((29 : Int32) + x1).toNatClampNeg)) * r_2) + (gA S 29 (a0 + 2) (((24 : Int32) + x1).toNatClampNeg)))
theorem wX11_allYears {z : Mx} {ad : Nat → Nat} {o : Option Value × St} (X : CxOk z ad RX11 cX11_allYears 2 (some .int) 2) (a0 : Nat) (x1 : Int32) (h0 : KT a0 = 11) (S : St) (r : Int32) (ho : o = (some (.int r), S)) (hF : fX11_allYears a0 x1 S = some r) : GW z ad o S 0 [(0, .ref (ad a0)), (1, .int x1)] [] := by
  unfold fX11_allYears at hF
  refine g_aload_n X dX11_allYears_0 0 rfl rfl ?_
  refine g_getR (f := 2) X dX11_allYears_1 flX11_33 rfl rfl h0 ?_
  refine g_bipush (v := 29) X dX11_allYears_4 (by decide) ?_
  refine g_iload_n X dX11_allYears_6 1 rfl rfl ?_
  refine g_iadd X dX11_allYears_7 ?_
  obtain ⟨e_1, hF⟩ := oguard hF
  refine g_iald X dX11_allYears_8 kd_29 (on_11_6 h0) e_1 ?_
  refine g_aload_n X dX11_allYears_9 0 rfl rfl ?_
  refine g_iload_n X dX11_allYears_10 1 rfl rfl ?_
  obtain ⟨r_2, q_3, hF⟩ := obind hF
  refine g_callVi (As := [.int x1]) X dX11_allYears_11 mlX11_239 (fun l D cyy => tX11_plainYear (cx_inj X) l D cyy a0 x1 h0 S r_2 q_3) h0 (by decide) rfl rfl (Nat.le_of_ble_eq_true rfl) ?_
  refine g_imul X dX11_allYears_14 ?_
  refine g_aload_n X dX11_allYears_15 0 rfl rfl ?_
  refine g_getR (f := 2) X dX11_allYears_16 flX11_33 rfl rfl h0 ?_
  refine g_bipush (v := 24) X dX11_allYears_19 (by decide) ?_
  refine g_iload_n X dX11_allYears_21 1 rfl rfl ?_
  refine g_iadd X dX11_allYears_22 ?_
  obtain ⟨e_4, hF⟩ := oguard hF
  refine g_iald X dX11_allYears_23 kd_29 (on_11_6 h0) e_4 ?_
  refine g_iadd X dX11_allYears_24 ?_
  have hF := Option.some.inj hF
  subst hF
  exact g_iret X dX11_allYears_25 ho
theorem tX11_allYears {ad : Nat → Nat} (hI : Inj ad) (l : Launch) (D : va_G) (cyy : Nat → ClassId) (a0 : Nat) (x1 : Int32) (h0 : KT a0 = 11) (S : St) (r : Int32) (hF : fX11_allYears a0 x1 S = some r) : OkM l yX11_allYears cX11_allYears 2 (some .int) 2 ad D cyy [.ref (ad a0), .int x1] S (some (.int r), S) := okM_of hI (by decide) (inr_24 _ (List.mem_of_getElem? (i := 5) rfl)) (by show _ ≤ 2; exact Nat.le_of_ble_eq_true rfl) (fun z X => wX11_allYears X a0 x1 h0 S r rfl hF)
def fX11_yearBy_s24 (a0 : Nat) (x1 : Int32) (x2 : Int32) (y3 : Int32)  (S : St) : Option Int32 :=
  (fX11_allYears a0 x1 S).bind fun r_7 =>
  if r_7 = 0 then none else
  if (((29 : Int32) + x1) < 0 ∨ 250 ≤ ((29 : Int32) + x1).toNatClampNeg) then none else
  if 0 ≤ y3 then ((fX11_plainYear a0 x1 S).bind fun r_12 =>
  if r_12 = 0 then none else
  some (((x2 / r_7) * (gA S 29 (a0 + 2) (((29 : Int32) + x1).toNatClampNeg))) + ((1 : Int32) + (y3 / r_12)))) else
  (some (((x2 / r_7) * (gA S 29 (a0 + 2) (((29 : Int32) + x1).toNatClampNeg))) + (0 : Int32)))
def fX11_yearBy (a0 : Nat) (x1 : Int32) (x2 : Int32) (S : St) : Option Int32 :=
  (fX11_allYears a0 x1 S).bind fun r_1 =>
  if r_1 = 0 then none else
  (fX11_plainYear a0 x1 S).bind fun r_4 =>
  if (((24 : Int32) + x1) < 0 ∨ 250 ≤ ((24 : Int32) + x1).toNatClampNeg) then none else
  fX11_yearBy_s24 a0 x1 x2 (((x2 - x2 / r_1 * r_1) - r_4) - (gA S 29 (a0 + 2) (((24 : Int32) + x1).toNatClampNeg))) S
theorem wX11_yearBy_s24 {z : Mx} {ad : Nat → Nat} {o : Option Value × St} (X : CxOk z ad RX11 cX11_yearBy 4 (some .int) 3) (a0 : Nat) (x1 : Int32) (x2 : Int32) (h0 : KT a0 = 11) (y3 : Int32)    (S : St) (r : Int32) (ho : o = (some (.int r), S)) (hF : fX11_yearBy_s24 a0 x1 x2 y3  S = some r) : GW z ad o S 24 [(0, .ref (ad a0)), (1, .int x1), (2, .int x2), (3, .int y3)] [] := by
  unfold fX11_yearBy_s24 at hF
  refine g_iload_n X dX11_yearBy_24 2 rfl rfl ?_
  refine g_aload_n X dX11_yearBy_25 0 rfl rfl ?_
  refine g_iload_n X dX11_yearBy_26 1 rfl rfl ?_
  obtain ⟨r_7, q_8, hF⟩ := obind hF
  refine g_callVi (As := [.int x1]) X dX11_yearBy_27 mlX11_243 (fun l D cyy => tX11_allYears (cx_inj X) l D cyy a0 x1 h0 S r_7 q_8) h0 (by decide) rfl rfl (Nat.le_of_ble_eq_true rfl) ?_
  obtain ⟨e_9, hF⟩ := oguard hF
  refine g_idiv X dX11_yearBy_30 e_9 ?_
  refine g_aload_n X dX11_yearBy_31 0 rfl rfl ?_
  refine g_getR (f := 2) X dX11_yearBy_32 flX11_33 rfl rfl h0 ?_
  refine g_bipush (v := 29) X dX11_yearBy_35 (by decide) ?_
  refine g_iload_n X dX11_yearBy_37 1 rfl rfl ?_
  refine g_iadd X dX11_yearBy_38 ?_
  obtain ⟨e_10, hF⟩ := oguard hF
  refine g_iald X dX11_yearBy_39 kd_29 (on_11_6 h0) e_10 ?_
  refine g_imul X dX11_yearBy_40 ?_
  refine g_iload_n X dX11_yearBy_41 3 rfl rfl ?_
  refine g_if_ge (tgt := 49) X dX11_yearBy_42 (by decide) (fun c_11 => ?_) (fun c_11 => ?_)
  · rw [if_pos c_11] at hF
    refine g_iconst (v := 1) X dX11_yearBy_49 (by decide) ?_
    refine g_iload_n X dX11_yearBy_50 3 rfl rfl ?_
    refine g_aload_n X dX11_yearBy_51 0 rfl rfl ?_
    refine g_iload_n X dX11_yearBy_52 1 rfl rfl ?_
    obtain ⟨r_12, q_13, hF⟩ := obind hF
    refine g_callVi (As := [.int x1]) X dX11_yearBy_53 mlX11_239 (fun l D cyy => tX11_plainYear (cx_inj X) l D cyy a0 x1 h0 S r_12 q_13) h0 (by decide) rfl rfl (Nat.le_of_ble_eq_true rfl) ?_
    obtain ⟨e_14, hF⟩ := oguard hF
    refine g_idiv X dX11_yearBy_56 e_14 ?_
    refine g_iadd X dX11_yearBy_57 ?_
    refine g_iadd X dX11_yearBy_58 ?_
    have hF := Option.some.inj hF
    subst hF
    exact g_iret X dX11_yearBy_59 ho
  · rw [if_neg c_11] at hF
    refine g_iconst (v := 0) X dX11_yearBy_45 (by decide) ?_
    refine g_goto (tgt := 58) X dX11_yearBy_46 (by decide) ?_
    refine g_iadd X dX11_yearBy_58 ?_
    have hF := Option.some.inj hF
    subst hF
    exact g_iret X dX11_yearBy_59 ho
theorem wX11_yearBy {z : Mx} {ad : Nat → Nat} {o : Option Value × St} (X : CxOk z ad RX11 cX11_yearBy 4 (some .int) 3) (a0 : Nat) (x1 : Int32) (x2 : Int32) (h0 : KT a0 = 11) (S : St) (r : Int32) (ho : o = (some (.int r), S)) (hF : fX11_yearBy a0 x1 x2 S = some r) : GW z ad o S 0 [(0, .ref (ad a0)), (1, .int x1), (2, .int x2)] [] := by
  unfold fX11_yearBy at hF
  refine g_iload_n X dX11_yearBy_0 2 rfl rfl ?_
  refine g_aload_n X dX11_yearBy_1 0 rfl rfl ?_
  refine g_iload_n X dX11_yearBy_2 1 rfl rfl ?_
  obtain ⟨r_1, q_2, hF⟩ := obind hF
  refine g_callVi (As := [.int x1]) X dX11_yearBy_3 mlX11_243 (fun l D cyy => tX11_allYears (cx_inj X) l D cyy a0 x1 h0 S r_1 q_2) h0 (by decide) rfl rfl (Nat.le_of_ble_eq_true rfl) ?_
  obtain ⟨e_3, hF⟩ := oguard hF
  refine g_irem X dX11_yearBy_6 e_3 ?_
  refine g_aload_n X dX11_yearBy_7 0 rfl rfl ?_
  refine g_iload_n X dX11_yearBy_8 1 rfl rfl ?_
  obtain ⟨r_4, q_5, hF⟩ := obind hF
  refine g_callVi (As := [.int x1]) X dX11_yearBy_9 mlX11_239 (fun l D cyy => tX11_plainYear (cx_inj X) l D cyy a0 x1 h0 S r_4 q_5) h0 (by decide) rfl rfl (Nat.le_of_ble_eq_true rfl) ?_
  refine g_isub X dX11_yearBy_12 ?_
  refine g_aload_n X dX11_yearBy_13 0 rfl rfl ?_
  refine g_getR (f := 2) X dX11_yearBy_14 flX11_33 rfl rfl h0 ?_
  refine g_bipush (v := 24) X dX11_yearBy_17 (by decide) ?_
  refine g_iload_n X dX11_yearBy_19 1 rfl rfl ?_
  refine g_iadd X dX11_yearBy_20 ?_
  obtain ⟨e_6, hF⟩ := oguard hF
  refine g_iald X dX11_yearBy_21 kd_29 (on_11_6 h0) e_6 ?_
  refine g_isub X dX11_yearBy_22 ?_
  refine g_istore_n X dX11_yearBy_23 rfl (by decide) (lv' := [(3, .int (((x2 - x2 / r_1 * r_1) - r_4) - (gA S 29 (a0 + 2) (((24 : Int32) + x1).toNatClampNeg)))), (0, .ref (ad a0)), (1, .int x1), (2, .int x2)]) rfl ?_
  exact g_perm [1, 2, 3, 0] rfl (wX11_yearBy_s24 X a0 x1 x2 h0 (((x2 - x2 / r_1 * r_1) - r_4) - (gA S 29 (a0 + 2) (((24 : Int32) + x1).toNatClampNeg))) S r ho hF)
theorem tX11_yearBy {ad : Nat → Nat} (hI : Inj ad) (l : Launch) (D : va_G) (cyy : Nat → ClassId) (a0 : Nat) (x1 : Int32) (x2 : Int32) (h0 : KT a0 = 11) (S : St) (r : Int32) (hF : fX11_yearBy a0 x1 x2 S = some r) : OkM l yX11_yearBy cX11_yearBy 4 (some .int) 3 ad D cyy [.ref (ad a0), .int x1, .int x2] S (some (.int r), S) := okM_of hI (by decide) (inr_24 _ (List.mem_of_getElem? (i := 1) rfl)) (by show _ ≤ 4; exact Nat.le_of_ble_eq_true rfl) (fun z X => wX11_yearBy X a0 x1 x2 h0 S r rfl hF)
def fX11_firstBy (a0 : Nat) (x1 : Int32) (x2 : Int32) (S : St) : Option Int32 :=
  (fX11_plainYear a0 x1 S).bind fun r_1 =>
  if (((24 : Int32) + x1) < 0 ∨ 250 ≤ ((24 : Int32) + x1).toNatClampNeg) then none else
  if (((29 : Int32) + x1) < 0 ∨ 250 ≤ ((29 : Int32) + x1).toNatClampNeg) then none else
  if (((29 : Int32) + x1) < 0 ∨ 250 ≤ ((29 : Int32) + x1).toNatClampNeg) then none else
  if (gA S 29 (a0 + 2) (((29 : Int32) + x1).toNatClampNeg)) = 0 then none else
  some ((x2 * r_1) + ((gA S 29 (a0 + 2) (((24 : Int32) + x1).toNatClampNeg)) * (((x2 + (gA S 29 (a0 + 2) (((29 : Int32) + x1).toNatClampNeg))) - (1 : Int32)) / (gA S 29 (a0 + 2) (((29 : Int32) + x1).toNatClampNeg)))))
theorem wX11_firstBy {z : Mx} {ad : Nat → Nat} {o : Option Value × St} (X : CxOk z ad RX11 cX11_firstBy 3 (some .int) 2) (a0 : Nat) (x1 : Int32) (x2 : Int32) (h0 : KT a0 = 11) (S : St) (r : Int32) (ho : o = (some (.int r), S)) (hF : fX11_firstBy a0 x1 x2 S = some r) : GW z ad o S 0 [(0, .ref (ad a0)), (1, .int x1), (2, .int x2)] [] := by
  unfold fX11_firstBy at hF
  refine g_iload_n X dX11_firstBy_0 2 rfl rfl ?_
  refine g_aload_n X dX11_firstBy_1 0 rfl rfl ?_
  refine g_iload_n X dX11_firstBy_2 1 rfl rfl ?_
  obtain ⟨r_1, q_2, hF⟩ := obind hF
  refine g_callVi (As := [.int x1]) X dX11_firstBy_3 mlX11_239 (fun l D cyy => tX11_plainYear (cx_inj X) l D cyy a0 x1 h0 S r_1 q_2) h0 (by decide) rfl rfl (Nat.le_of_ble_eq_true rfl) ?_
  refine g_imul X dX11_firstBy_6 ?_
  refine g_aload_n X dX11_firstBy_7 0 rfl rfl ?_
  refine g_getR (f := 2) X dX11_firstBy_8 flX11_33 rfl rfl h0 ?_
  refine g_bipush (v := 24) X dX11_firstBy_11 (by decide) ?_
  refine g_iload_n X dX11_firstBy_13 1 rfl rfl ?_
  refine g_iadd X dX11_firstBy_14 ?_
  obtain ⟨e_3, hF⟩ := oguard hF
  refine g_iald X dX11_firstBy_15 kd_29 (on_11_6 h0) e_3 ?_
  refine g_iload_n X dX11_firstBy_16 2 rfl rfl ?_
  refine g_aload_n X dX11_firstBy_17 0 rfl rfl ?_
  refine g_getR (f := 2) X dX11_firstBy_18 flX11_33 rfl rfl h0 ?_
  refine g_bipush (v := 29) X dX11_firstBy_21 (by decide) ?_
  refine g_iload_n X dX11_firstBy_23 1 rfl rfl ?_
  refine g_iadd X dX11_firstBy_24 ?_
  obtain ⟨e_4, hF⟩ := oguard hF
  refine g_iald X dX11_firstBy_25 kd_29 (on_11_6 h0) e_4 ?_
  refine g_iadd X dX11_firstBy_26 ?_
  refine g_iconst (v := 1) X dX11_firstBy_27 (by decide) ?_
  refine g_isub X dX11_firstBy_28 ?_
  refine g_aload_n X dX11_firstBy_29 0 rfl rfl ?_
  refine g_getR (f := 2) X dX11_firstBy_30 flX11_33 rfl rfl h0 ?_
  refine g_bipush (v := 29) X dX11_firstBy_33 (by decide) ?_
  refine g_iload_n X dX11_firstBy_35 1 rfl rfl ?_
  refine g_iadd X dX11_firstBy_36 ?_
  obtain ⟨e_5, hF⟩ := oguard hF
  refine g_iald X dX11_firstBy_37 kd_29 (on_11_6 h0) e_5 ?_
  obtain ⟨e_6, hF⟩ := oguard hF
  refine g_idiv X dX11_firstBy_38 e_6 ?_
  refine g_imul X dX11_firstBy_39 ?_
  refine g_iadd X dX11_firstBy_40 ?_
  have hF := Option.some.inj hF
  subst hF
  exact g_iret X dX11_firstBy_41 ho
theorem tX11_firstBy {ad : Nat → Nat} (hI : Inj ad) (l : Launch) (D : va_G) (cyy : Nat → ClassId) (a0 : Nat) (x1 : Int32) (x2 : Int32) (h0 : KT a0 = 11) (S : St) (r : Int32) (hF : fX11_firstBy a0 x1 x2 S = some r) : OkM l yX11_firstBy cX11_firstBy 3 (some .int) 2 ad D cyy [.ref (ad a0), .int x1, .int x2] S (some (.int r), S) := okM_of hI (by decide) (inr_24 _ (List.mem_of_getElem? (i := 17) rfl)) (by show _ ≤ 3; exact Nat.le_of_ble_eq_true rfl) (fun z X => wX11_firstBy X a0 x1 x2 h0 S r rfl hF)
def fX11_dated_s14 (a0 : Nat) (x1 : Int32) (x2 : Int32) (y3 : Int32)  (S : St) : Option Int32 :=
  (fX11_plainYear a0 x1 S).bind fun r_5 =>
  if r_5 ≤ y3 then (if (((4 : Int32) + x1) < 0 ∨ 250 ≤ ((4 : Int32) + x1).toNatClampNeg) then none else
  some ((((32 : Int32) * (gA S 29 (a0 + 2) (((4 : Int32) + x1).toNatClampNeg))) + y3) - r_5)) else
  (if (((9 : Int32) + x1) < 0 ∨ 250 ≤ ((9 : Int32) + x1).toNatClampNeg) then none else
  if (gA S 29 (a0 + 2) (((9 : Int32) + x1).toNatClampNeg)) = 0 then none else
  if (((9 : Int32) + x1) < 0 ∨ 250 ≤ ((9 : Int32) + x1).toNatClampNeg) then none else
  if (gA S 29 (a0 + 2) (((9 : Int32) + x1).toNatClampNeg)) = 0 then none else
  some (((32 : Int32) * (y3 / (gA S 29 (a0 + 2) (((9 : Int32) + x1).toNatClampNeg)))) + (y3 - y3 / (gA S 29 (a0 + 2) (((9 : Int32) + x1).toNatClampNeg)) * (gA S 29 (a0 + 2) (((9 : Int32) + x1).toNatClampNeg)))))
def fX11_dated (a0 : Nat) (x1 : Int32) (x2 : Int32) (S : St) : Option Int32 :=
  (fX11_yearBy a0 x1 x2 S).bind fun r_1 =>
  (fX11_firstBy a0 x1 r_1 S).bind fun r_3 =>
  fX11_dated_s14 a0 x1 x2 (x2 - r_3) S
theorem wX11_dated_s14 {z : Mx} {ad : Nat → Nat} {o : Option Value × St} (X : CxOk z ad RX11 cX11_dated 5 (some .int) 4) (a0 : Nat) (x1 : Int32) (x2 : Int32) (h0 : KT a0 = 11) (y3 : Int32)    (S : St) (r : Int32) (ho : o = (some (.int r), S)) (hF : fX11_dated_s14 a0 x1 x2 y3  S = some r) : GW z ad o S 14 [(0, .ref (ad a0)), (1, .int x1), (3, .int y3)] [] := by
  unfold fX11_dated_s14 at hF
  refine g_aload_n X dX11_dated_14 0 rfl rfl ?_
  refine g_iload_n X dX11_dated_15 1 rfl rfl ?_
  obtain ⟨r_5, q_6, hF⟩ := obind hF
  refine g_callVi (As := [.int x1]) X dX11_dated_16 mlX11_239 (fun l D cyy => tX11_plainYear (cx_inj X) l D cyy a0 x1 h0 S r_5 q_6) h0 (by decide) rfl rfl (Nat.le_of_ble_eq_true rfl) ?_
  refine g_istore X dX11_dated_19 (by decide) (lv' := [(4, .int r_5), (0, .ref (ad a0)), (1, .int x1), (3, .int y3)]) rfl ?_
  refine g_iload_n X dX11_dated_21 3 rfl rfl ?_
  refine g_iload X dX11_dated_22 0 rfl ?_
  refine g_icmp_ge (tgt := 56) X dX11_dated_24 (by decide) (fun c_7 => ?_) (fun c_7 => ?_)
  · rw [if_pos c_7] at hF
    refine g_bipush (v := 32) X dX11_dated_56 (by decide) ?_
    refine g_aload_n X dX11_dated_58 1 rfl rfl ?_
    refine g_getR (f := 2) X dX11_dated_59 flX11_33 rfl rfl h0 ?_
    refine g_iconst (v := 4) X dX11_dated_62 (by decide) ?_
    refine g_iload_n X dX11_dated_63 2 rfl rfl ?_
    refine g_iadd X dX11_dated_64 ?_
    obtain ⟨e_8, hF⟩ := oguard hF
    refine g_iald X dX11_dated_65 kd_29 (on_11_6 h0) e_8 ?_
    refine g_imul X dX11_dated_66 ?_
    refine g_iload_n X dX11_dated_67 3 rfl rfl ?_
    refine g_iadd X dX11_dated_68 ?_
    refine g_iload X dX11_dated_69 0 rfl ?_
    refine g_isub X dX11_dated_71 ?_
    have hF := Option.some.inj hF
    subst hF
    exact g_iret X dX11_dated_72 ho
  · rw [if_neg c_7] at hF
    refine g_bipush (v := 32) X dX11_dated_27 (by decide) ?_
    refine g_iload_n X dX11_dated_29 3 rfl rfl ?_
    refine g_aload_n X dX11_dated_30 1 rfl rfl ?_
    refine g_getR (f := 2) X dX11_dated_31 flX11_33 rfl rfl h0 ?_
    refine g_bipush (v := 9) X dX11_dated_34 (by decide) ?_
    refine g_iload_n X dX11_dated_36 2 rfl rfl ?_
    refine g_iadd X dX11_dated_37 ?_
    obtain ⟨e_9, hF⟩ := oguard hF
    refine g_iald X dX11_dated_38 kd_29 (on_11_6 h0) e_9 ?_
    obtain ⟨e_10, hF⟩ := oguard hF
    refine g_idiv X dX11_dated_39 e_10 ?_
    refine g_imul X dX11_dated_40 ?_
    refine g_iload_n X dX11_dated_41 3 rfl rfl ?_
    refine g_aload_n X dX11_dated_42 1 rfl rfl ?_
    refine g_getR (f := 2) X dX11_dated_43 flX11_33 rfl rfl h0 ?_
    refine g_bipush (v := 9) X dX11_dated_46 (by decide) ?_
    refine g_iload_n X dX11_dated_48 2 rfl rfl ?_
    refine g_iadd X dX11_dated_49 ?_
    obtain ⟨e_11, hF⟩ := oguard hF
    refine g_iald X dX11_dated_50 kd_29 (on_11_6 h0) e_11 ?_
    obtain ⟨e_12, hF⟩ := oguard hF
    refine g_irem X dX11_dated_51 e_12 ?_
    refine g_iadd X dX11_dated_52 ?_
    refine g_goto (tgt := 72) X dX11_dated_53 (by decide) ?_
    have hF := Option.some.inj hF
    subst hF
    exact g_iret X dX11_dated_72 ho
theorem wX11_dated {z : Mx} {ad : Nat → Nat} {o : Option Value × St} (X : CxOk z ad RX11 cX11_dated 5 (some .int) 4) (a0 : Nat) (x1 : Int32) (x2 : Int32) (h0 : KT a0 = 11) (S : St) (r : Int32) (ho : o = (some (.int r), S)) (hF : fX11_dated a0 x1 x2 S = some r) : GW z ad o S 0 [(0, .ref (ad a0)), (1, .int x1), (2, .int x2)] [] := by
  unfold fX11_dated at hF
  refine g_iload_n X dX11_dated_0 2 rfl rfl ?_
  refine g_aload_n X dX11_dated_1 0 rfl rfl ?_
  refine g_iload_n X dX11_dated_2 1 rfl rfl ?_
  refine g_aload_n X dX11_dated_3 0 rfl rfl ?_
  refine g_iload_n X dX11_dated_4 1 rfl rfl ?_
  refine g_iload_n X dX11_dated_5 2 rfl rfl ?_
  obtain ⟨r_1, q_2, hF⟩ := obind hF
  refine g_callVi (As := [.int x1, .int x2]) X dX11_dated_6 mlX11_246 (fun l D cyy => tX11_yearBy (cx_inj X) l D cyy a0 x1 x2 h0 S r_1 q_2) h0 (by decide) rfl rfl (Nat.le_of_ble_eq_true rfl) ?_
  obtain ⟨r_3, q_4, hF⟩ := obind hF
  refine g_callVi (As := [.int x1, .int r_1]) X dX11_dated_9 mlX11_249 (fun l D cyy => tX11_firstBy (cx_inj X) l D cyy a0 x1 r_1 h0 S r_3 q_4) h0 (by decide) rfl rfl (Nat.le_of_ble_eq_true rfl) ?_
  refine g_isub X dX11_dated_12 ?_
  refine g_istore_n X dX11_dated_13 rfl (by decide) (lv' := [(3, .int (x2 - r_3)), (0, .ref (ad a0)), (1, .int x1), (2, .int x2)]) rfl ?_
  exact g_perm [1, 2, 0] rfl (wX11_dated_s14 X a0 x1 x2 h0 (x2 - r_3) S r ho hF)
theorem tX11_dated {ad : Nat → Nat} (hI : Inj ad) (l : Launch) (D : va_G) (cyy : Nat → ClassId) (a0 : Nat) (x1 : Int32) (x2 : Int32) (h0 : KT a0 = 11) (S : St) (r : Int32) (hF : fX11_dated a0 x1 x2 S = some r) : OkM l yX11_dated cX11_dated 5 (some .int) 4 ad D cyy [.ref (ad a0), .int x1, .int x2] S (some (.int r), S) := okM_of hI (by decide) (inr_24 _ (List.mem_of_getElem? (i := 13) rfl)) (by show _ ≤ 5; exact Nat.le_of_ble_eq_true rfl) (fun z X => wX11_dated X a0 x1 x2 h0 S r rfl hF)
def fX11_today (a0 : Nat) (x1 : Int32) (S : St) : Option Int32 :=
  if (((54 : Int32) + x1) < 0 ∨ 250 ≤ ((54 : Int32) + x1).toNatClampNeg) then none else
  (fX11_dated a0 x1 (gA S 29 (a0 + 2) (((54 : Int32) + x1).toNatClampNeg)) S).bind fun r_2 =>
  some r_2
theorem wX11_today {z : Mx} {ad : Nat → Nat} {o : Option Value × St} (X : CxOk z ad RX11 cX11_today 2 (some .int) 5) (a0 : Nat) (x1 : Int32) (h0 : KT a0 = 11) (S : St) (r : Int32) (ho : o = (some (.int r), S)) (hF : fX11_today a0 x1 S = some r) : GW z ad o S 0 [(0, .ref (ad a0)), (1, .int x1)] [] := by
  unfold fX11_today at hF
  refine g_aload_n X dX11_today_0 0 rfl rfl ?_
  refine g_iload_n X dX11_today_1 1 rfl rfl ?_
  refine g_aload_n X dX11_today_2 0 rfl rfl ?_
  refine g_getR (f := 2) X dX11_today_3 flX11_33 rfl rfl h0 ?_
  refine g_bipush (v := 54) X dX11_today_6 (by decide) ?_
  refine g_iload_n X dX11_today_8 1 rfl rfl ?_
  refine g_iadd X dX11_today_9 ?_
  obtain ⟨e_1, hF⟩ := oguard hF
  refine g_iald X dX11_today_10 kd_29 (on_11_6 h0) e_1 ?_
  obtain ⟨r_2, q_3, hF⟩ := obind hF
  refine g_callVi (As := [.int x1, .int (gA S 29 (a0 + 2) (((54 : Int32) + x1).toNatClampNeg))]) X dX11_today_11 mlX11_252 (fun l D cyy => tX11_dated (cx_inj X) l D cyy a0 x1 (gA S 29 (a0 + 2) (((54 : Int32) + x1).toNatClampNeg)) h0 S r_2 q_3) h0 (by decide) rfl rfl (Nat.le_of_ble_eq_true rfl) ?_
  have hF := Option.some.inj hF
  subst hF
  exact g_iret X dX11_today_14 ho
theorem tX11_today {ad : Nat → Nat} (hI : Inj ad) (l : Launch) (D : va_G) (cyy : Nat → ClassId) (a0 : Nat) (x1 : Int32) (h0 : KT a0 = 11) (S : St) (r : Int32) (hF : fX11_today a0 x1 S = some r) : OkM l yX11_today cX11_today 2 (some .int) 5 ad D cyy [.ref (ad a0), .int x1] S (some (.int r), S) := okM_of hI (by decide) (inr_30 _ (List.mem_of_getElem? (i := 6) rfl)) (by show _ ≤ 2; exact Nat.le_of_ble_eq_true rfl) (fun z X => wX11_today X a0 x1 h0 S r rfl hF)
def fX11_ahead (a0 : Nat) (x1 : Int32) (x2 : Int32) (S : St) : Option Int32 :=
  if (((54 : Int32) + x1) < 0 ∨ 250 ≤ ((54 : Int32) + x1).toNatClampNeg) then none else
  if x2 ≤ 0 then (some (((gA S 29 (a0 + 2) (((54 : Int32) + x1).toNatClampNeg)) + x2) - (0 : Int32))) else
  ((fX11_isHeld a0 x1 S).bind fun r_3 =>
  if r_3 = 0 then (some (((gA S 29 (a0 + 2) (((54 : Int32) + x1).toNatClampNeg)) + x2) - (0 : Int32))) else
  (some (((gA S 29 (a0 + 2) (((54 : Int32) + x1).toNatClampNeg)) + x2) - (1 : Int32))))
theorem wX11_ahead {z : Mx} {ad : Nat → Nat} {o : Option Value × St} (X : CxOk z ad RX11 cX11_ahead 3 (some .int) 3) (a0 : Nat) (x1 : Int32) (x2 : Int32) (h0 : KT a0 = 11) (S : St) (r : Int32) (ho : o = (some (.int r), S)) (hF : fX11_ahead a0 x1 x2 S = some r) : GW z ad o S 0 [(0, .ref (ad a0)), (1, .int x1), (2, .int x2)] [] := by
  unfold fX11_ahead at hF
  refine g_aload_n X dX11_ahead_0 0 rfl rfl ?_
  refine g_getR (f := 2) X dX11_ahead_1 flX11_33 rfl rfl h0 ?_
  refine g_bipush (v := 54) X dX11_ahead_4 (by decide) ?_
  refine g_iload_n X dX11_ahead_6 1 rfl rfl ?_
  refine g_iadd X dX11_ahead_7 ?_
  obtain ⟨e_1, hF⟩ := oguard hF
  refine g_iald X dX11_ahead_8 kd_29 (on_11_6 h0) e_1 ?_
  refine g_iload_n X dX11_ahead_9 2 rfl rfl ?_
  refine g_iadd X dX11_ahead_10 ?_
  refine g_iload_n X dX11_ahead_11 2 rfl rfl ?_
  refine g_if_le (tgt := 27) X dX11_ahead_12 (by decide) (fun c_2 => ?_) (fun c_2 => ?_)
  · rw [if_pos c_2] at hF
    refine g_iconst (v := 0) X dX11_ahead_27 (by decide) ?_
    refine g_isub X dX11_ahead_28 ?_
    have hF := Option.some.inj hF
    subst hF
    exact g_iret X dX11_ahead_29 ho
  · rw [if_neg c_2] at hF
    refine g_aload_n X dX11_ahead_15 0 rfl rfl ?_
    refine g_iload_n X dX11_ahead_16 1 rfl rfl ?_
    obtain ⟨r_3, q_4, hF⟩ := obind hF
    refine g_callVi (As := [.int x1]) X dX11_ahead_17 mlX11_255 (fun l D cyy => tX11_isHeld (cx_inj X) l D cyy a0 x1 h0 S r_3 q_4) h0 (by decide) rfl rfl (Nat.le_of_ble_eq_true rfl) ?_
    refine g_if_eq (tgt := 27) X dX11_ahead_20 (by decide) (fun c_5 => ?_) (fun c_5 => ?_)
    · rw [if_pos c_5] at hF
      refine g_iconst (v := 0) X dX11_ahead_27 (by decide) ?_
      refine g_isub X dX11_ahead_28 ?_
      have hF := Option.some.inj hF
      subst hF
      exact g_iret X dX11_ahead_29 ho
    · rw [if_neg c_5] at hF
      refine g_iconst (v := 1) X dX11_ahead_23 (by decide) ?_
      refine g_goto (tgt := 28) X dX11_ahead_24 (by decide) ?_
      refine g_isub X dX11_ahead_28 ?_
      have hF := Option.some.inj hF
      subst hF
      exact g_iret X dX11_ahead_29 ho
theorem tX11_ahead {ad : Nat → Nat} (hI : Inj ad) (l : Launch) (D : va_G) (cyy : Nat → ClassId) (a0 : Nat) (x1 : Int32) (x2 : Int32) (h0 : KT a0 = 11) (S : St) (r : Int32) (hF : fX11_ahead a0 x1 x2 S = some r) : OkM l yX11_ahead cX11_ahead 3 (some .int) 3 ad D cyy [.ref (ad a0), .int x1, .int x2] S (some (.int r), S) := okM_of hI (by decide) (inr_27 _ (List.mem_of_getElem? (i := 21) rfl)) (by show _ ≤ 3; exact Nat.le_of_ble_eq_true rfl) (fun z X => wX11_ahead X a0 x1 x2 h0 S r rfl hF)
def fX11_datedIn (a0 : Nat) (x1 : Int32) (x2 : Int32) (S : St) : Option Int32 :=
  (fX11_ahead a0 x1 x2 S).bind fun r_1 =>
  (fX11_dated a0 x1 r_1 S).bind fun r_3 =>
  some r_3
theorem wX11_datedIn {z : Mx} {ad : Nat → Nat} {o : Option Value × St} (X : CxOk z ad RX11 cX11_datedIn 3 (some .int) 5) (a0 : Nat) (x1 : Int32) (x2 : Int32) (h0 : KT a0 = 11) (S : St) (r : Int32) (ho : o = (some (.int r), S)) (hF : fX11_datedIn a0 x1 x2 S = some r) : GW z ad o S 0 [(0, .ref (ad a0)), (1, .int x1), (2, .int x2)] [] := by
  unfold fX11_datedIn at hF
  refine g_aload_n X dX11_datedIn_0 0 rfl rfl ?_
  refine g_iload_n X dX11_datedIn_1 1 rfl rfl ?_
  refine g_aload_n X dX11_datedIn_2 0 rfl rfl ?_
  refine g_iload_n X dX11_datedIn_3 1 rfl rfl ?_
  refine g_iload_n X dX11_datedIn_4 2 rfl rfl ?_
  obtain ⟨r_1, q_2, hF⟩ := obind hF
  refine g_callVi (As := [.int x1, .int x2]) X dX11_datedIn_5 mlX11_258 (fun l D cyy => tX11_ahead (cx_inj X) l D cyy a0 x1 x2 h0 S r_1 q_2) h0 (by decide) rfl rfl (Nat.le_of_ble_eq_true rfl) ?_
  obtain ⟨r_3, q_4, hF⟩ := obind hF
  refine g_callVi (As := [.int x1, .int r_1]) X dX11_datedIn_8 mlX11_252 (fun l D cyy => tX11_dated (cx_inj X) l D cyy a0 x1 r_1 h0 S r_3 q_4) h0 (by decide) rfl rfl (Nat.le_of_ble_eq_true rfl) ?_
  have hF := Option.some.inj hF
  subst hF
  exact g_iret X dX11_datedIn_11 ho
theorem tX11_datedIn {ad : Nat → Nat} (hI : Inj ad) (l : Launch) (D : va_G) (cyy : Nat → ClassId) (a0 : Nat) (x1 : Int32) (x2 : Int32) (h0 : KT a0 = 11) (S : St) (r : Int32) (hF : fX11_datedIn a0 x1 x2 S = some r) : OkM l yX11_datedIn cX11_datedIn 3 (some .int) 5 ad D cyy [.ref (ad a0), .int x1, .int x2] S (some (.int r), S) := okM_of hI (by decide) (inr_27 _ (List.mem_of_getElem? (i := 17) rfl)) (by show _ ≤ 3; exact Nat.le_of_ble_eq_true rfl) (fun z X => wX11_datedIn X a0 x1 x2 h0 S r rfl hF)
def fX11_fallsIn (a0 : Nat) (x1 : Int32) (x2 : Int32) (S : St) : Option Int32 :=
  if (((34 : Int32) + x1) < 0 ∨ 250 ≤ ((34 : Int32) + x1).toNatClampNeg) then none else
  (fX11_datedIn a0 (gA S 29 (a0 + 2) (((34 : Int32) + x1).toNatClampNeg)) x2 S).bind fun r_2 =>
  if (((40 : Int32) + x1) < 0 ∨ 250 ≤ ((40 : Int32) + x1).toNatClampNeg) then none else
  if (((46 : Int32) + x1) < 0 ∨ 250 ≤ ((46 : Int32) + x1).toNatClampNeg) then none else
  if r_2 = (((32 : Int32) * (gA S 29 (a0 + 2) (((40 : Int32) + x1).toNatClampNeg))) + (gA S 29 (a0 + 2) (((46 : Int32) + x1).toNatClampNeg))) then (some (1 : Int32)) else
  (some (0 : Int32))
theorem wX11_fallsIn {z : Mx} {ad : Nat → Nat} {o : Option Value × St} (X : CxOk z ad RX11 cX11_fallsIn 3 (some .boolean) 6) (a0 : Nat) (x1 : Int32) (x2 : Int32) (h0 : KT a0 = 11) (S : St) (r : Int32) (ho : o = (some (.int r), S)) (hF : fX11_fallsIn a0 x1 x2 S = some r) : GW z ad o S 0 [(0, .ref (ad a0)), (1, .int x1), (2, .int x2)] [] := by
  unfold fX11_fallsIn at hF
  refine g_aload_n X dX11_fallsIn_0 0 rfl rfl ?_
  refine g_aload_n X dX11_fallsIn_1 0 rfl rfl ?_
  refine g_getR (f := 2) X dX11_fallsIn_2 flX11_33 rfl rfl h0 ?_
  refine g_bipush (v := 34) X dX11_fallsIn_5 (by decide) ?_
  refine g_iload_n X dX11_fallsIn_7 1 rfl rfl ?_
  refine g_iadd X dX11_fallsIn_8 ?_
  obtain ⟨e_1, hF⟩ := oguard hF
  refine g_iald X dX11_fallsIn_9 kd_29 (on_11_6 h0) e_1 ?_
  refine g_iload_n X dX11_fallsIn_10 2 rfl rfl ?_
  obtain ⟨r_2, q_3, hF⟩ := obind hF
  refine g_callVi (As := [.int (gA S 29 (a0 + 2) (((34 : Int32) + x1).toNatClampNeg)), .int x2]) X dX11_fallsIn_11 mlX11_261 (fun l D cyy => tX11_datedIn (cx_inj X) l D cyy a0 (gA S 29 (a0 + 2) (((34 : Int32) + x1).toNatClampNeg)) x2 h0 S r_2 q_3) h0 (by decide) rfl rfl (Nat.le_of_ble_eq_true rfl) ?_
  refine g_bipush (v := 32) X dX11_fallsIn_14 (by decide) ?_
  refine g_aload_n X dX11_fallsIn_16 0 rfl rfl ?_
  refine g_getR (f := 2) X dX11_fallsIn_17 flX11_33 rfl rfl h0 ?_
  refine g_bipush (v := 40) X dX11_fallsIn_20 (by decide) ?_
  refine g_iload_n X dX11_fallsIn_22 1 rfl rfl ?_
  refine g_iadd X dX11_fallsIn_23 ?_
  obtain ⟨e_4, hF⟩ := oguard hF
  refine g_iald X dX11_fallsIn_24 kd_29 (on_11_6 h0) e_4 ?_
  refine g_imul X dX11_fallsIn_25 ?_
  refine g_aload_n X dX11_fallsIn_26 0 rfl rfl ?_
  refine g_getR (f := 2) X dX11_fallsIn_27 flX11_33 rfl rfl h0 ?_
  refine g_bipush (v := 46) X dX11_fallsIn_30 (by decide) ?_
  refine g_iload_n X dX11_fallsIn_32 1 rfl rfl ?_
  refine g_iadd X dX11_fallsIn_33 ?_
  obtain ⟨e_5, hF⟩ := oguard hF
  refine g_iald X dX11_fallsIn_34 kd_29 (on_11_6 h0) e_5 ?_
  refine g_iadd X dX11_fallsIn_35 ?_
  refine g_icmp_ne (tgt := 43) X dX11_fallsIn_36 (by decide) (fun c_6 => ?_) (fun c_6 => ?_)
  · rw [if_neg c_6] at hF
    refine g_iconst (v := 0) X dX11_fallsIn_43 (by decide) ?_
    have hF := Option.some.inj hF
    subst hF
    exact g_zret X dX11_fallsIn_44 (by decide) ho
  · rw [if_pos c_6] at hF
    refine g_iconst (v := 1) X dX11_fallsIn_39 (by decide) ?_
    refine g_goto (tgt := 44) X dX11_fallsIn_40 (by decide) ?_
    have hF := Option.some.inj hF
    subst hF
    exact g_zret X dX11_fallsIn_44 (by decide) ho
theorem tX11_fallsIn {ad : Nat → Nat} (hI : Inj ad) (l : Launch) (D : va_G) (cyy : Nat → ClassId) (a0 : Nat) (x1 : Int32) (x2 : Int32) (h0 : KT a0 = 11) (S : St) (r : Int32) (hF : fX11_fallsIn a0 x1 x2 S = some r) : OkM l yX11_fallsIn cX11_fallsIn 3 (some .boolean) 6 ad D cyy [.ref (ad a0), .int x1, .int x2] S (some (.int r), S) := okM_of hI (by decide) (inr_27 _ (List.mem_of_getElem? (i := 13) rfl)) (by show _ ≤ 3; exact Nat.le_of_ble_eq_true rfl) (fun z X => wX11_fallsIn X a0 x1 x2 h0 S r rfl hF)
def fX11_isBetween (a0 : Nat) (x1 : Int32) (S : St) : Option Int32 :=
  (fX11_today a0 x1 S).bind fun r_1 =>
  if (((4 : Int32) + x1) < 0 ∨ 250 ≤ ((4 : Int32) + x1).toNatClampNeg) then none else
  if (r_1 / (32 : Int32)) = (gA S 29 (a0 + 2) (((4 : Int32) + x1).toNatClampNeg)) then (some (1 : Int32)) else
  (some (0 : Int32))
theorem wX11_isBetween {z : Mx} {ad : Nat → Nat} {o : Option Value × St} (X : CxOk z ad RX11 cX11_isBetween 2 (some .boolean) 6) (a0 : Nat) (x1 : Int32) (h0 : KT a0 = 11) (S : St) (r : Int32) (ho : o = (some (.int r), S)) (hF : fX11_isBetween a0 x1 S = some r) : GW z ad o S 0 [(0, .ref (ad a0)), (1, .int x1)] [] := by
  unfold fX11_isBetween at hF
  refine g_aload_n X dX11_isBetween_0 0 rfl rfl ?_
  refine g_iload_n X dX11_isBetween_1 1 rfl rfl ?_
  obtain ⟨r_1, q_2, hF⟩ := obind hF
  refine g_callVi (As := [.int x1]) X dX11_isBetween_2 mlX11_264 (fun l D cyy => tX11_today (cx_inj X) l D cyy a0 x1 h0 S r_1 q_2) h0 (by decide) rfl rfl (Nat.le_of_ble_eq_true rfl) ?_
  refine g_bipush (v := 32) X dX11_isBetween_5 (by decide) ?_
  refine g_idiv X dX11_isBetween_7 (by decide) ?_
  refine g_aload_n X dX11_isBetween_8 0 rfl rfl ?_
  refine g_getR (f := 2) X dX11_isBetween_9 flX11_33 rfl rfl h0 ?_
  refine g_iconst (v := 4) X dX11_isBetween_12 (by decide) ?_
  refine g_iload_n X dX11_isBetween_13 1 rfl rfl ?_
  refine g_iadd X dX11_isBetween_14 ?_
  obtain ⟨e_3, hF⟩ := oguard hF
  refine g_iald X dX11_isBetween_15 kd_29 (on_11_6 h0) e_3 ?_
  refine g_icmp_ne (tgt := 23) X dX11_isBetween_16 (by decide) (fun c_4 => ?_) (fun c_4 => ?_)
  · rw [if_neg c_4] at hF
    refine g_iconst (v := 0) X dX11_isBetween_23 (by decide) ?_
    have hF := Option.some.inj hF
    subst hF
    exact g_zret X dX11_isBetween_24 (by decide) ho
  · rw [if_pos c_4] at hF
    refine g_iconst (v := 1) X dX11_isBetween_19 (by decide) ?_
    refine g_goto (tgt := 24) X dX11_isBetween_20 (by decide) ?_
    have hF := Option.some.inj hF
    subst hF
    exact g_zret X dX11_isBetween_24 (by decide) ho
theorem tX11_isBetween {ad : Nat → Nat} (hI : Inj ad) (l : Launch) (D : va_G) (cyy : Nat → ClassId) (a0 : Nat) (x1 : Int32) (h0 : KT a0 = 11) (S : St) (r : Int32) (hF : fX11_isBetween a0 x1 S = some r) : OkM l yX11_isBetween cX11_isBetween 2 (some .boolean) 6 ad D cyy [.ref (ad a0), .int x1] S (some (.int r), S) := okM_of hI (by decide) (inr_30 _ (List.mem_of_getElem? (i := 2) rfl)) (by show _ ≤ 2; exact Nat.le_of_ble_eq_true rfl) (fun z X => wX11_isBetween X a0 x1 h0 S r rfl hF)
def fX11_weekday (a0 : Nat) (x1 : Int32) (S : St) : Option Int32 :=
  if (((54 : Int32) + x1) < 0 ∨ 250 ≤ ((54 : Int32) + x1).toNatClampNeg) then none else
  if (((14 : Int32) + x1) < 0 ∨ 250 ≤ ((14 : Int32) + x1).toNatClampNeg) then none else
  if (gA S 29 (a0 + 2) (((14 : Int32) + x1).toNatClampNeg)) = 0 then none else
  some ((gA S 29 (a0 + 2) (((54 : Int32) + x1).toNatClampNeg)) - (gA S 29 (a0 + 2) (((54 : Int32) + x1).toNatClampNeg)) / (gA S 29 (a0 + 2) (((14 : Int32) + x1).toNatClampNeg)) * (gA S 29 (a0 + 2) (((14 : Int32) + x1).toNatClampNeg)))
theorem wX11_weekday {z : Mx} {ad : Nat → Nat} {o : Option Value × St} (X : CxOk z ad RX11 cX11_weekday 2 (some .int) 1) (a0 : Nat) (x1 : Int32) (h0 : KT a0 = 11) (S : St) (r : Int32) (ho : o = (some (.int r), S)) (hF : fX11_weekday a0 x1 S = some r) : GW z ad o S 0 [(0, .ref (ad a0)), (1, .int x1)] [] := by
  unfold fX11_weekday at hF
  refine g_aload_n X dX11_weekday_0 0 rfl rfl ?_
  refine g_getR (f := 2) X dX11_weekday_1 flX11_33 rfl rfl h0 ?_
  refine g_bipush (v := 54) X dX11_weekday_4 (by decide) ?_
  refine g_iload_n X dX11_weekday_6 1 rfl rfl ?_
  refine g_iadd X dX11_weekday_7 ?_
  obtain ⟨e_1, hF⟩ := oguard hF
  refine g_iald X dX11_weekday_8 kd_29 (on_11_6 h0) e_1 ?_
  refine g_aload_n X dX11_weekday_9 0 rfl rfl ?_
  refine g_getR (f := 2) X dX11_weekday_10 flX11_33 rfl rfl h0 ?_
  refine g_bipush (v := 14) X dX11_weekday_13 (by decide) ?_
  refine g_iload_n X dX11_weekday_15 1 rfl rfl ?_
  refine g_iadd X dX11_weekday_16 ?_
  obtain ⟨e_2, hF⟩ := oguard hF
  refine g_iald X dX11_weekday_17 kd_29 (on_11_6 h0) e_2 ?_
  obtain ⟨e_3, hF⟩ := oguard hF
  refine g_irem X dX11_weekday_18 e_3 ?_
  have hF := Option.some.inj hF
  subst hF
  exact g_iret X dX11_weekday_19 ho
theorem tX11_weekday {ad : Nat → Nat} (hI : Inj ad) (l : Launch) (D : va_G) (cyy : Nat → ClassId) (a0 : Nat) (x1 : Int32) (h0 : KT a0 = 11) (S : St) (r : Int32) (hF : fX11_weekday a0 x1 S = some r) : OkM l yX11_weekday cX11_weekday 2 (some .int) 1 ad D cyy [.ref (ad a0), .int x1] S (some (.int r), S) := okM_of hI (by decide) (inr_29 _ (List.mem_of_getElem? (i := 22) rfl)) (by show _ ≤ 2; exact Nat.le_of_ble_eq_true rfl) (fun z X => wX11_weekday X a0 x1 h0 S r rfl hF)
def fX11_sumOf_s25 (k4 : Int32 → Int32 → Option Int32) (a0 : Nat) (x1 : Int32) (y2 : Int32) (y3 : Int32)  (S : St) : Option Int32 :=
  k4 y2 (y3 + (1 : Int32))
def fX11_sumOf_s4 (k4 : Int32 → Int32 → Option Int32) (a0 : Nat) (x1 : Int32) (y2 : Int32) (y3 : Int32)  (S : St) : Option Int32 :=
  if (gA S 29 (a0 + 2) 0) ≤ y3 then (some y2) else
  (if ((x1 + y3) < 0 ∨ 250 ≤ (x1 + y3).toNatClampNeg) then none else
  fX11_sumOf_s25 k4 a0 x1 (y2 + (gA S 29 (a0 + 2) ((x1 + y3).toNatClampNeg))) y3 S)
def fX11_sumOf_h4 (a0 : Nat) (x1 : Int32) : Nat → Int32 → Int32 → St → Option Int32
  | 0, _, _, _ => none
  | n + 1, y2, y3, S => fX11_sumOf_s4 (fun y2 y3 => fX11_sumOf_h4 a0 x1 n y2 y3 S) a0 x1 y2 y3 S
def fX11_sumOf (a0 : Nat) (x1 : Int32) (S : St) : Option Int32 :=
  fX11_sumOf_h4 a0 x1 NN (0 : Int32) (0 : Int32) S
theorem wX11_sumOf_s25 {z : Mx} {ad : Nat → Nat} {o : Option Value × St} (X : CxOk z ad RX11 cX11_sumOf 4 (some .int) 1) (a0 : Nat) (x1 : Int32) (h0 : KT a0 = 11) (y2 : Int32) (y3 : Int32)  (k4 : Int32 → Int32 → Option Int32)   (S : St) (r : Int32) (ho : o = (some (.int r), S)) (hk4 : ∀ (y2 : Int32) (y3 : Int32), k4 y2 y3 = some r → GW z ad o S 4 [(0, .ref (ad a0)), (1, .int x1), (2, .int y2), (3, .int y3)] []) (hF : fX11_sumOf_s25 k4 a0 x1 y2 y3  S = some r) : GW z ad o S 25 [(0, .ref (ad a0)), (1, .int x1), (2, .int y2), (3, .int y3)] [] := by
  unfold fX11_sumOf_s25 at hF
  refine g_iinc (v := (y3 + (1 : Int32))) X dX11_sumOf_25 3 rfl rfl (by decide) (lv' := [(3, .int (y3 + (1 : Int32))), (0, .ref (ad a0)), (1, .int x1), (2, .int y2)]) rfl ?_
  refine g_goto (tgt := 4) X dX11_sumOf_28 (by decide) ?_
  exact g_perm [1, 2, 3, 0] rfl (hk4 y2 (y3 + (1 : Int32)) hF)
theorem wX11_sumOf_s4 {z : Mx} {ad : Nat → Nat} {o : Option Value × St} (X : CxOk z ad RX11 cX11_sumOf 4 (some .int) 1) (a0 : Nat) (x1 : Int32) (h0 : KT a0 = 11) (y2 : Int32) (y3 : Int32)  (k4 : Int32 → Int32 → Option Int32)   (S : St) (r : Int32) (ho : o = (some (.int r), S)) (hk4 : ∀ (y2 : Int32) (y3 : Int32), k4 y2 y3 = some r → GW z ad o S 4 [(0, .ref (ad a0)), (1, .int x1), (2, .int y2), (3, .int y3)] []) (hF : fX11_sumOf_s4 k4 a0 x1 y2 y3  S = some r) : GW z ad o S 4 [(0, .ref (ad a0)), (1, .int x1), (2, .int y2), (3, .int y3)] [] := by
  unfold fX11_sumOf_s4 at hF
  refine g_iload_n X dX11_sumOf_4 3 rfl rfl ?_
  refine g_aload_n X dX11_sumOf_5 0 rfl rfl ?_
  refine g_getR (f := 2) X dX11_sumOf_6 flX11_33 rfl rfl h0 ?_
  refine g_iconst (v := 0) X dX11_sumOf_9 (by decide) ?_
  refine g_ialdK (j := 0) X dX11_sumOf_10 kd_29 (on_11_6 h0) (by decide) (by decide) ?_
  refine g_icmp_ge (tgt := 31) X dX11_sumOf_11 (by decide) (fun c_1 => ?_) (fun c_1 => ?_)
  · rw [if_pos c_1] at hF
    refine g_iload_n X dX11_sumOf_31 2 rfl rfl ?_
    have hF := Option.some.inj hF
    subst hF
    exact g_iret X dX11_sumOf_32 ho
  · rw [if_neg c_1] at hF
    refine g_iload_n X dX11_sumOf_14 2 rfl rfl ?_
    refine g_aload_n X dX11_sumOf_15 0 rfl rfl ?_
    refine g_getR (f := 2) X dX11_sumOf_16 flX11_33 rfl rfl h0 ?_
    refine g_iload_n X dX11_sumOf_19 1 rfl rfl ?_
    refine g_iload_n X dX11_sumOf_20 3 rfl rfl ?_
    refine g_iadd X dX11_sumOf_21 ?_
    obtain ⟨e_2, hF⟩ := oguard hF
    refine g_iald X dX11_sumOf_22 kd_29 (on_11_6 h0) e_2 ?_
    refine g_iadd X dX11_sumOf_23 ?_
    refine g_istore_n X dX11_sumOf_24 rfl (by decide) (lv' := [(2, .int (y2 + (gA S 29 (a0 + 2) ((x1 + y3).toNatClampNeg)))), (0, .ref (ad a0)), (1, .int x1), (3, .int y3)]) rfl ?_
    exact g_perm [1, 2, 0, 3] rfl (wX11_sumOf_s25 X a0 x1 h0 (y2 + (gA S 29 (a0 + 2) ((x1 + y3).toNatClampNeg))) y3 k4 S r ho hk4 hF)
theorem wX11_sumOf_h4 {z : Mx} {ad : Nat → Nat} {o : Option Value × St} (X : CxOk z ad RX11 cX11_sumOf 4 (some .int) 1) (a0 : Nat) (x1 : Int32) (h0 : KT a0 = 11)  (S : St) (r : Int32) (ho : o = (some (.int r), S)) : ∀ (n : Nat) (y2 : Int32) (y3 : Int32), fX11_sumOf_h4 a0 x1 n y2 y3 S = some r → GW z ad o S 4 [(0, .ref (ad a0)), (1, .int x1), (2, .int y2), (3, .int y3)] [] := by
  intro n
  induction n with
  | zero => intro y2 y3  hF; cases hF
  | succ n ih => intro y2 y3  hF; exact wX11_sumOf_s4 X a0 x1 h0 y2 y3 (fun y2 y3 => fX11_sumOf_h4 a0 x1 n y2 y3 S)  S r ho (fun y2 y3 hF => ih y2 y3  hF) hF
theorem wX11_sumOf {z : Mx} {ad : Nat → Nat} {o : Option Value × St} (X : CxOk z ad RX11 cX11_sumOf 4 (some .int) 1) (a0 : Nat) (x1 : Int32) (h0 : KT a0 = 11) (S : St) (r : Int32) (ho : o = (some (.int r), S)) (hF : fX11_sumOf a0 x1 S = some r) : GW z ad o S 0 [(0, .ref (ad a0)), (1, .int x1)] [] := by
  unfold fX11_sumOf at hF
  refine g_iconst (v := 0) X dX11_sumOf_0 (by decide) ?_
  refine g_istore_n X dX11_sumOf_1 rfl (by decide) (lv' := [(2, .int (0 : Int32)), (0, .ref (ad a0)), (1, .int x1)]) rfl ?_
  refine g_iconst (v := 0) X dX11_sumOf_2 (by decide) ?_
  refine g_istore_n X dX11_sumOf_3 rfl (by decide) (lv' := [(3, .int (0 : Int32)), (2, .int (0 : Int32)), (0, .ref (ad a0)), (1, .int x1)]) rfl ?_
  exact g_perm [2, 3, 1, 0] rfl (wX11_sumOf_h4 X a0 x1 h0 S r ho NN (0 : Int32) (0 : Int32) hF)
theorem tX11_sumOf {ad : Nat → Nat} (hI : Inj ad) (l : Launch) (D : va_G) (cyy : Nat → ClassId) (a0 : Nat) (x1 : Int32) (h0 : KT a0 = 11) (S : St) (r : Int32) (hF : fX11_sumOf a0 x1 S = some r) : OkM l yX11_sumOf cX11_sumOf 4 (some .int) 1 ad D cyy [.ref (ad a0), .int x1] S (some (.int r), S) := okM_of hI (by decide) (inr_30 _ (List.mem_of_getElem? (i := 10) rfl)) (by show _ ≤ 4; exact Nat.le_of_ble_eq_true rfl) (fun z X => wX11_sumOf X a0 x1 h0 S r rfl hF)
def fX11_parish_s27 (a0 : Nat) (x1 : Int32) (x2 : Int32)  (t0 : Int32) (S : St) : Option (Int32 × St) :=
  if t0 = 0 then (if x2 = 0 then (if (((4 : Int32) + x1) < 0 ∨ 250 ≤ ((4 : Int32) + x1).toNatClampNeg) then none else
  some ((gA S 29 (a0 + 2) (((4 : Int32) + x1).toNatClampNeg)), S)) else
  (if x2 = 1 then (if (((9 : Int32) + x1) < 0 ∨ 250 ≤ ((9 : Int32) + x1).toNatClampNeg) then none else
  some ((gA S 29 (a0 + 2) (((9 : Int32) + x1).toNatClampNeg)), S)) else
  (if x2 = 2 then (if (((14 : Int32) + x1) < 0 ∨ 250 ≤ ((14 : Int32) + x1).toNatClampNeg) then none else
  some ((gA S 29 (a0 + 2) (((14 : Int32) + x1).toNatClampNeg)), S)) else
  (if x2 = 3 then (if (((24 : Int32) + x1) < 0 ∨ 250 ≤ ((24 : Int32) + x1).toNatClampNeg) then none else
  some ((gA S 29 (a0 + 2) (((24 : Int32) + x1).toNatClampNeg)), S)) else
  (if x2 = 4 then (if (((29 : Int32) + x1) < 0 ∨ 250 ≤ ((29 : Int32) + x1).toNatClampNeg) then none else
  some ((gA S 29 (a0 + 2) (((29 : Int32) + x1).toNatClampNeg)), S)) else
  (if x2 = 5 then (if (((54 : Int32) + x1) < 0 ∨ 250 ≤ ((54 : Int32) + x1).toNatClampNeg) then none else
  some ((gA S 29 (a0 + 2) (((54 : Int32) + x1).toNatClampNeg)), S)) else
  (if x2 = 6 then (some ((((gA S 29 (a0 + 2) 53) >>> (x1 &&& 31)) &&& (1 : Int32)), S)) else
  (if x2 = 7 then (if (((59 : Int32) + x1) < 0 ∨ 250 ≤ ((59 : Int32) + x1).toNatClampNeg) then none else
  some ((gA S 29 (a0 + 2) (((59 : Int32) + x1).toNatClampNeg)), S)) else
  (if (((64 : Int32) + x1) < 0 ∨ 250 ≤ ((64 : Int32) + x1).toNatClampNeg) then none else
  some ((gA S 29 (a0 + 2) (((64 : Int32) + x1).toNatClampNeg)), S)))))))))) else
  (some ((0 : Int32), S))
def fX11_parish (a0 : Nat) (x1 : Int32) (x2 : Int32) (S : St) : Option (Int32 × St) :=
  (fX11_isParish a0 x1 S).bind fun r_1 =>
  if r_1 = 0 then (fX11_parish_s27 a0 x1 x2 ((fX11_throwsIf a0 (1 : Int32) S).1) ((fX11_throwsIf a0 (1 : Int32) S).2)) else
  (if (fX11_isIn x2 (0 : Int32) (8 : Int32) S) = 0 then (fX11_parish_s27 a0 x1 x2 ((fX11_throwsIf a0 (1 : Int32) S).1) ((fX11_throwsIf a0 (1 : Int32) S).2)) else
  (fX11_parish_s27 a0 x1 x2 ((fX11_throwsIf a0 (0 : Int32) S).1) ((fX11_throwsIf a0 (0 : Int32) S).2)))
theorem wX11_parish_s27 {z : Mx} {ad : Nat → Nat} {o : Option Value × St} (X : CxOk z ad RX11 cX11_parish 3 (some .int) 3) (a0 : Nat) (x1 : Int32) (x2 : Int32) (h0 : KT a0 = 11)  (t0 : Int32)   (S : St) (r : (Int32 × St)) (ho : o = (some (.int r.1), r.2)) (hF : fX11_parish_s27 a0 x1 x2  t0 S = some r) : GW z ad o S 27 [(0, .ref (ad a0)), (1, .int x1), (2, .int x2)] [.int t0] := by
  unfold fX11_parish_s27 at hF
  refine g_if_eq (tgt := 32) X dX11_parish_27 (by decide) (fun c_4 => ?_) (fun c_4 => ?_)
  · rw [if_pos c_4] at hF
    refine g_iload_n X dX11_parish_32 2 rfl rfl ?_
    by_cases c_5 : x2 = 0
    · rw [if_pos c_5] at hF
      refine g_tabIn (tgt := 80) (off := 47) X dX11_parish_33 (by rw [c_5]; decide) (by rw [c_5]; decide) (by rw [c_5]; decide) (by decide) ?_
      refine g_aload_n X dX11_parish_80 0 rfl rfl ?_
      refine g_getR (f := 2) X dX11_parish_81 flX11_33 rfl rfl h0 ?_
      refine g_iconst (v := 4) X dX11_parish_84 (by decide) ?_
      refine g_iload_n X dX11_parish_85 1 rfl rfl ?_
      refine g_iadd X dX11_parish_86 ?_
      obtain ⟨e_6, hF⟩ := oguard hF
      refine g_iald X dX11_parish_87 kd_29 (on_11_6 h0) e_6 ?_
      have hF := Option.some.inj hF
      subst hF
      exact g_iret X dX11_parish_88 ho
    rw [if_neg c_5] at hF
    by_cases c_7 : x2 = 1
    · rw [if_pos c_7] at hF
      refine g_tabIn (tgt := 89) (off := 56) X dX11_parish_33 (by rw [c_7]; decide) (by rw [c_7]; decide) (by rw [c_7]; decide) (by decide) ?_
      refine g_aload_n X dX11_parish_89 0 rfl rfl ?_
      refine g_getR (f := 2) X dX11_parish_90 flX11_33 rfl rfl h0 ?_
      refine g_bipush (v := 9) X dX11_parish_93 (by decide) ?_
      refine g_iload_n X dX11_parish_95 1 rfl rfl ?_
      refine g_iadd X dX11_parish_96 ?_
      obtain ⟨e_8, hF⟩ := oguard hF
      refine g_iald X dX11_parish_97 kd_29 (on_11_6 h0) e_8 ?_
      have hF := Option.some.inj hF
      subst hF
      exact g_iret X dX11_parish_98 ho
    rw [if_neg c_7] at hF
    by_cases c_9 : x2 = 2
    · rw [if_pos c_9] at hF
      refine g_tabIn (tgt := 99) (off := 66) X dX11_parish_33 (by rw [c_9]; decide) (by rw [c_9]; decide) (by rw [c_9]; decide) (by decide) ?_
      refine g_aload_n X dX11_parish_99 0 rfl rfl ?_
      refine g_getR (f := 2) X dX11_parish_100 flX11_33 rfl rfl h0 ?_
      refine g_bipush (v := 14) X dX11_parish_103 (by decide) ?_
      refine g_iload_n X dX11_parish_105 1 rfl rfl ?_
      refine g_iadd X dX11_parish_106 ?_
      obtain ⟨e_10, hF⟩ := oguard hF
      refine g_iald X dX11_parish_107 kd_29 (on_11_6 h0) e_10 ?_
      have hF := Option.some.inj hF
      subst hF
      exact g_iret X dX11_parish_108 ho
    rw [if_neg c_9] at hF
    by_cases c_11 : x2 = 3
    · rw [if_pos c_11] at hF
      refine g_tabIn (tgt := 109) (off := 76) X dX11_parish_33 (by rw [c_11]; decide) (by rw [c_11]; decide) (by rw [c_11]; decide) (by decide) ?_
      refine g_aload_n X dX11_parish_109 0 rfl rfl ?_
      refine g_getR (f := 2) X dX11_parish_110 flX11_33 rfl rfl h0 ?_
      refine g_bipush (v := 24) X dX11_parish_113 (by decide) ?_
      refine g_iload_n X dX11_parish_115 1 rfl rfl ?_
      refine g_iadd X dX11_parish_116 ?_
      obtain ⟨e_12, hF⟩ := oguard hF
      refine g_iald X dX11_parish_117 kd_29 (on_11_6 h0) e_12 ?_
      have hF := Option.some.inj hF
      subst hF
      exact g_iret X dX11_parish_118 ho
    rw [if_neg c_11] at hF
    by_cases c_13 : x2 = 4
    · rw [if_pos c_13] at hF
      refine g_tabIn (tgt := 119) (off := 86) X dX11_parish_33 (by rw [c_13]; decide) (by rw [c_13]; decide) (by rw [c_13]; decide) (by decide) ?_
      refine g_aload_n X dX11_parish_119 0 rfl rfl ?_
      refine g_getR (f := 2) X dX11_parish_120 flX11_33 rfl rfl h0 ?_
      refine g_bipush (v := 29) X dX11_parish_123 (by decide) ?_
      refine g_iload_n X dX11_parish_125 1 rfl rfl ?_
      refine g_iadd X dX11_parish_126 ?_
      obtain ⟨e_14, hF⟩ := oguard hF
      refine g_iald X dX11_parish_127 kd_29 (on_11_6 h0) e_14 ?_
      have hF := Option.some.inj hF
      subst hF
      exact g_iret X dX11_parish_128 ho
    rw [if_neg c_13] at hF
    by_cases c_15 : x2 = 5
    · rw [if_pos c_15] at hF
      refine g_tabIn (tgt := 129) (off := 96) X dX11_parish_33 (by rw [c_15]; decide) (by rw [c_15]; decide) (by rw [c_15]; decide) (by decide) ?_
      refine g_aload_n X dX11_parish_129 0 rfl rfl ?_
      refine g_getR (f := 2) X dX11_parish_130 flX11_33 rfl rfl h0 ?_
      refine g_bipush (v := 54) X dX11_parish_133 (by decide) ?_
      refine g_iload_n X dX11_parish_135 1 rfl rfl ?_
      refine g_iadd X dX11_parish_136 ?_
      obtain ⟨e_16, hF⟩ := oguard hF
      refine g_iald X dX11_parish_137 kd_29 (on_11_6 h0) e_16 ?_
      have hF := Option.some.inj hF
      subst hF
      exact g_iret X dX11_parish_138 ho
    rw [if_neg c_15] at hF
    by_cases c_17 : x2 = 6
    · rw [if_pos c_17] at hF
      refine g_tabIn (tgt := 139) (off := 106) X dX11_parish_33 (by rw [c_17]; decide) (by rw [c_17]; decide) (by rw [c_17]; decide) (by decide) ?_
      refine g_aload_n X dX11_parish_139 0 rfl rfl ?_
      refine g_getR (f := 2) X dX11_parish_140 flX11_33 rfl rfl h0 ?_
      refine g_bipush (v := 53) X dX11_parish_143 (by decide) ?_
      refine g_ialdK (j := 53) X dX11_parish_145 kd_29 (on_11_6 h0) (by decide) (by decide) ?_
      refine g_iload_n X dX11_parish_146 1 rfl rfl ?_
      refine g_ishr X dX11_parish_147 ?_
      refine g_iconst (v := 1) X dX11_parish_148 (by decide) ?_
      refine g_iand X dX11_parish_149 ?_
      have hF := Option.some.inj hF
      subst hF
      exact g_iret X dX11_parish_150 ho
    rw [if_neg c_17] at hF
    by_cases c_18 : x2 = 7
    · rw [if_pos c_18] at hF
      refine g_tabIn (tgt := 151) (off := 118) X dX11_parish_33 (by rw [c_18]; decide) (by rw [c_18]; decide) (by rw [c_18]; decide) (by decide) ?_
      refine g_aload_n X dX11_parish_151 0 rfl rfl ?_
      refine g_getR (f := 2) X dX11_parish_152 flX11_33 rfl rfl h0 ?_
      refine g_bipush (v := 59) X dX11_parish_155 (by decide) ?_
      refine g_iload_n X dX11_parish_157 1 rfl rfl ?_
      refine g_iadd X dX11_parish_158 ?_
      obtain ⟨e_19, hF⟩ := oguard hF
      refine g_iald X dX11_parish_159 kd_29 (on_11_6 h0) e_19 ?_
      have hF := Option.some.inj hF
      subst hF
      exact g_iret X dX11_parish_160 ho
    rw [if_neg c_18] at hF
    have c_21 : (x2).toInt < 0 ∨ 7 < (x2).toInt := by
      have := ti_ne (n := 0) c_5 (by decide)
      have := ti_ne (n := 1) c_7 (by decide)
      have := ti_ne (n := 2) c_9 (by decide)
      have := ti_ne (n := 3) c_11 (by decide)
      have := ti_ne (n := 4) c_13 (by decide)
      have := ti_ne (n := 5) c_15 (by decide)
      have := ti_ne (n := 6) c_17 (by decide)
      have := ti_ne (n := 7) c_18 (by decide)
      omega
    refine g_tabOut (tgt := 161) X dX11_parish_33 c_21 (by decide) ?_
    refine g_aload_n X dX11_parish_161 0 rfl rfl ?_
    refine g_getR (f := 2) X dX11_parish_162 flX11_33 rfl rfl h0 ?_
    refine g_bipush (v := 64) X dX11_parish_165 (by decide) ?_
    refine g_iload_n X dX11_parish_167 1 rfl rfl ?_
    refine g_iadd X dX11_parish_168 ?_
    obtain ⟨e_20, hF⟩ := oguard hF
    refine g_iald X dX11_parish_169 kd_29 (on_11_6 h0) e_20 ?_
    have hF := Option.some.inj hF
    subst hF
    exact g_iret X dX11_parish_170 ho
  · rw [if_neg c_4] at hF
    refine g_iconst (v := 0) X dX11_parish_30 (by decide) ?_
    have hF := Option.some.inj hF
    subst hF
    exact g_iret X dX11_parish_31 ho
theorem wX11_parish {z : Mx} {ad : Nat → Nat} {o : Option Value × St} (X : CxOk z ad RX11 cX11_parish 3 (some .int) 3) (a0 : Nat) (x1 : Int32) (x2 : Int32) (h0 : KT a0 = 11) (S : St) (r : (Int32 × St)) (ho : o = (some (.int r.1), r.2)) (hF : fX11_parish a0 x1 x2 S = some r) : GW z ad o S 0 [(0, .ref (ad a0)), (1, .int x1), (2, .int x2)] [] := by
  unfold fX11_parish at hF
  refine g_aload_n X dX11_parish_0 0 rfl rfl ?_
  refine g_aload_n X dX11_parish_1 0 rfl rfl ?_
  refine g_iload_n X dX11_parish_2 1 rfl rfl ?_
  obtain ⟨r_1, q_2, hF⟩ := obind hF
  refine g_callVi (As := [.int x1]) X dX11_parish_3 mlX11_267 (fun l D cyy => tX11_isParish (cx_inj X) l D cyy a0 x1 h0 S r_1 q_2) h0 (by decide) rfl rfl (Nat.le_of_ble_eq_true rfl) ?_
  refine g_if_eq (tgt := 19) X dX11_parish_6 (by decide) (fun c_3 => ?_) (fun c_3 => ?_)
  · rw [if_pos c_3] at hF
    refine g_iconst (v := 1) X dX11_parish_19 (by decide) ?_
    refine g_goto (tgt := 24) X dX11_parish_20 (by decide) ?_
    refine g_callVi (As := [.int (1 : Int32)]) X dX11_parish_24 mlX11_270 (fun l D cyy => tX11_throwsIf (cx_inj X) l D cyy a0 (1 : Int32) h0 S) h0 (by decide) rfl rfl (Nat.le_of_ble_eq_true rfl) ?_
    exact (wX11_parish_s27 X a0 x1 x2 h0 ((fX11_throwsIf a0 (1 : Int32) S).1) ((fX11_throwsIf a0 (1 : Int32) S).2) r ho hF)
  · rw [if_neg c_3] at hF
    refine g_iload_n X dX11_parish_9 2 rfl rfl ?_
    refine g_iconst (v := 0) X dX11_parish_10 (by decide) ?_
    refine g_bipush (v := 8) X dX11_parish_11 (by decide) ?_
    refine g_callSi (As := [.int x2, .int (0 : Int32), .int (8 : Int32)]) X dX11_parish_13 mlX11_173 (fun l D cyy => tX11_isIn (cx_inj X) l D cyy x2 (0 : Int32) (8 : Int32)  S) (by decide) rfl rfl (Nat.le_of_ble_eq_true rfl) ?_
    refine g_if_ne (tgt := 23) X dX11_parish_16 (by decide) (fun c_22 => ?_) (fun c_22 => ?_)
    · rw [if_neg c_22] at hF
      refine g_iconst (v := 0) X dX11_parish_23 (by decide) ?_
      refine g_callVi (As := [.int (0 : Int32)]) X dX11_parish_24 mlX11_270 (fun l D cyy => tX11_throwsIf (cx_inj X) l D cyy a0 (0 : Int32) h0 S) h0 (by decide) rfl rfl (Nat.le_of_ble_eq_true rfl) ?_
      exact (wX11_parish_s27 X a0 x1 x2 h0 ((fX11_throwsIf a0 (0 : Int32) S).1) ((fX11_throwsIf a0 (0 : Int32) S).2) r ho hF)
    · rw [if_pos c_22] at hF
      refine g_iconst (v := 1) X dX11_parish_19 (by decide) ?_
      refine g_goto (tgt := 24) X dX11_parish_20 (by decide) ?_
      refine g_callVi (As := [.int (1 : Int32)]) X dX11_parish_24 mlX11_270 (fun l D cyy => tX11_throwsIf (cx_inj X) l D cyy a0 (1 : Int32) h0 S) h0 (by decide) rfl rfl (Nat.le_of_ble_eq_true rfl) ?_
      exact (wX11_parish_s27 X a0 x1 x2 h0 ((fX11_throwsIf a0 (1 : Int32) S).1) ((fX11_throwsIf a0 (1 : Int32) S).2) r ho hF)
theorem tX11_parish {ad : Nat → Nat} (hI : Inj ad) (l : Launch) (D : va_G) (cyy : Nat → ClassId) (a0 : Nat) (x1 : Int32) (x2 : Int32) (h0 : KT a0 = 11) (S : St) (r : (Int32 × St)) (hF : fX11_parish a0 x1 x2 S = some r) : OkM l yX11_parish cX11_parish 3 (some .int) 3 ad D cyy [.ref (ad a0), .int x1, .int x2] S (some (.int r.1), r.2) := okM_of hI (by decide) (inr_22 _ (List.mem_of_getElem? (i := 7) rfl)) (by show _ ≤ 3; exact Nat.le_of_ble_eq_true rfl) (fun z X => wX11_parish X a0 x1 x2 h0 S r rfl hF)
def fX11_at_s55 (a0 : Nat) (x1 : Int32) (x2 : Int32) (x3 : Int32) (y4 : Int32)  (S : St) : Option (Int32 × St) :=
  if x3 = 0 then ((fX11_yearBy a0 x1 y4 S).bind fun r_9 =>
  some (r_9, S)) else
  (if x3 = 1 then ((fX11_dated a0 x1 y4 S).bind fun r_12 =>
  some ((r_12 / (32 : Int32)), S)) else
  (if x3 = 2 then ((fX11_dated a0 x1 y4 S).bind fun r_15 =>
  some ((r_15 - r_15 / (32 : Int32) * (32 : Int32)), S)) else
  (if x3 = 3 then (if (((14 : Int32) + x1) < 0 ∨ 250 ≤ ((14 : Int32) + x1).toNatClampNeg) then none else
  if (gA S 29 (a0 + 2) (((14 : Int32) + x1).toNatClampNeg)) = 0 then none else
  some ((y4 - y4 / (gA S 29 (a0 + 2) (((14 : Int32) + x1).toNatClampNeg)) * (gA S 29 (a0 + 2) (((14 : Int32) + x1).toNatClampNeg))), S)) else
  (some ((-1 : Int32), S)))))
def fX11_at_s5 (a0 : Nat) (x1 : Int32) (x2 : Int32) (x3 : Int32)   (S : St) : Option (Int32 × St) :=
  (fX11_isParish a0 x1 S).bind fun r_1 =>
  if r_1 = 0 then (some ((-1 : Int32), S)) else
  (if (fX11_isIn x2 (-9999 : Int32) (99999 : Int32) S) = 0 then (some ((-1 : Int32), S)) else
  (if (((54 : Int32) + x1) < 0 ∨ 250 ≤ ((54 : Int32) + x1).toNatClampNeg) then none else
  if 0 ≤ ((gA S 29 (a0 + 2) (((54 : Int32) + x1).toNatClampNeg)) + x2) then (if (((54 : Int32) + x1) < 0 ∨ 250 ≤ ((54 : Int32) + x1).toNatClampNeg) then none else
  fX11_at_s55 a0 x1 x2 x3 ((gA S 29 (a0 + 2) (((54 : Int32) + x1).toNatClampNeg)) + x2) S) else
  (some ((-1 : Int32), S))))
def fX11_at (a0 : Nat) (x1 : Int32) (x2 : Int32) (x3 : Int32) (S : St) : Option (Int32 × St) :=
  fX11_at_s5 a0 x1 x2 x3 (sI S 11 0 a0 (0 : Int32))
theorem wX11_at_s55 {z : Mx} {ad : Nat → Nat} {o : Option Value × St} (X : CxOk z ad RX11 cX11_at 5 (some .int) 5) (a0 : Nat) (x1 : Int32) (x2 : Int32) (x3 : Int32) (h0 : KT a0 = 11) (y4 : Int32)    (S : St) (r : (Int32 × St)) (ho : o = (some (.int r.1), r.2)) (hF : fX11_at_s55 a0 x1 x2 x3 y4  S = some r) : GW z ad o S 55 [(0, .ref (ad a0)), (1, .int x1), (3, .int x3), (4, .int y4)] [] := by
  unfold fX11_at_s55 at hF
  refine g_iload_n X dX11_at_55 2 rfl rfl ?_
  by_cases c_8 : x3 = 0
  · rw [if_pos c_8] at hF
    refine g_tabIn (tgt := 88) (off := 32) X dX11_at_56 (by rw [c_8]; decide) (by rw [c_8]; decide) (by rw [c_8]; decide) (by decide) ?_
    refine g_aload_n X dX11_at_88 0 rfl rfl ?_
    refine g_iload_n X dX11_at_89 1 rfl rfl ?_
    refine g_iload X dX11_at_90 3 rfl ?_
    obtain ⟨r_9, q_10, hF⟩ := obind hF
    refine g_callVi (As := [.int x1, .int y4]) X dX11_at_92 mlX11_246 (fun l D cyy => tX11_yearBy (cx_inj X) l D cyy a0 x1 y4 h0 S r_9 q_10) h0 (by decide) rfl rfl (Nat.le_of_ble_eq_true rfl) ?_
    have hF := Option.some.inj hF
    subst hF
    exact g_iret X dX11_at_95 ho
  rw [if_neg c_8] at hF
  by_cases c_11 : x3 = 1
  · rw [if_pos c_11] at hF
    refine g_tabIn (tgt := 96) (off := 40) X dX11_at_56 (by rw [c_11]; decide) (by rw [c_11]; decide) (by rw [c_11]; decide) (by decide) ?_
    refine g_aload_n X dX11_at_96 0 rfl rfl ?_
    refine g_iload_n X dX11_at_97 1 rfl rfl ?_
    refine g_iload X dX11_at_98 3 rfl ?_
    obtain ⟨r_12, q_13, hF⟩ := obind hF
    refine g_callVi (As := [.int x1, .int y4]) X dX11_at_100 mlX11_252 (fun l D cyy => tX11_dated (cx_inj X) l D cyy a0 x1 y4 h0 S r_12 q_13) h0 (by decide) rfl rfl (Nat.le_of_ble_eq_true rfl) ?_
    refine g_bipush (v := 32) X dX11_at_103 (by decide) ?_
    refine g_idiv X dX11_at_105 (by decide) ?_
    have hF := Option.some.inj hF
    subst hF
    exact g_iret X dX11_at_106 ho
  rw [if_neg c_11] at hF
  by_cases c_14 : x3 = 2
  · rw [if_pos c_14] at hF
    refine g_tabIn (tgt := 107) (off := 51) X dX11_at_56 (by rw [c_14]; decide) (by rw [c_14]; decide) (by rw [c_14]; decide) (by decide) ?_
    refine g_aload_n X dX11_at_107 0 rfl rfl ?_
    refine g_iload_n X dX11_at_108 1 rfl rfl ?_
    refine g_iload X dX11_at_109 3 rfl ?_
    obtain ⟨r_15, q_16, hF⟩ := obind hF
    refine g_callVi (As := [.int x1, .int y4]) X dX11_at_111 mlX11_252 (fun l D cyy => tX11_dated (cx_inj X) l D cyy a0 x1 y4 h0 S r_15 q_16) h0 (by decide) rfl rfl (Nat.le_of_ble_eq_true rfl) ?_
    refine g_bipush (v := 32) X dX11_at_114 (by decide) ?_
    refine g_irem X dX11_at_116 (by decide) ?_
    have hF := Option.some.inj hF
    subst hF
    exact g_iret X dX11_at_117 ho
  rw [if_neg c_14] at hF
  by_cases c_17 : x3 = 3
  · rw [if_pos c_17] at hF
    refine g_tabIn (tgt := 118) (off := 62) X dX11_at_56 (by rw [c_17]; decide) (by rw [c_17]; decide) (by rw [c_17]; decide) (by decide) ?_
    refine g_iload X dX11_at_118 3 rfl ?_
    refine g_aload_n X dX11_at_120 0 rfl rfl ?_
    refine g_getR (f := 2) X dX11_at_121 flX11_33 rfl rfl h0 ?_
    refine g_bipush (v := 14) X dX11_at_124 (by decide) ?_
    refine g_iload_n X dX11_at_126 1 rfl rfl ?_
    refine g_iadd X dX11_at_127 ?_
    obtain ⟨e_18, hF⟩ := oguard hF
    refine g_iald X dX11_at_128 kd_29 (on_11_6 h0) e_18 ?_
    obtain ⟨e_19, hF⟩ := oguard hF
    refine g_irem X dX11_at_129 e_19 ?_
    have hF := Option.some.inj hF
    subst hF
    exact g_iret X dX11_at_130 ho
  rw [if_neg c_17] at hF
  have c_20 : (x3).toInt < 0 ∨ 3 < (x3).toInt := by
    have := ti_ne (n := 0) c_8 (by decide)
    have := ti_ne (n := 1) c_11 (by decide)
    have := ti_ne (n := 2) c_14 (by decide)
    have := ti_ne (n := 3) c_17 (by decide)
    omega
  refine g_tabOut (tgt := 131) X dX11_at_56 c_20 (by decide) ?_
  refine g_iconst (v := -1) X dX11_at_131 (by decide) ?_
  have hF := Option.some.inj hF
  subst hF
  exact g_iret X dX11_at_132 ho
theorem wX11_at_s5 {z : Mx} {ad : Nat → Nat} {o : Option Value × St} (X : CxOk z ad RX11 cX11_at 5 (some .int) 5) (a0 : Nat) (x1 : Int32) (x2 : Int32) (x3 : Int32) (h0 : KT a0 = 11)     (S : St) (r : (Int32 × St)) (ho : o = (some (.int r.1), r.2)) (hF : fX11_at_s5 a0 x1 x2 x3   S = some r) : GW z ad o S 5 [(0, .ref (ad a0)), (1, .int x1), (2, .int x2), (3, .int x3)] [] := by
  unfold fX11_at_s5 at hF
  refine g_aload_n X dX11_at_5 0 rfl rfl ?_
  refine g_iload_n X dX11_at_6 1 rfl rfl ?_
  obtain ⟨r_1, q_2, hF⟩ := obind hF
  refine g_callVi (As := [.int x1]) X dX11_at_7 mlX11_267 (fun l D cyy => tX11_isParish (cx_inj X) l D cyy a0 x1 h0 S r_1 q_2) h0 (by decide) rfl rfl (Nat.le_of_ble_eq_true rfl) ?_
  refine g_if_eq (tgt := 40) X dX11_at_10 (by decide) (fun c_3 => ?_) (fun c_3 => ?_)
  · rw [if_pos c_3] at hF
    refine g_iconst (v := -1) X dX11_at_40 (by decide) ?_
    have hF := Option.some.inj hF
    subst hF
    exact g_iret X dX11_at_41 ho
  · rw [if_neg c_3] at hF
    refine g_iload_n X dX11_at_13 2 rfl rfl ?_
    refine g_sipush (v := -9999) X dX11_at_14 (by decide) ?_
    refine g_ldcw (v := 99999) X dX11_at_17 (inr_23 _ (List.mem_of_getElem? (i := 21) rfl)) ?_
    refine g_callSi (As := [.int x2, .int (-9999 : Int32), .int (99999 : Int32)]) X dX11_at_20 mlX11_173 (fun l D cyy => tX11_isIn (cx_inj X) l D cyy x2 (-9999 : Int32) (99999 : Int32)  S) (by decide) rfl rfl (Nat.le_of_ble_eq_true rfl) ?_
    refine g_if_eq (tgt := 40) X dX11_at_23 (by decide) (fun c_4 => ?_) (fun c_4 => ?_)
    · rw [if_pos c_4] at hF
      refine g_iconst (v := -1) X dX11_at_40 (by decide) ?_
      have hF := Option.some.inj hF
      subst hF
      exact g_iret X dX11_at_41 ho
    · rw [if_neg c_4] at hF
      refine g_aload_n X dX11_at_26 0 rfl rfl ?_
      refine g_getR (f := 2) X dX11_at_27 flX11_33 rfl rfl h0 ?_
      refine g_bipush (v := 54) X dX11_at_30 (by decide) ?_
      refine g_iload_n X dX11_at_32 1 rfl rfl ?_
      refine g_iadd X dX11_at_33 ?_
      obtain ⟨e_5, hF⟩ := oguard hF
      refine g_iald X dX11_at_34 kd_29 (on_11_6 h0) e_5 ?_
      refine g_iload_n X dX11_at_35 2 rfl rfl ?_
      refine g_iadd X dX11_at_36 ?_
      refine g_if_ge (tgt := 42) X dX11_at_37 (by decide) (fun c_6 => ?_) (fun c_6 => ?_)
      · rw [if_pos c_6] at hF
        refine g_aload_n X dX11_at_42 0 rfl rfl ?_
        refine g_getR (f := 2) X dX11_at_43 flX11_33 rfl rfl h0 ?_
        refine g_bipush (v := 54) X dX11_at_46 (by decide) ?_
        refine g_iload_n X dX11_at_48 1 rfl rfl ?_
        refine g_iadd X dX11_at_49 ?_
        obtain ⟨e_7, hF⟩ := oguard hF
        refine g_iald X dX11_at_50 kd_29 (on_11_6 h0) e_7 ?_
        refine g_iload_n X dX11_at_51 2 rfl rfl ?_
        refine g_iadd X dX11_at_52 ?_
        refine g_istore X dX11_at_53 (by decide) (lv' := [(4, .int ((gA S 29 (a0 + 2) (((54 : Int32) + x1).toNatClampNeg)) + x2)), (0, .ref (ad a0)), (1, .int x1), (2, .int x2), (3, .int x3)]) rfl ?_
        exact g_perm [1, 2, 4, 0] rfl (wX11_at_s55 X a0 x1 x2 x3 h0 ((gA S 29 (a0 + 2) (((54 : Int32) + x1).toNatClampNeg)) + x2) S r ho hF)
      · rw [if_neg c_6] at hF
        refine g_iconst (v := -1) X dX11_at_40 (by decide) ?_
        have hF := Option.some.inj hF
        subst hF
        exact g_iret X dX11_at_41 ho
theorem wX11_at {z : Mx} {ad : Nat → Nat} {o : Option Value × St} (X : CxOk z ad RX11 cX11_at 5 (some .int) 5) (a0 : Nat) (x1 : Int32) (x2 : Int32) (x3 : Int32) (h0 : KT a0 = 11) (S : St) (r : (Int32 × St)) (ho : o = (some (.int r.1), r.2)) (hF : fX11_at a0 x1 x2 x3 S = some r) : GW z ad o S 0 [(0, .ref (ad a0)), (1, .int x1), (2, .int x2), (3, .int x3)] [] := by
  unfold fX11_at at hF
  refine g_aload_n X dX11_at_0 0 rfl rfl ?_
  refine g_iconst (v := 0) X dX11_at_1 (by decide) ?_
  refine g_putI X dX11_at_2 fpX11_1 rfl rfl rfl h0 ?_
  exact (wX11_at_s5 X a0 x1 x2 x3 h0 (sI S 11 0 a0 (0 : Int32)) r ho hF)
theorem tX11_at {ad : Nat → Nat} (hI : Inj ad) (l : Launch) (D : va_G) (cyy : Nat → ClassId) (a0 : Nat) (x1 : Int32) (x2 : Int32) (x3 : Int32) (h0 : KT a0 = 11) (S : St) (r : (Int32 × St)) (hF : fX11_at a0 x1 x2 x3 S = some r) : OkM l yX11_at cX11_at 5 (some .int) 5 ad D cyy [.ref (ad a0), .int x1, .int x2, .int x3] S (some (.int r.1), r.2) := okM_of hI (by decide) (inr_23 _ (List.mem_of_getElem? (i := 20) rfl)) (by show _ ≤ 5; exact Nat.le_of_ble_eq_true rfl) (fun z X => wX11_at X a0 x1 x2 x3 h0 S r rfl hF)
def fX11_counted_s80 (a0 : Nat) (x1 : Int32) (x2 : Int32) (x3 : Int32) (x4 : Int32) (y5 : Int32)  (S : St) : Option Int32 :=
  if y5 = 0 then (if (((9 : Int32) + x1) < 0 ∨ 250 ≤ ((9 : Int32) + x1).toNatClampNeg) then none else
  if x4 < (gA S 29 (a0 + 2) (((9 : Int32) + x1).toNatClampNeg)) then ((fX11_firstBy a0 x1 x2 S).bind fun r_13 =>
  if (((9 : Int32) + x1) < 0 ∨ 250 ≤ ((9 : Int32) + x1).toNatClampNeg) then none else
  some ((r_13 + (x3 * (gA S 29 (a0 + 2) (((9 : Int32) + x1).toNatClampNeg)))) + x4)) else
  (some (-1 : Int32))) else
  (if (((24 : Int32) + x1) < 0 ∨ 250 ≤ ((24 : Int32) + x1).toNatClampNeg) then none else
  if x4 < (gA S 29 (a0 + 2) (((24 : Int32) + x1).toNatClampNeg)) then ((fX11_firstBy a0 x1 x2 S).bind fun r_18 =>
  if (((9 : Int32) + x1) < 0 ∨ 250 ≤ ((9 : Int32) + x1).toNatClampNeg) then none else
  some ((r_18 + (x3 * (gA S 29 (a0 + 2) (((9 : Int32) + x1).toNatClampNeg)))) + x4)) else
  (some (-1 : Int32)))
def fX11_counted (a0 : Nat) (x1 : Int32) (x2 : Int32) (x3 : Int32) (x4 : Int32) (S : St) : Option Int32 :=
  (fX11_isParish a0 x1 S).bind fun r_1 =>
  if r_1 = 0 then (some (-1 : Int32)) else
  (if (fX11_isIn x2 (0 : Int32) (999 : Int32) S) = 0 then (some (-1 : Int32)) else
  (if (((4 : Int32) + x1) < 0 ∨ 250 ≤ ((4 : Int32) + x1).toNatClampNeg) then none else
  if (fX11_isIn x3 (0 : Int32) (gA S 29 (a0 + 2) (((4 : Int32) + x1).toNatClampNeg)) S) = 0 then (some (-1 : Int32)) else
  (if 0 ≤ x4 then (if (((4 : Int32) + x1) < 0 ∨ 250 ≤ ((4 : Int32) + x1).toNatClampNeg) then none else
  if x3 = (gA S 29 (a0 + 2) (((4 : Int32) + x1).toNatClampNeg)) then (if (((29 : Int32) + x1) < 0 ∨ 250 ≤ ((29 : Int32) + x1).toNatClampNeg) then none else
  if (gA S 29 (a0 + 2) (((29 : Int32) + x1).toNatClampNeg)) = 0 then none else
  if (x2 - x2 / (gA S 29 (a0 + 2) (((29 : Int32) + x1).toNatClampNeg)) * (gA S 29 (a0 + 2) (((29 : Int32) + x1).toNatClampNeg))) = 0 then (fX11_counted_s80 a0 x1 x2 x3 x4 (1 : Int32) S) else
  (some (-1 : Int32))) else
  (fX11_counted_s80 a0 x1 x2 x3 x4 (0 : Int32) S)) else
  (some (-1 : Int32)))))
theorem wX11_counted_s80 {z : Mx} {ad : Nat → Nat} {o : Option Value × St} (X : CxOk z ad RX11 cX11_counted 6 (some .int) 3) (a0 : Nat) (x1 : Int32) (x2 : Int32) (x3 : Int32) (x4 : Int32) (h0 : KT a0 = 11) (y5 : Int32)    (S : St) (r : Int32) (ho : o = (some (.int r), S)) (hF : fX11_counted_s80 a0 x1 x2 x3 x4 y5  S = some r) : GW z ad o S 80 [(0, .ref (ad a0)), (1, .int x1), (2, .int x2), (3, .int x3), (4, .int x4), (5, .int y5)] [] := by
  unfold fX11_counted_s80 at hF
  refine g_iload X dX11_counted_80 4 rfl ?_
  refine g_iload X dX11_counted_82 5 rfl ?_
  refine g_if_eq (tgt := 99) X dX11_counted_84 (by decide) (fun c_10 => ?_) (fun c_10 => ?_)
  · rw [if_pos c_10] at hF
    refine g_aload_n X dX11_counted_99 0 rfl rfl ?_
    refine g_getR (f := 2) X dX11_counted_100 flX11_33 rfl rfl h0 ?_
    refine g_bipush (v := 9) X dX11_counted_103 (by decide) ?_
    refine g_iload_n X dX11_counted_105 1 rfl rfl ?_
    refine g_iadd X dX11_counted_106 ?_
    obtain ⟨e_11, hF⟩ := oguard hF
    refine g_iald X dX11_counted_107 kd_29 (on_11_6 h0) e_11 ?_
    refine g_icmp_lt (tgt := 113) X dX11_counted_108 (by decide) (fun c_12 => ?_) (fun c_12 => ?_)
    · rw [if_pos c_12] at hF
      refine g_aload_n X dX11_counted_113 0 rfl rfl ?_
      refine g_iload_n X dX11_counted_114 1 rfl rfl ?_
      refine g_iload_n X dX11_counted_115 2 rfl rfl ?_
      obtain ⟨r_13, q_14, hF⟩ := obind hF
      refine g_callVi (As := [.int x1, .int x2]) X dX11_counted_116 mlX11_249 (fun l D cyy => tX11_firstBy (cx_inj X) l D cyy a0 x1 x2 h0 S r_13 q_14) h0 (by decide) rfl rfl (Nat.le_of_ble_eq_true rfl) ?_
      refine g_iload_n X dX11_counted_119 3 rfl rfl ?_
      refine g_aload_n X dX11_counted_120 0 rfl rfl ?_
      refine g_getR (f := 2) X dX11_counted_121 flX11_33 rfl rfl h0 ?_
      refine g_bipush (v := 9) X dX11_counted_124 (by decide) ?_
      refine g_iload_n X dX11_counted_126 1 rfl rfl ?_
      refine g_iadd X dX11_counted_127 ?_
      obtain ⟨e_15, hF⟩ := oguard hF
      refine g_iald X dX11_counted_128 kd_29 (on_11_6 h0) e_15 ?_
      refine g_imul X dX11_counted_129 ?_
      refine g_iadd X dX11_counted_130 ?_
      refine g_iload X dX11_counted_131 4 rfl ?_
      refine g_iadd X dX11_counted_133 ?_
      have hF := Option.some.inj hF
      subst hF
      exact g_iret X dX11_counted_134 ho
    · rw [if_neg c_12] at hF
      refine g_iconst (v := -1) X dX11_counted_111 (by decide) ?_
      have hF := Option.some.inj hF
      subst hF
      exact g_iret X dX11_counted_112 ho
  · rw [if_neg c_10] at hF
    refine g_aload_n X dX11_counted_87 0 rfl rfl ?_
    refine g_getR (f := 2) X dX11_counted_88 flX11_33 rfl rfl h0 ?_
    refine g_bipush (v := 24) X dX11_counted_91 (by decide) ?_
    refine g_iload_n X dX11_counted_93 1 rfl rfl ?_
    refine g_iadd X dX11_counted_94 ?_
    obtain ⟨e_16, hF⟩ := oguard hF
    refine g_iald X dX11_counted_95 kd_29 (on_11_6 h0) e_16 ?_
    refine g_goto (tgt := 108) X dX11_counted_96 (by decide) ?_
    refine g_icmp_lt (tgt := 113) X dX11_counted_108 (by decide) (fun c_17 => ?_) (fun c_17 => ?_)
    · rw [if_pos c_17] at hF
      refine g_aload_n X dX11_counted_113 0 rfl rfl ?_
      refine g_iload_n X dX11_counted_114 1 rfl rfl ?_
      refine g_iload_n X dX11_counted_115 2 rfl rfl ?_
      obtain ⟨r_18, q_19, hF⟩ := obind hF
      refine g_callVi (As := [.int x1, .int x2]) X dX11_counted_116 mlX11_249 (fun l D cyy => tX11_firstBy (cx_inj X) l D cyy a0 x1 x2 h0 S r_18 q_19) h0 (by decide) rfl rfl (Nat.le_of_ble_eq_true rfl) ?_
      refine g_iload_n X dX11_counted_119 3 rfl rfl ?_
      refine g_aload_n X dX11_counted_120 0 rfl rfl ?_
      refine g_getR (f := 2) X dX11_counted_121 flX11_33 rfl rfl h0 ?_
      refine g_bipush (v := 9) X dX11_counted_124 (by decide) ?_
      refine g_iload_n X dX11_counted_126 1 rfl rfl ?_
      refine g_iadd X dX11_counted_127 ?_
      obtain ⟨e_20, hF⟩ := oguard hF
      refine g_iald X dX11_counted_128 kd_29 (on_11_6 h0) e_20 ?_
      refine g_imul X dX11_counted_129 ?_
      refine g_iadd X dX11_counted_130 ?_
      refine g_iload X dX11_counted_131 4 rfl ?_
      refine g_iadd X dX11_counted_133 ?_
      have hF := Option.some.inj hF
      subst hF
      exact g_iret X dX11_counted_134 ho
    · rw [if_neg c_17] at hF
      refine g_iconst (v := -1) X dX11_counted_111 (by decide) ?_
      have hF := Option.some.inj hF
      subst hF
      exact g_iret X dX11_counted_112 ho
theorem wX11_counted {z : Mx} {ad : Nat → Nat} {o : Option Value × St} (X : CxOk z ad RX11 cX11_counted 6 (some .int) 3) (a0 : Nat) (x1 : Int32) (x2 : Int32) (x3 : Int32) (x4 : Int32) (h0 : KT a0 = 11) (S : St) (r : Int32) (ho : o = (some (.int r), S)) (hF : fX11_counted a0 x1 x2 x3 x4 S = some r) : GW z ad o S 0 [(0, .ref (ad a0)), (1, .int x1), (2, .int x2), (3, .int x3), (4, .int x4)] [] := by
  unfold fX11_counted at hF
  refine g_aload_n X dX11_counted_0 0 rfl rfl ?_
  refine g_iload_n X dX11_counted_1 1 rfl rfl ?_
  obtain ⟨r_1, q_2, hF⟩ := obind hF
  refine g_callVi (As := [.int x1]) X dX11_counted_2 mlX11_267 (fun l D cyy => tX11_isParish (cx_inj X) l D cyy a0 x1 h0 S r_1 q_2) h0 (by decide) rfl rfl (Nat.le_of_ble_eq_true rfl) ?_
  refine g_if_eq (tgt := 40) X dX11_counted_5 (by decide) (fun c_3 => ?_) (fun c_3 => ?_)
  · rw [if_pos c_3] at hF
    refine g_iconst (v := -1) X dX11_counted_40 (by decide) ?_
    have hF := Option.some.inj hF
    subst hF
    exact g_iret X dX11_counted_41 ho
  · rw [if_neg c_3] at hF
    refine g_iload_n X dX11_counted_8 2 rfl rfl ?_
    refine g_iconst (v := 0) X dX11_counted_9 (by decide) ?_
    refine g_sipush (v := 999) X dX11_counted_10 (by decide) ?_
    refine g_callSi (As := [.int x2, .int (0 : Int32), .int (999 : Int32)]) X dX11_counted_13 mlX11_173 (fun l D cyy => tX11_isIn (cx_inj X) l D cyy x2 (0 : Int32) (999 : Int32)  S) (by decide) rfl rfl (Nat.le_of_ble_eq_true rfl) ?_
    refine g_if_eq (tgt := 40) X dX11_counted_16 (by decide) (fun c_4 => ?_) (fun c_4 => ?_)
    · rw [if_pos c_4] at hF
      refine g_iconst (v := -1) X dX11_counted_40 (by decide) ?_
      have hF := Option.some.inj hF
      subst hF
      exact g_iret X dX11_counted_41 ho
    · rw [if_neg c_4] at hF
      refine g_iload_n X dX11_counted_19 3 rfl rfl ?_
      refine g_iconst (v := 0) X dX11_counted_20 (by decide) ?_
      refine g_aload_n X dX11_counted_21 0 rfl rfl ?_
      refine g_getR (f := 2) X dX11_counted_22 flX11_33 rfl rfl h0 ?_
      refine g_iconst (v := 4) X dX11_counted_25 (by decide) ?_
      refine g_iload_n X dX11_counted_26 1 rfl rfl ?_
      refine g_iadd X dX11_counted_27 ?_
      obtain ⟨e_5, hF⟩ := oguard hF
      refine g_iald X dX11_counted_28 kd_29 (on_11_6 h0) e_5 ?_
      refine g_callSi (As := [.int x3, .int (0 : Int32), .int (gA S 29 (a0 + 2) (((4 : Int32) + x1).toNatClampNeg))]) X dX11_counted_29 mlX11_173 (fun l D cyy => tX11_isIn (cx_inj X) l D cyy x3 (0 : Int32) (gA S 29 (a0 + 2) (((4 : Int32) + x1).toNatClampNeg))  S) (by decide) rfl rfl (Nat.le_of_ble_eq_true rfl) ?_
      refine g_if_eq (tgt := 40) X dX11_counted_32 (by decide) (fun c_6 => ?_) (fun c_6 => ?_)
      · rw [if_pos c_6] at hF
        refine g_iconst (v := -1) X dX11_counted_40 (by decide) ?_
        have hF := Option.some.inj hF
        subst hF
        exact g_iret X dX11_counted_41 ho
      · rw [if_neg c_6] at hF
        refine g_iload X dX11_counted_35 4 rfl ?_
        refine g_if_ge (tgt := 42) X dX11_counted_37 (by decide) (fun c_7 => ?_) (fun c_7 => ?_)
        · rw [if_pos c_7] at hF
          refine g_iload_n X dX11_counted_42 3 rfl rfl ?_
          refine g_aload_n X dX11_counted_43 0 rfl rfl ?_
          refine g_getR (f := 2) X dX11_counted_44 flX11_33 rfl rfl h0 ?_
          refine g_iconst (v := 4) X dX11_counted_47 (by decide) ?_
          refine g_iload_n X dX11_counted_48 1 rfl rfl ?_
          refine g_iadd X dX11_counted_49 ?_
          obtain ⟨e_8, hF⟩ := oguard hF
          refine g_iald X dX11_counted_50 kd_29 (on_11_6 h0) e_8 ?_
          refine g_icmp_ne (tgt := 58) X dX11_counted_51 (by decide) (fun c_9 => ?_) (fun c_9 => ?_)
          · rw [if_neg c_9] at hF
            refine g_iconst (v := 0) X dX11_counted_58 (by decide) ?_
            refine g_istore X dX11_counted_59 (by decide) (lv' := [(5, .int (0 : Int32)), (0, .ref (ad a0)), (1, .int x1), (2, .int x2), (3, .int x3), (4, .int x4)]) rfl ?_
            refine g_iload X dX11_counted_61 0 rfl ?_
            refine g_if_eq (tgt := 80) X dX11_counted_63 (by decide) (fun _ => ?_) (fun c0 => absurd c0 (by decide))
            exact g_perm [1, 2, 3, 4, 5, 0] rfl (wX11_counted_s80 X a0 x1 x2 x3 x4 h0 (0 : Int32) S r ho hF)
          · rw [if_pos c_9] at hF
            refine g_iconst (v := 1) X dX11_counted_54 (by decide) ?_
            refine g_goto (tgt := 59) X dX11_counted_55 (by decide) ?_
            refine g_istore X dX11_counted_59 (by decide) (lv' := [(5, .int (1 : Int32)), (0, .ref (ad a0)), (1, .int x1), (2, .int x2), (3, .int x3), (4, .int x4)]) rfl ?_
            refine g_iload X dX11_counted_61 0 rfl ?_
            refine g_if_eq (tgt := 80) X dX11_counted_63 (by decide) (fun c0 => absurd c0 (by decide)) (fun _ => ?_)
            refine g_iload_n X dX11_counted_66 3 rfl rfl ?_
            refine g_aload_n X dX11_counted_67 1 rfl rfl ?_
            refine g_getR (f := 2) X dX11_counted_68 flX11_33 rfl rfl h0 ?_
            refine g_bipush (v := 29) X dX11_counted_71 (by decide) ?_
            refine g_iload_n X dX11_counted_73 2 rfl rfl ?_
            refine g_iadd X dX11_counted_74 ?_
            obtain ⟨e_21, hF⟩ := oguard hF
            refine g_iald X dX11_counted_75 kd_29 (on_11_6 h0) e_21 ?_
            obtain ⟨e_22, hF⟩ := oguard hF
            refine g_irem X dX11_counted_76 e_22 ?_
            refine g_if_ne (tgt := 111) X dX11_counted_77 (by decide) (fun c_23 => ?_) (fun c_23 => ?_)
            · rw [if_neg c_23] at hF
              refine g_iconst (v := -1) X dX11_counted_111 (by decide) ?_
              have hF := Option.some.inj hF
              subst hF
              exact g_iret X dX11_counted_112 ho
            · rw [if_pos c_23] at hF
              exact g_perm [1, 2, 3, 4, 5, 0] rfl (wX11_counted_s80 X a0 x1 x2 x3 x4 h0 (1 : Int32) S r ho hF)
        · rw [if_neg c_7] at hF
          refine g_iconst (v := -1) X dX11_counted_40 (by decide) ?_
          have hF := Option.some.inj hF
          subst hF
          exact g_iret X dX11_counted_41 ho
theorem tX11_counted {ad : Nat → Nat} (hI : Inj ad) (l : Launch) (D : va_G) (cyy : Nat → ClassId) (a0 : Nat) (x1 : Int32) (x2 : Int32) (x3 : Int32) (x4 : Int32) (h0 : KT a0 = 11) (S : St) (r : Int32) (hF : fX11_counted a0 x1 x2 x3 x4 S = some r) : OkM l yX11_counted cX11_counted 6 (some .int) 3 ad D cyy [.ref (ad a0), .int x1, .int x2, .int x3, .int x4] S (some (.int r), S) := okM_of hI (by decide) (inr_25 _ (List.mem_of_getElem? (i := 17) rfl)) (by show _ ≤ 6; exact Nat.le_of_ble_eq_true rfl) (fun z X => wX11_counted X a0 x1 x2 x3 x4 h0 S r rfl hF)
def fX11_countOf_s5 (a0 : Nat) (x1 : Int32) (x2 : Int32) (x3 : Int32) (x4 : Int32)   (S : St) : Option (Int32 × St) :=
  (fX11_counted a0 x1 x2 x3 x4 S).bind fun r_1 =>
  some (r_1, S)
def fX11_countOf (a0 : Nat) (x1 : Int32) (x2 : Int32) (x3 : Int32) (x4 : Int32) (S : St) : Option (Int32 × St) :=
  fX11_countOf_s5 a0 x1 x2 x3 x4 (sI S 11 0 a0 (0 : Int32))
theorem wX11_countOf_s5 {z : Mx} {ad : Nat → Nat} {o : Option Value × St} (X : CxOk z ad RX11 cX11_countOf 5 (some .int) 4) (a0 : Nat) (x1 : Int32) (x2 : Int32) (x3 : Int32) (x4 : Int32) (h0 : KT a0 = 11)     (S : St) (r : (Int32 × St)) (ho : o = (some (.int r.1), r.2)) (hF : fX11_countOf_s5 a0 x1 x2 x3 x4   S = some r) : GW z ad o S 5 [(0, .ref (ad a0)), (1, .int x1), (2, .int x2), (3, .int x3), (4, .int x4)] [] := by
  unfold fX11_countOf_s5 at hF
  refine g_aload_n X dX11_countOf_5 0 rfl rfl ?_
  refine g_iload_n X dX11_countOf_6 1 rfl rfl ?_
  refine g_iload_n X dX11_countOf_7 2 rfl rfl ?_
  refine g_iload_n X dX11_countOf_8 3 rfl rfl ?_
  refine g_iload X dX11_countOf_9 4 rfl ?_
  obtain ⟨r_1, q_2, hF⟩ := obind hF
  refine g_callVi (As := [.int x1, .int x2, .int x3, .int x4]) X dX11_countOf_11 mlX11_275 (fun l D cyy => tX11_counted (cx_inj X) l D cyy a0 x1 x2 x3 x4 h0 S r_1 q_2) h0 (by decide) rfl rfl (Nat.le_of_ble_eq_true rfl) ?_
  have hF := Option.some.inj hF
  subst hF
  exact g_iret X dX11_countOf_14 ho
theorem wX11_countOf {z : Mx} {ad : Nat → Nat} {o : Option Value × St} (X : CxOk z ad RX11 cX11_countOf 5 (some .int) 4) (a0 : Nat) (x1 : Int32) (x2 : Int32) (x3 : Int32) (x4 : Int32) (h0 : KT a0 = 11) (S : St) (r : (Int32 × St)) (ho : o = (some (.int r.1), r.2)) (hF : fX11_countOf a0 x1 x2 x3 x4 S = some r) : GW z ad o S 0 [(0, .ref (ad a0)), (1, .int x1), (2, .int x2), (3, .int x3), (4, .int x4)] [] := by
  unfold fX11_countOf at hF
  refine g_aload_n X dX11_countOf_0 0 rfl rfl ?_
  refine g_iconst (v := 0) X dX11_countOf_1 (by decide) ?_
  refine g_putI X dX11_countOf_2 fpX11_1 rfl rfl rfl h0 ?_
  exact (wX11_countOf_s5 X a0 x1 x2 x3 x4 h0 (sI S 11 0 a0 (0 : Int32)) r ho hF)
theorem tX11_countOf {ad : Nat → Nat} (hI : Inj ad) (l : Launch) (D : va_G) (cyy : Nat → ClassId) (a0 : Nat) (x1 : Int32) (x2 : Int32) (x3 : Int32) (x4 : Int32) (h0 : KT a0 = 11) (S : St) (r : (Int32 × St)) (hF : fX11_countOf a0 x1 x2 x3 x4 S = some r) : OkM l yX11_countOf cX11_countOf 5 (some .int) 4 ad D cyy [.ref (ad a0), .int x1, .int x2, .int x3, .int x4] S (some (.int r.1), r.2) := okM_of hI (by decide) (inr_25 _ (List.mem_of_getElem? (i := 13) rfl)) (by show _ ≤ 5; exact Nat.le_of_ble_eq_true rfl) (fun z X => wX11_countOf X a0 x1 x2 x3 x4 h0 S r rfl hF)
def fX11_feast_s5 (a0 : Nat) (x1 : Int32) (x2 : Int32)   (S : St) : Option (Int32 × St) :=
  (fX11_isFeast a0 x1 S).bind fun r_1 =>
  if r_1 = 0 then (some ((-1 : Int32), S)) else
  (if x2 = 0 then (if (((34 : Int32) + x1) < 0 ∨ 250 ≤ ((34 : Int32) + x1).toNatClampNeg) then none else
  some ((gA S 29 (a0 + 2) (((34 : Int32) + x1).toNatClampNeg)), S)) else
  (if x2 = (1 : Int32) then (if (((40 : Int32) + x1) < 0 ∨ 250 ≤ ((40 : Int32) + x1).toNatClampNeg) then none else
  some ((gA S 29 (a0 + 2) (((40 : Int32) + x1).toNatClampNeg)), S)) else
  (if x2 = (2 : Int32) then (if (((46 : Int32) + x1) < 0 ∨ 250 ≤ ((46 : Int32) + x1).toNatClampNeg) then none else
  some ((gA S 29 (a0 + 2) (((46 : Int32) + x1).toNatClampNeg)), S)) else
  (if x2 = (3 : Int32) then ((fX11_fallsIn a0 x1 (0 : Int32) S).bind fun r_8 =>
  if r_8 = 0 then (some ((0 : Int32), S)) else
  (some ((1 : Int32), S))) else
  (some ((-1 : Int32), S))))))
def fX11_feast (a0 : Nat) (x1 : Int32) (x2 : Int32) (S : St) : Option (Int32 × St) :=
  fX11_feast_s5 a0 x1 x2 (sI S 11 0 a0 (0 : Int32))
theorem wX11_feast_s5 {z : Mx} {ad : Nat → Nat} {o : Option Value × St} (X : CxOk z ad RX11 cX11_feast 3 (some .int) 7) (a0 : Nat) (x1 : Int32) (x2 : Int32) (h0 : KT a0 = 11)     (S : St) (r : (Int32 × St)) (ho : o = (some (.int r.1), r.2)) (hF : fX11_feast_s5 a0 x1 x2   S = some r) : GW z ad o S 5 [(0, .ref (ad a0)), (1, .int x1), (2, .int x2)] [] := by
  unfold fX11_feast_s5 at hF
  refine g_aload_n X dX11_feast_5 0 rfl rfl ?_
  refine g_iload_n X dX11_feast_6 1 rfl rfl ?_
  obtain ⟨r_1, q_2, hF⟩ := obind hF
  refine g_callVi (As := [.int x1]) X dX11_feast_7 mlX11_279 (fun l D cyy => tX11_isFeast (cx_inj X) l D cyy a0 x1 h0 S r_1 q_2) h0 (by decide) rfl rfl (Nat.le_of_ble_eq_true rfl) ?_
  refine g_if_ne (tgt := 15) X dX11_feast_10 (by decide) (fun c_3 => ?_) (fun c_3 => ?_)
  · rw [if_neg c_3] at hF
    refine g_iload_n X dX11_feast_15 2 rfl rfl ?_
    refine g_if_ne (tgt := 31) X dX11_feast_16 (by decide) (fun c_4 => ?_) (fun c_4 => ?_)
    · rw [if_neg c_4] at hF
      refine g_iload_n X dX11_feast_31 2 rfl rfl ?_
      refine g_iconst (v := 1) X dX11_feast_32 (by decide) ?_
      refine g_icmp_ne (tgt := 48) X dX11_feast_33 (by decide) (fun c_5 => ?_) (fun c_5 => ?_)
      · rw [if_neg c_5] at hF
        refine g_iload_n X dX11_feast_48 2 rfl rfl ?_
        refine g_iconst (v := 2) X dX11_feast_49 (by decide) ?_
        refine g_icmp_ne (tgt := 65) X dX11_feast_50 (by decide) (fun c_6 => ?_) (fun c_6 => ?_)
        · rw [if_neg c_6] at hF
          refine g_iload_n X dX11_feast_65 2 rfl rfl ?_
          refine g_iconst (v := 3) X dX11_feast_66 (by decide) ?_
          refine g_icmp_ne (tgt := 87) X dX11_feast_67 (by decide) (fun c_7 => ?_) (fun c_7 => ?_)
          · rw [if_neg c_7] at hF
            refine g_iconst (v := -1) X dX11_feast_87 (by decide) ?_
            have hF := Option.some.inj hF
            subst hF
            exact g_iret X dX11_feast_88 ho
          · rw [if_pos c_7] at hF
            refine g_aload_n X dX11_feast_70 0 rfl rfl ?_
            refine g_iload_n X dX11_feast_71 1 rfl rfl ?_
            refine g_iconst (v := 0) X dX11_feast_72 (by decide) ?_
            obtain ⟨r_8, q_9, hF⟩ := obind hF
            refine g_callVi (As := [.int x1, .int (0 : Int32)]) X dX11_feast_73 mlX11_282 (fun l D cyy => tX11_fallsIn (cx_inj X) l D cyy a0 x1 (0 : Int32) h0 S r_8 q_9) h0 (by decide) rfl rfl (Nat.le_of_ble_eq_true rfl) ?_
            refine g_if_eq (tgt := 83) X dX11_feast_76 (by decide) (fun c_10 => ?_) (fun c_10 => ?_)
            · rw [if_pos c_10] at hF
              refine g_iconst (v := 0) X dX11_feast_83 (by decide) ?_
              refine g_goto (tgt := 88) X dX11_feast_84 (by decide) ?_
              have hF := Option.some.inj hF
              subst hF
              exact g_iret X dX11_feast_88 ho
            · rw [if_neg c_10] at hF
              refine g_iconst (v := 1) X dX11_feast_79 (by decide) ?_
              refine g_goto (tgt := 88) X dX11_feast_80 (by decide) ?_
              have hF := Option.some.inj hF
              subst hF
              exact g_iret X dX11_feast_88 ho
        · rw [if_pos c_6] at hF
          refine g_aload_n X dX11_feast_53 0 rfl rfl ?_
          refine g_getR (f := 2) X dX11_feast_54 flX11_33 rfl rfl h0 ?_
          refine g_bipush (v := 46) X dX11_feast_57 (by decide) ?_
          refine g_iload_n X dX11_feast_59 1 rfl rfl ?_
          refine g_iadd X dX11_feast_60 ?_
          obtain ⟨e_11, hF⟩ := oguard hF
          refine g_iald X dX11_feast_61 kd_29 (on_11_6 h0) e_11 ?_
          refine g_goto (tgt := 88) X dX11_feast_62 (by decide) ?_
          have hF := Option.some.inj hF
          subst hF
          exact g_iret X dX11_feast_88 ho
      · rw [if_pos c_5] at hF
        refine g_aload_n X dX11_feast_36 0 rfl rfl ?_
        refine g_getR (f := 2) X dX11_feast_37 flX11_33 rfl rfl h0 ?_
        refine g_bipush (v := 40) X dX11_feast_40 (by decide) ?_
        refine g_iload_n X dX11_feast_42 1 rfl rfl ?_
        refine g_iadd X dX11_feast_43 ?_
        obtain ⟨e_12, hF⟩ := oguard hF
        refine g_iald X dX11_feast_44 kd_29 (on_11_6 h0) e_12 ?_
        refine g_goto (tgt := 88) X dX11_feast_45 (by decide) ?_
        have hF := Option.some.inj hF
        subst hF
        exact g_iret X dX11_feast_88 ho
    · rw [if_pos c_4] at hF
      refine g_aload_n X dX11_feast_19 0 rfl rfl ?_
      refine g_getR (f := 2) X dX11_feast_20 flX11_33 rfl rfl h0 ?_
      refine g_bipush (v := 34) X dX11_feast_23 (by decide) ?_
      refine g_iload_n X dX11_feast_25 1 rfl rfl ?_
      refine g_iadd X dX11_feast_26 ?_
      obtain ⟨e_13, hF⟩ := oguard hF
      refine g_iald X dX11_feast_27 kd_29 (on_11_6 h0) e_13 ?_
      refine g_goto (tgt := 88) X dX11_feast_28 (by decide) ?_
      have hF := Option.some.inj hF
      subst hF
      exact g_iret X dX11_feast_88 ho
  · rw [if_pos c_3] at hF
    refine g_iconst (v := -1) X dX11_feast_13 (by decide) ?_
    have hF := Option.some.inj hF
    subst hF
    exact g_iret X dX11_feast_14 ho
theorem wX11_feast {z : Mx} {ad : Nat → Nat} {o : Option Value × St} (X : CxOk z ad RX11 cX11_feast 3 (some .int) 7) (a0 : Nat) (x1 : Int32) (x2 : Int32) (h0 : KT a0 = 11) (S : St) (r : (Int32 × St)) (ho : o = (some (.int r.1), r.2)) (hF : fX11_feast a0 x1 x2 S = some r) : GW z ad o S 0 [(0, .ref (ad a0)), (1, .int x1), (2, .int x2)] [] := by
  unfold fX11_feast at hF
  refine g_aload_n X dX11_feast_0 0 rfl rfl ?_
  refine g_iconst (v := 0) X dX11_feast_1 (by decide) ?_
  refine g_putI X dX11_feast_2 fpX11_1 rfl rfl rfl h0 ?_
  exact (wX11_feast_s5 X a0 x1 x2 h0 (sI S 11 0 a0 (0 : Int32)) r ho hF)
theorem tX11_feast {ad : Nat → Nat} (hI : Inj ad) (l : Launch) (D : va_G) (cyy : Nat → ClassId) (a0 : Nat) (x1 : Int32) (x2 : Int32) (h0 : KT a0 = 11) (S : St) (r : (Int32 × St)) (hF : fX11_feast a0 x1 x2 S = some r) : OkM l yX11_feast cX11_feast 3 (some .int) 7 ad D cyy [.ref (ad a0), .int x1, .int x2] S (some (.int r.1), r.2) := okM_of hI (by decide) (inr_27 _ (List.mem_of_getElem? (i := 5) rfl)) (by show _ ≤ 3; exact Nat.le_of_ble_eq_true rfl) (fun z X => wX11_feast X a0 x1 x2 h0 S r rfl hF)
def fX11_now_s109 (k56 : Int32 → Int32 → Int32 → Int32 → St → Option (Int32 × St)) (a0 : Nat) (x1 : Int32) (y2 : Int32) (y3 : Int32) (y4 : Int32) (y5 : Int32)  (S : St) : Option (Int32 × St) :=
  k56 y2 y3 y4 (y5 + (1 : Int32)) S
def fX11_now_s87 (k56 : Int32 → Int32 → Int32 → Int32 → St → Option (Int32 × St)) (a0 : Nat) (x1 : Int32) (y2 : Int32) (y3 : Int32) (y4 : Int32) (y5 : Int32)  (S : St) : Option (Int32 × St) :=
  (fX11_isBetween a0 y5 S).bind fun r_18 =>
  if r_18 = 0 then (fX11_now_s109 k56 a0 x1 y2 y3 (y4 ||| (0 : Int32)) y5 S) else
  (fX11_now_s109 k56 a0 x1 y2 y3 (y4 ||| ((1 : Int32) <<< (y5 &&& 31))) y5 S)
def fX11_now_s56 (k56 : Int32 → Int32 → Int32 → Int32 → St → Option (Int32 × St)) (a0 : Nat) (x1 : Int32) (y2 : Int32) (y3 : Int32) (y4 : Int32) (y5 : Int32)  (S : St) : Option (Int32 × St) :=
  if (gA S 29 (a0 + 2) 0) ≤ y5 then (if x1 = 0 then (some ((gA S 29 (a0 + 2) 52), S)) else
  (if x1 = 1 then (some ((gA S 29 (a0 + 2) 53), S)) else
  (if x1 = 2 then (some (y2, S)) else
  (if x1 = 3 then (some (y3, S)) else
  (if x1 = 4 then (some (y4, S)) else
  (if x1 = 5 then ((fX11_sumOf a0 (59 : Int32) S).bind fun r_9 =>
  some (r_9, S)) else
  (if x1 = 6 then ((fX11_sumOf a0 (64 : Int32) S).bind fun r_12 =>
  some (r_12, S)) else
  (some ((-1 : Int32), S))))))))) else
  ((fX11_weekday a0 y5 S).bind fun r_15 =>
  if r_15 = 0 then (fX11_now_s87 k56 a0 x1 y2 (y3 ||| ((1 : Int32) <<< (y5 &&& 31))) y4 y5 S) else
  (fX11_now_s87 k56 a0 x1 y2 (y3 ||| (0 : Int32)) y4 y5 S))
def fX11_now_h56 (a0 : Nat) (x1 : Int32) : Nat → Int32 → Int32 → Int32 → Int32 → St → Option (Int32 × St)
  | 0, _, _, _, _, _ => none
  | n + 1, y2, y3, y4, y5, S => fX11_now_s56 (fX11_now_h56 a0 x1 n) a0 x1 y2 y3 y4 y5 S
def fX11_now_s47 (k15 : Int32 → Int32 → Int32 → Int32 → St → Option (Int32 × St)) (a0 : Nat) (x1 : Int32) (y2 : Int32) (y3 : Int32) (y4 : Int32) (y5 : Int32)  (S : St) : Option (Int32 × St) :=
  k15 y2 y3 y4 (y5 + (1 : Int32)) S
def fX11_now_s15 (k15 : Int32 → Int32 → Int32 → Int32 → St → Option (Int32 × St)) (a0 : Nat) (x1 : Int32) (y2 : Int32) (y3 : Int32) (y4 : Int32) (y5 : Int32)  (S : St) : Option (Int32 × St) :=
  if (gA S 29 (a0 + 2) 1) ≤ y5 then (fX11_now_h56 a0 x1 NN y2 y3 y4 (0 : Int32) S) else
  ((fX11_fallsIn a0 y5 (0 : Int32) S).bind fun r_21 =>
  if r_21 = 0 then (fX11_now_s47 k15 a0 x1 (y2 ||| (0 : Int32)) y3 y4 y5 S) else
  (fX11_now_s47 k15 a0 x1 (y2 ||| ((1 : Int32) <<< (y5 &&& 31))) y3 y4 y5 S))
def fX11_now_h15 (a0 : Nat) (x1 : Int32) : Nat → Int32 → Int32 → Int32 → Int32 → St → Option (Int32 × St)
  | 0, _, _, _, _, _ => none
  | n + 1, y2, y3, y4, y5, S => fX11_now_s15 (fX11_now_h15 a0 x1 n) a0 x1 y2 y3 y4 y5 S
def fX11_now_s5 (a0 : Nat) (x1 : Int32)   (S : St) : Option (Int32 × St) :=
  fX11_now_h15 a0 x1 NN (0 : Int32) (0 : Int32) (0 : Int32) (0 : Int32) S
def fX11_now (a0 : Nat) (x1 : Int32) (S : St) : Option (Int32 × St) :=
  fX11_now_s5 a0 x1 (sI S 11 0 a0 (0 : Int32))
theorem wX11_now_s109 {z : Mx} {ad : Nat → Nat} {o : Option Value × St} (X : CxOk z ad RX11 cX11_now 6 (some .int) 7) (a0 : Nat) (x1 : Int32) (h0 : KT a0 = 11) (y2 : Int32) (y3 : Int32) (y4 : Int32) (y5 : Int32)  (k56 : Int32 → Int32 → Int32 → Int32 → St → Option (Int32 × St))   (S : St) (r : (Int32 × St)) (ho : o = (some (.int r.1), r.2)) (hk56 : ∀ (y2 : Int32) (y3 : Int32) (y4 : Int32) (y5 : Int32) (S : St), k56 y2 y3 y4 y5 S = some r → GW z ad o S 56 [(0, .ref (ad a0)), (1, .int x1), (2, .int y2), (3, .int y3), (4, .int y4), (5, .int y5)] []) (hF : fX11_now_s109 k56 a0 x1 y2 y3 y4 y5  S = some r) : GW z ad o S 109 [(0, .ref (ad a0)), (1, .int x1), (2, .int y2), (3, .int y3), (4, .int y4), (5, .int y5)] [] := by
  unfold fX11_now_s109 at hF
  refine g_iinc (v := (y5 + (1 : Int32))) X dX11_now_109 5 rfl rfl (by decide) (lv' := [(5, .int (y5 + (1 : Int32))), (0, .ref (ad a0)), (1, .int x1), (2, .int y2), (3, .int y3), (4, .int y4)]) rfl ?_
  refine g_goto (tgt := 56) X dX11_now_112 (by decide) ?_
  exact g_perm [1, 2, 3, 4, 5, 0] rfl (hk56 y2 y3 y4 (y5 + (1 : Int32)) S hF)
theorem wX11_now_s87 {z : Mx} {ad : Nat → Nat} {o : Option Value × St} (X : CxOk z ad RX11 cX11_now 6 (some .int) 7) (a0 : Nat) (x1 : Int32) (h0 : KT a0 = 11) (y2 : Int32) (y3 : Int32) (y4 : Int32) (y5 : Int32)  (k56 : Int32 → Int32 → Int32 → Int32 → St → Option (Int32 × St))   (S : St) (r : (Int32 × St)) (ho : o = (some (.int r.1), r.2)) (hk56 : ∀ (y2 : Int32) (y3 : Int32) (y4 : Int32) (y5 : Int32) (S : St), k56 y2 y3 y4 y5 S = some r → GW z ad o S 56 [(0, .ref (ad a0)), (1, .int x1), (2, .int y2), (3, .int y3), (4, .int y4), (5, .int y5)] []) (hF : fX11_now_s87 k56 a0 x1 y2 y3 y4 y5  S = some r) : GW z ad o S 87 [(0, .ref (ad a0)), (1, .int x1), (2, .int y2), (3, .int y3), (4, .int y4), (5, .int y5)] [] := by
  unfold fX11_now_s87 at hF
  refine g_iload X dX11_now_87 4 rfl ?_
  refine g_aload_n X dX11_now_89 0 rfl rfl ?_
  refine g_iload X dX11_now_90 5 rfl ?_
  obtain ⟨r_18, q_19, hF⟩ := obind hF
  refine g_callVi (As := [.int y5]) X dX11_now_92 mlX11_288 (fun l D cyy => tX11_isBetween (cx_inj X) l D cyy a0 y5 h0 S r_18 q_19) h0 (by decide) rfl rfl (Nat.le_of_ble_eq_true rfl) ?_
  refine g_if_eq (tgt := 105) X dX11_now_95 (by decide) (fun c_20 => ?_) (fun c_20 => ?_)
  · rw [if_pos c_20] at hF
    refine g_iconst (v := 0) X dX11_now_105 (by decide) ?_
    refine g_ior X dX11_now_106 ?_
    refine g_istore X dX11_now_107 (by decide) (lv' := [(4, .int (y4 ||| (0 : Int32))), (0, .ref (ad a0)), (1, .int x1), (2, .int y2), (3, .int y3), (5, .int y5)]) rfl ?_
    exact g_perm [1, 2, 3, 4, 0, 5] rfl (wX11_now_s109 X a0 x1 h0 y2 y3 (y4 ||| (0 : Int32)) y5 k56 S r ho hk56 hF)
  · rw [if_neg c_20] at hF
    refine g_iconst (v := 1) X dX11_now_98 (by decide) ?_
    refine g_iload X dX11_now_99 5 rfl ?_
    refine g_ishl X dX11_now_101 ?_
    refine g_goto (tgt := 106) X dX11_now_102 (by decide) ?_
    refine g_ior X dX11_now_106 ?_
    refine g_istore X dX11_now_107 (by decide) (lv' := [(4, .int (y4 ||| ((1 : Int32) <<< (y5 &&& 31)))), (0, .ref (ad a0)), (1, .int x1), (2, .int y2), (3, .int y3), (5, .int y5)]) rfl ?_
    exact g_perm [1, 2, 3, 4, 0, 5] rfl (wX11_now_s109 X a0 x1 h0 y2 y3 (y4 ||| ((1 : Int32) <<< (y5 &&& 31))) y5 k56 S r ho hk56 hF)
theorem wX11_now_s56 {z : Mx} {ad : Nat → Nat} {o : Option Value × St} (X : CxOk z ad RX11 cX11_now 6 (some .int) 7) (a0 : Nat) (x1 : Int32) (h0 : KT a0 = 11) (y2 : Int32) (y3 : Int32) (y4 : Int32) (y5 : Int32)  (k56 : Int32 → Int32 → Int32 → Int32 → St → Option (Int32 × St))   (S : St) (r : (Int32 × St)) (ho : o = (some (.int r.1), r.2)) (hk56 : ∀ (y2 : Int32) (y3 : Int32) (y4 : Int32) (y5 : Int32) (S : St), k56 y2 y3 y4 y5 S = some r → GW z ad o S 56 [(0, .ref (ad a0)), (1, .int x1), (2, .int y2), (3, .int y3), (4, .int y4), (5, .int y5)] []) (hF : fX11_now_s56 k56 a0 x1 y2 y3 y4 y5  S = some r) : GW z ad o S 56 [(0, .ref (ad a0)), (1, .int x1), (2, .int y2), (3, .int y3), (4, .int y4), (5, .int y5)] [] := by
  unfold fX11_now_s56 at hF
  refine g_iload X dX11_now_56 5 rfl ?_
  refine g_aload_n X dX11_now_58 0 rfl rfl ?_
  refine g_getR (f := 2) X dX11_now_59 flX11_33 rfl rfl h0 ?_
  refine g_iconst (v := 0) X dX11_now_62 (by decide) ?_
  refine g_ialdK (j := 0) X dX11_now_63 kd_29 (on_11_6 h0) (by decide) (by decide) ?_
  refine g_icmp_ge (tgt := 115) X dX11_now_64 (by decide) (fun c_2 => ?_) (fun c_2 => ?_)
  · rw [if_pos c_2] at hF
    refine g_iload_n X dX11_now_115 1 rfl rfl ?_
    by_cases c_3 : x1 = 0
    · rw [if_pos c_3] at hF
      refine g_tabIn (tgt := 160) (off := 44) X dX11_now_116 (by rw [c_3]; decide) (by rw [c_3]; decide) (by rw [c_3]; decide) (by decide) ?_
      refine g_aload_n X dX11_now_160 0 rfl rfl ?_
      refine g_getR (f := 2) X dX11_now_161 flX11_33 rfl rfl h0 ?_
      refine g_bipush (v := 52) X dX11_now_164 (by decide) ?_
      refine g_ialdK (j := 52) X dX11_now_166 kd_29 (on_11_6 h0) (by decide) (by decide) ?_
      have hF := Option.some.inj hF
      subst hF
      exact g_iret X dX11_now_167 ho
    rw [if_neg c_3] at hF
    by_cases c_4 : x1 = 1
    · rw [if_pos c_4] at hF
      refine g_tabIn (tgt := 168) (off := 52) X dX11_now_116 (by rw [c_4]; decide) (by rw [c_4]; decide) (by rw [c_4]; decide) (by decide) ?_
      refine g_aload_n X dX11_now_168 0 rfl rfl ?_
      refine g_getR (f := 2) X dX11_now_169 flX11_33 rfl rfl h0 ?_
      refine g_bipush (v := 53) X dX11_now_172 (by decide) ?_
      refine g_ialdK (j := 53) X dX11_now_174 kd_29 (on_11_6 h0) (by decide) (by decide) ?_
      have hF := Option.some.inj hF
      subst hF
      exact g_iret X dX11_now_175 ho
    rw [if_neg c_4] at hF
    by_cases c_5 : x1 = 2
    · rw [if_pos c_5] at hF
      refine g_tabIn (tgt := 176) (off := 60) X dX11_now_116 (by rw [c_5]; decide) (by rw [c_5]; decide) (by rw [c_5]; decide) (by decide) ?_
      refine g_iload_n X dX11_now_176 2 rfl rfl ?_
      have hF := Option.some.inj hF
      subst hF
      exact g_iret X dX11_now_177 ho
    rw [if_neg c_5] at hF
    by_cases c_6 : x1 = 3
    · rw [if_pos c_6] at hF
      refine g_tabIn (tgt := 178) (off := 62) X dX11_now_116 (by rw [c_6]; decide) (by rw [c_6]; decide) (by rw [c_6]; decide) (by decide) ?_
      refine g_iload_n X dX11_now_178 3 rfl rfl ?_
      have hF := Option.some.inj hF
      subst hF
      exact g_iret X dX11_now_179 ho
    rw [if_neg c_6] at hF
    by_cases c_7 : x1 = 4
    · rw [if_pos c_7] at hF
      refine g_tabIn (tgt := 180) (off := 64) X dX11_now_116 (by rw [c_7]; decide) (by rw [c_7]; decide) (by rw [c_7]; decide) (by decide) ?_
      refine g_iload X dX11_now_180 4 rfl ?_
      have hF := Option.some.inj hF
      subst hF
      exact g_iret X dX11_now_182 ho
    rw [if_neg c_7] at hF
    by_cases c_8 : x1 = 5
    · rw [if_pos c_8] at hF
      refine g_tabIn (tgt := 183) (off := 67) X dX11_now_116 (by rw [c_8]; decide) (by rw [c_8]; decide) (by rw [c_8]; decide) (by decide) ?_
      refine g_aload_n X dX11_now_183 0 rfl rfl ?_
      refine g_bipush (v := 59) X dX11_now_184 (by decide) ?_
      obtain ⟨r_9, q_10, hF⟩ := obind hF
      refine g_callVi (As := [.int (59 : Int32)]) X dX11_now_186 mlX11_291 (fun l D cyy => tX11_sumOf (cx_inj X) l D cyy a0 (59 : Int32) h0 S r_9 q_10) h0 (by decide) rfl rfl (Nat.le_of_ble_eq_true rfl) ?_
      have hF := Option.some.inj hF
      subst hF
      exact g_iret X dX11_now_189 ho
    rw [if_neg c_8] at hF
    by_cases c_11 : x1 = 6
    · rw [if_pos c_11] at hF
      refine g_tabIn (tgt := 190) (off := 74) X dX11_now_116 (by rw [c_11]; decide) (by rw [c_11]; decide) (by rw [c_11]; decide) (by decide) ?_
      refine g_aload_n X dX11_now_190 0 rfl rfl ?_
      refine g_bipush (v := 64) X dX11_now_191 (by decide) ?_
      obtain ⟨r_12, q_13, hF⟩ := obind hF
      refine g_callVi (As := [.int (64 : Int32)]) X dX11_now_193 mlX11_291 (fun l D cyy => tX11_sumOf (cx_inj X) l D cyy a0 (64 : Int32) h0 S r_12 q_13) h0 (by decide) rfl rfl (Nat.le_of_ble_eq_true rfl) ?_
      have hF := Option.some.inj hF
      subst hF
      exact g_iret X dX11_now_196 ho
    rw [if_neg c_11] at hF
    have c_14 : (x1).toInt < 0 ∨ 6 < (x1).toInt := by
      have := ti_ne (n := 0) c_3 (by decide)
      have := ti_ne (n := 1) c_4 (by decide)
      have := ti_ne (n := 2) c_5 (by decide)
      have := ti_ne (n := 3) c_6 (by decide)
      have := ti_ne (n := 4) c_7 (by decide)
      have := ti_ne (n := 5) c_8 (by decide)
      have := ti_ne (n := 6) c_11 (by decide)
      omega
    refine g_tabOut (tgt := 197) X dX11_now_116 c_14 (by decide) ?_
    refine g_iconst (v := -1) X dX11_now_197 (by decide) ?_
    have hF := Option.some.inj hF
    subst hF
    exact g_iret X dX11_now_198 ho
  · rw [if_neg c_2] at hF
    refine g_iload_n X dX11_now_67 3 rfl rfl ?_
    refine g_aload_n X dX11_now_68 0 rfl rfl ?_
    refine g_iload X dX11_now_69 5 rfl ?_
    obtain ⟨r_15, q_16, hF⟩ := obind hF
    refine g_callVi (As := [.int y5]) X dX11_now_71 mlX11_285 (fun l D cyy => tX11_weekday (cx_inj X) l D cyy a0 y5 h0 S r_15 q_16) h0 (by decide) rfl rfl (Nat.le_of_ble_eq_true rfl) ?_
    refine g_if_ne (tgt := 84) X dX11_now_74 (by decide) (fun c_17 => ?_) (fun c_17 => ?_)
    · rw [if_neg c_17] at hF
      refine g_iconst (v := 0) X dX11_now_84 (by decide) ?_
      refine g_ior X dX11_now_85 ?_
      refine g_istore_n X dX11_now_86 rfl (by decide) (lv' := [(3, .int (y3 ||| (0 : Int32))), (0, .ref (ad a0)), (1, .int x1), (2, .int y2), (4, .int y4), (5, .int y5)]) rfl ?_
      exact g_perm [1, 2, 3, 0, 4, 5] rfl (wX11_now_s87 X a0 x1 h0 y2 (y3 ||| (0 : Int32)) y4 y5 k56 S r ho hk56 hF)
    · rw [if_pos c_17] at hF
      refine g_iconst (v := 1) X dX11_now_77 (by decide) ?_
      refine g_iload X dX11_now_78 5 rfl ?_
      refine g_ishl X dX11_now_80 ?_
      refine g_goto (tgt := 85) X dX11_now_81 (by decide) ?_
      refine g_ior X dX11_now_85 ?_
      refine g_istore_n X dX11_now_86 rfl (by decide) (lv' := [(3, .int (y3 ||| ((1 : Int32) <<< (y5 &&& 31)))), (0, .ref (ad a0)), (1, .int x1), (2, .int y2), (4, .int y4), (5, .int y5)]) rfl ?_
      exact g_perm [1, 2, 3, 0, 4, 5] rfl (wX11_now_s87 X a0 x1 h0 y2 (y3 ||| ((1 : Int32) <<< (y5 &&& 31))) y4 y5 k56 S r ho hk56 hF)
theorem wX11_now_h56 {z : Mx} {ad : Nat → Nat} {o : Option Value × St} (X : CxOk z ad RX11 cX11_now 6 (some .int) 7) (a0 : Nat) (x1 : Int32) (h0 : KT a0 = 11)  (r : (Int32 × St)) (ho : o = (some (.int r.1), r.2)) : ∀ (n : Nat) (y2 : Int32) (y3 : Int32) (y4 : Int32) (y5 : Int32) (S : St), fX11_now_h56 a0 x1 n y2 y3 y4 y5 S = some r → GW z ad o S 56 [(0, .ref (ad a0)), (1, .int x1), (2, .int y2), (3, .int y3), (4, .int y4), (5, .int y5)] [] := by
  intro n
  induction n with
  | zero => intro y2 y3 y4 y5 S  hF; cases hF
  | succ n ih => intro y2 y3 y4 y5 S  hF; exact wX11_now_s56 X a0 x1 h0 y2 y3 y4 y5 (fX11_now_h56 a0 x1 n)  S r ho ih hF
theorem wX11_now_s47 {z : Mx} {ad : Nat → Nat} {o : Option Value × St} (X : CxOk z ad RX11 cX11_now 6 (some .int) 7) (a0 : Nat) (x1 : Int32) (h0 : KT a0 = 11) (y2 : Int32) (y3 : Int32) (y4 : Int32) (y5 : Int32)  (k15 : Int32 → Int32 → Int32 → Int32 → St → Option (Int32 × St))   (S : St) (r : (Int32 × St)) (ho : o = (some (.int r.1), r.2)) (hk15 : ∀ (y2 : Int32) (y3 : Int32) (y4 : Int32) (y5 : Int32) (S : St), k15 y2 y3 y4 y5 S = some r → GW z ad o S 15 [(0, .ref (ad a0)), (1, .int x1), (2, .int y2), (3, .int y3), (4, .int y4), (5, .int y5)] []) (hF : fX11_now_s47 k15 a0 x1 y2 y3 y4 y5  S = some r) : GW z ad o S 47 [(0, .ref (ad a0)), (1, .int x1), (2, .int y2), (3, .int y3), (4, .int y4), (5, .int y5)] [] := by
  unfold fX11_now_s47 at hF
  refine g_iinc (v := (y5 + (1 : Int32))) X dX11_now_47 5 rfl rfl (by decide) (lv' := [(5, .int (y5 + (1 : Int32))), (0, .ref (ad a0)), (1, .int x1), (2, .int y2), (3, .int y3), (4, .int y4)]) rfl ?_
  refine g_goto (tgt := 15) X dX11_now_50 (by decide) ?_
  exact g_perm [1, 2, 3, 4, 5, 0] rfl (hk15 y2 y3 y4 (y5 + (1 : Int32)) S hF)
theorem wX11_now_s15 {z : Mx} {ad : Nat → Nat} {o : Option Value × St} (X : CxOk z ad RX11 cX11_now 6 (some .int) 7) (a0 : Nat) (x1 : Int32) (h0 : KT a0 = 11) (y2 : Int32) (y3 : Int32) (y4 : Int32) (y5 : Int32)  (k15 : Int32 → Int32 → Int32 → Int32 → St → Option (Int32 × St))   (S : St) (r : (Int32 × St)) (ho : o = (some (.int r.1), r.2)) (hk15 : ∀ (y2 : Int32) (y3 : Int32) (y4 : Int32) (y5 : Int32) (S : St), k15 y2 y3 y4 y5 S = some r → GW z ad o S 15 [(0, .ref (ad a0)), (1, .int x1), (2, .int y2), (3, .int y3), (4, .int y4), (5, .int y5)] []) (hF : fX11_now_s15 k15 a0 x1 y2 y3 y4 y5  S = some r) : GW z ad o S 15 [(0, .ref (ad a0)), (1, .int x1), (2, .int y2), (3, .int y3), (4, .int y4), (5, .int y5)] [] := by
  unfold fX11_now_s15 at hF
  refine g_iload X dX11_now_15 5 rfl ?_
  refine g_aload_n X dX11_now_17 0 rfl rfl ?_
  refine g_getR (f := 2) X dX11_now_18 flX11_33 rfl rfl h0 ?_
  refine g_iconst (v := 1) X dX11_now_21 (by decide) ?_
  refine g_ialdK (j := 1) X dX11_now_22 kd_29 (on_11_6 h0) (by decide) (by decide) ?_
  refine g_icmp_ge (tgt := 53) X dX11_now_23 (by decide) (fun c_1 => ?_) (fun c_1 => ?_)
  · rw [if_pos c_1] at hF
    refine g_iconst (v := 0) X dX11_now_53 (by decide) ?_
    refine g_istore X dX11_now_54 (by decide) (lv' := [(5, .int (0 : Int32)), (0, .ref (ad a0)), (1, .int x1), (2, .int y2), (3, .int y3), (4, .int y4)]) rfl ?_
    exact g_perm [1, 2, 3, 4, 5, 0] rfl (wX11_now_h56 X a0 x1 h0 r ho NN y2 y3 y4 (0 : Int32) S hF)
  · rw [if_neg c_1] at hF
    refine g_iload_n X dX11_now_26 2 rfl rfl ?_
    refine g_aload_n X dX11_now_27 0 rfl rfl ?_
    refine g_iload X dX11_now_28 5 rfl ?_
    refine g_iconst (v := 0) X dX11_now_30 (by decide) ?_
    obtain ⟨r_21, q_22, hF⟩ := obind hF
    refine g_callVi (As := [.int y5, .int (0 : Int32)]) X dX11_now_31 mlX11_282 (fun l D cyy => tX11_fallsIn (cx_inj X) l D cyy a0 y5 (0 : Int32) h0 S r_21 q_22) h0 (by decide) rfl rfl (Nat.le_of_ble_eq_true rfl) ?_
    refine g_if_eq (tgt := 44) X dX11_now_34 (by decide) (fun c_23 => ?_) (fun c_23 => ?_)
    · rw [if_pos c_23] at hF
      refine g_iconst (v := 0) X dX11_now_44 (by decide) ?_
      refine g_ior X dX11_now_45 ?_
      refine g_istore_n X dX11_now_46 rfl (by decide) (lv' := [(2, .int (y2 ||| (0 : Int32))), (0, .ref (ad a0)), (1, .int x1), (3, .int y3), (4, .int y4), (5, .int y5)]) rfl ?_
      exact g_perm [1, 2, 0, 3, 4, 5] rfl (wX11_now_s47 X a0 x1 h0 (y2 ||| (0 : Int32)) y3 y4 y5 k15 S r ho hk15 hF)
    · rw [if_neg c_23] at hF
      refine g_iconst (v := 1) X dX11_now_37 (by decide) ?_
      refine g_iload X dX11_now_38 5 rfl ?_
      refine g_ishl X dX11_now_40 ?_
      refine g_goto (tgt := 45) X dX11_now_41 (by decide) ?_
      refine g_ior X dX11_now_45 ?_
      refine g_istore_n X dX11_now_46 rfl (by decide) (lv' := [(2, .int (y2 ||| ((1 : Int32) <<< (y5 &&& 31)))), (0, .ref (ad a0)), (1, .int x1), (3, .int y3), (4, .int y4), (5, .int y5)]) rfl ?_
      exact g_perm [1, 2, 0, 3, 4, 5] rfl (wX11_now_s47 X a0 x1 h0 (y2 ||| ((1 : Int32) <<< (y5 &&& 31))) y3 y4 y5 k15 S r ho hk15 hF)
theorem wX11_now_h15 {z : Mx} {ad : Nat → Nat} {o : Option Value × St} (X : CxOk z ad RX11 cX11_now 6 (some .int) 7) (a0 : Nat) (x1 : Int32) (h0 : KT a0 = 11)  (r : (Int32 × St)) (ho : o = (some (.int r.1), r.2)) : ∀ (n : Nat) (y2 : Int32) (y3 : Int32) (y4 : Int32) (y5 : Int32) (S : St), fX11_now_h15 a0 x1 n y2 y3 y4 y5 S = some r → GW z ad o S 15 [(0, .ref (ad a0)), (1, .int x1), (2, .int y2), (3, .int y3), (4, .int y4), (5, .int y5)] [] := by
  intro n
  induction n with
  | zero => intro y2 y3 y4 y5 S  hF; cases hF
  | succ n ih => intro y2 y3 y4 y5 S  hF; exact wX11_now_s15 X a0 x1 h0 y2 y3 y4 y5 (fX11_now_h15 a0 x1 n)  S r ho ih hF
theorem wX11_now_s5 {z : Mx} {ad : Nat → Nat} {o : Option Value × St} (X : CxOk z ad RX11 cX11_now 6 (some .int) 7) (a0 : Nat) (x1 : Int32) (h0 : KT a0 = 11)     (S : St) (r : (Int32 × St)) (ho : o = (some (.int r.1), r.2)) (hF : fX11_now_s5 a0 x1   S = some r) : GW z ad o S 5 [(0, .ref (ad a0)), (1, .int x1)] [] := by
  unfold fX11_now_s5 at hF
  refine g_iconst (v := 0) X dX11_now_5 (by decide) ?_
  refine g_istore_n X dX11_now_6 rfl (by decide) (lv' := [(2, .int (0 : Int32)), (0, .ref (ad a0)), (1, .int x1)]) rfl ?_
  refine g_iconst (v := 0) X dX11_now_7 (by decide) ?_
  refine g_istore_n X dX11_now_8 rfl (by decide) (lv' := [(3, .int (0 : Int32)), (2, .int (0 : Int32)), (0, .ref (ad a0)), (1, .int x1)]) rfl ?_
  refine g_iconst (v := 0) X dX11_now_9 (by decide) ?_
  refine g_istore X dX11_now_10 (by decide) (lv' := [(4, .int (0 : Int32)), (3, .int (0 : Int32)), (2, .int (0 : Int32)), (0, .ref (ad a0)), (1, .int x1)]) rfl ?_
  refine g_iconst (v := 0) X dX11_now_12 (by decide) ?_
  refine g_istore X dX11_now_13 (by decide) (lv' := [(5, .int (0 : Int32)), (4, .int (0 : Int32)), (3, .int (0 : Int32)), (2, .int (0 : Int32)), (0, .ref (ad a0)), (1, .int x1)]) rfl ?_
  exact g_perm [4, 5, 3, 2, 1, 0] rfl (wX11_now_h15 X a0 x1 h0 r ho NN (0 : Int32) (0 : Int32) (0 : Int32) (0 : Int32) S hF)
theorem wX11_now {z : Mx} {ad : Nat → Nat} {o : Option Value × St} (X : CxOk z ad RX11 cX11_now 6 (some .int) 7) (a0 : Nat) (x1 : Int32) (h0 : KT a0 = 11) (S : St) (r : (Int32 × St)) (ho : o = (some (.int r.1), r.2)) (hF : fX11_now a0 x1 S = some r) : GW z ad o S 0 [(0, .ref (ad a0)), (1, .int x1)] [] := by
  unfold fX11_now at hF
  refine g_aload_n X dX11_now_0 0 rfl rfl ?_
  refine g_iconst (v := 0) X dX11_now_1 (by decide) ?_
  refine g_putI X dX11_now_2 fpX11_1 rfl rfl rfl h0 ?_
  exact (wX11_now_s5 X a0 x1 h0 (sI S 11 0 a0 (0 : Int32)) r ho hF)
theorem tX11_now {ad : Nat → Nat} (hI : Inj ad) (l : Launch) (D : va_G) (cyy : Nat → ClassId) (a0 : Nat) (x1 : Int32) (h0 : KT a0 = 11) (S : St) (r : (Int32 × St)) (hF : fX11_now a0 x1 S = some r) : OkM l yX11_now cX11_now 6 (some .int) 7 ad D cyy [.ref (ad a0), .int x1] S (some (.int r.1), r.2) := okM_of hI (by decide) (inr_29 _ (List.mem_of_getElem? (i := 18) rfl)) (by show _ ≤ 6; exact Nat.le_of_ble_eq_true rfl) (fun z X => wX11_now X a0 x1 h0 S r rfl hF)
def fX11_whyHold (a0 : Nat) (x1 : Int32) (S : St) : Option Int32 :=
  (fX11_isHeld a0 x1 S).bind fun r_1 =>
  if r_1 = 0 then (some (0 : Int32)) else
  (some (1 : Int32))
theorem wX11_whyHold {z : Mx} {ad : Nat → Nat} {o : Option Value × St} (X : CxOk z ad RX11 cX11_whyHold 2 (some .int) 3) (a0 : Nat) (x1 : Int32) (h0 : KT a0 = 11) (S : St) (r : Int32) (ho : o = (some (.int r), S)) (hF : fX11_whyHold a0 x1 S = some r) : GW z ad o S 0 [(0, .ref (ad a0)), (1, .int x1)] [] := by
  unfold fX11_whyHold at hF
  refine g_aload_n X dX11_whyHold_0 0 rfl rfl ?_
  refine g_iload_n X dX11_whyHold_1 1 rfl rfl ?_
  obtain ⟨r_1, q_2, hF⟩ := obind hF
  refine g_callVi (As := [.int x1]) X dX11_whyHold_2 mlX11_255 (fun l D cyy => tX11_isHeld (cx_inj X) l D cyy a0 x1 h0 S r_1 q_2) h0 (by decide) rfl rfl (Nat.le_of_ble_eq_true rfl) ?_
  refine g_if_eq (tgt := 12) X dX11_whyHold_5 (by decide) (fun c_3 => ?_) (fun c_3 => ?_)
  · rw [if_pos c_3] at hF
    refine g_iconst (v := 0) X dX11_whyHold_12 (by decide) ?_
    have hF := Option.some.inj hF
    subst hF
    exact g_iret X dX11_whyHold_13 ho
  · rw [if_neg c_3] at hF
    refine g_iconst (v := 1) X dX11_whyHold_8 (by decide) ?_
    refine g_goto (tgt := 13) X dX11_whyHold_9 (by decide) ?_
    have hF := Option.some.inj hF
    subst hF
    exact g_iret X dX11_whyHold_13 ho
theorem tX11_whyHold {ad : Nat → Nat} (hI : Inj ad) (l : Launch) (D : va_G) (cyy : Nat → ClassId) (a0 : Nat) (x1 : Int32) (h0 : KT a0 = 11) (S : St) (r : Int32) (hF : fX11_whyHold a0 x1 S = some r) : OkM l yX11_whyHold cX11_whyHold 2 (some .int) 3 ad D cyy [.ref (ad a0), .int x1] S (some (.int r), S) := okM_of hI (by decide) (inr_31 _ (List.mem_of_getElem? (i := 10) rfl)) (by show _ ≤ 2; exact Nat.le_of_ble_eq_true rfl) (fun z X => wX11_whyHold X a0 x1 h0 S r rfl hF)
def fX11_holds_s13 (a0 : Nat) (x1 : Int32)   (S : St) : Option St :=
  if (((59 : Int32) + x1) < 0 ∨ 250 ≤ ((59 : Int32) + x1).toNatClampNeg) then none else
  if (((59 : Int32) + x1) < 0 ∨ 250 ≤ ((59 : Int32) + x1).toNatClampNeg) then none else
  some (sA S 29 (a0 + 2) (((59 : Int32) + x1).toNatClampNeg) ((gA S 29 (a0 + 2) (((59 : Int32) + x1).toNatClampNeg)) + (1 : Int32)))
def fX11_holds (a0 : Nat) (x1 : Int32) (S : St) : Option St :=
  fX11_holds_s13 a0 x1 (sA S 29 (a0 + 2) 53 ((gA S 29 (a0 + 2) 53) ||| ((1 : Int32) <<< (x1 &&& 31))))
theorem wX11_holds_s13 {z : Mx} {ad : Nat → Nat} {o : Option Value × St} (X : CxOk z ad RX11 cX11_holds 2 none 1) (a0 : Nat) (x1 : Int32) (h0 : KT a0 = 11)     (S : St) (r : St) (ho : o = (none, r)) (hF : fX11_holds_s13 a0 x1   S = some r) : GW z ad o S 13 [(0, .ref (ad a0)), (1, .int x1)] [] := by
  unfold fX11_holds_s13 at hF
  refine g_aload_n X dX11_holds_13 0 rfl rfl ?_
  refine g_getR (f := 2) X dX11_holds_14 flX11_33 rfl rfl h0 ?_
  refine g_bipush (v := 59) X dX11_holds_17 (by decide) ?_
  refine g_iload_n X dX11_holds_19 1 rfl rfl ?_
  refine g_iadd X dX11_holds_20 ?_
  refine g_dup2 (a := .int ((59 : Int32) + x1)) (b := .ref (ad (a0 + 2))) X dX11_holds_21 rfl rfl ?_
  obtain ⟨e_1, hF⟩ := oguard hF
  refine g_iald X dX11_holds_22 kd_29 (on_11_6 h0) e_1 ?_
  refine g_iconst (v := 1) X dX11_holds_23 (by decide) ?_
  refine g_iadd X dX11_holds_24 ?_
  obtain ⟨e_2, hF⟩ := oguard hF
  refine g_iast X dX11_holds_25 kd_29 (on_11_6 h0) e_2 ?_
  have hF := Option.some.inj hF
  subst hF
  exact g_vret X dX11_holds_26 ho
theorem wX11_holds {z : Mx} {ad : Nat → Nat} {o : Option Value × St} (X : CxOk z ad RX11 cX11_holds 2 none 1) (a0 : Nat) (x1 : Int32) (h0 : KT a0 = 11) (S : St) (r : St) (ho : o = (none, r)) (hF : fX11_holds a0 x1 S = some r) : GW z ad o S 0 [(0, .ref (ad a0)), (1, .int x1)] [] := by
  unfold fX11_holds at hF
  refine g_aload_n X dX11_holds_0 0 rfl rfl ?_
  refine g_getR (f := 2) X dX11_holds_1 flX11_33 rfl rfl h0 ?_
  refine g_bipush (v := 53) X dX11_holds_4 (by decide) ?_
  refine g_dup2 (a := .int (53 : Int32)) (b := .ref (ad (a0 + 2))) X dX11_holds_6 rfl rfl ?_
  refine g_ialdK (j := 53) X dX11_holds_7 kd_29 (on_11_6 h0) (by decide) (by decide) ?_
  refine g_iconst (v := 1) X dX11_holds_8 (by decide) ?_
  refine g_iload_n X dX11_holds_9 1 rfl rfl ?_
  refine g_ishl X dX11_holds_10 ?_
  refine g_ior X dX11_holds_11 ?_
  refine g_iastK (j := 53) X dX11_holds_12 kd_29 (on_11_6 h0) (by decide) (by decide) ?_
  exact (wX11_holds_s13 X a0 x1 h0 (sA S 29 (a0 + 2) 53 ((gA S 29 (a0 + 2) 53) ||| ((1 : Int32) <<< (x1 &&& 31)))) r ho hF)
theorem tX11_holds {ad : Nat → Nat} (hI : Inj ad) (l : Launch) (D : va_G) (cyy : Nat → ClassId) (a0 : Nat) (x1 : Int32) (h0 : KT a0 = 11) (S : St) (r : St) (hF : fX11_holds a0 x1 S = some r) : OkM l yX11_holds cX11_holds 2 none 1 ad D cyy [.ref (ad a0), .int x1] S (none, r) := okM_of hI (by decide) (inr_31 _ (List.mem_of_getElem? (i := 18) rfl)) (by show _ ≤ 2; exact Nat.le_of_ble_eq_true rfl) (fun z X => wX11_holds X a0 x1 h0 S r rfl hF)
def fX11_whySkip (a0 : Nat) (x1 : Int32) (x2 : Int32) (S : St) : Option Int32 :=
  if (((54 : Int32) + x1) < 0 ∨ 250 ≤ ((54 : Int32) + x1).toNatClampNeg) then none else
  if ((gA S 29 (a0 + 2) (((54 : Int32) + x1).toNatClampNeg)) + x2) ≤ (9999 : Int32) then (some (0 : Int32)) else
  (some (1 : Int32))
theorem wX11_whySkip {z : Mx} {ad : Nat → Nat} {o : Option Value × St} (X : CxOk z ad RX11 cX11_whySkip 3 (some .int) 1) (a0 : Nat) (x1 : Int32) (x2 : Int32) (h0 : KT a0 = 11) (S : St) (r : Int32) (ho : o = (some (.int r), S)) (hF : fX11_whySkip a0 x1 x2 S = some r) : GW z ad o S 0 [(0, .ref (ad a0)), (1, .int x1), (2, .int x2)] [] := by
  unfold fX11_whySkip at hF
  refine g_aload_n X dX11_whySkip_0 0 rfl rfl ?_
  refine g_getR (f := 2) X dX11_whySkip_1 flX11_33 rfl rfl h0 ?_
  refine g_bipush (v := 54) X dX11_whySkip_4 (by decide) ?_
  refine g_iload_n X dX11_whySkip_6 1 rfl rfl ?_
  refine g_iadd X dX11_whySkip_7 ?_
  obtain ⟨e_1, hF⟩ := oguard hF
  refine g_iald X dX11_whySkip_8 kd_29 (on_11_6 h0) e_1 ?_
  refine g_iload_n X dX11_whySkip_9 2 rfl rfl ?_
  refine g_iadd X dX11_whySkip_10 ?_
  refine g_sipush (v := 9999) X dX11_whySkip_11 (by decide) ?_
  refine g_icmp_le (tgt := 21) X dX11_whySkip_14 (by decide) (fun c_2 => ?_) (fun c_2 => ?_)
  · rw [if_pos c_2] at hF
    refine g_iconst (v := 0) X dX11_whySkip_21 (by decide) ?_
    have hF := Option.some.inj hF
    subst hF
    exact g_iret X dX11_whySkip_22 ho
  · rw [if_neg c_2] at hF
    refine g_iconst (v := 1) X dX11_whySkip_17 (by decide) ?_
    refine g_goto (tgt := 22) X dX11_whySkip_18 (by decide) ?_
    have hF := Option.some.inj hF
    subst hF
    exact g_iret X dX11_whySkip_22 ho
theorem tX11_whySkip {ad : Nat → Nat} (hI : Inj ad) (l : Launch) (D : va_G) (cyy : Nat → ClassId) (a0 : Nat) (x1 : Int32) (x2 : Int32) (h0 : KT a0 = 11) (S : St) (r : Int32) (hF : fX11_whySkip a0 x1 x2 S = some r) : OkM l yX11_whySkip cX11_whySkip 3 (some .int) 1 ad D cyy [.ref (ad a0), .int x1, .int x2] S (some (.int r), S) := okM_of hI (by decide) (inr_32 _ (List.mem_of_getElem? (i := 10) rfl)) (by show _ ≤ 3; exact Nat.le_of_ble_eq_true rfl) (fun z X => wX11_whySkip X a0 x1 x2 h0 S r rfl hF)
def fX11_skips_s13 (a0 : Nat) (x1 : Int32) (x2 : Int32)   (S : St) : Option St :=
  if (((64 : Int32) + x1) < 0 ∨ 250 ≤ ((64 : Int32) + x1).toNatClampNeg) then none else
  if (((64 : Int32) + x1) < 0 ∨ 250 ≤ ((64 : Int32) + x1).toNatClampNeg) then none else
  some (sA S 29 (a0 + 2) (((64 : Int32) + x1).toNatClampNeg) ((gA S 29 (a0 + 2) (((64 : Int32) + x1).toNatClampNeg)) + x2))
def fX11_skips (a0 : Nat) (x1 : Int32) (x2 : Int32) (S : St) : Option St :=
  if (((54 : Int32) + x1) < 0 ∨ 250 ≤ ((54 : Int32) + x1).toNatClampNeg) then none else
  if (((54 : Int32) + x1) < 0 ∨ 250 ≤ ((54 : Int32) + x1).toNatClampNeg) then none else
  fX11_skips_s13 a0 x1 x2 (sA S 29 (a0 + 2) (((54 : Int32) + x1).toNatClampNeg) ((gA S 29 (a0 + 2) (((54 : Int32) + x1).toNatClampNeg)) + x2))
theorem wX11_skips_s13 {z : Mx} {ad : Nat → Nat} {o : Option Value × St} (X : CxOk z ad RX11 cX11_skips 3 none 1) (a0 : Nat) (x1 : Int32) (x2 : Int32) (h0 : KT a0 = 11)     (S : St) (r : St) (ho : o = (none, r)) (hF : fX11_skips_s13 a0 x1 x2   S = some r) : GW z ad o S 13 [(0, .ref (ad a0)), (1, .int x1), (2, .int x2)] [] := by
  unfold fX11_skips_s13 at hF
  refine g_aload_n X dX11_skips_13 0 rfl rfl ?_
  refine g_getR (f := 2) X dX11_skips_14 flX11_33 rfl rfl h0 ?_
  refine g_bipush (v := 64) X dX11_skips_17 (by decide) ?_
  refine g_iload_n X dX11_skips_19 1 rfl rfl ?_
  refine g_iadd X dX11_skips_20 ?_
  refine g_dup2 (a := .int ((64 : Int32) + x1)) (b := .ref (ad (a0 + 2))) X dX11_skips_21 rfl rfl ?_
  obtain ⟨e_3, hF⟩ := oguard hF
  refine g_iald X dX11_skips_22 kd_29 (on_11_6 h0) e_3 ?_
  refine g_iload_n X dX11_skips_23 2 rfl rfl ?_
  refine g_iadd X dX11_skips_24 ?_
  obtain ⟨e_4, hF⟩ := oguard hF
  refine g_iast X dX11_skips_25 kd_29 (on_11_6 h0) e_4 ?_
  have hF := Option.some.inj hF
  subst hF
  exact g_vret X dX11_skips_26 ho
theorem wX11_skips {z : Mx} {ad : Nat → Nat} {o : Option Value × St} (X : CxOk z ad RX11 cX11_skips 3 none 1) (a0 : Nat) (x1 : Int32) (x2 : Int32) (h0 : KT a0 = 11) (S : St) (r : St) (ho : o = (none, r)) (hF : fX11_skips a0 x1 x2 S = some r) : GW z ad o S 0 [(0, .ref (ad a0)), (1, .int x1), (2, .int x2)] [] := by
  unfold fX11_skips at hF
  refine g_aload_n X dX11_skips_0 0 rfl rfl ?_
  refine g_getR (f := 2) X dX11_skips_1 flX11_33 rfl rfl h0 ?_
  refine g_bipush (v := 54) X dX11_skips_4 (by decide) ?_
  refine g_iload_n X dX11_skips_6 1 rfl rfl ?_
  refine g_iadd X dX11_skips_7 ?_
  refine g_dup2 (a := .int ((54 : Int32) + x1)) (b := .ref (ad (a0 + 2))) X dX11_skips_8 rfl rfl ?_
  obtain ⟨e_1, hF⟩ := oguard hF
  refine g_iald X dX11_skips_9 kd_29 (on_11_6 h0) e_1 ?_
  refine g_iload_n X dX11_skips_10 2 rfl rfl ?_
  refine g_iadd X dX11_skips_11 ?_
  obtain ⟨e_2, hF⟩ := oguard hF
  refine g_iast X dX11_skips_12 kd_29 (on_11_6 h0) e_2 ?_
  exact (wX11_skips_s13 X a0 x1 x2 h0 (sA S 29 (a0 + 2) (((54 : Int32) + x1).toNatClampNeg) ((gA S 29 (a0 + 2) (((54 : Int32) + x1).toNatClampNeg)) + x2)) r ho hF)
theorem tX11_skips {ad : Nat → Nat} (hI : Inj ad) (l : Launch) (D : va_G) (cyy : Nat → ClassId) (a0 : Nat) (x1 : Int32) (x2 : Int32) (h0 : KT a0 = 11) (S : St) (r : St) (hF : fX11_skips a0 x1 x2 S = some r) : OkM l yX11_skips cX11_skips 3 none 1 ad D cyy [.ref (ad a0), .int x1, .int x2] S (none, r) := okM_of hI (by decide) (inr_32 _ (List.mem_of_getElem? (i := 14) rfl)) (by show _ ≤ 3; exact Nat.le_of_ble_eq_true rfl) (fun z X => wX11_skips X a0 x1 x2 h0 S r rfl hF)
def fX11_day_s47 (a0 : Nat)   (S : St) : Option St :=
  some (sA S 29 (a0 + 2) 52 ((gA S 29 (a0 + 2) 52) + (1 : Int32)))
def fX11_day_s33 (k2 : Int32 → St → Option St) (a0 : Nat) (y1 : Int32)  (S : St) : Option St :=
  k2 (y1 + (1 : Int32)) S
def fX11_day_s2 (k2 : Int32 → St → Option St) (a0 : Nat) (y1 : Int32)  (S : St) : Option St :=
  if (gA S 29 (a0 + 2) 0) ≤ y1 then (fX11_day_s47 a0 (sA S 29 (a0 + 2) 53 (0 : Int32))) else
  ((fX11_isHeld a0 y1 S).bind fun r_2 =>
  if r_2 = 0 then (if (((54 : Int32) + y1) < 0 ∨ 250 ≤ ((54 : Int32) + y1).toNatClampNeg) then none else
  if (((54 : Int32) + y1) < 0 ∨ 250 ≤ ((54 : Int32) + y1).toNatClampNeg) then none else
  fX11_day_s33 k2 a0 y1 (sA S 29 (a0 + 2) (((54 : Int32) + y1).toNatClampNeg) ((gA S 29 (a0 + 2) (((54 : Int32) + y1).toNatClampNeg)) + (1 : Int32)))) else
  (fX11_day_s33 k2 a0 y1 S))
def fX11_day_h2 (a0 : Nat) : Nat → Int32 → St → Option St
  | 0, _, _ => none
  | n + 1, y1, S => fX11_day_s2 (fX11_day_h2 a0 n) a0 y1 S
def fX11_day (a0 : Nat) (S : St) : Option St :=
  fX11_day_h2 a0 NN (0 : Int32) S
theorem wX11_day_s47 {z : Mx} {ad : Nat → Nat} {o : Option Value × St} (X : CxOk z ad RX11 cX11_day 2 none 3) (a0 : Nat) (h0 : KT a0 = 11)     (S : St) (r : St) (ho : o = (none, r)) (hF : fX11_day_s47 a0   S = some r) : GW z ad o S 47 [(0, .ref (ad a0))] [] := by
  unfold fX11_day_s47 at hF
  refine g_aload_n X dX11_day_47 0 rfl rfl ?_
  refine g_getR (f := 2) X dX11_day_48 flX11_33 rfl rfl h0 ?_
  refine g_bipush (v := 52) X dX11_day_51 (by decide) ?_
  refine g_dup2 (a := .int (52 : Int32)) (b := .ref (ad (a0 + 2))) X dX11_day_53 rfl rfl ?_
  refine g_ialdK (j := 52) X dX11_day_54 kd_29 (on_11_6 h0) (by decide) (by decide) ?_
  refine g_iconst (v := 1) X dX11_day_55 (by decide) ?_
  refine g_iadd X dX11_day_56 ?_
  refine g_iastK (j := 52) X dX11_day_57 kd_29 (on_11_6 h0) (by decide) (by decide) ?_
  have hF := Option.some.inj hF
  subst hF
  exact g_vret X dX11_day_58 ho
theorem wX11_day_s33 {z : Mx} {ad : Nat → Nat} {o : Option Value × St} (X : CxOk z ad RX11 cX11_day 2 none 3) (a0 : Nat) (h0 : KT a0 = 11) (y1 : Int32)  (k2 : Int32 → St → Option St)   (S : St) (r : St) (ho : o = (none, r)) (hk2 : ∀ (y1 : Int32) (S : St), k2 y1 S = some r → GW z ad o S 2 [(0, .ref (ad a0)), (1, .int y1)] []) (hF : fX11_day_s33 k2 a0 y1  S = some r) : GW z ad o S 33 [(0, .ref (ad a0)), (1, .int y1)] [] := by
  unfold fX11_day_s33 at hF
  refine g_iinc (v := (y1 + (1 : Int32))) X dX11_day_33 1 rfl rfl (by decide) (lv' := [(1, .int (y1 + (1 : Int32))), (0, .ref (ad a0))]) rfl ?_
  refine g_goto (tgt := 2) X dX11_day_36 (by decide) ?_
  exact g_perm [1, 0] rfl (hk2 (y1 + (1 : Int32)) S hF)
theorem wX11_day_s2 {z : Mx} {ad : Nat → Nat} {o : Option Value × St} (X : CxOk z ad RX11 cX11_day 2 none 3) (a0 : Nat) (h0 : KT a0 = 11) (y1 : Int32)  (k2 : Int32 → St → Option St)   (S : St) (r : St) (ho : o = (none, r)) (hk2 : ∀ (y1 : Int32) (S : St), k2 y1 S = some r → GW z ad o S 2 [(0, .ref (ad a0)), (1, .int y1)] []) (hF : fX11_day_s2 k2 a0 y1  S = some r) : GW z ad o S 2 [(0, .ref (ad a0)), (1, .int y1)] [] := by
  unfold fX11_day_s2 at hF
  refine g_iload_n X dX11_day_2 1 rfl rfl ?_
  refine g_aload_n X dX11_day_3 0 rfl rfl ?_
  refine g_getR (f := 2) X dX11_day_4 flX11_33 rfl rfl h0 ?_
  refine g_iconst (v := 0) X dX11_day_7 (by decide) ?_
  refine g_ialdK (j := 0) X dX11_day_8 kd_29 (on_11_6 h0) (by decide) (by decide) ?_
  refine g_icmp_ge (tgt := 39) X dX11_day_9 (by decide) (fun c_1 => ?_) (fun c_1 => ?_)
  · rw [if_pos c_1] at hF
    refine g_aload_n X dX11_day_39 0 rfl rfl ?_
    refine g_getR (f := 2) X dX11_day_40 flX11_33 rfl rfl h0 ?_
    refine g_bipush (v := 53) X dX11_day_43 (by decide) ?_
    refine g_iconst (v := 0) X dX11_day_45 (by decide) ?_
    refine g_iastK (j := 53) X dX11_day_46 kd_29 (on_11_6 h0) (by decide) (by decide) ?_
    exact g_perm [0] rfl (wX11_day_s47 X a0 h0 (sA S 29 (a0 + 2) 53 (0 : Int32)) r ho hF)
  · rw [if_neg c_1] at hF
    refine g_aload_n X dX11_day_12 0 rfl rfl ?_
    refine g_iload_n X dX11_day_13 1 rfl rfl ?_
    obtain ⟨r_2, q_3, hF⟩ := obind hF
    refine g_callVi (As := [.int y1]) X dX11_day_14 mlX11_255 (fun l D cyy => tX11_isHeld (cx_inj X) l D cyy a0 y1 h0 S r_2 q_3) h0 (by decide) rfl rfl (Nat.le_of_ble_eq_true rfl) ?_
    refine g_if_ne (tgt := 33) X dX11_day_17 (by decide) (fun c_4 => ?_) (fun c_4 => ?_)
    · rw [if_neg c_4] at hF
      exact (wX11_day_s33 X a0 h0 y1 k2 S r ho hk2 hF)
    · rw [if_pos c_4] at hF
      refine g_aload_n X dX11_day_20 0 rfl rfl ?_
      refine g_getR (f := 2) X dX11_day_21 flX11_33 rfl rfl h0 ?_
      refine g_bipush (v := 54) X dX11_day_24 (by decide) ?_
      refine g_iload_n X dX11_day_26 1 rfl rfl ?_
      refine g_iadd X dX11_day_27 ?_
      refine g_dup2 (a := .int ((54 : Int32) + y1)) (b := .ref (ad (a0 + 2))) X dX11_day_28 rfl rfl ?_
      obtain ⟨e_5, hF⟩ := oguard hF
      refine g_iald X dX11_day_29 kd_29 (on_11_6 h0) e_5 ?_
      refine g_iconst (v := 1) X dX11_day_30 (by decide) ?_
      refine g_iadd X dX11_day_31 ?_
      obtain ⟨e_6, hF⟩ := oguard hF
      refine g_iast X dX11_day_32 kd_29 (on_11_6 h0) e_6 ?_
      exact (wX11_day_s33 X a0 h0 y1 k2 (sA S 29 (a0 + 2) (((54 : Int32) + y1).toNatClampNeg) ((gA S 29 (a0 + 2) (((54 : Int32) + y1).toNatClampNeg)) + (1 : Int32))) r ho hk2 hF)
theorem wX11_day_h2 {z : Mx} {ad : Nat → Nat} {o : Option Value × St} (X : CxOk z ad RX11 cX11_day 2 none 3) (a0 : Nat) (h0 : KT a0 = 11)  (r : St) (ho : o = (none, r)) : ∀ (n : Nat) (y1 : Int32) (S : St), fX11_day_h2 a0 n y1 S = some r → GW z ad o S 2 [(0, .ref (ad a0)), (1, .int y1)] [] := by
  intro n
  induction n with
  | zero => intro y1 S  hF; cases hF
  | succ n ih => intro y1 S  hF; exact wX11_day_s2 X a0 h0 y1 (fX11_day_h2 a0 n)  S r ho ih hF
theorem wX11_day {z : Mx} {ad : Nat → Nat} {o : Option Value × St} (X : CxOk z ad RX11 cX11_day 2 none 3) (a0 : Nat) (h0 : KT a0 = 11) (S : St) (r : St) (ho : o = (none, r)) (hF : fX11_day a0 S = some r) : GW z ad o S 0 [(0, .ref (ad a0))] [] := by
  unfold fX11_day at hF
  refine g_iconst (v := 0) X dX11_day_0 (by decide) ?_
  refine g_istore_n X dX11_day_1 rfl (by decide) (lv' := [(1, .int (0 : Int32)), (0, .ref (ad a0))]) rfl ?_
  exact g_perm [1, 0] rfl (wX11_day_h2 X a0 h0 r ho NN (0 : Int32) S hF)
theorem tX11_day {ad : Nat → Nat} (hI : Inj ad) (l : Launch) (D : va_G) (cyy : Nat → ClassId) (a0 : Nat) (h0 : KT a0 = 11) (S : St) (r : St) (hF : fX11_day a0 S = some r) : OkM l yX11_day cX11_day 2 none 3 ad D cyy [.ref (ad a0)] S (none, r) := okM_of hI (by decide) (inr_33 _ (List.mem_of_getElem? (i := 15) rfl)) (by show _ ≤ 2; exact Nat.le_of_ble_eq_true rfl) (fun z X => wX11_day X a0 h0 S r rfl hF)
def fX11_goesOn_s2 (k2 : Int32 → St → Option (Int32 × St)) (a0 : Nat) (x1 : Int32) (y2 : Int32)  (S : St) : Option (Int32 × St) :=
  if x1 ≤ y2 then (some (y2, S)) else
  (if (10000 : Int32) ≤ (gA S 29 (a0 + 2) 52) then (some (y2, S)) else
  ((fX11_day a0 S).bind fun r_3 =>
  k2 (y2 + (1 : Int32)) r_3))
def fX11_goesOn_h2 (a0 : Nat) (x1 : Int32) : Nat → Int32 → St → Option (Int32 × St)
  | 0, _, _ => none
  | n + 1, y2, S => fX11_goesOn_s2 (fX11_goesOn_h2 a0 x1 n) a0 x1 y2 S
def fX11_goesOn (a0 : Nat) (x1 : Int32) (S : St) : Option (Int32 × St) :=
  fX11_goesOn_h2 a0 x1 NN (0 : Int32) S
theorem wX11_goesOn_s2 {z : Mx} {ad : Nat → Nat} {o : Option Value × St} (X : CxOk z ad RX11 cX11_goesOn 3 (some .int) 4) (a0 : Nat) (x1 : Int32) (h0 : KT a0 = 11) (y2 : Int32)  (k2 : Int32 → St → Option (Int32 × St))   (S : St) (r : (Int32 × St)) (ho : o = (some (.int r.1), r.2)) (hk2 : ∀ (y2 : Int32) (S : St), k2 y2 S = some r → GW z ad o S 2 [(0, .ref (ad a0)), (1, .int x1), (2, .int y2)] []) (hF : fX11_goesOn_s2 k2 a0 x1 y2  S = some r) : GW z ad o S 2 [(0, .ref (ad a0)), (1, .int x1), (2, .int y2)] [] := by
  unfold fX11_goesOn_s2 at hF
  refine g_iload_n X dX11_goesOn_2 2 rfl rfl ?_
  refine g_iload_n X dX11_goesOn_3 1 rfl rfl ?_
  refine g_icmp_ge (tgt := 30) X dX11_goesOn_4 (by decide) (fun c_1 => ?_) (fun c_1 => ?_)
  · rw [if_pos c_1] at hF
    refine g_iload_n X dX11_goesOn_30 2 rfl rfl ?_
    have hF := Option.some.inj hF
    subst hF
    exact g_iret X dX11_goesOn_31 ho
  · rw [if_neg c_1] at hF
    refine g_aload_n X dX11_goesOn_7 0 rfl rfl ?_
    refine g_getR (f := 2) X dX11_goesOn_8 flX11_33 rfl rfl h0 ?_
    refine g_bipush (v := 52) X dX11_goesOn_11 (by decide) ?_
    refine g_ialdK (j := 52) X dX11_goesOn_13 kd_29 (on_11_6 h0) (by decide) (by decide) ?_
    refine g_sipush (v := 10000) X dX11_goesOn_14 (by decide) ?_
    refine g_icmp_ge (tgt := 30) X dX11_goesOn_17 (by decide) (fun c_2 => ?_) (fun c_2 => ?_)
    · rw [if_pos c_2] at hF
      refine g_iload_n X dX11_goesOn_30 2 rfl rfl ?_
      have hF := Option.some.inj hF
      subst hF
      exact g_iret X dX11_goesOn_31 ho
    · rw [if_neg c_2] at hF
      refine g_aload_n X dX11_goesOn_20 0 rfl rfl ?_
      obtain ⟨r_3, q_4, hF⟩ := obind hF
      refine g_callVv (As := []) X dX11_goesOn_21 mlX11_294 (fun l D cyy => tX11_day (cx_inj X) l D cyy a0 h0 S r_3 q_4) h0 (by decide) rfl rfl (Nat.le_of_ble_eq_true rfl) ?_
      refine g_iinc (v := (y2 + (1 : Int32))) X dX11_goesOn_24 2 rfl rfl (by decide) (lv' := [(2, .int (y2 + (1 : Int32))), (0, .ref (ad a0)), (1, .int x1)]) rfl ?_
      refine g_goto (tgt := 2) X dX11_goesOn_27 (by decide) ?_
      exact g_perm [1, 2, 0] rfl (hk2 (y2 + (1 : Int32)) r_3 hF)
theorem wX11_goesOn_h2 {z : Mx} {ad : Nat → Nat} {o : Option Value × St} (X : CxOk z ad RX11 cX11_goesOn 3 (some .int) 4) (a0 : Nat) (x1 : Int32) (h0 : KT a0 = 11)  (r : (Int32 × St)) (ho : o = (some (.int r.1), r.2)) : ∀ (n : Nat) (y2 : Int32) (S : St), fX11_goesOn_h2 a0 x1 n y2 S = some r → GW z ad o S 2 [(0, .ref (ad a0)), (1, .int x1), (2, .int y2)] [] := by
  intro n
  induction n with
  | zero => intro y2 S  hF; cases hF
  | succ n ih => intro y2 S  hF; exact wX11_goesOn_s2 X a0 x1 h0 y2 (fX11_goesOn_h2 a0 x1 n)  S r ho ih hF
theorem wX11_goesOn {z : Mx} {ad : Nat → Nat} {o : Option Value × St} (X : CxOk z ad RX11 cX11_goesOn 3 (some .int) 4) (a0 : Nat) (x1 : Int32) (h0 : KT a0 = 11) (S : St) (r : (Int32 × St)) (ho : o = (some (.int r.1), r.2)) (hF : fX11_goesOn a0 x1 S = some r) : GW z ad o S 0 [(0, .ref (ad a0)), (1, .int x1)] [] := by
  unfold fX11_goesOn at hF
  refine g_iconst (v := 0) X dX11_goesOn_0 (by decide) ?_
  refine g_istore_n X dX11_goesOn_1 rfl (by decide) (lv' := [(2, .int (0 : Int32)), (0, .ref (ad a0)), (1, .int x1)]) rfl ?_
  exact g_perm [1, 2, 0] rfl (wX11_goesOn_h2 X a0 x1 h0 r ho NN (0 : Int32) S hF)
theorem tX11_goesOn {ad : Nat → Nat} (hI : Inj ad) (l : Launch) (D : va_G) (cyy : Nat → ClassId) (a0 : Nat) (x1 : Int32) (h0 : KT a0 = 11) (S : St) (r : (Int32 × St)) (hF : fX11_goesOn a0 x1 S = some r) : OkM l yX11_goesOn cX11_goesOn 3 (some .int) 4 ad D cyy [.ref (ad a0), .int x1] S (some (.int r.1), r.2) := okM_of hI (by decide) (inr_33 _ (List.mem_of_getElem? (i := 11) rfl)) (by show _ ≤ 3; exact Nat.le_of_ble_eq_true rfl) (fun z X => wX11_goesOn X a0 x1 h0 S r rfl hF)
def fX11_keep_s75 (k46 : Int32 → St → Option St) (a0 : Nat) (y1 : Int32)  (S : St) : Option St :=
  k46 (y1 + (1 : Int32)) S
def fX11_keep_s46 (k46 : Int32 → St → Option St) (a0 : Nat) (y1 : Int32)  (S : St) : Option St :=
  if (17 : Int32) ≤ y1 then (some (sI S 11 23 a0 ((gI S 11 23 a0) + (1 : Int32)))) else
  (if (((52 : Int32) + y1) < 0 ∨ 250 ≤ ((52 : Int32) + y1).toNatClampNeg) then none else
  if ((((17 : Int32) * (gI S 11 23 a0)) + y1) < 0 ∨ 136 ≤ (((17 : Int32) * (gI S 11 23 a0)) + y1).toNatClampNeg) then none else
  fX11_keep_s75 k46 a0 y1 (sA S 34 (a0 + 7) ((((17 : Int32) * (gI S 11 23 a0)) + y1).toNatClampNeg) (gA S 29 (a0 + 2) (((52 : Int32) + y1).toNatClampNeg))))
def fX11_keep_h46 (a0 : Nat) : Nat → Int32 → St → Option St
  | 0, _, _ => none
  | n + 1, y1, S => fX11_keep_s46 (fX11_keep_h46 a0 n) a0 y1 S
def fX11_keep_s44 (a0 : Nat)   (S : St) : Option St :=
  fX11_keep_h46 a0 NN (0 : Int32) S
def fX11_keep_s32 (k11 : Int32 → St → Option St) (a0 : Nat) (y1 : Int32)  (S : St) : Option St :=
  k11 (y1 + (1 : Int32)) S
def fX11_keep_s11 (k11 : Int32 → St → Option St) (a0 : Nat) (y1 : Int32)  (S : St) : Option St :=
  if (119 : Int32) ≤ y1 then (fX11_keep_s44 a0 (sI S 11 23 a0 (7 : Int32))) else
  (if ((y1 + (17 : Int32)) < 0 ∨ 136 ≤ (y1 + (17 : Int32)).toNatClampNeg) then none else
  if (y1 < 0 ∨ 136 ≤ y1.toNatClampNeg) then none else
  fX11_keep_s32 k11 a0 y1 (sA S 34 (a0 + 7) y1.toNatClampNeg (gA S 34 (a0 + 7) ((y1 + (17 : Int32)).toNatClampNeg))))
def fX11_keep_h11 (a0 : Nat) : Nat → Int32 → St → Option St
  | 0, _, _ => none
  | n + 1, y1, S => fX11_keep_s11 (fX11_keep_h11 a0 n) a0 y1 S
def fX11_keep (a0 : Nat) (S : St) : Option St :=
  if (gI S 11 23 a0) = (8 : Int32) then (fX11_keep_h11 a0 NN (0 : Int32) S) else
  (fX11_keep_s44 a0 S)
theorem wX11_keep_s75 {z : Mx} {ad : Nat → Nat} {o : Option Value × St} (X : CxOk z ad RX11 cX11_keep 2 none 1) (a0 : Nat) (h0 : KT a0 = 11) (y1 : Int32)  (k46 : Int32 → St → Option St)   (S : St) (r : St) (ho : o = (none, r)) (hk46 : ∀ (y1 : Int32) (S : St), k46 y1 S = some r → GW z ad o S 46 [(0, .ref (ad a0)), (1, .int y1)] []) (hF : fX11_keep_s75 k46 a0 y1  S = some r) : GW z ad o S 75 [(0, .ref (ad a0)), (1, .int y1)] [] := by
  unfold fX11_keep_s75 at hF
  refine g_iinc (v := (y1 + (1 : Int32))) X dX11_keep_75 1 rfl rfl (by decide) (lv' := [(1, .int (y1 + (1 : Int32))), (0, .ref (ad a0))]) rfl ?_
  refine g_goto (tgt := 46) X dX11_keep_78 (by decide) ?_
  exact g_perm [1, 0] rfl (hk46 (y1 + (1 : Int32)) S hF)
theorem wX11_keep_s46 {z : Mx} {ad : Nat → Nat} {o : Option Value × St} (X : CxOk z ad RX11 cX11_keep 2 none 1) (a0 : Nat) (h0 : KT a0 = 11) (y1 : Int32)  (k46 : Int32 → St → Option St)   (S : St) (r : St) (ho : o = (none, r)) (hk46 : ∀ (y1 : Int32) (S : St), k46 y1 S = some r → GW z ad o S 46 [(0, .ref (ad a0)), (1, .int y1)] []) (hF : fX11_keep_s46 k46 a0 y1  S = some r) : GW z ad o S 46 [(0, .ref (ad a0)), (1, .int y1)] [] := by
  unfold fX11_keep_s46 at hF
  refine g_iload_n X dX11_keep_46 1 rfl rfl ?_
  refine g_bipush (v := 17) X dX11_keep_47 (by decide) ?_
  refine g_icmp_ge (tgt := 81) X dX11_keep_49 (by decide) (fun c_2 => ?_) (fun c_2 => ?_)
  · rw [if_pos c_2] at hF
    refine g_aload_n X dX11_keep_81 0 rfl rfl ?_
    refine g_dup (a := .ref (ad a0)) X dX11_keep_82 rfl ?_
    refine g_getI X dX11_keep_83 flX11_233 rfl h0 ?_
    refine g_iconst (v := 1) X dX11_keep_86 (by decide) ?_
    refine g_iadd X dX11_keep_87 ?_
    refine g_putI X dX11_keep_88 fpX11_233 rfl rfl rfl h0 ?_
    have hF := Option.some.inj hF
    subst hF
    exact g_vret X dX11_keep_91 ho
  · rw [if_neg c_2] at hF
    refine g_aload_n X dX11_keep_52 0 rfl rfl ?_
    refine g_getR (f := 7) X dX11_keep_53 flX11_50 rfl rfl h0 ?_
    refine g_bipush (v := 17) X dX11_keep_56 (by decide) ?_
    refine g_aload_n X dX11_keep_58 0 rfl rfl ?_
    refine g_getI X dX11_keep_59 flX11_233 rfl h0 ?_
    refine g_imul X dX11_keep_62 ?_
    refine g_iload_n X dX11_keep_63 1 rfl rfl ?_
    refine g_iadd X dX11_keep_64 ?_
    refine g_aload_n X dX11_keep_65 0 rfl rfl ?_
    refine g_getR (f := 2) X dX11_keep_66 flX11_33 rfl rfl h0 ?_
    refine g_bipush (v := 52) X dX11_keep_69 (by decide) ?_
    refine g_iload_n X dX11_keep_71 1 rfl rfl ?_
    refine g_iadd X dX11_keep_72 ?_
    obtain ⟨e_3, hF⟩ := oguard hF
    refine g_iald X dX11_keep_73 kd_29 (on_11_6 h0) e_3 ?_
    obtain ⟨e_4, hF⟩ := oguard hF
    refine g_iast X dX11_keep_74 kd_34 (on_11_21 h0) e_4 ?_
    exact (wX11_keep_s75 X a0 h0 y1 k46 (sA S 34 (a0 + 7) ((((17 : Int32) * (gI S 11 23 a0)) + y1).toNatClampNeg) (gA S 29 (a0 + 2) (((52 : Int32) + y1).toNatClampNeg))) r ho hk46 hF)
theorem wX11_keep_h46 {z : Mx} {ad : Nat → Nat} {o : Option Value × St} (X : CxOk z ad RX11 cX11_keep 2 none 1) (a0 : Nat) (h0 : KT a0 = 11)  (r : St) (ho : o = (none, r)) : ∀ (n : Nat) (y1 : Int32) (S : St), fX11_keep_h46 a0 n y1 S = some r → GW z ad o S 46 [(0, .ref (ad a0)), (1, .int y1)] [] := by
  intro n
  induction n with
  | zero => intro y1 S  hF; cases hF
  | succ n ih => intro y1 S  hF; exact wX11_keep_s46 X a0 h0 y1 (fX11_keep_h46 a0 n)  S r ho ih hF
theorem wX11_keep_s44 {z : Mx} {ad : Nat → Nat} {o : Option Value × St} (X : CxOk z ad RX11 cX11_keep 2 none 1) (a0 : Nat) (h0 : KT a0 = 11)     (S : St) (r : St) (ho : o = (none, r)) (hF : fX11_keep_s44 a0   S = some r) : GW z ad o S 44 [(0, .ref (ad a0))] [] := by
  unfold fX11_keep_s44 at hF
  refine g_iconst (v := 0) X dX11_keep_44 (by decide) ?_
  refine g_istore_n X dX11_keep_45 rfl (by decide) (lv' := [(1, .int (0 : Int32)), (0, .ref (ad a0))]) rfl ?_
  exact g_perm [1, 0] rfl (wX11_keep_h46 X a0 h0 r ho NN (0 : Int32) S hF)
theorem wX11_keep_s32 {z : Mx} {ad : Nat → Nat} {o : Option Value × St} (X : CxOk z ad RX11 cX11_keep 2 none 1) (a0 : Nat) (h0 : KT a0 = 11) (y1 : Int32)  (k11 : Int32 → St → Option St)   (S : St) (r : St) (ho : o = (none, r)) (hk11 : ∀ (y1 : Int32) (S : St), k11 y1 S = some r → GW z ad o S 11 [(0, .ref (ad a0)), (1, .int y1)] []) (hF : fX11_keep_s32 k11 a0 y1  S = some r) : GW z ad o S 32 [(0, .ref (ad a0)), (1, .int y1)] [] := by
  unfold fX11_keep_s32 at hF
  refine g_iinc (v := (y1 + (1 : Int32))) X dX11_keep_32 1 rfl rfl (by decide) (lv' := [(1, .int (y1 + (1 : Int32))), (0, .ref (ad a0))]) rfl ?_
  refine g_goto (tgt := 11) X dX11_keep_35 (by decide) ?_
  exact g_perm [1, 0] rfl (hk11 (y1 + (1 : Int32)) S hF)
theorem wX11_keep_s11 {z : Mx} {ad : Nat → Nat} {o : Option Value × St} (X : CxOk z ad RX11 cX11_keep 2 none 1) (a0 : Nat) (h0 : KT a0 = 11) (y1 : Int32)  (k11 : Int32 → St → Option St)   (S : St) (r : St) (ho : o = (none, r)) (hk11 : ∀ (y1 : Int32) (S : St), k11 y1 S = some r → GW z ad o S 11 [(0, .ref (ad a0)), (1, .int y1)] []) (hF : fX11_keep_s11 k11 a0 y1  S = some r) : GW z ad o S 11 [(0, .ref (ad a0)), (1, .int y1)] [] := by
  unfold fX11_keep_s11 at hF
  refine g_iload_n X dX11_keep_11 1 rfl rfl ?_
  refine g_bipush (v := 119) X dX11_keep_12 (by decide) ?_
  refine g_icmp_ge (tgt := 38) X dX11_keep_14 (by decide) (fun c_5 => ?_) (fun c_5 => ?_)
  · rw [if_pos c_5] at hF
    refine g_aload_n X dX11_keep_38 0 rfl rfl ?_
    refine g_bipush (v := 7) X dX11_keep_39 (by decide) ?_
    refine g_putI X dX11_keep_41 fpX11_233 rfl rfl rfl h0 ?_
    exact g_perm [0] rfl (wX11_keep_s44 X a0 h0 (sI S 11 23 a0 (7 : Int32)) r ho hF)
  · rw [if_neg c_5] at hF
    refine g_aload_n X dX11_keep_17 0 rfl rfl ?_
    refine g_getR (f := 7) X dX11_keep_18 flX11_50 rfl rfl h0 ?_
    refine g_iload_n X dX11_keep_21 1 rfl rfl ?_
    refine g_aload_n X dX11_keep_22 0 rfl rfl ?_
    refine g_getR (f := 7) X dX11_keep_23 flX11_50 rfl rfl h0 ?_
    refine g_iload_n X dX11_keep_26 1 rfl rfl ?_
    refine g_bipush (v := 17) X dX11_keep_27 (by decide) ?_
    refine g_iadd X dX11_keep_29 ?_
    obtain ⟨e_6, hF⟩ := oguard hF
    refine g_iald X dX11_keep_30 kd_34 (on_11_21 h0) e_6 ?_
    obtain ⟨e_7, hF⟩ := oguard hF
    refine g_iast X dX11_keep_31 kd_34 (on_11_21 h0) e_7 ?_
    exact (wX11_keep_s32 X a0 h0 y1 k11 (sA S 34 (a0 + 7) y1.toNatClampNeg (gA S 34 (a0 + 7) ((y1 + (17 : Int32)).toNatClampNeg))) r ho hk11 hF)
theorem wX11_keep_h11 {z : Mx} {ad : Nat → Nat} {o : Option Value × St} (X : CxOk z ad RX11 cX11_keep 2 none 1) (a0 : Nat) (h0 : KT a0 = 11)  (r : St) (ho : o = (none, r)) : ∀ (n : Nat) (y1 : Int32) (S : St), fX11_keep_h11 a0 n y1 S = some r → GW z ad o S 11 [(0, .ref (ad a0)), (1, .int y1)] [] := by
  intro n
  induction n with
  | zero => intro y1 S  hF; cases hF
  | succ n ih => intro y1 S  hF; exact wX11_keep_s11 X a0 h0 y1 (fX11_keep_h11 a0 n)  S r ho ih hF
theorem wX11_keep {z : Mx} {ad : Nat → Nat} {o : Option Value × St} (X : CxOk z ad RX11 cX11_keep 2 none 1) (a0 : Nat) (h0 : KT a0 = 11) (S : St) (r : St) (ho : o = (none, r)) (hF : fX11_keep a0 S = some r) : GW z ad o S 0 [(0, .ref (ad a0))] [] := by
  unfold fX11_keep at hF
  refine g_aload_n X dX11_keep_0 0 rfl rfl ?_
  refine g_getI X dX11_keep_1 flX11_233 rfl h0 ?_
  refine g_bipush (v := 8) X dX11_keep_4 (by decide) ?_
  refine g_icmp_ne (tgt := 44) X dX11_keep_6 (by decide) (fun c_1 => ?_) (fun c_1 => ?_)
  · rw [if_neg c_1] at hF
    exact (wX11_keep_s44 X a0 h0 S r ho hF)
  · rw [if_pos c_1] at hF
    refine g_iconst (v := 0) X dX11_keep_9 (by decide) ?_
    refine g_istore_n X dX11_keep_10 rfl (by decide) (lv' := [(1, .int (0 : Int32)), (0, .ref (ad a0))]) rfl ?_
    exact g_perm [1, 0] rfl (wX11_keep_h11 X a0 h0 r ho NN (0 : Int32) S hF)
theorem tX11_keep {ad : Nat → Nat} (hI : Inj ad) (l : Launch) (D : va_G) (cyy : Nat → ClassId) (a0 : Nat) (h0 : KT a0 = 11) (S : St) (r : St) (hF : fX11_keep a0 S = some r) : OkM l yX11_keep cX11_keep 2 none 1 ad D cyy [.ref (ad a0)] S (none, r) := okM_of hI (by decide) (inr_31 _ (List.mem_of_getElem? (i := 14) rfl)) (by show _ ≤ 2; exact Nat.le_of_ble_eq_true rfl) (fun z X => wX11_keep X a0 h0 S r rfl hF)
def fX11_hold_s5 (a0 : Nat) (x1 : Int32)   (S : St) : Option (Int32 × St) :=
  (fX11_isParish a0 x1 S).bind fun r_1 =>
  if r_1 = 0 then (some ((-1 : Int32), S)) else
  ((fX11_whyHold a0 x1 S).bind fun r_4 =>
  if r_4 ≤ 0 then ((fX11_keep a0 S).bind fun r_7 =>
  (fX11_holds a0 x1 r_7).bind fun r_9 =>
  some ((0 : Int32), r_9)) else
  (some ((1 : Int32), S)))
def fX11_hold (a0 : Nat) (x1 : Int32) (S : St) : Option (Int32 × St) :=
  fX11_hold_s5 a0 x1 (sI S 11 0 a0 (0 : Int32))
theorem wX11_hold_s5 {z : Mx} {ad : Nat → Nat} {o : Option Value × St} (X : CxOk z ad RX11 cX11_hold 2 (some .int) 4) (a0 : Nat) (x1 : Int32) (h0 : KT a0 = 11)     (S : St) (r : (Int32 × St)) (ho : o = (some (.int r.1), r.2)) (hF : fX11_hold_s5 a0 x1   S = some r) : GW z ad o S 5 [(0, .ref (ad a0)), (1, .int x1)] [] := by
  unfold fX11_hold_s5 at hF
  refine g_aload_n X dX11_hold_5 0 rfl rfl ?_
  refine g_iload_n X dX11_hold_6 1 rfl rfl ?_
  obtain ⟨r_1, q_2, hF⟩ := obind hF
  refine g_callVi (As := [.int x1]) X dX11_hold_7 mlX11_267 (fun l D cyy => tX11_isParish (cx_inj X) l D cyy a0 x1 h0 S r_1 q_2) h0 (by decide) rfl rfl (Nat.le_of_ble_eq_true rfl) ?_
  refine g_if_ne (tgt := 15) X dX11_hold_10 (by decide) (fun c_3 => ?_) (fun c_3 => ?_)
  · rw [if_neg c_3] at hF
    refine g_aload_n X dX11_hold_15 0 rfl rfl ?_
    refine g_iload_n X dX11_hold_16 1 rfl rfl ?_
    obtain ⟨r_4, q_5, hF⟩ := obind hF
    refine g_callVi (As := [.int x1]) X dX11_hold_17 mlX11_297 (fun l D cyy => tX11_whyHold (cx_inj X) l D cyy a0 x1 h0 S r_4 q_5) h0 (by decide) rfl rfl (Nat.le_of_ble_eq_true rfl) ?_
    refine g_if_le (tgt := 25) X dX11_hold_20 (by decide) (fun c_6 => ?_) (fun c_6 => ?_)
    · rw [if_pos c_6] at hF
      refine g_aload_n X dX11_hold_25 0 rfl rfl ?_
      obtain ⟨r_7, q_8, hF⟩ := obind hF
      refine g_callVv (As := []) X dX11_hold_26 mlX11_300 (fun l D cyy => tX11_keep (cx_inj X) l D cyy a0 h0 S r_7 q_8) h0 (by decide) rfl rfl (Nat.le_of_ble_eq_true rfl) ?_
      refine g_aload_n X dX11_hold_29 0 rfl rfl ?_
      refine g_iload_n X dX11_hold_30 1 rfl rfl ?_
      obtain ⟨r_9, q_10, hF⟩ := obind hF
      refine g_callVv (As := [.int x1]) X dX11_hold_31 mlX11_303 (fun l D cyy => tX11_holds (cx_inj X) l D cyy a0 x1 h0 r_7 r_9 q_10) h0 (by decide) rfl rfl (Nat.le_of_ble_eq_true rfl) ?_
      refine g_iconst (v := 0) X dX11_hold_34 (by decide) ?_
      have hF := Option.some.inj hF
      subst hF
      exact g_iret X dX11_hold_35 ho
    · rw [if_neg c_6] at hF
      refine g_iconst (v := 1) X dX11_hold_23 (by decide) ?_
      have hF := Option.some.inj hF
      subst hF
      exact g_iret X dX11_hold_24 ho
  · rw [if_pos c_3] at hF
    refine g_iconst (v := -1) X dX11_hold_13 (by decide) ?_
    have hF := Option.some.inj hF
    subst hF
    exact g_iret X dX11_hold_14 ho
theorem wX11_hold {z : Mx} {ad : Nat → Nat} {o : Option Value × St} (X : CxOk z ad RX11 cX11_hold 2 (some .int) 4) (a0 : Nat) (x1 : Int32) (h0 : KT a0 = 11) (S : St) (r : (Int32 × St)) (ho : o = (some (.int r.1), r.2)) (hF : fX11_hold a0 x1 S = some r) : GW z ad o S 0 [(0, .ref (ad a0)), (1, .int x1)] [] := by
  unfold fX11_hold at hF
  refine g_aload_n X dX11_hold_0 0 rfl rfl ?_
  refine g_iconst (v := 0) X dX11_hold_1 (by decide) ?_
  refine g_putI X dX11_hold_2 fpX11_1 rfl rfl rfl h0 ?_
  exact (wX11_hold_s5 X a0 x1 h0 (sI S 11 0 a0 (0 : Int32)) r ho hF)
theorem tX11_hold {ad : Nat → Nat} (hI : Inj ad) (l : Launch) (D : va_G) (cyy : Nat → ClassId) (a0 : Nat) (x1 : Int32) (h0 : KT a0 = 11) (S : St) (r : (Int32 × St)) (hF : fX11_hold a0 x1 S = some r) : OkM l yX11_hold cX11_hold 2 (some .int) 4 ad D cyy [.ref (ad a0), .int x1] S (some (.int r.1), r.2) := okM_of hI (by decide) (inr_31 _ (List.mem_of_getElem? (i := 6) rfl)) (by show _ ≤ 2; exact Nat.le_of_ble_eq_true rfl) (fun z X => wX11_hold X a0 x1 h0 S r rfl hF)
