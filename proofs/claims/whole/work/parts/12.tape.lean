theorem dX3_copyFrom_0 : decode cX3_copyFrom 0 = .ok (.aload_n 0, 1) := by decide +kernel
theorem dX3_copyFrom_1 : decode cX3_copyFrom 1 = .ok (.aload_n 1, 1) := by decide +kernel
theorem dX3_copyFrom_2 : decode cX3_copyFrom 2 = .ok (.getfield 7, 3) := by decide +kernel
theorem dX3_copyFrom_5 : decode cX3_copyFrom 5 = .ok (.putfield 7, 3) := by decide +kernel
theorem dX3_copyFrom_8 : decode cX3_copyFrom 8 = .ok (.aload_n 0, 1) := by decide +kernel
theorem dX3_copyFrom_9 : decode cX3_copyFrom 9 = .ok (.aload_n 1, 1) := by decide +kernel
theorem dX3_copyFrom_10 : decode cX3_copyFrom 10 = .ok (.getfield 13, 3) := by decide +kernel
theorem dX3_copyFrom_13 : decode cX3_copyFrom 13 = .ok (.putfield 13, 3) := by decide +kernel
theorem dX3_copyFrom_16 : decode cX3_copyFrom 16 = .ok (.aload_n 0, 1) := by decide +kernel
theorem dX3_copyFrom_17 : decode cX3_copyFrom 17 = .ok (.aload_n 1, 1) := by decide +kernel
theorem dX3_copyFrom_18 : decode cX3_copyFrom 18 = .ok (.getfield 17, 3) := by decide +kernel
theorem dX3_copyFrom_21 : decode cX3_copyFrom 21 = .ok (.putfield 17, 3) := by decide +kernel
theorem dX3_copyFrom_24 : decode cX3_copyFrom 24 = .ok (.aload_n 0, 1) := by decide +kernel
theorem dX3_copyFrom_25 : decode cX3_copyFrom 25 = .ok (.aload_n 1, 1) := by decide +kernel
theorem dX3_copyFrom_26 : decode cX3_copyFrom 26 = .ok (.getfield 20, 3) := by decide +kernel
theorem dX3_copyFrom_29 : decode cX3_copyFrom 29 = .ok (.putfield 20, 3) := by decide +kernel
theorem dX3_copyFrom_32 : decode cX3_copyFrom 32 = .ok (.return_, 1) := by decide +kernel
theorem dX6_hasRoom_0 : decode cX6_hasRoom 0 = .ok (.aload_n 0, 1) := by decide +kernel
theorem dX6_hasRoom_1 : decode cX6_hasRoom 1 = .ok (.getfield 15, 3) := by decide +kernel
theorem dX6_hasRoom_4 : decode cX6_hasRoom 4 = .ok (.iload_n 1, 1) := by decide +kernel
theorem dX6_hasRoom_5 : decode cX6_hasRoom 5 = .ok (.iadd, 1) := by decide +kernel
theorem dX6_hasRoom_6 : decode cX6_hasRoom 6 = .ok (.aload_n 0, 1) := by decide +kernel
theorem dX6_hasRoom_7 : decode cX6_hasRoom 7 = .ok (.getfield 9, 3) := by decide +kernel
theorem dX6_hasRoom_10 : decode cX6_hasRoom 10 = .ok (.arraylength, 1) := by decide +kernel
theorem dX6_hasRoom_11 : decode cX6_hasRoom 11 = .ok (.if_icmp .gt 7, 3) := by decide +kernel
theorem dX6_hasRoom_14 : decode cX6_hasRoom 14 = .ok (.iconst 1, 1) := by decide +kernel
theorem dX6_hasRoom_15 : decode cX6_hasRoom 15 = .ok (.goto 4, 3) := by decide +kernel
theorem dX6_hasRoom_18 : decode cX6_hasRoom 18 = .ok (.iconst 0, 1) := by decide +kernel
theorem dX6_hasRoom_19 : decode cX6_hasRoom 19 = .ok (.ireturn, 1) := by decide +kernel
theorem dX6_addNumber_0 : decode cX6_addNumber 0 = .ok (.bipush 24, 2) := by decide +kernel
theorem dX6_addNumber_2 : decode cX6_addNumber 2 = .ok (.istore_n 2, 1) := by decide +kernel
theorem dX6_addNumber_3 : decode cX6_addNumber 3 = .ok (.iload_n 2, 1) := by decide +kernel
theorem dX6_addNumber_4 : decode cX6_addNumber 4 = .ok (.ifCond .lt 44, 3) := by decide +kernel
theorem dX6_addNumber_7 : decode cX6_addNumber 7 = .ok (.aload_n 0, 1) := by decide +kernel
theorem dX6_addNumber_8 : decode cX6_addNumber 8 = .ok (.getfield 15, 3) := by decide +kernel
theorem dX6_addNumber_11 : decode cX6_addNumber 11 = .ok (.aload_n 0, 1) := by decide +kernel
theorem dX6_addNumber_12 : decode cX6_addNumber 12 = .ok (.getfield 9, 3) := by decide +kernel
theorem dX6_addNumber_15 : decode cX6_addNumber 15 = .ok (.arraylength, 1) := by decide +kernel
theorem dX6_addNumber_16 : decode cX6_addNumber 16 = .ok (.if_icmp .ge 32, 3) := by decide +kernel
theorem dX6_addNumber_19 : decode cX6_addNumber 19 = .ok (.aload_n 0, 1) := by decide +kernel
theorem dX6_addNumber_20 : decode cX6_addNumber 20 = .ok (.getfield 9, 3) := by decide +kernel
theorem dX6_addNumber_23 : decode cX6_addNumber 23 = .ok (.aload_n 0, 1) := by decide +kernel
theorem dX6_addNumber_24 : decode cX6_addNumber 24 = .ok (.getfield 15, 3) := by decide +kernel
theorem dX6_addNumber_27 : decode cX6_addNumber 27 = .ok (.iload_n 1, 1) := by decide +kernel
theorem dX6_addNumber_28 : decode cX6_addNumber 28 = .ok (.iload_n 2, 1) := by decide +kernel
theorem dX6_addNumber_29 : decode cX6_addNumber 29 = .ok (.ishr, 1) := by decide +kernel
theorem dX6_addNumber_30 : decode cX6_addNumber 30 = .ok (.i2b, 1) := by decide +kernel
theorem dX6_addNumber_31 : decode cX6_addNumber 31 = .ok (.bastore, 1) := by decide +kernel
theorem dX6_addNumber_32 : decode cX6_addNumber 32 = .ok (.aload_n 0, 1) := by decide +kernel
theorem dX6_addNumber_33 : decode cX6_addNumber 33 = .ok (.dup, 1) := by decide +kernel
theorem dX6_addNumber_34 : decode cX6_addNumber 34 = .ok (.getfield 15, 3) := by decide +kernel
theorem dX6_addNumber_37 : decode cX6_addNumber 37 = .ok (.iconst 1, 1) := by decide +kernel
theorem dX6_addNumber_38 : decode cX6_addNumber 38 = .ok (.iadd, 1) := by decide +kernel
theorem dX6_addNumber_39 : decode cX6_addNumber 39 = .ok (.putfield 15, 3) := by decide +kernel
theorem dX6_addNumber_42 : decode cX6_addNumber 42 = .ok (.iinc 2 (-8), 3) := by decide +kernel
theorem dX6_addNumber_45 : decode cX6_addNumber 45 = .ok (.goto (-42), 3) := by decide +kernel
theorem dX6_addNumber_48 : decode cX6_addNumber 48 = .ok (.return_, 1) := by decide +kernel
theorem dX6_open_0 : decode cX6_open 0 = .ok (.aload_n 0, 1) := by decide +kernel
theorem dX6_open_1 : decode cX6_open 1 = .ok (.iload_n 1, 1) := by decide +kernel
theorem dX6_open_2 : decode cX6_open 2 = .ok (.putfield 19, 3) := by decide +kernel
theorem dX6_open_5 : decode cX6_open 5 = .ok (.aload_n 0, 1) := by decide +kernel
theorem dX6_open_6 : decode cX6_open 6 = .ok (.iconst 0, 1) := by decide +kernel
theorem dX6_open_7 : decode cX6_open 7 = .ok (.putfield 22, 3) := by decide +kernel
theorem dX6_open_10 : decode cX6_open 10 = .ok (.aload_n 0, 1) := by decide +kernel
theorem dX6_open_11 : decode cX6_open 11 = .ok (.iconst 0, 1) := by decide +kernel
theorem dX6_open_12 : decode cX6_open 12 = .ok (.putfield 25, 3) := by decide +kernel
theorem dX6_open_15 : decode cX6_open 15 = .ok (.aload_n 0, 1) := by decide +kernel
theorem dX6_open_16 : decode cX6_open 16 = .ok (.iconst 0, 1) := by decide +kernel
theorem dX6_open_17 : decode cX6_open 17 = .ok (.putfield 28, 3) := by decide +kernel
theorem dX6_open_20 : decode cX6_open 20 = .ok (.aload_n 0, 1) := by decide +kernel
theorem dX6_open_21 : decode cX6_open 21 = .ok (.invokevirtual 31, 3) := by decide +kernel
theorem dX6_open_24 : decode cX6_open 24 = .ok (.return_, 1) := by decide +kernel
theorem dX6_advance_0 : decode cX6_advance 0 = .ok (.aload_n 0, 1) := by decide +kernel
theorem dX6_advance_1 : decode cX6_advance 1 = .ok (.getfield 25, 3) := by decide +kernel
theorem dX6_advance_4 : decode cX6_advance 4 = .ok (.ifCond .eq 4, 3) := by decide +kernel
theorem dX6_advance_7 : decode cX6_advance 7 = .ok (.return_, 1) := by decide +kernel
theorem dX6_advance_8 : decode cX6_advance 8 = .ok (.aload_n 0, 1) := by decide +kernel
theorem dX6_advance_9 : decode cX6_advance 9 = .ok (.aload_n 0, 1) := by decide +kernel
theorem dX6_advance_10 : decode cX6_advance 10 = .ok (.getfield 22, 3) := by decide +kernel
theorem dX6_advance_13 : decode cX6_advance 13 = .ok (.putfield 34, 3) := by decide +kernel
theorem dX6_advance_16 : decode cX6_advance 16 = .ok (.aload_n 0, 1) := by decide +kernel
theorem dX6_advance_17 : decode cX6_advance 17 = .ok (.getfield 34, 3) := by decide +kernel
theorem dX6_advance_20 : decode cX6_advance 20 = .ok (.aload_n 0, 1) := by decide +kernel
theorem dX6_advance_21 : decode cX6_advance 21 = .ok (.getfield 15, 3) := by decide +kernel
theorem dX6_advance_24 : decode cX6_advance 24 = .ok (.if_icmp .ge 44, 3) := by decide +kernel
theorem dX6_advance_27 : decode cX6_advance 27 = .ok (.aload_n 0, 1) := by decide +kernel
theorem dX6_advance_28 : decode cX6_advance 28 = .ok (.getfield 9, 3) := by decide +kernel
theorem dX6_advance_31 : decode cX6_advance 31 = .ok (.aload_n 0, 1) := by decide +kernel
theorem dX6_advance_32 : decode cX6_advance 32 = .ok (.getfield 34, 3) := by decide +kernel
theorem dX6_advance_35 : decode cX6_advance 35 = .ok (.baload, 1) := by decide +kernel
theorem dX6_advance_36 : decode cX6_advance 36 = .ok (.bipush 32, 2) := by decide +kernel
theorem dX6_advance_38 : decode cX6_advance 38 = .ok (.if_icmp .eq 17, 3) := by decide +kernel
theorem dX6_advance_41 : decode cX6_advance 41 = .ok (.aload_n 0, 1) := by decide +kernel
theorem dX6_advance_42 : decode cX6_advance 42 = .ok (.getfield 9, 3) := by decide +kernel
theorem dX6_advance_45 : decode cX6_advance 45 = .ok (.aload_n 0, 1) := by decide +kernel
theorem dX6_advance_46 : decode cX6_advance 46 = .ok (.getfield 34, 3) := by decide +kernel
theorem dX6_advance_49 : decode cX6_advance 49 = .ok (.baload, 1) := by decide +kernel
theorem dX6_advance_50 : decode cX6_advance 50 = .ok (.bipush 10, 2) := by decide +kernel
theorem dX6_advance_52 : decode cX6_advance 52 = .ok (.if_icmp .ne 16, 3) := by decide +kernel
theorem dX6_advance_55 : decode cX6_advance 55 = .ok (.aload_n 0, 1) := by decide +kernel
theorem dX6_advance_56 : decode cX6_advance 56 = .ok (.dup, 1) := by decide +kernel
theorem dX6_advance_57 : decode cX6_advance 57 = .ok (.getfield 34, 3) := by decide +kernel
theorem dX6_advance_60 : decode cX6_advance 60 = .ok (.iconst 1, 1) := by decide +kernel
theorem dX6_advance_61 : decode cX6_advance 61 = .ok (.iadd, 1) := by decide +kernel
theorem dX6_advance_62 : decode cX6_advance 62 = .ok (.putfield 34, 3) := by decide +kernel
theorem dX6_advance_65 : decode cX6_advance 65 = .ok (.goto (-49), 3) := by decide +kernel
theorem dX6_advance_68 : decode cX6_advance 68 = .ok (.aload_n 0, 1) := by decide +kernel
theorem dX6_advance_69 : decode cX6_advance 69 = .ok (.getfield 15, 3) := by decide +kernel
theorem dX6_advance_72 : decode cX6_advance 72 = .ok (.aload_n 0, 1) := by decide +kernel
theorem dX6_advance_73 : decode cX6_advance 73 = .ok (.getfield 19, 3) := by decide +kernel
theorem dX6_advance_76 : decode cX6_advance 76 = .ok (.invokestatic 37, 3) := by decide +kernel
theorem dX6_advance_79 : decode cX6_advance 79 = .ok (.istore_n 1, 1) := by decide +kernel
theorem dX6_advance_80 : decode cX6_advance 80 = .ok (.aload_n 0, 1) := by decide +kernel
theorem dX6_advance_81 : decode cX6_advance 81 = .ok (.getfield 34, 3) := by decide +kernel
theorem dX6_advance_84 : decode cX6_advance 84 = .ok (.iload_n 1, 1) := by decide +kernel
theorem dX6_advance_85 : decode cX6_advance 85 = .ok (.if_icmp .lt 34, 3) := by decide +kernel
theorem dX6_advance_88 : decode cX6_advance 88 = .ok (.aload_n 0, 1) := by decide +kernel
theorem dX6_advance_89 : decode cX6_advance 89 = .ok (.iload_n 1, 1) := by decide +kernel
theorem dX6_advance_90 : decode cX6_advance 90 = .ok (.putfield 34, 3) := by decide +kernel
theorem dX6_advance_93 : decode cX6_advance 93 = .ok (.aload_n 0, 1) := by decide +kernel
theorem dX6_advance_94 : decode cX6_advance 94 = .ok (.iload_n 1, 1) := by decide +kernel
theorem dX6_advance_95 : decode cX6_advance 95 = .ok (.putfield 22, 3) := by decide +kernel
theorem dX6_advance_98 : decode cX6_advance 98 = .ok (.aload_n 0, 1) := by decide +kernel
theorem dX6_advance_99 : decode cX6_advance 99 = .ok (.aload_n 0, 1) := by decide +kernel
theorem dX6_advance_100 : decode cX6_advance 100 = .ok (.getfield 15, 3) := by decide +kernel
theorem dX6_advance_103 : decode cX6_advance 103 = .ok (.aload_n 0, 1) := by decide +kernel
theorem dX6_advance_104 : decode cX6_advance 104 = .ok (.getfield 19, 3) := by decide +kernel
theorem dX6_advance_107 : decode cX6_advance 107 = .ok (.if_icmp .le 7, 3) := by decide +kernel
theorem dX6_advance_110 : decode cX6_advance 110 = .ok (.iconst 3, 1) := by decide +kernel
theorem dX6_advance_111 : decode cX6_advance 111 = .ok (.goto 4, 3) := by decide +kernel
theorem dX6_advance_114 : decode cX6_advance 114 = .ok (.iconst 0, 1) := by decide +kernel
theorem dX6_advance_115 : decode cX6_advance 115 = .ok (.putfield 43, 3) := by decide +kernel
theorem dX6_advance_118 : decode cX6_advance 118 = .ok (.return_, 1) := by decide +kernel
theorem dX6_advance_119 : decode cX6_advance 119 = .ok (.iconst 0, 1) := by decide +kernel
theorem dX6_advance_120 : decode cX6_advance 120 = .ok (.istore_n 2, 1) := by decide +kernel
theorem dX6_advance_121 : decode cX6_advance 121 = .ok (.iconst 0, 1) := by decide +kernel
theorem dX6_advance_122 : decode cX6_advance 122 = .ok (.istore_n 3, 1) := by decide +kernel
theorem dX6_advance_123 : decode cX6_advance 123 = .ok (.aload_n 0, 1) := by decide +kernel
theorem dX6_advance_124 : decode cX6_advance 124 = .ok (.lconst 0, 1) := by decide +kernel
theorem dX6_advance_125 : decode cX6_advance 125 = .ok (.putfield 46, 3) := by decide +kernel
theorem dX6_advance_128 : decode cX6_advance 128 = .ok (.aload_n 0, 1) := by decide +kernel
theorem dX6_advance_129 : decode cX6_advance 129 = .ok (.iconst 0, 1) := by decide +kernel
theorem dX6_advance_130 : decode cX6_advance 130 = .ok (.putfield 50, 3) := by decide +kernel
theorem dX6_advance_133 : decode cX6_advance 133 = .ok (.aload_n 0, 1) := by decide +kernel
theorem dX6_advance_134 : decode cX6_advance 134 = .ok (.aload_n 0, 1) := by decide +kernel
theorem dX6_advance_135 : decode cX6_advance 135 = .ok (.getfield 34, 3) := by decide +kernel
theorem dX6_advance_138 : decode cX6_advance 138 = .ok (.putfield 22, 3) := by decide +kernel
theorem dX6_advance_141 : decode cX6_advance 141 = .ok (.aload_n 0, 1) := by decide +kernel
theorem dX6_advance_142 : decode cX6_advance 142 = .ok (.getfield 22, 3) := by decide +kernel
theorem dX6_advance_145 : decode cX6_advance 145 = .ok (.aload_n 0, 1) := by decide +kernel
theorem dX6_advance_146 : decode cX6_advance 146 = .ok (.getfield 15, 3) := by decide +kernel
theorem dX6_advance_149 : decode cX6_advance 149 = .ok (.if_icmp .ge 96, 3) := by decide +kernel
theorem dX6_advance_152 : decode cX6_advance 152 = .ok (.aload_n 0, 1) := by decide +kernel
theorem dX6_advance_153 : decode cX6_advance 153 = .ok (.getfield 9, 3) := by decide +kernel
theorem dX6_advance_156 : decode cX6_advance 156 = .ok (.aload_n 0, 1) := by decide +kernel
theorem dX6_advance_157 : decode cX6_advance 157 = .ok (.getfield 22, 3) := by decide +kernel
theorem dX6_advance_160 : decode cX6_advance 160 = .ok (.baload, 1) := by decide +kernel
theorem dX6_advance_161 : decode cX6_advance 161 = .ok (.istore 4, 2) := by decide +kernel
theorem dX6_advance_163 : decode cX6_advance 163 = .ok (.iload 4, 2) := by decide +kernel
theorem dX6_advance_165 : decode cX6_advance 165 = .ok (.bipush 97, 2) := by decide +kernel
theorem dX6_advance_167 : decode cX6_advance 167 = .ok (.if_icmp .lt 16, 3) := by decide +kernel
theorem dX6_advance_170 : decode cX6_advance 170 = .ok (.iload 4, 2) := by decide +kernel
theorem dX6_advance_172 : decode cX6_advance 172 = .ok (.bipush 122, 2) := by decide +kernel
theorem dX6_advance_174 : decode cX6_advance 174 = .ok (.if_icmp .gt 9, 3) := by decide +kernel
theorem dX6_advance_177 : decode cX6_advance 177 = .ok (.iinc 2 1, 3) := by decide +kernel
theorem dX6_advance_180 : decode cX6_advance 180 = .ok (.goto 20, 3) := by decide +kernel
theorem dX6_advance_183 : decode cX6_advance 183 = .ok (.iload 4, 2) := by decide +kernel
theorem dX6_advance_185 : decode cX6_advance 185 = .ok (.bipush 48, 2) := by decide +kernel
theorem dX6_advance_187 : decode cX6_advance 187 = .ok (.if_icmp .lt 58, 3) := by decide +kernel
theorem dX6_advance_190 : decode cX6_advance 190 = .ok (.iload 4, 2) := by decide +kernel
theorem dX6_advance_192 : decode cX6_advance 192 = .ok (.bipush 57, 2) := by decide +kernel
theorem dX6_advance_194 : decode cX6_advance 194 = .ok (.if_icmp .gt 51, 3) := by decide +kernel
theorem dX6_advance_197 : decode cX6_advance 197 = .ok (.iinc 3 1, 3) := by decide +kernel
theorem dX6_advance_200 : decode cX6_advance 200 = .ok (.aload_n 0, 1) := by decide +kernel
theorem dX6_advance_201 : decode cX6_advance 201 = .ok (.aload_n 0, 1) := by decide +kernel
theorem dX6_advance_202 : decode cX6_advance 202 = .ok (.getfield 46, 3) := by decide +kernel
theorem dX6_advance_205 : decode cX6_advance 205 = .ok (.bipush 8, 2) := by decide +kernel
theorem dX6_advance_207 : decode cX6_advance 207 = .ok (.lshl, 1) := by decide +kernel
theorem dX6_advance_208 : decode cX6_advance 208 = .ok (.iload 4, 2) := by decide +kernel
theorem dX6_advance_210 : decode cX6_advance 210 = .ok (.i2l, 1) := by decide +kernel
theorem dX6_advance_211 : decode cX6_advance 211 = .ok (.lor, 1) := by decide +kernel
theorem dX6_advance_212 : decode cX6_advance 212 = .ok (.putfield 46, 3) := by decide +kernel
theorem dX6_advance_215 : decode cX6_advance 215 = .ok (.aload_n 0, 1) := by decide +kernel
theorem dX6_advance_216 : decode cX6_advance 216 = .ok (.aload_n 0, 1) := by decide +kernel
theorem dX6_advance_217 : decode cX6_advance 217 = .ok (.getfield 50, 3) := by decide +kernel
theorem dX6_advance_220 : decode cX6_advance 220 = .ok (.bipush 10, 2) := by decide +kernel
theorem dX6_advance_222 : decode cX6_advance 222 = .ok (.imul, 1) := by decide +kernel
theorem dX6_advance_223 : decode cX6_advance 223 = .ok (.iload 4, 2) := by decide +kernel
theorem dX6_advance_225 : decode cX6_advance 225 = .ok (.iadd, 1) := by decide +kernel
theorem dX6_advance_226 : decode cX6_advance 226 = .ok (.bipush 48, 2) := by decide +kernel
theorem dX6_advance_228 : decode cX6_advance 228 = .ok (.isub, 1) := by decide +kernel
theorem dX6_advance_229 : decode cX6_advance 229 = .ok (.putfield 50, 3) := by decide +kernel
theorem dX6_advance_232 : decode cX6_advance 232 = .ok (.aload_n 0, 1) := by decide +kernel
theorem dX6_advance_233 : decode cX6_advance 233 = .ok (.dup, 1) := by decide +kernel
theorem dX6_advance_234 : decode cX6_advance 234 = .ok (.getfield 22, 3) := by decide +kernel
theorem dX6_advance_237 : decode cX6_advance 237 = .ok (.iconst 1, 1) := by decide +kernel
theorem dX6_advance_238 : decode cX6_advance 238 = .ok (.iadd, 1) := by decide +kernel
theorem dX6_advance_239 : decode cX6_advance 239 = .ok (.putfield 22, 3) := by decide +kernel
theorem dX6_advance_242 : decode cX6_advance 242 = .ok (.goto (-101), 3) := by decide +kernel
theorem dX6_advance_245 : decode cX6_advance 245 = .ok (.iload_n 2, 1) := by decide +kernel
theorem dX6_advance_246 : decode cX6_advance 246 = .ok (.iload_n 3, 1) := by decide +kernel
theorem dX6_advance_247 : decode cX6_advance 247 = .ok (.iadd, 1) := by decide +kernel
theorem dX6_advance_248 : decode cX6_advance 248 = .ok (.ifCond .ne 32, 3) := by decide +kernel
theorem dX6_advance_251 : decode cX6_advance 251 = .ok (.aload_n 0, 1) := by decide +kernel
theorem dX6_advance_252 : decode cX6_advance 252 = .ok (.aload_n 0, 1) := by decide +kernel
theorem dX6_advance_253 : decode cX6_advance 253 = .ok (.getfield 9, 3) := by decide +kernel
theorem dX6_advance_256 : decode cX6_advance 256 = .ok (.aload_n 0, 1) := by decide +kernel
theorem dX6_advance_257 : decode cX6_advance 257 = .ok (.getfield 34, 3) := by decide +kernel
theorem dX6_advance_260 : decode cX6_advance 260 = .ok (.baload, 1) := by decide +kernel
theorem dX6_advance_261 : decode cX6_advance 261 = .ok (.invokestatic 53, 3) := by decide +kernel
theorem dX6_advance_264 : decode cX6_advance 264 = .ok (.putfield 43, 3) := by decide +kernel
theorem dX6_advance_267 : decode cX6_advance 267 = .ok (.aload_n 0, 1) := by decide +kernel
theorem dX6_advance_268 : decode cX6_advance 268 = .ok (.aload_n 0, 1) := by decide +kernel
theorem dX6_advance_269 : decode cX6_advance 269 = .ok (.getfield 34, 3) := by decide +kernel
theorem dX6_advance_272 : decode cX6_advance 272 = .ok (.iconst 1, 1) := by decide +kernel
theorem dX6_advance_273 : decode cX6_advance 273 = .ok (.iadd, 1) := by decide +kernel
theorem dX6_advance_274 : decode cX6_advance 274 = .ok (.putfield 22, 3) := by decide +kernel
theorem dX6_advance_277 : decode cX6_advance 277 = .ok (.goto 43, 3) := by decide +kernel
theorem dX6_advance_280 : decode cX6_advance 280 = .ok (.iload_n 3, 1) := by decide +kernel
theorem dX6_advance_281 : decode cX6_advance 281 = .ok (.ifCond .ne 21, 3) := by decide +kernel
theorem dX6_advance_284 : decode cX6_advance 284 = .ok (.aload_n 0, 1) := by decide +kernel
theorem dX6_advance_285 : decode cX6_advance 285 = .ok (.iload_n 2, 1) := by decide +kernel
theorem dX6_advance_286 : decode cX6_advance 286 = .ok (.bipush 7, 2) := by decide +kernel
theorem dX6_advance_288 : decode cX6_advance 288 = .ok (.if_icmp .gt 7, 3) := by decide +kernel
theorem dX6_advance_291 : decode cX6_advance 291 = .ok (.iconst 1, 1) := by decide +kernel
theorem dX6_advance_292 : decode cX6_advance 292 = .ok (.goto 4, 3) := by decide +kernel
theorem dX6_advance_295 : decode cX6_advance 295 = .ok (.iconst 3, 1) := by decide +kernel
theorem dX6_advance_296 : decode cX6_advance 296 = .ok (.putfield 43, 3) := by decide +kernel
theorem dX6_advance_299 : decode cX6_advance 299 = .ok (.goto 21, 3) := by decide +kernel
theorem dX6_advance_302 : decode cX6_advance 302 = .ok (.aload_n 0, 1) := by decide +kernel
theorem dX6_advance_303 : decode cX6_advance 303 = .ok (.iload_n 2, 1) := by decide +kernel
theorem dX6_advance_304 : decode cX6_advance 304 = .ok (.ifCond .ne 12, 3) := by decide +kernel
theorem dX6_advance_307 : decode cX6_advance 307 = .ok (.iload_n 3, 1) := by decide +kernel
theorem dX6_advance_308 : decode cX6_advance 308 = .ok (.iconst 3, 1) := by decide +kernel
theorem dX6_advance_309 : decode cX6_advance 309 = .ok (.if_icmp .gt 7, 3) := by decide +kernel
theorem dX6_advance_312 : decode cX6_advance 312 = .ok (.iconst 2, 1) := by decide +kernel
theorem dX6_advance_313 : decode cX6_advance 313 = .ok (.goto 4, 3) := by decide +kernel
theorem dX6_advance_316 : decode cX6_advance 316 = .ok (.iconst 3, 1) := by decide +kernel
theorem dX6_advance_317 : decode cX6_advance 317 = .ok (.putfield 43, 3) := by decide +kernel
theorem dX6_advance_320 : decode cX6_advance 320 = .ok (.return_, 1) := by decide +kernel
theorem dX6_kindOfSign_0 : decode cX6_kindOfSign 0 = .ok (.iload_n 0, 1) := by decide +kernel
theorem dX6_kindOfSign_1 : decode cX6_kindOfSign 1 = .ok (.bipush 59, 2) := by decide +kernel
theorem dX6_kindOfSign_3 : decode cX6_kindOfSign 3 = .ok (.if_icmp .lt 9, 3) := by decide +kernel
theorem dX6_kindOfSign_6 : decode cX6_kindOfSign 6 = .ok (.iload_n 0, 1) := by decide +kernel
theorem dX6_kindOfSign_7 : decode cX6_kindOfSign 7 = .ok (.bipush 62, 2) := by decide +kernel
theorem dX6_kindOfSign_9 : decode cX6_kindOfSign 9 = .ok (.if_icmp .le 15, 3) := by decide +kernel
theorem dX6_kindOfSign_12 : decode cX6_kindOfSign 12 = .ok (.iload_n 0, 1) := by decide +kernel
theorem dX6_kindOfSign_13 : decode cX6_kindOfSign 13 = .ok (.bipush 40, 2) := by decide +kernel
theorem dX6_kindOfSign_15 : decode cX6_kindOfSign 15 = .ok (.if_icmp .eq 9, 3) := by decide +kernel
theorem dX6_kindOfSign_18 : decode cX6_kindOfSign 18 = .ok (.iload_n 0, 1) := by decide +kernel
theorem dX6_kindOfSign_19 : decode cX6_kindOfSign 19 = .ok (.bipush 41, 2) := by decide +kernel
theorem dX6_kindOfSign_21 : decode cX6_kindOfSign 21 = .ok (.if_icmp .ne 7, 3) := by decide +kernel
theorem dX6_kindOfSign_24 : decode cX6_kindOfSign 24 = .ok (.iload_n 0, 1) := by decide +kernel
theorem dX6_kindOfSign_25 : decode cX6_kindOfSign 25 = .ok (.goto 4, 3) := by decide +kernel
theorem dX6_kindOfSign_28 : decode cX6_kindOfSign 28 = .ok (.iconst 3, 1) := by decide +kernel
theorem dX6_kindOfSign_29 : decode cX6_kindOfSign 29 = .ok (.ireturn, 1) := by decide +kernel
theorem dX6_goesOn_0 : decode cX6_goesOn 0 = .ok (.aload_n 0, 1) := by decide +kernel
theorem dX6_goesOn_1 : decode cX6_goesOn 1 = .ok (.getfield 25, 3) := by decide +kernel
theorem dX6_goesOn_4 : decode cX6_goesOn 4 = .ok (.ifCond .ne 14, 3) := by decide +kernel
theorem dX6_goesOn_7 : decode cX6_goesOn 7 = .ok (.aload_n 0, 1) := by decide +kernel
theorem dX6_goesOn_8 : decode cX6_goesOn 8 = .ok (.getfield 43, 3) := by decide +kernel
theorem dX6_goesOn_11 : decode cX6_goesOn 11 = .ok (.ifCond .eq 7, 3) := by decide +kernel
theorem dX6_goesOn_14 : decode cX6_goesOn 14 = .ok (.iconst 1, 1) := by decide +kernel
theorem dX6_goesOn_15 : decode cX6_goesOn 15 = .ok (.goto 4, 3) := by decide +kernel
theorem dX6_goesOn_18 : decode cX6_goesOn 18 = .ok (.iconst 0, 1) := by decide +kernel
theorem dX6_goesOn_19 : decode cX6_goesOn 19 = .ok (.ireturn, 1) := by decide +kernel
theorem dX6_isAt_0 : decode cX6_isAt 0 = .ok (.aload_n 0, 1) := by decide +kernel
theorem dX6_isAt_1 : decode cX6_isAt 1 = .ok (.getfield 25, 3) := by decide +kernel
theorem dX6_isAt_4 : decode cX6_isAt 4 = .ok (.ifCond .ne 24, 3) := by decide +kernel
theorem dX6_isAt_7 : decode cX6_isAt 7 = .ok (.aload_n 0, 1) := by decide +kernel
theorem dX6_isAt_8 : decode cX6_isAt 8 = .ok (.getfield 43, 3) := by decide +kernel
theorem dX6_isAt_11 : decode cX6_isAt 11 = .ok (.iconst 1, 1) := by decide +kernel
theorem dX6_isAt_12 : decode cX6_isAt 12 = .ok (.if_icmp .ne 16, 3) := by decide +kernel
theorem dX6_isAt_15 : decode cX6_isAt 15 = .ok (.aload_n 0, 1) := by decide +kernel
theorem dX6_isAt_16 : decode cX6_isAt 16 = .ok (.getfield 46, 3) := by decide +kernel
theorem dX6_isAt_19 : decode cX6_isAt 19 = .ok (.lload_n 1, 1) := by decide +kernel
theorem dX6_isAt_20 : decode cX6_isAt 20 = .ok (.lcmp, 1) := by decide +kernel
theorem dX6_isAt_21 : decode cX6_isAt 21 = .ok (.ifCond .ne 7, 3) := by decide +kernel
theorem dX6_isAt_24 : decode cX6_isAt 24 = .ok (.iconst 1, 1) := by decide +kernel
theorem dX6_isAt_25 : decode cX6_isAt 25 = .ok (.goto 4, 3) := by decide +kernel
theorem dX6_isAt_28 : decode cX6_isAt 28 = .ok (.iconst 0, 1) := by decide +kernel
theorem dX6_isAt_29 : decode cX6_isAt 29 = .ok (.ireturn, 1) := by decide +kernel
theorem dX6_isAtName_0 : decode cX6_isAtName 0 = .ok (.aload_n 0, 1) := by decide +kernel
theorem dX6_isAtName_1 : decode cX6_isAtName 1 = .ok (.getfield 43, 3) := by decide +kernel
theorem dX6_isAtName_4 : decode cX6_isAtName 4 = .ok (.iconst 1, 1) := by decide +kernel
theorem dX6_isAtName_5 : decode cX6_isAtName 5 = .ok (.if_icmp .eq 5, 3) := by decide +kernel
theorem dX6_isAtName_8 : decode cX6_isAtName 8 = .ok (.iconst 0, 1) := by decide +kernel
theorem dX6_isAtName_9 : decode cX6_isAtName 9 = .ok (.ireturn, 1) := by decide +kernel
theorem dX6_isAtName_10 : decode cX6_isAtName 10 = .ok (.iconst 0, 1) := by decide +kernel
theorem dX6_isAtName_11 : decode cX6_isAtName 11 = .ok (.istore_n 1, 1) := by decide +kernel
theorem dX6_isAtName_12 : decode cX6_isAtName 12 = .ok (.iload_n 1, 1) := by decide +kernel
theorem dX6_isAtName_13 : decode cX6_isAtName 13 = .ok (.getstatic 57, 3) := by decide +kernel
theorem dX6_isAtName_16 : decode cX6_isAtName 16 = .ok (.arraylength, 1) := by decide +kernel
theorem dX6_isAtName_17 : decode cX6_isAtName 17 = .ok (.if_icmp .ge 24, 3) := by decide +kernel
theorem dX6_isAtName_20 : decode cX6_isAtName 20 = .ok (.getstatic 57, 3) := by decide +kernel
theorem dX6_isAtName_23 : decode cX6_isAtName 23 = .ok (.iload_n 1, 1) := by decide +kernel
theorem dX6_isAtName_24 : decode cX6_isAtName 24 = .ok (.laload, 1) := by decide +kernel
theorem dX6_isAtName_25 : decode cX6_isAtName 25 = .ok (.aload_n 0, 1) := by decide +kernel
theorem dX6_isAtName_26 : decode cX6_isAtName 26 = .ok (.getfield 46, 3) := by decide +kernel
theorem dX6_isAtName_29 : decode cX6_isAtName 29 = .ok (.lcmp, 1) := by decide +kernel
theorem dX6_isAtName_30 : decode cX6_isAtName 30 = .ok (.ifCond .ne 5, 3) := by decide +kernel
theorem dX6_isAtName_33 : decode cX6_isAtName 33 = .ok (.iconst 0, 1) := by decide +kernel
theorem dX6_isAtName_34 : decode cX6_isAtName 34 = .ok (.ireturn, 1) := by decide +kernel
theorem dX6_isAtName_35 : decode cX6_isAtName 35 = .ok (.iinc 1 1, 3) := by decide +kernel
theorem dX6_isAtName_38 : decode cX6_isAtName 38 = .ok (.goto (-26), 3) := by decide +kernel
theorem dX6_isAtName_41 : decode cX6_isAtName 41 = .ok (.iconst 1, 1) := by decide +kernel
theorem dX6_isAtName_42 : decode cX6_isAtName 42 = .ok (.ireturn, 1) := by decide +kernel
theorem dX6_fail_0 : decode cX6_fail 0 = .ok (.aload_n 0, 1) := by decide +kernel
theorem dX6_fail_1 : decode cX6_fail 1 = .ok (.getfield 25, 3) := by decide +kernel
theorem dX6_fail_4 : decode cX6_fail 4 = .ok (.ifCond .ne 16, 3) := by decide +kernel
theorem dX6_fail_7 : decode cX6_fail 7 = .ok (.aload_n 0, 1) := by decide +kernel
theorem dX6_fail_8 : decode cX6_fail 8 = .ok (.iload_n 1, 1) := by decide +kernel
theorem dX6_fail_9 : decode cX6_fail 9 = .ok (.putfield 25, 3) := by decide +kernel
theorem dX6_fail_12 : decode cX6_fail 12 = .ok (.aload_n 0, 1) := by decide +kernel
theorem dX6_fail_13 : decode cX6_fail 13 = .ok (.aload_n 0, 1) := by decide +kernel
theorem dX6_fail_14 : decode cX6_fail 14 = .ok (.getfield 34, 3) := by decide +kernel
theorem dX6_fail_17 : decode cX6_fail 17 = .ok (.putfield 28, 3) := by decide +kernel
theorem dX6_fail_20 : decode cX6_fail 20 = .ok (.return_, 1) := by decide +kernel
theorem dX6_takeSign_0 : decode cX6_takeSign 0 = .ok (.aload_n 0, 1) := by decide +kernel
theorem dX6_takeSign_1 : decode cX6_takeSign 1 = .ok (.getfield 43, 3) := by decide +kernel
theorem dX6_takeSign_4 : decode cX6_takeSign 4 = .ok (.iload_n 1, 1) := by decide +kernel
theorem dX6_takeSign_5 : decode cX6_takeSign 5 = .ok (.if_icmp .eq 8, 3) := by decide +kernel
theorem dX6_takeSign_8 : decode cX6_takeSign 8 = .ok (.aload_n 0, 1) := by decide +kernel
theorem dX6_takeSign_9 : decode cX6_takeSign 9 = .ok (.iconst 1, 1) := by decide +kernel
theorem dX6_takeSign_10 : decode cX6_takeSign 10 = .ok (.invokevirtual 61, 3) := by decide +kernel
theorem dX6_takeSign_13 : decode cX6_takeSign 13 = .ok (.aload_n 0, 1) := by decide +kernel
theorem dX6_takeSign_14 : decode cX6_takeSign 14 = .ok (.invokevirtual 31, 3) := by decide +kernel
theorem dX6_takeSign_17 : decode cX6_takeSign 17 = .ok (.return_, 1) := by decide +kernel
theorem dX6_takeNumber_0 : decode cX6_takeNumber 0 = .ok (.aload_n 0, 1) := by decide +kernel
theorem dX6_takeNumber_1 : decode cX6_takeNumber 1 = .ok (.getfield 43, 3) := by decide +kernel
theorem dX6_takeNumber_4 : decode cX6_takeNumber 4 = .ok (.iconst 2, 1) := by decide +kernel
theorem dX6_takeNumber_5 : decode cX6_takeNumber 5 = .ok (.if_icmp .eq 11, 3) := by decide +kernel
theorem dX6_takeNumber_8 : decode cX6_takeNumber 8 = .ok (.aload_n 0, 1) := by decide +kernel
theorem dX6_takeNumber_9 : decode cX6_takeNumber 9 = .ok (.iconst 1, 1) := by decide +kernel
theorem dX6_takeNumber_10 : decode cX6_takeNumber 10 = .ok (.invokevirtual 61, 3) := by decide +kernel
theorem dX6_takeNumber_13 : decode cX6_takeNumber 13 = .ok (.goto 24, 3) := by decide +kernel
theorem dX6_takeNumber_16 : decode cX6_takeNumber 16 = .ok (.aload_n 0, 1) := by decide +kernel
theorem dX6_takeNumber_17 : decode cX6_takeNumber 17 = .ok (.getfield 50, 3) := by decide +kernel
theorem dX6_takeNumber_20 : decode cX6_takeNumber 20 = .ok (.iload_n 1, 1) := by decide +kernel
theorem dX6_takeNumber_21 : decode cX6_takeNumber 21 = .ok (.if_icmp .lt 11, 3) := by decide +kernel
theorem dX6_takeNumber_24 : decode cX6_takeNumber 24 = .ok (.aload_n 0, 1) := by decide +kernel
theorem dX6_takeNumber_25 : decode cX6_takeNumber 25 = .ok (.getfield 50, 3) := by decide +kernel
theorem dX6_takeNumber_28 : decode cX6_takeNumber 28 = .ok (.iload_n 2, 1) := by decide +kernel
theorem dX6_takeNumber_29 : decode cX6_takeNumber 29 = .ok (.if_icmp .le 8, 3) := by decide +kernel
theorem dX6_takeNumber_32 : decode cX6_takeNumber 32 = .ok (.aload_n 0, 1) := by decide +kernel
theorem dX6_takeNumber_33 : decode cX6_takeNumber 33 = .ok (.iconst 2, 1) := by decide +kernel
theorem dX6_takeNumber_34 : decode cX6_takeNumber 34 = .ok (.invokevirtual 61, 3) := by decide +kernel
theorem dX6_takeNumber_37 : decode cX6_takeNumber 37 = .ok (.aload_n 0, 1) := by decide +kernel
theorem dX6_takeNumber_38 : decode cX6_takeNumber 38 = .ok (.getfield 25, 3) := by decide +kernel
theorem dX6_takeNumber_41 : decode cX6_takeNumber 41 = .ok (.ifCond .ne 10, 3) := by decide +kernel
theorem dX6_takeNumber_44 : decode cX6_takeNumber 44 = .ok (.aload_n 0, 1) := by decide +kernel
theorem dX6_takeNumber_45 : decode cX6_takeNumber 45 = .ok (.getfield 50, 3) := by decide +kernel
theorem dX6_takeNumber_48 : decode cX6_takeNumber 48 = .ok (.goto 4, 3) := by decide +kernel
theorem dX6_takeNumber_51 : decode cX6_takeNumber 51 = .ok (.iload_n 1, 1) := by decide +kernel
theorem dX6_takeNumber_52 : decode cX6_takeNumber 52 = .ok (.istore_n 3, 1) := by decide +kernel
theorem dX6_takeNumber_53 : decode cX6_takeNumber 53 = .ok (.aload_n 0, 1) := by decide +kernel
theorem dX6_takeNumber_54 : decode cX6_takeNumber 54 = .ok (.invokevirtual 31, 3) := by decide +kernel
theorem dX6_takeNumber_57 : decode cX6_takeNumber 57 = .ok (.iload_n 3, 1) := by decide +kernel
theorem dX6_takeNumber_58 : decode cX6_takeNumber 58 = .ok (.ireturn, 1) := by decide +kernel
theorem flX3_7 : FL RX3 7 3 0 := ⟨RX3, TX3, 4, tyX3, cd_3, by decide, Or.inl (inr_16 _ (List.mem_of_getElem? (i := 0) rfl))⟩
theorem flX3_13 : FL RX3 13 3 1 := ⟨RX3, TX3, 4, tyX3, cd_3, by decide, Or.inl (inr_16 _ (List.mem_of_getElem? (i := 1) rfl))⟩
theorem flX3_17 : FL RX3 17 3 2 := ⟨RX3, TX3, 4, tyX3, cd_3, by decide, Or.inl (inr_16 _ (List.mem_of_getElem? (i := 2) rfl))⟩
theorem flX3_20 : FL RX3 20 3 3 := ⟨RX3, TX3, 4, tyX3, cd_3, by decide, Or.inl (inr_16 _ (List.mem_of_getElem? (i := 3) rfl))⟩
theorem flX6_9 : FL RX6 9 6 0 := ⟨RX6, TX6, 10, tyX6, cd_6, by decide, Or.inl (inr_3 _ (List.mem_of_getElem? (i := 9) rfl))⟩
theorem flX6_15 : FL RX6 15 6 1 := ⟨RX6, TX6, 10, tyX6, cd_6, by decide, Or.inl (inr_8 _ (List.mem_of_getElem? (i := 18) rfl))⟩
theorem flX6_19 : FL RX6 19 6 2 := ⟨RX6, TX6, 10, tyX6, cd_6, by decide, Or.inl (inr_10 _ (List.mem_of_getElem? (i := 11) rfl))⟩
theorem flX6_22 : FL RX6 22 6 4 := ⟨RX6, TX6, 10, tyX6, cd_6, by decide, Or.inl (inr_10 _ (List.mem_of_getElem? (i := 12) rfl))⟩
theorem flX6_25 : FL RX6 25 6 8 := ⟨RX6, TX6, 10, tyX6, cd_6, by decide, Or.inl (inr_10 _ (List.mem_of_getElem? (i := 13) rfl))⟩
theorem flX6_34 : FL RX6 34 6 3 := ⟨RX6, TX6, 10, tyX6, cd_6, by decide, Or.inl (inr_10 _ (List.mem_of_getElem? (i := 19) rfl))⟩
theorem flX6_43 : FL RX6 43 6 5 := ⟨RX6, TX6, 10, tyX6, cd_6, by decide, Or.inl (inr_11 _ (List.mem_of_getElem? (i := 0) rfl))⟩
theorem flX6_46 : FL RX6 46 6 6 := ⟨RX6, TX6, 10, tyX6, cd_6, by decide, Or.inl (inr_11 _ (List.mem_of_getElem? (i := 1) rfl))⟩
theorem flX6_50 : FL RX6 50 6 7 := ⟨RX6, TX6, 10, tyX6, cd_6, by decide, Or.inl (inr_11 _ (List.mem_of_getElem? (i := 2) rfl))⟩
theorem fpX3_7 : FP RX3 7 3 0 .long := ⟨RX3, TX3, 4, tyX3, cd_3, by decide, (inr_16 _ (List.mem_of_getElem? (i := 0) rfl)), rfl, by decide +kernel⟩
theorem fpX3_13 : FP RX3 13 3 1 .int := ⟨RX3, TX3, 4, tyX3, cd_3, by decide, (inr_16 _ (List.mem_of_getElem? (i := 1) rfl)), rfl, by decide +kernel⟩
theorem fpX3_17 : FP RX3 17 3 2 .int := ⟨RX3, TX3, 4, tyX3, cd_3, by decide, (inr_16 _ (List.mem_of_getElem? (i := 2) rfl)), rfl, by decide +kernel⟩
theorem fpX3_20 : FP RX3 20 3 3 .int := ⟨RX3, TX3, 4, tyX3, cd_3, by decide, (inr_16 _ (List.mem_of_getElem? (i := 3) rfl)), rfl, by decide +kernel⟩
theorem fpX6_15 : FP RX6 15 6 1 .int := ⟨RX6, TX6, 10, tyX6, cd_6, by decide, (inr_8 _ (List.mem_of_getElem? (i := 18) rfl)), rfl, by decide +kernel⟩
theorem fpX6_19 : FP RX6 19 6 2 .int := ⟨RX6, TX6, 10, tyX6, cd_6, by decide, (inr_10 _ (List.mem_of_getElem? (i := 11) rfl)), rfl, by decide +kernel⟩
theorem fpX6_22 : FP RX6 22 6 4 .int := ⟨RX6, TX6, 10, tyX6, cd_6, by decide, (inr_10 _ (List.mem_of_getElem? (i := 12) rfl)), rfl, by decide +kernel⟩
theorem fpX6_25 : FP RX6 25 6 8 .int := ⟨RX6, TX6, 10, tyX6, cd_6, by decide, (inr_10 _ (List.mem_of_getElem? (i := 13) rfl)), rfl, by decide +kernel⟩
theorem fpX6_28 : FP RX6 28 6 9 .int := ⟨RX6, TX6, 10, tyX6, cd_6, by decide, (inr_10 _ (List.mem_of_getElem? (i := 14) rfl)), rfl, by decide +kernel⟩
theorem fpX6_34 : FP RX6 34 6 3 .int := ⟨RX6, TX6, 10, tyX6, cd_6, by decide, (inr_10 _ (List.mem_of_getElem? (i := 19) rfl)), rfl, by decide +kernel⟩
theorem fpX6_43 : FP RX6 43 6 5 .int := ⟨RX6, TX6, 10, tyX6, cd_6, by decide, (inr_11 _ (List.mem_of_getElem? (i := 0) rfl)), rfl, by decide +kernel⟩
theorem fpX6_46 : FP RX6 46 6 6 .long := ⟨RX6, TX6, 10, tyX6, cd_6, by decide, (inr_11 _ (List.mem_of_getElem? (i := 1) rfl)), rfl, by decide +kernel⟩
theorem fpX6_50 : FP RX6 50 6 7 .int := ⟨RX6, TX6, 10, tyX6, cd_6, by decide, (inr_11 _ (List.mem_of_getElem? (i := 2) rfl)), rfl, by decide +kernel⟩
theorem mlX6_31 : MLv RX6 31 RX6 6 yX6_advance cX6_advance 5 none 0 := ⟨(inr_10 _ (List.mem_of_getElem? (i := 18) rfl)), (inr_10 _ (List.mem_of_getElem? (i := 15) rfl)), (inr_10 _ (List.mem_of_getElem? (i := 16) rfl)), (inr_10 _ (List.mem_of_getElem? (i := 17) rfl)), (inr_1 _ (List.mem_of_getElem? (i := 15) rfl)), rfl, ⟨by decide, by decide, by decide +kernel⟩, by decide, by decide, rfl⟩
theorem mlX6_53 : MLs RX6 53 yX6_kindOfSign cX6_kindOfSign 1 (some .int) 1 := ⟨(inr_11 _ (List.mem_of_getElem? (i := 5) rfl)), (inr_11 _ (List.mem_of_getElem? (i := 3) rfl)), (inr_11 _ (List.mem_of_getElem? (i := 4) rfl)), (inr_1 _ (List.mem_of_getElem? (i := 15) rfl)), ⟨by decide, by decide, by decide +kernel⟩, by decide⟩
theorem mlX6_61 : MLv RX6 61 RX6 6 yX6_fail cX6_fail 2 none 1 := ⟨(inr_12 _ (List.mem_of_getElem? (i := 5) rfl)), (inr_13 _ (List.mem_of_getElem? (i := 5) rfl)), (inr_12 _ (List.mem_of_getElem? (i := 3) rfl)), (inr_12 _ (List.mem_of_getElem? (i := 4) rfl)), (inr_1 _ (List.mem_of_getElem? (i := 15) rfl)), rfl, ⟨by decide, by decide, by decide +kernel⟩, by decide, by decide, rfl⟩
def fX3_copyFrom_s24 (a0 : Nat) (a1 : Nat)   (S : St) : St :=
  (sI S 3 3 a0 (gI S 3 3 a1))
def fX3_copyFrom_s16 (a0 : Nat) (a1 : Nat)   (S : St) : St :=
  fX3_copyFrom_s24 a0 a1 (sI S 3 2 a0 (gI S 3 2 a1))
def fX3_copyFrom_s8 (a0 : Nat) (a1 : Nat)   (S : St) : St :=
  fX3_copyFrom_s16 a0 a1 (sI S 3 1 a0 (gI S 3 1 a1))
def fX3_copyFrom (a0 : Nat) (a1 : Nat) (S : St) : St :=
  fX3_copyFrom_s8 a0 a1 (sJ S 3 0 a0 (gJ S 3 0 a1))
theorem wX3_copyFrom_s24 {z : Mx} {ad : Nat → Nat} {o : Option Value × St} (X : CxOk z ad RX3 cX3_copyFrom 2 none 1) (a0 : Nat) (a1 : Nat) (h0 : KT a0 = 3) (h1 : KT a1 = 3)     (S : St) (r : St) (ho : o = (none, r)) (hF : fX3_copyFrom_s24 a0 a1   S = r) : GW z ad o S 24 [(0, .ref (ad a0)), (1, .ref (ad a1))] [] := by
  unfold fX3_copyFrom_s24 at hF
  refine g_aload_n X dX3_copyFrom_24 0 rfl rfl ?_
  refine g_aload_n X dX3_copyFrom_25 1 rfl rfl ?_
  refine g_getI X dX3_copyFrom_26 flX3_20 rfl h1 ?_
  refine g_putI X dX3_copyFrom_29 fpX3_20 rfl rfl rfl h0 ?_
  subst hF
  exact g_vret X dX3_copyFrom_32 ho
theorem wX3_copyFrom_s16 {z : Mx} {ad : Nat → Nat} {o : Option Value × St} (X : CxOk z ad RX3 cX3_copyFrom 2 none 1) (a0 : Nat) (a1 : Nat) (h0 : KT a0 = 3) (h1 : KT a1 = 3)     (S : St) (r : St) (ho : o = (none, r)) (hF : fX3_copyFrom_s16 a0 a1   S = r) : GW z ad o S 16 [(0, .ref (ad a0)), (1, .ref (ad a1))] [] := by
  unfold fX3_copyFrom_s16 at hF
  refine g_aload_n X dX3_copyFrom_16 0 rfl rfl ?_
  refine g_aload_n X dX3_copyFrom_17 1 rfl rfl ?_
  refine g_getI X dX3_copyFrom_18 flX3_17 rfl h1 ?_
  refine g_putI X dX3_copyFrom_21 fpX3_17 rfl rfl rfl h0 ?_
  exact (wX3_copyFrom_s24 X a0 a1 h0 h1 (sI S 3 2 a0 (gI S 3 2 a1)) r ho hF)
theorem wX3_copyFrom_s8 {z : Mx} {ad : Nat → Nat} {o : Option Value × St} (X : CxOk z ad RX3 cX3_copyFrom 2 none 1) (a0 : Nat) (a1 : Nat) (h0 : KT a0 = 3) (h1 : KT a1 = 3)     (S : St) (r : St) (ho : o = (none, r)) (hF : fX3_copyFrom_s8 a0 a1   S = r) : GW z ad o S 8 [(0, .ref (ad a0)), (1, .ref (ad a1))] [] := by
  unfold fX3_copyFrom_s8 at hF
  refine g_aload_n X dX3_copyFrom_8 0 rfl rfl ?_
  refine g_aload_n X dX3_copyFrom_9 1 rfl rfl ?_
  refine g_getI X dX3_copyFrom_10 flX3_13 rfl h1 ?_
  refine g_putI X dX3_copyFrom_13 fpX3_13 rfl rfl rfl h0 ?_
  exact (wX3_copyFrom_s16 X a0 a1 h0 h1 (sI S 3 1 a0 (gI S 3 1 a1)) r ho hF)
theorem wX3_copyFrom {z : Mx} {ad : Nat → Nat} {o : Option Value × St} (X : CxOk z ad RX3 cX3_copyFrom 2 none 1) (a0 : Nat) (a1 : Nat) (h0 : KT a0 = 3) (h1 : KT a1 = 3) (S : St) (r : St) (ho : o = (none, r)) (hF : fX3_copyFrom a0 a1 S = r) : GW z ad o S 0 [(0, .ref (ad a0)), (1, .ref (ad a1))] [] := by
  unfold fX3_copyFrom at hF
  refine g_aload_n X dX3_copyFrom_0 0 rfl rfl ?_
  refine g_aload_n X dX3_copyFrom_1 1 rfl rfl ?_
  refine g_getJ X dX3_copyFrom_2 flX3_7 rfl h1 ?_
  refine g_putJ X dX3_copyFrom_5 fpX3_7 rfl h0 ?_
  exact (wX3_copyFrom_s8 X a0 a1 h0 h1 (sJ S 3 0 a0 (gJ S 3 0 a1)) r ho hF)
theorem tX3_copyFrom {ad : Nat → Nat} (hI : Inj ad) (l : Launch) (D : va_G) (cyy : Nat → ClassId) (a0 : Nat) (a1 : Nat) (h0 : KT a0 = 3) (h1 : KT a1 = 3) (S : St) : OkM l yX3_copyFrom cX3_copyFrom 2 none 1 ad D cyy [.ref (ad a0), .ref (ad a1)] S (none, fX3_copyFrom a0 a1 S) := okM_of hI (by decide) (inr_15 _ (List.mem_of_getElem? (i := 23) rfl)) (by show _ ≤ 2; exact Nat.le_of_ble_eq_true rfl) (fun z X => wX3_copyFrom X a0 a1 h0 h1 S _ rfl rfl)
def fX6_kindOfSign_s12 (x0 : Int32)   (S : St) : Int32 :=
  if x0 = (40 : Int32) then (x0) else
  (if x0 = (41 : Int32) then (x0) else
  ((3 : Int32)))
def fX6_kindOfSign (x0 : Int32) (S : St) : Int32 :=
  if x0 < (59 : Int32) then (fX6_kindOfSign_s12 x0 S) else
  (if x0 ≤ (62 : Int32) then (x0) else
  (fX6_kindOfSign_s12 x0 S))
theorem wX6_kindOfSign_s12 {z : Mx} {ad : Nat → Nat} {o : Option Value × St} (X : CxOk z ad RX6 cX6_kindOfSign 1 (some .int) 1) (x0 : Int32)      (S : St) (r : Int32) (ho : o = (some (.int r), S)) (hF : fX6_kindOfSign_s12 x0   S = r) : GW z ad o S 12 [(0, .int x0)] [] := by
  unfold fX6_kindOfSign_s12 at hF
  refine g_iload_n X dX6_kindOfSign_12 0 rfl rfl ?_
  refine g_bipush (v := 40) X dX6_kindOfSign_13 (by decide) ?_
  refine g_icmp_eq (tgt := 24) X dX6_kindOfSign_15 (by decide) (fun c_2 => ?_) (fun c_2 => ?_)
  · rw [if_pos c_2] at hF
    refine g_iload_n X dX6_kindOfSign_24 0 rfl rfl ?_
    refine g_goto (tgt := 29) X dX6_kindOfSign_25 (by decide) ?_
    subst hF
    exact g_iret X dX6_kindOfSign_29 ho
  · rw [if_neg c_2] at hF
    refine g_iload_n X dX6_kindOfSign_18 0 rfl rfl ?_
    refine g_bipush (v := 41) X dX6_kindOfSign_19 (by decide) ?_
    refine g_icmp_ne (tgt := 28) X dX6_kindOfSign_21 (by decide) (fun c_3 => ?_) (fun c_3 => ?_)
    · rw [if_neg c_3] at hF
      refine g_iconst (v := 3) X dX6_kindOfSign_28 (by decide) ?_
      subst hF
      exact g_iret X dX6_kindOfSign_29 ho
    · rw [if_pos c_3] at hF
      refine g_iload_n X dX6_kindOfSign_24 0 rfl rfl ?_
      refine g_goto (tgt := 29) X dX6_kindOfSign_25 (by decide) ?_
      subst hF
      exact g_iret X dX6_kindOfSign_29 ho
theorem wX6_kindOfSign {z : Mx} {ad : Nat → Nat} {o : Option Value × St} (X : CxOk z ad RX6 cX6_kindOfSign 1 (some .int) 1) (x0 : Int32)  (S : St) (r : Int32) (ho : o = (some (.int r), S)) (hF : fX6_kindOfSign x0 S = r) : GW z ad o S 0 [(0, .int x0)] [] := by
  unfold fX6_kindOfSign at hF
  refine g_iload_n X dX6_kindOfSign_0 0 rfl rfl ?_
  refine g_bipush (v := 59) X dX6_kindOfSign_1 (by decide) ?_
  refine g_icmp_lt (tgt := 12) X dX6_kindOfSign_3 (by decide) (fun c_1 => ?_) (fun c_1 => ?_)
  · rw [if_pos c_1] at hF
    exact (wX6_kindOfSign_s12 X x0 S r ho hF)
  · rw [if_neg c_1] at hF
    refine g_iload_n X dX6_kindOfSign_6 0 rfl rfl ?_
    refine g_bipush (v := 62) X dX6_kindOfSign_7 (by decide) ?_
    refine g_icmp_le (tgt := 24) X dX6_kindOfSign_9 (by decide) (fun c_4 => ?_) (fun c_4 => ?_)
    · rw [if_pos c_4] at hF
      refine g_iload_n X dX6_kindOfSign_24 0 rfl rfl ?_
      refine g_goto (tgt := 29) X dX6_kindOfSign_25 (by decide) ?_
      subst hF
      exact g_iret X dX6_kindOfSign_29 ho
    · rw [if_neg c_4] at hF
      exact (wX6_kindOfSign_s12 X x0 S r ho hF)
theorem tX6_kindOfSign {ad : Nat → Nat} (hI : Inj ad) (l : Launch) (D : va_G) (cyy : Nat → ClassId) (x0 : Int32)  (S : St) : OkM l yX6_kindOfSign cX6_kindOfSign 1 (some .int) 1 ad D cyy [.int x0] S (some (.int (fX6_kindOfSign x0 S)), S) := okM_of hI (by decide) (inr_11 _ (List.mem_of_getElem? (i := 5) rfl)) (by show _ ≤ 1; exact Nat.le_of_ble_eq_true rfl) (fun z X => wX6_kindOfSign X x0  S _ rfl rfl)
def fX6_advance_s299 (a0 : Nat)   (S : St) : Option St :=
  some S
def fX6_advance_s277 (a0 : Nat)   (S : St) : Option St :=
  some S
def fX6_advance_s267 (a0 : Nat)   (S : St) : Option St :=
  fX6_advance_s277 a0 (sI S 6 4 a0 ((gI S 6 3 a0) + (1 : Int32)))
def fX6_advance_s245 (a0 : Nat) (y2 : Int32) (y3 : Int32)  (S : St) : Option St :=
  if (y2 + y3) = 0 then (if ((gI S 6 3 a0) < 0 ∨ 940 ≤ (gI S 6 3 a0).toNatClampNeg) then none else
  fX6_advance_s267 a0 (sI S 6 5 a0 (fX6_kindOfSign (gA S 12 (a0 + 1) ((gI S 6 3 a0).toNatClampNeg)) S))) else
  (if y3 = 0 then (if (7 : Int32) < y2 then (fX6_advance_s299 a0 (sI S 6 5 a0 (3 : Int32))) else
  (fX6_advance_s299 a0 (sI S 6 5 a0 (1 : Int32)))) else
  (if y2 = 0 then (if (3 : Int32) < y3 then (some (sI S 6 5 a0 (3 : Int32))) else
  (some (sI S 6 5 a0 (2 : Int32)))) else
  (some (sI S 6 5 a0 (3 : Int32)))))
def fX6_advance_s242 (k141 : Int32 → Int32 → St → Option St) (a0 : Nat) (y2 : Int32) (y3 : Int32)  (S : St) : Option St :=
  k141 y2 y3 S
def fX6_advance_s232 (k141 : Int32 → Int32 → St → Option St) (a0 : Nat) (y2 : Int32) (y3 : Int32)  (S : St) : Option St :=
  fX6_advance_s242 k141 a0 y2 y3 (sI S 6 4 a0 ((gI S 6 4 a0) + (1 : Int32)))
def fX6_advance_s215 (k141 : Int32 → Int32 → St → Option St) (a0 : Nat) (y2 : Int32) (y3 : Int32) (y4 : Int32)  (S : St) : Option St :=
  fX6_advance_s232 k141 a0 y2 y3 (sI S 6 7 a0 ((((gI S 6 7 a0) * (10 : Int32)) + y4) - (48 : Int32)))
def fX6_advance_s200 (k141 : Int32 → Int32 → St → Option St) (a0 : Nat) (y2 : Int32) (y3 : Int32) (y4 : Int32)  (S : St) : Option St :=
  fX6_advance_s215 k141 a0 y2 y3 y4 (sJ S 6 6 a0 (((gJ S 6 6 a0) <<< ((8 : Int32).toInt64 &&& 63)) ||| y4.toInt64))
def fX6_advance_s183 (k141 : Int32 → Int32 → St → Option St) (a0 : Nat) (y2 : Int32) (y3 : Int32) (y4 : Int32)  (S : St) : Option St :=
  if y4 < (48 : Int32) then (fX6_advance_s245 a0 y2 y3 S) else
  (if (57 : Int32) < y4 then (fX6_advance_s245 a0 y2 y3 S) else
  (fX6_advance_s200 k141 a0 y2 (y3 + (1 : Int32)) y4 S))
def fX6_advance_s163 (k141 : Int32 → Int32 → St → Option St) (a0 : Nat) (y2 : Int32) (y3 : Int32) (y4 : Int32)  (S : St) : Option St :=
  if y4 < (97 : Int32) then (fX6_advance_s183 k141 a0 y2 y3 y4 S) else
  (if (122 : Int32) < y4 then (fX6_advance_s183 k141 a0 y2 y3 y4 S) else
  (fX6_advance_s200 k141 a0 (y2 + (1 : Int32)) y3 y4 S))
def fX6_advance_s141 (k141 : Int32 → Int32 → St → Option St) (a0 : Nat) (y2 : Int32) (y3 : Int32)  (S : St) : Option St :=
  if (gI S 6 1 a0) ≤ (gI S 6 4 a0) then (fX6_advance_s245 a0 y2 y3 S) else
  (if ((gI S 6 4 a0) < 0 ∨ 940 ≤ (gI S 6 4 a0).toNatClampNeg) then none else
  fX6_advance_s163 k141 a0 y2 y3 (gA S 12 (a0 + 1) ((gI S 6 4 a0).toNatClampNeg)) S)
def fX6_advance_h141 (a0 : Nat) : Nat → Int32 → Int32 → St → Option St
  | 0, _, _, _ => none
  | n + 1, y2, y3, S => fX6_advance_s141 (fX6_advance_h141 a0 n) a0 y2 y3 S
def fX6_advance_s133 (a0 : Nat) (y2 : Int32) (y3 : Int32)  (S : St) : Option St :=
  fX6_advance_h141 a0 NN y2 y3 (sI S 6 4 a0 (gI S 6 3 a0))
def fX6_advance_s128 (a0 : Nat) (y2 : Int32) (y3 : Int32)  (S : St) : Option St :=
  fX6_advance_s133 a0 y2 y3 (sI S 6 7 a0 (0 : Int32))
def fX6_advance_s98 (a0 : Nat)   (S : St) : Option St :=
  if (gI S 6 1 a0) ≤ (gI S 6 2 a0) then (some (sI S 6 5 a0 (0 : Int32))) else
  (some (sI S 6 5 a0 (3 : Int32)))
def fX6_advance_s93 (a0 : Nat) (y1 : Int32)  (S : St) : Option St :=
  fX6_advance_s98 a0 (sI S 6 4 a0 y1)
def fX6_advance_s80 (a0 : Nat) (y1 : Int32)  (S : St) : Option St :=
  if (gI S 6 3 a0) < y1 then (fX6_advance_s128 a0 (0 : Int32) (0 : Int32) (sJ S 6 6 a0 (0 : Int64))) else
  (fX6_advance_s93 a0 y1 (sI S 6 3 a0 y1))
def fX6_advance_s68 (a0 : Nat)   (S : St) : Option St :=
  fX6_advance_s80 a0 (if (gI S 6 2 a0) < (gI S 6 1 a0) then (gI S 6 2 a0) else (gI S 6 1 a0)) S
def fX6_advance_s65 (k16 : St → Option St) (a0 : Nat)   (S : St) : Option St :=
  k16  S
def fX6_advance_s55 (k16 : St → Option St) (a0 : Nat)   (S : St) : Option St :=
  fX6_advance_s65 k16 a0 (sI S 6 3 a0 ((gI S 6 3 a0) + (1 : Int32)))
def fX6_advance_s16 (k16 : St → Option St) (a0 : Nat)   (S : St) : Option St :=
  if (gI S 6 1 a0) ≤ (gI S 6 3 a0) then (fX6_advance_s68 a0 S) else
  (if ((gI S 6 3 a0) < 0 ∨ 940 ≤ (gI S 6 3 a0).toNatClampNeg) then none else
  if (gA S 12 (a0 + 1) ((gI S 6 3 a0).toNatClampNeg)) = (32 : Int32) then (fX6_advance_s55 k16 a0 S) else
  (if ((gI S 6 3 a0) < 0 ∨ 940 ≤ (gI S 6 3 a0).toNatClampNeg) then none else
  if (gA S 12 (a0 + 1) ((gI S 6 3 a0).toNatClampNeg)) = (10 : Int32) then (fX6_advance_s55 k16 a0 S) else
  (fX6_advance_s68 a0 S)))
def fX6_advance_h16 (a0 : Nat) : Nat → St → Option St
  | 0, _ => none
  | n + 1, S => fX6_advance_s16 (fX6_advance_h16 a0 n) a0  S
def fX6_advance (a0 : Nat) (S : St) : Option St :=
  if (gI S 6 8 a0) = 0 then (fX6_advance_h16 a0 NN (sI S 6 3 a0 (gI S 6 4 a0))) else
  (some S)
theorem wX6_advance_s299 {z : Mx} {ad : Nat → Nat} {o : Option Value × St} (X : CxOk z ad RX6 cX6_advance 5 none 2) (a0 : Nat) (h0 : KT a0 = 6)     (S : St) (r : St) (ho : o = (none, r)) (hF : fX6_advance_s299 a0   S = some r) : GW z ad o S 299 [] [] := by
  unfold fX6_advance_s299 at hF
  refine g_goto (tgt := 320) X dX6_advance_299 (by decide) ?_
  have hF := Option.some.inj hF
  subst hF
  exact g_vret X dX6_advance_320 ho
theorem wX6_advance_s277 {z : Mx} {ad : Nat → Nat} {o : Option Value × St} (X : CxOk z ad RX6 cX6_advance 5 none 2) (a0 : Nat) (h0 : KT a0 = 6)     (S : St) (r : St) (ho : o = (none, r)) (hF : fX6_advance_s277 a0   S = some r) : GW z ad o S 277 [] [] := by
  unfold fX6_advance_s277 at hF
  refine g_goto (tgt := 320) X dX6_advance_277 (by decide) ?_
  have hF := Option.some.inj hF
  subst hF
  exact g_vret X dX6_advance_320 ho
theorem wX6_advance_s267 {z : Mx} {ad : Nat → Nat} {o : Option Value × St} (X : CxOk z ad RX6 cX6_advance 5 none 2) (a0 : Nat) (h0 : KT a0 = 6)     (S : St) (r : St) (ho : o = (none, r)) (hF : fX6_advance_s267 a0   S = some r) : GW z ad o S 267 [(0, .ref (ad a0))] [] := by
  unfold fX6_advance_s267 at hF
  refine g_aload_n X dX6_advance_267 0 rfl rfl ?_
  refine g_aload_n X dX6_advance_268 0 rfl rfl ?_
  refine g_getI X dX6_advance_269 flX6_34 rfl h0 ?_
  refine g_iconst (v := 1) X dX6_advance_272 (by decide) ?_
  refine g_iadd X dX6_advance_273 ?_
  refine g_putI X dX6_advance_274 fpX6_22 rfl rfl rfl h0 ?_
  exact g_perm [] rfl (wX6_advance_s277 X a0 h0 (sI S 6 4 a0 ((gI S 6 3 a0) + (1 : Int32))) r ho hF)
theorem wX6_advance_s245 {z : Mx} {ad : Nat → Nat} {o : Option Value × St} (X : CxOk z ad RX6 cX6_advance 5 none 2) (a0 : Nat) (h0 : KT a0 = 6) (y2 : Int32) (y3 : Int32)    (S : St) (r : St) (ho : o = (none, r)) (hF : fX6_advance_s245 a0 y2 y3  S = some r) : GW z ad o S 245 [(0, .ref (ad a0)), (2, .int y2), (3, .int y3)] [] := by
  unfold fX6_advance_s245 at hF
  refine g_iload_n X dX6_advance_245 1 rfl rfl ?_
  refine g_iload_n X dX6_advance_246 2 rfl rfl ?_
  refine g_iadd X dX6_advance_247 ?_
  refine g_if_ne (tgt := 280) X dX6_advance_248 (by decide) (fun c_5 => ?_) (fun c_5 => ?_)
  · rw [if_neg c_5] at hF
    refine g_iload_n X dX6_advance_280 2 rfl rfl ?_
    refine g_if_ne (tgt := 302) X dX6_advance_281 (by decide) (fun c_6 => ?_) (fun c_6 => ?_)
    · rw [if_neg c_6] at hF
      refine g_aload_n X dX6_advance_302 0 rfl rfl ?_
      refine g_iload_n X dX6_advance_303 1 rfl rfl ?_
      refine g_if_ne (tgt := 316) X dX6_advance_304 (by decide) (fun c_7 => ?_) (fun c_7 => ?_)
      · rw [if_neg c_7] at hF
        refine g_iconst (v := 3) X dX6_advance_316 (by decide) ?_
        refine g_putI X dX6_advance_317 fpX6_43 rfl rfl rfl h0 ?_
        have hF := Option.some.inj hF
        subst hF
        exact g_vret X dX6_advance_320 ho
      · rw [if_pos c_7] at hF
        refine g_iload_n X dX6_advance_307 2 rfl rfl ?_
        refine g_iconst (v := 3) X dX6_advance_308 (by decide) ?_
        refine g_icmp_gt (tgt := 316) X dX6_advance_309 (by decide) (fun c_8 => ?_) (fun c_8 => ?_)
        · rw [if_pos c_8] at hF
          refine g_iconst (v := 3) X dX6_advance_316 (by decide) ?_
          refine g_putI X dX6_advance_317 fpX6_43 rfl rfl rfl h0 ?_
          have hF := Option.some.inj hF
          subst hF
          exact g_vret X dX6_advance_320 ho
        · rw [if_neg c_8] at hF
          refine g_iconst (v := 2) X dX6_advance_312 (by decide) ?_
          refine g_goto (tgt := 317) X dX6_advance_313 (by decide) ?_
          refine g_putI X dX6_advance_317 fpX6_43 rfl rfl rfl h0 ?_
          have hF := Option.some.inj hF
          subst hF
          exact g_vret X dX6_advance_320 ho
    · rw [if_pos c_6] at hF
      refine g_aload_n X dX6_advance_284 0 rfl rfl ?_
      refine g_iload_n X dX6_advance_285 1 rfl rfl ?_
      refine g_bipush (v := 7) X dX6_advance_286 (by decide) ?_
      refine g_icmp_gt (tgt := 295) X dX6_advance_288 (by decide) (fun c_9 => ?_) (fun c_9 => ?_)
      · rw [if_pos c_9] at hF
        refine g_iconst (v := 3) X dX6_advance_295 (by decide) ?_
        refine g_putI X dX6_advance_296 fpX6_43 rfl rfl rfl h0 ?_
        exact g_perm [] rfl (wX6_advance_s299 X a0 h0 (sI S 6 5 a0 (3 : Int32)) r ho hF)
      · rw [if_neg c_9] at hF
        refine g_iconst (v := 1) X dX6_advance_291 (by decide) ?_
        refine g_goto (tgt := 296) X dX6_advance_292 (by decide) ?_
        refine g_putI X dX6_advance_296 fpX6_43 rfl rfl rfl h0 ?_
        exact g_perm [] rfl (wX6_advance_s299 X a0 h0 (sI S 6 5 a0 (1 : Int32)) r ho hF)
  · rw [if_pos c_5] at hF
    refine g_aload_n X dX6_advance_251 0 rfl rfl ?_
    refine g_aload_n X dX6_advance_252 0 rfl rfl ?_
    refine g_getR (f := 1) X dX6_advance_253 flX6_9 rfl rfl h0 ?_
    refine g_aload_n X dX6_advance_256 0 rfl rfl ?_
    refine g_getI X dX6_advance_257 flX6_34 rfl h0 ?_
    obtain ⟨e_10, hF⟩ := oguard hF
    refine g_bald X dX6_advance_260 kd_12 (on_6_0 h0) e_10 ?_
    refine g_callSi (As := [.int (gA S 12 (a0 + 1) ((gI S 6 3 a0).toNatClampNeg))]) X dX6_advance_261 mlX6_53 (fun l D cyy => tX6_kindOfSign (cx_inj X) l D cyy (gA S 12 (a0 + 1) ((gI S 6 3 a0).toNatClampNeg))  S) (by decide) rfl rfl (Nat.le_of_ble_eq_true rfl) ?_
    refine g_putI X dX6_advance_264 fpX6_43 rfl rfl rfl h0 ?_
    exact g_perm [0] rfl (wX6_advance_s267 X a0 h0 (sI S 6 5 a0 (fX6_kindOfSign (gA S 12 (a0 + 1) ((gI S 6 3 a0).toNatClampNeg)) S)) r ho hF)
theorem wX6_advance_s242 {z : Mx} {ad : Nat → Nat} {o : Option Value × St} (X : CxOk z ad RX6 cX6_advance 5 none 2) (a0 : Nat) (h0 : KT a0 = 6) (y2 : Int32) (y3 : Int32)  (k141 : Int32 → Int32 → St → Option St)   (S : St) (r : St) (ho : o = (none, r)) (hk141 : ∀ (y2 : Int32) (y3 : Int32) (S : St), k141 y2 y3 S = some r → GW z ad o S 141 [(0, .ref (ad a0)), (2, .int y2), (3, .int y3)] []) (hF : fX6_advance_s242 k141 a0 y2 y3  S = some r) : GW z ad o S 242 [(0, .ref (ad a0)), (2, .int y2), (3, .int y3)] [] := by
  unfold fX6_advance_s242 at hF
  refine g_goto (tgt := 141) X dX6_advance_242 (by decide) ?_
  exact (hk141 y2 y3 S hF)
theorem wX6_advance_s232 {z : Mx} {ad : Nat → Nat} {o : Option Value × St} (X : CxOk z ad RX6 cX6_advance 5 none 2) (a0 : Nat) (h0 : KT a0 = 6) (y2 : Int32) (y3 : Int32)  (k141 : Int32 → Int32 → St → Option St)   (S : St) (r : St) (ho : o = (none, r)) (hk141 : ∀ (y2 : Int32) (y3 : Int32) (S : St), k141 y2 y3 S = some r → GW z ad o S 141 [(0, .ref (ad a0)), (2, .int y2), (3, .int y3)] []) (hF : fX6_advance_s232 k141 a0 y2 y3  S = some r) : GW z ad o S 232 [(0, .ref (ad a0)), (2, .int y2), (3, .int y3)] [] := by
  unfold fX6_advance_s232 at hF
  refine g_aload_n X dX6_advance_232 0 rfl rfl ?_
  refine g_dup (a := .ref (ad a0)) X dX6_advance_233 rfl ?_
  refine g_getI X dX6_advance_234 flX6_22 rfl h0 ?_
  refine g_iconst (v := 1) X dX6_advance_237 (by decide) ?_
  refine g_iadd X dX6_advance_238 ?_
  refine g_putI X dX6_advance_239 fpX6_22 rfl rfl rfl h0 ?_
  exact (wX6_advance_s242 X a0 h0 y2 y3 k141 (sI S 6 4 a0 ((gI S 6 4 a0) + (1 : Int32))) r ho hk141 hF)
theorem wX6_advance_s215 {z : Mx} {ad : Nat → Nat} {o : Option Value × St} (X : CxOk z ad RX6 cX6_advance 5 none 2) (a0 : Nat) (h0 : KT a0 = 6) (y2 : Int32) (y3 : Int32) (y4 : Int32)  (k141 : Int32 → Int32 → St → Option St)   (S : St) (r : St) (ho : o = (none, r)) (hk141 : ∀ (y2 : Int32) (y3 : Int32) (S : St), k141 y2 y3 S = some r → GW z ad o S 141 [(0, .ref (ad a0)), (2, .int y2), (3, .int y3)] []) (hF : fX6_advance_s215 k141 a0 y2 y3 y4  S = some r) : GW z ad o S 215 [(0, .ref (ad a0)), (2, .int y2), (3, .int y3), (4, .int y4)] [] := by
  unfold fX6_advance_s215 at hF
  refine g_aload_n X dX6_advance_215 0 rfl rfl ?_
  refine g_aload_n X dX6_advance_216 0 rfl rfl ?_
  refine g_getI X dX6_advance_217 flX6_50 rfl h0 ?_
  refine g_bipush (v := 10) X dX6_advance_220 (by decide) ?_
  refine g_imul X dX6_advance_222 ?_
  refine g_iload X dX6_advance_223 3 rfl ?_
  refine g_iadd X dX6_advance_225 ?_
  refine g_bipush (v := 48) X dX6_advance_226 (by decide) ?_
  refine g_isub X dX6_advance_228 ?_
  refine g_putI X dX6_advance_229 fpX6_50 rfl rfl rfl h0 ?_
  exact g_perm [0, 1, 2] rfl (wX6_advance_s232 X a0 h0 y2 y3 k141 (sI S 6 7 a0 ((((gI S 6 7 a0) * (10 : Int32)) + y4) - (48 : Int32))) r ho hk141 hF)
theorem wX6_advance_s200 {z : Mx} {ad : Nat → Nat} {o : Option Value × St} (X : CxOk z ad RX6 cX6_advance 5 none 2) (a0 : Nat) (h0 : KT a0 = 6) (y2 : Int32) (y3 : Int32) (y4 : Int32)  (k141 : Int32 → Int32 → St → Option St)   (S : St) (r : St) (ho : o = (none, r)) (hk141 : ∀ (y2 : Int32) (y3 : Int32) (S : St), k141 y2 y3 S = some r → GW z ad o S 141 [(0, .ref (ad a0)), (2, .int y2), (3, .int y3)] []) (hF : fX6_advance_s200 k141 a0 y2 y3 y4  S = some r) : GW z ad o S 200 [(0, .ref (ad a0)), (2, .int y2), (3, .int y3), (4, .int y4)] [] := by
  unfold fX6_advance_s200 at hF
  refine g_aload_n X dX6_advance_200 0 rfl rfl ?_
  refine g_aload_n X dX6_advance_201 0 rfl rfl ?_
  refine g_getJ X dX6_advance_202 flX6_46 rfl h0 ?_
  refine g_bipush (v := 8) X dX6_advance_205 (by decide) ?_
  refine g_lshl X dX6_advance_207 ?_
  refine g_iload X dX6_advance_208 3 rfl ?_
  refine g_i2l X dX6_advance_210 ?_
  refine g_lor X dX6_advance_211 ?_
  refine g_putJ X dX6_advance_212 fpX6_46 rfl h0 ?_
  exact (wX6_advance_s215 X a0 h0 y2 y3 y4 k141 (sJ S 6 6 a0 (((gJ S 6 6 a0) <<< ((8 : Int32).toInt64 &&& 63)) ||| y4.toInt64)) r ho hk141 hF)
theorem wX6_advance_s183 {z : Mx} {ad : Nat → Nat} {o : Option Value × St} (X : CxOk z ad RX6 cX6_advance 5 none 2) (a0 : Nat) (h0 : KT a0 = 6) (y2 : Int32) (y3 : Int32) (y4 : Int32)  (k141 : Int32 → Int32 → St → Option St)   (S : St) (r : St) (ho : o = (none, r)) (hk141 : ∀ (y2 : Int32) (y3 : Int32) (S : St), k141 y2 y3 S = some r → GW z ad o S 141 [(0, .ref (ad a0)), (2, .int y2), (3, .int y3)] []) (hF : fX6_advance_s183 k141 a0 y2 y3 y4  S = some r) : GW z ad o S 183 [(0, .ref (ad a0)), (2, .int y2), (3, .int y3), (4, .int y4)] [] := by
  unfold fX6_advance_s183 at hF
  refine g_iload X dX6_advance_183 3 rfl ?_
  refine g_bipush (v := 48) X dX6_advance_185 (by decide) ?_
  refine g_icmp_lt (tgt := 245) X dX6_advance_187 (by decide) (fun c_13 => ?_) (fun c_13 => ?_)
  · rw [if_pos c_13] at hF
    exact g_perm [0, 1, 2] rfl (wX6_advance_s245 X a0 h0 y2 y3 S r ho hF)
  · rw [if_neg c_13] at hF
    refine g_iload X dX6_advance_190 3 rfl ?_
    refine g_bipush (v := 57) X dX6_advance_192 (by decide) ?_
    refine g_icmp_gt (tgt := 245) X dX6_advance_194 (by decide) (fun c_14 => ?_) (fun c_14 => ?_)
    · rw [if_pos c_14] at hF
      exact g_perm [0, 1, 2] rfl (wX6_advance_s245 X a0 h0 y2 y3 S r ho hF)
    · rw [if_neg c_14] at hF
      refine g_iinc (v := (y3 + (1 : Int32))) X dX6_advance_197 2 rfl rfl (by decide) (lv' := [(3, .int (y3 + (1 : Int32))), (0, .ref (ad a0)), (2, .int y2), (4, .int y4)]) rfl ?_
      exact g_perm [1, 2, 0, 3] rfl (wX6_advance_s200 X a0 h0 y2 (y3 + (1 : Int32)) y4 k141 S r ho hk141 hF)
theorem wX6_advance_s163 {z : Mx} {ad : Nat → Nat} {o : Option Value × St} (X : CxOk z ad RX6 cX6_advance 5 none 2) (a0 : Nat) (h0 : KT a0 = 6) (y2 : Int32) (y3 : Int32) (y4 : Int32)  (k141 : Int32 → Int32 → St → Option St)   (S : St) (r : St) (ho : o = (none, r)) (hk141 : ∀ (y2 : Int32) (y3 : Int32) (S : St), k141 y2 y3 S = some r → GW z ad o S 141 [(0, .ref (ad a0)), (2, .int y2), (3, .int y3)] []) (hF : fX6_advance_s163 k141 a0 y2 y3 y4  S = some r) : GW z ad o S 163 [(0, .ref (ad a0)), (2, .int y2), (3, .int y3), (4, .int y4)] [] := by
  unfold fX6_advance_s163 at hF
  refine g_iload X dX6_advance_163 3 rfl ?_
  refine g_bipush (v := 97) X dX6_advance_165 (by decide) ?_
  refine g_icmp_lt (tgt := 183) X dX6_advance_167 (by decide) (fun c_12 => ?_) (fun c_12 => ?_)
  · rw [if_pos c_12] at hF
    exact (wX6_advance_s183 X a0 h0 y2 y3 y4 k141 S r ho hk141 hF)
  · rw [if_neg c_12] at hF
    refine g_iload X dX6_advance_170 3 rfl ?_
    refine g_bipush (v := 122) X dX6_advance_172 (by decide) ?_
    refine g_icmp_gt (tgt := 183) X dX6_advance_174 (by decide) (fun c_15 => ?_) (fun c_15 => ?_)
    · rw [if_pos c_15] at hF
      exact (wX6_advance_s183 X a0 h0 y2 y3 y4 k141 S r ho hk141 hF)
    · rw [if_neg c_15] at hF
      refine g_iinc (v := (y2 + (1 : Int32))) X dX6_advance_177 1 rfl rfl (by decide) (lv' := [(2, .int (y2 + (1 : Int32))), (0, .ref (ad a0)), (3, .int y3), (4, .int y4)]) rfl ?_
      refine g_goto (tgt := 200) X dX6_advance_180 (by decide) ?_
      exact g_perm [1, 0, 2, 3] rfl (wX6_advance_s200 X a0 h0 (y2 + (1 : Int32)) y3 y4 k141 S r ho hk141 hF)
theorem wX6_advance_s141 {z : Mx} {ad : Nat → Nat} {o : Option Value × St} (X : CxOk z ad RX6 cX6_advance 5 none 2) (a0 : Nat) (h0 : KT a0 = 6) (y2 : Int32) (y3 : Int32)  (k141 : Int32 → Int32 → St → Option St)   (S : St) (r : St) (ho : o = (none, r)) (hk141 : ∀ (y2 : Int32) (y3 : Int32) (S : St), k141 y2 y3 S = some r → GW z ad o S 141 [(0, .ref (ad a0)), (2, .int y2), (3, .int y3)] []) (hF : fX6_advance_s141 k141 a0 y2 y3  S = some r) : GW z ad o S 141 [(0, .ref (ad a0)), (2, .int y2), (3, .int y3)] [] := by
  unfold fX6_advance_s141 at hF
  refine g_aload_n X dX6_advance_141 0 rfl rfl ?_
  refine g_getI X dX6_advance_142 flX6_22 rfl h0 ?_
  refine g_aload_n X dX6_advance_145 0 rfl rfl ?_
  refine g_getI X dX6_advance_146 flX6_15 rfl h0 ?_
  refine g_icmp_ge (tgt := 245) X dX6_advance_149 (by decide) (fun c_4 => ?_) (fun c_4 => ?_)
  · rw [if_pos c_4] at hF
    exact (wX6_advance_s245 X a0 h0 y2 y3 S r ho hF)
  · rw [if_neg c_4] at hF
    refine g_aload_n X dX6_advance_152 0 rfl rfl ?_
    refine g_getR (f := 1) X dX6_advance_153 flX6_9 rfl rfl h0 ?_
    refine g_aload_n X dX6_advance_156 0 rfl rfl ?_
    refine g_getI X dX6_advance_157 flX6_22 rfl h0 ?_
    obtain ⟨e_11, hF⟩ := oguard hF
    refine g_bald X dX6_advance_160 kd_12 (on_6_0 h0) e_11 ?_
    refine g_istore X dX6_advance_161 (by decide) (lv' := [(4, .int (gA S 12 (a0 + 1) ((gI S 6 4 a0).toNatClampNeg))), (0, .ref (ad a0)), (2, .int y2), (3, .int y3)]) rfl ?_
    exact g_perm [1, 2, 3, 0] rfl (wX6_advance_s163 X a0 h0 y2 y3 (gA S 12 (a0 + 1) ((gI S 6 4 a0).toNatClampNeg)) k141 S r ho hk141 hF)
theorem wX6_advance_h141 {z : Mx} {ad : Nat → Nat} {o : Option Value × St} (X : CxOk z ad RX6 cX6_advance 5 none 2) (a0 : Nat) (h0 : KT a0 = 6)  (r : St) (ho : o = (none, r)) : ∀ (n : Nat) (y2 : Int32) (y3 : Int32) (S : St), fX6_advance_h141 a0 n y2 y3 S = some r → GW z ad o S 141 [(0, .ref (ad a0)), (2, .int y2), (3, .int y3)] [] := by
  intro n
  induction n with
  | zero => intro y2 y3 S  hF; cases hF
  | succ n ih => intro y2 y3 S  hF; exact wX6_advance_s141 X a0 h0 y2 y3 (fX6_advance_h141 a0 n)  S r ho ih hF
theorem wX6_advance_s133 {z : Mx} {ad : Nat → Nat} {o : Option Value × St} (X : CxOk z ad RX6 cX6_advance 5 none 2) (a0 : Nat) (h0 : KT a0 = 6) (y2 : Int32) (y3 : Int32)    (S : St) (r : St) (ho : o = (none, r)) (hF : fX6_advance_s133 a0 y2 y3  S = some r) : GW z ad o S 133 [(0, .ref (ad a0)), (2, .int y2), (3, .int y3)] [] := by
  unfold fX6_advance_s133 at hF
  refine g_aload_n X dX6_advance_133 0 rfl rfl ?_
  refine g_aload_n X dX6_advance_134 0 rfl rfl ?_
  refine g_getI X dX6_advance_135 flX6_34 rfl h0 ?_
  refine g_putI X dX6_advance_138 fpX6_22 rfl rfl rfl h0 ?_
  exact (wX6_advance_h141 X a0 h0 r ho NN y2 y3 (sI S 6 4 a0 (gI S 6 3 a0)) hF)
theorem wX6_advance_s128 {z : Mx} {ad : Nat → Nat} {o : Option Value × St} (X : CxOk z ad RX6 cX6_advance 5 none 2) (a0 : Nat) (h0 : KT a0 = 6) (y2 : Int32) (y3 : Int32)    (S : St) (r : St) (ho : o = (none, r)) (hF : fX6_advance_s128 a0 y2 y3  S = some r) : GW z ad o S 128 [(0, .ref (ad a0)), (2, .int y2), (3, .int y3)] [] := by
  unfold fX6_advance_s128 at hF
  refine g_aload_n X dX6_advance_128 0 rfl rfl ?_
  refine g_iconst (v := 0) X dX6_advance_129 (by decide) ?_
  refine g_putI X dX6_advance_130 fpX6_50 rfl rfl rfl h0 ?_
  exact (wX6_advance_s133 X a0 h0 y2 y3 (sI S 6 7 a0 (0 : Int32)) r ho hF)
theorem wX6_advance_s98 {z : Mx} {ad : Nat → Nat} {o : Option Value × St} (X : CxOk z ad RX6 cX6_advance 5 none 2) (a0 : Nat) (h0 : KT a0 = 6)     (S : St) (r : St) (ho : o = (none, r)) (hF : fX6_advance_s98 a0   S = some r) : GW z ad o S 98 [(0, .ref (ad a0))] [] := by
  unfold fX6_advance_s98 at hF
  refine g_aload_n X dX6_advance_98 0 rfl rfl ?_
  refine g_aload_n X dX6_advance_99 0 rfl rfl ?_
  refine g_getI X dX6_advance_100 flX6_15 rfl h0 ?_
  refine g_aload_n X dX6_advance_103 0 rfl rfl ?_
  refine g_getI X dX6_advance_104 flX6_19 rfl h0 ?_
  refine g_icmp_le (tgt := 114) X dX6_advance_107 (by decide) (fun c_16 => ?_) (fun c_16 => ?_)
  · rw [if_pos c_16] at hF
    refine g_iconst (v := 0) X dX6_advance_114 (by decide) ?_
    refine g_putI X dX6_advance_115 fpX6_43 rfl rfl rfl h0 ?_
    have hF := Option.some.inj hF
    subst hF
    exact g_vret X dX6_advance_118 ho
  · rw [if_neg c_16] at hF
    refine g_iconst (v := 3) X dX6_advance_110 (by decide) ?_
    refine g_goto (tgt := 115) X dX6_advance_111 (by decide) ?_
    refine g_putI X dX6_advance_115 fpX6_43 rfl rfl rfl h0 ?_
    have hF := Option.some.inj hF
    subst hF
    exact g_vret X dX6_advance_118 ho
theorem wX6_advance_s93 {z : Mx} {ad : Nat → Nat} {o : Option Value × St} (X : CxOk z ad RX6 cX6_advance 5 none 2) (a0 : Nat) (h0 : KT a0 = 6) (y1 : Int32)    (S : St) (r : St) (ho : o = (none, r)) (hF : fX6_advance_s93 a0 y1  S = some r) : GW z ad o S 93 [(0, .ref (ad a0)), (1, .int y1)] [] := by
  unfold fX6_advance_s93 at hF
  refine g_aload_n X dX6_advance_93 0 rfl rfl ?_
  refine g_iload_n X dX6_advance_94 1 rfl rfl ?_
  refine g_putI X dX6_advance_95 fpX6_22 rfl rfl rfl h0 ?_
  exact g_perm [0] rfl (wX6_advance_s98 X a0 h0 (sI S 6 4 a0 y1) r ho hF)
theorem wX6_advance_s80 {z : Mx} {ad : Nat → Nat} {o : Option Value × St} (X : CxOk z ad RX6 cX6_advance 5 none 2) (a0 : Nat) (h0 : KT a0 = 6) (y1 : Int32)    (S : St) (r : St) (ho : o = (none, r)) (hF : fX6_advance_s80 a0 y1  S = some r) : GW z ad o S 80 [(0, .ref (ad a0)), (1, .int y1)] [] := by
  unfold fX6_advance_s80 at hF
  refine g_aload_n X dX6_advance_80 0 rfl rfl ?_
  refine g_getI X dX6_advance_81 flX6_34 rfl h0 ?_
  refine g_iload_n X dX6_advance_84 1 rfl rfl ?_
  refine g_icmp_lt (tgt := 119) X dX6_advance_85 (by decide) (fun c_3 => ?_) (fun c_3 => ?_)
  · rw [if_pos c_3] at hF
    refine g_iconst (v := 0) X dX6_advance_119 (by decide) ?_
    refine g_istore_n X dX6_advance_120 rfl (by decide) (lv' := [(2, .int (0 : Int32)), (0, .ref (ad a0)), (1, .int y1)]) rfl ?_
    refine g_iconst (v := 0) X dX6_advance_121 (by decide) ?_
    refine g_istore_n X dX6_advance_122 rfl (by decide) (lv' := [(3, .int (0 : Int32)), (2, .int (0 : Int32)), (0, .ref (ad a0)), (1, .int y1)]) rfl ?_
    refine g_aload_n X dX6_advance_123 2 rfl rfl ?_
    refine g_lconst (v := 0) X dX6_advance_124 (by decide) ?_
    refine g_putJ X dX6_advance_125 fpX6_46 rfl h0 ?_
    exact g_perm [2, 1, 0] rfl (wX6_advance_s128 X a0 h0 (0 : Int32) (0 : Int32) (sJ S 6 6 a0 (0 : Int64)) r ho hF)
  · rw [if_neg c_3] at hF
    refine g_aload_n X dX6_advance_88 0 rfl rfl ?_
    refine g_iload_n X dX6_advance_89 1 rfl rfl ?_
    refine g_putI X dX6_advance_90 fpX6_34 rfl rfl rfl h0 ?_
    exact (wX6_advance_s93 X a0 h0 y1 (sI S 6 3 a0 y1) r ho hF)
theorem wX6_advance_s68 {z : Mx} {ad : Nat → Nat} {o : Option Value × St} (X : CxOk z ad RX6 cX6_advance 5 none 2) (a0 : Nat) (h0 : KT a0 = 6)     (S : St) (r : St) (ho : o = (none, r)) (hF : fX6_advance_s68 a0   S = some r) : GW z ad o S 68 [(0, .ref (ad a0))] [] := by
  unfold fX6_advance_s68 at hF
  refine g_aload_n X dX6_advance_68 0 rfl rfl ?_
  refine g_getI X dX6_advance_69 flX6_15 rfl h0 ?_
  refine g_aload_n X dX6_advance_72 0 rfl rfl ?_
  refine g_getI X dX6_advance_73 flX6_19 rfl h0 ?_
  refine g_mmin X dX6_advance_76 (inr_10 _ (List.mem_of_getElem? (i := 20) rfl)) (inr_10 _ (List.mem_of_getElem? (i := 21) rfl)) (inr_10 _ (List.mem_of_getElem? (i := 22) rfl)) (inr_10 _ (List.mem_of_getElem? (i := 23) rfl)) (by decide) (Nat.le_of_ble_eq_true rfl) ?_
  refine g_istore_n X dX6_advance_79 rfl (by decide) (lv' := [(1, .int (if (gI S 6 2 a0) < (gI S 6 1 a0) then (gI S 6 2 a0) else (gI S 6 1 a0))), (0, .ref (ad a0))]) rfl ?_
  exact g_perm [1, 0] rfl (wX6_advance_s80 X a0 h0 (if (gI S 6 2 a0) < (gI S 6 1 a0) then (gI S 6 2 a0) else (gI S 6 1 a0)) S r ho hF)
theorem wX6_advance_s65 {z : Mx} {ad : Nat → Nat} {o : Option Value × St} (X : CxOk z ad RX6 cX6_advance 5 none 2) (a0 : Nat) (h0 : KT a0 = 6)   (k16 : St → Option St)   (S : St) (r : St) (ho : o = (none, r)) (hk16 : ∀  (S : St), k16  S = some r → GW z ad o S 16 [(0, .ref (ad a0))] []) (hF : fX6_advance_s65 k16 a0   S = some r) : GW z ad o S 65 [(0, .ref (ad a0))] [] := by
  unfold fX6_advance_s65 at hF
  refine g_goto (tgt := 16) X dX6_advance_65 (by decide) ?_
  exact (hk16  S hF)
theorem wX6_advance_s55 {z : Mx} {ad : Nat → Nat} {o : Option Value × St} (X : CxOk z ad RX6 cX6_advance 5 none 2) (a0 : Nat) (h0 : KT a0 = 6)   (k16 : St → Option St)   (S : St) (r : St) (ho : o = (none, r)) (hk16 : ∀  (S : St), k16  S = some r → GW z ad o S 16 [(0, .ref (ad a0))] []) (hF : fX6_advance_s55 k16 a0   S = some r) : GW z ad o S 55 [(0, .ref (ad a0))] [] := by
  unfold fX6_advance_s55 at hF
  refine g_aload_n X dX6_advance_55 0 rfl rfl ?_
  refine g_dup (a := .ref (ad a0)) X dX6_advance_56 rfl ?_
  refine g_getI X dX6_advance_57 flX6_34 rfl h0 ?_
  refine g_iconst (v := 1) X dX6_advance_60 (by decide) ?_
  refine g_iadd X dX6_advance_61 ?_
  refine g_putI X dX6_advance_62 fpX6_34 rfl rfl rfl h0 ?_
  exact (wX6_advance_s65 X a0 h0 k16 (sI S 6 3 a0 ((gI S 6 3 a0) + (1 : Int32))) r ho hk16 hF)
theorem wX6_advance_s16 {z : Mx} {ad : Nat → Nat} {o : Option Value × St} (X : CxOk z ad RX6 cX6_advance 5 none 2) (a0 : Nat) (h0 : KT a0 = 6)   (k16 : St → Option St)   (S : St) (r : St) (ho : o = (none, r)) (hk16 : ∀  (S : St), k16  S = some r → GW z ad o S 16 [(0, .ref (ad a0))] []) (hF : fX6_advance_s16 k16 a0   S = some r) : GW z ad o S 16 [(0, .ref (ad a0))] [] := by
  unfold fX6_advance_s16 at hF
  refine g_aload_n X dX6_advance_16 0 rfl rfl ?_
  refine g_getI X dX6_advance_17 flX6_34 rfl h0 ?_
  refine g_aload_n X dX6_advance_20 0 rfl rfl ?_
  refine g_getI X dX6_advance_21 flX6_15 rfl h0 ?_
  refine g_icmp_ge (tgt := 68) X dX6_advance_24 (by decide) (fun c_2 => ?_) (fun c_2 => ?_)
  · rw [if_pos c_2] at hF
    exact (wX6_advance_s68 X a0 h0 S r ho hF)
  · rw [if_neg c_2] at hF
    refine g_aload_n X dX6_advance_27 0 rfl rfl ?_
    refine g_getR (f := 1) X dX6_advance_28 flX6_9 rfl rfl h0 ?_
    refine g_aload_n X dX6_advance_31 0 rfl rfl ?_
    refine g_getI X dX6_advance_32 flX6_34 rfl h0 ?_
    obtain ⟨e_17, hF⟩ := oguard hF
    refine g_bald X dX6_advance_35 kd_12 (on_6_0 h0) e_17 ?_
    refine g_bipush (v := 32) X dX6_advance_36 (by decide) ?_
    refine g_icmp_eq (tgt := 55) X dX6_advance_38 (by decide) (fun c_18 => ?_) (fun c_18 => ?_)
    · rw [if_pos c_18] at hF
      exact (wX6_advance_s55 X a0 h0 k16 S r ho hk16 hF)
    · rw [if_neg c_18] at hF
      refine g_aload_n X dX6_advance_41 0 rfl rfl ?_
      refine g_getR (f := 1) X dX6_advance_42 flX6_9 rfl rfl h0 ?_
      refine g_aload_n X dX6_advance_45 0 rfl rfl ?_
      refine g_getI X dX6_advance_46 flX6_34 rfl h0 ?_
      obtain ⟨e_19, hF⟩ := oguard hF
      refine g_bald X dX6_advance_49 kd_12 (on_6_0 h0) e_19 ?_
      refine g_bipush (v := 10) X dX6_advance_50 (by decide) ?_
      refine g_icmp_ne (tgt := 68) X dX6_advance_52 (by decide) (fun c_20 => ?_) (fun c_20 => ?_)
      · rw [if_neg c_20] at hF
        exact (wX6_advance_s68 X a0 h0 S r ho hF)
      · rw [if_pos c_20] at hF
        exact (wX6_advance_s55 X a0 h0 k16 S r ho hk16 hF)
theorem wX6_advance_h16 {z : Mx} {ad : Nat → Nat} {o : Option Value × St} (X : CxOk z ad RX6 cX6_advance 5 none 2) (a0 : Nat) (h0 : KT a0 = 6)  (r : St) (ho : o = (none, r)) : ∀ (n : Nat)  (S : St), fX6_advance_h16 a0 n  S = some r → GW z ad o S 16 [(0, .ref (ad a0))] [] := by
  intro n
  induction n with
  | zero => intro  S  hF; cases hF
  | succ n ih => intro  S  hF; exact wX6_advance_s16 X a0 h0  (fX6_advance_h16 a0 n)  S r ho ih hF
theorem wX6_advance {z : Mx} {ad : Nat → Nat} {o : Option Value × St} (X : CxOk z ad RX6 cX6_advance 5 none 2) (a0 : Nat) (h0 : KT a0 = 6) (S : St) (r : St) (ho : o = (none, r)) (hF : fX6_advance a0 S = some r) : GW z ad o S 0 [(0, .ref (ad a0))] [] := by
  unfold fX6_advance at hF
  refine g_aload_n X dX6_advance_0 0 rfl rfl ?_
  refine g_getI X dX6_advance_1 flX6_25 rfl h0 ?_
  refine g_if_eq (tgt := 8) X dX6_advance_4 (by decide) (fun c_1 => ?_) (fun c_1 => ?_)
  · rw [if_pos c_1] at hF
    refine g_aload_n X dX6_advance_8 0 rfl rfl ?_
    refine g_aload_n X dX6_advance_9 0 rfl rfl ?_
    refine g_getI X dX6_advance_10 flX6_22 rfl h0 ?_
    refine g_putI X dX6_advance_13 fpX6_34 rfl rfl rfl h0 ?_
    exact (wX6_advance_h16 X a0 h0 r ho NN (sI S 6 3 a0 (gI S 6 4 a0)) hF)
  · rw [if_neg c_1] at hF
    have hF := Option.some.inj hF
    subst hF
    exact g_vret X dX6_advance_7 ho
theorem tX6_advance {ad : Nat → Nat} (hI : Inj ad) (l : Launch) (D : va_G) (cyy : Nat → ClassId) (a0 : Nat) (h0 : KT a0 = 6) (S : St) (r : St) (hF : fX6_advance a0 S = some r) : OkM l yX6_advance cX6_advance 5 none 2 ad D cyy [.ref (ad a0)] S (none, r) := okM_of hI (by decide) (inr_10 _ (List.mem_of_getElem? (i := 18) rfl)) (by show _ ≤ 5; exact Nat.le_of_ble_eq_true rfl) (fun z X => wX6_advance X a0 h0 S r rfl hF)
def fX6_open_s20 (a0 : Nat) (x1 : Int32)   (S : St) : Option St :=
  (fX6_advance a0 S).bind fun r_1 =>
  some r_1
def fX6_open_s15 (a0 : Nat) (x1 : Int32)   (S : St) : Option St :=
  fX6_open_s20 a0 x1 (sI S 6 9 a0 (0 : Int32))
def fX6_open_s10 (a0 : Nat) (x1 : Int32)   (S : St) : Option St :=
  fX6_open_s15 a0 x1 (sI S 6 8 a0 (0 : Int32))
def fX6_open_s5 (a0 : Nat) (x1 : Int32)   (S : St) : Option St :=
  fX6_open_s10 a0 x1 (sI S 6 4 a0 (0 : Int32))
def fX6_open (a0 : Nat) (x1 : Int32) (S : St) : Option St :=
  fX6_open_s5 a0 x1 (sI S 6 2 a0 x1)
theorem wX6_open_s20 {z : Mx} {ad : Nat → Nat} {o : Option Value × St} (X : CxOk z ad RX6 cX6_open 2 none 3) (a0 : Nat) (x1 : Int32) (h0 : KT a0 = 6)     (S : St) (r : St) (ho : o = (none, r)) (hF : fX6_open_s20 a0 x1   S = some r) : GW z ad o S 20 [(0, .ref (ad a0))] [] := by
  unfold fX6_open_s20 at hF
  refine g_aload_n X dX6_open_20 0 rfl rfl ?_
  obtain ⟨r_1, q_2, hF⟩ := obind hF
  refine g_callVv (As := []) X dX6_open_21 mlX6_31 (fun l D cyy => tX6_advance (cx_inj X) l D cyy a0 h0 S r_1 q_2) h0 (by decide) rfl rfl (Nat.le_of_ble_eq_true rfl) ?_
  have hF := Option.some.inj hF
  subst hF
  exact g_vret X dX6_open_24 ho
theorem wX6_open_s15 {z : Mx} {ad : Nat → Nat} {o : Option Value × St} (X : CxOk z ad RX6 cX6_open 2 none 3) (a0 : Nat) (x1 : Int32) (h0 : KT a0 = 6)     (S : St) (r : St) (ho : o = (none, r)) (hF : fX6_open_s15 a0 x1   S = some r) : GW z ad o S 15 [(0, .ref (ad a0))] [] := by
  unfold fX6_open_s15 at hF
  refine g_aload_n X dX6_open_15 0 rfl rfl ?_
  refine g_iconst (v := 0) X dX6_open_16 (by decide) ?_
  refine g_putI X dX6_open_17 fpX6_28 rfl rfl rfl h0 ?_
  exact (wX6_open_s20 X a0 x1 h0 (sI S 6 9 a0 (0 : Int32)) r ho hF)
theorem wX6_open_s10 {z : Mx} {ad : Nat → Nat} {o : Option Value × St} (X : CxOk z ad RX6 cX6_open 2 none 3) (a0 : Nat) (x1 : Int32) (h0 : KT a0 = 6)     (S : St) (r : St) (ho : o = (none, r)) (hF : fX6_open_s10 a0 x1   S = some r) : GW z ad o S 10 [(0, .ref (ad a0))] [] := by
  unfold fX6_open_s10 at hF
  refine g_aload_n X dX6_open_10 0 rfl rfl ?_
  refine g_iconst (v := 0) X dX6_open_11 (by decide) ?_
  refine g_putI X dX6_open_12 fpX6_25 rfl rfl rfl h0 ?_
  exact (wX6_open_s15 X a0 x1 h0 (sI S 6 8 a0 (0 : Int32)) r ho hF)
theorem wX6_open_s5 {z : Mx} {ad : Nat → Nat} {o : Option Value × St} (X : CxOk z ad RX6 cX6_open 2 none 3) (a0 : Nat) (x1 : Int32) (h0 : KT a0 = 6)     (S : St) (r : St) (ho : o = (none, r)) (hF : fX6_open_s5 a0 x1   S = some r) : GW z ad o S 5 [(0, .ref (ad a0))] [] := by
  unfold fX6_open_s5 at hF
  refine g_aload_n X dX6_open_5 0 rfl rfl ?_
  refine g_iconst (v := 0) X dX6_open_6 (by decide) ?_
  refine g_putI X dX6_open_7 fpX6_22 rfl rfl rfl h0 ?_
  exact (wX6_open_s10 X a0 x1 h0 (sI S 6 4 a0 (0 : Int32)) r ho hF)
theorem wX6_open {z : Mx} {ad : Nat → Nat} {o : Option Value × St} (X : CxOk z ad RX6 cX6_open 2 none 3) (a0 : Nat) (x1 : Int32) (h0 : KT a0 = 6) (S : St) (r : St) (ho : o = (none, r)) (hF : fX6_open a0 x1 S = some r) : GW z ad o S 0 [(0, .ref (ad a0)), (1, .int x1)] [] := by
  unfold fX6_open at hF
  refine g_aload_n X dX6_open_0 0 rfl rfl ?_
  refine g_iload_n X dX6_open_1 1 rfl rfl ?_
  refine g_putI X dX6_open_2 fpX6_19 rfl rfl rfl h0 ?_
  exact g_perm [0] rfl (wX6_open_s5 X a0 x1 h0 (sI S 6 2 a0 x1) r ho hF)
theorem tX6_open {ad : Nat → Nat} (hI : Inj ad) (l : Launch) (D : va_G) (cyy : Nat → ClassId) (a0 : Nat) (x1 : Int32) (h0 : KT a0 = 6) (S : St) (r : St) (hF : fX6_open a0 x1 S = some r) : OkM l yX6_open cX6_open 2 none 3 ad D cyy [.ref (ad a0), .int x1] S (none, r) := okM_of hI (by decide) (inr_10 _ (List.mem_of_getElem? (i := 10) rfl)) (by show _ ≤ 2; exact Nat.le_of_ble_eq_true rfl) (fun z X => wX6_open X a0 x1 h0 S r rfl hF)
def fX6_goesOn (a0 : Nat) (S : St) : Int32 :=
  if (gI S 6 8 a0) = 0 then (if (gI S 6 5 a0) = 0 then ((0 : Int32)) else
  ((1 : Int32))) else
  ((0 : Int32))
theorem wX6_goesOn {z : Mx} {ad : Nat → Nat} {o : Option Value × St} (X : CxOk z ad RX6 cX6_goesOn 1 (some .boolean) 1) (a0 : Nat) (h0 : KT a0 = 6) (S : St) (r : Int32) (ho : o = (some (.int r), S)) (hF : fX6_goesOn a0 S = r) : GW z ad o S 0 [(0, .ref (ad a0))] [] := by
  unfold fX6_goesOn at hF
  refine g_aload_n X dX6_goesOn_0 0 rfl rfl ?_
  refine g_getI X dX6_goesOn_1 flX6_25 rfl h0 ?_
  refine g_if_ne (tgt := 18) X dX6_goesOn_4 (by decide) (fun c_1 => ?_) (fun c_1 => ?_)
  · rw [if_neg c_1] at hF
    refine g_iconst (v := 0) X dX6_goesOn_18 (by decide) ?_
    subst hF
    exact g_zret X dX6_goesOn_19 (by decide) ho
  · rw [if_pos c_1] at hF
    refine g_aload_n X dX6_goesOn_7 0 rfl rfl ?_
    refine g_getI X dX6_goesOn_8 flX6_43 rfl h0 ?_
    refine g_if_eq (tgt := 18) X dX6_goesOn_11 (by decide) (fun c_2 => ?_) (fun c_2 => ?_)
    · rw [if_pos c_2] at hF
      refine g_iconst (v := 0) X dX6_goesOn_18 (by decide) ?_
      subst hF
      exact g_zret X dX6_goesOn_19 (by decide) ho
    · rw [if_neg c_2] at hF
      refine g_iconst (v := 1) X dX6_goesOn_14 (by decide) ?_
      refine g_goto (tgt := 19) X dX6_goesOn_15 (by decide) ?_
      subst hF
      exact g_zret X dX6_goesOn_19 (by decide) ho
theorem tX6_goesOn {ad : Nat → Nat} (hI : Inj ad) (l : Launch) (D : va_G) (cyy : Nat → ClassId) (a0 : Nat) (h0 : KT a0 = 6) (S : St) : OkM l yX6_goesOn cX6_goesOn 1 (some .boolean) 1 ad D cyy [.ref (ad a0)] S (some (.int (fX6_goesOn a0 S)), S) := okM_of hI (by decide) (inr_11 _ (List.mem_of_getElem? (i := 9) rfl)) (by show _ ≤ 1; exact Nat.le_of_ble_eq_true rfl) (fun z X => wX6_goesOn X a0 h0 S _ rfl rfl)
def fX6_isAt (a0 : Nat) (x1 : Int64) (S : St) : Int32 :=
  if (gI S 6 8 a0) = 0 then (if (gI S 6 5 a0) = (1 : Int32) then (if (lg_cmp (gJ S 6 6 a0) x1) = 0 then ((1 : Int32)) else
  ((0 : Int32))) else
  ((0 : Int32))) else
  ((0 : Int32))
theorem wX6_isAt {z : Mx} {ad : Nat → Nat} {o : Option Value × St} (X : CxOk z ad RX6 cX6_isAt 3 (some .boolean) 1) (a0 : Nat) (x1 : Int64) (h0 : KT a0 = 6) (S : St) (r : Int32) (ho : o = (some (.int r), S)) (hF : fX6_isAt a0 x1 S = r) : GW z ad o S 0 [(0, .ref (ad a0)), (1, .long x1)] [] := by
  unfold fX6_isAt at hF
  refine g_aload_n X dX6_isAt_0 0 rfl rfl ?_
  refine g_getI X dX6_isAt_1 flX6_25 rfl h0 ?_
  refine g_if_ne (tgt := 28) X dX6_isAt_4 (by decide) (fun c_1 => ?_) (fun c_1 => ?_)
  · rw [if_neg c_1] at hF
    refine g_iconst (v := 0) X dX6_isAt_28 (by decide) ?_
    subst hF
    exact g_zret X dX6_isAt_29 (by decide) ho
  · rw [if_pos c_1] at hF
    refine g_aload_n X dX6_isAt_7 0 rfl rfl ?_
    refine g_getI X dX6_isAt_8 flX6_43 rfl h0 ?_
    refine g_iconst (v := 1) X dX6_isAt_11 (by decide) ?_
    refine g_icmp_ne (tgt := 28) X dX6_isAt_12 (by decide) (fun c_2 => ?_) (fun c_2 => ?_)
    · rw [if_neg c_2] at hF
      refine g_iconst (v := 0) X dX6_isAt_28 (by decide) ?_
      subst hF
      exact g_zret X dX6_isAt_29 (by decide) ho
    · rw [if_pos c_2] at hF
      refine g_aload_n X dX6_isAt_15 0 rfl rfl ?_
      refine g_getJ X dX6_isAt_16 flX6_46 rfl h0 ?_
      refine g_lload_n X dX6_isAt_19 1 rfl rfl ?_
      refine g_lcmp X dX6_isAt_20 ?_
      refine g_if_ne (tgt := 28) X dX6_isAt_21 (by decide) (fun c_3 => ?_) (fun c_3 => ?_)
      · rw [if_neg c_3] at hF
        refine g_iconst (v := 0) X dX6_isAt_28 (by decide) ?_
        subst hF
        exact g_zret X dX6_isAt_29 (by decide) ho
      · rw [if_pos c_3] at hF
        refine g_iconst (v := 1) X dX6_isAt_24 (by decide) ?_
        refine g_goto (tgt := 29) X dX6_isAt_25 (by decide) ?_
        subst hF
        exact g_zret X dX6_isAt_29 (by decide) ho
theorem tX6_isAt {ad : Nat → Nat} (hI : Inj ad) (l : Launch) (D : va_G) (cyy : Nat → ClassId) (a0 : Nat) (x1 : Int64) (h0 : KT a0 = 6) (S : St) : OkM l yX6_isAt cX6_isAt 3 (some .boolean) 1 ad D cyy [.ref (ad a0), .long x1] S (some (.int (fX6_isAt a0 x1 S)), S) := okM_of hI (by decide) (inr_11 _ (List.mem_of_getElem? (i := 21) rfl)) (by show _ ≤ 3; exact Nat.le_of_ble_eq_true rfl) (fun z X => wX6_isAt X a0 x1 h0 S _ rfl rfl)
def fX6_isAtName_s12 (k12 : Int32 → Option Int32) (a0 : Nat) (y1 : Int32)  (S : St) : Option Int32 :=
  if (19 : Int32) ≤ y1 then (some (1 : Int32)) else
  (if (y1 < 0 ∨ 19 ≤ y1.toNatClampNeg) then none else
  if (lg_cmp (twv y1.toNatClampNeg) (gJ S 6 6 a0)) = 0 then (some (0 : Int32)) else
  (k12 (y1 + (1 : Int32))))
def fX6_isAtName_h12 (a0 : Nat) : Nat → Int32 → St → Option Int32
  | 0, _, _ => none
  | n + 1, y1, S => fX6_isAtName_s12 (fun y1 => fX6_isAtName_h12 a0 n y1 S) a0 y1 S
def fX6_isAtName (a0 : Nat) (S : St) : Option Int32 :=
  if (gI S 6 5 a0) = (1 : Int32) then (fX6_isAtName_h12 a0 NN (0 : Int32) S) else
  (some (0 : Int32))
theorem wX6_isAtName_s12 {z : Mx} {ad : Nat → Nat} {o : Option Value × St} (X : CxOk z ad RX6 cX6_isAtName 2 (some .boolean) 1) (a0 : Nat) (h0 : KT a0 = 6) (y1 : Int32)  (k12 : Int32 → Option Int32)   (S : St) (r : Int32) (ho : o = (some (.int r), S)) (hk12 : ∀ (y1 : Int32), k12 y1 = some r → GW z ad o S 12 [(0, .ref (ad a0)), (1, .int y1)] []) (hF : fX6_isAtName_s12 k12 a0 y1  S = some r) : GW z ad o S 12 [(0, .ref (ad a0)), (1, .int y1)] [] := by
  unfold fX6_isAtName_s12 at hF
  refine g_iload_n X dX6_isAtName_12 1 rfl rfl ?_
  obtain ⟨twA, htw⟩ := tw_of X
  refine g_tw X htw dX6_isAtName_13 ?_
  refine g_twlen X htw dX6_isAtName_16 ?_
  refine g_icmp_ge (tgt := 41) X dX6_isAtName_17 (by decide) (fun c_2 => ?_) (fun c_2 => ?_)
  · rw [if_pos c_2] at hF
    refine g_iconst (v := 1) X dX6_isAtName_41 (by decide) ?_
    have hF := Option.some.inj hF
    subst hF
    exact g_zret X dX6_isAtName_42 (by decide) ho
  · rw [if_neg c_2] at hF
    obtain ⟨twA, htw⟩ := tw_of X
    refine g_tw X htw dX6_isAtName_20 ?_
    refine g_iload_n X dX6_isAtName_23 1 rfl rfl ?_
    obtain ⟨e_3, hF⟩ := oguard hF
    refine g_twld X htw dX6_isAtName_24 e_3 ?_
    refine g_aload_n X dX6_isAtName_25 0 rfl rfl ?_
    refine g_getJ X dX6_isAtName_26 flX6_46 rfl h0 ?_
    refine g_lcmp X dX6_isAtName_29 ?_
    refine g_if_ne (tgt := 35) X dX6_isAtName_30 (by decide) (fun c_4 => ?_) (fun c_4 => ?_)
    · rw [if_neg c_4] at hF
      refine g_iinc (v := (y1 + (1 : Int32))) X dX6_isAtName_35 1 rfl rfl (by decide) (lv' := [(1, .int (y1 + (1 : Int32))), (0, .ref (ad a0))]) rfl ?_
      refine g_goto (tgt := 12) X dX6_isAtName_38 (by decide) ?_
      exact g_perm [1, 0] rfl (hk12 (y1 + (1 : Int32)) hF)
    · rw [if_pos c_4] at hF
      refine g_iconst (v := 0) X dX6_isAtName_33 (by decide) ?_
      have hF := Option.some.inj hF
      subst hF
      exact g_zret X dX6_isAtName_34 (by decide) ho
theorem wX6_isAtName_h12 {z : Mx} {ad : Nat → Nat} {o : Option Value × St} (X : CxOk z ad RX6 cX6_isAtName 2 (some .boolean) 1) (a0 : Nat) (h0 : KT a0 = 6)  (S : St) (r : Int32) (ho : o = (some (.int r), S)) : ∀ (n : Nat) (y1 : Int32), fX6_isAtName_h12 a0 n y1 S = some r → GW z ad o S 12 [(0, .ref (ad a0)), (1, .int y1)] [] := by
  intro n
  induction n with
  | zero => intro y1  hF; cases hF
  | succ n ih => intro y1  hF; exact wX6_isAtName_s12 X a0 h0 y1 (fun y1 => fX6_isAtName_h12 a0 n y1 S)  S r ho (fun y1 hF => ih y1  hF) hF
theorem wX6_isAtName {z : Mx} {ad : Nat → Nat} {o : Option Value × St} (X : CxOk z ad RX6 cX6_isAtName 2 (some .boolean) 1) (a0 : Nat) (h0 : KT a0 = 6) (S : St) (r : Int32) (ho : o = (some (.int r), S)) (hF : fX6_isAtName a0 S = some r) : GW z ad o S 0 [(0, .ref (ad a0))] [] := by
  unfold fX6_isAtName at hF
  refine g_aload_n X dX6_isAtName_0 0 rfl rfl ?_
  refine g_getI X dX6_isAtName_1 flX6_43 rfl h0 ?_
  refine g_iconst (v := 1) X dX6_isAtName_4 (by decide) ?_
  refine g_icmp_eq (tgt := 10) X dX6_isAtName_5 (by decide) (fun c_1 => ?_) (fun c_1 => ?_)
  · rw [if_pos c_1] at hF
    refine g_iconst (v := 0) X dX6_isAtName_10 (by decide) ?_
    refine g_istore_n X dX6_isAtName_11 rfl (by decide) (lv' := [(1, .int (0 : Int32)), (0, .ref (ad a0))]) rfl ?_
    exact g_perm [1, 0] rfl (wX6_isAtName_h12 X a0 h0 S r ho NN (0 : Int32) hF)
  · rw [if_neg c_1] at hF
    refine g_iconst (v := 0) X dX6_isAtName_8 (by decide) ?_
    have hF := Option.some.inj hF
    subst hF
    exact g_zret X dX6_isAtName_9 (by decide) ho
theorem tX6_isAtName {ad : Nat → Nat} (hI : Inj ad) (l : Launch) (D : va_G) (cyy : Nat → ClassId) (a0 : Nat) (h0 : KT a0 = 6) (S : St) (r : Int32) (hF : fX6_isAtName a0 S = some r) : OkM l yX6_isAtName cX6_isAtName 2 (some .boolean) 1 ad D cyy [.ref (ad a0)] S (some (.int r), S) := okM_of hI (by decide) (inr_12 _ (List.mem_of_getElem? (i := 15) rfl)) (by show _ ≤ 2; exact Nat.le_of_ble_eq_true rfl) (fun z X => wX6_isAtName X a0 h0 S r rfl hF)
def fX6_fail_s12 (a0 : Nat) (x1 : Int32)   (S : St) : St :=
  (sI S 6 9 a0 (gI S 6 3 a0))
def fX6_fail (a0 : Nat) (x1 : Int32) (S : St) : St :=
  if (gI S 6 8 a0) = 0 then (fX6_fail_s12 a0 x1 (sI S 6 8 a0 x1)) else
  (S)
theorem wX6_fail_s12 {z : Mx} {ad : Nat → Nat} {o : Option Value × St} (X : CxOk z ad RX6 cX6_fail 2 none 1) (a0 : Nat) (x1 : Int32) (h0 : KT a0 = 6)     (S : St) (r : St) (ho : o = (none, r)) (hF : fX6_fail_s12 a0 x1   S = r) : GW z ad o S 12 [(0, .ref (ad a0))] [] := by
  unfold fX6_fail_s12 at hF
  refine g_aload_n X dX6_fail_12 0 rfl rfl ?_
  refine g_aload_n X dX6_fail_13 0 rfl rfl ?_
  refine g_getI X dX6_fail_14 flX6_34 rfl h0 ?_
  refine g_putI X dX6_fail_17 fpX6_28 rfl rfl rfl h0 ?_
  subst hF
  exact g_vret X dX6_fail_20 ho
theorem wX6_fail {z : Mx} {ad : Nat → Nat} {o : Option Value × St} (X : CxOk z ad RX6 cX6_fail 2 none 1) (a0 : Nat) (x1 : Int32) (h0 : KT a0 = 6) (S : St) (r : St) (ho : o = (none, r)) (hF : fX6_fail a0 x1 S = r) : GW z ad o S 0 [(0, .ref (ad a0)), (1, .int x1)] [] := by
  unfold fX6_fail at hF
  refine g_aload_n X dX6_fail_0 0 rfl rfl ?_
  refine g_getI X dX6_fail_1 flX6_25 rfl h0 ?_
  refine g_if_ne (tgt := 20) X dX6_fail_4 (by decide) (fun c_1 => ?_) (fun c_1 => ?_)
  · rw [if_neg c_1] at hF
    subst hF
    exact g_vret X dX6_fail_20 ho
  · rw [if_pos c_1] at hF
    refine g_aload_n X dX6_fail_7 0 rfl rfl ?_
    refine g_iload_n X dX6_fail_8 1 rfl rfl ?_
    refine g_putI X dX6_fail_9 fpX6_25 rfl rfl rfl h0 ?_
    exact g_perm [0] rfl (wX6_fail_s12 X a0 x1 h0 (sI S 6 8 a0 x1) r ho hF)
theorem tX6_fail {ad : Nat → Nat} (hI : Inj ad) (l : Launch) (D : va_G) (cyy : Nat → ClassId) (a0 : Nat) (x1 : Int32) (h0 : KT a0 = 6) (S : St) : OkM l yX6_fail cX6_fail 2 none 1 ad D cyy [.ref (ad a0), .int x1] S (none, fX6_fail a0 x1 S) := okM_of hI (by decide) (inr_12 _ (List.mem_of_getElem? (i := 5) rfl)) (by show _ ≤ 2; exact Nat.le_of_ble_eq_true rfl) (fun z X => wX6_fail X a0 x1 h0 S _ rfl rfl)
def fX6_takeNumber_s53 (a0 : Nat) (x1 : Int32) (x2 : Int32) (y3 : Int32)  (S : St) : Option (Int32 × St) :=
  (fX6_advance a0 S).bind fun r_6 =>
  some (y3, r_6)
def fX6_takeNumber_s37 (a0 : Nat) (x1 : Int32) (x2 : Int32)   (S : St) : Option (Int32 × St) :=
  if (gI S 6 8 a0) = 0 then (fX6_takeNumber_s53 a0 x1 x2 (gI S 6 7 a0) S) else
  ((fX6_advance a0 S).bind fun r_4 =>
  some (x1, r_4))
def fX6_takeNumber_s32 (a0 : Nat) (x1 : Int32) (x2 : Int32)   (S : St) : Option (Int32 × St) :=
  fX6_takeNumber_s37 a0 x1 x2 (fX6_fail a0 (2 : Int32) S)
def fX6_takeNumber_s13 (a0 : Nat) (x1 : Int32) (x2 : Int32)   (S : St) : Option (Int32 × St) :=
  fX6_takeNumber_s37 a0 x1 x2 S
def fX6_takeNumber (a0 : Nat) (x1 : Int32) (x2 : Int32) (S : St) : Option (Int32 × St) :=
  if (gI S 6 5 a0) = (2 : Int32) then (if (gI S 6 7 a0) < x1 then (fX6_takeNumber_s32 a0 x1 x2 S) else
  (if (gI S 6 7 a0) ≤ x2 then (fX6_takeNumber_s37 a0 x1 x2 S) else
  (fX6_takeNumber_s32 a0 x1 x2 S))) else
  (fX6_takeNumber_s13 a0 x1 x2 (fX6_fail a0 (1 : Int32) S))
theorem wX6_takeNumber_s53 {z : Mx} {ad : Nat → Nat} {o : Option Value × St} (X : CxOk z ad RX6 cX6_takeNumber 4 (some .int) 3) (a0 : Nat) (x1 : Int32) (x2 : Int32) (h0 : KT a0 = 6) (y3 : Int32)    (S : St) (r : (Int32 × St)) (ho : o = (some (.int r.1), r.2)) (hF : fX6_takeNumber_s53 a0 x1 x2 y3  S = some r) : GW z ad o S 53 [(0, .ref (ad a0)), (3, .int y3)] [] := by
  unfold fX6_takeNumber_s53 at hF
  refine g_aload_n X dX6_takeNumber_53 0 rfl rfl ?_
  obtain ⟨r_6, q_7, hF⟩ := obind hF
  refine g_callVv (As := []) X dX6_takeNumber_54 mlX6_31 (fun l D cyy => tX6_advance (cx_inj X) l D cyy a0 h0 S r_6 q_7) h0 (by decide) rfl rfl (Nat.le_of_ble_eq_true rfl) ?_
  refine g_iload_n X dX6_takeNumber_57 1 rfl rfl ?_
  have hF := Option.some.inj hF
  subst hF
  exact g_iret X dX6_takeNumber_58 ho
theorem wX6_takeNumber_s37 {z : Mx} {ad : Nat → Nat} {o : Option Value × St} (X : CxOk z ad RX6 cX6_takeNumber 4 (some .int) 3) (a0 : Nat) (x1 : Int32) (x2 : Int32) (h0 : KT a0 = 6)     (S : St) (r : (Int32 × St)) (ho : o = (some (.int r.1), r.2)) (hF : fX6_takeNumber_s37 a0 x1 x2   S = some r) : GW z ad o S 37 [(0, .ref (ad a0)), (1, .int x1)] [] := by
  unfold fX6_takeNumber_s37 at hF
  refine g_aload_n X dX6_takeNumber_37 0 rfl rfl ?_
  refine g_getI X dX6_takeNumber_38 flX6_25 rfl h0 ?_
  refine g_if_ne (tgt := 51) X dX6_takeNumber_41 (by decide) (fun c_3 => ?_) (fun c_3 => ?_)
  · rw [if_neg c_3] at hF
    refine g_iload_n X dX6_takeNumber_51 1 rfl rfl ?_
    refine g_istore_n X dX6_takeNumber_52 rfl (by decide) (lv' := [(3, .int x1), (0, .ref (ad a0)), (1, .int x1)]) rfl ?_
    refine g_aload_n X dX6_takeNumber_53 1 rfl rfl ?_
    obtain ⟨r_4, q_5, hF⟩ := obind hF
    refine g_callVv (As := []) X dX6_takeNumber_54 mlX6_31 (fun l D cyy => tX6_advance (cx_inj X) l D cyy a0 h0 S r_4 q_5) h0 (by decide) rfl rfl (Nat.le_of_ble_eq_true rfl) ?_
    refine g_iload_n X dX6_takeNumber_57 0 rfl rfl ?_
    have hF := Option.some.inj hF
    subst hF
    exact g_iret X dX6_takeNumber_58 ho
  · rw [if_pos c_3] at hF
    refine g_aload_n X dX6_takeNumber_44 0 rfl rfl ?_
    refine g_getI X dX6_takeNumber_45 flX6_50 rfl h0 ?_
    refine g_goto (tgt := 52) X dX6_takeNumber_48 (by decide) ?_
    refine g_istore_n X dX6_takeNumber_52 rfl (by decide) (lv' := [(3, .int (gI S 6 7 a0)), (0, .ref (ad a0)), (1, .int x1)]) rfl ?_
    exact g_perm [1, 0] rfl (wX6_takeNumber_s53 X a0 x1 x2 h0 (gI S 6 7 a0) S r ho hF)
theorem wX6_takeNumber_s32 {z : Mx} {ad : Nat → Nat} {o : Option Value × St} (X : CxOk z ad RX6 cX6_takeNumber 4 (some .int) 3) (a0 : Nat) (x1 : Int32) (x2 : Int32) (h0 : KT a0 = 6)     (S : St) (r : (Int32 × St)) (ho : o = (some (.int r.1), r.2)) (hF : fX6_takeNumber_s32 a0 x1 x2   S = some r) : GW z ad o S 32 [(0, .ref (ad a0)), (1, .int x1)] [] := by
  unfold fX6_takeNumber_s32 at hF
  refine g_aload_n X dX6_takeNumber_32 0 rfl rfl ?_
  refine g_iconst (v := 2) X dX6_takeNumber_33 (by decide) ?_
  refine g_callVv (As := [.int (2 : Int32)]) X dX6_takeNumber_34 mlX6_61 (fun l D cyy => tX6_fail (cx_inj X) l D cyy a0 (2 : Int32) h0 S) h0 (by decide) rfl rfl (Nat.le_of_ble_eq_true rfl) ?_
  exact (wX6_takeNumber_s37 X a0 x1 x2 h0 (fX6_fail a0 (2 : Int32) S) r ho hF)
theorem wX6_takeNumber_s13 {z : Mx} {ad : Nat → Nat} {o : Option Value × St} (X : CxOk z ad RX6 cX6_takeNumber 4 (some .int) 3) (a0 : Nat) (x1 : Int32) (x2 : Int32) (h0 : KT a0 = 6)     (S : St) (r : (Int32 × St)) (ho : o = (some (.int r.1), r.2)) (hF : fX6_takeNumber_s13 a0 x1 x2   S = some r) : GW z ad o S 13 [(0, .ref (ad a0)), (1, .int x1)] [] := by
  unfold fX6_takeNumber_s13 at hF
  refine g_goto (tgt := 37) X dX6_takeNumber_13 (by decide) ?_
  exact (wX6_takeNumber_s37 X a0 x1 x2 h0 S r ho hF)
theorem wX6_takeNumber {z : Mx} {ad : Nat → Nat} {o : Option Value × St} (X : CxOk z ad RX6 cX6_takeNumber 4 (some .int) 3) (a0 : Nat) (x1 : Int32) (x2 : Int32) (h0 : KT a0 = 6) (S : St) (r : (Int32 × St)) (ho : o = (some (.int r.1), r.2)) (hF : fX6_takeNumber a0 x1 x2 S = some r) : GW z ad o S 0 [(0, .ref (ad a0)), (1, .int x1), (2, .int x2)] [] := by
  unfold fX6_takeNumber at hF
  refine g_aload_n X dX6_takeNumber_0 0 rfl rfl ?_
  refine g_getI X dX6_takeNumber_1 flX6_43 rfl h0 ?_
  refine g_iconst (v := 2) X dX6_takeNumber_4 (by decide) ?_
  refine g_icmp_eq (tgt := 16) X dX6_takeNumber_5 (by decide) (fun c_1 => ?_) (fun c_1 => ?_)
  · rw [if_pos c_1] at hF
    refine g_aload_n X dX6_takeNumber_16 0 rfl rfl ?_
    refine g_getI X dX6_takeNumber_17 flX6_50 rfl h0 ?_
    refine g_iload_n X dX6_takeNumber_20 1 rfl rfl ?_
    refine g_icmp_lt (tgt := 32) X dX6_takeNumber_21 (by decide) (fun c_2 => ?_) (fun c_2 => ?_)
    · rw [if_pos c_2] at hF
      exact g_perm [0, 1] rfl (wX6_takeNumber_s32 X a0 x1 x2 h0 S r ho hF)
    · rw [if_neg c_2] at hF
      refine g_aload_n X dX6_takeNumber_24 0 rfl rfl ?_
      refine g_getI X dX6_takeNumber_25 flX6_50 rfl h0 ?_
      refine g_iload_n X dX6_takeNumber_28 2 rfl rfl ?_
      refine g_icmp_le (tgt := 37) X dX6_takeNumber_29 (by decide) (fun c_8 => ?_) (fun c_8 => ?_)
      · rw [if_pos c_8] at hF
        exact g_perm [0, 1] rfl (wX6_takeNumber_s37 X a0 x1 x2 h0 S r ho hF)
      · rw [if_neg c_8] at hF
        exact g_perm [0, 1] rfl (wX6_takeNumber_s32 X a0 x1 x2 h0 S r ho hF)
  · rw [if_neg c_1] at hF
    refine g_aload_n X dX6_takeNumber_8 0 rfl rfl ?_
    refine g_iconst (v := 1) X dX6_takeNumber_9 (by decide) ?_
    refine g_callVv (As := [.int (1 : Int32)]) X dX6_takeNumber_10 mlX6_61 (fun l D cyy => tX6_fail (cx_inj X) l D cyy a0 (1 : Int32) h0 S) h0 (by decide) rfl rfl (Nat.le_of_ble_eq_true rfl) ?_
    exact g_perm [0, 1] rfl (wX6_takeNumber_s13 X a0 x1 x2 h0 (fX6_fail a0 (1 : Int32) S) r ho hF)
theorem tX6_takeNumber {ad : Nat → Nat} (hI : Inj ad) (l : Launch) (D : va_G) (cyy : Nat → ClassId) (a0 : Nat) (x1 : Int32) (x2 : Int32) (h0 : KT a0 = 6) (S : St) (r : (Int32 × St)) (hF : fX6_takeNumber a0 x1 x2 S = some r) : OkM l yX6_takeNumber cX6_takeNumber 4 (some .int) 3 ad D cyy [.ref (ad a0), .int x1, .int x2] S (some (.int r.1), r.2) := okM_of hI (by decide) (inr_13 _ (List.mem_of_getElem? (i := 4) rfl)) (by show _ ≤ 4; exact Nat.le_of_ble_eq_true rfl) (fun z X => wX6_takeNumber X a0 x1 x2 h0 S r rfl hF)
def fX6_takeSign_s13 (a0 : Nat) (x1 : Int32)   (S : St) : Option St :=
  (fX6_advance a0 S).bind fun r_2 =>
  some r_2
def fX6_takeSign (a0 : Nat) (x1 : Int32) (S : St) : Option St :=
  if (gI S 6 5 a0) = x1 then (fX6_takeSign_s13 a0 x1 S) else
  (fX6_takeSign_s13 a0 x1 (fX6_fail a0 (1 : Int32) S))
theorem wX6_takeSign_s13 {z : Mx} {ad : Nat → Nat} {o : Option Value × St} (X : CxOk z ad RX6 cX6_takeSign 2 none 3) (a0 : Nat) (x1 : Int32) (h0 : KT a0 = 6)     (S : St) (r : St) (ho : o = (none, r)) (hF : fX6_takeSign_s13 a0 x1   S = some r) : GW z ad o S 13 [(0, .ref (ad a0))] [] := by
  unfold fX6_takeSign_s13 at hF
  refine g_aload_n X dX6_takeSign_13 0 rfl rfl ?_
  obtain ⟨r_2, q_3, hF⟩ := obind hF
  refine g_callVv (As := []) X dX6_takeSign_14 mlX6_31 (fun l D cyy => tX6_advance (cx_inj X) l D cyy a0 h0 S r_2 q_3) h0 (by decide) rfl rfl (Nat.le_of_ble_eq_true rfl) ?_
  have hF := Option.some.inj hF
  subst hF
  exact g_vret X dX6_takeSign_17 ho
theorem wX6_takeSign {z : Mx} {ad : Nat → Nat} {o : Option Value × St} (X : CxOk z ad RX6 cX6_takeSign 2 none 3) (a0 : Nat) (x1 : Int32) (h0 : KT a0 = 6) (S : St) (r : St) (ho : o = (none, r)) (hF : fX6_takeSign a0 x1 S = some r) : GW z ad o S 0 [(0, .ref (ad a0)), (1, .int x1)] [] := by
  unfold fX6_takeSign at hF
  refine g_aload_n X dX6_takeSign_0 0 rfl rfl ?_
  refine g_getI X dX6_takeSign_1 flX6_43 rfl h0 ?_
  refine g_iload_n X dX6_takeSign_4 1 rfl rfl ?_
  refine g_icmp_eq (tgt := 13) X dX6_takeSign_5 (by decide) (fun c_1 => ?_) (fun c_1 => ?_)
  · rw [if_pos c_1] at hF
    exact g_perm [0] rfl (wX6_takeSign_s13 X a0 x1 h0 S r ho hF)
  · rw [if_neg c_1] at hF
    refine g_aload_n X dX6_takeSign_8 0 rfl rfl ?_
    refine g_iconst (v := 1) X dX6_takeSign_9 (by decide) ?_
    refine g_callVv (As := [.int (1 : Int32)]) X dX6_takeSign_10 mlX6_61 (fun l D cyy => tX6_fail (cx_inj X) l D cyy a0 (1 : Int32) h0 S) h0 (by decide) rfl rfl (Nat.le_of_ble_eq_true rfl) ?_
    exact g_perm [0] rfl (wX6_takeSign_s13 X a0 x1 h0 (fX6_fail a0 (1 : Int32) S) r ho hF)
theorem tX6_takeSign {ad : Nat → Nat} (hI : Inj ad) (l : Launch) (D : va_G) (cyy : Nat → ClassId) (a0 : Nat) (x1 : Int32) (h0 : KT a0 = 6) (S : St) (r : St) (hF : fX6_takeSign a0 x1 S = some r) : OkM l yX6_takeSign cX6_takeSign 2 none 3 ad D cyy [.ref (ad a0), .int x1] S (none, r) := okM_of hI (by decide) (inr_15 _ (List.mem_of_getElem? (i := 2) rfl)) (by show _ ≤ 2; exact Nat.le_of_ble_eq_true rfl) (fun z X => wX6_takeSign X a0 x1 h0 S r rfl hF)
def fX6_hasRoom (a0 : Nat) (x1 : Int32) (S : St) : Int32 :=
  if (940 : Int32) < ((gI S 6 1 a0) + x1) then ((0 : Int32)) else
  ((1 : Int32))
theorem wX6_hasRoom {z : Mx} {ad : Nat → Nat} {o : Option Value × St} (X : CxOk z ad RX6 cX6_hasRoom 2 (some .boolean) 1) (a0 : Nat) (x1 : Int32) (h0 : KT a0 = 6) (S : St) (r : Int32) (ho : o = (some (.int r), S)) (hF : fX6_hasRoom a0 x1 S = r) : GW z ad o S 0 [(0, .ref (ad a0)), (1, .int x1)] [] := by
  unfold fX6_hasRoom at hF
  refine g_aload_n X dX6_hasRoom_0 0 rfl rfl ?_
  refine g_getI X dX6_hasRoom_1 flX6_15 rfl h0 ?_
  refine g_iload_n X dX6_hasRoom_4 1 rfl rfl ?_
  refine g_iadd X dX6_hasRoom_5 ?_
  refine g_aload_n X dX6_hasRoom_6 0 rfl rfl ?_
  refine g_getR (f := 1) X dX6_hasRoom_7 flX6_9 rfl rfl h0 ?_
  refine g_alen (v := 940) X dX6_hasRoom_10 kd_12 (on_6_0 h0) (by decide) ?_
  refine g_icmp_gt (tgt := 18) X dX6_hasRoom_11 (by decide) (fun c_1 => ?_) (fun c_1 => ?_)
  · rw [if_pos c_1] at hF
    refine g_iconst (v := 0) X dX6_hasRoom_18 (by decide) ?_
    subst hF
    exact g_zret X dX6_hasRoom_19 (by decide) ho
  · rw [if_neg c_1] at hF
    refine g_iconst (v := 1) X dX6_hasRoom_14 (by decide) ?_
    refine g_goto (tgt := 19) X dX6_hasRoom_15 (by decide) ?_
    subst hF
    exact g_zret X dX6_hasRoom_19 (by decide) ho
theorem tX6_hasRoom {ad : Nat → Nat} (hI : Inj ad) (l : Launch) (D : va_G) (cyy : Nat → ClassId) (a0 : Nat) (x1 : Int32) (h0 : KT a0 = 6) (S : St) : OkM l yX6_hasRoom cX6_hasRoom 2 (some .boolean) 1 ad D cyy [.ref (ad a0), .int x1] S (some (.int (fX6_hasRoom a0 x1 S)), S) := okM_of hI (by decide) (inr_8 _ (List.mem_of_getElem? (i := 17) rfl)) (by show _ ≤ 2; exact Nat.le_of_ble_eq_true rfl) (fun z X => wX6_hasRoom X a0 x1 h0 S _ rfl rfl)
def fX6_addNumber_s42 (k3 : Int32 → St → Option St) (a0 : Nat) (x1 : Int32) (y2 : Int32)  (S : St) : Option St :=
  k3 (y2 + (-8 : Int32)) S
def fX6_addNumber_s32 (k3 : Int32 → St → Option St) (a0 : Nat) (x1 : Int32) (y2 : Int32)  (S : St) : Option St :=
  fX6_addNumber_s42 k3 a0 x1 y2 (sI S 6 1 a0 ((gI S 6 1 a0) + (1 : Int32)))
def fX6_addNumber_s3 (k3 : Int32 → St → Option St) (a0 : Nat) (x1 : Int32) (y2 : Int32)  (S : St) : Option St :=
  if y2 < 0 then (some S) else
  (if (940 : Int32) ≤ (gI S 6 1 a0) then (some S) else
  (if ((gI S 6 1 a0) < 0 ∨ 940 ≤ (gI S 6 1 a0).toNatClampNeg) then none else
  fX6_addNumber_s32 k3 a0 x1 y2 (sA S 12 (a0 + 1) ((gI S 6 1 a0).toNatClampNeg) (vp_nar .byte ((x1 >>> (y2 &&& 31)).toInt8.toInt32)))))
def fX6_addNumber_h3 (a0 : Nat) (x1 : Int32) : Nat → Int32 → St → Option St
  | 0, _, _ => none
  | n + 1, y2, S => fX6_addNumber_s3 (fX6_addNumber_h3 a0 x1 n) a0 x1 y2 S
def fX6_addNumber (a0 : Nat) (x1 : Int32) (S : St) : Option St :=
  fX6_addNumber_h3 a0 x1 NN (24 : Int32) S
theorem wX6_addNumber_s42 {z : Mx} {ad : Nat → Nat} {o : Option Value × St} (X : CxOk z ad RX6 cX6_addNumber 3 none 1) (a0 : Nat) (x1 : Int32) (h0 : KT a0 = 6) (y2 : Int32)  (k3 : Int32 → St → Option St)   (S : St) (r : St) (ho : o = (none, r)) (hk3 : ∀ (y2 : Int32) (S : St), k3 y2 S = some r → GW z ad o S 3 [(0, .ref (ad a0)), (1, .int x1), (2, .int y2)] []) (hF : fX6_addNumber_s42 k3 a0 x1 y2  S = some r) : GW z ad o S 42 [(0, .ref (ad a0)), (1, .int x1), (2, .int y2)] [] := by
  unfold fX6_addNumber_s42 at hF
  refine g_iinc (v := (y2 + (-8 : Int32))) X dX6_addNumber_42 2 rfl rfl (by decide) (lv' := [(2, .int (y2 + (-8 : Int32))), (0, .ref (ad a0)), (1, .int x1)]) rfl ?_
  refine g_goto (tgt := 3) X dX6_addNumber_45 (by decide) ?_
  exact g_perm [1, 2, 0] rfl (hk3 (y2 + (-8 : Int32)) S hF)
theorem wX6_addNumber_s32 {z : Mx} {ad : Nat → Nat} {o : Option Value × St} (X : CxOk z ad RX6 cX6_addNumber 3 none 1) (a0 : Nat) (x1 : Int32) (h0 : KT a0 = 6) (y2 : Int32)  (k3 : Int32 → St → Option St)   (S : St) (r : St) (ho : o = (none, r)) (hk3 : ∀ (y2 : Int32) (S : St), k3 y2 S = some r → GW z ad o S 3 [(0, .ref (ad a0)), (1, .int x1), (2, .int y2)] []) (hF : fX6_addNumber_s32 k3 a0 x1 y2  S = some r) : GW z ad o S 32 [(0, .ref (ad a0)), (1, .int x1), (2, .int y2)] [] := by
  unfold fX6_addNumber_s32 at hF
  refine g_aload_n X dX6_addNumber_32 0 rfl rfl ?_
  refine g_dup (a := .ref (ad a0)) X dX6_addNumber_33 rfl ?_
  refine g_getI X dX6_addNumber_34 flX6_15 rfl h0 ?_
  refine g_iconst (v := 1) X dX6_addNumber_37 (by decide) ?_
  refine g_iadd X dX6_addNumber_38 ?_
  refine g_putI X dX6_addNumber_39 fpX6_15 rfl rfl rfl h0 ?_
  exact (wX6_addNumber_s42 X a0 x1 h0 y2 k3 (sI S 6 1 a0 ((gI S 6 1 a0) + (1 : Int32))) r ho hk3 hF)
theorem wX6_addNumber_s3 {z : Mx} {ad : Nat → Nat} {o : Option Value × St} (X : CxOk z ad RX6 cX6_addNumber 3 none 1) (a0 : Nat) (x1 : Int32) (h0 : KT a0 = 6) (y2 : Int32)  (k3 : Int32 → St → Option St)   (S : St) (r : St) (ho : o = (none, r)) (hk3 : ∀ (y2 : Int32) (S : St), k3 y2 S = some r → GW z ad o S 3 [(0, .ref (ad a0)), (1, .int x1), (2, .int y2)] []) (hF : fX6_addNumber_s3 k3 a0 x1 y2  S = some r) : GW z ad o S 3 [(0, .ref (ad a0)), (1, .int x1), (2, .int y2)] [] := by
  unfold fX6_addNumber_s3 at hF
  refine g_iload_n X dX6_addNumber_3 2 rfl rfl ?_
  refine g_if_lt (tgt := 48) X dX6_addNumber_4 (by decide) (fun c_1 => ?_) (fun c_1 => ?_)
  · rw [if_pos c_1] at hF
    have hF := Option.some.inj hF
    subst hF
    exact g_vret X dX6_addNumber_48 ho
  · rw [if_neg c_1] at hF
    refine g_aload_n X dX6_addNumber_7 0 rfl rfl ?_
    refine g_getI X dX6_addNumber_8 flX6_15 rfl h0 ?_
    refine g_aload_n X dX6_addNumber_11 0 rfl rfl ?_
    refine g_getR (f := 1) X dX6_addNumber_12 flX6_9 rfl rfl h0 ?_
    refine g_alen (v := 940) X dX6_addNumber_15 kd_12 (on_6_0 h0) (by decide) ?_
    refine g_icmp_ge (tgt := 48) X dX6_addNumber_16 (by decide) (fun c_2 => ?_) (fun c_2 => ?_)
    · rw [if_pos c_2] at hF
      have hF := Option.some.inj hF
      subst hF
      exact g_vret X dX6_addNumber_48 ho
    · rw [if_neg c_2] at hF
      refine g_aload_n X dX6_addNumber_19 0 rfl rfl ?_
      refine g_getR (f := 1) X dX6_addNumber_20 flX6_9 rfl rfl h0 ?_
      refine g_aload_n X dX6_addNumber_23 0 rfl rfl ?_
      refine g_getI X dX6_addNumber_24 flX6_15 rfl h0 ?_
      refine g_iload_n X dX6_addNumber_27 1 rfl rfl ?_
      refine g_iload_n X dX6_addNumber_28 2 rfl rfl ?_
      refine g_ishr X dX6_addNumber_29 ?_
      refine g_i2b X dX6_addNumber_30 ?_
      obtain ⟨e_3, hF⟩ := oguard hF
      refine g_bast X dX6_addNumber_31 kd_12 (on_6_0 h0) e_3 ?_
      exact (wX6_addNumber_s32 X a0 x1 h0 y2 k3 (sA S 12 (a0 + 1) ((gI S 6 1 a0).toNatClampNeg) (vp_nar .byte ((x1 >>> (y2 &&& 31)).toInt8.toInt32))) r ho hk3 hF)
theorem wX6_addNumber_h3 {z : Mx} {ad : Nat → Nat} {o : Option Value × St} (X : CxOk z ad RX6 cX6_addNumber 3 none 1) (a0 : Nat) (x1 : Int32) (h0 : KT a0 = 6)  (r : St) (ho : o = (none, r)) : ∀ (n : Nat) (y2 : Int32) (S : St), fX6_addNumber_h3 a0 x1 n y2 S = some r → GW z ad o S 3 [(0, .ref (ad a0)), (1, .int x1), (2, .int y2)] [] := by
  intro n
  induction n with
  | zero => intro y2 S  hF; cases hF
  | succ n ih => intro y2 S  hF; exact wX6_addNumber_s3 X a0 x1 h0 y2 (fX6_addNumber_h3 a0 x1 n)  S r ho ih hF
theorem wX6_addNumber {z : Mx} {ad : Nat → Nat} {o : Option Value × St} (X : CxOk z ad RX6 cX6_addNumber 3 none 1) (a0 : Nat) (x1 : Int32) (h0 : KT a0 = 6) (S : St) (r : St) (ho : o = (none, r)) (hF : fX6_addNumber a0 x1 S = some r) : GW z ad o S 0 [(0, .ref (ad a0)), (1, .int x1)] [] := by
  unfold fX6_addNumber at hF
  refine g_bipush (v := 24) X dX6_addNumber_0 (by decide) ?_
  refine g_istore_n X dX6_addNumber_2 rfl (by decide) (lv' := [(2, .int (24 : Int32)), (0, .ref (ad a0)), (1, .int x1)]) rfl ?_
  exact g_perm [1, 2, 0] rfl (wX6_addNumber_h3 X a0 x1 h0 r ho NN (24 : Int32) S hF)
theorem tX6_addNumber {ad : Nat → Nat} (hI : Inj ad) (l : Launch) (D : va_G) (cyy : Nat → ClassId) (a0 : Nat) (x1 : Int32) (h0 : KT a0 = 6) (S : St) (r : St) (hF : fX6_addNumber a0 x1 S = some r) : OkM l yX6_addNumber cX6_addNumber 3 none 1 ad D cyy [.ref (ad a0), .int x1] S (none, r) := okM_of hI (by decide) (inr_8 _ (List.mem_of_getElem? (i := 22) rfl)) (by show _ ≤ 3; exact Nat.le_of_ble_eq_true rfl) (fun z X => wX6_addNumber X a0 x1 h0 S r rfl hF)
