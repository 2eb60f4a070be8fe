theorem dX11_init_0 : decode cX11_init 0 = .ok (.aload_n 0, 1) := by decide +kernel
theorem dX11_init_1 : decode cX11_init 1 = .ok (.invokespecial 27, 3) := by decide +kernel
theorem dX11_init_4 : decode cX11_init 4 = .ok (.aload_n 0, 1) := by decide +kernel
theorem dX11_init_5 : decode cX11_init 5 = .ok (.sipush 940, 3) := by decide +kernel
theorem dX11_init_8 : decode cX11_init 8 = .ok (.newarray .byte, 2) := by decide +kernel
theorem dX11_init_10 : decode cX11_init 10 = .ok (.putfield 14, 3) := by decide +kernel
theorem dX11_init_13 : decode cX11_init 13 = .ok (.aload_n 0, 1) := by decide +kernel
theorem dX11_init_14 : decode cX11_init 14 = .ok (.sipush 250, 3) := by decide +kernel
theorem dX11_init_17 : decode cX11_init 17 = .ok (.newarray .int, 2) := by decide +kernel
theorem dX11_init_19 : decode cX11_init 19 = .ok (.putfield 33, 3) := by decide +kernel
theorem dX11_init_22 : decode cX11_init 22 = .ok (.aload_n 0, 1) := by decide +kernel
theorem dX11_init_23 : decode cX11_init 23 = .ok (.bipush 52, 2) := by decide +kernel
theorem dX11_init_25 : decode cX11_init 25 = .ok (.newarray .int, 2) := by decide +kernel
theorem dX11_init_27 : decode cX11_init 27 = .ok (.putfield 37, 3) := by decide +kernel
theorem dX11_init_30 : decode cX11_init 30 = .ok (.aload_n 0, 1) := by decide +kernel
theorem dX11_init_31 : decode cX11_init 31 = .ok (.sipush 135, 3) := by decide +kernel
theorem dX11_init_34 : decode cX11_init 34 = .ok (.newarray .int, 2) := by decide +kernel
theorem dX11_init_36 : decode cX11_init 36 = .ok (.putfield 40, 3) := by decide +kernel
theorem dX11_init_39 : decode cX11_init 39 = .ok (.aload_n 0, 1) := by decide +kernel
theorem dX11_init_40 : decode cX11_init 40 = .ok (.bipush 22, 2) := by decide +kernel
theorem dX11_init_42 : decode cX11_init 42 = .ok (.newarray .long, 2) := by decide +kernel
theorem dX11_init_44 : decode cX11_init 44 = .ok (.putfield 43, 3) := by decide +kernel
theorem dX11_init_47 : decode cX11_init 47 = .ok (.aload_n 0, 1) := by decide +kernel
theorem dX11_init_48 : decode cX11_init 48 = .ok (.bipush 19, 2) := by decide +kernel
theorem dX11_init_50 : decode cX11_init 50 = .ok (.newarray .long, 2) := by decide +kernel
theorem dX11_init_52 : decode cX11_init 52 = .ok (.putfield 47, 3) := by decide +kernel
theorem dX11_init_55 : decode cX11_init 55 = .ok (.aload_n 0, 1) := by decide +kernel
theorem dX11_init_56 : decode cX11_init 56 = .ok (.sipush 136, 3) := by decide +kernel
theorem dX11_init_59 : decode cX11_init 59 = .ok (.newarray .int, 2) := by decide +kernel
theorem dX11_init_61 : decode cX11_init 61 = .ok (.putfield 50, 3) := by decide +kernel
theorem dX11_init_64 : decode cX11_init 64 = .ok (.aload_n 0, 1) := by decide +kernel
theorem dX11_init_65 : decode cX11_init 65 = .ok (.bipush 17, 2) := by decide +kernel
theorem dX11_init_67 : decode cX11_init 67 = .ok (.newarray .int, 2) := by decide +kernel
theorem dX11_init_69 : decode cX11_init 69 = .ok (.putfield 53, 3) := by decide +kernel
theorem dX11_init_72 : decode cX11_init 72 = .ok (.aload_n 0, 1) := by decide +kernel
theorem dX11_init_73 : decode cX11_init 73 = .ok (.iconst (-1), 1) := by decide +kernel
theorem dX11_init_74 : decode cX11_init 74 = .ok (.putfield 56, 3) := by decide +kernel
theorem dX11_init_77 : decode cX11_init 77 = .ok (.aload_n 0, 1) := by decide +kernel
theorem dX11_init_78 : decode cX11_init 78 = .ok (.iconst (-1), 1) := by decide +kernel
theorem dX11_init_79 : decode cX11_init 79 = .ok (.putfield 59, 3) := by decide +kernel
theorem dX11_init_82 : decode cX11_init 82 = .ok (.aload_n 0, 1) := by decide +kernel
theorem dX11_init_83 : decode cX11_init 83 = .ok (.iconst (-1), 1) := by decide +kernel
theorem dX11_init_84 : decode cX11_init 84 = .ok (.putfield 62, 3) := by decide +kernel
theorem dX11_init_87 : decode cX11_init 87 = .ok (.aload_n 0, 1) := by decide +kernel
theorem dX11_init_88 : decode cX11_init 88 = .ok (.iconst (-1), 1) := by decide +kernel
theorem dX11_init_89 : decode cX11_init 89 = .ok (.putfield 65, 3) := by decide +kernel
theorem dX11_init_92 : decode cX11_init 92 = .ok (.aload_n 0, 1) := by decide +kernel
theorem dX11_init_93 : decode cX11_init 93 = .ok (.bipush 56, 2) := by decide +kernel
theorem dX11_init_95 : decode cX11_init 95 = .ok (.newarray .byte, 2) := by decide +kernel
theorem dX11_init_97 : decode cX11_init 97 = .ok (.putfield 68, 3) := by decide +kernel
theorem dX11_init_100 : decode cX11_init 100 = .ok (.aload_n 0, 1) := by decide +kernel
theorem dX11_init_101 : decode cX11_init 101 = .ok (.iconst 4, 1) := by decide +kernel
theorem dX11_init_102 : decode cX11_init 102 = .ok (.newarray .int, 2) := by decide +kernel
theorem dX11_init_104 : decode cX11_init 104 = .ok (.putfield 71, 3) := by decide +kernel
theorem dX11_init_107 : decode cX11_init 107 = .ok (.aload_n 0, 1) := by decide +kernel
theorem dX11_init_108 : decode cX11_init 108 = .ok (.bipush 45, 2) := by decide +kernel
theorem dX11_init_110 : decode cX11_init 110 = .ok (.newarray .int, 2) := by decide +kernel
theorem dX11_init_112 : decode cX11_init 112 = .ok (.putfield 74, 3) := by decide +kernel
theorem dX11_init_115 : decode cX11_init 115 = .ok (.aload_n 0, 1) := by decide +kernel
theorem dX11_init_116 : decode cX11_init 116 = .ok (.bipush 45, 2) := by decide +kernel
theorem dX11_init_118 : decode cX11_init 118 = .ok (.newarray .boolean, 2) := by decide +kernel
theorem dX11_init_120 : decode cX11_init 120 = .ok (.putfield 77, 3) := by decide +kernel
theorem dX11_init_123 : decode cX11_init 123 = .ok (.aload_n 0, 1) := by decide +kernel
theorem dX11_init_124 : decode cX11_init 124 = .ok (.sipush 500, 3) := by decide +kernel
theorem dX11_init_127 : decode cX11_init 127 = .ok (.newarray .int, 2) := by decide +kernel
theorem dX11_init_129 : decode cX11_init 129 = .ok (.putfield 81, 3) := by decide +kernel
theorem dX11_init_132 : decode cX11_init 132 = .ok (.aload_n 0, 1) := by decide +kernel
theorem dX11_init_133 : decode cX11_init 133 = .ok (.bipush 22, 2) := by decide +kernel
theorem dX11_init_135 : decode cX11_init 135 = .ok (.newarray .long, 2) := by decide +kernel
theorem dX11_init_137 : decode cX11_init 137 = .ok (.putfield 84, 3) := by decide +kernel
theorem dX11_init_140 : decode cX11_init 140 = .ok (.aload_n 0, 1) := by decide +kernel
theorem dX11_init_141 : decode cX11_init 141 = .ok (.iconst 2, 1) := by decide +kernel
theorem dX11_init_142 : decode cX11_init 142 = .ok (.newarray .boolean, 2) := by decide +kernel
theorem dX11_init_144 : decode cX11_init 144 = .ok (.putfield 87, 3) := by decide +kernel
theorem dX11_init_147 : decode cX11_init 147 = .ok (.aload_n 0, 1) := by decide +kernel
theorem dX11_init_148 : decode cX11_init 148 = .ok (.getfield 47, 3) := by decide +kernel
theorem dX11_init_151 : decode cX11_init 151 = .ok (.iconst 0, 1) := by decide +kernel
theorem dX11_init_152 : decode cX11_init 152 = .ok (.ldc2_w 90, 3) := by decide +kernel
theorem dX11_init_155 : decode cX11_init 155 = .ok (.lastore, 1) := by decide +kernel
theorem dX11_init_156 : decode cX11_init 156 = .ok (.aload_n 0, 1) := by decide +kernel
theorem dX11_init_157 : decode cX11_init 157 = .ok (.getfield 47, 3) := by decide +kernel
theorem dX11_init_160 : decode cX11_init 160 = .ok (.iconst 1, 1) := by decide +kernel
theorem dX11_init_161 : decode cX11_init 161 = .ok (.ldc2_w 92, 3) := by decide +kernel
theorem dX11_init_164 : decode cX11_init 164 = .ok (.lastore, 1) := by decide +kernel
theorem dX11_init_165 : decode cX11_init 165 = .ok (.aload_n 0, 1) := by decide +kernel
theorem dX11_init_166 : decode cX11_init 166 = .ok (.getfield 47, 3) := by decide +kernel
theorem dX11_init_169 : decode cX11_init 169 = .ok (.iconst 2, 1) := by decide +kernel
theorem dX11_init_170 : decode cX11_init 170 = .ok (.ldc2_w 94, 3) := by decide +kernel
theorem dX11_init_173 : decode cX11_init 173 = .ok (.lastore, 1) := by decide +kernel
theorem dX11_init_174 : decode cX11_init 174 = .ok (.aload_n 0, 1) := by decide +kernel
theorem dX11_init_175 : decode cX11_init 175 = .ok (.getfield 47, 3) := by decide +kernel
theorem dX11_init_178 : decode cX11_init 178 = .ok (.iconst 3, 1) := by decide +kernel
theorem dX11_init_179 : decode cX11_init 179 = .ok (.ldc2_w 96, 3) := by decide +kernel
theorem dX11_init_182 : decode cX11_init 182 = .ok (.lastore, 1) := by decide +kernel
theorem dX11_init_183 : decode cX11_init 183 = .ok (.aload_n 0, 1) := by decide +kernel
theorem dX11_init_184 : decode cX11_init 184 = .ok (.getfield 47, 3) := by decide +kernel
theorem dX11_init_187 : decode cX11_init 187 = .ok (.iconst 4, 1) := by decide +kernel
theorem dX11_init_188 : decode cX11_init 188 = .ok (.ldc2_w 98, 3) := by decide +kernel
theorem dX11_init_191 : decode cX11_init 191 = .ok (.lastore, 1) := by decide +kernel
theorem dX11_init_192 : decode cX11_init 192 = .ok (.aload_n 0, 1) := by decide +kernel
theorem dX11_init_193 : decode cX11_init 193 = .ok (.getfield 47, 3) := by decide +kernel
theorem dX11_init_196 : decode cX11_init 196 = .ok (.iconst 5, 1) := by decide +kernel
theorem dX11_init_197 : decode cX11_init 197 = .ok (.ldc2_w 100, 3) := by decide +kernel
theorem dX11_init_200 : decode cX11_init 200 = .ok (.lastore, 1) := by decide +kernel
theorem dX11_init_201 : decode cX11_init 201 = .ok (.aload_n 0, 1) := by decide +kernel
theorem dX11_init_202 : decode cX11_init 202 = .ok (.getfield 47, 3) := by decide +kernel
theorem dX11_init_205 : decode cX11_init 205 = .ok (.bipush 6, 2) := by decide +kernel
theorem dX11_init_207 : decode cX11_init 207 = .ok (.ldc2_w 102, 3) := by decide +kernel
theorem dX11_init_210 : decode cX11_init 210 = .ok (.lastore, 1) := by decide +kernel
theorem dX11_init_211 : decode cX11_init 211 = .ok (.aload_n 0, 1) := by decide +kernel
theorem dX11_init_212 : decode cX11_init 212 = .ok (.getfield 47, 3) := by decide +kernel
theorem dX11_init_215 : decode cX11_init 215 = .ok (.bipush 7, 2) := by decide +kernel
theorem dX11_init_217 : decode cX11_init 217 = .ok (.ldc2_w 104, 3) := by decide +kernel
theorem dX11_init_220 : decode cX11_init 220 = .ok (.lastore, 1) := by decide +kernel
theorem dX11_init_221 : decode cX11_init 221 = .ok (.aload_n 0, 1) := by decide +kernel
theorem dX11_init_222 : decode cX11_init 222 = .ok (.getfield 47, 3) := by decide +kernel
theorem dX11_init_225 : decode cX11_init 225 = .ok (.bipush 8, 2) := by decide +kernel
theorem dX11_init_227 : decode cX11_init 227 = .ok (.ldc2_w 106, 3) := by decide +kernel
theorem dX11_init_230 : decode cX11_init 230 = .ok (.lastore, 1) := by decide +kernel
theorem dX11_init_231 : decode cX11_init 231 = .ok (.aload_n 0, 1) := by decide +kernel
theorem dX11_init_232 : decode cX11_init 232 = .ok (.getfield 47, 3) := by decide +kernel
theorem dX11_init_235 : decode cX11_init 235 = .ok (.bipush 9, 2) := by decide +kernel
theorem dX11_init_237 : decode cX11_init 237 = .ok (.ldc2_w 108, 3) := by decide +kernel
theorem dX11_init_240 : decode cX11_init 240 = .ok (.lastore, 1) := by decide +kernel
theorem dX11_init_241 : decode cX11_init 241 = .ok (.aload_n 0, 1) := by decide +kernel
theorem dX11_init_242 : decode cX11_init 242 = .ok (.getfield 47, 3) := by decide +kernel
theorem dX11_init_245 : decode cX11_init 245 = .ok (.bipush 10, 2) := by decide +kernel
theorem dX11_init_247 : decode cX11_init 247 = .ok (.ldc2_w 110, 3) := by decide +kernel
theorem dX11_init_250 : decode cX11_init 250 = .ok (.lastore, 1) := by decide +kernel
theorem dX11_init_251 : decode cX11_init 251 = .ok (.aload_n 0, 1) := by decide +kernel
theorem dX11_init_252 : decode cX11_init 252 = .ok (.getfield 47, 3) := by decide +kernel
theorem dX11_init_255 : decode cX11_init 255 = .ok (.bipush 11, 2) := by decide +kernel
theorem dX11_init_257 : decode cX11_init 257 = .ok (.ldc2_w 112, 3) := by decide +kernel
theorem dX11_init_260 : decode cX11_init 260 = .ok (.lastore, 1) := by decide +kernel
theorem dX11_init_261 : decode cX11_init 261 = .ok (.aload_n 0, 1) := by decide +kernel
theorem dX11_init_262 : decode cX11_init 262 = .ok (.getfield 47, 3) := by decide +kernel
theorem dX11_init_265 : decode cX11_init 265 = .ok (.bipush 12, 2) := by decide +kernel
theorem dX11_init_267 : decode cX11_init 267 = .ok (.ldc2_w 114, 3) := by decide +kernel
theorem dX11_init_270 : decode cX11_init 270 = .ok (.lastore, 1) := by decide +kernel
theorem dX11_init_271 : decode cX11_init 271 = .ok (.aload_n 0, 1) := by decide +kernel
theorem dX11_init_272 : decode cX11_init 272 = .ok (.getfield 47, 3) := by decide +kernel
theorem dX11_init_275 : decode cX11_init 275 = .ok (.bipush 13, 2) := by decide +kernel
theorem dX11_init_277 : decode cX11_init 277 = .ok (.ldc2_w 116, 3) := by decide +kernel
theorem dX11_init_280 : decode cX11_init 280 = .ok (.lastore, 1) := by decide +kernel
theorem dX11_init_281 : decode cX11_init 281 = .ok (.aload_n 0, 1) := by decide +kernel
theorem dX11_init_282 : decode cX11_init 282 = .ok (.getfield 47, 3) := by decide +kernel
theorem dX11_init_285 : decode cX11_init 285 = .ok (.bipush 14, 2) := by decide +kernel
theorem dX11_init_287 : decode cX11_init 287 = .ok (.ldc2_w 118, 3) := by decide +kernel
theorem dX11_init_290 : decode cX11_init 290 = .ok (.lastore, 1) := by decide +kernel
theorem dX11_init_291 : decode cX11_init 291 = .ok (.aload_n 0, 1) := by decide +kernel
theorem dX11_init_292 : decode cX11_init 292 = .ok (.getfield 47, 3) := by decide +kernel
theorem dX11_init_295 : decode cX11_init 295 = .ok (.bipush 15, 2) := by decide +kernel
theorem dX11_init_297 : decode cX11_init 297 = .ok (.ldc2_w 120, 3) := by decide +kernel
theorem dX11_init_300 : decode cX11_init 300 = .ok (.lastore, 1) := by decide +kernel
theorem dX11_init_301 : decode cX11_init 301 = .ok (.aload_n 0, 1) := by decide +kernel
theorem dX11_init_302 : decode cX11_init 302 = .ok (.getfield 47, 3) := by decide +kernel
theorem dX11_init_305 : decode cX11_init 305 = .ok (.bipush 16, 2) := by decide +kernel
theorem dX11_init_307 : decode cX11_init 307 = .ok (.ldc2_w 122, 3) := by decide +kernel
theorem dX11_init_310 : decode cX11_init 310 = .ok (.lastore, 1) := by decide +kernel
theorem dX11_init_311 : decode cX11_init 311 = .ok (.aload_n 0, 1) := by decide +kernel
theorem dX11_init_312 : decode cX11_init 312 = .ok (.getfield 47, 3) := by decide +kernel
theorem dX11_init_315 : decode cX11_init 315 = .ok (.bipush 17, 2) := by decide +kernel
theorem dX11_init_317 : decode cX11_init 317 = .ok (.ldc2_w 124, 3) := by decide +kernel
theorem dX11_init_320 : decode cX11_init 320 = .ok (.lastore, 1) := by decide +kernel
theorem dX11_init_321 : decode cX11_init 321 = .ok (.aload_n 0, 1) := by decide +kernel
theorem dX11_init_322 : decode cX11_init 322 = .ok (.getfield 47, 3) := by decide +kernel
theorem dX11_init_325 : decode cX11_init 325 = .ok (.bipush 18, 2) := by decide +kernel
theorem dX11_init_327 : decode cX11_init 327 = .ok (.ldc2_w 126, 3) := by decide +kernel
theorem dX11_init_330 : decode cX11_init 330 = .ok (.lastore, 1) := by decide +kernel
theorem dX11_init_331 : decode cX11_init 331 = .ok (.aload_n 0, 1) := by decide +kernel
theorem dX11_init_332 : decode cX11_init 332 = .ok (.invokevirtual 128, 3) := by decide +kernel
theorem dX11_init_335 : decode cX11_init 335 = .ok (.iconst 0, 1) := by decide +kernel
theorem dX11_init_336 : decode cX11_init 336 = .ok (.istore_n 1, 1) := by decide +kernel
theorem dX11_init_337 : decode cX11_init 337 = .ok (.iload_n 1, 1) := by decide +kernel
theorem dX11_init_338 : decode cX11_init 338 = .ok (.bipush 52, 2) := by decide +kernel
theorem dX11_init_340 : decode cX11_init 340 = .ok (.if_icmp .ge 21, 3) := by decide +kernel
theorem dX11_init_343 : decode cX11_init 343 = .ok (.aload_n 0, 1) := by decide +kernel
theorem dX11_init_344 : decode cX11_init 344 = .ok (.getfield 33, 3) := by decide +kernel
theorem dX11_init_347 : decode cX11_init 347 = .ok (.iload_n 1, 1) := by decide +kernel
theorem dX11_init_348 : decode cX11_init 348 = .ok (.aload_n 0, 1) := by decide +kernel
theorem dX11_init_349 : decode cX11_init 349 = .ok (.getfield 37, 3) := by decide +kernel
theorem dX11_init_352 : decode cX11_init 352 = .ok (.iload_n 1, 1) := by decide +kernel
theorem dX11_init_353 : decode cX11_init 353 = .ok (.iaload, 1) := by decide +kernel
theorem dX11_init_354 : decode cX11_init 354 = .ok (.iastore, 1) := by decide +kernel
theorem dX11_init_355 : decode cX11_init 355 = .ok (.iinc 1 1, 3) := by decide +kernel
theorem dX11_init_358 : decode cX11_init 358 = .ok (.goto (-21), 3) := by decide +kernel
theorem dX11_init_361 : decode cX11_init 361 = .ok (.return_, 1) := by decide +kernel
def fX11_init_s355 (k337 : Int32 → St → Option St) (a0 : Nat) (y1 : Int32)  (S : St) : Option St :=
  k337 (y1 + (1 : Int32)) S
def fX11_init_s337 (k337 : Int32 → St → Option St) (a0 : Nat) (y1 : Int32)  (S : St) : Option St :=
  if (52 : Int32) ≤ y1 then (some S) else
  (if (y1 < 0 ∨ 52 ≤ y1.toNatClampNeg) then none else
  if (y1 < 0 ∨ 250 ≤ y1.toNatClampNeg) then none else
  fX11_init_s355 k337 a0 y1 (sA S 29 (a0 + 2) y1.toNatClampNeg (gA S 30 (a0 + 3) y1.toNatClampNeg)))
def fX11_init_h337 (a0 : Nat) : Nat → Int32 → St → Option St
  | 0, _, _ => none
  | n + 1, y1, S => fX11_init_s337 (fX11_init_h337 a0 n) a0 y1 S
def fX11_init_s331 (a0 : Nat)   (S : St) : Option St :=
  (fX11_clears a0 S).bind fun r_1 =>
  fX11_init_h337 a0 NN (0 : Int32) r_1
def fX11_init_s321 (a0 : Nat)   (S : St) : Option St :=
  fX11_init_s331 a0 (sB S 33 (a0 + 6) 18 (121450625394034 : Int64))
def fX11_init_s311 (a0 : Nat)   (S : St) : Option St :=
  fX11_init_s321 a0 (sB S 33 (a0 + 6) 17 (2003133803 : Int64))
def fX11_init_s301 (a0 : Nat)   (S : St) : Option St :=
  fX11_init_s311 a0 (sB S 33 (a0 + 6) 16 (1684108389 : Int64))
def fX11_init_s291 (a0 : Nat)   (S : St) : Option St :=
  fX11_init_s301 a0 (sB S 33 (a0 + 6) 15 (470020945000 : Int64))
def fX11_init_s281 (a0 : Nat)   (S : St) : Option St :=
  fX11_init_s291 a0 (sB S 33 (a0 + 6) 14 (2036687218 : Int64))
def fX11_init_s271 (a0 : Nat)   (S : St) : Option St :=
  fX11_init_s281 a0 (sB S 33 (a0 + 6) 13 (2003399784 : Int64))
def fX11_init_s261 (a0 : Nat)   (S : St) : Option St :=
  fX11_init_s271 a0 (sB S 33 (a0 + 6) 12 (461262647411 : Int64))
def fX11_init_s251 (a0 : Nat)   (S : St) : Option St :=
  fX11_init_s261 a0 (sB S 33 (a0 + 6) 11 (1751477348 : Int64))
def fX11_init_s241 (a0 : Nat)   (S : St) : Option St :=
  fX11_init_s251 a0 (sB S 33 (a0 + 6) 10 (27696098611389806 : Int64))
def fX11_init_s231 (a0 : Nat)   (S : St) : Option St :=
  fX11_init_s241 a0 (sB S 33 (a0 + 6) 9 (7237492 : Int64))
def fX11_init_s221 (a0 : Nat)   (S : St) : Option St :=
  fX11_init_s231 a0 (sB S 33 (a0 + 6) 8 (6385252 : Int64))
def fX11_init_s211 (a0 : Nat)   (S : St) : Option St :=
  fX11_init_s221 a0 (sB S 33 (a0 + 6) 7 (28530 : Int64))
def fX11_init_s201 (a0 : Nat)   (S : St) : Option St :=
  fX11_init_s211 a0 (sB S 33 (a0 + 6) 6 (6578553 : Int64))
def fX11_init_s192 (a0 : Nat)   (S : St) : Option St :=
  fX11_init_s201 a0 (sB S 33 (a0 + 6) 5 (495723311219 : Int64))
def fX11_init_s183 (a0 : Nat)   (S : St) : Option St :=
  fX11_init_s192 a0 (sB S 33 (a0 + 6) 4 (448545973363 : Int64))
def fX11_init_s174 (a0 : Nat)   (S : St) : Option St :=
  fX11_init_s183 a0 (sB S 33 (a0 + 6) 3 (7566702 : Int64))
def fX11_init_s165 (a0 : Nat)   (S : St) : Option St :=
  fX11_init_s174 a0 (sB S 33 (a0 + 6) 2 (439787549556 : Int64))
def fX11_init_s156 (a0 : Nat)   (S : St) : Option St :=
  fX11_init_s165 a0 (sB S 33 (a0 + 6) 1 (1818583408 : Int64))
def fX11_init (a0 : Nat) (S : St) : Option St :=
  fX11_init_s156 a0 (sB S 33 (a0 + 6) 0 (123563833652072 : Int64))
theorem wX11_init_s355 {z : Mx} {ad : Nat → Nat} {o : Option Value × St} (X : CxOk z ad RX11 cX11_init 2 none 1000) (a0 : Nat) (h0 : KT a0 = 11) (y1 : Int32)  (k337 : Int32 → St → Option St)   (S : St) (r : St) (ho : ∀ (S : St) (pc : Nat) (lv : List (Nat × Value)), decode cX11_init pc = .ok (.return_, 1) → r = S → GW z ad o S pc lv []) (hk337 : ∀ (y1 : Int32) (S : St), k337 y1 S = some r → GW z ad o S 337 [(0, .ref (ad a0)), (1, .int y1)] []) (hF : fX11_init_s355 k337 a0 y1  S = some r) : GW z ad o S 355 [(0, .ref (ad a0)), (1, .int y1)] [] := by
  unfold fX11_init_s355 at hF
  refine g_iinc (v := (y1 + (1 : Int32))) X dX11_init_355 1 rfl rfl (by decide) (lv' := [(1, .int (y1 + (1 : Int32))), (0, .ref (ad a0))]) rfl ?_
  refine g_goto (tgt := 337) X dX11_init_358 (by decide) ?_
  exact g_perm [1, 0] rfl (hk337 (y1 + (1 : Int32)) S hF)
theorem wX11_init_s337 {z : Mx} {ad : Nat → Nat} {o : Option Value × St} (X : CxOk z ad RX11 cX11_init 2 none 1000) (a0 : Nat) (h0 : KT a0 = 11) (y1 : Int32)  (k337 : Int32 → St → Option St)   (S : St) (r : St) (ho : ∀ (S : St) (pc : Nat) (lv : List (Nat × Value)), decode cX11_init pc = .ok (.return_, 1) → r = S → GW z ad o S pc lv []) (hk337 : ∀ (y1 : Int32) (S : St), k337 y1 S = some r → GW z ad o S 337 [(0, .ref (ad a0)), (1, .int y1)] []) (hF : fX11_init_s337 k337 a0 y1  S = some r) : GW z ad o S 337 [(0, .ref (ad a0)), (1, .int y1)] [] := by
  unfold fX11_init_s337 at hF
  refine g_iload_n X dX11_init_337 1 rfl rfl ?_
  refine g_bipush (v := 52) X dX11_init_338 (by decide) ?_
  refine g_icmp_ge (tgt := 361) X dX11_init_340 (by decide) (fun c_3 => ?_) (fun c_3 => ?_)
  · rw [if_pos c_3] at hF
    have hF := Option.some.inj hF
    subst hF
    exact ho _ _ _ dX11_init_361 rfl
  · rw [if_neg c_3] at hF
    refine g_aload_n X dX11_init_343 0 rfl rfl ?_
    refine g_getR (f := 2) X dX11_init_344 flX11_33 rfl rfl h0 ?_
    refine g_iload_n X dX11_init_347 1 rfl rfl ?_
    refine g_aload_n X dX11_init_348 0 rfl rfl ?_
    refine g_getR (f := 3) X dX11_init_349 flX11_37 rfl rfl h0 ?_
    refine g_iload_n X dX11_init_352 1 rfl rfl ?_
    obtain ⟨e_4, hF⟩ := oguard hF
    refine g_iald X dX11_init_353 kd_30 (on_11_7 h0) e_4 ?_
    obtain ⟨e_5, hF⟩ := oguard hF
    refine g_iast X dX11_init_354 kd_29 (on_11_6 h0) e_5 ?_
    exact (wX11_init_s355 X a0 h0 y1 k337 (sA S 29 (a0 + 2) y1.toNatClampNeg (gA S 30 (a0 + 3) y1.toNatClampNeg)) r ho hk337 hF)
theorem wX11_init_h337 {z : Mx} {ad : Nat → Nat} {o : Option Value × St} (X : CxOk z ad RX11 cX11_init 2 none 1000) (a0 : Nat) (h0 : KT a0 = 11)  (r : St) (ho : ∀ (S : St) (pc : Nat) (lv : List (Nat × Value)), decode cX11_init pc = .ok (.return_, 1) → r = S → GW z ad o S pc lv []) : ∀ (n : Nat) (y1 : Int32) (S : St), fX11_init_h337 a0 n y1 S = some r → GW z ad o S 337 [(0, .ref (ad a0)), (1, .int y1)] [] := by
  intro n
  induction n with
  | zero => intro y1 S  hF; cases hF
  | succ n ih => intro y1 S  hF; exact wX11_init_s337 X a0 h0 y1 (fX11_init_h337 a0 n)  S r ho ih hF
theorem wX11_init_s331 {z : Mx} {ad : Nat → Nat} {o : Option Value × St} (X : CxOk z ad RX11 cX11_init 2 none 1000) (a0 : Nat) (h0 : KT a0 = 11)     (S : St) (r : St) (ho : ∀ (S : St) (pc : Nat) (lv : List (Nat × Value)), decode cX11_init pc = .ok (.return_, 1) → r = S → GW z ad o S pc lv []) (hF : fX11_init_s331 a0   S = some r) : GW z ad o S 331 [(0, .ref (ad a0))] [] := by
  unfold fX11_init_s331 at hF
  refine g_aload_n X dX11_init_331 0 rfl rfl ?_
  obtain ⟨r_1, q_2, hF⟩ := obind hF
  refine g_callVv (As := []) X dX11_init_332 mlX11_128 (fun l D cyy => tX11_clears (cx_inj X) l D cyy a0 h0 S r_1 q_2) h0 (by decide) rfl rfl (Nat.le_of_ble_eq_true rfl) ?_
  refine g_iconst (v := 0) X dX11_init_335 (by decide) ?_
  refine g_istore_n X dX11_init_336 rfl (by decide) (lv' := [(1, .int (0 : Int32)), (0, .ref (ad a0))]) rfl ?_
  exact g_perm [1, 0] rfl (wX11_init_h337 X a0 h0 r ho NN (0 : Int32) r_1 hF)
theorem wX11_init_s321 {z : Mx} {ad : Nat → Nat} {o : Option Value × St} (X : CxOk z ad RX11 cX11_init 2 none 1000) (a0 : Nat) (h0 : KT a0 = 11)     (S : St) (r : St) (ho : ∀ (S : St) (pc : Nat) (lv : List (Nat × Value)), decode cX11_init pc = .ok (.return_, 1) → r = S → GW z ad o S pc lv []) (hF : fX11_init_s321 a0   S = some r) : GW z ad o S 321 [(0, .ref (ad a0))] [] := by
  unfold fX11_init_s321 at hF
  refine g_aload_n X dX11_init_321 0 rfl rfl ?_
  refine g_getR (f := 6) X dX11_init_322 flX11_47 rfl rfl h0 ?_
  refine g_bipush (v := 18) X dX11_init_325 (by decide) ?_
  refine g_ldc2 (v := 121450625394034) X dX11_init_327 (inr_8 _ (List.mem_of_getElem? (i := 4) rfl)) ?_
  refine g_lastK (j := 18) X dX11_init_330 kd_33 (on_11_10 h0) (by decide) (by decide) ?_
  exact (wX11_init_s331 X a0 h0 (sB S 33 (a0 + 6) 18 (121450625394034 : Int64)) r ho hF)
theorem wX11_init_s311 {z : Mx} {ad : Nat → Nat} {o : Option Value × St} (X : CxOk z ad RX11 cX11_init 2 none 1000) (a0 : Nat) (h0 : KT a0 = 11)     (S : St) (r : St) (ho : ∀ (S : St) (pc : Nat) (lv : List (Nat × Value)), decode cX11_init pc = .ok (.return_, 1) → r = S → GW z ad o S pc lv []) (hF : fX11_init_s311 a0   S = some r) : GW z ad o S 311 [(0, .ref (ad a0))] [] := by
  unfold fX11_init_s311 at hF
  refine g_aload_n X dX11_init_311 0 rfl rfl ?_
  refine g_getR (f := 6) X dX11_init_312 flX11_47 rfl rfl h0 ?_
  refine g_bipush (v := 17) X dX11_init_315 (by decide) ?_
  refine g_ldc2 (v := 2003133803) X dX11_init_317 (inr_8 _ (List.mem_of_getElem? (i := 3) rfl)) ?_
  refine g_lastK (j := 17) X dX11_init_320 kd_33 (on_11_10 h0) (by decide) (by decide) ?_
  exact (wX11_init_s321 X a0 h0 (sB S 33 (a0 + 6) 17 (2003133803 : Int64)) r ho hF)
theorem wX11_init_s301 {z : Mx} {ad : Nat → Nat} {o : Option Value × St} (X : CxOk z ad RX11 cX11_init 2 none 1000) (a0 : Nat) (h0 : KT a0 = 11)     (S : St) (r : St) (ho : ∀ (S : St) (pc : Nat) (lv : List (Nat × Value)), decode cX11_init pc = .ok (.return_, 1) → r = S → GW z ad o S pc lv []) (hF : fX11_init_s301 a0   S = some r) : GW z ad o S 301 [(0, .ref (ad a0))] [] := by
  unfold fX11_init_s301 at hF
  refine g_aload_n X dX11_init_301 0 rfl rfl ?_
  refine g_getR (f := 6) X dX11_init_302 flX11_47 rfl rfl h0 ?_
  refine g_bipush (v := 16) X dX11_init_305 (by decide) ?_
  refine g_ldc2 (v := 1684108389) X dX11_init_307 (inr_8 _ (List.mem_of_getElem? (i := 2) rfl)) ?_
  refine g_lastK (j := 16) X dX11_init_310 kd_33 (on_11_10 h0) (by decide) (by decide) ?_
  exact (wX11_init_s311 X a0 h0 (sB S 33 (a0 + 6) 16 (1684108389 : Int64)) r ho hF)
theorem wX11_init_s291 {z : Mx} {ad : Nat → Nat} {o : Option Value × St} (X : CxOk z ad RX11 cX11_init 2 none 1000) (a0 : Nat) (h0 : KT a0 = 11)     (S : St) (r : St) (ho : ∀ (S : St) (pc : Nat) (lv : List (Nat × Value)), decode cX11_init pc = .ok (.return_, 1) → r = S → GW z ad o S pc lv []) (hF : fX11_init_s291 a0   S = some r) : GW z ad o S 291 [(0, .ref (ad a0))] [] := by
  unfold fX11_init_s291 at hF
  refine g_aload_n X dX11_init_291 0 rfl rfl ?_
  refine g_getR (f := 6) X dX11_init_292 flX11_47 rfl rfl h0 ?_
  refine g_bipush (v := 15) X dX11_init_295 (by decide) ?_
  refine g_ldc2 (v := 470020945000) X dX11_init_297 (inr_8 _ (List.mem_of_getElem? (i := 1) rfl)) ?_
  refine g_lastK (j := 15) X dX11_init_300 kd_33 (on_11_10 h0) (by decide) (by decide) ?_
  exact (wX11_init_s301 X a0 h0 (sB S 33 (a0 + 6) 15 (470020945000 : Int64)) r ho hF)
theorem wX11_init_s281 {z : Mx} {ad : Nat → Nat} {o : Option Value × St} (X : CxOk z ad RX11 cX11_init 2 none 1000) (a0 : Nat) (h0 : KT a0 = 11)     (S : St) (r : St) (ho : ∀ (S : St) (pc : Nat) (lv : List (Nat × Value)), decode cX11_init pc = .ok (.return_, 1) → r = S → GW z ad o S pc lv []) (hF : fX11_init_s281 a0   S = some r) : GW z ad o S 281 [(0, .ref (ad a0))] [] := by
  unfold fX11_init_s281 at hF
  refine g_aload_n X dX11_init_281 0 rfl rfl ?_
  refine g_getR (f := 6) X dX11_init_282 flX11_47 rfl rfl h0 ?_
  refine g_bipush (v := 14) X dX11_init_285 (by decide) ?_
  refine g_ldc2 (v := 2036687218) X dX11_init_287 (inr_8 _ (List.mem_of_getElem? (i := 0) rfl)) ?_
  refine g_lastK (j := 14) X dX11_init_290 kd_33 (on_11_10 h0) (by decide) (by decide) ?_
  exact (wX11_init_s291 X a0 h0 (sB S 33 (a0 + 6) 14 (2036687218 : Int64)) r ho hF)
theorem wX11_init_s271 {z : Mx} {ad : Nat → Nat} {o : Option Value × St} (X : CxOk z ad RX11 cX11_init 2 none 1000) (a0 : Nat) (h0 : KT a0 = 11)     (S : St) (r : St) (ho : ∀ (S : St) (pc : Nat) (lv : List (Nat × Value)), decode cX11_init pc = .ok (.return_, 1) → r = S → GW z ad o S pc lv []) (hF : fX11_init_s271 a0   S = some r) : GW z ad o S 271 [(0, .ref (ad a0))] [] := by
  unfold fX11_init_s271 at hF
  refine g_aload_n X dX11_init_271 0 rfl rfl ?_
  refine g_getR (f := 6) X dX11_init_272 flX11_47 rfl rfl h0 ?_
  refine g_bipush (v := 13) X dX11_init_275 (by decide) ?_
  refine g_ldc2 (v := 2003399784) X dX11_init_277 (inr_7 _ (List.mem_of_getElem? (i := 23) rfl)) ?_
  refine g_lastK (j := 13) X dX11_init_280 kd_33 (on_11_10 h0) (by decide) (by decide) ?_
  exact (wX11_init_s281 X a0 h0 (sB S 33 (a0 + 6) 13 (2003399784 : Int64)) r ho hF)
theorem wX11_init_s261 {z : Mx} {ad : Nat → Nat} {o : Option Value × St} (X : CxOk z ad RX11 cX11_init 2 none 1000) (a0 : Nat) (h0 : KT a0 = 11)     (S : St) (r : St) (ho : ∀ (S : St) (pc : Nat) (lv : List (Nat × Value)), decode cX11_init pc = .ok (.return_, 1) → r = S → GW z ad o S pc lv []) (hF : fX11_init_s261 a0   S = some r) : GW z ad o S 261 [(0, .ref (ad a0))] [] := by
  unfold fX11_init_s261 at hF
  refine g_aload_n X dX11_init_261 0 rfl rfl ?_
  refine g_getR (f := 6) X dX11_init_262 flX11_47 rfl rfl h0 ?_
  refine g_bipush (v := 12) X dX11_init_265 (by decide) ?_
  refine g_ldc2 (v := 461262647411) X dX11_init_267 (inr_7 _ (List.mem_of_getElem? (i := 22) rfl)) ?_
  refine g_lastK (j := 12) X dX11_init_270 kd_33 (on_11_10 h0) (by decide) (by decide) ?_
  exact (wX11_init_s271 X a0 h0 (sB S 33 (a0 + 6) 12 (461262647411 : Int64)) r ho hF)
theorem wX11_init_s251 {z : Mx} {ad : Nat → Nat} {o : Option Value × St} (X : CxOk z ad RX11 cX11_init 2 none 1000) (a0 : Nat) (h0 : KT a0 = 11)     (S : St) (r : St) (ho : ∀ (S : St) (pc : Nat) (lv : List (Nat × Value)), decode cX11_init pc = .ok (.return_, 1) → r = S → GW z ad o S pc lv []) (hF : fX11_init_s251 a0   S = some r) : GW z ad o S 251 [(0, .ref (ad a0))] [] := by
  unfold fX11_init_s251 at hF
  refine g_aload_n X dX11_init_251 0 rfl rfl ?_
  refine g_getR (f := 6) X dX11_init_252 flX11_47 rfl rfl h0 ?_
  refine g_bipush (v := 11) X dX11_init_255 (by decide) ?_
  refine g_ldc2 (v := 1751477348) X dX11_init_257 (inr_7 _ (List.mem_of_getElem? (i := 21) rfl)) ?_
  refine g_lastK (j := 11) X dX11_init_260 kd_33 (on_11_10 h0) (by decide) (by decide) ?_
  exact (wX11_init_s261 X a0 h0 (sB S 33 (a0 + 6) 11 (1751477348 : Int64)) r ho hF)
theorem wX11_init_s241 {z : Mx} {ad : Nat → Nat} {o : Option Value × St} (X : CxOk z ad RX11 cX11_init 2 none 1000) (a0 : Nat) (h0 : KT a0 = 11)     (S : St) (r : St) (ho : ∀ (S : St) (pc : Nat) (lv : List (Nat × Value)), decode cX11_init pc = .ok (.return_, 1) → r = S → GW z ad o S pc lv []) (hF : fX11_init_s241 a0   S = some r) : GW z ad o S 241 [(0, .ref (ad a0))] [] := by
  unfold fX11_init_s241 at hF
  refine g_aload_n X dX11_init_241 0 rfl rfl ?_
  refine g_getR (f := 6) X dX11_init_242 flX11_47 rfl rfl h0 ?_
  refine g_bipush (v := 10) X dX11_init_245 (by decide) ?_
  refine g_ldc2 (v := 27696098611389806) X dX11_init_247 (inr_7 _ (List.mem_of_getElem? (i := 20) rfl)) ?_
  refine g_lastK (j := 10) X dX11_init_250 kd_33 (on_11_10 h0) (by decide) (by decide) ?_
  exact (wX11_init_s251 X a0 h0 (sB S 33 (a0 + 6) 10 (27696098611389806 : Int64)) r ho hF)
theorem wX11_init_s231 {z : Mx} {ad : Nat → Nat} {o : Option Value × St} (X : CxOk z ad RX11 cX11_init 2 none 1000) (a0 : Nat) (h0 : KT a0 = 11)     (S : St) (r : St) (ho : ∀ (S : St) (pc : Nat) (lv : List (Nat × Value)), decode cX11_init pc = .ok (.return_, 1) → r = S → GW z ad o S pc lv []) (hF : fX11_init_s231 a0   S = some r) : GW z ad o S 231 [(0, .ref (ad a0))] [] := by
  unfold fX11_init_s231 at hF
  refine g_aload_n X dX11_init_231 0 rfl rfl ?_
  refine g_getR (f := 6) X dX11_init_232 flX11_47 rfl rfl h0 ?_
  refine g_bipush (v := 9) X dX11_init_235 (by decide) ?_
  refine g_ldc2 (v := 7237492) X dX11_init_237 (inr_7 _ (List.mem_of_getElem? (i := 19) rfl)) ?_
  refine g_lastK (j := 9) X dX11_init_240 kd_33 (on_11_10 h0) (by decide) (by decide) ?_
  exact (wX11_init_s241 X a0 h0 (sB S 33 (a0 + 6) 9 (7237492 : Int64)) r ho hF)
theorem wX11_init_s221 {z : Mx} {ad : Nat → Nat} {o : Option Value × St} (X : CxOk z ad RX11 cX11_init 2 none 1000) (a0 : Nat) (h0 : KT a0 = 11)     (S : St) (r : St) (ho : ∀ (S : St) (pc : Nat) (lv : List (Nat × Value)), decode cX11_init pc = .ok (.return_, 1) → r = S → GW z ad o S pc lv []) (hF : fX11_init_s221 a0   S = some r) : GW z ad o S 221 [(0, .ref (ad a0))] [] := by
  unfold fX11_init_s221 at hF
  refine g_aload_n X dX11_init_221 0 rfl rfl ?_
  refine g_getR (f := 6) X dX11_init_222 flX11_47 rfl rfl h0 ?_
  refine g_bipush (v := 8) X dX11_init_225 (by decide) ?_
  refine g_ldc2 (v := 6385252) X dX11_init_227 (inr_7 _ (List.mem_of_getElem? (i := 18) rfl)) ?_
  refine g_lastK (j := 8) X dX11_init_230 kd_33 (on_11_10 h0) (by decide) (by decide) ?_
  exact (wX11_init_s231 X a0 h0 (sB S 33 (a0 + 6) 8 (6385252 : Int64)) r ho hF)
theorem wX11_init_s211 {z : Mx} {ad : Nat → Nat} {o : Option Value × St} (X : CxOk z ad RX11 cX11_init 2 none 1000) (a0 : Nat) (h0 : KT a0 = 11)     (S : St) (r : St) (ho : ∀ (S : St) (pc : Nat) (lv : List (Nat × Value)), decode cX11_init pc = .ok (.return_, 1) → r = S → GW z ad o S pc lv []) (hF : fX11_init_s211 a0   S = some r) : GW z ad o S 211 [(0, .ref (ad a0))] [] := by
  unfold fX11_init_s211 at hF
  refine g_aload_n X dX11_init_211 0 rfl rfl ?_
  refine g_getR (f := 6) X dX11_init_212 flX11_47 rfl rfl h0 ?_
  refine g_bipush (v := 7) X dX11_init_215 (by decide) ?_
  refine g_ldc2 (v := 28530) X dX11_init_217 (inr_7 _ (List.mem_of_getElem? (i := 17) rfl)) ?_
  refine g_lastK (j := 7) X dX11_init_220 kd_33 (on_11_10 h0) (by decide) (by decide) ?_
  exact (wX11_init_s221 X a0 h0 (sB S 33 (a0 + 6) 7 (28530 : Int64)) r ho hF)
theorem wX11_init_s201 {z : Mx} {ad : Nat → Nat} {o : Option Value × St} (X : CxOk z ad RX11 cX11_init 2 none 1000) (a0 : Nat) (h0 : KT a0 = 11)     (S : St) (r : St) (ho : ∀ (S : St) (pc : Nat) (lv : List (Nat × Value)), decode cX11_init pc = .ok (.return_, 1) → r = S → GW z ad o S pc lv []) (hF : fX11_init_s201 a0   S = some r) : GW z ad o S 201 [(0, .ref (ad a0))] [] := by
  unfold fX11_init_s201 at hF
  refine g_aload_n X dX11_init_201 0 rfl rfl ?_
  refine g_getR (f := 6) X dX11_init_202 flX11_47 rfl rfl h0 ?_
  refine g_bipush (v := 6) X dX11_init_205 (by decide) ?_
  refine g_ldc2 (v := 6578553) X dX11_init_207 (inr_7 _ (List.mem_of_getElem? (i := 16) rfl)) ?_
  refine g_lastK (j := 6) X dX11_init_210 kd_33 (on_11_10 h0) (by decide) (by decide) ?_
  exact (wX11_init_s211 X a0 h0 (sB S 33 (a0 + 6) 6 (6578553 : Int64)) r ho hF)
theorem wX11_init_s192 {z : Mx} {ad : Nat → Nat} {o : Option Value × St} (X : CxOk z ad RX11 cX11_init 2 none 1000) (a0 : Nat) (h0 : KT a0 = 11)     (S : St) (r : St) (ho : ∀ (S : St) (pc : Nat) (lv : List (Nat × Value)), decode cX11_init pc = .ok (.return_, 1) → r = S → GW z ad o S pc lv []) (hF : fX11_init_s192 a0   S = some r) : GW z ad o S 192 [(0, .ref (ad a0))] [] := by
  unfold fX11_init_s192 at hF
  refine g_aload_n X dX11_init_192 0 rfl rfl ?_
  refine g_getR (f := 6) X dX11_init_193 flX11_47 rfl rfl h0 ?_
  refine g_iconst (v := 5) X dX11_init_196 (by decide) ?_
  refine g_ldc2 (v := 495723311219) X dX11_init_197 (inr_7 _ (List.mem_of_getElem? (i := 15) rfl)) ?_
  refine g_lastK (j := 5) X dX11_init_200 kd_33 (on_11_10 h0) (by decide) (by decide) ?_
  exact (wX11_init_s201 X a0 h0 (sB S 33 (a0 + 6) 5 (495723311219 : Int64)) r ho hF)
theorem wX11_init_s183 {z : Mx} {ad : Nat → Nat} {o : Option Value × St} (X : CxOk z ad RX11 cX11_init 2 none 1000) (a0 : Nat) (h0 : KT a0 = 11)     (S : St) (r : St) (ho : ∀ (S : St) (pc : Nat) (lv : List (Nat × Value)), decode cX11_init pc = .ok (.return_, 1) → r = S → GW z ad o S pc lv []) (hF : fX11_init_s183 a0   S = some r) : GW z ad o S 183 [(0, .ref (ad a0))] [] := by
  unfold fX11_init_s183 at hF
  refine g_aload_n X dX11_init_183 0 rfl rfl ?_
  refine g_getR (f := 6) X dX11_init_184 flX11_47 rfl rfl h0 ?_
  refine g_iconst (v := 4) X dX11_init_187 (by decide) ?_
  refine g_ldc2 (v := 448545973363) X dX11_init_188 (inr_7 _ (List.mem_of_getElem? (i := 14) rfl)) ?_
  refine g_lastK (j := 4) X dX11_init_191 kd_33 (on_11_10 h0) (by decide) (by decide) ?_
  exact (wX11_init_s192 X a0 h0 (sB S 33 (a0 + 6) 4 (448545973363 : Int64)) r ho hF)
theorem wX11_init_s174 {z : Mx} {ad : Nat → Nat} {o : Option Value × St} (X : CxOk z ad RX11 cX11_init 2 none 1000) (a0 : Nat) (h0 : KT a0 = 11)     (S : St) (r : St) (ho : ∀ (S : St) (pc : Nat) (lv : List (Nat × Value)), decode cX11_init pc = .ok (.return_, 1) → r = S → GW z ad o S pc lv []) (hF : fX11_init_s174 a0   S = some r) : GW z ad o S 174 [(0, .ref (ad a0))] [] := by
  unfold fX11_init_s174 at hF
  refine g_aload_n X dX11_init_174 0 rfl rfl ?_
  refine g_getR (f := 6) X dX11_init_175 flX11_47 rfl rfl h0 ?_
  refine g_iconst (v := 3) X dX11_init_178 (by decide) ?_
  refine g_ldc2 (v := 7566702) X dX11_init_179 (inr_7 _ (List.mem_of_getElem? (i := 13) rfl)) ?_
  refine g_lastK (j := 3) X dX11_init_182 kd_33 (on_11_10 h0) (by decide) (by decide) ?_
  exact (wX11_init_s183 X a0 h0 (sB S 33 (a0 + 6) 3 (7566702 : Int64)) r ho hF)
theorem wX11_init_s165 {z : Mx} {ad : Nat → Nat} {o : Option Value × St} (X : CxOk z ad RX11 cX11_init 2 none 1000) (a0 : Nat) (h0 : KT a0 = 11)     (S : St) (r : St) (ho : ∀ (S : St) (pc : Nat) (lv : List (Nat × Value)), decode cX11_init pc = .ok (.return_, 1) → r = S → GW z ad o S pc lv []) (hF : fX11_init_s165 a0   S = some r) : GW z ad o S 165 [(0, .ref (ad a0))] [] := by
  unfold fX11_init_s165 at hF
  refine g_aload_n X dX11_init_165 0 rfl rfl ?_
  refine g_getR (f := 6) X dX11_init_166 flX11_47 rfl rfl h0 ?_
  refine g_iconst (v := 2) X dX11_init_169 (by decide) ?_
  refine g_ldc2 (v := 439787549556) X dX11_init_170 (inr_7 _ (List.mem_of_getElem? (i := 12) rfl)) ?_
  refine g_lastK (j := 2) X dX11_init_173 kd_33 (on_11_10 h0) (by decide) (by decide) ?_
  exact (wX11_init_s174 X a0 h0 (sB S 33 (a0 + 6) 2 (439787549556 : Int64)) r ho hF)
theorem wX11_init_s156 {z : Mx} {ad : Nat → Nat} {o : Option Value × St} (X : CxOk z ad RX11 cX11_init 2 none 1000) (a0 : Nat) (h0 : KT a0 = 11)     (S : St) (r : St) (ho : ∀ (S : St) (pc : Nat) (lv : List (Nat × Value)), decode cX11_init pc = .ok (.return_, 1) → r = S → GW z ad o S pc lv []) (hF : fX11_init_s156 a0   S = some r) : GW z ad o S 156 [(0, .ref (ad a0))] [] := by
  unfold fX11_init_s156 at hF
  refine g_aload_n X dX11_init_156 0 rfl rfl ?_
  refine g_getR (f := 6) X dX11_init_157 flX11_47 rfl rfl h0 ?_
  refine g_iconst (v := 1) X dX11_init_160 (by decide) ?_
  refine g_ldc2 (v := 1818583408) X dX11_init_161 (inr_7 _ (List.mem_of_getElem? (i := 11) rfl)) ?_
  refine g_lastK (j := 1) X dX11_init_164 kd_33 (on_11_10 h0) (by decide) (by decide) ?_
  exact (wX11_init_s165 X a0 h0 (sB S 33 (a0 + 6) 1 (1818583408 : Int64)) r ho hF)
theorem wX11_init {z : Mx} {ad : Nat → Nat} {o : Option Value × St} (X : CxOk z ad RX11 cX11_init 2 none 1000) (a0 : Nat) (h0 : KT a0 = 11) (S : St) (r : St) (ho : ∀ (S : St) (pc : Nat) (lv : List (Nat × Value)), decode cX11_init pc = .ok (.return_, 1) → r = S → GW z ad o S pc lv []) (hF : fX11_init a0 S = some r) : GW z ad o S 147 [(0, .ref (ad a0))] [] := by
  unfold fX11_init at hF
  refine g_aload_n X dX11_init_147 0 rfl rfl ?_
  refine g_getR (f := 6) X dX11_init_148 flX11_47 rfl rfl h0 ?_
  refine g_iconst (v := 0) X dX11_init_151 (by decide) ?_
  refine g_ldc2 (v := 123563833652072) X dX11_init_152 (inr_7 _ (List.mem_of_getElem? (i := 10) rfl)) ?_
  refine g_lastK (j := 0) X dX11_init_155 kd_33 (on_11_10 h0) (by decide) (by decide) ?_
  exact (wX11_init_s156 X a0 h0 (sB S 33 (a0 + 6) 0 (123563833652072 : Int64)) r ho hF)
theorem ffX11_14 : FF RX11 14 11 1 (.array (.byte)) := ⟨RX11, TX11, 46, tyX11, cd_11, by decide, (inr_6 _ (List.mem_of_getElem? (i := 15) rfl)), rfl, by decide +kernel, rfl⟩
theorem ffX11_33 : FF RX11 33 11 6 (.array (.int)) := ⟨RX11, TX11, 46, tyX11, cd_11, by decide, (inr_6 _ (List.mem_of_getElem? (i := 16) rfl)), rfl, by decide +kernel, rfl⟩
theorem ffX11_37 : FF RX11 37 11 7 (.array (.int)) := ⟨RX11, TX11, 46, tyX11, cd_11, by decide, (inr_6 _ (List.mem_of_getElem? (i := 17) rfl)), rfl, by decide +kernel, rfl⟩
theorem ffX11_40 : FF RX11 40 11 8 (.array (.int)) := ⟨RX11, TX11, 46, tyX11, cd_11, by decide, (inr_6 _ (List.mem_of_getElem? (i := 18) rfl)), rfl, by decide +kernel, rfl⟩
theorem ffX11_43 : FF RX11 43 11 9 (.array (.long)) := ⟨RX11, TX11, 46, tyX11, cd_11, by decide, (inr_6 _ (List.mem_of_getElem? (i := 19) rfl)), rfl, by decide +kernel, rfl⟩
theorem ffX11_47 : FF RX11 47 11 10 (.array (.long)) := ⟨RX11, TX11, 46, tyX11, cd_11, by decide, (inr_6 _ (List.mem_of_getElem? (i := 20) rfl)), rfl, by decide +kernel, rfl⟩
theorem ffX11_50 : FF RX11 50 11 21 (.array (.int)) := ⟨RX11, TX11, 46, tyX11, cd_11, by decide, (inr_6 _ (List.mem_of_getElem? (i := 21) rfl)), rfl, by decide +kernel, rfl⟩
theorem ffX11_53 : FF RX11 53 11 22 (.array (.int)) := ⟨RX11, TX11, 46, tyX11, cd_11, by decide, (inr_6 _ (List.mem_of_getElem? (i := 22) rfl)), rfl, by decide +kernel, rfl⟩
theorem fpcX11_56 : FP RX11 56 11 24 .int := ⟨RX11, TX11, 46, tyX11, cd_11, by decide, (inr_6 _ (List.mem_of_getElem? (i := 23) rfl)), rfl, by decide +kernel⟩
theorem fpcX11_59 : FP RX11 59 11 25 .int := ⟨RX11, TX11, 46, tyX11, cd_11, by decide, (inr_7 _ (List.mem_of_getElem? (i := 0) rfl)), rfl, by decide +kernel⟩
theorem fpcX11_62 : FP RX11 62 11 26 .int := ⟨RX11, TX11, 46, tyX11, cd_11, by decide, (inr_7 _ (List.mem_of_getElem? (i := 1) rfl)), rfl, by decide +kernel⟩
theorem fpcX11_65 : FP RX11 65 11 27 .int := ⟨RX11, TX11, 46, tyX11, cd_11, by decide, (inr_7 _ (List.mem_of_getElem? (i := 2) rfl)), rfl, by decide +kernel⟩
theorem ffX11_68 : FF RX11 68 11 30 (.array (.byte)) := ⟨RX11, TX11, 46, tyX11, cd_11, by decide, (inr_7 _ (List.mem_of_getElem? (i := 3) rfl)), rfl, by decide +kernel, rfl⟩
theorem ffX11_71 : FF RX11 71 11 34 (.array (.int)) := ⟨RX11, TX11, 46, tyX11, cd_11, by decide, (inr_7 _ (List.mem_of_getElem? (i := 4) rfl)), rfl, by decide +kernel, rfl⟩
theorem ffX11_74 : FF RX11 74 11 36 (.array (.int)) := ⟨RX11, TX11, 46, tyX11, cd_11, by decide, (inr_7 _ (List.mem_of_getElem? (i := 5) rfl)), rfl, by decide +kernel, rfl⟩
theorem ffX11_77 : FF RX11 77 11 42 (.array (.boolean)) := ⟨RX11, TX11, 46, tyX11, cd_11, by decide, (inr_7 _ (List.mem_of_getElem? (i := 6) rfl)), rfl, by decide +kernel, rfl⟩
theorem ffX11_81 : FF RX11 81 11 43 (.array (.int)) := ⟨RX11, TX11, 46, tyX11, cd_11, by decide, (inr_7 _ (List.mem_of_getElem? (i := 7) rfl)), rfl, by decide +kernel, rfl⟩
theorem ffX11_84 : FF RX11 84 11 44 (.array (.long)) := ⟨RX11, TX11, 46, tyX11, cd_11, by decide, (inr_7 _ (List.mem_of_getElem? (i := 8) rfl)), rfl, by decide +kernel, rfl⟩
theorem ffX11_87 : FF RX11 87 11 45 (.array (.boolean)) := ⟨RX11, TX11, 46, tyX11, cd_11, by decide, (inr_7 _ (List.mem_of_getElem? (i := 9) rfl)), rfl, by decide +kernel, rfl⟩
set_option maxHeartbeats 4000000 in
set_option maxRecDepth 100000 in
/-- the reference's fields: up to its body -/
theorem kX11_fields {z : Kx} {A : Nat → Prop} {h0 : Nat} {TT : va_W} (X : CK z A RX11 cX11_init 2 1000 15 2245) (hgo : ∀ q1 q2 q3 q4 q5 q6 q7 q8 q9 q10 q11 q12 q13 q14 q15 : Nat, KW z A ((h0, .inr (11, [.int 0, .ref q1, .int 0, .int 0, .int 0, .int 0, .ref q2, .ref q3, .ref q4, .ref q5, .ref q6, .int 0, .int 0, .int 0, .int 0, .int 0, .int 0, .long 0, .int 0, .int 0, .int 0, .ref q7, .ref q8, .int 0, .int (-1), .int (-1), .int (-1), .int (-1), .int 0, .int 0, .ref q9, .int 0, .int 0, .int 0, .ref q10, .int 0, .ref q11, .int 0, .int 0, .int 0, .int 0, .int 0, .ref q12, .ref q13, .ref q14, .ref q15])) :: (TT ++ [(q1, .inl (z.2.2.1 28, 940, .inl (fun _ => 0)))] ++ [(q2, .inl (z.2.2.1 29, 250, .inl (fun _ => 0)))] ++ [(q3, .inl (z.2.2.1 30, 52, .inl (fun _ => 0)))] ++ [(q4, .inl (z.2.2.1 31, 135, .inl (fun _ => 0)))] ++ [(q5, .inl (z.2.2.1 32, 22, .inr (.inl (fun _ => 0))))] ++ [(q6, .inl (z.2.2.1 33, 19, .inr (.inl (fun _ => 0))))] ++ [(q7, .inl (z.2.2.1 34, 136, .inl (fun _ => 0)))] ++ [(q8, .inl (z.2.2.1 35, 17, .inl (fun _ => 0)))] ++ [(q9, .inl (z.2.2.1 36, 56, .inl (fun _ => 0)))] ++ [(q10, .inl (z.2.2.1 37, 4, .inl (fun _ => 0)))] ++ [(q11, .inl (z.2.2.1 38, 45, .inl (fun _ => 0)))] ++ [(q12, .inl (z.2.2.1 39, 45, .inl (fun _ => 0)))] ++ [(q13, .inl (z.2.2.1 40, 500, .inl (fun _ => 0)))] ++ [(q14, .inl (z.2.2.1 41, 22, .inr (.inl (fun _ => 0))))] ++ [(q15, .inl (z.2.2.1 42, 2, .inl (fun _ => 0)))])) 15 2245 147 [(0, .ref h0)] []) : KW z A ((h0, .inr (11, [.int 0, .null, .int 0, .int 0, .int 0, .int 0, .null, .null, .null, .null, .null, .int 0, .int 0, .int 0, .int 0, .int 0, .int 0, .long 0, .int 0, .int 0, .int 0, .null, .null, .int 0, .int 0, .int 0, .int 0, .int 0, .int 0, .int 0, .null, .int 0, .int 0, .int 0, .null, .int 0, .null, .int 0, .int 0, .int 0, .int 0, .int 0, .null, .null, .null, .null])) :: TT) 0 0 0 [(0, .ref h0)] [] := by
  refine k_aload_n X dX11_init_0 0 rfl rfl ?_
  refine k_obj X dX11_init_1 (inr_6 _ (List.mem_of_getElem? (i := 14) rfl)) (inr_1 _ (List.mem_of_getElem? (i := 11) rfl)) (inr_1 _ (List.mem_of_getElem? (i := 12) rfl)) (by decide) ?_
  refine k_aload_n X dX11_init_4 0 rfl rfl ?_
  refine k_sipush (v := 940) X dX11_init_5 (by decide) ?_
  refine k_newa (N := 940) (kd := 28) (a0 := (940, .inl (fun _ => 0))) (ty := .byte) X dX11_init_8 (inr_3 _ (List.mem_of_getElem? (i := 8) rfl)) rfl rfl (by decide) (fun C h => by cases h) (fun _ => rfl) (by decide) (by decide) (by decide) (by decide) (by decide) (fun q1 => ?_)
  refine k_consT ?_
  refine k_putF X dX11_init_10 ffX11_14 rfl rfl (Nat.le_of_ble_eq_true rfl) (fs' := [.int 0, .ref q1, .int 0, .int 0, .int 0, .int 0, .null, .null, .null, .null, .null, .int 0, .int 0, .int 0, .int 0, .int 0, .int 0, .long 0, .int 0, .int 0, .int 0, .null, .null, .int 0, .int 0, .int 0, .int 0, .int 0, .int 0, .int 0, .null, .int 0, .int 0, .int 0, .null, .int 0, .null, .int 0, .int 0, .int 0, .int 0, .int 0, .null, .null, .null, .null]) rfl ?_
  refine k_aload_n X dX11_init_13 0 rfl rfl ?_
  refine k_sipush (v := 250) X dX11_init_14 (by decide) ?_
  refine k_newa (N := 250) (kd := 29) (a0 := (250, .inl (fun _ => 0))) (ty := .int) X dX11_init_17 (inr_2 _ (List.mem_of_getElem? (i := 17) rfl)) rfl rfl (by decide) (fun C h => by cases h) (fun _ => rfl) (by decide) (by decide) (by decide) (by decide) (by decide) (fun q2 => ?_)
  refine k_consT ?_
  refine k_putF X dX11_init_19 ffX11_33 rfl rfl (Nat.le_of_ble_eq_true rfl) (fs' := [.int 0, .ref q1, .int 0, .int 0, .int 0, .int 0, .ref q2, .null, .null, .null, .null, .int 0, .int 0, .int 0, .int 0, .int 0, .int 0, .long 0, .int 0, .int 0, .int 0, .null, .null, .int 0, .int 0, .int 0, .int 0, .int 0, .int 0, .int 0, .null, .int 0, .int 0, .int 0, .null, .int 0, .null, .int 0, .int 0, .int 0, .int 0, .int 0, .null, .null, .null, .null]) rfl ?_
  refine k_aload_n X dX11_init_22 0 rfl rfl ?_
  refine k_bipush (v := 52) X dX11_init_23 (by decide) ?_
  refine k_newa (N := 52) (kd := 30) (a0 := (52, .inl (fun _ => 0))) (ty := .int) X dX11_init_25 (inr_2 _ (List.mem_of_getElem? (i := 17) rfl)) rfl rfl (by decide) (fun C h => by cases h) (fun _ => rfl) (by decide) (by decide) (by decide) (by decide) (by decide) (fun q3 => ?_)
  refine k_consT ?_
  refine k_putF X dX11_init_27 ffX11_37 rfl rfl (Nat.le_of_ble_eq_true rfl) (fs' := [.int 0, .ref q1, .int 0, .int 0, .int 0, .int 0, .ref q2, .ref q3, .null, .null, .null, .int 0, .int 0, .int 0, .int 0, .int 0, .int 0, .long 0, .int 0, .int 0, .int 0, .null, .null, .int 0, .int 0, .int 0, .int 0, .int 0, .int 0, .int 0, .null, .int 0, .int 0, .int 0, .null, .int 0, .null, .int 0, .int 0, .int 0, .int 0, .int 0, .null, .null, .null, .null]) rfl ?_
  refine k_aload_n X dX11_init_30 0 rfl rfl ?_
  refine k_sipush (v := 135) X dX11_init_31 (by decide) ?_
  refine k_newa (N := 135) (kd := 31) (a0 := (135, .inl (fun _ => 0))) (ty := .int) X dX11_init_34 (inr_2 _ (List.mem_of_getElem? (i := 17) rfl)) rfl rfl (by decide) (fun C h => by cases h) (fun _ => rfl) (by decide) (by decide) (by decide) (by decide) (by decide) (fun q4 => ?_)
  refine k_consT ?_
  refine k_putF X dX11_init_36 ffX11_40 rfl rfl (Nat.le_of_ble_eq_true rfl) (fs' := [.int 0, .ref q1, .int 0, .int 0, .int 0, .int 0, .ref q2, .ref q3, .ref q4, .null, .null, .int 0, .int 0, .int 0, .int 0, .int 0, .int 0, .long 0, .int 0, .int 0, .int 0, .null, .null, .int 0, .int 0, .int 0, .int 0, .int 0, .int 0, .int 0, .null, .int 0, .int 0, .int 0, .null, .int 0, .null, .int 0, .int 0, .int 0, .int 0, .int 0, .null, .null, .null, .null]) rfl ?_
  refine k_aload_n X dX11_init_39 0 rfl rfl ?_
  refine k_bipush (v := 22) X dX11_init_40 (by decide) ?_
  refine k_newa (N := 22) (kd := 32) (a0 := (22, .inr (.inl (fun _ => 0)))) (ty := .long) X dX11_init_42 (inr_1 _ (List.mem_of_getElem? (i := 6) rfl)) rfl rfl (by decide) (fun C h => by cases h) (fun _ => rfl) (by decide) (by decide) (by decide) (by decide) (by decide) (fun q5 => ?_)
  refine k_consT ?_
  refine k_putF X dX11_init_44 ffX11_43 rfl rfl (Nat.le_of_ble_eq_true rfl) (fs' := [.int 0, .ref q1, .int 0, .int 0, .int 0, .int 0, .ref q2, .ref q3, .ref q4, .ref q5, .null, .int 0, .int 0, .int 0, .int 0, .int 0, .int 0, .long 0, .int 0, .int 0, .int 0, .null, .null, .int 0, .int 0, .int 0, .int 0, .int 0, .int 0, .int 0, .null, .int 0, .int 0, .int 0, .null, .int 0, .null, .int 0, .int 0, .int 0, .int 0, .int 0, .null, .null, .null, .null]) rfl ?_
  refine k_aload_n X dX11_init_47 0 rfl rfl ?_
  refine k_bipush (v := 19) X dX11_init_48 (by decide) ?_
  refine k_newa (N := 19) (kd := 33) (a0 := (19, .inr (.inl (fun _ => 0)))) (ty := .long) X dX11_init_50 (inr_1 _ (List.mem_of_getElem? (i := 6) rfl)) rfl rfl (by decide) (fun C h => by cases h) (fun _ => rfl) (by decide) (by decide) (by decide) (by decide) (by decide) (fun q6 => ?_)
  refine k_consT ?_
  refine k_putF X dX11_init_52 ffX11_47 rfl rfl (Nat.le_of_ble_eq_true rfl) (fs' := [.int 0, .ref q1, .int 0, .int 0, .int 0, .int 0, .ref q2, .ref q3, .ref q4, .ref q5, .ref q6, .int 0, .int 0, .int 0, .int 0, .int 0, .int 0, .long 0, .int 0, .int 0, .int 0, .null, .null, .int 0, .int 0, .int 0, .int 0, .int 0, .int 0, .int 0, .null, .int 0, .int 0, .int 0, .null, .int 0, .null, .int 0, .int 0, .int 0, .int 0, .int 0, .null, .null, .null, .null]) rfl ?_
  refine k_aload_n X dX11_init_55 0 rfl rfl ?_
  refine k_sipush (v := 136) X dX11_init_56 (by decide) ?_
  refine k_newa (N := 136) (kd := 34) (a0 := (136, .inl (fun _ => 0))) (ty := .int) X dX11_init_59 (inr_2 _ (List.mem_of_getElem? (i := 17) rfl)) rfl rfl (by decide) (fun C h => by cases h) (fun _ => rfl) (by decide) (by decide) (by decide) (by decide) (by decide) (fun q7 => ?_)
  refine k_consT ?_
  refine k_putF X dX11_init_61 ffX11_50 rfl rfl (Nat.le_of_ble_eq_true rfl) (fs' := [.int 0, .ref q1, .int 0, .int 0, .int 0, .int 0, .ref q2, .ref q3, .ref q4, .ref q5, .ref q6, .int 0, .int 0, .int 0, .int 0, .int 0, .int 0, .long 0, .int 0, .int 0, .int 0, .ref q7, .null, .int 0, .int 0, .int 0, .int 0, .int 0, .int 0, .int 0, .null, .int 0, .int 0, .int 0, .null, .int 0, .null, .int 0, .int 0, .int 0, .int 0, .int 0, .null, .null, .null, .null]) rfl ?_
  refine k_aload_n X dX11_init_64 0 rfl rfl ?_
  refine k_bipush (v := 17) X dX11_init_65 (by decide) ?_
  refine k_newa (N := 17) (kd := 35) (a0 := (17, .inl (fun _ => 0))) (ty := .int) X dX11_init_67 (inr_2 _ (List.mem_of_getElem? (i := 17) rfl)) rfl rfl (by decide) (fun C h => by cases h) (fun _ => rfl) (by decide) (by decide) (by decide) (by decide) (by decide) (fun q8 => ?_)
  refine k_consT ?_
  refine k_putF X dX11_init_69 ffX11_53 rfl rfl (Nat.le_of_ble_eq_true rfl) (fs' := [.int 0, .ref q1, .int 0, .int 0, .int 0, .int 0, .ref q2, .ref q3, .ref q4, .ref q5, .ref q6, .int 0, .int 0, .int 0, .int 0, .int 0, .int 0, .long 0, .int 0, .int 0, .int 0, .ref q7, .ref q8, .int 0, .int 0, .int 0, .int 0, .int 0, .int 0, .int 0, .null, .int 0, .int 0, .int 0, .null, .int 0, .null, .int 0, .int 0, .int 0, .int 0, .int 0, .null, .null, .null, .null]) rfl ?_
  refine k_aload_n X dX11_init_72 0 rfl rfl ?_
  refine k_iconst (v := -1) X dX11_init_73 (by decide) ?_
  refine k_put X dX11_init_74 fpcX11_56 rfl rfl (Nat.le_of_ble_eq_true rfl) (fs' := [.int 0, .ref q1, .int 0, .int 0, .int 0, .int 0, .ref q2, .ref q3, .ref q4, .ref q5, .ref q6, .int 0, .int 0, .int 0, .int 0, .int 0, .int 0, .long 0, .int 0, .int 0, .int 0, .ref q7, .ref q8, .int 0, .int (-1), .int 0, .int 0, .int 0, .int 0, .int 0, .null, .int 0, .int 0, .int 0, .null, .int 0, .null, .int 0, .int 0, .int 0, .int 0, .int 0, .null, .null, .null, .null]) rfl ?_
  refine k_aload_n X dX11_init_77 0 rfl rfl ?_
  refine k_iconst (v := -1) X dX11_init_78 (by decide) ?_
  refine k_put X dX11_init_79 fpcX11_59 rfl rfl (Nat.le_of_ble_eq_true rfl) (fs' := [.int 0, .ref q1, .int 0, .int 0, .int 0, .int 0, .ref q2, .ref q3, .ref q4, .ref q5, .ref q6, .int 0, .int 0, .int 0, .int 0, .int 0, .int 0, .long 0, .int 0, .int 0, .int 0, .ref q7, .ref q8, .int 0, .int (-1), .int (-1), .int 0, .int 0, .int 0, .int 0, .null, .int 0, .int 0, .int 0, .null, .int 0, .null, .int 0, .int 0, .int 0, .int 0, .int 0, .null, .null, .null, .null]) rfl ?_
  refine k_aload_n X dX11_init_82 0 rfl rfl ?_
  refine k_iconst (v := -1) X dX11_init_83 (by decide) ?_
  refine k_put X dX11_init_84 fpcX11_62 rfl rfl (Nat.le_of_ble_eq_true rfl) (fs' := [.int 0, .ref q1, .int 0, .int 0, .int 0, .int 0, .ref q2, .ref q3, .ref q4, .ref q5, .ref q6, .int 0, .int 0, .int 0, .int 0, .int 0, .int 0, .long 0, .int 0, .int 0, .int 0, .ref q7, .ref q8, .int 0, .int (-1), .int (-1), .int (-1), .int 0, .int 0, .int 0, .null, .int 0, .int 0, .int 0, .null, .int 0, .null, .int 0, .int 0, .int 0, .int 0, .int 0, .null, .null, .null, .null]) rfl ?_
  refine k_aload_n X dX11_init_87 0 rfl rfl ?_
  refine k_iconst (v := -1) X dX11_init_88 (by decide) ?_
  refine k_put X dX11_init_89 fpcX11_65 rfl rfl (Nat.le_of_ble_eq_true rfl) (fs' := [.int 0, .ref q1, .int 0, .int 0, .int 0, .int 0, .ref q2, .ref q3, .ref q4, .ref q5, .ref q6, .int 0, .int 0, .int 0, .int 0, .int 0, .int 0, .long 0, .int 0, .int 0, .int 0, .ref q7, .ref q8, .int 0, .int (-1), .int (-1), .int (-1), .int (-1), .int 0, .int 0, .null, .int 0, .int 0, .int 0, .null, .int 0, .null, .int 0, .int 0, .int 0, .int 0, .int 0, .null, .null, .null, .null]) rfl ?_
  refine k_aload_n X dX11_init_92 0 rfl rfl ?_
  refine k_bipush (v := 56) X dX11_init_93 (by decide) ?_
  refine k_newa (N := 56) (kd := 36) (a0 := (56, .inl (fun _ => 0))) (ty := .byte) X dX11_init_95 (inr_3 _ (List.mem_of_getElem? (i := 8) rfl)) rfl rfl (by decide) (fun C h => by cases h) (fun _ => rfl) (by decide) (by decide) (by decide) (by decide) (by decide) (fun q9 => ?_)
  refine k_consT ?_
  refine k_putF X dX11_init_97 ffX11_68 rfl rfl (Nat.le_of_ble_eq_true rfl) (fs' := [.int 0, .ref q1, .int 0, .int 0, .int 0, .int 0, .ref q2, .ref q3, .ref q4, .ref q5, .ref q6, .int 0, .int 0, .int 0, .int 0, .int 0, .int 0, .long 0, .int 0, .int 0, .int 0, .ref q7, .ref q8, .int 0, .int (-1), .int (-1), .int (-1), .int (-1), .int 0, .int 0, .ref q9, .int 0, .int 0, .int 0, .null, .int 0, .null, .int 0, .int 0, .int 0, .int 0, .int 0, .null, .null, .null, .null]) rfl ?_
  refine k_aload_n X dX11_init_100 0 rfl rfl ?_
  refine k_iconst (v := 4) X dX11_init_101 (by decide) ?_
  refine k_newa (N := 4) (kd := 37) (a0 := (4, .inl (fun _ => 0))) (ty := .int) X dX11_init_102 (inr_2 _ (List.mem_of_getElem? (i := 17) rfl)) rfl rfl (by decide) (fun C h => by cases h) (fun _ => rfl) (by decide) (by decide) (by decide) (by decide) (by decide) (fun q10 => ?_)
  refine k_consT ?_
  refine k_putF X dX11_init_104 ffX11_71 rfl rfl (Nat.le_of_ble_eq_true rfl) (fs' := [.int 0, .ref q1, .int 0, .int 0, .int 0, .int 0, .ref q2, .ref q3, .ref q4, .ref q5, .ref q6, .int 0, .int 0, .int 0, .int 0, .int 0, .int 0, .long 0, .int 0, .int 0, .int 0, .ref q7, .ref q8, .int 0, .int (-1), .int (-1), .int (-1), .int (-1), .int 0, .int 0, .ref q9, .int 0, .int 0, .int 0, .ref q10, .int 0, .null, .int 0, .int 0, .int 0, .int 0, .int 0, .null, .null, .null, .null]) rfl ?_
  refine k_aload_n X dX11_init_107 0 rfl rfl ?_
  refine k_bipush (v := 45) X dX11_init_108 (by decide) ?_
  refine k_newa (N := 45) (kd := 38) (a0 := (45, .inl (fun _ => 0))) (ty := .int) X dX11_init_110 (inr_2 _ (List.mem_of_getElem? (i := 17) rfl)) rfl rfl (by decide) (fun C h => by cases h) (fun _ => rfl) (by decide) (by decide) (by decide) (by decide) (by decide) (fun q11 => ?_)
  refine k_consT ?_
  refine k_putF X dX11_init_112 ffX11_74 rfl rfl (Nat.le_of_ble_eq_true rfl) (fs' := [.int 0, .ref q1, .int 0, .int 0, .int 0, .int 0, .ref q2, .ref q3, .ref q4, .ref q5, .ref q6, .int 0, .int 0, .int 0, .int 0, .int 0, .int 0, .long 0, .int 0, .int 0, .int 0, .ref q7, .ref q8, .int 0, .int (-1), .int (-1), .int (-1), .int (-1), .int 0, .int 0, .ref q9, .int 0, .int 0, .int 0, .ref q10, .int 0, .ref q11, .int 0, .int 0, .int 0, .int 0, .int 0, .null, .null, .null, .null]) rfl ?_
  refine k_aload_n X dX11_init_115 0 rfl rfl ?_
  refine k_bipush (v := 45) X dX11_init_116 (by decide) ?_
  refine k_newa (N := 45) (kd := 39) (a0 := (45, .inl (fun _ => 0))) (ty := .boolean) X dX11_init_118 (inr_3 _ (List.mem_of_getElem? (i := 2) rfl)) rfl rfl (by decide) (fun C h => by cases h) (fun _ => rfl) (by decide) (by decide) (by decide) (by decide) (by decide) (fun q12 => ?_)
  refine k_consT ?_
  refine k_putF X dX11_init_120 ffX11_77 rfl rfl (Nat.le_of_ble_eq_true rfl) (fs' := [.int 0, .ref q1, .int 0, .int 0, .int 0, .int 0, .ref q2, .ref q3, .ref q4, .ref q5, .ref q6, .int 0, .int 0, .int 0, .int 0, .int 0, .int 0, .long 0, .int 0, .int 0, .int 0, .ref q7, .ref q8, .int 0, .int (-1), .int (-1), .int (-1), .int (-1), .int 0, .int 0, .ref q9, .int 0, .int 0, .int 0, .ref q10, .int 0, .ref q11, .int 0, .int 0, .int 0, .int 0, .int 0, .ref q12, .null, .null, .null]) rfl ?_
  refine k_aload_n X dX11_init_123 0 rfl rfl ?_
  refine k_sipush (v := 500) X dX11_init_124 (by decide) ?_
  refine k_newa (N := 500) (kd := 40) (a0 := (500, .inl (fun _ => 0))) (ty := .int) X dX11_init_127 (inr_2 _ (List.mem_of_getElem? (i := 17) rfl)) rfl rfl (by decide) (fun C h => by cases h) (fun _ => rfl) (by decide) (by decide) (by decide) (by decide) (by decide) (fun q13 => ?_)
  refine k_consT ?_
  refine k_putF X dX11_init_129 ffX11_81 rfl rfl (Nat.le_of_ble_eq_true rfl) (fs' := [.int 0, .ref q1, .int 0, .int 0, .int 0, .int 0, .ref q2, .ref q3, .ref q4, .ref q5, .ref q6, .int 0, .int 0, .int 0, .int 0, .int 0, .int 0, .long 0, .int 0, .int 0, .int 0, .ref q7, .ref q8, .int 0, .int (-1), .int (-1), .int (-1), .int (-1), .int 0, .int 0, .ref q9, .int 0, .int 0, .int 0, .ref q10, .int 0, .ref q11, .int 0, .int 0, .int 0, .int 0, .int 0, .ref q12, .ref q13, .null, .null]) rfl ?_
  refine k_aload_n X dX11_init_132 0 rfl rfl ?_
  refine k_bipush (v := 22) X dX11_init_133 (by decide) ?_
  refine k_newa (N := 22) (kd := 41) (a0 := (22, .inr (.inl (fun _ => 0)))) (ty := .long) X dX11_init_135 (inr_1 _ (List.mem_of_getElem? (i := 6) rfl)) rfl rfl (by decide) (fun C h => by cases h) (fun _ => rfl) (by decide) (by decide) (by decide) (by decide) (by decide) (fun q14 => ?_)
  refine k_consT ?_
  refine k_putF X dX11_init_137 ffX11_84 rfl rfl (Nat.le_of_ble_eq_true rfl) (fs' := [.int 0, .ref q1, .int 0, .int 0, .int 0, .int 0, .ref q2, .ref q3, .ref q4, .ref q5, .ref q6, .int 0, .int 0, .int 0, .int 0, .int 0, .int 0, .long 0, .int 0, .int 0, .int 0, .ref q7, .ref q8, .int 0, .int (-1), .int (-1), .int (-1), .int (-1), .int 0, .int 0, .ref q9, .int 0, .int 0, .int 0, .ref q10, .int 0, .ref q11, .int 0, .int 0, .int 0, .int 0, .int 0, .ref q12, .ref q13, .ref q14, .null]) rfl ?_
  refine k_aload_n X dX11_init_140 0 rfl rfl ?_
  refine k_iconst (v := 2) X dX11_init_141 (by decide) ?_
  refine k_newa (N := 2) (kd := 42) (a0 := (2, .inl (fun _ => 0))) (ty := .boolean) X dX11_init_142 (inr_3 _ (List.mem_of_getElem? (i := 2) rfl)) rfl rfl (by decide) (fun C h => by cases h) (fun _ => rfl) (by decide) (by decide) (by decide) (by decide) (by decide) (fun q15 => ?_)
  refine k_consT ?_
  refine k_putF X dX11_init_144 ffX11_87 rfl rfl (Nat.le_of_ble_eq_true rfl) (fs' := [.int 0, .ref q1, .int 0, .int 0, .int 0, .int 0, .ref q2, .ref q3, .ref q4, .ref q5, .ref q6, .int 0, .int 0, .int 0, .int 0, .int 0, .int 0, .long 0, .int 0, .int 0, .int 0, .ref q7, .ref q8, .int 0, .int (-1), .int (-1), .int (-1), .int (-1), .int 0, .int 0, .ref q9, .int 0, .int 0, .int 0, .ref q10, .int 0, .ref q11, .int 0, .int 0, .int 0, .int 0, .int 0, .ref q12, .ref q13, .ref q14, .ref q15]) rfl ?_
  exact hgo q1 q2 q3 q4 q5 q6 q7 q8 q9 q10 q11 q12 q13 q14 q15
