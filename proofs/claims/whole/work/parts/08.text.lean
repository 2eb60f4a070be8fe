theorem dJ0_length_8abf5_0 : decode cJ0_length_8abf5 0 = .ok (.aload_n 0, 1) := by decide +kernel
theorem dJ0_length_8abf5_1 : decode cJ0_length_8abf5 1 = .ok (.getfield 9, 3) := by decide +kernel
theorem dJ0_length_8abf5_4 : decode cJ0_length_8abf5 4 = .ok (.arraylength, 1) := by decide +kernel
theorem dJ0_length_8abf5_5 : decode cJ0_length_8abf5 5 = .ok (.aload_n 0, 1) := by decide +kernel
theorem dJ0_length_8abf5_6 : decode cJ0_length_8abf5 6 = .ok (.invokevirtual 335, 3) := by decide +kernel
theorem dJ0_length_8abf5_9 : decode cJ0_length_8abf5 9 = .ok (.ishr, 1) := by decide +kernel
theorem dJ0_length_8abf5_10 : decode cJ0_length_8abf5 10 = .ok (.ireturn, 1) := by decide +kernel
theorem dJ0_charAt_5068e_0 : decode cJ0_charAt_5068e 0 = .ok (.aload_n 0, 1) := by decide +kernel
theorem dJ0_charAt_5068e_1 : decode cJ0_charAt_5068e 1 = .ok (.invokevirtual 492, 3) := by decide +kernel
theorem dJ0_charAt_5068e_4 : decode cJ0_charAt_5068e 4 = .ok (.ifCond .eq 12, 3) := by decide +kernel
theorem dJ0_charAt_5068e_7 : decode cJ0_charAt_5068e 7 = .ok (.aload_n 0, 1) := by decide +kernel
theorem dJ0_charAt_5068e_8 : decode cJ0_charAt_5068e 8 = .ok (.getfield 9, 3) := by decide +kernel
theorem dJ0_charAt_5068e_11 : decode cJ0_charAt_5068e 11 = .ok (.iload_n 1, 1) := by decide +kernel
theorem dJ0_charAt_5068e_12 : decode cJ0_charAt_5068e 12 = .ok (.invokestatic 495, 3) := by decide +kernel
theorem dJ0_charAt_5068e_15 : decode cJ0_charAt_5068e 15 = .ok (.ireturn, 1) := by decide +kernel
theorem dJ0_charAt_5068e_16 : decode cJ0_charAt_5068e 16 = .ok (.aload_n 0, 1) := by decide +kernel
theorem dJ0_charAt_5068e_17 : decode cJ0_charAt_5068e 17 = .ok (.getfield 9, 3) := by decide +kernel
theorem dJ0_charAt_5068e_20 : decode cJ0_charAt_5068e 20 = .ok (.iload_n 1, 1) := by decide +kernel
theorem dJ0_charAt_5068e_21 : decode cJ0_charAt_5068e 21 = .ok (.invokestatic 498, 3) := by decide +kernel
theorem dJ0_charAt_5068e_24 : decode cJ0_charAt_5068e 24 = .ok (.ireturn, 1) := by decide +kernel
theorem dJ0_coder_7d493_0 : decode cJ0_coder_7d493 0 = .ok (.getstatic 38, 3) := by decide +kernel
theorem dJ0_coder_7d493_3 : decode cJ0_coder_7d493 3 = .ok (.ifCond .eq 10, 3) := by decide +kernel
theorem dJ0_coder_7d493_6 : decode cJ0_coder_7d493 6 = .ok (.aload_n 0, 1) := by decide +kernel
theorem dJ0_coder_7d493_7 : decode cJ0_coder_7d493 7 = .ok (.getfield 15, 3) := by decide +kernel
theorem dJ0_coder_7d493_10 : decode cJ0_coder_7d493 10 = .ok (.goto 4, 3) := by decide +kernel
theorem dJ0_coder_7d493_13 : decode cJ0_coder_7d493 13 = .ok (.iconst 1, 1) := by decide +kernel
theorem dJ0_coder_7d493_14 : decode cJ0_coder_7d493 14 = .ok (.ireturn, 1) := by decide +kernel
theorem dJ0_isLatin1_aae02_0 : decode cJ0_isLatin1_aae02 0 = .ok (.getstatic 38, 3) := by decide +kernel
theorem dJ0_isLatin1_aae02_3 : decode cJ0_isLatin1_aae02 3 = .ok (.ifCond .eq 14, 3) := by decide +kernel
theorem dJ0_isLatin1_aae02_6 : decode cJ0_isLatin1_aae02 6 = .ok (.aload_n 0, 1) := by decide +kernel
theorem dJ0_isLatin1_aae02_7 : decode cJ0_isLatin1_aae02 7 = .ok (.getfield 15, 3) := by decide +kernel
theorem dJ0_isLatin1_aae02_10 : decode cJ0_isLatin1_aae02 10 = .ok (.ifCond .ne 7, 3) := by decide +kernel
theorem dJ0_isLatin1_aae02_13 : decode cJ0_isLatin1_aae02 13 = .ok (.iconst 1, 1) := by decide +kernel
theorem dJ0_isLatin1_aae02_14 : decode cJ0_isLatin1_aae02 14 = .ok (.goto 4, 3) := by decide +kernel
theorem dJ0_isLatin1_aae02_17 : decode cJ0_isLatin1_aae02 17 = .ok (.iconst 0, 1) := by decide +kernel
theorem dJ0_isLatin1_aae02_18 : decode cJ0_isLatin1_aae02 18 = .ok (.ireturn, 1) := by decide +kernel
theorem dJ0_checkIndex_df160_0 : decode cJ0_checkIndex_df160 0 = .ok (.iload_n 0, 1) := by decide +kernel
theorem dJ0_checkIndex_df160_1 : decode cJ0_checkIndex_df160 1 = .ok (.iload_n 1, 1) := by decide +kernel
theorem dJ0_checkIndex_df160_2 : decode cJ0_checkIndex_df160 2 = .ok (.getstatic 1053, 3) := by decide +kernel
theorem dJ0_checkIndex_df160_5 : decode cJ0_checkIndex_df160 5 = .ok (.invokestatic 1059, 3) := by decide +kernel
theorem dJ0_checkIndex_df160_8 : decode cJ0_checkIndex_df160 8 = .ok (.pop, 1) := by decide +kernel
theorem dJ0_checkIndex_df160_9 : decode cJ0_checkIndex_df160 9 = .ok (.return_, 1) := by decide +kernel
theorem dJ1_charAt_3b067_0 : decode cJ1_charAt_3b067 0 = .ok (.iload_n 1, 1) := by decide +kernel
theorem dJ1_charAt_3b067_1 : decode cJ1_charAt_3b067 1 = .ok (.aload_n 0, 1) := by decide +kernel
theorem dJ1_charAt_3b067_2 : decode cJ1_charAt_3b067 2 = .ok (.arraylength, 1) := by decide +kernel
theorem dJ1_charAt_3b067_3 : decode cJ1_charAt_3b067 3 = .ok (.invokestatic 9, 3) := by decide +kernel
theorem dJ1_charAt_3b067_6 : decode cJ1_charAt_3b067 6 = .ok (.aload_n 0, 1) := by decide +kernel
theorem dJ1_charAt_3b067_7 : decode cJ1_charAt_3b067 7 = .ok (.iload_n 1, 1) := by decide +kernel
theorem dJ1_charAt_3b067_8 : decode cJ1_charAt_3b067 8 = .ok (.baload, 1) := by decide +kernel
theorem dJ1_charAt_3b067_9 : decode cJ1_charAt_3b067 9 = .ok (.sipush 255, 3) := by decide +kernel
theorem dJ1_charAt_3b067_12 : decode cJ1_charAt_3b067 12 = .ok (.iand, 1) := by decide +kernel
theorem dJ1_charAt_3b067_13 : decode cJ1_charAt_3b067 13 = .ok (.i2c, 1) := by decide +kernel
theorem dJ1_charAt_3b067_14 : decode cJ1_charAt_3b067 14 = .ok (.ireturn, 1) := by decide +kernel
theorem dJ3_checkIndex_8e157_0 : decode cJ3_checkIndex_8e157 0 = .ok (.iload_n 0, 1) := by decide +kernel
theorem dJ3_checkIndex_8e157_1 : decode cJ3_checkIndex_8e157 1 = .ok (.ifCond .lt 8, 3) := by decide +kernel
theorem dJ3_checkIndex_8e157_4 : decode cJ3_checkIndex_8e157 4 = .ok (.iload_n 0, 1) := by decide +kernel
theorem dJ3_checkIndex_8e157_5 : decode cJ3_checkIndex_8e157 5 = .ok (.iload_n 1, 1) := by decide +kernel
theorem dJ3_checkIndex_8e157_6 : decode cJ3_checkIndex_8e157 6 = .ok (.if_icmp .lt 10, 3) := by decide +kernel
theorem dJ3_checkIndex_8e157_9 : decode cJ3_checkIndex_8e157 9 = .ok (.aload_n 2, 1) := by decide +kernel
theorem dJ3_checkIndex_8e157_10 : decode cJ3_checkIndex_8e157 10 = .ok (.iload_n 0, 1) := by decide +kernel
theorem dJ3_checkIndex_8e157_11 : decode cJ3_checkIndex_8e157 11 = .ok (.iload_n 1, 1) := by decide +kernel
theorem dJ3_checkIndex_8e157_12 : decode cJ3_checkIndex_8e157 12 = .ok (.invokestatic 95, 3) := by decide +kernel
theorem dJ3_checkIndex_8e157_15 : decode cJ3_checkIndex_8e157 15 = .ok (.athrow, 1) := by decide +kernel
theorem dJ3_checkIndex_8e157_16 : decode cJ3_checkIndex_8e157 16 = .ok (.iload_n 0, 1) := by decide +kernel
theorem dJ3_checkIndex_8e157_17 : decode cJ3_checkIndex_8e157 17 = .ok (.ireturn, 1) := by decide +kernel
theorem ex_S {ad : Nat → Nat} {A : Nat → Prop} {U : State} (h : Ex ad A U) : vk_S 5 sxLen sxByt (fun i => ad (156 + i)) (fun i => ad (161 + i)) A U U.heap := by
  obtain ⟨s0, b, h1, h1t, h2, h3, h4, h5, h6, h7⟩ := h
  exact ((vk_S.moved h2.alike h6).kept (fun a ha _ => h4 a ha)).narrow h5
theorem ex_R {ad : Nat → Nat} {A : Nat → Prop} {U : State} (h : Ex ad A U) {i : Nat} (hi : i < 5) : vk_R RX7 (sxI.getD i 0) (sxT.getD i "") (ad (156 + i)) U := by
  obtain ⟨s0, b, h1, h1t, h2, h3, h4, h5, h6, h7⟩ := h
  exact vk_R.warm h2 (h7 i hi)
theorem ex_Z {ad : Nat → Nat} {A : Nat → Prop} {U : State} (h : Ex ad A U) : va_Z "java/lang/String" "COMPACT_STRINGS" "Z" (.int 1) A U U.heap := by
  obtain ⟨s0, b, h1, h1t, h2, h3, h4, h5, -⟩ := h
  have hs := flat_of_before _ h1
  have hA' : ∀ a : Nat, a < s0.heap.size → ¬ A a := fun a ha q => by have := h5 a q; omega
  have hZ := va_Zof (A := A) (h1t (.laysStatic "java/lang/String" "COMPACT_STRINGS" "Z") (inT_4 _ (List.mem_of_getElem? (i := 219) rfl))) (h1t (.initialized "java/lang/String") (inT_1 _ (List.mem_of_getElem? (i := 18) rfl))) (va_eqt (z := 1) (hs (.eq (.static "java/lang/String" "COMPACT_STRINGS" "Z") (.int 1)) (by decide +kernel))) hA'
  exact (va_Z.moved h2.alike hZ).kept (fun a ha _ => h4 a ha)
theorem ex_Zq {ad : Nat → Nat} {A : Nat → Prop} {U : State} (h : Ex ad A U) : va_Zq "jdk/internal/util/Preconditions" "SIOOBE_FORMATTER" "Ljava/util/function/BiFunction;" A U U.heap := by
  obtain ⟨s0, b, h1, h1t, h2, h3, h4, h5, -⟩ := h
  have hs := flat_of_before _ h1
  have hA' : ∀ a : Nat, a < s0.heap.size → ¬ A a := fun a ha q => by have := h5 a q; omega
  have hZ := va_Zqof (A := A) (h1t (.laysStatic "jdk/internal/util/Preconditions" "SIOOBE_FORMATTER" "Ljava/util/function/BiFunction;") (inT_4 _ (List.mem_of_getElem? (i := 235) rfl))) (h1t (.initialized "jdk/internal/util/Preconditions") (inT_1 _ (List.mem_of_getElem? (i := 20) rfl))) (hs (.isRef (.static "jdk/internal/util/Preconditions" "SIOOBE_FORMATTER" "Ljava/util/function/BiFunction;")) (by decide +kernel)) hA'
  exact (va_Zq.moved h2.alike hZ).kept (fun a ha _ => h4 a ha)
section GSX
variable {z : Mx} {ad : Nat → Nat} {o : Option Value × St} {S : St} {own : String} {cc : ByteArray} {nL : Nat} {ret : Option FieldType} {h pc : Nat} {lv : List (Nat × Value)} {st : List Value}
theorem g_ldcS {i k : Nat} (X : CxOk z ad RX7 cc nL ret h) (hd : decode cc pc = .ok (.ldc k, 2)) (hi : i < 5) (hk : sxI.getD i 0 = k) (kk : GW z ad o S (pc + 2) lv (.ref (ad (156 + i)) :: st)) : GW z ad o S pc lv st := by
  obtain ⟨⟨p, l, e, R, s, m, args, below, meth, c0⟩, D, cy, Q, kc, ks, Fr, A⟩ := z
  obtain ⟨hx, hb, hml, hown, hts, hr, hlk, hR, hK, hE, hI, hFr, hQ, hA⟩ := X
  intro H locs ls hP hS hf hl
  subst hk
  exact va_ldcS hx hb hown (ex_R hE hi) hd (kk H locs ls hP hS hf hl)
theorem g_sval {i k : Nat} (X : CxOk z ad RJ0 cc nL ret h) (hd : decode cc pc = .ok (.getfield k, 3)) (hw : Cond.fieldLink RJ0 k "java/lang/String" "value" "[B" ∈ wsL_law0) (hi : i < 5) (kk : GW z ad o S (pc + 3) lv (.ref (ad (161 + i)) :: st)) : GW z ad o S pc lv (.ref (ad (156 + i)) :: st) := by
  obtain ⟨⟨p, l, e, R, s, m, args, below, meth, c0⟩, D, cy, Q, kc, ks, Fr, A⟩ := z
  obtain ⟨hx, hb, hml, hown, hts, hr, hlk, hR, hK, hE, hI, hFr, hQ, hA⟩ := X
  intro H locs ls hP hS hf hl
  exact vk_getf hx hb ((ex_S hE).1 i hi).2.2.1 hS hown (hts _ hw) (fun _ q => q) hd (kk H locs ls hP hS hf hl)
theorem g_scod {i k : Nat} (X : CxOk z ad RJ0 cc nL ret h) (hd : decode cc pc = .ok (.getfield k, 3)) (hw : Cond.fieldLink RJ0 k "java/lang/String" "coder" "B" ∈ wsL_law0) (hi : i < 5) (kk : GW z ad o S (pc + 3) lv (.int 0 :: st)) : GW z ad o S pc lv (.ref (ad (156 + i)) :: st) := by
  obtain ⟨⟨p, l, e, R, s, m, args, below, meth, c0⟩, D, cy, Q, kc, ks, Fr, A⟩ := z
  obtain ⟨hx, hb, hml, hown, hts, hr, hlk, hR, hK, hE, hI, hFr, hQ, hA⟩ := X
  intro H locs ls hP hS hf hl
  exact vk_getf hx hb ((ex_S hE).1 i hi).2.1 hS hown (hts _ hw) (fun _ q => q) hd (kk H locs ls hP hS hf hl)
theorem g_scs (X : CxOk z ad RJ0 cc nL ret h) {k : Nat} (hd : decode cc pc = .ok (.getstatic k, 3)) (hw : Cond.fieldLink RJ0 k "java/lang/String" "COMPACT_STRINGS" "Z" ∈ wsL_law0) (kk : GW z ad o S (pc + 3) lv (.int 1 :: st)) : GW z ad o S pc lv st := by
  obtain ⟨⟨p, l, e, R, s, m, args, below, meth, c0⟩, D, cy, Q, kc, ks, Fr, A⟩ := z
  obtain ⟨hx, hb, hml, hown, hts, hr, hlk, hR, hK, hE, hI, hFr, hQ, hA⟩ := X
  intro H locs ls hP hS hf hl
  exact va_gets hx hb (ex_Z hE) hS hown (hts _ hw) (fun _ q => q) hd (kk H locs ls hP hS hf hl)
theorem g_sfm (X : CxOk z ad RJ0 cc nL ret h) {k : Nat} (hd : decode cc pc = .ok (.getstatic k, 3)) (hw : Cond.fieldLink RJ0 k "jdk/internal/util/Preconditions" "SIOOBE_FORMATTER" "Ljava/util/function/BiFunction;" ∈ wsL_law0) (kk : ∀ v : Value, v.category = 1 → GW z ad o S (pc + 3) lv (v :: st)) : GW z ad o S pc lv st := by
  obtain ⟨⟨p, l, e, R, s, m, args, below, meth, c0⟩, D, cy, Q, kc, ks, Fr, A⟩ := z
  obtain ⟨hx, hb, hml, hown, hts, hr, hlk, hR, hK, hE, hI, hFr, hQ, hA⟩ := X
  intro H locs ls hP hS hf hl
  rcases ex_Zq hE with q | ⟨t, q⟩
  · exact va_gets hx hb q hS hown (hts _ hw) (fun _ q => q) hd (kk _ rfl H locs ls hP hS hf hl)
  · exact va_gets hx hb q hS hown (hts _ hw) (fun _ q => q) hd (kk _ rfl H locs ls hP hS hf hl)
theorem g_slen {i : Nat} {v : Int32} (X : CxOk z ad own cc nL ret h) (hd : decode cc pc = .ok (.arraylength, 1)) (hi : i < 5) (hv : Int32.ofNat (sxLen.getD i 0) = v) (kk : GW z ad o S (pc + 1) lv (.int v :: st)) : GW z ad o S pc lv (.ref (ad (161 + i)) :: st) := by
  obtain ⟨⟨p, l, e, R, s, m, args, below, meth, c0⟩, D, cy, Q, kc, ks, Fr, A⟩ := z
  obtain ⟨hx, hb, hml, hown, hts, hr, hlk, hR, hK, hE, hI, hFr, hQ, hA⟩ := X
  intro H locs ls hP hS hf hl
  exact va_tlen hx hb ((ex_S hE).1 i hi).2.2.2 hS hv hd (kk H locs ls hP hS hf hl)
theorem g_sbal {i : Nat} {j : Int32} (X : CxOk z ad own cc nL ret h) (hd : decode cc pc = .ok (.baload, 1)) (hi : i < 5) (hj : ¬ (j < 0 ∨ sxLen.getD i 0 ≤ j.toNatClampNeg)) (kk : GW z ad o S (pc + 1) lv (.int ((sxByt.getD i []).getD j.toNatClampNeg 0) :: st)) : GW z ad o S pc lv (.int j :: .ref (ad (161 + i)) :: st) := by
  obtain ⟨⟨p, l, e, R, s, m, args, below, meth, c0⟩, D, cy, Q, kc, ks, Fr, A⟩ := z
  obtain ⟨hx, hb, hml, hown, hts, hr, hlk, hR, hK, hE, hI, hFr, hQ, hA⟩ := X
  intro H locs ls hP hS hf hl
  exact va_tb hx hb ((ex_S hE).1 i hi).2.2.2 hS hj rfl hd (kk H locs ls hP hS hf hl)
theorem g_i2c {x : Int32} (X : CxOk z ad own cc nL ret h) (hd : decode cc pc = .ok (.i2c, 1)) (kk : GW z ad o S (pc + 1) lv (.int (x.toUInt32 % 65536).toInt32 :: st)) : GW z ad o S pc lv (.int x :: st) := by
  obtain ⟨⟨p, l, e, R, s, m, args, below, meth, c0⟩, D, cy, Q, kc, ks, Fr, A⟩ := z
  obtain ⟨hx, hb, hml, hown, hts, hr, hlk, hR, hK, hE, hI, hFr, hQ, hA⟩ := X
  intro H locs ls hP hS hf hl
  exact lv_i2c hx hb hd rfl (kk H locs ls hP hS hf hl)
theorem g_tret {v : Int32} {ty : FieldType} (X : CxOk z ad own cc nL (some ty) h) (hd : decode cc pc = .ok (.ireturn, 1)) (hn : narrow ty (.int v) = .int v) (ho : o = (some (.int v), S)) (hh : h < 1000 := by first | decide | omega) : GW z ad o S pc lv [.int v] := by
  subst ho
  obtain ⟨⟨p, l, e, R, s, m, args, below, meth, c0⟩, D, cy, Q, kc, ks, Fr, A⟩ := z
  obtain ⟨hx, hb, hml, hown, hts, hr, hlk, hR, hK, hE, hI, hFr, hQ, hA⟩ := X
  intro H locs ls hP hS hf hl
  obtain ⟨rfl, rfl, rfl, rfl⟩ := hQ hh
  exact W.zret hx hb hr hn (fun t ht hW => ⟨rfl, ⟨by rw [ht]; exact hP, va_K.moved hW.alike hK, hE.next hS ht hW⟩, hS.F ht⟩) hS.2.2 hd hlk
def MLj (own : String) (i : Nat) (y : MethodName) (cy : ByteArray) (maxL : Nat) (ret : Option FieldType) (n : Nat) : Prop :=
  Cond.code y cy maxL ret ∈ wsL_law0 ∧ Cond.methodLink own i y ∈ wsL_law0 ∧ Cond.instanceMethod y ∈ wsL_law0 ∧ Cond.selects RJ0 y y ∈ wsL_law0 ∧ Cond.initialized RJ0 ∈ wsL_law0 ∧ y.cls = RJ0 ∧ (y.cls ≠ "java/lang/invoke/MethodHandle" ∧ y.cls ≠ "java/lang/invoke/VarHandle" ∧ (parseMethodDescriptor y.desc).map (fun d => d.parameters.length) = some n) ∧ maxL ≤ 41
/-- a call of a text constant's method -/
theorem g_callJ {i n h' b maxL : Nat} {y : MethodName} {cy : ByteArray} {rt : Option FieldType} {As rest stk : List Value} {v : Int32} {S' : St} (X : CxOk z ad own cc nL ret h) (hd : decode cc pc = .ok (.invokevirtual i, 3)) (F : MLj own i y cy maxL rt n) (hM : ∀ (l : Launch) (D : va_G) (cyy : Nat → ClassId), OkM l y cy maxL rt h' ad D cyy (.ref (ad (156 + b)) :: As) S (some (.int v), S')) (hb2 : b < 5) (hh : h' < h) (hn : As.length = n) (hstk : stk = As.reverse ++ .ref (ad (156 + b)) :: rest) (hw : (rest.map fun v => v.category).sum ≤ 8)
    (kk : GW z ad o S' (pc + 3) lv (.int v :: rest)) : GW z ad o S pc lv stk := by
  subst hstk
  obtain ⟨⟨p, l, e, R, s, m, args, below, meth, c0⟩, D, cyy, Q, kc, ks, Fr, A⟩ := z
  obtain ⟨hx, hb, hml, hown, hts, hr, hlk, hR, hK, hE, hI, hFr, hQ, hA⟩ := X
  intro H locs ls hP hS hf hl
  obtain ⟨f1, f2, f3, f4, f5, f6, f7, f8⟩ := F
  have hrecv := vk_recv (ex_S hE) hb2 hS
  have hrun := va_runV (locs := locs) (g := F0 m pc ls (As.reverse ++ .ref (ad (156 + b)) :: rest)) (cells := kc) (slots := ks) (below := below) (meth := meth) (e := e) (R := R) (C := RJ0) (rest := rest) (As := As) (b := ad (156 + b)) (nL := c0.maxLocals) ⟨hx, hb, rfl, hown, hts⟩ (hM l D cyy) ⟨callB_pool hts f1 f2 (by rw [f6]; exact f5) f7 f8 ⟨hR.1, hR.2.1⟩ hh, hts _ f3, hts _ f4⟩ ⟨blind_pool, hrecv, fun U hU hW => ⟨rfl, by rw [hU]; exact hP, va_K.moved hW.alike hK, (hE.next hS hU hW).sub hA⟩⟩ rfl hn hl.1 rfl (by show 2 * (F0 m pc ls _).monitorRoom + _ ≤ 8; simpa [JFrame.monitorRoom] using hw) hd ⟨hR.2.2.1, hR.2.2.2⟩
  intro T hT X2
  obtain ⟨v2, st₀, t, T', L, h0, X', hL, e1, e2, ⟨hv, ⟨hP1, hK1, hE1⟩, hz, hk⟩, stp⟩ := hrun T hT X2
  obtain rfl : v2 = some (.int v) := by cases hv; rfl
  rw [h0] at hz hk
  obtain ⟨t2, a1, b1⟩ := kk T'.heap (locs ++ L) ls (by rw [e1]; exact hP1) ⟨Nat.le_trans hS.1 (by rw [e1]; exact hz), fun q h1 h2 => by rw [e1, hk q (Nat.lt_of_lt_of_le h1 hS.1) (fun x => h2 (hA q x))]; exact hS.2.1 q h1 h2, fun q hq => (List.mem_append.mp hq).elim (hS.2.2 q) (fun x => hA _ (hL q x))⟩ (hFr.1 H _ (by rw [e1]; exact hz) (fun q h1 h2 => by rw [e1]; exact hk q h1 h2) hf) hl T' rfl X'
  exact ⟨t2, stp t2 a1, b1⟩
end GSX
theorem mlX7_83 : MLj RX7 83 yJ0_length_8abf5 cJ0_length_8abf5 1 (some .int) 0 := ⟨(inr_49 _ (List.mem_of_getElem? (i := 16) rfl)), (inr_49 _ (List.mem_of_getElem? (i := 12) rfl)), (inr_49 _ (List.mem_of_getElem? (i := 13) rfl)), (inr_49 _ (List.mem_of_getElem? (i := 14) rfl)), (inr_49 _ (List.mem_of_getElem? (i := 15) rfl)), rfl, ⟨by decide, by decide, by decide +kernel⟩, by decide⟩
theorem mlX7_88 : MLj RX7 88 yJ0_charAt_5068e cJ0_charAt_5068e 2 (some .char) 1 := ⟨(inr_50 _ (List.mem_of_getElem? (i := 3) rfl)), (inr_50 _ (List.mem_of_getElem? (i := 0) rfl)), (inr_50 _ (List.mem_of_getElem? (i := 1) rfl)), (inr_50 _ (List.mem_of_getElem? (i := 2) rfl)), (inr_49 _ (List.mem_of_getElem? (i := 15) rfl)), rfl, ⟨by decide, by decide, by decide +kernel⟩, by decide⟩
theorem mlJ0_335 : MLj RJ0 335 yJ0_coder_7d493 cJ0_coder_7d493 1 (some .byte) 0 := ⟨(inr_49 _ (List.mem_of_getElem? (i := 21) rfl)), (inr_49 _ (List.mem_of_getElem? (i := 18) rfl)), (inr_49 _ (List.mem_of_getElem? (i := 19) rfl)), (inr_49 _ (List.mem_of_getElem? (i := 20) rfl)), (inr_49 _ (List.mem_of_getElem? (i := 15) rfl)), rfl, ⟨by decide, by decide, by decide +kernel⟩, by decide⟩
theorem mlJ0_492 : MLj RJ0 492 yJ0_isLatin1_aae02 cJ0_isLatin1_aae02 1 (some .boolean) 0 := ⟨(inr_50 _ (List.mem_of_getElem? (i := 7) rfl)), (inr_50 _ (List.mem_of_getElem? (i := 4) rfl)), (inr_50 _ (List.mem_of_getElem? (i := 5) rfl)), (inr_50 _ (List.mem_of_getElem? (i := 6) rfl)), (inr_49 _ (List.mem_of_getElem? (i := 15) rfl)), rfl, ⟨by decide, by decide, by decide +kernel⟩, by decide⟩
theorem mlJ0_495 : MLs RJ0 495 yJ1_charAt_3b067 cJ1_charAt_3b067 2 (some .char) 2 := ⟨(inr_50 _ (List.mem_of_getElem? (i := 11) rfl)), (inr_50 _ (List.mem_of_getElem? (i := 8) rfl)), (inr_50 _ (List.mem_of_getElem? (i := 9) rfl)), (inr_50 _ (List.mem_of_getElem? (i := 10) rfl)), ⟨by decide, by decide, by decide +kernel⟩, by decide⟩
theorem mlJ1_9 : MLs RJ1 9 yJ0_checkIndex_df160 cJ0_checkIndex_df160 2 none 2 := ⟨(inr_50 _ (List.mem_of_getElem? (i := 14) rfl)), (inr_50 _ (List.mem_of_getElem? (i := 12) rfl)), (inr_50 _ (List.mem_of_getElem? (i := 13) rfl)), (inr_49 _ (List.mem_of_getElem? (i := 15) rfl)), ⟨by decide, by decide, by decide +kernel⟩, by decide⟩
theorem mlJ0_1059 : MLs RJ0 1059 yJ3_checkIndex_8e157 cJ3_checkIndex_8e157 3 (some .int) 3 := ⟨(inr_50 _ (List.mem_of_getElem? (i := 19) rfl)), (inr_50 _ (List.mem_of_getElem? (i := 16) rfl)), (inr_50 _ (List.mem_of_getElem? (i := 17) rfl)), (inr_50 _ (List.mem_of_getElem? (i := 18) rfl)), ⟨by decide, by decide, by decide +kernel⟩, by decide⟩
theorem tJ0_coder_7d493 {ad : Nat → Nat} (hI : Inj ad) (l : Launch) (D : va_G) (cyy : Nat → ClassId) (i : Nat) (hi : i < 5) (S : St) : OkM l yJ0_coder_7d493 cJ0_coder_7d493 1 (some .byte) 1 ad D cyy [.ref (ad (156 + i))] S (some (.int 0), S) := okM_of hI (by decide) (inr_49 _ (List.mem_of_getElem? (i := 21) rfl)) (by show _ ≤ 1; exact Nat.le_of_ble_eq_true rfl) (fun z X => by
  refine g_scs X dJ0_coder_7d493_0 (inr_49 _ (List.mem_of_getElem? (i := 22) rfl)) ?_
  refine g_if_eq (tgt := 13) X dJ0_coder_7d493_3 (by decide) (fun c0 => absurd c0 (by decide)) (fun _ => ?_)
  refine g_aload_n X dJ0_coder_7d493_6 0 rfl rfl ?_
  refine g_scod X dJ0_coder_7d493_7 (inr_49 _ (List.mem_of_getElem? (i := 23) rfl)) hi ?_
  refine g_goto (tgt := 14) X dJ0_coder_7d493_10 (by decide) ?_
  exact g_tret X dJ0_coder_7d493_14 (by decide) rfl)
theorem tJ0_isLatin1_aae02 {ad : Nat → Nat} (hI : Inj ad) (l : Launch) (D : va_G) (cyy : Nat → ClassId) (i : Nat) (hi : i < 5) (S : St) : OkM l yJ0_isLatin1_aae02 cJ0_isLatin1_aae02 1 (some .boolean) 1 ad D cyy [.ref (ad (156 + i))] S (some (.int 1), S) := okM_of hI (by decide) (inr_50 _ (List.mem_of_getElem? (i := 7) rfl)) (by show _ ≤ 1; exact Nat.le_of_ble_eq_true rfl) (fun z X => by
  refine g_scs X dJ0_isLatin1_aae02_0 (inr_49 _ (List.mem_of_getElem? (i := 22) rfl)) ?_
  refine g_if_eq (tgt := 17) X dJ0_isLatin1_aae02_3 (by decide) (fun c0 => absurd c0 (by decide)) (fun _ => ?_)
  refine g_aload_n X dJ0_isLatin1_aae02_6 0 rfl rfl ?_
  refine g_scod X dJ0_isLatin1_aae02_7 (inr_49 _ (List.mem_of_getElem? (i := 23) rfl)) hi ?_
  refine g_if_ne (tgt := 17) X dJ0_isLatin1_aae02_10 (by decide) (fun c0 => absurd rfl c0) (fun _ => ?_)
  refine g_iconst (v := 1) X dJ0_isLatin1_aae02_13 (by decide) ?_
  refine g_goto (tgt := 18) X dJ0_isLatin1_aae02_14 (by decide) ?_
  exact g_tret X dJ0_isLatin1_aae02_18 (by decide) rfl)
theorem shr0 (x : Int32) : x >>> ((0 : Int32) &&& 31) = x := by
  apply Int32.toBitVec_inj.1
  simp
theorem tJ0_length_8abf5 {ad : Nat → Nat} (hI : Inj ad) (l : Launch) (D : va_G) (cyy : Nat → ClassId) (i : Nat) (hi : i < 5) (S : St) : OkM l yJ0_length_8abf5 cJ0_length_8abf5 1 (some .int) 2 ad D cyy [.ref (ad (156 + i))] S (some (.int (Int32.ofNat (sxLen.getD i 0))), S) := okM_of hI (by decide) (inr_49 _ (List.mem_of_getElem? (i := 16) rfl)) (by show _ ≤ 1; exact Nat.le_of_ble_eq_true rfl) (fun z X => by
  refine g_aload_n X dJ0_length_8abf5_0 0 rfl rfl ?_
  refine g_sval X dJ0_length_8abf5_1 (inr_49 _ (List.mem_of_getElem? (i := 17) rfl)) hi ?_
  refine g_slen X dJ0_length_8abf5_4 hi rfl ?_
  refine g_aload_n X dJ0_length_8abf5_5 0 rfl rfl ?_
  refine g_callJ (As := []) X dJ0_length_8abf5_6 mlJ0_335 (fun l D cyy => tJ0_coder_7d493 hI l D cyy i hi S) hi (by decide) rfl rfl (Nat.le_of_ble_eq_true rfl) ?_
  refine g_ishr X dJ0_length_8abf5_9 ?_
  rw [shr0]
  exact g_iret X dJ0_length_8abf5_10 rfl)
theorem tJ3_checkIndex_8e157 {ad : Nat → Nat} (hI : Inj ad) (l : Launch) (D : va_G) (cyy : Nat → ClassId) (j n : Int32) (hj : ¬ j < 0) (hn : j < n) (v : Value) (hv : v.category = 1) (S : St) : OkM l yJ3_checkIndex_8e157 cJ3_checkIndex_8e157 3 (some .int) 1 ad D cyy [.int j, .int n, v] S (some (.int j), S) := okM_of hI (by decide) (inr_50 _ (List.mem_of_getElem? (i := 19) rfl)) (by cases v <;> first | (simp [lg_sl, Value.category]; done) | (simp [Value.category] at hv; done)) (fun z X => by
  have X' : lv_args 0 [.int j, .int n, v] = [(0, .int j), (1, .int n), (2, v)] := rfl
  rw [X']
  refine g_iload_n X dJ3_checkIndex_8e157_0 0 rfl rfl ?_
  refine g_if_lt (tgt := 9) X dJ3_checkIndex_8e157_1 (by decide) (fun c0 => absurd c0 hj) (fun _ => ?_)
  refine g_iload_n X dJ3_checkIndex_8e157_4 0 rfl rfl ?_
  refine g_iload_n X dJ3_checkIndex_8e157_5 1 rfl rfl ?_
  refine g_icmp_lt (tgt := 16) X dJ3_checkIndex_8e157_6 (by decide) (fun _ => ?_) (fun c0 => absurd hn c0)
  refine g_iload_n X dJ3_checkIndex_8e157_16 0 rfl rfl ?_
  exact g_iret X dJ3_checkIndex_8e157_17 rfl)
theorem tJ0_checkIndex_df160 {ad : Nat → Nat} (hI : Inj ad) (l : Launch) (D : va_G) (cyy : Nat → ClassId) (j n : Int32) (hj : ¬ j < 0) (hn : j < n) (S : St) : OkM l yJ0_checkIndex_df160 cJ0_checkIndex_df160 2 none 2 ad D cyy [.int j, .int n] S (none, S) := okM_of hI (by decide) (inr_50 _ (List.mem_of_getElem? (i := 14) rfl)) (by show _ ≤ 2; exact Nat.le_of_ble_eq_true rfl) (fun z X => by
  refine g_iload_n X dJ0_checkIndex_df160_0 0 rfl rfl ?_
  refine g_iload_n X dJ0_checkIndex_df160_1 1 rfl rfl ?_
  refine g_sfm X dJ0_checkIndex_df160_2 (inr_50 _ (List.mem_of_getElem? (i := 15) rfl)) (fun v hv => ?_)
  refine g_callSi (As := [.int j, .int n, v]) X dJ0_checkIndex_df160_5 mlJ0_1059 (fun l D cyy => tJ3_checkIndex_8e157 hI l D cyy j n hj hn v hv S) (by decide) rfl rfl (Nat.le_of_ble_eq_true rfl) ?_
  refine g_pop (a := .int j) X dJ0_checkIndex_df160_8 rfl ?_
  exact g_vret X dJ0_checkIndex_df160_9 rfl)
def sxC (i : Nat) (j : Nat) : Int32 := (sxByt.getD i []).getD j 0
theorem sx_c {i j : Nat} (hi : i < 5) (hj : j < sxLen.getD i 0) : ((((sxByt.getD i []).getD j 0) &&& 255).toUInt32 % 65536).toInt32 = sxC i j ∧ narrow .char (.int (sxC i j)) = .int (sxC i j) := by
  have h : ∀ i, i < 5 → ∀ j, j < 9 → j < sxLen.getD i 0 → ((((sxByt.getD i []).getD j 0) &&& 255).toUInt32 % 65536).toInt32 = sxC i j ∧ narrow .char (.int (sxC i j)) = .int (sxC i j) := by decide +kernel
  have h9 : ∀ i, i < 5 → sxLen.getD i 0 ≤ 9 := by decide +kernel
  exact h i hi j (Nat.lt_of_lt_of_le hj (h9 i hi)) hj
theorem sx_len {i : Nat} (hi : i < 5) : sxLen.getD i 0 < 10 := (show ∀ i, i < 5 → sxLen.getD i 0 < 10 by decide +kernel) i hi
theorem tJ1_charAt_3b067 {ad : Nat → Nat} (hI : Inj ad) (l : Launch) (D : va_G) (cyy : Nat → ClassId) (i j : Nat) (hi : i < 5) (hj : j < sxLen.getD i 0) (S : St) : OkM l yJ1_charAt_3b067 cJ1_charAt_3b067 2 (some .char) 3 ad D cyy [.ref (ad (161 + i)), .int (nI j)] S (some (.int (sxC i j)), S) := okM_of hI (by decide) (inr_50 _ (List.mem_of_getElem? (i := 11) rfl)) (by show _ ≤ 2; exact Nat.le_of_ble_eq_true rfl) (fun z X => by
  have hl9 := sx_len hi
  have hin : ¬ (nI j < 0 ∨ sxLen.getD i 0 ≤ (nI j).toNatClampNeg) := nI_in hj (by omega)
  refine g_iload_n X dJ1_charAt_3b067_0 1 rfl rfl ?_
  refine g_aload_n X dJ1_charAt_3b067_1 0 rfl rfl ?_
  refine g_slen X dJ1_charAt_3b067_2 hi rfl ?_
  refine g_callSv (As := [.int (nI j), .int (Int32.ofNat (sxLen.getD i 0))]) X dJ1_charAt_3b067_3 mlJ1_9 (fun l D cyy => tJ0_checkIndex_df160 hI l D cyy (nI j) (Int32.ofNat (sxLen.getD i 0)) (nI_pos (by omega)) (nI_lt hj (by omega)) S) (by decide) rfl rfl (Nat.le_of_ble_eq_true rfl) ?_
  refine g_aload_n X dJ1_charAt_3b067_6 0 rfl rfl ?_
  refine g_iload_n X dJ1_charAt_3b067_7 1 rfl rfl ?_
  refine g_sbal X dJ1_charAt_3b067_8 hi hin ?_
  refine g_sipush (v := 255) X dJ1_charAt_3b067_9 (by decide) ?_
  refine g_iand X dJ1_charAt_3b067_12 ?_
  refine g_i2c X dJ1_charAt_3b067_13 ?_
  rw [nI_clamp (by omega), (sx_c hi hj).1]
  exact g_tret X dJ1_charAt_3b067_14 (sx_c hi hj).2 rfl)
theorem tJ0_charAt_5068e {ad : Nat → Nat} (hI : Inj ad) (l : Launch) (D : va_G) (cyy : Nat → ClassId) (i j : Nat) (hi : i < 5) (hj : j < sxLen.getD i 0) (S : St) : OkM l yJ0_charAt_5068e cJ0_charAt_5068e 2 (some .char) 4 ad D cyy [.ref (ad (156 + i)), .int (nI j)] S (some (.int (sxC i j)), S) := okM_of hI (by decide) (inr_50 _ (List.mem_of_getElem? (i := 3) rfl)) (by show _ ≤ 2; exact Nat.le_of_ble_eq_true rfl) (fun z X => by
  refine g_aload_n X dJ0_charAt_5068e_0 0 rfl rfl ?_
  refine g_callJ (As := []) X dJ0_charAt_5068e_1 mlJ0_492 (fun l D cyy => tJ0_isLatin1_aae02 hI l D cyy i hi S) hi (by decide) rfl rfl (Nat.le_of_ble_eq_true rfl) ?_
  refine g_if_eq (tgt := 16) X dJ0_charAt_5068e_4 (by decide) (fun c0 => absurd c0 (by decide)) (fun _ => ?_)
  refine g_aload_n X dJ0_charAt_5068e_7 0 rfl rfl ?_
  refine g_sval X dJ0_charAt_5068e_8 (inr_49 _ (List.mem_of_getElem? (i := 17) rfl)) hi ?_
  refine g_iload_n X dJ0_charAt_5068e_11 1 rfl rfl ?_
  refine g_callSi (As := [.ref (ad (161 + i)), .int (nI j)]) X dJ0_charAt_5068e_12 mlJ0_495 (fun l D cyy => tJ1_charAt_3b067 hI l D cyy i j hi hj S) (by decide) rfl rfl (Nat.le_of_ble_eq_true rfl) ?_
  exact g_tret X dJ0_charAt_5068e_15 (sx_c hi hj).2 rfl)
theorem nI_back {x : Int32} (h : ¬ x < 0) : x = nI x.toNatClampNeg := by
  obtain ⟨j, hj, rfl⟩ := nI_of h
  rw [nI_clamp hj]
theorem tJ0_charAt2 {ad : Nat → Nat} (hI : Inj ad) (l : Launch) (D : va_G) (cyy : Nat → ClassId) (i : Nat) (hi : i < 5) (x : Int32) (hx : ¬ (x < 0 ∨ sxLen.getD i 0 ≤ x.toNatClampNeg)) (S : St) : OkM l yJ0_charAt_5068e cJ0_charAt_5068e 2 (some .char) 4 ad D cyy [.ref (ad (156 + i)), .int x] S (some (.int (sxC i x.toNatClampNeg)), S) := by
  have h := tJ0_charAt_5068e hI l D cyy i x.toNatClampNeg hi (inb hx) S
  rw [← nI_back (fun q => hx (Or.inl q))] at h
  exact h
