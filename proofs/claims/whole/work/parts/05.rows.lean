theorem g_iconst {z : Mx} {ad : Nat → Nat} {o : Option Value × St} {S : St} {own : String} {cc : ByteArray} {nL : Nat} {ret : Option FieldType} {h pc : Nat} {lv : List (Nat × Value)} {st : List Value} {n : Int} {v : Int32} (X : CxOk z ad own cc nL ret h) (hd : decode cc pc = .ok (.iconst n, 1)) (hv : Int32.ofInt n = v) (k : GW z ad o S (pc + 1) lv (.int v :: st)) : GW z ad o S pc lv (st) := by
  obtain ⟨⟨p, l, e, R, s, m, args, below, meth, c⟩, D, cy, Q, kc, ks, Fr, A⟩ := z
  obtain ⟨hx, hb, hml, hown, hts, hr, hlk, hR, hK, hE, hI, hFr, hQ, hA⟩ := X
  intro H locs ls hP hS hf hl
  exact lv_iconst hx hb hd hv (k H locs ls hP hS hf hl)
theorem g_bipush {z : Mx} {ad : Nat → Nat} {o : Option Value × St} {S : St} {own : String} {cc : ByteArray} {nL : Nat} {ret : Option FieldType} {h pc : Nat} {lv : List (Nat × Value)} {st : List Value} {n : Int} {v : Int32} (X : CxOk z ad own cc nL ret h) (hd : decode cc pc = .ok (.bipush n, 2)) (hv : (Int8.ofInt n).toInt32 = v) (k : GW z ad o S (pc + 2) lv (.int v :: st)) : GW z ad o S pc lv (st) := by
  obtain ⟨⟨p, l, e, R, s, m, args, below, meth, c⟩, D, cy, Q, kc, ks, Fr, A⟩ := z
  obtain ⟨hx, hb, hml, hown, hts, hr, hlk, hR, hK, hE, hI, hFr, hQ, hA⟩ := X
  intro H locs ls hP hS hf hl
  exact lv_bipush hx hb hd hv (k H locs ls hP hS hf hl)
theorem g_sipush {z : Mx} {ad : Nat → Nat} {o : Option Value × St} {S : St} {own : String} {cc : ByteArray} {nL : Nat} {ret : Option FieldType} {h pc : Nat} {lv : List (Nat × Value)} {st : List Value} {n : Int} {v : Int32} (X : CxOk z ad own cc nL ret h) (hd : decode cc pc = .ok (.sipush n, 3)) (hv : (Int16.ofInt n).toInt32 = v) (k : GW z ad o S (pc + 3) lv (.int v :: st)) : GW z ad o S pc lv (st) := by
  obtain ⟨⟨p, l, e, R, s, m, args, below, meth, c⟩, D, cy, Q, kc, ks, Fr, A⟩ := z
  obtain ⟨hx, hb, hml, hown, hts, hr, hlk, hR, hK, hE, hI, hFr, hQ, hA⟩ := X
  intro H locs ls hP hS hf hl
  exact lv_sipush hx hb hd hv (k H locs ls hP hS hf hl)
theorem g_ldc {z : Mx} {ad : Nat → Nat} {o : Option Value × St} {S : St} {own : String} {cc : ByteArray} {nL : Nat} {ret : Option FieldType} {h pc : Nat} {lv : List (Nat × Value)} {st : List Value} {i : Nat} {v : Int32} (X : CxOk z ad own cc nL ret h) (hd : decode cc pc = .ok (.ldc i, 2)) (hw : Cond.constant own i v ∈ wsL_law0) (k : GW z ad o S (pc + 2) lv (.int v :: st)) : GW z ad o S pc lv (st) := by
  obtain ⟨⟨p, l, e, R, s, m, args, below, meth, c⟩, D, cy, Q, kc, ks, Fr, A⟩ := z
  obtain ⟨hx, hb, hml, hown, hts, hr, hlk, hR, hK, hE, hI, hFr, hQ, hA⟩ := X
  intro H locs ls hP hS hf hl
  exact lv_ldc hx hb hown (hts _ hw) hd (k H locs ls hP hS hf hl)
theorem g_ldcw {z : Mx} {ad : Nat → Nat} {o : Option Value × St} {S : St} {own : String} {cc : ByteArray} {nL : Nat} {ret : Option FieldType} {h pc : Nat} {lv : List (Nat × Value)} {st : List Value} {i : Nat} {v : Int32} (X : CxOk z ad own cc nL ret h) (hd : decode cc pc = .ok (.ldc_w i, 3)) (hw : Cond.constant own i v ∈ wsL_law0) (k : GW z ad o S (pc + 3) lv (.int v :: st)) : GW z ad o S pc lv (st) := by
  obtain ⟨⟨p, l, e, R, s, m, args, below, meth, c⟩, D, cy, Q, kc, ks, Fr, A⟩ := z
  obtain ⟨hx, hb, hml, hown, hts, hr, hlk, hR, hK, hE, hI, hFr, hQ, hA⟩ := X
  intro H locs ls hP hS hf hl
  exact lv_ldcw hx hb hown (hts _ hw) hd (k H locs ls hP hS hf hl)
theorem g_ldc2 {z : Mx} {ad : Nat → Nat} {o : Option Value × St} {S : St} {own : String} {cc : ByteArray} {nL : Nat} {ret : Option FieldType} {h pc : Nat} {lv : List (Nat × Value)} {st : List Value} {i : Nat} {v : Int64} (X : CxOk z ad own cc nL ret h) (hd : decode cc pc = .ok (.ldc2_w i, 3)) (hw : Cond.constantLong own i v ∈ wsL_law0) (k : GW z ad o S (pc + 3) lv (.long v :: st)) : GW z ad o S pc lv (st) := by
  obtain ⟨⟨p, l, e, R, s, m, args, below, meth, c⟩, D, cy, Q, kc, ks, Fr, A⟩ := z
  obtain ⟨hx, hb, hml, hown, hts, hr, hlk, hR, hK, hE, hI, hFr, hQ, hA⟩ := X
  intro H locs ls hP hS hf hl
  exact lv_ldc2 hx hb hown (hts _ hw) hd (k H locs ls hP hS hf hl)
theorem g_lconst {z : Mx} {ad : Nat → Nat} {o : Option Value × St} {S : St} {own : String} {cc : ByteArray} {nL : Nat} {ret : Option FieldType} {h pc : Nat} {lv : List (Nat × Value)} {st : List Value} {n : Fin 2} {v : Int64} (X : CxOk z ad own cc nL ret h) (hd : decode cc pc = .ok (.lconst n, 1)) (hv : Int64.ofNat n.val = v) (k : GW z ad o S (pc + 1) lv (.long v :: st)) : GW z ad o S pc lv (st) := by
  obtain ⟨⟨p, l, e, R, s, m, args, below, meth, c⟩, D, cy, Q, kc, ks, Fr, A⟩ := z
  obtain ⟨hx, hb, hml, hown, hts, hr, hlk, hR, hK, hE, hI, hFr, hQ, hA⟩ := X
  intro H locs ls hP hS hf hl
  exact lv_lconst hx hb hd hv (k H locs ls hP hS hf hl)
theorem g_iload_n {z : Mx} {ad : Nat → Nat} {o : Option Value × St} {S : St} {own : String} {cc : ByteArray} {nL : Nat} {ret : Option FieldType} {h pc : Nat} {lv : List (Nat × Value)} {st : List Value} {q : Fin 4} {i : Nat} {x : Int32} (X : CxOk z ad own cc nL ret h) (hd : decode cc pc = .ok (.iload_n q, 1)) (j : Nat) (hi : (q : Nat) = i) (hj : lv[j]? = some (i, .int x)) (k : GW z ad o S (pc + 1) lv (.int x :: st)) : GW z ad o S pc lv (st) := by
  obtain ⟨⟨p, l, e, R, s, m, args, below, meth, c⟩, D, cy, Q, kc, ks, Fr, A⟩ := z
  obtain ⟨hx, hb, hml, hown, hts, hr, hlk, hR, hK, hE, hI, hFr, hQ, hA⟩ := X
  intro H locs ls hP hS hf hl
  exact lv_iload_n hx hb hd hi (lv_at hl j hj) (k H locs ls hP hS hf hl)
theorem g_iload {z : Mx} {ad : Nat → Nat} {o : Option Value × St} {S : St} {own : String} {cc : ByteArray} {nL : Nat} {ret : Option FieldType} {h pc : Nat} {lv : List (Nat × Value)} {st : List Value} {i : Nat} {x : Int32} (X : CxOk z ad own cc nL ret h) (hd : decode cc pc = .ok (.iload i, 2)) (j : Nat) (hj : lv[j]? = some (i, .int x)) (k : GW z ad o S (pc + 2) lv (.int x :: st)) : GW z ad o S pc lv (st) := by
  obtain ⟨⟨p, l, e, R, s, m, args, below, meth, c⟩, D, cy, Q, kc, ks, Fr, A⟩ := z
  obtain ⟨hx, hb, hml, hown, hts, hr, hlk, hR, hK, hE, hI, hFr, hQ, hA⟩ := X
  intro H locs ls hP hS hf hl
  exact lv_iload hx hb hd (lv_at hl j hj) (k H locs ls hP hS hf hl)
theorem g_lload_n {z : Mx} {ad : Nat → Nat} {o : Option Value × St} {S : St} {own : String} {cc : ByteArray} {nL : Nat} {ret : Option FieldType} {h pc : Nat} {lv : List (Nat × Value)} {st : List Value} {q : Fin 4} {i : Nat} {x : Int64} (X : CxOk z ad own cc nL ret h) (hd : decode cc pc = .ok (.lload_n q, 1)) (j : Nat) (hi : (q : Nat) = i) (hj : lv[j]? = some (i, .long x)) (k : GW z ad o S (pc + 1) lv (.long x :: st)) : GW z ad o S pc lv (st) := by
  obtain ⟨⟨p, l, e, R, s, m, args, below, meth, c⟩, D, cy, Q, kc, ks, Fr, A⟩ := z
  obtain ⟨hx, hb, hml, hown, hts, hr, hlk, hR, hK, hE, hI, hFr, hQ, hA⟩ := X
  intro H locs ls hP hS hf hl
  exact lv_lload_n hx hb hd hi (lv_at hl j hj) (k H locs ls hP hS hf hl)
theorem g_lload {z : Mx} {ad : Nat → Nat} {o : Option Value × St} {S : St} {own : String} {cc : ByteArray} {nL : Nat} {ret : Option FieldType} {h pc : Nat} {lv : List (Nat × Value)} {st : List Value} {i : Nat} {x : Int64} (X : CxOk z ad own cc nL ret h) (hd : decode cc pc = .ok (.lload i, 2)) (j : Nat) (hj : lv[j]? = some (i, .long x)) (k : GW z ad o S (pc + 2) lv (.long x :: st)) : GW z ad o S pc lv (st) := by
  obtain ⟨⟨p, l, e, R, s, m, args, below, meth, c⟩, D, cy, Q, kc, ks, Fr, A⟩ := z
  obtain ⟨hx, hb, hml, hown, hts, hr, hlk, hR, hK, hE, hI, hFr, hQ, hA⟩ := X
  intro H locs ls hP hS hf hl
  exact lv_lload hx hb hd (lv_at hl j hj) (k H locs ls hP hS hf hl)
theorem g_aload_n {z : Mx} {ad : Nat → Nat} {o : Option Value × St} {S : St} {own : String} {cc : ByteArray} {nL : Nat} {ret : Option FieldType} {h pc : Nat} {lv : List (Nat × Value)} {st : List Value} {q : Fin 4} {i : Nat} {x : Nat} (X : CxOk z ad own cc nL ret h) (hd : decode cc pc = .ok (.aload_n q, 1)) (j : Nat) (hi : (q : Nat) = i) (hj : lv[j]? = some (i, .ref x)) (k : GW z ad o S (pc + 1) lv (.ref x :: st)) : GW z ad o S pc lv (st) := by
  obtain ⟨⟨p, l, e, R, s, m, args, below, meth, c⟩, D, cy, Q, kc, ks, Fr, A⟩ := z
  obtain ⟨hx, hb, hml, hown, hts, hr, hlk, hR, hK, hE, hI, hFr, hQ, hA⟩ := X
  intro H locs ls hP hS hf hl
  exact lv_aload_n hx hb hd hi (lv_at hl j hj) (k H locs ls hP hS hf hl)
theorem g_aload {z : Mx} {ad : Nat → Nat} {o : Option Value × St} {S : St} {own : String} {cc : ByteArray} {nL : Nat} {ret : Option FieldType} {h pc : Nat} {lv : List (Nat × Value)} {st : List Value} {i : Nat} {x : Nat} (X : CxOk z ad own cc nL ret h) (hd : decode cc pc = .ok (.aload i, 2)) (j : Nat) (hj : lv[j]? = some (i, .ref x)) (k : GW z ad o S (pc + 2) lv (.ref x :: st)) : GW z ad o S pc lv (st) := by
  obtain ⟨⟨p, l, e, R, s, m, args, below, meth, c⟩, D, cy, Q, kc, ks, Fr, A⟩ := z
  obtain ⟨hx, hb, hml, hown, hts, hr, hlk, hR, hK, hE, hI, hFr, hQ, hA⟩ := X
  intro H locs ls hP hS hf hl
  exact lv_aload hx hb hd (lv_at hl j hj) (k H locs ls hP hS hf hl)
theorem g_istore_n {z : Mx} {ad : Nat → Nat} {o : Option Value × St} {S : St} {own : String} {cc : ByteArray} {nL : Nat} {ret : Option FieldType} {h pc : Nat} {lv : List (Nat × Value)} {st : List Value} {q : Fin 4} {i : Nat} {x : Int32} {lv' : List (Nat × Value)} (X : CxOk z ad own cc nL ret h) (hd : decode cc pc = .ok (.istore_n q, 1)) (hi : (q : Nat) = i) (hn : i < nL) (hl2 : (i, .int x) :: lv.filter (fun q => !(q.1 == i) && !(q.1 + 1 == i && q.2.category == 2)) = lv') (k : GW z ad o S (pc + 1) lv' st) : GW z ad o S pc lv (.int x :: st) := by
  obtain ⟨⟨p, l, e, R, s, m, args, below, meth, c⟩, D, cy, Q, kc, ks, Fr, A⟩ := z
  obtain ⟨hx, hb, hml, hown, hts, hr, hlk, hR, hK, hE, hI, hFr, hQ, hA⟩ := X
  intro H locs ls hP hS hf hl
  subst hml
  exact lv_istore_n hx hb hd hi hl hn hl2 (fun ls hl => k H locs ls hP hS hf hl)
theorem g_istore {z : Mx} {ad : Nat → Nat} {o : Option Value × St} {S : St} {own : String} {cc : ByteArray} {nL : Nat} {ret : Option FieldType} {h pc : Nat} {lv : List (Nat × Value)} {st : List Value} {i : Nat} {x : Int32} {lv' : List (Nat × Value)} (X : CxOk z ad own cc nL ret h) (hd : decode cc pc = .ok (.istore i, 2)) (hn : i < nL) (hl2 : (i, .int x) :: lv.filter (fun q => !(q.1 == i) && !(q.1 + 1 == i && q.2.category == 2)) = lv') (k : GW z ad o S (pc + 2) lv' st) : GW z ad o S pc lv (.int x :: st) := by
  obtain ⟨⟨p, l, e, R, s, m, args, below, meth, c⟩, D, cy, Q, kc, ks, Fr, A⟩ := z
  obtain ⟨hx, hb, hml, hown, hts, hr, hlk, hR, hK, hE, hI, hFr, hQ, hA⟩ := X
  intro H locs ls hP hS hf hl
  subst hml
  exact lv_istore hx hb hd hl hn hl2 (fun ls hl => k H locs ls hP hS hf hl)
theorem g_astore_n {z : Mx} {ad : Nat → Nat} {o : Option Value × St} {S : St} {own : String} {cc : ByteArray} {nL : Nat} {ret : Option FieldType} {h pc : Nat} {lv : List (Nat × Value)} {st : List Value} {q : Fin 4} {i : Nat} {x : Nat} {lv' : List (Nat × Value)} (X : CxOk z ad own cc nL ret h) (hd : decode cc pc = .ok (.astore_n q, 1)) (hi : (q : Nat) = i) (hn : i < nL) (hl2 : (i, .ref x) :: lv.filter (fun q => !(q.1 == i) && !(q.1 + 1 == i && q.2.category == 2)) = lv') (k : GW z ad o S (pc + 1) lv' st) : GW z ad o S pc lv (.ref x :: st) := by
  obtain ⟨⟨p, l, e, R, s, m, args, below, meth, c⟩, D, cy, Q, kc, ks, Fr, A⟩ := z
  obtain ⟨hx, hb, hml, hown, hts, hr, hlk, hR, hK, hE, hI, hFr, hQ, hA⟩ := X
  intro H locs ls hP hS hf hl
  subst hml
  exact lv_astore_n hx hb hd hi hl hn hl2 (fun ls hl => k H locs ls hP hS hf hl)
theorem g_astore {z : Mx} {ad : Nat → Nat} {o : Option Value × St} {S : St} {own : String} {cc : ByteArray} {nL : Nat} {ret : Option FieldType} {h pc : Nat} {lv : List (Nat × Value)} {st : List Value} {i : Nat} {x : Nat} {lv' : List (Nat × Value)} (X : CxOk z ad own cc nL ret h) (hd : decode cc pc = .ok (.astore i, 2)) (hn : i < nL) (hl2 : (i, .ref x) :: lv.filter (fun q => !(q.1 == i) && !(q.1 + 1 == i && q.2.category == 2)) = lv') (k : GW z ad o S (pc + 2) lv' st) : GW z ad o S pc lv (.ref x :: st) := by
  obtain ⟨⟨p, l, e, R, s, m, args, below, meth, c⟩, D, cy, Q, kc, ks, Fr, A⟩ := z
  obtain ⟨hx, hb, hml, hown, hts, hr, hlk, hR, hK, hE, hI, hFr, hQ, hA⟩ := X
  intro H locs ls hP hS hf hl
  subst hml
  exact lv_astore hx hb hd hl hn hl2 (fun ls hl => k H locs ls hP hS hf hl)
theorem g_lstore_n {z : Mx} {ad : Nat → Nat} {o : Option Value × St} {S : St} {own : String} {cc : ByteArray} {nL : Nat} {ret : Option FieldType} {h pc : Nat} {lv : List (Nat × Value)} {st : List Value} {q : Fin 4} {i : Nat} {x : Int64} {lv' : List (Nat × Value)} (X : CxOk z ad own cc nL ret h) (hd : decode cc pc = .ok (.lstore_n q, 1)) (hi : (q : Nat) = i) (hn : i + 1 < nL) (hl2 : (i, .long x) :: lv.filter (fun q => !(q.1 == i) && (!(q.1 == i + 1) && !(q.1 + 1 == i && q.2.category == 2))) = lv') (k : GW z ad o S (pc + 1) lv' st) : GW z ad o S pc lv (.long x :: st) := by
  obtain ⟨⟨p, l, e, R, s, m, args, below, meth, c⟩, D, cy, Q, kc, ks, Fr, A⟩ := z
  obtain ⟨hx, hb, hml, hown, hts, hr, hlk, hR, hK, hE, hI, hFr, hQ, hA⟩ := X
  intro H locs ls hP hS hf hl
  subst hml
  exact lv_lstore_n hx hb hd hi hl hn hl2 (fun ls hl => k H locs ls hP hS hf hl)
theorem g_iinc {z : Mx} {ad : Nat → Nat} {o : Option Value × St} {S : St} {own : String} {cc : ByteArray} {nL : Nat} {ret : Option FieldType} {h pc : Nat} {lv : List (Nat × Value)} {st : List Value} {i : Nat} {n : Int} {x v : Int32} {lv' : List (Nat × Value)} (X : CxOk z ad own cc nL ret h) (hd : decode cc pc = .ok (.iinc i n, 3)) (j : Nat) (hj : lv[j]? = some (i, .int x)) (hv : x + Int32.ofInt n = v) (hn : i < nL) (hl2 : (i, .int v) :: lv.filter (fun q => !(q.1 == i) && !(q.1 + 1 == i && q.2.category == 2)) = lv') (k : GW z ad o S (pc + 3) lv' st) : GW z ad o S pc lv st := by
  obtain ⟨⟨p, l, e, R, s, m, args, below, meth, c⟩, D, cy, Q, kc, ks, Fr, A⟩ := z
  obtain ⟨hx, hb, hml, hown, hts, hr, hlk, hR, hK, hE, hI, hFr, hQ, hA⟩ := X
  intro H locs ls hP hS hf hl
  subst hml
  exact lv_iinc hx hb hd hl hj hv hn hl2 (fun ls hl => k H locs ls hP hS hf hl)
theorem g_iadd {z : Mx} {ad : Nat → Nat} {o : Option Value × St} {S : St} {own : String} {cc : ByteArray} {nL : Nat} {ret : Option FieldType} {h pc : Nat} {lv : List (Nat × Value)} {st : List Value} {x y : Int32} (X : CxOk z ad own cc nL ret h) (hd : decode cc pc = .ok (.iadd, 1)) (k : GW z ad o S (pc + 1) lv (.int (x + y) :: st)) : GW z ad o S pc lv (.int y :: .int x :: st) := by
  obtain ⟨⟨p, l, e, R, s, m, args, below, meth, c⟩, D, cy, Q, kc, ks, Fr, A⟩ := z
  obtain ⟨hx, hb, hml, hown, hts, hr, hlk, hR, hK, hE, hI, hFr, hQ, hA⟩ := X
  intro H locs ls hP hS hf hl
  exact lv_iadd hx hb hd (k H locs ls hP hS hf hl)
theorem g_isub {z : Mx} {ad : Nat → Nat} {o : Option Value × St} {S : St} {own : String} {cc : ByteArray} {nL : Nat} {ret : Option FieldType} {h pc : Nat} {lv : List (Nat × Value)} {st : List Value} {x y : Int32} (X : CxOk z ad own cc nL ret h) (hd : decode cc pc = .ok (.isub, 1)) (k : GW z ad o S (pc + 1) lv (.int (x - y) :: st)) : GW z ad o S pc lv (.int y :: .int x :: st) := by
  obtain ⟨⟨p, l, e, R, s, m, args, below, meth, c⟩, D, cy, Q, kc, ks, Fr, A⟩ := z
  obtain ⟨hx, hb, hml, hown, hts, hr, hlk, hR, hK, hE, hI, hFr, hQ, hA⟩ := X
  intro H locs ls hP hS hf hl
  exact lv_isub hx hb hd (k H locs ls hP hS hf hl)
theorem g_imul {z : Mx} {ad : Nat → Nat} {o : Option Value × St} {S : St} {own : String} {cc : ByteArray} {nL : Nat} {ret : Option FieldType} {h pc : Nat} {lv : List (Nat × Value)} {st : List Value} {x y : Int32} (X : CxOk z ad own cc nL ret h) (hd : decode cc pc = .ok (.imul, 1)) (k : GW z ad o S (pc + 1) lv (.int (x * y) :: st)) : GW z ad o S pc lv (.int y :: .int x :: st) := by
  obtain ⟨⟨p, l, e, R, s, m, args, below, meth, c⟩, D, cy, Q, kc, ks, Fr, A⟩ := z
  obtain ⟨hx, hb, hml, hown, hts, hr, hlk, hR, hK, hE, hI, hFr, hQ, hA⟩ := X
  intro H locs ls hP hS hf hl
  exact lv_imul hx hb hd (k H locs ls hP hS hf hl)
theorem g_ishl {z : Mx} {ad : Nat → Nat} {o : Option Value × St} {S : St} {own : String} {cc : ByteArray} {nL : Nat} {ret : Option FieldType} {h pc : Nat} {lv : List (Nat × Value)} {st : List Value} {x y : Int32} (X : CxOk z ad own cc nL ret h) (hd : decode cc pc = .ok (.ishl, 1)) (k : GW z ad o S (pc + 1) lv (.int (x <<< (y &&& 31)) :: st)) : GW z ad o S pc lv (.int y :: .int x :: st) := by
  obtain ⟨⟨p, l, e, R, s, m, args, below, meth, c⟩, D, cy, Q, kc, ks, Fr, A⟩ := z
  obtain ⟨hx, hb, hml, hown, hts, hr, hlk, hR, hK, hE, hI, hFr, hQ, hA⟩ := X
  intro H locs ls hP hS hf hl
  exact lv_ishl hx hb hd (k H locs ls hP hS hf hl)
theorem g_ishr {z : Mx} {ad : Nat → Nat} {o : Option Value × St} {S : St} {own : String} {cc : ByteArray} {nL : Nat} {ret : Option FieldType} {h pc : Nat} {lv : List (Nat × Value)} {st : List Value} {x y : Int32} (X : CxOk z ad own cc nL ret h) (hd : decode cc pc = .ok (.ishr, 1)) (k : GW z ad o S (pc + 1) lv (.int (x >>> (y &&& 31)) :: st)) : GW z ad o S pc lv (.int y :: .int x :: st) := by
  obtain ⟨⟨p, l, e, R, s, m, args, below, meth, c⟩, D, cy, Q, kc, ks, Fr, A⟩ := z
  obtain ⟨hx, hb, hml, hown, hts, hr, hlk, hR, hK, hE, hI, hFr, hQ, hA⟩ := X
  intro H locs ls hP hS hf hl
  exact lv_ishr hx hb hd (k H locs ls hP hS hf hl)
theorem g_iand {z : Mx} {ad : Nat → Nat} {o : Option Value × St} {S : St} {own : String} {cc : ByteArray} {nL : Nat} {ret : Option FieldType} {h pc : Nat} {lv : List (Nat × Value)} {st : List Value} {x y : Int32} (X : CxOk z ad own cc nL ret h) (hd : decode cc pc = .ok (.iand, 1)) (k : GW z ad o S (pc + 1) lv (.int (x &&& y) :: st)) : GW z ad o S pc lv (.int y :: .int x :: st) := by
  obtain ⟨⟨p, l, e, R, s, m, args, below, meth, c⟩, D, cy, Q, kc, ks, Fr, A⟩ := z
  obtain ⟨hx, hb, hml, hown, hts, hr, hlk, hR, hK, hE, hI, hFr, hQ, hA⟩ := X
  intro H locs ls hP hS hf hl
  exact lv_iand hx hb hd (k H locs ls hP hS hf hl)
theorem g_ior {z : Mx} {ad : Nat → Nat} {o : Option Value × St} {S : St} {own : String} {cc : ByteArray} {nL : Nat} {ret : Option FieldType} {h pc : Nat} {lv : List (Nat × Value)} {st : List Value} {x y : Int32} (X : CxOk z ad own cc nL ret h) (hd : decode cc pc = .ok (.ior, 1)) (k : GW z ad o S (pc + 1) lv (.int (x ||| y) :: st)) : GW z ad o S pc lv (.int y :: .int x :: st) := by
  obtain ⟨⟨p, l, e, R, s, m, args, below, meth, c⟩, D, cy, Q, kc, ks, Fr, A⟩ := z
  obtain ⟨hx, hb, hml, hown, hts, hr, hlk, hR, hK, hE, hI, hFr, hQ, hA⟩ := X
  intro H locs ls hP hS hf hl
  exact lv_ior hx hb hd (k H locs ls hP hS hf hl)
theorem g_ixor {z : Mx} {ad : Nat → Nat} {o : Option Value × St} {S : St} {own : String} {cc : ByteArray} {nL : Nat} {ret : Option FieldType} {h pc : Nat} {lv : List (Nat × Value)} {st : List Value} {x y : Int32} (X : CxOk z ad own cc nL ret h) (hd : decode cc pc = .ok (.ixor, 1)) (k : GW z ad o S (pc + 1) lv (.int (x ^^^ y) :: st)) : GW z ad o S pc lv (.int y :: .int x :: st) := by
  obtain ⟨⟨p, l, e, R, s, m, args, below, meth, c⟩, D, cy, Q, kc, ks, Fr, A⟩ := z
  obtain ⟨hx, hb, hml, hown, hts, hr, hlk, hR, hK, hE, hI, hFr, hQ, hA⟩ := X
  intro H locs ls hP hS hf hl
  exact lv_ixor hx hb hd (k H locs ls hP hS hf hl)
theorem g_idiv {z : Mx} {ad : Nat → Nat} {o : Option Value × St} {S : St} {own : String} {cc : ByteArray} {nL : Nat} {ret : Option FieldType} {h pc : Nat} {lv : List (Nat × Value)} {st : List Value} {x y : Int32} (X : CxOk z ad own cc nL ret h) (hd : decode cc pc = .ok (.idiv, 1)) (hne : ¬ y = 0) (k : GW z ad o S (pc + 1) lv (.int (x / y) :: st)) : GW z ad o S pc lv (.int y :: .int x :: st) := by
  obtain ⟨⟨p, l, e, R, s, m, args, below, meth, c⟩, D, cy, Q, kc, ks, Fr, A⟩ := z
  obtain ⟨hx, hb, hml, hown, hts, hr, hlk, hR, hK, hE, hI, hFr, hQ, hA⟩ := X
  intro H locs ls hP hS hf hl
  exact lv_idiv hx hb hd hne (k H locs ls hP hS hf hl)
theorem g_irem {z : Mx} {ad : Nat → Nat} {o : Option Value × St} {S : St} {own : String} {cc : ByteArray} {nL : Nat} {ret : Option FieldType} {h pc : Nat} {lv : List (Nat × Value)} {st : List Value} {x y : Int32} (X : CxOk z ad own cc nL ret h) (hd : decode cc pc = .ok (.irem, 1)) (hne : ¬ y = 0) (k : GW z ad o S (pc + 1) lv (.int (x - x / y * y) :: st)) : GW z ad o S pc lv (.int y :: .int x :: st) := by
  obtain ⟨⟨p, l, e, R, s, m, args, below, meth, c⟩, D, cy, Q, kc, ks, Fr, A⟩ := z
  obtain ⟨hx, hb, hml, hown, hts, hr, hlk, hR, hK, hE, hI, hFr, hQ, hA⟩ := X
  intro H locs ls hP hS hf hl
  exact lv_irem hx hb hd hne (k H locs ls hP hS hf hl)
theorem g_ineg {z : Mx} {ad : Nat → Nat} {o : Option Value × St} {S : St} {own : String} {cc : ByteArray} {nL : Nat} {ret : Option FieldType} {h pc : Nat} {lv : List (Nat × Value)} {st : List Value} {x : Int32} (X : CxOk z ad own cc nL ret h) (hd : decode cc pc = .ok (.ineg, 1)) (k : GW z ad o S (pc + 1) lv (.int (-x) :: st)) : GW z ad o S pc lv (.int x :: st) := by
  obtain ⟨⟨p, l, e, R, s, m, args, below, meth, c⟩, D, cy, Q, kc, ks, Fr, A⟩ := z
  obtain ⟨hx, hb, hml, hown, hts, hr, hlk, hR, hK, hE, hI, hFr, hQ, hA⟩ := X
  intro H locs ls hP hS hf hl
  exact lv_ineg hx hb hd (k H locs ls hP hS hf hl)
theorem g_iushr {z : Mx} {ad : Nat → Nat} {o : Option Value × St} {S : St} {own : String} {cc : ByteArray} {nL : Nat} {ret : Option FieldType} {h pc : Nat} {lv : List (Nat × Value)} {st : List Value} {x y : Int32} (X : CxOk z ad own cc nL ret h) (hd : decode cc pc = .ok (.iushr, 1)) (k : GW z ad o S (pc + 1) lv (.int (x.toUInt32 >>> (y.toUInt32 &&& Int32.toUInt32 31)).toInt32 :: st)) : GW z ad o S pc lv (.int y :: .int x :: st) := by
  obtain ⟨⟨p, l, e, R, s, m, args, below, meth, c⟩, D, cy, Q, kc, ks, Fr, A⟩ := z
  obtain ⟨hx, hb, hml, hown, hts, hr, hlk, hR, hK, hE, hI, hFr, hQ, hA⟩ := X
  intro H locs ls hP hS hf hl
  exact lv_iushr hx hb hd rfl (k H locs ls hP hS hf hl)
theorem g_lshl {z : Mx} {ad : Nat → Nat} {o : Option Value × St} {S : St} {own : String} {cc : ByteArray} {nL : Nat} {ret : Option FieldType} {h pc : Nat} {lv : List (Nat × Value)} {st : List Value} {x : Int64} {y : Int32} (X : CxOk z ad own cc nL ret h) (hd : decode cc pc = .ok (.lshl, 1)) (k : GW z ad o S (pc + 1) lv (.long (x <<< (y.toInt64 &&& 63)) :: st)) : GW z ad o S pc lv (.int y :: .long x :: st) := by
  obtain ⟨⟨p, l, e, R, s, m, args, below, meth, c⟩, D, cy, Q, kc, ks, Fr, A⟩ := z
  obtain ⟨hx, hb, hml, hown, hts, hr, hlk, hR, hK, hE, hI, hFr, hQ, hA⟩ := X
  intro H locs ls hP hS hf hl
  exact lv_lshl hx hb hd rfl (k H locs ls hP hS hf hl)
theorem g_lshr {z : Mx} {ad : Nat → Nat} {o : Option Value × St} {S : St} {own : String} {cc : ByteArray} {nL : Nat} {ret : Option FieldType} {h pc : Nat} {lv : List (Nat × Value)} {st : List Value} {x : Int64} {y : Int32} (X : CxOk z ad own cc nL ret h) (hd : decode cc pc = .ok (.lshr, 1)) (k : GW z ad o S (pc + 1) lv (.long (x >>> (y.toInt64 &&& 63)) :: st)) : GW z ad o S pc lv (.int y :: .long x :: st) := by
  obtain ⟨⟨p, l, e, R, s, m, args, below, meth, c⟩, D, cy, Q, kc, ks, Fr, A⟩ := z
  obtain ⟨hx, hb, hml, hown, hts, hr, hlk, hR, hK, hE, hI, hFr, hQ, hA⟩ := X
  intro H locs ls hP hS hf hl
  exact lv_lshr hx hb hd rfl (k H locs ls hP hS hf hl)
theorem g_lor {z : Mx} {ad : Nat → Nat} {o : Option Value × St} {S : St} {own : String} {cc : ByteArray} {nL : Nat} {ret : Option FieldType} {h pc : Nat} {lv : List (Nat × Value)} {st : List Value} {x y : Int64} (X : CxOk z ad own cc nL ret h) (hd : decode cc pc = .ok (.lor, 1)) (k : GW z ad o S (pc + 1) lv (.long (x ||| y) :: st)) : GW z ad o S pc lv (.long y :: .long x :: st) := by
  obtain ⟨⟨p, l, e, R, s, m, args, below, meth, c⟩, D, cy, Q, kc, ks, Fr, A⟩ := z
  obtain ⟨hx, hb, hml, hown, hts, hr, hlk, hR, hK, hE, hI, hFr, hQ, hA⟩ := X
  intro H locs ls hP hS hf hl
  exact lv_lor hx hb hd (k H locs ls hP hS hf hl)
theorem g_land {z : Mx} {ad : Nat → Nat} {o : Option Value × St} {S : St} {own : String} {cc : ByteArray} {nL : Nat} {ret : Option FieldType} {h pc : Nat} {lv : List (Nat × Value)} {st : List Value} {x y : Int64} (X : CxOk z ad own cc nL ret h) (hd : decode cc pc = .ok (.land, 1)) (k : GW z ad o S (pc + 1) lv (.long (x &&& y) :: st)) : GW z ad o S pc lv (.long y :: .long x :: st) := by
  obtain ⟨⟨p, l, e, R, s, m, args, below, meth, c⟩, D, cy, Q, kc, ks, Fr, A⟩ := z
  obtain ⟨hx, hb, hml, hown, hts, hr, hlk, hR, hK, hE, hI, hFr, hQ, hA⟩ := X
  intro H locs ls hP hS hf hl
  exact lv_land hx hb hd (k H locs ls hP hS hf hl)
theorem g_lcmp {z : Mx} {ad : Nat → Nat} {o : Option Value × St} {S : St} {own : String} {cc : ByteArray} {nL : Nat} {ret : Option FieldType} {h pc : Nat} {lv : List (Nat × Value)} {st : List Value} {x y : Int64} (X : CxOk z ad own cc nL ret h) (hd : decode cc pc = .ok (.lcmp, 1)) (k : GW z ad o S (pc + 1) lv (.int (lg_cmp x y) :: st)) : GW z ad o S pc lv (.long y :: .long x :: st) := by
  obtain ⟨⟨p, l, e, R, s, m, args, below, meth, c⟩, D, cy, Q, kc, ks, Fr, A⟩ := z
  obtain ⟨hx, hb, hml, hown, hts, hr, hlk, hR, hK, hE, hI, hFr, hQ, hA⟩ := X
  intro H locs ls hP hS hf hl
  exact W.lcmp hx hb hd (k H locs ls hP hS hf hl)
theorem g_i2l {z : Mx} {ad : Nat → Nat} {o : Option Value × St} {S : St} {own : String} {cc : ByteArray} {nL : Nat} {ret : Option FieldType} {h pc : Nat} {lv : List (Nat × Value)} {st : List Value} {x : Int32} (X : CxOk z ad own cc nL ret h) (hd : decode cc pc = .ok (.i2l, 1)) (k : GW z ad o S (pc + 1) lv (.long x.toInt64 :: st)) : GW z ad o S pc lv (.int x :: st) := by
  obtain ⟨⟨p, l, e, R, s, m, args, below, meth, c⟩, D, cy, Q, kc, ks, Fr, A⟩ := z
  obtain ⟨hx, hb, hml, hown, hts, hr, hlk, hR, hK, hE, hI, hFr, hQ, hA⟩ := X
  intro H locs ls hP hS hf hl
  exact lv_i2l hx hb hd rfl (k H locs ls hP hS hf hl)
theorem g_l2i {z : Mx} {ad : Nat → Nat} {o : Option Value × St} {S : St} {own : String} {cc : ByteArray} {nL : Nat} {ret : Option FieldType} {h pc : Nat} {lv : List (Nat × Value)} {st : List Value} {x : Int64} (X : CxOk z ad own cc nL ret h) (hd : decode cc pc = .ok (.l2i, 1)) (k : GW z ad o S (pc + 1) lv (.int x.toInt32 :: st)) : GW z ad o S pc lv (.long x :: st) := by
  obtain ⟨⟨p, l, e, R, s, m, args, below, meth, c⟩, D, cy, Q, kc, ks, Fr, A⟩ := z
  obtain ⟨hx, hb, hml, hown, hts, hr, hlk, hR, hK, hE, hI, hFr, hQ, hA⟩ := X
  intro H locs ls hP hS hf hl
  exact lv_l2i hx hb hd rfl (k H locs ls hP hS hf hl)
theorem g_i2b {z : Mx} {ad : Nat → Nat} {o : Option Value × St} {S : St} {own : String} {cc : ByteArray} {nL : Nat} {ret : Option FieldType} {h pc : Nat} {lv : List (Nat × Value)} {st : List Value} {x : Int32} (X : CxOk z ad own cc nL ret h) (hd : decode cc pc = .ok (.i2b, 1)) (k : GW z ad o S (pc + 1) lv (.int x.toInt8.toInt32 :: st)) : GW z ad o S pc lv (.int x :: st) := by
  obtain ⟨⟨p, l, e, R, s, m, args, below, meth, c⟩, D, cy, Q, kc, ks, Fr, A⟩ := z
  obtain ⟨hx, hb, hml, hown, hts, hr, hlk, hR, hK, hE, hI, hFr, hQ, hA⟩ := X
  intro H locs ls hP hS hf hl
  exact lv_i2b hx hb hd rfl (k H locs ls hP hS hf hl)
theorem g_dup {z : Mx} {ad : Nat → Nat} {o : Option Value × St} {S : St} {own : String} {cc : ByteArray} {nL : Nat} {ret : Option FieldType} {h pc : Nat} {lv : List (Nat × Value)} {st : List Value} {a : Value} (X : CxOk z ad own cc nL ret h) (hd : decode cc pc = .ok (.dup, 1)) (ha : a.category = 1) (k : GW z ad o S (pc + 1) lv (a :: a :: st)) : GW z ad o S pc lv (a :: st) := by
  obtain ⟨⟨p, l, e, R, s, m, args, below, meth, c⟩, D, cy, Q, kc, ks, Fr, A⟩ := z
  obtain ⟨hx, hb, hml, hown, hts, hr, hlk, hR, hK, hE, hI, hFr, hQ, hA⟩ := X
  intro H locs ls hP hS hf hl
  exact lv_dup hx hb hd ha (k H locs ls hP hS hf hl)
theorem g_dup2 {z : Mx} {ad : Nat → Nat} {o : Option Value × St} {S : St} {own : String} {cc : ByteArray} {nL : Nat} {ret : Option FieldType} {h pc : Nat} {lv : List (Nat × Value)} {st : List Value} {a b : Value} (X : CxOk z ad own cc nL ret h) (hd : decode cc pc = .ok (.dup2, 1)) (ha : a.category = 1) (hb2 : b.category = 1) (k : GW z ad o S (pc + 1) lv (a :: b :: a :: b :: st)) : GW z ad o S pc lv (a :: b :: st) := by
  obtain ⟨⟨p, l, e, R, s, m, args, below, meth, c⟩, D, cy, Q, kc, ks, Fr, A⟩ := z
  obtain ⟨hx, hb, hml, hown, hts, hr, hlk, hR, hK, hE, hI, hFr, hQ, hA⟩ := X
  intro H locs ls hP hS hf hl
  exact lv_dup2_11 hx hb hd ha hb2 (k H locs ls hP hS hf hl)
theorem g_pop {z : Mx} {ad : Nat → Nat} {o : Option Value × St} {S : St} {own : String} {cc : ByteArray} {nL : Nat} {ret : Option FieldType} {h pc : Nat} {lv : List (Nat × Value)} {st : List Value} {a : Value} (X : CxOk z ad own cc nL ret h) (hd : decode cc pc = .ok (.pop, 1)) (ha : a.category = 1) (k : GW z ad o S (pc + 1) lv (st)) : GW z ad o S pc lv (a :: st) := by
  obtain ⟨⟨p, l, e, R, s, m, args, below, meth, c⟩, D, cy, Q, kc, ks, Fr, A⟩ := z
  obtain ⟨hx, hb, hml, hown, hts, hr, hlk, hR, hK, hE, hI, hFr, hQ, hA⟩ := X
  intro H locs ls hP hS hf hl
  exact lv_pop hx hb hd ha (k H locs ls hP hS hf hl)
theorem g_if_eq {z : Mx} {ad : Nat → Nat} {o : Option Value × St} {S : St} {own : String} {cc : ByteArray} {nL : Nat} {ret : Option FieldType} {h pc : Nat} {lv : List (Nat × Value)} {st : List Value} {x : Int32} {off : Int} {tgt : Nat} (X : CxOk z ad own cc nL ret h) (hd : decode cc pc = .ok (.ifCond .eq off, 3)) (ht : (pc : Int) + off = (tgt : Int)) (kt : x = 0 → GW z ad o S tgt lv st) (kf : ¬ (x = 0) → GW z ad o S (pc + 3) lv st) : GW z ad o S pc lv (.int x :: st) := by
  obtain ⟨⟨p, l, e, R, s, m, args, below, meth, c⟩, D, cy, Q, kc, ks, Fr, A⟩ := z
  obtain ⟨hx, hb, hml, hown, hts, hr, hlk, hR, hK, hE, hI, hFr, hQ, hA⟩ := X
  intro H locs ls hP hS hf hl
  exact lv_if_eq hx hb hd ht (fun q => kt q H locs ls hP hS hf hl) (fun q => kf q H locs ls hP hS hf hl)
theorem g_if_ne {z : Mx} {ad : Nat → Nat} {o : Option Value × St} {S : St} {own : String} {cc : ByteArray} {nL : Nat} {ret : Option FieldType} {h pc : Nat} {lv : List (Nat × Value)} {st : List Value} {x : Int32} {off : Int} {tgt : Nat} (X : CxOk z ad own cc nL ret h) (hd : decode cc pc = .ok (.ifCond .ne off, 3)) (ht : (pc : Int) + off = (tgt : Int)) (kt : ¬ x = 0 → GW z ad o S tgt lv st) (kf : x = 0 → GW z ad o S (pc + 3) lv st) : GW z ad o S pc lv (.int x :: st) := by
  obtain ⟨⟨p, l, e, R, s, m, args, below, meth, c⟩, D, cy, Q, kc, ks, Fr, A⟩ := z
  obtain ⟨hx, hb, hml, hown, hts, hr, hlk, hR, hK, hE, hI, hFr, hQ, hA⟩ := X
  intro H locs ls hP hS hf hl
  exact lv_if_ne hx hb hd ht (fun q => kt q H locs ls hP hS hf hl) (fun q => kf q H locs ls hP hS hf hl)
theorem g_if_lt {z : Mx} {ad : Nat → Nat} {o : Option Value × St} {S : St} {own : String} {cc : ByteArray} {nL : Nat} {ret : Option FieldType} {h pc : Nat} {lv : List (Nat × Value)} {st : List Value} {x : Int32} {off : Int} {tgt : Nat} (X : CxOk z ad own cc nL ret h) (hd : decode cc pc = .ok (.ifCond .lt off, 3)) (ht : (pc : Int) + off = (tgt : Int)) (kt : x < 0 → GW z ad o S tgt lv st) (kf : ¬ (x < 0) → GW z ad o S (pc + 3) lv st) : GW z ad o S pc lv (.int x :: st) := by
  obtain ⟨⟨p, l, e, R, s, m, args, below, meth, c⟩, D, cy, Q, kc, ks, Fr, A⟩ := z
  obtain ⟨hx, hb, hml, hown, hts, hr, hlk, hR, hK, hE, hI, hFr, hQ, hA⟩ := X
  intro H locs ls hP hS hf hl
  exact lv_if_lt hx hb hd ht (fun q => kt q H locs ls hP hS hf hl) (fun q => kf q H locs ls hP hS hf hl)
theorem g_if_ge {z : Mx} {ad : Nat → Nat} {o : Option Value × St} {S : St} {own : String} {cc : ByteArray} {nL : Nat} {ret : Option FieldType} {h pc : Nat} {lv : List (Nat × Value)} {st : List Value} {x : Int32} {off : Int} {tgt : Nat} (X : CxOk z ad own cc nL ret h) (hd : decode cc pc = .ok (.ifCond .ge off, 3)) (ht : (pc : Int) + off = (tgt : Int)) (kt : 0 ≤ x → GW z ad o S tgt lv st) (kf : ¬ (0 ≤ x) → GW z ad o S (pc + 3) lv st) : GW z ad o S pc lv (.int x :: st) := by
  obtain ⟨⟨p, l, e, R, s, m, args, below, meth, c⟩, D, cy, Q, kc, ks, Fr, A⟩ := z
  obtain ⟨hx, hb, hml, hown, hts, hr, hlk, hR, hK, hE, hI, hFr, hQ, hA⟩ := X
  intro H locs ls hP hS hf hl
  exact lv_if_ge hx hb hd ht (fun q => kt q H locs ls hP hS hf hl) (fun q => kf q H locs ls hP hS hf hl)
theorem g_if_gt {z : Mx} {ad : Nat → Nat} {o : Option Value × St} {S : St} {own : String} {cc : ByteArray} {nL : Nat} {ret : Option FieldType} {h pc : Nat} {lv : List (Nat × Value)} {st : List Value} {x : Int32} {off : Int} {tgt : Nat} (X : CxOk z ad own cc nL ret h) (hd : decode cc pc = .ok (.ifCond .gt off, 3)) (ht : (pc : Int) + off = (tgt : Int)) (kt : 0 < x → GW z ad o S tgt lv st) (kf : ¬ (0 < x) → GW z ad o S (pc + 3) lv st) : GW z ad o S pc lv (.int x :: st) := by
  obtain ⟨⟨p, l, e, R, s, m, args, below, meth, c⟩, D, cy, Q, kc, ks, Fr, A⟩ := z
  obtain ⟨hx, hb, hml, hown, hts, hr, hlk, hR, hK, hE, hI, hFr, hQ, hA⟩ := X
  intro H locs ls hP hS hf hl
  exact lv_if_gt hx hb hd ht (fun q => kt q H locs ls hP hS hf hl) (fun q => kf q H locs ls hP hS hf hl)
theorem g_if_le {z : Mx} {ad : Nat → Nat} {o : Option Value × St} {S : St} {own : String} {cc : ByteArray} {nL : Nat} {ret : Option FieldType} {h pc : Nat} {lv : List (Nat × Value)} {st : List Value} {x : Int32} {off : Int} {tgt : Nat} (X : CxOk z ad own cc nL ret h) (hd : decode cc pc = .ok (.ifCond .le off, 3)) (ht : (pc : Int) + off = (tgt : Int)) (kt : x ≤ 0 → GW z ad o S tgt lv st) (kf : ¬ (x ≤ 0) → GW z ad o S (pc + 3) lv st) : GW z ad o S pc lv (.int x :: st) := by
  obtain ⟨⟨p, l, e, R, s, m, args, below, meth, c⟩, D, cy, Q, kc, ks, Fr, A⟩ := z
  obtain ⟨hx, hb, hml, hown, hts, hr, hlk, hR, hK, hE, hI, hFr, hQ, hA⟩ := X
  intro H locs ls hP hS hf hl
  exact lv_if_le hx hb hd ht (fun q => kt q H locs ls hP hS hf hl) (fun q => kf q H locs ls hP hS hf hl)
theorem g_icmp_eq {z : Mx} {ad : Nat → Nat} {o : Option Value × St} {S : St} {own : String} {cc : ByteArray} {nL : Nat} {ret : Option FieldType} {h pc : Nat} {lv : List (Nat × Value)} {st : List Value} {x y : Int32} {off : Int} {tgt : Nat} (X : CxOk z ad own cc nL ret h) (hd : decode cc pc = .ok (.if_icmp .eq off, 3)) (ht : (pc : Int) + off = (tgt : Int)) (kt : x = y → GW z ad o S tgt lv st) (kf : ¬ (x = y) → GW z ad o S (pc + 3) lv st) : GW z ad o S pc lv (.int y :: .int x :: st) := by
  obtain ⟨⟨p, l, e, R, s, m, args, below, meth, c⟩, D, cy, Q, kc, ks, Fr, A⟩ := z
  obtain ⟨hx, hb, hml, hown, hts, hr, hlk, hR, hK, hE, hI, hFr, hQ, hA⟩ := X
  intro H locs ls hP hS hf hl
  exact lv_icmp_eq hx hb hd ht (fun q => kt q H locs ls hP hS hf hl) (fun q => kf q H locs ls hP hS hf hl)
theorem g_icmp_ne {z : Mx} {ad : Nat → Nat} {o : Option Value × St} {S : St} {own : String} {cc : ByteArray} {nL : Nat} {ret : Option FieldType} {h pc : Nat} {lv : List (Nat × Value)} {st : List Value} {x y : Int32} {off : Int} {tgt : Nat} (X : CxOk z ad own cc nL ret h) (hd : decode cc pc = .ok (.if_icmp .ne off, 3)) (ht : (pc : Int) + off = (tgt : Int)) (kt : ¬ x = y → GW z ad o S tgt lv st) (kf : x = y → GW z ad o S (pc + 3) lv st) : GW z ad o S pc lv (.int y :: .int x :: st) := by
  obtain ⟨⟨p, l, e, R, s, m, args, below, meth, c⟩, D, cy, Q, kc, ks, Fr, A⟩ := z
  obtain ⟨hx, hb, hml, hown, hts, hr, hlk, hR, hK, hE, hI, hFr, hQ, hA⟩ := X
  intro H locs ls hP hS hf hl
  exact lv_icmp_ne hx hb hd ht (fun q => kt q H locs ls hP hS hf hl) (fun q => kf q H locs ls hP hS hf hl)
theorem g_icmp_lt {z : Mx} {ad : Nat → Nat} {o : Option Value × St} {S : St} {own : String} {cc : ByteArray} {nL : Nat} {ret : Option FieldType} {h pc : Nat} {lv : List (Nat × Value)} {st : List Value} {x y : Int32} {off : Int} {tgt : Nat} (X : CxOk z ad own cc nL ret h) (hd : decode cc pc = .ok (.if_icmp .lt off, 3)) (ht : (pc : Int) + off = (tgt : Int)) (kt : x < y → GW z ad o S tgt lv st) (kf : ¬ (x < y) → GW z ad o S (pc + 3) lv st) : GW z ad o S pc lv (.int y :: .int x :: st) := by
  obtain ⟨⟨p, l, e, R, s, m, args, below, meth, c⟩, D, cy, Q, kc, ks, Fr, A⟩ := z
  obtain ⟨hx, hb, hml, hown, hts, hr, hlk, hR, hK, hE, hI, hFr, hQ, hA⟩ := X
  intro H locs ls hP hS hf hl
  exact lv_icmp_lt hx hb hd ht (fun q => kt q H locs ls hP hS hf hl) (fun q => kf q H locs ls hP hS hf hl)
theorem g_icmp_ge {z : Mx} {ad : Nat → Nat} {o : Option Value × St} {S : St} {own : String} {cc : ByteArray} {nL : Nat} {ret : Option FieldType} {h pc : Nat} {lv : List (Nat × Value)} {st : List Value} {x y : Int32} {off : Int} {tgt : Nat} (X : CxOk z ad own cc nL ret h) (hd : decode cc pc = .ok (.if_icmp .ge off, 3)) (ht : (pc : Int) + off = (tgt : Int)) (kt : y ≤ x → GW z ad o S tgt lv st) (kf : ¬ (y ≤ x) → GW z ad o S (pc + 3) lv st) : GW z ad o S pc lv (.int y :: .int x :: st) := by
  obtain ⟨⟨p, l, e, R, s, m, args, below, meth, c⟩, D, cy, Q, kc, ks, Fr, A⟩ := z
  obtain ⟨hx, hb, hml, hown, hts, hr, hlk, hR, hK, hE, hI, hFr, hQ, hA⟩ := X
  intro H locs ls hP hS hf hl
  exact lv_icmp_ge hx hb hd ht (fun q => kt q H locs ls hP hS hf hl) (fun q => kf q H locs ls hP hS hf hl)
theorem g_icmp_gt {z : Mx} {ad : Nat → Nat} {o : Option Value × St} {S : St} {own : String} {cc : ByteArray} {nL : Nat} {ret : Option FieldType} {h pc : Nat} {lv : List (Nat × Value)} {st : List Value} {x y : Int32} {off : Int} {tgt : Nat} (X : CxOk z ad own cc nL ret h) (hd : decode cc pc = .ok (.if_icmp .gt off, 3)) (ht : (pc : Int) + off = (tgt : Int)) (kt : y < x → GW z ad o S tgt lv st) (kf : ¬ (y < x) → GW z ad o S (pc + 3) lv st) : GW z ad o S pc lv (.int y :: .int x :: st) := by
  obtain ⟨⟨p, l, e, R, s, m, args, below, meth, c⟩, D, cy, Q, kc, ks, Fr, A⟩ := z
  obtain ⟨hx, hb, hml, hown, hts, hr, hlk, hR, hK, hE, hI, hFr, hQ, hA⟩ := X
  intro H locs ls hP hS hf hl
  exact lv_icmp_gt hx hb hd ht (fun q => kt q H locs ls hP hS hf hl) (fun q => kf q H locs ls hP hS hf hl)
theorem g_icmp_le {z : Mx} {ad : Nat → Nat} {o : Option Value × St} {S : St} {own : String} {cc : ByteArray} {nL : Nat} {ret : Option FieldType} {h pc : Nat} {lv : List (Nat × Value)} {st : List Value} {x y : Int32} {off : Int} {tgt : Nat} (X : CxOk z ad own cc nL ret h) (hd : decode cc pc = .ok (.if_icmp .le off, 3)) (ht : (pc : Int) + off = (tgt : Int)) (kt : x ≤ y → GW z ad o S tgt lv st) (kf : ¬ (x ≤ y) → GW z ad o S (pc + 3) lv st) : GW z ad o S pc lv (.int y :: .int x :: st) := by
  obtain ⟨⟨p, l, e, R, s, m, args, below, meth, c⟩, D, cy, Q, kc, ks, Fr, A⟩ := z
  obtain ⟨hx, hb, hml, hown, hts, hr, hlk, hR, hK, hE, hI, hFr, hQ, hA⟩ := X
  intro H locs ls hP hS hf hl
  exact lv_icmp_le hx hb hd ht (fun q => kt q H locs ls hP hS hf hl) (fun q => kf q H locs ls hP hS hf hl)
theorem g_goto {z : Mx} {ad : Nat → Nat} {o : Option Value × St} {S : St} {own : String} {cc : ByteArray} {nL : Nat} {ret : Option FieldType} {h pc : Nat} {lv : List (Nat × Value)} {st : List Value} {off : Int} {tgt : Nat} (X : CxOk z ad own cc nL ret h) (hd : decode cc pc = .ok (.goto off, 3)) (ht : (pc : Int) + off = (tgt : Int)) (k : GW z ad o S tgt lv st) : GW z ad o S pc lv st := by
  obtain ⟨⟨p, l, e, R, s, m, args, below, meth, c⟩, D, cy, Q, kc, ks, Fr, A⟩ := z
  obtain ⟨hx, hb, hml, hown, hts, hr, hlk, hR, hK, hE, hI, hFr, hQ, hA⟩ := X
  intro H locs ls hP hS hf hl
  exact lv_goto hx hb hd ht (k H locs ls hP hS hf hl)
theorem g_tabOut {z : Mx} {ad : Nat → Nat} {o : Option Value × St} {S : St} {own : String} {cc : ByteArray} {nL : Nat} {ret : Option FieldType} {h pc : Nat} {lv : List (Nat × Value)} {st : List Value} {dflt lo hi : Int} {offs : Array Int} {len : Nat} {x : Int32} {tgt : Nat} (X : CxOk z ad own cc nL ret h) (hd : decode cc pc = .ok (.tableswitch dflt lo hi offs, len)) (hq : x.toInt < lo ∨ hi < x.toInt) (ht : (pc : Int) + dflt = (tgt : Int)) (k : GW z ad o S tgt lv st) : GW z ad o S pc lv (.int x :: st) := by
  obtain ⟨⟨p, l, e, R, s, m, args, below, meth, c⟩, D, cy, Q, kc, ks, Fr, A⟩ := z
  obtain ⟨hx, hb, hml, hown, hts, hr, hlk, hR, hK, hE, hI, hFr, hQ, hA⟩ := X
  intro H locs ls hP hS hf hl
  exact lv_tableOut hx hb hd hq ht (k H locs ls hP hS hf hl)
theorem g_tabIn {z : Mx} {ad : Nat → Nat} {o : Option Value × St} {S : St} {own : String} {cc : ByteArray} {nL : Nat} {ret : Option FieldType} {h pc : Nat} {lv : List (Nat × Value)} {st : List Value} {dflt lo hi : Int} {offs : Array Int} {len : Nat} {x : Int32} {off : Int} {tgt : Nat} (X : CxOk z ad own cc nL ret h) (hd : decode cc pc = .ok (.tableswitch dflt lo hi offs, len)) (h1 : ¬ x.toInt < lo) (h2 : ¬ hi < x.toInt) (ho : offs[(x.toInt - lo).toNat]? = some off) (ht : (pc : Int) + off = (tgt : Int)) (k : GW z ad o S tgt lv st) : GW z ad o S pc lv (.int x :: st) := by
  obtain ⟨⟨p, l, e, R, s, m, args, below, meth, c⟩, D, cy, Q, kc, ks, Fr, A⟩ := z
  obtain ⟨hx, hb, hml, hown, hts, hr, hlk, hR, hK, hE, hI, hFr, hQ, hA⟩ := X
  intro H locs ls hP hS hf hl
  exact lv_tableIn hx hb hd h1 h2 ho ht (k H locs ls hP hS hf hl)
theorem g_perm {z : Mx} {ad : Nat → Nat} {o : Option Value × St} {S : St} {pc : Nat} {lv : List (Nat × Value)} {st : List Value} {lv' : List (Nat × Value)} (pks : List Nat) (hl2 : lv_pick lv pks = lv') (k : GW z ad o S pc lv' st) : GW z ad o S pc lv st := by
  obtain ⟨⟨p, l, e, R, s, m, args, below, meth, c⟩, D, cy, Q, kc, ks, Fr, A⟩ := z
  intro H locs ls hP hS hf hl
  exact k H locs ls hP hS hf (lv_sub hl pks hl2)
theorem g_mmax {z : Mx} {ad : Nat → Nat} {o : Option Value × St} {S : St} {own : String} {cc : ByteArray} {nL : Nat} {ret : Option FieldType} {h pc : Nat} {lv : List (Nat × Value)} {st : List Value} {x y : Int32} {i : Nat} (X : CxOk z ad own cc nL ret h) (hd : decode cc pc = .ok (.invokestatic i, 3)) (h1 : Cond.methodLink own i Lib.Math.max.name ∈ wsL_law0) (h2 : Cond.static Lib.Math.max.name ∈ wsL_law0) (h3 : Cond.initialized "java/lang/Math" ∈ wsL_law0) (h4 : Cond.code Lib.Math.max.name Lib.Math.max.code 2 (some .int) ∈ wsL_law0) (hh : 0 < h) (hw : (st.map fun v => v.category).sum ≤ 8) (k : GW z ad o S (pc + 3) lv (.int (if x < y then y else x) :: st)) : GW z ad o S pc lv (.int y :: .int x :: st) := by
  obtain ⟨⟨p, l, e, R, s, m, args, below, meth, c⟩, D, cy, Q, kc, ks, Fr, A⟩ := z
  obtain ⟨hx, hb, hml, hown, hts, hr, hlk, hR, hK, hE, hI, hFr, hQ, hA⟩ := X
  intro H locs ls hP hS hf hl
  exact va_mmax hx hb hl.1.symm hown (hts _ h1) (hts _ h2) (hts _ h3) (hts _ h4) (Nat.le_trans hh hR.1) (by omega) hR.2.2.1 hR.2.2.2 hd (k H locs ls hP hS hf hl)
theorem g_mmin {z : Mx} {ad : Nat → Nat} {o : Option Value × St} {S : St} {own : String} {cc : ByteArray} {nL : Nat} {ret : Option FieldType} {h pc : Nat} {lv : List (Nat × Value)} {st : List Value} {x y : Int32} {i : Nat} (X : CxOk z ad own cc nL ret h) (hd : decode cc pc = .ok (.invokestatic i, 3)) (h1 : Cond.methodLink own i Lib.Math.min.name ∈ wsL_law0) (h2 : Cond.static Lib.Math.min.name ∈ wsL_law0) (h3 : Cond.initialized "java/lang/Math" ∈ wsL_law0) (h4 : Cond.code Lib.Math.min.name Lib.Math.min.code 2 (some .int) ∈ wsL_law0) (hh : 0 < h) (hw : (st.map fun v => v.category).sum ≤ 8) (k : GW z ad o S (pc + 3) lv (.int (if y < x then y else x) :: st)) : GW z ad o S pc lv (.int y :: .int x :: st) := by
  obtain ⟨⟨p, l, e, R, s, m, args, below, meth, c⟩, D, cy, Q, kc, ks, Fr, A⟩ := z
  obtain ⟨hx, hb, hml, hown, hts, hr, hlk, hR, hK, hE, hI, hFr, hQ, hA⟩ := X
  intro H locs ls hP hS hf hl
  exact va_mmin hx hb hl.1.symm hown (hts _ h1) (hts _ h2) (hts _ h3) (hts _ h4) (Nat.le_trans hh hR.1) (by omega) hR.2.2.1 hR.2.2.2 hd (k H locs ls hP hS hf hl)
theorem g_mabs {z : Mx} {ad : Nat → Nat} {o : Option Value × St} {S : St} {own : String} {cc : ByteArray} {nL : Nat} {ret : Option FieldType} {h pc : Nat} {lv : List (Nat × Value)} {st : List Value} {x : Int32} {i : Nat} (X : CxOk z ad own cc nL ret h) (hd : decode cc pc = .ok (.invokestatic i, 3)) (h1 : Cond.methodLink own i Lib.Math.abs.name ∈ wsL_law0) (h2 : Cond.static Lib.Math.abs.name ∈ wsL_law0) (h3 : Cond.initialized "java/lang/Math" ∈ wsL_law0) (h4 : Cond.code Lib.Math.abs.name Lib.Math.abs.code 1 (some .int) ∈ wsL_law0) (hh : 0 < h) (hw : (st.map fun v => v.category).sum ≤ 8) (k : GW z ad o S (pc + 3) lv (.int (if 0 ≤ x then x else 0 - x) :: st)) : GW z ad o S pc lv (.int x :: st) := by
  obtain ⟨⟨p, l, e, R, s, m, args, below, meth, c⟩, D, cy, Q, kc, ks, Fr, A⟩ := z
  obtain ⟨hx, hb, hml, hown, hts, hr, hlk, hR, hK, hE, hI, hFr, hQ, hA⟩ := X
  intro H locs ls hP hS hf hl
  exact va_mabs hx hb hl.1.symm hown (hts _ h1) (hts _ h2) (hts _ h3) (hts _ h4) (Nat.le_trans hh hR.1) (by omega) hR.2.2.1 hR.2.2.2 hd (k H locs ls hP hS hf hl)
-- fields
def CD (c : Nat) (C : String) (T : u_T) (N : Nat) (ty0 : Nat → FieldType) : Prop := vwCl[c]? = some (C, T, N) ∧ N = NF c ∧ c < 12 ∧ (∀ w ∈ u_ws C T N, w ∈ wsL_law0) ∧ (∀ k, k < N → parseFieldDescriptor (T k).2.2.1 = some (ty0 k)) ∧ ∀ a, a < N → ∀ b, b < N → a ≠ b → (T a).2.1 ≠ (T b).2.1
def FL (own : String) (i c k : Nat) : Prop := ∃ (C : String) (T : u_T) (N : Nat) (ty0 : Nat → FieldType), CD c C T N ty0 ∧ k < N ∧ (Cond.fieldLink own i (T k).1 (T k).2.1 (T k).2.2.1 ∈ wsL_law0 ∨ ∃ host, Cond.fieldLinkNest own i (T k).1 (T k).2.1 (T k).2.2.1 host ∈ lw_tbl)
theorem ex_nest {ad : Nat → Nat} {A : Nat → Prop} {U : State} {a b n d hst : String} {i : Nat} (h : Ex ad A U) (hw : Cond.fieldLinkNest a i b n d hst ∈ lw_tbl) (args : Array Value) : (Cond.fieldLinkNest a i b n d hst).before args U = true := by
  obtain ⟨s0, b0, -, h2, h3, -⟩ := h
  exact va_Nw.use rfl (va_Nw.warmF h3 (va_Nw.of rfl (h2 _ hw)))
def FP (own : String) (i c k : Nat) (ty : FieldType) : Prop := ∃ (C : String) (T : u_T) (N : Nat) (ty0 : Nat → FieldType), CD c C T N ty0 ∧ k < N ∧ Cond.fieldLink own i (T k).1 (T k).2.1 (T k).2.2.1 ∈ wsL_law0 ∧ (T k).2.2.2 = false ∧ parseFieldDescriptor (T k).2.2.1 = some ty
section GF
variable {z : Mx} {ad : Nat → Nat} {o : Option Value × St} {S : St} {own : String} {cc : ByteArray} {nL : Nat} {ret : Option FieldType} {h pc : Nat} {lv : List (Nat × Value)} {st : List Value}
theorem g_getV {i c k a : Nat} (X : CxOk z ad own cc nL ret h) (hd : decode cc pc = .ok (.getfield i, 3)) (F : FL own i c k) (ha : KT a = c) (kk : GW z ad o S (pc + 3) lv (fv ad S c a k :: st)) : GW z ad o S pc lv (.ref (ad a) :: st) := by
  obtain ⟨⟨p, l, e, R, s, m, args, below, meth, c0⟩, D, cy, Q, kc, ks, Fr, A⟩ := z
  obtain ⟨hx, hb, hml, hown, hts, hr, hlk, hR, hK, hE, hI, hFr, hQ, hA⟩ := X
  intro H locs ls hP hS hf hl
  obtain ⟨C, T, N, ty0, ⟨h1, h2, h3, h4, h5, h6⟩, hk, hw | ⟨hst, hw⟩⟩ := F
  · exact va_get hx hb hts h4 hown hK hP a (pw_obj ha h3) h1 k hk (hts _ hw) (fun _ q => q) (fvs_get (by rw [← h2]; exact hk)) hd (kk H locs ls hP hS hf hl)
  · exact va_getN hx hb hts h4 hown hK hP a (pw_obj ha h3) h1 k hk (ex_nest hE hw _) (fun _ q => q) (fvs_get (by rw [← h2]; exact hk)) hd (kk H locs ls hP hS hf hl)
theorem g_getI {i c k a : Nat} (X : CxOk z ad own cc nL ret h) (hd : decode cc pc = .ok (.getfield i, 3)) (F : FL own i c k) (hft : FT c k = 0) (ha : KT a = c) (kk : GW z ad o S (pc + 3) lv (.int (gI S c k a) :: st)) : GW z ad o S pc lv (.ref (ad a) :: st) :=
  g_getV X hd F ha (by rw [show fv ad S c a k = .int (gI S c k a) by simp [fv, hft]]; exact kk)
theorem g_getJ {i c k a : Nat} (X : CxOk z ad own cc nL ret h) (hd : decode cc pc = .ok (.getfield i, 3)) (F : FL own i c k) (hft : FT c k = 1) (ha : KT a = c) (kk : GW z ad o S (pc + 3) lv (.long (gJ S c k a) :: st)) : GW z ad o S pc lv (.ref (ad a) :: st) :=
  g_getV X hd F ha (by rw [show fv ad S c a k = .long (gJ S c k a) by simp [fv, hft]]; exact kk)
theorem g_getR {i c k a f : Nat} (X : CxOk z ad own cc nL ret h) (hd : decode cc pc = .ok (.getfield i, 3)) (F : FL own i c k) (hft : FT c k = 2) (ho : OT c k = f) (ha : KT a = c) (kk : GW z ad o S (pc + 3) lv (.ref (ad (a + f)) :: st)) : GW z ad o S pc lv (.ref (ad a) :: st) :=
  g_getV X hd F ha (by rw [show fv ad S c a k = .ref (ad (a + f)) by simp [fv, hft, ho]]; exact kk)
theorem g_putI {i c k a : Nat} {ty : FieldType} {v : Int32} (X : CxOk z ad own cc nL ret h) (hd : decode cc pc = .ok (.putfield i, 3)) (F : FP own i c k ty) (hft : FT c k = 0) (hn : narrow ty (.int v) = .int v) (ht : fits ty (.int v) = true) (ha : KT a = c) (kk : GW z ad o (sI S c k a v) (pc + 3) lv st) (hp : h < 1100 := by first | decide | omega) : GW z ad o S pc lv (.int v :: .ref (ad a) :: st) := by
  obtain ⟨⟨p, l, e, R, s, m, args, below, meth, c0⟩, D, cy, Q, kc, ks, Fr, A⟩ := z
  obtain ⟨hx, hb, hml, hown, hts, hr, hlk, hR, hK, hE, hI, hFr, hQ, hA⟩ := X
  intro H locs ls hP hS hf hl
  obtain ⟨C, T, N, ty0, ⟨h1, h2, h3, h4, h5, h6⟩, hk, hw, hfin, hty⟩ := F
  refine va_put hx hb hts h4 ty0 h5 h6 hown hK hP (pw_DA (pw_D hI) hA) (va_S_id hS) a (pw_obj ha h3) h1 k hk (hts _ hw) (fun _ q => q) hfin hty hn ht (by rw [fvs_len, ← h2]; exact hk) hd (fun H1 locs1 hP1 _ hS1 => ?_)
  rw [fvs_setI hft, pw_set (S' := sI S c k a v) (by simp [cel, ha, h3]) (fun b _ hb => cel_sI hb)] at hP1
  exact kk H1 locs1 ls hP1 (va_S_tr hS hS1) (hFr.2 hp H H1 hf) hl
theorem g_putJ {i c k a : Nat} {v : Int64} (X : CxOk z ad own cc nL ret h) (hd : decode cc pc = .ok (.putfield i, 3)) (F : FP own i c k .long) (hft : FT c k = 1) (ha : KT a = c) (kk : GW z ad o (sJ S c k a v) (pc + 3) lv st) (hp : h < 1100 := by first | decide | omega) : GW z ad o S pc lv (.long v :: .ref (ad a) :: st) := by
  obtain ⟨⟨p, l, e, R, s, m, args, below, meth, c0⟩, D, cy, Q, kc, ks, Fr, A⟩ := z
  obtain ⟨hx, hb, hml, hown, hts, hr, hlk, hR, hK, hE, hI, hFr, hQ, hA⟩ := X
  intro H locs ls hP hS hf hl
  obtain ⟨C, T, N, ty0, ⟨h1, h2, h3, h4, h5, h6⟩, hk, hw, hfin, hty⟩ := F
  refine va_put hx hb hts h4 ty0 h5 h6 hown hK hP (pw_DA (pw_D hI) hA) (va_S_id hS) a (pw_obj ha h3) h1 k hk (hts _ hw) (fun _ q => q) hfin hty rfl rfl (by rw [fvs_len, ← h2]; exact hk) hd (fun H1 locs1 hP1 _ hS1 => ?_)
  rw [fvs_setJ hft, pw_set (S' := sJ S c k a v) (by simp [cel, ha, h3]) (fun b _ hb => cel_sJ hb)] at hP1
  exact kk H1 locs1 ls hP1 (va_S_tr hS hS1) (hFr.2 hp H H1 hf) hl
-- arrays: the kind kd is at least 12
theorem tys_at (cy : Nat → ClassId) {kd : Nat} {ty : FieldType} (h : ETL[kd - 12]? = some ty) (h12 : 12 ≤ kd) : (tysOf cy)[kd - 12]? = some (cy kd, ty) := by
  have hlt : kd - 12 < 31 := (List.getElem?_eq_some_iff.mp h).1
  simp only [tysOf, List.getElem?_map, List.getElem?_range hlt, Option.map_some]
  rw [Nat.sub_add_cancel h12, List.getD_eq_getElem?_getD, h]; rfl
theorem pw_arI {ad : Nat → Nat} {cy : Nat → ClassId} {S : St} {a kd n : Nat} (h : KT a = kd) (hc : 12 ≤ kd) (hc2 : kd < 43) (hn : LT kd = n) (hk : AK kd = 0) : (pw ad cy S)[a]? = some (ad a, .inl (cy kd, n, .inl (gA S kd a))) := by
  rw [pw_arr h hc hc2]; simp [arr, hn, hk]
theorem pw_arJ {ad : Nat → Nat} {cy : Nat → ClassId} {S : St} {a kd n : Nat} (h : KT a = kd) (hc : 12 ≤ kd) (hc2 : kd < 43) (hn : LT kd = n) (hk : AK kd = 1) : (pw ad cy S)[a]? = some (ad a, .inl (cy kd, n, .inr (.inl (gB S kd a)))) := by
  rw [pw_arr h hc hc2]; simp [arr, hn, hk]
theorem pw_arR {ad : Nat → Nat} {cy : Nat → ClassId} {S : St} {a kd n : Nat} (h : KT a = kd) (hc : 12 ≤ kd) (hc2 : kd < 43) (hn : LT kd = n) (hk : AK kd = 2) : (pw ad cy S)[a]? = some (ad a, .inl (cy kd, n, .inr (.inr (.inr (.inr (fun j => some (ad (PE S kd a j)))))))) := by
  rw [pw_arr h hc hc2]; simp [arr, hn, hk]
/-- what is known of an array's kind: its length, the type of its values, int, long or reference -/
def KD (kd n : Nat) (ty : FieldType) (k : Nat) : Prop := 12 ≤ kd ∧ kd < 43 ∧ LT kd = n ∧ ETL[kd - 12]? = some ty ∧ AK kd = k
theorem g_iald {kd n a : Nat} {i : Int32} (X : CxOk z ad own cc nL ret h) (hd : decode cc pc = .ok (.iaload, 1)) (F : KD kd n .int 0) (ha : KT a = kd) (hi : ¬ (i < 0 ∨ n ≤ i.toNatClampNeg)) (kk : GW z ad o S (pc + 1) lv (.int (gA S kd a i.toNatClampNeg) :: st)) : GW z ad o S pc lv (.int i :: .ref (ad a) :: st) := by
  obtain ⟨⟨p, l, e, R, s, m, args, below, meth, c0⟩, D, cy, Q, kc, ks, Fr, A⟩ := z
  obtain ⟨hx, hb, hml, hown, hts, hr, hlk, hR, hK, hE, hI, hFr, hQ, hA⟩ := X
  intro H locs ls hP hS hf hl
  obtain ⟨h1, h2, h3, h4, h5⟩ := F
  exact va_iald hx hb hK hP a (kd - 12) (pw_arI ha h1 h2 h3 h5) (tys_at cy h4 h1) hi hd (kk H locs ls hP hS hf hl)
theorem g_bald {kd n a : Nat} {i : Int32} (X : CxOk z ad own cc nL ret h) (hd : decode cc pc = .ok (.baload, 1)) (F : KD kd n .byte 0) (ha : KT a = kd) (hi : ¬ (i < 0 ∨ n ≤ i.toNatClampNeg)) (kk : GW z ad o S (pc + 1) lv (.int (gA S kd a i.toNatClampNeg) :: st)) : GW z ad o S pc lv (.int i :: .ref (ad a) :: st) := by
  obtain ⟨⟨p, l, e, R, s, m, args, below, meth, c0⟩, D, cy, Q, kc, ks, Fr, A⟩ := z
  obtain ⟨hx, hb, hml, hown, hts, hr, hlk, hR, hK, hE, hI, hFr, hQ, hA⟩ := X
  intro H locs ls hP hS hf hl
  obtain ⟨h1, h2, h3, h4, h5⟩ := F
  exact va_bald hx hb hK hP a (kd - 12) (pw_arI ha h1 h2 h3 h5) (tys_at cy h4 h1) hi hd (kk H locs ls hP hS hf hl)
theorem g_zald {kd n a : Nat} {i : Int32} (X : CxOk z ad own cc nL ret h) (hd : decode cc pc = .ok (.baload, 1)) (F : KD kd n .boolean 0) (ha : KT a = kd) (hi : ¬ (i < 0 ∨ n ≤ i.toNatClampNeg)) (kk : GW z ad o S (pc + 1) lv (.int (gA S kd a i.toNatClampNeg) :: st)) : GW z ad o S pc lv (.int i :: .ref (ad a) :: st) := by
  obtain ⟨⟨p, l, e, R, s, m, args, below, meth, c0⟩, D, cy, Q, kc, ks, Fr, A⟩ := z
  obtain ⟨hx, hb, hml, hown, hts, hr, hlk, hR, hK, hE, hI, hFr, hQ, hA⟩ := X
  intro H locs ls hP hS hf hl
  obtain ⟨h1, h2, h3, h4, h5⟩ := F
  exact va_zald hx hb hK hP a (kd - 12) (pw_arI ha h1 h2 h3 h5) (tys_at cy h4 h1) hi hd (kk H locs ls hP hS hf hl)
theorem g_lald {kd n a : Nat} {i : Int32} (X : CxOk z ad own cc nL ret h) (hd : decode cc pc = .ok (.laload, 1)) (F : KD kd n .long 1) (ha : KT a = kd) (hi : ¬ (i < 0 ∨ n ≤ i.toNatClampNeg)) (kk : GW z ad o S (pc + 1) lv (.long (gB S kd a i.toNatClampNeg) :: st)) : GW z ad o S pc lv (.int i :: .ref (ad a) :: st) := by
  obtain ⟨⟨p, l, e, R, s, m, args, below, meth, c0⟩, D, cy, Q, kc, ks, Fr, A⟩ := z
  obtain ⟨hx, hb, hml, hown, hts, hr, hlk, hR, hK, hE, hI, hFr, hQ, hA⟩ := X
  intro H locs ls hP hS hf hl
  obtain ⟨h1, h2, h3, h4, h5⟩ := F
  exact va_lald hx hb hK hP a (kd - 12) (pw_arJ ha h1 h2 h3 h5) (tys_at cy h4 h1) hi hd (kk H locs ls hP hS hf hl)
theorem g_aald {kd n a : Nat} {C : String} {i : Int32} (X : CxOk z ad own cc nL ret h) (hd : decode cc pc = .ok (.aaload, 1)) (F : KD kd n (.object C) 2) (ha : KT a = kd) (hi : ¬ (i < 0 ∨ n ≤ i.toNatClampNeg)) (kk : GW z ad o S (pc + 1) lv (.ref (ad (PE S kd a i.toNatClampNeg)) :: st)) : GW z ad o S pc lv (.int i :: .ref (ad a) :: st) := by
  obtain ⟨⟨p, l, e, R, s, m, args, below, meth, c0⟩, D, cy, Q, kc, ks, Fr, A⟩ := z
  obtain ⟨hx, hb, hml, hown, hts, hr, hlk, hR, hK, hE, hI, hFr, hQ, hA⟩ := X
  intro H locs ls hP hS hf hl
  obtain ⟨h1, h2, h3, h4, h5⟩ := F
  exact va_aldq hx hb hK hP a (kd - 12) (pw_arR ha h1 h2 h3 h5) (tys_at cy h4 h1) hi hd (kk H locs ls hP hS hf hl)
theorem g_alen {kd n k a : Nat} {ty : FieldType} {v : Int32} (X : CxOk z ad own cc nL ret h) (hd : decode cc pc = .ok (.arraylength, 1)) (F : KD kd n ty k) (ha : KT a = kd) (hv : Int32.ofNat n = v) (kk : GW z ad o S (pc + 1) lv (.int v :: st)) : GW z ad o S pc lv (.ref (ad a) :: st) := by
  obtain ⟨⟨p, l, e, R, s, m, args, below, meth, c0⟩, D, cy, Q, kc, ks, Fr, A⟩ := z
  obtain ⟨hx, hb, hml, hown, hts, hr, hlk, hR, hK, hE, hI, hFr, hQ, hA⟩ := X
  intro H locs ls hP hS hf hl
  obtain ⟨h1, h2, h3, h4, h5⟩ := F
  exact va_alen hx hb hK hP a (kd - 12) (pw_arr ha h1 h2) (tys_at cy h4 h1) (by rw [← hv, ← h3]; rfl) hd (kk H locs ls hP hS hf hl)
theorem upd_sA (S : St) (kd a j : Nat) (x : Int32) : upd (gA S kd a) j x = gA (sA S kd a j x) kd a := by
  funext q
  by_cases hq : q = j <;> simp [upd, gA, sA, u3, hq]
theorem cel_arA {ad : Nat → Nat} {cy : Nat → ClassId} {S : St} {a kd n : Nat} {ty : FieldType} (F : KD kd n ty 0) (ha : KT a = kd) : cel ad cy S a = .inl (cy kd, n, .inl (gA S kd a)) := by
  obtain ⟨h1, h2, h3, h4, h5⟩ := F
  simp [cel, arr, ha, h3, h5, Nat.not_lt.mpr h1]
theorem cel_arB {ad : Nat → Nat} {cy : Nat → ClassId} {S : St} {a kd n : Nat} {ty : FieldType} (F : KD kd n ty 1) (ha : KT a = kd) : cel ad cy S a = .inl (cy kd, n, .inr (.inl (gB S kd a))) := by
  obtain ⟨h1, h2, h3, h4, h5⟩ := F
  simp [cel, arr, ha, h3, h5, Nat.not_lt.mpr h1]
theorem g_iast {kd n a : Nat} {i x : Int32} (X : CxOk z ad own cc nL ret h) (hd : decode cc pc = .ok (.iastore, 1)) (F : KD kd n .int 0) (ha : KT a = kd) (hi : ¬ (i < 0 ∨ n ≤ i.toNatClampNeg)) (kk : GW z ad o (sA S kd a i.toNatClampNeg x) (pc + 1) lv st) (hp : h < 1100 := by first | decide | omega) : GW z ad o S pc lv (.int x :: .int i :: .ref (ad a) :: st) := by
  obtain ⟨⟨p, l, e, R, s, m, args, below, meth, c0⟩, D, cy, Q, kc, ks, Fr, A⟩ := z
  obtain ⟨hx, hb, hml, hown, hts, hr, hlk, hR, hK, hE, hI, hFr, hQ, hA⟩ := X
  intro H locs ls hP hS hf hl
  obtain ⟨h1, h2, h3, h4, h5⟩ := id F
  refine va_iast hx hb hK hP (pw_DA (pw_D hI) hA) (va_S_id hS) a (kd - 12) (pw_arI ha h1 h2 h3 h5) (tys_at cy h4 h1) hi hd (fun H1 locs1 hP1 _ hS1 => ?_)
  rw [upd_sA, pw_set (S' := sA S kd a i.toNatClampNeg x) (cel_arA F ha) (fun b _ hb => cel_sA hb)] at hP1
  exact kk H1 locs1 ls hP1 (va_S_tr hS hS1) (hFr.2 hp H H1 hf) hl
theorem g_bast {kd n a : Nat} {i x : Int32} (X : CxOk z ad own cc nL ret h) (hd : decode cc pc = .ok (.bastore, 1)) (F : KD kd n .byte 0) (ha : KT a = kd) (hi : ¬ (i < 0 ∨ n ≤ i.toNatClampNeg)) (kk : GW z ad o (sA S kd a i.toNatClampNeg (vp_nar .byte x)) (pc + 1) lv st) (hp : h < 1100 := by first | decide | omega) : GW z ad o S pc lv (.int x :: .int i :: .ref (ad a) :: st) := by
  obtain ⟨⟨p, l, e, R, s, m, args, below, meth, c0⟩, D, cy, Q, kc, ks, Fr, A⟩ := z
  obtain ⟨hx, hb, hml, hown, hts, hr, hlk, hR, hK, hE, hI, hFr, hQ, hA⟩ := X
  intro H locs ls hP hS hf hl
  obtain ⟨h1, h2, h3, h4, h5⟩ := id F
  refine va_bast hx hb hK hP (pw_DA (pw_D hI) hA) (va_S_id hS) a (kd - 12) (pw_arI ha h1 h2 h3 h5) (tys_at cy h4 h1) hi hd (fun H1 locs1 hP1 _ hS1 => ?_)
  rw [upd_sA, pw_set (S' := sA S kd a i.toNatClampNeg (vp_nar .byte x)) (cel_arA F ha) (fun b _ hb => cel_sA hb)] at hP1
  exact kk H1 locs1 ls hP1 (va_S_tr hS hS1) (hFr.2 hp H H1 hf) hl
theorem g_zast {kd n a : Nat} {i x : Int32} (X : CxOk z ad own cc nL ret h) (hd : decode cc pc = .ok (.bastore, 1)) (F : KD kd n .boolean 0) (ha : KT a = kd) (hi : ¬ (i < 0 ∨ n ≤ i.toNatClampNeg)) (kk : GW z ad o (sA S kd a i.toNatClampNeg (vp_nar .boolean x)) (pc + 1) lv st) (hp : h < 1100 := by first | decide | omega) : GW z ad o S pc lv (.int x :: .int i :: .ref (ad a) :: st) := by
  obtain ⟨⟨p, l, e, R, s, m, args, below, meth, c0⟩, D, cy, Q, kc, ks, Fr, A⟩ := z
  obtain ⟨hx, hb, hml, hown, hts, hr, hlk, hR, hK, hE, hI, hFr, hQ, hA⟩ := X
  intro H locs ls hP hS hf hl
  obtain ⟨h1, h2, h3, h4, h5⟩ := id F
  refine va_zast hx hb hK hP (pw_DA (pw_D hI) hA) (va_S_id hS) a (kd - 12) (pw_arI ha h1 h2 h3 h5) (tys_at cy h4 h1) hi hd (fun H1 locs1 hP1 _ hS1 => ?_)
  rw [upd_sA, pw_set (S' := sA S kd a i.toNatClampNeg (vp_nar .boolean x)) (cel_arA F ha) (fun b _ hb => cel_sA hb)] at hP1
  exact kk H1 locs1 ls hP1 (va_S_tr hS hS1) (hFr.2 hp H H1 hf) hl
theorem updL_sB (S : St) (kd a j : Nat) (x : Int64) : vp_updL (gB S kd a) j x = gB (sB S kd a j x) kd a := by
  funext q
  by_cases hq : q = j <;> simp [vp_updL, gB, sB, u3, hq]
theorem g_last {kd n a : Nat} {i : Int32} {x : Int64} (X : CxOk z ad own cc nL ret h) (hd : decode cc pc = .ok (.lastore, 1)) (F : KD kd n .long 1) (ha : KT a = kd) (hi : ¬ (i < 0 ∨ n ≤ i.toNatClampNeg)) (kk : GW z ad o (sB S kd a i.toNatClampNeg x) (pc + 1) lv st) (hp : h < 1100 := by first | decide | omega) : GW z ad o S pc lv (.long x :: .int i :: .ref (ad a) :: st) := by
  obtain ⟨⟨p, l, e, R, s, m, args, below, meth, c0⟩, D, cy, Q, kc, ks, Fr, A⟩ := z
  obtain ⟨hx, hb, hml, hown, hts, hr, hlk, hR, hK, hE, hI, hFr, hQ, hA⟩ := X
  intro H locs ls hP hS hf hl
  obtain ⟨h1, h2, h3, h4, h5⟩ := id F
  refine va_last hx hb hK hP (pw_DA (pw_D hI) hA) (va_S_id hS) a (kd - 12) (pw_arJ ha h1 h2 h3 h5) (tys_at cy h4 h1) hi hd (fun H1 locs1 hP1 _ hS1 => ?_)
  rw [updL_sB, pw_set (S' := sB S kd a i.toNatClampNeg x) (cel_arB F ha) (fun b _ hb => cel_sB hb)] at hP1
  exact kk H1 locs1 ls hP1 (va_S_tr hS hS1) (hFr.2 hp H H1 hf) hl
theorem upQ_sQ {ad : Nat → Nat} (S : St) (a j v : Nat) : va_up (fun j => some (ad (PE S 25 a j))) j (some (ad v)) = (fun j' => some (ad (PE (sQ S a j v) 25 a j'))) := by
  funext q
  by_cases hq : q = j <;> simp [va_up, PE, gQ, sQ, hq]
/-- a Days into the row of kept ones (kind 25) -/
theorem g_aast {a v : Nat} {i : Int32} (X : CxOk z ad own cc nL ret h) (hd : decode cc pc = .ok (.aastore, 1)) (ha : KT a = 25) (hv : KT v = 2) (hi : ¬ (i < 0 ∨ 8 ≤ i.toNatClampNeg)) (kk : GW z ad o (sQ S a i.toNatClampNeg v) (pc + 1) lv st) (hp : h < 1100 := by first | decide | omega) : GW z ad o S pc lv (.ref (ad v) :: .int i :: .ref (ad a) :: st) := by
  obtain ⟨⟨p, l, e, R, s, m, args, below, meth, c0⟩, D, cy, Q, kc, ks, Fr, A⟩ := z
  obtain ⟨hx, hb, hml, hown, hts, hr, hlk, hR, hK, hE, hI, hFr, hQ, hA⟩ := X
  intro H locs ls hP hS hf hl
  refine va_astq (r := (RX2, TX2, 6)) hx hb hK hP (pw_DA (pw_D hI) hA) (va_S_id hS) a (25 - 12) v 2 (pw_arR ha (by decide) (by decide) rfl rfl) (tys_at cy (show ETL[25 - 12]? = some (.object RX2) from rfl) (by decide)) (pw_obj hv (by decide)) rfl hi hd (fun H1 locs1 hP1 _ hS1 => ?_)
  rw [upQ_sQ, pw_set (S' := sQ S a i.toNatClampNeg v) (by simp [cel, ha, arr]; rfl) (fun b _ hb => cel_sQ hb)] at hP1
  exact kk H1 locs1 ls hP1 (va_S_tr hS hS1) (hFr.2 hp H H1 hf) hl
-- ends
theorem g_iret {v : Int32} (X : CxOk z ad own cc nL (some .int) h) (hd : decode cc pc = .ok (.ireturn, 1)) (ho : o = (some (.int v), S)) (hh : h < 1000 := by first | decide | omega) : GW z ad o S pc lv [.int v] := by
  subst ho
  obtain ⟨⟨p, l, e, R, s, m, args, below, meth, c0⟩, D, cy, Q, kc, ks, Fr, A⟩ := z
  obtain ⟨hx, hb, hml, hown, hts, hr, hlk, hR, hK, hE, hI, hFr, hQ, hA⟩ := X
  intro H locs ls hP hS hf hl
  obtain ⟨rfl, rfl, rfl, rfl⟩ := hQ hh
  exact W.iret hx hb hr (fun t ht hW => ⟨rfl, ⟨by rw [ht]; exact hP, va_K.moved hW.alike hK, hE.next hS ht hW⟩, hS.F ht⟩) hS.2.2 hd hlk
theorem g_zret {v : Int32} (X : CxOk z ad own cc nL (some .boolean) h) (hd : decode cc pc = .ok (.ireturn, 1)) (hn : narrow .boolean (.int v) = .int v) (ho : o = (some (.int v), S)) (hh : h < 1000 := by first | decide | omega) : GW z ad o S pc lv [.int v] := by
  subst ho
  obtain ⟨⟨p, l, e, R, s, m, args, below, meth, c0⟩, D, cy, Q, kc, ks, Fr, A⟩ := z
  obtain ⟨hx, hb, hml, hown, hts, hr, hlk, hR, hK, hE, hI, hFr, hQ, hA⟩ := X
  intro H locs ls hP hS hf hl
  obtain ⟨rfl, rfl, rfl, rfl⟩ := hQ hh
  exact W.zret hx hb hr hn (fun t ht hW => ⟨rfl, ⟨by rw [ht]; exact hP, va_K.moved hW.alike hK, hE.next hS ht hW⟩, hS.F ht⟩) hS.2.2 hd hlk
theorem g_lret {v : Int64} (X : CxOk z ad own cc nL (some .long) h) (hd : decode cc pc = .ok (.lreturn, 1)) (ho : o = (some (.long v), S)) (hh : h < 1000 := by first | decide | omega) : GW z ad o S pc lv [.long v] := by
  subst ho
  obtain ⟨⟨p, l, e, R, s, m, args, below, meth, c0⟩, D, cy, Q, kc, ks, Fr, A⟩ := z
  obtain ⟨hx, hb, hml, hown, hts, hr, hlk, hR, hK, hE, hI, hFr, hQ, hA⟩ := X
  intro H locs ls hP hS hf hl
  obtain ⟨rfl, rfl, rfl, rfl⟩ := hQ hh
  exact W.lret hx hb hr (fun t ht hW => ⟨rfl, ⟨by rw [ht]; exact hP, va_K.moved hW.alike hK, hE.next hS ht hW⟩, hS.F ht⟩) hS.2.2 hd hlk
theorem g_vret (X : CxOk z ad own cc nL none h) (hd : decode cc pc = .ok (.return_, 1)) (ho : o = (none, S)) (hh : h < 1000 := by first | decide | omega) : GW z ad o S pc lv [] := by
  subst ho
  obtain ⟨⟨p, l, e, R, s, m, args, below, meth, c0⟩, D, cy, Q, kc, ks, Fr, A⟩ := z
  obtain ⟨hx, hb, hml, hown, hts, hr, hlk, hR, hK, hE, hI, hFr, hQ, hA⟩ := X
  intro H locs ls hP hS hf hl
  obtain ⟨rfl, rfl, rfl, rfl⟩ := hQ hh
  exact W.vret hx hb hr (fun t ht hW => ⟨rfl, ⟨by rw [ht]; exact hP, va_K.moved hW.alike hK, hE.next hS ht hW⟩, hS.F ht⟩) hS.2.2 hd hlk
-- calls
theorem blind_pool {ad : Nat → Nat} {D : va_G} {cy : Nat → ClassId} {S : St} {as : List Value} : FrameBlind (va_Pc as (fun U => PoolAt ad D cy S U)) := fun a U g mk q => by
  obtain ⟨q0, q1, q2, q3⟩ := q
  exact ⟨q0, q1, va_K.moved (u := U) (U := U.calling g mk a) (Vm.Alike.refl U.vm) q2, q3⟩
theorem good_all : wsL_law0.all goodWord = true := by decide +kernel
theorem good_w {y : MethodName} {cc : ByteArray} {maxL : Nat} {ret : Option FieldType} (hc : Cond.code y cc maxL ret ∈ wsL_law0) : GoodIn wsL_law0 (.code y cc maxL ret :: wsL_law0) := by
  intro w hw
  have hm : w ∈ wsL_law0 := (List.mem_cons.mp hw).elim (fun q => q ▸ hc) id
  exact ⟨hm, good_of_word (List.all_eq_true.mp good_all w hm)⟩
def MLv (own : String) (i : Nat) (C : String) (ci : Nat) (y : MethodName) (cy : ByteArray) (maxL : Nat) (ret : Option FieldType) (n : Nat) : Prop :=
  Cond.code y cy maxL ret ∈ wsL_law0 ∧ Cond.methodLink own i y ∈ wsL_law0 ∧ Cond.instanceMethod y ∈ wsL_law0 ∧ Cond.selects C y y ∈ wsL_law0 ∧ Cond.initialized C ∈ wsL_law0 ∧ y.cls = C ∧ (y.cls ≠ "java/lang/invoke/MethodHandle" ∧ y.cls ≠ "java/lang/invoke/VarHandle" ∧ (parseMethodDescriptor y.desc).map (fun d => d.parameters.length) = some n) ∧ maxL ≤ 41 ∧ ci < 12 ∧ (vwCl[ci]?).map (fun q => q.1) = some C
def MLs (own : String) (i : Nat) (y : MethodName) (cy : ByteArray) (maxL : Nat) (ret : Option FieldType) (n : Nat) : Prop :=
  Cond.code y cy maxL ret ∈ wsL_law0 ∧ Cond.methodLink own i y ∈ wsL_law0 ∧ Cond.static y ∈ wsL_law0 ∧ Cond.initialized y.cls ∈ wsL_law0 ∧ (y.cls ≠ "java/lang/invoke/MethodHandle" ∧ y.cls ≠ "java/lang/invoke/VarHandle" ∧ (parseMethodDescriptor y.desc).map (fun d => d.parameters.length) = some n) ∧ maxL ≤ 41
theorem callB_pool {R : Room} {s : State} {args : Array Value} {own : String} {i : Nat} {y : MethodName} {cy : ByteArray} {maxL : Nat} {ret : Option FieldType} {n h h' : Nat} (hts : ∀ w ∈ wsL_law0, w.before args s = true) (h1 : Cond.code y cy maxL ret ∈ wsL_law0) (h2 : Cond.methodLink own i y ∈ wsL_law0) (h3 : Cond.initialized y.cls ∈ wsL_law0) (hd : y.cls ≠ "java/lang/invoke/MethodHandle" ∧ y.cls ≠ "java/lang/invoke/VarHandle" ∧ (parseMethodDescriptor y.desc).map (fun d => d.parameters.length) = some n) (hm : maxL ≤ 41) (hR : h ≤ R.frames ∧ 60 * h ≤ R.locals) (hh : h' < h) :
    CallB R s args own i y cy maxL ret (.code y cy maxL ret :: wsL_law0) (rmN h') 0 0 n := by
  refine callB_of n hts (good_w h1) rfl rfl rfl (hts _ h3) (hts _ h2) hd ⟨Nat.le_trans hh hR.1, ?_⟩
  show 8 + (maxL + 11) + 60 * h' ≤ R.locals
  omega
theorem g_callV {i n h' b ci maxL : Nat} {C : String} {y : MethodName} {cy : ByteArray} {rt : Option FieldType} {As rest stk : List Value} {v : Option Value} {S' : St} (X : CxOk z ad own cc nL ret h) (hd : decode cc pc = .ok (.invokevirtual i, 3)) (F : MLv own i C ci y cy maxL rt n) (hM : ∀ (l : Launch) (D : va_G) (cyy : Nat → ClassId), OkM l y cy maxL rt h' ad D cyy (.ref (ad b) :: As) S (v, S')) (hb2 : KT b = ci) (hh : h' < h) (hn : As.length = n) (hstk : stk = As.reverse ++ .ref (ad b) :: rest) (hw : (rest.map fun v => v.category).sum ≤ 8)
    (kk : GW z ad o S' (pc + 3) lv (v.toList ++ rest)) : GW z ad o S pc lv stk := by
  subst hstk
  obtain ⟨⟨p, l, e, R, s, m, args, below, meth, c0⟩, D, cyy, Q, kc, ks, Fr, A⟩ := z
  obtain ⟨hx, hb, hml, hown, hts, hr, hlk, hR, hK, hE, hI, hFr, hQ, hA⟩ := X
  intro H locs ls hP hS hf hl
  obtain ⟨f1, f2, f3, f4, f5, f6, f7, f8, f9, f10⟩ := F
  cases hcl : vwCl[ci]? with
  | none => rw [hcl] at f10; cases f10
  | some q =>
    rw [hcl] at f10
    have hq : q.1 = C := Option.some.inj f10
    have hrecv := va_recv hK hP hcl (pw_obj hb2 f9)
    rw [hq] at hrecv
    have hrun := va_runV (locs := locs) (g := F0 m pc ls (As.reverse ++ .ref (ad b) :: rest)) (cells := kc) (slots := ks) (below := below) (meth := meth) (e := e) (R := R) (C := C) (rest := rest) (As := As) (b := ad b) (nL := c0.maxLocals) ⟨hx, hb, rfl, hown, hts⟩ (hM l D cyy) ⟨callB_pool hts f1 f2 (by rw [f6]; exact f5) f7 f8 ⟨hR.1, hR.2.1⟩ hh, hts _ f3, hts _ f4⟩ ⟨blind_pool, hrecv, fun U hU hW => ⟨rfl, by rw [hU]; exact hP, va_K.moved hW.alike hK, (hE.next hS hU hW).sub hA⟩⟩ rfl hn hl.1 rfl (by show 2 * (F0 m pc ls _).monitorRoom + _ ≤ 8; simpa [JFrame.monitorRoom] using hw) hd ⟨hR.2.2.1, hR.2.2.2⟩
    intro T hT X2
    obtain ⟨v2, st₀, t, T', L, h0, X', hL, e1, e2, ⟨hv, ⟨hP1, hK1, hE1⟩, hz, hk⟩, stp⟩ := hrun T hT X2
    obtain rfl : v2 = v := by cases hv; rfl
    rw [h0] at hz hk
    obtain ⟨t2, a1, b1⟩ := kk T'.heap (locs ++ L) ls (by rw [e1]; exact hP1) ⟨Nat.le_trans hS.1 (by rw [e1]; exact hz), fun q h1 h2 => by rw [e1, hk q (Nat.lt_of_lt_of_le h1 hS.1) (fun x => h2 (hA q x))]; exact hS.2.1 q h1 h2, fun q hq => (List.mem_append.mp hq).elim (hS.2.2 q) (fun x => hA _ (hL q x))⟩ (hFr.1 H _ (by rw [e1]; exact hz) (fun q h1 h2 => by rw [e1]; exact hk q h1 h2) hf) hl T' rfl X'
    exact ⟨t2, stp t2 a1, b1⟩
theorem g_callS {i n h' maxL : Nat} {y : MethodName} {cy : ByteArray} {rt : Option FieldType} {As rest stk : List Value} {v : Option Value} {S' : St} (X : CxOk z ad own cc nL ret h) (hd : decode cc pc = .ok (.invokestatic i, 3)) (F : MLs own i y cy maxL rt n) (hM : ∀ (l : Launch) (D : va_G) (cyy : Nat → ClassId), OkM l y cy maxL rt h' ad D cyy As S (v, S')) (hh : h' < h) (hn : As.length = n) (hstk : stk = As.reverse ++ rest) (hw : (rest.map fun v => v.category).sum ≤ 8)
    (kk : GW z ad o S' (pc + 3) lv (v.toList ++ rest)) : GW z ad o S pc lv stk := by
  subst hstk
  obtain ⟨⟨p, l, e, R, s, m, args, below, meth, c0⟩, D, cyy, Q, kc, ks, Fr, A⟩ := z
  obtain ⟨hx, hb, hml, hown, hts, hr, hlk, hR, hK, hE, hI, hFr, hQ, hA⟩ := X
  intro H locs ls hP hS hf hl
  obtain ⟨f1, f2, f3, f5, f7, f8⟩ := F
  have hrun := va_runS (locs := locs) (g := F0 m pc ls (As.reverse ++ rest)) (cells := kc) (slots := ks) (below := below) (meth := meth) (e := e) (R := R) (rest := rest) (As := As) (nL := c0.maxLocals) ⟨hx, hb, rfl, hown, hts⟩ (hM l D cyy) ⟨callB_pool hts f1 f2 f5 f7 f8 ⟨hR.1, hR.2.1⟩ hh, hts _ f3⟩ ⟨blind_pool, fun U hU hW => ⟨rfl, by rw [hU]; exact hP, va_K.moved hW.alike hK, (hE.next hS hU hW).sub hA⟩⟩ rfl hn hl.1 rfl (by show 2 * (F0 m pc ls _).monitorRoom + _ ≤ 8; simpa [JFrame.monitorRoom] using hw) hd ⟨hR.2.2.1, hR.2.2.2⟩
  intro T hT X2
  obtain ⟨v2, st₀, t, T', L, h0, X', hL, e1, e2, ⟨hv, ⟨hP1, hK1, hE1⟩, hz, hk⟩, stp⟩ := hrun T hT X2
  obtain rfl : v2 = v := by cases hv; rfl
  rw [h0] at hz hk
  obtain ⟨t2, a1, b1⟩ := kk T'.heap (locs ++ L) ls (by rw [e1]; exact hP1) ⟨Nat.le_trans hS.1 (by rw [e1]; exact hz), fun q h1 h2 => by rw [e1, hk q (Nat.lt_of_lt_of_le h1 hS.1) (fun x => h2 (hA q x))]; exact hS.2.1 q h1 h2, fun q hq => (List.mem_append.mp hq).elim (hS.2.2 q) (fun x => hA _ (hL q x))⟩ (hFr.1 H _ (by rw [e1]; exact hz) (fun q h1 h2 => by rw [e1]; exact hk q h1 h2) hf) hl T' rfl X'
  exact ⟨t2, stp t2 a1, b1⟩
end GF
/-- a method's contract out of the walk of its body -/
theorem okM_of {l : Launch} {y : MethodName} {cc : ByteArray} {maxL : Nat} {ret : Option FieldType} {h : Nat} {ad : Nat → Nat} {D : va_G} {cy : Nat → ClassId} {as : List Value} {S : St} {o : Option Value × St} (hI : Inj ad) (hy : plainName y.cls = true) (hc : Cond.code y cc maxL ret ∈ wsL_law0) (hlen : (lg_sl as).length ≤ maxL)
    (body : ∀ z : Mx, CxOk z ad y.cls cc maxL ret h → GW z ad o S 0 (lv_args 0 as) []) : OkM l y cc maxL ret h ad D cy as S o := by
  refine Met.ofW (cc := cc) (maxL := maxL) (ret := ret) hy rfl ?_
  intro p e s m args below meth c s₁ B hml hv
  obtain ⟨rfl, hP, hK, hE⟩ := hv
  have hts := atoms_spec (ws := .code y cc maxL ret :: wsL_law0) B.pre
  have hown : s.vm.findClass y.cls = some m.cls := findClass_of_methodNamed B.named
  have hl := lv_entry as (n := maxL) hlen
  rw [lg_entry_eq]
  exact body ((p, l, e, (headSpec (Cond.code y cc maxL ret :: wsL_law0) (rmN h)).room, s, m, as.toArray, below, meth, c), D, cy, (fun o => MQ below (Qr ad D cy o) as.toArray s 0 0 (InA ad)), 0, 0, (fun _ => True), InA ad) ⟨B.exec, B.bytes, hml, hown, fun w hw => hts w (List.mem_cons_of_mem _ hw), B.returns, B.notSynchronized, ⟨Nat.le_refl _, Nat.le_refl _, Nat.zero_le _, Nat.zero_le _⟩, hK, hE, hI, ⟨fun _ _ _ _ _ => trivial, fun _ _ _ _ => trivial⟩, fun _ => ⟨rfl, rfl, rfl, rfl⟩, fun _ q => q⟩ s.heap [] _ hP va_S.rf trivial (by rw [hml]; exact hl)

