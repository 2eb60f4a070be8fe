-- constructors: worlds as lists
abbrev Kx : Type := (Program × Launch × Env × Room × State × MethodId × Array Value × List Frame × Method × Code) × va_G × (Nat → ClassId) × (State → Prop)
def AOs (U : State) : Prop := va_AO RX4 U ∧ va_AO RX3 U ∧ va_AO RX2 U ∧ va_AO RX9 U
theorem AOs.moved {u U : State} (hvm : u.vm.Alike U.vm) (h : AOs u) : AOs U := ⟨h.1.moved hvm, h.2.1.moved hvm, h.2.2.1.moved hvm, h.2.2.2.moved hvm⟩
def CK (z : Kx) (A : Nat → Prop) (own : String) (cc : ByteArray) (nL : Nat) (h mc ms : Nat) : Prop := match z with
  | ((p, _, _, R, s, m, args, _, meth, c), D, cy, _) => p.tables.exec = Jvm.exec ∧ c.code = cc ∧ c.maxLocals = nL ∧ s.vm.findClass own = some m.cls ∧ (∀ w ∈ wsL_law0, w.before args s = true) ∧ (h ≤ R.frames ∧ 60 * h ≤ R.locals ∧ mc ≤ R.cells ∧ ms ≤ R.slots) ∧ va_K D vwCl (tysOf cy) s ∧ AOs s ∧ (∀ q, s.heap.size ≤ q → A q) ∧ meth.name = "<init>"
def KW (z : Kx) (A : Nat → Prop) (ws : va_W) (k n : Nat) (pc : Nat) (lv : List (Nat × Value)) (st : List Value) : Prop := match z with
  | ((p, l, e, R, s, m, args, below, meth, c), D, _, Q) => ∀ (H : Heap) (locs : List Loc) (ls : Array Slot), va_P D vwCl ws H → va_D A ws → va_S A s.heap H locs → lv_has ls c.maxLocals lv → W p l e R s m args below meth c H locs k n Q (F0 m pc ls st)
def rmI (h mc ms : Nat) : Room := { frames := h, cells := mc, slots := ms, locals := 60 * h }
def OkI (l : Launch) (y : MethodName) (cc : ByteArray) (maxL h mc ms : Nat) (D : va_G) (cy : Nat → ClassId) (ci : Nat) (fs0 : List Value) (W1 : (Nat → Nat) → va_W) : Prop := ∀ (h0 sz : Nat), Met l y (.code y cc maxL none :: wsL_law0) (rmI h mc ms) (va_Pc [.ref h0] (fun U => U.heap.size = sz ∧ va_P D vwCl [(h0, .inr (ci, fs0))] U.heap ∧ (va_K D vwCl (tysOf cy) U ∧ AOs U) ∧ va_D (fun _ => True) [(h0, .inr (ci, fs0))])) (va_Qv (fun q : Nat → Nat => q 0 = h0) (fun q t => va_P D vwCl (W1 q) t.heap ∧ va_D (va_A [(h0, .inr (ci, fs0))] sz) (W1 q)) (va_A [(h0, .inr (ci, fs0))] sz)) mc ms (va_A [(h0, .inr (ci, fs0))] sz)
def FK (own : String) (i c k : Nat) : Prop := ∃ (C : String) (T : u_T) (N : Nat) (ty0 : Nat → FieldType), CD c C T N ty0 ∧ k < N ∧ Cond.fieldLink own i (T k).1 (T k).2.1 (T k).2.2.1 ∈ wsL_law0
section KR
variable {z : Kx} {A : Nat → Prop} {ws : va_W} {k n : Nat} {own : String} {cc : ByteArray} {nL h mc ms pc : Nat} {lv : List (Nat × Value)} {st : List Value}
theorem k_iconst {i : Int} {v : Int32} (X : CK z A own cc nL h mc ms) (hd : decode cc pc = .ok (.iconst i, 1)) (hv : Int32.ofInt i = v) (kk : KW z A ws k n (pc + 1) lv (.int v :: st)) : KW z A ws k n pc lv st := by
  obtain ⟨⟨p, l, e, R, s, m, args, below, meth, c⟩, D, cy, Q⟩ := z
  obtain ⟨hx, hb, hml, hown, hts, hR, hK, hO, hA, hin⟩ := X
  intro H locs ls hP hD hS hl
  exact lv_iconst hx hb hd hv (kk H locs ls hP hD hS hl)
theorem k_bipush {i : Int} {v : Int32} (X : CK z A own cc nL h mc ms) (hd : decode cc pc = .ok (.bipush i, 2)) (hv : (Int8.ofInt i).toInt32 = v) (kk : KW z A ws k n (pc + 2) lv (.int v :: st)) : KW z A ws k n pc lv st := by
  obtain ⟨⟨p, l, e, R, s, m, args, below, meth, c⟩, D, cy, Q⟩ := z
  obtain ⟨hx, hb, hml, hown, hts, hR, hK, hO, hA, hin⟩ := X
  intro H locs ls hP hD hS hl
  exact lv_bipush hx hb hd hv (kk H locs ls hP hD hS hl)
theorem k_sipush {i : Int} {v : Int32} (X : CK z A own cc nL h mc ms) (hd : decode cc pc = .ok (.sipush i, 3)) (hv : (Int16.ofInt i).toInt32 = v) (kk : KW z A ws k n (pc + 3) lv (.int v :: st)) : KW z A ws k n pc lv st := by
  obtain ⟨⟨p, l, e, R, s, m, args, below, meth, c⟩, D, cy, Q⟩ := z
  obtain ⟨hx, hb, hml, hown, hts, hR, hK, hO, hA, hin⟩ := X
  intro H locs ls hP hD hS hl
  exact lv_sipush hx hb hd hv (kk H locs ls hP hD hS hl)
theorem k_aload_n {q : Fin 4} {i x : Nat} (X : CK z A own cc nL h mc ms) (hd : decode cc pc = .ok (.aload_n q, 1)) (j : Nat) (hi : (q : Nat) = i) (hj : lv[j]? = some (i, .ref x)) (kk : KW z A ws k n (pc + 1) lv (.ref x :: st)) : KW z A ws k n pc lv st := by
  obtain ⟨⟨p, l, e, R, s, m, args, below, meth, c⟩, D, cy, Q⟩ := z
  obtain ⟨hx, hb, hml, hown, hts, hR, hK, hO, hA, hin⟩ := X
  intro H locs ls hP hD hS hl
  exact lv_aload_n hx hb hd hi (lv_at hl j hj) (kk H locs ls hP hD hS hl)
theorem k_iload_n {q : Fin 4} {i : Nat} {x : Int32} (X : CK z A own cc nL h mc ms) (hd : decode cc pc = .ok (.iload_n q, 1)) (j : Nat) (hi : (q : Nat) = i) (hj : lv[j]? = some (i, .int x)) (kk : KW z A ws k n (pc + 1) lv (.int x :: st)) : KW z A ws k n pc lv st := by
  obtain ⟨⟨p, l, e, R, s, m, args, below, meth, c⟩, D, cy, Q⟩ := z
  obtain ⟨hx, hb, hml, hown, hts, hR, hK, hO, hA, hin⟩ := X
  intro H locs ls hP hD hS hl
  exact lv_iload_n hx hb hd hi (lv_at hl j hj) (kk H locs ls hP hD hS hl)
theorem k_istore_n {q : Fin 4} {i : Nat} {x : Int32} {lv' : List (Nat × Value)} (X : CK z A own cc nL h mc ms) (hd : decode cc pc = .ok (.istore_n q, 1)) (hi : (q : Nat) = i) (hn : i < nL) (hl2 : (i, .int x) :: lv.filter (fun q => !(q.1 == i) && !(q.1 + 1 == i && q.2.category == 2)) = lv') (kk : KW z A ws k n (pc + 1) lv' st) : KW z A ws k n pc lv (.int x :: st) := by
  obtain ⟨⟨p, l, e, R, s, m, args, below, meth, c⟩, D, cy, Q⟩ := z
  obtain ⟨hx, hb, hml, hown, hts, hR, hK, hO, hA, hin⟩ := X
  intro H locs ls hP hD hS hl
  subst hml
  exact lv_istore_n hx hb hd hi hl hn hl2 (fun ls hl => kk H locs ls hP hD hS hl)
theorem k_iinc {i : Nat} {d : Int} {x v : Int32} {lv' : List (Nat × Value)} (X : CK z A own cc nL h mc ms) (hd : decode cc pc = .ok (.iinc i d, 3)) (j : Nat) (hj : lv[j]? = some (i, .int x)) (hv : x + Int32.ofInt d = v) (hn : i < nL) (hl2 : (i, .int v) :: lv.filter (fun q => !(q.1 == i) && !(q.1 + 1 == i && q.2.category == 2)) = lv') (kk : KW z A ws k n (pc + 3) lv' st) : KW z A ws k n pc lv st := by
  obtain ⟨⟨p, l, e, R, s, m, args, below, meth, c⟩, D, cy, Q⟩ := z
  obtain ⟨hx, hb, hml, hown, hts, hR, hK, hO, hA, hin⟩ := X
  intro H locs ls hP hD hS hl
  subst hml
  exact lv_iinc hx hb hd hl hj hv hn hl2 (fun ls hl => kk H locs ls hP hD hS hl)
theorem k_icmp_ge {x y : Int32} {off : Int} {tgt : Nat} (X : CK z A own cc nL h mc ms) (hd : decode cc pc = .ok (.if_icmp .ge off, 3)) (ht : (pc : Int) + off = (tgt : Int)) (kt : y ≤ x → KW z A ws k n tgt lv st) (kf : ¬ y ≤ x → KW z A ws k n (pc + 3) lv st) : KW z A ws k n pc lv (.int y :: .int x :: st) := by
  obtain ⟨⟨p, l, e, R, s, m, args, below, meth, c⟩, D, cy, Q⟩ := z
  obtain ⟨hx, hb, hml, hown, hts, hR, hK, hO, hA, hin⟩ := X
  intro H locs ls hP hD hS hl
  exact lv_icmp_ge hx hb hd ht (fun q => kt q H locs ls hP hD hS hl) (fun q => kf q H locs ls hP hD hS hl)
theorem k_goto {off : Int} {tgt : Nat} (X : CK z A own cc nL h mc ms) (hd : decode cc pc = .ok (.goto off, 3)) (ht : (pc : Int) + off = (tgt : Int)) (kk : KW z A ws k n tgt lv st) : KW z A ws k n pc lv st := by
  obtain ⟨⟨p, l, e, R, s, m, args, below, meth, c⟩, D, cy, Q⟩ := z
  obtain ⟨hx, hb, hml, hown, hts, hR, hK, hO, hA, hin⟩ := X
  intro H locs ls hP hD hS hl
  exact lv_goto hx hb hd ht (kk H locs ls hP hD hS hl)
theorem k_obj {i a : Nat} (X : CK z A own cc nL h mc ms) (hd : decode cc pc = .ok (.invokespecial i, 3)) (h1 : Cond.methodLink own i Lib.objectInit ∈ wsL_law0) (h2 : Cond.instanceMethod Lib.objectInit ∈ wsL_law0) (h3 : Cond.code Lib.objectInit ⟨#[0xb1]⟩ 1 none ∈ wsL_law0) (hh : 0 < h) (kk : KW z A ws k n (pc + 3) lv []) : KW z A ws k n pc lv [.ref a] := by
  obtain ⟨⟨p, l, e, R, s, m, args, below, meth, c⟩, D, cy, Q⟩ := z
  obtain ⟨hx, hb, hml, hown, hts, hR, hK, hO, hA, hin⟩ := X
  intro H locs ls hP hD hS hl
  refine W.objInit hx hb hown (hts _ h1) (hts _ h2) (hts _ h3) rfl hl.1 rfl hd (Nat.le_trans hh hR.1) (show 12 ≤ R.locals by omega) ?_
  exact kk H locs ls hP hD hS hl
theorem k_newa {a0 : vp_A} {at0 : ArrayType} {ty : FieldType} {kd N : Nat} {v : Int32} (X : CK z A own cc nL h mc ms) (hd : decode cc pc = .ok (.newarray at0, 2)) (hw : Cond.arrayClass (newarray.typeOf at0) ∈ wsL_law0) (hty : newarray.typeOf at0 = ty) (hT : ETL[kd - 12]? = some ty) (h12 : 12 ≤ kd) (hno : ∀ C, ty ≠ .object C) (ha : ∀ cA : ClassId, vp_cell cA a0 = arrV cA N (fun _ => defaultValue ty)) (hn : ¬ v < 0) (hN : v.toNatClampNeg = N) (hby : N * componentBytes ty ≤ 536870912) (hk : k + 1 ≤ mc) (hs : n + N ≤ ms) (kk : ∀ q : Nat, KW z A (ws ++ [(q, .inl (z.2.2.1 kd, a0))]) (k + 1) (n + N) (pc + 2) lv (.ref q :: st)) : KW z A ws k n pc lv (.int v :: st) := by
  obtain ⟨⟨p, l, e, R, s, m, args, below, meth, c⟩, D, cy, Q⟩ := z
  obtain ⟨hx, hb, hml, hown, hts, hR, hK, hO, hA, hin⟩ := X
  intro H locs ls hP hD hS hl
  refine va_newa hx hb (hts _ hw) hty hK hP hD hS hA ha hn hN hby (Nat.le_trans hk hR.2.2.1) (Nat.le_trans hs hR.2.2.2) hd (fun q cA H1 hK1 hP1 hD1 hS1 => ?_)
  have e1 := (hK1.2 (tysOf cy).length (cA, ty) (by simp)).2
  have e2 := (hK.2 (kd - 12) (cy kd, ty) (tys_at cy hT h12)).2
  have e3 : cA = cy kd := by
    cases ty <;> first | exact absurd rfl (hno _) | (have e1' : s.vm.findClass _ = some cA := e1; have e2' : s.vm.findClass _ = some (cy kd) := e2; exact Option.some.inj (e1'.symm.trans e2'))
  subst e3
  exact kk q H1 locs ls hP1 hD1 hS1 hl
theorem k_newq {C : String} {i kd N : Nat} {v : Int32} (X : CK z A own cc nL h mc ms) (hd : decode cc pc = .ok (.anewarray i, 3)) (hw : Cond.classLink own i C ∈ wsL_law0) (hov : ∀ U, AOs U → va_AO C U) (hT : ETL[kd - 12]? = some (.object C)) (h12 : 12 ≤ kd) (hn : ¬ v < 0) (hN : v.toNatClampNeg = N) (hby : N * 4 ≤ 536870912) (hk : k + 1 ≤ mc) (hs : n + N ≤ ms) (kk : ∀ q : Nat, KW z A (ws ++ [(q, .inl (z.2.2.1 kd, N, .inr (.inr (.inr (.inr (fun _ => none))))))]) (k + 1) (n + N) (pc + 3) lv (.ref q :: st)) : KW z A ws k n pc lv (.int v :: st) := by
  obtain ⟨⟨p, l, e, R, s, m, args, below, meth, c⟩, D, cy, Q⟩ := z
  obtain ⟨hx, hb, hml, hown, hts, hR, hK, hO, hA, hin⟩ := X
  intro H locs ls hP hD hS hl
  refine va_newq hx hb hown (hts _ hw) (hov _ hO) hK hP hD hS hA hn hN hby (Nat.le_trans hk hR.2.2.1) (Nat.le_trans hs hR.2.2.2) hd (fun q cA H1 hK1 hP1 hD1 hS1 => ?_)
  obtain ⟨kA, comp, a1, a2, a3, a4⟩ := (hK1.2 (tysOf cy).length (cA, .object C) (by simp)).2
  obtain ⟨kA', comp', b1, b2, b3, b4⟩ := (hK.2 (kd - 12) (cy kd, .object C) (tys_at cy hT h12)).2
  have e3 : cA = cy kd := Option.some.inj (a4.symm.trans b4)
  subst e3
  exact kk q H1 locs ls hP1 hD1 hS1 hl
/-- a number into the object at the world's head -/
theorem k_put {i c f a : Nat} {fs fs' : List Value} {v : Int32} {rest : va_W} {ty : FieldType} (X : CK z A own cc nL h mc ms) (hd : decode cc pc = .ok (.putfield i, 3)) (F : FP own i c f ty) (hn : narrow ty (.int v) = .int v) (hft : fits ty (.int v) = true) (hl0 : f < fs.length) (hs : fs.set f (.int v) = fs') (kk : KW z A ((a, .inr (c, fs')) :: rest) k n (pc + 3) lv st) : KW z A ((a, .inr (c, fs)) :: rest) k n pc lv (.int v :: .ref a :: st) := by
  subst hs
  obtain ⟨⟨p, l, e, R, s, m, args, below, meth, c0⟩, D, cy, Q⟩ := z
  obtain ⟨hx, hb, hml, hown, hts, hR, hK, hO, hA, hin⟩ := X
  intro H locs ls hP hD hS hl
  obtain ⟨C, T, N, ty0, ⟨h1, h2, h3, h4, h5, h6⟩, hk, hw, hfin, hty⟩ := F
  exact va_put hx hb hts h4 ty0 h5 h6 hown hK hP hD hS 0 rfl h1 f hk (hts _ hw) (fun _ q => q) hfin hty hn hft hl0 hd (fun H1 locs1 hP1 hD1 hS1 => kk H1 locs1 ls hP1 hD1 hS1 hl)
def FF (own : String) (i c k : Nat) (ty : FieldType) : Prop := ∃ (C : String) (T : u_T) (N : Nat) (ty0 : Nat → FieldType), CD c C T N ty0 ∧ k < N ∧ Cond.fieldLink own i (T k).1 (T k).2.1 (T k).2.2.1 ∈ wsL_law0 ∧ (T k).2.2.2 = true ∧ parseFieldDescriptor (T k).2.2.1 = some ty ∧ (T k).1 = own
/-- a reference into a final field of the object at the world's head -/
theorem k_putF {i c f a x : Nat} {fs fs' : List Value} {rest : va_W} {ty : FieldType} (X : CK z A own cc nL h mc ms) (hd : decode cc pc = .ok (.putfield i, 3)) (F : FF own i c f ty) (hn : narrow ty (.ref x) = .ref x) (hft : fits ty (.ref x) = true) (hl0 : f < fs.length) (hs : fs.set f (.ref x) = fs') (kk : KW z A ((a, .inr (c, fs')) :: rest) k n (pc + 3) lv st) : KW z A ((a, .inr (c, fs)) :: rest) k n pc lv (.ref x :: .ref a :: st) := by
  subst hs
  obtain ⟨⟨p, l, e, R, s, m, args, below, meth, c0⟩, D, cy, Q⟩ := z
  obtain ⟨hx, hb, hml, hown, hts, hR, hK, hO, hA, hin⟩ := X
  intro H locs ls hP hD hS hl
  obtain ⟨C, T, N, ty0, ⟨h1, h2, h3, h4, h5, h6⟩, hk, hw, hfin, hty, hdc⟩ := F
  exact va_putF hx hb hts h4 ty0 h5 h6 hown hK hP hD hS 0 rfl h1 f hk (hts _ hw) (fun _ q => q) hfin hin hdc hty hn hft hl0 hd (fun H1 locs1 hP1 hD1 hS1 => kk H1 locs1 ls hP1 hD1 hS1 hl)
theorem k_get {i c f a x : Nat} {fs : List Value} {rest : va_W} (X : CK z A own cc nL h mc ms) (hd : decode cc pc = .ok (.getfield i, 3)) (F : FK own i c f) (hv : fs[f]? = some (.ref x)) (kk : KW z A ((a, .inr (c, fs)) :: rest) k n (pc + 3) lv (.ref x :: st)) : KW z A ((a, .inr (c, fs)) :: rest) k n pc lv (.ref a :: st) := by
  obtain ⟨⟨p, l, e, R, s, m, args, below, meth, c0⟩, D, cy, Q⟩ := z
  obtain ⟨hx, hb, hml, hown, hts, hR, hK, hO, hA, hin⟩ := X
  intro H locs ls hP hD hS hl
  obtain ⟨C, T, N, ty0, ⟨h1, h2, h3, h4, h5, h6⟩, hk, hw⟩ := F
  exact va_get hx hb hts h4 hown hK hP 0 rfl h1 f hk (hts _ hw) (fun _ q => q) hv hd (kk H locs ls hP hD hS hl)
end KR
theorem joinL {A0 : Nat → Prop} {D : va_G} {cl : List vw_C} {ws wc w1 : va_W} {H H1 : Heap} (hP : va_P D cl (ws ++ wc) H) (hD : va_D A0 (ws ++ wc)) (hk : ∀ q : Nat, q < H.size → ¬ va_A wc H.size q → H1[q]? = H[q]?) (hF : ∀ q, va_A wc H.size q → A0 q) (hP1 : va_P D cl w1 H1) (hD1 : va_D (va_A wc H.size) w1) : va_P D cl (ws ++ w1) H1 ∧ va_D A0 (ws ++ w1) := by
  have hL : ∀ (k : Nat) (q : Nat × va_E), ws[k]? = some q → (ws ++ wc)[k]? = some q := fun k q h => by
    rw [List.getElem?_append_left (List.getElem?_eq_some_iff.mp h).1]; exact h
  have apart : ∀ (k : Nat) (q : Nat × va_E), ws[k]? = some q → q.1 < H.size ∧ ¬ va_A wc H.size q.1 := fun k q h => by
    have hl := (hP k q (hL k q h)).lt
    refine ⟨hl, fun ha => ?_⟩
    rcases ha with ⟨k2, e, h2⟩ | h2
    · have h3 : (ws ++ wc)[ws.length + k2]? = some (q.1, e) := by rw [List.getElem?_append_right (by omega)]; simpa using h2
      have h4 := hD.1 k (ws.length + k2) q (q.1, e) (hL k q h) h3 rfl
      have h5 := (List.getElem?_eq_some_iff.mp h).1
      omega
    · omega
  refine ⟨va_P.app (fun k q hq => ?_) hP1, va_D.app ⟨fun i j p q h1 h2 h3 => hD.1 i j p q (hL i p h1) (hL j q h2) h3, fun k q h => hD.2 k q (hL k q h)⟩ (hD1.weaken (fun k q _ h => hF q.1 h)) (fun i j x y hx hy hxy => ?_)⟩
  · obtain ⟨g1, g2⟩ := apart k q hq
    exact (hP k q (hL k q hq)).kept (hk q.1 g1 g2)
  · exact (apart i x hx).2 (by rw [hxy]; exact hD1.2 j y hy)
theorem sufP {D : va_G} {cl : List vw_C} {ws wc : va_W} {H : Heap} (hP : va_P D cl (ws ++ wc) H) : va_P D cl wc H := fun k q h => hP (ws.length + k) q (by rw [List.getElem?_append_right (by omega)]; simpa using h)
theorem sufD {A : Nat → Prop} {ws wc : va_W} (hD : va_D A (ws ++ wc)) : va_D A wc := by
  have hL : ∀ (k : Nat) (q : Nat × va_E), wc[k]? = some q → (ws ++ wc)[ws.length + k]? = some q := fun k q h => by rw [List.getElem?_append_right (by omega)]; simpa using h
  refine ⟨fun i j p q h1 h2 h3 => ?_, fun k q h => hD.2 _ q (hL k q h)⟩
  have := hD.1 _ _ p q (hL i p h1) (hL j q h2) h3
  omega
theorem va_P_setQ {D : va_G} {cl : List vw_C} {ws ws' : va_W} {H : Heap} (e : ws = ws') (h : va_P D cl ws H) : va_P D cl ws' H := e ▸ h
section KR2
variable {z : Kx} {A : Nat → Prop} {ws : va_W} {k n : Nat} {own : String} {cc : ByteArray} {nL h mc ms pc : Nat} {lv : List (Nat × Value)} {st : List Value}
theorem k_aast {a v kd ci N j pa pv : Nat} {C : String} {T : u_T} {NC : Nat} {f : Nat → Option Nat} {vs : List Value} {i : Int32} {ws' : va_W} (X : CK z A own cc nL h mc ms) (hd : decode cc pc = .ok (.aastore, 1)) (ha : ws[pa]? = some (a, .inl (z.2.2.1 kd, N, .inr (.inr (.inr (.inr f)))))) (hT : ETL[kd - 12]? = some (.object C)) (h12 : 12 ≤ kd) (hv : ws[pv]? = some (v, .inr (ci, vs))) (hc : vwCl[ci]? = some (C, T, NC)) (hj : i.toNatClampNeg = j) (hi : 0 ≤ i ∧ j < N) (hs : ws.set pa (a, .inl (z.2.2.1 kd, N, .inr (.inr (.inr (.inr (va_up f j (some v))))))) = ws') (kk : KW z A ws' k n (pc + 1) lv st) : KW z A ws k n pc lv (.ref v :: .int i :: .ref a :: st) := by
  subst hs; subst hj
  obtain ⟨⟨p, l, e, R, s, m, args, below, meth, c⟩, D, cy, Q⟩ := z
  obtain ⟨hx, hb, hml, hown, hts, hR, hK, hO, hA, hin⟩ := X
  intro H locs ls hP hD hS hl
  exact va_astq (r := (C, T, NC)) hx hb hK hP hD hS pa (kd - 12) pv ci ha (tys_at cy hT h12) hv hc (kin rfl hi) hd (fun H1 locs1 hP1 hD1 hS1 => kk H1 locs1 ls hP1 hD1 hS1 hl)
theorem blind_I {D : va_G} {cy : Nat → ClassId} {h0 sz : Nat} {w : va_W} : FrameBlind (va_Pc [.ref h0] (fun U => U.heap.size = sz ∧ va_P D vwCl w U.heap ∧ (va_K D vwCl (tysOf cy) U ∧ AOs U) ∧ va_D (fun _ => True) w)) := fun a U g mk q => by
  obtain ⟨q0, q1, q2, ⟨q3, q4⟩, q5⟩ := q
  exact ⟨q0, q1, q2, ⟨va_K.moved (u := U) (U := U.calling g mk a) (Vm.Alike.refl U.vm) q3, AOs.moved (u := U) (U := U.calling g mk a) (Vm.Alike.refl U.vm) q4⟩, q5⟩
/-- new; dup; invokespecial of a constructor without arguments -/
theorem k_init {i1 i2 ci N maxL h' mc' ms' : Nat} {C : String} {T : u_T} {ty0 : Nat → FieldType} {y : MethodName} {cyy : ByteArray} {fs0 : List Value} {W1 : (Nat → Nat) → va_W} (X : CK z A own cc nL h mc ms) (d1 : decode cc pc = .ok (.new i1, 3)) (d2 : decode cc (pc + 3) = .ok (.dup, 1)) (d3 : decode cc (pc + 3 + 1) = .ok (.invokespecial i2, 3)) (hcd : CD ci C T N ty0) (w1 : Cond.classLink own i1 C ∈ wsL_law0) (w2 : Cond.instantiable C N ∈ wsL_law0) (w3 : Cond.initialized C ∈ wsL_law0) (hfs : ∀ j, j < N → defaultValue (ty0 j) = vp_V fs0 j)
    (w4 : Cond.methodLink own i2 y ∈ wsL_law0) (w5 : Cond.instanceMethod y ∈ wsL_law0) (w6 : Cond.code y cyy maxL none ∈ wsL_law0) (hy : y.cls = C ∧ y.name = "<init>" ∧ maxL ≤ 41 ∧ y.cls ≠ "java/lang/invoke/MethodHandle" ∧ y.cls ≠ "java/lang/invoke/VarHandle" ∧ (parseMethodDescriptor y.desc).map (fun d => d.parameters.length) = some 0)
    (hM : ∀ (l : Launch) (D : va_G), OkI l y cyy maxL h' mc' ms' D z.2.2.1 ci fs0 W1) (hh : h' < h) (hk : k + 1 + mc' ≤ mc) (hs : n + N + ms' ≤ ms) (hst : (st.map fun v => v.category).sum ≤ 7) (kk : ∀ q : Nat → Nat, KW z A (ws ++ W1 q) (k + 1 + mc') (n + N + ms') (pc + 7) lv (.ref (q 0) :: st)) : KW z A ws k n pc lv st := by
  obtain ⟨⟨p, l, e, R, s, m, args, below, meth, c⟩, D, cy, Q⟩ := z
  obtain ⟨hx, hb, hml, hown, hts, hR, hK, hO, hA, hin⟩ := X
  intro H locs ls hP hD hS hl
  obtain ⟨h1, h2, h3, h4, h5, h6⟩ := hcd
  obtain ⟨y1, y2, y3, y4, y5, y6⟩ := hy
  refine va_new (ci := ci) (fs := fs0) hx hb hts h4 ty0 h5 hown (hts _ w1) (hts _ w2) (hts _ w3) hK hP hD hS hA h1 hfs (Nat.le_trans (by omega) hR.2.2.1) (Nat.le_trans (by omega) hR.2.2.2) d1 (fun q H1 hP1 hD1 hS1 => ?_)
  refine lv_dup hx hb d2 rfl ?_
  have hPc := sufP hP1
  have hDc := sufD hD1
  have hFc : ∀ x, va_A [(q, .inr (ci, fs0))] H1.size x → A x := fun x hx => by
    rcases hx with ⟨k0, e0, hk0⟩ | hx
    · have := hDc.2 k0 (x, e0) hk0; exact this
    · exact hA x (Nat.le_trans hS1.1 hx)
  refine va_callv (va_runI (As := []) (rest := .ref q :: st) (nL := c.maxLocals) ⟨hx, hb, rfl, hown, hts⟩ (hM l D q H1.size) ⟨callB_of 0 hts (good_w w6) rfl rfl rfl (by rw [y1]; exact hts _ w3) (hts _ w4) ⟨y4, y5, y6⟩ ⟨Nat.le_trans hh hR.1, by show 8 + (maxL + 11) + 60 * h' ≤ R.locals; omega⟩, y2, hts _ w5⟩ ⟨blind_I, fun U hU hW => ⟨rfl, by rw [hU], by rw [hU]; exact hPc, ⟨va_K.moved hW.alike hK, hO.moved hW.alike⟩, hDc.weaken (fun _ _ _ _ => trivial)⟩⟩ rfl rfl hl.1 rfl (show 0 + (1 + (st.map fun v => v.category).sum) ≤ 8 by omega) d3 ⟨Nat.le_trans hk hR.2.2.1, Nat.le_trans hs hR.2.2.2⟩) hS1 (fun x _ h => hFc x h) hFc (fun u t H2 locs2 ht hvm hw hB hz1 hk1 hS2 => ?_)
  obtain ⟨hP2, hD2⟩ := hB
  rw [ht] at hP2
  obtain ⟨hP3, hD3⟩ := joinL hP1 hD1 hk1 hFc hP2 hD2
  rw [← hw]
  exact kk u H2 locs2 ls hP3 hD3 hS2 hl
end KR2
/-- a constructor's contract out of its walk -/
theorem okI_of {l : Launch} {y : MethodName} {cc : ByteArray} {maxL h mc ms : Nat} {D : va_G} {cy : Nat → ClassId} {ci : Nat} {fs0 : List Value} {W1 : (Nat → Nat) → va_W} (hy : plainName y.cls = true) (hyn : y.name = "<init>") (hlen : 1 ≤ maxL)
    (body : ∀ (z : Kx) (A : Nat → Prop) (h0 : Nat), z.2.2.1 = cy → CK z A y.cls cc maxL h mc ms → (∀ (q : Nat → Nat) (pc : Nat) (lv : List (Nat × Value)), decode cc pc = .ok (.return_, 1) → q 0 = h0 → KW z A (W1 q) mc ms pc lv []) → KW z A [(h0, .inr (ci, fs0))] 0 0 0 [(0, .ref h0)] []) : OkI l y cc maxL h mc ms D cy ci fs0 W1 := by
  intro h0 sz
  refine Met.ofW (cc := cc) (maxL := maxL) (ret := none) hy rfl ?_
  intro p e s m args below meth c s₁ B hml hv
  obtain ⟨rfl, hsz, hP, ⟨hK, hO⟩, hD0⟩ := hv
  have hts := atoms_spec (ws := .code y cc maxL none :: wsL_law0) B.pre
  have hown : s.vm.findClass y.cls = some m.cls := findClass_of_methodNamed B.named
  have hin : meth.name = "<init>" := by rw [← hyn]; exact (name_of_methodNamed B.named B.method).1
  subst hsz
  have hD := hD0.self (sz := s.heap.size)
  have hl := lv_entry [.ref h0] (n := maxL) hlen
  rw [lg_entry_eq]
  refine body ((p, l, e, (headSpec (Cond.code y cc maxL none :: wsL_law0) (rmI h mc ms)).room, s, m, ([.ref h0] : List Value).toArray, below, meth, c), D, cy, _) (va_A [(h0, .inr (ci, fs0))] s.heap.size) h0 rfl ⟨B.exec, B.bytes, hml, hown, fun w hw => hts w (List.mem_cons_of_mem _ hw), ⟨Nat.le_refl _, Nat.le_refl _, Nat.le_refl _, Nat.le_refl _⟩, hK, hO, fun q hq => Or.inr hq, hin⟩ ?_ s.heap [] _ hP hD va_S.rf (by rw [hml]; exact hl)
  intro q pc lv hd hq H locs ls hP1 hD1 hS1 hl1
  exact W.vret B.exec B.bytes B.returns (fun t ht hW => ⟨⟨q, rfl, hq, by rw [ht]; exact hP1, hD1⟩, hS1.F ht⟩) hS1.2.2 hd B.notSynchronized
-- worlds in another order
theorem vaP_mem {D : va_G} {cl : List vw_C} {ws : va_W} {H : Heap} : va_P D cl ws H ↔ ∀ q ∈ ws, va_at D cl q H := by
  constructor
  · intro h q hq
    obtain ⟨i, hi⟩ := List.getElem?_of_mem hq
    exact h i q hi
  · intro h k q hq
    exact h q (List.mem_of_getElem? hq)
theorem vaD_nd {A : Nat → Prop} {ws : va_W} : va_D A ws ↔ (ws.map Prod.fst).Nodup ∧ ∀ q ∈ ws, A q.1 := by
  constructor
  · intro h
    refine ⟨?_, fun q hq => ?_⟩
    · rw [List.Nodup, List.pairwise_map, List.pairwise_iff_getElem]
      intro i j hi hj hij he
      have := h.1 i j ws[i] ws[j] (List.getElem?_eq_getElem hi) (List.getElem?_eq_getElem hj) he
      omega
    · obtain ⟨i, hi⟩ := List.getElem?_of_mem hq
      exact h.2 i q hi
  · rintro ⟨h1, h2⟩
    refine ⟨fun i j p q hp hq he => ?_, fun k q hq => h2 q (List.mem_of_getElem? hq)⟩
    rw [List.Nodup, List.pairwise_map, List.pairwise_iff_getElem] at h1
    obtain ⟨hi, rfl⟩ := List.getElem?_eq_some_iff.mp hp
    obtain ⟨hj, rfl⟩ := List.getElem?_eq_some_iff.mp hq
    rcases Nat.lt_trichotomy i j with c | c | c
    · exact absurd he (h1 i j hi hj c)
    · exact c
    · exact absurd he.symm (h1 j i hj hi c)
theorem vaP_perm {D : va_G} {cl : List vw_C} {ws ws' : va_W} {H : Heap} (hp : ws.Perm ws') (h : va_P D cl ws H) : va_P D cl ws' H := vaP_mem.mpr fun q hq => vaP_mem.mp h q (hp.mem_iff.mpr hq)
theorem vaD_perm {A : Nat → Prop} {ws ws' : va_W} (hp : ws.Perm ws') (h : va_D A ws) : va_D A ws' := by
  obtain ⟨h1, h2⟩ := vaD_nd.mp h
  exact vaD_nd.mpr ⟨(hp.map _).nodup_iff.mp h1, fun q hq => h2 q (hp.mem_iff.mpr hq)⟩
section KR3
variable {z : Kx} {A : Nat → Prop} {ws : va_W} {k n : Nat} {own : String} {cc : ByteArray} {nL h mc ms pc : Nat} {lv : List (Nat × Value)} {st : List Value}
theorem k_perm {ws' : va_W} (hp : ws.Perm ws') (kk : KW z A ws' k n pc lv st) : KW z A ws k n pc lv st := by
  obtain ⟨⟨p, l, e, R, s, m, args, below, meth, c⟩, D, cy, Q⟩ := z
  intro H locs ls hP hD hS hl
  exact kk H locs ls (vaP_perm hp hP) (vaD_perm hp hD) hS hl
theorem k_swap {x y : Nat × va_E} {T : va_W} (kk : KW z A (x :: y :: T) k n pc lv st) : KW z A ((x :: T) ++ [y]) k n pc lv st :=
  k_perm ((List.perm_append_comm (l₁ := x :: T) (l₂ := [y])).trans (List.Perm.swap x y T)) kk
theorem k_aastE {a v kd ci N j : Nat} {C : String} {T : u_T} {NC : Nat} {f : Nat → Option Nat} {vs : List Value} {i : Int32} {x : Nat × va_E} {R M : va_W} (X : CK z A own cc nL h mc ms) (hd : decode cc pc = .ok (.aastore, 1)) (hT : ETL[kd - 12]? = some (.object C)) (h12 : 12 ≤ kd) (hc : vwCl[ci]? = some (C, T, NC)) (hj : i.toNatClampNeg = j) (hi : 0 ≤ i ∧ j < N) (kk : KW z A (x :: (a, .inl (z.2.2.1 kd, N, .inr (.inr (.inr (.inr (va_up f j (some v))))))) :: (R ++ ((v, .inr (ci, vs)) :: M))) k n (pc + 1) lv st) : KW z A ((x :: (a, .inl (z.2.2.1 kd, N, .inr (.inr (.inr (.inr f))))) :: R) ++ ((v, .inr (ci, vs)) :: M)) k n pc lv (.ref v :: .int i :: .ref a :: st) :=
  k_aast (pa := 1) (pv := (x :: (a, (.inl (z.2.2.1 kd, N, .inr (.inr (.inr (.inr f)))) : va_E)) :: R).length) (ci := ci) (C := C) (vs := vs) X hd rfl hT h12 (by rw [List.getElem?_append_right (Nat.le_refl _)]; simp) hc hj hi rfl kk
theorem k_consT {x : Nat × va_E} {T W : va_W} (kk : KW z A (x :: (T ++ W)) k n pc lv st) : KW z A ((x :: T) ++ W) k n pc lv st := kk
theorem k_aastH {a v kd ci N j : Nat} {C : String} {T : u_T} {NC : Nat} {f : Nat → Option Nat} {vs : List Value} {i : Int32} {x : Nat × va_E} {R W M : va_W} (X : CK z A own cc nL h mc ms) (hd : decode cc pc = .ok (.aastore, 1)) (hW : W = (v, .inr (ci, vs)) :: M) (hT : ETL[kd - 12]? = some (.object C)) (h12 : 12 ≤ kd) (hc : vwCl[ci]? = some (C, T, NC)) (hj : i.toNatClampNeg = j) (hi : 0 ≤ i ∧ j < N) (kk : KW z A (x :: ((a, .inl (z.2.2.1 kd, N, .inr (.inr (.inr (.inr (va_up f j (some v))))))) :: (R ++ W))) k n (pc + 1) lv st) : KW z A (x :: (((a, .inl (z.2.2.1 kd, N, .inr (.inr (.inr (.inr f))))) :: R) ++ W)) k n pc lv (.ref v :: .int i :: .ref a :: st) := by
  subst hW
  exact k_aastE X hd hT h12 hc hj hi kk
end KR3
