-- the law's helpers, which catch what is thrown
def Au (ad : Nat → Nat) (u : Nat) : Nat → Prop := fun q => InA ad q ∨ q = u
def OutW (D : va_G) (cy : Nat → ClassId) (u : Nat) (w : Nat → Int64) (H : Heap) : Prop := va_P D vwCl [(u, .inl (cy 32, 1, .inr (.inl w)))] H
def OutE (D : va_G) (cy : Nat → ClassId) (u : Nat) (H : Heap) : Prop := ∃ w, OutW D cy u w H
def OutK (D : va_G) (cy : Nat → ClassId) (u : Nat) (kk : Int32) (v : Int64) (H : Heap) : Prop := ∃ w, OutW D cy u w H ∧ (kk = 0 → w 0 = v)
theorem OutW.kept {D : va_G} {cy : Nat → ClassId} {u : Nat} {w : Nat → Int64} {H H1 : Heap} (h : OutW D cy u w H) (hq : H1[u]? = H[u]?) : OutW D cy u w H1 := va_P.kept h (fun k q hk => by
  rcases k with _ | k
  · cases hk; exact hq
  · cases hk)
theorem OutW.lt {D : va_G} {cy : Nat → ClassId} {u : Nat} {w : Nat → Int64} {H : Heap} (h : OutW D cy u w H) : u < H.size := (h 0 _ rfl).lt
def LPc (ad : Nat → Nat) (D : va_G) (cy : Nat → ClassId) (u : Nat) (x1 x2 : Int32) (S : St) : Array Value → State → Prop := va_Pc [.ref (ad 0), .int x1, .int x2, .ref u] (fun U => va_P D vwCl (pw ad cy S) U.heap ∧ va_K D vwCl (tysOf cy) U ∧ Ex ad (Au ad u) U ∧ OutE D cy u U.heap)
theorem blind_L {ad : Nat → Nat} {D : va_G} {cy : Nat → ClassId} {u : Nat} {x1 x2 : Int32} {S : St} : FrameBlind (LPc ad D cy u x1 x2 S) := fun a U g mk q => by
  obtain ⟨q0, q1, q2, q3, q4⟩ := q
  exact ⟨q0, q1, va_K.moved (u := U) (U := U.calling g mk a) (Vm.Alike.refl U.vm) q2, q3, q4⟩
def LQc (ad : Nat → Nat) (D : va_G) (cy : Nat → ClassId) (u : Nat) (S : St) (kk : Int32) (v : Int64) : Array Value → State → Outcome → State → Prop := va_Qi (fun r (_ : Unit) => r = kk) (fun _ t => va_P D vwCl (pw ad cy S) t.heap ∧ OutK D cy u kk v t.heap) (Au ad u)
def LXc (ad : Nat → Nat) (u : Nat) : String → State → State → Prop := vx_X (fun _ : Unit => False) (fun _ _ _ => False) (Au ad u)
def OkL (l : Launch) (y : MethodName) (cc : ByteArray) (ad : Nat → Nat) (D : va_G) (cy : Nat → ClassId) (u : Nat) (x1 x2 : Int32) (S : St) (kk : Int32) (v : Int64) : Prop :=
  vx_Met l y (.codeWith y cc 5 (some .int) [(0, 10, 13, 13)] :: wsL_law0) (rmX 1100) (LPc ad D cy u x1 x2 S) (LQc ad D cy u S kk v) (LXc ad u) 1 6 (Au ad u)
/-- the helper's code -/
def DL (cc : ByteArray) (i : Nat) : Prop := decode cc 0 = .ok (.aload_n 3, 1) ∧ decode cc 1 = .ok (.iconst 0, 1) ∧ decode cc 2 = .ok (.aload_n 0, 1) ∧ decode cc 3 = .ok (.iload_n 1, 1) ∧ decode cc 4 = .ok (.iload_n 2, 1) ∧ decode cc 5 = .ok (.invokevirtual i, 3) ∧ decode cc 8 = .ok (.i2l, 1) ∧ decode cc 9 = .ok (.lastore, 1) ∧ decode cc 10 = .ok (.goto 7, 3) ∧ decode cc 13 = .ok (.astore 4, 2) ∧ decode cc 15 = .ok (.iconst 1, 1) ∧ decode cc 16 = .ok (.ireturn, 1) ∧ decode cc 17 = .ok (.iconst 0, 1) ∧ decode cc 18 = .ok (.ireturn, 1)
theorem dl_parish : DL cL_parish 7 := ⟨by decide +kernel, by decide +kernel, by decide +kernel, by decide +kernel, by decide +kernel, by decide +kernel, by decide +kernel, by decide +kernel, by decide +kernel, by decide +kernel, by decide +kernel, by decide +kernel, by decide +kernel, by decide +kernel⟩
theorem dl_drift : DL cL_drift 15 := ⟨by decide +kernel, by decide +kernel, by decide +kernel, by decide +kernel, by decide +kernel, by decide +kernel, by decide +kernel, by decide +kernel, by decide +kernel, by decide +kernel, by decide +kernel, by decide +kernel, by decide +kernel, by decide +kernel⟩
theorem mlL_7 : MLv RL 7 RX10 10 yX10_parish cX10_parish 5 (some .int) 2 := ⟨(inr_21 _ (List.mem_of_getElem? (i := 14) rfl)), (inr_21 _ (List.mem_of_getElem? (i := 11) rfl)), (inr_21 _ (List.mem_of_getElem? (i := 12) rfl)), (inr_21 _ (List.mem_of_getElem? (i := 13) rfl)), (inr_1 _ (List.mem_of_getElem? (i := 2) rfl)), rfl, ⟨by decide, by decide, by decide +kernel⟩, by decide, by decide, rfl⟩
theorem mlL_15 : MLv RL 15 RX10 10 yX10_drift cX10_drift 3 (some .int) 2 := ⟨(inr_37 _ (List.mem_of_getElem? (i := 11) rfl)), (inr_37 _ (List.mem_of_getElem? (i := 8) rfl)), (inr_37 _ (List.mem_of_getElem? (i := 9) rfl)), (inr_37 _ (List.mem_of_getElem? (i := 10) rfl)), (inr_1 _ (List.mem_of_getElem? (i := 2) rfl)), rfl, ⟨by decide, by decide, by decide +kernel⟩, by decide, by decide, rfl⟩
theorem outE_st {ad : Nat → Nat} {D : va_G} {cy : Nat → ClassId} {u : Nat} (hu : ¬ InA ad u) : ∀ H H' : Heap, H.size ≤ H'.size → (∀ q : Nat, q < H.size → ¬ InA ad q → H'[q]? = H[q]?) → OutE D cy u H → OutE D cy u H' := fun _ _ _ hq ⟨w, hw⟩ => ⟨w, hw.kept (hq u hw.lt hu)⟩
theorem outK_st {ad : Nat → Nat} {D : va_G} {cy : Nat → ClassId} {u : Nat} {kk : Int32} {v : Int64} (hu : ¬ InA ad u) : ∀ H H' : Heap, H.size ≤ H'.size → (∀ q : Nat, q < H.size → ¬ InA ad q → H'[q]? = H[q]?) → OutK D cy u kk v H → OutK D cy u kk v H' := fun _ _ _ hq ⟨w, hw, h⟩ => ⟨w, hw.kept (hq u hw.lt hu), h⟩
theorem outD {ad : Nat → Nat} {cy : Nat → ClassId} {u : Nat} {w : Nat → Int64} {S : St} {A : Nat → Prop} (hI : Inj ad) (hu : ¬ InA ad u) (hA : ∀ q, InA ad q → A q) (hAu : A u) : va_D A ([(u, .inl (cy 32, 1, .inr (.inl w)))] ++ pw ad cy S) := by
  have hD := pw_D (cy := cy) (S := S) hI
  refine va_D.app ⟨fun i j p q h1 h2 _ => ?_, fun k q h => ?_⟩ (pw_DA hD hA) (fun i j p q h1 h2 e => ?_)
  · rcases i with _ | i
    · rcases j with _ | j
      · rfl
      · cases h2
    · cases h1
  · rcases k with _ | k
    · cases h; exact hAu
    · cases h
  · rcases i with _ | i
    · cases h1
      exact hu (by have := hD.2 j q h2; rw [show q.1 = u from e.symm] at this; exact this)
    · cases h1
abbrev zLp (p : Program) (l : Launch) (e : Env) (y : MethodName) (cc : ByteArray) (s : State) (m : MethodId) (below : List Frame) (meth : Method) (c : Code) (D : va_G) (cy : Nat → ClassId) (ad : Nat → Nat) (u : Nat) (x1 x2 : Int32) (S : St) (kk : Int32) (v : Int64) (k n : Nat) (G : Heap → Prop) : Mx := ((p, l, e, (headSpec (Cond.codeWith y cc 5 (some .int) [(0, 10, 13, 13)] :: wsL_law0) (rmX 1100)).room, s, m, ([.ref (ad 0), .int x1, .int x2, .ref u] : List Value).toArray, below, meth, c), D, cy, (fun _ => vx_MQ below (LQc ad D cy u S kk v) (LXc ad u) ([.ref (ad 0), .int x1, .int x2, .ref u] : List Value).toArray s 1 6 (Au ad u)), k, n, G, Au ad u)
set_option maxHeartbeats 1000000 in
theorem okL_thr {l : Launch} {y : MethodName} {cc : ByteArray} {ad : Nat → Nat} {D : va_G} {cy : Nat → ClassId} {u i maxL : Nat} {yy : MethodName} {cyy : ByteArray} {x1 x2 : Int32} {S : St} {v : Int64} (hI : Inj ad) (hu : ¬ InA ad u) (hy : plainName y.cls = true) (hyc : y.cls = RL) (dl : DL cc i) (F : MLv RL i RX10 10 yy cyy maxL (some .int) 2) (hM : OkX l yy cyy maxL (some .int) ad D cy [.ref (ad 0), .int x1, .int x2] S) : OkL l y cc ad D cy u x1 x2 S 1 v := by
  obtain ⟨d0, d1, d2, d3, d4, d5, d8, d9, d10, d13, d15, d16, d17, d18⟩ := dl
  refine vx_ofWH (cc := cc) (maxL := 5) (ret := some .int) (hh := [(0, 10, 13, 13)]) hy rfl ?_
  intro p e s m args below meth c s₁ B hml hv
  obtain ⟨rfl, hP, hK, hE, hO⟩ := hv
  have hts := atoms_spec (ws := .codeWith y cc 5 (some .int) [(0, 10, 13, 13)] :: wsL_law0) B.pre
  have htb : c.exceptionTable.toList = tableOf [(0, 10, 13, 13)] := vx_table (x := y) B (hts _ List.mem_cons_self)
  have hts' : ∀ w ∈ wsL_law0, w.before _ s = true := fun w hw => hts w (List.mem_cons_of_mem _ hw)
  have hown : s.vm.findClass RL = some m.cls := by rw [← hyc]; exact findClass_of_methodNamed B.named
  have hl := lv_entry [.ref (ad 0), .int x1, .int x2, .ref u] (n := 5) (by show _ ≤ 5; exact Nat.le_of_ble_eq_true rfl)
  have hin : ∀ q, InA ad q → Au ad u q := fun q h => Or.inl h
  have h0 : KT 0 = 10 := by decide +kernel
  rw [lg_entry_eq]
  have X : ∀ k n, k ≤ 1 → n ≤ 6 → CxOk (zLp p l e y cc s m below meth c D cy ad u x1 x2 S 1 v k n (OutE D cy u)) ad RL cc 5 (some .int) 1100 := fun k n hk hn => ⟨B.exec, B.bytes, hml, hown, hts', B.returns, B.notSynchronized, ⟨Nat.le_refl _, Nat.le_refl _, hk, hn⟩, hK, hE, hI, ⟨outE_st hu, fun h => absurd h (Nat.lt_irrefl _)⟩, fun h => absurd h (by decide), hin⟩
  have X0 := X 0 0 (Nat.zero_le _) (Nat.zero_le _)
  have X1 := X 1 6 (Nat.le_refl _) (Nat.le_refl _)
  refine (show GW (zLp p l e y cc s m below meth c D cy ad u x1 x2 S 1 v 0 0 (OutE D cy u)) ad (none, S) S 0 [(0, .ref (ad 0)), (1, .int x1), (2, .int x2), (3, .ref u)] [] from ?_) s.heap [] _ hP va_S.rf hO (by rw [hml]; exact hl)
  refine g_aload_n X0 d0 3 rfl rfl ?_
  refine g_iconst (v := 0) X0 d1 (by decide) ?_
  refine g_aload_n X0 d2 0 rfl rfl ?_
  refine g_iload_n X0 d3 1 rfl rfl ?_
  refine g_iload_n X0 d4 2 rfl rfl ?_
  intro H locs ls hP1 hS1 hO1 hl1
  obtain ⟨f1, f2, f3, f4, f5, f6, f7, f8, f9, f10⟩ := F
  have hrecv := va_recv hK hP1 (ci := 10) (q := vwCl[10]) rfl (pw_obj h0 (by decide))
  have hrun := vx_runV (locs := locs) (g := F0 m 5 ls ([.int x1, .int x2].reverse ++ .ref (ad 0) :: [.int 0, .ref u])) (cells := 0) (slots := 0) (below := below) (meth := meth) (e := e) (R := (headSpec (Cond.codeWith y cc 5 (some .int) [(0, 10, 13, 13)] :: wsL_law0) (rmX 1100)).room) (C := RX10) (rest := [.int 0, .ref u]) (As := [.int x1, .int x2]) (b := ad 0) (nL := c.maxLocals) ⟨B.exec, B.bytes, rfl, hown, hts'⟩ hM ⟨callB_of 2 hts' (good_w f1) rfl rfl rfl (by rw [f6]; exact hts' _ f5) (hts' _ f2) f7 ⟨by show 1000 + 1 ≤ 1100; decide, by show 8 + (maxL + 11) + 60 * 1000 ≤ 60 * 1100; omega⟩, hts' _ f3, hts' _ f4⟩ ⟨blind_pool, hrecv, fun U hU hW => ⟨rfl, by rw [hU]; exact hP1, va_K.moved hW.alike hK, (hE.next hS1 hU hW).sub hin⟩⟩ rfl rfl hl1.1 rfl (Nat.le_of_ble_eq_true rfl) d5 ⟨Nat.le_refl _, Nat.le_refl _⟩
  refine vx_calli hrun hS1 (fun q _ h => hin q h) hin (fun q _ h => hin q h) ?_ (fun r u t H1 locs1 _ _ hpost => hpost.elim)
  intro E ce q9 _ t H1 locs1 ht1 hal _ hB hz hq hS2 hce hcv hcl
  obtain ⟨rfl, hP2⟩ := hB
  rw [ht1] at hP2
  obtain ⟨w, hw⟩ := hO1
  refine vx_catch (name := "java/util/NoSuchElementException") hown [] ⟨0, 10, 13, 13⟩ [] (by rw [htb]; rfl) (fun z hz => nomatch hz) (by decide) (by decide) (ex_g hE _ xw_k.2.2.2.2.2 (by decide +kernel)) (ex_x hE _ _ xw_c) hce hcv hcl ?_
  refine (show GW (zLp p l e y cc s m below meth c D cy ad u x1 x2 S 1 v 1 6 (OutE D cy u)) ad (none, S) S 13 [(0, .ref (ad 0)), (1, .int x1), (2, .int x2), (3, .ref u)] [.ref q9] from ?_) H1 locs1 ls hP2 hS2 ⟨w, hw.kept (hq u hw.lt hu)⟩ hl1
  refine g_astore X1 d13 (by decide) (lv' := [(4, .ref q9), (0, .ref (ad 0)), (1, .int x1), (2, .int x2), (3, .ref u)]) rfl ?_
  refine g_iconst (v := 1) X1 d15 (by decide) ?_
  intro H locs ls hP hS hF hl
  obtain ⟨w, hw⟩ := hF
  exact vx_ret (W.iret (v := 1) B.exec B.bytes B.returns (fun t ht hW => ⟨⟨1, (), rfl, rfl, by rw [ht]; exact hP, w, by rw [ht]; exact hw, fun h => absurd h (by decide)⟩, hS.F ht⟩) hS.2.2 d16 B.notSynchronized)
set_option maxHeartbeats 1000000 in
theorem okL_ret {l : Launch} {y : MethodName} {cc : ByteArray} {ad : Nat → Nat} {D : va_G} {cy : Nat → ClassId} {u i maxL h' : Nat} {yy : MethodName} {cyy : ByteArray} {x1 x2 r : Int32} {S : St} (hI : Inj ad) (hu : ¬ InA ad u) (hy : plainName y.cls = true) (hyc : y.cls = RL) (dl : DL cc i) (F : MLv RL i RX10 10 yy cyy maxL (some .int) 2) (hh : h' < 1100) (hM : ∀ (l : Launch) (D : va_G) (cy : Nat → ClassId), OkM l yy cyy maxL (some .int) h' ad D cy [.ref (ad 0), .int x1, .int x2] S (some (.int r), S)) : OkL l y cc ad D cy u x1 x2 S 0 r.toInt64 := by
  obtain ⟨d0, d1, d2, d3, d4, d5, d8, d9, d10, d13, d15, d16, d17, d18⟩ := dl
  refine vx_ofWH (cc := cc) (maxL := 5) (ret := some .int) (hh := [(0, 10, 13, 13)]) hy rfl ?_
  intro p e s m args below meth c s₁ B hml hv
  obtain ⟨rfl, hP, hK, hE, hO⟩ := hv
  have hts := atoms_spec (ws := .codeWith y cc 5 (some .int) [(0, 10, 13, 13)] :: wsL_law0) B.pre
  have hts' : ∀ w ∈ wsL_law0, w.before _ s = true := fun w hw => hts w (List.mem_cons_of_mem _ hw)
  have hown : s.vm.findClass RL = some m.cls := by rw [← hyc]; exact findClass_of_methodNamed B.named
  have hl := lv_entry [.ref (ad 0), .int x1, .int x2, .ref u] (n := 5) (by show _ ≤ 5; exact Nat.le_of_ble_eq_true rfl)
  have hin : ∀ q, InA ad q → Au ad u q := fun q h => Or.inl h
  have h0 : KT 0 = 10 := by decide +kernel
  rw [lg_entry_eq]
  have X : ∀ G : Heap → Prop, (∀ H H' : Heap, H.size ≤ H'.size → (∀ q : Nat, q < H.size → ¬ InA ad q → H'[q]? = H[q]?) → G H → G H') → CxOk (zLp p l e y cc s m below meth c D cy ad u x1 x2 S 0 r.toInt64 0 0 G) ad RL cc 5 (some .int) 1100 := fun G hG => ⟨B.exec, B.bytes, hml, hown, hts', B.returns, B.notSynchronized, ⟨Nat.le_refl _, Nat.le_refl _, Nat.zero_le _, Nat.zero_le _⟩, hK, hE, hI, ⟨hG, fun h => absurd h (Nat.lt_irrefl _)⟩, fun h => absurd h (by decide), hin⟩
  have X0 := X (OutE D cy u) (outE_st hu)
  have X1 := X (OutK D cy u 0 r.toInt64) (outK_st hu)
  refine (show GW (zLp p l e y cc s m below meth c D cy ad u x1 x2 S 0 r.toInt64 0 0 (OutE D cy u)) ad (none, S) S 0 [(0, .ref (ad 0)), (1, .int x1), (2, .int x2), (3, .ref u)] [] from ?_) s.heap [] _ hP va_S.rf hO (by rw [hml]; exact hl)
  refine g_aload_n X0 d0 3 rfl rfl ?_
  refine g_iconst (v := 0) X0 d1 (by decide) ?_
  refine g_aload_n X0 d2 0 rfl rfl ?_
  refine g_iload_n X0 d3 1 rfl rfl ?_
  refine g_iload_n X0 d4 2 rfl rfl ?_
  refine g_callVi (As := [.int x1, .int x2]) (v := r) (S' := S) X0 d5 F hM h0 hh rfl rfl (Nat.le_of_ble_eq_true rfl) ?_
  refine g_i2l X0 d8 ?_
  intro H locs ls hP1 hS1 hO1 hl1
  obtain ⟨w, hw⟩ := hO1
  refine va_last (ws := [(u, .inl (cy 32, 1, .inr (.inl w)))] ++ pw ad cy S) B.exec B.bytes hK (hw.app hP1) (outD hI hu hin (Or.inr rfl)) hS1 0 20 (n := 1) (f := w) rfl (tys_at cy (kd := 32) rfl (by decide)) (show vp_in 0 1 from by unfold vp_in; decide) d9 ?_
  intro H1 locs1 hP2 _ hS2
  have hP3 : va_P D vwCl (pw ad cy S) H1 := va_P.by hP2 (fun k => k + 1) (fun k q hk => hk)
  have hO3 : OutW D cy u (vp_updL w (0 : Int32).toNatClampNeg r.toInt64) H1 := va_P.by hP2 (fun k => k) (fun k q hk => by
    rcases k with _ | k
    · exact hk
    · cases hk)
  refine (show GW (zLp p l e y cc s m below meth c D cy ad u x1 x2 S 0 r.toInt64 0 0 (OutK D cy u 0 r.toInt64)) ad (none, S) S 10 [(0, .ref (ad 0)), (1, .int x1), (2, .int x2), (3, .ref u)] [] from ?_) H1 locs1 ls hP3 hS2 ⟨_, hO3, fun _ => rfl⟩ hl1
  refine g_goto (tgt := 17) X1 d10 (by decide) ?_
  refine g_iconst (v := 0) X1 d17 (by decide) ?_
  intro H locs ls hP hS hF hl
  exact W.widen (k := 1) (n := 6) (Nat.zero_le _) (Nat.zero_le _) (vx_ret (W.iret (v := 0) B.exec B.bytes B.returns (fun t ht hW => ⟨⟨0, (), rfl, rfl, by rw [ht]; exact hP, by rw [ht]; exact hF⟩, hS.F ht⟩) hS.2.2 d18 B.notSynchronized))
