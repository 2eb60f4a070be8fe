-- the law's cases 4 and 17, and its loop
abbrev zW (p : Program) (l : Launch) (e : Env) (s : State) (m : MethodId) (b : Nat) (below : List Frame) (meth : Method) (c : Code) (D : va_G) (cy : Nat → ClassId) (Qz : State → Prop) (k n : Nat) (F : Heap → Prop) : Mx := ((p, l, e, room_1, s, m, #[Value.ref b], below, meth, c), D, cy, (fun _ => Qz), k, n, F, (fun q => s.heap.size ≤ q))
section LW
variable {p : Program} {l : Launch} {e : Env} {s : State} {m : MethodId} {b : Nat} {below : List Frame} {meth : Method} {c : Code} {D : va_G} {cy : Nat → ClassId} {Qz : State → Prop} {ad : Nat → Nat} {o : Option Value × St} {u : Nat}
theorem GW_F {k n pc : Nat} {F F' : Heap → Prop} {S : St} {lv : List (Nat × Value)} {st : List Value} (h : ∀ H, F' H → F H) (g : GW (zW p l e s m b below meth c D cy Qz k n F) ad o S pc lv st) : GW (zW p l e s m b below meth c D cy Qz k n F') ad o S pc lv st := fun H locs ls a1 a2 a3 a4 => g H locs ls a1 a2 (h H a3) a4
theorem GW_w {k n k' n' pc : Nat} {F : Heap → Prop} {S : St} {lv : List (Nat × Value)} {st : List Value} (h1 : k ≤ k') (h2 : n ≤ n') (g : GW (zW p l e s m b below meth c D cy Qz k' n' F) ad o S pc lv st) : GW (zW p l e s m b below meth c D cy Qz k n F) ad o S pc lv st := fun H locs ls a1 a2 a3 a4 => W.widen h1 h2 (g H locs ls a1 a2 a3 a4)
/-- what holds in the law's frame, whatever it has used -/
def LX (p : Program) (l : Launch) (e : Env) (s : State) (m : MethodId) (b : Nat) (below : List Frame) (meth : Method) (c : Code) (D : va_G) (cy : Nat → ClassId) (Qz : State → Prop) (ad : Nat → Nat) : Prop := ∀ (k n : Nat) (F : Heap → Prop), k ≤ 600128 → n ≤ 7301098 → (∀ H H' : Heap, H.size ≤ H'.size → (∀ q : Nat, q < H.size → ¬ InA ad q → H'[q]? = H[q]?) → F H → F H') → CxOk (zW p l e s m b below meth c D cy Qz k n F) ad RL cL_law 7 (some .boolean) 1200
theorem g_callL {k n pc i : Nat} {y : MethodName} {cc : ByteArray} {x1 x2 kk : Int32} {v : Int64} {S : St} {lv : List (Nat × Value)} (X : LX p l e s m b below meth c D cy Qz ad) (hk : k + 1 ≤ 600128) (hn : n + 6 ≤ 7301098) (hu : ¬ InA ad u) (hAu : s.heap.size ≤ u) (hd : decode cL_law pc = .ok (.invokestatic i, 3)) (hyc : y.cls = RL) (w1 : Cond.methodLink RL i y ∈ wsL_law0) (w2 : Cond.static y ∈ wsL_law0) (w3 : Cond.codeWith y cc 5 (some .int) [(0, 10, 13, 13)] ∈ wsL_law0) (w4 : (parseMethodDescriptor y.desc).map (fun d => d.parameters.length) = some 4) (hM : OkL l y cc ad D cy u x1 x2 S kk v) (go : GW (zW p l e s m b below meth c D cy Qz (k + 1) (n + 6) (OutK D cy u kk v)) ad o S (pc + 3) lv [.int kk]) : GW (zW p l e s m b below meth c D cy Qz k n (OutE D cy u)) ad o S pc lv [.ref u, .int x2, .int x1, .ref (ad 0)] := by
  obtain ⟨hx, hb, hml, hown, hts, hr, hlk, hR, hK, hE, hI, hFr, hQ, hA⟩ := X k n (OutE D cy u) (by omega) (by omega) (outE_st hu)
  intro H locs ls hP hS hF hl
  have hAA : ∀ q, Au ad u q → s.heap.size ≤ q := fun q h => h.elim (hA q) (fun h => by rw [h]; exact hAu)
  have good : ∀ w ∈ wsL_law0, ∀ (a' : Array Value) (U : State), s.WarmedH U.vm → w.before a' U = true := fun w hw a' U hW => word_at hW (good_of_word (List.all_eq_true.mp good_all w hw)) (hts w hw)
  have hini : Cond.initialized RL ∈ wsL_law0 := inr_21 _ (List.mem_of_getElem? (i := 8) rfl)
  have cw : vx_CSW room_1 s #[Value.ref b] RL i y cc 5 (some .int) [(0, 10, 13, 13)] (.codeWith y cc 5 (some .int) [(0, 10, 13, 13)] :: wsL_law0) (rmX 1100) 1 6 4 := by
    refine ⟨⟨rfl, rfl, by show 1100 + 1 ≤ 2048; decide, by show 8 + (5 + 11) + 60 * 1100 ≤ 84000; decide, fun w hw => ?_, List.mem_cons_self⟩, hts _ w3, by rw [hyc]; exact hts _ hini, by rw [hyc]; decide, fun sig h => ?_, hts _ w1, hts _ w2⟩
    · exact (List.mem_cons.mp hw).elim (fun q => q ▸ good _ w3) (good w)
    · rw [h] at w4; exact (Option.some.inj w4).symm
  have hrun := vx_runSX (locs := locs) (g := F0 m pc ls ([.ref (ad 0), .int x1, .int x2, .ref u].reverse ++ [])) (cells := k) (slots := n) (below := below) (meth := meth) (e := e) (R := room_1) (rest := []) (As := [.ref (ad 0), .int x1, .int x2, .ref u]) (nL := c.maxLocals) ⟨hx, hb, rfl, hown, hts⟩ hM cw ⟨blind_L, fun U hU hW => ⟨rfl, by rw [hU]; exact hP, va_K.moved hW.alike hK, (hE.next hS hU hW).sub hAA, by rw [hU]; exact hF⟩⟩ rfl rfl hl.1 rfl (Nat.le_of_ble_eq_true rfl) hd ⟨hk, hn⟩
  refine vx_calli hrun hS (fun q _ h => hAA q h) hAA (fun q _ h => hAA q h) (fun E ce q9 _ t H1 locs1 _ _ hpx => hpx.elim) ?_
  intro r _ t H1 locs1 ht1 hal hr2 hB hz hq hS2
  have hr3 : r = kk := hr2
  subst hr3
  rw [ht1] at hB
  exact go H1 locs1 ls hB.1 hS2 hB.2 hl
theorem g_outld {k n pc : Nat} {kk : Int32} {v : Int64} {S : St} {lv : List (Nat × Value)} {st : List Value} (hk0 : kk = 0) (X : CxOk (zW p l e s m b below meth c D cy Qz k n (OutK D cy u kk v)) ad RL cL_law 7 (some .boolean) 1200) (hd : decode cL_law pc = .ok (.laload, 1)) (go : GW (zW p l e s m b below meth c D cy Qz k n (OutK D cy u kk v)) ad o S (pc + 1) lv (.long v :: st)) : GW (zW p l e s m b below meth c D cy Qz k n (OutK D cy u kk v)) ad o S pc lv (.int 0 :: .ref u :: st) := by
  obtain ⟨hx, hb, hml, hown, hts, hr, hlk, hR, hK, hE, hI, hFr, hQ, hA⟩ := X
  intro H locs ls hP hS hF hl
  obtain ⟨w, hw, hv⟩ := id hF
  refine va_lald hx hb hK hw 0 20 (n := 1) (f := w) rfl (tys_at cy (kd := 32) rfl (by decide)) (show vp_in 0 1 from by unfold vp_in; decide) hd ?_
  rw [show w (0 : Int32).toNatClampNeg = v from hv hk0]
  exact go H locs ls hP hS hF hl
theorem mlL_46 : MLv RL 46 RX11 11 yX11_parish cX11_parish 3 (some .int) 2 := ⟨(inr_22 _ (List.mem_of_getElem? (i := 7) rfl)), (inr_22 _ (List.mem_of_getElem? (i := 4) rfl)), (inr_22 _ (List.mem_of_getElem? (i := 5) rfl)), (inr_22 _ (List.mem_of_getElem? (i := 6) rfl)), (inr_1 _ (List.mem_of_getElem? (i := 5) rfl)), rfl, ⟨by decide, by decide, by decide +kernel⟩, by decide, by decide, rfl⟩
theorem mlL_47 : MLv RL 47 RX11 11 yX11_thrown cX11_thrown 1 (some .int) 0 := ⟨(inr_22 _ (List.mem_of_getElem? (i := 19) rfl)), (inr_22 _ (List.mem_of_getElem? (i := 16) rfl)), (inr_22 _ (List.mem_of_getElem? (i := 17) rfl)), (inr_22 _ (List.mem_of_getElem? (i := 18) rfl)), (inr_1 _ (List.mem_of_getElem? (i := 5) rfl)), rfl, ⟨by decide, by decide, by decide +kernel⟩, by decide, by decide, rfl⟩
theorem mlL_103 : MLv RL 103 RX11 11 yX11_drift cX11_drift 5 (some .int) 2 := ⟨(inr_38 _ (List.mem_of_getElem? (i := 3) rfl)), (inr_38 _ (List.mem_of_getElem? (i := 0) rfl)), (inr_38 _ (List.mem_of_getElem? (i := 1) rfl)), (inr_38 _ (List.mem_of_getElem? (i := 2) rfl)), (inr_1 _ (List.mem_of_getElem? (i := 5) rfl)), rfl, ⟨by decide, by decide, by decide +kernel⟩, by decide, by decide, rfl⟩
theorem dQ_law_360 : decode cL_law 360 = .ok (.aload_n 1, 1) := by decide +kernel
theorem dQ_law_361 : decode cL_law 361 = .ok (.aload_n 0, 1) := by decide +kernel
theorem dQ_law_362 : decode cL_law 362 = .ok (.iload 4, 2) := by decide +kernel
theorem dQ_law_364 : decode cL_law 364 = .ok (.iconst 1, 1) := by decide +kernel
theorem dQ_law_365 : decode cL_law 365 = .ok (.iadd, 1) := by decide +kernel
theorem dQ_law_366 : decode cL_law 366 = .ok (.iaload, 1) := by decide +kernel
theorem dQ_law_367 : decode cL_law 367 = .ok (.aload_n 0, 1) := by decide +kernel
theorem dQ_law_368 : decode cL_law 368 = .ok (.iload 4, 2) := by decide +kernel
theorem dQ_law_370 : decode cL_law 370 = .ok (.iconst 2, 1) := by decide +kernel
theorem dQ_law_371 : decode cL_law 371 = .ok (.iadd, 1) := by decide +kernel
theorem dQ_law_372 : decode cL_law 372 = .ok (.iaload, 1) := by decide +kernel
theorem dQ_law_373 : decode cL_law 373 = .ok (.aload_n 3, 1) := by decide +kernel
theorem dQ_law_374 : decode cL_law 374 = .ok (.invokestatic 41, 3) := by decide +kernel
theorem dQ_law_377 : decode cL_law 377 = .ok (.istore 5, 2) := by decide +kernel
theorem dQ_law_379 : decode cL_law 379 = .ok (.aload_n 2, 1) := by decide +kernel
theorem dQ_law_380 : decode cL_law 380 = .ok (.aload_n 0, 1) := by decide +kernel
theorem dQ_law_381 : decode cL_law 381 = .ok (.iload 4, 2) := by decide +kernel
theorem dQ_law_383 : decode cL_law 383 = .ok (.iconst 1, 1) := by decide +kernel
theorem dQ_law_384 : decode cL_law 384 = .ok (.iadd, 1) := by decide +kernel
theorem dQ_law_385 : decode cL_law 385 = .ok (.iaload, 1) := by decide +kernel
theorem dQ_law_386 : decode cL_law 386 = .ok (.aload_n 0, 1) := by decide +kernel
theorem dQ_law_387 : decode cL_law 387 = .ok (.iload 4, 2) := by decide +kernel
theorem dQ_law_389 : decode cL_law 389 = .ok (.iconst 2, 1) := by decide +kernel
theorem dQ_law_390 : decode cL_law 390 = .ok (.iadd, 1) := by decide +kernel
theorem dQ_law_391 : decode cL_law 391 = .ok (.iaload, 1) := by decide +kernel
theorem dQ_law_392 : decode cL_law 392 = .ok (.invokevirtual 46, 3) := by decide +kernel
theorem dQ_law_395 : decode cL_law 395 = .ok (.istore 6, 2) := by decide +kernel
theorem dQ_law_397 : decode cL_law 397 = .ok (.aload_n 2, 1) := by decide +kernel
theorem dQ_law_398 : decode cL_law 398 = .ok (.invokevirtual 47, 3) := by decide +kernel
theorem dQ_law_401 : decode cL_law 401 = .ok (.iload 5, 2) := by decide +kernel
theorem dQ_law_403 : decode cL_law 403 = .ok (.if_icmp .eq 5, 3) := by decide +kernel
theorem dQ_law_408 : decode cL_law 408 = .ok (.iload 5, 2) := by decide +kernel
theorem dQ_law_410 : decode cL_law 410 = .ok (.ifCond .ne 15, 3) := by decide +kernel
theorem dQ_law_413 : decode cL_law 413 = .ok (.aload_n 3, 1) := by decide +kernel
theorem dQ_law_414 : decode cL_law 414 = .ok (.iconst 0, 1) := by decide +kernel
theorem dQ_law_415 : decode cL_law 415 = .ok (.laload, 1) := by decide +kernel
theorem dQ_law_416 : decode cL_law 416 = .ok (.iload 6, 2) := by decide +kernel
theorem dQ_law_418 : decode cL_law 418 = .ok (.i2l, 1) := by decide +kernel
theorem dQ_law_419 : decode cL_law 419 = .ok (.lcmp, 1) := by decide +kernel
theorem dQ_law_420 : decode cL_law 420 = .ok (.ifCond .eq 5, 3) := by decide +kernel
theorem dQ_law_425 : decode cL_law 425 = .ok (.goto 1190, 3) := by decide +kernel
set_option maxHeartbeats 1000000 in
theorem law_parish {k n L i : Nat} {xs : Nat → Int32} {S : St} (X : LX p l e s m b below meth c D cy Qz ad) (hX : ∀ k n F, SX (zW p l e s m b below meth c D cy Qz k n F) b L xs) (hlt : l.stackTraces = false) (hk : k + 1 ≤ 600128) (hn : n + 6 ≤ 7301098) (hu : ¬ InA ad u) (hAu : s.heap.size ≤ u) (hi : i + 6 ≤ L) (hInv : Inv S) (hgo : ∀ S2, Inv S2 → GW (zW p l e s m b below meth c D cy Qz (k + 1) (n + 6) (OutE D cy u)) ad o S2 1615 [(0, .ref b), (1, .ref (ad 0)), (2, .ref (ad 140)), (3, .ref u), (4, .int (nI i))] []) : GW (zW p l e s m b below meth c D cy Qz k n (OutE D cy u)) ad o S 360 [(0, .ref b), (1, .ref (ad 0)), (2, .ref (ad 140)), (3, .ref u), (4, .int (nI i))] [] := by
  obtain ⟨n', w, -⟩ := id hInv
  have X0 := X k n (OutE D cy u) (by omega) (by omega) (outE_st hu)
  have hI : Inj ad := cx_inj X0
  obtain ⟨kk, rb, v, S2, hM, e2, e3, e4, hI2⟩ : ∃ (kk rb : Int32) (v : Int64) (S2 : St), OkL l yL_parish cL_parish ad D cy u (xs (i + 1)) (xs (i + 2)) S kk v ∧ fX11_parish 140 (xs (i + 1)) (xs (i + 2)) S = some (rb, S2) ∧ gI S2 11 0 140 = kk ∧ (kk = 0 → v = rb.toInt64) ∧ Inv S2 := by
    rcases q_parish w.wf w.cw w.mr w.hs (xs (i + 1)) (xs (i + 2)) with ⟨r, e1, e2⟩ | ⟨h, e2⟩
    · exact ⟨0, r, r.toInt64, _, okL_ret hI hu (by decide) rfl dl_parish mlL_7 (h' := 2) (by decide) (fun l D cy => tX10_parish hI l D cy 0 _ _ (by decide +kernel) S r e1), e2, gI_s, fun _ => rfl, Inv_th hInv⟩
    · exact ⟨1, 0, 0, _, okL_thr hI hu (by decide) rfl dl_parish mlL_7 (xX10_parish hI l hlt D cy _ _ S h), e2, gI_s, fun h => absurd h (by decide), Inv_th hInv⟩
  have X1 := X (k + 1) (n + 6) (OutK D cy u kk v) hk hn (outK_st hu)
  have hX0 := hX k n (OutE D cy u)
  have hX1 := hX (k + 1) (n + 6) (OutK D cy u kk v)
  refine g_aload_n X0 dQ_law_360 1 rfl rfl ?_
  refine g_aload_n X0 dQ_law_361 0 rfl rfl ?_
  refine g_iload X0 dQ_law_362 4 rfl ?_
  refine g_iconst (v := 1) X0 dQ_law_364 (by decide) ?_
  refine g_iadd X0 dQ_law_365 ?_
  refine g_sld (j := i + 1) X0 hX0 dQ_law_366 (nI_add i 1) (by omega) ?_
  refine g_aload_n X0 dQ_law_367 0 rfl rfl ?_
  refine g_iload X0 dQ_law_368 4 rfl ?_
  refine g_iconst (v := 2) X0 dQ_law_370 (by decide) ?_
  refine g_iadd X0 dQ_law_371 ?_
  refine g_sld (j := i + 2) X0 hX0 dQ_law_372 (nI_add i 2) (by omega) ?_
  refine g_aload_n X0 dQ_law_373 3 rfl rfl ?_
  refine g_callL X hk hn hu hAu dQ_law_374 rfl (inr_21 _ (List.mem_of_getElem? (i := 6) rfl)) (inr_21 _ (List.mem_of_getElem? (i := 7) rfl)) (inr_21 _ (List.mem_of_getElem? (i := 9) rfl)) (by decide +kernel) hM ?_
  refine g_istore X1 dQ_law_377 (by decide) (lv' := [(5, .int kk), (0, .ref b), (1, .ref (ad 0)), (2, .ref (ad 140)), (3, .ref u), (4, .int (nI i))]) rfl ?_
  refine g_perm (lv' := [(0, .ref b), (1, .ref (ad 0)), (2, .ref (ad 140)), (3, .ref u), (4, .int (nI i)), (5, .int kk)]) [1, 2, 3, 4, 5, 0] rfl ?_
  refine g_aload_n X1 dQ_law_379 2 rfl rfl ?_
  refine g_aload_n X1 dQ_law_380 0 rfl rfl ?_
  refine g_iload X1 dQ_law_381 4 rfl ?_
  refine g_iconst (v := 1) X1 dQ_law_383 (by decide) ?_
  refine g_iadd X1 dQ_law_384 ?_
  refine g_sld (j := i + 1) X1 hX1 dQ_law_385 (nI_add i 1) (by omega) ?_
  refine g_aload_n X1 dQ_law_386 0 rfl rfl ?_
  refine g_iload X1 dQ_law_387 4 rfl ?_
  refine g_iconst (v := 2) X1 dQ_law_389 (by decide) ?_
  refine g_iadd X1 dQ_law_390 ?_
  refine g_sld (j := i + 2) X1 hX1 dQ_law_391 (nI_add i 2) (by omega) ?_
  refine g_callVi (As := [.int (xs (i + 1)), .int (xs (i + 2))]) (v := rb) (S' := S2) X1 dQ_law_392 mlL_46 (fun l D cyy => tX11_parish hI l D cyy 140 (xs (i + 1)) (xs (i + 2)) (by decide +kernel) S (rb, S2) e2) (by decide +kernel) (by decide) rfl rfl (Nat.le_of_ble_eq_true rfl) ?_
  refine g_istore X1 dQ_law_395 (by decide) (lv' := [(6, .int rb), (0, .ref b), (1, .ref (ad 0)), (2, .ref (ad 140)), (3, .ref u), (4, .int (nI i)), (5, .int kk)]) rfl ?_
  refine g_perm (lv' := [(0, .ref b), (1, .ref (ad 0)), (2, .ref (ad 140)), (3, .ref u), (4, .int (nI i)), (5, .int kk), (6, .int rb)]) [1, 2, 3, 4, 5, 6, 0] rfl ?_
  refine g_aload_n X1 dQ_law_397 2 rfl rfl ?_
  refine g_callVi (As := []) (v := kk) (S' := S2) X1 dQ_law_398 mlL_47 (fun l D cyy => (by have h9 := tX11_thrown hI l D cyy 140 (by decide +kernel) S2; rw [show fX11_thrown 140 S2 = kk from e3] at h9; exact h9)) (by decide +kernel) (by decide) rfl rfl (Nat.le_of_ble_eq_true rfl) ?_
  refine g_iload X1 dQ_law_401 5 rfl ?_
  refine g_icmp_eq (tgt := 408) X1 dQ_law_403 (by decide) (fun _ => ?_) (fun h => absurd rfl h)
  have fin : GW (zW p l e s m b below meth c D cy Qz (k + 1) (n + 6) (OutK D cy u kk v)) ad o S2 425 [(0, .ref b), (1, .ref (ad 0)), (2, .ref (ad 140)), (3, .ref u), (4, .int (nI i)), (5, .int kk), (6, .int rb)] [] := by
    refine g_goto (tgt := 1615) X1 dQ_law_425 (by decide) ?_
    exact g_perm [0, 1, 2, 3, 4] rfl (GW_F (fun H h => ⟨h.choose, h.choose_spec.1⟩) (hgo S2 hI2))
  refine g_iload X1 dQ_law_408 5 rfl ?_
  refine g_if_ne (tgt := 425) X1 dQ_law_410 (by decide) (fun _ => fin) (fun h0 => ?_)
  refine g_aload_n X1 dQ_law_413 3 rfl rfl ?_
  refine g_iconst (v := 0) X1 dQ_law_414 (by decide) ?_
  refine g_outld h0 X1 dQ_law_415 ?_
  refine g_iload X1 dQ_law_416 6 rfl ?_
  refine g_i2l X1 dQ_law_418 ?_
  refine g_lcmp X1 dQ_law_419 ?_
  exact g_if_eq (tgt := 425) X1 dQ_law_420 (by decide) (fun _ => fin) (fun h => absurd ((lg_cmp_eq _ _).mpr (e4 h0)) h)
theorem dQ_law_824 : decode cL_law 824 = .ok (.aload_n 1, 1) := by decide +kernel
theorem dQ_law_825 : decode cL_law 825 = .ok (.aload_n 0, 1) := by decide +kernel
theorem dQ_law_826 : decode cL_law 826 = .ok (.iload 4, 2) := by decide +kernel
theorem dQ_law_828 : decode cL_law 828 = .ok (.iconst 1, 1) := by decide +kernel
theorem dQ_law_829 : decode cL_law 829 = .ok (.iadd, 1) := by decide +kernel
theorem dQ_law_830 : decode cL_law 830 = .ok (.iaload, 1) := by decide +kernel
theorem dQ_law_831 : decode cL_law 831 = .ok (.aload_n 0, 1) := by decide +kernel
theorem dQ_law_832 : decode cL_law 832 = .ok (.iload 4, 2) := by decide +kernel
theorem dQ_law_834 : decode cL_law 834 = .ok (.iconst 2, 1) := by decide +kernel
theorem dQ_law_835 : decode cL_law 835 = .ok (.iadd, 1) := by decide +kernel
theorem dQ_law_836 : decode cL_law 836 = .ok (.iaload, 1) := by decide +kernel
theorem dQ_law_837 : decode cL_law 837 = .ok (.aload_n 3, 1) := by decide +kernel
theorem dQ_law_838 : decode cL_law 838 = .ok (.invokestatic 101, 3) := by decide +kernel
theorem dQ_law_841 : decode cL_law 841 = .ok (.istore 5, 2) := by decide +kernel
theorem dQ_law_843 : decode cL_law 843 = .ok (.aload_n 2, 1) := by decide +kernel
theorem dQ_law_844 : decode cL_law 844 = .ok (.aload_n 0, 1) := by decide +kernel
theorem dQ_law_845 : decode cL_law 845 = .ok (.iload 4, 2) := by decide +kernel
theorem dQ_law_847 : decode cL_law 847 = .ok (.iconst 1, 1) := by decide +kernel
theorem dQ_law_848 : decode cL_law 848 = .ok (.iadd, 1) := by decide +kernel
theorem dQ_law_849 : decode cL_law 849 = .ok (.iaload, 1) := by decide +kernel
theorem dQ_law_850 : decode cL_law 850 = .ok (.aload_n 0, 1) := by decide +kernel
theorem dQ_law_851 : decode cL_law 851 = .ok (.iload 4, 2) := by decide +kernel
theorem dQ_law_853 : decode cL_law 853 = .ok (.iconst 2, 1) := by decide +kernel
theorem dQ_law_854 : decode cL_law 854 = .ok (.iadd, 1) := by decide +kernel
theorem dQ_law_855 : decode cL_law 855 = .ok (.iaload, 1) := by decide +kernel
theorem dQ_law_856 : decode cL_law 856 = .ok (.invokevirtual 103, 3) := by decide +kernel
theorem dQ_law_859 : decode cL_law 859 = .ok (.istore 6, 2) := by decide +kernel
theorem dQ_law_861 : decode cL_law 861 = .ok (.aload_n 2, 1) := by decide +kernel
theorem dQ_law_862 : decode cL_law 862 = .ok (.invokevirtual 47, 3) := by decide +kernel
theorem dQ_law_865 : decode cL_law 865 = .ok (.iload 5, 2) := by decide +kernel
theorem dQ_law_867 : decode cL_law 867 = .ok (.if_icmp .eq 5, 3) := by decide +kernel
theorem dQ_law_872 : decode cL_law 872 = .ok (.iload 5, 2) := by decide +kernel
theorem dQ_law_874 : decode cL_law 874 = .ok (.ifCond .ne 15, 3) := by decide +kernel
theorem dQ_law_877 : decode cL_law 877 = .ok (.aload_n 3, 1) := by decide +kernel
theorem dQ_law_878 : decode cL_law 878 = .ok (.iconst 0, 1) := by decide +kernel
theorem dQ_law_879 : decode cL_law 879 = .ok (.laload, 1) := by decide +kernel
theorem dQ_law_880 : decode cL_law 880 = .ok (.iload 6, 2) := by decide +kernel
theorem dQ_law_882 : decode cL_law 882 = .ok (.i2l, 1) := by decide +kernel
theorem dQ_law_883 : decode cL_law 883 = .ok (.lcmp, 1) := by decide +kernel
theorem dQ_law_884 : decode cL_law 884 = .ok (.ifCond .eq 5, 3) := by decide +kernel
theorem dQ_law_889 : decode cL_law 889 = .ok (.goto 726, 3) := by decide +kernel
set_option maxHeartbeats 1000000 in
theorem law_drift {k n L i : Nat} {xs : Nat → Int32} {S : St} (X : LX p l e s m b below meth c D cy Qz ad) (hX : ∀ k n F, SX (zW p l e s m b below meth c D cy Qz k n F) b L xs) (hlt : l.stackTraces = false) (hk : k + 1 ≤ 600128) (hn : n + 6 ≤ 7301098) (hu : ¬ InA ad u) (hAu : s.heap.size ≤ u) (hi : i + 6 ≤ L) (hInv : Inv S) (hgo : ∀ S2, Inv S2 → GW (zW p l e s m b below meth c D cy Qz (k + 1) (n + 6) (OutE D cy u)) ad o S2 1615 [(0, .ref b), (1, .ref (ad 0)), (2, .ref (ad 140)), (3, .ref u), (4, .int (nI i))] []) : GW (zW p l e s m b below meth c D cy Qz k n (OutE D cy u)) ad o S 824 [(0, .ref b), (1, .ref (ad 0)), (2, .ref (ad 140)), (3, .ref u), (4, .int (nI i))] [] := by
  obtain ⟨n', w, -⟩ := id hInv
  have X0 := X k n (OutE D cy u) (by omega) (by omega) (outE_st hu)
  have hI : Inj ad := cx_inj X0
  obtain ⟨kk, rb, v, S2, hM, e2, e3, e4, hI2⟩ : ∃ (kk rb : Int32) (v : Int64) (S2 : St), OkL l yL_drift cL_drift ad D cy u (xs (i + 1)) (xs (i + 2)) S kk v ∧ fX11_drift 140 (xs (i + 1)) (xs (i + 2)) S = some (rb, S2) ∧ gI S2 11 0 140 = kk ∧ (kk = 0 → v = rb.toInt64) ∧ Inv S2 := by
    rcases q_drift w.wf w.cw w.mr (xs (i + 1)) (xs (i + 2)) with ⟨r, e1, e2⟩ | ⟨h, e2⟩
    · exact ⟨0, r, r.toInt64, _, okL_ret hI hu (by decide) rfl dl_drift mlL_15 (h' := 3) (by decide) (fun l D cy => tX10_drift hI l D cy 0 _ _ (by decide +kernel) S r e1), e2, gI_s, fun _ => rfl, Inv_th hInv⟩
    · exact ⟨1, 0, 0, _, okL_thr hI hu (by decide) rfl dl_drift mlL_15 (xX10_drift hI l hlt D cy _ _ S h), e2, gI_s, fun h => absurd h (by decide), Inv_th hInv⟩
  have X1 := X (k + 1) (n + 6) (OutK D cy u kk v) hk hn (outK_st hu)
  have hX0 := hX k n (OutE D cy u)
  have hX1 := hX (k + 1) (n + 6) (OutK D cy u kk v)
  refine g_aload_n X0 dQ_law_824 1 rfl rfl ?_
  refine g_aload_n X0 dQ_law_825 0 rfl rfl ?_
  refine g_iload X0 dQ_law_826 4 rfl ?_
  refine g_iconst (v := 1) X0 dQ_law_828 (by decide) ?_
  refine g_iadd X0 dQ_law_829 ?_
  refine g_sld (j := i + 1) X0 hX0 dQ_law_830 (nI_add i 1) (by omega) ?_
  refine g_aload_n X0 dQ_law_831 0 rfl rfl ?_
  refine g_iload X0 dQ_law_832 4 rfl ?_
  refine g_iconst (v := 2) X0 dQ_law_834 (by decide) ?_
  refine g_iadd X0 dQ_law_835 ?_
  refine g_sld (j := i + 2) X0 hX0 dQ_law_836 (nI_add i 2) (by omega) ?_
  refine g_aload_n X0 dQ_law_837 3 rfl rfl ?_
  refine g_callL X hk hn hu hAu dQ_law_838 rfl (inr_37 _ (List.mem_of_getElem? (i := 5) rfl)) (inr_37 _ (List.mem_of_getElem? (i := 6) rfl)) (inr_37 _ (List.mem_of_getElem? (i := 7) rfl)) (by decide +kernel) hM ?_
  refine g_istore X1 dQ_law_841 (by decide) (lv' := [(5, .int kk), (0, .ref b), (1, .ref (ad 0)), (2, .ref (ad 140)), (3, .ref u), (4, .int (nI i))]) rfl ?_
  refine g_perm (lv' := [(0, .ref b), (1, .ref (ad 0)), (2, .ref (ad 140)), (3, .ref u), (4, .int (nI i)), (5, .int kk)]) [1, 2, 3, 4, 5, 0] rfl ?_
  refine g_aload_n X1 dQ_law_843 2 rfl rfl ?_
  refine g_aload_n X1 dQ_law_844 0 rfl rfl ?_
  refine g_iload X1 dQ_law_845 4 rfl ?_
  refine g_iconst (v := 1) X1 dQ_law_847 (by decide) ?_
  refine g_iadd X1 dQ_law_848 ?_
  refine g_sld (j := i + 1) X1 hX1 dQ_law_849 (nI_add i 1) (by omega) ?_
  refine g_aload_n X1 dQ_law_850 0 rfl rfl ?_
  refine g_iload X1 dQ_law_851 4 rfl ?_
  refine g_iconst (v := 2) X1 dQ_law_853 (by decide) ?_
  refine g_iadd X1 dQ_law_854 ?_
  refine g_sld (j := i + 2) X1 hX1 dQ_law_855 (nI_add i 2) (by omega) ?_
  refine g_callVi (As := [.int (xs (i + 1)), .int (xs (i + 2))]) (v := rb) (S' := S2) X1 dQ_law_856 mlL_103 (fun l D cyy => tX11_drift hI l D cyy 140 (xs (i + 1)) (xs (i + 2)) (by decide +kernel) S (rb, S2) e2) (by decide +kernel) (by decide) rfl rfl (Nat.le_of_ble_eq_true rfl) ?_
  refine g_istore X1 dQ_law_859 (by decide) (lv' := [(6, .int rb), (0, .ref b), (1, .ref (ad 0)), (2, .ref (ad 140)), (3, .ref u), (4, .int (nI i)), (5, .int kk)]) rfl ?_
  refine g_perm (lv' := [(0, .ref b), (1, .ref (ad 0)), (2, .ref (ad 140)), (3, .ref u), (4, .int (nI i)), (5, .int kk), (6, .int rb)]) [1, 2, 3, 4, 5, 6, 0] rfl ?_
  refine g_aload_n X1 dQ_law_861 2 rfl rfl ?_
  refine g_callVi (As := []) (v := kk) (S' := S2) X1 dQ_law_862 mlL_47 (fun l D cyy => (by have h9 := tX11_thrown hI l D cyy 140 (by decide +kernel) S2; rw [show fX11_thrown 140 S2 = kk from e3] at h9; exact h9)) (by decide +kernel) (by decide) rfl rfl (Nat.le_of_ble_eq_true rfl) ?_
  refine g_iload X1 dQ_law_865 5 rfl ?_
  refine g_icmp_eq (tgt := 872) X1 dQ_law_867 (by decide) (fun _ => ?_) (fun h => absurd rfl h)
  have fin : GW (zW p l e s m b below meth c D cy Qz (k + 1) (n + 6) (OutK D cy u kk v)) ad o S2 889 [(0, .ref b), (1, .ref (ad 0)), (2, .ref (ad 140)), (3, .ref u), (4, .int (nI i)), (5, .int kk), (6, .int rb)] [] := by
    refine g_goto (tgt := 1615) X1 dQ_law_889 (by decide) ?_
    exact g_perm [0, 1, 2, 3, 4] rfl (GW_F (fun H h => ⟨h.choose, h.choose_spec.1⟩) (hgo S2 hI2))
  refine g_iload X1 dQ_law_872 5 rfl ?_
  refine g_if_ne (tgt := 889) X1 dQ_law_874 (by decide) (fun _ => fin) (fun h0 => ?_)
  refine g_aload_n X1 dQ_law_877 3 rfl rfl ?_
  refine g_iconst (v := 0) X1 dQ_law_878 (by decide) ?_
  refine g_outld h0 X1 dQ_law_879 ?_
  refine g_iload X1 dQ_law_880 6 rfl ?_
  refine g_i2l X1 dQ_law_882 ?_
  refine g_lcmp X1 dQ_law_883 ?_
  exact g_if_eq (tgt := 889) X1 dQ_law_884 (by decide) (fun _ => fin) (fun h => absurd ((lg_cmp_eq _ _).mpr (e4 h0)) h)
theorem law_all {L : Nat} {xs : Nat → Int32} (X : LX p l e s m b below meth c D cy Qz ad) (hX : ∀ k n F, SX (zW p l e s m b below meth c D cy Qz k n F) b L xs) (hlt : l.stackTraces = false) (hL : L ≤ 384) (hu : ¬ InA ad u) (hAu : s.heap.size ≤ u) (hend : ∀ (k n i : Nat) (S : St), k ≤ 600128 → n ≤ 7301098 → GW (zW p l e s m b below meth c D cy Qz k n (OutE D cy u)) ad o S 1621 [(0, .ref b), (1, .ref (ad 0)), (2, .ref (ad 140)), (3, .ref u), (4, .int (nI i))] []) : ∀ (t i k n : Nat), i ≤ 390 → 400 ≤ i + 6 * t → k + t ≤ 600128 → n + 6 * t ≤ 7301098 → ∀ S, Inv S → GW (zW p l e s m b below meth c D cy Qz k n (OutE D cy u)) ad o S 23 [(0, .ref b), (1, .ref (ad 0)), (2, .ref (ad 140)), (3, .ref u), (4, .int (nI i))] [] := by
  intro t
  induction t with
  | zero => intro i k n h1 h2; omega
  | succ t ih =>
    intro i k n h1 h2 hk hn S hInv
    have X0 := X k n (OutE D cy u) (by omega) (by omega) (outE_st hu)
    have X1 := X (k + 1) (n + 6) (OutE D cy u) (by omega) (by omega) (outE_st hu)
    have nxt : i + 6 ≤ L → ∀ S2, Inv S2 → GW (zW p l e s m b below meth c D cy Qz (k + 1) (n + 6) (OutE D cy u)) ad o S2 1615 [(0, .ref b), (1, .ref (ad 0)), (2, .ref (ad 140)), (3, .ref u), (4, .int (nI i))] [] := fun hi S2 hI2 => by
      refine g_iinc (v := nI (i + 6)) X1 dL_law_1615 4 rfl (nI_add i 6) (by decide) (lv' := [(4, .int (nI (i + 6))), (0, .ref b), (1, .ref (ad 0)), (2, .ref (ad 140)), (3, .ref u)]) rfl ?_
      refine g_goto (tgt := 23) X1 dL_law_1618 (by decide) ?_
      exact g_perm [1, 2, 3, 4, 0] rfl (ih (i + 6) (k + 1) (n + 6) (by omega) (by omega) (by omega) (by omega) S2 hI2)
    exact law_turn X0 (hX k n (OutE D cy u)) hL (by omega) all_pairs (fun hi S hS _ => law_parish X hX hlt (by omega) (by omega) hu hAu hi hS (nxt hi)) (fun hi S hS _ => law_drift X hX hlt (by omega) (by omega) hu hAu hi hS (nxt hi)) S hInv (fun S => hend k n i S (by omega) (by omega)) (fun hi S2 h => GW_w (by omega) (by omega) (nxt hi S2 h))
end LW
