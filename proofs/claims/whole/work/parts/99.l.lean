-- the law's own ends, and its start
def R_law : String := "ParishYearsLaw"
def lw_P (b : Addr) (xs : List Int32) (args : Array Value) (s : State) : Prop := args = #[.ref b] ∧ s.IntsAt b xs ∧ xs.length ≤ 384 ∧ (Jvm.Cond.and given_1 narrow_1).before args s = true
def lw_Q (_ : Array Value) (s : State) (o : Outcome) (t : State) : Prop := o = .returned (some (.int 1)) ∧ Framed s o t [] 600128 7301098
def lw_Z (below : List Frame) (a : Array Value) (s : State) : State → Prop := fun t => ∃ o, t.status = .running ∧ Ended t below o ∧ lw_Q a s o t
/-- the law's own end, with 1 on the stack, nothing written that was there before, its room as the claim has it -/
theorem lw_ret {p : Program} {l : Launch} {e : Env} {s : State} {m : MethodId} {below : List Frame} {meth : Method} {c : Code} {b : Nat} (hx : p.tables.exec = Jvm.exec) (hb : c.code = code) (hr : meth.sig.returnType = ret) (hlocks : meth.locks = false) {pc : Nat} {H : Heap} {ls : Array Slot} (hdg : decode code pc = .ok (.ireturn, 1)) : W p l e room_1 s m #[Value.ref b] below meth c H [] 600128 7301098 (lw_Z below #[Value.ref b] s) (F0 m pc ls [.int 1]) := by
  intro T hT X
  obtain ⟨fs, hret, hrun, hended, hW, hframe⟩ := X.leave (v := some (.int 1)) (hlocks := hlocks) (fun h => by rw [hr] at h; cases h)
  have hmeth' : T.vm.method? m = some meth := X.method'
  refine ⟨T.setFrames fs, ?_, .returned (some (.int 1)), hrun, hended, rfl, ⟨_, rfl⟩, hW, hframe⟩
  jvm_step X.here [X.here.top, hx, hb, hdg, hmeth', hr, ret, narrow_b1]
  (try refine ⟨rfl, ?_⟩); (try refine ⟨rfl, ?_⟩)
  first | (intro acts; rw [hret _ acts rfl rfl rfl]) | rw [hret _ _ rfl rfl rfl]
  exact Steps.refl _
/-- what holds at the law's entry: the machine, the code, the tables' words (any of lw_tbl by 'hts w (by decide +kernel)'), the script of L ints xs at the cell b, what the Statement gives of the start (any of its parts by flat_of_before) -/
def lw_At (p : Program) (s : State) (m : MethodId) (meth : Method) (c : Code) (b L : Nat) (xs : Nat → Int32) : Prop :=
  p.tables.exec = Jvm.exec ∧ c.code = code ∧ meth.sig.returnType = ret ∧ c.maxLocals = 7 ∧ s.vm.findClass R_law = some m.cls ∧ (∀ w ∈ lw_tbl, w.before #[Value.ref b] s = true) ∧ va_X b L xs s s.heap ∧ b < s.heap.size ∧ meth.locks = false ∧ (Jvm.Cond.and given_1 narrow_1).before #[Value.ref b] s = true
theorem dS_law_0 : decode cL_law 0 = .ok (.new 8, 3) := by decide +kernel
theorem dS_law_3 : decode cL_law 3 = .ok (.dup, 1) := by decide +kernel
theorem dS_law_4 : decode cL_law 4 = .ok (.invokespecial 18, 3) := by decide +kernel
theorem dS_law_7 : decode cL_law 7 = .ok (.astore_n 1, 1) := by decide +kernel
theorem dS_law_8 : decode cL_law 8 = .ok (.new 19, 3) := by decide +kernel
theorem dS_law_11 : decode cL_law 11 = .ok (.dup, 1) := by decide +kernel
theorem dS_law_12 : decode cL_law 12 = .ok (.invokespecial 21, 3) := by decide +kernel
theorem dS_law_15 : decode cL_law 15 = .ok (.astore_n 2, 1) := by decide +kernel
theorem dS_law_16 : decode cL_law 16 = .ok (.iconst 1, 1) := by decide +kernel
theorem dS_law_17 : decode cL_law 17 = .ok (.newarray .long, 2) := by decide +kernel
theorem dS_law_19 : decode cL_law 19 = .ok (.astore_n 3, 1) := by decide +kernel
theorem dS_law_20 : decode cL_law 20 = .ok (.iconst 0, 1) := by decide +kernel
theorem dS_law_21 : decode cL_law 21 = .ok (.istore 4, 2) := by decide +kernel
theorem dS_law_1621 : decode cL_law 1621 = .ok (.iconst 1, 1) := by decide +kernel
theorem dS_law_1622 : decode cL_law 1622 = .ok (.ireturn, 1) := by decide +kernel
theorem fs_10 : ∀ j, j < 15 → defaultValue (tyX10 j) = vp_V [.null, .null, .null, .null, .null, .null, .null, .null, .null, .null, .null, .int 0, .null, .null, .int 0] j := by decide
theorem fs_11 : ∀ j, j < 46 → defaultValue (tyX11 j) = vp_V ini11 j := by decide
theorem blind_M {D : va_G} {cy : Nat → ClassId} {h0 sz : Nat} {w : va_W} {adS : Nat → Nat} {A : Nat → Prop} : FrameBlind (va_Pc [.ref h0] (fun U => U.heap.size = sz ∧ va_P D vwCl w U.heap ∧ (va_K D vwCl (tysOf cy) U ∧ AOs U) ∧ va_D (fun _ => True) w ∧ Ex adS A U)) := fun a U g mk q => by
  obtain ⟨q0, q1, q2, ⟨q3, q4⟩, q5, q6⟩ := q
  exact ⟨q0, q1, q2, ⟨va_K.moved (u := U) (U := U.calling g mk a) (Vm.Alike.refl U.vm) q3, AOs.moved (u := U) (U := U.calling g mk a) (Vm.Alike.refl U.vm) q4⟩, q5, q6⟩
theorem w_callQ {p : Program} {l : Launch} {e : Env} {R : Room} {s : State} {m : MethodId} {args : Array Value} {below : List Frame} {meth : Method} {c : Code} {H H0 : Heap} {locs : List Loc} {cells slots mc ms pc : Nat} {Q : State → Prop} {ls : Array Slot} {st0 rest : List Value} {P : State → Prop} {A0 A1 : Nat → Prop} {free : Addr → Prop} (hr : va_Run p l e R s m args below meth c H locs cells slots mc ms (F0 m pc ls st0) rest (fun st oc t => oc = .returned none ∧ P t ∧ va_F A1 st t) free) (hS : va_S A0 H0 H locs) (hA : ∀ q, q < H.size → A1 q → A0 q) (hf : ∀ q, free q → A0 q)
    (kk : ∀ (t : State) (H1 : Heap) (locs1 : List Loc), t.heap = H1 → P t → va_S A0 H0 H1 locs1 → W p l e R s m args below meth c H1 locs1 (cells + mc) (slots + ms) Q (F0 m (pc + 3) ls rest)) : W p l e R s m args below meth c H locs cells slots Q (F0 m pc ls st0) := by
  intro T hT X
  obtain ⟨v, st₀, t, T', L, h0, X', hL, e1, e2, ⟨hv, hp, hz, hk⟩, st⟩ := hr T hT X
  cases hv
  rw [h0] at hz hk
  obtain ⟨t2, a1, b1⟩ := kk t T'.heap (locs ++ L) e1.symm hp
    ⟨Nat.le_trans hS.1 (by rw [e1]; exact hz), fun q h1 h2 => by rw [e1, hk q (Nat.lt_of_lt_of_le h1 hS.1) (fun z => h2 (hA q (Nat.lt_of_lt_of_le h1 hS.1) z))]; exact hS.2.1 q h1 h2, fun q hq => by
      rcases List.mem_append.mp hq with h | h
      · exact hS.2.2 q h
      · exact hf _ (hL q h)⟩ T' rfl X'
  exact ⟨t2, st t2 a1, b1⟩
set_option maxHeartbeats 4000000 in
set_option maxRecDepth 100000 in
theorem whole_start {p : Program} {e : Env} {s : State} {m : MethodId} {below : List Frame} {meth : Method} {c : Code} (l : Launch) (hlt : l.stackTraces = false) {b L : Nat} {xs : Nat → Int32} (hL : L ≤ 384) (C0 : lw_At p s m meth c b L xs) : W p l e room_1 s m #[Value.ref b] below meth c s.heap [] 0 0 (lw_Z below #[Value.ref b] s) (entryFrame m ([Value.ref b] : List Value).toArray 7) := by
  obtain ⟨hx, hb, hr, hml, hown, hts0, hX, hbl, hlocks, hgv⟩ := C0
  have hts : ∀ w ∈ wsL_law0, w.before #[Value.ref b] s = true := fun w h => hts0 w (tk_all w h)
  obtain ⟨D, hKc⟩ := kn_all hts
  obtain ⟨cy, hcy⟩ := cy_all hts0
  have hK : va_K D vwCl (tysOf cy) s := ⟨hKc, hcy⟩
  have hO : AOs s := ao_all hts0
  obtain ⟨adS, hE⟩ := ex_all hgv hts0
  obtain ⟨S1, hS1, hInv⟩ := p_init
  have hA : ∀ q : Nat, s.heap.size ≤ q → (fun q : Nat => s.heap.size ≤ q) q := fun _ h => h
  have hown' : s.vm.findClass RL = some m.cls := hown
  have hP0 : va_P D vwCl [] s.heap := fun k q h => by simp at h
  have hD0 : va_D (fun q : Nat => s.heap.size ≤ q) [] := ⟨fun i j p q h => by simp at h, fun k q h => by simp at h⟩
  have hl := lv_entry ([.ref b]) (n := 7) (Nat.le_of_ble_eq_true rfl)
  rw [lg_entry_eq]
  generalize (lg_sl ([.ref b]) ++ List.replicate (7 - (lg_sl ([.ref b])).length) Slot.unset).toArray = ls at hl ⊢
  have hl : lv_has ls c.maxLocals [(0, .ref b)] := by rw [hml]; exact hl
  -- the class
  refine va_new (ci := 10) (fs := [.null, .null, .null, .null, .null, .null, .null, .null, .null, .null, .null, .int 0, .null, .null, .int 0]) hx hb hts cd_10.2.2.2.1 tyX10 cd_10.2.2.2.2.1 hown' (hts _ (inr_1 _ (List.mem_of_getElem? (i := 0) rfl))) (hts _ (inr_1 _ (List.mem_of_getElem? (i := 1) rfl))) (hts _ (inr_1 _ (List.mem_of_getElem? (i := 2) rfl))) hK hP0 hD0 va_S.rf hA cd_10.1 fs_10 (Nat.le_of_ble_eq_true rfl) (Nat.le_of_ble_eq_true rfl) dS_law_0 (fun q1 H1 hP1 hD1 hS1' => ?_)
  refine lv_dup hx hb dS_law_3 rfl ?_
  have hPc := sufP hP1
  have hDc := sufD hD1
  have hFc : ∀ x, va_A [(q1, .inr (10, [.null, .null, .null, .null, .null, .null, .null, .null, .null, .null, .null, .int 0, .null, .null, .int 0]))] H1.size x → s.heap.size ≤ x := fun x hx => by
    rcases hx with ⟨k0, e0, hk0⟩ | hx
    · have := hDc.2 k0 (x, e0) hk0; exact this
    · exact Nat.le_trans hS1'.1 hx
  refine va_callv (va_runI (As := []) (rest := [.ref q1]) (nL := c.maxLocals) ⟨hx, hb, rfl, hown', hts⟩ (tX10_init l D cy q1 H1.size) ⟨callB_of 0 hts (good_w (inr_1 _ (List.mem_of_getElem? (i := 9) rfl))) rfl rfl rfl (hts _ (inr_1 _ (List.mem_of_getElem? (i := 2) rfl))) (hts _ (inr_1 _ (List.mem_of_getElem? (i := 7) rfl))) ⟨by decide, by decide, by decide +kernel⟩ ⟨Nat.le_of_ble_eq_true rfl, Nat.le_of_ble_eq_true rfl⟩, rfl, hts _ (inr_1 _ (List.mem_of_getElem? (i := 8) rfl))⟩ ⟨blind_I, fun U hU hW => ⟨rfl, by rw [hU], by rw [hU]; exact hPc, ⟨va_K.moved hW.alike hK, hO.moved hW.alike⟩, hDc.weaken (fun _ _ _ _ => trivial)⟩⟩ rfl rfl hl.1 rfl (Nat.le_of_ble_eq_true rfl) dS_law_4 ⟨Nat.le_of_ble_eq_true rfl, Nat.le_of_ble_eq_true rfl⟩) hS1' (fun x _ h => hFc x h) hFc (fun uq t H2 locs2 ht hvm hw hB hz1 hk1 hS2 => ?_)
  obtain ⟨hP2, hD2⟩ := hB
  rw [ht] at hP2
  obtain ⟨hP3, hD3⟩ := joinL hP1 hD1 hk1 hFc hP2 hD2
  rw [List.nil_append] at hP3 hD3
  refine lv_astore_n (lv' := [(1, .ref q1), (0, .ref b)]) hx hb dS_law_7 rfl hl (by rw [hml]; decide) rfl (fun ls hl => ?_)
  -- the reference
  refine va_new (ci := 11) (fs := ini11) hx hb hts cd_11.2.2.2.1 tyX11 cd_11.2.2.2.2.1 hown' (hts _ (inr_1 _ (List.mem_of_getElem? (i := 3) rfl))) (hts _ (inr_1 _ (List.mem_of_getElem? (i := 4) rfl))) (hts _ (inr_1 _ (List.mem_of_getElem? (i := 5) rfl))) hK hP3 hD3 hS2 hA cd_11.1 fs_11 (Nat.le_of_ble_eq_true rfl) (Nat.le_of_ble_eq_true rfl) dS_law_8 (fun q2 H3 hP4 hD4 hS3 => ?_)
  refine lv_dup hx hb dS_law_11 rfl ?_
  have perm : List.Perm (α := Nat × va_E) (bk10 cy uq ++ [(q2, .inr (11, ini11))]) ((q2, .inr (11, ini11)) :: bk10 cy uq) := List.perm_append_comm
  have hP5 := vaP_perm perm hP4
  have hD5 := vaD_perm perm hD4
  have hF5 : ∀ x, va_A ((q2, .inr (11, ini11)) :: bk10 cy uq) H3.size x → s.heap.size ≤ x := fun x hx => by
    rcases hx with ⟨k0, e0, hk0⟩ | hx
    · have := hD5.2 k0 (x, e0) hk0; exact this
    · exact Nat.le_trans hS3.1 hx
  refine w_callQ (va_runI (As := []) (rest := [.ref q2]) (nL := c.maxLocals) ⟨hx, hb, rfl, hown', hts⟩ (tX11_init l D cy uq adS q2 H3.size S1 hS1) ⟨callB_of 0 hts (good_w (inr_6 _ (List.mem_of_getElem? (i := 13) rfl))) rfl rfl rfl (hts _ (inr_1 _ (List.mem_of_getElem? (i := 5) rfl))) (hts _ (inr_6 _ (List.mem_of_getElem? (i := 11) rfl))) ⟨by decide, by decide, by decide +kernel⟩ ⟨Nat.le_of_ble_eq_true rfl, Nat.le_of_ble_eq_true rfl⟩, rfl, hts _ (inr_6 _ (List.mem_of_getElem? (i := 12) rfl))⟩ ⟨blind_M, fun U hU hW => ⟨rfl, by rw [hU], by rw [hU]; exact hP5, ⟨va_K.moved hW.alike hK, hO.moved hW.alike⟩, hD5.weaken (fun _ _ _ _ => trivial), (hE.next hS3 hU hW).sub hF5⟩⟩ rfl rfl hl.1 rfl (Nat.le_of_ble_eq_true rfl) dS_law_12 ⟨Nat.le_of_ble_eq_true rfl, Nat.le_of_ble_eq_true rfl⟩) hS3 (fun x _ h => hF5 x h) hF5 (fun t H4 locs4 ht had hS4 => ?_)
  obtain ⟨ad, a1, a2, a3, a4, a5, a6⟩ := had
  rw [ht] at a6
  have hIA : ∀ q, InA ad q → s.heap.size ≤ q := fun q h => hF5 q (a5 q h)
  have ad0 : ad 0 = q1 := (a1 0 (by decide)).trans ((congrArg uq (show pm 0 = 0 by decide +kernel)).trans hw)
  have hE2 : Ex ad (fun q => s.heap.size ≤ q) s := hE.strs (fun i hi => a3 i hi)
  refine lv_astore_n (lv' := [(2, .ref q2), (1, .ref q1), (0, .ref b)]) hx hb dS_law_15 rfl hl (by rw [hml]; decide) rfl (fun ls hl => ?_)
  refine lv_iconst (v := 1) hx hb dS_law_16 (by decide) ?_
  refine va_newa (atype := .long) (ty := .long) (N' := 1) (a0 := (1, .inr (.inl (fun _ => 0)))) hx hb (hts0 _ ar_in.2.2.1) rfl hK a6 (pw_DA (pw_D a4) hIA) hS4 hA (fun _ => rfl) (by decide) rfl (by decide) (Nat.le_of_ble_eq_true rfl) (Nat.le_of_ble_eq_true rfl) dS_law_17 (fun u cA H5 hK5 hP6 hD6 hS5 => ?_)
  have hlen : (pw ad cy S1).length = 156 := pw_len ad cy S1
  have hcA : cA = cy 32 := by
    have h1 := (hK5.2 31 (cA, .long) (by rw [List.getElem?_append_right (by simp [tysOf])]; simp [tysOf])).2
    have h2 := (hK.2 20 (cy 32, .long) (tys_at cy (kd := 32) rfl (by decide))).2
    exact Option.some.inj (h1.symm.trans h2)
  subst hcA
  have hPo : OutW D cy u (fun _ => 0) H5 := sufP hP6
  have hPp : va_P D vwCl (pw ad cy S1) H5 := va_P.by hP6 (fun k => k) (fun k q hk => by rw [List.getElem?_append_left (List.getElem?_eq_some_iff.mp hk).1]; exact hk)
  have hAu : s.heap.size ≤ u := (sufD hD6).2 0 _ rfl
  have hu : ¬ InA ad u := fun ⟨i, hi, e⟩ => by
    have h1 : (pw ad cy S1 ++ [(u, .inl (cy 32, 1, .inr (.inl (fun _ => 0))))])[i]? = some (ad i, cel ad cy S1 i) := by rw [List.getElem?_append_left (by rw [hlen]; exact hi)]; exact pw_get hi
    have h2 : (pw ad cy S1 ++ [(u, .inl (cy 32, 1, .inr (.inl (fun _ => 0))))])[156]? = some (u, .inl (cy 32, 1, .inr (.inl (fun _ => 0)))) := by rw [List.getElem?_append_right (by rw [hlen]; exact Nat.le_refl _), hlen]; rfl
    have := hD6.1 i 156 _ _ h1 h2 e.symm
    omega
  refine lv_astore_n (lv' := [(3, .ref u), (2, .ref q2), (1, .ref q1), (0, .ref b)]) hx hb dS_law_19 rfl hl (by rw [hml]; decide) rfl (fun ls hl => ?_)
  refine lv_iconst (v := 0) hx hb dS_law_20 (by decide) ?_
  refine lv_istore (lv' := [(4, .int 0), (3, .ref u), (2, .ref q2), (1, .ref q1), (0, .ref b)]) hx hb dS_law_21 hl (by rw [hml]; decide) rfl (fun ls hl => ?_)
  have X : LX p l e s m b below meth c D cy (lw_Z below #[Value.ref b] s) ad := fun k n F hk hn hF => ⟨hx, hb, hml, hown', hts, hr, hlocks, ⟨Nat.le_of_ble_eq_true rfl, Nat.le_of_ble_eq_true rfl, hk, hn⟩, hK, hE2, a4, ⟨hF, fun h => absurd h (by decide)⟩, fun h => absurd h (by decide), hIA⟩
  have go := law_all (o := (none, S1)) (u := u) (L := L) (xs := xs) X (fun k n F => ⟨hX, hbl, Nat.not_le.mpr hbl, hL⟩) hlt hL hu hAu (fun k n i S hk hn => by
    refine g_iconst (v := 1) (X k n (OutE D cy u) hk hn (outE_st hu)) dS_law_1621 (by decide) ?_
    intro H locs ls hP hS hF hl
    exact va_forget (fun q hq => hS.2.2 q hq) (W.widen hk hn (lw_ret hx hb hr hlocks dS_law_1622))) 67 0 157 4600 (by omega) (by omega) (by omega) (by omega) S1 hInv H5 locs4 ls hPp hS5 ⟨_, hPo⟩ (by rw [ad0, a2]; exact lv_sub hl [4, 3, 2, 1, 0] rfl)
  exact W.widen (Nat.le_of_ble_eq_true rfl) (Nat.le_of_ble_eq_true rfl) go
