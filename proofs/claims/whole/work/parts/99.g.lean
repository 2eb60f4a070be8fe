-- what is thrown
abbrev xws : List Cond := vx_at0 RX10 124 "java/util/NoSuchElementException" ["java/lang/RuntimeException", "java/lang/Exception"]
theorem xw_in : ∀ w ∈ xws, w ∈ lw_tbl := by decide +kernel
theorem xw_ot : ∀ w ∈ Cond.classLink RX10 122 "java/util/NoSuchElementException" :: Cond.initialized "java/util/NoSuchElementException" :: xws, vx_ot w = true := by decide +kernel
theorem xw_k : Cond.classLink RX10 122 "java/util/NoSuchElementException" ∈ lw_tbl ∧ Cond.initialized "java/util/NoSuchElementException" ∈ lw_tbl ∧ Cond.laysStatic Bundle.tN "UNASSIGNED_STACK" Bundle.steD ∈ lw_tbl ∧ Cond.laysStatic Bundle.tN "SUPPRESSED_SENTINEL" Bundle.listD ∈ lw_tbl ∧ Cond.initialized Bundle.tN ∈ lw_tbl ∧ Cond.classLink RL 13 "java/util/NoSuchElementException" ∈ lw_tbl := by decide +kernel
theorem xw_c : Cond.castable "java/util/NoSuchElementException" "java/util/NoSuchElementException" ∈ xws := by decide +kernel
def xw_dc : Cond → Bool
  | .declares _ => true
  | .castable _ _ => true
  | _ => false
theorem xw_dcs : ∀ w ∈ xws.filter (fun w => !goodWord w), xw_dc w = true := by decide +kernel
theorem xw_mv {a a' : Array Value} {s U : State} (hW : s.WarmedH U.vm) (w : Cond) (hd : xw_dc w = true) (h : w.before a s = true) : w.before a' U = true := by
  cases w with
  | declares x => exact va_tabs (c := .declares x) rfl (rfl : (s.setVm U.vm).vm = U.vm) (by rw [Cond.declares_setVm hW.alike]; exact h)
  | castable x y => exact va_tabs (c := .castable x y) rfl (rfl : (s.setVm U.vm).vm = U.vm) (by rw [Cond.castable_setVm hW.alike]; exact h)
  | _ => exact Bool.noConfusion (show false = true from hd)
theorem ex_x {ad : Nat → Nat} {A : Nat → Prop} {U : State} (h : Ex ad A U) (a : Array Value) : ∀ w ∈ xws, w.before a U = true := by
  obtain ⟨s0, b, h1, h1t, h2, -⟩ := h
  intro w hw
  by_cases g : goodWord w = true
  · exact word_at h2 (good_of_word g) (h1t w (xw_in w hw))
  · refine xw_mv h2 w (xw_dcs w (List.mem_filter.mpr ⟨hw, ?_⟩)) (h1t w (xw_in w hw))
    show (!goodWord w) = true
    cases hgw : goodWord w
    · rfl
    · exact absurd hgw g
theorem ex_g {ad : Nat → Nat} {A : Nat → Prop} {U : State} (h : Ex ad A U) (a : Array Value) {w : Cond} (hw : w ∈ lw_tbl) (g : goodWord w = true) : w.before a U = true := by
  obtain ⟨s0, b, h1, h1t, h2, -⟩ := h
  exact word_at h2 (good_of_word g) (h1t w hw)
theorem ex_zu {ad : Nat → Nat} {A : Nat → Prop} {U : State} (h : Ex ad A U) : vx_Zq Bundle.tN "UNASSIGNED_STACK" Bundle.steD A U U.heap := by
  obtain ⟨s0, b, h1, h1t, h2, h3, h4, h5, -⟩ := h
  have hs := flat_of_before _ h1
  have hA' : ∀ a : Nat, a < s0.heap.size → ¬ A a := fun a ha q => by have := h5 a q; omega
  have hZ := vx_Zqof (A := A) (h1t _ xw_k.2.2.1) (h1t _ xw_k.2.2.2.2.1) (hs (.isRef (.static Bundle.tN "UNASSIGNED_STACK" Bundle.steD)) (by decide +kernel)) hA'
  exact (vx_Zq.moved h2.alike hZ).kept (fun a ha _ => h4 a ha)
theorem ex_zn {ad : Nat → Nat} {A : Nat → Prop} {U : State} (h : Ex ad A U) : vx_Zq Bundle.tN "SUPPRESSED_SENTINEL" Bundle.listD A U U.heap := by
  obtain ⟨s0, b, h1, h1t, h2, h3, h4, h5, -⟩ := h
  have hs := flat_of_before _ h1
  have hA' : ∀ a : Nat, a < s0.heap.size → ¬ A a := fun a ha q => by have := h5 a q; omega
  have hZ := vx_Zqof (A := A) (h1t _ xw_k.2.2.2.1) (h1t _ xw_k.2.2.2.2.1) (hs (.isRef (.static Bundle.tN "SUPPRESSED_SENTINEL" Bundle.listD)) (by decide +kernel)) hA'
  exact (vx_Zq.moved h2.alike hZ).kept (fun a ha _ => h4 a ha)
def rmX (n : Nat) : Room := { frames := n, cells := 1, slots := 6, locals := 60 * n }
def BXn (ad : Nat → Nat) (D : va_G) (cy : Nat → ClassId) (S : St) : String → Unit → State → Prop := fun E _ t => E = "java/util/NoSuchElementException" ∧ va_P D vwCl (pw ad cy S) t.heap
/-- the contract of a call that throws -/
def OkX (l : Launch) (y : MethodName) (cc : ByteArray) (maxL : Nat) (ret : Option FieldType) (ad : Nat → Nat) (D : va_G) (cy : Nat → ClassId) (as : List Value) (S : St) : Prop :=
  vx_Met l y (.code y cc maxL ret :: wsL_law0) (rmX 1000) (va_Pc as (fun U => PoolAt ad D cy S U)) (va_Qi (fun _ (_ : Unit) => False) (fun _ _ => True) (InA ad)) (vx_X (fun _ : Unit => True) (BXn ad D cy S) (InA ad)) 1 6 (InA ad)
theorem okX_of {l : Launch} {y : MethodName} {cc : ByteArray} {maxL : Nat} {ret : Option FieldType} {ad : Nat → Nat} {D : va_G} {cy : Nat → ClassId} {as : List Value} {S : St} {pc : Nat} (hlt : l.stackTraces = false) (hI : Inj ad) (hy : plainName y.cls = true) (hyc : y.cls = RX10) (hlen : (lg_sl as).length ≤ maxL) (d0 : decode cc pc = .ok (.new 122, 3)) (d3 : decode cc (pc + 3) = .ok (.dup, 1)) (d4 : decode cc (pc + 4) = .ok (.invokespecial 124, 3)) (d7 : decode cc (pc + 7) = .ok (.athrow, 1))
    (body : ∀ z : Mx, CxOk z ad RX10 cc maxL ret 1000 → GW z ad (none, S) S pc [] [] → GW z ad (none, S) S 0 (lv_args 0 as) []) : OkX l y cc maxL ret ad D cy as S := by
  refine vx_ofW (cc := cc) (maxL := maxL) (ret := ret) hy rfl ?_
  intro p e s m args below meth c s₁ B hml ht hv
  obtain ⟨rfl, hP, hK, hE⟩ := hv
  have hts := atoms_spec (ws := .code y cc maxL ret :: wsL_law0) B.pre
  have hown : s.vm.findClass RX10 = some m.cls := by rw [← hyc]; exact findClass_of_methodNamed B.named
  have hl := lv_entry as (n := maxL) hlen
  rw [lg_entry_eq]
  refine body ((p, l, e, (headSpec (Cond.code y cc maxL ret :: wsL_law0) (rmX 1000)).room, s, m, as.toArray, below, meth, c), D, cy, (fun _ => vx_MQ below (va_Qi (fun _ (_ : Unit) => False) (fun _ _ => True) (InA ad)) (vx_X (fun _ : Unit => True) (BXn ad D cy S) (InA ad)) as.toArray s 1 6 (InA ad)), 0, 0, (fun _ => True), InA ad) ⟨B.exec, B.bytes, hml, hown, fun w hw => hts w (List.mem_cons_of_mem _ hw), B.returns, B.notSynchronized, ⟨Nat.le_refl _, Nat.le_refl _, Nat.zero_le _, Nat.zero_le _⟩, hK, hE, hI, ⟨fun _ _ _ _ _ => trivial, fun _ _ _ _ => trivial⟩, fun h => absurd h (Nat.lt_irrefl _), fun _ q => q⟩ ?_ s.heap [] _ hP va_S.rf trivial (by rw [hml]; exact hl)
  intro H locs ls hP1 hS1 _ hl1
  have hk := ex_g hE as.toArray xw_k.1 (by decide +kernel)
  have hini := ex_g hE as.toArray xw_k.2.1 (by decide +kernel)
  refine vx_throw0 (A := InA ad) B.exec B.bytes hlt hown (by decide +kernel) (by decide +kernel) hk hini (ex_x hE _) xw_ot (ex_zu hE) (ex_zn hE) hS1 hl1.1 d0 d3 d4 d7 (fun x hx => (ht x hx).elim) ?_ ?_ ?_ ?_ B.notSynchronized (fun t ha hz hq => ⟨(), trivial, ⟨rfl, hP1.kept (fun k q hk => hq q.1 (hP1 k q hk).lt)⟩, ?_⟩) hS1.2.2 (Nat.le_refl _) (Nat.le_refl _)
  · show 2 + 3 < 1000; decide
  · show 0 + (13 * (2 + 1) + 42) ≤ 60 * 1000; decide
  · exact Nat.le_refl _
  · exact Nat.le_refl _
  · exact ⟨Nat.le_trans hS1.1 hz, fun q h1 h2 => (hq q (Nat.lt_of_lt_of_le h1 hS1.1)).trans (hS1.2.1 q h1 h2)⟩
theorem xX10_parish {ad : Nat → Nat} (hI : Inj ad) (l : Launch) (hlt : l.stackTraces = false) (D : va_G) (cyy : Nat → ClassId) (x1 : Int32) (x2 : Int32) (S : St) (hF : fX8_hasParish 4 x1 S = 0 ∨ x2 < 0 ∨ ¬ x2 ≤ 8) : OkX l yX10_parish cX10_parish 5 (some .int) ad D cyy [.ref (ad 0), .int x1, .int x2] S := okX_of hlt hI (by decide) rfl (by show _ ≤ 5; exact Nat.le_of_ble_eq_true rfl) dX10_parish_24 dX10_parish_27 dX10_parish_28 dX10_parish_31 (fun z X hT => by
  have h0 : KT 0 = 10 := by decide +kernel
  show GW z ad (none, S) S 0 [(0, .ref (ad 0)), (1, .int x1), (2, .int x2)] []
  refine g_aload_n X dX10_parish_0 0 rfl rfl ?_
  refine g_getR (f := 3) X dX10_parish_1 flX10_19 rfl rfl h0 ?_
  refine g_getR (f := 1) X dX10_parish_4 flX10_116 rfl rfl (on_10_1 h0) ?_
  refine g_iload_n X dX10_parish_7 1 rfl rfl ?_
  refine g_callVi (As := [.int x1]) X dX10_parish_8 mlX10_119 (fun l D cyy => tX8_hasParish (cx_inj X) l D cyy ((0 + 3) + 1) x1 (on_9_0 (on_10_1 h0)) S) (on_9_0 (on_10_1 h0)) (by decide) rfl rfl (Nat.le_of_ble_eq_true rfl) ?_
  refine g_if_eq (tgt := 24) X dX10_parish_11 (by decide) (fun c_1 => ?_) (fun c_1 => ?_)
  · exact g_perm [] rfl hT
  · refine g_iload_n X dX10_parish_14 2 rfl rfl ?_
    refine g_if_lt (tgt := 24) X dX10_parish_15 (by decide) (fun c_2 => ?_) (fun c_2 => ?_)
    · exact g_perm [] rfl hT
    · refine g_iload_n X dX10_parish_18 2 rfl rfl ?_
      refine g_bipush (v := 8) X dX10_parish_19 (by decide) ?_
      refine g_icmp_le (tgt := 32) X dX10_parish_21 (by decide) (fun c_3 => ?_) (fun c_3 => ?_)
      · exact (hF.elim c_1 (fun h => h.elim c_2 (fun h => h c_3))).elim
      · exact g_perm [] rfl hT)
theorem xX10_drift {ad : Nat → Nat} (hI : Inj ad) (l : Launch) (hlt : l.stackTraces = false) (D : va_G) (cyy : Nat → ClassId) (x1 : Int32) (x2 : Int32) (S : St) (hF : fX8_hasParish 4 x1 S = 0 ∨ x2 < 0 ∨ ¬ x2 ≤ 1) : OkX l yX10_drift cX10_drift 3 (some .int) ad D cyy [.ref (ad 0), .int x1, .int x2] S := okX_of hlt hI (by decide) rfl (by show _ ≤ 3; exact Nat.le_of_ble_eq_true rfl) dX10_drift_23 dX10_drift_26 dX10_drift_27 dX10_drift_30 (fun z X hT => by
  have h0 : KT 0 = 10 := by decide +kernel
  show GW z ad (none, S) S 0 [(0, .ref (ad 0)), (1, .int x1), (2, .int x2)] []
  refine g_aload_n X dX10_drift_0 0 rfl rfl ?_
  refine g_getR (f := 3) X dX10_drift_1 flX10_19 rfl rfl h0 ?_
  refine g_getR (f := 1) X dX10_drift_4 flX10_116 rfl rfl (on_10_1 h0) ?_
  refine g_iload_n X dX10_drift_7 1 rfl rfl ?_
  refine g_callVi (As := [.int x1]) X dX10_drift_8 mlX10_119 (fun l D cyy => tX8_hasParish (cx_inj X) l D cyy ((0 + 3) + 1) x1 (on_9_0 (on_10_1 h0)) S) (on_9_0 (on_10_1 h0)) (by decide) rfl rfl (Nat.le_of_ble_eq_true rfl) ?_
  refine g_if_eq (tgt := 23) X dX10_drift_11 (by decide) (fun c_1 => ?_) (fun c_1 => ?_)
  · exact g_perm [] rfl hT
  · refine g_iload_n X dX10_drift_14 2 rfl rfl ?_
    refine g_if_lt (tgt := 23) X dX10_drift_15 (by decide) (fun c_2 => ?_) (fun c_2 => ?_)
    · exact g_perm [] rfl hT
    · refine g_iload_n X dX10_drift_18 2 rfl rfl ?_
      refine g_iconst (v := 1) X dX10_drift_19 (by decide) ?_
      refine g_icmp_le (tgt := 31) X dX10_drift_20 (by decide) (fun c_3 => ?_) (fun c_3 => ?_)
      · exact (hF.elim c_1 (fun h => h.elim c_2 (fun h => h c_3))).elim
      · exact g_perm [] rfl hT)
