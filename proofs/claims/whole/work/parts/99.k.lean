-- what the law's start gives
theorem kn_of {s : State} {args : Array Value} {c : Nat} {C : String} {T : u_T} {N : Nat} {ty0 : Nat → FieldType} (h : CD c C T N ty0) (hi : Cond.instantiable C N ∈ wsL_law0) (hts : ∀ w ∈ wsL_law0, w.before args s = true) : ∃ d : ClassId × (Nat → Nat), ∀ q, vwCl[c]? = some q → u_Kn s q.1 q.2.1 q.2.2 d.1 d.2 := by
  obtain ⟨cC, iS, hk⟩ := u_known hts h.2.2.2.1 (hts _ hi)
  exact ⟨(cC, iS), fun q hq => by rw [h.1] at hq; cases hq; exact hk⟩
theorem kn_all {s : State} {args : Array Value} (hts : ∀ w ∈ wsL_law0, w.before args s = true) : ∃ D : va_G, ∀ (c : Nat) (q : vw_C), vwCl[c]? = some q → u_Kn s q.1 q.2.1 q.2.2 (D.1 c) (D.2 c) := by
  have h : ∀ c : Nat, ∃ d : ClassId × (Nat → Nat), ∀ q, vwCl[c]? = some q → u_Kn s q.1 q.2.1 q.2.2 d.1 d.2 := fun c => by
    match c with
    | 0 => exact kn_of cd_0 (inr_2 _ (List.mem_of_getElem? (i := 10) rfl)) hts
    | 1 => exact kn_of cd_1 (inr_2 _ (List.mem_of_getElem? (i := 6) rfl)) hts
    | 2 => exact kn_of cd_2 (inr_2 _ (List.mem_of_getElem? (i := 20) rfl)) hts
    | 3 => exact kn_of cd_3 (inr_4 _ (List.mem_of_getElem? (i := 8) rfl)) hts
    | 4 => exact kn_of cd_4 (inr_4 _ (List.mem_of_getElem? (i := 6) rfl)) hts
    | 5 => exact kn_of cd_5 (inr_2 _ (List.mem_of_getElem? (i := 2) rfl)) hts
    | 6 => exact kn_of cd_6 (inr_1 _ (List.mem_of_getElem? (i := 14) rfl)) hts
    | 7 => exact kn_of cd_7 (inr_2 _ (List.mem_of_getElem? (i := 14) rfl)) hts
    | 8 => exact kn_of cd_8 (inr_1 _ (List.mem_of_getElem? (i := 22) rfl)) hts
    | 9 => exact kn_of cd_9 (inr_1 _ (List.mem_of_getElem? (i := 18) rfl)) hts
    | 10 => exact kn_of cd_10 (inr_1 _ (List.mem_of_getElem? (i := 1) rfl)) hts
    | 11 => exact kn_of cd_11 (inr_1 _ (List.mem_of_getElem? (i := 4) rfl)) hts
    | n + 12 => exact ⟨(kn_of cd_0 (inr_2 _ (List.mem_of_getElem? (i := 10) rfl)) hts).choose, fun q hq => nomatch (show (none : Option vw_C) = some q from hq)⟩
  exact ⟨(fun c => (h c).choose.1, fun c => (h c).choose.2), fun c q hq => (h c).choose_spec q hq⟩
theorem ar_in : Cond.arrayClass .byte ∈ lw_tbl ∧ Cond.arrayClass .int ∈ lw_tbl ∧ Cond.arrayClass .long ∈ lw_tbl ∧ Cond.arrayClass .boolean ∈ lw_tbl ∧ Cond.arrayOver (.object RX4) ∈ lw_tbl ∧ Cond.arrayOver (.object RX3) ∈ lw_tbl ∧ Cond.arrayOver (.object RX2) ∈ lw_tbl ∧ Cond.arrayOver (.object RX9) ∈ lw_tbl := by decide +kernel
theorem ar_ty : ∀ ty ∈ ETL, ty = .byte ∨ ty = .int ∨ ty = .long ∨ ty = .boolean ∨ ty = .object RX4 ∨ ty = .object RX3 ∨ ty = .object RX2 ∨ ty = .object RX9 := by decide +kernel
theorem ar_etl : ∀ k, k < 31 → ETL.getD k .int ∈ ETL := by decide +kernel
theorem ar_of {s : State} {args : Array Value} {C : String} (h : (Cond.arrayOver (.object C)).before args s = true) : ∃ cA, ArrOfT s cA (.object C) ∧ va_RA s cA (.object C) := by
  obtain ⟨comp, c, k, h1, h2, h3, h4, h5⟩ := Cond.arrayOver_spec h
  exact ⟨c, fun n z => ⟨fun k h => (by cases h), k, h3, comp, h4⟩, k, comp, h3, h4, h1, h5⟩
theorem ar_all {s : State} {args : Array Value} (hts : ∀ w ∈ lw_tbl, w.before args s = true) : ∀ ty ∈ ETL, ∃ cA, ArrOfT s cA ty ∧ va_RA s cA ty := by
  intro ty h
  rcases ar_ty ty h with rfl | rfl | rfl | rfl | rfl | rfl | rfl | rfl
  · obtain ⟨c, k, comp, h1, h2, h3⟩ := Cond.arrayClass_spec (hts _ ar_in.1)
    exact ⟨c, fun n z => ⟨fun k h => (by cases h), k, h2, comp, h3⟩, h1⟩
  · obtain ⟨c, k, comp, h1, h2, h3⟩ := Cond.arrayClass_spec (hts _ ar_in.2.1)
    exact ⟨c, fun n z => ⟨fun k h => (by cases h), k, h2, comp, h3⟩, h1⟩
  · obtain ⟨c, k, comp, h1, h2, h3⟩ := Cond.arrayClass_spec (hts _ ar_in.2.2.1)
    exact ⟨c, fun n z => ⟨fun k h => (by cases h), k, h2, comp, h3⟩, h1⟩
  · obtain ⟨c, k, comp, h1, h2, h3⟩ := Cond.arrayClass_spec (hts _ ar_in.2.2.2.1)
    exact ⟨c, fun n z => ⟨fun k h => (by cases h), k, h2, comp, h3⟩, h1⟩
  · exact ar_of (hts _ ar_in.2.2.2.2.1)
  · exact ar_of (hts _ ar_in.2.2.2.2.2.1)
  · exact ar_of (hts _ ar_in.2.2.2.2.2.2.1)
  · exact ar_of (hts _ ar_in.2.2.2.2.2.2.2)
theorem cy_all {s : State} {args : Array Value} (hts : ∀ w ∈ lw_tbl, w.before args s = true) : ∃ cy : Nat → ClassId, ∀ (k : Nat) (q : ClassId × FieldType), (tysOf cy)[k]? = some q → ArrOfT s q.1 q.2 ∧ va_RA s q.1 q.2 := by
  have h : ∀ k : Nat, ∃ cA : ClassId, k < 31 → ArrOfT s cA (ETL.getD k .int) ∧ va_RA s cA (ETL.getD k .int) := fun k => by
    by_cases hk : k < 31
    · obtain ⟨cA, h1⟩ := ar_all hts (ETL.getD k .int) (ar_etl k hk)
      exact ⟨cA, fun _ => h1⟩
    · obtain ⟨cA, h1⟩ := ar_all hts (ETL.getD 0 .int) (ar_etl 0 (by decide))
      exact ⟨cA, fun q => absurd q hk⟩
  refine ⟨fun k => (h (k - 12)).choose, fun k q hq => ?_⟩
  unfold tysOf at hq
  rw [List.getElem?_map] at hq
  rcases Nat.lt_or_ge k 31 with hk | hk
  · rw [List.getElem?_range hk] at hq
    have e := Option.some.inj hq
    rw [← e]
    show ArrOfT s (h (k + 12 - 12)).choose _ ∧ va_RA s (h (k + 12 - 12)).choose _
    rw [Nat.add_sub_cancel]
    exact (h k).choose_spec hk
  · rw [List.getElem?_eq_none (by simpa using hk)] at hq
    cases hq
theorem sx_1 : ∀ i, i < 5 → Cond.exactly (.string RX7 (sxI.getD i 0)) "java/lang/String" ∈ flatC (Jvm.Cond.and given_1 narrow_1) := by decide +kernel
theorem sx_2 : ∀ i, i < 5 → Cond.eq (.field (.string RX7 (sxI.getD i 0)) "java/lang/String" "coder" "B") (.int 0) ∈ flatC (Jvm.Cond.and given_1 narrow_1) := by decide +kernel
theorem sx_3 : ∀ i, i < 5 → Cond.arrayOf (.field (.string RX7 (sxI.getD i 0)) "java/lang/String" "value" "[B") .byte ∈ flatC (Jvm.Cond.and given_1 narrow_1) := by decide +kernel
theorem sx_4 : ∀ i, i < 5 → Cond.eq (.length (.field (.string RX7 (sxI.getD i 0)) "java/lang/String" "value" "[B")) (.int (Int32.ofNat (sxLen.getD i 0))) ∈ flatC (Jvm.Cond.and given_1 narrow_1) := by decide +kernel
theorem sx_5 : ∀ i, i < 5 → ∀ j, j < sxLen.getD i 0 → Cond.eq (.elem (.field (.string RX7 (sxI.getD i 0)) "java/lang/String" "value" "[B") (.int (Int32.ofNat j))) (.int ((sxByt.getD i []).getD j 0)) ∈ flatC (Jvm.Cond.and given_1 narrow_1) := by decide +kernel
theorem sx_6 : ∀ i, i < 5 → ∀ j, j < 5 → i ≠ j → Cond.not (Cond.eq (.string RX7 (sxI.getD i 0)) (.string RX7 (sxI.getD j 0))) ∈ flatC (Jvm.Cond.and given_1 narrow_1) ∨ Cond.not (Cond.eq (.string RX7 (sxI.getD j 0)) (.string RX7 (sxI.getD i 0))) ∈ flatC (Jvm.Cond.and given_1 narrow_1) := by decide +kernel
theorem sx_7 : ∀ i, i < 5 → Cond.stringRef RX7 (sxI.getD i 0) (sxT.getD i "") ∈ lw_tbl := by decide +kernel
theorem sx_n : ∀ i, i < 5 → sxLen.getD i 0 < 2 ^ 31 := by decide
theorem ex_all {s : State} {b : Nat} (hgv : (Jvm.Cond.and given_1 narrow_1).before #[Value.ref b] s = true) (hts : ∀ w ∈ lw_tbl, w.before #[Value.ref b] s = true) : ∃ adS : Nat → Nat, Ex adS (fun q => s.heap.size ≤ q) s := by
  have hs := flat_of_before _ hgv
  obtain ⟨adK, adV, h1, h2⟩ := vk_Sof (args := #[Value.ref b]) (s := s) (N := 5) (tm := fun i => .string RX7 (sxI.getD i 0)) (len := sxLen) (byt := sxByt) (A := fun q => s.heap.size ≤ q) sx_n (fun i hi => hs _ (sx_1 i hi)) (fun i hi => hs _ (sx_2 i hi)) (fun i hi => hs _ (sx_3 i hi)) (fun i hi => hs _ (sx_4 i hi)) (fun i hi j hj => hs _ (sx_5 i hi j hj)) (fun i j hi hj hij => (sx_6 i hi j hj hij).imp (hs _) (hs _)) (fun a ha => Nat.not_le.mpr ha)
  have eK : ∀ i, i < 5 → (if 156 + i < 161 then adK (156 + i - 156) else adV (156 + i - 161)) = adK i := fun i hi => by rw [if_pos (by omega), Nat.add_sub_cancel_left]
  have eV : ∀ i, (if 161 + i < 161 then adK (161 + i - 156) else adV (161 + i - 161)) = adV i := fun i => by rw [if_neg (by omega), Nat.add_sub_cancel_left]
  refine ⟨fun j => if j < 161 then adK (j - 156) else adV (j - 161), s, b, hgv, hts, State.WarmedH.refl s, Nat.le_refl _, fun _ _ => rfl, fun _ h => h, ⟨fun i hi => ?_, fun i j hi hj e => ?_⟩, fun i hi => ?_⟩
  · have := h1.1 i hi
    show va_O "java/lang/String" (if 156 + i < 161 then adK (156 + i - 156) else adV (156 + i - 161)) _ s s.heap ∧ va_OF "java/lang/String" "coder" "B" (.int 0) (if 156 + i < 161 then adK (156 + i - 156) else adV (156 + i - 161)) _ s s.heap ∧ va_OF "java/lang/String" "value" "[B" (.ref (if 161 + i < 161 then adK (161 + i - 156) else adV (161 + i - 161))) (if 156 + i < 161 then adK (156 + i - 156) else adV (156 + i - 161)) _ s s.heap ∧ va_T .byte (if 161 + i < 161 then adK (161 + i - 156) else adV (161 + i - 161)) _ _ _ s s.heap
    rw [eK i hi, eV i]; exact this
  · have e' : (if 156 + i < 161 then adK (156 + i - 156) else adV (156 + i - 161)) = (if 156 + j < 161 then adK (156 + j - 156) else adV (156 + j - 161)) := e
    rw [eK i hi, eK j hj] at e'
    exact h1.2 i j hi hj e'
  · show vk_R RX7 (sxI.getD i 0) (sxT.getD i "") (if 156 + i < 161 then adK (156 + i - 156) else adV (156 + i - 161)) s
    rw [eK i hi]
    exact vk_R.of (hts _ (sx_7 i hi)) (h2 i hi)
theorem ao_all {s : State} {args : Array Value} (hts : ∀ w ∈ lw_tbl, w.before args s = true) : AOs s := ⟨va_AO.of (hts _ ar_in.2.2.2.2.1), va_AO.of (hts _ ar_in.2.2.2.2.2.1), va_AO.of (hts _ ar_in.2.2.2.2.2.2.1), va_AO.of (hts _ ar_in.2.2.2.2.2.2.2)⟩
