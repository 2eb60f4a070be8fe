-- acts: hold, skip, days, undo
theorem nI_tN (x : Int32) : nI x.toBitVec.toNat = x := Int32.toBitVec_inj.mp (BitVec.eq_of_toNat_eq (pk_tn x.toBitVec.isLt))
def dsOf (S : St) (n : Nat → Nat) : DS := (fun j => n (52 + j), fun p => gA S 29 142 (59 + p), fun p => gA S 29 142 (64 + p))
theorem ds_C {S : St} {n : Nat → Nat} (w : WI S n) : DC S 18 (n 0) (dsOf S n) := by
  obtain ⟨-, -, -, ⟨c1, c2, c3⟩, c4⟩ := w.cw
  refine ⟨c1, c2, c3, fun p hp => ⟨?_, (w.hs p hp).1, (w.hs p hp).2⟩⟩
  show _ = nI (n (52 + (2 + p)))
  rw [show 52 + (2 + p) = 54 + p by omega]; exact c4 p hp
theorem ds_M {S : St} {n : Nat → Nat} (w : WI S n) : DM S (n 0) (dsOf S n) := by
  have h0 := w.wf.1
  refine ⟨w.mr 0 (by omega), w.mr 52 (by omega), w.mr 53 (by omega), fun p hp => ⟨?_, rfl, rfl⟩⟩
  show _ = nI (n (52 + (2 + p)))
  rw [show 52 + (2 + p) = 54 + p by omega]; exact w.mr _ (by omega)
theorem ds_W {S : St} {n : Nat → Nat} (w : WI S n) : DW (n 0) (dsOf S n) := by
  have h0 := w.wf.1
  refine ⟨h0.2.2.2.2.2.2, w.2.2.2.2.2.2.1, fun p hp => ?_⟩
  show n (52 + (2 + p)) ≤ 9999 + n 52
  rw [show 52 + (2 + p) = 54 + p by omega]; exact (w.wf.2.1 p hp).2.2.2
theorem WI_days {X : Nat → Nat → Prop} {S F : St} {n : Nat → Nat} {D : DS} (w : WI S n) (fr : Fr X S F) (hx : ∀ k a, (4 ≤ a ∧ a ≤ 17) ∨ (22 ≤ a ∧ a ≤ 25) ∨ a = 145 → ¬ X k a) (hlo : ∀ j, j < 52 ∨ 69 ≤ j → gA F 29 142 j = gA S 29 142 j) (hc : DC F 18 (n 0) D) (hm : DM F (n 0) D) (hw : DW (n 0) D) : ∃ n', n' 0 = n 0 ∧ WI F n' := by
  obtain ⟨g1, g2, ⟨a1, a2, a3, a4, a5⟩, g4, g5, g6, g7⟩ := w
  have h0 := g1.1
  obtain ⟨c0, c1, c2, c3⟩ := hc
  obtain ⟨m0, m1, m2, m3⟩ := hm
  refine ⟨fun j => if j < 52 then n j else (gA F 29 142 j).toBitVec.toNat, rfl, ?_⟩
  have lo : ∀ j, j < 52 → (fun j => if j < 52 then n j else (gA F 29 142 j).toBitVec.toNat) j = n j := fun j hj => if_pos hj
  have hi : ∀ j, ¬ j < 52 → (fun j => if j < 52 then n j else (gA F 29 142 j).toBitVec.toNat) j = (gA F 29 142 j).toBitVec.toNat := fun j hj => if_neg hj
  have k52 : (fun j => if j < 52 then n j else (gA F 29 142 j).toBitVec.toNat) 52 = D.1 0 := by rw [hi 52 (by omega), m1]; exact pk_tn (by have := hw.1; omega)
  have k53 : (fun j => if j < 52 then n j else (gA F 29 142 j).toBitVec.toNat) 53 = D.1 1 := by rw [hi 53 (by omega), m2]; exact pk_tn (by have := hw.2.1; omega)
  have k54 : ∀ p, p < n 0 → (fun j => if j < 52 then n j else (gA F 29 142 j).toBitVec.toNat) (54 + p) = D.1 (2 + p) := fun p hp => by
    rw [hi _ (by omega), (m3 p hp).1]; exact pk_tn (by have := hw.2.2 p hp; have := hw.1; omega)
  generalize (fun j => if j < 52 then n j else (gA F 29 142 j).toBitVec.toNat) = n' at *
  have l0 := lo 0 (by omega)
  have l1 := lo 1 (by omega)
  refine ⟨⟨?_, fun p hp => ?_, fun f hf => ?_⟩, fun j hj => ?_, ⟨?_, fun p hp => ?_, fun f hf => ?_, ?_, fun p hp => ?_⟩, fun p hp => ?_, ⟨fun p hp => ?_, fun f hf => ?_⟩, ?_, ?_⟩
  · rw [l0, l1, lo 2 (by omega), lo 3 (by omega), k52]; exact ⟨h0.1, h0.2.1, h0.2.2.1, h0.2.2.2.1, h0.2.2.2.2.1, h0.2.2.2.2.2.1, hw.1⟩
  · rw [l0] at hp
    obtain ⟨q1, q2, q3, q4⟩ := g1.2.1 p hp
    rw [lo (4 + p) (by omega), lo (9 + p) (by omega), lo (24 + p) (by omega), lo (29 + p) (by omega), lo (14 + p) (by omega), k54 p hp, k52]
    exact ⟨q1, q2, q3, hw.2.2 p hp⟩
  · rw [l1] at hf
    obtain ⟨q1, q2, q3⟩ := g1.2.2 f hf
    rw [l0, lo (34 + f) (by omega), lo (40 + f) (by omega), lo (46 + f) (by omega), lo (4 + n (34 + f)) (by omega), lo (9 + n (34 + f)) (by omega)]
    exact ⟨q1, q2, q3⟩
  · rcases Nat.lt_or_ge j 52 with q | q
    · rw [lo j q, hlo j (Or.inl q)]; exact g2 j hj
    · rw [hi j (by omega), nI_tN]
  · rw [fr.i (hx _ _ (by omega)), fr.i (hx _ _ (by omega)), fr.i (hx _ _ (by omega)), fr.i (hx _ _ (by omega)), l0, l1, lo 2 (by omega), lo 3 (by omega)]; exact a1
  · rw [l0] at hp
    rw [lo (4 + p) (by omega), lo (9 + p) (by omega), lo (24 + p) (by omega), lo (29 + p) (by omega), lo (14 + p) (by omega)]
    exact CP_fr fr (fun k => hx _ _ (by omega)) (a2 p hp)
  · rw [l1] at hf
    rw [lo (34 + f) (by omega), lo (40 + f) (by omega), lo (46 + f) (by omega), fr.i (hx _ _ (by omega)), fr.i (hx _ _ (by omega)), fr.i (hx _ _ (by omega))]
    exact a3 f hf
  · rw [k52, k53, l0]; exact ⟨c0, c1, c2⟩
  · rw [l0] at hp
    rw [k54 p hp]; exact (c3 p hp).1
  · rw [l0] at hp
    rw [(m3 p hp).2.1, (m3 p hp).2.2]; exact (c3 p hp).2
  · rw [l0] at hp
    rw [fr.j (hx _ _ (by omega)), fr.b (hx _ _ (by omega))]; exact g5.1 p hp
  · rw [l1] at hf
    rw [fr.j (hx _ _ (by omega)), fr.b (hx _ _ (by omega))]; exact g5.2 f hf
  · rw [l0, l1]
    obtain ⟨k, k1, k2, k3, k4, k5, k6, k7⟩ := g6
    have e1 : gA F 18 (3 + 19 + 1) = gA S 18 (3 + 19 + 1) := funext fun j => fr.a (hx _ _ (by omega))
    refine ⟨k, k1, (fr.i (hx _ _ (by omega))).trans k2, (hlo 69 (by omega)).trans k3, ?_, fun i hi => ?_, ?_, ?_⟩
    · rw [fr.i (hx _ _ (by omega))]; exact k4
    · rw [fr.a (hx _ _ (by omega)), fr.a (hx _ _ (by omega)), fr.a (hx _ _ (by omega)), hlo _ (by omega), hlo _ (by omega), hlo _ (by omega)]; exact k5 i hi
    · rw [e1]; exact k6
    · rw [e1]; exact k7
  · rw [k53, fr.i (hx _ _ (by omega))]; exact ⟨hw.2.1, g7.2⟩
/-- what an act may change -/
def XA : Nat → Nat → Prop := fun k a => (18 ≤ a ∧ a ≤ 21) ∨ (97 ≤ a ∧ a ≤ 104) ∨ (a = 0 ∧ k = 11) ∨ (105 ≤ a ∧ a ≤ 137) ∨ (a = 140 ∧ (k = 0 ∨ k = 23 ∨ k = 32)) ∨ a = 142 ∨ a = 147 ∨ a = 148
theorem Inv_days {S F : St} {n : Nat → Nat} {D : DS} (w : WI S n) (r : RI S) (fr : Fr XA S F) (hlo : ∀ j, j < 52 ∨ 69 ≤ j → gA F 29 142 j = gA S 29 142 j) (hc : DC F 18 (n 0) D) (hm : DM F (n 0) D) (hw : DW (n 0) D) (u : UN F (n 0)) : Inv F := by
  obtain ⟨n', e, w'⟩ := WI_days w fr (fun k a q => by unfold XA; omega) hlo hc hm hw
  obtain ⟨g3, g4, g5, g6, g7, g8, g9⟩ := r
  exact ⟨n', w', by rw [e]; exact u, TP_fr fr (fun k a q x => by unfold fTp at q; unfold XA at x; omega) g3, FLT_fr fr (fun k a q x => by unfold fFt at q; unfold XA at x; omega) g4, AL_fr fr (fun k a q x => by unfold fAl at q; unfold XA at x; omega) g5, TI_fr fr (fun k a q x => by unfold fTi at q; unfold XA at x; omega) g6, TL_fr fr (fun k a q x => by unfold fTl at q; unfold XA at x; omega) g7, IM_fr fr (fun k a q x => by unfold fIm at q; unfold XA at x; omega) g8, RS_fr fr (by unfold XA; omega) g9⟩
theorem UN_mk {X : Nat → Nat → Prop} {S T F : St} {n0 K : Nat} {D : DS} (hn : n0 ≤ 5) (hK : K ≤ 8) (hq : PQ T) (h11 : gI T 10 11 0 = nI (nxK K)) (hr : ∀ i, i + 1 < nxK K → ∃ m, DR T (gQ T 105 i) (fun j => gA S 34 147 (17 * (i + shK K) + j)) n0 m) (hl : DC T (gQ T 105 (nxK K - 1)) n0 D) (hw : DW n0 D) (fr : Fr X T F) (hx : ∀ k a, (a = 0 ∧ k = 11) ∨ (105 ≤ a ∧ a ≤ 137) → ¬ X k a) (h23 : gI F 11 23 140 = nI (nxK K)) (hf : ∀ i j, i + 1 < nxK K → j < 17 → gA F 34 147 (17 * i + j) = gA S 34 147 (17 * (i + shK K) + j)) (r0 : gA F 34 147 (17 * (nxK K - 1) + 0) = nI (D.1 0)) (r1 : gA F 34 147 (17 * (nxK K - 1) + 1) = nI (D.1 1)) (r2 : ∀ p, p < n0 → gA F 34 147 (17 * (nxK K - 1) + (2 + p)) = nI (D.1 (2 + p)) ∧ gA F 34 147 (17 * (nxK K - 1) + (7 + p)) = D.2.1 p ∧ gA F 34 147 (17 * (nxK K - 1) + (12 + p)) = D.2.2 p) : UN F n0 := by
  have hN : 1 ≤ nxK K ∧ nxK K ≤ 8 := by unfold nxK; split <;> omega
  have eq : ∀ j, gQ F 105 j = gQ T 105 j := fun j => fr.q (hx _ _ (by omega))
  refine ⟨nxK K, hN.2, (fr.i (hx _ _ (by omega))).trans h11, h23, fun j hj => by rw [eq]; exact hq.1 j hj, fun j j' hj hj' => by rw [eq, eq]; exact hq.2 j j' hj hj', fun i hi => ?_⟩
  obtain ⟨ii, hii, eii⟩ := hq.1 i (by omega)
  rw [eq]
  rcases Nat.lt_or_ge (i + 1) (nxK K) with q | q
  · obtain ⟨m, hm⟩ := hr i q
    exact ⟨m, DR_fr fr hn (fun k a a1 a2 => hx k a (by rw [eii] at a1 a2; omega)) (fun j hj => hf i j q hj) hm⟩
  · rw [show i = nxK K - 1 by omega] at eii ⊢
    exact ⟨D.1, DR_of (DC_fr fr (fun k a a1 a2 => hx k a (by rw [eii] at a1 a2; omega)) hl) hw r0 r1 r2⟩
theorem act_keep {S : St} {n : Nat → Nat} (w : WI S n) (u : UN S (n 0)) (r : RI S) {T2 : St} {D' : DS} (fr2 : Fr (fun _ a => (18 ≤ a ∧ a ≤ 21) ∨ (97 ≤ a ∧ a ≤ 104)) S T2) (h97 : DC T2 97 (n 0) (dsOf S n)) (h18 : DC T2 18 (n 0) D') (hW : DW (n 0) D') : ∃ T3, fX10_keepForUndo 0 T2 = some T3 ∧ MR (sI T3 11 0 140 0) n ∧ DM (sI T3 11 0 140 0) (n 0) (dsOf S n) ∧ ∃ T4, fX11_keep 140 (sI T3 11 0 140 0) = some T4 ∧ DM T4 (n 0) (dsOf S n) ∧ ∀ T5, FR T4 T5 → DM T5 (n 0) D' → Inv T5 := by
  have hn := w.wf.1.1
  have u2 : UN T2 (n 0) := UN_fr fr2 hn (fun k a q x => by unfold fU at q; omega) u
  obtain ⟨K, T3, k1, k2, t1, t2, t3, t4, t5, t6⟩ := keepC hn u2 h97
  have fr3 : Fr (fun k a => (18 ≤ a ∧ a ≤ 21) ∨ (97 ≤ a ∧ a ≤ 104) ∨ (a = 0 ∧ k = 11) ∨ (105 ≤ a ∧ a ≤ 137)) S T3 := Fr_tr (Fr_mo fr2 (fun k a q => by omega)) (Fr_mo t2 (fun k a q => by omega))
  have e142 : ∀ j, gA (sI T3 11 0 140 0) 29 142 j = gA S 29 142 j := fun j => fr3.a (c := 29) (a := 142) (by omega)
  have hM : DM (sI T3 11 0 140 0) (n 0) (dsOf S n) := DM_fr (Fr_sI (X := fun k a => (18 ≤ a ∧ a ≤ 21) ∨ (97 ≤ a ∧ a ≤ 104) ∨ (a = 0 ∧ k = 11) ∨ (105 ≤ a ∧ a ≤ 137) ∨ a = 140) (Fr_mo fr3 (fun k a q => by omega)) (by omega)) (by omega) (ds_M w)
  have hk23 : gI (sI T3 11 0 140 0) 11 23 140 = nI K := (gI_k (by decide)).trans ((t2.i (by omega)).trans k2)
  obtain ⟨T4, v1, v2, v3, v4, v5⟩ := keepR k1 hk23
  refine ⟨T3, t1, fun j hj => (e142 j).trans (w.mr j hj), hM, T4, v1, DM_fr v2 (by omega) hM, fun T5 f5 m5 => ?_⟩
  have frA : Fr XA S T5 := Fr_tr (Fr_tr (Fr_sI (X := XA) (Fr_mo fr3 (fun k a q => by unfold XA; omega)) (by unfold XA; omega)) (Fr_mo v2 (fun k a q => by unfold XA; omega))) (Fr_mo f5.fr (fun k a q => by unfold XA; omega))
  have frT : Fr (fun k a => (a = 140 ∧ (k = 0 ∨ k = 23 ∨ k = 32)) ∨ a = 142 ∨ a = 147) T3 T5 := Fr_tr (Fr_tr (Fr_sI (X := fun k a => (a = 140 ∧ (k = 0 ∨ k = 23 ∨ k = 32)) ∨ a = 142 ∨ a = 147) Fr_id (by omega)) (Fr_mo v2 (fun k a q => by omega))) (Fr_mo f5.fr (fun k a q => by omega))
  have e147 : ∀ j, gA T5 34 147 j = gA T4 34 147 j := fun j => f5.2.2.1 _ _ _ (by omega)
  refine Inv_days w r frA (fun j hj => ?_) (DC_fr frT (fun k a a1 a2 => by omega) (DC_fr t2 (fun k a a1 a2 => by omega) h18)) m5 hW ?_
  · rw [f5.2.2.1 _ _ _ (by omega), v2.a (by omega), e142]
  · have eS : ∀ j, gA (sI T3 11 0 140 0) 34 147 j = gA T2 34 147 j := fun j => t2.a (c := 34) (a := 147) (by omega)
    have row : ∀ j, j < 17 → gA T5 34 147 (17 * (nxK K - 1) + j) = gA S 29 142 (52 + j) := fun j hj => by rw [e147, v5 j hj, e142]
    refine UN_mk hn k1 t4 t3 t5 t6 (ds_W w) frT (fun k a q => by omega) ((f5.1 _ _ _ (by omega)).trans v3) (fun i j hi hj => by rw [e147, v4 i j hi hj, eS]) ((row 0 (by omega)).trans (ds_M w).2.1) ((row 1 (by omega)).trans (ds_M w).2.2.1) (fun p hp => ?_)
    have h5 : p < 5 := by omega
    have hd := (ds_M w).2.2.2 p hp
    refine ⟨(row (2 + p) (by omega)).trans ?_, (row (7 + p) (by omega)).trans ?_, (row (12 + p) (by omega)).trans ?_⟩
    · rw [show 52 + (2 + p) = 54 + p by omega]; exact hd.1
    · rw [show 52 + (7 + p) = 59 + p by omega]; exact hd.2.1
    · rw [show 52 + (12 + p) = 64 + p by omega]; exact hd.2.2
theorem before_ok {S : St} {n : Nat → Nat} (w : WI S n) : ∃ T1, fX2_copyFrom 97 18 S = some T1 ∧ Fr (XD 97) S T1 ∧ DC T1 97 (n 0) (dsOf S n) ∧ DC T1 18 (n 0) (dsOf S n) := by
  obtain ⟨T, t1, t2, t3⟩ := c_copy (d := 97) (s := 18) (by omega) w.wf.1.1 (ds_C w)
  exact ⟨T, t1, t2, t3, DC_fr t2 (fun k a a1 a2 => by unfold XD; omega) (ds_C w)⟩
theorem Inv_97 {S T : St} (fr : Fr (XD 97) S T) (g : Inv S) : Inv (sI T 11 0 140 0) := Inv_th (Inv_fr fr (fun k a q => by unfold XD at q; unfold fAll fW fU fTp fFt fAl fTi fTl fIm fRs; omega) g)
theorem p_hold : pr_hold Inv := by
  intro S g x1
  obtain ⟨n, w, u, r⟩ := id g
  have hn := w.wf.1.1
  unfold fX10_hold fX10_hold_s41
  rcases px w.cw w.mr hn x1 with ⟨p, hp, rfl, e1, e2⟩ | ⟨e1, e2⟩
  · obtain ⟨T1, t1, t2, t3, t4⟩ := before_ok w
    rw [if_neg (show ¬ fX8_hasParish (0 + 3 + 1) (nI p) S = 0 from fun q => i10 (e1.symm.trans q)), show (0 : Nat) + 97 = 97 from rfl, show (0 : Nat) + 3 + 15 = 18 from rfl, t1, ob_some]
    rcases c_hold t4 hn hp (ds_W w).2.1 with ⟨c1, c2⟩ | ⟨c1, T2, c2, c3, c4⟩
    · rw [c2, ob_some, if_neg i10]
      have hM : DM (sI T1 11 0 140 0) (n 0) (dsOf S n) := DM_fr (Fr_sI (X := fun k a => (97 ≤ a ∧ a ≤ 100) ∨ a = 140) (Fr_mo t2 (fun k a q => by unfold XD at q; omega)) (by omega)) (by omega) (ds_M w)
      refine ⟨1, T1, sI T1 11 0 140 0, rfl, ?_, Inv_97 t2 g⟩
      unfold fX11_hold fX11_hold_s5 fX11_whyHold
      rw [mp_yes w.wf (S := sI T1 11 0 140 0) (fun j hj => (t2.a (c := 29) (a := 142) (by unfold XD; omega)).trans (w.mr j hj)) hp, ob_some, if_neg i10, m_isH hM, ob_some, c1]
      rfl
    · obtain ⟨T3, k1, k2, k3, T4, k4, k5, k6⟩ := act_keep w u r (Fr_tr (Fr_mo t2 (fun k a q => by unfold XD at q; omega)) (Fr_mo c3 (fun k a q => by unfold XD at q; omega))) (DC_fr c3 (fun k a a1 a2 => by unfold XD; omega) t3) c4 (hold_W hn hp (ds_W w))
      obtain ⟨T5, l1, l2, l3⟩ := m_holds k5 hn hp (ds_W w).2.1
      rw [c2, ob_some, if_pos rfl, k1, ob_some]
      refine ⟨0, T3, T5, rfl, ?_, k6 T5 l2 l3⟩
      unfold fX11_hold fX11_hold_s5 fX11_whyHold
      rw [mp_yes w.wf k2 hp, ob_some, if_neg i10, m_isH k3, ob_some, c1, show (if b01 false = 0 then some (0 : Int32) else some 1) = some 0 from rfl, ob_some, if_pos (show (0 : Int32) ≤ 0 by decide), k4, ob_some, l1, ob_some]
  · refine ⟨-1, S, sI S 11 0 140 0, if_pos (show fX8_hasParish (0 + 3 + 1) x1 S = 0 from e1), ?_, Inv_th g⟩
    unfold fX11_hold fX11_hold_s5
    have e3 : fX11_isParish 140 x1 (sI S 11 0 140 0) = some 0 := e2
    rw [e3, ob_some, if_pos rfl]
theorem p_skip : pr_skip Inv := by
  intro S g x1 x2
  obtain ⟨n, w, u, r⟩ := id g
  have hn := w.wf.1.1
  unfold fX10_skip fX10_skip_s53
  rcases px w.cw w.mr hn x1 with ⟨p, hp, rfl, e1, e2⟩ | ⟨e1, e2⟩
  · have e3 : fX11_isParish 140 (nI p) (sI S 11 0 140 0) = some 1 := e2
    rw [if_neg (show ¬ fX8_hasParish (0 + 3 + 1) (nI p) S = 0 from fun q => i10 (e1.symm.trans q))]
    by_cases a1 : x2 < 1
    · refine ⟨-1, S, sI S 11 0 140 0, if_pos a1, ?_, Inv_th g⟩
      unfold fX11_skip fX11_skip_s5
      rw [e3, ob_some, if_neg i10, isIn_no (Or.inl a1), if_pos rfl]
    by_cases a2 : x2 ≤ 99
    · obtain ⟨k, hk, rfl⟩ := nI_of2 (x := x2) (M := 99) (n := 99) (by decide) (fun q => a1 (Int32.lt_trans q (by decide))) a2
      obtain ⟨T1, t1, t2, t3, t4⟩ := before_ok w
      rw [if_neg a1, if_pos a2, show (0 : Nat) + 97 = 97 from rfl, show (0 : Nat) + 3 + 15 = 18 from rfl, t1, ob_some]
      rcases c_skip t4 hn hp (ds_W w) hk with ⟨c1, c2⟩ | ⟨c1, T2, c2, c3, c4⟩
      · rw [c2, ob_some, if_neg i10]
        have hM : DM (sI T1 11 0 140 0) (n 0) (dsOf S n) := DM_fr (Fr_sI (X := fun k a => (97 ≤ a ∧ a ≤ 100) ∨ a = 140) (Fr_mo t2 (fun k a q => by unfold XD at q; omega)) (by omega)) (by omega) (ds_M w)
        refine ⟨1, T1, sI T1 11 0 140 0, rfl, ?_, Inv_97 t2 g⟩
        unfold fX11_skip fX11_skip_s5
        rw [mp_yes w.wf (S := sI T1 11 0 140 0) (fun j hj => (t2.a (c := 29) (a := 142) (by unfold XD; omega)).trans (w.mr j hj)) hp, ob_some, if_neg i10, isIn_yes a1 (Int32.not_lt.mpr a2), if_neg i10, m_why hM hn hp (ds_W w) hk, ob_some, if_neg (show ¬ (dsOf S n).1 (2 + p) + k ≤ 9999 by omega)]
        rfl
      · obtain ⟨T3, k1, k2, k3, T4, k4, k5, k6⟩ := act_keep w u r (Fr_tr (Fr_mo t2 (fun k a q => by unfold XD at q; omega)) (Fr_mo c3 (fun k a q => by unfold XD at q; omega))) (DC_fr c3 (fun k a a1 a2 => by unfold XD; omega) t3) c4 (skip_W (ds_W w) c1)
        obtain ⟨T5, l1, l2, l3⟩ := m_skips (k := k) k5 hn hp
        rw [c2, ob_some, if_pos rfl, k1, ob_some]
        refine ⟨0, T3, T5, rfl, ?_, k6 T5 l2 l3⟩
        unfold fX11_skip fX11_skip_s5
        rw [mp_yes w.wf k2 hp, ob_some, if_neg i10, isIn_yes a1 (Int32.not_lt.mpr a2), if_neg i10, m_why k3 hn hp (ds_W w) hk, ob_some, if_pos c1, if_pos (show (0 : Int32) ≤ 0 by decide), k4, ob_some, l1, ob_some]
    · refine ⟨-1, S, sI S 11 0 140 0, (if_neg a1).trans (if_neg a2), ?_, Inv_th g⟩
      unfold fX11_skip fX11_skip_s5
      rw [e3, ob_some, if_neg i10, isIn_no (Or.inr (Int32.not_le.mp a2)), if_pos rfl]
  · refine ⟨-1, S, sI S 11 0 140 0, if_pos (show fX8_hasParish (0 + 3 + 1) x1 S = 0 from e1), ?_, Inv_th g⟩
    unfold fX11_skip fX11_skip_s5
    have e3 : fX11_isParish 140 x1 (sI S 11 0 140 0) = some 0 := e2
    rw [e3, ob_some, if_pos rfl]
theorem p_days : pr_days Inv := by
  intro S g x1
  obtain ⟨n, w, u, r⟩ := id g
  have hn := w.wf.1.1
  unfold fX10_days fX10_days_s39
  by_cases a1 : x1 < 1
  · refine ⟨-1, S, sI S 11 0 140 0, if_pos a1, ?_, Inv_th g⟩
    unfold fX11_days fX11_days_s5
    rw [isIn_no (Or.inl a1), if_pos rfl]
  by_cases a2 : x1 ≤ 999
  · obtain ⟨N, hN, rfl⟩ := nI_of2 (x := x1) (M := 999) (n := 999) (by decide) (fun q => a1 (Int32.lt_trans q (by decide))) a2
    have hN1 : 0 < N := by
      rcases Nat.eq_zero_or_pos N with q | q
      · exact absurd (show nI N < 1 by rw [q]; decide) a1
      · exact q
    obtain ⟨T1, t1, t2, t3, t4⟩ := before_ok w
    rw [if_neg a1, if_pos a2, show (0 : Nat) + 97 = 97 from rfl, show (0 : Nat) + 3 + 15 = 18 from rfl, t1, ob_some]
    rcases c_pass t4 hn (ds_W w) hN hN1 with ⟨c1, c2⟩ | ⟨c1, gg, T2, g0, g1, g2, c2, c3, c4⟩
    · rw [c2, ob_some, if_pos (show (0 : Int32) ≤ 0 by decide)]
      have hM : DM (sI T1 11 0 140 0) (n 0) (dsOf S n) := DM_fr (Fr_sI (X := fun k a => (97 ≤ a ∧ a ≤ 100) ∨ a = 140) (Fr_mo t2 (fun k a q => by unfold XD at q; omega)) (by omega)) (by omega) (ds_M w)
      refine ⟨0, T1, sI T1 11 0 140 0, rfl, ?_, Inv_97 t2 g⟩
      unfold fX11_days fX11_days_s5
      rw [isIn_yes a1 (Int32.not_lt.mpr a2), if_neg i10, show gA (sI T1 11 0 140 0) 29 (140 + 2) 52 = 10000 from hM.2.1.trans (congrArg nI c1), if_pos rfl]
    · obtain ⟨T3, k1, k2, k3, T4, k4, k5, k6⟩ := act_keep w u r (Fr_tr (Fr_mo t2 (fun k a q => by unfold XD at q; omega)) (Fr_mo c3 (fun k a q => by unfold XD at q; omega))) (DC_fr c3 (fun k a a1 a2 => by unfold XD; omega) t3) c4 (pass_W hn (ds_W w) g0 (by split at g2 <;> omega))
      obtain ⟨T5, l1, l2, l3⟩ := m_goes k5 hn (ds_W w) hN hN1 c1
      rw [c2, ob_some, if_neg (nI_nle g0 (by omega)), k1, ob_some]
      rw [← g2] at l1 l3
      refine ⟨nI gg, T3, T5, rfl, ?_, k6 T5 l2 l3⟩
      unfold fX11_days fX11_days_s5 fX11_days_s42
      rw [isIn_yes a1 (Int32.not_lt.mpr a2), if_neg i10, show gA (sI T3 11 0 140 0) 29 (140 + 2) 52 = nI ((dsOf S n).1 0) from k3.2.1, if_neg (show ¬ nI ((dsOf S n).1 0) = 10000 from fun e => by have := (nI_eq (b := 10000) (by omega) (by omega)).mp e; omega), k4, ob_some, l1, ob_some]
  · refine ⟨-1, S, sI S 11 0 140 0, (if_neg a1).trans (if_neg a2), ?_, Inv_th g⟩
    unfold fX11_days fX11_days_s5
    rw [isIn_no (Or.inr (Int32.not_le.mp a2)), if_pos rfl]
-- undo
theorem l_undo {S : St} {k : Nat} (hk : k < 8) (h23 : gI S 11 23 140 = nI k) : ∀ (m i u : Nat) (T : St), i + m = 17 → m < u → FR S T → (∀ j, j < i → gA T 29 142 (52 + j) = gA S 34 147 (17 * k + j)) → ∃ U, fX11_undo_h26 140 u (nI i) T = some (nI k, U) ∧ FR S U ∧ ∀ j, j < 17 → gA U 29 142 (52 + j) = gA S 34 147 (17 * k + j) := by
  intro m
  induction m with
  | zero =>
    intro i u T hi hu fr t1
    obtain ⟨u, rfl⟩ : ∃ k', u = k' + 1 := ⟨u - 1, by omega⟩
    rw [fX11_undo_h26]; unfold fX11_undo_s26
    rw [show i = 17 by omega, if_pos (show (17 : Int32) ≤ nI 17 by decide), fr.1 _ _ _ (by omega), h23]
    exact ⟨T, rfl, fr, fun j hj => t1 j (by omega)⟩
  | succ m ih =>
    intro i u T hi hu fr t1
    obtain ⟨u, rfl⟩ : ∃ k', u = k' + 1 := ⟨u - 1, by omega⟩
    have e23 : gI T 11 23 140 = nI k := (fr.1 _ _ _ (by omega)).trans h23
    have e1 : gA T 34 147 (17 * k + i) = gA S 34 147 (17 * k + i) := fr.2.2.1 _ _ _ (by omega)
    rw [fX11_undo_h26]; unfold fX11_undo_s26 fX11_undo_s55
    rw [if_neg (show ¬ (17 : Int32) ≤ nI i from nI_ge (b := 17) (by omega) (by omega)), e23, show (17 : Int32) = nI 17 from rfl, pk_mul, nI_add, igd (by omega) (by decide), show (52 : Int32) + nI i = nI (52 + i) from nI_add 52 i, igd (by omega) (by decide), nI_clamp (by omega), nI_clamp (by omega), nI_1, show (140 : Nat) + 2 = 142 from rfl, show (140 : Nat) + 7 = 147 from rfl, e1]
    refine ih (i + 1) u _ (by omega) (by omega) (FR_sA fr (by omega) (by omega)) (fun j hj => ?_)
    by_cases r : j = i
    · subst r; exact gA_s
    · exact (gA_j (by omega)).trans (t1 j (by omega))
theorem p_undo : pr_undo Inv := by
  intro S g
  obtain ⟨n, w, u, r⟩ := id g
  have hn := w.wf.1.1
  obtain ⟨K, k1, k2, k3, k4, k5, k6⟩ := u
  unfold fX10_undo fX10_undo_s32
  rw [k2]
  rcases Nat.eq_zero_or_pos K with z | z
  · subst z
    refine ⟨-1, S, sI S 11 0 140 0, if_pos (by decide), ?_, Inv_th g⟩
    unfold fX11_undo fX11_undo_s5
    rw [show gI (sI S 11 0 140 0) 11 23 140 = 0 from (gI_k (by decide)).trans k3, if_pos rfl]
  · obtain ⟨ik, hik, eik⟩ := k4 (K - 1) (by omega)
    obtain ⟨m, hm⟩ := k6 (K - 1) (by omega)
    obtain ⟨d1, d2⟩ := DR_to hm
    rw [if_neg (show ¬ nI K < 1 from nI_nlt (b := 1) (by omega) (by omega)), if_pos (show nI K ≤ 8 from nI_le (b := 8) (by omega) (by omega)), show (1 : Int32) = nI 1 from rfl, pk_sub z]
    have frS : Fr (fun k a => a = 0 ∧ k = 11) S (sI S 10 11 0 (nI (K - 1))) := Fr_sI Fr_id ⟨rfl, rfl⟩
    have eQ : gQ (sI S 10 11 0 (nI (K - 1))) 105 (K - 1) = gQ S 105 (K - 1) := rfl
    obtain ⟨T, t1, t2, t3⟩ := c_copy (S := sI S 10 11 0 (nI (K - 1))) (d := 18) (s := gQ S 105 (K - 1)) (by rw [eik]; omega) hn (DC_fr frS (fun k a a1 a2 => by rw [eik] at a1; omega) d1)
    have e11 : gI T 10 11 0 = nI (K - 1) := (t2.i (by unfold XD; omega)).trans gI_s
    rw [gI_s, igd (show K - 1 < 8 by omega) (by decide), nI_clamp (by omega), show (0 : Nat) + 105 = 105 from rfl, eQ, if_neg (fun q => q (by rw [eik]; exact KT_past hik)), show (0 : Nat) + 3 + 15 = 18 from rfl, t1, ob_some, e11]
    have f23 : gI (sI T 11 0 140 0) 11 23 140 = nI K := (gI_k (by decide)).trans ((t2.i (by unfold XD; omega)).trans ((gI_a (by decide)).trans k3))
    obtain ⟨U, u1, u2, u3⟩ := l_undo (S := sI (sI T 11 0 140 0) 11 23 140 (nI (K - 1))) (k := K - 1) (by omega) gI_s 17 0 NN _ (by omega) (by unfold NN; omega) FR_id (fun j hj => by omega)
    refine ⟨nI (K - 1), T, U, rfl, ?_, ?_⟩
    · unfold fX11_undo fX11_undo_s5 fX11_undo_s24
      rw [f23, if_neg (nI_z z (by omega)), show (1 : Int32) = nI 1 from rfl, pk_sub z]
      exact u1
    · have frA : Fr XA S U := Fr_tr (Fr_sI (X := XA) (Fr_sI (Fr_tr (Fr_mo frS (fun k a q => by unfold XA; omega)) (Fr_mo t2 (fun k a q => by unfold XD at q; unfold XA; omega))) (by unfold XA; omega)) (by unfold XA; omega)) (Fr_mo u2.fr (fun k a q => by unfold XA; omega))
      have frP : Fr (fun k a => (a = 0 ∧ k = 11) ∨ (18 ≤ a ∧ a ≤ 21) ∨ (a = 140 ∧ (k = 0 ∨ k = 23 ∨ k = 32)) ∨ a = 142) S U := Fr_tr (Fr_sI (X := fun k a => (a = 0 ∧ k = 11) ∨ (18 ≤ a ∧ a ≤ 21) ∨ (a = 140 ∧ (k = 0 ∨ k = 23 ∨ k = 32)) ∨ a = 142) (Fr_sI (Fr_tr (Fr_mo frS (fun k a q => by omega)) (Fr_mo t2 (fun k a q => by unfold XD at q; omega))) (by omega)) (by omega)) (Fr_mo u2.fr (fun k a q => by omega))
      have frQ : Fr (fun k a => (a = 140 ∧ (k = 0 ∨ k = 23 ∨ k = 32)) ∨ a = 142) T U := Fr_tr (Fr_sI (X := fun k a => (a = 140 ∧ (k = 0 ∨ k = 23 ∨ k = 32)) ∨ a = 142) (Fr_sI Fr_id (by omega)) (by omega)) (Fr_mo u2.fr (fun k a q => by omega))
      have eT : ∀ j, gA (sI (sI T 11 0 140 0) 11 23 140 (nI (K - 1))) 29 142 j = gA S 29 142 j := fun j => t2.a (c := 29) (a := 142) (by unfold XD; omega)
      have eR : ∀ j, gA (sI (sI T 11 0 140 0) 11 23 140 (nI (K - 1))) 34 147 j = gA S 34 147 j := fun j => t2.a (c := 34) (a := 147) (by unfold XD; omega)
      obtain ⟨⟨-, -, -⟩, ⟨q0, q1, -, -⟩, q4⟩ := hm
      refine Inv_days (D := (m, fun p => gA S 34 147 (17 * (K - 1) + (7 + p)), fun p => gA S 34 147 (17 * (K - 1) + (12 + p)))) w r frA (fun j hj => ?_) (DC_fr frQ (fun k a a1 a2 => by omega) t3) ?_ d2 ?_
      · rw [u2.2.2.1 _ _ _ (by omega), eT]
      · refine ⟨?_, ?_, ?_, fun p hp => ⟨?_, ?_, ?_⟩⟩
        · rw [u2.lo (by omega), eT]; exact w.mr 0 (by omega)
        · exact (u3 0 (by omega)).trans ((eR _).trans q0)
        · exact (u3 1 (by omega)).trans ((eR _).trans q1)
        · rw [show 54 + p = 52 + (2 + p) by omega]; exact (u3 (2 + p) (by omega)).trans ((eR _).trans (q4 p hp).2.1)
        · rw [show 59 + p = 52 + (7 + p) by omega]; exact (u3 (7 + p) (by omega)).trans (eR _)
        · rw [show 64 + p = 52 + (12 + p) by omega]; exact (u3 (12 + p) (by omega)).trans (eR _)
      · have eq : ∀ j, gQ U 105 j = gQ S 105 j := fun j => frP.q (by omega)
        refine ⟨K - 1, by omega, (frQ.i (by omega)).trans e11, (u2.1 _ _ _ (by omega)).trans gI_s, fun j hj => by rw [eq]; exact k4 j hj, fun j j' hj hj' => by rw [eq, eq]; exact k5 j j' hj hj', fun i hi => ?_⟩
        obtain ⟨m', hm'⟩ := k6 i (by omega)
        obtain ⟨ii, hii, eii⟩ := k4 i (by omega)
        rw [eq]
        exact ⟨m', DR_fr frP hn (fun k a a1 a2 => by rw [eii] at a1 a2; omega) (fun j _ => frP.a (by omega)) hm'⟩
