-- feed, image, restore
def bt (x : Int32) (i : Nat) : Int32 := vp_nar .byte ((x >>> (nI (24 - 8 * i) &&& 31)).toInt8.toInt32)
def wr (f : Nat → Int32) (L : Nat) (x : Int32) (i : Nat) : Nat → Int32 := fun j => if L ≤ j ∧ j < L + i then bt x (j - L) else f j
theorem sh_8 {i : Nat} (h : i < 3) : nI (24 - 8 * i) + -8 = nI (24 - 8 * (i + 1)) := (show ∀ i, i < 3 → nI (24 - 8 * i) + -8 = nI (24 - 8 * (i + 1)) by decide +kernel) i h
theorem wr_s {f : Nat → Int32} {L i j : Nat} {x : Int32} : (if j = L + i then bt x i else wr f L x i j) = wr f L x (i + 1) j := by
  unfold wr
  by_cases q : j = L + i
  · rw [if_pos q, if_pos (by omega), show j - L = i by omega]
  · rw [if_neg q]
    by_cases r : L ≤ j ∧ j < L + i
    · rw [if_pos r, if_pos (by omega)]
    · rw [if_neg r, if_neg (by omega)]
theorem gA_if {S : St} {c a j j' : Nat} {v : Int32} : gA (sA S c a j v) c a j' = if j' = j then v else gA S c a j' := by
  by_cases q : j' = j
  · subst q; rw [if_pos rfl]; exact gA_s
  · rw [if_neg q]; exact gA_j q
theorem l_numC {S : St} {L : Nat} {x : Int32} (hL : L + 4 ≤ 940) : ∀ (m i u : Nat) (y : Int32) (T : St), i + m = 4 → m < u → (i < 4 → y = nI (24 - 8 * i)) → (i = 4 → y = -8) → gI T 6 1 1 = nI (L + i) → Fr (fun k a => (a = 1 ∧ k = 1) ∨ a = 2) S T → (∀ j, gA T 12 2 j = wr (gA S 12 2) L x i j) → ∃ U, fX6_addNumber_h3 1 x u y T = some U ∧ gI U 6 1 1 = nI (L + 4) ∧ Fr (fun k a => (a = 1 ∧ k = 1) ∨ a = 2) S U ∧ ∀ j, gA U 12 2 j = wr (gA S 12 2) L x 4 j := by
  intro m
  induction m with
  | zero =>
    intro i u y T hi hu y1 y2 t1 fr t2
    obtain ⟨u, rfl⟩ : ∃ k', u = k' + 1 := ⟨u - 1, by omega⟩
    have e : i = 4 := by omega
    subst e
    rw [fX6_addNumber_h3]; unfold fX6_addNumber_s3
    rw [y2 rfl, if_pos (by decide)]
    exact ⟨T, rfl, t1, fr, t2⟩
  | succ m ih =>
    intro i u y T hi hu y1 y2 t1 fr t2
    obtain ⟨u, rfl⟩ : ∃ k', u = k' + 1 := ⟨u - 1, by omega⟩
    have ey := y1 (by omega)
    subst ey
    rw [fX6_addNumber_h3]; unfold fX6_addNumber_s3 fX6_addNumber_s32 fX6_addNumber_s42
    rw [if_neg (nI_pos (by omega)), t1, if_neg (show ¬ (940 : Int32) ≤ nI (L + i) from nI_ge (b := 940) (by omega) (by omega)), igd (by omega) (by decide), nI_clamp (by omega), show (1 : Nat) + 1 = 2 from rfl]
    refine ih (i + 1) u _ _ (by omega) (by omega) (fun h => sh_8 (by omega)) (fun h => by rw [show i = 3 by omega]; decide) ?_ (Fr_sI (Fr_sA fr (Or.inr rfl)) (Or.inl ⟨rfl, rfl⟩)) (fun j => ?_)
    · rw [gI_s, show gI (sA T 12 2 (L + i) (vp_nar .byte ((x >>> (nI (24 - 8 * i) &&& 31)).toInt8.toInt32))) 6 1 1 = nI (L + i) from t1, nI_1]; rfl
    · show gA (sA T 12 2 (L + i) (bt x i)) 12 2 j = _
      rw [gA_if, t2, wr_s]
theorem c_num {S : St} {L : Nat} (x : Int32) (hL : L + 4 ≤ 940) (h : gI S 6 1 1 = nI L) : ∃ U, fX6_addNumber 1 x S = some U ∧ gI U 6 1 1 = nI (L + 4) ∧ Fr (fun k a => (a = 1 ∧ k = 1) ∨ a = 2) S U ∧ ∀ j, gA U 12 2 j = wr (gA S 12 2) L x 4 j := l_numC hL 4 0 NN 24 S (by omega) (by unfold NN; omega) (fun _ => rfl) (fun h => by omega) h Fr_id (fun j => by unfold wr; rw [if_neg (by omega)])
theorem l_numR {S : St} {L : Nat} {x : Int32} (hL : L + 4 ≤ 940) : ∀ (m i u : Nat) (y : Int32) (T : St), i + m = 4 → m < u → (i < 4 → y = nI (24 - 8 * i)) → (i = 4 → y = -8) → gI T 11 2 140 = nI (L + i) → Fr (fun k a => (a = 140 ∧ k = 2) ∨ a = 141) S T → (∀ j, gA T 28 141 j = wr (gA S 28 141) L x i j) → ∃ U, fX11_four_h3 140 x u y T = some U ∧ gI U 11 2 140 = nI (L + 4) ∧ Fr (fun k a => (a = 140 ∧ k = 2) ∨ a = 141) S U ∧ ∀ j, gA U 28 141 j = wr (gA S 28 141) L x 4 j := by
  intro m
  induction m with
  | zero =>
    intro i u y T hi hu y1 y2 t1 fr t2
    obtain ⟨u, rfl⟩ : ∃ k', u = k' + 1 := ⟨u - 1, by omega⟩
    have e : i = 4 := by omega
    subst e
    rw [fX11_four_h3]; unfold fX11_four_s3
    rw [y2 rfl, if_pos (by decide)]
    exact ⟨T, rfl, t1, fr, t2⟩
  | succ m ih =>
    intro i u y T hi hu y1 y2 t1 fr t2
    obtain ⟨u, rfl⟩ : ∃ k', u = k' + 1 := ⟨u - 1, by omega⟩
    have ey := y1 (by omega)
    subst ey
    rw [fX11_four_h3]; unfold fX11_four_s3 fX11_four_s20 fX11_four_s30
    rw [if_neg (nI_pos (by omega)), t1, igd (by omega) (by decide), nI_clamp (by omega), show (140 : Nat) + 1 = 141 from rfl]
    refine ih (i + 1) u _ _ (by omega) (by omega) (fun h => sh_8 (by omega)) (fun h => by rw [show i = 3 by omega]; decide) ?_ (Fr_sI (Fr_sA fr (Or.inr rfl)) (Or.inl ⟨rfl, rfl⟩)) (fun j => ?_)
    · rw [gI_s, show gI (sA T 28 141 (L + i) (vp_nar .byte ((x >>> (nI (24 - 8 * i) &&& 31)).toInt8.toInt32))) 11 2 140 = nI (L + i) from t1, nI_1]; rfl
    · show gA (sA T 28 141 (L + i) (bt x i)) 28 141 j = _
      rw [gA_if, t2, wr_s]
theorem m_num {S : St} {L : Nat} (x : Int32) (hL : L + 4 ≤ 940) (h : gI S 11 2 140 = nI L) : ∃ U, fX11_four 140 x S = some U ∧ gI U 11 2 140 = nI (L + 4) ∧ Fr (fun k a => (a = 140 ∧ k = 2) ∨ a = 141) S U ∧ ∀ j, gA U 28 141 j = wr (gA S 28 141) L x 4 j := l_numR hL 4 0 NN 24 S (by omega) (by unfold NN; omega) (fun _ => rfl) (fun h => by omega) h Fr_id (fun j => by unfold wr; rw [if_neg (by omega)])
theorem wr_eq {f g : Nat → Int32} {L i : Nat} {x : Int32} (h : ∀ j, j < 940 → f j = g j) : ∀ j, j < 940 → wr f L x i j = wr g L x i j := fun j hj => by unfold wr; split; rfl; exact h j hj
theorem bB_bt (x : Int32) (i : Nat) : bB (bt x i) := by
  have h : bt x i = ((x >>> (nI (24 - 8 * i) &&& 31)).toInt8.toInt32).toInt8.toInt32 := rfl
  rw [h]; unfold bB
  rw [Int8.toInt_toInt32]
  exact ⟨Int8.le_toInt _, by have := Int8.toInt_lt (((x >>> (nI (24 - 8 * i) &&& 31)).toInt8.toInt32).toInt8); omega⟩
theorem bB_wr {f : Nat → Int32} {L i : Nat} {x : Int32} (h : ∀ j, j < 940 → bB (f j)) : ∀ j, j < 940 → bB (wr f L x i j) := fun j hj => by
  unfold wr; split
  · exact bB_bt _ _
  · exact h j hj
theorem p_feed : pr_feed Inv := by
  intro S g x1 x2 x3 x4 x5
  obtain ⟨n, w, u, tp, r⟩ := id g
  obtain ⟨L, t1, t2, t3, t4⟩ := tp
  unfold fX10_feed fX6_hasRoom
  rw [show (0 : Nat) + 1 = 1 from rfl, t2, show (20 : Int32) = nI 20 from rfl, nI_add]
  rcases Nat.lt_or_ge 940 (L + 20) with q | q
  · rw [if_pos (show (940 : Int32) < nI (L + 20) from nI_lt (a := 940) q (by omega)), if_pos rfl]
    refine ⟨-1, S, sI S 11 0 140 0, rfl, ?_, Inv_th g⟩
    unfold fX11_feed fX11_feed_s5
    rw [show gI (sI S 11 0 140 0) 11 2 140 = nI L from (gI_k (by decide)).trans t3, show (20 : Int32) = nI 20 from rfl, nI_add, if_neg (show ¬ nI (L + 20) ≤ (940 : Int32) from nI_ge (a := 940) q (by omega))]
  · rw [if_neg (show ¬ (940 : Int32) < nI (L + 20) from Int32.not_lt.mpr (nI_le (b := 940) q (by omega))), if_neg i10]
    obtain ⟨A1, a1, b1, c1, d1⟩ := c_num x1 (show L + 4 ≤ 940 by omega) t2
    obtain ⟨A2, a2, b2, c2, d2⟩ := c_num x2 (show L + 4 + 4 ≤ 940 by omega) b1
    obtain ⟨A3, a3, b3, c3, d3⟩ := c_num x3 (show L + 4 + 4 + 4 ≤ 940 by omega) b2
    obtain ⟨A4, a4, b4, c4, d4⟩ := c_num x4 (show L + 4 + 4 + 4 + 4 ≤ 940 by omega) b3
    obtain ⟨A5, a5, b5, c5, d5⟩ := c_num x5 (show L + 4 + 4 + 4 + 4 + 4 ≤ 940 by omega) b4
    rw [a1, ob_some, a2, ob_some, a3, ob_some, a4, ob_some, a5, ob_some, b5]
    have cf := Fr_tr c1 (Fr_tr c2 (Fr_tr c3 (Fr_tr c4 c5)))
    have h2 : gI (sI A5 11 0 140 0) 11 2 140 = nI L := (gI_k (by decide)).trans ((cf.i (by omega)).trans t3)
    have h28 : ∀ j, gA (sI A5 11 0 140 0) 28 141 j = gA S 28 141 j := fun j => cf.a (c := 28) (a := 141) (by omega)
    obtain ⟨B1, e1, f1, g1, k1⟩ := m_num x1 (show L + 4 ≤ 940 by omega) h2
    obtain ⟨B2, e2, f2, g2, k2⟩ := m_num x2 (show L + 4 + 4 ≤ 940 by omega) f1
    obtain ⟨B3, e3, f3, g3, k3⟩ := m_num x3 (show L + 4 + 4 + 4 ≤ 940 by omega) f2
    obtain ⟨B4, e4, f4, g4, k4⟩ := m_num x4 (show L + 4 + 4 + 4 + 4 ≤ 940 by omega) f3
    obtain ⟨B5, e5, f5, g5, k5⟩ := m_num x5 (show L + 4 + 4 + 4 + 4 + 4 ≤ 940 by omega) f4
    refine ⟨nI (L + 4 + 4 + 4 + 4 + 4), A5, B5, rfl, ?_, ?_⟩
    · unfold fX11_feed fX11_feed_s5
      rw [h2, show (20 : Int32) = nI 20 from rfl, nI_add, if_pos (show nI (L + 20) ≤ (940 : Int32) from nI_le (b := 940) q (by omega)), e1, ob_some, e2, ob_some, e3, ob_some, e4, ob_some, e5, ob_some, f5]
    · have gf := Fr_tr g1 (Fr_tr g2 (Fr_tr g3 (Fr_tr g4 g5)))
      refine Inv_tp (Fr_tr (Fr_sI (X := fun k a => (a = 1 ∧ k = 1) ∨ a = 2 ∨ (a = 140 ∧ (k = 0 ∨ k = 2)) ∨ a = 141) (Fr_mo cf (fun k a q => by omega)) (by omega)) (Fr_mo gf (fun k a q => by omega))) ⟨L + 4 + 4 + 4 + 4 + 4, by omega, ?_, f5, fun j hj => ?_⟩ g
      · exact (gf.i (by omega)).trans ((gI_c (by decide)).trans b5)
      · have z0 : ∀ j, j < 940 → gA S 12 2 j = gA (sI A5 11 0 140 0) 28 141 j := fun j hj => (t4 j hj).1.trans (h28 j).symm
        have z1 : ∀ j, j < 940 → gA A1 12 2 j = gA B1 28 141 j := fun j hj => by rw [d1, k1]; exact wr_eq z0 j hj
        have z2 : ∀ j, j < 940 → gA A2 12 2 j = gA B2 28 141 j := fun j hj => by rw [d2, k2]; exact wr_eq z1 j hj
        have z3 : ∀ j, j < 940 → gA A3 12 2 j = gA B3 28 141 j := fun j hj => by rw [d3, k3]; exact wr_eq z2 j hj
        have z4 : ∀ j, j < 940 → gA A4 12 2 j = gA B4 28 141 j := fun j hj => by rw [d4, k4]; exact wr_eq z3 j hj
        have z5 : ∀ j, j < 940 → gA A5 12 2 j = gA B5 28 141 j := fun j hj => by rw [d5, k5]; exact wr_eq z4 j hj
        have ea : gA B5 12 2 j = gA A5 12 2 j := gf.a (c := 12) (a := 2) (by omega)
        have y0 : ∀ j, j < 940 → bB (gA S 12 2 j) := fun j hj => (t4 j hj).2
        have y1 : ∀ j, j < 940 → bB (gA A1 12 2 j) := fun j hj => by rw [d1]; exact bB_wr y0 j hj
        have y2 : ∀ j, j < 940 → bB (gA A2 12 2 j) := fun j hj => by rw [d2]; exact bB_wr y1 j hj
        have y3 : ∀ j, j < 940 → bB (gA A3 12 2 j) := fun j hj => by rw [d3]; exact bB_wr y2 j hj
        have y4 : ∀ j, j < 940 → bB (gA A4 12 2 j) := fun j hj => by rw [d4]; exact bB_wr y3 j hj
        have y5 : ∀ j, j < 940 → bB (gA A5 12 2 j) := fun j hj => by rw [d5]; exact bB_wr y4 j hj
        rw [ea]; exact ⟨z5 j hj, y5 j hj⟩
