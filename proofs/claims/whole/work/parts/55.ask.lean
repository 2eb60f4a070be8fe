-- what is asked for: a parish, a feast, bounds
theorem i10 : ¬ (1 : Int32) = 0 := by decide
theorem isIn_no {x lo hi : Int32} {S : St} (h : x < lo ∨ hi < x) : fX11_isIn x lo hi S = 0 := by
  unfold fX11_isIn
  by_cases q : x < lo
  · exact if_pos q
  · rw [if_neg q]; exact if_pos (h.resolve_left q)
theorem isIn_yes {x lo hi : Int32} {S : St} (h : ¬ x < lo) (h2 : ¬ hi < x) : fX11_isIn x lo hi S = 1 := by
  unfold fX11_isIn; rw [if_neg h, if_neg h2]
theorem isIn_lt {x : Int32} {m : Nat} {S : St} (hm : m < 2 ^ 30) (h : x < 0 ∨ nI m ≤ x) : fX11_isIn x 0 (nI m - 1) S = 0 := by
  refine isIn_no (h.imp id fun q => ?_)
  rw [Int32.lt_iff_toInt_lt, show (1 : Int32) = nI 1 from rfl, pk_sub_toInt hm (by omega)]
  rw [Int32.le_iff_toInt_le, nI_toInt (by omega)] at q
  omega
theorem isIn_in {m j : Nat} {S : St} (hm : m < 2 ^ 30) (h : j < m) : fX11_isIn (nI j) 0 (nI m - 1) S = 1 := by
  refine isIn_yes (nI_pos (by omega)) ?_
  rw [Int32.lt_iff_toInt_lt, show (1 : Int32) = nI 1 from rfl, pk_sub_toInt hm (by omega), nI_toInt (by omega)]
  omega
theorem px {S S' : St} {n : Nat → Nat} (h : CW S n) (h' : MR S' n) (hn : n 0 ≤ 5) (x : Int32) : (∃ p, p < n 0 ∧ x = nI p ∧ fX8_hasParish 4 x S = 1 ∧ fX11_isParish 140 x S' = some 1) ∨ (fX8_hasParish 4 x S = 0 ∧ fX11_isParish 140 x S' = some 0) := by
  have e0 : gA S' 29 (140 + 2) 0 = nI (n 0) := h' 0 (by omega)
  unfold fX11_isParish
  rw [e0]
  rcases pk_ix x (n := n 0) (by omega) with q | q | ⟨j, hj, rfl⟩
  · refine Or.inr ⟨if_pos q, ?_⟩
    rw [isIn_lt (by omega) (Or.inl q)]; rfl
  · refine Or.inr ⟨?_, ?_⟩
    · unfold fX8_hasParish
      rw [h.1.1]
      by_cases q2 : x < 0
      · exact if_pos q2
      · rw [if_neg q2]; exact if_pos q
    · rw [isIn_lt (by omega) (Or.inr q)]; rfl
  · exact Or.inl ⟨j, hj, rfl, hasP h hn hj, by rw [isIn_in (by omega) hj]; rfl⟩
theorem fx {S S' : St} {n : Nat → Nat} (h : CW S n) (h' : MR S' n) (hn : n 1 ≤ 6) (x : Int32) : (∃ p, p < n 1 ∧ x = nI p ∧ fX8_hasFeast 4 x S = 1 ∧ fX11_isFeast 140 x S' = some 1) ∨ (fX8_hasFeast 4 x S = 0 ∧ fX11_isFeast 140 x S' = some 0) := by
  have e0 : gA S' 29 (140 + 2) 1 = nI (n 1) := h' 1 (by omega)
  unfold fX11_isFeast
  rw [e0]
  rcases pk_ix x (n := n 1) (by omega) with q | q | ⟨j, hj, rfl⟩
  · refine Or.inr ⟨if_pos q, ?_⟩
    rw [isIn_lt (by omega) (Or.inl q)]; rfl
  · refine Or.inr ⟨?_, ?_⟩
    · unfold fX8_hasFeast
      rw [h.1.2.1]
      by_cases q2 : x < 0
      · exact if_pos q2
      · rw [if_neg q2]; exact if_pos q
    · rw [isIn_lt (by omega) (Or.inr q)]; rfl
  · refine Or.inl ⟨j, hj, rfl, ?_, by rw [isIn_in (by omega) hj]; rfl⟩
    unfold fX8_hasFeast
    rw [if_neg (nI_pos (by omega)), h.1.2.1, if_neg (nI_ge hj (by omega))]
theorem if01 {α : Type} (b : Bool) (A B : α) : (if b01 b = 0 then A else B) = if b = true then B else A := by
  cases b
  · exact (if_pos rfl).trans (if_neg (by decide)).symm
  · exact (if_neg (by decide)).trans (if_pos rfl).symm
theorem addk {c : Nat} {x : Int32} (hc : c ≤ 20000) (h1 : ¬ x < -9999) (h2 : ¬ 99999 < x) (h3 : 0 ≤ nI c + x) : ∃ e : Nat, e ≤ 119999 ∧ nI c + x = nI e := by
  obtain ⟨j, hj, e⟩ := nI_of (x := nI c + x) (Int32.not_lt.mpr h3)
  refine ⟨j, ?_, e⟩
  have e2 := congrArg Int32.toInt e
  rw [Int32.toInt_add, nI_toInt (by omega), nI_toInt hj] at e2
  rw [Int32.lt_iff_toInt_lt, show (-9999 : Int32).toInt = -9999 from by decide] at h1
  rw [Int32.lt_iff_toInt_lt, show (99999 : Int32).toInt = 99999 from by decide] at h2
  rw [Int.bmod_eq_of_le (by omega) (by omega)] at e2
  omega
theorem q_at {S : St} {n : Nat → Nat} (hw : WFn n) (h : CW S n) (h' : MR S n) (x1 x2 x3 : Int32) : ∃ r, fX10_at 0 x1 x2 x3 S = some r ∧ fX11_at 140 x1 x2 x3 S = some (r, sI S 11 0 140 0) := by
  have h0 := hw.1
  have h2 : MR (sI S 11 0 140 0) n := h'
  unfold fX10_at fX11_at fX11_at_s5
  rcases px h h2 h0.1 x1 with ⟨p, hp, rfl, e1, e2⟩ | ⟨e1, e2⟩
  · obtain ⟨w, hW1, hW2, hcl⟩ := hw.2.1 p hp
    have hc : gA S 15 (0 + 3 + 15 + 1) p = nI (n (54 + p)) := h.2.2.2.2 p hp
    have hc' : gA (sI S 11 0 140 0) 29 (140 + 2) (54 + p) = nI (n (54 + p)) := h2 _ (by omega)
    have hwk : gA (sI S 11 0 140 0) 29 (140 + 2) (14 + p) = nI (n (14 + p)) := h2 _ (by omega)
    rw [e2, ob_some, if_neg i10, if_neg (show ¬ fX8_hasParish (0 + 3 + 1) (nI p) S = 0 from fun q => i10 (e1.symm.trans q))]
    by_cases a1 : x2 < -9999
    · rw [if_pos a1, isIn_no (Or.inl a1), if_pos rfl]; exact ⟨_, rfl, rfl⟩
    by_cases a2 : 99999 < x2
    · rw [if_neg a1, if_pos a2, isIn_no (Or.inr a2), if_pos rfl]; exact ⟨_, rfl, rfl⟩
    rw [if_neg a1, if_neg a2, isIn_yes a1 a2, if_neg i10, show (54 : Int32) + nI p = nI (54 + p) from nI_add 54 p, igd (by omega) (by decide), igd (by omega) (by decide), igd (by omega) (by decide), nI_clamp (by omega), nI_clamp (by omega), hc, hc']
    unfold fX10_at_s54 fX11_at_s55
    by_cases a3 : 0 ≤ nI (n (54 + p)) + x2
    · obtain ⟨e, he, hee⟩ := addk (by omega) a1 a2 a3
      rw [if_pos a3, if_pos a3, hee, igd (by omega) (by decide), nI_clamp (by omega)]
      rcases pk_ix x3 (n := 4) (by omega) with q | q | ⟨k, hk, rfl⟩
      · rw [if_pos q]
        have e : ∀ j : Int32, 0 ≤ j → ¬ x3 = j := fun j hj qe => by rw [qe] at q; exact absurd q (Int32.not_lt.mpr hj)
        rw [if_neg (e 0 (by decide)), if_neg (e 1 (by decide)), if_neg (e 2 (by decide)), if_neg (e 3 (by decide))]; exact ⟨_, rfl, rfl⟩
      · have e : ∀ j : Int32, j < 4 → ¬ x3 = j := fun j hj qe => by rw [qe] at q; exact absurd hj (Int32.not_lt.mpr q)
        rw [if_neg (e 0 (by decide)), if_neg (e 1 (by decide)), if_neg (e 2 (by decide)), if_neg (e 3 (by decide))]
        have q3 : ¬ x3 ≤ 3 := fun r => by
          rw [Int32.le_iff_toInt_le] at r q
          rw [show (3 : Int32).toInt = 3 from by decide] at r
          rw [show (nI 4).toInt = 4 from by decide] at q
          omega
        by_cases q2 : x3 < 0
        · rw [if_pos q2]; exact ⟨_, rfl, rfl⟩
        · rw [if_neg q2, if_neg q3]; exact ⟨_, rfl, rfl⟩
      · have hcl := c_called (k := k) (h.2.1 p hp) w ⟨by omega, hW2⟩ (show e < 2 ^ 24 by omega) (by omega)
        have hy := m_yearBy (c := e) (h2.mp (p := p) (by omega)) w (by omega) (by omega)
        have hd := m_dated (c := e) (h2.mp (p := p) (by omega)) w (by omega) (by omega)
        have hdl := dt_lt w e
        rw [if_neg (nI_pos (by omega)), if_pos (show nI k ≤ 3 from nI_le (b := 3) (by omega) (by omega)), show (0 : Nat) + 3 + 1 + 1 + 2 + p = 7 + p from rfl, hcl, ob_some]
        refine ⟨_, rfl, ?_⟩
        rw [hy, ob_some, hd, ob_some, ob_some, show (14 : Int32) + nI p = nI (14 + p) from nI_add 14 p, igd (by omega) (by decide), nI_clamp (by omega), hwk, igz (by omega) (by omega), show (32 : Int32) = nI 32 from rfl, pk_rem (by omega) (by omega) (by omega), pk_div (by omega) (by omega) (by omega), pk_rem (by omega) (by omega) (by omega)]
        match k, hk with
        | 0, _ => exact if_pos rfl
        | 1, _ => exact (if_neg (by decide)).trans (if_pos rfl)
        | 2, _ => exact (if_neg (by decide)).trans ((if_neg (by decide)).trans (if_pos rfl))
        | 3, _ => exact (if_neg (by decide)).trans ((if_neg (by decide)).trans ((if_neg (by decide)).trans (if_pos rfl)))
    · rw [if_neg a3, if_neg a3]
      by_cases q2 : x3 < 0
      · rw [if_pos q2]; exact ⟨_, rfl, rfl⟩
      · rw [if_neg q2]
        by_cases q3 : x3 ≤ 3
        · rw [if_pos q3]; exact ⟨_, rfl, rfl⟩
        · rw [if_neg q3]; exact ⟨_, rfl, rfl⟩
  · rw [e2, ob_some, if_pos rfl, if_pos (show fX8_hasParish (0 + 3 + 1) x1 S = 0 from e1)]; exact ⟨_, rfl, rfl⟩
/-- the COUNT of a date: both sides alike, and what it is -/
theorem q_counted {S : St} {n : Nat → Nat} (hw : WFn n) (h : CW S n) {S' : St} (h2 : MR S' n) {p : Nat} (hp : p < n 0) (x2 x3 x4 : Int32) : ∃ r, fX4_countAt (7 + p) x2 x3 x4 S = some r ∧ fX11_counted 140 (nI p) x2 x3 x4 S' = some r ∧ (r = -1 ∨ ∃ y m d : Nat, x3 = nI m ∧ x4 = nI d ∧ plOk (n (4 + p)) (n (9 + p)) (n (24 + p)) m d ∧ m * n (9 + p) + d < lnY (n (4 + p)) (n (9 + p)) (n (24 + p)) (n (29 + p)) y ∧ y ≤ 999 ∧ r = nI (fsOf (n (4 + p)) (n (9 + p)) (n (24 + p)) (n (29 + p)) y + (m * n (9 + p) + d))) := by
  have h0 := hw.1
  obtain ⟨w, hW1, hW2, hcl⟩ := hw.2.1 p hp
  have hcp := h.2.1 p hp
  have hmp := h2.mp (p := p) (by omega)
  have hP := w.P
  obtain ⟨w1, w2, w3, w4, w5, w6, w7⟩ := id w
  obtain ⟨c1, c2, c3, c4, c5⟩ := id hcp
  obtain ⟨m1, m2, m3, m4, m5⟩ := id hmp
  have hpar : fX11_isParish 140 (nI p) S' = some 1 := by
    unfold fX11_isParish
    rw [show gA S' 29 (140 + 2) 0 = nI (n 0) from h2 0 (by omega), isIn_in (by omega) hp]; rfl
  generalize n (4 + p) = M at *
  generalize n (9 + p) = D at *
  generalize n (24 + p) = U at *
  generalize n (29 + p) = E at *
  unfold fX4_countAt fX11_counted
  rw [hpar, ob_some, if_neg i10, show (4 : Int32) + nI p = nI (4 + p) from nI_add 4 p, igd (by omega) (by decide), igd (by omega) (by decide), nI_clamp (by omega), show (140 : Nat) + 2 = 142 from rfl, m1, c1, show (29 : Int32) + nI p = nI (29 + p) from nI_add 29 p, igd (by omega) (by decide), nI_clamp (by omega), m4, c4, igz (by omega) (by omega), igz (by omega) (by omega), c3, c2]
  by_cases a1 : x2 < 0
  · rw [if_pos a1, isIn_no (Or.inl a1), if_pos rfl]; exact ⟨_, rfl, rfl, Or.inl rfl⟩
  by_cases a2 : 999 < x2
  · rw [if_neg a1, if_pos a2, isIn_no (Or.inr a2), if_pos rfl]; exact ⟨_, rfl, rfl, Or.inl rfl⟩
  rw [if_neg a1, if_neg a2, isIn_yes a1 a2, if_neg i10]
  by_cases a3 : x3 < 0
  · rw [if_pos a3, isIn_no (Or.inl a3), if_pos rfl]; exact ⟨_, rfl, rfl, Or.inl rfl⟩
  by_cases a4 : nI M < x3
  · rw [if_neg a3, if_pos a4, isIn_no (Or.inr a4), if_pos rfl]; exact ⟨_, rfl, rfl, Or.inl rfl⟩
  rw [if_neg a3, if_neg a4, isIn_yes a3 a4, if_neg i10]
  by_cases a5 : 0 ≤ x4
  · repeat rw [if_pos a5]
    obtain ⟨y, hy, rfl⟩ := nI_of2 (M := 999) (n := 999) (by decide) a1 (Int32.not_lt.mp a2)
    obtain ⟨m, hm, rfl⟩ := nI_of2 (M := nI M) (n := M) (nI_toInt (by omega)) a3 (Int32.not_lt.mp a4)
    obtain ⟨d, hd, rfl⟩ := nI_of (Int32.not_lt.mpr a5)
    have hst := c_start (y := y) hcp w (by omega)
    have hfb := m_firstBy (y := y) hmp w (by omega) (by omega)
    have hmD : m * D ≤ M * D := Nat.mul_le_mul_right _ hm
    unfold fX11_counted_s80 fX4_countAt_s63
    rw [hst, hfb]
    repeat rw [ob_some]
    rw [show (9 : Int32) + nI p = nI (9 + p) from nI_add 9 p]
    repeat rw [igd (show 9 + p < 250 by omega) (by decide)]
    rw [nI_clamp (by omega), show (140 : Nat) + 2 = 142 from rfl, m2, c2, show (24 : Int32) + nI p = nI (24 + p) from nI_add 24 p, igd (by omega) (by decide), nI_clamp (by omega), m3, pk_mul, nI_add, nI_add, pk_rem (by omega) (by omega) (by omega)]
    rcases Nat.lt_or_ge m M with q | q
    · rw [if_neg (nI_ge q (by omega)), if_neg (show ¬ nI m = nI M from fun e => by rw [nI_eq (by omega) (by omega)] at e; omega), if_pos rfl]
      rcases Nat.lt_or_ge d D with r | r
      · rw [if_neg (nI_ge r (by omega)), if_pos (nI_lt r (by omega))]
        have := pl_lt q r
        exact ⟨_, rfl, rfl, Or.inr ⟨y, m, d, rfl, rfl, Or.inl ⟨q, r⟩, by unfold lnY; omega, hy, by rw [Nat.add_assoc]⟩⟩
      · rw [if_pos (nI_le r (by omega)), if_neg (nI_nlt r (by omega))]; exact ⟨_, rfl, rfl, Or.inl rfl⟩
    · have hmM : m = M := by omega
      subst hmM
      rw [if_pos (nI_le (by omega) (by omega)), if_pos rfl]
      by_cases r : y % E = 0
      · rw [r, if_pos nI_0, if_pos nI_0, if_neg i10]
        rcases Nat.lt_or_ge d U with r2 | r2
        · rw [if_neg (nI_ge r2 (by omega)), if_pos (nI_lt r2 (by omega))]
          exact ⟨_, rfl, rfl, Or.inr ⟨y, m, d, rfl, rfl, Or.inr ⟨rfl, r2⟩, by unfold lnY; rw [if_pos r]; omega, hy, by rw [Nat.add_assoc]⟩⟩
        · rw [if_pos (nI_le r2 (by omega)), if_neg (nI_nlt r2 (by omega))]; exact ⟨_, rfl, rfl, Or.inl rfl⟩
      · have hr : y % E < E := Nat.mod_lt _ (by omega)
        rw [if_neg (nI_z (by omega) (by omega)), if_neg (nI_z (by omega) (by omega))]; exact ⟨_, rfl, rfl, Or.inl rfl⟩
  · repeat rw [if_neg a5]
    exact ⟨_, rfl, rfl, Or.inl rfl⟩
theorem counted_no {S : St} {x1 x2 x3 x4 : Int32} (h : fX11_isParish 140 x1 S = some 0) : fX11_counted 140 x1 x2 x3 x4 S = some (-1) := by
  unfold fX11_counted; rw [h, ob_some, if_pos rfl]
theorem q_countOf {S : St} {n : Nat → Nat} (hw : WFn n) (h : CW S n) (h' : MR S n) (x1 x2 x3 x4 : Int32) : ∃ r, fX10_countOf 0 x1 x2 x3 x4 S = some r ∧ fX11_countOf 140 x1 x2 x3 x4 S = some (r, sI S 11 0 140 0) := by
  have h0 := hw.1
  have h2 : MR (sI S 11 0 140 0) n := h'
  unfold fX10_countOf fX11_countOf fX11_countOf_s5
  rcases px h h2 h0.1 x1 with ⟨p, hp, rfl, e1, e2⟩ | ⟨e1, e2⟩
  · obtain ⟨r, r1, r2, -⟩ := q_counted hw h h2 hp x2 x3 x4
    rw [r2, ob_some, if_neg (show ¬ fX8_hasParish (0 + 3 + 1) (nI p) S = 0 from fun q => i10 (e1.symm.trans q)), igd (by omega) (by decide), nI_clamp (by omega), show (0 : Nat) + 3 + 1 + 1 + 2 + p = 7 + p from rfl, r1]
    exact ⟨r, rfl, rfl⟩
  · rw [counted_no e2, ob_some, if_pos (show fX8_hasParish (0 + 3 + 1) x1 S = 0 from e1)]; exact ⟨_, rfl, rfl⟩
theorem q_feast {S : St} {n : Nat → Nat} (hw : WFn n) (h : CW S n) (h' : MR S n) (x1 x2 : Int32) : ∃ r, fX10_feast 0 x1 x2 S = some r ∧ fX11_feast 140 x1 x2 S = some (r, sI S 11 0 140 0) := by
  have h0 := hw.1
  have h2 : MR (sI S 11 0 140 0) n := h'
  unfold fX10_feast fX11_feast fX11_feast_s5
  rcases fx h h2 h0.2.1 x1 with ⟨f, hf, rfl, e1, e2⟩ | ⟨e1, e2⟩
  · obtain ⟨g1, g2, g3⟩ := h.2.2.1 f hf
    have k1 : gA (sI S 11 0 140 0) 29 (140 + 2) (34 + f) = nI (n (34 + f)) := h2 _ (by omega)
    have k2 : gA (sI S 11 0 140 0) 29 (140 + 2) (40 + f) = nI (n (40 + f)) := h2 _ (by omega)
    have k3 : gA (sI S 11 0 140 0) 29 (140 + 2) (46 + f) = nI (n (46 + f)) := h2 _ (by omega)
    have d1 : fX9_fallsOn 3 (nI f) 0 S = some (b01 (fallB n f 0)) := c_fallsOn hw h (k := 0) hf (by omega)
    have d2 : fX11_fallsIn 140 (nI f) 0 (sI S 11 0 140 0) = some (b01 (fallB n f 0)) := m_fallsIn hw h2 (k := 0) hf (by omega)
    unfold fX10_feast_s29
    rw [if_neg (show ¬ fX8_hasFeast (0 + 3 + 1) (nI f) S = 0 from fun q => i10 (e1.symm.trans q)), igd (by omega) (by decide), nI_clamp (by omega), show (0 : Nat) + 3 + 1 + 2 + 6 + f = 12 + f from rfl, g1, g2, g3, e2, ob_some, if_neg i10, show (34 : Int32) + nI f = nI (34 + f) from nI_add 34 f, show (40 : Int32) + nI f = nI (40 + f) from nI_add 40 f, show (46 : Int32) + nI f = nI (46 + f) from nI_add 46 f, igd (by omega) (by decide), igd (by omega) (by decide), igd (by omega) (by decide), nI_clamp (by omega), nI_clamp (by omega), nI_clamp (by omega), k1, k2, k3, show (0 : Nat) + 3 = 3 from rfl, d1, d2, ob_some, ob_some, if01, if01]
    by_cases q0 : x2 = 0
    · rw [if_pos q0, if_pos q0]; exact ⟨_, rfl, rfl⟩
    rw [if_neg q0, if_neg q0]
    by_cases q1 : x2 = 1
    · rw [if_pos q1, if_pos q1]; exact ⟨_, rfl, rfl⟩
    rw [if_neg q1, if_neg q1]
    by_cases q2 : x2 = 2
    · rw [if_pos q2, if_pos q2]; exact ⟨_, rfl, rfl⟩
    rw [if_neg q2, if_neg q2]
    by_cases q3 : x2 = 3
    · rw [if_pos q3, if_pos q3]
      by_cases q4 : fallB n f 0 = true
      · rw [if_pos q4, if_pos q4]; exact ⟨_, rfl, rfl⟩
      · rw [if_neg q4, if_neg q4]; exact ⟨_, rfl, rfl⟩
    rw [if_neg q3, if_neg q3]; exact ⟨_, rfl, rfl⟩
  · rw [e2, ob_some, if_pos rfl, if_pos (show fX8_hasFeast (0 + 3 + 1) x1 S = 0 from e1)]; exact ⟨_, rfl, rfl⟩
