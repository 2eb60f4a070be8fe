-- agree, match, reform, play
theorem mp_yes {S : St} {n : Nat → Nat} (hw : WFn n) (h : MR S n) {p : Nat} (hp : p < n 0) : fX11_isParish 140 (nI p) S = some 1 := by
  have h0 := hw.1
  unfold fX11_isParish
  rw [show gA S 29 (140 + 2) 0 = nI (n 0) from h 0 (by omega), isIn_in (by omega) hp]; rfl
def fstO (P : Nat → Bool) : Nat → Nat → Option Nat
  | 0, _ => none
  | m + 1, i => if P i = true then some i else fstO P m (i + 1)
theorem fstO_le {P : Nat → Bool} {m i v : Nat} (h : fstO P m i = some v) : v < i + m := by
  induction m generalizing i with
  | zero => cases h
  | succ m ih =>
    unfold fstO at h
    by_cases q : P i = true
    · rw [if_pos q] at h; cases h; omega
    · rw [if_neg q] at h; have := ih h; omega
def oI (o : Option Nat) (d : Int32) : Int32 := match o with
  | some v => nI v
  | none => d
def skP (n : Nat → Nat) (p q k : Nat) : Bool := decide (dtq n p (n (54 + p) + k) = dtq n q (n (54 + q)))
def skO (n : Nat → Nat) (p q : Nat) : Option Nat := fstO (skP n p q) 401 0
theorem skO_le {n : Nat → Nat} {p q v : Nat} (h : skO n p q = some v) : v ≤ 400 := by have := fstO_le h; omega
theorem l_skipsTo {S : St} {n : Nat → Nat} (hw : WFn n) (h : CW S n) {p q : Nat} (hp : p < n 0) (hq : q < n 0) : ∀ m i u : Nat, i + m = 401 → m < u → fX0_skipsTo_h21 3 (nI p) (nI q) u (nI (dtq n q (n (54 + q)))) (nI (n (54 + p))) (nI i) S = some (oI (fstO (skP n p q) m i) (-1)) := by
  have h0 := hw.1
  intro m
  induction m with
  | zero =>
    intro i u hi hu
    obtain ⟨u, rfl⟩ : ∃ k', u = k' + 1 := ⟨u - 1, by omega⟩
    rw [fX0_skipsTo_h21]; unfold fX0_skipsTo_s21
    rw [if_pos (show (400 : Int32) < nI i from nI_lt (a := 400) (by omega) (by omega))]; rfl
  | succ m ih =>
    intro i u hi hu
    obtain ⟨u, rfl⟩ : ∃ k', u = k' + 1 := ⟨u - 1, by omega⟩
    obtain ⟨w, hW1, hW2, hcl⟩ := hw.2.1 p hp
    have hd := c_dateAt (c := n (54 + p) + i) (h.2.1 p hp) w (by omega)
    have hl := dt_lt w (n (54 + p) + i)
    have hl2 := dt_lt (hw.2.1 q hq).1 (n (54 + q))
    rw [fX0_skipsTo_h21]; unfold fX0_skipsTo_s21
    rw [if_neg (show ¬ (400 : Int32) < nI i from Int32.not_lt.mpr (nI_le (b := 400) (by omega) (by omega))), igd (by omega) (by decide), nI_clamp (by omega), show (3 : Nat) + 1 + 1 + 2 + p = 7 + p from rfl, nI_add, hd, ob_some, nI_1]
    unfold fstO
    by_cases r : dtq n p (n (54 + p) + i) = dtq n q (n (54 + q))
    · rw [if_pos (show nI (dtOf (n (4 + p)) (n (9 + p)) (n (24 + p)) (n (29 + p)) (n (54 + p) + i)) = nI (dtq n q (n (54 + q))) from congrArg nI r), if_pos (show skP n p q i = true from decide_eq_true r)]; rfl
    · rw [if_neg (show ¬ nI (dtOf (n (4 + p)) (n (9 + p)) (n (24 + p)) (n (29 + p)) (n (54 + p) + i)) = nI (dtq n q (n (54 + q))) from fun e => r ((nI_eq (by unfold dtq; omega) (by unfold dtq; omega)).mp e)), if_neg (show ¬ skP n p q i = true from fun e => r (of_decide_eq_true e))]
      exact ih (i + 1) u (by omega) (by omega)
theorem c_skipsTo {S : St} {n : Nat → Nat} (hw : WFn n) (h : CW S n) {p q : Nat} (hp : p < n 0) (hq : q < n 0) : fX0_skipsTo 3 (nI p) (nI q) S = some (oI (skO n p q) (-1)) := by
  have h0 := hw.1
  have hd : fX9_dateIn 3 (nI q) 0 S = some (nI (dtq n q (n (54 + q)))) := by
    have e := c_dateIn hw h (k := 0) hq (by omega)
    rw [cnt_0] at e
    exact e
  have hc : gA S 15 (3 + 15 + 1) p = nI (n (54 + p)) := h.2.2.2.2 p hp
  unfold fX0_skipsTo fX0_skipsTo_s18
  rw [hd, ob_some, igd (by omega) (by decide), nI_clamp (by omega), hc]
  exact l_skipsTo hw h hp hq 401 0 NN (by omega) (by unfold NN; omega)
theorem l_skipsToR {S : St} {n : Nat → Nat} (hw : WFn n) (h : MR S n) {p q : Nat} (hp : p < n 0) (hq : q < n 0) : ∀ m i u : Nat, i + m = 401 → m < u → fX11_skipsTo_h2 140 (nI p) (nI q) u (nI i) S = some (oI (fstO (skP n p q) m i) 1000000) := by
  have h0 := hw.1
  intro m
  induction m with
  | zero =>
    intro i u hi hu
    obtain ⟨u, rfl⟩ : ∃ k', u = k' + 1 := ⟨u - 1, by omega⟩
    rw [fX11_skipsTo_h2]; unfold fX11_skipsTo_s2
    rw [if_pos (show (400 : Int32) < nI i from nI_lt (a := 400) (by omega) (by omega))]; rfl
  | succ m ih =>
    intro i u hi hu
    obtain ⟨u, rfl⟩ : ∃ k', u = k' + 1 := ⟨u - 1, by omega⟩
    obtain ⟨w, hW1, hW2, hcl⟩ := hw.2.1 p hp
    have hc : gA S 29 (140 + 2) (54 + p) = nI (n (54 + p)) := h _ (by omega)
    have hd := m_dated (c := n (54 + p) + i) (h.mp (p := p) (by omega)) w (by omega) (by omega)
    have hl := dt_lt w (n (54 + p) + i)
    have hl2 := dt_lt (hw.2.1 q hq).1 (n (54 + q))
    rw [fX11_skipsTo_h2]; unfold fX11_skipsTo_s2
    rw [if_neg (show ¬ (400 : Int32) < nI i from Int32.not_lt.mpr (nI_le (b := 400) (by omega) (by omega))), show (54 : Int32) + nI p = nI (54 + p) from nI_add 54 p, igd (by omega) (by decide), nI_clamp (by omega), hc, nI_add, hd, ob_some, m_today hw h hq, ob_some, nI_1]
    unfold fstO
    by_cases r : dtq n p (n (54 + p) + i) = dtq n q (n (54 + q))
    · rw [if_pos (show nI (dtOf (n (4 + p)) (n (9 + p)) (n (24 + p)) (n (29 + p)) (n (54 + p) + i)) = nI (dtq n q (n (54 + q))) from congrArg nI r), if_pos (show skP n p q i = true from decide_eq_true r)]; rfl
    · rw [if_neg (show ¬ nI (dtOf (n (4 + p)) (n (9 + p)) (n (24 + p)) (n (29 + p)) (n (54 + p) + i)) = nI (dtq n q (n (54 + q))) from fun e => r ((nI_eq (by unfold dtq; omega) (by unfold dtq; omega)).mp e)), if_neg (show ¬ skP n p q i = true from fun e => r (of_decide_eq_true e))]
      exact ih (i + 1) u (by omega) (by omega)
theorem m_skipsTo {S : St} {n : Nat → Nat} (hw : WFn n) (h : MR S n) {p q : Nat} (hp : p < n 0) (hq : q < n 0) : fX11_skipsTo 140 (nI p) (nI q) S = some (oI (skO n p q) 1000000) := l_skipsToR hw h hp hq 401 0 NN (by omega) (by unfold NN; omega)
theorem nI_m1 {v : Nat} (h : v < 2 ^ 31) : ¬ nI v = -1 := fun e => by
  have := congrArg Int32.toInt e
  rw [nI_toInt h, show (-1 : Int32).toInt = -1 from by decide] at this
  omega
theorem nI_far {v : Nat} (h : v ≤ 900000) : ¬ nI v = 1000000 := fun e => by
  have := (nI_eq (a := v) (b := 1000000) (by omega) (by omega)).mp e
  omega
theorem hb {S S' : St} {n : Nat → Nat} (hw : WFn n) (h : CW S n) (h' : MR S' n) (x1 x2 : Int32) : (∃ p q, p < n 0 ∧ q < n 0 ∧ x1 = nI p ∧ x2 = nI q ∧ fX10_hasBoth 0 x1 x2 S = 1) ∨ (fX10_hasBoth 0 x1 x2 S = 0 ∧ (fX11_isParish 140 x1 S' = some 0 ∨ (fX11_isParish 140 x1 S' = some 1 ∧ fX11_isParish 140 x2 S' = some 0))) := by
  have h0 := hw.1
  unfold fX10_hasBoth
  rcases px h h' h0.1 x1 with ⟨p, hp, rfl, e1, e2⟩ | ⟨e1, e2⟩
  · rw [if_neg (show ¬ fX8_hasParish (0 + 3 + 1) (nI p) S = 0 from fun q => i10 (e1.symm.trans q))]
    rcases px h h' h0.1 x2 with ⟨q, hq, rfl, d1, d2⟩ | ⟨d1, d2⟩
    · exact Or.inl ⟨p, q, hp, hq, rfl, rfl, if_neg (show ¬ fX8_hasParish (0 + 3 + 1) (nI q) S = 0 from fun q => i10 (d1.symm.trans q))⟩
    · exact Or.inr ⟨if_pos (show fX8_hasParish (0 + 3 + 1) x2 S = 0 from d1), Or.inr ⟨e2, d2⟩⟩
  · exact Or.inr ⟨if_pos (show fX8_hasParish (0 + 3 + 1) x1 S = 0 from e1), Or.inl e2⟩
theorem q_agree {S : St} {n : Nat → Nat} (hw : WFn n) (h : CW S n) (h' : MR S n) (x1 x2 : Int32) : ∃ r S1 S2, fX10_agree 0 x1 x2 S = some (r, S1) ∧ fX11_agree 140 x1 x2 S1 = some (r, S2) ∧ ((S1 = S ∧ S2 = sI S 11 0 140 0) ∨ ∃ v, S1 = sI S 0 1 93 v ∧ S2 = sI (sI S1 11 0 140 0) 11 26 140 v) := by
  have h0 := hw.1
  unfold fX10_agree
  rcases hb hw h (MR_sI (c := 11) (k := 0) (a := 140) (v := 0) h') x1 x2 with ⟨p, q, hp, hq, rfl, rfl, e⟩ | ⟨e, e2⟩
  · have c1 := c_skipsTo hw h hp hq
    have c2 := c_skipsTo hw h hq hp
    have m1 : ∀ T, MR T n → fX11_skipsTo 140 (nI p) (nI q) T = some (oI (skO n p q) 1000000) := fun T hT => m_skipsTo hw hT hp hq
    have m2 : ∀ T, MR T n → fX11_skipsTo 140 (nI q) (nI p) T = some (oI (skO n q p) 1000000) := fun T hT => m_skipsTo hw hT hq hp
    have y1 : ∀ T, MR T n → fX11_isParish 140 (nI p) T = some 1 := fun T hT => mp_yes hw hT hp
    have y2 : ∀ T, MR T n → fX11_isParish 140 (nI q) T = some 1 := fun T hT => mp_yes hw hT hq
    unfold fX0_findAgreement fX0_findAgreement_s30 fX0_findAgreement_s49 fX0_findAgreement_s54 fX0_findAgreement_s57 fX0_findAgreement_s62 fX10_agree_s22
    rw [if_neg (fun r => i10 (e.symm.trans r)), show (0 : Nat) + 3 = 3 from rfl, show (0 : Nat) + 93 = 93 from rfl, c1, ob_some, c2, ob_some]
    rcases ho : skO n p q with _ | a
    · rw [ho] at m1
      rcases ho2 : skO n q p with _ | b
      · rw [ho2] at m2
        refine ⟨-1, S, _, rfl, ?_, Or.inl ⟨rfl, rfl⟩⟩
        unfold fX11_agree fX11_agree_s5
        rw [y1 _ (MR_sI h'), ob_some, if_neg i10, y2 _ (MR_sI h'), ob_some, if_neg i10, m1 _ (MR_sI h'), ob_some, m2 _ (MR_sI h'), ob_some]; rfl
      · rw [ho2] at m2
        have hbl := skO_le ho2
        refine ⟨nI b, sI S 0 1 93 (nI q), _, ?_, ?_, Or.inr ⟨nI q, rfl, rfl⟩⟩
        · show (if (-1 : Int32) = -1 then _ else _ : Option (Int32 × St)).bind _ = _
          rw [if_pos rfl]
          show (if nI b = -1 then _ else if nI b = -1 then _ else _ : Option (Int32 × St)).bind _ = _
          rw [if_neg (nI_m1 (by omega)), if_neg (nI_m1 (by omega))]; rfl
        · unfold fX11_agree fX11_agree_s5 fX11_agree_s55 fX11_agree_s70
          rw [y1 _ (MR_sI (MR_sI h')), ob_some, if_neg i10, y2 _ (MR_sI (MR_sI h')), ob_some, if_neg i10, m1 _ (MR_sI (MR_sI h')), ob_some, m2 _ (MR_sI (MR_sI h')), ob_some]
          have hn : ¬ (1000000 : Int32) ≤ nI b := nI_ge (b := 1000000) (by omega) (by omega)
          show (if (1000000 : Int32) = 1000000 then (if nI b = 1000000 then _ else if (1000000 : Int32) ≤ nI b then _ else (if (1000000 : Int32) ≤ nI b then _ else _)) else _) = _
          rw [if_pos rfl, if_neg (nI_far (by omega)), if_neg hn, if_neg hn]; rfl
    · rw [ho] at m1
      have hal := skO_le ho
      rcases ho2 : skO n q p with _ | b
      · rw [ho2] at m2
        refine ⟨nI a, sI S 0 1 93 (nI p), _, ?_, ?_, Or.inr ⟨nI p, rfl, rfl⟩⟩
        · show (if nI a = -1 then _ else if (-1 : Int32) = -1 then _ else _ : Option (Int32 × St)).bind _ = _
          rw [if_neg (nI_m1 (by omega)), if_pos rfl]; rfl
        · unfold fX11_agree fX11_agree_s5 fX11_agree_s55 fX11_agree_s70
          rw [y1 _ (MR_sI (MR_sI h')), ob_some, if_neg i10, y2 _ (MR_sI (MR_sI h')), ob_some, if_neg i10, m1 _ (MR_sI (MR_sI h')), ob_some, m2 _ (MR_sI (MR_sI h')), ob_some]
          have hn : nI a ≤ (1000000 : Int32) := nI_le (b := 1000000) (by omega) (by omega)
          show (if nI a = 1000000 then _ else if nI a ≤ (1000000 : Int32) then (if nI a ≤ (1000000 : Int32) then _ else _) else _) = _
          rw [if_neg (nI_far (by omega)), if_pos hn, if_pos hn]; rfl
      · rw [ho2] at m2
        have hbl := skO_le ho2
        by_cases r : b < a
        · refine ⟨nI b, sI S 0 1 93 (nI q), _, ?_, ?_, Or.inr ⟨nI q, rfl, rfl⟩⟩
          · show (if nI a = -1 then _ else if nI b = -1 then _ else if nI a = -1 then _ else if nI b < nI a then _ else _ : Option (Int32 × St)).bind _ = _
            rw [if_neg (nI_m1 (by omega)), if_neg (nI_m1 (by omega)), if_neg (nI_m1 (by omega)), if_pos (nI_lt r (by omega))]; rfl
          · unfold fX11_agree fX11_agree_s5 fX11_agree_s55 fX11_agree_s70
            rw [y1 _ (MR_sI (MR_sI h')), ob_some, if_neg i10, y2 _ (MR_sI (MR_sI h')), ob_some, if_neg i10, m1 _ (MR_sI (MR_sI h')), ob_some, m2 _ (MR_sI (MR_sI h')), ob_some]
            have hn : ¬ nI a ≤ nI b := nI_ge r (by omega)
            show (if nI a = 1000000 then _ else if nI a ≤ nI b then _ else (if nI a ≤ nI b then _ else _)) = _
            rw [if_neg (nI_far (by omega)), if_neg hn, if_neg hn]; rfl
        · refine ⟨nI a, sI S 0 1 93 (nI p), _, ?_, ?_, Or.inr ⟨nI p, rfl, rfl⟩⟩
          · show (if nI a = -1 then _ else if nI b = -1 then _ else if nI a = -1 then _ else if nI b < nI a then _ else _ : Option (Int32 × St)).bind _ = _
            rw [if_neg (nI_m1 (by omega)), if_neg (nI_m1 (by omega)), if_neg (nI_m1 (by omega)), if_neg (nI_nlt (by omega) (by omega))]; rfl
          · unfold fX11_agree fX11_agree_s5 fX11_agree_s55 fX11_agree_s70
            rw [y1 _ (MR_sI (MR_sI h')), ob_some, if_neg i10, y2 _ (MR_sI (MR_sI h')), ob_some, if_neg i10, m1 _ (MR_sI (MR_sI h')), ob_some, m2 _ (MR_sI (MR_sI h')), ob_some]
            have hn : nI a ≤ nI b := nI_le (by omega) (by omega)
            show (if nI a = 1000000 then _ else if nI a ≤ nI b then (if nI a ≤ nI b then _ else _) else _) = _
            rw [if_neg (nI_far (by omega)), if_pos hn, if_pos hn]; rfl
  · refine ⟨_, _, _, if_pos e, ?_, Or.inl ⟨rfl, rfl⟩⟩
    unfold fX11_agree fX11_agree_s5
    rcases e2 with e2 | ⟨e2, e3⟩
    · rw [e2, ob_some, if_pos rfl]
    · rw [e2, ob_some, if_neg i10, e3, ob_some, if_pos rfl]
theorem q_play {S : St} {n : Nat → Nat} (hw : WFn n) (h : CW S n) (h' : MR S n) (x1 x2 x3 : Int32) : ∃ r, fX10_play 0 x1 x2 x3 S = some r ∧ fX11_play 140 x1 x2 x3 S = some (r, sI S 11 0 140 0) := by
  have h0 := hw.1
  have h2 : MR (sI S 11 0 140 0) n := h'
  unfold fX10_play fX11_play fX11_play_s5
  rcases hb hw h h2 x1 x2 with ⟨p, q, hp, hq, rfl, rfl, e⟩ | ⟨e, e2⟩
  · rw [if_neg (fun r => i10 (e.symm.trans r)), mp_yes hw h2 hp, ob_some, if_neg i10, mp_yes hw h2 hq, ob_some, if_neg i10]
    by_cases a1 : x3 < 1
    · rw [if_pos a1, isIn_no (Or.inl a1), if_pos rfl]; exact ⟨_, rfl, rfl⟩
    by_cases a2 : 9 < x3
    · rw [if_neg a1, if_pos a2, isIn_no (Or.inr a2), if_pos rfl]; exact ⟨_, rfl, rfl⟩
    rw [if_neg a1, if_neg a2, isIn_yes a1 a2, if_neg i10]
    obtain ⟨k, hk, rfl⟩ := nI_of2 (x := x3) (M := 9) (n := 9) (by decide) (fun q => a1 (Int32.lt_trans q (by decide))) (Int32.not_lt.mp a2)
    unfold fX0_findMove fX0_findMove_s26
    rw [show (0 : Nat) + 3 = 3 from rfl, c_skipsTo hw h hp hq, ob_some, m_skipsTo hw h2 hp hq, ob_some, nI_1, igz (by omega) (by omega), igz (by omega) (by omega), igz (by omega) (by omega)]
    rcases ho : skO n p q with _ | a
    · exact ⟨-1, rfl, rfl⟩
    · have hal := skO_le ho
      show ∃ r, (if 0 ≤ nI a then _ else _ : Option Int32).bind _ = some r ∧ (if nI a = 1000000 then _ else _) = _
      rw [if_pos (nI_le0 (by omega)), if_neg (nI_far (by omega))]
      show ∃ r, (if nI a - nI a / nI (k + 1) * nI (k + 1) = 0 then _ else _ : Option Int32).bind _ = some r ∧ (if nI a - nI a / nI (k + 1) * nI (k + 1) = 0 then _ else some (nI a - nI a / nI (k + 1) * nI (k + 1), _)) = _
      by_cases z : nI a - nI a / nI (k + 1) * nI (k + 1) = 0
      · rw [if_pos z, if_pos z]; exact ⟨_, rfl, rfl⟩
      · rw [if_neg z, if_neg z]; exact ⟨_, rfl, rfl⟩
  · rw [if_pos e]
    rcases e2 with e2 | ⟨e2, e3⟩
    · rw [e2, ob_some, if_pos rfl]; exact ⟨_, rfl, rfl⟩
    · rw [e2, ob_some, if_neg i10, e3, ob_some, if_pos rfl]; exact ⟨_, rfl, rfl⟩
-- match
def mtP (n : Nat → Nat) (p q k : Nat) : Bool := decide (dtq n p (cntIn n p k) = dtq n q (cntIn n q k))
def cR (P : Nat → Bool) : Nat → Nat → Nat
  | 0, _ => 0
  | m + 1, i => (if P i = true then 1 else 0) + cR P m (i + 1)
theorem cR_le (P : Nat → Bool) (m i : Nat) : cR P m i ≤ m := by
  induction m generalizing i with
  | zero => exact Nat.le_refl _
  | succ m ih => have := ih (i + 1); unfold cR; split <;> omega
/-- the state behind: a day is set where there is one -/
def stO (S : St) (c k a : Nat) (o : Option Nat) : St := match o with
  | some v => sI S c k a (nI v)
  | none => S
theorem fst_cR {P : Nat → Bool} {m i : Nat} : fstO P m i = none ↔ cR P m i = 0 := by
  induction m generalizing i with
  | zero => exact ⟨fun _ => rfl, fun _ => rfl⟩
  | succ m ih =>
    unfold fstO cR
    by_cases q : P i = true
    · rw [if_pos q, if_pos q]; exact ⟨fun e => (nomatch e), fun e => by omega⟩
    · rw [if_neg q, if_neg q, ih, Nat.zero_add]
theorem l_countMatches {n : Nat → Nat} (hw : WFn n) {p q N : Nat} (hp : p < n 0) (hq : q < n 0) (hN : N ≤ 999) : ∀ (m i u a : Nat) (S : St), CW S n → i + m = N + 1 → m < u → a ≤ i → fX0_countMatches_h6 93 3 (nI p) (nI q) (nI N) u (nI a) (nI i) S = some (nI (a + cR (mtP n p q) m i), if a = 0 then stO S 0 2 93 (fstO (mtP n p q) m i) else S) := by
  have h0 := hw.1
  intro m
  induction m with
  | zero =>
    intro i u a S h hi hu ha
    obtain ⟨u, rfl⟩ : ∃ k', u = k' + 1 := ⟨u - 1, by omega⟩
    rw [fX0_countMatches_h6]; unfold fX0_countMatches_s6
    rw [if_pos (nI_lt (by omega) (by omega))]
    show _ = some (nI (a + 0), if a = 0 then S else S)
    rw [Nat.add_zero]; split <;> rfl
  | succ m ih =>
    intro i u a S h hi hu ha
    obtain ⟨u, rfl⟩ : ∃ k', u = k' + 1 := ⟨u - 1, by omega⟩
    have l1 := dt_lt (hw.2.1 p hp).1 (cntIn n p i)
    have l2 := dt_lt (hw.2.1 q hq).1 (cntIn n q i)
    rw [fX0_countMatches_h6]; unfold fX0_countMatches_s6 fX0_countMatches_s41 fX0_countMatches_s44
    rw [if_neg (nI_nlt (by omega) (by omega)), c_dateIn hw h hp (by omega), ob_some, c_dateIn hw h hq (by omega), ob_some, nI_1, nI_1]
    unfold cR fstO
    by_cases r : dtq n p (cntIn n p i) = dtq n q (cntIn n q i)
    · rw [if_pos (congrArg nI r), if_pos (show mtP n p q i = true from decide_eq_true r), if_pos (show mtP n p q i = true from decide_eq_true r)]
      rcases Nat.eq_zero_or_pos a with s | s
      · subst s
        rw [if_pos nI_0, if_pos rfl, ih (i + 1) u (0 + 1) _ (CW_al h) (by omega) (by omega) (by omega), if_neg (by omega)]; simp only [Nat.zero_add]; rfl
      · rw [if_neg (nI_z s (by omega)), if_neg (show ¬ a = 0 by omega), ih (i + 1) u (a + 1) _ h (by omega) (by omega) (by omega), if_neg (by omega), Nat.add_assoc]
    · rw [if_neg (fun e => r ((nI_eq (by unfold dtq; omega) (by unfold dtq; omega)).mp e)), if_neg (show ¬ mtP n p q i = true from fun e => r (of_decide_eq_true e)), if_neg (show ¬ mtP n p q i = true from fun e => r (of_decide_eq_true e)), ih (i + 1) u a _ h (by omega) (by omega) (by omega), Nat.zero_add]
theorem l_matchR {S : St} {n : Nat → Nat} (hw : WFn n) (h : MR S n) {p q N : Nat} (hp : p < n 0) (hq : q < n 0) (hN : N ≤ 999) : ∀ i u : Nat, i ≤ N + 1 → i < u → fX11_match_h40 140 (nI p) (nI q) (nI N) u (nI (cR (mtP n p q) (N + 1 - i) i)) (nI i - 1) (stO S 11 28 140 (fstO (mtP n p q) (N + 1 - i) i)) = some (nI (cR (mtP n p q) (N + 1) 0), sI (stO S 11 28 140 (fstO (mtP n p q) (N + 1) 0)) 11 29 140 (if gI S 11 29 140 = 0 ∧ cR (mtP n p q) (N + 1) 0 = 0 then 0 else 1)) := by
  have h0 := hw.1
  have h29 : ∀ o, gI (stO S 11 28 140 o) 11 29 140 = gI S 11 29 140 := fun o => by cases o; rfl; exact gI_k (by decide)
  have hM : ∀ o, MR (stO S 11 28 140 o) n := fun o => by cases o; exact h; exact MR_sI h
  have hcl := cR_le (mtP n p q) (N + 1) 0
  intro i
  induction i with
  | zero =>
    intro u hi hu
    obtain ⟨u, rfl⟩ : ∃ k', u = k' + 1 := ⟨u - 1, by omega⟩
    rw [fX11_match_h40]; unfold fX11_match_s40 fX11_match_s101
    rw [if_pos (show nI 0 - 1 < 0 by decide), Nat.sub_zero, h29]
    by_cases z : gI S 11 29 140 = 0
    · rw [if_pos z]
      rcases Nat.eq_zero_or_pos (cR (mtP n p q) (N + 1) 0) with s | s
      · rw [if_pos (show gI S 11 29 140 = 0 ∧ cR (mtP n p q) (N + 1) 0 = 0 from ⟨z, s⟩), s, if_pos (show nI 0 ≤ 0 by decide)]
      · rw [if_neg (show ¬ (gI S 11 29 140 = 0 ∧ cR (mtP n p q) (N + 1) 0 = 0) from fun e => by omega), if_neg (nI_nle s (by omega))]
    · rw [if_neg z, if_neg (show ¬ (gI S 11 29 140 = 0 ∧ cR (mtP n p q) (N + 1) 0 = 0) from fun e => z e.1)]
  | succ i ih =>
    intro u hi hu
    obtain ⟨u, rfl⟩ : ∃ k', u = k' + 1 := ⟨u - 1, by omega⟩
    have l1 := dt_lt (hw.2.1 p hp).1 (cntIn n p i)
    have l2 := dt_lt (hw.2.1 q hq).1 (cntIn n q i)
    rw [nI_pred, fX11_match_h40]; unfold fX11_match_s40 fX11_match_s74
    rw [if_neg (nI_pos (by omega)), m_datedIn hw (hM _) hp (by omega), ob_some, m_datedIn hw (hM _) hq (by omega), ob_some, nI_1, show nI i + -1 = nI i - 1 from (Int32.sub_eq_add_neg _ _).symm]
    have e := ih u (by omega) (by omega)
    rw [show N + 1 - i = (N + 1 - (i + 1)) + 1 by omega] at e
    unfold cR fstO at e
    by_cases r : dtq n p (cntIn n p i) = dtq n q (cntIn n q i)
    · rw [if_pos (congrArg nI r)]
      rw [if_pos (show mtP n p q i = true from decide_eq_true r), if_pos (show mtP n p q i = true from decide_eq_true r), Nat.add_comm 1] at e
      have e2 : sI (stO S 11 28 140 (fstO (mtP n p q) (N + 1 - (i + 1)) (i + 1))) 11 28 140 (nI i) = stO S 11 28 140 (some i) := by
        cases fstO (mtP n p q) (N + 1 - (i + 1)) (i + 1)
        · rfl
        · exact sI_sI
      rw [e2]; exact e
    · rw [if_neg (fun e => r ((nI_eq (by unfold dtq; omega) (by unfold dtq; omega)).mp e))]
      rw [if_neg (show ¬ mtP n p q i = true from fun e => r (of_decide_eq_true e)), if_neg (show ¬ mtP n p q i = true from fun e => r (of_decide_eq_true e)), Nat.zero_add] at e
      exact e
theorem q_match {S : St} {n : Nat → Nat} (hw : WFn n) (h : CW S n) (h' : MR S n) (x1 x2 x3 : Int32) : ∃ r S1 S2, fX10_match 0 x1 x2 x3 S = some (r, S1) ∧ fX11_match 140 x1 x2 x3 S1 = some (r, S2) ∧ ((S1 = S ∧ S2 = sI S 11 0 140 0) ∨ (S1 = S ∧ S2 = sI (sI S 11 0 140 0) 11 29 140 (if gI S 11 29 140 = 0 then 0 else 1)) ∨ ∃ v, S1 = sI S 0 2 93 v ∧ S2 = sI (sI (sI S1 11 0 140 0) 11 28 140 v) 11 29 140 1) := by
  have h0 := hw.1
  unfold fX10_match
  rcases hb hw h (MR_sI (c := 11) (k := 0) (a := 140) (v := 0) h') x1 x2 with ⟨p, q, hp, hq, rfl, rfl, e⟩ | ⟨e, e2⟩
  · have y1 : ∀ T, MR T n → fX11_isParish 140 (nI p) T = some 1 := fun T hT => mp_yes hw hT hp
    have y2 : ∀ T, MR T n → fX11_isParish 140 (nI q) T = some 1 := fun T hT => mp_yes hw hT hq
    rw [if_neg (fun r => i10 (e.symm.trans r))]
    by_cases a1 : x3 < 0
    · refine ⟨_, _, _, if_pos a1, ?_, Or.inl ⟨rfl, rfl⟩⟩
      unfold fX11_match fX11_match_s5
      rw [y1 _ (MR_sI h'), ob_some, if_neg i10, y2 _ (MR_sI h'), ob_some, if_neg i10, isIn_no (Or.inl a1), if_pos rfl]
    by_cases a2 : 999 < x3
    · refine ⟨_, _, _, (if_neg a1).trans (if_pos a2), ?_, Or.inl ⟨rfl, rfl⟩⟩
      unfold fX11_match fX11_match_s5
      rw [y1 _ (MR_sI h'), ob_some, if_neg i10, y2 _ (MR_sI h'), ob_some, if_neg i10, isIn_no (Or.inr a2), if_pos rfl]
    obtain ⟨N, hN, rfl⟩ := nI_of2 (M := 999) (n := 999) (by decide) a1 (Int32.not_lt.mp a2)
    have ec : fX0_countMatches 93 3 (nI p) (nI q) (nI N) S = _ := l_countMatches hw hp hq hN (N + 1) 0 NN 0 S h (by omega) (by unfold NN; omega) (by omega)
    unfold fX10_match_s34
    rw [if_neg a1, if_neg a2, show (0 : Nat) + 3 = 3 from rfl, show (0 : Nat) + 93 = 93 from rfl, ec, if_pos rfl, ob_some, Nat.zero_add]
    refine ⟨_, _, ?_, rfl, ?_, ?_⟩
    · exact sI (stO (sI (stO S 0 2 93 (fstO (mtP n p q) (N + 1) 0)) 11 0 140 0) 11 28 140 (fstO (mtP n p q) (N + 1) 0)) 11 29 140 (if gI (sI (stO S 0 2 93 (fstO (mtP n p q) (N + 1) 0)) 11 0 140 0) 11 29 140 = 0 ∧ cR (mtP n p q) (N + 1) 0 = 0 then 0 else 1)
    · have hM : MR (stO S 0 2 93 (fstO (mtP n p q) (N + 1) 0)) n := by
        cases fstO (mtP n p q) (N + 1) 0; exact h'; exact MR_sI h'
      unfold fX11_match fX11_match_s5
      show (fX11_isParish 140 (nI p) (sI (stO S 0 2 93 (fstO (mtP n p q) (N + 1) 0)) 11 0 140 0)).bind _ = _
      rw [y1 _ (MR_sI hM), ob_some, if_neg i10, y2 _ (MR_sI hM), ob_some, if_neg i10, isIn_yes a1 a2, if_neg i10]
      have er := l_matchR (S := sI (stO S 0 2 93 (fstO (mtP n p q) (N + 1) 0)) 11 0 140 0) hw (MR_sI hM) hp hq hN (N + 1) NN (Nat.le_refl _) (by unfold NN; omega)
      rw [Nat.sub_self, nI_pred] at er
      exact er
    · rcases ho : fstO (mtP n p q) (N + 1) 0 with _ | v
      · refine Or.inr (Or.inl ⟨rfl, ?_⟩)
        have hz := fst_cR.mp ho
        have e9 : gI (sI (stO S 0 2 93 none) 11 0 140 0) 11 29 140 = gI S 11 29 140 := gI_k (by decide)
        by_cases z : gI S 11 29 140 = 0
        · rw [if_pos z, if_pos (show gI (sI (stO S 0 2 93 none) 11 0 140 0) 11 29 140 = 0 ∧ cR (mtP n p q) (N + 1) 0 = 0 from ⟨e9.trans z, hz⟩)]; rfl
        · rw [if_neg z, if_neg (show ¬ (gI (sI (stO S 0 2 93 none) 11 0 140 0) 11 29 140 = 0 ∧ cR (mtP n p q) (N + 1) 0 = 0) from fun r => z (e9.symm.trans r.1))]; rfl
      · refine Or.inr (Or.inr ⟨nI v, rfl, ?_⟩)
        have hz : ¬ cR (mtP n p q) (N + 1) 0 = 0 := fun r => by rw [fst_cR.mpr r] at ho; cases ho
        rw [if_neg (show ¬ (gI (sI (stO S 0 2 93 (some v)) 11 0 140 0) 11 29 140 = 0 ∧ cR (mtP n p q) (N + 1) 0 = 0) from fun r => hz r.2)]; rfl
  · refine ⟨_, _, _, if_pos e, ?_, Or.inl ⟨rfl, rfl⟩⟩
    unfold fX11_match fX11_match_s5
    rcases e2 with e2 | ⟨e2, e3⟩
    · rw [e2, ob_some, if_pos rfl]
    · rw [e2, ob_some, if_neg i10, e3, ob_some, if_pos rfl]
