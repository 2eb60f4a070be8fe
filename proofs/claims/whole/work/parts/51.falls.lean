/-- MONTH and DATE of parish p at a COUNT, in one number -/
def dtq (n : Nat → Nat) (p c : Nat) : Nat := dtOf (n (4 + p)) (n (9 + p)) (n (24 + p)) (n (29 + p)) c
theorem dt_lt {M D U E : Nat} (w : PW M D U E) (c : Nat) : dtOf M D U E c < 450 := by
  have hd := dy_lt w c
  have hP := w.P
  obtain ⟨w1, w2, w3, w4, w5, w6, w7⟩ := w
  unfold dtOf
  generalize dyOf M D U E c = d at hd
  by_cases hb : d < M * D
  · rw [if_pos hb]
    have h1 : d / D < M := Nat.div_lt_of_lt_mul (by rw [Nat.mul_comm]; exact hb)
    have h2 : d % D < D := Nat.mod_lt _ (by omega)
    omega
  · rw [if_neg hb]; omega
theorem cnt_le {n : Nat → Nat} (hw : WFn n) {p k : Nat} (hp : p < n 0) : cntIn n p k ≤ 19999 + k := by
  have h1 := (hw.2.1 p hp).2.2.2
  have h2 := hw.1
  unfold cntIn
  split <;> omega
theorem c_dateIn {S : St} {n : Nat → Nat} (hw : WFn n) (h : CW S n) {p k : Nat} (hp : p < n 0) (hk : k < 2 ^ 23) : fX9_dateIn 3 (nI p) (nI k) S = some (nI (dtq n p (cntIn n p k))) := by
  have h0 := hw.1
  have hc := c_countIn h (k := k) h0.1 hp (by omega)
  have hl := cnt_le hw (k := k) hp
  have hd := c_dateAt (c := cntIn n p k) (h.2.1 p hp) (hw.2.1 p hp).1 (by omega)
  unfold fX9_dateIn
  rw [igd (by omega) (by decide), nI_clamp (by omega), show (3 : Nat) + 15 = 18 from rfl, hc, ob_some, show (3 : Nat) + 1 + 1 + 2 + p = 7 + p from rfl, hd, ob_some]
  rfl
theorem m_datedIn {S : St} {n : Nat → Nat} (hw : WFn n) (h : MR S n) {p k : Nat} (hp : p < n 0) (hk : k < 2 ^ 23) : fX11_datedIn 140 (nI p) (nI k) S = some (nI (dtq n p (cntIn n p k))) := by
  have h0 := hw.1
  have hc := m_ahead h (p := p) (k := k) (by omega) (by omega)
  have hl := cnt_le hw (k := k) hp
  have hd := m_dated (c := cntIn n p k) (h.mp (p := p) (by omega)) (hw.2.1 p hp).1 (by omega) (by omega)
  unfold fX11_datedIn
  rw [hc, ob_some, hd, ob_some]
  rfl
theorem m_today {S : St} {n : Nat → Nat} (hw : WFn n) (h : MR S n) {p : Nat} (hp : p < n 0) : fX11_today 140 (nI p) S = some (nI (dtq n p (n (54 + p)))) := by
  have h0 := hw.1
  have hl := (hw.2.1 p hp).2.2.2
  have hc := h (54 + p) (by omega)
  have hd := m_dated (c := n (54 + p)) (h.mp (p := p) (by omega)) (hw.2.1 p hp).1 (by omega) (by omega)
  unfold fX11_today
  rw [show (54 : Int32) + nI p = nI (54 + p) from nI_add 54 p, igd (by omega) (by decide), nI_clamp (by omega), show (140 : Nat) + 2 = 142 from rfl, hc, hd, ob_some]
  rfl
/-- a FEAST falls in k days -/
def fallB (n : Nat → Nat) (f k : Nat) : Bool := decide (dtq n (n (34 + f)) (cntIn n (n (34 + f)) k) = 32 * n (40 + f) + n (46 + f))
def b01 (b : Bool) : Int32 := if b = true then 1 else 0
theorem b01_if {c : Prop} [Decidable c] : (if c then some (1 : Int32) else some 0) = some (b01 (decide c)) := by
  by_cases h : c
  · rw [if_pos h, decide_eq_true h]; rfl
  · rw [if_neg h, decide_eq_false h]; rfl
theorem hasP {S : St} {n : Nat → Nat} (h : CW S n) (hn : n 0 ≤ 5) {p : Nat} (hp : p < n 0) : fX8_hasParish 4 (nI p) S = 1 := by
  unfold fX8_hasParish
  rw [if_neg (nI_pos (by omega)), h.1.1, if_neg (nI_ge hp (by omega))]
theorem c_fallsOn {S : St} {n : Nat → Nat} (hw : WFn n) (h : CW S n) {f k : Nat} (hf : f < n 1) (hk : k < 2 ^ 23) : fX9_fallsOn 3 (nI f) (nI k) S = some (b01 (fallB n f k)) := by
  have h0 := hw.1
  obtain ⟨f1, f2, f3⟩ := hw.2.2 f hf
  obtain ⟨g1, g2, g3⟩ := h.2.2.1 f hf
  have hd := c_dateIn hw h (k := k) f1 hk
  have hdl := dt_lt (hw.2.1 _ f1).1 (cntIn n (n (34 + f)) k)
  have hm := (hw.2.1 _ f1).1
  obtain ⟨w1, w2, w3, w4, -⟩ := hm
  unfold fX9_fallsOn fX9_fallsOn_s10
  rw [igd (by omega) (by decide), nI_clamp (by omega), show (3 : Nat) + 1 + 2 + 6 + f = 12 + f from rfl, g1, g2, g3, show (3 : Nat) + 1 = 4 from rfl, hasP h h0.1 f1, if_neg (by decide), hd, ob_some, show (32 : Int32) = nI 32 from rfl, pk_mul, nI_add, b01_if]
  congr 2
  unfold fallB
  rw [decide_eq_decide, Nat.mul_comm (n (40 + f)), nI_eq (by unfold dtq; omega) (by omega)]
theorem m_fallsIn {S : St} {n : Nat → Nat} (hw : WFn n) (h : MR S n) {f k : Nat} (hf : f < n 1) (hk : k < 2 ^ 23) : fX11_fallsIn 140 (nI f) (nI k) S = some (b01 (fallB n f k)) := by
  have h0 := hw.1
  obtain ⟨f1, f2, f3⟩ := hw.2.2 f hf
  have hd := m_datedIn hw h (k := k) f1 hk
  have hdl := dt_lt (hw.2.1 _ f1).1 (cntIn n (n (34 + f)) k)
  obtain ⟨w1, w2, w3, w4, -⟩ := (hw.2.1 _ f1).1
  unfold fX11_fallsIn
  rw [show (34 : Int32) + nI f = nI (34 + f) from nI_add 34 f, igd (by omega) (by decide), nI_clamp (by omega), show (140 : Nat) + 2 = 142 from rfl, h (34 + f) (by omega), hd, ob_some, show (40 : Int32) + nI f = nI (40 + f) from nI_add 40 f, igd (by omega) (by decide), show (46 : Int32) + nI f = nI (46 + f) from nI_add 46 f, igd (by omega) (by decide), nI_clamp (by omega), nI_clamp (by omega), h (40 + f) (by omega), h (46 + f) (by omega), show (32 : Int32) = nI 32 from rfl, pk_mul, nI_add, b01_if]
  congr 2
  unfold fallB
  rw [decide_eq_decide, nI_eq (by unfold dtq; omega) (by omega)]
