theorem igd {α : Type} {k n : Nat} {x : Option α} (h : k < n) (hn : n < 2 ^ 31) : (if (nI k < 0 ∨ n ≤ (nI k).toNatClampNeg) then none else x) = x := if_neg (nI_gd h hn)
theorem igz {α : Type} {k : Nat} {x : Option α} (h : 0 < k) (hn : k < 2 ^ 31) : (if nI k = 0 then none else x) = x := if_neg (nI_z h hn)
/-- the reference's reading of a parish -/
def MP (S : St) (q M D U E W : Nat) : Prop := gA S 29 142 (4 + q) = nI M ∧ gA S 29 142 (9 + q) = nI D ∧ gA S 29 142 (24 + q) = nI U ∧ gA S 29 142 (29 + q) = nI E ∧ gA S 29 142 (14 + q) = nI W
theorem m_plainYear {S : St} {q M D U E W : Nat} (h : MP S q M D U E W) (hq : q < 5) : fX11_plainYear 140 (nI q) S = some (nI (M * D)) := by
  obtain ⟨h1, h2, h3, h4, h5⟩ := h
  unfold fX11_plainYear
  rw [show (4 : Int32) + nI q = nI (4 + q) from nI_add 4 q, show (9 : Int32) + nI q = nI (9 + q) from nI_add 9 q, igd (by omega) (by decide), igd (by omega) (by decide), nI_clamp (by omega), nI_clamp (by omega), h1, h2, pk_mul]
theorem m_allYears {S : St} {q M D U E W : Nat} (h : MP S q M D U E W) (hq : q < 5) : fX11_allYears 140 (nI q) S = some (nI (rowL M D U E)) := by
  have hp := m_plainYear h hq
  obtain ⟨h1, h2, h3, h4, h5⟩ := h
  unfold fX11_allYears
  rw [show (29 : Int32) + nI q = nI (29 + q) from nI_add 29 q, show (24 : Int32) + nI q = nI (24 + q) from nI_add 24 q, igd (by omega) (by decide), hp, ob_some, igd (by omega) (by decide), nI_clamp (by omega), nI_clamp (by omega), h3, h4, pk_mul, nI_add]
  rw [Nat.mul_comm E]; rfl
theorem m_yearBy {S : St} {q M D U E W c : Nat} (h : MP S q M D U E W) (w : PW M D U E) (hq : q < 5) (hc : c < 2 ^ 24) : fX11_yearBy 140 (nI q) (nI c) S = some (nI (yrOf M D U E c)) := by
  have hp := m_plainYear h hq
  have ha := m_allYears h hq
  have hP := w.P
  have hR := w.R
  obtain ⟨h1, h2, h3, h4, h5⟩ := h
  obtain ⟨w1, w2, w3, w4, w5, w6, w7⟩ := w
  have hlt : c % rowL M D U E < rowL M D U E := Nat.mod_lt _ (by omega)
  unfold fX11_yearBy fX11_yearBy_s24
  rw [ha, ob_some, igz (by omega) (by omega), hp, ob_some, show (24 : Int32) + nI q = nI (24 + q) from nI_add 24 q, igd (by omega) (by decide), ob_some, igz (by omega) (by omega), show (29 : Int32) + nI q = nI (29 + q) from nI_add 29 q, igd (by omega) (by decide), ob_some, igz (by omega) (by omega), nI_clamp (by omega), nI_clamp (by omega), h3, h4, pk_rem (by omega) (by omega) (by omega), pk_div (by omega) (by omega) (by omega), pk_mul]
  unfold yrOf
  by_cases hb : c % rowL M D U E < M * D + U
  · have hneg : ¬ (0 : Int32) ≤ nI (c % rowL M D U E) - nI (M * D) - nI U := by
      have e : nI (c % rowL M D U E) - nI (M * D) - nI U = nI (c % rowL M D U E) - nI (M * D + U) := by rw [← nI_add]; simp [Int32.sub_eq_add_neg, Int32.neg_add, Int32.add_assoc]
      rw [e, Int32.not_le]
      exact pk_sneg (by omega) hb
    rw [if_neg hneg, if_pos hb, show (0 : Int32) = nI 0 from rfl, nI_add, Nat.add_zero]
  · rw [pk_sub (by omega), pk_sub (by omega), if_pos (nI_le0 (by omega)), if_neg hb, pk_div (by omega) (by omega) (by omega), show (1 : Int32) = nI 1 from rfl, nI_add, nI_add, Nat.add_assoc]
theorem m_firstBy {S : St} {q M D U E W y : Nat} (h : MP S q M D U E W) (w : PW M D U E) (hq : q < 5) (hy : y < 2 ^ 24) : fX11_firstBy 140 (nI q) (nI y) S = some (nI (fsOf M D U E y)) := by
  have hp := m_plainYear h hq
  obtain ⟨h1, h2, h3, h4, h5⟩ := h
  obtain ⟨w1, w2, w3, w4, w5, w6, w7⟩ := w
  unfold fX11_firstBy
  rw [hp, ob_some, show (24 : Int32) + nI q = nI (24 + q) from nI_add 24 q, igd (by omega) (by decide), show (29 : Int32) + nI q = nI (29 + q) from nI_add 29 q, igd (by omega) (by decide), igd (by omega) (by decide), nI_clamp (by omega), nI_clamp (by omega), h3, h4, igz (by omega) (by omega), nI_add, show (1 : Int32) = nI 1 from rfl, pk_sub (by omega), pk_div (by omega) (by omega) (by omega), pk_mul, pk_mul, nI_add]
  rfl
theorem yr_le {M D U E : Nat} (w : PW M D U E) (c : Nat) : yrOf M D U E c ≤ c := by
  have h := fs_dy w c
  have hP := w.P
  have : yrOf M D U E c * 1 ≤ yrOf M D U E c * (M * D) := Nat.mul_le_mul_left _ (by omega)
  unfold fsOf at h
  omega
theorem m_dated {S : St} {q M D U E W c : Nat} (h : MP S q M D U E W) (w : PW M D U E) (hq : q < 5) (hc : c < 2 ^ 24) : fX11_dated 140 (nI q) (nI c) S = some (nI (dtOf M D U E c)) := by
  have hp := m_plainYear h hq
  have hy := m_yearBy h w hq hc
  have hyl := yr_le w c
  have hf := m_firstBy (y := yrOf M D U E c) h w hq (by omega)
  have hfd := fs_dy w c
  have hdl := dy_lt w c
  have hP := w.P
  obtain ⟨h1, h2, h3, h4, h5⟩ := h
  obtain ⟨w1, w2, w3, w4, w5, w6, w7⟩ := w
  unfold fX11_dated fX11_dated_s14
  rw [hy, ob_some, hf, ob_some, hp, ob_some, pk_sub (by omega), show c - fsOf M D U E (yrOf M D U E c) = dyOf M D U E c by omega, show (4 : Int32) + nI q = nI (4 + q) from nI_add 4 q, show (9 : Int32) + nI q = nI (9 + q) from nI_add 9 q, igd (by omega) (by decide), igd (by omega) (by decide), igd (by omega) (by decide), nI_clamp (by omega), nI_clamp (by omega), h1, h2]
  unfold dtOf
  generalize dyOf M D U E c = d at hdl
  by_cases hb : d < M * D
  · rw [if_neg (nI_ge (by omega) (by omega)), if_pos hb, igz (by omega) (by omega), igz (by omega) (by omega), pk_rem (by omega) (by omega) (by omega), pk_div (by omega) (by omega) (by omega), show (32 : Int32) = nI 32 from rfl, pk_mul, nI_add]
  · rw [if_pos (nI_le (by omega) (by omega)), if_neg hb, show (32 : Int32) = nI 32 from rfl, pk_mul, nI_add, pk_sub (by omega), Nat.add_sub_assoc (by omega)]

-- days: counts of the days ahead
/-- is bit p of the held set -/
def bitI (x : Int32) (p : Nat) : Prop := ((x >>> (nI p &&& 31)) &&& 1) = 1
theorem vz0 : vp_nar .boolean 0 = 0 := by decide
theorem vz1 : vp_nar .boolean 1 = 1 := by decide
theorem m_isHeld {S : St} {p : Nat} : fX11_isHeld 140 (nI p) S = some (if ((gA S 29 142 53 >>> (nI p &&& 31)) &&& 1) = 1 then 1 else 0) := by
  unfold fX11_isHeld fX11_bitOf
  by_cases h : ((gA S 29 142 53 >>> (nI p &&& 31)) &&& 1) = 1
  · rw [if_pos h, vz1]
  · rw [if_neg h, vz0]
theorem c_isHeld {S : St} {d p : Nat} : fX2_isHeld d (nI p) S = if ((gI S 2 2 d >>> (nI p &&& 31)) &&& 1) = 1 then 1 else 0 := rfl

-- one world, read by both
def WFn (n : Nat → Nat) : Prop := (n 0 ≤ 5 ∧ n 1 ≤ 6 ∧ 1 ≤ n 2 ∧ n 2 ≤ 999 ∧ 1 ≤ n 3 ∧ n 3 ≤ 30 ∧ n 52 ≤ 10000) ∧ (∀ p, p < n 0 → PW (n (4 + p)) (n (9 + p)) (n (24 + p)) (n (29 + p)) ∧ 2 ≤ n (14 + p) ∧ n (14 + p) ≤ 9 ∧ n (54 + p) ≤ 9999 + n 52) ∧ ∀ f, f < n 1 → n (34 + f) < n 0 ∧ n (40 + f) < n (4 + n (34 + f)) ∧ n (46 + f) < n (9 + n (34 + f))
def MR (S : St) (n : Nat → Nat) : Prop := ∀ j, j < 59 → gA S 29 142 j = nI (n j)
def CW (S : St) (n : Nat → Nat) : Prop := (gI S 8 2 4 = nI (n 0) ∧ gI S 8 3 4 = nI (n 1) ∧ gI S 8 4 4 = nI (n 2) ∧ gI S 8 5 4 = nI (n 3)) ∧ (∀ p, p < n 0 → CP S (7 + p) (n (4 + p)) (n (9 + p)) (n (24 + p)) (n (29 + p)) (n (14 + p))) ∧ (∀ f, f < n 1 → gI S 3 1 (12 + f) = nI (n (34 + f)) ∧ gI S 3 2 (12 + f) = nI (n (40 + f)) ∧ gI S 3 3 (12 + f) = nI (n (46 + f))) ∧ (gI S 2 0 18 = nI (n 52) ∧ gI S 2 2 18 = nI (n 53) ∧ gI S 2 1 18 = nI (n 0)) ∧ ∀ p, p < n 0 → gA S 15 19 p = nI (n (54 + p))
theorem MR.mp {S : St} {n : Nat → Nat} (h : MR S n) {p : Nat} (hp : p < 5) : MP S p (n (4 + p)) (n (9 + p)) (n (24 + p)) (n (29 + p)) (n (14 + p)) := ⟨h _ (by omega), h _ (by omega), h _ (by omega), h _ (by omega), h _ (by omega)⟩
def heldB (n : Nat → Nat) (p : Nat) : Bool := decide (((nI (n 53) >>> (nI p &&& 31)) &&& 1) = 1)
/-- the COUNT in k days -/
def cntIn (n : Nat → Nat) (p k : Nat) : Nat := if 0 < k ∧ heldB n p = true then n (54 + p) + k - 1 else n (54 + p) + k
theorem cnt_0 (n : Nat → Nat) (p : Nat) : cntIn n p 0 = n (54 + p) := by unfold cntIn; rw [if_neg (fun q => absurd q.1 (by omega))]; rfl
theorem cnt_h {n : Nat → Nat} {p k : Nat} (hk : 0 < k) (h : ((nI (n 53) >>> (nI p &&& 31)) &&& 1) = 1) : cntIn n p k = n (54 + p) + k - 1 := by unfold cntIn; rw [if_pos ⟨hk, decide_eq_true h⟩]
theorem cnt_n {n : Nat → Nat} {p k : Nat} (h : ¬ ((nI (n 53) >>> (nI p &&& 31)) &&& 1) = 1) : cntIn n p k = n (54 + p) + k := by unfold cntIn; rw [if_neg (fun q => absurd (of_decide_eq_true q.2) h)]
theorem c_countIn {S : St} {n : Nat → Nat} (h : CW S n) {p k : Nat} (hn : n 0 ≤ 5) (hp : p < n 0) (hk : k < 2 ^ 24) : fX2_countIn 18 (nI p) (nI k) S = some (nI (cntIn n p k)) := by
  obtain ⟨-, -, -, ⟨-, h2, -⟩, h5⟩ := h
  have hc := h5 p hp
  unfold fX2_countIn fX2_countIn_s25
  rw [c_isHeld, h2]
  simp only [igd (show p < 5 by omega) (show 5 < 2 ^ 31 by decide)]
  simp only [nI_clamp (show p < 2 ^ 31 by omega), show (18 : Nat) + 1 = 19 from rfl, hc, nI_add]
  rcases Nat.eq_zero_or_pos k with rfl | hk0
  · rw [if_pos (show nI 0 ≤ 0 by decide), cnt_0]; rfl
  · rw [if_neg (show ¬ nI k ≤ 0 from nI_nle hk0 (by omega))]
    by_cases hb : ((nI (n 53) >>> (nI p &&& 31)) &&& 1) = 1
    · rw [if_pos hb, if_neg (by decide), cnt_h hk0 hb, show (1 : Int32) = nI 1 from rfl, pk_sub (by omega)]
    · rw [if_neg hb, if_pos rfl, cnt_n hb]
theorem m_ahead {S : St} {n : Nat → Nat} (h : MR S n) {p k : Nat} (hp : p < 5) (hk : k < 2 ^ 24) : fX11_ahead 140 (nI p) (nI k) S = some (nI (cntIn n p k)) := by
  have hc := h (54 + p) (by omega)
  have h53 := h 53 (by omega)
  unfold fX11_ahead
  rw [m_isHeld, h53, ob_some, show (54 : Int32) + nI p = nI (54 + p) from nI_add 54 p, igd (show 54 + p < 250 by omega) (show 250 < 2 ^ 31 by decide)]
  simp only [nI_clamp (show 54 + p < 2 ^ 31 by omega), show (140 : Nat) + 2 = 142 from rfl, hc, nI_add]
  rcases Nat.eq_zero_or_pos k with rfl | hk0
  · rw [if_pos (show nI 0 ≤ 0 by decide), cnt_0, show (0 : Int32) = nI 0 from rfl, pk_sub (by omega)]; rfl
  · rw [if_neg (show ¬ nI k ≤ 0 from nI_nle hk0 (by omega))]
    by_cases hb : ((nI (n 53) >>> (nI p &&& 31)) &&& 1) = 1
    · rw [if_pos hb, if_neg (by decide), cnt_h hk0 hb, show (1 : Int32) = nI 1 from rfl, pk_sub (by omega)]
    · rw [if_neg hb, if_pos rfl, cnt_n hb, show (0 : Int32) = nI 0 from rfl, pk_sub (by omega), Nat.sub_zero]
