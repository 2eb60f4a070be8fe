-- the years of a parish, in numbers
/-- days in year y -/
def lnY (M D U E y : Nat) : Nat := M * D + (if y % E = 0 then U else 0)
theorem ceilE {E : Nat} (hE : 0 < E) (y : Nat) : (y + E - 1) / E = y / E + (if y % E = 0 then 0 else 1) := by
  have h := Nat.div_add_mod y E
  have hl := Nat.mod_lt y hE
  generalize y / E = q at h
  generalize y % E = r at h hl
  by_cases hr : r = 0
  · rw [if_pos hr, show y + E - 1 = q * E + (E - 1) by rw [Nat.mul_comm]; omega, div_kE (by omega)]; rfl
  · rw [if_neg hr, show y + E - 1 = (q + 1) * E + (r - 1) by rw [Nat.add_mul, Nat.mul_comm q]; omega, div_kE (by omega)]
theorem ceil_succ {E : Nat} (hE : 0 < E) (y : Nat) : (y + 1 + E - 1) / E = (y + E - 1) / E + (if y % E = 0 then 1 else 0) := by
  rw [show y + 1 + E - 1 = y + E by omega, Nat.add_div_right _ hE, ceilE hE]
  by_cases h : y % E = 0
  · rw [if_pos h, if_pos h]
  · rw [if_neg h, if_neg h]
theorem fs_succ {M D U E : Nat} (hE : 0 < E) (y : Nat) : fsOf M D U E (y + 1) = fsOf M D U E y + lnY M D U E y := by
  unfold fsOf lnY
  rw [ceil_succ hE, Nat.add_mul, Nat.one_mul, Nat.mul_add]
  by_cases h : y % E = 0
  · rw [if_pos h, if_pos h, Nat.mul_one]; omega
  · rw [if_neg h, if_neg h, Nat.mul_zero]; omega
theorem fs_mono {M D U E : Nat} (hE : 0 < E) {y y' : Nat} (h : y ≤ y') : fsOf M D U E y ≤ fsOf M D U E y' := by
  induction y' with
  | zero => rw [Nat.le_zero.mp h]; exact Nat.le_refl _
  | succ k ih =>
    rcases Nat.lt_or_ge k y with q | q
    · rw [show y = k + 1 by omega]; exact Nat.le_refl _
    · rw [fs_succ hE]; have := ih q; omega
theorem dy_ln {M D U E : Nat} (w : PW M D U E) (c : Nat) : dyOf M D U E c < lnY M D U E (yrOf M D U E c) := by
  have hP := w.P
  obtain ⟨-, -, -, -, -, hE, -⟩ := w
  unfold dyOf yrOf lnY
  by_cases hb : c % rowL M D U E < M * D + U
  · rw [if_pos hb, if_pos hb, if_pos (Nat.mul_mod_left _ _)]; exact hb
  · rw [if_neg hb]
    have := Nat.mod_lt (c % rowL M D U E - M * D - U) (show 0 < M * D by omega)
    omega
theorem fs_lt {M D U E : Nat} (hE : 0 < E) {y y' d : Nat} (hd : d < lnY M D U E y) (h : y < y') : fsOf M D U E y + d < fsOf M D U E y' := by
  have h1 := fs_mono (M := M) (D := D) (U := U) hE (show y + 1 ≤ y' by omega)
  rw [fs_succ hE] at h1
  omega
/-- a day of a year is that year's -/
theorem dy_at {M D U E : Nat} (w : PW M D U E) {y d : Nat} (hd : d < lnY M D U E y) : yrOf M D U E (fsOf M D U E y + d) = y ∧ dyOf M D U E (fsOf M D U E y + d) = d := by
  have h1 := fs_dy w (fsOf M D U E y + d)
  have h2 := dy_ln w (fsOf M D U E y + d)
  have hE := w.2.2.2.2.2.1
  generalize yrOf M D U E (fsOf M D U E y + d) = y' at h1 h2
  generalize dyOf M D U E (fsOf M D U E y + d) = d' at h1 h2
  rcases Nat.lt_trichotomy y' y with q | q | q
  · have := fs_lt hE h2 q; omega
  · subst q; exact ⟨rfl, by omega⟩
  · have := fs_lt hE hd q; omega
theorem dy_to {M D U E : Nat} (w : PW M D U E) {c y d : Nat} (hd : d < lnY M D U E y) (hc : c = fsOf M D U E y + d) : yrOf M D U E c = y ∧ dyOf M D U E c = d := by
  subst hc; exact dy_at w hd
theorem dy_succ {M D U E : Nat} (w : PW M D U E) (c : Nat) : (dyOf M D U E c + 1 < lnY M D U E (yrOf M D U E c) ∧ yrOf M D U E (c + 1) = yrOf M D U E c ∧ dyOf M D U E (c + 1) = dyOf M D U E c + 1) ∨ (dyOf M D U E c + 1 = lnY M D U E (yrOf M D U E c) ∧ yrOf M D U E (c + 1) = yrOf M D U E c + 1 ∧ dyOf M D U E (c + 1) = 0) := by
  have h1 := fs_dy w c
  have h2 := dy_ln w c
  have hP := w.P
  have hE := w.2.2.2.2.2.1
  rcases Nat.lt_or_ge (dyOf M D U E c + 1) (lnY M D U E (yrOf M D U E c)) with q | q
  · have := dy_to w q (show c + 1 = fsOf M D U E (yrOf M D U E c) + (dyOf M D U E c + 1) by omega)
    exact Or.inl ⟨q, this⟩
  · have h3 := fs_succ (M := M) (D := D) (U := U) hE (yrOf M D U E c)
    have h4 : 0 < lnY M D U E (yrOf M D U E c + 1) := by unfold lnY; omega
    have := dy_to w h4 (show c + 1 = fsOf M D U E (yrOf M D U E c + 1) + 0 by omega)
    exact Or.inr ⟨by omega, this⟩
/-- how many COUNTS up to c have the place mo, pl -/
def tmOf (M D U E mo pl c : Nat) : Nat := (if mo < M then yrOf M D U E c else (yrOf M D U E c + E - 1) / E) + (if pl ≤ dyOf M D U E c then 1 else 0)
/-- a MONTH and DATE that there is -/
def plOk (M D U mo da : Nat) : Prop := (mo < M ∧ da < D) ∨ (mo = M ∧ da < U)
theorem pl_lt {M D mo da : Nat} (h : mo < M) (hd : da < D) : mo * D + da < M * D := by
  have : (mo + 1) * D ≤ M * D := Nat.mul_le_mul_right _ h
  rw [Nat.add_mul] at this
  omega
theorem tm_succ {M D U E : Nat} (w : PW M D U E) {mo da : Nat} (hp : plOk M D U mo da) (c : Nat) : tmOf M D U E mo (mo * D + da) (c + 1) = tmOf M D U E mo (mo * D + da) c + (if dyOf M D U E (c + 1) = mo * D + da then 1 else 0) := by
  have hP := w.P
  have hE := w.2.2.2.2.2.1
  unfold tmOf
  rcases dy_succ w c with ⟨h1, h2, h3⟩ | ⟨h1, h2, h3⟩
  · rw [h2, h3]
    generalize mo * D + da = pl
    generalize dyOf M D U E c = d
    by_cases q : pl ≤ d
    · rw [if_pos q, if_pos (show pl ≤ d + 1 by omega), if_neg (show ¬ d + 1 = pl by omega)]
    · rw [if_neg q]
      by_cases q2 : d + 1 = pl
      · rw [if_pos q2, if_pos (show pl ≤ d + 1 by omega)]
      · rw [if_neg q2, if_neg (show ¬ pl ≤ d + 1 by omega)]
  · rw [h2, h3]
    generalize dyOf M D U E c = d at h1
    rcases hp with ⟨p1, p2⟩ | ⟨p1, p2⟩
    · have hl := pl_lt p1 p2
      generalize mo * D + da = pl at hl
      have h4 : pl ≤ d := by unfold lnY at h1; omega
      rw [if_pos p1, if_pos p1, if_pos h4]
      by_cases q : pl = 0
      · rw [if_pos (by omega), if_pos (by omega)]
      · rw [if_neg (by omega), if_neg (by omega)]
    · subst p1
      rw [if_neg (Nat.lt_irrefl _), if_neg (Nat.lt_irrefl _), ceil_succ hE, if_neg (show ¬ mo * D + da ≤ 0 by omega), if_neg (show ¬ 0 = mo * D + da by omega)]
      unfold lnY at h1
      by_cases q : yrOf mo D U E c % E = 0
      · rw [if_pos q]; rw [if_pos q] at h1; rw [if_pos (by omega)]
      · rw [if_neg q]; rw [if_neg q] at h1; rw [if_neg (by omega)]
/-- MONTH and DATE of a day of the year -/
def dtD (M D d : Nat) : Nat := if d < M * D then 32 * (d / D) + d % D else 32 * M + (d - M * D)
theorem dt_D (M D U E c : Nat) : dtOf M D U E c = dtD M D (dyOf M D U E c) := rfl
theorem dtD_inj {M D U E : Nat} (w : PW M D U E) {d e : Nat} (hd : d < M * D + U) (he : e < M * D + U) : dtD M D d = dtD M D e ↔ d = e := by
  obtain ⟨w1, w2, w3, w4, w5, w6, w7⟩ := w
  refine ⟨fun h => ?_, fun h => by rw [h]⟩
  unfold dtD at h
  have a1 := Nat.div_add_mod d D
  have a2 := Nat.mod_lt d (show 0 < D by omega)
  have b1 := Nat.div_add_mod e D
  have b2 := Nat.mod_lt e (show 0 < D by omega)
  have a3 : d < M * D → d / D < M := fun q => Nat.div_lt_of_lt_mul (by rw [Nat.mul_comm]; exact q)
  have b3 : e < M * D → e / D < M := fun q => Nat.div_lt_of_lt_mul (by rw [Nat.mul_comm]; exact q)
  by_cases p : d < M * D
  · have a4 := a3 p
    rw [if_pos p] at h
    by_cases q : e < M * D
    · have b4 := b3 q
      rw [if_pos q] at h
      have h5 : d / D = e / D := by omega
      rw [h5] at a1 h
      omega
    · rw [if_neg q] at h
      omega
  · rw [if_neg p] at h
    by_cases q : e < M * D
    · have b4 := b3 q
      rw [if_pos q] at h
      omega
    · rw [if_neg q] at h
      omega
theorem dtD_pl {M D U E : Nat} (w : PW M D U E) {mo da : Nat} (hp : plOk M D U mo da) : dtD M D (mo * D + da) = 32 * mo + da ∧ mo * D + da < M * D + U := by
  obtain ⟨w1, w2, w3, w4, w5, w6, w7⟩ := w
  unfold dtD
  rcases hp with ⟨p1, p2⟩ | ⟨p1, p2⟩
  · have hl := pl_lt p1 p2
    rw [if_pos hl, div_kE p2, show mo * D + da = da + D * mo by rw [Nat.mul_comm]; omega, Nat.add_mul_mod_self_left, Nat.mod_eq_of_lt p2]
    refine ⟨rfl, ?_⟩
    rw [Nat.mul_comm D mo]
    omega
  · subst p1
    rw [if_neg (by omega)]
    omega
theorem dt_pl {M D U E : Nat} (w : PW M D U E) {mo da : Nat} (hp : plOk M D U mo da) (c : Nat) : dtOf M D U E c = 32 * mo + da ↔ dyOf M D U E c = mo * D + da := by
  obtain ⟨h1, h2⟩ := dtD_pl w hp
  rw [dt_D, ← h1, dtD_inj w (dy_lt w c) h2]
theorem dt_dy {M D U E : Nat} (w : PW M D U E) (c c' : Nat) : dtOf M D U E c = dtOf M D U E c' ↔ dyOf M D U E c = dyOf M D U E c' := by
  rw [dt_D, dt_D, dtD_inj w (dy_lt w c) (dy_lt w c')]
/-- the first COUNT from c on that has the place pl -/
def cfOf (M D U E c pl : Nat) : Nat := if dyOf M D U E c ≤ pl then c - dyOf M D U E c + pl else fsOf M D U E (yrOf M D U E c + 1) + pl
theorem cf_spec {M D U E : Nat} (w : PW M D U E) {c pl : Nat} (hp : pl < M * D) : c ≤ cfOf M D U E c pl ∧ dyOf M D U E (cfOf M D U E c pl) = pl ∧ (∀ e, c ≤ e → e < cfOf M D U E c pl → dyOf M D U E e ≠ pl) ∧ cfOf M D U E c pl ≤ c + 800 := by
  have h1 := fs_dy w c
  have h2 := dy_ln w c
  have hP := w.P
  have hU := w.2.2.2.2.1
  have hE := w.2.2.2.2.2.1
  have hs := fs_succ (M := M) (D := D) (U := U) hE (yrOf M D U E c)
  have hL : ∀ y, M * D ≤ lnY M D U E y := fun y => by unfold lnY; omega
  have hL2 : lnY M D U E (yrOf M D U E c) ≤ 399 := by unfold lnY; split <;> omega
  have l1 := hL (yrOf M D U E c)
  have l2 := hL (yrOf M D U E c + 1)
  unfold cfOf
  by_cases q : dyOf M D U E c ≤ pl
  · rw [if_pos q]
    refine ⟨by omega, (dy_to w (show pl < lnY M D U E (yrOf M D U E c) by omega) (by omega)).2, fun e he1 he2 he3 => ?_, by omega⟩
    have := (dy_to w (show dyOf M D U E c + (e - c) < lnY M D U E (yrOf M D U E c) by omega) (show e = _ by omega)).2
    omega
  · rw [if_neg q]
    refine ⟨by omega, (dy_to w (show pl < lnY M D U E (yrOf M D U E c + 1) by omega) rfl).2, fun e he1 he2 he3 => ?_, by omega⟩
    rcases Nat.lt_or_ge e (fsOf M D U E (yrOf M D U E c + 1)) with r | r
    · have := (dy_to w (show dyOf M D U E c + (e - c) < lnY M D U E (yrOf M D U E c) by omega) (show e = _ by omega)).2
      omega
    · have := (dy_to w (show e - fsOf M D U E (yrOf M D U E c + 1) < lnY M D U E (yrOf M D U E c + 1) by omega) (show e = _ by omega)).2
      omega
-- the class's methods of a parish
theorem c_long {S : St} {a M D U E W y : Nat} (h : CP S a M D U E W) (w : PW M D U E) (hy : y < 2 ^ 24) : fX4_longYearsAhead a (nI y) S = some (nI ((y + E - 1) / E)) := by
  obtain ⟨h1, h2, h3, h4, h5⟩ := h
  obtain ⟨w1, w2, w3, w4, w5, w6, w7⟩ := w
  unfold fX4_longYearsAhead
  rw [h4, igz (by omega) (by omega), nI_add, show (1 : Int32) = nI 1 from rfl, pk_sub (by omega), pk_div (by omega) (by omega) (by omega)]
theorem c_start {S : St} {a M D U E W y : Nat} (h : CP S a M D U E W) (w : PW M D U E) (hy : y < 2 ^ 24) : fX4_startOfYear a (nI y) S = some (nI (fsOf M D U E y)) := by
  have hl := c_long h w hy
  obtain ⟨h1, h2, h3, h4, h5⟩ := h
  unfold fX4_startOfYear
  rw [hl, ob_some, h1, h2, h3, pk_mul, pk_mul, pk_mul, nI_add, Nat.mul_assoc]; rfl
theorem c_times {S : St} {a M D U E W c mo da : Nat} (h : CP S a M D U E W) (w : PW M D U E) (hc : c < 2 ^ 24) (hp : plOk M D U mo da) : fX4_timesUpTo a (nI c) (nI mo) (nI da) S = some (nI (tmOf M D U E mo (mo * D + da) c)) := by
  have hy := c_yearAt h w hc
  have hd := c_dayInYear h w hc
  have hyl := yr_le w c
  have hl := c_long (y := yrOf M D U E c) h w (by omega)
  have hdl := dy_lt w c
  have hP := w.P
  have hpl := (dtD_pl w hp).2
  obtain ⟨h1, h2, h3, h4, h5⟩ := h
  obtain ⟨w1, w2, w3, w4, w5, w6, w7⟩ := w
  unfold fX4_timesUpTo tmOf
  rw [hy, ob_some, hd, ob_some, hl, ob_some, ob_some, h1, h2, pk_mul, nI_add]
  have hmo : mo ≤ M := by rcases hp with ⟨p, -⟩ | ⟨p, -⟩ <;> omega
  generalize mo * D + da = pl at hpl
  generalize dyOf M D U E c = d at hdl
  by_cases q : mo < M
  · rw [if_neg (nI_ge q (by omega)), if_pos q]
    by_cases r : pl ≤ d
    · rw [if_neg (nI_nlt r (by omega)), if_pos r, nI_1]
    · rw [if_pos (nI_lt (by omega) (by omega)), if_neg r, Nat.add_zero]
  · rw [if_pos (nI_le (by omega) (by omega)), if_neg q]
    by_cases r : pl ≤ d
    · rw [if_neg (nI_nlt r (by omega)), if_pos r, nI_1]
    · rw [if_pos (nI_lt (by omega) (by omega)), if_neg r, Nat.add_zero]
theorem c_countFrom {S : St} {a M D U E W c mo da : Nat} (h : CP S a M D U E W) (w : PW M D U E) (hc : c < 2 ^ 23) (hm : mo < M) (hd : da < D) : fX4_countFrom a (nI c) (nI mo) (nI da) S = some (nI (cfOf M D U E c (mo * D + da))) := by
  have hy := c_yearAt h w (show c < 2 ^ 24 by omega)
  have hdi := c_dayInYear h w (show c < 2 ^ 24 by omega)
  have hyl := yr_le w c
  have hst := c_start (y := yrOf M D U E c + 1) h w (by omega)
  have hdl := dy_lt w c
  have hP := w.P
  have hpl := pl_lt hm hd
  have hfd := fs_dy w c
  obtain ⟨h1, h2, h3, h4, h5⟩ := h
  have wU := w.2.2.2.2.1
  unfold fX4_countFrom fX4_countFrom_s10 cfOf
  rw [hdi, ob_some, hy, ob_some, nI_1, hst, ob_some, h2, pk_mul, nI_add]
  generalize mo * D + da = pl at hpl
  by_cases q : dyOf M D U E c ≤ pl
  · rw [if_pos q, if_neg (nI_nlt q (by omega)), pk_sub (by omega), nI_add]
  · rw [if_neg q, if_pos (nI_lt (by omega) (by omega)), nI_add]
theorem c_isBetween {S : St} {a M D U E W c : Nat} (h : CP S a M D U E W) (w : PW M D U E) (hc : c < 2 ^ 24) : fX4_isBetween a (nI c) S = some (b01 (decide (M * D ≤ dyOf M D U E c))) := by
  have hd := c_dayInYear h w hc
  have hdl := dy_lt w c
  have hP := w.P
  obtain ⟨h1, h2, h3, h4, h5⟩ := h
  have wU := w.2.2.2.2.1
  unfold fX4_isBetween
  rw [hd, ob_some, h1, h2, pk_mul]
  by_cases q : M * D ≤ dyOf M D U E c
  · rw [if_neg (nI_nlt q (by omega)), decide_eq_true q]; rfl
  · rw [if_pos (nI_lt (by omega) (by omega)), decide_eq_false q]; rfl
/-- what a COUNT is called: YEAR, MONTH, DATE, weekday -/
def clOf (M D U E W c k : Nat) : Nat := if k = 0 then yrOf M D U E c else if k = 1 then dtOf M D U E c / 32 else if k = 2 then dtOf M D U E c % 32 else c % W
theorem c_called {S : St} {a M D U E W c k : Nat} (h : CP S a M D U E W) (w : PW M D U E) (hW : 0 < W ∧ W ≤ 9) (hc : c < 2 ^ 24) (hk : k ≤ 3) : fX4_called a (nI c) (nI k) S = some (nI (clOf M D U E W c k)) := by
  have hy := c_yearAt h w hc
  have hd := c_dateAt h w hc
  have hdl := dt_lt w c
  have h5 := h.2.2.2.2
  unfold fX4_called clOf
  rw [hy, ob_some, hd, ob_some, ob_some, h5]
  rw [igz (by omega) (by omega), show (32 : Int32) = nI 32 from rfl, pk_rem (by omega) (by omega) (by omega), pk_div (by omega) (by omega) (by omega), pk_rem (by omega) (by omega) (by omega)]
  match k, hk with
  | 0, _ => exact if_pos rfl
  | 1, _ => exact (if_neg (by decide)).trans (if_pos rfl)
  | 2, _ => exact (if_neg (by decide)).trans ((if_neg (by decide)).trans (if_pos rfl))
  | 3, _ => exact (if_neg (by decide)).trans ((if_neg (by decide)).trans (if_neg (by decide)))
