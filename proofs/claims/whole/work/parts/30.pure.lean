-- numbers
theorem lt_nI (n : Nat) : (OfNat.ofNat n : Int32) = nI n := rfl
theorem nI_gd {k n : Nat} (h : k < n) (hn : n < 2 ^ 31) : ¬ (nI k < 0 ∨ n ≤ (nI k).toNatClampNeg) := nI_in h hn
theorem ob_some {α β : Type} (a : α) (f : α → Option β) : (some a).bind f = f a := rfl
theorem nI_z {n : Nat} (h : 0 < n) (h2 : n < 2 ^ 31) : ¬ nI n = 0 := nI_ne0 h h2
theorem nI_le0 {n : Nat} (h2 : n < 2 ^ 31) : 0 ≤ nI n := nI_pos' h2
-- the calendar of one parish: M months of D days, U days put in each E years
def rowL (M D U E : Nat) : Nat := M * D * E + U
def yrOf (M D U E c : Nat) : Nat := if c % rowL M D U E < M * D + U then c / rowL M D U E * E else c / rowL M D U E * E + 1 + (c % rowL M D U E - M * D - U) / (M * D)
def dyOf (M D U E c : Nat) : Nat := if c % rowL M D U E < M * D + U then c % rowL M D U E else (c % rowL M D U E - M * D - U) % (M * D)
def fsOf (M D U E y : Nat) : Nat := y * (M * D) + U * ((y + E - 1) / E)
def dtOf (M D U E c : Nat) : Nat := if dyOf M D U E c < M * D then 32 * (dyOf M D U E c / D) + dyOf M D U E c % D else 32 * M + (dyOf M D U E c - M * D)
def PW (M D U E : Nat) : Prop := 2 ≤ M ∧ M ≤ 13 ∧ 2 ≤ D ∧ D ≤ 30 ∧ U ≤ 9 ∧ 1 ≤ E ∧ E ≤ 9
theorem PW.P {M D U E : Nat} (h : PW M D U E) : 4 ≤ M * D ∧ M * D ≤ 390 := by
  obtain ⟨h1, h2, h3, h4, -⟩ := h
  exact ⟨Nat.mul_le_mul h1 h3, Nat.mul_le_mul h2 h4⟩
theorem PW.R {M D U E : Nat} (h : PW M D U E) : M * D + U ≤ rowL M D U E ∧ rowL M D U E ≤ 3519 := by
  have hP := h.P
  obtain ⟨h1, h2, h3, h4, h5, h6, h7⟩ := h
  have a1 : M * D * 1 ≤ M * D * E := Nat.mul_le_mul_left _ h6
  have a2 : M * D * E ≤ 390 * 9 := Nat.mul_le_mul hP.2 h7
  unfold rowL; omega
theorem div_kE {k E j : Nat} (hj : j < E) : (k * E + j) / E = k := by
  rw [Nat.mul_comm, Nat.mul_add_div (by omega), Nat.div_eq_of_lt hj]; omega
/-- the day of the year lies behind the year's first -/
theorem fs_dy {M D U E : Nat} (h : PW M D U E) (c : Nat) : fsOf M D U E (yrOf M D U E c) + dyOf M D U E c = c := by
  have hP := h.P
  have hR := h.R
  obtain ⟨h1, h2, h3, h4, h5, h6, h7⟩ := h
  have hc := Nat.div_add_mod c (rowL M D U E)
  have hlt : c % rowL M D U E < rowL M D U E := Nat.mod_lt _ (by omega)
  generalize hk : c / rowL M D U E = k at hc
  generalize hr : c % rowL M D U E = r at hc hlt
  unfold yrOf dyOf fsOf
  rw [hk, hr]
  have e0 : rowL M D U E = M * D * E + U := rfl
  rw [e0] at hc hlt
  generalize hPe : M * D = P at *
  by_cases hb : r < P + U
  · rw [if_pos hb, if_pos hb]
    have e1 : (k * E + E - 1) / E = k := by
      have : k * E + E - 1 = k * E + (E - 1) := by omega
      rw [this, div_kE (by omega)]
    rw [e1]
    have e2 : (P * E + U) * k = k * E * P + U * k := by
      rw [Nat.add_mul, show P * E * k = k * E * P by ac_rfl]
    omega
  · rw [if_neg hb, if_neg hb]
    generalize ht : r - P - U = t
    have htl : t < (E - 1) * P := by
      have : (E - 1) * P = P * E - P := by rw [Nat.sub_mul, Nat.mul_comm E P]; omega
      omega
    have hj : t / P < E - 1 := Nat.div_lt_of_lt_mul (by rw [Nat.mul_comm]; exact htl)
    have hd := Nat.div_add_mod t P
    generalize t / P = j at hj hd
    generalize t % P = w at hd
    have e1 : (k * E + 1 + j + E - 1) / E = k + 1 := by
      have : k * E + 1 + j + E - 1 = (k + 1) * E + j := by rw [Nat.add_mul]; omega
      rw [this, div_kE (by omega)]
    rw [e1]
    have e2 : (P * E + U) * k = k * E * P + U * k := by
      rw [Nat.add_mul, show P * E * k = k * E * P by ac_rfl]
    have e3 : (k * E + 1 + j) * P = k * E * P + P + P * j := by rw [Nat.add_mul, Nat.add_mul, Nat.mul_comm j P]; omega
    have e4 : U * (k + 1) = U * k + U := Nat.mul_succ U k
    omega

-- the two sides' readings of one parish
def CP (S : St) (a M D U E W : Nat) : Prop := gI S 4 2 a = nI M ∧ gI S 4 3 a = nI D ∧ gI S 4 5 a = nI U ∧ gI S 4 6 a = nI E ∧ gI S 4 4 a = nI W
theorem c_dayInYear {S : St} {a M D U E W c : Nat} (h : CP S a M D U E W) (w : PW M D U E) (hc : c < 2 ^ 24) : fX4_dayInYear a (nI c) S = some (nI (dyOf M D U E c)) := by
  have hP := w.P
  have hR := w.R
  obtain ⟨h1, h2, h3, h4, h5⟩ := h
  obtain ⟨w1, w2, w3, w4, w5, w6, w7⟩ := w
  have e0 : rowL M D U E = M * D * E + U := rfl
  have hlt : c % rowL M D U E < rowL M D U E := Nat.mod_lt _ (by omega)
  unfold fX4_dayInYear fX4_dayInYear_s10 fX4_dayInYear_s24
  simp only [h1, h2, h3, h4, pk_mul, nI_add]
  rw [← e0, if_neg (nI_z (by omega) (by omega)), pk_rem (by omega) (by omega) (by omega)]
  unfold dyOf
  by_cases hb : c % rowL M D U E < M * D + U
  · rw [if_neg (nI_ge (by omega) (by omega)), if_pos hb]
  · rw [if_pos (nI_le (by omega) (by omega)), if_neg hb, if_neg (nI_z (by omega) (by omega)), pk_sub (by omega), pk_sub (by omega), pk_rem (by omega) (by omega) (by omega)]
theorem c_yearAt {S : St} {a M D U E W c : Nat} (h : CP S a M D U E W) (w : PW M D U E) (hc : c < 2 ^ 24) : fX4_yearAt a (nI c) S = some (nI (yrOf M D U E c)) := by
  have hP := w.P
  have hR := w.R
  obtain ⟨h1, h2, h3, h4, h5⟩ := h
  obtain ⟨w1, w2, w3, w4, w5, w6, w7⟩ := w
  have e0 : rowL M D U E = M * D * E + U := rfl
  have hlt : c % rowL M D U E < rowL M D U E := Nat.mod_lt _ (by omega)
  unfold fX4_yearAt fX4_yearAt_s10 fX4_yearAt_s22 fX4_yearAt_s27 fX4_yearAt_s37
  simp only [h1, h2, h3, h4, pk_mul, nI_add]
  rw [← e0, if_neg (nI_z (by omega) (by omega)), if_neg (nI_z (by omega) (by omega)), pk_rem (by omega) (by omega) (by omega), pk_div (by omega) (by omega) (by omega)]
  unfold yrOf
  by_cases hb : c % rowL M D U E < M * D + U
  · rw [if_neg (nI_ge (by omega) (by omega)), if_pos hb, pk_mul]
  · rw [if_pos (nI_le (by omega) (by omega)), if_neg hb, if_neg (nI_z (by omega) (by omega)), pk_sub (by omega), pk_sub (by omega), pk_div (by omega) (by omega) (by omega), pk_mul, lt_nI, nI_add, nI_add]
theorem dy_lt {M D U E : Nat} (w : PW M D U E) (c : Nat) : dyOf M D U E c < M * D + U := by
  have hP := w.P
  unfold dyOf
  by_cases hb : c % rowL M D U E < M * D + U
  · rw [if_pos hb]; exact hb
  · rw [if_neg hb]; have := Nat.mod_lt (c % rowL M D U E - M * D - U) (show 0 < M * D by omega); omega
theorem c_dateAt {S : St} {a M D U E W c : Nat} (h : CP S a M D U E W) (w : PW M D U E) (hc : c < 2 ^ 24) : fX4_dateAt a (nI c) S = some (nI (dtOf M D U E c)) := by
  have hP := w.P
  have hd := dy_lt w c
  have hq := c_dayInYear h w hc
  obtain ⟨h1, h2, h3, h4, h5⟩ := h
  obtain ⟨w1, w2, w3, w4, w5, w6, w7⟩ := w
  unfold fX4_dateAt fX4_dateAt_s16
  rw [hq, ob_some]
  simp only [h1, h2, h3, h4, pk_mul, nI_add]
  unfold dtOf
  generalize dyOf M D U E c = d at hd
  by_cases hb : d < M * D
  · rw [if_neg (nI_ge (by omega) (by omega)), if_pos hb, if_neg (nI_z (by omega) (by omega)), if_neg (nI_z (by omega) (by omega)), pk_rem (by omega) (by omega) (by omega), pk_div (by omega) (by omega) (by omega), lt_nI, pk_mul, nI_add, Nat.mul_comm (d / D)]
  · rw [if_pos (nI_le (by omega) (by omega)), if_neg hb, lt_nI, pk_mul, nI_add, pk_sub (by omega), Nat.mul_comm M 32, Nat.add_sub_assoc (by omega)]
