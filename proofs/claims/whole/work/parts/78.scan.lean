theorem c_let {v : Nat} (h : v < 128) : (nI v < (97 : Int32) ∨ (122 : Int32) < nI v) ↔ lett v = false := by
  have : ∀ v : Fin 128, (nI v.val < (97 : Int32) ∨ (122 : Int32) < nI v.val) ↔ lett v.val = false := by decide +kernel
  exact this ⟨v, h⟩
theorem c_dig {v : Nat} (h : v < 128) : (nI v < (48 : Int32) ∨ (57 : Int32) < nI v) ↔ digt v = false := by
  have : ∀ v : Fin 128, (nI v.val < (48 : Int32) ∨ (57 : Int32) < nI v.val) ↔ digt v.val = false := by decide +kernel
  exact this ⟨v, h⟩
theorem ldx (v : Nat) : ¬ (lett v = true ∧ digt v = true) := by
  unfold lett digt; rw [decide_eq_true_eq, decide_eq_true_eq]; omega
/-- the class's next letter or digit -/
def nxC (A : St) (c : Int32) : St := sI (sI (sJ A 6 6 1 (((gJ A 6 6 1) <<< ((8 : Int32).toInt64 &&& 63)) ||| c.toInt64)) 6 7 1 (((gI A 6 7 1) * 10 + c) - 48)) 6 4 1 (gI A 6 4 1 + 1)
theorem s163_eq {k : Int32 → Int32 → St → Option St} {A : St} {y2 y3 : Int32} {v : Nat} (h : v < 128) : fX6_advance_s163 k 1 y2 y3 (nI v) A = if lett v = true then k (y2 + 1) y3 (nxC A (nI v)) else if digt v = true then k y2 (y3 + 1) (nxC A (nI v)) else fX6_advance_s245 1 y2 y3 A := by
  have e200 : ∀ a b, fX6_advance_s200 k 1 a b (nI v) A = k a b (nxC A (nI v)) := fun a b => rfl
  have e183 : fX6_advance_s183 k 1 y2 y3 (nI v) A = if digt v = true then k y2 (y3 + 1) (nxC A (nI v)) else fX6_advance_s245 1 y2 y3 A := by
    unfold fX6_advance_s183
    rw [e200]
    cases hd : digt v with
    | false =>
      rcases (c_dig h).mpr hd with q | q
      · rw [if_pos q, if_neg (by decide)]
      · rw [if_pos q, ite_self, if_neg (by decide)]
    | true =>
      have nq : ¬ (nI v < (48 : Int32) ∨ (57 : Int32) < nI v) := fun q => by rw [(c_dig h).mp q] at hd; cases hd
      rw [if_neg (fun q => nq (Or.inl q)), if_neg (fun q => nq (Or.inr q)), if_pos rfl]
  unfold fX6_advance_s163
  rw [e183, e200]
  cases hl : lett v with
  | false =>
    rcases (c_let h).mpr hl with q | q
    · rw [if_pos q, if_neg (show ¬ false = true by decide)]
    · rw [if_pos q, ite_self, if_neg (show ¬ false = true by decide)]
  | true =>
    have nq : ¬ (nI v < (97 : Int32) ∨ (122 : Int32) < nI v) := fun q => by rw [(c_let h).mp q] at hl; cases hl
    rw [if_neg (fun q => nq (Or.inl q)), if_neg (fun q => nq (Or.inr q)), if_pos rfl]
theorem s163_neg {k : Int32 → Int32 → St → Option St} {A : St} {y2 y3 x : Int32} (h : x < 0) : fX6_advance_s163 k 1 y2 y3 x A = fX6_advance_s245 1 y2 y3 A := by
  have h1 : x < 97 := Int32.lt_trans h (by decide)
  have h2 : x < 48 := Int32.lt_trans h (by decide)
  unfold fX6_advance_s163 fX6_advance_s183
  rw [if_pos h1, if_pos h2]
/-- what stands behind a + d letters and digits -/
def ScI (A B : St) (s a d : Nat) : Prop := gI A 6 3 1 = nI s ∧ gI B 11 12 140 = nI s ∧ gI A 6 4 1 = nI (s + (a + d)) ∧ gI B 11 4 140 = nI (s + (a + d)) ∧ gI B 11 13 140 = nI (a + d) ∧ (a + d ≤ 7 → gJ A 6 6 1 = gJ B 11 17 140 ∧ wN (gJ A 6 6 1) < 2 ^ (8 * (a + d))) ∧ (a + d ≤ 3 → gI A 6 7 1 = gI B 11 14 140 ∧ (a = 0 → ∃ v, v < 10 ^ d ∧ gI A 6 7 1 = nI v))
def pureF (f : Bool) (a d : Nat) : Bool := if f = true then decide (d = 0) else decide (a = 0)
/-- the end of a run -/
theorem sc_end {C R A B : St} {L s a d : Nat} {f : Bool} (hL : L ≤ 940) (fA : Fr XT C A) (fB : Fr XS R B) (h : ScI A B s a d) (hq : s + (a + d) ≤ L) (h0 : 0 < a + d) (h2 : (f = true → 0 < a) ∧ (f = false → 0 < d)) : ∃ A' B', fX6_advance_s245 1 (nI a) (nI d) A = some A' ∧ (if b01 (pureF f a d) = 0 then some (sI B 11 11 140 (4 : Int32)) else (if b01 f = 0 then (if (gI B 11 13 140) ≤ (3 : Int32) then (if b01 f = 0 then (some (sI B 11 11 140 (2 : Int32))) else (some (sI B 11 11 140 (1 : Int32)))) else (some (sI B 11 11 140 (4 : Int32)))) else (if (gI B 11 13 140) ≤ (7 : Int32) then (if b01 f = 0 then (some (sI B 11 11 140 (2 : Int32))) else (some (sI B 11 11 140 (1 : Int32)))) else (some (sI B 11 11 140 (4 : Int32)))))) = some B' ∧ Fr XT C A' ∧ Fr XS R B' ∧ ∃ q', s < q' ∧ Tk A' B' L q' := by
  obtain ⟨i1, i2, i3, i4, i5, i6, i7⟩ := h
  have x5 : XT 5 1 := by unfold XT; omega
  have x11 : XS 11 140 := by unfold XS; omega
  have bad : ∀ A B, Fr XT C A → Fr XS R B → gI A 6 3 1 = nI s → gI B 11 12 140 = nI s → ∃ q', s < q' ∧ Tk (sI A 6 5 1 3) (sI B 11 11 140 4) L q' := fun A B _ _ j1 j2 => ⟨s + (a + d), by omega, hq, ⟨s, by omega, (gI_k (by decide)).trans j1, (gI_k (by decide)).trans j2⟩, Or.inr (Or.inl ⟨gI_s, gI_s⟩)⟩
  unfold fX6_advance_s245 fX6_advance_s299
  rw [nI_add, if_neg (show ¬ nI (a + d) = 0 from nI_z (by omega) (by omega)), if01, if01, if01, i5]
  rcases Nat.eq_zero_or_pos d with d0 | d0
  · subst d0
    have hf : f = true := by
      cases f with
      | false => exact absurd (h2.2 rfl) (by omega)
      | true => rfl
    subst hf
    rw [if_pos (show nI 0 = 0 from rfl), if_pos (show pureF true a 0 = true from rfl), if_pos rfl, if_pos rfl]
    rcases Nat.lt_or_ge 7 a with q | q
    · rw [if_pos (show (7 : Int32) < nI a from nI_lt (a := 7) q (by omega)), if_neg (show ¬ nI (a + 0) ≤ (7 : Int32) from nI_ge (a := 7) q (by omega))]
      exact ⟨_, _, rfl, rfl, Fr_sI fA x5, Fr_sI fB x11, bad A B fA fB i1 i2⟩
    · rw [if_neg (show ¬ (7 : Int32) < nI a from Int32.not_lt.mpr (nI_le (b := 7) q (by omega))), if_pos (show nI (a + 0) ≤ (7 : Int32) from nI_le (b := 7) q (by omega))]
      obtain ⟨w1, w2⟩ := i6 (by omega)
      have w3 := wN_int (w := gJ A 6 6 1) (Nat.lt_of_lt_of_le w2 (Nat.pow_le_pow_right (n := 2) (by decide) (by omega)))
      exact ⟨_, _, rfl, rfl, Fr_sI fA x5, Fr_sI fB x11, s + (a + 0), by omega, hq, ⟨s, by omega, (gI_k (by decide)).trans i1, (gI_k (by decide)).trans i2⟩, Or.inr (Or.inr ⟨(gI_k (by decide)).trans i3, (gI_k (by decide)).trans i4, Or.inl ⟨gI_s, gI_s, w1, w3⟩⟩)⟩
  · rw [if_neg (show ¬ nI d = 0 from nI_z d0 (by omega))]
    rcases Nat.eq_zero_or_pos a with a0 | a0
    · subst a0
      have hf : f = false := by
        cases f with
        | true => exact absurd (h2.1 rfl) (by omega)
        | false => rfl
      subst hf
      rw [if_pos (show nI 0 = 0 from rfl), if_pos (show pureF false 0 d = true from rfl), if_neg (show ¬ false = true by decide), if_neg (show ¬ false = true by decide)]
      rcases Nat.lt_or_ge 3 d with q | q
      · rw [if_pos (show (3 : Int32) < nI d from nI_lt (a := 3) q (by omega)), if_neg (show ¬ nI (0 + d) ≤ (3 : Int32) from by rw [Nat.zero_add]; exact nI_ge (a := 3) q (by omega))]
        exact ⟨_, _, rfl, rfl, Fr_sI fA x5, Fr_sI fB x11, bad A B fA fB i1 i2⟩
      · rw [if_neg (show ¬ (3 : Int32) < nI d from Int32.not_lt.mpr (nI_le (b := 3) q (by omega))), if_pos (show nI (0 + d) ≤ (3 : Int32) from by rw [Nat.zero_add]; exact nI_le (b := 3) q (by omega))]
        obtain ⟨w1, w2⟩ := i7 (by omega)
        obtain ⟨v, w3, w4⟩ := w2 rfl
        have w5 : v < 10 ^ 3 := Nat.lt_of_lt_of_le w3 (Nat.pow_le_pow_right (n := 10) (by decide) (by omega))
        exact ⟨_, _, rfl, rfl, Fr_sI fA x5, Fr_sI fB x11, s + (0 + d), by omega, hq, ⟨s, by omega, (gI_k (by decide)).trans i1, (gI_k (by decide)).trans i2⟩, Or.inr (Or.inr ⟨(gI_k (by decide)).trans i3, (gI_k (by decide)).trans i4, Or.inr (Or.inl ⟨gI_s, gI_s, v, by omega, (gI_k (by decide)).trans w4, (gI_k (by decide)).trans (w1.symm.trans w4)⟩)⟩)⟩
    · have hp : ¬ pureF f a d = true := by
        unfold pureF; cases f
        · rw [if_neg (by decide), decide_eq_true_eq]; omega
        · rw [if_pos rfl, decide_eq_true_eq]; omega
      rw [if_neg (show ¬ nI a = 0 from nI_z a0 (by omega)), if_neg hp]
      exact ⟨_, _, rfl, rfl, Fr_sI fA x5, Fr_sI fB x11, bad A B fA fB i1 i2⟩
theorem sc_next {A B : St} {s a d v a' d' : Nat} (h : ScI A B s a d) (hb : v < 128) (hq : s + (a + d) < 940) (hn : (lett v = true ∧ a' = a + 1 ∧ d' = d) ∨ (digt v = true ∧ a' = a ∧ d' = d + 1)) : ScI (nxC A (nI v)) (stpU B (nI v)) s a' d' := by
  have hs : a' + d' = a + d + 1 := by clear h; omega
  obtain ⟨i1, i2, i3, i4, i5, i6, i7⟩ := h
  have w13 : gI (wrdU B (nI v)) 11 13 140 = nI (a + d) := wrd_i.trans i5
  have n13 : gI (numU (wrdU B (nI v)) (nI v)) 11 13 140 = nI (a + d) := (num_i (by decide)).trans w13
  refine ⟨?_, ?_, ?_, ?_, ?_, ?_, ?_⟩
  · unfold nxC; rw [gI_k (by decide), gI_k (by decide)]; exact i1
  · unfold stpU; rw [gI_k (by decide), gI_k (by decide), num_i (by decide), wrd_i]; exact i2
  · unfold nxC; rw [gI_s, i3, nI_1, hs]; rfl
  · unfold stpU; rw [gI_s, gI_k (by decide), num_i (by decide), wrd_i, i4, nI_1, hs]; rfl
  · unfold stpU; rw [gI_k (by decide), gI_s, n13, nI_1, hs]
  · intro h7
    obtain ⟨w1, w2⟩ := i6 (by omega)
    have e1 : gJ (nxC A (nI v)) 6 6 1 = ((gJ A 6 6 1) <<< ((8 : Int32).toInt64 &&& 63)) ||| (nI v).toInt64 := gJ_s
    have e2 : gJ (stpU B (nI v)) 11 17 140 = ((gJ B 11 17 140) <<< ((8 : Int32).toInt64 &&& 63)) ||| (nI v).toInt64 := by
      show gJ (numU (wrdU B (nI v)) (nI v)) 11 17 140 = _
      rw [num_j]; unfold wrdU
      rw [i5, if_neg (show ¬ (7 : Int32) ≤ nI (a + d) from nI_ge (b := 7) (by omega) (by omega))]; exact gJ_s
    rw [e1, e2, w1, hs]
    exact ⟨rfl, wN_sh (by omega) (by omega) (by rw [← w1]; exact w2)⟩
  · intro h3
    obtain ⟨w1, w2⟩ := i7 (by omega)
    have e1 : gI (nxC A (nI v)) 6 7 1 = (gI A 6 7 1) * 10 + nI v - 48 := by unfold nxC; rw [gI_k (by decide), gI_s]
    have e2 : gI (stpU B (nI v)) 11 14 140 = 10 * (gI B 11 14 140) + nI v - 48 := by
      unfold stpU; rw [gI_k (by decide), gI_k (by decide)]; unfold numU
      rw [w13, if_neg (show ¬ (3 : Int32) ≤ nI (a + d) from nI_ge (b := 3) (by omega) (by omega)), gI_s, wrd_i]
    rw [e1, e2, w1, Int32.mul_comm]
    refine ⟨rfl, fun a0 => ?_⟩
    rcases hn with ⟨k1, k2, k3⟩ | ⟨k1, k2, k3⟩
    · omega
    · obtain ⟨x, x1, x2⟩ := w2 (by omega)
      have hv : 48 ≤ v ∧ v ≤ 57 := of_decide_eq_true k1
      have hx : x < 10 ^ 2 := Nat.lt_of_lt_of_le x1 (Nat.pow_le_pow_right (n := 10) (by decide) (by omega))
      refine ⟨10 * x + v - 48, ?_, ?_⟩
      · rw [k3, Nat.pow_succ]; omega
      · rw [← w1, x2, show (10 : Int32) = nI 10 from rfl, pk_mul, nI_add, show (48 : Int32) = nI 48 from rfl, pk_sub (by omega)]
theorem nxC_fr {C A : St} {c : Int32} (f : Fr XT C A) : Fr XT C (nxC A c) := by
  unfold nxC; exact Fr_sI (Fr_sI (Fr_sJ f (by unfold XT; omega)) (by unfold XT; omega)) (by unfold XT; omega)
theorem pure_let {f b : Bool} {a d : Nat} (hb : b = true) : (if b01 (pureF f a d) = 0 then (0 : Int32) else if b01 b = b01 f then 1 else 0) = b01 (pureF f (a + 1) d) := by
  subst hb
  cases f
  · show (if b01 (decide (a = 0)) = 0 then (0 : Int32) else if b01 true = b01 false then 1 else 0) = b01 (decide (a + 1 = 0))
    rw [decide_eq_false (show ¬ a + 1 = 0 by omega), if_neg (show ¬ b01 true = b01 false by decide), ite_self]; rfl
  · show (if b01 (decide (d = 0)) = 0 then (0 : Int32) else if b01 true = b01 true then 1 else 0) = b01 (decide (d = 0))
    by_cases q : d = 0
    · rw [decide_eq_true q]; rfl
    · rw [decide_eq_false q]; rfl
theorem pure_dig {f b : Bool} {a d : Nat} (hb : b = false) : (if b01 (pureF f a d) = 0 then (0 : Int32) else if b01 b = b01 f then 1 else 0) = b01 (pureF f a (d + 1)) := by
  subst hb
  cases f
  · show (if b01 (decide (a = 0)) = 0 then (0 : Int32) else if b01 false = b01 false then 1 else 0) = b01 (decide (a = 0))
    by_cases q : a = 0
    · rw [decide_eq_true q]; rfl
    · rw [decide_eq_false q]; rfl
  · show (if b01 (decide (d = 0)) = 0 then (0 : Int32) else if b01 false = b01 true then 1 else 0) = b01 (decide (d + 1 = 0))
    rw [decide_eq_false (show ¬ d + 1 = 0 by omega), if_neg (show ¬ b01 false = b01 true by decide), ite_self]; rfl
theorem l_scan {C R : St} {L M s : Nat} {f : Bool} (tb : TB C R L M) : ∀ (m a d u v : Nat) (A B : St), s + (a + d) + m = L → m < u → m < v → Fr XT C A → Fr XS R B → ScI A B s a d → (0 < a + d → (f = true → 0 < a) ∧ (f = false → 0 < d)) → (a + d = 0 → ∃ w, w < 128 ∧ s < L ∧ gA C 12 2 s = nI w ∧ ((lett w = true ∧ f = true) ∨ (digt w = true ∧ f = false))) → ∃ A' B', fX6_advance_h141 1 u (nI a) (nI d) A = some A' ∧ fX11_step_h181 140 v (b01 f) (b01 (pureF f a d)) B = some B' ∧ Fr XT C A' ∧ Fr XS R B' ∧ ∃ q', s < q' ∧ Tk A' B' L q' := by
  obtain ⟨hL, hM, t1, t2, t3, t4, t5⟩ := id tb
  intro m
  induction m with
  | zero =>
    intro a d u v A B hm hu hv fA fB sc g1 g2
    obtain ⟨u, rfl⟩ : ∃ k', u = k' + 1 := ⟨u - 1, by omega⟩
    obtain ⟨v, rfl⟩ : ∃ k', v = k' + 1 := ⟨v - 1, by omega⟩
    have h0 : 0 < a + d := by
      rcases Nat.eq_zero_or_pos (a + d) with q | q
      · obtain ⟨w, -, w2, -⟩ := g2 q; omega
      · exact q
    have z1 : gI A 6 1 1 = nI L := (fA.i (by unfold XT; omega)).trans t1
    have z2 : gI B 11 3 140 = nI L := (fB.i (by unfold XS; omega)).trans t2
    rw [fX6_advance_h141, fX11_step_h181]; unfold fX6_advance_s141 fX11_step_s181
    rw [z1, sc.2.2.1, if_pos (nI_le (by omega) (by omega)), m_peekE hL z2 sc.2.2.2.1 (by omega) (by omega), ob_some, ob_some, if_pos (show fX11_isSmall (-1) B = 0 from if_pos (by decide)), if_pos (show fX11_isDigit (-1) B = 0 from if_pos (by decide))]
    exact sc_end hL fA fB sc (by omega) h0 (g1 h0)
  | succ m ih =>
    intro a d u v A B hm hu hv fA fB sc g1 g2
    obtain ⟨u, rfl⟩ : ∃ k', u = k' + 1 := ⟨u - 1, by omega⟩
    obtain ⟨v, rfl⟩ : ∃ k', v = k' + 1 := ⟨v - 1, by omega⟩
    have z1 : gI A 6 1 1 = nI L := (fA.i (by unfold XT; omega)).trans t1
    have z2 : gI B 11 3 140 = nI L := (fB.i (by unfold XS; omega)).trans t2
    obtain ⟨b1, b2⟩ := t5 (s + (a + d)) (by omega)
    have zA : gA A 12 2 (s + (a + d)) = gA C 12 2 (s + (a + d)) := fA.a (by unfold XT; omega)
    have zB : gA B 28 141 (s + (a + d)) = gA C 12 2 (s + (a + d)) := (fB.a (by unfold XS; omega)).trans b1.symm
    have hpk := m_peek hL z2 sc.2.2.2.1 (by omega)
    rw [fX6_advance_h141, fX11_step_h181]; unfold fX6_advance_s141 fX11_step_s181
    rw [z1, sc.2.2.1, if_neg (nI_ge (by omega) (by omega)), igd (by omega) (by decide), nI_clamp (by omega), show (1 : Nat) + 1 = 2 from rfl, zA, hpk, ob_some, ob_some, zB]
    rw [zB] at hpk
    rcases byte_of b2 with ⟨w, w1, w2, w3⟩ | ⟨w0, w, w1, w2, w3⟩
    · have hw0 : a + d = 0 → (lett w = true ∧ f = true) ∨ (digt w = true ∧ f = false) := fun q => by
        obtain ⟨x, x1, -, x3, x4⟩ := g2 q
        rw [q, Nat.add_zero] at w2
        rw [x3] at w2
        rw [(nI_eq (by omega) (by omega)).mp w2] at x4
        exact x4
      rw [w3] at hpk ⊢
      rw [w2, s163_eq w1, m_small w (by omega), m_digit w (by omega), if01, if01, s201_eq hpk, m_small w (by omega)]
      by_cases ql : lett w = true
      · rw [if_pos ql, if_pos ql, nI_1, pure_let ql]
        refine ih (a + 1) d u v (nxC A (nI w)) (stpU B (nI w)) (by omega) (by omega) (by omega) (nxC_fr fA) (stp_fr fB) (sc_next sc w1 (by omega) (Or.inl ⟨ql, rfl, rfl⟩)) (fun _ => ⟨fun _ => by omega, fun hf => ?_⟩) (fun h => by omega)
        rcases Nat.eq_zero_or_pos (a + d) with q | q
        · rcases hw0 q with ⟨-, x⟩ | ⟨x, -⟩
          · rw [hf] at x; cases x
          · exact absurd ⟨ql, x⟩ (ldx w)
        · exact (g1 q).2 hf
      · have ql' : lett w = false := by
          cases hh : lett w with
          | true => exact absurd hh ql
          | false => rfl
        rw [if_neg ql, if_neg ql]
        by_cases qd : digt w = true
        · rw [if_pos qd, if_pos qd, nI_1, pure_dig ql']
          refine ih a (d + 1) u v (nxC A (nI w)) (stpU B (nI w)) (by omega) (by omega) (by omega) (nxC_fr fA) (stp_fr fB) (sc_next sc w1 (by omega) (Or.inr ⟨qd, rfl, rfl⟩)) (fun _ => ⟨fun hf => ?_, fun _ => by omega⟩) (fun h => by omega)
          rcases Nat.eq_zero_or_pos (a + d) with q | q
          · rcases hw0 q with ⟨x, -⟩ | ⟨-, x⟩
            · exact absurd x ql
            · rw [hf] at x; cases x
          · exact (g1 q).1 hf
        · rw [if_neg qd, if_neg qd]
          have h0 : 0 < a + d := by
            rcases Nat.eq_zero_or_pos (a + d) with q | q
            · rcases hw0 q with ⟨x, -⟩ | ⟨x, -⟩
              · exact absurd x ql
              · exact absurd x qd
            · exact q
          exact sc_end hL fA fB sc (by omega) h0 (g1 h0)
    · have h0 : 0 < a + d := by
        rcases Nat.eq_zero_or_pos (a + d) with q | q
        · obtain ⟨x, x1, -, x3, -⟩ := g2 q
          rw [q, Nat.add_zero, x3] at w0
          exact absurd w0 (nI_pos (by omega))
        · exact q
      have l0 : lett w = false := decide_eq_false (by omega)
      have d0 : digt w = false := decide_eq_false (by omega)
      rw [s163_neg w0, w3, m_small w (by omega), m_digit w (by omega), l0, d0, if_pos (show b01 false = 0 from rfl), if_pos (show b01 false = 0 from rfl)]
      exact sc_end hL fA fB sc (by omega) h0 (g1 h0)
