-- days ahead: next, falls, meet, fair
def Fst (P : Nat → Bool) (N : Nat) (r : Int32) : Prop := (∃ i, i < N ∧ P i = true ∧ (∀ j, j < i → P j = false) ∧ r = nI i) ∨ ((∀ j, j < N → P j = false) ∧ r = -1)
theorem Fst_un {P : Nat → Bool} {N : Nat} {r r' : Int32} (h : Fst P N r) (h' : Fst P N r') : r = r' := by
  rcases h with ⟨i, hi, p1, p2, rfl⟩ | ⟨p, rfl⟩
  · rcases h' with ⟨j, hj, q1, q2, rfl⟩ | ⟨q, rfl⟩
    · rcases Nat.lt_trichotomy i j with e | e | e
      · rw [q2 i e] at p1; cases p1
      · rw [e]
      · rw [p2 j e] at q1; cases q1
    · rw [q i hi] at p1; cases p1
  · rcases h' with ⟨j, hj, q1, q2, rfl⟩ | ⟨q, rfl⟩
    · rw [p j hj] at q1; cases q1
    · rfl
theorem Fst_no {P : Nat → Bool} {N : Nat} (h : ∀ j, j < N → P j = false) : Fst P N (-1) := Or.inr ⟨h, rfl⟩
theorem Fst_at {P : Nat → Bool} {N i : Nat} (hi : i < N) (h : P i = true) (h2 : ∀ j, j < i → P j = false) : Fst P N (nI i) := Or.inl ⟨i, hi, h, h2, rfl⟩
def cntP (P : Nat → Bool) : Nat → Nat
  | 0 => 0
  | k + 1 => cntP P k + (if P k = true then 1 else 0)
theorem cntP_le (P : Nat → Bool) (k : Nat) : cntP P k ≤ k := by
  induction k with
  | zero => exact Nat.le_refl _
  | succ k ih => unfold cntP; split <;> omega
theorem bnot {b : Bool} (h : ¬ b = true) : b = false := by cases b; rfl; exact absurd rfl h
theorem c_held {S : St} {n : Nat → Nat} (h : CW S n) {p : Nat} : fX2_isHeld 18 (nI p) S = b01 (heldB n p) := by
  rw [c_isHeld, h.2.2.2.1.2.1]
  unfold heldB
  by_cases q : ((nI (n 53) >>> (nI p &&& 31)) &&& 1) = 1
  · rw [if_pos q, decide_eq_true q]; rfl
  · rw [if_neg q, decide_eq_false q]; rfl
theorem cnt_step {n : Nat → Nat} {p k j : Nat} (hk : 0 < k) (hj : k ≤ j) : cntIn n p j = cntIn n p k + (j - k) := by
  unfold cntIn
  by_cases q : heldB n p = true
  · rw [if_pos ⟨by omega, q⟩, if_pos ⟨hk, q⟩]; omega
  · rw [if_neg (fun r => q r.2), if_neg (fun r => q r.2)]; omega
theorem cnt_free {n : Nat → Nat} {p j : Nat} (h : ¬ heldB n p = true) : cntIn n p j = n (54 + p) + j := by
  unfold cntIn; rw [if_neg (fun r => h r.2)]
theorem cnt_one {n : Nat → Nat} {p j : Nat} (h : heldB n p = true) (hj : 0 < j) : cntIn n p j = n (54 + p) + j - 1 := by
  unfold cntIn; rw [if_pos ⟨hj, h⟩]
/-- the place of a FEAST in its year -/
def plq (n : Nat → Nat) (f : Nat) : Nat := n (40 + f) * n (9 + n (34 + f)) + n (46 + f)
def dyq (n : Nat → Nat) (p c : Nat) : Nat := dyOf (n (4 + p)) (n (9 + p)) (n (24 + p)) (n (29 + p)) c
theorem fall_dy {n : Nat → Nat} (hw : WFn n) {f : Nat} (hf : f < n 1) (k : Nat) : fallB n f k = decide (dyq n (n (34 + f)) (cntIn n (n (34 + f)) k) = plq n f) := by
  obtain ⟨f1, f2, f3⟩ := hw.2.2 f hf
  have w := (hw.2.1 _ f1).1
  unfold fallB dtq dyq plq
  rw [decide_eq_decide]
  exact dt_pl w (Or.inl ⟨f2, f3⟩) _
theorem fall_t {n : Nat → Nat} (hw : WFn n) {f : Nat} (hf : f < n 1) {k : Nat} (h : dyq n (n (34 + f)) (cntIn n (n (34 + f)) k) = plq n f) : fallB n f k = true := by rw [fall_dy hw hf, decide_eq_true h]
theorem fall_f {n : Nat → Nat} (hw : WFn n) {f : Nat} (hf : f < n 1) {k : Nat} (h : dyq n (n (34 + f)) (cntIn n (n (34 + f)) k) ≠ plq n f) : fallB n f k = false := by rw [fall_dy hw hf, decide_eq_false h]
theorem c_nextFrom {S : St} {n : Nat → Nat} (hw : WFn n) (h : CW S n) {f k : Nat} (hf : f < n 1) (hk : k ≤ 200000) : ∃ v, fX9_nextFrom 3 (nI f) (nI k) S = some (nI v) ∧ k ≤ v ∧ v ≤ k + 801 ∧ fallB n f v = true ∧ ∀ j, k ≤ j → j < v → fallB n f j = false := by
  have h0 := hw.1
  obtain ⟨f1, f2, f3⟩ := hw.2.2 f hf
  obtain ⟨g1, g2, g3⟩ := h.2.2.1 f hf
  have w := (hw.2.1 _ f1).1
  have hct := c_countIn h (k := k) h0.1 f1 (by omega)
  have hl := cnt_le hw (k := k) f1
  have hcf := c_countFrom (c := cntIn n (n (34 + f)) k) (h.2.1 _ f1) w (by omega) f2 f3
  have hpl := pl_lt f2 f3
  obtain ⟨s1, s2, s3, s4⟩ := cf_spec w (c := cntIn n (n (34 + f)) k) hpl
  have hh := c_held h (p := n (34 + f))
  have hT : ∀ j, dyq n (n (34 + f)) (cntIn n (n (34 + f)) j) = plq n f → fallB n f j = true := fun j q => fall_t hw hf q
  have hF : ∀ j, dyq n (n (34 + f)) (cntIn n (n (34 + f)) j) ≠ plq n f → fallB n f j = false := fun j q => fall_f hw hf q
  unfold dyq plq at hT hF
  unfold fX9_nextFrom fX9_nextFrom_s10 fX9_nextFrom_s16 fX9_nextFrom_s70 fX9_nextFrom_s98
  rw [igd (by omega) (by decide), nI_clamp (by omega), show (3 : Nat) + 1 + 2 + 6 + f = 12 + f from rfl, g1, g2, g3, show (3 : Nat) + 1 = 4 from rfl, hasP h h0.1 f1, if_neg i10, show (3 : Nat) + 15 = 18 from rfl, hct, ob_some, igd (by omega) (by decide), nI_clamp (by omega), show (4 : Nat) + 1 + 2 + n (34 + f) = 7 + n (34 + f) from rfl, hcf, ob_some, pk_sub s1, hh, if01]
  generalize hp : n (34 + f) = p at *
  generalize hv : cfOf (n (4 + p)) (n (9 + p)) (n (24 + p)) (n (29 + p)) (cntIn n p k) (n (40 + f) * n (9 + p) + n (46 + f)) = v at *
  generalize hc : cntIn n p k = c at *
  rcases Nat.eq_zero_or_pos (v - c) with e | e
  · rw [e, if_pos (show nI 0 ≤ 0 by decide), nI_add]
    refine ⟨k, rfl, Nat.le_refl _, by omega, hT k ?_, fun j q1 q2 => by omega⟩
    rw [hc, show c = v by omega]; exact s2
  · rw [if_neg (nI_nle e (by omega)), nI_add, nI_1]
    rcases Nat.eq_zero_or_pos k with r | r
    · subst r
      rw [if_pos nI_0]
      by_cases t : heldB n p = true
      · rw [if_pos t]
        have hc0 : n (54 + p) = c := by rw [← hc, cnt_0]
        refine ⟨v - c + 1, rfl, by omega, by omega, hT _ ?_, fun j q1 q2 => hF _ ?_⟩
        · rw [cnt_one t (by omega), hc0, show c + (v - c + 1) - 1 = v by omega]; exact s2
        · rcases Nat.eq_zero_or_pos j with u | u
          · subst u; rw [hc]; exact s3 c (Nat.le_refl _) (by omega)
          · rw [cnt_one t u, hc0]; exact s3 _ (by omega) (by omega)
      · rw [if_neg t]
        have hc0 : n (54 + p) = c := by rw [← hc, cnt_0]
        refine ⟨0 + (v - c), rfl, by omega, by omega, hT _ ?_, fun j q1 q2 => hF _ ?_⟩
        · rw [cnt_free t, hc0, show c + (0 + (v - c)) = v by omega]; exact s2
        · rw [cnt_free t, hc0]; exact s3 _ (by omega) (by omega)
    · rw [if_neg (nI_z r (by omega))]
      refine ⟨k + (v - c), rfl, by omega, by omega, hT _ ?_, fun j q1 q2 => hF _ ?_⟩
      · rw [cnt_step r (by omega), hc, show c + (k + (v - c) - k) = v by omega]; exact s2
      · rw [cnt_step r q1, hc]; exact s3 _ (by omega) (by omega)
theorem l_next {S : St} {n : Nat → Nat} (hw : WFn n) (h : MR S n) {f v : Nat} (hf : f < n 1) (hv : v ≤ 801) (p1 : fallB n f v = true) (p2 : ∀ j, j < v → fallB n f j = false) : ∀ m i k : Nat, i + m = v → m < k → fX11_next_h17 140 (nI f) k (nI i) S = some (nI v, S) := by
  intro m
  induction m with
  | zero =>
    intro i k hi hk
    obtain ⟨k, rfl⟩ : ∃ k', k = k' + 1 := ⟨k - 1, by omega⟩
    rw [fX11_next_h17]; unfold fX11_next_s17
    rw [m_fallsIn hw h hf (by omega), ob_some, if01, show i = v by omega, p1, if_pos rfl]
  | succ m ih =>
    intro i k hi hk
    obtain ⟨k, rfl⟩ : ∃ k', k = k' + 1 := ⟨k - 1, by omega⟩
    rw [fX11_next_h17]; unfold fX11_next_s17
    rw [m_fallsIn hw h hf (by omega), ob_some, if01, p2 i (by omega), if_neg (by decide), nI_1]
    exact ih (i + 1) k (by omega) (by omega)
theorem q_next {S : St} {n : Nat → Nat} (hw : WFn n) (h : CW S n) (h' : MR S n) (x1 : Int32) : ∃ r, fX10_next 0 x1 S = some r ∧ fX11_next 140 x1 S = some (r, sI S 11 0 140 0) := by
  have h0 := hw.1
  have h2 : MR (sI S 11 0 140 0) n := h'
  unfold fX10_next fX11_next fX11_next_s5
  rcases fx h h2 h0.2.1 x1 with ⟨f, hf, rfl, e1, e2⟩ | ⟨e1, e2⟩
  · obtain ⟨v, v1, v2, v3, v4, v5⟩ := c_nextFrom hw h (k := 0) hf (by omega)
    rw [if_neg (show ¬ fX8_hasFeast (0 + 3 + 1) (nI f) S = 0 from fun q => i10 (e1.symm.trans q)), show (0 : Nat) + 3 = 3 from rfl, show (0 : Int32) = nI 0 from rfl, v1, ob_some, show nI 0 = (0 : Int32) from rfl, e2, ob_some, if_neg i10]
    exact ⟨_, rfl, l_next hw h2 hf (by omega) v4 (fun j hj => v5 j (by omega) hj) v 0 NN (by omega) (by unfold NN; omega)⟩
  · rw [e2, ob_some, if_pos rfl, if_pos (show fX8_hasFeast (0 + 3 + 1) x1 S = 0 from e1)]; exact ⟨_, rfl, rfl⟩
-- falls
def tmq (n : Nat → Nat) (p mo da c : Nat) : Nat := tmOf (n (4 + p)) (n (9 + p)) (n (24 + p)) (n (29 + p)) mo (mo * n (9 + p) + da) c
theorem tm_mono {M D U E : Nat} (w : PW M D U E) {mo da : Nat} (hp : plOk M D U mo da) {c c' : Nat} (h : c ≤ c') : tmOf M D U E mo (mo * D + da) c ≤ tmOf M D U E mo (mo * D + da) c' := by
  induction c' with
  | zero => rw [Nat.le_zero.mp h]; exact Nat.le_refl _
  | succ k ih =>
    rcases Nat.lt_or_ge k c with q | q
    · rw [show c = k + 1 by omega]; exact Nat.le_refl _
    · rw [tm_succ w hp]; have := ih q; omega
theorem no0 {P : Prop} : ¬ (0 < 0 ∧ P) := fun q => absurd q.1 (by omega)
theorem falls_sum {n : Nat → Nat} (hw : WFn n) {f : Nat} (hf : f < n 1) (N : Nat) : cntP (fallB n f) (N + 1) + tmq n (n (34 + f)) (n (40 + f)) (n (46 + f)) (n (54 + n (34 + f))) = (if fallB n f 0 = true then 1 else 0) + (if 0 < N ∧ heldB n (n (34 + f)) = true then (if fallB n f 0 = true then 1 else 0) else 0) + tmq n (n (34 + f)) (n (40 + f)) (n (46 + f)) (cntIn n (n (34 + f)) N) := by
  obtain ⟨f1, f2, f3⟩ := hw.2.2 f hf
  have w := (hw.2.1 _ f1).1
  have hp : plOk (n (4 + n (34 + f))) (n (9 + n (34 + f))) (n (24 + n (34 + f))) (n (40 + f)) (n (46 + f)) := Or.inl ⟨f2, f3⟩
  induction N with
  | zero =>
    rw [if_neg (no0 (P := heldB n (n (34 + f)) = true)), cnt_0]
    show 0 + (if fallB n f 0 = true then 1 else 0) + _ = _
    omega
  | succ N ih =>
    rw [show cntP (fallB n f) (N + 1 + 1) = cntP (fallB n f) (N + 1) + (if fallB n f (N + 1) = true then 1 else 0) from rfl]
    by_cases q : N = 0 ∧ heldB n (n (34 + f)) = true
    · obtain ⟨q1, q2⟩ := q
      subst q1
      have e1 : cntIn n (n (34 + f)) (0 + 1) = n (54 + n (34 + f)) := by rw [cnt_one q2 (by omega)]; omega
      have e2 : fallB n f (0 + 1) = fallB n f 0 := by rw [fall_dy hw hf, fall_dy hw hf, e1, cnt_0]
      rw [if_neg (no0 (P := heldB n (n (34 + f)) = true)), cnt_0] at ih
      rw [e1, e2, if_pos (show 0 < 0 + 1 ∧ heldB n (n (34 + f)) = true from ⟨by omega, q2⟩)]
      omega
    · have e1 : cntIn n (n (34 + f)) (N + 1) = cntIn n (n (34 + f)) N + 1 := by
        by_cases r : heldB n (n (34 + f)) = true
        · rw [cnt_one r (by omega), cnt_one r (by rcases Nat.eq_zero_or_pos N with t | t; exact absurd ⟨t, r⟩ q; exact t)]
          rcases Nat.eq_zero_or_pos N with t | t
          · exact absurd ⟨t, r⟩ q
          · omega
        · rw [cnt_free r, cnt_free r]; omega
      have e2 : (0 < N + 1 ∧ heldB n (n (34 + f)) = true) = (0 < N ∧ heldB n (n (34 + f)) = true) := by
        refine propext ⟨fun r => ⟨?_, r.2⟩, fun r => ⟨by omega, r.2⟩⟩
        rcases Nat.eq_zero_or_pos N with t | t
        · exact absurd ⟨t, r.2⟩ q
        · exact t
      have e3 : tmq n (n (34 + f)) (n (40 + f)) (n (46 + f)) (cntIn n (n (34 + f)) (N + 1)) = tmq n (n (34 + f)) (n (40 + f)) (n (46 + f)) (cntIn n (n (34 + f)) N) + (if fallB n f (N + 1) = true then 1 else 0) := by
        rw [e1]
        unfold tmq
        rw [tm_succ w hp, ← e1]
        congr 1
        have e4 := fall_dy hw hf (N + 1)
        unfold dyq plq at e4
        rw [e4]
        by_cases r : dyOf (n (4 + n (34 + f))) (n (9 + n (34 + f))) (n (24 + n (34 + f))) (n (29 + n (34 + f))) (cntIn n (n (34 + f)) (N + 1)) = n (40 + f) * n (9 + n (34 + f)) + n (46 + f)
        · rw [if_pos r, if_pos (decide_eq_true r)]
        · rw [if_neg r, if_neg (by rw [decide_eq_false r]; decide)]
      rw [e3]
      simp only [e2]
      omega
theorem igc {α : Type} {k n : Nat} {x : Option α} (h : k < n) (hn : n < 2 ^ 31) : (if (nI k < 0 ∨ n ≤ k) then none else x) = x := if_neg (fun q => q.elim (nI_pos (by omega)) (by omega))
theorem c_countFalls {S : St} {n : Nat → Nat} (hw : WFn n) (h : CW S n) {f N : Nat} (hf : f < n 1) (hN : N ≤ 9999) : fX0_countFalls 93 3 (nI f) (nI N) S = some (nI (cntP (fallB n f) (N + 1))) := by
  have h0 := hw.1
  obtain ⟨f1, f2, f3⟩ := hw.2.2 f hf
  obtain ⟨g1, g2, g3⟩ := h.2.2.1 f hf
  obtain ⟨w, -, -, hcl⟩ := hw.2.1 _ f1
  have hp : plOk (n (4 + n (34 + f))) (n (9 + n (34 + f))) (n (24 + n (34 + f))) (n (40 + f)) (n (46 + f)) := Or.inl ⟨f2, f3⟩
  have hct := c_countIn h (k := N) h0.1 f1 (by omega)
  have hl := cnt_le hw (k := N) f1
  have t1 := c_times (c := cntIn n (n (34 + f)) N) (h.2.1 _ f1) w (by omega) hp
  have t2 := c_times (c := n (54 + n (34 + f))) (h.2.1 _ f1) w (by omega) hp
  have hc := h.2.2.2.2 _ f1
  have hh := c_held h (p := n (34 + f))
  have hfo : fX9_fallsOn 3 (nI f) 0 S = some (b01 (fallB n f 0)) := c_fallsOn hw h (k := 0) hf (by omega)
  have hsum := falls_sum hw hf N
  have hmono : tmq n (n (34 + f)) (n (40 + f)) (n (46 + f)) (n (54 + n (34 + f))) ≤ tmq n (n (34 + f)) (n (40 + f)) (n (46 + f)) (cntIn n (n (34 + f)) N) := by
    unfold tmq
    refine tm_mono w hp ?_
    unfold cntIn
    split <;> omega
  have hcn := cntP_le (fallB n f) (N + 1)
  unfold tmq at hsum hmono
  unfold fX0_countFalls fX0_countFalls_s11 fX0_countFalls_s18 fX0_countFalls_s44 fX0_countFalls_s113
  rw [igd (by omega) (by decide), nI_clamp (by omega), show (3 : Nat) + 1 + 2 + 6 + f = 12 + f from rfl, g1, g2, g3, show (3 : Nat) + 1 = 4 from rfl, hasP h h0.1 f1, if_neg i10, igd (by omega) (by decide), nI_clamp (by omega), hfo, ob_some, show (3 : Nat) + 15 = 18 from rfl, hct, ob_some, ob_some, show (4 : Nat) + 1 + 2 + n (34 + f) = 7 + n (34 + f) from rfl, t1, ob_some, ob_some, igc (by omega) (by decide), igc (by omega) (by decide), show (18 : Nat) + 1 = 19 from rfl, hc, t2, ob_some, ob_some, hh, if01, if01, if01, pk_sub hmono]
  generalize tmOf (n (4 + n (34 + f))) (n (9 + n (34 + f))) (n (24 + n (34 + f))) (n (29 + n (34 + f))) (n (40 + f)) (n (40 + f) * n (9 + n (34 + f)) + n (46 + f)) (cntIn n (n (34 + f)) N) = a at *
  generalize tmOf (n (4 + n (34 + f))) (n (9 + n (34 + f))) (n (24 + n (34 + f))) (n (29 + n (34 + f))) (n (40 + f)) (n (40 + f) * n (9 + n (34 + f)) + n (46 + f)) (n (54 + n (34 + f))) = b at *
  by_cases q : fallB n f 0 = true
  · simp only [if_pos q] at hsum ⊢
    rcases Nat.eq_zero_or_pos N with r | r
    · rw [if_neg (fun t => absurd t.1 (by omega))] at hsum
      rw [if_pos (show nI N ≤ 0 by rw [r]; decide), show (1 : Int32) + 0 = nI 1 from rfl, nI_add]; congr 2; omega
    · rw [if_neg (nI_nle r (by omega))]
      by_cases t : heldB n (n (34 + f)) = true
      · rw [if_pos ⟨r, t⟩] at hsum
        rw [if_pos t, show (1 : Int32) + 1 = nI 2 from rfl, nI_add]; congr 2; omega
      · rw [if_neg (fun u => t u.2)] at hsum
        rw [if_neg t, show (1 : Int32) + 0 = nI 1 from rfl, nI_add]; congr 2; omega
  · simp only [if_neg q] at hsum ⊢
    rcases Nat.eq_zero_or_pos N with r | r
    · rw [if_pos (show nI N ≤ 0 by rw [r]; decide), show (0 : Int32) + 0 = nI 0 from rfl, nI_add]; congr 2; split at hsum <;> omega
    · rw [if_neg (nI_nle r (by omega)), show (0 : Int32) + 0 = nI 0 from rfl, nI_add]
      have e : nI (0 + (a - b)) = nI (cntP (fallB n f) (N + 1)) := by congr 1; split at hsum <;> omega
      rw [e]; split <;> rfl
theorem l_falls {S : St} {n : Nat → Nat} (hw : WFn n) (h : MR S n) {f N : Nat} (hf : f < n 1) (hN : N ≤ 9999) : ∀ m i k : Nat, i + m = N + 1 → m < k → fX11_falls_h31 140 (nI f) (nI N) k (nI (cntP (fallB n f) i)) (nI i) S = some (nI (cntP (fallB n f) (N + 1)), S) := by
  intro m
  induction m with
  | zero =>
    intro i k hi hk
    obtain ⟨k, rfl⟩ : ∃ k', k = k' + 1 := ⟨k - 1, by omega⟩
    rw [fX11_falls_h31]; unfold fX11_falls_s31
    rw [if_pos (nI_lt (by omega) (by omega)), show i = N + 1 by omega]
  | succ m ih =>
    intro i k hi hk
    obtain ⟨k, rfl⟩ : ∃ k', k = k' + 1 := ⟨k - 1, by omega⟩
    rw [fX11_falls_h31]; unfold fX11_falls_s31
    rw [if_neg (nI_nlt (by omega) (by omega)), m_fallsIn hw h hf (by omega), ob_some, if01, nI_1, nI_1, show (0 : Int32) = nI 0 from rfl, nI_add]
    have e := ih (i + 1) k (by omega) (by omega)
    rw [show cntP (fallB n f) (i + 1) = cntP (fallB n f) i + (if fallB n f i = true then 1 else 0) from rfl] at e
    by_cases q : fallB n f i = true
    · rw [if_pos q]; rw [if_pos q] at e; exact e
    · rw [if_neg q]; rw [if_neg q] at e; exact e
theorem q_falls {S : St} {n : Nat → Nat} (hw : WFn n) (h : CW S n) (h' : MR S n) (x1 x2 : Int32) : ∃ r, fX10_falls 0 x1 x2 S = some r ∧ fX11_falls 140 x1 x2 S = some (r, sI S 11 0 140 0) := by
  have h0 := hw.1
  have h2 : MR (sI S 11 0 140 0) n := h'
  unfold fX10_falls fX11_falls fX11_falls_s5
  rcases fx h h2 h0.2.1 x1 with ⟨f, hf, rfl, e1, e2⟩ | ⟨e1, e2⟩
  · rw [if_neg (show ¬ fX8_hasFeast (0 + 3 + 1) (nI f) S = 0 from fun q => i10 (e1.symm.trans q)), e2, ob_some, if_neg i10]
    by_cases a1 : x2 < 0
    · rw [if_pos a1, isIn_no (Or.inl a1), if_pos rfl]; exact ⟨_, rfl, rfl⟩
    by_cases a2 : 9999 < x2
    · rw [if_neg a1, if_pos a2, isIn_no (Or.inr a2), if_pos rfl]; exact ⟨_, rfl, rfl⟩
    rw [if_neg a1, if_neg a2, isIn_yes a1 a2, if_neg i10]
    obtain ⟨N, hN, rfl⟩ := nI_of2 (M := 9999) (n := 9999) (by decide) a1 (Int32.not_lt.mp a2)
    rw [show (0 : Nat) + 93 = 93 from rfl, show (0 : Nat) + 3 = 3 from rfl, c_countFalls hw h hf hN, ob_some]
    exact ⟨_, rfl, l_falls hw h2 hf hN (N + 1) 0 NN (by omega) (by unfold NN; omega)⟩
  · rw [e2, ob_some, if_pos rfl, if_pos (show fX8_hasFeast (0 + 3 + 1) x1 S = 0 from e1)]; exact ⟨_, rfl, rfl⟩
-- meet
def meetB (n : Nat → Nat) (f g k : Nat) : Bool := fallB n f k && fallB n g k
theorem l_meetC {S : St} {n : Nat → Nat} (hw : WFn n) (h : CW S n) {f g : Nat} (hf : f < n 1) (hg : g < n 1) : ∀ m k t u : Nat, k + m = 100000 → 0 < m → t ≤ k → m < u → (∀ j, j < k → meetB n f g j = false) → ∃ r, fX0_findMeeting_h6 93 3 (nI f) (nI g) u (nI k) (nI t) S = some r ∧ Fst (meetB n f g) 100000 r := by
  intro m
  induction m using Nat.strongRecOn with
  | ind m ih =>
    intro k t u hk hm ht hu hn
    obtain ⟨u, rfl⟩ : ∃ k', u = k' + 1 := ⟨u - 1, by omega⟩
    obtain ⟨v, v1, v2, v3, v4, v5⟩ := c_nextFrom hw h (k := k) hf (by omega)
    obtain ⟨v', w1, w2, w3, w4, w5⟩ := c_nextFrom hw h (k := v) hg (by omega)
    rw [fX0_findMeeting_h6]; unfold fX0_findMeeting_s6
    rw [if_neg (show ¬ (99999 : Int32) < nI t from Int32.not_lt.mpr (nI_le (b := 99999) (by omega) (by omega))), v1, ob_some, w1, ob_some]
    have hb1 : ∀ j, j < v → meetB n f g j = false := fun j hj => by
      rcases Nat.lt_or_ge j k with q | q
      · exact hn j q
      · unfold meetB; rw [v5 j q hj]; rfl
    have hb2 : ∀ j, j < v' → v ≠ j ∨ v ≠ v' → meetB n f g j = false := fun j hj _ => by
      rcases Nat.lt_or_ge j v with q | q
      · exact hb1 j q
      · unfold meetB; rw [w5 j q hj]; exact Bool.and_false _
    by_cases q : 99999 < v
    · rw [if_pos (show (99999 : Int32) < nI v from nI_lt (a := 99999) q (by omega))]
      exact ⟨_, rfl, Fst_no (fun j hj => hb1 j (by omega))⟩
    · rw [if_neg (show ¬ (99999 : Int32) < nI v from Int32.not_lt.mpr (nI_le (b := 99999) (by omega) (by omega)))]
      by_cases r : v' ≤ 99999
      · rw [if_pos (show nI v' ≤ (99999 : Int32) from nI_le (b := 99999) r (by omega))]
        by_cases s : v = v'
        · rw [if_pos (by rw [s])]
          refine ⟨_, rfl, Fst_at (by omega) ?_ hb1⟩
          unfold meetB; rw [v4, s, w4]; rfl
        · rw [if_neg (fun e => s ((nI_eq (by omega) (by omega)).mp e)), nI_1]
          exact ih (100000 - v') (by omega) v' (t + 1) u (by omega) (by omega) (by omega) (by omega) (fun j hj => hb2 j hj (Or.inr s))
      · rw [if_neg (show ¬ nI v' ≤ (99999 : Int32) from nI_ge (a := 99999) (by omega) (by omega))]
        exact ⟨_, rfl, Fst_no (fun j hj => by
          rcases Nat.lt_or_ge j v with q2 | q2
          · exact hb1 j q2
          · unfold meetB; rw [w5 j q2 (by omega)]; exact Bool.and_false _)⟩
theorem l_meetR {S : St} {n : Nat → Nat} (hw : WFn n) (h : MR S n) {f g : Nat} (hf : f < n 1) (hg : g < n 1) : ∀ m i u : Nat, i + m = 100000 → m < u → (∀ j, j < i → meetB n f g j = false) → ∃ r, fX11_meet_h25 140 (nI f) (nI g) u (nI i) S = some (r, S) ∧ Fst (meetB n f g) 100000 r := by
  intro m
  induction m with
  | zero =>
    intro i u hi hu hn
    obtain ⟨u, rfl⟩ : ∃ k', u = k' + 1 := ⟨u - 1, by omega⟩
    rw [fX11_meet_h25]; unfold fX11_meet_s25
    rw [if_pos (show (99999 : Int32) < nI i from nI_lt (a := 99999) (by omega) (by omega))]
    exact ⟨_, rfl, Fst_no (fun j hj => hn j (by omega))⟩
  | succ m ih =>
    intro i u hi hu hn
    obtain ⟨u, rfl⟩ : ∃ k', u = k' + 1 := ⟨u - 1, by omega⟩
    rw [fX11_meet_h25]; unfold fX11_meet_s25 fX11_meet_s52
    rw [if_neg (show ¬ (99999 : Int32) < nI i from Int32.not_lt.mpr (nI_le (b := 99999) (by omega) (by omega))), m_fallsIn hw h hf (by omega), ob_some, if01, m_fallsIn hw h hg (by omega), ob_some, if01, nI_1]
    have nx : meetB n f g i = false → ∃ r, fX11_meet_h25 140 (nI f) (nI g) u (nI (i + 1)) S = some (r, S) ∧ Fst (meetB n f g) 100000 r := fun e => ih (i + 1) u (by omega) (by omega) (fun j hj => by
      rcases Nat.lt_or_ge j i with q2 | q2
      · exact hn j q2
      · rw [show j = i by omega]; exact e)
    by_cases q : fallB n f i = true
    · rw [if_pos q]
      by_cases q2 : fallB n g i = true
      · rw [if_pos q2]
        exact ⟨_, rfl, Fst_at (by omega) (by unfold meetB; rw [q, q2]; rfl) hn⟩
      · rw [if_neg q2]
        exact nx (by unfold meetB; rw [bnot q2]; exact Bool.and_false _)
    · rw [if_neg q]
      exact nx (by unfold meetB; rw [bnot q]; rfl)
theorem q_meet {S : St} {n : Nat → Nat} (hw : WFn n) (h : CW S n) (h' : MR S n) (x1 x2 : Int32) : ∃ r, fX10_meet 0 x1 x2 S = some r ∧ fX11_meet 140 x1 x2 S = some (r, sI S 11 0 140 0) := by
  have h0 := hw.1
  have h2 : MR (sI S 11 0 140 0) n := h'
  unfold fX10_meet fX11_meet fX11_meet_s5
  rcases fx h h2 h0.2.1 x1 with ⟨f, hf, rfl, e1, e2⟩ | ⟨e1, e2⟩
  · rw [if_neg (show ¬ fX8_hasFeast (0 + 3 + 1) (nI f) S = 0 from fun q => i10 (e1.symm.trans q)), e2, ob_some, if_neg i10]
    rcases fx h h2 h0.2.1 x2 with ⟨g, hg, rfl, d1, d2⟩ | ⟨d1, d2⟩
    · rw [if_neg (show ¬ fX8_hasFeast (0 + 3 + 1) (nI g) S = 0 from fun q => i10 (d1.symm.trans q)), d2, ob_some, if_neg i10]
      obtain ⟨r, r1, r2⟩ := l_meetC hw h hf hg 100000 0 0 NN (by omega) (by omega) (by omega) (by unfold NN; omega) (fun j hj => by omega)
      obtain ⟨r', r3, r4⟩ := l_meetR hw h2 hf hg 100000 0 NN (by omega) (by unfold NN; omega) (fun j hj => by omega)
      unfold fX0_findMeeting
      have r1' : fX0_findMeeting_h6 93 3 (nI f) (nI g) NN 0 0 S = some r := r1
      have r3' : fX11_meet_h25 140 (nI f) (nI g) NN 0 (sI S 11 0 140 0) = some (r', sI S 11 0 140 0) := r3
      rw [show (0 : Nat) + 93 = 93 from rfl, show (0 : Nat) + 3 = 3 from rfl, r1', r3', ob_some, Fst_un r2 r4]
      exact ⟨_, rfl, rfl⟩
    · rw [d2, ob_some, if_pos rfl, if_pos (show fX8_hasFeast (0 + 3 + 1) x2 S = 0 from d1)]; exact ⟨_, rfl, rfl⟩
  · rw [e2, ob_some, if_pos rfl, if_pos (show fX8_hasFeast (0 + 3 + 1) x1 S = 0 from e1)]; exact ⟨_, rfl, rfl⟩
