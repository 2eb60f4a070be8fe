-- crowd, tune, agree, match, reform, play
theorem MR_sI {S : St} {n : Nat → Nat} {c k a : Nat} {v : Int32} (h : MR S n) : MR (sI S c k a v) n := h
-- how many FEASTS fall in k days
def fcn (n : Nat → Nat) (k : Nat) : Nat := cntP (fun f => fallB n f k) (n 1)
theorem l_countFalling {S : St} {n : Nat → Nat} (hw : WFn n) (h : CW S n) {k : Nat} (hk : k ≤ 1000) : ∀ m i u : Nat, i + m = n 1 → m < u → fX0_countFalling_h4 3 (nI k) u (nI (cntP (fun f => fallB n f k) i)) (nI i) S = some (nI (fcn n k)) := by
  have h0 := hw.1
  intro m
  induction m with
  | zero =>
    intro i u hi hu
    obtain ⟨u, rfl⟩ : ∃ k', u = k' + 1 := ⟨u - 1, by omega⟩
    rw [fX0_countFalling_h4]; unfold fX0_countFalling_s4 fcn
    rw [show (3 : Nat) + 1 = 4 from rfl, h.1.2.1, if_pos (nI_le (by omega) (by omega)), show n 1 = i by omega]
  | succ m ih =>
    intro i u hi hu
    obtain ⟨u, rfl⟩ : ∃ k', u = k' + 1 := ⟨u - 1, by omega⟩
    rw [fX0_countFalling_h4]; unfold fX0_countFalling_s4 fX0_countFalling_s27
    rw [show (3 : Nat) + 1 = 4 from rfl, h.1.2.1, if_neg (nI_ge (by omega) (by omega)), c_fallsOn hw h (k := k) (show i < n 1 by omega) (by omega), ob_some, if01, nI_1, nI_1]
    have e := ih (i + 1) u (by omega) (by omega)
    rw [show cntP (fun f => fallB n f k) (i + 1) = cntP (fun f => fallB n f k) i + (if fallB n i k = true then 1 else 0) from rfl] at e
    by_cases q : fallB n i k = true
    · rw [if_pos q]; rw [if_pos q] at e; exact e
    · rw [if_neg q]; rw [if_neg q] at e; exact e
/-- the most, and the first day of the most, of days 0 to k -/
def crw (F : Nat → Nat) : Nat → Nat × Nat
  | 0 => (F 0, 0)
  | k + 1 => if (crw F k).1 < F (k + 1) then (F (k + 1), k + 1) else crw F k
theorem crw_le {F : Nat → Nat} {B : Nat} (h : ∀ k, F k ≤ B) (k : Nat) : (crw F k).1 ≤ B := by
  induction k with
  | zero => exact h 0
  | succ k ih => show (if _ then _ else _ : Nat × Nat).1 ≤ B; split; exact h _; exact ih
theorem fcn_le {n : Nat → Nat} (hw : WFn n) (k : Nat) : fcn n k ≤ 6 := Nat.le_trans (cntP_le _ _) hw.1.2.1
theorem l_findCrowd {S : St} {n : Nat → Nat} (hw : WFn n) (h : CW S n) {N : Nat} (hN : N ≤ 999) : ∀ m i u : Nat, i + m = N → m < u → fX0_findCrowd_h5 93 3 (nI N) u (nI (crw (fcn n) i).1) (nI (i + 1)) (sI S 0 4 93 (nI (crw (fcn n) i).2)) = some (nI (crw (fcn n) N).1, sI S 0 4 93 (nI (crw (fcn n) N).2)) := by
  have h0 := hw.1
  intro m
  induction m with
  | zero =>
    intro i u hi hu
    obtain ⟨u, rfl⟩ : ∃ k', u = k' + 1 := ⟨u - 1, by omega⟩
    rw [fX0_findCrowd_h5]; unfold fX0_findCrowd_s5
    rw [if_pos (nI_lt (by omega) (by omega)), show N = i by omega]
  | succ m ih =>
    intro i u hi hu
    obtain ⟨u, rfl⟩ : ∃ k', u = k' + 1 := ⟨u - 1, by omega⟩
    have hf := fcn_le hw (i + 1)
    have hc := crw_le (fcn_le hw) i
    rw [fX0_findCrowd_h5]; unfold fX0_findCrowd_s5 fX0_findCrowd_s34 fX0_countFalling
    have ef : fX0_countFalling_h4 3 (nI (i + 1)) NN 0 0 (sI S 0 4 93 (nI (crw (fcn n) i).2)) = some (nI (fcn n (i + 1))) := l_countFalling hw (CW_al h) (by omega) (n 1) 0 NN (by omega) (by unfold NN; omega)
    rw [if_neg (nI_nlt (by omega) (by omega)), ef, ob_some, nI_1, sI_sI]
    have e := ih (i + 1) u (by omega) (by omega)
    rw [show crw (fcn n) (i + 1) = if (crw (fcn n) i).1 < fcn n (i + 1) then (fcn n (i + 1), i + 1) else crw (fcn n) i from rfl] at e
    by_cases q : (crw (fcn n) i).1 < fcn n (i + 1)
    · rw [if_neg (nI_ge q (by omega))]; rw [if_pos q] at e; exact e
    · rw [if_pos (nI_le (by omega) (by omega))]; rw [if_neg q] at e; exact e
theorem c_findCrowd {S : St} {n : Nat → Nat} (hw : WFn n) (h : CW S n) {N : Nat} (hN : N ≤ 999) : fX0_findCrowd 93 3 (nI N) S = some (nI (crw (fcn n) N).1, sI S 0 4 93 (nI (crw (fcn n) N).2)) := by
  obtain ⟨K1, hK1⟩ : ∃ k, NN = k + 1 := ⟨999999, rfl⟩
  have hK2 : K1 = 999999 := by unfold NN at hK1; omega
  have h0 := hw.1
  have hf := fcn_le hw 0
  have e := l_findCrowd hw h hN N 0 K1 (by omega) (by omega)
  unfold fX0_findCrowd
  rw [hK1, fX0_findCrowd_h5]; unfold fX0_findCrowd_s5 fX0_findCrowd_s34 fX0_countFalling
  have ef : fX0_countFalling_h4 3 0 NN 0 0 S = some (nI (fcn n 0)) := l_countFalling hw h (k := 0) (by omega) (n 1) 0 NN (by omega) (by unfold NN; omega)
  rw [if_neg (show ¬ nI N < 0 from nI_pos (by omega)), ef, ob_some, if_neg (show ¬ nI (fcn n 0) ≤ -1 from by
    rw [Int32.le_iff_toInt_le, nI_toInt (by omega), show (-1 : Int32).toInt = -1 from by decide]; omega)]
  exact e
theorem l_crowdIn {S : St} {n : Nat → Nat} (hw : WFn n) (h : MR S n) {k : Nat} (hk : k ≤ 1000) (x y2 : Int32) (K : Int32 → Int32 → St → Option (Int32 × St)) : ∀ m i u : Nat, i + m = n 1 → m < u → fX11_crowd_h33 K 140 x u y2 (nI k) (nI (cntP (fun f => fallB n f k) i)) (nI i) S = if y2 < nI (fcn n k) then K (nI (fcn n k)) (nI (k + 1)) (sI S 11 24 140 (nI k)) else K y2 (nI (k + 1)) S := by
  have h0 := hw.1
  have e1 : gA S 29 (140 + 2) 1 = nI (n 1) := h 1 (by omega)
  intro m
  induction m with
  | zero =>
    intro i u hi hu
    obtain ⟨u, rfl⟩ : ∃ k', u = k' + 1 := ⟨u - 1, by omega⟩
    rw [fX11_crowd_h33]; unfold fX11_crowd_s33 fX11_crowd_s87 fcn
    rw [e1, if_pos (nI_le (by omega) (by omega)), nI_1, show n 1 = i by omega]
  | succ m ih =>
    intro i u hi hu
    obtain ⟨u, rfl⟩ : ∃ k', u = k' + 1 := ⟨u - 1, by omega⟩
    rw [fX11_crowd_h33]; unfold fX11_crowd_s33
    rw [e1, if_neg (nI_ge (by omega) (by omega)), m_fallsIn hw h (f := i) (k := k) (by omega) (by omega), ob_some, if01, nI_1, nI_1, show (0 : Int32) = nI 0 from rfl, nI_add]
    have e := ih (i + 1) u (by omega) (by omega)
    rw [show cntP (fun f => fallB n f k) (i + 1) = cntP (fun f => fallB n f k) i + (if fallB n i k = true then 1 else 0) from rfl] at e
    by_cases q : fallB n i k = true
    · rw [if_pos q]; rw [if_pos q] at e; exact e
    · rw [if_neg q]; rw [if_neg q] at e; exact e
theorem l_crowdOut {S : St} {n : Nat → Nat} (hw : WFn n) (h : MR S n) {N : Nat} (hN : N ≤ 999) : ∀ m i u : Nat, i + m = N → m < u → fX11_crowd_h22 140 (nI N) u (nI (crw (fcn n) i).1) (nI (i + 1)) (sI S 11 24 140 (nI (crw (fcn n) i).2)) = some (nI (crw (fcn n) N).1, sI S 11 24 140 (nI (crw (fcn n) N).2)) := by
  have h0 := hw.1
  intro m
  induction m with
  | zero =>
    intro i u hi hu
    obtain ⟨u, rfl⟩ : ∃ k', u = k' + 1 := ⟨u - 1, by omega⟩
    rw [fX11_crowd_h22]; unfold fX11_crowd_s22
    rw [if_pos (nI_lt (by omega) (by omega)), show N = i by omega]
  | succ m ih =>
    intro i u hi hu
    obtain ⟨u, rfl⟩ : ∃ k', u = k' + 1 := ⟨u - 1, by omega⟩
    have hf := fcn_le hw (i + 1)
    have hc := crw_le (fcn_le hw) i
    rw [fX11_crowd_h22]; unfold fX11_crowd_s22
    have ef : fX11_crowd_h33 (fX11_crowd_h22 140 (nI N) u) 140 (nI N) NN (nI (crw (fcn n) i).1) (nI (i + 1)) 0 0 (sI S 11 24 140 (nI (crw (fcn n) i).2)) = _ := l_crowdIn hw (MR_sI h) (k := i + 1) (by omega) (nI N) (nI (crw (fcn n) i).1) (fX11_crowd_h22 140 (nI N) u) (n 1) 0 NN (by omega) (by unfold NN; omega)
    rw [if_neg (nI_nlt (by omega) (by omega)), ef, sI_sI]
    have e := ih (i + 1) u (by omega) (by omega)
    rw [show crw (fcn n) (i + 1) = if (crw (fcn n) i).1 < fcn n (i + 1) then (fcn n (i + 1), i + 1) else crw (fcn n) i from rfl] at e
    by_cases q : (crw (fcn n) i).1 < fcn n (i + 1)
    · rw [if_pos (nI_lt q (by omega))]; rw [if_pos q] at e; exact e
    · rw [if_neg (nI_nlt (by omega) (by omega))]; rw [if_neg q] at e; exact e
theorem q_crowd {S : St} {n : Nat → Nat} (hw : WFn n) (h : CW S n) (h' : MR S n) (x1 : Int32) : ∃ r S1 S2, fX10_crowd 0 x1 S = some (r, S1) ∧ fX11_crowd 140 x1 S1 = some (r, S2) ∧ ((S1 = S ∧ S2 = sI S 11 0 140 0) ∨ ∃ v, S1 = sI S 0 4 93 v ∧ S2 = sI (sI S1 11 0 140 0) 11 24 140 v) := by
  obtain ⟨K1, hK1⟩ : ∃ k, NN = k + 1 := ⟨999999, rfl⟩
  have hK2 : K1 = 999999 := by unfold NN at hK1; omega
  have h0 := hw.1
  unfold fX10_crowd
  by_cases a1 : x1 < 0
  · refine ⟨_, _, _, if_pos a1, ?_, Or.inl ⟨rfl, rfl⟩⟩
    unfold fX11_crowd fX11_crowd_s5
    rw [isIn_no (Or.inl a1), if_pos rfl]
  by_cases a2 : 999 < x1
  · refine ⟨_, _, _, (if_neg a1).trans (if_pos a2), ?_, Or.inl ⟨rfl, rfl⟩⟩
    unfold fX11_crowd fX11_crowd_s5
    rw [isIn_no (Or.inr a2), if_pos rfl]
  obtain ⟨N, hN, rfl⟩ := nI_of2 (M := 999) (n := 999) (by decide) a1 (Int32.not_lt.mp a2)
  unfold fX10_crowd_s23
  rw [if_neg a1, if_neg a2, show (0 : Nat) + 93 = 93 from rfl, show (0 : Nat) + 3 = 3 from rfl, c_findCrowd hw h hN, ob_some]
  refine ⟨_, _, _, rfl, ?_, Or.inr ⟨_, rfl, rfl⟩⟩
  unfold fX11_crowd fX11_crowd_s5
  rw [isIn_yes a1 a2, if_neg i10]
  have h2 : MR (sI (sI S 0 4 93 (nI (crw (fcn n) N).2)) 11 0 140 0) n := h'
  have hf := fcn_le hw 0
  have e := l_crowdOut hw h2 hN N 0 K1 (by omega) (by omega)
  rw [hK1, fX11_crowd_h22]; unfold fX11_crowd_s22
  have ef : fX11_crowd_h33 (fX11_crowd_h22 140 (nI N) K1) 140 (nI N) NN (-1) 0 0 0 (sI (sI S 0 4 93 (nI (crw (fcn n) N).2)) 11 0 140 0) = _ := l_crowdIn hw h2 (k := 0) (by omega) (nI N) (-1) (fX11_crowd_h22 140 (nI N) K1) (n 1) 0 NN (by omega) (by unfold NN; omega)
  rw [if_neg (show ¬ nI N < 0 from nI_pos (by omega)), ef, if_pos (show -1 < nI (fcn n 0) from by
    rw [Int32.lt_iff_toInt_lt, nI_toInt (by omega), show (-1 : Int32).toInt = -1 from by decide]; omega)]
  exact e
-- tune
def offI (n : Nat → Nat) (p y d : Nat) : Int32 := if 0 ≤ ((nI (n (4 + p)) * nI (n (9 + p))) * nI y + nI d) * nI (n 3) - nI (n 2) * nI y then ((nI (n (4 + p)) * nI (n (9 + p))) * nI y + nI d) * nI (n 3) - nI (n 2) * nI y else 0 - (((nI (n (4 + p)) * nI (n (9 + p))) * nI y + nI d) * nI (n 3) - nI (n 2) * nI y)
def tIn (o : Nat → Nat → Int32) (y : Nat) (b : Nat × Int32 × Nat) : Nat → Nat × Int32 × Nat
  | 0 => b
  | d + 1 => if (tIn o y b d).2.1 * nI y ≤ o y d * nI (tIn o y b d).1 then tIn o y b d else (y, o y d, d)
def tOut (o : Nat → Nat → Int32) : Nat → Nat × Int32 × Nat
  | 0 => (1, o 1 0, 0)
  | y + 1 => tIn o (y + 1) (tOut o y) 10
theorem tIn_pos {o : Nat → Nat → Int32} {y B : Nat} {b : Nat × Int32 × Nat} (hy : 0 < y ∧ y ≤ B) (hb : 0 < b.1 ∧ b.1 ≤ B) (d : Nat) : 0 < (tIn o y b d).1 ∧ (tIn o y b d).1 ≤ B := by
  induction d with
  | zero => exact hb
  | succ d ih => show 0 < (if _ then _ else _ : Nat × Int32 × Nat).1 ∧ (if _ then _ else _ : Nat × Int32 × Nat).1 ≤ B; split; exact ih; exact hy
theorem tOut_pos {o : Nat → Nat → Int32} (y : Nat) : 0 < (tOut o y).1 ∧ (tOut o y).1 ≤ y + 1 := by
  induction y with
  | zero => exact ⟨Nat.one_pos, Nat.le_refl _⟩
  | succ y ih => exact tIn_pos ⟨by omega, by omega⟩ ⟨ih.1, by omega⟩ 10
theorem c_offBy {S : St} {n : Nat → Nat} (hw : WFn n) (h : CW S n) {p y d : Nat} (hp : p < n 0) : fX0_offBy 4 (nI p) (nI y) (nI d) S = some (offI n p y d) := by
  have h0 := hw.1
  obtain ⟨c1, c2, -⟩ := h.2.1 p hp
  unfold fX0_offBy fX0_offBy_s8 fX0_offBy_s30 offI
  rw [igd (by omega) (by decide), nI_clamp (by omega), show (4 : Nat) + 1 + 2 + p = 7 + p from rfl, c1, c2, h.1.2.2.1, h.1.2.2.2]
theorem l_tuneIn {S : St} {n : Nat → Nat} (hw : WFn n) (h : CW S n) {p y : Nat} (hp : p < n 0) (x : Int32) (b : Nat × Int32 × Nat) (K : Int32 → Int32 → Int32 → St → Option (Int32 × St)) : ∀ m d u : Nat, d + m = 10 → m < u → fX0_findTune_h29 K 93 4 (nI p) x u (nI (tIn (offI n p) y b d).1) (tIn (offI n p) y b d).2.1 (nI y) (nI d) (sI S 0 0 93 (nI (tIn (offI n p) y b d).2.2)) = K (nI (tIn (offI n p) y b 10).1) (tIn (offI n p) y b 10).2.1 (nI (y + 1)) (sI S 0 0 93 (nI (tIn (offI n p) y b 10).2.2)) := by
  intro m
  induction m with
  | zero =>
    intro d u hi hu
    obtain ⟨u, rfl⟩ : ∃ k', u = k' + 1 := ⟨u - 1, by omega⟩
    rw [fX0_findTune_h29]; unfold fX0_findTune_s29
    rw [show d = 10 by omega, if_pos (show (9 : Int32) < nI 10 by decide), nI_1]
  | succ m ih =>
    intro d u hi hu
    obtain ⟨u, rfl⟩ : ∃ k', u = k' + 1 := ⟨u - 1, by omega⟩
    rw [fX0_findTune_h29]; unfold fX0_findTune_s29 fX0_findTune_s74
    rw [if_neg (show ¬ (9 : Int32) < nI d from Int32.not_lt.mpr (nI_le (b := 9) (by omega) (by omega))), c_offBy hw (CW_al h) hp, ob_some, nI_1, sI_sI]
    have e := ih (d + 1) u (by omega) (by omega)
    rw [show tIn (offI n p) y b (d + 1) = if (tIn (offI n p) y b d).2.1 * nI y ≤ offI n p y d * nI (tIn (offI n p) y b d).1 then tIn (offI n p) y b d else (y, offI n p y d, d) from rfl] at e
    by_cases q : (tIn (offI n p) y b d).2.1 * nI y ≤ offI n p y d * nI (tIn (offI n p) y b d).1
    · rw [if_pos q]; rw [if_pos q] at e; exact e
    · rw [if_neg q]; rw [if_neg q] at e; exact e
theorem l_tuneOut {S : St} {n : Nat → Nat} (hw : WFn n) (h : CW S n) {p E : Nat} (hp : p < n 0) (hE : E ≤ 30) : ∀ m y u : Nat, y + m = E → m < u → fX0_findTune_h20 93 4 (nI p) (nI E) u (nI (tOut (offI n p) y).1) (tOut (offI n p) y).2.1 (nI (y + 1)) (sI S 0 0 93 (nI (tOut (offI n p) y).2.2)) = some (nI (tOut (offI n p) E).1, sI S 0 0 93 (nI (tOut (offI n p) E).2.2)) := by
  intro m
  induction m with
  | zero =>
    intro y u hi hu
    obtain ⟨u, rfl⟩ : ∃ k', u = k' + 1 := ⟨u - 1, by omega⟩
    rw [fX0_findTune_h20]; unfold fX0_findTune_s20
    rw [show y = E by omega, if_pos (nI_lt (by omega) (by omega))]
  | succ m ih =>
    intro y u hi hu
    obtain ⟨u, rfl⟩ : ∃ k', u = k' + 1 := ⟨u - 1, by omega⟩
    rw [fX0_findTune_h20]; unfold fX0_findTune_s20
    have e := l_tuneIn hw h (y := y + 1) hp (nI E) (tOut (offI n p) y) (fX0_findTune_h20 93 4 (nI p) (nI E) u) 10 0 NN (by omega) (by unfold NN; omega)
    have e2 : tOut (offI n p) (y + 1) = tIn (offI n p) (y + 1) (tOut (offI n p) y) 10 := rfl
    have e3 : tIn (offI n p) (y + 1) (tOut (offI n p) y) 0 = tOut (offI n p) y := rfl
    rw [← e2, e3] at e
    rw [if_neg (nI_nlt (by omega) (by omega))]
    exact e.trans (ih (y + 1) u (by omega) (by omega))
theorem c_findTune {S : St} {n : Nat → Nat} (hw : WFn n) (h : CW S n) {p E : Nat} (hp : p < n 0) (hE : E ≤ 30) : fX0_findTune 93 4 (nI p) (nI E) S = some (nI (tOut (offI n p) E).1, sI S 0 0 93 (nI (tOut (offI n p) E).2.2)) := by
  unfold fX0_findTune fX0_findTune_s8
  have e : fX0_offBy 4 (nI p) 1 0 (sI S 0 0 93 0) = some (offI n p 1 0) := c_offBy hw (CW_al h) (y := 1) (d := 0) hp
  rw [e, ob_some]
  exact l_tuneOut hw h hp hE E 0 NN (by omega) (by unfold NN; omega)
theorem abs_eq {x : Int32} {S : St} : fX11_absolute x S = if 0 ≤ x then x else 0 - x := by
  unfold fX11_absolute; rw [Int32.zero_sub]
theorem m_plain {S : St} {n : Nat → Nat} (hw : WFn n) (h : MR S n) {p : Nat} (hp : p < n 0) : fX11_plainYear 140 (nI p) S = some (nI (n (4 + p)) * nI (n (9 + p))) := by
  have h0 := hw.1
  rw [m_plainYear (h.mp (p := p) (by omega)) (by omega), pk_mul]
theorem l_tuneInR {S : St} {n : Nat → Nat} (hw : WFn n) (h : MR S n) {p y : Nat} (hp : p < n 0) (hy : 0 < y ∧ y ≤ 30) (x : Int32) (b : Nat × Int32 × Nat) (hb : 0 < b.1 ∧ b.1 ≤ 31) (K : Int32 → Int32 → Int32 → St → Option (Int32 × St)) : ∀ m d u : Nat, d + m = 10 → m < u → fX11_tune_h42 K 140 (nI p) x u (nI (tIn (offI n p) y b d).1) (tIn (offI n p) y b d).2.1 (nI y) (nI d) (sI S 11 25 140 (nI (tIn (offI n p) y b d).2.2)) = K (nI (tIn (offI n p) y b 10).1) (tIn (offI n p) y b 10).2.1 (nI (y + 1)) (sI S 11 25 140 (nI (tIn (offI n p) y b 10).2.2)) := by
  intro m
  induction m with
  | zero =>
    intro d u hi hu
    obtain ⟨u, rfl⟩ : ∃ k', u = k' + 1 := ⟨u - 1, by omega⟩
    rw [fX11_tune_h42]; unfold fX11_tune_s42
    rw [show d = 10 by omega, if_pos (show (10 : Int32) ≤ nI 10 by decide), nI_1]
  | succ m ih =>
    intro d u hi hu
    obtain ⟨u, rfl⟩ : ∃ k', u = k' + 1 := ⟨u - 1, by omega⟩
    have h3 : gA (sI S 11 25 140 (nI (tIn (offI n p) y b d).2.2)) 29 (140 + 2) 3 = nI (n 3) := h 3 (by omega)
    have h2 : gA (sI S 11 25 140 (nI (tIn (offI n p) y b d).2.2)) 29 (140 + 2) 2 = nI (n 2) := h 2 (by omega)
    have hpos := tIn_pos (o := offI n p) (y := y) (B := 31) ⟨hy.1, by omega⟩ hb d
    rw [fX11_tune_h42]; unfold fX11_tune_s42 fX11_tune_s82 fX11_tune_s101 fX11_tune_s114
    rw [if_neg (show ¬ (10 : Int32) ≤ nI d from nI_ge (b := 10) (by omega) (by omega)), m_plain hw (MR_sI h) hp, ob_some, h2, h3, abs_eq, nI_1, sI_sI, if_neg (nI_nle hpos.1 (by omega))]
    have e := ih (d + 1) u (by omega) (by omega)
    rw [show tIn (offI n p) y b (d + 1) = if (tIn (offI n p) y b d).2.1 * nI y ≤ offI n p y d * nI (tIn (offI n p) y b d).1 then tIn (offI n p) y b d else (y, offI n p y d, d) from rfl] at e
    by_cases q : (tIn (offI n p) y b d).2.1 * nI y ≤ offI n p y d * nI (tIn (offI n p) y b d).1
    · rw [if_pos q] at e; refine (if_neg (Int32.not_lt.mpr q)).trans e
    · rw [if_neg q] at e; refine (if_pos (Int32.not_le.mp q)).trans e
theorem l_tuneOutR {S : St} {n : Nat → Nat} (hw : WFn n) (h : MR S n) {p E : Nat} (hp : p < n 0) (hE : E ≤ 30) : ∀ m y u : Nat, y + m = E → m < u → fX11_tune_h33 140 (nI p) (nI E) u (nI (tOut (offI n p) y).1) (tOut (offI n p) y).2.1 (nI (y + 1)) (sI S 11 25 140 (nI (tOut (offI n p) y).2.2)) = some (nI (tOut (offI n p) E).1, sI S 11 25 140 (nI (tOut (offI n p) E).2.2)) := by
  intro m
  induction m with
  | zero =>
    intro y u hi hu
    obtain ⟨u, rfl⟩ : ∃ k', u = k' + 1 := ⟨u - 1, by omega⟩
    rw [fX11_tune_h33]; unfold fX11_tune_s33
    rw [show y = E by omega, if_pos (nI_lt (by omega) (by omega))]
  | succ m ih =>
    intro y u hi hu
    obtain ⟨u, rfl⟩ : ∃ k', u = k' + 1 := ⟨u - 1, by omega⟩
    have hpos := tOut_pos (o := offI n p) y
    rw [fX11_tune_h33]; unfold fX11_tune_s33
    have e := l_tuneInR hw h (y := y + 1) hp ⟨by omega, by omega⟩ (nI E) (tOut (offI n p) y) ⟨hpos.1, by omega⟩ (fX11_tune_h33 140 (nI p) (nI E) u) 10 0 NN (by omega) (by unfold NN; omega)
    have e2 : tOut (offI n p) (y + 1) = tIn (offI n p) (y + 1) (tOut (offI n p) y) 10 := rfl
    have e3 : tIn (offI n p) (y + 1) (tOut (offI n p) y) 0 = tOut (offI n p) y := rfl
    rw [← e2, e3] at e
    rw [if_neg (nI_nlt (by omega) (by omega))]
    exact e.trans (ih (y + 1) u (by omega) (by omega))
theorem m_tune {S : St} {n : Nat → Nat} (hw : WFn n) (h : MR S n) {p E : Nat} (hp : p < n 0) (hE : 1 ≤ E ∧ E ≤ 30) : fX11_tune_h33 140 (nI p) (nI E) NN 0 0 1 S = some (nI (tOut (offI n p) E).1, sI S 11 25 140 (nI (tOut (offI n p) E).2.2)) := by
  obtain ⟨K1, hK1⟩ : ∃ k, NN = k + 1 := ⟨999999, rfl⟩
  have hK2 : K1 = 999999 := by unfold NN at hK1; omega
  rw [hK1, fX11_tune_h33]; unfold fX11_tune_s33
  rw [if_neg (show ¬ nI E < 1 from nI_nlt (b := 1) (by omega) (by omega)), hK1, fX11_tune_h42]; unfold fX11_tune_s42 fX11_tune_s82 fX11_tune_s101 fX11_tune_s114
  have h3 : gA S 29 (140 + 2) 3 = nI (n 3) := h 3 (by omega)
  have h2 : gA S 29 (140 + 2) 2 = nI (n 2) := h 2 (by omega)
  rw [if_neg (show ¬ (10 : Int32) ≤ 0 by decide), m_plain hw h hp, ob_some, h2, h3, abs_eq, if_pos (show (0 : Int32) ≤ 0 by decide)]
  have e := l_tuneInR hw h (y := 1) hp ⟨by omega, by omega⟩ (nI E) (tOut (offI n p) 0) ⟨Nat.one_pos, by show 1 ≤ 31; omega⟩ (fX11_tune_h33 140 (nI p) (nI E) K1) 9 1 K1 (by omega) (by omega)
  have e0 : tIn (offI n p) 1 (tOut (offI n p) 0) 1 = (1, offI n p 1 0, 0) := by
    show (if _ then _ else _ : Nat × Int32 × Nat) = _
    split
    · rfl
    · rfl
  have e2 : tOut (offI n p) 1 = tIn (offI n p) 1 (tOut (offI n p) 0) 10 := rfl
  rw [e0, ← e2] at e
  exact e.trans (l_tuneOutR hw h hp hE.2 (E - 1) 1 K1 (by omega) (by omega))
theorem q_tune {S : St} {n : Nat → Nat} (hw : WFn n) (h : CW S n) (h' : MR S n) (x1 x2 : Int32) : ∃ r S1 S2, fX10_tune 0 x1 x2 S = some (r, S1) ∧ fX11_tune 140 x1 x2 S1 = some (r, S2) ∧ ((S1 = S ∧ S2 = sI S 11 0 140 0) ∨ ∃ v, S1 = sI S 0 0 93 v ∧ S2 = sI (sI S1 11 0 140 0) 11 25 140 v) := by
  have h0 := hw.1
  unfold fX10_tune
  rcases px h (MR_sI (c := 11) (k := 0) (a := 140) (v := 0) h') h0.1 x1 with ⟨p, hp, rfl, e1, e2⟩ | ⟨e1, e2⟩
  · rw [if_neg (show ¬ fX8_hasParish (0 + 3 + 1) (nI p) S = 0 from fun q => i10 (e1.symm.trans q))]
    by_cases a1 : x2 < 1
    · refine ⟨_, _, _, if_pos a1, ?_, Or.inl ⟨rfl, rfl⟩⟩
      unfold fX11_tune fX11_tune_s5
      rw [e2, ob_some, if_neg i10, isIn_no (Or.inl a1), if_pos rfl]
    by_cases a2 : 30 < x2
    · refine ⟨_, _, _, (if_neg a1).trans (if_pos a2), ?_, Or.inl ⟨rfl, rfl⟩⟩
      unfold fX11_tune fX11_tune_s5
      rw [e2, ob_some, if_neg i10, isIn_no (Or.inr a2), if_pos rfl]
    obtain ⟨E, hE, rfl⟩ := nI_of2 (x := x2) (M := 30) (n := 30) (by decide) (fun q => a1 (Int32.lt_trans q (by decide))) (Int32.not_lt.mp a2)
    have hE1 : 1 ≤ E := by
      rcases Nat.eq_zero_or_pos E with q | q
      · exact absurd (show nI E < 1 by rw [q]; decide) a1
      · exact q
    unfold fX10_tune_s41
    rw [if_neg a1, if_neg a2, show (0 : Nat) + 93 = 93 from rfl, show (0 : Nat) + 3 + 1 = 4 from rfl, c_findTune hw h hp hE, ob_some]
    refine ⟨_, _, _, rfl, ?_, Or.inr ⟨_, rfl, rfl⟩⟩
    have e3 := (px (CW_al (k := 0) (v := nI (tOut (offI n p) E).2.2) h) (MR_sI (c := 11) (k := 0) (a := 140) (v := 0) (MR_sI (c := 0) (k := 0) (a := 93) (v := nI (tOut (offI n p) E).2.2) h')) h0.1 (nI p))
    unfold fX11_tune fX11_tune_s5
    rcases e3 with ⟨p', -, -, -, e3⟩ | ⟨e3, -⟩
    · rw [e3, ob_some, if_neg i10, isIn_yes a1 a2, if_neg i10]
      exact m_tune hw (MR_sI (MR_sI h')) hp ⟨hE1, hE⟩
    · rw [hasP (CW_al h) h0.1 hp] at e3; exact absurd e3 i10
  · refine ⟨_, _, _, if_pos (show fX8_hasParish (0 + 3 + 1) x1 S = 0 from e1), ?_, Or.inl ⟨rfl, rfl⟩⟩
    unfold fX11_tune fX11_tune_s5
    rw [e2, ob_some, if_pos rfl]
