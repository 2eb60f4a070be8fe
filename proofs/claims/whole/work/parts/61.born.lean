-- ask, born, wrote, ago
def clq (n : Nat → Nat) (p k : Nat) : Nat := clOf (n (4 + p)) (n (9 + p)) (n (24 + p)) (n (29 + p)) (n (14 + p)) (n (54 + p)) k
def lkN (n : Nat → Nat) (k p : Nat) : Nat := cntP (fun q => decide (clq n q k = clq n p k)) (n 0)
def mxl (n : Nat → Nat) (k : Nat) : Nat → Nat
  | 0 => 0
  | p + 1 => if mxl n k p < lkN n k p then lkN n k p else mxl n k p
theorem lkN_le {n : Nat → Nat} (hw : WFn n) (k p : Nat) : lkN n k p ≤ 5 := Nat.le_trans (cntP_le _ _) hw.1.1
theorem mxl_le {n : Nat → Nat} (hw : WFn n) (k i : Nat) : mxl n k i ≤ 5 := by
  induction i with
  | zero => exact Nat.zero_le _
  | succ i ih => show (if _ then _ else _ : Nat) ≤ 5; split; exact lkN_le hw k i; exact ih
theorem cntP_pos {P : Nat → Bool} {k i : Nat} (hi : i < k) (h : P i = true) : 0 < cntP P k := by
  induction k with
  | zero => omega
  | succ k ih =>
    show 0 < cntP P k + (if P k = true then 1 else 0)
    rcases Nat.lt_or_ge i k with q | q
    · have := ih q; omega
    · rw [show i = k by omega] at h; rw [if_pos h]; omega
theorem mxl_pos {n : Nat → Nat} (k : Nat) (h : 0 < n 0) : ∀ i, 0 < i → 0 < mxl n k i := by
  intro i
  induction i with
  | zero => intro q; omega
  | succ i ih =>
    intro _
    show 0 < (if _ then _ else _ : Nat)
    split
    · omega
    · rename_i q
      rcases Nat.eq_zero_or_pos i with r | r
      · subst r
        have : 0 < lkN n k 0 := cntP_pos (P := fun q => decide (clq n q k = clq n 0 k)) h (decide_eq_true rfl)
        omega
      · exact ih r
theorem cl_lt {n : Nat → Nat} (hw : WFn n) {p : Nat} (hp : p < n 0) (k : Nat) : clq n p k < 2 ^ 20 := by
  obtain ⟨w, hW1, hW2, hcl⟩ := hw.2.1 p hp
  have h0 := hw.1
  have := yr_le w (n (54 + p))
  have := dt_lt w (n (54 + p))
  have : n (54 + p) % n (14 + p) < n (14 + p) := Nat.mod_lt _ (by omega)
  unfold clq clOf
  split
  · omega
  · split
    · omega
    · split <;> omega
theorem c_clq {S : St} {n : Nat → Nat} (hw : WFn n) (h : CW S n) {p k : Nat} (hp : p < n 0) (hk : k ≤ 3) : fX4_called (7 + p) (nI (n (54 + p))) (nI k) S = some (nI (clq n p k)) := by
  obtain ⟨w, hW1, hW2, hcl⟩ := hw.2.1 p hp
  have h0 := hw.1
  exact c_called (h.2.1 p hp) w ⟨by omega, hW2⟩ (by omega) hk
theorem l_mostIn {S : St} {n : Nat → Nat} (hw : WFn n) (h : CW S n) {k p : Nat} (hk : k ≤ 3) (hp : p < n 0) (y2 : Int32) (K : Int32 → Int32 → Option Int32) : ∀ m i u : Nat, i + m = n 0 → m < u → fX0_mostLeft_h45 K 3 (nI k) u y2 (nI p) (nI (clq n p k)) (nI (cntP (fun q => decide (clq n q k = clq n p k)) i)) (nI i) S = K (if y2 < nI (lkN n k p) then nI (lkN n k p) else y2) (nI (p + 1)) := by
  have h0 := hw.1
  intro m
  induction m with
  | zero =>
    intro i u hi hu
    obtain ⟨u, rfl⟩ : ∃ k', u = k' + 1 := ⟨u - 1, by omega⟩
    rw [fX0_mostLeft_h45]; unfold fX0_mostLeft_s45 fX0_mostLeft_s102 lkN
    rw [show (3 : Nat) + 1 = 4 from rfl, h.1.1, if_pos (nI_le (by omega) (by omega)), nI_1, show n 0 = i by omega]
  | succ m ih =>
    intro i u hi hu
    obtain ⟨u, rfl⟩ : ∃ k', u = k' + 1 := ⟨u - 1, by omega⟩
    have hc : gA S 15 (3 + 15 + 1) i = nI (n (54 + i)) := h.2.2.2.2 i (by omega)
    have l1 := cl_lt hw (show i < n 0 by omega) k
    have l2 := cl_lt hw hp k
    rw [fX0_mostLeft_h45]; unfold fX0_mostLeft_s45 fX0_mostLeft_s89
    rw [show (3 : Nat) + 1 = 4 from rfl, h.1.1, if_neg (nI_ge (by omega) (by omega)), igd (by omega) (by decide), igd (by omega) (by decide), nI_clamp (by omega), show (4 : Nat) + 1 + 2 + i = 7 + i from rfl, hc, c_clq hw h (by omega) hk, ob_some, nI_1, nI_1]
    have e := ih (i + 1) u (by omega) (by omega)
    rw [show cntP (fun q => decide (clq n q k = clq n p k)) (i + 1) = cntP (fun q => decide (clq n q k = clq n p k)) i + (if decide (clq n i k = clq n p k) = true then 1 else 0) from rfl] at e
    by_cases q : clq n i k = clq n p k
    · rw [if_pos (congrArg nI q)]; rw [if_pos (decide_eq_true q)] at e; exact e
    · rw [if_neg (fun r => q ((nI_eq (by omega) (by omega)).mp r))]; rw [if_neg (fun r => q (of_decide_eq_true r))] at e; exact e
theorem l_mostOut {S : St} {n : Nat → Nat} (hw : WFn n) (h : CW S n) {k : Nat} (hk : k ≤ 3) : ∀ m i u : Nat, i + m = n 0 → m < u → fX0_mostLeft_h4 3 (nI k) u (nI (mxl n k i)) (nI i) S = some (nI (mxl n k (n 0))) := by
  have h0 := hw.1
  intro m
  induction m with
  | zero =>
    intro i u hi hu
    obtain ⟨u, rfl⟩ : ∃ k', u = k' + 1 := ⟨u - 1, by omega⟩
    rw [fX0_mostLeft_h4]; unfold fX0_mostLeft_s4
    rw [show (3 : Nat) + 1 = 4 from rfl, h.1.1, if_pos (nI_le (by omega) (by omega)), show n 0 = i by omega]
  | succ m ih =>
    intro i u hi hu
    obtain ⟨u, rfl⟩ : ∃ k', u = k' + 1 := ⟨u - 1, by omega⟩
    have hc : gA S 15 (3 + 15 + 1) i = nI (n (54 + i)) := h.2.2.2.2 i (by omega)
    have l1 := mxl_le hw k i
    have l2 := lkN_le hw k i
    rw [fX0_mostLeft_h4]; unfold fX0_mostLeft_s4
    have e1 : fX0_mostLeft_h45 (fun y2 y3 => fX0_mostLeft_h4 3 (nI k) u y2 y3 S) 3 (nI k) NN (nI (mxl n k i)) (nI i) (nI (clq n i k)) 0 0 S = _ := l_mostIn hw h hk (show i < n 0 by omega) (nI (mxl n k i)) (fun y2 y3 => fX0_mostLeft_h4 3 (nI k) u y2 y3 S) (n 0) 0 NN (by omega) (by unfold NN; omega)
    rw [show (3 : Nat) + 1 = 4 from rfl, h.1.1, if_neg (nI_ge (by omega) (by omega)), igd (by omega) (by decide), igd (by omega) (by decide), nI_clamp (by omega), show (4 : Nat) + 1 + 2 + i = 7 + i from rfl, hc, c_clq hw h (by omega) hk, ob_some, e1]
    have e := ih (i + 1) u (by omega) (by omega)
    rw [show mxl n k (i + 1) = if mxl n k i < lkN n k i then lkN n k i else mxl n k i from rfl] at e
    show fX0_mostLeft_h4 3 (nI k) u (if nI (mxl n k i) < nI (lkN n k i) then nI (lkN n k i) else nI (mxl n k i)) (nI (i + 1)) S = _
    by_cases q : mxl n k i < lkN n k i
    · rw [if_pos (nI_lt q (by omega))]; rw [if_pos q] at e; exact e
    · rw [if_neg (nI_nlt (by omega) (by omega))]; rw [if_neg q] at e; exact e
theorem c_mostLeft {S : St} {n : Nat → Nat} (hw : WFn n) (h : CW S n) {k : Nat} (hk : k ≤ 3) : fX0_mostLeft 3 (nI k) S = some (nI (mxl n k (n 0))) := by
  have h0 := hw.1
  exact l_mostOut hw h hk (n 0) 0 NN (by omega) (by unfold NN; omega)
theorem m_partOf {S : St} {n : Nat → Nat} (hw : WFn n) (h : MR S n) {p k : Nat} (hp : p < n 0) (hk : k ≤ 2) : fX11_partOf 140 (nI p) (nI k) S = some (nI (clq n p (k + 1))) := by
  obtain ⟨w, hW1, hW2, hcl⟩ := hw.2.1 p hp
  have hdl := dt_lt w (n (54 + p))
  unfold fX11_partOf
  rw [m_today hw h hp, ob_some, ob_some, m_weekday hw h hp, ob_some, show (32 : Int32) = nI 32 from rfl]
  unfold dtq
  rw [pk_rem (by omega) (by omega) (by omega), pk_div (by omega) (by omega) (by omega)]
  match k, hk with
  | 0, _ => exact if_pos rfl
  | 1, _ => exact (if_neg (by decide)).trans (if_pos rfl)
  | 2, _ => exact (if_neg (by decide)).trans (if_neg (by decide))
theorem l_leftIn {S : St} {n : Nat → Nat} (hw : WFn n) (h : MR S n) {k p : Nat} (hk : k ≤ 2) (hp : p < n 0) (y2 : Int32) (K : Int32 → Int32 → Option Int32) : ∀ m i u : Nat, i + m = n 0 → m < u → fX11_leftBy_h20 K 140 (nI k) u y2 (nI p) (nI (cntP (fun q => decide (clq n q (k + 1) = clq n p (k + 1))) i)) (nI i) S = K (if y2 ≤ nI (lkN n (k + 1) p) then nI (lkN n (k + 1) p) else y2) (nI (p + 1)) := by
  have h0 := hw.1
  have e0 : gA S 29 (140 + 2) 0 = nI (n 0) := h 0 (by omega)
  intro m
  induction m with
  | zero =>
    intro i u hi hu
    obtain ⟨u, rfl⟩ : ∃ k', u = k' + 1 := ⟨u - 1, by omega⟩
    rw [fX11_leftBy_h20]; unfold fX11_leftBy_s20 fX11_leftBy_s70 fX11_greater lkN
    rw [e0, if_pos (nI_le (by omega) (by omega)), nI_1, show n 0 = i by omega]
  | succ m ih =>
    intro i u hi hu
    obtain ⟨u, rfl⟩ : ∃ k', u = k' + 1 := ⟨u - 1, by omega⟩
    have l1 := cl_lt hw (show i < n 0 by omega) (k + 1)
    have l2 := cl_lt hw hp (k + 1)
    rw [fX11_leftBy_h20]; unfold fX11_leftBy_s20
    rw [e0, if_neg (nI_ge (by omega) (by omega)), m_partOf hw h (show i < n 0 by omega) hk, ob_some, m_partOf hw h hp hk, ob_some, nI_1, nI_1, show (0 : Int32) = nI 0 from rfl, nI_add]
    have e := ih (i + 1) u (by omega) (by omega)
    rw [show cntP (fun q => decide (clq n q (k + 1) = clq n p (k + 1))) (i + 1) = cntP (fun q => decide (clq n q (k + 1) = clq n p (k + 1))) i + (if decide (clq n i (k + 1) = clq n p (k + 1)) = true then 1 else 0) from rfl] at e
    by_cases q : clq n i (k + 1) = clq n p (k + 1)
    · rw [if_pos (congrArg nI q)]; rw [if_pos (decide_eq_true q)] at e; exact e
    · rw [if_neg (fun r => q ((nI_eq (by omega) (by omega)).mp r))]; rw [if_neg (fun r => q (of_decide_eq_true r))] at e; exact e
theorem l_leftOut {S : St} {n : Nat → Nat} (hw : WFn n) (h : MR S n) {k : Nat} (hk : k ≤ 2) : ∀ m i u : Nat, i + m = n 0 → m < u → fX11_leftBy_h4 140 (nI k) u (nI (mxl n (k + 1) i)) (nI i) S = some (nI (mxl n (k + 1) (n 0))) := by
  have h0 := hw.1
  have e0 : gA S 29 (140 + 2) 0 = nI (n 0) := h 0 (by omega)
  intro m
  induction m with
  | zero =>
    intro i u hi hu
    obtain ⟨u, rfl⟩ : ∃ k', u = k' + 1 := ⟨u - 1, by omega⟩
    rw [fX11_leftBy_h4]; unfold fX11_leftBy_s4
    rw [e0, if_pos (nI_le (by omega) (by omega)), show n 0 = i by omega]
  | succ m ih =>
    intro i u hi hu
    obtain ⟨u, rfl⟩ : ∃ k', u = k' + 1 := ⟨u - 1, by omega⟩
    have l1 := mxl_le hw (k + 1) i
    have l2 := lkN_le hw (k + 1) i
    rw [fX11_leftBy_h4]; unfold fX11_leftBy_s4
    have e1 : fX11_leftBy_h20 (fun y2 y3 => fX11_leftBy_h4 140 (nI k) u y2 y3 S) 140 (nI k) NN (nI (mxl n (k + 1) i)) (nI i) 0 0 S = _ := l_leftIn hw h hk (show i < n 0 by omega) (nI (mxl n (k + 1) i)) (fun y2 y3 => fX11_leftBy_h4 140 (nI k) u y2 y3 S) (n 0) 0 NN (by omega) (by unfold NN; omega)
    rw [e0, if_neg (nI_ge (by omega) (by omega)), e1]
    have e := ih (i + 1) u (by omega) (by omega)
    rw [show mxl n (k + 1) (i + 1) = if mxl n (k + 1) i < lkN n (k + 1) i then lkN n (k + 1) i else mxl n (k + 1) i from rfl] at e
    show fX11_leftBy_h4 140 (nI k) u (if nI (mxl n (k + 1) i) ≤ nI (lkN n (k + 1) i) then nI (lkN n (k + 1) i) else nI (mxl n (k + 1) i)) (nI (i + 1)) S = _
    by_cases q : mxl n (k + 1) i < lkN n (k + 1) i
    · rw [if_pos (nI_le (by omega) (by omega))]; rw [if_pos q] at e; exact e
    · rw [if_neg q] at e
      by_cases q2 : mxl n (k + 1) i = lkN n (k + 1) i
      · rw [if_pos (nI_le (by omega) (by omega)), ← q2]; exact e
      · rw [if_neg (nI_ge (by omega) (by omega))]; exact e
theorem m_leftBy {S : St} {n : Nat → Nat} (hw : WFn n) (h : MR S n) {k : Nat} (hk : k ≤ 2) : fX11_leftBy 140 (nI k) S = some (nI (mxl n (k + 1) (n 0))) := by
  have h0 := hw.1
  exact l_leftOut hw h hk (n 0) 0 NN (by omega) (by unfold NN; omega)
theorem q_ask {S : St} {n : Nat → Nat} (hw : WFn n) (h : CW S n) (h' : MR S n) : ∃ r, fX10_ask 0 S = some r ∧ fX11_ask 140 S = some (r, sI S 11 0 140 0) := by
  obtain ⟨K1, hK1⟩ : ∃ k, NN = k + 1 + 1 + 1 + 1 := ⟨999996, rfl⟩
  have h0 := hw.1
  have h2 : MR (sI S 11 0 140 0) n := h'
  have e0 : gA (sI S 11 0 140 0) 29 (140 + 2) 0 = nI (n 0) := h2 0 (by omega)
  have A0 : fX0_mostLeft 3 (0 + 1) S = some (nI (mxl n 1 (n 0))) := c_mostLeft hw h (k := 1) (by omega)
  have A1 : fX0_mostLeft 3 (0 + 1 + 1) S = some (nI (mxl n 2 (n 0))) := c_mostLeft hw h (k := 2) (by omega)
  have A2 : fX0_mostLeft 3 (0 + 1 + 1 + 1) S = some (nI (mxl n 3 (n 0))) := c_mostLeft hw h (k := 3) (by omega)
  have B0 : fX11_leftBy 140 0 (sI S 11 0 140 0) = some (nI (mxl n 1 (n 0))) := m_leftBy hw h2 (k := 0) (by omega)
  have B1 : fX11_leftBy 140 1 (sI S 11 0 140 0) = some (nI (mxl n 2 (n 0))) := m_leftBy hw h2 (k := 1) (by omega)
  have B2 : fX11_leftBy 140 (1 + 1) (sI S 11 0 140 0) = some (nI (mxl n 3 (n 0))) := m_leftBy hw h2 (k := 2) (by omega)
  have l1 := mxl_le hw 1 (n 0)
  have l2 := mxl_le hw 2 (n 0)
  have l3 := mxl_le hw 3 (n 0)
  unfold fX10_ask fX11_ask fX11_ask_s5 fX0_findQuestion fX0_findQuestion_s10
  rw [hK1, e0, show (0 : Nat) + 3 = 3 from rfl, show (3 : Nat) + 1 = 4 from rfl, h.1.1]
  try dsimp only
  rw [fX0_findQuestion_h13]; unfold fX0_findQuestion_s13
  rw [if_neg (show ¬ (3 : Int32) ≤ 0 by decide), A0, ob_some]
  unfold fX0_findQuestion_s45 fX0_findQuestion_s51
  rw [if_pos (show (-1 : Int32) = -1 from rfl)]
  rcases Nat.eq_zero_or_pos (n 0) with z | z
  · rw [z, if_pos nI_0, show nI (mxl n 1 0) = 0 from rfl, if_pos (show (0 : Int32) ≤ 0 by decide)]
    try dsimp only
    rw [fX0_findQuestion_h13]; unfold fX0_findQuestion_s13 fX0_findQuestion_s51 fX0_findQuestion_s45
    rw [if_neg (show ¬ (3 : Int32) ≤ 0 + 1 by decide), A1, ob_some, z, show nI (mxl n 2 0) = 0 from rfl, if_pos (show (0 : Int32) ≤ 0 by decide)]
    try dsimp only
    rw [fX0_findQuestion_h13]; unfold fX0_findQuestion_s13 fX0_findQuestion_s51 fX0_findQuestion_s45
    rw [if_neg (show ¬ (3 : Int32) ≤ 0 + 1 + 1 by decide), A2, ob_some, z, show nI (mxl n 3 0) = 0 from rfl, if_pos (show (0 : Int32) ≤ 0 by decide)]
    try dsimp only
    rw [fX0_findQuestion_h13]; unfold fX0_findQuestion_s13
    rw [if_pos (show (3 : Int32) ≤ 0 + 1 + 1 + 1 by decide)]
    exact ⟨-1, rfl, rfl⟩
  · have p1 := mxl_pos 1 z (n 0) z
    have p2 := mxl_pos 2 z (n 0) z
    have p3 := mxl_pos 3 z (n 0) z
    rw [if_neg (nI_nle p1 (by omega)), if_neg (nI_z z (by omega))]
    try dsimp only
    rw [fX0_findQuestion_h13]; unfold fX0_findQuestion_s13 fX0_findQuestion_s51 fX0_findQuestion_s45
    rw [if_neg (show ¬ (3 : Int32) ≤ 0 + 1 by decide), A1, ob_some, if_neg (nI_nle p2 (by omega)), if_neg (show ¬ (0 : Int32) = -1 by decide)]
    rw [fX11_ask_h20]; unfold fX11_ask_s20 fX11_ask_s40
    rw [if_neg (show ¬ (3 : Int32) ≤ 1 by decide), B1, ob_some, B0, ob_some]
    unfold fX0_findQuestion_s51
    by_cases q : mxl n 1 (n 0) ≤ mxl n 2 (n 0)
    · rw [if_pos (nI_le q (by omega)), if_pos (nI_le q (by omega))]
      try dsimp only
      rw [fX0_findQuestion_h13]; unfold fX0_findQuestion_s13 fX0_findQuestion_s51 fX0_findQuestion_s45
      rw [if_neg (show ¬ (3 : Int32) ≤ 0 + 1 + 1 by decide), A2, ob_some, if_neg (nI_nle p3 (by omega)), if_neg (show ¬ (0 : Int32) = -1 by decide)]
      rw [fX11_ask_h20]; unfold fX11_ask_s20 fX11_ask_s40
      rw [if_neg (show ¬ (3 : Int32) ≤ 1 + 1 by decide), B2, ob_some, B0, ob_some]
      unfold fX0_findQuestion_s51
      by_cases r : mxl n 1 (n 0) ≤ mxl n 3 (n 0)
      · rw [if_pos (nI_le r (by omega)), if_pos (nI_le r (by omega))]
        try dsimp only
        rw [fX0_findQuestion_h13, fX11_ask_h20]; unfold fX0_findQuestion_s13 fX11_ask_s20
        rw [if_pos (show (3 : Int32) ≤ 0 + 1 + 1 + 1 by decide), if_pos (show (3 : Int32) ≤ 1 + 1 + 1 by decide)]
        exact ⟨0, rfl, rfl⟩
      · rw [if_neg (nI_ge (by omega) (by omega)), if_neg (nI_ge (by omega) (by omega))]
        try dsimp only
        rw [fX0_findQuestion_h13, fX11_ask_h20]; unfold fX0_findQuestion_s13 fX11_ask_s20
        rw [if_pos (show (3 : Int32) ≤ 0 + 1 + 1 + 1 by decide), if_pos (show (3 : Int32) ≤ 1 + 1 + 1 by decide)]
        exact ⟨2, rfl, rfl⟩
    · rw [if_neg (nI_ge (by omega) (by omega)), if_neg (nI_ge (by omega) (by omega))]
      try dsimp only
      rw [fX0_findQuestion_h13]; unfold fX0_findQuestion_s13 fX0_findQuestion_s51 fX0_findQuestion_s45
      rw [if_neg (show ¬ (3 : Int32) ≤ 0 + 1 + 1 by decide), A2, ob_some, if_neg (nI_nle p3 (by omega)), if_neg (show ¬ (0 + 1 : Int32) = -1 by decide)]
      rw [fX11_ask_h20]; unfold fX11_ask_s20 fX11_ask_s40
      rw [if_neg (show ¬ (3 : Int32) ≤ 1 + 1 by decide), B2, ob_some, B1, ob_some]
      unfold fX0_findQuestion_s51
      by_cases r : mxl n 2 (n 0) ≤ mxl n 3 (n 0)
      · rw [if_pos (nI_le r (by omega)), if_pos (nI_le r (by omega))]
        try dsimp only
        rw [fX0_findQuestion_h13, fX11_ask_h20]; unfold fX0_findQuestion_s13 fX11_ask_s20
        rw [if_pos (show (3 : Int32) ≤ 0 + 1 + 1 + 1 by decide), if_pos (show (3 : Int32) ≤ 1 + 1 + 1 by decide)]
        exact ⟨1, rfl, rfl⟩
      · rw [if_neg (nI_ge (by omega) (by omega)), if_neg (nI_ge (by omega) (by omega))]
        try dsimp only
        rw [fX0_findQuestion_h13, fX11_ask_h20]; unfold fX0_findQuestion_s13 fX11_ask_s20
        rw [if_pos (show (3 : Int32) ≤ 0 + 1 + 1 + 1 by decide), if_pos (show (3 : Int32) ≤ 1 + 1 + 1 by decide)]
        exact ⟨2, rfl, rfl⟩
-- born
def bnQ (n : Nat → Nat) (p j : Nat) : Bool := decide (dyq n p (cntIn n p (j + 1)) = dyq n p (n (54 + p)))
theorem born_sum {n : Nat → Nat} (hw : WFn n) {p mo da : Nat} (hp : p < n 0) (hpl : plOk (n (4 + p)) (n (9 + p)) (n (24 + p)) mo da) (hd : dyq n p (n (54 + p)) = mo * n (9 + p) + da) (i : Nat) : cntP (bnQ n p) i + tmq n p mo da (n (54 + p)) = (if 0 < i ∧ heldB n p = true then 1 else 0) + tmq n p mo da (cntIn n p i) := by
  obtain ⟨w, hW1, hW2, hcl⟩ := hw.2.1 p hp
  induction i with
  | zero => rw [if_neg (fun q => absurd q.1 (by omega)), cnt_0]; show 0 + _ = _; omega
  | succ i ih =>
    rw [show cntP (bnQ n p) (i + 1) = cntP (bnQ n p) i + (if bnQ n p i = true then 1 else 0) from rfl]
    by_cases q : i = 0 ∧ heldB n p = true
    · obtain ⟨q1, q2⟩ := q
      subst q1
      have e1 : cntIn n p (0 + 1) = n (54 + p) := by rw [cnt_one q2 (by omega)]; omega
      rw [if_neg (fun r => absurd r.1 (by omega)), cnt_0] at ih
      rw [if_pos (show bnQ n p 0 = true from decide_eq_true (by rw [e1])), e1, if_pos ⟨by omega, q2⟩]
      omega
    · have e1 : cntIn n p (i + 1) = cntIn n p i + 1 := by
        by_cases r : heldB n p = true
        · rcases Nat.eq_zero_or_pos i with t | t
          · exact absurd ⟨t, r⟩ q
          · rw [cnt_one r (by omega), cnt_one r t]; omega
        · rw [cnt_free r, cnt_free r]; omega
      have e2 : (if 0 < i + 1 ∧ heldB n p = true then 1 else 0) = (if 0 < i ∧ heldB n p = true then 1 else 0) := by
        by_cases r : heldB n p = true
        · rcases Nat.eq_zero_or_pos i with t | t
          · exact absurd ⟨t, r⟩ q
          · rw [if_pos ⟨by omega, r⟩, if_pos ⟨t, r⟩]
        · rw [if_neg (fun s => r s.2), if_neg (fun s => r s.2)]
      have e3 : tmq n p mo da (cntIn n p (i + 1)) = tmq n p mo da (cntIn n p i) + (if bnQ n p i = true then 1 else 0) := by
        unfold bnQ
        rw [e1, hd]
        unfold tmq dyq
        rw [tm_succ w hpl]
        congr 1
        by_cases r : dyOf (n (4 + p)) (n (9 + p)) (n (24 + p)) (n (29 + p)) (cntIn n p i + 1) = mo * n (9 + p) + da
        · rw [if_pos r, if_pos (decide_eq_true r)]
        · rw [if_neg r, if_neg (fun s => r (of_decide_eq_true s))]
      rw [e2, e3]; omega
theorem cntP_mono {P : Nat → Bool} {i j : Nat} (h : i ≤ j) : cntP P i ≤ cntP P j := by
  induction j with
  | zero => rw [Nat.le_zero.mp h]; exact Nat.le_refl _
  | succ k ih =>
    rcases Nat.lt_or_ge k i with q | q
    · rw [show i = k + 1 by omega]; exact Nat.le_refl _
    · have := ih q; show _ ≤ cntP P k + _; omega
theorem l_bornR {S : St} {n : Nat → Nat} (hw : WFn n) (h : MR S n) {p N k : Nat} (hp : p < n 0) (hN : N ≤ 99) (hk : 0 < k) (k1 : bnQ n p (k - 1) = true) (k2 : cntP (bnQ n p) k = N) (x2 : Int32) : ∀ m i u : Nat, i + m = (if k ≤ 99999 then k else 100000) → m < u → 0 < i → fX11_born_h30 140 (nI p) x2 u (nI (N - cntP (bnQ n p) (i - 1))) (nI i) S = some (if k ≤ 99999 then nI k else -1, S) := by
  have h0 := hw.1
  obtain ⟨w, hW1, hW2, hcl⟩ := hw.2.1 p hp
  have hkk : k = (k - 1) + 1 := by omega
  have hlast : cntP (bnQ n p) (k - 1) + 1 = N := by
    rw [← k2]
    conv => rhs; rw [hkk]
    show _ = cntP (bnQ n p) (k - 1) + (if bnQ n p (k - 1) = true then 1 else 0)
    rw [if_pos k1]
  intro m
  induction m with
  | zero =>
    intro i u hi hu hi0
    obtain ⟨u, rfl⟩ : ∃ k', u = k' + 1 := ⟨u - 1, by omega⟩
    have l1 := dt_lt w (cntIn n p i)
    have l2 := dt_lt w (n (54 + p))
    rw [fX11_born_h30]; unfold fX11_born_s30
    by_cases q : k ≤ 99999
    · rw [if_pos q] at hi
      rw [if_pos q, if_neg (show ¬ (99999 : Int32) < nI i from Int32.not_lt.mpr (nI_le (b := 99999) (by omega) (by omega))), m_datedIn hw h hp (by omega), ob_some, m_today hw h hp, ob_some, show i = k by omega]
      have e1 : dtq n p (cntIn n p k) = dtq n p (n (54 + p)) := by
        unfold dtq
        rw [dt_dy w]
        have := of_decide_eq_true k1
        rw [← hkk] at this
        exact this
      rw [if_pos (congrArg nI e1), show N - cntP (bnQ n p) (k - 1) = 1 by omega, if_pos (show nI 1 - 1 = 0 by decide)]
    · rw [if_neg q] at hi
      rw [if_neg q, if_pos (show (99999 : Int32) < nI i from nI_lt (a := 99999) (by omega) (by omega))]
  | succ m ih =>
    intro i u hi hu hi0
    obtain ⟨u, rfl⟩ : ∃ k', u = k' + 1 := ⟨u - 1, by omega⟩
    have l1 := dt_lt w (cntIn n p i)
    have l2 := dt_lt w (n (54 + p))
    have hik : i < k ∧ i ≤ 99999 := by split at hi <;> omega
    have hm1 := cntP_mono (P := bnQ n p) (show i ≤ k - 1 by omega)
    have hs : cntP (bnQ n p) i = cntP (bnQ n p) (i - 1) + (if bnQ n p (i - 1) = true then 1 else 0) := by
      conv => lhs; rw [show i = (i - 1) + 1 by omega]
      rfl
    have hq : bnQ n p (i - 1) = decide (dyq n p (cntIn n p i) = dyq n p (n (54 + p))) := by unfold bnQ; rw [show i - 1 + 1 = i by omega]
    rw [fX11_born_h30]; unfold fX11_born_s30
    rw [if_neg (show ¬ (99999 : Int32) < nI i from Int32.not_lt.mpr (nI_le (b := 99999) (by omega) (by omega))), m_datedIn hw h hp (by omega), ob_some, m_today hw h hp, ob_some, nI_1, show (1 : Int32) = nI 1 from rfl, show (0 : Int32) = nI 0 from rfl, pk_sub (show 0 ≤ _ from Nat.zero_le _), Nat.sub_zero]
    have e := ih (i + 1) u (by omega) (by omega) (by omega)
    rw [show i + 1 - 1 = i by omega] at e
    by_cases q : dyq n p (cntIn n p i) = dyq n p (n (54 + p))
    · rw [hq, if_pos (decide_eq_true q)] at hs
      have e1 : dtq n p (cntIn n p i) = dtq n p (n (54 + p)) := (dt_dy w _ _).mpr q
      rw [if_pos (congrArg nI e1), pk_sub (by omega), show N - cntP (bnQ n p) (i - 1) - 1 = N - cntP (bnQ n p) i by omega, if_neg (show ¬ nI (N - cntP (bnQ n p) i) = nI 0 from nI_z (by omega) (by omega))]
      exact e
    · rw [hq, if_neg (fun s => q (of_decide_eq_true s)), Nat.add_zero] at hs
      have e1 : ¬ dtq n p (cntIn n p i) = dtq n p (n (54 + p)) := fun s => q ((dt_dy w _ _).mp s)
      rw [if_neg (fun s => e1 ((nI_eq (by unfold dtq; omega) (by unfold dtq; omega)).mp s)), ← hs, if_neg (show ¬ nI (N - cntP (bnQ n p) i) = nI 0 from nI_z (by omega) (by omega))]
      exact e
theorem div_more {q m E : Nat} (hE : 0 < E) : (q * E + m * E + E - 1) / E = q + m := by
  rw [← Nat.add_mul, show (q + m) * E + E - 1 = (q + m) * E + (E - 1) by omega, div_kE (by omega)]
theorem q_born {S : St} {n : Nat → Nat} (hw : WFn n) (h : CW S n) (h' : MR S n) (x1 x2 : Int32) : ∃ r, fX10_born 0 x1 x2 S = some r ∧ fX11_born 140 x1 x2 S = some (r, sI S 11 0 140 0) := by
  have h0 := hw.1
  have h2 : MR (sI S 11 0 140 0) n := h'
  unfold fX10_born fX11_born fX11_born_s5
  rcases px h h2 h0.1 x1 with ⟨p, hp, rfl, e1, e2⟩ | ⟨e1, e2⟩
  · rw [if_neg (show ¬ fX8_hasParish (0 + 3 + 1) (nI p) S = 0 from fun q => i10 (e1.symm.trans q)), e2, ob_some, if_neg i10]
    by_cases a1 : x2 < 1
    · rw [if_pos a1, isIn_no (Or.inl a1), if_pos rfl]; exact ⟨_, rfl, rfl⟩
    by_cases a2 : 99 < x2
    · rw [if_neg a1, if_pos a2, isIn_no (Or.inr a2), if_pos rfl]; exact ⟨_, rfl, rfl⟩
    rw [if_neg a1, if_neg a2, isIn_yes a1 a2, if_neg i10]
    obtain ⟨N, hN, rfl⟩ := nI_of2 (x := x2) (M := 99) (n := 99) (by decide) (fun q => a1 (Int32.lt_trans q (by decide))) (Int32.not_lt.mp a2)
    have hN1 : 1 ≤ N := by
      rcases Nat.eq_zero_or_pos N with q | q
      · exact absurd (show nI N < 1 by rw [q]; decide) a1
      · exact q
    obtain ⟨w, hW1, hW2, hcl⟩ := hw.2.1 p hp
    have hP := w.P
    have hc : gA S 15 (3 + 15 + 1) p = nI (n (54 + p)) := h.2.2.2.2 p hp
    obtain ⟨c1, c2, c3, c4, c5⟩ := id (h.2.1 p hp)
    have hy := c_yearAt (c := n (54 + p)) (h.2.1 p hp) w (by omega)
    have hd := c_dayInYear (c := n (54 + p)) (h.2.1 p hp) w (by omega)
    have hbt := c_isBetween (c := n (54 + p)) (h.2.1 p hp) w (by omega)
    have hyl := yr_le w (n (54 + p))
    have hdl := dy_lt w (n (54 + p))
    have hln := dy_ln w (n (54 + p))
    have hfd := fs_dy w (n (54 + p))
    have hh := c_held h (p := p)
    obtain ⟨w1, w2, w3, w4, w5, w6, w7⟩ := id w
    -- the answer, for a step s and a delay t
    have key : ∀ s t : Nat, (s = if n (4 + p) * n (9 + p) ≤ dyq n p (n (54 + p)) then n (29 + p) else 1) → (t = if heldB n p = true then 1 else 0) → ∃ k, 0 < k ∧ k < 2 ^ 24 ∧ bnQ n p (k - 1) = true ∧ cntP (bnQ n p) k = N ∧ (fX0_findBirthday_s78 93 3 (nI p) (nI N) (7 + p) (nI (n (54 + p))) (nI t) (nI (yrOf (n (4 + p)) (n (9 + p)) (n (24 + p)) (n (29 + p)) (n (54 + p))) + ((nI N - nI t) * nI s)) S = some (if k ≤ 99999 then nI k else -1)) := by
      intro s t hs ht
      have hs9 : 1 ≤ s ∧ s ≤ 9 := by split at hs <;> omega
      have ht1 : t ≤ 1 := by split at ht <;> omega
      generalize hm : N - t = m
      have hms : m * s ≤ 99 * 9 := Nat.mul_le_mul (by omega) hs9.2
      have hst := c_start (y := yrOf (n (4 + p)) (n (9 + p)) (n (24 + p)) (n (29 + p)) (n (54 + p)) + m * s) (h.2.1 p hp) w (by omega)
      have hfm := fs_mono (M := n (4 + p)) (D := n (9 + p)) (U := n (24 + p)) w6 (show yrOf (n (4 + p)) (n (9 + p)) (n (24 + p)) (n (29 + p)) (n (54 + p)) ≤ yrOf (n (4 + p)) (n (9 + p)) (n (24 + p)) (n (29 + p)) (n (54 + p)) + m * s by omega)
      unfold dyq at hs
      -- bounds
      have hfb : fsOf (n (4 + p)) (n (9 + p)) (n (24 + p)) (n (29 + p)) (yrOf (n (4 + p)) (n (9 + p)) (n (24 + p)) (n (29 + p)) (n (54 + p)) + m * s) < 2 ^ 24 - 2000 := by
        have q0 : yrOf (n (4 + p)) (n (9 + p)) (n (24 + p)) (n (29 + p)) (n (54 + p)) ≤ 20000 := by omega
        generalize yrOf (n (4 + p)) (n (9 + p)) (n (24 + p)) (n (29 + p)) (n (54 + p)) = y at *
        unfold fsOf
        have q1 : (y + m * s) * (n (4 + p) * n (9 + p)) ≤ 20891 * 390 := Nat.mul_le_mul (by omega) hP.2
        have q2 : (y + m * s + n (29 + p) - 1) / n (29 + p) ≤ 20899 := Nat.le_trans (Nat.div_le_self _ _) (by omega)
        have q3 : n (24 + p) * ((y + m * s + n (29 + p) - 1) / n (29 + p)) ≤ 9 * 20899 := Nat.mul_le_mul w5 q2
        omega
      -- the place of today
      obtain ⟨mo, da, hpl, hpd, hps⟩ : ∃ mo da, plOk (n (4 + p)) (n (9 + p)) (n (24 + p)) mo da ∧ dyOf (n (4 + p)) (n (9 + p)) (n (24 + p)) (n (29 + p)) (n (54 + p)) = mo * n (9 + p) + da ∧ (mo < n (4 + p) ↔ ¬ n (4 + p) * n (9 + p) ≤ dyOf (n (4 + p)) (n (9 + p)) (n (24 + p)) (n (29 + p)) (n (54 + p))) := by
        generalize dyOf (n (4 + p)) (n (9 + p)) (n (24 + p)) (n (29 + p)) (n (54 + p)) = d at *
        by_cases q : d < n (4 + p) * n (9 + p)
        · have q1 : d / n (9 + p) < n (4 + p) := Nat.div_lt_of_lt_mul (by rw [Nat.mul_comm]; exact q)
          exact ⟨d / n (9 + p), d % n (9 + p), Or.inl ⟨q1, Nat.mod_lt _ (by omega)⟩, by rw [Nat.mul_comm]; exact (Nat.div_add_mod _ _).symm, ⟨fun _ => by omega, fun _ => q1⟩⟩
        · exact ⟨n (4 + p), d - n (4 + p) * n (9 + p), Or.inr ⟨rfl, by omega⟩, by omega, ⟨fun r => by omega, fun r => by omega⟩⟩
      have hsum := born_sum hw hp hpl hpd
      -- the day itself
      have hlen : dyOf (n (4 + p)) (n (9 + p)) (n (24 + p)) (n (29 + p)) (n (54 + p)) < lnY (n (4 + p)) (n (9 + p)) (n (24 + p)) (n (29 + p)) (yrOf (n (4 + p)) (n (9 + p)) (n (24 + p)) (n (29 + p)) (n (54 + p)) + m * s) := by
        unfold lnY at hln ⊢
        by_cases q : n (4 + p) * n (9 + p) ≤ dyOf (n (4 + p)) (n (9 + p)) (n (24 + p)) (n (29 + p)) (n (54 + p))
        · rw [if_pos q] at hs
          have q1 : yrOf (n (4 + p)) (n (9 + p)) (n (24 + p)) (n (29 + p)) (n (54 + p)) % n (29 + p) = 0 := by
            by_cases r : yrOf (n (4 + p)) (n (9 + p)) (n (24 + p)) (n (29 + p)) (n (54 + p)) % n (29 + p) = 0
            · exact r
            · rw [if_neg r] at hln; omega
          rw [if_pos q1] at hln
          rw [hs, Nat.add_mul_mod_self_right, if_pos q1]; exact hln
        · omega
      obtain ⟨b1, b2⟩ := dy_at w hlen
      have hT : tmq n p mo da (fsOf (n (4 + p)) (n (9 + p)) (n (24 + p)) (n (29 + p)) (yrOf (n (4 + p)) (n (9 + p)) (n (24 + p)) (n (29 + p)) (n (54 + p)) + m * s) + dyOf (n (4 + p)) (n (9 + p)) (n (24 + p)) (n (29 + p)) (n (54 + p))) = tmq n p mo da (n (54 + p)) + m := by
        unfold tmq tmOf
        rw [b1, b2]
        by_cases q : n (4 + p) * n (9 + p) ≤ dyOf (n (4 + p)) (n (9 + p)) (n (24 + p)) (n (29 + p)) (n (54 + p))
        · rw [if_pos q] at hs
          have q0 : ¬ mo < n (4 + p) := fun r => (hps.mp r) q
          have q1 : yrOf (n (4 + p)) (n (9 + p)) (n (24 + p)) (n (29 + p)) (n (54 + p)) % n (29 + p) = 0 := by
            unfold lnY at hln
            by_cases r : yrOf (n (4 + p)) (n (9 + p)) (n (24 + p)) (n (29 + p)) (n (54 + p)) % n (29 + p) = 0
            · exact r
            · rw [if_neg r] at hln; omega
          have q2 := Nat.div_add_mod (yrOf (n (4 + p)) (n (9 + p)) (n (24 + p)) (n (29 + p)) (n (54 + p))) (n (29 + p))
          rw [q1, Nat.add_zero, Nat.mul_comm] at q2
          rw [if_neg q0, if_neg q0, hs]
          generalize yrOf (n (4 + p)) (n (9 + p)) (n (24 + p)) (n (29 + p)) (n (54 + p)) / n (29 + p) = g at q2
          rw [← q2, div_more (by omega)]
          have := div_more (q := g) (m := 0) (E := n (29 + p)) (by omega)
          rw [Nat.zero_mul, Nat.add_zero, Nat.add_zero] at this
          rw [this]; omega
        · rw [if_neg q] at hs
          rw [if_pos (hps.mpr q), if_pos (hps.mpr q), hs, Nat.mul_one]; omega
      generalize hc' : fsOf (n (4 + p)) (n (9 + p)) (n (24 + p)) (n (29 + p)) (yrOf (n (4 + p)) (n (9 + p)) (n (24 + p)) (n (29 + p)) (n (54 + p)) + m * s) = F at *
      generalize hdd : dyOf (n (4 + p)) (n (9 + p)) (n (24 + p)) (n (29 + p)) (n (54 + p)) = d at *
      have hge : n (54 + p) ≤ F + d := by omega
      have hpos : 0 < F + d - n (54 + p) + t := by
        by_cases q : heldB n p = true
        · rw [if_pos q] at ht; omega
        · rw [if_neg q] at ht
          rcases Nat.eq_zero_or_pos (F + d - n (54 + p) + t) with z | z
          · have : F + d = n (54 + p) := by omega
            rw [this] at hT
            omega
          · exact z
      have hcn : cntIn n p (F + d - n (54 + p) + t) = F + d := by
        by_cases q : heldB n p = true
        · rw [if_pos q] at ht; rw [cnt_one q hpos]; omega
        · rw [if_neg q] at ht; rw [cnt_free q]; omega
      refine ⟨F + d - n (54 + p) + t, hpos, by omega, ?_, ?_, ?_⟩
      · refine decide_eq_true ?_
        rw [show F + d - n (54 + p) + t - 1 + 1 = F + d - n (54 + p) + t by omega, hcn]
        unfold dyq
        rw [b2, hdd]
      · have e := hsum (F + d - n (54 + p) + t)
        rw [hcn, hT] at e
        by_cases q : heldB n p = true
        · rw [if_pos q] at ht; rw [if_pos ⟨hpos, q⟩] at e; omega
        · rw [if_neg q] at ht; rw [if_neg (fun r => q r.2)] at e; omega
      · unfold fX0_findBirthday_s78 fX0_findBirthday_s101
        rw [pk_sub (by omega), hm, pk_mul, nI_add, hst, ob_some, hd, ob_some, nI_add, pk_sub hge, nI_add]
        by_cases q : F + d - n (54 + p) + t ≤ 99999
        · rw [if_pos q, if_neg (show ¬ (99999 : Int32) < nI _ from Int32.not_lt.mpr (nI_le (b := 99999) q (by omega)))]
        · rw [if_neg q, if_pos (show (99999 : Int32) < nI _ from nI_lt (a := 99999) (by omega) (by omega))]
    unfold fX0_findBirthday fX0_findBirthday_s11 fX0_findBirthday_s22 fX0_findBirthday_s43
    rw [show (0 : Nat) + 93 = 93 from rfl, show (0 : Nat) + 3 = 3 from rfl, igd (by omega) (by decide), igd (by omega) (by decide), nI_clamp (by omega), show (3 : Nat) + 1 + 1 + 2 + p = 7 + p from rfl, hc, hbt, ob_some, if01, show (3 : Nat) + 15 = 18 from rfl, hh, if01, if01, hy, ob_some, ob_some, ob_some, ob_some, c4]
    have fin : ∀ k, 0 < k → k < 2 ^ 24 → bnQ n p (k - 1) = true → cntP (bnQ n p) k = N → fX11_born_h30 140 (nI p) (nI N) NN (nI N) 1 (sI S 11 0 140 0) = some (if k ≤ 99999 then nI k else -1, sI S 11 0 140 0) := by
      intro k k0 kb k1 k2
      have e := l_bornR hw h2 hp hN k0 k1 k2 (nI N) ((if k ≤ 99999 then k else 100000) - 1) 1 NN (by split <;> omega) (by unfold NN; split <;> omega) (by omega)
      rw [show (1 : Nat) - 1 = 0 from rfl, show cntP (bnQ n p) 0 = 0 from rfl, Nat.sub_zero] at e
      exact e
    by_cases q : n (4 + p) * n (9 + p) ≤ dyOf (n (4 + p)) (n (9 + p)) (n (24 + p)) (n (29 + p)) (n (54 + p))
    · rw [if_pos (decide_eq_true q)]
      by_cases r : heldB n p = true
      · rw [if_pos r]
        obtain ⟨k, k0, kb, k1, k2, k3⟩ := key (n (29 + p)) 1 (by unfold dyq; rw [if_pos q]) (by rw [if_pos r])
        refine ⟨_, ?_, fin k k0 kb k1 k2⟩
        rw [show (1 : Int32) = nI 1 from rfl, k3]; rfl
      · rw [if_neg r]
        obtain ⟨k, k0, kb, k1, k2, k3⟩ := key (n (29 + p)) 0 (by unfold dyq; rw [if_pos q]) (by rw [if_neg r])
        refine ⟨_, ?_, fin k k0 kb k1 k2⟩
        rw [show (0 : Int32) = nI 0 from rfl, k3]; rfl
    · rw [if_neg (fun s => q (of_decide_eq_true s))]
      by_cases r : heldB n p = true
      · rw [if_pos r]
        obtain ⟨k, k0, kb, k1, k2, k3⟩ := key 1 1 (by unfold dyq; rw [if_neg q]) (by rw [if_pos r])
        refine ⟨_, ?_, fin k k0 kb k1 k2⟩
        rw [show (1 : Int32) = nI 1 from rfl, k3]; rfl
      · rw [if_neg r]
        obtain ⟨k, k0, kb, k1, k2, k3⟩ := key 1 0 (by unfold dyq; rw [if_neg q]) (by rw [if_neg r])
        refine ⟨_, ?_, fin k k0 kb k1 k2⟩
        rw [show (0 : Int32) = nI 0 from rfl, show (1 : Int32) = nI 1 from rfl, k3]; rfl
  · rw [e2, ob_some, if_pos rfl, if_pos (show fX8_hasParish (0 + 3 + 1) x1 S = 0 from e1)]; exact ⟨_, rfl, rfl⟩
