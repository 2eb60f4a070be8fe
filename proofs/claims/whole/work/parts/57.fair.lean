-- fair, now, crowd, tune
theorem gI_c {S : St} {c k a c' k' a' : Nat} {v : Int32} (h : c' ≠ c) : gI (sI S c k a v) c' k' a' = gI S c' k' a' := if_neg (fun q => h q.1)
theorem gI_k {S : St} {c k a c' k' a' : Nat} {v : Int32} (h : k' ≠ k) : gI (sI S c k a v) c' k' a' = gI S c' k' a' := if_neg (fun q => h q.2.1)
theorem gI_a {S : St} {c k a c' k' a' : Nat} {v : Int32} (h : a' ≠ a) : gI (sI S c k a v) c' k' a' = gI S c' k' a' := if_neg (fun q => h q.2.2)
theorem gI_s {S : St} {c k a : Nat} {v : Int32} : gI (sI S c k a v) c k a = v := if_pos ⟨rfl, rfl, rfl⟩
theorem sI_sI {S : St} {c k a : Nat} {v w : Int32} : sI (sI S c k a v) c k a w = sI S c k a w := by
  unfold sI
  congr 1
  funext x y z
  unfold u3
  by_cases q : x = c ∧ y = k ∧ z = a
  · rw [if_pos q, if_pos q]
  · rw [if_neg q, if_neg q]; exact if_neg q
theorem CW_of {S T : St} {n : Nat → Nat} (h1 : ∀ c k a, c = 8 ∨ c = 4 ∨ c = 3 ∨ c = 2 → gI T c k a = gI S c k a) (h2 : ∀ j, gA T 15 19 j = gA S 15 19 j) (h : CW S n) : CW T n := by
  have e8 : ∀ k a, gI T 8 k a = gI S 8 k a := fun k a => h1 8 k a (by omega)
  have e4 : ∀ k a, gI T 4 k a = gI S 4 k a := fun k a => h1 4 k a (by omega)
  have e3 : ∀ k a, gI T 3 k a = gI S 3 k a := fun k a => h1 3 k a (by omega)
  have e2 : ∀ k a, gI T 2 k a = gI S 2 k a := fun k a => h1 2 k a (by omega)
  unfold CW CP at h ⊢
  simp only [e8, e4, e3, e2, h2]
  exact h
theorem CW_al {S : St} {n : Nat → Nat} {k : Nat} {v : Int32} (h : CW S n) : CW (sI S 0 k 93 v) n := CW_of (fun c k a hc => gI_c (by omega)) (fun _ => rfl) h
def bitB (x : Int32) (p : Nat) : Bool := decide (((x >>> (nI p &&& 31)) &&& 1) = 1)
def fairOne (n : Nat → Nat) (x : Int32) (k p : Nat) : Bool := !bitB x p || decide (cntIn n p k % n (14 + p) = 0)
def fairTo (n : Nat → Nat) (x : Int32) (k : Nat) : Nat → Bool
  | 0 => true
  | p + 1 => fairTo n x k p && fairOne n x k p
theorem fairTo_f {n : Nat → Nat} {x : Int32} {k i : Nat} (h : fairTo n x k i = false) (m : Nat) : fairTo n x k (i + m) = false := by
  induction m with
  | zero => exact h
  | succ m ih => show (fairTo n x k (i + m) && _) = false; rw [ih]; rfl
theorem l_isFair {S : St} {n : Nat → Nat} (hw : WFn n) (h : CW S n) {x : Int32} {k : Nat} (hk : k ≤ 2600) : ∀ m i u : Nat, i + m = n 0 → m < u → fairTo n x k i = true → fX0_isFair_h3 93 3 x (nI k) u (nI i) S = some (b01 (fairTo n x k (n 0))) := by
  have h0 := hw.1
  intro m
  induction m with
  | zero =>
    intro i u hi hu ht
    obtain ⟨u, rfl⟩ : ∃ k', u = k' + 1 := ⟨u - 1, by omega⟩
    rw [fX0_isFair_h3]; unfold fX0_isFair_s3
    rw [show (3 : Nat) + 1 = 4 from rfl, h.1.1, if_pos (nI_le (by omega) (by omega)), show n 0 = i by omega, ht]; rfl
  | succ m ih =>
    intro i u hi hu ht
    obtain ⟨u, rfl⟩ : ∃ k', u = k' + 1 := ⟨u - 1, by omega⟩
    obtain ⟨w, hW1, hW2, hcl⟩ := hw.2.1 i (by omega)
    have hct := c_countIn h (p := i) (k := k) h0.1 (by omega) (by omega)
    have hl := cnt_le hw (p := i) (k := k) (by omega)
    have hwk := (h.2.1 i (by omega)).2.2.2.2
    rw [fX0_isFair_h3]; unfold fX0_isFair_s3 fX0_isFair_s54
    rw [show (3 : Nat) + 1 = 4 from rfl, h.1.1, if_neg (nI_ge (by omega) (by omega)), show (3 : Nat) + 15 = 18 from rfl, hct, ob_some, igd (by omega) (by decide), nI_clamp (by omega), show (4 : Nat) + 1 + 2 + i = 7 + i from rfl, hwk, igz (by omega) (by omega), pk_rem (by omega) (by omega) (by omega), nI_1]
    have nx : fairOne n x k i = true → fX0_isFair_h3 93 3 x (nI k) u (nI (i + 1)) S = some (b01 (fairTo n x k (n 0))) := fun e => ih (i + 1) u (by omega) (by omega) (by show (fairTo n x k i && _) = true; rw [ht, e]; rfl)
    have hml : cntIn n i k % n (14 + i) < n (14 + i) := Nat.mod_lt _ (by omega)
    by_cases q : ((x >>> (nI i &&& 31)) &&& 1) = 1
    · rw [if_pos q]
      by_cases r : cntIn n i k % n (14 + i) = 0
      · rw [r, if_pos nI_0]; exact nx (by unfold fairOne; rw [decide_eq_true r]; exact Bool.or_true _)
      · rw [if_neg (nI_z (by omega) (by omega))]
        have : fairTo n x k (i + 1) = false := by
          show (fairTo n x k i && fairOne n x k i) = false
          unfold fairOne bitB; rw [decide_eq_true q, decide_eq_false r, ht]; rfl
        have := fairTo_f this m
        rw [show n 0 = i + 1 + m by omega, this]; rfl
    · rw [if_neg q]; exact nx (by unfold fairOne bitB; rw [decide_eq_false q]; rfl)
theorem l_findFair {S : St} {n : Nat → Nat} (hw : WFn n) (h : CW S n) {x : Int32} : ∀ m i u : Nat, i + m = 2521 → m < u → (∀ j, j < i → fairTo n x j (n 0) = false) → ∃ r, fX0_findFair_h2 93 3 x u (nI i) S = some r ∧ Fst (fun j => fairTo n x j (n 0)) 2521 r := by
  intro m
  induction m with
  | zero =>
    intro i u hi hu hn
    obtain ⟨u, rfl⟩ : ∃ k', u = k' + 1 := ⟨u - 1, by omega⟩
    rw [fX0_findFair_h2]; unfold fX0_findFair_s2
    rw [if_pos (show (2520 : Int32) < nI i from nI_lt (a := 2520) (by omega) (by omega))]
    exact ⟨_, rfl, Fst_no (fun j hj => hn j (by omega))⟩
  | succ m ih =>
    intro i u hi hu hn
    obtain ⟨u, rfl⟩ : ∃ k', u = k' + 1 := ⟨u - 1, by omega⟩
    have h0 := hw.1
    rw [fX0_findFair_h2]; unfold fX0_findFair_s2 fX0_isFair
    rw [if_neg (show ¬ (2520 : Int32) < nI i from Int32.not_lt.mpr (nI_le (b := 2520) (by omega) (by omega))), show (0 : Int32) = nI 0 from rfl, l_isFair hw h (by omega) (n 0) 0 NN (by omega) (by unfold NN; omega) rfl, ob_some, show nI 0 = (0 : Int32) from rfl, if01, nI_1]
    by_cases q : fairTo n x i (n 0) = true
    · rw [if_pos q]; exact ⟨_, rfl, Fst_at (P := fun j => fairTo n x j (n 0)) (by omega) q hn⟩
    · rw [if_neg q]
      exact ih (i + 1) u (by omega) (by omega) (fun j hj => by
        rcases Nat.lt_or_ge j i with q2 | q2
        · exact hn j q2
        · rw [show j = i by omega]; exact bnot q)
theorem m_bitOf {S : St} {x : Int32} {p : Nat} : fX11_bitOf x (nI p) S = b01 (bitB x p) := by
  unfold fX11_bitOf bitB
  by_cases q : ((x >>> (nI p &&& 31)) &&& 1) = 1
  · rw [if_pos q, decide_eq_true q]; rfl
  · rw [if_neg q, decide_eq_false q]; rfl
theorem l_fairIn {S : St} {n : Nat → Nat} (hw : WFn n) (h : MR S n) {x : Int32} {k : Nat} (hk : k ≤ 2600) (K : Int32 → St → Option (Int32 × St)) : ∀ m i u : Nat, i + m = n 0 → m < u → fX11_fair_h37 K 140 x u (nI k) (b01 (fairTo n x k i)) (nI i) S = if fairTo n x k (n 0) = true then some (nI k, S) else K (nI (k + 1)) S := by
  have h0 := hw.1
  have e0 : gA S 29 (140 + 2) 0 = nI (n 0) := h 0 (by omega)
  intro m
  induction m with
  | zero =>
    intro i u hi hu
    obtain ⟨u, rfl⟩ : ∃ k', u = k' + 1 := ⟨u - 1, by omega⟩
    rw [fX11_fair_h37]; unfold fX11_fair_s37
    rw [e0, if_pos (nI_le (by omega) (by omega)), if01, nI_1, show n 0 = i by omega]
  | succ m ih =>
    intro i u hi hu
    obtain ⟨u, rfl⟩ : ∃ k', u = k' + 1 := ⟨u - 1, by omega⟩
    obtain ⟨w, hW1, hW2, hcl⟩ := hw.2.1 i (by omega)
    have hct := m_ahead h (p := i) (k := k) (by omega) (by omega)
    have hl := cnt_le hw (p := i) (k := k) (by omega)
    have hwk : gA S 29 (140 + 2) (14 + i) = nI (n (14 + i)) := h _ (by omega)
    have hml : cntIn n i k % n (14 + i) < n (14 + i) := Nat.mod_lt _ (by omega)
    rw [fX11_fair_h37]; unfold fX11_fair_s37
    rw [e0, if_neg (nI_ge (by omega) (by omega)), if01, m_bitOf, if01, hct, ob_some, show (14 : Int32) + nI i = nI (14 + i) from nI_add 14 i, igd (by omega) (by decide), nI_clamp (by omega), hwk, igz (by omega) (by omega), pk_rem (by omega) (by omega) (by omega), nI_1]
    have e := ih (i + 1) u (by omega) (by omega)
    rw [show fairTo n x k (i + 1) = (fairTo n x k i && fairOne n x k i) from rfl] at e
    by_cases q : fairTo n x k i = true
    · rw [if_pos q]
      rw [q, Bool.true_and] at e
      unfold fairOne at e
      by_cases q2 : bitB x i = true
      · rw [if_pos q2]
        rw [q2] at e
        by_cases r : cntIn n i k % n (14 + i) = 0
        · rw [decide_eq_true r] at e; rw [r, if_pos nI_0]; exact e
        · rw [decide_eq_false r] at e; rw [if_neg (nI_z (by omega) (by omega))]; exact e
      · rw [if_neg q2]; rw [bnot q2] at e; exact e
    · rw [if_neg q]; rw [bnot q] at e; exact e
theorem l_fairOut {S : St} {n : Nat → Nat} (hw : WFn n) (h : MR S n) {x : Int32} : ∀ m i u : Nat, i + m = 2530 → m < u → (∀ j, j < i → fairTo n x j (n 0) = false) → ∃ r, fX11_fair_h25 140 x u (nI i) S = some (r, S) ∧ Fst (fun j => fairTo n x j (n 0)) 2530 r := by
  intro m
  induction m with
  | zero =>
    intro i u hi hu hn
    obtain ⟨u, rfl⟩ : ∃ k', u = k' + 1 := ⟨u - 1, by omega⟩
    rw [fX11_fair_h25]; unfold fX11_fair_s25
    rw [if_pos (show (2530 : Int32) ≤ nI i from nI_le (a := 2530) (by omega) (by omega))]
    exact ⟨_, rfl, Fst_no (fun j hj => hn j (by omega))⟩
  | succ m ih =>
    intro i u hi hu hn
    obtain ⟨u, rfl⟩ : ∃ k', u = k' + 1 := ⟨u - 1, by omega⟩
    have h0 := hw.1
    rw [fX11_fair_h25]; unfold fX11_fair_s25
    have e := l_fairIn hw h (x := x) (k := i) (by omega) (fX11_fair_h25 140 x u) (n 0) 0 NN (by omega) (by unfold NN; omega)
    rw [show b01 (fairTo n x i 0) = 1 from rfl] at e
    rw [if_neg (show ¬ (2530 : Int32) ≤ nI i from nI_ge (b := 2530) (by omega) (by omega)), show (0 : Int32) = nI 0 from rfl, e]
    by_cases q : fairTo n x i (n 0) = true
    · rw [if_pos q]; exact ⟨_, rfl, Fst_at (P := fun j => fairTo n x j (n 0)) (by omega) q hn⟩
    · rw [if_neg q]
      exact ih (i + 1) u (by omega) (by omega) (fun j hj => by
        rcases Nat.lt_or_ge j i with q2 | q2
        · exact hn j q2
        · rw [show j = i by omega]; exact bnot q)
theorem wk_2520 {W a : Nat} (h1 : 2 ≤ W) (h2 : W ≤ 9) : (a + 2520) % W = a % W := by
  have : W = 2 ∨ W = 3 ∨ W = 4 ∨ W = 5 ∨ W = 6 ∨ W = 7 ∨ W = 8 ∨ W = 9 := by omega
  rcases this with rfl | rfl | rfl | rfl | rfl | rfl | rfl | rfl <;> omega
theorem fair_per {n : Nat → Nat} (hw : WFn n) {x : Int32} {k : Nat} (hk : 0 < k) : ∀ i, i ≤ n 0 → fairTo n x (k + 2520) i = fairTo n x k i := by
  intro i
  induction i with
  | zero => intro _; rfl
  | succ i ih =>
    intro hi
    obtain ⟨w, hW1, hW2, hcl⟩ := hw.2.1 i (by omega)
    show (fairTo n x (k + 2520) i && fairOne n x (k + 2520) i) = (fairTo n x k i && fairOne n x k i)
    rw [ih (by omega)]
    unfold fairOne
    rw [cnt_step hk (show k ≤ k + 2520 by omega), show k + 2520 - k = 2520 by omega, wk_2520 hW1 hW2]
theorem fair_Fst {n : Nat → Nat} (hw : WFn n) {x r r' : Int32} (h : Fst (fun j => fairTo n x j (n 0)) 2521 r) (h' : Fst (fun j => fairTo n x j (n 0)) 2530 r') : r = r' := by
  refine Fst_un (P := fun j => fairTo n x j (n 0)) (N := 2530) ?_ h'
  rcases h with ⟨i, hi, p1, p2, p3⟩ | ⟨p, p3⟩
  · exact Or.inl ⟨i, by omega, p1, p2, p3⟩
  · refine Or.inr ⟨fun j hj => ?_, p3⟩
    rcases Nat.lt_or_ge j 2521 with q | q
    · exact p j q
    · have e := fair_per hw (x := x) (k := j - 2520) (by omega) (n 0) (Nat.le_refl _)
      rw [show j - 2520 + 2520 = j by omega] at e
      show fairTo n x j (n 0) = false
      rw [e]; exact p (j - 2520) (by omega)
theorem q_fair {S : St} {n : Nat → Nat} (hw : WFn n) (h : CW S n) (h' : MR S n) (x1 : Int32) : ∃ r, fX10_fair 0 x1 S = some r ∧ fX11_fair 140 x1 S = some (r, sI S 11 0 140 0) := by
  have h2 : MR (sI S 11 0 140 0) n := h'
  have e0 : gA (sI S 11 0 140 0) 29 (140 + 2) 0 = nI (n 0) := h2 0 (by omega)
  unfold fX10_fair fX11_fair fX11_fair_s5
  rw [e0, show (0 : Nat) + 3 + 1 = 4 from rfl, h.1.1]
  by_cases a1 : x1 ≤ 0
  · rw [if_pos a1, if_pos a1]; exact ⟨_, rfl, rfl⟩
  rw [if_neg a1, if_neg a1]
  by_cases a2 : (1 : Int32) <<< (nI (n 0) &&& 31) ≤ x1
  · rw [if_pos a2, if_neg (Int32.not_lt.mpr a2)]; exact ⟨_, rfl, rfl⟩
  rw [if_neg a2, if_pos (Int32.not_le.mp a2)]
  obtain ⟨r, r1, r2⟩ := l_findFair hw h (x := x1) 2521 0 NN (by omega) (by unfold NN; omega) (fun j hj => by omega)
  obtain ⟨r', r3, r4⟩ := l_fairOut hw h2 (x := x1) 2530 0 NN (by omega) (by unfold NN; omega) (fun j hj => by omega)
  unfold fX0_findFair
  have r1' : fX0_findFair_h2 93 3 x1 NN 0 S = some r := r1
  have r3' : fX11_fair_h25 140 x1 NN 0 (sI S 11 0 140 0) = some (r', sI S 11 0 140 0) := r3
  rw [show (0 : Nat) + 93 = 93 from rfl, show (0 : Nat) + 3 = 3 from rfl, r1', r3', ob_some, fair_Fst hw r2 r4]
  exact ⟨_, rfl, rfl⟩
-- now
def bitsP (P : Nat → Bool) : Nat → Int32
  | 0 => 0
  | k + 1 => bitsP P k ||| (if P k = true then (1 : Int32) <<< (nI k &&& 31) else 0)
theorem bitsP_t {P : Nat → Bool} {k : Nat} (h : P k = true) : bitsP P (k + 1) = bitsP P k ||| (1 : Int32) <<< (nI k &&& 31) := by
  show _ ||| (if P k = true then _ else _) = _; rw [if_pos h]
theorem bitsP_f {P : Nat → Bool} {k : Nat} (h : ¬ P k = true) : bitsP P (k + 1) = bitsP P k ||| 0 := by
  show _ ||| (if P k = true then _ else _) = _; rw [if_neg h]
theorem l_feastsToday {S : St} {n : Nat → Nat} (hw : WFn n) (h : CW S n) : ∀ m i u : Nat, i + m = n 1 → m < u → fX9_feastsToday_h4 3 u (bitsP (fun f => fallB n f 0) i) (nI i) S = some (bitsP (fun f => fallB n f 0) (n 1)) := by
  have h0 := hw.1
  intro m
  induction m with
  | zero =>
    intro i u hi hu
    obtain ⟨u, rfl⟩ : ∃ k', u = k' + 1 := ⟨u - 1, by omega⟩
    rw [fX9_feastsToday_h4]; unfold fX9_feastsToday_s4
    rw [show (3 : Nat) + 1 = 4 from rfl, h.1.2.1, if_pos (nI_le (by omega) (by omega)), show n 1 = i by omega]
  | succ m ih =>
    intro i u hi hu
    obtain ⟨u, rfl⟩ : ∃ k', u = k' + 1 := ⟨u - 1, by omega⟩
    rw [fX9_feastsToday_h4]; unfold fX9_feastsToday_s4 fX9_feastsToday_s30
    rw [show (3 : Nat) + 1 = 4 from rfl, h.1.2.1, if_neg (nI_ge (by omega) (by omega)), show fX9_fallsOn 3 (nI i) 0 S = some (b01 (fallB n i 0)) from c_fallsOn hw h (k := 0) (show i < n 1 by omega) (by omega), ob_some, if01, nI_1]
    have e := ih (i + 1) u (by omega) (by omega)
    by_cases q : fallB n i 0 = true
    · rw [if_pos q]; rw [bitsP_t (P := fun f => fallB n f 0) q] at e; exact e
    · rw [if_neg q]; rw [bitsP_f (P := fun f => fallB n f 0) q, Int32.or_zero] at e; exact e
def wk0 (n : Nat → Nat) (p : Nat) : Bool := decide (n (54 + p) % n (14 + p) = 0)
def btw (n : Nat → Nat) (p : Nat) : Bool := decide (n (4 + p) * n (9 + p) ≤ dyq n p (n (54 + p)))
theorem l_firstWeekdays {S : St} {n : Nat → Nat} (hw : WFn n) (h : CW S n) : ∀ m i u : Nat, i + m = n 0 → m < u → fX9_firstWeekdays_h4 3 u (bitsP (wk0 n) i) (nI i) S = some (bitsP (wk0 n) (n 0)) := by
  have h0 := hw.1
  intro m
  induction m with
  | zero =>
    intro i u hi hu
    obtain ⟨u, rfl⟩ : ∃ k', u = k' + 1 := ⟨u - 1, by omega⟩
    rw [fX9_firstWeekdays_h4]; unfold fX9_firstWeekdays_s4
    rw [show (3 : Nat) + 1 = 4 from rfl, h.1.1, if_pos (nI_le (by omega) (by omega)), show n 0 = i by omega]
  | succ m ih =>
    intro i u hi hu
    obtain ⟨u, rfl⟩ : ∃ k', u = k' + 1 := ⟨u - 1, by omega⟩
    obtain ⟨w, hW1, hW2, hcl⟩ := hw.2.1 i (by omega)
    have hwk := (h.2.1 i (by omega)).2.2.2.2
    have hc := h.2.2.2.2 i (by omega)
    have hml : n (54 + i) % n (14 + i) < n (14 + i) := Nat.mod_lt _ (by omega)
    rw [fX9_firstWeekdays_h4]; unfold fX9_firstWeekdays_s4 fX9_firstWeekdays_s46
    rw [show (3 : Nat) + 1 = 4 from rfl, h.1.1, if_neg (nI_ge (by omega) (by omega)), igd (by omega) (by decide), igd (by omega) (by decide), nI_clamp (by omega), show (4 : Nat) + 1 + 2 + i = 7 + i from rfl, show (3 : Nat) + 15 + 1 = 19 from rfl, hwk, hc, igz (by omega) (by omega), pk_rem (by omega) (by omega) (by omega), nI_1]
    have e := ih (i + 1) u (by omega) (by omega)
    by_cases q : n (54 + i) % n (14 + i) = 0
    · rw [q, if_pos nI_0]; rw [bitsP_t (P := wk0 n) (decide_eq_true q)] at e; exact e
    · rw [if_neg (nI_z (by omega) (by omega))]; rw [bitsP_f (P := wk0 n) (by unfold wk0; rw [decide_eq_false q]; decide), Int32.or_zero] at e; exact e
theorem l_betweenToday {S : St} {n : Nat → Nat} (hw : WFn n) (h : CW S n) : ∀ m i u : Nat, i + m = n 0 → m < u → fX9_betweenToday_h4 3 u (bitsP (btw n) i) (nI i) S = some (bitsP (btw n) (n 0)) := by
  have h0 := hw.1
  intro m
  induction m with
  | zero =>
    intro i u hi hu
    obtain ⟨u, rfl⟩ : ∃ k', u = k' + 1 := ⟨u - 1, by omega⟩
    rw [fX9_betweenToday_h4]; unfold fX9_betweenToday_s4
    rw [show (3 : Nat) + 1 = 4 from rfl, h.1.1, if_pos (nI_le (by omega) (by omega)), show n 0 = i by omega]
  | succ m ih =>
    intro i u hi hu
    obtain ⟨u, rfl⟩ : ∃ k', u = k' + 1 := ⟨u - 1, by omega⟩
    obtain ⟨w, hW1, hW2, hcl⟩ := hw.2.1 i (by omega)
    have hc := h.2.2.2.2 i (by omega)
    have hb := c_isBetween (c := n (54 + i)) (h.2.1 i (by omega)) w (by omega)
    rw [fX9_betweenToday_h4]; unfold fX9_betweenToday_s4 fX9_betweenToday_s45
    rw [show (3 : Nat) + 1 = 4 from rfl, h.1.1, if_neg (nI_ge (by omega) (by omega)), igd (by omega) (by decide), igd (by omega) (by decide), nI_clamp (by omega), show (4 : Nat) + 1 + 2 + i = 7 + i from rfl, show (3 : Nat) + 15 + 1 = 19 from rfl, hc, hb, ob_some, if01, nI_1]
    have e := ih (i + 1) u (by omega) (by omega)
    by_cases q : n (4 + i) * n (9 + i) ≤ dyOf (n (4 + i)) (n (9 + i)) (n (24 + i)) (n (29 + i)) (n (54 + i))
    · rw [if_pos (decide_eq_true q)]; rw [bitsP_t (P := btw n) (decide_eq_true q)] at e; exact e
    · rw [if_neg (by rw [decide_eq_false q]; decide)]; rw [bitsP_f (P := btw n) (by unfold btw dyq; rw [decide_eq_false q]; decide), Int32.or_zero] at e; exact e
theorem dt_btw {M D U E : Nat} (w : PW M D U E) (c : Nat) : dtOf M D U E c / 32 = M ↔ M * D ≤ dyOf M D U E c := by
  have hd := dy_lt w c
  obtain ⟨w1, w2, w3, w4, w5, w6, w7⟩ := w
  unfold dtOf
  generalize dyOf M D U E c = d at hd
  by_cases q : d < M * D
  · have h1 : d / D < M := Nat.div_lt_of_lt_mul (by rw [Nat.mul_comm]; exact q)
    have h2 : d % D < D := Nat.mod_lt _ (by omega)
    rw [if_pos q]
    omega
  · rw [if_neg q]
    omega
theorem m_isBetween {S : St} {n : Nat → Nat} (hw : WFn n) (h : MR S n) {p : Nat} (hp : p < n 0) : fX11_isBetween 140 (nI p) S = some (b01 (btw n p)) := by
  have h0 := hw.1
  obtain ⟨w, hW1, hW2, hcl⟩ := hw.2.1 p hp
  have hm : gA S 29 (140 + 2) (4 + p) = nI (n (4 + p)) := h _ (by omega)
  have hdl := dt_lt w (n (54 + p))
  have hd := dt_btw w (n (54 + p))
  unfold fX11_isBetween
  rw [m_today hw h hp, ob_some, show (4 : Int32) + nI p = nI (4 + p) from nI_add 4 p, igd (by omega) (by decide), nI_clamp (by omega), hm, show (32 : Int32) = nI 32 from rfl]
  unfold dtq
  rw [pk_div (by omega) (by omega) (by omega), b01_if]
  congr 2
  unfold btw dyq
  rw [decide_eq_decide, nI_eq (by omega) (by obtain ⟨w1, w2, -⟩ := w; omega)]
  exact hd
theorem m_weekday {S : St} {n : Nat → Nat} (hw : WFn n) (h : MR S n) {p : Nat} (hp : p < n 0) : fX11_weekday 140 (nI p) S = some (nI (n (54 + p) % n (14 + p))) := by
  have h0 := hw.1
  obtain ⟨w, hW1, hW2, hcl⟩ := hw.2.1 p hp
  have hc : gA S 29 (140 + 2) (54 + p) = nI (n (54 + p)) := h _ (by omega)
  have hk : gA S 29 (140 + 2) (14 + p) = nI (n (14 + p)) := h _ (by omega)
  unfold fX11_weekday
  rw [show (54 : Int32) + nI p = nI (54 + p) from nI_add 54 p, igd (by omega) (by decide), nI_clamp (by omega), show (14 : Int32) + nI p = nI (14 + p) from nI_add 14 p, igd (by omega) (by decide), nI_clamp (by omega), hc, hk, igz (by omega) (by omega), pk_rem (by omega) (by omega) (by omega)]
/-- the days HELD and SKIPPED so far, on both sides -/
def HS (S S' : St) (n : Nat → Nat) : Prop := ∀ p, p < n 0 → gA S 16 20 p = gA S' 29 142 (59 + p) ∧ gA S 17 21 p = gA S' 29 142 (64 + p)
def sumP (g : Nat → Int32) : Nat → Int32
  | 0 => 0
  | k + 1 => sumP g k + g k
theorem l_heldInAll {S : St} {n : Nat → Nat} (hn : n 0 ≤ 5) (h : gI S 2 1 18 = nI (n 0)) : ∀ m i u : Nat, i + m = n 0 → m < u → fX2_heldInAll_h4 18 u (sumP (gA S 16 20) i) (nI i) S = some (sumP (gA S 16 20) (n 0)) := by
  intro m
  induction m with
  | zero =>
    intro i u hi hu
    obtain ⟨u, rfl⟩ : ∃ k', u = k' + 1 := ⟨u - 1, by omega⟩
    rw [fX2_heldInAll_h4]; unfold fX2_heldInAll_s4
    rw [h, if_pos (nI_le (by omega) (by omega)), show n 0 = i by omega]
  | succ m ih =>
    intro i u hi hu
    obtain ⟨u, rfl⟩ : ∃ k', u = k' + 1 := ⟨u - 1, by omega⟩
    rw [fX2_heldInAll_h4]; unfold fX2_heldInAll_s4 fX2_heldInAll_s21
    rw [h, if_neg (nI_ge (by omega) (by omega)), igd (by omega) (by decide), nI_clamp (by omega), nI_1]
    exact ih (i + 1) u (by omega) (by omega)
theorem l_skippedInAll {S : St} {n : Nat → Nat} (hn : n 0 ≤ 5) (h : gI S 2 1 18 = nI (n 0)) : ∀ m i u : Nat, i + m = n 0 → m < u → fX2_skippedInAll_h4 18 u (sumP (gA S 17 21) i) (nI i) S = some (sumP (gA S 17 21) (n 0)) := by
  intro m
  induction m with
  | zero =>
    intro i u hi hu
    obtain ⟨u, rfl⟩ : ∃ k', u = k' + 1 := ⟨u - 1, by omega⟩
    rw [fX2_skippedInAll_h4]; unfold fX2_skippedInAll_s4
    rw [h, if_pos (nI_le (by omega) (by omega)), show n 0 = i by omega]
  | succ m ih =>
    intro i u hi hu
    obtain ⟨u, rfl⟩ : ∃ k', u = k' + 1 := ⟨u - 1, by omega⟩
    rw [fX2_skippedInAll_h4]; unfold fX2_skippedInAll_s4 fX2_skippedInAll_s21
    rw [h, if_neg (nI_ge (by omega) (by omega)), igd (by omega) (by decide), nI_clamp (by omega), nI_1]
    exact ih (i + 1) u (by omega) (by omega)
theorem l_sumOf {S : St} {n : Nat → Nat} (hn : n 0 ≤ 5) (h : MR S n) {t : Nat} (ht : t ≤ 100) : ∀ m i u : Nat, i + m = n 0 → m < u → fX11_sumOf_h4 140 (nI t) u (sumP (fun p => gA S 29 142 (t + p)) i) (nI i) S = some (sumP (fun p => gA S 29 142 (t + p)) (n 0)) := by
  have e0 : gA S 29 (140 + 2) 0 = nI (n 0) := h 0 (by omega)
  intro m
  induction m with
  | zero =>
    intro i u hi hu
    obtain ⟨u, rfl⟩ : ∃ k', u = k' + 1 := ⟨u - 1, by omega⟩
    rw [fX11_sumOf_h4]; unfold fX11_sumOf_s4
    rw [e0, if_pos (nI_le (by omega) (by omega)), show n 0 = i by omega]
  | succ m ih =>
    intro i u hi hu
    obtain ⟨u, rfl⟩ : ∃ k', u = k' + 1 := ⟨u - 1, by omega⟩
    rw [fX11_sumOf_h4]; unfold fX11_sumOf_s4 fX11_sumOf_s25
    rw [e0, if_neg (nI_ge (by omega) (by omega)), nI_add, igd (by omega) (by decide), nI_clamp (by omega), nI_1]
    exact ih (i + 1) u (by omega) (by omega)
theorem sumP_eq {g g' : Nat → Int32} {k : Nat} (h : ∀ p, p < k → g p = g' p) : sumP g k = sumP g' k := by
  induction k with
  | zero => rfl
  | succ k ih => show sumP g k + g k = sumP g' k + g' k; rw [ih (fun p hp => h p (by omega)), h k (by omega)]
theorem l_nowR {S : St} {n : Nat → Nat} (hw : WFn n) (h : MR S n) {x : Int32} {a : Int32} : ∀ m i u : Nat, i + m = n 0 → m < u → fX11_now_h56 140 x u a (bitsP (wk0 n) i) (bitsP (btw n) i) (nI i) S = if x = 0 then some (nI (n 52), S) else if x = 1 then some (nI (n 53), S) else if x = 2 then some (a, S) else if x = 3 then some (bitsP (wk0 n) (n 0), S) else if x = 4 then some (bitsP (btw n) (n 0), S) else if x = 5 then some (sumP (fun p => gA S 29 142 (59 + p)) (n 0), S) else if x = 6 then some (sumP (fun p => gA S 29 142 (64 + p)) (n 0), S) else some (-1, S) := by
  have h0 := hw.1
  have e0 : gA S 29 (140 + 2) 0 = nI (n 0) := h 0 (by omega)
  have e52 : gA S 29 (140 + 2) 52 = nI (n 52) := h 52 (by omega)
  have e53 : gA S 29 (140 + 2) 53 = nI (n 53) := h 53 (by omega)
  intro m
  induction m with
  | zero =>
    intro i u hi hu
    obtain ⟨u, rfl⟩ : ∃ k', u = k' + 1 := ⟨u - 1, by omega⟩
    rw [fX11_now_h56]; unfold fX11_now_s56 fX11_sumOf
    have s1 : fX11_sumOf_h4 140 59 NN 0 0 S = some (sumP (fun p => gA S 29 142 (59 + p)) (n 0)) := l_sumOf h0.1 h (t := 59) (by omega) (n 0) 0 NN (by omega) (by unfold NN; omega)
    have s2 : fX11_sumOf_h4 140 64 NN 0 0 S = some (sumP (fun p => gA S 29 142 (64 + p)) (n 0)) := l_sumOf h0.1 h (t := 64) (by omega) (n 0) 0 NN (by omega) (by unfold NN; omega)
    rw [e0, if_pos (nI_le (by omega) (by omega)), e52, e53, s1, s2, ob_some, ob_some, show n 0 = i by omega]
  | succ m ih =>
    intro i u hi hu
    obtain ⟨u, rfl⟩ : ∃ k', u = k' + 1 := ⟨u - 1, by omega⟩
    obtain ⟨w, hW1, hW2, hcl⟩ := hw.2.1 i (by omega)
    have hml : n (54 + i) % n (14 + i) < n (14 + i) := Nat.mod_lt _ (by omega)
    rw [fX11_now_h56]; unfold fX11_now_s56 fX11_now_s87 fX11_now_s109
    rw [e0, if_neg (nI_ge (by omega) (by omega)), m_weekday hw h (by omega), ob_some, m_isBetween hw h (by omega), ob_some, ob_some, if01, if01, nI_1]
    have e := ih (i + 1) u (by omega) (by omega)
    by_cases q : n (54 + i) % n (14 + i) = 0
    · rw [q, if_pos nI_0]
      rw [bitsP_t (P := wk0 n) (decide_eq_true q)] at e
      by_cases r : btw n i = true
      · rw [if_pos r]; rw [bitsP_t r] at e; exact e
      · rw [if_neg r]; rw [bitsP_f r] at e; exact e
    · rw [if_neg (nI_z (by omega) (by omega))]
      rw [bitsP_f (P := wk0 n) (by unfold wk0; rw [decide_eq_false q]; decide)] at e
      by_cases r : btw n i = true
      · rw [if_pos r]; rw [bitsP_t r] at e; exact e
      · rw [if_neg r]; rw [bitsP_f r] at e; exact e
theorem l_nowF {S : St} {n : Nat → Nat} (hw : WFn n) (h : MR S n) {x : Int32} : ∀ m i u : Nat, i + m = n 1 → m < u → fX11_now_h15 140 x u (bitsP (fun f => fallB n f 0) i) 0 0 (nI i) S = fX11_now_h56 140 x NN (bitsP (fun f => fallB n f 0) (n 1)) 0 0 0 S := by
  have h0 := hw.1
  have e1 : gA S 29 (140 + 2) 1 = nI (n 1) := h 1 (by omega)
  intro m
  induction m with
  | zero =>
    intro i u hi hu
    obtain ⟨u, rfl⟩ : ∃ k', u = k' + 1 := ⟨u - 1, by omega⟩
    rw [fX11_now_h15]; unfold fX11_now_s15
    rw [e1, if_pos (nI_le (by omega) (by omega)), show n 1 = i by omega]
  | succ m ih =>
    intro i u hi hu
    obtain ⟨u, rfl⟩ : ∃ k', u = k' + 1 := ⟨u - 1, by omega⟩
    rw [fX11_now_h15]; unfold fX11_now_s15 fX11_now_s47
    have e := ih (i + 1) u (by omega) (by omega)
    rw [e1, if_neg (nI_ge (by omega) (by omega))]
    have e2 := m_fallsIn hw h (f := i) (k := 0) (by omega) (by omega)
    rw [show nI 0 = (0 : Int32) from rfl] at e2
    rw [e2, ob_some, if01, nI_1]
    by_cases q : fallB n i 0 = true
    · rw [if_pos q]; rw [bitsP_t (P := fun f => fallB n f 0) q] at e; exact e
    · rw [if_neg q]; rw [bitsP_f (P := fun f => fallB n f 0) q] at e; exact e
theorem q_now {S : St} {n : Nat → Nat} (hw : WFn n) (h : CW S n) (h' : MR S n) (hs : HS S S n) (x1 : Int32) : ∃ r, fX10_now 0 x1 S = some r ∧ fX11_now 140 x1 S = some (r, sI S 11 0 140 0) := by
  have h0 := hw.1
  have h2 : MR (sI S 11 0 140 0) n := h'
  have e1 := l_nowF hw h2 (x := x1) (n 1) 0 NN (by omega) (by unfold NN; omega)
  have e2 := l_nowR hw h2 (x := x1) (a := bitsP (fun f => fallB n f 0) (n 1)) (n 0) 0 NN (by omega) (by unfold NN; omega)
  unfold fX11_now fX11_now_s5
  rw [show bitsP (fun f => fallB n f 0) 0 = 0 from rfl, show nI 0 = (0 : Int32) from rfl] at e1
  rw [show bitsP (wk0 n) 0 = 0 from rfl, show bitsP (btw n) 0 = 0 from rfl, show nI 0 = (0 : Int32) from rfl] at e2
  rw [e1, e2]
  have c1 := l_feastsToday hw h (n 1) 0 NN (by omega) (by unfold NN; omega)
  have c2 := l_firstWeekdays hw h (n 0) 0 NN (by omega) (by unfold NN; omega)
  have c3 := l_betweenToday hw h (n 0) 0 NN (by omega) (by unfold NN; omega)
  have c4 := l_heldInAll h0.1 h.2.2.2.1.2.2 (n 0) 0 NN (by omega) (by unfold NN; omega)
  have c5 := l_skippedInAll h0.1 h.2.2.2.1.2.2 (n 0) 0 NN (by omega) (by unfold NN; omega)
  have s1 : sumP (gA S 16 20) (n 0) = sumP (fun p => gA (sI S 11 0 140 0) 29 142 (59 + p)) (n 0) := sumP_eq (fun p hp => (hs p hp).1)
  have s2 : sumP (gA S 17 21) (n 0) = sumP (fun p => gA (sI S 11 0 140 0) 29 142 (64 + p)) (n 0) := sumP_eq (fun p hp => (hs p hp).2)
  rw [show bitsP (fun f => fallB n f 0) 0 = 0 from rfl, show nI 0 = (0 : Int32) from rfl] at c1
  rw [show bitsP (wk0 n) 0 = 0 from rfl, show nI 0 = (0 : Int32) from rfl] at c2
  rw [show bitsP (btw n) 0 = 0 from rfl, show nI 0 = (0 : Int32) from rfl] at c3
  rw [show sumP (gA S 16 20) 0 = 0 from rfl, show nI 0 = (0 : Int32) from rfl] at c4
  rw [show sumP (gA S 17 21) 0 = 0 from rfl, show nI 0 = (0 : Int32) from rfl] at c5
  unfold fX10_now fX9_feastsToday fX9_firstWeekdays fX9_betweenToday fX2_heldInAll fX2_skippedInAll
  rw [show (0 : Nat) + 3 + 15 = 18 from rfl, show (0 : Nat) + 3 = 3 from rfl, c1, c2, c3, c4, c5, h.2.2.2.1.1, h.2.2.2.1.2.1, s1, s2]
  by_cases q0 : x1 = 0
  · rw [if_pos q0, if_pos q0]; exact ⟨_, rfl, rfl⟩
  rw [if_neg q0, if_neg q0]
  by_cases q1 : x1 = 1
  · rw [if_pos q1, if_pos q1]; exact ⟨_, rfl, rfl⟩
  rw [if_neg q1, if_neg q1]
  by_cases q2 : x1 = 2
  · rw [if_pos q2, if_pos q2]; exact ⟨_, rfl, rfl⟩
  rw [if_neg q2, if_neg q2]
  by_cases q3 : x1 = 3
  · rw [if_pos q3, if_pos q3]; exact ⟨_, rfl, rfl⟩
  rw [if_neg q3, if_neg q3]
  by_cases q4 : x1 = 4
  · rw [if_pos q4, if_pos q4]; exact ⟨_, rfl, rfl⟩
  rw [if_neg q4, if_neg q4]
  by_cases q5 : x1 = 5
  · rw [if_pos q5, if_pos q5]; exact ⟨_, rfl, rfl⟩
  rw [if_neg q5, if_neg q5]
  by_cases q6 : x1 = 6
  · rw [if_pos q6, if_pos q6]; exact ⟨_, rfl, rfl⟩
  rw [if_neg q6, if_neg q6]; exact ⟨_, rfl, rfl⟩
