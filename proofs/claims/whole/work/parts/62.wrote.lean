-- wrote, ago, parish, drift
def lS (S : St) : Nat → St
  | 0 => S
  | i + 1 => sA (lS S i) 24 96 i ((gA S 12 2 i) &&& 255)
/-- the class's state behind a letter is taken -/
def lLt (S : St) : St := sI (lS S 3) 6 1 1 0
theorem gA_c {S : St} {c a j c' a' j' : Nat} {v : Int32} (h : c' ≠ c) : gA (sA S c a j v) c' a' j' = gA S c' a' j' := if_neg (fun q => h q.1)
theorem gA_a {S : St} {c a j c' a' j' : Nat} {v : Int32} (h : a' ≠ a) : gA (sA S c a j v) c' a' j' = gA S c' a' j' := if_neg (fun q => h q.2.1)
theorem gA_j {S : St} {c a j c' a' j' : Nat} {v : Int32} (h : j' ≠ j) : gA (sA S c a j v) c' a' j' = gA S c' a' j' := if_neg (fun q => h q.2.2)
theorem gA_s {S : St} {c a j : Nat} {v : Int32} : gA (sA S c a j v) c a j = v := if_pos ⟨rfl, rfl, rfl⟩
theorem lS_c {S : St} {i c a j : Nat} (h : c ≠ 24) : gA (lS S i) c a j = gA S c a j := by
  induction i with
  | zero => rfl
  | succ i ih => show gA (sA (lS S i) 24 96 i _) c a j = _; rw [gA_c h, ih]
theorem lS_gI {S : St} {i c k a : Nat} : gI (lS S i) c k a = gI S c k a := by
  induction i with
  | zero => rfl
  | succ i ih => exact ih
theorem lS_24 {S : St} {i j : Nat} (h : j < i) : gA (lS S i) 24 96 j = (gA S 12 2 j) &&& 255 := by
  induction i with
  | zero => omega
  | succ i ih =>
    show gA (sA (lS S i) 24 96 i _) 24 96 j = _
    by_cases q : j = i
    · subst q; exact gA_s
    · rw [gA_j q, ih (by omega)]
theorem l_take {S : St} {y : Int32} : ∀ m i u : Nat, i + m = 3 → m < u → fX10_takeLetter_h19 0 u y (nI i) (lS S i) = some (vp_nar .boolean y, lLt S) := by
  intro m
  induction m with
  | zero =>
    intro i u hi hu
    obtain ⟨u, rfl⟩ : ∃ k', u = k' + 1 := ⟨u - 1, by omega⟩
    rw [fX10_takeLetter_h19]; unfold fX10_takeLetter_s19 fX10_takeLetter_s57 lLt
    rw [show i = 3 by omega, if_pos (show (3 : Int32) ≤ nI 3 by decide)]
  | succ m ih =>
    intro i u hi hu
    obtain ⟨u, rfl⟩ : ∃ k', u = k' + 1 := ⟨u - 1, by omega⟩
    rw [fX10_takeLetter_h19]; unfold fX10_takeLetter_s19 fX10_takeLetter_s43
    rw [if_neg (show ¬ (3 : Int32) ≤ nI i from nI_ge (b := 3) (by omega) (by omega)), igd (by omega) (by decide), igd (by omega) (by decide), nI_clamp (by omega), nI_1, show (0 : Nat) + 1 + 1 = 2 from rfl, show (0 : Nat) + 96 = 96 from rfl, lS_c (by decide)]
    exact ih (i + 1) u (by omega) (by omega)
theorem c_take {S : St} : fX10_takeLetter 0 S = some (if gI S 6 1 1 = 3 then 1 else 0, lLt S) := by
  unfold fX10_takeLetter
  by_cases q : gI S 6 1 1 = 3
  · rw [if_pos q, if_pos (show gI S 6 1 (0 + 1) = 3 from q)]; exact l_take 3 0 NN (by omega) (by unfold NN; omega)
  · rw [if_neg q, if_neg (show ¬ gI S 6 1 (0 + 1) = 3 from q)]; exact l_take 3 0 NN (by omega) (by unfold NN; omega)
theorem CW_lLt {S : St} {n : Nat → Nat} (h : CW S n) : CW (lLt S) n := CW_of (fun c k a hc => by unfold lLt; rw [gI_c (by omega), lS_gI]) (fun j => lS_c (by decide)) h
/-- a COUNT of parish p is called as the letter says, as far as its first i bytes -/
def lT (b : Nat → Int32) (n : Nat → Nat) (p c : Nat) : Nat → Bool
  | 0 => true
  | i + 1 => lT b n p c i && (decide (b i = 255) || decide (b i = nI (clOf (n (4 + p)) (n (9 + p)) (n (24 + p)) (n (29 + p)) (n (14 + p)) c (i + 1))))
theorem l_isCalled {S : St} {n : Nat → Nat} (hw : WFn n) (h : CW S n) {p c : Nat} (hp : p < n 0) (hc : c < 2 ^ 24) {b : Nat → Int32} (hb : ∀ j, j < 3 → gA S 24 96 j = b j) : ∀ m i u : Nat, i + m = 3 → m < u → lT b n p c i = true → fX0_isCalled_h2 (7 + p) (nI c) 96 u (nI i) S = some (b01 (lT b n p c 3)) := by
  obtain ⟨w, hW1, hW2, hcl⟩ := hw.2.1 p hp
  intro m
  induction m with
  | zero =>
    intro i u hi hu ht
    obtain ⟨u, rfl⟩ : ∃ k', u = k' + 1 := ⟨u - 1, by omega⟩
    rw [fX0_isCalled_h2]; unfold fX0_isCalled_s2
    rw [show i = 3 by omega] at ht ⊢
    rw [if_pos (show (3 : Int32) ≤ nI 3 by decide), ht]; rfl
  | succ m ih =>
    intro i u hi hu ht
    obtain ⟨u, rfl⟩ : ∃ k', u = k' + 1 := ⟨u - 1, by omega⟩
    rw [fX0_isCalled_h2]; unfold fX0_isCalled_s2 fX0_isCalled_s33
    rw [if_neg (show ¬ (3 : Int32) ≤ nI i from nI_ge (b := 3) (by omega) (by omega)), igd (by omega) (by decide), igd (by omega) (by decide), nI_clamp (by omega), nI_1, hb i (by omega), c_called (h.2.1 p hp) w ⟨by omega, hW2⟩ hc (show i + 1 ≤ 3 by omega), ob_some]
    have e1 : lT b n p c (i + 1) = (lT b n p c i && (decide (b i = 255) || decide (b i = nI (clOf (n (4 + p)) (n (9 + p)) (n (24 + p)) (n (29 + p)) (n (14 + p)) c (i + 1))))) := rfl
    rw [ht, Bool.true_and] at e1
    by_cases q : b i = 255
    · rw [if_pos q]; exact ih (i + 1) u (by omega) (by omega) (by rw [e1, decide_eq_true q]; rfl)
    · rw [if_neg q]
      by_cases r : b i = nI (clOf (n (4 + p)) (n (9 + p)) (n (24 + p)) (n (29 + p)) (n (14 + p)) c (i + 1))
      · rw [if_pos r]; exact ih (i + 1) u (by omega) (by omega) (by rw [e1, decide_eq_true r]; exact Bool.or_true _)
      · rw [if_neg r]
        rw [decide_eq_false q, decide_eq_false r] at e1
        have hz : ∀ k, lT b n p c (i + 1 + k) = false := by
          intro k
          induction k with
          | zero => exact e1
          | succ k ihk => show (lT b n p c (i + 1 + k) && _) = false; rw [ihk]; rfl
        have e3 := hz m
        rw [show i + 1 + m = 3 by omega] at e3
        rw [e3]; rfl
theorem c_isCalled {S : St} {n : Nat → Nat} (hw : WFn n) (h : CW S n) {p c : Nat} (hp : p < n 0) (hc : c < 2 ^ 24) {b : Nat → Int32} (hb : ∀ j, j < 3 → gA S 24 96 j = b j) : fX0_isCalled (7 + p) (nI c) 96 S = some (b01 (lT b n p c 3)) := l_isCalled hw h hp hc hb 3 0 NN (by omega) (by unfold NN; omega) rfl
theorem m_isCalled {S : St} {n : Nat → Nat} (hw : WFn n) (h : MR S n) {p c : Nat} (hp : p < n 0) (hc : c < 2 ^ 24) {b : Nat → Int32} (hb : ∀ j, j < 3 → (gA S 28 141 j) &&& 255 = b j) : fX11_isCalled 140 (nI p) (nI c) S = some (b01 (lT b n p c 3)) := by
  have h0 := hw.1
  obtain ⟨w, hW1, hW2, hcl⟩ := hw.2.1 p hp
  have hdl := dt_lt w c
  have hd := m_dated (c := c) (h.mp (p := p) (by omega)) w (by omega) hc
  have hk : gA S 29 (140 + 2) (14 + p) = nI (n (14 + p)) := h _ (by omega)
  have o0 : fX11_octet 140 0 S = some (b 0) := by unfold fX11_octet; rw [if_neg (by decide)]; exact congrArg some (hb 0 (by omega))
  have o1 : fX11_octet 140 1 S = some (b 1) := by unfold fX11_octet; rw [if_neg (by decide)]; exact congrArg some (hb 1 (by omega))
  have o2 : fX11_octet 140 2 S = some (b 2) := by unfold fX11_octet; rw [if_neg (by decide)]; exact congrArg some (hb 2 (by omega))
  unfold fX11_isCalled fX11_isCalled_s30 fX11_isCalled_s53
  rw [hd, ob_some, o0, ob_some, ob_some, o1, ob_some, ob_some, o2, ob_some, ob_some, show (14 : Int32) + nI p = nI (14 + p) from nI_add 14 p, igd (by omega) (by decide), nI_clamp (by omega), hk, igz (by omega) (by omega), show (32 : Int32) = nI 32 from rfl, pk_rem (by omega) (by omega) (by omega), pk_rem (by omega) (by omega) (by omega), pk_div (by omega) (by omega) (by omega)]
  have e0 : lT b n p c 3 = ((decide (b 0 = 255) || decide (b 0 = nI (dtOf (n (4 + p)) (n (9 + p)) (n (24 + p)) (n (29 + p)) c / 32))) && (decide (b 1 = 255) || decide (b 1 = nI (dtOf (n (4 + p)) (n (9 + p)) (n (24 + p)) (n (29 + p)) c % 32))) && (decide (b 2 = 255) || decide (b 2 = nI (c % n (14 + p))))) := by
    show (((true && (_ || _)) && (_ || _)) && (_ || _)) = _
    rw [Bool.true_and]; rfl
  rw [e0]
  generalize nI (dtOf (n (4 + p)) (n (9 + p)) (n (24 + p)) (n (29 + p)) c / 32) = v0
  generalize nI (dtOf (n (4 + p)) (n (9 + p)) (n (24 + p)) (n (29 + p)) c % 32) = v1
  generalize nI (c % n (14 + p)) = v2
  generalize b 0 = b0
  generalize b 1 = b1
  generalize b 2 = b2
  by_cases q0 : b0 = 255 <;> by_cases r0 : b0 = v0 <;> by_cases q1 : b1 = 255 <;> by_cases r1 : b1 = v1 <;> by_cases q2 : b2 = 255 <;> by_cases r2 : b2 = v2 <;> simp [q0, r0, q1, r1, q2, r2, b01]
/-- the reference's state behind a tape is taken -/
def TK (S : St) (m : Int32) : St := fX11_taken 140 m (sI S 11 0 140 0)
theorem TK_gA {S : St} {m : Int32} {c a j : Nat} : gA (TK S m) c a j = gA S c a j := rfl
theorem TK_size {S : St} {m : Int32} : gI (TK S m) 11 3 140 = gI S 11 2 140 := by
  unfold TK fX11_taken fX11_taken_s8 fX11_taken_s13 fX11_taken_s18
  rw [gI_k (by decide), gI_k (by decide), gI_k (by decide), gI_s, gI_k (by decide)]
theorem MR_TK {S : St} {n : Nat → Nat} {m : Int32} (h : MR S n) : MR (TK S m) n := h
theorem l_writers {S : St} {n : Nat → Nat} (hw : WFn n) (h : CW S n) {b : Nat → Int32} (hb : ∀ j, j < 3 → gA S 24 96 j = b j) : ∀ m i u : Nat, i + m = n 0 → m < u → fX0_findWriters_h5 93 3 96 u (bitsP (fun p => lT b n p (n (54 + p)) 3) i) (nI i) S = some (bitsP (fun p => lT b n p (n (54 + p)) 3) (n 0)) := by
  have h0 := hw.1
  intro m
  induction m with
  | zero =>
    intro i u hi hu
    obtain ⟨u, rfl⟩ : ∃ k', u = k' + 1 := ⟨u - 1, by omega⟩
    rw [fX0_findWriters_h5]; unfold fX0_findWriters_s5
    rw [show (3 : Nat) + 1 = 4 from rfl, h.1.1, if_pos (nI_le (by omega) (by omega)), show n 0 = i by omega]
  | succ m ih =>
    intro i u hi hu
    obtain ⟨u, rfl⟩ : ∃ k', u = k' + 1 := ⟨u - 1, by omega⟩
    obtain ⟨w, hW1, hW2, hcl⟩ := hw.2.1 i (by omega)
    have hc : gA S 15 (3 + 15 + 1) i = nI (n (54 + i)) := h.2.2.2.2 i (by omega)
    rw [fX0_findWriters_h5]; unfold fX0_findWriters_s5 fX0_findWriters_s51
    rw [show (3 : Nat) + 1 = 4 from rfl, h.1.1, if_neg (nI_ge (by omega) (by omega)), igd (by omega) (by decide), igd (by omega) (by decide), nI_clamp (by omega), show (4 : Nat) + 1 + 2 + i = 7 + i from rfl, hc, c_isCalled hw h (by omega) (by omega) hb, ob_some, if01, nI_1]
    have e := ih (i + 1) u (by omega) (by omega)
    by_cases q : lT b n i (n (54 + i)) 3 = true
    · rw [if_pos q]; rw [bitsP_t (P := fun p => lT b n p (n (54 + p)) 3) q] at e; exact e
    · rw [if_neg q]; rw [bitsP_f (P := fun p => lT b n p (n (54 + p)) 3) q, Int32.or_zero] at e; exact e
theorem l_wrote {S : St} {n : Nat → Nat} (hw : WFn n) (h : MR S n) {b : Nat → Int32} (hb : ∀ j, j < 3 → (gA S 28 141 j) &&& 255 = b j) : ∀ m i u : Nat, i + m = n 0 → m < u → fX11_wrote_h26 140 u (bitsP (fun p => lT b n p (n (54 + p)) 3) i) (nI i) S = some (bitsP (fun p => lT b n p (n (54 + p)) 3) (n 0), S) := by
  have h0 := hw.1
  have e0 : gA S 29 (140 + 2) 0 = nI (n 0) := h 0 (by omega)
  intro m
  induction m with
  | zero =>
    intro i u hi hu
    obtain ⟨u, rfl⟩ : ∃ k', u = k' + 1 := ⟨u - 1, by omega⟩
    rw [fX11_wrote_h26]; unfold fX11_wrote_s26
    rw [e0, if_pos (nI_le (by omega) (by omega)), show n 0 = i by omega]
  | succ m ih =>
    intro i u hi hu
    obtain ⟨u, rfl⟩ : ∃ k', u = k' + 1 := ⟨u - 1, by omega⟩
    obtain ⟨w, hW1, hW2, hcl⟩ := hw.2.1 i (by omega)
    have hc : gA S 29 (140 + 2) (54 + i) = nI (n (54 + i)) := h _ (by omega)
    rw [fX11_wrote_h26]; unfold fX11_wrote_s26 fX11_wrote_s63
    rw [e0, if_neg (nI_ge (by omega) (by omega)), show (54 : Int32) + nI i = nI (54 + i) from nI_add 54 i, igd (by omega) (by decide), nI_clamp (by omega), hc, m_isCalled hw h (by omega) (by omega) hb, ob_some, if01, nI_1]
    have e := ih (i + 1) u (by omega) (by omega)
    by_cases q : lT b n i (n (54 + i)) 3 = true
    · rw [if_pos q]; rw [bitsP_t (P := fun p => lT b n p (n (54 + p)) 3) q] at e; exact e
    · rw [if_neg q]; rw [bitsP_f (P := fun p => lT b n p (n (54 + p)) 3) q] at e; exact e
/-- the tapes are alike -/
def bB (x : Int32) : Prop := -128 ≤ x.toInt ∧ x.toInt ≤ 127
def TP (S : St) : Prop := ∃ L : Nat, L ≤ 940 ∧ gI S 6 1 1 = nI L ∧ gI S 11 2 140 = nI L ∧ ∀ j, j < 940 → gA S 12 2 j = gA S 28 141 j ∧ bB (gA S 12 2 j)
theorem q_wrote {S : St} {n : Nat → Nat} (hw : WFn n) (h : CW S n) (h' : MR S n) (ht : TP S) : ∃ r, fX10_wrote 0 S = some (r, lLt S) ∧ fX11_wrote 140 (lLt S) = some (r, TK (lLt S) 940) := by
  obtain ⟨L, hL, t1, t2, t3⟩ := ht
  have h0 := hw.1
  have hb1 : ∀ j, j < 3 → gA (lLt S) 24 96 j = (gA S 12 2 j) &&& 255 := fun j hj => lS_24 hj
  have hb2 : ∀ j, j < 3 → (gA (TK (lLt S) 940) 28 141 j) &&& 255 = (gA S 12 2 j) &&& 255 := fun j hj => by
    rw [TK_gA, (t3 j (by omega)).1]; first | rfl | (congr 1; exact lS_c (by decide))
  have hM : MR (TK (lLt S) 940) n := fun j hj => by
    rw [TK_gA]; exact (lS_c (S := S) (i := 3) (by decide)).trans (h' j hj)
  have hs : gI (TK (lLt S) 940) 11 3 140 = nI L := by
    rw [TK_size]; unfold lLt; rw [gI_c (by decide), lS_gI, t2]
  unfold fX10_wrote fX10_wrote_s4 fX11_wrote fX11_wrote_s5 fX11_wrote_s12
  rw [c_take, ob_some, t1]
  show ∃ r, _ ∧ (if gI (TK (lLt S) 940) 11 3 140 = 3 then fX11_wrote_h26 140 NN 0 0 (TK (lLt S) 940) else some (-1, TK (lLt S) 940)) = _
  rw [hs]
  by_cases q : nI L = 3
  · rw [if_pos q, if_pos q, if_neg i10]
    have c1 : fX0_findWriters 93 3 96 (lLt S) = _ := l_writers hw (CW_lLt h) hb1 (n 0) 0 NN (by omega) (by unfold NN; omega)
    rw [show (0 : Nat) + 93 = 93 from rfl, show (0 : Nat) + 3 = 3 from rfl, show (0 : Nat) + 96 = 96 from rfl, c1, ob_some]
    exact ⟨_, rfl, l_wrote hw hM hb2 (n 0) 0 NN (by omega) (by unfold NN; omega)⟩
  · rw [if_neg q, if_neg q, if_pos rfl]; exact ⟨_, rfl, rfl⟩
theorem l_findAgo {S : St} {n : Nat → Nat} (hw : WFn n) (h : CW S n) {p : Nat} (hp : p < n 0) {b : Nat → Int32} (hb : ∀ j, j < 3 → gA S 24 96 j = b j) : ∀ m i u : Nat, i + m = 10000 → m < u → fX0_findAgo_h14 93 3 (nI p) 96 u (nI (n (54 + p))) (nI i) S = some (oI (fstO (fun j => decide (j ≤ n (54 + p)) && lT b n p (n (54 + p) - j) 3) m i) (-1)) ∨ n (54 + p) < i := by
  have h0 := hw.1
  obtain ⟨w, hW1, hW2, hcl⟩ := hw.2.1 p hp
  intro m
  induction m with
  | zero =>
    intro i u hi hu
    obtain ⟨u, rfl⟩ : ∃ k', u = k' + 1 := ⟨u - 1, by omega⟩
    refine Or.inl ?_
    rw [fX0_findAgo_h14]; unfold fX0_findAgo_s14
    rw [if_pos (show (9999 : Int32) < nI i from nI_lt (a := 9999) (by omega) (by omega))]; rfl
  | succ m ih =>
    intro i u hi hu
    obtain ⟨u, rfl⟩ : ∃ k', u = k' + 1 := ⟨u - 1, by omega⟩
    rcases Nat.lt_or_ge (n (54 + p)) i with z | z
    · exact Or.inr z
    refine Or.inl ?_
    rw [fX0_findAgo_h14]; unfold fX0_findAgo_s14
    rw [if_neg (show ¬ (9999 : Int32) < nI i from Int32.not_lt.mpr (nI_le (b := 9999) (by omega) (by omega))), if_neg (nI_nlt z (by omega)), igd (by omega) (by decide), nI_clamp (by omega), pk_sub z, show (3 : Nat) + 1 + 1 + 2 + p = 7 + p from rfl, c_isCalled hw h hp (by omega) hb, ob_some, if01, nI_1]
    unfold fstO
    rw [decide_eq_true z, Bool.true_and]
    by_cases q : lT b n p (n (54 + p) - i) 3 = true
    · rw [if_pos q, if_pos q]; rfl
    · rw [if_neg q, if_neg q]
      rcases ih (i + 1) u (by omega) (by omega) with e | e
      · exact e
      · -- the count is i: nothing is left behind it
        obtain ⟨u, rfl⟩ : ∃ k', u = k' + 1 := ⟨u - 1, by omega⟩
        try dsimp only
        rw [fX0_findAgo_h14]; unfold fX0_findAgo_s14
        have hz : ∀ m' i', n (54 + p) < i' → fstO (fun j => decide (j ≤ n (54 + p)) && lT b n p (n (54 + p) - j) 3) m' i' = none := by
          intro m'
          induction m' with
          | zero => intro i' _; rfl
          | succ m' ihm =>
            intro i' hi'
            unfold fstO
            rw [decide_eq_false (show ¬ i' ≤ n (54 + p) by omega), Bool.false_and, if_neg (by decide)]
            exact ihm (i' + 1) (by omega)
        rw [hz m (i + 1) e]
        by_cases r : (9999 : Int32) < nI (i + 1)
        · rw [if_pos r]; rfl
        · rw [if_neg r, if_pos (nI_lt e (by omega))]; rfl
theorem l_ago {S : St} {n : Nat → Nat} (hw : WFn n) (h : MR S n) {p : Nat} (hp : p < n 0) {b : Nat → Int32} (hb : ∀ j, j < 3 → (gA S 28 141 j) &&& 255 = b j) : ∀ m i u : Nat, i + m = 10000 → m < u → fX11_ago_h32 140 (nI p) u (nI i) S = some (oI (fstO (fun j => decide (j ≤ n (54 + p)) && lT b n p (n (54 + p) - j) 3) m i) (-1), S) ∨ n (54 + p) < i := by
  have h0 := hw.1
  obtain ⟨w, hW1, hW2, hcl⟩ := hw.2.1 p hp
  have hc : gA S 29 (140 + 2) (54 + p) = nI (n (54 + p)) := h _ (by omega)
  intro m
  induction m with
  | zero =>
    intro i u hi hu
    obtain ⟨u, rfl⟩ : ∃ k', u = k' + 1 := ⟨u - 1, by omega⟩
    refine Or.inl ?_
    rw [fX11_ago_h32]; unfold fX11_ago_s32
    rw [if_pos (show (9999 : Int32) < nI i from nI_lt (a := 9999) (by omega) (by omega))]; rfl
  | succ m ih =>
    intro i u hi hu
    obtain ⟨u, rfl⟩ : ∃ k', u = k' + 1 := ⟨u - 1, by omega⟩
    rcases Nat.lt_or_ge (n (54 + p)) i with z | z
    · exact Or.inr z
    refine Or.inl ?_
    rw [fX11_ago_h32]; unfold fX11_ago_s32
    rw [if_neg (show ¬ (9999 : Int32) < nI i from Int32.not_lt.mpr (nI_le (b := 9999) (by omega) (by omega))), show (54 : Int32) + nI p = nI (54 + p) from nI_add 54 p, igd (by omega) (by decide), igd (by omega) (by decide), nI_clamp (by omega), hc, if_neg (nI_nlt z (by omega)), pk_sub z, m_isCalled hw h hp (by omega) hb, ob_some, if01, nI_1]
    unfold fstO
    rw [decide_eq_true z, Bool.true_and]
    by_cases q : lT b n p (n (54 + p) - i) 3 = true
    · rw [if_pos q, if_pos q]; rfl
    · rw [if_neg q, if_neg q]
      rcases ih (i + 1) u (by omega) (by omega) with e | e
      · exact e
      · obtain ⟨u, rfl⟩ : ∃ k', u = k' + 1 := ⟨u - 1, by omega⟩
        rw [fX11_ago_h32]; unfold fX11_ago_s32
        have hz : ∀ m' i', n (54 + p) < i' → fstO (fun j => decide (j ≤ n (54 + p)) && lT b n p (n (54 + p) - j) 3) m' i' = none := by
          intro m'
          induction m' with
          | zero => intro i' _; rfl
          | succ m' ihm =>
            intro i' hi'
            unfold fstO
            rw [decide_eq_false (show ¬ i' ≤ n (54 + p) by omega), Bool.false_and, if_neg (by decide)]
            exact ihm (i' + 1) (by omega)
        rw [hz m (i + 1) e]
        by_cases r : (9999 : Int32) < nI (i + 1)
        · rw [if_pos r]; rfl
        · rw [if_neg r, show (54 : Int32) + nI p = nI (54 + p) from nI_add 54 p, igd (by omega) (by decide), nI_clamp (by omega), hc, if_pos (nI_lt e (by omega))]; rfl
theorem q_ago {S : St} {n : Nat → Nat} (hw : WFn n) (h : CW S n) (h' : MR S n) (ht : TP S) (x1 : Int32) : ∃ r, fX10_ago 0 x1 S = some (r, lLt S) ∧ fX11_ago 140 x1 (lLt S) = some (r, TK (lLt S) 940) := by
  obtain ⟨L, hL, t1, t2, t3⟩ := ht
  have h0 := hw.1
  have hb1 : ∀ j, j < 3 → gA (lLt S) 24 96 j = (gA S 12 2 j) &&& 255 := fun j hj => lS_24 hj
  have hb2 : ∀ j, j < 3 → (gA (TK (lLt S) 940) 28 141 j) &&& 255 = (gA S 12 2 j) &&& 255 := fun j hj => by
    rw [TK_gA, (t3 j (by omega)).1]; first | rfl | (congr 1; exact lS_c (by decide))
  have hM : MR (TK (lLt S) 940) n := fun j hj => by
    rw [TK_gA]; exact (lS_c (S := S) (i := 3) (by decide)).trans (h' j hj)
  have hs : gI (TK (lLt S) 940) 11 3 140 = nI L := by
    rw [TK_size]; unfold lLt; rw [gI_c (by decide), lS_gI, t2]
  unfold fX10_ago fX10_ago_s4 fX11_ago fX11_ago_s5 fX11_ago_s12
  rw [c_take, ob_some, t1]
  show ∃ r, _ ∧ (if gI (TK (lLt S) 940) 11 3 140 = 3 then (fX11_isParish 140 x1 (TK (lLt S) 940)).bind (fun r_2 => if r_2 = 0 then some (-1, TK (lLt S) 940) else fX11_ago_h32 140 x1 NN 0 (TK (lLt S) 940)) else some (-1, TK (lLt S) 940)) = _
  rw [hs]
  by_cases q : nI L = 3
  · rw [if_pos q, if_pos q, if_neg i10]
    rcases px (CW_lLt h) hM h0.1 x1 with ⟨p, hp, rfl, e1, e2⟩ | ⟨e1, e2⟩
    · have hc : gA (lLt S) 15 (3 + 15 + 1) p = nI (n (54 + p)) := (CW_lLt h).2.2.2.2 p hp
      have c1 := l_findAgo hw (CW_lLt h) hp hb1 10000 0 NN (by omega) (by unfold NN; omega)
      have m1 := l_ago hw hM hp hb2 10000 0 NN (by omega) (by unfold NN; omega)
      unfold fX0_findAgo fX0_findAgo_s11
      rw [if_neg (show ¬ fX8_hasParish (0 + 3 + 1) (nI p) (lLt S) = 0 from fun q => i10 (e1.symm.trans q)), show (0 : Nat) + 93 = 93 from rfl, show (0 : Nat) + 3 = 3 from rfl, show (0 : Nat) + 96 = 96 from rfl, igd (by omega) (by decide), nI_clamp (by omega), hc, e2, ob_some, if_neg i10, show (0 : Int32) = nI 0 from rfl, c1.resolve_right (by omega), ob_some]
      exact ⟨_, rfl, m1.resolve_right (by omega)⟩
    · rw [e2, ob_some, if_pos rfl, if_pos (show fX8_hasParish (0 + 3 + 1) x1 (lLt S) = 0 from e1)]; exact ⟨_, rfl, rfl⟩
  · rw [if_neg q, if_neg q, if_pos rfl]; exact ⟨_, rfl, rfl⟩
-- parish
theorem bit_01 (x : Int32) : x &&& 1 = if x &&& 1 = 1 then 1 else 0 := by
  obtain ⟨j, hj, e⟩ := pk_andE x (m := 1) 1 (by decide)
  rw [e]
  match j, hj with
  | 0, _ => decide
  | 1, _ => decide
theorem thr1 {S : St} : fX11_throwsIf 140 1 S = (1, sI S 11 0 140 1) := rfl
theorem thr0 {S : St} : fX11_throwsIf 140 0 S = (0, sI S 11 0 140 0) := rfl
theorem q_parish {S : St} {n : Nat → Nat} (hw : WFn n) (h : CW S n) (h' : MR S n) (hs : HS S S n) (x1 x2 : Int32) : (∃ r, fX10_parish 0 x1 x2 S = some r ∧ fX11_parish 140 x1 x2 S = some (r, sI S 11 0 140 0)) ∨ ((fX8_hasParish 4 x1 S = 0 ∨ x2 < 0 ∨ ¬ x2 ≤ 8) ∧ fX11_parish 140 x1 x2 S = some (0, sI S 11 0 140 1)) := by
  have h0 := hw.1
  have h2 : MR (sI S 11 0 140 0) n := h'
  unfold fX10_parish fX11_parish
  rcases px h h' h0.1 x1 with ⟨p, hp, rfl, e1, e2⟩ | ⟨e1, e2⟩
  · rw [if_neg (show ¬ fX8_hasParish (0 + 3 + 1) (nI p) S = 0 from fun q => i10 (e1.symm.trans q)), e2, ob_some, if_neg i10]
    by_cases a1 : x2 < 0
    · rw [isIn_no (Or.inl a1), if_pos rfl, thr1]; exact Or.inr ⟨Or.inr (Or.inl a1), rfl⟩
    by_cases a2 : x2 ≤ 8
    · rw [if_neg a1, if_pos a2, isIn_yes a1 (Int32.not_lt.mpr a2), if_neg i10, thr0, igd (by omega) (by decide), nI_clamp (by omega)]
      refine Or.inl ?_
      obtain ⟨c1, c2, c3, c4, c5⟩ := h.2.1 p hp
      have g : ∀ t, t + p < 59 → gA (sI S 11 0 140 0) 29 (140 + 2) (t + p) = nI (n (t + p)) := fun t ht => h2 _ ht
      have hc : gA S 15 (0 + 3 + 15 + 1) p = nI (n (54 + p)) := h.2.2.2.2 p hp
      have s1 : gA S 16 (0 + 3 + 15 + 2) p = gA (sI S 11 0 140 0) 29 (140 + 2) (59 + p) := (hs p hp).1
      have s2 : gA S 17 (0 + 3 + 15 + 3) p = gA (sI S 11 0 140 0) 29 (140 + 2) (64 + p) := (hs p hp).2
      have hh : fX2_isHeld (0 + 3 + 15) (nI p) S = _ := c_isHeld (S := S) (d := 18) (p := p)
      have e53 : gA (sI S 11 0 140 0) 29 (140 + 2) 53 = nI (n 53) := h2 53 (by omega)
      unfold fX10_parish_s45 fX10_parish_s54 fX11_parish_s27
      show ∃ r, _ ∧ (if (0 : Int32) = 0 then _ else _) = _
      rw [if_pos rfl, show (0 : Nat) + 3 + 1 + 1 + 2 + p = 7 + p from rfl, c1, c2, c3, c4, c5, igd (by omega) (by decide), igd (by omega) (by decide), igd (by omega) (by decide), nI_clamp (by omega), hc, s1, s2, hh, h.2.2.2.1.2.1, show (4 : Int32) + nI p = nI (4 + p) from nI_add 4 p, show (9 : Int32) + nI p = nI (9 + p) from nI_add 9 p, show (14 : Int32) + nI p = nI (14 + p) from nI_add 14 p, show (24 : Int32) + nI p = nI (24 + p) from nI_add 24 p, show (29 : Int32) + nI p = nI (29 + p) from nI_add 29 p, show (54 : Int32) + nI p = nI (54 + p) from nI_add 54 p, show (59 : Int32) + nI p = nI (59 + p) from nI_add 59 p, show (64 : Int32) + nI p = nI (64 + p) from nI_add 64 p]
      rw [igd (show 4 + p < 250 by omega) (by decide), igd (show 9 + p < 250 by omega) (by decide), igd (show 14 + p < 250 by omega) (by decide), igd (show 24 + p < 250 by omega) (by decide), igd (show 29 + p < 250 by omega) (by decide), igd (show 54 + p < 250 by omega) (by decide), igd (show 59 + p < 250 by omega) (by decide), igd (show 64 + p < 250 by omega) (by decide)]
      rw [nI_clamp (show 4 + p < 2 ^ 31 by omega), nI_clamp (show 9 + p < 2 ^ 31 by omega), nI_clamp (show 14 + p < 2 ^ 31 by omega), nI_clamp (show 24 + p < 2 ^ 31 by omega), nI_clamp (show 29 + p < 2 ^ 31 by omega), nI_clamp (show 54 + p < 2 ^ 31 by omega), nI_clamp (show 59 + p < 2 ^ 31 by omega), nI_clamp (show 64 + p < 2 ^ 31 by omega), g 4 (by omega), g 9 (by omega), g 14 (by omega), g 24 (by omega), g 29 (by omega), g 54 (by omega), e53]
      by_cases q0 : x2 = 0
      · rw [if_pos q0, if_pos q0]; exact ⟨_, rfl, rfl⟩
      rw [if_neg q0, if_neg q0]
      by_cases q1 : x2 = 1
      · rw [if_pos q1, if_pos q1]; exact ⟨_, rfl, rfl⟩
      rw [if_neg q1, if_neg q1]
      by_cases q2 : x2 = 2
      · rw [if_pos q2, if_pos q2]; exact ⟨_, rfl, rfl⟩
      rw [if_neg q2, if_neg q2]
      by_cases q3 : x2 = 3
      · rw [if_pos q3, if_pos q3]; exact ⟨_, rfl, rfl⟩
      rw [if_neg q3, if_neg q3]
      by_cases q4 : x2 = 4
      · rw [if_pos q4, if_pos q4]; exact ⟨_, rfl, rfl⟩
      rw [if_neg q4, if_neg q4]
      by_cases q5 : x2 = 5
      · rw [if_pos q5, if_pos q5]; exact ⟨_, rfl, rfl⟩
      rw [if_neg q5, if_neg q5]
      by_cases q6 : x2 = 6
      · rw [if_pos q6, if_pos q6]
        by_cases r : (nI (n 53) >>> (nI p &&& 31)) &&& 1 = 1
        · rw [if_pos r, if_neg i10, r]; exact ⟨_, rfl, rfl⟩
        · have z : (nI (n 53) >>> (nI p &&& 31)) &&& 1 = 0 := (bit_01 _).trans (if_neg r)
          rw [if_neg r, if_pos rfl, z]; exact ⟨_, rfl, rfl⟩
      rw [if_neg q6, if_neg q6]
      by_cases q7 : x2 = 7
      · rw [if_pos q7, if_pos q7]; exact ⟨_, rfl, rfl⟩
      rw [if_neg q7, if_neg q7]; exact ⟨_, rfl, rfl⟩
    · rw [isIn_no (Or.inr (Int32.not_le.mp a2)), if_pos rfl, thr1]; exact Or.inr ⟨Or.inr (Or.inr a2), rfl⟩
  · rw [e2, ob_some, if_pos rfl, thr1]; exact Or.inr ⟨Or.inl e1, rfl⟩
-- drift
theorem l_gcd {S S' : St} {x0 x1 z0 z1 : Int32} : ∀ j a b t u u' : Nat, a < 2 ^ j → j ≤ 20 → b < 2 ^ 20 → t + 2 * j < 64 → 2 * j < u → 2 * j < u' → ∃ g : Nat, fX0_shared_h10 x0 x1 u (nI a) (nI b) (nI t) S = some (nI g) ∧ fX11_common_h4 z0 z1 u' (nI b) (nI a) S' = some (nI g) ∧ g < 2 ^ 20 ∧ (0 < b → 0 < g) := by
  intro j
  induction j with
  | zero =>
    intro a b t u u' ha hj hb ht hu hu'
    obtain ⟨u, rfl⟩ : ∃ k', u = k' + 1 := ⟨u - 1, by omega⟩
    obtain ⟨u', rfl⟩ : ∃ k', u' = k' + 1 := ⟨u' - 1, by omega⟩
    have : a = 0 := by omega
    subst this
    refine ⟨b, ?_, ?_, hb, id⟩
    · rw [fX0_shared_h10]; unfold fX0_shared_s10
      rw [if_neg (show ¬ (64 : Int32) ≤ nI t from nI_ge (b := 64) (by omega) (by omega)), if_pos nI_0]
    · rw [fX11_common_h4]; unfold fX11_common_s4
      rw [if_pos nI_0]
  | succ j ih =>
    intro a b t u u' ha hj hb ht hu hu'
    obtain ⟨u, rfl⟩ : ∃ k', u = k' + 1 + 1 := ⟨u - 2, by omega⟩
    obtain ⟨u', rfl⟩ : ∃ k', u' = k' + 1 + 1 := ⟨u' - 2, by omega⟩
    have hj2 : 2 ^ (j + 1) ≤ 2 ^ 20 := Nat.pow_le_pow_right (by omega) hj
    rcases Nat.eq_zero_or_pos a with z | z
    · subst z
      refine ⟨b, ?_, ?_, hb, id⟩
      · rw [fX0_shared_h10]; unfold fX0_shared_s10
        rw [if_neg (show ¬ (64 : Int32) ≤ nI t from nI_ge (b := 64) (by omega) (by omega)), if_pos nI_0]
      · rw [fX11_common_h4]; unfold fX11_common_s4
        rw [if_pos nI_0]
    · have hr : b % a < a := Nat.mod_lt _ z
      rw [fX0_shared_h10, fX11_common_h4]; unfold fX0_shared_s10 fX0_shared_s26 fX11_common_s4 fX11_common_s13
      rw [if_neg (show ¬ (64 : Int32) ≤ nI t from nI_ge (b := 64) (by omega) (by omega)), if_neg (nI_z z (by omega)), if_neg (nI_z z (by omega)), if_neg (nI_z z (by omega)), if_neg (nI_z z (by omega)), pk_rem (by omega) z (by omega), nI_1]
      generalize b % a = r at hr
      try dsimp only
      rw [fX0_shared_h10, fX11_common_h4]; unfold fX0_shared_s10 fX0_shared_s26 fX11_common_s4 fX11_common_s13
      rw [if_neg (show ¬ (64 : Int32) ≤ nI (t + 1) from nI_ge (b := 64) (by omega) (by omega))]
      rcases Nat.eq_zero_or_pos r with y | y
      · subst y
        rw [if_pos nI_0, if_pos nI_0]
        exact ⟨a, rfl, rfl, by omega, fun _ => z⟩
      · rw [if_neg (nI_z y (by omega)), if_neg (nI_z y (by omega)), if_neg (nI_z y (by omega)), if_neg (nI_z y (by omega)), pk_rem (by omega) y (by omega), nI_1]
        have h1 : a % r < r := Nat.mod_lt _ y
        have h2 : a % r < 2 ^ j := by
          have h3 := Nat.div_add_mod a r
          have h4 : 1 ≤ a / r := (Nat.le_div_iff_mul_le y).mpr (by omega)
          have h5 : r * 1 ≤ r * (a / r) := Nat.mul_le_mul_left _ h4
          rw [Nat.pow_succ] at ha
          omega
        obtain ⟨g, g1, g2, g3, g4⟩ := ih (a % r) r (t + 1 + 1) u u' h2 (by omega) (by omega) (by omega) (by omega) (by omega)
        exact ⟨g, g1, g2, g3, fun _ => g4 y⟩
theorem q_drift {S : St} {n : Nat → Nat} (hw : WFn n) (h : CW S n) (h' : MR S n) (x1 x2 : Int32) : (∃ r, fX10_drift 0 x1 x2 S = some r ∧ fX11_drift 140 x1 x2 S = some (r, sI S 11 0 140 0)) ∨ ((fX8_hasParish 4 x1 S = 0 ∨ x2 < 0 ∨ ¬ x2 ≤ 1) ∧ fX11_drift 140 x1 x2 S = some (0, sI S 11 0 140 1)) := by
  have h0 := hw.1
  have h2 : MR (sI S 11 0 140 0) n := h'
  unfold fX10_drift fX11_drift
  rcases px h h' h0.1 x1 with ⟨p, hp, rfl, e1, e2⟩ | ⟨e1, e2⟩
  · rw [if_neg (show ¬ fX8_hasParish (0 + 3 + 1) (nI p) S = 0 from fun q => i10 (e1.symm.trans q)), e2, ob_some, if_neg i10]
    by_cases a1 : x2 < 0
    · rw [isIn_no (Or.inl a1), if_pos rfl, thr1]; exact Or.inr ⟨Or.inr (Or.inl a1), rfl⟩
    by_cases a2 : x2 ≤ 1
    · rw [if_neg a1, if_pos a2, isIn_yes a1 (Int32.not_lt.mpr a2), if_neg i10, thr0]
      refine Or.inl ?_
      obtain ⟨w, hW1, hW2, hcl⟩ := hw.2.1 p hp
      obtain ⟨w1, w2, w3, w4, w5, w6, w7⟩ := id w
      have hR := w.R
      obtain ⟨c1, c2, c3, c4, c5⟩ := h.2.1 p hp
      have e3 : gA (sI S 11 0 140 0) 29 (140 + 2) 3 = nI (n 3) := h2 3 (by omega)
      have e4 : gA (sI S 11 0 140 0) 29 (140 + 2) 2 = nI (n 2) := h2 2 (by omega)
      have e29 : gA (sI S 11 0 140 0) 29 (140 + 2) (29 + p) = nI (n (29 + p)) := h2 _ (by omega)
      have hal := m_allYears (h2.mp (p := p) (by omega)) (by omega)
      unfold fX0_driftPart fX0_driftPart_s8 fX0_driftPart_s33 fX0_driftPart_s53 fX0_driftPart_s65 fX0_shared fX0_shared_s5 fX11_drift_s26 fX11_drift_s61 fX11_drift_s79 fX11_common
      show ∃ r, _ ∧ (if (0 : Int32) = 0 then _ else _) = _
      rw [if_pos rfl, igd (by omega) (by decide), nI_clamp (by omega), show (0 : Nat) + 3 + 1 = 4 from rfl, show (4 : Nat) + 1 + 2 + p = 7 + p from rfl, c1, c2, c3, c4, h.1.2.2.1, h.1.2.2.2, hal, ob_some, show (29 : Int32) + nI p = nI (29 + p) from nI_add 29 p, igd (by omega) (by decide), igd (by omega) (by decide), nI_clamp (by omega), e29, e3, e4, pk_mul, pk_mul, nI_add, pk_mul, pk_mul, pk_mul, pk_mul, abs_eq, show n (4 + p) * n (9 + p) * n (29 + p) + n (24 + p) = rowL (n (4 + p)) (n (9 + p)) (n (24 + p)) (n (29 + p)) from rfl]
      have b1 : rowL (n (4 + p)) (n (9 + p)) (n (24 + p)) (n (29 + p)) * n 3 ≤ 3519 * 30 := Nat.mul_le_mul hR.2 (by omega)
      have b2 : n 2 * n (29 + p) ≤ 999 * 9 := Nat.mul_le_mul (by omega) w7
      have b3 : n (29 + p) * n 3 ≤ 9 * 30 := Nat.mul_le_mul w7 (by omega)
      have b4 : 1 * 1 ≤ n (29 + p) * n 3 := Nat.mul_le_mul w6 (by omega)
      generalize rowL (n (4 + p)) (n (9 + p)) (n (24 + p)) (n (29 + p)) * n 3 = X at *
      generalize n 2 * n (29 + p) = Y at *
      generalize n (29 + p) * n 3 = B at *
      obtain ⟨a, ha, hae⟩ : ∃ a : Nat, a < 2 ^ 17 ∧ (if 0 ≤ nI X - nI Y then nI X - nI Y else 0 - (nI X - nI Y)) = nI a := by
        rcases Nat.lt_or_ge X Y with q | q
        · refine ⟨Y - X, by omega, ?_⟩
          rw [if_neg (Int32.not_le.mpr (pk_sneg (by omega) q)), Int32.zero_sub, Int32.neg_sub, pk_sub (by omega)]
        · refine ⟨X - Y, by omega, ?_⟩
          rw [pk_sub q, if_pos (nI_le0 (by omega))]
      rw [hae]
      obtain ⟨g, g1, g2, g3, g4⟩ := l_gcd (S := S) (S' := sI S 11 0 140 0) (x0 := nI X - nI Y) (x1 := nI B) (z0 := nI B) (z1 := nI a) 17 a B 0 NN NN ha (by omega) (by omega) (by omega) (by unfold NN; omega) (by unfold NN; omega)
      have g5 := g4 (by omega)
      have g1' : fX0_shared_h10 (nI X - nI Y) (nI B) NN (nI a) (nI B) 0 S = some (nI g) := g1
      rw [g1', ob_some, g2, ob_some, ob_some, if_pos (show 0 < nI g from nI_lt (a := 0) g5 (by omega)), if_neg (nI_z g5 (by omega)), if_neg (nI_z g5 (by omega)), if_neg (nI_z g5 (by omega)), if_neg (nI_z g5 (by omega))]
      by_cases q : x2 = 0
      · rw [if_pos q, if_pos q]; exact ⟨_, rfl, rfl⟩
      · rw [if_neg q, if_neg q]; exact ⟨_, rfl, rfl⟩
    · rw [isIn_no (Or.inr (Int32.not_le.mp a2)), if_pos rfl, thr1]; exact Or.inr ⟨Or.inr (Or.inr a2), rfl⟩
  · rw [e2, ob_some, if_pos rfl, thr1]; exact Or.inr ⟨Or.inl e1, rfl⟩
