-- said
theorem bit_ext {a b : Nat} (h0 : a % 2 = b % 2) (h : a / 2 = b / 2) : a = b := by omega
theorem xor_1 (x : Nat) : x ^^^ 1 = 2 * (x / 2) + (1 - x % 2) := by
  apply Nat.eq_of_testBit_eq
  intro i
  cases i with
  | zero =>
    rw [Nat.testBit_xor, Nat.testBit_zero, Nat.testBit_zero, Nat.testBit_zero]
    have : x % 2 = 0 ∨ x % 2 = 1 := by omega
    rcases this with h | h <;> rw [h] <;> simp <;> omega
  | succ i =>
    rw [Nat.testBit_xor, Nat.testBit_succ, Nat.testBit_succ, Nat.testBit_succ, show (1 : Nat) / 2 = 0 from rfl, Nat.zero_testBit, Bool.xor_false, show (2 * (x / 2) + (1 - x % 2)) / 2 = x / 2 by omega]
theorem or_1 (x b : Nat) (hb : b ≤ 1) : x ||| b = 2 * (x / 2) + (if x % 2 = 1 ∨ b = 1 then 1 else 0) := by
  apply Nat.eq_of_testBit_eq
  intro i
  have hx : x % 2 = 0 ∨ x % 2 = 1 := by omega
  have hb2 : b = 0 ∨ b = 1 := by omega
  cases i with
  | zero =>
    rw [Nat.testBit_or, Nat.testBit_zero, Nat.testBit_zero, Nat.testBit_zero]
    rcases hx with h | h <;> rcases hb2 with g | g <;> rw [h, g] <;> simp <;> omega
  | succ i =>
    rw [Nat.testBit_or, Nat.testBit_succ, Nat.testBit_succ, Nat.testBit_succ, show b / 2 = 0 by omega, Nat.zero_testBit, Bool.or_false]
    congr 1
    split <;> omega
theorem and_m2 (y x : Nat) (hy : y < 2 ^ 31) : y &&& (x ||| 4294967294) = 2 * (y / 2) + (if y % 2 = 1 ∧ x % 2 = 1 then 1 else 0) := by
  apply Nat.eq_of_testBit_eq
  intro i
  have hx : x % 2 = 0 ∨ x % 2 = 1 := by omega
  have hy2 : y % 2 = 0 ∨ y % 2 = 1 := by omega
  cases i with
  | zero =>
    rw [Nat.testBit_and, Nat.testBit_or, Nat.testBit_zero, Nat.testBit_zero, Nat.testBit_zero, Nat.testBit_zero]
    rcases hx with h | h <;> rcases hy2 with g | g <;> rw [h, g] <;> simp <;> omega
  | succ i =>
    rw [Nat.testBit_and, Nat.testBit_or, Nat.testBit_succ, Nat.testBit_succ, Nat.testBit_succ, Nat.testBit_succ, show (4294967294 : Nat) / 2 = 2 ^ 31 - 1 from rfl, Nat.testBit_two_pow_sub_one]
    have e : (2 * (y / 2) + (if y % 2 = 1 ∧ x % 2 = 1 then 1 else 0)) / 2 = y / 2 := by split <;> omega
    rw [e]
    by_cases q : i < 31
    · rw [decide_eq_true q, Bool.or_true, Bool.and_true]
    · have : (y / 2).testBit i = false := Nat.testBit_lt_two_pow (Nat.lt_of_lt_of_le (show y / 2 < 2 ^ 31 by omega) (Nat.pow_le_pow_right (by omega) (by omega)))
      rw [this, Bool.false_and]
theorem I_ext {x y : Int32} (h : x.toBitVec.toNat = y.toBitVec.toNat) : x = y := Int32.toBitVec_inj.mp (BitVec.eq_of_toNat_eq h)
theorem nI_xor {a b : Nat} (ha : a < 2 ^ 32) (hb : b < 2 ^ 32) (hc : a ^^^ b < 2 ^ 32) : nI a ^^^ nI b = nI (a ^^^ b) := by
  apply I_ext
  rw [Int32.toBitVec_xor, BitVec.toNat_xor, pk_tn ha, pk_tn hb, pk_tn hc]
theorem nI_or {a b : Nat} (ha : a < 2 ^ 32) (hb : b < 2 ^ 32) (hc : a ||| b < 2 ^ 32) : nI a ||| nI b = nI (a ||| b) := by
  apply I_ext
  rw [Int32.toBitVec_or, BitVec.toNat_or, pk_tn ha, pk_tn hb, pk_tn hc]
theorem nI_and {a b : Nat} (ha : a < 2 ^ 32) (hb : b < 2 ^ 32) (hc : a &&& b < 2 ^ 32) : nI a &&& nI b = nI (a &&& b) := by
  apply I_ext
  rw [Int32.toBitVec_and, BitVec.toNat_and, pk_tn ha, pk_tn hb, pk_tn hc]
/-- truths as bits, the latest lowest -/
def vl : List Bool → Nat
  | [] => 0
  | b :: r => 2 * vl r + (if b = true then 1 else 0)
theorem vl_lt (l : List Bool) : vl l < 2 ^ l.length := by
  induction l with
  | nil => exact Nat.one_pos
  | cons b r ih =>
    show 2 * vl r + _ < 2 ^ (r.length + 1)
    rw [Nat.pow_succ]
    split <;> omega
theorem vl_20 {l : List Bool} (h : l.length ≤ 20) : vl l < 2 ^ 20 := Nat.lt_of_lt_of_le (vl_lt l) (Nat.pow_le_pow_right (by omega) h)
theorem o_not {b : Bool} {r : List Bool} (h : (b :: r).length ≤ 20) : nI (vl (b :: r)) ^^^ 1 = nI (vl ((!b) :: r)) := by
  have h1 := vl_20 h
  have e : vl (b :: r) ^^^ 1 = vl ((!b) :: r) := by
    rw [xor_1]
    show _ = 2 * vl r + _
    cases b
    · show 2 * ((2 * vl r + 0) / 2) + (1 - (2 * vl r + 0) % 2) = 2 * vl r + 1; omega
    · show 2 * ((2 * vl r + 1) / 2) + (1 - (2 * vl r + 1) % 2) = 2 * vl r + 0; omega
  rw [show (1 : Int32) = nI 1 from rfl, nI_xor (by omega) (by omega) (by rw [e]; have := vl_20 (l := (!b) :: r) h; omega), e]
theorem sh1 (v : Nat) (h : v < 2 ^ 31) : nI v >>> ((1 : Int32) &&& 31) = nI (v / 2) := pk_shrN h _ 1 (by decide)
theorem o_and {b c : Bool} {r : List Bool} (h : (b :: c :: r).length ≤ 20) : (nI (vl (b :: c :: r)) >>> ((1 : Int32) &&& 31)) &&& (nI (vl (b :: c :: r)) ||| -2) = nI (vl ((c && b) :: r)) := by
  have h1 := vl_20 h
  have h2 := vl_20 (l := (c && b) :: r) (by have : (b :: c :: r).length = r.length + 2 := rfl; show r.length + 1 ≤ 20; omega)
  have e1 : vl (b :: c :: r) = 2 * (2 * vl r + (if c = true then 1 else 0)) + (if b = true then 1 else 0) := rfl
  have e2 : vl (b :: c :: r) / 2 = 2 * vl r + (if c = true then 1 else 0) := by rw [e1]; cases b <;> cases c <;> simp <;> omega
  have ho : vl (b :: c :: r) ||| 4294967294 < 2 ^ 32 := Nat.or_lt_two_pow (by omega) (by omega)
  have e3 : vl (b :: c :: r) / 2 &&& (vl (b :: c :: r) ||| 4294967294) = vl ((c && b) :: r) := by
    rw [and_m2 _ _ (by omega), e2, e1]
    show _ = 2 * vl r + (if (c && b) = true then 1 else 0)
    cases b <;> cases c <;> simp <;> omega
  rw [sh1 _ (by omega), show (-2 : Int32) = nI 4294967294 from by decide, nI_or (by omega) (by omega) ho, nI_and (by omega) ho (by rw [e3]; omega), e3]
theorem o_or {b c : Bool} {r : List Bool} (h : (b :: c :: r).length ≤ 20) : (nI (vl (b :: c :: r)) >>> ((1 : Int32) &&& 31)) ||| (nI (vl (b :: c :: r)) &&& 1) = nI (vl ((c || b) :: r)) := by
  have h1 := vl_20 h
  have h2 := vl_20 (l := (c || b) :: r) (by have : (b :: c :: r).length = r.length + 2 := rfl; show r.length + 1 ≤ 20; omega)
  have e1 : vl (b :: c :: r) = 2 * (2 * vl r + (if c = true then 1 else 0)) + (if b = true then 1 else 0) := rfl
  have e2 : vl (b :: c :: r) / 2 = 2 * vl r + (if c = true then 1 else 0) := by rw [e1]; cases b <;> cases c <;> simp <;> omega
  have e4 : vl (b :: c :: r) % 2 ≤ 1 := by omega
  have e3 : vl (b :: c :: r) / 2 ||| vl (b :: c :: r) % 2 = vl ((c || b) :: r) := by
    rw [or_1 _ _ e4, e2, e1]
    show _ = 2 * vl r + (if (c || b) = true then 1 else 0)
    cases b <;> cases c <;> simp <;> omega
  rw [sh1 _ (by omega), pk_andN (by omega) 1 (by decide), Nat.pow_one, nI_or (by omega) (by omega) (by rw [e3]; omega), e3]
theorem o_leaf {b : Bool} {r : List Bool} (h : (b :: r).length ≤ 20) : (nI (vl r) <<< ((1 : Int32) &&& 31)) ||| b01 b = nI (vl (b :: r)) := by
  have h1 := vl_20 h
  have h0 : r.length ≤ 20 := by have : (b :: r).length = r.length + 1 := rfl; omega
  have h2 := vl_20 h0
  have e : vl r * 2 ^ 1 ||| (if b = true then 1 else 0) = vl (b :: r) := by
    rw [or_1 _ _ (by split <;> omega)]
    show _ = 2 * vl r + _
    cases b <;> simp <;> omega
  have eb : b01 b = nI (if b = true then 1 else 0) := by cases b <;> rfl
  rw [pk_shlN _ 1 (by decide) (by omega), eb, nI_or (by omega) (by split <;> omega) (by rw [e]; omega), e]
-- the truths behind i steps
def ev (st : Nat → Int32) (lf : Nat → Bool) : Nat → List Bool
  | 0 => []
  | i + 1 => if st i = 1 then (match ev st lf i with
      | b :: r => (!b) :: r
      | [] => []) else if st i = 2 then (match ev st lf i with
      | b :: c :: r => (c && b) :: r
      | _ => []) else if st i = 3 then (match ev st lf i with
      | b :: c :: r => (c || b) :: r
      | _ => []) else lf i :: ev st lf i
theorem ev_len {st : Nat → Int32} {lf : Nat → Bool} : ∀ i d, dptS st i = some d → (ev st lf i).length = d := by
  intro i
  induction i with
  | zero => intro d h; cases h; rfl
  | succ i ih =>
    intro d h
    have h' : (match dptS st i with | none => none | some d => if st i = 1 then (if 1 ≤ d then some d else none) else if st i = 2 ∨ st i = 3 then (if 2 ≤ d then some (d - 1) else none) else some (d + 1)) = some d := h
    cases hd : dptS st i with
    | none => rw [hd] at h'; cases h'
    | some e =>
      rw [hd] at h'
      have hl := ih e hd
      have h'' : (if st i = 1 then (if 1 ≤ e then some e else none) else if st i = 2 ∨ st i = 3 then (if 2 ≤ e then some (e - 1) else none) else some (e + 1)) = some d := h'
      unfold ev
      by_cases q1 : st i = 1
      · rw [if_pos q1] at h'' ⊢
        by_cases r : 1 ≤ e
        · rw [if_pos r] at h''; cases h''
          cases hev : ev st lf i with
          | nil => rw [hev] at hl; exact absurd hl (by show ¬ 0 = _; omega)
          | cons b r => rw [hev] at hl; exact hl
        · rw [if_neg r] at h''; cases h''
      · rw [if_neg q1] at h'' ⊢
        by_cases q2 : st i = 2 ∨ st i = 3
        · rw [if_pos q2] at h''
          by_cases r : 2 ≤ e
          · rw [if_pos r] at h''; cases h''
            cases hev : ev st lf i with
            | nil => rw [hev] at hl; exact absurd hl (by show ¬ 0 = _; omega)
            | cons b t =>
              cases t with
              | nil => rw [hev] at hl; exact absurd hl (by show ¬ 1 = _; omega)
              | cons c t =>
                rw [hev] at hl
                have hl' : t.length + 2 = e := hl
                by_cases q3 : st i = 2
                · rw [if_pos q3]; show t.length + 1 = _; omega
                · rw [if_neg q3, if_pos (q2.resolve_left q3)]; show t.length + 1 = _; omega
          · rw [if_neg r] at h''; cases h''
        · rw [if_neg q2] at h''; cases h''
          rw [if_neg (fun r => q2 (Or.inl r)), if_neg (fun r => q2 (Or.inr r))]
          show (ev st lf i).length + 1 = _; rw [hl]
def cmpB (x g v : Int32) : Bool := if g = 60 then decide (x < v) else if g = 61 then decide (x = v) else decide (v < x)
def lfB (n : Nat → Nat) (p l b : Nat) (g : Int32) : Bool := if l = 0 then btw n p else if l = 1 then heldB n p else if l = 2 then decide (n (34 + b) = p) && fallB n b 0 else if l = 3 then decide (dtq n p (n (54 + p)) = dtq n b (n (54 + b))) else if l = 8 then cmpB (nI p) g (nI b) else cmpB (nI (clq n p (l - 4))) g (nI b)
theorem nar01 (b : Bool) : vp_nar .boolean (b01 b) = b01 b := by cases b <;> decide
theorem n6160 : ¬ (61 : Int32) = 60 := by decide
theorem n6162 : ¬ (61 : Int32) = 62 := by decide
theorem n6260 : ¬ (62 : Int32) = 60 := by decide
theorem n6261 : ¬ (62 : Int32) = 61 := by decide
theorem c_cmp {x g v : Int32} {S : St} (hg : g = 60 ∨ g = 61 ∨ g = 62) : fX5_compare x g v S = b01 (cmpB x g v) := by
  unfold fX5_compare cmpB
  rcases hg with rfl | rfl | rfl
  · rw [if_pos rfl, if_pos rfl]
    by_cases q : v ≤ x
    · rw [if_pos q, decide_eq_false (Int32.not_lt.mpr q)]; rfl
    · rw [if_neg q, decide_eq_true (Int32.not_le.mp q)]; rfl
  · rw [if_neg n6160, if_neg n6162, if_neg n6160, if_pos (rfl : (61 : Int32) = 61)]
    by_cases q : x = v
    · rw [if_pos q, decide_eq_true q]; rfl
    · rw [if_neg q, decide_eq_false q]; rfl
  · rw [if_neg n6260, if_pos (rfl : (62 : Int32) = 62), if_neg n6260, if_neg n6261]
    by_cases q : x ≤ v
    · rw [if_pos q, decide_eq_false (Int32.not_lt.mpr q)]; rfl
    · rw [if_neg q, decide_eq_true (Int32.not_le.mp q)]; rfl
theorem m_cmp {x g v : Int32} (hg : g = 60 ∨ g = 61 ∨ g = 62) : (if g = (60 : Int32) then (if v ≤ x then some (0 : Int32) else some 1) else (if g = (61 : Int32) then (if x = v then some 1 else some 0) else (if x ≤ v then some 0 else some 1))) = some (b01 (cmpB x g v)) := by
  unfold cmpB
  rcases hg with rfl | rfl | rfl
  · rw [if_pos rfl, if_pos rfl]
    by_cases q : v ≤ x
    · rw [if_pos q, decide_eq_false (Int32.not_lt.mpr q)]; rfl
    · rw [if_neg q, decide_eq_true (Int32.not_le.mp q)]; rfl
  · rw [if_neg n6160, if_pos (rfl : (61 : Int32) = 61), if_neg n6160, if_pos (rfl : (61 : Int32) = 61)]
    by_cases q : x = v
    · rw [if_pos q, decide_eq_true q]; rfl
    · rw [if_neg q, decide_eq_false q]; rfl
  · rw [if_neg n6260, if_neg n6261, if_neg n6260, if_neg n6261]
    by_cases q : x ≤ v
    · rw [if_pos q, decide_eq_false (Int32.not_lt.mpr q)]; rfl
    · rw [if_neg q, decide_eq_true (Int32.not_le.mp q)]; rfl
theorem c_isSo {S : St} {n : Nat → Nat} (w : WI S n) {p i l b : Nat} {g : Int32} (hp : p < n 0) (hi : i < 40) (hl : l ≤ 8) (e1 : gA S 18 23 i = nI (l + 4)) (e2 : gA S 20 25 i = nI b) (e3 : gA S 19 24 i = g) (hb : b ≤ 999) (h2 : l = 2 → b < n 1) (h3 : l = 3 → b < n 0) (h4 : 4 ≤ l → g = 60 ∨ g = 61 ∨ g = 62) : fX5_isSo 22 (nI i) 3 (nI p) S = some (b01 (lfB n p l b g)) := by
  have hn := w.wf.1
  obtain ⟨v, hW1, hW2, hcl⟩ := w.wf.2.1 p hp
  have hc : gA S 15 (3 + 15 + 1) p = nI (n (54 + p)) := w.cw.2.2.2.2 p hp
  have e1' : gA S 18 (22 + 1) i = nI (l + 4) := e1
  have e2' : gA S 20 (22 + 3) i = nI b := e2
  have e3' : gA S 19 (22 + 2) i = g := e3
  have hbt := c_isBetween (c := n (54 + p)) (w.cw.2.1 p hp) v (by omega)
  unfold fX5_isSo fX5_isSo_s8 fX5_isSo_s187
  rw [igd hi (by decide), igd hi (by decide), nI_clamp (by omega), nI_clamp (by omega), e1', e2']
  have ne : ∀ j : Nat, j ≤ 20 → l + 4 ≠ j → ¬ nI (l + 4) = nI j := fun j hj q r => q ((nI_eq (by omega) (by omega)).mp r)
  have cl : ∀ k, k ≤ 3 → fX4_called (7 + p) (nI (n (54 + p))) (nI k) S = some (nI (clq n p k)) := fun k hk => c_clq w.wf w.cw hp hk
  match l, hl with
  | 0, _ =>
    rw [if_pos (show nI 4 = 4 from rfl), igc (by omega) (by decide), igc (by omega) (by decide), show (3 : Nat) + 1 + 1 + 2 + p = 7 + p from rfl, hc, hbt, ob_some, nar01]; rfl
  | 1, _ =>
    rw [if_neg (show ¬ nI 5 = 4 by decide), if_pos (show nI 5 = 5 from rfl), show (3 : Nat) + 15 = 18 from rfl, c_held w.cw, nar01]; rfl
  | 2, _ =>
    have hb1 := h2 rfl
    obtain ⟨f1, f2, f3⟩ := w.wf.2.2 b hb1
    have hf : fX8_hasFeast 4 (nI b) S = 1 := by
      unfold fX8_hasFeast
      rw [if_neg (nI_pos (by omega)), w.cw.1.2.1, if_neg (nI_ge hb1 (by omega))]
    have hfo : fX9_fallsOn 3 (nI b) 0 S = some (b01 (fallB n b 0)) := c_fallsOn w.wf w.cw (k := 0) hb1 (by omega)
    rw [if_neg (show ¬ nI 6 = 4 by decide), if_neg (show ¬ nI 6 = 5 by decide), if_pos (show nI 6 = 6 from rfl), show (3 : Nat) + 1 = 4 from rfl, hf, if_neg i10, igd (by omega) (by decide), nI_clamp (by omega), show (4 : Nat) + 2 + 6 + b = 12 + b from rfl, (w.cw.2.2.1 b hb1).1, hfo, ob_some, if01]
    show _ = some (b01 (decide (n (34 + b) = p) && fallB n b 0))
    by_cases q : n (34 + b) = p
    · rw [if_pos (congrArg nI q), decide_eq_true q, Bool.true_and]
      cases fallB n b 0 <;> rfl
    · rw [if_neg (fun r => q ((nI_eq (by omega) (by omega)).mp r)), decide_eq_false q]; rfl
  | 3, _ =>
    have hb0 := h3 rfl
    have d1 : fX9_dateIn 3 (nI b) 0 S = some (nI (dtq n b (n (54 + b)))) := by
      have e := c_dateIn w.wf w.cw (k := 0) hb0 (by omega)
      rw [cnt_0] at e; exact e
    have d2 : fX9_dateIn 3 (nI p) 0 S = some (nI (dtq n p (n (54 + p)))) := by
      have e := c_dateIn w.wf w.cw (k := 0) hp (by omega)
      rw [cnt_0] at e; exact e
    have k1 := dt_lt v (n (54 + p))
    have k2 := dt_lt (w.wf.2.1 b hb0).1 (n (54 + b))
    rw [if_neg (show ¬ nI 7 = 4 by decide), if_neg (show ¬ nI 7 = 5 by decide), if_neg (show ¬ nI 7 = 6 by decide), if_pos (show nI 7 = 7 from rfl), show (3 : Nat) + 1 = 4 from rfl, hasP w.cw hn.1 hb0, if_neg i10, d1, ob_some, d2, ob_some]
    show _ = some (b01 (decide (dtq n p (n (54 + p)) = dtq n b (n (54 + b)))))
    by_cases q : dtq n p (n (54 + p)) = dtq n b (n (54 + b))
    · rw [if_pos (congrArg nI q.symm), decide_eq_true q]; rfl
    · rw [if_neg (fun r => q ((nI_eq (by unfold dtq; omega) (by unfold dtq; omega)).mp r).symm), decide_eq_false q]; rfl
  | 4, _ =>
    have e0 : fX4_called (7 + p) (nI (n (54 + p))) (nI 8 - 8) S = some (nI (clq n p 0)) := cl 0 (by omega)
    rw [if_neg (show ¬ nI 8 = 4 by decide), if_neg (show ¬ nI 8 = 5 by decide), if_neg (show ¬ nI 8 = 6 by decide), if_neg (show ¬ nI 8 = 7 by decide), if_pos (show nI 8 = 8 from rfl), igc (by omega) (by decide), igc (by omega) (by decide), igc (by omega) (by decide), show (3 : Nat) + 1 + 1 + 2 + p = 7 + p from rfl, hc, e0, ob_some, igc (by omega) (by decide), e3', c_cmp (h4 (by omega)), nar01]; rfl
  | 5, _ =>
    have e0 : fX4_called (7 + p) (nI (n (54 + p))) (nI 9 - 8) S = some (nI (clq n p 1)) := cl 1 (by omega)
    rw [if_neg (show ¬ nI 9 = 4 by decide), if_neg (show ¬ nI 9 = 5 by decide), if_neg (show ¬ nI 9 = 6 by decide), if_neg (show ¬ nI 9 = 7 by decide), if_neg (show ¬ nI 9 = 8 by decide), if_pos (show nI 9 = 9 from rfl), igc (by omega) (by decide), igc (by omega) (by decide), igc (by omega) (by decide), show (3 : Nat) + 1 + 1 + 2 + p = 7 + p from rfl, hc, e0, ob_some, igc (by omega) (by decide), e3', c_cmp (h4 (by omega)), nar01]; rfl
  | 6, _ =>
    have e0 : fX4_called (7 + p) (nI (n (54 + p))) (nI 10 - 8) S = some (nI (clq n p 2)) := cl 2 (by omega)
    rw [if_neg (show ¬ nI 10 = 4 by decide), if_neg (show ¬ nI 10 = 5 by decide), if_neg (show ¬ nI 10 = 6 by decide), if_neg (show ¬ nI 10 = 7 by decide), if_neg (show ¬ nI 10 = 8 by decide), if_neg (show ¬ nI 10 = 9 by decide), if_pos (show nI 10 = 10 from rfl), igc (by omega) (by decide), igc (by omega) (by decide), igc (by omega) (by decide), show (3 : Nat) + 1 + 1 + 2 + p = 7 + p from rfl, hc, e0, ob_some, igc (by omega) (by decide), e3', c_cmp (h4 (by omega)), nar01]; rfl
  | 7, _ =>
    have e0 : fX4_called (7 + p) (nI (n (54 + p))) (nI 11 - 8) S = some (nI (clq n p 3)) := cl 3 (by omega)
    rw [if_neg (show ¬ nI 11 = 4 by decide), if_neg (show ¬ nI 11 = 5 by decide), if_neg (show ¬ nI 11 = 6 by decide), if_neg (show ¬ nI 11 = 7 by decide), if_neg (show ¬ nI 11 = 8 by decide), if_neg (show ¬ nI 11 = 9 by decide), if_neg (show ¬ nI 11 = 10 by decide), if_pos (show nI 11 = 11 from rfl), igc (by omega) (by decide), igc (by omega) (by decide), igc (by omega) (by decide), show (3 : Nat) + 1 + 1 + 2 + p = 7 + p from rfl, hc, e0, ob_some, igc (by omega) (by decide), e3', c_cmp (h4 (by omega)), nar01]; rfl
  | 8, _ =>
    rw [if_neg (show ¬ nI 12 = 4 by decide), if_neg (show ¬ nI 12 = 5 by decide), if_neg (show ¬ nI 12 = 6 by decide), if_neg (show ¬ nI 12 = 7 by decide), if_neg (show ¬ nI 12 = 8 by decide), if_neg (show ¬ nI 12 = 9 by decide), if_neg (show ¬ nI 12 = 10 by decide), if_neg (show ¬ nI 12 = 11 by decide), if_pos (show nI 12 = 12 from rfl), igc (by omega) (by decide), e3', c_cmp (h4 (by omega)), nar01]; rfl
