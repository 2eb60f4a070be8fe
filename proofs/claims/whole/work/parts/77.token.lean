-- the two readers of text, in lockstep
def XT (k a : Nat) : Prop := a = 1 ∧ 3 ≤ k ∧ k ≤ 7
def XS (k a : Nat) : Prop := a = 140 ∧ (k = 4 ∨ k = 11 ∨ k = 12 ∨ k = 13 ∨ k = 14 ∨ k = 17)
def TB (C R : St) (L M : Nat) : Prop := L ≤ 940 ∧ M ≤ 940 ∧ gI C 6 1 1 = nI L ∧ gI R 11 3 140 = nI L ∧ gI C 6 2 1 = nI M ∧ gI R 11 5 140 = nI M ∧ ∀ j, j < 940 → gA C 12 2 j = gA R 28 141 j ∧ bB (gA C 12 2 j)
theorem TB_fr {X Y : Nat → Nat → Prop} {C R C' R' : St} {L M : Nat} (h : TB C R L M) (f : Fr X C C') (g : Fr Y R R') (hx : ∀ k a, X k a → ¬ (a = 2 ∨ (a = 1 ∧ k ≤ 2))) (hy : ∀ k a, Y k a → ¬ (a = 141 ∨ (a = 140 ∧ (k = 3 ∨ k = 5)))) : TB C' R' L M := by
  obtain ⟨h1, h2, h3, h4, h5, h6, h7⟩ := h
  refine ⟨h1, h2, (f.i (fun q => hx _ _ q (by omega))).trans h3, (g.i (fun q => hy _ _ q (by omega))).trans h4, (f.i (fun q => hx _ _ q (by omega))).trans h5, (g.i (fun q => hy _ _ q (by omega))).trans h6, fun j hj => ?_⟩
  rw [show gA C' 12 2 j = gA C 12 2 j from f.a (fun q => hx _ _ q (by omega)), show gA R' 28 141 j = gA R 28 141 j from g.a (fun q => hy _ _ q (by omega))]
  exact h7 j hj
/-- a token on both sides; q is where the text goes on behind it -/
def Tk (C R : St) (L q : Nat) : Prop := q ≤ L ∧ (∃ s, s ≤ 940 ∧ gI C 6 3 1 = nI s ∧ gI R 11 12 140 = nI s) ∧ ((gI C 6 5 1 = 0 ∧ gI R 11 11 140 = 0) ∨ (gI C 6 5 1 = 3 ∧ gI R 11 11 140 = 4) ∨ (gI C 6 4 1 = nI q ∧ gI R 11 4 140 = nI q ∧ ((gI C 6 5 1 = 1 ∧ gI R 11 11 140 = 1 ∧ gJ C 6 6 1 = gJ R 11 17 140 ∧ 0 ≤ (gJ C 6 6 1).toInt ∧ (gJ C 6 6 1).toInt < 72057594037927936) ∨ (gI C 6 5 1 = 2 ∧ gI R 11 11 140 = 2 ∧ ∃ v, v ≤ 999 ∧ gI C 6 7 1 = nI v ∧ gI R 11 14 140 = nI v) ∨ (∃ c : Nat, (c = 40 ∨ c = 41 ∨ c = 59 ∨ c = 60 ∨ c = 61 ∨ c = 62) ∧ gI C 6 5 1 = nI c ∧ gI R 11 11 140 = 3 ∧ gI R 11 14 140 = nI c))))
def wN (w : Int64) : Nat := w.toBitVec.toNat
theorem wN_int {w : Int64} (h : wN w < 2 ^ 56) : 0 ≤ w.toInt ∧ w.toInt < 72057594037927936 := by
  have e : w.toInt = (wN w : Int) := by
    show w.toBitVec.toInt = (w.toBitVec.toNat : Int)
    rw [BitVec.toInt_eq_toNat_cond, if_pos (by show 2 * wN w < 2 ^ 64; omega)]
  rw [e]
  exact ⟨by omega, by have : (2:Nat) ^ 56 = 72057594037927936 := by decide
                      omega⟩
theorem wN_sh {w : Int64} {v k : Nat} (hk : k ≤ 6) (hv : v < 256) (h : wN w < 2 ^ (8 * k)) : wN ((w <<< ((8 : Int32).toInt64 &&& 63)) ||| (nI v).toInt64) < 2 ^ (8 * (k + 1)) := by
  have e1 : wN ((w <<< ((8 : Int32).toInt64 &&& 63)) ||| (nI v).toInt64) = (wN (w <<< ((8 : Int32).toInt64 &&& 63))) ||| wN ((nI v).toInt64) := by
    unfold wN; rw [Int64.toBitVec_or, BitVec.toNat_or]
  have e2 : wN ((nI v).toInt64) = v := by
    have : ∀ v : Fin 256, wN ((nI v.val).toInt64) = v.val := by decide +kernel
    exact this ⟨v, hv⟩
  have e3 : wN (w <<< ((8 : Int32).toInt64 &&& 63)) = wN w * 256 % 2 ^ 64 := by
    rw [show ((8 : Int32).toInt64 &&& 63) = 8 from by decide]
    unfold wN
    rw [Int64.toBitVec_shiftLeft]
    show (w.toBitVec <<< (8 : Nat)).toNat = _
    rw [BitVec.toNat_shiftLeft, Nat.shiftLeft_eq]
  rw [e1, e2, e3]
  refine Nat.or_lt_two_pow ?_ ?_
  · refine Nat.lt_of_le_of_lt (Nat.mod_le _ _) ?_
    rw [show 8 * (k + 1) = 8 * k + 8 by omega, Nat.pow_add]
    exact (Nat.mul_lt_mul_right (by decide)).mpr h
  · exact Nat.lt_of_lt_of_le (show v < 2 ^ 8 from hv) (Nat.pow_le_pow_right (n := 2) (i := 8) (by decide) (by omega))
theorem byte_of {x : Int32} (h : bB x) : (∃ v : Nat, v < 128 ∧ x = nI v ∧ x &&& 255 = nI v) ∨ (x < 0 ∧ ∃ v : Nat, 128 ≤ v ∧ v < 256 ∧ x &&& 255 = nI v) := by
  have key : ∀ i : Fin 256, ((∃ v : Fin 128, Int32.ofInt ((i.val : Int) - 128) = nI v.val ∧ Int32.ofInt ((i.val : Int) - 128) &&& 255 = nI v.val) ∨ (Int32.ofInt ((i.val : Int) - 128) < 0 ∧ ∃ v : Fin 128, Int32.ofInt ((i.val : Int) - 128) &&& 255 = nI (128 + v.val))) := by decide +kernel
  have hx : x = Int32.ofInt (((x.toInt + 128).toNat : Int) - 128) := by
    rw [Int.toNat_of_nonneg (by have := h.1; omega), show x.toInt + 128 - 128 = x.toInt by omega, Int32.ofInt_toInt]
  have k := key ⟨(x.toInt + 128).toNat, by have := h.1; have := h.2; omega⟩
  rw [hx]
  rcases k with ⟨v, k1, k2⟩ | ⟨k0, v, k1⟩
  · exact Or.inl ⟨v.val, v.isLt, k1, k2⟩
  · exact Or.inr ⟨k0, 128 + v.val, by omega, by have := v.isLt; omega, k1⟩
theorem m_peek {R : St} {L q : Nat} (hL : L ≤ 940) (h3 : gI R 11 3 140 = nI L) (h4 : gI R 11 4 140 = nI q) (hq : q < L) : fX11_peek 140 R = some (gA R 28 141 q &&& 255) := by
  unfold fX11_peek
  rw [h3, h4, if_neg (nI_ge hq (by omega)), igd (by omega) (by decide), nI_clamp (by omega)]
theorem m_peekE {R : St} {L q : Nat} (hL : L ≤ 940) (h3 : gI R 11 3 140 = nI L) (h4 : gI R 11 4 140 = nI q) (hq : L ≤ q) (hq2 : q ≤ 940) : fX11_peek 140 R = some (-1) := by
  unfold fX11_peek
  rw [h3, h4, if_pos (nI_le hq (by omega))]
def lett (v : Nat) : Bool := decide (97 ≤ v ∧ v ≤ 122)
def digt (v : Nat) : Bool := decide (48 ≤ v ∧ v ≤ 57)
theorem m_small (v : Nat) (h : v < 256) (S : St) : fX11_isSmall (nI v) S = b01 (lett v) := by
  have : ∀ v : Fin 256, (if nI v.val < (97 : Int32) then (0 : Int32) else if (122 : Int32) < nI v.val then 0 else 1) = b01 (lett v.val) := by decide +kernel
  exact this ⟨v, h⟩
theorem m_digit (v : Nat) (h : v < 256) (S : St) : fX11_isDigit (nI v) S = b01 (digt v) := by
  have : ∀ v : Fin 256, (if nI v.val < (48 : Int32) then (0 : Int32) else if (57 : Int32) < nI v.val then 0 else 1) = b01 (digt v.val) := by decide +kernel
  exact this ⟨v, h⟩
def wrdU (B : St) (c : Int32) : St := if (7 : Int32) ≤ gI B 11 13 140 then B else sJ B 11 17 140 (((gJ B 11 17 140) <<< ((8 : Int32).toInt64 &&& 63)) ||| c.toInt64)
def numU (B : St) (c : Int32) : St := if (3 : Int32) ≤ gI B 11 13 140 then B else sI B 11 14 140 ((((10 : Int32) * (gI B 11 14 140)) + c) - (48 : Int32))
def stpU (B : St) (c : Int32) : St := sI (sI (numU (wrdU B c) c) 11 13 140 (gI (numU (wrdU B c) c) 11 13 140 + 1)) 11 4 140 (gI (sI (numU (wrdU B c) c) 11 13 140 (gI (numU (wrdU B c) c) 11 13 140 + 1)) 11 4 140 + 1)
theorem wrd_i {B : St} {c : Int32} {c' k a : Nat} : gI (wrdU B c) c' k a = gI B c' k a := by unfold wrdU; split <;> rfl
theorem num_i {B : St} {c : Int32} {c' k a : Nat} (h : k ≠ 14) : gI (numU B c) c' k a = gI B c' k a := by
  unfold numU; split
  · rfl
  · exact gI_k h
theorem num_j {B : St} {c : Int32} {c' k a : Nat} : gJ (numU B c) c' k a = gJ B c' k a := by unfold numU; split <;> rfl
theorem num_a {B : St} {c : Int32} {c' a j : Nat} : gA (numU B c) c' a j = gA B c' a j := by unfold numU; split <;> rfl
theorem wrd_a {B : St} {c : Int32} {c' a j : Nat} : gA (wrdU B c) c' a j = gA B c' a j := by unfold wrdU; split <;> rfl
theorem stp_fr {R B : St} {c : Int32} (f : Fr XS R B) : Fr XS R (stpU B c) := by
  unfold stpU
  refine Fr_sI (Fr_sI ?_ (by unfold XS; omega)) (by unfold XS; omega)
  have f1 : Fr XS R (wrdU B c) := by
    unfold wrdU; split
    · exact f
    · exact Fr_sJ f (by unfold XS; omega)
  unfold numU; split
  · exact f1
  · exact Fr_sI f1 (by unfold XS; omega)
theorem s201_eq {k : Int32 → Int32 → St → Option St} {B : St} {y2 y3 c : Int32} (hp : fX11_peek 140 B = some c) : fX11_step_s201 k 140 y2 y3 B = k y2 (if y3 = 0 then 0 else if fX11_isSmall c B = y2 then 1 else 0) (stpU B c) := by
  have e248 : ∀ t, fX11_step_s248 k 140 y2 t (wrdU B c) = k y2 t (stpU B c) := by
    intro t
    have hpw : fX11_peek 140 (wrdU B c) = some c := by
      unfold fX11_peek at hp ⊢
      rw [wrd_i, wrd_i, wrd_a]; exact hp
    unfold fX11_step_s248 fX11_step_s275 fX11_step_s285 fX11_step_s295
    by_cases q : (3 : Int32) ≤ gI (wrdU B c) 11 13 140
    · rw [if_pos q]; unfold stpU numU; rw [if_pos q]
    · rw [if_neg q, hpw, ob_some]; unfold stpU numU; rw [if_neg q]
  have e7 : ∀ t, (if (7 : Int32) ≤ gI B 11 13 140 then fX11_step_s248 k 140 y2 t B else (fX11_peek 140 B).bind fun r => fX11_step_s248 k 140 y2 t (sJ B 11 17 140 (((gJ B 11 17 140) <<< ((8 : Int32).toInt64 &&& 63)) ||| r.toInt64))) = k y2 t (stpU B c) := by
    intro t
    rw [← e248 t]
    by_cases q : (7 : Int32) ≤ gI B 11 13 140
    · rw [if_pos q]; unfold wrdU; rw [if_pos q]
    · rw [if_neg q, hp, ob_some]; unfold wrdU; rw [if_neg q]
  unfold fX11_step_s201
  by_cases q : y3 = 0
  · rw [if_pos q, if_pos q]; exact e7 0
  · rw [if_neg q, if_neg q, hp, ob_some]
    by_cases q2 : fX11_isSmall c B = y2
    · rw [if_pos q2, if_pos q2]; rw [← hp]; exact e7 1
    · rw [if_neg q2, if_neg q2]; rw [← hp]; exact e7 0
