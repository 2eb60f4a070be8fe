-- title
def nb (x : Int32) : Int32 := vp_nar .byte x.toInt8.toInt32
def TC (S : St) (l : List Int32) : Prop := gI S 7 1 94 = nI l.length ∧ ∀ j, j < l.length → gA S 23 95 j = l.getD j 0
def TMm (S : St) (l : List Int32) : Prop := gI S 11 31 140 = nI l.length ∧ ∀ j, j < l.length → gA S 36 149 j = l.getD j 0
def XC : Nat → Nat → Prop := fun k a => (a = 94 ∧ k = 1) ∨ a = 95
def XM : Nat → Nat → Prop := fun k a => (a = 140 ∧ k = 31) ∨ a = 149
theorem getD_app {l : List Int32} {b : Int32} {j : Nat} : (l ++ [b]).getD j 0 = if j = l.length then b else l.getD j 0 := by
  rw [List.getD_eq_getElem?_getD, List.getElem?_append]
  by_cases q : j < l.length
  · rw [if_pos q, if_neg (by omega), List.getD_eq_getElem?_getD]
  · rw [if_neg q]
    by_cases r : j = l.length
    · rw [if_pos r, r, Nat.sub_self]; rfl
    · rw [if_neg r, List.getElem?_eq_none (by show 1 ≤ j - l.length; omega), List.getD_eq_getElem?_getD, List.getElem?_eq_none (by omega)]
theorem c_byte {S : St} {l : List Int32} (x : Int32) (h : TC S l) (hl : l.length < 64) : ∃ U, fX7_addByte 94 x S = some U ∧ Fr XC S U ∧ TC U (l ++ [nb x]) := by
  unfold fX7_addByte fX7_addByte_s23
  rw [h.1, if_neg (show ¬ (64 : Int32) ≤ nI l.length from nI_ge (b := 64) hl (by omega)), igd hl (by decide), nI_clamp (by omega)]
  refine ⟨_, rfl, Fr_sI (Fr_sA Fr_id (Or.inr rfl)) (Or.inl ⟨rfl, rfl⟩), ?_, fun j hj => ?_⟩
  · rw [gI_s, show gI (sA S 23 (94 + 1) l.length (vp_nar .byte x.toInt8.toInt32)) 7 1 94 = nI l.length from h.1, nI_1, List.length_append]; rfl
  · rw [getD_app]
    show gA (sA S 23 95 l.length (nb x)) 23 95 j = _
    rw [gA_if]
    rw [List.length_append] at hj
    by_cases q : j = l.length
    · rw [if_pos q, if_pos q]
    · rw [if_neg q, if_neg q]; exact h.2 j (by have : [nb x].length = 1 := rfl; omega)
theorem m_byte {S : St} {l : List Int32} (x : Int32) (h : TMm S l) (hl : l.length < 56) : ∃ U, fX11_lays 140 x S = some U ∧ Fr XM S U ∧ TMm U (l ++ [nb x]) := by
  unfold fX11_lays fX11_lays_s11
  rw [h.1, igd hl (by decide), nI_clamp (by omega)]
  refine ⟨_, rfl, Fr_sI (Fr_sA Fr_id (Or.inr rfl)) (Or.inl ⟨rfl, rfl⟩), ?_, fun j hj => ?_⟩
  · rw [gI_s, show gI (sA S 36 (140 + 9) l.length (vp_nar .byte x.toInt8.toInt32)) 11 31 140 = nI l.length from h.1, nI_1, List.length_append]; rfl
  · rw [getD_app]
    show gA (sA S 36 149 l.length (nb x)) 36 149 j = _
    rw [gA_if]
    rw [List.length_append] at hj
    by_cases q : j = l.length
    · rw [if_pos q, if_pos q]
    · rw [if_neg q, if_neg q]; exact h.2 j (by have : [nb x].length = 1 := rfl; omega)
-- names
def cB (x : Int64) (i : Nat) : Int32 := ((x >>> ((nI (8 * i)).toInt64 &&& 63)).toInt32 &&& 255)
def nmL (x : Int64) : Nat → List Int32
  | 0 => []
  | i + 1 => (if cB x i = 0 then [] else [nb (cB x i)]) ++ nmL x i
theorem nmL_le (x : Int64) (i : Nat) : (nmL x i).length ≤ i := by
  induction i with
  | zero => exact Nat.le_refl _
  | succ i ih =>
    show ((if cB x i = 0 then [] else [nb (cB x i)]) ++ nmL x i).length ≤ i + 1
    rw [List.length_append]
    split
    · show 0 + _ ≤ _; omega
    · show 1 + _ ≤ _; omega
theorem sh8 {i : Nat} (h : i < 7) : nI (8 * (i + 1)) + -8 = nI (8 * i) := (show ∀ i, i < 7 → nI (8 * (i + 1)) + -8 = nI (8 * i) by decide +kernel) i h
theorem l_nameC {x : Int64} : ∀ (i u : Nat) (y : Int32) (S : St) (l : List Int32), i ≤ 7 → i < u → (0 < i → y = nI (8 * (i - 1))) → (i = 0 → y = -8) → TC S l → l.length + i ≤ 64 → ∃ U, fX7_addName_h3 94 x u y S = some U ∧ Fr XC S U ∧ TC U (l ++ nmL x i) := by
  intro i
  induction i with
  | zero =>
    intro u y S l hi hu y1 y2 h hl
    obtain ⟨u, rfl⟩ : ∃ k', u = k' + 1 := ⟨u - 1, by omega⟩
    rw [fX7_addName_h3]; unfold fX7_addName_s3
    rw [y2 rfl, if_pos (by decide)]
    exact ⟨S, rfl, Fr_id, by show TC S (l ++ []); rw [List.append_nil]; exact h⟩
  | succ i ih =>
    intro u y S l hi hu y1 y2 h hl
    obtain ⟨u, rfl⟩ : ∃ k', u = k' + 1 := ⟨u - 1, by omega⟩
    have ey := y1 (by omega)
    rw [Nat.add_sub_cancel] at ey
    subst ey
    rw [fX7_addName_h3]; unfold fX7_addName_s3 fX7_addName_s17 fX7_addName_s28
    rw [if_neg (nI_pos (by omega))]
    have e8 : ∀ T l', TC T l' → l'.length + i ≤ 64 → ∃ U, fX7_addName_h3 94 x u (nI (8 * i) + -8) T = some U ∧ Fr XC T U ∧ TC U (l' ++ nmL x i) := fun T l' ht hl' => ih u _ T l' (by omega) (by omega) (fun h0 => by
      have := sh8 (i := i - 1) (by omega)
      rw [show i - 1 + 1 = i by omega] at this; exact this) (fun h0 => by rw [h0]; decide) ht hl'
    show ∃ U, (if cB x i = 0 then fX7_addName_h3 94 x u (nI (8 * i) + -8) S else (fX7_addByte 94 (cB x i) S).bind fun r => fX7_addName_h3 94 x u (nI (8 * i) + -8) r) = some U ∧ Fr XC S U ∧ TC U (l ++ ((if cB x i = 0 then [] else [nb (cB x i)]) ++ nmL x i))
    by_cases q : cB x i = 0
    · rw [if_pos q, if_pos q]; exact e8 S l h (by omega)
    · rw [if_neg q, if_neg q]
      obtain ⟨V, v1, v2, v3⟩ := c_byte (cB x i) h (by omega)
      obtain ⟨U, u1, u2, u3⟩ := e8 V _ v3 (by rw [List.length_append]; show l.length + 1 + i ≤ 64; omega)
      rw [v1, ob_some]
      exact ⟨U, u1, Fr_tr v2 u2, by rw [← List.append_assoc]; exact u3⟩
theorem and255 (a : Int64) : ((a &&& 255).toInt32 = 0) ↔ (a &&& 255) = 0 := by
  refine ⟨fun h => ?_, fun h => by rw [h]; rfl⟩
  have e1 : (a &&& 255).toBitVec.toNat < 256 := by
    rw [Int64.toBitVec_and, BitVec.toNat_and]
    exact Nat.lt_of_le_of_lt Nat.and_le_right (by decide)
  have e2 := congrArg (fun z : Int32 => z.toBitVec.toNat) h
  have e3 : (a &&& 255).toInt32.toBitVec.toNat = (a &&& 255).toBitVec.toNat % 2 ^ 32 := by
    rw [Int64.toBitVec_toInt32, BitVec.signExtend_eq_setWidth_of_le _ (by decide), BitVec.toNat_setWidth]
  have e4 : (a &&& 255).toBitVec.toNat = 0 := by
    have e5 : (a &&& 255).toInt32.toBitVec.toNat = 0 := e2
    rw [e3] at e5
    omega
  exact Int64.toBitVec_inj.mp (BitVec.eq_of_toNat_eq e4)
theorem l_nameR {x : Int64} : ∀ (i u : Nat) (y : Int32) (S : St) (l : List Int32), i ≤ 8 → i < u → (0 < i → y = nI (8 * (i - 1))) → (i = 0 → y = -8) → TMm S l → l.length + i ≤ 56 → ∃ U, fX11_spells_h3 140 x u y S = some U ∧ Fr XM S U ∧ TMm U (l ++ nmL x i) := by
  intro i
  induction i with
  | zero =>
    intro u y S l hi hu y1 y2 h hl
    obtain ⟨u, rfl⟩ : ∃ k', u = k' + 1 := ⟨u - 1, by omega⟩
    rw [fX11_spells_h3]; unfold fX11_spells_s3
    rw [y2 rfl, if_pos (by decide)]
    exact ⟨S, rfl, Fr_id, by show TMm S (l ++ []); rw [List.append_nil]; exact h⟩
  | succ i ih =>
    intro u y S l hi hu y1 y2 h hl
    obtain ⟨u, rfl⟩ : ∃ k', u = k' + 1 := ⟨u - 1, by omega⟩
    have ey := y1 (by omega)
    rw [Nat.add_sub_cancel] at ey
    subst ey
    have sh : ∀ i, i < 8 → 0 < i → nI (8 * i) + -8 = nI (8 * (i - 1)) := by decide +kernel
    have eb : ((x >>> ((nI (8 * i)).toInt64 &&& 63)) &&& (255 : Int64)).toInt32 = cB x i := Int64.toInt32_and _ _
    have ez : (lg_cmp ((x >>> ((nI (8 * i)).toInt64 &&& 63)) &&& (255 : Int64)) 0 = 0) ↔ cB x i = 0 := by rw [lg_cmp_eq, ← and255, eb]
    rw [fX11_spells_h3]; unfold fX11_spells_s3 fX11_spells_s31
    rw [if_neg (nI_pos (by omega)), eb]
    have e8 : ∀ T l', TMm T l' → l'.length + i ≤ 56 → ∃ U, fX11_spells_h3 140 x u (nI (8 * i) + -8) T = some U ∧ Fr XM T U ∧ TMm U (l' ++ nmL x i) := fun T l' ht hl' => ih u _ T l' (by omega) (by omega) (fun h0 => sh i (by omega) h0) (fun h0 => by rw [h0]; decide) ht hl'
    show ∃ U, _ ∧ Fr XM S U ∧ TMm U (l ++ ((if cB x i = 0 then [] else [nb (cB x i)]) ++ nmL x i))
    by_cases q : cB x i = 0
    · rw [if_pos (ez.mpr q), if_pos q]; exact e8 S l h (by omega)
    · rw [if_neg (fun r => q (ez.mp r)), if_neg q]
      obtain ⟨V, v1, v2, v3⟩ := m_byte (cB x i) h (by omega)
      obtain ⟨U, u1, u2, u3⟩ := e8 V _ v3 (by rw [List.length_append]; show l.length + 1 + i ≤ 56; omega)
      rw [v1, ob_some]
      exact ⟨U, u1, Fr_tr v2 u2, by rw [← List.append_assoc]; exact u3⟩
theorem c_name {S : St} {l : List Int32} (x : Int64) (h : TC S l) (hl : l.length + 7 ≤ 64) : ∃ U, fX7_addName 94 x S = some U ∧ Fr XC S U ∧ TC U (l ++ nmL x 7) := l_nameC 7 NN 48 S l (by omega) (by unfold NN; omega) (fun _ => rfl) (fun h => by omega) h hl
theorem m_name {S : St} {l : List Int32} (x : Int64) (h : TMm S l) (hl : l.length + 8 ≤ 56) : ∃ U, fX11_spells 140 x S = some U ∧ Fr XM S U ∧ TMm U (l ++ nmL x 8) := l_nameR 8 NN 56 S l (by omega) (by unfold NN; omega) (fun _ => rfl) (fun h => by omega) h hl
theorem sh_zero {x D : Int64} {d : Nat} (hD : (D.toBitVec.smod 64).toNat = d) (h0 : 0 ≤ x.toInt) (h : x.toInt < ((2 ^ d : Nat) : Int)) : x >>> D = 0 := by
  apply Int64.toInt_inj.mp
  show (x.toBitVec.sshiftRight (D.toBitVec.smod 64).toNat).toInt = _
  rw [hD, BitVec.toInt_sshiftRight, Int.shiftRight_eq_div_pow]
  exact Int.ediv_eq_zero_of_lt h0 h
theorem sh56 : (((nI (8 * 7)).toInt64 &&& 63).toBitVec.smod 64).toNat = 56 := by decide +kernel
theorem sh56z {x : Int64} (h0 : 0 ≤ x.toInt) (h : x.toInt < 72057594037927936) : x >>> ((nI (8 * 7)).toInt64 &&& 63) = 0 := sh_zero sh56 h0 (by
  have e : ((2 ^ 56 : Nat) : Int) = 72057594037927936 := by decide +kernel
  rw [e]; exact h)
theorem cB_top {x : Int64} (h0 : 0 ≤ x.toInt) (h : x.toInt < 72057594037927936) : cB x 7 = 0 := by
  unfold cB
  rw [sh56z h0 h]
  decide +kernel
theorem nmL_s (x : Int64) (i : Nat) : nmL x (i + 1) = (if cB x i = 0 then [] else [nb (cB x i)]) ++ nmL x i := rfl
theorem nm_top {x : Int64} (h0 : 0 ≤ x.toInt) (h : x.toInt < 72057594037927936) : nmL x 8 = nmL x 7 := by
  rw [nmL_s x 7, if_pos (cB_top h0 h), List.nil_append]
-- texts
def txL (i : Nat) : Nat → Nat → List Int32
  | 0, _ => []
  | m + 1, j => nb (sxC i j) :: txL i m (j + 1)
theorem l_textC {i : Nat} (hi : sxLen.getD i 0 ≤ 9) : ∀ (m j u : Nat) (S : St) (l : List Int32), j + m = sxLen.getD i 0 → m < u → TC S l → l.length + m ≤ 64 → ∃ U, fX7_addText_h2 94 i u (nI j) S = some U ∧ Fr XC S U ∧ TC U (l ++ txL i m j) := by
  intro m
  induction m with
  | zero =>
    intro j u S l hj hu h hl
    obtain ⟨u, rfl⟩ : ∃ k', u = k' + 1 := ⟨u - 1, by omega⟩
    rw [fX7_addText_h2]; unfold fX7_addText_s2
    rw [if_pos (show Int32.ofNat (sxLen.getD i 0) ≤ nI j from nI_le (a := sxLen.getD i 0) (by omega) (by omega))]
    exact ⟨S, rfl, Fr_id, by show TC S (l ++ []); rw [List.append_nil]; exact h⟩
  | succ m ih =>
    intro j u S l hj hu h hl
    obtain ⟨u, rfl⟩ : ∃ k', u = k' + 1 := ⟨u - 1, by omega⟩
    obtain ⟨V, v1, v2, v3⟩ := c_byte (sxC i j) h (by omega)
    obtain ⟨U, u1, u2, u3⟩ := ih (j + 1) u V _ (by omega) (by omega) v3 (by rw [List.length_append]; show l.length + 1 + m ≤ 64; omega)
    rw [fX7_addText_h2]; unfold fX7_addText_s2
    rw [if_neg (show ¬ Int32.ofNat (sxLen.getD i 0) ≤ nI j from nI_ge (b := sxLen.getD i 0) (by omega) (by omega)), igd (by omega) (by omega), nI_clamp (by omega), v1, ob_some, nI_1]
    refine ⟨U, u1, Fr_tr v2 u2, ?_⟩
    rw [List.append_assoc] at u3; exact u3
theorem c_text {S : St} {l : List Int32} (i : Nat) (hi : sxLen.getD i 0 ≤ 9) (h : TC S l) (hl : l.length + 9 ≤ 64) : ∃ U, fX7_addText 94 i S = some U ∧ Fr XC S U ∧ TC U (l ++ txL i (sxLen.getD i 0) 0) := l_textC hi _ 0 NN S l (by omega) (by unfold NN; omega) h (by omega)
theorem tx_y : txL 0 6 0 = [nb 32] ++ nmL 2036687218 8 ++ [nb 32] := by decide +kernel
theorem tx_b : txL 1 9 0 = [nb 32] ++ nmL 27696098611389806 8 ++ [nb 32] := by decide +kernel
theorem tx_m : txL 2 7 0 = [nb 32] ++ nmL 470020945000 8 ++ [nb 32] := by decide +kernel
theorem tx_d : txL 3 5 0 = [nb 32] ++ nmL 6578553 8 ++ [nb 32] := by decide +kernel
theorem tx_h : txL 4 5 0 = [nb 32] ++ nmL 1751477348 8 := by decide +kernel
theorem m_says {S : St} {l : List Int32} (x : Int64) (h : TMm S l) (hl : l.length + 9 ≤ 56) : ∃ U, fX11_says 140 x S = some U ∧ Fr XM S U ∧ TMm U (l ++ ([nb 32] ++ nmL x 8)) := by
  obtain ⟨V, v1, v2, v3⟩ := m_byte 32 h (by omega)
  obtain ⟨U, u1, u2, u3⟩ := m_name x v3 (by rw [List.length_append]; show l.length + 1 + 8 ≤ 56; omega)
  unfold fX11_says
  rw [v1, ob_some, u1, ob_some]
  exact ⟨U, rfl, Fr_tr v2 u2, by rw [List.append_assoc] at u3; exact u3⟩
-- figures
def dgs (n : Nat) : Nat → List Int32
  | 0 => [nb (nI (48 + n % 10))]
  | k + 1 => nb (nI (48 + n / 10 ^ (k + 1) % 10)) :: dgs n k
theorem dgs_len (n k : Nat) : (dgs n k).length = k + 1 := by
  induction k with
  | zero => rfl
  | succ k ih => show (dgs n k).length + 1 = _; rw [ih]
theorem p10 {k : Nat} (h : k ≤ 6) : 10 ^ k ≤ 1000000 ∧ 0 < 10 ^ k := (show ∀ k, k ≤ 6 → 10 ^ k ≤ 1000000 ∧ 0 < 10 ^ k by decide +kernel) k h
theorem dig {n k : Nat} (hn : n < 2 ^ 24) (hk : k ≤ 6) : (48 : Int32) + ((nI n / nI (10 ^ k)) - (nI n / nI (10 ^ k)) / 10 * 10) = nI (48 + n / 10 ^ k % 10) := by
  have := p10 hk
  have h1 : n / 10 ^ k ≤ n := Nat.div_le_self _ _
  rw [pk_div (by omega) (by omega) (by omega), show (10 : Int32) = nI 10 from rfl, pk_rem (by omega) (by omega) (by omega), show (48 : Int32) = nI 48 from rfl, nI_add]
theorem d10 {k : Nat} (hk : k < 6) : nI (10 ^ (k + 1)) / 10 = nI (10 ^ k) := (show ∀ k, k < 6 → nI (10 ^ (k + 1)) / 10 = nI (10 ^ k) by decide +kernel) k hk
theorem l_figC {n : Nat} (hn : n < 2 ^ 24) : ∀ (k u : Nat) (S : St) (l : List Int32), k ≤ 6 → k + 1 < u → (10 ^ k ≤ n ∨ k = 0) → TC S l → l.length + k + 1 ≤ 64 → ∃ U, fX7_addFigure_h3 94 (nI n) u (nI (10 ^ k)) S = some U ∧ Fr XC S U ∧ TC U (l ++ dgs n k) := by
  intro k
  induction k with
  | zero =>
    intro u S l hk hu hc h hl
    obtain ⟨u, rfl⟩ : ∃ k', u = k' + 1 + 1 := ⟨u - 2, by omega⟩
    obtain ⟨V, v1, v2, v3⟩ := c_byte (nI (48 + n % 10)) h (by omega)
    have e0 := dig hn (show 0 ≤ 6 by omega)
    rw [Nat.pow_zero, Nat.div_one] at e0
    have e1 : (48 : Int32) + ((nI n / 1) - (nI n / 1) / 10 * 10) = nI (48 + n % 10) := e0
    rw [show (10 : Nat) ^ 0 = 1 from rfl, show nI 1 = 1 from rfl]
    have e2 : fX7_addFigure_s18 (fX7_addFigure_h3 94 (nI n) (u + 1)) 94 (nI n) 1 S = some V := by
      unfold fX7_addFigure_s18 fX7_addFigure_s31 fX7_addFigure_s36
      rw [if_neg i10, e1, v1, ob_some, show (1 : Int32) / 10 = 0 from by decide, fX7_addFigure_h3]; unfold fX7_addFigure_s3
      rw [if_pos (by decide)]
    rw [fX7_addFigure_h3]; unfold fX7_addFigure_s3
    rw [if_neg (show ¬ (1 : Int32) < 1 by decide), if_pos (rfl : (1 : Int32) = 1), e2]
    refine ⟨V, ?_, v2, v3⟩
    split <;> rfl
  | succ k ih =>
    intro u S l hk hu hc h hl
    obtain ⟨u, rfl⟩ : ∃ k', u = k' + 1 := ⟨u - 1, by omega⟩
    have hc' : 10 ^ (k + 1) ≤ n := hc.resolve_right (by omega)
    have hp := p10 hk
    have hp1 := p10 (show k ≤ 6 by omega)
    have hpk : 10 ^ (k + 1) = 10 ^ k * 10 := Nat.pow_succ 10 k
    obtain ⟨V, v1, v2, v3⟩ := c_byte (nI (48 + n / 10 ^ (k + 1) % 10)) h (by omega)
    obtain ⟨U, u1, u2, u3⟩ := ih u V _ (by omega) (by omega) (Or.inl (by omega)) v3 (by rw [List.length_append]; show l.length + 1 + k + 1 ≤ 64; omega)
    rw [fX7_addFigure_h3]; unfold fX7_addFigure_s3 fX7_addFigure_s18 fX7_addFigure_s31 fX7_addFigure_s36
    rw [if_neg (show ¬ nI (10 ^ (k + 1)) < 1 from nI_nlt (b := 1) (by omega) (by omega)), if_pos (nI_le hc' (by omega)), if_neg (nI_z hp.2 (by omega)), dig hn hk, v1, ob_some, d10 (by omega)]
    refine ⟨U, u1, Fr_tr v2 u2, ?_⟩
    rw [List.append_assoc] at u3; exact u3
theorem s_figC {n k u : Nat} {S : St} (hn : n < 10 ^ (k + 1)) (hk : k < 6) : fX7_addFigure_h3 94 (nI n) (u + 1) (nI (10 ^ (k + 1))) S = fX7_addFigure_h3 94 (nI n) u (nI (10 ^ k)) S := by
  have hp := p10 (show k + 1 ≤ 6 by omega)
  have hp1 := p10 (show k ≤ 6 by omega)
  have hpk : 10 ^ (k + 1) = 10 ^ k * 10 := Nat.pow_succ 10 k
  rw [fX7_addFigure_h3]; unfold fX7_addFigure_s3 fX7_addFigure_s31 fX7_addFigure_s36
  rw [if_neg (show ¬ nI (10 ^ (k + 1)) < 1 from nI_nlt (b := 1) (by omega) (by omega)), if_neg (nI_ge hn (by omega)), if_neg (show ¬ nI (10 ^ (k + 1)) = 1 from fun e => by have := (nI_eq (b := 1) (by omega) (by omega)).mp e; omega), d10 hk]
def topD (n : Nat) : Nat := if n < 10 then 0 else if n < 100 then 1 else if n < 1000 then 2 else if n < 10000 then 3 else 4
theorem top_spec {n : Nat} (h : n < 100000) : topD n ≤ 4 ∧ (10 ^ topD n ≤ n ∨ topD n = 0) ∧ n < 10 ^ (topD n + 1) := by
  unfold topD
  split
  · exact ⟨by omega, Or.inr rfl, by show n < 10; omega⟩
  · split
    · exact ⟨by omega, Or.inl (by show 10 ≤ n; omega), by show n < 100; omega⟩
    · split
      · exact ⟨by omega, Or.inl (by show 100 ≤ n; omega), by show n < 1000; omega⟩
      · split
        · exact ⟨by omega, Or.inl (by show 1000 ≤ n; omega), by show n < 10000; omega⟩
        · exact ⟨by omega, Or.inl (by show 10000 ≤ n; omega), by show n < 100000; omega⟩
theorem c_fig {S : St} {l : List Int32} {n : Nat} (hn : n < 100000) (h : TC S l) (hl : l.length + 5 ≤ 64) : ∃ U, fX7_addFigure 94 (nI n) S = some U ∧ Fr XC S U ∧ TC U (l ++ dgs n (topD n)) := by
  obtain ⟨t1, t2, t3⟩ := top_spec hn
  have go : ∀ (m k u : Nat), k = topD n + m → k ≤ 6 → 100 + m ≤ u → ∃ U, fX7_addFigure_h3 94 (nI n) u (nI (10 ^ k)) S = some U ∧ Fr XC S U ∧ TC U (l ++ dgs n (topD n)) := by
    intro m
    induction m with
    | zero => intro k u hk h6 hu; rw [hk]; exact l_figC (by omega) (topD n) u S l (by omega) (by omega) t2 h (by omega)
    | succ m ih =>
      intro k u hk h6 hu
      obtain ⟨u, rfl⟩ : ∃ k', u = k' + 1 := ⟨u - 1, by omega⟩
      obtain ⟨k, rfl⟩ : ∃ k', k = k' + 1 := ⟨k - 1, by omega⟩
      rw [s_figC (Nat.lt_of_lt_of_le t3 (Nat.pow_le_pow_right (by omega) (by omega))) (by omega)]
      exact ih k u (by omega) (by omega) (by omega)
  exact go (6 - topD n) 6 NN (by omega) (by omega) (by unfold NN; omega)
theorem l_figR {n : Nat} {w : Int64} (hn : n < 2 ^ 24) : ∀ (k u : Nat) (S : St) (l : List Int32), k ≤ 6 → k + 1 < u → TMm S l → l.length + k + 1 ≤ 56 → ∃ U, fX11_saysOf_h33 140 w (nI n) u (nI (10 ^ k)) S = some U ∧ Fr XM S U ∧ TMm U (l ++ dgs n k) := by
  intro k
  induction k with
  | zero =>
    intro u S l hk hu h hl
    obtain ⟨u, rfl⟩ : ∃ k', u = k' + 1 + 1 := ⟨u - 2, by omega⟩
    obtain ⟨V, v1, v2, v3⟩ := m_byte (nI (48 + n % 10)) h (by omega)
    have e0 := dig hn (show 0 ≤ 6 by omega)
    rw [Nat.pow_zero, Nat.div_one] at e0
    have e1 : (48 : Int32) + ((nI n / 1) - (nI n / 1) / 10 * 10) = nI (48 + n % 10) := e0
    rw [show (10 : Nat) ^ 0 = 1 from rfl, show nI 1 = 1 from rfl]
    rw [fX11_saysOf_h33]; unfold fX11_saysOf_s33 fX11_saysOf_s59
    rw [if_neg (show ¬ (1 : Int32) ≤ 0 by decide), if_neg i10, e1, v1, ob_some, show (1 : Int32) / 10 = 0 from by decide, fX11_saysOf_h33]; unfold fX11_saysOf_s33
    rw [if_pos (show (0 : Int32) ≤ 0 by decide)]
    exact ⟨V, rfl, v2, v3⟩
  | succ k ih =>
    intro u S l hk hu h hl
    obtain ⟨u, rfl⟩ : ∃ k', u = k' + 1 := ⟨u - 1, by omega⟩
    have hp := p10 hk
    obtain ⟨V, v1, v2, v3⟩ := m_byte (nI (48 + n / 10 ^ (k + 1) % 10)) h (by omega)
    obtain ⟨U, u1, u2, u3⟩ := ih u V _ (by omega) (by omega) v3 (by rw [List.length_append]; show l.length + 1 + k + 1 ≤ 56; omega)
    rw [fX11_saysOf_h33]; unfold fX11_saysOf_s33 fX11_saysOf_s59
    rw [if_neg (nI_nle hp.2 (by omega)), if_neg (nI_z hp.2 (by omega)), dig hn hk, v1, ob_some, d10 (by omega)]
    refine ⟨U, u1, Fr_tr v2 u2, ?_⟩
    rw [List.append_assoc] at u3; exact u3
theorem m_fig {S : St} {l : List Int32} {n : Nat} {w : Int64} (hn : n < 100000) (h : TMm S l) (hl : l.length + 5 ≤ 56) : ∃ U, fX11_saysOf_h14 140 w (nI n) NN 1 S = some U ∧ Fr XM S U ∧ TMm U (l ++ dgs n (topD n)) := by
  obtain ⟨t1, t2, t3⟩ := top_spec hn
  have go : ∀ (m k u : Nat), k + m = topD n → 100 + m ≤ u → ∃ U, fX11_saysOf_h14 140 w (nI n) u (nI (10 ^ k)) S = some U ∧ Fr XM S U ∧ TMm U (l ++ dgs n (topD n)) := by
    intro m
    induction m with
    | zero =>
      intro k u hk hu
      obtain ⟨u, rfl⟩ : ∃ k', u = k' + 1 := ⟨u - 1, by omega⟩
      have hp := p10 (show k ≤ 6 by omega)
      rw [fX11_saysOf_h14]; unfold fX11_saysOf_s14
      have hd : n / 10 ^ k ≤ 9 := by
        rw [show k = topD n by omega]
        have : n / 10 ^ topD n < 10 := (Nat.div_lt_iff_lt_mul (p10 (show topD n ≤ 6 by omega)).2).mpr (by rw [Nat.pow_succ, Nat.mul_comm] at t3; exact t3)
        omega
      rw [if_neg (nI_z hp.2 (by omega)), pk_div (by omega) hp.2 (by omega), if_pos (show nI (n / 10 ^ k) ≤ 9 from nI_le (b := 9) hd (by omega)), show k = topD n by omega]
      exact l_figR (by omega) (topD n) NN S l (by omega) (by unfold NN; omega) h (by omega)
    | succ m ih =>
      intro k u hk hu
      obtain ⟨u, rfl⟩ : ∃ k', u = k' + 1 := ⟨u - 1, by omega⟩
      have hp := p10 (show k ≤ 6 by omega)
      have hp1 := p10 (show k + 1 ≤ 6 by omega)
      have hle : n / 10 ^ k ≤ n := Nat.div_le_self _ _
      rw [fX11_saysOf_h14]; unfold fX11_saysOf_s14 fX11_saysOf_s30
      have hd : 10 ≤ n / 10 ^ k := by
        rw [Nat.le_div_iff_mul_le hp.2, Nat.mul_comm, ← Nat.pow_succ]
        exact Nat.le_trans (Nat.pow_le_pow_right (by omega) (by omega)) (t2.resolve_right (by omega))
      rw [if_neg (nI_z hp.2 (by omega)), pk_div (by omega) hp.2 (by omega), if_neg (show ¬ nI (n / 10 ^ k) ≤ 9 from nI_ge (a := 9) (by omega) (by omega)), show (10 : Int32) = nI 10 from rfl, pk_mul, ← Nat.pow_succ]
      exact ih (k + 1) u (by omega) (by omega)
  exact go (topD n) 0 NN (by omega) (by unfold NN; omega)
theorem m_saysOf {S : St} {l : List Int32} {n : Nat} (w : Int64) (hn : n < 100000) (h : TMm S l) (hl : l.length + 15 ≤ 56) : ∃ U, fX11_saysOf 140 w (nI n) S = some U ∧ Fr XM S U ∧ TMm U (l ++ ([nb 32] ++ nmL w 8 ++ [nb 32]) ++ dgs n (topD n)) := by
  obtain ⟨A, a1, a2, a3⟩ := m_says w h (by omega)
  have hlen := nmL_le w 8
  have l1 : (l ++ ([nb 32] ++ nmL w 8)).length ≤ l.length + 9 := by rw [List.length_append, List.length_append]; show l.length + (1 + _) ≤ _; omega
  obtain ⟨B, b1, b2, b3⟩ := m_byte 32 a3 (by omega)
  obtain ⟨C, c1, c2, c3⟩ := m_fig (w := w) hn b3 (by rw [List.length_append]; show _ + 1 + 5 ≤ 56; omega)
  unfold fX11_saysOf
  rw [a1, ob_some, b1, ob_some, c1]
  refine ⟨C, rfl, Fr_tr a2 (Fr_tr b2 c2), ?_⟩
  rw [List.append_assoc l] at c3
  exact c3
