-- days on both sides: hold, skip, pass
abbrev DS : Type := (Nat → Nat) × (Nat → Int32) × (Nat → Int32)
def DC (S : St) (d n0 : Nat) (D : DS) : Prop := gI S 2 0 d = nI (D.1 0) ∧ gI S 2 2 d = nI (D.1 1) ∧ gI S 2 1 d = nI n0 ∧ ∀ p, p < n0 → gA S 15 (d + 1) p = nI (D.1 (2 + p)) ∧ gA S 16 (d + 2) p = D.2.1 p ∧ gA S 17 (d + 3) p = D.2.2 p
def DM (S : St) (n0 : Nat) (D : DS) : Prop := gA S 29 142 0 = nI n0 ∧ gA S 29 142 52 = nI (D.1 0) ∧ gA S 29 142 53 = nI (D.1 1) ∧ ∀ p, p < n0 → gA S 29 142 (54 + p) = nI (D.1 (2 + p)) ∧ gA S 29 142 (59 + p) = D.2.1 p ∧ gA S 29 142 (64 + p) = D.2.2 p
def DW (n0 : Nat) (D : DS) : Prop := D.1 0 ≤ 10000 ∧ D.1 1 < 32 ∧ ∀ p, p < n0 → D.1 (2 + p) ≤ 9999 + D.1 0
def isH (D : DS) (p : Nat) : Bool := decide (((nI (D.1 1) >>> (nI p &&& 31)) &&& 1) = 1)
def up1 {α : Type} (f : Nat → α) (i : Nat) (v : α) : Nat → α := fun j => if j = i then v else f j
theorem up1_s {α : Type} {f : Nat → α} {i : Nat} {v : α} : up1 f i v i = v := if_pos rfl
theorem up1_n {α : Type} {f : Nat → α} {i j : Nat} {v : α} (h : j ≠ i) : up1 f i v j = f j := if_neg h
def holdF (p : Nat) (D : DS) : DS := (up1 D.1 1 (D.1 1 ||| 2 ^ p), up1 D.2.1 p (D.2.1 p + 1), D.2.2)
def skipF (p k : Nat) (D : DS) : DS := (up1 D.1 (2 + p) (D.1 (2 + p) + k), D.2.1, up1 D.2.2 p (D.2.2 p + nI k))
def passF (g : Nat) (D : DS) : DS := (fun j => if j = 0 then D.1 0 + g else if j = 1 then 0 else if isH D (j - 2) = true then D.1 j + g - 1 else D.1 j + g, D.2.1, D.2.2)
theorem hold_0 {p : Nat} {D : DS} : (holdF p D).1 0 = D.1 0 := up1_n (f := D.1) (i := 1) (j := 0) (v := D.1 1 ||| 2 ^ p) (by omega)
theorem hold_1 {p : Nat} {D : DS} : (holdF p D).1 1 = D.1 1 ||| 2 ^ p := up1_s (f := D.1) (i := 1) (v := D.1 1 ||| 2 ^ p)
theorem hold_p {p i : Nat} {D : DS} : (holdF p D).1 (2 + i) = D.1 (2 + i) := up1_n (by omega)
theorem skip_0 {p k : Nat} {D : DS} : (skipF p k D).1 0 = D.1 0 := up1_n (by omega)
theorem skip_1 {p k : Nat} {D : DS} : (skipF p k D).1 1 = D.1 1 := up1_n (by omega)
theorem skip_s {p k : Nat} {D : DS} : (skipF p k D).1 (2 + p) = D.1 (2 + p) + k := up1_s
theorem skip_n {p k i : Nat} {D : DS} (h : i ≠ p) : (skipF p k D).1 (2 + i) = D.1 (2 + i) := up1_n (by omega)
theorem pass_p {g p : Nat} {D : DS} : (passF g D).1 (2 + p) = if isH D p = true then D.1 (2 + p) + g - 1 else D.1 (2 + p) + g := by
  show (if 2 + p = 0 then _ else if 2 + p = 1 then _ else if isH D (2 + p - 2) = true then _ else _) = _
  rw [if_neg (show ¬ 2 + p = 0 by omega), if_neg (show ¬ 2 + p = 1 by omega), show 2 + p - 2 = p by omega]
theorem or_bit {p x : Nat} (hp : p < 5) (hx : x < 32) : nI x ||| ((1 : Int32) <<< (nI p &&& 31)) = nI (x ||| 2 ^ p) ∧ (x ||| 2 ^ p) < 32 := (show ∀ p, p < 5 → ∀ x, x < 32 → nI x ||| ((1 : Int32) <<< (nI p &&& 31)) = nI (x ||| 2 ^ p) ∧ (x ||| 2 ^ p) < 32 by decide +kernel) p hp x hx
def XD (d : Nat) : Nat → Nat → Prop := fun _ a => d ≤ a ∧ a ≤ d + 3
/-- the reference's changes of its days: places 52 to 68 of its row, and the seed -/
def FR (S T : St) : Prop := (∀ c k a, ¬ (a = 140 ∧ k = 32) → gI T c k a = gI S c k a) ∧ (∀ c k a, gJ T c k a = gJ S c k a) ∧ (∀ c a j, ¬ (c = 29 ∧ a = 142 ∧ 52 ≤ j ∧ j < 69) → gA T c a j = gA S c a j) ∧ (∀ c a j, gB T c a j = gB S c a j) ∧ ∀ a j, gQ T a j = gQ S a j
theorem FR_id {S : St} : FR S S := ⟨fun _ _ _ _ => rfl, fun _ _ _ => rfl, fun _ _ _ _ => rfl, fun _ _ _ => rfl, fun _ _ => rfl⟩
theorem FR_tr {S T U : St} (h : FR S T) (g : FR T U) : FR S U := ⟨fun c k a n => (g.1 c k a n).trans (h.1 c k a n), fun c k a => (g.2.1 c k a).trans (h.2.1 c k a), fun c a j n => (g.2.2.1 c a j n).trans (h.2.2.1 c a j n), fun c a j => (g.2.2.2.1 c a j).trans (h.2.2.2.1 c a j), fun a j => (g.2.2.2.2 a j).trans (h.2.2.2.2 a j)⟩
theorem FR_sA {S T : St} {j : Nat} {v : Int32} (h : FR S T) (h1 : 52 ≤ j) (h2 : j < 69) : FR S (sA T 29 142 j v) := FR_tr h ⟨fun _ _ _ _ => rfl, fun _ _ _ => rfl, fun c a j' n => if_neg (fun q => n ⟨q.1, q.2.1, by omega, by omega⟩), fun _ _ _ => rfl, fun _ _ => rfl⟩
theorem FR_seed {S T : St} {v : Int32} (h : FR S T) : FR S (sI T 11 32 140 v) := FR_tr h ⟨fun c k a n => if_neg (fun q => n ⟨q.2.2, q.2.1⟩), fun _ _ _ => rfl, fun _ _ _ _ => rfl, fun _ _ _ => rfl, fun _ _ => rfl⟩
theorem FR.fr {S T : St} (h : FR S T) : Fr (fun k a => (a = 140 ∧ k = 32) ∨ a = 142) S T := ⟨fun c k a n => h.1 c k a (fun q => n (Or.inl q)), fun c k a _ => h.2.1 c k a, fun c a j n => h.2.2.1 c a j (fun q => n (Or.inr q.2.1)), fun c a j _ => h.2.2.2.1 c a j, fun a j _ => h.2.2.2.2 a j⟩
theorem FR.lo {S T : St} (h : FR S T) {j : Nat} (hj : j < 52) : gA T 29 142 j = gA S 29 142 j := h.2.2.1 _ _ _ (by omega)
theorem c_isH {S : St} {d n0 p : Nat} {D : DS} (h : DC S d n0 D) : fX2_isHeld d (nI p) S = b01 (isH D p) := by
  rw [c_isHeld, h.2.1]
  unfold isH
  by_cases q : ((nI (D.1 1) >>> (nI p &&& 31)) &&& 1) = 1
  · rw [if_pos q, decide_eq_true q]; rfl
  · rw [if_neg q, decide_eq_false q]; rfl
theorem m_isH {S : St} {n0 p : Nat} {D : DS} (h : DM S n0 D) : fX11_isHeld 140 (nI p) S = some (b01 (isH D p)) := by
  rw [m_isHeld, h.2.2.1]
  unfold isH
  by_cases q : ((nI (D.1 1) >>> (nI p &&& 31)) &&& 1) = 1
  · rw [if_pos q, decide_eq_true q]; rfl
  · rw [if_neg q, decide_eq_false q]; rfl
theorem c_hold {S : St} {d n0 p : Nat} {D : DS} (h : DC S d n0 D) (hn : n0 ≤ 5) (hp : p < n0) (hw : D.1 1 < 32) : (isH D p = true ∧ fX2_holdDay d (nI p) S = some (1, S)) ∨ (isH D p = false ∧ ∃ T, fX2_holdDay d (nI p) S = some (0, T) ∧ Fr (XD d) S T ∧ DC T d n0 (holdF p D)) := by
  have hh := c_isH (p := p) h
  obtain ⟨h1, h2, h3, h4⟩ := h
  obtain ⟨o1, o2⟩ := or_bit (show p < 5 by omega) hw
  unfold fX2_holdDay fX2_holdDay_s22 fX2_holdDay_s32
  rw [hh, if01]
  by_cases q : isH D p = true
  · exact Or.inl ⟨q, if_pos q⟩
  · refine Or.inr ⟨bnot q, sA (sI S 2 2 d (nI (D.1 1 ||| 2 ^ p))) 16 (d + 2) p (gA S 16 (d + 2) p + 1), ?_, Fr_sA (Fr_sI Fr_id ⟨Nat.le_refl _, by omega⟩) ⟨by omega, by omega⟩, ?_, ?_, ?_, fun i hi => ⟨?_, ?_, ?_⟩⟩
    · rw [if_neg q, igd (by omega) (by decide), igd (by omega) (by decide), nI_clamp (by omega), h2, o1]; rfl
    · show gI (sI S 2 2 d (nI (D.1 1 ||| 2 ^ p))) 2 0 d = _
      rw [gI_k (by decide), h1, hold_0]
    · rw [hold_1]; exact gI_s
    · show gI (sI S 2 2 d (nI (D.1 1 ||| 2 ^ p))) 2 1 d = _
      rw [gI_k (by decide), h3]
    · rw [hold_p]; exact (gA_c (by decide)).trans (h4 i hi).1
    · show _ = up1 D.2.1 p _ i
      by_cases r : i = p
      · subst r; rw [up1_s, ← (h4 i hi).2.1]; exact gA_s
      · rw [up1_n r]; exact (gA_j r).trans (h4 i hi).2.1
    · exact (gA_c (by decide)).trans (h4 i hi).2.2
theorem m_holds {S : St} {n0 p : Nat} {D : DS} (h : DM S n0 D) (hn : n0 ≤ 5) (hp : p < n0) (hw : D.1 1 < 32) : ∃ T, fX11_holds 140 (nI p) S = some T ∧ FR S T ∧ DM T n0 (holdF p D) := by
  obtain ⟨h0, h1, h2, h3⟩ := h
  obtain ⟨o1, o2⟩ := or_bit (show p < 5 by omega) hw
  refine ⟨sA (sA S 29 142 53 (nI (D.1 1 ||| 2 ^ p))) 29 142 (59 + p) (gA S 29 142 (59 + p) + 1), ?_, FR_sA (FR_sA FR_id (by omega) (by omega)) (by omega) (by omega), ?_, ?_, ?_, fun i hi => ⟨?_, ?_, ?_⟩⟩
  · unfold fX11_holds fX11_holds_s13
    rw [show (59 : Int32) + nI p = nI (59 + p) from nI_add 59 p, igd (by omega) (by decide), igd (by omega) (by decide), nI_clamp (by omega), show (140 : Nat) + 2 = 142 from rfl, h2, o1, gA_j (show 59 + p ≠ 53 by omega)]
  · exact (gA_j (by omega)).trans ((gA_j (by omega)).trans h0)
  · rw [hold_0]; exact (gA_j (by omega)).trans ((gA_j (by omega)).trans h1)
  · rw [hold_1]; exact (gA_j (by omega)).trans gA_s
  · rw [hold_p]; exact (gA_j (by omega)).trans ((gA_j (by omega)).trans (h3 i hi).1)
  · show _ = up1 D.2.1 p _ i
    by_cases r : i = p
    · subst r; rw [up1_s, ← (h3 i hi).2.1]; exact gA_s
    · rw [up1_n r]; exact (gA_j (by omega)).trans ((gA_j (by omega)).trans (h3 i hi).2.1)
  · exact (gA_j (by omega)).trans ((gA_j (by omega)).trans (h3 i hi).2.2)
theorem hold_W {n0 p : Nat} {D : DS} (hn : n0 ≤ 5) (hp : p < n0) (w : DW n0 D) : DW n0 (holdF p D) := by
  obtain ⟨o1, o2⟩ := or_bit (show p < 5 by omega) w.2.1
  refine ⟨?_, ?_, fun i hi => ?_⟩
  · rw [hold_0]; exact w.1
  · rw [hold_1]; exact o2
  · rw [hold_p, hold_0]; exact w.2.2 i hi
theorem c_skip {S : St} {d n0 p k : Nat} {D : DS} (h : DC S d n0 D) (hn : n0 ≤ 5) (hp : p < n0) (hw : DW n0 D) (hk : k ≤ 99) : (9999 < D.1 (2 + p) + k ∧ fX2_skipDays d (nI p) (nI k) S = some (1, S)) ∨ (D.1 (2 + p) + k ≤ 9999 ∧ ∃ T, fX2_skipDays d (nI p) (nI k) S = some (0, T) ∧ Fr (XD d) S T ∧ DC T d n0 (skipF p k D)) := by
  obtain ⟨h1, h2, h3, h4⟩ := h
  have hb := hw.2.2 p hp
  have hb0 := hw.1
  unfold fX2_skipDays fX2_skipDays_s26 fX2_skipDays_s36
  rw [igd (by omega) (by decide), nI_clamp (by omega), (h4 p hp).1, nI_add]
  by_cases q : D.1 (2 + p) + k ≤ 9999
  · refine Or.inr ⟨q, sA (sA S 15 (d + 1) p (nI (D.1 (2 + p) + k))) 17 (d + 3) p (gA S 17 (d + 3) p + nI k), ?_, Fr_sA (Fr_sA Fr_id ⟨by omega, by omega⟩) ⟨by omega, by omega⟩, ?_, ?_, ?_, fun i hi => ⟨?_, ?_, ?_⟩⟩
    · rw [if_pos (show nI (D.1 (2 + p) + k) ≤ 9999 from nI_le (b := 9999) q (by omega)), igc (by omega) (by decide), igc (by omega) (by decide), igc (by omega) (by decide), igc (by omega) (by decide)]
      rfl
    · rw [skip_0]; exact h1
    · rw [skip_1]; exact h2
    · exact h3
    · by_cases r : i = p
      · subst r; rw [skip_s]; exact (gA_c (by decide)).trans gA_s
      · rw [skip_n r]; exact (gA_c (by decide)).trans ((gA_j r).trans (h4 i hi).1)
    · exact (gA_c (by decide)).trans ((gA_c (by decide)).trans (h4 i hi).2.1)
    · show _ = up1 D.2.2 p _ i
      by_cases r : i = p
      · subst r; rw [up1_s, ← (h4 i hi).2.2]; exact gA_s
      · rw [up1_n r]; exact (gA_j r).trans ((gA_c (by decide)).trans (h4 i hi).2.2)
  · exact Or.inl ⟨by omega, if_neg (show ¬ nI (D.1 (2 + p) + k) ≤ 9999 from nI_ge (a := 9999) (by omega) (by omega))⟩
theorem m_why {S : St} {n0 p k : Nat} {D : DS} (h : DM S n0 D) (hn : n0 ≤ 5) (hp : p < n0) (hw : DW n0 D) (hk : k ≤ 99) : fX11_whySkip 140 (nI p) (nI k) S = some (if D.1 (2 + p) + k ≤ 9999 then 0 else 1) := by
  have hb := hw.2.2 p hp
  have hb0 := hw.1
  unfold fX11_whySkip
  rw [show (54 : Int32) + nI p = nI (54 + p) from nI_add 54 p, igd (by omega) (by decide), nI_clamp (by omega), show (140 : Nat) + 2 = 142 from rfl, (h.2.2.2 p hp).1, nI_add]
  by_cases q : D.1 (2 + p) + k ≤ 9999
  · rw [if_pos q, if_pos (show nI (D.1 (2 + p) + k) ≤ 9999 from nI_le (b := 9999) q (by omega))]
  · rw [if_neg q, if_neg (show ¬ nI (D.1 (2 + p) + k) ≤ 9999 from nI_ge (a := 9999) (by omega) (by omega))]
theorem m_skips {S : St} {n0 p k : Nat} {D : DS} (h : DM S n0 D) (hn : n0 ≤ 5) (hp : p < n0) : ∃ T, fX11_skips 140 (nI p) (nI k) S = some T ∧ FR S T ∧ DM T n0 (skipF p k D) := by
  obtain ⟨h0, h1, h2, h3⟩ := h
  refine ⟨sA (sA S 29 142 (54 + p) (nI (D.1 (2 + p) + k))) 29 142 (64 + p) (gA S 29 142 (64 + p) + nI k), ?_, FR_sA (FR_sA FR_id (by omega) (by omega)) (by omega) (by omega), ?_, ?_, ?_, fun i hi => ⟨?_, ?_, ?_⟩⟩
  · unfold fX11_skips fX11_skips_s13
    rw [show (54 : Int32) + nI p = nI (54 + p) from nI_add 54 p, igd (by omega) (by decide), igd (by omega) (by decide), nI_clamp (by omega), show (64 : Int32) + nI p = nI (64 + p) from nI_add 64 p, igd (by omega) (by decide), igd (by omega) (by decide), nI_clamp (by omega), show (140 : Nat) + 2 = 142 from rfl, (h3 p hp).1, nI_add, gA_j (show 64 + p ≠ 54 + p by omega)]
  · exact (gA_j (by omega)).trans ((gA_j (by omega)).trans h0)
  · rw [skip_0]; exact (gA_j (by omega)).trans ((gA_j (by omega)).trans h1)
  · rw [skip_1]; exact (gA_j (by omega)).trans ((gA_j (by omega)).trans h2)
  · by_cases r : i = p
    · subst r; rw [skip_s]; exact (gA_j (by omega)).trans gA_s
    · rw [skip_n r]; exact (gA_j (by omega)).trans ((gA_j (by omega)).trans (h3 i hi).1)
  · exact (gA_j (by omega)).trans ((gA_j (by omega)).trans (h3 i hi).2.1)
  · show _ = up1 D.2.2 p _ i
    by_cases r : i = p
    · subst r; rw [up1_s, ← (h3 i hi).2.2]; exact gA_s
    · rw [up1_n r]; exact (gA_j (by omega)).trans ((gA_j (by omega)).trans (h3 i hi).2.2)
theorem skip_W {n0 p k : Nat} {D : DS} (w : DW n0 D) (h : D.1 (2 + p) + k ≤ 9999) : DW n0 (skipF p k D) := by
  refine ⟨?_, ?_, fun i hi => ?_⟩
  · rw [skip_0]; exact w.1
  · rw [skip_1]; exact w.2.1
  · rw [skip_0]
    by_cases r : i = p
    · subst r; rw [skip_s]; omega
    · rw [skip_n r]; exact w.2.2 i hi
-- days that go by
theorem c_cntD {S : St} {d n0 p g : Nat} {D : DS} (hh : fX2_isHeld d (nI p) S = b01 (isH D p)) (hn : n0 ≤ 5) (hp : p < n0) (hc : gA S 15 (d + 1) p = nI (D.1 (2 + p))) (hg : 0 < g) (hg2 : g ≤ 20000) : fX2_countIn d (nI p) (nI g) S = some (nI (if isH D p = true then D.1 (2 + p) + g - 1 else D.1 (2 + p) + g)) := by
  unfold fX2_countIn fX2_countIn_s25
  rw [if_neg (nI_nle hg (by omega)), hh, if01, igd (by omega) (by decide), igd (by omega) (by decide), nI_clamp (by omega), hc, nI_add, show (1 : Int32) = nI 1 from rfl, pk_sub (by omega)]
  split <;> rfl
theorem l_pass {S : St} {d n0 g : Nat} {D : DS} (h : DC S d n0 D) (hn : n0 ≤ 5) (hg : 0 < g) (hg2 : g ≤ 20000) (x : Int32) : ∀ (m i u : Nat) (T : St), i + m = n0 → m < u → Fr (XD d) S T → gI T 2 0 d = nI (D.1 0) → gI T 2 2 d = nI (D.1 1) → gI T 2 1 d = nI n0 → (∀ p, p < n0 → gA T 16 (d + 2) p = D.2.1 p ∧ gA T 17 (d + 3) p = D.2.2 p) → (∀ p, p < i → gA T 15 (d + 1) p = nI ((passF g D).1 (2 + p))) → (∀ p, i ≤ p → p < n0 → gA T 15 (d + 1) p = nI (D.1 (2 + p))) → ∃ U, fX2_passDays_h25 d x u (nI g) (nI i) T = some (nI g, U) ∧ Fr (XD d) S U ∧ DC U d n0 (passF g D) := by
  intro m
  induction m with
  | zero =>
    intro i u T hi hu fr t0 t1 t2 t3 t4 t5
    obtain ⟨u, rfl⟩ : ∃ k', u = k' + 1 := ⟨u - 1, by omega⟩
    rw [fX2_passDays_h25]; unfold fX2_passDays_s25 fX2_passDays_s56 fX2_passDays_s66
    rw [t2, if_pos (nI_le (by omega) (by omega))]
    refine ⟨_, rfl, Fr_sI (Fr_sI fr ⟨Nat.le_refl _, by omega⟩) ⟨Nat.le_refl _, by omega⟩, ?_, ?_, ?_, fun p hp => ⟨?_, ?_, ?_⟩⟩
    · rw [gI_s, gI_k (by decide), t0, nI_add]; rfl
    · rw [gI_k (by decide), gI_s]; rfl
    · rw [gI_k (by decide), gI_k (by decide), t2]
    · exact t4 p (by omega)
    · exact (t3 p hp).1
    · exact (t3 p hp).2
  | succ m ih =>
    intro i u T hi hu fr t0 t1 t2 t3 t4 t5
    obtain ⟨u, rfl⟩ : ∃ k', u = k' + 1 := ⟨u - 1, by omega⟩
    have hh : fX2_isHeld d (nI i) T = b01 (isH D i) := by
      rw [c_isHeld, t1]; unfold isH
      by_cases q : ((nI (D.1 1) >>> (nI i &&& 31)) &&& 1) = 1
      · rw [if_pos q, decide_eq_true q]; rfl
      · rw [if_neg q, decide_eq_false q]; rfl
    rw [fX2_passDays_h25]; unfold fX2_passDays_s25 fX2_passDays_s45
    rw [t2, if_neg (nI_ge (by omega) (by omega)), c_cntD hh hn (by omega) (t5 i (Nat.le_refl _) (by omega)) hg hg2, ob_some, igd (by omega) (by decide), nI_clamp (by omega), nI_1]
    refine ih (i + 1) u _ (by omega) (by omega) (Fr_sA fr ⟨by omega, by omega⟩) t0 t1 t2 (fun p hp => ⟨(gA_c (by decide)).trans (t3 p hp).1, (gA_c (by decide)).trans (t3 p hp).2⟩) (fun p hp => ?_) (fun p hp1 hp2 => (gA_j (by omega)).trans (t5 p (by omega) hp2))
    by_cases r : p = i
    · subst r
      rw [gA_s, pass_p]
    · exact (gA_j r).trans (t4 p (by omega))
theorem c_pass {S : St} {d n0 N : Nat} {D : DS} (h : DC S d n0 D) (hn : n0 ≤ 5) (hw : DW n0 D) (hN : N ≤ 999) (hN0 : 0 < N) : (D.1 0 = 10000 ∧ fX2_passDays d (nI N) S = some (0, S)) ∨ (D.1 0 < 10000 ∧ ∃ g U, 0 < g ∧ g ≤ N ∧ g = (if 10000 - D.1 0 ≤ N then 10000 - D.1 0 else N) ∧ fX2_passDays d (nI N) S = some (nI g, U) ∧ Fr (XD d) S U ∧ DC U d n0 (passF g D)) := by
  have hb0 := hw.1
  have e : fX2_daysLeft d S = nI (10000 - D.1 0) := by
    unfold fX2_daysLeft
    rw [h.1, show (10000 : Int32) = nI 10000 from rfl, pk_sub hb0]
  unfold fX2_passDays fX2_passDays_s17
  rw [e]
  rcases Nat.lt_or_ge (D.1 0) 10000 with q | q
  · refine Or.inr ⟨q, ?_⟩
    by_cases r : 10000 - D.1 0 ≤ N
    · rw [if_pos (nI_le r (by omega)), if_pos (show 0 < nI (10000 - D.1 0) from nI_lt (a := 0) (by omega) (by omega)), if_pos r]
      obtain ⟨U, u1, u2, u3⟩ := l_pass h hn (g := 10000 - D.1 0) (by omega) (by omega) (nI N) n0 0 NN S (by omega) (by unfold NN; omega) Fr_id h.1 h.2.1 h.2.2.1 (fun p hp => (h.2.2.2 p hp).2) (fun p hp => by omega) (fun p _ hp => (h.2.2.2 p hp).1)
      exact ⟨_, U, by omega, by omega, rfl, u1, u2, u3⟩
    · rw [if_neg (nI_ge (by omega) (by omega)), if_pos (show 0 < nI N from nI_lt (a := 0) (by omega) (by omega)), if_neg r]
      obtain ⟨U, u1, u2, u3⟩ := l_pass h hn (g := N) (by omega) (by omega) (nI N) n0 0 NN S (by omega) (by unfold NN; omega) Fr_id h.1 h.2.1 h.2.2.1 (fun p hp => (h.2.2.2 p hp).2) (fun p hp => by omega) (fun p _ hp => (h.2.2.2 p hp).1)
      exact ⟨_, U, by omega, by omega, rfl, u1, u2, u3⟩
  · refine Or.inl ⟨by omega, ?_⟩
    rw [show 10000 - D.1 0 = 0 by omega, if_pos (nI_le (by omega) (by omega)), if_neg (show ¬ 0 < nI 0 by decide)]
theorem l_dayR {S : St} {n0 : Nat} {D : DS} (h : DM S n0 D) (hn : n0 ≤ 5) : ∀ (m i u : Nat) (T : St), i + m = n0 → m < u → FR S T → gA T 29 142 0 = nI n0 → gA T 29 142 52 = nI (D.1 0) → gA T 29 142 53 = nI (D.1 1) → (∀ p, p < n0 → gA T 29 142 (59 + p) = D.2.1 p ∧ gA T 29 142 (64 + p) = D.2.2 p) → (∀ p, p < i → gA T 29 142 (54 + p) = nI ((passF 1 D).1 (2 + p))) → (∀ p, i ≤ p → p < n0 → gA T 29 142 (54 + p) = nI (D.1 (2 + p))) → ∃ U, fX11_day_h2 140 u (nI i) T = some U ∧ FR S U ∧ DM U n0 (passF 1 D) := by
  intro m
  induction m with
  | zero =>
    intro i u T hi hu fr t0 t1 t2 t3 t4 t5
    obtain ⟨u, rfl⟩ : ∃ k', u = k' + 1 := ⟨u - 1, by omega⟩
    rw [fX11_day_h2]; unfold fX11_day_s2 fX11_day_s47
    rw [show (140 : Nat) + 2 = 142 from rfl, t0, if_pos (nI_le (by omega) (by omega))]
    refine ⟨_, rfl, FR_sA (FR_sA fr (by omega) (by omega)) (by omega) (by omega), ?_, ?_, ?_, fun p hp => ⟨?_, ?_, ?_⟩⟩
    · exact (gA_j (by omega)).trans ((gA_j (by omega)).trans t0)
    · rw [gA_s, gA_j (by omega), t1, nI_1]; rfl
    · exact (gA_j (by omega)).trans gA_s
    · exact (gA_j (by omega)).trans ((gA_j (by omega)).trans (t4 p (by omega)))
    · exact (gA_j (by omega)).trans ((gA_j (by omega)).trans (t3 p hp).1)
    · exact (gA_j (by omega)).trans ((gA_j (by omega)).trans (t3 p hp).2)
  | succ m ih =>
    intro i u T hi hu fr t0 t1 t2 t3 t4 t5
    obtain ⟨u, rfl⟩ : ∃ k', u = k' + 1 := ⟨u - 1, by omega⟩
    have hh : fX11_isHeld 140 (nI i) T = some (b01 (isH D i)) := by
      rw [m_isHeld, t2]; unfold isH
      by_cases q : ((nI (D.1 1) >>> (nI i &&& 31)) &&& 1) = 1
      · rw [if_pos q, decide_eq_true q]; rfl
      · rw [if_neg q, decide_eq_false q]; rfl
    have hF : (passF 1 D).1 (2 + i) = if isH D i = true then D.1 (2 + i) + 1 - 1 else D.1 (2 + i) + 1 := pass_p
    rw [fX11_day_h2]; unfold fX11_day_s2 fX11_day_s33
    rw [show (140 : Nat) + 2 = 142 from rfl, t0, if_neg (nI_ge (by omega) (by omega)), hh, ob_some, if01, show (54 : Int32) + nI i = nI (54 + i) from nI_add 54 i, igd (by omega) (by decide), igd (by omega) (by decide), nI_clamp (by omega), t5 i (Nat.le_refl _) (by omega), nI_1, nI_1]
    by_cases q : isH D i = true
    · rw [if_pos q]
      refine ih (i + 1) u T (by omega) (by omega) fr t0 t1 t2 t3 (fun p hp => ?_) (fun p hp1 hp2 => t5 p (by omega) hp2)
      by_cases r : p = i
      · subst r; rw [hF, if_pos q, t5 p (Nat.le_refl _) (by omega)]; rfl
      · exact t4 p (by omega)
    · rw [if_neg q]
      refine ih (i + 1) u _ (by omega) (by omega) (FR_sA fr (by omega) (by omega)) ((gA_j (by omega)).trans t0) ((gA_j (by omega)).trans t1) ((gA_j (by omega)).trans t2) (fun p hp => ⟨(gA_j (by omega)).trans (t3 p hp).1, (gA_j (by omega)).trans (t3 p hp).2⟩) (fun p hp => ?_) (fun p hp1 hp2 => (gA_j (by omega)).trans (t5 p (by omega) hp2))
      by_cases r : p = i
      · subst r; rw [hF, if_neg q]; exact gA_s
      · exact (gA_j (by omega)).trans (t4 p (by omega))
theorem m_day {S : St} {n0 : Nat} {D : DS} (h : DM S n0 D) (hn : n0 ≤ 5) : ∃ U, fX11_day 140 S = some U ∧ FR S U ∧ DM U n0 (passF 1 D) := l_dayR h hn n0 0 NN S (by omega) (by unfold NN; omega) FR_id h.1 h.2.1 h.2.2.1 (fun p hp => (h.2.2.2 p hp).2) (fun p hp => by omega) (fun p _ hp => (h.2.2.2 p hp).1)
theorem isH_0 {D : DS} (h : D.1 1 = 0) {p : Nat} (hp : p < 5) : isH D p = false := by
  unfold isH
  rw [h]
  exact (show ∀ p, p < 5 → decide (((nI 0 >>> (nI p &&& 31)) &&& 1) = 1) = false by decide +kernel) p hp
/-- two states of days alike as far as n0 -/
def DE (n0 : Nat) (D E : DS) : Prop := D.1 0 = E.1 0 ∧ D.1 1 = E.1 1 ∧ ∀ p, p < n0 → D.1 (2 + p) = E.1 (2 + p) ∧ D.2.1 p = E.2.1 p ∧ D.2.2 p = E.2.2 p
theorem DM_E {S : St} {n0 : Nat} {D E : DS} (e : DE n0 D E) (h : DM S n0 D) : DM S n0 E := by
  obtain ⟨h0, h1, h2, h3⟩ := h
  exact ⟨h0, by rw [h1, e.1], by rw [h2, e.2.1], fun p hp => by rw [(h3 p hp).1, (h3 p hp).2.1, (h3 p hp).2.2, (e.2.2 p hp).1, (e.2.2 p hp).2.1, (e.2.2 p hp).2.2]; exact ⟨rfl, rfl, rfl⟩⟩
theorem pass_pass {n0 g : Nat} {D : DS} (hn : n0 ≤ 5) (hg : 0 < g) : DE n0 (passF 1 (passF g D)) (passF (g + 1) D) := by
  refine ⟨?_, rfl, fun p hp => ⟨?_, rfl, rfl⟩⟩
  · show D.1 0 + g + 1 = D.1 0 + (g + 1); omega
  · have e1 : isH (passF g D) p = false := isH_0 rfl (by omega)
    rw [pass_p, e1, if_neg (by decide), pass_p, pass_p]
    split <;> omega
theorem pass_W {n0 g : Nat} {D : DS} (hn : n0 ≤ 5) (w : DW n0 D) (hg : 0 < g) (h : D.1 0 + g ≤ 10000) : DW n0 (passF g D) := by
  refine ⟨h, by show 0 < 32; omega, fun p hp => ?_⟩
  have := w.2.2 p hp
  rw [pass_p]
  show _ ≤ 9999 + (D.1 0 + g)
  split <;> omega
theorem l_goes {S : St} {n0 N g : Nat} {D : DS} (hn : n0 ≤ 5) (hw : DW n0 D) (hN : N ≤ 999) (hg : g = if 10000 - D.1 0 ≤ N then 10000 - D.1 0 else N) : ∀ (m i u : Nat) (T : St), i + m = g → m < u → 0 < i → FR S T → DM T n0 (passF i D) → ∃ U, fX11_goesOn_h2 140 (nI N) u (nI i) T = some (nI g, U) ∧ FR S U ∧ DM U n0 (passF g D) := by
  have hb0 := hw.1
  intro m
  induction m with
  | zero =>
    intro i u T hi hu hi0 fr t
    obtain ⟨u, rfl⟩ : ∃ k', u = k' + 1 := ⟨u - 1, by omega⟩
    have e52 : gA T 29 (140 + 2) 52 = nI (D.1 0 + i) := t.2.1
    rw [fX11_goesOn_h2]; unfold fX11_goesOn_s2
    rw [e52]
    rw [show i = g by omega] at t ⊢
    by_cases r : 10000 - D.1 0 ≤ N
    · rw [if_pos r] at hg
      by_cases r2 : N ≤ g
      · rw [if_pos (nI_le r2 (by omega))]; exact ⟨T, rfl, fr, t⟩
      · rw [if_neg (nI_ge (by omega) (by omega)), if_pos (show (10000 : Int32) ≤ nI _ from nI_le (a := 10000) (by omega) (by omega))]; exact ⟨T, rfl, fr, t⟩
    · rw [if_neg r] at hg
      rw [if_pos (nI_le (by omega) (by omega))]; exact ⟨T, rfl, fr, t⟩
  | succ m ih =>
    intro i u T hi hu hi0 fr t
    obtain ⟨u, rfl⟩ : ∃ k', u = k' + 1 := ⟨u - 1, by omega⟩
    have e52 : gA T 29 (140 + 2) 52 = nI (D.1 0 + i) := t.2.1
    have hgN : g ≤ N ∧ D.1 0 + g ≤ 10000 := by split at hg <;> omega
    obtain ⟨U, u1, u2, u3⟩ := m_day t hn
    rw [fX11_goesOn_h2]; unfold fX11_goesOn_s2
    rw [e52, if_neg (nI_ge (by omega) (by omega)), if_neg (show ¬ (10000 : Int32) ≤ nI _ from nI_ge (b := 10000) (by omega) (by omega)), u1, ob_some, nI_1]
    exact ih (i + 1) u U (by omega) (by omega) (by omega) (FR_tr fr u2) (DM_E (pass_pass hn hi0) u3)
theorem m_goes {S : St} {n0 N : Nat} {D : DS} (h : DM S n0 D) (hn : n0 ≤ 5) (hw : DW n0 D) (hN : N ≤ 999) (hN0 : 0 < N) (hd : D.1 0 < 10000) : ∃ U, fX11_goesOn 140 (nI N) S = some (nI (if 10000 - D.1 0 ≤ N then 10000 - D.1 0 else N), U) ∧ FR S U ∧ DM U n0 (passF (if 10000 - D.1 0 ≤ N then 10000 - D.1 0 else N) D) := by
  obtain ⟨K1, hK1⟩ : ∃ k, NN = k + 1 := ⟨999999, rfl⟩
  have hK2 : K1 = 999999 := by unfold NN at hK1; omega
  generalize hg : (if 10000 - D.1 0 ≤ N then 10000 - D.1 0 else N) = g
  have hg0 : 0 < g ∧ g ≤ N := by split at hg <;> omega
  have e52 : gA S 29 (140 + 2) 52 = nI (D.1 0) := h.2.1
  obtain ⟨U, u1, u2, u3⟩ := m_day h hn
  unfold fX11_goesOn
  rw [hK1, fX11_goesOn_h2]; unfold fX11_goesOn_s2
  rw [e52, if_neg (show ¬ nI N ≤ 0 from nI_nle hN0 (by omega)), if_neg (show ¬ (10000 : Int32) ≤ nI _ from nI_ge (b := 10000) (by omega) (by omega)), u1, ob_some]
  exact l_goes hn hw hN hg.symm (g - 1) 1 K1 U (by omega) (by omega) (by omega) u2 u3
