def tB (S : St) (n : Nat → Nat) (k p : Nat) : Bool := (ev (gA S 18 23) (lfS S n p) k).headD false
theorem b_head {S : St} {n : Nat → Nat} (w : WI S n) {k : Nat} (k1 : k ≤ 40) (k2 : gI S 5 3 22 = nI k) (k3 : gA S 29 142 69 = nI k) (k5 : ∀ i, i < k → stepOk (n 0) (n 1) (gA S 18 23 i) (gA S 19 24 i) (gA S 20 25 i) (gA S 29 142 (70 + 3 * i)) (gA S 29 142 (71 + 3 * i)) (gA S 29 142 (72 + 3 * i))) (k6 : ∀ i, i ≤ k → ∃ d, dptS (gA S 18 23) i = some d ∧ d ≤ 20) (k7 : dptS (gA S 18 23) k = some 1) {p : Nat} (hp : p < n 0) : fX5_isTrueOf 22 3 (nI p) S = some (b01 (tB S n k p)) ∧ ∀ T, Fr (fun _ a => a = 152) S T → ∃ U, fX11_isSaid 140 (nI p) T = some (b01 (tB S n k p), U) ∧ Fr (fun _ a => a = 152) S U := by
  have hlen := ev_len (lf := lfS S n p) k 1 k7
  obtain ⟨b, hb⟩ : ∃ b, ev (gA S 18 23) (lfS S n p) k = [b] := by
    cases he : ev (gA S 18 23) (lfS S n p) k with
    | nil => rw [he] at hlen; cases hlen
    | cons b r =>
      cases r with
      | nil => exact ⟨b, rfl⟩
      | cons c r => rw [he] at hlen; exact absurd hlen (by show ¬ r.length + 1 + 1 = 1; omega)
  have htb : tB S n k p = b := by unfold tB; rw [hb]; rfl
  rw [htb]
  refine ⟨?_, fun T fT => ?_⟩
  · have e := l_true w hp k1 k2 k5 k6 k 0 NN (by omega) (by unfold NN; omega)
    have e' : fX5_isTrueOf 22 3 (nI p) S = some (b01 (decide (vl (ev (gA S 18 23) (lfS S n p) k) % 2 = 1))) := e
    rw [e', hb]
    cases b <;> rfl
  · have q5 : ∀ i, i < k → (gA S 18 23 i = 1 ∧ gA S 29 142 (70 + 3 * i) = 20) ∨ (gA S 18 23 i = 2 ∧ gA S 29 142 (70 + 3 * i) = 21) ∨ (gA S 18 23 i = 3 ∧ gA S 29 142 (70 + 3 * i) = 22) ∨ (¬ gA S 18 23 i = 1 ∧ ¬ gA S 18 23 i = 2 ∧ ¬ gA S 18 23 i = 3 ∧ ∃ l b : Nat, l ≤ 8 ∧ gA S 29 142 (70 + 3 * i) = nI l ∧ gA S 29 142 (72 + 3 * i) = nI b ∧ b ≤ 999 ∧ (l = 2 → b < n 1) ∧ (l = 3 → b < n 0) ∧ (4 ≤ l → gA S 29 142 (71 + 3 * i) = 60 ∨ gA S 29 142 (71 + 3 * i) = 61 ∨ gA S 29 142 (71 + 3 * i) = 62) ∧ lfS S n p i = lfB n p l b (gA S 29 142 (71 + 3 * i))) := by
      intro i hi
      rcases k5 i hi with h | h | h | ⟨l, b, l1, l2, l3, l4, l5, l6, l7, l8, l9⟩
      · exact Or.inl h
      · exact Or.inr (Or.inl h)
      · exact Or.inr (Or.inr (Or.inl h))
      · refine Or.inr (Or.inr (Or.inr ⟨?_, ?_, ?_, l, b, l1, l3, l5, l6, l7, l8, fun h => (l9 h).1 ▸ (l9 h).2, ?_⟩))
        · rw [l2]; exact fun r => by have := (nI_eq (a := l + 4) (b := 1) (by omega) (by omega)).mp r; omega
        · rw [l2]; exact fun r => by have := (nI_eq (a := l + 4) (b := 2) (by omega) (by omega)).mp r; omega
        · rw [l2]; exact fun r => by have := (nI_eq (a := l + 4) (b := 3) (by omega) (by omega)).mp r; omega
        · unfold lfS
          rw [l2, l4, nI_clamp (by omega), nI_clamp (by omega), Nat.add_sub_cancel]
          by_cases h4 : 4 ≤ l
          · rw [(l9 h4).1]
          · rcases (show l = 0 ∨ l = 1 ∨ l = 2 ∨ l = 3 by omega) with rfl | rfl | rfl | rfl <;> rfl
    obtain ⟨U, u1, u2, u3⟩ := l_said w.wf hp k1 (gA S 18 23) (lfS S n p) (fun _ => 0) id id w.mr k3 q5 k6 k 0 NN T (by omega) (by unfold NN; omega) fT trivial
    rw [hb] at u3
    have u4 : gA U 39 152 0 = b01 b := u3.1
    rw [u4, nar01] at u1
    exact ⟨U, u1, u2⟩
theorem l_saidOut {C S : St} {n : Nat → Nat} (w : WI C n) (w2 : WI S n) {x1 : Int32} {B : Nat → Bool} (hc : ∀ p, p < n 0 → fX5_isTrueOf 22 3 (nI p) C = some (b01 (B p))) (hr : ∀ p, p < n 0 → ∀ T, Fr (fun _ a => a = 152) S T → ∃ U, fX11_isSaid 140 (nI p) T = some (b01 (B p), U) ∧ Fr (fun _ a => a = 152) S U) : ∀ (m i c u v : Nat) (T : St), i + m = n 0 → c ≤ i → m < u → m < v → Fr (fun _ a => a = 152) S T → ∃ r U, fX10_said_h19 0 x1 u (nI c) (nI i) C = some r ∧ fX11_said_h26 140 x1 v (nI c) (nI i) T = some (r, U) ∧ Fr (fun _ a => a = 152) S U ∧ (x1 < -1 → r = -1) := by
  have hn := w.wf.1.1
  have hc0 : gI C 8 2 4 = nI (n 0) := w.cw.1.1
  have hr0 : gA S 29 142 0 = nI (n 0) := w2.mr 0 (by omega)
  intro m
  induction m with
  | zero =>
    intro i c u v T hi hci hu hv fr
    obtain ⟨u, rfl⟩ : ∃ k', u = k' + 1 := ⟨u - 1, by omega⟩
    obtain ⟨v, rfl⟩ : ∃ k', v = k' + 1 := ⟨v - 1, by omega⟩
    rw [fX10_said_h19, fX11_said_h26]; unfold fX10_said_s19 fX11_said_s26
    have hT0 : gA T 29 142 0 = nI (n 0) := (fr.a (by omega)).trans hr0
    rw [show gI C 8 2 (0 + 3 + 1) = nI (n 0) from hc0, show gA T 29 (140 + 2) 0 = nI (n 0) from hT0, if_pos (nI_le (by omega) (by omega)), if_pos (nI_le (by omega) (by omega))]
    by_cases q : x1 = -1
    · rw [if_pos q, if_pos q]
      exact ⟨_, T, rfl, rfl, fr, fun h => absurd (q ▸ h) (by decide)⟩
    · rw [if_neg q, if_neg q]
      exact ⟨_, T, rfl, rfl, fr, fun _ => rfl⟩
  | succ m ih =>
    intro i c u v T hi hci hu hv fr
    obtain ⟨u, rfl⟩ : ∃ k', u = k' + 1 := ⟨u - 1, by omega⟩
    obtain ⟨v, rfl⟩ : ∃ k', v = k' + 1 := ⟨v - 1, by omega⟩
    rw [fX10_said_h19, fX11_said_h26]; unfold fX10_said_s19 fX11_said_s26
    have hT0 : gA T 29 142 0 = nI (n 0) := (fr.a (by omega)).trans hr0
    obtain ⟨U, u1, u2⟩ := hr i (by omega) T fr
    rw [show gI C 8 2 (0 + 3 + 1) = nI (n 0) from hc0, show gA T 29 (140 + 2) 0 = nI (n 0) from hT0, if_neg (nI_ge (by omega) (by omega)), if_neg (nI_ge (by omega) (by omega)), show fX5_isTrueOf (0 + 3 + 19) (0 + 3) (nI i) C = _ from hc i (by omega), ob_some, u1, ob_some]
    unfold fX10_said_s61 fX11_said_s41 fX11_said_s57
    rw [if01, if01, nI_1, nI_1]
    cases hB : B i with
    | false =>
      rw [if_neg (by decide), if_neg (by decide)]
      exact ih (i + 1) c u v U (by omega) (by omega) (by omega) (by omega) u2
    | true =>
      rw [if_pos rfl, if_pos rfl]
      by_cases q : nI c = x1
      · rw [if_pos q, if_pos q]
        exact ⟨_, U, rfl, rfl, u2, fun h => absurd (q ▸ h) (by
          rw [Int32.lt_iff_toInt_lt, nI_toInt (by omega)]
          have : ((-1 : Int32)).toInt = -1 := by decide
          omega)⟩
      · rw [if_neg q, if_neg q]
        exact ih (i + 1) (c + 1) u v U (by omega) (by omega) (by omega) (by omega) u2
theorem p_said : pr_said Inv := by
  intro S g x1
  obtain ⟨n, w, u, ri⟩ := id g
  have hn := w.wf.1.1
  obtain ⟨k, k1, k2, k3, k4, k5, k6, k7⟩ := w.2.2.2.2.2.1
  have gF : ∀ U, Fr (fun _ a => a = 152) (sI S 11 0 140 0) U → Inv U := fun U f => Inv_fr f (fun k a q => by unfold fAll fW fU fTp fFt fAl fTi fTl fIm fRs; omega) (Inv_th g)
  have e69 : gA (sI S 11 0 140 0) 29 (140 + 2) 69 = nI k := k3
  unfold fX10_said fX11_said fX11_said_s5
  rw [e69]
  by_cases q0 : k = 0
  · rw [if_pos (show gI S 5 4 (0 + 3 + 19) = 0 from k4.mpr q0), if_pos (show nI k = 0 from congrArg nI q0)]
    exact ⟨_, _, rfl, rfl, Inv_th g⟩
  · rw [if_neg (show ¬ gI S 5 4 (0 + 3 + 19) = 0 from fun h => q0 (k4.mp h)), if_neg (show ¬ nI k = 0 from fun h => q0 ((nI_eq (b := 0) (by omega) (by omega)).mp h))]
    have w' : WI (sI S 11 0 140 0) n := WI_fr (fr_th (S := S) (v := 0)) (fun k a q x => by obtain ⟨rfl, rfl⟩ := x; unfold fW at q; omega) w
    have b1 := fun p hp => (b_head w k1 k2 k3 k5 k6 (k7 (by omega)) (p := p) hp).1
    have b2 := fun p hp => (b_head w' k1 k2 k3 k5 k6 (k7 (by omega)) (p := p) hp).2
    obtain ⟨r, U, r1, r2, r3, r4⟩ := l_saidOut w w' (x1 := x1) (B := tB S n k) b1 b2 (n 0) 0 0 NN NN (sI S 11 0 140 0) (by omega) (by omega) (by unfold NN; omega) (by unfold NN; omega) Fr_id
    by_cases q : (-1 : Int32) ≤ x1
    · rw [if_pos q]
      exact ⟨r, U, r1, r2, gF U r3⟩
    · rw [if_neg q]
      have hr : r = -1 := r4 (Int32.not_le.mp q)
      exact ⟨r, _, r1, by rw [hr], Inv_th g⟩
