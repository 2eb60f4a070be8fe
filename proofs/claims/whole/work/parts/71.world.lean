-- copies of worlds; image, restore
theorem gJ_s {S : St} {c k a : Nat} {v : Int64} : gJ (sJ S c k a v) c k a = v := if_pos ⟨rfl, rfl, rfl⟩
theorem gJ_a {S : St} {c k a c' k' a' : Nat} {v : Int64} (h : a' ≠ a) : gJ (sJ S c k a v) c' k' a' = gJ S c' k' a' := if_neg (fun q => h q.2.2)
theorem c_pcopy {S : St} {d s : Nat} (h : s ≠ d) : (∀ k, 1 ≤ k → k ≤ 6 → gI (fX4_copyFrom d s S) 4 k d = gI S 4 k s) ∧ gJ (fX4_copyFrom d s S) 4 0 d = gJ S 4 0 s ∧ Fr (fun _ a => a = d) S (fX4_copyFrom d s S) := by
  unfold fX4_copyFrom fX4_copyFrom_s8 fX4_copyFrom_s16 fX4_copyFrom_s24 fX4_copyFrom_s32 fX4_copyFrom_s40 fX4_copyFrom_s48
  refine ⟨fun k k1 k2 => ?_, gJ_s, Fr_sI (Fr_sI (Fr_sI (Fr_sI (Fr_sI (Fr_sI (Fr_sJ Fr_id rfl) rfl) rfl) rfl) rfl) rfl) rfl⟩
  have e : k = 1 ∨ k = 2 ∨ k = 3 ∨ k = 4 ∨ k = 5 ∨ k = 6 := by omega
  rcases e with rfl | rfl | rfl | rfl | rfl | rfl
  · rw [gI_s, gI_a h, gI_a h, gI_a h, gI_a h, gI_a h]; rfl
  · rw [gI_k (by decide), gI_k (by decide), gI_k (by decide), gI_k (by decide), gI_k (by decide), gI_s]; rfl
  · rw [gI_k (by decide), gI_k (by decide), gI_k (by decide), gI_k (by decide), gI_s, gI_a h]; rfl
  · rw [gI_k (by decide), gI_k (by decide), gI_k (by decide), gI_s, gI_a h, gI_a h]; rfl
  · rw [gI_k (by decide), gI_k (by decide), gI_s, gI_a h, gI_a h, gI_a h]; rfl
  · rw [gI_k (by decide), gI_s, gI_a h, gI_a h, gI_a h, gI_a h]; rfl
theorem c_fcopy {S : St} {d s : Nat} (h : s ≠ d) : (∀ k, 1 ≤ k → k ≤ 3 → gI (fX3_copyFrom d s S) 3 k d = gI S 3 k s) ∧ gJ (fX3_copyFrom d s S) 3 0 d = gJ S 3 0 s ∧ Fr (fun _ a => a = d) S (fX3_copyFrom d s S) := by
  unfold fX3_copyFrom fX3_copyFrom_s8 fX3_copyFrom_s16 fX3_copyFrom_s24
  refine ⟨fun k k1 k2 => ?_, gJ_s, Fr_sI (Fr_sI (Fr_sI (Fr_sJ Fr_id rfl) rfl) rfl) rfl⟩
  have e : k = 1 ∨ k = 2 ∨ k = 3 := by omega
  rcases e with rfl | rfl | rfl
  · rw [gI_k (by decide), gI_k (by decide), gI_s]; rfl
  · rw [gI_k (by decide), gI_s, gI_a h]; rfl
  · rw [gI_s, gI_a h, gI_a h]; rfl
/-- a valley's cells are those of another's -/
def VC (S T : St) (d s : Nat) : Prop := (∀ p, p < 5 → (∀ k, 1 ≤ k → k ≤ 6 → gI T 4 k (d + 3 + p) = gI S 4 k (s + 3 + p)) ∧ gJ T 4 0 (d + 3 + p) = gJ S 4 0 (s + 3 + p)) ∧ (∀ f, f < 6 → (∀ k, 1 ≤ k → k ≤ 3 → gI T 3 k (d + 8 + f) = gI S 3 k (s + 8 + f)) ∧ gJ T 3 0 (d + 8 + f) = gJ S 3 0 (s + 8 + f)) ∧ ∀ k, 2 ≤ k → k ≤ 6 → gI T 8 k d = gI S 8 k s
theorem l_vf {S : St} {d s : Nat} (hds : s + 13 < d ∨ d + 13 < s) (hb : gI S 8 6 s = 0 ∨ gI S 8 6 s = 1) : ∀ (m i u : Nat) (T : St), i + m = 6 → m < u → Fr (fun _ a => d ≤ a ∧ a ≤ d + 13) S T → (∀ p, p < 5 → (∀ k, 1 ≤ k → k ≤ 6 → gI T 4 k (d + 3 + p) = gI S 4 k (s + 3 + p)) ∧ gJ T 4 0 (d + 3 + p) = gJ S 4 0 (s + 3 + p)) → (∀ f, f < i → (∀ k, 1 ≤ k → k ≤ 3 → gI T 3 k (d + 8 + f) = gI S 3 k (s + 8 + f)) ∧ gJ T 3 0 (d + 8 + f) = gJ S 3 0 (s + 8 + f)) → ∃ U, fX8_copyFrom_h30 d s u (nI i) T = some U ∧ Fr (fun _ a => d ≤ a ∧ a ≤ d + 13) S U ∧ VC S U d s := by
  intro m
  induction m with
  | zero =>
    intro i u T hi hu fr tp tf
    obtain ⟨u, rfl⟩ : ∃ k', u = k' + 1 := ⟨u - 1, by omega⟩
    have g : ∀ k, gI T 8 k s = gI S 8 k s := fun k => fr.i (by omega)
    have hsd : s ≠ d := by omega
    rw [fX8_copyFrom_h30]; unfold fX8_copyFrom_s30 fX8_copyFrom_s65 fX8_copyFrom_s73 fX8_copyFrom_s81 fX8_copyFrom_s89
    rw [show i = 6 by omega, if_pos (show (6 : Int32) ≤ nI 6 by decide)]
    repeat rw [gI_a hsd]
    rw [g, g, g, g, g, if_neg (fun q => q hb)]
    refine ⟨_, rfl, Fr_sI (Fr_sI (Fr_sI (Fr_sI (Fr_sI fr (by omega)) (by omega)) (by omega)) (by omega)) (by omega), fun p hp => ⟨fun k k1 k2 => ?_, (tp p hp).2⟩, fun f hf => ⟨fun k k1 k2 => ?_, (tf f (by omega)).2⟩, fun k k1 k2 => ?_⟩
    · rw [gI_c (by decide), gI_c (by decide), gI_c (by decide), gI_c (by decide), gI_c (by decide)]; exact (tp p hp).1 k k1 k2
    · rw [gI_c (by decide), gI_c (by decide), gI_c (by decide), gI_c (by decide), gI_c (by decide)]; exact (tf f (by omega)).1 k k1 k2
    · have e : k = 2 ∨ k = 3 ∨ k = 4 ∨ k = 5 ∨ k = 6 := by omega
      rcases e with rfl | rfl | rfl | rfl | rfl
      · rw [gI_k (by decide), gI_k (by decide), gI_k (by decide), gI_k (by decide), gI_s]
      · rw [gI_k (by decide), gI_k (by decide), gI_k (by decide), gI_s]
      · rw [gI_k (by decide), gI_k (by decide), gI_s]
      · rw [gI_k (by decide), gI_s]
      · rw [gI_s]
  | succ m ih =>
    intro i u T hi hu fr tp tf
    obtain ⟨u, rfl⟩ : ∃ k', u = k' + 1 := ⟨u - 1, by omega⟩
    rw [fX8_copyFrom_h30]; unfold fX8_copyFrom_s30 fX8_copyFrom_s51
    rw [if_neg (show ¬ (6 : Int32) ≤ nI i from nI_ge (b := 6) (by omega) (by omega)), igd (by omega) (by decide), igd (by omega) (by decide), nI_clamp (by omega), nI_1, show d + 2 + 6 + i = d + 8 + i by omega, show s + 2 + 6 + i = s + 8 + i by omega]
    obtain ⟨q1, q2, q3⟩ := c_fcopy (S := T) (d := d + 8 + i) (s := s + 8 + i) (by omega)
    refine ih (i + 1) u _ (by omega) (by omega) (Fr_tr fr (Fr_mo q3 (fun k a e => by omega))) (fun p hp => ⟨fun k k1 k2 => (q3.i (by omega)).trans ((tp p hp).1 k k1 k2), (q3.j (by omega)).trans (tp p hp).2⟩) (fun f hf => ?_)
    by_cases r : f = i
    · subst r
      exact ⟨fun k k1 k2 => (q1 k k1 k2).trans (fr.i (by omega)), q2.trans (fr.j (by omega))⟩
    · exact ⟨fun k k1 k2 => (q3.i (by omega)).trans ((tf f (by omega)).1 k k1 k2), (q3.j (by omega)).trans (tf f (by omega)).2⟩
theorem l_vp {S : St} {d s : Nat} (hds : s + 13 < d ∨ d + 13 < s) (hb : gI S 8 6 s = 0 ∨ gI S 8 6 s = 1) : ∀ (m i u : Nat) (T : St), i + m = 5 → m < u → Fr (fun _ a => d ≤ a ∧ a ≤ d + 13) S T → (∀ p, p < i → (∀ k, 1 ≤ k → k ≤ 6 → gI T 4 k (d + 3 + p) = gI S 4 k (s + 3 + p)) ∧ gJ T 4 0 (d + 3 + p) = gJ S 4 0 (s + 3 + p)) → ∃ U, fX8_copyFrom_h2 d s u (nI i) T = some U ∧ Fr (fun _ a => d ≤ a ∧ a ≤ d + 13) S U ∧ VC S U d s := by
  intro m
  induction m with
  | zero =>
    intro i u T hi hu fr tp
    obtain ⟨u, rfl⟩ : ∃ k', u = k' + 1 := ⟨u - 1, by omega⟩
    rw [fX8_copyFrom_h2]; unfold fX8_copyFrom_s2
    rw [show i = 5 by omega, if_pos (show (5 : Int32) ≤ nI 5 by decide)]
    exact l_vf hds hb 6 0 NN T (by omega) (by unfold NN; omega) fr (fun p hp => tp p (by omega)) (fun f hf => by omega)
  | succ m ih =>
    intro i u T hi hu fr tp
    obtain ⟨u, rfl⟩ : ∃ k', u = k' + 1 := ⟨u - 1, by omega⟩
    rw [fX8_copyFrom_h2]; unfold fX8_copyFrom_s2 fX8_copyFrom_s22
    rw [if_neg (show ¬ (5 : Int32) ≤ nI i from nI_ge (b := 5) (by omega) (by omega)), igd (by omega) (by decide), igd (by omega) (by decide), nI_clamp (by omega), nI_1, show d + 1 + 2 + i = d + 3 + i by omega, show s + 1 + 2 + i = s + 3 + i by omega]
    obtain ⟨q1, q2, q3⟩ := c_pcopy (S := T) (d := d + 3 + i) (s := s + 3 + i) (by omega)
    refine ih (i + 1) u _ (by omega) (by omega) (Fr_tr fr (Fr_mo q3 (fun k a e => by omega))) (fun p hp => ?_)
    by_cases r : p = i
    · subst r
      exact ⟨fun k k1 k2 => (q1 k k1 k2).trans (fr.i (by omega)), q2.trans (fr.j (by omega))⟩
    · exact ⟨fun k k1 k2 => (q3.i (by omega)).trans ((tp p (by omega)).1 k k1 k2), (q3.j (by omega)).trans (tp p (by omega)).2⟩
theorem c_vcopy {S : St} {d s : Nat} (hds : s + 13 < d ∨ d + 13 < s) (hb : gI S 8 6 s = 0 ∨ gI S 8 6 s = 1) : ∃ U, fX8_copyFrom d s S = some U ∧ Fr (fun _ a => d ≤ a ∧ a ≤ d + 13) S U ∧ VC S U d s := l_vp hds hb 5 0 NN S (by omega) (by unfold NN; omega) Fr_id (fun p hp => by omega)
theorem l_sc {S : St} {d s : Nat} (hds : s + 3 < d ∨ d + 3 < s) : ∀ (m i u : Nat) (T : St), i + m = 40 → m < u → Fr (XD d) S T → (∀ p, p < i → gA T 18 (d + 1) p = gA S 18 (s + 1) p ∧ gA T 19 (d + 2) p = gA S 19 (s + 2) p ∧ gA T 20 (d + 3) p = gA S 20 (s + 3) p) → ∃ U, fX5_copyFrom_h2 d s u (nI i) T = some U ∧ Fr (XD d) S U ∧ gI U 5 3 d = gI S 5 3 s ∧ gI U 5 4 d = gI S 5 4 s ∧ ∀ p, p < 40 → gA U 18 (d + 1) p = gA S 18 (s + 1) p ∧ gA U 19 (d + 2) p = gA S 19 (s + 2) p ∧ gA U 20 (d + 3) p = gA S 20 (s + 3) p := by
  intro m
  induction m with
  | zero =>
    intro i u T hi hu fr h
    obtain ⟨u, rfl⟩ : ∃ k', u = k' + 1 := ⟨u - 1, by omega⟩
    have g : ∀ k, gI T 5 k s = gI S 5 k s := fun k => fr.i (by unfold XD; omega)
    rw [fX5_copyFrom_h2]; unfold fX5_copyFrom_s2 fX5_copyFrom_s58
    rw [show i = 40 by omega, if_pos (show (40 : Int32) ≤ nI 40 by decide), gI_k (by decide), g, g]
    exact ⟨_, rfl, Fr_sI (Fr_sI fr ⟨Nat.le_refl _, by omega⟩) ⟨Nat.le_refl _, by omega⟩, (gI_k (by decide)).trans gI_s, gI_s, fun p hp => h p (by omega)⟩
  | succ m ih =>
    intro i u T hi hu fr h
    obtain ⟨u, rfl⟩ : ∃ k', u = k' + 1 := ⟨u - 1, by omega⟩
    rw [fX5_copyFrom_h2]; unfold fX5_copyFrom_s2 fX5_copyFrom_s20 fX5_copyFrom_s32 fX5_copyFrom_s44
    rw [if_neg (show ¬ (40 : Int32) ≤ nI i from nI_ge (b := 40) (by omega) (by omega))]
    repeat rw [igd (show i < 40 by omega) (by decide)]
    rw [nI_clamp (by omega), nI_1]
    have f1 : gA T 18 (s + 1) i = gA S 18 (s + 1) i := fr.a (by unfold XD; omega)
    have f2 : gA T 19 (s + 2) i = gA S 19 (s + 2) i := fr.a (by unfold XD; omega)
    have f3 : gA T 20 (s + 3) i = gA S 20 (s + 3) i := fr.a (by unfold XD; omega)
    have e2 : gA (sA T 18 (d + 1) i (gA T 18 (s + 1) i)) 19 (s + 2) i = gA S 19 (s + 2) i := (gA_c (by decide)).trans f2
    have e3 : gA (sA (sA T 18 (d + 1) i (gA T 18 (s + 1) i)) 19 (d + 2) i (gA S 19 (s + 2) i)) 20 (s + 3) i = gA S 20 (s + 3) i := (gA_c (by decide)).trans ((gA_c (by decide)).trans f3)
    rw [e2, e3, f1]
    refine ih (i + 1) u _ (by omega) (by omega) (Fr_sA (Fr_sA (Fr_sA fr ⟨by omega, by omega⟩) ⟨by omega, by omega⟩) ⟨by omega, by omega⟩) (fun p hp => ?_)
    by_cases r : p = i
    · subst r
      exact ⟨(gA_c (by decide)).trans ((gA_c (by decide)).trans gA_s), (gA_c (by decide)).trans gA_s, gA_s⟩
    · obtain ⟨q1, q2, q3⟩ := h p (by omega)
      exact ⟨(gA_c (by decide)).trans ((gA_c (by decide)).trans ((gA_j r).trans q1)), (gA_c (by decide)).trans ((gA_j r).trans ((gA_c (by decide)).trans q2)), (gA_j r).trans ((gA_c (by decide)).trans ((gA_c (by decide)).trans q3))⟩
theorem dptS_eq {f g : Nat → Int32} : ∀ k, (∀ i, i < k → f i = g i) → dptS f k = dptS g k := by
  intro k
  induction k with
  | zero => intro _; rfl
  | succ k ih =>
    intro h
    have e := ih (fun i hi => h i (by omega))
    show (match dptS f k with | none => none | some d => if f k = 1 then _ else if f k = 2 ∨ f k = 3 then _ else _) = (match dptS g k with | none => none | some d => if g k = 1 then _ else if g k = 2 ∨ g k = 3 then _ else _)
    rw [e, h k (by omega)]
theorem SN_cp {S T : St} {c d n0 n1 : Nat} {rd : Nat → Int32} (h3 : gI T 5 3 d = gI S 5 3 c) (h4 : gI T 5 4 d = gI S 5 4 c) (ha : ∀ p, p < 40 → gA T 18 (d + 1) p = gA S 18 (c + 1) p ∧ gA T 19 (d + 2) p = gA S 19 (c + 2) p ∧ gA T 20 (d + 3) p = gA S 20 (c + 3) p) (g : SN S c rd n0 n1) : SN T d rd n0 n1 := by
  obtain ⟨k, k1, k2, k3, k4, k5, k6, k7⟩ := g
  have e : ∀ i, i ≤ k → dptS (gA T 18 (d + 1)) i = dptS (gA S 18 (c + 1)) i := fun i hi => dptS_eq i (fun j hj => (ha j (by omega)).1)
  refine ⟨k, k1, h3.trans k2, k3, by rw [h4]; exact k4, fun i hi => ?_, fun i hi => by rw [e i hi]; exact k6 i hi, fun hk => by rw [e k (Nat.le_refl _)]; exact k7 hk⟩
  obtain ⟨q1, q2, q3⟩ := ha i (by omega)
  rw [q1, q2, q3]; exact k5 i hi
theorem c_wcopy {S : St} {d s : Nat} {rd : Nat → Int32} {nm : Nat → Int64} {n : Nat → Nat} (hds : s + 22 < d ∨ d + 22 < s) (w : WIw S s rd nm n) : ∃ T, fX9_copyFrom d s S = some T ∧ Fr (fun _ a => d + 1 ≤ a ∧ a ≤ d + 22) S T ∧ WIw T d rd nm n := by
  obtain ⟨g1, g2, ⟨a1, a2, a3, a4, a5⟩, g4, g5, g6, g7, g8⟩ := w
  have hn := g1.1.1
  have hn1 := g1.1.2.1
  obtain ⟨A, b1, b2, b3⟩ := c_vcopy (S := S) (d := d + 1) (s := s + 1) (by omega) g8
  have hD : DC A (s + 15) (n 0) (fun j => n (52 + j), fun p => rd (59 + p), fun p => rd (64 + p)) := by
    refine DC_fr b2 (fun k a x1 x2 => by omega) ⟨a4.1, a4.2.1, a4.2.2, fun p hp => ⟨?_, (g4 p hp).1, (g4 p hp).2⟩⟩
    show _ = nI (n (52 + (2 + p)))
    rw [show 52 + (2 + p) = 54 + p by omega]; exact a5 p hp
  obtain ⟨B, c1, c2, c3⟩ := c_copy (d := d + 15) (s := s + 15) (by omega) hn hD
  obtain ⟨C, d1, d2, d3, d4, d5⟩ := l_sc (S := B) (d := d + 19) (s := s + 19) (by omega) 40 0 NN B (by omega) (by unfold NN; omega) Fr_id (fun p hp => by omega)
  have d1' : fX5_copyFrom (d + 19) (s + 19) B = some C := d1
  have f1 : Fr (fun _ a => d + 1 ≤ a ∧ a ≤ d + 22) S A := Fr_mo b2 (fun k a q => by omega)
  have f2 : Fr (fun _ a => d + 15 ≤ a ∧ a ≤ d + 22) A C := Fr_tr (Fr_mo c2 (fun k a q => by unfold XD at q; omega)) (Fr_mo d2 (fun k a q => by unfold XD at q; omega))
  have f3 : Fr (fun _ a => d + 1 ≤ a ∧ a ≤ d + 22) S B := Fr_tr f1 (Fr_mo c2 (fun k a q => by unfold XD at q; omega))
  refine ⟨C, ?_, Fr_tr f1 (Fr_mo f2 (fun k a q => by omega)), g1, g2, ⟨?_, fun p hp => ?_, fun f hf => ?_, ?_, fun p hp => ?_⟩, fun p hp => ?_, ⟨fun p hp => ?_, fun f hf => ?_⟩, ?_, g7, ?_⟩
  · unfold fX9_copyFrom
    rw [b1, ob_some, c1, ob_some, d1', ob_some]
  · rw [f2.i (by omega), f2.i (by omega), f2.i (by omega), f2.i (by omega), b3.2.2 2 (by omega) (by omega), b3.2.2 3 (by omega) (by omega), b3.2.2 4 (by omega) (by omega), b3.2.2 5 (by omega) (by omega)]; exact a1
  · have q := (b3.1 p (by omega)).1
    unfold CP
    rw [show d + 4 + p = d + 1 + 3 + p by omega, f2.i (by omega), f2.i (by omega), f2.i (by omega), f2.i (by omega), f2.i (by omega), q 2 (by omega) (by omega), q 3 (by omega) (by omega), q 4 (by omega) (by omega), q 5 (by omega) (by omega), q 6 (by omega) (by omega), show s + 1 + 3 + p = s + 4 + p by omega]
    exact a2 p hp
  · have q := (b3.2.1 f (by omega)).1
    rw [show d + 9 + f = d + 1 + 8 + f by omega, f2.i (by omega), f2.i (by omega), f2.i (by omega), q 1 (by omega) (by omega), q 2 (by omega) (by omega), q 3 (by omega) (by omega), show s + 1 + 8 + f = s + 9 + f by omega]
    exact a3 f hf
  · obtain ⟨e0, e1, e2, e3⟩ := DC_fr d2 (fun k a x1 x2 => by unfold XD; omega) c3
    exact ⟨e0, e1, e2⟩
  · obtain ⟨e0, e1, e2, e3⟩ := DC_fr d2 (fun k a x1 x2 => by unfold XD; omega) c3
    have := (e3 p hp).1
    rw [show 54 + p = 52 + (2 + p) by omega]; exact this
  · obtain ⟨e0, e1, e2, e3⟩ := DC_fr d2 (fun k a x1 x2 => by unfold XD; omega) c3
    exact (e3 p hp).2
  · rw [show d + 4 + p = d + 1 + 3 + p by omega, f2.j (by omega), (b3.1 p (by omega)).2, show s + 1 + 3 + p = s + 4 + p by omega]; exact g5.1 p hp
  · rw [show d + 9 + f = d + 1 + 8 + f by omega, f2.j (by omega), (b3.2.1 f (by omega)).2, show s + 1 + 8 + f = s + 9 + f by omega]; exact g5.2 f hf
  · refine SN_cp d3 d4 d5 ?_
    exact SN_fr f3 (fun k a x1 x2 => by omega) (fun j _ => rfl) g6
  · rw [f2.i (by omega), b3.2.2 6 (by omega) (by omega)]; exact g8
-- the reference's image
theorem gB_s {S : St} {c a j : Nat} {v : Int64} : gB (sB S c a j v) c a j = v := if_pos ⟨rfl, rfl, rfl⟩
theorem gB_j {S : St} {c a j c' a' j' : Nat} {v : Int64} (h : j' ≠ j) : gB (sB S c a j v) c' a' j' = gB S c' a' j' := if_neg (fun q => h q.2.2)
theorem gB_c {S : St} {c a j c' a' j' : Nat} {v : Int64} (h : c' ≠ c) : gB (sB S c a j v) c' a' j' = gB S c' a' j' := if_neg (fun q => h q.1)
theorem l_im2 {S : St} {k : Nat} (hk : k < 2) : ∀ (m i u : Nat) (T : St), i + m = 11 → m < u → Fr (fun _ a => 153 ≤ a ∧ a ≤ 155) S T → (∀ j, j < i → gB T 41 154 (11 * k + j) = gB S 32 145 j) → (∀ j, j < 11 * k ∨ 11 * k + i ≤ j → gB T 41 154 j = gB S 41 154 j) → ∃ U, fX11_image_h51 140 (nI k) u (nI i) T = some (1, sA U 42 155 k 1) ∧ Fr (fun _ a => 153 ≤ a ∧ a ≤ 155) S U ∧ (∀ c j, gA U c 153 j = gA T c 153 j) ∧ (∀ c j, gA U c 155 j = gA T c 155 j) ∧ (∀ j, j < 11 → gB U 41 154 (11 * k + j) = gB S 32 145 j) ∧ ∀ j, j < 11 * k ∨ 11 * k + 11 ≤ j → gB U 41 154 j = gB S 41 154 j := by
  intro m
  induction m with
  | zero =>
    intro i u T hi hu fr h1 h2
    obtain ⟨u, rfl⟩ : ∃ k', u = k' + 1 := ⟨u - 1, by omega⟩
    rw [fX11_image_h51]; unfold fX11_image_s51 fX11_image_s87
    rw [show i = 11 by omega, if_pos (show (11 : Int32) ≤ nI 11 by decide), igd hk (by decide), nI_clamp (by omega), vz1]
    exact ⟨T, rfl, fr, fun _ _ => rfl, fun _ _ => rfl, fun j hj => h1 j (by omega), fun j hj => h2 j (by omega)⟩
  | succ m ih =>
    intro i u T hi hu fr h1 h2
    obtain ⟨u, rfl⟩ : ∃ k', u = k' + 1 := ⟨u - 1, by omega⟩
    have e1 : gB T 32 145 i = gB S 32 145 i := fr.b (by omega)
    rw [fX11_image_h51]; unfold fX11_image_s51 fX11_image_s74
    rw [if_neg (show ¬ (11 : Int32) ≤ nI i from nI_ge (b := 11) (by omega) (by omega)), igd (by omega) (by decide), show (11 : Int32) = nI 11 from rfl, pk_mul, nI_add, igd (by omega) (by decide), nI_clamp (by omega), nI_clamp (by omega), nI_1, show (140 : Nat) + 5 = 145 from rfl, show (140 : Nat) + 14 = 154 from rfl, e1]
    obtain ⟨U, u1, u2, u3, u4, u5, u6⟩ := ih (i + 1) u (sB T 41 154 (11 * k + i) (gB S 32 145 i)) (by omega) (by omega) (Fr_sB fr (by omega)) (fun j hj => by
      by_cases r : j = i
      · subst r; exact gB_s
      · exact (gB_j (by omega)).trans (h1 j (by omega))) (fun j hj => (gB_j (by omega)).trans (h2 j (by omega)))
    exact ⟨U, u1, u2, u3, u4, u5, u6⟩
theorem l_im1 {S : St} {k : Nat} (hk : k < 2) : ∀ (m i u : Nat) (T : St), i + m = 250 → m < u → Fr (fun _ a => a = 153) S T → (∀ j, j < i → gA T 40 153 (250 * k + j) = gA S 29 142 j) → (∀ j, j < 250 * k ∨ 250 * k + i ≤ j → gA T 40 153 j = gA S 40 153 j) → ∃ U, fX11_image_h18 140 (nI k) u (nI i) T = fX11_image_h51 140 (nI k) NN 0 U ∧ Fr (fun _ a => a = 153) S U ∧ (∀ j, j < 250 → gA U 40 153 (250 * k + j) = gA S 29 142 j) ∧ ∀ j, j < 250 * k ∨ 250 * k + 250 ≤ j → gA U 40 153 j = gA S 40 153 j := by
  intro m
  induction m with
  | zero =>
    intro i u T hi hu fr h1 h2
    obtain ⟨u, rfl⟩ : ∃ k', u = k' + 1 := ⟨u - 1, by omega⟩
    rw [fX11_image_h18]; unfold fX11_image_s18
    rw [show i = 250 by omega, if_pos (show (250 : Int32) ≤ nI 250 by decide)]
    exact ⟨T, rfl, fr, fun j hj => h1 j (by omega), fun j hj => h2 j (by omega)⟩
  | succ m ih =>
    intro i u T hi hu fr h1 h2
    obtain ⟨u, rfl⟩ : ∃ k', u = k' + 1 := ⟨u - 1, by omega⟩
    have e1 : gA T 29 142 i = gA S 29 142 i := fr.a (by omega)
    rw [fX11_image_h18]; unfold fX11_image_s18 fX11_image_s43
    rw [if_neg (show ¬ (250 : Int32) ≤ nI i from nI_ge (b := 250) (by omega) (by omega)), igd (by omega) (by decide), show (250 : Int32) = nI 250 from rfl, pk_mul, nI_add, igd (by omega) (by decide), nI_clamp (by omega), nI_clamp (by omega), nI_1, show (140 : Nat) + 2 = 142 from rfl, show (140 : Nat) + 13 = 153 from rfl, e1]
    refine ih (i + 1) u _ (by omega) (by omega) (Fr_sA fr rfl) (fun j hj => ?_) (fun j hj => (gA_j (by omega)).trans (h2 j (by omega)))
    by_cases r : j = i
    · subst r; exact gA_s
    · exact (gA_j (by omega)).trans (h1 j (by omega))
theorem p_image : pr_image Inv := by
  intro S g x1
  obtain ⟨n, w, u, tp, ft, al, ti, tl, im, rs⟩ := id g
  have hn := w.wf.1.1
  unfold fX10_image fX10_image_s31
  by_cases a1 : x1 < 0
  · refine ⟨0, S, sI S 11 0 140 0, if_pos a1, ?_, Inv_th g⟩
    unfold fX11_image fX11_image_s5
    rw [isIn_no (Or.inl a1), if_pos rfl]
  by_cases a2 : x1 < 2
  · obtain ⟨k, hk, rfl⟩ := nI_of2 (x := x1) (M := 1) (n := 1) (by decide) a1 (by
      rw [Int32.le_iff_toInt_le]; rw [Int32.lt_iff_toInt_lt] at a2
      rw [show (1 : Int32).toInt = 1 from by decide]; rw [show (2 : Int32).toInt = 2 from by decide] at a2; omega)
    obtain ⟨T, t1, t2, t3⟩ := c_wcopy (d := 26 + 23 * k) (s := 3) (by omega) w
    rw [if_neg a1, if_pos a2, igd (by omega) (by decide), nI_clamp (by omega), show (0 : Nat) + 3 = 3 from rfl, t1, ob_some, igc (by omega) (by decide), show (0 : Nat) + 139 = 139 from rfl, vz1]
    generalize hT2 : sA T 27 139 k 1 = T2
    have fT : Fr (fun _ a => (27 ≤ a ∧ a ≤ 71 ∧ 26 + 23 * k + 1 ≤ a ∧ a ≤ 26 + 23 * k + 22) ∨ a = 139) S T2 := by rw [← hT2]; exact Fr_sA (Fr_mo t2 (fun kk a q => by omega)) (Or.inr rfl)
    obtain ⟨U, u1, u2, u3, u4⟩ := l_im1 (S := sI T2 11 0 140 0) (k := k) (by omega) 250 0 NN _ (by omega) (by unfold NN; omega) Fr_id (fun j hj => by omega) (fun j _ => rfl)
    obtain ⟨V, v1, v2, v3, v4, v5, v6⟩ := l_im2 (S := U) (k := k) (by omega) 11 0 NN U (by omega) (by unfold NN; omega) Fr_id (fun j hj => by omega) (fun j _ => rfl)
    have v1' : fX11_image_h51 140 (nI k) NN 0 U = some (1, sA V 42 155 k 1) := v1
    have u1' : fX11_image_h18 140 (nI k) NN 0 (sI T2 11 0 140 0) = _ := u1
    refine ⟨1, T2, sA V 42 155 k 1, rfl, ?_, ?_⟩
    · unfold fX11_image fX11_image_s5
      rw [isIn_yes a1 (by
        rw [Int32.lt_iff_toInt_lt, nI_toInt (by omega), show (1 : Int32).toInt = 1 from by decide]; omega), if_neg i10, u1', v1']
    · have f0 : Fr (fun kk a => (27 ≤ a ∧ a ≤ 71 ∧ 26 + 23 * k + 1 ≤ a ∧ a ≤ 26 + 23 * k + 22) ∨ a = 139 ∨ (a = 140 ∧ kk = 0)) S (sI T2 11 0 140 0) := Fr_sI (Fr_mo fT (fun kk a q => by omega)) (by omega)
      have f1 : Fr (fun kk a => 153 ≤ a ∧ a ≤ 155) (sI T2 11 0 140 0) (sA V 42 155 k 1) := Fr_sA (Fr_tr (Fr_mo u2 (fun kk a q => by omega)) v2) (by omega)
      have fA : Fr (fun kk a => (27 ≤ a ∧ a ≤ 71 ∧ 26 + 23 * k + 1 ≤ a ∧ a ≤ 26 + 23 * k + 22) ∨ a = 139 ∨ (a = 140 ∧ kk = 0) ∨ (153 ≤ a ∧ a ≤ 155)) S (sA V 42 155 k 1) := Fr_tr (Fr_mo f0 (fun kk a q => by omega)) (Fr_mo f1 (fun kk a q => by omega))
      have e142 : ∀ j, gA (sI T2 11 0 140 0) 29 142 j = gA S 29 142 j := fun j => f0.a (by omega)
      have e145 : ∀ j, gB U 32 145 j = gB S 32 145 j := fun j => (u2.b (by omega)).trans (f0.b (by omega))
      refine ⟨n, WI_fr fA (fun kk a q x => by unfold fW at q; omega) w, UN_fr fA hn (fun kk a q x => by unfold fU at q; omega) u, TP_fr fA (fun kk a q x => by unfold fTp at q; omega) tp, FLT_fr fA (fun kk a q x => by unfold fFt at q; omega) ft, AL_fr fA (fun kk a q x => by unfold fAl at q; omega) al, TI_fr fA (fun kk a q x => by unfold fTi at q; omega) ti, TL_fr fA (fun kk a q x => by unfold fTl at q; omega) tl, fun k' hk' => ?_, RS_fr fA (by omega) rs⟩
      have c27 : ∀ j, gA (sA V 42 155 k 1) 27 139 j = gA T2 27 139 j := fun j => f1.a (by omega)
      have c42 : ∀ j, j ≠ k → gA (sA V 42 155 k 1) 42 155 j = gA S 42 155 j := fun j hj => (gA_j hj).trans ((v4 _ _).trans ((u2.a (by omega)).trans (f0.a (by omega))))
      have c40 : ∀ j, gA (sA V 42 155 k 1) 40 153 j = gA U 40 153 j := fun j => (gA_a (by decide)).trans (v3 _ _)
      have c41 : ∀ j, gB (sA V 42 155 k 1) 41 154 j = gB V 41 154 j := fun j => rfl
      by_cases r : k' = k
      · subst r
        refine ⟨?_, fun _ => ⟨n, ?_⟩⟩
        · rw [c27, ← hT2, gA_s, gA_s]
        · refine WIw_fr f1 (fun kk a x1 x2 => by omega) (fun j hj => ?_) (fun j hj => ?_) (WIw_fr (X := fun kk a => a = 139 ∨ (a = 140 ∧ kk = 0)) (S := T) (rd := gA S 29 142) (nm := gB S 32 145) (by rw [← hT2]; exact Fr_sI (Fr_sA Fr_id (by omega)) (by omega)) (fun kk a x1 x2 => by omega) (fun j _ => rfl) (fun j _ => rfl) t3)
          · rw [c40, u3 j hj, e142]
          · rw [c41, v5 j hj, e145]
      · obtain ⟨i1, i2⟩ := im k' hk'
        have ek : gA T2 27 139 k' = gA S 27 139 k' := by rw [← hT2]; exact (gA_j r).trans (t2.a (by omega))
        rw [c27, ek, c42 k' r]
        refine ⟨i1, fun z => ?_⟩
        obtain ⟨n', hn'⟩ := i2 z
        refine ⟨n', WIw_fr fA (fun kk a x1 x2 => by omega) (fun j hj => ?_) (fun j hj => ?_) hn'⟩
        · rw [c40, u4 _ (by omega)]; exact f0.a (by omega)
        · rw [c41, v6 _ (by omega), u2.b (by omega)]; exact f0.b (by omega)
  · refine ⟨0, S, sI S 11 0 140 0, (if_neg a1).trans (if_neg a2), ?_, Inv_th g⟩
    unfold fX11_image fX11_image_s5
    rw [isIn_no (Or.inr (by
      rw [Int32.lt_iff_toInt_lt]; rw [Int32.lt_iff_toInt_lt] at a2
      rw [show (1 : Int32).toInt = 1 from by decide]; rw [show (2 : Int32).toInt = 2 from by decide] at a2; omega)), if_pos rfl]
-- restore
theorem l_re2 {S : St} {k : Nat} (hk : k < 2) : ∀ (m i u : Nat) (T : St), i + m = 11 → m < u → Fr (fun _ a => a = 145) S T → (∀ j, j < i → gB T 32 145 j = gB S 41 154 (11 * k + j)) → ∃ U, fX11_restore_h60 140 (nI k) u (nI i) T = some (1, sI U 11 23 140 0) ∧ Fr (fun _ a => a = 145) S U ∧ ∀ j, j < 11 → gB U 32 145 j = gB S 41 154 (11 * k + j) := by
  intro m
  induction m with
  | zero =>
    intro i u T hi hu fr h1
    obtain ⟨u, rfl⟩ : ∃ k', u = k' + 1 := ⟨u - 1, by omega⟩
    rw [fX11_restore_h60]; unfold fX11_restore_s60 fX11_restore_s94
    rw [show i = 11 by omega, if_pos (show (11 : Int32) ≤ nI 11 by decide)]
    exact ⟨T, rfl, fr, fun j hj => h1 j (by omega)⟩
  | succ m ih =>
    intro i u T hi hu fr h1
    obtain ⟨u, rfl⟩ : ∃ k', u = k' + 1 := ⟨u - 1, by omega⟩
    have e1 : gB T 41 154 (11 * k + i) = gB S 41 154 (11 * k + i) := fr.b (by omega)
    rw [fX11_restore_h60]; unfold fX11_restore_s60 fX11_restore_s83
    rw [if_neg (show ¬ (11 : Int32) ≤ nI i from nI_ge (b := 11) (by omega) (by omega)), show (11 : Int32) = nI 11 from rfl, pk_mul, nI_add, igd (by omega) (by decide), igd (by omega) (by decide), nI_clamp (by omega), nI_clamp (by omega), nI_1, show (140 : Nat) + 5 = 145 from rfl, show (140 : Nat) + 14 = 154 from rfl, e1]
    refine ih (i + 1) u _ (by omega) (by omega) (Fr_sB fr rfl) (fun j hj => ?_)
    by_cases r : j = i
    · subst r; exact gB_s
    · exact (gB_j r).trans (h1 j (by omega))
theorem l_re1 {S : St} {k : Nat} (hk : k < 2) : ∀ (m i u : Nat) (T : St), i + m = 250 → m < u → Fr (fun _ a => a = 142) S T → (∀ j, j < i → gA T 29 142 j = gA S 40 153 (250 * k + j)) → ∃ U, fX11_restore_h27 140 (nI k) u (nI i) T = fX11_restore_h60 140 (nI k) NN 0 U ∧ Fr (fun _ a => a = 142) S U ∧ ∀ j, j < 250 → gA U 29 142 j = gA S 40 153 (250 * k + j) := by
  intro m
  induction m with
  | zero =>
    intro i u T hi hu fr h1
    obtain ⟨u, rfl⟩ : ∃ k', u = k' + 1 := ⟨u - 1, by omega⟩
    rw [fX11_restore_h27]; unfold fX11_restore_s27
    rw [show i = 250 by omega, if_pos (show (250 : Int32) ≤ nI 250 by decide)]
    exact ⟨T, rfl, fr, fun j hj => h1 j (by omega)⟩
  | succ m ih =>
    intro i u T hi hu fr h1
    obtain ⟨u, rfl⟩ : ∃ k', u = k' + 1 := ⟨u - 1, by omega⟩
    have e1 : gA T 40 153 (250 * k + i) = gA S 40 153 (250 * k + i) := fr.a (by omega)
    rw [fX11_restore_h27]; unfold fX11_restore_s27 fX11_restore_s52
    rw [if_neg (show ¬ (250 : Int32) ≤ nI i from nI_ge (b := 250) (by omega) (by omega)), show (250 : Int32) = nI 250 from rfl, pk_mul, nI_add, igd (by omega) (by decide), igd (by omega) (by decide), nI_clamp (by omega), nI_clamp (by omega), nI_1, show (140 : Nat) + 2 = 142 from rfl, show (140 : Nat) + 13 = 153 from rfl, e1]
    refine ih (i + 1) u _ (by omega) (by omega) (Fr_sA fr rfl) (fun j hj => ?_)
    by_cases r : j = i
    · subst r; exact gA_s
    · exact (gA_j r).trans (h1 j (by omega))
theorem p_restore : pr_restore Inv := by
  intro S g x1
  obtain ⟨n, w, u, tp, ft, al, ti, tl, im, rs⟩ := id g
  unfold fX10_restore fX10_restore_s38
  by_cases a1 : x1 < 0
  · refine ⟨0, S, sI S 11 0 140 0, if_pos a1, ?_, Inv_th g⟩
    unfold fX11_restore fX11_restore_s5
    rw [isIn_no (Or.inl a1), if_pos rfl]
  by_cases a2 : 2 ≤ x1
  · refine ⟨0, S, sI S 11 0 140 0, (if_neg a1).trans (if_pos a2), ?_, Inv_th g⟩
    unfold fX11_restore fX11_restore_s5
    rw [isIn_no (Or.inr (by
      rw [Int32.lt_iff_toInt_lt]; rw [Int32.le_iff_toInt_le] at a2
      rw [show (1 : Int32).toInt = 1 from by decide]; rw [show (2 : Int32).toInt = 2 from by decide] at a2; omega)), if_pos rfl]
  · obtain ⟨k, hk, rfl⟩ := nI_of2 (x := x1) (M := 1) (n := 1) (by decide) a1 (by
      rw [Int32.le_iff_toInt_le]; rw [Int32.le_iff_toInt_le] at a2
      rw [show (1 : Int32).toInt = 1 from by decide]; rw [show (2 : Int32).toInt = 2 from by decide] at a2; omega)
    obtain ⟨i1, i2⟩ := im k (by omega)
    have b1 : fX11_isIn (nI k) 0 1 = fun _ => 1 := funext fun _ => isIn_yes a1 (by
        rw [Int32.lt_iff_toInt_lt, nI_toInt (by omega), show (1 : Int32).toInt = 1 from by decide]; omega)
    rw [if_neg a1, if_neg a2, igd (by omega) (by decide), nI_clamp (by omega), show (0 : Nat) + 139 = 139 from rfl]
    by_cases z : gA S 27 139 k = 0
    · rw [if_pos z]
      refine ⟨0, S, sI S 11 0 140 0, rfl, ?_, Inv_th g⟩
      unfold fX11_restore fX11_restore_s5
      rw [b1, if_neg i10, igd (by omega) (by decide), nI_clamp (by omega), show gA (sI S 11 0 140 0) 42 (140 + 15) k = 0 from i1.symm.trans z, if_pos rfl]
    · obtain ⟨n', w'⟩ := i2 z
      obtain ⟨T, t1, t2, t3⟩ := c_wcopy (d := 3) (s := 26 + 23 * k) (by omega) w'
      rw [if_neg z, igc (by omega) (by decide), show (0 : Nat) + 3 = 3 from rfl, t1, ob_some]
      generalize hT2 : sI T 10 11 0 0 = T2
      have fT : Fr (fun kk a => (4 ≤ a ∧ a ≤ 25) ∨ (a = 0 ∧ kk = 11)) S T2 := by rw [← hT2]; exact Fr_sI (Fr_mo t2 (fun kk a q => by omega)) (by omega)
      obtain ⟨U, u1, u2, u3⟩ := l_re1 (S := sI T2 11 0 140 0) (k := k) (by omega) 250 0 NN _ (by omega) (by unfold NN; omega) Fr_id (fun j hj => by omega)
      obtain ⟨V, v1, v2, v3⟩ := l_re2 (S := U) (k := k) (by omega) 11 0 NN U (by omega) (by unfold NN; omega) Fr_id (fun j hj => by omega)
      have v1' : fX11_restore_h60 140 (nI k) NN 0 U = some (1, sI V 11 23 140 0) := v1
      have u1' : fX11_restore_h27 140 (nI k) NN 0 (sI T2 11 0 140 0) = _ := u1
      refine ⟨1, T2, sI V 11 23 140 0, rfl, ?_, ?_⟩
      · unfold fX11_restore fX11_restore_s5
        rw [b1, if_neg i10, igd (by omega) (by decide), nI_clamp (by omega), show gA (sI T2 11 0 140 0) 42 (140 + 15) k = gA S 42 155 k from fT.a (c := 42) (a := 155) (by omega), if_neg (fun q => z (i1.trans q)), u1', v1']
      · have f0 : Fr (fun kk a => (4 ≤ a ∧ a ≤ 25) ∨ (a = 0 ∧ kk = 11) ∨ (a = 140 ∧ kk = 0)) S (sI T2 11 0 140 0) := Fr_sI (Fr_mo fT (fun kk a q => by omega)) (by omega)
        have f1 : Fr (fun kk a => a = 142 ∨ a = 145 ∨ (a = 140 ∧ kk = 23)) (sI T2 11 0 140 0) (sI V 11 23 140 0) := Fr_sI (Fr_tr (Fr_mo u2 (fun kk a q => by omega)) (Fr_mo v2 (fun kk a q => by omega))) (by omega)
        have fA : Fr (fun kk a => (4 ≤ a ∧ a ≤ 25) ∨ (a = 0 ∧ kk = 11) ∨ (a = 140 ∧ (kk = 0 ∨ kk = 23)) ∨ a = 142 ∨ a = 145) S (sI V 11 23 140 0) := Fr_tr (Fr_mo f0 (fun kk a q => by omega)) (Fr_mo f1 (fun kk a q => by omega))
        obtain ⟨K, k1, k2, k3, k4, k5, k6⟩ := u
        have eq : ∀ j, gQ (sI V 11 23 140 0) 105 j = gQ S 105 j := fun j => fA.q (by omega)
        refine ⟨n', ?_, ⟨0, by omega, ?_, gI_s, fun j hj => by rw [eq]; exact k4 j hj, fun j j' hj hj' => by rw [eq, eq]; exact k5 j j' hj hj', fun i hi => by omega⟩, TP_fr fA (fun kk a q x => by unfold fTp at q; omega) tp, FLT_fr fA (fun kk a q x => by unfold fFt at q; omega) ft, AL_fr fA (fun kk a q x => by unfold fAl at q; omega) al, TI_fr fA (fun kk a q x => by unfold fTi at q; omega) ti, TL_fr fA (fun kk a q x => by unfold fTl at q; omega) tl, IM_fr fA (fun kk a q x => by unfold fIm at q; omega) im, RS_fr fA (by omega) rs⟩
        · have e40 : ∀ j, gA (sI T2 11 0 140 0) 40 153 j = gA S 40 153 j := fun j => f0.a (by omega)
          have e41 : ∀ j, gB U 41 154 j = gB S 41 154 j := fun j => (u2.b (by omega)).trans (f0.b (by omega))
          refine WIw_fr f1 (fun kk a x1 x2 => by omega) (fun j hj => ?_) (fun j hj => ?_) (WIw_fr (X := fun kk a => a = 0 ∨ (a = 140 ∧ kk = 0)) (by rw [← hT2]; exact Fr_sI (Fr_sI Fr_id (by omega)) (by omega)) (fun kk a x1 x2 => by omega) (fun j _ => rfl) (fun j _ => rfl) t3)
          · show gA V 29 142 j = _
            rw [v2.a (by omega), u3 j hj, e40]
          · show gB V 32 145 j = _
            rw [v3 j hj, e41]
        · exact (f1.i (by omega)).trans ((gI_a (by decide)).trans (by rw [← hT2]; exact gI_s))
