def fin2 (n : Nat → Nat) (j : Nat) : Nat := if j < 52 then n j else if 54 ≤ j ∧ j < 59 then n (j - 35) else 0
theorem f_lo {n : Nat → Nat} {j : Nat} (h : j < 52) : fin2 n j = n j := if_pos h
theorem f_54 {n : Nat → Nat} {p : Nat} (h : p < 5) : fin2 n (54 + p) = n (19 + p) := by unfold fin2; rw [if_neg (by omega), if_pos (by omega), show 54 + p - 35 = 19 + p by omega]
theorem f_0 {n : Nat → Nat} {j : Nat} (h : 52 ≤ j) (h2 : ¬ (54 ≤ j ∧ j < 59)) : fin2 n j = 0 := by unfold fin2; rw [if_neg (by omega), if_neg h2]
theorem l_h146 {R : St} {n : Nat → Nat} : ∀ (m i u : Nat) (T : St), i + m = 5 → m < u → Fr (fun k a => a = 142 ∨ a = 145 ∨ (a = 140 ∧ k = 23)) R T → (∀ j, j < 250 → gA T 29 142 j = nI (if j < 54 + i then fin2 n j else if j < 52 then n j else 0)) → ∃ U, fX11_valley_h146 140 u (nI i) T = some (gI R 11 19 140, U) ∧ Fr (fun k a => a = 142 ∨ a = 145 ∨ (a = 140 ∧ k = 23)) R U ∧ (∀ j, j < 250 → gA U 29 142 j = nI (fin2 n j)) ∧ (∀ j, gB U 32 145 j = gB T 32 145 j) ∧ gI U 11 23 140 = 0 := by
  intro m
  induction m with
  | zero =>
    intro i u T hi hu f h
    obtain ⟨u, rfl⟩ : ∃ k', u = k' + 1 := ⟨u - 1, by omega⟩
    rw [fX11_valley_h146]; unfold fX11_valley_s146 fX11_valley_s180
    rw [if_pos (show (5 : Int32) ≤ nI i from nI_le (a := 5) (by omega) (by omega)), show gI (sI T 11 23 140 0) 11 19 140 = gI R 11 19 140 from (gI_k (by decide)).trans (f.i (by omega))]
    refine ⟨_, rfl, Fr_sI f (by omega), fun j hj => ?_, fun j => rfl, gI_s⟩
    refine (h j hj).trans ?_
    by_cases e : j < 54 + i
    · rw [if_pos e]
    · rw [if_neg e, if_neg (by omega), f_0 (by omega) (by omega)]
  | succ m ih =>
    intro i u T hi hu f h
    obtain ⟨u, rfl⟩ : ∃ k', u = k' + 1 := ⟨u - 1, by omega⟩
    rw [fX11_valley_h146]; unfold fX11_valley_s146 fX11_valley_s169
    rw [if_neg (show ¬ (5 : Int32) ≤ nI i from nI_ge (b := 5) (by omega) (by omega)), show (19 : Int32) + nI i = nI (19 + i) from nI_add 19 i, show (54 : Int32) + nI i = nI (54 + i) from nI_add 54 i, igd (show 19 + i < 250 by omega) (by decide), igd (show 54 + i < 250 by omega) (by decide), nI_clamp (by omega), nI_clamp (by omega), nI_1, show (140 : Nat) + 2 = 142 from rfl, h (19 + i) (by omega), if_pos (show 19 + i < 54 + i by omega), f_lo (show 19 + i < 52 by omega)]
    obtain ⟨U, u1, u2, u3, u4, u5⟩ := ih (i + 1) u (sA T 29 142 (54 + i) (nI (n (19 + i)))) (by omega) (by omega) (Fr_sA f (by omega)) (fun j hj => by
      by_cases e : j = 54 + i
      · subst e
        refine gA_s.trans ?_
        rw [if_pos (by omega), f_54 (by omega)]
      · refine (gA_j e).trans ((h j hj).trans ?_)
        by_cases e2 : j < 54 + i
        · rw [if_pos e2, if_pos (by omega)]
        · rw [if_neg e2, if_neg (show ¬ j < 54 + (i + 1) by omega)])
    exact ⟨U, u1, u2, u3, u4, u5⟩
theorem l_h117 {R : St} {n : Nat → Nat} {g : Nat → Int64} : ∀ (m i u : Nat) (T : St), i + m = 11 → m < u → Fr (fun k a => a = 142 ∨ a = 145 ∨ (a = 140 ∧ k = 23)) R T → (∀ j, j < 250 → gA T 29 142 j = nI (if j < 52 then n j else 0)) → (∀ j, j < i → gB T 32 145 j = g j) → (∀ j, 11 ≤ j → j < 22 → gB T 32 145 j = g (j - 11)) → ∃ U, fX11_valley_h117 140 u (nI i) T = some (gI R 11 19 140, U) ∧ Fr (fun k a => a = 142 ∨ a = 145 ∨ (a = 140 ∧ k = 23)) R U ∧ (∀ j, j < 250 → gA U 29 142 j = nI (fin2 n j)) ∧ (∀ j, j < 11 → gB U 32 145 j = g j) ∧ gI U 11 23 140 = 0 := by
  intro m
  induction m with
  | zero =>
    intro i u T hi hu f h hg hg2
    obtain ⟨u, rfl⟩ : ∃ k', u = k' + 1 := ⟨u - 1, by omega⟩
    rw [fX11_valley_h117]; unfold fX11_valley_s117
    rw [if_pos (show (11 : Int32) ≤ nI i from nI_le (a := 11) (by omega) (by omega))]
    obtain ⟨U, u1, u2, u3, u4, u5⟩ := l_h146 (n := n) 5 0 NN T (by omega) (by unfold NN; omega) f (fun j hj => by
      refine (h j hj).trans ?_
      by_cases e : j < 52
      · rw [if_pos e, if_pos (by omega), f_lo e]
      · rw [if_neg e]
        by_cases e2 : j < 54 + 0
        · rw [if_pos e2, f_0 (by omega) (by omega)]
        · rw [if_neg e2])
    exact ⟨U, u1, u2, u3, fun j hj => (u4 j).trans (hg j (by omega)), u5⟩
  | succ m ih =>
    intro i u T hi hu f h hg hg2
    obtain ⟨u, rfl⟩ : ∃ k', u = k' + 1 := ⟨u - 1, by omega⟩
    rw [fX11_valley_h117]; unfold fX11_valley_s117 fX11_valley_s138
    rw [if_neg (show ¬ (11 : Int32) ≤ nI i from nI_ge (b := 11) (by omega) (by omega)), show (11 : Int32) + nI i = nI (11 + i) from nI_add 11 i, igd (show 11 + i < 22 by omega) (by decide), igd (show i < 22 by omega) (by decide), nI_clamp (by omega), nI_clamp (by omega), nI_1, show (140 : Nat) + 5 = 145 from rfl, hg2 (11 + i) (by omega) (by omega), show 11 + i - 11 = i by omega]
    have fb : Fr (fun k a => a = 142 ∨ a = 145 ∨ (a = 140 ∧ k = 23)) R (sB T 32 145 i (g i)) := Fr_tr f ⟨fun _ _ _ _ => rfl, fun _ _ _ _ => rfl, fun _ _ _ _ => rfl, fun c' a' j' hh => if_neg (fun qq => hh (Or.inr (Or.inl qq.2.1))), fun _ _ _ => rfl⟩
    have gb : ∀ j, gB (sB T 32 145 i (g i)) 32 145 j = if j = i then g i else gB T 32 145 j := fun j => by
      by_cases e : j = i
      · rw [if_pos e]; exact if_pos ⟨rfl, rfl, e⟩
      · rw [if_neg e]; exact if_neg (fun qq => e qq.2.2)
    exact ih (i + 1) u (sB T 32 145 i (g i)) (by omega) (by omega) fb h (fun j hj => by
      rw [gb]
      by_cases e : j = i
      · rw [if_pos e, e]
      · rw [if_neg e]; exact hg j (by omega)) (fun j h1 h2 => by rw [gb, if_neg (by omega)]; exact hg2 j h1 h2)
theorem l_h80 {R : St} {n : Nat → Nat} (hr : HR R n) : ∀ (m i u : Nat) (T : St), i + m = 250 → m < u → Fr (fun k a => a = 142) R T → (∀ j, j < i → gA T 29 142 j = nI (if j < 52 then n j else 0)) → ∃ U, fX11_valley_h80 140 u (nI i) T = some (gI R 11 19 140, U) ∧ Fr (fun k a => a = 142 ∨ a = 145 ∨ (a = 140 ∧ k = 23)) R U ∧ (∀ j, j < 250 → gA U 29 142 j = nI (fin2 n j)) ∧ (∀ j, j < 11 → gB U 32 145 j = gB R 32 145 (11 + j)) ∧ gI U 11 23 140 = 0 := by
  intro m
  induction m with
  | zero =>
    intro i u T hi hu f h
    obtain ⟨u, rfl⟩ : ∃ k', u = k' + 1 := ⟨u - 1, by omega⟩
    rw [fX11_valley_h80]; unfold fX11_valley_s80
    rw [if_pos (show (250 : Int32) ≤ nI i from nI_le (a := 250) (by omega) (by omega))]
    exact l_h117 (n := n) (g := fun j => gB R 32 145 (11 + j)) 11 0 NN T (by omega) (by unfold NN; omega) (Fr_mo f (fun k a q => Or.inl q)) (fun j hj => h j (by omega)) (fun j hj => by omega) (fun j h1 h2 => by
      show gB T 32 145 j = gB R 32 145 (11 + (j - 11))
      rw [show 11 + (j - 11) = j by omega]; exact f.b (by omega))
  | succ m ih =>
    intro i u T hi hu f h
    obtain ⟨u, rfl⟩ : ∃ k', u = k' + 1 := ⟨u - 1, by omega⟩
    have nx : ∀ v : Int32, v = nI (if i < 52 then n i else 0) → ∃ U, fX11_valley_h80 140 u (nI (i + 1)) (sA T 29 142 i v) = some (gI R 11 19 140, U) ∧ Fr (fun k a => a = 142 ∨ a = 145 ∨ (a = 140 ∧ k = 23)) R U ∧ (∀ j, j < 250 → gA U 29 142 j = nI (fin2 n j)) ∧ (∀ j, j < 11 → gB U 32 145 j = gB R 32 145 (11 + j)) ∧ gI U 11 23 140 = 0 := fun v hv => ih (i + 1) u (sA T 29 142 i v) (by omega) (by omega) (Fr_sA f rfl) (fun j hj => by
      by_cases e : j = i
      · subst e; exact gA_s.trans hv
      · exact (gA_j e).trans (h j (by omega)))
    rw [fX11_valley_h80]; unfold fX11_valley_s80 fX11_valley_s109
    rw [if_neg (show ¬ (250 : Int32) ≤ nI i from nI_ge (b := 250) (by omega) (by omega)), nI_1]
    rcases Nat.lt_or_ge i 52 with e | e
    · rw [if_neg (show ¬ (52 : Int32) ≤ nI i from nI_ge (b := 52) e (by omega)), igd e (by decide), igd (show i < 250 by omega) (by decide), nI_clamp (by omega), show gA T 30 (140 + 3) i = nI (n i) from (f.a (by omega)).trans (hr i e)]
      exact nx _ (by rw [if_pos e])
    · rw [if_pos (show (52 : Int32) ≤ nI i from nI_le (a := 52) e (by omega)), igd (show i < 250 by omega) (by decide), nI_clamp (by omega)]
      exact nx 0 (by rw [if_neg (by omega)]; rfl)
theorem m_fin {R : St} {n : Nat → Nat} (hr : HR R n) : ∃ U, fX11_valley_h80 140 NN 0 R = some (gI R 11 19 140, U) ∧ Fr (fun k a => a = 142 ∨ a = 145 ∨ (a = 140 ∧ k = 23)) R U ∧ (∀ j, j < 250 → gA U 29 142 j = nI (fin2 n j)) ∧ (∀ j, j < 11 → gB U 32 145 j = gB R 32 145 (11 + j)) ∧ gI U 11 23 140 = 0 := l_h80 hr 250 0 NN R (by omega) (by unfold NN; omega) Fr_id (fun j hj => by omega)
-- the class begins a world
theorem l_begin {S : St} {d s : Nat} (hds : s + 13 < d ∨ d + 3 < s) : ∀ (m i u : Nat) (T : St), i + m = 5 → m < u → Fr (fun _ a => d ≤ a ∧ a ≤ d + 3) S T → (∀ p, p < i → gA T 15 (d + 1) p = gI S 4 1 (s + 3 + p) ∧ gA T 16 (d + 2) p = 0 ∧ gA T 17 (d + 3) p = 0) → ∃ U, fX2_begin_h20 d s u (nI i) T = some U ∧ Fr (fun _ a => d ≤ a ∧ a ≤ d + 3) S U ∧ (∀ k, gI U 2 k d = gI T 2 k d) ∧ (∀ p, p < 5 → gA U 15 (d + 1) p = gI S 4 1 (s + 3 + p) ∧ gA U 16 (d + 2) p = 0 ∧ gA U 17 (d + 3) p = 0) := by
  intro m
  induction m with
  | zero =>
    intro i u T hi hu f h
    obtain ⟨u, rfl⟩ : ∃ k', u = k' + 1 := ⟨u - 1, by omega⟩
    rw [fX2_begin_h20]; unfold fX2_begin_s20
    rw [if_pos (show (5 : Int32) ≤ nI i from nI_le (a := 5) (by omega) (by omega))]
    exact ⟨T, rfl, f, fun _ => rfl, fun p hp => h p (by omega)⟩
  | succ m ih =>
    intro i u T hi hu f h
    obtain ⟨u, rfl⟩ : ∃ k', u = k' + 1 := ⟨u - 1, by omega⟩
    rw [fX2_begin_h20]; unfold fX2_begin_s20 fX2_begin_s40 fX2_begin_s47 fX2_begin_s54
    rw [if_neg (show ¬ (5 : Int32) ≤ nI i from nI_ge (b := 5) (by omega) (by omega))]
    repeat rw [igd (show i < 5 by omega) (by decide)]
    rw [nI_clamp (by omega), nI_1, show s + 1 + 2 + i = s + 3 + i by omega, show gI T 4 1 (s + 3 + i) = gI S 4 1 (s + 3 + i) from f.i (by omega)]
    obtain ⟨U, u1, u2, u3, u4⟩ := ih (i + 1) u (sA (sA (sA T 15 (d + 1) i (gI S 4 1 (s + 3 + i))) 16 (d + 2) i 0) 17 (d + 3) i 0) (by omega) (by omega) (Fr_sA (Fr_sA (Fr_sA f (by omega)) (by omega)) (by omega)) (fun p hp => by
      by_cases e : p = i
      · subst e
        exact ⟨(gA_c (by decide)).trans ((gA_c (by decide)).trans gA_s), (gA_c (by decide)).trans gA_s, gA_s⟩
      · obtain ⟨x1, x2, x3⟩ := h p (by omega)
        exact ⟨(gA_c (by decide)).trans ((gA_c (by decide)).trans ((gA_j e).trans x1)), (gA_c (by decide)).trans ((gA_j e).trans ((gA_c (by decide)).trans x2)), (gA_j e).trans ((gA_c (by decide)).trans ((gA_c (by decide)).trans x3))⟩)
    exact ⟨U, u1, u2, u3, u4⟩
