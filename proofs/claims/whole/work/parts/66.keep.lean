-- copies of days, what is kept for undo
theorem Fr_gI {X : Nat → Nat → Prop} {S T : St} (h : Fr X S T) (c k a : Nat) (n : ¬ X k a) : gI T c k a = gI S c k a := h.1 c k a n
theorem l_copy {S : St} {d s : Nat} (hds : s + 3 < d ∨ d + 3 < s) : ∀ (m i u : Nat) (T : St), i + m = 5 → m < u → Fr (XD d) S T → (∀ p, p < i → gA T 15 (d + 1) p = gA S 15 (s + 1) p ∧ gA T 16 (d + 2) p = gA S 16 (s + 2) p ∧ gA T 17 (d + 3) p = gA S 17 (s + 3) p) → ∃ U, fX2_copyFrom_h26 d s u (nI i) T = some U ∧ Fr (XD d) S U ∧ (∀ k, gI U 2 k d = gI T 2 k d) ∧ ∀ p, p < 5 → gA U 15 (d + 1) p = gA S 15 (s + 1) p ∧ gA U 16 (d + 2) p = gA S 16 (s + 2) p ∧ gA U 17 (d + 3) p = gA S 17 (s + 3) p := by
  intro m
  induction m with
  | zero =>
    intro i u T hi hu fr h
    obtain ⟨u, rfl⟩ : ∃ k', u = k' + 1 := ⟨u - 1, by omega⟩
    rw [fX2_copyFrom_h26]; unfold fX2_copyFrom_s26
    rw [show i = 5 by omega, if_pos (show (5 : Int32) ≤ nI 5 by decide)]
    exact ⟨T, rfl, fr, fun _ => rfl, fun p hp => h p (by omega)⟩
  | succ m ih =>
    intro i u T hi hu fr h
    obtain ⟨u, rfl⟩ : ∃ k', u = k' + 1 := ⟨u - 1, by omega⟩
    rw [fX2_copyFrom_h26]; unfold fX2_copyFrom_s26 fX2_copyFrom_s43 fX2_copyFrom_s55 fX2_copyFrom_s67
    rw [if_neg (show ¬ (5 : Int32) ≤ nI i from nI_ge (b := 5) (by omega) (by omega))]
    repeat rw [igd (show i < 5 by omega) (by decide)]
    rw [nI_clamp (by omega), nI_1]
    have f1 : gA T 15 (s + 1) i = gA S 15 (s + 1) i := fr.a (by unfold XD; omega)
    have f2 : gA T 16 (s + 2) i = gA S 16 (s + 2) i := fr.a (by unfold XD; omega)
    have f3 : gA T 17 (s + 3) i = gA S 17 (s + 3) i := fr.a (by unfold XD; omega)
    have e2 : gA (sA T 15 (d + 1) i (gA T 15 (s + 1) i)) 16 (s + 2) i = gA S 16 (s + 2) i := (gA_c (by decide)).trans f2
    have e3 : gA (sA (sA T 15 (d + 1) i (gA T 15 (s + 1) i)) 16 (d + 2) i (gA S 16 (s + 2) i)) 17 (s + 3) i = gA S 17 (s + 3) i := (gA_c (by decide)).trans ((gA_c (by decide)).trans f3)
    rw [e2, e3, f1]
    obtain ⟨U, u1, u2, u3, u4⟩ := ih (i + 1) u (sA (sA (sA T 15 (d + 1) i (gA S 15 (s + 1) i)) 16 (d + 2) i (gA S 16 (s + 2) i)) 17 (d + 3) i (gA S 17 (s + 3) i)) (by omega) (by omega) (Fr_sA (Fr_sA (Fr_sA fr ⟨by omega, by omega⟩) ⟨by omega, by omega⟩) ⟨by omega, by omega⟩) (fun p hp => by
      by_cases r : p = i
      · subst r
        exact ⟨(gA_c (by decide)).trans ((gA_c (by decide)).trans gA_s), (gA_c (by decide)).trans gA_s, gA_s⟩
      · obtain ⟨q1, q2, q3⟩ := h p (by omega)
        exact ⟨(gA_c (by decide)).trans ((gA_c (by decide)).trans ((gA_j r).trans q1)), (gA_c (by decide)).trans ((gA_j r).trans ((gA_c (by decide)).trans q2)), (gA_j r).trans ((gA_c (by decide)).trans ((gA_c (by decide)).trans q3))⟩)
    exact ⟨U, u1, u2, u3, u4⟩
theorem c_copy {S : St} {d s n0 : Nat} {D : DS} (hds : s + 3 < d ∨ d + 3 < s) (hn : n0 ≤ 5) (h : DC S s n0 D) : ∃ T, fX2_copyFrom d s S = some T ∧ Fr (XD d) S T ∧ DC T d n0 D := by
  obtain ⟨h1, h2, h3, h4⟩ := h
  have e2 : gI (sI S 2 0 d (gI S 2 0 s)) 2 2 s = gI S 2 2 s := gI_k (by decide)
  have e1 : gI (sI (sI S 2 0 d (gI S 2 0 s)) 2 2 d (gI S 2 2 s)) 2 1 s = gI S 2 1 s := (gI_k (by decide)).trans (gI_k (by decide))
  unfold fX2_copyFrom fX2_copyFrom_s8 fX2_copyFrom_s16 fX2_copyFrom_s24
  rw [e2, e1]
  have fr : Fr (XD d) S (sI (sI (sI S 2 0 d (gI S 2 0 s)) 2 2 d (gI S 2 2 s)) 2 1 d (gI S 2 1 s)) := Fr_sI (Fr_sI (Fr_sI Fr_id ⟨Nat.le_refl _, by omega⟩) ⟨Nat.le_refl _, by omega⟩) ⟨Nat.le_refl _, by omega⟩
  obtain ⟨U, u1, u2, u3, u4⟩ := l_copy hds 5 0 NN _ (by omega) (by unfold NN; omega) fr (fun p hp => by omega)
  refine ⟨U, u1, u2, ?_, ?_, ?_, fun p hp => ?_⟩
  · rw [u3, gI_k (by decide), gI_k (by decide), gI_s]; exact h1
  · rw [u3, gI_k (by decide), gI_s]; exact h2
  · rw [u3, gI_s]; exact h3
  · obtain ⟨q1, q2, q3⟩ := u4 p (by omega)
    rw [q1, q2, q3]; exact h4 p hp
theorem DC_fr {X : Nat → Nat → Prop} {S T : St} {d n0 : Nat} {D : DS} (h : Fr X S T) (hx : ∀ k a, d ≤ a → a ≤ d + 3 → ¬ X k a) (g : DC S d n0 D) : DC T d n0 D := by
  obtain ⟨h1, h2, h3, h4⟩ := g
  refine ⟨?_, ?_, ?_, fun p hp => ?_⟩
  · rw [h.i (hx _ _ (by omega) (by omega))]; exact h1
  · rw [h.i (hx _ _ (by omega) (by omega))]; exact h2
  · rw [h.i (hx _ _ (by omega) (by omega))]; exact h3
  · rw [h.a (hx _ _ (by omega) (by omega)), h.a (hx _ _ (by omega) (by omega)), h.a (hx _ _ (by omega) (by omega))]; exact h4 p hp
theorem DM_fr {X : Nat → Nat → Prop} {S T : St} {n0 : Nat} {D : DS} (h : Fr X S T) (hx : ¬ X 99 142) (g : DM S n0 D) : DM T n0 D := by
  obtain ⟨h0, h1, h2, h3⟩ := g
  refine ⟨?_, ?_, ?_, fun p hp => ?_⟩
  · rw [h.a hx]; exact h0
  · rw [h.a hx]; exact h1
  · rw [h.a hx]; exact h2
  · rw [h.a hx, h.a hx, h.a hx]; exact h3 p hp
/-- days of the class and a row of 17 numbers that are like D -/
theorem DR_of {S : St} {d n0 : Nat} {D : DS} {rd : Nat → Int32} (h : DC S d n0 D) (w : DW n0 D) (r0 : rd 0 = nI (D.1 0)) (r1 : rd 1 = nI (D.1 1)) (r2 : ∀ p, p < n0 → rd (2 + p) = nI (D.1 (2 + p)) ∧ rd (7 + p) = D.2.1 p ∧ rd (12 + p) = D.2.2 p) : DR S d rd n0 D.1 := by
  obtain ⟨h1, h2, h3, h4⟩ := h
  refine ⟨⟨h1, h2, h3⟩, ⟨r0, r1, w.1, w.2.1⟩, fun p hp => ⟨(h4 p hp).1, (r2 p hp).1, w.2.2 p hp, ?_, ?_⟩⟩
  · rw [(h4 p hp).2.1, (r2 p hp).2.1]
  · rw [(h4 p hp).2.2, (r2 p hp).2.2]
theorem DR_to {S : St} {d n0 : Nat} {rd : Nat → Int32} {m : Nat → Nat} (h : DR S d rd n0 m) : DC S d n0 (m, fun p => rd (7 + p), fun p => rd (12 + p)) ∧ DW n0 (m, fun p => rd (7 + p), fun p => rd (12 + p)) := by
  obtain ⟨⟨h1, h2, h3⟩, ⟨r0, r1, r2, r3⟩, h4⟩ := h
  exact ⟨⟨h1, h2, h3, fun p hp => ⟨(h4 p hp).1, (h4 p hp).2.2.2.1, (h4 p hp).2.2.2.2⟩⟩, r2, r3, fun p hp => (h4 p hp).2.2.1⟩
def nxK (K : Nat) : Nat := if K = 8 then 8 else K + 1
def shK (K : Nat) : Nat := if K = 8 then 1 else 0
theorem KT_past {i : Nat} (h : i < 8) : KT (106 + 4 * i) = 2 := (show ∀ i, i < 8 → KT (106 + 4 * i) = 2 by decide +kernel) i h
def PQ (S : St) : Prop := (∀ j, j < 8 → ∃ i, i < 8 ∧ gQ S 105 j = 106 + 4 * i) ∧ ∀ j j', j < 8 → j' < 8 → gQ S 105 j = gQ S 105 j' → j = j'
theorem c_push {S : St} {n0 k : Nat} {D : DS} (hn : n0 ≤ 5) (hk : k < 8) (h11 : gI S 10 11 0 = nI k) (hq : PQ S) (hb : DC S 97 n0 D) : ∃ T, fX10_keepForUndo_s74 0 S = some T ∧ Fr (fun kk a => (a = 0 ∧ kk = 11) ∨ (106 ≤ a ∧ a ≤ 137)) S T ∧ gI T 10 11 0 = nI (k + 1) ∧ DC T (gQ S 105 k) n0 D ∧ ∀ i, i < 8 → i ≠ k → ∀ rd m, DR S (gQ S 105 i) rd n0 m → DR T (gQ S 105 i) rd n0 m := by
  obtain ⟨ik, hik, eik⟩ := hq.1 k hk
  obtain ⟨U, u1, u2, u3⟩ := c_copy (d := gQ S 105 k) (s := 97) (by rw [eik]; omega) hn hb
  unfold fX10_keepForUndo_s74
  rw [h11, igd hk (by decide), nI_clamp (by omega), show (0 : Nat) + 105 = 105 from rfl, if_neg (fun q => q (by rw [eik]; exact KT_past hik)), show (0 : Nat) + 97 = 97 from rfl, u1, ob_some]
  have e11 : gI U 10 11 0 = nI k := (u2.i (by unfold XD; rw [eik]; omega)).trans h11
  have frx : Fr (fun kk a => (a = 0 ∧ kk = 11) ∨ (gQ S 105 k ≤ a ∧ a ≤ gQ S 105 k + 3)) S (sI U 10 11 0 (gI U 10 11 0 + 1)) := Fr_sI (Fr_mo u2 (fun _ a q => Or.inr q)) (Or.inl ⟨rfl, rfl⟩)
  refine ⟨_, rfl, Fr_mo frx (fun kk a q => by rw [eik] at q; omega), ?_, ?_, fun i hi hne rd m hd => ?_⟩
  · rw [gI_s, e11, nI_1]
  · exact DC_fr (Fr_sI (X := fun kk a => a = 0) Fr_id rfl) (fun kk a a1 a2 => by rw [eik] at a1; omega) u3
  · obtain ⟨ii, hii, eii⟩ := hq.1 i hi
    have hne2 : ii ≠ ik := fun e => hne (hq.2 i k hi hk (by rw [eii, eik, e]))
    exact DR_fr frx hn (fun kk a a1 a2 => by rw [eii] at a1 a2; rw [eik]; omega) (fun j _ => rfl) hd
theorem Fr_qq {S T : St} {a j v : Nat} {X : Nat → Nat → Prop} (h : Fr X S T) (w : X 99 a) : Fr X S (sQ T a j v) := Fr_sQ h w
theorem gQ_s {S : St} {a j v : Nat} : gQ (sQ S a j v) a j = v := if_pos ⟨rfl, rfl⟩
theorem gQ_j {S : St} {a j v a' j' : Nat} (h : j' ≠ j) : gQ (sQ S a j v) a' j' = gQ S a' j' := if_neg (fun q => h q.2)
theorem l_rot {S : St} {b : Nat} (hq : PQ S) : ∀ (m i u : Nat) (T : St), i + m = 8 → 1 ≤ i → m < u → Fr (fun _ a => a = 105) S T → (∀ j, j + 1 < i → gQ T 105 j = gQ S 105 (j + 1)) → (∀ j, i ≤ j + 1 → j < 8 → gQ T 105 j = gQ S 105 j) → ∃ U, Fr (fun _ a => a = 105) S U ∧ (∀ j, j < 7 → gQ U 105 j = gQ S 105 (j + 1)) ∧ fX10_keepForUndo_h21 0 u b (nI i) T = fX10_keepForUndo_s74 0 (sI (sQ U 105 7 b) 10 11 0 (8 - 1)) := by
  intro m
  induction m with
  | zero =>
    intro i u T hi h1 hu fr t1 t2
    obtain ⟨u, rfl⟩ : ∃ k', u = k' + 1 := ⟨u - 1, by omega⟩
    refine ⟨T, fr, fun j hj => t1 j (by omega), ?_⟩
    rw [fX10_keepForUndo_h21]; unfold fX10_keepForUndo_s21 fX10_keepForUndo_s63
    rw [show i = 8 by omega, if_pos (show (8 : Int32) ≤ nI 8 by decide), if_neg (by decide)]
    rfl
  | succ m ih =>
    intro i u T hi h1 hu fr t1 t2
    obtain ⟨u, rfl⟩ : ∃ k', u = k' + 1 := ⟨u - 1, by omega⟩
    obtain ⟨ii, hii, eii⟩ := hq.1 i (by omega)
    have ei := t2 i (by omega) (by omega)
    rw [fX10_keepForUndo_h21]; unfold fX10_keepForUndo_s21 fX10_keepForUndo_s44
    rw [if_neg (show ¬ (8 : Int32) ≤ nI i from nI_ge (b := 8) (by omega) (by omega)), igd (by omega) (by decide), nI_clamp (by omega), show (0 : Nat) + 105 = 105 from rfl, if_neg (fun q => q (by rw [ei, eii]; exact KT_past hii)), show (1 : Int32) = nI 1 from rfl, pk_sub h1, igd (show i - 1 < 8 by omega) (by decide), nI_clamp (by omega), nI_add, ei]
    refine ih (i + 1) u _ (by omega) (by omega) (by omega) (Fr_sQ fr rfl) (fun j hj => ?_) (fun j hj hj2 => (gQ_j (by omega)).trans (t2 j (by omega) hj2))
    by_cases r : j = i - 1
    · subst r; rw [gQ_s, show i - 1 + 1 = i by omega]
    · exact (gQ_j r).trans (t1 j (by omega))
theorem keepC {S : St} {n0 : Nat} {D : DS} (hn : n0 ≤ 5) (u : UN S n0) (hb : DC S 97 n0 D) : ∃ K T, K ≤ 8 ∧ gI S 11 23 140 = nI K ∧ fX10_keepForUndo 0 S = some T ∧ Fr (fun k a => (a = 0 ∧ k = 11) ∨ (105 ≤ a ∧ a ≤ 137)) S T ∧ gI T 10 11 0 = nI (nxK K) ∧ PQ T ∧ (∀ i, i + 1 < nxK K → ∃ m, DR T (gQ T 105 i) (fun j => gA S 34 147 (17 * (i + shK K) + j)) n0 m) ∧ DC T (gQ T 105 (nxK K - 1)) n0 D := by
  obtain ⟨K, k1, k2, k3, k4, k5, k6⟩ := u
  refine ⟨K, ?_⟩
  unfold fX10_keepForUndo fX10_keepForUndo_s19
  rw [k2]
  rcases Nat.lt_or_ge K 8 with q | q
  · obtain ⟨T, t1, t2, t3, t4, t5⟩ := c_push hn q k2 ⟨k4, k5⟩ hb
    have eq : ∀ j, gQ T 105 j = gQ S 105 j := fun j => t2.q (by omega)
    have e1 : nxK K = K + 1 := if_neg (by omega)
    have e2 : shK K = 0 := if_neg (by omega)
    rw [if_pos (show nI K < 8 from nI_lt (b := 8) q (by omega)), e1, e2]
    refine ⟨T, k1, k3, t1, Fr_mo t2 (fun k a q => by omega), t3, ⟨fun j hj => by rw [eq]; exact k4 j hj, fun j j' hj hj' => by rw [eq, eq]; exact k5 j j' hj hj'⟩, fun i hi => ?_, by rw [eq, Nat.add_sub_cancel]; exact t4⟩
    obtain ⟨m, hm⟩ := k6 i (by omega)
    rw [eq]
    exact ⟨m, t5 i (by omega) (by omega) _ m hm⟩
  · have hK : K = 8 := by omega
    subst hK
    obtain ⟨i0, hi0, ei0⟩ := k4 0 (by omega)
    obtain ⟨U, u1, u2, u3⟩ := l_rot (b := gQ S 105 0) ⟨k4, k5⟩ 7 1 NN S (by omega) (by omega) (by unfold NN; omega) Fr_id (fun j hj => by omega) (fun j _ _ => rfl)
    have u3' : fX10_keepForUndo_h21 0 NN (gQ S 105 0) 1 S = _ := u3
    rw [if_neg (show ¬ nI 8 < 8 by decide), show (0 : Nat) + 105 = 105 from rfl, if_neg (fun q => q (by rw [ei0]; exact KT_past hi0)), u3']
    generalize hV : sI (sQ U 105 7 (gQ S 105 0)) 10 11 0 (8 - 1) = V
    have frV : Fr (fun k a => (a = 0 ∧ k = 11) ∨ a = 105) S V := by rw [← hV]; exact Fr_sI (Fr_sQ (Fr_mo u1 (fun k a q => Or.inr q)) (Or.inr rfl)) (Or.inl ⟨rfl, rfl⟩)
    have qV : ∀ j, j < 7 → gQ V 105 j = gQ S 105 (j + 1) := fun j hj => by rw [← hV]; exact (gQ_j (by omega)).trans (u2 j hj)
    have qV7 : gQ V 105 7 = gQ S 105 0 := by rw [← hV]; exact gQ_s
    have pV : PQ V := by
      refine ⟨fun j hj => ?_, fun j j' hj hj' e => ?_⟩
      · rcases Nat.lt_or_ge j 7 with r | r
        · rw [qV j r]; exact k4 _ (by omega)
        · rw [show j = 7 by omega, qV7]; exact k4 0 (by omega)
      · rcases Nat.lt_or_ge j 7 with r | r
        · rcases Nat.lt_or_ge j' 7 with r' | r'
          · rw [qV j r, qV j' r'] at e; have := k5 _ _ (by omega) (by omega) e; omega
          · rw [qV j r, show j' = 7 by omega, qV7] at e; have := k5 _ _ (by omega) (by omega) e; omega
        · rcases Nat.lt_or_ge j' 7 with r' | r'
          · rw [qV j' r', show j = 7 by omega, qV7] at e; have := k5 _ _ (by omega) (by omega) e; omega
          · omega
    have hb' : DC V 97 n0 D := DC_fr frV (fun k a a1 a2 => by omega) hb
    obtain ⟨T, t1, t2, t3, t4, t5⟩ := c_push (k := 7) hn (by omega) (by rw [← hV]; exact gI_s) pV hb'
    have eq : ∀ j, gQ T 105 j = gQ V 105 j := fun j => t2.q (by omega)
    refine ⟨T, k1, k3, t1, Fr_tr (Fr_mo frV (fun k a q => by omega)) (Fr_mo t2 (fun k a q => by omega)), t3, ⟨fun j hj => by rw [eq]; exact pV.1 j hj, fun j j' hj hj' => by rw [eq, eq]; exact pV.2 j j' hj hj'⟩, fun i hi => ?_, by rw [eq]; exact t4⟩
    have hi7 : i < 7 := by unfold nxK at hi; rw [if_pos rfl] at hi; omega
    obtain ⟨m, hm⟩ := k6 (i + 1) (by omega)
    rw [eq]
    have hm' : DR V (gQ V 105 i) (fun j => gA S 34 147 (17 * (i + shK 8) + j)) n0 m := by
      rw [qV i hi7]
      obtain ⟨ii, hii, eii⟩ := k4 (i + 1) (by omega)
      exact DR_fr frV hn (fun k a a1 a2 => by rw [eii] at a1 a2; omega) (fun j _ => rfl) hm
    exact ⟨m, t5 i (by omega) (by omega) _ m hm'⟩
-- the reference's keep
theorem l_k46 {S : St} {k : Nat} (hk : k < 8) : ∀ (m i u : Nat) (T : St), i + m = 17 → m < u → Fr (fun _ a => a = 147) S T → gI T 11 23 140 = nI k → (∀ j, j < i → gA T 34 147 (17 * k + j) = gA S 29 142 (52 + j)) → (∀ j, j < 17 * k → gA T 34 147 j = gA S 34 147 j) → ∃ U, fX11_keep_h46 140 u (nI i) T = some U ∧ Fr (fun kk a => (a = 140 ∧ kk = 23) ∨ a = 147) S U ∧ gI U 11 23 140 = nI (k + 1) ∧ (∀ j, j < 17 → gA U 34 147 (17 * k + j) = gA S 29 142 (52 + j)) ∧ ∀ j, j < 17 * k → gA U 34 147 j = gA S 34 147 j := by
  intro m
  induction m with
  | zero =>
    intro i u T hi hu fr t0 t1 t2
    obtain ⟨u, rfl⟩ : ∃ k', u = k' + 1 := ⟨u - 1, by omega⟩
    rw [fX11_keep_h46]; unfold fX11_keep_s46
    rw [show i = 17 by omega, if_pos (show (17 : Int32) ≤ nI 17 by decide)]
    exact ⟨_, rfl, Fr_sI (Fr_mo fr (fun kk a q => Or.inr q)) (Or.inl ⟨rfl, rfl⟩), by rw [gI_s, t0, nI_1], fun j hj => t1 j (by omega), t2⟩
  | succ m ih =>
    intro i u T hi hu fr t0 t1 t2
    obtain ⟨u, rfl⟩ : ∃ k', u = k' + 1 := ⟨u - 1, by omega⟩
    have es : gA T 29 142 (52 + i) = gA S 29 142 (52 + i) := fr.a (by omega)
    rw [fX11_keep_h46]; unfold fX11_keep_s46 fX11_keep_s75
    rw [if_neg (show ¬ (17 : Int32) ≤ nI i from nI_ge (b := 17) (by omega) (by omega)), show (52 : Int32) + nI i = nI (52 + i) from nI_add 52 i, igd (by omega) (by decide), t0, show (17 : Int32) = nI 17 from rfl, pk_mul, nI_add, igd (by omega) (by decide), nI_clamp (by omega), nI_clamp (by omega), nI_1, show (140 : Nat) + 2 = 142 from rfl, show (140 : Nat) + 7 = 147 from rfl, es]
    refine ih (i + 1) u _ (by omega) (by omega) (Fr_sA fr rfl) t0 (fun j hj => ?_) (fun j hj => (gA_j (by omega)).trans (t2 j hj))
    by_cases r : j = i
    · subst r; exact gA_s
    · exact (gA_j (by omega)).trans (t1 j (by omega))
theorem l_k11 {S : St} : ∀ (m i u : Nat) (T : St), i + m = 119 → m < u → Fr (fun _ a => a = 147) S T → (∀ j, j < i → gA T 34 147 j = gA S 34 147 (j + 17)) → (∀ j, i ≤ j → gA T 34 147 j = gA S 34 147 j) → ∃ U, fX11_keep_h11 140 u (nI i) T = fX11_keep_s44 140 (sI U 11 23 140 7) ∧ Fr (fun _ a => a = 147) S U ∧ ∀ j, j < 119 → gA U 34 147 j = gA S 34 147 (j + 17) := by
  intro m
  induction m with
  | zero =>
    intro i u T hi hu fr t1 t2
    obtain ⟨u, rfl⟩ : ∃ k', u = k' + 1 := ⟨u - 1, by omega⟩
    rw [fX11_keep_h11]; unfold fX11_keep_s11
    rw [show i = 119 by omega, if_pos (show (119 : Int32) ≤ nI 119 by decide)]
    exact ⟨T, rfl, fr, fun j hj => t1 j (by omega)⟩
  | succ m ih =>
    intro i u T hi hu fr t1 t2
    obtain ⟨u, rfl⟩ : ∃ k', u = k' + 1 := ⟨u - 1, by omega⟩
    rw [fX11_keep_h11]; unfold fX11_keep_s11 fX11_keep_s32
    rw [if_neg (show ¬ (119 : Int32) ≤ nI i from nI_ge (b := 119) (by omega) (by omega)), show (17 : Int32) = nI 17 from rfl, nI_add, igd (by omega) (by decide), igd (by omega) (by decide), nI_clamp (by omega), nI_clamp (by omega), nI_1, show (140 : Nat) + 7 = 147 from rfl, t2 (i + 17) (by omega)]
    refine ih (i + 1) u _ (by omega) (by omega) (Fr_sA fr rfl) (fun j hj => ?_) (fun j hj => (gA_j (by omega)).trans (t2 j (by omega)))
    by_cases r : j = i
    · subst r; exact gA_s
    · exact (gA_j r).trans (t1 j (by omega))
theorem keepR {S : St} {K : Nat} (hK : K ≤ 8) (h : gI S 11 23 140 = nI K) : ∃ T, fX11_keep 140 S = some T ∧ Fr (fun k a => (a = 140 ∧ k = 23) ∨ a = 147) S T ∧ gI T 11 23 140 = nI (nxK K) ∧ (∀ i j, i + 1 < nxK K → j < 17 → gA T 34 147 (17 * i + j) = gA S 34 147 (17 * (i + shK K) + j)) ∧ ∀ j, j < 17 → gA T 34 147 (17 * (nxK K - 1) + j) = gA S 29 142 (52 + j) := by
  unfold fX11_keep
  rw [h]
  rcases Nat.lt_or_ge K 8 with q | q
  · have e1 : nxK K = K + 1 := if_neg (by omega)
    have e2 : shK K = 0 := if_neg (by omega)
    obtain ⟨U, u1, u2, u3, u4, u5⟩ := l_k46 (S := S) q 17 0 NN S (by omega) (by unfold NN; omega) Fr_id h (fun j hj => by omega) (fun j _ => rfl)
    rw [if_neg (show ¬ nI K = 8 from fun e => by have := (nI_eq (a := K) (b := 8) (by omega) (by omega)).mp e; omega), e1, e2]
    exact ⟨U, u1, u2, u3, fun i j hi hj => u5 _ (by omega), fun j hj => by rw [Nat.add_sub_cancel]; exact u4 j hj⟩
  · have hK8 : K = 8 := by omega
    subst hK8
    obtain ⟨U, u1, u2, u3⟩ := l_k11 (S := S) 119 0 NN S (by omega) (by unfold NN; omega) Fr_id (fun j hj => by omega) (fun j _ => rfl)
    have u1' : fX11_keep_h11 140 NN 0 S = _ := u1
    obtain ⟨V, v1, v2, v3, v4, v5⟩ := l_k46 (S := sI U 11 23 140 7) (k := 7) (by omega) 17 0 NN (sI U 11 23 140 7) (by omega) (by unfold NN; omega) Fr_id gI_s (fun j hj => by omega) (fun j _ => rfl)
    have fr2 : Fr (fun k a => (a = 140 ∧ k = 23) ∨ a = 147) S (sI U 11 23 140 7) := Fr_sI (Fr_mo u2 (fun k a q => Or.inr q)) (Or.inl ⟨rfl, rfl⟩)
    rw [if_pos (show nI 8 = 8 from rfl), u1']
    refine ⟨V, v1, Fr_tr fr2 v2, v3, fun i j hi hj => ?_, fun j hj => (v4 j hj).trans ((fr2.a (by omega)))⟩
    have hi7 : i < 7 := by unfold nxK at hi; rw [if_pos rfl] at hi; omega
    rw [v5 _ (by omega)]
    show gA U 34 147 _ = _
    rw [u3 _ (by omega)]
    have e8 : shK 8 = 1 := if_pos rfl
    rw [e8, show 17 * i + j + 17 = 17 * (i + 1) + j by omega]
