def XF (k a : Nat) : Prop := a = 1 ∧ 3 ≤ k ∧ k ≤ 9
def XG (k a : Nat) : Prop := a = 140 ∧ (k = 4 ∨ (11 ≤ k ∧ k ≤ 18))
theorem XT_F {C C' : St} (h : Fr XT C C') : Fr XF C C' := Fr_mo h (fun k a q => by unfold XT at q; unfold XF; omega)
theorem XS_G {C C' : St} (h : Fr XS C C') : Fr XG C C' := Fr_mo h (fun k a q => by unfold XS at q; unfold XG; omega)
/-- no fault yet -/
def LV (C R : St) (L M q : Nat) : Prop := TB C R L M ∧ gI C 6 8 1 = 0 ∧ gI R 11 15 140 = 0 ∧ Tk C R L q
def FA (C R : St) : Prop := ¬ gI C 6 8 1 = 0 ∧ gI C 6 8 1 = gI R 11 15 140 ∧ gI C 6 9 1 = gI R 11 16 140
theorem failF {C : St} {e : Int32} (h : ¬ gI C 6 8 1 = 0) : fX6_fail 1 e C = C := by unfold fX6_fail; exact if_neg h
theorem t_fail {C R : St} {L M q : Nat} {e : Int32} (h : LV C R L M q) (he : ¬ e = 0) : FA (fX6_fail 1 e C) (fX11_bad 140 e R).2 ∧ (fX11_bad 140 e R).1 = 0 ∧ Fr XF C (fX6_fail 1 e C) ∧ Fr XG R (fX11_bad 140 e R).2 := by
  obtain ⟨tb, h8, h15, -, ⟨s, s1, s2, s3⟩, -⟩ := h
  have e1 : fX6_fail 1 e C = sI (sI C 6 8 1 e) 6 9 1 (nI s) := by
    unfold fX6_fail fX6_fail_s12; rw [if_pos h8, show gI (sI C 6 8 1 e) 6 3 1 = nI s from (gI_k (by decide)).trans s2]
  have e2 : (fX11_bad 140 e R).2 = sI (sI R 11 15 140 e) 11 16 140 (nI s) := by
    unfold fX11_bad fX11_bad_s5 fX11_bad_s13; rw [show gI (sI R 11 15 140 e) 11 12 140 = nI s from (gI_k (by decide)).trans s3]
  rw [e1, e2]
  refine ⟨⟨?_, ?_, ?_⟩, rfl, Fr_sI (Fr_sI Fr_id (by unfold XF; omega)) (by unfold XF; omega), Fr_sI (Fr_sI Fr_id (by unfold XG; omega)) (by unfold XG; omega)⟩
  · rw [gI_k (by decide), gI_s]; exact he
  · rw [gI_k (by decide), gI_s, gI_k (by decide), gI_s]
  · rw [gI_s, gI_s]
/-- the text goes on behind this token on both sides -/
def Gd (C R : St) (q : Nat) : Prop := gI C 6 4 1 = nI q ∧ gI R 11 4 140 = nI q
theorem t_adv {C R : St} {L M q : Nat} (h : LV C R L M q) (g : Gd C R q) : ∃ C' R', fX6_advance 1 C = some C' ∧ fX11_step 140 R = some R' ∧ Fr XT C C' ∧ Fr XS R R' ∧ ∃ q', q ≤ q' ∧ (gI C' 6 5 1 = 0 ∨ gI C' 6 5 1 = 3 ∨ q < q') ∧ LV C' R' L M q' := by
  obtain ⟨tb, h8, h15, tk⟩ := h
  obtain ⟨C', R', r1, r2, r3, r4, q', r5, r6, r7⟩ := adv tb h8 g.1 g.2 tk.1
  exact ⟨C', R', r1, r2, r3, r4, q', r5, r6, TB_fr tb r3 r4 (fun k a q => by unfold XT at q; omega) (fun k a q => by unfold XS at q; omega), (r3.i (by unfold XT; omega)).trans h8, (r4.i (by unfold XS; omega)).trans h15, r7⟩
/-- a token in its five kinds -/
theorem t_cases {C R : St} {L M q : Nat} (h : LV C R L M q) : (gI C 6 5 1 = 0 ∧ gI R 11 11 140 = 0) ∨ (gI C 6 5 1 = 3 ∧ gI R 11 11 140 = 4) ∨ (Gd C R q ∧ gI C 6 5 1 = 1 ∧ gI R 11 11 140 = 1 ∧ gJ C 6 6 1 = gJ R 11 17 140 ∧ 0 ≤ (gJ C 6 6 1).toInt ∧ (gJ C 6 6 1).toInt < 72057594037927936) ∨ (Gd C R q ∧ gI C 6 5 1 = 2 ∧ gI R 11 11 140 = 2 ∧ ∃ v, v ≤ 999 ∧ gI C 6 7 1 = nI v ∧ gI R 11 14 140 = nI v) ∨ (Gd C R q ∧ ∃ c : Nat, (c = 40 ∨ c = 41 ∨ c = 59 ∨ c = 60 ∨ c = 61 ∨ c = 62) ∧ gI C 6 5 1 = nI c ∧ gI R 11 11 140 = 3 ∧ gI R 11 14 140 = nI c) := by
  obtain ⟨-, -, -, -, -, h⟩ := h
  rcases h with h | h | ⟨h1, h2, h | h | h⟩
  · exact Or.inl h
  · exact Or.inr (Or.inl h)
  · exact Or.inr (Or.inr (Or.inl ⟨⟨h1, h2⟩, h⟩))
  · exact Or.inr (Or.inr (Or.inr (Or.inl ⟨⟨h1, h2⟩, h⟩)))
  · exact Or.inr (Or.inr (Or.inr (Or.inr ⟨⟨h1, h2⟩, h⟩)))
theorem t_word {C R : St} {L M q : Nat} (h : LV C R L M q) (x : Int64) : (fX6_isAt 1 x C = 0 ∧ fX11_isWord 140 x R = 0) ∨ (fX6_isAt 1 x C = 1 ∧ fX11_isWord 140 x R = 1 ∧ Gd C R q ∧ gI C 6 5 1 = 1 ∧ gJ C 6 6 1 = x) := by
  have h8 := h.2.1
  unfold fX6_isAt fX11_isWord
  rw [if_pos h8]
  rcases t_cases h with ⟨a, b⟩ | ⟨a, b⟩ | ⟨g, a, b, c, -⟩ | ⟨g, a, b, -⟩ | ⟨g, c, c0, a, b, -⟩
  · rw [a, b]; exact Or.inl ⟨if_neg (by decide), if_neg (by decide)⟩
  · rw [a, b]; exact Or.inl ⟨if_neg (by decide), if_neg (by decide)⟩
  · rw [a, b, if_pos rfl, if_pos rfl, ← c]
    by_cases q : lg_cmp (gJ C 6 6 1) x = 0
    · rw [if_pos q]; exact Or.inr ⟨rfl, rfl, g, rfl, (lg_cmp_eq _ _).mp q⟩
    · rw [if_neg q]; exact Or.inl ⟨rfl, rfl⟩
  · rw [a, b]; exact Or.inl ⟨if_neg (by decide), if_neg (by decide)⟩
  · rw [a, b]; exact Or.inl ⟨if_neg (fun r => by have := (nI_eq (a := c) (b := 1) (by omega) (by omega)).mp r; omega), if_neg (by decide)⟩
theorem isAtF {C : St} {x : Int64} (h : ¬ gI C 6 8 1 = 0) : fX6_isAt 1 x C = 0 := by unfold fX6_isAt; exact if_neg h
theorem t_num {C R : St} {L M q : Nat} (h : LV C R L M q) {a b : Nat} (ha : a < 2 ^ 31) (hb : b < 2 ^ 31) : (∃ (v : Nat) (C' R' : St) (q' : Nat), fX6_takeNumber 1 (nI a) (nI b) C = some (nI v, C') ∧ fX11_takes 140 (nI a) (nI b) R = some (1, R') ∧ gI R' 11 18 140 = nI v ∧ a ≤ v ∧ v ≤ b ∧ v ≤ 999 ∧ Fr XF C C' ∧ Fr XG R R' ∧ q ≤ q' ∧ (gI C' 6 5 1 = 0 ∨ gI C' 6 5 1 = 3 ∨ q < q') ∧ LV C' R' L M q') ∨ (∃ C' R', fX6_takeNumber 1 (nI a) (nI b) C = some (nI a, C') ∧ fX11_takes 140 (nI a) (nI b) R = some (0, R') ∧ Fr XF C C' ∧ Fr XG R R' ∧ FA C' R') := by
  have nb : vp_nar .boolean (0 : Int32) = 0 := by decide
  have h8 := h.2.1
  have bad : ∀ e : Int32, ¬ e = 0 → ∃ C' R', fX6_takeNumber_s37 1 (nI a) (nI b) (fX6_fail 1 e C) = some (nI a, C') ∧ some (vp_nar .boolean (fX11_bad 140 e R).1, (fX11_bad 140 e R).2) = some (0, R') ∧ Fr XF C C' ∧ Fr XG R R' ∧ FA C' R' := by
    intro e he
    obtain ⟨f1, f2, f3, f4⟩ := t_fail h he
    unfold fX6_takeNumber_s37
    rw [if_neg f1.1, advF f1.1, ob_some, f2, nb]
    exact ⟨_, _, rfl, rfl, f3, f4, f1⟩
  unfold fX6_takeNumber fX11_takes fX6_takeNumber_s32 fX6_takeNumber_s13 fX11_takes_s13 fX11_takes_s31 fX11_takes_s40
  have n2 : ¬ gI C 6 5 1 = 2 → ¬ gI R 11 11 140 = 2 → (∃ C' R', (if gI C 6 5 1 = 2 then if gI C 6 7 1 < nI a then fX6_takeNumber_s37 1 (nI a) (nI b) (fX6_fail 1 2 C) else if gI C 6 7 1 ≤ nI b then fX6_takeNumber_s37 1 (nI a) (nI b) C else fX6_takeNumber_s37 1 (nI a) (nI b) (fX6_fail 1 2 C) else fX6_takeNumber_s37 1 (nI a) (nI b) (fX6_fail 1 1 C)) = some (nI a, C') ∧ (if gI R 11 11 140 = 2 then if fX11_isIn (gI R 11 14 140) (nI a) (nI b) R = 0 then some (vp_nar .boolean (fX11_bad 140 2 R).1, (fX11_bad 140 2 R).2) else (fX11_step 140 (sI R 11 18 140 (gI R 11 14 140))).bind fun r_3 => some (1, r_3) else some (vp_nar .boolean (fX11_bad 140 1 R).1, (fX11_bad 140 1 R).2)) = some (0, R') ∧ Fr XF C C' ∧ Fr XG R R' ∧ FA C' R') := fun p1 p2 => by
    rw [if_neg p1, if_neg p2]; exact bad 1 (by decide)
  rcases t_cases h with ⟨k1, k2⟩ | ⟨k1, k2⟩ | ⟨g, k1, k2, -⟩ | ⟨g, k1, k2, v, v1, v2, v3⟩ | ⟨g, c, c0, k1, k2, -⟩
  · exact Or.inr (n2 (by rw [k1]; decide) (by rw [k2]; decide))
  · exact Or.inr (n2 (by rw [k1]; decide) (by rw [k2]; decide))
  · exact Or.inr (n2 (by rw [k1]; decide) (by rw [k2]; decide))
  · rw [if_pos k1, if_pos k2, v2, v3]
    rcases Nat.lt_or_ge v a with p | p
    · rw [if_pos (nI_lt p ha), isIn_no (Or.inl (nI_lt p ha)), if_pos rfl]
      exact Or.inr (bad 2 (by decide))
    · rw [if_neg (nI_nlt p (by omega))]
      rcases Nat.lt_or_ge b v with p2 | p2
      · rw [if_neg (nI_ge p2 (by omega)), isIn_no (Or.inr (nI_lt p2 (by omega))), if_pos rfl]
        exact Or.inr (bad 2 (by decide))
      · rw [if_pos (nI_le p2 hb), isIn_yes (nI_nlt p (by omega)) (Int32.not_lt.mpr (nI_le p2 hb)), if_neg i10]
        have f0 : Fr XG R (sI R 11 18 140 (nI v)) := Fr_sI Fr_id (by unfold XG; omega)
        have h' : LV C (sI R 11 18 140 (nI v)) L M q := by
          obtain ⟨tb, z8, z15, tk⟩ := h
          refine ⟨TB_fr tb (Fr_id (X := XF)) f0 (fun k a q => by unfold XF at q; omega) (fun k a q => by unfold XG at q; omega), z8, (gI_k (by decide)).trans z15, ?_⟩
          have r1 : ∀ k, k ≠ 18 → gI (sI R 11 18 140 (nI v)) 11 k 140 = gI R 11 k 140 := fun k hk => gI_k hk
          unfold Tk
          rw [r1 12 (by decide), r1 11 (by decide), r1 4 (by decide), r1 14 (by decide)]
          exact tk
        have g' : Gd C (sI R 11 18 140 (nI v)) q := ⟨g.1, (gI_k (by decide)).trans g.2⟩
        obtain ⟨C', R', r1, r2, r3, r4, q', r5, r6, r7⟩ := t_adv h' g'
        unfold fX6_takeNumber_s37 fX6_takeNumber_s53
        rw [if_pos h8, r1, ob_some, v2, r2, ob_some]
        exact Or.inl ⟨v, C', R', q', rfl, rfl, (r4.i (by unfold XS; omega)).trans gI_s, p, p2, v1, XT_F r3, Fr_tr f0 (XS_G r4), r5, r6, r7⟩
  · exact Or.inr (n2 (by rw [k1]; exact fun r => by have := (nI_eq (a := c) (b := 2) (by omega) (by omega)).mp r; omega) (by rw [k2]; decide))
theorem t_numF {C : St} {lo hi : Int32} (h : ¬ gI C 6 8 1 = 0) : fX6_takeNumber 1 lo hi C = some (lo, C) := by
  have e37 : fX6_takeNumber_s37 1 lo hi C = some (lo, C) := by
    unfold fX6_takeNumber_s37; rw [if_neg h, advF h, ob_some]
  unfold fX6_takeNumber fX6_takeNumber_s32 fX6_takeNumber_s13
  rw [failF h, failF h, e37, ite_self, ite_self, ite_self]
theorem t_sign {C R : St} {L M q x : Nat} (hx : x = 40 ∨ x = 41 ∨ x = 59 ∨ x = 60 ∨ x = 61 ∨ x = 62) (h : LV C R L M q) : (∃ (C' R' : St) (q' : Nat), gI C 6 5 1 = nI x ∧ fX6_takeSign 1 (nI x) C = some C' ∧ fX11_sign 140 (nI x) R = some (1, R') ∧ Fr XF C C' ∧ Fr XG R R' ∧ q ≤ q' ∧ (gI C' 6 5 1 = 0 ∨ gI C' 6 5 1 = 3 ∨ q < q') ∧ LV C' R' L M q') ∨ (∃ C' R', fX6_takeSign 1 (nI x) C = some C' ∧ fX11_sign 140 (nI x) R = some (0, R') ∧ Fr XF C C' ∧ Fr XG R R' ∧ FA C' R') := by
  have nb : vp_nar .boolean (0 : Int32) = 0 := by decide
  have no : ¬ gI C 6 5 1 = nI x → fX11_isSign 140 (nI x) R = 0 → (∃ C' R', fX6_takeSign 1 (nI x) C = some C' ∧ fX11_sign 140 (nI x) R = some (0, R') ∧ Fr XF C C' ∧ Fr XG R R' ∧ FA C' R') := fun p1 p2 => by
    obtain ⟨f1, f2, f3, f4⟩ := t_fail h (show ¬ (1 : Int32) = 0 by decide)
    unfold fX6_takeSign fX6_takeSign_s13 fX11_sign fX11_sign_s13
    rw [if_neg p1, p2, if_pos rfl, advF f1.1, ob_some, f2, nb]
    exact ⟨_, _, rfl, rfl, f3, f4, f1⟩
  have ne : ∀ j : Nat, j < 4 → ¬ nI j = nI x := fun j hj r => by have := (nI_eq (by omega) (by omega)).mp r; omega
  rcases t_cases h with ⟨k1, k2⟩ | ⟨k1, k2⟩ | ⟨g, k1, k2, -⟩ | ⟨g, k1, k2, -⟩ | ⟨g, c, c0, k1, k2, k3⟩
  · exact Or.inr (no (by rw [k1]; exact ne 0 (by omega)) (by unfold fX11_isSign; rw [k2]; exact if_neg (by decide)))
  · exact Or.inr (no (by rw [k1]; exact ne 3 (by omega)) (by unfold fX11_isSign; rw [k2]; exact if_neg (by decide)))
  · exact Or.inr (no (by rw [k1]; exact ne 1 (by omega)) (by unfold fX11_isSign; rw [k2]; exact if_neg (by decide)))
  · exact Or.inr (no (by rw [k1]; exact ne 2 (by omega)) (by unfold fX11_isSign; rw [k2]; exact if_neg (by decide)))
  · by_cases p : c = x
    · subst p
      obtain ⟨C', R', r1, r2, r3, r4, q', r5, r6, r7⟩ := t_adv h g
      refine Or.inl ⟨C', R', q', k1, ?_, ?_, XT_F r3, XS_G r4, r5, r6, r7⟩
      · unfold fX6_takeSign fX6_takeSign_s13; rw [if_pos k1, r1, ob_some]
      · unfold fX11_sign fX11_isSign; rw [k2, if_pos rfl, k3, if_pos rfl, if_neg i10, r2, ob_some]
    · have ne2 : ¬ nI c = nI x := fun r => p ((nI_eq (by omega) (by omega)).mp r)
      exact Or.inr (no (by rw [k1]; exact ne2) (by unfold fX11_isSign; rw [k2, if_pos rfl, k3]; exact if_neg ne2))
theorem t_signF {C : St} {x : Int32} (h : ¬ gI C 6 8 1 = 0) : fX6_takeSign 1 x C = some C := by
  unfold fX6_takeSign fX6_takeSign_s13
  rw [failF h, advF h, ob_some, ite_self]
-- names
def nmB (w : Int64) : Nat → Nat → Bool
  | 0, _ => true
  | m + 1, i => if twv i = w then false else nmB w m (i + 1)
theorem l_atName {C : St} : ∀ m i u : Nat, i + m = 19 → m < u → fX6_isAtName_h12 1 u (nI i) C = some (b01 (nmB (gJ C 6 6 1) m i)) := by
  intro m
  induction m with
  | zero =>
    intro i u hi hu
    obtain ⟨u, rfl⟩ : ∃ k', u = k' + 1 := ⟨u - 1, by omega⟩
    rw [fX6_isAtName_h12]; unfold fX6_isAtName_s12
    rw [if_pos (show (19 : Int32) ≤ nI i from nI_le (a := 19) (by omega) (by omega))]; rfl
  | succ m ih =>
    intro i u hi hu
    obtain ⟨u, rfl⟩ : ∃ k', u = k' + 1 := ⟨u - 1, by omega⟩
    rw [fX6_isAtName_h12]; unfold fX6_isAtName_s12
    rw [if_neg (show ¬ (19 : Int32) ≤ nI i from nI_ge (b := 19) (by omega) (by omega)), igd (by omega) (by decide), nI_clamp (by omega), nI_1]
    unfold nmB
    by_cases q : twv i = gJ C 6 6 1
    · rw [if_pos ((lg_cmp_eq _ _).mpr q), if_pos q]; rfl
    · rw [if_neg (fun h => q ((lg_cmp_eq _ _).mp h)), if_neg q]; exact ih (i + 1) u (by omega) (by omega)
theorem l_isName {R : St} (rs : RS R) : ∀ (m i u : Nat) (y : Bool), i + m = 19 → m < u → fX11_isName_h16 140 u (b01 y) (nI i) R = some (b01 (y && nmB (gJ R 11 17 140) m i)) := by
  intro m
  induction m with
  | zero =>
    intro i u y hi hu
    obtain ⟨u, rfl⟩ : ∃ k', u = k' + 1 := ⟨u - 1, by omega⟩
    rw [fX11_isName_h16]; unfold fX11_isName_s16
    rw [if_pos (show (19 : Int32) ≤ nI i from nI_le (a := 19) (by omega) (by omega)), nar01]
    show _ = some (b01 (y && true))
    rw [Bool.and_true]
  | succ m ih =>
    intro i u y hi hu
    obtain ⟨u, rfl⟩ : ∃ k', u = k' + 1 := ⟨u - 1, by omega⟩
    rw [fX11_isName_h16]; unfold fX11_isName_s16
    rw [if_neg (show ¬ (19 : Int32) ≤ nI i from nI_ge (b := 19) (by omega) (by omega)), igd (by omega) (by decide), nI_clamp (by omega), nI_1, show gB R 33 (140 + 6) i = twv i from rs i (by omega), if01]
    have f0 := ih (i + 1) u false (by omega) (by omega)
    have f1 := ih (i + 1) u true (by omega) (by omega)
    rw [Bool.false_and] at f0
    rw [Bool.true_and] at f1
    cases y with
    | false => rw [if_neg (by decide), Bool.false_and]; exact f0
    | true =>
      rw [if_pos rfl, Bool.true_and]
      unfold nmB
      by_cases q : twv i = gJ R 11 17 140
      · rw [if_pos ((lg_cmp_eq _ _).mpr q.symm), if_pos q]; exact f0
      · rw [if_neg (fun h => q ((lg_cmp_eq _ _).mp h).symm), if_neg q]; exact f1
theorem atNameT (C : St) : ∃ b : Bool, fX6_isAtName 1 C = some (b01 b) := by
  unfold fX6_isAtName
  by_cases q : gI C 6 5 1 = 1
  · rw [if_pos q]; exact ⟨_, l_atName 19 0 NN (by omega) (by unfold NN; omega)⟩
  · rw [if_neg q]; exact ⟨false, rfl⟩
theorem t_name {C R : St} {L M q : Nat} (h : LV C R L M q) (rs : RS R) : ∃ b : Bool, fX6_isAtName 1 C = some (b01 b) ∧ fX11_isName 140 R = some (b01 b) ∧ (b = true → Gd C R q ∧ gI C 6 5 1 = 1 ∧ gJ C 6 6 1 = gJ R 11 17 140 ∧ 0 ≤ (gJ C 6 6 1).toInt ∧ (gJ C 6 6 1).toInt < 72057594037927936) := by
  have e0 := l_isName rs 19 0 NN false (by omega) (by unfold NN; omega)
  have e1 := l_isName rs 19 0 NN true (by omega) (by unfold NN; omega)
  rw [Bool.false_and] at e0
  rw [Bool.true_and] at e1
  have no : ¬ gI C 6 5 1 = 1 → ¬ gI R 11 11 140 = 1 → ∃ b : Bool, fX6_isAtName 1 C = some (b01 b) ∧ fX11_isName 140 R = some (b01 b) ∧ (b = true → Gd C R q ∧ gI C 6 5 1 = 1 ∧ gJ C 6 6 1 = gJ R 11 17 140 ∧ 0 ≤ (gJ C 6 6 1).toInt ∧ (gJ C 6 6 1).toInt < 72057594037927936) := fun p1 p2 => by
    unfold fX6_isAtName fX11_isName
    rw [if_neg p1, if_neg p2]
    exact ⟨false, rfl, e0, (nomatch ·)⟩
  rcases t_cases h with ⟨k1, k2⟩ | ⟨k1, k2⟩ | ⟨g, k1, k2, k3, k4⟩ | ⟨g, k1, k2, -⟩ | ⟨g, c, c0, k1, k2, -⟩
  · exact no (by rw [k1]; decide) (by rw [k2]; decide)
  · exact no (by rw [k1]; decide) (by rw [k2]; decide)
  · unfold fX6_isAtName fX11_isName
    rw [if_pos k1, if_pos k2]
    refine ⟨_, l_atName 19 0 NN (by omega) (by unfold NN; omega), ?_, fun _ => ⟨g, k1, k3, k4⟩⟩
    rw [k3]; exact e1
  · exact no (by rw [k1]; decide) (by rw [k2]; decide)
  · exact no (by rw [k1]; exact fun r => by have := (nI_eq (a := c) (b := 1) (by omega) (by omega)).mp r; omega) (by rw [k2]; decide)
