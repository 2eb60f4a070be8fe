-- names sought in a row of names
def PN (C R : St) (a0 b n : Nat) : Prop := gI C 8 2 a0 = nI n ∧ n ≤ 5 ∧ ∀ p, p < n → gJ C 4 0 (a0 + 3 + p) = gB R 32 145 (b + p)
def FN (C R : St) (a0 b n : Nat) : Prop := gI C 8 3 a0 = nI n ∧ n ≤ 6 ∧ ∀ f, f < n → gJ C 3 0 (a0 + 8 + f) = gB R 32 145 (b + f)
/-- the first name that is w -/
def fnd (g : Nat → Int64) (w : Int64) : Nat → Nat → Int32
  | 0, _ => -1
  | m + 1, i => if g i = w then nI i else fnd g w m (i + 1)
theorem fnd_r {g : Nat → Int64} {w : Int64} {n : Nat} : ∀ m i : Nat, i + m = n → fnd g w m i = -1 ∨ ∃ j, j < n ∧ fnd g w m i = nI j := by
  intro m
  induction m with
  | zero => intro i hi; exact Or.inl rfl
  | succ m ih =>
    intro i hi
    unfold fnd
    by_cases q : g i = w
    · rw [if_pos q]; exact Or.inr ⟨i, by omega, rfl⟩
    · rw [if_neg q]; exact ih (i + 1) (by omega)
theorem fnd_c {g g' : Nat → Int64} {w : Int64} {n : Nat} (h : ∀ j, j < n → g j = g' j) : ∀ m i : Nat, i + m = n → fnd g w m i = fnd g' w m i := by
  intro m
  induction m with
  | zero => intro i hi; rfl
  | succ m ih =>
    intro i hi
    unfold fnd
    rw [h i (by omega), ih (i + 1) (by omega)]
theorem l_pNamed {C : St} {a0 n : Nat} {w : Int64} (hn : gI C 8 2 a0 = nI n) (h5 : n ≤ 5) : ∀ m i u : Nat, i + m = n → m < u → fX8_parishNamed_h2 a0 w u (nI i) C = some (fnd (fun p => gJ C 4 0 (a0 + 3 + p)) w m i) := by
  intro m
  induction m with
  | zero =>
    intro i u hi hu
    obtain ⟨u, rfl⟩ : ∃ k', u = k' + 1 := ⟨u - 1, by omega⟩
    rw [fX8_parishNamed_h2]; unfold fX8_parishNamed_s2
    rw [hn, if_pos (nI_le (by omega) (by omega))]; rfl
  | succ m ih =>
    intro i u hi hu
    obtain ⟨u, rfl⟩ : ∃ k', u = k' + 1 := ⟨u - 1, by omega⟩
    rw [fX8_parishNamed_h2]; unfold fX8_parishNamed_s2
    rw [hn, if_neg (nI_ge (by omega) (by omega)), igd (by omega) (by decide), nI_clamp (by omega), nI_1, show a0 + 1 + 2 + i = a0 + 3 + i by omega]
    unfold fnd
    by_cases q : gJ C 4 0 (a0 + 3 + i) = w
    · rw [if_pos ((lg_cmp_eq _ _).mpr q), if_pos q]
    · rw [if_neg (fun h => q ((lg_cmp_eq _ _).mp h)), if_neg q]; exact ih (i + 1) u (by omega) (by omega)
theorem l_fNamed {C : St} {a0 n : Nat} {w : Int64} (hn : gI C 8 3 a0 = nI n) (h5 : n ≤ 6) : ∀ m i u : Nat, i + m = n → m < u → fX8_feastNamed_h2 a0 w u (nI i) C = some (fnd (fun p => gJ C 3 0 (a0 + 8 + p)) w m i) := by
  intro m
  induction m with
  | zero =>
    intro i u hi hu
    obtain ⟨u, rfl⟩ : ∃ k', u = k' + 1 := ⟨u - 1, by omega⟩
    rw [fX8_feastNamed_h2]; unfold fX8_feastNamed_s2
    rw [hn, if_pos (nI_le (by omega) (by omega))]; rfl
  | succ m ih =>
    intro i u hi hu
    obtain ⟨u, rfl⟩ : ∃ k', u = k' + 1 := ⟨u - 1, by omega⟩
    rw [fX8_feastNamed_h2]; unfold fX8_feastNamed_s2
    rw [hn, if_neg (nI_ge (by omega) (by omega)), igd (by omega) (by decide), nI_clamp (by omega), nI_1, show a0 + 2 + 6 + i = a0 + 8 + i by omega]
    unfold fnd
    by_cases q : gJ C 3 0 (a0 + 8 + i) = w
    · rw [if_pos ((lg_cmp_eq _ _).mpr q), if_pos q]
    · rw [if_neg (fun h => q ((lg_cmp_eq _ _).mp h)), if_neg q]; exact ih (i + 1) u (by omega) (by omega)
theorem l_seek {R : St} {b n : Nat} (hb : b + n ≤ 22) : ∀ m i u : Nat, i + m = n → m < u → fX11_seek_h2 140 (nI b) (nI n) u (nI i) R = some (fnd (fun p => gB R 32 145 (b + p)) (gJ R 11 17 140) m i) := by
  intro m
  induction m with
  | zero =>
    intro i u hi hu
    obtain ⟨u, rfl⟩ : ∃ k', u = k' + 1 := ⟨u - 1, by omega⟩
    rw [fX11_seek_h2]; unfold fX11_seek_s2
    rw [if_pos (nI_le (by omega) (by omega))]; rfl
  | succ m ih =>
    intro i u hi hu
    obtain ⟨u, rfl⟩ : ∃ k', u = k' + 1 := ⟨u - 1, by omega⟩
    rw [fX11_seek_h2]; unfold fX11_seek_s2
    rw [if_neg (nI_ge (by omega) (by omega)), nI_add, igd (by omega) (by decide), nI_clamp (by omega), nI_1]
    unfold fnd
    by_cases q : gB R 32 (140 + 5) (b + i) = gJ R 11 17 140
    · rw [if_pos ((lg_cmp_eq _ _).mpr q), if_pos q]
    · rw [if_neg (fun h => q ((lg_cmp_eq _ _).mp h)), if_neg q]; exact ih (i + 1) u (by omega) (by omega)
theorem s_parish {C R : St} {a0 b n : Nat} {w : Int64} (h : PN C R a0 b n) (hb : b ≤ 16) (hw : gJ R 11 17 140 = w) : ∃ r : Int32, fX8_parishNamed a0 w C = some r ∧ fX11_seek 140 (nI b) (nI n) R = some r ∧ (r = -1 ∨ ∃ j, j < n ∧ r = nI j) := by
  obtain ⟨h1, h2, h3⟩ := h
  refine ⟨_, l_pNamed h1 h2 n 0 NN (by omega) (by unfold NN; omega), ?_, fnd_r n 0 (by omega)⟩
  have e := l_seek (R := R) (b := b) (n := n) (by omega) n 0 NN (by omega) (by unfold NN; omega)
  rw [hw] at e
  rw [fnd_c h3 n 0 (by omega)]
  exact e
theorem s_feast {C R : St} {a0 b n : Nat} {w : Int64} (h : FN C R a0 b n) (hb : b ≤ 16) (hw : gJ R 11 17 140 = w) : ∃ r : Int32, fX8_feastNamed a0 w C = some r ∧ fX11_seek 140 (nI b) (nI n) R = some r ∧ (r = -1 ∨ ∃ j, j < n ∧ r = nI j) := by
  obtain ⟨h1, h2, h3⟩ := h
  refine ⟨_, l_fNamed h1 h2 n 0 NN (by omega) (by unfold NN; omega), ?_, fnd_r n 0 (by omega)⟩
  have e := l_seek (R := R) (b := b) (n := n) (by omega) n 0 NN (by omega) (by unfold NN; omega)
  rw [hw] at e
  rw [fnd_c h3 n 0 (by omega)]
  exact e
theorem m1_neg : ¬ (0 : Int32) ≤ -1 := by decide
theorem m1_ne {j : Nat} (h : j < 2 ^ 31) : ¬ nI j = -1 := fun q => by
  have := congrArg Int32.toInt q
  rw [nI_toInt h] at this
  have e : ((-1 : Int32)).toInt = -1 := by decide
  omega
/-- the parish that the token names: class and reference -/
theorem t_parish {C R : St} {L M q a0 b n : Nat} (h : LV C R L M q) (rs : RS R) (pn : PN C R a0 b n) (hb : b ≤ 16) : (∃ (j : Nat) (R' : St), j < n ∧ Gd C R' q ∧ fX8_parishAt a0 1 C = some (nI j, C) ∧ fX11_looksAt 140 (nI b) (nI n) R = some (1, R') ∧ gI R' 11 18 140 = nI j ∧ Fr XG R R' ∧ LV C R' L M q) ∨ (∃ C' R', fX8_parishAt a0 1 C = some (-1, C') ∧ fX11_looksAt 140 (nI b) (nI n) R = some (0, R') ∧ Fr XF C C' ∧ Fr XG R R' ∧ FA C' R') := by
  have nb : vp_nar .boolean (0 : Int32) = 0 := by decide
  have h5 := pn.2.1
  obtain ⟨y, n1, n2, n3⟩ := t_name h rs
  unfold fX8_parishAt fX8_parishAt_s12 fX8_parishAt_s33 fX11_looksAt fX11_looksAt_s12 fX11_looksAt_s23 fX11_looksAt_s35
  rw [n1, ob_some, n2, ob_some, if01, if01]
  cases y with
  | false =>
    obtain ⟨f1, f2, f3, f4⟩ := t_fail h (show ¬ (1 : Int32) = 0 by decide)
    rw [if_neg (by decide), if_neg (by decide), f2, nb]
    exact Or.inr ⟨_, _, rfl, rfl, f3, f4, f1⟩
  | true =>
    obtain ⟨g, k1, k2, -⟩ := n3 rfl
    obtain ⟨r, r1, r2, r3⟩ := s_parish pn hb k2.symm
    have f0 : Fr XG R (sI R 11 18 140 r) := Fr_sI Fr_id (by unfold XG; omega)
    have h' : LV C (sI R 11 18 140 r) L M q := by
      obtain ⟨tb, z8, z15, tk⟩ := h
      refine ⟨TB_fr tb (Fr_id (X := XF)) f0 (fun k a q => by unfold XF at q; omega) (fun k a q => by unfold XG at q; omega), z8, (gI_k (by decide)).trans z15, ?_⟩
      have r1 : ∀ k, k ≠ 18 → gI (sI R 11 18 140 r) 11 k 140 = gI R 11 k 140 := fun k hk => gI_k hk
      unfold Tk
      rw [r1 12 (by decide), r1 11 (by decide), r1 4 (by decide), r1 14 (by decide)]
      exact tk
    rw [if_pos rfl, if_pos rfl, r1, ob_some, r2, ob_some, show gI (sI R 11 18 140 r) 11 18 140 = r from gI_s]
    rcases r3 with e | ⟨j, j1, e⟩
    · subst e
      obtain ⟨f1, f2, f3, f4⟩ := t_fail h' (show ¬ (3 : Int32) = 0 by decide)
      rw [if_pos rfl, if_neg m1_neg, f2, if_pos rfl]
      exact Or.inr ⟨_, _, rfl, rfl, f3, Fr_tr f0 f4, f1⟩
    · subst e
      rw [if_neg (m1_ne (by omega)), if_pos (nI_pos' (by omega))]
      exact Or.inl ⟨j, _, j1, ⟨g.1, (gI_k (by decide)).trans g.2⟩, rfl, rfl, gI_s, f0, h'⟩
theorem t_parishF {C : St} {a0 n : Nat} (h : ¬ gI C 6 8 1 = 0) (hn : gI C 8 2 a0 = nI n) (h5 : n ≤ 5) : ∃ r : Int32, fX8_parishAt a0 1 C = some (r, C) ∧ (r = -1 ∨ ∃ j, j < n ∧ r = nI j) := by
  obtain ⟨y, n1⟩ := atNameT C
  unfold fX8_parishAt fX8_parishAt_s12 fX8_parishAt_s33
  rw [n1, ob_some, failF h, failF h, if01]
  cases y with
  | false => rw [if_neg (by decide)]; exact ⟨_, rfl, Or.inl rfl⟩
  | true =>
    rw [if_pos rfl, show fX8_parishNamed a0 (gJ C 6 6 1) C = _ from l_pNamed hn h5 n 0 NN (by omega) (by unfold NN; omega), ob_some, ite_self]
    exact ⟨_, rfl, fnd_r n 0 (by omega)⟩
theorem t_feast {C R : St} {L M q a0 b n : Nat} (h : LV C R L M q) (rs : RS R) (pn : FN C R a0 b n) (hb : b ≤ 16) : (∃ (j : Nat) (R' : St), j < n ∧ Gd C R' q ∧ fX8_feastAt a0 1 C = some (nI j, C) ∧ fX11_looksAt 140 (nI b) (nI n) R = some (1, R') ∧ gI R' 11 18 140 = nI j ∧ Fr XG R R' ∧ LV C R' L M q) ∨ (∃ C' R', fX8_feastAt a0 1 C = some (-1, C') ∧ fX11_looksAt 140 (nI b) (nI n) R = some (0, R') ∧ Fr XF C C' ∧ Fr XG R R' ∧ FA C' R') := by
  have nb : vp_nar .boolean (0 : Int32) = 0 := by decide
  have h5 := pn.2.1
  obtain ⟨y, n1, n2, n3⟩ := t_name h rs
  unfold fX8_feastAt fX8_feastAt_s12 fX8_feastAt_s33 fX11_looksAt fX11_looksAt_s12 fX11_looksAt_s23 fX11_looksAt_s35
  rw [n1, ob_some, n2, ob_some, if01, if01]
  cases y with
  | false =>
    obtain ⟨f1, f2, f3, f4⟩ := t_fail h (show ¬ (1 : Int32) = 0 by decide)
    rw [if_neg (by decide), if_neg (by decide), f2, nb]
    exact Or.inr ⟨_, _, rfl, rfl, f3, f4, f1⟩
  | true =>
    obtain ⟨g, k1, k2, -⟩ := n3 rfl
    obtain ⟨r, r1, r2, r3⟩ := s_feast pn hb k2.symm
    have f0 : Fr XG R (sI R 11 18 140 r) := Fr_sI Fr_id (by unfold XG; omega)
    have h' : LV C (sI R 11 18 140 r) L M q := by
      obtain ⟨tb, z8, z15, tk⟩ := h
      refine ⟨TB_fr tb (Fr_id (X := XF)) f0 (fun k a q => by unfold XF at q; omega) (fun k a q => by unfold XG at q; omega), z8, (gI_k (by decide)).trans z15, ?_⟩
      have r1 : ∀ k, k ≠ 18 → gI (sI R 11 18 140 r) 11 k 140 = gI R 11 k 140 := fun k hk => gI_k hk
      unfold Tk
      rw [r1 12 (by decide), r1 11 (by decide), r1 4 (by decide), r1 14 (by decide)]
      exact tk
    rw [if_pos rfl, if_pos rfl, r1, ob_some, r2, ob_some, show gI (sI R 11 18 140 r) 11 18 140 = r from gI_s]
    rcases r3 with e | ⟨j, j1, e⟩
    · subst e
      obtain ⟨f1, f2, f3, f4⟩ := t_fail h' (show ¬ (3 : Int32) = 0 by decide)
      rw [if_pos rfl, if_neg m1_neg, f2, if_pos rfl]
      exact Or.inr ⟨_, _, rfl, rfl, f3, Fr_tr f0 f4, f1⟩
    · subst e
      rw [if_neg (m1_ne (by omega)), if_pos (nI_pos' (by omega))]
      exact Or.inl ⟨j, _, j1, ⟨g.1, (gI_k (by decide)).trans g.2⟩, rfl, rfl, gI_s, f0, h'⟩
/-- a new name for the draft -/
theorem t_new {C R : St} {L M q n n1 x : Nat} (h : LV C R L M q) (rs : RS R) (pn : PN C R 72 11 n) (fn : FN C R 72 16 n1) (hx : x < 22) (h0 : gA R 30 143 0 = nI n) (h1 : gA R 30 143 1 = nI n1) : (∃ (w : Int64) (C' R' : St) (q' : Nat), 0 ≤ w.toInt ∧ w.toInt < 72057594037927936 ∧ fX8_takeNewName 72 1 C = some (w, C') ∧ fX11_fresh 140 (nI x) R = some (1, R') ∧ Fr XT C C' ∧ Fr (fun k a => XS k a ∨ a = 145) R R' ∧ (∀ j, gB R' 32 145 j = if j = x then w else gB R 32 145 j) ∧ q ≤ q' ∧ (gI C' 6 5 1 = 0 ∨ gI C' 6 5 1 = 3 ∨ q < q') ∧ LV C' R' L M q') ∨ (∃ (w : Int64) (C' R' : St), fX8_takeNewName 72 1 C = some (w, C') ∧ fX11_fresh 140 (nI x) R = some (0, R') ∧ Fr XF C C' ∧ Fr XG R R' ∧ FA C' R') := by
  have nb : vp_nar .boolean (0 : Int32) = 0 := by decide
  obtain ⟨y, z1, z2, z3⟩ := t_name h rs
  unfold fX8_takeNewName fX8_takeNewName_s12 fX8_takeNewName_s39 fX8_takeNewName_s44 fX8_takeNewName_s49 fX11_fresh fX11_fresh_s12 fX11_fresh_s43 fX11_fresh_s48 fX11_fresh_s59
  rw [z1, ob_some, z2, ob_some, if01, if01, show gA R 30 (140 + 3) 0 = nI n from h0, show gA R 30 (140 + 3) 1 = nI n1 from h1]
  cases y with
  | false =>
    obtain ⟨f1, f2, f3, f4⟩ := t_fail h (show ¬ (1 : Int32) = 0 by decide)
    rw [if_neg (by decide), if_neg (by decide), f2, nb, advF f1.1, ob_some]
    exact Or.inr ⟨_, _, _, rfl, rfl, f3, f4, f1⟩
  | true =>
    obtain ⟨g, k1, k2, k3⟩ := z3 rfl
    obtain ⟨r, r1, r2, r3⟩ := s_parish pn (by omega) k2.symm
    obtain ⟨v, v1, v2, v3⟩ := s_feast fn (by omega) k2.symm
    obtain ⟨f1, f2, f3, f4⟩ := t_fail h (show ¬ (3 : Int32) = 0 by decide)
    rw [if_pos rfl, if_pos rfl, r1, ob_some, show fX11_seek 140 11 (nI n) R = some r from r2, ob_some]
    rcases r3 with e | ⟨j, j1, e⟩
    · subst e
      rw [if_pos rfl, if_neg m1_neg, v1, ob_some, show fX11_seek 140 16 (nI n1) R = some v from v2, ob_some]
      rcases v3 with e | ⟨j, j1, e⟩
      · subst e
        have f0 : Fr (fun k a => XS k a ∨ a = 145) R (sB R 32 145 x (gJ R 11 17 140)) := ⟨fun _ _ _ _ => rfl, fun _ _ _ _ => rfl, fun _ _ _ _ => rfl, fun c' a' j' hh => if_neg (fun qq => hh (Or.inr qq.2.1)), fun _ _ _ => rfl⟩
        have h' : LV C (sB R 32 145 x (gJ R 11 17 140)) L M q := h
        obtain ⟨C', R', p1, p2, p3, p4, q', p5, p6, p7⟩ := t_adv h' g
        rw [if_pos rfl, if_pos (by decide), igd hx (by decide), nI_clamp (by omega), p1, ob_some, p2, ob_some]
        refine Or.inl ⟨_, C', R', q', k3.1, k3.2, rfl, rfl, p3, Fr_tr f0 (Fr_mo p4 (fun k a z => Or.inl z)), fun j => ?_, p5, p6, p7⟩
        rw [p4.b (by unfold XS; omega), k2]
        by_cases ej : j = x
        · rw [if_pos ej]; exact if_pos ⟨rfl, rfl, ej⟩
        · rw [if_neg ej]; exact if_neg (fun qq => ej qq.2.2)
      · subst e
        have h6 := fn.2.1
        rw [if_neg (m1_ne (by omega)), if_neg (show ¬ nI j < 0 from nI_pos (by omega)), f2, nb, advF f1.1, ob_some]
        exact Or.inr ⟨_, _, _, rfl, rfl, f3, f4, f1⟩
    · subst e
      have h6 := pn.2.1
      rw [if_neg (m1_ne (by omega)), if_pos (nI_pos' (by omega)), f2, nb, advF f1.1, ob_some]
      exact Or.inr ⟨_, _, _, rfl, rfl, f3, f4, f1⟩
theorem t_newF {C : St} {n n1 : Nat} (h : ¬ gI C 6 8 1 = 0) (hn : gI C 8 2 72 = nI n) (h5 : n ≤ 5) (hn1 : gI C 8 3 72 = nI n1) (h6 : n1 ≤ 6) : ∃ w : Int64, fX8_takeNewName 72 1 C = some (w, C) := by
  obtain ⟨y, z1⟩ := atNameT C
  unfold fX8_takeNewName fX8_takeNewName_s12 fX8_takeNewName_s39 fX8_takeNewName_s44 fX8_takeNewName_s49
  rw [z1, ob_some, failF h, failF h, advF h, ob_some, if01]
  cases y with
  | false => rw [if_neg (by decide)]; exact ⟨_, rfl⟩
  | true =>
    rw [if_pos rfl, show fX8_parishNamed 72 (gJ C 6 6 1) C = _ from l_pNamed hn h5 n 0 NN (by omega) (by unfold NN; omega), ob_some, show fX8_feastNamed 72 (gJ C 6 6 1) C = _ from l_fNamed hn1 h6 n1 0 NN (by omega) (by unfold NN; omega), ob_some, ite_self, ite_self]
    exact ⟨_, rfl⟩
