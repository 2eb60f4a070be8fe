theorem LnO_w {C R : St} {L M q : Nat} {c : Option St} {r : Option (Int32 × St)} (h : LnO C R L M q c r) : LnO C R L M q (c.bind fun x => some x) (r.bind fun x => some (vp_nar .boolean x.1, x.2)) := by
  obtain ⟨C', R', f1, f2, f3, h⟩ := h
  refine ⟨C', R', f1, f2, f3, ?_⟩
  rcases h with ⟨q', n, e1, e2, e3⟩ | ⟨e1, e2, e3⟩
  · rw [e1, e2, ob_some, ob_some, show vp_nar .boolean (1 : Int32) = 1 by decide]; exact Or.inl ⟨q', n, rfl, rfl, e3⟩
  · rw [e1, e2, ob_some, ob_some, show vp_nar .boolean (0 : Int32) = 0 by decide]; exact Or.inr ⟨rfl, rfl, e3⟩
theorem LnO_w1 {C R : St} {L M q : Nat} {c : Option St} {r : Option (Int32 × St)} (h : LnO C R L M q c r) : LnO C R L M q (c.bind fun x => some x) r := by
  obtain ⟨C', R', f1, f2, f3, h⟩ := h
  refine ⟨C', R', f1, f2, f3, ?_⟩
  rcases h with ⟨q', n, e1, e2, e3⟩ | ⟨e1, e2, e3⟩
  · rw [e1]; exact Or.inl ⟨q', n, rfl, e2, e3⟩
  · rw [e1]; exact Or.inr ⟨rfl, e2, e3⟩
theorem r_line {C R : St} {L M q : Nat} {n : Nat → Nat} (h : LV C R L M q) (rs : RS R) (dv : DV C R n) : LnO C R L M q (fX8_readLine 72 1 C) (fX11_line 140 R) := by
  have nb : vp_nar .boolean (0 : Int32) = 0 := by decide
  unfold fX8_readLine fX11_line
  rcases t_word h 123563833652072 with ⟨a, b⟩ | ⟨a, b, g, -⟩
  · rw [a, b, if_pos rfl, if_pos rfl]
    rcases t_word h 1818583408 with ⟨a, b⟩ | ⟨a, b, g, -⟩
    · rw [a, b, if_pos rfl, if_pos rfl]
      rcases t_word h 439787549556 with ⟨a, b⟩ | ⟨a, b, g, -⟩
      · rw [a, b, if_pos rfl, if_pos rfl]
        rcases t_word h 7566702 with ⟨a, b⟩ | ⟨a, b, g, -⟩
        · rw [a, b, if_pos rfl, if_pos rfl]
          obtain ⟨f1, f2, f3, f4⟩ := t_fail h (show ¬ (1 : Int32) = 0 by decide)
          unfold fX11_line_s60
          rw [f2, nb]
          exact ⟨_, _, xf_v f3, xg_n f4, xg_k f4, Or.inr ⟨rfl, rfl, f1⟩⟩
        · rw [a, b, if_neg i10, if_neg i10]
          exact LnO_w1 (r_sun h g dv)
      · rw [a, b, if_neg i10, if_neg i10]
        exact LnO_w (r_feast h g rs dv)
    · rw [a, b, if_neg i10, if_neg i10]
      exact LnO_w (r_leap h g rs dv)
  · rw [a, b, if_neg i10, if_neg i10]
    exact LnO_w (r_parish h g rs dv)
theorem l3 {C R : St} {L M q : Nat} (h : LV C R L M q) (k : gI C 6 5 1 = 3) : ∃ R', fX11_line 140 R = some (0, R') := by
  have nb : vp_nar .boolean (0 : Int32) = 0 := by decide
  have no : ∀ x, fX11_isWord 140 x R = 0 := fun x => by
    rcases t_word h x with ⟨-, b⟩ | ⟨-, -, -, a, -⟩
    · exact b
    · rw [k] at a; exact absurd a (by decide)
  obtain ⟨f1, f2, f3, f4⟩ := t_fail h (show ¬ (1 : Int32) = 0 by decide)
  unfold fX11_line fX11_line_s60
  rw [no, no, no, no, if_pos rfl, if_pos rfl, if_pos rfl, if_pos rfl, f2, nb]
  exact ⟨_, rfl⟩
def XO (k a : Nat) : Prop := XN k a ∨ (a = 140 ∧ k = 19)
theorem xn_o {R R' : St} (f : Fr XN R R') : Fr XO R R' := Fr_mo f (fun k a q => Or.inl q)
def VlO (C R : St) (c : Option (Int32 × St)) (r : Option (Int32 × St)) : Prop := ∃ y C' R', c = some (y, C') ∧ Fr XV C C' ∧ Fr XO R R' ∧ KN R R' ∧ ((∃ n, r = fX11_valley_h80 140 NN 0 R' ∧ gI R' 11 19 140 = y ∧ gI C' 6 8 1 = 0 ∧ gI R' 11 15 140 = 0 ∧ DV C' R' n) ∨ (r = some (-1 - gI R' 11 16 140, R') ∧ FA C' R'))
theorem goF {C : St} (h : ¬ gI C 6 8 1 = 0) : fX6_goesOn 1 C = 0 := if_neg h
theorem VlO_tr {C R C' R' : St} {c r : Option (Int32 × St)} (f : Fr XV C C') (g : Fr XO R R') (k : KN R R') (h : VlO C' R' c r) : VlO C R c r := by
  obtain ⟨y, A, B, h1, h2, h3, h4, h5⟩ := h
  exact ⟨y, A, B, h1, Fr_tr f h2, Fr_tr g h3, KN_tr k h4, h5⟩
theorem l_vall {L M : Nat} : ∀ (m y u v q : Nat) (n : Nat → Nat) (C R : St), (gI C 6 5 1 = 0 ∨ (gI C 6 5 1 = 3 ∧ 1 ≤ m) ∨ L + 2 ≤ q + m) → m < u → m < v → 2 * y ≤ q → (gI C 6 5 1 = 0 ∨ gI C 6 5 1 = 3 ∨ 2 * y + 1 ≤ q) → LV C R L M q → RS R → DV C R n → gI R 11 19 140 = nI y → VlO C R (fX8_readFrom_h36 72 1 u (nI y) C) (fX11_valley_h35 140 v R) := by
  intro m
  induction m with
  | zero =>
    intro y u v q n C R hk hu hv hy hy2 lv rs dv h19
    obtain ⟨u, rfl⟩ : ∃ k', u = k' + 1 := ⟨u - 1, by omega⟩
    obtain ⟨v, rfl⟩ : ∃ k', v = k' + 1 := ⟨v - 1, by omega⟩
    have hL := lv.1.1
    have hq := lv.2.2.2.1
    have k0 : gI C 6 5 1 = 0 := by
      rcases hk with h | ⟨-, h⟩ | h
      · exact h
      · omega
      · omega
    have t0 : gI R 11 11 140 = 0 := by
      rcases t_cases lv with ⟨a, b⟩ | ⟨a, b⟩ | ⟨g, a, b, -⟩ | ⟨g, a, b, -⟩ | ⟨g, c, c0, a, b, -⟩
      · exact b
      · rw [k0] at a; exact absurd a (by decide)
      · rw [k0] at a; exact absurd a (by decide)
      · rw [k0] at a; exact absurd a (by decide)
      · rw [k0] at a; have := (nI_eq (a := 0) (b := c) (by omega) (by omega)).mp a; omega
    rw [fX8_readFrom_h36, fX11_valley_h35]; unfold fX8_readFrom_s36 fX11_valley_s35
    rw [if_neg (show ¬ (900 : Int32) ≤ nI y from nI_ge (b := 900) (by omega) (by omega)), if_pos t0]
    have go : fX6_goesOn 1 C = 0 := by unfold fX6_goesOn; rw [if_pos lv.2.1, if_pos k0]
    rw [go, if_pos rfl]
    exact ⟨nI y, C, R, rfl, Fr_id, Fr_id, fun _ _ => rfl, Or.inl ⟨n, rfl, h19, lv.2.1, lv.2.2.1, dv⟩⟩
  | succ m ih =>
    intro y u v q n C R hk hu hv hy hy2 lv rs dv h19
    obtain ⟨u, rfl⟩ : ∃ k', u = k' + 1 := ⟨u - 1, by omega⟩
    obtain ⟨v, rfl⟩ : ∃ k', v = k' + 1 := ⟨v - 1, by omega⟩
    have hL := lv.1.1
    have hq := lv.2.2.2.1
    rw [fX8_readFrom_h36, fX11_valley_h35]; unfold fX8_readFrom_s36 fX11_valley_s35
    rw [if_neg (show ¬ (900 : Int32) ≤ nI y from nI_ge (b := 900) (by omega) (by omega))]
    by_cases k0 : gI C 6 5 1 = 0
    · have t0 : gI R 11 11 140 = 0 := by
        rcases t_cases lv with ⟨a, b⟩ | ⟨a, b⟩ | ⟨g, a, b, -⟩ | ⟨g, a, b, -⟩ | ⟨g, c, c0, a, b, -⟩
        · exact b
        · rw [k0] at a; exact absurd a (by decide)
        · rw [k0] at a; exact absurd a (by decide)
        · rw [k0] at a; exact absurd a (by decide)
        · rw [k0] at a; have := (nI_eq (a := 0) (b := c) (by omega) (by omega)).mp a; omega
      have go : fX6_goesOn 1 C = 0 := by unfold fX6_goesOn; rw [if_pos lv.2.1, if_pos k0]
      rw [go, if_pos rfl, if_pos t0]
      exact ⟨nI y, C, R, rfl, Fr_id, Fr_id, fun _ _ => rfl, Or.inl ⟨n, rfl, h19, lv.2.1, lv.2.2.1, dv⟩⟩
    · have t0 : ¬ gI R 11 11 140 = 0 := by
        rcases t_cases lv with ⟨a, b⟩ | ⟨a, b⟩ | ⟨g, a, b, -⟩ | ⟨g, a, b, -⟩ | ⟨g, c, c0, a, b, -⟩
        · exact absurd a k0
        · rw [b]; decide
        · rw [b]; decide
        · rw [b]; decide
        · rw [b]; decide
      have go : fX6_goesOn 1 C = 1 := by unfold fX6_goesOn; rw [if_pos lv.2.1, if_neg k0]
      rw [go, if_neg i10, if_neg t0]
      have fin : ∀ (A B : St), FA A B → VlO A B (fX8_readFrom_h36 72 1 u (nI y + 1) A) (some (-1 - gI B 11 16 140, B)) := fun A B fa => by
        obtain ⟨u, rfl⟩ : ∃ k', u = k' + 1 := ⟨u - 1, by omega⟩
        rw [fX8_readFrom_h36]; unfold fX8_readFrom_s36
        rw [goF fa.1, if_pos rfl, ite_self]
        exact ⟨_, A, B, rfl, Fr_id, Fr_id, fun _ _ => rfl, Or.inr ⟨rfl, fa⟩⟩
      obtain ⟨C1, R1, f1, f2, f3, h1⟩ := r_line lv rs dv
      rcases h1 with ⟨q1, n1, e1, e2, e3, e4, lv1, dv1⟩ | ⟨e1, e2, fa⟩
      · rw [e1, ob_some, e2, ob_some]
        unfold fX11_valley_s46
        rw [if_neg i10]
        rcases t_sign (x := 59) (by omega) lv1 with ⟨C2, R2, q2, k59, s1, s2, s3, s4, s5, s6, lv2⟩ | ⟨C2, R2, s1, s2, s3, s4, fa⟩
        · rw [show fX6_takeSign 1 59 C1 = some C2 from s1, ob_some, show fX11_sign 140 59 R1 = _ from s2, ob_some]
          unfold fX11_valley_s55 fX11_valley_s75
          have hq1 : q < q1 := by
            rcases e4 with h | h | h
            · rw [k59] at h; exact absurd h (by decide)
            · rw [k59] at h; exact absurd h (by decide)
            · exact h
          have h19' : gI R2 11 19 140 = nI y := (s4.i (by unfold XG; omega)).trans ((f2.i (by unfold XN XG; omega)).trans h19)
          rw [if_neg i10, h19', nI_1]
          have f19 : Fr (fun k a => a = 140 ∧ k = 19) R2 (sI R2 11 19 140 (nI (y + 1))) := Fr_sI Fr_id ⟨rfl, rfl⟩
          have lv3 : LV C2 (sI R2 11 19 140 (nI (y + 1))) L M q2 := LV_fr lv2 (Fr_id (X := fun _ _ => False)) f19 (fun k a q => q.elim) (fun k a q => by omega)
          have dv2 : DV C2 R2 n1 := DV_fr dv1 s3 s4 (fun k a q => by unfold XF at q; unfold XB; omega) (fun k a q => by unfold XG at q; omega)
          have dv3 : DV C2 (sI R2 11 19 140 (nI (y + 1))) n1 := DV_fr dv2 (Fr_id (X := fun _ _ => False)) f19 (fun k a q => q.elim) (fun k a q => by omega)
          have fR : Fr XO R (sI R2 11 19 140 (nI (y + 1))) := Fr_tr (xn_o f2) (Fr_tr (xn_o (xg_n s4)) (Fr_mo f19 (fun k a q => Or.inr q)))
          have nk : ¬ gI C 6 5 1 = 3 := fun z => by
            obtain ⟨R9, e9⟩ := l3 lv z
            rw [e2] at e9; injection e9 with e9; injection e9 with e9; exact i10 e9
          have hqm : L + 2 ≤ q + (m + 1) := by
            rcases hk with h | ⟨h, -⟩ | h
            · exact absurd h k0
            · exact absurd h nk
            · exact h
          have hyq : 2 * y + 1 ≤ q := by
            rcases hy2 with h | h | h
            · exact absurd h k0
            · exact absurd h nk
            · exact h
          refine VlO_tr (Fr_tr f1 (xf_v s3)) fR (KN_tr f3 (KN_tr (xg_k s4) (KN_fr f19 (fun k => by omega)))) (ih (y + 1) u v q2 n1 C2 (sI R2 11 19 140 (nI (y + 1))) ?_ (by omega) (by omega) ?_ ?_ lv3 (RS_fr fR (by unfold XO XN XG; omega) rs) dv3 gI_s)
          · exact Or.inr (Or.inr (by omega))
          · omega
          · exact s6.imp_right (Or.imp_right (fun _ => by omega))
        · rw [show fX6_takeSign 1 59 C1 = some C2 from s1, ob_some, show fX11_sign 140 59 R1 = _ from s2, ob_some]
          unfold fX11_valley_s55
          rw [if_pos rfl]
          exact VlO_tr (Fr_tr f1 (xf_v s3)) (xn_o (Fr_tr f2 (xg_n s4))) (KN_tr f3 (xg_k s4)) (fin C2 R2 fa)
      · rw [e1, ob_some, e2, ob_some, t_signF fa.1, ob_some]
        unfold fX11_valley_s46
        rw [if_pos rfl]
        exact VlO_tr f1 (xn_o f2) f3 (fin C1 R1 fa)
