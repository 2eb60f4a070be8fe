-- draws: drawn, odds
def drX (x : Int32) : Int32 := x * 1103515245 + 12345
def drN (x : Int32) (m : Nat) : Nat := x.toBitVec.toNat / 256 % m
theorem dr_eq (x : Int32) {m : Nat} (h0 : 0 < m) (h : m < 2 ^ 31) : (x.toUInt32 >>> ((8 : Int32).toUInt32 &&& Int32.toUInt32 31)).toInt32 - (x.toUInt32 >>> ((8 : Int32).toUInt32 &&& Int32.toUInt32 31)).toInt32 / nI m * nI m = nI (drN x m) := by
  have e := pk_ushr x 8 8 (by decide)
  have hl : x.toBitVec.toNat < 2 ^ 32 := x.toBitVec.isLt
  rw [← nI_tN (x.toUInt32 >>> ((8 : Int32).toUInt32 &&& Int32.toUInt32 31)).toInt32, e, pk_rem (by omega) h0 h]
  rfl
/-- the two numbers of a draw, by name alone -/
def HX (Xf : Int32 → Int32) (Nf : Int32 → Nat → Nat) : Prop := (∀ x : Int32, x * 1103515245 + 12345 = Xf x) ∧ (∀ (x : Int32) (m : Nat), 0 < m → m < 2 ^ 31 → (x.toUInt32 >>> ((8 : Int32).toUInt32 &&& Int32.toUInt32 31)).toInt32 - (x.toUInt32 >>> ((8 : Int32).toUInt32 &&& Int32.toUInt32 31)).toInt32 / nI m * nI m = nI (Nf x m)) ∧ ∀ x m, 0 < m → Nf x m < m
theorem hx_ex : ∃ Xf Nf, HX Xf Nf := ⟨drX, drN, fun _ => rfl, fun x m h0 h => dr_eq x h0 h, fun x m h => Nat.mod_lt _ h⟩
def drP (Xf : Int32 → Int32) (Nf : Int32 → Nat → Nat) (x : Int32) (p : Nat) (D : DS) : Int32 × DS := if Nf (Xf x) 12 = 0 then (Xf x, if isH D p = true then D else holdF p D) else if Nf (Xf x) 12 = 1 then (Xf (Xf x), if D.1 (2 + p) + (Nf (Xf (Xf x)) 9 + 1) ≤ 9999 then skipF p (Nf (Xf (Xf x)) 9 + 1) D else D) else (Xf x, D)
def drA (Xf : Int32 → Int32) (Nf : Int32 → Nat → Nat) (x : Int32) (D : DS) : Nat → Int32 × DS
  | 0 => (x, D)
  | p + 1 => drP Xf Nf (drA Xf Nf x D p).1 p (drA Xf Nf x D p).2
theorem drP_W {Xf : Int32 → Int32} {Nf : Int32 → Nat → Nat} {n0 p : Nat} {x : Int32} {D : DS} (hn : n0 ≤ 5) (hp : p < n0) (w : DW n0 D) : DW n0 (drP Xf Nf x p D).2 ∧ (drP Xf Nf x p D).2.1 0 = D.1 0 := by
  unfold drP
  split
  · show DW n0 (if isH D p = true then D else holdF p D) ∧ (if isH D p = true then D else holdF p D).1 0 = D.1 0
    split
    · exact ⟨w, rfl⟩
    · exact ⟨hold_W hn hp w, hold_0⟩
  · split
    · show DW n0 (if D.1 (2 + p) + (Nf (Xf (Xf x)) 9 + 1) ≤ 9999 then skipF p (Nf (Xf (Xf x)) 9 + 1) D else D) ∧ (if D.1 (2 + p) + (Nf (Xf (Xf x)) 9 + 1) ≤ 9999 then skipF p (Nf (Xf (Xf x)) 9 + 1) D else D).1 0 = D.1 0
      split
      · rename_i q; exact ⟨skip_W w q, skip_0⟩
      · exact ⟨w, rfl⟩
    · exact ⟨w, rfl⟩
theorem drA_W {Xf : Int32 → Int32} {Nf : Int32 → Nat → Nat} {n0 : Nat} {x : Int32} {D : DS} (hn : n0 ≤ 5) (w : DW n0 D) : ∀ i, i ≤ n0 → DW n0 (drA Xf Nf x D i).2 ∧ (drA Xf Nf x D i).2.1 0 = D.1 0 := by
  intro i
  induction i with
  | zero => intro _; exact ⟨w, rfl⟩
  | succ i ih =>
    intro hi
    obtain ⟨h1, h2⟩ := ih (by omega)
    obtain ⟨h3, h4⟩ := drP_W (Xf := Xf) (Nf := Nf) (x := (drA Xf Nf x D i).1) hn (show i < n0 by omega) h1
    exact ⟨h3, h4.trans h2⟩
/-- a DAY by draws -/
def drD (Xf : Int32 → Int32) (Nf : Int32 → Nat → Nat) (n0 : Nat) (x : Int32) (D : DS) : Int32 × DS := ((drA Xf Nf x D n0).1, passF 1 (drA Xf Nf x D n0).2)
theorem drD_W {Xf : Int32 → Int32} {Nf : Int32 → Nat → Nat} {n0 : Nat} {x : Int32} {D : DS} (hn : n0 ≤ 5) (w : DW n0 D) (h : D.1 0 < 10000) : DW n0 (drD Xf Nf n0 x D).2 ∧ (drD Xf Nf n0 x D).2.1 0 = D.1 0 + 1 := by
  obtain ⟨h1, h2⟩ := drA_W (Xf := Xf) (Nf := Nf) (x := x) hn w n0 (Nat.le_refl _)
  refine ⟨pass_W hn h1 (by omega) (by rw [h2]; omega), ?_⟩
  show (drA Xf Nf x D n0).2.1 0 + 1 = _
  rw [h2]
theorem l_drawC {Xf : Int32 → Int32} {Nf : Int32 → Nat → Nat} (hX : HX Xf Nf) {S : St} {d n0 : Nat} {x x1 : Int32} {D : DS} (hn : n0 ≤ 5) (hw : DW n0 D) (hd : D.1 0 < 10000) : ∀ (m i u : Nat) (T : St), i + m = n0 → m < u → Fr (XD d) S T → DC T d n0 (drA Xf Nf x D i).2 → ∃ U, fX2_drawDay_h4 d x1 u (drA Xf Nf x D i).1 (nI i) T = some ((drD Xf Nf n0 x D).1, U) ∧ Fr (XD d) S U ∧ DC U d n0 (drD Xf Nf n0 x D).2 := by
  intro m
  induction m with
  | zero =>
    intro i u T hi hu fr h
    obtain ⟨u, rfl⟩ : ∃ k', u = k' + 1 := ⟨u - 1, by omega⟩
    rw [show i = n0 by omega] at h ⊢
    obtain ⟨w1, w2⟩ := drA_W (Xf := Xf) (Nf := Nf) (x := x) hn hw n0 (Nat.le_refl _)
    rw [fX2_drawDay_h4]; unfold fX2_drawDay_s4 fX2_drawDay_s85
    rw [h.2.2.1, if_pos (nI_le (Nat.le_refl _) (by omega))]
    rcases c_pass (N := 1) h hn w1 (by omega) (by omega) with ⟨c1, -⟩ | ⟨c1, g, U, g0, g1, g2, c2, c3, c4⟩
    · rw [w2] at c1; omega
    · have : g = 1 := by omega
      subst this
      have c2' : fX2_passDays d 1 T = some (nI 1, U) := c2
      rw [c2', ob_some]
      exact ⟨U, rfl, Fr_tr fr c3, c4⟩
  | succ m ih =>
    intro i u T hi hu fr h
    obtain ⟨u, rfl⟩ : ∃ k', u = k' + 1 := ⟨u - 1, by omega⟩
    obtain ⟨w1, w2⟩ := drA_W (Xf := Xf) (Nf := Nf) (x := x) hn hw i (by omega)
    have e1 : drA Xf Nf x D (i + 1) = drP Xf Nf (drA Xf Nf x D i).1 i (drA Xf Nf x D i).2 := rfl
    have ih' := ih (i + 1) u
    rw [e1] at ih'
    generalize (drA Xf Nf x D i).1 = y at *
    generalize (drA Xf Nf x D i).2 = E at *
    rw [fX2_drawDay_h4]; unfold fX2_drawDay_s4 fX2_drawDay_s21 fX2_drawDay_s30 fX2_drawDay_s40 fX2_drawDay_s59 fX2_drawDay_s73 fX2_drawDay_s74
    rw [h.2.2.1, if_neg (nI_ge (by omega) (by omega)), show (12 : Int32) = nI 12 from rfl, show (9 : Int32) = nI 9 from rfl]
    repeat rw [hX.1]
    rw [hX.2.1 _ 12 (by omega) (by omega), hX.2.1 _ 9 (by omega) (by omega), nI_1, nI_1]
    have hl12 : Nf (Xf y) 12 < 12 := hX.2.2 _ _ (by omega)
    have hl9 : Nf (Xf (Xf y)) 9 < 9 := hX.2.2 _ _ (by omega)
    show ∃ U, (if nI (Nf (Xf y) 12) = 0 then _ else if nI (Nf (Xf y) 12) = 1 then (fX2_skipDays d (nI i) (nI (Nf (Xf (Xf y)) 9 + 1)) T).bind _ else _) = _ ∧ _
    unfold drP at ih'
    by_cases q : Nf (Xf y) 12 = 0
    · rw [if_pos q] at ih'
      rw [q, if_pos nI_0]
      rcases c_hold h hn (show i < n0 by omega) w1.2.1 with ⟨c1, c2⟩ | ⟨c1, V, c2, c3, c4⟩
      · rw [c2, ob_some]
        exact ih' T (by omega) (by omega) fr (by rw [if_pos c1]; exact h)
      · rw [c2, ob_some]
        exact ih' V (by omega) (by omega) (Fr_tr fr c3) (by rw [c1, if_neg (by decide)]; exact c4)
    · rw [if_neg q] at ih'
      rw [if_neg (nI_z (by omega) (by omega))]
      by_cases q2 : Nf (Xf y) 12 = 1
      · rw [if_pos q2] at ih'
        rw [q2, if_pos (show nI 1 = 1 from rfl)]
        rcases c_skip (k := Nf (Xf (Xf y)) 9 + 1) h hn (show i < n0 by omega) w1 (by omega) with ⟨c1, c2⟩ | ⟨c1, V, c2, c3, c4⟩
        · rw [c2, ob_some]
          exact ih' T (by omega) (by omega) fr (by rw [if_neg (by omega)]; exact h)
        · rw [c2, ob_some]
          exact ih' V (by omega) (by omega) (Fr_tr fr c3) (by rw [if_pos c1]; exact c4)
      · rw [if_neg q2] at ih'
        rw [if_neg (show ¬ nI (Nf (Xf y) 12) = 1 from fun e => q2 ((nI_eq (b := 1) (by omega) (by omega)).mp e))]
        exact ih' T (by omega) (by omega) fr h
theorem c_drawDay {Xf : Int32 → Int32} {Nf : Int32 → Nat → Nat} (hX : HX Xf Nf) {S : St} {d n0 : Nat} {x : Int32} {D : DS} (hn : n0 ≤ 5) (hw : DW n0 D) (hd : D.1 0 < 10000) (h : DC S d n0 D) : ∃ U, fX2_drawDay d x S = some ((drD Xf Nf n0 x D).1, U) ∧ Fr (XD d) S U ∧ DC U d n0 (drD Xf Nf n0 x D).2 := l_drawC hX hn hw hd n0 0 NN S (by omega) (by unfold NN; omega) Fr_id h
theorem m_draw {Xf : Int32 → Int32} {Nf : Int32 → Nat → Nat} (hX : HX Xf Nf) {S : St} {m : Nat} (h0 : 0 < m) (h : m < 2 ^ 31) : fX11_draw 140 (nI m) S = some (nI (Nf (Xf (gI S 11 32 140)) m), sI S 11 32 140 (Xf (gI S 11 32 140))) := by
  unfold fX11_draw fX11_draw_s16
  rw [igz h0 h, gI_s, hX.1, hX.2.1 _ _ h0 h]
theorem DM_seed {S : St} {n0 : Nat} {D : DS} {v : Int32} (h : DM S n0 D) : DM (sI S 11 32 140 v) n0 D := h
theorem m_drawP {Xf : Int32 → Int32} {Nf : Int32 → Nat → Nat} (hX : HX Xf Nf) {S : St} {n0 p : Nat} {D : DS} (hn : n0 ≤ 5) (hp : p < n0) (hw : DW n0 D) (h : DM S n0 D) : ∃ T, fX11_drawParish 140 (nI p) S = some T ∧ FR S T ∧ DM T n0 (drP Xf Nf (gI S 11 32 140) p D).2 ∧ gI T 11 32 140 = (drP Xf Nf (gI S 11 32 140) p D).1 := by
  generalize hx : gI S 11 32 140 = x
  have hl12 : Nf (Xf x) 12 < 12 := hX.2.2 _ _ (by omega)
  have hl9 : Nf (Xf (Xf x)) 9 < 9 := hX.2.2 _ _ (by omega)
  have e12 : fX11_draw 140 12 S = _ := m_draw hX (S := S) (m := 12) (by omega) (by omega)
  rw [hx] at e12
  have e9 : fX11_draw 140 9 (sI S 11 32 140 (Xf x)) = _ := m_draw hX (S := sI S 11 32 140 (Xf x)) (m := 9) (by omega) (by omega)
  rw [gI_s] at e9
  have hM : DM (sI S 11 32 140 (Xf x)) n0 D := h
  have hM2 : DM (sI (sI S 11 32 140 (Xf x)) 11 32 140 (Xf (Xf x))) n0 D := h
  unfold fX11_drawParish fX11_drawParish_s6 fX11_drawParish_s24 fX11_drawParish_s36 fX11_whyHold drP
  rw [e12, ob_some]
  show ∃ T, (if nI (Nf (Xf x) 12) = 0 then _ else _) = _ ∧ _
  by_cases q : Nf (Xf x) 12 = 0
  · rw [if_pos q, q, if_pos nI_0]
    show ∃ T, (((fX11_isHeld 140 (nI p) (sI S 11 32 140 (Xf x))).bind _).bind _) = _ ∧ _
    rw [m_isH hM, ob_some, if01]
    by_cases r : isH D p = true
    · rw [if_pos r, ob_some, if_neg i10, if_neg (show ¬ nI 0 = 1 by decide)]
      exact ⟨_, rfl, FR_seed FR_id, by rw [if_pos r]; exact hM, gI_s⟩
    · rw [if_neg r, ob_some, if_pos rfl]
      obtain ⟨V, v1, v2, v3⟩ := m_holds hM hn hp hw.2.1
      show ∃ T, ((fX11_holds 140 (nI p) (sI S 11 32 140 (Xf x))).bind _) = _ ∧ _
      rw [v1, ob_some, if_neg (show ¬ nI 0 = 1 by decide)]
      refine ⟨V, rfl, FR_tr (FR_seed FR_id) v2, by rw [if_neg r]; exact v3, ?_⟩
      obtain ⟨W, w1, w2⟩ : ∃ W : St, fX11_holds 140 (nI p) (sI S 11 32 140 (Xf x)) = some W ∧ gI W 11 32 140 = Xf x := by
        unfold fX11_holds fX11_holds_s13
        rw [show (59 : Int32) + nI p = nI (59 + p) from nI_add 59 p, igd (by omega) (by decide), igd (by omega) (by decide)]
        exact ⟨_, rfl, gI_s (S := S) (c := 11) (k := 32) (a := 140) (v := Xf x)⟩
      rw [v1] at w1; cases w1; exact w2
  · rw [if_neg q, if_neg (nI_z (by omega) (by omega))]
    by_cases q2 : Nf (Xf x) 12 = 1
    · rw [if_pos q2, q2, if_pos (show nI 1 = 1 from rfl)]
      show ∃ T, ((fX11_draw 140 9 (sI S 11 32 140 (Xf x))).bind _) = _ ∧ _
      rw [e9, ob_some]
      show ∃ T, ((fX11_whySkip 140 (nI p) (nI (Nf (Xf (Xf x)) 9) + 1) (sI (sI S 11 32 140 (Xf x)) 11 32 140 (Xf (Xf x)))).bind _) = _ ∧ _
      rw [nI_1, m_why hM2 hn hp hw (by omega), ob_some]
      by_cases r : D.1 (2 + p) + (Nf (Xf (Xf x)) 9 + 1) ≤ 9999
      · rw [if_pos r, if_pos rfl]
        obtain ⟨V, v1, v2, v3⟩ := m_skips (k := Nf (Xf (Xf x)) 9 + 1) hM2 hn hp
        show ∃ T, ((fX11_skips 140 (nI p) (nI (Nf (Xf (Xf x)) 9 + 1)) (sI (sI S 11 32 140 (Xf x)) 11 32 140 (Xf (Xf x)))).bind _) = _ ∧ _
        rw [v1, ob_some]
        refine ⟨V, rfl, FR_tr (FR_seed (FR_seed FR_id)) v2, by rw [if_pos r]; exact v3, ?_⟩
        obtain ⟨W, w1, w2⟩ : ∃ W : St, fX11_skips 140 (nI p) (nI (Nf (Xf (Xf x)) 9 + 1)) (sI (sI S 11 32 140 (Xf x)) 11 32 140 (Xf (Xf x))) = some W ∧ gI W 11 32 140 = Xf (Xf x) := by
          unfold fX11_skips fX11_skips_s13
          rw [show (54 : Int32) + nI p = nI (54 + p) from nI_add 54 p, igd (by omega) (by decide), igd (by omega) (by decide), show (64 : Int32) + nI p = nI (64 + p) from nI_add 64 p, igd (by omega) (by decide), igd (by omega) (by decide)]
          exact ⟨_, rfl, gI_s (S := sI S 11 32 140 (Xf x)) (c := 11) (k := 32) (a := 140) (v := Xf (Xf x))⟩
        rw [v1] at w1; cases w1; exact w2
      · rw [if_neg r, if_neg i10]
        exact ⟨_, rfl, FR_seed (FR_seed FR_id), by rw [if_neg r]; exact hM2, gI_s⟩
    · rw [if_neg q2, if_neg (show ¬ nI (Nf (Xf x) 12) = 1 from fun e => q2 ((nI_eq (b := 1) (by omega) (by omega)).mp e))]
      exact ⟨_, rfl, FR_seed FR_id, hM, gI_s⟩
theorem day_seed {S U : St} (h : fX11_day 140 S = some U) : gI U 11 32 140 = gI S 11 32 140 := by
  have gen : ∀ (k : Nat) (y : Int32) (T : St), fX11_day_h2 140 k y T = some U → gI U 11 32 140 = gI T 11 32 140 := by
    intro k
    induction k with
    | zero => intro y T e; cases e
    | succ k ih =>
      intro y T e
      rw [fX11_day_h2] at e; unfold fX11_day_s2 fX11_day_s47 fX11_day_s33 at e
      by_cases q : gA T 29 (140 + 2) 0 ≤ y
      · rw [if_pos q] at e; cases e; rfl
      · rw [if_neg q] at e
        obtain ⟨r, r1, r2⟩ := obind e
        by_cases z : r = 0
        · rw [if_pos z] at r2
          obtain ⟨-, r3⟩ := oguard r2
          obtain ⟨-, r4⟩ := oguard r3
          have e5 := ih _ _ r4
          exact e5
        · rw [if_neg z] at r2; exact ih _ _ r2
  exact gen NN 0 S h
theorem l_drawR {Xf : Int32 → Int32} {Nf : Int32 → Nat → Nat} (hX : HX Xf Nf) {S : St} {n0 : Nat} {x : Int32} {D : DS} (hn : n0 ≤ 5) (hw : DW n0 D) : ∀ (m i u : Nat) (T : St), i + m = n0 → m < u → FR S T → DM T n0 (drA Xf Nf x D i).2 → gI T 11 32 140 = (drA Xf Nf x D i).1 → ∃ U, fX11_drawDay_h2 140 u (nI i) T = some U ∧ FR S U ∧ DM U n0 (drD Xf Nf n0 x D).2 ∧ gI U 11 32 140 = (drD Xf Nf n0 x D).1 := by
  intro m
  induction m with
  | zero =>
    intro i u T hi hu fr h hs
    obtain ⟨u, rfl⟩ : ∃ k', u = k' + 1 := ⟨u - 1, by omega⟩
    rw [show i = n0 by omega] at h hs ⊢
    obtain ⟨U, u1, u2, u3⟩ := m_day h hn
    rw [fX11_drawDay_h2]; unfold fX11_drawDay_s2
    rw [show gA T 29 (140 + 2) 0 = nI n0 from h.1, if_pos (nI_le (Nat.le_refl _) (by omega)), u1, ob_some]
    exact ⟨U, rfl, FR_tr fr u2, u3, (day_seed u1).trans hs⟩
  | succ m ih =>
    intro i u T hi hu fr h hs
    obtain ⟨u, rfl⟩ : ∃ k', u = k' + 1 := ⟨u - 1, by omega⟩
    obtain ⟨w1, w2⟩ := drA_W (Xf := Xf) (Nf := Nf) (x := x) hn hw i (by omega)
    obtain ⟨V, v1, v2, v3, v4⟩ := m_drawP hX (p := i) hn (by omega) w1 h
    rw [hs] at v3 v4
    rw [fX11_drawDay_h2]; unfold fX11_drawDay_s2
    rw [show gA T 29 (140 + 2) 0 = nI n0 from h.1, if_neg (nI_ge (by omega) (by omega)), v1, ob_some, nI_1]
    exact ih (i + 1) u V (by omega) (by omega) (FR_tr fr v2) v3 v4
theorem m_drawDay {Xf : Int32 → Int32} {Nf : Int32 → Nat → Nat} (hX : HX Xf Nf) {S : St} {n0 : Nat} {D : DS} (hn : n0 ≤ 5) (hw : DW n0 D) (h : DM S n0 D) : ∃ U, fX11_drawDay 140 S = some U ∧ FR S U ∧ DM U n0 (drD Xf Nf n0 (gI S 11 32 140) D).2 ∧ gI U 11 32 140 = (drD Xf Nf n0 (gI S 11 32 140) D).1 := l_drawR hX hn hw n0 0 NN S (by omega) (by unfold NN; omega) FR_id h rfl
/-- days by draws, one behind the other -/
def drI (Xf : Int32 → Int32) (Nf : Int32 → Nat → Nat) (n0 : Nat) (x : Int32) (D : DS) : Nat → Int32 × DS
  | 0 => (x, D)
  | k + 1 => drD Xf Nf n0 (drI Xf Nf n0 x D k).1 (drI Xf Nf n0 x D k).2
theorem drI_W {Xf : Int32 → Int32} {Nf : Int32 → Nat → Nat} {n0 : Nat} {x : Int32} {D : DS} (hn : n0 ≤ 5) (hw : DW n0 D) : ∀ k, D.1 0 + k ≤ 10000 → DW n0 (drI Xf Nf n0 x D k).2 ∧ (drI Xf Nf n0 x D k).2.1 0 = D.1 0 + k := by
  intro k
  induction k with
  | zero => intro _; exact ⟨hw, rfl⟩
  | succ k ih =>
    intro hk
    obtain ⟨h1, h2⟩ := ih (by omega)
    obtain ⟨h3, h4⟩ := drD_W (Xf := Xf) (Nf := Nf) (x := (drI Xf Nf n0 x D k).1) hn h1 (by omega)
    exact ⟨h3, by rw [show (drI Xf Nf n0 x D (k + 1)).2.1 0 = (drD Xf Nf n0 (drI Xf Nf n0 x D k).1 (drI Xf Nf n0 x D k).2).2.1 0 from rfl, h4, h2]; omega⟩
theorem l_drawnC {Xf : Int32 → Int32} {Nf : Int32 → Nat → Nat} (hX : HX Xf Nf) {S : St} {n0 N g : Nat} {x x2 : Int32} {D : DS} (hn : n0 ≤ 5) (hw : DW n0 D) (hN : N ≤ 99) (hg : g = if 10000 - D.1 0 ≤ N then 10000 - D.1 0 else N) : ∀ (m i u : Nat) (T : St), i + m = g → m < u → Fr (XD 18) S T → DC T 18 n0 (drI Xf Nf n0 x D i).2 → ∃ U, fX10_drawn_h32 0 (nI N) x2 u (nI i) (drI Xf Nf n0 x D i).1 T = fX10_drawn_s73 0 (nI N) x2 (nI g) U ∧ Fr (XD 18) S U ∧ DC U 18 n0 (drI Xf Nf n0 x D g).2 := by
  have hb0 := hw.1
  have hgN : g ≤ N ∧ D.1 0 + g ≤ 10000 := by split at hg <;> omega
  intro m
  induction m with
  | zero =>
    intro i u T hi hu fr h
    obtain ⟨u, rfl⟩ : ∃ k', u = k' + 1 := ⟨u - 1, by omega⟩
    rw [show i = g by omega] at h ⊢
    obtain ⟨w1, w2⟩ := drI_W (Xf := Xf) (Nf := Nf) (x := x) hn hw g (by omega)
    rw [fX10_drawn_h32]; unfold fX10_drawn_s32
    rw [show gI T 2 0 (0 + 3 + 15) = nI ((drI Xf Nf n0 x D g).2.1 0) from h.1, w2]
    refine ⟨T, ?_, fr, h⟩
    by_cases r : N ≤ g
    · rw [if_pos (nI_le r (by omega))]
    · rw [if_neg (nI_ge (by omega) (by omega)), if_pos (show (10000 : Int32) ≤ nI _ from nI_le (a := 10000) (by split at hg <;> omega) (by omega))]
  | succ m ih =>
    intro i u T hi hu fr h
    obtain ⟨u, rfl⟩ : ∃ k', u = k' + 1 := ⟨u - 1, by omega⟩
    obtain ⟨w1, w2⟩ := drI_W (Xf := Xf) (Nf := Nf) (x := x) hn hw i (by omega)
    obtain ⟨U, u1, u2, u3⟩ := c_drawDay hX (x := (drI Xf Nf n0 x D i).1) hn w1 (by omega) h
    rw [fX10_drawn_h32]; unfold fX10_drawn_s32 fX10_drawn_s65
    rw [show gI T 2 0 (0 + 3 + 15) = nI ((drI Xf Nf n0 x D i).2.1 0) from h.1, w2, if_neg (nI_ge (by omega) (by omega)), if_neg (show ¬ (10000 : Int32) ≤ nI _ from nI_ge (b := 10000) (by omega) (by omega)), show (0 : Nat) + 3 + 15 = 18 from rfl, u1, ob_some, nI_1]
    exact ih (i + 1) u U (by omega) (by omega) (Fr_tr fr u2) u3
theorem l_drawnR {Xf : Int32 → Int32} {Nf : Int32 → Nat → Nat} (hX : HX Xf Nf) {S : St} {n0 N g : Nat} {x x2 : Int32} {D : DS} (hn : n0 ≤ 5) (hw : DW n0 D) (hN : N ≤ 99) (hg : g = if 10000 - D.1 0 ≤ N then 10000 - D.1 0 else N) : ∀ (m i u : Nat) (T : St), i + m = g → m < u → FR S T → DM T n0 (drI Xf Nf n0 x D i).2 → gI T 11 32 140 = (drI Xf Nf n0 x D i).1 → ∃ U, fX11_drawn_h43 140 (nI N) x2 u (nI i) T = some (nI g, U) ∧ FR S U ∧ DM U n0 (drI Xf Nf n0 x D g).2 := by
  have hb0 := hw.1
  have hgN : g ≤ N ∧ D.1 0 + g ≤ 10000 := by split at hg <;> omega
  intro m
  induction m with
  | zero =>
    intro i u T hi hu fr h hs
    obtain ⟨u, rfl⟩ : ∃ k', u = k' + 1 := ⟨u - 1, by omega⟩
    rw [show i = g by omega] at h ⊢
    obtain ⟨w1, w2⟩ := drI_W (Xf := Xf) (Nf := Nf) (x := x) hn hw g (by omega)
    rw [fX11_drawn_h43]; unfold fX11_drawn_s43
    rw [show gA T 29 (140 + 2) 52 = nI ((drI Xf Nf n0 x D g).2.1 0) from h.2.1, w2]
    refine ⟨T, ?_, fr, h⟩
    by_cases r : N ≤ g
    · rw [if_pos (nI_le r (by omega))]
    · rw [if_neg (nI_ge (by omega) (by omega)), if_pos (show (10000 : Int32) ≤ nI _ from nI_le (a := 10000) (by split at hg <;> omega) (by omega))]
  | succ m ih =>
    intro i u T hi hu fr h hs
    obtain ⟨u, rfl⟩ : ∃ k', u = k' + 1 := ⟨u - 1, by omega⟩
    obtain ⟨w1, w2⟩ := drI_W (Xf := Xf) (Nf := Nf) (x := x) hn hw i (by omega)
    obtain ⟨U, u1, u2, u3, u4⟩ := m_drawDay hX hn w1 h
    rw [hs] at u3 u4
    rw [fX11_drawn_h43]; unfold fX11_drawn_s43
    rw [show gA T 29 (140 + 2) 52 = nI ((drI Xf Nf n0 x D i).2.1 0) from h.2.1, w2, if_neg (nI_ge (by omega) (by omega)), if_neg (show ¬ (10000 : Int32) ≤ nI _ from nI_ge (b := 10000) (by omega) (by omega)), u1, ob_some, nI_1]
    exact ih (i + 1) u U (by omega) (by omega) (FR_tr fr u2) u3 u4
theorem p_drawn : pr_drawn Inv := by
  obtain ⟨Xf, Nf, hX⟩ := hx_ex
  intro S g x1 x2
  obtain ⟨n, w, u, r⟩ := id g
  have hn := w.wf.1.1
  have hb0 := (ds_W w).1
  unfold fX10_drawn
  by_cases a1 : x1 < 1
  · refine ⟨-1, S, sI S 11 0 140 0, if_pos a1, ?_, Inv_th g⟩
    unfold fX11_drawn fX11_drawn_s5
    rw [isIn_no (Or.inl a1), if_pos rfl]
  by_cases a2 : x1 ≤ 99
  · obtain ⟨N, hN, rfl⟩ := nI_of2 (x := x1) (M := 99) (n := 99) (by decide) (fun q => a1 (Int32.lt_trans q (by decide))) a2
    have hN1 : 0 < N := by
      rcases Nat.eq_zero_or_pos N with q | q
      · exact absurd (show nI N < 1 by rw [q]; decide) a1
      · exact q
    obtain ⟨T1, t1, t2, t3, t4⟩ := before_ok w
    rw [if_neg a1, if_pos a2, show (0 : Nat) + 97 = 97 from rfl, show (0 : Nat) + 3 + 15 = 18 from rfl, t1, ob_some]
    generalize hg : (if 10000 - (dsOf S n).1 0 ≤ N then 10000 - (dsOf S n).1 0 else N) = gg
    have hgN : gg ≤ N ∧ (dsOf S n).1 0 + gg ≤ 10000 := by split at hg <;> omega
    obtain ⟨T2, c1, c2, c3⟩ := l_drawnC hX (S := T1) (x := x2) (x2 := x2) hn (ds_W w) hN hg.symm gg 0 NN T1 (by omega) (by unfold NN; omega) Fr_id t4
    have c1' : fX10_drawn_h32 0 (nI N) x2 NN 0 x2 T1 = _ := c1
    obtain ⟨w1, w2⟩ := drI_W (Xf := Xf) (Nf := Nf) (x := x2) hn (ds_W w) gg (by omega)
    rw [c1']
    unfold fX10_drawn_s73
    rcases Nat.eq_zero_or_pos gg with z | z
    · subst z
      have hT2 : Fr (fun _ a => (18 ≤ a ∧ a ≤ 21) ∨ (97 ≤ a ∧ a ≤ 100)) S T2 := Fr_tr (Fr_mo t2 (fun k a q => by unfold XD at q; omega)) (Fr_mo c2 (fun k a q => by unfold XD at q; omega))
      have d0 : (dsOf S n).1 0 = 10000 := by split at hg <;> omega
      obtain ⟨K1, hK1⟩ : ∃ k, NN = k + 1 := ⟨999999, rfl⟩
      have eT : T2 = T1 := by
        rw [hK1, fX10_drawn_h32] at c1'; unfold fX10_drawn_s32 fX10_drawn_s73 at c1'
        rw [show gI T1 2 0 (0 + 3 + 15) = nI ((dsOf S n).1 0) from t4.1, d0, if_neg (show ¬ nI N ≤ 0 from nI_nle hN1 (by omega)), if_pos (show (10000 : Int32) ≤ nI 10000 by decide), if_pos (show (0 : Int32) ≤ 0 by decide), if_pos (show nI 0 ≤ 0 by decide)] at c1'
        cases c1'; rfl
      subst eT
      rw [if_pos (show nI 0 ≤ 0 by decide)]
      have hM : DM (sI T2 11 0 140 0) (n 0) (dsOf S n) := DM_fr (Fr_sI (X := fun k a => (97 ≤ a ∧ a ≤ 100) ∨ a = 140) (Fr_mo t2 (fun k a q => by unfold XD at q; omega)) (by omega)) (by omega) (ds_M w)
      refine ⟨0, T2, sI T2 11 0 140 0, rfl, ?_, Inv_97 t2 g⟩
      unfold fX11_drawn fX11_drawn_s5
      rw [isIn_yes a1 (Int32.not_lt.mpr a2), if_neg i10, show gA (sI T2 11 0 140 0) 29 (140 + 2) 52 = 10000 from hM.2.1.trans (congrArg nI d0), if_pos rfl]
    · rw [if_neg (nI_nle z (by omega))]
      obtain ⟨T3, k1, k2, k3, T4, k4, k5, k6⟩ := act_keep w u r (Fr_tr (Fr_mo t2 (fun k a q => by unfold XD at q; omega)) (Fr_mo c2 (fun k a q => by unfold XD at q; omega))) (DC_fr c2 (fun k a a1 a2 => by unfold XD; omega) t3) c3 w1
      obtain ⟨T5, l1, l2, l3⟩ := l_drawnR hX (S := sI T4 11 32 140 x2) (x := x2) (x2 := x2) hn (ds_W w) hN hg.symm gg 0 NN (sI T4 11 32 140 x2) (by omega) (by unfold NN; omega) FR_id k5 gI_s
      rw [k1, ob_some]
      refine ⟨nI gg, T3, T5, rfl, ?_, k6 T5 (FR_tr (FR_seed FR_id) l2) l3⟩
      unfold fX11_drawn fX11_drawn_s5 fX11_drawn_s41
      have d0 : (dsOf S n).1 0 ≠ 10000 := by split at hg <;> omega
      rw [isIn_yes a1 (Int32.not_lt.mpr a2), if_neg i10, show gA (sI T3 11 0 140 0) 29 (140 + 2) 52 = nI ((dsOf S n).1 0) from k3.2.1, if_neg (show ¬ nI ((dsOf S n).1 0) = 10000 from fun e => d0 ((nI_eq (b := 10000) (by omega) (by omega)).mp e)), k4, ob_some]
      exact l1
  · refine ⟨-1, S, sI S 11 0 140 0, (if_neg a1).trans (if_neg a2), ?_, Inv_th g⟩
    unfold fX11_drawn fX11_drawn_s5
    rw [isIn_no (Or.inr (Int32.not_le.mp a2)), if_pos rfl]
