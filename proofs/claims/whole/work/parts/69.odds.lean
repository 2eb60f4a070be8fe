-- odds
def fallD (n : Nat → Nat) (f : Nat) (D : DS) : Bool := decide (dtq n (n (34 + f)) (D.1 (2 + n (34 + f))) = 32 * n (40 + f) + n (46 + f))
theorem c_fallsBy {S T : St} {n : Nat → Nat} {f : Nat} {D : DS} (w : WI S n) (fr : Fr (XD 101) S T) (hf : f < n 1) (h : DC T 101 (n 0) D) (hw : DW (n 0) D) : fX9_fallsBy 3 101 (nI f) T = some (b01 (fallD n f D)) := by
  have h0 := w.wf.1
  obtain ⟨f1, f2, f3⟩ := w.wf.2.2 f hf
  obtain ⟨g1, g2, g3⟩ := w.cw.2.2.1 f hf
  obtain ⟨q1, q2, q3, q4⟩ := w.wf.2.1 _ f1
  have hd := hw.2.2 _ f1
  have hd0 := hw.1
  have e1 : gI T 3 1 (12 + f) = nI (n (34 + f)) := (fr.i (by unfold XD; omega)).trans g1
  have e2 : gI T 3 2 (12 + f) = nI (n (40 + f)) := (fr.i (by unfold XD; omega)).trans g2
  have e3 : gI T 3 3 (12 + f) = nI (n (46 + f)) := (fr.i (by unfold XD; omega)).trans g3
  have hcp : CP T (7 + n (34 + f)) (n (4 + n (34 + f))) (n (9 + n (34 + f))) (n (24 + n (34 + f))) (n (29 + n (34 + f))) (n (14 + n (34 + f))) := CP_fr fr (fun k => by unfold XD; omega) (w.cw.2.1 _ f1)
  have hda := c_dateAt (c := D.1 (2 + n (34 + f))) hcp q1 (by omega)
  have hdl := dt_lt q1 (D.1 (2 + n (34 + f)))
  have hhp : fX8_hasParish 4 (nI (n (34 + f))) T = 1 := by
    unfold fX8_hasParish
    rw [if_neg (nI_pos (by omega)), show gI T 8 2 4 = nI (n 0) from (fr.i (by unfold XD; omega)).trans w.cw.1.1, if_neg (nI_ge f1 (by omega))]
  unfold fX9_fallsBy fX9_fallsBy_s10
  rw [igd (by omega) (by decide), nI_clamp (by omega), show (3 : Nat) + 1 + 2 + 6 + f = 12 + f from rfl, e1, e2, e3, show (3 : Nat) + 1 = 4 from rfl, hhp, if_neg i10, igd (by omega) (by decide), igd (by omega) (by decide), nI_clamp (by omega), (h.2.2.2 _ f1).1, show (4 : Nat) + 1 + 2 + n (34 + f) = 7 + n (34 + f) from rfl, hda, ob_some, show (32 : Int32) = nI 32 from rfl, pk_mul, nI_add, b01_if]
  congr 2
  obtain ⟨w1, w2, w3, w4, -⟩ := q1
  unfold fallD dtq
  rw [decide_eq_decide, Nat.mul_comm (n (40 + f)), nI_eq (by omega) (by omega)]
theorem m_fallsD {T : St} {n : Nat → Nat} {f : Nat} {D : DS} (wf : WFn n) (lo : ∀ j, j < 52 → gA T 29 142 j = nI (n j)) (hf : f < n 1) (h : DM T (n 0) D) (hw : DW (n 0) D) : fX11_fallsIn 140 (nI f) 0 T = some (b01 (fallD n f D)) := by
  have h0 := wf.1
  obtain ⟨f1, f2, f3⟩ := wf.2.2 f hf
  obtain ⟨q1, q2, q3, q4⟩ := wf.2.1 _ f1
  have hd := hw.2.2 _ f1
  have hd0 := hw.1
  have hmp : MP T (n (34 + f)) (n (4 + n (34 + f))) (n (9 + n (34 + f))) (n (24 + n (34 + f))) (n (29 + n (34 + f))) (n (14 + n (34 + f))) := ⟨lo _ (by omega), lo _ (by omega), lo _ (by omega), lo _ (by omega), lo _ (by omega)⟩
  have hda := m_dated (c := D.1 (2 + n (34 + f))) hmp q1 (by omega) (by omega)
  have hdl := dt_lt q1 (D.1 (2 + n (34 + f)))
  unfold fX11_fallsIn fX11_datedIn fX11_ahead
  rw [show (34 : Int32) + nI f = nI (34 + f) from nI_add 34 f, igd (by omega) (by decide), nI_clamp (by omega), show (140 : Nat) + 2 = 142 from rfl, lo _ (by omega), show (54 : Int32) + nI (n (34 + f)) = nI (54 + n (34 + f)) from nI_add 54 _, igd (by omega) (by decide), nI_clamp (by omega), if_pos (show (0 : Int32) ≤ 0 by decide), (h.2.2.2 _ f1).1, Int32.add_zero, Int32.sub_zero, ob_some, hda, ob_some, ob_some, show (40 : Int32) + nI f = nI (40 + f) from nI_add 40 f, igd (by omega) (by decide), show (46 : Int32) + nI f = nI (46 + f) from nI_add 46 f, igd (by omega) (by decide), nI_clamp (by omega), nI_clamp (by omega), lo _ (by omega), lo _ (by omega), show (32 : Int32) = nI 32 from rfl, pk_mul, nI_add, b01_if]
  congr 2
  obtain ⟨w1, w2, w3, w4, -⟩ := q1
  unfold fallD dtq
  rw [decide_eq_decide, nI_eq (by omega) (by omega)]
def fwB (F P : Nat → Bool) : Nat → Nat → Bool
  | 0, _ => false
  | m + 1, i => if P i = true then false else if F (i + 1) = true then true else fwB F P m (i + 1)
theorem l_fwC {Xf : Int32 → Int32} {Nf : Int32 → Nat → Nat} (hX : HX Xf Nf) {S T0 : St} {n : Nat → Nat} {f : Nat} {x x2 : Int32} {D : DS} (w : WI S n) (hf : f < n 1) (hw : DW (n 0) D) : ∀ (m i u : Nat) (T : St), i + m = 40 → m < u → D.1 0 + i ≤ 10000 → Fr (XD 101) S T → DC T 101 (n 0) (drI Xf Nf (n 0) x D i).2 → ∃ U, fX10_fallsWhenDrawn_h5 0 (nI f) x2 u (drI Xf Nf (n 0) x D i).1 (nI i) T = some (b01 (fwB (fun k => fallD n f (drI Xf Nf (n 0) x D k).2) (fun k => decide (10000 ≤ D.1 0 + k)) m i), U) ∧ Fr (XD 101) S U := by
  have hn := w.wf.1.1
  intro m
  induction m with
  | zero =>
    intro i u T hi hu hd fr h
    obtain ⟨u, rfl⟩ : ∃ k', u = k' + 1 := ⟨u - 1, by omega⟩
    rw [fX10_fallsWhenDrawn_h5]; unfold fX10_fallsWhenDrawn_s5
    rw [if_pos (show (40 : Int32) ≤ nI i from nI_le (a := 40) (by omega) (by omega))]
    exact ⟨T, rfl, fr⟩
  | succ m ih =>
    intro i u T hi hu hd fr h
    obtain ⟨u, rfl⟩ : ∃ k', u = k' + 1 := ⟨u - 1, by omega⟩
    obtain ⟨w1, w2⟩ := drI_W (Xf := Xf) (Nf := Nf) (x := x) hn hw i hd
    rw [fX10_fallsWhenDrawn_h5]; unfold fX10_fallsWhenDrawn_s5 fX10_fallsWhenDrawn_s33
    rw [if_neg (show ¬ (40 : Int32) ≤ nI i from nI_ge (b := 40) (by omega) (by omega)), show gI T 2 0 (0 + 101) = nI ((drI Xf Nf (n 0) x D i).2.1 0) from h.1, w2]
    unfold fwB
    by_cases q : 10000 ≤ D.1 0 + i
    · rw [if_pos (show (10000 : Int32) ≤ nI _ from nI_le (a := 10000) q (by omega)), if_pos (decide_eq_true q)]
      exact ⟨T, rfl, fr⟩
    · obtain ⟨U, u1, u2, u3⟩ := c_drawDay hX (x := (drI Xf Nf (n 0) x D i).1) hn w1 (by omega) h
      obtain ⟨w3, w4⟩ := drI_W (Xf := Xf) (Nf := Nf) (x := x) hn hw (i + 1) (by omega)
      have fr2 := Fr_tr fr u2
      have fb := c_fallsBy w fr2 hf u3 w3
      rw [if_neg (show ¬ (10000 : Int32) ≤ nI _ from nI_ge (b := 10000) (by omega) (by omega)), if_neg (show ¬ decide (10000 ≤ D.1 0 + i) = true from fun e => q (of_decide_eq_true e)), show (0 : Nat) + 101 = 101 from rfl, u1, ob_some]
      show ∃ U_1, ((fX9_fallsBy 3 101 (nI f) U).bind _) = _ ∧ _
      rw [fb, ob_some, if01, nI_1]
      by_cases r : fallD n f (drD Xf Nf (n 0) (drI Xf Nf (n 0) x D i).1 (drI Xf Nf (n 0) x D i).2).2 = true
      · rw [if_pos r, if_pos (show fallD n f (drI Xf Nf (n 0) x D (i + 1)).2 = true from r)]
        exact ⟨U, rfl, fr2⟩
      · rw [if_neg r, if_neg (show ¬ fallD n f (drI Xf Nf (n 0) x D (i + 1)).2 = true from r)]
        exact ih (i + 1) u U (by omega) (by omega) (by omega) fr2 u3
theorem l_fwR {Xf : Int32 → Int32} {Nf : Int32 → Nat → Nat} (hX : HX Xf Nf) {S : St} {n : Nat → Nat} {f : Nat} {x x2 x3 y4 y5 : Int32} {D : DS} (wf : WFn n) (lo : ∀ j, j < 52 → gA S 29 142 j = nI (n j)) (hf : f < n 1) (hw : DW (n 0) D) (K : Int32 → Int32 → St → Option (Int32 × St)) : ∀ (m i u : Nat) (T : St), i + m = 40 → m < u → D.1 0 + i ≤ 10000 → FR S T → DM T (n 0) (drI Xf Nf (n 0) x D i).2 → gI T 11 32 140 = (drI Xf Nf (n 0) x D i).1 → ∃ U, fX11_odds_h55 K 140 (nI f) x2 x3 u y4 y5 0 (nI i) T = fX11_odds_s98 K 140 (nI f) x2 x3 y4 y5 (b01 (fwB (fun k => fallD n f (drI Xf Nf (n 0) x D k).2) (fun k => decide (10000 ≤ D.1 0 + k)) m i)) U ∧ FR S U := by
  have hn := wf.1.1
  intro m
  induction m with
  | zero =>
    intro i u T hi hu hd fr h hs
    obtain ⟨u, rfl⟩ : ∃ k', u = k' + 1 := ⟨u - 1, by omega⟩
    rw [fX11_odds_h55]; unfold fX11_odds_s55
    rw [if_pos (show (40 : Int32) ≤ nI i from nI_le (a := 40) (by omega) (by omega))]
    exact ⟨T, rfl, fr⟩
  | succ m ih =>
    intro i u T hi hu hd fr h hs
    obtain ⟨u, rfl⟩ : ∃ k', u = k' + 1 := ⟨u - 1, by omega⟩
    obtain ⟨w1, w2⟩ := drI_W (Xf := Xf) (Nf := Nf) (x := x) hn hw i hd
    rw [fX11_odds_h55]; unfold fX11_odds_s55
    rw [if_neg (show ¬ (40 : Int32) ≤ nI i from nI_ge (b := 40) (by omega) (by omega)), if_pos rfl, show gA T 29 (140 + 2) 52 = nI ((drI Xf Nf (n 0) x D i).2.1 0) from h.2.1, w2]
    unfold fwB
    by_cases q : 10000 ≤ D.1 0 + i
    · rw [if_pos (show (10000 : Int32) ≤ nI _ from nI_le (a := 10000) q (by omega)), if_pos (decide_eq_true q)]
      exact ⟨T, rfl, fr⟩
    · obtain ⟨U, u1, u2, u3, u4⟩ := m_drawDay hX hn w1 h
      rw [hs] at u3 u4
      obtain ⟨w3, w4⟩ := drI_W (Xf := Xf) (Nf := Nf) (x := x) hn hw (i + 1) (by omega)
      have fr2 := FR_tr fr u2
      have fb := m_fallsD wf (fun j hj => (fr2.lo hj).trans (lo j hj)) hf u3 w3
      rw [if_neg (show ¬ (10000 : Int32) ≤ nI _ from nI_ge (b := 10000) (by omega) (by omega)), if_neg (show ¬ decide (10000 ≤ D.1 0 + i) = true from fun e => q (of_decide_eq_true e)), u1, ob_some, fb, ob_some, nI_1]
      by_cases r : fallD n f (drD Xf Nf (n 0) (drI Xf Nf (n 0) x D i).1 (drI Xf Nf (n 0) x D i).2).2 = true
      · rw [r, if_pos (show fallD n f (drI Xf Nf (n 0) x D (i + 1)).2 = true from r)]
        obtain ⟨u, rfl⟩ : ∃ k', u = k' + 1 := ⟨u - 1, by omega⟩
        rw [fX11_odds_h55]; unfold fX11_odds_s55
        refine ⟨U, ?_, fr2⟩
        by_cases t : (40 : Int32) ≤ nI (i + 1)
        · rw [if_pos t]
        · rw [if_neg t, if_neg (show ¬ b01 true = 0 by decide)]
      · rw [bnot r, if_neg (show ¬ fallD n f (drI Xf Nf (n 0) x D (i + 1)).2 = true from r)]
        exact ih (i + 1) u U (by omega) (by omega) (by omega) fr2 u3 u4
theorem l_tries {S : St} : ∀ (m i u : Nat) (T : St), i + m = 17 → m < u → Fr (fun _ a => a = 148) S T → (∀ j, j < i → gA T 35 148 j = gA S 29 142 (52 + j)) → ∃ U, fX11_tries_h2 140 u (nI i) T = some U ∧ Fr (fun _ a => a = 148) S U ∧ ∀ j, j < 17 → gA U 35 148 j = gA S 29 142 (52 + j) := by
  intro m
  induction m with
  | zero =>
    intro i u T hi hu fr t
    obtain ⟨u, rfl⟩ : ∃ k', u = k' + 1 := ⟨u - 1, by omega⟩
    rw [fX11_tries_h2]; unfold fX11_tries_s2
    rw [show i = 17 by omega, if_pos (show (17 : Int32) ≤ nI 17 by decide)]
    exact ⟨T, rfl, fr, fun j hj => t j (by omega)⟩
  | succ m ih =>
    intro i u T hi hu fr t
    obtain ⟨u, rfl⟩ : ∃ k', u = k' + 1 := ⟨u - 1, by omega⟩
    rw [fX11_tries_h2]; unfold fX11_tries_s2 fX11_tries_s23
    rw [if_neg (show ¬ (17 : Int32) ≤ nI i from nI_ge (b := 17) (by omega) (by omega)), show (52 : Int32) + nI i = nI (52 + i) from nI_add 52 i, igd (by omega) (by decide), igd (by omega) (by decide), nI_clamp (by omega), nI_clamp (by omega), nI_1, show (140 : Nat) + 2 = 142 from rfl, show (140 : Nat) + 8 = 148 from rfl, fr.a (by omega)]
    refine ih (i + 1) u _ (by omega) (by omega) (Fr_sA fr rfl) (fun j hj => ?_)
    by_cases r : j = i
    · subst r; exact gA_s
    · exact (gA_j r).trans (t j (by omega))
theorem l_back {S : St} : ∀ (m i u : Nat) (T : St), i + m = 17 → m < u → FR S T → (∀ j, j < i → gA T 29 142 (52 + j) = gA S 35 148 j) → ∃ U, fX11_back_h2 140 u (nI i) T = some U ∧ FR S U ∧ ∀ j, j < 17 → gA U 29 142 (52 + j) = gA S 35 148 j := by
  intro m
  induction m with
  | zero =>
    intro i u T hi hu fr t
    obtain ⟨u, rfl⟩ : ∃ k', u = k' + 1 := ⟨u - 1, by omega⟩
    rw [fX11_back_h2]; unfold fX11_back_s2
    rw [show i = 17 by omega, if_pos (show (17 : Int32) ≤ nI 17 by decide)]
    exact ⟨T, rfl, fr, fun j hj => t j (by omega)⟩
  | succ m ih =>
    intro i u T hi hu fr t
    obtain ⟨u, rfl⟩ : ∃ k', u = k' + 1 := ⟨u - 1, by omega⟩
    have e1 : gA T 35 148 i = gA S 35 148 i := fr.2.2.1 _ _ _ (by omega)
    rw [fX11_back_h2]; unfold fX11_back_s2 fX11_back_s23
    rw [if_neg (show ¬ (17 : Int32) ≤ nI i from nI_ge (b := 17) (by omega) (by omega)), show (52 : Int32) + nI i = nI (52 + i) from nI_add 52 i, igd (by omega) (by decide), igd (by omega) (by decide), nI_clamp (by omega), nI_clamp (by omega), nI_1, show (140 : Nat) + 2 = 142 from rfl, show (140 : Nat) + 8 = 148 from rfl, e1]
    refine ih (i + 1) u _ (by omega) (by omega) (FR_sA fr (by omega) (by omega)) (fun j hj => ?_)
    by_cases r : j = i
    · subst r; exact gA_s
    · exact (gA_j (by omega)).trans (t j (by omega))
theorem m_tries (S : St) : ∃ U, fX11_tries 140 S = some U ∧ Fr (fun _ a => a = 148) S U ∧ ∀ j, j < 17 → gA U 35 148 j = gA S 29 142 (52 + j) := l_tries 17 0 NN S (by omega) (by unfold NN; omega) Fr_id (fun j hj => by omega)
theorem m_back (S : St) : ∃ U, fX11_back 140 S = some U ∧ FR S U ∧ ∀ j, j < 17 → gA U 29 142 (52 + j) = gA S 35 148 j := l_back 17 0 NN S (by omega) (by unfold NN; omega) FR_id (fun j hj => by omega)
def odB (Xf : Int32 → Int32) (Nf : Int32 → Nat → Nat) (n : Nat → Nat) (f : Nat) (D : DS) (x3 : Int32) (i : Nat) : Bool := fwB (fun k => fallD n f (drI Xf Nf (n 0) (x3 + nI i) D k).2) (fun k => decide (10000 ≤ D.1 0 + k)) 40 0
theorem l_oddsC {Xf : Int32 → Int32} {Nf : Int32 → Nat → Nat} (hX : HX Xf Nf) {S : St} {n : Nat → Nat} {f N : Nat} {x3 : Int32} (w : WI S n) (hf : f < n 1) (hN : N ≤ 30) : ∀ (m i u : Nat) (T : St), i + m = N → m < u → Fr (XD 101) S T → ∃ U, fX10_odds_h33 0 (nI f) (nI N) x3 u (nI (cntP (odB Xf Nf n f (dsOf S n) x3) i)) (nI i) T = some (nI (cntP (odB Xf Nf n f (dsOf S n) x3) N), U) ∧ Fr (XD 101) S U := by
  have hn := w.wf.1.1
  intro m
  induction m with
  | zero =>
    intro i u T hi hu fr
    obtain ⟨u, rfl⟩ : ∃ k', u = k' + 1 := ⟨u - 1, by omega⟩
    rw [fX10_odds_h33]; unfold fX10_odds_s33
    rw [if_pos (nI_le (by omega) (by omega)), show i = N by omega]
    exact ⟨T, rfl, fr⟩
  | succ m ih =>
    intro i u T hi hu fr
    obtain ⟨u, rfl⟩ : ∃ k', u = k' + 1 := ⟨u - 1, by omega⟩
    obtain ⟨V, v1, v2, v3⟩ := c_copy (d := 101) (s := 18) (by omega) hn (DC_fr fr (fun k a a1 a2 => by unfold XD; omega) (ds_C w))
    obtain ⟨U, u1, u2⟩ := l_fwC hX (T0 := S) (x := x3 + nI i) (x2 := x3 + nI i) w hf (ds_W w) 40 0 NN V (by omega) (by unfold NN; omega) (ds_W w).1 (Fr_tr fr v2) v3
    have u1' : fX10_fallsWhenDrawn 0 (nI f) (x3 + nI i) V = some (b01 (odB Xf Nf n f (dsOf S n) x3 i), U) := u1
    rw [fX10_odds_h33]; unfold fX10_odds_s33 fX10_odds_s62 fX10_odds_s68
    rw [if_neg (nI_ge (by omega) (by omega)), show (0 : Nat) + 101 = 101 from rfl, show (0 : Nat) + 3 + 15 = 18 from rfl, v1, ob_some, u1', ob_some, if01, nI_1, nI_1]
    have e := ih (i + 1) u U (by omega) (by omega) u2
    rw [show cntP (odB Xf Nf n f (dsOf S n) x3) (i + 1) = cntP (odB Xf Nf n f (dsOf S n) x3) i + (if odB Xf Nf n f (dsOf S n) x3 i = true then 1 else 0) from rfl] at e
    by_cases q : odB Xf Nf n f (dsOf S n) x3 i = true
    · rw [if_pos q] at e; rw [if_pos q]; exact e
    · rw [if_neg q] at e; rw [if_neg q]; exact e
theorem l_oddsR {Xf : Int32 → Int32} {Nf : Int32 → Nat → Nat} (hX : HX Xf Nf) {S : St} {n : Nat → Nat} {f N : Nat} {x3 : Int32} {D : DS} (wf : WFn n) (lo : ∀ j, j < 52 → gA S 29 142 j = nI (n j)) (hf : f < n 1) (hN : N ≤ 30) (hM : DM S (n 0) D) (hw : DW (n 0) D) (hb : ∀ j, j < 17 → gA S 35 148 j = gA S 29 142 (52 + j)) : ∀ (m i u : Nat) (T : St), i + m = N → m < u → FR S T → (∀ j, j < 17 → gA T 29 142 (52 + j) = gA S 29 142 (52 + j)) → ∃ U, fX11_odds_h35 140 (nI f) (nI N) x3 u (nI (cntP (odB Xf Nf n f D x3) i)) (nI i) T = some (nI (cntP (odB Xf Nf n f D x3) N), U) ∧ FR S U ∧ ∀ j, j < 17 → gA U 29 142 (52 + j) = gA S 29 142 (52 + j) := by
  have hn := wf.1.1
  intro m
  induction m with
  | zero =>
    intro i u T hi hu fr hr
    obtain ⟨u, rfl⟩ : ∃ k', u = k' + 1 := ⟨u - 1, by omega⟩
    rw [fX11_odds_h35]; unfold fX11_odds_s35
    rw [if_pos (nI_le (by omega) (by omega)), show i = N by omega]
    exact ⟨T, rfl, fr, hr⟩
  | succ m ih =>
    intro i u T hi hu fr hr
    obtain ⟨u, rfl⟩ : ∃ k', u = k' + 1 := ⟨u - 1, by omega⟩
    have hMT : DM (sI T 11 32 140 (x3 + nI i)) (n 0) D := by
      obtain ⟨h0, h1, h2, h3⟩ := hM
      refine ⟨(fr.lo (by omega)).trans h0, (hr 0 (by omega)).trans h1, (hr 1 (by omega)).trans h2, fun p hp => ⟨?_, ?_, ?_⟩⟩
      · rw [show 54 + p = 52 + (2 + p) by omega]; exact (hr (2 + p) (by omega)).trans (by rw [show 52 + (2 + p) = 54 + p by omega]; exact (h3 p hp).1)
      · rw [show 59 + p = 52 + (7 + p) by omega]; exact (hr (7 + p) (by omega)).trans (by rw [show 52 + (7 + p) = 59 + p by omega]; exact (h3 p hp).2.1)
      · rw [show 64 + p = 52 + (12 + p) by omega]; exact (hr (12 + p) (by omega)).trans (by rw [show 52 + (12 + p) = 64 + p by omega]; exact (h3 p hp).2.2)
    obtain ⟨U, u1, u2⟩ := l_fwR hX (S := S) (x := x3 + nI i) (x2 := nI N) (x3 := x3) (y4 := nI (cntP (odB Xf Nf n f D x3) i)) (y5 := nI i) wf lo hf hw (fX11_odds_h35 140 (nI f) (nI N) x3 u) 40 0 NN (sI T 11 32 140 (x3 + nI i)) (by omega) (by unfold NN; omega) hw.1 (FR_seed fr) hMT gI_s
    have u1' : fX11_odds_h55 (fX11_odds_h35 140 (nI f) (nI N) x3 u) 140 (nI f) (nI N) x3 NN (nI (cntP (odB Xf Nf n f D x3) i)) (nI i) 0 0 (sI T 11 32 140 (x3 + nI i)) = fX11_odds_s98 (fX11_odds_h35 140 (nI f) (nI N) x3 u) 140 (nI f) (nI N) x3 (nI (cntP (odB Xf Nf n f D x3) i)) (nI i) (b01 (odB Xf Nf n f D x3 i)) U := u1
    obtain ⟨V, v1, v2, v3⟩ := m_back U
    have hV : ∀ j, j < 17 → gA V 29 142 (52 + j) = gA S 29 142 (52 + j) := fun j hj => (v3 j hj).trans ((u2.2.2.1 _ _ _ (by omega)).trans (hb j hj))
    rw [fX11_odds_h35]; unfold fX11_odds_s35 fX11_odds_s49
    rw [if_neg (nI_ge (by omega) (by omega)), u1']
    unfold fX11_odds_s98
    rw [if01, v1, ob_some, ob_some, nI_1, nI_1, show (0 : Int32) = nI 0 from rfl, nI_add]
    have e := ih (i + 1) u V (by omega) (by omega) (FR_tr u2 v2) hV
    rw [show cntP (odB Xf Nf n f D x3) (i + 1) = cntP (odB Xf Nf n f D x3) i + (if odB Xf Nf n f D x3 i = true then 1 else 0) from rfl] at e
    by_cases q : odB Xf Nf n f D x3 i = true
    · rw [if_pos q] at e; rw [if_pos q]; exact e
    · rw [if_neg q] at e; rw [if_neg q]; exact e
theorem p_odds : pr_odds Inv := by
  obtain ⟨Xf, Nf, hX⟩ := hx_ex
  intro S g x1 x2 x3
  obtain ⟨n, w, u, r⟩ := id g
  have hn := w.wf.1.1
  unfold fX10_odds
  rcases fx w.cw w.mr w.wf.1.2.1 x1 with ⟨f, hf, rfl, e1, e2⟩ | ⟨e1, e2⟩
  · have e3 : fX11_isFeast 140 (nI f) (sI S 11 0 140 0) = some 1 := e2
    rw [if_neg (show ¬ fX8_hasFeast (0 + 3 + 1) (nI f) S = 0 from fun q => i10 (e1.symm.trans q))]
    by_cases a1 : x2 < 1
    · refine ⟨-1, S, sI S 11 0 140 0, if_pos a1, ?_, Inv_th g⟩
      unfold fX11_odds fX11_odds_s5
      rw [e3, ob_some, if_neg i10, isIn_no (Or.inl a1), if_pos rfl]
    by_cases a2 : x2 ≤ 30
    · obtain ⟨N, hN, rfl⟩ := nI_of2 (x := x2) (M := 30) (n := 30) (by decide) (fun q => a1 (Int32.lt_trans q (by decide))) a2
      obtain ⟨U, u1, u2⟩ := l_oddsC hX (x3 := x3) w hf hN N 0 NN S (by omega) (by unfold NN; omega) Fr_id
      have u1' : fX10_odds_h33 0 (nI f) (nI N) x3 NN 0 0 S = _ := u1
      rw [if_neg a1, if_pos a2, u1']
      have e142 : ∀ j, gA (sI U 11 0 140 0) 29 142 j = gA S 29 142 j := fun j => u2.a (c := 29) (a := 142) (by unfold XD; omega)
      obtain ⟨V, v1, v2, v3⟩ := m_tries (sI U 11 0 140 0)
      have eV : ∀ j, gA V 29 142 j = gA S 29 142 j := fun j => (v2.a (by omega)).trans (e142 j)
      have hM : DM V (n 0) (dsOf S n) := by
        obtain ⟨h0, h1, h2, h3⟩ := ds_M w
        exact ⟨(eV _).trans h0, (eV _).trans h1, (eV _).trans h2, fun p hp => ⟨(eV _).trans (h3 p hp).1, (eV _).trans (h3 p hp).2.1, (eV _).trans (h3 p hp).2.2⟩⟩
      obtain ⟨W, w1, w2, w3⟩ := l_oddsR hX (x3 := x3) w.wf (fun j hj => (eV j).trans (w.mr j (by omega))) hf hN hM (ds_W w) (fun j hj => (v3 j hj).trans ((e142 _).trans (eV _).symm)) N 0 NN V (by omega) (by unfold NN; omega) FR_id (fun j hj => rfl)
      refine ⟨_, U, W, rfl, ?_, ?_⟩
      · unfold fX11_odds fX11_odds_s5
        have e4 : fX11_isFeast 140 (nI f) (sI U 11 0 140 0) = some 1 := by
          unfold fX11_isFeast
          rw [show gA (sI U 11 0 140 0) 29 (140 + 2) 1 = nI (n 1) from (e142 1).trans (w.mr 1 (by omega)), isIn_in (by have := w.wf.1; omega) hf]; rfl
        rw [e4, ob_some, if_neg i10, isIn_yes a1 (Int32.not_lt.mpr a2), if_neg i10, v1, ob_some]
        exact w1
      · have eW : ∀ j, gA W 29 142 j = gA S 29 142 j := fun j => by
          by_cases q : 52 ≤ j ∧ j < 69
          · have := w3 (j - 52) (by omega)
            rw [show 52 + (j - 52) = j by omega] at this
            exact this.trans (eV j)
          · exact (w2.2.2.1 _ _ _ (by omega)).trans (eV j)
        have frU : Fr (fun k a => (101 ≤ a ∧ a ≤ 104) ∨ (a = 140 ∧ (k = 0 ∨ k = 32)) ∨ a = 148) S V := Fr_tr (Fr_sI (X := fun k a => (101 ≤ a ∧ a ≤ 104) ∨ (a = 140 ∧ (k = 0 ∨ k = 32)) ∨ a = 148) (Fr_mo u2 (fun k a q => by unfold XD at q; omega)) (by omega)) (Fr_mo v2 (fun k a q => by omega))
        have frW : Fr (fun k a => (101 ≤ a ∧ a ≤ 104) ∨ (a = 140 ∧ (k = 0 ∨ k = 32)) ∨ a = 148) S W := by
          refine ⟨fun c k a q => (w2.1 c k a (by omega)).trans (frU.i q), fun c k a q => (w2.2.1 c k a).trans (frU.j q), fun c a j q => ?_, fun c a j q => (w2.2.2.2.1 c a j).trans (frU.b q), fun a j q => (w2.2.2.2.2 a j).trans (frU.q q)⟩
          by_cases z : c = 29 ∧ a = 142
          · obtain ⟨rfl, rfl⟩ := z; exact eW j
          · exact (w2.2.2.1 c a j (by omega)).trans (frU.a q)
        exact Inv_fr frW (fun k a q => by unfold fAll fW fU fTp fFt fAl fTi fTl fIm fRs; omega) g
    · refine ⟨-1, S, sI S 11 0 140 0, (if_neg a1).trans (if_neg a2), ?_, Inv_th g⟩
      unfold fX11_odds fX11_odds_s5
      rw [e3, ob_some, if_neg i10, isIn_no (Or.inr (Int32.not_le.mp a2)), if_pos rfl]
  · refine ⟨-1, S, sI S 11 0 140 0, if_pos (show fX8_hasFeast (0 + 3 + 1) x1 S = 0 from e1), ?_, Inv_th g⟩
    unfold fX11_odds fX11_odds_s5
    have e3 : fX11_isFeast 140 x1 (sI S 11 0 140 0) = some 0 := e2
    rw [e3, ob_some, if_pos rfl]
