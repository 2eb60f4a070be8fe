-- the pair title
theorem TC_0 {S : St} : TC (sI S 7 1 94 0) [] := ⟨gI_s, fun j hj => absurd hj (Nat.not_lt_zero _)⟩
theorem TM_0 {S : St} : TMm (sI S 11 31 140 0) [] := ⟨gI_s, fun j hj => absurd hj (Nat.not_lt_zero _)⟩
theorem c_textL {S : St} {l : List Int32} (i : Nat) (hi : i < 5) (h : TC S l) (hl : l.length + 9 ≤ 64) : ∃ U, fX7_addText 94 i S = some U ∧ Fr XC S U ∧ TC U (l ++ txL i (sxLen.getD i 0) 0) := c_text i ((show ∀ i, i < 5 → sxLen.getD i 0 ≤ 9 by decide +kernel) i hi) h hl
def ttA (n : Nat → Nat) (p : Nat) (nm : Int64) : List Int32 := nmL nm 7 ++ txL 0 6 0 ++ dgs (clq n p 0) (topD (clq n p 0))
def ttB (n : Nat → Nat) (p : Nat) (nm : Int64) : List Int32 := if btw n p = true then ttA n p nm ++ txL 1 9 0 else ttA n p nm ++ txL 2 7 0 ++ dgs (clq n p 1) (topD (clq n p 1)) ++ txL 3 5 0
def ttC (n : Nat → Nat) (p : Nat) (nm : Int64) : List Int32 := ttB n p nm ++ dgs (clq n p 2) (topD (clq n p 2))
def ttD (n : Nat → Nat) (p : Nat) (nm : Int64) : List Int32 := if heldB n p = true then ttC n p nm ++ txL 4 5 0 else ttC n p nm
theorem dg_le {n : Nat} (h : n < 100000) : (dgs n (topD n)).length ≤ 5 := by rw [dgs_len]; have := (top_spec h).1; omega
theorem cl_sm {n : Nat → Nat} (hw : WFn n) {p : Nat} (hp : p < n 0) (k : Nat) : clq n p k < 100000 := by
  obtain ⟨w, hW1, hW2, hcl⟩ := hw.2.1 p hp
  have h0 := hw.1
  have := yr_le w (n (54 + p))
  have := dt_lt w (n (54 + p))
  have : n (54 + p) % n (14 + p) < n (14 + p) := Nat.mod_lt _ (by omega)
  unfold clq clOf
  split
  · omega
  · split
    · omega
    · split <;> omega
theorem tt_le {n : Nat → Nat} (hw : WFn n) {p : Nat} (hp : p < n 0) (nm : Int64) : (nmL nm 7 ++ txL 0 6 0).length ≤ 13 ∧ (ttA n p nm).length ≤ 18 ∧ (ttA n p nm ++ txL 2 7 0).length ≤ 25 ∧ (ttA n p nm ++ txL 2 7 0 ++ dgs (clq n p 1) (topD (clq n p 1))).length ≤ 30 ∧ (ttB n p nm).length ≤ 35 ∧ (ttC n p nm).length ≤ 40 ∧ (ttD n p nm).length ≤ 45 := by
  have a := nmL_le nm 7
  have x0 := dg_le (cl_sm hw hp 0)
  have x1 := dg_le (cl_sm hw hp 1)
  have x2 := dg_le (cl_sm hw hp 2)
  have e0 : (txL 0 6 0).length = 6 := by decide +kernel
  have e1 : (txL 1 9 0).length = 9 := by decide +kernel
  have e2 : (txL 2 7 0).length = 7 := by decide +kernel
  have e3 : (txL 3 5 0).length = 5 := by decide +kernel
  have e4 : (txL 4 5 0).length = 5 := by decide +kernel
  have q0 : (nmL nm 7 ++ txL 0 6 0).length ≤ 13 := by rw [List.length_append]; omega
  have q1 : (ttA n p nm).length ≤ 18 := by unfold ttA; rw [List.length_append]; omega
  have q2 : (ttA n p nm ++ txL 2 7 0).length ≤ 25 := by rw [List.length_append]; omega
  have q3 : (ttA n p nm ++ txL 2 7 0 ++ dgs (clq n p 1) (topD (clq n p 1))).length ≤ 30 := by rw [List.length_append]; omega
  have q4 : (ttB n p nm).length ≤ 35 := by
    unfold ttB
    split
    · rw [List.length_append]; omega
    · rw [List.length_append]; omega
  have q5 : (ttC n p nm).length ≤ 40 := by unfold ttC; rw [List.length_append]; omega
  refine ⟨q0, q1, q2, q3, q4, q5, ?_⟩
  unfold ttD
  split
  · rw [List.length_append]; omega
  · omega
theorem c_write {S : St} {n : Nat → Nat} (w : WI S n) {p : Nat} (hp : p < n 0) : ∃ U, fX7_write 94 3 (nI p) S = some U ∧ Fr XC S U ∧ TC U (ttD n p (gJ S 4 0 (7 + p))) := by
  have hn := w.wf.1.1
  obtain ⟨v, hW1, hW2, hcl⟩ := w.wf.2.1 p hp
  have hb0 := w.wf.1
  obtain ⟨t0, t1, t2, t3, t4, t5, t6⟩ := tt_le w.wf hp (gJ S 4 0 (7 + p))
  have fr0 : Fr XC S (sI S 7 1 94 0) := Fr_sI Fr_id (Or.inl ⟨rfl, rfl⟩)
  have hcp : ∀ T, Fr XC S T → CP T (7 + p) (n (4 + p)) (n (9 + p)) (n (24 + p)) (n (29 + p)) (n (14 + p)) := fun T f => CP_fr f (fun k => by unfold XC; omega) (w.cw.2.1 p hp)
  have hcl : ∀ T k, Fr XC S T → k ≤ 3 → fX4_called (7 + p) (nI (n (54 + p))) (nI k) T = some (nI (clq n p k)) := fun T k f hk => c_called (hcp T f) v ⟨by omega, hW2⟩ (by omega) hk
  have hbt : ∀ T, Fr XC S T → fX4_isBetween (7 + p) (nI (n (54 + p))) T = some (b01 (btw n p)) := fun T f => c_isBetween (hcp T f) v (by omega)
  have hhd : ∀ T, Fr XC S T → fX2_isHeld 18 (nI p) T = b01 (heldB n p) := fun T f => by
    rw [c_isHeld, f.i (by unfold XC; omega), ← c_isHeld]; exact c_held w.cw
  obtain ⟨A1, a1, a2, a3⟩ := c_name (gJ S 4 0 (7 + p)) (TC_0 (S := S)) (by decide)
  have fA1 := Fr_tr fr0 a2
  have la := nmL_le (gJ S 4 0 (7 + p)) 7
  rw [List.nil_append] at a3
  obtain ⟨A2, b1, b2, b3⟩ := c_textL 0 (by omega) a3 (by omega)
  have fA2 := Fr_tr fA1 b2
  have b3' : TC A2 (nmL (gJ S 4 0 (7 + p)) 7 ++ txL 0 6 0) := b3
  obtain ⟨A3, c1, c2, c3⟩ := c_fig (cl_sm w.wf hp 0) b3' (by omega)
  have fA3 := Fr_tr fA2 c2
  have e0 : fX4_called (7 + p) (nI (n (54 + p))) 0 A2 = some (nI (clq n p 0)) := hcl A2 0 fA2 (by omega)
  -- the end
  have fin : ∀ T, Fr XC S T → TC T (ttB n p (gJ S 4 0 (7 + p))) → ∃ U, fX7_write_s92 94 3 (nI p) (7 + p) (nI (n (54 + p))) T = some U ∧ Fr XC S U ∧ TC U (ttD n p (gJ S 4 0 (7 + p))) := by
    intro T f h
    obtain ⟨U, u1, u2, u3⟩ := c_fig (cl_sm w.wf hp 2) h (by omega)
    have e2 : fX4_called (7 + p) (nI (n (54 + p))) 2 T = some (nI (clq n p 2)) := hcl T 2 f (by omega)
    have fU := Fr_tr f u2
    unfold fX7_write_s92
    rw [e2, ob_some, u1, ob_some, show (3 : Nat) + 15 = 18 from rfl, hhd U fU, if01]
    unfold ttD
    by_cases q : heldB n p = true
    · rw [if_pos q, if_pos q]
      obtain ⟨V, v1, v2, v3⟩ := c_textL 4 (by omega) u3 (by show (ttC n p (gJ S 4 0 (7 + p))).length + 9 ≤ 64; omega)
      rw [v1, ob_some]
      exact ⟨V, rfl, Fr_tr fU v2, v3⟩
    · rw [if_neg q, if_neg q]
      exact ⟨U, rfl, fU, u3⟩
  have hc : gA S 15 (3 + 15 + 1) p = nI (n (54 + p)) := w.cw.2.2.2.2 p hp
  unfold fX7_write fX7_write_s10 fX7_write_s21 fX7_write_s26
  rw [igd (by omega) (by decide), igd (by omega) (by decide), nI_clamp (by omega), show (3 : Nat) + 1 + 1 + 2 + p = 7 + p from rfl, hc, show gJ (sI S 7 1 94 0) 4 0 (7 + p) = gJ S 4 0 (7 + p) from rfl, a1, ob_some, b1, ob_some, e0, ob_some, c1, ob_some, hbt A3 fA3, ob_some, if01]
  have hA3 : TC A3 (ttA n p (gJ S 4 0 (7 + p))) := c3
  by_cases q : btw n p = true
  · rw [if_pos q]
    obtain ⟨A4, d1, d2, d3⟩ := c_textL 1 (by omega) hA3 (by omega)
    rw [d1, ob_some]
    exact fin A4 (Fr_tr fA3 d2) (by unfold ttB; rw [if_pos q]; exact d3)
  · rw [if_neg q]
    obtain ⟨A4, d1, d2, d3⟩ := c_textL 2 (by omega) hA3 (by omega)
    have fA4 := Fr_tr fA3 d2
    have e1 : fX4_called (7 + p) (nI (n (54 + p))) 1 A4 = some (nI (clq n p 1)) := hcl A4 1 fA4 (by omega)
    have d3' : TC A4 (ttA n p (gJ S 4 0 (7 + p)) ++ txL 2 7 0) := d3
    obtain ⟨A5, g1, g2, g3⟩ := c_fig (cl_sm w.wf hp 1) d3' (by omega)
    obtain ⟨A6, k1, k2, k3⟩ := c_textL 3 (by omega) g3 (by omega)
    rw [d1, ob_some, e1, ob_some, g1, ob_some, k1, ob_some]
    exact fin A6 (Fr_tr fA4 (Fr_tr g2 k2)) (by unfold ttB; rw [if_neg q]; exact k3)
theorem m_write {S : St} {n : Nat → Nat} (wf : WFn n) (h : MR S n) {p : Nat} (hp : p < n 0) (h0 : 0 ≤ (gB S 32 145 p).toInt) (h1 : (gB S 32 145 p).toInt < 72057594037927936) : ∃ U, fX11_title_s20 140 (nI p) (sI S 11 31 140 0) = some (nI (ttD n p (gB S 32 145 p)).length, U) ∧ Fr XM S U ∧ TMm U (ttD n p (gB S 32 145 p)) := by
  have hn := wf.1.1
  obtain ⟨v, hW1, hW2, hcl⟩ := wf.2.1 p hp
  have hb0 := wf.1
  obtain ⟨t0, t1, t2, t3, t4, t5, t6⟩ := tt_le wf hp (gB S 32 145 p)
  have hdl := dt_lt v (n (54 + p))
  have fr0 : Fr XM S (sI S 11 31 140 0) := Fr_sI Fr_id (Or.inl ⟨rfl, rfl⟩)
  have hMR : ∀ T, Fr XM S T → MR T n := fun T f j hj => (f.a (by unfold XM; omega)).trans (h j hj)
  have htd : ∀ T, Fr XM S T → fX11_today 140 (nI p) T = some (nI (dtq n p (n (54 + p)))) := fun T f => m_today wf (hMR T f) hp
  have hbt : ∀ T, Fr XM S T → fX11_isBetween 140 (nI p) T = some (b01 (btw n p)) := fun T f => m_isBetween wf (hMR T f) hp
  have hhd : ∀ T, Fr XM S T → fX11_isHeld 140 (nI p) T = some (b01 (heldB n p)) := fun T f => by
    rw [m_isHeld, hMR T f 53 (by omega)]
    unfold heldB
    by_cases q : ((nI (n 53) >>> (nI p &&& 31)) &&& 1) = 1
    · rw [if_pos q, decide_eq_true q]; rfl
    · rw [if_neg q, decide_eq_false q]; rfl
  obtain ⟨A1, a1, a2, a3⟩ := m_name (gB S 32 145 p) (TM_0 (S := S)) (by decide)
  have fA1 := Fr_tr fr0 a2
  have la := nmL_le (gB S 32 145 p) 7
  rw [List.nil_append, nm_top h0 h1] at a3
  have hy := m_yearBy (c := n (54 + p)) ((hMR A1 fA1).mp (p := p) (by omega)) v (by omega) (by omega)
  obtain ⟨A2, b1, b2, b3⟩ := m_saysOf (n := clq n p 0) 2036687218 (cl_sm wf hp 0) a3 (by omega)
  have fA2 := Fr_tr fA1 b2
  rw [← tx_y] at b3
  have hA2 : TMm A2 (ttA n p (gB S 32 145 p)) := b3
  have e142 : gA A1 29 (140 + 2) (54 + p) = nI (n (54 + p)) := hMR A1 fA1 _ (by omega)
  have fin : ∀ T, Fr XM S T → TMm T (ttC n p (gB S 32 145 p)) → ∃ U, fX11_title_s107 140 (nI p) T = some (nI (ttD n p (gB S 32 145 p)).length, U) ∧ Fr XM S U ∧ TMm U (ttD n p (gB S 32 145 p)) := by
    intro T f ht
    unfold fX11_title_s107
    rw [hhd T f, ob_some, if01]
    unfold ttD
    by_cases q : heldB n p = true
    · rw [if_pos q, if_pos q]
      obtain ⟨V, v1, v2, v3⟩ := m_says 1751477348 ht (by omega)
      rw [← tx_h] at v3
      rw [v1, ob_some, v3.1]
      exact ⟨V, rfl, Fr_tr f v2, v3⟩
    · rw [if_neg q, if_neg q, ht.1]
      exact ⟨T, rfl, f, ht⟩
  have q1 : nI (dtq n p (n (54 + p))) / 32 = nI (clq n p 1) := by
    rw [show (32 : Int32) = nI 32 from rfl, pk_div (by unfold dtq; omega) (by omega) (by omega)]; rfl
  have q2 : nI (dtq n p (n (54 + p))) - nI (dtq n p (n (54 + p))) / 32 * 32 = nI (clq n p 2) := by
    rw [show (32 : Int32) = nI 32 from rfl, pk_rem (by unfold dtq; omega) (by omega) (by omega)]; rfl
  unfold fX11_title_s20
  rw [igd (by omega) (by decide), nI_clamp (by omega), show gB (sI S 11 31 140 0) 32 (140 + 5) p = gB S 32 145 p from rfl, a1, ob_some, show (54 : Int32) + nI p = nI (54 + p) from nI_add 54 p, igd (by omega) (by decide), nI_clamp (by omega), e142, hy, ob_some, show yrOf (n (4 + p)) (n (9 + p)) (n (24 + p)) (n (29 + p)) (n (54 + p)) = clq n p 0 from rfl, b1, ob_some, hbt A2 fA2, ob_some, if01, htd A2 fA2, ob_some, ob_some, q2, q1]
  by_cases q : btw n p = true
  · rw [if_pos q]
    obtain ⟨A3, c1, c2, c3⟩ := m_saysOf (n := clq n p 2) 27696098611389806 (cl_sm wf hp 2) hA2 (by omega)
    rw [← tx_b] at c3
    rw [c1, ob_some]
    exact fin A3 (Fr_tr fA2 c2) (by unfold ttC ttB; rw [if_pos q]; exact c3)
  · rw [if_neg q]
    obtain ⟨A3, c1, c2, c3⟩ := m_saysOf (n := clq n p 1) 470020945000 (cl_sm wf hp 1) hA2 (by omega)
    rw [← tx_m] at c3
    have fA3 := Fr_tr fA2 c2
    obtain ⟨A4, d1, d2, d3⟩ := m_saysOf (n := clq n p 2) 6578553 (cl_sm wf hp 2) c3 (by omega)
    rw [← tx_d] at d3
    rw [c1, ob_some, htd A3 fA3, ob_some, q2, d1, ob_some]
    exact fin A4 (Fr_tr fA3 d2) (by unfold ttC ttB; rw [if_neg q]; exact d3)
theorem p_title : pr_title Inv := by
  intro S g x1
  obtain ⟨n, w, u, tp, ft, al, ti, tl, im, rs⟩ := id g
  have hn := w.wf.1.1
  unfold fX10_title
  rcases px w.cw w.mr hn x1 with ⟨p, hp, rfl, e1, e2⟩ | ⟨e1, e2⟩
  · obtain ⟨U, u1, u2, u3⟩ := c_write w hp
    obtain ⟨n1, n2, n3⟩ := w.2.2.2.2.1.1 p hp
    have n1' : gJ S 4 0 (7 + p) = gB S 32 145 p := n1
    have hl := (tt_le w.wf hp (gB S 32 145 p)).2.2.2.2.2.2
    rw [n1'] at u3
    have eB : gB (sI U 11 0 140 0) 32 145 p = gB S 32 145 p := u2.b (c := 32) (a := 145) (by unfold XC; omega)
    have hM : MR (sI U 11 0 140 0) n := fun j hj => (u2.a (c := 29) (a := 142) (by unfold XC; omega)).trans (w.mr j hj)
    obtain ⟨V, v1, v2, v3⟩ := m_write w.wf hM hp (by rw [eB]; exact n2) (by rw [eB]; exact n3)
    rw [eB] at v1 v3
    rw [if_neg (show ¬ fX8_hasParish (0 + 3 + 1) (nI p) S = 0 from fun q => i10 (e1.symm.trans q)), show (0 : Nat) + 94 = 94 from rfl, show (0 : Nat) + 3 = 3 from rfl, u1, ob_some, u3.1]
    refine ⟨_, U, V, rfl, ?_, ?_⟩
    · unfold fX11_title fX11_title_s5
      rw [mp_yes w.wf hM hp, ob_some, if_neg i10]
      exact v1
    · have fA : Fr (fun k a => (a = 94 ∧ k = 1) ∨ a = 95 ∨ (a = 140 ∧ (k = 0 ∨ k = 31)) ∨ a = 149) S V := Fr_tr (Fr_sI (X := fun k a => (a = 94 ∧ k = 1) ∨ a = 95 ∨ (a = 140 ∧ (k = 0 ∨ k = 31)) ∨ a = 149) (Fr_mo u2 (fun k a q => by unfold XC at q; omega)) (by omega)) (Fr_mo v2 (fun k a q => by unfold XM at q; omega))
      have fB : Fr (fun k a => (a = 140 ∧ (k = 0 ∨ k = 31)) ∨ a = 149) U V := Fr_tr (Fr_sI (X := fun k a => (a = 140 ∧ (k = 0 ∨ k = 31)) ∨ a = 149) Fr_id (by omega)) (Fr_mo v2 (fun k a q => by unfold XM at q; omega))
      refine ⟨n, WI_fr fA (fun k a q x => by unfold fW at q; omega) w, UN_fr fA hn (fun k a q x => by unfold fU at q; omega) u, TP_fr fA (fun k a q x => by unfold fTp at q; omega) tp, FLT_fr fA (fun k a q x => by unfold fFt at q; omega) ft, AL_fr fA (fun k a q x => by unfold fAl at q; omega) al, ⟨(ttD n p (gB S 32 145 p)).length, by omega, (fB.i (by omega)).trans u3.1, v3.1, fun j hj => ?_⟩, TL_fr fA (fun k a q x => by unfold fTl at q; omega) tl, IM_fr fA (fun k a q x => by unfold fIm at q; omega) im, RS_fr fA (by omega) rs⟩
      rw [fB.a (by omega), u3.2 j hj, v3.2 j hj]
  · refine ⟨-1, S, sI S 11 0 140 0, if_pos (show fX8_hasParish (0 + 3 + 1) x1 S = 0 from e1), ?_, Inv_th g⟩
    unfold fX11_title fX11_title_s5
    have e3 : fX11_isParish 140 x1 (sI S 11 0 140 0) = some 0 := e2
    rw [e3, ob_some, if_pos rfl]
