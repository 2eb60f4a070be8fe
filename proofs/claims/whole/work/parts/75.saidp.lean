theorem m_isLeaf {S : St} {n : Nat → Nat} (wf : WFn n) (h : MR S n) {p l b : Nat} {g : Int32} (hp : p < n 0) (hl : l ≤ 8) (hb : b ≤ 999) (h2 : l = 2 → b < n 1) (h3 : l = 3 → b < n 0) (h4 : 4 ≤ l → g = 60 ∨ g = 61 ∨ g = 62) : fX11_isLeaf 140 (nI p) (nI l) g (nI b) S = some (b01 (lfB n p l b g)) := by
  have hn := wf.1
  obtain ⟨v, hW1, hW2, hcl⟩ := wf.2.1 p hp
  have hc : gA S 29 (140 + 2) (54 + p) = nI (n (54 + p)) := h _ (by omega)
  have hhd : fX11_isHeld 140 (nI p) S = some (b01 (heldB n p)) := by
    rw [m_isHeld, h 53 (by omega)]
    unfold heldB
    by_cases q : ((nI (n 53) >>> (nI p &&& 31)) &&& 1) = 1
    · rw [if_pos q, decide_eq_true q]; rfl
    · rw [if_neg q, decide_eq_false q]; rfl
  have hpo : ∀ k, k ≤ 2 → fX11_partOf 140 (nI p) (nI k) S = some (nI (clq n p (k + 1))) := fun k hk => m_partOf wf h hp hk
  unfold fX11_isLeaf
  match l, hl with
  | 0, _ =>
    rw [if_pos (show nI 0 = 0 from rfl), m_isBetween wf h hp, ob_some, nar01]; rfl
  | 1, _ =>
    rw [if_neg (show ¬ nI 1 = 0 by decide), if_pos (show nI 1 = 1 from rfl), hhd, ob_some, nar01]; rfl
  | 2, _ =>
    have hb1 := h2 rfl
    obtain ⟨f1, f2, f3⟩ := wf.2.2 b hb1
    have hfo : fX11_fallsIn 140 (nI b) 0 S = some (b01 (fallB n b 0)) := m_fallsIn wf h (k := 0) hb1 (by omega)
    have e34 : gA S 29 (140 + 2) (34 + b) = nI (n (34 + b)) := h _ (by omega)
    rw [if_neg (show ¬ nI 2 = 0 by decide), if_neg (show ¬ nI 2 = 1 by decide), if_pos (show nI 2 = 2 from rfl), show (34 : Int32) + nI b = nI (34 + b) from nI_add 34 b, igd (by omega) (by decide), nI_clamp (by omega), e34, hfo, ob_some, if01]
    show _ = some (b01 (decide (n (34 + b) = p) && fallB n b 0))
    by_cases q : n (34 + b) = p
    · rw [if_pos (congrArg nI q), decide_eq_true q, Bool.true_and]
      cases fallB n b 0 <;> rfl
    · rw [if_neg (fun r => q ((nI_eq (by omega) (by omega)).mp r)), decide_eq_false q]; rfl
  | 3, _ =>
    have hb0 := h3 rfl
    have k1 := dt_lt v (n (54 + p))
    have k2 := dt_lt (wf.2.1 b hb0).1 (n (54 + b))
    rw [if_neg (show ¬ nI 3 = 0 by decide), if_neg (show ¬ nI 3 = 1 by decide), if_neg (show ¬ nI 3 = 2 by decide), if_pos (show nI 3 = 3 from rfl), m_today wf h hp, ob_some, m_today wf h hb0, ob_some]
    show _ = some (b01 (decide (dtq n p (n (54 + p)) = dtq n b (n (54 + b)))))
    by_cases q : dtq n p (n (54 + p)) = dtq n b (n (54 + b))
    · rw [if_pos (congrArg nI q), decide_eq_true q]; rfl
    · rw [if_neg (fun r => q ((nI_eq (by unfold dtq; omega) (by unfold dtq; omega)).mp r)), decide_eq_false q]; rfl
  | 4, _ =>
    have hy := m_yearBy (c := n (54 + p)) (h.mp (p := p) (by omega)) v (by omega) (by omega)
    rw [if_neg (show ¬ nI 4 = 0 by decide), if_neg (show ¬ nI 4 = 1 by decide), if_neg (show ¬ nI 4 = 2 by decide), if_neg (show ¬ nI 4 = 3 by decide), if_pos (show nI 4 = 4 from rfl), show (54 : Int32) + nI p = nI (54 + p) from nI_add 54 p, igd (by omega) (by decide), nI_clamp (by omega), hc, hy, ob_some, m_cmp (h4 (by omega))]; rfl
  | 5, _ =>
    have e0 : fX11_partOf 140 (nI p) (nI 5 - 5) S = some (nI (clq n p 1)) := hpo 0 (by omega)
    rw [if_neg (show ¬ nI 5 = 0 by decide), if_neg (show ¬ nI 5 = 1 by decide), if_neg (show ¬ nI 5 = 2 by decide), if_neg (show ¬ nI 5 = 3 by decide), if_neg (show ¬ nI 5 = 4 by decide), if_neg (show ¬ nI 5 = 8 by decide), e0, ob_some, m_cmp (h4 (by omega))]; rfl
  | 6, _ =>
    have e0 : fX11_partOf 140 (nI p) (nI 6 - 5) S = some (nI (clq n p 2)) := hpo 1 (by omega)
    rw [if_neg (show ¬ nI 6 = 0 by decide), if_neg (show ¬ nI 6 = 1 by decide), if_neg (show ¬ nI 6 = 2 by decide), if_neg (show ¬ nI 6 = 3 by decide), if_neg (show ¬ nI 6 = 4 by decide), if_neg (show ¬ nI 6 = 8 by decide), e0, ob_some, m_cmp (h4 (by omega))]; rfl
  | 7, _ =>
    have e0 : fX11_partOf 140 (nI p) (nI 7 - 5) S = some (nI (clq n p 3)) := hpo 2 (by omega)
    rw [if_neg (show ¬ nI 7 = 0 by decide), if_neg (show ¬ nI 7 = 1 by decide), if_neg (show ¬ nI 7 = 2 by decide), if_neg (show ¬ nI 7 = 3 by decide), if_neg (show ¬ nI 7 = 4 by decide), if_neg (show ¬ nI 7 = 8 by decide), e0, ob_some, m_cmp (h4 (by omega))]; rfl
  | 8, _ =>
    rw [if_neg (show ¬ nI 8 = 0 by decide), if_neg (show ¬ nI 8 = 1 by decide), if_neg (show ¬ nI 8 = 2 by decide), if_neg (show ¬ nI 8 = 3 by decide), if_neg (show ¬ nI 8 = 4 by decide), if_pos (show nI 8 = 8 from rfl), m_cmp (h4 (by omega))]; rfl
/-- the truth of step i of the sentence, of parish p -/
def lfS (S : St) (n : Nat → Nat) (p i : Nat) : Bool := lfB n p ((gA S 18 23 i).toNatClampNeg - 4) (gA S 20 25 i).toNatClampNeg (gA S 19 24 i)
theorem leaf_of {n0 n1 : Nat} {s g v c0 c1 c2 : Int32} (h : stepOk n0 n1 s g v c0 c1 c2) (q1 : ¬ s = 1) (q2 : ¬ s = 2) (q3 : ¬ s = 3) : ∃ l b : Nat, l ≤ 8 ∧ s = nI (l + 4) ∧ c0 = nI l ∧ v = nI b ∧ c2 = nI b ∧ b ≤ 999 ∧ (l = 2 → b < n1) ∧ (l = 3 → b < n0) ∧ (4 ≤ l → g = c1 ∧ (g = 60 ∨ g = 61 ∨ g = 62)) := by
  rcases h with ⟨h, -⟩ | ⟨h, -⟩ | ⟨h, -⟩ | h
  · exact absurd h q1
  · exact absurd h q2
  · exact absurd h q3
  · exact h
theorem ev_step {st : Nat → Int32} {lf : Nat → Bool} {i d : Nat} (h : dptS st (i + 1) = some d) : (st i = 1 ∧ ∃ b r, ev st lf i = b :: r ∧ ev st lf (i + 1) = (!b) :: r) ∨ (st i = 2 ∧ ∃ b c r, ev st lf i = b :: c :: r ∧ ev st lf (i + 1) = (c && b) :: r) ∨ (st i = 3 ∧ ∃ b c r, ev st lf i = b :: c :: r ∧ ev st lf (i + 1) = (c || b) :: r) ∨ (¬ st i = 1 ∧ ¬ st i = 2 ∧ ¬ st i = 3 ∧ ev st lf (i + 1) = lf i :: ev st lf i) := by
  have h' : (match dptS st i with | none => none | some d => if st i = 1 then (if 1 ≤ d then some d else none) else if st i = 2 ∨ st i = 3 then (if 2 ≤ d then some (d - 1) else none) else some (d + 1)) = some d := h
  have e : ev st lf (i + 1) = if st i = 1 then (match ev st lf i with | b :: r => (!b) :: r | [] => []) else if st i = 2 then (match ev st lf i with | b :: c :: r => (c && b) :: r | _ => []) else if st i = 3 then (match ev st lf i with | b :: c :: r => (c || b) :: r | _ => []) else lf i :: ev st lf i := rfl
  cases hd : dptS st i with
  | none => rw [hd] at h'; cases h'
  | some k =>
    rw [hd] at h'
    have hl := ev_len (lf := lf) i k hd
    have h'' : (if st i = 1 then (if 1 ≤ k then some k else none) else if st i = 2 ∨ st i = 3 then (if 2 ≤ k then some (k - 1) else none) else some (k + 1)) = some d := h'
    by_cases q1 : st i = 1
    · rw [if_pos q1] at h'' e
      by_cases r : 1 ≤ k
      · cases hev : ev st lf i with
        | nil => rw [hev] at hl; exact absurd hl (by show ¬ 0 = _; omega)
        | cons b t => rw [hev] at e; exact Or.inl ⟨q1, b, t, rfl, e⟩
      · rw [if_neg r] at h''; cases h''
    · rw [if_neg q1] at h'' e
      by_cases q2 : st i = 2 ∨ st i = 3
      · rw [if_pos q2] at h''
        by_cases r : 2 ≤ k
        · cases hev : ev st lf i with
          | nil => rw [hev] at hl; exact absurd hl (by show ¬ 0 = _; omega)
          | cons b t =>
            cases t with
            | nil => rw [hev] at hl; exact absurd hl (by show ¬ 1 = _; omega)
            | cons c t =>
              rw [hev] at e
              by_cases q3 : st i = 2
              · rw [if_pos q3] at e; exact Or.inr (Or.inl ⟨q3, b, c, t, rfl, e⟩)
              · rw [if_neg q3, if_pos (q2.resolve_left q3)] at e; exact Or.inr (Or.inr (Or.inl ⟨q2.resolve_left q3, b, c, t, rfl, e⟩))
        · rw [if_neg r] at h''; cases h''
      · rw [if_neg (fun r => q2 (Or.inl r)), if_neg (fun r => q2 (Or.inr r))] at e
        exact Or.inr (Or.inr (Or.inr ⟨q1, fun r => q2 (Or.inl r), fun r => q2 (Or.inr r), e⟩))
theorem l_true {S : St} {n : Nat → Nat} (w : WI S n) {p k : Nat} (hp : p < n 0) (k1 : k ≤ 40) (k2 : gI S 5 3 22 = nI k) (k5 : ∀ i, i < k → stepOk (n 0) (n 1) (gA S 18 23 i) (gA S 19 24 i) (gA S 20 25 i) (gA S 29 142 (70 + 3 * i)) (gA S 29 142 (71 + 3 * i)) (gA S 29 142 (72 + 3 * i))) (k6 : ∀ i, i ≤ k → ∃ d, dptS (gA S 18 23) i = some d ∧ d ≤ 20) : ∀ m i u : Nat, i + m = k → m < u → fX5_isTrueOf_h5 22 3 (nI p) u (nI (vl (ev (gA S 18 23) (lfS S n p) i))) (nI i) S = some (b01 (decide (vl (ev (gA S 18 23) (lfS S n p) k) % 2 = 1))) := by
  intro m
  induction m with
  | zero =>
    intro i u hi hu
    obtain ⟨u, rfl⟩ : ∃ k', u = k' + 1 := ⟨u - 1, by omega⟩
    obtain ⟨d, d1, d2⟩ := k6 k (Nat.le_refl _)
    have hlen := ev_len (lf := lfS S n p) k d d1
    have hv := vl_20 (l := ev (gA S 18 23) (lfS S n p) k) (by omega)
    rw [fX5_isTrueOf_h5]; unfold fX5_isTrueOf_s5
    rw [show i = k by omega, k2, if_pos (nI_le (Nat.le_refl _) (by omega)), pk_andN (by omega) 1 (by decide), Nat.pow_one]
    by_cases q : vl (ev (gA S 18 23) (lfS S n p) k) % 2 = 1
    · rw [q, if_pos (show nI 1 = 1 from rfl), decide_eq_true rfl]; rfl
    · rw [show vl (ev (gA S 18 23) (lfS S n p) k) % 2 = 0 by omega, if_neg (show ¬ nI 0 = 1 by decide), decide_eq_false (by decide)]; rfl
  | succ m ih =>
    intro i u hi hu
    obtain ⟨u, rfl⟩ : ∃ k', u = k' + 1 := ⟨u - 1, by omega⟩
    obtain ⟨d, d1, d2⟩ := k6 i (by omega)
    obtain ⟨e, e1, e2⟩ := k6 (i + 1) (by omega)
    have hlen := ev_len (lf := lfS S n p) i d d1
    have hlen2 := ev_len (lf := lfS S n p) (i + 1) e e1
    have nx := ih (i + 1) u (by omega) (by omega)
    rw [fX5_isTrueOf_h5]; unfold fX5_isTrueOf_s5 fX5_isTrueOf_s29 fX5_isTrueOf_s52 fX5_isTrueOf_s74 fX5_isTrueOf_s98
    rw [k2, if_neg (nI_ge (by omega) (by omega))]
    repeat rw [igd (show i < 40 by omega) (by decide)]
    rw [nI_clamp (by omega), show (22 : Nat) + 1 = 23 from rfl, nI_1]
    rcases ev_step (lf := lfS S n p) e1 with ⟨q, b, r, v1, v2⟩ | ⟨q, b, c, r, v1, v2⟩ | ⟨q, b, c, r, v1, v2⟩ | ⟨q1, q2, q3, v2⟩
    · rw [v2] at nx
      rw [if_pos q, v1, o_not (by rw [← v1]; omega)]; exact nx
    · rw [v2] at nx
      rw [q, if_neg (show ¬ (2 : Int32) = 1 by decide), if_pos rfl, v1, o_and (by rw [← v1]; omega)]; exact nx
    · rw [v2] at nx
      rw [q, if_neg (show ¬ (3 : Int32) = 1 by decide), if_neg (show ¬ (3 : Int32) = 2 by decide), if_pos rfl, v1, o_or (by rw [← v1]; omega)]; exact nx
    · rw [v2] at nx hlen2
      obtain ⟨l, b, l1, l2, l3, l4, l5, l6, l7, l8, l9⟩ := leaf_of (k5 i (by omega)) q1 q2 q3
      have hso := c_isSo w hp (show i < 40 by omega) l1 l2 l4 rfl l6 l7 l8 (fun h => (l9 h).2)
      have hlf : lfS S n p i = lfB n p l b (gA S 19 24 i) := by
        unfold lfS; rw [l2, l4, nI_clamp (by omega), nI_clamp (by omega), Nat.add_sub_cancel]
      rw [← hlf] at hso
      rw [if_neg q1, if_neg q2, if_neg q3, hso, ob_some, if01]
      have ol := o_leaf (b := lfS S n p i) (r := ev (gA S 18 23) (lfS S n p) i) (by omega)
      cases hb : lfS S n p i with
      | false => rw [hb] at ol nx; rw [if_neg (by decide)]; rw [show (0 : Int32) = b01 false from rfl, ol]; exact nx
      | true => rw [hb] at ol nx; rw [if_pos rfl]; rw [show (1 : Int32) = b01 true from rfl]; rw [show (b01 true &&& 31 : Int32) = 1 &&& 31 from rfl, ol]; exact nx
def STk (T : St) : List Bool → Prop
  | [] => True
  | b :: r => gA T 39 152 r.length = b01 b ∧ STk T r
theorem STk_set {T : St} {l : List Bool} {j : Nat} {v : Int32} (h : l.length ≤ j) (g : STk T l) : STk (sA T 39 152 j v) l := by
  induction l with
  | nil => exact trivial
  | cons b r ih =>
    have h' : r.length + 1 ≤ j := h
    exact ⟨(gA_j (by omega)).trans g.1, ih (by omega) g.2⟩
theorem l_said {S : St} {n : Nat → Nat} (wf : WFn n) {p k : Nat} (hp : p < n 0) (k1 : k ≤ 40) (st : Nat → Int32) (lf : Nat → Bool) (g3 : Nat → Int32) (L B : Nat → Nat) (hM : MR S n) (k3 : gA S 29 142 69 = nI k) (k5 : ∀ i, i < k → (st i = 1 ∧ gA S 29 142 (70 + 3 * i) = 20) ∨ (st i = 2 ∧ gA S 29 142 (70 + 3 * i) = 21) ∨ (st i = 3 ∧ gA S 29 142 (70 + 3 * i) = 22) ∨ (¬ st i = 1 ∧ ¬ st i = 2 ∧ ¬ st i = 3 ∧ ∃ l b : Nat, l ≤ 8 ∧ gA S 29 142 (70 + 3 * i) = nI l ∧ gA S 29 142 (72 + 3 * i) = nI b ∧ b ≤ 999 ∧ (l = 2 → b < n 1) ∧ (l = 3 → b < n 0) ∧ (4 ≤ l → gA S 29 142 (71 + 3 * i) = 60 ∨ gA S 29 142 (71 + 3 * i) = 61 ∨ gA S 29 142 (71 + 3 * i) = 62) ∧ lf i = lfB n p l b (gA S 29 142 (71 + 3 * i)))) (k6 : ∀ i, i ≤ k → ∃ d, dptS st i = some d ∧ d ≤ 20) : ∀ (m i u : Nat) (T : St), i + m = k → m < u → Fr (fun _ a => a = 152) S T → STk T (ev st lf i) → ∃ U, fX11_isSaid_h4 140 (nI p) u (nI (ev st lf i).length) (nI i) T = some (vp_nar .boolean (gA U 39 152 0), U) ∧ Fr (fun _ a => a = 152) S U ∧ STk U (ev st lf k) := by
  intro m
  induction m with
  | zero =>
    intro i u T hi hu fr hs
    obtain ⟨u, rfl⟩ : ∃ k', u = k' + 1 := ⟨u - 1, by omega⟩
    rw [fX11_isSaid_h4]; unfold fX11_isSaid_s4
    rw [show gA T 29 (140 + 2) 69 = nI k from (fr.a (by omega)).trans k3, if_pos (nI_le (by omega) (by omega))]
    exact ⟨T, rfl, fr, by rw [show k = i by omega]; exact hs⟩
  | succ m ih =>
    intro i u T hi hu fr hs
    obtain ⟨u, rfl⟩ : ∃ k', u = k' + 1 := ⟨u - 1, by omega⟩
    obtain ⟨d, d1, d2⟩ := k6 i (by omega)
    obtain ⟨e, e1, e2⟩ := k6 (i + 1) (by omega)
    have hlen := ev_len (lf := lf) i d d1
    have hlen2 := ev_len (lf := lf) (i + 1) e e1
    have g70 : gA T 29 (140 + 2) (70 + 3 * i) = gA S 29 142 (70 + 3 * i) := fr.a (by omega)
    have g71 : gA T 29 (140 + 2) (70 + 3 * i + 1) = gA S 29 142 (71 + 3 * i) := (fr.a (by omega)).trans (by rw [show 70 + 3 * i + 1 = 71 + 3 * i by omega])
    have g72 : gA T 29 (140 + 2) (70 + 3 * i + 2) = gA S 29 142 (72 + 3 * i) := (fr.a (by omega)).trans (by rw [show 70 + 3 * i + 2 = 72 + 3 * i by omega])
    have hMT : MR T n := fun j hj => (fr.a (by omega)).trans (hM j hj)
    have nx := ih (i + 1) u
    rw [fX11_isSaid_h4]; unfold fX11_isSaid_s4 fX11_isSaid_s23 fX11_isSaid_s59 fX11_isSaid_s86 fX11_isSaid_s162 fX11_isSaid_s201 fX11_isSaid_s204
    rw [show gA T 29 (140 + 2) 69 = nI k from (fr.a (by omega)).trans k3, if_neg (nI_ge (by omega) (by omega)), show (3 : Int32) = nI 3 from rfl, pk_mul, show (70 : Int32) = nI 70 from rfl, nI_add, show (140 : Nat) + 12 = 152 from rfl]
    repeat rw [igd (show 70 + 3 * i < 250 by omega) (by decide)]
    rw [nI_clamp (show 70 + 3 * i < 2 ^ 31 by omega), g70]
    rcases ev_step (lf := lf) e1 with ⟨q, b, r, v1, v2⟩ | ⟨q, b, c, r, v1, v2⟩ | ⟨q, b, c, r, v1, v2⟩ | ⟨q1, q2, q3, v2⟩
    · have hc : gA S 29 142 (70 + 3 * i) = 20 := by
        rcases k5 i (by omega) with ⟨-, h⟩ | ⟨h, -⟩ | ⟨h, -⟩ | ⟨h, -⟩
        · exact h
        · rw [q] at h; exact absurd h (by decide)
        · rw [q] at h; exact absurd h (by decide)
        · exact absurd q h
      rw [v1] at hs hlen
      have hl1 : r.length + 1 = d := hlen
      have nx' := nx (sA T 39 152 r.length (b01 (!b))) (by omega) (by omega) (Fr_sA fr rfl) (by rw [v2]; exact ⟨gA_s, STk_set (Nat.le_refl _) hs.2⟩)
      rw [v2] at nx'
      have nx'' : ∃ U, fX11_isSaid_h4 140 (nI p) u (nI (r.length + 1)) (nI (i + 1)) (sA T 39 152 r.length (b01 (!b))) = some (vp_nar .boolean (gA U 39 152 0), U) ∧ Fr (fun _ a => a = 152) S U ∧ STk U (ev st lf k) := nx'
      rw [v1, show (b :: r).length = r.length + 1 from rfl, hc, if_pos rfl, nI_pred]
      repeat rw [igd (show r.length < 45 by omega) (by decide)]
      rw [nI_clamp (by omega), hs.1, if01, nI_1, vz0, vz1]
      cases b with
      | false => rw [if_neg (by decide)]; exact nx''
      | true => rw [if_pos rfl]; exact nx''
    · have hc : gA S 29 142 (70 + 3 * i) = 21 := by
        rcases k5 i (by omega) with ⟨h, -⟩ | ⟨-, h⟩ | ⟨h, -⟩ | ⟨-, h, -⟩
        · rw [q] at h; exact absurd h (by decide)
        · exact h
        · rw [q] at h; exact absurd h (by decide)
        · exact absurd q h
      rw [v1] at hs hlen
      have hl1 : r.length + 2 = d := hlen
      have nx' := nx (sA T 39 152 r.length (b01 (c && b))) (by omega) (by omega) (Fr_sA fr rfl) (by rw [v2]; exact ⟨gA_s, STk_set (Nat.le_refl _) hs.2.2⟩)
      rw [v2] at nx'
      have nx'' : ∃ U, fX11_isSaid_h4 140 (nI p) u (nI (r.length + 1)) (nI (i + 1)) (sA T 39 152 r.length (b01 (c && b))) = some (vp_nar .boolean (gA U 39 152 0), U) ∧ Fr (fun _ a => a = 152) S U ∧ STk U (ev st lf k) := nx'
      have s0 : gA T 39 152 (r.length + 1) = b01 b := hs.1
      have s1 : gA T 39 152 r.length = b01 c := hs.2.1
      rw [v1, show (b :: c :: r).length = r.length + 1 + 1 from rfl, hc, if_neg (show ¬ (21 : Int32) = 20 by decide), if_pos rfl, if_pos rfl, pk_m1, nI_pred]
      repeat rw [igd (show r.length < 45 by omega) (by decide)]
      repeat rw [igd (show r.length + 1 < 45 by omega) (by decide)]
      rw [nI_clamp (show r.length < 2 ^ 31 by omega), nI_clamp (show r.length + 1 < 2 ^ 31 by omega), s0, s1, if01, if01, nI_1, vz0, vz1]
      cases b <;> cases c
      · exact nx''
      · exact nx''
      · exact nx''
      · exact nx''
    · have hc : gA S 29 142 (70 + 3 * i) = 22 := by
        rcases k5 i (by omega) with ⟨h, -⟩ | ⟨h, -⟩ | ⟨-, h⟩ | ⟨-, -, h, -⟩
        · rw [q] at h; exact absurd h (by decide)
        · rw [q] at h; exact absurd h (by decide)
        · exact h
        · exact absurd q h
      rw [v1] at hs hlen
      have hl1 : r.length + 2 = d := hlen
      have nx' := nx (sA T 39 152 r.length (b01 (c || b))) (by omega) (by omega) (Fr_sA fr rfl) (by rw [v2]; exact ⟨gA_s, STk_set (Nat.le_refl _) hs.2.2⟩)
      rw [v2] at nx'
      have nx'' : ∃ U, fX11_isSaid_h4 140 (nI p) u (nI (r.length + 1)) (nI (i + 1)) (sA T 39 152 r.length (b01 (c || b))) = some (vp_nar .boolean (gA U 39 152 0), U) ∧ Fr (fun _ a => a = 152) S U ∧ STk U (ev st lf k) := nx'
      have s0 : gA T 39 152 (r.length + 1) = b01 b := hs.1
      have s1 : gA T 39 152 r.length = b01 c := hs.2.1
      rw [v1, show (b :: c :: r).length = r.length + 1 + 1 from rfl, hc, if_neg (show ¬ (22 : Int32) = 20 by decide), if_neg (show ¬ (22 : Int32) = 21 by decide), if_pos rfl, if_neg (show ¬ (22 : Int32) = 21 by decide), pk_m1, nI_pred]
      repeat rw [igd (show r.length < 45 by omega) (by decide)]
      repeat rw [igd (show r.length + 1 < 45 by omega) (by decide)]
      rw [nI_clamp (show r.length < 2 ^ 31 by omega), nI_clamp (show r.length + 1 < 2 ^ 31 by omega), s0, s1, if01, if01, nI_1, vz0, vz1]
      cases b <;> cases c
      · exact nx''
      · exact nx''
      · exact nx''
      · exact nx''
    · obtain ⟨l, b, l1, l3, l5, l6, l7, l8, l9, l10⟩ : ∃ l b : Nat, l ≤ 8 ∧ gA S 29 142 (70 + 3 * i) = nI l ∧ gA S 29 142 (72 + 3 * i) = nI b ∧ b ≤ 999 ∧ (l = 2 → b < n 1) ∧ (l = 3 → b < n 0) ∧ (4 ≤ l → gA S 29 142 (71 + 3 * i) = 60 ∨ gA S 29 142 (71 + 3 * i) = 61 ∨ gA S 29 142 (71 + 3 * i) = 62) ∧ lf i = lfB n p l b (gA S 29 142 (71 + 3 * i)) := by
        rcases k5 i (by omega) with ⟨h, -⟩ | ⟨h, -⟩ | ⟨h, -⟩ | ⟨-, -, -, h⟩
        · exact absurd h q1
        · exact absurd h q2
        · exact absurd h q3
        · exact h
      have ne : ∀ j : Nat, j = 20 ∨ j = 21 ∨ j = 22 → ¬ nI l = nI j := fun j hj r => by have := (nI_eq (by omega) (by omega)).mp r; omega
      have hlv := m_isLeaf wf hMT hp l1 l6 l7 l8 l9
      rw [← l10] at hlv
      have nx' := nx (sA T 39 152 (ev st lf i).length (b01 (lf i))) (by omega) (by omega) (Fr_sA fr rfl) (by rw [v2]; exact ⟨gA_s, STk_set (Nat.le_refl _) hs⟩)
      rw [v2] at nx'
      have nx'' : ∃ U, fX11_isSaid_h4 140 (nI p) u (nI ((ev st lf i).length + 1)) (nI (i + 1)) (sA T 39 152 (ev st lf i).length (b01 (lf i))) = some (vp_nar .boolean (gA U 39 152 0), U) ∧ Fr (fun _ a => a = 152) S U ∧ STk U (ev st lf k) := nx'
      rw [l3, if_neg (show ¬ nI l = 20 from ne 20 (by omega)), if_neg (show ¬ nI l = 21 from ne 21 (by omega)), if_neg (show ¬ nI l = 22 from ne 22 (by omega)), nI_1, show nI (70 + 3 * i) + 2 = nI (70 + 3 * i + 2) from nI_add _ 2, igd (show 70 + 3 * i + 1 < 250 by omega) (by decide), igd (show 70 + 3 * i + 2 < 250 by omega) (by decide), nI_clamp (show 70 + 3 * i + 1 < 2 ^ 31 by omega), nI_clamp (show 70 + 3 * i + 2 < 2 ^ 31 by omega), g71, g72, l5, hlv, ob_some, igd (show (ev st lf i).length < 45 by omega) (by decide), nI_clamp (by omega), nI_1, nI_1, nar01]
      exact nx''
