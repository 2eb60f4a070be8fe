theorem nI0 : nI 0 = 0 := rfl
theorem sgn_kind {w : Nat} (h : w < 128) (S : St) (h1 : lett w = false) (h2 : digt w = false) : (fX6_kindOfSign (nI w) S = nI w ∧ (w = 40 ∨ w = 41 ∨ w = 59 ∨ w = 60 ∨ w = 61 ∨ w = 62)) ∨ (fX6_kindOfSign (nI w) S = 3 ∧ ¬ (w = 40 ∨ w = 41 ∨ w = 59 ∨ w = 60 ∨ w = 61 ∨ w = 62)) := by
  have : ∀ w : Fin 128, ((if nI w.val < (59 : Int32) then (if nI w.val = (40 : Int32) then nI w.val else if nI w.val = 41 then nI w.val else 3) else if nI w.val ≤ 62 then nI w.val else (if nI w.val = (40 : Int32) then nI w.val else if nI w.val = 41 then nI w.val else 3)) = nI w.val ∧ (w.val = 40 ∨ w.val = 41 ∨ w.val = 59 ∨ w.val = 60 ∨ w.val = 61 ∨ w.val = 62)) ∨ ((if nI w.val < (59 : Int32) then (if nI w.val = (40 : Int32) then nI w.val else if nI w.val = 41 then nI w.val else 3) else if nI w.val ≤ 62 then nI w.val else (if nI w.val = (40 : Int32) then nI w.val else if nI w.val = 41 then nI w.val else 3)) = 3 ∧ ¬ (w.val = 40 ∨ w.val = 41 ∨ w.val = 59 ∨ w.val = 60 ∨ w.val = 61 ∨ w.val = 62)) := by decide +kernel
  exact this ⟨w, h⟩
theorem sgn_neg {x : Int32} (h : x < 0) (S : St) : fX6_kindOfSign x S = 3 := by
  unfold fX6_kindOfSign fX6_kindOfSign_s12
  rw [if_pos (show x < 59 from Int32.lt_trans h (by decide)), if_neg (fun q => by rw [q] at h; exact absurd h (by decide)), if_neg (fun q => by rw [q] at h; exact absurd h (by decide))]
/-- a sign, or a byte that is none -/
def sgT (w : Nat) : Int32 := if w = 40 ∨ w = 41 ∨ w = 59 ∨ w = 60 ∨ w = 61 ∨ w = 62 then 3 else 4
theorem s80_sign {B : St} {w : Nat} (hw : w < 256) (hp : fX11_peek 140 B = some (nI w)) (h1 : lett w = false) (h2 : digt w = false) : fX11_step_s80 140 B = fX11_step_s148 140 (nI w) (sI B 11 11 140 (sgT w)) := by
  unfold fX11_step_s80
  rw [hp, ob_some, if_pos (show (0 : Int32) ≤ nI w from nI_pos' (by omega)), m_small w hw, m_digit w hw, h1, h2, if_pos (show b01 false = 0 from rfl), if_pos (show b01 false = 0 from rfl)]
  have key : ∀ w : Fin 256, (if nI w.val = (59 : Int32) then (3 : Int32) else if nI w.val = 40 then 3 else if nI w.val = 41 then 3 else if nI w.val < 60 then 4 else if 62 < nI w.val then 4 else 3) = sgT w.val := by decide +kernel
  rw [← key ⟨w, hw⟩]
  by_cases a1 : nI w = (59 : Int32)
  · rw [if_pos a1, if_pos a1]
  rw [if_neg a1, if_neg a1]
  by_cases a2 : nI w = (40 : Int32)
  · rw [if_pos a2, if_pos a2]
  rw [if_neg a2, if_neg a2]
  by_cases a3 : nI w = (41 : Int32)
  · rw [if_pos a3, if_pos a3]
  rw [if_neg a3, if_neg a3]
  by_cases a4 : nI w < (60 : Int32)
  · rw [if_pos a4, if_pos a4]
  rw [if_neg a4, if_neg a4]
  by_cases a5 : (62 : Int32) < nI w
  · rw [if_pos a5, if_pos a5]
  rw [if_neg a5, if_neg a5]
theorem s80_run {B : St} {w : Nat} (hw : w < 256) (hp : fX11_peek 140 B = some (nI w)) (h : lett w = true ∨ digt w = true) : fX11_step_s80 140 B = fX11_step_h181 140 NN (b01 (lett w)) 1 (sI (sJ B 11 17 140 0) 11 14 140 0) := by
  have e : fX11_step_s164 140 (nI w) B = fX11_step_h181 140 NN (b01 (lett w)) 1 (sI (sJ B 11 17 140 0) 11 14 140 0) := by
    unfold fX11_step_s164 fX11_step_s169 fX11_step_s176
    rw [m_small w hw]
  unfold fX11_step_s80
  rw [hp, ob_some, if_pos (show (0 : Int32) ≤ nI w from nI_pos' (by omega)), m_small w hw, m_digit w hw, e]
  cases hl : lett w with
  | true => rw [if_neg (show ¬ b01 true = 0 by decide)]
  | false =>
    have hd : digt w = true := h.resolve_left (by rw [hl]; decide)
    rw [if_pos (show b01 false = 0 from rfl), hd, if_neg (show ¬ b01 true = 0 by decide)]
/-- behind the blanks -/
theorem l_tok {C R A B : St} {L M s : Nat} (tb : TB C R L M) (fA : Fr XT C A) (fB : Fr XS R B) (hs : s ≤ L) (h3 : gI A 6 3 1 = nI s) (h4 : gI B 11 4 140 = nI s) : ∃ A' B', fX6_advance_s68 1 A = some A' ∧ fX11_step_s39 140 (sI B 11 12 140 (gI B 11 4 140)) = some B' ∧ Fr XT C A' ∧ Fr XS R B' ∧ ∃ q', s ≤ q' ∧ (gI A' 6 5 1 = 0 ∨ gI A' 6 5 1 = 3 ∨ s < q') ∧ Tk A' B' L q' := by
  obtain ⟨hL, hM, t1, t2, t3, t4, t5⟩ := id tb
  have z1 : gI A 6 1 1 = nI L := (fA.i (by unfold XT; omega)).trans t1
  have z2 : gI A 6 2 1 = nI M := (fA.i (by unfold XT; omega)).trans t3
  have x3 : XT 3 1 := by unfold XT; omega
  have x4 : XT 4 1 := by unfold XT; omega
  have x5 : XT 5 1 := by unfold XT; omega
  have fB2 : Fr XS R (sI (sI B 11 12 140 (nI s)) 11 13 140 0) := Fr_sI (Fr_sI fB (by unfold XS; omega)) (by unfold XS; omega)
  have y3 : gI (sI (sI B 11 12 140 (nI s)) 11 13 140 0) 11 3 140 = nI L := (fB2.i (by unfold XS; omega)).trans t2
  have y5 : gI (sI (sI B 11 12 140 (nI s)) 11 13 140 0) 11 5 140 = nI M := (fB2.i (by unfold XS; omega)).trans t4
  have y4 : gI (sI (sI B 11 12 140 (nI s)) 11 13 140 0) 11 4 140 = nI s := (gI_k (by decide)).trans ((gI_k (by decide)).trans h4)
  have y12 : gI (sI (sI B 11 12 140 (nI s)) 11 13 140 0) 11 12 140 = nI s := (gI_k (by decide)).trans gI_s
  have y13 : gI (sI (sI B 11 12 140 (nI s)) 11 13 140 0) 11 13 140 = 0 := gI_s
  have emin : (if nI M < nI L then nI M else nI L) = nI (min M L) := by
    rcases Nat.lt_or_ge M L with q | q
    · rw [if_pos (nI_lt q (by omega)), Nat.min_eq_left (by omega)]
    · rw [if_neg (Int32.not_lt.mpr (nI_le q (by omega))), Nat.min_eq_right q]
  unfold fX6_advance_s68 fX6_advance_s80 fX6_advance_s93 fX6_advance_s98 fX11_step_s39 fX11_step_s44 fX11_step_s74
  rw [h4, y3, y5, y4, z1, z2, emin, h3]
  rcases Nat.lt_or_ge s (min M L) with q | q
  · rw [if_pos (nI_lt q (by omega))]
    have hr : (if nI L ≤ nI M then fX11_step_s80 140 (sI (sI B 11 12 140 (nI s)) 11 13 140 0) else if nI s < nI M then fX11_step_s80 140 (sI (sI B 11 12 140 (nI s)) 11 13 140 0) else some (sI (sI (sI (sI B 11 12 140 (nI s)) 11 13 140 0) 11 12 140 (nI M)) 11 11 140 4)) = fX11_step_s80 140 (sI (sI B 11 12 140 (nI s)) 11 13 140 0) := by
      rw [if_pos (nI_lt (show s < M by omega) (by omega)), ite_self]
    rw [hr]
    obtain ⟨b1, b2⟩ := t5 s (by omega)
    have hpk := m_peek hL y3 y4 (by omega)
    rw [show gA (sI (sI B 11 12 140 (nI s)) 11 13 140 0) 28 141 s = gA C 12 2 s from (fB2.a (by unfold XS; omega)).trans b1.symm] at hpk
    have fA2 : Fr XT C (sI (sI (sJ A 6 6 1 0) 6 7 1 0) 6 4 1 (nI s)) := Fr_sI (Fr_sI (Fr_sJ fA (by unfold XT; omega)) (by unfold XT; omega)) x4
    unfold fX6_advance_s128 fX6_advance_s133
    rw [show gI (sI (sJ A 6 6 1 0) 6 7 1 0) 6 3 1 = nI s from (gI_k (by decide)).trans h3]
    have v3 : gI (sI (sI (sJ A 6 6 1 0) 6 7 1 0) 6 4 1 (nI s)) 6 3 1 = nI s := (gI_k (by decide)).trans ((gI_k (by decide)).trans h3)
    have v1 : gI (sI (sI (sJ A 6 6 1 0) 6 7 1 0) 6 4 1 (nI s)) 6 1 1 = nI L := (fA2.i (by unfold XT; omega)).trans t1
    have v12 : gA (sI (sI (sJ A 6 6 1 0) 6 7 1 0) 6 4 1 (nI s)) 12 2 s = gA C 12 2 s := fA2.a (by unfold XT; omega)
    obtain ⟨K1, hK1⟩ : ∃ k, NN = k + 1 := ⟨999999, rfl⟩
    have open1 : ∀ k1, fX6_advance_h141 1 (K1 + 1) 0 0 k1 = fX6_advance_s141 (fX6_advance_h141 1 K1) 1 0 0 k1 := fun k1 => rfl
    have sgn : ∀ w, w < 256 → gA C 12 2 s &&& 255 = nI w → lett w = false → digt w = false → (∀ k : Int32 → Int32 → St → Option St, fX6_advance_s163 k 1 0 0 (gA C 12 2 s) (sI (sI (sJ A 6 6 1 0) 6 7 1 0) 6 4 1 (nI s)) = fX6_advance_s245 1 0 0 (sI (sI (sJ A 6 6 1 0) 6 7 1 0) 6 4 1 (nI s))) → (∀ S, (fX6_kindOfSign (gA C 12 2 s) S = nI w ∧ (w = 40 ∨ w = 41 ∨ w = 59 ∨ w = 60 ∨ w = 61 ∨ w = 62)) ∨ (fX6_kindOfSign (gA C 12 2 s) S = 3 ∧ ¬ (w = 40 ∨ w = 41 ∨ w = 59 ∨ w = 60 ∨ w = 61 ∨ w = 62))) → ∃ A' B', fX6_advance_h141 1 NN 0 0 (sI (sI (sJ A 6 6 1 0) 6 7 1 0) 6 4 1 (nI s)) = some A' ∧ fX11_step_s80 140 (sI (sI B 11 12 140 (nI s)) 11 13 140 0) = some B' ∧ Fr XT C A' ∧ Fr XS R B' ∧ ∃ q', s ≤ q' ∧ (gI A' 6 5 1 = 0 ∨ gI A' 6 5 1 = 3 ∨ s < q') ∧ Tk A' B' L q' := by
      intro w hw e255 l0 d0 e163 hk
      rw [e255] at hpk
      rw [s80_sign hw hpk l0 d0, hK1, open1]
      unfold fX6_advance_s141
      rw [v1, show gI (sI (sI (sJ A 6 6 1 0) 6 7 1 0) 6 4 1 (nI s)) 6 4 1 = nI s from gI_s, if_neg (nI_ge (by omega) (by omega)), igd (by omega) (by decide), nI_clamp (by omega), show (1 : Nat) + 1 = 2 from rfl, v12, e163]
      unfold fX6_advance_s245 fX6_advance_s267 fX6_advance_s277 fX11_step_s148 fX11_step_s153
      rw [v3, if_pos (show (0 : Int32) + 0 = 0 by decide), igd (by omega) (by decide), nI_clamp (by omega), show (1 : Nat) + 1 = 2 from rfl, v12]
      refine ⟨_, _, rfl, rfl, Fr_sI (Fr_sI fA2 x5) x4, Fr_sI (Fr_sI (Fr_sI fB2 (by unfold XS; omega)) (by unfold XS; omega)) (by unfold XS; omega), s + 1, by omega, Or.inr (Or.inr (by omega)), by omega, ⟨s, by omega, ?_, ?_⟩, ?_⟩
      · rw [gI_k (by decide), gI_k (by decide)]; exact v3
      · rw [gI_k (by decide), gI_k (by decide), gI_k (by decide)]; exact y12
      · rcases hk (sI (sI (sJ A 6 6 1 0) 6 7 1 0) 6 4 1 (nI s)) with ⟨k1, k2⟩ | ⟨k1, k2⟩
        · refine Or.inr (Or.inr ⟨?_, ?_, Or.inr (Or.inr ⟨w, k2, ?_, ?_, ?_⟩)⟩)
          · rw [gI_s, gI_k (by decide), v3, nI_1]
          · rw [gI_s, gI_k (by decide), gI_k (by decide), y4, nI_1]
          · rw [gI_k (by decide), gI_s, k1]
          · rw [gI_k (by decide), gI_k (by decide), gI_s]; exact if_pos k2
          · rw [gI_k (by decide), gI_s]
        · refine Or.inr (Or.inl ⟨?_, ?_⟩)
          · rw [gI_k (by decide), gI_s, k1]
          · rw [gI_k (by decide), gI_k (by decide), gI_s]; exact if_neg k2
    rcases byte_of b2 with ⟨w, w1, w2, w3⟩ | ⟨w0, w, w1, w2, w3⟩
    · by_cases ql : lett w = true ∨ digt w = true
      · rw [w3] at hpk
        rw [s80_run (by omega) hpk ql]
        have hsc : ScI (sI (sI (sJ A 6 6 1 0) 6 7 1 0) 6 4 1 (nI s)) (sI (sJ (sI (sI B 11 12 140 (nI s)) 11 13 140 0) 11 17 140 0) 11 14 140 0) s 0 0 := by
          refine ⟨v3, ?_, gI_s, ?_, ?_, fun _ => ⟨?_, ?_⟩, fun _ => ⟨?_, fun _ => ⟨0, by decide, ?_⟩⟩⟩
          · rw [gI_k (by decide)]; exact y12
          · rw [gI_k (by decide)]; exact y4
          · rw [gI_k (by decide)]; exact y13
          · rw [show gJ (sI (sI (sJ A 6 6 1 0) 6 7 1 0) 6 4 1 (nI s)) 6 6 1 = 0 from gJ_s]; exact gJ_s.symm
          · rw [show gJ (sI (sI (sJ A 6 6 1 0) 6 7 1 0) 6 4 1 (nI s)) 6 6 1 = 0 from gJ_s]; decide
          · rw [gI_s, gI_k (by decide), gI_s]
          · rw [gI_k (by decide), gI_s]; rfl
        obtain ⟨A', B', r1, r2, r3, r4, q', r5, r6⟩ := l_scan (f := lett w) tb (L - s) 0 0 NN NN _ _ (by omega) (by unfold NN; omega) (by unfold NN; omega) fA2 (Fr_sI (Fr_sJ fB2 (by unfold XS; omega)) (by unfold XS; omega)) hsc (fun h => by omega) (fun _ => ⟨w, w1, by omega, w2, by
          cases hl : lett w with
          | true => exact Or.inl ⟨rfl, rfl⟩
          | false => exact Or.inr ⟨ql.resolve_left (by rw [hl]; decide), rfl⟩⟩)
        have hp1 : b01 (pureF (lett w) 0 0) = 1 := by cases lett w <;> rfl
        rw [hp1] at r2
        exact ⟨A', B', r1, r2, r3, r4, q', by omega, Or.inr (Or.inr r5), r6⟩
      · have l0 : lett w = false := by
          cases hh : lett w with
          | true => exact absurd (Or.inl hh) ql
          | false => rfl
        have d0 : digt w = false := by
          cases hh : digt w with
          | true => exact absurd (Or.inr hh) ql
          | false => rfl
        exact sgn w (by omega) w3 l0 d0 (fun k => by rw [w2, s163_eq w1, if_neg (by rw [l0]; decide), if_neg (by rw [d0]; decide)]) (fun S => by rw [w2]; exact sgn_kind w1 S l0 d0)
    · exact sgn w w2 w3 (decide_eq_false (by omega)) (decide_eq_false (by omega)) (fun k => s163_neg w0) (fun S => Or.inr ⟨sgn_neg w0 S, by omega⟩)
  · rw [if_neg (nI_nlt q (by omega))]
    have w1 : gI (sI (sI A 6 3 1 (nI (min M L))) 6 4 1 (nI (min M L))) 6 1 1 = nI L := (gI_k (by decide)).trans ((gI_k (by decide)).trans z1)
    have w2 : gI (sI (sI A 6 3 1 (nI (min M L))) 6 4 1 (nI (min M L))) 6 2 1 = nI M := (gI_k (by decide)).trans ((gI_k (by decide)).trans z2)
    have fA2 : Fr XT C (sI (sI A 6 3 1 (nI (min M L))) 6 4 1 (nI (min M L))) := Fr_sI (Fr_sI fA x3) x4
    have w3 : gI (sI (sI A 6 3 1 (nI (min M L))) 6 4 1 (nI (min M L))) 6 3 1 = nI (min M L) := (gI_k (by decide)).trans gI_s
    rw [w1, w2]
    rcases Nat.lt_or_ge M L with r | r
    · rw [if_neg (show ¬ nI L ≤ nI M from nI_ge r (by omega)), if_neg (show ¬ nI L ≤ nI M from nI_ge r (by omega)), if_neg (nI_nlt (show M ≤ s by omega) (by omega))]
      rw [Nat.min_eq_left (show M ≤ L by omega)] at fA2 w3 ⊢
      refine ⟨_, _, rfl, rfl, Fr_sI fA2 x5, Fr_sI (Fr_sI fB2 (by unfold XS; omega)) (by unfold XS; omega), s, by omega, Or.inr (Or.inl gI_s), hs, ⟨M, by omega, (gI_k (by decide)).trans w3, (gI_k (by decide)).trans gI_s⟩, Or.inr (Or.inl ⟨gI_s, gI_s⟩)⟩
    · rw [if_pos (show nI L ≤ nI M from nI_le r (by omega)), if_pos (show nI L ≤ nI M from nI_le r (by omega))]
      rw [Nat.min_eq_right r] at fA2 w3 q ⊢
      unfold fX11_step_s80
      rw [m_peekE hL y3 y4 q (by omega), ob_some, if_neg (show ¬ (0 : Int32) ≤ -1 by decide)]
      refine ⟨_, _, rfl, rfl, Fr_sI fA2 x5, Fr_sI fB2 (by unfold XS; omega), s, by omega, Or.inl gI_s, hs, ⟨s, by omega, ?_, (gI_k (by decide)).trans y12⟩, Or.inl ⟨gI_s, gI_s⟩⟩
      rw [gI_k (by decide), w3, show L = s by omega]
theorem l_skip {C R : St} {L M : Nat} (tb : TB C R L M) : ∀ (m s u v : Nat) (A B : St), s + m = L → m < u → m < v → Fr XT C A → Fr XS R B → gI A 6 3 1 = nI s → gI B 11 4 140 = nI s → ∃ A' B', fX6_advance_h16 1 u A = some A' ∧ fX11_step_h0 140 v B = some B' ∧ Fr XT C A' ∧ Fr XS R B' ∧ ∃ q', s ≤ q' ∧ (gI A' 6 5 1 = 0 ∨ gI A' 6 5 1 = 3 ∨ s < q') ∧ Tk A' B' L q' := by
  obtain ⟨hL, hM, t1, t2, t3, t4, t5⟩ := id tb
  intro m
  induction m with
  | zero =>
    intro s u v A B hm hu hv fA fB h3 h4
    obtain ⟨u, rfl⟩ : ∃ k', u = k' + 1 := ⟨u - 1, by omega⟩
    obtain ⟨v, rfl⟩ : ∃ k', v = k' + 1 := ⟨v - 1, by omega⟩
    have z1 : gI A 6 1 1 = nI L := (fA.i (by unfold XT; omega)).trans t1
    have z2 : gI B 11 3 140 = nI L := (fB.i (by unfold XS; omega)).trans t2
    rw [fX6_advance_h16, fX11_step_h0]; unfold fX6_advance_s16 fX11_step_s0
    rw [z1, h3, if_pos (nI_le (by omega) (by omega)), m_peekE hL z2 h4 (by omega) (by omega), ob_some, if_neg (by decide), ob_some, if_neg (by decide)]
    exact l_tok tb fA fB (by omega) h3 h4
  | succ m ih =>
    intro s u v A B hm hu hv fA fB h3 h4
    obtain ⟨u, rfl⟩ : ∃ k', u = k' + 1 := ⟨u - 1, by omega⟩
    obtain ⟨v, rfl⟩ : ∃ k', v = k' + 1 := ⟨v - 1, by omega⟩
    have z1 : gI A 6 1 1 = nI L := (fA.i (by unfold XT; omega)).trans t1
    have z2 : gI B 11 3 140 = nI L := (fB.i (by unfold XS; omega)).trans t2
    obtain ⟨b1, b2⟩ := t5 s (by omega)
    have zA : gA A 12 2 s = gA C 12 2 s := fA.a (by unfold XT; omega)
    have zB : gA B 28 141 s = gA C 12 2 s := (fB.a (by unfold XS; omega)).trans b1.symm
    have nx : ∃ A' B', fX6_advance_h16 1 u (sI A 6 3 1 (nI (s + 1))) = some A' ∧ fX11_step_h0 140 v (sI B 11 4 140 (nI (s + 1))) = some B' ∧ Fr XT C A' ∧ Fr XS R B' ∧ ∃ q', s ≤ q' ∧ (gI A' 6 5 1 = 0 ∨ gI A' 6 5 1 = 3 ∨ s < q') ∧ Tk A' B' L q' := by
      obtain ⟨A', B', r1, r2, r3, r4, q', r5, r6, r7⟩ := ih (s + 1) u v (sI A 6 3 1 (nI (s + 1))) (sI B 11 4 140 (nI (s + 1))) (by omega) (by omega) (by omega) (Fr_sI fA (by unfold XT; omega)) (Fr_sI fB (by unfold XS; omega)) gI_s gI_s
      exact ⟨A', B', r1, r2, r3, r4, q', by omega, r6.imp_right (Or.imp_right (fun h => by omega)), r7⟩
    rw [fX6_advance_h16, fX11_step_h0]; unfold fX6_advance_s16 fX11_step_s0 fX6_advance_s55 fX6_advance_s65 fX11_step_s18 fX11_step_s28
    rw [z1, h3, if_neg (nI_ge (by omega) (by omega)), m_peek hL z2 h4 (by omega), ob_some, ob_some, zB]
    repeat rw [igd (show s < 940 by omega) (by decide)]
    rw [nI_clamp (by omega), show (1 : Nat) + 1 = 2 from rfl, zA, nI_1]
    have e32 : (gA C 12 2 s = 32 ↔ gA C 12 2 s &&& 255 = 32) ∧ (gA C 12 2 s = 10 ↔ gA C 12 2 s &&& 255 = 10) := by
      rcases byte_of b2 with ⟨w, w1, w2, w3⟩ | ⟨w0, w, w1, w2, w3⟩
      · rw [w3, w2]; exact ⟨Iff.rfl, Iff.rfl⟩
      · rw [w3]
        exact ⟨⟨fun h => by rw [h] at w0; exact absurd w0 (by decide), fun h => by have := (nI_eq (a := w) (b := 32) (by omega) (by omega)).mp h; omega⟩, ⟨fun h => by rw [h] at w0; exact absurd w0 (by decide), fun h => by have := (nI_eq (a := w) (b := 10) (by omega) (by omega)).mp h; omega⟩⟩
    by_cases c1 : gA C 12 2 s = 32
    · rw [if_pos c1, if_pos (e32.1.mp c1), h4, nI_1]; exact nx
    · rw [if_neg c1, if_neg (fun h => c1 (e32.1.mpr h))]
      by_cases c2 : gA C 12 2 s = 10
      · rw [if_pos c2, if_pos (e32.2.mp c2), h4, nI_1]; exact nx
      · rw [if_neg c2, if_neg (fun h => c2 (e32.2.mpr h))]
        exact l_tok tb fA fB (by omega) h3 h4
theorem adv {C R : St} {L M q : Nat} (tb : TB C R L M) (h8 : gI C 6 8 1 = 0) (h4 : gI C 6 4 1 = nI q) (h4' : gI R 11 4 140 = nI q) (hq : q ≤ L) : ∃ C' R', fX6_advance 1 C = some C' ∧ fX11_step 140 R = some R' ∧ Fr XT C C' ∧ Fr XS R R' ∧ ∃ q', q ≤ q' ∧ (gI C' 6 5 1 = 0 ∨ gI C' 6 5 1 = 3 ∨ q < q') ∧ Tk C' R' L q' := by
  have hL := tb.1
  unfold fX6_advance fX11_step
  rw [if_pos h8, h4]
  exact l_skip tb (L - q) q NN NN _ _ (by omega) (by unfold NN; omega) (by unfold NN; omega) (Fr_sI Fr_id (by unfold XT; omega)) Fr_id gI_s h4'
theorem advF {C : St} (h : ¬ gI C 6 8 1 = 0) : fX6_advance 1 C = some C := by
  unfold fX6_advance; exact if_neg h
