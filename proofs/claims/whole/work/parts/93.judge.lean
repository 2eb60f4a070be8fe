/-- one line of a BOOK, done by both -/
theorem b_do {C R : St} {d n0 i : Nat} {D : DS} (hn : n0 ≤ 5) (hc : DC C d n0 D) (hm : DM R n0 D) (hw : DW n0 D) (bk : BkL C R n0 i) : ∃ (w : Int32) (D' : DS) (C' R' : St), fX1_live d (gA C 21 91 i) (gA C 22 92 i) C = some (w, C') ∧ fX11_does 140 (gA R 31 144 (3 * i)) (gA R 31 144 (3 * i + 1)) (gA R 31 144 (3 * i + 2)) R = some (w, R') ∧ Fr (XD d) C C' ∧ FR R R' ∧ DC C' d n0 D' ∧ DM R' n0 D' ∧ DW n0 D' ∧ (w = 0 ∨ 0 < w) := by
  unfold fX1_live fX11_does
  rcases bk with ⟨r0, c1, v, v1, v2, c2, r1⟩ | ⟨p, hp, c1, r1, ⟨r0, c2⟩ | ⟨r0, v, v1, v2, c2, r2⟩⟩
  · rw [r0, c1, c2, r1, if_pos rfl, if_neg (show ¬ (2 : Int32) = 0 by decide), if_neg (show ¬ (2 : Int32) = 1 by decide), show gA R 29 (140 + 2) 52 = nI (D.1 0) from hm.2.1, nI_add]
    have h0 := hw.1
    have el : fX2_daysLeft d C = nI (10000 - D.1 0) := by
      unfold fX2_daysLeft; rw [hc.1, show (10000 : Int32) = nI 10000 from rfl, pk_sub h0]
    rw [el]
    rcases Nat.lt_or_ge 10000 (D.1 0 + v) with q | q
    · rw [if_neg (nI_ge (by omega) (by omega)), if_neg (show ¬ nI (D.1 0 + v) ≤ (10000 : Int32) from nI_ge (a := 10000) q (by omega))]
      exact ⟨21, D, C, R, rfl, rfl, Fr_id, FR_id, hc, hm, hw, Or.inr (by decide)⟩
    · rw [if_pos (nI_le (by omega) (by omega)), if_pos (show nI (D.1 0 + v) ≤ (10000 : Int32) from nI_le (b := 10000) q (by omega))]
      rcases c_pass hc hn hw v2 (by omega) with ⟨a1, -⟩ | ⟨a1, g, U, g1, g2, g3, a2, a3, a4⟩
      · omega
      · obtain ⟨V, b1, b2, b3⟩ := m_goes hm hn hw v2 (by omega) a1
        rw [← g3] at b1 b3
        unfold fX1_live_s21 fX11_does_s71
        rw [a2, ob_some, b1, ob_some]
        exact ⟨0, passF g D, U, V, rfl, rfl, a3, b2, a4, b3, pass_W hn hw g1 (by omega), Or.inl rfl⟩
  · rw [r0, c1, c2, r1, if_neg (m1_ne (by omega)), if_pos rfl, if_pos rfl]
    unfold fX11_whyHold fX1_live_s33
    rw [m_isH hm, ob_some, if01]
    rcases c_hold hc hn hp hw.2.1 with ⟨a1, a2⟩ | ⟨a1, T, a2, a3, a4⟩
    · rw [a2, a1, ob_some, if_neg i10, if_pos rfl, ob_some, if_neg (show ¬ (1 : Int32) ≤ 0 by decide)]
      exact ⟨1, D, C, R, rfl, rfl, Fr_id, FR_id, hc, hm, hw, Or.inr (by decide)⟩
    · obtain ⟨V, b1, b2, b3⟩ := m_holds hm hn hp hw.2.1
      rw [a2, a1, ob_some, if_pos rfl, if_neg (show ¬ false = true by decide), ob_some, if_pos (show (0 : Int32) ≤ 0 by decide), b1, ob_some]
      exact ⟨0, holdF p D, T, V, rfl, rfl, a3, b2, a4, b3, hold_W hn hp hw, Or.inl rfl⟩
  · rw [r0, c1, c2, r1, r2, if_neg (m1_ne (by omega)), if_neg (nI_z (by omega) (by omega)), if_neg (show ¬ (1 : Int32) = 0 by decide), if_pos rfl, m_why hm hn hp hw v2, ob_some]
    unfold fX1_live_s48
    rcases c_skip hc hn hp hw v2 with ⟨a1, a2⟩ | ⟨a1, T, a2, a3, a4⟩
    · rw [a2, ob_some, if_neg i10, if_neg (show ¬ D.1 (2 + p) + v ≤ 9999 by omega), if_neg (show ¬ (1 : Int32) ≤ 0 by decide)]
      exact ⟨11, D, C, R, rfl, rfl, Fr_id, FR_id, hc, hm, hw, Or.inr (by decide)⟩
    · obtain ⟨V, b1, b2, b3⟩ := m_skips (k := v) hm hn hp
      rw [a2, ob_some, if_pos rfl, if_pos a1, if_pos (show (0 : Int32) ≤ 0 by decide), b1, ob_some]
      exact ⟨0, skipF p v D, T, V, rfl, rfl, a3, b2, a4, b3, skip_W hw a1, Or.inl rfl⟩
