-- SENTENCE: what stands at the token, and a leaf
theorem z_what {C R : St} {L M q : Nat} (lv : LV C R L M q) : (fX5_stepAt 1 C = 1 ∧ fX11_isWord 140 7237492 R = 1 ∧ Gd C R q) ∨ (fX11_isWord 140 7237492 R = 0 ∧ ∃ l, l ≤ 8 ∧ fX5_stepAt 1 C = nI (l + 4) ∧ fX11_leafOf 140 R = nI l ∧ fX11_isSign 140 40 R = 0 ∧ Gd C R q) ∨ (fX11_isWord 140 7237492 R = 0 ∧ fX5_stepAt 1 C = 0 ∧ fX11_leafOf 140 R = -1 ∧ ((gI C 6 5 1 = 40 ∧ fX11_isSign 140 40 R = 1 ∧ Gd C R q) ∨ (¬ gI C 6 5 1 = 40 ∧ fX11_isSign 140 40 R = 0))) := by
  have sg : gI C 6 5 1 = 1 → fX11_isSign 140 40 R = 0 := fun h => by
    rcases t_sg (x := 40) (Or.inl rfl) lv with ⟨k, -, -⟩ | ⟨-, k⟩
    · rw [h] at k; exact absurd k (by decide)
    · exact k
  unfold fX5_stepAt fX5_figureAt fX11_leafOf
  rcases t_word lv 7237492 with ⟨a, b⟩ | ⟨a, b, g, -, -⟩
  · rw [a, b, if_pos rfl]
    rcases t_word lv 27696098611389806 with ⟨a, b⟩ | ⟨a, b, g, k, -⟩
    rotate_left
    · rw [a, b, if_neg i10, if_neg i10]; exact Or.inr (Or.inl ⟨rfl, 0, by omega, rfl, rfl, sg k, g⟩)
    rw [a, b, if_pos rfl, if_pos rfl]
    rcases t_word lv 1751477348 with ⟨a, b⟩ | ⟨a, b, g, k, -⟩
    rotate_left
    · rw [a, b, if_neg i10, if_neg i10]; exact Or.inr (Or.inl ⟨rfl, 1, by omega, rfl, rfl, sg k, g⟩)
    rw [a, b, if_pos rfl, if_pos rfl]
    rcases t_word lv 461262647411 with ⟨a, b⟩ | ⟨a, b, g, k, -⟩
    rotate_left
    · rw [a, b, if_neg i10, if_neg i10]; exact Or.inr (Or.inl ⟨rfl, 2, by omega, rfl, rfl, sg k, g⟩)
    rw [a, b, if_pos rfl, if_pos rfl]
    rcases t_word lv 2003399784 with ⟨a, b⟩ | ⟨a, b, g, k, -⟩
    rotate_left
    · rw [a, b, if_neg i10, if_neg i10]; exact Or.inr (Or.inl ⟨rfl, 3, by omega, rfl, rfl, sg k, g⟩)
    rw [a, b, if_pos rfl, if_pos rfl]
    rcases t_word lv 2036687218 with ⟨a, b⟩ | ⟨a, b, g, k, -⟩
    rotate_left
    · rw [a, b, if_neg i10, if_neg i10]; exact Or.inr (Or.inl ⟨rfl, 4, by omega, rfl, rfl, sg k, g⟩)
    rw [a, b, if_pos rfl, if_pos rfl]
    rcases t_word lv 470020945000 with ⟨a, b⟩ | ⟨a, b, g, k, -⟩
    rotate_left
    · rw [a, b, if_neg i10, if_neg i10]; exact Or.inr (Or.inl ⟨rfl, 5, by omega, rfl, rfl, sg k, g⟩)
    rw [a, b, if_pos rfl, if_pos rfl]
    rcases t_word lv 1684108389 with ⟨a, b⟩ | ⟨a, b, g, k, -⟩
    rotate_left
    · rw [a, b, if_neg i10, if_neg i10]; exact Or.inr (Or.inl ⟨rfl, 6, by omega, rfl, rfl, sg k, g⟩)
    rw [a, b, if_pos rfl, if_pos rfl]
    rcases t_word lv 2003133803 with ⟨a, b⟩ | ⟨a, b, g, k, -⟩
    rotate_left
    · rw [a, b, if_neg i10, if_neg i10]; exact Or.inr (Or.inl ⟨rfl, 7, by omega, rfl, rfl, sg k, g⟩)
    rw [a, b, if_pos rfl, if_pos rfl]
    rcases t_word lv 121450625394034 with ⟨a, b⟩ | ⟨a, b, g, k, -⟩
    rotate_left
    · rw [a, b, if_neg i10, if_neg i10]; exact Or.inr (Or.inl ⟨rfl, 8, by omega, rfl, rfl, sg k, g⟩)
    rw [a, b, if_pos rfl, if_pos rfl]
    refine Or.inr (Or.inr ⟨rfl, rfl, rfl, ?_⟩)
    rcases t_sg (x := 40) (Or.inl rfl) lv with ⟨k1, k2, k3⟩ | ⟨k1, k2⟩
    · exact Or.inl ⟨k1, k2, k3⟩
    · exact Or.inr ⟨k1, k2⟩
  · exact Or.inl ⟨by rw [a]; exact if_neg i10, b, g⟩
def SzL (k a : Nat) : Prop := XG k a ∨ a = 144 ∨ (a = 140 ∧ k = 37)
def LFz (C R : St) (L n0 n1 k o d : Nat) (c : Option St) (r : Option (Int32 × St)) : Prop := ∃ C' R', c = some C' ∧ Fr SzN C C' ∧ Fr SzL R R' ∧ ((∃ q', r = some (1, R') ∧ LV C' R' L 200 q' ∧ CDz C' R' n0 n1 (k + 1) o (d + 1)) ∨ (r = some (0, R') ∧ FA C' R' ∧ ∃ k', k' ≤ 40 ∧ gI C' 5 3 86 = nI k'))
theorem nI_ne {a b : Nat} (ha : a < 2 ^ 31) (hb : b < 2 ^ 31) (h : a ≠ b) : ¬ nI a = nI b := fun r => h ((nI_eq ha hb).mp r)
theorem xt_n {C C' : St} (f : Fr XT C C') : Fr SzN C C' := Fr_mo f (fun k a q => by unfold XT at q; unfold SzN XF; omega)
theorem xs_l {C C' : St} (f : Fr XS C C') : Fr SzL C C' := Fr_mo f (fun k a q => by unfold XS at q; unfold SzL XG; omega)
theorem sb_n {C C' : St} (f : Fr SzB C C') : Fr SzN C C' := Fr_mo f (fun k a q => Or.inr q)
theorem xf_n {C C' : St} (f : Fr XF C C') : Fr SzN C C' := Fr_mo f (fun k a q => Or.inl q)
theorem xg_l {C C' : St} (f : Fr XG C C') : Fr SzL C C' := Fr_mo f (fun k a q => Or.inl q)
theorem zcd_l {R : St} {K : Nat} {a b c : Int32} : Fr SzL R (zcd R K a b c) := Fr_mo zcd_fr (fun k a q => by unfold SzL; omega)
/-- LV behind a step put down on both sides -/
theorem LV_ac {C R : St} {L M q k K : Nat} {a b c x y z : Int32} (h : LV C R L M q) : LV (zad C k a b c) (zcd R K x y z) L M q := LV_fr h zad_fr zcd_fr (fun k a q => by unfold SzB at q; omega) (fun k a q => by omega)
theorem Gd_ac {C R : St} {q k K : Nat} {a b c x y z : Int32} (h : Gd C R q) : Gd (zad C k a b c) (zcd R K x y z) q := ⟨(zad_fr.i (by unfold SzB; omega)).trans h.1, (zcd_fr.i (by omega)).trans h.2⟩
theorem FA_B {C R C' : St} (h : FA C R) (f : Fr SzB C C') : FA C' R := FA_fr h f (Fr_id (X := fun _ _ => False)) (fun k a q => by unfold SzB at q; omega) (fun k a q => q.elim)
theorem lf_d {l d : Nat} (hl : l ≤ 8) : (if nI (l + 4) = 1 then (if 1 ≤ d then some d else none) else if nI (l + 4) = 2 ∨ nI (l + 4) = 3 then (if 2 ≤ d then some (d - 1) else none) else some (d + 1)) = some (d + 1) := by
  rw [if_neg (show ¬ nI (l + 4) = 1 from nI_ne (b := 1) (by omega) (by omega) (by omega)), if_neg (show ¬ (nI (l + 4) = 2 ∨ nI (l + 4) = 3) from fun h => h.elim (nI_ne (b := 2) (by omega) (by omega) (by omega)) (nI_ne (b := 3) (by omega) (by omega) (by omega)))]
set_option maxHeartbeats 1000000 in
theorem z_leaf {C R : St} {L n0 n1 k o d q l : Nat} (hl : l ≤ 8) (lv : LV C R L 200 q) (fx : FXz C R n0 n1) (cd : CDz C R n0 n1 k o d) (hb : k + d + 2 ≤ 2 * o) (hd : d + 1 ≤ o) : LFz C R L n0 n1 k o d (fX5_readRest 86 1 4 (nI (l + 4)) C) (fX11_operand_s131 140 (nI l) R) := by
  have nb : vp_nar .boolean (0 : Int32) = 0 := by decide
  obtain ⟨rs, pn, fn, x0, x1⟩ := fx
  obtain ⟨⟨c1, c2, c3, c4⟩, -, -, -, -, -, ho⟩ := id cd
  have hk : k < 40 := by omega
  unfold fX5_readRest fX11_operand_s131
  rcases Nat.lt_or_ge l 2 with q2 | q2
  · rw [if_neg (show ¬ nI (l + 4) = 6 from nI_ne (b := 6) (by omega) (by omega) (by omega)), if_neg (show ¬ nI (l + 4) = 7 from nI_ne (b := 7) (by omega) (by omega) (by omega)), if_pos (show nI (l + 4) < 8 from nI_lt (b := 8) (by omega) (by omega)), z_add hk c1, ob_some, if_neg (show ¬ (2 : Int32) ≤ nI l from nI_ge (b := 2) (by omega) (by omega)), z_code (by omega) c3, ob_some]
    exact ⟨_, _, rfl, sb_n zad_fr, zcd_l, Or.inl ⟨q, rfl, LV_ac lv, CDz_step cd hk (Or.inr (Or.inr (Or.inr ⟨l, 0, hl, rfl, rfl, rfl, rfl, by omega, by omega, by omega, by omega⟩))) (lf_d hl) (by omega) (by omega)⟩⟩
  rw [if_pos (show (2 : Int32) ≤ nI l from nI_le (a := 2) (by omega) (by omega))]
  rcases Nat.lt_or_ge l 4 with q4 | q4
  · rw [if_neg (show ¬ (4 : Int32) ≤ nI l from nI_ge (b := 4) (by omega) (by omega))]
    rcases (show l = 2 ∨ l = 3 by omega) with rfl | rfl
    · rw [if_pos (show nI (2 + 4) = 6 from rfl), if_pos (show nI 2 = 2 from rfl)]
      unfold fX5_readRest_s12
      rw [if_pos (show nI (2 + 4) = 6 from rfl), show gA R 29 (140 + 2) 1 = nI n1 from x1]
      rcases t_feast lv rs fn (by omega) with ⟨j, R1, j1, g1, b1, b2, b3, b4, lv1⟩ | ⟨C1, R1, b1, b2, b3, b4, fa⟩
      · unfold fX5_readRest_s26 fX11_operand_s166
        have cd1 : CDz C R1 n0 n1 k o d := CDz_fr cd (Fr_id (X := fun _ _ => False)) b4 (fun k a q => q.elim) (fun k a q => by unfold XG at q; omega)
        rw [b1, ob_some, show fX11_looksAt 140 5 (nI n1) R = some (1, R1) from b2, ob_some, z_add hk c1, ob_some, if_neg i10, z_code (K := k) (by omega) cd1.1.2.2.1, ob_some, b3]
        obtain ⟨C2, R2, a1, a2, a3, a4, q2', a5, a6, lv2⟩ := t_adv (LV_ac (k := k) (K := k) (a := nI (2 + 4)) (b := 0) (c := nI j) (x := nI 2) (y := 0) (z := nI j) lv1) (Gd_ac g1)
        rw [a1, ob_some, a2, ob_some]
        refine ⟨C2, R2, rfl, Fr_tr (sb_n zad_fr) (xt_n a3), Fr_tr (xg_l b4) (Fr_tr zcd_l (xs_l a4)), Or.inl ⟨q2', rfl, lv2, ?_⟩⟩
        exact CDz_fr (CDz_step cd1 hk (Or.inr (Or.inr (Or.inr ⟨2, j, hl, rfl, rfl, rfl, rfl, by have := fn.2.1; omega, fun _ => j1, by omega, by omega⟩))) (lf_d hl) (by omega) (by omega)) a3 a4 (fun k a q => by unfold XT at q; unfold SzB; omega) (fun k a q => by unfold XS at q; omega)
      · unfold fX5_readRest_s26 fX11_operand_s166
        obtain ⟨C2, k', d1, d2, d3, d4⟩ := z_addT (nI (2 + 4)) 0 (-1) (show k ≤ 40 by omega) ((b3.i (by unfold XF; omega)).trans c1)
        have fa2 := FA_B fa d2
        rw [b1, ob_some, show fX11_looksAt 140 5 (nI n1) R = some (0, R1) from b2, ob_some, d1, ob_some, advF fa2.1, ob_some, if_pos rfl]
        exact ⟨C2, R1, rfl, Fr_tr (xf_n b3) (sb_n d2), xg_l b4, Or.inr ⟨rfl, fa2, k', d3, d4⟩⟩
    · rw [if_neg (show ¬ nI (3 + 4) = 6 by decide), if_pos (show nI (3 + 4) = 7 from rfl), if_neg (show ¬ nI 3 = 2 by decide)]
      unfold fX5_readRest_s12
      rw [if_neg (show ¬ nI (3 + 4) = 6 by decide), show gA R 29 (140 + 2) 0 = nI n0 from x0]
      rcases t_parish lv rs pn (by omega) with ⟨j, R1, j1, g1, b1, b2, b3, b4, lv1⟩ | ⟨C1, R1, b1, b2, b3, b4, fa⟩
      · unfold fX5_readRest_s34 fX11_operand_s180
        have cd1 : CDz C R1 n0 n1 k o d := CDz_fr cd (Fr_id (X := fun _ _ => False)) b4 (fun k a q => q.elim) (fun k a q => by unfold XG at q; omega)
        rw [b1, ob_some, show fX11_looksAt 140 0 (nI n0) R = some (1, R1) from b2, ob_some, z_add hk c1, ob_some, if_neg i10, z_code (K := k) (by omega) cd1.1.2.2.1, ob_some, b3]
        obtain ⟨C2, R2, a1, a2, a3, a4, q2', a5, a6, lv2⟩ := t_adv (LV_ac (k := k) (K := k) (a := nI (3 + 4)) (b := 0) (c := nI j) (x := nI 3) (y := 0) (z := nI j) lv1) (Gd_ac g1)
        rw [a1, ob_some, a2, ob_some]
        refine ⟨C2, R2, rfl, Fr_tr (sb_n zad_fr) (xt_n a3), Fr_tr (xg_l b4) (Fr_tr zcd_l (xs_l a4)), Or.inl ⟨q2', rfl, lv2, ?_⟩⟩
        exact CDz_fr (CDz_step cd1 hk (Or.inr (Or.inr (Or.inr ⟨3, j, hl, rfl, rfl, rfl, rfl, by have := pn.2.1; omega, by omega, fun _ => j1, by omega⟩))) (lf_d hl) (by omega) (by omega)) a3 a4 (fun k a q => by unfold XT at q; unfold SzB; omega) (fun k a q => by unfold XS at q; omega)
      · unfold fX5_readRest_s34 fX11_operand_s180
        obtain ⟨C2, k', d1, d2, d3, d4⟩ := z_addT (nI (3 + 4)) 0 (-1) (show k ≤ 40 by omega) ((b3.i (by unfold XF; omega)).trans c1)
        have fa2 := FA_B fa d2
        rw [b1, ob_some, show fX11_looksAt 140 0 (nI n0) R = some (0, R1) from b2, ob_some, d1, ob_some, advF fa2.1, ob_some, if_pos rfl]
        exact ⟨C2, R1, rfl, Fr_tr (xf_n b3) (sb_n d2), xg_l b4, Or.inr ⟨rfl, fa2, k', d3, d4⟩⟩
  · rw [if_pos (show (4 : Int32) ≤ nI l from nI_le (a := 4) (by omega) (by omega)), if_neg (show ¬ nI (l + 4) = 6 from nI_ne (b := 6) (by omega) (by omega) (by omega)), if_neg (show ¬ nI (l + 4) = 7 from nI_ne (b := 7) (by omega) (by omega) (by omega)), if_neg (show ¬ nI (l + 4) < 8 from nI_nlt (b := 8) (by omega) (by omega))]
    -- no sign of comparison
    have bad : (¬ gI C 6 5 1 = 60 ∧ ¬ gI C 6 5 1 = 61 ∧ ¬ gI C 6 5 1 = 62) → ∀ X : Option (Int32 × St), X = fX11_operand_s231 140 R → LFz C R L n0 n1 k o d (fX5_readRest_s56 86 1 4 (nI (l + 4)) (gI C 6 5 1) C) X := fun ⟨n0', n1', n2'⟩ X hX => by
      obtain ⟨f1, f2, f3, f4⟩ := t_fail lv (show ¬ (1 : Int32) = 0 by decide)
      obtain ⟨C2, k', d1, d2, d3, d4⟩ := z_addT (nI (l + 4)) (gI C 6 5 1) 0 (show k ≤ 40 by omega) ((f3.i (by unfold XF; omega)).trans c1)
      unfold fX5_readRest_s56 fX5_readRest_s82 fX5_readRest_s98
      rw [if_neg n0', if_neg n1', if_neg n2', advF f1.1, ob_some, t_numF f1.1, ob_some, d1, ob_some, hX]
      unfold fX11_operand_s231 fX11_operand_s236
      rw [f2, nb]
      exact ⟨C2, _, rfl, Fr_tr (xf_n f3) (sb_n d2), xg_l f4, Or.inr ⟨rfl, FA_B f1 d2, k', d3, d4⟩⟩
    rcases t_cases lv with ⟨k1, k2⟩ | ⟨k1, k2⟩ | ⟨g, k1, k2, -⟩ | ⟨g, k1, k2, -⟩ | ⟨g, c, c0, k1, k2, k3⟩
    · exact bad (by rw [k1]; decide) _ (by rw [k2]; exact if_neg (by decide))
    · exact bad (by rw [k1]; decide) _ (by rw [k2]; exact if_neg (by decide))
    · exact bad (by rw [k1]; decide) _ (by rw [k2]; exact if_neg (by decide))
    · exact bad (by rw [k1]; decide) _ (by rw [k2]; exact if_neg (by decide))
    · rcases Nat.lt_or_ge c 60 with p | p
      · refine bad ?_ _ ?_
        · rw [k1]; exact ⟨nI_ne (b := 60) (by omega) (by omega) (by omega), nI_ne (b := 61) (by omega) (by omega) (by omega), nI_ne (b := 62) (by omega) (by omega) (by omega)⟩
        · rw [k2, if_pos rfl, k3, if_pos (show nI c < 60 from nI_lt (b := 60) (by omega) (by omega))]
      · have e82 : fX5_readRest_s56 86 1 4 (nI (l + 4)) (gI C 6 5 1) C = fX5_readRest_s82 86 1 4 (nI (l + 4)) (nI c) C := by
          unfold fX5_readRest_s56
          rw [k1]
          rcases (show c = 60 ∨ c = 61 ∨ c = 62 by omega) with rfl | rfl | rfl
          · rw [if_pos (show nI 60 = 60 from rfl)]
          · rw [if_neg (show ¬ nI 61 = 60 by decide), if_pos (show nI 61 = 61 from rfl)]
          · rw [if_neg (show ¬ nI 62 = 60 by decide), if_neg (show ¬ nI 62 = 61 by decide), if_pos (show nI 62 = 62 from rfl)]
        rw [e82, k2, if_pos rfl, k3, if_neg (show ¬ nI c < 60 from nI_nlt (b := 60) (by omega) (by omega)), if_pos (show nI c ≤ 62 from nI_le (b := 62) (by omega) (by omega))]
        unfold fX5_readRest_s82 fX11_operand_s243
        obtain ⟨C2, R2, a1, a2, a3, a4, q2', a5, a6, lv2⟩ := t_adv lv g
        rw [a1, ob_some, a2, ob_some]
        have cd2 : CDz C2 R2 n0 n1 k o d := CDz_fr cd a3 a4 (fun k a q => by unfold XT at q; unfold SzB; omega) (fun k a q => by unfold XS at q; omega)
        have bad2 : ¬ gI C2 6 5 1 = 2 → ¬ gI R2 11 11 140 = 2 → LFz C R L n0 n1 k o d ((fX6_takeNumber 1 0 999 C2).bind fun r_22 => fX5_readRest_s98 86 1 4 (nI (l + 4)) 86 (nI (l + 4)) (nI c) r_22.1 r_22.2) (if gI R2 11 11 140 = 2 then (fX11_code 140 (nI l) (nI c) (gI R2 11 14 140) R2).bind fun r_19 => (fX11_step 140 r_19).bind fun r_21 => some (1, r_21) else fX11_operand_s260 140 (fX11_bad 140 1 R2).1 (fX11_bad 140 1 R2).2) := fun p1 p2 => by
          obtain ⟨f1, f2, f3, f4⟩ := t_fail lv2 (show ¬ (1 : Int32) = 0 by decide)
          have et : fX6_takeNumber 1 0 999 C2 = some (0, fX6_fail 1 1 C2) := by
            unfold fX6_takeNumber
            rw [if_neg p1]
            unfold fX6_takeNumber_s13 fX6_takeNumber_s37
            rw [if_neg f1.1, advF f1.1, ob_some]
          obtain ⟨C3, k', d1, d2, d3, d4⟩ := z_addT (nI (l + 4)) (nI c) 0 (show k ≤ 40 by omega) ((f3.i (by unfold XF; omega)).trans cd2.1.1)
          unfold fX5_readRest_s98 fX11_operand_s260
          rw [et, ob_some, d1, ob_some, if_neg p2, f2, nb]
          exact ⟨C3, _, rfl, Fr_tr (xt_n a3) (Fr_tr (xf_n f3) (sb_n d2)), Fr_tr (xs_l a4) (xg_l f4), Or.inr ⟨rfl, FA_B f1 d2, k', d3, d4⟩⟩
        rcases t_cases lv2 with ⟨k1, k2⟩ | ⟨k1, k2⟩ | ⟨g, k1, k2, -⟩ | ⟨g, k1, k2, v, v1, v2, v3⟩ | ⟨g, c', c0', k1, k2, k3⟩
        · exact bad2 (by rw [k1]; decide) (by rw [k2]; decide)
        · exact bad2 (by rw [k1]; decide) (by rw [k2]; decide)
        · exact bad2 (by rw [k1]; decide) (by rw [k2]; decide)
        · have lvc : LV C2 (zcd R2 k (nI l) (nI c) (nI v)) L 200 q2' := LV_fr lv2 (Fr_id (X := fun _ _ => False)) zcd_fr (fun k a q => q.elim) (fun k a q => by omega)
          obtain ⟨C3, R3, e1, e2, e3, e4, q3', e5, e6, lv3⟩ := t_adv lvc (⟨g.1, (zcd_fr.i (by omega)).trans g.2⟩ : Gd C2 (zcd R2 k (nI l) (nI c) (nI v)) q2')
          have et : fX6_takeNumber 1 0 999 C2 = some (nI v, C3) := by
            unfold fX6_takeNumber fX6_takeNumber_s13
            rw [if_pos k1, v2, if_neg (show ¬ nI v < 0 from nI_nlt (b := 0) (by omega) (by omega)), if_pos (show nI v ≤ 999 from nI_le (b := 999) (by omega) (by omega))]
            unfold fX6_takeNumber_s37 fX6_takeNumber_s53
            rw [if_pos lv2.2.1, e1, ob_some, v2]
          have c3k : gI C3 5 3 86 = nI k := (e3.i (by unfold XT; omega)).trans cd2.1.1
          unfold fX5_readRest_s98
          rw [et, ob_some, z_add hk c3k, ob_some, if_pos k2, v3, z_code (by omega) cd2.1.2.2.1, ob_some, e2, ob_some]
          have cdz := CDz_step (C := C3) (R := R2) (CDz_fr cd2 e3 (Fr_id (X := fun _ _ => False)) (fun k a q => by unfold XT at q; unfold SzB; omega) (fun k a q => q.elim)) hk (Or.inr (Or.inr (Or.inr ⟨l, v, hl, rfl, rfl, rfl, rfl, by omega, by omega, by omega, fun _ => ⟨rfl, ?_⟩⟩)) : stepOk n0 n1 (nI (l + 4)) (nI c) (nI v) (nI l) (nI c) (nI v)) (lf_d hl) hd (by omega)
          · refine ⟨_, R3, rfl, Fr_tr (xt_n a3) (Fr_tr (xt_n e3) (sb_n zad_fr)), Fr_tr (xs_l a4) (Fr_tr zcd_l (xs_l e4)), Or.inl ⟨q3', rfl, ?_, ?_⟩⟩
            · exact LV_fr lv3 zad_fr (Fr_id (X := fun _ _ => False)) (fun k a q => by unfold SzB at q; omega) (fun k a q => q.elim)
            · exact CDz_fr cdz (Fr_id (X := fun _ _ => False)) e4 (fun k a q => q.elim) (fun k a q => by unfold XS at q; omega)
          · rcases (show c = 60 ∨ c = 61 ∨ c = 62 by omega) with rfl | rfl | rfl
            · exact Or.inl rfl
            · exact Or.inr (Or.inl rfl)
            · exact Or.inr (Or.inr rfl)
        · exact bad2 (by rw [k1]; exact nI_ne (b := 2) (by omega) (by omega) (by omega)) (by rw [k2]; decide)
