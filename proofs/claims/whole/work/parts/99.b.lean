-- SENTENCE: the reference's turns
def SSz (C R : St) (L n0 n1 t dp k o d q : Nat) : Prop := LV C R L 200 q ∧ CDz C R n0 n1 k o d ∧ gI R 11 39 140 = nI t ∧ gI R 11 40 140 = nI dp
def FXz (C R : St) (n0 n1 : Nat) : Prop := RS R ∧ PN C R 4 0 n0 ∧ FN C R 4 5 n1 ∧ gA R 29 142 0 = nI n0 ∧ gA R 29 142 1 = nI n1
theorem FXz_fr {C R C' R' : St} {n0 n1 : Nat} (h : FXz C R n0 n1) (f : Fr SzN C C') (g : Fr SzM R R') : FXz C' R' n0 n1 := by
  obtain ⟨h1, ⟨p1, p2, p3⟩, ⟨f1, f2, f3⟩, h4, h5⟩ := h
  refine ⟨RS_fr g (by unfold SzM XG; omega) h1, ⟨(f.i (by unfold SzN XF; omega)).trans p1, p2, fun p hp => ?_⟩, ⟨(f.i (by unfold SzN XF; omega)).trans f1, f2, fun p hp => ?_⟩, (g.a (by unfold SzM XG; omega)).trans h4, (g.a (by unfold SzM XG; omega)).trans h5⟩
  · rw [show gJ C' 4 0 (4 + 3 + p) = gJ C 4 0 (4 + 3 + p) from f.j (by unfold SzN XF; omega), show gB R' 32 145 (0 + p) = gB R 32 145 (0 + p) from g.b (by unfold SzM XG; omega)]; exact p3 p hp
  · rw [show gJ C' 3 0 (4 + 8 + p) = gJ C 3 0 (4 + 8 + p) from f.j (by unfold SzN XF; omega), show gB R' 32 145 (5 + p) = gB R 32 145 (5 + p) from g.b (by unfold SzM XG; omega)]; exact f3 p hp
/-- the state with nothing pending, the stack below t as in E -/
def MMz (C E : St) (L n0 n1 t dp k o d q : Nat) (Z : St) : Prop := SSz C Z L n0 n1 t dp k o d q ∧ ∀ j, j < t → gA Z 38 151 j = gA E 38 151 j
theorem z_turn0 {R R' : St} {v : Int32} (h41 : gI R 11 41 140 = 0) (ho : fX11_operand 140 R = some (v, R')) (u : Nat) : fX11_sentence_h48 140 (u + 1) 1 R = if v = 0 then some (-1 - gI R' 11 16 140, R') else fX11_sentence_h48 140 u 1 R' := by
  rw [fX11_sentence_h48]; unfold fX11_sentence_s48 fX11_sentence_s101 fX11_sentence_s122
  rw [if_neg i10, if_pos h41, if_pos h41, ho, ob_some]
theorem z_turn1 {R R' : St} {v : Int32} (h41 : gI R 11 41 140 = 1) (h11 : ¬ gI R 11 11 140 = 0) (ho : fX11_behind 140 R = some (v, R')) (u : Nat) : fX11_sentence_h48 140 (u + 1) 1 R = if v = 0 then some (-1 - gI R' 11 16 140, R') else fX11_sentence_h48 140 u 1 R' := by
  have n41 : ¬ gI R 11 41 140 = 0 := by rw [h41]; exact i10
  rw [fX11_sentence_h48]; unfold fX11_sentence_s48 fX11_sentence_s101 fX11_sentence_s112
  rw [if_neg i10, if_neg n41, if_neg h11, if_neg n41, ho, ob_some]
theorem SzV_M {R R' : St} (f : Fr SzV R R') : Fr SzM R R' := Fr_mo f (fun k a q => by unfold SzV at q; unfold SzM; omega)
theorem LV_V {C R R' : St} {L M q : Nat} (h : LV C R L M q) (f : Fr SzV R R') : LV C R' L M q := LV_fr h (Fr_id (X := fun _ _ => False)) f (fun k a q => q.elim) (fun k a q => by unfold SzV at q; omega)
/-- all that is pending is put down -/
theorem z_pop {C E R1 : St} {L n0 n1 t dp k o d q r : Nat} {x1 : Int32} {ps : List Int32} (hr : r ≤ 9) (ht : t ≤ 43) (hl : ps.length ≤ 2) (hp : ∀ x, x ∈ ps → x = 21 ∨ (x = 22 ∧ x1 = 22)) (hE : t = 0 ∨ (¬ gA E 38 151 (t - 1) = 20 ∧ ¬ gA E 38 151 (t - 1) = 21 ∧ (gA E 38 151 (t - 1) = 22 → ¬ x1 = 22))) (pd : PDz (MMz C E L n0 n1 t dp k o d q) (List.replicate r 20 ++ ps) R1) : ∃ R2 R3, fX11_nots 140 R1 = some R2 ∧ Fr SzV R1 R2 ∧ fX11_joins 140 x1 R2 = some R3 ∧ Fr SzV R2 R3 ∧ LV C R1 L 200 q ∧ LV C R2 L 200 q ∧ MMz C E L n0 n1 t dp k o d q R3 := by
  have base : ∀ Z, MMz C E L n0 n1 t dp k o d q Z → gI Z 11 39 140 = 0 ∨ ∃ T, T < 44 ∧ gI Z 11 39 140 = nI (T + 1) ∧ ¬ gA Z 38 151 T = 20 ∧ ¬ gA Z 38 151 T = 21 ∧ (gA Z 38 151 T = 22 → ¬ x1 = 22) := fun Z m => by
    obtain ⟨⟨-, -, m1, -⟩, m2⟩ := m
    rcases hE with h | h
    · rw [h] at m1; exact Or.inl m1
    · rcases Nat.eq_zero_or_pos t with h0 | h0
      · rw [h0] at m1; exact Or.inl m1
      · refine Or.inr ⟨t - 1, by omega, by rw [show t - 1 + 1 = t by omega]; exact m1, ?_⟩
        rw [m2 (t - 1) (by omega)]; exact h
  have s1 : ∀ Z, PDz (MMz C E L n0 n1 t dp k o d q) ps Z → NoN Z := fun Z g => by
    cases ps with
    | nil =>
      rcases base Z g with z | ⟨T, t1, t2, t3, -⟩
      · exact Or.inl z
      · exact Or.inr ⟨T, t1, t2, t3⟩
    | cons x ps =>
      obtain ⟨T, K, g1, g2, g3, g4, g5, g6⟩ := g
      refine Or.inr ⟨T, g1, g3, ?_⟩
      rw [g5]
      rcases hp x (List.mem_cons_self ..) with h | h
      · rw [h]; decide
      · rw [h.1]; decide
  have s2 : ∀ Z, MMz C E L n0 n1 t dp k o d q Z → NoJ x1 Z := fun Z m => by
    rcases base Z m with z | ⟨T, t1, t2, -, t3⟩
    · exact Or.inl z
    · exact Or.inr ⟨T, t1, t2, t3⟩
  obtain ⟨R2, a1, a2, a3⟩ := z_nots s1 r NN R1 (by unfold NN; omega) pd
  obtain ⟨R3, b1, b2, b3⟩ := z_joins s2 ps NN R2 (by unfold NN; omega) hp a3
  have lv2 : LV C R2 L 200 q := LV_V b3.1.1 (Fr_sym b2)
  exact ⟨R2, R3, a1, a2, b1, b2, LV_V lv2 (Fr_sym a2), lv2, b3⟩
theorem t_nz {C R : St} {L M q : Nat} (lv : LV C R L M q) (g : ¬ gI C 6 5 1 = 0) : ¬ gI R 11 11 140 = 0 := fun h => g ((t_zero lv).mpr h)
/-- AND or OR read behind an operand -/
theorem z_join {C E R1 : St} {L n0 n1 t dp k o d q r : Nat} {x1 : Int32} {ps : List Int32} (h41 : gI R1 11 41 140 = 1) (hr : r ≤ 9) (ht : t ≤ 43) (hl : ps.length ≤ 2) (hp : ∀ x, x ∈ ps → x = 21 ∨ (x = 22 ∧ x1 = 22)) (hE : t = 0 ∨ (¬ gA E 38 151 (t - 1) = 20 ∧ ¬ gA E 38 151 (t - 1) = 21 ∧ (gA E 38 151 (t - 1) = 22 → ¬ x1 = 22))) (pd : PDz (MMz C E L n0 n1 t dp k o d q) (List.replicate r 20 ++ ps) R1) (hw : (x1 = 21 ∧ fX6_isAt 1 6385252 C = 1) ∨ (x1 = 22 ∧ fX6_isAt 1 28530 C = 1)) : ∃ C2 R5 q2, fX6_advance 1 C = some C2 ∧ (∀ u, fX11_sentence_h48 140 (u + 1) 1 R1 = fX11_sentence_h48 140 u 1 R5) ∧ Fr SzN C C2 ∧ Fr SzM R1 R5 ∧ SSz C2 R5 L n0 n1 (t + 1) dp k o d q2 ∧ gI R5 11 41 140 = 0 ∧ gA R5 38 151 t = x1 ∧ ∀ j, j < t → gA R5 38 151 j = gA E 38 151 j := by
  obtain ⟨R2, R3, a1, a2, a3, a4, lv1, lv2, ⟨lv3, cd, m1, m2⟩, m3⟩ := z_pop hr ht hl hp hE pd
  have f4 : Fr (fun k a => a = 151 ∨ (a = 140 ∧ (k = 39 ∨ k = 41))) R3 (sI (sI (sA R3 38 151 t x1) 11 39 140 (nI (t + 1))) 11 41 140 0) := Fr_sI (Fr_sI (Fr_sA Fr_id (by omega)) (by omega)) (by omega)
  have lv4 : LV C (sI (sI (sA R3 38 151 t x1) 11 39 140 (nI (t + 1))) 11 41 140 0) L 200 q := LV_fr lv3 (Fr_id (X := fun _ _ => False)) f4 (fun k a q => q.elim) (fun k a q => by omega)
  have e39 : gI (sA R3 38 151 t x1) 11 39 140 = nI t := m1
  -- the token
  have tok : Gd C R3 q ∧ ¬ gI C 6 5 1 = 0 ∧ fX11_behind 140 R1 = fX11_behind_s86 140 (sI (sI (sA R3 38 151 t x1) 11 39 140 (nI (t + 1))) 11 41 140 0) := by
    rcases hw with ⟨rfl, hw⟩ | ⟨rfl, hw⟩
    · rcases t_word lv2 6385252 with ⟨b1, b2⟩ | ⟨b1, b2, -, b4, -⟩
      · exact absurd (b1.symm.trans hw) (by decide)
      rcases t_word lv3 6385252 with ⟨c1, c2⟩ | ⟨c1, c2, c3, -, -⟩
      · exact absurd (c1.symm.trans hw) (by decide)
      refine ⟨c3, by rw [b4]; decide, ?_⟩
      unfold fX11_behind fX11_behind_s24
      rw [a1, ob_some, b2, if_neg i10, if_neg i10, a3, ob_some, c2, if_neg i10, m1, igd (show t < 45 by omega) (by decide), nI_clamp (by omega)]
      unfold fX11_behind_s71 fX11_behind_s81
      rw [show (140 : Nat) + 11 = 151 from rfl, e39, nI_1]
    · rcases t_word lv2 28530 with ⟨b1, b2⟩ | ⟨b1, b2, -, b4, b5⟩
      · exact absurd (b1.symm.trans hw) (by decide)
      rcases t_word lv3 28530 with ⟨c1, c2⟩ | ⟨c1, c2, c3, -, -⟩
      · exact absurd (c1.symm.trans hw) (by decide)
      have n2 : fX11_isWord 140 6385252 R2 = 0 := by
        rcases t_word lv2 6385252 with ⟨-, x⟩ | ⟨-, -, -, -, x⟩
        · exact x
        · rw [b5] at x; exact absurd x (by decide)
      have n3 : fX11_isWord 140 6385252 R3 = 0 := by
        rcases t_word lv3 6385252 with ⟨-, x⟩ | ⟨-, -, -, -, x⟩
        · exact x
        · rw [b5] at x; exact absurd x (by decide)
      refine ⟨c3, by rw [b4]; decide, ?_⟩
      unfold fX11_behind fX11_behind_s24
      rw [a1, ob_some, n2, if_pos rfl, if_pos rfl, b2, if_neg i10, a3, ob_some, n3, if_pos rfl, m1, igd (show t < 45 by omega) (by decide), nI_clamp (by omega)]
      unfold fX11_behind_s71 fX11_behind_s81
      rw [show (140 : Nat) + 11 = 151 from rfl, e39, nI_1]
  obtain ⟨gd, nz, eb⟩ := tok
  have v151 : gA (sI (sI (sA R3 38 151 t x1) 11 39 140 (nI (t + 1))) 11 41 140 0) 38 151 t = x1 := gA_s (S := R3)
  have o151 : ∀ j, j < t → gA (sI (sI (sA R3 38 151 t x1) 11 39 140 (nI (t + 1))) 11 41 140 0) 38 151 j = gA E 38 151 j := fun j hj => (gA_j (S := R3) (by omega)).trans (m3 j hj)
  have v39 : gI (sI (sI (sA R3 38 151 t x1) 11 39 140 (nI (t + 1))) 11 41 140 0) 11 39 140 = nI (t + 1) := (gI_k (by decide)).trans gI_s
  have v41 : gI (sI (sI (sA R3 38 151 t x1) 11 39 140 (nI (t + 1))) 11 41 140 0) 11 41 140 = 0 := gI_s
  generalize sI (sI (sA R3 38 151 t x1) 11 39 140 (nI (t + 1))) 11 41 140 0 = R4 at *
  obtain ⟨C2, R5, b1, b2, b3, b4, q2, b5, b6, lv5⟩ := t_adv lv4 (⟨gd.1, (f4.i (by omega)).trans gd.2⟩ : Gd C R4 q)
  have fR : Fr SzM R1 R5 := Fr_tr (SzV_M (Fr_tr a2 a4)) (Fr_tr (Fr_mo f4 (fun k a q => by unfold SzM; omega)) (Fr_mo b4 (fun k a q => by unfold XS at q; unfold SzM XG; omega)))
  have e5 : fX11_behind 140 R1 = some (1, R5) := by rw [eb]; unfold fX11_behind_s86; rw [b2, ob_some]
  refine ⟨C2, R5, q2, b1, fun u => ?_, Fr_mo b3 (fun k a q => by unfold XT at q; unfold SzN XF; omega), fR, ⟨lv5, ?_, ?_, ?_⟩, ?_, ?_, fun j hj => ?_⟩
  · rw [z_turn1 h41 (t_nz lv1 nz) e5 u, if_neg i10]
  · exact CDz_fr cd b3 (Fr_tr (Fr_mo f4 (fun k a q => Or.inl q)) (Fr_mo b4 (fun k a q => Or.inr q))) (fun k a q => by unfold XT at q; unfold SzB; omega) (fun k a q => by unfold XS at q; omega)
  · exact (b4.i (by unfold XS; omega)).trans v39
  · exact (b4.i (by unfold XS; omega)).trans ((f4.i (by omega)).trans m2)
  · exact (b4.i (by unfold XS; omega)).trans v41
  · exact (b4.a (by unfold XS; omega)).trans v151
  · exact (b4.a (by unfold XS; omega)).trans (o151 j hj)
theorem t_sg {C R : St} {L M q x : Nat} (hx : x = 40 ∨ x = 41) (h : LV C R L M q) : (gI C 6 5 1 = nI x ∧ fX11_isSign 140 (nI x) R = 1 ∧ Gd C R q) ∨ (¬ gI C 6 5 1 = nI x ∧ fX11_isSign 140 (nI x) R = 0) := by
  have ne : ∀ j : Nat, j < 4 → ¬ nI j = nI x := fun j hj r => by have := (nI_eq (by omega) (by omega)).mp r; omega
  rcases t_cases h with ⟨k1, k2⟩ | ⟨k1, k2⟩ | ⟨g, k1, k2, -⟩ | ⟨g, k1, k2, -⟩ | ⟨g, c, c0, k1, k2, k3⟩
  · exact Or.inr ⟨by rw [k1]; exact ne 0 (by omega), by unfold fX11_isSign; rw [k2]; exact if_neg (by decide)⟩
  · exact Or.inr ⟨by rw [k1]; exact ne 3 (by omega), by unfold fX11_isSign; rw [k2]; exact if_neg (by decide)⟩
  · exact Or.inr ⟨by rw [k1]; exact ne 1 (by omega), by unfold fX11_isSign; rw [k2]; exact if_neg (by decide)⟩
  · exact Or.inr ⟨by rw [k1]; exact ne 2 (by omega), by unfold fX11_isSign; rw [k2]; exact if_neg (by decide)⟩
  · by_cases p : c = x
    · subst p
      exact Or.inl ⟨k1, by unfold fX11_isSign; rw [k2, if_pos rfl, k3, if_pos rfl], g⟩
    · have ne2 : ¬ nI c = nI x := fun r => p ((nI_eq (by omega) (by omega)).mp r)
      exact Or.inr ⟨by rw [k1]; exact ne2, by unfold fX11_isSign; rw [k2, if_pos rfl, k3]; exact if_neg ne2⟩
theorem nw_of {C R : St} {L M q : Nat} {x : Int64} (h : LV C R L M q) (g : fX6_isAt 1 x C = 0) : fX11_isWord 140 x R = 0 := by
  rcases t_word h x with ⟨-, b⟩ | ⟨b, -⟩
  · exact b
  · exact absurd (g.symm.trans b) (by decide)
/-- the end of a bracket -/
theorem z_close {C E R1 : St} {L n0 n1 t dp k o d q r : Nat} {ps : List Int32} (h41 : gI R1 11 41 140 = 1) (hr : r ≤ 9) (ht : t + 1 ≤ 43) (hl : ps.length ≤ 2) (hp : ∀ x, x ∈ ps → x = 21 ∨ x = 22) (hE : gA E 38 151 t = 23) (pd : PDz (MMz C E L n0 n1 (t + 1) (dp + 1) k o d q) (List.replicate r 20 ++ ps) R1) (w1 : fX6_isAt 1 6385252 C = 0) (w2 : fX6_isAt 1 28530 C = 0) : ∃ C2 R5, fX6_takeSign 1 41 C = some C2 ∧ Fr SzN C C2 ∧ Fr SzM R1 R5 ∧ gI C2 5 3 86 = nI k ∧ ((∃ q2, (∀ u, fX11_sentence_h48 140 (u + 1) 1 R1 = fX11_sentence_h48 140 u 1 R5) ∧ SSz C2 R5 L n0 n1 t dp k o d q2 ∧ gI R5 11 41 140 = 1 ∧ ∀ j, j < t → gA R5 38 151 j = gA E 38 151 j) ∨ ((∀ u, fX11_sentence_h48 140 (u + 1) 1 R1 = some (-1 - gI R5 11 16 140, R5)) ∧ FA C2 R5)) := by
  have nb : vp_nar .boolean (0 : Int32) = 0 := by decide
  have n41 : ¬ gI R1 11 41 140 = 0 := by rw [h41]; exact i10
  obtain ⟨R2, R3, a1, a2, a3, a4, lv1, lv2, ⟨lv3, cd, m1, m2⟩, m3⟩ := z_pop (x1 := 22) hr ht hl (fun x hx => (hp x hx).imp_right (fun h => ⟨h, rfl⟩)) (Or.inr (by rw [Nat.add_sub_cancel, hE]; decide)) pd
  have a24 := Fr_tr a2 a4
  have n39 : ¬ gI R3 11 39 140 = 0 := by rw [m1]; exact fun r => by have := (nI_eq (a := t + 1) (b := 0) (by omega) (by omega)).mp r; omega
  have n39' : ¬ gI R3 11 39 140 ≤ 0 := by rw [m1]; exact nI_ge (a := 0) (by omega) (by omega)
  have eb : fX11_behind 140 R1 = if fX11_isSign 140 41 R3 = 0 then fX11_behind_s114 140 R3 else fX11_behind_s130 140 (sI R3 11 39 140 (gI R3 11 39 140 - 1)) := by
    unfold fX11_behind
    rw [a1, ob_some, nw_of lv2 w1, if_pos rfl, nw_of lv2 w2, if_pos rfl, a3, ob_some, if_neg n39]
  -- both fail
  have bad : ¬ gI C 6 5 1 = 41 → fX11_isSign 140 41 R3 = 0 → ∃ C2 R5, fX6_takeSign 1 41 C = some C2 ∧ Fr SzN C C2 ∧ Fr SzM R1 R5 ∧ gI C2 5 3 86 = nI k ∧ ((∀ u, fX11_sentence_h48 140 (u + 1) 1 R1 = some (-1 - gI R5 11 16 140, R5)) ∧ FA C2 R5) := fun b1 b2 => by
    obtain ⟨f1, f2, f3, f4⟩ := t_fail lv3 (show ¬ (1 : Int32) = 0 by decide)
    refine ⟨fX6_fail 1 1 C, (fX11_bad 140 1 R3).2, ?_, Fr_mo f3 (fun k a q => Or.inl q), Fr_tr (SzV_M a24) (Fr_mo f4 (fun k a q => Or.inl q)), (f3.i (by unfold XF; omega)).trans cd.1.1, fun u => ?_, f1⟩
    · unfold fX6_takeSign fX6_takeSign_s13
      rw [if_neg b1, advF f1.1, ob_some]
    · by_cases z : gI C 6 5 1 = 0
      · rw [fX11_sentence_h48]; unfold fX11_sentence_s48 fX11_sentence_s88
        rw [if_neg i10, if_neg n41, if_pos ((t_zero lv1).mp z), a1, ob_some, a3, ob_some, if_neg n39']
      · rw [z_turn1 h41 (t_nz lv1 z) (v := 0) (R' := (fX11_bad 140 1 R3).2) (by rw [eb, b2, if_pos rfl]; unfold fX11_behind_s114 fX11_behind_s119; rw [f2, nb]) u, if_pos rfl]
  rcases t_sg (x := 41) (Or.inr rfl) lv3 with ⟨k1, k2, k3⟩ | ⟨k1, k2⟩
  · have k1' : gI C 6 5 1 = 41 := k1
    have k2' : fX11_isSign 140 41 R3 = 1 := k2
    have nz : ¬ gI C 6 5 1 = 0 := by rw [k1']; decide
    have f4 : Fr (fun k a => a = 140 ∧ (k = 39 ∨ k = 40)) R3 (sI (sI R3 11 39 140 (nI t)) 11 40 140 (nI dp)) := Fr_sI (Fr_sI Fr_id (by omega)) (by omega)
    have lv4 : LV C (sI (sI R3 11 39 140 (nI t)) 11 40 140 (nI dp)) L 200 q := LV_fr lv3 (Fr_id (X := fun _ _ => False)) f4 (fun k a q => q.elim) (fun k a q => by omega)
    have v39 : gI (sI (sI R3 11 39 140 (nI t)) 11 40 140 (nI dp)) 11 39 140 = nI t := (gI_k (by decide)).trans gI_s
    have v40 : gI (sI (sI R3 11 39 140 (nI t)) 11 40 140 (nI dp)) 11 40 140 = nI dp := gI_s
    have eb2 : fX11_behind 140 R1 = fX11_behind_s140 140 (sI (sI R3 11 39 140 (nI t)) 11 40 140 (nI dp)) := by
      rw [eb, k2', if_neg i10, m1, nI_p1]
      unfold fX11_behind_s130
      rw [show gI (sI R3 11 39 140 (nI t)) 11 40 140 = nI (dp + 1) from (gI_k (by decide)).trans m2, nI_p1]
    generalize sI (sI R3 11 39 140 (nI t)) 11 40 140 (nI dp) = R4 at *
    obtain ⟨C2, R5, b1, b2, b3, b4, q2, b5, b6, lv5⟩ := t_adv lv4 (⟨k3.1, (f4.i (by omega)).trans k3.2⟩ : Gd C R4 q)
    have e5 : fX11_behind 140 R1 = some (1, R5) := by rw [eb2]; unfold fX11_behind_s140; rw [b2, ob_some]
    have cd5 : CDz C2 R5 n0 n1 k o d := CDz_fr cd b3 (Fr_tr (Fr_mo f4 (fun k a q => Or.inl q)) (Fr_mo b4 (fun k a q => Or.inr q))) (fun k a q => by unfold XT at q; unfold SzB; omega) (fun k a q => by unfold XS at q; omega)
    refine ⟨C2, R5, ?_, Fr_mo b3 (fun k a q => by unfold XT at q; unfold SzN XF; omega), Fr_tr (SzV_M a24) (Fr_tr (Fr_mo f4 (fun k a q => by unfold SzM; omega)) (Fr_mo b4 (fun k a q => by unfold XS at q; unfold SzM XG; omega))), cd5.1.1, Or.inl ⟨q2, fun u => ?_, ⟨lv5, cd5, ?_, ?_⟩, ?_, fun j hj => ?_⟩⟩
    · unfold fX6_takeSign fX6_takeSign_s13; rw [if_pos k1', b1, ob_some]
    · rw [z_turn1 h41 (t_nz lv1 nz) e5 u, if_neg i10]
    · exact (b4.i (by unfold XS; omega)).trans v39
    · exact (b4.i (by unfold XS; omega)).trans v40
    · exact (b4.i (by unfold XS; omega)).trans ((f4.i (by omega)).trans ((a24.i (by unfold SzV; omega)).trans h41))
    · exact (b4.a (by unfold XS; omega)).trans ((f4.a (by omega)).trans (m3 j (by omega)))
  · obtain ⟨C2, R5, b1, b2, b3, b4, b5⟩ := bad k1 k2
    exact ⟨C2, R5, b1, b2, b3, b4, Or.inr b5⟩
