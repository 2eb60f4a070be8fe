-- SENTENCE: the class's recursion against the reference's stack
def REz (ok : List Int32 → St → Prop) (C E R : St) (L n0 n1 t dp k o d e : Nat) (c : Option St) : Prop := ∃ C', c = some C' ∧ Fr SzN C C' ∧ ((∃ (m r k' o' q' : Nat) (ps : List Int32) (R' : St), (∀ u, fX11_sentence_h48 140 (u + m) 1 R = fX11_sentence_h48 140 u 1 R') ∧ m + e + 2 * o ≤ 2 * o' ∧ o + e ≤ o' ∧ r + dp ≤ 9 ∧ ok ps C' ∧ k' + e + 2 * o ≤ k + 2 * o' ∧ Fr SzM R R' ∧ gI R' 11 41 140 = 1 ∧ PDz (MMz C' E L n0 n1 t dp k' o' (d + 1) q') (List.replicate r 20 ++ ps) R') ∨ (∃ (m k' : Nat) (R' : St), m + e + 2 * o ≤ 43 ∧ (∀ u, fX11_sentence_h48 140 (u + m) 1 R = some (-1 - gI R' 11 16 140, R')) ∧ Fr SzM R R' ∧ FA C' R' ∧ k' ≤ 40 ∧ gI C' 5 3 86 = nI k'))
def ok1 (ps : List Int32) (_ : St) : Prop := ps = []
def ok2 (ps : List Int32) (C : St) : Prop := (ps = [] ∨ ps = [21]) ∧ fX6_isAt 1 6385252 C = 0
def ok3 (ps : List Int32) (C : St) : Prop := ps.length ≤ 2 ∧ (∀ x, x ∈ ps → x = 21 ∨ x = 22) ∧ fX6_isAt 1 6385252 C = 0 ∧ fX6_isAt 1 28530 C = 0
def P1z (L n0 n1 n : Nat) : Prop := ∀ (dp t k o d q : Nat) (C R : St), n + dp = 10 → 1 ≤ dp → SSz C R L n0 n1 t dp k o d q → FXz C R n0 n1 → gI R 11 41 140 = 0 → t + 1 ≤ 3 * dp → REz ok1 C R R L n0 n1 t dp k o d 1 (rdOne n 86 1 4 (nI dp) C)
def P2z (L n0 n1 n : Nat) : Prop := ∀ (dp t k o d q : Nat) (C R : St), n + dp = 10 → 1 ≤ dp → SSz C R L n0 n1 t dp k o d q → FXz C R n0 n1 → gI R 11 41 140 = 0 → t + 2 ≤ 3 * dp → (t = 0 ∨ gA R 38 151 (t - 1) = 22 ∨ gA R 38 151 (t - 1) = 23) → REz ok2 C R R L n0 n1 t dp k o d 1 (fRX5_readAll (rdOne n) 86 1 4 (nI dp) C)
def P3z (L n0 n1 n : Nat) : Prop := ∀ (dp t k o d q : Nat) (C R : St), n + dp = 10 → 1 ≤ dp → SSz C R L n0 n1 t dp k o d q → FXz C R n0 n1 → gI R 11 41 140 = 0 → t + 3 ≤ 3 * dp → (t = 0 ∨ gA R 38 151 (t - 1) = 23) → REz ok3 C R R L n0 n1 t dp k o d 1 (fRX5_readCond (fRX5_readAll (rdOne n)) 86 1 4 (nI dp) C)
theorem z_bjoin {C R5 E Z : St} {L n0 n1 t dp k o d q : Nat} {a x : Int32} (hax : (a = 2 ∧ x = 21) ∨ (a = 3 ∧ x = 22)) (ht : t ≤ 43) (m : MMz C R5 L n0 n1 (t + 1) dp k o (d + 2) q Z) (hx : gA R5 38 151 t = x) (hs : ∀ j, j < t → gA R5 38 151 j = gA E 38 151 j) : PDz (MMz (zad C k a 0 0) E L n0 n1 t dp (k + 1) o (d + 1) q) [x] Z := by
  obtain ⟨⟨lv, cd, m1, m2⟩, m3⟩ := m
  have n20 : ¬ x = 20 := by rcases hax with h | h; (rw [h.2]; decide); (rw [h.2]; decide)
  obtain ⟨⟨c1, c2, c3, c4⟩, -, -, -, hb, hd, ho⟩ := id cd
  have e40 : gI (zpp x t Z) 11 40 140 = nI dp := by unfold zpp; rw [if_neg n20]; exact (gI_k (by decide)).trans m2
  have e39 : gI (zpp x t Z) 11 39 140 = nI t := by unfold zpp; rw [if_neg n20]; exact gI_s
  refine ⟨t, k, by omega, by omega, m1, c3, (m3 t (by omega)).trans hx, ⟨LV_fr lv zad_fr zst_fr (fun k a q => by unfold SzB at q; omega) (fun k a q => by unfold SzV at q; omega), ?_, (zcd_fr.i (by omega)).trans e39, (zcd_fr.i (by omega)).trans e40⟩, fun j hj => (zst_fr.a (by unfold SzV; omega)).trans ((m3 j (by omega)).trans (hs j hj))⟩
  refine CDz_step (CDz_fr cd (Fr_id (X := fun _ _ => False)) zpp_fr (fun k a q => q.elim) (fun k a q => by omega)) (by omega) ?_ ?_ (by omega) (by omega)
  · rcases hax with h | h
    · exact Or.inr (Or.inl h)
    · exact Or.inr (Or.inr (Or.inl h))
  · rcases hax with h | h
    · rw [h.1, if_neg (by decide), if_pos (Or.inl rfl), if_pos (by omega)]; rfl
    · rw [h.1, if_neg (by decide), if_pos (Or.inr rfl), if_pos (by omega)]; rfl
theorem z_bnot {C R5 E Z : St} {L n0 n1 t dp k o d q : Nat} (ht : t ≤ 43) (m : MMz C R5 L n0 n1 (t + 1) (dp + 1) k o (d + 1) q Z) (hx : gA R5 38 151 t = 20) (hs : ∀ j, j < t → gA R5 38 151 j = gA E 38 151 j) (hk : k + 1 + (d + 1) ≤ 2 * o) : PDz (MMz (zad C k 1 0 0) E L n0 n1 t dp (k + 1) o (d + 1) q) [20] Z := by
  obtain ⟨⟨lv, cd, m1, m2⟩, m3⟩ := m
  obtain ⟨⟨c1, c2, c3, c4⟩, -, -, -, hb, hd, ho⟩ := id cd
  have e40 : gI (zpp 20 t Z) 11 40 140 = nI dp := by unfold zpp; rw [if_pos rfl, m2, nI_p1]; exact gI_s
  have e39 : gI (zpp 20 t Z) 11 39 140 = nI t := by unfold zpp; rw [if_pos rfl]; exact (gI_k (by decide)).trans gI_s
  refine ⟨t, k, by omega, by omega, m1, c3, (m3 t (by omega)).trans hx, ⟨LV_fr lv zad_fr zst_fr (fun k a q => by unfold SzB at q; omega) (fun k a q => by unfold SzV at q; omega), ?_, (zcd_fr.i (by omega)).trans e39, (zcd_fr.i (by omega)).trans e40⟩, fun j hj => (zst_fr.a (by unfold SzV; omega)).trans ((m3 j (by omega)).trans (hs j hj))⟩
  refine CDz_step (CDz_fr cd (Fr_id (X := fun _ _ => False)) zpp_fr (fun k a q => q.elim) (fun k a q => by omega)) (by omega) (Or.inl ⟨rfl, rfl⟩) ?_ (by omega) (by omega)
  rw [if_pos rfl, if_pos (by omega)]
theorem MMz_cd {C E R : St} {L n0 n1 t dp k o d q : Nat} {ps : List Int32} (pd : PDz (MMz C E L n0 n1 t dp k o d q) ps R) : gI C 5 3 86 = nI k ∧ k + d ≤ 2 * o ∧ d ≤ o ∧ o ≤ 20 ∧ LV C R L 200 q := by
  obtain ⟨Z, z1, ⟨lv, cd, -⟩, -⟩ := PDz_fr _ _ pd
  obtain ⟨⟨c1, -⟩, -, -, -, hb, hd, ho⟩ := cd
  exact ⟨c1, hb, hd, ho, LV_V lv (Fr_sym z1)⟩
theorem h_lt21 {y : Nat} (h : y ≤ 20) : ¬ (20 : Int32) < nI y := Int32.not_lt.mpr (nI_le (b := 20) h (by omega))
theorem is01 {C R : St} {L M q : Nat} (lv : LV C R L M q) (x : Int64) : fX6_isAt 1 x C = 0 ∨ fX6_isAt 1 x C = 1 := by
  rcases t_word lv x with ⟨a, -⟩ | ⟨a, -⟩
  · exact Or.inl a
  · exact Or.inr a
theorem z_allL {L n0 n1 n : Nat} (H : P1z L n0 n1 n) {dp t d : Nat} {E : St} (hn : n + dp = 10) (hdp : 1 ≤ dp) (ht : t + 2 ≤ 3 * dp) (hE : t = 0 ∨ gA E 38 151 (t - 1) = 22 ∨ gA E 38 151 (t - 1) = 23) : ∀ (w u y k o q r : Nat) (ps : List Int32) (C R1 : St), 21 ≤ o + w → w < u → y + 1 ≤ o → (ps = [] ∨ ps = [21]) → r + dp ≤ 9 → gI R1 11 41 140 = 1 → FXz C R1 n0 n1 → PDz (MMz C E L n0 n1 t dp k o (d + 1) q) (List.replicate r 20 ++ ps) R1 → REz ok2 C E R1 L n0 n1 t dp k o d 0 (fRX5_readAll_h10 (rdOne n) 86 1 4 (nI dp) u (nI y) C) := by
  intro w
  induction w with
  | zero => intro u y k o q r ps C R1 hw _ _ _ _ _ _ pd; have := (MMz_cd pd).2.2.2.1; omega
  | succ w ih =>
    intro u y k o q r ps C R1 hw hu hy hps hr h41 fx pd
    obtain ⟨u, rfl⟩ : ∃ k', u = k' + 1 := ⟨u - 1, by omega⟩
    obtain ⟨ck, hb, hd, ho, lv⟩ := MMz_cd pd
    rw [fRX5_readAll_h10]; unfold fRX5_readAll_s10
    rw [if_neg (h_lt21 (by omega))]
    rcases is01 lv 6385252 with z | z
    · rw [z, if_pos rfl]
      exact ⟨C, rfl, Fr_id, Or.inl ⟨0, r, k, o, q, ps, R1, fun u => rfl, by omega, by omega, hr, ⟨hps, z⟩, by omega, Fr_id, h41, pd⟩⟩
    · rw [z, if_neg i10]
      obtain ⟨C2, R5, q2, a1, a2, a3, a4, ss, a5, a6, a7⟩ := z_join (x1 := 21) h41 (by omega) (by omega) (by rcases hps with h | h <;> rw [h] <;> decide) (fun x hx => Or.inl (by rcases hps with h | h; (rw [h] at hx; cases hx); (rw [h] at hx; exact List.mem_singleton.mp hx))) (hE.imp_right (fun h => by rcases h with h | h <;> rw [h] <;> decide)) pd (Or.inl ⟨rfl, z⟩)
      rw [a1, ob_some]
      obtain ⟨C3, b1, b2, b3⟩ := H dp (t + 1) k o (d + 1) q2 C2 R5 hn hdp ss (FXz_fr fx a3 a4) a5 (by omega)
      rw [b1, ob_some]
      rcases b3 with ⟨m, r3, k3, o3, q3, ps3, R6, e1, e2, e3, e4, e5, e6, e7, e8, pd3⟩ | ⟨m, k3, R6, e1, e2, e3, fa, e5, e6⟩
      · have e5' : ps3 = [] := e5
        subst e5'
        obtain ⟨ck3, hb3, hd3, ho3, -⟩ := MMz_cd pd3
        rw [z_add (show k3 < 40 by omega) ck3, ob_some, nI_1]
        have pd4 := PDz_map (fun Z m => z_bjoin (E := E) (Or.inl ⟨rfl, rfl⟩) (by omega) m a6 a7) _ _ pd3
        rw [List.append_nil] at pd4
        have fC4 : Fr SzN C2 (zad C3 k3 2 0 0) := Fr_tr b2 (sb_n zad_fr)
        obtain ⟨C', c1, c2, c3⟩ := ih u (y + 1) (k3 + 1) o3 q3 r3 [21] (zad C3 k3 2 0 0) R6 (by omega) (by omega) (by omega) (Or.inr rfl) e4 e8 (FXz_fr (FXz_fr fx a3 a4) fC4 e7) pd4
        refine ⟨C', c1, Fr_tr a3 (Fr_tr fC4 c2), ?_⟩
        rcases c3 with ⟨m', r', k', o', q', ps', R', f1, f2, f3, f4, f5, f6, f7, f8, pd'⟩ | ⟨m', k', R', f1, f2, f3, f4⟩
        · exact Or.inl ⟨m' + m + 1, r', k', o', q', ps', R', fun v => by rw [show v + (m' + m + 1) = v + m' + m + 1 by omega, a2, e1, f1], by omega, by omega, f4, f5, by omega, Fr_tr a4 (Fr_tr e7 f7), f8, pd'⟩
        · exact Or.inr ⟨m' + m + 1, k', R', by omega, fun v => by rw [show v + (m' + m + 1) = v + m' + m + 1 by omega, a2, e1, f2], Fr_tr a4 (Fr_tr e7 f3), f4⟩
      · obtain ⟨C4, k4, d1, d2, d3, d4⟩ := z_addT 2 0 0 e5 e6
        have fa4 := FA_B fa d2
        rw [d1, ob_some]
        obtain ⟨u, rfl⟩ : ∃ k', u = k' + 1 := ⟨u - 1, by omega⟩
        rw [fRX5_readAll_h10]; unfold fRX5_readAll_s10
        rw [isAtF fa4.1, if_pos rfl, ite_self]
        exact ⟨C4, rfl, Fr_tr a3 (Fr_tr b2 (sb_n d2)), Or.inr ⟨m + 1, k4, R6, by omega, fun v => by rw [show v + (m + 1) = v + m + 1 by omega, a2, e2], Fr_tr a4 e3, fa4, d3, d4⟩⟩
theorem z_all {L n0 n1 n : Nat} (H : P1z L n0 n1 n) : P2z L n0 n1 n := by
  intro dp t k o d q C R hn hdp ss fx h41 ht hE
  obtain ⟨C1, a1, a2, a3⟩ := H dp t k o d q C R hn hdp ss fx h41 (by omega)
  unfold fRX5_readAll
  rw [a1, ob_some]
  rcases a3 with ⟨m, r, k1, o1, q1, ps, R1, e1, e2, e3, e4, e5, e6, e7, e8, pd⟩ | ⟨m, k1, R1, e1, e2, e3, fa, e5, e6⟩
  · have e5' : ps = [] := e5
    subst e5'
    obtain ⟨C', c1, c2, c3⟩ := z_allL H (E := R) hn hdp ht hE 21 NN 0 k1 o1 q1 r [] C1 R1 (by omega) (by unfold NN; omega) (by omega) (Or.inl rfl) e4 e8 (FXz_fr fx a2 e7) pd
    refine ⟨C', c1, Fr_tr a2 c2, ?_⟩
    rcases c3 with ⟨m', r', k', o', q', ps', R', f1, f2, f3, f4, f5, f6, f7, f8, pd'⟩ | ⟨m', k', R', f1, f2, f3, f4⟩
    · exact Or.inl ⟨m' + m, r', k', o', q', ps', R', fun v => by rw [show v + (m' + m) = v + m' + m by omega, e1, f1], by omega, by omega, f4, f5, by omega, Fr_tr e7 f7, f8, pd'⟩
    · exact Or.inr ⟨m' + m, k', R', by omega, fun v => by rw [show v + (m' + m) = v + m' + m by omega, e1, f2], Fr_tr e7 f3, f4⟩
  · refine ⟨C1, ?_, a2, Or.inr ⟨m, k1, R1, e1, e2, e3, fa, e5, e6⟩⟩
    obtain ⟨v, hv⟩ : ∃ v, NN = v + 1 := ⟨NN - 1, by unfold NN; rfl⟩
    rw [hv, fRX5_readAll_h10]; unfold fRX5_readAll_s10
    rw [isAtF fa.1, if_pos rfl, ite_self]
theorem z_condL {L n0 n1 n : Nat} (H : P2z L n0 n1 n) {dp t d : Nat} {E : St} (hn : n + dp = 10) (hdp : 1 ≤ dp) (ht : t + 3 ≤ 3 * dp) (hE : t = 0 ∨ gA E 38 151 (t - 1) = 23) : ∀ (w u y k o q r : Nat) (ps : List Int32) (C R1 : St), 21 ≤ o + w → w < u → y + 1 ≤ o → ps.length ≤ 2 → (∀ x, x ∈ ps → x = 21 ∨ x = 22) → fX6_isAt 1 6385252 C = 0 → r + dp ≤ 9 → gI R1 11 41 140 = 1 → FXz C R1 n0 n1 → PDz (MMz C E L n0 n1 t dp k o (d + 1) q) (List.replicate r 20 ++ ps) R1 → REz ok3 C E R1 L n0 n1 t dp k o d 0 (fRX5_readCond_h10 (fRX5_readAll (rdOne n)) 86 1 4 (nI dp) u (nI y) C) := by
  intro w
  induction w with
  | zero => intro u y k o q r ps C R1 hw _ _ _ _ _ _ _ _ pd; have := (MMz_cd pd).2.2.2.1; omega
  | succ w ih =>
    intro u y k o q r ps C R1 hw hu hy hl hps w1 hr h41 fx pd
    obtain ⟨u, rfl⟩ : ∃ k', u = k' + 1 := ⟨u - 1, by omega⟩
    obtain ⟨ck, hb, hd, ho, lv⟩ := MMz_cd pd
    rw [fRX5_readCond_h10]; unfold fRX5_readCond_s10
    rw [if_neg (h_lt21 (by omega))]
    rcases is01 lv 28530 with z | z
    · rw [z, if_pos rfl]
      exact ⟨C, rfl, Fr_id, Or.inl ⟨0, r, k, o, q, ps, R1, fun u => rfl, by omega, by omega, hr, ⟨hl, hps, w1, z⟩, by omega, Fr_id, h41, pd⟩⟩
    · rw [z, if_neg i10]
      obtain ⟨C2, R5, q2, a1, a2, a3, a4, ss, a5, a6, a7⟩ := z_join (x1 := 22) h41 (by omega) (by omega) hl (fun x hx => (hps x hx).imp_right (fun h => ⟨h, rfl⟩)) (hE.imp_right (fun h => by rw [h]; decide)) pd (Or.inr ⟨rfl, z⟩)
      rw [a1, ob_some]
      obtain ⟨C3, b1, b2, b3⟩ := H dp (t + 1) k o (d + 1) q2 C2 R5 hn hdp ss (FXz_fr fx a3 a4) a5 (by omega) (Or.inr (Or.inl (by rw [Nat.add_sub_cancel]; exact a6)))
      rw [b1, ob_some]
      rcases b3 with ⟨m, r3, k3, o3, q3, ps3, R6, e1, e2, e3, e4, e5, e6, e7, e8, pd3⟩ | ⟨m, k3, R6, e1, e2, e3, fa, e5, e6⟩
      · obtain ⟨e5a, e5b⟩ := e5
        obtain ⟨ck3, hb3, hd3, ho3, -⟩ := MMz_cd pd3
        rw [z_add (show k3 < 40 by omega) ck3, ob_some, nI_1]
        have pd4 := PDz_map (fun Z m => z_bjoin (E := E) (Or.inr ⟨rfl, rfl⟩) (by omega) m a6 a7) _ _ pd3
        rw [List.append_assoc] at pd4
        have fC4 : Fr SzN C2 (zad C3 k3 3 0 0) := Fr_tr b2 (sb_n zad_fr)
        have w4 : fX6_isAt 1 6385252 (zad C3 k3 3 0 0) = 0 := e5b
        obtain ⟨C', c1, c2, c3⟩ := ih u (y + 1) (k3 + 1) o3 q3 r3 (ps3 ++ [22]) (zad C3 k3 3 0 0) R6 (by omega) (by omega) (by omega) (by rcases e5a with h | h <;> rw [h] <;> decide) (fun x hx => by rcases e5a with h | h <;> rw [h] at hx <;> revert x <;> decide) w4 e4 e8 (FXz_fr (FXz_fr fx a3 a4) fC4 e7) pd4
        refine ⟨C', c1, Fr_tr a3 (Fr_tr fC4 c2), ?_⟩
        rcases c3 with ⟨m', r', k', o', q', ps', R', f1, f2, f3, f4, f5, f6, f7, f8, pd'⟩ | ⟨m', k', R', f1, f2, f3, f4⟩
        · exact Or.inl ⟨m' + m + 1, r', k', o', q', ps', R', fun v => by rw [show v + (m' + m + 1) = v + m' + m + 1 by omega, a2, e1, f1], by omega, by omega, f4, f5, by omega, Fr_tr a4 (Fr_tr e7 f7), f8, pd'⟩
        · exact Or.inr ⟨m' + m + 1, k', R', by omega, fun v => by rw [show v + (m' + m + 1) = v + m' + m + 1 by omega, a2, e1, f2], Fr_tr a4 (Fr_tr e7 f3), f4⟩
      · obtain ⟨C4, k4, d1, d2, d3, d4⟩ := z_addT 3 0 0 e5 e6
        have fa4 := FA_B fa d2
        rw [d1, ob_some]
        obtain ⟨u, rfl⟩ : ∃ k', u = k' + 1 := ⟨u - 1, by omega⟩
        rw [fRX5_readCond_h10]; unfold fRX5_readCond_s10
        rw [isAtF fa4.1, if_pos rfl, ite_self]
        exact ⟨C4, rfl, Fr_tr a3 (Fr_tr b2 (sb_n d2)), Or.inr ⟨m + 1, k4, R6, by omega, fun v => by rw [show v + (m + 1) = v + m + 1 by omega, a2, e2], Fr_tr a4 e3, fa4, d3, d4⟩⟩
theorem z_cond {L n0 n1 n : Nat} (H : P2z L n0 n1 n) : P3z L n0 n1 n := by
  intro dp t k o d q C R hn hdp ss fx h41 ht hE
  obtain ⟨C1, a1, a2, a3⟩ := H dp t k o d q C R hn hdp ss fx h41 (by omega) (hE.imp_right Or.inr)
  unfold fRX5_readCond
  rw [a1, ob_some]
  rcases a3 with ⟨m, r, k1, o1, q1, ps, R1, e1, e2, e3, e4, e5, e6, e7, e8, pd⟩ | ⟨m, k1, R1, e1, e2, e3, fa, e5, e6⟩
  · obtain ⟨C', c1, c2, c3⟩ := z_condL H (E := R) hn hdp ht hE 21 NN 0 k1 o1 q1 r ps C1 R1 (by omega) (by unfold NN; omega) (by omega) (by rcases e5.1 with h | h <;> rw [h] <;> decide) (fun x hx => by rcases e5.1 with h | h <;> rw [h] at hx <;> revert x <;> decide) e5.2 e4 e8 (FXz_fr fx a2 e7) pd
    refine ⟨C', c1, Fr_tr a2 c2, ?_⟩
    rcases c3 with ⟨m', r', k', o', q', ps', R', f1, f2, f3, f4, f5, f6, f7, f8, pd'⟩ | ⟨m', k', R', f1, f2, f3, f4⟩
    · exact Or.inl ⟨m' + m, r', k', o', q', ps', R', fun v => by rw [show v + (m' + m) = v + m' + m by omega, e1, f1], by omega, by omega, f4, f5, by omega, Fr_tr e7 f7, f8, pd'⟩
    · exact Or.inr ⟨m' + m, k', R', by omega, fun v => by rw [show v + (m' + m) = v + m' + m by omega, e1, f2], Fr_tr e7 f3, f4⟩
  · refine ⟨C1, ?_, a2, Or.inr ⟨m, k1, R1, e1, e2, e3, fa, e5, e6⟩⟩
    obtain ⟨v, hv⟩ : ∃ v, NN = v + 1 := ⟨NN - 1, by unfold NN; rfl⟩
    rw [hv, fRX5_readCond_h10]; unfold fRX5_readCond_s10
    rw [isAtF fa.1, if_pos rfl, ite_self]
/-- NOT or a bracket opened in the reference -/
theorem z_open {R : St} {t dp : Nat} {y1 : Int32} (ht : t < 44) (h39 : gI R 11 39 140 = nI t) (h40 : gI R 11 40 140 = nI dp) : fX11_operand_s84 140 y1 R = some (1, sI (sI (sA R 38 151 t (if y1 = 0 then 23 else 20)) 11 39 140 (nI (t + 1))) 11 40 140 (nI (dp + 1))) := by
  have e39 : ∀ v, gI (sA R 38 151 t v) 11 39 140 = nI t := fun _ => h39
  have e40 : ∀ v w, gI (sI (sA R 38 151 t v) 11 39 140 w) 11 40 140 = nI dp := fun _ _ => (gI_k (by decide)).trans h40
  unfold fX11_operand_s84 fX11_operand_s104 fX11_operand_s114 fX11_operand_s124
  rw [show (140 : Nat) + 11 = 151 from rfl, h39, igd (show t < 45 by omega) (by decide), igd (show t < 45 by omega) (by decide), nI_clamp (by omega)]
  by_cases q : y1 = 0
  · rw [if_pos q, if_pos q, e39, nI_1, e40, nI_1]
  · rw [if_neg q, if_neg q, e39, nI_1, e40, nI_1]
set_option maxHeartbeats 1000000 in
theorem z_one {L n0 n1 n : Nat} (H1 : 1 ≤ n → P1z L n0 n1 n) : P1z L n0 n1 (n + 1) := by
  intro dp t k o d q C R hn hdp ss fx h41 ht
  have nb : vp_nar .boolean (0 : Int32) = 0 := by decide
  obtain ⟨lv, cd, h39, h40⟩ := ss
  obtain ⟨⟨c1, c2, c3, c4⟩, -, -, -, hb, hd, ho⟩ := id cd
  show REz ok1 C R R L n0 n1 t dp k o d 1 (fRX5_readOne (fRX5_readCond (fRX5_readAll (rdOne n))) (rdOne n) 86 1 4 (nI dp) C)
  -- both fail
  have bad : ∀ e : Int32, ¬ e = 0 → (∀ X, X = some (vp_nar .boolean (fX11_bad 140 e R).1, (fX11_bad 140 e R).2) → fX11_operand 140 R = X → REz ok1 C R R L n0 n1 t dp k o d 1 (some (fX6_fail 1 e C))) := fun e he X hX hop => by
    obtain ⟨f1, f2, f3, f4⟩ := t_fail lv he
    rw [hX, f2, nb] at hop
    exact ⟨_, rfl, xf_n f3, Or.inr ⟨1, k, _, by omega, fun u => by rw [z_turn0 h41 hop u, if_pos rfl], Fr_mo f4 (fun k a q => Or.inl q), f1, by omega, (f3.i (by unfold XF; omega)).trans c1⟩⟩
  -- the count of ones and the depth
  have count : ∀ (y1 y2 y3 : Int32) (y4 : Int32), (fX11_operand 140 R = fX11_operand_s38 140 y1 y2 y3 R) → (o < 20 → dp ≤ 8 → fX11_operand 140 R = fX11_operand_s72 140 y1 y2 y3 (sI R 11 38 140 (nI (o + 1))) → REz ok1 C R R L n0 n1 t dp k o d 1 (fRX5_readOne_s57 (fRX5_readCond (fRX5_readAll (rdOne n))) (rdOne n) 86 1 4 (nI dp) y4 (sI C 5 4 86 (nI (o + 1))))) → REz ok1 C R R L n0 n1 t dp k o d 1 (fRX5_readOne_s26 (fRX5_readCond (fRX5_readAll (rdOne n))) (rdOne n) 86 1 4 (nI dp) y4 C) := fun y1 y2 y3 y4 hop go => by
    unfold fRX5_readOne_s26 fRX5_readOne_s41
    rw [c2]
    unfold fX11_operand_s38 at hop
    rw [c4, h40] at hop
    rcases Nat.lt_or_ge o 20 with p | p
    · rw [if_neg (show ¬ (20 : Int32) ≤ nI o from nI_ge (b := 20) p (by omega))]
      rw [if_neg (show ¬ nI o = (20 : Int32) from nI_ne (b := 20) (by omega) (by omega) (by omega))] at hop
      rcases Nat.lt_or_ge 8 dp with p2 | p2
      · rw [if_neg (show ¬ nI dp ≤ (8 : Int32) from nI_ge (a := 8) p2 (by omega))]
        rw [if_neg (show ¬ nI dp ≤ (8 : Int32) from nI_ge (a := 8) p2 (by omega))] at hop
        exact bad 4 (by decide) _ rfl hop
      · rw [if_pos (show nI dp ≤ (8 : Int32) from nI_le (b := 8) p2 (by omega)), nI_1]
        rw [if_pos (show nI dp ≤ (8 : Int32) from nI_le (b := 8) p2 (by omega)), nI_1] at hop
        exact go p p2 hop
    · rw [if_pos (show (20 : Int32) ≤ nI o from nI_le (a := 20) p (by omega))]
      rw [if_pos (show nI o = (20 : Int32) from congrArg nI (show o = 20 by omega))] at hop
      exact bad 4 (by decide) _ rfl hop
  have lvO : LV (sI C 5 4 86 (nI (o + 1))) (sI R 11 38 140 (nI (o + 1))) L 200 q := LV_fr lv (Fr_sI (X := fun k a => a = 86) Fr_id rfl) (Fr_sI (X := fun k a => a = 140 ∧ k = 38) Fr_id ⟨rfl, rfl⟩) (fun k a q => by omega) (fun k a q => by omega)
  have gdO : Gd C R q → Gd (sI C 5 4 86 (nI (o + 1))) (sI R 11 38 140 (nI (o + 1))) q := fun g => ⟨(gI_c (by decide)).trans g.1, (gI_k (by decide)).trans g.2⟩
  have fCO : Fr SzN C (sI C 5 4 86 (nI (o + 1))) := Fr_sI Fr_id (by unfold SzN; omega)
  have fRO : Fr SzM R (sI R 11 38 140 (nI (o + 1))) := Fr_sI Fr_id (by unfold SzM; omega)
  -- NOT and brackets: what both have done then
  have opened : Gd C R q → o < 20 → ∀ (y1 y2 y3 : Int32), ¬ (y1 = 0 ∧ y2 = 0) → fX11_operand 140 R = fX11_operand_s72 140 y1 y2 y3 (sI R 11 38 140 (nI (o + 1))) → ∃ C2 R5 q2, fX6_advance 1 (sI C 5 4 86 (nI (o + 1))) = some C2 ∧ Fr SzN C C2 ∧ Fr SzM R R5 ∧ (∀ u, fX11_sentence_h48 140 (u + 1) 1 R = fX11_sentence_h48 140 u 1 R5) ∧ SSz C2 R5 L n0 n1 (t + 1) (dp + 1) k (o + 1) d q2 ∧ gI R5 11 41 140 = 0 ∧ gA R5 38 151 t = (if y1 = 0 then 23 else 20) ∧ ∀ j, j < t → gA R5 38 151 j = gA R 38 151 j := fun g p y1 y2 y3 hy hop => by
    obtain ⟨C2, R2, a1, a2, a3, a4, q2, a5, a6, lv2⟩ := t_adv lvO (gdO g)
    have cd2 : CDz C2 R2 n0 n1 k (o + 1) d := CDz_fr (CDz_one cd p) a3 a4 (fun k a q => by unfold XT at q; unfold SzB; omega) (fun k a q => by unfold XS at q; omega)
    have e39 : gI R2 11 39 140 = nI t := (a4.i (by unfold XS; omega)).trans ((gI_k (by decide)).trans h39)
    have e40 : gI R2 11 40 140 = nI dp := (a4.i (by unfold XS; omega)).trans ((gI_k (by decide)).trans h40)
    have ez := z_open (y1 := y1) (show t < 44 by omega) e39 e40
    have f5 : Fr (fun k a => a = 151 ∨ (a = 140 ∧ (k = 39 ∨ k = 40))) R2 (sI (sI (sA R2 38 151 t (if y1 = 0 then 23 else 20)) 11 39 140 (nI (t + 1))) 11 40 140 (nI (dp + 1))) := Fr_sI (Fr_sI (Fr_sA Fr_id (by omega)) (by omega)) (by omega)
    have w39 : gI (sI (sI (sA R2 38 151 t (if y1 = 0 then 23 else 20)) 11 39 140 (nI (t + 1))) 11 40 140 (nI (dp + 1))) 11 39 140 = nI (t + 1) := (gI_k (by decide)).trans gI_s
    have w40 : gI (sI (sI (sA R2 38 151 t (if y1 = 0 then 23 else 20)) 11 39 140 (nI (t + 1))) 11 40 140 (nI (dp + 1))) 11 40 140 = nI (dp + 1) := gI_s
    have wt : gA (sI (sI (sA R2 38 151 t (if y1 = 0 then 23 else 20)) 11 39 140 (nI (t + 1))) 11 40 140 (nI (dp + 1))) 38 151 t = (if y1 = 0 then 23 else 20) := gA_s (S := R2)
    have wj : ∀ j, j < t → gA (sI (sI (sA R2 38 151 t (if y1 = 0 then 23 else 20)) 11 39 140 (nI (t + 1))) 11 40 140 (nI (dp + 1))) 38 151 j = gA R2 38 151 j := fun j hj => gA_j (S := R2) (by omega)
    generalize sI (sI (sA R2 38 151 t (if y1 = 0 then 23 else 20)) 11 39 140 (nI (t + 1))) 11 40 140 (nI (dp + 1)) = R5 at *
    have hop2 : fX11_operand 140 R = some (1, R5) := by
      rw [hop]; unfold fX11_operand_s72
      rw [a2, ob_some, ez]
      by_cases z1 : y1 = 0
      · rw [if_pos z1, if_neg (fun z2 => hy ⟨z1, z2⟩)]
      · rw [if_neg z1]
    refine ⟨C2, R5, q2, a1, Fr_tr fCO (xt_n a3), Fr_tr fRO (Fr_tr (Fr_mo a4 (fun k a q => by unfold XS at q; unfold SzM XG; omega)) (Fr_mo f5 (fun k a q => by unfold SzM; omega))), fun u => by rw [z_turn0 h41 hop2 u, if_neg i10], ⟨LV_fr lv2 (Fr_id (X := fun _ _ => False)) f5 (fun k a q => q.elim) (fun k a q => by omega), CDz_fr cd2 (Fr_id (X := fun _ _ => False)) f5 (fun k a q => q.elim) (fun k a q => by omega), w39, w40⟩, ?_, wt, fun j hj => (wj j hj).trans ((a4.a (by unfold XS; omega)).trans rfl)⟩
    exact (f5.i (by omega)).trans ((a4.i (by unfold XS; omega)).trans ((gI_k (by decide)).trans h41))
  unfold fRX5_readOne fRX5_readOne_s6
  rcases z_what lv with ⟨s1, s2, g⟩ | ⟨s2, l, hl, s1, s3, s4, g⟩ | ⟨s2, s1, s3, s4⟩
  · -- NOT
    rw [s1, if_neg i10]
    refine count 1 (fX11_isSign 140 40 R) (fX11_leafOf 140 R) 1 ?_ (fun p p2 hop => ?_)
    · unfold fX11_operand fX11_operand_s8 fX11_operand_s15 fX11_operand_s20
      rw [s2, if_neg i10]
    · obtain ⟨C2, R5, q2, b1, b2, b3, b4, ss2, b5, b6, b7⟩ := opened g p 1 _ _ (fun h => i10 h.1) hop
      rw [if_neg i10] at b6
      unfold fRX5_readOne_s57
      rw [b1, ob_some, if_neg i10, if_pos rfl, nI_1]
      obtain ⟨C3, d1, d2, d3⟩ := H1 (by omega) (dp + 1) (t + 1) k (o + 1) d q2 C2 R5 (by omega) (by omega) ss2 (FXz_fr fx b2 b3) b5 (by omega)
      rw [d1, ob_some]
      rcases d3 with ⟨m, r3, k3, o3, q3, ps3, R6, e1, e2, e3, e4, e5, e6, e7, e8, pd3⟩ | ⟨m, k3, R6, e1, e2, e3, fa, e5, e6⟩
      · have e5' : ps3 = [] := e5
        subst e5'
        obtain ⟨ck3, hb3, hd3, ho3, -⟩ := MMz_cd pd3
        rw [z_add (show k3 < 40 by omega) ck3, ob_some]
        have pd4 := PDz_map (fun Z m => z_bnot (E := R) (by omega) m b6 b7 (by omega)) _ _ pd3
        rw [List.append_nil, show List.replicate r3 (20 : Int32) ++ [20] = List.replicate (r3 + 1) 20 ++ [] from by rw [List.append_nil, List.replicate_succ']] at pd4
        exact ⟨_, rfl, Fr_tr b2 (Fr_tr d2 (sb_n zad_fr)), Or.inl ⟨m + 1, r3 + 1, k3 + 1, o3, q3, [], R6, fun v => by rw [show v + (m + 1) = v + m + 1 by omega, b4, e1], by omega, by omega, by omega, rfl, by omega, Fr_tr b3 e7, e8, pd4⟩⟩
      · obtain ⟨C4, k4, f1, f2, f3, f4⟩ := z_addT 1 0 0 e5 e6
        rw [f1, ob_some]
        exact ⟨C4, rfl, Fr_tr b2 (Fr_tr d2 (sb_n f2)), Or.inr ⟨m + 1, k4, R6, by omega, fun v => by rw [show v + (m + 1) = v + m + 1 by omega, b4, e2], Fr_tr b3 e3, FA_B fa f2, f3, f4⟩⟩
  · -- a leaf
    have n4 : ¬ nI (l + 4) = 0 := nI_ne (b := 0) (by omega) (by omega) (by omega)
    rw [s1, if_neg n4]
    refine count 0 0 (nI l) (nI (l + 4)) ?_ (fun p p2 hop => ?_)
    · unfold fX11_operand fX11_operand_s8 fX11_operand_s15 fX11_operand_s20
      rw [s2, s4, s3, if_pos rfl, if_pos rfl, if_pos (show (0 : Int32) ≤ nI l from nI_le0 (by omega))]
    · obtain ⟨C2, R2, a1, a2, a3, a4, q2, a5, a6, lv2⟩ := t_adv lvO (gdO g)
      have cd2 : CDz C2 R2 n0 n1 k (o + 1) d := CDz_fr (CDz_one cd p) a3 a4 (fun k a q => by unfold XT at q; unfold SzB; omega) (fun k a q => by unfold XS at q; omega)
      unfold fRX5_readOne_s57
      rw [a1, ob_some, if_neg n4, if_neg (show ¬ nI (l + 4) = 1 from nI_ne (b := 1) (by omega) (by omega) (by omega))]
      have f41 : Fr (fun k a => a = 140 ∧ k = 41) R2 (sI R2 11 41 140 1) := Fr_sI Fr_id ⟨rfl, rfl⟩
      have fC2 : Fr SzN C C2 := Fr_tr fCO (xt_n a3)
      have fR2 : Fr SzM R (sI R2 11 41 140 1) := Fr_tr fRO (Fr_tr (Fr_mo a4 (fun k a q => by unfold XS at q; unfold SzM XG; omega)) (Fr_mo f41 (fun k a q => by unfold SzM; omega)))
      have e41 : gI (sI R2 11 41 140 1) 11 41 140 = 1 := gI_s
      have e39 : gI (sI R2 11 41 140 1) 11 39 140 = nI t := (gI_k (by decide)).trans ((a4.i (by unfold XS; omega)).trans ((gI_k (by decide)).trans h39))
      have e40 : gI (sI R2 11 41 140 1) 11 40 140 = nI dp := (gI_k (by decide)).trans ((a4.i (by unfold XS; omega)).trans ((gI_k (by decide)).trans h40))
      have e151 : ∀ j, gA (sI R2 11 41 140 1) 38 151 j = gA R 38 151 j := fun j => (f41.a (by omega)).trans ((a4.a (by unfold XS; omega)).trans rfl)
      have lv3 : LV C2 (sI R2 11 41 140 1) L 200 q2 := LV_fr lv2 (Fr_id (X := fun _ _ => False)) f41 (fun k a q => q.elim) (fun k a q => by omega)
      have cd3 : CDz C2 (sI R2 11 41 140 1) n0 n1 k (o + 1) d := CDz_fr cd2 (Fr_id (X := fun _ _ => False)) f41 (fun k a q => q.elim) (fun k a q => by omega)
      have hop2 : fX11_operand 140 R = fX11_operand_s131 140 (nI l) (sI R2 11 41 140 1) := by
        rw [hop]; unfold fX11_operand_s72
        rw [a2, ob_some, if_pos rfl, if_pos rfl]
      generalize sI R2 11 41 140 1 = R3 at *
      obtain ⟨C4, R4, d1, d2, d3, d4⟩ := z_leaf hl lv3 (FXz_fr fx fC2 fR2) cd3 (by omega) (by omega)
      rw [d1, ob_some]
      have fR4 : Fr SzM R R4 := Fr_tr fR2 (Fr_mo d3 (fun k a q => by unfold SzL XG at q; unfold SzM XG; omega))
      rcases d4 with ⟨q4, r1, lv4, cd4⟩ | ⟨r1, fa, k', k1, k2⟩
      · refine ⟨C4, rfl, Fr_tr fC2 d2, Or.inl ⟨1, 0, k + 1, o + 1, q4, [], R4, fun u => by rw [z_turn0 h41 (hop2.trans r1) u, if_neg i10], by omega, by omega, by omega, rfl, by omega, fR4, (d3.i (by unfold SzL XG; omega)).trans e41, ?_⟩⟩
        exact ⟨⟨lv4, cd4, (d3.i (by unfold SzL XG; omega)).trans e39, (d3.i (by unfold SzL XG; omega)).trans e40⟩, fun j hj => (d3.a (by unfold SzL XG; omega)).trans (e151 j)⟩
      · exact ⟨C4, rfl, Fr_tr fC2 d2, Or.inr ⟨1, k', R4, by omega, fun u => by rw [z_turn0 h41 (hop2.trans r1) u, if_pos rfl], fR4, fa, k1, k2⟩⟩
  · rw [s1, if_pos rfl]
    rcases s4 with ⟨s4, s5, g⟩ | ⟨s4, s5⟩
    · -- a bracket
      rw [if_pos s4]
      refine count 0 1 (-1) 0 ?_ (fun p p2 hop => ?_)
      · unfold fX11_operand fX11_operand_s8 fX11_operand_s15 fX11_operand_s20
        rw [s2, s5, s3, if_pos rfl, if_neg i10]
      · obtain ⟨C2, R5, q2, b1, b2, b3, b4, ss2, b5, b6, b7⟩ := opened g p 0 1 (-1) (fun h => i10 h.2) hop
        rw [if_pos rfl] at b6
        unfold fRX5_readOne_s57
        rw [b1, ob_some, if_pos rfl, nI_1]
        obtain ⟨C3, d1, d2, d3⟩ := z_cond (z_all (H1 (by omega))) (dp + 1) (t + 1) k (o + 1) d q2 C2 R5 (by omega) (by omega) ss2 (FXz_fr fx b2 b3) b5 (by omega) (Or.inr (by rw [Nat.add_sub_cancel]; exact b6))
        rw [d1, ob_some]
        rcases d3 with ⟨m, r3, k3, o3, q3, ps3, R6, e1, e2, e3, e4, e5, e6, e7, e8, pd3⟩ | ⟨m, k3, R6, e1, e2, e3, fa, e5, e6⟩
        · obtain ⟨e5a, e5b, e5c, e5d⟩ := e5
          obtain ⟨ck3, hb3, hd3, ho3, -⟩ := MMz_cd pd3
          obtain ⟨C4, R7, f1, f2, f3, f4, f5⟩ := z_close e8 (by omega) (by omega) e5a e5b b6 pd3 e5c e5d
          rw [f1, ob_some]
          refine ⟨C4, rfl, Fr_tr b2 (Fr_tr d2 f2), ?_⟩
          rcases f5 with ⟨q7, g1, g2, g3, g4⟩ | ⟨g1, g2⟩
          · exact Or.inl ⟨m + 2, 0, k3, o3, q7, [], R7, fun v => by rw [show v + (m + 2) = v + 1 + m + 1 by omega, b4, e1, g1], by omega, by omega, by omega, rfl, by omega, Fr_tr b3 (Fr_tr e7 f3), g3, ⟨g2, fun j hj => (g4 j hj).trans (b7 j hj)⟩⟩
          · exact Or.inr ⟨m + 2, k3, R7, by omega, fun v => by rw [show v + (m + 2) = v + 1 + m + 1 by omega, b4, e1, g1], Fr_tr b3 (Fr_tr e7 f3), g2, by omega, f4⟩
        · rw [show fX6_takeSign 1 41 C3 = some C3 from t_signF fa.1, ob_some]
          exact ⟨C3, rfl, Fr_tr b2 d2, Or.inr ⟨m + 1, k3, R6, by omega, fun v => by rw [show v + (m + 1) = v + m + 1 by omega, b4, e2], Fr_tr b3 e3, fa, e5, e6⟩⟩
    · rw [if_neg s4]
      refine bad 1 (by decide) _ rfl ?_
      unfold fX11_operand fX11_operand_s8 fX11_operand_s15 fX11_operand_s20 fX11_operand_s37
      rw [s2, s5, s3, if_pos rfl, if_pos rfl, if_neg m1_neg]
theorem z_ones (L n0 n1 : Nat) : ∀ n, P1z L n0 n1 (n + 1) := by
  intro n
  induction n with
  | zero => exact z_one (fun h => absurd h (by omega))
  | succ n ih => exact z_one (fun _ => ih)
