-- the draft of a valley on both sides
def XB (k a : Nat) : Prop := 72 ≤ a ∧ a ≤ 85
def XV (k a : Nat) : Prop := XF k a ∨ XB k a
def XN (k a : Nat) : Prop := XG k a ∨ a = 143 ∨ a = 145 ∨ (a = 140 ∧ k = 20)
def KN (R R' : St) : Prop := ∀ j, j < 11 → gB R' 32 145 j = gB R 32 145 j
def HR (R : St) (n : Nat → Nat) : Prop := ∀ j, j < 52 → gA R 30 143 j = nI (n j)
def up (n : Nat → Nat) (j v : Nat) : Nat → Nat := fun i => if i = j then v else n i
theorem up_s {n : Nat → Nat} {j v : Nat} : up n j v j = v := if_pos rfl
theorem up_n {n : Nat → Nat} {j v i : Nat} (h : i ≠ j) : up n j v i = n i := if_neg h
def DvB (n : Nat → Nat) (p : Nat) : Prop := (2 ≤ n (4 + p) ∧ n (4 + p) ≤ 13) ∧ (2 ≤ n (9 + p) ∧ n (9 + p) ≤ 30) ∧ (2 ≤ n (14 + p) ∧ n (14 + p) ≤ 9) ∧ n (19 + p) ≤ 999 ∧ n (24 + p) ≤ 9 ∧ 1 ≤ n (29 + p) ∧ n (29 + p) ≤ 9
def DvP (C R : St) (n : Nat → Nat) (p : Nat) : Prop := CP C (75 + p) (n (4 + p)) (n (9 + p)) (n (24 + p)) (n (29 + p)) (n (14 + p)) ∧ gI C 4 1 (75 + p) = nI (n (19 + p)) ∧ DvB n p ∧ gJ C 4 0 (75 + p) = gB R 32 145 (11 + p) ∧ 0 ≤ (gB R 32 145 (11 + p)).toInt ∧ (gB R 32 145 (11 + p)).toInt < 72057594037927936
def DvF (C R : St) (n : Nat → Nat) (f : Nat) : Prop := (gI C 3 1 (80 + f) = nI (n (34 + f)) ∧ gI C 3 2 (80 + f) = nI (n (40 + f)) ∧ gI C 3 3 (80 + f) = nI (n (46 + f))) ∧ n (34 + f) < n 0 ∧ n (40 + f) < n (4 + n (34 + f)) ∧ n (46 + f) < n (9 + n (34 + f)) ∧ gJ C 3 0 (80 + f) = gB R 32 145 (16 + f)
def DvC (C R : St) (n : Nat → Nat) : Prop := gI C 8 2 72 = nI (n 0) ∧ gI C 8 3 72 = nI (n 1) ∧ gI C 8 4 72 = nI (n 2) ∧ gI C 8 5 72 = nI (n 3) ∧ gI C 8 6 72 = gI R 11 20 140 ∧ (gI C 8 6 72 = 0 ∨ gI C 8 6 72 = 1)
def Dv0 (n : Nat → Nat) : Prop := n 0 ≤ 5 ∧ n 1 ≤ 6 ∧ 1 ≤ n 2 ∧ n 2 ≤ 999 ∧ 1 ≤ n 3 ∧ n 3 ≤ 30
def DV (C R : St) (n : Nat → Nat) : Prop := Dv0 n ∧ HR R n ∧ DvC C R n ∧ (∀ p, p < n 0 → DvP C R n p) ∧ (∀ p, n 0 ≤ p → p < 5 → n (24 + p) = 0 ∧ n (29 + p) = 1) ∧ ∀ f, f < n 1 → DvF C R n f
theorem LV_fr {X Y : Nat → Nat → Prop} {C R C' R' : St} {L M q : Nat} (h : LV C R L M q) (f : Fr X C C') (g : Fr Y R R') (hx : ∀ k a, X k a → ¬ (a = 1 ∨ a = 2)) (hy : ∀ k a, Y k a → ¬ (a = 141 ∨ (a = 140 ∧ (k ≤ 17)))) : LV C' R' L M q := by
  obtain ⟨tb, z8, z15, tk⟩ := h
  refine ⟨TB_fr tb f g (fun k a q r => hx k a q (by omega)) (fun k a q r => hy k a q (by omega)), (f.i (fun q => hx _ _ q (by omega))).trans z8, (g.i (fun q => hy _ _ q (by omega))).trans z15, ?_⟩
  have c1 : ∀ k, gI C' 6 k 1 = gI C 6 k 1 := fun k => f.i (fun q => hx _ _ q (by omega))
  have c2 : gJ C' 6 6 1 = gJ C 6 6 1 := f.j (fun q => hx _ _ q (by omega))
  have r1 : ∀ k, k ≤ 17 → gI R' 11 k 140 = gI R 11 k 140 := fun k hk => g.i (fun q => hy _ _ q (by omega))
  have r2 : gJ R' 11 17 140 = gJ R 11 17 140 := g.j (fun q => hy _ _ q (by omega))
  unfold Tk
  rw [c1, c1, c1, c1, c2, r1 12 (by omega), r1 11 (by omega), r1 4 (by omega), r1 14 (by omega), r2]
  exact tk
theorem FA_fr {X Y : Nat → Nat → Prop} {C R C' R' : St} (h : FA C R) (f : Fr X C C') (g : Fr Y R R') (hx : ∀ k a, X k a → ¬ (a = 1)) (hy : ∀ k a, Y k a → ¬ (a = 140 ∧ (k = 15 ∨ k = 16))) : FA C' R' := by
  unfold FA
  rw [show gI C' 6 8 1 = gI C 6 8 1 from f.i (fun q => hx _ _ q (by omega)), show gI C' 6 9 1 = gI C 6 9 1 from f.i (fun q => hx _ _ q (by omega)), show gI R' 11 15 140 = gI R 11 15 140 from g.i (fun q => hy _ _ q (by omega)), show gI R' 11 16 140 = gI R 11 16 140 from g.i (fun q => hy _ _ q (by omega))]
  exact h
theorem XB_fa {C R C' : St} (h : FA C R) (f : Fr XB C C') : FA C' R := FA_fr h f (Fr_id (X := fun _ _ => False)) (fun k a q => by unfold XB at q; omega) (fun k a q => q.elim)
theorem DV_fr {X Y : Nat → Nat → Prop} {C R C' R' : St} {n : Nat → Nat} (h : DV C R n) (f : Fr X C C') (g : Fr Y R R') (hx : ∀ k a, X k a → ¬ XB k a) (hy : ∀ k a, Y k a → ¬ (a = 143 ∨ a = 145 ∨ (a = 140 ∧ k = 20))) : DV C' R' n := by
  obtain ⟨h1, h2, ⟨a1, a2, a3, a4, a5, a6⟩, h4, h5, h6⟩ := h
  have ci : ∀ c k a, 72 ≤ a → a ≤ 85 → gI C' c k a = gI C c k a := fun c k a x y => f.i (fun q => hx _ _ q ⟨x, y⟩)
  have cj : ∀ c k a, 72 ≤ a → a ≤ 85 → gJ C' c k a = gJ C c k a := fun c k a x y => f.j (fun q => hx _ _ q ⟨x, y⟩)
  have rb : ∀ j, gB R' 32 145 j = gB R 32 145 j := fun j => g.b (fun q => hy _ _ q (by omega))
  have r20 : gI R' 11 20 140 = gI R 11 20 140 := g.i (fun q => hy _ _ q (by omega))
  have hn := h1.1
  have hn1 := h1.2.1
  refine ⟨h1, fun j hj => (g.a (fun q => hy _ _ q (by omega))).trans (h2 j hj), ?_, fun p hp => ?_, h5, fun e he => ?_⟩
  · unfold DvC
    rw [ci 8 2 72 (by omega) (by omega), ci 8 3 72 (by omega) (by omega), ci 8 4 72 (by omega) (by omega), ci 8 5 72 (by omega) (by omega), ci 8 6 72 (by omega) (by omega), r20]
    exact ⟨a1, a2, a3, a4, a5, a6⟩
  · have := h4 p hp
    unfold DvP CP at this ⊢
    rw [ci 4 2 _ (by omega) (by omega), ci 4 3 _ (by omega) (by omega), ci 4 4 _ (by omega) (by omega), ci 4 5 _ (by omega) (by omega), ci 4 6 _ (by omega) (by omega), ci 4 1 _ (by omega) (by omega), cj 4 0 _ (by omega) (by omega), rb]
    exact this
  · have := h6 e he
    unfold DvF at this ⊢
    rw [ci 3 1 _ (by omega) (by omega), ci 3 2 _ (by omega) (by omega), ci 3 3 _ (by omega) (by omega), cj 3 0 _ (by omega) (by omega), rb]
    exact this
theorem DV.pn {C R : St} {n : Nat → Nat} (h : DV C R n) : PN C R 72 11 (n 0) := ⟨h.2.2.1.1, h.1.1, fun p hp => (h.2.2.2.1 p hp).2.2.2.1⟩
theorem DV.fn {C R : St} {n : Nat → Nat} (h : DV C R n) : FN C R 72 16 (n 1) := ⟨h.2.2.1.2.1, h.1.2.1, fun f hf => (h.2.2.2.2.2 f hf).2.2.2.2⟩
theorem RS_x {R R' : St} (h : RS R) (g : Fr XN R R') : RS R' := RS_fr g (by unfold XN XG; omega) h
/-- a number taken and put into row j of the reference's draft -/
theorem t_put {C R : St} {L M q : Nat} (h : LV C R L M q) {a b j : Nat} (ha : a < 2 ^ 31) (hb : b < 2 ^ 31) (hj : j < 52) : (∃ (v : Nat) (C' R' : St) (q' : Nat), fX6_takeNumber 1 (nI a) (nI b) C = some (nI v, C') ∧ fX11_puts 140 (nI j) (nI a) (nI b) R = some (1, R') ∧ a ≤ v ∧ v ≤ b ∧ v ≤ 999 ∧ Fr XF C C' ∧ Fr (fun k a => XG k a ∨ a = 143) R R' ∧ (∀ n, HR R n → HR R' (up n j v)) ∧ q ≤ q' ∧ (gI C' 6 5 1 = 0 ∨ gI C' 6 5 1 = 3 ∨ q < q') ∧ LV C' R' L M q') ∨ (∃ C' R', fX6_takeNumber 1 (nI a) (nI b) C = some (nI a, C') ∧ fX11_puts 140 (nI j) (nI a) (nI b) R = some (0, R') ∧ Fr XF C C' ∧ Fr XG R R' ∧ FA C' R') := by
  unfold fX11_puts fX11_puts_s6 fX11_puts_s21
  rcases t_num h ha hb with ⟨v, C', R', q', r1, r2, r3, r4, r5, r6, r7, r8, r9, r10, r11⟩ | ⟨C', R', r1, r2, r3, r4, r5⟩
  · rw [r1, r2, ob_some, if_neg i10, igd hj (by decide), nI_clamp (by omega), r3]
    have f1 : Fr (fun k a => XG k a ∨ a = 143) R (sA R' 30 143 j (nI v)) := Fr_sA (Fr_mo r8 (fun k a z => Or.inl z)) (Or.inr rfl)
    refine Or.inl ⟨v, C', sA R' 30 143 j (nI v), q', rfl, rfl, r4, r5, r6, r7, f1, fun n hn i hi => ?_, r9, r10, r11⟩
    by_cases e : i = j
    · subst e; rw [up_s]; exact gA_s
    · rw [up_n e]; exact (gA_j e).trans ((r8.a (by unfold XG; omega)).trans (hn i hi))
  · rw [r1, r2, ob_some, if_pos rfl]
    exact Or.inr ⟨C', R', rfl, rfl, r3, r4, r5⟩
-- a parish
theorem pF49 {C : St} {n0 : Nat} {w : Int64} {y4 y5 y6 : Int32} (h : ¬ gI C 6 8 1 = 0) (hn : gI C 8 2 72 = nI n0) (h5 : n0 < 5) : ∃ C', fX8_readParish_s49 72 1 w y4 y5 y6 C = some C' ∧ Fr XB C C' := by
  unfold fX8_readParish_s49
  rw [hn, igd h5 (by decide), t_numF h, ob_some, nI_clamp (by omega)]
  have e1 : gI (fX4_tellName (72 + 1 + 2 + n0) w 0 C) 8 2 72 = nI n0 := by
    unfold fX4_tellName fX4_tellName_s5 fX4_tellName_s10 fX4_tellName_s15
    rw [gI_c (by decide), gI_c (by decide), gI_c (by decide)]; exact hn
  unfold fX8_readParish_s69 fX8_readParish_s72 fX8_readParish_s90
  rw [e1, igd h5 (by decide), nI_clamp (by omega)]
  refine ⟨_, rfl, ?_⟩
  unfold fX4_tellYear fX4_tellYear_s9 fX4_tellYear_s18 fX4_tellName fX4_tellName_s5 fX4_tellName_s10 fX4_tellName_s15
  have xb : ∀ k, XB k (72 + 1 + 2 + n0) := fun k => by unfold XB; omega
  exact Fr_sI (Fr_sI (Fr_sI (Fr_sI (Fr_sI (Fr_sI (Fr_sI (Fr_sJ Fr_id (xb _)) (xb _)) (xb _)) (xb _)) (xb _)) (xb _)) (xb _)) (by unfold XB; omega)
theorem pF40 {C : St} {n0 : Nat} {w : Int64} {y4 y5 : Int32} (h : ¬ gI C 6 8 1 = 0) (hn : gI C 8 2 72 = nI n0) (h5 : n0 < 5) : ∃ C', fX8_readParish_s40 72 1 w y4 y5 C = some C' ∧ Fr XB C C' := by
  unfold fX8_readParish_s40; rw [t_numF h, ob_some]; exact pF49 h hn h5
theorem pF31 {C : St} {n0 : Nat} {w : Int64} {y4 : Int32} (h : ¬ gI C 6 8 1 = 0) (hn : gI C 8 2 72 = nI n0) (h5 : n0 < 5) : ∃ C', fX8_readParish_s31 72 1 w y4 C = some C' ∧ Fr XB C C' := by
  unfold fX8_readParish_s31; rw [t_numF h, ob_some]; exact pF40 h hn h5
theorem pF23 {C : St} {n0 : Nat} {w : Int64} (h : ¬ gI C 6 8 1 = 0) (hn : gI C 8 2 72 = nI n0) (h5 : n0 < 5) : ∃ C', fX8_readParish_s23 72 1 w C = some C' ∧ Fr XB C C' := by
  unfold fX8_readParish_s23; rw [t_numF h, ob_some]; exact pF31 h hn h5
/-- what a line of the valley does on both sides -/
def LnO (C R : St) (L M q : Nat) (c : Option St) (r : Option (Int32 × St)) : Prop := ∃ C' R', Fr XV C C' ∧ Fr XN R R' ∧ KN R R' ∧ ((∃ q' n, c = some C' ∧ r = some (1, R') ∧ q ≤ q' ∧ (gI C' 6 5 1 = 0 ∨ gI C' 6 5 1 = 3 ∨ q < q') ∧ LV C' R' L M q' ∧ DV C' R' n) ∨ (c = some C' ∧ r = some (0, R') ∧ FA C' R'))
theorem lt5 {n : Nat} (h : n ≤ 5) : (nI n < (5 : Int32)) ↔ n < 5 := ⟨fun q => Nat.not_le.mp (fun r => nI_nlt (a := n) (b := 5) r (by omega) q), fun q => nI_lt (b := 5) q (by omega)⟩
