-- SENTENCE: codes on both sides, and what the reference still has on its stack
def SzN (k a : Nat) : Prop := XF k a ∨ (86 ≤ a ∧ a ≤ 89)
def SzB (k a : Nat) : Prop := 86 ≤ a ∧ a ≤ 89
def SzM (k a : Nat) : Prop := XG k a ∨ a = 144 ∨ a = 151 ∨ (a = 140 ∧ 37 ≤ k ∧ k ≤ 41)
def SzV (k a : Nat) : Prop := a = 144 ∨ (a = 140 ∧ (k = 37 ∨ k = 39 ∨ k = 40))
theorem Fr_sym {X : Nat → Nat → Prop} {S T : St} (h : Fr X S T) : Fr X T S := ⟨fun c k a n => (h.1 c k a n).symm, fun c k a n => (h.2.1 c k a n).symm, fun c a j n => (h.2.2.1 c a j n).symm, fun c a j n => (h.2.2.2.1 c a j n).symm, fun a j n => (h.2.2.2.2 a j n).symm⟩
theorem igd2 {α : Type} {k n : Nat} {x : Option α} (h : k < n) (hn : n < 2 ^ 31) : (if (nI k < 0 ∨ n ≤ k) then none else x) = x := if_neg (fun q => q.elim (nI_nlt (b := 0) (by omega) (by omega)) (by omega))
/-- a code put down by the reference -/
def zcd (R : St) (K : Nat) (a b c : Int32) : St := sI (sA (sA (sA R 31 144 (3 * K) a) 31 144 (3 * K + 1) b) 31 144 (3 * K + 2) c) 11 37 140 (nI (K + 1))
theorem z_code {R : St} {K : Nat} {a b c : Int32} (hK : K < 45) (h : gI R 11 37 140 = nI K) : fX11_code 140 a b c R = some (zcd R K a b c) := by
  have e1 : ∀ j v, gI (sA R 31 144 j v) 11 37 140 = nI K := fun _ _ => h
  have e2 : ∀ j v j' v', gI (sA (sA R 31 144 j v) 31 144 j' v') 11 37 140 = nI K := fun _ _ _ _ => h
  have e3 : ∀ j v j' v' j'' v'', gI (sA (sA (sA R 31 144 j v) 31 144 j' v') 31 144 j'' v'') 11 37 140 = nI K := fun _ _ _ _ _ _ => h
  unfold fX11_code fX11_code_s12 fX11_code_s26 fX11_code_s40 zcd
  rw [show (140 : Nat) + 4 = 144 from rfl, h, show (3 : Int32) * nI K = nI (3 * K) from pk_mul 3 K, igd (show 3 * K < 135 by omega) (by decide), nI_clamp (by omega), e1, show (3 : Int32) * nI K = nI (3 * K) from pk_mul 3 K, nI_1, igd (show 3 * K + 1 < 135 by omega) (by decide), nI_clamp (by omega), e2, show (3 : Int32) * nI K = nI (3 * K) from pk_mul 3 K, show nI (3 * K) + (2 : Int32) = nI (3 * K + 2) from nI_add _ 2, igd (show 3 * K + 2 < 135 by omega) (by decide), nI_clamp (by omega), e3, nI_1]
theorem zcd_fr {R : St} {K : Nat} {a b c : Int32} : Fr (fun k a => a = 144 ∨ (a = 140 ∧ k = 37)) R (zcd R K a b c) := by
  unfold zcd; exact Fr_sI (Fr_sA (Fr_sA (Fr_sA Fr_id (by omega)) (by omega)) (by omega)) (by omega)
theorem zcd_0 {R : St} {K : Nat} {a b c : Int32} : gA (zcd R K a b c) 31 144 (3 * K) = a := (gA_j (by omega)).trans ((gA_j (by omega)).trans gA_s)
theorem zcd_1 {R : St} {K : Nat} {a b c : Int32} : gA (zcd R K a b c) 31 144 (3 * K + 1) = b := (gA_j (by omega)).trans gA_s
theorem zcd_2 {R : St} {K : Nat} {a b c : Int32} : gA (zcd R K a b c) 31 144 (3 * K + 2) = c := gA_s
theorem zcd_j {R : St} {K j : Nat} {a b c : Int32} (h : j < 3 * K) : gA (zcd R K a b c) 31 144 j = gA R 31 144 j := (gA_j (by omega)).trans ((gA_j (by omega)).trans (gA_j (by omega)))
theorem zcd_n {R : St} {K : Nat} {a b c : Int32} : gI (zcd R K a b c) 11 37 140 = nI (K + 1) := gI_s
/-- a step put down by the class -/
def zad (C : St) (k : Nat) (a b c : Int32) : St := sI (sA (sA (sA C 18 87 k a) 19 88 k b) 20 89 k c) 5 3 86 (nI (k + 1))
theorem z_add {C : St} {k : Nat} {a b c : Int32} (hk : k < 40) (h : gI C 5 3 86 = nI k) : fX5_add 86 a b c C = some (zad C k a b c) := by
  have e1 : ∀ j v, gI (sA C 18 87 j v) 5 3 86 = nI k := fun _ _ => h
  have e2 : ∀ j v j' v', gI (sA (sA C 18 87 j v) 19 88 j' v') 5 3 86 = nI k := fun _ _ _ _ => h
  have e3 : ∀ j v j' v' j'' v'', gI (sA (sA (sA C 18 87 j v) 19 88 j' v') 20 89 j'' v'') 5 3 86 = nI k := fun _ _ _ _ _ _ => h
  unfold fX5_add fX5_add_s19 fX5_add_s29 fX5_add_s39 zad
  rw [show (86 : Nat) + 1 = 87 from rfl, show (86 : Nat) + 2 = 88 from rfl, show (86 : Nat) + 3 = 89 from rfl, h, if_neg (show ¬ (40 : Int32) ≤ nI k from nI_ge (b := 40) hk (by omega)), igd hk (by decide), nI_clamp (by omega), e1, igd hk (by decide), nI_clamp (by omega), e2, igd hk (by decide), nI_clamp (by omega), e3, nI_1]
theorem zad_fr {C : St} {k : Nat} {a b c : Int32} : Fr SzB C (zad C k a b c) := by
  unfold zad; exact Fr_sI (Fr_sA (Fr_sA (Fr_sA Fr_id (by unfold SzB; omega)) (by unfold SzB; omega)) (by unfold SzB; omega)) (by unfold SzB; omega)
theorem z_addT {C : St} {k : Nat} (a b c : Int32) (hk : k ≤ 40) (h : gI C 5 3 86 = nI k) : ∃ C' k', fX5_add 86 a b c C = some C' ∧ Fr SzB C C' ∧ k' ≤ 40 ∧ gI C' 5 3 86 = nI k' := by
  rcases Nat.lt_or_ge k 40 with q | q
  · exact ⟨_, k + 1, z_add q h, zad_fr, by omega, gI_s⟩
  · refine ⟨C, k, ?_, Fr_id, hk, h⟩
    unfold fX5_add
    rw [h, if_pos (show (40 : Int32) ≤ nI k from nI_le (a := 40) q (by omega))]
def CDz (C R : St) (n0 n1 k o d : Nat) : Prop := (gI C 5 3 86 = nI k ∧ gI C 5 4 86 = nI o ∧ gI R 11 37 140 = nI k ∧ gI R 11 38 140 = nI o) ∧ (∀ i, i < k → stepOk n0 n1 (gA C 18 87 i) (gA C 19 88 i) (gA C 20 89 i) (gA R 31 144 (3 * i)) (gA R 31 144 (3 * i + 1)) (gA R 31 144 (3 * i + 2))) ∧ (∀ i, i ≤ k → ∃ d', dptS (gA C 18 87) i = some d' ∧ d' ≤ 20) ∧ dptS (gA C 18 87) k = some d ∧ k + d ≤ 2 * o ∧ d ≤ o ∧ o ≤ 20
theorem CDz_fr {X Y : Nat → Nat → Prop} {C R C' R' : St} {n0 n1 k o d : Nat} (h : CDz C R n0 n1 k o d) (f : Fr X C C') (g : Fr Y R R') (hx : ∀ k a, X k a → ¬ SzB k a) (hy : ∀ k a, Y k a → ¬ (a = 144 ∨ (a = 140 ∧ (k = 37 ∨ k = 38)))) : CDz C' R' n0 n1 k o d := by
  obtain ⟨⟨h1, h2, h3, h4⟩, h5, h6, h7, h8⟩ := h
  have cx : ∀ k a, 86 ≤ a → a ≤ 89 → ¬ X k a := fun k a x y q => hx k a q ⟨x, y⟩
  have e1 : gA C' 18 87 = gA C 18 87 := funext fun j => f.a (cx _ _ (by omega) (by omega))
  refine ⟨⟨(f.i (cx _ _ (by omega) (by omega))).trans h1, (f.i (cx _ _ (by omega) (by omega))).trans h2, (g.i (fun q => hy _ _ q (by omega))).trans h3, (g.i (fun q => hy _ _ q (by omega))).trans h4⟩, fun i hi => ?_, by rw [e1]; exact h6, by rw [e1]; exact h7, h8⟩
  rw [e1, show gA C' 19 88 i = gA C 19 88 i from f.a (cx _ _ (by omega) (by omega)), show gA C' 20 89 i = gA C 20 89 i from f.a (cx _ _ (by omega) (by omega)), show ∀ j, gA R' 31 144 j = gA R 31 144 j from fun j => g.a (fun q => hy _ _ q (by omega)), show ∀ j, gA R' 31 144 j = gA R 31 144 j from fun j => g.a (fun q => hy _ _ q (by omega)), show ∀ j, gA R' 31 144 j = gA R 31 144 j from fun j => g.a (fun q => hy _ _ q (by omega))]
  exact h5 i hi
theorem CDz_one {C R : St} {n0 n1 k o d : Nat} (h : CDz C R n0 n1 k o d) (ho : o < 20) : CDz (sI C 5 4 86 (nI (o + 1))) (sI R 11 38 140 (nI (o + 1))) n0 n1 k (o + 1) d := by
  obtain ⟨⟨h1, h2, h3, h4⟩, h5, h6, h7, h8, h9, h10⟩ := h
  exact ⟨⟨(gI_k (by decide)).trans h1, gI_s, (gI_k (by decide)).trans h3, gI_s⟩, h5, h6, h7, by omega, by omega, by omega⟩
theorem CDz_step {C R : St} {n0 n1 k o d d' : Nat} (h : CDz C R n0 n1 k o d) (hk : k < 40) {a b c x y z : Int32} (hs : stepOk n0 n1 a b c x y z) (hd : (if a = 1 then (if 1 ≤ d then some d else none) else if a = 2 ∨ a = 3 then (if 2 ≤ d then some (d - 1) else none) else some (d + 1)) = some d') (hd1 : d' ≤ o) (hd2 : k + 1 + d' ≤ 2 * o) : CDz (zad C k a b c) (zcd R k x y z) n0 n1 (k + 1) o d' := by
  obtain ⟨⟨h1, h2, h3, h4⟩, h5, h6, h7, h8, h9, h10⟩ := h
  have a18 : ∀ i, i < k → gA (zad C k a b c) 18 87 i = gA C 18 87 i := fun i hi => (gA_c (by decide)).trans ((gA_c (by decide)).trans (gA_j (by omega)))
  have a18k : gA (zad C k a b c) 18 87 k = a := (gA_c (by decide)).trans ((gA_c (by decide)).trans gA_s)
  have a19 : ∀ i, i < k → gA (zad C k a b c) 19 88 i = gA C 19 88 i := fun i hi => (gA_c (by decide)).trans ((gA_j (by omega)).trans (gA_c (by decide)))
  have a19k : gA (zad C k a b c) 19 88 k = b := (gA_c (by decide)).trans gA_s
  have a20 : ∀ i, i < k → gA (zad C k a b c) 20 89 i = gA C 20 89 i := fun i hi => (gA_j (by omega)).trans ((gA_c (by decide)).trans (gA_c (by decide)))
  have a20k : gA (zad C k a b c) 20 89 k = c := gA_s
  have dd : ∀ i, i ≤ k → dptS (gA (zad C k a b c) 18 87) i = dptS (gA C 18 87) i := fun i hi => dptS_eq i (fun j hj => a18 j (by omega))
  have dk : dptS (gA (zad C k a b c) 18 87) (k + 1) = some d' := by
    show (match dptS (gA (zad C k a b c) 18 87) k with | none => none | some d => if gA (zad C k a b c) 18 87 k = 1 then (if 1 ≤ d then some d else none) else if gA (zad C k a b c) 18 87 k = 2 ∨ gA (zad C k a b c) 18 87 k = 3 then (if 2 ≤ d then some (d - 1) else none) else some (d + 1)) = some d'
    rw [dd k (Nat.le_refl _), h7, a18k]; exact hd
  refine ⟨⟨gI_s, ?_, zcd_n, (zcd_fr.i (by omega)).trans h4⟩, fun i hi => ?_, fun i hi => ?_, dk, hd2, hd1, h10⟩
  · exact (gI_k (by decide)).trans h2
  · rcases Nat.lt_or_ge i k with q | q
    · rw [a18 i q, a19 i q, a20 i q, zcd_j (by omega), zcd_j (by omega), zcd_j (by omega)]; exact h5 i q
    · rw [show i = k by omega, a18k, a19k, a20k, zcd_0, zcd_1, zcd_2]; exact hs
  · rcases Nat.lt_or_ge k i with q | q
    · rw [show i = k + 1 by omega]; exact ⟨d', dk, by omega⟩
    · rw [dd i q]; exact h6 i q
/-- a pending sign popped from the stack and put down -/
def zpp (x : Int32) (T : Nat) (R : St) : St := if x = 20 then sI (sI R 11 39 140 (nI T)) 11 40 140 (gI R 11 40 140 - 1) else sI R 11 39 140 (nI T)
theorem zpp_fr {x : Int32} {T : Nat} {R : St} : Fr (fun k a => a = 140 ∧ (k = 39 ∨ k = 40)) R (zpp x T R) := by
  unfold zpp
  by_cases q : x = 20
  · rw [if_pos q]; exact Fr_sI (Fr_sI Fr_id (by omega)) (by omega)
  · rw [if_neg q]; exact Fr_sI Fr_id (by omega)
def PDz (M : St → Prop) : List Int32 → St → Prop
  | [], R => M R
  | x :: ps, R => ∃ T K : Nat, T < 44 ∧ K < 45 ∧ gI R 11 39 140 = nI (T + 1) ∧ gI R 11 37 140 = nI K ∧ gA R 38 151 T = x ∧ PDz M ps (zcd (zpp x T R) K x 0 0)
theorem zst_fr {x : Int32} {T K : Nat} {R : St} : Fr SzV R (zcd (zpp x T R) K x 0 0) := Fr_tr (Fr_mo zpp_fr (fun k a q => by unfold SzV; omega)) (Fr_mo zcd_fr (fun k a q => by unfold SzV; omega))
theorem PDz_map {M M' : St → Prop} {qs : List Int32} (h : ∀ Z, M Z → PDz M' qs Z) : ∀ (ps : List Int32) (R : St), PDz M ps R → PDz M' (ps ++ qs) R := by
  intro ps
  induction ps with
  | nil => intro R g; exact h R g
  | cons x ps ih =>
    intro R g
    obtain ⟨T, K, g1, g2, g3, g4, g5, g6⟩ := g
    exact ⟨T, K, g1, g2, g3, g4, g5, ih _ g6⟩
theorem PDz_fr {M : St → Prop} : ∀ (ps : List Int32) (R : St), PDz M ps R → ∃ Z, Fr SzV R Z ∧ M Z := by
  intro ps
  induction ps with
  | nil => intro R g; exact ⟨R, Fr_id, g⟩
  | cons x ps ih =>
    intro R g
    obtain ⟨T, K, g1, g2, g3, g4, g5, g6⟩ := g
    obtain ⟨Z, z1, z2⟩ := ih _ g6
    exact ⟨Z, Fr_tr zst_fr z1, z2⟩
/-- the sign on top of the stack is no NOT -/
def NoN (Z : St) : Prop := gI Z 11 39 140 = 0 ∨ ∃ T, T < 44 ∧ gI Z 11 39 140 = nI (T + 1) ∧ ¬ gA Z 38 151 T = 20
def NoJ (x1 : Int32) (Z : St) : Prop := gI Z 11 39 140 = 0 ∨ ∃ T, T < 44 ∧ gI Z 11 39 140 = nI (T + 1) ∧ ¬ gA Z 38 151 T = 21 ∧ (gA Z 38 151 T = 22 → ¬ x1 = 22)
theorem nI_p1 (T : Nat) : nI (T + 1) - 1 = nI T := nI_pred T
theorem z_nots {M : St → Prop} {rest : List Int32} (stop : ∀ Z, PDz M rest Z → NoN Z) : ∀ (r u : Nat) (R : St), r < u → PDz M (List.replicate r 20 ++ rest) R → ∃ Z, fX11_nots_h0 140 u R = some Z ∧ Fr SzV R Z ∧ PDz M rest Z := by
  intro r
  induction r with
  | zero =>
    intro u R hu g
    obtain ⟨u, rfl⟩ : ∃ k', u = k' + 1 := ⟨u - 1, by omega⟩
    have g' : PDz M rest R := g
    refine ⟨R, ?_, Fr_id, g'⟩
    rw [fX11_nots_h0]; unfold fX11_nots_s0
    rcases stop R g' with z | ⟨T, t1, t2, t3⟩
    · rw [z, if_pos (show (0 : Int32) ≤ 0 by decide)]
    · rw [t2, if_neg (show ¬ nI (T + 1) ≤ 0 from nI_ge (a := 0) (by omega) (by omega)), nI_p1, igd (show T < 45 by omega) (by decide), nI_clamp (by omega), show (140 : Nat) + 11 = 151 from rfl, if_neg t3]
  | succ r ih =>
    intro u R hu g
    obtain ⟨u, rfl⟩ : ∃ k', u = k' + 1 := ⟨u - 1, by omega⟩
    have g' : PDz M (20 :: (List.replicate r 20 ++ rest)) R := g
    obtain ⟨T, K, g1, g2, g3, g4, g5, g6⟩ := g'
    obtain ⟨Z, z1, z2, z3⟩ := ih u _ (by omega) g6
    refine ⟨Z, ?_, Fr_tr zst_fr z2, z3⟩
    rw [fX11_nots_h0]; unfold fX11_nots_s0 fX11_nots_s33 fX11_nots_s43
    rw [g3, if_neg (show ¬ nI (T + 1) ≤ 0 from nI_ge (a := 0) (by omega) (by omega)), nI_p1, igd (show T < 45 by omega) (by decide), nI_clamp (by omega), show (140 : Nat) + 11 = 151 from rfl, if_pos g5, show gI (sI R 11 39 140 (nI T)) 11 40 140 = gI R 11 40 140 from gI_k (by decide), show sI (sI R 11 39 140 (nI T)) 11 40 140 (gI R 11 40 140 - 1) = zpp 20 T R from (if_pos rfl).symm, z_code g2 ((zpp_fr.i (by omega)).trans g4), ob_some]
    exact z1
theorem z_joins {M : St → Prop} {x1 : Int32} (stop : ∀ Z, M Z → NoJ x1 Z) : ∀ (ps : List Int32) (u : Nat) (R : St), ps.length < u → (∀ x, x ∈ ps → x = 21 ∨ (x = 22 ∧ x1 = 22)) → PDz M ps R → ∃ Z, fX11_joins_h0 140 x1 u R = some Z ∧ Fr SzV R Z ∧ M Z := by
  intro ps
  induction ps with
  | nil =>
    intro u R hu hp g
    obtain ⟨u, rfl⟩ : ∃ k', u = k' + 1 := ⟨u - 1, by omega⟩
    have g' : M R := g
    refine ⟨R, ?_, Fr_id, g'⟩
    rw [fX11_joins_h0]; unfold fX11_joins_s0
    rcases stop R g' with z | ⟨T, t1, t2, t3, t4⟩
    · rw [z, if_pos (show (0 : Int32) ≤ 0 by decide)]
    · rw [t2, if_neg (show ¬ nI (T + 1) ≤ 0 from nI_ge (a := 0) (by omega) (by omega)), nI_p1, igd (show T < 45 by omega) (by decide), nI_clamp (by omega), show (140 : Nat) + 11 = 151 from rfl, if_neg t3, igd2 (show T < 45 by omega) (by decide)]
      by_cases q : gA R 38 151 T = 22
      · rw [if_pos q, if_neg (t4 q)]
      · rw [if_neg q]
  | cons x ps ih =>
    intro u R hu hp g
    obtain ⟨u, rfl⟩ : ∃ k', u = k' + 1 := ⟨u - 1, by omega⟩
    obtain ⟨T, K, g1, g2, g3, g4, g5, g6⟩ := g
    have hx := hp x (List.mem_cons_self ..)
    have n20 : ¬ x = 20 := by rcases hx with h | h; (rw [h]; decide); (rw [h.1]; decide)
    have hl : ps.length < u := by have : (x :: ps).length = ps.length + 1 := rfl; omega
    obtain ⟨Z, z1, z2, z3⟩ := ih u _ hl (fun y hy => hp y (List.mem_cons_of_mem _ hy)) g6
    refine ⟨Z, ?_, Fr_tr zst_fr z2, z3⟩
    have e45 : fX11_joins_s45 (fX11_joins_h0 140 x1 u) 140 x1 R = some Z := by
      unfold fX11_joins_s45 fX11_joins_s55
      rw [g3, nI_p1, show gI (sI R 11 39 140 (nI T)) 11 39 140 = nI T from gI_s, igd (show T < 45 by omega) (by decide), nI_clamp (by omega), show (140 : Nat) + 11 = 151 from rfl, show gA (sI R 11 39 140 (nI T)) 38 151 T = x from g5, show sI R 11 39 140 (nI T) = zpp x T R from (if_neg n20).symm, z_code g2 ((zpp_fr.i (by omega)).trans g4), ob_some]
      exact z1
    rw [fX11_joins_h0]; unfold fX11_joins_s0
    rw [e45, g3, if_neg (show ¬ nI (T + 1) ≤ 0 from nI_ge (a := 0) (by omega) (by omega)), nI_p1, igd (show T < 45 by omega) (by decide), nI_clamp (by omega), show (140 : Nat) + 11 = 151 from rfl, g5]
    rcases hx with h | ⟨h, h'⟩
    · rw [if_pos h]
    · rw [if_neg (show ¬ x = 21 by rw [h]; decide), igd2 (show T < 45 by omega) (by decide), if_pos h, if_pos h']
