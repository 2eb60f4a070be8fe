def XR (k a : Nat) : Prop := XQ k a ∨ (a = 140 ∧ k = 33)
theorem xq_r {C C' : St} (f : Fr XQ C C') : Fr XR C C' := Fr_mo f (fun k a q => Or.inl q)
def BkV (x1 : Int32) (C R : St) (n0 : Nat) (c : Option St) (r : Option (Int32 × St)) : Prop := ∃ C' R', c = some C' ∧ Fr XP C C' ∧ Fr XR R R' ∧ ((∃ K, K ≤ 40 ∧ (r = (fX11_tries 140 R').bind fun z => fX11_book_h89 140 x1 NN 0 z) ∧ gI C' 6 8 1 = 0 ∧ gI R' 11 15 140 = 0 ∧ gI C' 1 2 90 = nI K ∧ gI R' 11 33 140 = nI K ∧ ∀ i, i < K → BkL C' R' n0 i) ∨ (r = some (-2 - gI R' 11 16 140, R') ∧ FA C' R'))
theorem BkV_tr {x1 : Int32} {C R C' R' : St} {n0 : Nat} {c : Option St} {r : Option (Int32 × St)} (f : Fr XP C C') (g : Fr XR R R') (h : BkV x1 C' R' n0 c r) : BkV x1 C R n0 c r := by
  obtain ⟨A, B, h1, h2, h3, h4⟩ := h
  exact ⟨A, B, h1, Fr_tr f h2, Fr_tr g h3, h4⟩
theorem PN_fr {C R C' R' : St} {n0 : Nat} (h : PN C R 4 0 n0) (f : Fr XP C C') (g : Fr XR R R') : PN C' R' 4 0 n0 := by
  obtain ⟨h1, h2, h3⟩ := h
  refine ⟨(f.i (by unfold XP XF; omega)).trans h1, h2, fun p hp => ?_⟩
  rw [show gJ C' 4 0 (4 + 3 + p) = gJ C 4 0 (4 + 3 + p) from f.j (by unfold XP XF; omega), show gB R' 32 145 (0 + p) = gB R 32 145 (0 + p) from g.b (by unfold XR XQ XG; omega)]
  exact h3 p hp
theorem t_zero {C R : St} {L M q : Nat} (lv : LV C R L M q) : (gI C 6 5 1 = 0) ↔ (gI R 11 11 140 = 0) := by
  rcases t_cases lv with ⟨a, b⟩ | ⟨a, b⟩ | ⟨g, a, b, -⟩ | ⟨g, a, b, -⟩ | ⟨g, c, c0, a, b, -⟩
  · rw [a, b]
  · rw [a, b]; exact ⟨fun h => absurd h (by decide), fun h => absurd h (by decide)⟩
  · rw [a, b]
  · rw [a, b]
  · rw [a, b]; exact ⟨fun h => by have := (nI_eq (a := c) (b := 0) (by omega) (by omega)).mp h; omega, fun h => absurd h (by decide)⟩
theorem l_book {x1 : Int32} {L M n0 : Nat} : ∀ (m K u v q : Nat) (C R : St), K + m = 41 → K ≤ 40 → m < u → m < v → LV C R L M q → RS R → PN C R 4 0 n0 → gA R 29 142 0 = nI n0 → gI C 1 2 90 = nI K → gI R 11 33 140 = nI K → (∀ i, i < K → BkL C R n0 i) → BkV x1 C R n0 (fX1_readFrom_h14 90 1 4 u (nI K) C) (fX11_book_h39 140 x1 v R) := by
  intro m
  induction m with
  | zero => intro K u v q C R hm hK; omega
  | succ m ih =>
    intro K u v q C R hm hK hu hv lv rs pn h0 hc hr bk
    obtain ⟨u, rfl⟩ : ∃ k', u = k' + 1 := ⟨u - 1, by omega⟩
    obtain ⟨v, rfl⟩ : ∃ k', v = k' + 1 := ⟨v - 1, by omega⟩
    rw [fX1_readFrom_h14, fX11_book_h39]; unfold fX1_readFrom_s14 fX11_book_s39
    rw [if_neg (show ¬ (40 : Int32) < nI K from Int32.not_lt.mpr (nI_le (b := 40) hK (by omega)))]
    by_cases k0 : gI C 6 5 1 = 0
    · have go : fX6_goesOn 1 C = 0 := by unfold fX6_goesOn; rw [if_pos lv.2.1, if_pos k0]
      rw [go, if_pos rfl, if_pos ((t_zero lv).mp k0)]
      exact ⟨C, R, rfl, Fr_id, Fr_id, Or.inl ⟨K, hK, rfl, lv.2.1, lv.2.2.1, hc, hr, bk⟩⟩
    · have go : fX6_goesOn 1 C = 1 := by unfold fX6_goesOn; rw [if_pos lv.2.1, if_neg k0]
      rw [go, if_neg i10, if_neg (fun h => k0 ((t_zero lv).mpr h))]
      have fin : ∀ (A B : St), FA A B → BkV x1 A B n0 (fX1_readFrom_h14 90 1 4 u (nI K + 1) A) (some (-2 - gI B 11 16 140, B)) := fun A B fa => by
        obtain ⟨u, rfl⟩ : ∃ k', u = k' + 1 := ⟨u - 1, by omega⟩
        rw [fX1_readFrom_h14]; unfold fX1_readFrom_s14
        rw [goF fa.1, if_pos rfl, ite_self]
        exact ⟨A, B, rfl, Fr_id, Fr_id, Or.inr ⟨rfl, fa⟩⟩
      obtain ⟨C1, R1, f1, f2, h1⟩ := b_line lv rs pn h0 hK hc hr bk
      rcases h1 with ⟨q1, e1, e2, e3, e4, lv1, e5, e6, bk1⟩ | ⟨e1, e2, fa⟩
      · rw [e1, ob_some, e2, ob_some]
        unfold fX11_book_s50
        rw [if_neg i10]
        rcases t_sign (x := 59) (by omega) lv1 with ⟨C2, R2, q2, k59, s1, s2, s3, s4, s5, s6, lv2⟩ | ⟨C2, R2, s1, s2, s3, s4, fa⟩
        · rw [show fX6_takeSign 1 59 C1 = some C2 from s1, ob_some, show fX11_sign 140 59 R1 = _ from s2, ob_some]
          unfold fX11_book_s59 fX11_book_s80
          have h33 : gI R2 11 33 140 = nI K := (s4.i (by unfold XG; omega)).trans ((f2.i (by unfold XQ XG; omega)).trans hr)
          rw [if_neg i10, h33, nI_1]
          have f33 : Fr (fun k a => a = 140 ∧ k = 33) R2 (sI R2 11 33 140 (nI (K + 1))) := Fr_sI Fr_id ⟨rfl, rfl⟩
          have lv3 : LV C2 (sI R2 11 33 140 (nI (K + 1))) L M q2 := LV_fr lv2 (Fr_id (X := fun _ _ => False)) f33 (fun k a q => q.elim) (fun k a q => by omega)
          have fC : Fr XP C C2 := Fr_tr f1 (xf_p s3)
          have fR : Fr XR R (sI R2 11 33 140 (nI (K + 1))) := Fr_tr (xq_r (Fr_tr f2 (xg_q s4))) (Fr_mo f33 (fun k a q => Or.inr q))
          refine BkV_tr fC fR (ih (K + 1) u v q2 C2 (sI R2 11 33 140 (nI (K + 1))) (by omega) (by omega) (by omega) (by omega) lv3 (RS_fr fR (by unfold XR XQ XG; omega) rs) (PN_fr pn fC fR) ((fR.a (by unfold XR XQ XG; omega)).trans h0) ((s3.i (by unfold XF; omega)).trans e5) gI_s (fun i hi => BkL_c (bk1 i hi) (s3.a (by unfold XF; omega)) (s3.a (by unfold XF; omega)) (fun j _ => s4.a (by unfold XG; omega))))
        · rw [show fX6_takeSign 1 59 C1 = some C2 from s1, ob_some, show fX11_sign 140 59 R1 = _ from s2, ob_some]
          unfold fX11_book_s59
          rw [if_pos rfl]
          exact BkV_tr (Fr_tr f1 (xf_p s3)) (xq_r (Fr_tr f2 (xg_q s4))) (fin C2 R2 fa)
      · rw [e1, ob_some, e2, ob_some, t_signF fa.1, ob_some]
        unfold fX11_book_s50
        rw [if_pos rfl]
        exact BkV_tr f1 (xq_r f2) (fin C1 R1 fa)
def XPP (k a : Nat) : Prop := XP k a ∨ (a = 1 ∧ k = 2)
def XRR (k a : Nat) : Prop := XR k a ∨ (a = 140 ∧ (k = 0 ∨ k = 2 ∨ k = 3 ∨ k = 5))
def bR0 (R : St) : St := sI (sI (fX11_taken 140 400 R) 11 15 140 0) 11 33 140 0
theorem b_run {C R : St} {L n0 : Nat} {x1 : Int32} (hL : L ≤ 940) (h1 : gI C 6 1 1 = nI L) (h2 : gI R 11 2 140 = nI L) (hb : ∀ j, j < 940 → gA C 12 2 j = gA R 28 141 j ∧ bB (gA C 12 2 j)) (rs : RS R) (pn : PN C R 4 0 n0) (h0 : gA R 29 142 0 = nI n0) : ∃ C' R', fX1_readFrom 90 1 4 C = some C' ∧ Fr XPP C C' ∧ Fr XRR R R' ∧ gI R' 11 2 140 = 0 ∧ ((∃ K, K ≤ 40 ∧ (fX11_book_s25 140 x1 (fX11_taken 140 400 R) = (fX11_tries 140 R').bind fun z => fX11_book_h89 140 x1 NN 0 z) ∧ gI C' 6 8 1 = 0 ∧ gI R' 11 15 140 = 0 ∧ gI C' 1 2 90 = nI K ∧ gI R' 11 33 140 = nI K ∧ ∀ i, i < K → BkL C' R' n0 i) ∨ (fX11_book_s25 140 x1 (fX11_taken 140 400 R) = some (-2 - gI R' 11 16 140, R') ∧ FA C' R')) := by
  have fC : Fr (fun k a => a = 1 ∧ (k = 2 ∨ k = 4 ∨ k = 8 ∨ k = 9)) C (opC C 400) := by
    unfold opC
    exact Fr_sI (Fr_sI (Fr_sI (Fr_sI Fr_id (by omega)) (by omega)) (by omega)) (by omega)
  have fR0 : Fr XRR R (bR0 R) := by
    unfold bR0 fX11_taken fX11_taken_s8 fX11_taken_s13 fX11_taken_s18
    exact Fr_sI (Fr_sI (Fr_sI (Fr_sI (Fr_sI (Fr_sI Fr_id (by unfold XRR; omega)) (by unfold XRR; omega)) (by unfold XRR XR XQ XG; omega)) (by unfold XRR; omega)) (by unfold XRR XR XQ XG; omega)) (by unfold XRR XR; omega)
  have q3 : gI (bR0 R) 11 3 140 = nI L := by
    unfold bR0 fX11_taken fX11_taken_s8 fX11_taken_s13 fX11_taken_s18
    rw [gI_k (by decide), gI_k (by decide), gI_k (by decide), gI_k (by decide), gI_k (by decide), gI_s]; exact h2
  have q2 : gI (bR0 R) 11 2 140 = 0 := by
    unfold bR0 fX11_taken fX11_taken_s8 fX11_taken_s13 fX11_taken_s18
    rw [gI_k (by decide), gI_k (by decide), gI_k (by decide), gI_k (by decide), gI_s]
  have q4 : gI (bR0 R) 11 4 140 = nI 0 := by
    unfold bR0 fX11_taken fX11_taken_s8 fX11_taken_s13 fX11_taken_s18
    rw [gI_k (by decide), gI_k (by decide), gI_k (by decide), gI_s]; rfl
  have q5 : gI (bR0 R) 11 5 140 = nI 400 := by
    unfold bR0 fX11_taken fX11_taken_s8 fX11_taken_s13 fX11_taken_s18
    rw [gI_k (by decide), gI_k (by decide), gI_s]; rfl
  have q15 : gI (bR0 R) 11 15 140 = 0 := by
    unfold bR0; rw [gI_k (by decide), gI_s]
  have q33 : gI (bR0 R) 11 33 140 = nI 0 := by unfold bR0; exact gI_s
  have c4 : gI (opC C 400) 6 4 1 = nI 0 := by unfold opC; rw [gI_k (by decide), gI_k (by decide), gI_s]; rfl
  have c8 : gI (opC C 400) 6 8 1 = 0 := by unfold opC; rw [gI_k (by decide), gI_s]
  have tb : TB (opC C 400) (bR0 R) L 400 := by
    refine ⟨hL, by omega, (fC.i (by omega)).trans h1, q3, ?_, q5, fun j hj => ?_⟩
    · unfold opC; rw [gI_k (by decide), gI_k (by decide), gI_k (by decide), gI_s]; rfl
    · rw [show gA (opC C 400) 12 2 j = gA C 12 2 j from rfl, show gA (bR0 R) 28 141 j = gA R 28 141 j from rfl]
      exact hb j hj
  obtain ⟨C2, R2, a1, a2, a3, a4, q', a5, a6, tk⟩ := adv tb c8 c4 q4 (by omega)
  have lv : LV C2 R2 L 400 q' := ⟨TB_fr tb a3 a4 (fun k a q => by unfold XT at q; omega) (fun k a q => by unfold XS at q; omega), (a3.i (by unfold XT; omega)).trans c8, (a4.i (by unfold XS; omega)).trans q15, tk⟩
  have lv' : LV (sI C2 1 2 90 0) R2 L 400 q' := LV_fr lv (Fr_sI (X := fun _ a => a = 90) Fr_id rfl) (Fr_id (X := fun _ _ => False)) (fun k a q => by omega) (fun k a q => q.elim)
  have fC2 : Fr XPP C (sI C2 1 2 90 0) := Fr_sI (Fr_tr (Fr_mo fC (fun k a q => by unfold XPP XP XF; omega)) (Fr_mo a3 (fun k a q => by unfold XT at q; unfold XPP XP XF; omega))) (by unfold XPP XP; omega)
  have fR2 : Fr XRR R R2 := Fr_tr fR0 (Fr_mo a4 (fun k a q => by unfold XS at q; unfold XRR XR XQ XG; omega))
  have pn2 : PN (sI C2 1 2 90 0) R2 4 0 n0 := by
    obtain ⟨p1, p2, p3⟩ := pn
    refine ⟨(fC2.i (by unfold XPP XP XF; omega)).trans p1, p2, fun p hp => ?_⟩
    rw [show gJ (sI C2 1 2 90 0) 4 0 (4 + 3 + p) = gJ C 4 0 (4 + 3 + p) from fC2.j (by unfold XPP XP XF; omega), show gB R2 32 145 (0 + p) = gB R 32 145 (0 + p) from fR2.b (by unfold XRR XR XQ XG; omega)]
    exact p3 p hp
  have v := l_book (x1 := x1) 41 0 NN NN q' (sI C2 1 2 90 0) R2 (by omega) (by omega) (by unfold NN; omega) (by unfold NN; omega) lv' (RS_fr fR2 (by unfold XRR XR XQ XG; omega) rs) pn2 ((fR2.a (by unfold XRR XR XQ XG; omega)).trans h0) gI_s ((a4.i (by unfold XS; omega)).trans q33) (fun i hi => by omega)
  obtain ⟨C', R', v1, v2, v3, v4⟩ := v
  have eC : fX1_readFrom 90 1 4 C = some C' := by
    unfold fX1_readFrom fX1_readFrom_s12 fX6_open fX6_open_s5 fX6_open_s10 fX6_open_s15 fX6_open_s20
    rw [show fX6_advance 1 (sI (sI (sI (sI C 6 2 1 400) 6 4 1 0) 6 8 1 0) 6 9 1 0) = some C2 from a1, ob_some, ob_some]
    exact v1
  have eR : fX11_book_s25 140 x1 (fX11_taken 140 400 R) = fX11_book_h39 140 x1 NN R2 := by
    unfold fX11_book_s25 fX11_book_s30 fX11_book_s35
    rw [show fX11_step 140 (sI (sI (fX11_taken 140 400 R) 11 15 140 0) 11 33 140 0) = some R2 from a2, ob_some]
  refine ⟨C', R', eC, Fr_tr fC2 (Fr_mo v2 (fun k a q => Or.inl q)), Fr_tr fR2 (Fr_mo v3 (fun k a q => Or.inl q)), (v3.i (by unfold XR XQ XG; omega)).trans ((a4.i (by unfold XS; omega)).trans q2), ?_⟩
  rw [eR]
  exact v4
