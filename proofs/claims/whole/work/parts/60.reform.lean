-- reform, age, ask, born
def allO (n : Nat → Nat) (q : Nat) : Nat → Option Nat
  | 0 => some 0
  | p + 1 => match allO n q p, skO n p q with
    | some a, some b => some (a + b)
    | _, _ => none
def sN (n : Nat → Nat) (q : Nat) : Nat → Nat
  | 0 => 0
  | p + 1 => sN n q p + (match skO n p q with
    | some b => b
    | none => 1000000)
theorem allO_n {n : Nat → Nat} {q i : Nat} (h : allO n q i = none) (m : Nat) : allO n q (i + m) = none := by
  induction m with
  | zero => exact h
  | succ m ih => show (match allO n q (i + m), skO n (i + m) q with | some a, some b => some (a + b) | _, _ => none) = none; rw [ih]
theorem sN_spec (n : Nat → Nat) (q k : Nat) : (∃ a, allO n q k = some a ∧ sN n q k = a ∧ a ≤ 400 * k) ∨ (allO n q k = none ∧ 1000000 ≤ sN n q k ∧ sN n q k ≤ 1000000 * k) := by
  induction k with
  | zero => exact Or.inl ⟨0, rfl, rfl, by omega⟩
  | succ k ih =>
    have e1 : allO n q (k + 1) = (match allO n q k, skO n k q with | some a, some b => some (a + b) | _, _ => none) := rfl
    have e2 : sN n q (k + 1) = sN n q k + (match skO n k q with | some b => b | none => 1000000) := rfl
    rw [e1, e2]
    rcases ih with ⟨a, h1, h2, h3⟩ | ⟨h1, h2, h3⟩
    · rw [h1, h2]
      rcases ho : skO n k q with _ | b
      · exact Or.inr ⟨rfl, by show 1000000 ≤ a + 1000000; omega, by show a + 1000000 ≤ _; omega⟩
      · have := skO_le ho
        exact Or.inl ⟨a + b, rfl, rfl, by omega⟩
    · rw [h1]
      rcases ho : skO n k q with _ | b
      · exact Or.inr ⟨rfl, by show 1000000 ≤ _ + 1000000; omega, by show _ + 1000000 ≤ _; omega⟩
      · have := skO_le ho
        exact Or.inr ⟨rfl, by show 1000000 ≤ _ + b; omega, by show _ + b ≤ _; omega⟩
theorem l_allTo {S : St} {n : Nat → Nat} (hw : WFn n) (h : CW S n) {q : Nat} (hq : q < n 0) : ∀ m i u a : Nat, i + m = n 0 → m < u → allO n q i = some a → fX0_skipsOfAllTo_h4 3 (nI q) u (nI a) (nI i) S = some (oI (allO n q (n 0)) (-1)) := by
  have h0 := hw.1
  intro m
  induction m with
  | zero =>
    intro i u a hi hu ha
    obtain ⟨u, rfl⟩ : ∃ k', u = k' + 1 := ⟨u - 1, by omega⟩
    rw [fX0_skipsOfAllTo_h4]; unfold fX0_skipsOfAllTo_s4
    rw [show (3 : Nat) + 1 = 4 from rfl, h.1.1, if_pos (nI_le (by omega) (by omega)), show n 0 = i by omega, ha]; rfl
  | succ m ih =>
    intro i u a hi hu ha
    obtain ⟨u, rfl⟩ : ∃ k', u = k' + 1 := ⟨u - 1, by omega⟩
    rw [fX0_skipsOfAllTo_h4]; unfold fX0_skipsOfAllTo_s4 fX0_skipsOfAllTo_s36
    rw [show (3 : Nat) + 1 = 4 from rfl, h.1.1, if_neg (nI_ge (by omega) (by omega)), c_skipsTo hw h (show i < n 0 by omega) hq, ob_some, nI_1]
    have e1 : allO n q (i + 1) = (match allO n q i, skO n i q with | some a, some b => some (a + b) | _, _ => none) := rfl
    rw [ha] at e1
    rcases ho : skO n i q with _ | b
    · rw [ho] at e1
      have e2 := allO_n e1 m
      rw [show n 0 = i + 1 + m by omega, e2]; exact if_pos rfl
    · rw [ho] at e1
      have := skO_le ho
      show (if nI b = -1 then _ else fX0_skipsOfAllTo_h4 3 (nI q) u (nI a + nI b) (nI (i + 1)) S) = _
      rw [if_neg (nI_m1 (by omega)), nI_add]
      exact ih (i + 1) u (a + b) (by omega) (by omega) e1
theorem c_allTo {S : St} {n : Nat → Nat} (hw : WFn n) (h : CW S n) {q : Nat} (hq : q < n 0) : fX0_skipsOfAllTo 3 (nI q) S = some (oI (allO n q (n 0)) (-1)) := by
  have h0 := hw.1
  exact l_allTo hw h hq (n 0) 0 NN 0 (by omega) (by unfold NN; omega) rfl
def rfO (n : Nat → Nat) : Nat → Option (Nat × Nat)
  | 0 => none
  | q + 1 => match allO n q (n 0), rfO n q with
    | none, o => o
    | some a, none => some (a, q)
    | some a, some b => if b.1 ≤ a then some b else some (a, q)
def rfV (o : Option (Nat × Nat)) (d : Int32) : Int32 := match o with
  | some b => nI b.1
  | none => d
def rfW (o : Option (Nat × Nat)) (d : Int32) : Int32 := match o with
  | some b => nI b.2
  | none => d
def rfS (S : St) (c k a : Nat) (o : Option (Nat × Nat)) : St := match o with
  | some b => sI S c k a (nI b.2)
  | none => S
theorem rfO_le {n : Nat → Nat} (hw : WFn n) (q : Nat) (hq : q ≤ n 0) (b : Nat × Nat) (h : rfO n q = some b) : b.1 ≤ 2000 ∧ b.2 < n 0 := by
  have h0 := hw.1
  induction q generalizing b with
  | zero => cases h
  | succ q ih =>
    have e : rfO n (q + 1) = (match allO n q (n 0), rfO n q with | none, o => o | some a, none => some (a, q) | some a, some b => if b.1 ≤ a then some b else some (a, q)) := rfl
    rw [e] at h
    rcases sN_spec n q (n 0) with ⟨a, h1, h2, h3⟩ | ⟨h1, h2, h3⟩
    · rw [h1] at h
      rcases ho : rfO n q with _ | b'
      · rw [ho] at h; cases h; exact ⟨by show a ≤ 2000; omega, by show q < n 0; omega⟩
      · rw [ho] at h
        have h' : (if b'.1 ≤ a then some b' else some (a, q)) = some b := h
        by_cases r : b'.1 ≤ a
        · rw [if_pos r] at h'; cases h'; exact ih (by omega) _ ho
        · rw [if_neg r] at h'; cases h'; exact ⟨by show a ≤ 2000; omega, by show q < n 0; omega⟩
    · rw [h1] at h; exact ih (by omega) _ h
theorem CW_rf {S : St} {n : Nat → Nat} {k : Nat} {o : Option (Nat × Nat)} (h : CW S n) : CW (rfS S 0 k 93 o) n := by
  cases o; exact h; exact CW_al h
theorem MR_rf {S : St} {n : Nat → Nat} {c k a : Nat} {o : Option (Nat × Nat)} (h : MR S n) : MR (rfS S c k a o) n := by
  cases o; exact h; exact h
theorem rfS_set {S : St} {c k a : Nat} {o : Option (Nat × Nat)} {v : Int32} : sI (rfS S c k a o) c k a v = sI S c k a v := by
  cases o; rfl; exact sI_sI
theorem l_findReform {S : St} {n : Nat → Nat} (hw : WFn n) (h : CW S n) : ∀ m i u : Nat, i + m = n 0 → m < u → fX0_findReform_h4 93 3 u (rfV (rfO n i) (-1)) (nI i) (rfS S 0 3 93 (rfO n i)) = some (rfV (rfO n (n 0)) (-1), rfS S 0 3 93 (rfO n (n 0))) := by
  have h0 := hw.1
  intro m
  induction m with
  | zero =>
    intro i u hi hu
    obtain ⟨u, rfl⟩ : ∃ k', u = k' + 1 := ⟨u - 1, by omega⟩
    rw [fX0_findReform_h4]; unfold fX0_findReform_s4
    rw [show (3 : Nat) + 1 = 4 from rfl, (CW_rf h).1.1, if_pos (nI_le (by omega) (by omega)), show n 0 = i by omega]
  | succ m ih =>
    intro i u hi hu
    obtain ⟨u, rfl⟩ : ∃ k', u = k' + 1 := ⟨u - 1, by omega⟩
    rw [fX0_findReform_h4]; unfold fX0_findReform_s4 fX0_findReform_s39 fX0_findReform_s47
    rw [show (3 : Nat) + 1 = 4 from rfl, (CW_rf h).1.1, if_neg (nI_ge (by omega) (by omega)), c_allTo hw (CW_rf h) (show i < n 0 by omega), ob_some, nI_1, rfS_set]
    have e := ih (i + 1) u (by omega) (by omega)
    have e1 : rfO n (i + 1) = (match allO n i (n 0), rfO n i with | none, o => o | some a, none => some (a, i) | some a, some b => if b.1 ≤ a then some b else some (a, i)) := rfl
    rcases sN_spec n i (n 0) with ⟨a, h1, h2, h3⟩ | ⟨h1, h2, h3⟩
    · rw [h1] at e1
      rw [h1]
      rcases ho : rfO n i with _ | b
      · rw [ho] at e1
        rw [e1] at e
        show (if nI a = -1 then _ else if (-1 : Int32) = -1 then _ else _) = _
        rw [if_neg (nI_m1 (by omega)), if_pos rfl]; exact e
      · rw [ho] at e1
        have hbl := rfO_le hw i (by omega) b ho
        have e1' : rfO n (i + 1) = if b.1 ≤ a then some b else some (a, i) := e1
        show (if nI a = -1 then _ else if nI b.1 = -1 then _ else if nI b.1 ≤ nI a then _ else _) = _
        rw [if_neg (nI_m1 (by omega)), if_neg (nI_m1 (by omega))]
        by_cases r : b.1 ≤ a
        · rw [if_pos r] at e1'; rw [e1'] at e; rw [if_pos (nI_le r (by omega))]; exact e
        · rw [if_neg r] at e1'; rw [e1'] at e; rw [if_neg (nI_ge (by omega) (by omega))]; exact e
    · rw [h1] at e1
      have e1' : rfO n (i + 1) = rfO n i := e1
      rw [e1'] at e
      rw [h1]
      exact (if_pos rfl).trans e
theorem l_reformIn {S : St} {n : Nat → Nat} (hw : WFn n) (h : MR S n) {r : Nat} (hr : r < n 0) (y1 y2 : Int32) (K : Int32 → Int32 → Int32 → St → Option (Int32 × St)) : ∀ m i u : Nat, i + m = n 0 → m < u → fX11_reform_h29 K 140 u y1 y2 (nI r) (nI (sN n r i)) (nI i) S = if nI (sN n r (n 0)) < y1 then K (nI (sN n r (n 0))) (nI r) (nI (r + 1)) S else K y1 y2 (nI (r + 1)) S := by
  have h0 := hw.1
  have e0 : gA S 29 (140 + 2) 0 = nI (n 0) := h 0 (by omega)
  intro m
  induction m with
  | zero =>
    intro i u hi hu
    obtain ⟨u, rfl⟩ : ∃ k', u = k' + 1 := ⟨u - 1, by omega⟩
    rw [fX11_reform_h29]; unfold fX11_reform_s29 fX11_reform_s72
    rw [e0, if_pos (nI_le (by omega) (by omega)), nI_1, show n 0 = i by omega]
  | succ m ih =>
    intro i u hi hu
    obtain ⟨u, rfl⟩ : ∃ k', u = k' + 1 := ⟨u - 1, by omega⟩
    rw [fX11_reform_h29]; unfold fX11_reform_s29 fX11_reform_s52
    rw [e0, if_neg (nI_ge (by omega) (by omega)), m_skipsTo hw h (show i < n 0 by omega) hr, ob_some, nI_1]
    have e := ih (i + 1) u (by omega) (by omega)
    have e2 : sN n r (i + 1) = sN n r i + (match skO n i r with | some b => b | none => 1000000) := rfl
    rw [e2] at e
    rcases ho : skO n i r with _ | b
    · rw [ho] at e; rw [← nI_add] at e; exact e
    · rw [ho] at e; rw [← nI_add] at e; exact e
theorem l_reformOut {S : St} {n : Nat → Nat} (hw : WFn n) (h : MR S n) : ∀ m i u : Nat, i + m = n 0 → m < u → fX11_reform_h13 140 u (rfV (rfO n i) 1000000) (rfW (rfO n i) (-1)) (nI i) S = some (rfV (rfO n (n 0)) (-1), rfS S 11 27 140 (rfO n (n 0))) := by
  have h0 := hw.1
  have e0 : gA S 29 (140 + 2) 0 = nI (n 0) := h 0 (by omega)
  intro m
  induction m with
  | zero =>
    intro i u hi hu
    obtain ⟨u, rfl⟩ : ∃ k', u = k' + 1 := ⟨u - 1, by omega⟩
    rw [fX11_reform_h13]; unfold fX11_reform_s13 fX11_reform_s89
    rw [e0, if_pos (nI_le (by omega) (by omega)), show n 0 = i by omega]
    rcases ho : rfO n i with _ | b
    · exact if_neg (by decide)
    · have hbl := rfO_le hw i (by omega) b ho
      exact if_pos (nI_le0 (n := b.2) (by omega))
  | succ m ih =>
    intro i u hi hu
    obtain ⟨u, rfl⟩ : ∃ k', u = k' + 1 := ⟨u - 1, by omega⟩
    rw [fX11_reform_h13]; unfold fX11_reform_s13
    have ei : fX11_reform_h29 (fX11_reform_h13 140 u) 140 NN (rfV (rfO n i) 1000000) (rfW (rfO n i) (-1)) (nI i) 0 0 S = _ := l_reformIn hw h (show i < n 0 by omega) (rfV (rfO n i) 1000000) (rfW (rfO n i) (-1)) (fX11_reform_h13 140 u) (n 0) 0 NN (by omega) (by unfold NN; omega)
    rw [e0, if_neg (nI_ge (by omega) (by omega)), ei]
    have e := ih (i + 1) u (by omega) (by omega)
    have e1 : rfO n (i + 1) = (match allO n i (n 0), rfO n i with | none, o => o | some a, none => some (a, i) | some a, some b => if b.1 ≤ a then some b else some (a, i)) := rfl
    rcases sN_spec n i (n 0) with ⟨a, h1, h2, h3⟩ | ⟨h1, h2, h3⟩
    · rw [h1] at e1
      rw [h2]
      rcases ho : rfO n i with _ | b
      · rw [ho] at e1
        rw [e1] at e
        exact (if_pos (show nI a < 1000000 from nI_lt (b := 1000000) (by omega) (by omega))).trans e
      · rw [ho] at e1
        have hbl := rfO_le hw i (by omega) b ho
        have e1' : rfO n (i + 1) = if b.1 ≤ a then some b else some (a, i) := e1
        by_cases r : b.1 ≤ a
        · rw [if_pos r] at e1'; rw [e1'] at e; exact (if_neg (show ¬ nI a < nI b.1 from nI_nlt r (by omega))).trans e
        · rw [if_neg r] at e1'; rw [e1'] at e; exact (if_pos (show nI a < nI b.1 from nI_lt (by omega) (by omega))).trans e
    · rw [h1] at e1
      have e1' : rfO n (i + 1) = rfO n i := e1
      rw [e1'] at e
      refine (if_neg ?_).trans e
      rcases ho : rfO n i with _ | b
      · exact nI_nlt (b := 1000000) h2 (by omega)
      · have hbl := rfO_le hw i (by omega) b ho
        exact nI_nlt (b := b.1) (by omega) (by omega)
theorem q_reform {S : St} {n : Nat → Nat} (hw : WFn n) (h : CW S n) (h' : MR S n) : ∃ r S1 S2, fX10_reform 0 S = some (r, S1) ∧ fX11_reform 140 S1 = some (r, S2) ∧ ((S1 = S ∧ S2 = sI S 11 0 140 0) ∨ ∃ v, S1 = sI S 0 3 93 v ∧ S2 = sI (sI S1 11 0 140 0) 11 27 140 v) := by
  have h0 := hw.1
  have e1 : fX0_findReform 93 3 S = _ := l_findReform hw h (n 0) 0 NN (by omega) (by unfold NN; omega)
  unfold fX10_reform fX10_reform_s11
  rw [show (0 : Nat) + 93 = 93 from rfl, show (0 : Nat) + 3 = 3 from rfl, e1, ob_some]
  have h2 : MR (sI (rfS S 0 3 93 (rfO n (n 0))) 11 0 140 0) n := MR_sI (MR_rf h')
  have e2 : fX11_reform 140 (rfS S 0 3 93 (rfO n (n 0))) = _ := l_reformOut hw h2 (n 0) 0 NN (by omega) (by unfold NN; omega)
  refine ⟨_, _, _, rfl, e2, ?_⟩
  cases rfO n (n 0) with
  | none => exact Or.inl ⟨rfl, rfl⟩
  | some b => exact Or.inr ⟨nI b.2, rfl, rfl⟩
-- age
theorem l_age {S : St} {n : Nat → Nat} (hw : WFn n) (h : MR S n) {p mo da t0 : Nat} (hp : p < n 0) (hpl : plOk (n (4 + p)) (n (9 + p)) (n (24 + p)) mo da) (hd : dyq n p t0 = mo * n (9 + p) + da) (x2 x3 x4 : Int32) : ∀ m i u : Nat, i + m = n (54 + p) → m < u → tmq n p mo da t0 ≤ tmq n p mo da i → fX11_age_h55 140 (nI p) x2 x3 x4 u (nI (dtq n p t0)) (nI (tmq n p mo da i - tmq n p mo da t0)) (nI (i + 1)) S = some (nI (tmq n p mo da (n (54 + p)) - tmq n p mo da t0), S) := by
  have h0 := hw.1
  obtain ⟨w, hW1, hW2, hcl⟩ := hw.2.1 p hp
  have hc : gA S 29 (140 + 2) (54 + p) = nI (n (54 + p)) := h _ (by omega)
  intro m
  induction m with
  | zero =>
    intro i u hi hu ht
    obtain ⟨u, rfl⟩ : ∃ k', u = k' + 1 := ⟨u - 1, by omega⟩
    rw [fX11_age_h55]; unfold fX11_age_s55
    rw [show (54 : Int32) + nI p = nI (54 + p) from nI_add 54 p, igd (by omega) (by decide), nI_clamp (by omega), hc, if_pos (nI_lt (by omega) (by omega)), show n (54 + p) = i by omega]
  | succ m ih =>
    intro i u hi hu ht
    obtain ⟨u, rfl⟩ : ∃ k', u = k' + 1 := ⟨u - 1, by omega⟩
    have hdt := m_dated (c := i + 1) (h.mp (p := p) (by omega)) w (by omega) (by omega)
    have l1 := dt_lt w (i + 1)
    have l2 := dt_lt w t0
    have hiff := dt_dy w (i + 1) t0
    have ht1 := tm_succ w hpl i
    rw [fX11_age_h55]; unfold fX11_age_s55
    rw [show (54 : Int32) + nI p = nI (54 + p) from nI_add 54 p, igd (by omega) (by decide), nI_clamp (by omega), hc, if_neg (nI_nlt (by omega) (by omega)), hdt, ob_some, nI_1, nI_1, show (0 : Int32) = nI 0 from rfl, nI_add]
    have e := ih (i + 1) u (by omega) (by omega)
    unfold tmq dyq dtq at *
    rw [ht1] at e
    by_cases q : dyOf (n (4 + p)) (n (9 + p)) (n (24 + p)) (n (29 + p)) (i + 1) = mo * n (9 + p) + da
    · rw [if_pos (show nI (dtOf (n (4 + p)) (n (9 + p)) (n (24 + p)) (n (29 + p)) (i + 1)) = nI (dtOf (n (4 + p)) (n (9 + p)) (n (24 + p)) (n (29 + p)) t0) from congrArg nI (hiff.mpr (q.trans hd.symm)))]
      rw [if_pos q] at e
      have := e (by omega)
      rw [show ∀ a b : Nat, b ≤ a → a + 1 - b = a - b + 1 from fun a b hab => by omega] at this
      · exact this
      · exact ht
    · rw [if_neg (show ¬ nI (dtOf (n (4 + p)) (n (9 + p)) (n (24 + p)) (n (29 + p)) (i + 1)) = nI (dtOf (n (4 + p)) (n (9 + p)) (n (24 + p)) (n (29 + p)) t0) from fun z => q ((hiff.mp ((nI_eq (by omega) (by omega)).mp z)).trans hd))]
      rw [if_neg q] at e
      exact e (by omega)
theorem q_age {S : St} {n : Nat → Nat} (hw : WFn n) (h : CW S n) (h' : MR S n) (x1 x2 x3 x4 : Int32) : ∃ r, fX10_age 0 x1 x2 x3 x4 S = some r ∧ fX11_age 140 x1 x2 x3 x4 S = some (r, sI S 11 0 140 0) := by
  have h0 := hw.1
  have h2 : MR (sI S 11 0 140 0) n := h'
  unfold fX10_age fX11_age fX11_age_s5
  rcases px h h2 h0.1 x1 with ⟨p, hp, rfl, e1, e2⟩ | ⟨e1, e2⟩
  · obtain ⟨w, hW1, hW2, hcl⟩ := hw.2.1 p hp
    obtain ⟨r, r1, r2, r3⟩ := q_counted hw h h2 hp x2 x3 x4
    have hc : gA S 15 (3 + 15 + 1) p = nI (n (54 + p)) := h.2.2.2.2 p hp
    have hc' : gA (sI S 11 0 140 0) 29 (140 + 2) (54 + p) = nI (n (54 + p)) := h2 _ (by omega)
    unfold fX0_countAge fX0_countAge_s11 fX0_countAge_s34
    rw [if_neg (show ¬ fX8_hasParish (0 + 3 + 1) (nI p) S = 0 from fun q => i10 (e1.symm.trans q)), show (0 : Nat) + 3 = 3 from rfl, igd (show p < 5 by omega) (by decide), nI_clamp (by omega), show (3 : Nat) + 1 + 1 + 2 + p = 7 + p from rfl, r1, ob_some, igc (show p < 5 by omega) (by decide), hc, r2, ob_some, show (54 : Int32) + nI p = nI (54 + p) from nI_add 54 p, igd (by omega) (by decide), nI_clamp (by omega), hc']
    rcases r3 with rfl | ⟨y, mo, da, rfl, rfl, hpl, hln, hy, rfl⟩
    · exact ⟨-1, rfl, rfl⟩
    · obtain ⟨b1, b2⟩ := dy_at w hln
      have hfy : fsOf (n (4 + p)) (n (9 + p)) (n (24 + p)) (n (29 + p)) y ≤ 1000000 := by
        obtain ⟨w1, w2, w3, w4, w5, w6, w7⟩ := id w
        have hP := w.P
        unfold fsOf
        have q1 : y * (n (4 + p) * n (9 + p)) ≤ 999 * 390 := Nat.mul_le_mul hy hP.2
        have q2 : (y + n (29 + p) - 1) / n (29 + p) ≤ 1007 := Nat.le_trans (Nat.div_le_self _ _) (by omega)
        have q3 : n (24 + p) * ((y + n (29 + p) - 1) / n (29 + p)) ≤ 9 * 1007 := Nat.mul_le_mul w5 q2
        omega
      have hll : lnY (n (4 + p)) (n (9 + p)) (n (24 + p)) (n (29 + p)) y ≤ 400 := by
        have hP := w.P
        have := w.2.2.2.2.1
        unfold lnY; split <;> omega
      generalize hb0 : fsOf (n (4 + p)) (n (9 + p)) (n (24 + p)) (n (29 + p)) y + (mo * n (9 + p) + da) = b at b1 b2 ⊢
      rw [if_neg (nI_m1 (by omega)), if_neg (nI_pos (by omega))]
      have t1 := c_times (c := n (54 + p)) (h.2.1 p hp) w (by omega) hpl
      have t2 := c_times (c := b) (h.2.1 p hp) w (by omega) hpl
      have hdt := m_dated (c := b) (h2.mp (p := p) (by omega)) w (by omega) (by omega)
      rcases Nat.lt_or_ge (n (54 + p)) b with q | q
      · rw [if_neg (nI_ge q (by omega)), if_neg (nI_ge q (by omega))]; exact ⟨_, rfl, rfl⟩
      · have hmn := tm_mono w hpl q
        rw [if_pos (nI_le q (by omega)), if_pos (nI_le q (by omega)), t1, ob_some, t2, ob_some, pk_sub hmn, hdt, ob_some, nI_1]
        refine ⟨_, rfl, ?_⟩
        have e := l_age hw h2 hp hpl b2 x2 (nI mo) (nI da) (n (54 + p) - b) b NN (by omega) (by unfold NN; omega) (Nat.le_refl _)
        rw [Nat.sub_self] at e
        exact e
  · rw [counted_no e2, ob_some, if_pos (show fX8_hasParish (0 + 3 + 1) x1 S = 0 from e1)]; exact ⟨_, rfl, rfl⟩
