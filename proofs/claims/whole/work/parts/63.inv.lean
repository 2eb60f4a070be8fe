/-- S and T differ in fields that X names alone (field 99: the places of an array) -/
def Fr (X : Nat → Nat → Prop) (S T : St) : Prop := (∀ c k a, ¬ X k a → gI T c k a = gI S c k a) ∧ (∀ c k a, ¬ X k a → gJ T c k a = gJ S c k a) ∧ (∀ c a j, ¬ X 99 a → gA T c a j = gA S c a j) ∧ (∀ c a j, ¬ X 99 a → gB T c a j = gB S c a j) ∧ ∀ a j, ¬ X 99 a → gQ T a j = gQ S a j
theorem Fr_id {X : Nat → Nat → Prop} {S : St} : Fr X S S := ⟨fun _ _ _ _ => rfl, fun _ _ _ _ => rfl, fun _ _ _ _ => rfl, fun _ _ _ _ => rfl, fun _ _ _ => rfl⟩
theorem Fr_tr {X : Nat → Nat → Prop} {S T U : St} (h : Fr X S T) (g : Fr X T U) : Fr X S U := ⟨fun c k a n => (g.1 c k a n).trans (h.1 c k a n), fun c k a n => (g.2.1 c k a n).trans (h.2.1 c k a n), fun c a j n => (g.2.2.1 c a j n).trans (h.2.2.1 c a j n), fun c a j n => (g.2.2.2.1 c a j n).trans (h.2.2.2.1 c a j n), fun a j n => (g.2.2.2.2 a j n).trans (h.2.2.2.2 a j n)⟩
theorem Fr_mo {X Y : Nat → Nat → Prop} {S T : St} (h : Fr X S T) (g : ∀ k a, X k a → Y k a) : Fr Y S T := ⟨fun c k a n => h.1 c k a (fun q => n (g _ _ q)), fun c k a n => h.2.1 c k a (fun q => n (g _ _ q)), fun c a j n => h.2.2.1 c a j (fun q => n (g _ _ q)), fun c a j n => h.2.2.2.1 c a j (fun q => n (g _ _ q)), fun a j n => h.2.2.2.2 a j (fun q => n (g _ _ q))⟩
theorem Fr_sI {X : Nat → Nat → Prop} {S T : St} {c k a : Nat} {v : Int32} (h : Fr X S T) (w : X k a) : Fr X S (sI T c k a v) := Fr_tr h ⟨fun c' k' a' n => if_neg (fun q => n (by rw [q.2.1, q.2.2]; exact w)), fun _ _ _ _ => rfl, fun _ _ _ _ => rfl, fun _ _ _ _ => rfl, fun _ _ _ => rfl⟩
theorem Fr_sJ {X : Nat → Nat → Prop} {S T : St} {c k a : Nat} {v : Int64} (h : Fr X S T) (w : X k a) : Fr X S (sJ T c k a v) := Fr_tr h ⟨fun _ _ _ _ => rfl, fun c' k' a' n => if_neg (fun q => n (by rw [q.2.1, q.2.2]; exact w)), fun _ _ _ _ => rfl, fun _ _ _ _ => rfl, fun _ _ _ => rfl⟩
theorem Fr_sA {X : Nat → Nat → Prop} {S T : St} {c a j : Nat} {v : Int32} (h : Fr X S T) (w : X 99 a) : Fr X S (sA T c a j v) := Fr_tr h ⟨fun _ _ _ _ => rfl, fun _ _ _ _ => rfl, fun c' a' j' n => if_neg (fun q => n (by rw [q.2.1]; exact w)), fun _ _ _ _ => rfl, fun _ _ _ => rfl⟩
theorem Fr_sB {X : Nat → Nat → Prop} {S T : St} {c a j : Nat} {v : Int64} (h : Fr X S T) (w : X 99 a) : Fr X S (sB T c a j v) := Fr_tr h ⟨fun _ _ _ _ => rfl, fun _ _ _ _ => rfl, fun _ _ _ _ => rfl, fun c' a' j' n => if_neg (fun q => n (by rw [q.2.1]; exact w)), fun _ _ _ => rfl⟩
theorem Fr_sQ {X : Nat → Nat → Prop} {S T : St} {a j v : Nat} (h : Fr X S T) (w : X 99 a) : Fr X S (sQ T a j v) := Fr_tr h ⟨fun _ _ _ _ => rfl, fun _ _ _ _ => rfl, fun _ _ _ _ => rfl, fun _ _ _ _ => rfl, fun a' j' n => if_neg (fun q => n (by rw [q.1]; exact w))⟩
theorem Fr_ite {X : Nat → Nat → Prop} {S T U : St} {c : Prop} [Decidable c] (h : c → Fr X S T) (g : ¬ c → Fr X S U) : Fr X S (if c then T else U) := by
  by_cases q : c
  · rw [if_pos q]; exact h q
  · rw [if_neg q]; exact g q
theorem Fr_it2 {X : Nat → Nat → Prop} {α : Type} {S : St} {T U : α × St} {c : Prop} [Decidable c] (h : c → Fr X S T.2) (g : ¬ c → Fr X S U.2) : Fr X S (if c then T else U).2 := by
  by_cases q : c
  · rw [if_pos q]; exact h q
  · rw [if_neg q]; exact g q
theorem Fr_mk {X : Nat → Nat → Prop} {α : Type} {S T : St} {a : α} (h : Fr X S T) : Fr X S (a, T).2 := h
def FO (X : Nat → Nat → Prop) (S : St) (o : Option St) : Prop := ∀ T, o = some T → Fr X S T
def FZ {α : Type} (X : Nat → Nat → Prop) (S : St) (o : Option (α × St)) : Prop := ∀ r, o = some r → Fr X S r.2
theorem FO_none {X : Nat → Nat → Prop} {S : St} : FO X S none := fun _ h => nomatch h
theorem FZ_none {X : Nat → Nat → Prop} {α : Type} {S : St} : FZ (α := α) X S none := fun _ h => nomatch h
theorem FO_some {X : Nat → Nat → Prop} {S T : St} (h : Fr X S T) : FO X S (some T) := fun _ q => by cases q; exact h
theorem FZ_some {X : Nat → Nat → Prop} {α : Type} {S : St} {p : α × St} (h : Fr X S p.2) : FZ X S (some p) := fun _ q => by cases q; exact h
theorem FZ_mk {X : Nat → Nat → Prop} {α : Type} {S T : St} {a : α} (h : Fr X S T) : FZ X S (some (a, T)) := fun _ q => by cases q; exact h
theorem FO_ite {X : Nat → Nat → Prop} {S : St} {T U : Option St} {c : Prop} [Decidable c] (h : c → FO X S T) (g : ¬ c → FO X S U) : FO X S (if c then T else U) := by
  by_cases q : c
  · rw [if_pos q]; exact h q
  · rw [if_neg q]; exact g q
theorem FZ_ite {X : Nat → Nat → Prop} {α : Type} {S : St} {T U : Option (α × St)} {c : Prop} [Decidable c] (h : c → FZ X S T) (g : ¬ c → FZ X S U) : FZ X S (if c then T else U) := by
  by_cases q : c
  · rw [if_pos q]; exact h q
  · rw [if_neg q]; exact g q
theorem FO_bO {X : Nat → Nat → Prop} {S : St} {o : Option St} {f : St → Option St} (h : FO X S o) (g : ∀ r, Fr X S r → FO X S (f r)) : FO X S (o.bind f) := by
  cases o with
  | none => exact FO_none
  | some r => exact g r (h r rfl)
theorem FO_bP {X : Nat → Nat → Prop} {α : Type} {S : St} {o : Option (α × St)} {f : α × St → Option St} (h : FZ X S o) (g : ∀ r, Fr X S r.2 → FO X S (f r)) : FO X S (o.bind f) := by
  cases o with
  | none => exact FO_none
  | some r => exact g r (h r rfl)
theorem FO_bI {X : Nat → Nat → Prop} {S : St} {o : Option Int32} {f : Int32 → Option St} (g : ∀ r, FO X S (f r)) : FO X S (o.bind f) := by
  cases o with
  | none => exact FO_none
  | some r => exact g r
theorem FZ_bO {X : Nat → Nat → Prop} {β : Type} {S : St} {o : Option St} {f : St → Option (β × St)} (h : FO X S o) (g : ∀ r, Fr X S r → FZ X S (f r)) : FZ X S (o.bind f) := by
  cases o with
  | none => exact FZ_none
  | some r => exact g r (h r rfl)
theorem FZ_bP {X : Nat → Nat → Prop} {α β : Type} {S : St} {o : Option (α × St)} {f : α × St → Option (β × St)} (h : FZ X S o) (g : ∀ r, Fr X S r.2 → FZ X S (f r)) : FZ X S (o.bind f) := by
  cases o with
  | none => exact FZ_none
  | some r => exact g r (h r rfl)
theorem FZ_bI {X : Nat → Nat → Prop} {β : Type} {S : St} {o : Option Int32} {f : Int32 → Option (β × St)} (g : ∀ r, FZ X S (f r)) : FZ X S (o.bind f) := by
  cases o with
  | none => exact FZ_none
  | some r => exact g r

-- the relation between the class and the reference
def CWw (S : St) (w : Nat) (n : Nat → Nat) : Prop := (gI S 8 2 (w + 1) = nI (n 0) ∧ gI S 8 3 (w + 1) = nI (n 1) ∧ gI S 8 4 (w + 1) = nI (n 2) ∧ gI S 8 5 (w + 1) = nI (n 3)) ∧ (∀ p, p < n 0 → CP S (w + 4 + p) (n (4 + p)) (n (9 + p)) (n (24 + p)) (n (29 + p)) (n (14 + p))) ∧ (∀ f, f < n 1 → gI S 3 1 (w + 9 + f) = nI (n (34 + f)) ∧ gI S 3 2 (w + 9 + f) = nI (n (40 + f)) ∧ gI S 3 3 (w + 9 + f) = nI (n (46 + f))) ∧ (gI S 2 0 (w + 15) = nI (n 52) ∧ gI S 2 2 (w + 15) = nI (n 53) ∧ gI S 2 1 (w + 15) = nI (n 0)) ∧ ∀ p, p < n 0 → gA S 15 (w + 16) p = nI (n (54 + p))
def HSw (S : St) (w : Nat) (rd : Nat → Int32) (n : Nat → Nat) : Prop := ∀ p, p < n 0 → gA S 16 (w + 17) p = rd (59 + p) ∧ gA S 17 (w + 18) p = rd (64 + p)
def NMw (S : St) (w : Nat) (nm : Nat → Int64) (n : Nat → Nat) : Prop := (∀ p, p < n 0 → gJ S 4 0 (w + 4 + p) = nm p ∧ 0 ≤ (nm p).toInt ∧ (nm p).toInt < 72057594037927936) ∧ ∀ f, f < n 1 → gJ S 3 0 (w + 9 + f) = nm (5 + f)
/-- a step of a SENTENCE on both sides -/
def stepOk (n0 n1 : Nat) (s g v c0 c1 c2 : Int32) : Prop := (s = 1 ∧ c0 = 20) ∨ (s = 2 ∧ c0 = 21) ∨ (s = 3 ∧ c0 = 22) ∨ ∃ l b : Nat, l ≤ 8 ∧ s = nI (l + 4) ∧ c0 = nI l ∧ v = nI b ∧ c2 = nI b ∧ b ≤ 999 ∧ (l = 2 → b < n1) ∧ (l = 3 → b < n0) ∧ (4 ≤ l → g = c1 ∧ (g = 60 ∨ g = 61 ∨ g = 62))
/-- how many truths stand behind i steps -/
def dptS (st : Nat → Int32) : Nat → Option Nat
  | 0 => some 0
  | i + 1 => match dptS st i with
    | none => none
    | some d => if st i = 1 then (if 1 ≤ d then some d else none) else if st i = 2 ∨ st i = 3 then (if 2 ≤ d then some (d - 1) else none) else some (d + 1)
def SN (S : St) (c : Nat) (rd : Nat → Int32) (n0 n1 : Nat) : Prop := ∃ k : Nat, k ≤ 40 ∧ gI S 5 3 c = nI k ∧ rd 69 = nI k ∧ (gI S 5 4 c = 0 ↔ k = 0) ∧ (∀ i, i < k → stepOk n0 n1 (gA S 18 (c + 1) i) (gA S 19 (c + 2) i) (gA S 20 (c + 3) i) (rd (70 + 3 * i)) (rd (71 + 3 * i)) (rd (72 + 3 * i))) ∧ (∀ i, i ≤ k → ∃ d, dptS (gA S 18 (c + 1)) i = some d ∧ d ≤ 20) ∧ (0 < k → dptS (gA S 18 (c + 1)) k = some 1)
/-- world w against a row of the reference's -/
def WIw (S : St) (w : Nat) (rd : Nat → Int32) (nm : Nat → Int64) (n : Nat → Nat) : Prop := WFn n ∧ (∀ j, j < 59 → rd j = nI (n j)) ∧ CWw S w n ∧ HSw S w rd n ∧ NMw S w nm n ∧ SN S (w + 19) rd (n 0) (n 1) ∧ n 53 < 32 ∧ (gI S 8 6 (w + 1) = 0 ∨ gI S 8 6 (w + 1) = 1)
def WI (S : St) (n : Nat → Nat) : Prop := WIw S 3 (gA S 29 142) (gB S 32 145) n
/-- days of the class against 17 numbers of the reference's -/
def DR (S : St) (d : Nat) (rd : Nat → Int32) (n0 : Nat) (m : Nat → Nat) : Prop := (gI S 2 0 d = nI (m 0) ∧ gI S 2 2 d = nI (m 1) ∧ gI S 2 1 d = nI n0) ∧ (rd 0 = nI (m 0) ∧ rd 1 = nI (m 1) ∧ m 0 ≤ 10000 ∧ m 1 < 32) ∧ ∀ p, p < n0 → gA S 15 (d + 1) p = nI (m (2 + p)) ∧ rd (2 + p) = nI (m (2 + p)) ∧ m (2 + p) ≤ 9999 + m 0 ∧ gA S 16 (d + 2) p = rd (7 + p) ∧ gA S 17 (d + 3) p = rd (12 + p)
def UN (S : St) (n0 : Nat) : Prop := ∃ K : Nat, K ≤ 8 ∧ gI S 10 11 0 = nI K ∧ gI S 11 23 140 = nI K ∧ (∀ j, j < 8 → ∃ i, i < 8 ∧ gQ S 105 j = 106 + 4 * i) ∧ (∀ j j', j < 8 → j' < 8 → gQ S 105 j = gQ S 105 j' → j = j') ∧ ∀ i, i < K → ∃ m, DR S (gQ S 105 i) (fun j => gA S 34 147 (17 * i + j)) n0 m
def FLT (S : St) : Prop := gI S 10 14 0 = gI S 11 15 140
def AL (S : St) : Prop := gI S 0 0 93 = gI S 11 25 140 ∧ gI S 0 1 93 = gI S 11 26 140 ∧ gI S 0 2 93 = (if gI S 11 29 140 = 0 then -1 else gI S 11 28 140) ∧ gI S 0 3 93 = gI S 11 27 140 ∧ gI S 0 4 93 = gI S 11 24 140
def TI (S : St) : Prop := ∃ L : Nat, L ≤ 56 ∧ gI S 7 1 94 = nI L ∧ gI S 11 31 140 = nI L ∧ ∀ j, j < L → gA S 23 95 j = gA S 36 149 j
def TL (S : St) : Prop := gI S 1 3 90 = gI S 11 35 140 ∧ (¬ gI S 1 3 90 = 0 → gI S 1 4 90 = gA S 37 150 0 ∧ gI S 1 5 90 = gA S 37 150 1 ∧ gI S 1 6 90 = gA S 37 150 2 ∧ gI S 1 7 90 = gA S 37 150 3)
def IM (S : St) : Prop := ∀ k, k < 2 → gA S 27 139 k = gA S 42 155 k ∧ (¬ gA S 27 139 k = 0 → ∃ n, WIw S (26 + 23 * k) (fun j => gA S 40 153 (250 * k + j)) (fun j => gB S 41 154 (11 * k + j)) n)
def RS (S : St) : Prop := ∀ j, j < 19 → gB S 33 146 j = twv j
def RI (S : St) : Prop := TP S ∧ FLT S ∧ AL S ∧ TI S ∧ TL S ∧ IM S ∧ RS S
def Inv (S : St) : Prop := ∃ n, WI S n ∧ UN S (n 0) ∧ RI S
theorem WI.wf {S : St} {n : Nat → Nat} (h : WI S n) : WFn n := h.1
theorem WI.mr {S : St} {n : Nat → Nat} (h : WI S n) : MR S n := h.2.1
theorem WI.cw {S : St} {n : Nat → Nat} (h : WI S n) : CW S n := h.2.2.1
theorem WI.hs {S : St} {n : Nat → Nat} (h : WI S n) : HS S S n := h.2.2.2.1
-- what a frame keeps
theorem Fr.i {X : Nat → Nat → Prop} {S T : St} (h : Fr X S T) {c k a : Nat} (n : ¬ X k a) : gI T c k a = gI S c k a := h.1 c k a n
theorem Fr.j {X : Nat → Nat → Prop} {S T : St} (h : Fr X S T) {c k a : Nat} (n : ¬ X k a) : gJ T c k a = gJ S c k a := h.2.1 c k a n
theorem Fr.a {X : Nat → Nat → Prop} {S T : St} (h : Fr X S T) {c a j : Nat} (n : ¬ X 99 a) : gA T c a j = gA S c a j := h.2.2.1 c a j n
theorem Fr.b {X : Nat → Nat → Prop} {S T : St} (h : Fr X S T) {c a j : Nat} (n : ¬ X 99 a) : gB T c a j = gB S c a j := h.2.2.2.1 c a j n
theorem Fr.q {X : Nat → Nat → Prop} {S T : St} (h : Fr X S T) {a j : Nat} (n : ¬ X 99 a) : gQ T a j = gQ S a j := h.2.2.2.2 a j n
theorem SN_fr {X : Nat → Nat → Prop} {S T : St} {c n0 n1 : Nat} {rd rd' : Nat → Int32} (h : Fr X S T) (hx : ∀ k a, c ≤ a → a ≤ c + 3 → ¬ X k a) (hr : ∀ j, j < 250 → rd' j = rd j) (g : SN S c rd n0 n1) : SN T c rd' n0 n1 := by
  obtain ⟨k, k1, k2, k3, k4, k5, k6, k7⟩ := g
  have e1 : gA T 18 (c + 1) = gA S 18 (c + 1) := funext fun j => h.a (hx _ _ (by omega) (by omega))
  refine ⟨k, k1, (h.i (hx _ _ (by omega) (by omega))).trans k2, (hr 69 (by omega)).trans k3, ?_, fun i hi => ?_, ?_, ?_⟩
  · rw [h.i (hx _ _ (by omega) (by omega))]; exact k4
  · rw [h.a (hx _ _ (by omega) (by omega)), h.a (hx _ _ (by omega) (by omega)), h.a (hx _ _ (by omega) (by omega)), hr _ (by omega), hr _ (by omega), hr _ (by omega)]; exact k5 i hi
  · rw [e1]; exact k6
  · rw [e1]; exact k7
theorem CP_fr {X : Nat → Nat → Prop} {S T : St} {a M D U E W : Nat} (h : Fr X S T) (hx : ∀ k, ¬ X k a) (g : CP S a M D U E W) : CP T a M D U E W := by
  unfold CP; rw [h.i (hx _), h.i (hx _), h.i (hx _), h.i (hx _), h.i (hx _)]; exact g
theorem CWw_fr {X : Nat → Nat → Prop} {S T : St} {w : Nat} {n : Nat → Nat} (hn : n 0 ≤ 5 ∧ n 1 ≤ 6) (h : Fr X S T) (hx : ∀ k a, w + 1 ≤ a → a ≤ w + 16 → ¬ X k a) (g : CWw S w n) : CWw T w n := by
  obtain ⟨g1, g2, g3, g4, g5⟩ := g
  refine ⟨?_, fun p hp => CP_fr h (fun k => hx _ _ (by omega) (by omega)) (g2 p hp), fun f hf => ?_, ?_, fun p hp => ?_⟩
  · rw [h.i (hx _ _ (by omega) (by omega)), h.i (hx _ _ (by omega) (by omega)), h.i (hx _ _ (by omega) (by omega)), h.i (hx _ _ (by omega) (by omega))]; exact g1
  · rw [h.i (hx _ _ (by omega) (by omega)), h.i (hx _ _ (by omega) (by omega)), h.i (hx _ _ (by omega) (by omega))]; exact g3 f hf
  · rw [h.i (hx _ _ (by omega) (by omega)), h.i (hx _ _ (by omega) (by omega)), h.i (hx _ _ (by omega) (by omega))]; exact g4
  · rw [h.a (hx _ _ (by omega) (by omega))]; exact g5 p hp
theorem NMw_fr {X : Nat → Nat → Prop} {S T : St} {w : Nat} {n : Nat → Nat} {nm nm' : Nat → Int64} (hn : n 0 ≤ 5 ∧ n 1 ≤ 6) (h : Fr X S T) (hx : ∀ k a, w + 1 ≤ a → a ≤ w + 16 → ¬ X k a) (hm : ∀ j, j < 11 → nm' j = nm j) (g : NMw S w nm n) : NMw T w nm' n := by
  refine ⟨fun p hp => ?_, fun f hf => ?_⟩
  · rw [h.j (hx _ _ (by omega) (by omega)), hm _ (by omega)]; exact g.1 p hp
  · rw [h.j (hx _ _ (by omega) (by omega)), hm _ (by omega)]; exact g.2 f hf
theorem WIw_fr {X : Nat → Nat → Prop} {S T : St} {w : Nat} {n : Nat → Nat} {rd rd' : Nat → Int32} {nm nm' : Nat → Int64} (h : Fr X S T) (hx : ∀ k a, w + 1 ≤ a → a ≤ w + 22 → ¬ X k a) (hr : ∀ j, j < 250 → rd' j = rd j) (hm : ∀ j, j < 11 → nm' j = nm j) (g : WIw S w rd nm n) : WIw T w rd' nm' n := by
  obtain ⟨g1, g2, g3, g4, g5, g6, g7⟩ := g
  have hn : n 0 ≤ 5 ∧ n 1 ≤ 6 := ⟨g1.1.1, g1.1.2.1⟩
  refine ⟨g1, fun j hj => (hr j (by omega)).trans (g2 j hj), CWw_fr hn h (fun k a a1 a2 => hx k a (by omega) (by omega)) g3, fun p hp => ?_, NMw_fr hn h (fun k a a1 a2 => hx k a (by omega) (by omega)) hm g5, SN_fr h (fun k a a1 a2 => hx k a (by omega) (by omega)) hr g6, g7.1, by rw [h.i (hx _ _ (by omega) (by omega))]; exact g7.2⟩
  rw [h.a (hx _ _ (by omega) (by omega)), h.a (hx _ _ (by omega) (by omega)), hr _ (by omega), hr _ (by omega)]; exact g4 p hp
def fW (k a : Nat) : Prop := (4 ≤ a ∧ a ≤ 25) ∨ a = 142 ∨ a = 145
def fU (k a : Nat) : Prop := (a = 0 ∧ k = 11) ∨ (105 ≤ a ∧ a ≤ 137) ∨ (a = 140 ∧ k = 23) ∨ a = 147
def fTp (k a : Nat) : Prop := (a = 1 ∧ k = 1) ∨ a = 2 ∨ (a = 140 ∧ k = 2) ∨ a = 141
def fFt (k a : Nat) : Prop := (a = 0 ∧ k = 14) ∨ (a = 140 ∧ k = 15)
def fAl (k a : Nat) : Prop := a = 93 ∨ (a = 140 ∧ 24 ≤ k ∧ k ≤ 29)
def fTi (k a : Nat) : Prop := a = 94 ∨ a = 95 ∨ (a = 140 ∧ k = 31) ∨ a = 149
def fTl (k a : Nat) : Prop := (a = 90 ∧ 3 ≤ k ∧ k ≤ 7) ∨ (a = 140 ∧ k = 35) ∨ a = 150
def fIm (k a : Nat) : Prop := (26 ≤ a ∧ a ≤ 71) ∨ a = 139 ∨ (153 ≤ a ∧ a ≤ 155)
def fRs (k a : Nat) : Prop := a = 146
theorem WI_fr {X : Nat → Nat → Prop} {S T : St} {n : Nat → Nat} (h : Fr X S T) (hx : ∀ k a, fW k a → ¬ X k a) (g : WI S n) : WI T n := WIw_fr h (fun k a a1 a2 => hx k a (by unfold fW; omega)) (fun j _ => h.a (hx _ _ (by unfold fW; omega))) (fun j _ => h.b (hx _ _ (by unfold fW; omega))) g
theorem DR_fr {X : Nat → Nat → Prop} {S T : St} {d n0 : Nat} {m : Nat → Nat} {rd rd' : Nat → Int32} (h : Fr X S T) (hn : n0 ≤ 5) (hx : ∀ k a, d ≤ a → a ≤ d + 3 → ¬ X k a) (hr : ∀ j, j < 17 → rd' j = rd j) (g : DR S d rd n0 m) : DR T d rd' n0 m := by
  obtain ⟨g1, g2, g3⟩ := g
  refine ⟨?_, ?_, fun p hp => ?_⟩
  · rw [h.i (hx _ _ (by omega) (by omega)), h.i (hx _ _ (by omega) (by omega)), h.i (hx _ _ (by omega) (by omega))]; exact g1
  · rw [hr 0 (by omega), hr 1 (by omega)]; exact g2
  · rw [h.a (hx _ _ (by omega) (by omega)), h.a (hx _ _ (by omega) (by omega)), h.a (hx _ _ (by omega) (by omega)), hr _ (by omega), hr _ (by omega), hr _ (by omega)]; exact g3 p hp
theorem UN_fr {X : Nat → Nat → Prop} {S T : St} {n0 : Nat} (h : Fr X S T) (hn : n0 ≤ 5) (hx : ∀ k a, fU k a → ¬ X k a) (g : UN S n0) : UN T n0 := by
  obtain ⟨K, g1, g2, g3, g4, g5, g6⟩ := g
  have eq : ∀ j, gQ T 105 j = gQ S 105 j := fun j => h.q (hx _ _ (by unfold fU; omega))
  refine ⟨K, g1, (h.i (hx _ _ (by unfold fU; omega))).trans g2, (h.i (hx _ _ (by unfold fU; omega))).trans g3, fun j hj => ?_, fun j j' hj hj' => ?_, fun i hi => ?_⟩
  · rw [eq]; exact g4 j hj
  · rw [eq, eq]; exact g5 j j' hj hj'
  · obtain ⟨m, gm⟩ := g6 i hi
    obtain ⟨i', hi', ei⟩ := g4 i (by omega)
    rw [eq]
    refine ⟨m, DR_fr h hn (fun k a a1 a2 => hx k a (by unfold fU; omega)) (fun j _ => h.a (hx _ _ (by unfold fU; omega))) gm⟩
theorem TP_fr {X : Nat → Nat → Prop} {S T : St} (h : Fr X S T) (hx : ∀ k a, fTp k a → ¬ X k a) (g : TP S) : TP T := by
  obtain ⟨L, g1, g2, g3, g4⟩ := g
  exact ⟨L, g1, (h.i (hx _ _ (by unfold fTp; omega))).trans g2, (h.i (hx _ _ (by unfold fTp; omega))).trans g3, fun j hj => by rw [show gA T 12 2 j = gA S 12 2 j from h.a (hx _ _ (by unfold fTp; omega)), show gA T 28 141 j = gA S 28 141 j from h.a (hx _ _ (by unfold fTp; omega))]; exact g4 j hj⟩
theorem FLT_fr {X : Nat → Nat → Prop} {S T : St} (h : Fr X S T) (hx : ∀ k a, fFt k a → ¬ X k a) (g : FLT S) : FLT T := by
  unfold FLT; rw [h.i (hx _ _ (by unfold fFt; omega)), h.i (hx _ _ (by unfold fFt; omega))]; exact g
theorem AL_fr {X : Nat → Nat → Prop} {S T : St} (h : Fr X S T) (hx : ∀ k a, fAl k a → ¬ X k a) (g : AL S) : AL T := by
  have e := h.i (c := 11) (hx 29 140 (by unfold fAl; omega))
  obtain ⟨g1, g2, g3, g4, g5⟩ := g
  refine ⟨?_, ?_, ?_, ?_, ?_⟩
  · rw [h.i (hx _ _ (by unfold fAl; omega)), h.i (hx _ _ (by unfold fAl; omega))]; exact g1
  · rw [h.i (hx _ _ (by unfold fAl; omega)), h.i (hx _ _ (by unfold fAl; omega))]; exact g2
  · rw [h.i (c := 0) (hx 2 93 (by unfold fAl; omega)), h.i (c := 11) (hx 28 140 (by unfold fAl; omega)), e]; exact g3
  · rw [h.i (hx _ _ (by unfold fAl; omega)), h.i (hx _ _ (by unfold fAl; omega))]; exact g4
  · rw [h.i (hx _ _ (by unfold fAl; omega)), h.i (hx _ _ (by unfold fAl; omega))]; exact g5
theorem TI_fr {X : Nat → Nat → Prop} {S T : St} (h : Fr X S T) (hx : ∀ k a, fTi k a → ¬ X k a) (g : TI S) : TI T := by
  obtain ⟨L, g1, g2, g3, g4⟩ := g
  exact ⟨L, g1, (h.i (hx _ _ (by unfold fTi; omega))).trans g2, (h.i (hx _ _ (by unfold fTi; omega))).trans g3, fun j hj => by rw [h.a (hx _ _ (by unfold fTi; omega)), h.a (hx _ _ (by unfold fTi; omega))]; exact g4 j hj⟩
theorem TL_fr {X : Nat → Nat → Prop} {S T : St} (h : Fr X S T) (hx : ∀ k a, fTl k a → ¬ X k a) (g : TL S) : TL T := by
  unfold TL
  rw [h.i (c := 1) (hx 3 90 (by unfold fTl; omega)), h.i (c := 1) (hx 4 90 (by unfold fTl; omega)), h.i (c := 1) (hx 5 90 (by unfold fTl; omega)), h.i (c := 1) (hx 6 90 (by unfold fTl; omega)), h.i (c := 1) (hx 7 90 (by unfold fTl; omega)), h.i (c := 11) (hx 35 140 (by unfold fTl; omega)), h.a (c := 37) (j := 0) (hx 99 150 (by unfold fTl; omega)), h.a (c := 37) (j := 1) (hx 99 150 (by unfold fTl; omega)), h.a (c := 37) (j := 2) (hx 99 150 (by unfold fTl; omega)), h.a (c := 37) (j := 3) (hx 99 150 (by unfold fTl; omega))]
  exact g
theorem IM_fr {X : Nat → Nat → Prop} {S T : St} (h : Fr X S T) (hx : ∀ k a, fIm k a → ¬ X k a) (g : IM S) : IM T := by
  intro k hk
  obtain ⟨g1, g2⟩ := g k hk
  have e := h.a (c := 27) (j := k) (hx 99 139 (by unfold fIm; omega))
  rw [e, h.a (c := 42) (j := k) (hx 99 155 (by unfold fIm; omega))]
  refine ⟨g1, fun q => ?_⟩
  obtain ⟨n, gn⟩ := g2 q
  exact ⟨n, WIw_fr h (fun k' a a1 a2 => hx k' a (by unfold fIm; omega)) (fun j _ => h.a (hx _ _ (by unfold fIm; omega))) (fun j _ => h.b (hx _ _ (by unfold fIm; omega))) gn⟩
theorem RS_fr {X : Nat → Nat → Prop} {S T : St} (h : Fr X S T) (hx : ¬ X 99 146) (g : RS S) : RS T := fun j hj => by rw [h.b hx]; exact g j hj
/-- what the class's queries leave changed: the reference's thrown alone -/
theorem fr_th {S : St} {v : Int32} : Fr (fun k a => a = 140 ∧ k = 0) S (sI S 11 0 140 v) := Fr_sI Fr_id ⟨rfl, rfl⟩
def fAll (k a : Nat) : Prop := fW k a ∨ fU k a ∨ fTp k a ∨ fFt k a ∨ fAl k a ∨ fTi k a ∨ fTl k a ∨ fIm k a ∨ fRs k a
theorem Inv_fr {X : Nat → Nat → Prop} {S T : St} (h : Fr X S T) (hx : ∀ k a, X k a → ¬ fAll k a) (g : Inv S) : Inv T := by
  obtain ⟨n, g1, g2, g3, g4, g5, g6, g7, g8, g9⟩ := g
  exact ⟨n, WI_fr h (fun k a q x => hx k a x (Or.inl q)) g1, UN_fr h g1.wf.1.1 (fun k a q x => hx k a x (Or.inr (Or.inl q))) g2, TP_fr h (fun k a q x => hx k a x (Or.inr (Or.inr (Or.inl q)))) g3, FLT_fr h (fun k a q x => hx k a x (Or.inr (Or.inr (Or.inr (Or.inl q))))) g4, AL_fr h (fun k a q x => hx k a x (Or.inr (Or.inr (Or.inr (Or.inr (Or.inl q)))))) g5, TI_fr h (fun k a q x => hx k a x (Or.inr (Or.inr (Or.inr (Or.inr (Or.inr (Or.inl q))))))) g6, TL_fr h (fun k a q x => hx k a x (Or.inr (Or.inr (Or.inr (Or.inr (Or.inr (Or.inr (Or.inl q)))))))) g7, IM_fr h (fun k a q x => hx k a x (Or.inr (Or.inr (Or.inr (Or.inr (Or.inr (Or.inr (Or.inr (Or.inl q))))))))) g8, RS_fr h (fun x => hx _ _ x (Or.inr (Or.inr (Or.inr (Or.inr (Or.inr (Or.inr (Or.inr (Or.inr rfl))))))))) g9⟩
theorem Inv_th {S : St} {v : Int32} (g : Inv S) : Inv (sI S 11 0 140 v) := Inv_fr fr_th (fun k a q => by obtain ⟨rfl, rfl⟩ := q; unfold fAll fW fU fTp fFt fAl fTi fTl fIm fRs; omega) g
