-- tables of the cells (written by wip/whole/mk04.py)
def FTL : List (List Nat) := [[0, 0, 0, 0, 0], [2, 2, 0, 0, 0, 0, 0, 0], [0, 0, 0, 2, 2, 2], [1, 0, 0, 0], [1, 0, 0, 0, 0, 0, 0], [2, 2, 2, 0, 0], [2, 0, 0, 0, 0, 0, 1, 0, 0, 0], [2, 0], [2, 2, 0, 0, 0, 0, 0], [2, 2, 2], [2, 2, 2, 2, 2, 2, 2, 2, 2, 2, 2, 0, 2, 2, 0], [0, 2, 0, 0, 0, 0, 2, 2, 2, 2, 2, 0, 0, 0, 0, 0, 0, 1, 0, 0, 0, 2, 2, 0, 0, 0, 0, 0, 0, 0, 2, 0, 0, 0, 2, 0, 2, 0, 0, 0, 0, 0, 2, 2, 2, 2]]
def FT (c k : Nat) : Nat := (FTL.getD c []).getD k 0
def NF (c : Nat) : Nat := (FTL.getD c []).length
def OTL : List (List Nat) := [[0, 0, 0, 0, 0], [1, 2, 0, 0, 0, 0, 0, 0], [0, 0, 0, 1, 2, 3], [0, 0, 0, 0], [0, 0, 0, 0, 0, 0, 0], [1, 2, 3, 0, 0], [1, 0, 0, 0, 0, 0, 0, 0, 0, 0], [1, 0], [1, 2, 0, 0, 0, 0, 0], [1, 15, 19], [1, 3, 72, 86, 90, 93, 94, 96, 97, 101, 105, 0, 138, 139, 0], [0, 1, 0, 0, 0, 0, 2, 3, 4, 5, 6, 0, 0, 0, 0, 0, 0, 0, 0, 0, 0, 7, 8, 0, 0, 0, 0, 0, 0, 0, 9, 0, 0, 0, 10, 0, 11, 0, 0, 0, 0, 0, 12, 13, 14, 15]]
def OT (c k : Nat) : Nat := (OTL.getD c []).getD k 0
def KTL : List Nat := [10, 6, 12, 9, 8, 13, 14, 4, 4, 4, 4, 4, 3, 3, 3, 3, 3, 3, 2, 15, 16, 17, 5, 18, 19, 20, 9, 8, 13, 14, 4, 4, 4, 4, 4, 3, 3, 3, 3, 3, 3, 2, 15, 16, 17, 5, 18, 19, 20, 9, 8, 13, 14, 4, 4, 4, 4, 4, 3, 3, 3, 3, 3, 3, 2, 15, 16, 17, 5, 18, 19, 20, 8, 13, 14, 4, 4, 4, 4, 4, 3, 3, 3, 3, 3, 3, 5, 18, 19, 20, 1, 21, 22, 0, 7, 23, 24, 2, 15, 16, 17, 2, 15, 16, 17, 25, 2, 15, 16, 17, 2, 15, 16, 17, 2, 15, 16, 17, 2, 15, 16, 17, 2, 15, 16, 17, 2, 15, 16, 17, 2, 15, 16, 17, 2, 15, 16, 17, 26, 27, 11, 28, 29, 30, 31, 32, 33, 34, 35, 36, 37, 38, 39, 40, 41, 42]
def KT (a : Nat) : Nat := KTL.getD a 99
def LTL : List Nat := [940, 5, 6, 5, 5, 5, 40, 40, 40, 40, 40, 64, 3, 8, 2, 2, 940, 250, 52, 135, 22, 19, 136, 17, 56, 4, 45, 45, 500, 22, 2]
def LT (kd : Nat) : Nat := LTL.getD (kd - 12) 0
def ETL : List FieldType := [.byte, .object "ParishYears$Parish", .object "ParishYears$Feast", .int, .int, .int, .int, .int, .int, .int, .int, .byte, .int, .object "ParishYears$Days", .object "ParishYears$World", .boolean, .byte, .int, .int, .int, .long, .long, .int, .int, .byte, .int, .int, .boolean, .int, .long, .boolean]
def AKL : List Nat := [0, 2, 2, 0, 0, 0, 0, 0, 0, 0, 0, 0, 0, 2, 2, 0, 0, 0, 0, 0, 1, 1, 0, 0, 0, 0, 0, 0, 0, 1, 0]
def AK (kd : Nat) : Nat := AKL.getD (kd - 12) 0
theorem KT_lt {a c : Nat} (h : KT a = c) (hc : c < 99) : a < 156 := by
  rcases Nat.lt_or_ge a 156 with q | q
  · exact q
  · have : KT a = 99 := by unfold KT; rw [List.getD_eq_getElem?_getD, List.getElem?_eq_none (by show 156 ≤ a; exact q)]; rfl
    omega
theorem on_1_0 {a : Nat} (h : KT a = 1) : KT (a + 1) = 21 := (show ∀ a, a < 156 → KT a = 1 → KT (a + 1) = 21 by decide +kernel) a (KT_lt h (by decide)) h
theorem on_1_1 {a : Nat} (h : KT a = 1) : KT (a + 2) = 22 := (show ∀ a, a < 156 → KT a = 1 → KT (a + 2) = 22 by decide +kernel) a (KT_lt h (by decide)) h
theorem on_2_3 {a : Nat} (h : KT a = 2) : KT (a + 1) = 15 := (show ∀ a, a < 156 → KT a = 2 → KT (a + 1) = 15 by decide +kernel) a (KT_lt h (by decide)) h
theorem on_2_4 {a : Nat} (h : KT a = 2) : KT (a + 2) = 16 := (show ∀ a, a < 156 → KT a = 2 → KT (a + 2) = 16 by decide +kernel) a (KT_lt h (by decide)) h
theorem on_2_5 {a : Nat} (h : KT a = 2) : KT (a + 3) = 17 := (show ∀ a, a < 156 → KT a = 2 → KT (a + 3) = 17 by decide +kernel) a (KT_lt h (by decide)) h
theorem on_5_0 {a : Nat} (h : KT a = 5) : KT (a + 1) = 18 := (show ∀ a, a < 156 → KT a = 5 → KT (a + 1) = 18 by decide +kernel) a (KT_lt h (by decide)) h
theorem on_5_1 {a : Nat} (h : KT a = 5) : KT (a + 2) = 19 := (show ∀ a, a < 156 → KT a = 5 → KT (a + 2) = 19 by decide +kernel) a (KT_lt h (by decide)) h
theorem on_5_2 {a : Nat} (h : KT a = 5) : KT (a + 3) = 20 := (show ∀ a, a < 156 → KT a = 5 → KT (a + 3) = 20 by decide +kernel) a (KT_lt h (by decide)) h
theorem on_6_0 {a : Nat} (h : KT a = 6) : KT (a + 1) = 12 := (show ∀ a, a < 156 → KT a = 6 → KT (a + 1) = 12 by decide +kernel) a (KT_lt h (by decide)) h
theorem on_7_0 {a : Nat} (h : KT a = 7) : KT (a + 1) = 23 := (show ∀ a, a < 156 → KT a = 7 → KT (a + 1) = 23 by decide +kernel) a (KT_lt h (by decide)) h
theorem on_8_0 {a : Nat} (h : KT a = 8) : KT (a + 1) = 13 := (show ∀ a, a < 156 → KT a = 8 → KT (a + 1) = 13 by decide +kernel) a (KT_lt h (by decide)) h
theorem on_8_1 {a : Nat} (h : KT a = 8) : KT (a + 2) = 14 := (show ∀ a, a < 156 → KT a = 8 → KT (a + 2) = 14 by decide +kernel) a (KT_lt h (by decide)) h
theorem on_9_0 {a : Nat} (h : KT a = 9) : KT (a + 1) = 8 := (show ∀ a, a < 156 → KT a = 9 → KT (a + 1) = 8 by decide +kernel) a (KT_lt h (by decide)) h
theorem on_9_1 {a : Nat} (h : KT a = 9) : KT (a + 15) = 2 := (show ∀ a, a < 156 → KT a = 9 → KT (a + 15) = 2 by decide +kernel) a (KT_lt h (by decide)) h
theorem on_9_2 {a : Nat} (h : KT a = 9) : KT (a + 19) = 5 := (show ∀ a, a < 156 → KT a = 9 → KT (a + 19) = 5 by decide +kernel) a (KT_lt h (by decide)) h
theorem on_10_0 {a : Nat} (h : KT a = 10) : KT (a + 1) = 6 := (show ∀ a, a < 156 → KT a = 10 → KT (a + 1) = 6 by decide +kernel) a (KT_lt h (by decide)) h
theorem on_10_1 {a : Nat} (h : KT a = 10) : KT (a + 3) = 9 := (show ∀ a, a < 156 → KT a = 10 → KT (a + 3) = 9 by decide +kernel) a (KT_lt h (by decide)) h
theorem on_10_2 {a : Nat} (h : KT a = 10) : KT (a + 72) = 8 := (show ∀ a, a < 156 → KT a = 10 → KT (a + 72) = 8 by decide +kernel) a (KT_lt h (by decide)) h
theorem on_10_3 {a : Nat} (h : KT a = 10) : KT (a + 86) = 5 := (show ∀ a, a < 156 → KT a = 10 → KT (a + 86) = 5 by decide +kernel) a (KT_lt h (by decide)) h
theorem on_10_4 {a : Nat} (h : KT a = 10) : KT (a + 90) = 1 := (show ∀ a, a < 156 → KT a = 10 → KT (a + 90) = 1 by decide +kernel) a (KT_lt h (by decide)) h
theorem on_10_5 {a : Nat} (h : KT a = 10) : KT (a + 93) = 0 := (show ∀ a, a < 156 → KT a = 10 → KT (a + 93) = 0 by decide +kernel) a (KT_lt h (by decide)) h
theorem on_10_6 {a : Nat} (h : KT a = 10) : KT (a + 94) = 7 := (show ∀ a, a < 156 → KT a = 10 → KT (a + 94) = 7 by decide +kernel) a (KT_lt h (by decide)) h
theorem on_10_7 {a : Nat} (h : KT a = 10) : KT (a + 96) = 24 := (show ∀ a, a < 156 → KT a = 10 → KT (a + 96) = 24 by decide +kernel) a (KT_lt h (by decide)) h
theorem on_10_8 {a : Nat} (h : KT a = 10) : KT (a + 97) = 2 := (show ∀ a, a < 156 → KT a = 10 → KT (a + 97) = 2 by decide +kernel) a (KT_lt h (by decide)) h
theorem on_10_9 {a : Nat} (h : KT a = 10) : KT (a + 101) = 2 := (show ∀ a, a < 156 → KT a = 10 → KT (a + 101) = 2 by decide +kernel) a (KT_lt h (by decide)) h
theorem on_10_10 {a : Nat} (h : KT a = 10) : KT (a + 105) = 25 := (show ∀ a, a < 156 → KT a = 10 → KT (a + 105) = 25 by decide +kernel) a (KT_lt h (by decide)) h
theorem on_10_12 {a : Nat} (h : KT a = 10) : KT (a + 138) = 26 := (show ∀ a, a < 156 → KT a = 10 → KT (a + 138) = 26 by decide +kernel) a (KT_lt h (by decide)) h
theorem on_10_13 {a : Nat} (h : KT a = 10) : KT (a + 139) = 27 := (show ∀ a, a < 156 → KT a = 10 → KT (a + 139) = 27 by decide +kernel) a (KT_lt h (by decide)) h
theorem on_11_1 {a : Nat} (h : KT a = 11) : KT (a + 1) = 28 := (show ∀ a, a < 156 → KT a = 11 → KT (a + 1) = 28 by decide +kernel) a (KT_lt h (by decide)) h
theorem on_11_6 {a : Nat} (h : KT a = 11) : KT (a + 2) = 29 := (show ∀ a, a < 156 → KT a = 11 → KT (a + 2) = 29 by decide +kernel) a (KT_lt h (by decide)) h
theorem on_11_7 {a : Nat} (h : KT a = 11) : KT (a + 3) = 30 := (show ∀ a, a < 156 → KT a = 11 → KT (a + 3) = 30 by decide +kernel) a (KT_lt h (by decide)) h
theorem on_11_8 {a : Nat} (h : KT a = 11) : KT (a + 4) = 31 := (show ∀ a, a < 156 → KT a = 11 → KT (a + 4) = 31 by decide +kernel) a (KT_lt h (by decide)) h
theorem on_11_9 {a : Nat} (h : KT a = 11) : KT (a + 5) = 32 := (show ∀ a, a < 156 → KT a = 11 → KT (a + 5) = 32 by decide +kernel) a (KT_lt h (by decide)) h
theorem on_11_10 {a : Nat} (h : KT a = 11) : KT (a + 6) = 33 := (show ∀ a, a < 156 → KT a = 11 → KT (a + 6) = 33 by decide +kernel) a (KT_lt h (by decide)) h
theorem on_11_21 {a : Nat} (h : KT a = 11) : KT (a + 7) = 34 := (show ∀ a, a < 156 → KT a = 11 → KT (a + 7) = 34 by decide +kernel) a (KT_lt h (by decide)) h
theorem on_11_22 {a : Nat} (h : KT a = 11) : KT (a + 8) = 35 := (show ∀ a, a < 156 → KT a = 11 → KT (a + 8) = 35 by decide +kernel) a (KT_lt h (by decide)) h
theorem on_11_30 {a : Nat} (h : KT a = 11) : KT (a + 9) = 36 := (show ∀ a, a < 156 → KT a = 11 → KT (a + 9) = 36 by decide +kernel) a (KT_lt h (by decide)) h
theorem on_11_34 {a : Nat} (h : KT a = 11) : KT (a + 10) = 37 := (show ∀ a, a < 156 → KT a = 11 → KT (a + 10) = 37 by decide +kernel) a (KT_lt h (by decide)) h
theorem on_11_36 {a : Nat} (h : KT a = 11) : KT (a + 11) = 38 := (show ∀ a, a < 156 → KT a = 11 → KT (a + 11) = 38 by decide +kernel) a (KT_lt h (by decide)) h
theorem on_11_42 {a : Nat} (h : KT a = 11) : KT (a + 12) = 39 := (show ∀ a, a < 156 → KT a = 11 → KT (a + 12) = 39 by decide +kernel) a (KT_lt h (by decide)) h
theorem on_11_43 {a : Nat} (h : KT a = 11) : KT (a + 13) = 40 := (show ∀ a, a < 156 → KT a = 11 → KT (a + 13) = 40 by decide +kernel) a (KT_lt h (by decide)) h
theorem on_11_44 {a : Nat} (h : KT a = 11) : KT (a + 14) = 41 := (show ∀ a, a < 156 → KT a = 11 → KT (a + 14) = 41 by decide +kernel) a (KT_lt h (by decide)) h
theorem on_11_45 {a : Nat} (h : KT a = 11) : KT (a + 15) = 42 := (show ∀ a, a < 156 → KT a = 11 → KT (a + 15) = 42 by decide +kernel) a (KT_lt h (by decide)) h
theorem on_p {a j : Nat} (h : KT a = 13) (hj : j < 5) : KT (a + 2 + j) = 4 := (show ∀ a, a < 156 → KT a = 13 → ∀ j, j < 5 → KT (a + 2 + j) = 4 by decide +kernel) a (KT_lt h (by decide)) h j hj
theorem on_f {a j : Nat} (h : KT a = 14) (hj : j < 6) : KT (a + 6 + j) = 3 := (show ∀ a, a < 156 → KT a = 14 → ∀ j, j < 6 → KT (a + 6 + j) = 3 by decide +kernel) a (KT_lt h (by decide)) h j hj
theorem on_w {j : Nat} (hj : j < 2) : KT (26 + 23 * j) = 9 := (show ∀ j, j < 2 → KT (26 + 23 * j) = 9 by decide +kernel) j hj
-- the state: int fields (kind, field, cell), long fields, int arrays (kind, cell, place), long arrays, the one array of references that changes
abbrev St : Type := (Nat → Nat → Nat → Int32) × (Nat → Nat → Nat → Int64) × (Nat → Nat → Nat → Int32) × (Nat → Nat → Nat → Int64) × (Nat → Nat → Nat)
def gI (S : St) (c k a : Nat) : Int32 := S.1 c k a
def gJ (S : St) (c k a : Nat) : Int64 := S.2.1 c k a
def gA (S : St) (c a j : Nat) : Int32 := S.2.2.1 c a j
def gB (S : St) (c a j : Nat) : Int64 := S.2.2.2.1 c a j
def gQ (S : St) (a j : Nat) : Nat := S.2.2.2.2 a j
def u3 {α : Type} (f : Nat → Nat → Nat → α) (x y z : Nat) (v : α) : Nat → Nat → Nat → α := fun x' y' z' => if x' = x ∧ y' = y ∧ z' = z then v else f x' y' z'
def sI (S : St) (c k a : Nat) (v : Int32) : St := (u3 S.1 c k a v, S.2)
def sJ (S : St) (c k a : Nat) (v : Int64) : St := (S.1, u3 S.2.1 c k a v, S.2.2)
def sA (S : St) (c a j : Nat) (v : Int32) : St := (S.1, S.2.1, u3 S.2.2.1 c a j v, S.2.2.2)
def sB (S : St) (c a j : Nat) (v : Int64) : St := (S.1, S.2.1, S.2.2.1, u3 S.2.2.2.1 c a j v, S.2.2.2.2)
def sQ (S : St) (a j v : Nat) : St := (S.1, S.2.1, S.2.2.1, S.2.2.2.1, fun a' j' => if a' = a ∧ j' = j then v else S.2.2.2.2 a' j')
theorem u3_eq {α : Type} (f : Nat → Nat → Nat → α) (x y z x' y' z' : Nat) (v : α) : u3 f x y z v x' y' z' = if x' = x ∧ y' = y ∧ z' = z then v else f x' y' z' := rfl
theorem u3_self {α : Type} (f : Nat → Nat → Nat → α) (x y z : Nat) (v : α) : u3 f x y z v x y z = v := by simp [u3]
theorem u3_x {α : Type} (f : Nat → Nat → Nat → α) {x y z x' y' z' : Nat} (v : α) (h : x' ≠ x) : u3 f x y z v x' y' z' = f x' y' z' := by simp [u3, h]
theorem u3_y {α : Type} (f : Nat → Nat → Nat → α) {x y z x' y' z' : Nat} (v : α) (h : y' ≠ y) : u3 f x y z v x' y' z' = f x' y' z' := by simp [u3, h]
theorem u3_z {α : Type} (f : Nat → Nat → Nat → α) {x y z x' y' z' : Nat} (v : α) (h : z' ≠ z) : u3 f x y z v x' y' z' = f x' y' z' := by simp [u3, h]
-- what each cell holds
def fv (ad : Nat → Nat) (S : St) (c a k : Nat) : Value := if FT c k = 0 then .int (gI S c k a) else if FT c k = 1 then .long (gJ S c k a) else .ref (ad (a + OT c k))
def fvs (ad : Nat → Nat) (S : St) (c a : Nat) : List Value := (List.range (NF c)).map (fv ad S c a)
def PE (S : St) (kd a j : Nat) : Nat := if kd = 13 then a + 2 + j else if kd = 14 then a + 6 + j else if kd = 26 then 26 + 23 * j else gQ S a j
def arr (ad : Nat → Nat) (S : St) (kd a : Nat) : vp_A := (LT kd, if AK kd = 0 then .inl (gA S kd a) else if AK kd = 1 then .inr (.inl (gB S kd a)) else .inr (.inr (.inr (.inr (fun j => some (ad (PE S kd a j)))))))
def cel (ad : Nat → Nat) (cy : Nat → ClassId) (S : St) (a : Nat) : va_E := if KT a < 12 then .inr (KT a, fvs ad S (KT a) a) else .inl (cy (KT a), arr ad S (KT a) a)
def pw (ad : Nat → Nat) (cy : Nat → ClassId) (S : St) : va_W := (List.range 156).map (fun a => (ad a, cel ad cy S a))
def tysOf (cy : Nat → ClassId) : List (ClassId × FieldType) := (List.range 31).map (fun i => (cy (i + 12), ETL.getD i .int))
def InA (ad : Nat → Nat) : Nat → Prop := fun q => ∃ i, i < 156 ∧ q = ad i
def Inj (ad : Nat → Nat) : Prop := ∀ i j, i < 156 → j < 156 → ad i = ad j → i = j
-- the text constants of Title: cells 156.. (their rows of bytes 161..), outside the pool
def sxI : List Nat := [51, 69, 71, 73, 78]
def sxT : List String := [" year ", " between ", " month ", " day ", " held"]
def sxLen : List Nat := [6, 9, 7, 5, 5]
def sxByt : List (List Int32) := [[32, 121, 101, 97, 114, 32], [32, 98, 101, 116, 119, 101, 101, 110, 32], [32, 109, 111, 110, 116, 104, 32], [32, 100, 97, 121, 32], [32, 104, 101, 108, 100]]
/-- the state is behind a start of the law's, whose cells stand as they were -/
def Ex (ad : Nat → Nat) (A : Nat → Prop) (U : State) : Prop := ∃ (s0 : State) (b : Nat), (Jvm.Cond.and given_1 narrow_1).before #[Value.ref b] s0 = true ∧ (∀ w ∈ lw_tbl, w.before #[Value.ref b] s0 = true) ∧ s0.WarmedH U.vm ∧ s0.heap.size ≤ U.heap.size ∧ (∀ q : Nat, q < s0.heap.size → U.heap[q]? = s0.heap[q]?) ∧ (∀ q, A q → s0.heap.size ≤ q) ∧ vk_S 5 sxLen sxByt (fun i => ad (156 + i)) (fun i => ad (161 + i)) (fun q => s0.heap.size ≤ q) s0 s0.heap ∧ ∀ i, i < 5 → vk_R RX7 (sxI.getD i 0) (sxT.getD i "") (ad (156 + i)) s0
def PoolAt (ad : Nat → Nat) (D : va_G) (cy : Nat → ClassId) (S : St) (U : State) : Prop := va_P D vwCl (pw ad cy S) U.heap ∧ va_K D vwCl (tysOf cy) U ∧ Ex ad (InA ad) U
def Qr (ad : Nat → Nat) (D : va_G) (cy : Nat → ClassId) (o : Option Value × St) : Array Value → State → Outcome → State → Prop := fun _ st oc t => oc = .returned o.1 ∧ PoolAt ad D cy o.2 t ∧ va_F (InA ad) st t
def rmN (n : Nat) : Room := { frames := n, cells := 0, slots := 0, locals := 60 * n }
/-- a method's contract: from the pool S it answers o.1 and leaves the pool o.2 -/
def OkM (l : Launch) (y : MethodName) (cc : ByteArray) (maxL : Nat) (ret : Option FieldType) (h : Nat) (ad : Nat → Nat) (D : va_G) (cy : Nat → ClassId) (as : List Value) (S : St) (o : Option Value × St) : Prop :=
  Met l y (.code y cc maxL ret :: wsL_law0) (rmN h) (va_Pc as (fun U => PoolAt ad D cy S U)) (Qr ad D cy o) 0 0 (InA ad)
abbrev Mx : Type := (Program × Launch × Env × Room × State × MethodId × Array Value × List Frame × Method × Code) × va_G × (Nat → ClassId) × ((Option Value × St) → State → Prop) × Nat × Nat × (Heap → Prop) × (Nat → Prop)
/-- what holds in a method's frame; h: the room; from 1000 on its end is another's business -/
def CxOk (z : Mx) (ad : Nat → Nat) (own : String) (cc : ByteArray) (nL : Nat) (ret : Option FieldType) (h : Nat) : Prop := match z with
  | ((p, _, _, R, s, m, args, below, meth, c), D, cy, Q, k, n, F, A) => p.tables.exec = Jvm.exec ∧ c.code = cc ∧ c.maxLocals = nL ∧ s.vm.findClass own = some m.cls ∧ (∀ w ∈ wsL_law0, w.before args s = true) ∧ meth.sig.returnType = ret ∧ meth.locks = false ∧ (h ≤ R.frames ∧ 60 * h ≤ R.locals ∧ k ≤ R.cells ∧ n ≤ R.slots) ∧ va_K D vwCl (tysOf cy) s ∧ Ex ad A s ∧ Inj ad ∧ ((∀ H H' : Heap, H.size ≤ H'.size → (∀ q : Nat, q < H.size → ¬ InA ad q → H'[q]? = H[q]?) → F H → F H') ∧ (h < 1100 → ∀ H H' : Heap, F H → F H')) ∧ (h < 1000 → Q = (fun o => MQ below (Qr ad D cy o) args s 0 0 (InA ad)) ∧ k = 0 ∧ n = 0 ∧ A = InA ad) ∧ (∀ q, InA ad q → A q)
def GW (z : Mx) (ad : Nat → Nat) (o : Option Value × St) (S : St) (pc : Nat) (lv : List (Nat × Value)) (st : List Value) : Prop := match z with
  | ((p, l, e, R, s, m, args, below, meth, c), D, cy, Q, k, n, F, A) => ∀ (H : Heap) (locs : List Loc) (ls : Array Slot), va_P D vwCl (pw ad cy S) H → va_S A s.heap H locs → F H → lv_has ls c.maxLocals lv → W p l e R s m args below meth c H locs k n (Q o) (F0 m pc ls st)
theorem va_S_tr {A : Nat → Prop} {H0 H H1 : Heap} {locs locs1 : List Loc} (h : va_S A H0 H locs) (h1 : va_S A H H1 locs1) : va_S A H0 H1 locs1 := ⟨Nat.le_trans h.1 h1.1, fun q a b => (h1.2.1 q (Nat.lt_of_lt_of_le a h.1) b).trans (h.2.1 q a b), h1.2.2⟩
theorem pw_DA {ad : Nat → Nat} {cy : Nat → ClassId} {S : St} {A : Nat → Prop} (hD : va_D (InA ad) (pw ad cy S)) (hA : ∀ q, InA ad q → A q) : va_D A (pw ad cy S) := ⟨hD.1, fun k q h => hA _ (hD.2 k q h)⟩
theorem va_S_id {A : Nat → Prop} {H0 H : Heap} {locs : List Loc} (h : va_S A H0 H locs) : va_S A H H locs := ⟨Nat.le_refl _, fun _ _ _ => rfl, h.2.2⟩
-- the pool's rows
theorem pw_len (ad : Nat → Nat) (cy : Nat → ClassId) (S : St) : (pw ad cy S).length = 156 := by simp [pw]
theorem pw_get {ad : Nat → Nat} {cy : Nat → ClassId} {S : St} {a : Nat} (h : a < 156) : (pw ad cy S)[a]? = some (ad a, cel ad cy S a) := by simp [pw, h]
theorem pw_obj {ad : Nat → Nat} {cy : Nat → ClassId} {S : St} {a c : Nat} (h : KT a = c) (hc : c < 12) : (pw ad cy S)[a]? = some (ad a, .inr (c, fvs ad S c a)) := by
  rw [pw_get (KT_lt h (by omega))]; simp [cel, h, hc]
theorem pw_arr {ad : Nat → Nat} {cy : Nat → ClassId} {S : St} {a c : Nat} (h : KT a = c) (hc : 12 ≤ c) (hc2 : c < 43) : (pw ad cy S)[a]? = some (ad a, .inl (cy c, arr ad S c a)) := by
  rw [pw_get (KT_lt h (by omega))]; simp [cel, h, Nat.not_lt.mpr hc]
theorem pw_D {ad : Nat → Nat} {cy : Nat → ClassId} {S : St} (hi : Inj ad) : va_D (InA ad) (pw ad cy S) := by
  refine ⟨fun i j p q h1 h2 h3 => ?_, fun k q h => ?_⟩
  · have a1 : i < 156 := by rw [← pw_len ad cy S]; exact (List.getElem?_eq_some_iff.mp h1).1
    have a2 : j < 156 := by rw [← pw_len ad cy S]; exact (List.getElem?_eq_some_iff.mp h2).1
    rw [pw_get a1] at h1; rw [pw_get a2] at h2
    cases h1; cases h2
    exact hi i j a1 a2 h3
  · have a1 : k < 156 := by rw [← pw_len ad cy S]; exact (List.getElem?_eq_some_iff.mp h).1
    rw [pw_get a1] at h; cases h
    exact ⟨k, a1, rfl⟩
/-- a changed cell: the list is that of the changed state -/
theorem pw_set {ad : Nat → Nat} {cy : Nat → ClassId} {S S' : St} {a : Nat} {e : va_E} (ha : cel ad cy S' a = e) (hb : ∀ b, b < 156 → b ≠ a → cel ad cy S' b = cel ad cy S b) : (pw ad cy S).set a (ad a, e) = pw ad cy S' := by
  apply List.ext_getElem?
  intro i
  rw [List.getElem?_set]
  by_cases hi : i < 156
  · rw [pw_get hi, pw_len]
    by_cases h : a = i
    · subst h; rw [if_pos rfl, if_pos hi, pw_get hi, ha]
    · rw [if_neg h, pw_get hi, hb i hi (fun q => h q.symm)]
  · have h2 : (pw ad cy S')[i]? = none := List.getElem?_eq_none (by rw [pw_len]; omega)
    have h3 : (pw ad cy S)[i]? = none := List.getElem?_eq_none (by rw [pw_len]; omega)
    rw [h2, pw_len]
    by_cases h : a = i
    · rw [if_pos h, if_neg (by omega)]
    · rw [if_neg h, h3]
theorem fvs_get {ad : Nat → Nat} {S : St} {c a k : Nat} (h : k < NF c) : (fvs ad S c a)[k]? = some (fv ad S c a k) := by simp [fvs, h]
theorem fvs_len (ad : Nat → Nat) (S : St) (c a : Nat) : (fvs ad S c a).length = NF c := by simp [fvs]
theorem fvs_setI {ad : Nat → Nat} {S : St} {c a k : Nat} {v : Int32} (hf : FT c k = 0) : (fvs ad S c a).set k (.int v) = fvs ad (sI S c k a v) c a := by
  apply List.ext_getElem?
  intro i
  rw [List.getElem?_set, fvs_len]
  by_cases hi : i < NF c
  · rw [fvs_get hi, fvs_get hi]
    by_cases h : k = i
    · subst h; rw [if_pos rfl, if_pos hi]; simp [fv, hf, gI, sI, u3]
    · rw [if_neg h]
      simp only [fv, gI, gJ, sI, u3_y _ _ (fun q : i = k => h q.symm)]
  · have h2 : (fvs ad (sI S c k a v) c a)[i]? = none := List.getElem?_eq_none (by rw [fvs_len]; omega)
    have h3 : (fvs ad S c a)[i]? = none := List.getElem?_eq_none (by rw [fvs_len]; omega)
    rw [h2, h3]
    by_cases h : k = i
    · rw [if_pos h, if_neg (by omega)]
    · rw [if_neg h]
theorem fvs_setJ {ad : Nat → Nat} {S : St} {c a k : Nat} {v : Int64} (hf : FT c k = 1) : (fvs ad S c a).set k (.long v) = fvs ad (sJ S c k a v) c a := by
  apply List.ext_getElem?
  intro i
  rw [List.getElem?_set, fvs_len]
  by_cases hi : i < NF c
  · rw [fvs_get hi, fvs_get hi]
    by_cases h : k = i
    · subst h; rw [if_pos rfl, if_pos hi]; simp [fv, hf, gJ, sJ, u3]
    · rw [if_neg h]
      simp only [fv, gI, gJ, sJ, u3_y _ _ (fun q : i = k => h q.symm)]
  · have h2 : (fvs ad (sJ S c k a v) c a)[i]? = none := List.getElem?_eq_none (by rw [fvs_len]; omega)
    have h3 : (fvs ad S c a)[i]? = none := List.getElem?_eq_none (by rw [fvs_len]; omega)
    rw [h2, h3]
    by_cases h : k = i
    · rw [if_pos h, if_neg (by omega)]
    · rw [if_neg h]
theorem cel_sI {ad : Nat → Nat} {cy : Nat → ClassId} {S : St} {c k a b : Nat} {v : Int32} (h : b ≠ a) : cel ad cy (sI S c k a v) b = cel ad cy S b := by
  unfold cel fvs fv arr PE gI gJ gA gB gQ sI
  simp only [u3_z _ _ h]
theorem cel_sJ {ad : Nat → Nat} {cy : Nat → ClassId} {S : St} {c k a b : Nat} {v : Int64} (h : b ≠ a) : cel ad cy (sJ S c k a v) b = cel ad cy S b := by
  unfold cel fvs fv arr PE gI gJ gA gB gQ sJ
  simp only [u3_z _ _ h]
theorem cel_sA {ad : Nat → Nat} {cy : Nat → ClassId} {S : St} {c j a b : Nat} {v : Int32} (h : b ≠ a) : cel ad cy (sA S c a j v) b = cel ad cy S b := by
  have e : ∀ x y : Nat, u3 S.2.2.1 c a j v x b y = S.2.2.1 x b y := fun x y => u3_y _ _ h
  unfold cel fvs fv arr PE gI gJ gA gB gQ sA
  have e2 : ∀ x : Nat, u3 S.2.2.1 c a j v x b = S.2.2.1 x b := fun x => funext fun y => e x y
  simp only [e2]
theorem cel_sB {ad : Nat → Nat} {cy : Nat → ClassId} {S : St} {c j a b : Nat} {v : Int64} (h : b ≠ a) : cel ad cy (sB S c a j v) b = cel ad cy S b := by
  have e : ∀ x y : Nat, u3 S.2.2.2.1 c a j v x b y = S.2.2.2.1 x b y := fun x y => u3_y _ _ h
  unfold cel fvs fv arr PE gI gJ gA gB gQ sB
  have e2 : ∀ x : Nat, u3 S.2.2.2.1 c a j v x b = S.2.2.2.1 x b := fun x => funext fun y => e x y
  simp only [e2]
theorem cel_sQ {ad : Nat → Nat} {cy : Nat → ClassId} {S : St} {j a b v : Nat} (h : b ≠ a) : cel ad cy (sQ S a j v) b = cel ad cy S b := by
  have e : ∀ y : Nat, (if b = a ∧ y = j then v else S.2.2.2.2 b y) = S.2.2.2.2 b y := fun y => if_neg (fun q => h q.1)
  unfold cel fvs fv arr PE gI gJ gA gB gQ sQ
  simp only [e]
theorem Ex.sub {ad : Nat → Nat} {A B : Nat → Prop} {U : State} (h : Ex ad A U) (hB : ∀ q, B q → A q) : Ex ad B U := by
  obtain ⟨s0, b, h1, h1t, h2, h3, h4, h5, h6⟩ := h
  exact ⟨s0, b, h1, h1t, h2, h3, h4, fun q hq => h5 q (hB q hq), h6⟩
theorem Ex.next {ad : Nat → Nat} {A : Nat → Prop} {s U : State} {H : Heap} {locs : List Loc} (h : Ex ad A s) (hS : va_S A s.heap H locs) (hU : U.heap = H) (hW : s.WarmedH U.vm) : Ex ad A U := by
  obtain ⟨s0, b, h1, h1t, h2, h3, h4, h5, h6⟩ := h
  refine ⟨s0, b, h1, h1t, State.WarmedH.trans h2 hW, by rw [hU]; exact Nat.le_trans h3 hS.1, fun q hq => ?_, h5, h6⟩
  rw [hU, hS.2.1 q (Nat.lt_of_lt_of_le hq h3) (fun e => ?_), h4 q hq]
  have := h5 q e
  omega

