/-- the end of a judged BOOK in the reference, tried only -/
theorem m_191try {R : St} {y : Int32} : ∃ U, fX11_book_s191 140 0 y R = some (y, U) ∧ Fr (fun k a => (a = 140 ∧ (k = 32 ∨ k = 35)) ∨ a = 142 ∨ a = 150) R U ∧ (∀ j, j < 52 ∨ 69 ≤ j → gA U 29 142 j = gA R 29 142 j) ∧ (∀ j, j < 17 → gA U 29 142 (52 + j) = gA R 35 148 j) ∧ gI U 11 35 140 = 1 ∧ gA U 37 150 0 = gA R 37 150 0 ∧ gA U 37 150 1 = gA R 37 150 1 ∧ gA U 37 150 2 = gA R 29 142 52 ∧ gA U 37 150 3 = gA R 29 142 53 := by
  unfold fX11_book_s191 fX11_book_s204 fX11_book_s217 fX11_book_s222 fX11_book_s276
  rw [if_neg (show ¬ (0 : Int32) = 1 by decide), if_pos rfl, show (140 : Nat) + 10 = 150 from rfl, show (140 : Nat) + 2 = 142 from rfl]
  generalize hT : sI (sA (sA R 37 150 2 (gA R 29 142 52)) 37 150 3 (gA (sA R 37 150 2 (gA R 29 142 52)) 29 142 53)) 11 35 140 1 = T
  have fT : Fr (fun k a => (a = 140 ∧ k = 35) ∨ a = 150) R T := by rw [← hT]; exact Fr_sI (Fr_sA (Fr_sA Fr_id (by omega)) (by omega)) (by omega)
  obtain ⟨U, u1, u2, u3⟩ := m_back T
  rw [u1, ob_some]
  have e : ∀ j, gA U 37 150 j = gA T 37 150 j := fun j => u2.2.2.1 _ _ _ (by omega)
  refine ⟨U, rfl, Fr_tr (Fr_mo fT (fun k a q => by omega)) (Fr_mo u2.fr (fun k a q => by omega)), fun j hj => (u2.2.2.1 _ _ _ (by omega)).trans (fT.a (by omega)), fun j hj => (u3 j hj).trans (fT.a (by omega)), ?_, ?_, ?_, ?_, ?_⟩
  · rw [u2.1 _ _ _ (by omega), ← hT]; exact gI_s
  · rw [e, ← hT]; exact (gA_j (by decide)).trans (gA_j (by decide))
  · rw [e, ← hT]; exact (gA_j (by decide)).trans (gA_j (by decide))
  · rw [e, ← hT]; exact (gA_j (by decide)).trans gA_s
  · rw [e, ← hT]; exact gA_s
theorem m_191act0 {R : St} {y : Int32} (h : gA R 37 150 1 ≤ 0) : ∃ U, fX11_book_s191 140 1 y R = some (y, U) ∧ Fr (fun k a => (a = 140 ∧ k = 35) ∨ a = 150) R U ∧ gI U 11 35 140 = 1 ∧ gA U 37 150 0 = gA R 37 150 0 ∧ gA U 37 150 1 = gA R 37 150 1 ∧ gA U 37 150 2 = gA R 29 142 52 ∧ gA U 37 150 3 = gA R 29 142 53 := by
  unfold fX11_book_s191 fX11_book_s204 fX11_book_s217 fX11_book_s222 fX11_book_s276
  rw [if_pos rfl, if_neg (show ¬ (1 : Int32) = 0 by decide), show (140 : Nat) + 10 = 150 from rfl, show (140 : Nat) + 2 = 142 from rfl]
  generalize hT : sI (sA (sA R 37 150 2 (gA R 29 142 52)) 37 150 3 (gA (sA R 37 150 2 (gA R 29 142 52)) 29 142 53)) 11 35 140 1 = T
  have fT : Fr (fun k a => (a = 140 ∧ k = 35) ∨ a = 150) R T := by rw [← hT]; exact Fr_sI (Fr_sA (Fr_sA Fr_id (by omega)) (by omega)) (by omega)
  have e1 : gA T 37 150 1 = gA R 37 150 1 := by rw [← hT]; exact (gA_j (by decide)).trans (gA_j (by decide))
  rw [e1, if_pos h]
  refine ⟨T, rfl, fT, ?_, ?_, e1, ?_, ?_⟩
  · rw [← hT]; exact gI_s
  · rw [← hT]; exact (gA_j (by decide)).trans (gA_j (by decide))
  · rw [← hT]; exact (gA_j (by decide)).trans gA_s
  · rw [← hT]; exact gA_s
