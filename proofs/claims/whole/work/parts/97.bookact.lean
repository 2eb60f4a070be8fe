theorem m_191act {R : St} {y : Int32} {K : Nat} (h : ¬ gA R 37 150 1 ≤ 0) (hK : K ≤ 8) (h23 : gI R 11 23 140 = nI K) : ∃ U, fX11_book_s191 140 1 y R = some (y, U) ∧ Fr (fun k a => (a = 140 ∧ (k = 35 ∨ k = 23)) ∨ a = 150 ∨ a = 147) R U ∧ gI U 11 23 140 = nI (nxK K) ∧ (∀ i j, i + 1 < nxK K → j < 17 → gA U 34 147 (17 * i + j) = gA R 34 147 (17 * (i + shK K) + j)) ∧ (∀ j, j < 17 → gA U 34 147 (17 * (nxK K - 1) + j) = gA R 35 148 j) ∧ gI U 11 35 140 = 1 ∧ gA U 37 150 0 = gA R 37 150 0 ∧ gA U 37 150 1 = gA R 37 150 1 ∧ gA U 37 150 2 = gA R 29 142 52 ∧ gA U 37 150 3 = gA R 29 142 53 := by
  unfold fX11_book_s191 fX11_book_s204 fX11_book_s217 fX11_book_s222
  rw [if_pos rfl, show (140 : Nat) + 10 = 150 from rfl, show (140 : Nat) + 2 = 142 from rfl]
  generalize hT : sI (sA (sA R 37 150 2 (gA R 29 142 52)) 37 150 3 (gA (sA R 37 150 2 (gA R 29 142 52)) 29 142 53)) 11 35 140 1 = T
  have fT : Fr (fun k a => (a = 140 ∧ k = 35) ∨ a = 150) R T := by rw [← hT]; exact Fr_sI (Fr_sA (Fr_sA Fr_id (by omega)) (by omega)) (by omega)
  have e1 : gA T 37 150 1 = gA R 37 150 1 := by rw [← hT]; exact (gA_j (by decide)).trans (gA_j (by decide))
  rw [e1, if_neg h]
  obtain ⟨V, v1, v2, v3, v4, -⟩ := keepR hK ((fT.i (by omega)).trans h23)
  rw [v1, ob_some]
  have hN : 1 ≤ nxK K ∧ nxK K ≤ 8 := by unfold nxK; split <;> omega
  obtain ⟨U, u1, u2, u3, u4⟩ := l_h242 (R := V) (x1 := 1) (y := y) (k := nxK K - 1) (by omega) (by rw [show nxK K - 1 + 1 = nxK K by omega]; exact v3) 17 0 NN V (by omega) (by unfold NN; omega) Fr_id (fun j hj => by omega) (fun _ _ => rfl)
  rw [show fX11_book_h242 140 1 NN y 0 V = _ from u1]
  unfold fX11_book_s276
  rw [if_neg (show ¬ (1 : Int32) = 0 by decide)]
  have fU : Fr (fun k a => (a = 140 ∧ k = 23) ∨ a = 147) T U := Fr_tr v2 (Fr_mo u2 (fun k a q => by omega))
  refine ⟨U, rfl, Fr_tr (Fr_mo fT (fun k a q => by omega)) (Fr_mo fU (fun k a q => by omega)), (u2.i (by omega)).trans v3, fun i j hi hj => ?_, fun j hj => (u3 j hj).trans ((v2.a (by omega)).trans (fT.a (by omega))), ?_, ?_, ?_, ?_, ?_⟩
  · rw [u4 _ (by omega), v4 i j hi hj]; exact fT.a (by omega)
  · rw [fU.i (by omega), ← hT]; exact gI_s
  · rw [fU.a (by omega), ← hT]; exact (gA_j (by decide)).trans (gA_j (by decide))
  · rw [fU.a (by omega)]; exact e1
  · rw [fU.a (by omega), ← hT]; exact (gA_j (by decide)).trans gA_s
  · rw [fU.a (by omega), ← hT]; exact gA_s
