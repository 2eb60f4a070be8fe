-- the state behind the constructors
def S0w : St := sB (sB (sB (sB (sB (sB (sB (sB (sB (sB (sB (sB (sB (sB (sB (sB (sB (sB (sB S00 33 146 0 123563833652072) 33 146 1 1818583408) 33 146 2 439787549556) 33 146 3 7566702) 33 146 4 448545973363) 33 146 5 495723311219) 33 146 6 6578553) 33 146 7 28530) 33 146 8 6385252) 33 146 9 7237492) 33 146 10 27696098611389806) 33 146 11 1751477348) 33 146 12 461262647411) 33 146 13 2003399784) 33 146 14 2036687218) 33 146 15 470020945000) 33 146 16 1684108389) 33 146 17 2003133803) 33 146 18 121450625394034
theorem S0w_fr : Fr (fun _ a => a = 146) S00 S0w := by
  unfold S0w
  exact Fr_sB (Fr_sB (Fr_sB (Fr_sB (Fr_sB (Fr_sB (Fr_sB (Fr_sB (Fr_sB (Fr_sB (Fr_sB (Fr_sB (Fr_sB (Fr_sB (Fr_sB (Fr_sB (Fr_sB (Fr_sB (Fr_sB Fr_id rfl) rfl) rfl) rfl) rfl) rfl) rfl) rfl) rfl) rfl) rfl) rfl) rfl) rfl) rfl) rfl) rfl) rfl) rfl
theorem S0w_rs : ∀ j, j < 19 → gB S0w 33 146 j = twv j := by decide +kernel
theorem l_ini {R : St} : ∀ (m i u : Nat) (T : St), i + m = 52 → m < u → Fr (fun _ a => a = 142) R T → (∀ j, j < i → gA T 29 142 j = gA R 30 143 j) → (∀ j, i ≤ j → gA T 29 142 j = gA R 29 142 j) → ∃ U, fX11_init_h337 140 u (nI i) T = some U ∧ Fr (fun _ a => a = 142) R U ∧ (∀ j, j < 52 → gA U 29 142 j = gA R 30 143 j) ∧ (∀ j, 52 ≤ j → gA U 29 142 j = gA R 29 142 j) := by
  intro m
  induction m with
  | zero =>
    intro i u T hi hu f h g
    obtain ⟨u, rfl⟩ : ∃ k', u = k' + 1 := ⟨u - 1, by omega⟩
    rw [fX11_init_h337]; unfold fX11_init_s337
    rw [if_pos (show (52 : Int32) ≤ nI i from nI_le (a := 52) (by omega) (by omega))]
    exact ⟨T, rfl, f, fun j hj => h j (by omega), fun j hj => g j (by omega)⟩
  | succ m ih =>
    intro i u T hi hu f h g
    obtain ⟨u, rfl⟩ : ∃ k', u = k' + 1 := ⟨u - 1, by omega⟩
    rw [fX11_init_h337]; unfold fX11_init_s337 fX11_init_s355
    rw [if_neg (show ¬ (52 : Int32) ≤ nI i from nI_ge (b := 52) (by omega) (by omega)), igd (show i < 52 by omega) (by decide), igd (show i < 250 by omega) (by decide), nI_clamp (by omega), nI_1, show (140 : Nat) + 2 = 142 from rfl, show gA T 30 (140 + 3) i = gA R 30 143 i from f.a (by omega)]
    refine ih (i + 1) u _ (by omega) (by omega) (Fr_sA f rfl) (fun j hj => ?_) (fun j hj => (gA_j (by omega)).trans (g j (by omega)))
    by_cases e : j = i
    · subst e; exact gA_s
    · exact (gA_j (by omega)).trans (h j (by omega))
def n00 (j : Nat) : Nat := if j < 52 then cl 5 j else 0
theorem p_init : ∃ S1, fX11_init 140 S00 = some S1 ∧ Inv S1 := by
  obtain ⟨R, r1, r2, r3⟩ := m_clears S0w
  obtain ⟨U, u1, u2, u3, u4⟩ := l_ini (R := R) 52 0 NN R (by omega) (by unfold NN; omega) Fr_id (fun j hj => by omega) (fun _ _ => rfl)
  have f : Fr (fun _ a => a = 142 ∨ a = 143 ∨ a = 146) S00 U := Fr_tr (Fr_mo S0w_fr (fun k a q => by omega)) (Fr_tr (Fr_mo r2 (fun k a q => by omega)) (Fr_mo u2 (fun k a q => by omega)))
  refine ⟨U, ?_, n00, ⟨⟨?_, fun p hp => absurd hp (Nat.not_lt_zero _), fun p hp => absurd hp (Nat.not_lt_zero _)⟩, fun j hj => ?_, ⟨⟨?_, ?_, ?_, ?_⟩, fun p hp => absurd hp (Nat.not_lt_zero _), fun p hp => absurd hp (Nat.not_lt_zero _), ⟨?_, ?_, ?_⟩, fun p hp => absurd hp (Nat.not_lt_zero _)⟩, fun p hp => absurd hp (Nat.not_lt_zero _), ⟨fun p hp => absurd hp (Nat.not_lt_zero _), fun p hp => absurd hp (Nat.not_lt_zero _)⟩, ⟨0, by omega, ?_, ?_, ?_, fun i hi => absurd hi (Nat.not_lt_zero _), fun i hi => ⟨0, by rw [show i = 0 by omega]; rfl, by omega⟩, fun h => absurd h (Nat.lt_irrefl _)⟩, by decide, Or.inl ?_⟩, ⟨0, by omega, ?_, ?_, fun j hj => ⟨j, hj, ?_⟩, fun j j' hj hj' => ?_, fun i hi => absurd hi (Nat.not_lt_zero _)⟩, ⟨0, by omega, ?_, ?_, fun j hj => ?_⟩, ?_, ⟨?_, ?_, ?_, ?_, ?_⟩, ⟨0, by omega, ?_, ?_, fun i hi => absurd hi (Nat.not_lt_zero _)⟩, ⟨?_, fun h => absurd ?_ h⟩, fun k hk => ⟨?_, fun h => absurd ?_ h⟩, fun j hj => ?_⟩
  · show (fX11_clears 140 S0w).bind (fun r_1 => fX11_init_h337 140 NN (0 : Int32) r_1) = some U
    rw [r1, ob_some]; exact u1
  · decide
  · rcases Nat.lt_or_ge j 52 with q | q
    · rw [u3 j q, r3 j q]; exact congrArg nI (if_pos q).symm
    · rw [u4 j q, r2.a (by omega), S0w_fr.a (by omega)]; exact congrArg nI (if_neg (by omega)).symm
  · exact (f.i (by omega)).trans rfl
  · exact (f.i (by omega)).trans rfl
  · exact (f.i (by omega)).trans rfl
  · exact (f.i (by omega)).trans rfl
  · exact (f.i (by omega)).trans rfl
  · exact (f.i (by omega)).trans rfl
  · exact (f.i (by omega)).trans rfl
  · exact (f.i (by omega)).trans rfl
  · rw [u4 69 (by omega), r2.a (by omega), S0w_fr.a (by omega)]; rfl
  · rw [f.i (by omega)]; exact ⟨fun _ => rfl, fun _ => rfl⟩
  · exact (f.i (by omega)).trans rfl
  · exact (f.i (by omega)).trans rfl
  · exact (f.i (by omega)).trans rfl
  · exact (f.q (by omega)).trans rfl
  · rw [f.q (by omega), f.q (by omega)]
    show 106 + 4 * j = 106 + 4 * j' → j = j'
    omega
  · exact (f.i (by omega)).trans rfl
  · exact (f.i (by omega)).trans rfl
  · rw [show gA U 12 2 j = 0 from (f.a (by omega)).trans rfl, show gA U 28 141 j = 0 from (f.a (by omega)).trans rfl]
    exact ⟨rfl, by unfold bB; decide⟩
  · unfold FLT; rw [f.i (by omega), f.i (by omega)]; rfl
  · rw [f.i (by omega), f.i (by omega)]; rfl
  · rw [f.i (by omega), f.i (by omega)]; rfl
  · rw [show gI U 11 29 140 = 0 from (f.i (by omega)).trans rfl, if_pos rfl]; exact (f.i (by omega)).trans rfl
  · rw [f.i (by omega), f.i (by omega)]; rfl
  · rw [f.i (by omega), f.i (by omega)]; rfl
  · exact (f.i (by omega)).trans rfl
  · exact (f.i (by omega)).trans rfl
  · rw [f.i (by omega), f.i (by omega)]; rfl
  · exact (f.i (by omega)).trans rfl
  · rw [f.a (by omega), f.a (by omega)]; rfl
  · exact (f.a (by omega)).trans rfl
  · rw [u2.b (by omega), r2.b (by omega)]; exact S0w_rs j hj
theorem all_pairs : Pairs Inv := ⟨p_feed, p_end, p_valley, p_fault, p_at, p_countOf, p_feast, p_now, p_hold, p_skip, p_days, p_undo, p_next, p_falls, p_meet, p_fair, p_tune, p_tuned, p_agree, p_agreeing, p_match, p_matchOn, p_reform, p_reformTo, p_play, p_crowd, p_crowdOn, p_wrote, p_ago, p_age, p_ask, p_born, p_title, p_byteAt, p_drawn, p_odds, p_book, p_told, p_sentence, p_said, p_image, p_restore, p_count⟩
