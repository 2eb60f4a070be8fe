-- the pairs: queries
theorem p_at : pr_at Inv := by
  intro S g x1 x2 x3
  obtain ⟨n, w, r1⟩ := id g
  obtain ⟨r, e1, e2⟩ := q_at w.wf w.cw w.mr x1 x2 x3
  exact ⟨r, _, e1, e2, Inv_th g⟩
theorem p_countOf : pr_countOf Inv := by
  intro S g x1 x2 x3 x4
  obtain ⟨n, w, r1⟩ := id g
  obtain ⟨r, e1, e2⟩ := q_countOf w.wf w.cw w.mr x1 x2 x3 x4
  exact ⟨r, _, e1, e2, Inv_th g⟩
theorem p_feast : pr_feast Inv := by
  intro S g x1 x2
  obtain ⟨n, w, r1⟩ := id g
  obtain ⟨r, e1, e2⟩ := q_feast w.wf w.cw w.mr x1 x2
  exact ⟨r, _, e1, e2, Inv_th g⟩
theorem p_now : pr_now Inv := by
  intro S g x1
  obtain ⟨n, w, r1⟩ := id g
  obtain ⟨r, e1, e2⟩ := q_now w.wf w.cw w.mr w.hs x1
  exact ⟨r, _, e1, e2, Inv_th g⟩
theorem p_next : pr_next Inv := by
  intro S g x1
  obtain ⟨n, w, r1⟩ := id g
  obtain ⟨r, e1, e2⟩ := q_next w.wf w.cw w.mr x1
  exact ⟨r, _, e1, e2, Inv_th g⟩
theorem p_falls : pr_falls Inv := by
  intro S g x1 x2
  obtain ⟨n, w, r1⟩ := id g
  obtain ⟨r, e1, e2⟩ := q_falls w.wf w.cw w.mr x1 x2
  exact ⟨r, _, e1, e2, Inv_th g⟩
theorem p_meet : pr_meet Inv := by
  intro S g x1 x2
  obtain ⟨n, w, r1⟩ := id g
  obtain ⟨r, e1, e2⟩ := q_meet w.wf w.cw w.mr x1 x2
  exact ⟨r, _, e1, e2, Inv_th g⟩
theorem p_fair : pr_fair Inv := by
  intro S g x1
  obtain ⟨n, w, r1⟩ := id g
  obtain ⟨r, e1, e2⟩ := q_fair w.wf w.cw w.mr x1
  exact ⟨r, _, e1, e2, Inv_th g⟩
theorem p_play : pr_play Inv := by
  intro S g x1 x2 x3
  obtain ⟨n, w, r1⟩ := id g
  obtain ⟨r, e1, e2⟩ := q_play w.wf w.cw w.mr x1 x2 x3
  exact ⟨r, _, e1, e2, Inv_th g⟩
theorem p_age : pr_age Inv := by
  intro S g x1 x2 x3 x4
  obtain ⟨n, w, r1⟩ := id g
  obtain ⟨r, e1, e2⟩ := q_age w.wf w.cw w.mr x1 x2 x3 x4
  exact ⟨r, _, e1, e2, Inv_th g⟩
theorem p_ask : pr_ask Inv := by
  intro S g 
  obtain ⟨n, w, r1⟩ := id g
  obtain ⟨r, e1, e2⟩ := q_ask w.wf w.cw w.mr 
  exact ⟨r, _, e1, e2, Inv_th g⟩
theorem p_born : pr_born Inv := by
  intro S g x1 x2
  obtain ⟨n, w, r1⟩ := id g
  obtain ⟨r, e1, e2⟩ := q_born w.wf w.cw w.mr x1 x2
  exact ⟨r, _, e1, e2, Inv_th g⟩
theorem p_tuned : pr_tuned Inv := by
  intro S g
  obtain ⟨n, w, u, tp, ft, al, r1⟩ := id g
  refine ⟨_, sI S 11 0 140 0, rfl, ?_, Inv_th g⟩
  unfold fX11_tuned fX11_tuned_s5 fX10_tuned
  rw [gI_k (by decide)]
  exact congrArg (fun z => (z, _)) al.1.symm
theorem p_agreeing : pr_agreeing Inv := by
  intro S g
  obtain ⟨n, w, u, tp, ft, al, r1⟩ := id g
  refine ⟨_, sI S 11 0 140 0, rfl, ?_, Inv_th g⟩
  unfold fX11_agreeing fX11_agreeing_s5 fX10_agreeing
  rw [gI_k (by decide)]
  exact congrArg (fun z => (z, _)) al.2.1.symm
theorem p_reformTo : pr_reformTo Inv := by
  intro S g
  obtain ⟨n, w, u, tp, ft, al, r1⟩ := id g
  refine ⟨_, sI S 11 0 140 0, rfl, ?_, Inv_th g⟩
  unfold fX11_reformTo fX11_reformTo_s5 fX10_reformTo
  rw [gI_k (by decide)]
  exact congrArg (fun z => (z, _)) al.2.2.2.1.symm
theorem p_crowdOn : pr_crowdOn Inv := by
  intro S g
  obtain ⟨n, w, u, tp, ft, al, r1⟩ := id g
  refine ⟨_, sI S 11 0 140 0, rfl, ?_, Inv_th g⟩
  unfold fX11_crowdOn fX11_crowdOn_s5 fX10_crowdOn
  rw [gI_k (by decide)]
  exact congrArg (fun z => (z, _)) al.2.2.2.2.symm
theorem p_matchOn : pr_matchOn Inv := by
  intro S g
  obtain ⟨n, w, u, tp, ft, al, r1⟩ := id g
  refine ⟨_, sI S 11 0 140 0, rfl, ?_, Inv_th g⟩
  have e := al.2.2.1
  unfold fX11_matchOn fX11_matchOn_s5 fX10_matchOn
  rw [show (0 : Nat) + 93 = 93 from rfl, e]
  have e29 : gI (sI S 11 0 140 0) 11 29 140 = gI S 11 29 140 := gI_k (by decide)
  have e28 : gI (sI S 11 0 140 0) 11 28 140 = gI S 11 28 140 := gI_k (by decide)
  by_cases z : gI S 11 29 140 = 0
  · rw [if_pos z, if_pos (e29.trans z)]
  · rw [if_neg z, if_neg (fun q => z (e29.symm.trans q)), e28]
theorem p_fault : pr_fault Inv := by
  intro S g
  obtain ⟨n, w, u, tp, ft, r1⟩ := id g
  refine ⟨_, sI S 11 0 140 0, rfl, ?_, Inv_th g⟩
  unfold fX11_fault fX11_fault_s5 fX10_fault
  rw [gI_k (by decide)]
  exact congrArg (fun z => (z, _)) ft.symm
theorem AL_tune {S : St} {v : Int32} (g : Inv S) : Inv (sI (sI (sI S 0 0 93 v) 11 0 140 0) 11 25 140 v) := by
  have fr : Fr (fun k a => (a = 93 ∧ k = 0) ∨ (a = 140 ∧ (k = 0 ∨ k = 25))) S (sI (sI (sI S 0 0 93 v) 11 0 140 0) 11 25 140 v) := Fr_sI (Fr_sI (Fr_sI Fr_id (Or.inl ⟨rfl, rfl⟩)) (Or.inr ⟨rfl, Or.inl rfl⟩)) (Or.inr ⟨rfl, Or.inr rfl⟩)
  obtain ⟨n, g1, g2, g3, g4, g5, g6, g7, g8, g9⟩ := g
  refine ⟨n, WI_fr fr (fun k a q x => by unfold fW at q; omega) g1, UN_fr fr g1.wf.1.1 (fun k a q x => by unfold fU at q; omega) g2, TP_fr fr (fun k a q x => by unfold fTp at q; omega) g3, FLT_fr fr (fun k a q x => by unfold fFt at q; omega) g4, ?_, TI_fr fr (fun k a q x => by unfold fTi at q; omega) g6, TL_fr fr (fun k a q x => by unfold fTl at q; omega) g7, IM_fr fr (fun k a q x => by unfold fIm at q; omega) g8, RS_fr fr (by omega) g9⟩
  have e0 : gI (sI (sI (sI S 0 0 93 v) 11 0 140 0) 11 25 140 v) 0 0 93 = v := by rw [gI_c (by decide), gI_c (by decide), gI_s]
  have e1 : gI (sI (sI (sI S 0 0 93 v) 11 0 140 0) 11 25 140 v) 11 25 140 = v := gI_s
  obtain ⟨h1, h2, h3, h4, h5⟩ := g5
  have k : ∀ c k a, ¬ ((a = 93 ∧ k = 0) ∨ (a = 140 ∧ (k = 0 ∨ k = 25))) → gI (sI (sI (sI S 0 0 93 v) 11 0 140 0) 11 25 140 v) c k a = gI S c k a := fun c k a q => fr.i q
  unfold AL
  refine ⟨?_, ?_, ?_, ?_, ?_⟩
  · rw [e0, e1]
  · rw [k 0 1 93 (by omega), k 11 26 140 (by omega)]; exact h2
  · rw [k 0 2 93 (by omega), k 11 28 140 (by omega), k 11 29 140 (by omega)]; exact h3
  · rw [k 0 3 93 (by omega), k 11 27 140 (by omega)]; exact h4
  · rw [k 0 4 93 (by omega), k 11 24 140 (by omega)]; exact h5

theorem p_tune : pr_tune Inv := by
  intro S g x1 x2
  obtain ⟨n, w, r1⟩ := id g
  obtain ⟨r, S1, S2, e1, e2, e3⟩ := q_tune w.wf w.cw w.mr x1 x2
  refine ⟨r, S1, S2, e1, e2, ?_⟩
  rcases e3 with ⟨rfl, rfl⟩ | ⟨v, rfl, rfl⟩
  · exact Inv_th g
  · exact AL_tune g
theorem AL_agree {S : St} {v : Int32} (g : Inv S) : Inv (sI (sI (sI S 0 1 93 v) 11 0 140 0) 11 26 140 v) := by
  have fr : Fr (fun k a => (a = 93 ∧ k = 1) ∨ (a = 140 ∧ (k = 0 ∨ k = 26))) S (sI (sI (sI S 0 1 93 v) 11 0 140 0) 11 26 140 v) := Fr_sI (Fr_sI (Fr_sI Fr_id (Or.inl ⟨rfl, rfl⟩)) (Or.inr ⟨rfl, Or.inl rfl⟩)) (Or.inr ⟨rfl, Or.inr rfl⟩)
  obtain ⟨n, g1, g2, g3, g4, g5, g6, g7, g8, g9⟩ := g
  refine ⟨n, WI_fr fr (fun k a q x => by unfold fW at q; omega) g1, UN_fr fr g1.wf.1.1 (fun k a q x => by unfold fU at q; omega) g2, TP_fr fr (fun k a q x => by unfold fTp at q; omega) g3, FLT_fr fr (fun k a q x => by unfold fFt at q; omega) g4, ?_, TI_fr fr (fun k a q x => by unfold fTi at q; omega) g6, TL_fr fr (fun k a q x => by unfold fTl at q; omega) g7, IM_fr fr (fun k a q x => by unfold fIm at q; omega) g8, RS_fr fr (by omega) g9⟩
  have e0 : gI (sI (sI (sI S 0 1 93 v) 11 0 140 0) 11 26 140 v) 0 1 93 = v := by rw [gI_c (by decide), gI_c (by decide), gI_s]
  have e1 : gI (sI (sI (sI S 0 1 93 v) 11 0 140 0) 11 26 140 v) 11 26 140 = v := gI_s
  obtain ⟨h1, h2, h3, h4, h5⟩ := g5
  have k : ∀ c k a, ¬ ((a = 93 ∧ k = 1) ∨ (a = 140 ∧ (k = 0 ∨ k = 26))) → gI (sI (sI (sI S 0 1 93 v) 11 0 140 0) 11 26 140 v) c k a = gI S c k a := fun c k a q => fr.i q
  unfold AL
  refine ⟨?_, ?_, ?_, ?_, ?_⟩
  · rw [k 0 0 93 (by omega), k 11 25 140 (by omega)]; exact h1
  · rw [e0, e1]
  · rw [k 0 2 93 (by omega), k 11 28 140 (by omega), k 11 29 140 (by omega)]; exact h3
  · rw [k 0 3 93 (by omega), k 11 27 140 (by omega)]; exact h4
  · rw [k 0 4 93 (by omega), k 11 24 140 (by omega)]; exact h5

theorem p_agree : pr_agree Inv := by
  intro S g x1 x2
  obtain ⟨n, w, r1⟩ := id g
  obtain ⟨r, S1, S2, e1, e2, e3⟩ := q_agree w.wf w.cw w.mr x1 x2
  refine ⟨r, S1, S2, e1, e2, ?_⟩
  rcases e3 with ⟨rfl, rfl⟩ | ⟨v, rfl, rfl⟩
  · exact Inv_th g
  · exact AL_agree g
theorem AL_reform {S : St} {v : Int32} (g : Inv S) : Inv (sI (sI (sI S 0 3 93 v) 11 0 140 0) 11 27 140 v) := by
  have fr : Fr (fun k a => (a = 93 ∧ k = 3) ∨ (a = 140 ∧ (k = 0 ∨ k = 27))) S (sI (sI (sI S 0 3 93 v) 11 0 140 0) 11 27 140 v) := Fr_sI (Fr_sI (Fr_sI Fr_id (Or.inl ⟨rfl, rfl⟩)) (Or.inr ⟨rfl, Or.inl rfl⟩)) (Or.inr ⟨rfl, Or.inr rfl⟩)
  obtain ⟨n, g1, g2, g3, g4, g5, g6, g7, g8, g9⟩ := g
  refine ⟨n, WI_fr fr (fun k a q x => by unfold fW at q; omega) g1, UN_fr fr g1.wf.1.1 (fun k a q x => by unfold fU at q; omega) g2, TP_fr fr (fun k a q x => by unfold fTp at q; omega) g3, FLT_fr fr (fun k a q x => by unfold fFt at q; omega) g4, ?_, TI_fr fr (fun k a q x => by unfold fTi at q; omega) g6, TL_fr fr (fun k a q x => by unfold fTl at q; omega) g7, IM_fr fr (fun k a q x => by unfold fIm at q; omega) g8, RS_fr fr (by omega) g9⟩
  have e0 : gI (sI (sI (sI S 0 3 93 v) 11 0 140 0) 11 27 140 v) 0 3 93 = v := by rw [gI_c (by decide), gI_c (by decide), gI_s]
  have e1 : gI (sI (sI (sI S 0 3 93 v) 11 0 140 0) 11 27 140 v) 11 27 140 = v := gI_s
  obtain ⟨h1, h2, h3, h4, h5⟩ := g5
  have k : ∀ c k a, ¬ ((a = 93 ∧ k = 3) ∨ (a = 140 ∧ (k = 0 ∨ k = 27))) → gI (sI (sI (sI S 0 3 93 v) 11 0 140 0) 11 27 140 v) c k a = gI S c k a := fun c k a q => fr.i q
  unfold AL
  refine ⟨?_, ?_, ?_, ?_, ?_⟩
  · rw [k 0 0 93 (by omega), k 11 25 140 (by omega)]; exact h1
  · rw [k 0 1 93 (by omega), k 11 26 140 (by omega)]; exact h2
  · rw [k 0 2 93 (by omega), k 11 28 140 (by omega), k 11 29 140 (by omega)]; exact h3
  · rw [e0, e1]
  · rw [k 0 4 93 (by omega), k 11 24 140 (by omega)]; exact h5

theorem p_reform : pr_reform Inv := by
  intro S g 
  obtain ⟨n, w, r1⟩ := id g
  obtain ⟨r, S1, S2, e1, e2, e3⟩ := q_reform w.wf w.cw w.mr 
  refine ⟨r, S1, S2, e1, e2, ?_⟩
  rcases e3 with ⟨rfl, rfl⟩ | ⟨v, rfl, rfl⟩
  · exact Inv_th g
  · exact AL_reform g
theorem AL_crowd {S : St} {v : Int32} (g : Inv S) : Inv (sI (sI (sI S 0 4 93 v) 11 0 140 0) 11 24 140 v) := by
  have fr : Fr (fun k a => (a = 93 ∧ k = 4) ∨ (a = 140 ∧ (k = 0 ∨ k = 24))) S (sI (sI (sI S 0 4 93 v) 11 0 140 0) 11 24 140 v) := Fr_sI (Fr_sI (Fr_sI Fr_id (Or.inl ⟨rfl, rfl⟩)) (Or.inr ⟨rfl, Or.inl rfl⟩)) (Or.inr ⟨rfl, Or.inr rfl⟩)
  obtain ⟨n, g1, g2, g3, g4, g5, g6, g7, g8, g9⟩ := g
  refine ⟨n, WI_fr fr (fun k a q x => by unfold fW at q; omega) g1, UN_fr fr g1.wf.1.1 (fun k a q x => by unfold fU at q; omega) g2, TP_fr fr (fun k a q x => by unfold fTp at q; omega) g3, FLT_fr fr (fun k a q x => by unfold fFt at q; omega) g4, ?_, TI_fr fr (fun k a q x => by unfold fTi at q; omega) g6, TL_fr fr (fun k a q x => by unfold fTl at q; omega) g7, IM_fr fr (fun k a q x => by unfold fIm at q; omega) g8, RS_fr fr (by omega) g9⟩
  have e0 : gI (sI (sI (sI S 0 4 93 v) 11 0 140 0) 11 24 140 v) 0 4 93 = v := by rw [gI_c (by decide), gI_c (by decide), gI_s]
  have e1 : gI (sI (sI (sI S 0 4 93 v) 11 0 140 0) 11 24 140 v) 11 24 140 = v := gI_s
  obtain ⟨h1, h2, h3, h4, h5⟩ := g5
  have k : ∀ c k a, ¬ ((a = 93 ∧ k = 4) ∨ (a = 140 ∧ (k = 0 ∨ k = 24))) → gI (sI (sI (sI S 0 4 93 v) 11 0 140 0) 11 24 140 v) c k a = gI S c k a := fun c k a q => fr.i q
  unfold AL
  refine ⟨?_, ?_, ?_, ?_, ?_⟩
  · rw [k 0 0 93 (by omega), k 11 25 140 (by omega)]; exact h1
  · rw [k 0 1 93 (by omega), k 11 26 140 (by omega)]; exact h2
  · rw [k 0 2 93 (by omega), k 11 28 140 (by omega), k 11 29 140 (by omega)]; exact h3
  · rw [k 0 3 93 (by omega), k 11 27 140 (by omega)]; exact h4
  · rw [e0, e1]

theorem p_crowd : pr_crowd Inv := by
  intro S g x1
  obtain ⟨n, w, r1⟩ := id g
  obtain ⟨r, S1, S2, e1, e2, e3⟩ := q_crowd w.wf w.cw w.mr x1
  refine ⟨r, S1, S2, e1, e2, ?_⟩
  rcases e3 with ⟨rfl, rfl⟩ | ⟨v, rfl, rfl⟩
  · exact Inv_th g
  · exact AL_crowd g
theorem p_match : pr_match Inv := by
  intro S g x1 x2 x3
  obtain ⟨n, w, r1⟩ := id g
  obtain ⟨r, S1, S2, e1, e2, e3⟩ := q_match w.wf w.cw w.mr x1 x2 x3
  refine ⟨r, S1, S2, e1, e2, ?_⟩
  have big : ∀ (T : St) (v v2 : Int32), Fr (fun k a => (a = 93 ∧ k = 2) ∨ (a = 140 ∧ (k = 0 ∨ k = 28 ∨ k = 29))) S T → gI T 0 2 93 = (if gI T 11 29 140 = 0 then -1 else gI T 11 28 140) → Inv T := by
    intro T v v2 fr hal
    obtain ⟨n, g1, g2, g3, g4, g5, g6, g7, g8, g9⟩ := g
    refine ⟨n, WI_fr fr (fun k a q x => by unfold fW at q; omega) g1, UN_fr fr g1.wf.1.1 (fun k a q x => by unfold fU at q; omega) g2, TP_fr fr (fun k a q x => by unfold fTp at q; omega) g3, FLT_fr fr (fun k a q x => by unfold fFt at q; omega) g4, ?_, TI_fr fr (fun k a q x => by unfold fTi at q; omega) g6, TL_fr fr (fun k a q x => by unfold fTl at q; omega) g7, IM_fr fr (fun k a q x => by unfold fIm at q; omega) g8, RS_fr fr (by omega) g9⟩
    obtain ⟨h1, h2, h3, h4, h5⟩ := g5
    refine ⟨?_, ?_, hal, ?_, ?_⟩
    · rw [fr.i (c := 0) (show ¬ ((93 = 93 ∧ 0 = 2) ∨ (93 = 140 ∧ (0 = 0 ∨ 0 = 28 ∨ 0 = 29))) by omega), fr.i (c := 11) (show ¬ ((140 = 93 ∧ 25 = 2) ∨ (140 = 140 ∧ (25 = 0 ∨ 25 = 28 ∨ 25 = 29))) by omega)]; exact h1
    · rw [fr.i (c := 0) (show ¬ ((93 = 93 ∧ 1 = 2) ∨ (93 = 140 ∧ (1 = 0 ∨ 1 = 28 ∨ 1 = 29))) by omega), fr.i (c := 11) (show ¬ ((140 = 93 ∧ 26 = 2) ∨ (140 = 140 ∧ (26 = 0 ∨ 26 = 28 ∨ 26 = 29))) by omega)]; exact h2
    · rw [fr.i (c := 0) (show ¬ ((93 = 93 ∧ 3 = 2) ∨ (93 = 140 ∧ (3 = 0 ∨ 3 = 28 ∨ 3 = 29))) by omega), fr.i (c := 11) (show ¬ ((140 = 93 ∧ 27 = 2) ∨ (140 = 140 ∧ (27 = 0 ∨ 27 = 28 ∨ 27 = 29))) by omega)]; exact h4
    · rw [fr.i (c := 0) (show ¬ ((93 = 93 ∧ 4 = 2) ∨ (93 = 140 ∧ (4 = 0 ∨ 4 = 28 ∨ 4 = 29))) by omega), fr.i (c := 11) (show ¬ ((140 = 93 ∧ 24 = 2) ∨ (140 = 140 ∧ (24 = 0 ∨ 24 = 28 ∨ 24 = 29))) by omega)]; exact h5
  have hal : AL S := by obtain ⟨n, w, u, tp, ft, al, r1⟩ := g; exact al
  rcases e3 with ⟨rfl, rfl⟩ | ⟨rfl, rfl⟩ | ⟨v, rfl, rfl⟩
  · exact Inv_th g
  · refine big _ 0 0 (Fr_sI (Fr_sI Fr_id (Or.inr ⟨rfl, Or.inl rfl⟩)) (Or.inr ⟨rfl, Or.inr (Or.inr rfl)⟩)) ?_
    rw [gI_c (by decide), gI_c (by decide), gI_s, gI_k (by decide), gI_k (by decide), hal.2.2.1]
    by_cases z : gI S1 11 29 140 = 0
    · rw [if_pos z, if_pos z, if_pos rfl]
    · rw [if_neg z, if_neg z, if_neg i10]
  · refine big _ 0 0 (Fr_sI (Fr_sI (Fr_sI (Fr_sI Fr_id (Or.inl ⟨rfl, rfl⟩)) (Or.inr ⟨rfl, Or.inl rfl⟩)) (Or.inr ⟨rfl, Or.inr (Or.inl rfl)⟩)) (Or.inr ⟨rfl, Or.inr (Or.inr rfl)⟩)) ?_
    rw [gI_c (by decide), gI_c (by decide), gI_c (by decide), gI_s, gI_s, gI_k (by decide), gI_s, if_neg i10]
theorem lS_fr {S : St} (i : Nat) : Fr (fun k a => a = 96) S (lS S i) := by
  induction i with
  | zero => exact Fr_id
  | succ i ih => exact Fr_sA ih rfl
theorem Inv_TK {S : St} (g : Inv S) : Inv (TK (lLt S) 940) := by
  have fr : Fr (fun k a => a = 96 ∨ (a = 1 ∧ k = 1) ∨ (a = 140 ∧ (k = 0 ∨ k = 2 ∨ k = 3 ∨ k = 4 ∨ k = 5))) S (TK (lLt S) 940) := by
    unfold TK lLt fX11_taken fX11_taken_s8 fX11_taken_s13 fX11_taken_s18
    exact Fr_sI (Fr_sI (Fr_sI (Fr_sI (Fr_sI (Fr_sI (Fr_mo (lS_fr 3) (fun k a q => Or.inl q)) (Or.inr (Or.inl ⟨rfl, rfl⟩))) (Or.inr (Or.inr ⟨rfl, Or.inl rfl⟩))) (Or.inr (Or.inr ⟨rfl, Or.inr (Or.inr (Or.inl rfl))⟩))) (Or.inr (Or.inr ⟨rfl, Or.inr (Or.inl rfl)⟩))) (Or.inr (Or.inr ⟨rfl, Or.inr (Or.inr (Or.inr (Or.inl rfl)))⟩))) (Or.inr (Or.inr ⟨rfl, Or.inr (Or.inr (Or.inr (Or.inr rfl)))⟩))
  obtain ⟨n, g1, g2, g3, g4, g5, g6, g7, g8, g9⟩ := g
  refine ⟨n, WI_fr fr (fun k a q x => by unfold fW at q; omega) g1, UN_fr fr g1.wf.1.1 (fun k a q x => by unfold fU at q; omega) g2, ?_, FLT_fr fr (fun k a q x => by unfold fFt at q; omega) g4, AL_fr fr (fun k a q x => by unfold fAl at q; omega) g5, TI_fr fr (fun k a q x => by unfold fTi at q; omega) g6, TL_fr fr (fun k a q x => by unfold fTl at q; omega) g7, IM_fr fr (fun k a q x => by unfold fIm at q; omega) g8, RS_fr fr (by omega) g9⟩
  obtain ⟨L, t1, t2, t3, t4⟩ := g3
  refine ⟨0, by omega, ?_, ?_, fun j hj => ?_⟩
  · unfold TK lLt fX11_taken fX11_taken_s8 fX11_taken_s13 fX11_taken_s18
    rw [gI_c (by decide), gI_c (by decide), gI_c (by decide), gI_c (by decide), gI_c (by decide), gI_s]; rfl
  · unfold TK lLt fX11_taken fX11_taken_s8 fX11_taken_s13 fX11_taken_s18
    rw [gI_k (by decide), gI_k (by decide), gI_s]; rfl
  · rw [show gA (TK (lLt S) 940) 12 2 j = gA S 12 2 j from fr.a (by omega), show gA (TK (lLt S) 940) 28 141 j = gA S 28 141 j from fr.a (by omega)]; exact t4 j hj
theorem p_wrote : pr_wrote Inv := by
  intro S g
  obtain ⟨n, w, u, tp, r1⟩ := id g
  obtain ⟨r, e1, e2⟩ := q_wrote w.wf w.cw w.mr tp
  exact ⟨r, _, _, e1, e2, Inv_TK g⟩
theorem p_ago : pr_ago Inv := by
  intro S g x1
  obtain ⟨n, w, u, tp, r1⟩ := id g
  obtain ⟨r, e1, e2⟩ := q_ago w.wf w.cw w.mr tp x1
  exact ⟨r, _, _, e1, e2, Inv_TK g⟩
theorem p_count : pr_count Inv := by
  intro S g x1
  obtain ⟨n, w, u, tp, r1⟩ := id g
  obtain ⟨L, t1, t2, t3, t4⟩ := tp
  have c := w.cw.1
  have m := w.mr
  refine ⟨fX10_count 0 x1 S, sI S 11 0 140 0, rfl, ?_, Inv_th g⟩
  unfold fX10_count fX11_count fX11_count_s5
  rw [show (0 : Nat) + 3 + 1 = 4 from rfl, show (0 : Nat) + 1 = 1 from rfl, c.1, c.2.1, c.2.2.1, c.2.2.2, t2, show gI (sI S 11 0 140 0) 11 2 140 = nI L from (gI_k (by decide)).trans t3]
  have d : ∀ j, j < 59 → gA (sI S 11 0 140 0) 29 (140 + 2) j = nI (n j) := fun j hj => m j hj
  rcases pk_ix x1 (n := 4) (by omega) with q | q | ⟨k, hk, rfl⟩
  · have e : ∀ j : Int32, 0 ≤ j → ¬ x1 = j := fun j hj qe => by rw [qe] at q; exact absurd q (Int32.not_lt.mpr hj)
    rw [if_neg (e 0 (by decide)), if_neg (e 1 (by decide)), if_neg (e 2 (by decide)), if_neg (e 3 (by decide)), if_neg (e 4 (by decide)), if_neg (e 4 (by decide)), isIn_no (Or.inl q), if_pos rfl]
  · have e : ∀ j : Int32, j < 4 → ¬ x1 = j := fun j hj qe => by rw [qe] at q; exact absurd hj (Int32.not_lt.mpr q)
    rw [if_neg (e 0 (by decide)), if_neg (e 1 (by decide)), if_neg (e 2 (by decide)), if_neg (e 3 (by decide))]
    by_cases z : x1 = 4
    · rw [if_pos z, if_pos z]
    · rw [if_neg z, if_neg z, isIn_no (Or.inr (by
        rw [Int32.lt_iff_toInt_lt, show (3 : Int32).toInt = 3 from by decide]
        rw [Int32.le_iff_toInt_le, show (nI 4).toInt = 4 from by decide] at q
        omega)), if_pos rfl]
  · have i1 : fX11_isIn (nI k) 0 3 (sI S 11 0 140 0) = 1 := isIn_yes (nI_pos (by omega)) (Int32.not_lt.mpr (nI_le (b := 3) (by omega) (by omega)))
    rw [i1, if_neg i10, igd (by omega) (by decide), nI_clamp (by omega), d k (by omega), if_neg (show ¬ nI k = 4 from fun e => by have := (nI_eq (a := k) (b := 4) (by omega) (by omega)).mp e; omega)]
    match k, hk with
    | 0, _ => rw [if_pos (show nI 0 = 0 from rfl)]
    | 1, _ => rw [if_neg (show ¬ nI 1 = 0 by decide), if_pos (show nI 1 = 1 from rfl)]
    | 2, _ => rw [if_neg (show ¬ nI 2 = 0 by decide), if_neg (show ¬ nI 2 = 1 by decide), if_pos (show nI 2 = 2 from rfl)]
    | 3, _ => rw [if_neg (show ¬ nI 3 = 0 by decide), if_neg (show ¬ nI 3 = 1 by decide), if_neg (show ¬ nI 3 = 2 by decide), if_pos (show nI 3 = 3 from rfl)]
theorem p_byteAt : pr_byteAt Inv := by
  intro S g x1
  obtain ⟨n, w, u, tp, ft, al, ti, r1⟩ := id g
  obtain ⟨L, t1, t2, t3, t4⟩ := ti
  unfold fX10_byteAt fX11_byteAt fX11_byteAt_s5 fX7_has
  rw [show (0 : Nat) + 94 = 94 from rfl, t2, show gI (sI S 11 0 140 0) 11 31 140 = nI L from (gI_k (by decide)).trans t3]
  rcases pk_ix x1 (n := L) (by omega) with q | q | ⟨k, hk, rfl⟩
  · rw [if_pos q, if_pos rfl, isIn_lt (by omega) (Or.inl q), if_pos rfl]; exact ⟨_, _, rfl, rfl, Inv_th g⟩
  · rw [isIn_lt (by omega) (Or.inr q), if_pos rfl]
    by_cases z : x1 < 0
    · rw [if_pos z, if_pos rfl]; exact ⟨_, _, rfl, rfl, Inv_th g⟩
    · rw [if_neg z, if_pos q, if_pos rfl]; exact ⟨_, _, rfl, rfl, Inv_th g⟩
  · rw [isIn_in (by omega) hk, if_neg i10, if_neg (nI_pos (by omega)), if_neg (nI_ge hk (by omega)), if_neg (show ¬ (64 : Int32) ≤ nI k from nI_ge (b := 64) (by omega) (by omega)), if_neg i10, igd (by omega) (by decide), igd (by omega) (by decide), nI_clamp (by omega)]
    exact ⟨_, _, rfl, congrArg some (congrArg (fun z => (z, _)) (t4 k hk).symm), Inv_th g⟩
theorem p_told : pr_told Inv := by
  intro S g x1
  obtain ⟨n, w, u, tp, ft, al, ti, tl, r1⟩ := id g
  obtain ⟨t1, t2⟩ := tl
  refine ⟨fX10_told 0 x1 S, sI S 11 0 140 0, rfl, ?_, Inv_th g⟩
  unfold fX10_told fX11_told fX11_told_s5
  rw [show (0 : Nat) + 90 = 90 from rfl, show gI (sI S 11 0 140 0) 11 35 140 = gI S 1 3 90 from (gI_k (by decide)).trans t1.symm]
  by_cases z : gI S 1 3 90 = 0
  · rw [if_pos z, if_pos z]
  rw [if_neg z, if_neg z]
  obtain ⟨a0, a1, a2, a3⟩ := t2 z
  rw [a0, a1, a2, a3]
  rcases pk_ix x1 (n := 4) (by omega) with q | q | ⟨k, hk, rfl⟩
  · have e : ∀ j : Int32, 0 ≤ j → ¬ x1 = j := fun j hj qe => by rw [qe] at q; exact absurd q (Int32.not_lt.mpr hj)
    rw [if_neg (e 0 (by decide)), if_neg (e 1 (by decide)), if_neg (e 2 (by decide)), if_neg (e 3 (by decide)), isIn_no (Or.inl q), if_pos rfl]
  · have e : ∀ j : Int32, j < 4 → ¬ x1 = j := fun j hj qe => by rw [qe] at q; exact absurd hj (Int32.not_lt.mpr q)
    rw [if_neg (e 0 (by decide)), if_neg (e 1 (by decide)), if_neg (e 2 (by decide)), if_neg (e 3 (by decide)), isIn_no (Or.inr (by
        rw [Int32.lt_iff_toInt_lt, show (3 : Int32).toInt = 3 from by decide]
        rw [Int32.le_iff_toInt_le, show (nI 4).toInt = 4 from by decide] at q
        omega)), if_pos rfl]
  · have i1 : fX11_isIn (nI k) 0 3 (sI S 11 0 140 0) = 1 := isIn_yes (nI_pos (by omega)) (Int32.not_lt.mpr (nI_le (b := 3) (by omega) (by omega)))
    rw [i1, if_neg i10, igd (by omega) (by decide), nI_clamp (by omega)]
    match k, hk with
    | 0, _ => rw [if_pos (show nI 0 = 0 from rfl)]; rfl
    | 1, _ => rw [if_neg (show ¬ nI 1 = 0 by decide), if_pos (show nI 1 = 1 from rfl)]; rfl
    | 2, _ => rw [if_neg (show ¬ nI 2 = 0 by decide), if_neg (show ¬ nI 2 = 1 by decide), if_pos (show nI 2 = 2 from rfl)]; rfl
    | 3, _ => rw [if_neg (show ¬ nI 3 = 0 by decide), if_neg (show ¬ nI 3 = 1 by decide), if_neg (show ¬ nI 3 = 2 by decide), if_pos (show nI 3 = 3 from rfl)]; rfl
theorem Inv_tp {S T : St} (fr : Fr (fun k a => (a = 1 ∧ k = 1) ∨ a = 2 ∨ (a = 140 ∧ (k = 0 ∨ k = 2)) ∨ a = 141) S T) (t : TP T) (g : Inv S) : Inv T := by
  obtain ⟨n, g1, g2, g3, g4, g5, g6, g7, g8, g9⟩ := g
  exact ⟨n, WI_fr fr (fun k a q x => by unfold fW at q; omega) g1, UN_fr fr g1.wf.1.1 (fun k a q x => by unfold fU at q; omega) g2, t, FLT_fr fr (fun k a q x => by unfold fFt at q; omega) g4, AL_fr fr (fun k a q x => by unfold fAl at q; omega) g5, TI_fr fr (fun k a q x => by unfold fTi at q; omega) g6, TL_fr fr (fun k a q x => by unfold fTl at q; omega) g7, IM_fr fr (fun k a q x => by unfold fIm at q; omega) g8, RS_fr fr (by omega) g9⟩
theorem p_end : pr_end Inv := by
  intro S g x1
  obtain ⟨n, w, u, tp, r1⟩ := id g
  obtain ⟨L, t1, t2, t3, t4⟩ := tp
  unfold fX10_end fX10_end_s25
  rw [show (0 : Nat) + 1 = 1 from rfl, t2]
  by_cases a1 : x1 < 0
  · refine ⟨0, S, sI S 11 0 140 0, if_pos a1, ?_, Inv_th g⟩
    unfold fX11_end fX11_end_s5
    rw [if_pos a1]
  by_cases a2 : x1 ≤ nI L
  · obtain ⟨k, hk, rfl⟩ := nI_of2 (M := nI L) (n := L) (nI_toInt (by omega)) a1 a2
    refine ⟨1, sI S 6 1 1 (nI k), sI (sI (sI S 6 1 1 (nI k)) 11 0 140 0) 11 2 140 (nI k), (if_neg a1).trans (if_pos a2), ?_, ?_⟩
    · unfold fX11_end fX11_end_s5 fX11_end_s24
      rw [if_neg a1, show gI (sI (sI S 6 1 1 (nI k)) 11 0 140 0) 11 2 140 = nI L from (gI_k (by decide)).trans ((gI_c (by decide)).trans t3), if_pos a2]
    · refine Inv_tp (Fr_sI (Fr_sI (Fr_sI Fr_id (Or.inl ⟨rfl, rfl⟩)) (Or.inr (Or.inr (Or.inl ⟨rfl, Or.inl rfl⟩)))) (Or.inr (Or.inr (Or.inl ⟨rfl, Or.inr rfl⟩)))) ⟨k, by omega, ?_, gI_s, t4⟩ g
      rw [gI_c (by decide), gI_c (by decide), gI_s]
  · refine ⟨0, S, sI S 11 0 140 0, (if_neg a1).trans (if_neg a2), ?_, Inv_th g⟩
    unfold fX11_end fX11_end_s5
    rw [if_neg a1, show gI (sI S 11 0 140 0) 11 2 140 = nI L from (gI_k (by decide)).trans t3, if_neg a2]
