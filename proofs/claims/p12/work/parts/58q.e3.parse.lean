/-! the reference's reading: tests, statements, ends of blocks, heads: goals stay in their routine -/
theorem gl_n {x : Int32} (h1 : x ≠ 10) (h2 : x ≠ 11) (h3 : x ≠ 12) (h4 : x ≠ 13) : ¬ gl x := fun e => by
  rcases e with e | e | e | e
  · exact h1 e
  · exact h2 e
  · exact h3 e
  · exact h4 e
/-- a test has been laid at act w -/
def TQ (r : Int32) (σ : St) : Prop := gI σ 8 = 0 → ∃ w, r = nI w ∧ w < 1300 ∧ OF (fun k => k = w) σ ∧ ¬ gI σ 38 = 0 ∧ gl (gA σ 12 (1300 + w)) ∧ ¬ gA σ 12 (1300 + w) = 13
theorem kj_testE {N : Nat} {σ : St} {x y z w : Int32} (h : KP (fun _ => False) σ) (hx : gl x) (h13 : x ≠ 13) : Par (bd (m_emit N σ x y z w) (fun r9 σ10 => some (r9, σ10))) (fun r σ' => TQ r σ') := par_bd (kj_emit h) (fun r σ' q => par_some (fun e => by
  obtain ⟨a, q1, q2, q3, q4, q5, q6, q7⟩ := q e
  have e12 : gA σ' 12 (1300 + a) = x := by rw [q5, emS_12, if_pos rfl]
  exact ⟨a, q1, q2, of_x q6 (fun k hk => hk.elim (fun hk => absurd hk id) (fun hk => hk.2)) (fun k hk => Or.inr ⟨hx, hk⟩), q7, by rw [e12]; exact hx, by rw [e12]; exact h13⟩))
theorem kj_test {N : Nat} {σ : St} (h : KP (fun _ => False) σ) : Par (m_newTest N σ) (fun r σ' => TQ r σ') := by
  have t211 : ∀ (σ1 : St) (x3 x4 x5 : Int32), KP (fun _ => False) σ1 → Par (m_newTest_211 N σ1 x3 x4 x5) (fun r σ' => TQ r σ') := fun σ1 x3 x4 x5 h1 => by
    unfold m_newTest_211 m_newTest_224
    exact par_if (fun _ => kj_testE h1 (Or.inr (Or.inl rfl)) (by decide)) (fun _ => kj_testE h1 (Or.inl rfl) (by decide))
  have t200 : ∀ (σ1 : St) (x3 x4 x5 : Int32), KP (fun _ => False) σ1 → Par (m_newTest_200 N σ1 x3 x4 x5) (fun r σ' => TQ r σ') := fun σ1 x3 x4 x5 h1 => by
    unfold m_newTest_200
    exact par_if (fun _ => par_bd (kj_m_next h1) (fun _ σ2 h2 => t211 σ2 x3 x4 x5 h2)) (fun _ => t211 σ1 x3 x4 x5 h1)
  have t183 : ∀ (σ1 : St) (x3 x4 x5 : Int32), KP (fun _ => False) σ1 → Par (m_newTest_183 N σ1 x3 x4 x5) (fun r σ' => TQ r σ') := fun σ1 x3 x4 x5 h1 => by
    unfold m_newTest_183
    exact par_bd (kj_m_isWord h1) (fun _ σ2 h2 => par_if (fun _ => par_bd (kj_m_wrong h2) (fun _ σ3 h3 => t200 σ3 x3 x4 x5 h3)) (fun _ => t200 σ2 x3 x4 x5 h2))
  have t172 : ∀ (σ1 : St) (x3 x4 x5 : Int32), KP (fun _ => False) σ1 → Par (m_newTest_172 N σ1 x3 x4 x5) (fun r σ' => TQ r σ') := fun σ1 x3 x4 x5 h1 => by
    unfold m_newTest_172
    exact par_if (fun _ => par_bd (kj_m_next h1) (fun _ σ2 h2 => t183 σ2 x3 x4 x5 h2)) (fun _ => t183 σ1 x3 x4 x5 h1)
  have t64 : ∀ (σ1 : St) (x1 : Int32), KP (fun _ => False) σ1 → Par (m_newTest_64 N σ1 x1) (fun r σ' => TQ r σ') := fun σ1 x1 h1 => by
    unfold m_newTest_64
    refine par_if (fun _ => par_gd (fun _ => par_gd (fun _ => par_gd (fun _ => par_gd (fun _ => par_gd (fun _ => par_bd (kj_m_isWord (kj_A (kj_A (kj_A h1 (by decide)) (by decide)) (by decide))) (fun r1 σ2 h2 => par_if (fun _ => ?_) (fun _ => ?_)))))))) (fun c => par_some (fun e => absurd e c))
    · exact par_bd (kj_m_taken h2) (fun r3 σ4 h4 => par_bd (kj_m_isWord h4) (fun r5 σ6 h6 => par_if (fun _ => par_bd (kj_m_isWord h6) (fun r17 σ18 h18 => par_if (fun _ => par_bd (kj_m_wrong h18) (fun _ σ20 h20 => t172 σ20 _ _ _ h20)) (fun _ => t172 σ18 _ _ _ h18))) (fun _ => t172 σ6 _ _ _ h6)))
    · exact par_bd (kj_m_next h2) (fun _ σ22 h22 => kj_testE h22 (Or.inr (Or.inr (Or.inl rfl))) (by decide))
  have t33 : ∀ (σ1 : St) (x1 t0 : Int32), KP (fun _ => False) σ1 → Par (m_newTest_33 N σ1 x1 t0) (fun r σ' => TQ r σ') := fun σ1 x1 t0 h1 => by
    unfold m_newTest_33
    exact par_if (fun _ => par_bd (kj_m_wrong h1) (fun _ σ2 h2 => t64 σ2 x1 h2)) (fun _ => par_gd (fun _ => par_if (fun _ => par_bd (kj_m_wrong h1) (fun _ σ2 h2 => t64 σ2 x1 h2)) (fun _ => t64 σ1 x1 h1)))
  unfold m_newTest m_newTest_28 m_newTest_32
  exact par_if (fun _ => par_if (fun _ => t33 σ _ _ h) (fun _ => par_bd (kj_m_isWord h) (fun _ σ2 h2 => par_if (fun _ => t33 σ2 _ _ h2) (fun _ => t33 σ2 _ _ h2)))) (fun _ => t33 σ _ _ h)
theorem op_8 {N : Nat} {σ : St} {x1 x2 x3 : Int32} (h8 : ¬ gI σ 8 = 0) : Par (m_opens N σ x1 x2 x3) (fun _ σ' => ¬ gI σ' 8 = 0) := by
  have core : ∀ σ1, Kz σ σ1 → Par (m_opens_27 N σ1 x1 x2 x3) (fun _ σ' => ¬ gI σ' 8 = 0) := fun σ1 hz => by
    unfold m_opens_27
    exact par_bd (kz_m_wants hz) (fun _ σ4 z => par_if (fun c => absurd (z.2.2 c) h8) (fun c => par_some c))
  unfold m_opens
  exact par_bd (kz_m_isSign (kz_r σ)) (fun r1 σ2 z => par_if (fun _ => core σ2 z) (fun _ => par_if (fun _ => par_bd (kz_m_wrong z) (fun _ σ6 z6 => core σ6 z6)) (fun _ => core σ2 z)))
theorem tq_open {N : Nat} {σ : St} {r x1 x3 : Int32} (h : TQ r σ) (h0 : x1 = 1 ∨ x1 = 3) (h3 : x1 = 3 → x3 = r) : Par (m_opens N σ x1 r x3) (fun _ σ' => KP (fun _ => False) σ') := by
  by_cases c : gI σ 8 = 0
  · obtain ⟨w, q1, q2, q3, q4, q5, q6⟩ := h c
    subst q1
    exact kj_open (fun _ => ⟨q3, q4⟩) (h0.elim Or.inl (fun e => Or.inr (Or.inr e))) h3 (fun _ => ⟨q5, ⟨fun e => by rcases h0 with h | h <;> rw [h] at e <;> exact absurd e (by decide), fun e => absurd e q6⟩⟩) q2
  · exact (op_8 c).mono (fun _ σ' z e => absurd e z)
theorem kj_stat {N : Nat} {σ : St} (h : KP (fun _ => False) σ) : Par (m_statement N σ) (fun _ σ' => KP (fun _ => False) σ') := by
  have g0 : ¬ gl 0 := gl_n (by decide) (by decide) (by decide) (by decide)
  unfold m_statement
  refine par_if (fun _ => ?_) (fun _ => par_if (fun _ => ?_) (fun _ => par_bd (kj_m_isWord h) (fun r1 σ2 h2 => par_if (fun _ => par_bd (kj_m_isWord h2) (fun r3 σ4 h4 => par_if (fun _ => par_bd (kj_m_isWord h4) (fun r5 σ6 h6 => par_if (fun _ => par_bd (kj_m_wrong h6) (fun _ _ z => par_some z)) (fun _ => ?_))) (fun _ => ?_))) (fun _ => ?_))))
  · refine par_bd (kj_emN h g0) (fun _ σ46 h46 => par_bd (kj_m_taken h46) (fun r47 σ48 h48 => par_bd (kj_m_isSign h48) (fun r49 σ50 h50 => par_if (fun _ => ?_) (fun _ => ?_))))
    · exact par_bd (kj_m_wants h50) (fun _ σ52 h52 => par_bd (kj_m_worth h52) (fun _ σ54 h54 => par_bd (kj_emN h54 (gl_n (by decide) (by decide) (by decide) (by decide))) (fun _ σ56 h56 => kj_m_statement_97 h56)))
    · exact par_bd (kj_m_newUse h50) (fun r59 σ60 h60 => par_bd (kj_m_next h60) (fun _ σ62 h62 => par_bd (kj_m_field h62) (fun r63 σ64 h64 => par_bd (kj_m_wants h64) (fun _ σ66 h66 => par_bd (kj_m_worth h66) (fun _ σ68 h68 => par_bd (kj_emN h68 (gl_n (by decide) (by decide) (by decide) (by decide))) (fun _ σ70 h70 => kj_m_statement_97 h70))))))
  · exact par_bd (kj_emN h g0) (fun _ σ40 h40 => par_bd (kj_m_call h40) (fun _ σ42 h42 => par_bd (kj_m_wants h42) (fun _ _ z => par_some z)))
  · exact par_bd (kj_emN h6 g0) (fun _ σ10 h10 => par_bd (kj_m_next h10) (fun _ σ12 h12 => par_bd (kj_test h12) (fun r13 σ14 h14 => par_bd (tq_open h14 (Or.inr rfl) (fun _ => rfl)) (fun _ _ z => par_some z))))
  · exact par_bd (kj_emN h4 g0) (fun _ σ10 h10 => par_bd (kj_m_next h10) (fun _ σ12 h12 => par_bd (kj_test h12) (fun r13 σ14 h14 => par_bd (tq_open h14 (Or.inl rfl) (fun e => absurd e (by decide))) (fun _ _ z => par_some z))))
  · exact par_bd (kj_emN h2 g0) (fun _ σ26 h26 => par_bd (kj_m_next h26) (fun _ σ28 h28 => par_bd (kj_m_isSign h28) (fun r29 σ30 h30 => par_if (fun _ => par_bd (kj_m_worth h30) (fun _ σ32 h32 => kj_m_statement_183 h32)) (fun _ => par_bd (kj_emN h30 (gl_n (by decide) (by decide) (by decide) (by decide))) (fun _ σ38 h38 => kj_m_statement_183 h38)))))
