/-! what trials and the search of the mend leave: the class's FACTS, or they are found anew -/
theorem kf_x0_get {N : Nat} {s0 : St × St} {σ : St} {a0 : Nat} {a1 : Int32} {a2 : Int32} (hU : Kf s0 σ) : Par (x0_get N σ a0 a1 a2) (fun _ σ' => Kf s0 σ') := by
  unfold x0_get
  refine par_if (fun _ => ?_) (fun _ => ?_)
  · exact par_some hU
  · refine par_gd (fun _ => ?_)
    refine par_if (fun _ => ?_) (fun _ => ?_)
    · exact par_some hU
    · refine par_if (fun _ => ?_) (fun _ => ?_)
      · exact par_some hU
      · refine par_if (fun _ => ?_) (fun _ => ?_)
        · exact par_some hU
        · refine par_gd (fun _ => ?_)
          exact par_some hU
theorem kf_x0_arguments {N : Nat} {s0 : St × St} {σ : St} {a0 : Nat} {a1 : Int32} (hU : Kf s0 σ) : Par (x0_arguments N σ a0 a1) (fun _ σ' => Kf s0 σ') := by
  unfold x0_arguments
  refine par_gd (fun _ => ?_)
  refine par_bd (kf_x0_get hU) (fun r2 σ3 h1 => ?_)
  exact par_some h1
theorem kf_x0_argument {N : Nat} {s0 : St × St} {σ : St} {a0 : Nat} {a1 : Int32} {a2 : Int32} (hU : Kf s0 σ) : Par (x0_argument N σ a0 a1 a2) (fun _ σ' => Kf s0 σ') := by
  unfold x0_argument
  refine par_gd (fun _ => ?_)
  refine par_bd (kf_x0_get hU) (fun r2 σ3 h1 => ?_)
  exact par_some h1
theorem kf_j_fill {N : Nat} {s0 : St × St} {σ : St} {a1 : Nat} {a2 : Int32} (hU : Kf s0 σ) (h_row : okA_kf a1) : Par (j_fill N σ a1 a2) (fun _ σ' => Kf s0 σ') := by
  have hk := kc_j_fill (N := N) (a2 := a2) hU.2.1 h_row.1
  have hl := kl_j_fill (N := N) (a1 := a1) (a2 := a2) (s0 := σ) (σ := σ) rfl
  have hf : Par (j_fill N σ a1 a2) (fun _ σ' => (∀ k, gI σ' k = gI σ k) ∧ (∀ j, j ≠ a1 → gA σ' j = gA σ j) ∧ ∀ k, gP σ' k = gP σ k) := by
    unfold j_fill
    exact par_gd (fun _ => fill_fr N _ _ _)
  refine (hk.and (hl.and hf)).mono (fun _ σ' z => ⟨hU.1, z.1, fun e1 e2 => ?_⟩)
  rw [z.2.2.2.1 12 (fun e => h_row.2.1 e.symm), z.2.2.2.1 13 (fun e => h_row.2.2.1 e.symm), z.2.2.2.1 14 (fun e => h_row.2.2.2 e.symm)]
  exact hU.2.2 ((z.2.2.1 908).symm.trans e1) (z.2.1.symm.trans e2)
theorem kf_x3_has {N : Nat} {s0 : St × St} {σ : St} {a0 : Nat} {a1 : Int32} (hU : Kf s0 σ) : Par (x3_has N σ a0 a1) (fun _ σ' => Kf s0 σ') := by
  unfold x3_has
  refine par_if (fun _ => ?_) (fun _ => ?_)
  · exact par_some hU
  · refine par_if (fun _ => ?_) (fun _ => ?_)
    · exact par_some hU
    · refine par_gd (fun _ => ?_)
      refine par_if (fun _ => ?_) (fun _ => ?_)
      · exact par_some hU
      · exact par_some hU
theorem kf_x5_at {N : Nat} {s0 : St × St} {σ : St} {a1 : Nat} {a2 : Int32} (hU : Kf s0 σ) : Par (x5_at N σ a1 a2) (fun _ σ' => Kf s0 σ') := by
  unfold x5_at
  refine par_if (fun _ => ?_) (fun _ => ?_)
  · exact par_some hU
  · refine par_gd (fun _ => ?_)
    refine par_if (fun _ => ?_) (fun _ => ?_)
    · exact par_some hU
    · refine par_gd (fun _ => ?_)
      exact par_some hU
theorem kf_x7_outers_33 {N : Nat} {s0 : St × St} {σ : St} {t0 : Int32} {t1 : Int32} (hU : Kf s0 σ) : Par (x7_outers_33 N σ t0 t1) (fun _ σ' => Kf s0 σ') := by
  unfold x7_outers_33
  exact par_some hU
theorem kf_x7_outers {N : Nat} {s0 : St × St} {σ : St} (hU : Kf s0 σ) : Par (x7_outers N σ) (fun _ σ' => Kf s0 σ') := by
  unfold x7_outers
  refine par_gd (fun _ => ?_)
  refine par_bd (kf_x5_at hU) (fun r2 σ3 h1 => ?_)
  refine par_gd (fun _ => ?_)
  refine par_bd (kf_x3_has h1) (fun r5 σ6 h2 => ?_)
  refine par_if (fun _ => ?_) (fun _ => ?_)
  · exact (kf_x7_outers_33 h2)
  · exact (kf_x7_outers_33 h2)
theorem kf_x5_put {N : Nat} {s0 : St × St} {σ : St} {a1 : Nat} {a2 : Int32} {a3 : Int32} (hU : Kf s0 σ) (h_row : okA_kf a1) : Par (x5_put N σ a1 a2 a3) (fun _ σ' => Kf s0 σ') := by
  unfold x5_put
  refine par_if (fun _ => ?_) (fun _ => ?_)
  · exact par_some hU
  · refine par_gd (fun _ => ?_)
    refine par_if (fun _ => ?_) (fun _ => ?_)
    · exact par_some hU
    · refine par_gd (fun _ => ?_)
      exact par_some (kf_A hU h_row)
theorem kf_x3_parameter {N : Nat} {s0 : St × St} {σ : St} {a0 : Nat} {a1 : Int32} {a2 : Int32} (hU : Kf s0 σ) : Par (x3_parameter N σ a0 a1 a2) (fun _ σ' => Kf s0 σ') := by
  unfold x3_parameter
  refine par_gd (fun _ => ?_)
  refine par_bd (kf_x5_at hU) (fun r2 σ3 h1 => ?_)
  exact par_some h1
theorem kf_x1_guardsNeeded_31 {N : Nat} {s0 : St × St} {σ : St} {x1 : Int32} {x2 : Int32} (hU : Kf s0 σ) {rec4 : St → Int32 → Int32 → Option (Int32 × St)} (h_rec4 : ∀ (z0 : St) (z1 : Int32) (z2 : Int32), Kf s0 z0 → Par (rec4 z0 z1 z2) (fun _ σ' => Kf s0 σ')) : Par (x1_guardsNeeded_31 N rec4 σ x1 x2) (fun _ σ' => Kf s0 σ') := by
  unfold x1_guardsNeeded_31
  exact (h_rec4 _ _ _ hU)
theorem kf_x1_guardsNeeded_4_b {N : Nat} {s0 : St × St} {σ : St} {x1 : Int32} {x2 : Int32} (hU : Kf s0 σ) {rec4 : St → Int32 → Int32 → Option (Int32 × St)} (h_rec4 : ∀ (z0 : St) (z1 : Int32) (z2 : Int32), Kf s0 z0 → Par (rec4 z0 z1 z2) (fun _ σ' => Kf s0 σ')) : Par (x1_guardsNeeded_4_b N rec4 σ x1 x2) (fun _ σ' => Kf s0 σ') := by
  unfold x1_guardsNeeded_4_b
  refine par_gd (fun _ => ?_)
  refine par_if (fun _ => ?_) (fun _ => ?_)
  · exact par_some hU
  · refine par_bd (kf_x5_at hU) (fun r2 σ3 h1 => ?_)
    refine par_if (fun _ => ?_) (fun _ => ?_)
    · exact (kf_x1_guardsNeeded_31 h1 h_rec4)
    · exact (kf_x1_guardsNeeded_31 h1 h_rec4)
theorem kf_x1_guardsNeeded_4 {N : Nat} {s0 : St × St} : ∀ (n : Nat) (σ : St) (x1 : Int32) (x2 : Int32), Kf s0 σ → Par (x1_guardsNeeded_4 N  n σ x1 x2) (fun _ σ' => Kf s0 σ') := by
  intro n
  induction n with
  | zero => intro σ x1 x2 _ r σ' e; cases e
  | succ n ih =>
    intro σ x1 x2 hU
    exact kf_x1_guardsNeeded_4_b (N := N) hU (fun z0 z1 z2 hz => ih z0 z1 z2 hz)
theorem kf_x1_guardsNeeded {N : Nat} {s0 : St × St} {σ : St} (hU : Kf s0 σ) : Par (x1_guardsNeeded N σ) (fun _ σ' => Kf s0 σ') := by
  unfold x1_guardsNeeded
  exact (kf_x1_guardsNeeded_4  N _ _ _ hU)
theorem kf_x2_findCandidates_91 {N : Nat} {s0 : St × St} {σ : St} {x1 : Int32} (hU : Kf s0 σ) {rec7 : St → Int32 → Option (Unit × St)} (h_rec7 : ∀ (z0 : St) (z1 : Int32), Kf s0 z0 → Par (rec7 z0 z1) (fun _ σ' => Kf s0 σ')) : Par (x2_findCandidates_91 N rec7 σ x1) (fun _ σ' => Kf s0 σ') := by
  unfold x2_findCandidates_91
  exact (h_rec7 _ _ hU)
theorem kf_x2_findCandidates_49 {N : Nat} {s0 : St × St} {σ : St} {x1 : Int32} {t0 : Int32} (hU : Kf s0 σ) {rec7 : St → Int32 → Option (Unit × St)} (h_rec7 : ∀ (z0 : St) (z1 : Int32), Kf s0 z0 → Par (rec7 z0 z1) (fun _ σ' => Kf s0 σ')) : Par (x2_findCandidates_49 N rec7 σ x1 t0) (fun _ σ' => Kf s0 σ') := by
  unfold x2_findCandidates_49
  refine par_if (fun _ => ?_) (fun _ => ?_)
  · refine par_bd (kf_x5_at hU) (fun r1 σ2 h1 => ?_)
    refine par_if (fun _ => ?_) (fun _ => ?_)
    · refine par_bd (kf_x5_put h1 (by decide)) (fun _ σ4 h2 => ?_)
      exact (kf_x2_findCandidates_91 (kf_I h2 (by decide)) h_rec7)
    · exact (kf_x2_findCandidates_91 h1 h_rec7)
  · exact (kf_x2_findCandidates_91 hU h_rec7)
theorem kf_x2_findCandidates_48 {N : Nat} {s0 : St × St} {σ : St} {x1 : Int32} (hU : Kf s0 σ) {rec7 : St → Int32 → Option (Unit × St)} (h_rec7 : ∀ (z0 : St) (z1 : Int32), Kf s0 z0 → Par (rec7 z0 z1) (fun _ σ' => Kf s0 σ')) : Par (x2_findCandidates_48 N rec7 σ x1) (fun _ σ' => Kf s0 σ') := by
  unfold x2_findCandidates_48
  exact (kf_x2_findCandidates_49 hU h_rec7)
theorem kf_x2_findCandidates_7_b {N : Nat} {s0 : St × St} {σ : St} {x1 : Int32} (hU : Kf s0 σ) {rec7 : St → Int32 → Option (Unit × St)} (h_rec7 : ∀ (z0 : St) (z1 : Int32), Kf s0 z0 → Par (rec7 z0 z1) (fun _ σ' => Kf s0 σ')) : Par (x2_findCandidates_7_b N rec7 σ x1) (fun _ σ' => Kf s0 σ') := by
  unfold x2_findCandidates_7_b
  refine par_if (fun _ => ?_) (fun _ => ?_)
  · exact par_some hU
  · refine par_if (fun _ => ?_) (fun _ => ?_)
    · exact par_some hU
    · refine par_if (fun _ => ?_) (fun _ => ?_)
      · exact (kf_x2_findCandidates_48 hU h_rec7)
      · refine par_if (fun _ => ?_) (fun _ => ?_)
        · exact (kf_x2_findCandidates_49 hU h_rec7)
        · exact (kf_x2_findCandidates_48 hU h_rec7)
theorem kf_x2_findCandidates_7 {N : Nat} {s0 : St × St} : ∀ (n : Nat) (σ : St) (x1 : Int32), Kf s0 σ → Par (x2_findCandidates_7 N  n σ x1) (fun _ σ' => Kf s0 σ') := by
  intro n
  induction n with
  | zero => intro σ x1 _ r σ' e; cases e
  | succ n ih =>
    intro σ x1 hU
    exact kf_x2_findCandidates_7_b (N := N) hU (fun z0 z1 hz => ih z0 z1 hz)
theorem kf_x2_findCandidates {N : Nat} {s0 : St × St} {σ : St} (hU : Kf s0 σ) : Par (x2_findCandidates N σ) (fun _ σ' => Kf s0 σ') := by
  unfold x2_findCandidates
  exact (kf_x2_findCandidates_7  N _ _ (kf_I hU (by decide)))
theorem kf_x2_marksOf_37 {N : Nat} {s0 : St × St} {σ : St} {x1 : Int32} {x2 : Int64} {x4 : Int32} (hU : Kf s0 σ) {rec5 : St → Int32 → Int64 → Int32 → Option (Int64 × St)} (h_rec5 : ∀ (z0 : St) (z1 : Int32) (z2 : Int64) (z3 : Int32), Kf s0 z0 → Par (rec5 z0 z1 z2 z3) (fun _ σ' => Kf s0 σ')) : Par (x2_marksOf_37 N rec5 σ x1 x2 x4) (fun _ σ' => Kf s0 σ') := by
  unfold x2_marksOf_37
  exact (h_rec5 _ _ _ _ hU)
theorem kf_x2_marksOf_5_b {N : Nat} {s0 : St × St} {σ : St} {x1 : Int32} {x2 : Int64} {x4 : Int32} (hU : Kf s0 σ) {rec5 : St → Int32 → Int64 → Int32 → Option (Int64 × St)} (h_rec5 : ∀ (z0 : St) (z1 : Int32) (z2 : Int64) (z3 : Int32), Kf s0 z0 → Par (rec5 z0 z1 z2 z3) (fun _ σ' => Kf s0 σ')) : Par (x2_marksOf_5_b N rec5 σ x1 x2 x4) (fun _ σ' => Kf s0 σ') := by
  unfold x2_marksOf_5_b
  refine par_if (fun _ => ?_) (fun _ => ?_)
  · exact par_some hU
  · refine par_if (fun _ => ?_) (fun _ => ?_)
    · exact (kf_x2_marksOf_37 hU h_rec5)
    · refine par_bd (kf_x5_at hU) (fun r1 σ2 h1 => ?_)
      exact (kf_x2_marksOf_37 h1 h_rec5)
theorem kf_x2_marksOf_5 {N : Nat} {s0 : St × St} : ∀ (n : Nat) (σ : St) (x1 : Int32) (x2 : Int64) (x4 : Int32), Kf s0 σ → Par (x2_marksOf_5 N  n σ x1 x2 x4) (fun _ σ' => Kf s0 σ') := by
  intro n
  induction n with
  | zero => intro σ x1 x2 x4 _ r σ' e; cases e
  | succ n ih =>
    intro σ x1 x2 x4 hU
    exact kf_x2_marksOf_5_b (N := N) hU (fun z0 z1 z2 z3 hz => ih z0 z1 z2 z3 hz)
theorem kf_x2_marksOf {N : Nat} {s0 : St × St} {σ : St} {a1 : Int32} (hU : Kf s0 σ) : Par (x2_marksOf N σ a1) (fun _ σ' => Kf s0 σ') := by
  unfold x2_marksOf
  exact (kf_x2_marksOf_5  N _ _ _ _ hU)
theorem kf_x2_priceKind {N : Nat} {s0 : St × St} {σ : St} {a1 : Int32} (hU : Kf s0 σ) : Par (x2_priceKind N σ a1) (fun _ σ' => Kf s0 σ') := by
  unfold x2_priceKind
  refine par_if (fun _ => ?_) (fun _ => ?_)
  · refine par_if (fun _ => ?_) (fun _ => ?_)
    · exact par_some hU
    · exact par_some hU
  · exact par_some hU
theorem kf_x2_priceOf_41 {N : Nat} {s0 : St × St} {σ : St} {x1 : Int32} {x2 : Int32} {x3 : Int32} (hU : Kf s0 σ) {rec4 : St → Int32 → Int32 → Int32 → Option (Int32 × St)} (h_rec4 : ∀ (z0 : St) (z1 : Int32) (z2 : Int32) (z3 : Int32), Kf s0 z0 → Par (rec4 z0 z1 z2 z3) (fun _ σ' => Kf s0 σ')) : Par (x2_priceOf_41 N rec4 σ x1 x2 x3) (fun _ σ' => Kf s0 σ') := by
  unfold x2_priceOf_41
  exact (h_rec4 _ _ _ _ hU)
theorem kf_x2_priceOf_4_b {N : Nat} {s0 : St × St} {σ : St} {x1 : Int32} {x2 : Int32} {x3 : Int32} (hU : Kf s0 σ) {rec4 : St → Int32 → Int32 → Int32 → Option (Int32 × St)} (h_rec4 : ∀ (z0 : St) (z1 : Int32) (z2 : Int32) (z3 : Int32), Kf s0 z0 → Par (rec4 z0 z1 z2 z3) (fun _ σ' => Kf s0 σ')) : Par (x2_priceOf_4_b N rec4 σ x1 x2 x3) (fun _ σ' => Kf s0 σ') := by
  unfold x2_priceOf_4_b
  refine par_if (fun _ => ?_) (fun _ => ?_)
  · exact par_some hU
  · refine par_if (fun _ => ?_) (fun _ => ?_)
    · exact (kf_x2_priceOf_41 hU h_rec4)
    · refine par_bd (kf_x5_at hU) (fun r1 σ2 h1 => ?_)
      refine par_bd (kf_x2_priceKind h1) (fun r3 σ4 h2 => ?_)
      refine par_bd (kf_x5_at h2) (fun r5 σ6 h3 => ?_)
      exact (kf_x2_priceOf_41 h3 h_rec4)
theorem kf_x2_priceOf_4 {N : Nat} {s0 : St × St} : ∀ (n : Nat) (σ : St) (x1 : Int32) (x2 : Int32) (x3 : Int32), Kf s0 σ → Par (x2_priceOf_4 N  n σ x1 x2 x3) (fun _ σ' => Kf s0 σ') := by
  intro n
  induction n with
  | zero => intro σ x1 x2 x3 _ r σ' e; cases e
  | succ n ih =>
    intro σ x1 x2 x3 hU
    exact kf_x2_priceOf_4_b (N := N) hU (fun z0 z1 z2 z3 hz => ih z0 z1 z2 z3 hz)
theorem kf_x2_priceOf {N : Nat} {s0 : St × St} {σ : St} {a1 : Int32} (hU : Kf s0 σ) : Par (x2_priceOf N σ a1) (fun _ σ' => Kf s0 σ') := by
  unfold x2_priceOf
  exact (kf_x2_priceOf_4  N _ _ _ _ hU)
theorem kf_x2_consider_41 {N : Nat} {s0 : St × St} {σ : St} {x1 : Int32} {x2 : Int32} {x3 : Int32} (hU : Kf s0 σ) : Par (x2_consider_41 N σ x1 x2 x3) (fun _ σ' => Kf s0 σ') := by
  unfold x2_consider_41
  exact par_some (kf_I (kf_I (kf_I hU (by decide)) (by decide)) (by decide))
theorem kf_x2_consider {N : Nat} {s0 : St × St} {σ : St} {a1 : Int32} {a2 : Int32} (hU : Kf s0 σ) : Par (x2_consider N σ a1 a2) (fun _ σ' => Kf s0 σ') := by
  unfold x2_consider
  refine par_bd (kf_x2_priceOf hU) (fun r1 σ2 h1 => ?_)
  refine par_bd (kf_x5_at h1) (fun r3 σ4 h2 => ?_)
  refine par_if (fun _ => ?_) (fun _ => ?_)
  · exact (kf_x2_consider_41 h2)
  · refine par_if (fun _ => ?_) (fun _ => ?_)
    · refine par_if (fun _ => ?_) (fun _ => ?_)
      · exact par_some h2
      · exact (kf_x2_consider_41 h2)
    · exact par_some h2
theorem kf_x2_isTooDear_41 {N : Nat} {s0 : St × St} {σ : St} (hU : Kf s0 σ) : Par (x2_isTooDear_41 N σ) (fun _ σ' => Kf s0 σ') := by
  unfold x2_isTooDear_41
  exact par_some hU
theorem kf_x2_isTooDear {N : Nat} {s0 : St × St} {σ : St} {a1 : Int32} {a2 : Int32} (hU : Kf s0 σ) : Par (x2_isTooDear N σ a1 a2) (fun _ σ' => Kf s0 σ') := by
  unfold x2_isTooDear
  refine par_bd (kf_x2_priceOf hU) (fun r1 σ2 h1 => ?_)
  refine par_bd (kf_x5_at h1) (fun r3 σ4 h2 => ?_)
  refine par_if (fun _ => ?_) (fun _ => ?_)
  · exact (kf_x2_isTooDear_41 h2)
  · refine par_if (fun _ => ?_) (fun _ => ?_)
    · refine par_if (fun _ => ?_) (fun _ => ?_)
      · exact par_some h2
      · exact (kf_x2_isTooDear_41 h2)
    · exact par_some h2
theorem kf_x2_nextBelow_48 {N : Nat} {s0 : St × St} {σ : St} {x1 : Int32} {x2 : Int32} {x3 : Int32} (hU : Kf s0 σ) {rec5 : St → Int32 → Int32 → Int32 → Option (Int32 × St)} (h_rec5 : ∀ (z0 : St) (z1 : Int32) (z2 : Int32) (z3 : Int32), Kf s0 z0 → Par (rec5 z0 z1 z2 z3) (fun _ σ' => Kf s0 σ')) : Par (x2_nextBelow_48 N rec5 σ x1 x2 x3) (fun _ σ' => Kf s0 σ') := by
  unfold x2_nextBelow_48
  exact (h_rec5 _ _ _ _ hU)
theorem kf_x2_nextBelow_5_b {N : Nat} {s0 : St × St} {σ : St} {x1 : Int32} {x2 : Int32} {x3 : Int32} (hU : Kf s0 σ) {rec5 : St → Int32 → Int32 → Int32 → Option (Int32 × St)} (h_rec5 : ∀ (z0 : St) (z1 : Int32) (z2 : Int32) (z3 : Int32), Kf s0 z0 → Par (rec5 z0 z1 z2 z3) (fun _ σ' => Kf s0 σ')) : Par (x2_nextBelow_5_b N rec5 σ x1 x2 x3) (fun _ σ' => Kf s0 σ') := by
  unfold x2_nextBelow_5_b
  refine par_if (fun _ => ?_) (fun _ => ?_)
  · exact par_some hU
  · refine par_if (fun _ => ?_) (fun _ => ?_)
    · refine par_bd (kf_x2_isTooDear hU) (fun r1 σ2 h1 => ?_)
      refine par_if (fun _ => ?_) (fun _ => ?_)
      · exact (kf_x2_nextBelow_48 h1 h_rec5)
      · exact par_some h1
    · exact (kf_x2_nextBelow_48 hU h_rec5)
theorem kf_x2_nextBelow_5 {N : Nat} {s0 : St × St} : ∀ (n : Nat) (σ : St) (x1 : Int32) (x2 : Int32) (x3 : Int32), Kf s0 σ → Par (x2_nextBelow_5 N  n σ x1 x2 x3) (fun _ σ' => Kf s0 σ') := by
  intro n
  induction n with
  | zero => intro σ x1 x2 x3 _ r σ' e; cases e
  | succ n ih =>
    intro σ x1 x2 x3 hU
    exact kf_x2_nextBelow_5_b (N := N) hU (fun z0 z1 z2 z3 hz => ih z0 z1 z2 z3 hz)
theorem kf_x2_nextBelow {N : Nat} {s0 : St × St} {σ : St} {a1 : Int32} {a2 : Int32} (hU : Kf s0 σ) : Par (x2_nextBelow N σ a1 a2) (fun _ σ' => Kf s0 σ') := by
  unfold x2_nextBelow
  exact (kf_x2_nextBelow_5  N _ _ _ _ hU)
theorem kf_x2_nameOfMark {N : Nat} {s0 : St × St} {σ : St} {a1 : Int32} (hU : Kf s0 σ) : Par (x2_nameOfMark N σ a1) (fun _ σ' => Kf s0 σ') := by
  unfold x2_nameOfMark
  refine par_if (fun _ => ?_) (fun _ => ?_)
  · refine par_if (fun _ => ?_) (fun _ => ?_)
    · exact par_some hU
    · exact par_some hU
  · exact par_some hU
theorem kf_x2_nameHeld_58 {N : Nat} {s0 : St × St} {σ : St} {x1 : Int32} (hU : Kf s0 σ) {rec7 : St → Int32 → Option (Unit × St)} (h_rec7 : ∀ (z0 : St) (z1 : Int32), Kf s0 z0 → Par (rec7 z0 z1) (fun _ σ' => Kf s0 σ')) : Par (x2_nameHeld_58 N rec7 σ x1) (fun _ σ' => Kf s0 σ') := by
  unfold x2_nameHeld_58
  exact (h_rec7 _ _ hU)
theorem kf_x2_nameHeld_7_b {N : Nat} {s0 : St × St} {σ : St} {x1 : Int32} (hU : Kf s0 σ) {rec7 : St → Int32 → Option (Unit × St)} (h_rec7 : ∀ (z0 : St) (z1 : Int32), Kf s0 z0 → Par (rec7 z0 z1) (fun _ σ' => Kf s0 σ')) : Par (x2_nameHeld_7_b N rec7 σ x1) (fun _ σ' => Kf s0 σ') := by
  unfold x2_nameHeld_7_b
  refine par_if (fun _ => ?_) (fun _ => ?_)
  · exact par_some hU
  · refine par_if (fun _ => ?_) (fun _ => ?_)
    · exact (kf_x2_nameHeld_58 hU h_rec7)
    · refine par_bd (kf_x5_at hU) (fun r1 σ2 h1 => ?_)
      refine par_bd (kf_x2_nameOfMark h1) (fun r3 σ4 h2 => ?_)
      refine par_bd (kf_x5_put h2 (by decide)) (fun _ σ6 h3 => ?_)
      exact (kf_x2_nameHeld_58 (kf_I h3 (by decide)) h_rec7)
theorem kf_x2_nameHeld_7 {N : Nat} {s0 : St × St} : ∀ (n : Nat) (σ : St) (x1 : Int32), Kf s0 σ → Par (x2_nameHeld_7 N  n σ x1) (fun _ σ' => Kf s0 σ') := by
  intro n
  induction n with
  | zero => intro σ x1 _ r σ' e; cases e
  | succ n ih =>
    intro σ x1 hU
    exact kf_x2_nameHeld_7_b (N := N) hU (fun z0 z1 hz => ih z0 z1 hz)
theorem kf_x2_nameHeld {N : Nat} {s0 : St × St} {σ : St} (hU : Kf s0 σ) : Par (x2_nameHeld N σ) (fun _ σ' => Kf s0 σ') := by
  unfold x2_nameHeld
  exact (kf_x2_nameHeld_7  N _ _ (kf_I hU (by decide)))
theorem kf_x2_search_108 {N : Nat} {s0 : St × St} {σ : St} (hU : Kf s0 σ) : Par (x2_search_108 N σ) (fun _ σ' => Kf s0 σ') := by
  unfold x2_search_108
  refine par_bd (kf_x2_nameHeld hU) (fun _ σ10 h1 => ?_)
  exact par_some (kf_I h1 (by decide))
theorem kf_x2_search_62_b {N : Nat} {s0 : St × St} {σ : St} {x1 : Int32} (hU : Kf s0 σ) {rec62 : St → Int32 → Option (Unit × St)} (h_rec62 : ∀ (z0 : St) (z1 : Int32), Kf s0 z0 → Par (rec62 z0 z1) (fun _ σ' => Kf s0 σ')) : Par (x2_search_62_b N rec62 σ x1) (fun _ σ' => Kf s0 σ') := by
  unfold x2_search_62_b
  refine par_if (fun _ => ?_) (fun _ => ?_)
  · exact (kf_x2_search_108 hU)
  · refine par_bd (kf_x2_marksOf hU) (fun r11 σ12 h1 => ?_)
    refine par_bd (kf_x1_settle h1) (fun _ σ14 h2 => ?_)
    refine par_bd (kf_x1_guardsNeeded h2) (fun r15 σ16 h3 => ?_)
    refine par_bd (kf_x2_consider h3) (fun _ σ18 h4 => ?_)
    refine par_bd (kf_x2_nextBelow h4) (fun r19 σ20 h5 => ?_)
    exact (h_rec62 _ _ h5)
theorem kf_x2_search_62 {N : Nat} {s0 : St × St} : ∀ (n : Nat) (σ : St) (x1 : Int32), Kf s0 σ → Par (x2_search_62 N  n σ x1) (fun _ σ' => Kf s0 σ') := by
  intro n
  induction n with
  | zero => intro σ x1 _ r σ' e; cases e
  | succ n ih =>
    intro σ x1 hU
    exact kf_x2_search_62_b (N := N) hU (fun z0 z1 hz => ih z0 z1 hz)
theorem kf_x2_search {N : Nat} {s0 : St × St} {σ : St} (hU : Kf s0 σ) : Par (x2_search N σ) (fun _ σ' => Kf s0 σ') := by
  unfold x2_search
  refine par_if (fun _ => ?_) (fun _ => ?_)
  · exact par_some hU
  · refine par_bd (kf_x1_settle hU) (fun _ σ2 h1 => ?_)
    refine par_bd (kf_x2_findCandidates h1) (fun _ σ4 h2 => ?_)
    refine par_bd (kf_x1_guardsNeeded (kf_I h2 (by decide))) (fun r5 σ6 h3 => ?_)
    refine par_bd (kf_x5_at (kf_I h3 (by decide))) (fun r7 σ8 h4 => ?_)
    exact (kf_x2_search_62  N _ _ (kf_I h4 (by decide)))
theorem kf_x6_clearNames_2_b {N : Nat} {s0 : St × St} {σ : St} {x1 : Int32} (hU : Kf s0 σ) {rec2 : St → Int32 → Option (Unit × St)} (h_rec2 : ∀ (z0 : St) (z1 : Int32), Kf s0 z0 → Par (rec2 z0 z1) (fun _ σ' => Kf s0 σ')) : Par (x6_clearNames_2_b N rec2 σ x1) (fun _ σ' => Kf s0 σ') := by
  unfold x6_clearNames_2_b
  refine par_if (fun _ => ?_) (fun _ => ?_)
  · exact par_some hU
  · refine par_bd (kf_x5_put hU (by decide)) (fun _ σ2 h1 => ?_)
    exact (h_rec2 _ _ h1)
theorem kf_x6_clearNames_2 {N : Nat} {s0 : St × St} : ∀ (n : Nat) (σ : St) (x1 : Int32), Kf s0 σ → Par (x6_clearNames_2 N  n σ x1) (fun _ σ' => Kf s0 σ') := by
  intro n
  induction n with
  | zero => intro σ x1 _ r σ' e; cases e
  | succ n ih =>
    intro σ x1 hU
    exact kf_x6_clearNames_2_b (N := N) hU (fun z0 z1 hz => ih z0 z1 hz)
theorem kf_x6_clearNames {N : Nat} {s0 : St × St} {σ : St} (hU : Kf s0 σ) : Par (x6_clearNames N σ) (fun _ σ' => Kf s0 σ') := by
  unfold x6_clearNames
  exact (kf_x6_clearNames_2  N _ _ hU)
theorem kf_x6_make {N : Nat} {s0 : St × St} {σ : St} {a1 : Int32} {a2 : Int32} (hU : Kf s0 σ) : Par (x6_make N σ a1 a2) (fun _ σ' => Kf s0 σ') := by
  unfold x6_make
  refine par_if (fun _ => ?_) (fun _ => ?_)
  · refine par_bd (kf_x5_put (kf_I hU (by decide)) (by decide)) (fun _ σ2 h1 => ?_)
    refine par_bd (kf_x5_put h1 (by decide)) (fun _ σ4 h2 => ?_)
    exact par_some h2
  · exact par_some (kf_I hU (by decide))
theorem kf_x6_makeLoop {N : Nat} {s0 : St × St} {σ : St} (hU : Kf s0 σ) : Par (x6_makeLoop N σ) (fun _ σ' => Kf s0 σ') := by
  unfold x6_makeLoop
  refine par_bd (kf_x6_make hU) (fun r1 σ2 h1 => ?_)
  exact par_some h1
theorem kf_x6_setName {N : Nat} {s0 : St × St} {σ : St} {a1 : Int32} {a2 : Int32} (hU : Kf s0 σ) : Par (x6_setName N σ a1 a2) (fun _ σ' => Kf s0 σ') := by
  unfold x6_setName
  refine par_bd (kf_x5_put hU (by decide)) (fun _ σ2 h1 => ?_)
  exact par_some h1
theorem kf_x6_begin_132 {N : Nat} {s0 : St × St} {σ : St} (hU : Kf s0 σ) : Par (x6_begin_132 N σ) (fun _ σ' => Kf s0 σ') := by
  unfold x6_begin_132
  refine par_gd (fun _ => ?_)
  refine par_bd (kf_x5_at hU) (fun r7 σ8 h1 => ?_)
  exact par_some (kf_I h1 (by decide))
theorem kf_x6_begin_123 {N : Nat} {s0 : St × St} {σ : St} {x1 : Int32} {x3 : Int32} {t1 : Int32} {t2 : Int32} (hU : Kf s0 σ) {rec68 : St → Int32 → Int32 → Option (Unit × St)} (h_rec68 : ∀ (z0 : St) (z1 : Int32) (z2 : Int32), Kf s0 z0 → Par (rec68 z0 z1 z2) (fun _ σ' => Kf s0 σ')) : Par (x6_begin_123 N rec68 σ x1 x3 t1 t2) (fun _ σ' => Kf s0 σ') := by
  unfold x6_begin_123
  refine par_bd (kf_x6_setName hU) (fun _ σ13 h1 => ?_)
  exact (h_rec68 _ _ _ h1)
theorem kf_x6_begin_92 {N : Nat} {s0 : St × St} {σ : St} {x1 : Int32} {x3 : Int32} {t0 : Int32} (hU : Kf s0 σ) {rec68 : St → Int32 → Int32 → Option (Unit × St)} (h_rec68 : ∀ (z0 : St) (z1 : Int32) (z2 : Int32), Kf s0 z0 → Par (rec68 z0 z1 z2) (fun _ σ' => Kf s0 σ')) : Par (x6_begin_92 N rec68 σ x1 x3 t0) (fun _ σ' => Kf s0 σ') := by
  unfold x6_begin_92
  refine par_gd (fun _ => ?_)
  refine par_bd (kf_x3_parameter hU) (fun r10 σ11 h1 => ?_)
  refine par_if (fun _ => ?_) (fun _ => ?_)
  · exact (kf_x6_begin_123 h1 h_rec68)
  · refine par_bd (kf_x6_makeLoop h1) (fun r14 σ15 h2 => ?_)
    exact (kf_x6_begin_123 h2 h_rec68)
theorem kf_x6_begin_68_b {N : Nat} {s0 : St × St} {σ : St} {x1 : Int32} {x3 : Int32} (hU : Kf s0 σ) {rec68 : St → Int32 → Int32 → Option (Unit × St)} (h_rec68 : ∀ (z0 : St) (z1 : Int32) (z2 : Int32), Kf s0 z0 → Par (rec68 z0 z1 z2) (fun _ σ' => Kf s0 σ')) : Par (x6_begin_68_b N rec68 σ x1 x3) (fun _ σ' => Kf s0 σ') := by
  unfold x6_begin_68_b
  refine par_bd (kf_x7_outers hU) (fun r4 σ5 h1 => ?_)
  refine par_if (fun _ => ?_) (fun _ => ?_)
  · exact (kf_x6_begin_132 h1)
  · refine par_if (fun _ => ?_) (fun _ => ?_)
    · exact (kf_x6_begin_92 h1 h_rec68)
    · exact (kf_x6_begin_92 h1 h_rec68)
theorem kf_x6_begin_68 {N : Nat} {s0 : St × St} : ∀ (n : Nat) (σ : St) (x1 : Int32) (x3 : Int32), Kf s0 σ → Par (x6_begin_68 N  n σ x1 x3) (fun _ σ' => Kf s0 σ') := by
  intro n
  induction n with
  | zero => intro σ x1 x3 _ r σ' e; cases e
  | succ n ih =>
    intro σ x1 x3 hU
    exact kf_x6_begin_68_b (N := N) hU (fun z0 z1 z2 hz => ih z0 z1 z2 hz)
theorem kf_x6_begin {N : Nat} {s0 : St × St} {σ : St} {a1 : Int32} {a2 : Int32} (hU : Kf s0 σ) : Par (x6_begin N σ a1 a2) (fun _ σ' => Kf s0 σ') := by
  unfold x6_begin
  refine par_gd (fun _ => ?_)
  refine par_bd (kf_x6_clearNames (kf_I (kf_I (kf_I (kf_I (kf_I (kf_I (kf_I (kf_I (kf_P (kf_P hU (by decide)) (by decide)) (by decide)) (by decide)) (by decide)) (by decide)) (by decide)) (by decide)) (by decide)) (by decide))) (fun _ σ3 h1 => ?_)
  exact (kf_x6_begin_68  N _ _ _ h1)
theorem kf_x6_leave {N : Nat} {s0 : St × St} {σ : St} {a1 : Int32} (hU : Kf s0 σ) : Par (x6_leave N σ a1) (fun _ σ' => Kf s0 σ') := by
  unfold x6_leave
  refine par_if (fun _ => ?_) (fun _ => ?_)
  · refine par_if (fun _ => ?_) (fun _ => ?_)
    · exact par_some (kf_I hU (by decide))
    · exact par_some (kf_I hU (by decide))
  · refine par_bd (kf_x5_at (kf_I hU (by decide))) (fun r1 σ2 h1 => ?_)
    exact par_some (kf_I (kf_I (kf_I h1 (by decide)) (by decide)) (by decide))
theorem kf_x6_nameOf {N : Nat} {s0 : St × St} {σ : St} {a1 : Int32} (hU : Kf s0 σ) : Par (x6_nameOf N σ a1) (fun _ σ' => Kf s0 σ') := by
  unfold x6_nameOf
  refine par_bd (kf_x5_at hU) (fun r1 σ2 h1 => ?_)
  exact par_some h1
theorem kf_x6_store {N : Nat} {s0 : St × St} {σ : St} {a1 : Int32} (hU : Kf s0 σ) : Par (x6_store N σ a1) (fun _ σ' => Kf s0 σ') := by
  unfold x6_store
  refine par_if (fun _ => ?_) (fun _ => ?_)
  · refine par_gd (fun _ => ?_)
    refine par_bd (kf_x0_get (kf_I hU (by decide))) (fun r7 σ8 h1 => ?_)
    exact par_some (kf_I h1 (by decide))
  · refine par_gd (fun _ => ?_)
    refine par_bd (kf_x0_get hU) (fun r2 σ3 h2 => ?_)
    refine par_bd (kf_x5_put h2 (by decide)) (fun _ σ5 h3 => ?_)
    exact par_some h3
theorem kf_x6_finish {N : Nat} {s0 : St × St} {σ : St} (hU : Kf s0 σ) : Par (x6_finish N σ) (fun _ σ' => Kf s0 σ') := by
  unfold x6_finish
  refine par_gd (fun _ => ?_)
  refine par_bd (kf_x0_get (kf_I hU (by decide))) (fun r2 σ3 h1 => ?_)
  refine par_gd (fun _ => ?_)
  refine par_bd (kf_x0_get h1) (fun r5 σ6 h2 => ?_)
  refine par_if (fun _ => ?_) (fun _ => ?_)
  · refine par_bd (kf_x6_leave h2) (fun _ σ14 h3 => ?_)
    exact par_some h3
  · refine par_if (fun _ => ?_) (fun _ => ?_)
    · refine par_bd (kf_x6_setName h2) (fun _ σ12 h4 => ?_)
      exact par_some (kf_I h4 (by decide))
    · refine par_if (fun _ => ?_) (fun _ => ?_)
      · refine par_bd (kf_x6_nameOf h2) (fun r7 σ8 h5 => ?_)
        refine par_bd (kf_x6_store h5) (fun _ σ10 h6 => ?_)
        exact par_some (kf_I h6 (by decide))
      · exact par_some (kf_I h2 (by decide))
theorem kf_j_floorMod {N : Nat} {s0 : St × St} {σ : St} {a1 : Int32} {a2 : Int32} (hU : Kf s0 σ) : Par (j_floorMod N σ a1 a2) (fun _ σ' => Kf s0 σ') := by
  unfold j_floorMod
  refine par_gd (fun _ => ?_)
  refine par_if (fun _ => ?_) (fun _ => ?_)
  · exact par_some hU
  · refine par_if (fun _ => ?_) (fun _ => ?_)
    · exact par_some hU
    · exact par_some hU
theorem kf_x6_choose {N : Nat} {s0 : St × St} {σ : St} (hU : Kf s0 σ) : Par (x6_choose N σ) (fun _ σ' => Kf s0 σ') := by
  unfold x6_choose
  refine par_bd (kf_j_floorMod hU) (fun r1 σ2 h1 => ?_)
  refine par_if (fun _ => ?_) (fun _ => ?_)
  · exact par_some (kf_I h1 (by decide))
  · exact par_some (kf_I h1 (by decide))
theorem kf_x6_holds_60 {N : Nat} {s0 : St × St} {σ : St} {t0 : Int32} {t1 : Int32} (hU : Kf s0 σ) : Par (x6_holds_60 N σ t0 t1) (fun _ σ' => Kf s0 σ') := by
  unfold x6_holds_60
  refine par_if (fun _ => ?_) (fun _ => ?_)
  · exact par_some hU
  · exact par_some hU
theorem kf_x6_holds_47 {N : Nat} {s0 : St × St} {σ : St} {x1 : Int32} {t0 : Int32} (hU : Kf s0 σ) : Par (x6_holds_47 N σ x1 t0) (fun _ σ' => Kf s0 σ') := by
  unfold x6_holds_47
  refine par_if (fun _ => ?_) (fun _ => ?_)
  · exact (kf_x6_holds_60 hU)
  · exact (kf_x6_holds_60 hU)
theorem kf_x6_holds {N : Nat} {s0 : St × St} {σ : St} (hU : Kf s0 σ) : Par (x6_holds N σ) (fun _ σ' => Kf s0 σ') := by
  unfold x6_holds
  refine par_gd (fun _ => ?_)
  refine par_bd (kf_x0_get hU) (fun r2 σ3 h1 => ?_)
  refine par_if (fun _ => ?_) (fun _ => ?_)
  · refine par_bd (kf_x6_choose h1) (fun r9 σ10 h2 => ?_)
    refine par_gd (fun _ => ?_)
    exact par_some h2
  · refine par_gd (fun _ => ?_)
    refine par_bd (kf_x0_get h1) (fun r5 σ6 h3 => ?_)
    refine par_bd (kf_x6_nameOf h3) (fun r7 σ8 h4 => ?_)
    refine par_if (fun _ => ?_) (fun _ => ?_)
    · exact (kf_x6_holds_47 h4)
    · exact (kf_x6_holds_47 h4)
theorem kf_x6_fieldOf {N : Nat} {s0 : St × St} {σ : St} {a1 : Int32} {a2 : Int32} (hU : Kf s0 σ) : Par (x6_fieldOf N σ a1 a2) (fun _ σ' => Kf s0 σ') := by
  unfold x6_fieldOf
  refine par_if (fun _ => ?_) (fun _ => ?_)
  · refine par_gd (fun _ => ?_)
    refine par_bd (kf_x0_get (kf_I hU (by decide))) (fun r4 σ5 h1 => ?_)
    exact par_some (kf_I h1 (by decide))
  · refine par_bd (kf_x5_at hU) (fun r1 σ2 h2 => ?_)
    exact par_some h2
theorem kf_x6_enter_113 {N : Nat} {s0 : St × St} {σ : St} {x1 : Int32} (hU : Kf s0 σ) : Par (x6_enter_113 N σ x1) (fun _ σ' => Kf s0 σ') := by
  unfold x6_enter_113
  refine par_gd (fun _ => ?_)
  refine par_bd (kf_x5_at hU) (fun r9 σ10 h1 => ?_)
  exact par_some (kf_I (kf_I h1 (by decide)) (by decide))
theorem kf_x6_enter_51_b {N : Nat} {s0 : St × St} {σ : St} {x1 : Int32} {x2 : Int32} {x3 : Int32} (hU : Kf s0 σ) {rec51 : St → Int32 → Int32 → Int32 → Option (Unit × St)} (h_rec51 : ∀ (z0 : St) (z1 : Int32) (z2 : Int32) (z3 : Int32), Kf s0 z0 → Par (rec51 z0 z1 z2 z3) (fun _ σ' => Kf s0 σ')) : Par (x6_enter_51_b N rec51 σ x1 x2 x3) (fun _ σ' => Kf s0 σ') := by
  unfold x6_enter_51_b
  refine par_gd (fun _ => ?_)
  refine par_bd (kf_x0_arguments hU) (fun r6 σ7 h1 => ?_)
  refine par_if (fun _ => ?_) (fun _ => ?_)
  · exact (kf_x6_enter_113 h1)
  · refine par_gd (fun _ => ?_)
    refine par_bd (kf_x0_argument h1) (fun r12 σ13 h2 => ?_)
    refine par_bd (kf_x5_at h2) (fun r14 σ15 h3 => ?_)
    refine par_gd (fun _ => ?_)
    refine par_bd (kf_x3_parameter h3) (fun r17 σ18 h4 => ?_)
    refine par_bd (kf_x6_setName h4) (fun _ σ20 h5 => ?_)
    exact (h_rec51 _ _ _ _ h5)
theorem kf_x6_enter_51 {N : Nat} {s0 : St × St} : ∀ (n : Nat) (σ : St) (x1 : Int32) (x2 : Int32) (x3 : Int32), Kf s0 σ → Par (x6_enter_51 N  n σ x1 x2 x3) (fun _ σ' => Kf s0 σ') := by
  intro n
  induction n with
  | zero => intro σ x1 x2 x3 _ r σ' e; cases e
  | succ n ih =>
    intro σ x1 x2 x3 hU
    exact kf_x6_enter_51_b (N := N) hU (fun z0 z1 z2 z3 hz => ih z0 z1 z2 z3 hz)
theorem kf_x6_enter {N : Nat} {s0 : St × St} {σ : St} {a1 : Int32} (hU : Kf s0 σ) : Par (x6_enter N σ a1) (fun _ σ' => Kf s0 σ') := by
  unfold x6_enter
  refine par_if (fun _ => ?_) (fun _ => ?_)
  · refine par_bd (kf_x5_put hU (by decide)) (fun _ σ2 h1 => ?_)
    refine par_bd (kf_x6_clearNames (kf_I h1 (by decide))) (fun _ σ4 h2 => ?_)
    exact (kf_x6_enter_51  N _ _ _ _ h2)
  · exact par_some (kf_I hU (by decide))
theorem kf_x6_work_79 {N : Nat} {s0 : St × St} {σ : St} {t1 : Int32} (hU : Kf s0 σ) : Par (x6_work_79 N σ t1) (fun _ σ' => Kf s0 σ') := by
  unfold x6_work_79
  exact par_some (kf_I hU (by decide))
theorem kf_x6_work {N : Nat} {s0 : St × St} {σ : St} (hU : Kf s0 σ) : Par (x6_work N σ) (fun _ σ' => Kf s0 σ') := by
  unfold x6_work
  refine par_gd (fun _ => ?_)
  refine par_bd (kf_x0_get hU) (fun r2 σ3 h1 => ?_)
  refine par_gd (fun _ => ?_)
  refine par_bd (kf_x0_get h1) (fun r5 σ6 h2 => ?_)
  refine par_bd (kf_x6_nameOf h2) (fun r7 σ8 h3 => ?_)
  refine par_gd (fun _ => ?_)
  refine par_bd (kf_x0_get h3) (fun r10 σ11 h4 => ?_)
  refine par_if (fun _ => ?_) (fun _ => ?_)
  · refine par_bd (kf_x6_choose (kf_I (kf_I h4 (by decide)) (by decide))) (fun r20 σ21 h5 => ?_)
    refine par_if (fun _ => ?_) (fun _ => ?_)
    · exact (kf_x6_work_79 h5)
    · refine par_bd (kf_x6_makeLoop h5) (fun r22 σ23 h6 => ?_)
      exact (kf_x6_work_79 h6)
  · refine par_if (fun _ => ?_) (fun _ => ?_)
    · refine par_bd (kf_x6_nameOf (kf_I (kf_I h4 (by decide)) (by decide))) (fun r16 σ17 h7 => ?_)
      refine par_bd (kf_x6_make h7) (fun r18 σ19 h8 => ?_)
      exact par_some (kf_I h8 (by decide))
    · refine par_if (fun _ => ?_) (fun _ => ?_)
      · exact par_some (kf_I (kf_I (kf_I h4 (by decide)) (by decide)) (by decide))
      · refine par_if (fun _ => ?_) (fun _ => ?_)
        · refine par_bd (kf_x6_fieldOf (kf_I (kf_I h4 (by decide)) (by decide))) (fun r14 σ15 h9 => ?_)
          exact par_some (kf_I h9 (by decide))
        · refine par_if (fun _ => ?_) (fun _ => ?_)
          · refine par_bd (kf_x6_enter (kf_I (kf_I h4 (by decide)) (by decide))) (fun _ σ13 h10 => ?_)
            exact par_some h10
          · exact par_some (kf_I (kf_I h4 (by decide)) (by decide))
theorem kf_x6_step_113 {N : Nat} {s0 : St × St} {σ : St} {t1 : Int32} (hU : Kf s0 σ) : Par (x6_step_113 N σ t1) (fun _ σ' => Kf s0 σ') := by
  unfold x6_step_113
  exact par_some (kf_I hU (by decide))
theorem kf_x6_step {N : Nat} {s0 : St × St} {σ : St} (hU : Kf s0 σ) : Par (x6_step N σ) (fun _ σ' => Kf s0 σ') := by
  unfold x6_step
  refine par_gd (fun _ => ?_)
  refine par_bd (kf_x0_get hU) (fun r2 σ3 h1 => ?_)
  refine par_if (fun _ => ?_) (fun _ => ?_)
  · refine par_gd (fun _ => ?_)
    refine par_bd (kf_x0_get h1) (fun r14 σ15 h2 => ?_)
    exact par_some (kf_I h2 (by decide))
  · refine par_if (fun _ => ?_) (fun _ => ?_)
    · refine par_bd (kf_x6_leave h1) (fun _ σ12 h3 => ?_)
      exact par_some h3
    · refine par_if (fun _ => ?_) (fun _ => ?_)
      · refine par_if (fun _ => ?_) (fun _ => ?_)
        · refine par_bd (kf_x6_holds (kf_I h1 (by decide))) (fun r6 σ7 h4 => ?_)
          refine par_if (fun _ => ?_) (fun _ => ?_)
          · refine par_gd (fun _ => ?_)
            refine par_bd (kf_x0_get h4) (fun r9 σ10 h5 => ?_)
            exact (kf_x6_step_113 h5)
          · exact (kf_x6_step_113 h4)
        · refine par_bd (kf_x6_work (kf_I h1 (by decide))) (fun _ σ5 h6 => ?_)
          exact par_some h6
      · exact par_some (kf_I h1 (by decide))
theorem kf_x6_go_46 {N : Nat} {s0 : St × St} {σ : St} (hU : Kf s0 σ) : Par (x6_go_46 N σ) (fun _ σ' => Kf s0 σ') := by
  unfold x6_go_46
  refine par_if (fun _ => ?_) (fun _ => ?_)
  · exact par_some hU
  · exact par_some hU
theorem kf_x6_go_40 {N : Nat} {s0 : St × St} {σ : St} {x3 : Int32} (hU : Kf s0 σ) {rec8 : St → Int32 → Option (Int32 × St)} (h_rec8 : ∀ (z0 : St) (z1 : Int32), Kf s0 z0 → Par (rec8 z0 z1) (fun _ σ' => Kf s0 σ')) : Par (x6_go_40 N rec8 σ x3) (fun _ σ' => Kf s0 σ') := by
  unfold x6_go_40
  exact (h_rec8 _ _ hU)
theorem kf_x6_go_8_b {N : Nat} {s0 : St × St} {σ : St} {x3 : Int32} (hU : Kf s0 σ) {rec8 : St → Int32 → Option (Int32 × St)} (h_rec8 : ∀ (z0 : St) (z1 : Int32), Kf s0 z0 → Par (rec8 z0 z1) (fun _ σ' => Kf s0 σ')) : Par (x6_go_8_b N rec8 σ x3) (fun _ σ' => Kf s0 σ') := by
  unfold x6_go_8_b
  refine par_if (fun _ => ?_) (fun _ => ?_)
  · exact (kf_x6_go_46 hU)
  · refine par_if (fun _ => ?_) (fun _ => ?_)
    · refine par_if (fun _ => ?_) (fun _ => ?_)
      · refine par_bd (kf_x6_step hU) (fun _ σ4 h1 => ?_)
        exact (kf_x6_go_40 h1 h_rec8)
      · refine par_bd (kf_x6_finish hU) (fun _ σ6 h2 => ?_)
        exact (kf_x6_go_40 h2 h_rec8)
    · exact (kf_x6_go_46 hU)
theorem kf_x6_go_8 {N : Nat} {s0 : St × St} : ∀ (n : Nat) (σ : St) (x3 : Int32), Kf s0 σ → Par (x6_go_8 N  n σ x3) (fun _ σ' => Kf s0 σ') := by
  intro n
  induction n with
  | zero => intro σ x3 _ r σ' e; cases e
  | succ n ih =>
    intro σ x3 hU
    exact kf_x6_go_8_b (N := N) hU (fun z0 z1 hz => ih z0 z1 hz)
theorem kf_x6_go {N : Nat} {s0 : St × St} {σ : St} {a1 : Int32} {a2 : Int32} (hU : Kf s0 σ) : Par (x6_go N σ a1 a2) (fun _ σ' => Kf s0 σ') := by
  unfold x6_go
  refine par_bd (kf_x6_begin hU) (fun _ σ2 h1 => ?_)
  exact (kf_x6_go_8  N _ _ h1)
theorem kf_x7_allows_53 {N : Nat} {s0 : St × St} {σ : St} {x1 : Int32} {x2 : Int32} {t0 : Int32} (hU : Kf s0 σ) {rec32 : St → Int32 → Int32 → Option (Int32 × St)} (h_rec32 : ∀ (z0 : St) (z1 : Int32) (z2 : Int32), Kf s0 z0 → Par (rec32 z0 z1 z2) (fun _ σ' => Kf s0 σ')) : Par (x7_allows_53 N rec32 σ x1 x2 t0) (fun _ σ' => Kf s0 σ') := by
  unfold x7_allows_53
  refine par_bd (kf_x5_at hU) (fun r8 σ9 h1 => ?_)
  refine par_if (fun _ => ?_) (fun _ => ?_)
  · exact par_some h1
  · exact (h_rec32 _ _ _ h1)
theorem kf_x7_allows_32_b {N : Nat} {s0 : St × St} {σ : St} {x1 : Int32} {x2 : Int32} (hU : Kf s0 σ) {rec32 : St → Int32 → Int32 → Option (Int32 × St)} (h_rec32 : ∀ (z0 : St) (z1 : Int32) (z2 : Int32), Kf s0 z0 → Par (rec32 z0 z1 z2) (fun _ σ' => Kf s0 σ')) : Par (x7_allows_32_b N rec32 σ x1 x2) (fun _ σ' => Kf s0 σ') := by
  unfold x7_allows_32_b
  refine par_bd (kf_x7_outers hU) (fun r6 σ7 h1 => ?_)
  refine par_if (fun _ => ?_) (fun _ => ?_)
  · exact par_some h1
  · refine par_if (fun _ => ?_) (fun _ => ?_)
    · exact (kf_x7_allows_53 h1 h_rec32)
    · exact (kf_x7_allows_53 h1 h_rec32)
theorem kf_x7_allows_32 {N : Nat} {s0 : St × St} : ∀ (n : Nat) (σ : St) (x1 : Int32) (x2 : Int32), Kf s0 σ → Par (x7_allows_32 N  n σ x1 x2) (fun _ σ' => Kf s0 σ') := by
  intro n
  induction n with
  | zero => intro σ x1 x2 _ r σ' e; cases e
  | succ n ih =>
    intro σ x1 x2 hU
    exact kf_x7_allows_32_b (N := N) hU (fun z0 z1 z2 hz => ih z0 z1 z2 hz)
theorem kf_x7_allows {N : Nat} {s0 : St × St} {σ : St} {a1 : Int32} (hU : Kf s0 σ) : Par (x7_allows N σ a1) (fun _ σ' => Kf s0 σ') := by
  unfold x7_allows
  refine par_gd (fun _ => ?_)
  refine par_bd (kf_x3_has hU) (fun r2 σ3 h1 => ?_)
  refine par_if (fun _ => ?_) (fun _ => ?_)
  · exact par_some h1
  · refine par_if (fun _ => ?_) (fun _ => ?_)
    · exact par_some h1
    · refine par_bd (kf_x7_outers h1) (fun r4 σ5 h2 => ?_)
      refine par_if (fun _ => ?_) (fun _ => ?_)
      · exact (kf_x7_allows_32  N _ _ _ h2)
      · exact par_some h2
theorem kf_x9_noteFailure {N : Nat} {s0 : St × St} {σ : St} {a1 : Int32} {a2 : Int32} (hU : Kf s0 σ) : Par (x9_noteFailure N σ a1 a2) (fun _ σ' => Kf s0 σ') := by
  unfold x9_noteFailure
  refine par_if (fun _ => ?_) (fun _ => ?_)
  · refine par_bd (kf_x5_at hU) (fun r1 σ2 h1 => ?_)
    refine par_if (fun _ => ?_) (fun _ => ?_)
    · refine par_bd (kf_x5_put h1 (by decide)) (fun _ σ4 h2 => ?_)
      exact par_some (kf_I h2 (by decide))
    · exact par_some h1
  · exact par_some hU
theorem kf_x9_skipTheSame_14_b {N : Nat} {s0 : St × St} {σ : St} {x1 : Int32} {x3 : Int32} (hU : Kf s0 σ) {rec14 : St → Int32 → Int32 → Option (Unit × St)} (h_rec14 : ∀ (z0 : St) (z1 : Int32) (z2 : Int32), Kf s0 z0 → Par (rec14 z0 z1 z2) (fun _ σ' => Kf s0 σ')) : Par (x9_skipTheSame_14_b N rec14 σ x1 x3) (fun _ σ' => Kf s0 σ') := by
  unfold x9_skipTheSame_14_b
  refine par_if (fun _ => ?_) (fun _ => ?_)
  · exact par_some hU
  · refine par_bd (kf_x5_put hU (by decide)) (fun _ σ2 h1 => ?_)
    exact (h_rec14 _ _ _ h1)
theorem kf_x9_skipTheSame_14 {N : Nat} {s0 : St × St} : ∀ (n : Nat) (σ : St) (x1 : Int32) (x3 : Int32), Kf s0 σ → Par (x9_skipTheSame_14 N  n σ x1 x3) (fun _ σ' => Kf s0 σ') := by
  intro n
  induction n with
  | zero => intro σ x1 x3 _ r σ' e; cases e
  | succ n ih =>
    intro σ x1 x3 hU
    exact kf_x9_skipTheSame_14_b (N := N) hU (fun z0 z1 z2 hz => ih z0 z1 z2 hz)
theorem kf_x9_skipTheSame {N : Nat} {s0 : St × St} {σ : St} {a1 : Int32} {a2 : Int32} (hU : Kf s0 σ) : Par (x9_skipTheSame N σ a1 a2) (fun _ σ' => Kf s0 σ') := by
  unfold x9_skipTheSame
  refine par_if (fun _ => ?_) (fun _ => ?_)
  · exact par_some hU
  · exact (kf_x9_skipTheSame_14  N _ _ _ hU)
theorem kf_x9_fill_104 {N : Nat} {s0 : St × St} {σ : St} {x2 : Int32} (hU : Kf s0 σ) {rec31 : St → Int32 → Option (Unit × St)} (h_rec31 : ∀ (z0 : St) (z1 : Int32), Kf s0 z0 → Par (rec31 z0 z1) (fun _ σ' => Kf s0 σ')) : Par (x9_fill_104 N rec31 σ x2) (fun _ σ' => Kf s0 σ') := by
  unfold x9_fill_104
  exact (h_rec31 _ _ hU)
theorem kf_x9_fill_31_b {N : Nat} {s0 : St × St} {σ : St} {x2 : Int32} (hU : Kf s0 σ) {rec31 : St → Int32 → Option (Unit × St)} (h_rec31 : ∀ (z0 : St) (z1 : Int32), Kf s0 z0 → Par (rec31 z0 z1) (fun _ σ' => Kf s0 σ')) : Par (x9_fill_31_b N rec31 σ x2) (fun _ σ' => Kf s0 σ') := by
  unfold x9_fill_31_b
  refine par_if (fun _ => ?_) (fun _ => ?_)
  · exact par_some (kf_I hU (by decide))
  · refine par_if (fun _ => ?_) (fun _ => ?_)
    · exact par_some (kf_I hU (by decide))
    · refine par_bd (kf_x5_at hU) (fun r5 σ6 h1 => ?_)
      refine par_if (fun _ => ?_) (fun _ => ?_)
      · exact (kf_x9_fill_104 h1 h_rec31)
      · refine par_bd (kf_x7_allows h1) (fun r7 σ8 h2 => ?_)
        refine par_if (fun _ => ?_) (fun _ => ?_)
        · exact (kf_x9_fill_104 h2 h_rec31)
        · refine par_bd (kf_x6_go h2) (fun r9 σ10 h3 => ?_)
          refine par_bd (kf_x9_noteFailure h3) (fun _ σ12 h4 => ?_)
          refine par_bd (kf_x9_skipTheSame h4) (fun _ σ14 h5 => ?_)
          exact (kf_x9_fill_104 h5 h_rec31)
theorem kf_x9_fill_31 {N : Nat} {s0 : St × St} : ∀ (n : Nat) (σ : St) (x2 : Int32), Kf s0 σ → Par (x9_fill_31 N  n σ x2) (fun _ σ' => Kf s0 σ') := by
  intro n
  induction n with
  | zero => intro σ x2 _ r σ' e; cases e
  | succ n ih =>
    intro σ x2 hU
    exact kf_x9_fill_31_b (N := N) hU (fun z0 z1 hz => ih z0 z1 hz)
theorem kf_x9_fill {N : Nat} {s0 : St × St} {σ : St} {a1 : Int32} (hU : Kf s0 σ) : Par (x9_fill N σ a1) (fun _ σ' => Kf s0 σ') := by
  unfold x9_fill
  refine par_if (fun _ => ?_) (fun _ => ?_)
  · exact par_some hU
  · refine par_bd (kf_j_fill (kf_I hU (by decide)) (by decide)) (fun _ σ2 h1 => ?_)
    refine par_bd (kf_j_fill h1 (by decide)) (fun _ σ4 h2 => ?_)
    exact (kf_x9_fill_31  N _ _ h2)
theorem kf_x10_tries {N : Nat} {s0 : St × St} {σ : St} {a1 : Int32} (hU : Kf s0 σ) : Par (x10_tries N σ a1) (fun _ σ' => Kf s0 σ') := by
  unfold x10_tries
  refine par_if (fun _ => ?_) (fun _ => ?_)
  · exact par_some hU
  · refine par_gd (fun _ => ?_)
    refine par_if (fun _ => ?_) (fun _ => ?_)
    · refine par_bd (kf_x1_settle hU) (fun _ σ3 h1 => ?_)
      refine par_bd (kf_x1_guardsNeeded h1) (fun r4 σ5 h2 => ?_)
      refine par_bd (kf_x9_fill h2) (fun _ σ7 h3 => ?_)
      refine par_bd (kf_x5_at h3) (fun r8 σ9 h4 => ?_)
      exact par_some h4
    · exact par_some hU
theorem kf_x10_mend {N : Nat} {s0 : St × St} {σ : St} (hU : Kf s0 σ) : Par (x10_mend N σ) (fun _ σ' => Kf s0 σ') := by
  unfold x10_mend
  refine par_gd (fun _ => ?_)
  refine par_if (fun _ => ?_) (fun _ => ?_)
  · exact par_some hU
  · refine par_bd (kf_x2_search hU) (fun _ σ3 h1 => ?_)
    exact par_some h1
