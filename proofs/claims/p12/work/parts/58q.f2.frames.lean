/-! what calls leave: the trials -/
abbrev okA_ky (j : Nat) : Prop := j ≠ 20 ∧ j ≠ 21
theorem ky_r (σ : St) : Ky σ σ := ⟨rfl, rfl, rfl, rfl⟩
theorem ky_I {s0 σ : St} {k : Nat} {v : Int32} (h : Ky s0 σ) (hk : k ≠ 1904 ∧ k ≠ 1905) : Ky s0 (sI σ k v) := ⟨h.1, h.2.1, (gI_ne hk.1).trans h.2.2.1, (gI_ne hk.2).trans h.2.2.2⟩
theorem ky_A {s0 σ : St} {j i : Nat} {v : Int32} (h : Ky s0 σ) (hk : okA_ky j) : Ky s0 (sA σ j i v) := ⟨by rw [gA_sA, if_neg (fun e => hk.1 e.symm)]; exact h.1, by rw [gA_sA, if_neg (fun e => hk.2 e.symm)]; exact h.2.1, h.2.2⟩
theorem ky_P {s0 σ : St} {k : Nat} {v : Nat} (h : Ky s0 σ) (_ : True) : Ky s0 (sP σ k v) := h
theorem ky_L {s0 σ : St} {k : Nat} {v : Int64} (h : Ky s0 σ) (_ : True) : Ky s0 (sL σ k v) := h
theorem ky_Z {s0 σ : St} {j i : Nat} {v : Int64} (h : Ky s0 σ) : Ky s0 (sZ σ j i v) := h
theorem ky_x0_get {N : Nat} {s0 : St} {σ : St} {a0 : Nat} {a1 : Int32} {a2 : Int32} (hU : Ky s0 σ) : Par (x0_get N σ a0 a1 a2) (fun _ σ' => Ky s0 σ') := by
  unfold x0_get
  refine par_if (fun _ => ?_) (fun _ => ?_)
  · exact par_some hU
  · refine par_gd (fun _ => ?_)
    refine par_if (fun _ => ?_) (fun _ => ?_)
    · exact par_some hU
    · refine par_if (fun _ => ?_) (fun _ => ?_)
      · exact par_some hU
      · refine par_if (fun _ => ?_) (fun _ => ?_)
        · exact par_some hU
        · refine par_gd (fun _ => ?_)
          exact par_some hU
theorem ky_x0_arguments {N : Nat} {s0 : St} {σ : St} {a0 : Nat} {a1 : Int32} (hU : Ky s0 σ) : Par (x0_arguments N σ a0 a1) (fun _ σ' => Ky s0 σ') := by
  unfold x0_arguments
  refine par_gd (fun _ => ?_)
  refine par_bd (ky_x0_get hU) (fun r2 σ3 h1 => ?_)
  exact par_some h1
theorem ky_x0_argument {N : Nat} {s0 : St} {σ : St} {a0 : Nat} {a1 : Int32} {a2 : Int32} (hU : Ky s0 σ) : Par (x0_argument N σ a0 a1 a2) (fun _ σ' => Ky s0 σ') := by
  unfold x0_argument
  refine par_gd (fun _ => ?_)
  refine par_bd (ky_x0_get hU) (fun r2 σ3 h1 => ?_)
  exact par_some h1
theorem ky_j_fillL_6_b {N : Nat} {s0 : St} {σ : St} {x0 : Nat} {x1 : Int64} {x3 : Int32} {x4 : Int32} (hU : Ky s0 σ) {rec6 : St → Nat → Int64 → Int32 → Int32 → Option (Unit × St)} (h_rec6 : ∀ (z0 : St) (z1 : Nat) (z2 : Int64) (z3 : Int32) (z4 : Int32), Ky s0 z0 → Par (rec6 z0 z1 z2 z3 z4) (fun _ σ' => Ky s0 σ')) : Par (j_fillL_6_b N rec6 σ x0 x1 x3 x4) (fun _ σ' => Ky s0 σ') := by
  unfold j_fillL_6_b
  refine par_if (fun _ => ?_) (fun _ => ?_)
  · exact par_some hU
  · refine par_gd (fun _ => ?_)
    refine par_gd (fun _ => ?_)
    exact (h_rec6 _ _ _ _ _ (ky_Z hU))
theorem ky_j_fillL_6 {N : Nat} {s0 : St} : ∀ (n : Nat) (σ : St) (x0 : Nat) (x1 : Int64) (x3 : Int32) (x4 : Int32), Ky s0 σ → Par (j_fillL_6 N  n σ x0 x1 x3 x4) (fun _ σ' => Ky s0 σ') := by
  intro n
  induction n with
  | zero => intro σ x0 x1 x3 x4 _ r σ' e; cases e
  | succ n ih =>
    intro σ x0 x1 x3 x4 hU
    exact ky_j_fillL_6_b (N := N) hU (fun z0 z1 z2 z3 z4 hz => ih z0 z1 z2 z3 z4 hz)
theorem ky_j_fillL {N : Nat} {s0 : St} {σ : St} {a1 : Nat} {a2 : Int64} (hU : Ky s0 σ) : Par (j_fillL N σ a1 a2) (fun _ σ' => Ky s0 σ') := by
  unfold j_fillL
  refine par_gd (fun _ => ?_)
  exact (ky_j_fillL_6  N _ _ _ _ _ hU)
theorem ky_j_fill {N : Nat} {s0 : St} {σ : St} {a1 : Nat} {a2 : Int32} (hU : Ky s0 σ) (h_row : okA_ky a1) : Par (j_fill N σ a1 a2) (fun _ σ' => Ky s0 σ') := by
  have h20 : a1 ≠ 20 := h_row.1
  have h21 : a1 ≠ 21 := h_row.2
  unfold j_fill
  exact par_gd (fun _ => (fill_fr N _ _ _).mono (fun _ σ' z => ⟨(z.2.1 20 (fun e => by omega)).trans hU.1, (z.2.1 21 (fun e => by omega)).trans hU.2.1, (z.1 1904).trans hU.2.2.1, (z.1 1905).trans hU.2.2.2⟩))
theorem ky_x1_clear {N : Nat} {s0 : St} {σ : St} (hU : Ky s0 σ) : Par (x1_clear N σ) (fun _ σ' => Ky s0 σ') := by
  unfold x1_clear
  refine par_gd (fun _ => ?_)
  refine par_bd (ky_j_fillL (ky_I (ky_I (ky_P (ky_P hU (by decide)) (by decide)) (by decide)) (by decide))) (fun _ σ3 h1 => ?_)
  refine par_bd (ky_j_fill h1 (by decide)) (fun _ σ5 h2 => ?_)
  refine par_bd (ky_j_fill h2 (by decide)) (fun _ σ7 h3 => ?_)
  refine par_bd (ky_j_fill h3 (by decide)) (fun _ σ9 h4 => ?_)
  refine par_bd (ky_j_fill h4 (by decide)) (fun _ σ11 h5 => ?_)
  exact par_some h5
theorem ky_x3_has {N : Nat} {s0 : St} {σ : St} {a0 : Nat} {a1 : Int32} (hU : Ky s0 σ) : Par (x3_has N σ a0 a1) (fun _ σ' => Ky s0 σ') := by
  unfold x3_has
  refine par_if (fun _ => ?_) (fun _ => ?_)
  · exact par_some hU
  · refine par_if (fun _ => ?_) (fun _ => ?_)
    · exact par_some hU
    · refine par_gd (fun _ => ?_)
      refine par_if (fun _ => ?_) (fun _ => ?_)
      · exact par_some hU
      · exact par_some hU
theorem ky_x5_at {N : Nat} {s0 : St} {σ : St} {a1 : Nat} {a2 : Int32} (hU : Ky s0 σ) : Par (x5_at N σ a1 a2) (fun _ σ' => Ky s0 σ') := by
  unfold x5_at
  refine par_if (fun _ => ?_) (fun _ => ?_)
  · exact par_some hU
  · refine par_gd (fun _ => ?_)
    refine par_if (fun _ => ?_) (fun _ => ?_)
    · exact par_some hU
    · refine par_gd (fun _ => ?_)
      exact par_some hU
theorem ky_x7_outers_33 {N : Nat} {s0 : St} {σ : St} {t0 : Int32} {t1 : Int32} (hU : Ky s0 σ) : Par (x7_outers_33 N σ t0 t1) (fun _ σ' => Ky s0 σ') := by
  unfold x7_outers_33
  exact par_some hU
theorem ky_x7_outers {N : Nat} {s0 : St} {σ : St} (hU : Ky s0 σ) : Par (x7_outers N σ) (fun _ σ' => Ky s0 σ') := by
  unfold x7_outers
  refine par_gd (fun _ => ?_)
  refine par_bd (ky_x5_at hU) (fun r2 σ3 h1 => ?_)
  refine par_gd (fun _ => ?_)
  refine par_bd (ky_x3_has h1) (fun r5 σ6 h2 => ?_)
  refine par_if (fun _ => ?_) (fun _ => ?_)
  · exact (ky_x7_outers_33 h2)
  · exact (ky_x7_outers_33 h2)
theorem ky_x5_put {N : Nat} {s0 : St} {σ : St} {a1 : Nat} {a2 : Int32} {a3 : Int32} (hU : Ky s0 σ) (h_row : okA_ky a1) : Par (x5_put N σ a1 a2 a3) (fun _ σ' => Ky s0 σ') := by
  unfold x5_put
  refine par_if (fun _ => ?_) (fun _ => ?_)
  · exact par_some hU
  · refine par_gd (fun _ => ?_)
    refine par_if (fun _ => ?_) (fun _ => ?_)
    · exact par_some hU
    · refine par_gd (fun _ => ?_)
      exact par_some (ky_A hU h_row)
theorem ky_x1_raise_20 {N : Nat} {s0 : St} {σ : St} {x1 : Int32} {t0 : Int32} (hU : Ky s0 σ) : Par (x1_raise_20 N σ x1 t0) (fun _ σ' => Ky s0 σ') := by
  unfold x1_raise_20
  refine par_bd (ky_x5_at hU) (fun r1 σ2 h1 => ?_)
  refine par_if (fun _ => ?_) (fun _ => ?_)
  · exact par_some h1
  · refine par_bd (ky_x5_put h1 (by decide)) (fun _ σ4 h2 => ?_)
    exact par_some (ky_I (ky_I h2 (by decide)) (by decide))
theorem ky_x1_raise {N : Nat} {s0 : St} {σ : St} {a1 : Int32} {a2 : Int32} (hU : Ky s0 σ) : Par (x1_raise N σ a1 a2) (fun _ σ' => Ky s0 σ') := by
  unfold x1_raise
  refine par_if (fun _ => ?_) (fun _ => ?_)
  · exact (ky_x1_raise_20 hU)
  · exact (ky_x1_raise_20 hU)
theorem ky_x1_reachEntry_33_b {N : Nat} {s0 : St} {σ : St} {x1 : Int32} (hU : Ky s0 σ) {rec33 : St → Int32 → Option (Unit × St)} (h_rec33 : ∀ (z0 : St) (z1 : Int32), Ky s0 z0 → Par (rec33 z0 z1) (fun _ σ' => Ky s0 σ')) : Par (x1_reachEntry_33_b N rec33 σ x1) (fun _ σ' => Ky s0 σ') := by
  unfold x1_reachEntry_33_b
  refine par_bd (ky_x7_outers hU) (fun r4 σ5 h1 => ?_)
  refine par_if (fun _ => ?_) (fun _ => ?_)
  · exact par_some h1
  · refine par_bd (ky_x5_at h1) (fun r6 σ7 h2 => ?_)
    refine par_bd (ky_x1_raise h2) (fun _ σ9 h3 => ?_)
    refine par_bd (ky_x1_raise h3) (fun _ σ11 h4 => ?_)
    refine par_bd (ky_x1_raise h4) (fun _ σ13 h5 => ?_)
    exact (h_rec33 _ _ h5)
theorem ky_x1_reachEntry_33 {N : Nat} {s0 : St} : ∀ (n : Nat) (σ : St) (x1 : Int32), Ky s0 σ → Par (x1_reachEntry_33 N  n σ x1) (fun _ σ' => Ky s0 σ') := by
  intro n
  induction n with
  | zero => intro σ x1 _ r σ' e; cases e
  | succ n ih =>
    intro σ x1 hU
    exact ky_x1_reachEntry_33_b (N := N) hU (fun z0 z1 hz => ih z0 z1 hz)
theorem ky_x1_reachEntry {N : Nat} {s0 : St} {σ : St} (hU : Ky s0 σ) : Par (x1_reachEntry N σ) (fun _ σ' => Ky s0 σ') := by
  unfold x1_reachEntry
  refine par_gd (fun _ => ?_)
  refine par_bd (ky_x3_has hU) (fun r2 σ3 h1 => ?_)
  refine par_if (fun _ => ?_) (fun _ => ?_)
  · exact par_some h1
  · exact (ky_x1_reachEntry_33  N _ _ (ky_I h1 (by decide)))
theorem ky_x3_parameter {N : Nat} {s0 : St} {σ : St} {a0 : Nat} {a1 : Int32} {a2 : Int32} (hU : Ky s0 σ) : Par (x3_parameter N σ a0 a1 a2) (fun _ σ' => Ky s0 σ') := by
  unfold x3_parameter
  refine par_gd (fun _ => ?_)
  refine par_bd (ky_x5_at hU) (fun r2 σ3 h1 => ?_)
  exact par_some h1
theorem ky_x1_with_47 {N : Nat} {s0 : St} {σ : St} {x2 : Int32} {x3 : Int32} {x4 : Int64} {t0 : Int64} (hU : Ky s0 σ) : Par (x1_with_47 N σ x2 x3 x4 t0) (fun _ σ' => Ky s0 σ') := by
  unfold x1_with_47
  refine par_if (fun _ => ?_) (fun _ => ?_)
  · exact par_some hU
  · exact par_some hU
theorem ky_x1_with {N : Nat} {s0 : St} {σ : St} {a1 : Int64} {a2 : Int32} {a3 : Int32} (hU : Ky s0 σ) : Par (x1_with N σ a1 a2 a3) (fun _ σ' => Ky s0 σ') := by
  unfold x1_with
  refine par_if (fun _ => ?_) (fun _ => ?_)
  · exact par_some hU
  · refine par_if (fun _ => ?_) (fun _ => ?_)
    · exact par_some hU
    · refine par_if (fun _ => ?_) (fun _ => ?_)
      · exact (ky_x1_with_47 hU)
      · exact (ky_x1_with_47 hU)
theorem ky_x1_join {N : Nat} {s0 : St} {σ : St} {a1 : Int32} {a2 : Int64} (hU : Ky s0 σ) : Par (x1_join N σ a1 a2) (fun _ σ' => Ky s0 σ') := by
  unfold x1_join
  refine par_if (fun _ => ?_) (fun _ => ?_)
  · exact par_some hU
  · refine par_if (fun _ => ?_) (fun _ => ?_)
    · exact par_some hU
    · refine par_gd (fun _ => ?_)
      refine par_gd (fun _ => ?_)
      refine par_if (fun _ => ?_) (fun _ => ?_)
      · exact par_some hU
      · refine par_gd (fun _ => ?_)
        refine par_gd (fun _ => ?_)
        refine par_bd (ky_x5_put (ky_Z hU) (by decide)) (fun _ σ2 h1 => ?_)
        exact par_some (ky_I h1 (by decide))
theorem ky_x1_openRoutines_96 {N : Nat} {s0 : St} {σ : St} {x1 : Int32} (hU : Ky s0 σ) {rec2 : St → Int32 → Option (Unit × St)} (h_rec2 : ∀ (z0 : St) (z1 : Int32), Ky s0 z0 → Par (rec2 z0 z1) (fun _ σ' => Ky s0 σ')) : Par (x1_openRoutines_96 N rec2 σ x1) (fun _ σ' => Ky s0 σ') := by
  unfold x1_openRoutines_96
  exact (h_rec2 _ _ hU)
theorem ky_x1_openRoutines_80 {N : Nat} {s0 : St} {σ : St} {x1 : Int32} {x2 : Int64} (hU : Ky s0 σ) {rec2 : St → Int32 → Option (Unit × St)} (h_rec2 : ∀ (z0 : St) (z1 : Int32), Ky s0 z0 → Par (rec2 z0 z1) (fun _ σ' => Ky s0 σ')) : Par (x1_openRoutines_80 N rec2 σ x1 x2) (fun _ σ' => Ky s0 σ') := by
  unfold x1_openRoutines_80
  refine par_gd (fun _ => ?_)
  refine par_bd (ky_x5_at hU) (fun r5 σ6 h1 => ?_)
  refine par_bd (ky_x1_join h1) (fun _ σ8 h2 => ?_)
  exact (ky_x1_openRoutines_96 h2 h_rec2)
theorem ky_x1_openRoutines_26_b {N : Nat} {s0 : St} {σ : St} {x1 : Int32} {x2 : Int64} {x4 : Int32} (hU : Ky s0 σ) {rec2 : St → Int32 → Option (Unit × St)} (h_rec2 : ∀ (z0 : St) (z1 : Int32), Ky s0 z0 → Par (rec2 z0 z1) (fun _ σ' => Ky s0 σ')) {rec26 : St → Int32 → Int64 → Int32 → Option (Unit × St)} (h_rec26 : ∀ (z0 : St) (z1 : Int32) (z2 : Int64) (z3 : Int32), Ky s0 z0 → Par (rec26 z0 z1 z2 z3) (fun _ σ' => Ky s0 σ')) : Par (x1_openRoutines_26_b N rec2 rec26 σ x1 x2 x4) (fun _ σ' => Ky s0 σ') := by
  unfold x1_openRoutines_26_b
  refine par_gd (fun _ => ?_)
  refine par_bd (ky_x5_at hU) (fun r2 σ3 h1 => ?_)
  refine par_if (fun _ => ?_) (fun _ => ?_)
  · exact (ky_x1_openRoutines_80 h1 h_rec2)
  · refine par_bd (ky_x5_at h1) (fun r9 σ10 h2 => ?_)
    refine par_gd (fun _ => ?_)
    refine par_bd (ky_x3_parameter h2) (fun r12 σ13 h3 => ?_)
    refine par_bd (ky_x1_with h3) (fun r14 σ15 h4 => ?_)
    exact (h_rec26 _ _ _ _ h4)
theorem ky_x1_openRoutines_26 {N : Nat} {s0 : St} {rec2 : St → Int32 → Option (Unit × St)} (h_rec2 : ∀ (z0 : St) (z1 : Int32), Ky s0 z0 → Par (rec2 z0 z1) (fun _ σ' => Ky s0 σ')) : ∀ (n : Nat) (σ : St) (x1 : Int32) (x2 : Int64) (x4 : Int32), Ky s0 σ → Par (x1_openRoutines_26 N rec2 n σ x1 x2 x4) (fun _ σ' => Ky s0 σ') := by
  intro n
  induction n with
  | zero => intro σ x1 x2 x4 _ r σ' e; cases e
  | succ n ih =>
    intro σ x1 x2 x4 hU
    exact ky_x1_openRoutines_26_b (N := N) hU h_rec2 (fun z0 z1 z2 z3 hz => ih z0 z1 z2 z3 hz)
theorem ky_x1_openRoutines_2_b {N : Nat} {s0 : St} {σ : St} {x1 : Int32} (hU : Ky s0 σ) {rec2 : St → Int32 → Option (Unit × St)} (h_rec2 : ∀ (z0 : St) (z1 : Int32), Ky s0 z0 → Par (rec2 z0 z1) (fun _ σ' => Ky s0 σ')) : Par (x1_openRoutines_2_b N rec2 σ x1) (fun _ σ' => Ky s0 σ') := by
  unfold x1_openRoutines_2_b
  refine par_if (fun _ => ?_) (fun _ => ?_)
  · exact par_some hU
  · refine par_if (fun _ => ?_) (fun _ => ?_)
    · exact (ky_x1_openRoutines_96 hU h_rec2)
    · exact (ky_x1_openRoutines_26 h_rec2 N _ _ _ _ hU)
theorem ky_x1_openRoutines_2 {N : Nat} {s0 : St} : ∀ (n : Nat) (σ : St) (x1 : Int32), Ky s0 σ → Par (x1_openRoutines_2 N  n σ x1) (fun _ σ' => Ky s0 σ') := by
  intro n
  induction n with
  | zero => intro σ x1 _ r σ' e; cases e
  | succ n ih =>
    intro σ x1 hU
    exact ky_x1_openRoutines_2_b (N := N) hU (fun z0 z1 hz => ih z0 z1 hz)
theorem ky_x1_openRoutines {N : Nat} {s0 : St} {σ : St} (hU : Ky s0 σ) : Par (x1_openRoutines N σ) (fun _ σ' => Ky s0 σ') := by
  unfold x1_openRoutines
  exact (ky_x1_openRoutines_2  N _ _ hU)
theorem ky_x1_factOf {N : Nat} {s0 : St} {σ : St} {a1 : Int64} {a2 : Int32} (hU : Ky s0 σ) : Par (x1_factOf N σ a1 a2) (fun _ σ' => Ky s0 σ') := by
  unfold x1_factOf
  exact par_some hU
theorem ky_x1_narrow {N : Nat} {s0 : St} {σ : St} {a1 : Int64} {a2 : Int32} {a3 : Int32} (hU : Ky s0 σ) : Par (x1_narrow N σ a1 a2 a3) (fun _ σ' => Ky s0 σ') := by
  unfold x1_narrow
  refine par_bd (ky_x1_factOf hU) (fun r1 σ2 h1 => ?_)
  refine par_bd (ky_x1_with h1) (fun r3 σ4 h2 => ?_)
  exact par_some h2
theorem ky_x1_fork_94 {N : Nat} {s0 : St} {σ : St} {x1 : Int32} {x6 : Int64} {x8 : Int64} {t0 : Int32} {t1 : Int32} (hU : Ky s0 σ) : Par (x1_fork_94 N σ x1 x6 x8 t0 t1) (fun _ σ' => Ky s0 σ') := by
  unfold x1_fork_94
  refine par_gd (fun _ => ?_)
  refine par_bd (ky_x0_get hU) (fun r8 σ9 h1 => ?_)
  refine par_bd (ky_x5_at h1) (fun r10 σ11 h2 => ?_)
  refine par_bd (ky_x5_put h2 (by decide)) (fun _ σ13 h3 => ?_)
  refine par_bd (ky_x1_join h3) (fun _ σ15 h4 => ?_)
  refine par_gd (fun _ => ?_)
  refine par_bd (ky_x0_get h4) (fun r17 σ18 h5 => ?_)
  refine par_bd (ky_x1_join h5) (fun _ σ20 h6 => ?_)
  exact par_some h6
theorem ky_x1_fork_82 {N : Nat} {s0 : St} {σ : St} {x1 : Int32} {x6 : Int64} {x8 : Int64} {t0 : Int32} (hU : Ky s0 σ) : Par (x1_fork_82 N σ x1 x6 x8 t0) (fun _ σ' => Ky s0 σ') := by
  unfold x1_fork_82
  refine par_if (fun _ => ?_) (fun _ => ?_)
  · exact (ky_x1_fork_94 hU)
  · exact (ky_x1_fork_94 hU)
theorem ky_x1_fork_70 {N : Nat} {s0 : St} {σ : St} {x1 : Int32} {x6 : Int64} {x8 : Int64} (hU : Ky s0 σ) : Par (x1_fork_70 N σ x1 x6 x8) (fun _ σ' => Ky s0 σ') := by
  unfold x1_fork_70
  refine par_if (fun _ => ?_) (fun _ => ?_)
  · exact (ky_x1_fork_82 hU)
  · exact (ky_x1_fork_82 hU)
theorem ky_x1_fork_46 {N : Nat} {s0 : St} {σ : St} {x1 : Int32} {x2 : Int64} {x5 : Int32} {t0 : Int32} (hU : Ky s0 σ) : Par (x1_fork_46 N σ x1 x2 x5 t0) (fun _ σ' => Ky s0 σ') := by
  unfold x1_fork_46
  refine par_bd (ky_x1_narrow hU) (fun r21 σ22 h1 => ?_)
  refine par_bd (ky_x1_narrow h1) (fun r23 σ24 h2 => ?_)
  exact (ky_x1_fork_70 h2)
theorem ky_x1_fork {N : Nat} {s0 : St} {σ : St} {a1 : Int32} {a2 : Int64} (hU : Ky s0 σ) : Par (x1_fork N σ a1 a2) (fun _ σ' => Ky s0 σ') := by
  unfold x1_fork
  refine par_gd (fun _ => ?_)
  refine par_bd (ky_x0_get hU) (fun r2 σ3 h1 => ?_)
  refine par_gd (fun _ => ?_)
  refine par_bd (ky_x0_get h1) (fun r5 σ6 h2 => ?_)
  refine par_if (fun _ => ?_) (fun _ => ?_)
  · exact (ky_x1_fork_70 h2)
  · refine par_if (fun _ => ?_) (fun _ => ?_)
    · exact (ky_x1_fork_46 h2)
    · exact (ky_x1_fork_46 h2)
theorem ky_x1_noteUse {N : Nat} {s0 : St} {σ : St} {a1 : Int32} {a2 : Int32} (hU : Ky s0 σ) : Par (x1_noteUse N σ a1 a2) (fun _ σ' => Ky s0 σ') := by
  unfold x1_noteUse
  refine par_bd (ky_x5_at hU) (fun r1 σ2 h1 => ?_)
  refine par_bd (ky_x5_put h1 (by decide)) (fun _ σ4 h2 => ?_)
  exact par_some h2
theorem ky_x1_workCall_77 {N : Nat} {s0 : St} {σ : St} {x4 : Int32} (hU : Ky s0 σ) : Par (x1_workCall_77 N σ x4) (fun _ σ' => Ky s0 σ') := by
  unfold x1_workCall_77
  refine par_bd (ky_x5_at hU) (fun r4 σ5 h1 => ?_)
  refine par_if (fun _ => ?_) (fun _ => ?_)
  · exact par_some (ky_L h1 (by decide))
  · exact par_some h1
theorem ky_x1_workCall_33_b {N : Nat} {s0 : St} {σ : St} {x1 : Int32} {x2 : Int64} {x4 : Int32} {x5 : Int32} (hU : Ky s0 σ) {rec33 : St → Int32 → Int64 → Int32 → Int32 → Option (Int32 × St)} (h_rec33 : ∀ (z0 : St) (z1 : Int32) (z2 : Int64) (z3 : Int32) (z4 : Int32), Ky s0 z0 → Par (rec33 z0 z1 z2 z3 z4) (fun _ σ' => Ky s0 σ')) : Par (x1_workCall_33_b N rec33 σ x1 x2 x4 x5) (fun _ σ' => Ky s0 σ') := by
  unfold x1_workCall_33_b
  refine par_gd (fun _ => ?_)
  refine par_bd (ky_x0_arguments hU) (fun r2 σ3 h1 => ?_)
  refine par_if (fun _ => ?_) (fun _ => ?_)
  · exact (ky_x1_workCall_77 h1)
  · refine par_gd (fun _ => ?_)
    refine par_bd (ky_x0_argument h1) (fun r7 σ8 h2 => ?_)
    refine par_bd (ky_x1_factOf h2) (fun r9 σ10 h3 => ?_)
    refine par_bd (ky_x1_raise h3) (fun _ σ12 h4 => ?_)
    exact (h_rec33 _ _ _ _ _ h4)
theorem ky_x1_workCall_33 {N : Nat} {s0 : St} : ∀ (n : Nat) (σ : St) (x1 : Int32) (x2 : Int64) (x4 : Int32) (x5 : Int32), Ky s0 σ → Par (x1_workCall_33 N  n σ x1 x2 x4 x5) (fun _ σ' => Ky s0 σ') := by
  intro n
  induction n with
  | zero => intro σ x1 x2 x4 x5 _ r σ' e; cases e
  | succ n ih =>
    intro σ x1 x2 x4 x5 hU
    exact ky_x1_workCall_33_b (N := N) hU (fun z0 z1 z2 z3 z4 hz => ih z0 z1 z2 z3 z4 hz)
theorem ky_x1_workCall {N : Nat} {s0 : St} {σ : St} {a1 : Int32} {a2 : Int64} {a3 : Int32} (hU : Ky s0 σ) : Par (x1_workCall N σ a1 a2 a3) (fun _ σ' => Ky s0 σ') := by
  unfold x1_workCall
  refine par_if (fun _ => ?_) (fun _ => ?_)
  · exact (ky_x1_workCall_33  N _ _ _ _ _ (ky_I (ky_I hU (by decide)) (by decide)))
  · exact (ky_x1_workCall_33  N _ _ _ _ _ hU)
theorem ky_x1_work {N : Nat} {s0 : St} {σ : St} {a1 : Int32} {a2 : Int64} (hU : Ky s0 σ) : Par (x1_work N σ a1 a2) (fun _ σ' => Ky s0 σ') := by
  unfold x1_work
  refine par_gd (fun _ => ?_)
  refine par_bd (ky_x0_get hU) (fun r2 σ3 h1 => ?_)
  refine par_gd (fun _ => ?_)
  refine par_bd (ky_x0_get h1) (fun r5 σ6 h2 => ?_)
  refine par_gd (fun _ => ?_)
  refine par_bd (ky_x0_get (ky_L h2 (by decide))) (fun r8 σ9 h3 => ?_)
  refine par_if (fun _ => ?_) (fun _ => ?_)
  · refine par_bd (ky_x1_raise h3) (fun _ σ12 h4 => ?_)
    refine par_bd (ky_x1_raise h4) (fun _ σ14 h5 => ?_)
    exact par_some h5
  · refine par_if (fun _ => ?_) (fun _ => ?_)
    · refine par_bd (ky_x1_factOf h3) (fun r16 σ17 h6 => ?_)
      refine par_bd (ky_x1_raise h6) (fun _ σ19 h7 => ?_)
      refine par_bd (ky_x1_factOf h7) (fun r20 σ21 h8 => ?_)
      refine par_bd (ky_x1_raise h8) (fun _ σ23 h9 => ?_)
      exact par_some h9
    · refine par_if (fun _ => ?_) (fun _ => ?_)
      · refine par_bd (ky_x1_factOf h3) (fun r25 σ26 h10 => ?_)
        exact par_some h10
      · refine par_if (fun _ => ?_) (fun _ => ?_)
        · refine par_gd (fun _ => ?_)
          refine par_bd (ky_x0_get h3) (fun r29 σ30 h11 => ?_)
          refine par_bd (ky_x1_factOf h11) (fun r31 σ32 h12 => ?_)
          refine par_bd (ky_x1_noteUse h12) (fun _ σ34 h13 => ?_)
          refine par_bd (ky_x1_narrow h13) (fun r35 σ36 h14 => ?_)
          refine par_bd (ky_x5_at (ky_L h14 (by decide))) (fun r37 σ38 h15 => ?_)
          exact par_some h15
        · refine par_if (fun _ => ?_) (fun _ => ?_)
          · refine par_bd (ky_x1_workCall h3) (fun r40 σ41 h16 => ?_)
            exact par_some h16
          · exact par_some h3
theorem ky_x1_finish {N : Nat} {s0 : St} {σ : St} {a1 : Int32} {a2 : Int32} {a3 : Int32} (hU : Ky s0 σ) : Par (x1_finish N σ a1 a2 a3) (fun _ σ' => Ky s0 σ') := by
  unfold x1_finish
  refine par_gd (fun _ => ?_)
  refine par_bd (ky_x0_get hU) (fun r2 σ3 h1 => ?_)
  refine par_if (fun _ => ?_) (fun _ => ?_)
  · refine par_bd (ky_x1_with h1) (fun r27 σ28 h2 => ?_)
    refine par_bd (ky_x1_join h2) (fun _ σ30 h3 => ?_)
    exact par_some h3
  · refine par_if (fun _ => ?_) (fun _ => ?_)
    · refine par_gd (fun _ => ?_)
      refine par_bd (ky_x0_get h1) (fun r12 σ13 h4 => ?_)
      refine par_bd (ky_x1_factOf h4) (fun r14 σ15 h5 => ?_)
      refine par_bd (ky_x1_noteUse h5) (fun _ σ17 h6 => ?_)
      refine par_bd (ky_x1_narrow h6) (fun r18 σ19 h7 => ?_)
      refine par_if (fun _ => ?_) (fun _ => ?_)
      · exact par_some (ky_L h7 (by decide))
      · refine par_gd (fun _ => ?_)
        refine par_bd (ky_x0_get (ky_L h7 (by decide))) (fun r21 σ22 h8 => ?_)
        refine par_bd (ky_x1_raise h8) (fun _ σ24 h9 => ?_)
        refine par_bd (ky_x1_join h9) (fun _ σ26 h10 => ?_)
        exact par_some h10
    · refine par_if (fun _ => ?_) (fun _ => ?_)
      · refine par_gd (fun _ => ?_)
        refine par_bd (ky_x0_get h1) (fun r7 σ8 h11 => ?_)
        refine par_bd (ky_x1_raise h11) (fun _ σ10 h12 => ?_)
        exact par_some h12
      · refine par_bd (ky_x1_join h1) (fun _ σ5 h13 => ?_)
        exact par_some h13
theorem ky_x1_advance {N : Nat} {s0 : St} {σ : St} {a1 : Int32} {a2 : Int64} (hU : Ky s0 σ) : Par (x1_advance N σ a1 a2) (fun _ σ' => Ky s0 σ') := by
  unfold x1_advance
  refine par_gd (fun _ => ?_)
  refine par_bd (ky_x0_get hU) (fun r2 σ3 h1 => ?_)
  refine par_if (fun _ => ?_) (fun _ => ?_)
  · refine par_gd (fun _ => ?_)
    refine par_bd (ky_x0_get h1) (fun r16 σ17 h2 => ?_)
    refine par_bd (ky_x1_join h2) (fun _ σ19 h3 => ?_)
    exact par_some h3
  · refine par_if (fun _ => ?_) (fun _ => ?_)
    · refine par_gd (fun _ => ?_)
      refine par_bd (ky_x0_get h1) (fun r11 σ12 h4 => ?_)
      refine par_bd (ky_x1_raise h4) (fun _ σ14 h5 => ?_)
      exact par_some h5
    · refine par_if (fun _ => ?_) (fun _ => ?_)
      · refine par_bd (ky_x1_fork h1) (fun _ σ9 h6 => ?_)
        exact par_some h6
      · refine par_bd (ky_x1_work h1) (fun r4 σ5 h7 => ?_)
        refine par_if (fun _ => ?_) (fun _ => ?_)
        · exact par_some h7
        · refine par_bd (ky_x1_finish h7) (fun _ σ7 h8 => ?_)
          exact par_some h8
theorem ky_x1_settle_145 {N : Nat} {s0 : St} {σ : St} {x3 : Int32} (hU : Ky s0 σ) {rec37 : St → Int32 → Option (Unit × St)} (h_rec37 : ∀ (z0 : St) (z1 : Int32), Ky s0 z0 → Par (rec37 z0 z1) (fun _ σ' => Ky s0 σ')) : Par (x1_settle_145 N rec37 σ x3) (fun _ σ' => Ky s0 σ') := by
  unfold x1_settle_145
  exact (h_rec37 _ _ hU)
theorem ky_x1_settle_139 {N : Nat} {s0 : St} {σ : St} {x3 : Int32} {x4 : Int32} (hU : Ky s0 σ) {rec37 : St → Int32 → Option (Unit × St)} (h_rec37 : ∀ (z0 : St) (z1 : Int32), Ky s0 z0 → Par (rec37 z0 z1) (fun _ σ' => Ky s0 σ')) {rec63 : St → Int32 → Int32 → Option (Unit × St)} (h_rec63 : ∀ (z0 : St) (z1 : Int32) (z2 : Int32), Ky s0 z0 → Par (rec63 z0 z1 z2) (fun _ σ' => Ky s0 σ')) : Par (x1_settle_139 N rec37 rec63 σ x3 x4) (fun _ σ' => Ky s0 σ') := by
  unfold x1_settle_139
  exact (h_rec63 _ _ _ hU)
theorem ky_x1_settle_63_b {N : Nat} {s0 : St} {σ : St} {x3 : Int32} {x4 : Int32} (hU : Ky s0 σ) {rec37 : St → Int32 → Option (Unit × St)} (h_rec37 : ∀ (z0 : St) (z1 : Int32), Ky s0 z0 → Par (rec37 z0 z1) (fun _ σ' => Ky s0 σ')) {rec63 : St → Int32 → Int32 → Option (Unit × St)} (h_rec63 : ∀ (z0 : St) (z1 : Int32) (z2 : Int32), Ky s0 z0 → Par (rec63 z0 z1 z2) (fun _ σ' => Ky s0 σ')) : Par (x1_settle_63_b N rec37 rec63 σ x3 x4) (fun _ σ' => Ky s0 σ') := by
  unfold x1_settle_63_b
  refine par_gd (fun _ => ?_)
  refine par_if (fun _ => ?_) (fun _ => ?_)
  · exact (ky_x1_settle_145 hU h_rec37)
  · refine par_if (fun _ => ?_) (fun _ => ?_)
    · exact (ky_x1_settle_145 hU h_rec37)
    · refine par_gd (fun _ => ?_)
      refine par_if (fun _ => ?_) (fun _ => ?_)
      · exact (ky_x1_settle_139 hU h_rec37 h_rec63)
      · refine par_bd (ky_x5_at hU) (fun r8 σ9 h1 => ?_)
        refine par_if (fun _ => ?_) (fun _ => ?_)
        · exact (ky_x1_settle_139 h1 h_rec37 h_rec63)
        · refine par_bd (ky_x5_put h1 (by decide)) (fun _ σ11 h2 => ?_)
          refine par_gd (fun _ => ?_)
          refine par_bd (ky_x1_advance h2) (fun _ σ13 h3 => ?_)
          exact (ky_x1_settle_139 h3 h_rec37 h_rec63)
theorem ky_x1_settle_63 {N : Nat} {s0 : St} {rec37 : St → Int32 → Option (Unit × St)} (h_rec37 : ∀ (z0 : St) (z1 : Int32), Ky s0 z0 → Par (rec37 z0 z1) (fun _ σ' => Ky s0 σ')) : ∀ (n : Nat) (σ : St) (x3 : Int32) (x4 : Int32), Ky s0 σ → Par (x1_settle_63 N rec37 n σ x3 x4) (fun _ σ' => Ky s0 σ') := by
  intro n
  induction n with
  | zero => intro σ x3 x4 _ r σ' e; cases e
  | succ n ih =>
    intro σ x3 x4 hU
    exact ky_x1_settle_63_b (N := N) hU h_rec37 (fun z0 z1 z2 hz => ih z0 z1 z2 hz)
theorem ky_x1_settle_37_b {N : Nat} {s0 : St} {σ : St} {x3 : Int32} (hU : Ky s0 σ) {rec37 : St → Int32 → Option (Unit × St)} (h_rec37 : ∀ (z0 : St) (z1 : Int32), Ky s0 z0 → Par (rec37 z0 z1) (fun _ σ' => Ky s0 σ')) : Par (x1_settle_37_b N rec37 σ x3) (fun _ σ' => Ky s0 σ') := by
  unfold x1_settle_37_b
  refine par_if (fun _ => ?_) (fun _ => ?_)
  · exact par_some (ky_I hU (by decide))
  · refine par_if (fun _ => ?_) (fun _ => ?_)
    · exact par_some (ky_I hU (by decide))
    · refine par_bd (ky_x1_openRoutines (ky_I hU (by decide))) (fun _ σ6 h1 => ?_)
      exact (ky_x1_settle_63 h_rec37 N _ _ _ h1)
theorem ky_x1_settle_37 {N : Nat} {s0 : St} : ∀ (n : Nat) (σ : St) (x3 : Int32), Ky s0 σ → Par (x1_settle_37 N  n σ x3) (fun _ σ' => Ky s0 σ') := by
  intro n
  induction n with
  | zero => intro σ x3 _ r σ' e; cases e
  | succ n ih =>
    intro σ x3 hU
    exact ky_x1_settle_37_b (N := N) hU (fun z0 z1 hz => ih z0 z1 hz)
theorem ky_x1_settle_17 {N : Nat} {s0 : St} {σ : St} {x1 : Int64} (hU : Ky s0 σ) : Par (x1_settle_17 N σ x1) (fun _ σ' => Ky s0 σ') := by
  unfold x1_settle_17
  refine par_bd (ky_x1_clear hU) (fun _ σ2 h1 => ?_)
  refine par_bd (ky_x1_reachEntry (ky_L h1 (by decide))) (fun _ σ4 h2 => ?_)
  exact (ky_x1_settle_37  N _ _ (ky_I h2 (by decide)))
theorem ky_x1_settle {N : Nat} {s0 : St} {σ : St} {a1 : Int64} (hU : Ky s0 σ) : Par (x1_settle N σ a1) (fun _ σ' => Ky s0 σ') := by
  unfold x1_settle
  refine par_if (fun _ => ?_) (fun _ => ?_)
  · refine par_if (fun _ => ?_) (fun _ => ?_)
    · exact par_some hU
    · exact (ky_x1_settle_17 hU)
  · exact (ky_x1_settle_17 hU)
theorem ky_x1_guardsNeeded_31 {N : Nat} {s0 : St} {σ : St} {x1 : Int32} {x2 : Int32} (hU : Ky s0 σ) {rec4 : St → Int32 → Int32 → Option (Int32 × St)} (h_rec4 : ∀ (z0 : St) (z1 : Int32) (z2 : Int32), Ky s0 z0 → Par (rec4 z0 z1 z2) (fun _ σ' => Ky s0 σ')) : Par (x1_guardsNeeded_31 N rec4 σ x1 x2) (fun _ σ' => Ky s0 σ') := by
  unfold x1_guardsNeeded_31
  exact (h_rec4 _ _ _ hU)
theorem ky_x1_guardsNeeded_4_b {N : Nat} {s0 : St} {σ : St} {x1 : Int32} {x2 : Int32} (hU : Ky s0 σ) {rec4 : St → Int32 → Int32 → Option (Int32 × St)} (h_rec4 : ∀ (z0 : St) (z1 : Int32) (z2 : Int32), Ky s0 z0 → Par (rec4 z0 z1 z2) (fun _ σ' => Ky s0 σ')) : Par (x1_guardsNeeded_4_b N rec4 σ x1 x2) (fun _ σ' => Ky s0 σ') := by
  unfold x1_guardsNeeded_4_b
  refine par_gd (fun _ => ?_)
  refine par_if (fun _ => ?_) (fun _ => ?_)
  · exact par_some hU
  · refine par_bd (ky_x5_at hU) (fun r2 σ3 h1 => ?_)
    refine par_if (fun _ => ?_) (fun _ => ?_)
    · exact (ky_x1_guardsNeeded_31 h1 h_rec4)
    · exact (ky_x1_guardsNeeded_31 h1 h_rec4)
theorem ky_x1_guardsNeeded_4 {N : Nat} {s0 : St} : ∀ (n : Nat) (σ : St) (x1 : Int32) (x2 : Int32), Ky s0 σ → Par (x1_guardsNeeded_4 N  n σ x1 x2) (fun _ σ' => Ky s0 σ') := by
  intro n
  induction n with
  | zero => intro σ x1 x2 _ r σ' e; cases e
  | succ n ih =>
    intro σ x1 x2 hU
    exact ky_x1_guardsNeeded_4_b (N := N) hU (fun z0 z1 z2 hz => ih z0 z1 z2 hz)
theorem ky_x1_guardsNeeded {N : Nat} {s0 : St} {σ : St} (hU : Ky s0 σ) : Par (x1_guardsNeeded N σ) (fun _ σ' => Ky s0 σ') := by
  unfold x1_guardsNeeded
  exact (ky_x1_guardsNeeded_4  N _ _ _ hU)
theorem ky_x2_findCandidates_91 {N : Nat} {s0 : St} {σ : St} {x1 : Int32} (hU : Ky s0 σ) {rec7 : St → Int32 → Option (Unit × St)} (h_rec7 : ∀ (z0 : St) (z1 : Int32), Ky s0 z0 → Par (rec7 z0 z1) (fun _ σ' => Ky s0 σ')) : Par (x2_findCandidates_91 N rec7 σ x1) (fun _ σ' => Ky s0 σ') := by
  unfold x2_findCandidates_91
  exact (h_rec7 _ _ hU)
theorem ky_x2_findCandidates_49 {N : Nat} {s0 : St} {σ : St} {x1 : Int32} {t0 : Int32} (hU : Ky s0 σ) {rec7 : St → Int32 → Option (Unit × St)} (h_rec7 : ∀ (z0 : St) (z1 : Int32), Ky s0 z0 → Par (rec7 z0 z1) (fun _ σ' => Ky s0 σ')) : Par (x2_findCandidates_49 N rec7 σ x1 t0) (fun _ σ' => Ky s0 σ') := by
  unfold x2_findCandidates_49
  refine par_if (fun _ => ?_) (fun _ => ?_)
  · refine par_bd (ky_x5_at hU) (fun r1 σ2 h1 => ?_)
    refine par_if (fun _ => ?_) (fun _ => ?_)
    · refine par_bd (ky_x5_put h1 (by decide)) (fun _ σ4 h2 => ?_)
      exact (ky_x2_findCandidates_91 (ky_I h2 (by decide)) h_rec7)
    · exact (ky_x2_findCandidates_91 h1 h_rec7)
  · exact (ky_x2_findCandidates_91 hU h_rec7)
theorem ky_x2_findCandidates_48 {N : Nat} {s0 : St} {σ : St} {x1 : Int32} (hU : Ky s0 σ) {rec7 : St → Int32 → Option (Unit × St)} (h_rec7 : ∀ (z0 : St) (z1 : Int32), Ky s0 z0 → Par (rec7 z0 z1) (fun _ σ' => Ky s0 σ')) : Par (x2_findCandidates_48 N rec7 σ x1) (fun _ σ' => Ky s0 σ') := by
  unfold x2_findCandidates_48
  exact (ky_x2_findCandidates_49 hU h_rec7)
theorem ky_x2_findCandidates_7_b {N : Nat} {s0 : St} {σ : St} {x1 : Int32} (hU : Ky s0 σ) {rec7 : St → Int32 → Option (Unit × St)} (h_rec7 : ∀ (z0 : St) (z1 : Int32), Ky s0 z0 → Par (rec7 z0 z1) (fun _ σ' => Ky s0 σ')) : Par (x2_findCandidates_7_b N rec7 σ x1) (fun _ σ' => Ky s0 σ') := by
  unfold x2_findCandidates_7_b
  refine par_if (fun _ => ?_) (fun _ => ?_)
  · exact par_some hU
  · refine par_if (fun _ => ?_) (fun _ => ?_)
    · exact par_some hU
    · refine par_if (fun _ => ?_) (fun _ => ?_)
      · exact (ky_x2_findCandidates_48 hU h_rec7)
      · refine par_if (fun _ => ?_) (fun _ => ?_)
        · exact (ky_x2_findCandidates_49 hU h_rec7)
        · exact (ky_x2_findCandidates_48 hU h_rec7)
theorem ky_x2_findCandidates_7 {N : Nat} {s0 : St} : ∀ (n : Nat) (σ : St) (x1 : Int32), Ky s0 σ → Par (x2_findCandidates_7 N  n σ x1) (fun _ σ' => Ky s0 σ') := by
  intro n
  induction n with
  | zero => intro σ x1 _ r σ' e; cases e
  | succ n ih =>
    intro σ x1 hU
    exact ky_x2_findCandidates_7_b (N := N) hU (fun z0 z1 hz => ih z0 z1 hz)
theorem ky_x2_findCandidates {N : Nat} {s0 : St} {σ : St} (hU : Ky s0 σ) : Par (x2_findCandidates N σ) (fun _ σ' => Ky s0 σ') := by
  unfold x2_findCandidates
  exact (ky_x2_findCandidates_7  N _ _ (ky_I hU (by decide)))
theorem ky_x2_marksOf_37 {N : Nat} {s0 : St} {σ : St} {x1 : Int32} {x2 : Int64} {x4 : Int32} (hU : Ky s0 σ) {rec5 : St → Int32 → Int64 → Int32 → Option (Int64 × St)} (h_rec5 : ∀ (z0 : St) (z1 : Int32) (z2 : Int64) (z3 : Int32), Ky s0 z0 → Par (rec5 z0 z1 z2 z3) (fun _ σ' => Ky s0 σ')) : Par (x2_marksOf_37 N rec5 σ x1 x2 x4) (fun _ σ' => Ky s0 σ') := by
  unfold x2_marksOf_37
  exact (h_rec5 _ _ _ _ hU)
theorem ky_x2_marksOf_5_b {N : Nat} {s0 : St} {σ : St} {x1 : Int32} {x2 : Int64} {x4 : Int32} (hU : Ky s0 σ) {rec5 : St → Int32 → Int64 → Int32 → Option (Int64 × St)} (h_rec5 : ∀ (z0 : St) (z1 : Int32) (z2 : Int64) (z3 : Int32), Ky s0 z0 → Par (rec5 z0 z1 z2 z3) (fun _ σ' => Ky s0 σ')) : Par (x2_marksOf_5_b N rec5 σ x1 x2 x4) (fun _ σ' => Ky s0 σ') := by
  unfold x2_marksOf_5_b
  refine par_if (fun _ => ?_) (fun _ => ?_)
  · exact par_some hU
  · refine par_if (fun _ => ?_) (fun _ => ?_)
    · exact (ky_x2_marksOf_37 hU h_rec5)
    · refine par_bd (ky_x5_at hU) (fun r1 σ2 h1 => ?_)
      exact (ky_x2_marksOf_37 h1 h_rec5)
theorem ky_x2_marksOf_5 {N : Nat} {s0 : St} : ∀ (n : Nat) (σ : St) (x1 : Int32) (x2 : Int64) (x4 : Int32), Ky s0 σ → Par (x2_marksOf_5 N  n σ x1 x2 x4) (fun _ σ' => Ky s0 σ') := by
  intro n
  induction n with
  | zero => intro σ x1 x2 x4 _ r σ' e; cases e
  | succ n ih =>
    intro σ x1 x2 x4 hU
    exact ky_x2_marksOf_5_b (N := N) hU (fun z0 z1 z2 z3 hz => ih z0 z1 z2 z3 hz)
theorem ky_x2_marksOf {N : Nat} {s0 : St} {σ : St} {a1 : Int32} (hU : Ky s0 σ) : Par (x2_marksOf N σ a1) (fun _ σ' => Ky s0 σ') := by
  unfold x2_marksOf
  exact (ky_x2_marksOf_5  N _ _ _ _ hU)
theorem ky_x2_priceKind {N : Nat} {s0 : St} {σ : St} {a1 : Int32} (hU : Ky s0 σ) : Par (x2_priceKind N σ a1) (fun _ σ' => Ky s0 σ') := by
  unfold x2_priceKind
  refine par_if (fun _ => ?_) (fun _ => ?_)
  · refine par_if (fun _ => ?_) (fun _ => ?_)
    · exact par_some hU
    · exact par_some hU
  · exact par_some hU
theorem ky_x2_priceOf_41 {N : Nat} {s0 : St} {σ : St} {x1 : Int32} {x2 : Int32} {x3 : Int32} (hU : Ky s0 σ) {rec4 : St → Int32 → Int32 → Int32 → Option (Int32 × St)} (h_rec4 : ∀ (z0 : St) (z1 : Int32) (z2 : Int32) (z3 : Int32), Ky s0 z0 → Par (rec4 z0 z1 z2 z3) (fun _ σ' => Ky s0 σ')) : Par (x2_priceOf_41 N rec4 σ x1 x2 x3) (fun _ σ' => Ky s0 σ') := by
  unfold x2_priceOf_41
  exact (h_rec4 _ _ _ _ hU)
theorem ky_x2_priceOf_4_b {N : Nat} {s0 : St} {σ : St} {x1 : Int32} {x2 : Int32} {x3 : Int32} (hU : Ky s0 σ) {rec4 : St → Int32 → Int32 → Int32 → Option (Int32 × St)} (h_rec4 : ∀ (z0 : St) (z1 : Int32) (z2 : Int32) (z3 : Int32), Ky s0 z0 → Par (rec4 z0 z1 z2 z3) (fun _ σ' => Ky s0 σ')) : Par (x2_priceOf_4_b N rec4 σ x1 x2 x3) (fun _ σ' => Ky s0 σ') := by
  unfold x2_priceOf_4_b
  refine par_if (fun _ => ?_) (fun _ => ?_)
  · exact par_some hU
  · refine par_if (fun _ => ?_) (fun _ => ?_)
    · exact (ky_x2_priceOf_41 hU h_rec4)
    · refine par_bd (ky_x5_at hU) (fun r1 σ2 h1 => ?_)
      refine par_bd (ky_x2_priceKind h1) (fun r3 σ4 h2 => ?_)
      refine par_bd (ky_x5_at h2) (fun r5 σ6 h3 => ?_)
      exact (ky_x2_priceOf_41 h3 h_rec4)
theorem ky_x2_priceOf_4 {N : Nat} {s0 : St} : ∀ (n : Nat) (σ : St) (x1 : Int32) (x2 : Int32) (x3 : Int32), Ky s0 σ → Par (x2_priceOf_4 N  n σ x1 x2 x3) (fun _ σ' => Ky s0 σ') := by
  intro n
  induction n with
  | zero => intro σ x1 x2 x3 _ r σ' e; cases e
  | succ n ih =>
    intro σ x1 x2 x3 hU
    exact ky_x2_priceOf_4_b (N := N) hU (fun z0 z1 z2 z3 hz => ih z0 z1 z2 z3 hz)
theorem ky_x2_priceOf {N : Nat} {s0 : St} {σ : St} {a1 : Int32} (hU : Ky s0 σ) : Par (x2_priceOf N σ a1) (fun _ σ' => Ky s0 σ') := by
  unfold x2_priceOf
  exact (ky_x2_priceOf_4  N _ _ _ _ hU)
theorem ky_x2_consider_41 {N : Nat} {s0 : St} {σ : St} {x1 : Int32} {x2 : Int32} {x3 : Int32} (hU : Ky s0 σ) : Par (x2_consider_41 N σ x1 x2 x3) (fun _ σ' => Ky s0 σ') := by
  unfold x2_consider_41
  exact par_some (ky_I (ky_I (ky_I hU (by decide)) (by decide)) (by decide))
theorem ky_x2_consider {N : Nat} {s0 : St} {σ : St} {a1 : Int32} {a2 : Int32} (hU : Ky s0 σ) : Par (x2_consider N σ a1 a2) (fun _ σ' => Ky s0 σ') := by
  unfold x2_consider
  refine par_bd (ky_x2_priceOf hU) (fun r1 σ2 h1 => ?_)
  refine par_bd (ky_x5_at h1) (fun r3 σ4 h2 => ?_)
  refine par_if (fun _ => ?_) (fun _ => ?_)
  · exact (ky_x2_consider_41 h2)
  · refine par_if (fun _ => ?_) (fun _ => ?_)
    · refine par_if (fun _ => ?_) (fun _ => ?_)
      · exact par_some h2
      · exact (ky_x2_consider_41 h2)
    · exact par_some h2
theorem ky_x2_isTooDear_41 {N : Nat} {s0 : St} {σ : St} (hU : Ky s0 σ) : Par (x2_isTooDear_41 N σ) (fun _ σ' => Ky s0 σ') := by
  unfold x2_isTooDear_41
  exact par_some hU
theorem ky_x2_isTooDear {N : Nat} {s0 : St} {σ : St} {a1 : Int32} {a2 : Int32} (hU : Ky s0 σ) : Par (x2_isTooDear N σ a1 a2) (fun _ σ' => Ky s0 σ') := by
  unfold x2_isTooDear
  refine par_bd (ky_x2_priceOf hU) (fun r1 σ2 h1 => ?_)
  refine par_bd (ky_x5_at h1) (fun r3 σ4 h2 => ?_)
  refine par_if (fun _ => ?_) (fun _ => ?_)
  · exact (ky_x2_isTooDear_41 h2)
  · refine par_if (fun _ => ?_) (fun _ => ?_)
    · refine par_if (fun _ => ?_) (fun _ => ?_)
      · exact par_some h2
      · exact (ky_x2_isTooDear_41 h2)
    · exact par_some h2
theorem ky_x2_nextBelow_48 {N : Nat} {s0 : St} {σ : St} {x1 : Int32} {x2 : Int32} {x3 : Int32} (hU : Ky s0 σ) {rec5 : St → Int32 → Int32 → Int32 → Option (Int32 × St)} (h_rec5 : ∀ (z0 : St) (z1 : Int32) (z2 : Int32) (z3 : Int32), Ky s0 z0 → Par (rec5 z0 z1 z2 z3) (fun _ σ' => Ky s0 σ')) : Par (x2_nextBelow_48 N rec5 σ x1 x2 x3) (fun _ σ' => Ky s0 σ') := by
  unfold x2_nextBelow_48
  exact (h_rec5 _ _ _ _ hU)
theorem ky_x2_nextBelow_5_b {N : Nat} {s0 : St} {σ : St} {x1 : Int32} {x2 : Int32} {x3 : Int32} (hU : Ky s0 σ) {rec5 : St → Int32 → Int32 → Int32 → Option (Int32 × St)} (h_rec5 : ∀ (z0 : St) (z1 : Int32) (z2 : Int32) (z3 : Int32), Ky s0 z0 → Par (rec5 z0 z1 z2 z3) (fun _ σ' => Ky s0 σ')) : Par (x2_nextBelow_5_b N rec5 σ x1 x2 x3) (fun _ σ' => Ky s0 σ') := by
  unfold x2_nextBelow_5_b
  refine par_if (fun _ => ?_) (fun _ => ?_)
  · exact par_some hU
  · refine par_if (fun _ => ?_) (fun _ => ?_)
    · refine par_bd (ky_x2_isTooDear hU) (fun r1 σ2 h1 => ?_)
      refine par_if (fun _ => ?_) (fun _ => ?_)
      · exact (ky_x2_nextBelow_48 h1 h_rec5)
      · exact par_some h1
    · exact (ky_x2_nextBelow_48 hU h_rec5)
theorem ky_x2_nextBelow_5 {N : Nat} {s0 : St} : ∀ (n : Nat) (σ : St) (x1 : Int32) (x2 : Int32) (x3 : Int32), Ky s0 σ → Par (x2_nextBelow_5 N  n σ x1 x2 x3) (fun _ σ' => Ky s0 σ') := by
  intro n
  induction n with
  | zero => intro σ x1 x2 x3 _ r σ' e; cases e
  | succ n ih =>
    intro σ x1 x2 x3 hU
    exact ky_x2_nextBelow_5_b (N := N) hU (fun z0 z1 z2 z3 hz => ih z0 z1 z2 z3 hz)
theorem ky_x2_nextBelow {N : Nat} {s0 : St} {σ : St} {a1 : Int32} {a2 : Int32} (hU : Ky s0 σ) : Par (x2_nextBelow N σ a1 a2) (fun _ σ' => Ky s0 σ') := by
  unfold x2_nextBelow
  exact (ky_x2_nextBelow_5  N _ _ _ _ hU)
theorem ky_x2_nameOfMark {N : Nat} {s0 : St} {σ : St} {a1 : Int32} (hU : Ky s0 σ) : Par (x2_nameOfMark N σ a1) (fun _ σ' => Ky s0 σ') := by
  unfold x2_nameOfMark
  refine par_if (fun _ => ?_) (fun _ => ?_)
  · refine par_if (fun _ => ?_) (fun _ => ?_)
    · exact par_some hU
    · exact par_some hU
  · exact par_some hU
theorem ky_x2_nameHeld_58 {N : Nat} {s0 : St} {σ : St} {x1 : Int32} (hU : Ky s0 σ) {rec7 : St → Int32 → Option (Unit × St)} (h_rec7 : ∀ (z0 : St) (z1 : Int32), Ky s0 z0 → Par (rec7 z0 z1) (fun _ σ' => Ky s0 σ')) : Par (x2_nameHeld_58 N rec7 σ x1) (fun _ σ' => Ky s0 σ') := by
  unfold x2_nameHeld_58
  exact (h_rec7 _ _ hU)
theorem ky_x2_nameHeld_7_b {N : Nat} {s0 : St} {σ : St} {x1 : Int32} (hU : Ky s0 σ) {rec7 : St → Int32 → Option (Unit × St)} (h_rec7 : ∀ (z0 : St) (z1 : Int32), Ky s0 z0 → Par (rec7 z0 z1) (fun _ σ' => Ky s0 σ')) : Par (x2_nameHeld_7_b N rec7 σ x1) (fun _ σ' => Ky s0 σ') := by
  unfold x2_nameHeld_7_b
  refine par_if (fun _ => ?_) (fun _ => ?_)
  · exact par_some hU
  · refine par_if (fun _ => ?_) (fun _ => ?_)
    · exact (ky_x2_nameHeld_58 hU h_rec7)
    · refine par_bd (ky_x5_at hU) (fun r1 σ2 h1 => ?_)
      refine par_bd (ky_x2_nameOfMark h1) (fun r3 σ4 h2 => ?_)
      refine par_bd (ky_x5_put h2 (by decide)) (fun _ σ6 h3 => ?_)
      exact (ky_x2_nameHeld_58 (ky_I h3 (by decide)) h_rec7)
theorem ky_x2_nameHeld_7 {N : Nat} {s0 : St} : ∀ (n : Nat) (σ : St) (x1 : Int32), Ky s0 σ → Par (x2_nameHeld_7 N  n σ x1) (fun _ σ' => Ky s0 σ') := by
  intro n
  induction n with
  | zero => intro σ x1 _ r σ' e; cases e
  | succ n ih =>
    intro σ x1 hU
    exact ky_x2_nameHeld_7_b (N := N) hU (fun z0 z1 hz => ih z0 z1 hz)
theorem ky_x2_nameHeld {N : Nat} {s0 : St} {σ : St} (hU : Ky s0 σ) : Par (x2_nameHeld N σ) (fun _ σ' => Ky s0 σ') := by
  unfold x2_nameHeld
  exact (ky_x2_nameHeld_7  N _ _ (ky_I hU (by decide)))
theorem ky_x2_search_108 {N : Nat} {s0 : St} {σ : St} (hU : Ky s0 σ) : Par (x2_search_108 N σ) (fun _ σ' => Ky s0 σ') := by
  unfold x2_search_108
  refine par_bd (ky_x2_nameHeld hU) (fun _ σ10 h1 => ?_)
  exact par_some (ky_I h1 (by decide))
theorem ky_x2_search_62_b {N : Nat} {s0 : St} {σ : St} {x1 : Int32} (hU : Ky s0 σ) {rec62 : St → Int32 → Option (Unit × St)} (h_rec62 : ∀ (z0 : St) (z1 : Int32), Ky s0 z0 → Par (rec62 z0 z1) (fun _ σ' => Ky s0 σ')) : Par (x2_search_62_b N rec62 σ x1) (fun _ σ' => Ky s0 σ') := by
  unfold x2_search_62_b
  refine par_if (fun _ => ?_) (fun _ => ?_)
  · exact (ky_x2_search_108 hU)
  · refine par_bd (ky_x2_marksOf hU) (fun r11 σ12 h1 => ?_)
    refine par_bd (ky_x1_settle h1) (fun _ σ14 h2 => ?_)
    refine par_bd (ky_x1_guardsNeeded h2) (fun r15 σ16 h3 => ?_)
    refine par_bd (ky_x2_consider h3) (fun _ σ18 h4 => ?_)
    refine par_bd (ky_x2_nextBelow h4) (fun r19 σ20 h5 => ?_)
    exact (h_rec62 _ _ h5)
theorem ky_x2_search_62 {N : Nat} {s0 : St} : ∀ (n : Nat) (σ : St) (x1 : Int32), Ky s0 σ → Par (x2_search_62 N  n σ x1) (fun _ σ' => Ky s0 σ') := by
  intro n
  induction n with
  | zero => intro σ x1 _ r σ' e; cases e
  | succ n ih =>
    intro σ x1 hU
    exact ky_x2_search_62_b (N := N) hU (fun z0 z1 hz => ih z0 z1 hz)
theorem ky_x2_search {N : Nat} {s0 : St} {σ : St} (hU : Ky s0 σ) : Par (x2_search N σ) (fun _ σ' => Ky s0 σ') := by
  unfold x2_search
  refine par_if (fun _ => ?_) (fun _ => ?_)
  · exact par_some hU
  · refine par_bd (ky_x1_settle hU) (fun _ σ2 h1 => ?_)
    refine par_bd (ky_x2_findCandidates h1) (fun _ σ4 h2 => ?_)
    refine par_bd (ky_x1_guardsNeeded (ky_I h2 (by decide))) (fun r5 σ6 h3 => ?_)
    refine par_bd (ky_x5_at (ky_I h3 (by decide))) (fun r7 σ8 h4 => ?_)
    exact (ky_x2_search_62  N _ _ (ky_I h4 (by decide)))
theorem ky_x6_clearNames_2_b {N : Nat} {s0 : St} {σ : St} {x1 : Int32} (hU : Ky s0 σ) {rec2 : St → Int32 → Option (Unit × St)} (h_rec2 : ∀ (z0 : St) (z1 : Int32), Ky s0 z0 → Par (rec2 z0 z1) (fun _ σ' => Ky s0 σ')) : Par (x6_clearNames_2_b N rec2 σ x1) (fun _ σ' => Ky s0 σ') := by
  unfold x6_clearNames_2_b
  refine par_if (fun _ => ?_) (fun _ => ?_)
  · exact par_some hU
  · refine par_bd (ky_x5_put hU (by decide)) (fun _ σ2 h1 => ?_)
    exact (h_rec2 _ _ h1)
theorem ky_x6_clearNames_2 {N : Nat} {s0 : St} : ∀ (n : Nat) (σ : St) (x1 : Int32), Ky s0 σ → Par (x6_clearNames_2 N  n σ x1) (fun _ σ' => Ky s0 σ') := by
  intro n
  induction n with
  | zero => intro σ x1 _ r σ' e; cases e
  | succ n ih =>
    intro σ x1 hU
    exact ky_x6_clearNames_2_b (N := N) hU (fun z0 z1 hz => ih z0 z1 hz)
theorem ky_x6_clearNames {N : Nat} {s0 : St} {σ : St} (hU : Ky s0 σ) : Par (x6_clearNames N σ) (fun _ σ' => Ky s0 σ') := by
  unfold x6_clearNames
  exact (ky_x6_clearNames_2  N _ _ hU)
theorem ky_x6_make {N : Nat} {s0 : St} {σ : St} {a1 : Int32} {a2 : Int32} (hU : Ky s0 σ) : Par (x6_make N σ a1 a2) (fun _ σ' => Ky s0 σ') := by
  unfold x6_make
  refine par_if (fun _ => ?_) (fun _ => ?_)
  · refine par_bd (ky_x5_put (ky_I hU (by decide)) (by decide)) (fun _ σ2 h1 => ?_)
    refine par_bd (ky_x5_put h1 (by decide)) (fun _ σ4 h2 => ?_)
    exact par_some h2
  · exact par_some (ky_I hU (by decide))
theorem ky_x6_makeLoop {N : Nat} {s0 : St} {σ : St} (hU : Ky s0 σ) : Par (x6_makeLoop N σ) (fun _ σ' => Ky s0 σ') := by
  unfold x6_makeLoop
  refine par_bd (ky_x6_make hU) (fun r1 σ2 h1 => ?_)
  exact par_some h1
theorem ky_x6_setName {N : Nat} {s0 : St} {σ : St} {a1 : Int32} {a2 : Int32} (hU : Ky s0 σ) : Par (x6_setName N σ a1 a2) (fun _ σ' => Ky s0 σ') := by
  unfold x6_setName
  refine par_bd (ky_x5_put hU (by decide)) (fun _ σ2 h1 => ?_)
  exact par_some h1
theorem ky_x6_begin_132 {N : Nat} {s0 : St} {σ : St} (hU : Ky s0 σ) : Par (x6_begin_132 N σ) (fun _ σ' => Ky s0 σ') := by
  unfold x6_begin_132
  refine par_gd (fun _ => ?_)
  refine par_bd (ky_x5_at hU) (fun r7 σ8 h1 => ?_)
  exact par_some (ky_I h1 (by decide))
theorem ky_x6_begin_123 {N : Nat} {s0 : St} {σ : St} {x1 : Int32} {x3 : Int32} {t1 : Int32} {t2 : Int32} (hU : Ky s0 σ) {rec68 : St → Int32 → Int32 → Option (Unit × St)} (h_rec68 : ∀ (z0 : St) (z1 : Int32) (z2 : Int32), Ky s0 z0 → Par (rec68 z0 z1 z2) (fun _ σ' => Ky s0 σ')) : Par (x6_begin_123 N rec68 σ x1 x3 t1 t2) (fun _ σ' => Ky s0 σ') := by
  unfold x6_begin_123
  refine par_bd (ky_x6_setName hU) (fun _ σ13 h1 => ?_)
  exact (h_rec68 _ _ _ h1)
theorem ky_x6_begin_92 {N : Nat} {s0 : St} {σ : St} {x1 : Int32} {x3 : Int32} {t0 : Int32} (hU : Ky s0 σ) {rec68 : St → Int32 → Int32 → Option (Unit × St)} (h_rec68 : ∀ (z0 : St) (z1 : Int32) (z2 : Int32), Ky s0 z0 → Par (rec68 z0 z1 z2) (fun _ σ' => Ky s0 σ')) : Par (x6_begin_92 N rec68 σ x1 x3 t0) (fun _ σ' => Ky s0 σ') := by
  unfold x6_begin_92
  refine par_gd (fun _ => ?_)
  refine par_bd (ky_x3_parameter hU) (fun r10 σ11 h1 => ?_)
  refine par_if (fun _ => ?_) (fun _ => ?_)
  · exact (ky_x6_begin_123 h1 h_rec68)
  · refine par_bd (ky_x6_makeLoop h1) (fun r14 σ15 h2 => ?_)
    exact (ky_x6_begin_123 h2 h_rec68)
theorem ky_x6_begin_68_b {N : Nat} {s0 : St} {σ : St} {x1 : Int32} {x3 : Int32} (hU : Ky s0 σ) {rec68 : St → Int32 → Int32 → Option (Unit × St)} (h_rec68 : ∀ (z0 : St) (z1 : Int32) (z2 : Int32), Ky s0 z0 → Par (rec68 z0 z1 z2) (fun _ σ' => Ky s0 σ')) : Par (x6_begin_68_b N rec68 σ x1 x3) (fun _ σ' => Ky s0 σ') := by
  unfold x6_begin_68_b
  refine par_bd (ky_x7_outers hU) (fun r4 σ5 h1 => ?_)
  refine par_if (fun _ => ?_) (fun _ => ?_)
  · exact (ky_x6_begin_132 h1)
  · refine par_if (fun _ => ?_) (fun _ => ?_)
    · exact (ky_x6_begin_92 h1 h_rec68)
    · exact (ky_x6_begin_92 h1 h_rec68)
theorem ky_x6_begin_68 {N : Nat} {s0 : St} : ∀ (n : Nat) (σ : St) (x1 : Int32) (x3 : Int32), Ky s0 σ → Par (x6_begin_68 N  n σ x1 x3) (fun _ σ' => Ky s0 σ') := by
  intro n
  induction n with
  | zero => intro σ x1 x3 _ r σ' e; cases e
  | succ n ih =>
    intro σ x1 x3 hU
    exact ky_x6_begin_68_b (N := N) hU (fun z0 z1 z2 hz => ih z0 z1 z2 hz)
theorem ky_x6_begin {N : Nat} {s0 : St} {σ : St} {a1 : Int32} {a2 : Int32} (hU : Ky s0 σ) : Par (x6_begin N σ a1 a2) (fun _ σ' => Ky s0 σ') := by
  unfold x6_begin
  refine par_gd (fun _ => ?_)
  refine par_bd (ky_x6_clearNames (ky_I (ky_I (ky_I (ky_I (ky_I (ky_I (ky_I (ky_I (ky_P (ky_P hU (by decide)) (by decide)) (by decide)) (by decide)) (by decide)) (by decide)) (by decide)) (by decide)) (by decide)) (by decide))) (fun _ σ3 h1 => ?_)
  exact (ky_x6_begin_68  N _ _ _ h1)
theorem ky_x6_leave {N : Nat} {s0 : St} {σ : St} {a1 : Int32} (hU : Ky s0 σ) : Par (x6_leave N σ a1) (fun _ σ' => Ky s0 σ') := by
  unfold x6_leave
  refine par_if (fun _ => ?_) (fun _ => ?_)
  · refine par_if (fun _ => ?_) (fun _ => ?_)
    · exact par_some (ky_I hU (by decide))
    · exact par_some (ky_I hU (by decide))
  · refine par_bd (ky_x5_at (ky_I hU (by decide))) (fun r1 σ2 h1 => ?_)
    exact par_some (ky_I (ky_I (ky_I h1 (by decide)) (by decide)) (by decide))
theorem ky_x6_nameOf {N : Nat} {s0 : St} {σ : St} {a1 : Int32} (hU : Ky s0 σ) : Par (x6_nameOf N σ a1) (fun _ σ' => Ky s0 σ') := by
  unfold x6_nameOf
  refine par_bd (ky_x5_at hU) (fun r1 σ2 h1 => ?_)
  exact par_some h1
theorem ky_x6_store {N : Nat} {s0 : St} {σ : St} {a1 : Int32} (hU : Ky s0 σ) : Par (x6_store N σ a1) (fun _ σ' => Ky s0 σ') := by
  unfold x6_store
  refine par_if (fun _ => ?_) (fun _ => ?_)
  · refine par_gd (fun _ => ?_)
    refine par_bd (ky_x0_get (ky_I hU (by decide))) (fun r7 σ8 h1 => ?_)
    exact par_some (ky_I h1 (by decide))
  · refine par_gd (fun _ => ?_)
    refine par_bd (ky_x0_get hU) (fun r2 σ3 h2 => ?_)
    refine par_bd (ky_x5_put h2 (by decide)) (fun _ σ5 h3 => ?_)
    exact par_some h3
theorem ky_x6_finish {N : Nat} {s0 : St} {σ : St} (hU : Ky s0 σ) : Par (x6_finish N σ) (fun _ σ' => Ky s0 σ') := by
  unfold x6_finish
  refine par_gd (fun _ => ?_)
  refine par_bd (ky_x0_get (ky_I hU (by decide))) (fun r2 σ3 h1 => ?_)
  refine par_gd (fun _ => ?_)
  refine par_bd (ky_x0_get h1) (fun r5 σ6 h2 => ?_)
  refine par_if (fun _ => ?_) (fun _ => ?_)
  · refine par_bd (ky_x6_leave h2) (fun _ σ14 h3 => ?_)
    exact par_some h3
  · refine par_if (fun _ => ?_) (fun _ => ?_)
    · refine par_bd (ky_x6_setName h2) (fun _ σ12 h4 => ?_)
      exact par_some (ky_I h4 (by decide))
    · refine par_if (fun _ => ?_) (fun _ => ?_)
      · refine par_bd (ky_x6_nameOf h2) (fun r7 σ8 h5 => ?_)
        refine par_bd (ky_x6_store h5) (fun _ σ10 h6 => ?_)
        exact par_some (ky_I h6 (by decide))
      · exact par_some (ky_I h2 (by decide))
theorem ky_j_floorMod {N : Nat} {s0 : St} {σ : St} {a1 : Int32} {a2 : Int32} (hU : Ky s0 σ) : Par (j_floorMod N σ a1 a2) (fun _ σ' => Ky s0 σ') := by
  unfold j_floorMod
  refine par_gd (fun _ => ?_)
  refine par_if (fun _ => ?_) (fun _ => ?_)
  · exact par_some hU
  · refine par_if (fun _ => ?_) (fun _ => ?_)
    · exact par_some hU
    · exact par_some hU
theorem ky_x6_choose {N : Nat} {s0 : St} {σ : St} (hU : Ky s0 σ) : Par (x6_choose N σ) (fun _ σ' => Ky s0 σ') := by
  unfold x6_choose
  refine par_bd (ky_j_floorMod hU) (fun r1 σ2 h1 => ?_)
  refine par_if (fun _ => ?_) (fun _ => ?_)
  · exact par_some (ky_I h1 (by decide))
  · exact par_some (ky_I h1 (by decide))
theorem ky_x6_holds_60 {N : Nat} {s0 : St} {σ : St} {t0 : Int32} {t1 : Int32} (hU : Ky s0 σ) : Par (x6_holds_60 N σ t0 t1) (fun _ σ' => Ky s0 σ') := by
  unfold x6_holds_60
  refine par_if (fun _ => ?_) (fun _ => ?_)
  · exact par_some hU
  · exact par_some hU
theorem ky_x6_holds_47 {N : Nat} {s0 : St} {σ : St} {x1 : Int32} {t0 : Int32} (hU : Ky s0 σ) : Par (x6_holds_47 N σ x1 t0) (fun _ σ' => Ky s0 σ') := by
  unfold x6_holds_47
  refine par_if (fun _ => ?_) (fun _ => ?_)
  · exact (ky_x6_holds_60 hU)
  · exact (ky_x6_holds_60 hU)
theorem ky_x6_holds {N : Nat} {s0 : St} {σ : St} (hU : Ky s0 σ) : Par (x6_holds N σ) (fun _ σ' => Ky s0 σ') := by
  unfold x6_holds
  refine par_gd (fun _ => ?_)
  refine par_bd (ky_x0_get hU) (fun r2 σ3 h1 => ?_)
  refine par_if (fun _ => ?_) (fun _ => ?_)
  · refine par_bd (ky_x6_choose h1) (fun r9 σ10 h2 => ?_)
    refine par_gd (fun _ => ?_)
    exact par_some h2
  · refine par_gd (fun _ => ?_)
    refine par_bd (ky_x0_get h1) (fun r5 σ6 h3 => ?_)
    refine par_bd (ky_x6_nameOf h3) (fun r7 σ8 h4 => ?_)
    refine par_if (fun _ => ?_) (fun _ => ?_)
    · exact (ky_x6_holds_47 h4)
    · exact (ky_x6_holds_47 h4)
theorem ky_x6_fieldOf {N : Nat} {s0 : St} {σ : St} {a1 : Int32} {a2 : Int32} (hU : Ky s0 σ) : Par (x6_fieldOf N σ a1 a2) (fun _ σ' => Ky s0 σ') := by
  unfold x6_fieldOf
  refine par_if (fun _ => ?_) (fun _ => ?_)
  · refine par_gd (fun _ => ?_)
    refine par_bd (ky_x0_get (ky_I hU (by decide))) (fun r4 σ5 h1 => ?_)
    exact par_some (ky_I h1 (by decide))
  · refine par_bd (ky_x5_at hU) (fun r1 σ2 h2 => ?_)
    exact par_some h2
theorem ky_x6_enter_113 {N : Nat} {s0 : St} {σ : St} {x1 : Int32} (hU : Ky s0 σ) : Par (x6_enter_113 N σ x1) (fun _ σ' => Ky s0 σ') := by
  unfold x6_enter_113
  refine par_gd (fun _ => ?_)
  refine par_bd (ky_x5_at hU) (fun r9 σ10 h1 => ?_)
  exact par_some (ky_I (ky_I h1 (by decide)) (by decide))
theorem ky_x6_enter_51_b {N : Nat} {s0 : St} {σ : St} {x1 : Int32} {x2 : Int32} {x3 : Int32} (hU : Ky s0 σ) {rec51 : St → Int32 → Int32 → Int32 → Option (Unit × St)} (h_rec51 : ∀ (z0 : St) (z1 : Int32) (z2 : Int32) (z3 : Int32), Ky s0 z0 → Par (rec51 z0 z1 z2 z3) (fun _ σ' => Ky s0 σ')) : Par (x6_enter_51_b N rec51 σ x1 x2 x3) (fun _ σ' => Ky s0 σ') := by
  unfold x6_enter_51_b
  refine par_gd (fun _ => ?_)
  refine par_bd (ky_x0_arguments hU) (fun r6 σ7 h1 => ?_)
  refine par_if (fun _ => ?_) (fun _ => ?_)
  · exact (ky_x6_enter_113 h1)
  · refine par_gd (fun _ => ?_)
    refine par_bd (ky_x0_argument h1) (fun r12 σ13 h2 => ?_)
    refine par_bd (ky_x5_at h2) (fun r14 σ15 h3 => ?_)
    refine par_gd (fun _ => ?_)
    refine par_bd (ky_x3_parameter h3) (fun r17 σ18 h4 => ?_)
    refine par_bd (ky_x6_setName h4) (fun _ σ20 h5 => ?_)
    exact (h_rec51 _ _ _ _ h5)
theorem ky_x6_enter_51 {N : Nat} {s0 : St} : ∀ (n : Nat) (σ : St) (x1 : Int32) (x2 : Int32) (x3 : Int32), Ky s0 σ → Par (x6_enter_51 N  n σ x1 x2 x3) (fun _ σ' => Ky s0 σ') := by
  intro n
  induction n with
  | zero => intro σ x1 x2 x3 _ r σ' e; cases e
  | succ n ih =>
    intro σ x1 x2 x3 hU
    exact ky_x6_enter_51_b (N := N) hU (fun z0 z1 z2 z3 hz => ih z0 z1 z2 z3 hz)
theorem ky_x6_enter {N : Nat} {s0 : St} {σ : St} {a1 : Int32} (hU : Ky s0 σ) : Par (x6_enter N σ a1) (fun _ σ' => Ky s0 σ') := by
  unfold x6_enter
  refine par_if (fun _ => ?_) (fun _ => ?_)
  · refine par_bd (ky_x5_put hU (by decide)) (fun _ σ2 h1 => ?_)
    refine par_bd (ky_x6_clearNames (ky_I h1 (by decide))) (fun _ σ4 h2 => ?_)
    exact (ky_x6_enter_51  N _ _ _ _ h2)
  · exact par_some (ky_I hU (by decide))
theorem ky_x6_work_79 {N : Nat} {s0 : St} {σ : St} {t1 : Int32} (hU : Ky s0 σ) : Par (x6_work_79 N σ t1) (fun _ σ' => Ky s0 σ') := by
  unfold x6_work_79
  exact par_some (ky_I hU (by decide))
theorem ky_x6_work {N : Nat} {s0 : St} {σ : St} (hU : Ky s0 σ) : Par (x6_work N σ) (fun _ σ' => Ky s0 σ') := by
  unfold x6_work
  refine par_gd (fun _ => ?_)
  refine par_bd (ky_x0_get hU) (fun r2 σ3 h1 => ?_)
  refine par_gd (fun _ => ?_)
  refine par_bd (ky_x0_get h1) (fun r5 σ6 h2 => ?_)
  refine par_bd (ky_x6_nameOf h2) (fun r7 σ8 h3 => ?_)
  refine par_gd (fun _ => ?_)
  refine par_bd (ky_x0_get h3) (fun r10 σ11 h4 => ?_)
  refine par_if (fun _ => ?_) (fun _ => ?_)
  · refine par_bd (ky_x6_choose (ky_I (ky_I h4 (by decide)) (by decide))) (fun r20 σ21 h5 => ?_)
    refine par_if (fun _ => ?_) (fun _ => ?_)
    · exact (ky_x6_work_79 h5)
    · refine par_bd (ky_x6_makeLoop h5) (fun r22 σ23 h6 => ?_)
      exact (ky_x6_work_79 h6)
  · refine par_if (fun _ => ?_) (fun _ => ?_)
    · refine par_bd (ky_x6_nameOf (ky_I (ky_I h4 (by decide)) (by decide))) (fun r16 σ17 h7 => ?_)
      refine par_bd (ky_x6_make h7) (fun r18 σ19 h8 => ?_)
      exact par_some (ky_I h8 (by decide))
    · refine par_if (fun _ => ?_) (fun _ => ?_)
      · exact par_some (ky_I (ky_I (ky_I h4 (by decide)) (by decide)) (by decide))
      · refine par_if (fun _ => ?_) (fun _ => ?_)
        · refine par_bd (ky_x6_fieldOf (ky_I (ky_I h4 (by decide)) (by decide))) (fun r14 σ15 h9 => ?_)
          exact par_some (ky_I h9 (by decide))
        · refine par_if (fun _ => ?_) (fun _ => ?_)
          · refine par_bd (ky_x6_enter (ky_I (ky_I h4 (by decide)) (by decide))) (fun _ σ13 h10 => ?_)
            exact par_some h10
          · exact par_some (ky_I (ky_I h4 (by decide)) (by decide))
theorem ky_x6_step_113 {N : Nat} {s0 : St} {σ : St} {t1 : Int32} (hU : Ky s0 σ) : Par (x6_step_113 N σ t1) (fun _ σ' => Ky s0 σ') := by
  unfold x6_step_113
  exact par_some (ky_I hU (by decide))
theorem ky_x6_step {N : Nat} {s0 : St} {σ : St} (hU : Ky s0 σ) : Par (x6_step N σ) (fun _ σ' => Ky s0 σ') := by
  unfold x6_step
  refine par_gd (fun _ => ?_)
  refine par_bd (ky_x0_get hU) (fun r2 σ3 h1 => ?_)
  refine par_if (fun _ => ?_) (fun _ => ?_)
  · refine par_gd (fun _ => ?_)
    refine par_bd (ky_x0_get h1) (fun r14 σ15 h2 => ?_)
    exact par_some (ky_I h2 (by decide))
  · refine par_if (fun _ => ?_) (fun _ => ?_)
    · refine par_bd (ky_x6_leave h1) (fun _ σ12 h3 => ?_)
      exact par_some h3
    · refine par_if (fun _ => ?_) (fun _ => ?_)
      · refine par_if (fun _ => ?_) (fun _ => ?_)
        · refine par_bd (ky_x6_holds (ky_I h1 (by decide))) (fun r6 σ7 h4 => ?_)
          refine par_if (fun _ => ?_) (fun _ => ?_)
          · refine par_gd (fun _ => ?_)
            refine par_bd (ky_x0_get h4) (fun r9 σ10 h5 => ?_)
            exact (ky_x6_step_113 h5)
          · exact (ky_x6_step_113 h4)
        · refine par_bd (ky_x6_work (ky_I h1 (by decide))) (fun _ σ5 h6 => ?_)
          exact par_some h6
      · exact par_some (ky_I h1 (by decide))
theorem ky_x6_go_46 {N : Nat} {s0 : St} {σ : St} (hU : Ky s0 σ) : Par (x6_go_46 N σ) (fun _ σ' => Ky s0 σ') := by
  unfold x6_go_46
  refine par_if (fun _ => ?_) (fun _ => ?_)
  · exact par_some hU
  · exact par_some hU
theorem ky_x6_go_40 {N : Nat} {s0 : St} {σ : St} {x3 : Int32} (hU : Ky s0 σ) {rec8 : St → Int32 → Option (Int32 × St)} (h_rec8 : ∀ (z0 : St) (z1 : Int32), Ky s0 z0 → Par (rec8 z0 z1) (fun _ σ' => Ky s0 σ')) : Par (x6_go_40 N rec8 σ x3) (fun _ σ' => Ky s0 σ') := by
  unfold x6_go_40
  exact (h_rec8 _ _ hU)
theorem ky_x6_go_8_b {N : Nat} {s0 : St} {σ : St} {x3 : Int32} (hU : Ky s0 σ) {rec8 : St → Int32 → Option (Int32 × St)} (h_rec8 : ∀ (z0 : St) (z1 : Int32), Ky s0 z0 → Par (rec8 z0 z1) (fun _ σ' => Ky s0 σ')) : Par (x6_go_8_b N rec8 σ x3) (fun _ σ' => Ky s0 σ') := by
  unfold x6_go_8_b
  refine par_if (fun _ => ?_) (fun _ => ?_)
  · exact (ky_x6_go_46 hU)
  · refine par_if (fun _ => ?_) (fun _ => ?_)
    · refine par_if (fun _ => ?_) (fun _ => ?_)
      · refine par_bd (ky_x6_step hU) (fun _ σ4 h1 => ?_)
        exact (ky_x6_go_40 h1 h_rec8)
      · refine par_bd (ky_x6_finish hU) (fun _ σ6 h2 => ?_)
        exact (ky_x6_go_40 h2 h_rec8)
    · exact (ky_x6_go_46 hU)
theorem ky_x6_go_8 {N : Nat} {s0 : St} : ∀ (n : Nat) (σ : St) (x3 : Int32), Ky s0 σ → Par (x6_go_8 N  n σ x3) (fun _ σ' => Ky s0 σ') := by
  intro n
  induction n with
  | zero => intro σ x3 _ r σ' e; cases e
  | succ n ih =>
    intro σ x3 hU
    exact ky_x6_go_8_b (N := N) hU (fun z0 z1 hz => ih z0 z1 hz)
theorem ky_x6_go {N : Nat} {s0 : St} {σ : St} {a1 : Int32} {a2 : Int32} (hU : Ky s0 σ) : Par (x6_go N σ a1 a2) (fun _ σ' => Ky s0 σ') := by
  unfold x6_go
  refine par_bd (ky_x6_begin hU) (fun _ σ2 h1 => ?_)
  exact (ky_x6_go_8  N _ _ h1)
theorem ky_x7_allows_53 {N : Nat} {s0 : St} {σ : St} {x1 : Int32} {x2 : Int32} {t0 : Int32} (hU : Ky s0 σ) {rec32 : St → Int32 → Int32 → Option (Int32 × St)} (h_rec32 : ∀ (z0 : St) (z1 : Int32) (z2 : Int32), Ky s0 z0 → Par (rec32 z0 z1 z2) (fun _ σ' => Ky s0 σ')) : Par (x7_allows_53 N rec32 σ x1 x2 t0) (fun _ σ' => Ky s0 σ') := by
  unfold x7_allows_53
  refine par_bd (ky_x5_at hU) (fun r8 σ9 h1 => ?_)
  refine par_if (fun _ => ?_) (fun _ => ?_)
  · exact par_some h1
  · exact (h_rec32 _ _ _ h1)
theorem ky_x7_allows_32_b {N : Nat} {s0 : St} {σ : St} {x1 : Int32} {x2 : Int32} (hU : Ky s0 σ) {rec32 : St → Int32 → Int32 → Option (Int32 × St)} (h_rec32 : ∀ (z0 : St) (z1 : Int32) (z2 : Int32), Ky s0 z0 → Par (rec32 z0 z1 z2) (fun _ σ' => Ky s0 σ')) : Par (x7_allows_32_b N rec32 σ x1 x2) (fun _ σ' => Ky s0 σ') := by
  unfold x7_allows_32_b
  refine par_bd (ky_x7_outers hU) (fun r6 σ7 h1 => ?_)
  refine par_if (fun _ => ?_) (fun _ => ?_)
  · exact par_some h1
  · refine par_if (fun _ => ?_) (fun _ => ?_)
    · exact (ky_x7_allows_53 h1 h_rec32)
    · exact (ky_x7_allows_53 h1 h_rec32)
theorem ky_x7_allows_32 {N : Nat} {s0 : St} : ∀ (n : Nat) (σ : St) (x1 : Int32) (x2 : Int32), Ky s0 σ → Par (x7_allows_32 N  n σ x1 x2) (fun _ σ' => Ky s0 σ') := by
  intro n
  induction n with
  | zero => intro σ x1 x2 _ r σ' e; cases e
  | succ n ih =>
    intro σ x1 x2 hU
    exact ky_x7_allows_32_b (N := N) hU (fun z0 z1 z2 hz => ih z0 z1 z2 hz)
theorem ky_x7_allows {N : Nat} {s0 : St} {σ : St} {a1 : Int32} (hU : Ky s0 σ) : Par (x7_allows N σ a1) (fun _ σ' => Ky s0 σ') := by
  unfold x7_allows
  refine par_gd (fun _ => ?_)
  refine par_bd (ky_x3_has hU) (fun r2 σ3 h1 => ?_)
  refine par_if (fun _ => ?_) (fun _ => ?_)
  · exact par_some h1
  · refine par_if (fun _ => ?_) (fun _ => ?_)
    · exact par_some h1
    · refine par_bd (ky_x7_outers h1) (fun r4 σ5 h2 => ?_)
      refine par_if (fun _ => ?_) (fun _ => ?_)
      · exact (ky_x7_allows_32  N _ _ _ h2)
      · exact par_some h2
theorem ky_x10_putNumber_49 {N : Nat} {s0 : St} {σ : St} {x1 : Int32} {x2 : Int32} (hU : Ky s0 σ) {rec3 : St → Int32 → Int32 → Option (Unit × St)} (h_rec3 : ∀ (z0 : St) (z1 : Int32) (z2 : Int32), Ky s0 z0 → Par (rec3 z0 z1 z2) (fun _ σ' => Ky s0 σ')) : Par (x10_putNumber_49 N rec3 σ x1 x2) (fun _ σ' => Ky s0 σ') := by
  unfold x10_putNumber_49
  exact (h_rec3 _ _ _ hU)
theorem ky_x10_putNumber_3_b {N : Nat} {s0 : St} {σ : St} {x1 : Int32} {x2 : Int32} (hU : Ky s0 σ) {rec3 : St → Int32 → Int32 → Option (Unit × St)} (h_rec3 : ∀ (z0 : St) (z1 : Int32) (z2 : Int32), Ky s0 z0 → Par (rec3 z0 z1 z2) (fun _ σ' => Ky s0 σ')) : Par (x10_putNumber_3_b N rec3 σ x1 x2) (fun _ σ' => Ky s0 σ') := by
  unfold x10_putNumber_3_b
  refine par_if (fun _ => ?_) (fun _ => ?_)
  · exact par_some hU
  · refine par_if (fun _ => ?_) (fun _ => ?_)
    · exact (ky_x10_putNumber_49 hU h_rec3)
    · refine par_if (fun _ => ?_) (fun _ => ?_)
      · exact (ky_x10_putNumber_49 hU h_rec3)
      · refine par_gd (fun _ => ?_)
        exact (ky_x10_putNumber_49 (ky_I (ky_A hU (by decide)) (by decide)) h_rec3)
theorem ky_x10_putNumber_3 {N : Nat} {s0 : St} : ∀ (n : Nat) (σ : St) (x1 : Int32) (x2 : Int32), Ky s0 σ → Par (x10_putNumber_3 N  n σ x1 x2) (fun _ σ' => Ky s0 σ') := by
  intro n
  induction n with
  | zero => intro σ x1 x2 _ r σ' e; cases e
  | succ n ih =>
    intro σ x1 x2 hU
    exact ky_x10_putNumber_3_b (N := N) hU (fun z0 z1 z2 hz => ih z0 z1 z2 hz)
theorem ky_x10_putNumber {N : Nat} {s0 : St} {σ : St} {a1 : Int32} (hU : Ky s0 σ) : Par (x10_putNumber N σ a1) (fun _ σ' => Ky s0 σ') := by
  unfold x10_putNumber
  exact (ky_x10_putNumber_3  N _ _ _ hU)
theorem ky_x10_feed {N : Nat} {s0 : St} {σ : St} {a1 : Int32} {a2 : Int32} {a3 : Int32} {a4 : Int32} {a5 : Int32} (hU : Ky s0 σ) : Par (x10_feed N σ a1 a2 a3 a4 a5) (fun _ σ' => Ky s0 σ') := by
  unfold x10_feed
  refine par_if (fun _ => ?_) (fun _ => ?_)
  · refine par_bd (ky_x10_putNumber hU) (fun _ σ2 h1 => ?_)
    refine par_bd (ky_x10_putNumber h1) (fun _ σ4 h2 => ?_)
    refine par_bd (ky_x10_putNumber h2) (fun _ σ6 h3 => ?_)
    refine par_bd (ky_x10_putNumber h3) (fun _ σ8 h4 => ?_)
    refine par_bd (ky_x10_putNumber h4) (fun _ σ10 h5 => ?_)
    exact par_some h5
  · exact par_some hU
theorem ky_x10_fault {N : Nat} {s0 : St} {σ : St} {a1 : Int32} (hU : Ky s0 σ) : Par (x10_fault N σ a1) (fun _ σ' => Ky s0 σ') := by
  unfold x10_fault
  refine par_if (fun _ => ?_) (fun _ => ?_)
  · exact par_some hU
  · refine par_if (fun _ => ?_) (fun _ => ?_)
    · exact par_some hU
    · exact par_some hU
theorem ky_x10_markIndex_80 {N : Nat} {s0 : St} {σ : St} {x2 : Int32} {x3 : Int32} {t0 : Int32} (hU : Ky s0 σ) : Par (x10_markIndex_80 N σ x2 x3 t0) (fun _ σ' => Ky s0 σ') := by
  unfold x10_markIndex_80
  refine par_if (fun _ => ?_) (fun _ => ?_)
  · exact par_some hU
  · exact par_some hU
theorem ky_x10_markIndex_79 {N : Nat} {s0 : St} {σ : St} {x2 : Int32} {x3 : Int32} (hU : Ky s0 σ) : Par (x10_markIndex_79 N σ x2 x3) (fun _ σ' => Ky s0 σ') := by
  unfold x10_markIndex_79
  exact (ky_x10_markIndex_80 hU)
theorem ky_x10_markIndex_14 {N : Nat} {s0 : St} {σ : St} {x3 : Int32} (hU : Ky s0 σ) : Par (x10_markIndex_14 N σ x3) (fun _ σ' => Ky s0 σ') := by
  unfold x10_markIndex_14
  exact par_some hU
theorem ky_x10_markIndex {N : Nat} {s0 : St} {σ : St} {a1 : Int32} {a2 : Int32} {a3 : Int32} (hU : Ky s0 σ) : Par (x10_markIndex N σ a1 a2 a3) (fun _ σ' => Ky s0 σ') := by
  unfold x10_markIndex
  refine par_if (fun _ => ?_) (fun _ => ?_)
  · refine par_if (fun _ => ?_) (fun _ => ?_)
    · exact (ky_x10_markIndex_14 hU)
    · refine par_if (fun _ => ?_) (fun _ => ?_)
      · exact (ky_x10_markIndex_14 hU)
      · exact par_some hU
  · refine par_gd (fun _ => ?_)
    refine par_bd (ky_x3_has hU) (fun r2 σ3 h1 => ?_)
    refine par_if (fun _ => ?_) (fun _ => ?_)
    · exact par_some h1
    · refine par_if (fun _ => ?_) (fun _ => ?_)
      · exact par_some h1
      · refine par_if (fun _ => ?_) (fun _ => ?_)
        · refine par_if (fun _ => ?_) (fun _ => ?_)
          · exact (ky_x10_markIndex_79 h1)
          · refine par_gd (fun _ => ?_)
            refine par_bd (ky_x5_at h1) (fun r5 σ6 h2 => ?_)
            refine par_if (fun _ => ?_) (fun _ => ?_)
            · exact (ky_x10_markIndex_79 h2)
            · exact (ky_x10_markIndex_80 h2)
        · exact (ky_x10_markIndex_79 h1)
theorem ky_x10_mark {N : Nat} {s0 : St} {σ : St} {a1 : Int32} {a2 : Int32} {a3 : Int32} (hU : Ky s0 σ) : Par (x10_mark N σ a1 a2 a3) (fun _ σ' => Ky s0 σ') := by
  unfold x10_mark
  refine par_bd (ky_x10_markIndex hU) (fun r1 σ2 h1 => ?_)
  refine par_if (fun _ => ?_) (fun _ => ?_)
  · exact par_some h1
  · refine par_bd (ky_x1_settle h1) (fun _ σ4 h2 => ?_)
    refine par_bd (ky_x5_at h2) (fun r5 σ6 h3 => ?_)
    exact par_some h3
theorem ky_x10_verdictOfUse {N : Nat} {s0 : St} {σ : St} {a1 : Int32} (hU : Ky s0 σ) : Par (x10_verdictOfUse N σ a1) (fun _ σ' => Ky s0 σ') := by
  unfold x10_verdictOfUse
  refine par_if (fun _ => ?_) (fun _ => ?_)
  · exact par_some hU
  · refine par_if (fun _ => ?_) (fun _ => ?_)
    · exact par_some hU
    · refine par_if (fun _ => ?_) (fun _ => ?_)
      · exact par_some hU
      · exact par_some hU
theorem ky_x10_use {N : Nat} {s0 : St} {σ : St} {a1 : Int32} {a2 : Int32} (hU : Ky s0 σ) : Par (x10_use N σ a1 a2) (fun _ σ' => Ky s0 σ') := by
  unfold x10_use
  refine par_if (fun _ => ?_) (fun _ => ?_)
  · exact par_some hU
  · refine par_gd (fun _ => ?_)
    refine par_if (fun _ => ?_) (fun _ => ?_)
    · refine par_if (fun _ => ?_) (fun _ => ?_)
      · refine par_bd (ky_x1_settle hU) (fun _ σ4 h1 => ?_)
        refine par_bd (ky_x5_at h1) (fun r5 σ6 h2 => ?_)
        refine par_bd (ky_x10_verdictOfUse h2) (fun r7 σ8 h3 => ?_)
        exact par_some h3
      · refine par_if (fun _ => ?_) (fun _ => ?_)
        · refine par_bd (ky_x5_at hU) (fun r10 σ11 h4 => ?_)
          exact par_some h4
        · refine par_if (fun _ => ?_) (fun _ => ?_)
          · refine par_bd (ky_x5_at hU) (fun r13 σ14 h5 => ?_)
            exact par_some h5
          · refine par_if (fun _ => ?_) (fun _ => ?_)
            · refine par_bd (ky_x5_at hU) (fun r16 σ17 h6 => ?_)
              exact par_some h6
            · exact par_some hU
    · exact par_some hU
theorem ky_x10_verdictOfTest {N : Nat} {s0 : St} {σ : St} {a1 : Int32} (hU : Ky s0 σ) : Par (x10_verdictOfTest N σ a1) (fun _ σ' => Ky s0 σ') := by
  unfold x10_verdictOfTest
  refine par_if (fun _ => ?_) (fun _ => ?_)
  · exact par_some hU
  · refine par_if (fun _ => ?_) (fun _ => ?_)
    · exact par_some hU
    · refine par_if (fun _ => ?_) (fun _ => ?_)
      · exact par_some hU
      · exact par_some hU
theorem ky_x10_test {N : Nat} {s0 : St} {σ : St} {a1 : Int32} {a2 : Int32} (hU : Ky s0 σ) : Par (x10_test N σ a1 a2) (fun _ σ' => Ky s0 σ') := by
  unfold x10_test
  refine par_if (fun _ => ?_) (fun _ => ?_)
  · exact par_some hU
  · refine par_gd (fun _ => ?_)
    refine par_if (fun _ => ?_) (fun _ => ?_)
    · refine par_if (fun _ => ?_) (fun _ => ?_)
      · refine par_bd (ky_x1_settle hU) (fun _ σ4 h1 => ?_)
        refine par_bd (ky_x5_at h1) (fun r5 σ6 h2 => ?_)
        refine par_bd (ky_x10_verdictOfTest h2) (fun r7 σ8 h3 => ?_)
        exact par_some h3
      · refine par_if (fun _ => ?_) (fun _ => ?_)
        · refine par_bd (ky_x5_at hU) (fun r10 σ11 h4 => ?_)
          exact par_some h4
        · refine par_if (fun _ => ?_) (fun _ => ?_)
          · refine par_bd (ky_x5_at hU) (fun r13 σ14 h5 => ?_)
            exact par_some h5
          · exact par_some hU
    · exact par_some hU
theorem ky_x10_run {N : Nat} {s0 : St} {σ : St} {a1 : Int32} {a2 : Int32} (hU : Ky s0 σ) : Par (x10_run N σ a1 a2) (fun _ σ' => Ky s0 σ') := by
  unfold x10_run
  refine par_if (fun _ => ?_) (fun _ => ?_)
  · exact par_some hU
  · refine par_if (fun _ => ?_) (fun _ => ?_)
    · exact par_some hU
    · refine par_bd (ky_x7_allows hU) (fun r1 σ2 h1 => ?_)
      refine par_if (fun _ => ?_) (fun _ => ?_)
      · exact par_some h1
      · refine par_bd (ky_x6_go h1) (fun r3 σ4 h2 => ?_)
        refine par_bd (ky_x5_put h2 (by decide)) (fun _ σ6 h3 => ?_)
        refine par_bd (ky_x5_put h3 (by decide)) (fun _ σ8 h4 => ?_)
        refine par_bd (ky_x5_put h4 (by decide)) (fun _ σ10 h5 => ?_)
        refine par_bd (ky_x5_put h5 (by decide)) (fun _ σ12 h6 => ?_)
        exact par_some h6
theorem ky_x10_ran_13 {N : Nat} {s0 : St} {σ : St} (hU : Ky s0 σ) : Par (x10_ran_13 N σ) (fun _ σ' => Ky s0 σ') := by
  unfold x10_ran_13
  exact par_some hU
theorem ky_x10_ran {N : Nat} {s0 : St} {σ : St} {a1 : Int32} (hU : Ky s0 σ) : Par (x10_ran N σ a1) (fun _ σ' => Ky s0 σ') := by
  unfold x10_ran
  refine par_if (fun _ => ?_) (fun _ => ?_)
  · exact (ky_x10_ran_13 hU)
  · refine par_if (fun _ => ?_) (fun _ => ?_)
    · refine par_gd (fun _ => ?_)
      exact par_some hU
    · exact (ky_x10_ran_13 hU)
theorem ky_x10_price {N : Nat} {s0 : St} {σ : St} {a1 : Int32} {a2 : Int32} (hU : Ky s0 σ) : Par (x10_price N σ a1 a2) (fun _ σ' => Ky s0 σ') := by
  unfold x10_price
  refine par_if (fun _ => ?_) (fun _ => ?_)
  · exact par_some hU
  · refine par_if (fun _ => ?_) (fun _ => ?_)
    · exact par_some hU
    · refine par_if (fun _ => ?_) (fun _ => ?_)
      · exact par_some hU
      · refine par_if (fun _ => ?_) (fun _ => ?_)
        · refine par_bd (ky_x5_put hU (by decide)) (fun _ σ2 h1 => ?_)
          exact par_some (ky_I h1 (by decide))
        · exact par_some hU
theorem ky_x10_mend {N : Nat} {s0 : St} {σ : St} (hU : Ky s0 σ) : Par (x10_mend N σ) (fun _ σ' => Ky s0 σ') := by
  unfold x10_mend
  refine par_gd (fun _ => ?_)
  refine par_if (fun _ => ?_) (fun _ => ?_)
  · exact par_some hU
  · refine par_bd (ky_x2_search hU) (fun _ σ3 h1 => ?_)
    exact par_some h1
theorem ky_x10_mended_56 {N : Nat} {s0 : St} {σ : St} (hU : Ky s0 σ) : Par (x10_mended_56 N σ) (fun _ σ' => Ky s0 σ') := by
  unfold x10_mended_56
  exact par_some hU
theorem ky_x10_mended {N : Nat} {s0 : St} {σ : St} {a1 : Int32} (hU : Ky s0 σ) : Par (x10_mended N σ a1) (fun _ σ' => Ky s0 σ') := by
  unfold x10_mended
  refine par_if (fun _ => ?_) (fun _ => ?_)
  · exact par_some hU
  · refine par_if (fun _ => ?_) (fun _ => ?_)
    · exact par_some hU
    · refine par_if (fun _ => ?_) (fun _ => ?_)
      · exact par_some hU
      · refine par_if (fun _ => ?_) (fun _ => ?_)
        · exact (ky_x10_mended_56 hU)
        · refine par_if (fun _ => ?_) (fun _ => ?_)
          · refine par_bd (ky_x5_at hU) (fun r1 σ2 h1 => ?_)
            exact par_some h1
          · exact (ky_x10_mended_56 hU)
theorem ky_x10_usesOfFact_44 {N : Nat} {s0 : St} {σ : St} {x1 : Int32} {x2 : Int32} {x3 : Int32} (hU : Ky s0 σ) {rec12 : St → Int32 → Int32 → Int32 → Option (Int32 × St)} (h_rec12 : ∀ (z0 : St) (z1 : Int32) (z2 : Int32) (z3 : Int32), Ky s0 z0 → Par (rec12 z0 z1 z2 z3) (fun _ σ' => Ky s0 σ')) : Par (x10_usesOfFact_44 N rec12 σ x1 x2 x3) (fun _ σ' => Ky s0 σ') := by
  unfold x10_usesOfFact_44
  exact (h_rec12 _ _ _ _ hU)
theorem ky_x10_usesOfFact_12_b {N : Nat} {s0 : St} {σ : St} {x1 : Int32} {x2 : Int32} {x3 : Int32} (hU : Ky s0 σ) {rec12 : St → Int32 → Int32 → Int32 → Option (Int32 × St)} (h_rec12 : ∀ (z0 : St) (z1 : Int32) (z2 : Int32) (z3 : Int32), Ky s0 z0 → Par (rec12 z0 z1 z2 z3) (fun _ σ' => Ky s0 σ')) : Par (x10_usesOfFact_12_b N rec12 σ x1 x2 x3) (fun _ σ' => Ky s0 σ') := by
  unfold x10_usesOfFact_12_b
  refine par_gd (fun _ => ?_)
  refine par_if (fun _ => ?_) (fun _ => ?_)
  · exact par_some hU
  · refine par_bd (ky_x5_at hU) (fun r4 σ5 h1 => ?_)
    refine par_if (fun _ => ?_) (fun _ => ?_)
    · exact (ky_x10_usesOfFact_44 h1 h_rec12)
    · exact (ky_x10_usesOfFact_44 h1 h_rec12)
theorem ky_x10_usesOfFact_12 {N : Nat} {s0 : St} : ∀ (n : Nat) (σ : St) (x1 : Int32) (x2 : Int32) (x3 : Int32), Ky s0 σ → Par (x10_usesOfFact_12 N  n σ x1 x2 x3) (fun _ σ' => Ky s0 σ') := by
  intro n
  induction n with
  | zero => intro σ x1 x2 x3 _ r σ' e; cases e
  | succ n ih =>
    intro σ x1 x2 x3 hU
    exact ky_x10_usesOfFact_12_b (N := N) hU (fun z0 z1 z2 z3 hz => ih z0 z1 z2 z3 hz)
theorem ky_x10_usesOfFact {N : Nat} {s0 : St} {σ : St} {a1 : Int32} (hU : Ky s0 σ) : Par (x10_usesOfFact N σ a1) (fun _ σ' => Ky s0 σ') := by
  unfold x10_usesOfFact
  refine par_bd (ky_x1_settle hU) (fun _ σ2 h1 => ?_)
  exact (ky_x10_usesOfFact_12  N _ _ _ _ h1)
theorem ky_x10_count {N : Nat} {s0 : St} {σ : St} {a1 : Int32} (hU : Ky s0 σ) : Par (x10_count N σ a1) (fun _ σ' => Ky s0 σ') := by
  unfold x10_count
  refine par_if (fun _ => ?_) (fun _ => ?_)
  · refine par_gd (fun _ => ?_)
    exact par_some hU
  · refine par_if (fun _ => ?_) (fun _ => ?_)
    · refine par_gd (fun _ => ?_)
      exact par_some hU
    · refine par_if (fun _ => ?_) (fun _ => ?_)
      · refine par_gd (fun _ => ?_)
        exact par_some hU
      · refine par_if (fun _ => ?_) (fun _ => ?_)
        · exact par_some hU
        · refine par_if (fun _ => ?_) (fun _ => ?_)
          · refine par_bd (ky_x10_usesOfFact hU) (fun r9 σ10 h1 => ?_)
            exact par_some h1
          · refine par_if (fun _ => ?_) (fun _ => ?_)
            · refine par_bd (ky_x10_usesOfFact hU) (fun r12 σ13 h2 => ?_)
              exact par_some h2
            · exact par_some hU
/-! the program that the FACTS speak of -/
def Kg (s0 σ : St) : Prop := gP σ 906 = gP s0 906 ∧ gP σ 700 = gP s0 700
theorem kg_I {s0 σ : St} {k : Nat} {v : Int32} (h : Kg s0 σ) (_ : True) : Kg s0 (sI σ k v) := h
theorem kg_A {s0 σ : St} {j i : Nat} {v : Int32} (h : Kg s0 σ) (_ : True) : Kg s0 (sA σ j i v) := h
theorem kg_L {s0 σ : St} {k : Nat} {v : Int64} (h : Kg s0 σ) (_ : True) : Kg s0 (sL σ k v) := h
theorem kg_Z {s0 σ : St} {j i : Nat} {v : Int64} (h : Kg s0 σ) : Kg s0 (sZ σ j i v) := h
theorem kg_x0_get {N : Nat} {s0 : St} {σ : St} {a0 : Nat} {a1 : Int32} {a2 : Int32} (hU : Kg s0 σ) : Par (x0_get N σ a0 a1 a2) (fun _ σ' => Kg s0 σ') := by
  unfold x0_get
  refine par_if (fun _ => ?_) (fun _ => ?_)
  · exact par_some hU
  · refine par_gd (fun _ => ?_)
    refine par_if (fun _ => ?_) (fun _ => ?_)
    · exact par_some hU
    · refine par_if (fun _ => ?_) (fun _ => ?_)
      · exact par_some hU
      · refine par_if (fun _ => ?_) (fun _ => ?_)
        · exact par_some hU
        · refine par_gd (fun _ => ?_)
          exact par_some hU
theorem kg_x0_arguments {N : Nat} {s0 : St} {σ : St} {a0 : Nat} {a1 : Int32} (hU : Kg s0 σ) : Par (x0_arguments N σ a0 a1) (fun _ σ' => Kg s0 σ') := by
  unfold x0_arguments
  refine par_gd (fun _ => ?_)
  refine par_bd (kg_x0_get hU) (fun r2 σ3 h1 => ?_)
  exact par_some h1
theorem kg_x0_argument {N : Nat} {s0 : St} {σ : St} {a0 : Nat} {a1 : Int32} {a2 : Int32} (hU : Kg s0 σ) : Par (x0_argument N σ a0 a1 a2) (fun _ σ' => Kg s0 σ') := by
  unfold x0_argument
  refine par_gd (fun _ => ?_)
  refine par_bd (kg_x0_get hU) (fun r2 σ3 h1 => ?_)
  exact par_some h1
theorem kg_x3_has {N : Nat} {s0 : St} {σ : St} {a0 : Nat} {a1 : Int32} (hU : Kg s0 σ) : Par (x3_has N σ a0 a1) (fun _ σ' => Kg s0 σ') := by
  unfold x3_has
  refine par_if (fun _ => ?_) (fun _ => ?_)
  · exact par_some hU
  · refine par_if (fun _ => ?_) (fun _ => ?_)
    · exact par_some hU
    · refine par_gd (fun _ => ?_)
      refine par_if (fun _ => ?_) (fun _ => ?_)
      · exact par_some hU
      · exact par_some hU
theorem kg_x5_at {N : Nat} {s0 : St} {σ : St} {a1 : Nat} {a2 : Int32} (hU : Kg s0 σ) : Par (x5_at N σ a1 a2) (fun _ σ' => Kg s0 σ') := by
  unfold x5_at
  refine par_if (fun _ => ?_) (fun _ => ?_)
  · exact par_some hU
  · refine par_gd (fun _ => ?_)
    refine par_if (fun _ => ?_) (fun _ => ?_)
    · exact par_some hU
    · refine par_gd (fun _ => ?_)
      exact par_some hU
theorem kg_x7_outers_33 {N : Nat} {s0 : St} {σ : St} {t0 : Int32} {t1 : Int32} (hU : Kg s0 σ) : Par (x7_outers_33 N σ t0 t1) (fun _ σ' => Kg s0 σ') := by
  unfold x7_outers_33
  exact par_some hU
theorem kg_x7_outers {N : Nat} {s0 : St} {σ : St} (hU : Kg s0 σ) : Par (x7_outers N σ) (fun _ σ' => Kg s0 σ') := by
  unfold x7_outers
  refine par_gd (fun _ => ?_)
  refine par_bd (kg_x5_at hU) (fun r2 σ3 h1 => ?_)
  refine par_gd (fun _ => ?_)
  refine par_bd (kg_x3_has h1) (fun r5 σ6 h2 => ?_)
  refine par_if (fun _ => ?_) (fun _ => ?_)
  · exact (kg_x7_outers_33 h2)
  · exact (kg_x7_outers_33 h2)
theorem kg_x5_put {N : Nat} {s0 : St} {σ : St} {a1 : Nat} {a2 : Int32} {a3 : Int32} (hU : Kg s0 σ) : Par (x5_put N σ a1 a2 a3) (fun _ σ' => Kg s0 σ') := by
  unfold x5_put
  refine par_if (fun _ => ?_) (fun _ => ?_)
  · exact par_some hU
  · refine par_gd (fun _ => ?_)
    refine par_if (fun _ => ?_) (fun _ => ?_)
    · exact par_some hU
    · refine par_gd (fun _ => ?_)
      exact par_some (kg_A hU (by decide))
theorem kg_x1_raise_20 {N : Nat} {s0 : St} {σ : St} {x1 : Int32} {t0 : Int32} (hU : Kg s0 σ) : Par (x1_raise_20 N σ x1 t0) (fun _ σ' => Kg s0 σ') := by
  unfold x1_raise_20
  refine par_bd (kg_x5_at hU) (fun r1 σ2 h1 => ?_)
  refine par_if (fun _ => ?_) (fun _ => ?_)
  · exact par_some h1
  · refine par_bd (kg_x5_put h1) (fun _ σ4 h2 => ?_)
    exact par_some (kg_I (kg_I h2 (by decide)) (by decide))
theorem kg_x1_raise {N : Nat} {s0 : St} {σ : St} {a1 : Int32} {a2 : Int32} (hU : Kg s0 σ) : Par (x1_raise N σ a1 a2) (fun _ σ' => Kg s0 σ') := by
  unfold x1_raise
  refine par_if (fun _ => ?_) (fun _ => ?_)
  · exact (kg_x1_raise_20 hU)
  · exact (kg_x1_raise_20 hU)
theorem kg_x1_reachEntry_33_b {N : Nat} {s0 : St} {σ : St} {x1 : Int32} (hU : Kg s0 σ) {rec33 : St → Int32 → Option (Unit × St)} (h_rec33 : ∀ (z0 : St) (z1 : Int32), Kg s0 z0 → Par (rec33 z0 z1) (fun _ σ' => Kg s0 σ')) : Par (x1_reachEntry_33_b N rec33 σ x1) (fun _ σ' => Kg s0 σ') := by
  unfold x1_reachEntry_33_b
  refine par_bd (kg_x7_outers hU) (fun r4 σ5 h1 => ?_)
  refine par_if (fun _ => ?_) (fun _ => ?_)
  · exact par_some h1
  · refine par_bd (kg_x5_at h1) (fun r6 σ7 h2 => ?_)
    refine par_bd (kg_x1_raise h2) (fun _ σ9 h3 => ?_)
    refine par_bd (kg_x1_raise h3) (fun _ σ11 h4 => ?_)
    refine par_bd (kg_x1_raise h4) (fun _ σ13 h5 => ?_)
    exact (h_rec33 _ _ h5)
theorem kg_x1_reachEntry_33 {N : Nat} {s0 : St} : ∀ (n : Nat) (σ : St) (x1 : Int32), Kg s0 σ → Par (x1_reachEntry_33 N  n σ x1) (fun _ σ' => Kg s0 σ') := by
  intro n
  induction n with
  | zero => intro σ x1 _ r σ' e; cases e
  | succ n ih =>
    intro σ x1 hU
    exact kg_x1_reachEntry_33_b (N := N) hU (fun z0 z1 hz => ih z0 z1 hz)
theorem kg_x1_reachEntry {N : Nat} {s0 : St} {σ : St} (hU : Kg s0 σ) : Par (x1_reachEntry N σ) (fun _ σ' => Kg s0 σ') := by
  unfold x1_reachEntry
  refine par_gd (fun _ => ?_)
  refine par_bd (kg_x3_has hU) (fun r2 σ3 h1 => ?_)
  refine par_if (fun _ => ?_) (fun _ => ?_)
  · exact par_some h1
  · exact (kg_x1_reachEntry_33  N _ _ (kg_I h1 (by decide)))
theorem kg_x3_parameter {N : Nat} {s0 : St} {σ : St} {a0 : Nat} {a1 : Int32} {a2 : Int32} (hU : Kg s0 σ) : Par (x3_parameter N σ a0 a1 a2) (fun _ σ' => Kg s0 σ') := by
  unfold x3_parameter
  refine par_gd (fun _ => ?_)
  refine par_bd (kg_x5_at hU) (fun r2 σ3 h1 => ?_)
  exact par_some h1
theorem kg_x1_with_47 {N : Nat} {s0 : St} {σ : St} {x2 : Int32} {x3 : Int32} {x4 : Int64} {t0 : Int64} (hU : Kg s0 σ) : Par (x1_with_47 N σ x2 x3 x4 t0) (fun _ σ' => Kg s0 σ') := by
  unfold x1_with_47
  refine par_if (fun _ => ?_) (fun _ => ?_)
  · exact par_some hU
  · exact par_some hU
theorem kg_x1_with {N : Nat} {s0 : St} {σ : St} {a1 : Int64} {a2 : Int32} {a3 : Int32} (hU : Kg s0 σ) : Par (x1_with N σ a1 a2 a3) (fun _ σ' => Kg s0 σ') := by
  unfold x1_with
  refine par_if (fun _ => ?_) (fun _ => ?_)
  · exact par_some hU
  · refine par_if (fun _ => ?_) (fun _ => ?_)
    · exact par_some hU
    · refine par_if (fun _ => ?_) (fun _ => ?_)
      · exact (kg_x1_with_47 hU)
      · exact (kg_x1_with_47 hU)
theorem kg_x1_join {N : Nat} {s0 : St} {σ : St} {a1 : Int32} {a2 : Int64} (hU : Kg s0 σ) : Par (x1_join N σ a1 a2) (fun _ σ' => Kg s0 σ') := by
  unfold x1_join
  refine par_if (fun _ => ?_) (fun _ => ?_)
  · exact par_some hU
  · refine par_if (fun _ => ?_) (fun _ => ?_)
    · exact par_some hU
    · refine par_gd (fun _ => ?_)
      refine par_gd (fun _ => ?_)
      refine par_if (fun _ => ?_) (fun _ => ?_)
      · exact par_some hU
      · refine par_gd (fun _ => ?_)
        refine par_gd (fun _ => ?_)
        refine par_bd (kg_x5_put (kg_Z hU)) (fun _ σ2 h1 => ?_)
        exact par_some (kg_I h1 (by decide))
theorem kg_x1_openRoutines_96 {N : Nat} {s0 : St} {σ : St} {x1 : Int32} (hU : Kg s0 σ) {rec2 : St → Int32 → Option (Unit × St)} (h_rec2 : ∀ (z0 : St) (z1 : Int32), Kg s0 z0 → Par (rec2 z0 z1) (fun _ σ' => Kg s0 σ')) : Par (x1_openRoutines_96 N rec2 σ x1) (fun _ σ' => Kg s0 σ') := by
  unfold x1_openRoutines_96
  exact (h_rec2 _ _ hU)
theorem kg_x1_openRoutines_80 {N : Nat} {s0 : St} {σ : St} {x1 : Int32} {x2 : Int64} (hU : Kg s0 σ) {rec2 : St → Int32 → Option (Unit × St)} (h_rec2 : ∀ (z0 : St) (z1 : Int32), Kg s0 z0 → Par (rec2 z0 z1) (fun _ σ' => Kg s0 σ')) : Par (x1_openRoutines_80 N rec2 σ x1 x2) (fun _ σ' => Kg s0 σ') := by
  unfold x1_openRoutines_80
  refine par_gd (fun _ => ?_)
  refine par_bd (kg_x5_at hU) (fun r5 σ6 h1 => ?_)
  refine par_bd (kg_x1_join h1) (fun _ σ8 h2 => ?_)
  exact (kg_x1_openRoutines_96 h2 h_rec2)
theorem kg_x1_openRoutines_26_b {N : Nat} {s0 : St} {σ : St} {x1 : Int32} {x2 : Int64} {x4 : Int32} (hU : Kg s0 σ) {rec2 : St → Int32 → Option (Unit × St)} (h_rec2 : ∀ (z0 : St) (z1 : Int32), Kg s0 z0 → Par (rec2 z0 z1) (fun _ σ' => Kg s0 σ')) {rec26 : St → Int32 → Int64 → Int32 → Option (Unit × St)} (h_rec26 : ∀ (z0 : St) (z1 : Int32) (z2 : Int64) (z3 : Int32), Kg s0 z0 → Par (rec26 z0 z1 z2 z3) (fun _ σ' => Kg s0 σ')) : Par (x1_openRoutines_26_b N rec2 rec26 σ x1 x2 x4) (fun _ σ' => Kg s0 σ') := by
  unfold x1_openRoutines_26_b
  refine par_gd (fun _ => ?_)
  refine par_bd (kg_x5_at hU) (fun r2 σ3 h1 => ?_)
  refine par_if (fun _ => ?_) (fun _ => ?_)
  · exact (kg_x1_openRoutines_80 h1 h_rec2)
  · refine par_bd (kg_x5_at h1) (fun r9 σ10 h2 => ?_)
    refine par_gd (fun _ => ?_)
    refine par_bd (kg_x3_parameter h2) (fun r12 σ13 h3 => ?_)
    refine par_bd (kg_x1_with h3) (fun r14 σ15 h4 => ?_)
    exact (h_rec26 _ _ _ _ h4)
theorem kg_x1_openRoutines_26 {N : Nat} {s0 : St} {rec2 : St → Int32 → Option (Unit × St)} (h_rec2 : ∀ (z0 : St) (z1 : Int32), Kg s0 z0 → Par (rec2 z0 z1) (fun _ σ' => Kg s0 σ')) : ∀ (n : Nat) (σ : St) (x1 : Int32) (x2 : Int64) (x4 : Int32), Kg s0 σ → Par (x1_openRoutines_26 N rec2 n σ x1 x2 x4) (fun _ σ' => Kg s0 σ') := by
  intro n
  induction n with
  | zero => intro σ x1 x2 x4 _ r σ' e; cases e
  | succ n ih =>
    intro σ x1 x2 x4 hU
    exact kg_x1_openRoutines_26_b (N := N) hU h_rec2 (fun z0 z1 z2 z3 hz => ih z0 z1 z2 z3 hz)
theorem kg_x1_openRoutines_2_b {N : Nat} {s0 : St} {σ : St} {x1 : Int32} (hU : Kg s0 σ) {rec2 : St → Int32 → Option (Unit × St)} (h_rec2 : ∀ (z0 : St) (z1 : Int32), Kg s0 z0 → Par (rec2 z0 z1) (fun _ σ' => Kg s0 σ')) : Par (x1_openRoutines_2_b N rec2 σ x1) (fun _ σ' => Kg s0 σ') := by
  unfold x1_openRoutines_2_b
  refine par_if (fun _ => ?_) (fun _ => ?_)
  · exact par_some hU
  · refine par_if (fun _ => ?_) (fun _ => ?_)
    · exact (kg_x1_openRoutines_96 hU h_rec2)
    · exact (kg_x1_openRoutines_26 h_rec2 N _ _ _ _ hU)
theorem kg_x1_openRoutines_2 {N : Nat} {s0 : St} : ∀ (n : Nat) (σ : St) (x1 : Int32), Kg s0 σ → Par (x1_openRoutines_2 N  n σ x1) (fun _ σ' => Kg s0 σ') := by
  intro n
  induction n with
  | zero => intro σ x1 _ r σ' e; cases e
  | succ n ih =>
    intro σ x1 hU
    exact kg_x1_openRoutines_2_b (N := N) hU (fun z0 z1 hz => ih z0 z1 hz)
theorem kg_x1_openRoutines {N : Nat} {s0 : St} {σ : St} (hU : Kg s0 σ) : Par (x1_openRoutines N σ) (fun _ σ' => Kg s0 σ') := by
  unfold x1_openRoutines
  exact (kg_x1_openRoutines_2  N _ _ hU)
theorem kg_x1_factOf {N : Nat} {s0 : St} {σ : St} {a1 : Int64} {a2 : Int32} (hU : Kg s0 σ) : Par (x1_factOf N σ a1 a2) (fun _ σ' => Kg s0 σ') := by
  unfold x1_factOf
  exact par_some hU
theorem kg_x1_narrow {N : Nat} {s0 : St} {σ : St} {a1 : Int64} {a2 : Int32} {a3 : Int32} (hU : Kg s0 σ) : Par (x1_narrow N σ a1 a2 a3) (fun _ σ' => Kg s0 σ') := by
  unfold x1_narrow
  refine par_bd (kg_x1_factOf hU) (fun r1 σ2 h1 => ?_)
  refine par_bd (kg_x1_with h1) (fun r3 σ4 h2 => ?_)
  exact par_some h2
theorem kg_x1_fork_94 {N : Nat} {s0 : St} {σ : St} {x1 : Int32} {x6 : Int64} {x8 : Int64} {t0 : Int32} {t1 : Int32} (hU : Kg s0 σ) : Par (x1_fork_94 N σ x1 x6 x8 t0 t1) (fun _ σ' => Kg s0 σ') := by
  unfold x1_fork_94
  refine par_gd (fun _ => ?_)
  refine par_bd (kg_x0_get hU) (fun r8 σ9 h1 => ?_)
  refine par_bd (kg_x5_at h1) (fun r10 σ11 h2 => ?_)
  refine par_bd (kg_x5_put h2) (fun _ σ13 h3 => ?_)
  refine par_bd (kg_x1_join h3) (fun _ σ15 h4 => ?_)
  refine par_gd (fun _ => ?_)
  refine par_bd (kg_x0_get h4) (fun r17 σ18 h5 => ?_)
  refine par_bd (kg_x1_join h5) (fun _ σ20 h6 => ?_)
  exact par_some h6
theorem kg_x1_fork_82 {N : Nat} {s0 : St} {σ : St} {x1 : Int32} {x6 : Int64} {x8 : Int64} {t0 : Int32} (hU : Kg s0 σ) : Par (x1_fork_82 N σ x1 x6 x8 t0) (fun _ σ' => Kg s0 σ') := by
  unfold x1_fork_82
  refine par_if (fun _ => ?_) (fun _ => ?_)
  · exact (kg_x1_fork_94 hU)
  · exact (kg_x1_fork_94 hU)
theorem kg_x1_fork_70 {N : Nat} {s0 : St} {σ : St} {x1 : Int32} {x6 : Int64} {x8 : Int64} (hU : Kg s0 σ) : Par (x1_fork_70 N σ x1 x6 x8) (fun _ σ' => Kg s0 σ') := by
  unfold x1_fork_70
  refine par_if (fun _ => ?_) (fun _ => ?_)
  · exact (kg_x1_fork_82 hU)
  · exact (kg_x1_fork_82 hU)
theorem kg_x1_fork_46 {N : Nat} {s0 : St} {σ : St} {x1 : Int32} {x2 : Int64} {x5 : Int32} {t0 : Int32} (hU : Kg s0 σ) : Par (x1_fork_46 N σ x1 x2 x5 t0) (fun _ σ' => Kg s0 σ') := by
  unfold x1_fork_46
  refine par_bd (kg_x1_narrow hU) (fun r21 σ22 h1 => ?_)
  refine par_bd (kg_x1_narrow h1) (fun r23 σ24 h2 => ?_)
  exact (kg_x1_fork_70 h2)
theorem kg_x1_fork {N : Nat} {s0 : St} {σ : St} {a1 : Int32} {a2 : Int64} (hU : Kg s0 σ) : Par (x1_fork N σ a1 a2) (fun _ σ' => Kg s0 σ') := by
  unfold x1_fork
  refine par_gd (fun _ => ?_)
  refine par_bd (kg_x0_get hU) (fun r2 σ3 h1 => ?_)
  refine par_gd (fun _ => ?_)
  refine par_bd (kg_x0_get h1) (fun r5 σ6 h2 => ?_)
  refine par_if (fun _ => ?_) (fun _ => ?_)
  · exact (kg_x1_fork_70 h2)
  · refine par_if (fun _ => ?_) (fun _ => ?_)
    · exact (kg_x1_fork_46 h2)
    · exact (kg_x1_fork_46 h2)
theorem kg_x1_noteUse {N : Nat} {s0 : St} {σ : St} {a1 : Int32} {a2 : Int32} (hU : Kg s0 σ) : Par (x1_noteUse N σ a1 a2) (fun _ σ' => Kg s0 σ') := by
  unfold x1_noteUse
  refine par_bd (kg_x5_at hU) (fun r1 σ2 h1 => ?_)
  refine par_bd (kg_x5_put h1) (fun _ σ4 h2 => ?_)
  exact par_some h2
theorem kg_x1_workCall_77 {N : Nat} {s0 : St} {σ : St} {x4 : Int32} (hU : Kg s0 σ) : Par (x1_workCall_77 N σ x4) (fun _ σ' => Kg s0 σ') := by
  unfold x1_workCall_77
  refine par_bd (kg_x5_at hU) (fun r4 σ5 h1 => ?_)
  refine par_if (fun _ => ?_) (fun _ => ?_)
  · exact par_some (kg_L h1 (by decide))
  · exact par_some h1
theorem kg_x1_workCall_33_b {N : Nat} {s0 : St} {σ : St} {x1 : Int32} {x2 : Int64} {x4 : Int32} {x5 : Int32} (hU : Kg s0 σ) {rec33 : St → Int32 → Int64 → Int32 → Int32 → Option (Int32 × St)} (h_rec33 : ∀ (z0 : St) (z1 : Int32) (z2 : Int64) (z3 : Int32) (z4 : Int32), Kg s0 z0 → Par (rec33 z0 z1 z2 z3 z4) (fun _ σ' => Kg s0 σ')) : Par (x1_workCall_33_b N rec33 σ x1 x2 x4 x5) (fun _ σ' => Kg s0 σ') := by
  unfold x1_workCall_33_b
  refine par_gd (fun _ => ?_)
  refine par_bd (kg_x0_arguments hU) (fun r2 σ3 h1 => ?_)
  refine par_if (fun _ => ?_) (fun _ => ?_)
  · exact (kg_x1_workCall_77 h1)
  · refine par_gd (fun _ => ?_)
    refine par_bd (kg_x0_argument h1) (fun r7 σ8 h2 => ?_)
    refine par_bd (kg_x1_factOf h2) (fun r9 σ10 h3 => ?_)
    refine par_bd (kg_x1_raise h3) (fun _ σ12 h4 => ?_)
    exact (h_rec33 _ _ _ _ _ h4)
theorem kg_x1_workCall_33 {N : Nat} {s0 : St} : ∀ (n : Nat) (σ : St) (x1 : Int32) (x2 : Int64) (x4 : Int32) (x5 : Int32), Kg s0 σ → Par (x1_workCall_33 N  n σ x1 x2 x4 x5) (fun _ σ' => Kg s0 σ') := by
  intro n
  induction n with
  | zero => intro σ x1 x2 x4 x5 _ r σ' e; cases e
  | succ n ih =>
    intro σ x1 x2 x4 x5 hU
    exact kg_x1_workCall_33_b (N := N) hU (fun z0 z1 z2 z3 z4 hz => ih z0 z1 z2 z3 z4 hz)
theorem kg_x1_workCall {N : Nat} {s0 : St} {σ : St} {a1 : Int32} {a2 : Int64} {a3 : Int32} (hU : Kg s0 σ) : Par (x1_workCall N σ a1 a2 a3) (fun _ σ' => Kg s0 σ') := by
  unfold x1_workCall
  refine par_if (fun _ => ?_) (fun _ => ?_)
  · exact (kg_x1_workCall_33  N _ _ _ _ _ (kg_I (kg_I hU (by decide)) (by decide)))
  · exact (kg_x1_workCall_33  N _ _ _ _ _ hU)
theorem kg_x1_work {N : Nat} {s0 : St} {σ : St} {a1 : Int32} {a2 : Int64} (hU : Kg s0 σ) : Par (x1_work N σ a1 a2) (fun _ σ' => Kg s0 σ') := by
  unfold x1_work
  refine par_gd (fun _ => ?_)
  refine par_bd (kg_x0_get hU) (fun r2 σ3 h1 => ?_)
  refine par_gd (fun _ => ?_)
  refine par_bd (kg_x0_get h1) (fun r5 σ6 h2 => ?_)
  refine par_gd (fun _ => ?_)
  refine par_bd (kg_x0_get (kg_L h2 (by decide))) (fun r8 σ9 h3 => ?_)
  refine par_if (fun _ => ?_) (fun _ => ?_)
  · refine par_bd (kg_x1_raise h3) (fun _ σ12 h4 => ?_)
    refine par_bd (kg_x1_raise h4) (fun _ σ14 h5 => ?_)
    exact par_some h5
  · refine par_if (fun _ => ?_) (fun _ => ?_)
    · refine par_bd (kg_x1_factOf h3) (fun r16 σ17 h6 => ?_)
      refine par_bd (kg_x1_raise h6) (fun _ σ19 h7 => ?_)
      refine par_bd (kg_x1_factOf h7) (fun r20 σ21 h8 => ?_)
      refine par_bd (kg_x1_raise h8) (fun _ σ23 h9 => ?_)
      exact par_some h9
    · refine par_if (fun _ => ?_) (fun _ => ?_)
      · refine par_bd (kg_x1_factOf h3) (fun r25 σ26 h10 => ?_)
        exact par_some h10
      · refine par_if (fun _ => ?_) (fun _ => ?_)
        · refine par_gd (fun _ => ?_)
          refine par_bd (kg_x0_get h3) (fun r29 σ30 h11 => ?_)
          refine par_bd (kg_x1_factOf h11) (fun r31 σ32 h12 => ?_)
          refine par_bd (kg_x1_noteUse h12) (fun _ σ34 h13 => ?_)
          refine par_bd (kg_x1_narrow h13) (fun r35 σ36 h14 => ?_)
          refine par_bd (kg_x5_at (kg_L h14 (by decide))) (fun r37 σ38 h15 => ?_)
          exact par_some h15
        · refine par_if (fun _ => ?_) (fun _ => ?_)
          · refine par_bd (kg_x1_workCall h3) (fun r40 σ41 h16 => ?_)
            exact par_some h16
          · exact par_some h3
theorem kg_x1_finish {N : Nat} {s0 : St} {σ : St} {a1 : Int32} {a2 : Int32} {a3 : Int32} (hU : Kg s0 σ) : Par (x1_finish N σ a1 a2 a3) (fun _ σ' => Kg s0 σ') := by
  unfold x1_finish
  refine par_gd (fun _ => ?_)
  refine par_bd (kg_x0_get hU) (fun r2 σ3 h1 => ?_)
  refine par_if (fun _ => ?_) (fun _ => ?_)
  · refine par_bd (kg_x1_with h1) (fun r27 σ28 h2 => ?_)
    refine par_bd (kg_x1_join h2) (fun _ σ30 h3 => ?_)
    exact par_some h3
  · refine par_if (fun _ => ?_) (fun _ => ?_)
    · refine par_gd (fun _ => ?_)
      refine par_bd (kg_x0_get h1) (fun r12 σ13 h4 => ?_)
      refine par_bd (kg_x1_factOf h4) (fun r14 σ15 h5 => ?_)
      refine par_bd (kg_x1_noteUse h5) (fun _ σ17 h6 => ?_)
      refine par_bd (kg_x1_narrow h6) (fun r18 σ19 h7 => ?_)
      refine par_if (fun _ => ?_) (fun _ => ?_)
      · exact par_some (kg_L h7 (by decide))
      · refine par_gd (fun _ => ?_)
        refine par_bd (kg_x0_get (kg_L h7 (by decide))) (fun r21 σ22 h8 => ?_)
        refine par_bd (kg_x1_raise h8) (fun _ σ24 h9 => ?_)
        refine par_bd (kg_x1_join h9) (fun _ σ26 h10 => ?_)
        exact par_some h10
    · refine par_if (fun _ => ?_) (fun _ => ?_)
      · refine par_gd (fun _ => ?_)
        refine par_bd (kg_x0_get h1) (fun r7 σ8 h11 => ?_)
        refine par_bd (kg_x1_raise h11) (fun _ σ10 h12 => ?_)
        exact par_some h12
      · refine par_bd (kg_x1_join h1) (fun _ σ5 h13 => ?_)
        exact par_some h13
theorem kg_x1_advance {N : Nat} {s0 : St} {σ : St} {a1 : Int32} {a2 : Int64} (hU : Kg s0 σ) : Par (x1_advance N σ a1 a2) (fun _ σ' => Kg s0 σ') := by
  unfold x1_advance
  refine par_gd (fun _ => ?_)
  refine par_bd (kg_x0_get hU) (fun r2 σ3 h1 => ?_)
  refine par_if (fun _ => ?_) (fun _ => ?_)
  · refine par_gd (fun _ => ?_)
    refine par_bd (kg_x0_get h1) (fun r16 σ17 h2 => ?_)
    refine par_bd (kg_x1_join h2) (fun _ σ19 h3 => ?_)
    exact par_some h3
  · refine par_if (fun _ => ?_) (fun _ => ?_)
    · refine par_gd (fun _ => ?_)
      refine par_bd (kg_x0_get h1) (fun r11 σ12 h4 => ?_)
      refine par_bd (kg_x1_raise h4) (fun _ σ14 h5 => ?_)
      exact par_some h5
    · refine par_if (fun _ => ?_) (fun _ => ?_)
      · refine par_bd (kg_x1_fork h1) (fun _ σ9 h6 => ?_)
        exact par_some h6
      · refine par_bd (kg_x1_work h1) (fun r4 σ5 h7 => ?_)
        refine par_if (fun _ => ?_) (fun _ => ?_)
        · exact par_some h7
        · refine par_bd (kg_x1_finish h7) (fun _ σ7 h8 => ?_)
          exact par_some h8
theorem kg_x1_settle_145 {N : Nat} {s0 : St} {σ : St} {x3 : Int32} (hU : Kg s0 σ) {rec37 : St → Int32 → Option (Unit × St)} (h_rec37 : ∀ (z0 : St) (z1 : Int32), Kg s0 z0 → Par (rec37 z0 z1) (fun _ σ' => Kg s0 σ')) : Par (x1_settle_145 N rec37 σ x3) (fun _ σ' => Kg s0 σ') := by
  unfold x1_settle_145
  exact (h_rec37 _ _ hU)
theorem kg_x1_settle_139 {N : Nat} {s0 : St} {σ : St} {x3 : Int32} {x4 : Int32} (hU : Kg s0 σ) {rec37 : St → Int32 → Option (Unit × St)} (h_rec37 : ∀ (z0 : St) (z1 : Int32), Kg s0 z0 → Par (rec37 z0 z1) (fun _ σ' => Kg s0 σ')) {rec63 : St → Int32 → Int32 → Option (Unit × St)} (h_rec63 : ∀ (z0 : St) (z1 : Int32) (z2 : Int32), Kg s0 z0 → Par (rec63 z0 z1 z2) (fun _ σ' => Kg s0 σ')) : Par (x1_settle_139 N rec37 rec63 σ x3 x4) (fun _ σ' => Kg s0 σ') := by
  unfold x1_settle_139
  exact (h_rec63 _ _ _ hU)
theorem kg_x1_settle_63_b {N : Nat} {s0 : St} {σ : St} {x3 : Int32} {x4 : Int32} (hU : Kg s0 σ) {rec37 : St → Int32 → Option (Unit × St)} (h_rec37 : ∀ (z0 : St) (z1 : Int32), Kg s0 z0 → Par (rec37 z0 z1) (fun _ σ' => Kg s0 σ')) {rec63 : St → Int32 → Int32 → Option (Unit × St)} (h_rec63 : ∀ (z0 : St) (z1 : Int32) (z2 : Int32), Kg s0 z0 → Par (rec63 z0 z1 z2) (fun _ σ' => Kg s0 σ')) : Par (x1_settle_63_b N rec37 rec63 σ x3 x4) (fun _ σ' => Kg s0 σ') := by
  unfold x1_settle_63_b
  refine par_gd (fun _ => ?_)
  refine par_if (fun _ => ?_) (fun _ => ?_)
  · exact (kg_x1_settle_145 hU h_rec37)
  · refine par_if (fun _ => ?_) (fun _ => ?_)
    · exact (kg_x1_settle_145 hU h_rec37)
    · refine par_gd (fun _ => ?_)
      refine par_if (fun _ => ?_) (fun _ => ?_)
      · exact (kg_x1_settle_139 hU h_rec37 h_rec63)
      · refine par_bd (kg_x5_at hU) (fun r8 σ9 h1 => ?_)
        refine par_if (fun _ => ?_) (fun _ => ?_)
        · exact (kg_x1_settle_139 h1 h_rec37 h_rec63)
        · refine par_bd (kg_x5_put h1) (fun _ σ11 h2 => ?_)
          refine par_gd (fun _ => ?_)
          refine par_bd (kg_x1_advance h2) (fun _ σ13 h3 => ?_)
          exact (kg_x1_settle_139 h3 h_rec37 h_rec63)
theorem kg_x1_settle_63 {N : Nat} {s0 : St} {rec37 : St → Int32 → Option (Unit × St)} (h_rec37 : ∀ (z0 : St) (z1 : Int32), Kg s0 z0 → Par (rec37 z0 z1) (fun _ σ' => Kg s0 σ')) : ∀ (n : Nat) (σ : St) (x3 : Int32) (x4 : Int32), Kg s0 σ → Par (x1_settle_63 N rec37 n σ x3 x4) (fun _ σ' => Kg s0 σ') := by
  intro n
  induction n with
  | zero => intro σ x3 x4 _ r σ' e; cases e
  | succ n ih =>
    intro σ x3 x4 hU
    exact kg_x1_settle_63_b (N := N) hU h_rec37 (fun z0 z1 z2 hz => ih z0 z1 z2 hz)
theorem kg_x1_settle_37_b {N : Nat} {s0 : St} {σ : St} {x3 : Int32} (hU : Kg s0 σ) {rec37 : St → Int32 → Option (Unit × St)} (h_rec37 : ∀ (z0 : St) (z1 : Int32), Kg s0 z0 → Par (rec37 z0 z1) (fun _ σ' => Kg s0 σ')) : Par (x1_settle_37_b N rec37 σ x3) (fun _ σ' => Kg s0 σ') := by
  unfold x1_settle_37_b
  refine par_if (fun _ => ?_) (fun _ => ?_)
  · exact par_some (kg_I hU (by decide))
  · refine par_if (fun _ => ?_) (fun _ => ?_)
    · exact par_some (kg_I hU (by decide))
    · refine par_bd (kg_x1_openRoutines (kg_I hU (by decide))) (fun _ σ6 h1 => ?_)
      exact (kg_x1_settle_63 h_rec37 N _ _ _ h1)
theorem kg_x1_settle_37 {N : Nat} {s0 : St} : ∀ (n : Nat) (σ : St) (x3 : Int32), Kg s0 σ → Par (x1_settle_37 N  n σ x3) (fun _ σ' => Kg s0 σ') := by
  intro n
  induction n with
  | zero => intro σ x3 _ r σ' e; cases e
  | succ n ih =>
    intro σ x3 hU
    exact kg_x1_settle_37_b (N := N) hU (fun z0 z1 hz => ih z0 z1 hz)
def Cq (s0 σ : St) : Prop := gI σ 908 = 0 → gP σ 906 = gP σ 700
theorem cq_I {s0 σ : St} {k : Nat} {v : Int32} (h : Cq s0 σ) (hk : k ≠ 908) : Cq s0 (sI σ k v) := fun e => h ((gI_ne hk).symm.trans e)
theorem cq_A {s0 σ : St} {j i : Nat} {v : Int32} (h : Cq s0 σ) (_ : True) : Cq s0 (sA σ j i v) := h
theorem cq_P {s0 σ : St} {k : Nat} {v : Nat} (h : Cq s0 σ) (hk : k ≠ 906 ∧ k ≠ 700) : Cq s0 (sP σ k v) := fun e => by
  show (if 906 = k then v else gP σ 906) = (if 700 = k then v else gP σ 700)
  rw [if_neg (fun e => hk.1 e.symm), if_neg (fun e => hk.2 e.symm)]
  exact h e
theorem cq_L {s0 σ : St} {k : Nat} {v : Int64} (h : Cq s0 σ) (_ : True) : Cq s0 (sL σ k v) := h
theorem cq_Z {s0 σ : St} {j i : Nat} {v : Int64} (h : Cq s0 σ) : Cq s0 (sZ σ j i v) := h
theorem cq_17 {N : Nat} {s0 σ : St} {x : Int64} : Par (x1_settle_17 N σ x) (fun _ σ' => Cq s0 σ') := by
  unfold x1_settle_17
  refine par_bd (c_clear1 (G := gP σ 700) rfl) (fun _ σ2 z => par_bd (kg_x1_reachEntry (s0 := sL σ2 912 x) ⟨rfl, rfl⟩) (fun _ σ4 h4 => ?_))
  refine (kg_x1_settle_37 (s0 := sL σ2 912 x) N (sI σ4 909 1) 0 h4).mono (fun _ σ' y _ => ?_)
  exact y.1.trans (z.2.2.1.trans (Eq.trans (z.2.2.2.2.2.2 700 (by decide)).symm y.2.symm))
theorem cq_x1_settle {N : Nat} {s0 : St} {σ : St} {a1 : Int64} (hU : Cq s0 σ) : Par (x1_settle N σ a1) (fun _ σ' => Cq s0 σ') := by
  unfold x1_settle
  exact par_if (fun _ => par_if (fun _ => par_some hU) (fun _ => cq_17)) (fun _ => cq_17)
theorem cq_x0_get {N : Nat} {s0 : St} {σ : St} {a0 : Nat} {a1 : Int32} {a2 : Int32} (hU : Cq s0 σ) : Par (x0_get N σ a0 a1 a2) (fun _ σ' => Cq s0 σ') := by
  unfold x0_get
  refine par_if (fun _ => ?_) (fun _ => ?_)
  · exact par_some hU
  · refine par_gd (fun _ => ?_)
    refine par_if (fun _ => ?_) (fun _ => ?_)
    · exact par_some hU
    · refine par_if (fun _ => ?_) (fun _ => ?_)
      · exact par_some hU
      · refine par_if (fun _ => ?_) (fun _ => ?_)
        · exact par_some hU
        · refine par_gd (fun _ => ?_)
          exact par_some hU
theorem cq_x0_arguments {N : Nat} {s0 : St} {σ : St} {a0 : Nat} {a1 : Int32} (hU : Cq s0 σ) : Par (x0_arguments N σ a0 a1) (fun _ σ' => Cq s0 σ') := by
  unfold x0_arguments
  refine par_gd (fun _ => ?_)
  refine par_bd (cq_x0_get hU) (fun r2 σ3 h1 => ?_)
  exact par_some h1
theorem cq_x0_argument {N : Nat} {s0 : St} {σ : St} {a0 : Nat} {a1 : Int32} {a2 : Int32} (hU : Cq s0 σ) : Par (x0_argument N σ a0 a1 a2) (fun _ σ' => Cq s0 σ') := by
  unfold x0_argument
  refine par_gd (fun _ => ?_)
  refine par_bd (cq_x0_get hU) (fun r2 σ3 h1 => ?_)
  exact par_some h1
theorem cq_j_fill_5_b {N : Nat} {s0 : St} {σ : St} {x0 : Nat} {x1 : Int32} {x2 : Int32} {x3 : Int32} (hU : Cq s0 σ) {rec5 : St → Nat → Int32 → Int32 → Int32 → Option (Unit × St)} (h_rec5 : ∀ (z0 : St) (z1 : Nat) (z2 : Int32) (z3 : Int32) (z4 : Int32), Cq s0 z0 → Par (rec5 z0 z1 z2 z3 z4) (fun _ σ' => Cq s0 σ')) : Par (j_fill_5_b N rec5 σ x0 x1 x2 x3) (fun _ σ' => Cq s0 σ') := by
  unfold j_fill_5_b
  refine par_if (fun _ => ?_) (fun _ => ?_)
  · exact par_some hU
  · refine par_gd (fun _ => ?_)
    refine par_gd (fun _ => ?_)
    exact (h_rec5 _ _ _ _ _ (cq_A hU (by decide)))
theorem cq_j_fill_5 {N : Nat} {s0 : St} : ∀ (n : Nat) (σ : St) (x0 : Nat) (x1 : Int32) (x2 : Int32) (x3 : Int32), Cq s0 σ → Par (j_fill_5 N  n σ x0 x1 x2 x3) (fun _ σ' => Cq s0 σ') := by
  intro n
  induction n with
  | zero => intro σ x0 x1 x2 x3 _ r σ' e; cases e
  | succ n ih =>
    intro σ x0 x1 x2 x3 hU
    exact cq_j_fill_5_b (N := N) hU (fun z0 z1 z2 z3 z4 hz => ih z0 z1 z2 z3 z4 hz)
theorem cq_j_fill {N : Nat} {s0 : St} {σ : St} {a1 : Nat} {a2 : Int32} (hU : Cq s0 σ) : Par (j_fill N σ a1 a2) (fun _ σ' => Cq s0 σ') := by
  unfold j_fill
  refine par_gd (fun _ => ?_)
  exact (cq_j_fill_5  N _ _ _ _ _ hU)
theorem cq_x3_has {N : Nat} {s0 : St} {σ : St} {a0 : Nat} {a1 : Int32} (hU : Cq s0 σ) : Par (x3_has N σ a0 a1) (fun _ σ' => Cq s0 σ') := by
  unfold x3_has
  refine par_if (fun _ => ?_) (fun _ => ?_)
  · exact par_some hU
  · refine par_if (fun _ => ?_) (fun _ => ?_)
    · exact par_some hU
    · refine par_gd (fun _ => ?_)
      refine par_if (fun _ => ?_) (fun _ => ?_)
      · exact par_some hU
      · exact par_some hU
theorem cq_x5_at {N : Nat} {s0 : St} {σ : St} {a1 : Nat} {a2 : Int32} (hU : Cq s0 σ) : Par (x5_at N σ a1 a2) (fun _ σ' => Cq s0 σ') := by
  unfold x5_at
  refine par_if (fun _ => ?_) (fun _ => ?_)
  · exact par_some hU
  · refine par_gd (fun _ => ?_)
    refine par_if (fun _ => ?_) (fun _ => ?_)
    · exact par_some hU
    · refine par_gd (fun _ => ?_)
      exact par_some hU
theorem cq_x7_outers_33 {N : Nat} {s0 : St} {σ : St} {t0 : Int32} {t1 : Int32} (hU : Cq s0 σ) : Par (x7_outers_33 N σ t0 t1) (fun _ σ' => Cq s0 σ') := by
  unfold x7_outers_33
  exact par_some hU
theorem cq_x7_outers {N : Nat} {s0 : St} {σ : St} (hU : Cq s0 σ) : Par (x7_outers N σ) (fun _ σ' => Cq s0 σ') := by
  unfold x7_outers
  refine par_gd (fun _ => ?_)
  refine par_bd (cq_x5_at hU) (fun r2 σ3 h1 => ?_)
  refine par_gd (fun _ => ?_)
  refine par_bd (cq_x3_has h1) (fun r5 σ6 h2 => ?_)
  refine par_if (fun _ => ?_) (fun _ => ?_)
  · exact (cq_x7_outers_33 h2)
  · exact (cq_x7_outers_33 h2)
theorem cq_x5_put {N : Nat} {s0 : St} {σ : St} {a1 : Nat} {a2 : Int32} {a3 : Int32} (hU : Cq s0 σ) : Par (x5_put N σ a1 a2 a3) (fun _ σ' => Cq s0 σ') := by
  unfold x5_put
  refine par_if (fun _ => ?_) (fun _ => ?_)
  · exact par_some hU
  · refine par_gd (fun _ => ?_)
    refine par_if (fun _ => ?_) (fun _ => ?_)
    · exact par_some hU
    · refine par_gd (fun _ => ?_)
      exact par_some (cq_A hU (by decide))
theorem cq_x3_parameter {N : Nat} {s0 : St} {σ : St} {a0 : Nat} {a1 : Int32} {a2 : Int32} (hU : Cq s0 σ) : Par (x3_parameter N σ a0 a1 a2) (fun _ σ' => Cq s0 σ') := by
  unfold x3_parameter
  refine par_gd (fun _ => ?_)
  refine par_bd (cq_x5_at hU) (fun r2 σ3 h1 => ?_)
  exact par_some h1
theorem cq_x1_guardsNeeded_31 {N : Nat} {s0 : St} {σ : St} {x1 : Int32} {x2 : Int32} (hU : Cq s0 σ) {rec4 : St → Int32 → Int32 → Option (Int32 × St)} (h_rec4 : ∀ (z0 : St) (z1 : Int32) (z2 : Int32), Cq s0 z0 → Par (rec4 z0 z1 z2) (fun _ σ' => Cq s0 σ')) : Par (x1_guardsNeeded_31 N rec4 σ x1 x2) (fun _ σ' => Cq s0 σ') := by
  unfold x1_guardsNeeded_31
  exact (h_rec4 _ _ _ hU)
theorem cq_x1_guardsNeeded_4_b {N : Nat} {s0 : St} {σ : St} {x1 : Int32} {x2 : Int32} (hU : Cq s0 σ) {rec4 : St → Int32 → Int32 → Option (Int32 × St)} (h_rec4 : ∀ (z0 : St) (z1 : Int32) (z2 : Int32), Cq s0 z0 → Par (rec4 z0 z1 z2) (fun _ σ' => Cq s0 σ')) : Par (x1_guardsNeeded_4_b N rec4 σ x1 x2) (fun _ σ' => Cq s0 σ') := by
  unfold x1_guardsNeeded_4_b
  refine par_gd (fun _ => ?_)
  refine par_if (fun _ => ?_) (fun _ => ?_)
  · exact par_some hU
  · refine par_bd (cq_x5_at hU) (fun r2 σ3 h1 => ?_)
    refine par_if (fun _ => ?_) (fun _ => ?_)
    · exact (cq_x1_guardsNeeded_31 h1 h_rec4)
    · exact (cq_x1_guardsNeeded_31 h1 h_rec4)
theorem cq_x1_guardsNeeded_4 {N : Nat} {s0 : St} : ∀ (n : Nat) (σ : St) (x1 : Int32) (x2 : Int32), Cq s0 σ → Par (x1_guardsNeeded_4 N  n σ x1 x2) (fun _ σ' => Cq s0 σ') := by
  intro n
  induction n with
  | zero => intro σ x1 x2 _ r σ' e; cases e
  | succ n ih =>
    intro σ x1 x2 hU
    exact cq_x1_guardsNeeded_4_b (N := N) hU (fun z0 z1 z2 hz => ih z0 z1 z2 hz)
theorem cq_x1_guardsNeeded {N : Nat} {s0 : St} {σ : St} (hU : Cq s0 σ) : Par (x1_guardsNeeded N σ) (fun _ σ' => Cq s0 σ') := by
  unfold x1_guardsNeeded
  exact (cq_x1_guardsNeeded_4  N _ _ _ hU)
theorem cq_x2_findCandidates_91 {N : Nat} {s0 : St} {σ : St} {x1 : Int32} (hU : Cq s0 σ) {rec7 : St → Int32 → Option (Unit × St)} (h_rec7 : ∀ (z0 : St) (z1 : Int32), Cq s0 z0 → Par (rec7 z0 z1) (fun _ σ' => Cq s0 σ')) : Par (x2_findCandidates_91 N rec7 σ x1) (fun _ σ' => Cq s0 σ') := by
  unfold x2_findCandidates_91
  exact (h_rec7 _ _ hU)
theorem cq_x2_findCandidates_49 {N : Nat} {s0 : St} {σ : St} {x1 : Int32} {t0 : Int32} (hU : Cq s0 σ) {rec7 : St → Int32 → Option (Unit × St)} (h_rec7 : ∀ (z0 : St) (z1 : Int32), Cq s0 z0 → Par (rec7 z0 z1) (fun _ σ' => Cq s0 σ')) : Par (x2_findCandidates_49 N rec7 σ x1 t0) (fun _ σ' => Cq s0 σ') := by
  unfold x2_findCandidates_49
  refine par_if (fun _ => ?_) (fun _ => ?_)
  · refine par_bd (cq_x5_at hU) (fun r1 σ2 h1 => ?_)
    refine par_if (fun _ => ?_) (fun _ => ?_)
    · refine par_bd (cq_x5_put h1) (fun _ σ4 h2 => ?_)
      exact (cq_x2_findCandidates_91 (cq_I h2 (by decide)) h_rec7)
    · exact (cq_x2_findCandidates_91 h1 h_rec7)
  · exact (cq_x2_findCandidates_91 hU h_rec7)
theorem cq_x2_findCandidates_48 {N : Nat} {s0 : St} {σ : St} {x1 : Int32} (hU : Cq s0 σ) {rec7 : St → Int32 → Option (Unit × St)} (h_rec7 : ∀ (z0 : St) (z1 : Int32), Cq s0 z0 → Par (rec7 z0 z1) (fun _ σ' => Cq s0 σ')) : Par (x2_findCandidates_48 N rec7 σ x1) (fun _ σ' => Cq s0 σ') := by
  unfold x2_findCandidates_48
  exact (cq_x2_findCandidates_49 hU h_rec7)
theorem cq_x2_findCandidates_7_b {N : Nat} {s0 : St} {σ : St} {x1 : Int32} (hU : Cq s0 σ) {rec7 : St → Int32 → Option (Unit × St)} (h_rec7 : ∀ (z0 : St) (z1 : Int32), Cq s0 z0 → Par (rec7 z0 z1) (fun _ σ' => Cq s0 σ')) : Par (x2_findCandidates_7_b N rec7 σ x1) (fun _ σ' => Cq s0 σ') := by
  unfold x2_findCandidates_7_b
  refine par_if (fun _ => ?_) (fun _ => ?_)
  · exact par_some hU
  · refine par_if (fun _ => ?_) (fun _ => ?_)
    · exact par_some hU
    · refine par_if (fun _ => ?_) (fun _ => ?_)
      · exact (cq_x2_findCandidates_48 hU h_rec7)
      · refine par_if (fun _ => ?_) (fun _ => ?_)
        · exact (cq_x2_findCandidates_49 hU h_rec7)
        · exact (cq_x2_findCandidates_48 hU h_rec7)
theorem cq_x2_findCandidates_7 {N : Nat} {s0 : St} : ∀ (n : Nat) (σ : St) (x1 : Int32), Cq s0 σ → Par (x2_findCandidates_7 N  n σ x1) (fun _ σ' => Cq s0 σ') := by
  intro n
  induction n with
  | zero => intro σ x1 _ r σ' e; cases e
  | succ n ih =>
    intro σ x1 hU
    exact cq_x2_findCandidates_7_b (N := N) hU (fun z0 z1 hz => ih z0 z1 hz)
theorem cq_x2_findCandidates {N : Nat} {s0 : St} {σ : St} (hU : Cq s0 σ) : Par (x2_findCandidates N σ) (fun _ σ' => Cq s0 σ') := by
  unfold x2_findCandidates
  exact (cq_x2_findCandidates_7  N _ _ (cq_I hU (by decide)))
theorem cq_x2_marksOf_37 {N : Nat} {s0 : St} {σ : St} {x1 : Int32} {x2 : Int64} {x4 : Int32} (hU : Cq s0 σ) {rec5 : St → Int32 → Int64 → Int32 → Option (Int64 × St)} (h_rec5 : ∀ (z0 : St) (z1 : Int32) (z2 : Int64) (z3 : Int32), Cq s0 z0 → Par (rec5 z0 z1 z2 z3) (fun _ σ' => Cq s0 σ')) : Par (x2_marksOf_37 N rec5 σ x1 x2 x4) (fun _ σ' => Cq s0 σ') := by
  unfold x2_marksOf_37
  exact (h_rec5 _ _ _ _ hU)
theorem cq_x2_marksOf_5_b {N : Nat} {s0 : St} {σ : St} {x1 : Int32} {x2 : Int64} {x4 : Int32} (hU : Cq s0 σ) {rec5 : St → Int32 → Int64 → Int32 → Option (Int64 × St)} (h_rec5 : ∀ (z0 : St) (z1 : Int32) (z2 : Int64) (z3 : Int32), Cq s0 z0 → Par (rec5 z0 z1 z2 z3) (fun _ σ' => Cq s0 σ')) : Par (x2_marksOf_5_b N rec5 σ x1 x2 x4) (fun _ σ' => Cq s0 σ') := by
  unfold x2_marksOf_5_b
  refine par_if (fun _ => ?_) (fun _ => ?_)
  · exact par_some hU
  · refine par_if (fun _ => ?_) (fun _ => ?_)
    · exact (cq_x2_marksOf_37 hU h_rec5)
    · refine par_bd (cq_x5_at hU) (fun r1 σ2 h1 => ?_)
      exact (cq_x2_marksOf_37 h1 h_rec5)
theorem cq_x2_marksOf_5 {N : Nat} {s0 : St} : ∀ (n : Nat) (σ : St) (x1 : Int32) (x2 : Int64) (x4 : Int32), Cq s0 σ → Par (x2_marksOf_5 N  n σ x1 x2 x4) (fun _ σ' => Cq s0 σ') := by
  intro n
  induction n with
  | zero => intro σ x1 x2 x4 _ r σ' e; cases e
  | succ n ih =>
    intro σ x1 x2 x4 hU
    exact cq_x2_marksOf_5_b (N := N) hU (fun z0 z1 z2 z3 hz => ih z0 z1 z2 z3 hz)
theorem cq_x2_marksOf {N : Nat} {s0 : St} {σ : St} {a1 : Int32} (hU : Cq s0 σ) : Par (x2_marksOf N σ a1) (fun _ σ' => Cq s0 σ') := by
  unfold x2_marksOf
  exact (cq_x2_marksOf_5  N _ _ _ _ hU)
theorem cq_x2_priceKind {N : Nat} {s0 : St} {σ : St} {a1 : Int32} (hU : Cq s0 σ) : Par (x2_priceKind N σ a1) (fun _ σ' => Cq s0 σ') := by
  unfold x2_priceKind
  refine par_if (fun _ => ?_) (fun _ => ?_)
  · refine par_if (fun _ => ?_) (fun _ => ?_)
    · exact par_some hU
    · exact par_some hU
  · exact par_some hU
theorem cq_x2_priceOf_41 {N : Nat} {s0 : St} {σ : St} {x1 : Int32} {x2 : Int32} {x3 : Int32} (hU : Cq s0 σ) {rec4 : St → Int32 → Int32 → Int32 → Option (Int32 × St)} (h_rec4 : ∀ (z0 : St) (z1 : Int32) (z2 : Int32) (z3 : Int32), Cq s0 z0 → Par (rec4 z0 z1 z2 z3) (fun _ σ' => Cq s0 σ')) : Par (x2_priceOf_41 N rec4 σ x1 x2 x3) (fun _ σ' => Cq s0 σ') := by
  unfold x2_priceOf_41
  exact (h_rec4 _ _ _ _ hU)
theorem cq_x2_priceOf_4_b {N : Nat} {s0 : St} {σ : St} {x1 : Int32} {x2 : Int32} {x3 : Int32} (hU : Cq s0 σ) {rec4 : St → Int32 → Int32 → Int32 → Option (Int32 × St)} (h_rec4 : ∀ (z0 : St) (z1 : Int32) (z2 : Int32) (z3 : Int32), Cq s0 z0 → Par (rec4 z0 z1 z2 z3) (fun _ σ' => Cq s0 σ')) : Par (x2_priceOf_4_b N rec4 σ x1 x2 x3) (fun _ σ' => Cq s0 σ') := by
  unfold x2_priceOf_4_b
  refine par_if (fun _ => ?_) (fun _ => ?_)
  · exact par_some hU
  · refine par_if (fun _ => ?_) (fun _ => ?_)
    · exact (cq_x2_priceOf_41 hU h_rec4)
    · refine par_bd (cq_x5_at hU) (fun r1 σ2 h1 => ?_)
      refine par_bd (cq_x2_priceKind h1) (fun r3 σ4 h2 => ?_)
      refine par_bd (cq_x5_at h2) (fun r5 σ6 h3 => ?_)
      exact (cq_x2_priceOf_41 h3 h_rec4)
theorem cq_x2_priceOf_4 {N : Nat} {s0 : St} : ∀ (n : Nat) (σ : St) (x1 : Int32) (x2 : Int32) (x3 : Int32), Cq s0 σ → Par (x2_priceOf_4 N  n σ x1 x2 x3) (fun _ σ' => Cq s0 σ') := by
  intro n
  induction n with
  | zero => intro σ x1 x2 x3 _ r σ' e; cases e
  | succ n ih =>
    intro σ x1 x2 x3 hU
    exact cq_x2_priceOf_4_b (N := N) hU (fun z0 z1 z2 z3 hz => ih z0 z1 z2 z3 hz)
theorem cq_x2_priceOf {N : Nat} {s0 : St} {σ : St} {a1 : Int32} (hU : Cq s0 σ) : Par (x2_priceOf N σ a1) (fun _ σ' => Cq s0 σ') := by
  unfold x2_priceOf
  exact (cq_x2_priceOf_4  N _ _ _ _ hU)
theorem cq_x2_consider_41 {N : Nat} {s0 : St} {σ : St} {x1 : Int32} {x2 : Int32} {x3 : Int32} (hU : Cq s0 σ) : Par (x2_consider_41 N σ x1 x2 x3) (fun _ σ' => Cq s0 σ') := by
  unfold x2_consider_41
  exact par_some (cq_I (cq_I (cq_I hU (by decide)) (by decide)) (by decide))
theorem cq_x2_consider {N : Nat} {s0 : St} {σ : St} {a1 : Int32} {a2 : Int32} (hU : Cq s0 σ) : Par (x2_consider N σ a1 a2) (fun _ σ' => Cq s0 σ') := by
  unfold x2_consider
  refine par_bd (cq_x2_priceOf hU) (fun r1 σ2 h1 => ?_)
  refine par_bd (cq_x5_at h1) (fun r3 σ4 h2 => ?_)
  refine par_if (fun _ => ?_) (fun _ => ?_)
  · exact (cq_x2_consider_41 h2)
  · refine par_if (fun _ => ?_) (fun _ => ?_)
    · refine par_if (fun _ => ?_) (fun _ => ?_)
      · exact par_some h2
      · exact (cq_x2_consider_41 h2)
    · exact par_some h2
theorem cq_x2_isTooDear_41 {N : Nat} {s0 : St} {σ : St} (hU : Cq s0 σ) : Par (x2_isTooDear_41 N σ) (fun _ σ' => Cq s0 σ') := by
  unfold x2_isTooDear_41
  exact par_some hU
theorem cq_x2_isTooDear {N : Nat} {s0 : St} {σ : St} {a1 : Int32} {a2 : Int32} (hU : Cq s0 σ) : Par (x2_isTooDear N σ a1 a2) (fun _ σ' => Cq s0 σ') := by
  unfold x2_isTooDear
  refine par_bd (cq_x2_priceOf hU) (fun r1 σ2 h1 => ?_)
  refine par_bd (cq_x5_at h1) (fun r3 σ4 h2 => ?_)
  refine par_if (fun _ => ?_) (fun _ => ?_)
  · exact (cq_x2_isTooDear_41 h2)
  · refine par_if (fun _ => ?_) (fun _ => ?_)
    · refine par_if (fun _ => ?_) (fun _ => ?_)
      · exact par_some h2
      · exact (cq_x2_isTooDear_41 h2)
    · exact par_some h2
theorem cq_x2_nextBelow_48 {N : Nat} {s0 : St} {σ : St} {x1 : Int32} {x2 : Int32} {x3 : Int32} (hU : Cq s0 σ) {rec5 : St → Int32 → Int32 → Int32 → Option (Int32 × St)} (h_rec5 : ∀ (z0 : St) (z1 : Int32) (z2 : Int32) (z3 : Int32), Cq s0 z0 → Par (rec5 z0 z1 z2 z3) (fun _ σ' => Cq s0 σ')) : Par (x2_nextBelow_48 N rec5 σ x1 x2 x3) (fun _ σ' => Cq s0 σ') := by
  unfold x2_nextBelow_48
  exact (h_rec5 _ _ _ _ hU)
theorem cq_x2_nextBelow_5_b {N : Nat} {s0 : St} {σ : St} {x1 : Int32} {x2 : Int32} {x3 : Int32} (hU : Cq s0 σ) {rec5 : St → Int32 → Int32 → Int32 → Option (Int32 × St)} (h_rec5 : ∀ (z0 : St) (z1 : Int32) (z2 : Int32) (z3 : Int32), Cq s0 z0 → Par (rec5 z0 z1 z2 z3) (fun _ σ' => Cq s0 σ')) : Par (x2_nextBelow_5_b N rec5 σ x1 x2 x3) (fun _ σ' => Cq s0 σ') := by
  unfold x2_nextBelow_5_b
  refine par_if (fun _ => ?_) (fun _ => ?_)
  · exact par_some hU
  · refine par_if (fun _ => ?_) (fun _ => ?_)
    · refine par_bd (cq_x2_isTooDear hU) (fun r1 σ2 h1 => ?_)
      refine par_if (fun _ => ?_) (fun _ => ?_)
      · exact (cq_x2_nextBelow_48 h1 h_rec5)
      · exact par_some h1
    · exact (cq_x2_nextBelow_48 hU h_rec5)
theorem cq_x2_nextBelow_5 {N : Nat} {s0 : St} : ∀ (n : Nat) (σ : St) (x1 : Int32) (x2 : Int32) (x3 : Int32), Cq s0 σ → Par (x2_nextBelow_5 N  n σ x1 x2 x3) (fun _ σ' => Cq s0 σ') := by
  intro n
  induction n with
  | zero => intro σ x1 x2 x3 _ r σ' e; cases e
  | succ n ih =>
    intro σ x1 x2 x3 hU
    exact cq_x2_nextBelow_5_b (N := N) hU (fun z0 z1 z2 z3 hz => ih z0 z1 z2 z3 hz)
theorem cq_x2_nextBelow {N : Nat} {s0 : St} {σ : St} {a1 : Int32} {a2 : Int32} (hU : Cq s0 σ) : Par (x2_nextBelow N σ a1 a2) (fun _ σ' => Cq s0 σ') := by
  unfold x2_nextBelow
  exact (cq_x2_nextBelow_5  N _ _ _ _ hU)
theorem cq_x2_nameOfMark {N : Nat} {s0 : St} {σ : St} {a1 : Int32} (hU : Cq s0 σ) : Par (x2_nameOfMark N σ a1) (fun _ σ' => Cq s0 σ') := by
  unfold x2_nameOfMark
  refine par_if (fun _ => ?_) (fun _ => ?_)
  · refine par_if (fun _ => ?_) (fun _ => ?_)
    · exact par_some hU
    · exact par_some hU
  · exact par_some hU
theorem cq_x2_nameHeld_58 {N : Nat} {s0 : St} {σ : St} {x1 : Int32} (hU : Cq s0 σ) {rec7 : St → Int32 → Option (Unit × St)} (h_rec7 : ∀ (z0 : St) (z1 : Int32), Cq s0 z0 → Par (rec7 z0 z1) (fun _ σ' => Cq s0 σ')) : Par (x2_nameHeld_58 N rec7 σ x1) (fun _ σ' => Cq s0 σ') := by
  unfold x2_nameHeld_58
  exact (h_rec7 _ _ hU)
theorem cq_x2_nameHeld_7_b {N : Nat} {s0 : St} {σ : St} {x1 : Int32} (hU : Cq s0 σ) {rec7 : St → Int32 → Option (Unit × St)} (h_rec7 : ∀ (z0 : St) (z1 : Int32), Cq s0 z0 → Par (rec7 z0 z1) (fun _ σ' => Cq s0 σ')) : Par (x2_nameHeld_7_b N rec7 σ x1) (fun _ σ' => Cq s0 σ') := by
  unfold x2_nameHeld_7_b
  refine par_if (fun _ => ?_) (fun _ => ?_)
  · exact par_some hU
  · refine par_if (fun _ => ?_) (fun _ => ?_)
    · exact (cq_x2_nameHeld_58 hU h_rec7)
    · refine par_bd (cq_x5_at hU) (fun r1 σ2 h1 => ?_)
      refine par_bd (cq_x2_nameOfMark h1) (fun r3 σ4 h2 => ?_)
      refine par_bd (cq_x5_put h2) (fun _ σ6 h3 => ?_)
      exact (cq_x2_nameHeld_58 (cq_I h3 (by decide)) h_rec7)
theorem cq_x2_nameHeld_7 {N : Nat} {s0 : St} : ∀ (n : Nat) (σ : St) (x1 : Int32), Cq s0 σ → Par (x2_nameHeld_7 N  n σ x1) (fun _ σ' => Cq s0 σ') := by
  intro n
  induction n with
  | zero => intro σ x1 _ r σ' e; cases e
  | succ n ih =>
    intro σ x1 hU
    exact cq_x2_nameHeld_7_b (N := N) hU (fun z0 z1 hz => ih z0 z1 hz)
theorem cq_x2_nameHeld {N : Nat} {s0 : St} {σ : St} (hU : Cq s0 σ) : Par (x2_nameHeld N σ) (fun _ σ' => Cq s0 σ') := by
  unfold x2_nameHeld
  exact (cq_x2_nameHeld_7  N _ _ (cq_I hU (by decide)))
theorem cq_x2_search_108 {N : Nat} {s0 : St} {σ : St} (hU : Cq s0 σ) : Par (x2_search_108 N σ) (fun _ σ' => Cq s0 σ') := by
  unfold x2_search_108
  refine par_bd (cq_x2_nameHeld hU) (fun _ σ10 h1 => ?_)
  exact par_some (cq_I h1 (by decide))
theorem cq_x2_search_62_b {N : Nat} {s0 : St} {σ : St} {x1 : Int32} (hU : Cq s0 σ) {rec62 : St → Int32 → Option (Unit × St)} (h_rec62 : ∀ (z0 : St) (z1 : Int32), Cq s0 z0 → Par (rec62 z0 z1) (fun _ σ' => Cq s0 σ')) : Par (x2_search_62_b N rec62 σ x1) (fun _ σ' => Cq s0 σ') := by
  unfold x2_search_62_b
  refine par_if (fun _ => ?_) (fun _ => ?_)
  · exact (cq_x2_search_108 hU)
  · refine par_bd (cq_x2_marksOf hU) (fun r11 σ12 h1 => ?_)
    refine par_bd (cq_x1_settle h1) (fun _ σ14 h2 => ?_)
    refine par_bd (cq_x1_guardsNeeded h2) (fun r15 σ16 h3 => ?_)
    refine par_bd (cq_x2_consider h3) (fun _ σ18 h4 => ?_)
    refine par_bd (cq_x2_nextBelow h4) (fun r19 σ20 h5 => ?_)
    exact (h_rec62 _ _ h5)
theorem cq_x2_search_62 {N : Nat} {s0 : St} : ∀ (n : Nat) (σ : St) (x1 : Int32), Cq s0 σ → Par (x2_search_62 N  n σ x1) (fun _ σ' => Cq s0 σ') := by
  intro n
  induction n with
  | zero => intro σ x1 _ r σ' e; cases e
  | succ n ih =>
    intro σ x1 hU
    exact cq_x2_search_62_b (N := N) hU (fun z0 z1 hz => ih z0 z1 hz)
theorem cq_x2_search {N : Nat} {s0 : St} {σ : St} (hU : Cq s0 σ) : Par (x2_search N σ) (fun _ σ' => Cq s0 σ') := by
  unfold x2_search
  refine par_if (fun _ => ?_) (fun _ => ?_)
  · exact par_some hU
  · refine par_bd (cq_x1_settle hU) (fun _ σ2 h1 => ?_)
    refine par_bd (cq_x2_findCandidates h1) (fun _ σ4 h2 => ?_)
    refine par_bd (cq_x1_guardsNeeded (cq_I h2 (by decide))) (fun r5 σ6 h3 => ?_)
    refine par_bd (cq_x5_at (cq_I h3 (by decide))) (fun r7 σ8 h4 => ?_)
    exact (cq_x2_search_62  N _ _ (cq_I h4 (by decide)))
theorem cq_x6_clearNames_2_b {N : Nat} {s0 : St} {σ : St} {x1 : Int32} (hU : Cq s0 σ) {rec2 : St → Int32 → Option (Unit × St)} (h_rec2 : ∀ (z0 : St) (z1 : Int32), Cq s0 z0 → Par (rec2 z0 z1) (fun _ σ' => Cq s0 σ')) : Par (x6_clearNames_2_b N rec2 σ x1) (fun _ σ' => Cq s0 σ') := by
  unfold x6_clearNames_2_b
  refine par_if (fun _ => ?_) (fun _ => ?_)
  · exact par_some hU
  · refine par_bd (cq_x5_put hU) (fun _ σ2 h1 => ?_)
    exact (h_rec2 _ _ h1)
theorem cq_x6_clearNames_2 {N : Nat} {s0 : St} : ∀ (n : Nat) (σ : St) (x1 : Int32), Cq s0 σ → Par (x6_clearNames_2 N  n σ x1) (fun _ σ' => Cq s0 σ') := by
  intro n
  induction n with
  | zero => intro σ x1 _ r σ' e; cases e
  | succ n ih =>
    intro σ x1 hU
    exact cq_x6_clearNames_2_b (N := N) hU (fun z0 z1 hz => ih z0 z1 hz)
theorem cq_x6_clearNames {N : Nat} {s0 : St} {σ : St} (hU : Cq s0 σ) : Par (x6_clearNames N σ) (fun _ σ' => Cq s0 σ') := by
  unfold x6_clearNames
  exact (cq_x6_clearNames_2  N _ _ hU)
theorem cq_x6_make {N : Nat} {s0 : St} {σ : St} {a1 : Int32} {a2 : Int32} (hU : Cq s0 σ) : Par (x6_make N σ a1 a2) (fun _ σ' => Cq s0 σ') := by
  unfold x6_make
  refine par_if (fun _ => ?_) (fun _ => ?_)
  · refine par_bd (cq_x5_put (cq_I hU (by decide))) (fun _ σ2 h1 => ?_)
    refine par_bd (cq_x5_put h1) (fun _ σ4 h2 => ?_)
    exact par_some h2
  · exact par_some (cq_I hU (by decide))
theorem cq_x6_makeLoop {N : Nat} {s0 : St} {σ : St} (hU : Cq s0 σ) : Par (x6_makeLoop N σ) (fun _ σ' => Cq s0 σ') := by
  unfold x6_makeLoop
  refine par_bd (cq_x6_make hU) (fun r1 σ2 h1 => ?_)
  exact par_some h1
theorem cq_x6_setName {N : Nat} {s0 : St} {σ : St} {a1 : Int32} {a2 : Int32} (hU : Cq s0 σ) : Par (x6_setName N σ a1 a2) (fun _ σ' => Cq s0 σ') := by
  unfold x6_setName
  refine par_bd (cq_x5_put hU) (fun _ σ2 h1 => ?_)
  exact par_some h1
theorem cq_x6_begin_132 {N : Nat} {s0 : St} {σ : St} (hU : Cq s0 σ) : Par (x6_begin_132 N σ) (fun _ σ' => Cq s0 σ') := by
  unfold x6_begin_132
  refine par_gd (fun _ => ?_)
  refine par_bd (cq_x5_at hU) (fun r7 σ8 h1 => ?_)
  exact par_some (cq_I h1 (by decide))
theorem cq_x6_begin_123 {N : Nat} {s0 : St} {σ : St} {x1 : Int32} {x3 : Int32} {t1 : Int32} {t2 : Int32} (hU : Cq s0 σ) {rec68 : St → Int32 → Int32 → Option (Unit × St)} (h_rec68 : ∀ (z0 : St) (z1 : Int32) (z2 : Int32), Cq s0 z0 → Par (rec68 z0 z1 z2) (fun _ σ' => Cq s0 σ')) : Par (x6_begin_123 N rec68 σ x1 x3 t1 t2) (fun _ σ' => Cq s0 σ') := by
  unfold x6_begin_123
  refine par_bd (cq_x6_setName hU) (fun _ σ13 h1 => ?_)
  exact (h_rec68 _ _ _ h1)
theorem cq_x6_begin_92 {N : Nat} {s0 : St} {σ : St} {x1 : Int32} {x3 : Int32} {t0 : Int32} (hU : Cq s0 σ) {rec68 : St → Int32 → Int32 → Option (Unit × St)} (h_rec68 : ∀ (z0 : St) (z1 : Int32) (z2 : Int32), Cq s0 z0 → Par (rec68 z0 z1 z2) (fun _ σ' => Cq s0 σ')) : Par (x6_begin_92 N rec68 σ x1 x3 t0) (fun _ σ' => Cq s0 σ') := by
  unfold x6_begin_92
  refine par_gd (fun _ => ?_)
  refine par_bd (cq_x3_parameter hU) (fun r10 σ11 h1 => ?_)
  refine par_if (fun _ => ?_) (fun _ => ?_)
  · exact (cq_x6_begin_123 h1 h_rec68)
  · refine par_bd (cq_x6_makeLoop h1) (fun r14 σ15 h2 => ?_)
    exact (cq_x6_begin_123 h2 h_rec68)
theorem cq_x6_begin_68_b {N : Nat} {s0 : St} {σ : St} {x1 : Int32} {x3 : Int32} (hU : Cq s0 σ) {rec68 : St → Int32 → Int32 → Option (Unit × St)} (h_rec68 : ∀ (z0 : St) (z1 : Int32) (z2 : Int32), Cq s0 z0 → Par (rec68 z0 z1 z2) (fun _ σ' => Cq s0 σ')) : Par (x6_begin_68_b N rec68 σ x1 x3) (fun _ σ' => Cq s0 σ') := by
  unfold x6_begin_68_b
  refine par_bd (cq_x7_outers hU) (fun r4 σ5 h1 => ?_)
  refine par_if (fun _ => ?_) (fun _ => ?_)
  · exact (cq_x6_begin_132 h1)
  · refine par_if (fun _ => ?_) (fun _ => ?_)
    · exact (cq_x6_begin_92 h1 h_rec68)
    · exact (cq_x6_begin_92 h1 h_rec68)
theorem cq_x6_begin_68 {N : Nat} {s0 : St} : ∀ (n : Nat) (σ : St) (x1 : Int32) (x3 : Int32), Cq s0 σ → Par (x6_begin_68 N  n σ x1 x3) (fun _ σ' => Cq s0 σ') := by
  intro n
  induction n with
  | zero => intro σ x1 x3 _ r σ' e; cases e
  | succ n ih =>
    intro σ x1 x3 hU
    exact cq_x6_begin_68_b (N := N) hU (fun z0 z1 z2 hz => ih z0 z1 z2 hz)
theorem cq_x6_begin {N : Nat} {s0 : St} {σ : St} {a1 : Int32} {a2 : Int32} (hU : Cq s0 σ) : Par (x6_begin N σ a1 a2) (fun _ σ' => Cq s0 σ') := by
  unfold x6_begin
  refine par_gd (fun _ => ?_)
  refine par_bd (cq_x6_clearNames (cq_I (cq_I (cq_I (cq_I (cq_I (cq_I (cq_I (cq_I (cq_P (cq_P hU (by decide)) (by decide)) (by decide)) (by decide)) (by decide)) (by decide)) (by decide)) (by decide)) (by decide)) (by decide))) (fun _ σ3 h1 => ?_)
  exact (cq_x6_begin_68  N _ _ _ h1)
theorem cq_x6_leave {N : Nat} {s0 : St} {σ : St} {a1 : Int32} (hU : Cq s0 σ) : Par (x6_leave N σ a1) (fun _ σ' => Cq s0 σ') := by
  unfold x6_leave
  refine par_if (fun _ => ?_) (fun _ => ?_)
  · refine par_if (fun _ => ?_) (fun _ => ?_)
    · exact par_some (cq_I hU (by decide))
    · exact par_some (cq_I hU (by decide))
  · refine par_bd (cq_x5_at (cq_I hU (by decide))) (fun r1 σ2 h1 => ?_)
    exact par_some (cq_I (cq_I (cq_I h1 (by decide)) (by decide)) (by decide))
theorem cq_x6_nameOf {N : Nat} {s0 : St} {σ : St} {a1 : Int32} (hU : Cq s0 σ) : Par (x6_nameOf N σ a1) (fun _ σ' => Cq s0 σ') := by
  unfold x6_nameOf
  refine par_bd (cq_x5_at hU) (fun r1 σ2 h1 => ?_)
  exact par_some h1
theorem cq_x6_store {N : Nat} {s0 : St} {σ : St} {a1 : Int32} (hU : Cq s0 σ) : Par (x6_store N σ a1) (fun _ σ' => Cq s0 σ') := by
  unfold x6_store
  refine par_if (fun _ => ?_) (fun _ => ?_)
  · refine par_gd (fun _ => ?_)
    refine par_bd (cq_x0_get (cq_I hU (by decide))) (fun r7 σ8 h1 => ?_)
    exact par_some (cq_I h1 (by decide))
  · refine par_gd (fun _ => ?_)
    refine par_bd (cq_x0_get hU) (fun r2 σ3 h2 => ?_)
    refine par_bd (cq_x5_put h2) (fun _ σ5 h3 => ?_)
    exact par_some h3
theorem cq_x6_finish {N : Nat} {s0 : St} {σ : St} (hU : Cq s0 σ) : Par (x6_finish N σ) (fun _ σ' => Cq s0 σ') := by
  unfold x6_finish
  refine par_gd (fun _ => ?_)
  refine par_bd (cq_x0_get (cq_I hU (by decide))) (fun r2 σ3 h1 => ?_)
  refine par_gd (fun _ => ?_)
  refine par_bd (cq_x0_get h1) (fun r5 σ6 h2 => ?_)
  refine par_if (fun _ => ?_) (fun _ => ?_)
  · refine par_bd (cq_x6_leave h2) (fun _ σ14 h3 => ?_)
    exact par_some h3
  · refine par_if (fun _ => ?_) (fun _ => ?_)
    · refine par_bd (cq_x6_setName h2) (fun _ σ12 h4 => ?_)
      exact par_some (cq_I h4 (by decide))
    · refine par_if (fun _ => ?_) (fun _ => ?_)
      · refine par_bd (cq_x6_nameOf h2) (fun r7 σ8 h5 => ?_)
        refine par_bd (cq_x6_store h5) (fun _ σ10 h6 => ?_)
        exact par_some (cq_I h6 (by decide))
      · exact par_some (cq_I h2 (by decide))
theorem cq_j_floorMod {N : Nat} {s0 : St} {σ : St} {a1 : Int32} {a2 : Int32} (hU : Cq s0 σ) : Par (j_floorMod N σ a1 a2) (fun _ σ' => Cq s0 σ') := by
  unfold j_floorMod
  refine par_gd (fun _ => ?_)
  refine par_if (fun _ => ?_) (fun _ => ?_)
  · exact par_some hU
  · refine par_if (fun _ => ?_) (fun _ => ?_)
    · exact par_some hU
    · exact par_some hU
theorem cq_x6_choose {N : Nat} {s0 : St} {σ : St} (hU : Cq s0 σ) : Par (x6_choose N σ) (fun _ σ' => Cq s0 σ') := by
  unfold x6_choose
  refine par_bd (cq_j_floorMod hU) (fun r1 σ2 h1 => ?_)
  refine par_if (fun _ => ?_) (fun _ => ?_)
  · exact par_some (cq_I h1 (by decide))
  · exact par_some (cq_I h1 (by decide))
theorem cq_x6_holds_60 {N : Nat} {s0 : St} {σ : St} {t0 : Int32} {t1 : Int32} (hU : Cq s0 σ) : Par (x6_holds_60 N σ t0 t1) (fun _ σ' => Cq s0 σ') := by
  unfold x6_holds_60
  refine par_if (fun _ => ?_) (fun _ => ?_)
  · exact par_some hU
  · exact par_some hU
theorem cq_x6_holds_47 {N : Nat} {s0 : St} {σ : St} {x1 : Int32} {t0 : Int32} (hU : Cq s0 σ) : Par (x6_holds_47 N σ x1 t0) (fun _ σ' => Cq s0 σ') := by
  unfold x6_holds_47
  refine par_if (fun _ => ?_) (fun _ => ?_)
  · exact (cq_x6_holds_60 hU)
  · exact (cq_x6_holds_60 hU)
theorem cq_x6_holds {N : Nat} {s0 : St} {σ : St} (hU : Cq s0 σ) : Par (x6_holds N σ) (fun _ σ' => Cq s0 σ') := by
  unfold x6_holds
  refine par_gd (fun _ => ?_)
  refine par_bd (cq_x0_get hU) (fun r2 σ3 h1 => ?_)
  refine par_if (fun _ => ?_) (fun _ => ?_)
  · refine par_bd (cq_x6_choose h1) (fun r9 σ10 h2 => ?_)
    refine par_gd (fun _ => ?_)
    exact par_some h2
  · refine par_gd (fun _ => ?_)
    refine par_bd (cq_x0_get h1) (fun r5 σ6 h3 => ?_)
    refine par_bd (cq_x6_nameOf h3) (fun r7 σ8 h4 => ?_)
    refine par_if (fun _ => ?_) (fun _ => ?_)
    · exact (cq_x6_holds_47 h4)
    · exact (cq_x6_holds_47 h4)
theorem cq_x6_fieldOf {N : Nat} {s0 : St} {σ : St} {a1 : Int32} {a2 : Int32} (hU : Cq s0 σ) : Par (x6_fieldOf N σ a1 a2) (fun _ σ' => Cq s0 σ') := by
  unfold x6_fieldOf
  refine par_if (fun _ => ?_) (fun _ => ?_)
  · refine par_gd (fun _ => ?_)
    refine par_bd (cq_x0_get (cq_I hU (by decide))) (fun r4 σ5 h1 => ?_)
    exact par_some (cq_I h1 (by decide))
  · refine par_bd (cq_x5_at hU) (fun r1 σ2 h2 => ?_)
    exact par_some h2
theorem cq_x6_enter_113 {N : Nat} {s0 : St} {σ : St} {x1 : Int32} (hU : Cq s0 σ) : Par (x6_enter_113 N σ x1) (fun _ σ' => Cq s0 σ') := by
  unfold x6_enter_113
  refine par_gd (fun _ => ?_)
  refine par_bd (cq_x5_at hU) (fun r9 σ10 h1 => ?_)
  exact par_some (cq_I (cq_I h1 (by decide)) (by decide))
theorem cq_x6_enter_51_b {N : Nat} {s0 : St} {σ : St} {x1 : Int32} {x2 : Int32} {x3 : Int32} (hU : Cq s0 σ) {rec51 : St → Int32 → Int32 → Int32 → Option (Unit × St)} (h_rec51 : ∀ (z0 : St) (z1 : Int32) (z2 : Int32) (z3 : Int32), Cq s0 z0 → Par (rec51 z0 z1 z2 z3) (fun _ σ' => Cq s0 σ')) : Par (x6_enter_51_b N rec51 σ x1 x2 x3) (fun _ σ' => Cq s0 σ') := by
  unfold x6_enter_51_b
  refine par_gd (fun _ => ?_)
  refine par_bd (cq_x0_arguments hU) (fun r6 σ7 h1 => ?_)
  refine par_if (fun _ => ?_) (fun _ => ?_)
  · exact (cq_x6_enter_113 h1)
  · refine par_gd (fun _ => ?_)
    refine par_bd (cq_x0_argument h1) (fun r12 σ13 h2 => ?_)
    refine par_bd (cq_x5_at h2) (fun r14 σ15 h3 => ?_)
    refine par_gd (fun _ => ?_)
    refine par_bd (cq_x3_parameter h3) (fun r17 σ18 h4 => ?_)
    refine par_bd (cq_x6_setName h4) (fun _ σ20 h5 => ?_)
    exact (h_rec51 _ _ _ _ h5)
theorem cq_x6_enter_51 {N : Nat} {s0 : St} : ∀ (n : Nat) (σ : St) (x1 : Int32) (x2 : Int32) (x3 : Int32), Cq s0 σ → Par (x6_enter_51 N  n σ x1 x2 x3) (fun _ σ' => Cq s0 σ') := by
  intro n
  induction n with
  | zero => intro σ x1 x2 x3 _ r σ' e; cases e
  | succ n ih =>
    intro σ x1 x2 x3 hU
    exact cq_x6_enter_51_b (N := N) hU (fun z0 z1 z2 z3 hz => ih z0 z1 z2 z3 hz)
theorem cq_x6_enter {N : Nat} {s0 : St} {σ : St} {a1 : Int32} (hU : Cq s0 σ) : Par (x6_enter N σ a1) (fun _ σ' => Cq s0 σ') := by
  unfold x6_enter
  refine par_if (fun _ => ?_) (fun _ => ?_)
  · refine par_bd (cq_x5_put hU) (fun _ σ2 h1 => ?_)
    refine par_bd (cq_x6_clearNames (cq_I h1 (by decide))) (fun _ σ4 h2 => ?_)
    exact (cq_x6_enter_51  N _ _ _ _ h2)
  · exact par_some (cq_I hU (by decide))
theorem cq_x6_work_79 {N : Nat} {s0 : St} {σ : St} {t1 : Int32} (hU : Cq s0 σ) : Par (x6_work_79 N σ t1) (fun _ σ' => Cq s0 σ') := by
  unfold x6_work_79
  exact par_some (cq_I hU (by decide))
theorem cq_x6_work {N : Nat} {s0 : St} {σ : St} (hU : Cq s0 σ) : Par (x6_work N σ) (fun _ σ' => Cq s0 σ') := by
  unfold x6_work
  refine par_gd (fun _ => ?_)
  refine par_bd (cq_x0_get hU) (fun r2 σ3 h1 => ?_)
  refine par_gd (fun _ => ?_)
  refine par_bd (cq_x0_get h1) (fun r5 σ6 h2 => ?_)
  refine par_bd (cq_x6_nameOf h2) (fun r7 σ8 h3 => ?_)
  refine par_gd (fun _ => ?_)
  refine par_bd (cq_x0_get h3) (fun r10 σ11 h4 => ?_)
  refine par_if (fun _ => ?_) (fun _ => ?_)
  · refine par_bd (cq_x6_choose (cq_I (cq_I h4 (by decide)) (by decide))) (fun r20 σ21 h5 => ?_)
    refine par_if (fun _ => ?_) (fun _ => ?_)
    · exact (cq_x6_work_79 h5)
    · refine par_bd (cq_x6_makeLoop h5) (fun r22 σ23 h6 => ?_)
      exact (cq_x6_work_79 h6)
  · refine par_if (fun _ => ?_) (fun _ => ?_)
    · refine par_bd (cq_x6_nameOf (cq_I (cq_I h4 (by decide)) (by decide))) (fun r16 σ17 h7 => ?_)
      refine par_bd (cq_x6_make h7) (fun r18 σ19 h8 => ?_)
      exact par_some (cq_I h8 (by decide))
    · refine par_if (fun _ => ?_) (fun _ => ?_)
      · exact par_some (cq_I (cq_I (cq_I h4 (by decide)) (by decide)) (by decide))
      · refine par_if (fun _ => ?_) (fun _ => ?_)
        · refine par_bd (cq_x6_fieldOf (cq_I (cq_I h4 (by decide)) (by decide))) (fun r14 σ15 h9 => ?_)
          exact par_some (cq_I h9 (by decide))
        · refine par_if (fun _ => ?_) (fun _ => ?_)
          · refine par_bd (cq_x6_enter (cq_I (cq_I h4 (by decide)) (by decide))) (fun _ σ13 h10 => ?_)
            exact par_some h10
          · exact par_some (cq_I (cq_I h4 (by decide)) (by decide))
theorem cq_x6_step_113 {N : Nat} {s0 : St} {σ : St} {t1 : Int32} (hU : Cq s0 σ) : Par (x6_step_113 N σ t1) (fun _ σ' => Cq s0 σ') := by
  unfold x6_step_113
  exact par_some (cq_I hU (by decide))
theorem cq_x6_step {N : Nat} {s0 : St} {σ : St} (hU : Cq s0 σ) : Par (x6_step N σ) (fun _ σ' => Cq s0 σ') := by
  unfold x6_step
  refine par_gd (fun _ => ?_)
  refine par_bd (cq_x0_get hU) (fun r2 σ3 h1 => ?_)
  refine par_if (fun _ => ?_) (fun _ => ?_)
  · refine par_gd (fun _ => ?_)
    refine par_bd (cq_x0_get h1) (fun r14 σ15 h2 => ?_)
    exact par_some (cq_I h2 (by decide))
  · refine par_if (fun _ => ?_) (fun _ => ?_)
    · refine par_bd (cq_x6_leave h1) (fun _ σ12 h3 => ?_)
      exact par_some h3
    · refine par_if (fun _ => ?_) (fun _ => ?_)
      · refine par_if (fun _ => ?_) (fun _ => ?_)
        · refine par_bd (cq_x6_holds (cq_I h1 (by decide))) (fun r6 σ7 h4 => ?_)
          refine par_if (fun _ => ?_) (fun _ => ?_)
          · refine par_gd (fun _ => ?_)
            refine par_bd (cq_x0_get h4) (fun r9 σ10 h5 => ?_)
            exact (cq_x6_step_113 h5)
          · exact (cq_x6_step_113 h4)
        · refine par_bd (cq_x6_work (cq_I h1 (by decide))) (fun _ σ5 h6 => ?_)
          exact par_some h6
      · exact par_some (cq_I h1 (by decide))
theorem cq_x6_go_46 {N : Nat} {s0 : St} {σ : St} (hU : Cq s0 σ) : Par (x6_go_46 N σ) (fun _ σ' => Cq s0 σ') := by
  unfold x6_go_46
  refine par_if (fun _ => ?_) (fun _ => ?_)
  · exact par_some hU
  · exact par_some hU
theorem cq_x6_go_40 {N : Nat} {s0 : St} {σ : St} {x3 : Int32} (hU : Cq s0 σ) {rec8 : St → Int32 → Option (Int32 × St)} (h_rec8 : ∀ (z0 : St) (z1 : Int32), Cq s0 z0 → Par (rec8 z0 z1) (fun _ σ' => Cq s0 σ')) : Par (x6_go_40 N rec8 σ x3) (fun _ σ' => Cq s0 σ') := by
  unfold x6_go_40
  exact (h_rec8 _ _ hU)
theorem cq_x6_go_8_b {N : Nat} {s0 : St} {σ : St} {x3 : Int32} (hU : Cq s0 σ) {rec8 : St → Int32 → Option (Int32 × St)} (h_rec8 : ∀ (z0 : St) (z1 : Int32), Cq s0 z0 → Par (rec8 z0 z1) (fun _ σ' => Cq s0 σ')) : Par (x6_go_8_b N rec8 σ x3) (fun _ σ' => Cq s0 σ') := by
  unfold x6_go_8_b
  refine par_if (fun _ => ?_) (fun _ => ?_)
  · exact (cq_x6_go_46 hU)
  · refine par_if (fun _ => ?_) (fun _ => ?_)
    · refine par_if (fun _ => ?_) (fun _ => ?_)
      · refine par_bd (cq_x6_step hU) (fun _ σ4 h1 => ?_)
        exact (cq_x6_go_40 h1 h_rec8)
      · refine par_bd (cq_x6_finish hU) (fun _ σ6 h2 => ?_)
        exact (cq_x6_go_40 h2 h_rec8)
    · exact (cq_x6_go_46 hU)
theorem cq_x6_go_8 {N : Nat} {s0 : St} : ∀ (n : Nat) (σ : St) (x3 : Int32), Cq s0 σ → Par (x6_go_8 N  n σ x3) (fun _ σ' => Cq s0 σ') := by
  intro n
  induction n with
  | zero => intro σ x3 _ r σ' e; cases e
  | succ n ih =>
    intro σ x3 hU
    exact cq_x6_go_8_b (N := N) hU (fun z0 z1 hz => ih z0 z1 hz)
theorem cq_x6_go {N : Nat} {s0 : St} {σ : St} {a1 : Int32} {a2 : Int32} (hU : Cq s0 σ) : Par (x6_go N σ a1 a2) (fun _ σ' => Cq s0 σ') := by
  unfold x6_go
  refine par_bd (cq_x6_begin hU) (fun _ σ2 h1 => ?_)
  exact (cq_x6_go_8  N _ _ h1)
theorem cq_x7_allows_53 {N : Nat} {s0 : St} {σ : St} {x1 : Int32} {x2 : Int32} {t0 : Int32} (hU : Cq s0 σ) {rec32 : St → Int32 → Int32 → Option (Int32 × St)} (h_rec32 : ∀ (z0 : St) (z1 : Int32) (z2 : Int32), Cq s0 z0 → Par (rec32 z0 z1 z2) (fun _ σ' => Cq s0 σ')) : Par (x7_allows_53 N rec32 σ x1 x2 t0) (fun _ σ' => Cq s0 σ') := by
  unfold x7_allows_53
  refine par_bd (cq_x5_at hU) (fun r8 σ9 h1 => ?_)
  refine par_if (fun _ => ?_) (fun _ => ?_)
  · exact par_some h1
  · exact (h_rec32 _ _ _ h1)
theorem cq_x7_allows_32_b {N : Nat} {s0 : St} {σ : St} {x1 : Int32} {x2 : Int32} (hU : Cq s0 σ) {rec32 : St → Int32 → Int32 → Option (Int32 × St)} (h_rec32 : ∀ (z0 : St) (z1 : Int32) (z2 : Int32), Cq s0 z0 → Par (rec32 z0 z1 z2) (fun _ σ' => Cq s0 σ')) : Par (x7_allows_32_b N rec32 σ x1 x2) (fun _ σ' => Cq s0 σ') := by
  unfold x7_allows_32_b
  refine par_bd (cq_x7_outers hU) (fun r6 σ7 h1 => ?_)
  refine par_if (fun _ => ?_) (fun _ => ?_)
  · exact par_some h1
  · refine par_if (fun _ => ?_) (fun _ => ?_)
    · exact (cq_x7_allows_53 h1 h_rec32)
    · exact (cq_x7_allows_53 h1 h_rec32)
theorem cq_x7_allows_32 {N : Nat} {s0 : St} : ∀ (n : Nat) (σ : St) (x1 : Int32) (x2 : Int32), Cq s0 σ → Par (x7_allows_32 N  n σ x1 x2) (fun _ σ' => Cq s0 σ') := by
  intro n
  induction n with
  | zero => intro σ x1 x2 _ r σ' e; cases e
  | succ n ih =>
    intro σ x1 x2 hU
    exact cq_x7_allows_32_b (N := N) hU (fun z0 z1 z2 hz => ih z0 z1 z2 hz)
theorem cq_x7_allows {N : Nat} {s0 : St} {σ : St} {a1 : Int32} (hU : Cq s0 σ) : Par (x7_allows N σ a1) (fun _ σ' => Cq s0 σ') := by
  unfold x7_allows
  refine par_gd (fun _ => ?_)
  refine par_bd (cq_x3_has hU) (fun r2 σ3 h1 => ?_)
  refine par_if (fun _ => ?_) (fun _ => ?_)
  · exact par_some h1
  · refine par_if (fun _ => ?_) (fun _ => ?_)
    · exact par_some h1
    · refine par_bd (cq_x7_outers h1) (fun r4 σ5 h2 => ?_)
      refine par_if (fun _ => ?_) (fun _ => ?_)
      · exact (cq_x7_allows_32  N _ _ _ h2)
      · exact par_some h2
theorem cq_x9_noteFailure {N : Nat} {s0 : St} {σ : St} {a1 : Int32} {a2 : Int32} (hU : Cq s0 σ) : Par (x9_noteFailure N σ a1 a2) (fun _ σ' => Cq s0 σ') := by
  unfold x9_noteFailure
  refine par_if (fun _ => ?_) (fun _ => ?_)
  · refine par_bd (cq_x5_at hU) (fun r1 σ2 h1 => ?_)
    refine par_if (fun _ => ?_) (fun _ => ?_)
    · refine par_bd (cq_x5_put h1) (fun _ σ4 h2 => ?_)
      exact par_some (cq_I h2 (by decide))
    · exact par_some h1
  · exact par_some hU
theorem cq_x9_skipTheSame_14_b {N : Nat} {s0 : St} {σ : St} {x1 : Int32} {x3 : Int32} (hU : Cq s0 σ) {rec14 : St → Int32 → Int32 → Option (Unit × St)} (h_rec14 : ∀ (z0 : St) (z1 : Int32) (z2 : Int32), Cq s0 z0 → Par (rec14 z0 z1 z2) (fun _ σ' => Cq s0 σ')) : Par (x9_skipTheSame_14_b N rec14 σ x1 x3) (fun _ σ' => Cq s0 σ') := by
  unfold x9_skipTheSame_14_b
  refine par_if (fun _ => ?_) (fun _ => ?_)
  · exact par_some hU
  · refine par_bd (cq_x5_put hU) (fun _ σ2 h1 => ?_)
    exact (h_rec14 _ _ _ h1)
theorem cq_x9_skipTheSame_14 {N : Nat} {s0 : St} : ∀ (n : Nat) (σ : St) (x1 : Int32) (x3 : Int32), Cq s0 σ → Par (x9_skipTheSame_14 N  n σ x1 x3) (fun _ σ' => Cq s0 σ') := by
  intro n
  induction n with
  | zero => intro σ x1 x3 _ r σ' e; cases e
  | succ n ih =>
    intro σ x1 x3 hU
    exact cq_x9_skipTheSame_14_b (N := N) hU (fun z0 z1 z2 hz => ih z0 z1 z2 hz)
theorem cq_x9_skipTheSame {N : Nat} {s0 : St} {σ : St} {a1 : Int32} {a2 : Int32} (hU : Cq s0 σ) : Par (x9_skipTheSame N σ a1 a2) (fun _ σ' => Cq s0 σ') := by
  unfold x9_skipTheSame
  refine par_if (fun _ => ?_) (fun _ => ?_)
  · exact par_some hU
  · exact (cq_x9_skipTheSame_14  N _ _ _ hU)
theorem cq_x9_fill_104 {N : Nat} {s0 : St} {σ : St} {x2 : Int32} (hU : Cq s0 σ) {rec31 : St → Int32 → Option (Unit × St)} (h_rec31 : ∀ (z0 : St) (z1 : Int32), Cq s0 z0 → Par (rec31 z0 z1) (fun _ σ' => Cq s0 σ')) : Par (x9_fill_104 N rec31 σ x2) (fun _ σ' => Cq s0 σ') := by
  unfold x9_fill_104
  exact (h_rec31 _ _ hU)
theorem cq_x9_fill_31_b {N : Nat} {s0 : St} {σ : St} {x2 : Int32} (hU : Cq s0 σ) {rec31 : St → Int32 → Option (Unit × St)} (h_rec31 : ∀ (z0 : St) (z1 : Int32), Cq s0 z0 → Par (rec31 z0 z1) (fun _ σ' => Cq s0 σ')) : Par (x9_fill_31_b N rec31 σ x2) (fun _ σ' => Cq s0 σ') := by
  unfold x9_fill_31_b
  refine par_if (fun _ => ?_) (fun _ => ?_)
  · exact par_some (cq_I hU (by decide))
  · refine par_if (fun _ => ?_) (fun _ => ?_)
    · exact par_some (cq_I hU (by decide))
    · refine par_bd (cq_x5_at hU) (fun r5 σ6 h1 => ?_)
      refine par_if (fun _ => ?_) (fun _ => ?_)
      · exact (cq_x9_fill_104 h1 h_rec31)
      · refine par_bd (cq_x7_allows h1) (fun r7 σ8 h2 => ?_)
        refine par_if (fun _ => ?_) (fun _ => ?_)
        · exact (cq_x9_fill_104 h2 h_rec31)
        · refine par_bd (cq_x6_go h2) (fun r9 σ10 h3 => ?_)
          refine par_bd (cq_x9_noteFailure h3) (fun _ σ12 h4 => ?_)
          refine par_bd (cq_x9_skipTheSame h4) (fun _ σ14 h5 => ?_)
          exact (cq_x9_fill_104 h5 h_rec31)
theorem cq_x9_fill_31 {N : Nat} {s0 : St} : ∀ (n : Nat) (σ : St) (x2 : Int32), Cq s0 σ → Par (x9_fill_31 N  n σ x2) (fun _ σ' => Cq s0 σ') := by
  intro n
  induction n with
  | zero => intro σ x2 _ r σ' e; cases e
  | succ n ih =>
    intro σ x2 hU
    exact cq_x9_fill_31_b (N := N) hU (fun z0 z1 hz => ih z0 z1 hz)
theorem cq_x9_fill {N : Nat} {s0 : St} {σ : St} {a1 : Int32} (hU : Cq s0 σ) : Par (x9_fill N σ a1) (fun _ σ' => Cq s0 σ') := by
  unfold x9_fill
  refine par_if (fun _ => ?_) (fun _ => ?_)
  · exact par_some hU
  · refine par_bd (cq_j_fill (cq_I hU (by decide))) (fun _ σ2 h1 => ?_)
    refine par_bd (cq_j_fill h1) (fun _ σ4 h2 => ?_)
    exact (cq_x9_fill_31  N _ _ h2)
theorem cq_x10_putNumber_49 {N : Nat} {s0 : St} {σ : St} {x1 : Int32} {x2 : Int32} (hU : Cq s0 σ) {rec3 : St → Int32 → Int32 → Option (Unit × St)} (h_rec3 : ∀ (z0 : St) (z1 : Int32) (z2 : Int32), Cq s0 z0 → Par (rec3 z0 z1 z2) (fun _ σ' => Cq s0 σ')) : Par (x10_putNumber_49 N rec3 σ x1 x2) (fun _ σ' => Cq s0 σ') := by
  unfold x10_putNumber_49
  exact (h_rec3 _ _ _ hU)
theorem cq_x10_putNumber_3_b {N : Nat} {s0 : St} {σ : St} {x1 : Int32} {x2 : Int32} (hU : Cq s0 σ) {rec3 : St → Int32 → Int32 → Option (Unit × St)} (h_rec3 : ∀ (z0 : St) (z1 : Int32) (z2 : Int32), Cq s0 z0 → Par (rec3 z0 z1 z2) (fun _ σ' => Cq s0 σ')) : Par (x10_putNumber_3_b N rec3 σ x1 x2) (fun _ σ' => Cq s0 σ') := by
  unfold x10_putNumber_3_b
  refine par_if (fun _ => ?_) (fun _ => ?_)
  · exact par_some hU
  · refine par_if (fun _ => ?_) (fun _ => ?_)
    · exact (cq_x10_putNumber_49 hU h_rec3)
    · refine par_if (fun _ => ?_) (fun _ => ?_)
      · exact (cq_x10_putNumber_49 hU h_rec3)
      · refine par_gd (fun _ => ?_)
        exact (cq_x10_putNumber_49 (cq_I (cq_A hU (by decide)) (by decide)) h_rec3)
theorem cq_x10_putNumber_3 {N : Nat} {s0 : St} : ∀ (n : Nat) (σ : St) (x1 : Int32) (x2 : Int32), Cq s0 σ → Par (x10_putNumber_3 N  n σ x1 x2) (fun _ σ' => Cq s0 σ') := by
  intro n
  induction n with
  | zero => intro σ x1 x2 _ r σ' e; cases e
  | succ n ih =>
    intro σ x1 x2 hU
    exact cq_x10_putNumber_3_b (N := N) hU (fun z0 z1 z2 hz => ih z0 z1 z2 hz)
theorem cq_x10_putNumber {N : Nat} {s0 : St} {σ : St} {a1 : Int32} (hU : Cq s0 σ) : Par (x10_putNumber N σ a1) (fun _ σ' => Cq s0 σ') := by
  unfold x10_putNumber
  exact (cq_x10_putNumber_3  N _ _ _ hU)
theorem cq_x10_feed {N : Nat} {s0 : St} {σ : St} {a1 : Int32} {a2 : Int32} {a3 : Int32} {a4 : Int32} {a5 : Int32} (hU : Cq s0 σ) : Par (x10_feed N σ a1 a2 a3 a4 a5) (fun _ σ' => Cq s0 σ') := by
  unfold x10_feed
  refine par_if (fun _ => ?_) (fun _ => ?_)
  · refine par_bd (cq_x10_putNumber hU) (fun _ σ2 h1 => ?_)
    refine par_bd (cq_x10_putNumber h1) (fun _ σ4 h2 => ?_)
    refine par_bd (cq_x10_putNumber h2) (fun _ σ6 h3 => ?_)
    refine par_bd (cq_x10_putNumber h3) (fun _ σ8 h4 => ?_)
    refine par_bd (cq_x10_putNumber h4) (fun _ σ10 h5 => ?_)
    exact par_some h5
  · exact par_some hU
theorem cq_x10_fault {N : Nat} {s0 : St} {σ : St} {a1 : Int32} (hU : Cq s0 σ) : Par (x10_fault N σ a1) (fun _ σ' => Cq s0 σ') := by
  unfold x10_fault
  refine par_if (fun _ => ?_) (fun _ => ?_)
  · exact par_some hU
  · refine par_if (fun _ => ?_) (fun _ => ?_)
    · exact par_some hU
    · exact par_some hU
theorem cq_x10_markIndex_80 {N : Nat} {s0 : St} {σ : St} {x2 : Int32} {x3 : Int32} {t0 : Int32} (hU : Cq s0 σ) : Par (x10_markIndex_80 N σ x2 x3 t0) (fun _ σ' => Cq s0 σ') := by
  unfold x10_markIndex_80
  refine par_if (fun _ => ?_) (fun _ => ?_)
  · exact par_some hU
  · exact par_some hU
theorem cq_x10_markIndex_79 {N : Nat} {s0 : St} {σ : St} {x2 : Int32} {x3 : Int32} (hU : Cq s0 σ) : Par (x10_markIndex_79 N σ x2 x3) (fun _ σ' => Cq s0 σ') := by
  unfold x10_markIndex_79
  exact (cq_x10_markIndex_80 hU)
theorem cq_x10_markIndex_14 {N : Nat} {s0 : St} {σ : St} {x3 : Int32} (hU : Cq s0 σ) : Par (x10_markIndex_14 N σ x3) (fun _ σ' => Cq s0 σ') := by
  unfold x10_markIndex_14
  exact par_some hU
theorem cq_x10_markIndex {N : Nat} {s0 : St} {σ : St} {a1 : Int32} {a2 : Int32} {a3 : Int32} (hU : Cq s0 σ) : Par (x10_markIndex N σ a1 a2 a3) (fun _ σ' => Cq s0 σ') := by
  unfold x10_markIndex
  refine par_if (fun _ => ?_) (fun _ => ?_)
  · refine par_if (fun _ => ?_) (fun _ => ?_)
    · exact (cq_x10_markIndex_14 hU)
    · refine par_if (fun _ => ?_) (fun _ => ?_)
      · exact (cq_x10_markIndex_14 hU)
      · exact par_some hU
  · refine par_gd (fun _ => ?_)
    refine par_bd (cq_x3_has hU) (fun r2 σ3 h1 => ?_)
    refine par_if (fun _ => ?_) (fun _ => ?_)
    · exact par_some h1
    · refine par_if (fun _ => ?_) (fun _ => ?_)
      · exact par_some h1
      · refine par_if (fun _ => ?_) (fun _ => ?_)
        · refine par_if (fun _ => ?_) (fun _ => ?_)
          · exact (cq_x10_markIndex_79 h1)
          · refine par_gd (fun _ => ?_)
            refine par_bd (cq_x5_at h1) (fun r5 σ6 h2 => ?_)
            refine par_if (fun _ => ?_) (fun _ => ?_)
            · exact (cq_x10_markIndex_79 h2)
            · exact (cq_x10_markIndex_80 h2)
        · exact (cq_x10_markIndex_79 h1)
theorem cq_x10_mark {N : Nat} {s0 : St} {σ : St} {a1 : Int32} {a2 : Int32} {a3 : Int32} (hU : Cq s0 σ) : Par (x10_mark N σ a1 a2 a3) (fun _ σ' => Cq s0 σ') := by
  unfold x10_mark
  refine par_bd (cq_x10_markIndex hU) (fun r1 σ2 h1 => ?_)
  refine par_if (fun _ => ?_) (fun _ => ?_)
  · exact par_some h1
  · refine par_bd (cq_x1_settle h1) (fun _ σ4 h2 => ?_)
    refine par_bd (cq_x5_at h2) (fun r5 σ6 h3 => ?_)
    exact par_some h3
theorem cq_x10_verdictOfUse {N : Nat} {s0 : St} {σ : St} {a1 : Int32} (hU : Cq s0 σ) : Par (x10_verdictOfUse N σ a1) (fun _ σ' => Cq s0 σ') := by
  unfold x10_verdictOfUse
  refine par_if (fun _ => ?_) (fun _ => ?_)
  · exact par_some hU
  · refine par_if (fun _ => ?_) (fun _ => ?_)
    · exact par_some hU
    · refine par_if (fun _ => ?_) (fun _ => ?_)
      · exact par_some hU
      · exact par_some hU
theorem cq_x10_use {N : Nat} {s0 : St} {σ : St} {a1 : Int32} {a2 : Int32} (hU : Cq s0 σ) : Par (x10_use N σ a1 a2) (fun _ σ' => Cq s0 σ') := by
  unfold x10_use
  refine par_if (fun _ => ?_) (fun _ => ?_)
  · exact par_some hU
  · refine par_gd (fun _ => ?_)
    refine par_if (fun _ => ?_) (fun _ => ?_)
    · refine par_if (fun _ => ?_) (fun _ => ?_)
      · refine par_bd (cq_x1_settle hU) (fun _ σ4 h1 => ?_)
        refine par_bd (cq_x5_at h1) (fun r5 σ6 h2 => ?_)
        refine par_bd (cq_x10_verdictOfUse h2) (fun r7 σ8 h3 => ?_)
        exact par_some h3
      · refine par_if (fun _ => ?_) (fun _ => ?_)
        · refine par_bd (cq_x5_at hU) (fun r10 σ11 h4 => ?_)
          exact par_some h4
        · refine par_if (fun _ => ?_) (fun _ => ?_)
          · refine par_bd (cq_x5_at hU) (fun r13 σ14 h5 => ?_)
            exact par_some h5
          · refine par_if (fun _ => ?_) (fun _ => ?_)
            · refine par_bd (cq_x5_at hU) (fun r16 σ17 h6 => ?_)
              exact par_some h6
            · exact par_some hU
    · exact par_some hU
theorem cq_x10_verdictOfTest {N : Nat} {s0 : St} {σ : St} {a1 : Int32} (hU : Cq s0 σ) : Par (x10_verdictOfTest N σ a1) (fun _ σ' => Cq s0 σ') := by
  unfold x10_verdictOfTest
  refine par_if (fun _ => ?_) (fun _ => ?_)
  · exact par_some hU
  · refine par_if (fun _ => ?_) (fun _ => ?_)
    · exact par_some hU
    · refine par_if (fun _ => ?_) (fun _ => ?_)
      · exact par_some hU
      · exact par_some hU
theorem cq_x10_test {N : Nat} {s0 : St} {σ : St} {a1 : Int32} {a2 : Int32} (hU : Cq s0 σ) : Par (x10_test N σ a1 a2) (fun _ σ' => Cq s0 σ') := by
  unfold x10_test
  refine par_if (fun _ => ?_) (fun _ => ?_)
  · exact par_some hU
  · refine par_gd (fun _ => ?_)
    refine par_if (fun _ => ?_) (fun _ => ?_)
    · refine par_if (fun _ => ?_) (fun _ => ?_)
      · refine par_bd (cq_x1_settle hU) (fun _ σ4 h1 => ?_)
        refine par_bd (cq_x5_at h1) (fun r5 σ6 h2 => ?_)
        refine par_bd (cq_x10_verdictOfTest h2) (fun r7 σ8 h3 => ?_)
        exact par_some h3
      · refine par_if (fun _ => ?_) (fun _ => ?_)
        · refine par_bd (cq_x5_at hU) (fun r10 σ11 h4 => ?_)
          exact par_some h4
        · refine par_if (fun _ => ?_) (fun _ => ?_)
          · refine par_bd (cq_x5_at hU) (fun r13 σ14 h5 => ?_)
            exact par_some h5
          · exact par_some hU
    · exact par_some hU
theorem cq_x10_run {N : Nat} {s0 : St} {σ : St} {a1 : Int32} {a2 : Int32} (hU : Cq s0 σ) : Par (x10_run N σ a1 a2) (fun _ σ' => Cq s0 σ') := by
  unfold x10_run
  refine par_if (fun _ => ?_) (fun _ => ?_)
  · exact par_some hU
  · refine par_if (fun _ => ?_) (fun _ => ?_)
    · exact par_some hU
    · refine par_bd (cq_x7_allows hU) (fun r1 σ2 h1 => ?_)
      refine par_if (fun _ => ?_) (fun _ => ?_)
      · exact par_some h1
      · refine par_bd (cq_x6_go h1) (fun r3 σ4 h2 => ?_)
        refine par_bd (cq_x5_put h2) (fun _ σ6 h3 => ?_)
        refine par_bd (cq_x5_put h3) (fun _ σ8 h4 => ?_)
        refine par_bd (cq_x5_put h4) (fun _ σ10 h5 => ?_)
        refine par_bd (cq_x5_put h5) (fun _ σ12 h6 => ?_)
        exact par_some h6
theorem cq_x10_ran_13 {N : Nat} {s0 : St} {σ : St} (hU : Cq s0 σ) : Par (x10_ran_13 N σ) (fun _ σ' => Cq s0 σ') := by
  unfold x10_ran_13
  exact par_some hU
theorem cq_x10_ran {N : Nat} {s0 : St} {σ : St} {a1 : Int32} (hU : Cq s0 σ) : Par (x10_ran N σ a1) (fun _ σ' => Cq s0 σ') := by
  unfold x10_ran
  refine par_if (fun _ => ?_) (fun _ => ?_)
  · exact (cq_x10_ran_13 hU)
  · refine par_if (fun _ => ?_) (fun _ => ?_)
    · refine par_gd (fun _ => ?_)
      exact par_some hU
    · exact (cq_x10_ran_13 hU)
theorem cq_x10_tries {N : Nat} {s0 : St} {σ : St} {a1 : Int32} (hU : Cq s0 σ) : Par (x10_tries N σ a1) (fun _ σ' => Cq s0 σ') := by
  unfold x10_tries
  refine par_if (fun _ => ?_) (fun _ => ?_)
  · exact par_some hU
  · refine par_gd (fun _ => ?_)
    refine par_if (fun _ => ?_) (fun _ => ?_)
    · refine par_bd (cq_x1_settle hU) (fun _ σ3 h1 => ?_)
      refine par_bd (cq_x1_guardsNeeded h1) (fun r4 σ5 h2 => ?_)
      refine par_bd (cq_x9_fill h2) (fun _ σ7 h3 => ?_)
      refine par_bd (cq_x5_at h3) (fun r8 σ9 h4 => ?_)
      exact par_some h4
    · exact par_some hU
theorem cq_x10_price {N : Nat} {s0 : St} {σ : St} {a1 : Int32} {a2 : Int32} (hU : Cq s0 σ) : Par (x10_price N σ a1 a2) (fun _ σ' => Cq s0 σ') := by
  unfold x10_price
  refine par_if (fun _ => ?_) (fun _ => ?_)
  · exact par_some hU
  · refine par_if (fun _ => ?_) (fun _ => ?_)
    · exact par_some hU
    · refine par_if (fun _ => ?_) (fun _ => ?_)
      · exact par_some hU
      · refine par_if (fun _ => ?_) (fun _ => ?_)
        · refine par_bd (cq_x5_put hU) (fun _ σ2 h1 => ?_)
          exact par_some (cq_I h1 (by decide))
        · exact par_some hU
theorem cq_x10_mend {N : Nat} {s0 : St} {σ : St} (hU : Cq s0 σ) : Par (x10_mend N σ) (fun _ σ' => Cq s0 σ') := by
  unfold x10_mend
  refine par_gd (fun _ => ?_)
  refine par_if (fun _ => ?_) (fun _ => ?_)
  · exact par_some hU
  · refine par_bd (cq_x2_search hU) (fun _ σ3 h1 => ?_)
    exact par_some h1
theorem cq_x10_mended_56 {N : Nat} {s0 : St} {σ : St} (hU : Cq s0 σ) : Par (x10_mended_56 N σ) (fun _ σ' => Cq s0 σ') := by
  unfold x10_mended_56
  exact par_some hU
theorem cq_x10_mended {N : Nat} {s0 : St} {σ : St} {a1 : Int32} (hU : Cq s0 σ) : Par (x10_mended N σ a1) (fun _ σ' => Cq s0 σ') := by
  unfold x10_mended
  refine par_if (fun _ => ?_) (fun _ => ?_)
  · exact par_some hU
  · refine par_if (fun _ => ?_) (fun _ => ?_)
    · exact par_some hU
    · refine par_if (fun _ => ?_) (fun _ => ?_)
      · exact par_some hU
      · refine par_if (fun _ => ?_) (fun _ => ?_)
        · exact (cq_x10_mended_56 hU)
        · refine par_if (fun _ => ?_) (fun _ => ?_)
          · refine par_bd (cq_x5_at hU) (fun r1 σ2 h1 => ?_)
            exact par_some h1
          · exact (cq_x10_mended_56 hU)
theorem cq_x10_usesOfFact_44 {N : Nat} {s0 : St} {σ : St} {x1 : Int32} {x2 : Int32} {x3 : Int32} (hU : Cq s0 σ) {rec12 : St → Int32 → Int32 → Int32 → Option (Int32 × St)} (h_rec12 : ∀ (z0 : St) (z1 : Int32) (z2 : Int32) (z3 : Int32), Cq s0 z0 → Par (rec12 z0 z1 z2 z3) (fun _ σ' => Cq s0 σ')) : Par (x10_usesOfFact_44 N rec12 σ x1 x2 x3) (fun _ σ' => Cq s0 σ') := by
  unfold x10_usesOfFact_44
  exact (h_rec12 _ _ _ _ hU)
theorem cq_x10_usesOfFact_12_b {N : Nat} {s0 : St} {σ : St} {x1 : Int32} {x2 : Int32} {x3 : Int32} (hU : Cq s0 σ) {rec12 : St → Int32 → Int32 → Int32 → Option (Int32 × St)} (h_rec12 : ∀ (z0 : St) (z1 : Int32) (z2 : Int32) (z3 : Int32), Cq s0 z0 → Par (rec12 z0 z1 z2 z3) (fun _ σ' => Cq s0 σ')) : Par (x10_usesOfFact_12_b N rec12 σ x1 x2 x3) (fun _ σ' => Cq s0 σ') := by
  unfold x10_usesOfFact_12_b
  refine par_gd (fun _ => ?_)
  refine par_if (fun _ => ?_) (fun _ => ?_)
  · exact par_some hU
  · refine par_bd (cq_x5_at hU) (fun r4 σ5 h1 => ?_)
    refine par_if (fun _ => ?_) (fun _ => ?_)
    · exact (cq_x10_usesOfFact_44 h1 h_rec12)
    · exact (cq_x10_usesOfFact_44 h1 h_rec12)
theorem cq_x10_usesOfFact_12 {N : Nat} {s0 : St} : ∀ (n : Nat) (σ : St) (x1 : Int32) (x2 : Int32) (x3 : Int32), Cq s0 σ → Par (x10_usesOfFact_12 N  n σ x1 x2 x3) (fun _ σ' => Cq s0 σ') := by
  intro n
  induction n with
  | zero => intro σ x1 x2 x3 _ r σ' e; cases e
  | succ n ih =>
    intro σ x1 x2 x3 hU
    exact cq_x10_usesOfFact_12_b (N := N) hU (fun z0 z1 z2 z3 hz => ih z0 z1 z2 z3 hz)
theorem cq_x10_usesOfFact {N : Nat} {s0 : St} {σ : St} {a1 : Int32} (hU : Cq s0 σ) : Par (x10_usesOfFact N σ a1) (fun _ σ' => Cq s0 σ') := by
  unfold x10_usesOfFact
  refine par_bd (cq_x1_settle hU) (fun _ σ2 h1 => ?_)
  exact (cq_x10_usesOfFact_12  N _ _ _ _ h1)
theorem cq_x10_count {N : Nat} {s0 : St} {σ : St} {a1 : Int32} (hU : Cq s0 σ) : Par (x10_count N σ a1) (fun _ σ' => Cq s0 σ') := by
  unfold x10_count
  refine par_if (fun _ => ?_) (fun _ => ?_)
  · refine par_gd (fun _ => ?_)
    exact par_some hU
  · refine par_if (fun _ => ?_) (fun _ => ?_)
    · refine par_gd (fun _ => ?_)
      exact par_some hU
    · refine par_if (fun _ => ?_) (fun _ => ?_)
      · refine par_gd (fun _ => ?_)
        exact par_some hU
      · refine par_if (fun _ => ?_) (fun _ => ?_)
        · exact par_some hU
        · refine par_if (fun _ => ?_) (fun _ => ?_)
          · refine par_bd (cq_x10_usesOfFact hU) (fun r9 σ10 h1 => ?_)
            exact par_some h1
          · refine par_if (fun _ => ?_) (fun _ => ?_)
            · refine par_bd (cq_x10_usesOfFact hU) (fun r12 σ13 h2 => ?_)
              exact par_some h2
            · exact par_some hU
