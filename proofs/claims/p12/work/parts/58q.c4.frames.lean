/-! what reading and the rounds leave: the marks that are held -/
def Kl (s0 σ : St) : Prop := gL σ 912 = gL s0 912
theorem kl_I {s0 σ : St} {k : Nat} {v : Int32} (h : Kl s0 σ) (_ : True) : Kl s0 (sI σ k v) := h
theorem kl_A {s0 σ : St} {j i : Nat} {v : Int32} (h : Kl s0 σ) (_ : True) : Kl s0 (sA σ j i v) := h
theorem kl_P {s0 σ : St} {k : Nat} {v : Nat} (h : Kl s0 σ) (_ : True) : Kl s0 (sP σ k v) := h
theorem kl_L {s0 σ : St} {k : Nat} {v : Int64} (h : Kl s0 σ) (hk : k ≠ 912) : Kl s0 (sL σ k v) := by
  unfold Kl at *
  rw [← h]
  show (if 912 = k then v else gL σ 912) = gL σ 912
  rw [if_neg (fun e => hk e.symm)]
theorem kl_Z {s0 σ : St} {j i : Nat} {v : Int64} (h : Kl s0 σ) : Kl s0 (sZ σ j i v) := h
theorem kl_x0_set {N : Nat} {s0 : St} {σ : St} {a0 : Nat} {a1 : Int32} {a2 : Int32} {a3 : Int32} (hU : Kl s0 σ) : Par (x0_set N σ a0 a1 a2 a3) (fun _ σ' => Kl s0 σ') := by
  unfold x0_set
  refine par_if (fun _ => ?_) (fun _ => ?_)
  · exact par_some hU
  · refine par_gd (fun _ => ?_)
    refine par_if (fun _ => ?_) (fun _ => ?_)
    · exact par_some hU
    · refine par_if (fun _ => ?_) (fun _ => ?_)
      · exact par_some hU
      · refine par_if (fun _ => ?_) (fun _ => ?_)
        · exact par_some hU
        · refine par_gd (fun _ => ?_)
          exact par_some (kl_A hU (by decide))
theorem kl_x0_add_52 {N : Nat} {s0 : St} {σ : St} {x0 : Nat} {x1 : Int32} {x2 : Int32} {x3 : Int32} (hU : Kl s0 σ) : Par (x0_add_52 N σ x0 x1 x2 x3) (fun _ σ' => Kl s0 σ') := by
  unfold x0_add_52
  refine par_gd (fun _ => ?_)
  refine par_bd (kl_x0_set hU) (fun _ σ4 h1 => ?_)
  refine par_bd (kl_x0_set h1) (fun _ σ6 h2 => ?_)
  exact par_some h2
theorem kl_x0_add_31_b {N : Nat} {s0 : St} {σ : St} {x0 : Nat} {x1 : Int32} {x2 : Int32} {x3 : Int32} {x4 : Int32} (hU : Kl s0 σ) {rec31 : St → Nat → Int32 → Int32 → Int32 → Int32 → Option (Int32 × St)} (h_rec31 : ∀ (z0 : St) (z1 : Nat) (z2 : Int32) (z3 : Int32) (z4 : Int32) (z5 : Int32), Kl s0 z0 → Par (rec31 z0 z1 z2 z3 z4 z5) (fun _ σ' => Kl s0 σ')) : Par (x0_add_31_b N rec31 σ x0 x1 x2 x3 x4) (fun _ σ' => Kl s0 σ') := by
  unfold x0_add_31_b
  refine par_if (fun _ => ?_) (fun _ => ?_)
  · exact (kl_x0_add_52 hU)
  · refine par_gd (fun _ => ?_)
    refine par_bd (kl_x0_set hU) (fun _ σ9 h1 => ?_)
    exact (h_rec31 _ _ _ _ _ _ h1)
theorem kl_x0_add_31 {N : Nat} {s0 : St} : ∀ (n : Nat) (σ : St) (x0 : Nat) (x1 : Int32) (x2 : Int32) (x3 : Int32) (x4 : Int32), Kl s0 σ → Par (x0_add_31 N  n σ x0 x1 x2 x3 x4) (fun _ σ' => Kl s0 σ') := by
  intro n
  induction n with
  | zero => intro σ x0 x1 x2 x3 x4 _ r σ' e; cases e
  | succ n ih =>
    intro σ x0 x1 x2 x3 x4 hU
    exact kl_x0_add_31_b (N := N) hU (fun z0 z1 z2 z3 z4 z5 hz => ih z0 z1 z2 z3 z4 z5 hz)
theorem kl_x0_add {N : Nat} {s0 : St} {σ : St} {a0 : Nat} {a1 : Int32} {a2 : Int32} (hU : Kl s0 σ) : Par (x0_add N σ a0 a1 a2) (fun _ σ' => Kl s0 σ') := by
  unfold x0_add
  refine par_gd (fun _ => ?_)
  refine par_if (fun _ => ?_) (fun _ => ?_)
  · exact par_some hU
  · refine par_if (fun _ => ?_) (fun _ => ?_)
    · exact (kl_x0_add_31  N _ _ _ _ _ _ (kl_I hU (by decide)))
    · exact par_some hU
theorem kl_x0_get {N : Nat} {s0 : St} {σ : St} {a0 : Nat} {a1 : Int32} {a2 : Int32} (hU : Kl s0 σ) : Par (x0_get N σ a0 a1 a2) (fun _ σ' => Kl s0 σ') := by
  unfold x0_get
  refine par_if (fun _ => ?_) (fun _ => ?_)
  · exact par_some hU
  · refine par_gd (fun _ => ?_)
    refine par_if (fun _ => ?_) (fun _ => ?_)
    · exact par_some hU
    · refine par_if (fun _ => ?_) (fun _ => ?_)
      · exact par_some hU
      · refine par_if (fun _ => ?_) (fun _ => ?_)
        · exact par_some hU
        · refine par_gd (fun _ => ?_)
          exact par_some hU
theorem kl_x0_addArgument {N : Nat} {s0 : St} {σ : St} {a0 : Nat} {a1 : Int32} {a2 : Int32} (hU : Kl s0 σ) : Par (x0_addArgument N σ a0 a1 a2) (fun _ σ' => Kl s0 σ') := by
  unfold x0_addArgument
  refine par_gd (fun _ => ?_)
  refine par_bd (kl_x0_get hU) (fun r2 σ3 h1 => ?_)
  refine par_bd (kl_x0_set h1) (fun _ σ5 h2 => ?_)
  exact par_some h2
theorem kl_x0_arguments {N : Nat} {s0 : St} {σ : St} {a0 : Nat} {a1 : Int32} (hU : Kl s0 σ) : Par (x0_arguments N σ a0 a1) (fun _ σ' => Kl s0 σ') := by
  unfold x0_arguments
  refine par_gd (fun _ => ?_)
  refine par_bd (kl_x0_get hU) (fun r2 σ3 h1 => ?_)
  exact par_some h1
theorem kl_x0_argument {N : Nat} {s0 : St} {σ : St} {a0 : Nat} {a1 : Int32} {a2 : Int32} (hU : Kl s0 σ) : Par (x0_argument N σ a0 a1 a2) (fun _ σ' => Kl s0 σ') := by
  unfold x0_argument
  refine par_gd (fun _ => ?_)
  refine par_bd (kl_x0_get hU) (fun r2 σ3 h1 => ?_)
  exact par_some h1
theorem kl_j_fillL_6_b {N : Nat} {s0 : St} {σ : St} {x0 : Nat} {x1 : Int64} {x3 : Int32} {x4 : Int32} (hU : Kl s0 σ) {rec6 : St → Nat → Int64 → Int32 → Int32 → Option (Unit × St)} (h_rec6 : ∀ (z0 : St) (z1 : Nat) (z2 : Int64) (z3 : Int32) (z4 : Int32), Kl s0 z0 → Par (rec6 z0 z1 z2 z3 z4) (fun _ σ' => Kl s0 σ')) : Par (j_fillL_6_b N rec6 σ x0 x1 x3 x4) (fun _ σ' => Kl s0 σ') := by
  unfold j_fillL_6_b
  refine par_if (fun _ => ?_) (fun _ => ?_)
  · exact par_some hU
  · refine par_gd (fun _ => ?_)
    refine par_gd (fun _ => ?_)
    exact (h_rec6 _ _ _ _ _ (kl_Z hU))
theorem kl_j_fillL_6 {N : Nat} {s0 : St} : ∀ (n : Nat) (σ : St) (x0 : Nat) (x1 : Int64) (x3 : Int32) (x4 : Int32), Kl s0 σ → Par (j_fillL_6 N  n σ x0 x1 x3 x4) (fun _ σ' => Kl s0 σ') := by
  intro n
  induction n with
  | zero => intro σ x0 x1 x3 x4 _ r σ' e; cases e
  | succ n ih =>
    intro σ x0 x1 x3 x4 hU
    exact kl_j_fillL_6_b (N := N) hU (fun z0 z1 z2 z3 z4 hz => ih z0 z1 z2 z3 z4 hz)
theorem kl_j_fillL {N : Nat} {s0 : St} {σ : St} {a1 : Nat} {a2 : Int64} (hU : Kl s0 σ) : Par (j_fillL N σ a1 a2) (fun _ σ' => Kl s0 σ') := by
  unfold j_fillL
  refine par_gd (fun _ => ?_)
  exact (kl_j_fillL_6  N _ _ _ _ _ hU)
theorem kl_j_fill_5_b {N : Nat} {s0 : St} {σ : St} {x0 : Nat} {x1 : Int32} {x2 : Int32} {x3 : Int32} (hU : Kl s0 σ) {rec5 : St → Nat → Int32 → Int32 → Int32 → Option (Unit × St)} (h_rec5 : ∀ (z0 : St) (z1 : Nat) (z2 : Int32) (z3 : Int32) (z4 : Int32), Kl s0 z0 → Par (rec5 z0 z1 z2 z3 z4) (fun _ σ' => Kl s0 σ')) : Par (j_fill_5_b N rec5 σ x0 x1 x2 x3) (fun _ σ' => Kl s0 σ') := by
  unfold j_fill_5_b
  refine par_if (fun _ => ?_) (fun _ => ?_)
  · exact par_some hU
  · refine par_gd (fun _ => ?_)
    refine par_gd (fun _ => ?_)
    exact (h_rec5 _ _ _ _ _ (kl_A hU (by decide)))
theorem kl_j_fill_5 {N : Nat} {s0 : St} : ∀ (n : Nat) (σ : St) (x0 : Nat) (x1 : Int32) (x2 : Int32) (x3 : Int32), Kl s0 σ → Par (j_fill_5 N  n σ x0 x1 x2 x3) (fun _ σ' => Kl s0 σ') := by
  intro n
  induction n with
  | zero => intro σ x0 x1 x2 x3 _ r σ' e; cases e
  | succ n ih =>
    intro σ x0 x1 x2 x3 hU
    exact kl_j_fill_5_b (N := N) hU (fun z0 z1 z2 z3 z4 hz => ih z0 z1 z2 z3 z4 hz)
theorem kl_j_fill {N : Nat} {s0 : St} {σ : St} {a1 : Nat} {a2 : Int32} (hU : Kl s0 σ) : Par (j_fill N σ a1 a2) (fun _ σ' => Kl s0 σ') := by
  unfold j_fill
  refine par_gd (fun _ => ?_)
  exact (kl_j_fill_5  N _ _ _ _ _ hU)
theorem kl_x1_clear {N : Nat} {s0 : St} {σ : St} (hU : Kl s0 σ) : Par (x1_clear N σ) (fun _ σ' => Kl s0 σ') := by
  unfold x1_clear
  refine par_gd (fun _ => ?_)
  refine par_bd (kl_j_fillL (kl_I (kl_I (kl_P (kl_P hU (by decide)) (by decide)) (by decide)) (by decide))) (fun _ σ3 h1 => ?_)
  refine par_bd (kl_j_fill h1) (fun _ σ5 h2 => ?_)
  refine par_bd (kl_j_fill h2) (fun _ σ7 h3 => ?_)
  refine par_bd (kl_j_fill h3) (fun _ σ9 h4 => ?_)
  refine par_bd (kl_j_fill h4) (fun _ σ11 h5 => ?_)
  exact par_some h5
theorem kl_x3_has {N : Nat} {s0 : St} {σ : St} {a0 : Nat} {a1 : Int32} (hU : Kl s0 σ) : Par (x3_has N σ a0 a1) (fun _ σ' => Kl s0 σ') := by
  unfold x3_has
  refine par_if (fun _ => ?_) (fun _ => ?_)
  · exact par_some hU
  · refine par_if (fun _ => ?_) (fun _ => ?_)
    · exact par_some hU
    · refine par_gd (fun _ => ?_)
      refine par_if (fun _ => ?_) (fun _ => ?_)
      · exact par_some hU
      · exact par_some hU
theorem kl_x5_at {N : Nat} {s0 : St} {σ : St} {a1 : Nat} {a2 : Int32} (hU : Kl s0 σ) : Par (x5_at N σ a1 a2) (fun _ σ' => Kl s0 σ') := by
  unfold x5_at
  refine par_if (fun _ => ?_) (fun _ => ?_)
  · exact par_some hU
  · refine par_gd (fun _ => ?_)
    refine par_if (fun _ => ?_) (fun _ => ?_)
    · exact par_some hU
    · refine par_gd (fun _ => ?_)
      exact par_some hU
theorem kl_x7_outers_33 {N : Nat} {s0 : St} {σ : St} {t0 : Int32} {t1 : Int32} (hU : Kl s0 σ) : Par (x7_outers_33 N σ t0 t1) (fun _ σ' => Kl s0 σ') := by
  unfold x7_outers_33
  exact par_some hU
theorem kl_x7_outers {N : Nat} {s0 : St} {σ : St} (hU : Kl s0 σ) : Par (x7_outers N σ) (fun _ σ' => Kl s0 σ') := by
  unfold x7_outers
  refine par_gd (fun _ => ?_)
  refine par_bd (kl_x5_at hU) (fun r2 σ3 h1 => ?_)
  refine par_gd (fun _ => ?_)
  refine par_bd (kl_x3_has h1) (fun r5 σ6 h2 => ?_)
  refine par_if (fun _ => ?_) (fun _ => ?_)
  · exact (kl_x7_outers_33 h2)
  · exact (kl_x7_outers_33 h2)
theorem kl_x5_put {N : Nat} {s0 : St} {σ : St} {a1 : Nat} {a2 : Int32} {a3 : Int32} (hU : Kl s0 σ) : Par (x5_put N σ a1 a2 a3) (fun _ σ' => Kl s0 σ') := by
  unfold x5_put
  refine par_if (fun _ => ?_) (fun _ => ?_)
  · exact par_some hU
  · refine par_gd (fun _ => ?_)
    refine par_if (fun _ => ?_) (fun _ => ?_)
    · exact par_some hU
    · refine par_gd (fun _ => ?_)
      exact par_some (kl_A hU (by decide))
theorem kl_x1_raise_20 {N : Nat} {s0 : St} {σ : St} {x1 : Int32} {t0 : Int32} (hU : Kl s0 σ) : Par (x1_raise_20 N σ x1 t0) (fun _ σ' => Kl s0 σ') := by
  unfold x1_raise_20
  refine par_bd (kl_x5_at hU) (fun r1 σ2 h1 => ?_)
  refine par_if (fun _ => ?_) (fun _ => ?_)
  · exact par_some h1
  · refine par_bd (kl_x5_put h1) (fun _ σ4 h2 => ?_)
    exact par_some (kl_I (kl_I h2 (by decide)) (by decide))
theorem kl_x1_raise {N : Nat} {s0 : St} {σ : St} {a1 : Int32} {a2 : Int32} (hU : Kl s0 σ) : Par (x1_raise N σ a1 a2) (fun _ σ' => Kl s0 σ') := by
  unfold x1_raise
  refine par_if (fun _ => ?_) (fun _ => ?_)
  · exact (kl_x1_raise_20 hU)
  · exact (kl_x1_raise_20 hU)
theorem kl_x1_reachEntry_33_b {N : Nat} {s0 : St} {σ : St} {x1 : Int32} (hU : Kl s0 σ) {rec33 : St → Int32 → Option (Unit × St)} (h_rec33 : ∀ (z0 : St) (z1 : Int32), Kl s0 z0 → Par (rec33 z0 z1) (fun _ σ' => Kl s0 σ')) : Par (x1_reachEntry_33_b N rec33 σ x1) (fun _ σ' => Kl s0 σ') := by
  unfold x1_reachEntry_33_b
  refine par_bd (kl_x7_outers hU) (fun r4 σ5 h1 => ?_)
  refine par_if (fun _ => ?_) (fun _ => ?_)
  · exact par_some h1
  · refine par_bd (kl_x5_at h1) (fun r6 σ7 h2 => ?_)
    refine par_bd (kl_x1_raise h2) (fun _ σ9 h3 => ?_)
    refine par_bd (kl_x1_raise h3) (fun _ σ11 h4 => ?_)
    refine par_bd (kl_x1_raise h4) (fun _ σ13 h5 => ?_)
    exact (h_rec33 _ _ h5)
theorem kl_x1_reachEntry_33 {N : Nat} {s0 : St} : ∀ (n : Nat) (σ : St) (x1 : Int32), Kl s0 σ → Par (x1_reachEntry_33 N  n σ x1) (fun _ σ' => Kl s0 σ') := by
  intro n
  induction n with
  | zero => intro σ x1 _ r σ' e; cases e
  | succ n ih =>
    intro σ x1 hU
    exact kl_x1_reachEntry_33_b (N := N) hU (fun z0 z1 hz => ih z0 z1 hz)
theorem kl_x1_reachEntry {N : Nat} {s0 : St} {σ : St} (hU : Kl s0 σ) : Par (x1_reachEntry N σ) (fun _ σ' => Kl s0 σ') := by
  unfold x1_reachEntry
  refine par_gd (fun _ => ?_)
  refine par_bd (kl_x3_has hU) (fun r2 σ3 h1 => ?_)
  refine par_if (fun _ => ?_) (fun _ => ?_)
  · exact par_some h1
  · exact (kl_x1_reachEntry_33  N _ _ (kl_I h1 (by decide)))
theorem kl_x3_parameter {N : Nat} {s0 : St} {σ : St} {a0 : Nat} {a1 : Int32} {a2 : Int32} (hU : Kl s0 σ) : Par (x3_parameter N σ a0 a1 a2) (fun _ σ' => Kl s0 σ') := by
  unfold x3_parameter
  refine par_gd (fun _ => ?_)
  refine par_bd (kl_x5_at hU) (fun r2 σ3 h1 => ?_)
  exact par_some h1
theorem kl_x1_with_47 {N : Nat} {s0 : St} {σ : St} {x2 : Int32} {x3 : Int32} {x4 : Int64} {t0 : Int64} (hU : Kl s0 σ) : Par (x1_with_47 N σ x2 x3 x4 t0) (fun _ σ' => Kl s0 σ') := by
  unfold x1_with_47
  refine par_if (fun _ => ?_) (fun _ => ?_)
  · exact par_some hU
  · exact par_some hU
theorem kl_x1_with {N : Nat} {s0 : St} {σ : St} {a1 : Int64} {a2 : Int32} {a3 : Int32} (hU : Kl s0 σ) : Par (x1_with N σ a1 a2 a3) (fun _ σ' => Kl s0 σ') := by
  unfold x1_with
  refine par_if (fun _ => ?_) (fun _ => ?_)
  · exact par_some hU
  · refine par_if (fun _ => ?_) (fun _ => ?_)
    · exact par_some hU
    · refine par_if (fun _ => ?_) (fun _ => ?_)
      · exact (kl_x1_with_47 hU)
      · exact (kl_x1_with_47 hU)
theorem kl_x1_join {N : Nat} {s0 : St} {σ : St} {a1 : Int32} {a2 : Int64} (hU : Kl s0 σ) : Par (x1_join N σ a1 a2) (fun _ σ' => Kl s0 σ') := by
  unfold x1_join
  refine par_if (fun _ => ?_) (fun _ => ?_)
  · exact par_some hU
  · refine par_if (fun _ => ?_) (fun _ => ?_)
    · exact par_some hU
    · refine par_gd (fun _ => ?_)
      refine par_gd (fun _ => ?_)
      refine par_if (fun _ => ?_) (fun _ => ?_)
      · exact par_some hU
      · refine par_gd (fun _ => ?_)
        refine par_gd (fun _ => ?_)
        refine par_bd (kl_x5_put (kl_Z hU)) (fun _ σ2 h1 => ?_)
        exact par_some (kl_I h1 (by decide))
theorem kl_x1_openRoutines_96 {N : Nat} {s0 : St} {σ : St} {x1 : Int32} (hU : Kl s0 σ) {rec2 : St → Int32 → Option (Unit × St)} (h_rec2 : ∀ (z0 : St) (z1 : Int32), Kl s0 z0 → Par (rec2 z0 z1) (fun _ σ' => Kl s0 σ')) : Par (x1_openRoutines_96 N rec2 σ x1) (fun _ σ' => Kl s0 σ') := by
  unfold x1_openRoutines_96
  exact (h_rec2 _ _ hU)
theorem kl_x1_openRoutines_80 {N : Nat} {s0 : St} {σ : St} {x1 : Int32} {x2 : Int64} (hU : Kl s0 σ) {rec2 : St → Int32 → Option (Unit × St)} (h_rec2 : ∀ (z0 : St) (z1 : Int32), Kl s0 z0 → Par (rec2 z0 z1) (fun _ σ' => Kl s0 σ')) : Par (x1_openRoutines_80 N rec2 σ x1 x2) (fun _ σ' => Kl s0 σ') := by
  unfold x1_openRoutines_80
  refine par_gd (fun _ => ?_)
  refine par_bd (kl_x5_at hU) (fun r5 σ6 h1 => ?_)
  refine par_bd (kl_x1_join h1) (fun _ σ8 h2 => ?_)
  exact (kl_x1_openRoutines_96 h2 h_rec2)
theorem kl_x1_openRoutines_26_b {N : Nat} {s0 : St} {σ : St} {x1 : Int32} {x2 : Int64} {x4 : Int32} (hU : Kl s0 σ) {rec2 : St → Int32 → Option (Unit × St)} (h_rec2 : ∀ (z0 : St) (z1 : Int32), Kl s0 z0 → Par (rec2 z0 z1) (fun _ σ' => Kl s0 σ')) {rec26 : St → Int32 → Int64 → Int32 → Option (Unit × St)} (h_rec26 : ∀ (z0 : St) (z1 : Int32) (z2 : Int64) (z3 : Int32), Kl s0 z0 → Par (rec26 z0 z1 z2 z3) (fun _ σ' => Kl s0 σ')) : Par (x1_openRoutines_26_b N rec2 rec26 σ x1 x2 x4) (fun _ σ' => Kl s0 σ') := by
  unfold x1_openRoutines_26_b
  refine par_gd (fun _ => ?_)
  refine par_bd (kl_x5_at hU) (fun r2 σ3 h1 => ?_)
  refine par_if (fun _ => ?_) (fun _ => ?_)
  · exact (kl_x1_openRoutines_80 h1 h_rec2)
  · refine par_bd (kl_x5_at h1) (fun r9 σ10 h2 => ?_)
    refine par_gd (fun _ => ?_)
    refine par_bd (kl_x3_parameter h2) (fun r12 σ13 h3 => ?_)
    refine par_bd (kl_x1_with h3) (fun r14 σ15 h4 => ?_)
    exact (h_rec26 _ _ _ _ h4)
theorem kl_x1_openRoutines_26 {N : Nat} {s0 : St} {rec2 : St → Int32 → Option (Unit × St)} (h_rec2 : ∀ (z0 : St) (z1 : Int32), Kl s0 z0 → Par (rec2 z0 z1) (fun _ σ' => Kl s0 σ')) : ∀ (n : Nat) (σ : St) (x1 : Int32) (x2 : Int64) (x4 : Int32), Kl s0 σ → Par (x1_openRoutines_26 N rec2 n σ x1 x2 x4) (fun _ σ' => Kl s0 σ') := by
  intro n
  induction n with
  | zero => intro σ x1 x2 x4 _ r σ' e; cases e
  | succ n ih =>
    intro σ x1 x2 x4 hU
    exact kl_x1_openRoutines_26_b (N := N) hU h_rec2 (fun z0 z1 z2 z3 hz => ih z0 z1 z2 z3 hz)
theorem kl_x1_openRoutines_2_b {N : Nat} {s0 : St} {σ : St} {x1 : Int32} (hU : Kl s0 σ) {rec2 : St → Int32 → Option (Unit × St)} (h_rec2 : ∀ (z0 : St) (z1 : Int32), Kl s0 z0 → Par (rec2 z0 z1) (fun _ σ' => Kl s0 σ')) : Par (x1_openRoutines_2_b N rec2 σ x1) (fun _ σ' => Kl s0 σ') := by
  unfold x1_openRoutines_2_b
  refine par_if (fun _ => ?_) (fun _ => ?_)
  · exact par_some hU
  · refine par_if (fun _ => ?_) (fun _ => ?_)
    · exact (kl_x1_openRoutines_96 hU h_rec2)
    · exact (kl_x1_openRoutines_26 h_rec2 N _ _ _ _ hU)
theorem kl_x1_openRoutines_2 {N : Nat} {s0 : St} : ∀ (n : Nat) (σ : St) (x1 : Int32), Kl s0 σ → Par (x1_openRoutines_2 N  n σ x1) (fun _ σ' => Kl s0 σ') := by
  intro n
  induction n with
  | zero => intro σ x1 _ r σ' e; cases e
  | succ n ih =>
    intro σ x1 hU
    exact kl_x1_openRoutines_2_b (N := N) hU (fun z0 z1 hz => ih z0 z1 hz)
theorem kl_x1_openRoutines {N : Nat} {s0 : St} {σ : St} (hU : Kl s0 σ) : Par (x1_openRoutines N σ) (fun _ σ' => Kl s0 σ') := by
  unfold x1_openRoutines
  exact (kl_x1_openRoutines_2  N _ _ hU)
theorem kl_x1_factOf {N : Nat} {s0 : St} {σ : St} {a1 : Int64} {a2 : Int32} (hU : Kl s0 σ) : Par (x1_factOf N σ a1 a2) (fun _ σ' => Kl s0 σ') := by
  unfold x1_factOf
  exact par_some hU
theorem kl_x1_narrow {N : Nat} {s0 : St} {σ : St} {a1 : Int64} {a2 : Int32} {a3 : Int32} (hU : Kl s0 σ) : Par (x1_narrow N σ a1 a2 a3) (fun _ σ' => Kl s0 σ') := by
  unfold x1_narrow
  refine par_bd (kl_x1_factOf hU) (fun r1 σ2 h1 => ?_)
  refine par_bd (kl_x1_with h1) (fun r3 σ4 h2 => ?_)
  exact par_some h2
theorem kl_x1_fork_94 {N : Nat} {s0 : St} {σ : St} {x1 : Int32} {x6 : Int64} {x8 : Int64} {t0 : Int32} {t1 : Int32} (hU : Kl s0 σ) : Par (x1_fork_94 N σ x1 x6 x8 t0 t1) (fun _ σ' => Kl s0 σ') := by
  unfold x1_fork_94
  refine par_gd (fun _ => ?_)
  refine par_bd (kl_x0_get hU) (fun r8 σ9 h1 => ?_)
  refine par_bd (kl_x5_at h1) (fun r10 σ11 h2 => ?_)
  refine par_bd (kl_x5_put h2) (fun _ σ13 h3 => ?_)
  refine par_bd (kl_x1_join h3) (fun _ σ15 h4 => ?_)
  refine par_gd (fun _ => ?_)
  refine par_bd (kl_x0_get h4) (fun r17 σ18 h5 => ?_)
  refine par_bd (kl_x1_join h5) (fun _ σ20 h6 => ?_)
  exact par_some h6
theorem kl_x1_fork_82 {N : Nat} {s0 : St} {σ : St} {x1 : Int32} {x6 : Int64} {x8 : Int64} {t0 : Int32} (hU : Kl s0 σ) : Par (x1_fork_82 N σ x1 x6 x8 t0) (fun _ σ' => Kl s0 σ') := by
  unfold x1_fork_82
  refine par_if (fun _ => ?_) (fun _ => ?_)
  · exact (kl_x1_fork_94 hU)
  · exact (kl_x1_fork_94 hU)
theorem kl_x1_fork_70 {N : Nat} {s0 : St} {σ : St} {x1 : Int32} {x6 : Int64} {x8 : Int64} (hU : Kl s0 σ) : Par (x1_fork_70 N σ x1 x6 x8) (fun _ σ' => Kl s0 σ') := by
  unfold x1_fork_70
  refine par_if (fun _ => ?_) (fun _ => ?_)
  · exact (kl_x1_fork_82 hU)
  · exact (kl_x1_fork_82 hU)
theorem kl_x1_fork_46 {N : Nat} {s0 : St} {σ : St} {x1 : Int32} {x2 : Int64} {x5 : Int32} {t0 : Int32} (hU : Kl s0 σ) : Par (x1_fork_46 N σ x1 x2 x5 t0) (fun _ σ' => Kl s0 σ') := by
  unfold x1_fork_46
  refine par_bd (kl_x1_narrow hU) (fun r21 σ22 h1 => ?_)
  refine par_bd (kl_x1_narrow h1) (fun r23 σ24 h2 => ?_)
  exact (kl_x1_fork_70 h2)
theorem kl_x1_fork {N : Nat} {s0 : St} {σ : St} {a1 : Int32} {a2 : Int64} (hU : Kl s0 σ) : Par (x1_fork N σ a1 a2) (fun _ σ' => Kl s0 σ') := by
  unfold x1_fork
  refine par_gd (fun _ => ?_)
  refine par_bd (kl_x0_get hU) (fun r2 σ3 h1 => ?_)
  refine par_gd (fun _ => ?_)
  refine par_bd (kl_x0_get h1) (fun r5 σ6 h2 => ?_)
  refine par_if (fun _ => ?_) (fun _ => ?_)
  · exact (kl_x1_fork_70 h2)
  · refine par_if (fun _ => ?_) (fun _ => ?_)
    · exact (kl_x1_fork_46 h2)
    · exact (kl_x1_fork_46 h2)
theorem kl_x1_noteUse {N : Nat} {s0 : St} {σ : St} {a1 : Int32} {a2 : Int32} (hU : Kl s0 σ) : Par (x1_noteUse N σ a1 a2) (fun _ σ' => Kl s0 σ') := by
  unfold x1_noteUse
  refine par_bd (kl_x5_at hU) (fun r1 σ2 h1 => ?_)
  refine par_bd (kl_x5_put h1) (fun _ σ4 h2 => ?_)
  exact par_some h2
theorem kl_x1_workCall_77 {N : Nat} {s0 : St} {σ : St} {x4 : Int32} (hU : Kl s0 σ) : Par (x1_workCall_77 N σ x4) (fun _ σ' => Kl s0 σ') := by
  unfold x1_workCall_77
  refine par_bd (kl_x5_at hU) (fun r4 σ5 h1 => ?_)
  refine par_if (fun _ => ?_) (fun _ => ?_)
  · exact par_some (kl_L h1 (by decide))
  · exact par_some h1
theorem kl_x1_workCall_33_b {N : Nat} {s0 : St} {σ : St} {x1 : Int32} {x2 : Int64} {x4 : Int32} {x5 : Int32} (hU : Kl s0 σ) {rec33 : St → Int32 → Int64 → Int32 → Int32 → Option (Int32 × St)} (h_rec33 : ∀ (z0 : St) (z1 : Int32) (z2 : Int64) (z3 : Int32) (z4 : Int32), Kl s0 z0 → Par (rec33 z0 z1 z2 z3 z4) (fun _ σ' => Kl s0 σ')) : Par (x1_workCall_33_b N rec33 σ x1 x2 x4 x5) (fun _ σ' => Kl s0 σ') := by
  unfold x1_workCall_33_b
  refine par_gd (fun _ => ?_)
  refine par_bd (kl_x0_arguments hU) (fun r2 σ3 h1 => ?_)
  refine par_if (fun _ => ?_) (fun _ => ?_)
  · exact (kl_x1_workCall_77 h1)
  · refine par_gd (fun _ => ?_)
    refine par_bd (kl_x0_argument h1) (fun r7 σ8 h2 => ?_)
    refine par_bd (kl_x1_factOf h2) (fun r9 σ10 h3 => ?_)
    refine par_bd (kl_x1_raise h3) (fun _ σ12 h4 => ?_)
    exact (h_rec33 _ _ _ _ _ h4)
theorem kl_x1_workCall_33 {N : Nat} {s0 : St} : ∀ (n : Nat) (σ : St) (x1 : Int32) (x2 : Int64) (x4 : Int32) (x5 : Int32), Kl s0 σ → Par (x1_workCall_33 N  n σ x1 x2 x4 x5) (fun _ σ' => Kl s0 σ') := by
  intro n
  induction n with
  | zero => intro σ x1 x2 x4 x5 _ r σ' e; cases e
  | succ n ih =>
    intro σ x1 x2 x4 x5 hU
    exact kl_x1_workCall_33_b (N := N) hU (fun z0 z1 z2 z3 z4 hz => ih z0 z1 z2 z3 z4 hz)
theorem kl_x1_workCall {N : Nat} {s0 : St} {σ : St} {a1 : Int32} {a2 : Int64} {a3 : Int32} (hU : Kl s0 σ) : Par (x1_workCall N σ a1 a2 a3) (fun _ σ' => Kl s0 σ') := by
  unfold x1_workCall
  refine par_if (fun _ => ?_) (fun _ => ?_)
  · exact (kl_x1_workCall_33  N _ _ _ _ _ (kl_I (kl_I hU (by decide)) (by decide)))
  · exact (kl_x1_workCall_33  N _ _ _ _ _ hU)
theorem kl_x1_work {N : Nat} {s0 : St} {σ : St} {a1 : Int32} {a2 : Int64} (hU : Kl s0 σ) : Par (x1_work N σ a1 a2) (fun _ σ' => Kl s0 σ') := by
  unfold x1_work
  refine par_gd (fun _ => ?_)
  refine par_bd (kl_x0_get hU) (fun r2 σ3 h1 => ?_)
  refine par_gd (fun _ => ?_)
  refine par_bd (kl_x0_get h1) (fun r5 σ6 h2 => ?_)
  refine par_gd (fun _ => ?_)
  refine par_bd (kl_x0_get (kl_L h2 (by decide))) (fun r8 σ9 h3 => ?_)
  refine par_if (fun _ => ?_) (fun _ => ?_)
  · refine par_bd (kl_x1_raise h3) (fun _ σ12 h4 => ?_)
    refine par_bd (kl_x1_raise h4) (fun _ σ14 h5 => ?_)
    exact par_some h5
  · refine par_if (fun _ => ?_) (fun _ => ?_)
    · refine par_bd (kl_x1_factOf h3) (fun r16 σ17 h6 => ?_)
      refine par_bd (kl_x1_raise h6) (fun _ σ19 h7 => ?_)
      refine par_bd (kl_x1_factOf h7) (fun r20 σ21 h8 => ?_)
      refine par_bd (kl_x1_raise h8) (fun _ σ23 h9 => ?_)
      exact par_some h9
    · refine par_if (fun _ => ?_) (fun _ => ?_)
      · refine par_bd (kl_x1_factOf h3) (fun r25 σ26 h10 => ?_)
        exact par_some h10
      · refine par_if (fun _ => ?_) (fun _ => ?_)
        · refine par_gd (fun _ => ?_)
          refine par_bd (kl_x0_get h3) (fun r29 σ30 h11 => ?_)
          refine par_bd (kl_x1_factOf h11) (fun r31 σ32 h12 => ?_)
          refine par_bd (kl_x1_noteUse h12) (fun _ σ34 h13 => ?_)
          refine par_bd (kl_x1_narrow h13) (fun r35 σ36 h14 => ?_)
          refine par_bd (kl_x5_at (kl_L h14 (by decide))) (fun r37 σ38 h15 => ?_)
          exact par_some h15
        · refine par_if (fun _ => ?_) (fun _ => ?_)
          · refine par_bd (kl_x1_workCall h3) (fun r40 σ41 h16 => ?_)
            exact par_some h16
          · exact par_some h3
theorem kl_x1_finish {N : Nat} {s0 : St} {σ : St} {a1 : Int32} {a2 : Int32} {a3 : Int32} (hU : Kl s0 σ) : Par (x1_finish N σ a1 a2 a3) (fun _ σ' => Kl s0 σ') := by
  unfold x1_finish
  refine par_gd (fun _ => ?_)
  refine par_bd (kl_x0_get hU) (fun r2 σ3 h1 => ?_)
  refine par_if (fun _ => ?_) (fun _ => ?_)
  · refine par_bd (kl_x1_with h1) (fun r27 σ28 h2 => ?_)
    refine par_bd (kl_x1_join h2) (fun _ σ30 h3 => ?_)
    exact par_some h3
  · refine par_if (fun _ => ?_) (fun _ => ?_)
    · refine par_gd (fun _ => ?_)
      refine par_bd (kl_x0_get h1) (fun r12 σ13 h4 => ?_)
      refine par_bd (kl_x1_factOf h4) (fun r14 σ15 h5 => ?_)
      refine par_bd (kl_x1_noteUse h5) (fun _ σ17 h6 => ?_)
      refine par_bd (kl_x1_narrow h6) (fun r18 σ19 h7 => ?_)
      refine par_if (fun _ => ?_) (fun _ => ?_)
      · exact par_some (kl_L h7 (by decide))
      · refine par_gd (fun _ => ?_)
        refine par_bd (kl_x0_get (kl_L h7 (by decide))) (fun r21 σ22 h8 => ?_)
        refine par_bd (kl_x1_raise h8) (fun _ σ24 h9 => ?_)
        refine par_bd (kl_x1_join h9) (fun _ σ26 h10 => ?_)
        exact par_some h10
    · refine par_if (fun _ => ?_) (fun _ => ?_)
      · refine par_gd (fun _ => ?_)
        refine par_bd (kl_x0_get h1) (fun r7 σ8 h11 => ?_)
        refine par_bd (kl_x1_raise h11) (fun _ σ10 h12 => ?_)
        exact par_some h12
      · refine par_bd (kl_x1_join h1) (fun _ σ5 h13 => ?_)
        exact par_some h13
theorem kl_x1_advance {N : Nat} {s0 : St} {σ : St} {a1 : Int32} {a2 : Int64} (hU : Kl s0 σ) : Par (x1_advance N σ a1 a2) (fun _ σ' => Kl s0 σ') := by
  unfold x1_advance
  refine par_gd (fun _ => ?_)
  refine par_bd (kl_x0_get hU) (fun r2 σ3 h1 => ?_)
  refine par_if (fun _ => ?_) (fun _ => ?_)
  · refine par_gd (fun _ => ?_)
    refine par_bd (kl_x0_get h1) (fun r16 σ17 h2 => ?_)
    refine par_bd (kl_x1_join h2) (fun _ σ19 h3 => ?_)
    exact par_some h3
  · refine par_if (fun _ => ?_) (fun _ => ?_)
    · refine par_gd (fun _ => ?_)
      refine par_bd (kl_x0_get h1) (fun r11 σ12 h4 => ?_)
      refine par_bd (kl_x1_raise h4) (fun _ σ14 h5 => ?_)
      exact par_some h5
    · refine par_if (fun _ => ?_) (fun _ => ?_)
      · refine par_bd (kl_x1_fork h1) (fun _ σ9 h6 => ?_)
        exact par_some h6
      · refine par_bd (kl_x1_work h1) (fun r4 σ5 h7 => ?_)
        refine par_if (fun _ => ?_) (fun _ => ?_)
        · exact par_some h7
        · refine par_bd (kl_x1_finish h7) (fun _ σ7 h8 => ?_)
          exact par_some h8
theorem kl_x1_settle_145 {N : Nat} {s0 : St} {σ : St} {x3 : Int32} (hU : Kl s0 σ) {rec37 : St → Int32 → Option (Unit × St)} (h_rec37 : ∀ (z0 : St) (z1 : Int32), Kl s0 z0 → Par (rec37 z0 z1) (fun _ σ' => Kl s0 σ')) : Par (x1_settle_145 N rec37 σ x3) (fun _ σ' => Kl s0 σ') := by
  unfold x1_settle_145
  exact (h_rec37 _ _ hU)
theorem kl_x1_settle_139 {N : Nat} {s0 : St} {σ : St} {x3 : Int32} {x4 : Int32} (hU : Kl s0 σ) {rec37 : St → Int32 → Option (Unit × St)} (h_rec37 : ∀ (z0 : St) (z1 : Int32), Kl s0 z0 → Par (rec37 z0 z1) (fun _ σ' => Kl s0 σ')) {rec63 : St → Int32 → Int32 → Option (Unit × St)} (h_rec63 : ∀ (z0 : St) (z1 : Int32) (z2 : Int32), Kl s0 z0 → Par (rec63 z0 z1 z2) (fun _ σ' => Kl s0 σ')) : Par (x1_settle_139 N rec37 rec63 σ x3 x4) (fun _ σ' => Kl s0 σ') := by
  unfold x1_settle_139
  exact (h_rec63 _ _ _ hU)
theorem kl_x1_settle_63_b {N : Nat} {s0 : St} {σ : St} {x3 : Int32} {x4 : Int32} (hU : Kl s0 σ) {rec37 : St → Int32 → Option (Unit × St)} (h_rec37 : ∀ (z0 : St) (z1 : Int32), Kl s0 z0 → Par (rec37 z0 z1) (fun _ σ' => Kl s0 σ')) {rec63 : St → Int32 → Int32 → Option (Unit × St)} (h_rec63 : ∀ (z0 : St) (z1 : Int32) (z2 : Int32), Kl s0 z0 → Par (rec63 z0 z1 z2) (fun _ σ' => Kl s0 σ')) : Par (x1_settle_63_b N rec37 rec63 σ x3 x4) (fun _ σ' => Kl s0 σ') := by
  unfold x1_settle_63_b
  refine par_gd (fun _ => ?_)
  refine par_if (fun _ => ?_) (fun _ => ?_)
  · exact (kl_x1_settle_145 hU h_rec37)
  · refine par_if (fun _ => ?_) (fun _ => ?_)
    · exact (kl_x1_settle_145 hU h_rec37)
    · refine par_gd (fun _ => ?_)
      refine par_if (fun _ => ?_) (fun _ => ?_)
      · exact (kl_x1_settle_139 hU h_rec37 h_rec63)
      · refine par_bd (kl_x5_at hU) (fun r8 σ9 h1 => ?_)
        refine par_if (fun _ => ?_) (fun _ => ?_)
        · exact (kl_x1_settle_139 h1 h_rec37 h_rec63)
        · refine par_bd (kl_x5_put h1) (fun _ σ11 h2 => ?_)
          refine par_gd (fun _ => ?_)
          refine par_bd (kl_x1_advance h2) (fun _ σ13 h3 => ?_)
          exact (kl_x1_settle_139 h3 h_rec37 h_rec63)
theorem kl_x1_settle_63 {N : Nat} {s0 : St} {rec37 : St → Int32 → Option (Unit × St)} (h_rec37 : ∀ (z0 : St) (z1 : Int32), Kl s0 z0 → Par (rec37 z0 z1) (fun _ σ' => Kl s0 σ')) : ∀ (n : Nat) (σ : St) (x3 : Int32) (x4 : Int32), Kl s0 σ → Par (x1_settle_63 N rec37 n σ x3 x4) (fun _ σ' => Kl s0 σ') := by
  intro n
  induction n with
  | zero => intro σ x3 x4 _ r σ' e; cases e
  | succ n ih =>
    intro σ x3 x4 hU
    exact kl_x1_settle_63_b (N := N) hU h_rec37 (fun z0 z1 z2 hz => ih z0 z1 z2 hz)
theorem kl_x1_settle_37_b {N : Nat} {s0 : St} {σ : St} {x3 : Int32} (hU : Kl s0 σ) {rec37 : St → Int32 → Option (Unit × St)} (h_rec37 : ∀ (z0 : St) (z1 : Int32), Kl s0 z0 → Par (rec37 z0 z1) (fun _ σ' => Kl s0 σ')) : Par (x1_settle_37_b N rec37 σ x3) (fun _ σ' => Kl s0 σ') := by
  unfold x1_settle_37_b
  refine par_if (fun _ => ?_) (fun _ => ?_)
  · exact par_some (kl_I hU (by decide))
  · refine par_if (fun _ => ?_) (fun _ => ?_)
    · exact par_some (kl_I hU (by decide))
    · refine par_bd (kl_x1_openRoutines (kl_I hU (by decide))) (fun _ σ6 h1 => ?_)
      exact (kl_x1_settle_63 h_rec37 N _ _ _ h1)
theorem kl_x1_settle_37 {N : Nat} {s0 : St} : ∀ (n : Nat) (σ : St) (x3 : Int32), Kl s0 σ → Par (x1_settle_37 N  n σ x3) (fun _ σ' => Kl s0 σ') := by
  intro n
  induction n with
  | zero => intro σ x3 _ r σ' e; cases e
  | succ n ih =>
    intro σ x3 hU
    exact kl_x1_settle_37_b (N := N) hU (fun z0 z1 hz => ih z0 z1 hz)
theorem kl_x3_clear {N : Nat} {s0 : St} {σ : St} {a0 : Nat} (hU : Kl s0 σ) : Par (x3_clear N σ a0) (fun _ σ' => Kl s0 σ') := by
  unfold x3_clear
  refine par_gd (fun _ => ?_)
  exact par_some (kl_I (kl_I (kl_I (kl_I (kl_I (kl_I hU (by decide)) (by decide)) (by decide)) (by decide)) (by decide)) (by decide))
theorem kl_x3_addRoutine_12 {N : Nat} {s0 : St} {σ : St} {x0 : Nat} {x1 : Int32} (hU : Kl s0 σ) : Par (x3_addRoutine_12 N σ x0 x1) (fun _ σ' => Kl s0 σ') := by
  unfold x3_addRoutine_12
  refine par_gd (fun _ => ?_)
  refine par_bd (kl_x5_put (kl_I (kl_I hU (by decide)) (by decide))) (fun _ σ4 h1 => ?_)
  refine par_bd (kl_x5_put h1) (fun _ σ6 h2 => ?_)
  exact par_some h2
theorem kl_x3_addRoutine {N : Nat} {s0 : St} {σ : St} {a0 : Nat} {a1 : Int32} (hU : Kl s0 σ) : Par (x3_addRoutine N σ a0 a1) (fun _ σ' => Kl s0 σ') := by
  unfold x3_addRoutine
  refine par_gd (fun _ => ?_)
  refine par_if (fun _ => ?_) (fun _ => ?_)
  · exact (kl_x3_addRoutine_12 (kl_I hU (by decide)))
  · exact (kl_x3_addRoutine_12 hU)
theorem kl_x3_addParameter {N : Nat} {s0 : St} {σ : St} {a0 : Nat} {a1 : Int32} {a2 : Int32} (hU : Kl s0 σ) : Par (x3_addParameter N σ a0 a1 a2) (fun _ σ' => Kl s0 σ') := by
  unfold x3_addParameter
  refine par_gd (fun _ => ?_)
  refine par_bd (kl_x5_at hU) (fun r2 σ3 h1 => ?_)
  refine par_bd (kl_x5_put h1) (fun _ σ5 h2 => ?_)
  refine par_bd (kl_x5_put h2) (fun _ σ7 h3 => ?_)
  exact par_some h3
theorem kl_x3_hasParameter_2_b {N : Nat} {s0 : St} {σ : St} {x0 : Nat} {x1 : Int32} {x2 : Int32} {x3 : Int32} (hU : Kl s0 σ) {rec2 : St → Nat → Int32 → Int32 → Int32 → Option (Int32 × St)} (h_rec2 : ∀ (z0 : St) (z1 : Nat) (z2 : Int32) (z3 : Int32) (z4 : Int32), Kl s0 z0 → Par (rec2 z0 z1 z2 z3 z4) (fun _ σ' => Kl s0 σ')) : Par (x3_hasParameter_2_b N rec2 σ x0 x1 x2 x3) (fun _ σ' => Kl s0 σ') := by
  unfold x3_hasParameter_2_b
  refine par_gd (fun _ => ?_)
  refine par_bd (kl_x5_at hU) (fun r2 σ3 h1 => ?_)
  refine par_if (fun _ => ?_) (fun _ => ?_)
  · exact par_some h1
  · refine par_if (fun _ => ?_) (fun _ => ?_)
    · exact par_some h1
    · refine par_bd (kl_x3_parameter h1) (fun r4 σ5 h2 => ?_)
      refine par_if (fun _ => ?_) (fun _ => ?_)
      · exact par_some h2
      · exact (h_rec2 _ _ _ _ _ h2)
theorem kl_x3_hasParameter_2 {N : Nat} {s0 : St} : ∀ (n : Nat) (σ : St) (x0 : Nat) (x1 : Int32) (x2 : Int32) (x3 : Int32), Kl s0 σ → Par (x3_hasParameter_2 N  n σ x0 x1 x2 x3) (fun _ σ' => Kl s0 σ') := by
  intro n
  induction n with
  | zero => intro σ x0 x1 x2 x3 _ r σ' e; cases e
  | succ n ih =>
    intro σ x0 x1 x2 x3 hU
    exact kl_x3_hasParameter_2_b (N := N) hU (fun z0 z1 z2 z3 z4 hz => ih z0 z1 z2 z3 z4 hz)
theorem kl_x3_hasParameter {N : Nat} {s0 : St} {σ : St} {a0 : Nat} {a1 : Int32} {a2 : Int32} (hU : Kl s0 σ) : Par (x3_hasParameter N σ a0 a1 a2) (fun _ σ' => Kl s0 σ') := by
  unfold x3_hasParameter
  exact (kl_x3_hasParameter_2  N _ _ _ _ _ hU)
theorem kl_x3_addUse {N : Nat} {s0 : St} {σ : St} {a0 : Nat} {a1 : Int32} {a2 : Int32} {a3 : Int32} (hU : Kl s0 σ) : Par (x3_addUse N σ a0 a1 a2 a3) (fun _ σ' => Kl s0 σ') := by
  unfold x3_addUse
  refine par_gd (fun _ => ?_)
  refine par_if (fun _ => ?_) (fun _ => ?_)
  · exact par_some hU
  · refine par_if (fun _ => ?_) (fun _ => ?_)
    · refine par_gd (fun _ => ?_)
      refine par_gd (fun _ => ?_)
      refine par_gd (fun _ => ?_)
      exact par_some (kl_I (kl_A (kl_A (kl_A hU (by decide)) (by decide)) (by decide)) (by decide))
    · exact par_some hU
theorem kl_x3_addTest {N : Nat} {s0 : St} {σ : St} {a0 : Nat} {a1 : Int32} {a2 : Int32} (hU : Kl s0 σ) : Par (x3_addTest N σ a0 a1 a2) (fun _ σ' => Kl s0 σ') := by
  unfold x3_addTest
  refine par_gd (fun _ => ?_)
  refine par_if (fun _ => ?_) (fun _ => ?_)
  · exact par_some hU
  · refine par_if (fun _ => ?_) (fun _ => ?_)
    · refine par_gd (fun _ => ?_)
      refine par_gd (fun _ => ?_)
      exact par_some (kl_I (kl_A (kl_A hU (by decide)) (by decide)) (by decide))
    · exact par_some hU
theorem kl_x8_kindAt {N : Nat} {s0 : St} {σ : St} {a1 : Int32} (hU : Kl s0 σ) : Par (x8_kindAt N σ a1) (fun _ σ' => Kl s0 σ') := by
  unfold x8_kindAt
  refine par_if (fun _ => ?_) (fun _ => ?_)
  · exact par_some hU
  · refine par_if (fun _ => ?_) (fun _ => ?_)
    · exact par_some hU
    · refine par_if (fun _ => ?_) (fun _ => ?_)
      · exact par_some hU
      · refine par_gd (fun _ => ?_)
        exact par_some hU
theorem kl_x4_seen {N : Nat} {s0 : St} {σ : St} {a1 : Int32} (hU : Kl s0 σ) : Par (x4_seen N σ a1) (fun _ σ' => Kl s0 σ') := by
  unfold x4_seen
  refine par_bd (kl_x8_kindAt hU) (fun r1 σ2 h1 => ?_)
  refine par_if (fun _ => ?_) (fun _ => ?_)
  · exact par_some h1
  · exact par_some h1
theorem kl_x8_placeAt {N : Nat} {s0 : St} {σ : St} {a1 : Int32} (hU : Kl s0 σ) : Par (x8_placeAt N σ a1) (fun _ σ' => Kl s0 σ') := by
  unfold x8_placeAt
  refine par_if (fun _ => ?_) (fun _ => ?_)
  · exact par_some hU
  · refine par_if (fun _ => ?_) (fun _ => ?_)
    · exact par_some hU
    · refine par_if (fun _ => ?_) (fun _ => ?_)
      · exact par_some hU
      · refine par_gd (fun _ => ?_)
        exact par_some hU
theorem kl_x4_refuse {N : Nat} {s0 : St} {σ : St} {a1 : Int32} {a2 : Int32} (hU : Kl s0 σ) : Par (x4_refuse N σ a1 a2) (fun _ σ' => Kl s0 σ') := by
  unfold x4_refuse
  exact par_some (kl_I (kl_I hU (by decide)) (by decide))
theorem kl_x4_take {N : Nat} {s0 : St} {σ : St} {a1 : Int32} (hU : Kl s0 σ) : Par (x4_take N σ a1) (fun _ σ' => Kl s0 σ') := by
  unfold x4_take
  refine par_bd (kl_x8_kindAt hU) (fun r1 σ2 h1 => ?_)
  refine par_if (fun _ => ?_) (fun _ => ?_)
  · exact par_some (kl_I h1 (by decide))
  · refine par_bd (kl_x8_placeAt h1) (fun r3 σ4 h2 => ?_)
    refine par_bd (kl_x4_refuse h2) (fun r5 σ6 h3 => ?_)
    refine par_gd (fun _ => ?_)
    exact par_some h3
theorem kl_x8_letterAt {N : Nat} {s0 : St} {σ : St} {a1 : Int32} (hU : Kl s0 σ) : Par (x8_letterAt N σ a1) (fun _ σ' => Kl s0 σ') := by
  unfold x8_letterAt
  refine par_if (fun _ => ?_) (fun _ => ?_)
  · exact par_some hU
  · refine par_if (fun _ => ?_) (fun _ => ?_)
    · exact par_some hU
    · refine par_if (fun _ => ?_) (fun _ => ?_)
      · exact par_some hU
      · refine par_gd (fun _ => ?_)
        exact par_some hU
theorem kl_x4_readParameters_133 {N : Nat} {s0 : St} {σ : St} (hU : Kl s0 σ) : Par (x4_readParameters_133 N σ) (fun _ σ' => Kl s0 σ') := by
  unfold x4_readParameters_133
  refine par_bd (kl_x4_take hU) (fun r3 σ4 h1 => ?_)
  refine par_gd (fun _ => ?_)
  exact par_some h1
theorem kl_x4_readParameters_114 {N : Nat} {s0 : St} {σ : St} (hU : Kl s0 σ) : Par (x4_readParameters_114 N σ) (fun _ σ' => Kl s0 σ') := by
  unfold x4_readParameters_114
  exact (kl_x4_readParameters_133 hU)
theorem kl_x4_readParameters_79 {N : Nat} {s0 : St} {σ : St} {x2 : Int32} (hU : Kl s0 σ) : Par (x4_readParameters_79 N σ x2) (fun _ σ' => Kl s0 σ') := by
  unfold x4_readParameters_79
  refine par_bd (kl_x8_placeAt hU) (fun r17 σ18 h1 => ?_)
  refine par_bd (kl_x4_refuse h1) (fun r19 σ20 h2 => ?_)
  refine par_gd (fun _ => ?_)
  exact par_some h2
theorem kl_x4_readParameters_50 {N : Nat} {s0 : St} {σ : St} {x2 : Int32} (hU : Kl s0 σ) : Par (x4_readParameters_50 N σ x2) (fun _ σ' => Kl s0 σ') := by
  unfold x4_readParameters_50
  refine par_bd (kl_x8_placeAt hU) (fun r21 σ22 h1 => ?_)
  refine par_bd (kl_x4_refuse h1) (fun r23 σ24 h2 => ?_)
  refine par_gd (fun _ => ?_)
  exact par_some h2
theorem kl_x4_readParameters_16_b {N : Nat} {s0 : St} {σ : St} {x1 : Int32} (hU : Kl s0 σ) {rec16 : St → Int32 → Option (Int32 × St)} (h_rec16 : ∀ (z0 : St) (z1 : Int32), Kl s0 z0 → Par (rec16 z0 z1) (fun _ σ' => Kl s0 σ')) : Par (x4_readParameters_16_b N rec16 σ x1) (fun _ σ' => Kl s0 σ') := by
  unfold x4_readParameters_16_b
  refine par_if (fun _ => ?_) (fun _ => ?_)
  · exact (kl_x4_readParameters_133 hU)
  · refine par_bd (kl_x4_take hU) (fun r5 σ6 h1 => ?_)
    refine par_if (fun _ => ?_) (fun _ => ?_)
    · exact par_some h1
    · refine par_bd (kl_x8_letterAt h1) (fun r7 σ8 h2 => ?_)
      refine par_if (fun _ => ?_) (fun _ => ?_)
      · exact (kl_x4_readParameters_50 h2)
      · refine par_gd (fun _ => ?_)
        refine par_bd (kl_x3_hasParameter h2) (fun r10 σ11 h3 => ?_)
        refine par_if (fun _ => ?_) (fun _ => ?_)
        · refine par_gd (fun _ => ?_)
          refine par_bd (kl_x3_addParameter h3) (fun _ σ14 h4 => ?_)
          refine par_bd (kl_x4_seen h4) (fun r15 σ16 h5 => ?_)
          refine par_if (fun _ => ?_) (fun _ => ?_)
          · exact (kl_x4_readParameters_114 h5)
          · exact (h_rec16 _ _ (kl_I h5 (by decide)))
        · exact (kl_x4_readParameters_79 h3)
theorem kl_x4_readParameters_16 {N : Nat} {s0 : St} : ∀ (n : Nat) (σ : St) (x1 : Int32), Kl s0 σ → Par (x4_readParameters_16 N  n σ x1) (fun _ σ' => Kl s0 σ') := by
  intro n
  induction n with
  | zero => intro σ x1 _ r σ' e; cases e
  | succ n ih =>
    intro σ x1 hU
    exact kl_x4_readParameters_16_b (N := N) hU (fun z0 z1 hz => ih z0 z1 hz)
theorem kl_x4_readParameters {N : Nat} {s0 : St} {σ : St} (hU : Kl s0 σ) : Par (x4_readParameters N σ) (fun _ σ' => Kl s0 σ') := by
  unfold x4_readParameters
  refine par_bd (kl_x4_seen hU) (fun r1 σ2 h1 => ?_)
  refine par_if (fun _ => ?_) (fun _ => ?_)
  · exact (kl_x4_readParameters_16  N _ _ h1)
  · refine par_bd (kl_x4_take h1) (fun r25 σ26 h2 => ?_)
    refine par_gd (fun _ => ?_)
    exact par_some h2
theorem kl_x4_openBlock {N : Nat} {s0 : St} {σ : St} {a1 : Int32} {a2 : Int32} (hU : Kl s0 σ) : Par (x4_openBlock N σ a1 a2) (fun _ σ' => Kl s0 σ') := by
  unfold x4_openBlock
  refine par_bd (kl_x4_take hU) (fun r1 σ2 h1 => ?_)
  refine par_if (fun _ => ?_) (fun _ => ?_)
  · exact par_some h1
  · refine par_if (fun _ => ?_) (fun _ => ?_)
    · refine par_bd (kl_x5_put h1) (fun _ σ4 h2 => ?_)
      refine par_bd (kl_x5_put h2) (fun _ σ6 h3 => ?_)
      exact par_some (kl_I h3 (by decide))
    · refine par_bd (kl_x8_placeAt h1) (fun r7 σ8 h4 => ?_)
      refine par_bd (kl_x4_refuse h4) (fun r9 σ10 h5 => ?_)
      refine par_gd (fun _ => ?_)
      exact par_some h5
theorem kl_x4_readHead {N : Nat} {s0 : St} {σ : St} (hU : Kl s0 σ) : Par (x4_readHead N σ) (fun _ σ' => Kl s0 σ') := by
  unfold x4_readHead
  refine par_bd (kl_x4_take hU) (fun r1 σ2 h1 => ?_)
  refine par_if (fun _ => ?_) (fun _ => ?_)
  · exact par_some h1
  · refine par_bd (kl_x8_letterAt h1) (fun r3 σ4 h2 => ?_)
    refine par_gd (fun _ => ?_)
    refine par_bd (kl_x3_has (kl_I h2 (by decide))) (fun r6 σ7 h3 => ?_)
    refine par_if (fun _ => ?_) (fun _ => ?_)
    · refine par_gd (fun _ => ?_)
      refine par_bd (kl_x3_addRoutine h3) (fun _ σ10 h4 => ?_)
      refine par_bd (kl_x4_take h4) (fun r11 σ12 h5 => ?_)
      refine par_if (fun _ => ?_) (fun _ => ?_)
      · exact par_some h5
      · refine par_bd (kl_x4_readParameters h5) (fun r13 σ14 h6 => ?_)
        refine par_if (fun _ => ?_) (fun _ => ?_)
        · exact par_some h6
        · refine par_bd (kl_x4_openBlock h6) (fun r15 σ16 h7 => ?_)
          refine par_if (fun _ => ?_) (fun _ => ?_)
          · exact par_some h7
          · exact par_some h7
    · refine par_bd (kl_x8_placeAt h3) (fun r17 σ18 h8 => ?_)
      refine par_bd (kl_x4_refuse h8) (fun r19 σ20 h9 => ?_)
      refine par_gd (fun _ => ?_)
      exact par_some h9
theorem kl_x4_closeIf {N : Nat} {s0 : St} {σ : St} {a1 : Int32} (hU : Kl s0 σ) : Par (x4_closeIf N σ a1) (fun _ σ' => Kl s0 σ') := by
  unfold x4_closeIf
  refine par_bd (kl_x4_seen hU) (fun r1 σ2 h1 => ?_)
  refine par_if (fun _ => ?_) (fun _ => ?_)
  · refine par_gd (fun _ => ?_)
    refine par_bd (kl_x0_set h1) (fun _ σ5 h2 => ?_)
    exact par_some h2
  · refine par_gd (fun _ => ?_)
    refine par_bd (kl_x0_add (kl_I h1 (by decide))) (fun r7 σ8 h3 => ?_)
    refine par_gd (fun _ => ?_)
    refine par_bd (kl_x0_set h3) (fun _ σ11 h4 => ?_)
    refine par_bd (kl_x4_openBlock h4) (fun r12 σ13 h5 => ?_)
    exact par_some h5
theorem kl_x4_closeBlock {N : Nat} {s0 : St} {σ : St} (hU : Kl s0 σ) : Par (x4_closeBlock N σ) (fun _ σ' => Kl s0 σ') := by
  unfold x4_closeBlock
  refine par_bd (kl_x5_at (kl_I (kl_I hU (by decide)) (by decide))) (fun r1 σ2 h1 => ?_)
  refine par_bd (kl_x5_at h1) (fun r3 σ4 h2 => ?_)
  refine par_if (fun _ => ?_) (fun _ => ?_)
  · refine par_gd (fun _ => ?_)
    refine par_bd (kl_x0_add h2) (fun r7 σ8 h3 => ?_)
    exact par_some h3
  · refine par_if (fun _ => ?_) (fun _ => ?_)
    · refine par_bd (kl_x4_closeIf h2) (fun _ σ11 h4 => ?_)
      exact par_some h4
    · refine par_if (fun _ => ?_) (fun _ => ?_)
      · refine par_gd (fun _ => ?_)
        refine par_bd (kl_x0_set h2) (fun _ σ15 h5 => ?_)
        exact par_some h5
      · refine par_if (fun _ => ?_) (fun _ => ?_)
        · refine par_gd (fun _ => ?_)
          refine par_bd (kl_x0_add h2) (fun r18 σ19 h6 => ?_)
          refine par_bd (kl_x0_set h6) (fun _ σ21 h7 => ?_)
          refine par_gd (fun _ => ?_)
          refine par_bd (kl_x0_set h7) (fun _ σ24 h8 => ?_)
          exact par_some h8
        · refine par_gd (fun _ => ?_)
          refine par_bd (kl_x0_set h2) (fun _ σ27 h9 => ?_)
          exact par_some h9
theorem kl_x4_readUse {N : Nat} {s0 : St} {σ : St} {a1 : Int32} {a2 : Int32} {a3 : Int32} (hU : Kl s0 σ) : Par (x4_readUse N σ a1 a2 a3) (fun _ σ' => Kl s0 σ') := by
  unfold x4_readUse
  refine par_gd (fun _ => ?_)
  refine par_if (fun _ => ?_) (fun _ => ?_)
  · refine par_bd (kl_x8_placeAt hU) (fun r2 σ3 h1 => ?_)
    refine par_bd (kl_x8_letterAt h1) (fun r4 σ5 h2 => ?_)
    refine par_bd (kl_x3_addUse h2) (fun r6 σ7 h3 => ?_)
    refine par_gd (fun _ => ?_)
    refine par_bd (kl_x0_set h3) (fun _ σ10 h4 => ?_)
    exact par_some (kl_I h4 (by decide))
  · refine par_bd (kl_x8_placeAt hU) (fun r11 σ12 h5 => ?_)
    refine par_bd (kl_x4_refuse h5) (fun r13 σ14 h6 => ?_)
    refine par_gd (fun _ => ?_)
    exact par_some h6
theorem kl_x4_readField_39 {N : Nat} {s0 : St} {σ : St} (hU : Kl s0 σ) : Par (x4_readField_39 N σ) (fun _ σ' => Kl s0 σ') := by
  unfold x4_readField_39
  refine par_bd (kl_x8_placeAt hU) (fun r5 σ6 h1 => ?_)
  refine par_bd (kl_x4_refuse h1) (fun r7 σ8 h2 => ?_)
  refine par_gd (fun _ => ?_)
  exact par_some h2
theorem kl_x4_readField_56 {N : Nat} {s0 : St} {σ : St} {x1 : Int32} {x2 : Int32} {x3 : Int32} (hU : Kl s0 σ) : Par (x4_readField_56 N σ x1 x2 x3) (fun _ σ' => Kl s0 σ') := by
  unfold x4_readField_56
  refine par_gd (fun _ => ?_)
  refine par_bd (kl_x0_set hU) (fun _ σ11 h1 => ?_)
  exact par_some (kl_I h1 (by decide))
theorem kl_x4_readField {N : Nat} {s0 : St} {σ : St} {a1 : Int32} {a2 : Int32} (hU : Kl s0 σ) : Par (x4_readField N σ a1 a2) (fun _ σ' => Kl s0 σ') := by
  unfold x4_readField
  refine par_bd (kl_x8_letterAt hU) (fun r1 σ2 h1 => ?_)
  refine par_bd (kl_x8_kindAt h1) (fun r3 σ4 h2 => ?_)
  refine par_if (fun _ => ?_) (fun _ => ?_)
  · refine par_if (fun _ => ?_) (fun _ => ?_)
    · exact (kl_x4_readField_56 h2)
    · refine par_if (fun _ => ?_) (fun _ => ?_)
      · exact (kl_x4_readField_56 h2)
      · exact (kl_x4_readField_39 h2)
  · exact (kl_x4_readField_39 h2)
theorem kl_x4_readName {N : Nat} {s0 : St} {σ : St} {a1 : Int32} {a2 : Int32} (hU : Kl s0 σ) : Par (x4_readName N σ a1 a2) (fun _ σ' => Kl s0 σ') := by
  unfold x4_readName
  refine par_bd (kl_x8_letterAt hU) (fun r1 σ2 h1 => ?_)
  refine par_gd (fun _ => ?_)
  refine par_bd (kl_x0_set h1) (fun _ σ5 h2 => ?_)
  refine par_bd (kl_x4_take h2) (fun r6 σ7 h3 => ?_)
  refine par_gd (fun _ => ?_)
  exact par_some h3
theorem kl_x4_readNameOrField {N : Nat} {s0 : St} {σ : St} {a1 : Int32} (hU : Kl s0 σ) : Par (x4_readNameOrField N σ a1) (fun _ σ' => Kl s0 σ') := by
  unfold x4_readNameOrField
  refine par_bd (kl_x8_letterAt hU) (fun r1 σ2 h1 => ?_)
  refine par_gd (fun _ => ?_)
  refine par_bd (kl_x0_set h1) (fun _ σ5 h2 => ?_)
  refine par_bd (kl_x4_seen (kl_I h2 (by decide))) (fun r6 σ7 h3 => ?_)
  refine par_if (fun _ => ?_) (fun _ => ?_)
  · refine par_gd (fun _ => ?_)
    refine par_bd (kl_x0_set h3) (fun _ σ17 h4 => ?_)
    exact par_some h4
  · refine par_gd (fun _ => ?_)
    refine par_bd (kl_x0_set h3) (fun _ σ10 h5 => ?_)
    refine par_bd (kl_x4_readUse h5) (fun r11 σ12 h6 => ?_)
    refine par_if (fun _ => ?_) (fun _ => ?_)
    · exact par_some h6
    · refine par_bd (kl_x4_readField h6) (fun r13 σ14 h7 => ?_)
      refine par_if (fun _ => ?_) (fun _ => ?_)
      · exact par_some h7
      · exact par_some h7
theorem kl_x4_readCall_171 {N : Nat} {s0 : St} {σ : St} (hU : Kl s0 σ) : Par (x4_readCall_171 N σ) (fun _ σ' => Kl s0 σ') := by
  unfold x4_readCall_171
  refine par_bd (kl_x4_take hU) (fun r18 σ19 h1 => ?_)
  refine par_gd (fun _ => ?_)
  exact par_some h1
theorem kl_x4_readCall_152 {N : Nat} {s0 : St} {σ : St} (hU : Kl s0 σ) : Par (x4_readCall_152 N σ) (fun _ σ' => Kl s0 σ') := by
  unfold x4_readCall_152
  exact (kl_x4_readCall_171 hU)
theorem kl_x4_readCall_113 {N : Nat} {s0 : St} {σ : St} {x3 : Int32} (hU : Kl s0 σ) : Par (x4_readCall_113 N σ x3) (fun _ σ' => Kl s0 σ') := by
  unfold x4_readCall_113
  refine par_bd (kl_x8_placeAt hU) (fun r29 σ30 h1 => ?_)
  refine par_bd (kl_x4_refuse h1) (fun r31 σ32 h2 => ?_)
  refine par_gd (fun _ => ?_)
  exact par_some h2
theorem kl_x4_readCall_88_b {N : Nat} {s0 : St} {σ : St} {x1 : Int32} {x2 : Int32} (hU : Kl s0 σ) {rec88 : St → Int32 → Int32 → Option (Int32 × St)} (h_rec88 : ∀ (z0 : St) (z1 : Int32) (z2 : Int32), Kl s0 z0 → Par (rec88 z0 z1 z2) (fun _ σ' => Kl s0 σ')) : Par (x4_readCall_88_b N rec88 σ x1 x2) (fun _ σ' => Kl s0 σ') := by
  unfold x4_readCall_88_b
  refine par_if (fun _ => ?_) (fun _ => ?_)
  · exact (kl_x4_readCall_171 hU)
  · refine par_bd (kl_x4_take hU) (fun r20 σ21 h1 => ?_)
    refine par_if (fun _ => ?_) (fun _ => ?_)
    · exact par_some h1
    · refine par_if (fun _ => ?_) (fun _ => ?_)
      · exact (kl_x4_readCall_113 h1)
      · refine par_bd (kl_x8_letterAt h1) (fun r22 σ23 h2 => ?_)
        refine par_gd (fun _ => ?_)
        refine par_bd (kl_x0_addArgument h2) (fun _ σ26 h3 => ?_)
        refine par_bd (kl_x4_seen h3) (fun r27 σ28 h4 => ?_)
        refine par_if (fun _ => ?_) (fun _ => ?_)
        · exact (kl_x4_readCall_152 h4)
        · exact (h_rec88 _ _ _ (kl_I h4 (by decide)))
theorem kl_x4_readCall_88 {N : Nat} {s0 : St} : ∀ (n : Nat) (σ : St) (x1 : Int32) (x2 : Int32), Kl s0 σ → Par (x4_readCall_88 N  n σ x1 x2) (fun _ σ' => Kl s0 σ') := by
  intro n
  induction n with
  | zero => intro σ x1 x2 _ r σ' e; cases e
  | succ n ih =>
    intro σ x1 x2 hU
    exact kl_x4_readCall_88_b (N := N) hU (fun z0 z1 z2 hz => ih z0 z1 z2 hz)
theorem kl_x4_readCall {N : Nat} {s0 : St} {σ : St} {a1 : Int32} (hU : Kl s0 σ) : Par (x4_readCall N σ a1) (fun _ σ' => Kl s0 σ') := by
  unfold x4_readCall
  refine par_gd (fun _ => ?_)
  refine par_bd (kl_x0_set hU) (fun _ σ3 h1 => ?_)
  refine par_bd (kl_x8_letterAt h1) (fun r4 σ5 h2 => ?_)
  refine par_gd (fun _ => ?_)
  refine par_bd (kl_x0_set h2) (fun _ σ8 h3 => ?_)
  refine par_bd (kl_x8_placeAt h3) (fun r9 σ10 h4 => ?_)
  refine par_gd (fun _ => ?_)
  refine par_bd (kl_x0_set h4) (fun _ σ13 h5 => ?_)
  refine par_bd (kl_x4_take (kl_I h5 (by decide))) (fun r14 σ15 h6 => ?_)
  refine par_if (fun _ => ?_) (fun _ => ?_)
  · exact par_some h6
  · refine par_bd (kl_x4_seen h6) (fun r16 σ17 h7 => ?_)
    refine par_if (fun _ => ?_) (fun _ => ?_)
    · exact (kl_x4_readCall_88  N _ _ _ h7)
    · refine par_bd (kl_x4_take h7) (fun r33 σ34 h8 => ?_)
      refine par_gd (fun _ => ?_)
      exact par_some h8
theorem kl_x4_readValue {N : Nat} {s0 : St} {σ : St} {a1 : Int32} (hU : Kl s0 σ) : Par (x4_readValue N σ a1) (fun _ σ' => Kl s0 σ') := by
  unfold x4_readValue
  refine par_bd (kl_x8_kindAt hU) (fun r1 σ2 h1 => ?_)
  refine par_if (fun _ => ?_) (fun _ => ?_)
  · refine par_bd (kl_x4_readNameOrField h1) (fun r4 σ5 h2 => ?_)
    refine par_gd (fun _ => ?_)
    exact par_some h2
  · refine par_if (fun _ => ?_) (fun _ => ?_)
    · refine par_bd (kl_x4_readCall h1) (fun r7 σ8 h3 => ?_)
      refine par_gd (fun _ => ?_)
      exact par_some h3
    · refine par_if (fun _ => ?_) (fun _ => ?_)
      · refine par_gd (fun _ => ?_)
        refine par_bd (kl_x0_set h1) (fun _ σ12 h4 => ?_)
        exact par_some (kl_I h4 (by decide))
      · refine par_if (fun _ => ?_) (fun _ => ?_)
        · refine par_gd (fun _ => ?_)
          refine par_bd (kl_x0_set h1) (fun _ σ16 h5 => ?_)
          refine par_bd (kl_x4_readName (kl_I h5 (by decide))) (fun r17 σ18 h6 => ?_)
          refine par_if (fun _ => ?_) (fun _ => ?_)
          · exact par_some h6
          · refine par_bd (kl_x4_readName h6) (fun r19 σ20 h7 => ?_)
            refine par_if (fun _ => ?_) (fun _ => ?_)
            · exact par_some h7
            · exact par_some h7
        · refine par_if (fun _ => ?_) (fun _ => ?_)
          · refine par_gd (fun _ => ?_)
            refine par_bd (kl_x0_set h1) (fun _ σ24 h8 => ?_)
            exact par_some (kl_I h8 (by decide))
          · refine par_bd (kl_x8_placeAt h1) (fun r25 σ26 h9 => ?_)
            refine par_bd (kl_x4_refuse h9) (fun r27 σ28 h10 => ?_)
            refine par_gd (fun _ => ?_)
            exact par_some h10
theorem kl_x4_readPut_88 {N : Nat} {s0 : St} {σ : St} {x2 : Int32} (hU : Kl s0 σ) : Par (x4_readPut_88 N σ x2) (fun _ σ' => Kl s0 σ') := by
  unfold x4_readPut_88
  refine par_bd (kl_x4_take hU) (fun r13 σ14 h1 => ?_)
  refine par_if (fun _ => ?_) (fun _ => ?_)
  · exact par_some h1
  · refine par_bd (kl_x4_readValue h1) (fun r15 σ16 h2 => ?_)
    refine par_if (fun _ => ?_) (fun _ => ?_)
    · exact par_some h2
    · refine par_bd (kl_x4_take h2) (fun r17 σ18 h3 => ?_)
      refine par_if (fun _ => ?_) (fun _ => ?_)
      · exact par_some h3
      · exact par_some h3
theorem kl_x4_readPut_33 {N : Nat} {s0 : St} {σ : St} {x1 : Int32} {t0 : Nat} {t1 : Int32} (hU : Kl s0 σ) : Par (x4_readPut_33 N σ x1 t0 t1) (fun _ σ' => Kl s0 σ') := by
  unfold x4_readPut_33
  refine par_gd (fun _ => ?_)
  refine par_bd (kl_x0_add hU) (fun r4 σ5 h1 => ?_)
  refine par_bd (kl_x8_letterAt h1) (fun r6 σ7 h2 => ?_)
  refine par_gd (fun _ => ?_)
  refine par_bd (kl_x0_set h2) (fun _ σ10 h3 => ?_)
  refine par_bd (kl_x4_seen h3) (fun r11 σ12 h4 => ?_)
  refine par_if (fun _ => ?_) (fun _ => ?_)
  · exact (kl_x4_readPut_88 h4)
  · refine par_bd (kl_x4_readUse h4) (fun r19 σ20 h5 => ?_)
    refine par_if (fun _ => ?_) (fun _ => ?_)
    · exact par_some h5
    · refine par_bd (kl_x4_readField h5) (fun r21 σ22 h6 => ?_)
      refine par_if (fun _ => ?_) (fun _ => ?_)
      · exact par_some h6
      · exact (kl_x4_readPut_88 h6)
theorem kl_x4_readPut {N : Nat} {s0 : St} {σ : St} (hU : Kl s0 σ) : Par (x4_readPut N σ) (fun _ σ' => Kl s0 σ') := by
  unfold x4_readPut
  refine par_bd (kl_x4_seen (kl_I hU (by decide))) (fun r1 σ2 h1 => ?_)
  refine par_if (fun _ => ?_) (fun _ => ?_)
  · exact (kl_x4_readPut_33 h1)
  · exact (kl_x4_readPut_33 h1)
theorem kl_x4_readReturn {N : Nat} {s0 : St} {σ : St} (hU : Kl s0 σ) : Par (x4_readReturn N σ) (fun _ σ' => Kl s0 σ') := by
  unfold x4_readReturn
  refine par_gd (fun _ => ?_)
  refine par_bd (kl_x0_add (kl_I hU (by decide))) (fun r2 σ3 h1 => ?_)
  refine par_bd (kl_x4_seen h1) (fun r4 σ5 h2 => ?_)
  refine par_if (fun _ => ?_) (fun _ => ?_)
  · refine par_bd (kl_x4_readValue h2) (fun r6 σ7 h3 => ?_)
    refine par_if (fun _ => ?_) (fun _ => ?_)
    · exact par_some h3
    · refine par_bd (kl_x4_take h3) (fun r8 σ9 h4 => ?_)
      refine par_if (fun _ => ?_) (fun _ => ?_)
      · exact par_some h4
      · exact par_some h4
  · refine par_gd (fun _ => ?_)
    refine par_bd (kl_x0_set h2) (fun _ σ12 h5 => ?_)
    exact par_some (kl_I h5 (by decide))
theorem kl_x4_readComparison_39 {N : Nat} {s0 : St} {σ : St} {t1 : Int32} (hU : Kl s0 σ) : Par (x4_readComparison_39 N σ t1) (fun _ σ' => Kl s0 σ') := by
  unfold x4_readComparison_39
  refine par_bd (kl_x4_take hU) (fun r6 σ7 h1 => ?_)
  refine par_if (fun _ => ?_) (fun _ => ?_)
  · exact par_some h1
  · refine par_bd (kl_x4_take h1) (fun r8 σ9 h2 => ?_)
    refine par_if (fun _ => ?_) (fun _ => ?_)
    · exact par_some h2
    · exact par_some h2
theorem kl_x4_readComparison_24 {N : Nat} {s0 : St} {σ : St} {x2 : Int32} {t0 : Nat} {t1 : Int32} {t2 : Int32} {t3 : Int32} (hU : Kl s0 σ) : Par (x4_readComparison_24 N σ x2 t0 t1 t2 t3) (fun _ σ' => Kl s0 σ') := by
  unfold x4_readComparison_24
  refine par_gd (fun _ => ?_)
  refine par_bd (kl_x0_set hU) (fun _ σ5 h1 => ?_)
  refine par_if (fun _ => ?_) (fun _ => ?_)
  · exact (kl_x4_readComparison_39 h1)
  · exact (kl_x4_readComparison_39 h1)
theorem kl_x4_readComparison {N : Nat} {s0 : St} {σ : St} {a1 : Int32} (hU : Kl s0 σ) : Par (x4_readComparison N σ a1) (fun _ σ' => Kl s0 σ') := by
  unfold x4_readComparison
  refine par_bd (kl_x4_seen hU) (fun r1 σ2 h1 => ?_)
  refine par_if (fun _ => ?_) (fun _ => ?_)
  · exact (kl_x4_readComparison_24 h1)
  · exact (kl_x4_readComparison_24 h1)
theorem kl_x4_readBranch_158 {N : Nat} {s0 : St} {σ : St} {x1 : Int32} {x4 : Int32} (hU : Kl s0 σ) : Par (x4_readBranch_158 N σ x1 x4) (fun _ σ' => Kl s0 σ') := by
  unfold x4_readBranch_158
  refine par_bd (kl_x4_openBlock hU) (fun r23 σ24 h1 => ?_)
  refine par_if (fun _ => ?_) (fun _ => ?_)
  · exact par_some h1
  · exact par_some h1
theorem kl_x4_readBranch_48 {N : Nat} {s0 : St} {σ : St} {x1 : Int32} {x2 : Int32} {x3 : Int32} (hU : Kl s0 σ) : Par (x4_readBranch_48 N σ x1 x2 x3) (fun _ σ' => Kl s0 σ') := by
  unfold x4_readBranch_48
  refine par_gd (fun _ => ?_)
  refine par_if (fun _ => ?_) (fun _ => ?_)
  · refine par_gd (fun _ => ?_)
    refine par_bd (kl_x0_add hU) (fun r7 σ8 h1 => ?_)
    refine par_gd (fun _ => ?_)
    refine par_bd (kl_x3_addTest h1) (fun r10 σ11 h2 => ?_)
    refine par_gd (fun _ => ?_)
    refine par_bd (kl_x0_set h2) (fun _ σ14 h3 => ?_)
    refine par_gd (fun _ => ?_)
    refine par_bd (kl_x0_set h3) (fun _ σ17 h4 => ?_)
    refine par_bd (kl_x8_letterAt h4) (fun r18 σ19 h5 => ?_)
    refine par_gd (fun _ => ?_)
    refine par_bd (kl_x0_set h5) (fun _ σ22 h6 => ?_)
    refine par_if (fun _ => ?_) (fun _ => ?_)
    · refine par_bd (kl_x4_readComparison (kl_I h6 (by decide))) (fun r25 σ26 h7 => ?_)
      refine par_if (fun _ => ?_) (fun _ => ?_)
      · exact par_some h7
      · exact (kl_x4_readBranch_158 h7)
    · exact (kl_x4_readBranch_158 (kl_I h6 (by decide)))
  · refine par_bd (kl_x4_refuse hU) (fun r27 σ28 h8 => ?_)
    refine par_gd (fun _ => ?_)
    exact par_some h8
theorem kl_x4_readBranch {N : Nat} {s0 : St} {σ : St} {a1 : Int32} (hU : Kl s0 σ) : Par (x4_readBranch N σ a1) (fun _ σ' => Kl s0 σ') := by
  unfold x4_readBranch
  refine par_bd (kl_x4_seen (kl_I hU (by decide))) (fun r1 σ2 h1 => ?_)
  refine par_bd (kl_x8_placeAt h1) (fun r3 σ4 h2 => ?_)
  refine par_if (fun _ => ?_) (fun _ => ?_)
  · refine par_bd (kl_x4_seen h2) (fun r29 σ30 h3 => ?_)
    refine par_if (fun _ => ?_) (fun _ => ?_)
    · refine par_bd (kl_x4_refuse h3) (fun r31 σ32 h4 => ?_)
      refine par_gd (fun _ => ?_)
      exact par_some h4
    · exact (kl_x4_readBranch_48 h3)
  · exact (kl_x4_readBranch_48 h2)
theorem kl_x4_readStatement {N : Nat} {s0 : St} {σ : St} (hU : Kl s0 σ) : Par (x4_readStatement N σ) (fun _ σ' => Kl s0 σ') := by
  unfold x4_readStatement
  refine par_bd (kl_x8_kindAt hU) (fun r1 σ2 h1 => ?_)
  refine par_if (fun _ => ?_) (fun _ => ?_)
  · refine par_bd (kl_x4_readPut h1) (fun r4 σ5 h2 => ?_)
    refine par_gd (fun _ => ?_)
    exact par_some h2
  · refine par_if (fun _ => ?_) (fun _ => ?_)
    · refine par_gd (fun _ => ?_)
      refine par_bd (kl_x0_add h1) (fun r8 σ9 h3 => ?_)
      refine par_bd (kl_x4_readCall h3) (fun r10 σ11 h4 => ?_)
      refine par_if (fun _ => ?_) (fun _ => ?_)
      · exact par_some h4
      · refine par_bd (kl_x4_take h4) (fun r12 σ13 h5 => ?_)
        refine par_if (fun _ => ?_) (fun _ => ?_)
        · exact par_some h5
        · exact par_some h5
    · refine par_if (fun _ => ?_) (fun _ => ?_)
      · refine par_bd (kl_x4_readBranch h1) (fun r15 σ16 h6 => ?_)
        refine par_gd (fun _ => ?_)
        exact par_some h6
      · refine par_if (fun _ => ?_) (fun _ => ?_)
        · refine par_bd (kl_x4_readBranch h1) (fun r18 σ19 h7 => ?_)
          refine par_gd (fun _ => ?_)
          exact par_some h7
        · refine par_if (fun _ => ?_) (fun _ => ?_)
          · refine par_bd (kl_x4_readReturn h1) (fun r21 σ22 h8 => ?_)
            refine par_gd (fun _ => ?_)
            exact par_some h8
          · refine par_bd (kl_x8_placeAt h1) (fun r23 σ24 h9 => ?_)
            refine par_bd (kl_x4_refuse h9) (fun r25 σ26 h10 => ?_)
            refine par_gd (fun _ => ?_)
            exact par_some h10
theorem kl_x4_checkCalls_93 {N : Nat} {s0 : St} {σ : St} {x1 : Int32} (hU : Kl s0 σ) {rec2 : St → Int32 → Option (Unit × St)} (h_rec2 : ∀ (z0 : St) (z1 : Int32), Kl s0 z0 → Par (rec2 z0 z1) (fun _ σ' => Kl s0 σ')) : Par (x4_checkCalls_93 N rec2 σ x1) (fun _ σ' => Kl s0 σ') := by
  unfold x4_checkCalls_93
  exact (h_rec2 _ _ hU)
theorem kl_x4_checkCalls_77 {N : Nat} {s0 : St} {σ : St} {x1 : Int32} (hU : Kl s0 σ) {rec2 : St → Int32 → Option (Unit × St)} (h_rec2 : ∀ (z0 : St) (z1 : Int32), Kl s0 z0 → Par (rec2 z0 z1) (fun _ σ' => Kl s0 σ')) : Par (x4_checkCalls_77 N rec2 σ x1) (fun _ σ' => Kl s0 σ') := by
  unfold x4_checkCalls_77
  refine par_gd (fun _ => ?_)
  refine par_bd (kl_x0_get hU) (fun r11 σ12 h1 => ?_)
  refine par_bd (kl_x4_refuse h1) (fun r13 σ14 h2 => ?_)
  exact (kl_x4_checkCalls_93 h2 h_rec2)
theorem kl_x4_checkCalls_2_b {N : Nat} {s0 : St} {σ : St} {x1 : Int32} (hU : Kl s0 σ) {rec2 : St → Int32 → Option (Unit × St)} (h_rec2 : ∀ (z0 : St) (z1 : Int32), Kl s0 z0 → Par (rec2 z0 z1) (fun _ σ' => Kl s0 σ')) : Par (x4_checkCalls_2_b N rec2 σ x1) (fun _ σ' => Kl s0 σ') := by
  unfold x4_checkCalls_2_b
  refine par_gd (fun _ => ?_)
  refine par_if (fun _ => ?_) (fun _ => ?_)
  · exact par_some hU
  · refine par_if (fun _ => ?_) (fun _ => ?_)
    · refine par_bd (kl_x0_get hU) (fun r2 σ3 h1 => ?_)
      refine par_if (fun _ => ?_) (fun _ => ?_)
      · refine par_gd (fun _ => ?_)
        refine par_bd (kl_x0_get h1) (fun r5 σ6 h2 => ?_)
        refine par_gd (fun _ => ?_)
        refine par_bd (kl_x3_has h2) (fun r8 σ9 h3 => ?_)
        refine par_if (fun _ => ?_) (fun _ => ?_)
        · exact (kl_x4_checkCalls_77 h3 h_rec2)
        · refine par_gd (fun _ => ?_)
          refine par_bd (kl_x5_at h3) (fun r16 σ17 h4 => ?_)
          refine par_gd (fun _ => ?_)
          refine par_bd (kl_x0_arguments h4) (fun r19 σ20 h5 => ?_)
          refine par_if (fun _ => ?_) (fun _ => ?_)
          · exact (kl_x4_checkCalls_93 h5 h_rec2)
          · exact (kl_x4_checkCalls_77 h5 h_rec2)
      · exact (kl_x4_checkCalls_93 h1 h_rec2)
    · exact par_some hU
theorem kl_x4_checkCalls_2 {N : Nat} {s0 : St} : ∀ (n : Nat) (σ : St) (x1 : Int32), Kl s0 σ → Par (x4_checkCalls_2 N  n σ x1) (fun _ σ' => Kl s0 σ') := by
  intro n
  induction n with
  | zero => intro σ x1 _ r σ' e; cases e
  | succ n ih =>
    intro σ x1 hU
    exact kl_x4_checkCalls_2_b (N := N) hU (fun z0 z1 hz => ih z0 z1 hz)
theorem kl_x4_checkCalls {N : Nat} {s0 : St} {σ : St} (hU : Kl s0 σ) : Par (x4_checkCalls N σ) (fun _ σ' => Kl s0 σ') := by
  unfold x4_checkCalls
  exact (kl_x4_checkCalls_2  N _ _ hU)
theorem kl_x4_readInto_110 {N : Nat} {s0 : St} {σ : St} (hU : Kl s0 σ) : Par (x4_readInto_110 N σ) (fun _ σ' => Kl s0 σ') := by
  unfold x4_readInto_110
  refine par_if (fun _ => ?_) (fun _ => ?_)
  · refine par_bd (kl_x4_checkCalls hU) (fun _ σ5 h1 => ?_)
    exact par_some h1
  · exact par_some hU
theorem kl_x4_readInto_104 {N : Nat} {s0 : St} {σ : St} {x2 : Int32} (hU : Kl s0 σ) {rec39 : St → Int32 → Option (Unit × St)} (h_rec39 : ∀ (z0 : St) (z1 : Int32), Kl s0 z0 → Par (rec39 z0 z1) (fun _ σ' => Kl s0 σ')) : Par (x4_readInto_104 N rec39 σ x2) (fun _ σ' => Kl s0 σ') := by
  unfold x4_readInto_104
  exact (h_rec39 _ _ hU)
theorem kl_x4_readInto_68 {N : Nat} {s0 : St} {σ : St} {x2 : Int32} (hU : Kl s0 σ) {rec39 : St → Int32 → Option (Unit × St)} (h_rec39 : ∀ (z0 : St) (z1 : Int32), Kl s0 z0 → Par (rec39 z0 z1) (fun _ σ' => Kl s0 σ')) : Par (x4_readInto_68 N rec39 σ x2) (fun _ σ' => Kl s0 σ') := by
  unfold x4_readInto_68
  refine par_if (fun _ => ?_) (fun _ => ?_)
  · refine par_bd (kl_x4_readHead hU) (fun r12 σ13 h1 => ?_)
    exact (kl_x4_readInto_104 h1 h_rec39)
  · refine par_bd (kl_x4_seen hU) (fun r6 σ7 h2 => ?_)
    refine par_if (fun _ => ?_) (fun _ => ?_)
    · refine par_bd (kl_x4_readStatement h2) (fun r8 σ9 h3 => ?_)
      exact (kl_x4_readInto_104 h3 h_rec39)
    · refine par_bd (kl_x4_closeBlock h2) (fun _ σ11 h4 => ?_)
      exact (kl_x4_readInto_104 h4 h_rec39)
theorem kl_x4_readInto_39_b {N : Nat} {s0 : St} {σ : St} {x2 : Int32} (hU : Kl s0 σ) {rec39 : St → Int32 → Option (Unit × St)} (h_rec39 : ∀ (z0 : St) (z1 : Int32), Kl s0 z0 → Par (rec39 z0 z1) (fun _ σ' => Kl s0 σ')) : Par (x4_readInto_39_b N rec39 σ x2) (fun _ σ' => Kl s0 σ') := by
  unfold x4_readInto_39_b
  refine par_if (fun _ => ?_) (fun _ => ?_)
  · exact (kl_x4_readInto_110 hU)
  · refine par_if (fun _ => ?_) (fun _ => ?_)
    · refine par_if (fun _ => ?_) (fun _ => ?_)
      · exact (kl_x4_readInto_68 hU h_rec39)
      · refine par_bd (kl_x4_seen hU) (fun r14 σ15 h1 => ?_)
        refine par_if (fun _ => ?_) (fun _ => ?_)
        · exact (kl_x4_readInto_68 h1 h_rec39)
        · exact (kl_x4_readInto_110 h1)
    · exact (kl_x4_readInto_110 hU)
theorem kl_x4_readInto_39 {N : Nat} {s0 : St} : ∀ (n : Nat) (σ : St) (x2 : Int32), Kl s0 σ → Par (x4_readInto_39 N  n σ x2) (fun _ σ' => Kl s0 σ') := by
  intro n
  induction n with
  | zero => intro σ x2 _ r σ' e; cases e
  | succ n ih =>
    intro σ x2 hU
    exact kl_x4_readInto_39_b (N := N) hU (fun z0 z1 hz => ih z0 z1 hz)
theorem kl_x4_readInto {N : Nat} {s0 : St} {σ : St} {a1 : Nat} (hU : Kl s0 σ) : Par (x4_readInto N σ a1) (fun _ σ' => Kl s0 σ') := by
  unfold x4_readInto
  refine par_gd (fun _ => ?_)
  refine par_bd (kl_x3_clear (kl_P (kl_P hU (by decide)) (by decide))) (fun _ σ3 h1 => ?_)
  exact (kl_x4_readInto_39  N _ _ (kl_I (kl_I (kl_I (kl_I h1 (by decide)) (by decide)) (by decide)) (by decide)))
theorem kl_x7_startAt {N : Nat} {s0 : St} {σ : St} {a1 : Int32} (hU : Kl s0 σ) : Par (x7_startAt N σ a1) (fun _ σ' => Kl s0 σ') := by
  unfold x7_startAt
  refine par_bd (kl_j_fill (kl_I hU (by decide))) (fun _ σ2 h1 => ?_)
  exact par_some h1
theorem kl_x8_isSmall {N : Nat} {s0 : St} {σ : St} {a1 : Int32} (hU : Kl s0 σ) : Par (x8_isSmall N σ a1) (fun _ σ' => Kl s0 σ') := by
  unfold x8_isSmall
  refine par_if (fun _ => ?_) (fun _ => ?_)
  · exact par_some hU
  · refine par_if (fun _ => ?_) (fun _ => ?_)
    · exact par_some hU
    · exact par_some hU
theorem kl_x8_endOfWord_4_b {N : Nat} {s0 : St} {σ : St} {x3 : Int32} (hU : Kl s0 σ) {rec4 : St → Int32 → Option (Int32 × St)} (h_rec4 : ∀ (z0 : St) (z1 : Int32), Kl s0 z0 → Par (rec4 z0 z1) (fun _ σ' => Kl s0 σ')) : Par (x8_endOfWord_4_b N rec4 σ x3) (fun _ σ' => Kl s0 σ') := by
  unfold x8_endOfWord_4_b
  refine par_if (fun _ => ?_) (fun _ => ?_)
  · exact par_some hU
  · refine par_if (fun _ => ?_) (fun _ => ?_)
    · exact par_some hU
    · refine par_gd (fun _ => ?_)
      refine par_bd (kl_x8_isSmall hU) (fun r1 σ2 h1 => ?_)
      refine par_if (fun _ => ?_) (fun _ => ?_)
      · exact par_some h1
      · exact (h_rec4 _ _ h1)
theorem kl_x8_endOfWord_4 {N : Nat} {s0 : St} : ∀ (n : Nat) (σ : St) (x3 : Int32), Kl s0 σ → Par (x8_endOfWord_4 N  n σ x3) (fun _ σ' => Kl s0 σ') := by
  intro n
  induction n with
  | zero => intro σ x3 _ r σ' e; cases e
  | succ n ih =>
    intro σ x3 hU
    exact kl_x8_endOfWord_4_b (N := N) hU (fun z0 z1 hz => ih z0 z1 hz)
theorem kl_x8_endOfWord {N : Nat} {s0 : St} {σ : St} {a2 : Int32} (hU : Kl s0 σ) : Par (x8_endOfWord N σ a2) (fun _ σ' => Kl s0 σ') := by
  unfold x8_endOfWord
  exact (kl_x8_endOfWord_4  N _ _ hU)
theorem kl_x8_spells_19_b {N : Nat} {s0 : St} {σ : St} {x1 : Int32} {x2 : Nat} {x3 : Int32} (hU : Kl s0 σ) {rec19 : St → Int32 → Nat → Int32 → Option (Int32 × St)} (h_rec19 : ∀ (z0 : St) (z1 : Int32) (z2 : Nat) (z3 : Int32), Kl s0 z0 → Par (rec19 z0 z1 z2 z3) (fun _ σ' => Kl s0 σ')) : Par (x8_spells_19_b N rec19 σ x1 x2 x3) (fun _ σ' => Kl s0 σ') := by
  unfold x8_spells_19_b
  refine par_gd (fun _ => ?_)
  refine par_if (fun _ => ?_) (fun _ => ?_)
  · exact par_some hU
  · refine par_gd (fun _ => ?_)
    refine par_gd (fun _ => ?_)
    refine par_if (fun _ => ?_) (fun _ => ?_)
    · exact (h_rec19 _ _ _ _ hU)
    · exact par_some hU
theorem kl_x8_spells_19 {N : Nat} {s0 : St} : ∀ (n : Nat) (σ : St) (x1 : Int32) (x2 : Nat) (x3 : Int32), Kl s0 σ → Par (x8_spells_19 N  n σ x1 x2 x3) (fun _ σ' => Kl s0 σ') := by
  intro n
  induction n with
  | zero => intro σ x1 x2 x3 _ r σ' e; cases e
  | succ n ih =>
    intro σ x1 x2 x3 hU
    exact kl_x8_spells_19_b (N := N) hU (fun z0 z1 z2 z3 hz => ih z0 z1 z2 z3 hz)
theorem kl_x8_spells {N : Nat} {s0 : St} {σ : St} {a2 : Int32} {a3 : Nat} (hU : Kl s0 σ) : Par (x8_spells N σ a2 a3) (fun _ σ' => Kl s0 σ') := by
  unfold x8_spells
  refine par_if (fun _ => ?_) (fun _ => ?_)
  · exact par_some hU
  · refine par_gd (fun _ => ?_)
    refine par_if (fun _ => ?_) (fun _ => ?_)
    · exact (kl_x8_spells_19  N _ _ _ _ hU)
    · exact par_some hU
theorem kl_x8_kindOfWord {N : Nat} {s0 : St} {σ : St} {a2 : Int32} {a3 : Int32} (hU : Kl s0 σ) : Par (x8_kindOfWord N σ a2 a3) (fun _ σ' => Kl s0 σ') := by
  unfold x8_kindOfWord
  refine par_if (fun _ => ?_) (fun _ => ?_)
  · exact par_some hU
  · refine par_if (fun _ => ?_) (fun _ => ?_)
    · refine par_bd (kl_x8_spells hU) (fun r3 σ4 h1 => ?_)
      refine par_if (fun _ => ?_) (fun _ => ?_)
      · refine par_bd (kl_x8_spells h1) (fun r5 σ6 h2 => ?_)
        refine par_if (fun _ => ?_) (fun _ => ?_)
        · exact par_some h2
        · exact par_some h2
      · exact par_some h1
    · refine par_if (fun _ => ?_) (fun _ => ?_)
      · refine par_bd (kl_x8_spells hU) (fun r8 σ9 h3 => ?_)
        refine par_if (fun _ => ?_) (fun _ => ?_)
        · refine par_bd (kl_x8_spells h3) (fun r10 σ11 h4 => ?_)
          refine par_if (fun _ => ?_) (fun _ => ?_)
          · refine par_bd (kl_x8_spells h4) (fun r12 σ13 h5 => ?_)
            refine par_if (fun _ => ?_) (fun _ => ?_)
            · exact par_some h5
            · exact par_some h5
          · exact par_some h4
        · exact par_some h3
      · refine par_if (fun _ => ?_) (fun _ => ?_)
        · refine par_bd (kl_x8_spells hU) (fun r15 σ16 h6 => ?_)
          refine par_if (fun _ => ?_) (fun _ => ?_)
          · exact par_some h6
          · exact par_some h6
        · refine par_if (fun _ => ?_) (fun _ => ?_)
          · refine par_bd (kl_x8_spells hU) (fun r18 σ19 h7 => ?_)
            refine par_if (fun _ => ?_) (fun _ => ?_)
            · exact par_some h7
            · exact par_some h7
          · refine par_if (fun _ => ?_) (fun _ => ?_)
            · refine par_bd (kl_x8_spells hU) (fun r21 σ22 h8 => ?_)
              refine par_if (fun _ => ?_) (fun _ => ?_)
              · exact par_some h8
              · exact par_some h8
            · refine par_if (fun _ => ?_) (fun _ => ?_)
              · refine par_bd (kl_x8_spells hU) (fun r24 σ25 h9 => ?_)
                refine par_if (fun _ => ?_) (fun _ => ?_)
                · exact par_some h9
                · exact par_some h9
              · exact par_some hU
theorem kl_x8_add {N : Nat} {s0 : St} {σ : St} {a1 : Int32} {a2 : Int32} {a3 : Int32} (hU : Kl s0 σ) : Par (x8_add N σ a1 a2 a3) (fun _ σ' => Kl s0 σ') := by
  unfold x8_add
  refine par_bd (kl_x5_put hU) (fun _ σ2 h1 => ?_)
  exact par_some (kl_I h1 (by decide))
theorem kl_x8_kindOfSign {N : Nat} {s0 : St} {σ : St} {a1 : Int32} (hU : Kl s0 σ) : Par (x8_kindOfSign N σ a1) (fun _ σ' => Kl s0 σ') := by
  unfold x8_kindOfSign
  refine par_if (fun _ => ?_) (fun _ => ?_)
  · exact par_some hU
  · refine par_if (fun _ => ?_) (fun _ => ?_)
    · exact par_some hU
    · refine par_if (fun _ => ?_) (fun _ => ?_)
      · exact par_some hU
      · refine par_if (fun _ => ?_) (fun _ => ?_)
        · exact par_some hU
        · refine par_if (fun _ => ?_) (fun _ => ?_)
          · exact par_some hU
          · refine par_if (fun _ => ?_) (fun _ => ?_)
            · exact par_some hU
            · refine par_if (fun _ => ?_) (fun _ => ?_)
              · exact par_some hU
              · refine par_if (fun _ => ?_) (fun _ => ?_)
                · exact par_some hU
                · exact par_some hU
theorem kl_x8_scan_130 {N : Nat} {s0 : St} {σ : St} {x3 : Int32} (hU : Kl s0 σ) {rec17 : St → Int32 → Option (Unit × St)} (h_rec17 : ∀ (z0 : St) (z1 : Int32), Kl s0 z0 → Par (rec17 z0 z1) (fun _ σ' => Kl s0 σ')) : Par (x8_scan_130 N rec17 σ x3) (fun _ σ' => Kl s0 σ') := by
  unfold x8_scan_130
  exact (h_rec17 _ _ hU)
theorem kl_x8_scan_105 {N : Nat} {s0 : St} {σ : St} {x3 : Int32} {x4 : Int32} (hU : Kl s0 σ) {rec17 : St → Int32 → Option (Unit × St)} (h_rec17 : ∀ (z0 : St) (z1 : Int32), Kl s0 z0 → Par (rec17 z0 z1) (fun _ σ' => Kl s0 σ')) : Par (x8_scan_105 N rec17 σ x3 x4) (fun _ σ' => Kl s0 σ') := by
  unfold x8_scan_105
  refine par_if (fun _ => ?_) (fun _ => ?_)
  · exact (kl_x8_scan_130 hU h_rec17)
  · refine par_if (fun _ => ?_) (fun _ => ?_)
    · exact (kl_x8_scan_130 hU h_rec17)
    · refine par_bd (kl_x8_kindOfSign hU) (fun r3 σ4 h1 => ?_)
      refine par_bd (kl_x8_add h1) (fun _ σ6 h2 => ?_)
      exact (kl_x8_scan_130 h2 h_rec17)
theorem kl_x8_scan_17_b {N : Nat} {s0 : St} {σ : St} {x3 : Int32} (hU : Kl s0 σ) {rec17 : St → Int32 → Option (Unit × St)} (h_rec17 : ∀ (z0 : St) (z1 : Int32), Kl s0 z0 → Par (rec17 z0 z1) (fun _ σ' => Kl s0 σ')) : Par (x8_scan_17_b N rec17 σ x3) (fun _ σ' => Kl s0 σ') := by
  unfold x8_scan_17_b
  refine par_if (fun _ => ?_) (fun _ => ?_)
  · exact par_some hU
  · refine par_gd (fun _ => ?_)
    refine par_bd (kl_x8_isSmall hU) (fun r1 σ2 h1 => ?_)
    refine par_if (fun _ => ?_) (fun _ => ?_)
    · refine par_if (fun _ => ?_) (fun _ => ?_)
      · exact (kl_x8_scan_105 h1 h_rec17)
      · refine par_if (fun _ => ?_) (fun _ => ?_)
        · exact (kl_x8_scan_105 h1 h_rec17)
        · refine par_bd (kl_x8_add h1) (fun _ σ8 h2 => ?_)
          exact (kl_x8_scan_130 h2 h_rec17)
    · refine par_bd (kl_x8_endOfWord h1) (fun r9 σ10 h3 => ?_)
      refine par_bd (kl_x8_kindOfWord h3) (fun r11 σ12 h4 => ?_)
      refine par_bd (kl_x8_add h4) (fun _ σ14 h5 => ?_)
      exact (kl_x8_scan_130 h5 h_rec17)
theorem kl_x8_scan_17 {N : Nat} {s0 : St} : ∀ (n : Nat) (σ : St) (x3 : Int32), Kl s0 σ → Par (x8_scan_17 N  n σ x3) (fun _ σ' => Kl s0 σ') := by
  intro n
  induction n with
  | zero => intro σ x3 _ r σ' e; cases e
  | succ n ih =>
    intro σ x3 hU
    exact kl_x8_scan_17_b (N := N) hU (fun z0 z1 hz => ih z0 z1 hz)
theorem kl_x8_scan {N : Nat} {s0 : St} {σ : St} {a2 : Int32} (hU : Kl s0 σ) : Par (x8_scan N σ a2) (fun _ σ' => Kl s0 σ') := by
  unfold x8_scan
  exact (kl_x8_scan_17  N _ _ (kl_I (kl_I hU (by decide)) (by decide)))
theorem kl_x10_putNumber_49 {N : Nat} {s0 : St} {σ : St} {x1 : Int32} {x2 : Int32} (hU : Kl s0 σ) {rec3 : St → Int32 → Int32 → Option (Unit × St)} (h_rec3 : ∀ (z0 : St) (z1 : Int32) (z2 : Int32), Kl s0 z0 → Par (rec3 z0 z1 z2) (fun _ σ' => Kl s0 σ')) : Par (x10_putNumber_49 N rec3 σ x1 x2) (fun _ σ' => Kl s0 σ') := by
  unfold x10_putNumber_49
  exact (h_rec3 _ _ _ hU)
theorem kl_x10_putNumber_3_b {N : Nat} {s0 : St} {σ : St} {x1 : Int32} {x2 : Int32} (hU : Kl s0 σ) {rec3 : St → Int32 → Int32 → Option (Unit × St)} (h_rec3 : ∀ (z0 : St) (z1 : Int32) (z2 : Int32), Kl s0 z0 → Par (rec3 z0 z1 z2) (fun _ σ' => Kl s0 σ')) : Par (x10_putNumber_3_b N rec3 σ x1 x2) (fun _ σ' => Kl s0 σ') := by
  unfold x10_putNumber_3_b
  refine par_if (fun _ => ?_) (fun _ => ?_)
  · exact par_some hU
  · refine par_if (fun _ => ?_) (fun _ => ?_)
    · exact (kl_x10_putNumber_49 hU h_rec3)
    · refine par_if (fun _ => ?_) (fun _ => ?_)
      · exact (kl_x10_putNumber_49 hU h_rec3)
      · refine par_gd (fun _ => ?_)
        exact (kl_x10_putNumber_49 (kl_I (kl_A hU (by decide)) (by decide)) h_rec3)
theorem kl_x10_putNumber_3 {N : Nat} {s0 : St} : ∀ (n : Nat) (σ : St) (x1 : Int32) (x2 : Int32), Kl s0 σ → Par (x10_putNumber_3 N  n σ x1 x2) (fun _ σ' => Kl s0 σ') := by
  intro n
  induction n with
  | zero => intro σ x1 x2 _ r σ' e; cases e
  | succ n ih =>
    intro σ x1 x2 hU
    exact kl_x10_putNumber_3_b (N := N) hU (fun z0 z1 z2 hz => ih z0 z1 z2 hz)
theorem kl_x10_putNumber {N : Nat} {s0 : St} {σ : St} {a1 : Int32} (hU : Kl s0 σ) : Par (x10_putNumber N σ a1) (fun _ σ' => Kl s0 σ') := by
  unfold x10_putNumber
  exact (kl_x10_putNumber_3  N _ _ _ hU)
theorem kl_x10_feed {N : Nat} {s0 : St} {σ : St} {a1 : Int32} {a2 : Int32} {a3 : Int32} {a4 : Int32} {a5 : Int32} (hU : Kl s0 σ) : Par (x10_feed N σ a1 a2 a3 a4 a5) (fun _ σ' => Kl s0 σ') := by
  unfold x10_feed
  refine par_if (fun _ => ?_) (fun _ => ?_)
  · refine par_bd (kl_x10_putNumber hU) (fun _ σ2 h1 => ?_)
    refine par_bd (kl_x10_putNumber h1) (fun _ σ4 h2 => ?_)
    refine par_bd (kl_x10_putNumber h2) (fun _ σ6 h3 => ?_)
    refine par_bd (kl_x10_putNumber h3) (fun _ σ8 h4 => ?_)
    refine par_bd (kl_x10_putNumber h4) (fun _ σ10 h5 => ?_)
    exact par_some h5
  · exact par_some hU
theorem kl_x10_fault {N : Nat} {s0 : St} {σ : St} {a1 : Int32} (hU : Kl s0 σ) : Par (x10_fault N σ a1) (fun _ σ' => Kl s0 σ') := by
  unfold x10_fault
  refine par_if (fun _ => ?_) (fun _ => ?_)
  · exact par_some hU
  · refine par_if (fun _ => ?_) (fun _ => ?_)
    · exact par_some hU
    · exact par_some hU
/-! what runs and prices leave: the class's FACTS -/
abbrev okA_kh (j : Nat) : Prop := j ≠ 12 ∧ j ≠ 13 ∧ j ≠ 14
def Kh (s0 σ : St) : Prop := gI σ 908 = gI s0 908 ∧ gL σ 912 = gL s0 912 ∧ gA σ 12 = gA s0 12 ∧ gA σ 13 = gA s0 13 ∧ gA σ 14 = gA s0 14
theorem kh_I {s0 σ : St} {k : Nat} {v : Int32} (h : Kh s0 σ) (hk : k ≠ 908) : Kh s0 (sI σ k v) := ⟨(gI_ne hk).trans h.1, h.2⟩
theorem kh_A {s0 σ : St} {j i : Nat} {v : Int32} (h : Kh s0 σ) (hk : okA_kh j) : Kh s0 (sA σ j i v) := by
  refine ⟨h.1, h.2.1, ?_, ?_, ?_⟩
  · rw [gA_sA, if_neg (fun e => hk.1 e.symm)]; exact h.2.2.1
  · rw [gA_sA, if_neg (fun e => hk.2.1 e.symm)]; exact h.2.2.2.1
  · rw [gA_sA, if_neg (fun e => hk.2.2 e.symm)]; exact h.2.2.2.2
theorem kh_P {s0 σ : St} {k : Nat} {v : Nat} (h : Kh s0 σ) (_ : True) : Kh s0 (sP σ k v) := h
theorem kh_L {s0 σ : St} {k : Nat} {v : Int64} (h : Kh s0 σ) (hk : k ≠ 912) : Kh s0 (sL σ k v) := by
  refine ⟨h.1, ?_, h.2.2⟩
  rw [← h.2.1]
  show (if 912 = k then v else gL σ 912) = gL σ 912
  rw [if_neg (fun e => hk e.symm)]
theorem kh_Z {s0 σ : St} {j i : Nat} {v : Int64} (h : Kh s0 σ) : Kh s0 (sZ σ j i v) := h
theorem kh_r (σ : St) : Kh σ σ := ⟨rfl, rfl, rfl, rfl, rfl⟩
theorem kh_x0_get {N : Nat} {s0 : St} {σ : St} {a0 : Nat} {a1 : Int32} {a2 : Int32} (hU : Kh s0 σ) : Par (x0_get N σ a0 a1 a2) (fun _ σ' => Kh s0 σ') := by
  unfold x0_get
  refine par_if (fun _ => ?_) (fun _ => ?_)
  · exact par_some hU
  · refine par_gd (fun _ => ?_)
    refine par_if (fun _ => ?_) (fun _ => ?_)
    · exact par_some hU
    · refine par_if (fun _ => ?_) (fun _ => ?_)
      · exact par_some hU
      · refine par_if (fun _ => ?_) (fun _ => ?_)
        · exact par_some hU
        · refine par_gd (fun _ => ?_)
          exact par_some hU
theorem kh_x0_arguments {N : Nat} {s0 : St} {σ : St} {a0 : Nat} {a1 : Int32} (hU : Kh s0 σ) : Par (x0_arguments N σ a0 a1) (fun _ σ' => Kh s0 σ') := by
  unfold x0_arguments
  refine par_gd (fun _ => ?_)
  refine par_bd (kh_x0_get hU) (fun r2 σ3 h1 => ?_)
  exact par_some h1
theorem kh_x0_argument {N : Nat} {s0 : St} {σ : St} {a0 : Nat} {a1 : Int32} {a2 : Int32} (hU : Kh s0 σ) : Par (x0_argument N σ a0 a1 a2) (fun _ σ' => Kh s0 σ') := by
  unfold x0_argument
  refine par_gd (fun _ => ?_)
  refine par_bd (kh_x0_get hU) (fun r2 σ3 h1 => ?_)
  exact par_some h1
theorem kh_x3_has {N : Nat} {s0 : St} {σ : St} {a0 : Nat} {a1 : Int32} (hU : Kh s0 σ) : Par (x3_has N σ a0 a1) (fun _ σ' => Kh s0 σ') := by
  unfold x3_has
  refine par_if (fun _ => ?_) (fun _ => ?_)
  · exact par_some hU
  · refine par_if (fun _ => ?_) (fun _ => ?_)
    · exact par_some hU
    · refine par_gd (fun _ => ?_)
      refine par_if (fun _ => ?_) (fun _ => ?_)
      · exact par_some hU
      · exact par_some hU
theorem kh_x5_at {N : Nat} {s0 : St} {σ : St} {a1 : Nat} {a2 : Int32} (hU : Kh s0 σ) : Par (x5_at N σ a1 a2) (fun _ σ' => Kh s0 σ') := by
  unfold x5_at
  refine par_if (fun _ => ?_) (fun _ => ?_)
  · exact par_some hU
  · refine par_gd (fun _ => ?_)
    refine par_if (fun _ => ?_) (fun _ => ?_)
    · exact par_some hU
    · refine par_gd (fun _ => ?_)
      exact par_some hU
theorem kh_x7_outers_33 {N : Nat} {s0 : St} {σ : St} {t0 : Int32} {t1 : Int32} (hU : Kh s0 σ) : Par (x7_outers_33 N σ t0 t1) (fun _ σ' => Kh s0 σ') := by
  unfold x7_outers_33
  exact par_some hU
theorem kh_x7_outers {N : Nat} {s0 : St} {σ : St} (hU : Kh s0 σ) : Par (x7_outers N σ) (fun _ σ' => Kh s0 σ') := by
  unfold x7_outers
  refine par_gd (fun _ => ?_)
  refine par_bd (kh_x5_at hU) (fun r2 σ3 h1 => ?_)
  refine par_gd (fun _ => ?_)
  refine par_bd (kh_x3_has h1) (fun r5 σ6 h2 => ?_)
  refine par_if (fun _ => ?_) (fun _ => ?_)
  · exact (kh_x7_outers_33 h2)
  · exact (kh_x7_outers_33 h2)
theorem kh_x5_put {N : Nat} {s0 : St} {σ : St} {a1 : Nat} {a2 : Int32} {a3 : Int32} (hU : Kh s0 σ) (h_row : okA_kh a1) : Par (x5_put N σ a1 a2 a3) (fun _ σ' => Kh s0 σ') := by
  unfold x5_put
  refine par_if (fun _ => ?_) (fun _ => ?_)
  · exact par_some hU
  · refine par_gd (fun _ => ?_)
    refine par_if (fun _ => ?_) (fun _ => ?_)
    · exact par_some hU
    · refine par_gd (fun _ => ?_)
      exact par_some (kh_A hU h_row)
theorem kh_x3_parameter {N : Nat} {s0 : St} {σ : St} {a0 : Nat} {a1 : Int32} {a2 : Int32} (hU : Kh s0 σ) : Par (x3_parameter N σ a0 a1 a2) (fun _ σ' => Kh s0 σ') := by
  unfold x3_parameter
  refine par_gd (fun _ => ?_)
  refine par_bd (kh_x5_at hU) (fun r2 σ3 h1 => ?_)
  exact par_some h1
theorem kh_x6_clearNames_2_b {N : Nat} {s0 : St} {σ : St} {x1 : Int32} (hU : Kh s0 σ) {rec2 : St → Int32 → Option (Unit × St)} (h_rec2 : ∀ (z0 : St) (z1 : Int32), Kh s0 z0 → Par (rec2 z0 z1) (fun _ σ' => Kh s0 σ')) : Par (x6_clearNames_2_b N rec2 σ x1) (fun _ σ' => Kh s0 σ') := by
  unfold x6_clearNames_2_b
  refine par_if (fun _ => ?_) (fun _ => ?_)
  · exact par_some hU
  · refine par_bd (kh_x5_put hU (by decide)) (fun _ σ2 h1 => ?_)
    exact (h_rec2 _ _ h1)
theorem kh_x6_clearNames_2 {N : Nat} {s0 : St} : ∀ (n : Nat) (σ : St) (x1 : Int32), Kh s0 σ → Par (x6_clearNames_2 N  n σ x1) (fun _ σ' => Kh s0 σ') := by
  intro n
  induction n with
  | zero => intro σ x1 _ r σ' e; cases e
  | succ n ih =>
    intro σ x1 hU
    exact kh_x6_clearNames_2_b (N := N) hU (fun z0 z1 hz => ih z0 z1 hz)
theorem kh_x6_clearNames {N : Nat} {s0 : St} {σ : St} (hU : Kh s0 σ) : Par (x6_clearNames N σ) (fun _ σ' => Kh s0 σ') := by
  unfold x6_clearNames
  exact (kh_x6_clearNames_2  N _ _ hU)
theorem kh_x6_make {N : Nat} {s0 : St} {σ : St} {a1 : Int32} {a2 : Int32} (hU : Kh s0 σ) : Par (x6_make N σ a1 a2) (fun _ σ' => Kh s0 σ') := by
  unfold x6_make
  refine par_if (fun _ => ?_) (fun _ => ?_)
  · refine par_bd (kh_x5_put (kh_I hU (by decide)) (by decide)) (fun _ σ2 h1 => ?_)
    refine par_bd (kh_x5_put h1 (by decide)) (fun _ σ4 h2 => ?_)
    exact par_some h2
  · exact par_some (kh_I hU (by decide))
theorem kh_x6_makeLoop {N : Nat} {s0 : St} {σ : St} (hU : Kh s0 σ) : Par (x6_makeLoop N σ) (fun _ σ' => Kh s0 σ') := by
  unfold x6_makeLoop
  refine par_bd (kh_x6_make hU) (fun r1 σ2 h1 => ?_)
  exact par_some h1
theorem kh_x6_setName {N : Nat} {s0 : St} {σ : St} {a1 : Int32} {a2 : Int32} (hU : Kh s0 σ) : Par (x6_setName N σ a1 a2) (fun _ σ' => Kh s0 σ') := by
  unfold x6_setName
  refine par_bd (kh_x5_put hU (by decide)) (fun _ σ2 h1 => ?_)
  exact par_some h1
theorem kh_x6_begin_132 {N : Nat} {s0 : St} {σ : St} (hU : Kh s0 σ) : Par (x6_begin_132 N σ) (fun _ σ' => Kh s0 σ') := by
  unfold x6_begin_132
  refine par_gd (fun _ => ?_)
  refine par_bd (kh_x5_at hU) (fun r7 σ8 h1 => ?_)
  exact par_some (kh_I h1 (by decide))
theorem kh_x6_begin_123 {N : Nat} {s0 : St} {σ : St} {x1 : Int32} {x3 : Int32} {t1 : Int32} {t2 : Int32} (hU : Kh s0 σ) {rec68 : St → Int32 → Int32 → Option (Unit × St)} (h_rec68 : ∀ (z0 : St) (z1 : Int32) (z2 : Int32), Kh s0 z0 → Par (rec68 z0 z1 z2) (fun _ σ' => Kh s0 σ')) : Par (x6_begin_123 N rec68 σ x1 x3 t1 t2) (fun _ σ' => Kh s0 σ') := by
  unfold x6_begin_123
  refine par_bd (kh_x6_setName hU) (fun _ σ13 h1 => ?_)
  exact (h_rec68 _ _ _ h1)
theorem kh_x6_begin_92 {N : Nat} {s0 : St} {σ : St} {x1 : Int32} {x3 : Int32} {t0 : Int32} (hU : Kh s0 σ) {rec68 : St → Int32 → Int32 → Option (Unit × St)} (h_rec68 : ∀ (z0 : St) (z1 : Int32) (z2 : Int32), Kh s0 z0 → Par (rec68 z0 z1 z2) (fun _ σ' => Kh s0 σ')) : Par (x6_begin_92 N rec68 σ x1 x3 t0) (fun _ σ' => Kh s0 σ') := by
  unfold x6_begin_92
  refine par_gd (fun _ => ?_)
  refine par_bd (kh_x3_parameter hU) (fun r10 σ11 h1 => ?_)
  refine par_if (fun _ => ?_) (fun _ => ?_)
  · exact (kh_x6_begin_123 h1 h_rec68)
  · refine par_bd (kh_x6_makeLoop h1) (fun r14 σ15 h2 => ?_)
    exact (kh_x6_begin_123 h2 h_rec68)
theorem kh_x6_begin_68_b {N : Nat} {s0 : St} {σ : St} {x1 : Int32} {x3 : Int32} (hU : Kh s0 σ) {rec68 : St → Int32 → Int32 → Option (Unit × St)} (h_rec68 : ∀ (z0 : St) (z1 : Int32) (z2 : Int32), Kh s0 z0 → Par (rec68 z0 z1 z2) (fun _ σ' => Kh s0 σ')) : Par (x6_begin_68_b N rec68 σ x1 x3) (fun _ σ' => Kh s0 σ') := by
  unfold x6_begin_68_b
  refine par_bd (kh_x7_outers hU) (fun r4 σ5 h1 => ?_)
  refine par_if (fun _ => ?_) (fun _ => ?_)
  · exact (kh_x6_begin_132 h1)
  · refine par_if (fun _ => ?_) (fun _ => ?_)
    · exact (kh_x6_begin_92 h1 h_rec68)
    · exact (kh_x6_begin_92 h1 h_rec68)
theorem kh_x6_begin_68 {N : Nat} {s0 : St} : ∀ (n : Nat) (σ : St) (x1 : Int32) (x3 : Int32), Kh s0 σ → Par (x6_begin_68 N  n σ x1 x3) (fun _ σ' => Kh s0 σ') := by
  intro n
  induction n with
  | zero => intro σ x1 x3 _ r σ' e; cases e
  | succ n ih =>
    intro σ x1 x3 hU
    exact kh_x6_begin_68_b (N := N) hU (fun z0 z1 z2 hz => ih z0 z1 z2 hz)
theorem kh_x6_begin {N : Nat} {s0 : St} {σ : St} {a1 : Int32} {a2 : Int32} (hU : Kh s0 σ) : Par (x6_begin N σ a1 a2) (fun _ σ' => Kh s0 σ') := by
  unfold x6_begin
  refine par_gd (fun _ => ?_)
  refine par_bd (kh_x6_clearNames (kh_I (kh_I (kh_I (kh_I (kh_I (kh_I (kh_I (kh_I (kh_P (kh_P hU (by decide)) (by decide)) (by decide)) (by decide)) (by decide)) (by decide)) (by decide)) (by decide)) (by decide)) (by decide))) (fun _ σ3 h1 => ?_)
  exact (kh_x6_begin_68  N _ _ _ h1)
theorem kh_x6_leave {N : Nat} {s0 : St} {σ : St} {a1 : Int32} (hU : Kh s0 σ) : Par (x6_leave N σ a1) (fun _ σ' => Kh s0 σ') := by
  unfold x6_leave
  refine par_if (fun _ => ?_) (fun _ => ?_)
  · refine par_if (fun _ => ?_) (fun _ => ?_)
    · exact par_some (kh_I hU (by decide))
    · exact par_some (kh_I hU (by decide))
  · refine par_bd (kh_x5_at (kh_I hU (by decide))) (fun r1 σ2 h1 => ?_)
    exact par_some (kh_I (kh_I (kh_I h1 (by decide)) (by decide)) (by decide))
theorem kh_x6_nameOf {N : Nat} {s0 : St} {σ : St} {a1 : Int32} (hU : Kh s0 σ) : Par (x6_nameOf N σ a1) (fun _ σ' => Kh s0 σ') := by
  unfold x6_nameOf
  refine par_bd (kh_x5_at hU) (fun r1 σ2 h1 => ?_)
  exact par_some h1
theorem kh_x6_store {N : Nat} {s0 : St} {σ : St} {a1 : Int32} (hU : Kh s0 σ) : Par (x6_store N σ a1) (fun _ σ' => Kh s0 σ') := by
  unfold x6_store
  refine par_if (fun _ => ?_) (fun _ => ?_)
  · refine par_gd (fun _ => ?_)
    refine par_bd (kh_x0_get (kh_I hU (by decide))) (fun r7 σ8 h1 => ?_)
    exact par_some (kh_I h1 (by decide))
  · refine par_gd (fun _ => ?_)
    refine par_bd (kh_x0_get hU) (fun r2 σ3 h2 => ?_)
    refine par_bd (kh_x5_put h2 (by decide)) (fun _ σ5 h3 => ?_)
    exact par_some h3
theorem kh_x6_finish {N : Nat} {s0 : St} {σ : St} (hU : Kh s0 σ) : Par (x6_finish N σ) (fun _ σ' => Kh s0 σ') := by
  unfold x6_finish
  refine par_gd (fun _ => ?_)
  refine par_bd (kh_x0_get (kh_I hU (by decide))) (fun r2 σ3 h1 => ?_)
  refine par_gd (fun _ => ?_)
  refine par_bd (kh_x0_get h1) (fun r5 σ6 h2 => ?_)
  refine par_if (fun _ => ?_) (fun _ => ?_)
  · refine par_bd (kh_x6_leave h2) (fun _ σ14 h3 => ?_)
    exact par_some h3
  · refine par_if (fun _ => ?_) (fun _ => ?_)
    · refine par_bd (kh_x6_setName h2) (fun _ σ12 h4 => ?_)
      exact par_some (kh_I h4 (by decide))
    · refine par_if (fun _ => ?_) (fun _ => ?_)
      · refine par_bd (kh_x6_nameOf h2) (fun r7 σ8 h5 => ?_)
        refine par_bd (kh_x6_store h5) (fun _ σ10 h6 => ?_)
        exact par_some (kh_I h6 (by decide))
      · exact par_some (kh_I h2 (by decide))
theorem kh_j_floorMod {N : Nat} {s0 : St} {σ : St} {a1 : Int32} {a2 : Int32} (hU : Kh s0 σ) : Par (j_floorMod N σ a1 a2) (fun _ σ' => Kh s0 σ') := by
  unfold j_floorMod
  refine par_gd (fun _ => ?_)
  refine par_if (fun _ => ?_) (fun _ => ?_)
  · exact par_some hU
  · refine par_if (fun _ => ?_) (fun _ => ?_)
    · exact par_some hU
    · exact par_some hU
theorem kh_x6_choose {N : Nat} {s0 : St} {σ : St} (hU : Kh s0 σ) : Par (x6_choose N σ) (fun _ σ' => Kh s0 σ') := by
  unfold x6_choose
  refine par_bd (kh_j_floorMod hU) (fun r1 σ2 h1 => ?_)
  refine par_if (fun _ => ?_) (fun _ => ?_)
  · exact par_some (kh_I h1 (by decide))
  · exact par_some (kh_I h1 (by decide))
theorem kh_x6_holds_60 {N : Nat} {s0 : St} {σ : St} {t0 : Int32} {t1 : Int32} (hU : Kh s0 σ) : Par (x6_holds_60 N σ t0 t1) (fun _ σ' => Kh s0 σ') := by
  unfold x6_holds_60
  refine par_if (fun _ => ?_) (fun _ => ?_)
  · exact par_some hU
  · exact par_some hU
theorem kh_x6_holds_47 {N : Nat} {s0 : St} {σ : St} {x1 : Int32} {t0 : Int32} (hU : Kh s0 σ) : Par (x6_holds_47 N σ x1 t0) (fun _ σ' => Kh s0 σ') := by
  unfold x6_holds_47
  refine par_if (fun _ => ?_) (fun _ => ?_)
  · exact (kh_x6_holds_60 hU)
  · exact (kh_x6_holds_60 hU)
theorem kh_x6_holds {N : Nat} {s0 : St} {σ : St} (hU : Kh s0 σ) : Par (x6_holds N σ) (fun _ σ' => Kh s0 σ') := by
  unfold x6_holds
  refine par_gd (fun _ => ?_)
  refine par_bd (kh_x0_get hU) (fun r2 σ3 h1 => ?_)
  refine par_if (fun _ => ?_) (fun _ => ?_)
  · refine par_bd (kh_x6_choose h1) (fun r9 σ10 h2 => ?_)
    refine par_gd (fun _ => ?_)
    exact par_some h2
  · refine par_gd (fun _ => ?_)
    refine par_bd (kh_x0_get h1) (fun r5 σ6 h3 => ?_)
    refine par_bd (kh_x6_nameOf h3) (fun r7 σ8 h4 => ?_)
    refine par_if (fun _ => ?_) (fun _ => ?_)
    · exact (kh_x6_holds_47 h4)
    · exact (kh_x6_holds_47 h4)
theorem kh_x6_fieldOf {N : Nat} {s0 : St} {σ : St} {a1 : Int32} {a2 : Int32} (hU : Kh s0 σ) : Par (x6_fieldOf N σ a1 a2) (fun _ σ' => Kh s0 σ') := by
  unfold x6_fieldOf
  refine par_if (fun _ => ?_) (fun _ => ?_)
  · refine par_gd (fun _ => ?_)
    refine par_bd (kh_x0_get (kh_I hU (by decide))) (fun r4 σ5 h1 => ?_)
    exact par_some (kh_I h1 (by decide))
  · refine par_bd (kh_x5_at hU) (fun r1 σ2 h2 => ?_)
    exact par_some h2
theorem kh_x6_enter_113 {N : Nat} {s0 : St} {σ : St} {x1 : Int32} (hU : Kh s0 σ) : Par (x6_enter_113 N σ x1) (fun _ σ' => Kh s0 σ') := by
  unfold x6_enter_113
  refine par_gd (fun _ => ?_)
  refine par_bd (kh_x5_at hU) (fun r9 σ10 h1 => ?_)
  exact par_some (kh_I (kh_I h1 (by decide)) (by decide))
theorem kh_x6_enter_51_b {N : Nat} {s0 : St} {σ : St} {x1 : Int32} {x2 : Int32} {x3 : Int32} (hU : Kh s0 σ) {rec51 : St → Int32 → Int32 → Int32 → Option (Unit × St)} (h_rec51 : ∀ (z0 : St) (z1 : Int32) (z2 : Int32) (z3 : Int32), Kh s0 z0 → Par (rec51 z0 z1 z2 z3) (fun _ σ' => Kh s0 σ')) : Par (x6_enter_51_b N rec51 σ x1 x2 x3) (fun _ σ' => Kh s0 σ') := by
  unfold x6_enter_51_b
  refine par_gd (fun _ => ?_)
  refine par_bd (kh_x0_arguments hU) (fun r6 σ7 h1 => ?_)
  refine par_if (fun _ => ?_) (fun _ => ?_)
  · exact (kh_x6_enter_113 h1)
  · refine par_gd (fun _ => ?_)
    refine par_bd (kh_x0_argument h1) (fun r12 σ13 h2 => ?_)
    refine par_bd (kh_x5_at h2) (fun r14 σ15 h3 => ?_)
    refine par_gd (fun _ => ?_)
    refine par_bd (kh_x3_parameter h3) (fun r17 σ18 h4 => ?_)
    refine par_bd (kh_x6_setName h4) (fun _ σ20 h5 => ?_)
    exact (h_rec51 _ _ _ _ h5)
theorem kh_x6_enter_51 {N : Nat} {s0 : St} : ∀ (n : Nat) (σ : St) (x1 : Int32) (x2 : Int32) (x3 : Int32), Kh s0 σ → Par (x6_enter_51 N  n σ x1 x2 x3) (fun _ σ' => Kh s0 σ') := by
  intro n
  induction n with
  | zero => intro σ x1 x2 x3 _ r σ' e; cases e
  | succ n ih =>
    intro σ x1 x2 x3 hU
    exact kh_x6_enter_51_b (N := N) hU (fun z0 z1 z2 z3 hz => ih z0 z1 z2 z3 hz)
theorem kh_x6_enter {N : Nat} {s0 : St} {σ : St} {a1 : Int32} (hU : Kh s0 σ) : Par (x6_enter N σ a1) (fun _ σ' => Kh s0 σ') := by
  unfold x6_enter
  refine par_if (fun _ => ?_) (fun _ => ?_)
  · refine par_bd (kh_x5_put hU (by decide)) (fun _ σ2 h1 => ?_)
    refine par_bd (kh_x6_clearNames (kh_I h1 (by decide))) (fun _ σ4 h2 => ?_)
    exact (kh_x6_enter_51  N _ _ _ _ h2)
  · exact par_some (kh_I hU (by decide))
theorem kh_x6_work_79 {N : Nat} {s0 : St} {σ : St} {t1 : Int32} (hU : Kh s0 σ) : Par (x6_work_79 N σ t1) (fun _ σ' => Kh s0 σ') := by
  unfold x6_work_79
  exact par_some (kh_I hU (by decide))
theorem kh_x6_work {N : Nat} {s0 : St} {σ : St} (hU : Kh s0 σ) : Par (x6_work N σ) (fun _ σ' => Kh s0 σ') := by
  unfold x6_work
  refine par_gd (fun _ => ?_)
  refine par_bd (kh_x0_get hU) (fun r2 σ3 h1 => ?_)
  refine par_gd (fun _ => ?_)
  refine par_bd (kh_x0_get h1) (fun r5 σ6 h2 => ?_)
  refine par_bd (kh_x6_nameOf h2) (fun r7 σ8 h3 => ?_)
  refine par_gd (fun _ => ?_)
  refine par_bd (kh_x0_get h3) (fun r10 σ11 h4 => ?_)
  refine par_if (fun _ => ?_) (fun _ => ?_)
  · refine par_bd (kh_x6_choose (kh_I (kh_I h4 (by decide)) (by decide))) (fun r20 σ21 h5 => ?_)
    refine par_if (fun _ => ?_) (fun _ => ?_)
    · exact (kh_x6_work_79 h5)
    · refine par_bd (kh_x6_makeLoop h5) (fun r22 σ23 h6 => ?_)
      exact (kh_x6_work_79 h6)
  · refine par_if (fun _ => ?_) (fun _ => ?_)
    · refine par_bd (kh_x6_nameOf (kh_I (kh_I h4 (by decide)) (by decide))) (fun r16 σ17 h7 => ?_)
      refine par_bd (kh_x6_make h7) (fun r18 σ19 h8 => ?_)
      exact par_some (kh_I h8 (by decide))
    · refine par_if (fun _ => ?_) (fun _ => ?_)
      · exact par_some (kh_I (kh_I (kh_I h4 (by decide)) (by decide)) (by decide))
      · refine par_if (fun _ => ?_) (fun _ => ?_)
        · refine par_bd (kh_x6_fieldOf (kh_I (kh_I h4 (by decide)) (by decide))) (fun r14 σ15 h9 => ?_)
          exact par_some (kh_I h9 (by decide))
        · refine par_if (fun _ => ?_) (fun _ => ?_)
          · refine par_bd (kh_x6_enter (kh_I (kh_I h4 (by decide)) (by decide))) (fun _ σ13 h10 => ?_)
            exact par_some h10
          · exact par_some (kh_I (kh_I h4 (by decide)) (by decide))
theorem kh_x6_step_113 {N : Nat} {s0 : St} {σ : St} {t1 : Int32} (hU : Kh s0 σ) : Par (x6_step_113 N σ t1) (fun _ σ' => Kh s0 σ') := by
  unfold x6_step_113
  exact par_some (kh_I hU (by decide))
theorem kh_x6_step {N : Nat} {s0 : St} {σ : St} (hU : Kh s0 σ) : Par (x6_step N σ) (fun _ σ' => Kh s0 σ') := by
  unfold x6_step
  refine par_gd (fun _ => ?_)
  refine par_bd (kh_x0_get hU) (fun r2 σ3 h1 => ?_)
  refine par_if (fun _ => ?_) (fun _ => ?_)
  · refine par_gd (fun _ => ?_)
    refine par_bd (kh_x0_get h1) (fun r14 σ15 h2 => ?_)
    exact par_some (kh_I h2 (by decide))
  · refine par_if (fun _ => ?_) (fun _ => ?_)
    · refine par_bd (kh_x6_leave h1) (fun _ σ12 h3 => ?_)
      exact par_some h3
    · refine par_if (fun _ => ?_) (fun _ => ?_)
      · refine par_if (fun _ => ?_) (fun _ => ?_)
        · refine par_bd (kh_x6_holds (kh_I h1 (by decide))) (fun r6 σ7 h4 => ?_)
          refine par_if (fun _ => ?_) (fun _ => ?_)
          · refine par_gd (fun _ => ?_)
            refine par_bd (kh_x0_get h4) (fun r9 σ10 h5 => ?_)
            exact (kh_x6_step_113 h5)
          · exact (kh_x6_step_113 h4)
        · refine par_bd (kh_x6_work (kh_I h1 (by decide))) (fun _ σ5 h6 => ?_)
          exact par_some h6
      · exact par_some (kh_I h1 (by decide))
theorem kh_x6_go_46 {N : Nat} {s0 : St} {σ : St} (hU : Kh s0 σ) : Par (x6_go_46 N σ) (fun _ σ' => Kh s0 σ') := by
  unfold x6_go_46
  refine par_if (fun _ => ?_) (fun _ => ?_)
  · exact par_some hU
  · exact par_some hU
theorem kh_x6_go_40 {N : Nat} {s0 : St} {σ : St} {x3 : Int32} (hU : Kh s0 σ) {rec8 : St → Int32 → Option (Int32 × St)} (h_rec8 : ∀ (z0 : St) (z1 : Int32), Kh s0 z0 → Par (rec8 z0 z1) (fun _ σ' => Kh s0 σ')) : Par (x6_go_40 N rec8 σ x3) (fun _ σ' => Kh s0 σ') := by
  unfold x6_go_40
  exact (h_rec8 _ _ hU)
theorem kh_x6_go_8_b {N : Nat} {s0 : St} {σ : St} {x3 : Int32} (hU : Kh s0 σ) {rec8 : St → Int32 → Option (Int32 × St)} (h_rec8 : ∀ (z0 : St) (z1 : Int32), Kh s0 z0 → Par (rec8 z0 z1) (fun _ σ' => Kh s0 σ')) : Par (x6_go_8_b N rec8 σ x3) (fun _ σ' => Kh s0 σ') := by
  unfold x6_go_8_b
  refine par_if (fun _ => ?_) (fun _ => ?_)
  · exact (kh_x6_go_46 hU)
  · refine par_if (fun _ => ?_) (fun _ => ?_)
    · refine par_if (fun _ => ?_) (fun _ => ?_)
      · refine par_bd (kh_x6_step hU) (fun _ σ4 h1 => ?_)
        exact (kh_x6_go_40 h1 h_rec8)
      · refine par_bd (kh_x6_finish hU) (fun _ σ6 h2 => ?_)
        exact (kh_x6_go_40 h2 h_rec8)
    · exact (kh_x6_go_46 hU)
theorem kh_x6_go_8 {N : Nat} {s0 : St} : ∀ (n : Nat) (σ : St) (x3 : Int32), Kh s0 σ → Par (x6_go_8 N  n σ x3) (fun _ σ' => Kh s0 σ') := by
  intro n
  induction n with
  | zero => intro σ x3 _ r σ' e; cases e
  | succ n ih =>
    intro σ x3 hU
    exact kh_x6_go_8_b (N := N) hU (fun z0 z1 hz => ih z0 z1 hz)
theorem kh_x6_go {N : Nat} {s0 : St} {σ : St} {a1 : Int32} {a2 : Int32} (hU : Kh s0 σ) : Par (x6_go N σ a1 a2) (fun _ σ' => Kh s0 σ') := by
  unfold x6_go
  refine par_bd (kh_x6_begin hU) (fun _ σ2 h1 => ?_)
  exact (kh_x6_go_8  N _ _ h1)
theorem kh_x7_allows_53 {N : Nat} {s0 : St} {σ : St} {x1 : Int32} {x2 : Int32} {t0 : Int32} (hU : Kh s0 σ) {rec32 : St → Int32 → Int32 → Option (Int32 × St)} (h_rec32 : ∀ (z0 : St) (z1 : Int32) (z2 : Int32), Kh s0 z0 → Par (rec32 z0 z1 z2) (fun _ σ' => Kh s0 σ')) : Par (x7_allows_53 N rec32 σ x1 x2 t0) (fun _ σ' => Kh s0 σ') := by
  unfold x7_allows_53
  refine par_bd (kh_x5_at hU) (fun r8 σ9 h1 => ?_)
  refine par_if (fun _ => ?_) (fun _ => ?_)
  · exact par_some h1
  · exact (h_rec32 _ _ _ h1)
theorem kh_x7_allows_32_b {N : Nat} {s0 : St} {σ : St} {x1 : Int32} {x2 : Int32} (hU : Kh s0 σ) {rec32 : St → Int32 → Int32 → Option (Int32 × St)} (h_rec32 : ∀ (z0 : St) (z1 : Int32) (z2 : Int32), Kh s0 z0 → Par (rec32 z0 z1 z2) (fun _ σ' => Kh s0 σ')) : Par (x7_allows_32_b N rec32 σ x1 x2) (fun _ σ' => Kh s0 σ') := by
  unfold x7_allows_32_b
  refine par_bd (kh_x7_outers hU) (fun r6 σ7 h1 => ?_)
  refine par_if (fun _ => ?_) (fun _ => ?_)
  · exact par_some h1
  · refine par_if (fun _ => ?_) (fun _ => ?_)
    · exact (kh_x7_allows_53 h1 h_rec32)
    · exact (kh_x7_allows_53 h1 h_rec32)
theorem kh_x7_allows_32 {N : Nat} {s0 : St} : ∀ (n : Nat) (σ : St) (x1 : Int32) (x2 : Int32), Kh s0 σ → Par (x7_allows_32 N  n σ x1 x2) (fun _ σ' => Kh s0 σ') := by
  intro n
  induction n with
  | zero => intro σ x1 x2 _ r σ' e; cases e
  | succ n ih =>
    intro σ x1 x2 hU
    exact kh_x7_allows_32_b (N := N) hU (fun z0 z1 z2 hz => ih z0 z1 z2 hz)
theorem kh_x7_allows {N : Nat} {s0 : St} {σ : St} {a1 : Int32} (hU : Kh s0 σ) : Par (x7_allows N σ a1) (fun _ σ' => Kh s0 σ') := by
  unfold x7_allows
  refine par_gd (fun _ => ?_)
  refine par_bd (kh_x3_has hU) (fun r2 σ3 h1 => ?_)
  refine par_if (fun _ => ?_) (fun _ => ?_)
  · exact par_some h1
  · refine par_if (fun _ => ?_) (fun _ => ?_)
    · exact par_some h1
    · refine par_bd (kh_x7_outers h1) (fun r4 σ5 h2 => ?_)
      refine par_if (fun _ => ?_) (fun _ => ?_)
      · exact (kh_x7_allows_32  N _ _ _ h2)
      · exact par_some h2
theorem kh_x10_putNumber_49 {N : Nat} {s0 : St} {σ : St} {x1 : Int32} {x2 : Int32} (hU : Kh s0 σ) {rec3 : St → Int32 → Int32 → Option (Unit × St)} (h_rec3 : ∀ (z0 : St) (z1 : Int32) (z2 : Int32), Kh s0 z0 → Par (rec3 z0 z1 z2) (fun _ σ' => Kh s0 σ')) : Par (x10_putNumber_49 N rec3 σ x1 x2) (fun _ σ' => Kh s0 σ') := by
  unfold x10_putNumber_49
  exact (h_rec3 _ _ _ hU)
theorem kh_x10_putNumber_3_b {N : Nat} {s0 : St} {σ : St} {x1 : Int32} {x2 : Int32} (hU : Kh s0 σ) {rec3 : St → Int32 → Int32 → Option (Unit × St)} (h_rec3 : ∀ (z0 : St) (z1 : Int32) (z2 : Int32), Kh s0 z0 → Par (rec3 z0 z1 z2) (fun _ σ' => Kh s0 σ')) : Par (x10_putNumber_3_b N rec3 σ x1 x2) (fun _ σ' => Kh s0 σ') := by
  unfold x10_putNumber_3_b
  refine par_if (fun _ => ?_) (fun _ => ?_)
  · exact par_some hU
  · refine par_if (fun _ => ?_) (fun _ => ?_)
    · exact (kh_x10_putNumber_49 hU h_rec3)
    · refine par_if (fun _ => ?_) (fun _ => ?_)
      · exact (kh_x10_putNumber_49 hU h_rec3)
      · refine par_gd (fun _ => ?_)
        exact (kh_x10_putNumber_49 (kh_I (kh_A hU (by decide)) (by decide)) h_rec3)
theorem kh_x10_putNumber_3 {N : Nat} {s0 : St} : ∀ (n : Nat) (σ : St) (x1 : Int32) (x2 : Int32), Kh s0 σ → Par (x10_putNumber_3 N  n σ x1 x2) (fun _ σ' => Kh s0 σ') := by
  intro n
  induction n with
  | zero => intro σ x1 x2 _ r σ' e; cases e
  | succ n ih =>
    intro σ x1 x2 hU
    exact kh_x10_putNumber_3_b (N := N) hU (fun z0 z1 z2 hz => ih z0 z1 z2 hz)
theorem kh_x10_putNumber {N : Nat} {s0 : St} {σ : St} {a1 : Int32} (hU : Kh s0 σ) : Par (x10_putNumber N σ a1) (fun _ σ' => Kh s0 σ') := by
  unfold x10_putNumber
  exact (kh_x10_putNumber_3  N _ _ _ hU)
theorem kh_x10_feed {N : Nat} {s0 : St} {σ : St} {a1 : Int32} {a2 : Int32} {a3 : Int32} {a4 : Int32} {a5 : Int32} (hU : Kh s0 σ) : Par (x10_feed N σ a1 a2 a3 a4 a5) (fun _ σ' => Kh s0 σ') := by
  unfold x10_feed
  refine par_if (fun _ => ?_) (fun _ => ?_)
  · refine par_bd (kh_x10_putNumber hU) (fun _ σ2 h1 => ?_)
    refine par_bd (kh_x10_putNumber h1) (fun _ σ4 h2 => ?_)
    refine par_bd (kh_x10_putNumber h2) (fun _ σ6 h3 => ?_)
    refine par_bd (kh_x10_putNumber h3) (fun _ σ8 h4 => ?_)
    refine par_bd (kh_x10_putNumber h4) (fun _ σ10 h5 => ?_)
    exact par_some h5
  · exact par_some hU
theorem kh_x10_fault {N : Nat} {s0 : St} {σ : St} {a1 : Int32} (hU : Kh s0 σ) : Par (x10_fault N σ a1) (fun _ σ' => Kh s0 σ') := by
  unfold x10_fault
  refine par_if (fun _ => ?_) (fun _ => ?_)
  · exact par_some hU
  · refine par_if (fun _ => ?_) (fun _ => ?_)
    · exact par_some hU
    · exact par_some hU
theorem kh_x10_run {N : Nat} {s0 : St} {σ : St} {a1 : Int32} {a2 : Int32} (hU : Kh s0 σ) : Par (x10_run N σ a1 a2) (fun _ σ' => Kh s0 σ') := by
  unfold x10_run
  refine par_if (fun _ => ?_) (fun _ => ?_)
  · exact par_some hU
  · refine par_if (fun _ => ?_) (fun _ => ?_)
    · exact par_some hU
    · refine par_bd (kh_x7_allows hU) (fun r1 σ2 h1 => ?_)
      refine par_if (fun _ => ?_) (fun _ => ?_)
      · exact par_some h1
      · refine par_bd (kh_x6_go h1) (fun r3 σ4 h2 => ?_)
        refine par_bd (kh_x5_put h2 (by decide)) (fun _ σ6 h3 => ?_)
        refine par_bd (kh_x5_put h3 (by decide)) (fun _ σ8 h4 => ?_)
        refine par_bd (kh_x5_put h4 (by decide)) (fun _ σ10 h5 => ?_)
        refine par_bd (kh_x5_put h5 (by decide)) (fun _ σ12 h6 => ?_)
        exact par_some h6
theorem kh_x10_ran_13 {N : Nat} {s0 : St} {σ : St} (hU : Kh s0 σ) : Par (x10_ran_13 N σ) (fun _ σ' => Kh s0 σ') := by
  unfold x10_ran_13
  exact par_some hU
theorem kh_x10_ran {N : Nat} {s0 : St} {σ : St} {a1 : Int32} (hU : Kh s0 σ) : Par (x10_ran N σ a1) (fun _ σ' => Kh s0 σ') := by
  unfold x10_ran
  refine par_if (fun _ => ?_) (fun _ => ?_)
  · exact (kh_x10_ran_13 hU)
  · refine par_if (fun _ => ?_) (fun _ => ?_)
    · refine par_gd (fun _ => ?_)
      exact par_some hU
    · exact (kh_x10_ran_13 hU)
theorem kh_x10_price {N : Nat} {s0 : St} {σ : St} {a1 : Int32} {a2 : Int32} (hU : Kh s0 σ) : Par (x10_price N σ a1 a2) (fun _ σ' => Kh s0 σ') := by
  unfold x10_price
  refine par_if (fun _ => ?_) (fun _ => ?_)
  · exact par_some hU
  · refine par_if (fun _ => ?_) (fun _ => ?_)
    · exact par_some hU
    · refine par_if (fun _ => ?_) (fun _ => ?_)
      · exact par_some hU
      · refine par_if (fun _ => ?_) (fun _ => ?_)
        · refine par_bd (kh_x5_put hU (by decide)) (fun _ σ2 h1 => ?_)
          exact par_some (kh_I h1 (by decide))
        · exact par_some hU
theorem kh_x10_mended_56 {N : Nat} {s0 : St} {σ : St} (hU : Kh s0 σ) : Par (x10_mended_56 N σ) (fun _ σ' => Kh s0 σ') := by
  unfold x10_mended_56
  exact par_some hU
theorem kh_x10_mended {N : Nat} {s0 : St} {σ : St} {a1 : Int32} (hU : Kh s0 σ) : Par (x10_mended N σ a1) (fun _ σ' => Kh s0 σ') := by
  unfold x10_mended
  refine par_if (fun _ => ?_) (fun _ => ?_)
  · exact par_some hU
  · refine par_if (fun _ => ?_) (fun _ => ?_)
    · exact par_some hU
    · refine par_if (fun _ => ?_) (fun _ => ?_)
      · exact par_some hU
      · refine par_if (fun _ => ?_) (fun _ => ?_)
        · exact (kh_x10_mended_56 hU)
        · refine par_if (fun _ => ?_) (fun _ => ?_)
          · refine par_bd (kh_x5_at hU) (fun r1 σ2 h1 => ?_)
            exact par_some h1
          · exact (kh_x10_mended_56 hU)
