/-! what reading a text leaves of the class -/
def tI (g k : Nat) : Prop := (405 ≤ k ∧ k ≤ 409) ∨ (100 * g ≤ k ∧ k < 100 * g + 200)
def tA (g j : Nat) : Prop := j = 5 ∨ j = 6 ∨ (g + 2 ≤ j ∧ j ≤ g + 10)
/-- all as in s0, but the reader's own and the program g -/
def UA (g : Nat) (s0 σ : St) : Prop := gP σ 403 = g ∧ gP σ 404 = g + 1 ∧ (∀ k, ¬ tI g k → gI σ k = gI s0 k) ∧ (∀ j, ¬ tA g j → gA σ j = gA s0 j) ∧ (∀ k, k ≠ 403 → k ≠ 404 → gP σ k = gP s0 k)
/-- and without a fault there is no place of one -/
def UI (g : Nat) (s0 σ : St) : Prop := UA g s0 σ ∧ (gI σ 408 = 0 → gI σ 409 = -1) ∧ 30 ≤ g
theorem ua_I {g : Nat} {s0 σ : St} {k : Nat} {v : Int32} (h : UA g s0 σ) (hk : tI g k) : UA g s0 (sI σ k v) := ⟨h.1, h.2.1, fun j hj => (gI_ne (k := k) (j := j) (fun e => hj (by rw [← e]; exact hk))).trans (h.2.2.1 j hj), h.2.2.2.1, h.2.2.2.2⟩
theorem ui_I {g : Nat} {s0 σ : St} {k : Nat} {v : Int32} (h : UI g s0 σ) (hk : tI g k) (h8 : k ≠ 408) (h9 : k ≠ 409) : UI g s0 (sI σ k v) := ⟨ua_I h.1 hk, fun e => (gI_ne h9).trans (h.2.1 ((gI_ne h8).symm.trans e)), h.2.2⟩
theorem ui_A {g : Nat} {s0 σ : St} {j i : Nat} {v : Int32} (h : UI g s0 σ) (hk : tA g j) : UI g s0 (sA σ j i v) := ⟨⟨h.1.1, h.1.2.1, h.1.2.2.1, fun q hq => by rw [gA_sA, if_neg (fun e => hq (by rw [e]; exact hk))]; exact h.1.2.2.2.1 q hq, h.1.2.2.2.2⟩, h.2⟩

theorem ui_x0_set {N g : Nat} {s0 : St} {σ : St} {a0 : Nat} {a1 : Int32} {a2 : Int32} {a3 : Int32} (hU : UI g s0 σ) (h_a0 : a0 = g + 1) : Par (x0_set N σ a0 a1 a2 a3) (fun _ σ' => UI g s0 σ') := by
  unfold x0_set
  refine par_if (fun _ => ?_) (fun _ => ?_)
  · exact par_some hU
  · refine par_gd (fun _ => ?_)
    refine par_if (fun _ => ?_) (fun _ => ?_)
    · exact par_some hU
    · refine par_if (fun _ => ?_) (fun _ => ?_)
      · exact par_some hU
      · refine par_if (fun _ => ?_) (fun _ => ?_)
        · exact par_some hU
        · refine par_gd (fun _ => ?_)
          exact par_some (ui_A hU (by unfold tA; have b9 := hU.2.2; omega))

theorem ui_x0_add_52 {N g : Nat} {s0 : St} {σ : St} {x0 : Nat} {x1 : Int32} {x2 : Int32} {x3 : Int32} (hU : UI g s0 σ) (h_x0 : x0 = g + 1) : Par (x0_add_52 N σ x0 x1 x2 x3) (fun _ σ' => UI g s0 σ') := by
  unfold x0_add_52
  refine par_gd (fun _ => ?_)
  refine par_bd (ui_x0_set hU h_x0) (fun _ σ4 h1 => ?_)
  refine par_bd (ui_x0_set h1 h_x0) (fun _ σ6 h2 => ?_)
  exact par_some h2

theorem ui_x0_add_31_b {N g : Nat} {s0 : St} {rec31 : St → Nat → Int32 → Int32 → Int32 → Int32 → Option (Int32 × St)} {σ : St} {x0 : Nat} {x1 : Int32} {x2 : Int32} {x3 : Int32} {x4 : Int32} (hU : UI g s0 σ) (h_x0 : x0 = g + 1) (hr : ∀ (z0 : St) (z1 : Nat) (z2 : Int32) (z3 : Int32) (z4 : Int32) (z5 : Int32), UI g s0 z0 → z1 = g + 1 → Par (rec31 z0 z1 z2 z3 z4 z5) (fun _ σ' => UI g s0 σ')) : Par (x0_add_31_b N rec31 σ x0 x1 x2 x3 x4) (fun _ σ' => UI g s0 σ') := by
  unfold x0_add_31_b
  refine par_if (fun _ => ?_) (fun _ => ?_)
  · exact (ui_x0_add_52 hU h_x0)
  · refine par_gd (fun _ => ?_)
    refine par_bd (ui_x0_set hU h_x0) (fun _ σ9 h1 => ?_)
    exact (hr _ _ _ _ _ _ h1 h_x0)

theorem ui_x0_add_31 {N g : Nat} {s0 : St} : ∀ (n : Nat) (σ : St) (x0 : Nat) (x1 : Int32) (x2 : Int32) (x3 : Int32) (x4 : Int32), UI g s0 σ → x0 = g + 1 → Par (x0_add_31 N n σ x0 x1 x2 x3 x4) (fun _ σ' => UI g s0 σ') := by
  intro n
  induction n with
  | zero => intro σ x0 x1 x2 x3 x4 hU _ r σ' e; cases e
  | succ n ih =>
    intro σ x0 x1 x2 x3 x4 hU e0
    exact ui_x0_add_31_b hU e0 (fun z0 z1 z2 z3 z4 z5 hU2 y0 => ih z0 z1 z2 z3 z4 z5 hU2 y0)

theorem ui_x0_add {N g : Nat} {s0 : St} {σ : St} {a0 : Nat} {a1 : Int32} {a2 : Int32} (hU : UI g s0 σ) (h_a0 : a0 = g + 1) : Par (x0_add N σ a0 a1 a2) (fun _ σ' => UI g s0 σ') := by
  unfold x0_add
  refine par_gd (fun _ => ?_)
  refine par_if (fun _ => ?_) (fun _ => ?_)
  · exact par_some hU
  · refine par_if (fun _ => ?_) (fun _ => ?_)
    · exact (ui_x0_add_31 N _ _ _ _ _ _ (ui_I hU (by unfold tI; have b9 := hU.2.2; omega) (by have b9 := hU.2.2; omega) (by have b9 := hU.2.2; omega)) h_a0)
    · exact par_some hU

theorem ui_x0_get {N g : Nat} {s0 : St} {σ : St} {a0 : Nat} {a1 : Int32} {a2 : Int32} (hU : UI g s0 σ) (h_a0 : a0 = g + 1) : Par (x0_get N σ a0 a1 a2) (fun _ σ' => UI g s0 σ') := by
  unfold x0_get
  refine par_if (fun _ => ?_) (fun _ => ?_)
  · exact par_some hU
  · refine par_gd (fun _ => ?_)
    refine par_if (fun _ => ?_) (fun _ => ?_)
    · exact par_some hU
    · refine par_if (fun _ => ?_) (fun _ => ?_)
      · exact par_some hU
      · refine par_if (fun _ => ?_) (fun _ => ?_)
        · exact par_some hU
        · refine par_gd (fun _ => ?_)
          exact par_some hU

theorem ui_x0_addArgument {N g : Nat} {s0 : St} {σ : St} {a0 : Nat} {a1 : Int32} {a2 : Int32} (hU : UI g s0 σ) (h_a0 : a0 = g + 1) : Par (x0_addArgument N σ a0 a1 a2) (fun _ σ' => UI g s0 σ') := by
  unfold x0_addArgument
  refine par_gd (fun _ => ?_)
  refine par_bd (ui_x0_get hU h_a0) (fun r2 σ3 h1 => ?_)
  refine par_bd (ui_x0_set h1 h_a0) (fun _ σ5 h2 => ?_)
  exact par_some h2

theorem ui_x0_arguments {N g : Nat} {s0 : St} {σ : St} {a0 : Nat} {a1 : Int32} (hU : UI g s0 σ) (h_a0 : a0 = g + 1) : Par (x0_arguments N σ a0 a1) (fun _ σ' => UI g s0 σ') := by
  unfold x0_arguments
  refine par_gd (fun _ => ?_)
  refine par_bd (ui_x0_get hU h_a0) (fun r2 σ3 h1 => ?_)
  exact par_some h1

theorem ui_x3_has {N g : Nat} {s0 : St} {σ : St} {a0 : Nat} {a1 : Int32} (hU : UI g s0 σ) (h_a0 : a0 = g) : Par (x3_has N σ a0 a1) (fun _ σ' => UI g s0 σ') := by
  unfold x3_has
  refine par_if (fun _ => ?_) (fun _ => ?_)
  · exact par_some hU
  · refine par_if (fun _ => ?_) (fun _ => ?_)
    · exact par_some hU
    · refine par_gd (fun _ => ?_)
      refine par_if (fun _ => ?_) (fun _ => ?_)
      · exact par_some hU
      · exact par_some hU

theorem ui_x5_at {N g : Nat} {s0 : St} {σ : St} {a1 : Nat} {a2 : Int32} (hU : UI g s0 σ) : Par (x5_at N σ a1 a2) (fun _ σ' => UI g s0 σ') := by
  unfold x5_at
  refine par_if (fun _ => ?_) (fun _ => ?_)
  · exact par_some hU
  · refine par_gd (fun _ => ?_)
    refine par_if (fun _ => ?_) (fun _ => ?_)
    · exact par_some hU
    · refine par_gd (fun _ => ?_)
      exact par_some hU

theorem ui_x3_parameter {N g : Nat} {s0 : St} {σ : St} {a0 : Nat} {a1 : Int32} {a2 : Int32} (hU : UI g s0 σ) (h_a0 : a0 = g) : Par (x3_parameter N σ a0 a1 a2) (fun _ σ' => UI g s0 σ') := by
  unfold x3_parameter
  refine par_gd (fun _ => ?_)
  refine par_bd (ui_x5_at hU) (fun r2 σ3 h1 => ?_)
  exact par_some h1

theorem ui_x5_put {N g : Nat} {s0 : St} {σ : St} {a1 : Nat} {a2 : Int32} {a3 : Int32} (hU : UI g s0 σ) (hj : tA g a1) : Par (x5_put N σ a1 a2 a3) (fun _ σ' => UI g s0 σ') := by
  unfold x5_put
  exact par_if (fun _ => par_some hU) (fun _ => par_gd (fun _ => par_if (fun _ => par_some hU) (fun _ => par_gd (fun _ => par_some (ui_A hU hj)))))

theorem ui_x3_addRoutine_12 {N g : Nat} {s0 : St} {σ : St} {x0 : Nat} {x1 : Int32} (hU : UI g s0 σ) (h_x0 : x0 = g) : Par (x3_addRoutine_12 N σ x0 x1) (fun _ σ' => UI g s0 σ') := by
  unfold x3_addRoutine_12
  refine par_gd (fun _ => ?_)
  refine par_bd (ui_x5_put (ui_I (ui_I hU (by unfold tI; have b9 := hU.2.2; omega) (by have b9 := hU.2.2; omega) (by have b9 := hU.2.2; omega)) (by unfold tI; have b9 := hU.2.2; omega) (by have b9 := hU.2.2; omega) (by have b9 := hU.2.2; omega)) (by unfold tA; have b9 := hU.2.2; omega)) (fun _ σ4 h1 => ?_)
  refine par_bd (ui_x5_put h1 (by unfold tA; have b9 := hU.2.2; omega)) (fun _ σ6 h2 => ?_)
  exact par_some h2

theorem ui_x3_addRoutine {N g : Nat} {s0 : St} {σ : St} {a0 : Nat} {a1 : Int32} (hU : UI g s0 σ) (h_a0 : a0 = g) : Par (x3_addRoutine N σ a0 a1) (fun _ σ' => UI g s0 σ') := by
  unfold x3_addRoutine
  refine par_gd (fun _ => ?_)
  refine par_if (fun _ => ?_) (fun _ => ?_)
  · exact (ui_x3_addRoutine_12 (ui_I hU (by unfold tI; have b9 := hU.2.2; omega) (by have b9 := hU.2.2; omega) (by have b9 := hU.2.2; omega)) h_a0)
  · exact (ui_x3_addRoutine_12 hU h_a0)

theorem ui_x3_addParameter {N g : Nat} {s0 : St} {σ : St} {a0 : Nat} {a1 : Int32} {a2 : Int32} (hU : UI g s0 σ) (h_a0 : a0 = g) : Par (x3_addParameter N σ a0 a1 a2) (fun _ σ' => UI g s0 σ') := by
  unfold x3_addParameter
  refine par_gd (fun _ => ?_)
  refine par_bd (ui_x5_at hU) (fun r2 σ3 h1 => ?_)
  refine par_bd (ui_x5_put h1 (by unfold tA; have b9 := hU.2.2; omega)) (fun _ σ5 h2 => ?_)
  refine par_bd (ui_x5_put h2 (by unfold tA; have b9 := hU.2.2; omega)) (fun _ σ7 h3 => ?_)
  exact par_some h3

theorem ui_x3_hasParameter_2_b {N g : Nat} {s0 : St} {rec2 : St → Nat → Int32 → Int32 → Int32 → Option (Int32 × St)} {σ : St} {x0 : Nat} {x1 : Int32} {x2 : Int32} {x3 : Int32} (hU : UI g s0 σ) (h_x0 : x0 = g) (hr : ∀ (z0 : St) (z1 : Nat) (z2 : Int32) (z3 : Int32) (z4 : Int32), UI g s0 z0 → z1 = g → Par (rec2 z0 z1 z2 z3 z4) (fun _ σ' => UI g s0 σ')) : Par (x3_hasParameter_2_b N rec2 σ x0 x1 x2 x3) (fun _ σ' => UI g s0 σ') := by
  unfold x3_hasParameter_2_b
  refine par_gd (fun _ => ?_)
  refine par_bd (ui_x5_at hU) (fun r2 σ3 h1 => ?_)
  refine par_if (fun _ => ?_) (fun _ => ?_)
  · exact par_some h1
  · refine par_if (fun _ => ?_) (fun _ => ?_)
    · exact par_some h1
    · refine par_bd (ui_x3_parameter h1 h_x0) (fun r4 σ5 h2 => ?_)
      refine par_if (fun _ => ?_) (fun _ => ?_)
      · exact par_some h2
      · exact (hr _ _ _ _ _ h2 h_x0)

theorem ui_x3_hasParameter_2 {N g : Nat} {s0 : St} : ∀ (n : Nat) (σ : St) (x0 : Nat) (x1 : Int32) (x2 : Int32) (x3 : Int32), UI g s0 σ → x0 = g → Par (x3_hasParameter_2 N n σ x0 x1 x2 x3) (fun _ σ' => UI g s0 σ') := by
  intro n
  induction n with
  | zero => intro σ x0 x1 x2 x3 hU _ r σ' e; cases e
  | succ n ih =>
    intro σ x0 x1 x2 x3 hU e0
    exact ui_x3_hasParameter_2_b hU e0 (fun z0 z1 z2 z3 z4 hU2 y0 => ih z0 z1 z2 z3 z4 hU2 y0)

theorem ui_x3_hasParameter {N g : Nat} {s0 : St} {σ : St} {a0 : Nat} {a1 : Int32} {a2 : Int32} (hU : UI g s0 σ) (h_a0 : a0 = g) : Par (x3_hasParameter N σ a0 a1 a2) (fun _ σ' => UI g s0 σ') := by
  unfold x3_hasParameter
  exact (ui_x3_hasParameter_2 N _ _ _ _ _ hU h_a0)

theorem ui_x3_addUse {N g : Nat} {s0 : St} {σ : St} {a0 : Nat} {a1 : Int32} {a2 : Int32} {a3 : Int32} (hU : UI g s0 σ) (h_a0 : a0 = g) : Par (x3_addUse N σ a0 a1 a2 a3) (fun _ σ' => UI g s0 σ') := by
  unfold x3_addUse
  refine par_gd (fun _ => ?_)
  refine par_if (fun _ => ?_) (fun _ => ?_)
  · exact par_some hU
  · refine par_if (fun _ => ?_) (fun _ => ?_)
    · refine par_gd (fun _ => ?_)
      refine par_gd (fun _ => ?_)
      refine par_gd (fun _ => ?_)
      exact par_some (ui_I (ui_A (ui_A (ui_A hU (by unfold tA; have b9 := hU.2.2; omega)) (by unfold tA; have b9 := hU.2.2; omega)) (by unfold tA; have b9 := hU.2.2; omega)) (by unfold tI; have b9 := hU.2.2; omega) (by have b9 := hU.2.2; omega) (by have b9 := hU.2.2; omega))
    · exact par_some hU

theorem ui_x3_addTest {N g : Nat} {s0 : St} {σ : St} {a0 : Nat} {a1 : Int32} {a2 : Int32} (hU : UI g s0 σ) (h_a0 : a0 = g) : Par (x3_addTest N σ a0 a1 a2) (fun _ σ' => UI g s0 σ') := by
  unfold x3_addTest
  refine par_gd (fun _ => ?_)
  refine par_if (fun _ => ?_) (fun _ => ?_)
  · exact par_some hU
  · refine par_if (fun _ => ?_) (fun _ => ?_)
    · refine par_gd (fun _ => ?_)
      refine par_gd (fun _ => ?_)
      exact par_some (ui_I (ui_A (ui_A hU (by unfold tA; have b9 := hU.2.2; omega)) (by unfold tA; have b9 := hU.2.2; omega)) (by unfold tI; have b9 := hU.2.2; omega) (by have b9 := hU.2.2; omega) (by have b9 := hU.2.2; omega))
    · exact par_some hU

theorem ui_x8_kindAt {N g : Nat} {s0 : St} {σ : St} {a1 : Int32} (hU : UI g s0 σ) : Par (x8_kindAt N σ a1) (fun _ σ' => UI g s0 σ') := by
  unfold x8_kindAt
  refine par_if (fun _ => ?_) (fun _ => ?_)
  · exact par_some hU
  · refine par_if (fun _ => ?_) (fun _ => ?_)
    · exact par_some hU
    · refine par_if (fun _ => ?_) (fun _ => ?_)
      · exact par_some hU
      · refine par_gd (fun _ => ?_)
        exact par_some hU

theorem ui_x4_seen {N g : Nat} {s0 : St} {σ : St} {a1 : Int32} (hU : UI g s0 σ) : Par (x4_seen N σ a1) (fun _ σ' => UI g s0 σ') := by
  unfold x4_seen
  refine par_bd (ui_x8_kindAt hU) (fun r1 σ2 h1 => ?_)
  refine par_if (fun _ => ?_) (fun _ => ?_)
  · exact par_some h1
  · exact par_some h1

theorem ui_x8_placeAt {N g : Nat} {s0 : St} {σ : St} {a1 : Int32} (hU : UI g s0 σ) : Par (x8_placeAt N σ a1) (fun _ σ' => UI g s0 σ') := by
  unfold x8_placeAt
  refine par_if (fun _ => ?_) (fun _ => ?_)
  · exact par_some hU
  · refine par_if (fun _ => ?_) (fun _ => ?_)
    · exact par_some hU
    · refine par_if (fun _ => ?_) (fun _ => ?_)
      · exact par_some hU
      · refine par_gd (fun _ => ?_)
        exact par_some hU

theorem ui_x4_refuse {N g : Nat} {s0 : St} {σ : St} {a1 : Int32} {a2 : Int32} (hU : UI g s0 σ) (h1 : ¬ a1 = 0) : Par (x4_refuse N σ a1 a2) (fun _ σ' => UI g s0 σ') := by
  unfold x4_refuse
  exact par_some ⟨ua_I (ua_I hU.1 (by unfold tI; omega)) (by unfold tI; omega), fun e => absurd (((gI_ne (by decide)).trans gI_eq).symm.trans e) h1, hU.2.2⟩

theorem ui_x4_take {N g : Nat} {s0 : St} {σ : St} {a1 : Int32} (hU : UI g s0 σ) : Par (x4_take N σ a1) (fun _ σ' => UI g s0 σ') := by
  unfold x4_take
  refine par_bd (ui_x8_kindAt hU) (fun r1 σ2 h1 => ?_)
  refine par_if (fun _ => ?_) (fun _ => ?_)
  · exact par_some (ui_I h1 (by unfold tI; have b9 := hU.2.2; omega) (by have b9 := hU.2.2; omega) (by have b9 := hU.2.2; omega))
  · refine par_bd (ui_x8_placeAt h1) (fun r3 σ4 h2 => ?_)
    refine par_bd (ui_x4_refuse h2 (by decide)) (fun r5 σ6 h3 => ?_)
    refine par_gd (fun _ => ?_)
    exact par_some h3

theorem ui_x8_letterAt {N g : Nat} {s0 : St} {σ : St} {a1 : Int32} (hU : UI g s0 σ) : Par (x8_letterAt N σ a1) (fun _ σ' => UI g s0 σ') := by
  unfold x8_letterAt
  refine par_if (fun _ => ?_) (fun _ => ?_)
  · exact par_some hU
  · refine par_if (fun _ => ?_) (fun _ => ?_)
    · exact par_some hU
    · refine par_if (fun _ => ?_) (fun _ => ?_)
      · exact par_some hU
      · refine par_gd (fun _ => ?_)
        exact par_some hU

theorem ui_x4_readParameters_133 {N g : Nat} {s0 : St} {σ : St} (hU : UI g s0 σ) : Par (x4_readParameters_133 N σ) (fun _ σ' => UI g s0 σ') := by
  unfold x4_readParameters_133
  refine par_bd (ui_x4_take hU) (fun r3 σ4 h1 => ?_)
  refine par_gd (fun _ => ?_)
  exact par_some h1

theorem ui_x4_readParameters_114 {N g : Nat} {s0 : St} {σ : St} (hU : UI g s0 σ) : Par (x4_readParameters_114 N σ) (fun _ σ' => UI g s0 σ') := by
  unfold x4_readParameters_114
  exact (ui_x4_readParameters_133 hU)

theorem ui_x4_readParameters_79 {N g : Nat} {s0 : St} {σ : St} {x2 : Int32} (hU : UI g s0 σ) : Par (x4_readParameters_79 N σ x2) (fun _ σ' => UI g s0 σ') := by
  unfold x4_readParameters_79
  refine par_bd (ui_x8_placeAt hU) (fun r17 σ18 h1 => ?_)
  refine par_bd (ui_x4_refuse h1 (by decide)) (fun r19 σ20 h2 => ?_)
  refine par_gd (fun _ => ?_)
  exact par_some h2

theorem ui_x4_readParameters_50 {N g : Nat} {s0 : St} {σ : St} {x2 : Int32} (hU : UI g s0 σ) : Par (x4_readParameters_50 N σ x2) (fun _ σ' => UI g s0 σ') := by
  unfold x4_readParameters_50
  refine par_bd (ui_x8_placeAt hU) (fun r21 σ22 h1 => ?_)
  refine par_bd (ui_x4_refuse h1 (by decide)) (fun r23 σ24 h2 => ?_)
  refine par_gd (fun _ => ?_)
  exact par_some h2

theorem ui_x4_readParameters_16_b {N g : Nat} {s0 : St} {rec16 : St → Int32 → Option (Int32 × St)} {σ : St} {x1 : Int32} (hU : UI g s0 σ) (hr : ∀ (z0 : St) (z1 : Int32), UI g s0 z0 → Par (rec16 z0 z1) (fun _ σ' => UI g s0 σ')) : Par (x4_readParameters_16_b N rec16 σ x1) (fun _ σ' => UI g s0 σ') := by
  unfold x4_readParameters_16_b
  refine par_if (fun _ => ?_) (fun _ => ?_)
  · exact (ui_x4_readParameters_133 hU)
  · refine par_bd (ui_x4_take hU) (fun r5 σ6 h1 => ?_)
    refine par_if (fun _ => ?_) (fun _ => ?_)
    · exact par_some h1
    · refine par_bd (ui_x8_letterAt h1) (fun r7 σ8 h2 => ?_)
      refine par_if (fun _ => ?_) (fun _ => ?_)
      · exact (ui_x4_readParameters_50 h2)
      · refine par_gd (fun _ => ?_)
        refine par_bd (ui_x3_hasParameter h2 h2.1.1) (fun r10 σ11 h3 => ?_)
        refine par_if (fun _ => ?_) (fun _ => ?_)
        · refine par_gd (fun _ => ?_)
          refine par_bd (ui_x3_addParameter h3 h3.1.1) (fun _ σ14 h4 => ?_)
          refine par_bd (ui_x4_seen h4) (fun r15 σ16 h5 => ?_)
          refine par_if (fun _ => ?_) (fun _ => ?_)
          · exact (ui_x4_readParameters_114 h5)
          · exact (hr _ _ (ui_I h5 (by unfold tI; have b9 := hU.2.2; omega) (by have b9 := hU.2.2; omega) (by have b9 := hU.2.2; omega)))
        · exact (ui_x4_readParameters_79 h3)

theorem ui_x4_readParameters_16 {N g : Nat} {s0 : St} : ∀ (n : Nat) (σ : St) (x1 : Int32), UI g s0 σ → Par (x4_readParameters_16 N n σ x1) (fun _ σ' => UI g s0 σ') := by
  intro n
  induction n with
  | zero => intro σ x1 hU  r σ' e; cases e
  | succ n ih =>
    intro σ x1 hU 
    exact ui_x4_readParameters_16_b hU (fun z0 z1 hU2  => ih z0 z1 hU2 )

theorem ui_x4_readParameters {N g : Nat} {s0 : St} {σ : St} (hU : UI g s0 σ) : Par (x4_readParameters N σ) (fun _ σ' => UI g s0 σ') := by
  unfold x4_readParameters
  refine par_bd (ui_x4_seen hU) (fun r1 σ2 h1 => ?_)
  refine par_if (fun _ => ?_) (fun _ => ?_)
  · exact (ui_x4_readParameters_16 N _ _ h1)
  · refine par_bd (ui_x4_take h1) (fun r25 σ26 h2 => ?_)
    refine par_gd (fun _ => ?_)
    exact par_some h2

theorem ui_x4_openBlock {N g : Nat} {s0 : St} {σ : St} {a1 : Int32} {a2 : Int32} (hU : UI g s0 σ) : Par (x4_openBlock N σ a1 a2) (fun _ σ' => UI g s0 σ') := by
  unfold x4_openBlock
  refine par_bd (ui_x4_take hU) (fun r1 σ2 h1 => ?_)
  refine par_if (fun _ => ?_) (fun _ => ?_)
  · exact par_some h1
  · refine par_if (fun _ => ?_) (fun _ => ?_)
    · refine par_bd (ui_x5_put h1 (by unfold tA; have b9 := hU.2.2; omega)) (fun _ σ4 h2 => ?_)
      refine par_bd (ui_x5_put h2 (by unfold tA; have b9 := hU.2.2; omega)) (fun _ σ6 h3 => ?_)
      exact par_some (ui_I h3 (by unfold tI; have b9 := hU.2.2; omega) (by have b9 := hU.2.2; omega) (by have b9 := hU.2.2; omega))
    · refine par_bd (ui_x8_placeAt h1) (fun r7 σ8 h4 => ?_)
      refine par_bd (ui_x4_refuse h4 (by decide)) (fun r9 σ10 h5 => ?_)
      refine par_gd (fun _ => ?_)
      exact par_some h5

theorem ui_x4_readHead {N g : Nat} {s0 : St} {σ : St} (hU : UI g s0 σ) : Par (x4_readHead N σ) (fun _ σ' => UI g s0 σ') := by
  unfold x4_readHead
  refine par_bd (ui_x4_take hU) (fun r1 σ2 h1 => ?_)
  refine par_if (fun _ => ?_) (fun _ => ?_)
  · exact par_some h1
  · refine par_bd (ui_x8_letterAt h1) (fun r3 σ4 h2 => ?_)
    refine par_gd (fun _ => ?_)
    refine par_bd (ui_x3_has (ui_I h2 (by unfold tI; have b9 := hU.2.2; omega) (by have b9 := hU.2.2; omega) (by have b9 := hU.2.2; omega)) h2.1.1) (fun r6 σ7 h3 => ?_)
    refine par_if (fun _ => ?_) (fun _ => ?_)
    · refine par_gd (fun _ => ?_)
      refine par_bd (ui_x3_addRoutine h3 h3.1.1) (fun _ σ10 h4 => ?_)
      refine par_bd (ui_x4_take h4) (fun r11 σ12 h5 => ?_)
      refine par_if (fun _ => ?_) (fun _ => ?_)
      · exact par_some h5
      · refine par_bd (ui_x4_readParameters h5) (fun r13 σ14 h6 => ?_)
        refine par_if (fun _ => ?_) (fun _ => ?_)
        · exact par_some h6
        · refine par_bd (ui_x4_openBlock h6) (fun r15 σ16 h7 => ?_)
          refine par_if (fun _ => ?_) (fun _ => ?_)
          · exact par_some h7
          · exact par_some h7
    · refine par_bd (ui_x8_placeAt h3) (fun r17 σ18 h8 => ?_)
      refine par_bd (ui_x4_refuse h8 (by decide)) (fun r19 σ20 h9 => ?_)
      refine par_gd (fun _ => ?_)
      exact par_some h9

theorem ui_x4_closeIf {N g : Nat} {s0 : St} {σ : St} {a1 : Int32} (hU : UI g s0 σ) : Par (x4_closeIf N σ a1) (fun _ σ' => UI g s0 σ') := by
  unfold x4_closeIf
  refine par_bd (ui_x4_seen hU) (fun r1 σ2 h1 => ?_)
  refine par_if (fun _ => ?_) (fun _ => ?_)
  · refine par_gd (fun _ => ?_)
    refine par_bd (ui_x0_set h1 h1.1.2.1) (fun _ σ5 h2 => ?_)
    exact par_some h2
  · refine par_gd (fun _ => ?_)
    refine par_bd (ui_x0_add (ui_I h1 (by unfold tI; have b9 := hU.2.2; omega) (by have b9 := hU.2.2; omega) (by have b9 := hU.2.2; omega)) h1.1.2.1) (fun r7 σ8 h3 => ?_)
    refine par_gd (fun _ => ?_)
    refine par_bd (ui_x0_set h3 h3.1.2.1) (fun _ σ11 h4 => ?_)
    refine par_bd (ui_x4_openBlock h4) (fun r12 σ13 h5 => ?_)
    exact par_some h5

theorem ui_x4_closeBlock {N g : Nat} {s0 : St} {σ : St} (hU : UI g s0 σ) : Par (x4_closeBlock N σ) (fun _ σ' => UI g s0 σ') := by
  unfold x4_closeBlock
  refine par_bd (ui_x5_at (ui_I (ui_I hU (by unfold tI; have b9 := hU.2.2; omega) (by have b9 := hU.2.2; omega) (by have b9 := hU.2.2; omega)) (by unfold tI; have b9 := hU.2.2; omega) (by have b9 := hU.2.2; omega) (by have b9 := hU.2.2; omega))) (fun r1 σ2 h1 => ?_)
  refine par_bd (ui_x5_at h1) (fun r3 σ4 h2 => ?_)
  refine par_if (fun _ => ?_) (fun _ => ?_)
  · refine par_gd (fun _ => ?_)
    refine par_bd (ui_x0_add h2 h2.1.2.1) (fun r7 σ8 h3 => ?_)
    exact par_some h3
  · refine par_if (fun _ => ?_) (fun _ => ?_)
    · refine par_bd (ui_x4_closeIf h2) (fun _ σ11 h4 => ?_)
      exact par_some h4
    · refine par_if (fun _ => ?_) (fun _ => ?_)
      · refine par_gd (fun _ => ?_)
        refine par_bd (ui_x0_set h2 h2.1.2.1) (fun _ σ15 h5 => ?_)
        exact par_some h5
      · refine par_if (fun _ => ?_) (fun _ => ?_)
        · refine par_gd (fun _ => ?_)
          refine par_bd (ui_x0_add h2 h2.1.2.1) (fun r18 σ19 h6 => ?_)
          refine par_bd (ui_x0_set h6 h2.1.2.1) (fun _ σ21 h7 => ?_)
          refine par_gd (fun _ => ?_)
          refine par_bd (ui_x0_set h7 h7.1.2.1) (fun _ σ24 h8 => ?_)
          exact par_some h8
        · refine par_gd (fun _ => ?_)
          refine par_bd (ui_x0_set h2 h2.1.2.1) (fun _ σ27 h9 => ?_)
          exact par_some h9

theorem ui_x4_readUse {N g : Nat} {s0 : St} {σ : St} {a1 : Int32} {a2 : Int32} {a3 : Int32} (hU : UI g s0 σ) : Par (x4_readUse N σ a1 a2 a3) (fun _ σ' => UI g s0 σ') := by
  unfold x4_readUse
  refine par_gd (fun _ => ?_)
  refine par_if (fun _ => ?_) (fun _ => ?_)
  · refine par_bd (ui_x8_placeAt hU) (fun r2 σ3 h1 => ?_)
    refine par_bd (ui_x8_letterAt h1) (fun r4 σ5 h2 => ?_)
    refine par_bd (ui_x3_addUse h2 hU.1.1) (fun r6 σ7 h3 => ?_)
    refine par_gd (fun _ => ?_)
    refine par_bd (ui_x0_set h3 hU.1.2.1) (fun _ σ10 h4 => ?_)
    exact par_some (ui_I h4 (by unfold tI; have b9 := hU.2.2; omega) (by have b9 := hU.2.2; omega) (by have b9 := hU.2.2; omega))
  · refine par_bd (ui_x8_placeAt hU) (fun r11 σ12 h5 => ?_)
    refine par_bd (ui_x4_refuse h5 (by decide)) (fun r13 σ14 h6 => ?_)
    refine par_gd (fun _ => ?_)
    exact par_some h6

theorem ui_x4_readField_39 {N g : Nat} {s0 : St} {σ : St} (hU : UI g s0 σ) : Par (x4_readField_39 N σ) (fun _ σ' => UI g s0 σ') := by
  unfold x4_readField_39
  refine par_bd (ui_x8_placeAt hU) (fun r5 σ6 h1 => ?_)
  refine par_bd (ui_x4_refuse h1 (by decide)) (fun r7 σ8 h2 => ?_)
  refine par_gd (fun _ => ?_)
  exact par_some h2

theorem ui_x4_readField_56 {N g : Nat} {s0 : St} {σ : St} {x1 : Int32} {x2 : Int32} {x3 : Int32} (hU : UI g s0 σ) : Par (x4_readField_56 N σ x1 x2 x3) (fun _ σ' => UI g s0 σ') := by
  unfold x4_readField_56
  refine par_gd (fun _ => ?_)
  refine par_bd (ui_x0_set hU hU.1.2.1) (fun _ σ11 h1 => ?_)
  exact par_some (ui_I h1 (by unfold tI; have b9 := hU.2.2; omega) (by have b9 := hU.2.2; omega) (by have b9 := hU.2.2; omega))

theorem ui_x4_readField {N g : Nat} {s0 : St} {σ : St} {a1 : Int32} {a2 : Int32} (hU : UI g s0 σ) : Par (x4_readField N σ a1 a2) (fun _ σ' => UI g s0 σ') := by
  unfold x4_readField
  refine par_bd (ui_x8_letterAt hU) (fun r1 σ2 h1 => ?_)
  refine par_bd (ui_x8_kindAt h1) (fun r3 σ4 h2 => ?_)
  refine par_if (fun _ => ?_) (fun _ => ?_)
  · refine par_if (fun _ => ?_) (fun _ => ?_)
    · exact (ui_x4_readField_56 h2)
    · refine par_if (fun _ => ?_) (fun _ => ?_)
      · exact (ui_x4_readField_56 h2)
      · exact (ui_x4_readField_39 h2)
  · exact (ui_x4_readField_39 h2)

theorem ui_x4_readName {N g : Nat} {s0 : St} {σ : St} {a1 : Int32} {a2 : Int32} (hU : UI g s0 σ) : Par (x4_readName N σ a1 a2) (fun _ σ' => UI g s0 σ') := by
  unfold x4_readName
  refine par_bd (ui_x8_letterAt hU) (fun r1 σ2 h1 => ?_)
  refine par_gd (fun _ => ?_)
  refine par_bd (ui_x0_set h1 hU.1.2.1) (fun _ σ5 h2 => ?_)
  refine par_bd (ui_x4_take h2) (fun r6 σ7 h3 => ?_)
  refine par_gd (fun _ => ?_)
  exact par_some h3

theorem ui_x4_readNameOrField {N g : Nat} {s0 : St} {σ : St} {a1 : Int32} (hU : UI g s0 σ) : Par (x4_readNameOrField N σ a1) (fun _ σ' => UI g s0 σ') := by
  unfold x4_readNameOrField
  refine par_bd (ui_x8_letterAt hU) (fun r1 σ2 h1 => ?_)
  refine par_gd (fun _ => ?_)
  refine par_bd (ui_x0_set h1 hU.1.2.1) (fun _ σ5 h2 => ?_)
  refine par_bd (ui_x4_seen (ui_I h2 (by unfold tI; have b9 := hU.2.2; omega) (by have b9 := hU.2.2; omega) (by have b9 := hU.2.2; omega))) (fun r6 σ7 h3 => ?_)
  refine par_if (fun _ => ?_) (fun _ => ?_)
  · refine par_gd (fun _ => ?_)
    refine par_bd (ui_x0_set h3 h3.1.2.1) (fun _ σ17 h4 => ?_)
    exact par_some h4
  · refine par_gd (fun _ => ?_)
    refine par_bd (ui_x0_set h3 h3.1.2.1) (fun _ σ10 h5 => ?_)
    refine par_bd (ui_x4_readUse h5) (fun r11 σ12 h6 => ?_)
    refine par_if (fun _ => ?_) (fun _ => ?_)
    · exact par_some h6
    · refine par_bd (ui_x4_readField h6) (fun r13 σ14 h7 => ?_)
      refine par_if (fun _ => ?_) (fun _ => ?_)
      · exact par_some h7
      · exact par_some h7

theorem ui_x4_readCall_171 {N g : Nat} {s0 : St} {σ : St} (hU : UI g s0 σ) : Par (x4_readCall_171 N σ) (fun _ σ' => UI g s0 σ') := by
  unfold x4_readCall_171
  refine par_bd (ui_x4_take hU) (fun r18 σ19 h1 => ?_)
  refine par_gd (fun _ => ?_)
  exact par_some h1

theorem ui_x4_readCall_152 {N g : Nat} {s0 : St} {σ : St} (hU : UI g s0 σ) : Par (x4_readCall_152 N σ) (fun _ σ' => UI g s0 σ') := by
  unfold x4_readCall_152
  exact (ui_x4_readCall_171 hU)

theorem ui_x4_readCall_113 {N g : Nat} {s0 : St} {σ : St} {x3 : Int32} (hU : UI g s0 σ) : Par (x4_readCall_113 N σ x3) (fun _ σ' => UI g s0 σ') := by
  unfold x4_readCall_113
  refine par_bd (ui_x8_placeAt hU) (fun r29 σ30 h1 => ?_)
  refine par_bd (ui_x4_refuse h1 (by decide)) (fun r31 σ32 h2 => ?_)
  refine par_gd (fun _ => ?_)
  exact par_some h2

theorem ui_x4_readCall_88_b {N g : Nat} {s0 : St} {rec88 : St → Int32 → Int32 → Option (Int32 × St)} {σ : St} {x1 : Int32} {x2 : Int32} (hU : UI g s0 σ) (hr : ∀ (z0 : St) (z1 : Int32) (z2 : Int32), UI g s0 z0 → Par (rec88 z0 z1 z2) (fun _ σ' => UI g s0 σ')) : Par (x4_readCall_88_b N rec88 σ x1 x2) (fun _ σ' => UI g s0 σ') := by
  unfold x4_readCall_88_b
  refine par_if (fun _ => ?_) (fun _ => ?_)
  · exact (ui_x4_readCall_171 hU)
  · refine par_bd (ui_x4_take hU) (fun r20 σ21 h1 => ?_)
    refine par_if (fun _ => ?_) (fun _ => ?_)
    · exact par_some h1
    · refine par_if (fun _ => ?_) (fun _ => ?_)
      · exact (ui_x4_readCall_113 h1)
      · refine par_bd (ui_x8_letterAt h1) (fun r22 σ23 h2 => ?_)
        refine par_gd (fun _ => ?_)
        refine par_bd (ui_x0_addArgument h2 h1.1.2.1) (fun _ σ26 h3 => ?_)
        refine par_bd (ui_x4_seen h3) (fun r27 σ28 h4 => ?_)
        refine par_if (fun _ => ?_) (fun _ => ?_)
        · exact (ui_x4_readCall_152 h4)
        · exact (hr _ _ _ (ui_I h4 (by unfold tI; have b9 := hU.2.2; omega) (by have b9 := hU.2.2; omega) (by have b9 := hU.2.2; omega)))

theorem ui_x4_readCall_88 {N g : Nat} {s0 : St} : ∀ (n : Nat) (σ : St) (x1 : Int32) (x2 : Int32), UI g s0 σ → Par (x4_readCall_88 N n σ x1 x2) (fun _ σ' => UI g s0 σ') := by
  intro n
  induction n with
  | zero => intro σ x1 x2 hU  r σ' e; cases e
  | succ n ih =>
    intro σ x1 x2 hU 
    exact ui_x4_readCall_88_b hU (fun z0 z1 z2 hU2  => ih z0 z1 z2 hU2 )

theorem ui_x4_readCall {N g : Nat} {s0 : St} {σ : St} {a1 : Int32} (hU : UI g s0 σ) : Par (x4_readCall N σ a1) (fun _ σ' => UI g s0 σ') := by
  unfold x4_readCall
  refine par_gd (fun _ => ?_)
  refine par_bd (ui_x0_set hU hU.1.2.1) (fun _ σ3 h1 => ?_)
  refine par_bd (ui_x8_letterAt h1) (fun r4 σ5 h2 => ?_)
  refine par_gd (fun _ => ?_)
  refine par_bd (ui_x0_set h2 h1.1.2.1) (fun _ σ8 h3 => ?_)
  refine par_bd (ui_x8_placeAt h3) (fun r9 σ10 h4 => ?_)
  refine par_gd (fun _ => ?_)
  refine par_bd (ui_x0_set h4 h3.1.2.1) (fun _ σ13 h5 => ?_)
  refine par_bd (ui_x4_take (ui_I h5 (by unfold tI; have b9 := hU.2.2; omega) (by have b9 := hU.2.2; omega) (by have b9 := hU.2.2; omega))) (fun r14 σ15 h6 => ?_)
  refine par_if (fun _ => ?_) (fun _ => ?_)
  · exact par_some h6
  · refine par_bd (ui_x4_seen h6) (fun r16 σ17 h7 => ?_)
    refine par_if (fun _ => ?_) (fun _ => ?_)
    · exact (ui_x4_readCall_88 N _ _ _ h7)
    · refine par_bd (ui_x4_take h7) (fun r33 σ34 h8 => ?_)
      refine par_gd (fun _ => ?_)
      exact par_some h8

theorem ui_x4_readValue {N g : Nat} {s0 : St} {σ : St} {a1 : Int32} (hU : UI g s0 σ) : Par (x4_readValue N σ a1) (fun _ σ' => UI g s0 σ') := by
  unfold x4_readValue
  refine par_bd (ui_x8_kindAt hU) (fun r1 σ2 h1 => ?_)
  refine par_if (fun _ => ?_) (fun _ => ?_)
  · refine par_bd (ui_x4_readNameOrField h1) (fun r4 σ5 h2 => ?_)
    refine par_gd (fun _ => ?_)
    exact par_some h2
  · refine par_if (fun _ => ?_) (fun _ => ?_)
    · refine par_bd (ui_x4_readCall h1) (fun r7 σ8 h3 => ?_)
      refine par_gd (fun _ => ?_)
      exact par_some h3
    · refine par_if (fun _ => ?_) (fun _ => ?_)
      · refine par_gd (fun _ => ?_)
        refine par_bd (ui_x0_set h1 h1.1.2.1) (fun _ σ12 h4 => ?_)
        exact par_some (ui_I h4 (by unfold tI; have b9 := hU.2.2; omega) (by have b9 := hU.2.2; omega) (by have b9 := hU.2.2; omega))
      · refine par_if (fun _ => ?_) (fun _ => ?_)
        · refine par_gd (fun _ => ?_)
          refine par_bd (ui_x0_set h1 h1.1.2.1) (fun _ σ16 h5 => ?_)
          refine par_bd (ui_x4_readName (ui_I h5 (by unfold tI; have b9 := hU.2.2; omega) (by have b9 := hU.2.2; omega) (by have b9 := hU.2.2; omega))) (fun r17 σ18 h6 => ?_)
          refine par_if (fun _ => ?_) (fun _ => ?_)
          · exact par_some h6
          · refine par_bd (ui_x4_readName h6) (fun r19 σ20 h7 => ?_)
            refine par_if (fun _ => ?_) (fun _ => ?_)
            · exact par_some h7
            · exact par_some h7
        · refine par_if (fun _ => ?_) (fun _ => ?_)
          · refine par_gd (fun _ => ?_)
            refine par_bd (ui_x0_set h1 h1.1.2.1) (fun _ σ24 h8 => ?_)
            exact par_some (ui_I h8 (by unfold tI; have b9 := hU.2.2; omega) (by have b9 := hU.2.2; omega) (by have b9 := hU.2.2; omega))
          · refine par_bd (ui_x8_placeAt h1) (fun r25 σ26 h9 => ?_)
            refine par_bd (ui_x4_refuse h9 (by decide)) (fun r27 σ28 h10 => ?_)
            refine par_gd (fun _ => ?_)
            exact par_some h10

theorem ui_x4_readPut_88 {N g : Nat} {s0 : St} {σ : St} {x2 : Int32} (hU : UI g s0 σ) : Par (x4_readPut_88 N σ x2) (fun _ σ' => UI g s0 σ') := by
  unfold x4_readPut_88
  refine par_bd (ui_x4_take hU) (fun r13 σ14 h1 => ?_)
  refine par_if (fun _ => ?_) (fun _ => ?_)
  · exact par_some h1
  · refine par_bd (ui_x4_readValue h1) (fun r15 σ16 h2 => ?_)
    refine par_if (fun _ => ?_) (fun _ => ?_)
    · exact par_some h2
    · refine par_bd (ui_x4_take h2) (fun r17 σ18 h3 => ?_)
      refine par_if (fun _ => ?_) (fun _ => ?_)
      · exact par_some h3
      · exact par_some h3

theorem ui_x4_readPut_33 {N g : Nat} {s0 : St} {σ : St} {x1 : Int32} {t0 : Nat} {t1 : Int32} (hU : UI g s0 σ) (h_t0 : t0 = g + 1) : Par (x4_readPut_33 N σ x1 t0 t1) (fun _ σ' => UI g s0 σ') := by
  unfold x4_readPut_33
  refine par_gd (fun _ => ?_)
  refine par_bd (ui_x0_add hU h_t0) (fun r4 σ5 h1 => ?_)
  refine par_bd (ui_x8_letterAt h1) (fun r6 σ7 h2 => ?_)
  refine par_gd (fun _ => ?_)
  refine par_bd (ui_x0_set h2 h1.1.2.1) (fun _ σ10 h3 => ?_)
  refine par_bd (ui_x4_seen h3) (fun r11 σ12 h4 => ?_)
  refine par_if (fun _ => ?_) (fun _ => ?_)
  · exact (ui_x4_readPut_88 h4)
  · refine par_bd (ui_x4_readUse h4) (fun r19 σ20 h5 => ?_)
    refine par_if (fun _ => ?_) (fun _ => ?_)
    · exact par_some h5
    · refine par_bd (ui_x4_readField h5) (fun r21 σ22 h6 => ?_)
      refine par_if (fun _ => ?_) (fun _ => ?_)
      · exact par_some h6
      · exact (ui_x4_readPut_88 h6)

theorem ui_x4_readPut {N g : Nat} {s0 : St} {σ : St} (hU : UI g s0 σ) : Par (x4_readPut N σ) (fun _ σ' => UI g s0 σ') := by
  unfold x4_readPut
  refine par_bd (ui_x4_seen (ui_I hU (by unfold tI; have b9 := hU.2.2; omega) (by have b9 := hU.2.2; omega) (by have b9 := hU.2.2; omega))) (fun r1 σ2 h1 => ?_)
  refine par_if (fun _ => ?_) (fun _ => ?_)
  · exact (ui_x4_readPut_33 h1 hU.1.2.1)
  · exact (ui_x4_readPut_33 h1 hU.1.2.1)

theorem ui_x4_readReturn {N g : Nat} {s0 : St} {σ : St} (hU : UI g s0 σ) : Par (x4_readReturn N σ) (fun _ σ' => UI g s0 σ') := by
  unfold x4_readReturn
  refine par_gd (fun _ => ?_)
  refine par_bd (ui_x0_add (ui_I hU (by unfold tI; have b9 := hU.2.2; omega) (by have b9 := hU.2.2; omega) (by have b9 := hU.2.2; omega)) hU.1.2.1) (fun r2 σ3 h1 => ?_)
  refine par_bd (ui_x4_seen h1) (fun r4 σ5 h2 => ?_)
  refine par_if (fun _ => ?_) (fun _ => ?_)
  · refine par_bd (ui_x4_readValue h2) (fun r6 σ7 h3 => ?_)
    refine par_if (fun _ => ?_) (fun _ => ?_)
    · exact par_some h3
    · refine par_bd (ui_x4_take h3) (fun r8 σ9 h4 => ?_)
      refine par_if (fun _ => ?_) (fun _ => ?_)
      · exact par_some h4
      · exact par_some h4
  · refine par_gd (fun _ => ?_)
    refine par_bd (ui_x0_set h2 h2.1.2.1) (fun _ σ12 h5 => ?_)
    exact par_some (ui_I h5 (by unfold tI; have b9 := hU.2.2; omega) (by have b9 := hU.2.2; omega) (by have b9 := hU.2.2; omega))

theorem ui_x4_readComparison_39 {N g : Nat} {s0 : St} {σ : St} {t1 : Int32} (hU : UI g s0 σ) : Par (x4_readComparison_39 N σ t1) (fun _ σ' => UI g s0 σ') := by
  unfold x4_readComparison_39
  refine par_bd (ui_x4_take hU) (fun r6 σ7 h1 => ?_)
  refine par_if (fun _ => ?_) (fun _ => ?_)
  · exact par_some h1
  · refine par_bd (ui_x4_take h1) (fun r8 σ9 h2 => ?_)
    refine par_if (fun _ => ?_) (fun _ => ?_)
    · exact par_some h2
    · exact par_some h2

theorem ui_x4_readComparison_24 {N g : Nat} {s0 : St} {σ : St} {x2 : Int32} {t0 : Nat} {t1 : Int32} {t2 : Int32} {t3 : Int32} (hU : UI g s0 σ) (h_t0 : t0 = g + 1) : Par (x4_readComparison_24 N σ x2 t0 t1 t2 t3) (fun _ σ' => UI g s0 σ') := by
  unfold x4_readComparison_24
  refine par_gd (fun _ => ?_)
  refine par_bd (ui_x0_set hU h_t0) (fun _ σ5 h1 => ?_)
  refine par_if (fun _ => ?_) (fun _ => ?_)
  · exact (ui_x4_readComparison_39 h1)
  · exact (ui_x4_readComparison_39 h1)

theorem ui_x4_readComparison {N g : Nat} {s0 : St} {σ : St} {a1 : Int32} (hU : UI g s0 σ) : Par (x4_readComparison N σ a1) (fun _ σ' => UI g s0 σ') := by
  unfold x4_readComparison
  refine par_bd (ui_x4_seen hU) (fun r1 σ2 h1 => ?_)
  refine par_if (fun _ => ?_) (fun _ => ?_)
  · exact (ui_x4_readComparison_24 h1 h1.1.2.1)
  · exact (ui_x4_readComparison_24 h1 h1.1.2.1)

theorem ui_x4_readBranch_158 {N g : Nat} {s0 : St} {σ : St} {x1 : Int32} {x4 : Int32} (hU : UI g s0 σ) : Par (x4_readBranch_158 N σ x1 x4) (fun _ σ' => UI g s0 σ') := by
  unfold x4_readBranch_158
  refine par_bd (ui_x4_openBlock hU) (fun r23 σ24 h1 => ?_)
  refine par_if (fun _ => ?_) (fun _ => ?_)
  · exact par_some h1
  · exact par_some h1

theorem ui_x4_readBranch_48 {N g : Nat} {s0 : St} {σ : St} {x1 : Int32} {x2 : Int32} {x3 : Int32} (hU : UI g s0 σ) : Par (x4_readBranch_48 N σ x1 x2 x3) (fun _ σ' => UI g s0 σ') := by
  unfold x4_readBranch_48
  refine par_gd (fun _ => ?_)
  refine par_if (fun _ => ?_) (fun _ => ?_)
  · refine par_gd (fun _ => ?_)
    refine par_bd (ui_x0_add hU hU.1.2.1) (fun r7 σ8 h1 => ?_)
    refine par_gd (fun _ => ?_)
    refine par_bd (ui_x3_addTest h1 h1.1.1) (fun r10 σ11 h2 => ?_)
    refine par_gd (fun _ => ?_)
    refine par_bd (ui_x0_set h2 h1.1.2.1) (fun _ σ14 h3 => ?_)
    refine par_gd (fun _ => ?_)
    refine par_bd (ui_x0_set h3 h3.1.2.1) (fun _ σ17 h4 => ?_)
    refine par_bd (ui_x8_letterAt h4) (fun r18 σ19 h5 => ?_)
    refine par_gd (fun _ => ?_)
    refine par_bd (ui_x0_set h5 h4.1.2.1) (fun _ σ22 h6 => ?_)
    refine par_if (fun _ => ?_) (fun _ => ?_)
    · refine par_bd (ui_x4_readComparison (ui_I h6 (by unfold tI; have b9 := hU.2.2; omega) (by have b9 := hU.2.2; omega) (by have b9 := hU.2.2; omega))) (fun r25 σ26 h7 => ?_)
      refine par_if (fun _ => ?_) (fun _ => ?_)
      · exact par_some h7
      · exact (ui_x4_readBranch_158 h7)
    · exact (ui_x4_readBranch_158 (ui_I h6 (by unfold tI; have b9 := hU.2.2; omega) (by have b9 := hU.2.2; omega) (by have b9 := hU.2.2; omega)))
  · refine par_bd (ui_x4_refuse hU (by decide)) (fun r27 σ28 h8 => ?_)
    refine par_gd (fun _ => ?_)
    exact par_some h8

theorem ui_x4_readBranch {N g : Nat} {s0 : St} {σ : St} {a1 : Int32} (hU : UI g s0 σ) : Par (x4_readBranch N σ a1) (fun _ σ' => UI g s0 σ') := by
  unfold x4_readBranch
  refine par_bd (ui_x4_seen (ui_I hU (by unfold tI; have b9 := hU.2.2; omega) (by have b9 := hU.2.2; omega) (by have b9 := hU.2.2; omega))) (fun r1 σ2 h1 => ?_)
  refine par_bd (ui_x8_placeAt h1) (fun r3 σ4 h2 => ?_)
  refine par_if (fun _ => ?_) (fun _ => ?_)
  · refine par_bd (ui_x4_seen h2) (fun r29 σ30 h3 => ?_)
    refine par_if (fun _ => ?_) (fun _ => ?_)
    · refine par_bd (ui_x4_refuse h3 (by decide)) (fun r31 σ32 h4 => ?_)
      refine par_gd (fun _ => ?_)
      exact par_some h4
    · exact (ui_x4_readBranch_48 h3)
  · exact (ui_x4_readBranch_48 h2)

theorem ui_x4_readStatement {N g : Nat} {s0 : St} {σ : St} (hU : UI g s0 σ) : Par (x4_readStatement N σ) (fun _ σ' => UI g s0 σ') := by
  unfold x4_readStatement
  refine par_bd (ui_x8_kindAt hU) (fun r1 σ2 h1 => ?_)
  refine par_if (fun _ => ?_) (fun _ => ?_)
  · refine par_bd (ui_x4_readPut h1) (fun r4 σ5 h2 => ?_)
    refine par_gd (fun _ => ?_)
    exact par_some h2
  · refine par_if (fun _ => ?_) (fun _ => ?_)
    · refine par_gd (fun _ => ?_)
      refine par_bd (ui_x0_add h1 h1.1.2.1) (fun r8 σ9 h3 => ?_)
      refine par_bd (ui_x4_readCall h3) (fun r10 σ11 h4 => ?_)
      refine par_if (fun _ => ?_) (fun _ => ?_)
      · exact par_some h4
      · refine par_bd (ui_x4_take h4) (fun r12 σ13 h5 => ?_)
        refine par_if (fun _ => ?_) (fun _ => ?_)
        · exact par_some h5
        · exact par_some h5
    · refine par_if (fun _ => ?_) (fun _ => ?_)
      · refine par_bd (ui_x4_readBranch h1) (fun r15 σ16 h6 => ?_)
        refine par_gd (fun _ => ?_)
        exact par_some h6
      · refine par_if (fun _ => ?_) (fun _ => ?_)
        · refine par_bd (ui_x4_readBranch h1) (fun r18 σ19 h7 => ?_)
          refine par_gd (fun _ => ?_)
          exact par_some h7
        · refine par_if (fun _ => ?_) (fun _ => ?_)
          · refine par_bd (ui_x4_readReturn h1) (fun r21 σ22 h8 => ?_)
            refine par_gd (fun _ => ?_)
            exact par_some h8
          · refine par_bd (ui_x8_placeAt h1) (fun r23 σ24 h9 => ?_)
            refine par_bd (ui_x4_refuse h9 (by decide)) (fun r25 σ26 h10 => ?_)
            refine par_gd (fun _ => ?_)
            exact par_some h10

theorem ui_x4_checkCalls_93 {N g : Nat} {s0 : St} {rec2 : St → Int32 → Option (Unit × St)} {σ : St} {x1 : Int32} (hU : UI g s0 σ) (hr : ∀ (z0 : St) (z1 : Int32), UI g s0 z0 → Par (rec2 z0 z1) (fun _ σ' => UI g s0 σ')) : Par (x4_checkCalls_93 N rec2 σ x1) (fun _ σ' => UI g s0 σ') := by
  unfold x4_checkCalls_93
  exact (hr _ _ hU)

theorem ui_x4_checkCalls_77 {N g : Nat} {s0 : St} {rec2 : St → Int32 → Option (Unit × St)} {σ : St} {x1 : Int32} (hU : UI g s0 σ) (hr : ∀ (z0 : St) (z1 : Int32), UI g s0 z0 → Par (rec2 z0 z1) (fun _ σ' => UI g s0 σ')) : Par (x4_checkCalls_77 N rec2 σ x1) (fun _ σ' => UI g s0 σ') := by
  unfold x4_checkCalls_77
  refine par_gd (fun _ => ?_)
  refine par_bd (ui_x0_get hU hU.1.2.1) (fun r11 σ12 h1 => ?_)
  refine par_bd (ui_x4_refuse h1 (by decide)) (fun r13 σ14 h2 => ?_)
  exact (ui_x4_checkCalls_93 h2 hr)

theorem ui_x4_checkCalls_2_b {N g : Nat} {s0 : St} {rec2 : St → Int32 → Option (Unit × St)} {σ : St} {x1 : Int32} (hU : UI g s0 σ) (hr : ∀ (z0 : St) (z1 : Int32), UI g s0 z0 → Par (rec2 z0 z1) (fun _ σ' => UI g s0 σ')) : Par (x4_checkCalls_2_b N rec2 σ x1) (fun _ σ' => UI g s0 σ') := by
  unfold x4_checkCalls_2_b
  refine par_gd (fun _ => ?_)
  refine par_if (fun _ => ?_) (fun _ => ?_)
  · exact par_some hU
  · refine par_if (fun _ => ?_) (fun _ => ?_)
    · refine par_bd (ui_x0_get hU hU.1.2.1) (fun r2 σ3 h1 => ?_)
      refine par_if (fun _ => ?_) (fun _ => ?_)
      · refine par_gd (fun _ => ?_)
        refine par_bd (ui_x0_get h1 h1.1.2.1) (fun r5 σ6 h2 => ?_)
        refine par_gd (fun _ => ?_)
        refine par_bd (ui_x3_has h2 h2.1.1) (fun r8 σ9 h3 => ?_)
        refine par_if (fun _ => ?_) (fun _ => ?_)
        · exact (ui_x4_checkCalls_77 h3 hr)
        · refine par_gd (fun _ => ?_)
          refine par_bd (ui_x5_at h3) (fun r16 σ17 h4 => ?_)
          refine par_gd (fun _ => ?_)
          refine par_bd (ui_x0_arguments h4 h4.1.2.1) (fun r19 σ20 h5 => ?_)
          refine par_if (fun _ => ?_) (fun _ => ?_)
          · exact (ui_x4_checkCalls_93 h5 hr)
          · exact (ui_x4_checkCalls_77 h5 hr)
      · exact (ui_x4_checkCalls_93 h1 hr)
    · exact par_some hU

theorem ui_x4_checkCalls_2 {N g : Nat} {s0 : St} : ∀ (n : Nat) (σ : St) (x1 : Int32), UI g s0 σ → Par (x4_checkCalls_2 N n σ x1) (fun _ σ' => UI g s0 σ') := by
  intro n
  induction n with
  | zero => intro σ x1 hU  r σ' e; cases e
  | succ n ih =>
    intro σ x1 hU 
    exact ui_x4_checkCalls_2_b hU (fun z0 z1 hU2  => ih z0 z1 hU2 )

theorem ui_x4_checkCalls {N g : Nat} {s0 : St} {σ : St} (hU : UI g s0 σ) : Par (x4_checkCalls N σ) (fun _ σ' => UI g s0 σ') := by
  unfold x4_checkCalls
  exact (ui_x4_checkCalls_2 N _ _ hU)

theorem ui_x4_readInto_110 {N g : Nat} {s0 : St} {σ : St} (hU : UI g s0 σ) : Par (x4_readInto_110 N σ) (fun _ σ' => UI g s0 σ') := by
  unfold x4_readInto_110
  refine par_if (fun _ => ?_) (fun _ => ?_)
  · refine par_bd (ui_x4_checkCalls hU) (fun _ σ5 h1 => ?_)
    exact par_some h1
  · exact par_some hU

theorem ui_x4_readInto_104 {N g : Nat} {s0 : St} {rec39 : St → Int32 → Option (Unit × St)} {σ : St} {x2 : Int32} (hU : UI g s0 σ) (hr : ∀ (z0 : St) (z1 : Int32), UI g s0 z0 → Par (rec39 z0 z1) (fun _ σ' => UI g s0 σ')) : Par (x4_readInto_104 N rec39 σ x2) (fun _ σ' => UI g s0 σ') := by
  unfold x4_readInto_104
  exact (hr _ _ hU)

theorem ui_x4_readInto_68 {N g : Nat} {s0 : St} {rec39 : St → Int32 → Option (Unit × St)} {σ : St} {x2 : Int32} (hU : UI g s0 σ) (hr : ∀ (z0 : St) (z1 : Int32), UI g s0 z0 → Par (rec39 z0 z1) (fun _ σ' => UI g s0 σ')) : Par (x4_readInto_68 N rec39 σ x2) (fun _ σ' => UI g s0 σ') := by
  unfold x4_readInto_68
  refine par_if (fun _ => ?_) (fun _ => ?_)
  · refine par_bd (ui_x4_readHead hU) (fun r12 σ13 h1 => ?_)
    exact (ui_x4_readInto_104 h1 hr)
  · refine par_bd (ui_x4_seen hU) (fun r6 σ7 h2 => ?_)
    refine par_if (fun _ => ?_) (fun _ => ?_)
    · refine par_bd (ui_x4_readStatement h2) (fun r8 σ9 h3 => ?_)
      exact (ui_x4_readInto_104 h3 hr)
    · refine par_bd (ui_x4_closeBlock h2) (fun _ σ11 h4 => ?_)
      exact (ui_x4_readInto_104 h4 hr)

theorem ui_x4_readInto_39_b {N g : Nat} {s0 : St} {rec39 : St → Int32 → Option (Unit × St)} {σ : St} {x2 : Int32} (hU : UI g s0 σ) (hr : ∀ (z0 : St) (z1 : Int32), UI g s0 z0 → Par (rec39 z0 z1) (fun _ σ' => UI g s0 σ')) : Par (x4_readInto_39_b N rec39 σ x2) (fun _ σ' => UI g s0 σ') := by
  unfold x4_readInto_39_b
  refine par_if (fun _ => ?_) (fun _ => ?_)
  · exact (ui_x4_readInto_110 hU)
  · refine par_if (fun _ => ?_) (fun _ => ?_)
    · refine par_if (fun _ => ?_) (fun _ => ?_)
      · exact (ui_x4_readInto_68 hU hr)
      · refine par_bd (ui_x4_seen hU) (fun r14 σ15 h1 => ?_)
        refine par_if (fun _ => ?_) (fun _ => ?_)
        · exact (ui_x4_readInto_68 h1 hr)
        · exact (ui_x4_readInto_110 h1)
    · exact (ui_x4_readInto_110 hU)

theorem ui_x4_readInto_39 {N g : Nat} {s0 : St} : ∀ (n : Nat) (σ : St) (x2 : Int32), UI g s0 σ → Par (x4_readInto_39 N n σ x2) (fun _ σ' => UI g s0 σ') := by
  intro n
  induction n with
  | zero => intro σ x2 hU  r σ' e; cases e
  | succ n ih =>
    intro σ x2 hU 
    exact ui_x4_readInto_39_b hU (fun z0 z1 hU2  => ih z0 z1 hU2 )

theorem ui_x4_readInto {N g : Nat} {σ : St} (hg : isPr g = true) : Par (x4_readInto N σ g) (fun _ σ' => UI g σ σ') := by
  have hgb := pr_or hg
  unfold x4_readInto x3_clear
  have hU : UA g σ (sP (sP σ 403 g) 404 (g + 1)) := ⟨rfl, rfl, fun _ _ => rfl, fun _ _ => rfl, fun k h1 h2 => by show (if k = 404 then _ else if k = 403 then _ else gP σ k) = _; rw [if_neg h2, if_neg h1]⟩
  refine par_gd (fun _ => ?_)
  rw [hg]
  show Par (x4_readInto_39 N N _ 0) _
  refine ui_x4_readInto_39 N _ _ ⟨ua_I (ua_I (ua_I (ua_I (ua_I (ua_I (ua_I (ua_I (ua_I (ua_I hU ?_) ?_) ?_) ?_) ?_) ?_) ?_) ?_) ?_) ?_, fun _ => gI_eq, by omega⟩ <;> (unfold tI; omega)
