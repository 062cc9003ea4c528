/-! the same of the reference -/
theorem km_m_routinesMany_26 {N : Nat} {s0 : St} {σ : St} {x2 : Int32} {t0 : Int32} {t1 : Int32} (hU : Km s0 σ) {rec4 : St → Int32 → Int32 → Option (Int32 × St)} (h_rec4 : ∀ (z0 : St) (z1 : Int32) (z2 : Int32), Km s0 z0 → Par (rec4 z0 z1 z2) (fun _ σ' => Km s0 σ')) : Par (m_routinesMany_26 N rec4 σ x2 t0 t1) (fun _ σ' => Km s0 σ') := by
  unfold m_routinesMany_26
  exact (h_rec4 _ _ _ hU)

theorem km_m_routinesMany_4_b {N : Nat} {s0 : St} {σ : St} {x1 : Int32} {x2 : Int32} (hU : Km s0 σ) {rec4 : St → Int32 → Int32 → Option (Int32 × St)} (h_rec4 : ∀ (z0 : St) (z1 : Int32) (z2 : Int32), Km s0 z0 → Par (rec4 z0 z1 z2) (fun _ σ' => Km s0 σ')) : Par (m_routinesMany_4_b N rec4 σ x1 x2) (fun _ σ' => Km s0 σ') := by
  unfold m_routinesMany_4_b
  refine par_if (fun _ => ?_) (fun _ => ?_)
  · exact par_some hU
  · refine par_gd (fun _ => ?_)
    refine par_if (fun _ => ?_) (fun _ => ?_)
    · exact (km_m_routinesMany_26 hU h_rec4)
    · exact (km_m_routinesMany_26 hU h_rec4)

theorem km_m_routinesMany_4 {N : Nat} {s0 : St} : ∀ (n : Nat) (σ : St) (x1 : Int32) (x2 : Int32), Km s0 σ → Par (m_routinesMany_4 N  n σ x1 x2) (fun _ σ' => Km s0 σ') := by
  intro n
  induction n with
  | zero => intro σ x1 x2 _ r σ' e; cases e
  | succ n ih =>
    intro σ x1 x2 hU
    exact km_m_routinesMany_4_b (N := N) hU (fun z0 z1 z2 hz => ih z0 z1 z2 hz)

theorem km_m_routinesMany {N : Nat} {s0 : St} {σ : St} (hU : Km s0 σ) : Par (m_routinesMany N σ) (fun _ σ' => Km s0 σ') := by
  unfold m_routinesMany
  exact (km_m_routinesMany_4  N _ _ _ hU)

theorem km_m_factOf {N : Nat} {s0 : St} {σ : St} {a1 : Int64} {a2 : Int32} (hU : Km s0 σ) : Par (m_factOf N σ a1 a2) (fun _ σ' => Km s0 σ') := by
  unfold m_factOf
  exact par_some hU

theorem km_m_with {N : Nat} {s0 : St} {σ : St} {a1 : Int64} {a2 : Int32} {a3 : Int32} (hU : Km s0 σ) : Par (m_with N σ a1 a2 a3) (fun _ σ' => Km s0 σ') := by
  unfold m_with
  exact par_some hU

theorem km_m_puts_16 {N : Nat} {s0 : St} {σ : St} {x1 : Int32} {t0 : Int32} (hU : Km s0 σ) : Par (m_puts_16 N σ x1 t0) (fun _ σ' => Km s0 σ') := by
  unfold m_puts_16
  refine par_gd (fun _ => ?_)
  refine par_gd (fun _ => ?_)
  refine par_if (fun _ => ?_) (fun _ => ?_)
  · exact par_some hU
  · refine par_gd (fun _ => ?_)
    refine par_gd (fun _ => ?_)
    exact par_some (km_I (km_A hU (by decide)) (by decide))

theorem km_m_puts {N : Nat} {s0 : St} {σ : St} {a1 : Int32} {a2 : Int32} (hU : Km s0 σ) : Par (m_puts N σ a1 a2) (fun _ σ' => Km s0 σ') := by
  unfold m_puts
  refine par_gd (fun _ => ?_)
  refine par_if (fun _ => ?_) (fun _ => ?_)
  · exact (km_m_puts_16 hU)
  · exact (km_m_puts_16 hU)

theorem km_m_flows {N : Nat} {s0 : St} {σ : St} {a1 : Int32} {a2 : Int64} (hU : Km s0 σ) : Par (m_flows N σ a1 a2) (fun _ σ' => Km s0 σ') := by
  unfold m_flows
  refine par_gd (fun _ => ?_)
  refine par_gd (fun _ => ?_)
  refine par_if (fun _ => ?_) (fun _ => ?_)
  · exact par_some hU
  · refine par_gd (fun _ => ?_)
    exact par_some (km_I (km_Z hU) (by decide))

theorem km_m_begins_93 {N : Nat} {s0 : St} {σ : St} {x1 : Int32} {x2 : Int64} (hU : Km s0 σ) : Par (m_begins_93 N σ x1 x2) (fun _ σ' => Km s0 σ') := by
  unfold m_begins_93
  refine par_gd (fun _ => ?_)
  refine par_bd (km_m_flows hU) (fun _ σ4 h1 => ?_)
  exact par_some h1

theorem km_m_begins_39_b {N : Nat} {s0 : St} {σ : St} {x1 : Int32} {x2 : Int64} {x4 : Int32} (hU : Km s0 σ) {rec39 : St → Int32 → Int64 → Int32 → Option (Unit × St)} (h_rec39 : ∀ (z0 : St) (z1 : Int32) (z2 : Int64) (z3 : Int32), Km s0 z0 → Par (rec39 z0 z1 z2 z3) (fun _ σ' => Km s0 σ')) : Par (m_begins_39_b N rec39 σ x1 x2 x4) (fun _ σ' => Km s0 σ') := by
  unfold m_begins_39_b
  refine par_gd (fun _ => ?_)
  refine par_if (fun _ => ?_) (fun _ => ?_)
  · exact (km_m_begins_93 hU)
  · refine par_gd (fun _ => ?_)
    refine par_if (fun _ => ?_) (fun _ => ?_)
    · exact par_some hU
    · refine par_gd (fun _ => ?_)
      refine par_bd (km_m_with hU) (fun r5 σ6 h1 => ?_)
      exact (h_rec39 _ _ _ _ h1)

theorem km_m_begins_39 {N : Nat} {s0 : St} : ∀ (n : Nat) (σ : St) (x1 : Int32) (x2 : Int64) (x4 : Int32), Km s0 σ → Par (m_begins_39 N  n σ x1 x2 x4) (fun _ σ' => Km s0 σ') := by
  intro n
  induction n with
  | zero => intro σ x1 x2 x4 _ r σ' e; cases e
  | succ n ih =>
    intro σ x1 x2 x4 hU
    exact km_m_begins_39_b (N := N) hU (fun z0 z1 z2 z3 hz => ih z0 z1 z2 z3 hz)

theorem km_m_begins_28 {N : Nat} {s0 : St} {σ : St} {x1 : Int32} {x2 : Int64} (hU : Km s0 σ) : Par (m_begins_28 N σ x1 x2) (fun _ σ' => Km s0 σ') := by
  unfold m_begins_28
  refine par_bd (km_m_with hU) (fun r1 σ2 h1 => ?_)
  exact (km_m_begins_39  N _ _ _ _ h1)

theorem km_m_begins_7_b {N : Nat} {s0 : St} {σ : St} {x1 : Int32} {x2 : Int64} {x4 : Int32} (hU : Km s0 σ) {rec7 : St → Int32 → Int64 → Int32 → Option (Unit × St)} (h_rec7 : ∀ (z0 : St) (z1 : Int32) (z2 : Int64) (z3 : Int32), Km s0 z0 → Par (rec7 z0 z1 z2 z3) (fun _ σ' => Km s0 σ')) : Par (m_begins_7_b N rec7 σ x1 x2 x4) (fun _ σ' => Km s0 σ') := by
  unfold m_begins_7_b
  refine par_if (fun _ => ?_) (fun _ => ?_)
  · exact (km_m_begins_28 hU)
  · refine par_bd (km_m_with hU) (fun r7 σ8 h1 => ?_)
    exact (h_rec7 _ _ _ _ h1)

theorem km_m_begins_7 {N : Nat} {s0 : St} : ∀ (n : Nat) (σ : St) (x1 : Int32) (x2 : Int64) (x4 : Int32), Km s0 σ → Par (m_begins_7 N  n σ x1 x2 x4) (fun _ σ' => Km s0 σ') := by
  intro n
  induction n with
  | zero => intro σ x1 x2 x4 _ r σ' e; cases e
  | succ n ih =>
    intro σ x1 x2 x4 hU
    exact km_m_begins_7_b (N := N) hU (fun z0 z1 z2 z3 hz => ih z0 z1 z2 z3 hz)

theorem km_m_begins {N : Nat} {s0 : St} {σ : St} {a1 : Int32} (hU : Km s0 σ) : Par (m_begins N σ a1) (fun _ σ' => Km s0 σ') := by
  unfold m_begins
  exact (km_m_begins_7  N _ _ _ _ hU)

theorem km_m_putsThings {N : Nat} {s0 : St} {σ : St} (hU : Km s0 σ) : Par (m_putsThings N σ) (fun _ σ' => Km s0 σ') := by
  unfold m_putsThings
  refine par_bd (km_m_puts hU) (fun _ σ2 h1 => ?_)
  refine par_bd (km_m_puts h1) (fun _ σ4 h2 => ?_)
  exact par_some h2

theorem km_m_calls_57 {N : Nat} {s0 : St} {σ : St} {x1 : Int32} {x2 : Int64} {x4 : Int32} (hU : Km s0 σ) : Par (m_calls_57 N σ x1 x2 x4) (fun _ σ' => Km s0 σ') := by
  unfold m_calls_57
  refine par_bd (km_m_begins hU) (fun _ σ2 h1 => ?_)
  refine par_gd (fun _ => ?_)
  refine par_if (fun _ => ?_) (fun _ => ?_)
  · exact par_some h1
  · refine par_gd (fun _ => ?_)
    refine par_bd (km_m_with h1) (fun r3 σ4 h2 => ?_)
    refine par_bd (km_m_flows h2) (fun _ σ6 h3 => ?_)
    exact par_some h3

theorem km_m_calls_11_b {N : Nat} {s0 : St} {σ : St} {x1 : Int32} {x2 : Int64} {x4 : Int32} {x5 : Int32} (hU : Km s0 σ) {rec11 : St → Int32 → Int64 → Int32 → Int32 → Option (Unit × St)} (h_rec11 : ∀ (z0 : St) (z1 : Int32) (z2 : Int64) (z3 : Int32) (z4 : Int32), Km s0 z0 → Par (rec11 z0 z1 z2 z3 z4) (fun _ σ' => Km s0 σ')) : Par (m_calls_11_b N rec11 σ x1 x2 x4 x5) (fun _ σ' => Km s0 σ') := by
  unfold m_calls_11_b
  refine par_gd (fun _ => ?_)
  refine par_if (fun _ => ?_) (fun _ => ?_)
  · exact (km_m_calls_57 hU)
  · refine par_gd (fun _ => ?_)
    refine par_bd (km_m_factOf hU) (fun r7 σ8 h1 => ?_)
    refine par_bd (km_m_puts h1) (fun _ σ10 h2 => ?_)
    exact (h_rec11 _ _ _ _ _ h2)

theorem km_m_calls_11 {N : Nat} {s0 : St} : ∀ (n : Nat) (σ : St) (x1 : Int32) (x2 : Int64) (x4 : Int32) (x5 : Int32), Km s0 σ → Par (m_calls_11 N  n σ x1 x2 x4 x5) (fun _ σ' => Km s0 σ') := by
  intro n
  induction n with
  | zero => intro σ x1 x2 x4 x5 _ r σ' e; cases e
  | succ n ih =>
    intro σ x1 x2 x4 x5 hU
    exact km_m_calls_11_b (N := N) hU (fun z0 z1 z2 z3 z4 hz => ih z0 z1 z2 z3 z4 hz)

theorem km_m_calls {N : Nat} {s0 : St} {σ : St} {a1 : Int32} {a2 : Int64} (hU : Km s0 σ) : Par (m_calls N σ a1 a2) (fun _ σ' => Km s0 σ') := by
  unfold m_calls
  refine par_gd (fun _ => ?_)
  exact (km_m_calls_11  N _ _ _ _ _ hU)

theorem km_m_routineAt_52 {N : Nat} {s0 : St} {σ : St} {x1 : Int32} {x2 : Int32} {x3 : Int32} (hU : Km s0 σ) {rec4 : St → Int32 → Int32 → Int32 → Option (Int32 × St)} (h_rec4 : ∀ (z0 : St) (z1 : Int32) (z2 : Int32) (z3 : Int32), Km s0 z0 → Par (rec4 z0 z1 z2 z3) (fun _ σ' => Km s0 σ')) : Par (m_routineAt_52 N rec4 σ x1 x2 x3) (fun _ σ' => Km s0 σ') := by
  unfold m_routineAt_52
  exact (h_rec4 _ _ _ _ hU)

theorem km_m_routineAt_50 {N : Nat} {s0 : St} {σ : St} {x1 : Int32} {x3 : Int32} (hU : Km s0 σ) {rec4 : St → Int32 → Int32 → Int32 → Option (Int32 × St)} (h_rec4 : ∀ (z0 : St) (z1 : Int32) (z2 : Int32) (z3 : Int32), Km s0 z0 → Par (rec4 z0 z1 z2 z3) (fun _ σ' => Km s0 σ')) : Par (m_routineAt_50 N rec4 σ x1 x3) (fun _ σ' => Km s0 σ') := by
  unfold m_routineAt_50
  exact (km_m_routineAt_52 hU h_rec4)

theorem km_m_routineAt_4_b {N : Nat} {s0 : St} {σ : St} {x1 : Int32} {x2 : Int32} {x3 : Int32} (hU : Km s0 σ) {rec4 : St → Int32 → Int32 → Int32 → Option (Int32 × St)} (h_rec4 : ∀ (z0 : St) (z1 : Int32) (z2 : Int32) (z3 : Int32), Km s0 z0 → Par (rec4 z0 z1 z2 z3) (fun _ σ' => Km s0 σ')) : Par (m_routineAt_4_b N rec4 σ x1 x2 x3) (fun _ σ' => Km s0 σ') := by
  unfold m_routineAt_4_b
  refine par_if (fun _ => ?_) (fun _ => ?_)
  · exact par_some hU
  · refine par_gd (fun _ => ?_)
    refine par_if (fun _ => ?_) (fun _ => ?_)
    · exact (km_m_routineAt_52 hU h_rec4)
    · refine par_gd (fun _ => ?_)
      refine par_if (fun _ => ?_) (fun _ => ?_)
      · exact (km_m_routineAt_52 hU h_rec4)
      · refine par_if (fun _ => ?_) (fun _ => ?_)
        · exact (km_m_routineAt_50 hU h_rec4)
        · refine par_gd (fun _ => ?_)
          refine par_gd (fun _ => ?_)
          refine par_if (fun _ => ?_) (fun _ => ?_)
          · exact (km_m_routineAt_52 hU h_rec4)
          · exact (km_m_routineAt_50 hU h_rec4)

theorem km_m_routineAt_4 {N : Nat} {s0 : St} : ∀ (n : Nat) (σ : St) (x1 : Int32) (x2 : Int32) (x3 : Int32), Km s0 σ → Par (m_routineAt_4 N  n σ x1 x2 x3) (fun _ σ' => Km s0 σ') := by
  intro n
  induction n with
  | zero => intro σ x1 x2 x3 _ r σ' e; cases e
  | succ n ih =>
    intro σ x1 x2 x3 hU
    exact km_m_routineAt_4_b (N := N) hU (fun z0 z1 z2 z3 hz => ih z0 z1 z2 z3 hz)

theorem km_m_routineAt {N : Nat} {s0 : St} {σ : St} {a1 : Int32} (hU : Km s0 σ) : Par (m_routineAt N σ a1) (fun _ σ' => Km s0 σ') := by
  unfold m_routineAt
  exact (km_m_routineAt_4  N _ _ _ _ hU)

theorem km_m_tests_201 {N : Nat} {s0 : St} {σ : St} {t1 : Int32} {t2 : Int64} (hU : Km s0 σ) : Par (m_tests_201 N σ t1 t2) (fun _ σ' => Km s0 σ') := by
  unfold m_tests_201
  refine par_bd (km_m_flows hU) (fun _ σ6 h1 => ?_)
  exact par_some h1

theorem km_m_tests_141 {N : Nat} {s0 : St} {σ : St} {x1 : Int32} {x2 : Int64} {x5 : Int32} {x6 : Int32} (hU : Km s0 σ) : Par (m_tests_141 N σ x1 x2 x5 x6) (fun _ σ' => Km s0 σ') := by
  unfold m_tests_141
  refine par_if (fun _ => ?_) (fun _ => ?_)
  · exact par_some hU
  · refine par_gd (fun _ => ?_)
    refine par_gd (fun _ => ?_)
    refine par_gd (fun _ => ?_)
    refine par_gd (fun _ => ?_)
    refine par_gd (fun _ => ?_)
    refine par_if (fun _ => ?_) (fun _ => ?_)
    · exact (km_m_tests_201 (km_A hU (by decide)))
    · refine par_gd (fun _ => ?_)
      refine par_bd (km_m_with (km_A hU (by decide))) (fun r3 σ4 h1 => ?_)
      exact (km_m_tests_201 h1)

theorem km_m_tests_138 {N : Nat} {s0 : St} {σ : St} {x1 : Int32} {x2 : Int64} {x5 : Int32} {x6 : Int32} {t1 : Int32} {t2 : Int64} (hU : Km s0 σ) : Par (m_tests_138 N σ x1 x2 x5 x6 t1 t2) (fun _ σ' => Km s0 σ') := by
  unfold m_tests_138
  refine par_bd (km_m_flows hU) (fun _ σ10 h1 => ?_)
  exact (km_m_tests_141 h1)

theorem km_m_tests_79 {N : Nat} {s0 : St} {σ : St} {x1 : Int32} {x2 : Int64} {x4 : Int32} {x5 : Int32} {t0 : Int32} (hU : Km s0 σ) : Par (m_tests_79 N σ x1 x2 x4 x5 t0) (fun _ σ' => Km s0 σ') := by
  unfold m_tests_79
  refine par_if (fun _ => ?_) (fun _ => ?_)
  · exact (km_m_tests_141 hU)
  · refine par_gd (fun _ => ?_)
    refine par_gd (fun _ => ?_)
    refine par_gd (fun _ => ?_)
    refine par_gd (fun _ => ?_)
    refine par_if (fun _ => ?_) (fun _ => ?_)
    · exact (km_m_tests_138 (km_A hU (by decide)))
    · refine par_gd (fun _ => ?_)
      refine par_bd (km_m_with (km_A hU (by decide))) (fun r7 σ8 h1 => ?_)
      exact (km_m_tests_138 h1)

theorem km_m_tests_52 {N : Nat} {s0 : St} {σ : St} {x1 : Int32} {x2 : Int64} {x4 : Int32} {t0 : Int32} (hU : Km s0 σ) : Par (m_tests_52 N σ x1 x2 x4 t0) (fun _ σ' => Km s0 σ') := by
  unfold m_tests_52
  refine par_gd (fun _ => ?_)
  refine par_if (fun _ => ?_) (fun _ => ?_)
  · exact (km_m_tests_79 hU)
  · refine par_gd (fun _ => ?_)
    refine par_bd (km_m_factOf hU) (fun r1 σ2 h1 => ?_)
    exact (km_m_tests_79 h1)

theorem km_m_tests_31 {N : Nat} {s0 : St} {σ : St} {x1 : Int32} {x2 : Int64} {t0 : Int32} (hU : Km s0 σ) : Par (m_tests_31 N σ x1 x2 t0) (fun _ σ' => Km s0 σ') := by
  unfold m_tests_31
  refine par_gd (fun _ => ?_)
  refine par_if (fun _ => ?_) (fun _ => ?_)
  · exact (km_m_tests_52 hU)
  · exact (km_m_tests_52 hU)

theorem km_m_tests {N : Nat} {s0 : St} {σ : St} {a1 : Int32} {a2 : Int64} (hU : Km s0 σ) : Par (m_tests N σ a1 a2) (fun _ σ' => Km s0 σ') := by
  unfold m_tests
  refine par_gd (fun _ => ?_)
  refine par_if (fun _ => ?_) (fun _ => ?_)
  · exact (km_m_tests_31 hU)
  · refine par_gd (fun _ => ?_)
    refine par_if (fun _ => ?_) (fun _ => ?_)
    · exact (km_m_tests_31 hU)
    · exact (km_m_tests_31 hU)

theorem km_m_goes {N : Nat} {s0 : St} {σ : St} {a1 : Int32} {a2 : Int64} (hU : Km s0 σ) : Par (m_goes N σ a1 a2) (fun _ σ' => Km s0 σ') := by
  unfold m_goes
  refine par_gd (fun _ => ?_)
  refine par_if (fun _ => ?_) (fun _ => ?_)
  · refine par_bd (km_m_flows hU) (fun _ σ3 h1 => ?_)
    exact par_some h1
  · refine par_if (fun _ => ?_) (fun _ => ?_)
    · refine par_bd (km_m_with hU) (fun r5 σ6 h2 => ?_)
      refine par_bd (km_m_flows h2) (fun _ σ8 h3 => ?_)
      exact par_some h3
    · refine par_if (fun _ => ?_) (fun _ => ?_)
      · refine par_bd (km_m_putsThings hU) (fun _ σ11 h4 => ?_)
        refine par_bd (km_m_with h4) (fun r12 σ13 h5 => ?_)
        refine par_bd (km_m_flows h5) (fun _ σ15 h6 => ?_)
        exact par_some h6
      · refine par_if (fun _ => ?_) (fun _ => ?_)
        · refine par_gd (fun _ => ?_)
          refine par_bd (km_m_factOf hU) (fun r17 σ18 h7 => ?_)
          refine par_bd (km_m_puts h7) (fun _ σ20 h8 => ?_)
          refine par_gd (fun _ => ?_)
          refine par_bd (km_m_factOf h8) (fun r21 σ22 h9 => ?_)
          refine par_bd (km_m_puts h9) (fun _ σ24 h10 => ?_)
          refine par_bd (km_m_with h10) (fun r25 σ26 h11 => ?_)
          refine par_bd (km_m_flows h11) (fun _ σ28 h12 => ?_)
          exact par_some h12
        · refine par_if (fun _ => ?_) (fun _ => ?_)
          · refine par_gd (fun _ => ?_)
            refine par_bd (km_m_factOf hU) (fun r30 σ31 h13 => ?_)
            refine par_bd (km_m_with h13) (fun r32 σ33 h14 => ?_)
            refine par_bd (km_m_flows h14) (fun _ σ35 h15 => ?_)
            exact par_some h15
          · refine par_if (fun _ => ?_) (fun _ => ?_)
            · refine par_gd (fun _ => ?_)
              refine par_bd (km_m_factOf hU) (fun r37 σ38 h16 => ?_)
              refine par_if (fun _ => ?_) (fun _ => ?_)
              · exact par_some h16
              · refine par_gd (fun _ => ?_)
                refine par_gd (fun _ => ?_)
                refine par_if (fun _ => ?_) (fun _ => ?_)
                · exact par_some h16
                · refine par_gd (fun _ => ?_)
                  refine par_bd (km_m_with h16) (fun r39 σ40 h17 => ?_)
                  refine par_gd (fun _ => ?_)
                  refine par_gd (fun _ => ?_)
                  refine par_bd (km_m_with h17) (fun r41 σ42 h18 => ?_)
                  refine par_bd (km_m_flows h18) (fun _ σ44 h19 => ?_)
                  exact par_some h19
            · refine par_if (fun _ => ?_) (fun _ => ?_)
              · refine par_bd (km_m_calls hU) (fun _ σ47 h20 => ?_)
                exact par_some h20
              · refine par_if (fun _ => ?_) (fun _ => ?_)
                · refine par_gd (fun _ => ?_)
                  refine par_bd (km_m_factOf hU) (fun r49 σ50 h21 => ?_)
                  refine par_bd (km_m_with h21) (fun r51 σ52 h22 => ?_)
                  refine par_bd (km_m_flows h22) (fun _ σ54 h23 => ?_)
                  exact par_some h23
                · refine par_if (fun _ => ?_) (fun _ => ?_)
                  · refine par_gd (fun _ => ?_)
                    refine par_bd (km_m_factOf hU) (fun r56 σ57 h24 => ?_)
                    refine par_if (fun _ => ?_) (fun _ => ?_)
                    · exact par_some h24
                    · refine par_gd (fun _ => ?_)
                      refine par_bd (km_m_factOf h24) (fun r58 σ59 h25 => ?_)
                      refine par_bd (km_m_puts h25) (fun _ σ61 h26 => ?_)
                      refine par_gd (fun _ => ?_)
                      refine par_bd (km_m_with h26) (fun r62 σ63 h27 => ?_)
                      refine par_bd (km_m_flows h27) (fun _ σ65 h28 => ?_)
                      exact par_some h28
                  · refine par_if (fun _ => ?_) (fun _ => ?_)
                    · refine par_bd (km_m_routineAt hU) (fun r67 σ68 h29 => ?_)
                      refine par_bd (km_m_factOf h29) (fun r69 σ70 h30 => ?_)
                      refine par_bd (km_m_puts h30) (fun _ σ72 h31 => ?_)
                      exact par_some h31
                    · refine par_if (fun _ => ?_) (fun _ => ?_)
                      · refine par_bd (km_m_tests hU) (fun _ σ75 h32 => ?_)
                        exact par_some h32
                      · refine par_if (fun _ => ?_) (fun _ => ?_)
                        · refine par_bd (km_m_tests hU) (fun _ σ78 h33 => ?_)
                          exact par_some h33
                        · refine par_if (fun _ => ?_) (fun _ => ?_)
                          · refine par_bd (km_m_tests hU) (fun _ σ81 h34 => ?_)
                            exact par_some h34
                          · refine par_if (fun _ => ?_) (fun _ => ?_)
                            · refine par_gd (fun _ => ?_)
                              refine par_bd (km_m_flows hU) (fun _ σ84 h35 => ?_)
                              exact par_some h35
                            · refine par_bd (km_m_tests hU) (fun _ σ86 h36 => ?_)
                              exact par_some h36

theorem km_m_reckons_194 {N : Nat} {s0 : St} {σ : St} (hU : Km s0 σ) {rec82 : St → Option (Unit × St)} (h_rec82 : ∀ (z0 : St), Km s0 z0 → Par (rec82 z0) (fun _ σ' => Km s0 σ')) : Par (m_reckons_194 N rec82 σ) (fun _ σ' => Km s0 σ') := by
  unfold m_reckons_194
  exact (h_rec82 _ hU)

theorem km_m_reckons_188 {N : Nat} {s0 : St} {σ : St} {x1 : Int32} (hU : Km s0 σ) {rec82 : St → Option (Unit × St)} (h_rec82 : ∀ (z0 : St), Km s0 z0 → Par (rec82 z0) (fun _ σ' => Km s0 σ')) {rec158 : St → Int32 → Option (Unit × St)} (h_rec158 : ∀ (z0 : St) (z1 : Int32), Km s0 z0 → Par (rec158 z0 z1) (fun _ σ' => Km s0 σ')) : Par (m_reckons_188 N rec82 rec158 σ x1) (fun _ σ' => Km s0 σ') := by
  unfold m_reckons_188
  exact (h_rec158 _ _ hU)

theorem km_m_reckons_158_b {N : Nat} {s0 : St} {σ : St} {x1 : Int32} (hU : Km s0 σ) {rec82 : St → Option (Unit × St)} (h_rec82 : ∀ (z0 : St), Km s0 z0 → Par (rec82 z0) (fun _ σ' => Km s0 σ')) {rec158 : St → Int32 → Option (Unit × St)} (h_rec158 : ∀ (z0 : St) (z1 : Int32), Km s0 z0 → Par (rec158 z0 z1) (fun _ σ' => Km s0 σ')) : Par (m_reckons_158_b N rec82 rec158 σ x1) (fun _ σ' => Km s0 σ') := by
  unfold m_reckons_158_b
  refine par_if (fun _ => ?_) (fun _ => ?_)
  · exact (km_m_reckons_194 hU h_rec82)
  · refine par_gd (fun _ => ?_)
    refine par_if (fun _ => ?_) (fun _ => ?_)
    · exact (km_m_reckons_188 hU h_rec82 h_rec158)
    · refine par_gd (fun _ => ?_)
      refine par_bd (km_m_goes hU) (fun _ σ4 h1 => ?_)
      exact (km_m_reckons_188 h1 h_rec82 h_rec158)

theorem km_m_reckons_158 {N : Nat} {s0 : St} {rec82 : St → Option (Unit × St)} (h_rec82 : ∀ (z0 : St), Km s0 z0 → Par (rec82 z0) (fun _ σ' => Km s0 σ')) : ∀ (n : Nat) (σ : St) (x1 : Int32), Km s0 σ → Par (m_reckons_158 N rec82 n σ x1) (fun _ σ' => Km s0 σ') := by
  intro n
  induction n with
  | zero => intro σ x1 _ r σ' e; cases e
  | succ n ih =>
    intro σ x1 hU
    exact km_m_reckons_158_b (N := N) hU h_rec82 (fun z0 z1 hz => ih z0 z1 hz)

theorem km_m_reckons_148 {N : Nat} {s0 : St} {σ : St} (hU : Km s0 σ) {rec82 : St → Option (Unit × St)} (h_rec82 : ∀ (z0 : St), Km s0 z0 → Par (rec82 z0) (fun _ σ' => Km s0 σ')) : Par (m_reckons_148 N rec82 σ) (fun _ σ' => Km s0 σ') := by
  unfold m_reckons_148
  refine par_bd (km_m_begins hU) (fun _ σ2 h1 => ?_)
  exact (km_m_reckons_158 h_rec82 N _ _ h1)

theorem km_m_reckons_142 {N : Nat} {s0 : St} {σ : St} {x1 : Int32} (hU : Km s0 σ) {rec82 : St → Option (Unit × St)} (h_rec82 : ∀ (z0 : St), Km s0 z0 → Par (rec82 z0) (fun _ σ' => Km s0 σ')) {rec96 : St → Int32 → Option (Unit × St)} (h_rec96 : ∀ (z0 : St) (z1 : Int32), Km s0 z0 → Par (rec96 z0 z1) (fun _ σ' => Km s0 σ')) : Par (m_reckons_142 N rec82 rec96 σ x1) (fun _ σ' => Km s0 σ') := by
  unfold m_reckons_142
  exact (h_rec96 _ _ hU)

theorem km_m_reckons_96_b {N : Nat} {s0 : St} {σ : St} {x1 : Int32} (hU : Km s0 σ) {rec82 : St → Option (Unit × St)} (h_rec82 : ∀ (z0 : St), Km s0 z0 → Par (rec82 z0) (fun _ σ' => Km s0 σ')) {rec96 : St → Int32 → Option (Unit × St)} (h_rec96 : ∀ (z0 : St) (z1 : Int32), Km s0 z0 → Par (rec96 z0 z1) (fun _ σ' => Km s0 σ')) : Par (m_reckons_96_b N rec82 rec96 σ x1) (fun _ σ' => Km s0 σ') := by
  unfold m_reckons_96_b
  refine par_gd (fun _ => ?_)
  refine par_if (fun _ => ?_) (fun _ => ?_)
  · exact (km_m_reckons_148 hU h_rec82)
  · refine par_gd (fun _ => ?_)
    refine par_bd (km_m_puts hU) (fun _ σ6 h1 => ?_)
    refine par_gd (fun _ => ?_)
    refine par_if (fun _ => ?_) (fun _ => ?_)
    · exact (km_m_reckons_142 h1 h_rec82 h_rec96)
    · refine par_bd (km_m_putsThings h1) (fun _ σ8 h2 => ?_)
      exact (km_m_reckons_142 h2 h_rec82 h_rec96)

theorem km_m_reckons_96 {N : Nat} {s0 : St} {rec82 : St → Option (Unit × St)} (h_rec82 : ∀ (z0 : St), Km s0 z0 → Par (rec82 z0) (fun _ σ' => Km s0 σ')) : ∀ (n : Nat) (σ : St) (x1 : Int32), Km s0 σ → Par (m_reckons_96 N rec82 n σ x1) (fun _ σ' => Km s0 σ') := by
  intro n
  induction n with
  | zero => intro σ x1 _ r σ' e; cases e
  | succ n ih =>
    intro σ x1 hU
    exact km_m_reckons_96_b (N := N) hU h_rec82 (fun z0 z1 hz => ih z0 z1 hz)

theorem km_m_reckons_82_b {N : Nat} {s0 : St} {σ : St} (hU : Km s0 σ) {rec82 : St → Option (Unit × St)} (h_rec82 : ∀ (z0 : St), Km s0 z0 → Par (rec82 z0) (fun _ σ' => Km s0 σ')) : Par (m_reckons_82_b N rec82 σ) (fun _ σ' => Km s0 σ') := by
  unfold m_reckons_82_b
  refine par_if (fun _ => ?_) (fun _ => ?_)
  · exact par_some hU
  · exact (km_m_reckons_96 h_rec82 N _ _ (km_I hU (by decide)))

theorem km_m_reckons_82 {N : Nat} {s0 : St} : ∀ (n : Nat) (σ : St), Km s0 σ → Par (m_reckons_82 N  n σ) (fun _ σ' => Km s0 σ') := by
  intro n
  induction n with
  | zero => intro σ _ r σ' e; cases e
  | succ n ih =>
    intro σ hU
    exact km_m_reckons_82_b (N := N) hU (fun z0 hz => ih z0 hz)

theorem km_m_reckons_65 {N : Nat} {s0 : St} {σ : St} (hU : Km s0 σ) : Par (m_reckons_65 N σ) (fun _ σ' => Km s0 σ') := by
  unfold m_reckons_65
  refine par_if (fun _ => ?_) (fun _ => ?_)
  · exact (km_m_reckons_82  N _ (km_I hU (by decide)))
  · exact (km_m_reckons_82  N _ (km_I hU (by decide)))

theorem km_m_reckons_46_b {N : Nat} {s0 : St} {σ : St} {x1 : Int32} (hU : Km s0 σ) {rec46 : St → Int32 → Option (Unit × St)} (h_rec46 : ∀ (z0 : St) (z1 : Int32), Km s0 z0 → Par (rec46 z0 z1) (fun _ σ' => Km s0 σ')) : Par (m_reckons_46_b N rec46 σ x1) (fun _ σ' => Km s0 σ') := by
  unfold m_reckons_46_b
  refine par_if (fun _ => ?_) (fun _ => ?_)
  · exact (km_m_reckons_65 hU)
  · refine par_gd (fun _ => ?_)
    exact (h_rec46 _ _ (km_A hU (by decide)))

theorem km_m_reckons_46 {N : Nat} {s0 : St} : ∀ (n : Nat) (σ : St) (x1 : Int32), Km s0 σ → Par (m_reckons_46 N  n σ x1) (fun _ σ' => Km s0 σ') := by
  intro n
  induction n with
  | zero => intro σ x1 _ r σ' e; cases e
  | succ n ih =>
    intro σ x1 hU
    exact km_m_reckons_46_b (N := N) hU (fun z0 z1 hz => ih z0 z1 hz)

theorem km_m_reckons_25_b {N : Nat} {s0 : St} {σ : St} {x1 : Int32} (hU : Km s0 σ) {rec25 : St → Int32 → Option (Unit × St)} (h_rec25 : ∀ (z0 : St) (z1 : Int32), Km s0 z0 → Par (rec25 z0 z1) (fun _ σ' => Km s0 σ')) : Par (m_reckons_25_b N rec25 σ x1) (fun _ σ' => Km s0 σ') := by
  unfold m_reckons_25_b
  refine par_if (fun _ => ?_) (fun _ => ?_)
  · exact (km_m_reckons_46  N _ _ hU)
  · refine par_gd (fun _ => ?_)
    exact (h_rec25 _ _ (km_A hU (by decide)))

theorem km_m_reckons_25 {N : Nat} {s0 : St} : ∀ (n : Nat) (σ : St) (x1 : Int32), Km s0 σ → Par (m_reckons_25 N  n σ x1) (fun _ σ' => Km s0 σ') := by
  intro n
  induction n with
  | zero => intro σ x1 _ r σ' e; cases e
  | succ n ih =>
    intro σ x1 hU
    exact km_m_reckons_25_b (N := N) hU (fun z0 z1 hz => ih z0 z1 hz)

theorem km_m_reckons_2_b {N : Nat} {s0 : St} {σ : St} {x1 : Int32} (hU : Km s0 σ) {rec2 : St → Int32 → Option (Unit × St)} (h_rec2 : ∀ (z0 : St) (z1 : Int32), Km s0 z0 → Par (rec2 z0 z1) (fun _ σ' => Km s0 σ')) : Par (m_reckons_2_b N rec2 σ x1) (fun _ σ' => Km s0 σ') := by
  unfold m_reckons_2_b
  refine par_if (fun _ => ?_) (fun _ => ?_)
  · exact (km_m_reckons_25  N _ _ hU)
  · refine par_gd (fun _ => ?_)
    exact (h_rec2 _ _ (km_Z hU))

theorem km_m_reckons_2 {N : Nat} {s0 : St} : ∀ (n : Nat) (σ : St) (x1 : Int32), Km s0 σ → Par (m_reckons_2 N  n σ x1) (fun _ σ' => Km s0 σ') := by
  intro n
  induction n with
  | zero => intro σ x1 _ r σ' e; cases e
  | succ n ih =>
    intro σ x1 hU
    exact km_m_reckons_2_b (N := N) hU (fun z0 z1 hz => ih z0 z1 hz)

theorem km_m_reckons {N : Nat} {s0 : St} {σ : St} (hU : Km s0 σ) : Par (m_reckons N σ) (fun _ σ' => Km s0 σ') := by
  unfold m_reckons
  exact (km_m_reckons_2  N _ _ hU)

theorem km_m_frees_2_b {N : Nat} {s0 : St} {σ : St} {x1 : Int32} (hU : Km s0 σ) {rec2 : St → Int32 → Option (Unit × St)} (h_rec2 : ∀ (z0 : St) (z1 : Int32), Km s0 z0 → Par (rec2 z0 z1) (fun _ σ' => Km s0 σ')) : Par (m_frees_2_b N rec2 σ x1) (fun _ σ' => Km s0 σ') := by
  unfold m_frees_2_b
  refine par_if (fun _ => ?_) (fun _ => ?_)
  · exact par_some hU
  · refine par_gd (fun _ => ?_)
    exact (h_rec2 _ _ (km_A hU (by decide)))

theorem km_m_frees_2 {N : Nat} {s0 : St} : ∀ (n : Nat) (σ : St) (x1 : Int32), Km s0 σ → Par (m_frees_2 N  n σ x1) (fun _ σ' => Km s0 σ') := by
  intro n
  induction n with
  | zero => intro σ x1 _ r σ' e; cases e
  | succ n ih =>
    intro σ x1 hU
    exact km_m_frees_2_b (N := N) hU (fun z0 z1 hz => ih z0 z1 hz)

theorem km_m_frees {N : Nat} {s0 : St} {σ : St} (hU : Km s0 σ) : Par (m_frees N σ) (fun _ σ' => Km s0 σ') := by
  unfold m_frees
  exact (km_m_frees_2  N _ _ hU)

theorem km_m_mark_85 {N : Nat} {s0 : St} {σ : St} {x1 : Int32} {x2 : Int32} {x3 : Int32} (hU : Km s0 σ) : Par (m_mark_85 N σ x1 x2 x3) (fun _ σ' => Km s0 σ') := by
  unfold m_mark_85
  refine par_bd (km_m_frees hU) (fun _ σ2 h1 => ?_)
  refine par_bd (km_m_reckons h1) (fun _ σ4 h2 => ?_)
  refine par_if (fun _ => ?_) (fun _ => ?_)
  · refine par_gd (fun _ => ?_)
    exact par_some h2
  · refine par_if (fun _ => ?_) (fun _ => ?_)
    · refine par_gd (fun _ => ?_)
      exact par_some h2
    · refine par_gd (fun _ => ?_)
      exact par_some h2

theorem km_m_mark_69 {N : Nat} {s0 : St} {σ : St} {x1 : Int32} {x2 : Int32} {x3 : Int32} (hU : Km s0 σ) : Par (m_mark_69 N σ x1 x2 x3) (fun _ σ' => Km s0 σ') := by
  unfold m_mark_69
  refine par_if (fun _ => ?_) (fun _ => ?_)
  · refine par_if (fun _ => ?_) (fun _ => ?_)
    · exact par_some hU
    · refine par_if (fun _ => ?_) (fun _ => ?_)
      · exact (km_m_mark_85 hU)
      · exact par_some hU
  · exact (km_m_mark_85 hU)

theorem km_m_mark_51 {N : Nat} {s0 : St} {σ : St} {x1 : Int32} {x2 : Int32} {x3 : Int32} (hU : Km s0 σ) : Par (m_mark_51 N σ x1 x2 x3) (fun _ σ' => Km s0 σ') := by
  unfold m_mark_51
  refine par_if (fun _ => ?_) (fun _ => ?_)
  · refine par_if (fun _ => ?_) (fun _ => ?_)
    · exact par_some hU
    · refine par_gd (fun _ => ?_)
      refine par_if (fun _ => ?_) (fun _ => ?_)
      · exact par_some hU
      · exact (km_m_mark_69 hU)
  · exact (km_m_mark_69 hU)

theorem km_m_mark_30 {N : Nat} {s0 : St} {σ : St} {x1 : Int32} {x2 : Int32} {x3 : Int32} {t0 : Int32} (hU : Km s0 σ) : Par (m_mark_30 N σ x1 x2 x3 t0) (fun _ σ' => Km s0 σ') := by
  unfold m_mark_30
  refine par_if (fun _ => ?_) (fun _ => ?_)
  · exact par_some hU
  · refine par_if (fun _ => ?_) (fun _ => ?_)
    · exact par_some hU
    · refine par_if (fun _ => ?_) (fun _ => ?_)
      · exact (km_m_mark_51 hU)
      · refine par_if (fun _ => ?_) (fun _ => ?_)
        · exact par_some hU
        · exact (km_m_mark_51 hU)

theorem km_m_mark_29 {N : Nat} {s0 : St} {σ : St} {x1 : Int32} {x2 : Int32} {x3 : Int32} (hU : Km s0 σ) : Par (m_mark_29 N σ x1 x2 x3) (fun _ σ' => Km s0 σ') := by
  unfold m_mark_29
  exact (km_m_mark_30 hU)

theorem km_m_mark {N : Nat} {s0 : St} {σ : St} {a1 : Int32} {a2 : Int32} {a3 : Int32} (hU : Km s0 σ) : Par (m_mark N σ a1 a2 a3) (fun _ σ' => Km s0 σ') := by
  unfold m_mark
  refine par_if (fun _ => ?_) (fun _ => ?_)
  · exact (km_m_mark_29 (km_I hU (by decide)))
  · refine par_if (fun _ => ?_) (fun _ => ?_)
    · exact (km_m_mark_29 (km_I hU (by decide)))
    · refine par_gd (fun _ => ?_)
      refine par_if (fun _ => ?_) (fun _ => ?_)
      · exact (km_m_mark_29 (km_I hU (by decide)))
      · exact (km_m_mark_30 (km_I hU (by decide)))

theorem km_m_useFact_72 {N : Nat} {s0 : St} {σ : St} {x1 : Int32} {x2 : Int32} (hU : Km s0 σ) {rec2 : St → Int32 → Int32 → Option (Int32 × St)} (h_rec2 : ∀ (z0 : St) (z1 : Int32) (z2 : Int32), Km s0 z0 → Par (rec2 z0 z1 z2) (fun _ σ' => Km s0 σ')) : Par (m_useFact_72 N rec2 σ x1 x2) (fun _ σ' => Km s0 σ') := by
  unfold m_useFact_72
  exact (h_rec2 _ _ _ hU)

theorem km_m_useFact_41 {N : Nat} {s0 : St} {σ : St} {x2 : Int32} (hU : Km s0 σ) : Par (m_useFact_41 N σ x2) (fun _ σ' => Km s0 σ') := by
  unfold m_useFact_41
  refine par_gd (fun _ => ?_)
  refine par_if (fun _ => ?_) (fun _ => ?_)
  · exact par_some hU
  · refine par_gd (fun _ => ?_)
    refine par_gd (fun _ => ?_)
    refine par_bd (km_m_factOf hU) (fun r1 σ2 h1 => ?_)
    exact par_some h1

theorem km_m_useFact_31 {N : Nat} {s0 : St} {σ : St} {x1 : Int32} {x2 : Int32} (hU : Km s0 σ) {rec2 : St → Int32 → Int32 → Option (Int32 × St)} (h_rec2 : ∀ (z0 : St) (z1 : Int32) (z2 : Int32), Km s0 z0 → Par (rec2 z0 z1 z2) (fun _ σ' => Km s0 σ')) : Par (m_useFact_31 N rec2 σ x1 x2) (fun _ σ' => Km s0 σ') := by
  unfold m_useFact_31
  refine par_gd (fun _ => ?_)
  refine par_if (fun _ => ?_) (fun _ => ?_)
  · exact (km_m_useFact_41 hU)
  · exact (km_m_useFact_72 hU h_rec2)

theorem km_m_useFact_2_b {N : Nat} {s0 : St} {σ : St} {x1 : Int32} {x2 : Int32} (hU : Km s0 σ) {rec2 : St → Int32 → Int32 → Option (Int32 × St)} (h_rec2 : ∀ (z0 : St) (z1 : Int32) (z2 : Int32), Km s0 z0 → Par (rec2 z0 z1 z2) (fun _ σ' => Km s0 σ')) : Par (m_useFact_2_b N rec2 σ x1 x2) (fun _ σ' => Km s0 σ') := by
  unfold m_useFact_2_b
  refine par_if (fun _ => ?_) (fun _ => ?_)
  · exact par_some hU
  · refine par_gd (fun _ => ?_)
    refine par_if (fun _ => ?_) (fun _ => ?_)
    · exact (km_m_useFact_31 hU h_rec2)
    · refine par_gd (fun _ => ?_)
      refine par_if (fun _ => ?_) (fun _ => ?_)
      · exact (km_m_useFact_31 hU h_rec2)
      · exact (km_m_useFact_72 hU h_rec2)

theorem km_m_useFact_2 {N : Nat} {s0 : St} : ∀ (n : Nat) (σ : St) (x1 : Int32) (x2 : Int32), Km s0 σ → Par (m_useFact_2 N  n σ x1 x2) (fun _ σ' => Km s0 σ') := by
  intro n
  induction n with
  | zero => intro σ x1 x2 _ r σ' e; cases e
  | succ n ih =>
    intro σ x1 x2 hU
    exact km_m_useFact_2_b (N := N) hU (fun z0 z1 z2 hz => ih z0 z1 z2 hz)

theorem km_m_useFact {N : Nat} {s0 : St} {σ : St} {a1 : Int32} (hU : Km s0 σ) : Par (m_useFact N σ a1) (fun _ σ' => Km s0 σ') := by
  unfold m_useFact
  exact (km_m_useFact_2  N _ _ _ hU)

theorem km_m_stateOf {N : Nat} {s0 : St} {σ : St} {a1 : Int32} (hU : Km s0 σ) : Par (m_stateOf N σ a1) (fun _ σ' => Km s0 σ') := by
  unfold m_stateOf
  refine par_if (fun _ => ?_) (fun _ => ?_)
  · exact par_some hU
  · refine par_if (fun _ => ?_) (fun _ => ?_)
    · exact par_some hU
    · refine par_if (fun _ => ?_) (fun _ => ?_)
      · exact par_some hU
      · exact par_some hU

theorem km_m_use {N : Nat} {s0 : St} {σ : St} {a1 : Int32} {a2 : Int32} (hU : Km s0 σ) : Par (m_use N σ a1 a2) (fun _ σ' => Km s0 σ') := by
  unfold m_use
  refine par_if (fun _ => ?_) (fun _ => ?_)
  · exact par_some (km_I hU (by decide))
  · refine par_gd (fun _ => ?_)
    refine par_if (fun _ => ?_) (fun _ => ?_)
    · refine par_if (fun _ => ?_) (fun _ => ?_)
      · refine par_bd (km_m_frees (km_I hU (by decide))) (fun _ σ3 h1 => ?_)
        refine par_bd (km_m_reckons h1) (fun _ σ5 h2 => ?_)
        refine par_bd (km_m_useFact h2) (fun r6 σ7 h3 => ?_)
        refine par_bd (km_m_stateOf h3) (fun r8 σ9 h4 => ?_)
        exact par_some h4
      · refine par_if (fun _ => ?_) (fun _ => ?_)
        · refine par_gd (fun _ => ?_)
          exact par_some (km_I hU (by decide))
        · refine par_if (fun _ => ?_) (fun _ => ?_)
          · refine par_gd (fun _ => ?_)
            exact par_some (km_I hU (by decide))
          · refine par_if (fun _ => ?_) (fun _ => ?_)
            · refine par_gd (fun _ => ?_)
              exact par_some (km_I hU (by decide))
            · exact par_some (km_I hU (by decide))
    · exact par_some (km_I hU (by decide))

theorem km_m_test {N : Nat} {s0 : St} {σ : St} {a1 : Int32} {a2 : Int32} (hU : Km s0 σ) : Par (m_test N σ a1 a2) (fun _ σ' => Km s0 σ') := by
  unfold m_test
  refine par_if (fun _ => ?_) (fun _ => ?_)
  · exact par_some (km_I hU (by decide))
  · refine par_gd (fun _ => ?_)
    refine par_if (fun _ => ?_) (fun _ => ?_)
    · refine par_if (fun _ => ?_) (fun _ => ?_)
      · refine par_bd (km_m_frees (km_I hU (by decide))) (fun _ σ3 h1 => ?_)
        refine par_bd (km_m_reckons h1) (fun _ σ5 h2 => ?_)
        refine par_gd (fun _ => ?_)
        refine par_if (fun _ => ?_) (fun _ => ?_)
        · exact par_some h2
        · refine par_gd (fun _ => ?_)
          refine par_if (fun _ => ?_) (fun _ => ?_)
          · exact par_some h2
          · refine par_gd (fun _ => ?_)
            refine par_if (fun _ => ?_) (fun _ => ?_)
            · exact par_some h2
            · exact par_some h2
      · refine par_if (fun _ => ?_) (fun _ => ?_)
        · refine par_gd (fun _ => ?_)
          exact par_some (km_I hU (by decide))
        · refine par_if (fun _ => ?_) (fun _ => ?_)
          · refine par_gd (fun _ => ?_)
            exact par_some (km_I hU (by decide))
          · exact par_some (km_I hU (by decide))
    · exact par_some (km_I hU (by decide))

theorem km_m_makes_50 {N : Nat} {s0 : St} {σ : St} {x2 : Int32} {t1 : Int32} {t2 : Int32} (hU : Km s0 σ) : Par (m_makes_50 N σ x2 t1 t2) (fun _ σ' => Km s0 σ') := by
  unfold m_makes_50
  refine par_gd (fun _ => ?_)
  refine par_if (fun _ => ?_) (fun _ => ?_)
  · refine par_gd (fun _ => ?_)
    exact par_some (km_A (km_A hU (by decide)) (by decide))
  · refine par_gd (fun _ => ?_)
    exact par_some (km_A (km_A hU (by decide)) (by decide))

theorem km_m_makes {N : Nat} {s0 : St} {σ : St} {a1 : Int32} {a2 : Int32} (hU : Km s0 σ) : Par (m_makes N σ a1 a2) (fun _ σ' => Km s0 σ') := by
  unfold m_makes
  refine par_if (fun _ => ?_) (fun _ => ?_)
  · exact par_some (km_I hU (by decide))
  · refine par_if (fun _ => ?_) (fun _ => ?_)
    · exact (km_m_makes_50 (km_I hU (by decide)))
    · exact (km_m_makes_50 (km_I hU (by decide)))

theorem km_m_chooses_20 {N : Nat} {s0 : St} {σ : St} {t0 : Int32} (hU : Km s0 σ) : Par (m_chooses_20 N σ t0) (fun _ σ' => Km s0 σ') := by
  unfold m_chooses_20
  refine par_gd (fun _ => ?_)
  exact par_some (km_I hU (by decide))

theorem km_m_chooses {N : Nat} {s0 : St} {σ : St} {a1 : Int32} (hU : Km s0 σ) : Par (m_chooses N σ a1) (fun _ σ' => Km s0 σ') := by
  unfold m_chooses
  refine par_if (fun _ => ?_) (fun _ => ?_)
  · exact (km_m_chooses_20 hU)
  · exact (km_m_chooses_20 hU)

theorem km_m_frame_29 {N : Nat} {s0 : St} {σ : St} {x1 : Int32} (hU : Km s0 σ) : Par (m_frame_29 N σ x1) (fun _ σ' => Km s0 σ') := by
  unfold m_frame_29
  refine par_gd (fun _ => ?_)
  exact par_some (km_I (km_A hU (by decide)) (by decide))

theorem km_m_frame_2_b {N : Nat} {s0 : St} {σ : St} {x1 : Int32} {x2 : Int32} (hU : Km s0 σ) {rec2 : St → Int32 → Int32 → Option (Unit × St)} (h_rec2 : ∀ (z0 : St) (z1 : Int32) (z2 : Int32), Km s0 z0 → Par (rec2 z0 z1 z2) (fun _ σ' => Km s0 σ')) : Par (m_frame_2_b N rec2 σ x1 x2) (fun _ σ' => Km s0 σ') := by
  unfold m_frame_2_b
  refine par_if (fun _ => ?_) (fun _ => ?_)
  · exact (km_m_frame_29 hU)
  · refine par_gd (fun _ => ?_)
    exact (h_rec2 _ _ _ (km_A hU (by decide)))

theorem km_m_frame_2 {N : Nat} {s0 : St} : ∀ (n : Nat) (σ : St) (x1 : Int32) (x2 : Int32), Km s0 σ → Par (m_frame_2 N  n σ x1 x2) (fun _ σ' => Km s0 σ') := by
  intro n
  induction n with
  | zero => intro σ x1 x2 _ r σ' e; cases e
  | succ n ih =>
    intro σ x1 x2 hU
    exact km_m_frame_2_b (N := N) hU (fun z0 z1 z2 hz => ih z0 z1 z2 hz)

theorem km_m_frame {N : Nat} {s0 : St} {σ : St} {a1 : Int32} (hU : Km s0 σ) : Par (m_frame N σ a1) (fun _ σ' => Km s0 σ') := by
  unfold m_frame
  exact (km_m_frame_2  N _ _ _ hU)

theorem km_m_canRun_42_b {N : Nat} {s0 : St} {σ : St} {x1 : Int32} {x3 : Int32} (hU : Km s0 σ) {rec42 : St → Int32 → Int32 → Option (Int32 × St)} (h_rec42 : ∀ (z0 : St) (z1 : Int32) (z2 : Int32), Km s0 z0 → Par (rec42 z0 z1 z2) (fun _ σ' => Km s0 σ')) : Par (m_canRun_42_b N rec42 σ x1 x3) (fun _ σ' => Km s0 σ') := by
  unfold m_canRun_42_b
  refine par_gd (fun _ => ?_)
  refine par_if (fun _ => ?_) (fun _ => ?_)
  · exact par_some hU
  · refine par_gd (fun _ => ?_)
    refine par_if (fun _ => ?_) (fun _ => ?_)
    · exact par_some hU
    · exact (h_rec42 _ _ _ hU)

theorem km_m_canRun_42 {N : Nat} {s0 : St} : ∀ (n : Nat) (σ : St) (x1 : Int32) (x3 : Int32), Km s0 σ → Par (m_canRun_42 N  n σ x1 x3) (fun _ σ' => Km s0 σ') := by
  intro n
  induction n with
  | zero => intro σ x1 x3 _ r σ' e; cases e
  | succ n ih =>
    intro σ x1 x3 hU
    exact km_m_canRun_42_b (N := N) hU (fun z0 z1 z2 hz => ih z0 z1 z2 hz)

theorem km_m_canRun {N : Nat} {s0 : St} {σ : St} {a1 : Int32} {a2 : Int32} (hU : Km s0 σ) : Par (m_canRun N σ a1 a2) (fun _ σ' => Km s0 σ') := by
  unfold m_canRun
  refine par_if (fun _ => ?_) (fun _ => ?_)
  · exact par_some hU
  · refine par_if (fun _ => ?_) (fun _ => ?_)
    · exact par_some hU
    · refine par_if (fun _ => ?_) (fun _ => ?_)
      · exact par_some hU
      · refine par_if (fun _ => ?_) (fun _ => ?_)
        · exact par_some hU
        · refine par_gd (fun _ => ?_)
          refine par_if (fun _ => ?_) (fun _ => ?_)
          · exact (km_m_canRun_42  N _ _ _ hU)
          · exact par_some hU

theorem km_m_step {N : Nat} {s0 : St} {σ : St} (hU : Km s0 σ) : Par (m_step N σ) (fun _ σ' => Km s0 σ') := by
  unfold m_step
  refine par_if (fun _ => ?_) (fun _ => ?_)
  · exact par_some (km_I hU (by decide))
  · exact par_some (km_I hU (by decide))

theorem km_m_nameOf {N : Nat} {s0 : St} {σ : St} {a1 : Int32} (hU : Km s0 σ) : Par (m_nameOf N σ a1) (fun _ σ' => Km s0 σ') := by
  unfold m_nameOf
  refine par_gd (fun _ => ?_)
  exact par_some hU

theorem km_m_fails {N : Nat} {s0 : St} {σ : St} {a1 : Int32} (hU : Km s0 σ) : Par (m_fails N σ a1) (fun _ σ' => Km s0 σ') := by
  unfold m_fails
  exact par_some (km_I (km_I hU (by decide)) (by decide))

theorem km_m_enter_43_b {N : Nat} {s0 : St} {σ : St} {x1 : Int32} {x2 : Int32} {x3 : Int32} {x4 : Int32} (hU : Km s0 σ) {rec43 : St → Int32 → Int32 → Int32 → Int32 → Option (Int32 × St)} (h_rec43 : ∀ (z0 : St) (z1 : Int32) (z2 : Int32) (z3 : Int32) (z4 : Int32), Km s0 z0 → Par (rec43 z0 z1 z2 z3 z4) (fun _ σ' => Km s0 σ')) : Par (m_enter_43_b N rec43 σ x1 x2 x3 x4) (fun _ σ' => Km s0 σ') := by
  unfold m_enter_43_b
  refine par_gd (fun _ => ?_)
  refine par_if (fun _ => ?_) (fun _ => ?_)
  · refine par_gd (fun _ => ?_)
    exact par_some hU
  · refine par_gd (fun _ => ?_)
    refine par_gd (fun _ => ?_)
    refine par_gd (fun _ => ?_)
    refine par_gd (fun _ => ?_)
    exact (h_rec43 _ _ _ _ _ (km_A hU (by decide)))

theorem km_m_enter_43 {N : Nat} {s0 : St} : ∀ (n : Nat) (σ : St) (x1 : Int32) (x2 : Int32) (x3 : Int32) (x4 : Int32), Km s0 σ → Par (m_enter_43 N  n σ x1 x2 x3 x4) (fun _ σ' => Km s0 σ') := by
  intro n
  induction n with
  | zero => intro σ x1 x2 x3 x4 _ r σ' e; cases e
  | succ n ih =>
    intro σ x1 x2 x3 x4 hU
    exact km_m_enter_43_b (N := N) hU (fun z0 z1 z2 z3 z4 hz => ih z0 z1 z2 z3 z4 hz)

theorem km_m_enter {N : Nat} {s0 : St} {σ : St} {a1 : Int32} (hU : Km s0 σ) : Par (m_enter N σ a1) (fun _ σ' => Km s0 σ') := by
  unfold m_enter
  refine par_if (fun _ => ?_) (fun _ => ?_)
  · exact par_some (km_I hU (by decide))
  · refine par_gd (fun _ => ?_)
    refine par_bd (km_m_frame hU) (fun _ σ2 h1 => ?_)
    exact (km_m_enter_43  N _ _ _ _ _ h1)

theorem km_m_does_110 {N : Nat} {s0 : St} {σ : St} {x1 : Int32} {t1 : Int32} (hU : Km s0 σ) : Par (m_does_110 N σ x1 t1) (fun _ σ' => Km s0 σ') := by
  unfold m_does_110
  exact par_some (km_I hU (by decide))

theorem km_m_does_437 {N : Nat} {s0 : St} {σ : St} {x1 : Int32} {t0 : Int32} (hU : Km s0 σ) : Par (m_does_437 N σ x1 t0) (fun _ σ' => Km s0 σ') := by
  unfold m_does_437
  refine par_if (fun _ => ?_) (fun _ => ?_)
  · refine par_gd (fun _ => ?_)
    exact par_some hU
  · exact par_some hU

theorem km_m_does_429 {N : Nat} {s0 : St} {σ : St} {x1 : Int32} {t0 : Int32} {t1 : Int32} (hU : Km s0 σ) : Par (m_does_429 N σ x1 t0 t1) (fun _ σ' => Km s0 σ') := by
  unfold m_does_429
  refine par_if (fun _ => ?_) (fun _ => ?_)
  · exact (km_m_does_437 hU)
  · exact (km_m_does_437 hU)

theorem km_m_does_413 {N : Nat} {s0 : St} {σ : St} {x1 : Int32} {t0 : Int32} (hU : Km s0 σ) : Par (m_does_413 N σ x1 t0) (fun _ σ' => Km s0 σ') := by
  unfold m_does_413
  refine par_gd (fun _ => ?_)
  refine par_if (fun _ => ?_) (fun _ => ?_)
  · exact (km_m_does_429 hU)
  · exact (km_m_does_429 hU)

theorem km_m_does {N : Nat} {s0 : St} {σ : St} {a1 : Int32} {a2 : Int32} (hU : Km s0 σ) : Par (m_does N σ a1 a2) (fun _ σ' => Km s0 σ') := by
  unfold m_does
  refine par_gd (fun _ => ?_)
  refine par_if (fun _ => ?_) (fun _ => ?_)
  · refine par_bd (km_m_step hU) (fun _ σ3 h1 => ?_)
    exact par_some h1
  · refine par_if (fun _ => ?_) (fun _ => ?_)
    · exact par_some (km_I hU (by decide))
    · refine par_if (fun _ => ?_) (fun _ => ?_)
      · refine par_bd (km_m_chooses hU) (fun r6 σ7 h2 => ?_)
        refine par_if (fun _ => ?_) (fun _ => ?_)
        · exact (km_m_does_110 h2)
        · refine par_bd (km_m_makes h2) (fun r8 σ9 h3 => ?_)
          exact (km_m_does_110 h3)
      · refine par_if (fun _ => ?_) (fun _ => ?_)
        · refine par_gd (fun _ => ?_)
          refine par_bd (km_m_nameOf hU) (fun r11 σ12 h4 => ?_)
          refine par_gd (fun _ => ?_)
          refine par_bd (km_m_nameOf h4) (fun r13 σ14 h5 => ?_)
          refine par_bd (km_m_makes h5) (fun r15 σ16 h6 => ?_)
          exact par_some (km_I h6 (by decide))
        · refine par_if (fun _ => ?_) (fun _ => ?_)
          · refine par_gd (fun _ => ?_)
            refine par_bd (km_m_nameOf hU) (fun r18 σ19 h7 => ?_)
            exact par_some (km_I h7 (by decide))
          · refine par_if (fun _ => ?_) (fun _ => ?_)
            · refine par_gd (fun _ => ?_)
              refine par_bd (km_m_nameOf hU) (fun r21 σ22 h8 => ?_)
              refine par_if (fun _ => ?_) (fun _ => ?_)
              · refine par_gd (fun _ => ?_)
                refine par_bd (km_m_fails h8) (fun _ σ26 h9 => ?_)
                exact par_some h9
              · refine par_gd (fun _ => ?_)
                refine par_bd (km_m_nameOf h8) (fun r23 σ24 h10 => ?_)
                refine par_gd (fun _ => ?_)
                refine par_gd (fun _ => ?_)
                exact par_some (km_I h10 (by decide))
            · refine par_if (fun _ => ?_) (fun _ => ?_)
              · refine par_bd (km_m_enter hU) (fun r28 σ29 h11 => ?_)
                exact par_some h11
              · refine par_if (fun _ => ?_) (fun _ => ?_)
                · refine par_gd (fun _ => ?_)
                  refine par_gd (fun _ => ?_)
                  exact par_some (km_A hU (by decide))
                · refine par_if (fun _ => ?_) (fun _ => ?_)
                  · refine par_gd (fun _ => ?_)
                    refine par_bd (km_m_nameOf hU) (fun r32 σ33 h12 => ?_)
                    refine par_if (fun _ => ?_) (fun _ => ?_)
                    · refine par_gd (fun _ => ?_)
                      refine par_bd (km_m_fails h12) (fun _ σ37 h13 => ?_)
                      exact par_some h13
                    · refine par_gd (fun _ => ?_)
                      refine par_bd (km_m_nameOf h12) (fun r34 σ35 h14 => ?_)
                      refine par_gd (fun _ => ?_)
                      refine par_gd (fun _ => ?_)
                      exact par_some (km_A h14 (by decide))
                  · refine par_if (fun _ => ?_) (fun _ => ?_)
                    · refine par_if (fun _ => ?_) (fun _ => ?_)
                      · refine par_if (fun _ => ?_) (fun _ => ?_)
                        · refine par_gd (fun _ => ?_)
                          exact par_some (km_I (km_I hU (by decide)) (by decide))
                        · refine par_gd (fun _ => ?_)
                          exact par_some (km_I (km_I hU (by decide)) (by decide))
                      · refine par_gd (fun _ => ?_)
                        exact par_some (km_I hU (by decide))
                    · refine par_if (fun _ => ?_) (fun _ => ?_)
                      · refine par_gd (fun _ => ?_)
                        refine par_if (fun _ => ?_) (fun _ => ?_)
                        · refine par_bd (km_m_chooses hU) (fun r42 σ43 h15 => ?_)
                          exact (km_m_does_437 h15)
                        · refine par_gd (fun _ => ?_)
                          refine par_bd (km_m_nameOf hU) (fun r40 σ41 h16 => ?_)
                          refine par_if (fun _ => ?_) (fun _ => ?_)
                          · exact (km_m_does_413 h16)
                          · exact (km_m_does_413 h16)
                      · refine par_if (fun _ => ?_) (fun _ => ?_)
                        · refine par_gd (fun _ => ?_)
                          refine par_if (fun _ => ?_) (fun _ => ?_)
                          · refine par_bd (km_m_chooses hU) (fun r47 σ48 h17 => ?_)
                            exact (km_m_does_437 h17)
                          · refine par_gd (fun _ => ?_)
                            refine par_bd (km_m_nameOf hU) (fun r45 σ46 h18 => ?_)
                            refine par_if (fun _ => ?_) (fun _ => ?_)
                            · exact (km_m_does_413 h18)
                            · exact (km_m_does_413 h18)
                        · refine par_if (fun _ => ?_) (fun _ => ?_)
                          · refine par_gd (fun _ => ?_)
                            refine par_if (fun _ => ?_) (fun _ => ?_)
                            · refine par_bd (km_m_chooses hU) (fun r52 σ53 h19 => ?_)
                              exact (km_m_does_437 h19)
                            · refine par_gd (fun _ => ?_)
                              refine par_bd (km_m_nameOf hU) (fun r50 σ51 h20 => ?_)
                              refine par_if (fun _ => ?_) (fun _ => ?_)
                              · exact (km_m_does_413 h20)
                              · exact (km_m_does_413 h20)
                          · refine par_if (fun _ => ?_) (fun _ => ?_)
                            · refine par_gd (fun _ => ?_)
                              refine par_if (fun _ => ?_) (fun _ => ?_)
                              · refine par_bd (km_m_step hU) (fun _ σ56 h21 => ?_)
                                refine par_gd (fun _ => ?_)
                                exact par_some h21
                              · refine par_gd (fun _ => ?_)
                                exact par_some hU
                            · refine par_gd (fun _ => ?_)
                              refine par_if (fun _ => ?_) (fun _ => ?_)
                              · refine par_bd (km_m_chooses hU) (fun r59 σ60 h22 => ?_)
                                exact (km_m_does_437 h22)
                              · refine par_gd (fun _ => ?_)
                                refine par_bd (km_m_nameOf hU) (fun r57 σ58 h23 => ?_)
                                refine par_if (fun _ => ?_) (fun _ => ?_)
                                · exact (km_m_does_413 h23)
                                · exact (km_m_does_413 h23)

theorem km_m_runs_108_b {N : Nat} {s0 : St} {σ : St} {x2 : Int32} {x3 : Int32} (hU : Km s0 σ) {rec108 : St → Int32 → Int32 → Option (Unit × St)} (h_rec108 : ∀ (z0 : St) (z1 : Int32) (z2 : Int32), Km s0 z0 → Par (rec108 z0 z1 z2) (fun _ σ' => Km s0 σ')) : Par (m_runs_108_b N rec108 σ x2 x3) (fun _ σ' => Km s0 σ') := by
  unfold m_runs_108_b
  refine par_if (fun _ => ?_) (fun _ => ?_)
  · refine par_bd (km_m_does hU) (fun r3 σ4 h1 => ?_)
    exact (h_rec108 _ _ _ h1)
  · exact par_some hU

theorem km_m_runs_108 {N : Nat} {s0 : St} : ∀ (n : Nat) (σ : St) (x2 : Int32) (x3 : Int32), Km s0 σ → Par (m_runs_108 N  n σ x2 x3) (fun _ σ' => Km s0 σ') := by
  intro n
  induction n with
  | zero => intro σ x2 x3 _ r σ' e; cases e
  | succ n ih =>
    intro σ x2 x3 hU
    exact km_m_runs_108_b (N := N) hU (fun z0 z1 z2 hz => ih z0 z1 z2 hz)

theorem km_m_runs_98 {N : Nat} {s0 : St} {σ : St} {x2 : Int32} (hU : Km s0 σ) : Par (m_runs_98 N σ x2) (fun _ σ' => Km s0 σ') := by
  unfold m_runs_98
  refine par_gd (fun _ => ?_)
  exact (km_m_runs_108  N _ _ _ hU)

theorem km_m_runs_91 {N : Nat} {s0 : St} {σ : St} {x1 : Int32} {x2 : Int32} {x3 : Int32} {t1 : Int32} {t2 : Int32} (hU : Km s0 σ) {rec42 : St → Int32 → Int32 → Int32 → Option (Unit × St)} (h_rec42 : ∀ (z0 : St) (z1 : Int32) (z2 : Int32) (z3 : Int32), Km s0 z0 → Par (rec42 z0 z1 z2 z3) (fun _ σ' => Km s0 σ')) : Par (m_runs_91 N rec42 σ x1 x2 x3 t1 t2) (fun _ σ' => Km s0 σ') := by
  unfold m_runs_91
  refine par_gd (fun _ => ?_)
  exact (h_rec42 _ _ _ _ (km_A hU (by decide)))

theorem km_m_runs_42_b {N : Nat} {s0 : St} {σ : St} {x1 : Int32} {x2 : Int32} {x3 : Int32} (hU : Km s0 σ) {rec42 : St → Int32 → Int32 → Int32 → Option (Unit × St)} (h_rec42 : ∀ (z0 : St) (z1 : Int32) (z2 : Int32) (z3 : Int32), Km s0 z0 → Par (rec42 z0 z1 z2 z3) (fun _ σ' => Km s0 σ')) : Par (m_runs_42_b N rec42 σ x1 x2 x3) (fun _ σ' => Km s0 σ') := by
  unfold m_runs_42_b
  refine par_gd (fun _ => ?_)
  refine par_if (fun _ => ?_) (fun _ => ?_)
  · exact (km_m_runs_98 hU)
  · refine par_gd (fun _ => ?_)
    refine par_if (fun _ => ?_) (fun _ => ?_)
    · refine par_bd (km_m_makes hU) (fun r5 σ6 h1 => ?_)
      exact (km_m_runs_91 h1 h_rec42)
    · exact (km_m_runs_91 hU h_rec42)

theorem km_m_runs_42 {N : Nat} {s0 : St} : ∀ (n : Nat) (σ : St) (x1 : Int32) (x2 : Int32) (x3 : Int32), Km s0 σ → Par (m_runs_42 N  n σ x1 x2 x3) (fun _ σ' => Km s0 σ') := by
  intro n
  induction n with
  | zero => intro σ x1 x2 x3 _ r σ' e; cases e
  | succ n ih =>
    intro σ x1 x2 x3 hU
    exact km_m_runs_42_b (N := N) hU (fun z0 z1 z2 z3 hz => ih z0 z1 z2 z3 hz)

theorem km_m_runs {N : Nat} {s0 : St} {σ : St} {a1 : Int32} {a2 : Int32} (hU : Km s0 σ) : Par (m_runs N σ a1 a2) (fun _ σ' => Km s0 σ') := by
  unfold m_runs
  refine par_bd (km_m_frame (km_I (km_I (km_I (km_I (km_I (km_I (km_I hU (by decide)) (by decide)) (by decide)) (by decide)) (by decide)) (by decide)) (by decide))) (fun _ σ2 h1 => ?_)
  exact (km_m_runs_42  N _ _ _ _ h1)

def Kn (s0 σ : St) : Prop := (∀ k, k < 40 → k ≠ 0 → gI σ k = gI s0 k) ∧ (∀ j, j ≤ 40 → gA σ j = gA s0 j)
theorem kn_m {s0 σ : St} (h : Km s0 σ) : Kn s0 σ := ⟨fun k h1 h2 => h.1 k (Or.inl h1) h2, h.2⟩
theorem kn_m_run {N : Nat} {s0 : St} {σ : St} {a1 : Int32} {a2 : Int32} (hU : Km s0 σ) : Par (m_run N σ a1 a2) (fun _ σ' => Kn s0 σ') := by
  unfold m_run
  refine par_bd (km_m_canRun (km_I hU (by decide))) (fun r1 σ2 h1 => ?_)
  refine par_if (fun _ => par_some (kn_m h1)) (fun _ => ?_)
  refine par_bd (km_m_runs h1) (fun _ σ4 h2 => ?_)
  refine par_some ⟨fun k k1 k2 => ?_, h2.2⟩
  rw [gI_ne (by omega), gI_ne (by omega), gI_ne (by omega), gI_ne (by omega), gI_ne (by omega)]
  exact h2.1 k (Or.inl k1) k2

theorem km_m_ran {N : Nat} {s0 : St} {σ : St} {a1 : Int32} (hU : Km s0 σ) : Par (m_ran N σ a1) (fun _ σ' => Km s0 σ') := by
  unfold m_ran
  refine par_if (fun _ => ?_) (fun _ => ?_)
  · exact par_some (km_I hU (by decide))
  · refine par_if (fun _ => ?_) (fun _ => ?_)
    · exact par_some (km_I hU (by decide))
    · refine par_if (fun _ => ?_) (fun _ => ?_)
      · exact par_some (km_I hU (by decide))
      · refine par_if (fun _ => ?_) (fun _ => ?_)
        · exact par_some (km_I hU (by decide))
        · refine par_if (fun _ => ?_) (fun _ => ?_)
          · exact par_some (km_I hU (by decide))
          · exact par_some (km_I hU (by decide))

theorem km_m_tries_95 {N : Nat} {s0 : St} {σ : St} {x1 : Int32} {x2 : Int32} (hU : Km s0 σ) {rec23 : St → Int32 → Int32 → Option (Int32 × St)} (h_rec23 : ∀ (z0 : St) (z1 : Int32) (z2 : Int32), Km s0 z0 → Par (rec23 z0 z1 z2) (fun _ σ' => Km s0 σ')) : Par (m_tries_95 N rec23 σ x1 x2) (fun _ σ' => Km s0 σ') := by
  unfold m_tries_95
  exact (h_rec23 _ _ _ hU)

theorem km_m_tries_89 {N : Nat} {s0 : St} {σ : St} {x1 : Int32} {x2 : Int32} {x3 : Int32} (hU : Km s0 σ) {rec23 : St → Int32 → Int32 → Option (Int32 × St)} (h_rec23 : ∀ (z0 : St) (z1 : Int32) (z2 : Int32), Km s0 z0 → Par (rec23 z0 z1 z2) (fun _ σ' => Km s0 σ')) {rec40 : St → Int32 → Int32 → Int32 → Option (Int32 × St)} (h_rec40 : ∀ (z0 : St) (z1 : Int32) (z2 : Int32) (z3 : Int32), Km s0 z0 → Par (rec40 z0 z1 z2 z3) (fun _ σ' => Km s0 σ')) : Par (m_tries_89 N rec23 rec40 σ x1 x2 x3) (fun _ σ' => Km s0 σ') := by
  unfold m_tries_89
  exact (h_rec40 _ _ _ _ hU)

theorem km_m_tries_40_b {N : Nat} {s0 : St} {σ : St} {x1 : Int32} {x2 : Int32} {x3 : Int32} (hU : Km s0 σ) {rec23 : St → Int32 → Int32 → Option (Int32 × St)} (h_rec23 : ∀ (z0 : St) (z1 : Int32) (z2 : Int32), Km s0 z0 → Par (rec23 z0 z1 z2) (fun _ σ' => Km s0 σ')) {rec40 : St → Int32 → Int32 → Int32 → Option (Int32 × St)} (h_rec40 : ∀ (z0 : St) (z1 : Int32) (z2 : Int32) (z3 : Int32), Km s0 z0 → Par (rec40 z0 z1 z2 z3) (fun _ σ' => Km s0 σ')) : Par (m_tries_40_b N rec23 rec40 σ x1 x2 x3) (fun _ σ' => Km s0 σ') := by
  unfold m_tries_40_b
  refine par_if (fun _ => ?_) (fun _ => ?_)
  · exact (km_m_tries_95 hU h_rec23)
  · refine par_bd (km_m_canRun hU) (fun r1 σ2 h1 => ?_)
    refine par_if (fun _ => ?_) (fun _ => ?_)
    · exact (km_m_tries_89 h1 h_rec23 h_rec40)
    · refine par_bd (km_m_runs h1) (fun _ σ4 h2 => ?_)
      refine par_if (fun _ => ?_) (fun _ => ?_)
      · refine par_if (fun _ => ?_) (fun _ => ?_)
        · exact par_some h2
        · exact (km_m_tries_89 h2 h_rec23 h_rec40)
      · exact (km_m_tries_89 h2 h_rec23 h_rec40)

theorem km_m_tries_40 {N : Nat} {s0 : St} {rec23 : St → Int32 → Int32 → Option (Int32 × St)} (h_rec23 : ∀ (z0 : St) (z1 : Int32) (z2 : Int32), Km s0 z0 → Par (rec23 z0 z1 z2) (fun _ σ' => Km s0 σ')) : ∀ (n : Nat) (σ : St) (x1 : Int32) (x2 : Int32) (x3 : Int32), Km s0 σ → Par (m_tries_40 N rec23 n σ x1 x2 x3) (fun _ σ' => Km s0 σ') := by
  intro n
  induction n with
  | zero => intro σ x1 x2 x3 _ r σ' e; cases e
  | succ n ih =>
    intro σ x1 x2 x3 hU
    exact km_m_tries_40_b (N := N) hU h_rec23 (fun z0 z1 z2 z3 hz => ih z0 z1 z2 z3 hz)

theorem km_m_tries_23_b {N : Nat} {s0 : St} {σ : St} {x1 : Int32} {x2 : Int32} (hU : Km s0 σ) {rec23 : St → Int32 → Int32 → Option (Int32 × St)} (h_rec23 : ∀ (z0 : St) (z1 : Int32) (z2 : Int32), Km s0 z0 → Par (rec23 z0 z1 z2) (fun _ σ' => Km s0 σ')) : Par (m_tries_23_b N rec23 σ x1 x2) (fun _ σ' => Km s0 σ') := by
  unfold m_tries_23_b
  refine par_gd (fun _ => ?_)
  refine par_if (fun _ => ?_) (fun _ => ?_)
  · exact par_some hU
  · exact (km_m_tries_40 h_rec23 N _ _ _ _ hU)

theorem km_m_tries_23 {N : Nat} {s0 : St} : ∀ (n : Nat) (σ : St) (x1 : Int32) (x2 : Int32), Km s0 σ → Par (m_tries_23 N  n σ x1 x2) (fun _ σ' => Km s0 σ') := by
  intro n
  induction n with
  | zero => intro σ x1 x2 _ r σ' e; cases e
  | succ n ih =>
    intro σ x1 x2 hU
    exact km_m_tries_23_b (N := N) hU (fun z0 z1 z2 hz => ih z0 z1 z2 hz)

theorem km_m_tries {N : Nat} {s0 : St} {σ : St} {a1 : Int32} (hU : Km s0 σ) : Par (m_tries N σ a1) (fun _ σ' => Km s0 σ') := by
  unfold m_tries
  refine par_if (fun _ => ?_) (fun _ => ?_)
  · exact par_some (km_I hU (by decide))
  · refine par_gd (fun _ => ?_)
    refine par_if (fun _ => ?_) (fun _ => ?_)
    · exact (km_m_tries_23  N _ _ _ (km_I hU (by decide)))
    · exact par_some (km_I hU (by decide))

theorem km_m_price {N : Nat} {s0 : St} {σ : St} {a1 : Int32} {a2 : Int32} (hU : Km s0 σ) : Par (m_price N σ a1 a2) (fun _ σ' => Km s0 σ') := by
  unfold m_price
  refine par_if (fun _ => ?_) (fun _ => ?_)
  · exact par_some (km_I hU (by decide))
  · refine par_if (fun _ => ?_) (fun _ => ?_)
    · exact par_some (km_I hU (by decide))
    · refine par_if (fun _ => ?_) (fun _ => ?_)
      · exact par_some (km_I hU (by decide))
      · refine par_if (fun _ => ?_) (fun _ => ?_)
        · refine par_gd (fun _ => ?_)
          exact par_some (km_A (km_I hU (by decide)) (by decide))
        · exact par_some (km_I hU (by decide))

theorem km_m_guards_30 {N : Nat} {s0 : St} {σ : St} {x2 : Int32} {t0 : Int32} {t1 : Int32} (hU : Km s0 σ) {rec4 : St → Int32 → Int32 → Option (Int32 × St)} (h_rec4 : ∀ (z0 : St) (z1 : Int32) (z2 : Int32), Km s0 z0 → Par (rec4 z0 z1 z2) (fun _ σ' => Km s0 σ')) : Par (m_guards_30 N rec4 σ x2 t0 t1) (fun _ σ' => Km s0 σ') := by
  unfold m_guards_30
  exact (h_rec4 _ _ _ hU)

theorem km_m_guards_4_b {N : Nat} {s0 : St} {σ : St} {x1 : Int32} {x2 : Int32} (hU : Km s0 σ) {rec4 : St → Int32 → Int32 → Option (Int32 × St)} (h_rec4 : ∀ (z0 : St) (z1 : Int32) (z2 : Int32), Km s0 z0 → Par (rec4 z0 z1 z2) (fun _ σ' => Km s0 σ')) : Par (m_guards_4_b N rec4 σ x1 x2) (fun _ σ' => Km s0 σ') := by
  unfold m_guards_4_b
  refine par_gd (fun _ => ?_)
  refine par_if (fun _ => ?_) (fun _ => ?_)
  · exact par_some hU
  · refine par_bd (km_m_useFact hU) (fun r1 σ2 h1 => ?_)
    refine par_if (fun _ => ?_) (fun _ => ?_)
    · exact (km_m_guards_30 h1 h_rec4)
    · exact (km_m_guards_30 h1 h_rec4)

theorem km_m_guards_4 {N : Nat} {s0 : St} : ∀ (n : Nat) (σ : St) (x1 : Int32) (x2 : Int32), Km s0 σ → Par (m_guards_4 N  n σ x1 x2) (fun _ σ' => Km s0 σ') := by
  intro n
  induction n with
  | zero => intro σ x1 x2 _ r σ' e; cases e
  | succ n ih =>
    intro σ x1 x2 hU
    exact km_m_guards_4_b (N := N) hU (fun z0 z1 z2 hz => ih z0 z1 z2 hz)

theorem km_m_guards {N : Nat} {s0 : St} {σ : St} (hU : Km s0 σ) : Par (m_guards N σ) (fun _ σ' => Km s0 σ') := by
  unfold m_guards
  exact (km_m_guards_4  N _ _ _ hU)

theorem km_m_kindOf {N : Nat} {s0 : St} {σ : St} {a1 : Int32} (hU : Km s0 σ) : Par (m_kindOf N σ a1) (fun _ σ' => Km s0 σ') := by
  unfold m_kindOf
  refine par_if (fun _ => ?_) (fun _ => ?_)
  · refine par_if (fun _ => ?_) (fun _ => ?_)
    · exact par_some hU
    · exact par_some hU
  · exact par_some hU

theorem km_m_mend_304 {N : Nat} {s0 : St} {σ : St} {x1 : Int32} {x2 : Int32} {x3 : Int32} (hU : Km s0 σ) {rec260 : St → Int32 → Int32 → Int32 → Option (Int32 × St)} (h_rec260 : ∀ (z0 : St) (z1 : Int32) (z2 : Int32) (z3 : Int32), Km s0 z0 → Par (rec260 z0 z1 z2 z3) (fun _ σ' => Km s0 σ')) : Par (m_mend_304 N rec260 σ x1 x2 x3) (fun _ σ' => Km s0 σ') := by
  unfold m_mend_304
  exact (h_rec260 _ _ _ _ hU)

theorem km_m_mend_260_b {N : Nat} {s0 : St} {σ : St} {x1 : Int32} {x2 : Int32} {x3 : Int32} (hU : Km s0 σ) {rec260 : St → Int32 → Int32 → Int32 → Option (Int32 × St)} (h_rec260 : ∀ (z0 : St) (z1 : Int32) (z2 : Int32) (z3 : Int32), Km s0 z0 → Par (rec260 z0 z1 z2 z3) (fun _ σ' => Km s0 σ')) : Par (m_mend_260_b N rec260 σ x1 x2 x3) (fun _ σ' => Km s0 σ') := by
  unfold m_mend_260_b
  refine par_if (fun _ => ?_) (fun _ => ?_)
  · exact par_some (km_I hU (by decide))
  · refine par_if (fun _ => ?_) (fun _ => ?_)
    · exact (km_m_mend_304 hU h_rec260)
    · refine par_gd (fun _ => ?_)
      refine par_gd (fun _ => ?_)
      exact (km_m_mend_304 (km_I (km_A hU (by decide)) (by decide)) h_rec260)

theorem km_m_mend_260 {N : Nat} {s0 : St} : ∀ (n : Nat) (σ : St) (x1 : Int32) (x2 : Int32) (x3 : Int32), Km s0 σ → Par (m_mend_260 N  n σ x1 x2 x3) (fun _ σ' => Km s0 σ') := by
  intro n
  induction n with
  | zero => intro σ x1 x2 x3 _ r σ' e; cases e
  | succ n ih =>
    intro σ x1 x2 x3 hU
    exact km_m_mend_260_b (N := N) hU (fun z0 z1 z2 z3 hz => ih z0 z1 z2 z3 hz)

theorem km_m_mend_253 {N : Nat} {s0 : St} {σ : St} {x1 : Int32} {x2 : Int32} (hU : Km s0 σ) : Par (m_mend_253 N σ x1 x2) (fun _ σ' => Km s0 σ') := by
  unfold m_mend_253
  exact (km_m_mend_260  N _ _ _ _ (km_I hU (by decide)))

theorem km_m_mend_247 {N : Nat} {s0 : St} {σ : St} {x1 : Int32} {x2 : Int32} {x3 : Int32} (hU : Km s0 σ) {rec106 : St → Int32 → Int32 → Int32 → Option (Int32 × St)} (h_rec106 : ∀ (z0 : St) (z1 : Int32) (z2 : Int32) (z3 : Int32), Km s0 z0 → Par (rec106 z0 z1 z2 z3) (fun _ σ' => Km s0 σ')) : Par (m_mend_247 N rec106 σ x1 x2 x3) (fun _ σ' => Km s0 σ') := by
  unfold m_mend_247
  exact (h_rec106 _ _ _ _ hU)

theorem km_m_mend_234 {N : Nat} {s0 : St} {σ : St} {x3 : Int32} {x4 : Int32} (hU : Km s0 σ) {rec106 : St → Int32 → Int32 → Int32 → Option (Int32 × St)} (h_rec106 : ∀ (z0 : St) (z1 : Int32) (z2 : Int32) (z3 : Int32), Km s0 z0 → Par (rec106 z0 z1 z2 z3) (fun _ σ' => Km s0 σ')) : Par (m_mend_234 N rec106 σ x3 x4) (fun _ σ' => Km s0 σ') := by
  unfold m_mend_234
  refine par_bd (km_m_guards hU) (fun r11 σ12 h1 => ?_)
  exact (km_m_mend_247 (km_I h1 (by decide)) h_rec106)

theorem km_m_mend_200 {N : Nat} {s0 : St} {σ : St} {x1 : Int32} {x2 : Int32} {x3 : Int32} {x4 : Int32} (hU : Km s0 σ) {rec106 : St → Int32 → Int32 → Int32 → Option (Int32 × St)} (h_rec106 : ∀ (z0 : St) (z1 : Int32) (z2 : Int32) (z3 : Int32), Km s0 z0 → Par (rec106 z0 z1 z2 z3) (fun _ σ' => Km s0 σ')) : Par (m_mend_200 N rec106 σ x1 x2 x3 x4) (fun _ σ' => Km s0 σ') := by
  unfold m_mend_200
  refine par_bd (km_m_reckons hU) (fun _ σ8 h1 => ?_)
  refine par_gd (fun _ => ?_)
  refine par_bd (km_m_guards h1) (fun r9 σ10 h2 => ?_)
  refine par_if (fun _ => ?_) (fun _ => ?_)
  · exact (km_m_mend_234 h2 h_rec106)
  · refine par_if (fun _ => ?_) (fun _ => ?_)
    · exact (km_m_mend_234 h2 h_rec106)
    · exact (km_m_mend_247 h2 h_rec106)

theorem km_m_mend_186 {N : Nat} {s0 : St} {σ : St} {x1 : Int32} {x2 : Int32} {x3 : Int32} {x4 : Int32} (hU : Km s0 σ) {rec106 : St → Int32 → Int32 → Int32 → Option (Int32 × St)} (h_rec106 : ∀ (z0 : St) (z1 : Int32) (z2 : Int32) (z3 : Int32), Km s0 z0 → Par (rec106 z0 z1 z2 z3) (fun _ σ' => Km s0 σ')) : Par (m_mend_186 N rec106 σ x1 x2 x3 x4) (fun _ σ' => Km s0 σ') := by
  unfold m_mend_186
  refine par_if (fun _ => ?_) (fun _ => ?_)
  · exact (km_m_mend_200 hU h_rec106)
  · refine par_if (fun _ => ?_) (fun _ => ?_)
    · exact (km_m_mend_200 hU h_rec106)
    · exact (km_m_mend_247 hU h_rec106)

theorem km_m_mend_180 {N : Nat} {s0 : St} {σ : St} {x1 : Int32} {x2 : Int32} {x3 : Int32} {x4 : Int32} {x5 : Int32} (hU : Km s0 σ) {rec106 : St → Int32 → Int32 → Int32 → Option (Int32 × St)} (h_rec106 : ∀ (z0 : St) (z1 : Int32) (z2 : Int32) (z3 : Int32), Km s0 z0 → Par (rec106 z0 z1 z2 z3) (fun _ σ' => Km s0 σ')) {rec126 : St → Int32 → Int32 → Int32 → Int32 → Int32 → Option (Int32 × St)} (h_rec126 : ∀ (z0 : St) (z1 : Int32) (z2 : Int32) (z3 : Int32) (z4 : Int32) (z5 : Int32), Km s0 z0 → Par (rec126 z0 z1 z2 z3 z4 z5) (fun _ σ' => Km s0 σ')) : Par (m_mend_180 N rec106 rec126 σ x1 x2 x3 x4 x5) (fun _ σ' => Km s0 σ') := by
  unfold m_mend_180
  exact (h_rec126 _ _ _ _ _ _ hU)

theorem km_m_mend_126_b {N : Nat} {s0 : St} {σ : St} {x1 : Int32} {x2 : Int32} {x3 : Int32} {x4 : Int32} {x5 : Int32} (hU : Km s0 σ) {rec106 : St → Int32 → Int32 → Int32 → Option (Int32 × St)} (h_rec106 : ∀ (z0 : St) (z1 : Int32) (z2 : Int32) (z3 : Int32), Km s0 z0 → Par (rec106 z0 z1 z2 z3) (fun _ σ' => Km s0 σ')) {rec126 : St → Int32 → Int32 → Int32 → Int32 → Int32 → Option (Int32 × St)} (h_rec126 : ∀ (z0 : St) (z1 : Int32) (z2 : Int32) (z3 : Int32) (z4 : Int32) (z5 : Int32), Km s0 z0 → Par (rec126 z0 z1 z2 z3 z4 z5) (fun _ σ' => Km s0 σ')) : Par (m_mend_126_b N rec106 rec126 σ x1 x2 x3 x4 x5) (fun _ σ' => Km s0 σ') := by
  unfold m_mend_126_b
  refine par_if (fun _ => ?_) (fun _ => ?_)
  · exact (km_m_mend_186 hU h_rec106)
  · refine par_if (fun _ => ?_) (fun _ => ?_)
    · exact (km_m_mend_180 hU h_rec106 h_rec126)
    · refine par_gd (fun _ => ?_)
      refine par_gd (fun _ => ?_)
      refine par_gd (fun _ => ?_)
      refine par_bd (km_m_kindOf (km_A hU (by decide))) (fun r13 σ14 h1 => ?_)
      refine par_gd (fun _ => ?_)
      exact (km_m_mend_180 h1 h_rec106 h_rec126)

theorem km_m_mend_126 {N : Nat} {s0 : St} {rec106 : St → Int32 → Int32 → Int32 → Option (Int32 × St)} (h_rec106 : ∀ (z0 : St) (z1 : Int32) (z2 : Int32) (z3 : Int32), Km s0 z0 → Par (rec106 z0 z1 z2 z3) (fun _ σ' => Km s0 σ')) : ∀ (n : Nat) (σ : St) (x1 : Int32) (x2 : Int32) (x3 : Int32) (x4 : Int32) (x5 : Int32), Km s0 σ → Par (m_mend_126 N rec106 n σ x1 x2 x3 x4 x5) (fun _ σ' => Km s0 σ') := by
  intro n
  induction n with
  | zero => intro σ x1 x2 x3 x4 x5 _ r σ' e; cases e
  | succ n ih =>
    intro σ x1 x2 x3 x4 x5 hU
    exact km_m_mend_126_b (N := N) hU h_rec106 (fun z0 z1 z2 z3 z4 z5 hz => ih z0 z1 z2 z3 z4 z5 hz)

theorem km_m_mend_106_b {N : Nat} {s0 : St} {σ : St} {x1 : Int32} {x2 : Int32} {x3 : Int32} (hU : Km s0 σ) {rec106 : St → Int32 → Int32 → Int32 → Option (Int32 × St)} (h_rec106 : ∀ (z0 : St) (z1 : Int32) (z2 : Int32) (z3 : Int32), Km s0 z0 → Par (rec106 z0 z1 z2 z3) (fun _ σ' => Km s0 σ')) : Par (m_mend_106_b N rec106 σ x1 x2 x3) (fun _ σ' => Km s0 σ') := by
  unfold m_mend_106_b
  refine par_if (fun _ => ?_) (fun _ => ?_)
  · exact (km_m_mend_253 hU)
  · refine par_bd (km_m_frees hU) (fun _ σ6 h1 => ?_)
    exact (km_m_mend_126 h_rec106 N _ _ _ _ _ _ h1)

theorem km_m_mend_106 {N : Nat} {s0 : St} : ∀ (n : Nat) (σ : St) (x1 : Int32) (x2 : Int32) (x3 : Int32), Km s0 σ → Par (m_mend_106 N  n σ x1 x2 x3) (fun _ σ' => Km s0 σ') := by
  intro n
  induction n with
  | zero => intro σ x1 x2 x3 _ r σ' e; cases e
  | succ n ih =>
    intro σ x1 x2 x3 hU
    exact km_m_mend_106_b (N := N) hU (fun z0 z1 z2 z3 hz => ih z0 z1 z2 z3 hz)

theorem km_m_mend_100 {N : Nat} {s0 : St} {σ : St} (hU : Km s0 σ) : Par (m_mend_100 N σ) (fun _ σ' => Km s0 σ') := by
  unfold m_mend_100
  exact (km_m_mend_106  N _ _ _ _ hU)

theorem km_m_mend_94 {N : Nat} {s0 : St} {σ : St} {x1 : Int32} (hU : Km s0 σ) {rec30 : St → Int32 → Option (Int32 × St)} (h_rec30 : ∀ (z0 : St) (z1 : Int32), Km s0 z0 → Par (rec30 z0 z1) (fun _ σ' => Km s0 σ')) : Par (m_mend_94 N rec30 σ x1) (fun _ σ' => Km s0 σ') := by
  unfold m_mend_94
  exact (h_rec30 _ _ hU)

theorem km_m_mend_74 {N : Nat} {s0 : St} {σ : St} {x1 : Int32} (hU : Km s0 σ) {rec30 : St → Int32 → Option (Int32 × St)} (h_rec30 : ∀ (z0 : St) (z1 : Int32), Km s0 z0 → Par (rec30 z0 z1) (fun _ σ' => Km s0 σ')) : Par (m_mend_74 N rec30 σ x1) (fun _ σ' => Km s0 σ') := by
  unfold m_mend_74
  refine par_gd (fun _ => ?_)
  exact (km_m_mend_94 (km_I (km_A hU (by decide)) (by decide)) h_rec30)

theorem km_m_mend_30_b {N : Nat} {s0 : St} {σ : St} {x1 : Int32} (hU : Km s0 σ) {rec30 : St → Int32 → Option (Int32 × St)} (h_rec30 : ∀ (z0 : St) (z1 : Int32), Km s0 z0 → Par (rec30 z0 z1) (fun _ σ' => Km s0 σ')) : Par (m_mend_30_b N rec30 σ x1) (fun _ σ' => Km s0 σ') := by
  unfold m_mend_30_b
  refine par_if (fun _ => ?_) (fun _ => ?_)
  · exact (km_m_mend_100 hU)
  · refine par_if (fun _ => ?_) (fun _ => ?_)
    · exact (km_m_mend_100 hU)
    · refine par_gd (fun _ => ?_)
      refine par_if (fun _ => ?_) (fun _ => ?_)
      · refine par_if (fun _ => ?_) (fun _ => ?_)
        · exact (km_m_mend_74 hU h_rec30)
        · refine par_if (fun _ => ?_) (fun _ => ?_)
          · exact (km_m_mend_94 hU h_rec30)
          · exact (km_m_mend_74 hU h_rec30)
      · exact (km_m_mend_94 hU h_rec30)

theorem km_m_mend_30 {N : Nat} {s0 : St} : ∀ (n : Nat) (σ : St) (x1 : Int32), Km s0 σ → Par (m_mend_30 N  n σ x1) (fun _ σ' => Km s0 σ') := by
  intro n
  induction n with
  | zero => intro σ x1 _ r σ' e; cases e
  | succ n ih =>
    intro σ x1 hU
    exact km_m_mend_30_b (N := N) hU (fun z0 z1 hz => ih z0 z1 hz)

theorem km_m_mend {N : Nat} {s0 : St} {σ : St} (hU : Km s0 σ) : Par (m_mend N σ) (fun _ σ' => Km s0 σ') := by
  unfold m_mend
  refine par_if (fun _ => ?_) (fun _ => ?_)
  · exact par_some (km_I hU (by decide))
  · refine par_bd (km_m_frees (km_I hU (by decide))) (fun _ σ2 h1 => ?_)
    refine par_bd (km_m_reckons h1) (fun _ σ4 h2 => ?_)
    exact (km_m_mend_30  N _ _ (km_I h2 (by decide)))

theorem km_m_mended {N : Nat} {s0 : St} {σ : St} {a1 : Int32} (hU : Km s0 σ) : Par (m_mended N σ a1) (fun _ σ' => Km s0 σ') := by
  unfold m_mended
  refine par_if (fun _ => ?_) (fun _ => ?_)
  · exact par_some (km_I hU (by decide))
  · refine par_if (fun _ => ?_) (fun _ => ?_)
    · exact par_some (km_I hU (by decide))
    · refine par_if (fun _ => ?_) (fun _ => ?_)
      · refine par_if (fun _ => ?_) (fun _ => ?_)
        · refine par_gd (fun _ => ?_)
          refine par_if (fun _ => ?_) (fun _ => ?_)
          · refine par_if (fun _ => ?_) (fun _ => ?_)
            · exact par_some (km_I hU (by decide))
            · exact par_some (km_I hU (by decide))
          · exact par_some (km_I hU (by decide))
        · refine par_if (fun _ => ?_) (fun _ => ?_)
          · exact par_some (km_I hU (by decide))
          · exact par_some (km_I hU (by decide))
      · exact par_some (km_I hU (by decide))

theorem km_m_count_83 {N : Nat} {s0 : St} {σ : St} {x1 : Int32} {x2 : Int32} {x3 : Int32} (hU : Km s0 σ) : Par (m_count_83 N σ x1 x2 x3) (fun _ σ' => Km s0 σ') := by
  unfold m_count_83
  refine par_if (fun _ => ?_) (fun _ => ?_)
  · refine par_bd (km_m_routinesMany hU) (fun r6 σ7 h1 => ?_)
    exact par_some h1
  · refine par_if (fun _ => ?_) (fun _ => ?_)
    · refine par_gd (fun _ => ?_)
      exact par_some hU
    · refine par_if (fun _ => ?_) (fun _ => ?_)
      · refine par_gd (fun _ => ?_)
        exact par_some hU
      · refine par_if (fun _ => ?_) (fun _ => ?_)
        · exact par_some hU
        · refine par_if (fun _ => ?_) (fun _ => ?_)
          · exact par_some hU
          · refine par_if (fun _ => ?_) (fun _ => ?_)
            · exact par_some hU
            · exact par_some hU

theorem km_m_count_75 {N : Nat} {s0 : St} {σ : St} {x1 : Int32} {x2 : Int32} {x4 : Int32} {t0 : Int32} {t1 : Int32} (hU : Km s0 σ) {rec30 : St → Int32 → Int32 → Int32 → Int32 → Option (Int32 × St)} (h_rec30 : ∀ (z0 : St) (z1 : Int32) (z2 : Int32) (z3 : Int32) (z4 : Int32), Km s0 z0 → Par (rec30 z0 z1 z2 z3 z4) (fun _ σ' => Km s0 σ')) : Par (m_count_75 N rec30 σ x1 x2 x4 t0 t1) (fun _ σ' => Km s0 σ') := by
  unfold m_count_75
  exact (h_rec30 _ _ _ _ _ hU)

theorem km_m_count_57 {N : Nat} {s0 : St} {σ : St} {x1 : Int32} {x3 : Int32} {x4 : Int32} {t0 : Int32} {t1 : Int32} (hU : Km s0 σ) {rec30 : St → Int32 → Int32 → Int32 → Int32 → Option (Int32 × St)} (h_rec30 : ∀ (z0 : St) (z1 : Int32) (z2 : Int32) (z3 : Int32) (z4 : Int32), Km s0 z0 → Par (rec30 z0 z1 z2 z3 z4) (fun _ σ' => Km s0 σ')) : Par (m_count_57 N rec30 σ x1 x3 x4 t0 t1) (fun _ σ' => Km s0 σ') := by
  unfold m_count_57
  refine par_bd (km_m_useFact hU) (fun r15 σ16 h1 => ?_)
  refine par_if (fun _ => ?_) (fun _ => ?_)
  · exact (km_m_count_75 h1 h_rec30)
  · exact (km_m_count_75 h1 h_rec30)

theorem km_m_count_30_b {N : Nat} {s0 : St} {σ : St} {x1 : Int32} {x2 : Int32} {x3 : Int32} {x4 : Int32} (hU : Km s0 σ) {rec30 : St → Int32 → Int32 → Int32 → Int32 → Option (Int32 × St)} (h_rec30 : ∀ (z0 : St) (z1 : Int32) (z2 : Int32) (z3 : Int32) (z4 : Int32), Km s0 z0 → Par (rec30 z0 z1 z2 z3 z4) (fun _ σ' => Km s0 σ')) : Par (m_count_30_b N rec30 σ x1 x2 x3 x4) (fun _ σ' => Km s0 σ') := by
  unfold m_count_30_b
  refine par_gd (fun _ => ?_)
  refine par_if (fun _ => ?_) (fun _ => ?_)
  · exact (km_m_count_83 hU)
  · refine par_bd (km_m_useFact hU) (fun r13 σ14 h1 => ?_)
    refine par_if (fun _ => ?_) (fun _ => ?_)
    · exact (km_m_count_57 h1 h_rec30)
    · exact (km_m_count_57 h1 h_rec30)

theorem km_m_count_30 {N : Nat} {s0 : St} : ∀ (n : Nat) (σ : St) (x1 : Int32) (x2 : Int32) (x3 : Int32) (x4 : Int32), Km s0 σ → Par (m_count_30 N  n σ x1 x2 x3 x4) (fun _ σ' => Km s0 σ') := by
  intro n
  induction n with
  | zero => intro σ x1 x2 x3 x4 _ r σ' e; cases e
  | succ n ih =>
    intro σ x1 x2 x3 x4 hU
    exact km_m_count_30_b (N := N) hU (fun z0 z1 z2 z3 z4 hz => ih z0 z1 z2 z3 z4 hz)

theorem km_m_count_19 {N : Nat} {s0 : St} {σ : St} {x1 : Int32} {x2 : Int32} {x3 : Int32} (hU : Km s0 σ) : Par (m_count_19 N σ x1 x2 x3) (fun _ σ' => Km s0 σ') := by
  unfold m_count_19
  refine par_bd (km_m_frees hU) (fun _ σ2 h1 => ?_)
  refine par_bd (km_m_reckons h1) (fun _ σ4 h2 => ?_)
  exact (km_m_count_30  N _ _ _ _ _ h2)

theorem km_m_count {N : Nat} {s0 : St} {σ : St} {a1 : Int32} (hU : Km s0 σ) : Par (m_count N σ a1) (fun _ σ' => Km s0 σ') := by
  unfold m_count
  refine par_if (fun _ => ?_) (fun _ => ?_)
  · exact (km_m_count_19 (km_I hU (by decide)))
  · refine par_if (fun _ => ?_) (fun _ => ?_)
    · exact (km_m_count_19 (km_I hU (by decide)))
    · exact (km_m_count_83 (km_I hU (by decide)))
