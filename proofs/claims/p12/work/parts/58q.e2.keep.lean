/-! the reference's reading: values and calls keep what is known of goals -/
theorem kj_m_next {N : Nat} {s0 : Nat → Prop} {σ : St} (hU : KP s0 σ) : Par (m_next N σ) (fun _ σ' => KP s0 σ') := (kz_m_next (kz_r σ)).mono (fun _ σ' z => kj_z z hU)
theorem kj_m_isSign {N : Nat} {s0 : Nat → Prop} {σ : St} {a1 : Int32} (hU : KP s0 σ) : Par (m_isSign N σ a1) (fun _ σ' => KP s0 σ') := (kz_m_isSign (kz_r σ)).mono (fun _ σ' z => kj_z z hU)
theorem kj_m_isWord {N : Nat} {s0 : Nat → Prop} {σ : St} {a1 : Int32} (hU : KP s0 σ) : Par (m_isWord N σ a1) (fun _ σ' => KP s0 σ') := (kz_m_isWord (kz_r σ)).mono (fun _ σ' z => kj_z z hU)
theorem kj_m_takesSign {N : Nat} {s0 : Nat → Prop} {σ : St} {a1 : Int32} (hU : KP s0 σ) : Par (m_takesSign N σ a1) (fun _ σ' => KP s0 σ') := (kz_m_takesSign (kz_r σ)).mono (fun _ σ' z => kj_z z hU)
theorem kj_m_wants {N : Nat} {s0 : Nat → Prop} {σ : St} {a1 : Int32} (hU : KP s0 σ) : Par (m_wants N σ a1) (fun _ σ' => KP s0 σ') := (kz_m_wants (kz_r σ)).mono (fun _ σ' z => kj_z z hU)
theorem kj_m_taken {N : Nat} {s0 : Nat → Prop} {σ : St} {a1 : Int32} (hU : KP s0 σ) : Par (m_taken N σ a1) (fun _ σ' => KP s0 σ') := (kz_m_taken (kz_r σ)).mono (fun _ σ' z => kj_z z hU)
theorem kj_m_field {N : Nat} {s0 : Nat → Prop} {σ : St} (hU : KP s0 σ) : Par (m_field N σ) (fun _ σ' => KP s0 σ') := (kz_m_field (kz_r σ)).mono (fun _ σ' z => kj_z z hU)
theorem kj_m_wrong {N : Nat} {s0 : Nat → Prop} {σ : St} {a1 : Int32} {a2 : Int32} (hU : KP s0 σ) : Par (m_wrong N σ a1 a2) (fun _ σ' => KP s0 σ') := (kz_m_wrong (kz_r σ)).mono (fun _ σ' z => kj_z z hU)
theorem kj_m_newUse_17 {N : Nat} {s0 : Nat → Prop} {σ : St} {x1 : Int32} {x2 : Int32} (hU : KP s0 σ) : Par (m_newUse_17 N σ x1 x2) (fun _ σ' => KP s0 σ') := by
  unfold m_newUse_17
  refine par_if (fun _ => ?_) (fun _ => ?_)
  · refine par_gd (fun _ => ?_)
    refine par_gd (fun _ => ?_)
    refine par_gd (fun _ => ?_)
    refine par_gd (fun _ => ?_)
    refine par_gd (fun _ => ?_)
    refine par_gd (fun _ => ?_)
    refine par_gd (fun _ => ?_)
    exact par_some (kj_A (kj_A (kj_A (kj_A hU (by decide)) (by decide)) (by decide)) (by decide))
  · exact par_some hU
theorem kj_m_newUse {N : Nat} {s0 : Nat → Prop} {σ : St} {a1 : Int32} {a2 : Int32} (hU : KP s0 σ) : Par (m_newUse N σ a1 a2) (fun _ σ' => KP s0 σ') := by
  unfold m_newUse
  refine par_gd (fun _ => ?_)
  refine par_if (fun _ => ?_) (fun _ => ?_)
  · refine par_bd (kj_m_wrong hU) (fun _ σ2 h1 => ?_)
    exact (kj_m_newUse_17 h1)
  · exact (kj_m_newUse_17 hU)
theorem kj_m_call_106 {N : Nat} {s0 : Nat → Prop} {σ : St} {x1 : Int32} {x2 : Int32} {x3 : Int32} {x4 : Int32} (hU : KP s0 σ) : Par (m_call_106 N σ x1 x2 x3 x4) (fun _ σ' => KP s0 σ') := by
  unfold m_call_106
  refine par_bd (kj_m_wants hU) (fun _ σ6 h1 => ?_)
  refine par_if (fun _ => ?_) (fun _ => ?_)
  · refine par_gd (fun _ => ?_)
    refine par_gd (fun _ => ?_)
    refine par_gd (fun _ => ?_)
    refine par_bd (kj_m_emit (kj_I (kj_A (kj_A (kj_A h1 (by decide)) (by decide)) (by decide)) (by decide)) (by decide)) (fun r7 σ8 h2 => ?_)
    refine par_gd (fun _ => ?_)
    exact par_some (kj_A h2 (by decide))
  · exact par_some h1
theorem kj_m_call_78 {N : Nat} {s0 : Nat → Prop} {σ : St} {x1 : Int32} {x2 : Int32} {x3 : Int32} {x4 : Int32} (hU : KP s0 σ) {rec45 : St → Int32 → Int32 → Int32 → Int32 → Int32 → Option (Unit × St)} (h_rec45 : ∀ (z0 : St) (z1 : Int32) (z2 : Int32) (z3 : Int32) (z4 : Int32) (z5 : Int32), KP s0 z0 → Par (rec45 z0 z1 z2 z3 z4 z5) (fun _ σ' => KP s0 σ')) : Par (m_call_78 N rec45 σ x1 x2 x3 x4) (fun _ σ' => KP s0 σ') := by
  unfold m_call_78
  refine par_bd (kj_m_taken hU) (fun r9 σ10 h1 => ?_)
  refine par_bd (kj_m_takesSign h1) (fun r11 σ12 h2 => ?_)
  exact (h_rec45 _ _ _ _ _ _ h2)
theorem kj_m_call_45_b {N : Nat} {s0 : Nat → Prop} {σ : St} {x1 : Int32} {x2 : Int32} {x3 : Int32} {x4 : Int32} {x5 : Int32} (hU : KP s0 σ) {rec45 : St → Int32 → Int32 → Int32 → Int32 → Int32 → Option (Unit × St)} (h_rec45 : ∀ (z0 : St) (z1 : Int32) (z2 : Int32) (z3 : Int32) (z4 : Int32) (z5 : Int32), KP s0 z0 → Par (rec45 z0 z1 z2 z3 z4 z5) (fun _ σ' => KP s0 σ')) : Par (m_call_45_b N rec45 σ x1 x2 x3 x4 x5) (fun _ σ' => KP s0 σ') := by
  unfold m_call_45_b
  refine par_if (fun _ => ?_) (fun _ => ?_)
  · exact (kj_m_call_106 hU)
  · refine par_if (fun _ => ?_) (fun _ => ?_)
    · refine par_if (fun _ => ?_) (fun _ => ?_)
      · refine par_if (fun _ => ?_) (fun _ => ?_)
        · refine par_bd (kj_m_wrong hU) (fun _ σ14 h1 => ?_)
          exact (kj_m_call_78 h1 h_rec45)
        · exact (kj_m_call_78 hU h_rec45)
      · exact (kj_m_call_78 hU h_rec45)
    · exact (kj_m_call_106 hU)
theorem kj_m_call_45 {N : Nat} {s0 : Nat → Prop} : ∀ (n : Nat) (σ : St) (x1 : Int32) (x2 : Int32) (x3 : Int32) (x4 : Int32) (x5 : Int32), KP s0 σ → Par (m_call_45 N  n σ x1 x2 x3 x4 x5) (fun _ σ' => KP s0 σ') := by
  intro n
  induction n with
  | zero => intro σ x1 x2 x3 x4 x5 _ r σ' e; cases e
  | succ n ih =>
    intro σ x1 x2 x3 x4 x5 hU
    exact kj_m_call_45_b (N := N) hU (fun z0 z1 z2 z3 z4 z5 hz => ih z0 z1 z2 z3 z4 z5 hz)
theorem kj_m_call {N : Nat} {s0 : Nat → Prop} {σ : St} (hU : KP s0 σ) : Par (m_call N σ) (fun _ σ' => KP s0 σ') := by
  unfold m_call
  refine par_bd (kj_m_taken hU) (fun r1 σ2 h1 => ?_)
  refine par_bd (kj_m_wants h1) (fun _ σ4 h2 => ?_)
  refine par_if (fun _ => ?_) (fun _ => ?_)
  · refine par_bd (kj_m_isSign h2) (fun r15 σ16 h3 => ?_)
    refine par_if (fun _ => ?_) (fun _ => ?_)
    · exact (kj_m_call_45  N _ _ _ _ _ _ h3)
    · exact (kj_m_call_45  N _ _ _ _ _ _ h3)
  · exact (kj_m_call_45  N _ _ _ _ _ _ h2)
theorem kj_m_worth {N : Nat} {s0 : Nat → Prop} {σ : St} (hU : KP s0 σ) : Par (m_worth N σ) (fun _ σ' => KP s0 σ') := by
  unfold m_worth
  refine par_if (fun _ => ?_) (fun _ => ?_)
  · refine par_bd (kj_m_isWord hU) (fun r1 σ2 h1 => ?_)
    refine par_if (fun _ => ?_) (fun _ => ?_)
    · refine par_bd (kj_m_isWord h1) (fun r3 σ4 h2 => ?_)
      refine par_if (fun _ => ?_) (fun _ => ?_)
      · refine par_bd (kj_m_isWord h2) (fun r5 σ6 h3 => ?_)
        refine par_if (fun _ => ?_) (fun _ => ?_)
        · refine par_if (fun _ => ?_) (fun _ => ?_)
          · refine par_bd (kj_m_taken h3) (fun r11 σ12 h4 => ?_)
            refine par_bd (kj_m_isSign h4) (fun r13 σ14 h5 => ?_)
            refine par_if (fun _ => ?_) (fun _ => ?_)
            · refine par_bd (kj_m_emit h5 (by decide)) (fun r23 σ24 h6 => ?_)
              exact par_some h6
            · refine par_bd (kj_m_newUse h5) (fun r15 σ16 h7 => ?_)
              refine par_bd (kj_m_next h7) (fun _ σ18 h8 => ?_)
              refine par_bd (kj_m_field h8) (fun r19 σ20 h9 => ?_)
              refine par_bd (kj_m_emit h9 (by decide)) (fun r21 σ22 h10 => ?_)
              exact par_some h10
          · refine par_if (fun _ => ?_) (fun _ => ?_)
            · refine par_bd (kj_m_call h3) (fun _ σ10 h11 => ?_)
              exact par_some h11
            · refine par_bd (kj_m_wrong h3) (fun _ σ8 h12 => ?_)
              exact par_some h12
        · refine par_bd (kj_m_next h3) (fun _ σ26 h13 => ?_)
          refine par_bd (kj_m_taken h13) (fun r27 σ28 h14 => ?_)
          refine par_bd (kj_m_taken h14) (fun r29 σ30 h15 => ?_)
          refine par_bd (kj_m_emit h15 (by decide)) (fun r31 σ32 h16 => ?_)
          exact par_some h16
      · refine par_bd (kj_m_next h2) (fun _ σ34 h17 => ?_)
        refine par_bd (kj_m_emit h17 (by decide)) (fun r35 σ36 h18 => ?_)
        exact par_some h18
    · refine par_bd (kj_m_next h1) (fun _ σ38 h19 => ?_)
      refine par_bd (kj_m_emit h19 (by decide)) (fun r39 σ40 h20 => ?_)
      exact par_some h20
  · exact par_some hU
theorem kj_m_statement_183 {N : Nat} {s0 : Nat → Prop} {σ : St} (hU : KP s0 σ) : Par (m_statement_183 N σ) (fun _ σ' => KP s0 σ') := by
  unfold m_statement_183
  refine par_bd (kj_m_emit hU (by decide)) (fun r33 σ34 h1 => ?_)
  refine par_bd (kj_m_wants h1) (fun _ σ36 h2 => ?_)
  exact par_some h2
theorem kj_m_statement_97 {N : Nat} {s0 : Nat → Prop} {σ : St} (hU : KP s0 σ) : Par (m_statement_97 N σ) (fun _ σ' => KP s0 σ') := by
  unfold m_statement_97
  refine par_bd (kj_m_wants hU) (fun _ σ58 h1 => ?_)
  exact par_some h1
