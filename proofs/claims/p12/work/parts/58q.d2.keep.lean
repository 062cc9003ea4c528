/-! the reference's reading: calls and heads keep what is known of uses -/
theorem ku_m_here {N : Nat} {s0 : Nat → Prop} {σ : St} (hU : KU s0 σ) : Par (m_here N σ) (fun _ σ' => KU s0 σ') := (kz_m_here (kz_r σ)).mono (fun _ σ' z => ku_z z hU)
theorem ku_m_isSmall {N : Nat} {s0 : Nat → Prop} {σ : St} {a1 : Int32} (hU : KU s0 σ) : Par (m_isSmall N σ a1) (fun _ σ' => KU s0 σ') := (kz_m_isSmall (kz_r σ)).mono (fun _ σ' z => ku_z z hU)
theorem ku_m_next {N : Nat} {s0 : Nat → Prop} {σ : St} (hU : KU s0 σ) : Par (m_next N σ) (fun _ σ' => KU s0 σ') := (kz_m_next (kz_r σ)).mono (fun _ σ' z => ku_z z hU)
theorem ku_m_isSign {N : Nat} {s0 : Nat → Prop} {σ : St} {a1 : Int32} (hU : KU s0 σ) : Par (m_isSign N σ a1) (fun _ σ' => KU s0 σ') := (kz_m_isSign (kz_r σ)).mono (fun _ σ' z => ku_z z hU)
theorem ku_m_isWord {N : Nat} {s0 : Nat → Prop} {σ : St} {a1 : Int32} (hU : KU s0 σ) : Par (m_isWord N σ a1) (fun _ σ' => KU s0 σ') := (kz_m_isWord (kz_r σ)).mono (fun _ σ' z => ku_z z hU)
theorem ku_m_takesSign {N : Nat} {s0 : Nat → Prop} {σ : St} {a1 : Int32} (hU : KU s0 σ) : Par (m_takesSign N σ a1) (fun _ σ' => KU s0 σ') := (kz_m_takesSign (kz_r σ)).mono (fun _ σ' z => ku_z z hU)
theorem ku_m_wants {N : Nat} {s0 : Nat → Prop} {σ : St} {a1 : Int32} (hU : KU s0 σ) : Par (m_wants N σ a1) (fun _ σ' => KU s0 σ') := (kz_m_wants (kz_r σ)).mono (fun _ σ' z => ku_z z hU)
theorem ku_m_taken {N : Nat} {s0 : Nat → Prop} {σ : St} {a1 : Int32} (hU : KU s0 σ) : Par (m_taken N σ a1) (fun _ σ' => KU s0 σ') := (kz_m_taken (kz_r σ)).mono (fun _ σ' z => ku_z z hU)
theorem ku_m_field {N : Nat} {s0 : Nat → Prop} {σ : St} (hU : KU s0 σ) : Par (m_field N σ) (fun _ σ' => KU s0 σ') := (kz_m_field (kz_r σ)).mono (fun _ σ' z => ku_z z hU)
theorem ku_m_wrong {N : Nat} {s0 : Nat → Prop} {σ : St} {a1 : Int32} {a2 : Int32} (hU : KU s0 σ) : Par (m_wrong N σ a1 a2) (fun _ σ' => KU s0 σ') := (kz_m_wrong (kz_r σ)).mono (fun _ σ' z => ku_z z hU)
theorem ku_m_head_224 {N : Nat} {s0 : Nat → Prop} {σ : St} {x2 : Int32} (hU : KU s0 σ) : Par (m_head_224 N σ x2) (fun _ σ' => KU s0 σ') := by
  unfold m_head_224
  refine par_bd (ku_m_wants hU) (fun _ σ6 h1 => ?_)
  refine par_bd (ku_m_opens h1 (by decide)) (fun _ σ8 h2 => ?_)
  refine par_gd (fun _ => ?_)
  refine par_gd (fun _ => ?_)
  refine par_if (fun _ => ?_) (fun _ => ?_)
  · refine par_gd (fun _ => ?_)
    exact par_some (ku_A (ku_A h2 (by decide)) (by decide))
  · exact par_some (ku_A h2 (by decide))
theorem ku_m_head_179 {N : Nat} {s0 : Nat → Prop} {σ : St} {x2 : Int32} {x5 : Int32} (hU : KU s0 σ) {rec81 : St → Int32 → Int32 → Option (Unit × St)} (h_rec81 : ∀ (z0 : St) (z1 : Int32) (z2 : Int32), KU s0 z0 → Par (rec81 z0 z1 z2) (fun _ σ' => KU s0 σ')) : Par (m_head_179 N rec81 σ x2 x5) (fun _ σ' => KU s0 σ') := by
  unfold m_head_179
  refine par_if (fun _ => ?_) (fun _ => ?_)
  · refine par_gd (fun _ => ?_)
    refine par_gd (fun _ => ?_)
    refine par_gd (fun _ => ?_)
    refine par_gd (fun _ => ?_)
    refine par_bd (ku_m_takesSign (ku_A (ku_A hU (by decide)) (by decide))) (fun r11 σ12 h1 => ?_)
    exact (h_rec81 _ _ _ h1)
  · exact par_some hU
theorem ku_m_head_173 {N : Nat} {s0 : Nat → Prop} {σ : St} {x2 : Int32} {x4 : Int32} {x5 : Int32} {x6 : Int32} (hU : KU s0 σ) {rec81 : St → Int32 → Int32 → Option (Unit × St)} (h_rec81 : ∀ (z0 : St) (z1 : Int32) (z2 : Int32), KU s0 z0 → Par (rec81 z0 z1 z2) (fun _ σ' => KU s0 σ')) {rec132 : St → Int32 → Int32 → Int32 → Int32 → Option (Unit × St)} (h_rec132 : ∀ (z0 : St) (z1 : Int32) (z2 : Int32) (z3 : Int32) (z4 : Int32), KU s0 z0 → Par (rec132 z0 z1 z2 z3 z4) (fun _ σ' => KU s0 σ')) : Par (m_head_173 N rec81 rec132 σ x2 x4 x5 x6) (fun _ σ' => KU s0 σ') := by
  unfold m_head_173
  exact (h_rec132 _ _ _ _ _ hU)
theorem ku_m_head_132_b {N : Nat} {s0 : Nat → Prop} {σ : St} {x2 : Int32} {x4 : Int32} {x5 : Int32} {x6 : Int32} (hU : KU s0 σ) {rec81 : St → Int32 → Int32 → Option (Unit × St)} (h_rec81 : ∀ (z0 : St) (z1 : Int32) (z2 : Int32), KU s0 z0 → Par (rec81 z0 z1 z2) (fun _ σ' => KU s0 σ')) {rec132 : St → Int32 → Int32 → Int32 → Int32 → Option (Unit × St)} (h_rec132 : ∀ (z0 : St) (z1 : Int32) (z2 : Int32) (z3 : Int32) (z4 : Int32), KU s0 z0 → Par (rec132 z0 z1 z2 z3 z4) (fun _ σ' => KU s0 σ')) : Par (m_head_132_b N rec81 rec132 σ x2 x4 x5 x6) (fun _ σ' => KU s0 σ') := by
  unfold m_head_132_b
  refine par_gd (fun _ => ?_)
  refine par_if (fun _ => ?_) (fun _ => ?_)
  · exact (ku_m_head_179 hU h_rec81)
  · refine par_if (fun _ => ?_) (fun _ => ?_)
    · refine par_gd (fun _ => ?_)
      refine par_if (fun _ => ?_) (fun _ => ?_)
      · refine par_bd (ku_m_wrong hU) (fun _ σ14 h1 => ?_)
        exact (ku_m_head_173 h1 h_rec81 h_rec132)
      · exact (ku_m_head_173 hU h_rec81 h_rec132)
    · exact (ku_m_head_179 hU h_rec81)
theorem ku_m_head_132 {N : Nat} {s0 : Nat → Prop} {rec81 : St → Int32 → Int32 → Option (Unit × St)} (h_rec81 : ∀ (z0 : St) (z1 : Int32) (z2 : Int32), KU s0 z0 → Par (rec81 z0 z1 z2) (fun _ σ' => KU s0 σ')) : ∀ (n : Nat) (σ : St) (x2 : Int32) (x4 : Int32) (x5 : Int32) (x6 : Int32), KU s0 σ → Par (m_head_132 N rec81 n σ x2 x4 x5 x6) (fun _ σ' => KU s0 σ') := by
  intro n
  induction n with
  | zero => intro σ x2 x4 x5 x6 _ r σ' e; cases e
  | succ n ih =>
    intro σ x2 x4 x5 x6 hU
    exact ku_m_head_132_b (N := N) hU h_rec81 (fun z0 z1 z2 z3 z4 hz => ih z0 z1 z2 z3 z4 hz)
theorem ku_m_head_122 {N : Nat} {s0 : Nat → Prop} {σ : St} {x2 : Int32} {x4 : Int32} (hU : KU s0 σ) {rec81 : St → Int32 → Int32 → Option (Unit × St)} (h_rec81 : ∀ (z0 : St) (z1 : Int32) (z2 : Int32), KU s0 z0 → Par (rec81 z0 z1 z2) (fun _ σ' => KU s0 σ')) : Par (m_head_122 N rec81 σ x2 x4) (fun _ σ' => KU s0 σ') := by
  unfold m_head_122
  refine par_bd (ku_m_taken hU) (fun r9 σ10 h1 => ?_)
  exact (ku_m_head_132 h_rec81 N _ _ _ _ _ h1)
theorem ku_m_head_81_b {N : Nat} {s0 : Nat → Prop} {σ : St} {x2 : Int32} {x3 : Int32} (hU : KU s0 σ) {rec81 : St → Int32 → Int32 → Option (Unit × St)} (h_rec81 : ∀ (z0 : St) (z1 : Int32) (z2 : Int32), KU s0 z0 → Par (rec81 z0 z1 z2) (fun _ σ' => KU s0 σ')) : Par (m_head_81_b N rec81 σ x2 x3) (fun _ σ' => KU s0 σ') := by
  unfold m_head_81_b
  refine par_if (fun _ => ?_) (fun _ => ?_)
  · exact (ku_m_head_224 hU)
  · refine par_if (fun _ => ?_) (fun _ => ?_)
    · refine par_if (fun _ => ?_) (fun _ => ?_)
      · refine par_gd (fun _ => ?_)
        refine par_if (fun _ => ?_) (fun _ => ?_)
        · refine par_bd (ku_m_wrong hU) (fun _ σ16 h1 => ?_)
          exact (ku_m_head_122 h1 h_rec81)
        · exact (ku_m_head_122 hU h_rec81)
      · exact (ku_m_head_122 hU h_rec81)
    · exact (ku_m_head_224 hU)
theorem ku_m_head_81 {N : Nat} {s0 : Nat → Prop} : ∀ (n : Nat) (σ : St) (x2 : Int32) (x3 : Int32), KU s0 σ → Par (m_head_81 N  n σ x2 x3) (fun _ σ' => KU s0 σ') := by
  intro n
  induction n with
  | zero => intro σ x2 x3 _ r σ' e; cases e
  | succ n ih =>
    intro σ x2 x3 hU
    exact ku_m_head_81_b (N := N) hU (fun z0 z1 z2 hz => ih z0 z1 z2 hz)
theorem ku_m_head_46 {N : Nat} {s0 : Nat → Prop} {σ : St} {x2 : Int32} (hU : KU s0 σ) : Par (m_head_46 N σ x2) (fun _ σ' => KU s0 σ') := by
  unfold m_head_46
  refine par_bd (ku_m_wants hU) (fun _ σ4 h1 => ?_)
  refine par_gd (fun _ => ?_)
  refine par_if (fun _ => ?_) (fun _ => ?_)
  · refine par_bd (ku_m_isSign (ku_A h1 (by decide))) (fun r17 σ18 h2 => ?_)
    refine par_if (fun _ => ?_) (fun _ => ?_)
    · exact (ku_m_head_81  N _ _ _ h2)
    · exact (ku_m_head_81  N _ _ _ h2)
  · exact (ku_m_head_81  N _ _ _ (ku_A h1 (by decide)))
theorem ku_m_head {N : Nat} {s0 : Nat → Prop} {σ : St} (hU : KU s0 σ) : Par (m_head N σ) (fun _ σ' => KU s0 σ') := by
  unfold m_head
  refine par_bd (ku_m_taken hU) (fun r1 σ2 h1 => ?_)
  refine par_if (fun _ => ?_) (fun _ => ?_)
  · refine par_gd (fun _ => ?_)
    refine par_if (fun _ => ?_) (fun _ => ?_)
    · exact (ku_m_head_46 (ku_I h1 (by decide)))
    · refine par_bd (ku_m_wrong (ku_I h1 (by decide))) (fun _ σ20 h2 => ?_)
      exact (ku_m_head_46 h2)
  · exact par_some (ku_I h1 (by decide))
theorem ku_m_call_106 {N : Nat} {s0 : Nat → Prop} {σ : St} {x1 : Int32} {x2 : Int32} {x3 : Int32} {x4 : Int32} (hU : KU s0 σ) : Par (m_call_106 N σ x1 x2 x3 x4) (fun _ σ' => KU s0 σ') := by
  unfold m_call_106
  refine par_bd (ku_m_wants hU) (fun _ σ6 h1 => ?_)
  refine par_if (fun _ => ?_) (fun _ => ?_)
  · refine par_gd (fun _ => ?_)
    refine par_gd (fun _ => ?_)
    refine par_gd (fun _ => ?_)
    refine par_bd (ku_m_emit (ku_I (ku_A (ku_A (ku_A h1 (by decide)) (by decide)) (by decide)) (by decide)) (by decide)) (fun r7 σ8 h2 => ?_)
    refine par_gd (fun _ => ?_)
    exact par_some (ku_A h2 (by decide))
  · exact par_some h1
theorem ku_m_call_78 {N : Nat} {s0 : Nat → Prop} {σ : St} {x1 : Int32} {x2 : Int32} {x3 : Int32} {x4 : Int32} (hU : KU s0 σ) {rec45 : St → Int32 → Int32 → Int32 → Int32 → Int32 → Option (Unit × St)} (h_rec45 : ∀ (z0 : St) (z1 : Int32) (z2 : Int32) (z3 : Int32) (z4 : Int32) (z5 : Int32), KU s0 z0 → Par (rec45 z0 z1 z2 z3 z4 z5) (fun _ σ' => KU s0 σ')) : Par (m_call_78 N rec45 σ x1 x2 x3 x4) (fun _ σ' => KU s0 σ') := by
  unfold m_call_78
  refine par_bd (ku_m_taken hU) (fun r9 σ10 h1 => ?_)
  refine par_bd (ku_m_takesSign h1) (fun r11 σ12 h2 => ?_)
  exact (h_rec45 _ _ _ _ _ _ h2)
theorem ku_m_call_45_b {N : Nat} {s0 : Nat → Prop} {σ : St} {x1 : Int32} {x2 : Int32} {x3 : Int32} {x4 : Int32} {x5 : Int32} (hU : KU s0 σ) {rec45 : St → Int32 → Int32 → Int32 → Int32 → Int32 → Option (Unit × St)} (h_rec45 : ∀ (z0 : St) (z1 : Int32) (z2 : Int32) (z3 : Int32) (z4 : Int32) (z5 : Int32), KU s0 z0 → Par (rec45 z0 z1 z2 z3 z4 z5) (fun _ σ' => KU s0 σ')) : Par (m_call_45_b N rec45 σ x1 x2 x3 x4 x5) (fun _ σ' => KU s0 σ') := by
  unfold m_call_45_b
  refine par_if (fun _ => ?_) (fun _ => ?_)
  · exact (ku_m_call_106 hU)
  · refine par_if (fun _ => ?_) (fun _ => ?_)
    · refine par_if (fun _ => ?_) (fun _ => ?_)
      · refine par_if (fun _ => ?_) (fun _ => ?_)
        · refine par_bd (ku_m_wrong hU) (fun _ σ14 h1 => ?_)
          exact (ku_m_call_78 h1 h_rec45)
        · exact (ku_m_call_78 hU h_rec45)
      · exact (ku_m_call_78 hU h_rec45)
    · exact (ku_m_call_106 hU)
theorem ku_m_call_45 {N : Nat} {s0 : Nat → Prop} : ∀ (n : Nat) (σ : St) (x1 : Int32) (x2 : Int32) (x3 : Int32) (x4 : Int32) (x5 : Int32), KU s0 σ → Par (m_call_45 N  n σ x1 x2 x3 x4 x5) (fun _ σ' => KU s0 σ') := by
  intro n
  induction n with
  | zero => intro σ x1 x2 x3 x4 x5 _ r σ' e; cases e
  | succ n ih =>
    intro σ x1 x2 x3 x4 x5 hU
    exact ku_m_call_45_b (N := N) hU (fun z0 z1 z2 z3 z4 z5 hz => ih z0 z1 z2 z3 z4 z5 hz)
theorem ku_m_call {N : Nat} {s0 : Nat → Prop} {σ : St} (hU : KU s0 σ) : Par (m_call N σ) (fun _ σ' => KU s0 σ') := by
  unfold m_call
  refine par_bd (ku_m_taken hU) (fun r1 σ2 h1 => ?_)
  refine par_bd (ku_m_wants h1) (fun _ σ4 h2 => ?_)
  refine par_if (fun _ => ?_) (fun _ => ?_)
  · refine par_bd (ku_m_isSign h2) (fun r15 σ16 h3 => ?_)
    refine par_if (fun _ => ?_) (fun _ => ?_)
    · exact (ku_m_call_45  N _ _ _ _ _ _ h3)
    · exact (ku_m_call_45  N _ _ _ _ _ _ h3)
  · exact (ku_m_call_45  N _ _ _ _ _ _ h2)
