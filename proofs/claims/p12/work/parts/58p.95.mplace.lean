/-! the reference: without a fault there is no place of one -/
def VF (σ : St) : Prop := gI σ 8 = 0 → gI σ 9 = -1
theorem vf_I {σ : St} {k : Nat} {v : Int32} (h : VF σ) (h8 : k ≠ 8) (h9 : k ≠ 9) : VF (sI σ k v) := fun e => (gI_ne h9).trans (h ((gI_ne h8).symm.trans e))
theorem vf_A {σ : St} {j i : Nat} {v : Int32} (h : VF σ) : VF (sA σ j i v) := h

theorem vm_here {N : Nat} {σ : St} (hU : VF σ) : Par (m_here N σ) (fun _ σ' => VF σ') := by
  unfold m_here
  refine par_if (fun _ => ?_) (fun _ => ?_)
  · exact par_some hU
  · refine par_gd (fun _ => ?_)
    exact par_some hU

theorem vm_isSmall {N : Nat} {σ : St} {a1 : Int32} (hU : VF σ) : Par (m_isSmall N σ a1) (fun _ σ' => VF σ') := by
  unfold m_isSmall
  refine par_if (fun _ => ?_) (fun _ => ?_)
  · exact par_some hU
  · refine par_if (fun _ => ?_) (fun _ => ?_)
    · exact par_some hU
    · exact par_some hU

theorem vm_wordOf_114 {N : Nat} {rec4 : St → Int32 → Int32 → Option (Int32 × St)} {σ : St} {x1 : Int32} {x2 : Int32} (hU : VF σ) (hr_rec4 : ∀ (z0 : St) (z1 : Int32) (z2 : Int32), VF z0 → Par (rec4 z0 z1 z2) (fun _ σ' => VF σ')) : Par (m_wordOf_114 N rec4 σ x1 x2) (fun _ σ' => VF σ') := by
  unfold m_wordOf_114
  exact (hr_rec4 _ _ _ hU)

theorem vm_wordOf_97_b {N : Nat} {rec4 : St → Int32 → Int32 → Option (Int32 × St)} {rec97 : St → Int32 → Int32 → Option (Int32 × St)} {σ : St} {x1 : Int32} {x2 : Int32} (hU : VF σ) (hr_rec4 : ∀ (z0 : St) (z1 : Int32) (z2 : Int32), VF z0 → Par (rec4 z0 z1 z2) (fun _ σ' => VF σ')) (hr_rec97 : ∀ (z0 : St) (z1 : Int32) (z2 : Int32), VF z0 → Par (rec97 z0 z1 z2) (fun _ σ' => VF σ')) : Par (m_wordOf_97_b N rec4 rec97 σ x1 x2) (fun _ σ' => VF σ') := by
  unfold m_wordOf_97_b
  refine par_gd (fun _ => ?_)
  refine par_if (fun _ => ?_) (fun _ => ?_)
  · exact (vm_wordOf_114 hU hr_rec4)
  · exact (hr_rec97 _ _ _ hU)

theorem vm_wordOf_97 {N : Nat} {rec4 : St → Int32 → Int32 → Option (Int32 × St)} (hr_rec4 : ∀ (z0 : St) (z1 : Int32) (z2 : Int32), VF z0 → Par (rec4 z0 z1 z2) (fun _ σ' => VF σ')) : ∀ (n : Nat) (σ : St) (x1 : Int32) (x2 : Int32), VF σ → Par (m_wordOf_97 N rec4 n σ x1 x2) (fun _ σ' => VF σ') := by
  intro n
  induction n with
  | zero => intro σ x1 x2 hU r σ' e; cases e
  | succ n ih =>
    intro σ x1 x2 hU
    exact vm_wordOf_97_b hU hr_rec4 (fun z0 z1 z2 hV => ih z0 z1 z2 hV)

theorem vm_wordOf_69 {N : Nat} {rec4 : St → Int32 → Int32 → Option (Int32 × St)} {σ : St} {x1 : Int32} {x2 : Int32} {x3 : Int32} (hU : VF σ) (hr_rec4 : ∀ (z0 : St) (z1 : Int32) (z2 : Int32), VF z0 → Par (rec4 z0 z1 z2) (fun _ σ' => VF σ')) : Par (m_wordOf_69 N rec4 σ x1 x2 x3) (fun _ σ' => VF σ') := by
  unfold m_wordOf_69
  refine par_gd (fun _ => ?_)
  refine par_if (fun _ => ?_) (fun _ => ?_)
  · refine par_if (fun _ => ?_) (fun _ => ?_)
    · exact par_some hU
    · exact (vm_wordOf_97 hr_rec4 N _ _ _ hU)
  · exact (vm_wordOf_97 hr_rec4 N _ _ _ hU)

theorem vm_wordOf_15_b {N : Nat} {rec4 : St → Int32 → Int32 → Option (Int32 × St)} {rec15 : St → Int32 → Int32 → Int32 → Option (Int32 × St)} {σ : St} {x1 : Int32} {x2 : Int32} {x3 : Int32} (hU : VF σ) (hr_rec4 : ∀ (z0 : St) (z1 : Int32) (z2 : Int32), VF z0 → Par (rec4 z0 z1 z2) (fun _ σ' => VF σ')) (hr_rec15 : ∀ (z0 : St) (z1 : Int32) (z2 : Int32) (z3 : Int32), VF z0 → Par (rec15 z0 z1 z2 z3) (fun _ σ' => VF σ')) : Par (m_wordOf_15_b N rec4 rec15 σ x1 x2 x3) (fun _ σ' => VF σ') := by
  unfold m_wordOf_15_b
  refine par_gd (fun _ => ?_)
  refine par_if (fun _ => ?_) (fun _ => ?_)
  · exact (vm_wordOf_69 hU hr_rec4)
  · refine par_if (fun _ => ?_) (fun _ => ?_)
    · exact (vm_wordOf_69 hU hr_rec4)
    · refine par_gd (fun _ => ?_)
      refine par_gd (fun _ => ?_)
      refine par_if (fun _ => ?_) (fun _ => ?_)
      · exact (hr_rec15 _ _ _ _ hU)
      · exact (vm_wordOf_69 hU hr_rec4)

theorem vm_wordOf_15 {N : Nat} {rec4 : St → Int32 → Int32 → Option (Int32 × St)} (hr_rec4 : ∀ (z0 : St) (z1 : Int32) (z2 : Int32), VF z0 → Par (rec4 z0 z1 z2) (fun _ σ' => VF σ')) : ∀ (n : Nat) (σ : St) (x1 : Int32) (x2 : Int32) (x3 : Int32), VF σ → Par (m_wordOf_15 N rec4 n σ x1 x2 x3) (fun _ σ' => VF σ') := by
  intro n
  induction n with
  | zero => intro σ x1 x2 x3 hU r σ' e; cases e
  | succ n ih =>
    intro σ x1 x2 x3 hU
    exact vm_wordOf_15_b hU hr_rec4 (fun z0 z1 z2 z3 hV => ih z0 z1 z2 z3 hV)

theorem vm_wordOf_4_b {N : Nat} {rec4 : St → Int32 → Int32 → Option (Int32 × St)} {σ : St} {x1 : Int32} {x2 : Int32} (hU : VF σ) (hr_rec4 : ∀ (z0 : St) (z1 : Int32) (z2 : Int32), VF z0 → Par (rec4 z0 z1 z2) (fun _ σ' => VF σ')) : Par (m_wordOf_4_b N rec4 σ x1 x2) (fun _ σ' => VF σ') := by
  unfold m_wordOf_4_b
  refine par_if (fun _ => ?_) (fun _ => ?_)
  · exact par_some hU
  · exact (vm_wordOf_15 hr_rec4 N _ _ _ _ hU)

theorem vm_wordOf_4 {N : Nat}  : ∀ (n : Nat) (σ : St) (x1 : Int32) (x2 : Int32), VF σ → Par (m_wordOf_4 N  n σ x1 x2) (fun _ σ' => VF σ') := by
  intro n
  induction n with
  | zero => intro σ x1 x2 hU r σ' e; cases e
  | succ n ih =>
    intro σ x1 x2 hU
    exact vm_wordOf_4_b hU  (fun z0 z1 z2 hV => ih z0 z1 z2 hV)

theorem vm_wordOf {N : Nat} {σ : St} (hU : VF σ) : Par (m_wordOf N σ) (fun _ σ' => VF σ') := by
  unfold m_wordOf
  exact (vm_wordOf_4  N _ _ _ hU)

theorem vm_next_18 {N : Nat} {rec0 : St → Option (Unit × St)} {σ : St} (hU : VF σ) (hr_rec0 : ∀ (z0 : St), VF z0 → Par (rec0 z0) (fun _ σ' => VF σ')) : Par (m_next_18 N rec0 σ) (fun _ σ' => VF σ') := by
  unfold m_next_18
  exact (hr_rec0 _ (vf_I hU (by decide) (by decide)))

theorem vm_next_257 {N : Nat} {σ : St} {x2 : Int32} (hU : VF σ) : Par (m_next_257 N σ x2) (fun _ σ' => VF σ') := by
  unfold m_next_257
  refine par_if (fun _ => ?_) (fun _ => ?_)
  · exact par_some (vf_I hU (by decide) (by decide))
  · exact par_some (vf_I hU (by decide) (by decide))

theorem vm_next_239 {N : Nat} {σ : St} {x1 : Int32} {t0 : Int32} (hU : VF σ) : Par (m_next_239 N σ x1 t0) (fun _ σ' => VF σ') := by
  unfold m_next_239
  refine par_if (fun _ => ?_) (fun _ => ?_)
  · exact (vm_next_257 hU)
  · refine par_if (fun _ => ?_) (fun _ => ?_)
    · exact (vm_next_257 hU)
    · exact par_some (vf_I hU (by decide) (by decide))

theorem vm_next_234 {N : Nat} {σ : St} {x1 : Int32} (hU : VF σ) : Par (m_next_234 N σ x1) (fun _ σ' => VF σ') := by
  unfold m_next_234
  exact (vm_next_239 hU)

theorem vm_next_183 {N : Nat} {σ : St} {x1 : Int32} {t1 : Int32} (hU : VF σ) : Par (m_next_183 N σ x1 t1) (fun _ σ' => VF σ') := by
  unfold m_next_183
  refine par_if (fun _ => ?_) (fun _ => ?_)
  · exact (vm_next_234 (vf_I hU (by decide) (by decide)))
  · refine par_if (fun _ => ?_) (fun _ => ?_)
    · exact (vm_next_234 (vf_I hU (by decide) (by decide)))
    · refine par_if (fun _ => ?_) (fun _ => ?_)
      · exact (vm_next_234 (vf_I hU (by decide) (by decide)))
      · refine par_if (fun _ => ?_) (fun _ => ?_)
        · exact (vm_next_234 (vf_I hU (by decide) (by decide)))
        · refine par_if (fun _ => ?_) (fun _ => ?_)
          · exact (vm_next_234 (vf_I hU (by decide) (by decide)))
          · refine par_if (fun _ => ?_) (fun _ => ?_)
            · exact (vm_next_234 (vf_I hU (by decide) (by decide)))
            · refine par_if (fun _ => ?_) (fun _ => ?_)
              · exact (vm_next_234 (vf_I hU (by decide) (by decide)))
              · refine par_if (fun _ => ?_) (fun _ => ?_)
                · exact (vm_next_234 (vf_I hU (by decide) (by decide)))
                · exact (vm_next_239 (vf_I hU (by decide) (by decide)))

theorem vm_next_182 {N : Nat} {σ : St} {x1 : Int32} (hU : VF σ) : Par (m_next_182 N σ x1) (fun _ σ' => VF σ') := by
  unfold m_next_182
  exact (vm_next_183 hU)

theorem vm_next_146 {N : Nat} {σ : St} {t1 : Int32} (hU : VF σ) : Par (m_next_146 N σ t1) (fun _ σ' => VF σ') := by
  unfold m_next_146
  exact par_some (vf_I hU (by decide) (by decide))

theorem vm_next_112 {N : Nat} {σ : St} {t1 : Int32} (hU : VF σ) : Par (m_next_112 N σ t1) (fun _ σ' => VF σ') := by
  unfold m_next_112
  refine par_if (fun _ => ?_) (fun _ => ?_)
  · exact (vm_next_146 (vf_I hU (by decide) (by decide)))
  · refine par_if (fun _ => ?_) (fun _ => ?_)
    · exact (vm_next_146 (vf_I hU (by decide) (by decide)))
    · exact (vm_next_146 (vf_I hU (by decide) (by decide)))

theorem vm_next_87 {N : Nat} {σ : St} {x1 : Int32} (hU : VF σ) : Par (m_next_87 N σ x1) (fun _ σ' => VF σ') := by
  unfold m_next_87
  refine par_if (fun _ => ?_) (fun _ => ?_)
  · exact (vm_next_112 hU)
  · refine par_bd (vm_wordOf hU) (fun r13 σ14 h1 => ?_)
    exact (vm_next_112 h1)

theorem vm_next_64_b {N : Nat} {rec64 : St → Int32 → Option (Unit × St)} {σ : St} {x1 : Int32} (hU : VF σ) (hr_rec64 : ∀ (z0 : St) (z1 : Int32), VF z0 → Par (rec64 z0 z1) (fun _ σ' => VF σ')) : Par (m_next_64_b N rec64 σ x1) (fun _ σ' => VF σ') := by
  unfold m_next_64_b
  refine par_bd (vm_here hU) (fun r9 σ10 h1 => ?_)
  refine par_bd (vm_isSmall h1) (fun r11 σ12 h2 => ?_)
  refine par_if (fun _ => ?_) (fun _ => ?_)
  · exact (vm_next_87 h2)
  · exact (hr_rec64 _ _ (vf_I h2 (by decide) (by decide)))

theorem vm_next_64 {N : Nat}  : ∀ (n : Nat) (σ : St) (x1 : Int32), VF σ → Par (m_next_64 N  n σ x1) (fun _ σ' => VF σ') := by
  intro n
  induction n with
  | zero => intro σ x1 hU r σ' e; cases e
  | succ n ih =>
    intro σ x1 hU
    exact vm_next_64_b hU  (fun z0 z1 hV => ih z0 z1 hV)

theorem vm_next_31 {N : Nat} {σ : St} (hU : VF σ) : Par (m_next_31 N σ) (fun _ σ' => VF σ') := by
  unfold m_next_31
  refine par_bd (vm_here (vf_I hU (by decide) (by decide))) (fun r5 σ6 h1 => ?_)
  refine par_if (fun _ => ?_) (fun _ => ?_)
  · exact par_some (vf_I h1 (by decide) (by decide))
  · refine par_bd (vm_isSmall h1) (fun r7 σ8 h2 => ?_)
    refine par_if (fun _ => ?_) (fun _ => ?_)
    · refine par_if (fun _ => ?_) (fun _ => ?_)
      · exact (vm_next_182 (vf_I h2 (by decide) (by decide)))
      · refine par_if (fun _ => ?_) (fun _ => ?_)
        · exact (vm_next_182 (vf_I h2 (by decide) (by decide)))
        · exact (vm_next_183 (vf_I h2 (by decide) (by decide)))
    · exact (vm_next_64  N _ _ h2)

theorem vm_next_0_b {N : Nat} {rec0 : St → Option (Unit × St)} {σ : St} (hU : VF σ) (hr_rec0 : ∀ (z0 : St), VF z0 → Par (rec0 z0) (fun _ σ' => VF σ')) : Par (m_next_0_b N rec0 σ) (fun _ σ' => VF σ') := by
  unfold m_next_0_b
  refine par_bd (vm_here hU) (fun r1 σ2 h1 => ?_)
  refine par_if (fun _ => ?_) (fun _ => ?_)
  · exact (vm_next_18 h1 hr_rec0)
  · refine par_bd (vm_here h1) (fun r3 σ4 h2 => ?_)
    refine par_if (fun _ => ?_) (fun _ => ?_)
    · exact (vm_next_18 h2 hr_rec0)
    · exact (vm_next_31 h2)

theorem vm_next_0 {N : Nat}  : ∀ (n : Nat) (σ : St), VF σ → Par (m_next_0 N  n σ) (fun _ σ' => VF σ') := by
  intro n
  induction n with
  | zero => intro σ hU r σ' e; cases e
  | succ n ih =>
    intro σ hU
    exact vm_next_0_b hU  (fun z0 hV => ih z0 hV)

theorem vm_next {N : Nat} {σ : St} (hU : VF σ) : Par (m_next N σ) (fun _ σ' => VF σ') := by
  unfold m_next
  exact (vm_next_0  N _ hU)

theorem vm_wrong {N : Nat} {σ : St} {a1 : Int32} {a2 : Int32} (hU : VF σ) (h1 : ¬ a1 = 0) : Par (m_wrong N σ a1 a2) (fun _ σ' => VF σ') := by
  unfold m_wrong
  exact par_if (fun _ => par_some (fun e => absurd (((gI_ne (by decide)).trans gI_eq).symm.trans e) h1)) (fun _ => par_some hU)

theorem vm_isSign {N : Nat} {σ : St} {a1 : Int32} (hU : VF σ) : Par (m_isSign N σ a1) (fun _ σ' => VF σ') := by
  unfold m_isSign
  refine par_if (fun _ => ?_) (fun _ => ?_)
  · refine par_if (fun _ => ?_) (fun _ => ?_)
    · refine par_if (fun _ => ?_) (fun _ => ?_)
      · exact par_some hU
      · exact par_some hU
    · exact par_some hU
  · exact par_some hU

theorem vm_isWord {N : Nat} {σ : St} {a1 : Int32} (hU : VF σ) : Par (m_isWord N σ a1) (fun _ σ' => VF σ') := by
  unfold m_isWord
  refine par_if (fun _ => ?_) (fun _ => ?_)
  · refine par_if (fun _ => ?_) (fun _ => ?_)
    · refine par_if (fun _ => ?_) (fun _ => ?_)
      · exact par_some hU
      · exact par_some hU
    · exact par_some hU
  · exact par_some hU

theorem vm_takesSign {N : Nat} {σ : St} {a1 : Int32} (hU : VF σ) : Par (m_takesSign N σ a1) (fun _ σ' => VF σ') := by
  unfold m_takesSign
  refine par_bd (vm_isSign hU) (fun r1 σ2 h1 => ?_)
  refine par_if (fun _ => ?_) (fun _ => ?_)
  · exact par_some h1
  · refine par_bd (vm_next h1) (fun _ σ4 h2 => ?_)
    exact par_some h2

theorem vm_wants {N : Nat} {σ : St} {a1 : Int32} (hU : VF σ) : Par (m_wants N σ a1) (fun _ σ' => VF σ') := by
  unfold m_wants
  refine par_bd (vm_takesSign hU) (fun r1 σ2 h1 => ?_)
  refine par_if (fun _ => ?_) (fun _ => ?_)
  · refine par_bd (vm_wrong h1 (by decide)) (fun _ σ4 h2 => ?_)
    exact par_some h2
  · exact par_some h1

theorem vm_taken {N : Nat} {σ : St} {a1 : Int32} (hU : VF σ) : Par (m_taken N σ a1) (fun _ σ' => VF σ') := by
  unfold m_taken
  refine par_if (fun _ => ?_) (fun _ => ?_)
  · refine par_if (fun _ => ?_) (fun _ => ?_)
    · refine par_bd (vm_next hU) (fun _ σ2 h1 => ?_)
      exact par_some h1
    · refine par_bd (vm_wrong hU (by decide)) (fun _ σ4 h2 => ?_)
      exact par_some h2
  · exact par_some hU

theorem vm_emit {N : Nat} {σ : St} {a1 : Int32} {a2 : Int32} {a3 : Int32} {a4 : Int32} (hU : VF σ) : Par (m_emit N σ a1 a2 a3 a4) (fun _ σ' => VF σ') := by
  unfold m_emit
  refine par_gd (fun _ => ?_)
  refine par_gd (fun _ => ?_)
  refine par_gd (fun _ => ?_)
  refine par_gd (fun _ => ?_)
  exact par_some (vf_I (vf_A (vf_A (vf_A (vf_A hU)))) (by decide) (by decide))

theorem vm_opens_27 {N : Nat} {σ : St} {x1 : Int32} {x2 : Int32} {x3 : Int32} (hU : VF σ) : Par (m_opens_27 N σ x1 x2 x3) (fun _ σ' => VF σ') := by
  unfold m_opens_27
  refine par_bd (vm_wants hU) (fun _ σ4 h1 => ?_)
  refine par_if (fun _ => ?_) (fun _ => ?_)
  · refine par_gd (fun _ => ?_)
    refine par_gd (fun _ => ?_)
    refine par_gd (fun _ => ?_)
    exact par_some (vf_I (vf_A (vf_A (vf_A h1))) (by decide) (by decide))
  · exact par_some h1

theorem vm_opens {N : Nat} {σ : St} {a1 : Int32} {a2 : Int32} {a3 : Int32} (hU : VF σ) : Par (m_opens N σ a1 a2 a3) (fun _ σ' => VF σ') := by
  unfold m_opens
  refine par_bd (vm_isSign hU) (fun r1 σ2 h1 => ?_)
  refine par_if (fun _ => ?_) (fun _ => ?_)
  · exact (vm_opens_27 h1)
  · refine par_if (fun _ => ?_) (fun _ => ?_)
    · refine par_bd (vm_wrong h1 (by decide)) (fun _ σ6 h2 => ?_)
      exact (vm_opens_27 h2)
    · exact (vm_opens_27 h1)

theorem vm_head_224 {N : Nat} {σ : St} {x2 : Int32} (hU : VF σ) : Par (m_head_224 N σ x2) (fun _ σ' => VF σ') := by
  unfold m_head_224
  refine par_bd (vm_wants hU) (fun _ σ6 h1 => ?_)
  refine par_bd (vm_opens h1) (fun _ σ8 h2 => ?_)
  refine par_gd (fun _ => ?_)
  refine par_gd (fun _ => ?_)
  refine par_if (fun _ => ?_) (fun _ => ?_)
  · refine par_gd (fun _ => ?_)
    exact par_some (vf_A (vf_A h2))
  · exact par_some (vf_A h2)

theorem vm_head_179 {N : Nat} {rec81 : St → Int32 → Int32 → Option (Unit × St)} {σ : St} {x2 : Int32} {x5 : Int32} (hU : VF σ) (hr_rec81 : ∀ (z0 : St) (z1 : Int32) (z2 : Int32), VF z0 → Par (rec81 z0 z1 z2) (fun _ σ' => VF σ')) : Par (m_head_179 N rec81 σ x2 x5) (fun _ σ' => VF σ') := by
  unfold m_head_179
  refine par_if (fun _ => ?_) (fun _ => ?_)
  · refine par_gd (fun _ => ?_)
    refine par_gd (fun _ => ?_)
    refine par_gd (fun _ => ?_)
    refine par_gd (fun _ => ?_)
    refine par_bd (vm_takesSign (vf_A (vf_A hU))) (fun r11 σ12 h1 => ?_)
    exact (hr_rec81 _ _ _ h1)
  · exact par_some hU

theorem vm_head_173 {N : Nat} {rec81 : St → Int32 → Int32 → Option (Unit × St)} {rec132 : St → Int32 → Int32 → Int32 → Int32 → Option (Unit × St)} {σ : St} {x2 : Int32} {x4 : Int32} {x5 : Int32} {x6 : Int32} (hU : VF σ) (hr_rec81 : ∀ (z0 : St) (z1 : Int32) (z2 : Int32), VF z0 → Par (rec81 z0 z1 z2) (fun _ σ' => VF σ')) (hr_rec132 : ∀ (z0 : St) (z1 : Int32) (z2 : Int32) (z3 : Int32) (z4 : Int32), VF z0 → Par (rec132 z0 z1 z2 z3 z4) (fun _ σ' => VF σ')) : Par (m_head_173 N rec81 rec132 σ x2 x4 x5 x6) (fun _ σ' => VF σ') := by
  unfold m_head_173
  exact (hr_rec132 _ _ _ _ _ hU)

theorem vm_head_132_b {N : Nat} {rec81 : St → Int32 → Int32 → Option (Unit × St)} {rec132 : St → Int32 → Int32 → Int32 → Int32 → Option (Unit × St)} {σ : St} {x2 : Int32} {x4 : Int32} {x5 : Int32} {x6 : Int32} (hU : VF σ) (hr_rec81 : ∀ (z0 : St) (z1 : Int32) (z2 : Int32), VF z0 → Par (rec81 z0 z1 z2) (fun _ σ' => VF σ')) (hr_rec132 : ∀ (z0 : St) (z1 : Int32) (z2 : Int32) (z3 : Int32) (z4 : Int32), VF z0 → Par (rec132 z0 z1 z2 z3 z4) (fun _ σ' => VF σ')) : Par (m_head_132_b N rec81 rec132 σ x2 x4 x5 x6) (fun _ σ' => VF σ') := by
  unfold m_head_132_b
  refine par_gd (fun _ => ?_)
  refine par_if (fun _ => ?_) (fun _ => ?_)
  · exact (vm_head_179 hU hr_rec81)
  · refine par_if (fun _ => ?_) (fun _ => ?_)
    · refine par_gd (fun _ => ?_)
      refine par_if (fun _ => ?_) (fun _ => ?_)
      · refine par_bd (vm_wrong hU (by decide)) (fun _ σ14 h1 => ?_)
        exact (vm_head_173 h1 hr_rec81 hr_rec132)
      · exact (vm_head_173 hU hr_rec81 hr_rec132)
    · exact (vm_head_179 hU hr_rec81)

theorem vm_head_132 {N : Nat} {rec81 : St → Int32 → Int32 → Option (Unit × St)} (hr_rec81 : ∀ (z0 : St) (z1 : Int32) (z2 : Int32), VF z0 → Par (rec81 z0 z1 z2) (fun _ σ' => VF σ')) : ∀ (n : Nat) (σ : St) (x2 : Int32) (x4 : Int32) (x5 : Int32) (x6 : Int32), VF σ → Par (m_head_132 N rec81 n σ x2 x4 x5 x6) (fun _ σ' => VF σ') := by
  intro n
  induction n with
  | zero => intro σ x2 x4 x5 x6 hU r σ' e; cases e
  | succ n ih =>
    intro σ x2 x4 x5 x6 hU
    exact vm_head_132_b hU hr_rec81 (fun z0 z1 z2 z3 z4 hV => ih z0 z1 z2 z3 z4 hV)

theorem vm_head_122 {N : Nat} {rec81 : St → Int32 → Int32 → Option (Unit × St)} {σ : St} {x2 : Int32} {x4 : Int32} (hU : VF σ) (hr_rec81 : ∀ (z0 : St) (z1 : Int32) (z2 : Int32), VF z0 → Par (rec81 z0 z1 z2) (fun _ σ' => VF σ')) : Par (m_head_122 N rec81 σ x2 x4) (fun _ σ' => VF σ') := by
  unfold m_head_122
  refine par_bd (vm_taken hU) (fun r9 σ10 h1 => ?_)
  exact (vm_head_132 hr_rec81 N _ _ _ _ _ h1)

theorem vm_head_81_b {N : Nat} {rec81 : St → Int32 → Int32 → Option (Unit × St)} {σ : St} {x2 : Int32} {x3 : Int32} (hU : VF σ) (hr_rec81 : ∀ (z0 : St) (z1 : Int32) (z2 : Int32), VF z0 → Par (rec81 z0 z1 z2) (fun _ σ' => VF σ')) : Par (m_head_81_b N rec81 σ x2 x3) (fun _ σ' => VF σ') := by
  unfold m_head_81_b
  refine par_if (fun _ => ?_) (fun _ => ?_)
  · exact (vm_head_224 hU)
  · refine par_if (fun _ => ?_) (fun _ => ?_)
    · refine par_if (fun _ => ?_) (fun _ => ?_)
      · refine par_gd (fun _ => ?_)
        refine par_if (fun _ => ?_) (fun _ => ?_)
        · refine par_bd (vm_wrong hU (by decide)) (fun _ σ16 h1 => ?_)
          exact (vm_head_122 h1 hr_rec81)
        · exact (vm_head_122 hU hr_rec81)
      · exact (vm_head_122 hU hr_rec81)
    · exact (vm_head_224 hU)

theorem vm_head_81 {N : Nat}  : ∀ (n : Nat) (σ : St) (x2 : Int32) (x3 : Int32), VF σ → Par (m_head_81 N  n σ x2 x3) (fun _ σ' => VF σ') := by
  intro n
  induction n with
  | zero => intro σ x2 x3 hU r σ' e; cases e
  | succ n ih =>
    intro σ x2 x3 hU
    exact vm_head_81_b hU  (fun z0 z1 z2 hV => ih z0 z1 z2 hV)

theorem vm_head_46 {N : Nat} {σ : St} {x2 : Int32} (hU : VF σ) : Par (m_head_46 N σ x2) (fun _ σ' => VF σ') := by
  unfold m_head_46
  refine par_bd (vm_wants hU) (fun _ σ4 h1 => ?_)
  refine par_gd (fun _ => ?_)
  refine par_if (fun _ => ?_) (fun _ => ?_)
  · refine par_bd (vm_isSign (vf_A h1)) (fun r17 σ18 h2 => ?_)
    refine par_if (fun _ => ?_) (fun _ => ?_)
    · exact (vm_head_81  N _ _ _ h2)
    · exact (vm_head_81  N _ _ _ h2)
  · exact (vm_head_81  N _ _ _ (vf_A h1))

theorem vm_head {N : Nat} {σ : St} (hU : VF σ) : Par (m_head N σ) (fun _ σ' => VF σ') := by
  unfold m_head
  refine par_bd (vm_taken hU) (fun r1 σ2 h1 => ?_)
  refine par_if (fun _ => ?_) (fun _ => ?_)
  · refine par_gd (fun _ => ?_)
    refine par_if (fun _ => ?_) (fun _ => ?_)
    · exact (vm_head_46 (vf_I h1 (by decide) (by decide)))
    · refine par_bd (vm_wrong (vf_I h1 (by decide) (by decide)) (by decide)) (fun _ σ20 h2 => ?_)
      exact (vm_head_46 h2)
  · exact par_some (vf_I h1 (by decide) (by decide))

theorem vm_closes_151 {N : Nat} {σ : St} {x1 : Int32} {x2 : Int32} (hU : VF σ) : Par (m_closes_151 N σ x1 x2) (fun _ σ' => VF σ') := by
  unfold m_closes_151
  refine par_if (fun _ => ?_) (fun _ => ?_)
  · refine par_gd (fun _ => ?_)
    exact par_some (vf_A hU)
  · refine par_gd (fun _ => ?_)
    exact par_some (vf_A hU)

theorem vm_closes {N : Nat} {σ : St} (hU : VF σ) : Par (m_closes N σ) (fun _ σ' => VF σ') := by
  unfold m_closes
  refine par_bd (vm_next hU) (fun _ σ2 h1 => ?_)
  refine par_gd (fun _ => ?_)
  refine par_gd (fun _ => ?_)
  refine par_if (fun _ => ?_) (fun _ => ?_)
  · refine par_bd (vm_emit (vf_I h1 (by decide) (by decide))) (fun r13 σ14 h2 => ?_)
    refine par_bd (vm_emit h2) (fun r15 σ16 h3 => ?_)
    exact par_some h3
  · refine par_if (fun _ => ?_) (fun _ => ?_)
    · refine par_gd (fun _ => ?_)
      refine par_bd (vm_emit (vf_I h1 (by decide) (by decide))) (fun r11 σ12 h4 => ?_)
      refine par_gd (fun _ => ?_)
      exact par_some (vf_A h4)
    · refine par_if (fun _ => ?_) (fun _ => ?_)
      · refine par_bd (vm_isWord (vf_I h1 (by decide) (by decide))) (fun r3 σ4 h5 => ?_)
        refine par_if (fun _ => ?_) (fun _ => ?_)
        · exact (vm_closes_151 h5)
        · refine par_bd (vm_next h5) (fun _ σ6 h6 => ?_)
          refine par_bd (vm_emit h6) (fun r7 σ8 h7 => ?_)
          refine par_gd (fun _ => ?_)
          refine par_bd (vm_opens (vf_A h7)) (fun _ σ10 h8 => ?_)
          exact par_some h8
      · exact (vm_closes_151 (vf_I h1 (by decide) (by decide)))

theorem vm_newUse_17 {N : Nat} {σ : St} {x1 : Int32} {x2 : Int32} (hU : VF σ) : Par (m_newUse_17 N σ x1 x2) (fun _ σ' => VF σ') := by
  unfold m_newUse_17
  refine par_if (fun _ => ?_) (fun _ => ?_)
  · refine par_gd (fun _ => ?_)
    refine par_gd (fun _ => ?_)
    refine par_gd (fun _ => ?_)
    refine par_gd (fun _ => ?_)
    refine par_gd (fun _ => ?_)
    refine par_gd (fun _ => ?_)
    refine par_gd (fun _ => ?_)
    exact par_some (vf_A (vf_A (vf_A (vf_A hU))))
  · exact par_some hU

theorem vm_newUse {N : Nat} {σ : St} {a1 : Int32} {a2 : Int32} (hU : VF σ) : Par (m_newUse N σ a1 a2) (fun _ σ' => VF σ') := by
  unfold m_newUse
  refine par_gd (fun _ => ?_)
  refine par_if (fun _ => ?_) (fun _ => ?_)
  · refine par_bd (vm_wrong hU (by decide)) (fun _ σ2 h1 => ?_)
    exact (vm_newUse_17 h1)
  · exact (vm_newUse_17 hU)

theorem vm_field_41 {N : Nat} {σ : St} (hU : VF σ) : Par (m_field_41 N σ) (fun _ σ' => VF σ') := by
  unfold m_field_41
  refine par_bd (vm_taken hU) (fun r1 σ2 h1 => ?_)
  exact par_some h1

theorem vm_field_32 {N : Nat} {σ : St} (hU : VF σ) : Par (m_field_32 N σ) (fun _ σ' => VF σ') := by
  unfold m_field_32
  refine par_bd (vm_wrong hU (by decide)) (fun _ σ4 h1 => ?_)
  exact (vm_field_41 h1)

theorem vm_field {N : Nat} {σ : St} (hU : VF σ) : Par (m_field N σ) (fun _ σ' => VF σ') := by
  unfold m_field
  refine par_if (fun _ => ?_) (fun _ => ?_)
  · refine par_if (fun _ => ?_) (fun _ => ?_)
    · refine par_if (fun _ => ?_) (fun _ => ?_)
      · exact (vm_field_41 hU)
      · refine par_if (fun _ => ?_) (fun _ => ?_)
        · exact (vm_field_41 hU)
        · exact (vm_field_32 hU)
    · exact (vm_field_32 hU)
  · exact (vm_field_41 hU)

theorem vm_call_106 {N : Nat} {σ : St} {x1 : Int32} {x2 : Int32} {x3 : Int32} {x4 : Int32} (hU : VF σ) : Par (m_call_106 N σ x1 x2 x3 x4) (fun _ σ' => VF σ') := by
  unfold m_call_106
  refine par_bd (vm_wants hU) (fun _ σ6 h1 => ?_)
  refine par_if (fun _ => ?_) (fun _ => ?_)
  · refine par_gd (fun _ => ?_)
    refine par_gd (fun _ => ?_)
    refine par_gd (fun _ => ?_)
    refine par_bd (vm_emit (vf_I (vf_A (vf_A (vf_A h1))) (by decide) (by decide))) (fun r7 σ8 h2 => ?_)
    refine par_gd (fun _ => ?_)
    exact par_some (vf_A h2)
  · exact par_some h1

theorem vm_call_78 {N : Nat} {rec45 : St → Int32 → Int32 → Int32 → Int32 → Int32 → Option (Unit × St)} {σ : St} {x1 : Int32} {x2 : Int32} {x3 : Int32} {x4 : Int32} (hU : VF σ) (hr_rec45 : ∀ (z0 : St) (z1 : Int32) (z2 : Int32) (z3 : Int32) (z4 : Int32) (z5 : Int32), VF z0 → Par (rec45 z0 z1 z2 z3 z4 z5) (fun _ σ' => VF σ')) : Par (m_call_78 N rec45 σ x1 x2 x3 x4) (fun _ σ' => VF σ') := by
  unfold m_call_78
  refine par_bd (vm_taken hU) (fun r9 σ10 h1 => ?_)
  refine par_bd (vm_takesSign h1) (fun r11 σ12 h2 => ?_)
  exact (hr_rec45 _ _ _ _ _ _ h2)

theorem vm_call_45_b {N : Nat} {rec45 : St → Int32 → Int32 → Int32 → Int32 → Int32 → Option (Unit × St)} {σ : St} {x1 : Int32} {x2 : Int32} {x3 : Int32} {x4 : Int32} {x5 : Int32} (hU : VF σ) (hr_rec45 : ∀ (z0 : St) (z1 : Int32) (z2 : Int32) (z3 : Int32) (z4 : Int32) (z5 : Int32), VF z0 → Par (rec45 z0 z1 z2 z3 z4 z5) (fun _ σ' => VF σ')) : Par (m_call_45_b N rec45 σ x1 x2 x3 x4 x5) (fun _ σ' => VF σ') := by
  unfold m_call_45_b
  refine par_if (fun _ => ?_) (fun _ => ?_)
  · exact (vm_call_106 hU)
  · refine par_if (fun _ => ?_) (fun _ => ?_)
    · refine par_if (fun _ => ?_) (fun _ => ?_)
      · refine par_if (fun _ => ?_) (fun _ => ?_)
        · refine par_bd (vm_wrong hU (by decide)) (fun _ σ14 h1 => ?_)
          exact (vm_call_78 h1 hr_rec45)
        · exact (vm_call_78 hU hr_rec45)
      · exact (vm_call_78 hU hr_rec45)
    · exact (vm_call_106 hU)

theorem vm_call_45 {N : Nat}  : ∀ (n : Nat) (σ : St) (x1 : Int32) (x2 : Int32) (x3 : Int32) (x4 : Int32) (x5 : Int32), VF σ → Par (m_call_45 N  n σ x1 x2 x3 x4 x5) (fun _ σ' => VF σ') := by
  intro n
  induction n with
  | zero => intro σ x1 x2 x3 x4 x5 hU r σ' e; cases e
  | succ n ih =>
    intro σ x1 x2 x3 x4 x5 hU
    exact vm_call_45_b hU  (fun z0 z1 z2 z3 z4 z5 hV => ih z0 z1 z2 z3 z4 z5 hV)

theorem vm_call {N : Nat} {σ : St} (hU : VF σ) : Par (m_call N σ) (fun _ σ' => VF σ') := by
  unfold m_call
  refine par_bd (vm_taken hU) (fun r1 σ2 h1 => ?_)
  refine par_bd (vm_wants h1) (fun _ σ4 h2 => ?_)
  refine par_if (fun _ => ?_) (fun _ => ?_)
  · refine par_bd (vm_isSign h2) (fun r15 σ16 h3 => ?_)
    refine par_if (fun _ => ?_) (fun _ => ?_)
    · exact (vm_call_45  N _ _ _ _ _ _ h3)
    · exact (vm_call_45  N _ _ _ _ _ _ h3)
  · exact (vm_call_45  N _ _ _ _ _ _ h2)

theorem vm_worth {N : Nat} {σ : St} (hU : VF σ) : Par (m_worth N σ) (fun _ σ' => VF σ') := by
  unfold m_worth
  refine par_if (fun _ => ?_) (fun _ => ?_)
  · refine par_bd (vm_isWord hU) (fun r1 σ2 h1 => ?_)
    refine par_if (fun _ => ?_) (fun _ => ?_)
    · refine par_bd (vm_isWord h1) (fun r3 σ4 h2 => ?_)
      refine par_if (fun _ => ?_) (fun _ => ?_)
      · refine par_bd (vm_isWord h2) (fun r5 σ6 h3 => ?_)
        refine par_if (fun _ => ?_) (fun _ => ?_)
        · refine par_if (fun _ => ?_) (fun _ => ?_)
          · refine par_bd (vm_taken h3) (fun r11 σ12 h4 => ?_)
            refine par_bd (vm_isSign h4) (fun r13 σ14 h5 => ?_)
            refine par_if (fun _ => ?_) (fun _ => ?_)
            · refine par_bd (vm_emit h5) (fun r23 σ24 h6 => ?_)
              exact par_some h6
            · refine par_bd (vm_newUse h5) (fun r15 σ16 h7 => ?_)
              refine par_bd (vm_next h7) (fun _ σ18 h8 => ?_)
              refine par_bd (vm_field h8) (fun r19 σ20 h9 => ?_)
              refine par_bd (vm_emit h9) (fun r21 σ22 h10 => ?_)
              exact par_some h10
          · refine par_if (fun _ => ?_) (fun _ => ?_)
            · refine par_bd (vm_call h3) (fun _ σ10 h11 => ?_)
              exact par_some h11
            · refine par_bd (vm_wrong h3 (by decide)) (fun _ σ8 h12 => ?_)
              exact par_some h12
        · refine par_bd (vm_next h3) (fun _ σ26 h13 => ?_)
          refine par_bd (vm_taken h13) (fun r27 σ28 h14 => ?_)
          refine par_bd (vm_taken h14) (fun r29 σ30 h15 => ?_)
          refine par_bd (vm_emit h15) (fun r31 σ32 h16 => ?_)
          exact par_some h16
      · refine par_bd (vm_next h2) (fun _ σ34 h17 => ?_)
        refine par_bd (vm_emit h17) (fun r35 σ36 h18 => ?_)
        exact par_some h18
    · refine par_bd (vm_next h1) (fun _ σ38 h19 => ?_)
      refine par_bd (vm_emit h19) (fun r39 σ40 h20 => ?_)
      exact par_some h20
  · exact par_some hU

theorem vm_newTest_224 {N : Nat} {σ : St} {x3 : Int32} {x4 : Int32} {t1 : Int32} (hU : VF σ) : Par (m_newTest_224 N σ x3 x4 t1) (fun _ σ' => VF σ') := by
  unfold m_newTest_224
  refine par_bd (vm_emit hU) (fun r9 σ10 h1 => ?_)
  exact par_some h1

theorem vm_newTest_211 {N : Nat} {σ : St} {x3 : Int32} {x4 : Int32} {x5 : Int32} (hU : VF σ) : Par (m_newTest_211 N σ x3 x4 x5) (fun _ σ' => VF σ') := by
  unfold m_newTest_211
  refine par_if (fun _ => ?_) (fun _ => ?_)
  · exact (vm_newTest_224 hU)
  · exact (vm_newTest_224 hU)

theorem vm_newTest_200 {N : Nat} {σ : St} {x3 : Int32} {x4 : Int32} {x5 : Int32} (hU : VF σ) : Par (m_newTest_200 N σ x3 x4 x5) (fun _ σ' => VF σ') := by
  unfold m_newTest_200
  refine par_if (fun _ => ?_) (fun _ => ?_)
  · refine par_bd (vm_next hU) (fun _ σ12 h1 => ?_)
    exact (vm_newTest_211 h1)
  · exact (vm_newTest_211 hU)

theorem vm_newTest_183 {N : Nat} {σ : St} {x3 : Int32} {x4 : Int32} {x5 : Int32} (hU : VF σ) : Par (m_newTest_183 N σ x3 x4 x5) (fun _ σ' => VF σ') := by
  unfold m_newTest_183
  refine par_bd (vm_isWord hU) (fun r7 σ8 h1 => ?_)
  refine par_if (fun _ => ?_) (fun _ => ?_)
  · refine par_bd (vm_wrong h1 (by decide)) (fun _ σ14 h2 => ?_)
    exact (vm_newTest_200 h2)
  · exact (vm_newTest_200 h1)

theorem vm_newTest_172 {N : Nat} {σ : St} {x3 : Int32} {x4 : Int32} {x5 : Int32} (hU : VF σ) : Par (m_newTest_172 N σ x3 x4 x5) (fun _ σ' => VF σ') := by
  unfold m_newTest_172
  refine par_if (fun _ => ?_) (fun _ => ?_)
  · refine par_bd (vm_next hU) (fun _ σ16 h1 => ?_)
    exact (vm_newTest_183 h1)
  · exact (vm_newTest_183 hU)

theorem vm_newTest_64 {N : Nat} {σ : St} {x1 : Int32} (hU : VF σ) : Par (m_newTest_64 N σ x1) (fun _ σ' => VF σ') := by
  unfold m_newTest_64
  refine par_if (fun _ => ?_) (fun _ => ?_)
  · refine par_gd (fun _ => ?_)
    refine par_gd (fun _ => ?_)
    refine par_gd (fun _ => ?_)
    refine par_gd (fun _ => ?_)
    refine par_gd (fun _ => ?_)
    refine par_bd (vm_isWord (vf_A (vf_A (vf_A hU)))) (fun r1 σ2 h1 => ?_)
    refine par_if (fun _ => ?_) (fun _ => ?_)
    · refine par_bd (vm_taken h1) (fun r3 σ4 h2 => ?_)
      refine par_bd (vm_isWord h2) (fun r5 σ6 h3 => ?_)
      refine par_if (fun _ => ?_) (fun _ => ?_)
      · refine par_bd (vm_isWord h3) (fun r17 σ18 h4 => ?_)
        refine par_if (fun _ => ?_) (fun _ => ?_)
        · refine par_bd (vm_wrong h4 (by decide)) (fun _ σ20 h5 => ?_)
          exact (vm_newTest_172 h5)
        · exact (vm_newTest_172 h4)
      · exact (vm_newTest_172 h3)
    · refine par_bd (vm_next h1) (fun _ σ22 h6 => ?_)
      refine par_bd (vm_emit h6) (fun r23 σ24 h7 => ?_)
      exact par_some h7
  · exact par_some hU

theorem vm_newTest_33 {N : Nat} {σ : St} {x1 : Int32} {t0 : Int32} (hU : VF σ) : Par (m_newTest_33 N σ x1 t0) (fun _ σ' => VF σ') := by
  unfold m_newTest_33
  refine par_if (fun _ => ?_) (fun _ => ?_)
  · refine par_bd (vm_wrong hU (by decide)) (fun _ σ28 h1 => ?_)
    exact (vm_newTest_64 h1)
  · refine par_gd (fun _ => ?_)
    refine par_if (fun _ => ?_) (fun _ => ?_)
    · refine par_bd (vm_wrong hU (by decide)) (fun _ σ26 h2 => ?_)
      exact (vm_newTest_64 h2)
    · exact (vm_newTest_64 hU)

theorem vm_newTest_32 {N : Nat} {σ : St} {x1 : Int32} (hU : VF σ) : Par (m_newTest_32 N σ x1) (fun _ σ' => VF σ') := by
  unfold m_newTest_32
  exact (vm_newTest_33 hU)

theorem vm_newTest_28 {N : Nat} {σ : St} {x1 : Int32} (hU : VF σ) : Par (m_newTest_28 N σ x1) (fun _ σ' => VF σ') := by
  unfold m_newTest_28
  exact (vm_newTest_33 hU)

theorem vm_newTest {N : Nat} {σ : St} (hU : VF σ) : Par (m_newTest N σ) (fun _ σ' => VF σ') := by
  unfold m_newTest
  refine par_if (fun _ => ?_) (fun _ => ?_)
  · refine par_if (fun _ => ?_) (fun _ => ?_)
    · exact (vm_newTest_28 hU)
    · refine par_bd (vm_isWord hU) (fun r29 σ30 h1 => ?_)
      refine par_if (fun _ => ?_) (fun _ => ?_)
      · exact (vm_newTest_32 h1)
      · exact (vm_newTest_28 h1)
  · exact (vm_newTest_32 hU)

theorem vm_statement_183 {N : Nat} {σ : St} (hU : VF σ) : Par (m_statement_183 N σ) (fun _ σ' => VF σ') := by
  unfold m_statement_183
  refine par_bd (vm_emit hU) (fun r33 σ34 h1 => ?_)
  refine par_bd (vm_wants h1) (fun _ σ36 h2 => ?_)
  exact par_some h2

theorem vm_statement_97 {N : Nat} {σ : St} (hU : VF σ) : Par (m_statement_97 N σ) (fun _ σ' => VF σ') := by
  unfold m_statement_97
  refine par_bd (vm_wants hU) (fun _ σ58 h1 => ?_)
  exact par_some h1

theorem vm_statement {N : Nat} {σ : St} (hU : VF σ) : Par (m_statement N σ) (fun _ σ' => VF σ') := by
  unfold m_statement
  refine par_if (fun _ => ?_) (fun _ => ?_)
  · refine par_bd (vm_emit hU) (fun r45 σ46 h1 => ?_)
    refine par_bd (vm_taken h1) (fun r47 σ48 h2 => ?_)
    refine par_bd (vm_isSign h2) (fun r49 σ50 h3 => ?_)
    refine par_if (fun _ => ?_) (fun _ => ?_)
    · refine par_bd (vm_wants h3) (fun _ σ52 h4 => ?_)
      refine par_bd (vm_worth h4) (fun _ σ54 h5 => ?_)
      refine par_bd (vm_emit h5) (fun r55 σ56 h6 => ?_)
      exact (vm_statement_97 h6)
    · refine par_bd (vm_newUse h3) (fun r59 σ60 h7 => ?_)
      refine par_bd (vm_next h7) (fun _ σ62 h8 => ?_)
      refine par_bd (vm_field h8) (fun r63 σ64 h9 => ?_)
      refine par_bd (vm_wants h9) (fun _ σ66 h10 => ?_)
      refine par_bd (vm_worth h10) (fun _ σ68 h11 => ?_)
      refine par_bd (vm_emit h11) (fun r69 σ70 h12 => ?_)
      exact (vm_statement_97 h12)
  · refine par_if (fun _ => ?_) (fun _ => ?_)
    · refine par_bd (vm_emit hU) (fun r39 σ40 h13 => ?_)
      refine par_bd (vm_call h13) (fun _ σ42 h14 => ?_)
      refine par_bd (vm_wants h14) (fun _ σ44 h15 => ?_)
      exact par_some h15
    · refine par_bd (vm_isWord hU) (fun r1 σ2 h16 => ?_)
      refine par_if (fun _ => ?_) (fun _ => ?_)
      · refine par_bd (vm_isWord h16) (fun r3 σ4 h17 => ?_)
        refine par_if (fun _ => ?_) (fun _ => ?_)
        · refine par_bd (vm_isWord h17) (fun r5 σ6 h18 => ?_)
          refine par_if (fun _ => ?_) (fun _ => ?_)
          · refine par_bd (vm_wrong h18 (by decide)) (fun _ σ8 h19 => ?_)
            exact par_some h19
          · refine par_bd (vm_emit h18) (fun r9 σ10 h20 => ?_)
            refine par_bd (vm_next h20) (fun _ σ12 h21 => ?_)
            refine par_bd (vm_newTest h21) (fun r13 σ14 h22 => ?_)
            refine par_bd (vm_opens h22) (fun _ σ16 h23 => ?_)
            exact par_some h23
        · refine par_bd (vm_emit h17) (fun r17 σ18 h24 => ?_)
          refine par_bd (vm_next h24) (fun _ σ20 h25 => ?_)
          refine par_bd (vm_newTest h25) (fun r21 σ22 h26 => ?_)
          refine par_bd (vm_opens h26) (fun _ σ24 h27 => ?_)
          exact par_some h27
      · refine par_bd (vm_emit h16) (fun r25 σ26 h28 => ?_)
        refine par_bd (vm_next h28) (fun _ σ28 h29 => ?_)
        refine par_bd (vm_isSign h29) (fun r29 σ30 h30 => ?_)
        refine par_if (fun _ => ?_) (fun _ => ?_)
        · refine par_bd (vm_worth h30) (fun _ σ32 h31 => ?_)
          exact (vm_statement_183 h31)
        · refine par_bd (vm_emit h30) (fun r37 σ38 h32 => ?_)
          exact (vm_statement_183 h32)

theorem vm_parses_199 {N : Nat} {rec138 : St → Int32 → Option (Unit × St)} {σ : St} {x1 : Int32} (hU : VF σ) (hr_rec138 : ∀ (z0 : St) (z1 : Int32), VF z0 → Par (rec138 z0 z1) (fun _ σ' => VF σ')) : Par (m_parses_199 N rec138 σ x1) (fun _ σ' => VF σ') := by
  unfold m_parses_199
  exact (hr_rec138 _ _ hU)

theorem vm_parses_188 {N : Nat} {rec138 : St → Int32 → Option (Unit × St)} {σ : St} {x1 : Int32} (hU : VF σ) (hr_rec138 : ∀ (z0 : St) (z1 : Int32), VF z0 → Par (rec138 z0 z1) (fun _ σ' => VF σ')) : Par (m_parses_188 N rec138 σ x1) (fun _ σ' => VF σ') := by
  unfold m_parses_188
  refine par_gd (fun _ => ?_)
  refine par_bd (vm_wrong hU (by decide)) (fun _ σ4 h1 => ?_)
  exact (vm_parses_199 h1 hr_rec138)

theorem vm_parses_138_b {N : Nat} {rec138 : St → Int32 → Option (Unit × St)} {σ : St} {x1 : Int32} (hU : VF σ) (hr_rec138 : ∀ (z0 : St) (z1 : Int32), VF z0 → Par (rec138 z0 z1) (fun _ σ' => VF σ')) : Par (m_parses_138_b N rec138 σ x1) (fun _ σ' => VF σ') := by
  unfold m_parses_138_b
  refine par_if (fun _ => ?_) (fun _ => ?_)
  · exact par_some hU
  · refine par_if (fun _ => ?_) (fun _ => ?_)
    · refine par_gd (fun _ => ?_)
      refine par_gd (fun _ => ?_)
      refine par_if (fun _ => ?_) (fun _ => ?_)
      · exact (vm_parses_188 hU hr_rec138)
      · refine par_gd (fun _ => ?_)
        refine par_gd (fun _ => ?_)
        refine par_if (fun _ => ?_) (fun _ => ?_)
        · exact (vm_parses_199 hU hr_rec138)
        · exact (vm_parses_188 hU hr_rec138)
    · exact par_some hU

theorem vm_parses_138 {N : Nat}  : ∀ (n : Nat) (σ : St) (x1 : Int32), VF σ → Par (m_parses_138 N  n σ x1) (fun _ σ' => VF σ') := by
  intro n
  induction n with
  | zero => intro σ x1 hU r σ' e; cases e
  | succ n ih =>
    intro σ x1 hU
    exact vm_parses_138_b hU  (fun z0 z1 hV => ih z0 z1 hV)

theorem vm_parses_99 {N : Nat} {rec77 : St → Option (Unit × St)} {σ : St} (hU : VF σ) (hr_rec77 : ∀ (z0 : St), VF z0 → Par (rec77 z0) (fun _ σ' => VF σ')) : Par (m_parses_99 N rec77 σ) (fun _ σ' => VF σ') := by
  unfold m_parses_99
  refine par_if (fun _ => ?_) (fun _ => ?_)
  · refine par_bd (vm_head hU) (fun _ σ12 h1 => ?_)
    exact (hr_rec77 _ h1)
  · refine par_bd (vm_isSign hU) (fun r5 σ6 h2 => ?_)
    refine par_if (fun _ => ?_) (fun _ => ?_)
    · refine par_bd (vm_statement h2) (fun _ σ8 h3 => ?_)
      exact (hr_rec77 _ h3)
    · refine par_bd (vm_closes h2) (fun _ σ10 h4 => ?_)
      exact (hr_rec77 _ h4)

theorem vm_parses_77_b {N : Nat} {rec77 : St → Option (Unit × St)} {σ : St} (hU : VF σ) (hr_rec77 : ∀ (z0 : St), VF z0 → Par (rec77 z0) (fun _ σ' => VF σ')) : Par (m_parses_77_b N rec77 σ) (fun _ σ' => VF σ') := by
  unfold m_parses_77_b
  refine par_if (fun _ => ?_) (fun _ => ?_)
  · refine par_if (fun _ => ?_) (fun _ => ?_)
    · refine par_if (fun _ => ?_) (fun _ => ?_)
      · exact (vm_parses_138  N _ _ hU)
      · exact (vm_parses_99 hU hr_rec77)
    · exact (vm_parses_99 hU hr_rec77)
  · exact (vm_parses_138  N _ _ hU)

theorem vm_parses_77 {N : Nat}  : ∀ (n : Nat) (σ : St), VF σ → Par (m_parses_77 N  n σ) (fun _ σ' => VF σ') := by
  intro n
  induction n with
  | zero => intro σ hU r σ' e; cases e
  | succ n ih =>
    intro σ hU
    exact vm_parses_77_b hU  (fun z0 hV => ih z0 hV)

theorem vm_parses_73 {N : Nat} {σ : St} (hU : VF σ) : Par (m_parses_73 N σ) (fun _ σ' => VF σ') := by
  unfold m_parses_73
  refine par_bd (vm_next hU) (fun _ σ2 h1 => ?_)
  exact (vm_parses_77  N _ h1)

theorem vm_parses_54_b {N : Nat} {rec54 : St → Int32 → Option (Unit × St)} {σ : St} {x1 : Int32} (hU : VF σ) (hr_rec54 : ∀ (z0 : St) (z1 : Int32), VF z0 → Par (rec54 z0 z1) (fun _ σ' => VF σ')) : Par (m_parses_54_b N rec54 σ x1) (fun _ σ' => VF σ') := by
  unfold m_parses_54_b
  refine par_if (fun _ => ?_) (fun _ => ?_)
  · exact (vm_parses_73 hU)
  · refine par_gd (fun _ => ?_)
    exact (hr_rec54 _ _ (vf_A hU))

theorem vm_parses_54 {N : Nat}  : ∀ (n : Nat) (σ : St) (x1 : Int32), VF σ → Par (m_parses_54 N  n σ x1) (fun _ σ' => VF σ') := by
  intro n
  induction n with
  | zero => intro σ x1 hU r σ' e; cases e
  | succ n ih =>
    intro σ x1 hU
    exact vm_parses_54_b hU  (fun z0 z1 hV => ih z0 z1 hV)

theorem vm_parses {N : Nat} {σ : St} : Par (m_parses N σ) (fun _ σ' => VF σ') := by
  unfold m_parses
  have hV : VF (sI (sI (sI σ 4 0) 8 0) 9 (-1)) := fun _ => gI_eq
  exact par_gd (fun _ => par_gd (fun _ => par_gd (fun _ => vm_parses_54 N _ _ (vf_A (vf_A (vf_A (vf_I (vf_I (vf_I hV (by decide) (by decide)) (by decide) (by decide)) (by decide) (by decide))))))))
