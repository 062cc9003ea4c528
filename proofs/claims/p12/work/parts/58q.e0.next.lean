/-! taking a token tells no fault -/
def K8 (s0 σ : St) : Prop := gI σ 8 = gI s0 8
theorem k8_I {s0 σ : St} {k : Nat} {v : Int32} (h : K8 s0 σ) (hk : k ≠ 8) : K8 s0 (sI σ k v) := (gI_ne hk).trans h
theorem k8_m_here {N : Nat} {s0 : St} {σ : St} (hU : K8 s0 σ) : Par (m_here N σ) (fun _ σ' => K8 s0 σ') := by
  unfold m_here
  refine par_if (fun _ => ?_) (fun _ => ?_)
  · exact par_some hU
  · refine par_gd (fun _ => ?_)
    exact par_some hU
theorem k8_m_isSmall {N : Nat} {s0 : St} {σ : St} {a1 : Int32} (hU : K8 s0 σ) : Par (m_isSmall N σ a1) (fun _ σ' => K8 s0 σ') := by
  unfold m_isSmall
  refine par_if (fun _ => ?_) (fun _ => ?_)
  · exact par_some hU
  · refine par_if (fun _ => ?_) (fun _ => ?_)
    · exact par_some hU
    · exact par_some hU
theorem k8_m_wordOf_114 {N : Nat} {s0 : St} {σ : St} {x1 : Int32} {x2 : Int32} (hU : K8 s0 σ) {rec4 : St → Int32 → Int32 → Option (Int32 × St)} (h_rec4 : ∀ (z0 : St) (z1 : Int32) (z2 : Int32), K8 s0 z0 → Par (rec4 z0 z1 z2) (fun _ σ' => K8 s0 σ')) : Par (m_wordOf_114 N rec4 σ x1 x2) (fun _ σ' => K8 s0 σ') := by
  unfold m_wordOf_114
  exact (h_rec4 _ _ _ hU)
theorem k8_m_wordOf_97_b {N : Nat} {s0 : St} {σ : St} {x1 : Int32} {x2 : Int32} (hU : K8 s0 σ) {rec4 : St → Int32 → Int32 → Option (Int32 × St)} (h_rec4 : ∀ (z0 : St) (z1 : Int32) (z2 : Int32), K8 s0 z0 → Par (rec4 z0 z1 z2) (fun _ σ' => K8 s0 σ')) {rec97 : St → Int32 → Int32 → Option (Int32 × St)} (h_rec97 : ∀ (z0 : St) (z1 : Int32) (z2 : Int32), K8 s0 z0 → Par (rec97 z0 z1 z2) (fun _ σ' => K8 s0 σ')) : Par (m_wordOf_97_b N rec4 rec97 σ x1 x2) (fun _ σ' => K8 s0 σ') := by
  unfold m_wordOf_97_b
  refine par_gd (fun _ => ?_)
  refine par_if (fun _ => ?_) (fun _ => ?_)
  · exact (k8_m_wordOf_114 hU h_rec4)
  · exact (h_rec97 _ _ _ hU)
theorem k8_m_wordOf_97 {N : Nat} {s0 : St} {rec4 : St → Int32 → Int32 → Option (Int32 × St)} (h_rec4 : ∀ (z0 : St) (z1 : Int32) (z2 : Int32), K8 s0 z0 → Par (rec4 z0 z1 z2) (fun _ σ' => K8 s0 σ')) : ∀ (n : Nat) (σ : St) (x1 : Int32) (x2 : Int32), K8 s0 σ → Par (m_wordOf_97 N rec4 n σ x1 x2) (fun _ σ' => K8 s0 σ') := by
  intro n
  induction n with
  | zero => intro σ x1 x2 _ r σ' e; cases e
  | succ n ih =>
    intro σ x1 x2 hU
    exact k8_m_wordOf_97_b (N := N) hU h_rec4 (fun z0 z1 z2 hz => ih z0 z1 z2 hz)
theorem k8_m_wordOf_69 {N : Nat} {s0 : St} {σ : St} {x1 : Int32} {x2 : Int32} {x3 : Int32} (hU : K8 s0 σ) {rec4 : St → Int32 → Int32 → Option (Int32 × St)} (h_rec4 : ∀ (z0 : St) (z1 : Int32) (z2 : Int32), K8 s0 z0 → Par (rec4 z0 z1 z2) (fun _ σ' => K8 s0 σ')) : Par (m_wordOf_69 N rec4 σ x1 x2 x3) (fun _ σ' => K8 s0 σ') := by
  unfold m_wordOf_69
  refine par_gd (fun _ => ?_)
  refine par_if (fun _ => ?_) (fun _ => ?_)
  · refine par_if (fun _ => ?_) (fun _ => ?_)
    · exact par_some hU
    · exact (k8_m_wordOf_97 h_rec4 N _ _ _ hU)
  · exact (k8_m_wordOf_97 h_rec4 N _ _ _ hU)
theorem k8_m_wordOf_15_b {N : Nat} {s0 : St} {σ : St} {x1 : Int32} {x2 : Int32} {x3 : Int32} (hU : K8 s0 σ) {rec4 : St → Int32 → Int32 → Option (Int32 × St)} (h_rec4 : ∀ (z0 : St) (z1 : Int32) (z2 : Int32), K8 s0 z0 → Par (rec4 z0 z1 z2) (fun _ σ' => K8 s0 σ')) {rec15 : St → Int32 → Int32 → Int32 → Option (Int32 × St)} (h_rec15 : ∀ (z0 : St) (z1 : Int32) (z2 : Int32) (z3 : Int32), K8 s0 z0 → Par (rec15 z0 z1 z2 z3) (fun _ σ' => K8 s0 σ')) : Par (m_wordOf_15_b N rec4 rec15 σ x1 x2 x3) (fun _ σ' => K8 s0 σ') := by
  unfold m_wordOf_15_b
  refine par_gd (fun _ => ?_)
  refine par_if (fun _ => ?_) (fun _ => ?_)
  · exact (k8_m_wordOf_69 hU h_rec4)
  · refine par_if (fun _ => ?_) (fun _ => ?_)
    · exact (k8_m_wordOf_69 hU h_rec4)
    · refine par_gd (fun _ => ?_)
      refine par_gd (fun _ => ?_)
      refine par_if (fun _ => ?_) (fun _ => ?_)
      · exact (h_rec15 _ _ _ _ hU)
      · exact (k8_m_wordOf_69 hU h_rec4)
theorem k8_m_wordOf_15 {N : Nat} {s0 : St} {rec4 : St → Int32 → Int32 → Option (Int32 × St)} (h_rec4 : ∀ (z0 : St) (z1 : Int32) (z2 : Int32), K8 s0 z0 → Par (rec4 z0 z1 z2) (fun _ σ' => K8 s0 σ')) : ∀ (n : Nat) (σ : St) (x1 : Int32) (x2 : Int32) (x3 : Int32), K8 s0 σ → Par (m_wordOf_15 N rec4 n σ x1 x2 x3) (fun _ σ' => K8 s0 σ') := by
  intro n
  induction n with
  | zero => intro σ x1 x2 x3 _ r σ' e; cases e
  | succ n ih =>
    intro σ x1 x2 x3 hU
    exact k8_m_wordOf_15_b (N := N) hU h_rec4 (fun z0 z1 z2 z3 hz => ih z0 z1 z2 z3 hz)
theorem k8_m_wordOf_4_b {N : Nat} {s0 : St} {σ : St} {x1 : Int32} {x2 : Int32} (hU : K8 s0 σ) {rec4 : St → Int32 → Int32 → Option (Int32 × St)} (h_rec4 : ∀ (z0 : St) (z1 : Int32) (z2 : Int32), K8 s0 z0 → Par (rec4 z0 z1 z2) (fun _ σ' => K8 s0 σ')) : Par (m_wordOf_4_b N rec4 σ x1 x2) (fun _ σ' => K8 s0 σ') := by
  unfold m_wordOf_4_b
  refine par_if (fun _ => ?_) (fun _ => ?_)
  · exact par_some hU
  · exact (k8_m_wordOf_15 h_rec4 N _ _ _ _ hU)
theorem k8_m_wordOf_4 {N : Nat} {s0 : St} : ∀ (n : Nat) (σ : St) (x1 : Int32) (x2 : Int32), K8 s0 σ → Par (m_wordOf_4 N  n σ x1 x2) (fun _ σ' => K8 s0 σ') := by
  intro n
  induction n with
  | zero => intro σ x1 x2 _ r σ' e; cases e
  | succ n ih =>
    intro σ x1 x2 hU
    exact k8_m_wordOf_4_b (N := N) hU (fun z0 z1 z2 hz => ih z0 z1 z2 hz)
theorem k8_m_wordOf {N : Nat} {s0 : St} {σ : St} (hU : K8 s0 σ) : Par (m_wordOf N σ) (fun _ σ' => K8 s0 σ') := by
  unfold m_wordOf
  exact (k8_m_wordOf_4  N _ _ _ hU)
theorem k8_m_next_18 {N : Nat} {s0 : St} {σ : St} (hU : K8 s0 σ) {rec0 : St → Option (Unit × St)} (h_rec0 : ∀ (z0 : St), K8 s0 z0 → Par (rec0 z0) (fun _ σ' => K8 s0 σ')) : Par (m_next_18 N rec0 σ) (fun _ σ' => K8 s0 σ') := by
  unfold m_next_18
  exact (h_rec0 _ (k8_I hU (by decide)))
theorem k8_m_next_257 {N : Nat} {s0 : St} {σ : St} {x2 : Int32} (hU : K8 s0 σ) : Par (m_next_257 N σ x2) (fun _ σ' => K8 s0 σ') := by
  unfold m_next_257
  refine par_if (fun _ => ?_) (fun _ => ?_)
  · exact par_some (k8_I hU (by decide))
  · exact par_some (k8_I hU (by decide))
theorem k8_m_next_239 {N : Nat} {s0 : St} {σ : St} {x1 : Int32} {t0 : Int32} (hU : K8 s0 σ) : Par (m_next_239 N σ x1 t0) (fun _ σ' => K8 s0 σ') := by
  unfold m_next_239
  refine par_if (fun _ => ?_) (fun _ => ?_)
  · exact (k8_m_next_257 hU)
  · refine par_if (fun _ => ?_) (fun _ => ?_)
    · exact (k8_m_next_257 hU)
    · exact par_some (k8_I hU (by decide))
theorem k8_m_next_234 {N : Nat} {s0 : St} {σ : St} {x1 : Int32} (hU : K8 s0 σ) : Par (m_next_234 N σ x1) (fun _ σ' => K8 s0 σ') := by
  unfold m_next_234
  exact (k8_m_next_239 hU)
theorem k8_m_next_183 {N : Nat} {s0 : St} {σ : St} {x1 : Int32} {t1 : Int32} (hU : K8 s0 σ) : Par (m_next_183 N σ x1 t1) (fun _ σ' => K8 s0 σ') := by
  unfold m_next_183
  refine par_if (fun _ => ?_) (fun _ => ?_)
  · exact (k8_m_next_234 (k8_I hU (by decide)))
  · refine par_if (fun _ => ?_) (fun _ => ?_)
    · exact (k8_m_next_234 (k8_I hU (by decide)))
    · refine par_if (fun _ => ?_) (fun _ => ?_)
      · exact (k8_m_next_234 (k8_I hU (by decide)))
      · refine par_if (fun _ => ?_) (fun _ => ?_)
        · exact (k8_m_next_234 (k8_I hU (by decide)))
        · refine par_if (fun _ => ?_) (fun _ => ?_)
          · exact (k8_m_next_234 (k8_I hU (by decide)))
          · refine par_if (fun _ => ?_) (fun _ => ?_)
            · exact (k8_m_next_234 (k8_I hU (by decide)))
            · refine par_if (fun _ => ?_) (fun _ => ?_)
              · exact (k8_m_next_234 (k8_I hU (by decide)))
              · refine par_if (fun _ => ?_) (fun _ => ?_)
                · exact (k8_m_next_234 (k8_I hU (by decide)))
                · exact (k8_m_next_239 (k8_I hU (by decide)))
theorem k8_m_next_182 {N : Nat} {s0 : St} {σ : St} {x1 : Int32} (hU : K8 s0 σ) : Par (m_next_182 N σ x1) (fun _ σ' => K8 s0 σ') := by
  unfold m_next_182
  exact (k8_m_next_183 hU)
theorem k8_m_next_146 {N : Nat} {s0 : St} {σ : St} {t1 : Int32} (hU : K8 s0 σ) : Par (m_next_146 N σ t1) (fun _ σ' => K8 s0 σ') := by
  unfold m_next_146
  exact par_some (k8_I hU (by decide))
theorem k8_m_next_112 {N : Nat} {s0 : St} {σ : St} {t1 : Int32} (hU : K8 s0 σ) : Par (m_next_112 N σ t1) (fun _ σ' => K8 s0 σ') := by
  unfold m_next_112
  refine par_if (fun _ => ?_) (fun _ => ?_)
  · exact (k8_m_next_146 (k8_I hU (by decide)))
  · refine par_if (fun _ => ?_) (fun _ => ?_)
    · exact (k8_m_next_146 (k8_I hU (by decide)))
    · exact (k8_m_next_146 (k8_I hU (by decide)))
theorem k8_m_next_87 {N : Nat} {s0 : St} {σ : St} {x1 : Int32} (hU : K8 s0 σ) : Par (m_next_87 N σ x1) (fun _ σ' => K8 s0 σ') := by
  unfold m_next_87
  refine par_if (fun _ => ?_) (fun _ => ?_)
  · exact (k8_m_next_112 hU)
  · refine par_bd (k8_m_wordOf hU) (fun r13 σ14 h1 => ?_)
    exact (k8_m_next_112 h1)
theorem k8_m_next_64_b {N : Nat} {s0 : St} {σ : St} {x1 : Int32} (hU : K8 s0 σ) {rec64 : St → Int32 → Option (Unit × St)} (h_rec64 : ∀ (z0 : St) (z1 : Int32), K8 s0 z0 → Par (rec64 z0 z1) (fun _ σ' => K8 s0 σ')) : Par (m_next_64_b N rec64 σ x1) (fun _ σ' => K8 s0 σ') := by
  unfold m_next_64_b
  refine par_bd (k8_m_here hU) (fun r9 σ10 h1 => ?_)
  refine par_bd (k8_m_isSmall h1) (fun r11 σ12 h2 => ?_)
  refine par_if (fun _ => ?_) (fun _ => ?_)
  · exact (k8_m_next_87 h2)
  · exact (h_rec64 _ _ (k8_I h2 (by decide)))
theorem k8_m_next_64 {N : Nat} {s0 : St} : ∀ (n : Nat) (σ : St) (x1 : Int32), K8 s0 σ → Par (m_next_64 N  n σ x1) (fun _ σ' => K8 s0 σ') := by
  intro n
  induction n with
  | zero => intro σ x1 _ r σ' e; cases e
  | succ n ih =>
    intro σ x1 hU
    exact k8_m_next_64_b (N := N) hU (fun z0 z1 hz => ih z0 z1 hz)
theorem k8_m_next_31 {N : Nat} {s0 : St} {σ : St} (hU : K8 s0 σ) : Par (m_next_31 N σ) (fun _ σ' => K8 s0 σ') := by
  unfold m_next_31
  refine par_bd (k8_m_here (k8_I hU (by decide))) (fun r5 σ6 h1 => ?_)
  refine par_if (fun _ => ?_) (fun _ => ?_)
  · exact par_some (k8_I h1 (by decide))
  · refine par_bd (k8_m_isSmall h1) (fun r7 σ8 h2 => ?_)
    refine par_if (fun _ => ?_) (fun _ => ?_)
    · refine par_if (fun _ => ?_) (fun _ => ?_)
      · exact (k8_m_next_182 (k8_I h2 (by decide)))
      · refine par_if (fun _ => ?_) (fun _ => ?_)
        · exact (k8_m_next_182 (k8_I h2 (by decide)))
        · exact (k8_m_next_183 (k8_I h2 (by decide)))
    · exact (k8_m_next_64  N _ _ h2)
theorem k8_m_next_0_b {N : Nat} {s0 : St} {σ : St} (hU : K8 s0 σ) {rec0 : St → Option (Unit × St)} (h_rec0 : ∀ (z0 : St), K8 s0 z0 → Par (rec0 z0) (fun _ σ' => K8 s0 σ')) : Par (m_next_0_b N rec0 σ) (fun _ σ' => K8 s0 σ') := by
  unfold m_next_0_b
  refine par_bd (k8_m_here hU) (fun r1 σ2 h1 => ?_)
  refine par_if (fun _ => ?_) (fun _ => ?_)
  · exact (k8_m_next_18 h1 h_rec0)
  · refine par_bd (k8_m_here h1) (fun r3 σ4 h2 => ?_)
    refine par_if (fun _ => ?_) (fun _ => ?_)
    · exact (k8_m_next_18 h2 h_rec0)
    · exact (k8_m_next_31 h2)
theorem k8_m_next_0 {N : Nat} {s0 : St} : ∀ (n : Nat) (σ : St), K8 s0 σ → Par (m_next_0 N  n σ) (fun _ σ' => K8 s0 σ') := by
  intro n
  induction n with
  | zero => intro σ _ r σ' e; cases e
  | succ n ih =>
    intro σ hU
    exact k8_m_next_0_b (N := N) hU (fun z0 hz => ih z0 hz)
theorem k8_m_next {N : Nat} {s0 : St} {σ : St} (hU : K8 s0 σ) : Par (m_next N σ) (fun _ σ' => K8 s0 σ') := by
  unfold m_next
  exact (k8_m_next_0  N _ hU)
