/-! runs of the reference: the number of choices -/
def K3 (s0 σ : St) : Prop := gI σ 53 = gI s0 53
theorem k3_r (σ : St) : K3 σ σ := rfl
theorem k3_I {s0 σ : St} {k : Nat} {v : Int32} (h : K3 s0 σ) (hk : k ≠ 53) : K3 s0 (sI σ k v) := (gI_ne hk).trans h
theorem k3_A {s0 σ : St} {j i : Nat} {v : Int32} (h : K3 s0 σ) (hk : True) : K3 s0 (sA σ j i v) := h
theorem k3_m_makes_50 {N : Nat} {s0 : St} {σ : St} {x2 : Int32} {t1 : Int32} {t2 : Int32} (hU : K3 s0 σ) : Par (m_makes_50 N σ x2 t1 t2) (fun _ σ' => K3 s0 σ') := by
  unfold m_makes_50
  refine par_gd (fun _ => ?_)
  refine par_if (fun _ => ?_) (fun _ => ?_)
  · refine par_gd (fun _ => ?_)
    exact par_some (k3_A (k3_A hU (by decide)) (by decide))
  · refine par_gd (fun _ => ?_)
    exact par_some (k3_A (k3_A hU (by decide)) (by decide))
theorem k3_m_makes {N : Nat} {s0 : St} {σ : St} {a1 : Int32} {a2 : Int32} (hU : K3 s0 σ) : Par (m_makes N σ a1 a2) (fun _ σ' => K3 s0 σ') := by
  unfold m_makes
  refine par_if (fun _ => ?_) (fun _ => ?_)
  · exact par_some (k3_I hU (by decide))
  · refine par_if (fun _ => ?_) (fun _ => ?_)
    · exact (k3_m_makes_50 (k3_I hU (by decide)))
    · exact (k3_m_makes_50 (k3_I hU (by decide)))
theorem k3_m_frame_29 {N : Nat} {s0 : St} {σ : St} {x1 : Int32} (hU : K3 s0 σ) : Par (m_frame_29 N σ x1) (fun _ σ' => K3 s0 σ') := by
  unfold m_frame_29
  refine par_gd (fun _ => ?_)
  exact par_some (k3_I (k3_A hU (by decide)) (by decide))
theorem k3_m_frame_2_b {N : Nat} {s0 : St} {σ : St} {x1 : Int32} {x2 : Int32} (hU : K3 s0 σ) {rec2 : St → Int32 → Int32 → Option (Unit × St)} (h_rec2 : ∀ (z0 : St) (z1 : Int32) (z2 : Int32), K3 s0 z0 → Par (rec2 z0 z1 z2) (fun _ σ' => K3 s0 σ')) : Par (m_frame_2_b N rec2 σ x1 x2) (fun _ σ' => K3 s0 σ') := by
  unfold m_frame_2_b
  refine par_if (fun _ => ?_) (fun _ => ?_)
  · exact (k3_m_frame_29 hU)
  · refine par_gd (fun _ => ?_)
    exact (h_rec2 _ _ _ (k3_A hU (by decide)))
theorem k3_m_frame_2 {N : Nat} {s0 : St} : ∀ (n : Nat) (σ : St) (x1 : Int32) (x2 : Int32), K3 s0 σ → Par (m_frame_2 N  n σ x1 x2) (fun _ σ' => K3 s0 σ') := by
  intro n
  induction n with
  | zero => intro σ x1 x2 _ r σ' e; cases e
  | succ n ih =>
    intro σ x1 x2 hU
    exact k3_m_frame_2_b (N := N) hU (fun z0 z1 z2 hz => ih z0 z1 z2 hz)
theorem k3_m_frame {N : Nat} {s0 : St} {σ : St} {a1 : Int32} (hU : K3 s0 σ) : Par (m_frame N σ a1) (fun _ σ' => K3 s0 σ') := by
  unfold m_frame
  exact (k3_m_frame_2  N _ _ _ hU)
theorem k3_m_step {N : Nat} {s0 : St} {σ : St} (hU : K3 s0 σ) : Par (m_step N σ) (fun _ σ' => K3 s0 σ') := by
  unfold m_step
  refine par_if (fun _ => ?_) (fun _ => ?_)
  · exact par_some (k3_I hU (by decide))
  · exact par_some (k3_I hU (by decide))
theorem k3_m_nameOf {N : Nat} {s0 : St} {σ : St} {a1 : Int32} (hU : K3 s0 σ) : Par (m_nameOf N σ a1) (fun _ σ' => K3 s0 σ') := by
  unfold m_nameOf
  refine par_gd (fun _ => ?_)
  exact par_some hU
theorem k3_m_fails {N : Nat} {s0 : St} {σ : St} {a1 : Int32} (hU : K3 s0 σ) : Par (m_fails N σ a1) (fun _ σ' => K3 s0 σ') := by
  unfold m_fails
  exact par_some (k3_I (k3_I hU (by decide)) (by decide))
theorem k3_m_enter_43_b {N : Nat} {s0 : St} {σ : St} {x1 : Int32} {x2 : Int32} {x3 : Int32} {x4 : Int32} (hU : K3 s0 σ) {rec43 : St → Int32 → Int32 → Int32 → Int32 → Option (Int32 × St)} (h_rec43 : ∀ (z0 : St) (z1 : Int32) (z2 : Int32) (z3 : Int32) (z4 : Int32), K3 s0 z0 → Par (rec43 z0 z1 z2 z3 z4) (fun _ σ' => K3 s0 σ')) : Par (m_enter_43_b N rec43 σ x1 x2 x3 x4) (fun _ σ' => K3 s0 σ') := by
  unfold m_enter_43_b
  refine par_gd (fun _ => ?_)
  refine par_if (fun _ => ?_) (fun _ => ?_)
  · refine par_gd (fun _ => ?_)
    exact par_some hU
  · refine par_gd (fun _ => ?_)
    refine par_gd (fun _ => ?_)
    refine par_gd (fun _ => ?_)
    refine par_gd (fun _ => ?_)
    exact (h_rec43 _ _ _ _ _ (k3_A hU (by decide)))
theorem k3_m_enter_43 {N : Nat} {s0 : St} : ∀ (n : Nat) (σ : St) (x1 : Int32) (x2 : Int32) (x3 : Int32) (x4 : Int32), K3 s0 σ → Par (m_enter_43 N  n σ x1 x2 x3 x4) (fun _ σ' => K3 s0 σ') := by
  intro n
  induction n with
  | zero => intro σ x1 x2 x3 x4 _ r σ' e; cases e
  | succ n ih =>
    intro σ x1 x2 x3 x4 hU
    exact k3_m_enter_43_b (N := N) hU (fun z0 z1 z2 z3 z4 hz => ih z0 z1 z2 z3 z4 hz)
theorem k3_m_enter {N : Nat} {s0 : St} {σ : St} {a1 : Int32} (hU : K3 s0 σ) : Par (m_enter N σ a1) (fun _ σ' => K3 s0 σ') := by
  unfold m_enter
  refine par_if (fun _ => ?_) (fun _ => ?_)
  · exact par_some (k3_I hU (by decide))
  · refine par_gd (fun _ => ?_)
    refine par_bd (k3_m_frame hU) (fun _ σ2 h1 => ?_)
    exact (k3_m_enter_43  N _ _ _ _ _ h1)
