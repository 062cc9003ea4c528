/-! a taken text: each use's number stands at one act -/
def UB (σ : St) : Prop := ∃ a u : Nat, gI σ 18 = nI a ∧ a ≤ 1300 ∧ gA σ 26 0 = nI u ∧ u ≤ 40 ∧ (∀ k, k < a → us (gA σ 12 k) → ∃ v, v < u ∧ gA σ 15 k = nI v) ∧ ∀ k k', k < k' → k' < a → us (gA σ 12 k) → us (gA σ 12 k') → ¬ gA σ 15 k = gA σ 15 k'
theorem ub_f {σ σ' : St} (h18 : gI σ' 18 = gI σ 18) (h12 : ∀ i, i < 1300 → gA σ' 12 i = gA σ 12 i) (h15 : ∀ i, i < 1300 → gA σ' 15 i = gA σ 15 i) (h26 : gA σ' 26 0 = gA σ 26 0) (h : UB σ) : UB σ' := by
  obtain ⟨a, u, f1, f2, f3, f4, f5, f6⟩ := h
  refine ⟨a, u, h18.trans f1, f2, h26.trans f3, f4, fun k hk hu => ?_, fun k k' h1 h2 u1 u2 => ?_⟩
  · rw [h12 k (by omega)] at hu
    rw [h15 k (by omega)]
    exact f5 k hk hu
  · rw [h12 k (by omega)] at u1
    rw [h12 k' (by omega)] at u2
    rw [h15 k (by omega), h15 k' (by omega)]
    exact f6 k k' h1 h2 u1 u2
theorem ub_km {σ σ' : St} (h18 : gI σ' 18 = gI σ 18) (hA : ∀ j, j < 40 → gA σ' j = gA σ j) (h : UB σ) : UB σ' := ub_f h18 (fun i _ => by rw [hA 12 (by decide)]) (fun i _ => by rw [hA 15 (by decide)]) (by rw [hA 26 (by decide)]) h
theorem rm_id {N : Nat} {σ : St} : Par (m_routinesMany N σ) (fun _ σ' => σ' = σ) := by
  have lp : ∀ (f : Nat) (x1 x2 : Int32), Par (m_routinesMany_4 N f σ x1 x2) (fun _ σ' => σ' = σ) := by
    intro f
    induction f with
    | zero => intro x1 x2 r σ' e; cases e
    | succ f ih =>
      intro x1 x2
      show Par (m_routinesMany_4_b N (m_routinesMany_4 N f) σ x1 x2) _
      unfold m_routinesMany_4_b m_routinesMany_26
      exact par_if (fun _ => par_some rfl) (fun _ => par_gd (fun _ => par_if (fun _ => ih _ _) (fun _ => ih _ _)))
  unfold m_routinesMany
  exact lp N 0 0
theorem ub_text {N : Nat} {σm : St} {a1 : Int32} {q : Nat} (hN : 8589934592 ≤ N) (m2 : gI σm 2 = nI q) (hq : q ≤ 1200) (h : UB σm) : Par (m_text N σm a1) (fun _ σ' => UB σ') := by
  have hz : UB (sI σm 0 0) := ub_km (gI_ne (by decide)) (fun _ _ => rfl) h
  unfold m_text
  rw [m2]
  refine par_if (fun _ => par_some hz) (fun cn => par_if (fun cq => ?_) (fun _ => par_some hz))
  obtain ⟨n, hn31, rfl⟩ := nI_of cn
  have hn : n ≤ q := (nI_leI hn31 (by omega)).mp cq
  have hbs := (s_parses (N := N) (σ := sI (sI (sI σm 0 0) 3 (nI n)) 2 0) hN (by rw [gI_ne (by decide), gI_eq, nI_t hn31]; omega) (by rw [gI_ne (by decide), gI_eq, nI_t hn31]; omega)).par
  refine par_bd (hbs.and ku_parses) (fun _ σ5 y => ?_)
  obtain ⟨⟨⟨b1, b2, -⟩, b3⟩, yk⟩ := y
  refine par_if (fun h8 => ?_) (fun _ => par_some ?_)
  · obtain ⟨a', c', u', w', o1, -, -, o4, -⟩ := b3 h8
    obtain ⟨a, u, b, f1, f2, f3, f4, f5, f6, f7, f8, f9, f10⟩ := yk h8
    have ea : a = a' := (nI_eq (by omega) (by omega)).mp (f1.symm.trans o4.1)
    subst ea
    refine par_bd (s_comes (N := N) (σ := sI (sI σ5 10 (gI σ5 8)) 11 (gI σ5 9)) (a := a) hN o1 ((gI_ne (by decide)).trans ((gI_ne (by decide)).trans f1))).par (fun _ σ7 v => par_bd rm_id (fun r σ8 e => par_some ?_))
    rw [e]
    obtain ⟨v1, v2, v3, v4, v5, -⟩ := v
    have r12 : ∀ k, k < a → gA σ7 12 k = gA σ5 12 (1300 + k) := fun k hk => by rw [v1 12 (by decide) (by decide)]; exact cp_lt hk
    have r15 : ∀ k, k < a → gA σ7 15 k = gA σ5 15 (1300 + k) := fun k hk => by rw [v1 15 (by decide) (by decide)]; exact cp_lt hk
    have r26 : gA σ7 26 0 = gA σ5 26 1 := by rw [v2 26 (by decide) (by decide)]; exact cp_lt (show 0 < (off 26).2 by decide)
    refine ⟨a, u, ?_, f2, r26.trans f3, f4, fun k hk hu => ?_, fun k k' h1 h2 u1 u2 => ?_⟩
    · rw [v4 18 (by decide)]
      exact gI_eq
    · rw [r12 k hk] at hu
      rw [r15 k hk]
      obtain ⟨v, w1, -, w3⟩ := f8 k hk hu
      exact ⟨v, w1, w3⟩
    · rw [r12 k (by omega)] at u1
      rw [r12 k' h2] at u2
      rw [r15 k (by omega), r15 k' h2]
      exact f9 k k' h1 h2 u1 u2
  · have e18 : gI (sI (sI σ5 10 (gI σ5 8)) 11 (gI σ5 9)) 18 = gI σm 18 := by
      rw [gI_ne (by decide), gI_ne (by decide), b2 18 (by omega) (by decide) (by decide) (by decide) (by decide), gI_ne (by decide), gI_ne (by decide), gI_ne (by decide)]
    exact ub_f e18 (fun i hi => b1 12 i hi) (fun i hi => b1 15 i hi) (b1 26 0 (show 0 < 1 by decide)) h
