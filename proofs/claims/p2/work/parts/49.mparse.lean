theorem ib400 {k : Nat} (h : k ≤ 399) : ib (nI k) 400 = true := ib_m (by rw [nI_t (by omega)]; omega) (by rw [nI_t (by omega)]; omega) (by decide)
/-- what parses() leaves: where no fault is told, a right program -/
def PR (σ' : St) : Prop := ∃ a c u w : Nat, a ≤ 1299 ∧ u ≤ 40 ∧ w ≤ 24 ∧ PS σ' a 0 c u w ∧ SQ (gA σ') a 0 c X0 ∧ (a = 0 ∨ fr (gA σ' 12) (a - 1) = 9) ∧ ∀ j, j < c → ∀ l : Nat, l ≤ 7 → gA σ' 31 j = nI l → ¬ gA σ' 19 (8 + l) = -1 ∧ gA σ' 20 (8 + l) = gA σ' 32 j
/-- parses() changes neither the tape nor what was taken before, nor the numbers outside its own -/
def KP (σ σ' : St) : Prop := (∀ k, (k < 4 ∨ 9 < k) → k ≠ 17 → k ≠ 33 → k ≠ 34 → k ≠ 38 → gI σ' k = gI σ k) ∧ gA σ' 1 = gA σ 1
theorem s_parses_138 {N : Nat} : ∀ (n : Nat) (σ : St) (k c : Nat), c ≤ 399 → TI σ → TV σ → gI σ 33 = nI c → k ≤ c → (∀ j, j < c → 0 ≤ (gA σ 31 j).toInt ∧ (gA σ 31 j).toInt ≤ 7) → (gI σ 8 = 0 → ∀ j, j < k → ∀ l : Nat, l ≤ 7 → gA σ 31 j = nI l → ¬ gA σ 19 (8 + l) = -1 ∧ gA σ 20 (8 + l) = gA σ 32 j) → 400 - k < n → Tot (m_parses_138 N n σ (nI k)) (fun _ σ' => Tk σ σ' ∧ (gI σ' 8 = 0 → gI σ 8 = 0 ∧ ∀ j, j < c → ∀ l : Nat, l ≤ 7 → gA σ 31 j = nI l → ¬ gA σ 19 (8 + l) = -1 ∧ gA σ 20 (8 + l) = gA σ 32 j)) := by
  intro n
  induction n with
  | zero => intro σ k c _ _ _ _ _ _ _ h; exact absurd h (Nat.not_lt_zero _)
  | succ n ih =>
    intro σ k c hc hT hV h33 hk hl hq hn
    show Tot (m_parses_138_b N (m_parses_138 N n) σ (nI k)) _
    unfold m_parses_138_b m_parses_188 m_parses_199
    rw [h33]
    refine tot_if (fun hle => ?_) (fun hle => ?_)
    · rw [Int32.le_iff_toInt_le, nI_t (by omega), nI_t (by omega)] at hle
      obtain rfl : k = c := by omega
      exact tot_some ⟨tk_rf σ, fun e => ⟨e, hq e⟩⟩
    · rw [Int32.le_iff_toInt_le, nI_t (by omega), nI_t (by omega)] at hle
      refine tot_if (fun h8 => ?_) (fun h8 => tot_some ⟨tk_rf σ, fun e => absurd e h8⟩)
      have hcl : (nI k).toNatClampNeg = k := nI_clamp (by omega)
      obtain ⟨l, hl7, el⟩ := nI_of7 (hl k (by omega)).1 (hl k (by omega)).2
      rw [hcl, ib400 (by omega), el, show (8 : Int32) + nI l = nI (8 + l) from by rw [show (8 : Int32) = nI 8 from by decide, nI_add], ib16 hl7, nI_clamp (show 8 + l < 2 ^ 31 by omega), ← nI_succ k]
      have bad : Tot (gd true (bd (m_wrong N σ 4 (gA σ 30 k)) (fun _ σ4 => m_parses_138 N n σ4 (nI (k + 1))))) (fun _ σ' => Tk σ σ' ∧ (gI σ' 8 = 0 → gI σ 8 = 0 ∧ ∀ j, j < c → ∀ l : Nat, l ≤ 7 → gA σ 31 j = nI l → ¬ gA σ 19 (8 + l) = -1 ∧ gA σ 20 (8 + l) = gA σ 32 j)) := by
        refine tot_gd rfl (tot_bd (s_wrong hT hV (by decide)) (fun _ σ4 hp => ?_))
        have hk4 := hp.1.2.2.1
        refine (ih σ4 (k + 1) c hc hp.1.1 hp.1.2.1 (by rw [hk4.2.1 33 (by omega)]; exact h33) (by omega) (by rw [hk4.1]; exact hl) (fun e => absurd e hp.2.1) (by omega)).mono (fun _ σ' q => ⟨tk_tr hk4 q.1, fun e => absurd (q.2 e).1 hp.2.1⟩)
      refine tot_gd rfl (tot_gd rfl (tot_if (fun _ => bad) (fun h19 => tot_gd rfl (tot_gd rfl (tot_if (fun h20 => ?_) (fun _ => bad))))))
      refine ih σ (k + 1) c hc hT hV h33 (by omega) hl (fun e j hj l2 hl2 e2 => ?_) (by omega)
      rcases (show j = k ∨ j < k by omega) with z | z
      · subst z
        have : l = l2 := nI_inj (by omega) (by omega) (el.symm.trans e2)
        subst this
        exact ⟨h19, h20⟩
      · exact hq e j z l2 hl2 e2
