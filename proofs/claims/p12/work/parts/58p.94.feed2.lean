/-! feed: the tapes stay alike -/
theorem c_put4 {N : Nat} {σ : St} {v : Int32} {q : Nat} (hq : q + 4 ≤ 1200) (h1 : gI σ 1 = nI q) : Par (x10_putNumber N σ v) (fun _ σ' => (∀ x, gA σ' 1 x = if q ≤ x ∧ x < q + 4 then vp_nar .byte (wb v (x - q)) else gA σ 1 x) ∧ gI σ' 1 = nI (q + 4) ∧ (∀ k, k ≠ 1 → gA σ' k = gA σ k) ∧ (∀ k, k ≠ 1 → gI σ' k = gI σ k) ∧ (∀ k, gP σ' k = gP σ k)) := by
  unfold x10_putNumber
  exact c_putN (N := N) (v := v) N 4 σ q (by decide) hq h1
theorem r_feed {N : Nat} {σc σm : St} {a1 a2 a3 a4 a5 : Int32} {q : Nat} (hC : CT (gA σc 1) (gA σm 1)) (hB : TB (gA σm 1)) (c1 : gI σc 1 = nI q) (m2 : gI σm 2 = nI q) (hq : q ≤ 1200) : R2 (x10_feed N σc a1 a2 a3 a4 a5) (m_feed N σm a1 a2 a3 a4 a5) (fun _ σc' _ σm' => CT (gA σc' 1) (gA σm' 1) ∧ TB (gA σm' 1) ∧ (∀ k, k ≠ 1 → gA σc' k = gA σc k) ∧ (∀ k, k ≠ 1 → gI σc' k = gI σc k) ∧ (∀ k, gP σc' k = gP σc k) ∧ (∀ k, k ≠ 1 → gA σm' k = gA σm k) ∧ (∀ k, k ≠ 0 → k ≠ 2 → gI σm' k = gI σm k)) := by
  unfold x10_feed m_feed
  rw [c1, m2, show nI q + (20 : Int32) = nI (q + 20) from nI_add q 20]
  by_cases c : q ≤ 1180
  · rw [if_pos (show nI (q + 20) ≤ (1200 : Int32) from nI_le (b := 1200) (by omega) (by decide)), if_pos (show nI q ≤ (1180 : Int32) from nI_le (b := 1180) c (by decide))]
    refine r2_bdL (c_put4 (by omega) c1) (fun _ s1 z => ?_)
    obtain ⟨z1, z2, z3, z4, z5⟩ := z
    refine r2_bdL (c_put4 (by omega) z2) (fun _ s2 y => ?_)
    obtain ⟨y1, y2, y3, y4, y5⟩ := y
    refine r2_bdL (c_put4 (by omega) y2) (fun _ s3 x => ?_)
    obtain ⟨x1, x2, x3, x4, x5⟩ := x
    refine r2_bdL (c_put4 (by omega) x2) (fun _ s4 w => ?_)
    obtain ⟨w1, w2, w3, w4, w5⟩ := w
    refine r2_bdL (c_put4 (by omega) w2) (fun _ s5 v => ?_)
    obtain ⟨v1, v2, v3, v4, v5⟩ := v
    refine r2_par (P1 := fun _ σ => σ = s5) (par_some rfl) (n_feed20 (q := q) (by omega) N 0 (sI σm 0 0) (by decide) ((gI_ne (by decide)).trans m2)) (fun _ σc' _ σm' e p => ?_)
    obtain ⟨p1, p2, p3⟩ := p
    subst e
    have hm : ∀ x, gA σm' 1 x = if q ≤ x ∧ x < q + 20 then fb a1 a2 a3 a4 a5 (x - q) else gA σm 1 x := p1
    refine ⟨fun x hx => ?_, fun x hx => ?_, fun k hk => by rw [v3 k hk, w3 k hk, x3 k hk, y3 k hk, z3 k hk], fun k hk => by rw [v4 k hk, w4 k hk, x4 k hk, y4 k hk, z4 k hk], fun k => by rw [v5, w5, x5, y5, z5], fun k hk => p2 k hk, fun k h0 h2 => (p3 k h2).trans (gI_ne (fun y => h0 y.symm))⟩
    · rw [hm x, v1 x, w1 x, x1 x, y1 x, z1 x]
      by_cases d : q ≤ x ∧ x < q + 20
      · rw [if_pos d]
        unfold fb fa
        rcases (show x < q + 4 ∨ (q + 4 ≤ x ∧ x < q + 8) ∨ (q + 8 ≤ x ∧ x < q + 12) ∨ (q + 12 ≤ x ∧ x < q + 16) ∨ q + 16 ≤ x by omega) with e | e | e | e | e
        · rw [if_neg (by omega), if_neg (by omega), if_neg (by omega), if_neg (by omega), if_pos (by omega), if_neg (by omega), if_neg (by omega), if_neg (by omega), if_neg (by omega), show (x - q) % 4 = x - q by omega]
        · rw [if_neg (by omega), if_neg (by omega), if_neg (by omega), if_pos (by omega), if_neg (by omega), if_neg (by omega), if_neg (by omega), if_pos (by omega), show (x - q) % 4 = x - (q + 4) by omega]
        · rw [if_neg (by omega), if_neg (by omega), if_pos (by omega), if_neg (by omega), if_neg (by omega), if_pos (by omega), show (x - q) % 4 = x - (q + 4 + 4) by omega]
        · rw [if_neg (by omega), if_pos (by omega), if_neg (by omega), if_pos (by omega), show (x - q) % 4 = x - (q + 4 + 4 + 4) by omega]
        · rw [if_pos (by omega), if_pos (by omega), show (x - q) % 4 = x - (q + 4 + 4 + 4 + 4) by omega]
      · rw [if_neg d, if_neg (by omega), if_neg (by omega), if_neg (by omega), if_neg (by omega), if_neg (by omega)]
        exact hC x hx
    · rw [hm x]
      by_cases d : q ≤ x ∧ x < q + 20
      · rw [if_pos d]
        unfold fb wb
        exact and255
      · rw [if_neg d]
        exact hB x hx
  · rw [if_neg (show ¬ nI (q + 20) ≤ (1200 : Int32) from nI_ge (a := 1200) (by omega) (by omega)), if_neg (show ¬ nI q ≤ (1180 : Int32) from nI_ge (a := 1180) (by omega) (by omega))]
    exact r2_some ⟨hC, hB, fun _ _ => rfl, fun _ _ => rfl, fun _ => rfl, fun _ _ => rfl, fun k h0 _ => gI_ne (fun y => h0 y.symm)⟩
