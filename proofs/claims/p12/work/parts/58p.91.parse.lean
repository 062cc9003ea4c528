/-! the reading of a text, from its start -/
theorem r2_54 {ρ : Type} {oc : Option (ρ × St)} {N : Nat} {Q : ρ → St → Unit → St → Prop} {σ0 : St} (k1 : ∀ σ, (∀ k, gI σ k = gI σ0 k) → (∀ j, j ≠ 19 → gA σ j = gA σ0 j) → (∀ r, r < 8 → gA σ 19 (8 + r) = -1) → R2 oc (m_parses_73 N σ) Q) : ∀ (f k : Nat) (σ : St), 8 ≤ k → k ≤ 16 → (∀ k, gI σ k = gI σ0 k) → (∀ j, j ≠ 19 → gA σ j = gA σ0 j) → (∀ x, 8 ≤ x → x < k → gA σ 19 x = -1) → R2 oc (m_parses_54 N f σ (nI k)) Q := by
  intro f
  induction f with
  | zero => intro k σ _ _ _ _ _ _ _ _ _ _ e2; cases e2
  | succ f ih =>
    intro k σ hk hk2 hI hA h19
    show R2 oc (m_parses_54_b N (m_parses_54 N f) σ (nI k)) Q
    unfold m_parses_54_b
    by_cases c : k = 16
    · subst c
      rw [if_pos (show (16 : Int32) ≤ nI 16 by decide)]
      exact k1 σ hI hA (fun r hr => h19 _ (by omega) (by omega))
    · rw [if_neg (show ¬ (16 : Int32) ≤ nI k from nI_ge (b := 16) (by omega) (by decide)), nI_clamp (by omega), nI_1]
      refine r2_gdR (fun _ => ih (k + 1) _ (by omega) (by omega) hI (fun j hj => by rw [gA_sA, if_neg hj]; exact hA j hj) (fun x h1 h2 => ?_))
      rw [gA_sA, if_pos rfl]
      by_cases cx : x = k
      · rw [cx, upd_eq]
      · rw [upd_ne cx]
        exact h19 x h1 (by omega)
theorem r_parse {t : Nat → Int32} {n g N : Nat} {σc σm : St} (hN : 8589934592 ≤ N) (hT : Tp t n) (hg : isPr g = true) (hC : TokC σc t n) (m3 : gI σm 3 = nI n) (m1 : gA σm 1 = t) : R2 (x4_readInto N σc g) (m_parses N σm) (fun _ σc' _ σm' => PQ t n g σc' σm') := by
  have hgb := pg_b hg
  have hn := hT.2
  unfold x4_readInto m_parses x3_clear
  rw [hg, gd_t, gd_t, bd_s, ib12, gd_t, gd_t, gd_t, c1]
  generalize eC : sI (sI (sI (sI (sI (sI (sI (sI (sI (sI (sP (sP σc 403 g) 404 (g + 1)) (100 * (g + 1) + 1) 0) (100 * g + 9) 0) (100 * g + 10) 0) (100 * g + 11) 0) (100 * g + 12) 0) (100 * g + 13) (-1)) 405 0) 406 0) 408 0) 409 (-1) = σ1
  generalize eM : sA (sA (sA (sI (sI (sI (sI (sI (sI σm 4 0) 8 0) 9 (-1)) 17 0) 33 0) 38 0) 26 1 0) 29 1 0) 22 1 (-1) = σ2
  have cI : ∀ k, k ≠ 405 → k ≠ 406 → k ≠ 408 → k ≠ 409 → k ≠ 100 * (g + 1) + 1 → k ≠ 100 * g + 9 → k ≠ 100 * g + 10 → k ≠ 100 * g + 11 → k ≠ 100 * g + 12 → k ≠ 100 * g + 13 → gI σ1 k = gI σc k := fun k a1 a2 a3 a4 a5 a6 a7 a8 a9 a10 => by
    rw [← eC, gI_ne (fun y => a4 y.symm), gI_ne (fun y => a3 y.symm), gI_ne (fun y => a2 y.symm), gI_ne (fun y => a1 y.symm), gI_ne (fun y => a10 y.symm), gI_ne (fun y => a9 y.symm), gI_ne (fun y => a8 y.symm), gI_ne (fun y => a7 y.symm), gI_ne (fun y => a6 y.symm), gI_ne (fun y => a5 y.symm)]
    rfl
  have cA : ∀ j, gA σ1 j = gA σc j := fun j => by rw [← eC]; rfl
  have p403 : gP σ1 403 = g := by rw [← eC]; rfl
  have p404 : gP σ1 404 = g + 1 := by rw [← eC]; rfl
  have g405 : gI σ1 405 = 0 := by rw [← eC, gI_ne (by decide), gI_ne (by decide), gI_ne (by decide), gI_eq]
  have g406 : gI σ1 406 = 0 := by rw [← eC, gI_ne (by decide), gI_ne (by decide), gI_eq]
  have g408 : gI σ1 408 = 0 := by rw [← eC, gI_ne (by decide), gI_eq]
  have gsz : gI σ1 (100 * (g + 1) + 1) = 0 := by rw [← eC, gI_ne (by omega), gI_ne (by omega), gI_ne (by omega), gI_ne (by omega), gI_ne (by omega), gI_ne (by omega), gI_ne (by omega), gI_ne (by omega), gI_ne (by omega), gI_eq]
  have g9 : gI σ1 (100 * g + 9) = 0 := by rw [← eC, gI_ne (by omega), gI_ne (by omega), gI_ne (by omega), gI_ne (by omega), gI_ne (by omega), gI_ne (by omega), gI_ne (by omega), gI_ne (by omega), gI_eq]
  have g10 : gI σ1 (100 * g + 10) = 0 := by rw [← eC, gI_ne (by omega), gI_ne (by omega), gI_ne (by omega), gI_ne (by omega), gI_ne (by omega), gI_ne (by omega), gI_ne (by omega), gI_eq]
  have g11 : gI σ1 (100 * g + 11) = 0 := by rw [← eC, gI_ne (by omega), gI_ne (by omega), gI_ne (by omega), gI_ne (by omega), gI_ne (by omega), gI_ne (by omega), gI_eq]
  have g12 : gI σ1 (100 * g + 12) = 0 := by rw [← eC, gI_ne (by omega), gI_ne (by omega), gI_ne (by omega), gI_ne (by omega), gI_ne (by omega), gI_eq]
  have g13 : gI σ1 (100 * g + 13) = -1 := by rw [← eC, gI_ne (by omega), gI_ne (by omega), gI_ne (by omega), gI_ne (by omega), gI_eq]
  have mI : ∀ k, k ≠ 4 → k ≠ 8 → k ≠ 9 → k ≠ 17 → k ≠ 33 → k ≠ 38 → gI σ2 k = gI σm k := fun k a1 a2 a3 a4 a5 a6 => by
    rw [← eM]
    show gI (sI (sI (sI (sI (sI (sI σm 4 0) 8 0) 9 (-1)) 17 0) 33 0) 38 0) k = _
    rw [gI_ne (fun y => a6 y.symm), gI_ne (fun y => a5 y.symm), gI_ne (fun y => a4 y.symm), gI_ne (fun y => a3 y.symm), gI_ne (fun y => a2 y.symm), gI_ne (fun y => a1 y.symm)]
  have m4 : gI σ2 4 = nI 0 := by
    rw [← eM]
    show gI (sI (sI (sI (sI (sI (sI σm 4 0) 8 0) 9 (-1)) 17 0) 33 0) 38 0) 4 = _
    rw [gI_ne (by decide), gI_ne (by decide), gI_ne (by decide), gI_ne (by decide), gI_ne (by decide), gI_eq]
    rfl
  have m8 : gI σ2 8 = 0 := by
    rw [← eM]
    show gI (sI (sI (sI (sI (sI (sI σm 4 0) 8 0) 9 (-1)) 17 0) 33 0) 38 0) 8 = _
    rw [gI_ne (by decide), gI_ne (by decide), gI_ne (by decide), gI_ne (by decide), gI_eq]
  have m17 : gI σ2 17 = nI 0 := by
    rw [← eM]
    show gI (sI (sI (sI (sI (sI (sI σm 4 0) 8 0) 9 (-1)) 17 0) 33 0) 38 0) 17 = _
    rw [gI_ne (by decide), gI_ne (by decide), gI_eq]
    rfl
  have m33 : gI σ2 33 = nI 0 := by
    rw [← eM]
    show gI (sI (sI (sI (sI (sI (sI σm 4 0) 8 0) 9 (-1)) 17 0) 33 0) 38 0) 33 = _
    rw [gI_ne (by decide), gI_eq]
    rfl
  have m38 : gI σ2 38 = nI 0 := by
    rw [← eM]
    show gI (sI (sI (sI (sI (sI (sI σm 4 0) 8 0) 9 (-1)) 17 0) 33 0) 38 0) 38 = _
    rw [gI_eq]
    rfl
  have mA1 : gA σ2 1 = t := by rw [← eM, gA_sA, if_neg (by decide), gA_sA, if_neg (by decide), gA_sA, if_neg (by decide)]; exact m1
  have m26 : gA σ2 26 1 = nI 0 := by
    rw [← eM, gA_sA, if_neg (by decide), gA_sA, if_neg (by decide), gA_sA, if_pos rfl, upd_eq]
    rfl
  have m29 : gA σ2 29 1 = nI 0 := by
    rw [← eM, gA_sA, if_neg (by decide), gA_sA, if_pos rfl, upd_eq]
    rfl
  have m22 : gA σ2 22 1 = -1 := by rw [← eM, gA_sA, if_pos rfl, upd_eq]
  refine r2_54 (σ0 := σ2) (fun σ3 h1 h2 h3 => ?_) N 8 σ2 (by decide) (by decide) (fun _ => rfl) (fun _ _ => rfl) (fun x q1 q2 => by omega)
  unfold m_parses_73
  have hT4 : T4 σ3 := by
    unfold T4
    rw [h1 4, h1 3, m4, mI 3 (by decide) (by decide) (by decide) (by decide) (by decide) (by decide), m3, nI_t (by decide), nI_t (by omega)]
    omega
  refine r2_bdR ((n_next (N := N) (n := n) (p := 0) hn (by rw [h2 1 (by decide), mA1]; exact hT.1) (by rw [h1 3, mI 3 (by decide) (by decide) (by decide) (by decide) (by decide) (by decide)]; exact m3) (by rw [h1 4]; exact m4) (Nat.zero_le _)).and (s_next hN hT4).par) (fun _ σ4 q => ?_)
  obtain ⟨⟨q1, q2, q3⟩, -, -, -, q4, q5⟩ := q
  rw [h2 1 (by decide), mA1] at q1 q2 q3
  have s4 : SyM t n 0 σ4 := ⟨(q4.2.1 3 (by omega)).trans ((h1 3).trans ((mI 3 (by decide) (by decide) (by decide) (by decide) (by decide) (by decide)).trans m3)), (q4.1 1).trans ((h2 1 (by decide)).trans mA1), q1, q2, q3, q5.1.trans ((h1 8).trans m8)⟩
  have hRel : Rel t n g 0 0 (fun _ => 0) (fun _ => 0) 0 0 0 0 σ1 σ4 := by
    refine ⟨⟨⟨tokC_same hC (cI _ (by decide) (by decide) (by decide) (by decide) (by omega) (by omega) (by omega) (by omega) (by omega) (by omega)) (cI _ (by decide) (by decide) (by decide) (by decide) (by omega) (by omega) (by omega) (by omega) (by omega) (by omega)) (cA 3), g405, by decide, g408⟩, ⟨hg, p403, p404⟩, gsz, by decide⟩, ⟨s4, (q4.2.1 17 (by omega)).trans ((h1 17).trans m17), by decide, (q4.2.1 33 (by omega)).trans ((h1 33).trans m33), by decide⟩, ⟨g11, by rw [q4.1 26, h2 26 (by decide)]; exact m26, by decide, fun k hk => absurd hk (Nat.not_lt_zero k)⟩, ⟨g12, by rw [q4.1 29, h2 29 (by decide)]; exact m29, by decide, fun k hk => absurd hk (Nat.not_lt_zero k)⟩, ⟨fun h => absurd h (by decide), fun p hp => absurd hp (Nat.not_lt_zero p), fun h => absurd h (by decide)⟩, ⟨g406, (q4.2.1 38 (by omega)).trans ((h1 38).trans m38), by decide, fun k hk => absurd hk (Nat.not_lt_zero k)⟩, ⟨by decide, g9, g10, ?_, fun _ => ?_, fun h => absurd rfl h, fun r hr => ?_⟩, ⟨rfl, rfl, fun p hp => absurd hp (Nat.not_lt_zero p)⟩, Nat.zero_le _⟩
    · rw [g13, q4.1 22, h2 22 (by decide), m22]
    · rw [q4.1 22, h2 22 (by decide)]; exact m22
    · have e0 : ¬ 0 / 2 ^ r % 2 = 1 := by rw [Nat.zero_div]; decide
      have e1 : gA σ4 19 (8 + r) = -1 := by rw [q4.1 19]; exact h3 r hr
      exact ⟨⟨fun h => absurd h e0, fun h => absurd e1 h⟩, fun h => absurd h e0⟩
  exact r_loop hN hT N N 0 0 0 _ _ 0 0 0 0 σ1 σ4 hRel (Nat.zero_le _)
