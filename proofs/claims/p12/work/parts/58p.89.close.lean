/-! a block closes: both sides -/
def FcK (g : Nat) (σ σ' : St) : Prop := (∀ k, k ≠ 405 → k ≠ 406 → k ≠ 100 * (g + 1) + 1 → gI σ' k = gI σ k) ∧ (∀ k, gP σ' k = gP σ k) ∧ (∀ j, j ≠ g + 2 → j ≠ 5 → j ≠ 6 → gA σ' j = gA σ j)
def FmK (σ σ' : St) : Prop := (∀ k, (k < 4 ∨ 9 < k) → k ≠ 17 → k ≠ 38 → gI σ' k = gI σ k) ∧ (∀ j, ¬ (12 ≤ j ∧ j ≤ 15) → ¬ (35 ≤ j ∧ j ≤ 37) → gA σ' j = gA σ j)
theorem rel_mk {t : Nat → Int32} {n g i i2 s s2 b b2 u w T : Nat} {φ ψ φ2 ψ2 : Nat → Nat} {σc σm σc' σm' : St} (hR : Rel t n g i s φ ψ b u w T σc σm) (hs : s ≤ s2) (hf : ∀ p, p ≤ s → φ2 p = φ p) (hb : b2 = 0 → b = 0 ∨ s < s2) (hb' : 0 < b2 → 0 < b) (hb1 : 0 < b) (hO : ∀ p, p < s2 → rwD g p σc' 11 = if p < s then rwD g p σc 11 else gI σc 407) (hC : MC t n g i2 s2 σc') (hM : MM t n i2 (φ2 s2) (ψ2 s2) σm') (hc : FcK g σc σc') (hm : FmK σm σm') (hB : BlR g s2 φ2 b2 σc' σm') (hD : Cod g s2 φ2 ψ2 (Xw b2 σc') σc' σm') (hw : 4 * s2 + wk (gA σc' 5) b2 ≤ kQ t n i2) : Rel t n g i2 s2 φ2 ψ2 b2 u w T σc' σm' := by
  obtain ⟨r1, r2, r3, r4, r5, r6, r7, r8, r9⟩ := hR
  have hg := r1.2.1.1
  have hgb := pg_b hg
  refine ⟨hC, hM, ?_, ?_, ⟨fun h => ?_, ow_mk r5.2 hb1 hs hO (hc.2.2 _ (by omega) (by omega) (by omega)) (hc.1 407 (by decide) (by decide) (by omega))⟩, hB, ?_, hD, hw⟩
  · obtain ⟨u1, u2, u3, u4⟩ := r3
    refine ⟨(hc.1 _ (by omega) (by omega) (by omega)).trans u1, by rw [hm.2 26 (by omega) (by omega)]; exact u2, u3, fun k hk => ?_⟩
    rw [hc.2.2 _ (by omega) (by omega) (by omega), hc.2.2 _ (by omega) (by omega) (by omega), hc.2.2 _ (by omega) (by omega) (by omega), hm.2 23 (by omega) (by omega), hm.2 24 (by omega) (by omega), hm.2 25 (by omega) (by omega)]
    exact u4 k hk
  · exact tsR_same r4 (hc.1 _ (by omega) (by omega) (by omega)) (hc.2.2 _ (by omega) (by omega) (by omega)) (hc.2.2 _ (by omega) (by omega) (by omega)) (fun j h1 h2 => hm.2 j (by omega) (by omega))
  · rw [hc.1 407 (by decide) (by decide) (by omega), hm.1 34 (by omega) (by decide) (by decide)]
    exact r5.1 (hb' h)
  · exact rtR_same r7 hs hf hb (hc.1 _ (by omega) (by omega) (by omega)) (hc.1 _ (by omega) (by omega) (by omega)) (hc.1 _ (by omega) (by omega) (by omega)) (hc.2.2 _ (by omega) (by omega) (by omega)) (hc.2.2 _ (by omega) (by omega) (by omega)) (hc.2.2 _ (by omega) (by omega) (by omega)) (fun j h1 h2 => hm.2 j (by omega) (by omega))
/-- the blocks that stay open -/
theorem blR_low {g s s2 b k : Nat} {φ φ2 : Nat → Nat} {σc σm σc' σm' : St} (h : BlR g s φ b σc σm) (hk : k ≤ b) (hs : s ≤ s2) (hf : ∀ p, p < s → φ2 p = φ p) (h1 : gI σc' 406 = nI k) (h2 : gI σm' 38 = nI k) (h5 : gA σc' 5 = gA σc 5) (h6 : gA σc' 6 = gA σc 6) (h3 : ∀ j, 35 ≤ j → j ≤ 37 → gA σm' j = gA σm j) (hd : ∀ p, p < s → rwD g p σc' 0 = rwD g p σc 0) (ha : ∀ p, p < s → acE (φ p) σm' 2 = acE (φ p) σm 2) : BlR g s2 φ2 k σc' σm' := by
  obtain ⟨b1, b2, b3, b4⟩ := h
  refine ⟨h1, h2, by omega, fun k2 hk2 => ?_⟩
  obtain ⟨c1, c2⟩ := b4 k2 (by omega)
  rw [h5, h6, h3 35 (by omega) (by omega), h3 36 (by omega) (by omega), h3 37 (by omega) (by omega)]
  refine ⟨c1, c2.imp id (fun ⟨z0, p, z1, z2, z3⟩ => ⟨z0, p, by omega, z2, ?_⟩)⟩
  rw [hd p z1, hf p z1, ha p z1]
  exact z3
def Nu (t : Nat → Int32) (n g i T : Nat) (σc σm : St) : Prop := (∃ (i' s : Nat) (φ ψ : Nat → Nat) (b u w : Nat), kQ t n i < kQ t n i' ∧ Rel t n g i' s φ ψ b u w T σc σm) ∨ FP σc σm
theorem r_close {t : Nat → Int32} {n g i s k u w T N : Nat} {φ ψ : Nat → Nat} {σc σm : St} (hN : 8589934592 ≤ N) (hT : Tp t n) (hR : Rel t n g i s φ ψ (k + 1) u w T σc σm) (k7 : kK t n i = 7) : R2 (x4_closeBlock N σc) (m_closes N σm) (fun _ σc' _ σm' => Nu t n g i T σc' σm') := by
  have hs := rel_s hT hR
  obtain ⟨r1, r2, r3, r4, r5, r6, r7, r8, r9⟩ := id hR
  have hi := r1.1.2.2.1
  have hg := r1.2.1.1
  have hgb := pg_b hg
  have hk0 : ¬ kK t n i = 0 := by rw [k7]; decide
  have h12 := tk_1200 hT hk0
  have hup := (kQ_up (t := t) (n := n) (i := i)).2.2 hk0
  obtain ⟨b1, b2, b3, b4⟩ := id r6
  have hwk : wk (gA σc 5) (k + 1) = wk (gA σc 5) k + (if gA σc 5 k = 0 ∨ gA σc 5 k = 3 then 4 else 0) := rfl
  have hle := r2.2.2.1
  unfold x4_closeBlock m_closes
  rw [r1.1.2.1, b1, nI_1, nI_pred]
  refine r2_bdR (sm_next hN hT r2.1) (fun _ σ1 z => ?_)
  obtain ⟨z1, z2, -⟩ := z
  rw [show gI σ1 38 = nI (k + 1) from (z2.2.1 38 (by omega)).trans b2, nI_pred, nI_clamp (by omega)]
  refine r2_gdR (fun _ => r2_gdR (fun _ => ?_))
  generalize eC : sI (sI σc 405 (nI (i + 1))) 406 (nI k) = σ2
  have cI : ∀ j, j ≠ 405 → j ≠ 406 → gI σ2 j = gI σc j := fun j q1 q2 => by rw [← eC, gI_ne (fun y => q2 y.symm), gI_ne (fun y => q1 y.symm)]
  have cA : ∀ j, gA σ2 j = gA σc j := fun j => by rw [← eC]; rfl
  have cP : ∀ j, gP σ2 j = gP σc j := fun j => by rw [← eC]; rfl
  have c406 : gI σ2 406 = nI k := by rw [← eC]; exact gI_eq
  have hC2 : MC t n g (i + 1) s σ2 := by
    have hC1 := mC_up hT r1 hk0
    rw [← eC]
    exact ⟨syC_same hC1.1 (gI_ne (by decide)) (gI_ne (by decide)) rfl (gI_ne (by decide)) (gI_ne (by decide)), hC1.2.1, (gI_ne (by omega)).trans hC1.2.2.1, hC1.2.2.2⟩
  refine r2_bdL (c_at (j := 6) (i := k) (show k < 6 by omega)) (fun ra σ3 q => ?_)
  obtain ⟨rfl, rfl⟩ := q
  rw [c406]
  refine r2_bdL (c_at (j := 5) (i := k) (show k < 6 by omega)) (fun rb σ4 q => ?_)
  obtain ⟨rfl, rfl⟩ := q
  rw [cA 5, cA 6, z2.1 35, z2.1 36, z2.1 37]
  generalize eM : sI σ1 38 (nI k) = σ5
  have mI : ∀ j, (j < 4 ∨ 9 < j) → j ≠ 38 → gI σ5 j = gI σm j := fun j q1 q => by rw [← eM, gI_ne (fun y => q y.symm)]; exact z2.2.1 j q1
  have mA : ∀ j, gA σ5 j = gA σm j := fun j => by rw [← eM]; exact z2.1 j
  have m38 : gI σ5 38 = nI k := by rw [← eM]; exact gI_eq
  have hM5 : MM t n (i + 1) (φ s) (ψ s) σ5 := ⟨syM_same z1 (by rw [← eM]; rfl) (fun j _ _ => by rw [← eM]; exact gI_ne (by omega)), (mI 17 (by omega) (by decide)).trans r2.2.1, hle, (mI 33 (by omega) (by decide)).trans r2.2.2.2.1, r2.2.2.2.2⟩
  obtain ⟨kd1, kd2⟩ := b4 k (by omega)
  rw [← kd1]
  have hXk : ∀ p p2, gA σc 6 k = nI p → p < s → p2 < s + 1 → ¬ p2 = p → Xw (k + 1) σc p2 → Xw k σc p2 := fun p p2 h1 h2 h3 h4 ⟨k2, q1, q2, q3⟩ => by
    refine ⟨k2, q1, ?_, q3⟩
    rcases (show k2 = k ∨ k2 < k by omega) with e | e
    · rw [e, h1] at q3
      exact absurd ((nI_eq (by omega) (by omega)).mp q3).symm h4
    · exact e
  rcases kd2 with ⟨ka, kb⟩ | ⟨ka, p, p1, p2, p3⟩
  · -- a routine's end
    subst ka
    rw [if_pos kb, if_pos kb, hC2.2.1.2.2, pg_cd hg, gd_t]
    refine r2_bdL (st_add (op := 0) (ow := gI σ4 407) hC2 (by omega)) (fun r σ6 y => ?_)
    obtain ⟨rfl, y1, y2, y3, y4, y5⟩ := y
    refine r2_bdR (n_emit hM5.2.1 hM5.2.2.1) (fun r σ7 e => ?_)
    obtain ⟨ha, rfl, e2, e3, e4⟩ := e
    have hM7 := mM_em hM5 ha e2 e3 e4
    have em7 := emV (c := 0) e2
    refine r2_bdR (n_emit hM7.2.1 hM7.2.2.1) (fun r σ8 e => ?_)
    obtain ⟨ha8, rfl, f2, f3, f4⟩ := e
    have hM8 := mM_em hM7 ha8 f2 f3 f4
    have em8 := emV (c := 0) f2
    have y5' : gA σ6 (g + 2) = nrow (gA σc (g + 2)) s 0 (gI σ4 407) := by rw [y5, cA]
    have d0 : rwD g s σ6 0 = 0 := by unfold rwD; rw [y5', nrow_0]
    have d4 : rwD g s σ6 4 = 0 := by unfold rwD; rw [y5', nrow_z (by decide) (by decide)]
    have A8 : ∀ j, ¬ (12 ≤ j ∧ j ≤ 15) → gA σ8 j = gA σm j := fun j hj => by rw [f2, emA_o (by omega), e2, emA_o (by omega), mA]
    have I8 : ∀ j, (j < 4 ∨ 9 < j) → j ≠ 17 → j ≠ 38 → gI σ8 j = gI σm j := fun j q1 q2 q3 => by rw [f3 j q2, e3 j q2, mI j q1 q3]
    have hA5 : gA σ6 5 = gA σc 5 := by rw [y4 5 (by omega), cA]
    have hA6 : gA σ6 6 = gA σc 6 := by rw [y4 6 (by omega), cA]
    refine r2_some (Or.inl ⟨i + 1, s + 1, xt φ s (φ s + 2), xt ψ s (ψ s), 0, u, w, by omega, rel_mk hR (by omega) (fun p hp => xt_le hp) (fun _ => Or.inr (by omega)) (fun h => absurd h (by decide)) (by omega) (fun p0 hp0 => by unfold rwD; rw [y5']; by_cases e0 : p0 < s; (rw [if_pos e0, nrow_lt (by omega)]); (rw [if_neg e0, show p0 = s by omega, nrow_11, cI 407 (by decide) (by decide)])) y1 (by rw [xt_s, xt_s]; exact hM8) ⟨fun j q1 q2 q3 => by rw [y2 j q3, cI j q1 q2], fun j => by rw [y3, cP], fun j q1 _ _ => by rw [y4 j q1, cA]⟩ ⟨I8, fun j q1 _ => A8 j q1⟩ ⟨by rw [y2 406 (by omega)]; exact c406, by rw [f3 38 (by decide), e3 38 (by decide)]; exact m38, by decide, fun k2 hk2 => absurd hk2 (Nat.not_lt_zero _)⟩ ?_ ?_⟩)
    · refine cod_app r8 (fun x hx => by rw [y5', nrow_lt hx]) (fun j x h1 h2 h3 => by rw [f2, emA_ge (by omega), e2, emA_ge (by omega), mA]) (fun j x h1 h2 _ => by rw [A8 j (by omega)]) (fun p hp ⟨k2, q1, q2, _⟩ => by omega) (by decide) (Or.inl ⟨⟨d0, ?_, em8.1⟩, rfl⟩) ⟨fun zz => by rw [d0] at zz; exact absurd zz (by decide), fun zz => by rw [d0] at zz; exact absurd zz (by decide)⟩ (Or.inl ⟨by rw [d4]; decide, rfl⟩)
      show acE (φ s + 0) σ8 0 = 1
      have : acE (φ s + 0) σ8 0 = acE (φ s) σ7 0 := by
        unfold acE
        rw [f2, emA_ge (by omega)]
        rfl
      rw [this]
      exact em7.1
    · have h0 : 4 * s + (0 + (if gA σc 5 0 = 0 ∨ gA σc 5 0 = 3 then 4 else 0)) ≤ kQ t n i := r9
      rw [if_pos (Or.inl kb)] at h0
      show 4 * (s + 1) + 0 ≤ _
      omega
  · have hxt : 1300 + (φ p + 1) < 2 ^ 31 := by have := (cod_up r8 s (Nat.le_refl _) p (by omega)).1; omega
    have hpm := (cod_up r8 s (Nat.le_refl _) p (by omega)).2.2.1 p1
    -- row p gets its goal, nothing else: the end of an else, of an if without one
    have plain : ∀ (jj kk : Nat) (σ7 : St), ((rwD g p σc 0 = 2 ∧ jj = 15 ∧ kk = 1) ∨ (rwD g p σc 0 = 1 ∧ acE (φ p) σm 2 = 0 ∧ jj = 13 ∧ kk = 0)) → ¬ gA σc 5 k = 0 → ¬ gA σc 5 k = 3 → σ7 = sA σ5 jj (1300 + (φ p + kk)) (nI (φ s)) → R2 (bd (x0_set N σ4 (g + 1) (nI p) (nI 10) (nI s)) (fun _ σ15 => some ((), σ15))) (some ((), σ7)) (fun _ σc' _ σm' => Nu t n g i T σc' σm') := by
      intro jj kk σ7 hk2 hn0 hn3 e7
      have hjj : jj = 15 ∨ jj = 13 := by
        rcases hk2 with ⟨-, h1, -⟩ | ⟨-, -, h1, -⟩
        · exact Or.inl h1
        · exact Or.inr h1
      rw [c_set hg hC2.2.2.1 hC2.2.2.2 p1 (by decide), bd_s]
      have A7 : ∀ j, j ≠ jj → gA σ7 j = gA σm j := fun j hj => by rw [e7, gA_sA, if_neg hj, mA]
      have A7j : gA σ7 jj = upd (gA σm jj) (1300 + (φ p + kk)) (nI (φ s)) := by rw [e7, gA_sA, if_pos rfl, mA]
      have I7 : ∀ j, gI σ7 j = gI σ5 j := fun j => by rw [e7]; rfl
      have Ac : gA (sA σ4 (g + 2) (12 * p + 10) (nI s)) (g + 2) = upd (gA σc (g + 2)) (12 * p + 10) (nI s) := by rw [gA_sA, if_pos rfl, cA]
      have Aco : ∀ j, j ≠ g + 2 → gA (sA σ4 (g + 2) (12 * p + 10) (nI s)) j = gA σc j := fun j hj => by rw [gA_sA, if_neg hj, cA]
      have hB : BlR g s φ k (sA σ4 (g + 2) (12 * p + 10) (nI s)) σ7 := by
        refine blR_low r6 (by omega) (Nat.le_refl _) (fun _ _ => rfl) c406 ((I7 38).trans m38) (Aco 5 (by omega)) (Aco 6 (by omega)) (fun j h1 h2 => A7 j (by omega)) (fun p' _ => ?_) (fun p' _ => ?_)
        · unfold rwD
          rw [Ac, upd_ne (by omega)]
        · unfold acE
          rw [A7 (12 + 2) (by omega)]
      have hM7 : MM t n (i + 1) (φ s) (ψ s) σ7 := ⟨syM_same hM5.1 (by rw [A7 1 (by omega), mA]) (fun j _ _ => I7 j), (I7 17).trans hM5.2.1, hle, (I7 33).trans hM5.2.2.2.1, hM5.2.2.2.2⟩
      refine r2_some (Or.inl ⟨i + 1, s, φ, ψ, k, u, w, by omega, rel_mk hR (Nat.le_refl _) (fun _ _ => rfl) (fun h => by omega) (fun _ => by omega) (by omega) (fun p0 hp0 => by rw [if_pos hp0]; unfold rwD; rw [Ac, upd_ne (by omega)]) (mC_row hC2) hM7 ⟨fun j q1 q2 _ => cI j q1 q2, cP, fun j q1 _ _ => Aco j q1⟩ ⟨fun j q1 _ q3 => by rw [I7, mI j q1 q3], fun j q1 _ => A7 j (by omega)⟩ hB ?_ ?_⟩)
      · have hX6 : Xw k (sA σ4 (g + 2) (12 * p + 10) (nI s)) = Xw k σc := by unfold Xw; rw [Aco 6 (by omega)]
        rw [hX6]
        exact cod_goal r8 p1 (Nat.le_refl _) p1 hk2 Ac A7j A7 (fun p' h1 h2 h3 => hXk p p' p2 p1 (by omega) h2 h3)
      · rw [Aco 5 (by omega)]
        rw [hwk, if_neg (fun h => h.elim hn0 hn3)] at r9
        omega
    have w36 : ∀ v : Nat, gA σm 36 k = nI v → (1300 : Int32) + gA σm 36 k = nI (1300 + v) := fun v h => by rw [h]; exact nI_add 1300 v
    rcases p3 with ⟨q1, q2, q3, q4⟩ | ⟨q1, q2, q3, q4⟩
    · have n0 : ¬ gA σc 5 k = 0 := by rcases q1 with h | h <;> (rw [h]; decide)
      rw [if_neg n0, if_neg n0]
      rcases q1 with q1 | q1
      · -- if
        rw [if_pos q1, if_neg (show ¬ gA σc 5 k = 3 by rw [q1]; decide), if_pos q1]
        unfold x4_closeIf
        have wE : wdP 13 1 := Or.inr (Or.inl ⟨rfl, rfl⟩)
        rw [sc_seen hT hC2.1, bd_s, sm_word hM5.1 wE, bd_s]
        by_cases k13 : kK t n (i + 1) = 13
        · have hk130 : ¬ kK t n (i + 1) = 0 := by rw [k13]; decide
          have hup4 := kQ_word (d := 4) k13 (Or.inr (Or.inr (Or.inl ⟨rfl, rfl⟩)))
          have hC3 := mC_up hT hC2 hk130
          rw [if_pos k13, if_neg (show ¬ (1 : Int32) = 0 by decide), if_neg (show ¬ (1 : Int32) = 0 by decide), hC2.2.1.2.2, pg_cd hg, gd_t, hC2.1.2.1, nI_1, p2, bd_as]
          refine r2_bdR (sm_next hN hT hM5.1) (fun _ σ6 y => ?_)
          obtain ⟨x1, x2, -⟩ := y
          have hM6 := mM_tk hM5 x2 x1
          refine r2_bdL (st_add (op := 1) (ow := gI σ4 407) hC3 (by omega)) (fun r σ7 y => ?_)
          obtain ⟨rfl, y1, y2, y3, y4, y5⟩ := y
          refine r2_bdR (n_emit hM6.2.1 hM6.2.2.1) (fun r σ9 e => ?_)
          obtain ⟨ha, rfl, e2, e3, e4⟩ := e
          have hM9 := mM_em hM6 ha e2 e3 e4
          have em9 := emV (c := 0) e2
          have y5' : gA σ7 (g + 2) = nrow (gA σc (g + 2)) s 1 (gI σ4 407) := by
            rw [y5]
            show nrow (gA σ4 (g + 2)) s 1 (gI σ4 407) = _
            rw [cA]
          rw [y1.2.1.2.2, pg_cd hg, gd_t, y1.2.2.1]
          show R2 (bd (bd (x0_set N σ7 (g + 1) (nI p) (nI 10) (nI (s + 1))) _) _) _ _
          rw [c_set hg y1.2.2.1 y1.2.2.2 (by omega) (by decide), bd_s, bd_as, w36 _ q3, nI_clamp (by omega), e4]
          refine r2_gdR (fun _ => ?_)
          generalize e8 : sA σ7 (g + 2) (12 * p + 10) (nI (s + 1)) = σ8
          generalize e10 : sA σ9 15 (1300 + (φ p + 1)) (nI (φ s + 1)) = σ10
          have A8 : gA σ8 (g + 2) = upd (nrow (gA σc (g + 2)) s 1 (gI σ4 407)) (12 * p + 10) (nI (s + 1)) := by rw [← e8, gA_sA, if_pos rfl, y5']
          have A8o : ∀ j, j ≠ g + 2 → gA σ8 j = gA σc j := fun j hj => by
            rw [← e8, gA_sA, if_neg hj, y4 j hj]
            show gA σ4 j = _
            exact cA j
          have I8 : ∀ j, j ≠ 405 → j ≠ 406 → j ≠ 100 * (g + 1) + 1 → gI σ8 j = gI σc j := fun j h1 h2 h3 => by
            rw [← e8]
            show gI σ7 j = _
            rw [y2 j h3, gI_ne (fun y => h1 y.symm)]
            exact cI j h1 h2
          have P8 : ∀ j, gP σ8 j = gP σc j := fun j => by
            rw [← e8]
            show gP σ7 j = _
            rw [y3]
            exact cP j
          have hC8 : MC t n g (i + 1 + 1) (s + 1) σ8 := by rw [← e8]; exact mC_row y1
          have A10 : gA σ10 15 = upd (gA σ9 15) (1300 + (φ p + 1)) (nI (φ s + 1)) := by rw [← e10, gA_sA, if_pos rfl]
          have A10o : ∀ j, j ≠ 15 → gA σ10 j = gA σ9 j := fun j hj => by rw [← e10, gA_sA, if_neg hj]
          have I10 : ∀ j, gI σ10 j = gI σ9 j := fun j => by rw [← e10]; rfl
          have A9o : ∀ j, ¬ (12 ≤ j ∧ j ≤ 15) → gA σ9 j = gA σm j := fun j hj => by rw [e2, emA_o (by omega), x2.1 j, mA]
          have A9l : ∀ j x, x < 1300 + φ s → gA σ9 j x = gA σm j x := fun j x hx => by rw [e2, emA_ge hx, x2.1 j, mA]
          have hM10 : MM t n (i + 1 + 1) (φ s + 1) (ψ s) σ10 := ⟨syM_same hM9.1 (A10o 1 (by decide)) (fun j _ _ => I10 j), (I10 17).trans hM9.2.1, hM9.2.2.1, (I10 33).trans hM9.2.2.2.1, hM9.2.2.2.2⟩
          have k406 : gI σ8 406 = nI k := by
            rw [← e8]
            show gI σ7 406 = _
            rw [y2 406 (by omega), gI_ne (by decide)]
            exact c406
          have k38 : gI σ10 38 = nI k := by rw [I10, e3 38 (by decide), x2.2.1 38 (by omega)]; exact m38
          have d0 : rwD g s σ7 0 = 1 := by unfold rwD; rw [y5', nrow_0]
          have d4 : rwD g s σ7 4 = 0 := by unfold rwD; rw [y5', nrow_z (by decide) (by decide)]
          -- the code of both: a jump that waits, and row p's goal
          have cod1 : Cod g (s + 1) (xt φ s (φ s + 1)) (xt ψ s (ψ s)) (fun p' => p' = s ∨ Xw (k + 1) σc p') σ7 σ9 := by
            refine cod_app r8 (fun x hx => by rw [y5', nrow_lt hx]) (fun j x h1 h2 h3 => A9l j x h3) (fun j x h1 h2 _ => by rw [A9o j (by omega)]) (fun p' _ h => Or.inr h) (by decide) (Or.inr (Or.inl ⟨d0, em9.1, rfl⟩)) ⟨fun _ => Or.inr ⟨em9.2.2.1, Or.inl (Or.inl rfl)⟩, fun zz => by rw [d0] at zz; exact absurd zz (by decide)⟩ (Or.inl ⟨by rw [d4]; decide, rfl⟩)
          have cod2 : Cod g (s + 1) (xt φ s (φ s + 1)) (xt ψ s (ψ s)) (fun p' => p' = s ∨ Xw k σc p') σ8 σ10 := by
            refine cod_goal (p0 := p) (q0 := s + 1) (jj := 15) (kk := 1) cod1 (by omega) (Nat.le_refl _) (by omega) (Or.inl ⟨?_, rfl, rfl⟩) (by rw [A8, y5']) ?_ A10o (fun p' h1 h2 h3 => h3.imp id (fun h => hXk p p' p2 p1 h1 h2 h))
            · unfold rwD
              rw [y5', nrow_lt (by omega)]
              exact q2
            · rw [A10, xt_le (by omega), xt_s]
          refine r2_bd (r_open (b := k) (kd := 2) (at_ := nI s) (wv := nI (φ s)) (xv := -1) hN hT hC8.1 hM10.1 k406 k38 (by omega)) (fun ro σa _ σb v => ?_)
          rcases v with ⟨rfl, v1, v2, v3, v4, v5, v6, v7, v8, v9, v10, v11, v12, v13, v14, v15, v16⟩ | ⟨rfl, v⟩
          · have hk60 : ¬ kK t n (i + 1 + 1) = 0 := by rw [v2]; decide
            have hup6 := (kQ_up (t := t) (n := n) (i := i + 1 + 1)).2.2 hk60
            have rwa : ∀ p' q, rwD g p' σa q = rwD g p' σ8 q := fun p' q => by unfold rwD; rw [v14 (g + 2) (by omega) (by omega)]
            have aca : ∀ x j, j ≤ 4 → acE x σb j = acE x σ10 j := fun x j hj => by unfold acE; rw [v16 (12 + j) (by omega) (by omega) (by omega)]
            show R2 (some ((), σa)) (some ((), σb)) _
            refine r2_some (Or.inl ⟨i + 1 + 1 + 1, s + 1, xt φ s (φ s + 1), xt ψ s (ψ s), k + 1, u, w, by omega, rel_mk hR (by omega) (fun p hp => xt_le hp) (fun h => absurd h (by omega)) (fun _ => by omega) (by omega) (fun p0 hp0 => by rw [rwa]; unfold rwD; rw [A8, upd_ne (by omega)]; by_cases e0 : p0 < s; (rw [if_pos e0, nrow_lt (by omega)]); (rw [if_neg e0, show p0 = s by omega, nrow_11, cI 407 (by decide) (by decide)])) ⟨v3, ⟨hg, (v13 _).trans hC8.2.1.2.1, (v13 _).trans hC8.2.1.2.2⟩, (v12 _ (by omega) (by omega)).trans hC8.2.2.1, hC8.2.2.2⟩ (by rw [xt_s, xt_s]; exact ⟨v4, (v15 17 (by omega) (by decide)).trans hM10.2.1, hM10.2.2.1, (v15 33 (by omega) (by decide)).trans hM10.2.2.2.1, hM10.2.2.2.2⟩) ⟨fun j h1 h2 h3 => by rw [v12 j h1 h2, I8 j h1 h2 h3], fun j => by rw [v13, P8], fun j h1 h2 h3 => by rw [v14 j h2 h3, A8o j h1]⟩ ⟨fun j h1 h2 h3 => by rw [v15 j h1 h3, I10, e3 j h2, x2.2.1 j h1, mI j h1 h3], fun j h1 h2 => by rw [v16 j (by omega) (by omega) (by omega), A10o j (by omega), A9o j h1]⟩ ⟨v5, v6, by omega, fun k2 hk2 => ?_⟩ ?_ ?_⟩)
            · rw [v7, v8, v9, v10, v11]
              by_cases ck : k2 = k
              · subst ck
                rw [upd_eq, upd_eq, upd_eq, upd_eq, upd_eq]
                refine ⟨rfl, Or.inr ⟨ka, s, by omega, rfl, Or.inr ⟨rfl, ?_, by rw [xt_le (Nat.le_refl _)], ?_⟩⟩⟩
                · rw [rwa]
                  unfold rwD
                  rw [A8, upd_ne (by omega), nrow_0]
                · rw [xt_le (Nat.le_refl _), aca _ 2 (by decide)]
                  unfold acE
                  rw [A10o (12 + 2) (by decide)]
                  exact em9.2.2.1
              · rw [upd_ne ck, upd_ne ck, upd_ne ck, upd_ne ck, upd_ne ck, A8o 5 (by omega), A8o 6 (by omega), A10o 35 (by decide), A10o 36 (by decide), A10o 37 (by decide), A9o 35 (by omega), A9o 36 (by omega), A9o 37 (by omega)]
                obtain ⟨c1', c2'⟩ := b4 k2 (by omega)
                refine ⟨c1', c2'.imp id (fun ⟨o0, p', o1, o2, o3⟩ => ⟨o0, p', by omega, o2, ?_⟩)⟩
                have hpm' := (cod_up r8 s (Nat.le_refl _) p' (by omega)).2.2.1 o1
                rw [rwa, show rwD g p' σ8 0 = rwD g p' σc 0 from by unfold rwD; rw [A8, upd_ne (by omega), nrow_lt (by omega)], xt_le (by omega), aca _ 2 (by decide), show acE (φ p') σ10 2 = acE (φ p') σm 2 from by unfold acE; rw [A10o (12 + 2) (by decide), A9l _ _ (by omega)]]
                exact o3
            · refine cod_same cod2 (fun x _ => by rw [v14 (g + 2) (by omega) (by omega)]) (fun j x h1 h2 _ => by rw [v16 j (by omega) (by omega) (by omega)]) (fun j x h1 h2 _ => by rw [v16 j (by omega) (by omega) (by omega)]) (fun p' _ h => ?_)
              rcases h with h | ⟨k2, o1, o2, o3⟩
              · exact ⟨k, ka, by omega, by rw [v8, upd_eq, h]⟩
              · exact ⟨k2, o1, by omega, by rw [v8, upd_ne (by omega), A8o 6 (by omega)]; exact o3⟩
            · rw [v7]
              show 4 * (s + 1) + (wk (upd (gA σ8 5) k 2) k + (if upd (gA σ8 5) k 2 k = 0 ∨ upd (gA σ8 5) k 2 k = 3 then 4 else 0)) ≤ _
              rw [wk_same (f := gA σc 5) (f' := upd (gA σ8 5) k 2) k (fun k2 hk2 => by rw [upd_ne (by omega), A8o 5 (by omega)]), upd_eq, if_neg (by decide)]
              rw [hwk, if_neg (fun h => h.elim n0 (by rw [q1]; decide))] at r9
              omega
          · show R2 (some ((), σa)) (some ((), σb)) _
            exact r2_some (Or.inr v)
        · rw [if_neg k13, if_pos rfl, if_pos rfl, hC2.2.1.2.2, pg_cd hg, gd_t, hC2.2.2.1, p2]
          unfold m_closes_151
          rw [if_pos q1, w36 _ q3, nI_clamp (by omega), hM5.2.1]
          refine r2_gdR (fun _ => ?_)
          have := plain 15 1 _ (Or.inl ⟨q2, rfl, rfl⟩) n0 (by rw [q1]; decide) rfl
          rw [bd_as]
          exact this
      · -- while
        have n3 := q4 q1
        rw [if_neg (show ¬ gA σc 5 k = 1 by rw [q1]; decide), if_neg (show ¬ gA σc 5 k = 2 by rw [q1]; decide), if_pos q1, if_pos q1, hC2.2.1.2.2, pg_cd hg, gd_t, p2]
        refine r2_gdR (fun _ => ?_)
        refine r2_bdL (st_add (op := 1) (ow := gI σ4 407) hC2 (by omega)) (fun r σ6 y => ?_)
        obtain ⟨rfl, y1, y2, y3, y4, y5⟩ := y
        have y5' : gA σ6 (g + 2) = nrow (gA σc (g + 2)) s 1 (gI σ4 407) := by rw [y5, cA]
        show R2 (bd (x0_set N σ6 (g + 1) (nI s) (nI 10) (nI p)) _) _ _
        rw [c_set hg y1.2.2.1 y1.2.2.2 (by omega) (by decide), bd_s]
        have hC7 := mC_row (x := 12 * s + 10) (v := nI p) y1
        rw [hC7.2.1.2.2, pg_cd hg, gd_t, hC7.2.2.1]
        show R2 (bd (x0_set N (sA σ6 (g + 2) (12 * s + 10) (nI p)) (g + 1) (nI p) (nI 10) (nI (s + 1))) _) _ _
        rw [c_set hg hC7.2.2.1 hC7.2.2.2 (by omega) (by decide), bd_s]
        have hC8 := mC_row (x := 12 * p + 10) (v := nI (s + 1)) hC7
        refine r2_bdR (n_emit hM5.2.1 hM5.2.2.1) (fun r σ9 e => ?_)
        obtain ⟨ha, rfl, e2, e3, e4⟩ := e
        have hM9 := mM_em hM5 ha e2 e3 e4
        have em9 := emV (c := 0) e2
        rw [w36 _ q3, nI_clamp (by omega), e4]
        refine r2_gdR (fun _ => ?_)
        generalize e7 : sA σ6 (g + 2) (12 * s + 10) (nI p) = σ7 at *
        generalize e8 : sA σ7 (g + 2) (12 * p + 10) (nI (s + 1)) = σ8 at *
        generalize e10 : sA σ9 15 (1300 + (φ p + 1)) (nI (φ s + 1)) = σ10
        have A7 : gA σ7 (g + 2) = upd (nrow (gA σc (g + 2)) s 1 (gI σ4 407)) (12 * s + 10) (nI p) := by rw [← e7, gA_sA, if_pos rfl, y5']
        have A8 : gA σ8 (g + 2) = upd (gA σ7 (g + 2)) (12 * p + 10) (nI (s + 1)) := by rw [← e8, gA_sA, if_pos rfl]
        have A8o : ∀ j, j ≠ g + 2 → gA σ8 j = gA σc j := fun j hj => by rw [← e8, gA_sA, if_neg hj, ← e7, gA_sA, if_neg hj, y4 j hj, cA]
        have I8 : ∀ j, gI σ8 j = gI σ6 j := fun j => by rw [← e8, ← e7]; rfl
        have P8 : ∀ j, gP σ8 j = gP σc j := fun j => by rw [← e8, ← e7]; show gP σ6 j = _; rw [y3, cP]
        have A10 : gA σ10 15 = upd (gA σ9 15) (1300 + (φ p + 1)) (nI (φ s + 1)) := by rw [← e10, gA_sA, if_pos rfl]
        have A10o : ∀ j, j ≠ 15 → gA σ10 j = gA σ9 j := fun j hj => by rw [← e10, gA_sA, if_neg hj]
        have I10 : ∀ j, gI σ10 j = gI σ9 j := fun j => by rw [← e10]; rfl
        have A9o : ∀ j, ¬ (12 ≤ j ∧ j ≤ 15) → gA σ9 j = gA σm j := fun j hj => by rw [e2, emA_o (by omega), mA]
        have A9l : ∀ j x, x < 1300 + φ s → gA σ9 j x = gA σm j x := fun j x hx => by rw [e2, emA_ge hx, mA]
        have hM10 : MM t n (i + 1) (φ s + 1) (ψ s) σ10 := ⟨syM_same hM9.1 (A10o 1 (by decide)) (fun j _ _ => I10 j), (I10 17).trans hM9.2.1, hM9.2.2.1, (I10 33).trans hM9.2.2.2.1, hM9.2.2.2.2⟩
        have d0 : rwD g s σ7 0 = 1 := by unfold rwD; rw [A7, upd_ne (by omega), nrow_0]
        have d4 : rwD g s σ7 4 = 0 := by unfold rwD; rw [A7, upd_ne (by omega), nrow_z (by decide) (by decide)]
        have d10 : rwD g s σ7 10 = nI p := by unfold rwD; rw [A7, upd_eq]
        have dp : ∀ p', p' < s → rwD g p' σ7 0 = rwD g p' σc 0 := fun p' hp' => by unfold rwD; rw [A7, upd_ne (by omega), nrow_lt (by omega)]
        have cod1 : Cod g (s + 1) (xt φ s (φ s + 1)) (xt ψ s (ψ s)) (Xw (k + 1) σc) σ7 σ9 := by
          refine cod_app r8 (fun x hx => by rw [A7, upd_ne (by omega), nrow_lt hx]) (fun j x h1 h2 h3 => A9l j x h3) (fun j x h1 h2 _ => by rw [A9o j (by omega)]) (fun p' _ h => h) (by decide) (Or.inr (Or.inl ⟨d0, em9.1, rfl⟩)) ⟨fun _ => Or.inl ⟨em9.2.2.1, p, p1, d10, (dp p p1).trans q2, ?_⟩, fun zz => by rw [d0] at zz; exact absurd zz (by decide)⟩ (Or.inl ⟨by rw [d4]; decide, rfl⟩)
          rw [xt_le (by omega)]
          exact em9.2.1.trans n3
        have hX6 : Xw k σ8 = Xw k σc := by unfold Xw; rw [A8o 6 (by omega)]
        have cod2 : Cod g (s + 1) (xt φ s (φ s + 1)) (xt ψ s (ψ s)) (Xw k σ8) σ8 σ10 := by
          rw [hX6]
          refine cod_goal (p0 := p) (q0 := s + 1) (jj := 15) (kk := 1) cod1 (by omega) (Nat.le_refl _) (by omega) (Or.inl ⟨(dp p p1).trans q2, rfl, rfl⟩) A8 ?_ A10o (fun p' h1 h2 h3 => hXk p p' p2 p1 h1 h2 h3)
          rw [A10, xt_le (by omega), xt_s]
        refine r2_some (Or.inl ⟨i + 1, s + 1, xt φ s (φ s + 1), xt ψ s (ψ s), k, u, w, by omega, rel_mk hR (by omega) (fun p hp => xt_le hp) (fun h => by omega) (fun _ => by omega) (by omega) (fun p0 hp0 => by unfold rwD; rw [A8, upd_ne (by omega), A7, upd_ne (by omega)]; by_cases e0 : p0 < s; (rw [if_pos e0, nrow_lt (by omega)]); (rw [if_neg e0, show p0 = s by omega, nrow_11, cI 407 (by decide) (by decide)])) hC8 (by rw [xt_s, xt_s]; exact hM10) ⟨fun j h1 h2 h3 => by rw [I8, y2 j h3, cI j h1 h2], P8, fun j h1 _ _ => A8o j h1⟩ ⟨fun j h1 h2 h3 => by rw [I10, e3 j h2, mI j h1 h3], fun j h1 _ => by rw [A10o j (by omega), A9o j h1]⟩ (blR_low r6 (by omega) (by omega) (fun p' hp' => xt_le (by omega)) (by rw [I8, y2 406 (by omega)]; exact c406) (by rw [I10, e3 38 (by decide)]; exact m38) (A8o 5 (by omega)) (A8o 6 (by omega)) (fun j h1 h2 => by rw [A10o j (by omega), A9o j (by omega)]) (fun p' hp' => ?_) (fun p' hp' => ?_)) cod2 ?_⟩)
        · rw [← dp p' hp']
          unfold rwD
          rw [A8, upd_ne (by omega)]
        · have hpm' := (cod_up r8 s (Nat.le_refl _) p' (by omega)).2.2.1 hp'
          unfold acE
          rw [A10o (12 + 2) (by decide), A9l _ _ (by omega)]
        · rw [A8o 5 (by omega)]
          rw [hwk, if_pos (Or.inr q1)] at r9
          omega
    · have n0 : ¬ gA σc 5 k = 0 := by rw [q1]; decide
      rw [if_neg n0, if_neg n0, if_neg (show ¬ gA σc 5 k = 1 by rw [q1]; decide), if_pos q1, if_neg (show ¬ gA σc 5 k = 3 by rw [q1]; decide), if_neg (show ¬ gA σc 5 k = 1 by rw [q1]; decide), hC2.2.1.2.2, pg_cd hg, gd_t, hC2.2.2.1, p2]
      unfold m_closes_151
      rw [if_neg (show ¬ gA σc 5 k = 1 by rw [q1]; decide), w36 _ q3, nI_clamp (by omega), hM5.2.1]
      refine r2_gdR (fun _ => ?_)
      exact plain 13 0 _ (Or.inr ⟨q2, q4, rfl, rfl⟩) n0 (by rw [q1]; decide) rfl
