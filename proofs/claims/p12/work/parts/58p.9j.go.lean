/-! runs: the loop of turns -/
theorem tn_c {ρ : Type} {K : St → Option (ρ × St)} {Q : ρ → St → Unit → St → Prop} {N n : Nat} {σc0 σm0 σc σm : St} {G s t dp st an p k : Nat} {φ : Nat → Nat} {c : Int32} (hN : 8589934592 ≤ N) (hO : RO σc0 σm0 G s φ) (hS : RS σc0 σm0 G s φ c t dp st an σc σm) (h15 : gI σc 1515 = 0) (hpc : gI σc 1512 = nI p) (hp : p < s) (h0 : ¬ rwD G p σc0 0 = 0) (h1 : ¬ rwD G p σc0 0 = 1) (hv : ¬ rwD G p σc0 0 = 2 → VR (rwD G p σc0) (acB φ p σm0 1)) (hkk : k < φ s) (hd0 : Par (m_does N σm (nI k) c) (fun r' σ' => (gI σm 52 = 400 ∧ σ' = sI σm 55 3) ∨ (¬ gI σm 52 = 400 ∧ r' = nI (φ p + 1) ∧ σ' = sI σm 52 (gI σm 52 + 1)))) (hk : KQ N σc0 σm0 G s φ c (mC st dp 0) K Q) : R2 (bd (x6_step N σc) (fun _ σ => K σ)) (m_runs_108 N n σm c (nI k)) Q := by
  obtain ⟨hC, hV, hK, hR⟩ := id hS
  obtain ⟨v1, v2, v3, v4, v5, v6, v7, v8, v9, v10, v11, v12⟩ := hV
  obtain ⟨hq, -, ⟨r47, r47'⟩, ⟨r50, r50'⟩, r51, ⟨r52, r52'⟩, -⟩ := id hR
  have ha := hO.2.2.2.1
  have hup := (bc_up hO.2.2.2.2.1 s (Nat.le_refl _) p (by omega)).1
  refine r2_run v9 (hd0.and (s_does (c := c) hN hO.2.2.2.2.2.1 ha hR (by omega) hkk).par) (fun n' r' σ' z => ?_)
  obtain ⟨z, hD⟩ := z
  unfold x6_step
  rw [cgd hO hC, gd_t, hpc, cg (v := 0) hO hC hp (q := 0) (by decide) rfl, bd_s, if_neg h1, if_neg h0, v1]
  rw [r52] at z
  rcases z with ⟨z1, z2⟩ | ⟨z1, z2, z3⟩
  · have e : st = 400 := (nI_eq (b := 400) (by omega) (by decide)).mp z1
    subst z2
    rw [if_neg (show ¬ nI st < 400 from by rw [e]; decide), bd_s]
    exact hk _ _ _ _ (Or.inl ⟨(show ¬ (3 : Int32) = -1 by decide), rfl, v1.trans r52.symm, v2.trans r47.symm, v3.trans v4.symm, v6.trans v7.symm⟩)
  · have e : st < 400 := by
      have : ¬ st = 400 := fun e => z1 (by rw [e]; rfl)
      omega
    rw [nI_1] at z3
    subst z3
    rw [if_pos (show nI st < 400 from nI_lt (b := 400) e (by decide)), nI_1]
    obtain ⟨hR', h3⟩ := dp_ri (t := t) (f := dp + 1) (s := st + 1) hD ha v9 r47 (by omega) r50 (by omega) gI_eq (by omega) z2 (by omega)
    have hS' : RS σc0 σm0 G s φ c t dp (st + 1) an (sI σc 1507 (nI (st + 1))) (sI σm 52 (nI (st + 1))) := ⟨rc_I hC (by decide) (by decide), ⟨rfl, v2, v3, v4, by omega, v6, v7, v8, v9, v10, v11, v12⟩, hK, hR'⟩
    rw [z2]
    by_cases h2 : rwD G p σc0 0 = 2
    · rw [if_pos h2]
      exact tn_branch hN hO hS' v5 e h15 hpc hp h2 h3 hk
    · rw [if_neg h2, bd_un]
      exact tn_work hN hO hS' v5 e hpc hp ⟨h0, h1, h2⟩ (hv h2) h3 hk
theorem tn_stepA {ρ : Type} {K : St → Option (ρ × St)} {Q : ρ → St → Unit → St → Prop} {N n : Nat} {σc0 σm0 σc σm : St} {G s t dp st an p : Nat} {φ : Nat → Nat} {c : Int32} (hN : 8589934592 ≤ N) (hO : RO σc0 σm0 G s φ) (hS : RS σc0 σm0 G s φ c t dp st an σc σm) (h15 : gI σc 1515 = 0) (hpc : gI σc 1512 = nI p) (hp : p < s) (hk : KQ N σc0 σm0 G s φ c (mC st dp (jC (rwD G p σc0) p)) K Q) : R2 (bd (x6_step N σc) (fun _ σ => K σ)) (m_runs_108 N n σm c (nI (φ p))) Q := by
  obtain ⟨hC, hV, hK, hR⟩ := id hS
  obtain ⟨v1, v2, v3, v4, v5, v6, v7, v8, v9, v10, v11, v12⟩ := hV
  obtain ⟨hq, -, ⟨r47, r47'⟩, ⟨r50, r50'⟩, r51, ⟨r52, r52'⟩, -⟩ := id hR
  have ha := hO.2.2.2.1
  have hs4 := hO.2.2.1
  obtain ⟨len, l1, l2, l3, l4, l5⟩ := ro_up hO hp
  have hpl : φ p < φ s := by omega
  have sd := (s_does (N := N) (c := c) hN hO.2.2.2.2.2.1 ha hR (by omega) hpl).par
  have ctype : ¬ rwD G p σc0 0 = 0 → ¬ rwD G p σc0 0 = 1 → (¬ rwD G p σc0 0 = 2 → VR (rwD G p σc0) (acB φ p σm0 1)) → gA σm0 12 (φ p) = 0 → R2 (bd (x6_step N σc) (fun _ σ => K σ)) (m_runs_108 N n σm c (nI (φ p))) Q := fun h0 h1 hv hA => by
    have hj : jC (rwD G p σc0) p = 0 := if_neg (fun e => e.elim h0 h1)
    rw [hj] at hk
    exact tn_c hN hO hS h15 hpc hp h0 h1 hv hpl (dd0 (by omega) (by rw [hq.1 12 (by decide)]; exact hA)) hk
  rcases l4 with ⟨e, rfl⟩ | ⟨e, e2, rfl⟩ | ⟨e, rfl⟩ | ⟨e, rfl⟩ | ⟨e, rfl⟩ | ⟨e, rfl⟩
  · -- the end of a routine
    have hj : jC (rwD G p σc0) p = 305 - p := if_pos (Or.inl e.1)
    rw [hj] at hk
    unfold x6_step
    rw [cgd hO hC, gd_t, hpc, cg (v := 0) hO hC hp (q := 0) (by decide) rfl, bd_s, show rwD G p σc0 0 = 0 from e.1, if_neg (show ¬ (0 : Int32) = 1 by decide), if_pos rfl, bd_un]
    refine r2_run v9 ((dd1 (by omega) (by rw [hq.1 12 (by decide)]; exact e.2.1)).and sd) (fun n' r' σ' z => ?_)
    obtain ⟨⟨z1, z2⟩, hD⟩ := z
    subst z2
    obtain ⟨hR', h3⟩ := dp_ri (t := t) (f := dp + 1) (s := st) hD ha v9 r47 (by omega) r50 (by omega) r52 (by omega) z1 (by omega)
    rw [z1]
    refine tn_leave (v := 0) hN hO ⟨hC, ⟨v1, v2, v3, v4, v5, v6, v7, v8, v9, v10, v11, v12⟩, hK, hR'⟩ gI_eq h3 e.2.2 ?_ hk
    rcases Nat.eq_zero_or_pos dp with e | e
    · exact Or.inl e
    · refine Or.inr ?_
      unfold mC
      omega
  · -- a jump
    have hj : jC (rwD G p σc0) p = 305 - p := if_pos (Or.inr e)
    rw [hj] at hk
    unfold x6_step
    rw [cgd hO hC, gd_t, hpc, cg (v := 0) hO hC hp (q := 0) (by decide) rfl, bd_s, e, if_pos rfl, cgd hO hC, gd_t, hpc, cg (v := 10) hO hC hp (q := 10) (by decide) rfl, bd_s, bd_s]
    rcases l5.1 e with ⟨g1, q, g2, g3, g4, g5⟩ | ⟨g1, g2⟩
    · rw [g3]
      refine hk _ _ _ _ (Or.inr ⟨t, dp, st, an, q, ⟨rc_I hC (by decide) (by decide), ⟨v1, v2, v3, v4, v5, v6, v7, v8, v9, v10, v11, v12⟩, hK, hR⟩, gI_eq, by omega, Or.inr (Or.inr ⟨h15, g4, ⟨φ p, hpl, rfl, e2, g1, g5⟩, ?_⟩)⟩)
      unfold mC
      omega
    · obtain ⟨q, q1, q2, q3, q4⟩ := g2.elim (fun e => absurd e id) id
      rw [q3]
      refine r2_run v9 ((dd13 (by omega) (by rw [hq.1 12 (by decide)]; exact e2) (by rw [hq.1 14 (by decide)]; exact g1)).and sd) (fun n' r' σ' z => ?_)
      obtain ⟨⟨z1, z2⟩, hD⟩ := z
      subst z2
      have hr : r' = nI (φ q) := z1.trans (by rw [hq.1 13 (by decide)]; exact q4)
      have hup := (bc_up hO.2.2.2.2.1 s (Nat.le_refl _) q q1).1
      obtain ⟨hR', h3⟩ := dp_ri (t := t) (f := dp + 1) (s := st) hD ha v9 r47 (by omega) r50 (by omega) r52 (by omega) hr (by omega)
      refine hk _ _ _ _ (Or.inr ⟨t, dp, st, an, q, ⟨rc_I hC (by decide) (by decide), ⟨v1, v2, v3, v4, v5, v6, v7, v8, v9, v10, v11, v12⟩, hK, hR⟩, gI_eq, ro_lt hO q1 h3, Or.inl ⟨h15, hr, ?_⟩⟩)
      have := jC_le (d := rwD G q σc0) (p := q)
      unfold mC
      omega
  · exact ctype (fun h => absurd (e.1.symm.trans h) (by decide)) (fun h => absurd (e.1.symm.trans h) (by decide)) (fun h => absurd e.1 h) e.2.1
  · rcases e with e | e
    · exact ctype (fun h => absurd (e.1.symm.trans h) (by decide)) (fun h => absurd (e.1.symm.trans h) (by decide)) (fun _ => e.2.2.1) e.2.1
    · exact ctype (fun h => absurd (e.1.symm.trans h) (by decide)) (fun h => absurd (e.1.symm.trans h) (by decide)) (fun _ => e.2.2.1) e.2.1
  · exact ctype (fun h => absurd (e.1.symm.trans h) (by decide)) (fun h => absurd (e.1.symm.trans h) (by decide)) (fun _ => e.2.2.1) e.2.1
  · have e0 : rwD G p σc0 0 = 6 := e.1
    exact ctype (fun h => absurd (e0.symm.trans h) (by decide)) (fun h => absurd (e0.symm.trans h) (by decide)) (fun _ => e.2.2.1) e.2.1
theorem r_go8 {N : Nat} {σc0 σm0 : St} {G s : Nat} {φ : Nat → Nat} {c : Int32} (hN : 8589934592 ≤ N) (hO : RO σc0 σm0 G s φ) : ∀ (n x M : Nat) (σc σm : St) (n' : Nat) (r : Int32), x + M ≤ 999999 → RM σc0 σm0 G s φ c M r σc σm → R2 (x6_go_8 N n σc (nI x)) (m_runs_108 N n' σm c r) (fun rc σc' _ σm' => RZ σc' σm' ∧ rc = gI σc' 1511) := by
  intro n
  induction n with
  | zero => intro x M σc σm n' r _ _ rc σc' rm σm' e; cases e
  | succ n ih =>
    intro x M σc σm n' r hx hM
    show R2 (x6_go_8_b N (x6_go_8 N n) σc (nI x)) _ _
    unfold x6_go_8_b x6_go_46 x6_go_40
    rcases hM with hZ | ⟨t, dp, st, an, p, hS, hpc, hp, hm⟩
    · have hm : R2 (some (gI σc 1511, σc)) (m_runs_108 N n' σm c r) (fun rc σc' _ σm' => RZ σc' σm' ∧ rc = gI σc' 1511) := by
        cases n' with
        | zero => intro rc σc' rm σm' _ e; cases e
        | succ n' =>
          show R2 _ (m_runs_108_b N (m_runs_108 N n') σm c r) _
          unfold m_runs_108_b
          rw [if_neg (fun e => hZ.1 (hZ.2.1.trans e))]
          exact r2_some ⟨hZ, rfl⟩
      rw [if_neg hZ.1, if_neg hZ.1]
      split
      · exact hm
      · exact hm
    · have h11 : gI σc 1511 = -1 := hS.2.1.2.2.2.2.2.2.2.1
      have hpos : x < 999999 := by
        rcases hm with ⟨-, -, h⟩ | ⟨-, -, -, -, -, h⟩ | ⟨-, -, -, h⟩ <;> omega
      rw [if_neg (show ¬ (1000000 : Int32) ≤ nI x from nI_ge (b := 1000000) (by omega) (by decide)), if_pos h11, nI_1]
      have hk : ∀ M', M' < M → KQ N σc0 σm0 G s φ c M' (fun σ => x6_go_8 N n σ (nI (x + 1))) (fun rc σc' _ σm' => RZ σc' σm' ∧ rc = gI σc' 1511) := fun M' hM' σc' σm' n2 r' h => ih (x + 1) M' σc' σm' n2 r' (by omega) h
      rcases hm with ⟨h15, hr, hlt⟩ | ⟨h15, hop, hval, hr, h2, hlt⟩ | ⟨h15, h0, ⟨k, k1, k2, k3, k4, k5⟩, hlt⟩
      · rw [if_pos h15, hr]
        exact tn_stepA (K := fun σ => x6_go_8 N n σ (nI (x + 1))) hN hO hS h15 hpc hp (hk _ hlt)
      · rw [if_neg (fun e => absurd (h15.symm.trans e) (by decide)), hr]
        exact tn_finish (K := fun σ => x6_go_8 N n σ (nI (x + 1))) hN hO hS hpc hp hop hval h2 (hk _ hlt)
      · rw [if_pos h15, k2]
        have hq := hS.2.2.2.1
        have ha := hO.2.2.2.1
        exact tn_c (K := fun σ => x6_go_8 N n σ (nI (x + 1))) hN hO hS h15 hpc hp (fun e => absurd (h0.symm.trans e) (by decide)) (fun e => absurd (h0.symm.trans e) (by decide)) (fun e => absurd h0 e) k1 (ddB (by omega) (by rw [hq.1 12 (by decide)]; exact k3) (by rw [hq.1 14 (by decide)]; exact k4) (by rw [hq.1 13 (by decide)]; exact k5)) (hk _ hlt)
