/-! runs: turns -/
theorem bd_un {τ : Type} {o : Option (Unit × St)} {K : Unit → St → Option τ} : bd (bd o (fun _ σ => some ((), σ))) K = bd o K := by
  cases o <;> rfl
theorem bd_bd {ρ1 ρ2 τ : Type} {o : Option (ρ1 × St)} {F : ρ1 → St → Option (ρ2 × St)} {K : ρ2 → St → Option τ} : bd (bd o F) K = bd o (fun r σ => bd (F r σ) K) := by
  cases o <;> rfl
def KQ {ρ : Type} (N : Nat) (σc0 σm0 : St) (G s : Nat) (φ : Nat → Nat) (c : Int32) (M : Nat) (K : St → Option (ρ × St)) (Q : ρ → St → Unit → St → Prop) : Prop := ∀ (σc' σm' : St) (n' : Nat) (r' : Int32), RM σc0 σm0 G s φ c M r' σc' σm' → R2 (K σc') (m_runs_108 N n' σm' c r') Q
theorem ro_up {σc0 σm0 : St} {G s : Nat} {φ : Nat → Nat} (hO : RO σc0 σm0 G s φ) {p : Nat} (hp : p < s) : ∃ len, 0 < len ∧ φ (p + 1) = φ p + len ∧ φ p + len ≤ φ s ∧ EL (rwD G p σc0) (acB φ p σm0) len ∧ GL G s φ (fun _ => False) σc0 p (rwD G p σc0) (acB φ p σm0) := by
  obtain ⟨len, l1, l2, l3, l4⟩ := hO.2.2.2.2.1.2 p hp
  have := (bc_up hO.2.2.2.2.1 s (Nat.le_refl _) (p + 1) (by omega)).1
  exact ⟨len, l1, l2, by omega, l3, l4⟩
theorem ro_lt {σc0 σm0 : St} {G s : Nat} {φ : Nat → Nat} (hO : RO σc0 σm0 G s φ) {q : Nat} (hq : q ≤ s) (h : φ q < φ s) : q < s := by
  rcases (show q = s ∨ q < s by omega) with e | e
  · rw [e] at h
    exact absurd h (Nat.lt_irrefl _)
  · exact e
theorem tn_leave {ρ : Type} {K : St → Option (ρ × St)} {Q : ρ → St → Unit → St → Prop} {N n : Nat} {σc0 σm0 σc σm : St} {G s t dp st an k M : Nat} {φ : Nat → Nat} {c v : Int32} (hN : 8589934592 ≤ N) (hO : RO σc0 σm0 G s φ) (hS : RS σc0 σm0 G s φ c t dp st an σc σm) (h51 : gI σm 51 = v) (hkk : k < φ s) (h9 : gA σm0 12 k = 9) (hM : dp = 0 ∨ mC st (dp - 1) 306 < M) (hk : KQ N σc0 σm0 G s φ c M K Q) : R2 (bd (x6_leave N σc v) (fun _ σ => K σ)) (m_runs_108 N n σm c (nI k)) Q := by
  obtain ⟨hC, hV, hK, hR⟩ := hS
  obtain ⟨v1, v2, v3, v4, v5, v6, v7, v8, v9, v10, v11, v12⟩ := hV
  obtain ⟨hq, -, ⟨r47, r47'⟩, ⟨r50, r50'⟩, r51, ⟨r52, r52'⟩, -⟩ := id hR
  have ha := hO.2.2.2.1
  have hd : dp ≤ 12 := by omega
  refine r2_run v9 ((dd9 (by omega) (by rw [hq.1 12 (by decide)]; exact h9) r50 hd).and (s_does (c := c) hN hO.2.2.2.2.2.1 ha hR (by omega) hkk).par) (fun n' r' σ' z => ?_)
  obtain ⟨z, hD⟩ := z
  unfold x6_leave
  rw [v10]
  rcases z with ⟨z1, z2⟩ | ⟨z1, z2, z3⟩
  · subst z1
    rw [if_pos (show nI 0 = 0 from rfl)]
    rw [h51] at z2
    rcases z2 with ⟨y1, y2⟩ | ⟨y1, y2⟩
    · subst y2
      rw [if_pos y1, bd_s]
      exact hk _ _ _ _ (Or.inl ⟨(show ¬ (0 : Int32) = -1 by decide), rfl, v1.trans r52.symm, v2.trans r47.symm, v3.trans v4.symm, v6.trans v7.symm⟩)
    · subst y2
      rw [if_neg y1, bd_s]
      exact hk _ _ _ _ (Or.inl ⟨(show ¬ (1 : Int32) = -1 by decide), rfl, v1.trans r52.symm, v2.trans r47.symm, v3.trans v4.symm, v6.trans v7.symm⟩)
  · obtain ⟨d, rfl⟩ : ∃ d, dp = d + 1 := ⟨dp - 1, by omega⟩
    obtain ⟨p', b1, b2, b3, b4⟩ := hK d (by omega)
    rw [if_neg (nI_ne0 (by omega) (by omega)), nI_pred]
    subst z3
    have hp2 := (bc_up hO.2.2.2.2.1 s (Nat.le_refl _) p' (by omega)).1
    obtain ⟨hR', h2⟩ := dp_ri (t := t) (f := d + 1) (s := st) hD ha v9 r47 (by omega) gI_eq (by omega) r52 (by omega) (z2.trans b4) (by omega)
    refine r2_bdL (P := fun _ σ' => σ' = sI (sI (sI (sI σc 1513 (nI d)) 1512 (nI p')) 1514 v) 1515 1) (par_bd (c_at (show d < 12 by omega)) (fun r1 σ2 w => par_some ?_)) (fun _ σ4 w => ?_)
    · rw [w.1, w.2, show gA (sI σc 1513 (nI d)) 17 d = nI p' from b2]
    · subst w
      refine hk _ _ _ _ (Or.inr ⟨t, d, st, an, p', ⟨rc_I (rc_I (rc_I (rc_I hC (by decide) (by decide)) (by decide) (by decide)) (by decide) (by decide)) (by decide) (by decide), ⟨v1, v2, v3, v4, v5, v6, v7, v8, v9, rfl, fun i hi => v11 i (by omega), v12⟩, fun i hi => hK i (by omega), hR'⟩, rfl, b1, Or.inr (Or.inl ⟨rfl, b3, h51.symm, z2.trans b4, h2, ?_⟩)⟩)
      rcases hM with e | e
      · omega
      · exact e
theorem c_store {N : Nat} {σc0 σm0 σ : St} {G s p : Nat} {φ : Nat → Nat} {c v : Int32} (hO : RO σc0 σm0 G s φ) (hC : RC σc0 G c σ) (hpc : gI σ 1512 = nI p) (hp : p < s) : Par (x6_store N σ v) (fun _ σ' => (v = 0 ∧ σ' = sI (sI σ 1511 2) 1510 (rwD G p σc0 3)) ∨ (¬ v = 0 ∧ ∀ n, n < 602 → 2 * v + rwD G p σc0 2 = nI n → σ' = sA σ 18 n (gI σ 1514))) := by
  unfold x6_store
  rw [hpc]
  refine par_if (fun x => par_gd (fun _ => ?_)) (fun x => par_gd (fun _ => ?_))
  · have hC2 : RC σc0 G c (sI σ 1511 2) := rc_I hC (by decide) (by decide)
    have hc := cg (N := N) (v := 3) hO hC2 hp (q := 3) (by decide) rfl
    rw [show gP σ 1505 = gP (sI σ 1511 2) 1505 from rfl, hc, bd_s]
    exact par_some (Or.inl ⟨x, rfl⟩)
  · rw [cg (N := N) (v := 2) hO hC hp (q := 2) (by decide) rfl, bd_s, n_mul2]
    refine par_bd (P := fun _ σ' => ∀ n, n < 602 → 2 * v + rwD G p σc0 2 = nI n → σ' = sA σ 18 n (gI σ 1514)) (fun r σ' e n hn en => ?_) (fun _ σ5 w => par_some (Or.inr ⟨x, w⟩))
    rw [en] at e
    exact c_put (show n < lenC 18 from hn) r σ' e
/-- a field's place -/
theorem fld_n {t : Nat} {v w : Int32} (hv : th t v) (ht : t ≤ 300) (h0 : ¬ v = 0) (hw : w = 0 ∨ w = 1) : ∃ n : Nat, 2 * v + w = nI n ∧ 2 ≤ n ∧ n < 2 * t + 2 := by
  obtain ⟨r, r1, rfl⟩ := nI_upto hv.1 hv.2 (by omega)
  have hr0 : ¬ r = 0 := fun e => h0 (by rw [e]; decide)
  rcases hw with q | q
  · exact ⟨2 * r + 0, by rw [q, show (0 : Int32) = nI 0 from by decide, n2], by omega, by omega⟩
  · exact ⟨2 * r + 1, by rw [q, show (1 : Int32) = nI 1 from by decide, n2], by omega, by omega⟩
theorem upd_eq2 {f g : Nat → Int32} {j i : Nat} {v w : Int32} (h : f i = g i) (hv : v = w) : upd f j v i = upd g j w i := by
  by_cases e : i = j
  · rw [e, pk_us, pk_us, hv]
  · rw [pk_un e, pk_un e, h]
theorem tn_finish {ρ : Type} {K : St → Option (ρ × St)} {Q : ρ → St → Unit → St → Prop} {N n : Nat} {σc0 σm0 σc σm : St} {G s t dp st an p : Nat} {φ : Nat → Nat} {c : Int32} (hN : 8589934592 ≤ N) (hO : RO σc0 σm0 G s φ) (hS : RS σc0 σm0 G s φ c t dp st an σc σm) (hpc : gI σc 1512 = nI p) (hp : p < s) (hop : opV (rwD G p σc0)) (hval : gI σc 1514 = gI σm 51) (h2 : φ p + 2 < φ s) (hk : KQ N σc0 σm0 G s φ c (mC st dp 306) K Q) : R2 (bd (x6_finish N σc) (fun _ σ => K σ)) (m_runs_108 N n σm c (nI (φ p + 2))) Q := by
  obtain ⟨hC, hV, hK, hR⟩ := id hS
  obtain ⟨v1, v2, v3, v4, v5, v6, v7, v8, v9, v10, v11, v12⟩ := hV
  obtain ⟨hq, -, ⟨r47, r47'⟩, ⟨r50, r50'⟩, r51, ⟨r52, r52'⟩, rn, rf, -⟩ := id hR
  have ha := hO.2.2.2.1
  have hd : dp ≤ 12 := by omega
  have hC1 : RC σc0 G c (sI σc 1515 0) := rc_I hC (by decide) (by decide)
  obtain ⟨len, l1, l2, l3, l4, -⟩ := ro_up hO hp
  obtain ⟨a1, a2, a3, a4, a5, -⟩ := hO.2.2.2.2.2.1.1 (φ p + 2) h2
  unfold x6_finish
  rw [cgd hO hC, gd_t, hpc, show gP σc 1505 = gP (sI σc 1515 0) 1505 from rfl, cg (v := 1) hO hC1 hp (q := 1) (by decide) rfl, bd_s, cgd hO hC1, gd_t, show gI (sI σc 1515 0) 1512 = nI p from hpc, cg (v := 0) hO hC1 hp (q := 0) (by decide) rfl, bd_s]
  have hnx : ∀ k, φ (p + 1) = φ p + k → φ p + k < φ s → p + 1 < s := fun k h1 h2 => ro_lt hO (by omega) (by omega)
  have hmm : mC st dp (jC (rwD G (p + 1) σc0) (p + 1)) < mC st dp 306 := by
    have := jC_le (d := rwD G (p + 1) σc0) (p := p + 1)
    unfold mC
    omega
  rcases l4 with ⟨e, -⟩ | ⟨e, -⟩ | ⟨e, -⟩ | ⟨e, rfl⟩ | ⟨e, rfl⟩ | ⟨e, rfl⟩
  · exact absurd e.1 hop.1
  · exact absurd e hop.2.1
  · exact absurd e.1 hop.2.2
  · rcases e with ⟨e0, -, -, e3, e4⟩ | ⟨e0, -, -, e3, e4, e5, e6⟩
    · -- a name is given
      have e3' : gA σm0 12 (φ p + 2) = 7 := e3
      obtain ⟨k1, k2, k3⟩ := nI_upto (a2 (Or.inr (Or.inr (Or.inr (Or.inl e3'))))).1 (n := 25) (a2 (Or.inr (Or.inr (Or.inr (Or.inl e3'))))).2 (by decide)
      have ed : rwD G p σc0 1 = nI k1 := (show gA σm0 13 (φ p + 2) = rwD G p σc0 1 from e4).symm.trans k3
      rw [e0, if_neg (show ¬ (3 : Int32) = 6 by decide), if_pos rfl, ed]
      refine r2_bdL (P := fun _ σ' => σ' = sI (sA (sI σc 1515 0) 16 (26 * dp + k1) (gI σc 1514)) 1512 (nI (p + 1))) (par_bd (c_setName (dp := dp) v10 hd (by omega)) (fun _ σ12 w => par_some ?_)) (fun _ σ4 w => ?_)
      · rw [w, show gI (sA (sI σc 1515 0) 16 (26 * dp + k1) (gI (sI σc 1515 0) 1514)) 1512 = nI p from hpc, nI_1]; rfl
      · subst w
        refine r2_run v9 ((dd7 (dp := dp) (k1 := k1) (by omega) (by rw [hq.1 12 (by decide)]; exact e3') r50 hd (by rw [hq.1 13 (by decide)]; exact k3) (by omega)).and (s_does (c := c) hN hO.2.2.2.2.2.1 ha hR (by omega) h2).par) (fun n' r' σ' z => ?_)
        obtain ⟨⟨z1, z2⟩, hD⟩ := z
        subst z2
        obtain ⟨hR', h3⟩ := dp_ri (t := t) (f := dp + 1) (s := st) hD ha v9 r47 (by omega) r50 (by omega) r52 (by omega) z1 (by omega)
        exact hk _ _ _ _ (Or.inr ⟨t, dp, st, an, p + 1, ⟨rc_I (rc_A hC1 (by decide)) (by decide) (by decide), ⟨v1, v2, v3, v4, v5, v6, v7, v8, v9, v10, fun i hi => upd_eq2 (v11 i hi) hval, v12⟩, hK, hR'⟩, rfl, hnx 3 l2 h3, Or.inl ⟨rfl, by rw [z1, l2], hmm⟩⟩)
    · -- a field is given
      have e3' : gA σm0 12 (φ p + 2) = 8 := e3
      obtain ⟨k1, k2, k3⟩ := nI_upto (a2 (Or.inr (Or.inr (Or.inr (Or.inr (Or.inl e3')))))).1 (n := 25) (a2 (Or.inr (Or.inr (Or.inr (Or.inr (Or.inl e3')))))).2 (by decide)
      have ed : rwD G p σc0 1 = nI k1 := (show gA σm0 13 (φ p + 2) = rwD G p σc0 1 from e4).symm.trans k3
      have ew : rwD G p σc0 2 = gA σm0 14 (φ p + 2) := (show gA σm0 14 (φ p + 2) = rwD G p σc0 2 from e5).symm
      have hw : gA σm0 14 (φ p + 2) = 0 ∨ gA σm0 14 (φ p + 2) = 1 := a4 (Or.inr e3')
      have hnm : gA σc 16 (26 * dp + k1) = gA σm 48 (26 * dp + k1) := v11 _ (by omega)
      rw [e0, if_neg (show ¬ (4 : Int32) = 6 by decide), if_neg (show ¬ (4 : Int32) = 3 by decide), if_pos rfl, bd_bd]
      refine r2_bdL (c_nameOf (dp := dp) v10 hd) (fun r7 σ8 w => ?_)
      obtain ⟨w1, w2⟩ := w
      rw [w1, w2 k1 (by omega) ed]
      refine r2_bdL (P := fun _ σ' => (gA σc 16 (26 * dp + k1) = 0 ∧ σ' = sI (sI (sI (sI σc 1515 0) 1511 2) 1510 (rwD G p σc0 3)) 1512 (nI (p + 1))) ∨ (¬ gA σc 16 (26 * dp + k1) = 0 ∧ ∀ n, n < 602 → 2 * gA σc 16 (26 * dp + k1) + rwD G p σc0 2 = nI n → σ' = sI (sA (sI σc 1515 0) 18 n (gI σc 1514)) 1512 (nI (p + 1)))) (par_bd (c_store hO hC1 hpc hp) (fun _ σ10 y => par_some ?_)) (fun _ σ4 y => ?_)
      · rcases y with ⟨y1, y2⟩ | ⟨y1, y2⟩
        · refine Or.inl ⟨y1, ?_⟩
          rw [y2, show gI (sI (sI (sI σc 1515 0) 1511 2) 1510 (rwD G p σc0 3)) 1512 = nI p from hpc, nI_1]
        · refine Or.inr ⟨y1, fun n hn en => ?_⟩
          rw [y2 n hn en, show gI (sA (sI σc 1515 0) 18 n (gI (sI σc 1515 0) 1514)) 1512 = nI p from hpc, nI_1]; rfl
      · refine r2_run v9 ((dd8 (dp := dp) (k1 := k1) (by omega) (by rw [hq.1 12 (by decide)]; exact e3') r50 hd (by rw [hq.1 13 (by decide)]; exact k3) (by omega)).and (s_does (c := c) hN hO.2.2.2.2.2.1 ha hR (by omega) h2).par) (fun n' r' σ' z => ?_)
        obtain ⟨⟨z1, z2⟩, hD⟩ := z
        rw [← hnm] at z2
        rcases y with ⟨y1, y2⟩ | ⟨y1, y2⟩
        · rcases z2 with ⟨-, z3⟩ | ⟨z3, -⟩
          · subst y2
            subst z3
            refine hk _ _ _ _ (Or.inl ⟨(show ¬ (2 : Int32) = -1 by decide), rfl, v1.trans r52.symm, v2.trans r47.symm, v3.trans v4.symm, ?_⟩)
            show rwD G p σc0 3 = gA σm 15 (φ p + 2)
            rw [hq.1 15 (by decide)]
            exact (show gA σm0 15 (φ p + 2) = rwD G p σc0 3 from e6).symm
          · exact absurd y1 z3
        · rcases z2 with ⟨z3, -⟩ | ⟨-, z3⟩
          · exact absurd z3 y1
          · obtain ⟨m, m1, m2, m3⟩ := fld_n (v := gA σc 16 (26 * dp + k1)) (w := rwD G p σc0 2) (by rw [hnm]; exact rn _ (by omega)) r47' y1 (by rw [ew]; exact hw)
            have y3 := y2 m (by omega) m1
            rw [hq.1 14 (by decide), ← ew, m1, nI_clamp (by omega)] at z3
            subst y3
            subst z3
            obtain ⟨hR', h3⟩ := dp_ri (t := t) (f := dp + 1) (s := st) hD ha v9 r47 (by omega) r50 (by omega) r52 (by omega) z1 (by omega)
            exact hk _ _ _ _ (Or.inr ⟨t, dp, st, an, p + 1, ⟨rc_I (rc_A hC1 (by decide)) (by decide) (by decide), ⟨v1, v2, v3, v4, v5, v6, v7, v8, v9, v10, v11, fun i hi hj => upd_eq2 (v12 i hi hj) hval⟩, hK, hR'⟩, rfl, hnx 3 l2 h3, Or.inl ⟨rfl, by rw [z1, l2], hmm⟩⟩)
  · -- nothing is done with it
    rw [e.1, if_neg (show ¬ (5 : Int32) = 6 by decide), if_neg (show ¬ (5 : Int32) = 3 by decide), if_neg (show ¬ (5 : Int32) = 4 by decide), bd_s, show gI (sI σc 1515 0) 1512 = nI p from hpc, nI_1]
    exact hk _ _ _ _ (Or.inr ⟨t, dp, st, an, p + 1, ⟨rc_I hC1 (by decide) (by decide), ⟨v1, v2, v3, v4, v5, v6, v7, v8, v9, v10, v11, v12⟩, hK, hR⟩, rfl, hnx 2 l2 h2, Or.inl ⟨rfl, by rw [l2], hmm⟩⟩)
  · -- it is answered
    rw [show rwD G p σc0 0 = 6 from e.1, if_pos rfl, bd_un]
    refine tn_leave (v := gI σc 1514) hN hO ⟨hC1, ⟨v1, v2, v3, v4, v5, v6, v7, v8, v9, v10, v11, v12⟩, hK, hR⟩ hval.symm h2 e.2.2.2 ?_ hk
    rcases Nat.eq_zero_or_pos dp with e | e
    · exact Or.inl e
    · refine Or.inr ?_
      unfold mC
      omega
