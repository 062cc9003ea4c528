/-! runs: a branch, and the work of a row -/
theorem dd6 {N : Nat} {σ : St} {c : Int32} {k : Nat} {P : Int32 → St → Prop} (hk : k < 2600) (h : gA σ 12 k = 6) (hx : Par (m_enter N σ (nI k)) P) : Par (m_does N σ (nI k) c) P := by
  unfold m_does
  rw [ibk (show k < 2600 by omega) (by decide), nI_clamp (show k < 2 ^ 31 by omega), gd_t, h, if_neg (show ¬ (6 : Int32) = 0 by decide), if_neg (show ¬ (6 : Int32) = 1 by decide), if_neg (show ¬ (6 : Int32) = 2 by decide), if_neg (show ¬ (6 : Int32) = 3 by decide), if_neg (show ¬ (6 : Int32) = 4 by decide), if_neg (show ¬ (6 : Int32) = 5 by decide), if_pos rfl]
  exact par_bd hx (fun r σ' z => par_some z)
theorem cb_end {N : Nat} {σc0 σm0 σ : St} {G s p : Nat} {φ : Nat → Nat} {c r : Int32} (hO : RO σc0 σm0 G s φ) (hC : RC σc0 G c σ) (hpc : gI σ 1512 = nI p) (hp : p < s) : (if r = 0 then gd (isCd (gP σ 1505)) (bd (x0_get N σ (gP σ 1505) (gI σ 1512) 10) (fun r9 σ10 => x6_step_113 N σ10 r9)) else x6_step_113 N σ ((gI σ 1512) + 1)) = some ((), sI σ 1512 (if r = 0 then rwD G p σc0 10 else nI (p + 1))) := by
  unfold x6_step_113
  rw [hpc]
  by_cases e : r = 0
  · rw [if_pos e, if_pos e, cgd hO hC, gd_t, cg (v := 10) hO hC hp (q := 10) (by decide) rfl, bd_s]
  · rw [if_neg e, if_neg e, nI_1]
theorem ch1 {N : Nat} {σc0 σm0 σ : St} {G s p an : Nat} {φ : Nat → Nat} {c : Int32} (hO : RO σc0 σm0 G s φ) (hC : RC σc0 G c σ) (hpc : gI σ 1512 = nI p) (hp : p < s) (h4 : rwD G p σc0 4 = 1) (h9 : gI σ 1509 = nI an) (ha : an < 401) : Par (x6_holds N σ) (fun r σ' => r = cbit c an ∧ σ' = sI σ 1509 (nI (an + 1))) := by
  unfold x6_holds
  rw [cgd hO hC, gd_t, hpc, cg (v := 4) hO hC hp (q := 4) (by decide) rfl, bd_s, h4, if_pos rfl]
  exact par_bd (c_choose hC.2.2.2 h9 ha) (fun r9 σ10 z => par_gd (fun _ => par_some z))
theorem ch67 {N : Nat} {σc0 σm0 σ : St} {G s p dp k1 : Nat} {φ : Nat → Nat} {c : Int32} (hO : RO σc0 σm0 G s φ) (hC : RC σc0 G c σ) (hpc : gI σ 1512 = nI p) (hp : p < s) (h13 : gI σ 1513 = nI dp) (hd : dp ≤ 12) (h4 : rwD G p σc0 4 = 6 ∨ rwD G p σc0 4 = 7) (h1 : rwD G p σc0 1 = nI k1) (hk1 : k1 < 26) : Par (x6_holds N σ) (fun r σ' => r = (if gA σ 16 (26 * dp + k1) = 0 then (if rwD G p σc0 4 = 6 then 1 else 0) else (if rwD G p σc0 4 = 6 then 0 else 1)) ∧ σ' = σ) := by
  unfold x6_holds
  rw [cgd hO hC, gd_t, hpc, cg (v := 4) hO hC hp (q := 4) (by decide) rfl, bd_s, if_neg (fun e => by rcases h4 with h | h <;> rw [h] at e <;> exact absurd e (by decide)), cgd hO hC, gd_t, hpc, cg (v := 1) hO hC hp (q := 1) (by decide) rfl, bd_s]
  refine par_bd (c_nameOf h13 hd) (fun r7 σ8 z => ?_)
  obtain ⟨z1, z2⟩ := z
  rw [z1, z2 k1 hk1 h1]
  unfold x6_holds_47 x6_holds_60
  by_cases y : gA σ 16 (26 * dp + k1) = 0
  · rw [if_pos y, if_pos y]
    by_cases x : rwD G p σc0 4 = 6
    · rw [if_pos x, if_pos x, if_pos (show (1 : Int32) = 1 from rfl)]
      exact par_some ⟨rfl, rfl⟩
    · rw [if_neg x, if_neg x, if_neg (show ¬ (1 : Int32) = 0 by decide)]
      exact par_some ⟨rfl, rfl⟩
  · rw [if_neg y, if_neg y]
    by_cases x : rwD G p σc0 4 = 6
    · rw [if_pos x, if_pos x, if_neg (show ¬ (0 : Int32) = 1 by decide)]
      exact par_some ⟨rfl, rfl⟩
    · rw [if_neg x, if_neg x, if_pos (show (0 : Int32) = 0 from rfl)]
      exact par_some ⟨rfl, rfl⟩
theorem tn_branch {ρ : Type} {K : St → Option (ρ × St)} {Q : ρ → St → Unit → St → Prop} {N n : Nat} {σc0 σm0 σc σm : St} {G s t dp st an p : Nat} {φ : Nat → Nat} {c : Int32} (hN : 8589934592 ≤ N) (hO : RO σc0 σm0 G s φ) (hS : RS σc0 σm0 G s φ c t dp (st + 1) an σc σm) (has : an ≤ st) (hst : st < 400) (h15 : gI σc 1515 = 0) (hpc : gI σc 1512 = nI p) (hp : p < s) (h0 : rwD G p σc0 0 = 2) (h1 : φ p + 1 < φ s) (hk : KQ N σc0 σm0 G s φ c (mC st dp 0) K Q) : R2 (bd (bd (x6_holds N σc) (fun r6 σ7 => if r6 = 0 then gd (isCd (gP σ7 1505)) (bd (x0_get N σ7 (gP σ7 1505) (gI σ7 1512) 10) (fun r9 σ10 => x6_step_113 N σ10 r9)) else x6_step_113 N σ7 ((gI σ7 1512) + 1))) (fun _ σ => K σ)) (m_runs_108 N n σm c (nI (φ p + 1))) Q := by
  obtain ⟨hC, hV, hK, hR⟩ := id hS
  obtain ⟨v1, v2, v3, v4, v5, v6, v7, v8, v9, v10, v11, v12⟩ := hV
  obtain ⟨hq, -, ⟨r47, r47'⟩, ⟨r50, r50'⟩, r51, ⟨r52, r52'⟩, rn, rf, -⟩ := id hR
  have ha := hO.2.2.2.1
  have hd : dp ≤ 12 := by omega
  obtain ⟨len, l1, l2, l3, l4, l5⟩ := ro_up hO hp
  obtain rfl := el_len2 l4 h0
  obtain ⟨a1, a2, a3, a4, a5, -⟩ := hO.2.2.2.2.2.1.1 (φ p + 1) h1
  obtain ⟨q, q1, q2, q3, q4⟩ := (l5.2 h0).elim (fun e => absurd e id) id
  have q4' : gA σm 15 (φ p + 1) = nI (φ q) := by rw [hq.1 15 (by decide)]; exact q4
  have hB : B0 (rwD G p σc0) (acB φ p σm0) := by
    rcases l4 with ⟨e, -⟩ | ⟨e, -⟩ | ⟨e, -⟩ | ⟨e, -⟩ | ⟨e, -⟩ | ⟨e, -⟩
    · have e := e.1; rw [h0] at e; exact absurd e (by decide)
    · rw [h0] at e; exact absurd e (by decide)
    · exact e
    · rcases e with e | e <;> have e := e.1 <;> rw [h0] at e <;> exact absurd e (by decide)
    · have e := e.1; rw [h0] at e; exact absurd e (by decide)
    · have e : rwD G p σc0 0 = 6 := e.1; rw [h0] at e; exact absurd e (by decide)
  have hup : φ q ≤ φ s := (bc_up hO.2.2.2.2.1 s (Nat.le_refl _) q q1).1
  have hm : ∀ d x, mC (st + 1) dp (jC d x) < mC st dp 0 := fun d x => by
    have := jC_le (d := d) (p := x)
    unfold mC
    omega
  have fin1 : ∀ (σ7 σ' : St) (an' n' : Nat) (r' : Int32), RS σc0 σm0 G s φ c t dp (st + 1) an' σ7 σ' → gI σ7 1515 = 0 → r' = nI (φ p + 2) → φ p + 2 < φ s → R2 (K (sI σ7 1512 (nI (p + 1)))) (m_runs_108 N n' σ' c r') Q := fun σ7 σ' an' n' r' hS' h5 hr hlt => hk _ _ _ _ (Or.inr ⟨t, dp, st + 1, an', p + 1, ⟨rc_I hS'.1 (by decide) (by decide), hS'.2.1, hS'.2.2.1, hS'.2.2.2⟩, gI_eq, ro_lt hO (by omega) (by omega), Or.inl ⟨(gI_ne (by decide)).trans h5, by rw [hr, l2], hm _ _⟩⟩)
  have fin2 : ∀ (σ7 σ' : St) (an' n' : Nat) (r' : Int32), RS σc0 σm0 G s φ c t dp (st + 1) an' σ7 σ' → gI σ7 1515 = 0 → r' = nI (φ q) → φ q < φ s → R2 (K (sI σ7 1512 (nI q))) (m_runs_108 N n' σ' c r') Q := fun σ7 σ' an' n' r' hS' h5 hr hlt => hk _ _ _ _ (Or.inr ⟨t, dp, st + 1, an', q, ⟨rc_I hS'.1 (by decide) (by decide), hS'.2.1, hS'.2.2.1, hS'.2.2.2⟩, gI_eq, ro_lt hO q1 hlt, Or.inl ⟨(gI_ne (by decide)).trans h5, hr, hm _ _⟩⟩)
  rw [bd_bd]
  rcases hB.2.2.1 with ⟨k4, k0⟩ | hk67
  · -- any
    refine r2_bdL (ch1 hO hC hpc hp k4 v3 (by omega)) (fun r6 σ7 w => ?_)
    obtain ⟨w1, w2⟩ := w
    subst w2
    rw [cb_end (σ := sI σc 1509 (nI (an + 1))) (p := p) (c := c) hO (rc_I hC (by decide) (by decide)) hpc hp, bd_s, w1]
    refine r2_run v9 ((dd12 (by omega) (by rw [hq.1 12 (by decide)]; exact k0) v4).and (s_does (c := c) hN hO.2.2.2.2.2.1 ha hR (by omega) h1).par) (fun n' r' σ' z => ?_)
    obtain ⟨⟨z1, z2⟩, hD⟩ := z
    subst z1
    have hS' : ∀ {r'' : Int32} {k : Nat}, r'' = r' → r'' = nI k → k < 10000 → RS σc0 σm0 G s φ c t dp (st + 1) (an + 1) (sI σc 1509 (nI (an + 1))) (sI σm 53 (nI (an + 1))) ∧ k < φ s := fun e1 e2 e3 => by
      obtain ⟨hR', h3⟩ := dp_ri (t := t) (f := dp + 1) (s := st + 1) hD ha v9 r47 (by omega) r50 (by omega) r52 (by omega) (e1.symm.trans e2) e3
      exact ⟨⟨rc_I hC (by decide) (by decide), ⟨v1, v2, rfl, rfl, by omega, v6, v7, v8, v9, v10, v11, v12⟩, hK, hR'⟩, h3⟩
    rcases z2 with ⟨z2, z3⟩ | ⟨z2, z3⟩
    · rw [if_pos z2, q3]
      obtain ⟨hS2, h3⟩ := hS' rfl (z3.trans q4') (by omega)
      exact fin2 _ _ _ _ _ hS2 h15 (z3.trans q4') h3
    · rw [if_neg z2]
      obtain ⟨hS2, h3⟩ := hS' rfl z3 (by omega)
      exact fin1 _ _ _ _ _ hS2 h15 z3 h3
  · -- a name
    have kk : gA σm0 13 (φ p + 1) = rwD G p σc0 1 ∧ ((rwD G p σc0 4 = 6 ∧ gA σm0 12 (φ p + 1) = 10) ∨ (rwD G p σc0 4 = 7 ∧ gA σm0 12 (φ p + 1) = 11)) := by
      rcases hk67 with ⟨x1, x2, x3⟩ | ⟨x1, x2, x3⟩
      · exact ⟨x3, Or.inl ⟨x1, x2⟩⟩
      · exact ⟨x3, Or.inr ⟨x1, x2⟩⟩
    obtain ⟨kk1, kk2⟩ := kk
    have hnm : nm1 (gA σm0 12 (φ p + 1)) := by
      rcases kk2 with ⟨-, e⟩ | ⟨-, e⟩
      · exact Or.inr (Or.inr (Or.inr (Or.inr (Or.inr (Or.inl e)))))
      · exact Or.inr (Or.inr (Or.inr (Or.inr (Or.inr (Or.inr e)))))
    obtain ⟨k1, k2, k3⟩ := nI_upto (a2 hnm).1 (n := 25) (a2 hnm).2 (by decide)
    have hn2 : gA σc 16 (26 * dp + k1) = gA σm 48 (26 * dp + k1) := v11 _ (by omega)
    have e13 : gA σm 13 (φ p + 1) = nI k1 := by rw [hq.1 13 (by decide)]; exact k3
    refine r2_bdL (ch67 (dp := dp) (k1 := k1) hO hC hpc hp v10 hd (kk2.imp (fun x => x.1) (fun x => x.1)) (kk1.symm.trans k3) (by omega)) (fun r6 σ7 w => ?_)
    obtain ⟨w1, w2⟩ := w
    subst w2
    rw [cb_end hO hC hpc hp, bd_s, w1]
    have step : ∀ (P : Prop) (A B : Int32), P → True := fun _ _ _ _ => trivial
    rcases kk2 with ⟨x1, x2⟩ | ⟨x1, x2⟩
    · rw [if_pos x1, if_pos x1]
      refine r2_run v9 ((dd10 (dp := dp) (k1 := k1) (by omega) (by rw [hq.1 12 (by decide)]; exact x2) r50 hd e13 (by omega)).and (s_does (c := c) hN hO.2.2.2.2.2.1 ha hR (by omega) h1).par) (fun n' r' σ' z => ?_)
      obtain ⟨⟨z1, z2⟩, hD⟩ := z
      subst z1
      rw [← hn2] at z2
      rcases z2 with ⟨z2, z3⟩ | ⟨z2, z3⟩
      · rw [if_pos z2, if_neg (show ¬ (1 : Int32) = 0 by decide)]
        obtain ⟨hR', h3⟩ := dp_ri (t := t) (f := dp + 1) (s := st + 1) hD ha v9 r47 (by omega) r50 (by omega) r52 (by omega) z3 (by omega)
        exact fin1 _ _ _ _ _ hS h15 z3 h3
      · rw [if_neg z2, if_pos rfl, q3]
        obtain ⟨hR', h3⟩ := dp_ri (t := t) (f := dp + 1) (s := st + 1) hD ha v9 r47 (by omega) r50 (by omega) r52 (by omega) (z3.trans q4') (by omega)
        exact fin2 _ _ _ _ _ hS h15 (z3.trans q4') h3
    · have x3 : ¬ rwD G p σc0 4 = 6 := fun e => absurd (x1.symm.trans e) (by decide)
      rw [if_neg x3, if_neg x3]
      refine r2_run v9 ((dd11 (dp := dp) (k1 := k1) (by omega) (by rw [hq.1 12 (by decide)]; exact x2) r50 hd e13 (by omega)).and (s_does (c := c) hN hO.2.2.2.2.2.1 ha hR (by omega) h1).par) (fun n' r' σ' z => ?_)
      obtain ⟨⟨z1, z2⟩, hD⟩ := z
      subst z1
      rw [← hn2] at z2
      rcases z2 with ⟨z2, z3⟩ | ⟨z2, z3⟩
      · rw [if_pos z2, if_pos rfl, q3]
        obtain ⟨hR', h3⟩ := dp_ri (t := t) (f := dp + 1) (s := st + 1) hD ha v9 r47 (by omega) r50 (by omega) r52 (by omega) (z3.trans q4') (by omega)
        exact fin2 _ _ _ _ _ hS h15 (z3.trans q4') h3
      · rw [if_neg z2, if_neg (show ¬ (1 : Int32) = 0 by decide)]
        obtain ⟨hR', h3⟩ := dp_ri (t := t) (f := dp + 1) (s := st + 1) hD ha v9 r47 (by omega) r50 (by omega) r52 (by omega) z3 (by omega)
        exact fin1 _ _ _ _ _ hS h15 z3 h3
theorem th_ne {t : Nat} {v : Int32} (h : th t v) : ¬ v = -1 := fun e => by
  have := h.1
  rw [e, show (-1 : Int32).toInt = -1 from rfl] at this
  omega
theorem orT_th {t : Nat} {v : Int32} (h : th t v) : orT t v = v := if_neg (th_ne h)
/-- both make a thing alike: the fields stay alike -/
theorem mk_f {t : Nat} {σc σm : St} {x y x' y' : Int32} (h : ∀ i, 2 ≤ i → i < 2 * t + 2 → gA σc 18 i = gA σm 46 i) (hx : x = x') (hy : y = y') : ∀ i, 2 ≤ i → i < 2 * (t + 1) + 2 → gA (mkC σc t x y) 18 i = gA (mkM σm t x' y') 46 i := by
  intro i h1 h2
  show upd (upd (gA σc 18) (2 * (t + 1)) x) (2 * (t + 1) + 1) y i = upd (upd (gA σm 46) (2 * (t + 1)) x') (2 * (t + 1) + 1) y' i
  by_cases e : i = 2 * (t + 1) + 1
  · rw [e, pk_us, pk_us, hy]
  · rw [pk_un e, pk_un e]
    by_cases e2 : i = 2 * (t + 1)
    · rw [e2, pk_us, pk_us, hx]
    · rw [pk_un e2, pk_un e2]
      exact h i h1 (by omega)
theorem tn_work {ρ : Type} {K : St → Option (ρ × St)} {Q : ρ → St → Unit → St → Prop} {N n : Nat} {σc0 σm0 σc σm : St} {G s t dp st an p : Nat} {φ : Nat → Nat} {c : Int32} (hN : 8589934592 ≤ N) (hO : RO σc0 σm0 G s φ) (hS : RS σc0 σm0 G s φ c t dp (st + 1) an σc σm) (has : an ≤ st) (hst : st < 400) (hpc : gI σc 1512 = nI p) (hp : p < s) (hop : opV (rwD G p σc0)) (hv : VR (rwD G p σc0) (acB φ p σm0 1)) (h1 : φ p + 1 < φ s) (hk : KQ N σc0 σm0 G s φ c (mC st dp 0) K Q) : R2 (bd (x6_work N σc) (fun _ σ => K σ)) (m_runs_108 N n σm c (nI (φ p + 1))) Q := by
  obtain ⟨hC, hV, hK, hR⟩ := id hS
  obtain ⟨v1, v2, v3, v4, v5, v6, v7, v8, v9, v10, v11, v12⟩ := hV
  obtain ⟨hq, -, ⟨r47, r47'⟩, ⟨r50, r50'⟩, r51, ⟨r52, r52'⟩, rn, rf, -⟩ := id hR
  have hg := pr_or hO.1
  have ha := hO.2.2.2.1
  have hBV := hO.2.2.2.2.2.1
  have hd : dp ≤ 12 := by omega
  obtain ⟨a1, a2, a3, a4, a5, -⟩ := hBV.1 (φ p + 1) h1
  have hm : mC (st + 1) dp 306 < mC st dp 0 := by
    unfold mC
    omega
  have hW : RC σc0 G c (sI (sI σc 1514 0) 1515 1) := rc_I (rc_I hC (by decide) (by decide)) (by decide) (by decide)
  have e12 : ∀ j, j < 40 → gA σm j (φ p + 1) = gA σm0 j (φ p + 1) := fun j hj => by rw [hq.1 j hj]
  have sd := (s_does (N := N) (c := c) hN hBV ha hR (by omega) h1).par
  -- a value is there
  have fin : ∀ (σ4 σ' : St) (t' an' n' : Nat) (r' : Int32), RC σc0 G c σ4 → RV dp t' (st + 1) an' σ4 σ' → RK G s φ σc0 dp σ4 σ' → DP σm0 (φ s) (ms (gA σm0 12) (st + 1) (dp + 1) (φ p + 1)) r' σ' → t' ≤ 300 → gI σ' 47 = nI t' → gI σ' 50 = nI (dp + 1) → gI σ' 52 = nI (st + 1) → gI σ4 1512 = nI p → gI σ4 1515 = 1 → gI σ4 1514 = gI σ' 51 → r' = nI (φ p + 2) → R2 (K σ4) (m_runs_108 N n' σ' c r') Q := fun σ4 σ' t' an' n' r' f1 f2 f3 f4 f5 f6 f7 f8 f9 f10 f11 f12 => by
    obtain ⟨hR', h3⟩ := dp_ri (t := t') (f := dp + 1) (s := st + 1) f4 ha f2.2.2.2.2.2.2.2.2.1 f6 (by omega) f7 (by omega) f8 (by omega) f12 (by omega)
    exact hk _ _ _ _ (Or.inr ⟨t', dp, st + 1, an', p, ⟨f1, f2, f3, hR'⟩, f9, hp, Or.inr (Or.inl ⟨f10, hop, f11, f12, h3, hm⟩)⟩)
  rcases hv with ⟨d4, e0⟩ | ⟨d4, e0⟩ | ⟨d4, e0, e1, e2⟩ | ⟨d4, e0, e1⟩ | ⟨d4, e0, e1, e2, e3⟩ | ⟨d4, e0, e1, k, b, hk4, hb, d8, e2, e4, -⟩
  · -- nothing
    refine r2_bdL (cw0 (dp := dp) hO hC hpc hp v10 hd d4) (fun _ σ4 w => ?_)
    subst w
    refine r2_run v9 ((dd1 (by omega) ((e12 12 (by decide)).trans e0)).and sd) (fun n' r' σ' z => ?_)
    obtain ⟨⟨z1, z2⟩, hD⟩ := z
    subst z2
    exact fin _ _ t an _ _ hW ⟨v1, v2, v3, v4, v5, v6, v7, v8, v9, v10, v11, v12⟩ hK hD r47' r47 r50 r52 hpc rfl rfl z1
  · -- any
    refine r2_bdL (cw1 (dp := dp) hO hC hpc hp v10 hd d4 v3 (by omega) v2 r47') (fun _ σ4 w => ?_)
    refine r2_run v9 ((dd2 (by omega) ((e12 12 (by decide)).trans e0) v4 r47 r47').and sd) (fun n' r' σ' z => ?_)
    obtain ⟨⟨z1, z2⟩, hD⟩ := z
    rcases w with ⟨w1, w2⟩ | ⟨w1, w2, w3⟩ | ⟨w1, w2, w3⟩
    · rcases z2 with ⟨z2, z3⟩ | ⟨z2, -⟩ | ⟨z2, -⟩
      · subst w2
        subst z3
        exact fin _ _ t (an + 1) _ _ (rc_I (rc_I hW (by decide) (by decide)) (by decide) (by decide)) ⟨v1, v2, rfl, rfl, by omega, v6, v7, v8, v9, v10, v11, v12⟩ hK hD r47' r47 r50 r52 hpc rfl rfl z1
      · exact absurd w1 z2
      · exact absurd w1 z2
    · rcases z2 with ⟨z2, -⟩ | ⟨-, -, z3⟩ | ⟨-, z3, -⟩
      · exact absurd z2 w1
      · subst w3
        subst z3
        exact hk _ _ _ _ (Or.inl ⟨(show ¬ (3 : Int32) = -1 by decide), rfl, v1.trans r52.symm, v2.trans r47.symm, rfl, v6.trans v7.symm⟩)
      · omega
    · rcases z2 with ⟨z2, -⟩ | ⟨-, z3, -⟩ | ⟨-, -, z3⟩
      · exact absurd z2 w1
      · omega
      · subst w3
        subst z3
        exact fin _ _ (t + 1) (an + 1) _ _ (rc_I (rc_A (rc_A (rc_I (rc_I hW (by decide) (by decide)) (by decide) (by decide)) (by decide)) (by decide)) (by decide) (by decide)) ⟨v1, rfl, rfl, rfl, by omega, v6, v7, v8, v9, v10, v11, mk_f v12 rfl rfl⟩ hK hD (by omega) rfl r50 r52 hpc rfl rfl z1
  · -- new
    obtain ⟨k1, k2, k3⟩ := nI_upto (a2 (Or.inl e0)).1 (n := 25) (a2 (Or.inl e0)).2 (by decide)
    obtain ⟨j1, j2, j3⟩ := nI_upto (a3 e0).1 (n := 25) (a3 e0).2 (by decide)
    have x1 : gA σc 16 (26 * dp + k1) = gA σm 48 (26 * dp + k1) := v11 _ (by omega)
    have x2 : gA σc 16 (26 * dp + j1) = gA σm 48 (26 * dp + j1) := v11 _ (by omega)
    refine r2_bdL (cw2 (dp := dp) (k1 := k1) (k2 := j1) hO hC hpc hp v10 hd d4 v2 r47' (e1.symm.trans k3) (by omega) (e2.symm.trans j3) (by omega)) (fun _ σ4 w => ?_)
    refine r2_run v9 ((dd3 (dp := dp) (k1 := k1) (k2 := j1) (by omega) ((e12 12 (by decide)).trans e0) r50 hd ((e12 13 (by decide)).trans k3) (by omega) ((e12 14 (by decide)).trans j3) (by omega) r47 r47').and sd) (fun n' r' σ' z => ?_)
    obtain ⟨⟨z1, z2⟩, hD⟩ := z
    rcases w with ⟨w1, w2⟩ | ⟨w1, w2⟩
    · rcases z2 with ⟨-, z3⟩ | ⟨z3, -⟩
      · subst w2
        subst z3
        exact hk _ _ _ _ (Or.inl ⟨(show ¬ (3 : Int32) = -1 by decide), rfl, v1.trans r52.symm, v2.trans r47.symm, v3.trans v4.symm, v6.trans v7.symm⟩)
      · omega
    · rcases z2 with ⟨z3, -⟩ | ⟨-, z3⟩
      · omega
      · rw [orT_th (rn _ (by omega)), orT_th (rn _ (by omega))] at z3
        subst w2
        subst z3
        exact fin _ _ (t + 1) an _ _ (rc_I (rc_A (rc_A (rc_I hW (by decide) (by decide)) (by decide)) (by decide)) (by decide) (by decide)) ⟨v1, rfl, v3, v4, v5, v6, v7, v8, v9, v10, v11, mk_f v12 x1 x2⟩ hK hD (by omega) rfl r50 r52 hpc rfl rfl z1
  · -- a name
    obtain ⟨k1, k2, k3⟩ := nI_upto (a2 (Or.inr (Or.inl e0))).1 (n := 25) (a2 (Or.inr (Or.inl e0))).2 (by decide)
    have x1 : gA σc 16 (26 * dp + k1) = gA σm 48 (26 * dp + k1) := v11 _ (by omega)
    refine r2_bdL (cw3 (dp := dp) (k1 := k1) hO hC hpc hp v10 hd d4 (e1.symm.trans k3) (by omega)) (fun _ σ4 w => ?_)
    subst w
    refine r2_run v9 ((dd4 (dp := dp) (k1 := k1) (by omega) ((e12 12 (by decide)).trans e0) r50 hd ((e12 13 (by decide)).trans k3) (by omega)).and sd) (fun n' r' σ' z => ?_)
    obtain ⟨⟨z1, z2⟩, hD⟩ := z
    subst z2
    exact fin _ _ t an _ _ (rc_I hW (by decide) (by decide)) ⟨v1, v2, v3, v4, v5, v6, v7, v8, v9, v10, v11, v12⟩ hK hD r47' r47 r50 r52 hpc rfl x1 z1
  · -- a field
    obtain ⟨k1, k2, k3⟩ := nI_upto (a2 (Or.inr (Or.inr (Or.inl e0)))).1 (n := 25) (a2 (Or.inr (Or.inr (Or.inl e0)))).2 (by decide)
    have x1 : gA σc 16 (26 * dp + k1) = gA σm 48 (26 * dp + k1) := v11 _ (by omega)
    refine r2_bdL (cw4 (dp := dp) (k1 := k1) hO hC hpc hp v10 hd d4 (e1.symm.trans k3) (by omega)) (fun _ σ4 w => ?_)
    refine r2_run v9 ((dd5 (dp := dp) (k1 := k1) (by omega) ((e12 12 (by decide)).trans e0) r50 hd ((e12 13 (by decide)).trans k3) (by omega)).and sd) (fun n' r' σ' z => ?_)
    obtain ⟨⟨z1, z2⟩, hD⟩ := z
    rw [← x1] at z2
    rcases w with ⟨w1, w2⟩ | ⟨w1, w2⟩
    · rcases z2 with ⟨-, z3⟩ | ⟨z3, -⟩
      · subst w2
        subst z3
        exact hk _ _ _ _ (Or.inl ⟨(show ¬ (2 : Int32) = -1 by decide), rfl, v1.trans r52.symm, v2.trans r47.symm, v3.trans v4.symm, (show rwD G p σc0 7 = gA σm 15 (φ p + 1) from (((e12 15 (by decide)).trans e3)).symm)⟩)
      · exact absurd w1 z3
    · rcases z2 with ⟨z3, -⟩ | ⟨-, z3⟩
      · exact absurd z3 w1
      · have hw : rwD G p σc0 6 = 0 ∨ rwD G p σc0 6 = 1 := by
          rw [← e2]
          exact a4 (Or.inl e0)
        obtain ⟨m, m1, m2, m3⟩ := fld_n (v := gA σc 16 (26 * dp + k1)) (w := rwD G p σc0 6) (by rw [x1]; exact rn _ (by omega)) r47' w1 hw
        have y3 := w2 m (by omega) m1
        rw [(e12 14 (by decide)).trans e2, m1, nI_clamp (by omega)] at z3
        subst y3
        subst z3
        exact fin _ _ t an _ _ (rc_I hW (by decide) (by decide)) ⟨v1, v2, v3, v4, v5, v6, v7, v8, v9, v10, v11, v12⟩ hK hD r47' r47 r50 r52 hpc rfl (v12 m m2 m3) z1
  · -- a call
    obtain ⟨l, hl, b1, b2, b3⟩ := hBV.2.2.2 (φ p + 1) h1 e0
    obtain ⟨T, t1, t2, t3⟩ := hO.2.2.2.2.2.2
    obtain ⟨m, p', m4, ps, c4, d20, c3, d19, prm⟩ := (t3 l (by omega)).2 ((t3 l (by omega)).1.mpr b2)
    obtain rfl : m = k := (nI_eq (by omega) (by omega)).mp (d20.symm.trans (b3.trans e2))
    have hpr : ∀ i, i < m → ∃ x, x ≤ 25 ∧ gA σm0 21 (4 * l + i) = nI x := fun i hi => by
      rcases hBV.2.2.1 l (by omega) with e | ⟨-, -, -, e⟩
      · exact absurd e b2
      · obtain ⟨y1, y2⟩ := e i (by rw [d20, nI_t (by omega)]; omega)
        exact nI_upto y1 (n := 25) y2 (by decide)
    have hpn : ∀ i, i < m → gA σm0 21 (4 * l + i) = nI ((gA σm0 21 (4 * l + i)).toNatClampNeg) ∧ (gA σm0 21 (4 * l + i)).toNatClampNeg < 26 := fun i hi => by
      obtain ⟨x, x1, x2⟩ := hpr i hi
      rw [x2, nI_clamp (by omega)]
      exact ⟨rfl, by omega⟩
    have d6 : rwD G p σc0 6 = nI l := e1.symm.trans b1
    have kA5 : gA σc (G + 5) = gA σc0 (G + 5) := hC.1.2.1 _ (by omega)
    have kA3 : gA σc (G + 3) = gA σc0 (G + 3) := hC.1.2.1 _ (by omega)
    refine r2_bdL (cw5 (dp := dp) hO hC hpc hp v10 hd d4 (by rw [d6]; exact c_enter (pn := fun i => (gA σm0 21 (4 * l + i)).toNatClampNeg) (p' := p') (dp := dp) hO hW hpc hp v10 hd d8 m4 hb (by omega) (fun i hi => ⟨(show gA σc (G + 5) (4 * l + i) = _ by rw [kA5, prm i hi]; exact (hpn i hi).1), (hpn i hi).2⟩) (show gA σc (G + 3) l = nI p' by rw [kA3]; exact c3))) (fun _ σ4 w => ?_)
    refine r2_run v9 ((dd6 (by omega) ((e12 12 (by decide)).trans e0) (n_enter (pn := fun i => (gA σm0 21 (4 * l + i)).toNatClampNeg) (dp := dp) (by omega) r50 hd ((e12 13 (by decide)).trans b1) ((e12 14 (by decide)).trans e2) ((e12 16 (by decide)).trans e4) m4 hb (by omega) (fun i hi => by rw [hq.1 21 (by decide)]; exact hpn i hi))).and sd) (fun n' r' σ' z => ?_)
    obtain ⟨z, hD⟩ := z
    rcases w with ⟨w1, w2⟩ | ⟨w1, w2⟩
    · rcases z with ⟨-, z3⟩ | ⟨z3, -⟩
      · subst w2
        subst z3
        exact hk _ _ _ _ (Or.inl ⟨(show ¬ (3 : Int32) = -1 by decide), rfl, v1.trans r52.symm, v2.trans r47.symm, v3.trans v4.symm, v6.trans v7.symm⟩)
      · omega
    · rcases z with ⟨z3, -⟩ | ⟨-, z3, z4⟩
      · omega
      · subst w2
        subst z4
        have hr' : r' = nI (φ p') := z3.trans (by rw [hq.1 19 (by decide)]; exact d19)
        have hp2 := (bc_up hO.2.2.2.2.1 s (Nat.le_refl _) p' (by omega)).1
        obtain ⟨hR', h3⟩ := dp_ri (t := t) (f := dp + 2) (s := st + 1) hD ha v9 r47 (by omega) rfl (by omega) r52 (by omega) hr' (by omega)
        refine hk _ _ _ _ (Or.inr ⟨t, dp + 1, st + 1, an, p', ⟨rc_I (rc_I (rc_F (rc_I (rc_A hW (by decide)) (by decide) (by decide)) (by decide)) (by decide) (by decide)) (by decide) (by decide), ⟨v1, v2, v3, v4, v5, v6, v7, v8, v9, rfl, ?_, v12⟩, ?_, hR'⟩, rfl, ps, Or.inl ⟨rfl, hr', ?_⟩⟩)
        · intro i hi
          refine arF_rel (L := 26 * (dp + 2)) (m := m) ?_ (fun j _ => ?_) m (Nat.le_refl _) i (by omega)
          · intro j hj
            unfold clr
            by_cases c : 26 * (dp + 1) ≤ j ∧ j < 26 * (dp + 1) + 26
            · rw [if_pos c, if_pos c]
            · rw [if_neg c, if_neg c]
              exact v11 j (by omega)
          · have := Nat.mod_lt (b / 2 ^ (5 * j)) (show 0 < 32 by decide)
            show 26 * dp + b / 2 ^ (5 * j) % 32 < _
            omega
        · intro i hi
          rcases (show i = dp ∨ i < dp by omega) with e | e
          · subst e
            exact ⟨p, hp, pk_us, hop, pk_us⟩
          · obtain ⟨p2, y1, y2, y3, y4⟩ := hK i e
            exact ⟨p2, y1, (pk_un (by omega)).trans y2, y3, (pk_un (by omega)).trans y4⟩
        · have := jC_le (d := rwD G p' σc0) (p := p')
          unfold mC
          omega
