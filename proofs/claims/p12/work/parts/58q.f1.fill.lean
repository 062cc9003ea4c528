/-! the class's trials -/
def Dt : FD := (fun _ _ _ => True, fun _ => True, fun _ _ => True, fun _ => True, fun _ _ => True)
theorem so_t (s : St × St) : So s Dt := by
  refine ⟨⟨trivial, fun k _ => ⟨fun _ _ _ => trivial, fun _ => ⟨trivial, trivial⟩⟩⟩, fun r _ _ _ => ⟨trivial, fun _ _ _ _ _ => trivial⟩, fun p _ _ => ⟨fun _ => trivial, fun _ => ⟨trivial, fun _ _ _ _ _ => trivial⟩, fun _ _ => ⟨trivial, trivial, ⟨trivial, fun _ _ _ _ _ => trivial⟩, ⟨trivial, fun _ _ _ _ _ => trivial⟩⟩, fun _ w _ _ => ⟨fun _ => ⟨trivial, ⟨trivial, fun _ _ _ _ _ => trivial⟩⟩, fun _ => ⟨trivial, ⟨trivial, fun _ _ _ _ _ => trivial⟩⟩⟩, fun _ => ⟨⟨fun _ => ⟨trivial, trivial⟩, fun _ _ _ => ⟨fun _ => trivial, fun _ => trivial⟩, fun _ _ _ _ _ => trivial, fun _ => ⟨trivial, fun _ _ _ _ _ => trivial⟩⟩, fun _ => ⟨fun _ => ⟨trivial, fun _ _ _ _ _ => trivial⟩, fun _ => ⟨fun _ _ _ _ => trivial, fun _ => ⟨fun _ _ _ => trivial, ⟨trivial, fun _ _ _ _ _ => trivial⟩⟩⟩, fun _ => ⟨trivial, fun _ _ _ _ _ => trivial⟩, fun _ _ _ _ => trivial⟩⟩⟩⟩
/-- a use that fails can be NOTHING in every solution -/
theorem nd_runs {N : Nat} {σc σm σ : St} {x c : Int32} (hN : 8589934592 ≤ N) (hS : SCx σc σm) (hM : MI σm) (h39 : ¬ gI σm 39 = -1) (hOB : OB σm) (hUB : UB σm) (hJ : JM σm σ) (hx : ¬ crv N σm x = 0) : Par (m_runs N σ x c) (fun _ σ' => gI σ' 55 = 2 → ∃ v, v < uN σm ∧ gI σ' 54 = nI v ∧ ∀ D, So (σc, σm) D → D.2.2.2.2 (100 + v) 0) := by
  have hS2 := sc_k hS (kc_r σc) hJ
  obtain ⟨φ, T, hP⟩ := px_s hS2 hJ.2.2.2.2
  obtain ⟨p1, p2, p3, p4, p5, p6, p7⟩ := hP
  have p1 : PO σc σ (gP σc 700) (sE σc) φ := p1
  have p7 := p7.resolve_left (fun e => h39 (hS.2.1.symm.trans e))
  obtain ⟨e701, hR, -⟩ := p7
  have e701 : gI σc 701 = nI (lE σc) := e701
  have hR : (Rd (gP σc 700) σc σ).1 (lE σc) := hR
  obtain ⟨g1, g2, g3, g4, g5, -⟩ := rd_ok p1 hR
  have hl39 : gI σ 39 = nI (lE σc) := hJ.2.1.trans (hS.2.1.symm.trans e701)
  have hAL : ALx ((Rd (gP σc 700) σc σ).2.2.1 (lE σc)) (tE σc) x := by
    have ec := can_eq (x := x) (c := 0) hN hM hJ (by decide)
    exact (can_al (N := N) (x := x) (c := nI 0) hl39 g1 g5 g3 (fun j hj => ⟨(p6 j hj).2.1, (p6 j hj).2.2⟩) _ _ ec).2 hx
  have hOB2 : OB σ := ob_f hJ.1 (fun i hi => hJ.2.2.1 12 i (by decide) (by decide) hi) (fun i hi => hJ.2.2.1 13 i (by decide) (by decide) hi) (fun i hi => hJ.2.2.1 15 i (by decide) (by decide) hi) (fun i hi => hJ.2.2.1 19 i (by decide) (by decide) hi) hOB
  have hUB2 : UB σ := ub_f hJ.1 (fun i hi => hJ.2.2.1 12 i (by decide) (by decide) hi) (fun i hi => hJ.2.2.1 15 i (by decide) (by decide) hi) (hJ.2.2.1 26 0 (by decide) (by decide) (by decide)) hUB
  have eu : uN σ = uN σm := by
    unfold uN
    rw [hJ.2.2.1 26 0 (by decide) (by decide) (by decide)]
  have hSo : ∀ D, So (σc, σ) D = So (σc, σm) D := so_k rfl rfl rfl (fun _ _ _ => rfl) (fun _ _ _ => rfl) (fun j i h1 h2 h3 h4 => hJ.2.2.1 j i (by omega) (by omega) (by rcases (show j = 19 ∨ j = 20 ∨ j = 21 by omega) with e | e | e <;> subst e; exact h4 (by decide); exact h4 (by decide); exact h3))
  have each : ∀ D, Par (m_runs N σ x c) (fun _ σ' => So (σc, σm) D → gI σ' 55 = 2 → ∃ v, v < uN σm ∧ gI σ' 54 = nI v ∧ D.2.2.2.2 (100 + v) 0) := fun D => by
    by_cases hD : So (σc, σm) D
    · have hD2 : So (σc, σ) D := by rw [hSo D]; exact hD
      have := is_runs (x := x) (c := c) hN p1 hOB2 hUB2 p2 hD2 hl39 hR hAL (kq_rf σ) rfl
      rw [eu] at this
      exact this.mono (fun _ σ' z _ => z)
    · exact fun _ _ _ h => absurd h hD
  refine (par_all each).mono (fun _ σ' z h2 => ?_)
  obtain ⟨v, v1, v2, -⟩ := z Dt (so_t _) h2
  refine ⟨v, v1, v2, fun D hD => ?_⟩
  obtain ⟨v', w1, w2, w3⟩ := z D hD h2
  have u40 : uN σm ≤ 40 := by
    obtain ⟨a, u, -, -, f3, f4, -⟩ := hUB
    rw [uN_of f3 f4]
    exact f4
  have : v' = v := (nI_eq (by omega) (by omega)).mp (w2.symm.trans v2)
  rw [← this]
  exact w3
/-- a run of the class tells what every run of the reference gives -/
theorem c_trial {N : Nat} {σc σm σ5 : St} {x c : Int32} (hN : 8589934592 ≤ N) (hS : SCx σc σm) (hM : MI σm) (h39 : ¬ gI σm 39 = -1) (hOB : OB σm) (hUB : UB σm) (hK : Kc σc σ5) (hx : ¬ crv N σm x = 0) : Par (x6_go N σ5 x c) (fun rc σ6 => ∃ (f : Int32) (A : Nat), gI σ6 1510 = f ∧ gI σ6 1509 = nI A ∧ A < 2 ^ 31 ∧ (∀ σ, JM σm σ → ∀ c', (∀ j, j < A → cbit c j = cbit c' j) → Par (m_runs N σ x c') (fun _ σ' => gI σ' 55 = rc ∧ gI σ' 54 = f)) ∧ (rc = 2 → ∃ v, v < uN σm ∧ f = nI v ∧ ∀ D, So (σc, σm) D → D.2.2.2.2 (100 + v) 0)) := by
  intro rc σ6 e
  have one : ∀ σ, JM σm σ → ∃ u2 σ2, m_runs N σ x c = some (u2, σ2) ∧ RZ σ6 σ2 ∧ rc = gI σ6 1511 ∧ ∃ A, gI σ2 53 = nI A ∧ A < 2 ^ 31 ∧ ∀ c', (∀ j, j < A → cbit c j = cbit c' j) → m_runs N σ x c' = some (u2, σ2) := fun σ hJ => by
    obtain ⟨u2, σ2, e2, -⟩ := jm_runs hN (x := x) (c := c) h39 hJ
    have h39' : ¬ gI σ 39 = -1 := by rw [hJ.2.1]; exact h39
    obtain ⟨z1, z2⟩ := r_go1 hN (sc_k hS hK hJ) hJ.2.2.2.2 h39' rc σ6 u2 σ2 e e2
    obtain ⟨A, a1, -, a2, a3⟩ := pc_runs hN (x := x) (c := c) hJ.2.2.2.2 h39' (kq_rf σ) rfl u2 σ2 e2
    exact ⟨u2, σ2, e2, z1, z2, A, a1, a2, a3⟩
  obtain ⟨u0, σ0, e0, ⟨y1, y2, y3, y4, y5, y6⟩, yr, A, a1, a2, -⟩ := one σm (jm_r hM)
  refine ⟨gI σ6 1510, A, rfl, y5.trans a1, a2, fun σ hJ c' hc => ?_, fun h2 => ?_⟩
  · obtain ⟨u2, σ2, e2, ⟨w1, w2, w3, w4, w5, w6⟩, wr, A2, b1, b2, b3⟩ := one σ hJ
    have eA : A2 = A := (nI_eq b2 a2).mp (b1.symm.trans (w5.symm.trans (y5.trans a1)))
    subst eA
    intro u3 σ3 e3
    rw [b3 c' hc] at e3
    cases e3
    exact ⟨w2.symm.trans wr.symm, w6.symm⟩
  · obtain ⟨v, v1, v2, v3⟩ := nd_runs (x := x) (c := c) hN hS hM h39 hOB hUB (jm_r hM) hx u0 σ0 e0 (y2.symm.trans (yr.symm.trans h2))
    exact ⟨v, v1, y6.trans v2, v3⟩
theorem cb_same {c A i : Nat} (hA : A < 8) (hc : c + i * 2 ^ A < 256) : ∀ j, j < A → cbit (nI c) j = cbit (nI (c + i * 2 ^ A)) j := by
  intro j hj
  have e : nI j - nI j / 8 * 8 = nI j := by
    rcases (show j = 0 ∨ j = 1 ∨ j = 2 ∨ j = 3 ∨ j = 4 ∨ j = 5 ∨ j = 6 by omega) with e | e | e | e | e | e | e <;> subst e <;> decide
  unfold cbit
  rw [e, shr_n (by omega) (by omega), shr_n (by omega) (by omega), and1b, and1b, tb_n, tb_n]
  have h2 : (c + i * 2 ^ A) / 2 ^ j = c / 2 ^ j + 2 * (i * 2 ^ (A - j - 1)) := by
    have h3 : 2 ^ A = 2 ^ j * (2 * 2 ^ (A - j - 1)) := by
      rw [← Nat.pow_succ', ← Nat.pow_add]
      congr 1
      omega
    have h4 : i * 2 ^ A = 2 ^ j * (2 * (i * 2 ^ (A - j - 1))) := by
      rw [h3]
      ac_rfl
    rw [h4, Nat.add_mul_div_left _ _ (Nat.pow_pos (by decide))]
  rw [h2]
  simp only [BitVec.getLsbD_ofNat, Nat.testBit_zero, Nat.add_mul_mod_self_left]
theorem n_tri0 : ∀ x, x < 16 → ∀ c, c < 256 → nI (256 * x + c) / 256 = nI x ∧ nI (256 * x + c) - nI (256 * x + c) / 256 * 256 = nI c := by decide +kernel
theorem n_tri (T : Nat) (h : T < 4096) : nI T / 256 = nI (T / 256) ∧ nI T - nI T / 256 * 256 = nI (T % 256) := by
  have h2 := n_tri0 (T / 256) (by omega) (T % 256) (Nat.mod_lt _ (by decide))
  rw [show 256 * (T / 256) + T % 256 = T by omega] at h2
  exact h2
/-- row 21 alone changes, where a run is the same -/
theorem c_skip {N : Nat} {σ0 : St} {x A c0 : Nat} (hA : A < 8) (h9 : gI σ0 1509 = nI A) : ∀ (n i : Nat) (σ : St), (∀ j, j ≠ 21 → gA σ j = gA σ0 j) → (∀ k, gI σ k = gI σ0 k) → Kc σ0 σ → (∀ c, c < 256 → gA σ 21 c = gA σ0 21 c ∨ (gA σ 21 c = nI x ∧ ∃ i, c = c0 + i * 2 ^ A)) → c0 + i * 2 ^ A < 1000 → Par (x9_skipTheSame_14 N n σ (nI x) (nI (c0 + i * 2 ^ A))) (fun _ σ' => (∀ j, j ≠ 21 → gA σ' j = gA σ0 j) ∧ (∀ k, gI σ' k = gI σ0 k) ∧ Kc σ0 σ' ∧ ∀ c, c < 256 → gA σ' 21 c = gA σ0 21 c ∨ (gA σ' 21 c = nI x ∧ ∃ i, c = c0 + i * 2 ^ A)) := by
  intro n
  induction n with
  | zero => intro i σ _ _ _ _ _ r σ' e; cases e
  | succ n ih =>
    intro i σ h1 h2 h3 h4 h5
    show Par (x9_skipTheSame_14_b N (x9_skipTheSame_14 N n) σ (nI x) (nI (c0 + i * 2 ^ A))) _
    unfold x9_skipTheSame_14_b
    refine par_if (fun _ => par_some ⟨h1, h2, h3, h4⟩) (fun z => ?_)
    have z2 : c0 + i * 2 ^ A < 256 := Classical.byContradiction (fun y => z (nI_le (a := 256) (by omega) (by omega)))
    refine par_bd (c_put (j := 21) (i := c0 + i * 2 ^ A) (show c0 + i * 2 ^ A < 256 from z2)) (fun _ σ2 y => ?_)
    subst y
    have hp : 2 ^ A ≤ 128 := by
      rcases (show A = 0 ∨ A = 1 ∨ A = 2 ∨ A = 3 ∨ A = 4 ∨ A = 5 ∨ A = 6 ∨ A = 7 by omega) with e | e | e | e | e | e | e | e <;> subst e <;> decide
    have es : (i + 1) * 2 ^ A = i * 2 ^ A + 2 ^ A := Nat.succ_mul _ _
    rw [show gI (sA σ 21 (c0 + i * 2 ^ A) (nI x)) 1509 = nI A from (h2 1509).trans h9, shl_c (by omega), nI_add, show c0 + i * 2 ^ A + 2 ^ A = c0 + (i + 1) * 2 ^ A by omega]
    refine ih (i + 1) _ (fun j hj => ?_) (fun k => h2 k) (kc_A h3 (by decide)) (fun c hc => ?_) (by omega)
    · rw [gA_sA, if_neg hj]
      exact h1 j hj
    · rw [gA_sA, if_pos rfl]
      by_cases e : c = c0 + i * 2 ^ A
      · rw [e, pk_us]
        exact Or.inr ⟨rfl, i, rfl⟩
      · rw [pk_un e]
        exact h4 c hc
theorem cnb_ins {f g : Nat → Bool} {w : Nat} (hf : f w = false) (hg : g w = true) (ho : ∀ i, i ≠ w → g i = f i) : ∀ n, w < n → cnb g n = cnb f n + 1
  | 0, h => absurd h (Nat.not_lt_zero w)
  | n + 1, h => by
    show cnb g n + (if g n = true then 1 else 0) = cnb f n + (if f n = true then 1 else 0) + 1
    rcases (show w = n ∨ w < n by omega) with e | e
    · subst e
      have same : ∀ m, m ≤ w → cnb g m = cnb f m := by
        intro m
        induction m with
        | zero => intro _; rfl
        | succ m ih =>
          intro hm
          show cnb g m + (if g m = true then 1 else 0) = cnb f m + (if f m = true then 1 else 0)
          rw [ih (by omega), ho m (by omega)]
      rw [same w (Nat.le_refl _), hf, hg, if_pos rfl, if_neg (by decide)]
    · rw [cnb_ins hf hg ho n e, ho n (by omega)]
      omega
/-- what is known ahead of trial T -/
def fd (σ : St) (w : Nat) : Bool := decide (¬ gA σ 20 w = -1)
def LQ (N : Nat) (σc σm : St) (bt : Nat → Bool) (T : Nat) (σ : St) : Prop := Kc σc σ ∧ (∀ w, w < 40 → (gA σ 20 w = -1 ∧ ∀ T', T' < T → NWx N σm w T') ∨ (∃ T0, T0 < T ∧ gA σ 20 w = nI T0 ∧ FW N σm w T0 ∧ ∀ T', T' < T0 → NWx N σm w T')) ∧ (∀ c x, c < 256 → x < 16 → gA σ 21 c = nI x → ∃ T0, T0 < T ∧ ∀ w, NWx N σm w T0 → NWx N σm w (256 * x + c)) ∧ (∀ w, w < 40 → fd σ w = true → w < uN σm ∧ bt w = true) ∧ gI σ 1905 = nI (cnb bt (uN σm) - cnb (fd σ) (uN σm))
/-- rows and numbers of the trials stay -/
def Ky (s0 σ : St) : Prop := gA σ 20 = gA s0 20 ∧ gA σ 21 = gA s0 21 ∧ gI σ 1904 = gI s0 1904 ∧ gI σ 1905 = gI s0 1905
theorem lq_k {N : Nat} {σc σm σ σ' : St} {bt : Nat → Bool} {T : Nat} (h : LQ N σc σm bt T σ) (hc : Kc σc σ') (hk : Ky σ σ') : LQ N σc σm bt T σ' := by
  obtain ⟨h1, h2, h3, h4, h5⟩ := h
  obtain ⟨k1, k2, k3, k4⟩ := hk
  have ef : fd σ' = fd σ := by
    unfold fd
    rw [k1]
  refine ⟨hc, ?_, ?_, ?_, ?_⟩
  · rw [k1]; exact h2
  · rw [k2]; exact h3
  · rw [ef]; exact h4
  · rw [ef, k4]; exact h5
/-- the next trial does not fail where nothing has failed yet -/
theorem lq_next {N : Nat} {σc σm σ : St} {bt : Nat → Bool} {T : Nat} (h : LQ N σc σm bt T σ) (hn : ∀ w, w < 40 → gA σ 20 w = -1 → (∀ T', T' < T → NWx N σm w T') → NWx N σm w T) : LQ N σc σm bt (T + 1) σ := by
  obtain ⟨h1, h2, h3, h4, h5⟩ := h
  refine ⟨h1, fun w hw => ?_, fun c x hc hx e => ?_, h4, h5⟩
  · rcases h2 w hw with ⟨e1, e2⟩ | ⟨T0, e0, e1⟩
    · refine Or.inl ⟨e1, fun T' hT' => ?_⟩
      rcases (show T' = T ∨ T' < T by omega) with e | e
      · rw [e]; exact hn w hw e1 e2
      · exact e2 T' e
    · exact Or.inr ⟨T0, by omega, e1⟩
  · obtain ⟨T0, t1, t2⟩ := h3 c x hc hx e
    exact ⟨T0, by omega, t2⟩
