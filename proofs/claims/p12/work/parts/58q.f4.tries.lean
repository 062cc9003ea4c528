/-! tries: both sides answer alike; what the class keeps of its trials is the scene's -/
def CAx (N : Nat) (σc σm : St) : Prop := Cq σc σc ∧ OB σm ∧ (gI σc 1904 = 0 → ∀ w, w < 40 → TR N σm w (gA σc 20 w))
theorem bt_of {x : Int32} (hx : x = nI x.toNatClampNeg) (h4 : x.toNatClampNeg < 4) (h : x.toNatClampNeg.testBit 0 = true) : ¬ x &&& 1 = 0 := by
  generalize x.toNatClampNeg = t at *
  subst hx
  rcases (show t = 0 ∨ t = 1 ∨ t = 2 ∨ t = 3 by omega) with e | e | e | e <;> subst e <;> first | decide | exact absurd h (by decide)
theorem r_tries {N : Nat} {σc σm : St} {a1 : Int32} (hN : 8589934592 ≤ N) (hX : LX σc σm) (hM : MI σm) (hF : CF σc σm) (hU : UB σm) (hA : CAx N σc σm) : R2 (x10_tries N σc a1) (m_tries N σm a1) (fun rc σc' rm _ => rc = rm ∧ (gI σc' 1904 = 0 → ∀ w, w < 40 → TR N σm w (gA σc' 20 w))) := by
  obtain ⟨hq, hOB, hTR⟩ := hA
  obtain ⟨s, φ2, u, w, T2, -, -, -, -, -, ⟨u1, u2, u3, -⟩, -⟩ := hX.2.1
  have hg : isPr (gP σc 700) = true := hX.1.2.2.2.2.2.1
  have hgg := pr_or hg
  have eu : uN σm = u := uN_of u2 u3
  unfold x10_tries m_tries
  by_cases c1 : a1 < 0
  · rw [if_pos c1, if_pos c1]
    exact r2_some ⟨rfl, hTR⟩
  rw [if_neg c1, if_neg c1, hg, gd_t]
  refine r2_gdR (fun _ => ?_)
  rw [u1, show gA σm 26 ((0 : Int32).toNatClampNeg) = nI u from u2]
  by_cases c2 : a1 < nI u
  · rw [if_pos c2, if_pos c2]
    obtain ⟨t, t31, rfl⟩ := nI_of c1
    have ht : t < u := (nI_ltI t31 (by omega)).mp c2
    have h39 : ¬ gI σm 39 = -1 := by
      obtain ⟨a', u', w', -, -, m3, m4, -, -, -, -, m9, -⟩ := id hM
      have : u' = u := (nI_eq (by omega) (by omega)).mp (m3.symm.trans u2)
      exact m9 (by omega)
    refine r2_bdL ((c_settle0 hX hM hF).and ((cq_x1_settle (s0 := σc) hq).and (ky_x1_settle (ky_r σc)))) (fun _ σ3 z => ?_)
    obtain ⟨⟨z1, z2, -, z4⟩, z5, z6⟩ := z
    have e906 : gP σ3 906 = gP σc 700 := (z5 z2).trans (z1.2.2 700 (by decide))
    have hgu := c_guards (N := N) (u := u) (σ := σ3) (by rw [e906]; exact hg) (by rw [e906, z1.1 _ (by omega)]; exact u1) u3 N 0 (Nat.zero_le _)
    refine r2_bdL (show Par (x1_guardsNeeded N σ3) (fun r σ' => σ' = σ3 ∧ r = nI (cnb (fun w => decide (¬ gA σ3 13 w &&& 1 = 0)) u)) from by unfold x1_guardsNeeded; exact hgu) (fun r4 σ5 y => ?_)
    obtain ⟨y1, y2⟩ := y
    subst y1
    rw [y2, ← eu]
    have hbt : ∀ w, w < uN σm → (∀ D, So (σc, σm) D → D.2.2.2.2 (100 + w) 0) → (fun w => decide (¬ gA σ5 13 w &&& 1 = 0)) w = true := fun w hw hD => by
      have h701 : ¬ gI σc 701 = -1 := by rw [(sc_lx hX).2.1]; exact h39
      obtain ⟨c1', c2', -, -, c5⟩ := z4
      have hb := ((c5 h701).2.2 w 0 (by omega) (by decide)).mpr hD
      obtain ⟨n1, n2⟩ := c2' w (by omega)
      exact decide_eq_true (bt_of n1 n2 hb)
    refine r2_bdL (c_fillT hN (sc_lx hX) hM h39 hOB hU hbt z1 (fun e => by rw [z6.1]; exact hTR (z6.2.2.1.symm.trans e))) (fun _ σ7 x => ?_)
    obtain ⟨x1, x2, x3⟩ := x
    refine r2_bdL (c_at (j := 20) (i := t) (show t < 40 by omega)) (fun r8 σ9 v => ?_)
    obtain ⟨v1, v2⟩ := v
    subst v1
    intro rc σc' rm σm' f1 f2
    cases f1
    refine ⟨?_, fun _ => x3⟩
    have hr := m_tries_r hN hM h39 (show t < 40 by omega) (x3 t (by omega)) N (sI σm 0 0) 0 (jm_z hM) (by decide) (fun T _ _ => by omega) rm σm' f2
    rw [hr, v2]
  · rw [if_neg c2, if_neg c2]
    exact r2_some ⟨rfl, hTR⟩
/-- calls that leave trials and scene -/
theorem ca_k {N : Nat} (hN : 8589934592 ≤ N) {σc σm σc' σm' : St} (hM : MI σm) (h : CAx N σc σm) (hq : Cq σc σc') (hk : Ky σc σc') (hJ : JM σm σm') : CAx N σc' σm' := by
  obtain ⟨h1, h2, h3⟩ := h
  refine ⟨hq, ob_f hJ.1 (fun i hi => hJ.2.2.1 12 i (by decide) (by decide) hi) (fun i hi => hJ.2.2.1 13 i (by decide) (by decide) hi) (fun i hi => hJ.2.2.1 15 i (by decide) (by decide) hi) (fun i hi => hJ.2.2.1 19 i (by decide) (by decide) hi) h2, fun e w hw => ?_⟩
  rw [hk.1]
  exact tr_k hN hM hJ (h3 (hk.2.2.1.symm.trans e) w hw)
theorem ca_tries {N : Nat} (hN : 8589934592 ≤ N) {σc σm σc' σm' : St} (hM : MI σm) (h : CAx N σc σm) (hq : Cq σc σc') (hT : gI σc' 1904 = 0 → ∀ w, w < 40 → TR N σm w (gA σc' 20 w)) (hJ : JM σm σm') : CAx N σc' σm' := by
  obtain ⟨h1, h2, h3⟩ := h
  exact ⟨hq, ob_f hJ.1 (fun i hi => hJ.2.2.1 12 i (by decide) (by decide) hi) (fun i hi => hJ.2.2.1 13 i (by decide) (by decide) hi) (fun i hi => hJ.2.2.1 15 i (by decide) (by decide) hi) (fun i hi => hJ.2.2.1 19 i (by decide) (by decide) hi) h2, fun e w hw => tr_k hN hM hJ (hT e w hw)⟩
/-- calls that tell the trials to be stale, or leave all -/
theorem ca_or {N : Nat} (hN : 8589934592 ≤ N) {σc σm σc' σm' : St} {rc rm : Int32} (hM : MI σm) (hM' : MI σm') (hB : OB σm') (h : CAx N σc σm) (hc : (rc = 0 ∧ σc' = σc) ∨ (gI σc' 908 = 1 ∧ gI σc' 1904 = 1)) (hm : rm = 0 → σm' = sI σm 0 0) (hr : rc = rm) : CAx N σc' σm' := by
  rcases hc with ⟨e1, e2⟩ | ⟨e1, e2⟩
  · have e3 := hm (hr.symm.trans e1)
    subst e2
    subst e3
    exact ca_k hN hM h h.1 (ky_r _) (jm_z hM)
  · exact ⟨fun e => absurd (e1.symm.trans e) (by decide), hB, fun e => absurd (e2.symm.trans e) (by decide)⟩
theorem forget_2 {σ : St} : gI (sI (sI (sI σ 908 1) 1904 1) 2204 1) 1904 = 1 := by
  rw [gI_ne (by decide), gI_eq]
theorem c_entry_o {N : Nat} {σ : St} {a1 : Int32} : Par (x10_entry N σ a1) (fun r σ' => (r = 0 ∧ σ' = σ) ∨ (gI σ' 908 = 1 ∧ gI σ' 1904 = 1)) := by
  unfold x10_entry
  refine par_gd (fun _ => par_bd (P := fun _ σ' => σ' = σ) ?_ (fun r2 σ3 h => par_if (fun _ => par_some (Or.inl ⟨rfl, h⟩)) (fun _ => par_bd (P := fun _ _ => True) (fun _ _ _ => trivial) (fun _ σ5 _ => ?_))))
  · unfold x3_has
    exact par_if (fun _ => par_some rfl) (fun _ => par_if (fun _ => par_some rfl) (fun _ => par_gd (fun _ => par_if (fun _ => par_some rfl) (fun _ => par_some rfl))))
  · unfold x10_forget
    rw [bd_s]
    exact par_some (Or.inr ⟨forget_1, forget_2⟩)
theorem c_outer_o {N : Nat} {σ : St} {a1 a2 : Int32} : Par (x10_outer N σ a1 a2) (fun r σ' => (r = 0 ∧ σ' = σ) ∨ (gI σ' 908 = 1 ∧ gI σ' 1904 = 1)) := by
  have hx : ∀ y g, Par (x3_has N y g (gI y 701)) (fun _ σ' => σ' = y) := fun y g => by
    unfold x3_has
    exact par_if (fun _ => par_some rfl) (fun _ => par_if (fun _ => par_some rfl) (fun _ => par_gd (fun _ => par_if (fun _ => par_some rfl) (fun _ => par_some rfl))))
  unfold x10_outer
  refine par_if (fun _ => par_some (Or.inl ⟨rfl, rfl⟩)) (fun _ => par_bd (P := fun _ σ' => σ' = σ) ?_ (fun r1 σ2 h => par_if (fun _ => par_some (Or.inl ⟨rfl, h⟩)) (fun _ => par_if (fun _ => par_some (Or.inl ⟨rfl, h⟩)) (fun _ => par_if (fun _ => par_bd (P := fun _ _ => True) (fun _ _ _ => trivial) (fun _ σ4 _ => ?_)) (fun _ => par_some (Or.inl ⟨rfl, h⟩))))))
  · unfold x7_outers x7_outers_33
    refine par_gd (fun _ => par_bd x_at_id (fun r2 σ3 h => par_gd (fun _ => par_bd (hx σ3 _) (fun r5 σ6 h2 => par_if (fun _ => par_some (h2.trans h)) (fun _ => par_some (h2.trans h))))))
  · unfold x10_forget
    rw [bd_s]
    exact par_some (Or.inr ⟨forget_1, forget_2⟩)
theorem m_entry_o {N : Nat} {σ : St} {a1 : Int32} : Par (m_entry N σ a1) (fun r σ' => r = 0 → σ' = sI σ 0 0) := by
  unfold m_entry
  exact par_if (fun _ => par_some (fun _ => rfl)) (fun _ => par_if (fun _ => par_some (fun _ => rfl)) (fun _ => par_gd (fun _ => par_if (fun _ => par_some (fun _ => rfl)) (fun _ => par_bd (P := fun _ _ => True) (fun _ _ _ => trivial) (fun _ σ2 _ => par_some (fun e => absurd e (by decide)))))))
theorem m_outer_o {N : Nat} {σ : St} {a1 a2 : Int32} : Par (m_outer N σ a1 a2) (fun r σ' => r = 0 → σ' = sI σ 0 0) := by
  unfold m_outer
  exact par_if (fun _ => par_some (fun _ => rfl)) (fun _ => par_if (fun _ => par_some (fun _ => rfl)) (fun _ => par_gd (fun _ => par_if (fun _ => par_some (fun _ => rfl)) (fun _ => par_if (fun _ => par_some (fun _ => rfl)) (fun _ => par_if (fun _ => par_gd (fun _ => par_some (fun e => absurd e (by decide)))) (fun _ => par_some (fun _ => rfl)))))))
theorem ob_entry {N : Nat} (hN : 8589934592 ≤ N) {σm : St} {a1 : Int32} (h : OB σm) : Par (m_entry N σm a1) (fun _ σ' => OB σ') := by
  have hz : OB (sI σm 0 0) := ob_km (gI_ne (by decide)) (fun _ _ => rfl) h
  unfold m_entry
  exact par_if (fun _ => par_some hz) (fun _ => par_if (fun _ => par_some hz) (fun _ => par_gd (fun _ => par_if (fun _ => par_some hz) (fun _ => par_bd (s_enters hN).par (fun _ σ2 z => par_some (ob_km (z.2.1 18 (by decide)) (fun j hj => z.1 j (by omega)) hz))))))
theorem ob_outer {N : Nat} {σm : St} {a1 a2 : Int32} (h : OB σm) : Par (m_outer N σm a1 a2) (fun _ σ' => OB σ') := by
  have hz : OB (sI σm 0 0) := ob_km (gI_ne (by decide)) (fun _ _ => rfl) h
  unfold m_outer
  exact par_if (fun _ => par_some hz) (fun _ => par_if (fun _ => par_some hz) (fun _ => par_gd (fun _ => par_if (fun _ => par_some hz) (fun _ => par_if (fun _ => par_some hz) (fun _ => par_if (fun _ => par_gd (fun _ => par_some (ob_km (σ := sI σm 0 0) rfl (fun j hj => by rw [gA_sA, if_neg (by omega)]) hz))) (fun _ => par_some hz))))))
theorem ca_feed {N : Nat} (hN : 8589934592 ≤ N) {σc σm σc' σm' : St} {a1 a2 a3 a4 a5 rc rm : Int32} {q : Nat} (hX : LX σc σm) (c1' : gI σc 1 = nI q) (m2 : gI σm 2 = nI q) (hq : q ≤ 1200) (hM : MI σm) (hM' : MI σm') (h : CAx N σc σm) (e1 : x10_feed N σc a1 a2 a3 a4 a5 = some (rc, σc')) (e2 : m_feed N σm a1 a2 a3 a4 a5 = some (rm, σm')) : CAx N σc' σm' := by
  obtain ⟨z1, z2, z3, z4, z5, z6, z7⟩ := r_feed hX.1.1 hX.1.2.1 c1' m2 hq rc σc' rm σm' e1 e2
  exact ca_k hN hM h (cq_x10_feed (s0 := σc) h.1 rc σc' e1) (ky_x10_feed (ky_r σc) rc σc' e1) ⟨z7 18 (by decide) (by decide), z7 39 (by decide) (by decide), fun j i h1 _ _ => by rw [z6 j (by omega)], fun i _ => by rw [z6 40 (by decide)], hM'⟩
theorem ca_fault {N : Nat} (hN : 8589934592 ≤ N) {σc σm σc' σm' : St} {a1 rc rm : Int32} (hM : MI σm) (h : CAx N σc σm) (e1 : x10_fault N σc a1 = some (rc, σc')) (e2 : m_fault N σm a1 = some (rm, σm')) : CAx N σc' σm' := by
  have hm : Par (m_fault N σm a1) (fun _ σ' => σ' = sI σm 0 0) := by
    unfold m_fault
    exact par_if (fun _ => par_some rfl) (fun _ => par_if (fun _ => par_some rfl) (fun _ => par_some rfl))
  have := hm rm σm' e2
  subst this
  exact ca_k hN hM h (cq_x10_fault (s0 := σc) h.1 rc σc' e1) (ky_x10_fault (ky_r σc) rc σc' e1) (jm_z hM)
theorem ca_text {N : Nat} {σc σm : St} {a1 : Int32} {q : Nat} (hN : 8589934592 ≤ N) (hX : LX σc σm) (c1' : gI σc 1 = nI q) (m2 : gI σm 2 = nI q) (hq : q ≤ 1200) (hM : MI σm) (h : CAx N σc σm) : R2 (x10_text N σc a1) (m_text N σm a1) (fun _ σc' _ σm' => MI σm' → OB σm' → CAx N σc' σm') := by
  obtain ⟨hL, hY⟩ := hX
  obtain ⟨l1, l2, l3, l4, l5, l6, l7, -, l9⟩ := id hL
  have z0 : CAx N σc (sI σm 0 0) := ca_k hN hM h h.1 (ky_r _) (jm_z hM)
  unfold x10_text m_text
  rw [c1', m2]
  by_cases cn : a1 < 0
  · rw [if_pos cn, if_pos cn]
    exact r2_some (fun _ _ => z0)
  rw [if_neg cn, if_neg cn]
  by_cases cq : ¬ a1 ≤ nI q
  · rw [if_neg cq, if_neg cq]
    exact r2_some (fun _ _ => z0)
  have cq := Classical.not_not.mp cq
  rw [if_pos cq, if_pos cq]
  obtain ⟨n, hn31, rfl⟩ := nI_of cn
  have hn : n ≤ q := (nI_leI hn31 (by omega)).mp cq
  have hT : Tp (gA σm 1) n := ⟨l2, by omega⟩
  refine r2_bdL (c_scan (t := gA σm 1) (σ := sI σc 1 0) hT.1 l1 hT.2) (fun _ σ2 z => ?_)
  obtain ⟨z1, z2, z3, z4⟩ := z
  have hg3 : gP σ2 3 = gP σc 3 := z4 3
  rw [hg3]
  have g3 := pr_or l5
  have g7 := pr_or l6
  have hpar := r_parse (N := N) (σm := sI (sI (sI σm 0 0) 3 (nI n)) 2 0) hN hT l5 z1 ((gI_ne (by decide)).trans gI_eq) rfl
  have hbs := (s_parses (N := N) (σ := sI (sI (sI σm 0 0) 3 (nI n)) 2 0) hN (by rw [gI_ne (by decide), gI_eq, nI_t hn31]; omega) (by rw [gI_ne (by decide), gI_eq, nI_t hn31]; omega)).par
  refine r2_bd (r2_and hpar (ui_x4_readInto l5) hbs) (fun _ σ4 _ σ5 y => ?_)
  obtain ⟨y1, ⟨⟨u1, u2, u3, u4, u5⟩, u6, -⟩, ⟨b1, b2, -⟩, -⟩ := y
  have cI : ∀ k, ¬ tI (gP σc 3) k → k ≠ 1 → k ≠ 201 → k ≠ 202 → gI σ4 k = gI σc k := fun k h1 h2 h3 h4 => by rw [u3 k h1, z2 k h3 h4, gI_ne (fun y => h2 y.symm)]
  have cA : ∀ j, ¬ tA (gP σc 3) j → j ≠ 3 → gA σ4 j = gA σc j := fun j h1 h2 => by rw [u4 j h1, z3 j h2]; rfl
  have cP : ∀ k, k ≠ 403 → k ≠ 404 → gP σ4 k = gP σc k := fun k h1 h2 => by rw [u5 k h1 h2, z4 k]; rfl
  rcases y1 with hf | ⟨i, s, φ, ψ, u, w, T, hR⟩
  · rw [if_neg (fp_c hf), if_neg (fp_ne hf)]
    refine r2_some (fun hM' hB' => ⟨fun e => ?_, hB', fun e w hw => ?_⟩)
    · have e : gI σ4 908 = 0 := by rw [gI_ne (by decide), gI_ne (by decide)] at e; exact e
      show gP σ4 906 = gP σ4 700
      rw [cP 906 (by decide) (by decide), cP 700 (by decide) (by decide)]
      exact h.1 ((cI 908 (by unfold tI; omega) (by decide) (by decide) (by decide)).symm.trans e)
    · have e : gI σ4 1904 = 0 := by rw [gI_ne (by decide), gI_ne (by decide)] at e; exact e
      have r20 : gA (sI (sI σ4 5 (gI σ4 408)) 6 (gI σ4 409)) 20 = gA σc 20 := cA 20 (by unfold tA; omega) (by decide)
      rw [r20]
      have mI : ∀ k, 11 < k → k < 40 → k ≠ 17 → k ≠ 33 → k ≠ 34 → k ≠ 38 → gI (sI (sI σ5 10 (gI σ5 8)) 11 (gI σ5 9)) k = gI σm k := fun k h1 h2 h3 h4 h5 h6 => by
        rw [gI_ne (by omega), gI_ne (by omega), b2 k (by omega) h3 h4 h5 h6, gI_ne (by omega), gI_ne (by omega), gI_ne (by omega)]
      exact tr_k hN hM ⟨mI 18 (by decide) (by decide) (by decide) (by decide) (by decide) (by decide), mI 39 (by decide) (by decide) (by decide) (by decide) (by decide) (by decide), fun j i _ _ h3 => b1 j i h3, fun i hi => b1 40 i (show i < 1000000 by omega), hM'⟩ (h.2.2 ((cI 1904 (by unfold tI; omega) (by decide) (by decide) (by decide)).symm.trans e) w hw)
  · have h408 := hR.1.1.2.2.2
    rw [if_pos h408]
    refine r2_par (P1 := fun _ σ' => gI σ' 908 = 1 ∧ gI σ' 1904 = 1) (P2 := fun _ _ => True) (par_gd (fun _ => par_bd (P := fun _ _ => True) (fun _ _ _ => trivial) (fun _ σ7 _ => ?_))) (fun _ _ _ => trivial) (fun _ _ _ _ h1 _ _ hB => ⟨fun e => absurd (h1.1.symm.trans e) (by decide), hB, fun e => absurd (h1.2.symm.trans e) (by decide)⟩)
    unfold x10_forget
    rw [bd_s]
    exact par_gd (fun _ => par_some ⟨forget_1, forget_2⟩)
