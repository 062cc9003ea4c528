/-! the other calls: the class's FACTS stay those of the scene, or are told to be stale -/
theorem cf_or {σc σm σc' σm' : St} (h : CF σc σm) (hc : σc' = σc ∨ gI σc' 908 = 1) (hm : ∀ j, 19 ≤ j → j ≤ 21 → gA σm' j = gA σm j) : CF σc' σm' := by
  rcases hc with e | e
  · rw [e]
    intro e1 e2
    exact crr_so (s := (σc, σm)) rfl (so_k rfl rfl rfl (fun _ _ _ => rfl) (fun _ _ _ => rfl) (fun j i h1 h2 _ _ => by rw [hm j h1 h2])) (h e1 e2)
  · intro e1
    exact absurd (e.symm.trans e1) (by decide)
theorem forget_1 {σ : St} : gI (sI (sI (sI σ 908 1) 1904 1) 2204 1) 908 = 1 := by
  rw [gI_ne (by decide), gI_ne (by decide), gI_eq]
theorem c_entry_or {N : Nat} {σ : St} {a1 : Int32} : Par (x10_entry N σ a1) (fun _ σ' => σ' = σ ∨ gI σ' 908 = 1) := by
  unfold x10_entry
  refine par_gd (fun _ => par_bd (P := fun _ σ' => σ' = σ) ?_ (fun r2 σ3 h => par_if (fun _ => par_some (Or.inl h)) (fun _ => par_bd (P := fun _ _ => True) (fun _ _ _ => trivial) (fun _ σ5 _ => ?_))))
  · unfold x3_has
    exact par_if (fun _ => par_some rfl) (fun _ => par_if (fun _ => par_some rfl) (fun _ => par_gd (fun _ => par_if (fun _ => par_some rfl) (fun _ => par_some rfl))))
  · unfold x10_forget
    rw [bd_s]
    exact par_some (Or.inr forget_1)
theorem c_outer_or {N : Nat} {σ : St} {a1 a2 : Int32} : Par (x10_outer N σ a1 a2) (fun _ σ' => σ' = σ ∨ gI σ' 908 = 1) := by
  have hx : ∀ y g, Par (x3_has N y g (gI y 701)) (fun _ σ' => σ' = y) := fun y g => by
    unfold x3_has
    exact par_if (fun _ => par_some rfl) (fun _ => par_if (fun _ => par_some rfl) (fun _ => par_gd (fun _ => par_if (fun _ => par_some rfl) (fun _ => par_some rfl))))
  unfold x10_outer
  refine par_if (fun _ => par_some (Or.inl rfl)) (fun _ => par_bd (P := fun _ σ' => σ' = σ) ?_ (fun r1 σ2 h => par_if (fun _ => par_some (Or.inl h)) (fun _ => par_if (fun _ => par_some (Or.inl h)) (fun _ => par_if (fun _ => par_bd (P := fun _ _ => True) (fun _ _ _ => trivial) (fun _ σ4 _ => ?_)) (fun _ => par_some (Or.inl h))))))
  · unfold x7_outers x7_outers_33
    refine par_gd (fun _ => par_bd x_at_id (fun r2 σ3 h => par_gd (fun _ => par_bd (hx σ3 _) (fun r5 σ6 h2 => par_if (fun _ => par_some (h2.trans h)) (fun _ => par_some (h2.trans h))))))
  · unfold x10_forget
    rw [bd_s]
    exact par_some (Or.inr forget_1)
theorem m_entry_rows {N : Nat} (hN : 8589934592 ≤ N) {σ : St} {a1 : Int32} : Par (m_entry N σ a1) (fun _ σ' => ∀ j, j ≠ 40 → gA σ' j = gA σ j) := by
  unfold m_entry
  exact par_if (fun _ => par_some (fun _ _ => rfl)) (fun _ => par_if (fun _ => par_some (fun _ _ => rfl)) (fun _ => par_gd (fun _ => par_if (fun _ => par_some (fun _ _ => rfl)) (fun _ => par_bd (s_enters hN).par (fun _ σ2 z => par_some z.1)))))
theorem m_outer_rows {N : Nat} {σ : St} {a1 a2 : Int32} : Par (m_outer N σ a1 a2) (fun _ σ' => ∀ j, j ≠ 40 → gA σ' j = gA σ j) := by
  unfold m_outer
  exact par_if (fun _ => par_some (fun _ _ => rfl)) (fun _ => par_if (fun _ => par_some (fun _ _ => rfl)) (fun _ => par_gd (fun _ => par_if (fun _ => par_some (fun _ _ => rfl)) (fun _ => par_if (fun _ => par_some (fun _ _ => rfl)) (fun _ => par_if (fun _ => par_gd (fun _ => par_some (fun j hj => by rw [gA_sA, if_neg hj]; rfl))) (fun _ => par_some (fun _ _ => rfl)))))))
theorem cf_entry {N : Nat} (hN : 8589934592 ≤ N) {σc σm : St} {a1 : Int32} (h : CF σc σm) : R2 (x10_entry N σc a1) (m_entry N σm a1) (fun _ σc' _ σm' => CF σc' σm') := r2_par c_entry_or (m_entry_rows hN) (fun _ _ _ _ h1 h2 => cf_or h h1 (fun j h3 h4 => h2 j (by omega)))
theorem cf_outer {N : Nat} {σc σm : St} {a1 a2 : Int32} (h : CF σc σm) : R2 (x10_outer N σc a1 a2) (m_outer N σm a1 a2) (fun _ σc' _ σm' => CF σc' σm') := r2_par c_outer_or m_outer_rows (fun _ _ _ _ h1 h2 => cf_or h h1 (fun j h3 h4 => h2 j (by omega)))
theorem cf_fault {N : Nat} {σc σm : St} {a1 : Int32} (h : CF σc σm) : R2 (x10_fault N σc a1) (m_fault N σm a1) (fun _ σc' _ σm' => CF σc' σm') := by
  refine r2_par (P1 := fun _ σ' => σ' = σc) (P2 := fun _ σ' => ∀ j, gA σ' j = gA σm j) ?_ ?_ (fun _ _ _ _ h1 h2 => cf_or h (Or.inl h1) (fun j _ _ => h2 j))
  · unfold x10_fault
    exact par_if (fun _ => par_some rfl) (fun _ => par_if (fun _ => par_some rfl) (fun _ => par_some rfl))
  · unfold m_fault
    exact par_if (fun _ => par_some (fun _ => rfl)) (fun _ => par_if (fun _ => par_some (fun _ => rfl)) (fun _ => par_some (fun _ => rfl)))
theorem cf_feed {N : Nat} {σc σm : St} {a1 a2 a3 a4 a5 : Int32} {q : Nat} (hX : LX σc σm) (c1' : gI σc 1 = nI q) (m2 : gI σm 2 = nI q) (hq : q ≤ 1200) (h : CF σc σm) : R2 (x10_feed N σc a1 a2 a3 a4 a5) (m_feed N σm a1 a2 a3 a4 a5) (fun _ σc' _ σm' => CF σc' σm') := by
  have g7 := pr_or hX.1.2.2.2.2.2.1
  refine (r2_and (r_feed hX.1.1 hX.1.2.1 c1' m2 hq) (kh_x10_feed (kh_r σc)) (P2 := fun _ _ => True) (fun _ _ _ => trivial)).mono (fun _ σc' _ σm' z => ?_)
  obtain ⟨⟨z1, z2, z3, z4, z5, z6, z7⟩, ⟨k1, k2, k3, k4, k5⟩, -⟩ := z
  intro e1 e2
  rw [k3, k4, k5]
  exact crr_so (s := (σc, σm)) (z4 701 (by decide)) (so_k (z5 700) (z4 701 (by decide)) (z3 8 (by decide)) (fun k h1 _ => z4 k (by omega)) (fun j h1 _ => z3 j (by omega)) (fun j i h1 _ _ _ => by rw [z6 j (by omega)])) (h (k1.symm.trans e1) (k2.symm.trans e2))
theorem cf_text {N : Nat} {σc σm : St} {a1 : Int32} {q : Nat} (hN : 8589934592 ≤ N) (hX : LX σc σm) (c1' : gI σc 1 = nI q) (m2 : gI σm 2 = nI q) (hq : q ≤ 1200) (h : CF σc σm) : R2 (x10_text N σc a1) (m_text N σm a1) (fun _ σc' _ σm' => CF σc' σm') := by
  obtain ⟨hL, hY⟩ := hX
  obtain ⟨l1, l2, l3, l4, l5, l6, l7, -, l9⟩ := id hL
  have z0 : CF σc (sI σm 0 0) := cf_or h (Or.inl rfl) (fun _ _ _ => rfl)
  unfold x10_text m_text
  rw [c1', m2]
  by_cases cn : a1 < 0
  · rw [if_pos cn, if_pos cn]
    exact r2_some z0
  rw [if_neg cn, if_neg cn]
  by_cases cq : ¬ a1 ≤ nI q
  · rw [if_neg cq, if_neg cq]
    exact r2_some z0
  have cq := Classical.not_not.mp cq
  rw [if_pos cq, if_pos cq]
  obtain ⟨n, hn31, rfl⟩ := nI_of cn
  have hn : n ≤ q := (nI_leI hn31 (by omega)).mp cq
  have hT : Tp (gA σm 1) n := ⟨l2, by omega⟩
  refine r2_bdL ((c_scan (t := gA σm 1) (σ := sI σc 1 0) hT.1 l1 hT.2).and (kl_x8_scan (s0 := sI σc 1 0) rfl)) (fun _ σ2 z => ?_)
  obtain ⟨⟨z1, z2, z3, z4⟩, zl⟩ := z
  have hg3 : gP σ2 3 = gP σc 3 := z4 3
  rw [hg3]
  have g3 := pr_or l5
  have g7 := pr_or l6
  have hpar := r_parse (N := N) (σm := sI (sI (sI σm 0 0) 3 (nI n)) 2 0) hN hT l5 z1 ((gI_ne (by decide)).trans gI_eq) rfl
  have hbs := (s_parses (N := N) (σ := sI (sI (sI σm 0 0) 3 (nI n)) 2 0) hN (by rw [gI_ne (by decide), gI_eq, nI_t hn31]; omega) (by rw [gI_ne (by decide), gI_eq, nI_t hn31]; omega)).par
  refine r2_bd (r2_and hpar ((ui_x4_readInto l5).and (kl_x4_readInto (s0 := σ2) rfl)) hbs) (fun _ σ4 _ σ5 y => ?_)
  obtain ⟨y1, ⟨⟨⟨u1, u2, u3, u4, u5⟩, u6, -⟩, ul⟩, ⟨b1, b2, -⟩, -⟩ := y
  have cI : ∀ k, ¬ tI (gP σc 3) k → k ≠ 1 → k ≠ 201 → k ≠ 202 → gI σ4 k = gI σc k := fun k h1 h2 h3 h4 => by rw [u3 k h1, z2 k h3 h4, gI_ne (fun y => h2 y.symm)]
  have cA : ∀ j, ¬ tA (gP σc 3) j → j ≠ 3 → gA σ4 j = gA σc j := fun j h1 h2 => by rw [u4 j h1, z3 j h2]; rfl
  have cP : ∀ k, k ≠ 403 → k ≠ 404 → gP σ4 k = gP σc k := fun k h1 h2 => by rw [u5 k h1 h2, z4 k]; rfl
  have cL : gL σ4 912 = gL σc 912 := Eq.trans ul zl
  rcases y1 with hf | ⟨i, s, φ, ψ, u, w, T, hR⟩
  · rw [if_neg (fp_c hf), if_neg (fp_ne hf)]
    refine r2_some ?_
    intro e1 e2
    have e1 : gI σ4 908 = 0 := by rw [gI_ne (by decide), gI_ne (by decide)] at e1; exact e1
    have e2 : gL σ4 912 = 0 := e2
    have r12 : gA (sI (sI σ4 5 (gI σ4 408)) 6 (gI σ4 409)) 12 = gA σc 12 := cA 12 (by unfold tA; omega) (by decide)
    have r13 : gA (sI (sI σ4 5 (gI σ4 408)) 6 (gI σ4 409)) 13 = gA σc 13 := cA 13 (by unfold tA; omega) (by decide)
    have r14 : gA (sI (sI σ4 5 (gI σ4 408)) 6 (gI σ4 409)) 14 = gA σc 14 := cA 14 (by unfold tA; omega) (by decide)
    rw [r12, r13, r14]
    have h701 : gI (sI (sI σ4 5 (gI σ4 408)) 6 (gI σ4 409)) 701 = gI σc 701 := by
      rw [gI_ne (by decide), gI_ne (by decide)]
      exact cI 701 (by unfold tI; omega) (by decide) (by decide) (by decide)
    refine crr_so (s := (σc, σm)) h701 (so_k (cP 700 (by decide) (by decide)) h701 (cA 8 (by unfold tA; omega) (by decide)) (fun k k1 k2 => ?_) (fun j j1 j2 => ?_) (fun j i h1 h2 h3 h4 => ?_)) (h ((cI 908 (by unfold tI; omega) (by decide) (by decide) (by decide)).symm.trans e1) (cL.symm.trans e2))
    · rw [gI_ne (by omega), gI_ne (by omega)]
      exact cI k (by unfold tI; omega) (by omega) (by omega) (by omega)
    · exact cA j (by unfold tA; omega) (by omega)
    · show gA σ5 j i = gA σm j i
      rw [b1 j i ?_]
      · rfl
      · rcases (show j = 19 ∨ j = 20 ∨ j = 21 by omega) with e | e | e <;> subst e
        · exact h4 (by decide)
        · exact h4 (by decide)
        · exact h3
  · have h408 := hR.1.1.2.2.2
    rw [if_pos h408]
    refine r2_par (P1 := fun _ σ' => gI σ' 908 = 1) (P2 := fun _ _ => True) (par_gd (fun _ => par_bd (P := fun _ _ => True) (fun _ _ _ => trivial) (fun _ σ7 _ => ?_))) (fun _ _ _ => trivial) (fun _ _ _ _ h1 _ e => absurd (h1.symm.trans e) (by decide))
    unfold x10_forget
    rw [bd_s]
    exact par_gd (fun _ => par_some forget_1)
theorem cf_mend {N : Nat} {σc σm σc' σm' : St} {rc : Int32} (hX : LX σc σm) (hM : MI σm) (h : CF σc σm) (e : x10_mend N σc = some (rc, σc')) (hm : Km σm σm') : CF σc' σm' := by
  have k := kf_x10_mend (N := N) (s0 := (σc, σm)) ⟨⟨hX, hM⟩, kc_r σc, h⟩ rc σc' e
  exact fun e1 e2 => crr_so (s := (σc, σm)) (k.2.1.1 701 (by decide)) (so_kr hX.1.2.2.2.2.2.1 (kr_c k.2.1) (fun j _ h2 => hm.2 j (by omega))) (k.2.2 e1 e2)
theorem cf_tries {N : Nat} {σc σm σc' σm' : St} {a1 rc : Int32} (hX : LX σc σm) (hM : MI σm) (h : CF σc σm) (e : x10_tries N σc a1 = some (rc, σc')) (hm : Km σm σm') : CF σc' σm' := by
  have k := kf_x10_tries (N := N) (s0 := (σc, σm)) ⟨⟨hX, hM⟩, kc_r σc, h⟩ rc σc' e
  exact fun e1 e2 => crr_so (s := (σc, σm)) (k.2.1.1 701 (by decide)) (so_kr hX.1.2.2.2.2.2.1 (kr_c k.2.1) (fun j _ h2 => hm.2 j (by omega))) (k.2.2 e1 e2)
/-- use and count: what they leave of the class's FACTS -/
theorem cq_use {N : Nat} {σc σm : St} {a1 a2 : Int32} (hX : LX σc σm) (hM : MI σm) (hF : CF σc σm) : Par (x10_use N σc a1 a2) (fun _ σ' => CQ σc σm σ') := by
  have hv : ∀ y x, Par (x10_verdictOfUse N y x) (fun _ σ' => σ' = y) := fun y x => by
    unfold x10_verdictOfUse
    exact par_if (fun _ => par_some rfl) (fun _ => par_if (fun _ => par_some rfl) (fun _ => par_if (fun _ => par_some rfl) (fun _ => par_some rfl)))
  unfold x10_use
  refine par_if (fun _ => par_some (Or.inr rfl)) (fun _ => par_gd (fun _ => par_if (fun _ => par_if (fun _ => ?_) (fun _ => par_if (fun _ => ?_) (fun _ => par_if (fun _ => ?_) (fun _ => par_if (fun _ => ?_) (fun _ => par_some (Or.inr rfl)))))) (fun _ => par_some (Or.inr rfl))))
  · refine par_bd (c_settle0 hX hM hF) (fun _ σ4 z => par_bd x_at_id (fun r5 σ6 h => par_bd (hv σ6 r5) (fun r7 σ8 h2 => par_some ?_)))
    rw [h2, h]
    exact Or.inl z.2.2.2
  · exact par_bd x_at_id (fun r5 σ6 h => par_some (Or.inr h))
  · exact par_bd x_at_id (fun r5 σ6 h => par_some (Or.inr h))
  · exact par_bd x_at_id (fun r5 σ6 h => par_some (Or.inr h))
theorem cq_count {N : Nat} {σc σm : St} {a1 : Int32} (hX : LX σc σm) (hM : MI σm) (hF : CF σc σm) : Par (x10_count N σc a1) (fun _ σ' => CQ σc σm σ') := by
  have lp : ∀ (f : Nat) (σ : St) (x1 x2 x3 : Int32), Par (x10_usesOfFact_12 N f σ x1 x2 x3) (fun _ σ' => σ' = σ) := by
    intro f
    induction f with
    | zero => intro σ x1 x2 x3 r σ' e; cases e
    | succ f ih =>
      intro σ x1 x2 x3
      show Par (x10_usesOfFact_12_b N (x10_usesOfFact_12 N f) σ x1 x2 x3) _
      unfold x10_usesOfFact_12_b x10_usesOfFact_44
      refine par_gd (fun _ => par_if (fun _ => par_some rfl) (fun _ => par_bd x_at_id (fun r σ5 h => ?_)))
      rw [h]
      exact par_if (fun _ => ih σ _ _ _) (fun _ => ih σ _ _ _)
  have us : ∀ x, Par (x10_usesOfFact N σc x) (fun _ σ' => CQ σc σm σ') := fun x => by
    unfold x10_usesOfFact
    refine par_bd (c_settle0 hX hM hF) (fun _ σ4 z => (lp N σ4 x 0 0).mono (fun _ σ' h => ?_))
    rw [h]
    exact Or.inl z.2.2.2
  unfold x10_count
  refine par_if (fun _ => par_gd (fun _ => par_some (Or.inr rfl))) (fun _ => par_if (fun _ => par_gd (fun _ => par_some (Or.inr rfl))) (fun _ => par_if (fun _ => par_gd (fun _ => par_some (Or.inr rfl))) (fun _ => par_if (fun _ => par_some (Or.inr rfl)) (fun _ => par_if (fun _ => ?_) (fun _ => par_if (fun _ => ?_) (fun _ => par_some (Or.inr rfl)))))))
  · exact par_bd (us 3) (fun _ _ h => par_some h)
  · exact par_bd (us 1) (fun _ _ h => par_some h)
