/-! outer, and what every other call leaves of LT -/
theorem lt_keep {σc σm σc' σm' : St} (hL : LT σc σm) (hI : ∀ k, (k < 900 ∨ 3000 ≤ k) → gI σc' k = gI σc k) (hA : ∀ j, (j < 8 ∨ 30 ≤ j) → gA σc' j = gA σc j) (hP : ∀ k, k < 900 → gP σc' k = gP σc k) (mI : ∀ k, k < 40 → k ≠ 0 → gI σm' k = gI σm k) (mA : ∀ j, j < 40 → gA σm' j = gA σm j) : LT σc' σm' := by
  obtain ⟨l1, l2, l3, l4, l5, l6, l7, ⟨T0, l8⟩, l9⟩ := hL
  have g7 := pr_or l6
  refine ⟨?_, ?_, ?_, ?_, ?_, ?_, ?_, ⟨T0, ?_⟩, ?_⟩
  · rw [hA 1 (by omega), mA 1 (by omega)]; exact l1
  · rw [mA 1 (by omega)]; exact l2
  · rw [hI 5 (by omega), mI 10 (by omega) (by decide)]; exact l3
  · rw [hI 6 (by omega), mI 11 (by omega) (by decide)]; exact l4
  · rw [hP 3 (by omega)]; exact l5
  · rw [hP 700 (by omega)]; exact l6
  · rw [hP 3 (by omega), hP 700 (by omega)]; exact l7
  · rw [hP 700 (by omega)]
    exact br_same l8 (hI _ (by omega)) (hI _ (by omega)) (hA _ (by omega)) (fun r _ => ⟨by rw [mA 19 (by omega)], by rw [mA 20 (by omega)]⟩)
  · rw [hI 701 (by omega), mI 39 (by omega) (by decide)]; exact l9
theorem lt_kr {σc σm σc' σm' : St} (hL : LT σc σm) (hc : Kr σc σc') (hm : Kn σm σm') : LT σc' σm' := lt_keep hL hc.1 (fun j hj => hc.2.1 j (by omega)) hc.2.2 hm.1 (fun j hj => hm.2 j (by omega))
theorem lt_k {σc σm σc' σm' : St} (hL : LT σc σm) (hc : Kc σc σc') (hm : Km σm σm') : LT σc' σm' := lt_kr hL (kr_c hc) (kn_m hm)
theorem kc_r (σ : St) : Kc σ σ := ⟨fun _ _ => rfl, fun _ _ => rfl, fun _ _ => rfl⟩
theorem km_r (σ : St) : Km σ σ := ⟨fun _ _ _ => rfl, fun _ _ => rfl⟩
theorem r_outer {N : Nat} {σc σm : St} {a1 a2 : Int32} (hL : LT σc σm) (hM : gI σm 39 = -1 ∨ ∃ l : Nat, l ≤ 7 ∧ gI σm 39 = nI l ∧ ¬ gA σm 19 l = -1) : R2 (x10_outer N σc a1 a2) (m_outer N σm a1 a2) (fun rc σc' rm σm' => rc = rm ∧ LT σc' σm') := by
  obtain ⟨l1, l2, l3, l4, l5, l6, l7, ⟨T0, l8⟩, l9⟩ := id hL
  have g7 := pr_or l6
  obtain ⟨t1, t2, t3, t4⟩ := id l8
  unfold x10_outer m_outer
  by_cases cn : a1 < 0
  · rw [if_pos cn]
    by_cases c9 : gI σm 39 = -1
    · rw [if_pos c9]
      exact r2_some ⟨rfl, lt_z hL⟩
    · rw [if_neg c9, if_pos cn]
      exact r2_some ⟨rfl, lt_z hL⟩
  rw [if_neg cn]
  by_cases c9 : gI σm 39 = -1
  · have c7 : gI σc 701 = -1 := l9.trans c9
    have ea : x5_at N σc (gP σc 700 + 4) (gI σc 701) = some (0, σc) := by
      unfold x5_at
      rw [c7, if_pos (by decide)]
    have eh : x3_has N σc (gP σc 700) (gI σc 701) = some (0, σc) := by
      unfold x3_has
      rw [c7, if_pos (by decide)]
    have e1 : x7_outers N σc = some (0, σc) := by
      unfold x7_outers
      rw [l6, gd_t, ea, bd_s, l6, gd_t, eh, bd_s, if_pos rfl]
      rfl
    rw [e1, bd_s, if_pos (Int32.not_lt.mp cn), if_pos c9]
    exact r2_some ⟨rfl, lt_z hL⟩
  obtain ⟨l, hl, hl1, hl2⟩ := hM.resolve_left c9
  have ct := (t4 l (by omega)).1.mpr hl2
  obtain ⟨m, hm, hm1, hm2⟩ := (t4 l (by omega)).2 ct
  clear t4
  have c7 : gI σc 701 = nI l := l9.trans hl1
  have po : Par (x7_outers N σc) (fun r σ' => σ' = σc ∧ r = nI m) := by
    unfold x7_outers
    refine par_gd (fun _ => par_bd (P := fun r σ' => σ' = σc ∧ r = nI m) ?_ (fun r2 σ3 z => ?_))
    · rw [c7]
      have hlen : l < lenC (gP σc 700 + 4) := by
        rcases g7 with h | h
        · rw [h]; show l < 8; omega
        · rw [h]; show l < 8; omega
      exact (c_at hlen).mono (fun r σ' z => ⟨z.1, z.2.trans hm1⟩)
    · obtain ⟨z1, z2⟩ := z
      rw [z1, z2, c7]
      refine par_gd (fun _ => ?_)
      rw [c_has l6 t2 t1 (by omega : l < 8), bd_s, if_pos ct, if_neg (show ¬ (1 : Int32) = 0 by decide)]
      unfold x7_outers_33
      exact par_some ⟨rfl, if_neg (show ¬ (4 : Int32) < nI m from nI_nlt (a := 4) (by omega) (by decide))⟩
  rw [if_neg c9, if_neg cn, hl1, nI_clamp (by omega), hm2]
  refine r2_bdL po (fun r1 σ2 z => ?_)
  obtain ⟨z1, z2⟩ := z
  rw [z1, z2]
  refine r2_gdR (fun _ => ?_)
  by_cases c1 : nI m ≤ a1
  · rw [if_pos c1, if_pos c1]
    exact r2_some ⟨rfl, lt_z hL⟩
  rw [if_neg c1, if_neg c1]
  by_cases c2 : a2 < 1
  · rw [if_pos c2, if_pos c2]
    exact r2_some ⟨rfl, lt_z hL⟩
  rw [if_neg c2, if_neg c2]
  by_cases c3 : a2 ≤ 3
  · rw [if_pos c3, if_pos c3]
    refine r2_bdL (P := fun _ σ' => (∀ k, gI σ' k = gI σc k) ∧ (∀ j, j ≠ 8 → gA σ' j = gA σc j) ∧ (∀ k, gP σ' k = gP σc k)) ?_ (fun _ σ4 z => ?_)
    · unfold x5_put
      exact par_if (fun _ => par_some ⟨fun _ => rfl, fun _ _ => rfl, fun _ => rfl⟩) (fun _ => par_gd (fun _ => par_if (fun _ => par_some ⟨fun _ => rfl, fun _ _ => rfl, fun _ => rfl⟩) (fun _ => par_gd (fun _ => par_some ⟨fun _ => rfl, fun j hj => by rw [gA_sA, if_neg hj], fun _ => rfl⟩))))
    · unfold x10_forget
      rw [bd_s]
      refine r2_gdR (fun _ => r2_some ⟨rfl, lt_keep hL ?_ ?_ ?_ ?_ ?_⟩)
      · exact fun k hk => by rw [gI_ne (by omega), gI_ne (by omega), gI_ne (by omega), z.1]
      · exact fun j hj => z.2.1 j (by omega)
      · exact fun k _ => z.2.2 k
      · exact fun k _ h2 => (show gI (sI σm 0 0) k = gI σm k from gI_ne (fun y => h2 y.symm))
      · exact fun j hj => by rw [gA_sA, if_neg (by omega)]; rfl
  · rw [if_neg c3, if_neg c3]
    exact r2_some ⟨rfl, lt_z hL⟩
