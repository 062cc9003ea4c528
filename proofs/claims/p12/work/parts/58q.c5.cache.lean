/-! the class's FACTS, found or kept from before -/
theorem so_k {σc σm σc' σm' : St} (hP : gP σc' 700 = gP σc 700) (h701 : gI σc' 701 = gI σc 701) (h8 : gA σc' 8 = gA σc 8) (hI : ∀ k, 100 * gP σc 700 ≤ k → k < 100 * gP σc 700 + 200 → gI σc' k = gI σc k) (hA : ∀ j, gP σc 700 + 2 ≤ j → j ≤ gP σc 700 + 10 → gA σc' j = gA σc j) (hm : ∀ j i, 19 ≤ j → j ≤ 21 → i < 32 → (j < 21 → i < 8) → gA σm' j i = gA σm j i) : ∀ D, So (σc', σm') D = So (σc, σm) D := by
  have es : sE σc' = sE σc := by
    unfold sE
    rw [hP, hI _ (by omega) (by omega)]
  have el : lE σc' = lE σc := by unfold lE; rw [h701]
  have et : tE σc' = tE σc := by funext j; unfold tE; rw [h8]
  have ed : dn σc' (gP σc 700) = dn σc (gP σc 700) := by
    funext p q
    unfold dn rwD
    rw [hA _ (by omega) (by omega)]
  have r1 : (fun r => r < 8 ∧ ¬ gA σm' 19 r = -1) = (fun r => r < 8 ∧ ¬ gA σm 19 r = -1) := by
    funext r
    refine propext ⟨fun h => ⟨h.1, ?_⟩, fun h => ⟨h.1, ?_⟩⟩
    · rw [← hm 19 r (by decide) (by decide) (by omega) (fun _ => h.1)]; exact h.2
    · rw [hm 19 r (by decide) (by decide) (by omega) (fun _ => h.1)]; exact h.2
  have r3 : (fun r => if r < 8 then (gA σm' 20 r).toNatClampNeg else 0) = (fun r => if r < 8 then (gA σm 20 r).toNatClampNeg else 0) := by
    funext r
    by_cases c : r < 8
    · rw [if_pos c, if_pos c, hm 20 r (by decide) (by decide) (by omega) (fun _ => c)]
    · rw [if_neg c, if_neg c]
  have r4 : (fun r k => if r < 8 ∧ k < 4 then (gA σm' 21 (4 * r + k)).toNatClampNeg else 0) = (fun r k => if r < 8 ∧ k < 4 then (gA σm 21 (4 * r + k)).toNatClampNeg else 0) := by
    funext r k
    by_cases c : r < 8 ∧ k < 4
    · rw [if_pos c, if_pos c, hm 21 (4 * r + k) (by decide) (by decide) (by omega) (fun h => absurd h (by decide))]
    · rw [if_neg c, if_neg c]
  have eR : Rd (gP σc 700) σc' σm' = Rd (gP σc 700) σc σm := by
    unfold Rd
    rw [r1, r3, r4, hA (gP σc 700 + 3) (by omega) (by omega)]
  intro D
  show Sol σc' (gP σc' 700) (sE σc') (Rd (gP σc' 700) σc' σm') (lE σc') (tE σc') D = Sol σc (gP σc 700) (sE σc) (Rd (gP σc 700) σc σm) (lE σc) (tE σc) D
  rw [hP, es, el, et, eR]
  unfold Sol
  rw [ed]
theorem crr_so {s s' : St × St} {f g h : Nat → Int32} (h701 : gI s'.1 701 = gI s.1 701) (hS : ∀ D, So s' D = So s D) (k : CRr s f g h) : CRr s' f g h := by
  obtain ⟨k1, k2, k3, k4, k5⟩ := k
  refine ⟨k1, k2, k3, fun e => k4 (h701.symm.trans e), fun e => ?_⟩
  obtain ⟨a1, a2, a3⟩ := k5 (fun z => e (h701.trans z))
  refine ⟨fun m b hm hb => ?_, fun t b ht hb => ?_, fun u b hu hb => ?_⟩
  · rw [a1 m b hm hb]
    exact ⟨fun z D hD => z D (by rw [← hS]; exact hD), fun z D hD => z D (by rw [hS]; exact hD)⟩
  · rw [a2 t b ht hb]
    exact ⟨fun z D hD => z D (by rw [← hS]; exact hD), fun z D hD => z D (by rw [hS]; exact hD)⟩
  · rw [a3 u b hu hb]
    exact ⟨fun z D hD => z D (by rw [← hS]; exact hD), fun z D hD => z D (by rw [hS]; exact hD)⟩
/-- the class's FACTS are those of the scene, unless they are told to be stale or with marks held -/
def CF (σc σm : St) : Prop := gI σc 908 = 0 → gL σc 912 = 0 → CRr (σc, σm) (gA σc 12) (gA σc 13) (gA σc 14)
theorem so_kr {σc σm σc' σm' : St} (hg : isPr (gP σc 700) = true) (hc : Kr σc σc') (hm : ∀ j, 19 ≤ j → j ≤ 21 → gA σm' j = gA σm j) : ∀ D, So (σc', σm') D = So (σc, σm) D := by
  have g7 := pr_or hg
  exact so_k (hc.2.2 700 (by decide)) (hc.1 701 (by decide)) (hc.2.1 8 (by decide)) (fun k h1 h2 => hc.1 k (by omega)) (fun j h1 h2 => hc.2.1 j (by omega)) (fun j i h1 h2 _ _ => by rw [hm j h1 h2])
theorem cf_h {σc σm σc' σm' : St} (hg : isPr (gP σc 700) = true) (h : CF σc σm) (hc : Kr σc σc') (hk : Kh σc σc') (hm : ∀ j, 19 ≤ j → j ≤ 21 → gA σm' j = gA σm j) : CF σc' σm' := by
  obtain ⟨k1, k2, k3, k4, k5⟩ := hk
  intro e1 e2
  rw [k3, k4, k5]
  exact crr_so (hc.1 701 (by decide)) (so_kr hg hc hm) (h (k1.symm.trans e1) (k2.symm.trans e2))
/-- what a search goes through: the FACTS of the scene, or none -/
def Kf (s0 : St × St) (σ : St) : Prop := (LX s0.1 s0.2 ∧ MI s0.2) ∧ Kc s0.1 σ ∧ (gI σ 908 = 0 → gL σ 912 = 0 → CRr s0 (gA σ 12) (gA σ 13) (gA σ 14))
abbrev okA_kf (j : Nat) : Prop := (9 ≤ j ∧ j < 26) ∧ j ≠ 12 ∧ j ≠ 13 ∧ j ≠ 14
theorem kf_I {s0 : St × St} {σ : St} {k : Nat} {v : Int32} (h : Kf s0 σ) (hk : (900 ≤ k ∧ k < 3000) ∧ k ≠ 908) : Kf s0 (sI σ k v) := ⟨h.1, kc_I h.2.1 hk.1, fun e1 e2 => h.2.2 ((gI_ne hk.2).symm.trans e1) e2⟩
theorem kf_A {s0 : St × St} {σ : St} {j i : Nat} {v : Int32} (h : Kf s0 σ) (hk : okA_kf j) : Kf s0 (sA σ j i v) := by
  refine ⟨h.1, kc_A h.2.1 hk.1, fun e1 e2 => ?_⟩
  rw [gA_sA, if_neg (fun e => hk.2.1 e.symm), gA_sA, if_neg (fun e => hk.2.2.1 e.symm), gA_sA, if_neg (fun e => hk.2.2.2 e.symm)]
  exact h.2.2 e1 e2
theorem kf_P {s0 : St × St} {σ : St} {k : Nat} {v : Nat} (h : Kf s0 σ) (hk : 900 ≤ k) : Kf s0 (sP σ k v) := ⟨h.1, kc_P h.2.1 hk, h.2.2⟩
theorem kf_L {s0 : St × St} {σ : St} {k : Nat} {v : Int64} (h : Kf s0 σ) (hk : k ≠ 912) : Kf s0 (sL σ k v) := by
  refine ⟨h.1, kc_L h.2.1, fun e1 e2 => h.2.2 e1 ?_⟩
  have e2 : (if 912 = k then v else gL σ 912) = 0 := e2
  rw [if_neg (fun e => hk e.symm)] at e2
  exact e2
theorem kf_Z {s0 : St × St} {σ : St} {j i : Nat} {v : Int64} (h : Kf s0 σ) : Kf s0 (sZ σ j i v) := ⟨h.1, kc_Z h.2.1, h.2.2⟩
theorem km_refl (σ : St) : Km σ σ := ⟨fun _ _ _ => rfl, fun _ _ => rfl⟩
/-- from any state of the same scene -/
theorem c_17k {N : Nat} {s0 : St × St} {σ : St} (h : Kf s0 σ) : Par (x1_settle_17 N σ 0) (fun _ σ' => gI σ' 908 = 0 ∧ gL σ' 912 = 0 ∧ CRr s0 (gA σ' 12) (gA σ' 13) (gA σ' 14)) := by
  have hX := lx_k h.1.1 h.2.1 (km_refl s0.2)
  have hg : isPr (gP s0.1 700) = true := h.1.1.1.2.2.2.2.2.1
  obtain ⟨φ, T, hP⟩ := px_of hX h.1.2
  refine (c_17 hP).mono (fun _ σ' z => ⟨z.1, z.2.1, ?_⟩)
  have hS := so_kr (σm := s0.2) (σm' := s0.2) hg (kr_c h.2.1) (fun _ _ _ => rfl)
  exact crr_so (s := (σ, s0.2)) (h.2.1.1 701 (by decide)).symm (fun D => (hS D).symm) z.2.2
theorem kl_17 {N : Nat} {σ : St} {x : Int64} : Par (x1_settle_17 N σ x) (fun _ σ' => gL σ' 912 = x) := by
  unfold x1_settle_17
  refine par_bd (P := fun _ _ => True) (fun _ _ _ => trivial) (fun _ σ2 _ => par_bd (kl_x1_reachEntry (s0 := sL σ2 912 x) rfl) (fun _ σ4 h4 => ?_))
  refine (kl_x1_settle_37 N (sI σ4 909 1) 0 h4).mono (fun _ σ' z => ?_)
  have z : gL σ' 912 = gL (sL σ2 912 x) 912 := z
  rw [z]
  exact gL_e
theorem kf_x1_settle {N : Nat} {s0 : St × St} {σ : St} {a1 : Int64} (hU : Kf s0 σ) : Par (x1_settle N σ a1) (fun _ σ' => Kf s0 σ') := by
  have h17 : Par (x1_settle_17 N σ a1) (fun _ σ' => Kf s0 σ') := by
    have hk := kc_x1_settle_17 (N := N) (x1 := a1) hU.2.1
    by_cases c : a1 = 0
    · subst c
      exact (hk.and (c_17k hU)).mono (fun _ σ' z => ⟨hU.1, z.1, fun _ _ => z.2.2.2⟩)
    · exact (hk.and kl_17).mono (fun _ σ' z => ⟨hU.1, z.1, fun _ e => absurd (z.2.symm.trans e) c⟩)
  unfold x1_settle
  exact par_if (fun _ => par_if (fun _ => par_some hU) (fun _ => h17)) (fun _ => h17)
/-- nothing held: what is found, or was -/
theorem c_settle0 {N : Nat} {σc σm : St} (hX : LX σc σm) (hM : MI σm) (hF : CF σc σm) : Par (x1_settle N σc 0) (fun _ σ' => Kc σc σ' ∧ gI σ' 908 = 0 ∧ gL σ' 912 = 0 ∧ CRr (σc, σm) (gA σ' 12) (gA σ' 13) (gA σ' 14)) := by
  have h0 : Kf (σc, σm) σc := ⟨⟨hX, hM⟩, kc_r σc, hF⟩
  have h17 : Par (x1_settle_17 N σc 0) (fun _ σ' => Kc σc σ' ∧ gI σ' 908 = 0 ∧ gL σ' 912 = 0 ∧ CRr (σc, σm) (gA σ' 12) (gA σ' 13) (gA σ' 14)) := (kc_x1_settle_17 (N := N) (kc_r σc)).and (c_17k h0)
  unfold x1_settle
  exact par_if (fun e1 => par_if (fun e2 => par_some ⟨kc_r σc, e1, lgc.mp e2, hF e1 (lgc.mp e2)⟩) (fun _ => h17)) (fun _ => h17)
