/-! a routine's head, from end to end -/
/-- nothing of the code changes -/
theorem cod_same {g s : Nat} {φ ψ : Nat → Nat} {X X2 : Nat → Prop} {σc σm σc' σm' : St} (h : Cod g s φ ψ X σc σm) (hr : ∀ x, x < 12 * s → gA σc' (g + 2) x = gA σc (g + 2) x) (ha : ∀ j k, 12 ≤ j → j ≤ 16 → k < 1300 + φ s → gA σm' j k = gA σm j k) (hc : ∀ j k, 30 ≤ j → j ≤ 32 → k < ψ s → gA σm' j k = gA σm j k) (hX : ∀ p, p < s → X p → X2 p) : Cod g s φ ψ X2 σc' σm' := by
  have hd : ∀ p q, p < s → q < 12 → rwD g p σc' q = rwD g p σc q := fun p q hp hq => hr _ (by omega)
  refine ⟨h.1, h.2.1, fun p e => ?_⟩
  obtain ⟨ln, l1, l2, l3, l4, l5⟩ := h.2.2 p e
  have hm := cod_up h s (Nat.le_refl _) (p + 1) e
  have hA : ∀ k j, k < ln → j ≤ 4 → acF φ p σm' k j = acF φ p σm k j := fun k j hk hj => ha _ _ (by omega) (by omega) (by omega)
  refine ⟨ln, l1, l2, el_same (fun q hq => hd p q e (by omega)) hA l3, ⟨fun z => ?_, fun z => ?_⟩, cr_same (fun q hq => hd p q e (by omega)) (fun j h1 h2 h3 => hc j _ h1 h2 (by omega)) l5⟩
  · have z0 : rwD g p σc 0 = 1 := (hd p 0 e (by decide)).symm.trans z
    rcases l4.1 z0 with ⟨a1, q, a2, a3, a4, a5⟩ | ⟨a1, a2⟩
    · refine Or.inl ⟨(hA 0 2 l1 (by decide)).trans a1, q, a2, (hd p 10 e (by decide)).trans a3, (hd q 0 (by omega) (by decide)).trans a4, ?_⟩
      rw [hA 0 1 l1 (by decide)]
      exact a5
    · refine Or.inr ⟨(hA 0 2 l1 (by decide)).trans a1, ?_⟩
      rw [hA 0 1 l1 (by decide), hd p 10 e (by decide)]
      exact go_mono a2 (Nat.le_refl _) (fun _ _ => rfl) (hX p e)
  · have z0 : rwD g p σc 0 = 2 := (hd p 0 e (by decide)).symm.trans z
    have hln : ln = 2 := by
      rcases l3 with ⟨f, f2⟩ | ⟨f, -, f2⟩ | ⟨f, f2⟩ | ⟨f, f2⟩ | ⟨f, f2⟩ | ⟨f, f2⟩
      · exact f2
      · rw [z0] at f; exact absurd f (by decide)
      · exact f2
      · rcases f with ⟨f, -⟩ | ⟨f, -⟩ <;> (rw [z0] at f; exact absurd f (by decide))
      · have := f.1; rw [z0] at this; exact absurd this (by decide)
      · have := f.1; rw [z0] at this; exact absurd this (by decide)
    rw [hA 1 3 (by omega) (by decide), hd p 10 e (by decide)]
    exact go_mono (l4.2 z0) (Nat.le_refl _) (fun _ _ => rfl) (hX p e)
def Nx (t : Nat → Int32) (n g i : Nat) (rc : Int32) (σc σm : St) : Prop := (rc = 1 ∧ ∃ (i' s : Nat) (φ ψ : Nat → Nat) (b u w T : Nat), kQ t n i < kQ t n i' ∧ Rel t n g i' s φ ψ b u w T σc σm) ∨ (rc = 0 ∧ FP σc σm)
theorem r_head {t : Nat → Int32} {n g i s u w T N : Nat} {φ ψ : Nat → Nat} {σc σm : St} (hN : 8589934592 ≤ N) (hT : Tp t n) (hR : Rel t n g i s φ ψ 0 u w T σc σm) : R2 (x4_readHead N σc) (m_head N σm) (fun rc σc' _ σm' => Nx t n g i rc σc' σm') := by
  obtain ⟨r1, r2, r3, r4, r5, r6, r7, r8, r9⟩ := id hR
  have hi := r1.1.2.2.1
  have hg := r1.2.1.1
  have hgb := pg_b hg
  obtain ⟨t1, t2, t3, t4, t5, t6, t7⟩ := id r7
  unfold x4_readHead m_head
  by_cases k3 : kK t n i = 3
  · have hk0 : ¬ kK t n i = 0 := by rw [k3]; decide
    have h12 := tk_1200 hT hk0
    have hup := (kQ_up (t := t) (n := n) (i := i)).2.2 hk0
    have hC1 := mC_up hT r1 hk0
    obtain ⟨l, hl0, el, hl7⟩ := eL_b (q := kQ t n i) hT.1 hT.2
    have hl : l < 8 := by have := hl7 k3; omega
    have el2 : kL t n i = nI l := el
    rw [sc_takeY hT r1.1 k3, bd_s, if_neg (show ¬ (1 : Int32) = 0 by decide), r1.1.2.1, sc_letter hT hC1.1 (by omega), bd_s, hC1.2.1.2.1, hg, gd_t, el2]
    refine r2_bdR (sm_takenY hN hT r2.1 (k := 3) (Or.inr ⟨rfl, rfl⟩) k3) (fun r σ1 z => ?_)
    obtain ⟨rfl, z1, z2⟩ := z
    have hM1 := mM_tk r2 z2 z1
    rw [el2, if_pos z1.2.2.2.2.2, show (8 : Int32) + nI l = nI (8 + l) from nI_add 8 l, nI_clamp (by omega), z2.1 19]
    refine r2_gdR (fun _ => ?_)
    -- the letter is kept
    generalize eC : sI (sI σc 405 (nI (i + 1))) 407 (nI l) = σ2
    have cI : ∀ k, k ≠ 405 → k ≠ 407 → gI σ2 k = gI σc k := fun k q1 q2 => by rw [← eC, gI_ne (fun y => q2 y.symm), gI_ne (fun y => q1 y.symm)]
    have cA : ∀ j, gA σ2 j = gA σc j := fun j => by rw [← eC]; rfl
    have cP : ∀ k, gP σ2 k = gP σc k := fun k => by rw [← eC]; rfl
    have c407 : gI σ2 407 = nI l := by rw [← eC]; exact gI_eq
    have hC2 : MC t n g (i + 1) s σ2 := by
      rw [← eC]
      exact ⟨syC_same hC1.1 (gI_ne (by decide)) (gI_ne (by decide)) rfl (gI_ne (by decide)) (gI_ne (by decide)), hC1.2.1, (gI_ne (by omega)).trans hC1.2.2.1, hC1.2.2.2⟩
    rw [c_has hg ((cI _ (by omega) (by omega)).trans t2) t1 hl, bd_s]
    have t8 := (t7 l hl).1
    generalize eM : sI σ1 34 (nI l) = σ3
    have mI : ∀ k, k ≠ 34 → gI σ3 k = gI σ1 k := fun k q => by rw [← eM]; exact gI_ne (fun y => q y.symm)
    have mA : ∀ j, gA σ3 j = gA σ1 j := fun j => by rw [← eM]; rfl
    have m34 : gI σ3 34 = nI l := by rw [← eM]; exact gI_eq
    have hM3 : MM t n (i + 1) (φ s) (ψ s) σ3 := ⟨syM_same z1 (mA 1) (fun k _ _ => mI k (by omega)), (mI 17 (by decide)).trans hM1.2.1, hM1.2.2.1, (mI 33 (by decide)).trans hM1.2.2.2.1, hM1.2.2.2.2⟩
    have h8 := hM3.1.2.2.2.2.2
    have sg4 : sgP 4 40 := Or.inl ⟨rfl, rfl⟩
    have sg5 : sgP 5 41 := Or.inr (Or.inl ⟨rfl, rfl⟩)
    by_cases ct : T / 2 ^ l % 2 = 1
    · -- told already
      rw [if_pos ct, if_neg (show ¬ (1 : Int32) = 0 by decide), if_neg (t8.mp ct), sc_place hT hC2.1 (by omega), bd_s]
      unfold x4_refuse m_wrong m_head_46
      rw [bd_s, if_pos h8, bd_s, r2.1.2.2.2.1]
      have hfp : FP (sI (sI σ2 408 3) 409 (nI (kQ t n i))) (sI (sI σ3 8 3) 9 (nI (kQ t n i))) := fp_of (k := 3) (by decide) rfl rfl
      have hf := fp_ne hfp
      rw [ff_wants hf, bd_s, if_neg hf]
      refine r2_gdL (fun _ => r2_gdR (fun _ => ?_))
      intro rc σc' rm σm' e1 e2
      cases e1
      have q := ff_81 (σ := sA (sI (sI σ3 8 3) 9 (nI (kQ t n i))) 20 (nI (8 + l)).toNatClampNeg 0) hf _ _ e2
      exact Or.inr ⟨rfl, fp_m hfp q.1 q.2⟩
    · have c0 : T / 2 ^ l % 2 = 0 := by omega
      have rf : gA σm 19 (8 + l) = -1 := Classical.not_not.mp (fun z => ct (t8.mpr z))
      rw [if_neg ct, if_pos rfl, if_pos rf, hC2.2.1.2.1, hg, gd_t, c407]
      refine r2_bdL (c_addR (T := T) (s := s) hg hl t1 ((cI _ (by omega) (by omega)).trans t2) ((cI _ (by omega) (by omega)).trans t3) hC2.2.2.1) (fun _ σ4 y => ?_)
      obtain ⟨y1, y2, y3, y4, y5, y6, y7, y8⟩ := y
      have hC4 : MC t n g (i + 1) s σ4 := ⟨syC_same hC2.1 (y4 _ (by omega) (by omega) (by omega)) (y4 _ (by omega) (by omega) (by omega)) (y6 _ (by omega) (by omega)) (y4 _ (by omega) (by omega) (by omega)) (y4 _ (by omega) (by omega) (by omega)), ⟨hg, (y5 _).trans hC2.2.1.2.1, (y5 _).trans hC2.2.1.2.2⟩, (y4 _ (by omega) (by omega) (by omega)).trans hC2.2.2.1, hC2.2.2.2⟩
      unfold m_head_46
      by_cases k4 : kK t n (i + 1) = 4
      · have hk40 : ¬ kK t n (i + 1) = 0 := by rw [k4]; decide
        have h13 := tk_1200 hT hk40
        have hup1 := (kQ_up (t := t) (n := n) (i := i + 1)).2.2 hk40
        rw [sc_takeY hT hC4.1 k4, bd_s, if_neg (show ¬ (1 : Int32) = 0 by decide)]
        have hC5 := mC_up hT hC4 hk40
        refine r2_bdR (sm_wantsY hN hT hM3.1 sg4 k4) (fun _ σ5 x => ?_)
        obtain ⟨x1, x2⟩ := x
        have hM5 := mM_tk hM3 x2 x1
        rw [if_pos x1.2.2.2.2.2, nI_clamp (by omega)]
        refine r2_gdR (fun _ => ?_)
        generalize e6 : sA σ5 20 (8 + l) 0 = σ6
        have n20 : gA σ6 20 = upd (gA σ5 20) (8 + l) 0 := by rw [← e6, gA_sA, if_pos rfl]
        have nA : ∀ j, j ≠ 20 → gA σ6 j = gA σ5 j := fun j q => by rw [← e6, gA_sA, if_neg q]
        have nI6 : ∀ k, gI σ6 k = gI σ5 k := fun k => by rw [← e6]; rfl
        have hM6 : MM t n (i + 1 + 1) (φ s) (ψ s) σ6 := ⟨syM_same x1 (nA 1 (by decide)) (fun k _ _ => nI6 k), (nI6 17).trans hM5.2.1, hM5.2.2.1, (nI6 33).trans hM5.2.2.2.1, hM5.2.2.2.2⟩
        have hH : HL t n g (i + 1 + 1) s (φ s) (ψ s) l 0 σ4 σ6 (sI σ4 405 (nI (i + 1 + 1))) σ6 := ⟨hC5, hM6, fcH_n, ⟨fun _ _ => rfl, fun _ _ _ => rfl, fun _ _ => rfl, fun _ _ => rfl⟩, by show gA σ4 (g + 4) l = _; rw [y8, upd_eq]; rfl, by rw [n20, upd_eq]; rfl, fun k hk => absurd hk (Nat.not_lt_zero k), (gI_ne (by decide)).trans ((y4 _ (by omega) (by omega) (by omega)).trans c407), by decide⟩
        have kF : ∀ σc' σm', FP σc' σm' → R2 ((fun (r13 : Int32) (σ14 : St) => (if r13 = 0 then some ((0 : Int32), σ14) else bd (x4_openBlock N σ14 0 (-1)) (fun r15 σ16 => (if r15 = 0 then some (0, σ16) else some (1, σ16))))) 0 σc') (some ((), σm')) (fun rc σc' _ σm' => Nx t n g i rc σc' σm') := by
          intro σc' σm' hf
          show R2 (if (0 : Int32) = 0 then _ else _) _ _
          rw [if_pos rfl]
          exact r2_some (Or.inr ⟨rfl, hf⟩)
        have kE : ∀ i2 m σ7 σ8, HL t n g i2 s (φ s) (ψ s) l m σ4 σ6 σ7 σ8 → kQ t n (i + 1 + 1) ≤ kQ t n i2 → R2 (bd (x4_readParameters_133 N σ7) (fun (r13 : Int32) (σ14 : St) => (if r13 = 0 then some ((0 : Int32), σ14) else bd (x4_openBlock N σ14 0 (-1)) (fun r15 σ16 => (if r15 = 0 then some (0, σ16) else some (1, σ16)))))) (m_head_224 N σ8 (nI (8 + l))) (fun rc σc' _ σm' => Nx t n g i rc σc' σm') := by
          intro i2 m σ7 σ8 hH2 hq2
          obtain ⟨j1, j2, j3, j4, j5, j6, j7, j8, j9⟩ := id hH2
          unfold x4_readParameters_133 m_head_224
          by_cases k5 : kK t n i2 = 5
          · have hk50 : ¬ kK t n i2 = 0 := by rw [k5]; decide
            have hup5 := (kQ_up (t := t) (n := n) (i := i2)).2.2 hk50
            rw [sc_takeY hT j1.1 k5, bd_s]
            show R2 (bd (some ((1 : Int32), sI σ7 405 (nI (i2 + 1)))) _) _ _
            rw [bd_s, if_neg (show ¬ (1 : Int32) = 0 by decide)]
            have hC9 := mC_up hT j1 hk50
            refine r2_bdR (sm_wantsY hN hT j2.1 sg5 k5) (fun _ σ9 x => ?_)
            obtain ⟨p1, p2⟩ := x
            have b1 : gI (sI σ7 405 (nI (i2 + 1))) 406 = nI 0 := by rw [gI_ne (by decide), j3.1 406 (by decide), y4 406 (by omega) (by omega) (by omega), cI 406 (by decide) (by decide)]; exact r6.1
            have b2 : gI σ9 38 = nI 0 := by rw [p2.2.1 38 (by omega), j4.1 38 (by omega), nI6, x2.2.1 38 (by omega), mI 38 (by decide), z2.2.1 38 (by omega)]; exact r6.2.1
            refine r2_bd (r_open (b := 0) hN hT hC9.1 p1 b1 b2 (by decide)) (fun ro σa _ σb v => ?_)
            rcases v with ⟨rfl, v1, v2, v3, v4, v5, v6, v7, v8, v9, v10, v11, v12, v13, v14, v15, v16⟩ | ⟨rfl, v⟩
            · rw [if_neg (show ¬ (1 : Int32) = 0 by decide), nI_clamp (by omega), c1]
              have hk60 : ¬ kK t n (i2 + 1) = 0 := by rw [v2]; decide
              have hup6 := (kQ_up (t := t) (n := n) (i := i2 + 1)).2.2 hk60
              -- what the class has
              have gc : ∀ k, k ≠ 405 → k ≠ 406 → gI σa k = gI σ4 k := fun k q1 q2 => by rw [v12 k q1 q2, gI_ne (fun y => q1 y.symm), j3.1 k q1]
              have gp : ∀ k, gP σa k = gP σc k := fun k => by rw [v13]; show gP σ7 k = _; rw [j3.2.1, y5, cP]
              have ga : ∀ j, j ≠ 5 → j ≠ 6 → j ≠ g + 3 → j ≠ g + 4 → j ≠ g + 5 → gA σa j = gA σc j := fun j q1 q2 q3 q4 q5 => by
                rw [v14 j q1 q2]
                show gA σ7 j = _
                rw [j3.2.2.1 j q4 q5, y6 j q3 q4, cA]
              have ga3 : gA σa (g + 3) = upd (gA σc (g + 3)) l (nI s) := by
                rw [v14 _ (by omega) (by omega)]
                show gA σ7 (g + 3) = _
                rw [j3.2.2.1 _ (by omega) (by omega), y7, cA]
              have ga4 : ∀ x, x ≠ l → gA σa (g + 4) x = gA σc (g + 4) x := fun x hx => by
                rw [v14 _ (by omega) (by omega)]
                show gA σ7 (g + 4) x = _
                rw [j3.2.2.2.1 x hx, y8, upd_ne hx, cA]
              have ga5 : ∀ x, ¬ (4 * l ≤ x ∧ x < 4 * l + 4) → gA σa (g + 5) x = gA σc (g + 5) x := fun x hx => by
                rw [v14 _ (by omega) (by omega)]
                show gA σ7 (g + 5) x = _
                rw [j3.2.2.2.2 x hx, y6 _ (by omega) (by omega), cA]
              have gal4 : gA σa (g + 4) l = nI m := by rw [v14 _ (by omega) (by omega)]; exact j5
              have gal5 : ∀ k, k < m → gA σa (g + 5) (4 * l + k) = gA σ8 21 (32 + 4 * l + k) := fun k hk => by rw [v14 _ (by omega) (by omega)]; exact j7 k hk
              -- what the reference has, ahead of its last two rows
              have mb : ∀ j, j ≠ 20 → j ≠ 21 → j ≠ 35 → j ≠ 36 → j ≠ 37 → gA σb j = gA σm j := fun j q1 q2 q3 q4 q5 => by rw [v16 j q3 q4 q5, p2.1 j, j4.2.1 j q1 q2, nA j q1, x2.1 j, mA j, z2.1 j]
              have mb20 : ∀ x, x ≠ 8 + l → gA σb 20 x = gA σm 20 x := fun x hx => by rw [v16 20 (by decide) (by decide) (by decide), p2.1 20, j4.2.2.1 x hx, n20, upd_ne hx, x2.1 20, mA 20, z2.1 20]
              have mb21 : ∀ x, ¬ (32 + 4 * l ≤ x ∧ x < 32 + 4 * l + 4) → gA σb 21 x = gA σm 21 x := fun x hx => by rw [v16 21 (by decide) (by decide) (by decide), p2.1 21, j4.2.2.2 x hx, nA 21 (by decide), x2.1 21, mA 21, z2.1 21]
              have mbl : gA σb 20 (8 + l) = nI m := by rw [v16 20 (by decide) (by decide) (by decide), p2.1 20]; exact j6
              have mbl2 : ∀ x, gA σb 21 x = gA σ8 21 x := fun x => by rw [v16 21 (by decide) (by decide) (by decide), p2.1 21]
              have mi : ∀ k, (k < 4 ∨ 9 < k) → k ≠ 34 → k ≠ 38 → gI σb k = gI σm k := fun k q1 q2 q3 => by rw [v15 k q1 q3, p2.2.1 k q1, j4.1 k q1, nI6, x2.2.1 k q1, mI k q2, z2.2.1 k q1]
              have mi34 : gI σb 34 = nI l := by rw [v15 34 (by omega) (by decide), p2.2.1 34 (by omega), j4.1 34 (by omega), nI6, x2.2.1 34 (by omega)]; exact m34
              have mi17 : gI σb 17 = nI (φ s) := by rw [mi 17 (by omega) (by decide) (by decide)]; exact r2.2.1
              -- the last rows of the reference
              have fin : ∀ σe : St, (∀ k, gI σe k = gI σb k) → (∀ j, j ≠ 19 → j ≠ 22 → gA σe j = gA σb j) → gA σe 19 = upd (gA σb 19) (8 + l) (nI (φ s)) → gA σe 22 1 = (if T = 0 then nI l else gA σm 22 1) → Nx t n g i 1 σa σe := by
                intro σe ei ea e19 e22
                have hO := bt_o2 T t1 l hl
                refine Or.inl ⟨rfl, i2 + 1 + 1, s, φ, ψ, 1, u, w, T ||| 2 ^ l, by omega, ⟨v3, ⟨hg, (gp _).trans r1.2.1.2.1, (gp _).trans r1.2.1.2.2⟩, ?_, r1.2.2.2⟩, ⟨syM_same v4 (ea 1 (by decide) (by decide)) (fun k _ _ => ei k), (ei 17).trans mi17, r2.2.2.1, ?_, r2.2.2.2.2⟩, ?_, ?_, ⟨fun _ => ?_, ?_⟩, ⟨v5, (ei 38).trans v6, by decide, fun k hk => ?_⟩, ⟨hO.1, ?_, ?_, ?_, fun h => absurd h hO.2, fun _ => ?_, fun r hr => ?_⟩, ?_, ?_⟩
                · rw [gc _ (by omega) (by omega), y4 _ (by omega) (by omega) (by omega)]; exact hC2.2.2.1
                · rw [ei 33, mi 33 (by omega) (by decide) (by decide)]; exact r2.2.2.2.1
                · obtain ⟨u1, u2, u3, u4⟩ := r3
                  refine ⟨?_, ?_, u3, fun k hk => ?_⟩
                  · rw [gc _ (by omega) (by omega), y4 _ (by omega) (by omega) (by omega), cI _ (by omega) (by omega)]; exact u1
                  · rw [ea 26 (by decide) (by decide), mb 26 (by decide) (by decide) (by decide) (by decide) (by decide)]; exact u2
                  · rw [ga _ (by omega) (by omega) (by omega) (by omega) (by omega), ga _ (by omega) (by omega) (by omega) (by omega) (by omega), ga _ (by omega) (by omega) (by omega) (by omega) (by omega), ea 23 (by decide) (by decide), ea 24 (by decide) (by decide), ea 25 (by decide) (by decide), mb 23 (by decide) (by decide) (by decide) (by decide) (by decide), mb 24 (by decide) (by decide) (by decide) (by decide) (by decide), mb 25 (by decide) (by decide) (by decide) (by decide) (by decide)]
                    exact u4 k hk
                · refine tsR_same r4 ?_ (ga _ (by omega) (by omega) (by omega) (by omega) (by omega)) (ga _ (by omega) (by omega) (by omega) (by omega) (by omega)) (fun j h1 h2 => by rw [ea j (by omega) (by omega), mb j (by omega) (by omega) (by omega) (by omega) (by omega)])
                  rw [gc _ (by omega) (by omega), y4 _ (by omega) (by omega) (by omega), cI _ (by omega) (by omega)]
                · rw [gc 407 (by decide) (by decide), y4 407 (by omega) (by omega) (by omega), c407, ei 34, mi34]
                · have hs4 := r1.2.2.2
                  refine ⟨fun p hp => ?_, fun _ => ⟨l, (by rw [gc 407 (by decide) (by decide), y4 407 (by omega) (by omega) (by omega), c407]), fun p hp => ?_⟩⟩
                  · obtain ⟨l2, o1, o2, o3, o, o4, o5, o6⟩ := r5.2.1 p hp
                    have hne : l2 ≠ l := fun e => ct (by rw [← e]; exact o3)
                    refine ⟨l2, ?_, o2, (bt_o4 T t1 l hl l2 o2).mpr (Or.inr o3), o, ?_, o5, fun r hr hb o' h1 h3 h2 => ?_⟩
                    · show gA σa (g + 2) (12 * p + 11) = nI l2
                      rw [ga _ (by omega) (by omega) (by omega) (by omega) (by omega)]
                      exact o1
                    · rw [ga3, upd_ne hne]; exact o4
                    · rcases (bt_o4 T t1 l hl r hr).mp hb with e | e
                      · subst e
                        rw [ga3, upd_eq] at h2
                        have := (nI_eq (by omega) (by omega)).mp h2
                        exfalso
                        omega
                      · have hr2 : r ≠ l := fun e2 => ct (by rw [← e2]; exact e)
                        rw [ga3, upd_ne hr2] at h2
                        exact o6 r hr e o' h1 h3 h2
                  · refine ⟨hl, (bt_o4 T t1 l hl l hl).mpr (Or.inl rfl), s, by rw [ga3, upd_eq], hp, fun r hr hb o' h1 h3 h2 => ?_⟩
                    rcases (bt_o4 T t1 l hl r hr).mp hb with e | e
                    · subst e
                      rw [ga3, upd_eq] at h2
                      have := (nI_eq (by omega) (by omega)).mp h2
                      exact ⟨by omega, fun _ => rfl⟩
                    · have hr2 : r ≠ l := fun e2 => ct (by rw [← e2]; exact e)
                      rw [ga3, upd_ne hr2] at h2
                      obtain ⟨m2, p2, w1, w2, w3, w4, w5, w6, -⟩ := (t7 r hr).2 e
                      have := (nI_eq (by omega) (by omega)).mp (w6.symm.trans h2)
                      have := w3 rfl
                      exact ⟨by omega, fun e => by omega⟩
                · obtain rfl : k = 0 := by omega
                  rw [v7, ea 35 (by decide) (by decide), v9, upd_eq, upd_eq]
                  exact ⟨rfl, Or.inl ⟨rfl, rfl⟩⟩
                · rw [gc _ (by omega) (by omega)]; exact y1
                · rw [gc _ (by omega) (by omega), y2, bt_o1 T t1 l hl c0]
                · rw [gc _ (by omega) (by omega), y3, e22, cI _ (by omega) (by omega)]
                  by_cases cT : T = 0
                  · rw [if_pos ((bt_o3 T t1).mpr cT), if_pos cT]
                  · rw [if_neg (fun z => cT ((bt_o3 T t1).mp z)), if_neg cT]
                    exact t4
                · rw [e22]
                  by_cases cT : T = 0
                  · rw [if_pos cT]
                    intro z
                    have := congrArg Int32.toInt z
                    rw [nI_t (by omega)] at this
                    exact absurd this (by rw [show (-1 : Int32).toInt = -1 from rfl]; omega)
                  · rw [if_neg cT]; exact t6 cT
                · rw [bt_o4 T t1 l hl r hr]
                  by_cases cr : r = l
                  · subst cr
                    rw [e19, upd_eq]
                    refine ⟨⟨fun _ z => ?_, fun _ => Or.inl rfl⟩, fun _ => ⟨m, s, j9, Nat.le_refl _, fun h => absurd h (by decide), gal4, ?_, by rw [ga3, upd_eq], rfl, fun k hk => ?_⟩⟩
                    · have := congrArg Int32.toInt z
                      have hle := r2.2.2.1
                      rw [nI_t (by omega)] at this
                      exact absurd this (by rw [show (-1 : Int32).toInt = -1 from rfl]; omega)
                    · rw [ea 20 (by decide) (by decide)]; exact mbl
                    · rw [ea 21 (by decide) (by decide), gal5 k hk, mbl2]
                  · obtain ⟨q1, q2⟩ := t7 r hr
                    rw [e19, upd_ne (by omega), mb 19 (by decide) (by decide) (by decide) (by decide) (by decide)]
                    refine ⟨⟨fun z => q1.mp (z.resolve_left cr), fun z => Or.inr (q1.mpr z)⟩, fun z => ?_⟩
                    obtain ⟨m2, p, w1, w2, w3, w4, w5, w6, w7, w8⟩ := q2 (z.resolve_left cr)
                    clear q2 q1 z
                    refine ⟨m2, p, w1, w2, fun h => absurd h (by decide), by rw [ga4 r cr]; exact w4, ?_, by rw [ga3, upd_ne cr]; exact w6, w7, fun k hk => ?_⟩
                    · rw [ea 20 (by decide) (by decide), mb20 _ (by omega)]; exact w5
                    · rw [ea 21 (by decide) (by decide), mb21 _ (by omega), ga5 _ (by omega)]; exact w8 k hk
                · have hA2 : ∀ j, 12 ≤ j → j ≤ 16 → gA σe j = gA σm j := fun j h1 h2 => by rw [ea j (by omega) (by omega), mb j (by omega) (by omega) (by omega) (by omega) (by omega)]
                  have hA3 : ∀ j, 30 ≤ j → j ≤ 32 → gA σe j = gA σm j := fun j h1 h2 => by rw [ea j (by omega) (by omega), mb j (by omega) (by omega) (by omega) (by omega) (by omega)]
                  have hA4 : gA σa (g + 2) = gA σc (g + 2) := ga _ (by omega) (by omega) (by omega) (by omega) (by omega)
                  refine cod_same r8 (fun x _ => by rw [hA4]) (fun j k h1 h2 _ => by rw [hA2 j h1 h2]) (fun j k h1 h2 _ => by rw [hA3 j h1 h2]) (fun p _ h => ?_)
                  obtain ⟨k, k1, k2, -⟩ := h
                  omega
                · rw [v7]
                  show 4 * s + (0 + (if upd (gA (sI σ7 405 (nI (i2 + 1))) 5) 0 0 0 = 0 ∨ upd (gA (sI σ7 405 (nI (i2 + 1))) 5) 0 0 0 = 3 then 4 else 0)) ≤ _
                  rw [upd_eq, if_pos (Or.inl rfl)]
                  have h0 : 4 * s + 0 ≤ kQ t n i := r9
                  omega
              have e22m : gA σb 22 1 = gA σm 22 1 := by rw [mb 22 (by decide) (by decide) (by decide) (by decide) (by decide)]
              refine r2_gdR (fun _ => r2_gdR (fun _ => r2_ifR (fun zf => r2_gdR (fun _ => r2_some ?_)) (fun zf => r2_some ?_)))
              · have cT : T = 0 := Classical.not_not.mp (fun z => t6 z (e22m.symm.trans zf))
                refine fin _ (fun _ => rfl) (fun j q1 q2 => by rw [gA_sA, if_neg q2, gA_sA, if_neg q1]) (by rw [gA_sA, if_neg (by decide), gA_sA, if_pos rfl, mi17]) ?_
                rw [gA_sA, if_pos rfl, upd_eq, if_pos cT]
                exact mi34
              · have cT : ¬ T = 0 := fun z => zf (e22m.trans (t5 z))
                refine fin _ (fun _ => rfl) (fun j q1 q2 => by rw [gA_sA, if_neg q1]) (by rw [gA_sA, if_pos rfl, mi17]) ?_
                rw [gA_sA, if_neg (by decide), if_neg cT]
                exact e22m
            · rw [if_pos rfl]
              refine r2_gdR (fun _ => r2_gdR (fun _ => r2_ifR (fun _ => r2_gdR (fun _ => r2_some (Or.inr ⟨rfl, fp_m v rfl rfl⟩))) (fun _ => r2_some (Or.inr ⟨rfl, fp_m v rfl rfl⟩))))
          · rw [sc_takeN hT j1.1 k5, bd_s]
            show R2 (bd (some ((0 : Int32), sI (sI σ7 408 1) 409 (nI (kQ t n i2)))) _) _ _
            rw [bd_s, if_pos rfl, sm_wantsN j2.1 sg5 k5, bd_s]
            have hfp : FP (sI (sI σ7 408 1) 409 (nI (kQ t n i2))) (sI (sI σ8 8 1) 9 (nI (kQ t n i2))) := fp_of (k := 1) (by decide) rfl rfl
            rw [ff_opens (fp_ne hfp), bd_s]
            refine r2_gdR (fun _ => r2_gdR (fun _ => r2_ifR (fun _ => r2_gdR (fun _ => r2_some (Or.inr ⟨rfl, fp_m hfp rfl rfl⟩))) (fun _ => r2_some (Or.inr ⟨rfl, fp_m hfp rfl rfl⟩))))
        unfold x4_readParameters
        rw [sc_seen hT hC5.1, bd_s, sm_sign hM6.1 sg5, bd_s]
        by_cases k5 : kK t n (i + 1 + 1) = 5
        · rw [if_pos k5, if_neg (show ¬ (1 : Int32) = 0 by decide), if_neg (show ¬ (1 : Int32) = 0 by decide)]
          exact r2_81 (kE (i + 1 + 1) 0 _ _ hH (Nat.le_refl _))
        · rw [if_neg k5, if_pos rfl, if_pos rfl]
          exact r_pars hN hT hl (i + 1 + 1) kE kF N N (i + 1 + 1) 0 _ _ hH (Nat.le_refl _)
      · rw [sc_takeN hT hC4.1 k4, bd_s, if_pos rfl, sm_wantsN hM3.1 sg4 k4, bd_s]
        have hfp : FP (sI (sI σ4 408 1) 409 (nI (kQ t n (i + 1)))) (sI (sI σ3 8 1) 9 (nI (kQ t n (i + 1)))) := fp_of (k := 1) (by decide) rfl rfl
        have hf := fp_ne hfp
        rw [if_neg hf]
        refine r2_gdR (fun _ => ?_)
        intro rc σc' rm σm' e1 e2
        cases e1
        have q := ff_81 (σ := sA (sI (sI σ3 8 1) 9 (nI (kQ t n (i + 1)))) 20 (nI (8 + l)).toNatClampNeg 0) hf _ _ e2
        exact Or.inr ⟨rfl, fp_m hfp q.1 q.2⟩
  · rw [sc_takeN hT r1.1 k3, bd_s, if_pos rfl, sm_takenN r2.1 (k := 3) (Or.inr ⟨rfl, rfl⟩) k3, bd_s, if_neg (show ¬ gI (sI (sI σm 8 1) 9 (nI (kQ t n i))) 8 = 0 by rw [gI_ne (by decide), gI_eq]; decide)]
    exact r2_some (Or.inr ⟨rfl, fp_m (fp_of (σc := σc) (σm := σm) (k := 1) (by decide) rfl rfl) (gI_ne (by decide)) (gI_ne (by decide))⟩)
