/-! if and while -/
def FcB (g s : Nat) (σ σ' : St) : Prop := (∀ k, k ≠ 405 → k ≠ 406 → k ≠ 100 * g + 12 → k ≠ 100 * (g + 1) + 1 → gI σ' k = gI σ k) ∧ (∀ k, gP σ' k = gP σ k) ∧ (∀ j, j ≠ g + 2 → j ≠ g + 9 → j ≠ g + 10 → j ≠ 5 → j ≠ 6 → gA σ' j = gA σ j) ∧ (∀ x, x < 12 * s → gA σ' (g + 2) x = gA σ (g + 2) x)
theorem fcB_tr {g s : Nat} {σ σ1 σ2 : St} (h : FcB g s σ σ1) (h2 : FcB g s σ1 σ2) : FcB g s σ σ2 := ⟨fun k a b c d => (h2.1 k a b c d).trans (h.1 k a b c d), fun k => (h2.2.1 k).trans (h.2.1 k), fun j a b c d e => (h2.2.2.1 j a b c d e).trans (h.2.2.1 j a b c d e), fun x a => (h2.2.2.2 x a).trans (h.2.2.2 x a)⟩
def FmB (a : Nat) (σ σ' : St) : Prop := (∀ k, (k < 4 ∨ 9 < k) → k ≠ 17 → k ≠ 38 → gI σ' k = gI σ k) ∧ (∀ j, ¬ (12 ≤ j ∧ j ≤ 15) → ¬ (27 ≤ j ∧ j ≤ 29) → ¬ (35 ≤ j ∧ j ≤ 37) → gA σ' j = gA σ j) ∧ (∀ j k, 12 ≤ j → j ≤ 15 → k < 1300 + a → gA σ' j k = gA σ j k)
theorem fmB_tr {a : Nat} {σ σ1 σ2 : St} (h : FmB a σ σ1) (h2 : FmB a σ1 σ2) : FmB a σ σ2 := ⟨fun k b d e => (h2.1 k b d e).trans (h.1 k b d e), fun j b d e => (h2.2.1 j b d e).trans (h.2.1 j b d e), fun j k b d e => (h2.2.2 j k b d e).trans (h.2.2 j k b d e)⟩
theorem fmB_tk {a : Nat} {σ σ' : St} (h : Tk σ σ') : FmB a σ σ' := ⟨fun k b _ _ => h.2.1 k b, fun j _ _ _ => h.1 j, fun j k _ _ _ => by rw [h.1 j]⟩
theorem fmB_em {a a2 : Nat} {σ σ' : St} {x y z w : Int32} (h : gA σ' = emA (gA σ) a2 x y z w) (hI : ∀ k, k ≠ 17 → gI σ' k = gI σ k) (ha : a ≤ a2) : FmB a σ σ' := ⟨fun k _ e _ => hI k e, fun j b _ _ => by rw [h]; exact emA_o (by omega), fun j k _ _ e => by rw [h]; exact emA_ge (by omega)⟩
def BE (w : Nat) (d : Nat → Int32) (A : Nat → Nat → Int32) : Prop := d 0 = 2 ∧ A 0 0 = 0 ∧ ((d 4 = 1 ∧ A 1 0 = 12) ∨ (d 4 = 6 ∧ A 1 0 = 10 ∧ A 1 1 = d 1) ∨ (d 4 = 7 ∧ A 1 0 = 11 ∧ A 1 1 = d 1)) ∧ A 1 2 = d 3 ∧ d 3 = nI w
def BrQ (t : Nat → Int32) (n g i0 s a c u w b d0 : Nat) (kd : Int32) (X : Int32 → Int32) (σc0 σm0 : St) (rc : Int32) (σc σm : St) : Prop := (rc = 1 ∧ ∃ i : Nat, b < 6 ∧ MC t n g i (s + 1) σc ∧ MM t n i (a + 2) c σm ∧ UsR g u σc σm ∧ TsR g (w + 1) σc σm ∧ gI σc 406 = nI (b + 1) ∧ gI σm 38 = nI (b + 1) ∧ gA σc 5 = upd (gA σc0 5) b kd ∧ gA σc 6 = upd (gA σc0 6) b (nI s) ∧ gA σm 35 = upd (gA σm0 35) b kd ∧ gA σm 36 = upd (gA σm0 36) b (nI (a + 1)) ∧ gA σm 37 = upd (gA σm0 37) b (X (nI (a + 1))) ∧ FcB g s σc0 σc ∧ FmB a σm0 σm ∧ BE w (rwD g s σc) (fun k => acE (a + k) σm) ∧ rwD g s σc 11 = gI σc0 407 ∧ kQ t n i0 + d0 ≤ kQ t n i) ∨ (rc = 0 ∧ FP σc σm)
theorem br_fin {t : Nat → Int32} {n g i0 j s a c u w b d0 N : Nat} {kd : Int32} {X : Int32 → Int32} {σc0 σm0 σc σm : St} (hN : 8589934592 ≤ N) (hT : Tp t n) (hC : MC t n g j (s + 1) σc) (hM : MM t n j (a + 2) c σm) (hU : UsR g u σc σm) (hW : TsR g (w + 1) σc σm) (b1 : gI σc 406 = nI b) (b2 : gI σm 38 = nI b) (hb : b ≤ 6) (hc : FcB g s σc0 σc) (hm : FmB a σm0 σm) (a5 : gA σc 5 = gA σc0 5) (a6 : gA σc 6 = gA σc0 6) (a35 : gA σm 35 = gA σm0 35) (a36 : gA σm 36 = gA σm0 36) (a37 : gA σm 37 = gA σm0 37) (hE : BE w (rwD g s σc) (fun k => acE (a + k) σm)) (hO : rwD g s σc 11 = gI σc0 407) (hq : kQ t n i0 + d0 ≤ kQ t n j + 1) : R2 (x4_readBranch_158 N σc kd (nI s)) (bd (m_opens N σm kd (nI (a + 1)) (X (nI (a + 1)))) (fun _ σ24 => some ((), σ24))) (fun rc σc' _ σm' => BrQ t n g i0 s a c u w b d0 kd X σc0 σm0 rc σc' σm') := by
  have hg := hC.2.1.1
  have hgb := pg_b hg
  unfold x4_readBranch_158
  refine r2_bd (r_open hN hT hC.1 hM.1 b1 b2 hb) (fun r σ1 _ σ2 z => ?_)
  rcases z with ⟨rfl, z1, z2, z3, z4, z5, z6, z7, z8, z9, z10, z11, z12, z13, z14, z15, z16⟩ | ⟨rfl, z⟩
  · rw [if_neg (show ¬ (1 : Int32) = 0 by decide)]
    have hk0 : ¬ kK t n j = 0 := by rw [z2]; decide
    have hup := (kQ_up (t := t) (n := n) (i := j)).2.2 hk0
    have rw1 : rwD g s σ1 = rwD g s σc := by unfold rwD; rw [z14 (g + 2) (by omega) (by omega)]
    have ac1 : ∀ k j', j' ≤ 4 → acE k σ2 j' = acE k σm j' := fun k j' hj => by unfold acE; rw [z16 (12 + j') (by omega) (by omega) (by omega)]
    refine r2_some (Or.inl ⟨rfl, j + 1, z1, ⟨z3, ⟨hg, (z13 _).trans hC.2.1.2.1, (z13 _).trans hC.2.1.2.2⟩, (z12 _ (by omega) (by omega)).trans hC.2.2.1, hC.2.2.2⟩, ⟨z4, (z15 17 (by omega) (by decide)).trans hM.2.1, hM.2.2.1, (z15 33 (by omega) (by decide)).trans hM.2.2.2.1, hM.2.2.2.2⟩, ?_, ?_, z5, z6, by rw [z7, a5], by rw [z8, a6], by rw [z9, a35], by rw [z10, a36], by rw [z11, a37], fcB_tr hc ⟨fun k k1 k2 _ _ => z12 k k1 k2, z13, fun j' _ _ _ j4 j5 => z14 j' j4 j5, fun x _ => by rw [z14 (g + 2) (by omega) (by omega)]⟩, fmB_tr hm ⟨fun k k1 _ k3 => z15 k k1 k3, fun j' _ _ j3 => z16 j' (by omega) (by omega) (by omega), fun j' k h1 h2 _ => by rw [z16 j' (by omega) (by omega) (by omega)]⟩, ?_, by rw [rw1]; exact hO, by omega⟩)
    · obtain ⟨u1, u2, u3, u4⟩ := hU
      refine ⟨(z12 _ (by omega) (by omega)).trans u1, by rw [z16 26 (by decide) (by decide) (by decide)]; exact u2, u3, fun k hk => ?_⟩
      rw [z14 (g + 6) (by omega) (by omega), z14 (g + 7) (by omega) (by omega), z14 (g + 8) (by omega) (by omega), z16 23 (by decide) (by decide) (by decide), z16 24 (by decide) (by decide) (by decide), z16 25 (by decide) (by decide) (by decide)]
      exact u4 k hk
    · obtain ⟨u1, u2, u3, u4⟩ := hW
      refine ⟨(z12 _ (by omega) (by omega)).trans u1, by rw [z16 29 (by decide) (by decide) (by decide)]; exact u2, u3, fun k hk => ?_⟩
      rw [z14 (g + 9) (by omega) (by omega), z14 (g + 10) (by omega) (by omega), z16 27 (by decide) (by decide) (by decide), z16 28 (by decide) (by decide) (by decide)]
      exact u4 k hk
    · rw [rw1]
      obtain ⟨E1, E2, E3, E4, E5⟩ := hE
      refine ⟨E1, (ac1 (a + 0) 0 (by decide)).trans E2, ?_, (ac1 (a + 1) 2 (by decide)).trans E4, E5⟩
      rcases E3 with ⟨q1, q2⟩ | ⟨q1, q2, q3⟩ | ⟨q1, q2, q3⟩
      · exact Or.inl ⟨q1, (ac1 (a + 1) 0 (by decide)).trans q2⟩
      · exact Or.inr (Or.inl ⟨q1, (ac1 (a + 1) 0 (by decide)).trans q2, (ac1 (a + 1) 1 (by decide)).trans q3⟩)
      · exact Or.inr (Or.inr ⟨q1, (ac1 (a + 1) 0 (by decide)).trans q2, (ac1 (a + 1) 1 (by decide)).trans q3⟩)
  · rw [if_pos rfl]
    exact r2_some (Or.inr ⟨rfl, z⟩)
theorem r_branch {t : Nat → Int32} {n g i s a c u w b d0 N : Nat} {kd : Int32} {X : Int32 → Int32} {σc σm : St} (hN : 8589934592 ≤ N) (hT : Tp t n) (hC : MC t n g i s σc) (hs : s < 304) (hM : MM t n i a c σm) (hU : UsR g u σc σm) (hW : TsR g w σc σm) (hL : gI σc 407 = gI σm 34) (b1 : gI σc 406 = nI b) (b2 : gI σm 38 = nI b) (hb : b ≤ 6) (hd : kQ t n i + d0 ≤ kQ t n (i + 1) + 4) (hk0 : ¬ kK t n i = 0) : R2 (x4_readBranch N σc kd) (bd (m_emit N σm 0 0 0 0) (fun r17 σ18 => bd (m_next N σ18) (fun _ σ20 => bd (m_newTest N σ20) (fun r21 σ22 => bd (m_opens N σ22 kd r21 (X r21)) (fun _ σ24 => some ((), σ24)))))) (fun rc σc' _ σm' => BrQ t n g i s a c u w b d0 kd X σc σm rc σc' σm') := by
  have hi := hC.1.2.2.1
  have hg := hC.2.1.1
  have hgb := pg_b hg
  have hC1 := mC_up hT hC hk0
  have h12 := tk_1200 hT hk0
  obtain ⟨w1, w2, w3, w4⟩ := hW
  unfold x4_readBranch
  rw [hC.1.2.1, nI_1, sc_seen hT hC1.1, bd_s, hC1.1.2.1, sc_place hT hC1.1 (by omega), bd_s]
  refine r2_bdR (n_emit hM.2.1 hM.2.2.1) (fun r σ1 e => ?_)
  obtain ⟨ha, rfl, e2, e3, e4⟩ := e
  have hM1 := mM_em hM ha e2 e3 e4
  have em1 := emV (c := c) e2
  have hU1 := usR_em hU e2
  refine r2_bdR (sm_next hN hT hM1.1) (fun _ σ2 z => ?_)
  obtain ⟨z1, z2, -⟩ := z
  have hM2 := mM_tk hM1 z2 z1
  have hU2 := usR_n (v := nI (i + 1)) hg hU1 z2
  have f02 : FmB a σm σ2 := fmB_tr (fmB_em e2 e3 (Nat.le_refl _)) (fmB_tk z2)
  have a0 : acE a σ2 0 = 0 := by
    have : acE a σ2 0 = acE a σ1 0 := by unfold acE; rw [z2.1]
    rw [this]
    exact em1.1
  have h8 := hM2.1.2.2.2.2.2
  have g2 : ∀ j, ¬ (12 ≤ j ∧ j ≤ 15) → gA σ2 j = gA σm j := fun j hj => by rw [z2.1 j, e2, emA_o (by omega)]
  have i2 : ∀ k, (k < 4 ∨ 9 < k) → k ≠ 17 → gI σ2 k = gI σm k := fun k k1 k2 => by rw [z2.2.1 k k1, e3 k k2]
  have w29 : gA σ2 29 1 = nI w := by rw [g2 29 (by omega)]; exact w2
  obtain ⟨v1, -, -, v4, -⟩ := sv_srt hM2.1.2.2.2.2.1
  have wAny : wdP 19 7 := Or.inr (Or.inr (Or.inr (Or.inr (Or.inr (Or.inr (Or.inr (Or.inl ⟨rfl, rfl⟩)))))))
  -- a fault ahead of the test's row
  have ft : ∀ (σ σ9 : St), FP σ σ9 → R2 (some ((0 : Int32), σ)) (bd (m_newTest_64 N σ9 (gI σ2 5)) (fun r21 σ22 => bd (m_opens N σ22 kd r21 (X r21)) (fun _ σ24 => some ((), σ24)))) (fun rc σc' _ σm' => BrQ t n g i s a c u w b d0 kd X σc σm rc σc' σm') := by
    intro σ σ9 hf
    have hn := fp_ne hf
    unfold m_newTest_64
    rw [if_neg hn, bd_s, ff_opens hn, bd_s]
    exact r2_some (Or.inr ⟨rfl, hf⟩)
  -- the test begins: NAME or any
  have go : ∀ x2 : Int32, ((x2 = 0 ∧ kK t n (i + 1) = 2) ∨ (¬ x2 = 0 ∧ kK t n (i + 1) = 19)) → R2 (x4_readBranch_48 N (sI σc 405 (nI (i + 1))) kd x2 (nI (kQ t n (i + 1)))) (bd (m_newTest_28 N σ2 (gI σ2 5)) (fun r21 σ22 => bd (m_opens N σ22 kd r21 (X r21)) (fun _ σ24 => some ((), σ24)))) (fun rc σc' _ σm' => BrQ t n g i s a c u w b d0 kd X σc σm rc σc' σm') := by
    intro x2 hx
    have hk10 : ¬ kK t n (i + 1) = 0 := by rcases hx with ⟨-, h⟩ | ⟨-, h⟩ <;> (rw [h]; decide)
    have h13 := tk_1200 hT hk10
    have hup1 := (kQ_up (t := t) (n := n) (i := i + 1)).2.2 hk10
    unfold x4_readBranch_48 m_newTest_28 m_newTest_33
    rw [if_neg (show ¬ (1 : Int32) = 0 by decide), ib12, gd_t, c1, w29, hC1.2.1.2.1, hg, gd_t, show gI (sI σc 405 (nI (i + 1))) (100 * g + 12) = nI w from (gI_ne (by omega)).trans w1]
    by_cases c24 : w = 24
    · subst c24
      unfold x4_refuse m_wrong
      rw [if_neg (show ¬ nI 24 < (24 : Int32) by decide), if_pos (show nI 24 = (24 : Int32) from rfl), bd_s, if_pos h8, bd_s]
      refine r2_gdL (fun _ => ft _ _ ?_)
      exact fp_of (σc := sI σc 405 (nI (i + 1))) (σm := σ2) (k := 2) (by decide) rfl (by rw [hM2.1.2.2.2.1])
    have w24 : w < 24 := by omega
    rw [if_pos (show nI w < (24 : Int32) from nI_lt (b := 24) w24 (by decide)), if_neg (show ¬ nI w = (24 : Int32) from fun z => c24 ((nI_eq (b := 24) (by omega) (by decide)).mp z)), hC1.2.1.2.2, pg_cd hg, gd_t]
    refine r2_bdL (st_add (op := 2) (ow := gI (sI σc 405 (nI (i + 1))) 407) hC1 hs) (fun r σ3 y => ?_)
    obtain ⟨rfl, y1, y2, y3, y4, y5⟩ := y
    have y5' : gA σ3 (g + 2) = nrow (gA σc (g + 2)) s 2 (gI σc 407) := y5
    have t3 : gI σ3 (100 * g + 12) = nI w := by rw [y2 _ (by omega), gI_ne (by omega)]; exact w1
    rw [y1.2.1.2.1, hg, gd_t, c_addTest hg t3 w24, bd_s, y1.2.1.2.2, pg_cd hg, gd_t]
    generalize eT : sI (sA (sA σ3 (g + 9) w (gI σ3 407)) (g + 10) w (nI (kQ t n (i + 1)))) (100 * g + 12) (nI (w + 1)) = σ4
    have j4 : ∀ k, k ≠ 100 * g + 12 → gI σ4 k = gI σ3 k := fun k hk => by rw [← eT]; exact gI_ne (fun y => hk y.symm)
    have p4 : ∀ k, gP σ4 k = gP σ3 k := fun k => by rw [← eT]; rfl
    have A4 : ∀ k, k ≠ g + 9 → k ≠ g + 10 → gA σ4 k = gA σ3 k := fun k k1 k2 => by
      rw [← eT]
      show gA (sA (sA σ3 (g + 9) w (gI σ3 407)) (g + 10) w (nI (kQ t n (i + 1)))) k = _
      rw [gA_sA, if_neg k2, gA_sA, if_neg k1]
    have A49 : gA σ4 (g + 9) = upd (gA σ3 (g + 9)) w (gI σ3 407) := by
      rw [← eT]
      show gA (sA (sA σ3 (g + 9) w (gI σ3 407)) (g + 10) w (nI (kQ t n (i + 1)))) (g + 9) = _
      rw [gA_sA, if_neg (by omega), gA_sA, if_pos rfl]
    have A410 : gA σ4 (g + 10) = upd (gA σ3 (g + 10)) w (nI (kQ t n (i + 1))) := by
      rw [← eT]
      show gA (sA (sA σ3 (g + 9) w (gI σ3 407)) (g + 10) w (nI (kQ t n (i + 1)))) (g + 10) = _
      rw [gA_sA, if_pos rfl, gA_sA, if_neg (by omega)]
    have t4 : gI σ4 (100 * g + 12) = nI (w + 1) := by rw [← eT]; exact gI_eq
    have hC4 : MC t n g (i + 1) (s + 1) σ4 := ⟨syC_same y1.1 (j4 _ (by omega)) (j4 _ (by omega)) (A4 _ (by omega) (by omega)) (j4 _ (by omega)) (j4 _ (by omega)), ⟨hg, (p4 _).trans y1.2.1.2.1, (p4 _).trans y1.2.1.2.2⟩, (j4 _ (by omega)).trans y1.2.2.1, y1.2.2.2⟩
    show R2 (bd (x0_set N σ4 (g + 1) (nI s) (nI 3) (nI w)) _) _ _
    rw [c_set hg hC4.2.2.1 hC4.2.2.2 (by omega) (by decide), bd_s]
    have hC5 := mC_row (x := 12 * s + 3) (v := nI w) hC4
    rw [hC5.2.1.2.2, pg_cd hg, gd_t]
    show R2 (bd (x0_set N (sA σ4 (g + 2) (12 * s + 3) (nI w)) (g + 1) (nI s) (nI 4) 1) _) _ _
    rw [c_set hg hC5.2.2.1 hC5.2.2.2 (by omega) (by decide), bd_s]
    have hC6 := mC_row (x := 12 * s + 4) (v := 1) hC5
    rw [hC6.1.2.1, sc_letter hT hC6.1 (by omega), bd_s, hC6.2.1.2.2, pg_cd hg, gd_t]
    show R2 (bd (x0_set N (sA (sA σ4 (g + 2) (12 * s + 3) (nI w)) (g + 2) (12 * s + 4) 1) (g + 1) (nI s) (nI 1) (kL t n (i + 1))) _) _ _
    rw [c_set hg hC6.2.2.1 hC6.2.2.2 (by omega) (by decide), bd_s]
    have hC7 := mC_row (x := 12 * s + 1) (v := kL t n (i + 1)) hC6
    generalize e7 : sA (sA (sA σ4 (g + 2) (12 * s + 3) (nI w)) (g + 2) (12 * s + 4) 1) (g + 2) (12 * s + 1) (kL t n (i + 1)) = σ7 at *
    have A7 : gA σ7 (g + 2) = upd (upd (upd (nrow (gA σc (g + 2)) s 2 (gI σc 407)) (12 * s + 3) (nI w)) (12 * s + 4) 1) (12 * s + 1) (kL t n (i + 1)) := by
      rw [← e7, gA_sA, if_pos rfl, gA_sA, if_pos rfl, gA_sA, if_pos rfl, A4 _ (by omega) (by omega), y5']
    have A7o : ∀ j, j ≠ g + 2 → gA σ7 j = gA σ4 j := fun j hj => by rw [← e7, gA_sA, if_neg hj, gA_sA, if_neg hj, gA_sA, if_neg hj]
    have j7 : ∀ k, gI σ7 k = gI σ4 k := fun k => by rw [← e7]; rfl
    have p7 : ∀ k, gP σ7 k = gP σ4 k := fun k => by rw [← e7]; rfl
    have c07 : FcB g s σc σ7 := ⟨fun k k1 _ k3 k4 => by rw [j7, j4 k k3, y2 k k4, gI_ne (fun y => k1 y.symm)], fun k => by rw [p7, p4, y3]; rfl, fun j j1 j2 j3 _ _ => by rw [A7o j j1, A4 j j2 j3, y4 j j1]; rfl, fun x hx => by rw [A7, upd_ne (by omega), upd_ne (by omega), upd_ne (by omega), nrow_lt hx]⟩
    have b7 : gI σ7 406 = nI b := by rw [j7, j4 406 (by omega), y2 406 (by omega), gI_ne (by decide)]; exact b1
    have l37 : gI σ3 407 = gI σ2 34 := by rw [y2 407 (by omega), gI_ne (by decide), i2 34 (by omega) (by decide)]; exact hL
    -- the reference notes the test
    unfold m_newTest_64
    rw [if_pos h8, ib12, gd_t, c1, w29, show (25 : Int32) + nI w = nI (25 + w) from nI_add 25 w, ibk (show 25 + w < 50 by omega) (by decide), gd_t, gd_t, gd_t, gd_t, nI_clamp (by omega), nI_1]
    generalize eN : sA (sA (sA σ2 27 (25 + w) (gI σ2 34)) 28 (25 + w) (gI σ2 5)) 29 1 (nI (w + 1)) = σ8
    have n27 : gA σ8 27 = upd (gA σ2 27) (25 + w) (gI σ2 34) := by rw [← eN]; rfl
    have n28 : gA σ8 28 = upd (gA σ2 28) (25 + w) (gI σ2 5) := by rw [← eN]; rfl
    have n29 : gA σ8 29 = upd (gA σ2 29) 1 (nI (w + 1)) := by rw [← eN]; rfl
    have nI8 : ∀ k, gI σ8 k = gI σ2 k := fun k => by rw [← eN]; rfl
    have nA8 : ∀ j, ¬ (27 ≤ j ∧ j ≤ 29) → gA σ8 j = gA σ2 j := fun j hj => by rw [← eN, gA_sA, if_neg (by omega), gA_sA, if_neg (by omega), gA_sA, if_neg (by omega)]
    have hM8 : MM t n (i + 1) (a + 1) c σ8 := ⟨syM_same hM2.1 (nA8 1 (by omega)) (fun k _ _ => nI8 k), (nI8 17).trans hM2.2.1, hM2.2.2.1, (nI8 33).trans hM2.2.2.2.1, hM2.2.2.2.2⟩
    have f08 : FmB a σm σ8 := fmB_tr f02 ⟨fun k _ _ _ => nI8 k, fun j _ h2 _ => nA8 j h2, fun j k h1 h2 _ => by rw [nA8 j (by omega)]⟩
    have hU8 : UsR g u σ7 σ8 := by
      obtain ⟨u1, u2, u3, u4⟩ := hU2
      refine ⟨by rw [j7, j4 _ (by omega), y2 _ (by omega)]; exact u1, by rw [nA8 26 (by omega)]; exact u2, u3, fun k hk => ?_⟩
      rw [A7o _ (by omega), A7o _ (by omega), A7o _ (by omega), A4 _ (by omega) (by omega), A4 _ (by omega) (by omega), A4 _ (by omega) (by omega), y4 _ (by omega), y4 _ (by omega), y4 _ (by omega), nA8 23 (by omega), nA8 24 (by omega), nA8 25 (by omega)]
      exact u4 k hk
    have hW8 : TsR g (w + 1) σ7 σ8 := by
      refine ⟨(j7 _).trans t4, by rw [n29, upd_eq], by omega, fun k hk => ?_⟩
      rw [A7o _ (by omega), A7o _ (by omega), A49, A410, n27, n28]
      by_cases ck : k = w
      · subst ck
        rw [upd_eq, upd_eq, upd_eq, upd_eq]
        exact ⟨l37, hM2.1.2.2.2.1.symm⟩
      · rw [upd_ne ck, upd_ne ck, upd_ne (by omega), upd_ne (by omega), y4 _ (by omega), y4 _ (by omega), g2 27 (by omega), g2 28 (by omega)]
        exact w4 k (by omega)
    have a08 : acE a σ8 0 = 0 := by
      have : acE a σ8 0 = acE a σ2 0 := by unfold acE; rw [nA8 (12 + 0) (by omega)]
      rw [this]; exact a0
    have b8 : gI σ8 38 = nI b := by rw [nI8, i2 38 (by omega) (by decide)]; exact b2
    have x5 : gA σ7 5 = gA σc 5 := by rw [A7o 5 (by omega), A4 5 (by omega) (by omega), y4 5 (by omega)]; rfl
    have x6 : gA σ7 6 = gA σc 6 := by rw [A7o 6 (by omega), A4 6 (by omega) (by omega), y4 6 (by omega)]; rfl
    have x35 : ∀ j, 35 ≤ j → j ≤ 37 → gA σ8 j = gA σm j := fun j h1 h2 => by rw [nA8 j (by omega), g2 j (by omega)]
    rw [sm_word hM8.1 wAny, bd_s]
    rcases hx with ⟨hx1, hk2⟩ | ⟨hx1, hk19⟩
    · -- NAME is / not nothing
      rw [if_pos hx1, hk2, if_neg (show ¬ (2 : Int32) = 19 by decide), if_pos rfl, show gI σ7 405 = nI (i + 1) from hC7.1.2.1, nI_1]
      have hC9 := mC_up hT hC7 hk10
      have tA : ∀ K : Int32 → St → Option (Unit × St), bd (bd (m_taken N σ8 0) (fun r3 σ4 => bd (m_isWord N σ4 3) (fun r5 σ6 => (if r5 = 0 then bd (m_isWord N σ6 4) (fun r17 σ18 => (if r17 = 0 then bd (m_wrong N σ18 1 (gI σ18 5)) (fun _ σ20 => m_newTest_172 N σ20 (nI w) r3 r5) else m_newTest_172 N σ18 (nI w) r3 r5)) else m_newTest_172 N σ6 (nI w) r3 r5)))) K = bd (m_taken N σ8 0) (fun r3 σ4 => bd (bd (m_isWord N σ4 3) (fun r5 σ6 => (if r5 = 0 then bd (m_isWord N σ6 4) (fun r17 σ18 => (if r17 = 0 then bd (m_wrong N σ18 1 (gI σ18 5)) (fun _ σ20 => m_newTest_172 N σ20 (nI w) r3 r5) else m_newTest_172 N σ18 (nI w) r3 r5)) else m_newTest_172 N σ6 (nI w) r3 r5))) K) := by
        intro K
        cases m_taken N σ8 0 with
        | none => rfl
        | some p => rfl
      rw [tA]
      refine r2_bdR (sm_takenY hN hT hM8.1 (k := 2) (Or.inl ⟨rfl, rfl⟩) hk2) (fun r σ9 q => ?_)
      obtain ⟨rfl, q1, q2⟩ := q
      have hM9 := mM_tk hM8 q2 q1
      refine r2_bd (r_cmp (x3 := nI w) (v := kL t n (i + 1)) (s := s) hN hT hC9 hM9 (by omega)) (fun r10 σ10 r11 σ11 q => ?_)
      rcases q with ⟨rfl, rfl, qa, kk, xx, q3, rfl, q4, q5, q6, q7, q8, q9, q10, q11, q12⟩ | ⟨rfl, q⟩
      · rw [if_neg (show ¬ (1 : Int32) = 0 by decide)]
        generalize e10 : sI (sA (sI σ7 405 (nI (i + 1 + 1))) (g + 2) (12 * s + 4) kk) 405 (nI (i + 1 + 1 + 1 + 1)) = σ12 at *
        have A12 : gA σ12 (g + 2) = upd (gA σ7 (g + 2)) (12 * s + 4) kk := by
          rw [← e10]
          show gA (sA (sI σ7 405 (nI (i + 1 + 1))) (g + 2) (12 * s + 4) kk) (g + 2) = _
          rw [gA_sA, if_pos rfl]
          rfl
        have A12o : ∀ j, j ≠ g + 2 → gA σ12 j = gA σ7 j := fun j hj => by
          rw [← e10]
          show gA (sA (sI σ7 405 (nI (i + 1 + 1))) (g + 2) (12 * s + 4) kk) j = _
          rw [gA_sA, if_neg hj]
          rfl
        have j12 : ∀ k, k ≠ 405 → gI σ12 k = gI σ7 k := fun k hk => by
          rw [← e10, gI_ne (fun y => hk y.symm)]
          show gI (sI σ7 405 (nI (i + 1 + 1))) k = _
          exact gI_ne (fun y => hk y.symm)
        have p12 : ∀ k, gP σ12 k = gP σ7 k := fun k => by rw [← e10]; rfl
        have n11 : ∀ j, ¬ (12 ≤ j ∧ j ≤ 15) → gA σ11 j = gA σ8 j := fun j hj => by rw [q10 j hj, q2.1 j]
        have n11I : ∀ k, (k < 4 ∨ 9 < k) → k ≠ 17 → gI σ11 k = gI σ8 k := fun k k1 k2 => by rw [q11 k k1 k2, q2.2.1 k k1]
        have ac0 : acE a σ11 0 = 0 := by
          have h1 : acE a σ11 0 = acE a σ9 0 := acE_keep q6 (by omega) (by omega)
          have h2 : acE a σ9 0 = acE a σ8 0 := by unfold acE; rw [q2.1]
          rw [h1, h2]; exact a08
        refine br_fin (i0 := i) hN hT q4 q5 ?_ ?_ ?_ ?_ hb ?_ ?_ ?_ ?_ ?_ ?_ ?_ ?_ ?_ (by omega)
        · obtain ⟨u1, u2, u3, u4⟩ := hU8
          refine ⟨(j12 _ (by omega)).trans u1, by rw [n11 26 (by omega)]; exact u2, u3, fun k hk => ?_⟩
          rw [A12o _ (by omega), A12o _ (by omega), A12o _ (by omega), n11 23 (by omega), n11 24 (by omega), n11 25 (by omega)]
          exact u4 k hk
        · obtain ⟨u1, u2, u3, u4⟩ := hW8
          refine ⟨(j12 _ (by omega)).trans u1, by rw [n11 29 (by omega)]; exact u2, u3, fun k hk => ?_⟩
          rw [A12o _ (by omega), A12o _ (by omega), n11 27 (by omega), n11 28 (by omega)]
          exact u4 k hk
        · rw [j12 406 (by decide)]; exact b7
        · rw [n11I 38 (by omega) (by decide)]; exact b8
        · refine fcB_tr c07 ⟨fun k k1 _ _ _ => j12 k k1, p12, fun j j1 _ _ _ _ => A12o j j1, fun x hx => by rw [A12, upd_ne (by omega)]⟩
        · refine fmB_tr f08 (fmB_tr (fmB_tk q2) ⟨fun k k1 k2 _ => q11 k k1 k2, fun j h1 _ _ => q10 j h1, fun j k h1 h2 h3 => q6.2.2.1 j k h1 (by omega) (by omega)⟩)
        · rw [A12o 5 (by omega)]; exact x5
        · rw [A12o 6 (by omega)]; exact x6
        · rw [n11 35 (by omega)]; exact x35 35 (by omega) (by omega)
        · rw [n11 36 (by omega)]; exact x35 36 (by omega) (by omega)
        · rw [n11 37 (by omega)]; exact x35 37 (by omega) (by omega)
        · have d0' : rwD g s σ12 0 = 2 := by unfold rwD; rw [A12, upd_ne (by omega), A7, upd_ne (by omega), upd_ne (by omega), upd_ne (by omega), nrow_0]
          have d1' : rwD g s σ12 1 = kL t n (i + 1) := by unfold rwD; rw [A12, upd_ne (by omega), A7, upd_eq]
          have d3' : rwD g s σ12 3 = nI w := by unfold rwD; rw [A12, upd_ne (by omega), A7, upd_ne (by omega), upd_ne (by omega), upd_eq]
          have d4' : rwD g s σ12 4 = kk := by unfold rwD; rw [A12, upd_eq]
          refine ⟨d0', ac0, ?_, by rw [d3']; exact q9, d3'⟩
          rw [d4', d1']
          rcases q3 with ⟨h1, h2⟩ | ⟨h1, h2⟩
          · exact Or.inr (Or.inl ⟨h1, q7.trans h2, q8⟩)
          · exact Or.inr (Or.inr ⟨h1, q7.trans h2, q8⟩)
        · unfold rwD
          rw [A12, upd_ne (by omega), A7, upd_ne (by omega), upd_ne (by omega), upd_ne (by omega), nrow_11]
      · rw [if_pos rfl, ff_opens (fp_ne q), bd_s]
        exact r2_some (Or.inr ⟨rfl, q⟩)
    · -- any
      have hup9 := kQ_word (d := 3) hk19 (Or.inr (Or.inl ⟨rfl, rfl⟩))
      rw [if_neg hx1, hk19, if_pos rfl, if_neg (show ¬ (1 : Int32) = 0 by decide), show gI σ7 405 = nI (i + 1) from hC7.1.2.1, nI_1]
      have hC9 := mC_up hT hC7 hk10
      have tA : ∀ K : Int32 → St → Option (Unit × St), bd (bd (m_next N σ8) (fun _ σ22 => bd (m_emit N σ22 12 0 (nI w) 0) (fun r23 σ24 => some (r23, σ24)))) K = bd (m_next N σ8) (fun _ σ22 => bd (m_emit N σ22 12 0 (nI w) 0) K) := by
        intro K
        cases m_next N σ8 with
        | none => rfl
        | some p =>
          show bd (bd (m_emit N p.2 12 0 (nI w) 0) _) K = bd (m_emit N p.2 12 0 (nI w) 0) K
          cases m_emit N p.2 12 0 (nI w) 0 <;> rfl
      rw [tA]
      refine r2_bdR (sm_next hN hT hM8.1) (fun _ σ9 q => ?_)
      obtain ⟨q1, q2, -⟩ := q
      have hM9 := mM_tk hM8 q2 q1
      refine r2_bdR (n_emit hM9.2.1 hM9.2.2.1) (fun r σ11 q => ?_)
      obtain ⟨qa, rfl, q3, q4, q5⟩ := q
      have em := emV (c := c) q3
      have n11 : ∀ j, ¬ (12 ≤ j ∧ j ≤ 15) → gA σ11 j = gA σ8 j := fun j hj => by rw [q3, emA_o (by omega), q2.1 j]
      have ac0 : acE a σ11 0 = 0 := by
        have h1 : acE a σ11 0 = acE a σ9 0 := acE_keep (fmV_em (c := c) q3 q4) (by omega) (by omega)
        have h2 : acE a σ9 0 = acE a σ8 0 := by unfold acE; rw [q2.1]
        rw [h1, h2]; exact a08
      refine br_fin (i0 := i) hN hT hC9 (mM_em hM9 qa q3 q4 q5) (usR_em (usR_n hg hU8 q2) q3) ?_ ?_ ?_ hb ?_ ?_ ?_ ?_ ?_ ?_ ?_ ?_ ?_ (by omega)
      · obtain ⟨u1, u2, u3, u4⟩ := hW8
        refine ⟨(gI_ne (by omega)).trans u1, by rw [n11 29 (by omega)]; exact u2, u3, fun k hk => ?_⟩
        rw [n11 27 (by omega), n11 28 (by omega)]
        exact u4 k hk
      · rw [gI_ne (by decide)]; exact b7
      · rw [q4 38 (by decide), q2.2.1 38 (by omega)]; exact b8
      · exact fcB_tr c07 ⟨fun k k1 _ _ _ => gI_ne (fun y => k1 y.symm), fun _ => rfl, fun _ _ _ _ _ _ => rfl, fun _ _ => rfl⟩
      · exact fmB_tr f08 (fmB_tr (fmB_tk q2) (fmB_em q3 q4 (by omega)))
      · exact x5
      · exact x6
      · rw [n11 35 (by omega)]; exact x35 35 (by omega) (by omega)
      · rw [n11 36 (by omega)]; exact x35 36 (by omega) (by omega)
      · rw [n11 37 (by omega)]; exact x35 37 (by omega) (by omega)
      · have d0' : rwD g s σ7 0 = 2 := by unfold rwD; rw [A7, upd_ne (by omega), upd_ne (by omega), upd_ne (by omega), nrow_0]
        have d3' : rwD g s σ7 3 = nI w := by unfold rwD; rw [A7, upd_ne (by omega), upd_ne (by omega), upd_eq]
        have d4' : rwD g s σ7 4 = 1 := by unfold rwD; rw [A7, upd_ne (by omega), upd_eq]
        exact ⟨d0', ac0, Or.inl ⟨d4', em.1⟩, em.2.2.1.trans d3'.symm, d3'⟩
      · show rwD g s σ7 11 = _
        unfold rwD
        rw [A7, upd_ne (by omega), upd_ne (by omega), upd_ne (by omega), nrow_11]
  unfold m_newTest
  rw [if_pos h8]
  by_cases k19 : kK t n (i + 1) = 19
  · rw [if_pos k19, if_neg (show ¬ (1 : Int32) = 0 by decide), if_neg (fun z => by have := v1.mp z; rw [k19] at this; exact absurd this (by decide)), sm_word hM2.1 wAny, if_pos k19, bd_s, if_neg (show ¬ (1 : Int32) = 0 by decide)]
    exact go 1 (Or.inr ⟨by decide, k19⟩)
  · rw [if_neg k19, if_pos rfl, sc_seen hT hC1.1, bd_s]
    by_cases k2 : kK t n (i + 1) = 2
    · rw [if_pos k2, if_neg (show ¬ (1 : Int32) = 0 by decide), if_pos (v1.mpr k2)]
      exact go 0 (Or.inl ⟨rfl, k2⟩)
    · rw [if_neg k2, if_pos rfl, if_neg (fun z => k2 (v1.mp z)), sm_word hM2.1 wAny, if_neg k19, bd_s, if_pos rfl]
      unfold x4_refuse m_newTest_32 m_newTest_33 m_wrong
      rw [bd_s, if_pos rfl, if_pos h8, bd_s]
      refine r2_gdL (fun _ => ft _ _ ?_)
      exact fp_of (σc := sI σc 405 (nI (i + 1))) (σm := σ2) (k := 1) (by decide) rfl (by rw [hM2.1.2.2.2.1])
