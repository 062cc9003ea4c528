/-! statements that are one row: both sides read the same -/
/-- a new row -/
theorem st_add {t : Nat → Int32} {n g i s N : Nat} {σ : St} {op ow : Int32} (hC : MC t n g i s σ) (hs : s < 304) : Par (x0_add N σ (g + 1) op ow) (fun r σ' => r = nI s ∧ MC t n g i (s + 1) σ' ∧ (∀ k, k ≠ 100 * (g + 1) + 1 → gI σ' k = gI σ k) ∧ (∀ k, gP σ' k = gP σ k) ∧ (∀ j, j ≠ g + 2 → gA σ' j = gA σ j) ∧ gA σ' (g + 2) = nrow (gA σ (g + 2)) s op ow) := by
  have hg := hC.2.1.1
  have hb := pg_b hg
  refine (c_add hg hC.2.2.1 hs).mono (fun r σ' z => ⟨z.1, ?_⟩)
  have e := z.2
  subst e
  have hI : ∀ k, k ≠ 100 * (g + 1) + 1 → gI (sF (sI σ (100 * (g + 1) + 1) (nI (s + 1))) (g + 2) (nrow (gA σ (g + 2)) s op ow)) k = gI σ k := fun k hk => gI_ne (fun y => hk y.symm)
  have hA : ∀ j, j ≠ g + 2 → gA (sF (sI σ (100 * (g + 1) + 1) (nI (s + 1))) (g + 2) (nrow (gA σ (g + 2)) s op ow)) j = gA σ j := fun j hj => by rw [sF_A, if_neg hj]; rfl
  refine ⟨⟨syC_same hC.1 (hI _ (by omega)) (hI _ (by omega)) (hA _ (by omega)) (hI _ (by omega)) (hI _ (by omega)), hC.2.1, gI_eq, by omega⟩, hI, fun _ => rfl, hA, ?_⟩
  rw [sF_A, if_pos rfl]
theorem nrow_lt {f : Nat → Int32} {s x : Nat} {op ow : Int32} (h : x < 12 * s) : nrow f s op ow x = f x := by
  unfold nrow
  rw [if_neg (by omega), if_neg (by omega), if_neg (by omega)]
theorem nrow_0 {f : Nat → Int32} {s : Nat} {op ow : Int32} : nrow f s op ow (12 * s + 0) = op := by
  unfold nrow
  rw [if_neg (by omega), if_pos (by omega)]
theorem nrow_z {f : Nat → Int32} {s q : Nat} {op ow : Int32} (h : 1 ≤ q) (h2 : q ≤ 10) : nrow f s op ow (12 * s + q) = 0 := by
  unfold nrow
  rw [if_neg (by omega), if_neg (by omega), if_pos (by omega)]
theorem nrow_11 {f : Nat → Int32} {s : Nat} {op ow : Int32} : nrow f s op ow (12 * s + 11) = ow := by
  unfold nrow
  rw [if_pos rfl]
/-- '= VALUE ;' into row pc, and the act behind it -/
def PutQ (t : Nat → Int32) (n g i0 S a c pc : Nat) (x y z w : Int32) (σc0 σm0 : St) (rc : Int32) (σc : St) (σm : St) : Prop := (rc = 1 ∧ ∃ i c' u' : Nat, MC t n g i S σc ∧ MM t n i (a + 2) c' σm ∧ UsR g u' σc σm ∧ FcV g pc σc0 σc ∧ FmV a c σm0 σm ∧ VR (rwD g pc σc) (acE a σm) ∧ CR (rwD g pc σc) c c' σm ∧ acE (a + 1) σm 0 = x ∧ acE (a + 1) σm 1 = y ∧ acE (a + 1) σm 2 = z ∧ acE (a + 1) σm 3 = w ∧ kQ t n i0 + 3 ≤ kQ t n i) ∨ (rc = 0 ∧ FP σc σm)
/-- what rests on a VALUE's row and act stays behind the next act and the ';' -/
theorem val_keep {g pc a c c' : Nat} {σc σm σm2 : St} (hA : ∀ j, 12 ≤ j → j ≤ 16 → gA σm2 j (1300 + a) = gA σm j (1300 + a)) (hC : ∀ j, 30 ≤ j → j ≤ 32 → gA σm2 j = gA σm j) {v : Int32} (h1 : VR (rwD g pc σc) (acE a σm)) (h2 : CR (rwD g pc σc) c c' σm) : VR (rwD g pc (sI σc 405 v)) (acE a σm2) ∧ CR (rwD g pc (sI σc 405 v)) c c' σm2 := by
  have e : ∀ j, j ≤ 4 → acE a σm2 j = acE a σm j := fun j hj => hA (12 + j) (by omega) (by omega)
  constructor
  · show VR (rwD g pc σc) (acE a σm2)
    unfold VR at *
    rw [e 0 (by omega), e 1 (by omega), e 2 (by omega), e 3 (by omega), e 4 (by omega)]
    exact h1
  · show CR (rwD g pc σc) c c' σm2
    unfold CR at *
    rw [hC 30 (by omega) (by omega), hC 31 (by omega) (by omega), hC 32 (by omega) (by omega)]
    exact h2
theorem tk_keep {g pc a c c' : Nat} {σc σm σm2 : St} (hT : Tk σm σm2) {v : Int32} (h1 : VR (rwD g pc σc) (acE a σm)) (h2 : CR (rwD g pc σc) c c' σm) : VR (rwD g pc (sI σc 405 v)) (acE a σm2) ∧ CR (rwD g pc (sI σc 405 v)) c c' σm2 := val_keep (fun j _ _ => by rw [hT.1 j]) (fun j _ _ => hT.1 j) h1 h2
theorem em_keep {g pc a c c' : Nat} {σc σm σm2 : St} {x y z w : Int32} (he : gA σm2 = emA (gA σm) (a + 1) x y z w) (h1 : VR (rwD g pc σc) (acE a σm)) (h2 : CR (rwD g pc σc) c c' σm) : VR (rwD g pc σc) (acE a σm2) ∧ CR (rwD g pc σc) c c' σm2 := by
  have := val_keep (σc := σc) (v := gI σc 405) (σm2 := σm2) (fun j _ _ => by rw [he, emA_ge (by omega)]) (fun j h1 h2 => by rw [he, emA_o (by omega)]) h1 h2
  exact this
theorem r_putTail {t : Nat → Int32} {n g i S a c u pc N : Nat} {x y z w : Int32} {σc σm : St} (hN : 8589934592 ≤ N) (hT : Tp t n) (hC : MC t n g i S σc) (hM : MM t n i a c σm) (hU : UsR g u σc σm) (hL : gI σc 407 = gI σm 34) (hpc : pc < S) (hz : gA σc (g + 2) (12 * pc + 8) = 0) : R2 (x4_readPut_88 N σc (nI pc)) (bd (m_wants N σm 61) (fun _ σ52 => bd (m_worth N σ52) (fun _ σ54 => bd (m_emit N σ54 x y z w) (fun _ σ56 => m_statement_97 N σ56)))) (fun rc σc' _ σm' => PutQ t n g i S a c pc x y z w σc σm rc σc' σm') := by
  have hg := hC.2.1.1
  have hb := pg_b hg
  unfold x4_readPut_88 m_statement_97
  by_cases k10 : kK t n i = 10
  · have hk0 : ¬ kK t n i = 0 := by rw [k10]; decide
    have hup := (kQ_up (t := t) (n := n) (i := i)).2.2 hk0
    rw [sc_takeY hT hC.1 k10, bd_s, if_neg (show ¬ (1 : Int32) = 0 by decide)]
    have hC1 := mC_up hT hC hk0
    refine r2_bdR (sm_wantsY hN hT hM.1 (k := 10) (c := 61) (Or.inr (Or.inr (Or.inr (Or.inr (Or.inr (Or.inr (Or.inl ⟨rfl, rfl⟩))))))) k10) (fun _ σ1 q => ?_)
    obtain ⟨q1, q2⟩ := q
    have hM1 := mM_tk hM q2 q1
    have hU1 := usR_n (v := nI (i + 1)) hg hU q2
    have hL1 : gI (sI σc 405 (nI (i + 1))) 407 = gI σ1 34 := by
      rw [gI_ne (by decide), q2.2.1 34 (by omega)]
      exact hL
    refine r2_bd (r_value hN hT hC1 hM1 hU1 hL1 hpc hz) (fun r2 σ2 _ σ3 q => ?_)
    rcases q with ⟨rfl, i2, c2, u2, v1, v2, v3, v4, v5, v6, v7, v8, v9⟩ | ⟨rfl, q⟩
    · rw [if_neg (show ¬ (1 : Int32) = 0 by decide)]
      refine r2_bdR (n_emit v2.2.1 v2.2.2.1) (fun r σ4 e => ?_)
      obtain ⟨ha, rfl, e2, e3, e4⟩ := e
      have hM4 := mM_em v2 ha e2 e3 e4
      have hU4 := usR_em v3 e2
      obtain ⟨w1, w2⟩ := em_keep e2 v6 v7
      have en : acE (a + 1) σ4 0 = x ∧ acE (a + 1) σ4 1 = y ∧ acE (a + 1) σ4 2 = z ∧ acE (a + 1) σ4 3 = w := by
        refine ⟨?_, ?_, ?_, ?_⟩
        · show gA σ4 12 (1300 + (a + 1)) = x
          rw [e2, em12, upd_eq]
        · show gA σ4 13 (1300 + (a + 1)) = y
          rw [e2, em13, upd_eq]
        · show gA σ4 14 (1300 + (a + 1)) = z
          rw [e2, em14, upd_eq]
        · show gA σ4 15 (1300 + (a + 1)) = w
          rw [e2, em15, upd_eq]
      by_cases k9 : kK t n i2 = 9
      · have hk90 : ¬ kK t n i2 = 0 := by rw [k9]; decide
        have hup2 := (kQ_up (t := t) (n := n) (i := i2)).2.2 hk90
        rw [sc_takeY hT v1.1 k9, bd_s, if_neg (show ¬ (1 : Int32) = 0 by decide)]
        refine r2_bdR (sm_wantsY hN hT hM4.1 (k := 9) (c := 59) (Or.inr (Or.inr (Or.inr (Or.inr (Or.inr (Or.inl ⟨rfl, rfl⟩)))))) k9) (fun _ σ5 f => ?_)
        obtain ⟨f1, f2⟩ := f
        obtain ⟨w3, w4⟩ := tk_keep (v := nI (i2 + 1)) f2 w1 w2
        have ek : ∀ j, acE (a + 1) σ5 j = acE (a + 1) σ4 j := fun j => by unfold acE; rw [f2.1 (12 + j)]
        have fe : FmV a c σ3 σ4 := ⟨fun k _ h2 _ => e3 k h2, fun j h1 _ _ => by rw [e2]; exact emA_o (by omega), fun j k h1 h2 h3 => by rw [e2]; exact emA_ge (by omega), fun j k h1 h2 _ => by rw [e2, emA_o (by omega)]⟩
        refine r2_some (Or.inl ⟨rfl, i2 + 1, c2, u2, mC_up hT v1 hk90, mM_tk hM4 f2 f1, usR_n hg hU4 f2, fcV_tr fcV_n (fcV_tr v4 fcV_n), fmV_tr (fmV_tk q2) (fmV_tr v5 (fmV_tr fe (fmV_tk f2))), w3, w4, ?_, ?_, ?_, ?_, by omega⟩)
        · rw [ek]; exact en.1
        · rw [ek]; exact en.2.1
        · rw [ek]; exact en.2.2.1
        · rw [ek]; exact en.2.2.2
      · rw [sc_takeN hT v1.1 k9, bd_s, if_pos rfl, sm_wantsN hM4.1 (k := 9) (c := 59) (Or.inr (Or.inr (Or.inr (Or.inr (Or.inr (Or.inl ⟨rfl, rfl⟩)))))) k9, bd_s]
        exact r2_some (Or.inr ⟨rfl, fp_of (k := 1) (by decide) rfl rfl⟩)
    · rw [if_pos rfl]
      refine r2_bdR ff_emit (fun r σ9 e => ?_)
      have hf : FP σ2 σ9 := fp_m q e.1 e.2
      rw [ff_wants (fp_ne hf), bd_s]
      exact r2_some (Or.inr ⟨rfl, hf⟩)
  · have hf : FP (sI (sI σc 408 1) 409 (nI (kQ t n i))) (sI (sI σm 8 1) 9 (nI (kQ t n i))) := fp_of (k := 1) (by decide) rfl rfl
    rw [sc_takeN hT hC.1 k10, bd_s, if_pos rfl, sm_wantsN hM.1 (k := 10) (c := 61) (Or.inr (Or.inr (Or.inr (Or.inr (Or.inr (Or.inr (Or.inl ⟨rfl, rfl⟩))))))) k10, bd_s, ff_worth (fp_ne hf), bd_s]
    refine r2_bdR ff_emit (fun r σ9 e => ?_)
    have hf2 := fp_m hf e.1 e.2
    rw [ff_wants (fp_ne hf2), bd_s]
    exact r2_some (Or.inr ⟨rfl, hf2⟩)
