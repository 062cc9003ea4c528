/-! a call as a statement, return -/
theorem r_semi {t : Nat → Int32} {n g i S a c N : Nat} {σc σm : St} (hN : 8589934592 ≤ N) (hT : Tp t n) (hC : MC t n g i S σc) (hM : MM t n i a c σm) : R2 (bd (x4_take N σc 9) (fun r12 σ13 => (if r12 = 0 then some ((0 : Int32), σ13) else some (1, σ13)))) (bd (m_wants N σm 59) (fun _ σ44 => some ((), σ44))) (fun rc σc' _ σm' => (rc = 1 ∧ σc' = sI σc 405 (nI (i + 1)) ∧ MC t n g (i + 1) S σc' ∧ MM t n (i + 1) a c σm' ∧ Tk σm σm' ∧ kQ t n i + 1 ≤ kQ t n (i + 1)) ∨ (rc = 0 ∧ FP σc' σm')) := by
  by_cases k9 : kK t n i = 9
  · have hk90 : ¬ kK t n i = 0 := by rw [k9]; decide
    rw [sc_takeY hT hC.1 k9, bd_s, if_neg (show ¬ (1 : Int32) = 0 by decide)]
    refine r2_bdR (sm_wantsY hN hT hM.1 (k := 9) (c := 59) (Or.inr (Or.inr (Or.inr (Or.inr (Or.inr (Or.inl ⟨rfl, rfl⟩)))))) k9) (fun _ σ5 f => ?_)
    exact r2_some (Or.inl ⟨rfl, rfl, mC_up hT hC hk90, mM_tk hM f.2 f.1, f.2, (kQ_up (t := t) (n := n) (i := i)).2.2 hk90⟩)
  · rw [sc_takeN hT hC.1 k9, bd_s, if_pos rfl, sm_wantsN hM.1 (k := 9) (c := 59) (Or.inr (Or.inr (Or.inr (Or.inr (Or.inr (Or.inl ⟨rfl, rfl⟩)))))) k9, bd_s]
    exact r2_some (Or.inr ⟨rfl, fp_of (k := 1) (by decide) rfl rfl⟩)
theorem r_drop {t : Nat → Int32} {n g i s a c u N : Nat} {σc σm : St} (hN : 8589934592 ≤ N) (hT : Tp t n) (hC : MC t n g i s σc) (hs : s < 304) (hM : MM t n i a c σm) (hU : UsR g u σc σm) (k3 : kK t n i = 3) : R2 (gd (isCd (gP σc 404)) (bd (x0_add N σc (gP σc 404) 5 (gI σc 407)) (fun r8 σ9 => bd (x4_readCall N σ9 r8) (fun r10 σ11 => (if r10 = 0 then some ((0 : Int32), σ11) else bd (x4_take N σ11 9) (fun r12 σ13 => (if r12 = 0 then some (0, σ13) else some (1, σ13)))))))) (bd (m_emit N σm 0 0 0 0) (fun r39 σ40 => bd (m_call N σ40) (fun _ σ42 => bd (m_wants N σ42 59) (fun _ σ44 => some ((), σ44))))) (fun rc σc' _ σm' => RowQ t n g i s a c 2 DE σc σm rc σc' σm') := by
  have hi := hC.1.2.2.1
  have hg := hC.2.1.1
  have hb := pg_b hg
  rw [hC.2.1.2.2, pg_cd hg, gd_t]
  refine r2_bdR (n_emit hM.2.1 hM.2.2.1) (fun r σ1 e => ?_)
  obtain ⟨ha, rfl, e2, e3, e4⟩ := e
  have hM1 := mM_em hM ha e2 e3 e4
  have em1 := emV (c := c) e2
  have hU1 := usR_em hU e2
  refine r2_bdL (st_add (op := 5) (ow := gI σc 407) hC hs) (fun r σ3 y => ?_)
  obtain ⟨rfl, y1, y2, y3, y4, y5⟩ := y
  have hU3 := usR_add (s := s) (i := i) (op := 5) (ow := 5) hg hU1 y2 y4
  have hz : gA σ3 (g + 2) (12 * s + 8) = 0 := by rw [y5, nrow_z (by decide) (by decide)]
  have c03 : FcR g s σc σ3 := ⟨fun k k1 k2 k3 => y2 k k3, fun k => y3 k, fun j j1 _ _ _ => y4 j j1, fun x hx => by rw [y5, nrow_lt hx]⟩
  refine r2_bd (r_call hN hT y1 hM1 hU3 (by omega) hz k3) (fun r4 σ4 _ σ5 w => ?_)
  rcases w with ⟨rfl, i2, k, b, q1, q2, q3, q4, q5, q6, q7, q8, q9, q10, q11, q12, q13, q14, q15, q16, q17, q18, q19, q20⟩ | ⟨rfl, w⟩
  · rw [if_neg (show ¬ (1 : Int32) = 0 by decide)]
    refine R2.mono (r_semi hN hT q3 q4) (fun rc σ6 _ σ7 w => ?_)
    rcases w with ⟨rfl, rfl, w1, w2, w3, w4⟩ | ⟨rfl, w⟩
    · have hV : VR (rwD g s σ4) (acE (a + 1) σ5) := Or.inr (Or.inr (Or.inr (Or.inr (Or.inr ⟨q8, q12, q13.trans q9.symm, k, b, q1, q2, q10, q14, q15, q20⟩))))
      obtain ⟨l, hl0, el, hl7⟩ := eL_b (q := kQ t n i) hT.1 hT.2
      have hl8 : l < 8 := by have := hl7 k3; omega
      have hR : CR (rwD g s σ4) c (c + 1) σ5 := Or.inr ⟨q8, rfl, q16.trans q11.symm, q17.trans q9.symm, k, b, q1, q2, q10, q18, l, hl8, q9.trans el⟩
      obtain ⟨v1, v2⟩ := tk_keep (v := nI (i2 + 1)) w3 hV hR
      have dq : ∀ q, ¬ (4 ≤ q ∧ q ≤ 9) → rwD g s σ4 q = gA σ3 (g + 2) (12 * s + q) := fun q hq => q6.2.2.2 (12 * s + q) (by omega)
      have f57 : FmV (a + 1) c σ1 σ7 := fmV_tr q7 (fmV_tk w3)
      refine Or.inl ⟨rfl, i2 + 1, c + 1, u, w1, w2, usR_n hg q5 w3, fcR_tr c03 (fcR_tr (fcR_v q6) (fcR_v fcV_n)), fmV_tr (fmV_em e2 e3) (fmV_le f57 (by omega)), v2, ⟨?_, ?_, v1, q8⟩, ?_, by omega⟩
      · show rwD g s σ4 0 = 5
        rw [dq 0 (by omega), y5, nrow_0]
      · exact (acE_keep f57 (by omega) (by omega)).trans em1.1
      · show rwD g s σ4 11 = gI σc 407
        rw [dq 11 (by omega), y5, nrow_11]
    · exact Or.inr ⟨rfl, w⟩
  · rw [if_pos rfl, ff_wants (fp_ne w), bd_s]
    exact r2_some (Or.inr ⟨rfl, w⟩)
/-- the act of return and the ';' -/
theorem r_retTail {t : Nat → Int32} {n g i S a c c0 a0 N : Nat} {σc σm : St} {Q : Int32 → St → Unit → St → Prop} (hN : 8589934592 ≤ N) (hT : Tp t n) (hC : MC t n g i S σc) (hM : MM t n i a c σm) (ha0 : a0 ≤ a) (k1 : ∀ σc' σm', σc' = sI σc 405 (nI (i + 1)) → MC t n g (i + 1) S σc' → MM t n (i + 1) (a + 1) c σm' → FmV a c0 σm σm' → acE a σm' 0 = 9 → (∀ j, ¬ (12 ≤ j ∧ j ≤ 16) → gA σm' j = gA σm j) → kQ t n i + 1 ≤ kQ t n (i + 1) → Q 1 σc' () σm') (k2 : ∀ σc' σm', FP σc' σm' → Q 0 σc' () σm') : R2 (bd (x4_take N σc 9) (fun r12 σ13 => (if r12 = 0 then some ((0 : Int32), σ13) else some (1, σ13)))) (m_statement_183 N σm) Q := by
  unfold m_statement_183
  refine r2_bdR (n_emit hM.2.1 hM.2.2.1) (fun r σ1 e => ?_)
  obtain ⟨ha, rfl, e2, e3, e4⟩ := e
  have hM1 := mM_em hM ha e2 e3 e4
  refine R2.mono (r_semi hN hT hC hM1) (fun rc σ6 _ σ7 w => ?_)
  rcases w with ⟨rfl, w0, w1, w2, w3, w4⟩ | ⟨rfl, w⟩
  · refine k1 σ6 σ7 w0 w1 w2 (fmV_tr (fmV_em e2 e3) (fmV_tk w3)) ?_ (fun j hj => ?_) w4
    · have : acE a σ7 0 = acE a σ1 0 := by unfold acE; rw [w3.1]
      rw [this]
      exact (emV (c := c) e2).1
    · rw [w3.1 j, e2, emA_o (by omega)]
  · exact k2 σ6 σ7 w
theorem r_ret {t : Nat → Int32} {n g i s a c u N : Nat} {σc σm : St} (hN : 8589934592 ≤ N) (hT : Tp t n) (hC : MC t n g i s σc) (hs : s < 304) (hM : MM t n i a c σm) (hU : UsR g u σc σm) (hL : gI σc 407 = gI σm 34) (k20 : kK t n i = 20) : R2 (x4_readReturn N σc) (bd (m_emit N σm 0 0 0 0) (fun r25 σ26 => bd (m_next N σ26) (fun _ σ28 => bd (m_isSign N σ28 59) (fun r29 σ30 => (if r29 = 0 then bd (m_worth N σ30) (fun _ σ32 => m_statement_183 N σ32) else bd (m_emit N σ30 1 0 0 0) (fun r37 σ38 => m_statement_183 N σ38)))))) (fun rc σc' _ σm' => RowQ t n g i s a c 3 RE σc σm rc σc' σm') := by
  have hi := hC.1.2.2.1
  have hg := hC.2.1.1
  have hb := pg_b hg
  have hk0 : ¬ kK t n i = 0 := by rw [k20]; decide
  have hup := kQ_word (d := 6) k20 (Or.inr (Or.inr (Or.inr (Or.inr (Or.inl ⟨rfl, rfl⟩)))))
  have hC1 := mC_up hT hC hk0
  unfold x4_readReturn
  rw [hC.2.1.2.2, pg_cd hg, gd_t, hC.1.2.1, nI_1]
  refine r2_bdR (n_emit hM.2.1 hM.2.2.1) (fun r σ1 e => ?_)
  obtain ⟨ha, rfl, e2, e3, e4⟩ := e
  have hM1 := mM_em hM ha e2 e3 e4
  have em1 := emV (c := c) e2
  have hU1 := usR_em hU e2
  refine r2_bdR (sm_next hN hT hM1.1) (fun _ σ2 z => ?_)
  obtain ⟨z1, z2, -⟩ := z
  have hM2 := mM_tk hM1 z2 z1
  have hU2 := usR_n (v := nI (i + 1)) hg hU1 z2
  have f02 : FmV a c σm σ2 := fmV_tr (fmV_em e2 e3) (fmV_tk z2)
  have a0 : acE a σ2 0 = 0 := by
    have : acE a σ2 0 = acE a σ1 0 := by unfold acE; rw [z2.1]
    rw [this]
    exact em1.1
  refine r2_bdL (st_add (op := 6) (ow := gI σc 407) hC1 hs) (fun r σ3 y => ?_)
  obtain ⟨rfl, y1, y2, y3, y4, y5⟩ := y
  have hU3 := usR_add (s := s) (i := i) (op := 6) (ow := 6) hg hU2 y2 y4
  have y5' : gA σ3 (g + 2) = nrow (gA σc (g + 2)) s 6 (gI σc 407) := y5
  have hz : gA σ3 (g + 2) (12 * s + 8) = 0 := by rw [y5', nrow_z (by decide) (by decide)]
  have c03 : FcR g s σc σ3 := ⟨fun k k1 k2 k3 => (y2 k k3).trans (gI_ne (fun w => k1 w.symm)), fun k => y3 k, fun j j1 _ _ _ => y4 j j1, fun x hx => by rw [y5', nrow_lt hx]⟩
  have hL3 : gI σ3 407 = gI σ2 34 := by
    rw [y2 407 (by omega), gI_ne (by decide), z2.2.1 34 (by omega), e3 34 (by decide)]
    exact hL
  rw [sc_seen hT y1.1, bd_s, sm_sign hM2.1 (k := 9) (c := 59) (Or.inr (Or.inr (Or.inr (Or.inr (Or.inr (Or.inl ⟨rfl, rfl⟩)))))), bd_s]
  by_cases k9 : kK t n (i + 1) = 9
  · have hk90 : ¬ kK t n (i + 1) = 0 := by rw [k9]; decide
    rw [if_pos k9, if_neg (show ¬ (1 : Int32) = 0 by decide), if_neg (show ¬ (1 : Int32) = 0 by decide), y1.2.1.2.2, pg_cd hg, gd_t]
    show R2 (bd (x0_set N σ3 (g + 1) (nI s) (nI 4) 0) _) _ _
    rw [c_set hg y1.2.2.1 y1.2.2.2 (by omega) (by decide), bd_s, show gI (sA σ3 (g + 2) (12 * s + 4) 0) 405 = nI (i + 1) from y1.1.2.1, nI_1]
    refine r2_bdR (n_emit hM2.2.1 hM2.2.2.1) (fun r σ4 f => ?_)
    obtain ⟨fa, rfl, f2, f3, f4⟩ := f
    have hM4 := mM_em hM2 fa f2 f3 f4
    have em4 := emV (c := c) f2
    unfold m_statement_183
    refine r2_bdR (n_emit hM4.2.1 hM4.2.2.1) (fun r σ5 h => ?_)
    obtain ⟨ha5, rfl, h2, h3, h4⟩ := h
    have hM5 := mM_em hM4 ha5 h2 h3 h4
    have em5 := emV (c := c) h2
    refine r2_bdR (sm_wantsY hN hT hM5.1 (k := 9) (c := 59) (Or.inr (Or.inr (Or.inr (Or.inr (Or.inr (Or.inl ⟨rfl, rfl⟩)))))) k9) (fun _ σ6 w => ?_)
    obtain ⟨w1, w2⟩ := w
    generalize eF : sI (sA σ3 (g + 2) (12 * s + 4) 0) 405 (nI (i + 1 + 1)) = σF
    have aF : gA σF (g + 2) = upd (gA σ3 (g + 2)) (12 * s + 4) 0 := by
      rw [← eF]
      show gA (sA σ3 (g + 2) (12 * s + 4) 0) (g + 2) = _
      rw [gA_sA, if_pos rfl]
    have d4 : rwD g s σF 4 = 0 := by unfold rwD; rw [aF, upd_eq]
    have d0 : rwD g s σF 0 = 6 := by unfold rwD; rw [aF, upd_ne (by omega), y5', nrow_0]
    have d11 : rwD g s σF 11 = gI σc 407 := by unfold rwD; rw [aF, upd_ne (by omega), y5', nrow_11]
    have hCF : MC t n g (i + 1 + 1) (s + 1) σF := by rw [← eF]; exact mC_up hT (mC_row y1) hk90
    have hUF : UsR g u σF σ6 := by rw [← eF]; exact usR_n hg (usR_row hg (usR_em (usR_em hU3 f2) h2)) w2
    have f46 : FmV (a + 1 + 1) c σ4 σ6 := fmV_tr (fmV_em h2 h3) (fmV_tk w2)
    have f26 : FmV (a + 1) c σ2 σ6 := fmV_tr (fmV_em f2 f3) (fmV_le f46 (by omega))
    have hup1 := (kQ_up (t := t) (n := n) (i := i + 1)).2.1
    have hup1' := (kQ_up (t := t) (n := n) (i := i + 1)).1
    refine r2_some (Or.inl ⟨rfl, i + 1 + 1, c, u, hCF, mM_tk hM5 w2 w1, hUF, ?_, fmV_tr f02 (fmV_le f26 (by omega)), Or.inl ⟨by rw [d4]; decide, rfl⟩, ⟨d0, (acE_keep f26 (by omega) (by omega)).trans a0, Or.inl ⟨d4, ?_⟩, ?_⟩, d11, by omega⟩)
    · rw [← eF]
      exact fcR_tr c03 (fcR_tr fcR_row (fcR_v fcV_n))
    · exact (acE_keep f46 (by omega) (by omega)).trans em4.1
    · have : acE (a + 2) σ6 0 = acE (a + 1 + 1) σ5 0 := by unfold acE; rw [w2.1]
      exact this.trans em5.1
  · rw [if_neg k9, if_pos rfl, if_pos rfl]
    refine r2_bd (r_value hN hT y1 hM2 hU3 hL3 (by omega) hz) (fun r4 σ4 _ σ5 q => ?_)
    rcases q with ⟨rfl, i2, c2, u2, v1, v2, v3, v4, v5, v6, v7, v8, v9⟩ | ⟨rfl, q⟩
    · rw [if_neg (show ¬ (1 : Int32) = 0 by decide)]
      refine r_retTail (c0 := c) (a0 := a) hN hT v1 v2 (by omega) (fun σc' σm' w0 w1 w2 w3 w4 w5 w6 => ?_) (fun σc' σm' w => Or.inr ⟨rfl, w⟩)
      subst w0
      obtain ⟨x1, x2⟩ := val_keep (v := nI (i2 + 1)) (σm2 := σm') (fun j h1 h2 => w3.2.2.1 j (1300 + (a + 1)) h1 h2 (by omega)) (fun j h1 h2 => w5 j (by omega)) v6 v7
      have f26 : FmV (a + 1) c σ2 σm' := fmV_tr v5 (fmV_le w3 (by omega))
      have dq : ∀ q, ¬ (4 ≤ q ∧ q ≤ 9) → rwD g s (sI σ4 405 (nI (i2 + 1))) q = gA σ3 (g + 2) (12 * s + q) := fun q hq => v4.2.2.2 (12 * s + q) (by omega)
      have hU6 : UsR g u2 (sI σ4 405 (nI (i2 + 1))) σm' := by
        obtain ⟨u1, u2', u3, u4⟩ := v3
        refine ⟨(gI_ne (by omega)).trans u1, by rw [w5 26 (by omega)]; exact u2', u3, fun k hk => ?_⟩
        rw [w5 23 (by omega), w5 24 (by omega), w5 25 (by omega)]
        exact u4 k hk
      refine Or.inl ⟨rfl, i2 + 1, c2, u2, w1, w2, hU6, fcR_tr c03 (fcR_tr (fcR_v v4) (fcR_v fcV_n)), fmV_tr f02 (fmV_le f26 (by omega)), x2, ⟨?_, (acE_keep f26 (by omega) (by omega)).trans a0, x1, w4⟩, ?_, by omega⟩
      · rw [dq 0 (by omega), y5', nrow_0]
      · rw [dq 11 (by omega), y5', nrow_11]
    · rw [if_pos rfl]
      unfold m_statement_183
      refine r2_bdR ff_emit (fun r σ9 w => ?_)
      have hf2 := fp_m q w.1 w.2
      rw [ff_wants (fp_ne hf2), bd_s]
      exact r2_some (Or.inr ⟨rfl, hf2⟩)
