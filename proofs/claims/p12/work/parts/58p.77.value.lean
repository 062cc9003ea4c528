/-! a VALUE: both sides -/
/-- row d of the class against act e of the reference -/
def VR (d e : Nat → Int32) : Prop := (d 4 = 0 ∧ e 0 = 1) ∨ (d 4 = 1 ∧ e 0 = 2) ∨ (d 4 = 2 ∧ e 0 = 3 ∧ e 1 = d 5 ∧ e 2 = d 6) ∨ (d 4 = 3 ∧ e 0 = 4 ∧ e 1 = d 5) ∨ (d 4 = 4 ∧ e 0 = 5 ∧ e 1 = d 5 ∧ e 2 = d 6 ∧ e 3 = d 7) ∨ (d 4 = 5 ∧ e 0 = 6 ∧ e 1 = d 6 ∧ ∃ k b : Nat, k ≤ 4 ∧ b < 2 ^ 20 ∧ d 8 = nI (k * 2 ^ 20 + b) ∧ e 2 = nI k ∧ e 4 = nI b ∧ A26 k b)
/-- the call that a row has, if it has one, against call c of the reference -/
def CR (d : Nat → Int32) (c c' : Nat) (σm : St) : Prop := (¬ d 4 = 5 ∧ c' = c) ∨ (d 4 = 5 ∧ c' = c + 1 ∧ gA σm 30 c = d 9 ∧ gA σm 31 c = d 6 ∧ ∃ k b : Nat, k ≤ 4 ∧ b < 2 ^ 20 ∧ d 8 = nI (k * 2 ^ 20 + b) ∧ gA σm 32 c = nI k ∧ ∃ l : Nat, l < 8 ∧ d 6 = nI l)
def rwD (g pc : Nat) (σ : St) : Nat → Int32 := fun q => gA σ (g + 2) (12 * pc + q)
def acE (a : Nat) (σ : St) : Nat → Int32 := fun j => gA σ (12 + j) (1300 + a)
def ValQ (t : Nat → Int32) (n g i0 S a c u pc : Nat) (σc0 σm0 : St) (rc : Int32) (σc : St) (σm : St) : Prop := (rc = 1 ∧ ∃ i c' u' : Nat, MC t n g i S σc ∧ MM t n i (a + 1) c' σm ∧ UsR g u' σc σm ∧ FcV g pc σc0 σc ∧ FmV a c σm0 σm ∧ VR (rwD g pc σc) (acE a σm) ∧ CR (rwD g pc σc) c c' σm ∧ kQ t n i0 + 1 ≤ kQ t n i ∧ a ≤ 1299) ∨ (rc = 0 ∧ FP σc σm)
theorem ff_emit {N : Nat} {σ : St} {x y z w : Int32} : Par (m_emit N σ x y z w) (fun _ σ' => gI σ' 8 = gI σ 8 ∧ gI σ' 9 = gI σ 9) := by
  unfold m_emit
  exact par_gd (fun _ => par_gd (fun _ => par_gd (fun _ => par_gd (fun _ => par_some ⟨gI_ne (by decide), gI_ne (by decide)⟩))))
theorem r2_isb {τ : Type} {o : Option (Int32 × St)} {om : Option (τ × St)} {Q : Int32 → St → τ → St → Prop} (h : R2 o om Q) : R2 (bd o (fun r σ => gd (isb r) (some (r, σ)))) om Q := fun rc σc rm σm e1 e2 => by
  obtain ⟨r1, σ1, e3, e4⟩ := bd_some e1
  obtain ⟨-, e5⟩ := gd_some e4
  cases e5
  exact h _ _ _ _ e3 e2
/-- a VALUE of one token and no more -/
theorem val_1 {t : Nat → Int32} {n g i S a c u pc N : Nat} {σc σm : St} {kd x : Int32} (hN : 8589934592 ≤ N) (hT : Tp t n) (hC : MC t n g i S σc) (hM : MM t n i a c σm) (hU : UsR g u σc σm) (hpc : pc < S) (hk0 : ¬ kK t n i = 0) (hv : (kd = 0 ∧ x = 1) ∨ (kd = 1 ∧ x = 2)) : R2 (some ((1 : Int32), sI (sA σc (g + 2) (12 * pc + 4) kd) 405 (nI (i + 1)))) (bd (m_next N σm) (fun _ σ38 => bd (m_emit N σ38 x 0 0 0) (fun _ σ40 => some ((), σ40)))) (fun rc σc' _ σm' => ValQ t n g i S a c u pc σc σm rc σc' σm') := by
  have hg := hC.2.1.1
  refine r2_bdR (sm_next hN hT hM.1) (fun _ σ1 z => ?_)
  obtain ⟨z1, z2, z3⟩ := z
  have hM1 := mM_tk hM z2 z1
  refine r2_bdR (n_emit hM1.2.1 hM1.2.2.1) (fun r σ2 y => ?_)
  obtain ⟨ha, rfl, y2, y3, y4⟩ := y
  have hd4 : rwD g pc (sI (sA σc (g + 2) (12 * pc + 4) kd) 405 (nI (i + 1))) 4 = kd := by
    show gA (sA σc (g + 2) (12 * pc + 4) kd) (g + 2) (12 * pc + 4) = kd
    rw [gA_sA, if_pos rfl, upd_eq]
  have he0 : acE a σ2 0 = x := by
    show gA σ2 12 (1300 + a) = x
    rw [y2, em12, upd_eq]
  refine r2_some (Or.inl ⟨rfl, i + 1, c, u, mC_up hT (mC_row hC) hk0, mM_em hM1 ha y2 y3 y4, usR_em (usR_n hg (usR_row hg hU) z2) y2, fcV_tr (fcV_r (by decide) (by decide)) fcV_n, fmV_tr (fmV_tk z2) (fmV_em y2 y3), ?_, Or.inl ⟨?_, rfl⟩, (kQ_up (t := t) (n := n) (i := i)).2.2 hk0, ha⟩)
  · rcases hv with ⟨rfl, rfl⟩ | ⟨rfl, rfl⟩
    · exact Or.inl ⟨hd4, he0⟩
    · exact Or.inr (Or.inl ⟨hd4, he0⟩)
  · rw [hd4]
    rcases hv with ⟨rfl, -⟩ | ⟨rfl, -⟩ <;> decide
theorem r_value {t : Nat → Int32} {n g i S a c u pc N : Nat} {σc σm : St} (hN : 8589934592 ≤ N) (hT : Tp t n) (hC : MC t n g i S σc) (hM : MM t n i a c σm) (hU : UsR g u σc σm) (hL : gI σc 407 = gI σm 34) (hpc : pc < S) (hz : gA σc (g + 2) (12 * pc + 8) = 0) : R2 (x4_readValue N σc (nI pc)) (m_worth N σm) (fun rc σc' _ σm' => ValQ t n g i S a c u pc σc σm rc σc' σm') := by
  have hi := hC.1.2.2.1
  have hg := hC.2.1.1
  have hb := pg_b hg
  have h8 := hM.1.2.2.2.2.2
  obtain ⟨v1, v2, -, v4, v5⟩ := sv_srt hM.1.2.2.2.2.1
  unfold x4_readValue m_worth
  rw [hC.1.2.1, sc_kind hT hC.1 (by omega), bd_s, if_pos h8, sm_word hM.1 (k := 17) (c := 5) (Or.inr (Or.inr (Or.inr (Or.inr (Or.inr (Or.inl ⟨rfl, rfl⟩)))))), bd_s]
  by_cases k17 : kK t n i = 17
  · have hk0 : ¬ kK t n i = 0 := by rw [k17]; decide
    rw [k17, if_neg (show ¬ (17 : Int32) = 2 by decide), if_neg (show ¬ (17 : Int32) = 3 by decide), if_pos rfl, if_pos rfl, if_neg (show ¬ (1 : Int32) = 0 by decide), hC.2.1.2.2, pg_cd hg]
    show R2 (bd (x0_set N σc (g + 1) (nI pc) (nI 4) 0) _) _ _
    rw [c_set hg hC.2.2.1 hC.2.2.2 hpc (by decide), bd_s, show gI (sA σc (g + 2) (12 * pc + 4) 0) 405 = nI i from hC.1.2.1, nI_1]
    exact val_1 hN hT hC hM hU hpc hk0 (Or.inl ⟨rfl, rfl⟩)
  rw [if_pos (show (if kK t n i = 17 then (1 : Int32) else 0) = 0 from if_neg k17), sm_word hM.1 (k := 19) (c := 7) (Or.inr (Or.inr (Or.inr (Or.inr (Or.inr (Or.inr (Or.inr (Or.inl ⟨rfl, rfl⟩)))))))), bd_s]
  by_cases k19 : kK t n i = 19
  · have hk0 : ¬ kK t n i = 0 := by rw [k19]; decide
    rw [k19, if_neg (show ¬ (19 : Int32) = 2 by decide), if_neg (show ¬ (19 : Int32) = 3 by decide), if_neg (show ¬ (19 : Int32) = 17 by decide), if_neg (show ¬ (19 : Int32) = 18 by decide), if_pos rfl, if_pos rfl, if_neg (show ¬ (1 : Int32) = 0 by decide), hC.2.1.2.2, pg_cd hg]
    show R2 (bd (x0_set N σc (g + 1) (nI pc) (nI 4) 1) _) _ _
    rw [c_set hg hC.2.2.1 hC.2.2.2 hpc (by decide), bd_s, show gI (sA σc (g + 2) (12 * pc + 4) 1) 405 = nI i from hC.1.2.1, nI_1]
    exact val_1 hN hT hC hM hU hpc hk0 (Or.inr ⟨rfl, rfl⟩)
  rw [if_pos (show (if kK t n i = 19 then (1 : Int32) else 0) = 0 from if_neg k19), sm_word hM.1 (k := 18) (c := 6) (Or.inr (Or.inr (Or.inr (Or.inr (Or.inr (Or.inr (Or.inl ⟨rfl, rfl⟩))))))), bd_s]
  by_cases k18 : kK t n i = 18
  · -- new NAME NAME
    have hk0 : ¬ kK t n i = 0 := by rw [k18]; decide
    rw [k18, if_neg (show ¬ (18 : Int32) = 2 by decide), if_neg (show ¬ (18 : Int32) = 3 by decide), if_neg (show ¬ (18 : Int32) = 17 by decide), if_pos rfl, if_pos rfl, if_neg (show ¬ (1 : Int32) = 0 by decide), hC.2.1.2.2, pg_cd hg]
    show R2 (bd (x0_set N σc (g + 1) (nI pc) (nI 4) 2) _) _ _
    rw [c_set hg hC.2.2.1 hC.2.2.2 hpc (by decide), bd_s, show gI (sA σc (g + 2) (12 * pc + 4) 2) 405 = nI i from hC.1.2.1, nI_1]
    have hC1 := mC_up hT (mC_row (x := 12 * pc + 4) (v := 2) hC) hk0
    refine r2_bdR (sm_next hN hT hM.1) (fun _ σ1 z => ?_)
    obtain ⟨z1, z2, z3⟩ := z
    have hM1 := mM_tk hM z2 z1
    have hU1 := usR_n (v := nI (i + 1)) hg (usR_row (x := 12 * pc + 4) (v := 2) hg hU) z2
    have hup := (kQ_up (t := t) (n := n) (i := i)).2.2 hk0
    -- the first NAME
    have name : ∀ (σ σ4 : St) (i1 : Nat) (q : Nat), MC t n g i1 S σ → SyM t n i1 σ4 → q < 12 → R2 (x4_readName N σ (nI pc) (nI q)) (m_taken N σ4 0) (fun rc σ' rm σ4' => (rc = 1 ∧ rm = kL t n i1 ∧ ¬ kK t n i1 = 0 ∧ σ' = sI (sA σ (g + 2) (12 * pc + q) (kL t n i1)) 405 (nI (i1 + 1)) ∧ SyM t n (i1 + 1) σ4' ∧ Tk σ4 σ4') ∨ (rc = 0 ∧ FP σ' σ4')) := by
      intro σ σ4 i1 q hCa hMa hq
      have hia := hCa.1.2.2.1
      unfold x4_readName
      rw [hCa.1.2.1, sc_letter hT hCa.1 (by omega), bd_s, hCa.2.1.2.2, pg_cd hg]
      show R2 (bd (x0_set N σ (g + 1) (nI pc) (nI q) (kL t n i1)) _) _ _
      rw [c_set hg hCa.2.2.1 hCa.2.2.2 hpc hq, bd_s]
      have hCb := mC_row (x := 12 * pc + q) (v := kL t n i1) hCa
      by_cases k2 : kK t n i1 = 2
      · rw [sc_takeY hT hCb.1 k2, bd_s]
        refine r2_gdL (fun _ => fun rc σ' rm σ4' e1 e2 => ?_)
        cases e1
        have := sm_takenY hN hT hMa (k := 2) (Or.inl ⟨rfl, rfl⟩) k2 _ _ e2
        exact Or.inl ⟨rfl, this.1, by rw [k2]; decide, rfl, this.2.1, this.2.2⟩
      · rw [sc_takeN hT hCb.1 k2, bd_s, sm_takenN hMa (k := 2) (Or.inl ⟨rfl, rfl⟩) k2]
        exact r2_gdL (fun _ => r2_some (Or.inr ⟨rfl, fp_of (k := 1) (by decide) rfl rfl⟩))
    refine r2_bd (name _ _ (i + 1) 5 hC1 hM1.1 (by decide)) (fun r5 σ5 r6 σ6 y => ?_)
    rcases y with ⟨rfl, rfl, y0, rfl, y1, y2⟩ | ⟨rfl, y⟩
    · rw [if_neg (show ¬ (1 : Int32) = 0 by decide)]
      have hC2 := mC_up hT (mC_row (x := 12 * pc + 5) (v := kL t n (i + 1)) hC1) y0
      have hM2 := mM_tk hM1 y2 y1
      have hU2 := usR_n (v := nI (i + 1 + 1)) hg (usR_row (x := 12 * pc + 5) (v := kL t n (i + 1)) hg hU1) y2
      refine r2_bd (name _ _ (i + 1 + 1) 6 hC2 hM2.1 (by decide)) (fun r7 σ7 r8 σ8 x => ?_)
      rcases x with ⟨rfl, rfl, x0, rfl, x1, x2⟩ | ⟨rfl, x⟩
      · rw [if_neg (show ¬ (1 : Int32) = 0 by decide)]
        have hC3 := mC_up hT (mC_row (x := 12 * pc + 6) (v := kL t n (i + 1 + 1)) hC2) x0
        have hM3 := mM_tk hM2 x2 x1
        have hU3 := usR_n (v := nI (i + 1 + 1 + 1)) hg (usR_row (x := 12 * pc + 6) (v := kL t n (i + 1 + 1)) hg hU2) x2
        refine r2_bdR (n_emit hM3.2.1 hM3.2.2.1) (fun r σ9 w => ?_)
        obtain ⟨ha, rfl, w2, w3, w4⟩ := w
        have hup1 := (kQ_up (t := t) (n := n) (i := i + 1)).2.1
        have hup1' := (kQ_up (t := t) (n := n) (i := i + 1)).1
        have hup2 := (kQ_up (t := t) (n := n) (i := i + 1 + 1)).2.1
        have hup2' := (kQ_up (t := t) (n := n) (i := i + 1 + 1)).1
        generalize eF : sI (sA (sI (sA (sI (sA σc (g + 2) (12 * pc + 4) 2) 405 (nI (i + 1))) (g + 2) (12 * pc + 5) (kL t n (i + 1))) 405 (nI (i + 1 + 1))) (g + 2) (12 * pc + 6) (kL t n (i + 1 + 1))) 405 (nI (i + 1 + 1 + 1)) = σF at *
        have aF : gA σF (g + 2) = upd (upd (upd (gA σc (g + 2)) (12 * pc + 4) 2) (12 * pc + 5) (kL t n (i + 1))) (12 * pc + 6) (kL t n (i + 1 + 1)) := by
          rw [← eF]
          show gA (sA (sA (sA σc (g + 2) (12 * pc + 4) 2) (g + 2) (12 * pc + 5) (kL t n (i + 1))) (g + 2) (12 * pc + 6) (kL t n (i + 1 + 1))) (g + 2) = _
          rw [gA_sA, if_pos rfl, gA_sA, if_pos rfl, gA_sA, if_pos rfl]
        have d4 : rwD g pc σF 4 = 2 := by unfold rwD; rw [aF, upd_ne (by omega), upd_ne (by omega), upd_eq]
        have d5 : rwD g pc σF 5 = kL t n (i + 1) := by unfold rwD; rw [aF, upd_ne (by omega), upd_eq]
        have d6 : rwD g pc σF 6 = kL t n (i + 1 + 1) := by unfold rwD; rw [aF, upd_eq]
        refine r2_some (Or.inl ⟨rfl, i + 1 + 1 + 1, c, u, hC3, mM_em hM3 ha w2 w3 w4, usR_em hU3 w2, ?_, fmV_tr (fmV_tk z2) (fmV_tr (fmV_tk y2) (fmV_tr (fmV_tk x2) (fmV_em w2 w3))), Or.inr (Or.inr (Or.inl ⟨d4, ?_, ?_, ?_⟩)), Or.inl ⟨by rw [d4]; decide, rfl⟩, by omega, ha⟩)
        · rw [← eF]
          exact fcV_tr (fcV_tr (fcV_tr (fcV_tr (fcV_tr (fcV_r (by decide) (by decide)) fcV_n) (fcV_r (by decide) (by decide))) fcV_n) (fcV_r (by decide) (by decide))) fcV_n
        · show gA σ9 12 (1300 + a) = 3
          rw [w2, em12, upd_eq]
        · rw [d5]
          show gA σ9 13 (1300 + a) = _
          rw [w2, em13, upd_eq]
        · rw [d6]
          show gA σ9 14 (1300 + a) = _
          rw [w2, em14, upd_eq]
      · rw [if_pos rfl]
        exact r2_bdR ff_emit (fun r σ9 w => r2_some (Or.inr ⟨rfl, fp_m x w.1 w.2⟩))
    · rw [if_pos rfl, ff_taken (fp_ne y), bd_s]
      exact r2_bdR ff_emit (fun r σ9 w => r2_some (Or.inr ⟨rfl, fp_m y w.1 w.2⟩))
  rw [if_pos (show (if kK t n i = 18 then (1 : Int32) else 0) = 0 from if_neg k18)]
  by_cases k2 : kK t n i = 2
  · have hk0 : ¬ kK t n i = 0 := by rw [k2]; decide
    rw [if_pos k2, if_pos (v1.mpr k2)]
    have hup := (kQ_up (t := t) (n := n) (i := i)).2.2 hk0
    refine r2_isb ?_
    unfold x4_readNameOrField
    rw [hC.1.2.1, sc_letter hT hC.1 (by omega), bd_s, hC.2.1.2.2, pg_cd hg]
    show R2 (bd (x0_set N σc (g + 1) (nI pc) (nI 5) (kL t n i)) _) _ _
    rw [c_set hg hC.2.2.1 hC.2.2.2 hpc (by decide), bd_s, show gI (sA σc (g + 2) (12 * pc + 5) (kL t n i)) 405 = nI i from hC.1.2.1, nI_1]
    have hC1 := mC_up hT (mC_row (x := 12 * pc + 5) (v := kL t n i) hC) hk0
    refine r2_bdR (sm_takenY hN hT hM.1 (k := 2) (Or.inl ⟨rfl, rfl⟩) k2) (fun r σ1 z => ?_)
    obtain ⟨rfl, z1, z2⟩ := z
    have hM1 := mM_tk hM z2 z1
    have hU1 := usR_n (v := nI (i + 1)) hg (usR_row (x := 12 * pc + 5) (v := kL t n i) hg hU) z2
    rw [sc_seen hT hC1.1, bd_s, sm_sign hM1.1 (k := 11) (c := 46) (Or.inr (Or.inr (Or.inr (Or.inr (Or.inr (Or.inr (Or.inr ⟨rfl, rfl⟩))))))), bd_s]
    by_cases k11 : kK t n (i + 1) = 11
    · have hk10 : ¬ kK t n (i + 1) = 0 := by rw [k11]; decide
      have hup1 := (kQ_up (t := t) (n := n) (i := i + 1)).2.2 hk10
      rw [if_pos k11, if_neg (show ¬ (1 : Int32) = 0 by decide), if_neg (show ¬ (1 : Int32) = 0 by decide), hC1.2.1.2.2, pg_cd hg]
      show R2 (bd (x0_set N _ (g + 1) (nI pc) (nI 4) 4) _) _ _
      rw [c_set hg hC1.2.2.1 hC1.2.2.2 hpc (by decide), bd_s, bd_use, hM.1.2.2.2.1]
      have hC2 := mC_row (x := 12 * pc + 4) (v := 4) hC1
      have hU2 := usR_row (x := 12 * pc + 4) (v := 4) hg hU1
      have hL2 : gI (sA (sI (sA σc (g + 2) (12 * pc + 5) (kL t n i)) 405 (nI (i + 1))) (g + 2) (12 * pc + 4) 4) 407 = gI σ1 34 := by
        show gI (sI (sA σc (g + 2) (12 * pc + 5) (kL t n i)) 405 (nI (i + 1))) 407 = _
        rw [gI_ne (by decide), z2.2.1 34 (by omega)]
        exact hL
      refine r2_bd (r_use (q := 7) (j := i) hN hT hC2 hM1 hU2 hL2 hpc (by decide) (by omega) hk10) (fun r3 σ3 r4 σ4 y => ?_)
      rcases y with ⟨rfl, rfl, y1, y2, y3, y4, y5, y6, y7, y8⟩ | ⟨rfl, y⟩
      · rw [if_neg (show ¬ (1 : Int32) = 0 by decide)]
        refine r2_bd (r_field (q := 6) hN hT y1 y2 y3 hpc (by decide)) (fun r5 σ5 r6 σ6 x => ?_)
        rcases x with ⟨rfl, x0, rfl, x1, x2, x3, x4, x5⟩ | ⟨rfl, x⟩
        · rw [if_neg (show ¬ (1 : Int32) = 0 by decide)]
          have hup2 := (kQ_up (t := t) (n := n) (i := i + 1 + 1)).2.1
          have hup2' := (kQ_up (t := t) (n := n) (i := i + 1 + 1)).1
          refine r2_bdR (n_emit x2.2.1 x2.2.2.1) (fun r σ9 w => ?_)
          obtain ⟨ha, rfl, w2, w3, w4⟩ := w
          generalize eF : sI (sA σ3 (g + 2) (12 * pc + 6) r6) 405 (nI (i + 1 + 1 + 1)) = σF at *
          have aF : gA σF (g + 2) = upd (upd (upd (upd (gA σc (g + 2)) (12 * pc + 5) (kL t n i)) (12 * pc + 4) 4) (12 * pc + 7) (nI u)) (12 * pc + 6) r6 := by
            rw [← eF]
            show gA (sA σ3 (g + 2) (12 * pc + 6) r6) (g + 2) = _
            rw [gA_sA, if_pos rfl, y8]
            show upd (upd (gA (sA (sA σc (g + 2) (12 * pc + 5) (kL t n i)) (g + 2) (12 * pc + 4) 4) (g + 2)) (12 * pc + 7) (nI u)) (12 * pc + 6) r6 = _
            rw [gA_sA, if_pos rfl, gA_sA, if_pos rfl]
          have d4 : rwD g pc σF 4 = 4 := by unfold rwD; rw [aF, upd_ne (by omega), upd_ne (by omega), upd_eq]
          have d5 : rwD g pc σF 5 = kL t n i := by unfold rwD; rw [aF, upd_ne (by omega), upd_ne (by omega), upd_ne (by omega), upd_eq]
          have d6 : rwD g pc σF 6 = r6 := by unfold rwD; rw [aF, upd_eq]
          have d7 : rwD g pc σF 7 = nI u := by unfold rwD; rw [aF, upd_ne (by omega), upd_eq]
          refine r2_some (Or.inl ⟨rfl, i + 1 + 1 + 1, c, u + 1, x1, mM_em x2 ha w2 w3 w4, usR_em x3 w2, ?_, fmV_tr (fmV_tk z2) (fmV_tr y4 (fmV_tr (fmV_tk x4) (fmV_em w2 w3))), Or.inr (Or.inr (Or.inr (Or.inr (Or.inl ⟨d4, ?_, ?_, ?_, ?_⟩)))), Or.inl ⟨by rw [d4]; decide, rfl⟩, by omega, ha⟩)
          · rw [← eF]
            refine fcV_tr (fcV_tr (fcV_tr (fcV_r (by decide) (by decide)) fcV_n) (fcV_r (by decide) (by decide))) (fcV_tr ⟨y5, y6, y7, fun x hx => ?_⟩ (fcV_tr (fcV_r (by decide) (by decide)) fcV_n))
            rw [y8, upd_ne (by omega)]
          · show gA σ9 12 (1300 + a) = 5
            rw [w2, em12, upd_eq]
          · rw [d5]
            show gA σ9 13 (1300 + a) = _
            rw [w2, em13, upd_eq]
          · rw [d6]
            show gA σ9 14 (1300 + a) = _
            rw [w2, em14, upd_eq]
          · rw [d7]
            show gA σ9 15 (1300 + a) = _
            rw [w2, em15, upd_eq]
        · rw [if_pos rfl]
          exact r2_bdR ff_emit (fun r σ9 w => r2_some (Or.inr ⟨rfl, fp_m x w.1 w.2⟩))
      · rw [if_pos rfl, ff_field (fp_ne y), bd_s]
        exact r2_bdR ff_emit (fun r σ9 w => r2_some (Or.inr ⟨rfl, fp_m y w.1 w.2⟩))
    · rw [if_neg k11, if_pos rfl, if_pos rfl, hC1.2.1.2.2, pg_cd hg]
      show R2 (bd (x0_set N _ (g + 1) (nI pc) (nI 4) 3) _) _ _
      rw [c_set hg hC1.2.2.1 hC1.2.2.2 hpc (by decide), bd_s]
      refine r2_bdR (n_emit hM1.2.1 hM1.2.2.1) (fun r σ9 w => ?_)
      obtain ⟨ha, rfl, w2, w3, w4⟩ := w
      generalize eF : sA (sI (sA σc (g + 2) (12 * pc + 5) (kL t n i)) 405 (nI (i + 1))) (g + 2) (12 * pc + 4) 3 = σF at *
      have aF : gA σF (g + 2) = upd (upd (gA σc (g + 2)) (12 * pc + 5) (kL t n i)) (12 * pc + 4) 3 := by
        rw [← eF]
        show gA (sA (sA σc (g + 2) (12 * pc + 5) (kL t n i)) (g + 2) (12 * pc + 4) 3) (g + 2) = _
        rw [gA_sA, if_pos rfl, gA_sA, if_pos rfl]
      have d4 : rwD g pc σF 4 = 3 := by unfold rwD; rw [aF, upd_eq]
      have d5 : rwD g pc σF 5 = kL t n i := by unfold rwD; rw [aF, upd_ne (by omega), upd_eq]
      have hCF : MC t n g (i + 1) S σF := by rw [← eF]; exact mC_row hC1
      have hUF : UsR g u σF σ1 := by rw [← eF]; exact usR_row hg hU1
      refine r2_some (Or.inl ⟨rfl, i + 1, c, u, hCF, mM_em hM1 ha w2 w3 w4, usR_em hUF w2, ?_, fmV_tr (fmV_tk z2) (fmV_em w2 w3), Or.inr (Or.inr (Or.inr (Or.inl ⟨d4, ?_, ?_⟩))), Or.inl ⟨by rw [d4]; decide, rfl⟩, by omega, ha⟩)
      · rw [← eF]
        exact fcV_tr (fcV_tr (fcV_r (by decide) (by decide)) fcV_n) (fcV_r (by decide) (by decide))
      · show gA σ9 12 (1300 + a) = 4
        rw [w2, em12, upd_eq]
      · rw [d5]
        show gA σ9 13 (1300 + a) = _
        rw [w2, em13, upd_eq]
  rw [if_neg k2, if_neg (fun z => k2 (v1.mp z))]
  by_cases k3 : kK t n i = 3
  · rw [if_pos k3, if_pos (v2.mpr k3)]
    refine r2_bd (r_call hN hT hC hM hU hpc hz k3) (fun r σ1 _ σ2 y => r2_gdL (fun _ => r2_some ?_))
    rcases y with ⟨rfl, i2, k, b, q1, q2, q3, q4, q5, q6, q7, q8, q9, q10, q11, q12, q13, q14, q15, q16, q17, q18, q19, q20⟩ | ⟨rfl, y⟩
    · have ha : a ≤ 1299 := by have := q4.2.2.1; omega
      obtain ⟨l, hl0, el, hl7⟩ := eL_b (q := kQ t n i) hT.1 hT.2
      have hl8 : l < 8 := by have := hl7 k3; omega
      exact Or.inl ⟨rfl, i2, c + 1, u, q3, q4, q5, q6, q7, Or.inr (Or.inr (Or.inr (Or.inr (Or.inr ⟨q8, q12, q13.trans q9.symm, k, b, q1, q2, q10, q14, q15, q20⟩)))), Or.inr ⟨q8, rfl, q16.trans q11.symm, q17.trans q9.symm, k, b, q1, q2, q10, q18, l, hl8, q9.trans el⟩, by omega, ha⟩
    · exact Or.inr ⟨rfl, y⟩
  · unfold x4_refuse m_wrong
    rw [if_neg k3, if_neg k17, if_neg k18, if_neg k19, if_neg (fun z => k3 (v2.mp z)), hC.1.2.1, sc_place hT hC.1 (by omega), bd_s, bd_s, if_pos h8, bd_s, hM.1.2.2.2.1]
    exact r2_gdL (fun _ => r2_some (Or.inr ⟨rfl, fp_of (k := 1) (by decide) rfl rfl⟩))
