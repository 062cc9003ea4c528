/-! a statement of one row: NAME = .., NAME.FIELD = .., a call, return -/
/-- what a new row s may change of the class -/
def FcR (g s : Nat) (σ σ' : St) : Prop := (∀ k, k ≠ 405 → k ≠ 100 * g + 11 → k ≠ 100 * (g + 1) + 1 → gI σ' k = gI σ k) ∧ (∀ k, gP σ' k = gP σ k) ∧ (∀ j, j ≠ g + 2 → j ≠ g + 6 → j ≠ g + 7 → j ≠ g + 8 → gA σ' j = gA σ j) ∧ (∀ x, x < 12 * s → gA σ' (g + 2) x = gA σ (g + 2) x)
theorem fcR_tr {g s : Nat} {σ σ1 σ2 : St} (h : FcR g s σ σ1) (h2 : FcR g s σ1 σ2) : FcR g s σ σ2 := ⟨fun k a b c => (h2.1 k a b c).trans (h.1 k a b c), fun k => (h2.2.1 k).trans (h.2.1 k), fun j a b c d => (h2.2.2.1 j a b c d).trans (h.2.2.1 j a b c d), fun x a => (h2.2.2.2 x a).trans (h.2.2.2 x a)⟩
theorem fcR_v {g s : Nat} {σ σ1 : St} (h : FcV g s σ σ1) : FcR g s σ σ1 := ⟨fun k a b _ => h.1 k a b, h.2.1, h.2.2.1, fun x hx => h.2.2.2 x (by omega)⟩
theorem fcR_row {g s q : Nat} {σ : St} {v : Int32} : FcR g s σ (sA σ (g + 2) (12 * s + q) v) := ⟨fun _ _ _ _ => rfl, fun _ => rfl, fun j a _ _ _ => by rw [gA_sA, if_neg a], fun x hx => by rw [gA_sA, if_pos rfl, upd_ne (by omega)]⟩
def RowQ (t : Nat → Int32) (n g i0 s a c len : Nat) (E : (Nat → Int32) → (Nat → Nat → Int32) → Prop) (σc0 σm0 : St) (rc : Int32) (σc : St) (σm : St) : Prop := (rc = 1 ∧ ∃ i c' u' : Nat, MC t n g i (s + 1) σc ∧ MM t n i (a + len) c' σm ∧ UsR g u' σc σm ∧ FcR g s σc0 σc ∧ FmV a c σm0 σm ∧ CR (rwD g s σc) c c' σm ∧ E (rwD g s σc) (fun k => acE (a + k) σm) ∧ rwD g s σc 11 = gI σc0 407 ∧ kQ t n i0 + 4 ≤ kQ t n i) ∨ (rc = 0 ∧ FP σc σm)
def PE (d : Nat → Int32) (A : Nat → Nat → Int32) : Prop := (d 0 = 3 ∧ A 0 0 = 0 ∧ VR d (A 1) ∧ A 2 0 = 7 ∧ A 2 1 = d 1) ∨ (d 0 = 4 ∧ A 0 0 = 0 ∧ VR d (A 1) ∧ A 2 0 = 8 ∧ A 2 1 = d 1 ∧ A 2 2 = d 2 ∧ A 2 3 = d 3)
def DE (d : Nat → Int32) (A : Nat → Nat → Int32) : Prop := d 0 = 5 ∧ A 0 0 = 0 ∧ VR d (A 1) ∧ d 4 = 5
def RE (d : Nat → Int32) (A : Nat → Nat → Int32) : Prop := d 0 = 6 ∧ A 0 0 = 0 ∧ VR d (A 1) ∧ A 2 0 = 9
theorem fmV_le {a a2 c : Nat} {σ σ' : St} (h : FmV a2 c σ σ') (ha : a ≤ a2) : FmV a c σ σ' := ⟨h.1, h.2.1, fun j k h1 h2 h3 => h.2.2.1 j k h1 h2 (by omega), h.2.2.2⟩
theorem emV {a c : Nat} {σ σ' : St} {x y z w : Int32} (he : gA σ' = emA (gA σ) a x y z w) : acE a σ' 0 = x ∧ acE a σ' 1 = y ∧ acE a σ' 2 = z ∧ acE a σ' 3 = w := by
  refine ⟨?_, ?_, ?_, ?_⟩
  · show gA σ' 12 (1300 + a) = x
    rw [he, em12, upd_eq]
  · show gA σ' 13 (1300 + a) = y
    rw [he, em13, upd_eq]
  · show gA σ' 14 (1300 + a) = z
    rw [he, em14, upd_eq]
  · show gA σ' 15 (1300 + a) = w
    rw [he, em15, upd_eq]
theorem acE_keep {a a2 c j : Nat} {σ σ' : St} (h : FmV a2 c σ σ') (ha : a < a2) (hj : j ≤ 4) : acE a σ' j = acE a σ j := h.2.2.1 (12 + j) (1300 + a) (by omega) (by omega) (by omega)
theorem usR_add {g u s i : Nat} {σ σ' σm : St} {op ow : Int32} (hg : isPr g = true) (h : UsR g u σ σm) (hI : ∀ k, k ≠ 100 * (g + 1) + 1 → gI σ' k = gI σ k) (hA : ∀ j, j ≠ g + 2 → gA σ' j = gA σ j) : UsR g u σ' σm := by
  have hb := pg_b hg
  obtain ⟨h1, h2, h3, h4⟩ := h
  refine ⟨(hI _ (by omega)).trans h1, h2, h3, fun k hk => ?_⟩
  rw [hA _ (by omega), hA _ (by omega), hA _ (by omega)]
  exact h4 k hk
theorem r_put {t : Nat → Int32} {n g i s a c u N : Nat} {σc σm : St} (hN : 8589934592 ≤ N) (hT : Tp t n) (hC : MC t n g i s σc) (hs : s < 304) (hM : MM t n i a c σm) (hU : UsR g u σc σm) (hL : gI σc 407 = gI σm 34) (k2 : kK t n i = 2) : R2 (x4_readPut N σc) (bd (m_emit N σm 0 0 0 0) (fun r45 σ46 => bd (m_taken N σ46 0) (fun r47 σ48 => bd (m_isSign N σ48 46) (fun r49 σ50 => (if r49 = 0 then bd (m_wants N σ50 61) (fun _ σ52 => bd (m_worth N σ52) (fun _ σ54 => bd (m_emit N σ54 7 r47 0 0) (fun r55 σ56 => m_statement_97 N σ56))) else bd (m_newUse N σ50 r47 (gI σm 5)) (fun r59 σ60 => bd (m_next N σ60) (fun _ σ62 => bd (m_field N σ62) (fun r63 σ64 => bd (m_wants N σ64 61) (fun _ σ66 => bd (m_worth N σ66) (fun _ σ68 => bd (m_emit N σ68 8 r47 r63 r59) (fun r69 σ70 => m_statement_97 N σ70)))))))))) ) (fun rc σc' _ σm' => RowQ t n g i s a c 3 PE σc σm rc σc' σm') := by
  have hi := hC.1.2.2.1
  have hg := hC.2.1.1
  have hb := pg_b hg
  have hk0 : ¬ kK t n i = 0 := by rw [k2]; decide
  have hup := (kQ_up (t := t) (n := n) (i := i)).2.2 hk0
  have hC1 := mC_up hT hC hk0
  unfold x4_readPut
  rw [hC.1.2.1, nI_1, sc_seen hT hC1.1, bd_s, hC.2.1.2.2]
  refine r2_bdR (n_emit hM.2.1 hM.2.2.1) (fun r σ1 e => ?_)
  obtain ⟨ha, rfl, e2, e3, e4⟩ := e
  have hM1 := mM_em hM ha e2 e3 e4
  have em1 := emV (c := c) e2
  have hU1 := usR_em hU e2
  refine r2_bdR (sm_takenY hN hT hM1.1 (k := 2) (Or.inl ⟨rfl, rfl⟩) k2) (fun r σ2 z => ?_)
  obtain ⟨rfl, z1, z2⟩ := z
  have hM2 := mM_tk hM1 z2 z1
  have hU2 := usR_n (v := nI (i + 1)) hg hU1 z2
  have f02 : FmV a c σm σ2 := fmV_tr (fmV_em e2 e3) (fmV_tk z2)
  have a0 : acE a σ2 0 = 0 := by
    have : acE a σ2 0 = acE a σ1 0 := by unfold acE; rw [z2.1]
    rw [this]
    exact em1.1
  rw [sm_sign hM2.1 (k := 11) (c := 46) (Or.inr (Or.inr (Or.inr (Or.inr (Or.inr (Or.inr (Or.inr ⟨rfl, rfl⟩))))))), bd_s]
  -- the row is made, its NAME is set
  have made : ∀ (op : Int32) (om : Option (Unit × St)) (Q : Int32 → St → Unit → St → Prop), (∀ σ3, MC t n g (i + 1) (s + 1) σ3 → UsR g u σ3 σ2 → FcR g s σc σ3 → gI σ3 407 = gI σ2 34 → gA σ3 (g + 2) = upd (nrow (gA σc (g + 2)) s op (gI σc 407)) (12 * s + 1) (kL t n i) → R2 (if (if kK t n (i + 1) = 11 then (1 : Int32) else 0) = 0 then x4_readPut_88 N σ3 (nI s) else bd (x4_readUse N σ3 (nI i) (nI s) 3) (fun r19 σ20 => (if r19 = 0 then some (0, σ20) else bd (x4_readField N σ20 (nI s) 2) (fun r21 σ22 => (if r21 = 0 then some (0, σ22) else x4_readPut_88 N σ22 (nI s)))))) om Q) → R2 (x4_readPut_33 N (sI σc 405 (nI (i + 1))) (nI i) (g + 1) op) om Q := by
    intro op om Q k
    unfold x4_readPut_33
    rw [pg_cd hg, gd_t]
    refine r2_bdL (st_add (op := op) (ow := gI (sI σc 405 (nI (i + 1))) 407) hC1 hs) (fun r σ3 y => ?_)
    obtain ⟨rfl, y1, y2, y3, y4, y5⟩ := y
    rw [sc_letter hT y1.1 (by omega), bd_s, y1.2.1.2.2, pg_cd hg, gd_t]
    show R2 (bd (x0_set N σ3 (g + 1) (nI s) (nI 1) (kL t n i)) _) _ _
    rw [c_set hg y1.2.2.1 y1.2.2.2 (by omega) (by decide), bd_s, sc_seen hT (mC_row y1).1, bd_s]
    refine k _ (mC_row y1) (usR_row hg (usR_add (s := s) (i := i) (op := op) (ow := op) hg hU2 y2 y4)) ?_ ?_ ?_
    · refine fcR_tr ⟨fun k k1 k2 k3 => ?_, fun k => y3 k, fun j j1 _ _ _ => y4 j j1, fun x hx => ?_⟩ fcR_row
      · rw [y2 k k3, gI_ne (fun w => k1 w.symm)]
      · rw [y5, nrow_lt hx]
        rfl
    · show gI σ3 407 = gI σ2 34
      rw [y2 407 (by omega), gI_ne (by decide), z2.2.1 34 (by omega), e3 34 (by decide)]
      exact hL
    · rw [gA_sA, if_pos rfl, y5]
      rfl
  by_cases k11 : kK t n (i + 1) = 11
  · have hk10 : ¬ kK t n (i + 1) = 0 := by rw [k11]; decide
    have hup1 := (kQ_up (t := t) (n := n) (i := i + 1)).2.2 hk10
    rw [if_pos k11, if_neg (show ¬ (1 : Int32) = 0 by decide), if_neg (show ¬ (1 : Int32) = 0 by decide)]
    refine made 4 _ _ (fun σ3 m1 m2 m3 m4 m5 => ?_)
    rw [if_pos k11, if_neg (show ¬ (1 : Int32) = 0 by decide), bd_use, hM.1.2.2.2.1]
    refine r2_bd (r_use (q := 3) (j := i) hN hT m1 hM2 m2 m4 (by omega) (by decide) (by omega) hk10) (fun r4 σ4 r5 σ5 y => ?_)
    rcases y with ⟨rfl, rfl, y1, y2, y3, y4, y5, y6, y7, y8⟩ | ⟨rfl, y⟩
    · rw [if_neg (show ¬ (1 : Int32) = 0 by decide)]
      refine r2_bd (r_field (q := 2) hN hT y1 y2 y3 (by omega) (by decide)) (fun r6 σ6 r7 σ7 x => ?_)
      rcases x with ⟨rfl, x0, x1, x2, x3, x4, x5, x6⟩ | ⟨rfl, x⟩
      · rw [if_neg (show ¬ (1 : Int32) = 0 by decide)]
        have aF : gA σ6 (g + 2) = upd (upd (upd (nrow (gA σc (g + 2)) s 4 (gI σc 407)) (12 * s + 1) (kL t n i)) (12 * s + 3) (nI u)) (12 * s + 2) r7 := by
          rw [x1]
          show gA (sA σ4 (g + 2) (12 * s + 2) r7) (g + 2) = _
          rw [gA_sA, if_pos rfl, y8, m5]
        have hz : gA σ6 (g + 2) (12 * s + 8) = 0 := by rw [aF, upd_ne (by omega), upd_ne (by omega), upd_ne (by omega), nrow_z (by decide) (by decide)]
        have hL6 : gI σ6 407 = gI σ7 34 := by
          rw [x1, gI_ne (by decide)]
          show gI σ4 407 = _
          rw [y5 407 (by decide) (by omega), x5.2.1 34 (by omega), y4.1 34 (by omega) (by decide) (by decide)]
          exact m4
        have hup2 := (kQ_up (t := t) (n := n) (i := i + 1 + 1)).2.1
        have hup2' := (kQ_up (t := t) (n := n) (i := i + 1 + 1)).1
        have c46 : FcR g s σ3 σ6 := by
          rw [x1]
          refine fcR_tr ⟨fun k k1 k2 _ => y5 k k1 k2, y6, y7, fun x hx => ?_⟩ (fcR_tr fcR_row (fcR_v fcV_n))
          rw [y8, upd_ne (by omega)]
        refine R2.mono (r_putTail (x := 8) (y := kL t n i) (z := r7) (w := nI u) hN hT x2 x3 x4 hL6 (by omega) hz) (fun rc σ8 _ σ9 w => ?_)
        rcases w with ⟨rfl, i2, c2, u2, w1, w2, w3, w4, w5, w6, w7, w8, w9, w10, w11, w12⟩ | ⟨rfl, w⟩
        · have dq : ∀ q, ¬ (4 ≤ q ∧ q ≤ 9) → rwD g s σ8 q = gA σ6 (g + 2) (12 * s + q) := fun q hq => w4.2.2.2 (12 * s + q) (by omega)
          have d0 : rwD g s σ8 0 = 4 := by rw [dq 0 (by omega), aF, upd_ne (by omega), upd_ne (by omega), upd_ne (by omega), nrow_0]
          have d1 : rwD g s σ8 1 = kL t n i := by rw [dq 1 (by omega), aF, upd_ne (by omega), upd_ne (by omega), upd_eq]
          have d2 : rwD g s σ8 2 = r7 := by rw [dq 2 (by omega), aF, upd_eq]
          have d3 : rwD g s σ8 3 = nI u := by rw [dq 3 (by omega), aF, upd_ne (by omega), upd_eq]
          have d11 : rwD g s σ8 11 = gI σc 407 := by rw [dq 11 (by omega), aF, upd_ne (by omega), upd_ne (by omega), upd_ne (by omega), nrow_11]
          have f29 : FmV (a + 1) c σ2 σ9 := fmV_tr y4 (fmV_tr (fmV_tk x5) w5)
          have a09 : acE a σ9 0 = 0 := (acE_keep f29 (by omega) (by omega)).trans a0
          refine Or.inl ⟨rfl, i2, c2, u2, w1, w2, w3, fcR_tr m3 (fcR_tr c46 (fcR_v w4)), fmV_tr f02 (fmV_le f29 (by omega)), w7, Or.inr ⟨d0, a09, w6, w8, ?_, ?_, ?_⟩, d11, by omega⟩
          · rw [d1]; exact w9
          · rw [d2]; exact w10
          · rw [d3]; exact w11
        · exact Or.inr ⟨rfl, w⟩
      · rw [if_pos rfl, ff_wants (fp_ne x), bd_s, ff_worth (fp_ne x), bd_s]
        refine r2_bdR ff_emit (fun r σ9 w => ?_)
        have hf2 := fp_m x w.1 w.2
        unfold m_statement_97
        rw [ff_wants (fp_ne hf2), bd_s]
        exact r2_some (Or.inr ⟨rfl, hf2⟩)
    · rw [if_pos rfl, ff_field (fp_ne y), bd_s, ff_wants (fp_ne y), bd_s, ff_worth (fp_ne y), bd_s]
      refine r2_bdR ff_emit (fun r σ9 w => ?_)
      have hf2 := fp_m y w.1 w.2
      unfold m_statement_97
      rw [ff_wants (fp_ne hf2), bd_s]
      exact r2_some (Or.inr ⟨rfl, hf2⟩)
  · rw [if_neg k11, if_pos rfl, if_pos rfl]
    refine made 3 _ _ (fun σ3 m1 m2 m3 m4 m5 => ?_)
    rw [if_neg k11, if_pos rfl]
    have hz : gA σ3 (g + 2) (12 * s + 8) = 0 := by rw [m5, upd_ne (by omega), nrow_z (by decide) (by decide)]
    refine R2.mono (r_putTail (x := 7) (y := kL t n i) (z := 0) (w := 0) hN hT m1 hM2 m2 m4 (by omega) hz) (fun rc σ8 _ σ9 w => ?_)
    rcases w with ⟨rfl, i2, c2, u2, w1, w2, w3, w4, w5, w6, w7, w8, w9, w10, w11, w12⟩ | ⟨rfl, w⟩
    · have dq : ∀ q, ¬ (4 ≤ q ∧ q ≤ 9) → rwD g s σ8 q = gA σ3 (g + 2) (12 * s + q) := fun q hq => w4.2.2.2 (12 * s + q) (by omega)
      have d0 : rwD g s σ8 0 = 3 := by rw [dq 0 (by omega), m5, upd_ne (by omega), nrow_0]
      have d1 : rwD g s σ8 1 = kL t n i := by rw [dq 1 (by omega), m5, upd_eq]
      have d11 : rwD g s σ8 11 = gI σc 407 := by rw [dq 11 (by omega), m5, upd_ne (by omega), nrow_11]
      have a09 : acE a σ9 0 = 0 := (acE_keep w5 (by omega) (by omega)).trans a0
      refine Or.inl ⟨rfl, i2, c2, u2, w1, w2, w3, fcR_tr m3 (fcR_v w4), fmV_tr f02 (fmV_le w5 (by omega)), w7, Or.inl ⟨d0, a09, w6, w8, ?_⟩, d11, by omega⟩
      rw [d1]; exact w9
    · exact Or.inr ⟨rfl, w⟩
