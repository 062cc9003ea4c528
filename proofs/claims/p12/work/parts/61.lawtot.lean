/-! both sides of a call: they answer, and the invariant stays -/
def BN : Nat := 2 ^ 90
theorem bn1 : 8589934592 ≤ BN := by decide
theorem bn2 : BB + 2 ≤ BN := by decide
def LI0 (σc σm : St) : Prop := CP σc ∧ MI σm ∧ gI σc 1 = gI σm 2
theorem mi_2 {σ : St} (h : MI σ) : 0 ≤ (gI σ 2).toInt ∧ (gI σ 2).toInt ≤ 1200 := by
  obtain ⟨a, u, w, -, -, -, -, -, -, -, -, -, h1, h2, -⟩ := h
  exact ⟨h1, h2⟩
theorem k0_feed {σc σm : St} {a1 a2 a3 a4 a5 : Int32} (h : LI0 σc σm) : ∃ (rc : Int32) (σc' : St) (rm : Int32) (σm' : St), x10_feed BN σc a1 a2 a3 a4 a5 = some (rc, σc') ∧ m_feed BN σm a1 a2 a3 a4 a5 = some (rm, σm') ∧ LI0 σc' σm' ∧ rc = rm := by
  obtain ⟨h1, h2, h3⟩ := h
  have hb := mi_2 h2
  obtain ⟨rc, σc', e1, q1, q2⟩ := u_x10_feed bn1 (a1 := a1) (a2 := a2) (a3 := a3) (a4 := a4) (a5 := a5) h1 (by rw [h3]; exact hb.1) (by rw [h3]; exact hb.2)
  obtain ⟨rm, σm', e2, p1, p2⟩ := s_feed bn1 (x1 := a1) (x2 := a2) (x3 := a3) (x4 := a4) (x5 := a5) h2
  refine ⟨rc, σc', rm, σm', e1, e2, ?_⟩
  rw [h3] at q2
  have h20 : (20 : Int32).toInt = 20 := rfl
  by_cases c : (gI σm 2).toInt ≤ 1180
  · have c' : gI σm 2 ≤ 1180 := by rw [Int32.le_iff_toInt_le]; exact c
    have ea : (gI σm 2 + 20).toInt = (gI σm 2).toInt + 20 := by rw [i32_add (by omega) (by omega), h20]
    rw [if_pos c] at q2
    rw [if_pos c'] at p2
    exact ⟨⟨q1, p1, Int32.toInt_inj.mp (by rw [q2.2, p2.2, ea])⟩, Int32.toInt_inj.mp (by rw [q2.1, p2.1, ea])⟩
  · have c' : ¬ gI σm 2 ≤ 1180 := by rw [Int32.le_iff_toInt_le]; exact c
    rw [if_neg c] at q2
    rw [if_neg c'] at p2
    exact ⟨⟨q1, p1, by rw [q2.2, p2.2]⟩, by rw [q2.1, p2.1]⟩
theorem k0_text {σc σm : St} {a1 : Int32} (h : LI0 σc σm) : ∃ (rc : Int32) (σc' : St) (rm : Int32) (σm' : St), x10_text BN σc a1 = some (rc, σc') ∧ m_text BN σm a1 = some (rm, σm') ∧ LI0 σc' σm' := by
  obtain ⟨h1, h2, h3⟩ := h
  obtain ⟨rc, σc', e1, q1, q2⟩ := u_x10_text bn1 (a1 := a1) h1
  obtain ⟨rm, σm', e2, p1, p2⟩ := s_text bn1 (n := a1) h2
  refine ⟨rc, σc', rm, σm', e1, e2, q1, p1, ?_⟩
  rw [h3] at q2
  by_cases c : a1 < 0
  · rw [if_pos c] at q2 p2
    rw [q2, p2]
  · rw [if_neg c] at q2 p2
    by_cases c2 : a1 ≤ gI σm 2
    · rw [if_pos c2] at q2 p2
      rw [q2, p2]
    · rw [if_neg c2] at q2 p2
      rw [q2, p2]
theorem k0_fault {σc σm : St} {a1 : Int32} (h : LI0 σc σm) : ∃ (rc : Int32) (σc' : St) (rm : Int32) (σm' : St), x10_fault BN σc a1 = some (rc, σc') ∧ m_fault BN σm a1 = some (rm, σm') ∧ LI0 σc' σm' := by
  obtain ⟨h1, h2, h3⟩ := h
  obtain ⟨rc, σc', e1, q⟩ := t_x10_fault bn1 (a1 := a1) h1
  obtain ⟨rm, σm', e2, p1, p2⟩ := s_fault (N := BN) (x := a1) h2
  obtain ⟨q1, q2⟩ := q
  refine ⟨rc, σc', rm, σm', e1, e2, q2, p1, ?_⟩
  rw [q1, p2]
  exact h3
theorem k0_entry {σc σm : St} {a1 : Int32} (h : LI0 σc σm) : ∃ (rc : Int32) (σc' : St) (rm : Int32) (σm' : St), x10_entry BN σc a1 = some (rc, σc') ∧ m_entry BN σm a1 = some (rm, σm') ∧ LI0 σc' σm' := by
  obtain ⟨h1, h2, h3⟩ := h
  obtain ⟨rc, σc', e1, q, -⟩ := t_x10_entry bn1 (a1 := a1) h1
  obtain ⟨rm, σm', e2, p1, p2⟩ := s_entry bn1 (N := BN) (x := a1) h2
  refine ⟨rc, σc', rm, σm', e1, e2, q.1, p1, ?_⟩
  rw [q.2.1, p2]
  exact h3
theorem k0_outer {σc σm : St} {a1 a2 : Int32} (h : LI0 σc σm) : ∃ (rc : Int32) (σc' : St) (rm : Int32) (σm' : St), x10_outer BN σc a1 a2 = some (rc, σc') ∧ m_outer BN σm a1 a2 = some (rm, σm') ∧ LI0 σc' σm' := by
  obtain ⟨h1, h2, h3⟩ := h
  obtain ⟨rc, σc', e1, q, -⟩ := t_x10_outer bn1 (a1 := a1) (a2 := a2) h1
  obtain ⟨rm, σm', e2, p1, p2⟩ := s_outer (N := BN) (x := a1) (y := a2) h2
  refine ⟨rc, σc', rm, σm', e1, e2, q.1, p1, ?_⟩
  rw [q.2.1, p2]
  exact h3
theorem k0_mark {σc σm : St} {a1 a2 a3 : Int32} (h : LI0 σc σm) : ∃ (rc : Int32) (σc' : St) (rm : Int32) (σm' : St), x10_mark BN σc a1 a2 a3 = some (rc, σc') ∧ m_mark BN σm a1 a2 a3 = some (rm, σm') ∧ LI0 σc' σm' := by
  obtain ⟨h1, h2, h3⟩ := h
  obtain ⟨rc, σc', e1, q⟩ := t_x10_mark bn1 (a1 := a1) (a2 := a2) (a3 := a3) h1
  obtain ⟨rm, σm', e2, p1, p2⟩ := s_mark bn2 (N := BN) (x := a1) (y := a2) (z := a3) h2
  refine ⟨rc, σc', rm, σm', e1, e2, q.1, p1, ?_⟩
  rw [q.2.1, p2]
  exact h3
theorem k0_use {σc σm : St} {a1 a2 : Int32} (h : LI0 σc σm) : ∃ (rc : Int32) (σc' : St) (rm : Int32) (σm' : St), x10_use BN σc a1 a2 = some (rc, σc') ∧ m_use BN σm a1 a2 = some (rm, σm') ∧ LI0 σc' σm' := by
  obtain ⟨h1, h2, h3⟩ := h
  obtain ⟨rc, σc', e1, q⟩ := t_x10_use bn1 (a1 := a1) (a2 := a2) h1
  obtain ⟨rm, σm', e2, p1, p2⟩ := s_use bn2 (N := BN) (x := a1) (y := a2) h2
  refine ⟨rc, σc', rm, σm', e1, e2, q.1, p1, ?_⟩
  rw [q.2.1, p2]
  exact h3
theorem k0_test {σc σm : St} {a1 a2 : Int32} (h : LI0 σc σm) : ∃ (rc : Int32) (σc' : St) (rm : Int32) (σm' : St), x10_test BN σc a1 a2 = some (rc, σc') ∧ m_test BN σm a1 a2 = some (rm, σm') ∧ LI0 σc' σm' := by
  obtain ⟨h1, h2, h3⟩ := h
  obtain ⟨rc, σc', e1, q⟩ := t_x10_test bn1 (a1 := a1) (a2 := a2) h1
  obtain ⟨rm, σm', e2, p1, p2⟩ := s_test bn2 (N := BN) (x := a1) (y := a2) h2
  refine ⟨rc, σc', rm, σm', e1, e2, q.1, p1, ?_⟩
  rw [q.2.1, p2]
  exact h3
theorem k0_run {σc σm : St} {a1 a2 : Int32} (h : LI0 σc σm) : ∃ (rc : Int32) (σc' : St) (rm : Int32) (σm' : St), x10_run BN σc a1 a2 = some (rc, σc') ∧ m_run BN σm a1 a2 = some (rm, σm') ∧ LI0 σc' σm' := by
  obtain ⟨h1, h2, h3⟩ := h
  obtain ⟨rc, σc', e1, q⟩ := u_x10_run bn1 (a1 := a1) (a2 := a2) h1
  obtain ⟨rm, σm', e2, p1, p2⟩ := s_run bn1 (N := BN) (x := a1) (y := a2) h2
  refine ⟨rc, σc', rm, σm', e1, e2, q.1, p1, ?_⟩
  rw [q.2, p2]
  exact h3
theorem k0_ran {σc σm : St} {a1 : Int32} (h : LI0 σc σm) : ∃ (rc : Int32) (σc' : St) (rm : Int32) (σm' : St), x10_ran BN σc a1 = some (rc, σc') ∧ m_ran BN σm a1 = some (rm, σm') ∧ LI0 σc' σm' := by
  obtain ⟨h1, h2, h3⟩ := h
  obtain ⟨rc, σc', e1, q⟩ := t_x10_ran bn1 (a1 := a1) h1
  obtain ⟨rm, σm', e2, p1, p2⟩ := s_ran (N := BN) (x := a1) h2
  obtain ⟨q1, q2⟩ := q
  refine ⟨rc, σc', rm, σm', e1, e2, q2, p1, ?_⟩
  rw [q1, p2]
  exact h3
theorem k0_tries {σc σm : St} {a1 : Int32} (h : LI0 σc σm) : ∃ (rc : Int32) (σc' : St) (rm : Int32) (σm' : St), x10_tries BN σc a1 = some (rc, σc') ∧ m_tries BN σm a1 = some (rm, σm') ∧ LI0 σc' σm' := by
  obtain ⟨h1, h2, h3⟩ := h
  obtain ⟨rc, σc', e1, q⟩ := u_x10_tries bn1 (a1 := a1) h1
  obtain ⟨rm, σm', e2, p1, p2⟩ := s_tries bn1 (N := BN) (x := a1) h2
  refine ⟨rc, σc', rm, σm', e1, e2, q.1, p1, ?_⟩
  rw [q.2, p2]
  exact h3
theorem price_eq {N : Nat} {σc σm σc' σm' : St} {a1 a2 rc rm : Int32} (e1 : x10_price N σc a1 a2 = some (rc, σc')) (e2 : m_price N σm a1 a2 = some (rm, σm')) : rc = rm := by
  unfold x10_price at e1
  unfold m_price at e2
  by_cases c1 : a1 < 0
  · rw [if_pos c1] at e1 e2; cases e1; cases e2; rfl
  rw [if_neg c1] at e1 e2
  by_cases c2 : 3 < a1
  · rw [if_pos c2] at e1 e2; cases e1; cases e2; rfl
  rw [if_neg c2] at e1 e2
  by_cases c3 : a2 < 1
  · rw [if_pos c3] at e1 e2; cases e1; cases e2; rfl
  rw [if_neg c3] at e1 e2
  by_cases c4 : a2 ≤ 99
  · rw [if_pos c4] at e1 e2
    obtain ⟨_, _, _, e1⟩ := bd_some e1
    obtain ⟨_, e2⟩ := gd_some e2
    cases e1
    cases e2
    rfl
  · rw [if_neg c4] at e1 e2; cases e1; cases e2; rfl
theorem k0_price {σc σm : St} {a1 a2 : Int32} (h : LI0 σc σm) : ∃ (rc : Int32) (σc' : St) (rm : Int32) (σm' : St), x10_price BN σc a1 a2 = some (rc, σc') ∧ m_price BN σm a1 a2 = some (rm, σm') ∧ LI0 σc' σm' ∧ rc = rm := by
  obtain ⟨h1, h2, h3⟩ := h
  obtain ⟨rc, σc', e1, q, -⟩ := t_x10_price bn1 (a1 := a1) (a2 := a2) h1
  obtain ⟨rm, σm', e2, p1, p2⟩ := s_price (N := BN) (x := a1) (y := a2) h2
  refine ⟨rc, σc', rm, σm', e1, e2, ⟨q.1, p1, ?_⟩, price_eq e1 e2⟩
  rw [q.2.1, p2]
  exact h3
theorem k0_mend {σc σm : St} (h : LI0 σc σm) : ∃ (rc : Int32) (σc' : St) (rm : Int32) (σm' : St), x10_mend BN σc = some (rc, σc') ∧ m_mend BN σm = some (rm, σm') ∧ LI0 σc' σm' := by
  obtain ⟨h1, h2, h3⟩ := h
  obtain ⟨rc, σc', e1, q⟩ := t_x10_mend bn1 h1
  obtain ⟨rm, σm', e2, p1, p2⟩ := s_mend bn2 (N := BN) h2
  refine ⟨rc, σc', rm, σm', e1, e2, q.1, p1, ?_⟩
  rw [q.2.1, p2]
  exact h3
theorem k0_mended {σc σm : St} {a1 : Int32} (h : LI0 σc σm) : ∃ (rc : Int32) (σc' : St) (rm : Int32) (σm' : St), x10_mended BN σc a1 = some (rc, σc') ∧ m_mended BN σm a1 = some (rm, σm') ∧ LI0 σc' σm' := by
  obtain ⟨h1, h2, h3⟩ := h
  obtain ⟨rc, σc', e1, q⟩ := t_x10_mended bn1 (a1 := a1) h1
  obtain ⟨rm, σm', e2, p1, p2⟩ := s_mended (N := BN) (x := a1) h2
  obtain ⟨q1, q2⟩ := q
  refine ⟨rc, σc', rm, σm', e1, e2, q2, p1, ?_⟩
  rw [q1, p2]
  exact h3
theorem k0_count {σc σm : St} {a1 : Int32} (h : LI0 σc σm) : ∃ (rc : Int32) (σc' : St) (rm : Int32) (σm' : St), x10_count BN σc a1 = some (rc, σc') ∧ m_count BN σm a1 = some (rm, σm') ∧ LI0 σc' σm' := by
  obtain ⟨h1, h2, h3⟩ := h
  obtain ⟨rc, σc', e1, q⟩ := t_x10_count bn1 (a1 := a1) h1
  obtain ⟨rm, σm', e2, p1, p2⟩ := s_count bn2 (N := BN) (x := a1) h2
  refine ⟨rc, σc', rm, σm', e1, e2, q.1, p1, ?_⟩
  rw [q.2.1, p2]
  exact h3
def LI (σc σm : St) : Prop := LI0 σc σm ∧ LX σc σm ∧ LR σc σm ∧ CF σc σm ∧ UB σm ∧ CAx BN σc σm
theorem fx_k {σc σm σc' σm' : St} (hc : Kc σc σc') (hm : Km σm σm') : Fx σc σm σc' σm' := ⟨hc.2.1 26 (by decide), fun k h1 h2 => hm.1 k (Or.inr ⟨h1, h2⟩) (by omega)⟩
theorem li_q {σc σm : St} (h : LI0 σc σm) : ∃ q : Nat, q ≤ 1200 ∧ gI σc 1 = nI q ∧ gI σm 2 = nI q := by
  obtain ⟨-, h2, h3⟩ := h
  obtain ⟨b1, b2⟩ := mi_2 h2
  obtain ⟨q, q1, q2⟩ := nI_upto (n := 1200) b1 b2 (by decide)
  exact ⟨q, q1, h3.trans q2, q2⟩
theorem mi_39 {σ : St} (h : MI σ) : gI σ 39 = -1 ∨ ∃ l : Nat, l ≤ 7 ∧ gI σ 39 = nI l ∧ ¬ gA σ 19 l = -1 := by
  obtain ⟨a, u, w, -, -, -, -, -, -, -, h1, -⟩ := h
  exact h1
theorem k_feed {σc σm : St} {a1 a2 a3 a4 a5 : Int32} (h : LI σc σm) : ∃ (rc : Int32) (σc' : St) (rm : Int32) (σm' : St), x10_feed BN σc a1 a2 a3 a4 a5 = some (rc, σc') ∧ m_feed BN σm a1 a2 a3 a4 a5 = some (rm, σm') ∧ LI σc' σm' ∧ rc = rm := by
  obtain ⟨h0, hX, hLR, hF, hU, hA⟩ := h
  obtain ⟨q, q1, q2, q3⟩ := li_q h0
  have hg : isPr (gP σc 700) = true := hX.1.2.2.2.2.2.1
  obtain ⟨rc, σc', rm, σm', e1, e2, h0', hr⟩ := k0_feed (a1 := a1) (a2 := a2) (a3 := a3) (a4 := a4) (a5 := a5) h0
  have z2 := lt_feed hX.1 q2 q3 q1 rc σc' rm σm' e1 e2
  obtain ⟨y1, y2⟩ := ly_feed hX q2 q3 q1 rc σc' rm σm' e1 e2
  have yf := cf_feed hX q2 q3 q1 hF rc σc' rm σm' e1 e2
  exact ⟨rc, σc', rm, σm', e1, e2, ⟨h0', ⟨z2, y1⟩, lr_fx hLR y2, yf, ub_feed hX q2 q3 q1 e1 e2 hU, ca_feed bn1 hX q2 q3 q1 h0.2.1 h0'.2.1 hA e1 e2⟩, hr⟩
theorem k_text {σc σm : St} {a1 : Int32} (h : LI σc σm) : ∃ (rc : Int32) (σc' : St) (rm : Int32) (σm' : St), x10_text BN σc a1 = some (rc, σc') ∧ m_text BN σm a1 = some (rm, σm') ∧ LI σc' σm' ∧ rc = rm := by
  obtain ⟨h0, hX, hLR, hF, hU, hA⟩ := h
  obtain ⟨q, q1, q2, q3⟩ := li_q h0
  have hg : isPr (gP σc 700) = true := hX.1.2.2.2.2.2.1
  obtain ⟨rc, σc', rm, σm', e1, e2, h0'⟩ := k0_text (a1 := a1) h0
  obtain ⟨z1, z2⟩ := r_text bn1 hX.1 q2 q3 q1 rc σc' rm σm' e1 e2
  obtain ⟨y1, y2⟩ := r_textx bn1 hX q2 q3 q1 rc σc' rm σm' e1 e2
  have yf := cf_text bn1 hX q2 q3 q1 hF rc σc' rm σm' e1 e2
  exact ⟨rc, σc', rm, σm', e1, e2, ⟨h0', ⟨z2, y1⟩, lr_fx hLR y2, yf, ub_text bn1 q3 q1 hU rm σm' e2, ca_text bn1 hX q2 q3 q1 h0.2.1 hA rc σc' rm σm' e1 e2 h0'.2.1 (ob_text bn1 q3 q1 hA.2.1 rm σm' e2)⟩, z1⟩
theorem k_fault {σc σm : St} {a1 : Int32} (h : LI σc σm) : ∃ (rc : Int32) (σc' : St) (rm : Int32) (σm' : St), x10_fault BN σc a1 = some (rc, σc') ∧ m_fault BN σm a1 = some (rm, σm') ∧ LI σc' σm' ∧ rc = rm := by
  obtain ⟨h0, hX, hLR, hF, hU, hA⟩ := h
  obtain ⟨q, q1, q2, q3⟩ := li_q h0
  have hg : isPr (gP σc 700) = true := hX.1.2.2.2.2.2.1
  obtain ⟨rc, σc', rm, σm', e1, e2, h0'⟩ := k0_fault (a1 := a1) h0
  obtain ⟨z1, z2⟩ := r_fault hX.1  rc σc' rm σm' e1 e2
  obtain ⟨y1, y2⟩ := ly_fault hX.2  rc σc' rm σm' e1 e2
  have yf := cf_fault hF rc σc' rm σm' e1 e2
  exact ⟨rc, σc', rm, σm', e1, e2, ⟨h0', ⟨z2, y1⟩, lr_fx hLR y2, yf, ub_fault hU rm σm' e2, ca_fault bn1 h0.2.1 hA e1 e2⟩, z1⟩
theorem k_entry {σc σm : St} {a1 : Int32} (h : LI σc σm) : ∃ (rc : Int32) (σc' : St) (rm : Int32) (σm' : St), x10_entry BN σc a1 = some (rc, σc') ∧ m_entry BN σm a1 = some (rm, σm') ∧ LI σc' σm' ∧ rc = rm := by
  obtain ⟨h0, hX, hLR, hF, hU, hA⟩ := h
  obtain ⟨q, q1, q2, q3⟩ := li_q h0
  have hg : isPr (gP σc 700) = true := hX.1.2.2.2.2.2.1
  obtain ⟨rc, σc', rm, σm', e1, e2, h0'⟩ := k0_entry (a1 := a1) h0
  obtain ⟨z1, z2⟩ := r_entry bn1 hX.1  rc σc' rm σm' e1 e2
  obtain ⟨y1, y2⟩ := ly_entry bn1 hX  rc σc' rm σm' e1 e2
  have yf := cf_entry bn1 hF rc σc' rm σm' e1 e2
  exact ⟨rc, σc', rm, σm', e1, e2, ⟨h0', ⟨z2, y1⟩, lr_fx hLR y2, yf, ub_entry bn1 hU rm σm' e2, ca_or bn1 h0.2.1 h0'.2.1 (ob_entry bn1 hA.2.1 rm σm' e2) hA (c_entry_o rc σc' e1) (m_entry_o rm σm' e2) z1⟩, z1⟩
theorem k_outer {σc σm : St} {a1 a2 : Int32} (h : LI σc σm) : ∃ (rc : Int32) (σc' : St) (rm : Int32) (σm' : St), x10_outer BN σc a1 a2 = some (rc, σc') ∧ m_outer BN σm a1 a2 = some (rm, σm') ∧ LI σc' σm' ∧ rc = rm := by
  obtain ⟨h0, hX, hLR, hF, hU, hA⟩ := h
  obtain ⟨q, q1, q2, q3⟩ := li_q h0
  have hg : isPr (gP σc 700) = true := hX.1.2.2.2.2.2.1
  obtain ⟨rc, σc', rm, σm', e1, e2, h0'⟩ := k0_outer (a1 := a1) (a2 := a2) h0
  obtain ⟨z1, z2⟩ := r_outer hX.1 (mi_39 h0.2.1) rc σc' rm σm' e1 e2
  obtain ⟨y1, y2⟩ := ly_outer hX (mi_39 h0.2.1) rc σc' rm σm' e1 e2
  have yf := cf_outer hF rc σc' rm σm' e1 e2
  exact ⟨rc, σc', rm, σm', e1, e2, ⟨h0', ⟨z2, y1⟩, lr_fx hLR y2, yf, ub_outer hU rm σm' e2, ca_or bn1 h0.2.1 h0'.2.1 (ob_outer hA.2.1 rm σm' e2) hA (c_outer_o rc σc' e1) (m_outer_o rm σm' e2) z1⟩, z1⟩
theorem k_mark {σc σm : St} {a1 a2 a3 : Int32} (h : LI σc σm) : ∃ (rc : Int32) (σc' : St) (rm : Int32) (σm' : St), x10_mark BN σc a1 a2 a3 = some (rc, σc') ∧ m_mark BN σm a1 a2 a3 = some (rm, σm') ∧ LI σc' σm' ∧ rc = rm := by
  obtain ⟨h0, hX, hLR, hF, hU, hA⟩ := h
  obtain ⟨q, q1, q2, q3⟩ := li_q h0
  have hg : isPr (gP σc 700) = true := hX.1.2.2.2.2.2.1
  obtain ⟨rc, σc', rm, σm', e1, e2, h0'⟩ := k0_mark (a1 := a1) (a2 := a2) (a3 := a3) h0
  have hc := kc_x10_mark (kc_r σc) rc σc' e1
  have hm := km_m_mark (km_r σm) rm σm' e2
  obtain ⟨y, yq⟩ := r_mark hX h0.2.1 hF rc σc' rm σm' e1 e2
  exact ⟨rc, σc', rm, σm', e1, e2, ⟨h0', lx_k hX hc hm, lr_fx hLR (fx_k hc hm), cf_q hg hF hc hm yq, ub_km (hm.1 18 (by decide) (by decide)) (fun j hj => hm.2 j (by omega)) hU, ca_k bn1 h0.2.1 hA (cq_x10_mark (s0 := σc) hA.1 rc σc' e1) (ky_x10_mark (ky_r σc) rc σc' e1) (jm_km hm h0'.2.1)⟩, y⟩
theorem k_use {σc σm : St} {a1 a2 : Int32} (h : LI σc σm) : ∃ (rc : Int32) (σc' : St) (rm : Int32) (σm' : St), x10_use BN σc a1 a2 = some (rc, σc') ∧ m_use BN σm a1 a2 = some (rm, σm') ∧ LI σc' σm' ∧ rc = rm := by
  obtain ⟨h0, hX, hLR, hF, hU, hA⟩ := h
  obtain ⟨q, q1, q2, q3⟩ := li_q h0
  have hg : isPr (gP σc 700) = true := hX.1.2.2.2.2.2.1
  obtain ⟨rc, σc', rm, σm', e1, e2, h0'⟩ := k0_use (a1 := a1) (a2 := a2) h0
  have hc := kc_x10_use (kc_r σc) rc σc' e1
  have hm := km_m_use (km_r σm) rm σm' e2
  obtain ⟨y, yq⟩ := r_useF hX h0.2.1 hF hU rc σc' rm σm' e1 e2
  exact ⟨rc, σc', rm, σm', e1, e2, ⟨h0', lx_k hX hc hm, lr_fx hLR (fx_k hc hm), cf_q hg hF hc hm yq, ub_km (hm.1 18 (by decide) (by decide)) (fun j hj => hm.2 j (by omega)) hU, ca_k bn1 h0.2.1 hA (cq_x10_use (s0 := σc) hA.1 rc σc' e1) (ky_x10_use (ky_r σc) rc σc' e1) (jm_km hm h0'.2.1)⟩, y⟩
theorem k_test {σc σm : St} {a1 a2 : Int32} (h : LI σc σm) : ∃ (rc : Int32) (σc' : St) (rm : Int32) (σm' : St), x10_test BN σc a1 a2 = some (rc, σc') ∧ m_test BN σm a1 a2 = some (rm, σm') ∧ LI σc' σm' ∧ rc = rm := by
  obtain ⟨h0, hX, hLR, hF, hU, hA⟩ := h
  obtain ⟨q, q1, q2, q3⟩ := li_q h0
  have hg : isPr (gP σc 700) = true := hX.1.2.2.2.2.2.1
  obtain ⟨rc, σc', rm, σm', e1, e2, h0'⟩ := k0_test (a1 := a1) (a2 := a2) h0
  have hc := kc_x10_test (kc_r σc) rc σc' e1
  have hm := km_m_test (km_r σm) rm σm' e2
  obtain ⟨y, yq⟩ := r_test hX h0.2.1 hF rc σc' rm σm' e1 e2
  exact ⟨rc, σc', rm, σm', e1, e2, ⟨h0', lx_k hX hc hm, lr_fx hLR (fx_k hc hm), cf_q hg hF hc hm yq, ub_km (hm.1 18 (by decide) (by decide)) (fun j hj => hm.2 j (by omega)) hU, ca_k bn1 h0.2.1 hA (cq_x10_test (s0 := σc) hA.1 rc σc' e1) (ky_x10_test (ky_r σc) rc σc' e1) (jm_km hm h0'.2.1)⟩, y⟩
theorem k_run {σc σm : St} {a1 a2 : Int32} (h : LI σc σm) : ∃ (rc : Int32) (σc' : St) (rm : Int32) (σm' : St), x10_run BN σc a1 a2 = some (rc, σc') ∧ m_run BN σm a1 a2 = some (rm, σm') ∧ LI σc' σm' ∧ rc = rm := by
  obtain ⟨h0, hX, hLR, hF, hU, hA⟩ := h
  obtain ⟨q, q1, q2, q3⟩ := li_q h0
  have hg : isPr (gP σc 700) = true := hX.1.2.2.2.2.2.1
  obtain ⟨rc, σc', rm, σm', e1, e2, h0'⟩ := k0_run (a1 := a1) (a2 := a2) h0
  have kr := kr_x10_run (kc_r σc) rc σc' e1
  have kn := kn_m_run (km_r σm) rm σm' e2
  have z := lx_kr hX kr kn
  obtain ⟨y1, y2⟩ := r_run bn1 hX h0.2.1 rc σc' rm σm' e1 e2
  exact ⟨rc, σc', rm, σm', e1, e2, ⟨h0', z, y2 hLR, cf_h hg hF kr (kh_x10_run (kh_r σc) rc σc' e1) (fun j _ h2 => kn.2 j (by omega)), ub_km (kn.1 18 (by decide) (by decide)) (fun j hj => kn.2 j (by omega)) hU, ca_k bn1 h0.2.1 hA (cq_x10_run (s0 := σc) hA.1 rc σc' e1) (ky_x10_run (ky_r σc) rc σc' e1) ⟨kn.1 18 (by decide) (by decide), kn.1 39 (by decide) (by decide), fun j i _ hj _ => by rw [kn.2 j (by omega)], fun i _ => by rw [kn.2 40 (by decide)], h0'.2.1⟩⟩, y1⟩
theorem k_ran {σc σm : St} {a1 : Int32} (h : LI σc σm) : ∃ (rc : Int32) (σc' : St) (rm : Int32) (σm' : St), x10_ran BN σc a1 = some (rc, σc') ∧ m_ran BN σm a1 = some (rm, σm') ∧ LI σc' σm' ∧ rc = rm := by
  obtain ⟨h0, hX, hLR, hF, hU, hA⟩ := h
  obtain ⟨q, q1, q2, q3⟩ := li_q h0
  have hg : isPr (gP σc 700) = true := hX.1.2.2.2.2.2.1
  obtain ⟨rc, σc', rm, σm', e1, e2, h0'⟩ := k0_ran (a1 := a1) h0
  have hc := kc_x10_ran (kc_r σc) rc σc' e1
  have hm := km_m_ran (km_r σm) rm σm' e2
  have y := r_ran hLR rc σc' rm σm' e1 e2
  exact ⟨rc, σc', rm, σm', e1, e2, ⟨h0', lx_k hX hc hm, lr_fx hLR (fx_k hc hm), cf_h hg hF (kr_c hc) (kh_x10_ran (kh_r σc) rc σc' e1) (fun j _ h2 => hm.2 j (by omega)), ub_km (hm.1 18 (by decide) (by decide)) (fun j hj => hm.2 j (by omega)) hU, ca_k bn1 h0.2.1 hA (cq_x10_ran (s0 := σc) hA.1 rc σc' e1) (ky_x10_ran (ky_r σc) rc σc' e1) (jm_km hm h0'.2.1)⟩, y⟩
theorem k_tries {σc σm : St} {a1 : Int32} (h : LI σc σm) : ∃ (rc : Int32) (σc' : St) (rm : Int32) (σm' : St), x10_tries BN σc a1 = some (rc, σc') ∧ m_tries BN σm a1 = some (rm, σm') ∧ LI σc' σm' ∧ rc = rm := by
  obtain ⟨h0, hX, hLR, hF, hU, hA⟩ := h
  obtain ⟨q, q1, q2, q3⟩ := li_q h0
  have hg : isPr (gP σc 700) = true := hX.1.2.2.2.2.2.1
  obtain ⟨rc, σc', rm, σm', e1, e2, h0'⟩ := k0_tries (a1 := a1) h0
  have hc := kc_x10_tries (kc_r σc) rc σc' e1
  have hm := km_m_tries (km_r σm) rm σm' e2
  obtain ⟨y, yt⟩ := r_tries bn1 hX h0.2.1 hF hU hA rc σc' rm σm' e1 e2
  exact ⟨rc, σc', rm, σm', e1, e2, ⟨h0', lx_k hX hc hm, lr_fx hLR (fx_k hc hm), cf_tries hX h0.2.1 hF e1 hm, ub_km (hm.1 18 (by decide) (by decide)) (fun j hj => hm.2 j (by omega)) hU, ca_tries bn1 h0.2.1 hA (cq_x10_tries (s0 := σc) hA.1 rc σc' e1) yt (jm_km hm h0'.2.1)⟩, y⟩
theorem k_price {σc σm : St} {a1 a2 : Int32} (h : LI σc σm) : ∃ (rc : Int32) (σc' : St) (rm : Int32) (σm' : St), x10_price BN σc a1 a2 = some (rc, σc') ∧ m_price BN σm a1 a2 = some (rm, σm') ∧ LI σc' σm' ∧ rc = rm := by
  obtain ⟨h0, hX, hLR, hF, hU, hA⟩ := h
  obtain ⟨q, q1, q2, q3⟩ := li_q h0
  have hg : isPr (gP σc 700) = true := hX.1.2.2.2.2.2.1
  obtain ⟨rc, σc', rm, σm', e1, e2, h0', hr⟩ := k0_price (a1 := a1) (a2 := a2) h0
  have hc := kc_x10_price (kc_r σc) rc σc' e1
  have hm := km_m_price (km_r σm) rm σm' e2
  exact ⟨rc, σc', rm, σm', e1, e2, ⟨h0', lx_k hX hc hm, lr_fx hLR (fx_k hc hm), cf_h hg hF (kr_c hc) (kh_x10_price (kh_r σc) rc σc' e1) (fun j _ h2 => hm.2 j (by omega)), ub_km (hm.1 18 (by decide) (by decide)) (fun j hj => hm.2 j (by omega)) hU, ca_k bn1 h0.2.1 hA (cq_x10_price (s0 := σc) hA.1 rc σc' e1) (ky_x10_price (ky_r σc) rc σc' e1) (jm_km hm h0'.2.1)⟩, hr⟩
theorem k_mend {σc σm : St} (h : LI σc σm) : ∃ (rc : Int32) (σc' : St) (rm : Int32) (σm' : St), x10_mend BN σc = some (rc, σc') ∧ m_mend BN σm = some (rm, σm') ∧ LI σc' σm' := by
  obtain ⟨h0, hX, hLR, hF, hU, hA⟩ := h
  obtain ⟨q, q1, q2, q3⟩ := li_q h0
  have hg : isPr (gP σc 700) = true := hX.1.2.2.2.2.2.1
  obtain ⟨rc, σc', rm, σm', e1, e2, h0'⟩ := k0_mend h0
  have hc := kc_x10_mend (kc_r σc) rc σc' e1
  have hm := km_m_mend (km_r σm) rm σm' e2
  exact ⟨rc, σc', rm, σm', e1, e2, ⟨h0', lx_k hX hc hm, lr_fx hLR (fx_k hc hm), cf_mend hX h0.2.1 hF e1 hm, ub_km (hm.1 18 (by decide) (by decide)) (fun j hj => hm.2 j (by omega)) hU, ca_k bn1 h0.2.1 hA (cq_x10_mend (s0 := σc) hA.1 rc σc' e1) (ky_x10_mend (ky_r σc) rc σc' e1) (jm_km hm h0'.2.1)⟩⟩
theorem k_mended {σc σm : St} {a1 : Int32} (h : LI σc σm) : ∃ (rc : Int32) (σc' : St) (rm : Int32) (σm' : St), x10_mended BN σc a1 = some (rc, σc') ∧ m_mended BN σm a1 = some (rm, σm') ∧ LI σc' σm' := by
  obtain ⟨h0, hX, hLR, hF, hU, hA⟩ := h
  obtain ⟨q, q1, q2, q3⟩ := li_q h0
  have hg : isPr (gP σc 700) = true := hX.1.2.2.2.2.2.1
  obtain ⟨rc, σc', rm, σm', e1, e2, h0'⟩ := k0_mended (a1 := a1) h0
  have hc := kc_x10_mended (kc_r σc) rc σc' e1
  have hm := km_m_mended (km_r σm) rm σm' e2
  exact ⟨rc, σc', rm, σm', e1, e2, ⟨h0', lx_k hX hc hm, lr_fx hLR (fx_k hc hm), cf_h hg hF (kr_c hc) (kh_x10_mended (kh_r σc) rc σc' e1) (fun j _ h2 => hm.2 j (by omega)), ub_km (hm.1 18 (by decide) (by decide)) (fun j hj => hm.2 j (by omega)) hU, ca_k bn1 h0.2.1 hA (cq_x10_mended (s0 := σc) hA.1 rc σc' e1) (ky_x10_mended (ky_r σc) rc σc' e1) (jm_km hm h0'.2.1)⟩⟩
theorem k_count {σc σm : St} {a1 : Int32} (h : LI σc σm) : ∃ (rc : Int32) (σc' : St) (rm : Int32) (σm' : St), x10_count BN σc a1 = some (rc, σc') ∧ m_count BN σm a1 = some (rm, σm') ∧ LI σc' σm' ∧ rc = rm := by
  obtain ⟨h0, hX, hLR, hF, hU, hA⟩ := h
  obtain ⟨q, q1, q2, q3⟩ := li_q h0
  have hg : isPr (gP σc 700) = true := hX.1.2.2.2.2.2.1
  obtain ⟨rc, σc', rm, σm', e1, e2, h0'⟩ := k0_count (a1 := a1) h0
  have hc := kc_x10_count (kc_r σc) rc σc' e1
  have hm := km_m_count (km_r σm) rm σm' e2
  obtain ⟨y, yq⟩ := r_count hX h0.2.1 hF hU rc σc' rm σm' e1 e2
  exact ⟨rc, σc', rm, σm', e1, e2, ⟨h0', lx_k hX hc hm, lr_fx hLR (fx_k hc hm), cf_q hg hF hc hm yq, ub_km (hm.1 18 (by decide) (by decide)) (fun j hj => hm.2 j (by omega)) hU, ca_k bn1 h0.2.1 hA (cq_x10_count (s0 := σc) hA.1 rc σc' e1) (ky_x10_count (ky_r σc) rc σc' e1) (jm_km hm h0'.2.1)⟩, y⟩
