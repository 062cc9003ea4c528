/-! a call: both sides read the same -/
theorem bit_k {k b l : Nat} (hk : k ≤ 3) (hb : b < 2 ^ (5 * k)) (hl : l < 32) : (nI (k * 2 ^ 20 + b) + 1048576) + (nI l <<< (((nI (k * 2 ^ 20 + b) >>> ((20 : Int32) &&& 31)) * 5) &&& 31)) = nI ((k + 1) * 2 ^ 20 + (b + l * 2 ^ (5 * k))) ∧ nI b ||| (nI l <<< ((5 * nI k) &&& 31)) = nI (b + l * 2 ^ (5 * k)) ∧ b + l * 2 ^ (5 * k) < 2 ^ (5 * (k + 1)) := by
  have hb20 : b < 2 ^ 15 := Nat.lt_of_lt_of_le hb (Nat.pow_le_pow_right (by decide) (by omega))
  have e1 : nI (k * 2 ^ 20 + b) >>> ((20 : Int32) &&& 31) = nI k := by
    have := shr_n (a := k * 2 ^ 20 + b) (k := 20) (by decide) (by omega)
    rw [show (k * 2 ^ 20 + b) / 2 ^ 20 = k by omega] at this
    exact this
  have hp : l * 2 ^ (5 * k) < 2 ^ 20 := by
    rcases (show k = 0 ∨ k = 1 ∨ k = 2 ∨ k = 3 by omega) with rfl | rfl | rfl | rfl <;> simp only [Nat.mul_zero, Nat.reduceMul, Nat.reducePow] at * <;> omega
  have e2 : nI k * 5 = nI (5 * k) := by
    show nI k * nI 5 = _
    rw [nI_mul, Nat.mul_comm]
  have e3 : (5 : Int32) * nI k = nI (5 * k) := by
    show nI 5 * nI k = _
    rw [nI_mul]
  have e4 : nI l <<< (nI (5 * k) &&& 31) = nI (l * 2 ^ (5 * k)) := shl_n (by omega) (by omega)
  refine ⟨?_, ?_, ?_⟩
  · rw [e1, e2, e4]
    show (nI (k * 2 ^ 20 + b) + nI 1048576) + nI (l * 2 ^ (5 * k)) = _
    rw [nI_add, nI_add]
    generalize l * 2 ^ (5 * k) = w
    exact congrArg nI (by omega)
  · rw [e3, e4, or_n (by omega) (by omega)]
    refine congrArg nI ?_
    rw [← Nat.shiftLeft_eq, Nat.or_comm, ← Nat.shiftLeft_add_eq_or_of_lt hb, Nat.add_comm]
  · have : (2 : Nat) ^ (5 * (k + 1)) = 32 * 2 ^ (5 * k) := by
      rw [show 5 * (k + 1) = 5 + 5 * k by omega, Nat.pow_add]
    rw [this]
    have h2 : l * 2 ^ (5 * k) ≤ 31 * 2 ^ (5 * k) := Nat.mul_le_mul_right _ (by omega)
    omega
theorem ff_106 {N : Nat} {σ : St} {x1 x2 x3 x4 : Int32} (h : ¬ gI σ 8 = 0) : m_call_106 N σ x1 x2 x3 x4 = some ((), σ) := by
  unfold m_call_106
  rw [ff_wants h, bd_s, if_neg h]
theorem r2_45 {ρ : Type} {oc : Option (ρ × St)} {N f : Nat} {σ : St} {x1 x2 x3 x4 : Int32} {Q : ρ → St → Unit → St → Prop} (h : R2 oc (m_call_106 N σ x1 x2 x3 x4) Q) : R2 oc (m_call_45 N f σ x1 x2 x3 x4 0) Q := by
  cases f with
  | zero => intro _ _ _ _ _ e2; cases e2
  | succ f =>
    show R2 oc (m_call_45_b N (m_call_45 N f) σ x1 x2 x3 x4 0) Q
    unfold m_call_45_b
    rw [if_pos rfl]
    exact h
/-- the names that a call hands over -/
def A26 (k b : Nat) : Prop := ∀ i, i < k → b / 2 ^ (5 * i) % 32 < 26
theorem a26_up {k b l : Nat} (h : A26 k b) (hb : b < 2 ^ (5 * k)) (hk : k ≤ 3) (hl : l ≤ 25) : A26 (k + 1) (b + l * 2 ^ (5 * k)) := by
  intro i hi
  rcases (show k = 0 ∨ k = 1 ∨ k = 2 ∨ k = 3 by omega) with e | e | e | e <;> subst e
  · obtain rfl : i = 0 := by omega
    show (b + l * 1) / 1 % 32 < 26
    have hb : b < 1 := hb
    omega
  · have hb : b < 32 := hb
    rcases (show i = 0 ∨ i = 1 by omega) with e | e <;> subst e
    · have := h 0 (by decide)
      have this : b / 1 % 32 < 26 := this
      show (b + l * 32) / 1 % 32 < 26
      omega
    · show (b + l * 32) / 32 % 32 < 26
      omega
  · have hb : b < 1024 := hb
    rcases (show i = 0 ∨ i = 1 ∨ i = 2 by omega) with e | e | e <;> subst e
    · have := h 0 (by decide)
      have this : b / 1 % 32 < 26 := this
      show (b + l * 1024) / 1 % 32 < 26
      omega
    · have := h 1 (by decide)
      have this : b / 32 % 32 < 26 := this
      show (b + l * 1024) / 32 % 32 < 26
      omega
    · show (b + l * 1024) / 1024 % 32 < 26
      omega
  · have hb : b < 32768 := hb
    rcases (show i = 0 ∨ i = 1 ∨ i = 2 ∨ i = 3 by omega) with e | e | e | e <;> subst e
    · have := h 0 (by decide)
      have this : b / 1 % 32 < 26 := this
      show (b + l * 32768) / 1 % 32 < 26
      omega
    · have := h 1 (by decide)
      have this : b / 32 % 32 < 26 := this
      show (b + l * 32768) / 32 % 32 < 26
      omega
    · have := h 2 (by decide)
      have this : b / 1024 % 32 < 26 := this
      show (b + l * 32768) / 1024 % 32 < 26
      omega
    · show (b + l * 32768) / 32768 % 32 < 26
      omega
/-- what a call leaves: of the class's row pc, of the reference's act a and its call c -/
def CallQ (t : Nat → Int32) (n g i0 S a c u pc : Nat) (σc0 σm0 : St) (rc : Int32) (σc : St) (σm : St) : Prop := (rc = 1 ∧ ∃ i k b : Nat, k ≤ 4 ∧ b < 2 ^ 20 ∧ MC t n g i S σc ∧ MM t n i (a + 1) (c + 1) σm ∧ UsR g u σc σm ∧ FcV g pc σc0 σc ∧ FmV a c σm0 σm ∧ gA σc (g + 2) (12 * pc + 4) = 5 ∧ gA σc (g + 2) (12 * pc + 6) = kL t n i0 ∧ gA σc (g + 2) (12 * pc + 8) = nI (k * 2 ^ 20 + b) ∧ gA σc (g + 2) (12 * pc + 9) = nI (kQ t n i0) ∧ gA σm 12 (1300 + a) = 6 ∧ gA σm 13 (1300 + a) = kL t n i0 ∧ gA σm 14 (1300 + a) = nI k ∧ gA σm 16 (1300 + a) = nI b ∧ gA σm 30 c = nI (kQ t n i0) ∧ gA σm 31 c = kL t n i0 ∧ gA σm 32 c = nI k ∧ kQ t n i0 + 3 ≤ kQ t n i ∧ A26 k b) ∨ (rc = 0 ∧ FP σc σm)
/-- in the middle of a call: k arguments, packed b -/
def CalC (t : Nat → Int32) (n g i0 pc k b : Nat) (σ0 σ : St) : Prop := FcV g pc σ0 σ ∧ gA σ (g + 2) (12 * pc + 4) = 5 ∧ gA σ (g + 2) (12 * pc + 6) = kL t n i0 ∧ gA σ (g + 2) (12 * pc + 8) = nI (k * 2 ^ 20 + b) ∧ gA σ (g + 2) (12 * pc + 9) = nI (kQ t n i0) ∧ A26 k b
theorem calC_n {t : Nat → Int32} {n g i0 pc k b : Nat} {σ0 σ : St} {v : Int32} (h : CalC t n g i0 pc k b σ0 σ) : CalC t n g i0 pc k b σ0 (sI σ 405 v) := ⟨fcV_tr h.1 fcV_n, h.2⟩
theorem r_callEnd {t : Nat → Int32} {n g i0 i S a c u pc k b N : Nat} {σc0 σm0 σc σm : St} (hN : 8589934592 ≤ N) (hT : Tp t n) (hC : MC t n g i S σc) (hM : MM t n i a c σm) (hU : UsR g u σc σm) (hk : k ≤ 4) (hb : b < 2 ^ 20) (hc : CalC t n g i0 pc k b σc0 σc) (hm : FmV a c σm0 σm) (hq : kQ t n i0 + 2 ≤ kQ t n i) : R2 (x4_readCall_171 N σc) (m_call_106 N σm (nI (kQ t n i0)) (kL t n i0) (nI k) (nI b)) (fun rc σc' _ σm' => CallQ t n g i0 S a c u pc σc0 σm0 rc σc' σm') := by
  have h8 := hM.1.2.2.2.2.2
  unfold x4_readCall_171 m_call_106
  by_cases k5 : kK t n i = 5
  · rw [sc_takeY hT hC.1 k5, bd_s]
    have hk0 : ¬ kK t n i = 0 := by rw [k5]; decide
    refine r2_gdL (fun _ => r2_bdR (sm_wantsY hN hT hM.1 (k := 5) (c := 41) (Or.inr (Or.inl ⟨rfl, rfl⟩)) k5) (fun _ σ1 z => ?_))
    obtain ⟨z1, z2⟩ := z
    have hM1 := mM_tk hM z2 z1
    rw [if_pos z1.2.2.2.2.2, hM1.2.2.2.1]
    refine r2_gdR (fun hb1 => r2_gdR (fun _ => r2_gdR (fun _ => ?_)))
    have hc400 := ib_l2 hb1 (by have := hM.2.2.2.2; omega)
    rw [nI_clamp (by omega), nI_1]
    generalize e2 : sI (sA (sA (sA σ1 30 c (nI (kQ t n i0))) 31 c (kL t n i0)) 32 c (nI k)) 33 (nI (c + 1)) = σ2
    have h17 : gI σ2 17 = nI a := by rw [← e2]; exact (gI_ne (by decide)).trans hM1.2.1
    have i2 : ∀ j, j ≠ 33 → gI σ2 j = gI σ1 j := fun j hj => by rw [← e2]; exact gI_ne (fun y => hj y.symm)
    have a2 : ∀ j, ¬ (30 ≤ j ∧ j ≤ 32) → gA σ2 j = gA σ1 j := fun j hj => by
      rw [← e2]
      show gA (sA (sA (sA σ1 30 c (nI (kQ t n i0))) 31 c (kL t n i0)) 32 c (nI k)) j = _
      rw [gA_sA, if_neg (by omega), gA_sA, if_neg (by omega), gA_sA, if_neg (by omega)]
    have a30 : gA σ2 30 = upd (gA σ1 30) c (nI (kQ t n i0)) := by rw [← e2]; rfl
    have a31 : gA σ2 31 = upd (gA σ1 31) c (kL t n i0) := by rw [← e2]; rfl
    have a32 : gA σ2 32 = upd (gA σ1 32) c (nI k) := by rw [← e2]; rfl
    refine r2_bdR (n_emit h17 hM.2.2.1) (fun r σ3 z3 => ?_)
    obtain ⟨ha, rfl, y2, y3, y4⟩ := z3
    refine r2_gdR (fun _ => ?_)
    rw [nI_cl ha]
    have hup := kQ_up (t := t) (n := n) (i := i)
    have h9 := hup.2.2 hk0
    refine r2_some (Or.inl ⟨rfl, i + 1, k, b, hk, hb, mC_up hT hC hk0, ⟨?_, y4, by omega, ?_, by omega⟩, ?_, ?_, ?_, hc.2.1, hc.2.2.1, hc.2.2.2.1, hc.2.2.2.2.1, ?_, ?_, ?_, ?_, ?_, ?_, ?_, by omega, hc.2.2.2.2.2⟩)
    · refine syM_same z1 ?_ (fun j hj hj2 => ?_)
      · show gA (sA σ3 16 (1300 + a) (nI b)) 1 = _
        rw [gA_sA, if_neg (by decide), y2, emA_o (by omega), a2 1 (by omega)]
      · show gI σ3 j = _
        rw [y3 j (by omega), i2 j (by omega)]
    · show gI σ3 33 = _
      rw [y3 33 (by decide), ← e2]
      exact gI_eq
    · have hU1 := usR_n (v := nI (i + 1)) hC.2.1.1 hU z2
      obtain ⟨u1, u2, u3, u4⟩ := hU1
      have e23 : ∀ j, 23 ≤ j → j ≤ 26 → gA (sA σ3 16 (1300 + a) (nI b)) j = gA σ1 j := fun j h1 h2 => by rw [gA_sA, if_neg (by omega), y2, emA_o (by omega), a2 j (by omega)]
      refine ⟨u1, by rw [e23 26 (by omega) (by omega)]; exact u2, u3, fun j hj => ?_⟩
      rw [e23 23 (by omega) (by omega), e23 24 (by omega) (by omega), e23 25 (by omega) (by omega)]
      exact u4 j hj
    · exact fcV_tr hc.1 fcV_n
    · refine fmV_tr hm (fmV_tr (fmV_tk z2) ⟨fun j h1 h2 h3 => ?_, fun j h1 h2 h3 => ?_, fun j x h1 h2 h3 => ?_, fun j x h1 h2 h3 => ?_⟩)
      · show gI σ3 j = _
        rw [y3 j h2, i2 j h3]
      · rw [gA_sA, if_neg (by omega), y2, emA_o (by omega), a2 j h3]
      · rw [gA_sA]
        by_cases c16 : j = 16
        · rw [if_pos c16, c16]
          unfold upd
          rw [if_neg (by omega), y2, emA_o (by omega), a2 16 (by omega)]
        · rw [if_neg c16, y2, emA_ge h3, a2 j (by omega)]
      · rw [gA_sA, if_neg (by omega), y2, emA_o (by omega)]
        rcases (show j = 30 ∨ j = 31 ∨ j = 32 by omega) with rfl | rfl | rfl
        · rw [a30]; unfold upd; exact if_neg (by omega)
        · rw [a31]; unfold upd; exact if_neg (by omega)
        · rw [a32]; unfold upd; exact if_neg (by omega)
    · rw [gA_sA, if_neg (by decide), y2, em12]; unfold upd; exact if_pos rfl
    · rw [gA_sA, if_neg (by decide), y2, em13]; unfold upd; exact if_pos rfl
    · rw [gA_sA, if_neg (by decide), y2, em14]; unfold upd; exact if_pos rfl
    · rw [gA_sA, if_pos rfl]; unfold upd; exact if_pos rfl
    · rw [gA_sA, if_neg (by decide), y2, emA_o (by omega), a30]; unfold upd; exact if_pos rfl
    · rw [gA_sA, if_neg (by decide), y2, emA_o (by omega), a31]; unfold upd; exact if_pos rfl
    · rw [gA_sA, if_neg (by decide), y2, emA_o (by omega), a32]; unfold upd; exact if_pos rfl
  · rw [sc_takeN hT hC.1 k5, bd_s, sm_wantsN hM.1 (k := 5) (c := 41) (Or.inr (Or.inl ⟨rfl, rfl⟩)) k5, bd_s, if_neg (show ¬ gI (sI (sI σm 8 1) 9 (nI (kQ t n i))) 8 = 0 by rw [gI_ne (by decide), gI_eq]; decide)]
    exact r2_gdL (fun _ => r2_some (Or.inr ⟨rfl, fp_of (k := 1) (by decide) rfl rfl⟩))
theorem r_callLoop {t : Nat → Int32} {n g i0 S a c u pc N : Nat} {σc0 σm0 : St} (hN : 8589934592 ≤ N) (hT : Tp t n) (hpc : pc < S) : ∀ (f f' i k b : Nat) (σc σm : St), MC t n g i S σc → MM t n i a c σm → UsR g u σc σm → k ≤ 4 → b < 2 ^ (5 * k) → CalC t n g i0 pc k b σc0 σc → FmV a c σm0 σm → kQ t n i0 + 2 ≤ kQ t n i → R2 (x4_readCall_88 N f σc (nI pc) (nI k)) (m_call_45 N f' σm (nI (kQ t n i0)) (kL t n i0) (nI k) (nI b) 1) (fun rc σc' _ σm' => CallQ t n g i0 S a c u pc σc0 σm0 rc σc' σm') := by
  intro f
  induction f with
  | zero => intro f' i k b σc σm _ _ _ _ _ _ _ _ _ _ _ _ e1; cases e1
  | succ f ih =>
    intro f' i k b σc σm hC hM hU hk hb hc hm hq
    cases f' with
    | zero => intro _ _ _ _ _ e2; cases e2
    | succ f' =>
      have hi := hC.1.2.2.1
      have h8 := hM.1.2.2.2.2.2
      have hb20 : b < 2 ^ 20 := Nat.lt_of_lt_of_le hb (Nat.pow_le_pow_right (by decide) (by omega))
      obtain ⟨v1, -, -, v4, -⟩ := sv_srt hM.1.2.2.2.2.1
      show R2 (x4_readCall_88_b N (x4_readCall_88 N f) σc (nI pc) (nI k)) (m_call_45_b N (m_call_45 N f') σm (nI (kQ t n i0)) (kL t n i0) (nI k) (nI b) 1) _
      unfold x4_readCall_88_b m_call_45_b m_call_78
      rw [if_neg (show ¬ (4 : Int32) < nI k from nI_nlt (a := 4) hk (by decide)), if_neg (show ¬ (1 : Int32) = 0 by decide), if_pos h8]
      by_cases k2 : kK t n i = 2
      · have hk0 : ¬ kK t n i = 0 := by rw [k2]; decide
        rw [sc_takeY hT hC.1 k2, bd_s, if_neg (show ¬ (1 : Int32) = 0 by decide), if_pos (v1.mpr k2)]
        by_cases k4 : k = 4
        · subst k4
          rw [if_pos (show nI 4 = (4 : Int32) from rfl), if_pos (show nI 4 = (4 : Int32) from rfl), hC.1.2.1]
          unfold x4_readCall_113 x4_refuse m_wrong
          have hC1 := mC_up hT hC hk0
          rw [sc_place hT hC1.1 (by omega), bd_s, bd_s, if_pos h8, bd_s]
          have hf : ¬ gI (sI (sI σm 8 2) 9 (gI σm 5)) 8 = 0 := by rw [gI_ne (by decide), gI_eq]; decide
          rw [ff_taken hf, bd_s, ff_takes hf, bd_s]
          refine r2_gdL (fun _ => r2_45 ?_)
          rw [ff_106 hf]
          refine r2_some (Or.inr ⟨rfl, ?_⟩)
          rw [hM.1.2.2.2.1]
          exact ⟨2, nI (kQ t n i), by decide, (gI_ne (by decide)).trans gI_eq, gI_eq, (gI_ne (by decide)).trans gI_eq, gI_eq⟩
        · have hk3 : k ≤ 3 := by omega
          rw [if_neg (show ¬ nI k = (4 : Int32) from fun z => k4 ((nI_eq (b := 4) (by omega) (by decide)).mp z)), if_neg (show ¬ nI k = (4 : Int32) from fun z => k4 ((nI_eq (b := 4) (by omega) (by decide)).mp z)), hC.1.2.1]
          have hC1 := mC_up hT hC hk0
          obtain ⟨l, hl, el, -⟩ := eL_b (q := kQ t n i) hT.1 hT.2
          have el2 : kL t n i = nI l := el
          obtain ⟨bk1, bk2, bk3⟩ := bit_k hk3 hb (show l < 32 by omega)
          have hk1 : ¬ kK t n (i + 1) = 0 → i + 2 ≤ 1300 := fun z => by have := tk_1200 hT z; omega
          rw [sc_letter hT hC1.1 (by omega), bd_s]
          unfold x0_addArgument
          rw [hC1.2.1.2.2, pg_cd hC1.2.1.1]
          refine r2_gdL (fun _ => ?_)
          show R2 (bd (gd true (bd (x0_get N (sI σc 405 (nI (i + 1))) (g + 1) (nI pc) (nI 8)) (fun r2 σ3 => bd (x0_set N σ3 (g + 1) (nI pc) (nI 8) ((r2 + 1048576) + (kL t n i <<< (((r2 >>> ((20 : Int32) &&& 31)) * 5) &&& 31)))) (fun _ σ5 => some ((), σ5))))) _) _ _
          rw [c_get hC1.2.1.1 hC1.2.2.1 hC1.2.2.2 hpc (by decide), bd_s, c_set hC1.2.1.1 hC1.2.2.1 hC1.2.2.2 hpc (by decide), bd_s]
          show R2 (bd (some ((), sA (sI σc 405 (nI (i + 1))) (g + 2) (12 * pc + 8) _)) _) _ _
          rw [bd_s, show gA (sI σc 405 (nI (i + 1))) (g + 2) (12 * pc + 8) = nI (k * 2 ^ 20 + b) from hc.2.2.2.1, el2, bk1]
          generalize e3 : sA (sI σc 405 (nI (i + 1))) (g + 2) (12 * pc + 8) (nI ((k + 1) * 2 ^ 20 + (b + l * 2 ^ (5 * k)))) = σ3
          have hC3 : MC t n g (i + 1) S σ3 := by rw [← e3]; exact mC_row hC1
          have hc3 : CalC t n g i0 pc (k + 1) (b + l * 2 ^ (5 * k)) σc0 σ3 := by
            rw [← e3]
            refine ⟨fcV_tr (fcV_tr hc.1 fcV_n) (fcV_r (by decide) (by decide)), ?_, ?_, ?_, ?_, a26_up hc.2.2.2.2.2 hb hk3 hl⟩
            · rw [gA_sA, if_pos rfl]; unfold upd; rw [if_neg (by omega)]; exact hc.2.1
            · rw [gA_sA, if_pos rfl]; unfold upd; rw [if_neg (by omega)]; exact hc.2.2.1
            · rw [gA_sA, if_pos rfl]; unfold upd; exact if_pos rfl
            · rw [gA_sA, if_pos rfl]; unfold upd; rw [if_neg (by omega)]; exact hc.2.2.2.2.1
          rw [sc_seen hT hC3.1, bd_s]
          refine r2_bdR (sm_takenY hN hT hM.1 (k := 2) (Or.inl ⟨rfl, rfl⟩) k2) (fun r σ4 z => ?_)
          obtain ⟨rfl, z2, z3⟩ := z
          have hM4 := mM_tk hM z3 z2
          have hU4 : UsR g u σ3 σ4 := by rw [← e3]; exact usR_row hC.2.1.1 (usR_n hC.2.1.1 hU z3)
          have hm4 := fmV_tr hm (fmV_tk (a := a) (c := c) z3)
          rw [el2, bk2, nI_1]
          have hup := (kQ_up (t := t) (n := n) (i := i)).2.2 hk0
          unfold m_takesSign
          by_cases k8 : kK t n (i + 1) = 8
          · have hk80 : ¬ kK t n (i + 1) = 0 := by rw [k8]; decide
            rw [if_pos k8, if_neg (show ¬ (1 : Int32) = 0 by decide), sm_sign hM4.1 (k := 8) (c := 44) (Or.inr (Or.inr (Or.inr (Or.inr (Or.inl ⟨rfl, rfl⟩))))), if_pos k8, bd_s, if_neg (show ¬ (1 : Int32) = 0 by decide), hC3.1.2.1, nI_1]
            refine r2_bdR (P := fun r σ' => r = 1 ∧ SyM t n (i + 1 + 1) σ' ∧ Tk σ4 σ') (par_bd (sm_next hN hT hM4.1) (fun _ σ5 y => par_some ⟨rfl, y.1, y.2.1⟩)) (fun r σ5 y => ?_)
            obtain ⟨rfl, y1, y2⟩ := y
            have hup1 := (kQ_up (t := t) (n := n) (i := i + 1)).2.2 hk80
            exact ih f' (i + 1 + 1) (k + 1) (b + l * 2 ^ (5 * k)) _ _ (mC_up hT hC3 hk80) (mM_tk hM4 y2 y1) (usR_n hC.2.1.1 hU4 y2) (by omega) bk3 (calC_n hc3) (fmV_tr hm4 (fmV_tk y2)) (by omega)
          · rw [if_neg k8, if_pos rfl, sm_sign hM4.1 (k := 8) (c := 44) (Or.inr (Or.inr (Or.inr (Or.inr (Or.inl ⟨rfl, rfl⟩))))), if_neg k8, bd_s, if_pos rfl, bd_s]
            unfold x4_readCall_152
            refine r2_45 ?_
            exact r_callEnd hN hT hC3 hM4 hU4 (by omega) (Nat.lt_of_lt_of_le bk3 (Nat.pow_le_pow_right (by decide) (by omega))) hc3 hm4 (by omega)
      · rw [sc_takeN hT hC.1 k2, bd_s, if_pos rfl, if_neg (fun z => k2 (v1.mp z)), sm_takenN hM.1 (k := 2) (Or.inl ⟨rfl, rfl⟩) k2, bd_s]
        have hf : ¬ gI (sI (sI σm 8 1) 9 (nI (kQ t n i))) 8 = 0 := by rw [gI_ne (by decide), gI_eq]; decide
        rw [ff_takes hf, bd_s]
        refine r2_45 ?_
        rw [ff_106 hf]
        exact r2_some (Or.inr ⟨rfl, fp_of (k := 1) (by decide) rfl rfl⟩)
theorem r_call {t : Nat → Int32} {n g i S a c u pc N : Nat} {σc σm : St} (hN : 8589934592 ≤ N) (hT : Tp t n) (hC : MC t n g i S σc) (hM : MM t n i a c σm) (hU : UsR g u σc σm) (hpc : pc < S) (hz : gA σc (g + 2) (12 * pc + 8) = 0) (k3 : kK t n i = 3) : R2 (x4_readCall N σc (nI pc)) (m_call N σm) (fun rc σc' _ σm' => CallQ t n g i S a c u pc σc σm rc σc' σm') := by
  have hi := hC.1.2.2.1
  have hk0 : ¬ kK t n i = 0 := by rw [k3]; decide
  have hg := hC.2.1.1
  unfold x4_readCall m_call
  rw [hC.2.1.2.2, pg_cd hg]
  show R2 (bd (x0_set N σc (g + 1) (nI pc) (nI 4) 5) _) _ _
  rw [c_set hg hC.2.2.1 hC.2.2.2 hpc (by decide), bd_s]
  generalize e1 : sA σc (g + 2) (12 * pc + 4) 5 = σ1
  have hC1 : MC t n g i S σ1 := by rw [← e1]; exact mC_row hC
  rw [hC1.1.2.1, sc_letter hT hC1.1 (by omega), bd_s, hC1.2.1.2.2, pg_cd hg]
  refine r2_gdL (fun _ => ?_)
  show R2 (bd (x0_set N σ1 (g + 1) (nI pc) (nI 6) (kL t n i)) _) _ _
  rw [c_set hg hC1.2.2.1 hC1.2.2.2 hpc (by decide), bd_s]
  generalize e2 : sA σ1 (g + 2) (12 * pc + 6) (kL t n i) = σ2
  have hC2 : MC t n g i S σ2 := by rw [← e2]; exact mC_row hC1
  rw [hC2.1.2.1, sc_place hT hC2.1 (by omega), bd_s, hC2.2.1.2.2, pg_cd hg]
  refine r2_gdL (fun _ => ?_)
  show R2 (bd (x0_set N σ2 (g + 1) (nI pc) (nI 9) (nI (kQ t n i))) _) _ _
  rw [c_set hg hC2.2.2.1 hC2.2.2.2 hpc (by decide), bd_s]
  generalize e3 : sA σ2 (g + 2) (12 * pc + 9) (nI (kQ t n i)) = σ3
  have hC3 : MC t n g i S σ3 := by rw [← e3]; exact mC_row hC2
  have hU3 : UsR g u σ3 σm := by rw [← e3, ← e2, ← e1]; exact usR_row hg (usR_row hg (usR_row hg hU))
  have hc3 : CalC t n g i pc 0 0 σc σ3 := by
    have f1 : gA σ1 (g + 2) = upd (gA σc (g + 2)) (12 * pc + 4) 5 := by rw [← e1, gA_sA, if_pos rfl]
    have f2 : gA σ2 (g + 2) = upd (gA σ1 (g + 2)) (12 * pc + 6) (kL t n i) := by rw [← e2, gA_sA, if_pos rfl]
    have f3 : gA σ3 (g + 2) = upd (gA σ2 (g + 2)) (12 * pc + 9) (nI (kQ t n i)) := by rw [← e3, gA_sA, if_pos rfl]
    refine ⟨?_, ?_, ?_, ?_, ?_, fun i hi => absurd hi (Nat.not_lt_zero i)⟩
    · rw [← e3, ← e2, ← e1]
      exact fcV_tr (fcV_tr (fcV_r (by decide) (by decide)) (fcV_r (by decide) (by decide))) (fcV_r (by decide) (by decide))
    · rw [f3, f2, f1]; unfold upd; rw [if_neg (by omega), if_neg (by omega), if_pos rfl]
    · rw [f3, f2, f1]; unfold upd; rw [if_neg (by omega), if_pos rfl]
    · rw [f3, f2, f1]; unfold upd; rw [if_neg (by omega), if_neg (by omega), if_neg (by omega), hz]; rfl
    · rw [f3, f2, f1]; unfold upd; rw [if_pos rfl]
  rw [hC3.1.2.1, nI_1]
  have hC4 := mC_up hT hC3 hk0
  have hup := (kQ_up (t := t) (n := n) (i := i)).2.2 hk0
  refine r2_bdR (sm_takenY hN hT hM.1 (k := 3) (Or.inr ⟨rfl, rfl⟩) k3) (fun r σ4 z => ?_)
  obtain ⟨rfl, z2, z3⟩ := z
  have hM4 := mM_tk hM z3 z2
  have hU4 := usR_n (v := nI (i + 1)) hg hU3 z3
  rw [hM.1.2.2.2.1]
  by_cases k4 : kK t n (i + 1) = 4
  · have hk40 : ¬ kK t n (i + 1) = 0 := by rw [k4]; decide
    rw [sc_takeY hT hC4.1 k4, bd_s, if_neg (show ¬ (1 : Int32) = 0 by decide)]
    have hC5 := mC_up hT hC4 hk40
    have hup1 := (kQ_up (t := t) (n := n) (i := i + 1)).2.2 hk40
    refine r2_bdR (sm_wantsY hN hT hM4.1 (k := 4) (c := 40) (Or.inl ⟨rfl, rfl⟩) k4) (fun _ σ5 y => ?_)
    obtain ⟨y1, y2⟩ := y
    have hM5 := mM_tk hM4 y2 y1
    have hU5 := usR_n (v := nI (i + 1 + 1)) hg hU4 y2
    have hm5 := fmV_tr (fmV_tk (a := a) (c := c) z3) (fmV_tk (a := a) (c := c) y2)
    rw [if_pos y1.2.2.2.2.2, sm_sign hM5.1 (k := 5) (c := 41) (Or.inr (Or.inl ⟨rfl, rfl⟩)), bd_s, sc_seen hT hC5.1, bd_s]
    by_cases k5 : kK t n (i + 1 + 1) = 5
    · rw [if_pos k5, if_neg (show ¬ (1 : Int32) = 0 by decide), if_neg (show ¬ (1 : Int32) = 0 by decide)]
      refine r2_45 ?_
      exact r_callEnd (i := i + 1 + 1) (k := 0) (b := 0) hN hT hC5 hM5 hU5 (by decide) (by decide) (calC_n (calC_n hc3)) hm5 (by omega)
    · rw [if_neg k5, if_pos rfl, if_pos rfl]
      exact r_callLoop hN hT hpc N N (i + 1 + 1) 0 0 _ _ hC5 hM5 hU5 (by decide) (by decide) (calC_n (calC_n hc3)) hm5 (by omega)
  · rw [sc_takeN hT hC4.1 k4, bd_s, if_pos rfl, sm_wantsN hM4.1 (k := 4) (c := 40) (Or.inl ⟨rfl, rfl⟩) k4, bd_s]
    have hf : ¬ gI (sI (sI σ4 8 1) 9 (nI (kQ t n (i + 1)))) 8 = 0 := by rw [gI_ne (by decide), gI_eq]; decide
    rw [if_neg hf]
    refine r2_45 ?_
    rw [ff_106 hf]
    exact r2_some (Or.inr ⟨rfl, fp_of (k := 1) (by decide) rfl rfl⟩)
