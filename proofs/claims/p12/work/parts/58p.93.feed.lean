/-! feed: both sides write the same bytes -/
theorem n8 (y : Int32) : (y &&& 255).toInt8.toInt32 = y.toInt8.toInt32 := by
  apply Int32.toBitVec_inj.mp
  rw [Int8.toBitVec_toInt32, Int8.toBitVec_toInt32, Int32.toBitVec_toInt8, Int32.toBitVec_toInt8, Int32.toBitVec_and]
  have hm : ∀ i < 8, (255 : Int32).toBitVec.getLsbD i = true := by decide
  have e : (y.toBitVec &&& (255 : Int32).toBitVec).signExtend 8 = y.toBitVec.signExtend 8 := by
    apply BitVec.eq_of_getLsbD_eq
    intro i hi
    rw [BitVec.getLsbD_signExtend, BitVec.getLsbD_signExtend, if_pos (show i < 32 by omega), if_pos (show i < 32 by omega), BitVec.getLsbD_and, hm i hi, Bool.and_true]
  rw [e]
theorem and255 {x : Int32} : 0 ≤ (x &&& 255).toInt ∧ (x &&& 255).toInt ≤ 255 := by
  have h : (x &&& 255).toBitVec.toNat ≤ 255 := by
    rw [Int32.toBitVec_and, BitVec.toNat_and]
    exact Nat.and_le_right
  have e : (x &&& 255).toInt = ((x &&& 255).toBitVec.toNat : Int) := BitVec.toInt_eq_toNat_of_lt (by omega)
  rw [e]
  omega
/-- byte b of a number, as the reference has it -/
def wb (v : Int32) (b : Nat) : Int32 := (v >>> (nI (24 - 8 * b) &&& 31)) &&& 255
theorem wb_nar (v : Int32) (b : Nat) : vp_nar .byte ((v >>> (nI (24 - 8 * b) &&& 31)).toInt8.toInt32) = vp_nar .byte (wb v b) := by
  unfold wb
  rw [pk_vb, vp_nar_byte, n8]
def fa (a1 a2 a3 a4 a5 : Int32) (q : Nat) : Int32 := if 16 ≤ q then a5 else if 12 ≤ q then a4 else if 8 ≤ q then a3 else if 4 ≤ q then a2 else a1
def fb (a1 a2 a3 a4 a5 : Int32) (k : Nat) : Int32 := wb (fa a1 a2 a3 a4 a5 k) (k % 4)
theorem mod4 : ∀ k, k < 20 → (24 : Int32) - 8 * (nI k - nI k / 4 * 4) = nI (24 - 8 * (k % 4)) := by decide +kernel
theorem n_feed20 {N : Nat} {a1 a2 a3 a4 a5 : Int32} {q : Nat} (hq : q + 20 ≤ 1200) : ∀ (f k : Nat) (σ : St), k ≤ 20 → gI σ 2 = nI q → Par (m_feed_20 N f σ a1 a2 a3 a4 a5 (nI k)) (fun _ σ' => (∀ x, gA σ' 1 x = if q + k ≤ x ∧ x < q + 20 then fb a1 a2 a3 a4 a5 (x - q) else gA σ 1 x) ∧ (∀ j, j ≠ 1 → gA σ' j = gA σ j) ∧ (∀ j, j ≠ 2 → gI σ' j = gI σ j)) := by
  intro f
  induction f with
  | zero => intro k σ _ _ r σ' h; cases h
  | succ f ih =>
    intro k σ hk h2
    show Par (m_feed_20_b N (m_feed_20 N f) σ a1 a2 a3 a4 a5 (nI k)) _
    unfold m_feed_20_b m_feed_110
    by_cases c : k = 20
    · subst c
      rw [if_pos (show (20 : Int32) ≤ nI 20 by decide)]
      refine par_some ⟨fun x => ?_, fun _ _ => rfl, fun j hj => gI_ne (fun y => hj y.symm)⟩
      rw [if_neg (by omega)]
      rfl
    · have k20 : k < 20 := by omega
      have st : ∀ v : Int32, v = fa a1 a2 a3 a4 a5 k → Par (m_feed_73 N (m_feed_20 N f) σ a1 a2 a3 a4 a5 (nI k) v) (fun _ σ' => (∀ x, gA σ' 1 x = if q + k ≤ x ∧ x < q + 20 then fb a1 a2 a3 a4 a5 (x - q) else gA σ 1 x) ∧ (∀ j, j ≠ 1 → gA σ' j = gA σ j) ∧ (∀ j, j ≠ 2 → gI σ' j = gI σ j)) := by
        intro v hv
        unfold m_feed_73
        rw [h2, nI_add, nI_clamp (by omega), mod4 k k20, nI_1]
        refine par_gd (fun _ => ?_)
        refine Par.mono (ih (k + 1) (sA σ 1 (q + k) (v >>> (nI (24 - 8 * (k % 4)) &&& 31) &&& 255)) (by omega) h2) (fun _ σ' z => ⟨fun x => ?_, fun j hj => ?_, z.2.2⟩)
        · rw [z.1 x, gA_sA, if_pos rfl]
          by_cases cx : x = q + k
          · subst cx
            rw [if_neg (by omega), if_pos (by omega), upd_eq, Nat.add_sub_cancel_left, hv]
            rfl
          · rw [upd_ne cx]
            by_cases c2 : q + k ≤ x ∧ x < q + 20
            · rw [if_pos (by omega), if_pos c2]
            · rw [if_neg (by omega), if_neg c2]
        · rw [z.2.1 j hj, gA_sA, if_neg hj]
      rw [if_neg (show ¬ (20 : Int32) ≤ nI k from nI_ge (b := 20) k20 (by decide))]
      by_cases c4 : 4 ≤ k
      · rw [if_pos (show (4 : Int32) ≤ nI k from nI_le (a := 4) c4 (by omega))]
        by_cases c8 : 8 ≤ k
        · rw [if_pos (show (8 : Int32) ≤ nI k from nI_le (a := 8) c8 (by omega))]
          by_cases c12 : 12 ≤ k
          · rw [if_pos (show (12 : Int32) ≤ nI k from nI_le (a := 12) c12 (by omega))]
            by_cases c16 : 16 ≤ k
            · rw [if_pos (show (16 : Int32) ≤ nI k from nI_le (a := 16) c16 (by omega))]
              exact st _ (by unfold fa; rw [if_pos c16])
            · rw [if_neg (show ¬ (16 : Int32) ≤ nI k from nI_ge (b := 16) (by omega) (by decide))]
              exact st _ (by unfold fa; rw [if_neg c16, if_pos c12])
          · rw [if_neg (show ¬ (12 : Int32) ≤ nI k from nI_ge (b := 12) (by omega) (by decide))]
            exact st _ (by unfold fa; rw [if_neg (by omega), if_neg c12, if_pos c8])
        · rw [if_neg (show ¬ (8 : Int32) ≤ nI k from nI_ge (b := 8) (by omega) (by decide))]
          exact st _ (by unfold fa; rw [if_neg (by omega), if_neg (by omega), if_neg c8, if_pos c4])
      · rw [if_neg (show ¬ (4 : Int32) ≤ nI k from nI_ge (b := 4) (by omega) (by decide))]
        exact st _ (by unfold fa; rw [if_neg (by omega), if_neg (by omega), if_neg (by omega), if_neg c4])
theorem sh_j : ∀ j, j < 4 → nI (8 * (j + 1)) - 8 + (-8) = nI (8 * j) - 8 ∧ nI (8 * (j + 1)) - 8 = nI (24 - 8 * (3 - j)) ∧ ¬ nI (8 * (j + 1)) - 8 < 0 := by decide +kernel
/-- four bytes of the class -/
theorem c_putN {N : Nat} {v : Int32} : ∀ (f j : Nat) (σ : St) (q : Nat), j ≤ 4 → q + j ≤ 1200 → gI σ 1 = nI q → Par (x10_putNumber_3 N f σ v (nI (8 * j) - 8)) (fun _ σ' => (∀ x, gA σ' 1 x = if q ≤ x ∧ x < q + j then vp_nar .byte (wb v (x - q + (4 - j))) else gA σ 1 x) ∧ gI σ' 1 = nI (q + j) ∧ (∀ k, k ≠ 1 → gA σ' k = gA σ k) ∧ (∀ k, k ≠ 1 → gI σ' k = gI σ k) ∧ (∀ k, gP σ' k = gP σ k)) := by
  intro f
  induction f with
  | zero => intro j σ q _ _ _ r σ' h; cases h
  | succ f ih =>
    intro j σ q hj hq h1
    show Par (x10_putNumber_3_b N (x10_putNumber_3 N f) σ v (nI (8 * j) - 8)) _
    unfold x10_putNumber_3_b x10_putNumber_49
    cases j with
    | zero =>
      rw [if_pos (show nI (8 * 0) - 8 < (0 : Int32) by decide)]
      refine par_some ⟨fun x => by rw [if_neg (by omega)], by rw [Nat.add_zero]; exact h1, fun _ _ => rfl, fun _ _ => rfl, fun _ => rfl⟩
    | succ j =>
      obtain ⟨s1, s2, s3⟩ := sh_j j (by omega)
      rw [if_neg s3, h1, if_neg (nI_pos (by omega)), if_neg (show ¬ (1200 : Int32) ≤ nI q from nI_ge (b := 1200) (by omega) (by decide)), nI_clamp (by omega), nI_1, s1, s2, wb_nar]
      refine par_gd (fun _ => ?_)
      refine Par.mono (ih j (sI (sA σ 1 q (vp_nar .byte (wb v (3 - j)))) 1 (nI (q + 1))) (q + 1) (by omega) (by omega) gI_eq) (fun _ σ' z => ?_)
      obtain ⟨z1, z2, z3, z4, z5⟩ := z
      refine ⟨fun x => ?_, by rw [z2, show q + 1 + j = q + (j + 1) by omega], fun k hk => ?_, fun k hk => ?_, z5⟩
      · rw [z1 x]
        show (if _ then _ else gA (sA σ 1 q (vp_nar .byte (wb v (3 - j)))) 1 x) = _
        rw [gA_sA, if_pos rfl]
        by_cases cx : x = q
        · subst cx
          rw [if_neg (by omega), if_pos (by omega), upd_eq, Nat.sub_self, Nat.zero_add, show 4 - (j + 1) = 3 - j by omega]
        · rw [upd_ne cx]
          by_cases c2 : q ≤ x ∧ x < q + (j + 1)
          · rw [if_pos (by omega), if_pos c2, show x - (q + 1) + (4 - j) = x - q + (4 - (j + 1)) by omega]
          · rw [if_neg (by omega), if_neg c2]
      · rw [z3 k hk]
        show gA (sA σ 1 q (vp_nar .byte (wb v (3 - j)))) k = _
        rw [gA_sA, if_neg hk]
      · rw [z4 k hk]
        exact gI_ne (fun y => hk y.symm)
