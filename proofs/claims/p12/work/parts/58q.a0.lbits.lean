/-! bits of longs, and facts: sets of NOTHING (bit 0) and THING (bit 1) -/
def lb (x : Int64) (i : Nat) : Bool := x.toBitVec.getLsbD i
theorem lb_or {x y : Int64} {i : Nat} : lb (x ||| y) i = (lb x i || lb y i) := by
  unfold lb
  rw [Int64.toBitVec_or, BitVec.getLsbD_or]
theorem lb_and {x y : Int64} {i : Nat} : lb (x &&& y) i = (lb x i && lb y i) := by
  unfold lb
  rw [Int64.toBitVec_and, BitVec.getLsbD_and]
theorem lb_ext {x y : Int64} (h : ∀ i, i < 64 → lb x i = lb y i) : x = y := Int64.toBitVec_inj.mp (BitVec.eq_of_getLsbD_eq h)
theorem lb_0 {i : Nat} : lb 0 i = false := by
  unfold lb
  show (0#64).getLsbD i = false
  exact BitVec.getLsbD_zero
theorem lb_ge {x : Int64} {i : Nat} (h : 64 ≤ i) : lb x i = false := BitVec.getLsbD_of_ge _ _ h
theorem lb_not {x : Int64} {i : Nat} (h : i < 64) : lb (x ^^^ (-1)) i = !lb x i := by
  unfold lb
  rw [Int64.toBitVec_xor, BitVec.getLsbD_xor, show (-1 : Int64).toBitVec = BitVec.allOnes 64 from rfl, BitVec.getLsbD_allOnes, decide_eq_true h, Bool.xor_true]
theorem sm_l : ∀ k, k < 64 → (((nI k).toInt64 &&& 63).toBitVec.smod 64).toNat = k := by decide +kernel
theorem lb_shl {x : Int64} {k i : Nat} (hk : k < 64) (hi : i < 64) : lb (x <<< ((nI k).toInt64 &&& 63)) i = (decide (k ≤ i) && lb x (i - k)) := by
  unfold lb
  rw [Int64.toBitVec_shiftLeft, BitVec.getLsbD_shiftLeft', sm_l k hk, decide_eq_true hi]
  by_cases h : i < k
  · rw [decide_eq_true h, decide_eq_false (by omega)]; rfl
  · rw [decide_eq_false h, decide_eq_true (by omega)]; rfl
theorem lb_shr {x : Int64} {k i : Nat} (hk : k + i < 64) : lb (x >>> ((nI k).toInt64 &&& 63)) i = lb x (k + i) := by
  unfold lb
  rw [Int64.toBitVec_shiftRight, BitVec.getLsbD_sshiftRight', sm_l k (by omega), if_pos hk, decide_eq_false (by omega)]
  rfl
theorem lb_n {v i : Nat} (h : v < 2 ^ 64) (hi : i < 64) : lb (lN v) i = v.testBit i := by
  unfold lb
  rw [show (lN v).toBitVec = BitVec.ofNat 64 v from rfl, BitVec.getLsbD_ofNat, decide_eq_true hi]
  rfl
theorem fb_small : ∀ v, v < 4 → ∀ b, b < 1000 → 2 ≤ b → v.testBit b = false := fun v hv b _ hb => Nat.testBit_lt_two_pow (Nat.lt_of_lt_of_le hv (show 4 ≤ 2 ^ b from Nat.pow_le_pow_right (n := 2) (by decide) hb))
theorem ib_ext {x y : Int32} (h : ∀ i, i < 32 → x.toBitVec.getLsbD i = y.toBitVec.getLsbD i) : x = y := Int32.toBitVec_inj.mp (BitVec.eq_of_getLsbD_eq h)
def bN (b : Bool) : Nat := if b then 1 else 0
theorem bN_le {b : Bool} : bN b ≤ 1 := by cases b <;> decide
theorem bN_t {a b : Bool} : (bN a + 2 * bN b).testBit 0 = a ∧ (bN a + 2 * bN b).testBit 1 = b ∧ bN a + 2 * bN b < 4 := by cases a <;> cases b <;> decide
theorem and3 {y : Int32} : y &&& 3 = nI (bN (y.toBitVec.getLsbD 0) + 2 * bN (y.toBitVec.getLsbD 1)) := by
  have hb := bN_t (a := y.toBitVec.getLsbD 0) (b := y.toBitVec.getLsbD 1)
  apply ib_ext
  intro i hi
  rw [Int32.toBitVec_and, BitVec.getLsbD_and, tb_n, BitVec.getLsbD_ofNat, decide_eq_true hi, Bool.true_and, show (3 : Int32).toBitVec = BitVec.ofNat 32 3 from rfl, BitVec.getLsbD_ofNat, decide_eq_true hi, Bool.true_and]
  rcases (show i = 0 ∨ i = 1 ∨ 2 ≤ i by omega) with e | e | e
  · subst e
    rw [hb.1, show (3 : Nat).testBit 0 = true from rfl, Bool.and_true]
  · subst e
    rw [hb.2.1, show (3 : Nat).testBit 1 = true from rfl, Bool.and_true]
  · rw [fb_small 3 (by decide) i (by omega) e, fb_small _ hb.2.2 i (by omega) e, Bool.and_false]
theorem and1b {y : Int32} : y &&& 1 = nI (bN (y.toBitVec.getLsbD 0)) := by
  apply ib_ext
  intro i hi
  have h2 : bN (y.toBitVec.getLsbD 0) < 4 := Nat.lt_of_le_of_lt bN_le (by decide)
  rw [Int32.toBitVec_and, BitVec.getLsbD_and, tb_n, BitVec.getLsbD_ofNat, decide_eq_true hi, Bool.true_and, show (1 : Int32).toBitVec = BitVec.ofNat 32 1 from rfl, BitVec.getLsbD_ofNat, decide_eq_true hi, Bool.true_and]
  rcases (show i = 0 ∨ i = 1 ∨ 2 ≤ i by omega) with e | e | e
  · subst e
    cases y.toBitVec.getLsbD 0 <;> rfl
  · subst e
    cases y.toBitVec.getLsbD 0 <;> cases y.toBitVec.getLsbD 1 <;> rfl
  · rw [fb_small 1 (by decide) i (by omega) e, fb_small _ h2 i (by omega) e, Bool.and_false]
theorem toI_b {x : Int64} {i : Nat} (hi : i < 32) : x.toInt32.toBitVec.getLsbD i = lb x i := by
  unfold lb
  rw [Int64.toBitVec_toInt32, BitVec.getLsbD_signExtend, decide_eq_true hi, if_pos (by omega)]
  rfl
/-- the reference's factOf -/
theorem mf_eq {x : Int64} {n : Nat} (hn : n ≤ 26) : ((x >>> ((2 * nI n).toInt64 &&& 63)).toInt32) &&& 3 = nI (bN (lb x (2 * n)) + 2 * bN (lb x (2 * n + 1))) := by
  rw [show (2 : Int32) * nI n = nI (2 * n) from by rw [show (2 : Int32) = nI 2 from rfl, nI_mul], and3, toI_b (by decide), toI_b (by decide), lb_shr (by omega), lb_shr (by omega)]
  rfl
/-- the reference's with -/
def mw (x : Int64) (n v : Nat) : Int64 := (x &&& (((3 : Int64) <<< ((2 * nI n).toInt64 &&& 63)) ^^^ (-1))) ||| ((nI v).toInt64 <<< ((2 * nI n).toInt64 &&& 63))
theorem mw_b {x : Int64} {n v : Nat} (hn : n ≤ 26) (hv : v < 4) : ∀ i, i < 64 → lb (mw x n v) i = if i = 2 * n then v.testBit 0 else if i = 2 * n + 1 then v.testBit 1 else lb x i := by
  intro i hi
  unfold mw
  rw [show (2 : Int32) * nI n = nI (2 * n) from by rw [show (2 : Int32) = nI 2 from rfl, nI_mul], lb_or, lb_and, lb_not hi, lb_shl (by omega) hi, lb_shl (by omega) hi, nI_l (by omega)]
  by_cases h : 2 * n ≤ i
  · rw [decide_eq_true h, Bool.true_and, Bool.true_and, lb_n (by omega) (by omega), show (3 : Int64) = lN 3 from rfl, lb_n (by decide) (by omega)]
    rcases (show i - 2 * n = 0 ∨ i - 2 * n = 1 ∨ 2 ≤ i - 2 * n by omega) with e | e | e
    · rw [e, if_pos (by omega), show (3 : Nat).testBit 0 = true from rfl]
      cases lb x i <;> rfl
    · rw [e, if_neg (by omega), if_pos (by omega), show (3 : Nat).testBit 1 = true from rfl]
      cases lb x i <;> rfl
    · rw [fb_small 3 (by decide) _ (by omega) e, fb_small v hv _ (by omega) e, if_neg (by omega), if_neg (by omega)]
      cases lb x i <;> rfl
  · rw [decide_eq_false h, Bool.false_and, Bool.false_and, if_neg (by omega), if_neg (by omega)]
    cases lb x i <;> rfl
/-- the class's factOf -/
theorem cf_eq {x : Int64} {n : Nat} (hn : n < 26) : ((((x >>> ((nI n).toInt64 &&& 63)) &&& 1).toInt32) * 1) + ((((x >>> ((nI n + 26).toInt64 &&& 63)) &&& 1).toInt32) * 2) = nI (bN (lb x n) + 2 * bN (lb x (n + 26))) := by
  have h1 : ∀ y : Int64, (y &&& 1).toInt32 = nI (bN (lb y 0)) := fun y => by
    have : (y &&& 1).toInt32 = y.toInt32 &&& 1 := by
      apply ib_ext
      intro i hi
      rw [toI_b hi, lb_and, Int32.toBitVec_and, BitVec.getLsbD_and, toI_b hi, show (1 : Int64) = lN 1 from rfl, lb_n (by decide) (by omega), show (1 : Int32).toBitVec = BitVec.ofNat 32 1 from rfl, BitVec.getLsbD_ofNat, decide_eq_true hi, Bool.true_and]
    rw [this, and1b, toI_b (by decide)]
  rw [show nI n + 26 = nI (n + 26) from nI_add n 26, h1, h1, lb_shr (by omega), lb_shr (by omega), show (1 : Int32) = nI 1 from rfl, show (2 : Int32) = nI 2 from rfl, nI_mul, nI_mul, nI_add]
  rw [Nat.mul_one, Nat.mul_comm]
  rfl
/-- the class's with, of a state and a fact that are something -/
def cw (x : Int64) (n v : Nat) : Int64 := (((x &&& (((1 : Int64) <<< ((nI n).toInt64 &&& 63)) ^^^ (-1))) &&& (((1 : Int64) <<< ((nI n + 26).toInt64 &&& 63)) ^^^ (-1))) ||| (if v.testBit 0 then (1 : Int64) <<< ((nI n).toInt64 &&& 63) else 0)) ||| (if v.testBit 1 then (1 : Int64) <<< ((nI n + 26).toInt64 &&& 63) else 0)
theorem one_b {k i : Nat} (hk : k < 64) (hi : i < 64) : lb ((1 : Int64) <<< ((nI k).toInt64 &&& 63)) i = decide (i = k) := by
  rw [lb_shl hk hi, show (1 : Int64) = lN 1 from rfl, lb_n (by decide) (by omega)]
  rcases (show i < k ∨ i = k ∨ k < i by omega) with e | e | e
  · rw [decide_eq_false (by omega), decide_eq_false (by omega)]; rfl
  · subst e
    rw [decide_eq_true (Nat.le_refl i), decide_eq_true rfl, Nat.sub_self]; rfl
  · rw [decide_eq_true (by omega), decide_eq_false (by omega), Bool.true_and]
    exact Nat.testBit_lt_two_pow (Nat.one_lt_two_pow (by omega))
theorem cw_b {x : Int64} {n v : Nat} (hn : n < 26) : ∀ i, i < 64 → lb (cw x n v) i = if i = n then v.testBit 0 else if i = n + 26 then v.testBit 1 else lb x i := by
  intro i hi
  have e0 : lb (if v.testBit 0 = true then (1 : Int64) <<< ((nI n).toInt64 &&& 63) else 0) i = (v.testBit 0 && decide (i = n)) := by
    cases v.testBit 0
    · rw [if_neg (by decide), lb_0]; rfl
    · rw [if_pos rfl, one_b (by omega) hi]; rfl
  have e1 : lb (if v.testBit 1 = true then (1 : Int64) <<< ((nI n + 26).toInt64 &&& 63) else 0) i = (v.testBit 1 && decide (i = n + 26)) := by
    cases v.testBit 1
    · rw [if_neg (by decide), lb_0]; rfl
    · rw [if_pos rfl, show nI n + 26 = nI (n + 26) from nI_add n 26, one_b (by omega) hi]; rfl
  unfold cw
  rw [lb_or, lb_or, lb_and, lb_and, lb_not hi, lb_not hi, e0, e1, one_b (by omega) hi, show nI n + 26 = nI (n + 26) from nI_add n 26, one_b (by omega) hi]
  by_cases h1 : i = n
  · rw [if_pos h1, decide_eq_true h1, decide_eq_false (by omega)]
    cases lb x i <;> cases v.testBit 0 <;> cases v.testBit 1 <;> rfl
  · rw [if_neg h1, decide_eq_false h1]
    by_cases h2 : i = n + 26
    · rw [if_pos h2, decide_eq_true h2]
      cases lb x i <;> cases v.testBit 0 <;> cases v.testBit 1 <;> rfl
    · rw [if_neg h2, decide_eq_false h2]
      cases lb x i <;> cases v.testBit 0 <;> cases v.testBit 1 <;> rfl
theorem v_and1 : ∀ v, v < 4 → (nI v &&& 1 = 0 ↔ v.testBit 0 = false) := by decide +kernel
theorem v_and2 : ∀ v, v < 4 → (nI v &&& 2 = 0 ↔ v.testBit 1 = false) := by decide +kernel
theorem v_or : ∀ a, a < 4 → ∀ b, b < 4 → (nI a ||| nI b = nI (a ||| b) ∧ a ||| b < 4 ∧ (a ||| b).testBit 0 = (a.testBit 0 || b.testBit 0) ∧ (a ||| b).testBit 1 = (a.testBit 1 || b.testBit 1) ∧ (nI a ||| nI b = nI a ↔ ((b.testBit 0 = true → a.testBit 0 = true) ∧ (b.testBit 1 = true → a.testBit 1 = true)))) := by decide +kernel
theorem v_and : ∀ a, a < 4 → ∀ b, b < 4 → (nI a &&& nI b = nI (a &&& b) ∧ a &&& b < 4 ∧ (a &&& b).testBit 0 = (a.testBit 0 && b.testBit 0) ∧ (a &&& b).testBit 1 = (a.testBit 1 && b.testBit 1)) := by decide +kernel
theorem v_0 : ∀ v, v < 4 → (v = 0 ↔ (v.testBit 0 = false ∧ v.testBit 1 = false)) := by decide
theorem lgc {x y : Int64} : lg_cmp x y = 0 ↔ x = y := by
  unfold lg_cmp
  by_cases h : x > y
  · rw [if_pos h]
    exact ⟨fun e => absurd e (by decide), fun e => absurd h (by rw [e]; exact Int64.lt_irrefl)⟩
  · rw [if_neg h]
    by_cases e : x = y
    · rw [if_pos e]
      exact ⟨fun _ => e, fun _ => rfl⟩
    · rw [if_neg e]
      exact ⟨fun z => absurd z (by decide), fun z => absurd z e⟩
theorem c_with {N : Nat} {σ : St} {x : Int64} {n v : Nat} (hn : n < 26) (hv : v < 4) : x1_with N σ x (nI n) (nI v) = some (if x = 0 ∨ v = 0 then 0 else cw x n v, σ) := by
  unfold x1_with x1_with_47
  by_cases h0 : x = 0
  · rw [if_pos (lgc.mpr h0), if_pos (Or.inl h0)]
  · rw [if_neg (fun e => h0 (lgc.mp e))]
    by_cases h1 : v = 0
    · rw [h1, if_pos (show nI 0 = 0 from rfl), if_pos (Or.inr rfl)]
    · rw [if_neg (show ¬ nI v = 0 from fun e => h1 ((nI_eq (b := 0) (by omega) (by decide)).mp e)), if_neg (show ¬ (x = 0 ∨ v = 0) from fun e => e.elim h0 h1)]
      unfold cw
      by_cases b0 : nI v &&& 1 = 0
      · rw [if_pos b0, (v_and1 v hv).mp b0]
        by_cases b1 : nI v &&& 2 = 0
        · rw [if_pos b1, (v_and2 v hv).mp b1]; rfl
        · rw [if_neg b1, show v.testBit 1 = true from by cases e : v.testBit 1; exact absurd ((v_and2 v hv).mpr e) b1; rfl]; rfl
      · rw [if_neg b0, show v.testBit 0 = true from by cases e : v.testBit 0; exact absurd ((v_and1 v hv).mpr e) b0; rfl]
        by_cases b1 : nI v &&& 2 = 0
        · rw [if_pos b1, (v_and2 v hv).mp b1]; rfl
        · rw [if_neg b1, show v.testBit 1 = true from by cases e : v.testBit 1; exact absurd ((v_and2 v hv).mpr e) b1; rfl]; rfl
