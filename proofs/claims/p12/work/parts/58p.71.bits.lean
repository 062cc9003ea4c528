/-! numbers in one: bits of small numbers -/
theorem tb_n (a : Nat) : (nI a).toBitVec = BitVec.ofNat 32 a := rfl
theorem tn_n {a : Nat} (h : a < 2 ^ 32) : (nI a).toBitVec.toNat = a := by rw [tb_n, BitVec.toNat_ofNat, Nat.mod_eq_of_lt h]
theorem or_n {a b : Nat} (ha : a < 2 ^ 32) (hb : b < 2 ^ 32) : nI a ||| nI b = nI (a ||| b) := by
  apply Int32.toBitVec_inj.mp
  apply BitVec.eq_of_toNat_eq
  rw [Int32.toBitVec_or, BitVec.toNat_or, tn_n ha, tn_n hb, tn_n (Nat.or_lt_two_pow ha hb)]
theorem and_n {a b : Nat} (ha : a < 2 ^ 32) (hb : b < 2 ^ 32) : nI a &&& nI b = nI (a &&& b) := by
  apply Int32.toBitVec_inj.mp
  apply BitVec.eq_of_toNat_eq
  rw [Int32.toBitVec_and, BitVec.toNat_and, tn_n ha, tn_n hb, tn_n (Nat.lt_of_le_of_lt Nat.and_le_left ha)]
theorem sm_n : ∀ k, k < 32 → ((nI k &&& 31).toBitVec.smod 32).toNat = k := by decide +kernel
theorem shl_n {a k : Nat} (hk : k < 32) (h : a * 2 ^ k < 2 ^ 32) : nI a <<< (nI k &&& 31) = nI (a * 2 ^ k) := by
  apply Int32.toBitVec_inj.mp
  apply BitVec.eq_of_toNat_eq
  have ha : a < 2 ^ 32 := Nat.lt_of_le_of_lt (Nat.le_mul_of_pos_right a (Nat.two_pow_pos k)) h
  rw [Int32.toBitVec_shiftLeft, BitVec.shiftLeft_eq', BitVec.toNat_shiftLeft, sm_n k hk, tn_n ha, tn_n h, Nat.shiftLeft_eq, Nat.mod_eq_of_lt h]
theorem shr_n {a k : Nat} (hk : k < 32) (h : a < 2 ^ 31) : nI a >>> (nI k &&& 31) = nI (a / 2 ^ k) := by
  apply Int32.toBitVec_inj.mp
  apply BitVec.eq_of_toNat_eq
  have hm : (nI a).toBitVec.msb = false := by
    rw [BitVec.msb_eq_false_iff_two_mul_lt, tn_n (by omega)]
    omega
  have hd : a / 2 ^ k < 2 ^ 32 := by
    have := Nat.div_le_self a (2 ^ k)
    omega
  rw [Int32.toBitVec_shiftRight, BitVec.sshiftRight_eq', BitVec.sshiftRight_eq_of_msb_false hm, BitVec.toNat_ushiftRight, sm_n k hk, tn_n (by omega), tn_n hd, Nat.shiftRight_eq_div_pow]
theorem a31_n {a : Nat} (h : a < 2 ^ 32) : nI a &&& 31 = nI (a % 32) := by
  show nI a &&& nI 31 = _
  rw [and_n h (by decide)]
  congr 1
  exact Nat.and_two_pow_sub_one_eq_mod a 5
def pkd (p : Nat) (K L : Int32) : Int32 := ((nI p) <<< ((10 : Int32) &&& 31) ||| K <<< ((5 : Int32) &&& 31)) ||| L
theorem pk_n {p k l : Nat} (hp : p < 1200) (hk : k < 32) (hl : l < 32) : pkd p (nI k) (nI l) = nI (p * 1024 + k * 32 + l) := by
  unfold pkd
  have e1 : nI p <<< ((10 : Int32) &&& 31) = nI (p * 2 ^ 10) := shl_n (k := 10) (by decide) (by omega)
  have e2 : nI k <<< ((5 : Int32) &&& 31) = nI (k * 2 ^ 5) := shl_n (k := 5) (by decide) (by omega)
  rw [e1, e2, or_n (by omega) (by omega)]
  have e3 : p * 2 ^ 10 ||| k * 2 ^ 5 = p * 1024 + k * 32 := by
    rw [← Nat.shiftLeft_eq p 10, ← Nat.shiftLeft_add_eq_or_of_lt (by omega : k * 2 ^ 5 < 2 ^ 10), Nat.shiftLeft_eq]
  rw [e3, or_n (by omega) (by omega)]
  have e4 : p * 1024 + k * 32 = (p * 32 + k) <<< 5 := by rw [Nat.shiftLeft_eq]; omega
  rw [e4, ← Nat.shiftLeft_add_eq_or_of_lt (by omega : l < 2 ^ 5), ← e4]
theorem pk_k {p k l : Nat} (hp : p < 1200) (hk : k < 32) (hl : l < 32) : (pkd p (nI k) (nI l) >>> ((5 : Int32) &&& 31)) &&& 31 = nI k := by
  rw [pk_n hp hk hl, show nI (p * 1024 + k * 32 + l) >>> ((5 : Int32) &&& 31) = nI ((p * 1024 + k * 32 + l) / 2 ^ 5) from shr_n (k := 5) (by decide) (by omega), a31_n (by omega)]
  congr 1
  omega
theorem pk_p {p k l : Nat} (hp : p < 1200) (hk : k < 32) (hl : l < 32) : pkd p (nI k) (nI l) >>> ((10 : Int32) &&& 31) = nI p := by
  rw [pk_n hp hk hl, show nI (p * 1024 + k * 32 + l) >>> ((10 : Int32) &&& 31) = nI ((p * 1024 + k * 32 + l) / 2 ^ 10) from shr_n (k := 10) (by decide) (by omega)]
  congr 1
  omega
theorem pk_l {p k l : Nat} (hp : p < 1200) (hk : k < 32) (hl : l < 32) : pkd p (nI k) (nI l) &&& 31 = nI l := by
  rw [pk_n hp hk hl, a31_n (by omega)]
  congr 1
  omega
/-- a byte of the class against one of the reference -/
theorem nar_k : ∀ k, k < 256 → (k < 128 → vp_nar .byte (nI k) = nI k) ∧ (128 ≤ k → (vp_nar .byte (nI k)).toInt < 0) := by decide +kernel
