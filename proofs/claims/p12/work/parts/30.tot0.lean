
def Tot {ρ : Type} (o : Option (ρ × St)) (Q : ρ → St → Prop) : Prop := ∃ r σ, o = some (r, σ) ∧ Q r σ
section TotS
variable {ρ ρ1 : Type} {Q : ρ → St → Prop} {P : ρ1 → St → Prop} {F F1 F2 : Option (ρ × St)}
theorem tot_some {r : ρ} {σ : St} (h : Q r σ) : Tot (some (r, σ)) Q := ⟨r, σ, rfl, h⟩
theorem tot_gd {b : Bool} (hb : b = true) (h : Tot F Q) : Tot (gd b F) Q := by subst hb; exact h
theorem tot_bd {o : Option (ρ1 × St)} {K : ρ1 → St → Option (ρ × St)} (h : Tot o P) (k : ∀ r σ, P r σ → Tot (K r σ) Q) : Tot (bd o K) Q := by
  obtain ⟨r, σ, rfl, hp⟩ := h
  exact k r σ hp
theorem tot_if {c : Prop} [Decidable c] (h1 : c → Tot F1 Q) (h2 : ¬ c → Tot F2 Q) : Tot (if c then F1 else F2) Q := by
  by_cases h : c
  · rw [if_pos h]; exact h1 h
  · rw [if_neg h]; exact h2 h
theorem Tot.mono {Q2 : ρ → St → Prop} (h : Tot F Q) (k : ∀ r σ, Q r σ → Q2 r σ) : Tot F Q2 := by
  obtain ⟨r, σ, e, hp⟩ := h
  exact ⟨r, σ, e, k r σ hp⟩
end TotS
/-- the references that change lead to a Program, to a Code -/
def CP (σ : St) : Prop := isPr (gP σ 3) = true ∧ isPr (gP σ 403) = true ∧ isPr (gP σ 700) = true ∧ isPr (gP σ 906) = true ∧ isPr (gP σ 1504) = true ∧ isCd (gP σ 404) = true ∧ isCd (gP σ 907) = true ∧ isCd (gP σ 1505) = true
theorem cp_3 {σ : St} (h : CP σ) : isPr (gP σ 3) = true := h.1
theorem cp_403 {σ : St} (h : CP σ) : isPr (gP σ 403) = true := h.2.1
theorem cp_700 {σ : St} (h : CP σ) : isPr (gP σ 700) = true := h.2.2.1
theorem cp_906 {σ : St} (h : CP σ) : isPr (gP σ 906) = true := h.2.2.2.1
theorem cp_1504 {σ : St} (h : CP σ) : isPr (gP σ 1504) = true := h.2.2.2.2.1
theorem cp_404 {σ : St} (h : CP σ) : isCd (gP σ 404) = true := h.2.2.2.2.2.1
theorem cp_907 {σ : St} (h : CP σ) : isCd (gP σ 907) = true := h.2.2.2.2.2.2.1
theorem cp_1505 {σ : St} (h : CP σ) : isCd (gP σ 1505) = true := h.2.2.2.2.2.2.2
/-- what a method of the class keeps: the references' kinds, the tape's length, the anys met -/
def Kp (σ σ' : St) : Prop := CP σ' ∧ gI σ' 1 = gI σ 1 ∧ gI σ' 1509 = gI σ 1509
theorem kp_rf {σ : St} (h : CP σ) : Kp σ σ := ⟨h, rfl, rfl⟩
theorem kp_tr {σ σ1 σ2 : St} (h : Kp σ σ1) (h2 : Kp σ1 σ2) : Kp σ σ2 := ⟨h2.1, h2.2.1.trans h.2.1, h2.2.2.trans h.2.2⟩
theorem gI_ne {σ : St} {k j : Nat} {v : Int32} (h : k ≠ j) : gI (sI σ k v) j = gI σ j := by
  unfold gI sI
  simp only [if_neg (fun e : j = k => h e.symm)]
theorem gI_eq {σ : St} {k : Nat} {v : Int32} : gI (sI σ k v) k = v := by
  unfold gI sI
  simp only [if_pos]
theorem kp_I {σ σ1 : St} {k : Nat} {v : Int32} (h : Kp σ σ1) (h1 : k ≠ 1) (h2 : k ≠ 1509) : Kp σ (sI σ1 k v) := ⟨h.1, (gI_ne h1).trans h.2.1, (gI_ne h2).trans h.2.2⟩
theorem kp_L {σ σ1 : St} {k : Nat} {v : Int64} (h : Kp σ σ1) : Kp σ (sL σ1 k v) := h
theorem kp_A {σ σ1 : St} {j i : Nat} {v : Int32} (h : Kp σ σ1) : Kp σ (sA σ1 j i v) := h
theorem kp_Z {σ σ1 : St} {j i : Nat} {v : Int64} (h : Kp σ σ1) : Kp σ (sZ σ1 j i v) := h
def okP (k v : Nat) : Bool := if k == 404 || k == 907 || k == 1505 then isCd v else isPr v
theorem gP_set {σ : St} {k v j : Nat} : gP (sP σ k v) j = if j = k then v else gP σ j := rfl
theorem cp_P {σ : St} {k v : Nat} (h : CP σ) (hk : okP k v = true) : CP (sP σ k v) := by
  obtain ⟨a, b, c, d, e, f, g, i⟩ := h
  refine ⟨?_, ?_, ?_, ?_, ?_, ?_, ?_, ?_⟩ <;> (rw [gP_set]; split <;> first | assumption | (rename_i q; subst q; exact hk))
theorem kp_P {σ σ1 : St} {k v : Nat} (h : Kp σ σ1) (hk : okP k v = true) : Kp σ (sP σ1 k v) := ⟨cp_P h.1 hk, h.2⟩
theorem pr_n {o k a : Nat} (h : isPr o = true) (ha : a < 3000) : 100 * o + k ≠ a := by
  rcases pr_or h with h | h <;> omega
theorem cd_n {o k a : Nat} (h : isCd o = true) (ha : a < 3000) : 100 * o + k ≠ a := by
  rcases cd_or h with h | h <;> omega
theorem tot_k {ρ : Type} {o : Option (ρ × St)} {σ σ1 : St} (h : Kp σ σ1) (t : Tot o (fun _ σ' => Kp σ1 σ')) : Tot o (fun _ σ' => Kp σ σ') := t.mono (fun _ _ q => kp_tr h q)
theorem tot_kb {o : Option (Int32 × St)} {σ σ1 : St} (h : Kp σ σ1) (t : Tot o (fun r σ' => Kp σ1 σ' ∧ isb r = true)) : Tot o (fun r σ' => Kp σ σ' ∧ isb r = true) := t.mono (fun _ _ q => ⟨kp_tr h q.1, q.2⟩)
/-- nothing changes -/
def Id0 (σ σ' : St) : Prop := σ' = σ ∧ CP σ'
theorem id_rf {σ : St} (h : CP σ) : Id0 σ σ := ⟨rfl, h⟩
theorem id_tr {σ σ1 σ2 : St} (h : Id0 σ σ1) (h2 : Id0 σ1 σ2) : Id0 σ σ2 := ⟨h2.1.trans h.1, h2.2⟩
theorem kp_id {σ σ1 σ2 : St} (h : Kp σ σ1) (h2 : Id0 σ1 σ2) : Kp σ σ2 := by
  obtain ⟨rfl, h3⟩ := h2
  exact h
theorem tot_i {ρ : Type} {o : Option (ρ × St)} {σ σ1 : St} (h : Id0 σ σ1) (t : Tot o (fun _ σ' => Id0 σ1 σ')) : Tot o (fun _ σ' => Id0 σ σ') := t.mono (fun _ _ q => id_tr h q)
theorem tot_ib {o : Option (Int32 × St)} {σ σ1 : St} (h : Id0 σ σ1) (t : Tot o (fun r σ' => Id0 σ1 σ' ∧ isb r = true)) : Tot o (fun r σ' => Id0 σ σ' ∧ isb r = true) := t.mono (fun _ _ q => ⟨id_tr h q.1, q.2⟩)
theorem tot_ki {ρ : Type} {o : Option (ρ × St)} {σ σ1 : St} (h : Kp σ σ1) (t : Tot o (fun _ σ' => Id0 σ1 σ')) : Tot o (fun _ σ' => Kp σ σ') := t.mono (fun _ _ q => kp_id h q)
theorem tot_kib {o : Option (Int32 × St)} {σ σ1 : St} (h : Kp σ σ1) (t : Tot o (fun r σ' => Id0 σ1 σ' ∧ isb r = true)) : Tot o (fun r σ' => Kp σ σ' ∧ isb r = true) := t.mono (fun _ _ q => ⟨kp_id h q.1, q.2⟩)
/-- one any is met at most -/
def K1 (σ σ' : St) : Prop := CP σ' ∧ gI σ' 1 = gI σ 1 ∧ (gI σ' 1509 = gI σ 1509 ∨ gI σ' 1509 = gI σ 1509 + 1)
theorem k1_of {σ σ1 : St} (h : Kp σ σ1) : K1 σ σ1 := ⟨h.1, h.2.1, Or.inl h.2.2⟩
theorem k1_r {σ σ1 σ2 : St} (h : Kp σ σ1) (h2 : K1 σ1 σ2) : K1 σ σ2 := ⟨h2.1, h2.2.1.trans h.2.1, by rw [← h.2.2]; exact h2.2.2⟩
theorem k1_l {σ σ1 σ2 : St} (h : K1 σ σ1) (h2 : Kp σ1 σ2) : K1 σ σ2 := ⟨h2.1, h2.2.1.trans h.2.1, by rw [h2.2.2]; exact h.2.2⟩
theorem lenC_lt (j : Nat) : lenC j < 2 ^ 31 := by
  unfold lenC
  split <;> decide
theorem ib_c {i c : Int32} {n : Nat} (h1 : ¬ i < 0) (h2 : ¬ c ≤ i) (hc : c = Int32.ofNat n) (hn : n < 2 ^ 31) : ib i n = true := by
  obtain ⟨j, hj, rfl⟩ := nI_of h1
  unfold ib
  simp only [Bool.and_eq_true, Bool.not_eq_true', decide_eq_false_iff_not, decide_eq_true_eq]
  refine ⟨h1, ?_⟩
  rw [nI_clamp hj]
  rw [hc] at h2
  exact Nat.not_le.mp fun q => h2 (nI_le q hj)
theorem ib_d {i c : Int32} {n : Nat} (h1 : ¬ i < 0) (h2 : i < c) (hc : c = Int32.ofNat n) (hn : n < 2 ^ 31) : ib i n = true := ib_c h1 (Int32.not_le.mpr h2) hc hn
theorem ib_n {i c : Int32} {n : Nat} (h1 : 0 ≤ i.toInt) (h2 : ¬ c ≤ i) (hc : c = Int32.ofNat n) (hn : n < 2 ^ 31) : ib i n = true := ib_c (fun h => by
  rw [Int32.lt_iff_toInt_lt] at h
  have : (0 : Int32).toInt = 0 := by decide
  omega) h2 hc hn
theorem lt_mx {x b : Int32} (h : ¬ b ≤ x) : x.toInt < 2147483647 := by
  rw [Int32.le_iff_toInt_le] at h
  have := Int32.toInt_lt b
  omega
theorem lt_mx2 {x b : Int32} (h : ¬ b < x) (hb : b.toInt < 2147483647) : x.toInt < 2147483647 := by
  rw [Int32.lt_iff_toInt_lt] at h
  omega
theorem i_succ {x : Int32} (h : x.toInt < 2147483647) : (x + 1).toInt = x.toInt + 1 := by
  rw [Int32.toInt_add]
  have h1 := Int32.le_toInt x
  have h2 : (1 : Int32).toInt = 1 := by decide
  rw [h2]
  exact Int.bmod_eq_of_le (by omega) (by omega)
theorem nn_succ {x : Int32} (h : x.toInt < 2147483647) (h0 : 0 ≤ x.toInt) : 0 ≤ (x + 1).toInt := by
  rw [i_succ h]
  omega
theorem m_le (x : Int32) : (2147483648 - x.toInt).toNat ≤ 4294967296 := by
  have := Int32.le_toInt x
  omega
theorem m_succ {x : Int32} {n : Nat} (h : x.toInt < 2147483647) (hm : (2147483648 - x.toInt).toNat < n + 1) : (2147483648 - (x + 1).toInt).toNat < n := by
  rw [i_succ h]
  omega
theorem m_N {x : Int32} {N : Nat} (hN : 8589934592 ≤ N) : (2147483648 - x.toInt).toNat < N := by
  have := m_le x
  omega
