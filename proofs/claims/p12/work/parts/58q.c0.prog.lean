/-! the program, row by row: acts and numbers -/
def rK (φ : Nat → Nat) : Nat → Nat → Nat
  | 0, _ => 0
  | s + 1, k => if φ s ≤ k then s else rK φ s k
theorem rK_ok {φ : Nat → Nat} (h0 : φ 0 = 0) : ∀ s k, k < φ s → rK φ s k < s ∧ φ (rK φ s k) ≤ k ∧ k < φ (rK φ s k + 1)
  | 0, k, hk => by
    rw [h0] at hk
    exact absurd hk (Nat.not_lt_zero k)
  | s + 1, k, hk => by
    show (if φ s ≤ k then s else rK φ s k) < s + 1 ∧ φ (if φ s ≤ k then s else rK φ s k) ≤ k ∧ k < φ ((if φ s ≤ k then s else rK φ s k) + 1)
    by_cases c : φ s ≤ k
    · rw [if_pos c]
      exact ⟨Nat.lt_succ_self s, c, hk⟩
    · rw [if_neg c]
      obtain ⟨x1, x2, x3⟩ := rK_ok h0 s k (by omega)
      exact ⟨by omega, x2, x3⟩
theorem po_up {σc0 σm0 : St} {G s : Nat} {φ : Nat → Nat} (h : PO σc0 σm0 G s φ) {p q : Nat} (hpq : p ≤ q) (hq : q ≤ s) : φ p ≤ φ q ∧ (p < q → φ p < φ q) := ⟨(bc_up h.1.2.2.2.2.1 q hq p hpq).1, (bc_up h.1.2.2.2.2.1 q hq p hpq).2.1⟩
theorem po_un {σc0 σm0 : St} {G s : Nat} {φ : Nat → Nat} (h : PO σc0 σm0 G s φ) {p q k : Nat} (hp : p < s) (hq : q < s) (h1 : φ p ≤ k) (h2 : k < φ (p + 1)) (h3 : φ q ≤ k) (h4 : k < φ (q + 1)) : p = q := by
  rcases (show p = q ∨ p < q ∨ q < p by omega) with e | e | e
  · exact e
  · have := (po_up h (show p + 1 ≤ q by omega) (by omega)).1
    omega
  · have := (po_up h (show q + 1 ≤ p by omega) (by omega)).1
    omega
def cNm (σ : St) (k : Nat) : Nat := (gA σ 12 k).toNatClampNeg
def oNm (σ : St) (k : Nat) : Nat := (gA σ 13 k).toNatClampNeg
def tNm (σ : St) (k : Nat) : Nat := (gA σ 14 k).toNatClampNeg
def hNm (σ : St) (k : Nat) : Nat := (gA σ 15 k).toNatClampNeg
def aNm (σ : St) (k i : Nat) : Nat := (gA σ 16 k).toNatClampNeg / 2 ^ (5 * i) % 32
def wNm (σc : St) (G s : Nat) (φ : Nat → Nat) (k : Nat) : Nat := dn σc G (rK φ s k) 11
/-- the act of a value -/
def VX (σm0 : St) (R : RD) (d : Nat → Nat) (k : Nat) : Prop := (d 4 = 0 ∧ gA σm0 12 k = nI 1) ∨ (d 4 = 1 ∧ gA σm0 12 k = nI 2) ∨ (d 4 = 2 ∧ gA σm0 12 k = nI 3 ∧ gA σm0 13 k = nI (d 5) ∧ d 5 < 26 ∧ gA σm0 14 k = nI (d 6) ∧ d 6 < 26) ∨ (d 4 = 3 ∧ gA σm0 12 k = nI 4 ∧ gA σm0 13 k = nI (d 5) ∧ d 5 < 26) ∨ (d 4 = 4 ∧ gA σm0 12 k = nI 5 ∧ gA σm0 13 k = nI (d 5) ∧ d 5 < 26 ∧ gA σm0 14 k = nI (d 6) ∧ d 6 < 2 ∧ gA σm0 15 k = nI (d 7)) ∨ (d 4 = 5 ∧ gA σm0 12 k = nI 6 ∧ gA σm0 13 k = nI (d 6) ∧ R.1 (d 6) ∧ gA σm0 14 k = nI (R.2.2.1 (d 6)) ∧ ∃ b, b < 2 ^ 20 ∧ gA σm0 16 k = nI b ∧ d 8 = R.2.2.1 (d 6) * 2 ^ 20 + b ∧ ∀ i, i < R.2.2.1 (d 6) → b / 2 ^ (5 * i) % 32 = agN d i ∧ agN d i < 26)
def RX (σc0 σm0 : St) (G s : Nat) (φ : Nat → Nat) (p : Nat) (d : Nat → Nat) : Prop :=
  (d 0 = 0 ∧ φ (p + 1) = φ p + 2 ∧ gA σm0 12 (φ p) = nI 1 ∧ gA σm0 12 (φ p + 1) = nI 9) ∨
  (d 0 = 1 ∧ φ (p + 1) = φ p + 1 ∧ gA σm0 12 (φ p) = nI 13 ∧ d 10 < s ∧ (gA σm0 13 (φ p) = nI (φ (d 10)) ∨ (gA σm0 13 (φ p) = nI (φ (d 10) + 1) ∧ dn σc0 G (d 10) 0 = 2))) ∨
  (d 0 = 2 ∧ φ (p + 1) = φ p + 2 ∧ gA σm0 12 (φ p) = nI 0 ∧ p + 1 < s ∧ d 3 < 24 ∧ gA σm0 14 (φ p + 1) = nI (d 3) ∧ d 10 < s ∧ gA σm0 15 (φ p + 1) = nI (φ (d 10)) ∧ ((d 4 = 1 ∧ gA σm0 12 (φ p + 1) = nI 12) ∨ (∃ w, w < 2 ∧ d 4 = 6 + w ∧ gA σm0 12 (φ p + 1) = nI (10 + w) ∧ gA σm0 13 (φ p + 1) = nI (d 1) ∧ d 1 < 26))) ∨
  (d 0 = 3 ∧ φ (p + 1) = φ p + 3 ∧ gA σm0 12 (φ p) = nI 0 ∧ p + 1 < s ∧ VX σm0 (Rd G σc0 σm0) d (φ p + 1) ∧ gA σm0 12 (φ p + 2) = nI 7 ∧ gA σm0 13 (φ p + 2) = nI (d 1) ∧ d 1 < 26) ∨
  (d 0 = 4 ∧ φ (p + 1) = φ p + 3 ∧ gA σm0 12 (φ p) = nI 0 ∧ p + 1 < s ∧ VX σm0 (Rd G σc0 σm0) d (φ p + 1) ∧ gA σm0 12 (φ p + 2) = nI 8 ∧ gA σm0 13 (φ p + 2) = nI (d 1) ∧ d 1 < 26 ∧ gA σm0 14 (φ p + 2) = nI (d 2) ∧ d 2 < 2 ∧ gA σm0 15 (φ p + 2) = nI (d 3)) ∨
  (d 0 = 5 ∧ φ (p + 1) = φ p + 2 ∧ gA σm0 12 (φ p) = nI 0 ∧ p + 1 < s ∧ VX σm0 (Rd G σc0 σm0) d (φ p + 1) ∧ d 4 = 5) ∨
  (d 0 = 6 ∧ φ (p + 1) = φ p + 3 ∧ gA σm0 12 (φ p) = nI 0 ∧ VX σm0 (Rd G σc0 σm0) d (φ p + 1) ∧ gA σm0 12 (φ p + 2) = nI 9)
theorem vx_of {σc0 σm0 : St} {G s p : Nat} {φ : Nat → Nat} (h : PO σc0 σm0 G s φ) (hk : φ p + 1 < φ s) (hv : VR (rwD G p σc0) (acB φ p σm0 1)) : VX σm0 (Rd G σc0 σm0) (dn σc0 G p) (φ p + 1) := by
  have h7 : dn σc0 G p 4 = 4 → gA σm0 15 (φ p + 1) = nI (dn σc0 G p 7) := fun e => by
    rcases hv with ⟨z, -⟩ | ⟨z, -⟩ | ⟨z, -⟩ | ⟨z, -⟩ | ⟨z, -, -, -, e3⟩ | ⟨z, -⟩
    · rw [dn_of (x := 0) z (by decide)] at e; exact absurd e (by decide)
    · rw [dn_of (x := 1) z (by decide)] at e; exact absurd e (by decide)
    · rw [dn_of (x := 2) z (by decide)] at e; exact absurd e (by decide)
    · rw [dn_of (x := 3) z (by decide)] at e; exact absurd e (by decide)
    · rw [nI_dn]; exact e3
    · rw [dn_of (x := 5) z (by decide)] at e; exact absurd e (by decide)
  rcases vf6 h hk hv with ⟨k, a⟩ | ⟨k, a⟩ | ⟨k, a, b, c, e, f⟩ | ⟨k, a, b, c⟩ | ⟨k, a, b, c, e, f⟩ | ⟨k, a, b, c, e, bb, b1, b2, b3, b4⟩
  · exact Or.inl ⟨k, a⟩
  · exact Or.inr (Or.inl ⟨k, a⟩)
  · exact Or.inr (Or.inr (Or.inl ⟨k, a, b, c, e, f⟩))
  · exact Or.inr (Or.inr (Or.inr (Or.inl ⟨k, a, b, c⟩)))
  · exact Or.inr (Or.inr (Or.inr (Or.inr (Or.inl ⟨k, a, b, c, e, f, h7 k⟩))))
  · have r3 := (rd_ok h c).2.2.1
    exact Or.inr (Or.inr (Or.inr (Or.inr (Or.inr ⟨k, a, b, c, e, bb, b1, b2, dn_of b3 (by omega), b4⟩))))
theorem rx_of {σc0 σm0 : St} {G s p : Nat} {φ : Nat → Nat} (h : PO σc0 σm0 G s φ) (hp : p < s) : RX σc0 σm0 G s φ p (dn σc0 G p) := by
  obtain ⟨hO, -⟩ := id h
  obtain ⟨len, l1, l2, l3, l4, l5⟩ := ro_up hO hp
  have hs := hO.2.2.1
  have ha := hO.2.2.2.1
  have hBV := hO.2.2.2.2.2.1
  have hG9 := hBV.2.1.resolve_left (by omega)
  have fall : ∀ k, k < φ s → ¬ gA σm0 12 k = 9 → k + 1 < φ s := fun k hk hne => by
    rcases (show k + 1 < φ s ∨ k = φ s - 1 by omega) with e | e
    · exact e
    · rw [e] at hne
      exact absurd hG9.1 hne
  have nx : φ (p + 1) < φ s → p + 1 < s := fun e => ro_lt hO (by omega) e
  have dnn : ∀ q v : Nat, v < 2 ^ 31 → rwD G p σc0 q = nI v → dn σc0 G p q = v := fun q v hv e => dn_of e hv
  rcases l4 with ⟨⟨e0, e1, e2⟩, rfl⟩ | ⟨e0, e1, rfl⟩ | ⟨⟨e0, e1, e2, e3⟩, rfl⟩ | ⟨e, rfl⟩ | ⟨⟨e0, e1, e2, e3⟩, rfl⟩ | ⟨⟨e0, e1, e2, e3⟩, rfl⟩
  · exact Or.inl ⟨dnn 0 0 (by decide) e0, l2, e1, e2⟩
  · refine Or.inr (Or.inl ⟨dnn 0 1 (by decide) e0, l2, e1, ?_⟩)
    rcases l5.1 e0 with ⟨z1, q, z2, z3, z4, z5⟩ | ⟨z1, z2⟩
    · have e10 := dnn 10 q (by omega) z3
      rw [e10]
      exact ⟨by omega, Or.inr ⟨z5, dn_of (x := 2) z4 (by decide)⟩⟩
    · rcases z2 with z2 | ⟨q, y1, y2, y3, y4⟩
      · exact absurd z2 id
      · have e10 := dnn 10 q (by omega) y3
        obtain ⟨n, n1, n2⟩ := (hG9.2 (φ p) (by omega)).2 e1 z1
        have hup := (po_up h y1 (Nat.le_refl _)).1
        have : φ q = n := (nI_eq (by omega) (by omega)).mp (y4.symm.trans n1)
        rw [e10]
        exact ⟨ro_lt hO y1 (by omega), Or.inl y4⟩
  · have hk1 : φ p + 1 < φ s := by omega
    have ht : tst (gA σm0 12 (φ p + 1)) := by
      rcases e2 with ⟨-, z⟩ | ⟨-, z, -⟩ | ⟨-, z, -⟩
      · exact Or.inr (Or.inr z)
      · exact Or.inl z
      · exact Or.inr (Or.inl z)
    have hn9 : ¬ gA σm0 12 (φ p + 1) = 9 := fun e => by
      rw [e] at ht
      rcases ht with z | z | z <;> exact absurd z (by decide)
    have hp1 : p + 1 < s := nx (by rw [l2]; exact fall _ hk1 hn9)
    obtain ⟨a1, a2, a3, a4, a5, a6, -⟩ := hBV.1 (φ p + 1) hk1
    obtain ⟨t1, t2, -⟩ := a6 ht
    obtain ⟨tt, t3, t4⟩ := nI_upto t1 (n := 23) t2 (by decide)
    have ed3 : dn σc0 G p 3 = tt := dnn 3 tt (by omega) (e3.symm.trans t4)
    obtain ⟨q, y1, y2, y3, y4⟩ := (l5.2 e0).elim (fun e => absurd e id) id
    obtain ⟨n, n1, n2⟩ := (hG9.2 (φ p + 1) hk1).1 ht
    have hup := (po_up h y1 (Nat.le_refl _)).1
    have : φ q = n := (nI_eq (by omega) (by omega)).mp (y4.symm.trans n1)
    have e10 := dnn 10 q (by omega) y3
    refine Or.inr (Or.inr (Or.inl ⟨dnn 0 2 (by decide) e0, l2, e1, hp1, by omega, by rw [ed3]; exact t4, by rw [e10]; exact ro_lt hO y1 (by omega), by rw [e10]; exact y4, ?_⟩))
    rcases e2 with ⟨z1, z2⟩ | ⟨z1, z2, z3⟩ | ⟨z1, z2, z3⟩
    · exact Or.inl ⟨dnn 4 1 (by decide) z1, z2⟩
    · obtain ⟨k1, k2, k3⟩ := nI_upto (a2 (Or.inr (Or.inr (Or.inr (Or.inr (Or.inr (Or.inl z2))))))).1 (n := 25) (a2 (Or.inr (Or.inr (Or.inr (Or.inr (Or.inr (Or.inl z2))))))).2 (by decide)
      have f1 : dn σc0 G p 1 = k1 := dnn 1 k1 (by omega) (z3.symm.trans k3)
      exact Or.inr ⟨0, by decide, dnn 4 6 (by decide) z1, z2, by rw [f1]; exact k3, by omega⟩
    · obtain ⟨k1, k2, k3⟩ := nI_upto (a2 (Or.inr (Or.inr (Or.inr (Or.inr (Or.inr (Or.inr z2))))))).1 (n := 25) (a2 (Or.inr (Or.inr (Or.inr (Or.inr (Or.inr (Or.inr z2))))))).2 (by decide)
      have f1 : dn σc0 G p 1 = k1 := dnn 1 k1 (by omega) (z3.symm.trans k3)
      exact Or.inr ⟨1, by decide, dnn 4 7 (by decide) z1, z2, by rw [f1]; exact k3, by omega⟩
  · have hk2 : φ p + 2 < φ s := by omega
    obtain ⟨a1, a2, a3, a4, -⟩ := hBV.1 (φ p + 2) hk2
    rcases e with ⟨e0, e1, e2, e3, e4⟩ | ⟨e0, e1, e2, e3, e4, e5, e6⟩
    · have e3 : gA σm0 12 (φ p + 2) = 7 := e3
      have hp1 : p + 1 < s := nx (by rw [l2]; exact fall _ hk2 (by rw [e3]; decide))
      obtain ⟨k1, k2, k3⟩ := nI_upto (a2 (Or.inr (Or.inr (Or.inr (Or.inl e3))))).1 (n := 25) (a2 (Or.inr (Or.inr (Or.inr (Or.inl e3))))).2 (by decide)
      have f1 : dn σc0 G p 1 = k1 := dnn 1 k1 (by omega) (e4.symm.trans k3)
      exact Or.inr (Or.inr (Or.inr (Or.inl ⟨dnn 0 3 (by decide) e0, l2, e1, hp1, vx_of h (by omega) e2, e3, by rw [f1]; exact k3, by omega⟩)))
    · have e3 : gA σm0 12 (φ p + 2) = 8 := e3
      have hp1 : p + 1 < s := nx (by rw [l2]; exact fall _ hk2 (by rw [e3]; decide))
      obtain ⟨k1, k2, k3⟩ := nI_upto (a2 (Or.inr (Or.inr (Or.inr (Or.inr (Or.inl e3)))))).1 (n := 25) (a2 (Or.inr (Or.inr (Or.inr (Or.inr (Or.inl e3)))))).2 (by decide)
      have f1 : dn σc0 G p 1 = k1 := dnn 1 k1 (by omega) (e4.symm.trans k3)
      have f2 : ∃ x, x < 2 ∧ gA σm0 14 (φ p + 2) = nI x := by
        rcases a4 (Or.inr e3) with q | q
        · exact ⟨0, by decide, q⟩
        · exact ⟨1, by decide, q⟩
      obtain ⟨x, x1, x2⟩ := f2
      have f2 : dn σc0 G p 2 = x := dnn 2 x (by omega) (e5.symm.trans x2)
      exact Or.inr (Or.inr (Or.inr (Or.inr (Or.inl ⟨dnn 0 4 (by decide) e0, l2, e1, hp1, vx_of h (by omega) e2, e3, by rw [f1]; exact k3, by omega, by rw [f2]; exact x2, by omega, by rw [nI_dn]; exact e6⟩))))
  · have hk1 : φ p + 1 < φ s := by omega
    have hvx := vx_of h hk1 e2
    have f4 : dn σc0 G p 4 = 5 := dnn 4 5 (by decide) e3
    have hc6 : gA σm0 12 (φ p + 1) = nI 6 := by
      rcases hvx with ⟨k, -⟩ | ⟨k, -⟩ | ⟨k, -⟩ | ⟨k, -⟩ | ⟨k, -⟩ | ⟨-, k, -⟩ <;> first | exact k | omega
    have hp1 : p + 1 < s := nx (by rw [l2]; exact fall _ hk1 (by rw [hc6]; decide))
    exact Or.inr (Or.inr (Or.inr (Or.inr (Or.inr (Or.inl ⟨dnn 0 5 (by decide) e0, l2, e1, hp1, hvx, f4⟩)))))
  · exact Or.inr (Or.inr (Or.inr (Or.inr (Or.inr (Or.inr ⟨dnn 0 6 (by decide) e0, l2, e1, vx_of h (by omega) e2, e3⟩)))))
theorem vk_of {σm0 : St} {R : RD} {d : Nat → Nat} {k : Nat} (h : VX σm0 R d k) : VK R d := by
  rcases h with ⟨k, -⟩ | ⟨k, -⟩ | ⟨k, -, -, a, -, b⟩ | ⟨k, -, -, a⟩ | ⟨k, -, -, a, -, b, -⟩ | ⟨k, -, -, c, -, bb, b1, -, b3, b4⟩
  · exact Or.inl k
  · exact Or.inr (Or.inl k)
  · exact Or.inr (Or.inr (Or.inl ⟨k, a, b⟩))
  · exact Or.inr (Or.inr (Or.inr (Or.inl ⟨k, a⟩)))
  · exact Or.inr (Or.inr (Or.inr (Or.inr (Or.inl ⟨k, a, b⟩))))
  · exact Or.inr (Or.inr (Or.inr (Or.inr (Or.inr ⟨k, c, bb, b1, b3, b4⟩))))
theorem rf_of {σc0 σm0 : St} {G s p : Nat} {φ : Nat → Nat} (h : PO σc0 σm0 G s φ) (hp : p < s) : RF (Rd G σc0 σm0) (dn σc0 G p) s p := by
  have h11 : (Rd G σc0 σm0).1 (dn σc0 G p 11) := by
    obtain ⟨-, T, hBT, hBW⟩ := id h
    obtain ⟨l, o1, hl8, o3, -⟩ := hBW p hp
    rw [dn_of o1 (by omega)]
    exact ⟨hl8, (hBT.2.2 l hl8).1.mp o3⟩
  rcases rx_of h hp with ⟨e, -⟩ | ⟨e, -, -, e2, -⟩ | ⟨e, -, -, e1, e2, -, e3, -, e4⟩ | ⟨e, -, -, e1, e2, -, -, e3⟩ | ⟨e, -, -, e1, e2, -, -, e3, -, e4, -⟩ | ⟨e, -, -, e1, e2, -⟩ | ⟨e, -, -, e2, -⟩
  · exact Or.inl ⟨e, h11⟩
  · exact Or.inr (Or.inl ⟨e, e2⟩)
  · refine Or.inr (Or.inr (Or.inl ⟨e, ?_, e2, e1, e3⟩))
    rcases e4 with ⟨z, -⟩ | ⟨w, hw, z, -, -, z2⟩
    · exact Or.inl z
    · exact Or.inr ⟨by omega, z2⟩
  · exact Or.inr (Or.inr (Or.inr (Or.inl ⟨e, e3, e1, vk_of e2⟩)))
  · exact Or.inr (Or.inr (Or.inr (Or.inr (Or.inl ⟨e, e3, e4, e1, vk_of e2⟩))))
  · exact Or.inr (Or.inr (Or.inr (Or.inr (Or.inr (Or.inl ⟨e, e1, vk_of e2⟩)))))
  · exact Or.inr (Or.inr (Or.inr (Or.inr (Or.inr (Or.inr ⟨e, h11, vk_of e2⟩)))))
theorem clo_of {σ : St} {j k x : Nat} (h : gA σ j k = nI x) (hx : x < 2 ^ 31) : (gA σ j k).toNatClampNeg = x := by rw [h, nI_clamp hx]
theorem ab_val {σc0 σm0 : St} {G s p : Nat} {φ : Nat → Nat} (h : PO σc0 σm0 G s φ) {d : Nat → Nat} {k ow : Nat} (hk : k + 1 < φ s) (hv : VX σm0 (Rd G σc0 σm0) d k) : gA σm0 12 k = nI (cNm σm0 k) ∧ AB σm0 (Rd G σc0 σm0) (φ s) k (oNm σm0 k) (tNm σm0 k) (hNm σm0 k) ow (aNm σm0 k) (cNm σm0 k) := by
  rcases hv with ⟨-, a⟩ | ⟨-, a⟩ | ⟨-, a, b, b2, c, c2⟩ | ⟨-, a, b, b2⟩ | ⟨-, a, b, b2, c, c2, -⟩ | ⟨-, a, b, b2, c, bb, b3, b4, -, b5⟩
  · rw [show cNm σm0 k = 1 from clo_of a (by decide)]
    exact ⟨a, hk⟩
  · rw [show cNm σm0 k = 2 from clo_of a (by decide)]
    exact ⟨a, hk⟩
  · rw [show cNm σm0 k = 3 from clo_of a (by decide), show oNm σm0 k = d 5 from clo_of b (by omega), show tNm σm0 k = d 6 from clo_of c (by omega)]
    exact ⟨a, hk, b, b2, c, c2⟩
  · rw [show cNm σm0 k = 4 from clo_of a (by decide), show oNm σm0 k = d 5 from clo_of b (by omega)]
    exact ⟨a, hk, b, b2⟩
  · rw [show cNm σm0 k = 5 from clo_of a (by decide), show oNm σm0 k = d 5 from clo_of b (by omega), show tNm σm0 k = d 6 from clo_of c (by omega)]
    exact ⟨a, hk, b, b2, c, c2⟩
  · have r1 := (rd_ok h b2).1
    rw [show cNm σm0 k = 6 from clo_of a (by decide), show oNm σm0 k = d 6 from clo_of b (by omega)]
    refine ⟨a, hk, b, b2, c, bb, b3, b4, fun i hi => ?_⟩
    have e : aNm σm0 k i = bb / 2 ^ (5 * i) % 32 := by
      unfold aNm
      rw [clo_of b4 (by omega)]
    rw [e]
    exact ⟨rfl, by rw [(b5 i hi).1]; exact (b5 i hi).2⟩
theorem pa_of {σc0 σm0 : St} {G s : Nat} {φ : Nat → Nat} (h : PO σc0 σm0 G s φ) : PA σm0 (Rd G σc0 σm0) (φ s) (cNm σm0) (oNm σm0) (tNm σm0) (hNm σm0) (wNm σc0 G s φ) (aNm σm0) := by
  intro k hk
  have ha := h.1.2.2.2.1
  obtain ⟨x1, x2, x3⟩ := rK_ok h.1.2.2.2.2.1.1 s k hk
  have hw : wNm σc0 G s φ k = dn σc0 G (rK φ s k) 11 := rfl
  generalize rK φ s k = p at *
  have hps := (po_up h (show p + 1 ≤ s by omega) (Nat.le_refl _)).1
  have hret : gA σm0 12 k = nI 9 → gA σm0 12 k = nI (cNm σm0 k) ∧ AB σm0 (Rd G σc0 σm0) (φ s) k (oNm σm0 k) (tNm σm0 k) (hNm σm0 k) (wNm σc0 G s φ k) (aNm σm0 k) (cNm σm0 k) := fun e => by
    rw [show cNm σm0 k = 9 from clo_of e (by decide), hw]
    have h11 := (n_rat (N := 0) (σ := σm0) h ⟨fun _ _ => rfl, fun _ _ _ => rfl⟩ x1 x2 x3).2.1
    exact ⟨e, (rd_ok h h11).1, fun N σ hq => (n_rat h hq x1 x2 x3).2.2⟩
  have hstep : gA σm0 12 k = nI 0 → k + 1 < φ s → gA σm0 12 k = nI (cNm σm0 k) ∧ AB σm0 (Rd G σc0 σm0) (φ s) k (oNm σm0 k) (tNm σm0 k) (hNm σm0 k) (wNm σc0 G s φ k) (aNm σm0 k) (cNm σm0 k) := fun e e2 => by
    rw [show cNm σm0 k = 0 from clo_of e (by decide)]
    exact ⟨e, e2⟩
  rcases rx_of h x1 with ⟨e, l, a0, a1⟩ | ⟨e, l, a0, b, a1⟩ | ⟨e, l, a0, b, b3, b4, b5, b6, b7⟩ | ⟨e, l, a0, b, bv, a2, a3, a4⟩ | ⟨e, l, a0, b, bv, a2, a3, a4, a5, a6, a7⟩ | ⟨e, l, a0, b, bv, b4⟩ | ⟨e, l, a0, bv, a2⟩
  · rcases (show k = φ p ∨ k = φ p + 1 by omega) with ek | ek
    · rw [← ek] at a0
      rw [show cNm σm0 k = 1 from clo_of a0 (by decide)]
      exact ⟨a0, show k + 1 < φ s by omega⟩
    · rw [← ek] at a1
      exact hret a1
  · have ek : k = φ p := by omega
    rw [← ek] at a0 a1
    rw [show cNm σm0 k = 13 from clo_of a0 (by decide)]
    have hq := (po_up h (show dn σc0 G p 10 + 1 ≤ s by omega) (Nat.le_refl _)).1
    have hq2 := (po_up h (show dn σc0 G p 10 ≤ dn σc0 G p 10 + 1 by omega) (by omega)).2 (by omega)
    rcases a1 with a1 | ⟨a1, a2⟩
    · rw [show oNm σm0 k = φ (dn σc0 G p 10) from clo_of a1 (by omega)]
      exact ⟨a0, a1, by omega⟩
    · have l2 : φ (dn σc0 G p 10 + 1) = φ (dn σc0 G p 10) + 2 := by
        rcases rx_of h b with ⟨z, -⟩ | ⟨z, -⟩ | ⟨-, z, -⟩ | ⟨z, -⟩ | ⟨z, -⟩ | ⟨z, -⟩ | ⟨z, -⟩ <;> first | exact z | omega
      rw [show oNm σm0 k = φ (dn σc0 G p 10) + 1 from clo_of a1 (by omega)]
      exact ⟨a0, a1, by omega⟩
  · have hn := (po_up h (show p + 1 ≤ s by omega) (Nat.le_refl _)).2 b
    rcases (show k = φ p ∨ k = φ p + 1 by omega) with ek | ek
    · rw [← ek] at a0
      exact hstep a0 (by omega)
    · have hq := (po_up h (show dn σc0 G p 10 ≤ s by omega) (Nat.le_refl _)).2 b5
      rw [← ek] at b4 b6 b7
      have et : tNm σm0 k = dn σc0 G p 3 := clo_of b4 (by omega)
      have eh : hNm σm0 k = φ (dn σc0 G p 10) := clo_of b6 (by omega)
      rcases b7 with ⟨z1, z2⟩ | ⟨w, w1, w2, w3, w4, w5⟩
      · rw [show cNm σm0 k = 12 from clo_of z2 (by decide), et, eh]
        exact ⟨z2, show k + 1 < φ s by omega, b4, by omega, b6, hq⟩
      · rw [show oNm σm0 k = dn σc0 G p 1 from clo_of w4 (by omega), et, eh]
        rcases (show w = 0 ∨ w = 1 by omega) with ew | ew <;> subst ew
        · rw [show cNm σm0 k = 10 from clo_of w3 (by decide)]
          exact ⟨w3, show k + 1 < φ s by omega, w4, w5, b4, by omega, b6, hq⟩
        · rw [show cNm σm0 k = 11 from clo_of w3 (by decide)]
          exact ⟨w3, show k + 1 < φ s by omega, w4, w5, b4, by omega, b6, hq⟩
  · have hn := (po_up h (show p + 1 ≤ s by omega) (Nat.le_refl _)).2 b
    rcases (show k = φ p ∨ k = φ p + 1 ∨ k = φ p + 2 by omega) with ek | ek | ek
    · rw [← ek] at a0
      exact hstep a0 (by omega)
    · rw [← ek] at bv
      exact ab_val (p := p) h (by omega) bv
    · rw [← ek] at a2 a3
      rw [show cNm σm0 k = 7 from clo_of a2 (by decide), show oNm σm0 k = dn σc0 G p 1 from clo_of a3 (by omega)]
      exact ⟨a2, show k + 1 < φ s by omega, a3, a4⟩
  · have hn := (po_up h (show p + 1 ≤ s by omega) (Nat.le_refl _)).2 b
    rcases (show k = φ p ∨ k = φ p + 1 ∨ k = φ p + 2 by omega) with ek | ek | ek
    · rw [← ek] at a0
      exact hstep a0 (by omega)
    · rw [← ek] at bv
      exact ab_val (p := p) h (by omega) bv
    · rw [← ek] at a2 a3 a5
      rw [show cNm σm0 k = 8 from clo_of a2 (by decide), show oNm σm0 k = dn σc0 G p 1 from clo_of a3 (by omega), show tNm σm0 k = dn σc0 G p 2 from clo_of a5 (by omega)]
      exact ⟨a2, show k + 1 < φ s by omega, a3, a4, a5, a6⟩
  · have hn := (po_up h (show p + 1 ≤ s by omega) (Nat.le_refl _)).2 b
    rcases (show k = φ p ∨ k = φ p + 1 by omega) with ek | ek
    · rw [← ek] at a0
      exact hstep a0 (by omega)
    · rw [← ek] at bv
      exact ab_val (p := p) h (by omega) bv
  · rcases (show k = φ p ∨ k = φ p + 1 ∨ k = φ p + 2 by omega) with ek | ek | ek
    · rw [← ek] at a0
      exact hstep a0 (by omega)
    · rw [← ek] at bv
      exact ab_val (p := p) h (by omega) bv
    · rw [← ek] at a2
      exact hret a2
