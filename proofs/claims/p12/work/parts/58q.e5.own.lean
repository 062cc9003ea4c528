/-! a taken text: goals lie in the routine of their act; a row's routine stays along a way -/
def bdB (σ : St) (t : Nat) : Prop := ∃ r, r < 8 ∧ gA σ 19 r = nI t ∧ t ≤ 1300
def gvB (σ : St) (k : Nat) : Int32 := if gA σ 12 k = 13 then gA σ 13 k else gA σ 15 k
def OB (σ : St) : Prop := ∃ a : Nat, gI σ 18 = nI a ∧ a ≤ 1300 ∧ (∀ t, bdB σ t → t < a ∧ (t = 0 ∨ gA σ 12 (t - 1) = 9)) ∧ ∀ k, k < a → gl (gA σ 12 k) → ∃ n, gvB σ k = nI n ∧ n < a ∧ ∀ t, bdB σ t → ¬ (k < t ∧ t ≤ n) ∧ ¬ (n < t ∧ t ≤ k)
theorem ob_f {σ σ' : St} (h18 : gI σ' 18 = gI σ 18) (h12 : ∀ i, i < 1300 → gA σ' 12 i = gA σ 12 i) (h13 : ∀ i, i < 1300 → gA σ' 13 i = gA σ 13 i) (h15 : ∀ i, i < 1300 → gA σ' 15 i = gA σ 15 i) (h19 : ∀ i, i < 8 → gA σ' 19 i = gA σ 19 i) (h : OB σ) : OB σ' := by
  obtain ⟨a, f1, f2, f3, f4⟩ := h
  have hb : ∀ t, bdB σ' t → bdB σ t := fun t ⟨r, r1, r2, r3⟩ => ⟨r, r1, by rw [← h19 r r1]; exact r2, r3⟩
  refine ⟨a, h18.trans f1, f2, fun t ht => ?_, fun k hk hg => ?_⟩
  · obtain ⟨t1, t2⟩ := f3 t (hb t ht)
    refine ⟨t1, t2.elim Or.inl (fun e => Or.inr ?_)⟩
    rw [h12 (t - 1) (by omega)]
    exact e
  · rw [h12 k (by omega)] at hg
    obtain ⟨n, n1, n2, n3⟩ := f4 k hk hg
    refine ⟨n, ?_, n2, fun t ht => n3 t (hb t ht)⟩
    unfold gvB at *
    rw [h12 k (by omega), h13 k (by omega), h15 k (by omega)]
    exact n1
theorem ob_km {σ σ' : St} (h18 : gI σ' 18 = gI σ 18) (hA : ∀ j, j < 40 → gA σ' j = gA σ j) (h : OB σ) : OB σ' := ob_f h18 (fun i _ => by rw [hA 12 (by decide)]) (fun i _ => by rw [hA 13 (by decide)]) (fun i _ => by rw [hA 15 (by decide)]) (fun i _ => by rw [hA 19 (by decide)]) h
theorem ob_text {N : Nat} {σm : St} {a1 : Int32} {q : Nat} (hN : 8589934592 ≤ N) (m2 : gI σm 2 = nI q) (hq : q ≤ 1200) (h : OB σm) : Par (m_text N σm a1) (fun _ σ' => OB σ') := by
  have hz : OB (sI σm 0 0) := ob_km (gI_ne (by decide)) (fun _ _ => rfl) h
  unfold m_text
  rw [m2]
  refine par_if (fun _ => par_some hz) (fun cn => par_if (fun cq => ?_) (fun _ => par_some hz))
  obtain ⟨n, hn31, rfl⟩ := nI_of cn
  have hn : n ≤ q := (nI_leI hn31 (by omega)).mp cq
  have hbs := (s_parses (N := N) (σ := sI (sI (sI σm 0 0) 3 (nI n)) 2 0) hN (by rw [gI_ne (by decide), gI_eq, nI_t hn31]; omega) (by rw [gI_ne (by decide), gI_eq, nI_t hn31]; omega)).par
  refine par_bd (hbs.and ko_parses) (fun _ σ5 y => ?_)
  obtain ⟨⟨⟨b1, b2, -⟩, b3⟩, yk⟩ := y
  refine par_if (fun h8 => ?_) (fun _ => par_some ?_)
  · obtain ⟨a', c', u', w', o1, -, -, o4, -⟩ := b3 h8
    obtain ⟨⟨a, b, st, f1, f2, f3, f4, f5, f6, f7, f8, f9, f10⟩, h38⟩ := yk h8
    have ea : a = a' := (nI_eq (by omega) (by omega)).mp (f1.symm.trans o4.1)
    subst ea
    have eb : b = 0 := by
      rw [h38] at f3
      exact ((nI_eq (a := 0) (by decide) (by omega)).mp f3).symm
    subst eb
    refine par_bd (s_comes (N := N) (σ := sI (sI σ5 10 (gI σ5 8)) 11 (gI σ5 9)) (a := a) hN o1 ((gI_ne (by decide)).trans ((gI_ne (by decide)).trans f1))).par (fun _ σ7 v => par_bd rm_id (fun r σ8 e => par_some ?_))
    rw [e]
    obtain ⟨v1, v2, v3, v4, v5, -⟩ := v
    have r12 : ∀ k, k < a → gA σ7 12 k = gA σ5 12 (1300 + k) := fun k hk => by rw [v1 12 (by decide) (by decide)]; exact cp_lt hk
    have r13 : ∀ k, k < a → gA σ7 13 k = gA σ5 13 (1300 + k) := fun k hk => by rw [v1 13 (by decide) (by decide)]; exact cp_lt hk
    have r15 : ∀ k, k < a → gA σ7 15 k = gA σ5 15 (1300 + k) := fun k hk => by rw [v1 15 (by decide) (by decide)]; exact cp_lt hk
    have r19 : ∀ r, r < 8 → gA σ7 19 r = gA σ5 19 (8 + r) := fun r hr => by rw [v2 19 (by decide) (by decide)]; exact cp_lt (show r < (off 19).2 from hr)
    have hb : ∀ t, bdB σ7 t → bdy σ5 t := fun t ⟨r, q1, q2, q3⟩ => ⟨r, q1, by rw [← r19 r q1]; exact q2, q3⟩
    refine ⟨a, ?_, f2, fun t ht => ?_, fun k hk hg => ?_⟩
    · rw [v4 18 (by decide)]
      exact gI_eq
    · obtain ⟨t1, t2, -, t4⟩ := f6 t (hb t ht)
      have t2 := t2 rfl
      refine ⟨t2, t4.elim Or.inl (fun e => ?_)⟩
      rcases (show t = 0 ∨ 0 < t by omega) with e0 | e0
      · exact Or.inl e0
      · rw [r12 (t - 1) (by omega)]
        exact Or.inr e
    · rw [r12 k hk] at hg
      rcases f10 k hk hg with q | ⟨i, i1, i2, -⟩ | ⟨n, n1, n2, n3, n4⟩
      · exact absurd q id
      · omega
      · refine ⟨n, ?_, n3 rfl, fun t ht => n4 t (hb t ht)⟩
        unfold gvB
        unfold gv at n1
        rw [r12 k hk, r13 k hk, r15 k hk]
        exact n1
  · have e18 : gI (sI (sI σ5 10 (gI σ5 8)) 11 (gI σ5 9)) 18 = gI σm 18 := by
      rw [gI_ne (by decide), gI_ne (by decide), b2 18 (by omega) (by decide) (by decide) (by decide) (by decide), gI_ne (by decide), gI_ne (by decide), gI_ne (by decide)]
    exact ob_f e18 (fun i hi => b1 12 i hi) (fun i hi => b1 13 i hi) (fun i hi => b1 15 i hi) (fun i hi => b1 19 i hi) h
/-- the routine of a row: the last one that opens at or ahead of it -/
theorem own_ok {σc σm : St} {G s p : Nat} {φ : Nat → Nat} (h : PO σc σm G s φ) (hp : p < s) : (Rd G σc σm).1 (dn σc G p 11) ∧ (Rd G σc σm).2.1 (dn σc G p 11) ≤ p ∧ ∀ r, (Rd G σc σm).1 r → (Rd G σc σm).2.1 r ≤ p → (Rd G σc σm).2.1 r ≤ (Rd G σc σm).2.1 (dn σc G p 11) ∧ ((Rd G σc σm).2.1 r = (Rd G σc σm).2.1 (dn σc G p 11) → r = dn σc G p 11) := by
  have hs := h.1.2.2.1
  obtain ⟨-, T, hBT, hBW⟩ := id h
  obtain ⟨l, o1, hl8, o3, o, o4, o5, o6⟩ := hBW p hp
  have e11 : dn σc G p 11 = l := dn_of o1 (by omega)
  have hRl : (Rd G σc σm).1 l := ⟨hl8, (hBT.2.2 l hl8).1.mp o3⟩
  obtain ⟨r1, r2, r3, r4, r5, r6, -⟩ := rd_ok h hRl
  have eo : (Rd G σc σm).2.1 l = o := (nI_eq (by omega) (by omega)).mp (r6.symm.trans o4)
  rw [e11, eo]
  refine ⟨hRl, o5, fun r hr hle => ?_⟩
  obtain ⟨q1, q2, q3, q4, q5, q6, -⟩ := rd_ok h hr
  exact o6 r q1 ((hBT.2.2 r q1).1.mpr hr.2) _ hle (by omega) q6
theorem own_same {σc σm : St} {G s p q : Nat} {φ : Nat → Nat} (h : PO σc σm G s φ) (hq : q < s) (hpq : p ≤ q) (hno : ∀ r, (Rd G σc σm).1 r → ¬ (p < (Rd G σc σm).2.1 r ∧ (Rd G σc σm).2.1 r ≤ q)) : dn σc G q 11 = dn σc G p 11 := by
  obtain ⟨a1, a2, a3⟩ := own_ok h (show p < s by omega)
  obtain ⟨b1, b2, b3⟩ := own_ok h hq
  have c1 : (Rd G σc σm).2.1 (dn σc G q 11) ≤ p := Classical.byContradiction (fun y => hno _ b1 ⟨by omega, b2⟩)
  obtain ⟨d1, d2⟩ := a3 _ b1 c1
  obtain ⟨e1, e2⟩ := b3 _ a1 (by omega)
  exact d2 (by omega)
theorem own_bd {σc σm : St} {G s r : Nat} {φ : Nat → Nat} (h : PO σc σm G s φ) (hr : (Rd G σc σm).1 r) : bdB σm (φ ((Rd G σc σm).2.1 r)) := by
  obtain ⟨r1, r2, r3, r4, -⟩ := rd_ok h hr
  have := (po_up h (Nat.le_of_lt r2) (Nat.le_refl _)).1
  have := h.1.2.2.2.1
  exact ⟨r, r1, r4, by omega⟩
/-- a way goes on to the next row -/
theorem own_next {σc σm : St} {G s p : Nat} {φ : Nat → Nat} (h : PO σc σm G s φ) (hOB : OB σm) (hp : p + 1 < s) (h9 : ¬ gA σm 12 (φ (p + 1) - 1) = 9) : dn σc G (p + 1) 11 = dn σc G p 11 := by
  obtain ⟨a, f1, f2, f3, f4⟩ := hOB
  refine own_same h hp (by omega) (fun r hr hh => ?_)
  have e : (Rd G σc σm).2.1 r = p + 1 := by omega
  have := own_bd h hr
  rw [e] at this
  rcases (f3 _ this).2 with e0 | e0
  · have := (po_up h (show p ≤ p + 1 by omega) (by omega)).2 (by omega)
    omega
  · exact h9 e0
/-- a way goes to a goal -/
theorem own_goal {σc σm : St} {G s p q k n : Nat} {φ : Nat → Nat} (h : PO σc σm G s φ) (hOB : OB σm) (hp : p < s) (hq : q < s) (k1 : φ p ≤ k) (k2 : k < φ (p + 1)) (n1 : φ q ≤ n) (n2 : n < φ (q + 1)) (hg : gl (gA σm 12 k)) (hv : gvB σm k = nI n) (h18 : gI σm 18 = nI (φ s)) : dn σc G q 11 = dn σc G p 11 := by
  obtain ⟨a, f1, f2, f3, f4⟩ := hOB
  have ha := h.1.2.2.2.1
  have hps := (po_up h (show p + 1 ≤ s by omega) (Nat.le_refl _)).1
  have hqs := (po_up h (show q + 1 ≤ s by omega) (Nat.le_refl _)).1
  have ea : a = φ s := (nI_eq (by omega) (by omega)).mp (f1.symm.trans h18)
  have hk : k < a := by omega
  · obtain ⟨n', m1, m2, m3⟩ := f4 k hk hg
    have en : n' = n := (nI_eq (by omega) (by omega)).mp (m1.symm.trans hv)
    subst en
    rcases (show p ≤ q ∨ q < p by omega) with e | e
    · refine own_same h hq e (fun r hr hh => (m3 _ (own_bd h hr)).1 ⟨?_, ?_⟩)
      · have := (po_up h (show p + 1 ≤ (Rd G σc σm).2.1 r by omega) (by omega)).1
        omega
      · have := (po_up h hh.2 (by omega)).1
        omega
    · refine (own_same h hp (by omega) (fun r hr hh => (m3 _ (own_bd h hr)).2 ⟨?_, ?_⟩)).symm
      · have := (po_up h (show q + 1 ≤ (Rd G σc σm).2.1 r by omega) (by omega)).1
        omega
      · have := (po_up h hh.2 (by omega)).1
        omega
/-- a routine's first row is its own -/
theorem own_open {σc σm : St} {G s l : Nat} {φ : Nat → Nat} (h : PO σc σm G s φ) (hl : (Rd G σc σm).1 l) : dn σc G ((Rd G σc σm).2.1 l) 11 = l := by
  obtain ⟨r1, r2, -⟩ := rd_ok h hl
  obtain ⟨a1, a2, a3⟩ := own_ok h r2
  obtain ⟨d1, d2⟩ := a3 l hl (Nat.le_refl _)
  exact (d2 (by omega)).symm
