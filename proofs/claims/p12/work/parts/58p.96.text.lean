/-! text(): both sides -/
theorem r2_and {ρ τ : Type} {oc : Option (ρ × St)} {om : Option (τ × St)} {Q : ρ → St → τ → St → Prop} {P1 : ρ → St → Prop} {P2 : τ → St → Prop} (h : R2 oc om Q) (h1 : Par oc P1) (h2 : Par om P2) : R2 oc om (fun rc σc rm σm => Q rc σc rm σm ∧ P1 rc σc ∧ P2 rm σm) := fun rc σc rm σm e1 e2 => ⟨h rc σc rm σm e1 e2, h1 rc σc e1, h2 rm σm e2⟩
/-- what was taken: the class's program G against the reference's base rows -/
def BR (G T : Nat) (σc σm : St) : Prop := T < 256 ∧ gI σc (100 * G + 9) = nI T ∧ gI σc (100 * G + 10) = nI (cnt8 T) ∧ ∀ r, r < 8 → (T / 2 ^ r % 2 = 1 ↔ ¬ gA σm 19 r = -1) ∧ (T / 2 ^ r % 2 = 1 → ∃ m : Nat, m ≤ 4 ∧ gA σc (G + 4) r = nI m ∧ gA σm 20 r = nI m)
theorem br_same {G T : Nat} {σc σm σc' σm' : St} (h : BR G T σc σm) (h1 : gI σc' (100 * G + 9) = gI σc (100 * G + 9)) (h2 : gI σc' (100 * G + 10) = gI σc (100 * G + 10)) (h3 : gA σc' (G + 4) = gA σc (G + 4)) (h4 : ∀ r, r < 8 → gA σm' 19 r = gA σm 19 r ∧ gA σm' 20 r = gA σm 20 r) : BR G T σc' σm' := by
  obtain ⟨a, b, c, d⟩ := h
  refine ⟨a, h1.trans b, h2.trans c, fun r hr => ?_⟩
  rw [(h4 r hr).1, (h4 r hr).2, h3]
  exact d r hr
/-- both sides between two calls, as far as texts go -/
def LT (σc σm : St) : Prop := CT (gA σc 1) (gA σm 1) ∧ TB (gA σm 1) ∧ gI σc 5 = gI σm 10 ∧ gI σc 6 = gI σm 11 ∧ isPr (gP σc 3) = true ∧ isPr (gP σc 700) = true ∧ ¬ gP σc 3 = gP σc 700 ∧ (∃ T, BR (gP σc 700) T σc σm) ∧ gI σc 701 = gI σm 39
theorem lt_z {σc σm : St} (h : LT σc σm) : LT σc (sI σm 0 0) := h
theorem fill_fr {N : Nat} {x0 : Nat} {x1 : Int32} : ∀ (n : Nat) (σ : St) (x2 x3 : Int32), Par (j_fill_5 N n σ x0 x1 x2 x3) (fun _ σ' => (∀ k, gI σ' k = gI σ k) ∧ (∀ j, j ≠ x0 → gA σ' j = gA σ j) ∧ (∀ k, gP σ' k = gP σ k)) := by
  intro n
  induction n with
  | zero => intro σ x2 x3 r σ' e; cases e
  | succ n ih =>
    intro σ x2 x3
    show Par (j_fill_5_b N (j_fill_5 N n) σ x0 x1 x2 x3) _
    unfold j_fill_5_b
    refine par_if (fun _ => par_some ⟨fun _ => rfl, fun _ _ => rfl, fun _ => rfl⟩) (fun _ => par_gd (fun _ => par_gd (fun _ => ?_)))
    exact (ih (sA σ x0 x2.toNatClampNeg x1) (x2 + 1) x3).mono (fun _ σ' z => ⟨z.1, fun j hj => by rw [z.2.1 j hj, gA_sA, if_neg hj], z.2.2⟩)
theorem c_start {N : Nat} {σ : St} {v : Int32} : Par (x7_startAt N σ v) (fun _ σ' => gI σ' 701 = v ∧ (∀ k, k ≠ 701 → gI σ' k = gI σ k) ∧ (∀ j, j ≠ 8 → gA σ' j = gA σ j) ∧ (∀ k, gP σ' k = gP σ k)) := by
  unfold x7_startAt j_fill
  refine par_bd (P := fun _ σ' => (∀ k, gI σ' k = gI (sI σ 701 v) k) ∧ (∀ j, j ≠ 8 → gA σ' j = gA (sI σ 701 v) j) ∧ (∀ k, gP σ' k = gP (sI σ 701 v) k)) (par_gd (fun _ => fill_fr N _ _ _)) (fun _ σ2 z => par_some ⟨(z.1 701).trans gI_eq, fun k hk => (z.1 k).trans (gI_ne (fun y => hk y.symm)), z.2.1, z.2.2⟩)
/-- how many routines there are -/
def cnt (T : Nat) : Nat → Nat
  | 0 => 0
  | k + 1 => cnt T k + T / 2 ^ k % 2
theorem cnt_8 (T : Nat) : cnt T 8 = cnt8 T := by
  unfold cnt8
  simp only [cnt, Nat.reducePow, Nat.pow_zero, Nat.div_one, Nat.zero_add]
theorem n_many {N : Nat} {σ : St} {T : Nat} (h : ∀ r, r < 8 → (T / 2 ^ r % 2 = 1 ↔ ¬ gA σ 19 r = -1)) : ∀ (f k : Nat), k ≤ 8 → Par (m_routinesMany_4 N f σ (nI (cnt T k)) (nI k)) (fun r σ' => σ' = σ ∧ r = nI (cnt8 T)) := by
  intro f
  induction f with
  | zero => intro k _ r σ' e; cases e
  | succ f ih =>
    intro k hk
    show Par (m_routinesMany_4_b N (m_routinesMany_4 N f) σ (nI (cnt T k)) (nI k)) _
    unfold m_routinesMany_4_b m_routinesMany_26
    by_cases c : k = 8
    · subst c
      rw [if_pos (show (8 : Int32) ≤ nI 8 by decide)]
      exact par_some ⟨rfl, by rw [cnt_8]⟩
    · have h2 := h k (by omega)
      rw [if_neg (show ¬ (8 : Int32) ≤ nI k from nI_ge (b := 8) (by omega) (by decide)), nI_clamp (by omega), nI_1]
      refine par_gd (fun _ => par_if (fun z => ?_) (fun z => ?_))
      · have e0 : T / 2 ^ k % 2 = 0 := by
          have : ¬ T / 2 ^ k % 2 = 1 := fun y => h2.mp y z
          omega
        have := ih (k + 1) (by omega)
        rw [show cnt T (k + 1) = cnt T k + 0 from by show cnt T k + T / 2 ^ k % 2 = _; rw [e0], ← nI_add] at this
        exact this
      · have e1 : T / 2 ^ k % 2 = 1 := h2.mpr z
        have := ih (k + 1) (by omega)
        rw [show cnt T (k + 1) = cnt T k + 1 from by show cnt T k + T / 2 ^ k % 2 = _; rw [e1], ← nI_add] at this
        exact this
theorem r_text {N : Nat} {σc σm : St} {a1 : Int32} {q : Nat} (hN : 8589934592 ≤ N) (hL : LT σc σm) (c1' : gI σc 1 = nI q) (m2 : gI σm 2 = nI q) (hq : q ≤ 1200) : R2 (x10_text N σc a1) (m_text N σm a1) (fun rc σc' rm σm' => rc = rm ∧ LT σc' σm') := by
  obtain ⟨l1, l2, l3, l4, l5, l6, l7, ⟨T0, l8⟩, l9⟩ := id hL
  unfold x10_text m_text
  rw [c1', m2]
  by_cases cn : a1 < 0
  · rw [if_pos cn, if_pos cn]
    exact r2_some ⟨rfl, lt_z hL⟩
  rw [if_neg cn, if_neg cn]
  by_cases cq : ¬ a1 ≤ nI q
  · rw [if_neg cq, if_neg cq]
    exact r2_some ⟨rfl, lt_z hL⟩
  have cq := Classical.not_not.mp cq
  rw [if_pos cq, if_pos cq]
  obtain ⟨n, hn31, rfl⟩ := nI_of cn
  have hn : n ≤ q := (nI_leI hn31 (by omega)).mp cq
  have hT : Tp (gA σm 1) n := ⟨l2, by omega⟩
  refine r2_bdL (c_scan (t := gA σm 1) (σ := sI σc 1 0) hT.1 l1 hT.2) (fun _ σ2 z => ?_)
  obtain ⟨z1, z2, z3, z4⟩ := z
  have hg3 : gP σ2 3 = gP σc 3 := z4 3
  rw [hg3]
  have g3 := pr_or l5
  have g7 := pr_or l6
  have hpar := r_parse (N := N) (σm := sI (sI (sI σm 0 0) 3 (nI n)) 2 0) hN hT l5 z1 ((gI_ne (by decide)).trans gI_eq) rfl
  have hbs := (s_parses (N := N) (σ := sI (sI (sI σm 0 0) 3 (nI n)) 2 0) hN (by rw [gI_ne (by decide), gI_eq, nI_t hn31]; omega) (by rw [gI_ne (by decide), gI_eq, nI_t hn31]; omega)).par
  refine r2_bd (r2_and hpar (ui_x4_readInto l5) (hbs.and vm_parses)) (fun _ σ4 _ σ5 y => ?_)
  obtain ⟨y1, ⟨⟨u1, u2, u3, u4, u5⟩, u6, -⟩, ⟨⟨b1, b2, -⟩, b3⟩, b4⟩ := y
  -- what stays on both sides
  have cI : ∀ k, ¬ tI (gP σc 3) k → k ≠ 1 → k ≠ 201 → k ≠ 202 → gI σ4 k = gI σc k := fun k h1 h2 h3 h4 => by rw [u3 k h1, z2 k h3 h4, gI_ne (fun y => h2 y.symm)]
  have cA : ∀ j, ¬ tA (gP σc 3) j → j ≠ 3 → gA σ4 j = gA σc j := fun j h1 h2 => by rw [u4 j h1, z3 j h2]; rfl
  have cP : ∀ k, k ≠ 403 → k ≠ 404 → gP σ4 k = gP σc k := fun k h1 h2 => by rw [u5 k h1 h2, z4 k]; rfl
  have mI : ∀ k, (k < 4 ∨ 9 < k) → k ≠ 0 → k ≠ 2 → k ≠ 3 → k ≠ 17 → k ≠ 33 → k ≠ 34 → k ≠ 38 → gI σ5 k = gI σm k := fun k h1 h2 h3 h4 h5 h6 h7 h8 => by rw [b2 k h1 h5 h6 h7 h8, gI_ne (fun y => h3 y.symm), gI_ne (fun y => h4 y.symm), gI_ne (fun y => h2 y.symm)]
  have t1 : CT (gA σ4 1) (gA σ5 1) := fun j hj => by
    rw [cA 1 (by unfold tA; omega) (by decide), b1 1 j (show j < 1000000 by omega)]
    exact l1 j hj
  have t2 : TB (gA σ5 1) := fun j hj => by
    rw [b1 1 j (show j < 1000000 by omega)]
    exact l2 j hj
  rcases y1 with hf | ⟨i, s, φ, ψ, u, w, T, hR⟩
  · -- a fault
    obtain ⟨k, p, f1, f2, f3, f4, f5⟩ := id hf
    rw [if_neg (fp_c hf), if_neg (fp_ne hf)]
    refine r2_some ⟨rfl, t1, t2, ?_, ?_, ?_, ?_, ?_, ⟨T0, ?_⟩, ?_⟩
    · show gI (sI (sI σ4 5 (gI σ4 408)) 6 (gI σ4 409)) 5 = gI (sI (sI σ5 10 (gI σ5 8)) 11 (gI σ5 9)) 10
      rw [gI_ne (by decide), gI_eq, gI_ne (by decide), gI_eq, f2, f4]
    · show gI (sI (sI σ4 5 (gI σ4 408)) 6 (gI σ4 409)) 6 = gI (sI (sI σ5 10 (gI σ5 8)) 11 (gI σ5 9)) 11
      rw [gI_eq, gI_eq, f3, f5]
    · show isPr (gP σ4 3) = true
      rw [cP 3 (by decide) (by decide)]; exact l5
    · show isPr (gP σ4 700) = true
      rw [cP 700 (by decide) (by decide)]; exact l6
    · show ¬ gP σ4 3 = gP σ4 700
      rw [cP 3 (by decide) (by decide), cP 700 (by decide) (by decide)]; exact l7
    · show BR (gP σ4 700) T0 _ _
      rw [cP 700 (by decide) (by decide)]
      refine br_same l8 ?_ ?_ (cA _ (by unfold tA; omega) (by omega)) (fun r hr => ⟨b1 19 r hr, b1 20 r hr⟩)
      · rw [gI_ne (by omega), gI_ne (by omega)]
        exact cI _ (by unfold tI; omega) (by omega) (by omega) (by omega)
      · rw [gI_ne (by omega), gI_ne (by omega)]
        exact cI _ (by unfold tI; omega) (by omega) (by omega) (by omega)
    · rw [gI_ne (by decide), gI_ne (by decide), gI_ne (by decide), gI_ne (by decide), cI 701 (by unfold tI; omega) (by decide) (by decide) (by decide), mI 39 (by omega) (by decide) (by decide) (by decide) (by decide) (by decide) (by decide) (by decide)]
      exact l9
  · -- the text is taken
    have h408 := hR.1.1.2.2.2
    have h8 := hR.2.1.1.2.2.2.2.2
    have e409 := u6 h408
    have e9 := b4 h8
    rw [if_pos h408, if_pos h8, cP 3 (by decide) (by decide), l5, cP 700 (by decide) (by decide)]
    obtain ⟨r1, r2, r3, r4, r5, r6, r7, r8, r9⟩ := hR
    obtain ⟨p1, p2, p3, p4, p5, p6, p7⟩ := r7
    refine r2_gdL (fun _ => r2_bdL c_start (fun _ σ6 x => ?_))
    obtain ⟨x1, x2, x3, x4⟩ := x
    unfold x10_forget
    rw [bd_s]
    have ha : φ s ≤ 1299 := by
      obtain ⟨a', c', u', w', o1, -, -, o4, -⟩ := b3 h8
      have := (nI_eq (by have := r2.2.2.1; omega) (by omega)).mp (r2.2.1.symm.trans o4.1)
      omega
    refine r2_bdR (s_comes (N := N) (σ := sI (sI σ5 10 (gI σ5 8)) 11 (gI σ5 9)) (a := φ s) hN ha ((gI_ne (by decide)).trans ((gI_ne (by decide)).trans r2.2.1))).par (fun _ σ7 v => ?_)
    obtain ⟨-, v2, v3, v4, v5, -, -⟩ := v
    have v19 : ∀ r, r < 8 → gA σ7 19 r = gA σ5 19 (8 + r) := fun r hr => by
      rw [v2 19 (by decide) (by decide)]
      show (if r < 8 then gA σ5 19 (8 + r) else _) = _
      rw [if_pos hr]
    have v20 : ∀ r, r < 8 → gA σ7 20 r = gA σ5 20 (8 + r) := fun r hr => by
      rw [v2 20 (by decide) (by decide)]
      show (if r < 8 then gA σ5 20 (8 + r) else _) = _
      rw [if_pos hr]
    have hbr : ∀ r, r < 8 → (T / 2 ^ r % 2 = 1 ↔ ¬ gA σ7 19 r = -1) := fun r hr => by rw [v19 r hr]; exact (p7 r hr).1
    unfold m_routinesMany
    refine r2_bdR (P := fun r σ' => σ' = σ7 ∧ r = nI (cnt8 T)) (n_many (T := T) hbr N 0 (by decide)) (fun r σ8 o => ?_)
    obtain ⟨rfl, rfl⟩ := o
    -- the class's last state
    have k700 : gP (sI (sI (sI σ6 908 1) 1904 1) 2204 1) 700 = gP σc 3 := by
      show gP σ6 700 = _
      rw [x4]
      rfl
    have k3 : gP (sI (sI (sI σ6 908 1) 1904 1) 2204 1) 3 = gP σc 700 := by
      show gP σ6 3 = _
      rw [x4]
      rfl
    have kI : ∀ k, k ≠ 908 → k ≠ 1904 → k ≠ 2204 → k ≠ 701 → k ≠ 5 → k ≠ 6 → gI (sI (sI (sI σ6 908 1) 1904 1) 2204 1) k = gI σ4 k := fun k h1 h2 h3 h4 h5 h6 => by
      rw [gI_ne (fun y => h3 y.symm), gI_ne (fun y => h2 y.symm), gI_ne (fun y => h1 y.symm), x2 k h4]
      show gI (sI (sI σ4 5 (gI σ4 408)) 6 (gI σ4 409)) k = _
      rw [gI_ne (fun y => h6 y.symm), gI_ne (fun y => h5 y.symm)]
    have kA : ∀ j, j ≠ 8 → gA (sI (sI (sI σ6 908 1) 1904 1) 2204 1) j = gA σ4 j := fun j hj => by
      show gA σ6 j = _
      rw [x3 j hj]
      rfl
    rw [k700]
    refine r2_gdL (fun _ => r2_some ⟨?_, ?_, ?_, ?_, ?_, ?_, ?_, ?_, ⟨T, ?_⟩, ?_⟩)
    · rw [kI _ (by omega) (by omega) (by omega) (by omega) (by omega) (by omega)]
      exact p3
    · intro j hj
      rw [kA 1 (by decide), v3 1 (by omega)]
      exact t1 j hj
    · intro j hj
      rw [v3 1 (by omega)]
      exact t2 j hj
    · rw [gI_ne (by decide), gI_ne (by decide), gI_ne (by decide), x2 5 (by decide), v4 10 (by decide)]
      show gI (sI (sI σ4 5 (gI σ4 408)) 6 (gI σ4 409)) 5 = gI (sI (sI (sI σ5 10 (gI σ5 8)) 11 (gI σ5 9)) 18 (nI (φ s))) 10
      rw [gI_ne (by decide), gI_eq, gI_ne (by decide), gI_ne (by decide), gI_eq, h408, h8]
    · rw [gI_ne (by decide), gI_ne (by decide), gI_ne (by decide), x2 6 (by decide), v4 11 (by decide)]
      show gI (sI (sI σ4 5 (gI σ4 408)) 6 (gI σ4 409)) 6 = gI (sI (sI (sI σ5 10 (gI σ5 8)) 11 (gI σ5 9)) 18 (nI (φ s))) 11
      rw [gI_eq, gI_ne (by decide), gI_eq, e409, e9]
    · rw [k3]; exact l6
    · rw [k700]; exact l5
    · rw [k3, k700]; exact fun e => l7 e.symm
    · rw [k700]
      refine ⟨p1, by rw [kI _ (by omega) (by omega) (by omega) (by omega) (by omega) (by omega)]; exact p2, by rw [kI _ (by omega) (by omega) (by omega) (by omega) (by omega) (by omega)]; exact p3, fun r hr => ⟨hbr r hr, fun z => ?_⟩⟩
      obtain ⟨m, p, q1, q2, q3, q4, q5, -⟩ := (p7 r hr).2 z
      exact ⟨m, q1, by rw [kA _ (by omega)]; exact q4, by rw [v20 r hr]; exact q5⟩
    · rw [gI_ne (by decide), gI_ne (by decide), gI_ne (by decide), x1, v5]
      show gI (sI (sI σ4 5 (gI σ4 408)) 6 (gI σ4 409)) (100 * gP σc 3 + 13) = gA σ5 22 1
      rw [gI_ne (by omega), gI_ne (by omega)]
      exact p4
