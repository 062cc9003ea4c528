/-! text, entry, outer, feed: the base relation stays or comes anew -/
theorem ly_keep {σc σm σc' σm' : St} (h : LY σc σm) (h7 : isPr (gP σc 700) = true) (hP : gP σc' 700 = gP σc 700) (hI : ∀ k, 3000 ≤ k → gI σc' k = gI σc k) (hA : ∀ j, 30 ≤ j → gA σc' j = gA σc j) (m18 : gI σm' 18 = gI σm 18) (mA : ∀ j i, 12 ≤ j → j < 40 → i < lim j → gA σm' j i = gA σm j i) (h8 : O8 σc' σm') : LY σc' σm' := by
  obtain ⟨⟨s, φ, u, w, T, h2⟩, -⟩ := h
  have g7 := pr_or h7
  refine ⟨⟨s, φ, u, w, T, ?_⟩, h8⟩
  rw [hP]
  exact bx_keep h2 (fun k h4 _ => hI k (by omega)) (fun j h4 _ => hA j (by omega)) m18 mA
theorem ly_z {σc σm : St} (h : LY σc σm) : LY σc (sI σm 0 0) := by
  obtain ⟨⟨s, φ, u, w, T, h2⟩, h3⟩ := h
  exact ⟨⟨s, φ, u, w, T, bx_keep h2 (fun _ _ _ => rfl) (fun _ _ _ => rfl) (gI_ne (by decide)) (fun _ _ _ _ _ => rfl)⟩, h3⟩
theorem fx_z {σc σm : St} : Fx σc σm σc (sI σm 0 0) := ⟨rfl, fun k h1 h2 => gI_ne (by omega)⟩
theorem bc_cod {g s : Nat} {φ ψ : Nat → Nat} {X : Nat → Prop} {σ4 σ5 σc σm : St} (h : Cod g s φ ψ X σ4 σ5) (hX : ∀ p, ¬ X p) (hr : gA σc (g + 2) = gA σ4 (g + 2)) (ha : ∀ j k, 12 ≤ j → j ≤ 16 → k < φ s → gA σm j k = gA σ5 j (1300 + k)) : BC g s φ σc σm := by
  have hup := cod_up h
  have hd : ∀ p q, rwD g p σc q = rwD g p σ4 q := fun p q => by unfold rwD; rw [hr]
  have hA : ∀ p k j, j ≤ 4 → φ p + k < φ s → acB φ p σm k j = acF φ p σ5 k j := fun p k j hj hk => ha (12 + j) (φ p + k) (by omega) (by omega) hk
  refine ⟨h.1, fun p hp => ?_⟩
  obtain ⟨len, l1, l2, l3, l4, -⟩ := h.2.2 p hp
  have h1 := (hup s (Nat.le_refl _) (p + 1) (by omega)).1
  refine ⟨len, l1, l2, el_same (fun q _ => hd p q) (fun k j hk hj => hA p k j hj (by omega)) l3, ?_⟩
  refine gl_same l4 (fun z => hX p z) (hd p 0) (hd p 10) (hA p 0 1 (by decide) (by omega)) (hA p 0 2 (by decide) (by omega)) (fun e => hA p 1 3 (by decide) ?_) (fun q _ => hd q 0)
  have := el_len2 l3 e
  omega
theorem cp_lt {f : Nat → Int32} {o k i : Nat} (h : i < k) : cpd f o k i = f (o + i) := if_pos h
theorem r_textx {N : Nat} {σc σm : St} {a1 : Int32} {q : Nat} (hN : 8589934592 ≤ N) (hX : LX σc σm) (c1' : gI σc 1 = nI q) (m2 : gI σm 2 = nI q) (hq : q ≤ 1200) : R2 (x10_text N σc a1) (m_text N σm a1) (fun _ σc' _ σm' => LY σc' σm' ∧ Fx σc σm σc' σm') := by
  obtain ⟨hL, hY⟩ := hX
  obtain ⟨l1, l2, l3, l4, l5, l6, l7, ⟨T0, l8⟩, l9⟩ := id hL
  unfold x10_text m_text
  rw [c1', m2]
  by_cases cn : a1 < 0
  · rw [if_pos cn, if_pos cn]
    exact r2_some ⟨ly_z hY, fx_z⟩
  rw [if_neg cn, if_neg cn]
  by_cases cq : ¬ a1 ≤ nI q
  · rw [if_neg cq, if_neg cq]
    exact r2_some ⟨ly_z hY, fx_z⟩
  have cq := Classical.not_not.mp cq
  rw [if_pos cq, if_pos cq]
  obtain ⟨n, hn31, rfl⟩ := nI_of cn
  have hn : n ≤ q := (nI_leI hn31 (by omega)).mp cq
  have hT : Tp (gA σm 1) n := ⟨l2, by omega⟩
  refine r2_bdL (c_scan (t := gA σm 1) (σ := sI σc 1 0) hT.1 l1 hT.2) (fun _ σ2 z => ?_)
  obtain ⟨z1, z2, z3, z4⟩ := z
  have hg3 : gP σ2 3 = gP σc 3 := z4 3
  rw [hg3]
  have g3 := pr_or l5
  have g7 := pr_or l6
  have hpar := r_parse (N := N) (σm := sI (sI (sI σm 0 0) 3 (nI n)) 2 0) hN hT l5 z1 ((gI_ne (by decide)).trans gI_eq) rfl
  have hbs := (s_parses (N := N) (σ := sI (sI (sI σm 0 0) 3 (nI n)) 2 0) hN (by rw [gI_ne (by decide), gI_eq, nI_t hn31]; omega) (by rw [gI_ne (by decide), gI_eq, nI_t hn31]; omega)).par
  refine r2_bd (r2_and hpar (ui_x4_readInto l5) (hbs.and vm_parses)) (fun _ σ4 _ σ5 y => ?_)
  obtain ⟨y1, ⟨⟨u1, u2, u3, u4, u5⟩, u6, -⟩, ⟨⟨b1, b2, -⟩, b3⟩, b4⟩ := y
  -- what stays on both sides
  have cI : ∀ k, ¬ tI (gP σc 3) k → k ≠ 1 → k ≠ 201 → k ≠ 202 → gI σ4 k = gI σc k := fun k h1 h2 h3 h4 => by rw [u3 k h1, z2 k h3 h4, gI_ne (fun y => h2 y.symm)]
  have cA : ∀ j, ¬ tA (gP σc 3) j → j ≠ 3 → gA σ4 j = gA σc j := fun j h1 h2 => by rw [u4 j h1, z3 j h2]; rfl
  have cP : ∀ k, k ≠ 403 → k ≠ 404 → gP σ4 k = gP σc k := fun k h1 h2 => by rw [u5 k h1 h2, z4 k]; rfl
  have mI : ∀ k, (k < 4 ∨ 9 < k) → k ≠ 0 → k ≠ 2 → k ≠ 3 → k ≠ 17 → k ≠ 33 → k ≠ 34 → k ≠ 38 → gI σ5 k = gI σm k := fun k h1 h2 h3 h4 h5 h6 h7 h8 => by rw [b2 k h1 h5 h6 h7 h8, gI_ne (fun y => h3 y.symm), gI_ne (fun y => h4 y.symm), gI_ne (fun y => h2 y.symm)]
  have t1 : CT (gA σ4 1) (gA σ5 1) := fun j hj => by
    rw [cA 1 (by unfold tA; omega) (by decide), b1 1 j (show j < 1000000 by omega)]
    exact l1 j hj
  have t2 : TB (gA σ5 1) := fun j hj => by
    rw [b1 1 j (show j < 1000000 by omega)]
    exact l2 j hj
  rcases y1 with hf | ⟨i, s, φ, ψ, u, w, T, hR⟩
  · -- a fault
    obtain ⟨k, p, f1, f2, f3, f4, f5⟩ := id hf
    rw [if_neg (fp_c hf), if_neg (fp_ne hf)]
    obtain ⟨⟨s, φ, u, w, T, h2⟩, h3⟩ := hY
    refine r2_some ⟨⟨⟨s, φ, u, w, T, ?_⟩, fun i hi => ?_⟩, cA 26 (by unfold tA; omega) (by decide), fun k h1 h2 => ?_⟩
    · show BX (gP σ4 700) _ _ _ _ _ _ _
      rw [cP 700 (by decide) (by decide)]
      refine bx_keep h2 (fun k k1 k2 => ?_) (fun j j1 j2 => ?_) ?_ (fun j i _ _ hi => b1 j i hi)
      · rw [gI_ne (by omega), gI_ne (by omega)]
        exact cI _ (by unfold tI; omega) (by omega) (by omega) (by omega)
      · exact cA j (by unfold tA; omega) (by omega)
      · rw [gI_ne (by decide), gI_ne (by decide)]
        exact mI 18 (by omega) (by decide) (by decide) (by decide) (by decide) (by decide) (by decide) (by decide)
    · show gA σ4 8 i = gA σ5 40 i ∧ ∃ x : Nat, x ≤ 3 ∧ gA σ5 40 i = nI x
      rw [cA 8 (by unfold tA; omega) (by decide), b1 40 i (show i < 1000000 by omega)]
      exact h3 i hi
    · rw [gI_ne (by omega), gI_ne (by omega)]
      exact mI k (by omega) (by omega) (by omega) (by omega) (by omega) (by omega) (by omega) (by omega)
  · -- the text is taken
    have h408 := hR.1.1.2.2.2
    have h8 := hR.2.1.1.2.2.2.2.2
    have e409 := u6 h408
    have e9 := b4 h8
    rw [if_pos h408, if_pos h8, cP 3 (by decide) (by decide), l5, cP 700 (by decide) (by decide)]
    obtain ⟨r1, r2, r3, r4, r5, r6, r7, r8, r9⟩ := hR
    obtain ⟨p1, p2, p3, p4, p5, p6, p7⟩ := r7
    refine r2_gdL (fun _ => r2_bdL (c_start.and c_start8) (fun _ σ6 x => ?_))
    obtain ⟨⟨x1, x2, x3, x4⟩, x5⟩ := x
    unfold x10_forget
    rw [bd_s]
    have ha : φ s ≤ 1299 := by
      obtain ⟨a', c', u', w', o1, -, -, o4, -⟩ := b3 h8
      have := (nI_eq (by have := r2.2.2.1; omega) (by omega)).mp (r2.2.1.symm.trans o4.1)
      omega
    refine r2_bdR (s_comes (N := N) (σ := sI (sI σ5 10 (gI σ5 8)) 11 (gI σ5 9)) (a := φ s) hN ha ((gI_ne (by decide)).trans ((gI_ne (by decide)).trans r2.2.1))).par (fun _ σ7 v => ?_)
    obtain ⟨v1, v2, v3, v4, v5, -, v7⟩ := v
    have v19 : ∀ r, r < 8 → gA σ7 19 r = gA σ5 19 (8 + r) := fun r hr => by
      rw [v2 19 (by decide) (by decide)]
      show (if r < 8 then gA σ5 19 (8 + r) else _) = _
      rw [if_pos hr]
    have v20 : ∀ r, r < 8 → gA σ7 20 r = gA σ5 20 (8 + r) := fun r hr => by
      rw [v2 20 (by decide) (by decide)]
      show (if r < 8 then gA σ5 20 (8 + r) else _) = _
      rw [if_pos hr]
    have hbr : ∀ r, r < 8 → (T / 2 ^ r % 2 = 1 ↔ ¬ gA σ7 19 r = -1) := fun r hr => by rw [v19 r hr]; exact (p7 r hr).1
    unfold m_routinesMany
    refine r2_bdR (P := fun r σ' => σ' = σ7 ∧ r = nI (cnt8 T)) (n_many (T := T) hbr N 0 (by decide)) (fun r σ8 o => ?_)
    obtain ⟨rfl, rfl⟩ := o
    -- the class's last state
    have k700 : gP (sI (sI (sI σ6 908 1) 1904 1) 2204 1) 700 = gP σc 3 := by
      show gP σ6 700 = _
      rw [x4]
      rfl
    have k3 : gP (sI (sI (sI σ6 908 1) 1904 1) 2204 1) 3 = gP σc 700 := by
      show gP σ6 3 = _
      rw [x4]
      rfl
    have kI : ∀ k, k ≠ 908 → k ≠ 1904 → k ≠ 2204 → k ≠ 701 → k ≠ 5 → k ≠ 6 → gI (sI (sI (sI σ6 908 1) 1904 1) 2204 1) k = gI σ4 k := fun k h1 h2 h3 h4 h5 h6 => by
      rw [gI_ne (fun y => h3 y.symm), gI_ne (fun y => h2 y.symm), gI_ne (fun y => h1 y.symm), x2 k h4]
      show gI (sI (sI σ4 5 (gI σ4 408)) 6 (gI σ4 409)) k = _
      rw [gI_ne (fun y => h6 y.symm), gI_ne (fun y => h5 y.symm)]
    have kA : ∀ j, j ≠ 8 → gA (sI (sI (sI σ6 908 1) 1904 1) 2204 1) j = gA σ4 j := fun j hj => by
      show gA σ6 j = _
      rw [x3 j hj]
      rfl
    rw [k700]
    refine r2_gdL (fun _ => r2_some ?_)
    have w1 : ∀ j i, 19 ≤ j → j ≠ 40 → i < (off j).2 → gA σ8 j i = gA σ5 j ((off j).1 + i) := fun j i h1 h2 h3 => by
      rw [v2 j h1 h2]
      exact cp_lt h3
    refine ⟨⟨⟨s, φ, u, w, T, ?_⟩, fun i hi => ?_⟩, (kA 26 (by decide)).trans (cA 26 (by unfold tA; omega) (by decide)), fun k h1 h2 => ?_⟩
    · rw [k700]
      refine ⟨?_, r1.2.2.2, ?_, ha, bc_cod r8 ?_ (kA _ (by omega)) (fun j k h1 h2 h3 => by rw [v1 j h1 h2]; exact cp_lt h3), ?_, ?_, fun p hp => ?_⟩
      · rw [kI _ (by omega) (by omega) (by omega) (by omega) (by omega) (by omega)]
        exact r1.2.2.1
      · rw [v4 18 (by decide)]
        exact gI_eq
      · rintro p ⟨k, k1, k2, -⟩
        omega
      · obtain ⟨u1, u2, u3, u4⟩ := r3
        obtain ⟨y1, y2, y3, y4⟩ := r4
        refine ⟨?_, ?_, u3, fun k hk => ?_, ?_, ?_, y3, fun k hk => ?_⟩
        · rw [kI _ (by omega) (by omega) (by omega) (by omega) (by omega) (by omega)]; exact u1
        · exact (w1 26 0 (by decide) (by decide) (by decide)).trans u2
        · rw [kA _ (by omega), kA _ (by omega), kA _ (by omega), w1 23 k (by decide) (by decide) (show k < 41 by omega), w1 24 k (by decide) (by decide) (show k < 41 by omega), w1 25 k (by decide) (by decide) (show k < 41 by omega)]
          exact u4 k hk
        · rw [kI _ (by omega) (by omega) (by omega) (by omega) (by omega) (by omega)]; exact y1
        · exact (w1 29 0 (by decide) (by decide) (by decide)).trans y2
        · rw [kA _ (by omega), kA _ (by omega), w1 27 k (by decide) (by decide) (show k < 25 by omega), w1 28 k (by decide) (by decide) (show k < 25 by omega)]
          exact y4 k hk
      · refine ⟨p1, by rw [kI _ (by omega) (by omega) (by omega) (by omega) (by omega) (by omega)]; exact p2, fun r hr => ⟨hbr r hr, fun z => ?_⟩⟩
        obtain ⟨m, p, q1, q2, q3, q4, q5, q6, q7, q8⟩ := (p7 r hr).2 z
        refine ⟨m, p, q1, q3 rfl, by rw [kA _ (by omega)]; exact q4, by rw [v20 r hr]; exact q5, by rw [kA _ (by omega)]; exact q6, by rw [v19 r hr]; exact q7, fun k hk => ?_⟩
        rw [kA _ (by omega), w1 21 (4 * r + k) (by decide) (by decide) (show 4 * r + k < 32 by omega)]
        exact (q8 k hk).trans (by show gA σ5 21 (32 + 4 * r + k) = gA σ5 21 (32 + (4 * r + k)); rw [Nat.add_assoc])
      · obtain ⟨l, b1, b2⟩ := r5.2.1 p hp
        refine ⟨l, ?_, om_same b2 (kA _ (by omega))⟩
        show gA _ (gP σc 3 + 2) (12 * p + 11) = nI l
        rw [kA _ (by omega)]
        exact b1
    · exact ⟨(x5 i hi).trans (v7 i hi).symm, 3, by decide, v7 i hi⟩
    · rw [v4 k (by omega)]
      show gI (sI (sI (sI σ5 10 (gI σ5 8)) 11 (gI σ5 9)) 18 (nI (φ s))) k = _
      rw [gI_ne (by omega), gI_ne (by omega), gI_ne (by omega)]
      exact mI k (by omega) (by omega) (by omega) (by omega) (by omega) (by omega) (by omega) (by omega)
theorem ly_feed {N : Nat} {σc σm : St} {a1 a2 a3 a4 a5 : Int32} {q : Nat} (hX : LX σc σm) (c1' : gI σc 1 = nI q) (m2 : gI σm 2 = nI q) (hq : q ≤ 1200) : R2 (x10_feed N σc a1 a2 a3 a4 a5) (m_feed N σm a1 a2 a3 a4 a5) (fun _ σc' _ σm' => LY σc' σm' ∧ Fx σc σm σc' σm') := by
  obtain ⟨⟨l1, l2, l3, l4, l5, l6, -⟩, hY⟩ := hX
  refine (r_feed l1 l2 c1' m2 hq).mono (fun _ σc' _ σm' z => ?_)
  obtain ⟨z1, z2, z3, z4, z5, z6, z7⟩ := z
  refine ⟨?_, z3 26 (by decide), fun k h1 h2 => z7 k (by omega) (by omega)⟩
  refine ly_keep hY l6 (z5 700) (fun k hk => z4 k (by omega)) (fun j hj => z3 j (by omega)) (z7 18 (by decide) (by decide)) (fun j i h12 hj hi => by rw [z6 j (by omega)]) (fun i hi => ?_)
  rw [z3 8 (by decide), z6 40 (by decide)]
  exact hY.2 i hi
theorem ly_fault {N : Nat} {σc σm : St} {a1 : Int32} (hY : LY σc σm) : R2 (x10_fault N σc a1) (m_fault N σm a1) (fun _ σc' _ σm' => LY σc' σm' ∧ Fx σc σm σc' σm') := by
  unfold x10_fault m_fault
  by_cases c0 : a1 = 0
  · rw [if_pos c0, if_pos c0]
    exact r2_some ⟨ly_z hY, fx_z⟩
  rw [if_neg c0, if_neg c0]
  by_cases c1 : a1 = 1
  · rw [if_pos c1, if_pos c1]
    exact r2_some ⟨ly_z hY, fx_z⟩
  rw [if_neg c1, if_neg c1]
  exact r2_some ⟨ly_z hY, fx_z⟩
theorem ly_entry {N : Nat} {σc σm : St} {a1 : Int32} (hN : 8589934592 ≤ N) (hX : LX σc σm) : R2 (x10_entry N σc a1) (m_entry N σm a1) (fun _ σc' _ σm' => LY σc' σm' ∧ Fx σc σm σc' σm') := by
  obtain ⟨⟨l1, l2, l3, l4, l5, l6, l7, ⟨T0, l8⟩, l9⟩, hY⟩ := hX
  have g7 := pr_or l6
  obtain ⟨t1, t2, t3, t4⟩ := id l8
  unfold x10_entry m_entry
  rw [l6, gd_t]
  by_cases cn : a1 < 0
  · have e : x3_has N σc (gP σc 700) a1 = some (0, σc) := by unfold x3_has; rw [if_pos cn]
    rw [e, bd_s, if_pos rfl, if_pos cn]
    exact r2_some ⟨ly_z hY, fx_z⟩
  rw [if_neg cn]
  obtain ⟨n, hn31, rfl⟩ := nI_of cn
  by_cases c7 : 7 < n
  · have e : x3_has N σc (gP σc 700) (nI n) = some (0, σc) := by
      unfold x3_has
      rw [if_neg cn, if_pos (show (8 : Int32) ≤ nI n from nI_le (a := 8) (by omega) (by omega))]
    rw [e, bd_s, if_pos rfl, if_pos (show (7 : Int32) < nI n from nI_lt (a := 7) c7 (by omega))]
    exact r2_some ⟨ly_z hY, fx_z⟩
  have hl : n < 8 := by omega
  rw [c_has l6 t2 t1 hl, bd_s, if_neg (show ¬ (7 : Int32) < nI n from nI_nlt (a := 7) (by omega) (by decide)), nI_clamp (by omega)]
  have t8 := (t4 n hl).1
  refine r2_gdR (fun _ => ?_)
  by_cases ct : T0 / 2 ^ n % 2 = 1
  · rw [if_pos ct, if_neg (show ¬ (1 : Int32) = 0 by decide), if_neg (t8.mp ct)]
    refine r2_bdL (c_start.and c_start8) (fun _ σ1 x => ?_)
    obtain ⟨⟨x1, x2, x3, x4⟩, x5⟩ := x
    unfold x10_forget
    rw [bd_s]
    refine r2_bdR (s_enters (N := N) (σ := sI σm 0 0) (r := nI n) hN).par (fun _ σ2 y => ?_)
    obtain ⟨y1, y2, y3, -, y5⟩ := y
    refine r2_some ⟨ly_keep hY l6 (x4 700) (fun k hk => ?_) (fun j hj => x3 j (by omega)) ((y2 18 (by decide)).trans (gI_ne (by decide))) (fun j i _ hj _ => by rw [y1 j (by omega)]; rfl) (fun i hi => ⟨(x5 i hi).trans (y5 i hi).symm, 3, by decide, y5 i hi⟩), x3 26 (by decide), fun k h1 h2 => (y2 k (by omega)).trans (gI_ne (by omega))⟩
    rw [gI_ne (by omega), gI_ne (by omega), gI_ne (by omega), x2 k (by omega)]
  · have rf : gA σm 19 n = -1 := Classical.not_not.mp (fun z => ct (t8.mpr z))
    rw [if_neg ct, if_pos rfl, if_pos rf]
    exact r2_some ⟨ly_z hY, fx_z⟩
theorem ly_outer {N : Nat} {σc σm : St} {a1 a2 : Int32} (hX : LX σc σm) (hM : gI σm 39 = -1 ∨ ∃ l : Nat, l ≤ 7 ∧ gI σm 39 = nI l ∧ ¬ gA σm 19 l = -1) : R2 (x10_outer N σc a1 a2) (m_outer N σm a1 a2) (fun _ σc' _ σm' => LY σc' σm' ∧ Fx σc σm σc' σm') := by
  obtain ⟨⟨l1, l2, l3, l4, l5, l6, l7, ⟨T0, l8⟩, l9⟩, hY⟩ := hX
  have g7 := pr_or l6
  obtain ⟨t1, t2, t3, t4⟩ := id l8
  unfold x10_outer m_outer
  by_cases cn : a1 < 0
  · rw [if_pos cn]
    by_cases c9 : gI σm 39 = -1
    · rw [if_pos c9]
      exact r2_some ⟨ly_z hY, fx_z⟩
    · rw [if_neg c9, if_pos cn]
      exact r2_some ⟨ly_z hY, fx_z⟩
  rw [if_neg cn]
  by_cases c9 : gI σm 39 = -1
  · have c7 : gI σc 701 = -1 := l9.trans c9
    have ea : x5_at N σc (gP σc 700 + 4) (gI σc 701) = some (0, σc) := by
      unfold x5_at
      rw [c7, if_pos (by decide)]
    have eh : x3_has N σc (gP σc 700) (gI σc 701) = some (0, σc) := by
      unfold x3_has
      rw [c7, if_pos (by decide)]
    have e1 : x7_outers N σc = some (0, σc) := by
      unfold x7_outers
      rw [l6, gd_t, ea, bd_s, l6, gd_t, eh, bd_s, if_pos rfl]
      rfl
    rw [e1, bd_s, if_pos (Int32.not_lt.mp cn), if_pos c9]
    exact r2_some ⟨ly_z hY, fx_z⟩
  obtain ⟨l, hl, hl1, hl2⟩ := hM.resolve_left c9
  have ct := (t4 l (by omega)).1.mpr hl2
  obtain ⟨m, hm, hm1, hm2⟩ := (t4 l (by omega)).2 ct
  clear t4
  have c7 : gI σc 701 = nI l := l9.trans hl1
  have po : Par (x7_outers N σc) (fun r σ' => σ' = σc ∧ r = nI m) := by
    unfold x7_outers
    refine par_gd (fun _ => par_bd (P := fun r σ' => σ' = σc ∧ r = nI m) ?_ (fun r2 σ3 z => ?_))
    · rw [c7]
      have hlen : l < lenC (gP σc 700 + 4) := by
        rcases g7 with h | h
        · rw [h]; show l < 8; omega
        · rw [h]; show l < 8; omega
      exact (c_at hlen).mono (fun r σ' z => ⟨z.1, z.2.trans hm1⟩)
    · obtain ⟨z1, z2⟩ := z
      rw [z1, z2, c7]
      refine par_gd (fun _ => ?_)
      rw [c_has l6 t2 t1 (by omega : l < 8), bd_s, if_pos ct, if_neg (show ¬ (1 : Int32) = 0 by decide)]
      unfold x7_outers_33
      exact par_some ⟨rfl, if_neg (show ¬ (4 : Int32) < nI m from nI_nlt (a := 4) (by omega) (by decide))⟩
  rw [if_neg c9, if_neg cn, hl1, nI_clamp (by omega), hm2]
  refine r2_bdL po (fun r1 σ2 z => ?_)
  obtain ⟨z1, z2⟩ := z
  rw [z1, z2]
  refine r2_gdR (fun _ => ?_)
  by_cases c1 : nI m ≤ a1
  · rw [if_pos c1, if_pos c1]
    exact r2_some ⟨ly_z hY, fx_z⟩
  rw [if_neg c1, if_neg c1]
  by_cases c2 : a2 < 1
  · rw [if_pos c2, if_pos c2]
    exact r2_some ⟨ly_z hY, fx_z⟩
  rw [if_neg c2, if_neg c2]
  by_cases c3 : a2 ≤ 3
  · rw [if_pos c3, if_pos c3]
    obtain ⟨k1, hk31, rfl⟩ := nI_of cn
    have hk1 : k1 < m := Classical.byContradiction (fun y => c1 (nI_le (by omega) (by omega)))
    have ep : x5_put N σc 8 (nI k1) a2 = some ((), sA σc 8 k1 a2) := by
      unfold x5_put
      rw [if_neg cn, show isIA 8 = true from rfl, gd_t, show Int32.ofNat (lenC 8) = nI 4 from rfl, if_neg (nI_ge (by omega) (by decide)), nI_clamp (by omega), show ib (nI k1) (lenC 8) = true from ibk (show k1 < 4 by omega) (by decide), gd_t]
    rw [ep, bd_s]
    unfold x10_forget
    rw [bd_s, nI_clamp (by omega)]
    refine r2_gdR (fun _ => r2_some ⟨ly_keep hY l6 rfl (fun k hk => ?_) (fun j hj => ?_) (show gI (sI σm 0 0) 18 = gI σm 18 from gI_ne (by decide)) (fun j i _ hj _ => ?_) (fun i hi => ?_), ?_, fun k h1 h2 => ?_⟩)
    · rw [gI_ne (by omega), gI_ne (by omega), gI_ne (by omega)]; rfl
    · show gA (sA σc 8 k1 a2) j = gA σc j
      rw [gA_sA, if_neg (by omega)]
    · show gA (sA σm 40 k1 a2) j i = gA σm j i
      rw [gA_sA, if_neg (by omega)]
    · show gA (sA σc 8 k1 a2) 8 i = gA (sA σm 40 k1 a2) 40 i ∧ ∃ x : Nat, x ≤ 3 ∧ gA (sA σm 40 k1 a2) 40 i = nI x
      rw [gA_sA, if_pos rfl, gA_sA, if_pos rfl]
      by_cases e : i = k1
      · rw [e, pk_us, pk_us]
        obtain ⟨x, x1, x2⟩ := nI_of2 (M := 3) (n := 3) rfl (fun z => c2 (Int32.lt_trans z (by decide))) c3
        exact ⟨rfl, x, x1, x2⟩
      · rw [pk_un e, pk_un e]
        exact hY.2 i hi
    · show gA (sA σc 8 k1 a2) 26 = gA σc 26
      rw [gA_sA, if_neg (by decide)]
    · exact (show gI (sI σm 0 0) k = gI σm k from gI_ne (by omega))
  · rw [if_neg c3, if_neg c3]
    exact r2_some ⟨ly_z hY, fx_z⟩
