/-! feed, fault, entry: what texts have left stays, the answers are alike -/
theorem lt_feed {N : Nat} {σc σm : St} {a1 a2 a3 a4 a5 : Int32} {q : Nat} (hL : LT σc σm) (c1' : gI σc 1 = nI q) (m2 : gI σm 2 = nI q) (hq : q ≤ 1200) : R2 (x10_feed N σc a1 a2 a3 a4 a5) (m_feed N σm a1 a2 a3 a4 a5) (fun _ σc' _ σm' => LT σc' σm') := by
  obtain ⟨l1, l2, l3, l4, l5, l6, l7, ⟨T0, l8⟩, l9⟩ := id hL
  have g7 := pr_or l6
  refine (r_feed l1 l2 c1' m2 hq).mono (fun _ σc' _ σm' z => ?_)
  obtain ⟨z1, z2, z3, z4, z5, z6, z7⟩ := z
  refine ⟨z1, z2, ?_, ?_, by rw [z5]; exact l5, by rw [z5]; exact l6, by rw [z5, z5]; exact l7, ⟨T0, ?_⟩, ?_⟩
  · rw [z4 5 (by decide), z7 10 (by decide) (by decide)]; exact l3
  · rw [z4 6 (by decide), z7 11 (by decide) (by decide)]; exact l4
  · rw [z5]
    exact br_same l8 (z4 _ (by omega)) (z4 _ (by omega)) (z3 _ (by omega)) (fun r _ => ⟨by rw [z6 19 (by decide)], by rw [z6 20 (by decide)]⟩)
  · rw [z4 701 (by decide), z7 39 (by decide) (by decide)]; exact l9
theorem r_fault {N : Nat} {σc σm : St} {a1 : Int32} (hL : LT σc σm) : R2 (x10_fault N σc a1) (m_fault N σm a1) (fun rc σc' rm σm' => rc = rm ∧ LT σc' σm') := by
  unfold x10_fault m_fault
  by_cases c0 : a1 = 0
  · rw [if_pos c0, if_pos c0]
    exact r2_some ⟨hL.2.2.1, lt_z hL⟩
  rw [if_neg c0, if_neg c0]
  by_cases c1 : a1 = 1
  · rw [if_pos c1, if_pos c1]
    exact r2_some ⟨hL.2.2.2.1, lt_z hL⟩
  rw [if_neg c1, if_neg c1]
  exact r2_some ⟨rfl, lt_z hL⟩
theorem r_entry {N : Nat} {σc σm : St} {a1 : Int32} (hN : 8589934592 ≤ N) (hL : LT σc σm) : R2 (x10_entry N σc a1) (m_entry N σm a1) (fun rc σc' rm σm' => rc = rm ∧ LT σc' σm') := by
  obtain ⟨l1, l2, l3, l4, l5, l6, l7, ⟨T0, l8⟩, l9⟩ := id hL
  have g7 := pr_or l6
  obtain ⟨t1, t2, t3, t4⟩ := id l8
  unfold x10_entry m_entry
  rw [l6, gd_t]
  by_cases cn : a1 < 0
  · have e : x3_has N σc (gP σc 700) a1 = some (0, σc) := by unfold x3_has; rw [if_pos cn]
    rw [e, bd_s, if_pos rfl, if_pos cn]
    exact r2_some ⟨rfl, lt_z hL⟩
  rw [if_neg cn]
  obtain ⟨n, hn31, rfl⟩ := nI_of cn
  by_cases c7 : 7 < n
  · have e : x3_has N σc (gP σc 700) (nI n) = some (0, σc) := by
      unfold x3_has
      rw [if_neg cn, if_pos (show (8 : Int32) ≤ nI n from nI_le (a := 8) (by omega) (by omega))]
    rw [e, bd_s, if_pos rfl, if_pos (show (7 : Int32) < nI n from nI_lt (a := 7) c7 (by omega))]
    exact r2_some ⟨rfl, lt_z hL⟩
  have hl : n < 8 := by omega
  rw [c_has l6 t2 t1 hl, bd_s, if_neg (show ¬ (7 : Int32) < nI n from nI_nlt (a := 7) (by omega) (by decide)), nI_clamp (by omega)]
  have t8 := (t4 n hl).1
  refine r2_gdR (fun _ => ?_)
  by_cases ct : T0 / 2 ^ n % 2 = 1
  · rw [if_pos ct, if_neg (show ¬ (1 : Int32) = 0 by decide), if_neg (t8.mp ct)]
    refine r2_bdL c_start (fun _ σ1 x => ?_)
    obtain ⟨x1, x2, x3, x4⟩ := x
    unfold x10_forget
    rw [bd_s]
    refine r2_bdR (s_enters (N := N) (σ := sI σm 0 0) (r := nI n) hN).par (fun _ σ2 y => ?_)
    obtain ⟨y1, y2, y3, -, -⟩ := y
    have kI : ∀ k, k ≠ 908 → k ≠ 1904 → k ≠ 2204 → k ≠ 701 → gI (sI (sI (sI σ1 908 1) 1904 1) 2204 1) k = gI σc k := fun k h1 h2 h3 h4 => by rw [gI_ne (fun y => h3 y.symm), gI_ne (fun y => h2 y.symm), gI_ne (fun y => h1 y.symm), x2 k h4]
    have kP : ∀ k, gP (sI (sI (sI σ1 908 1) 1904 1) 2204 1) k = gP σc k := fun k => x4 k
    have kA : ∀ j, j ≠ 8 → gA (sI (sI (sI σ1 908 1) 1904 1) 2204 1) j = gA σc j := fun j hj => x3 j hj
    have mI : ∀ k, k ≠ 39 → k ≠ 0 → gI σ2 k = gI σm k := fun k h1 h2 => by rw [y2 k h1, gI_ne (fun y => h2 y.symm)]
    refine r2_some ⟨rfl, ?_, ?_, ?_, ?_, ?_, ?_, ?_, ⟨T0, ?_⟩, ?_⟩
    · rw [kA 1 (by decide), y1 1 (by decide)]; exact l1
    · rw [y1 1 (by decide)]; exact l2
    · rw [kI 5 (by decide) (by decide) (by decide) (by decide), mI 10 (by decide) (by decide)]; exact l3
    · rw [kI 6 (by decide) (by decide) (by decide) (by decide), mI 11 (by decide) (by decide)]; exact l4
    · rw [kP]; exact l5
    · rw [kP]; exact l6
    · rw [kP, kP]; exact l7
    · rw [kP]
      exact br_same l8 (kI _ (by omega) (by omega) (by omega) (by omega)) (kI _ (by omega) (by omega) (by omega) (by omega)) (kA _ (by omega)) (fun r _ => ⟨by rw [y1 19 (by decide)]; rfl, by rw [y1 20 (by decide)]; rfl⟩)
    · rw [gI_ne (by decide), gI_ne (by decide), gI_ne (by decide), x1, y3]
  · have rf : gA σm 19 n = -1 := Classical.not_not.mp (fun z => ct (t8.mpr z))
    rw [if_neg ct, if_pos rfl, if_pos rf]
    exact r2_some ⟨rfl, lt_z hL⟩
