/-! the program that was taken: what holds of it between calls -/
def BV (A : Ar) (a : Nat) : Prop := PV (A 12) (A 13) (A 14) (A 15) a X0 ∧ (a = 0 ∨ G9 (A 12) (A 13) (A 14) (A 15) a) ∧ (∀ r, r < 8 → A 19 r = -1 ∨ ((∃ t : Nat, A 19 r = nI t ∧ t < a ∧ (t = 0 ∨ ¬ A 12 (t - 1) = 0)) ∧ 0 ≤ (A 20 r).toInt ∧ (A 20 r).toInt ≤ 4 ∧ ∀ k : Nat, (k : Int) < (A 20 r).toInt → 0 ≤ (A 21 (4 * r + k)).toInt ∧ (A 21 (4 * r + k)).toInt ≤ 25)) ∧ (∀ k, k < a → A 12 k = 6 → ∃ l : Nat, l ≤ 7 ∧ A 13 k = nI l ∧ ¬ A 19 l = -1 ∧ A 20 l = A 14 k)
theorem tgt_same {ac ac2 : Nat → Int32} {a k : Nat} {t : Int32} (he : ∀ n, n < a → ac2 n = ac n) (h : Tgt ac a k t) : Tgt ac2 a k t := by
  obtain ⟨n, h1, h2, h3, h4⟩ := h
  exact ⟨n, h1, h2, h3, by rw [he _ (by omega)]; exact h4⟩
theorem actV_same {ac on tw th ac2 on2 tw2 th2 : Nat → Int32} {a k : Nat} {X : Nat → Prop} (hk : k < a) (h1 : ∀ n, n < a → ac2 n = ac n) (h2 : ∀ n, n < a → on2 n = on n) (h3 : ∀ n, n < a → tw2 n = tw n) (h4 : ∀ n, n < a → th2 n = th n) (h : actV ac on tw th a X k) : actV ac2 on2 tw2 th2 a X k := by
  obtain ⟨g1, g2, g3, g4, g5, g6, g7⟩ := h
  unfold actV
  rw [h1 k hk, h2 k hk, h3 k hk, h4 k hk]
  refine ⟨g1, g2, g3, g4, fun e => ?_, fun e => ?_, fun e => ?_⟩
  · obtain ⟨p1, p2, p3, p4, p5, p6⟩ := g5 e
    exact ⟨p1, p2, p3, p4, p5, by rw [h1 _ (by omega)]; exact p6⟩
  · obtain ⟨p1, p2, p3⟩ := g6 e
    exact ⟨p1, p2, p3.imp id (tgt_same h1)⟩
  · rcases g7 e with ⟨p1, n, p2, p3, p4⟩ | ⟨p1, p2⟩
    · exact Or.inl ⟨p1, n, p2, p3, by rw [h1 _ (by omega)]; exact p4⟩
    · exact Or.inr ⟨p1, p2.imp id (tgt_same h1)⟩
theorem bv_same {A A2 : Ar} {a : Nat} (ha : a ≤ 1300) (h : ∀ j i, i < lim j → A2 j i = A j i) (hv : BV A a) : BV A2 a := by
  obtain ⟨g1, g2, g3, g4⟩ := hv
  have n12 : ∀ n, n < a → A2 12 n = A 12 n := fun n hn => h 12 n (show n < 1300 by omega)
  have n13 : ∀ n, n < a → A2 13 n = A 13 n := fun n hn => h 13 n (show n < 1300 by omega)
  have n14 : ∀ n, n < a → A2 14 n = A 14 n := fun n hn => h 14 n (show n < 1300 by omega)
  have n15 : ∀ n, n < a → A2 15 n = A 15 n := fun n hn => h 15 n (show n < 1300 by omega)
  refine ⟨fun k hk => actV_same hk n12 n13 n14 n15 (g1 k hk), ?_, fun r hr => ?_, fun k hk e => ?_⟩
  · rcases g2 with e | e
    · exact Or.inl e
    · rcases Nat.eq_zero_or_pos a with z | z
      · exact Or.inl z
      · exact Or.inr (g9_same z n12 n13 n14 n15 e)
  · rw [h 19 r (show r < 8 from hr), h 20 r (show r < 8 from hr)]
    refine (g3 r hr).imp id (fun ⟨⟨t, t1, t2, t3⟩, q2, q3, q4⟩ => ⟨⟨t, t1, t2, ?_⟩, q2, q3, fun k hk => ?_⟩)
    · rcases t3 with e | e
      · exact Or.inl e
      · exact Or.inr (by rw [n12 _ (by omega)]; exact e)
    · rw [h 21 (4 * r + k) (show 4 * r + k < 32 by omega)]
      exact q4 k hk
  · rw [n12 k hk] at e
    obtain ⟨l, l1, l2, l3, l4⟩ := g4 k hk e
    exact ⟨l, l1, by rw [n13 k hk]; exact l2, by rw [h 19 l (show l < 8 by omega)]; exact l3, by rw [h 20 l (show l < 8 by omega), n14 k hk]; exact l4⟩
/-- the reference between two calls -/
def MI (σ : St) : Prop := ∃ a u w : Nat, gI σ 18 = nI a ∧ a ≤ 1299 ∧ gA σ 26 0 = nI u ∧ u ≤ 40 ∧ gA σ 29 0 = nI w ∧ w ≤ 24 ∧ BV (gA σ) a ∧ (gI σ 39 = -1 ∨ ∃ l : Nat, l ≤ 7 ∧ gI σ 39 = nI l ∧ ¬ gA σ 19 l = -1) ∧ (0 < u → ¬ gI σ 39 = -1) ∧ 0 ≤ (gI σ 2).toInt ∧ (gI σ 2).toInt ≤ 1200 ∧ 0 ≤ (gI σ 64).toInt ∧ (gI σ 64).toInt ≤ 10
/-- what MI rests on stays -/
theorem mi_same {σ σ' : St} (h : MI σ) (hA : ∀ j i, i < lim j → gA σ' j i = gA σ j i) (h18 : gI σ' 18 = gI σ 18) (h39 : gI σ' 39 = gI σ 39) (h2 : 0 ≤ (gI σ' 2).toInt ∧ (gI σ' 2).toInt ≤ 1200) (h64 : 0 ≤ (gI σ' 64).toInt ∧ (gI σ' 64).toInt ≤ 10) : MI σ' := by
  obtain ⟨a, u, w, m1, m2, m3, m4, m5, m6, m7, m8, m9, -⟩ := h
  refine ⟨a, u, w, h18.trans m1, m2, (hA 26 0 (by decide)).trans m3, m4, (hA 29 0 (by decide)).trans m5, m6, bv_same (by omega) hA m7, ?_, by rw [h39]; exact m9, h2.1, h2.2, h64.1, h64.2⟩
  rw [h39]
  exact m8.imp id (fun ⟨l, l1, l2, l3⟩ => ⟨l, l1, l2, by rw [hA 19 l (show l < 8 by omega)]; exact l3⟩)
theorem cpd_lt {f : Nat → Int32} {o k i : Nat} (h : i < k) : cpd f o k i = f (o + i) := by
  unfold cpd
  rw [if_pos h]
/-- a right program is taken -/
theorem bv_of {σ σ' : St} {a c : Nat} (ha : a ≤ 1299) (hS : SQ (gA σ) a 0 c X0) (h9 : a = 0 ∨ E9 (gA σ) a) (hc : ∀ j, j < c → ∀ l : Nat, l ≤ 7 → gA σ 31 j = nI l → ¬ gA σ 19 (8 + l) = -1 ∧ gA σ 20 (8 + l) = gA σ 32 j) (hW : Cw a σ σ') : BV (gA σ') a := by
  obtain ⟨g1, g2, g3, g4, g5, g6⟩ := hS
  obtain ⟨w1, w2, -⟩ := hW
  have n12 : ∀ n, n < a → gA σ' 12 n = fr (gA σ 12) n := fun n hn => by rw [w1 12 (by decide) (by decide), cpd_lt hn]; rfl
  have n13 : ∀ n, n < a → gA σ' 13 n = fr (gA σ 13) n := fun n hn => by rw [w1 13 (by decide) (by decide), cpd_lt hn]; rfl
  have n14 : ∀ n, n < a → gA σ' 14 n = fr (gA σ 14) n := fun n hn => by rw [w1 14 (by decide) (by decide), cpd_lt hn]; rfl
  have n15 : ∀ n, n < a → gA σ' 15 n = fr (gA σ 15) n := fun n hn => by rw [w1 15 (by decide) (by decide), cpd_lt hn]; rfl
  have n19 : ∀ r, r < 8 → gA σ' 19 r = gA σ 19 (8 + r) := fun r hr => by rw [w2 19 (by decide) (by decide)]; exact cpd_lt hr
  have n20 : ∀ r, r < 8 → gA σ' 20 r = gA σ 20 (8 + r) := fun r hr => by rw [w2 20 (by decide) (by decide)]; exact cpd_lt hr
  have n21 : ∀ r, r < 32 → gA σ' 21 r = gA σ 21 (32 + r) := fun r hr => by rw [w2 21 (by decide) (by decide)]; exact cpd_lt hr
  refine ⟨fun k hk => actV_same hk n12 n13 n14 n15 (g1 k hk), ?_, fun r hr => ?_, fun k hk e => ?_⟩
  · rcases h9 with e | e
    · exact Or.inl e
    · rcases Nat.eq_zero_or_pos a with z | z
      · exact Or.inl z
      · exact Or.inr (g9_same z n12 n13 n14 n15 e)
  · rw [n19 r hr, n20 r hr]
    refine (g3 r hr).imp id (fun ⟨⟨t, t1, t2, t4, t3⟩, q2, q3, q4⟩ => ⟨⟨t, t1, t4 rfl, ?_⟩, q2, q3, fun k hk => ?_⟩)
    · rcases t3 with e | e
      · exact Or.inl e
      · have := t4 rfl
        exact Or.inr (by rw [n12 _ (by omega)]; exact e)
    · rw [n21 (4 * r + k) (by omega), show 32 + (4 * r + k) = 32 + 4 * r + k from by omega]
      exact q4 k hk
  · rw [n12 k hk] at e
    obtain ⟨j, j1, j2, j3⟩ := g4 k hk e
    obtain ⟨l, l1, l2⟩ := nI_of7 (g5 j j1).1 (g5 j j1).2
    obtain ⟨c1, c2⟩ := hc j j1 l l1 l2
    exact ⟨l, l1, by rw [n13 k hk, ← j2]; exact l2, by rw [n19 l (by omega)]; exact c1, by rw [n20 l (by omega), n14 k hk, c2]; exact j3⟩
theorem s_text {N : Nat} (hN : 8589934592 ≤ N) {σ : St} {n : Int32} (hM : MI σ) : Tot (m_text N σ n) (fun _ σ' => MI σ' ∧ (if n < 0 then gI σ' 2 = gI σ 2 else if n ≤ gI σ 2 then gI σ' 2 = 0 else gI σ' 2 = gI σ 2)) := by
  obtain ⟨a, u, w, m1, m2, m3, m4, m5, m6, m7, m8, m9, m10, m11, m12, m13⟩ := id hM
  have same : MI (sI σ 0 0) := mi_same hM (fun _ _ _ => rfl) rfl rfl ⟨m10, m11⟩ ⟨m12, m13⟩
  unfold m_text
  refine tot_if (fun h => tot_some ⟨same, by rw [if_pos h]; rfl⟩) (fun h => tot_if (fun h2 => ?_) (fun h2 => tot_some ⟨same, by rw [if_neg h, if_neg h2]; rfl⟩))
  refine Tot.mono (Q := fun _ σ' => MI σ' ∧ gI σ' 2 = 0) ?_ (fun _ σ' q => ⟨q.1, by rw [if_neg h, if_pos h2]; exact q.2⟩)
  have hn0 : 0 ≤ n.toInt := by
    rw [Int32.lt_iff_toInt_lt, i0] at h
    omega
  have hn1 : n.toInt ≤ 1200 := by
    rw [Int32.le_iff_toInt_le] at h2
    omega
  refine tot_bd (s_parses hN (σ := sI (sI (sI σ 0 0) 3 n) 2 0) hn0 hn1) (fun _ σ2 q => ?_)
  obtain ⟨⟨b1, b2, b3⟩, q2⟩ := q
  have e2 : gI σ2 2 = 0 := b2 2 (by omega) (by decide) (by decide) (by decide) (by decide)
  have e18 : gI σ2 18 = gI σ 18 := b2 18 (by omega) (by decide) (by decide) (by decide) (by decide)
  have e39 : gI σ2 39 = gI σ 39 := b2 39 (by omega) (by decide) (by decide) (by decide) (by decide)
  have e64 : gI σ2 64 = gI σ 64 := b2 64 (by omega) (by decide) (by decide) (by decide) (by decide)
  refine tot_if (fun h8 => ?_) (fun h8 => tot_some ⟨?_, e2⟩)
  · obtain ⟨a2, c2, u2, w2, l1, l2, l3, hP, hS, h9, h22, hc⟩ := q2 h8
    refine tot_bd (s_comes hN (σ := sI (sI σ2 10 (gI σ2 8)) 11 (gI σ2 9)) l1 hP.1) (fun _ σ4 hW => ?_)
    obtain ⟨r, er⟩ := s_routinesMany hN (σ := σ4)
    rw [er, bd_s]
    have hb := bv_of (σ := sI (sI (sI σ2 10 (gI σ2 8)) 11 (gI σ2 9)) 18 (nI a2)) l1 hS h9 hc hW
    obtain ⟨w1, w2', w3, w4, w5, w6, w7⟩ := hW
    have z2 : gI σ4 2 = 0 := (w4 2 (by decide)).trans e2
    have z18 : gI σ4 18 = nI a2 := (w4 18 (by decide)).trans gI_eq
    have z39 : gI σ4 39 = gA σ2 22 1 := w5
    have z64 : gI σ4 64 = gI σ 64 := (w4 64 (by decide)).trans e64
    have z26 : gA σ4 26 0 = nI u2 := by rw [w2' 26 (by decide) (by decide)]; exact hP.2.2.2.1
    have z29 : gA σ4 29 0 = nI w2 := by rw [w2' 29 (by decide) (by decide)]; exact hP.2.2.2.2
    refine tot_some ⟨⟨a2, u2, w2, z18, l1, z26, l2, z29, l3, hb, ?_, fun hu => by rw [z39]; exact h22 hu, by rw [z2]; decide, by rw [z2]; decide, by rw [z64]; exact m12, by rw [z64]; exact m13⟩, z2⟩
    rw [z39]
    rcases hS.2.2.2.2.2 with ⟨q, -⟩ | ⟨r, r1, r2, r3⟩
    · exact Or.inl q
    · refine Or.inr ⟨r, by omega, r2, ?_⟩
      rw [w2' 19 (by decide) (by decide)]
      show ¬ cpd (gA σ2 19) 8 8 r = -1
      rw [cpd_lt r1]
      exact r3
  · refine mi_same hM b1 e18 e39 ⟨by show 0 ≤ (gI σ2 2).toInt; rw [e2]; decide, by show (gI σ2 2).toInt ≤ 1200; rw [e2]; decide⟩ ⟨by show 0 ≤ (gI σ2 64).toInt; rw [e64]; exact m12, by show (gI σ2 64).toInt ≤ 10; rw [e64]; exact m13⟩
theorem s_fault {N : Nat} {σ : St} {x : Int32} (hM : MI σ) : Tot (m_fault N σ x) (fun _ σ' => MI σ' ∧ gI σ' 2 = gI σ 2) := by
  obtain ⟨a, u, w, m1, m2, m3, m4, m5, m6, m7, m8, m9, m10, m11, m12, m13⟩ := id hM
  have same : MI (sI σ 0 0) ∧ gI (sI σ 0 0) 2 = gI σ 2 := ⟨mi_same hM (fun _ _ _ => rfl) rfl rfl ⟨m10, m11⟩ ⟨m12, m13⟩, rfl⟩
  unfold m_fault
  exact tot_if (fun _ => tot_some same) (fun _ => tot_if (fun _ => tot_some same) (fun _ => tot_some same))
theorem s_entry {N : Nat} (hN : 8589934592 ≤ N) {σ : St} {x : Int32} (hM : MI σ) : Tot (m_entry N σ x) (fun _ σ' => MI σ' ∧ gI σ' 2 = gI σ 2) := by
  obtain ⟨a, u, w, m1, m2, m3, m4, m5, m6, m7, m8, m9, m10, m11, m12, m13⟩ := id hM
  have same : MI (sI σ 0 0) ∧ gI (sI σ 0 0) 2 = gI σ 2 := ⟨mi_same hM (fun _ _ _ => rfl) rfl rfl ⟨m10, m11⟩ ⟨m12, m13⟩, rfl⟩
  unfold m_entry
  refine tot_if (fun _ => tot_some same) (fun h0 => tot_if (fun _ => tot_some same) (fun h7 => ?_))
  have e7 : (7 : Int32).toInt = 7 := by decide
  rw [Int32.lt_iff_toInt_lt, i0] at h0
  rw [Int32.lt_iff_toInt_lt] at h7
  obtain ⟨l, l1, rfl⟩ := nI_of7 (x := x) (by omega) (by omega)
  rw [ibk (n := 16) (by omega) (by decide), nI_clamp (show l < 2 ^ 31 by omega)]
  refine tot_gd rfl (tot_if (fun _ => tot_some same) (fun h19 => tot_bd (s_enters hN) (fun _ σ2 q => tot_some ⟨?_, (q.2.1 2 (by decide)).trans rfl⟩)))
  have hA : ∀ j i, i < lim j → j ≠ 40 → gA σ2 j i = gA σ j i := fun j i _ hj => by rw [q.1 j hj]; rfl
  have o19 : gA σ2 19 = gA σ 19 := q.1 19 (by decide)
  refine ⟨a, u, w, (q.2.1 18 (by decide)).trans m1, m2, (by rw [q.1 26 (by decide)]; exact m3), m4, (by rw [q.1 29 (by decide)]; exact m5), m6, ?_, Or.inr ⟨l, l1, q.2.2.1, by rw [o19]; exact h19⟩, fun _ => by rw [q.2.2.1]; exact m1_ne (by omega), by rw [q.2.1 2 (by decide)]; exact m10, by rw [q.2.1 2 (by decide)]; exact m11, by rw [q.2.1 64 (by decide)]; exact m12, by rw [q.2.1 64 (by decide)]; exact m13⟩
  have : BV (fun j => if j = 40 then gA σ 40 else gA σ2 j) a := by
    refine bv_same (by omega) (fun j i hi => ?_) m7
    by_cases hj : j = 40
    · subst hj; rfl
    · show (if j = 40 then gA σ 40 else gA σ2 j) i = _
      rw [if_neg hj]; exact hA j i hi hj
  exact this
theorem s_outer {N : Nat} {σ : St} {x y : Int32} (hM : MI σ) : Tot (m_outer N σ x y) (fun _ σ' => MI σ' ∧ gI σ' 2 = gI σ 2) := by
  obtain ⟨a, u, w, m1, m2, m3, m4, m5, m6, m7, m8, m9, m10, m11, m12, m13⟩ := id hM
  have same : MI (sI σ 0 0) ∧ gI (sI σ 0 0) 2 = gI σ 2 := ⟨mi_same hM (fun _ _ _ => rfl) rfl rfl ⟨m10, m11⟩ ⟨m12, m13⟩, rfl⟩
  unfold m_outer
  refine tot_if (fun _ => tot_some same) (fun h39 => tot_if (fun _ => tot_some same) (fun h0 => ?_))
  obtain ⟨l, l1, l2, l3⟩ := m8.elim (fun e => absurd e h39) id
  rw [l2, ibk (n := 16) (by omega) (by decide), nI_clamp (show l < 2 ^ 31 by omega)]
  refine tot_gd rfl (tot_if (fun _ => tot_some same) (fun hle => tot_if (fun _ => tot_some same) (fun _ => tot_if (fun _ => ?_) (fun _ => tot_some same))))
  rw [Int32.lt_iff_toInt_lt, i0] at h0
  rw [Int32.le_iff_toInt_le] at hle
  have hp := (m7.2.2.1 l (by omega)).elim (fun e => absurd e l3) (fun q => q.2.2.1)
  refine tot_gd (ib_m (by omega) (by omega) (by decide)) (tot_some ⟨?_, rfl⟩)
  have : BV (gA (sA (sI σ 0 0) 40 x.toNatClampNeg y)) a := by
    obtain ⟨b1, b2, b3, b4⟩ := m7
    exact ⟨b1, b2, b3, b4⟩
  exact ⟨a, u, w, m1, m2, m3, m4, m5, m6, this, m8, m9, m10, m11, m12, m13⟩
