theorem sq_emitB {A : Ar} {a b b2 c : Nat} {X : Nat → Prop} {x y z w : Int32} (hb2 : b2 ≤ b) (h : SQ A a b c X)
    (hv : actV (fr (upd (A 12) (1300 + a) x)) (fr (upd (A 13) (1300 + a) y)) (fr (upd (A 14) (1300 + a) z)) (fr (upd (A 15) (1300 + a) w)) (a + 1) X a) (hc : x = 6 → ∃ j, j < c ∧ A 31 j = y ∧ A 32 j = z) : SQ (emA A a x y z w) (a + 1) b2 c X := by
  obtain ⟨e1, e2, e3, e4, e5, e6⟩ := sq_emit h hv hc
  refine ⟨e1, fun i hi => e2 i (by omega), fun r hr => ?_, e4, e5, e6⟩
  have n12 : ∀ n, n < a → fr (emA A a x y z w 12) n = fr (A 12) n := fun n hn => by rw [em12]; exact fr_upd_ne (by omega)
  exact rt_up (emA_o (by omega)) (emA_o (by omega)) (emA_o (by omega)) n12 (by omega) (fun _ => Or.inr (by omega)) (h.2.2.1 r hr)
theorem sq_th {A A2 : Ar} {a b c n t : Nat} {X : Nat → Prop} (h : SQ A a b c X) (htst : tst (fr (A 12) n)) (hT : Tgt (fr (A 12)) a n (nI t)) (h15 : A2 15 = upd (A 15) (1300 + n) (nI t)) (ho : ∀ j, j ≠ 15 → A2 j = A j) : SQ A2 a b c (fun k => X k ∧ k ≠ n) := by
  obtain ⟨g1, g2, g3, g4, g5, g6⟩ := h
  refine ⟨fun k hk => ?_, fun i hi => ?_, fun r hr => ?_, ?_, ?_, ?_⟩
  · have hv := g1 k hk
    rw [ho 12 (by decide), ho 13 (by decide), ho 14 (by decide)]
    obtain ⟨p1, p2, p3, p4, p5, p6, p7⟩ := hv
    by_cases hkn : k = n
    · subst hkn
      refine ⟨p1, p2, p3, p4, p5, fun e => ⟨(p6 e).1, (p6 e).2.1, Or.inr ?_⟩, fun e => ?_⟩
      · rw [h15, fr_upd_eq]; exact hT
      · rw [e] at htst
        rcases htst with q | q | q <;> exact absurd q (by decide)
    · refine ⟨p1, p2, p3, p4, p5, fun e => ⟨(p6 e).1, (p6 e).2.1, ?_⟩, fun e => (p7 e).imp id (fun q => ⟨q.1, q.2.imp (fun x => ⟨x, hkn⟩) id⟩)⟩
      rw [h15, fr_upd_ne hkn]
      exact (p6 e).2.2.imp (fun x => ⟨x, hkn⟩) id
  · have hv := g2 i hi
    simp only [blkV, ho 35 (by decide), ho 36 (by decide), ho 37 (by decide), ho 12 (by decide), ho 14 (by decide)] at hv ⊢
    exact hv
  · have hv := g3 r hr
    simp only [rtV, ho 19 (by decide), ho 20 (by decide), ho 21 (by decide), ho 12 (by decide)] at hv ⊢
    exact hv
  · rw [ho 12 (by decide), ho 13 (by decide), ho 14 (by decide), ho 31 (by decide), ho 32 (by decide)]; exact g4
  · rw [ho 31 (by decide)]; exact g5
  · rw [ho 22 (by decide), ho 19 (by decide)]; exact g6
theorem sq_on {A A2 : Ar} {a b c n t : Nat} {X : Nat → Prop} (h : SQ A a b c X) (h12 : fr (A 12) n = 13) (h14 : fr (A 14) n = 0) (hT : Tgt (fr (A 12)) a n (nI t)) (h13 : A2 13 = upd (A 13) (1300 + n) (nI t)) (ho : ∀ j, j ≠ 13 → A2 j = A j) : SQ A2 a b c (fun k => X k ∧ k ≠ n) := by
  obtain ⟨g1, g2, g3, g4, g5, g6⟩ := h
  refine ⟨fun k hk => ?_, fun i hi => ?_, fun r hr => ?_, fun k hk e => ?_, ?_, ?_⟩
  · have hv := g1 k hk
    rw [ho 12 (by decide), ho 14 (by decide), ho 15 (by decide)]
    obtain ⟨p1, p2, p3, p4, p5, p6, p7⟩ := hv
    by_cases hkn : k = n
    · subst hkn
      refine ⟨p1, fun e => ?_, p3, p4, fun e => ?_, fun e => ?_, fun _ => Or.inr ⟨h14, Or.inr ?_⟩⟩
      · rw [h12] at e
        exact nn1 (by decide) e
      · rw [h12] at e
        exact absurd e (by decide)
      · rw [h12] at e
        exact absurd e (nt _ (by decide))
      · rw [h13, fr_upd_eq]; exact hT
    · have e13 : fr (A2 13) k = fr (A 13) k := by rw [h13]; exact fr_upd_ne hkn
      unfold actV
      rw [e13]
      exact ⟨p1, p2, p3, p4, p5, fun e => ⟨(p6 e).1, (p6 e).2.1, (p6 e).2.2.imp (fun x => ⟨x, hkn⟩) id⟩, fun e => (p7 e).imp id (fun q => ⟨q.1, q.2.imp (fun x => ⟨x, hkn⟩) id⟩)⟩
  · have hv := g2 i hi
    simp only [blkV, ho 35 (by decide), ho 36 (by decide), ho 37 (by decide), ho 12 (by decide), ho 14 (by decide)] at hv ⊢
    exact hv
  · have hv := g3 r hr
    simp only [rtV, ho 19 (by decide), ho 20 (by decide), ho 21 (by decide), ho 12 (by decide)] at hv ⊢
    exact hv
  · rw [ho 12 (by decide)] at e
    have hkn : k ≠ n := fun q => by
      subst q
      rw [h12] at e
      exact absurd e (by decide)
    rw [h13, fr_upd_ne hkn, ho 14 (by decide), ho 31 (by decide), ho 32 (by decide)]
    exact g4 k hk e
  · rw [ho 31 (by decide)]; exact g5
  · rw [ho 22 (by decide), ho 19 (by decide)]; exact g6
theorem sq_pop {A : Ar} {a i c : Nat} {X Y : Nat → Prop} (h : SQ A a (i + 1) c X) (hi : ¬ i = 0) (hX : ∀ k, k < a → X k → Y k) : SQ A a i c Y := by
  obtain ⟨g1, g2, g3, g4⟩ := sq_wt h hX
  exact ⟨g1, fun j hj => g2 j (by omega), fun r hr => rt_up rfl rfl rfl (fun _ _ => rfl) (Nat.le_refl a) (fun e => absurd e hi) (g3 r hr), g4⟩
theorem wt_pop {A : Ar} {a i n : Nat} (ha : a < 2 ^ 31) (hn : n < a) (h36 : A 36 i = nI n) : ∀ k, k < a → Wt A (i + 1) k ∧ k ≠ n → Wt A i k := by
  intro k hk ⟨⟨j, h1, h2, h3⟩, h4⟩
  rcases (show j = i ∨ j < i by omega) with e | e
  · subst e
    rw [h36] at h3
    exact absurd (nI_inj (by omega) (by omega) h3.symm) h4
  · exact ⟨j, e, h2, h3⟩
/-- at a routine's end every goal lies inside -/
def G9 (ac on tw th : Nat → Int32) (a : Nat) : Prop := ac (a - 1) = 9 ∧ ∀ k, k < a → (tst (ac k) → ∃ n : Nat, th k = nI n ∧ n < a) ∧ (ac k = 13 → tw k = 0 → ∃ n : Nat, on k = nI n ∧ n < a)
def E9 (A : Ar) (a : Nat) : Prop := G9 (fr (A 12)) (fr (A 13)) (fr (A 14)) (fr (A 15)) a
theorem g9_same {ac on tw th ac2 on2 tw2 th2 : Nat → Int32} {a : Nat} (ha : 0 < a) (h1 : ∀ n, n < a → ac2 n = ac n) (h2 : ∀ n, n < a → on2 n = on n) (h3 : ∀ n, n < a → tw2 n = tw n) (h4 : ∀ n, n < a → th2 n = th n) (h : G9 ac on tw th a) : G9 ac2 on2 tw2 th2 a := by
  refine ⟨by rw [h1 _ (by omega)]; exact h.1, fun k hk => ?_⟩
  rw [h1 k hk, h2 k hk, h3 k hk, h4 k hk]
  exact h.2 k hk
theorem Tot.and {ρ : Type} {o : Option (ρ × St)} {P Q : ρ → St → Prop} (h1 : Tot o P) (h2 : Tot o Q) : Tot o (fun r σ => P r σ ∧ Q r σ) := by
  obtain ⟨r, σ, e, hp⟩ := h1
  obtain ⟨r2, σ2, e2, hq⟩ := h2
  rw [e] at e2
  obtain ⟨rfl, rfl⟩ := Prod.mk.inj (Option.some.inj e2)
  exact ⟨r, σ, e, hp, hq⟩
theorem e9_of {A : Ar} {a c : Nat} {y z w : Int32} {X : Nat → Prop} (h : SQ A a 0 c X) (hx : ∀ k, k < a → ¬ X k) : E9 (emA A a 9 y z w) (a + 1) := by
  unfold E9
  rw [em12, em13, em14, em15]
  refine ⟨fr_upd_eq, fun k hk => ?_⟩
  rcases Nat.lt_or_ge k a with q | q
  · rw [fr_upd_ne (by omega), fr_upd_ne (by omega), fr_upd_ne (by omega), fr_upd_ne (by omega)]
    obtain ⟨-, -, -, -, -, p6, p7⟩ := h.1 k q
    refine ⟨fun e => ?_, fun e e2 => ?_⟩
    · obtain ⟨n, t1, t2, t3, -⟩ := (p6 e).2.2.elim (fun q2 => absurd q2 (hx k q)) id
      exact ⟨n, t1, by omega⟩
    · rcases p7 e with ⟨p, -⟩ | ⟨-, p⟩
      · rw [e2] at p
        exact absurd p (by decide)
      · obtain ⟨n, t1, t2, t3, -⟩ := p.elim (fun q2 => absurd q2 (hx k q)) id
        exact ⟨n, t1, by omega⟩
  · obtain rfl : k = a := by omega
    rw [fr_upd_eq]
    exact ⟨fun e => absurd e (by unfold tst; decide), fun e => absurd e (by decide)⟩
def CS (a c u w : Nat) (σ σ' : St) : Prop := B2 σ σ' ∧ ∃ a' b', a' ≤ a + 2 ∧ b' ≤ 6 ∧ PS σ' a' b' c u w ∧ TI σ' ∧ TV σ' ∧ (gI σ' 8 = 0 → SQ (gA σ') a' b' c (Wt (gA σ') b') ∧ Bn (gA σ') a' ∧ (b' = 0 → 1 ≤ a' ∧ E9 (gA σ') a') ∧ (a' : Int) + (if b' = 0 then 0 else 1) + (gI σ 5).toInt ≤ a + 1 + (gI σ' 5).toInt ∧ (gI σ 5).toInt < (gI σ' 5).toInt)
theorem s_closes {N : Nat} (hN : 8589934592 ≤ N) {σ : St} {a i c u w : Nat} (ha : a ≤ 1290) (hb : i + 1 ≤ 6) (hT : TI σ) (hV : TV σ) (hP : PS σ a (i + 1) c u w) (h8 : gI σ 8 = 0) (h6 : gI σ 6 = 3) (hS : SQ (gA σ) a (i + 1) c (Wt (gA σ) (i + 1))) (hB : Bn (gA σ) a) : Tot (m_closes N σ) (fun _ σ' => CS a c u w σ σ') := by
  unfold m_closes
  refine tot_bd (s_nextT hN hT hV (by rw [h6]; decide)) (fun _ σ2 hp => ?_)
  have hk2 := hp.1.2.2.1
  have hA2 := tk_A hk2
  have hP2 := ps_tk hk2 hP
  obtain ⟨p1, p2, p3, p4, p5⟩ := id hP2
  have e8 : gI σ2 8 = 0 := hp.2.1.trans h8
  have hpl := (hp.1.2.2.2.2 e8).2
  have hpred : nI (i + 1) - 1 = nI i := nI_pred i
  have hcl : (nI i).toNatClampNeg = i := nI_clamp (by omega)
  rw [p2, hpred, hcl, ib8 (by omega), hA2]
  refine tot_gd rfl (tot_gd rfl ?_)
  -- the state with the block closed
  obtain ⟨σ3, e3⟩ : ∃ z, z = sI σ2 38 (nI i) := ⟨_, rfl⟩
  rw [← e3]
  have g3 : ∀ k, k ≠ 38 → gI σ3 k = gI σ2 k := fun k hk => by rw [e3]; exact gI_ne (fun e => hk e.symm)
  have hA3 : gA σ3 = gA σ := by rw [e3]; exact hA2
  have hT3 : TI σ3 := ti_of (fun k hk => g3 k (by omega)) hp.1.1
  have hV3 : TV σ3 := tv_of (fun k hk => g3 k (by omega)) hp.1.2.1
  have hP3 : PS σ3 a i c u w := ⟨by rw [g3 17 (by decide)]; exact p1, by rw [e3]; exact gI_eq, by rw [g3 33 (by decide)]; exact p3, by rw [hA3, ← hA2]; exact p4, by rw [hA3, ← hA2]; exact p5⟩
  have pl3 : (gI σ3 5).toInt = (gI σ2 5).toInt := by rw [g3 5 (by decide)]
  have hS3 : SQ (gA σ3) a (i + 1) c (Wt (gA σ) (i + 1)) := by rw [hA3]; exact hS
  have hB3 : B2 σ σ3 := by rw [e3]; exact b2_I (b2_tk hk2) (by omega)
  have l13 : ∀ n, lim 13 ≤ 1300 + n := fun n => Nat.le_add_right 1300 n
  have l15 : ∀ n, lim 15 ≤ 1300 + n := fun n => Nat.le_add_right 1300 n
  obtain ⟨bk1, bk2⟩ := hS.2.1 i (by omega)
  have iw : ∀ n, n < a → ib ((1300 : Int32) + nI n) 2600 = true := fun n hn => ib_m (by rw [nI_c (by omega), nI_t (by omega)]; omega) (by rw [nI_c (by omega), nI_t (by omega)]; omega) (by decide)
  refine tot_if (fun hk0 => ?_) (fun hk0 => ?_)
  · -- a routine's end
    obtain rfl : i = 0 := bk1.mp hk0
    refine tot_bd (s_emit (x := 1) (y := 0) (z := 0) (v := 0) hT3 hV3 hP3 (by omega)) (fun r13 σ4 q => ?_)
    obtain ⟨-, q2, q3, q4, q5⟩ := q
    have hS4 : SQ (gA σ4) (a + 1) 0 c (Wt (gA σ) 1) := by
      rw [q4]
      exact sq_emitB (by omega) hS3 (act_plain (by decide) (nn1 (by decide)) (fun e => absurd e (by decide)) (fun e => by rcases e with e | e <;> exact absurd e (by decide)) (fun e => absurd e (by decide)) (fun e => absurd e (nt _ (by decide))) (fun e => absurd e (by decide))) (fun e => absurd e (by decide))
    refine tot_bd (Tot.and (s_emitP (x := 9) (X := Wt (gA σ) 1) q3.1 q3.2.1 q2 (by omega) ⟨by decide, by decide, nt _ (by decide), by decide⟩ (fun _ => ⟨hS4, nn1 (by decide), fun e => absurd e (by decide), fun e => by rcases e with e | e <;> exact absurd e (by decide)⟩)) (s_emit q3.1 q3.2.1 q2 (by omega))) (fun r15 σ5 q => ?_)
    obtain ⟨⟨-, z2, z3, z4, z5⟩, -, -, -, zA, -⟩ := q
    refine tot_some ⟨b2_tr (b2_tr hB3 (b2_em q4 q5.1 q5.2)) z4.2.2.2, a + 2, 0, by omega, by omega, z2, z3.1, z3.2.1, fun e => ?_⟩
    obtain ⟨d1, d2⟩ := z5 e
    have h5 := (z3.2.2.2 e).2
    have h4 := (q3.2.2.2 (z3.2.2.2 e).1).2
    refine ⟨sq_wt d1 (fun k _ ⟨j, j1, j2, j3⟩ => ?_), Or.inr ?_, fun _ => ⟨by omega, ?_⟩, ?_, by omega⟩
    · obtain rfl : j = 0 := by omega
      exact absurd hk0 j2
    · rw [show a + 2 - 1 = a + 1 from rfl, d2]; decide
    · rw [zA]
      refine e9_of hS4 (fun k _ ⟨j, j1, j2, j3⟩ => ?_)
      obtain rfl : j = 0 := by omega
      exact absurd hk0 j2
    · rw [if_pos rfl]; omega
  · have hi0 : ¬ i = 0 := fun e => hk0 (bk1.mpr e)
    -- three[waits] = acts, or one[waits] = acts
    have h151 : ∀ σ4 : St, σ4 = σ3 → ¬ gA σ 35 i = 3 → Tot (m_closes_151 N σ4 (gA σ 35 i) (gA σ 36 i)) (fun _ σ' => CS a c u w σ σ') := by
      intro σ4 e4 h3
      subst e4
      unfold m_closes_151
      rcases bk2 with e | ⟨e, n, b1, b2, b3, b4⟩ | ⟨e, n, b1, b2, b3, b4⟩
      · exact absurd e hk0
      · have e1 : gA σ 35 i = 1 := e.elim id (fun q => absurd q h3)
        rw [if_pos e1, b1]
        refine tot_gd (iw n b2) (tot_some ?_)
        rw [nI_cl (by omega), hP3.1]
        have hTg : Tgt (fr (gA σ4 12)) a n (nI a) := ⟨a, rfl, b2, Nat.le_refl a, by rw [hA3]; exact hB.elim (fun q => absurd q (by omega)) id⟩
        have hS5 := sq_th (A2 := gA (sA σ4 15 (1300 + n) (nI a))) hS3 (by rw [hA3]; exact b3) hTg (by rw [gA_sA, if_pos rfl]) (fun j hj => by rw [gA_sA, if_neg hj])
        have hw5 : Wt (gA (sA σ4 15 (1300 + n) (nI a))) i = Wt (gA σ) i := by unfold Wt; rw [gA_sA, if_neg (by decide), gA_sA, if_neg (by decide), hA3]
        refine ⟨b2_A hB3 (l15 n), a, i, by omega, by omega, ⟨hP3.1, hP3.2.1, hP3.2.2.1, hP3.2.2.2.1, hP3.2.2.2.2⟩, hT3, hV3, fun _ => ⟨sq_pop hS5 hi0 ?_, ?_, fun e => absurd e hi0, ?_, ?_⟩⟩
        · rw [hw5]
          exact wt_pop (by omega) b2 b1
        · unfold Bn
          rw [gA_sA, if_neg (by decide), hA3]
          exact hB
        · rw [if_neg hi0]
          show (a : Int) + 1 + (gI σ 5).toInt ≤ a + 1 + (gI σ4 5).toInt
          omega
        · show (gI σ 5).toInt < (gI σ4 5).toInt
          omega
      · have e1 : ¬ gA σ 35 i = 1 := by rw [e]; decide
        rw [if_neg e1, b1]
        refine tot_gd (iw n b2) (tot_some ?_)
        rw [nI_cl (by omega), hP3.1]
        have hTg : Tgt (fr (gA σ4 12)) a n (nI a) := ⟨a, rfl, b2, Nat.le_refl a, by rw [hA3]; exact hB.elim (fun q => absurd q (by omega)) id⟩
        have hS5 := sq_on (A2 := gA (sA σ4 13 (1300 + n) (nI a))) hS3 (by rw [hA3]; exact b3) (by rw [hA3]; exact b4) hTg (by rw [gA_sA, if_pos rfl]) (fun j hj => by rw [gA_sA, if_neg hj])
        have hw5 : Wt (gA (sA σ4 13 (1300 + n) (nI a))) i = Wt (gA σ) i := by unfold Wt; rw [gA_sA, if_neg (by decide), gA_sA, if_neg (by decide), hA3]
        refine ⟨b2_A hB3 (l13 n), a, i, by omega, by omega, ⟨hP3.1, hP3.2.1, hP3.2.2.1, hP3.2.2.2.1, hP3.2.2.2.2⟩, hT3, hV3, fun _ => ⟨sq_pop hS5 hi0 ?_, ?_, fun e => absurd e hi0, ?_, ?_⟩⟩
        · rw [hw5]
          exact wt_pop (by omega) b2 b1
        · unfold Bn
          rw [gA_sA, if_neg (by decide), hA3]
          exact hB
        · rw [if_neg hi0]
          show (a : Int) + 1 + (gI σ 5).toInt ≤ a + 1 + (gI σ4 5).toInt
          omega
        · show (gI σ 5).toInt < (gI σ4 5).toInt
          omega
    refine tot_if (fun hk3 => ?_) (fun hk3 => tot_if (fun hk1 => ?_) (fun _ => h151 σ3 rfl hk3))
    · -- while
      rcases bk2 with e | ⟨e, n, b1, b2, b3, b4⟩ | ⟨e, n, b1, b2, b3, b4⟩
      · exact absurd e hk0
      · have b5 := b4 hk3
        rw [b1, b5]
        refine tot_gd rfl ?_
        refine tot_bd (s_emit (x := 13) (y := nI n) (z := 1) (v := 0) hT3 hV3 hP3 (by omega)) (fun r11 σ4 q => ?_)
        obtain ⟨-, q2, q3, q4, q5⟩ := q
        have hS4 : SQ (gA σ4) (a + 1) (i + 1) c (Wt (gA σ) (i + 1)) := by
          rw [q4]
          exact sq_emit hS3 (act_plain (by decide) (nn1 (by decide)) (fun e => absurd e (by decide)) (fun e => by rcases e with e | e <;> exact absurd e (by decide)) (fun e => absurd e (by decide)) (fun e => absurd e (nt _ (by decide))) (fun _ => Or.inl ⟨rfl, n, rfl, b2, by rw [hA3]; exact b3⟩)) (fun e => absurd e (by decide))
        have e12 : fr (gA σ4 12) a = 13 := by rw [q4, em12, fr_upd_eq]
        have t12 : tst (fr (gA σ4 12) n) := by rw [q4, em12, fr_upd_ne (by omega), hA3]; exact b3
        refine tot_gd (iw n b2) (tot_some ?_)
        rw [nI_cl (by omega), q2.1]
        have hTg : Tgt (fr (gA σ4 12)) (a + 1) n (nI (a + 1)) := ⟨a + 1, rfl, by omega, Nat.le_refl _, by rw [show a + 1 - 1 = a from rfl, e12]; decide⟩
        have hS5 := sq_th (A2 := gA (sA σ4 15 (1300 + n) (nI (a + 1)))) hS4 t12 hTg (by rw [gA_sA, if_pos rfl]) (fun j hj => by rw [gA_sA, if_neg hj])
        have hw5 : Wt (gA (sA σ4 15 (1300 + n) (nI (a + 1)))) i = Wt (gA σ) i := by unfold Wt; rw [gA_sA, if_neg (by decide), gA_sA, if_neg (by decide), q4, emA_o (by omega), emA_o (by omega), hA3]
        refine ⟨b2_A (b2_tr hB3 (b2_em q4 q5.1 q5.2)) (l15 n), a + 1, i, by omega, by omega, ⟨q2.1, q2.2.1, q2.2.2.1, q2.2.2.2.1, q2.2.2.2.2⟩, q3.1, q3.2.1, fun e => ⟨sq_pop hS5 hi0 ?_, Or.inr ?_, fun e => absurd e hi0, ?_, ?_⟩⟩
        · rw [hw5]
          exact wt_pop (by omega) (by omega) b1
        · rw [gA_sA, if_neg (by decide), show a + 1 - 1 = a from rfl, e12]; decide
        · rw [if_neg hi0]
          have := (q3.2.2.2 e).2
          show ((a + 1 : Nat) : Int) + 1 + (gI σ 5).toInt ≤ a + 1 + (gI σ4 5).toInt
          omega
        · have := (q3.2.2.2 e).2
          show (gI σ 5).toInt < (gI σ4 5).toInt
          omega
      · rw [e] at hk3
        exact absurd hk3 (by decide)
    · rw [e_isWord, bd_s]
      refine tot_if (fun _ => h151 σ3 rfl hk3) (fun hel => ?_)
      rcases bk2 with e | ⟨e, n, b1, b2, b3, b4⟩ | ⟨e, n, b1, b2, b3, b4⟩
      · exact absurd e hk0
      · refine tot_bd (s_nextW hN hT3 hV3 (sgF_1 hel).2.1) (fun _ σ6 hg6 => ?_)
        have hk6 := hg6.1.2.2.1
        have hA6 : gA σ6 = gA σ := (tk_A hk6).trans hA3
        refine tot_bd (s_emit (x := 13) (y := 0) (z := 0) (v := 0) hg6.1.1 hg6.1.2.1 (ps_tk hk6 hP3) (by omega)) (fun r7 σ4 q => ?_)
        obtain ⟨rfl, q2, q3, q4, q5⟩ := q
        have hS4 : SQ (gA σ4) (a + 1) (i + 1) c (fun k => Wt (gA σ) (i + 1) k ∨ k = a) := by
          rw [q4, hA6]
          exact sq_emit (sq_wt hS (fun k _ hk => Or.inl hk)) (act_plain (by decide) (nn1 (by decide)) (fun e => absurd e (by decide)) (fun e => by rcases e with e | e <;> exact absurd e (by decide)) (fun e => absurd e (by decide)) (fun e => absurd e (nt _ (by decide))) (fun _ => Or.inr ⟨rfl, Or.inr rfl⟩)) (fun e => absurd e (by decide))
        have e12 : fr (gA σ4 12) a = 13 := by rw [q4, em12, fr_upd_eq]
        have e14 : fr (gA σ4 14) a = 0 := by rw [q4, em14, fr_upd_eq]
        have t12 : tst (fr (gA σ4 12) n) := by rw [q4, em12, fr_upd_ne (by omega), hA6]; exact b3
        rw [b1]
        refine tot_gd (iw n b2) ?_
        rw [nI_cl (by omega), q2.1]
        have hTg : Tgt (fr (gA σ4 12)) (a + 1) n (nI (a + 1)) := ⟨a + 1, rfl, by omega, Nat.le_refl _, by rw [show a + 1 - 1 = a from rfl, e12]; decide⟩
        have hS5 := sq_th (A2 := gA (sA σ4 15 (1300 + n) (nI (a + 1)))) hS4 t12 hTg (by rw [gA_sA, if_pos rfl]) (fun j hj => by rw [gA_sA, if_neg hj])
        have hP5 : PS (sA σ4 15 (1300 + n) (nI (a + 1))) (a + 1) i c u w := ⟨q2.1, q2.2.1, q2.2.2.1, q2.2.2.2.1, q2.2.2.2.2⟩
        refine tot_bd (s_opens hN (σ := sA σ4 15 (1300 + n) (nI (a + 1))) q3.1 q3.2.1 hP5 (by omega)) (fun _ σ7 q7 => ?_)
        obtain ⟨zG, zO, zB⟩ := q7
        have hBa : B2 σ σ7 := b2_tr (b2_A (b2_tr (b2_tr hB3 (b2_tk hk6)) (b2_em q4 q5.1 q5.2)) (l15 n)) zB
        refine tot_some ⟨hBa, ?_⟩
        rcases zO with ⟨y1, y2, y3⟩ | ⟨y1, y2, y3, y4, y5, y6, y7⟩
        · exact ⟨a + 1, i, by omega, by omega, y2, zG.1, zG.2.1, fun e => absurd e y1⟩
        · refine ⟨a + 1, i + 1, by omega, y2, y3, zG.1, zG.2.1, fun e => ?_⟩
          have u4 := (zG.2.2.2 e)
          have u4' : gI σ4 8 = 0 ∧ (gI σ4 5).toInt + 1 ≤ (gI σ7 5).toInt := u4
          have u6 := q3.2.2.2 u4'.1
          have u3 := hg6.1.2.2.2.2 u6.1
          have e35 : gA σ7 35 i = 2 := by rw [y4, upd_eq]
          have e36 : gA σ7 36 i = nI a := by rw [y5, upd_eq]
          have r35 : gA (sA σ4 15 (1300 + n) (nI (a + 1))) 35 = gA σ 35 := by rw [gA_sA, if_neg (by decide), q4, emA_o (by omega), hA6]
          have r36 : gA (sA σ4 15 (1300 + n) (nI (a + 1))) 36 = gA σ 36 := by rw [gA_sA, if_neg (by decide), q4, emA_o (by omega), hA6]
          have r12 : gA (sA σ4 15 (1300 + n) (nI (a + 1))) 12 = gA σ4 12 := by rw [gA_sA, if_neg (by decide)]
          have r14 : gA (sA σ4 15 (1300 + n) (nI (a + 1))) 14 = gA σ4 14 := by rw [gA_sA, if_neg (by decide)]
          have hS6 : SQ (gA (sA σ4 15 (1300 + n) (nI (a + 1)))) (a + 1) i c (fun k => Wt (gA σ) i k ∨ k = a) := by
            refine sq_pop hS5 hi0 (fun k hk ⟨hX, hkn⟩ => ?_)
            rcases hX with hX | hX
            · rcases (show k = a ∨ k < a by omega) with z | z
              · exact Or.inr z
              · exact Or.inl (wt_pop (by omega) b2 b1 k z ⟨hX, hkn⟩)
            · exact Or.inr hX
          refine ⟨sq_push hS6 y4 y5 y6 y7 (fun k hk hX => ?_) ⟨⟨fun e0 => absurd (e35.symm.trans e0) (by decide), fun e0 => absurd e0 hi0⟩, Or.inr (Or.inr ⟨e35, a, e36, by omega, by rw [y7 12 (by omega), r12]; exact e12, by rw [y7 14 (by omega), r14]; exact e14⟩)⟩, Or.inr ?_, fun e => absurd e (by omega), ?_, by omega⟩
          · rcases hX with ⟨j, j1, j2, j3⟩ | hX
            · exact wt_up y4 y5 ⟨j, j1, by rw [r35]; exact j2, by rw [r36]; exact j3⟩
            · subst hX
              exact ⟨i, by omega, by rw [e35]; decide, e36⟩
          · rw [y7 12 (by omega), r12, show a + 1 - 1 = a from rfl, e12]; decide
          · rw [if_neg (by omega)]
            omega
      · rw [e] at hk1
        exact absurd hk1 (by decide)
