/-! The reference's parser, piece by piece -/
theorem nI_c {a : Nat} (h : a ≤ 1299) : (1300 : Int32) + nI a = nI (1300 + a) := by
  rw [show (1300 : Int32) = nI 1300 from by decide, nI_add]
theorem nI_cl {a : Nat} (h : a ≤ 1299) : ((1300 : Int32) + nI a).toNatClampNeg = 1300 + a := by
  rw [nI_c h, nI_clamp (by omega)]
theorem nI_t {a : Nat} (h : a < 2 ^ 31) : (nI a).toInt = a := nI_toInt h
theorem e_emit {N : Nat} {σ : St} {a : Nat} {x y z w : Int32} (ha : gI σ 17 = nI a) (h : a ≤ 1299) : ∃ σ', m_emit N σ x y z w = some (nI a, σ') ∧ gA σ' = emA (gA σ) a x y z w ∧ (∀ k, k ≠ 17 → gI σ' k = gI σ k) ∧ gI σ' 17 = nI (a + 1) ∧ σ'.2.2.2 = σ.2.2.2 := by
  unfold m_emit
  rw [ha]
  have hi : ib ((1300 : Int32) + nI a) 2600 = true := ib_m (by rw [nI_c h, nI_t (by omega)]; omega) (by rw [nI_c h, nI_t (by omega)]; omega) (by decide)
  rw [hi, Int32.add_sub_cancel]
  refine ⟨_, rfl, ?_, fun k hk => gI_ne (fun e => hk e.symm), gI_eq.trans (nI_succ a).symm, rfl⟩
  rw [nI_cl h]
  funext j
  simp only [emA, gA, sA, sI]
  by_cases h15 : j = 15
  · subst h15; simp
  · by_cases h14 : j = 14
    · subst h14; simp
    · by_cases h13 : j = 13
      · subst h13; simp
      · by_cases h12 : j = 12
        · subst h12; simp
        · simp [h12, h13, h14, h15]
/-- what belongs to the program that was taken: of each row so many -/
def lim (j : Nat) : Nat := match j with
  | 12 => 1300
  | 13 => 1300
  | 14 => 1300
  | 15 => 1300
  | 16 => 1300
  | 19 => 8
  | 20 => 8
  | 21 => 32
  | 22 => 1
  | 23 => 41
  | 24 => 41
  | 25 => 41
  | 26 => 1
  | 27 => 25
  | 28 => 25
  | 29 => 1
  | 30 => 0
  | 31 => 0
  | 32 => 0
  | 35 => 0
  | 36 => 0
  | 37 => 0
  | _ => 1000000
/-- a reading of a text leaves what was taken before -/
def Bs (σ σ' : St) : Prop := (∀ j i, i < lim j → gA σ' j i = gA σ j i) ∧ (∀ k, (k < 4 ∨ 9 < k) → k ≠ 17 → k ≠ 33 → k ≠ 34 → k ≠ 38 → gI σ' k = gI σ k) ∧ σ'.2.2.2 = σ.2.2.2
theorem bs_rf (σ : St) : Bs σ σ := ⟨fun _ _ _ => rfl, fun _ _ _ _ _ _ => rfl, rfl⟩
theorem bs_tr {σ σ1 σ2 : St} (h : Bs σ σ1) (h2 : Bs σ1 σ2) : Bs σ σ2 := ⟨fun j i hi => (h2.1 j i hi).trans (h.1 j i hi), fun k h1 h3 h4 h5 h6 => (h2.2.1 k h1 h3 h4 h5 h6).trans (h.2.1 k h1 h3 h4 h5 h6), h2.2.2.trans h.2.2⟩
theorem bs_tk {σ σ' : St} (h : Tk σ σ') : Bs σ σ' := ⟨fun j i _ => by rw [h.1], fun k h1 _ _ _ _ => h.2.1 k h1, h.2.2⟩
theorem bs_A {σ σ1 : St} {j i : Nat} {v : Int32} (h : Bs σ σ1) (hi : lim j ≤ i) : Bs σ (sA σ1 j i v) := by
  refine ⟨fun j2 i2 hi2 => ?_, h.2.1, h.2.2⟩
  rw [gA_sA]
  split
  · rename_i e
    subst e
    unfold upd
    rw [if_neg (by omega)]
    exact h.1 _ i2 hi2
  · exact h.1 j2 i2 hi2
theorem bs_I {σ σ1 : St} {k : Nat} {v : Int32} (h : Bs σ σ1) (hk : (4 ≤ k ∧ k ≤ 9) ∨ k = 17 ∨ k = 33 ∨ k = 34 ∨ k = 38) : Bs σ (sI σ1 k v) := ⟨h.1, fun j h1 h2 h3 h4 h5 => (gI_ne (by omega)).trans (h.2.1 j h1 h2 h3 h4 h5), h.2.2⟩
theorem bs_em {σ σ' : St} {a : Nat} {x y z w : Int32} (h : gA σ' = emA (gA σ) a x y z w) (hI : ∀ k, k ≠ 17 → gI σ' k = gI σ k) (h2 : σ'.2.2.2 = σ.2.2.2) : Bs σ σ' := by
  refine ⟨fun j i hi => ?_, fun k _ h1 _ _ _ => hI k h1, h2⟩
  rw [h]
  unfold emA
  split
  · rename_i e; subst e
    have : i < 1300 := hi
    unfold upd; rw [if_neg (by omega)]
  · split
    · rename_i e; subst e
      have : i < 1300 := hi
      unfold upd; rw [if_neg (by omega)]
    · split
      · rename_i e; subst e
        have : i < 1300 := hi
        unfold upd; rw [if_neg (by omega)]
      · split
        · rename_i e; subst e
          have : i < 1300 := hi
          unfold upd; rw [if_neg (by omega)]
        · rfl
/-- and the first routine stays -/
def B2 (σ σ' : St) : Prop := Bs σ σ' ∧ gA σ' 22 = gA σ 22
theorem b2_rf (σ : St) : B2 σ σ := ⟨bs_rf σ, rfl⟩
theorem b2_tr {σ σ1 σ2 : St} (h : B2 σ σ1) (h2 : B2 σ1 σ2) : B2 σ σ2 := ⟨bs_tr h.1 h2.1, h2.2.trans h.2⟩
theorem b2_tk {σ σ' : St} (h : Tk σ σ') : B2 σ σ' := ⟨bs_tk h, h.1 22⟩
theorem b2_A {σ σ1 : St} {j i : Nat} {v : Int32} (h : B2 σ σ1) (hi : lim j ≤ i) (hj : 22 ≠ j := by decide) : B2 σ (sA σ1 j i v) := ⟨bs_A h.1 hi, by rw [gA_sA, if_neg hj]; exact h.2⟩
theorem b2_I {σ σ1 : St} {k : Nat} {v : Int32} (h : B2 σ σ1) (hk : (4 ≤ k ∧ k ≤ 9) ∨ k = 17 ∨ k = 33 ∨ k = 34 ∨ k = 38) : B2 σ (sI σ1 k v) := ⟨bs_I h.1 hk, h.2⟩
theorem b2_em {σ σ' : St} {a : Nat} {x y z w : Int32} (h : gA σ' = emA (gA σ) a x y z w) (hI : ∀ k, k ≠ 17 → gI σ' k = gI σ k) (h2 : σ'.2.2.2 = σ.2.2.2) : B2 σ σ' := ⟨bs_em h hI h2, by rw [h]; exact emA_o (by omega)⟩
/-- places and faults -/
def Gp (σ σ' : St) (d : Int) : Prop := TI σ' ∧ TV σ' ∧ (gI σ 5).toInt ≤ (gI σ' 5).toInt ∧ (gI σ' 8 = 0 → gI σ 8 = 0 ∧ (gI σ 5).toInt + d ≤ (gI σ' 5).toInt)
theorem gp_go {σ σ' : St} {d : Int} (h : Go σ σ' d) : Gp σ σ' d := ⟨h.1, h.2.1, h.2.2.2.1, h.2.2.2.2⟩
theorem gp_tr {σ σ1 σ2 : St} {d d2 : Int} (h : Gp σ σ1 d) (h2 : Gp σ1 σ2 d2) : Gp σ σ2 (d + d2) := by
  obtain ⟨a1, a2, a4, a5⟩ := h
  obtain ⟨b1, b2, b4, b5⟩ := h2
  refine ⟨b1, b2, by omega, fun h => ?_⟩
  have g1 := b5 h
  have g2 := a5 g1.1
  exact ⟨g2.1, by omega⟩
theorem gp_le {σ σ1 : St} {d d2 : Int} (h : Gp σ σ1 d) (hd : d2 ≤ d) : Gp σ σ1 d2 := ⟨h.1, h.2.1, h.2.2.1, fun q => ⟨(h.2.2.2 q).1, by have := (h.2.2.2 q).2; omega⟩⟩
theorem ti_of {σ σ' : St} (he : ∀ k, k < 10 → gI σ' k = gI σ k) (h : TI σ) : TI σ' := by
  unfold TI at h ⊢
  rw [he 3 (by decide), he 4 (by decide), he 5 (by decide)]
  exact h
theorem tv_of {σ σ' : St} (he : ∀ k, k < 10 → gI σ' k = gI σ k) (h : TV σ) : TV σ' := by
  unfold TV at h ⊢
  rw [he 4 (by decide), he 5 (by decide), he 6 (by decide), he 7 (by decide)]
  exact h
theorem gp_pl {σ σ' : St} (he : ∀ k, k < 10 → gI σ' k = gI σ k) (h1 : TI σ) (h2 : TV σ) : Gp σ σ' 0 := ⟨ti_of he h1, tv_of he h2, by rw [he 5 (by decide)]; exact Int.le_refl _, fun e => ⟨by rw [← he 8 (by decide)]; exact e, by rw [he 5 (by decide)]; omega⟩⟩
/-- the counters: acts, blocks, calls, uses, tests -/
def PS (σ : St) (a b c u w : Nat) : Prop := gI σ 17 = nI a ∧ gI σ 38 = nI b ∧ gI σ 33 = nI c ∧ gA σ 26 1 = nI u ∧ gA σ 29 1 = nI w
theorem tk_A {σ σ' : St} (h : Tk σ σ') : gA σ' = gA σ := funext h.1
theorem ps_tk {σ σ' : St} {a b c u w : Nat} (h : Tk σ σ') (hp : PS σ a b c u w) : PS σ' a b c u w := by
  unfold PS at hp ⊢
  rw [h.2.1 17 (by omega), h.2.1 38 (by omega), h.2.1 33 (by omega), h.1, h.1]
  exact hp
/-- emit: all that is wanted of it -/
theorem s_emit {N : Nat} {σ : St} {a b c u w : Nat} {x y z v : Int32} (hT : TI σ) (hV : TV σ) (hP : PS σ a b c u w) (h : a ≤ 1299) : Tot (m_emit N σ x y z v) (fun r σ' => r = nI a ∧ PS σ' (a + 1) b c u w ∧ Gp σ σ' 0 ∧ gA σ' = emA (gA σ) a x y z v ∧ (∀ k, k ≠ 17 → gI σ' k = gI σ k) ∧ σ'.2.2.2 = σ.2.2.2) := by
  obtain ⟨p1, p2, p3, p4, p5⟩ := hP
  obtain ⟨σ', e, h1, h2, h3, h4⟩ := e_emit (N := N) (x := x) (y := y) (z := z) (w := v) p1 h
  refine ⟨_, σ', e, rfl, ⟨h3, ?_, ?_, ?_, ?_⟩, gp_pl (fun k hk => h2 k (by omega)) hT hV, h1, h2, h4⟩
  · rw [h2 38 (by decide)]; exact p2
  · rw [h2 33 (by decide)]; exact p3
  · rw [h1, emA_o (by omega)]; exact p4
  · rw [h1, emA_o (by omega)]; exact p5
theorem ib12 : ib 1 2 = true := by decide
theorem c1 : (1 : Int32).toNatClampNeg = 1 := by decide
theorem ib41 {k u m n : Nat} (h : k + u < n) (hn : n < 2 ^ 31) (hk : nI k + nI u = nI (k + u)) : ib (nI k + nI u) n = true := by
  rw [hk]
  exact ib_m (by rw [nI_t (by omega)]; omega) (by rw [nI_t (by omega)]; omega) hn
theorem s_newUse {N : Nat} {σ : St} {a b c u w : Nat} {v p : Int32} (hT : TI σ) (hV : TV σ) (hP : PS σ a b c u w) (hu : u ≤ 40) : Tot (m_newUse N σ v p) (fun r σ' => ∃ u', u' ≤ 40 ∧ PS σ' a b c u' w ∧ Gp σ σ' 0 ∧ (∀ k, 9 < k → gI σ' k = gI σ k) ∧ (∀ k, 4 ≤ k → k < 8 → gI σ' k = gI σ k) ∧ (∀ j, (j < 23 ∨ 26 < j) → gA σ' j = gA σ j) ∧ (gI σ' 8 = 0 → ∃ m : Nat, r = nI m ∧ m < 40) ∧ B2 σ σ') := by
  obtain ⟨p1, p2, p3, p4, p5⟩ := id hP
  have key : ∀ σ2 : St, TI σ2 → TV σ2 → PS σ2 a b c u w → Gp σ σ2 0 → (∀ k, 9 < k → gI σ2 k = gI σ k) → (∀ k, 4 ≤ k → k < 8 → gI σ2 k = gI σ k) → (∀ j, gA σ2 j = gA σ j) → B2 σ σ2 → (gI σ2 8 = 0 → u ≤ 39) → Tot (m_newUse_17 N σ2 v p) (fun r σ' => ∃ u', u' ≤ 40 ∧ PS σ' a b c u' w ∧ Gp σ σ' 0 ∧ (∀ k, 9 < k → gI σ' k = gI σ k) ∧ (∀ k, 4 ≤ k → k < 8 → gI σ' k = gI σ k) ∧ (∀ j, (j < 23 ∨ 26 < j) → gA σ' j = gA σ j) ∧ (gI σ' 8 = 0 → ∃ m : Nat, r = nI m ∧ m < 40) ∧ B2 σ σ') := by
    intro σ2 hT2 hV2 hP2 hG hI hI2 hA hBs hu2
    obtain ⟨q1, q2, q3, q4, q5⟩ := id hP2
    unfold m_newUse_17
    refine tot_if (fun h0 => ?_) (fun h0 => tot_some ⟨u, hu, hP2, hG, hI, hI2, fun j _ => hA j, fun e => absurd e h0, hBs⟩)
    have hu3 := hu2 h0
    have hc : gA σ2 26 ((1 : Int32).toNatClampNeg) = nI u := by rw [c1]; exact q4
    have e41 : (41 : Int32) + nI u = nI (41 + u) := by rw [show (41 : Int32) = nI 41 from by decide, nI_add]
    have hi : ib ((41 : Int32) + nI u) 82 = true := by
      rw [e41]
      exact ib_m (by rw [nI_t (by omega)]; omega) (by rw [nI_t (by omega)]; omega) (by decide)
    rw [hc, hi]
    refine tot_gd ib12 (tot_gd rfl (tot_gd rfl (tot_gd rfl (tot_gd ib12 (tot_gd ib12 (tot_gd ib12 (tot_some ?_)))))))
    refine ⟨u + 1, by omega, ⟨q1, q2, q3, ?_, ?_⟩, hG, hI, hI2, fun j hj => ?_, fun _ => ⟨u, ?_, by omega⟩, ?_⟩
    · rw [gA_sA, if_pos rfl, c1]
      unfold upd
      rw [if_pos rfl]
      exact (nI_succ u).symm
    · rw [gA_sA, if_neg (by decide), gA_sA, if_neg (by decide), gA_sA, if_neg (by decide), gA_sA, if_neg (by decide)]
      exact q5
    · rw [gA_sA, if_neg (by omega), gA_sA, if_neg (by omega), gA_sA, if_neg (by omega), gA_sA, if_neg (by omega)]
      exact hA j
    · rw [gA_sA, if_pos rfl]
      unfold upd
      rw [if_pos rfl]
      exact Int32.add_sub_cancel (nI u) 1
    · have hx : ((41 : Int32) + nI u).toNatClampNeg = 41 + u := by rw [e41]; exact nI_clamp (by omega)
      exact b2_A (b2_A (b2_A (b2_A hBs (by rw [hx]; show 41 ≤ 41 + u; omega)) (by rw [hx]; show 41 ≤ 41 + u; omega)) (by rw [hx]; show 41 ≤ 41 + u; omega)) (by rw [c1]; decide)
  unfold m_newUse
  refine tot_gd ib12 ?_
  rw [c1, p4]
  refine tot_if (fun h => ?_) (fun h => key σ hT hV hP (gp_pl (fun _ _ => rfl) hT hV) (fun _ _ => rfl) (fun _ _ _ => rfl) (fun _ => rfl) (b2_rf σ) (fun _ => ?_))
  · refine tot_bd (s_wrong hT hV (by decide)) (fun _ σ2 hp => ?_)
    obtain ⟨hg, hf, -, h7⟩ := hp
    exact key σ2 hg.1 hg.2.1 (ps_tk hg.2.2.1 hP) ⟨hg.1, hg.2.1, hg.2.2.2.1, fun e => absurd e hf⟩ (fun k hk => hg.2.2.1.2.1 k (by omega)) (fun k _ hk => h7 k hk) hg.2.2.1.1 (b2_tk hg.2.2.1) (fun e => absurd e hf)
  · rcases (show u = 40 ∨ u ≤ 39 by omega) with q | q
    · subst q
      exact absurd (by decide) h
    · exact q
