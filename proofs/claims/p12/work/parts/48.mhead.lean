theorem sq_par {A A2 : Ar} {a b c l : Nat} {X : Nat → Prop} (h : SQ A a b c X) (h19 : A 19 (8 + l) = -1) (h20 : ∀ j, j ≠ 8 + l → A2 20 j = A 20 j) (h21 : ∀ j, (j < 32 + 4 * l ∨ 32 + 4 * l + 3 < j) → A2 21 j = A 21 j) (ho : ∀ j, j ≠ 20 → j ≠ 21 → A2 j = A j) : SQ A2 a b c X := by
  obtain ⟨g1, g2, g3, g4, g5, g6⟩ := h
  have o12 := ho 12 (by decide) (by decide)
  refine ⟨?_, fun i hi => ?_, fun r hr => ?_, ?_, ?_, ?_⟩
  · rw [o12, ho 13 (by decide) (by decide), ho 14 (by decide) (by decide), ho 15 (by decide) (by decide)]; exact g1
  · have hv := g2 i hi
    simp only [blkV, ho 35 (by decide) (by decide), ho 36 (by decide) (by decide), ho 37 (by decide) (by decide), o12, ho 14 (by decide) (by decide)] at hv ⊢
    exact hv
  · have hv := g3 r hr
    unfold rtV at hv ⊢
    rw [ho 19 (by decide) (by decide), o12]
    by_cases hrl : r = l
    · subst hrl
      exact Or.inl h19
    · rw [h20 (8 + r) (by omega)]
      refine hv.imp id (fun ⟨q1, q2, q3, q4⟩ => ⟨q1, q2, q3, fun k hk => ?_⟩)
      rw [h21 _ (by omega)]
      exact q4 k hk
  · rw [o12, ho 13 (by decide) (by decide), ho 14 (by decide) (by decide), ho 31 (by decide) (by decide), ho 32 (by decide) (by decide)]; exact g4
  · rw [ho 31 (by decide) (by decide)]; exact g5
  · rw [ho 22 (by decide) (by decide), ho 19 (by decide) (by decide)]; exact g6
/-- no act waits -/
def X0 : Nat → Prop := fun _ => False
/-- the head of routine l so far: m parameters -/
def HV (A : Ar) (a c l m : Nat) : Prop := SQ A a 0 c X0 ∧ A 19 (8 + l) = -1 ∧ ∀ k, k < m → 0 ≤ (A 21 (32 + 4 * l + k)).toInt ∧ (A 21 (32 + 4 * l + k)).toInt ≤ 25
/-- what head() leaves -/
def HD (a c u w : Nat) (σ σ' : St) (d : Int) : Prop := Bs σ σ' ∧ ∃ b', b' ≤ 6 ∧ PS σ' a b' c u w ∧ TI σ' ∧ TV σ' ∧ (gI σ' 8 = 0 → b' = 1 ∧ SQ (gA σ') a 1 c (Wt (gA σ') 1) ∧ Bn (gA σ') a ∧ (gI σ 5).toInt + d ≤ (gI σ' 5).toInt ∧ ¬ gA σ' 22 1 = -1)
theorem ib16 {l : Nat} (h : l ≤ 7) : ib (nI (8 + l)) 16 = true := ib_m (by rw [nI_t (by omega)]; omega) (by rw [nI_t (by omega)]; omega) (by decide)
theorem m1_ne {a : Nat} (h : a < 2 ^ 31) : ¬ nI a = -1 := fun e => by
  have h1 := nI_t h
  rw [e] at h1
  have h2 : (-1 : Int32).toInt = -1 := by decide
  omega
/-- the routine is told -/
theorem sq_told {A A2 : Ar} {a c l m : Nat} {X : Nat → Prop} (h : SQ A a 1 c X) (ha : a < 2 ^ 31) (hl : l ≤ 7) (hm : m ≤ 4) (h20 : A 20 (8 + l) = nI m) (hn : ∀ k, k < m → 0 ≤ (A 21 (32 + 4 * l + k)).toInt ∧ (A 21 (32 + 4 * l + k)).toInt ≤ 25) (hB : Bn A a) (h19 : A2 19 = upd (A 19) (8 + l) (nI a)) (h22 : (A 22 1 = -1 ∧ A2 22 1 = nI l) ∨ (¬ A 22 1 = -1 ∧ A2 22 1 = A 22 1)) (ho : ∀ j, j ≠ 19 → j ≠ 22 → A2 j = A j) : SQ A2 a 1 c X := by
  obtain ⟨g1, g2, g3, g4, g5, g6⟩ := h
  have o12 := ho 12 (by decide) (by decide)
  refine ⟨?_, fun i hi => ?_, fun r hr => ?_, ?_, ?_, Or.inr ?_⟩
  · rw [o12, ho 13 (by decide) (by decide), ho 14 (by decide) (by decide), ho 15 (by decide) (by decide)]; exact g1
  · have hv := g2 i hi
    simp only [blkV, ho 35 (by decide) (by decide), ho 36 (by decide) (by decide), ho 37 (by decide) (by decide), o12, ho 14 (by decide) (by decide)] at hv ⊢
    exact hv
  · have hv := g3 r hr
    unfold rtV at hv ⊢
    rw [h19, o12, ho 20 (by decide) (by decide), ho 21 (by decide) (by decide)]
    by_cases hrl : r = l
    · subst hrl
      rw [upd_eq, h20, nI_t (by omega)]
      exact Or.inr ⟨⟨a, rfl, Nat.le_refl a, fun e => absurd e (by decide), hB⟩, by omega, by omega, fun k hk => hn k (by omega)⟩
    · rw [upd_ne (by omega)]
      exact hv
  · rw [o12, ho 13 (by decide) (by decide), ho 14 (by decide) (by decide), ho 31 (by decide) (by decide), ho 32 (by decide) (by decide)]; exact g4
  · rw [ho 31 (by decide) (by decide)]; exact g5
  · rcases h22 with ⟨e1, e2⟩ | ⟨e1, e2⟩
    · exact ⟨l, by omega, e2, by rw [h19, upd_eq]; exact m1_ne ha⟩
    · rcases g6 with ⟨q, -⟩ | ⟨r, r1, r2, r3⟩
      · exact absurd q e1
      · refine ⟨r, r1, e2.trans r2, ?_⟩
        rw [h19]
        by_cases hrl : r = l
        · subst hrl
          rw [upd_eq]
          exact m1_ne ha
        · rw [upd_ne (by omega)]
          exact r3
theorem s_head_224 {N : Nat} (hN : 8589934592 ≤ N) {σ : St} {a c u w l m : Nat} (hl : l ≤ 7) (hm : m ≤ 4) (hT : TI σ) (hV : TV σ) (hP : PS σ a 0 c u w) (h34 : gI σ 34 = nI l) (h20 : gA σ 20 (8 + l) = nI m) (hH : gI σ 8 = 0 → HV (gA σ) a c l m) (hB : gI σ 8 = 0 → Bn (gA σ) a) (ha : a ≤ 1290) : Tot (m_head_224 N σ (nI (8 + l))) (fun _ σ' => HD a c u w σ σ' 2 ∧ (gI σ' 8 = 0 → gI σ 8 = 0)) := by
  unfold m_head_224
  refine tot_bd (s_wants hN hT hV) (fun _ σ6 hg6 => ?_)
  have hk6 := hg6.2.2.1
  refine tot_bd (s_opens0 hN hg6.1 hg6.2.1 (ps_tk hk6 hP) (by omega)) (fun _ σ8 q => ?_)
  obtain ⟨⟨zG, zO, zB⟩, z34⟩ := q
  have hB8 : Bs σ σ8 := bs_tr (bs_tk hk6) zB.1
  have hG8 := gp_tr (gp_go hg6) zG
  have hcl : (nI (8 + l)).toNatClampNeg = 8 + l := nI_clamp (by omega)
  have h348 : gI σ8 34 = nI l := z34.trans ((hk6.2.1 34 (by omega)).trans h34)
  -- the two ends
  have fin : ∀ σ9 : St, (∀ k, gI σ9 k = gI σ8 k) → gA σ9 19 = upd (gA σ8 19) (8 + l) (nI a) → (∀ j, j ≠ 19 → j ≠ 22 → gA σ9 j = gA σ8 j) → ((gA σ8 22 1 = -1 ∧ gA σ9 22 1 = nI l) ∨ (¬ gA σ8 22 1 = -1 ∧ gA σ9 22 1 = gA σ8 22 1)) → Bs σ σ9 → HD a c u w σ σ9 2 ∧ (gI σ9 8 = 0 → gI σ 8 = 0) := by
    intro σ9 hI h19 ho h22 hB9
    have hT9 : TI σ9 := ti_of (fun k _ => hI k) zG.1
    have hV9 : TV σ9 := tv_of (fun k _ => hI k) zG.2.1
    have hps : ∀ b', PS σ8 a b' c u w → PS σ9 a b' c u w := fun b' ⟨p1, p2, p3, p4, p5⟩ => ⟨by rw [hI]; exact p1, by rw [hI]; exact p2, by rw [hI]; exact p3, by rw [ho 26 (by decide) (by decide)]; exact p4, by rw [ho 29 (by decide) (by decide)]; exact p5⟩
    refine ⟨⟨hB9, ?_⟩, fun e => by rw [hI] at e; exact (hG8.2.2.2 e).1⟩
    rcases zO with ⟨y1, y2, y3⟩ | ⟨y1, y2, y3, y4, y5, y6, y7⟩
    · exact ⟨0, by omega, hps 0 y2, hT9, hV9, fun e => by rw [hI] at e; exact absurd e y1⟩
    · refine ⟨1, by omega, hps 1 y3, hT9, hV9, fun e => ?_⟩
      rw [hI] at e
      have u8 := hG8.2.2.2 e
      obtain ⟨v1, v2, v3⟩ := hH u8.1
      have hA6 := tk_A hk6
      have e35 : gA σ8 35 0 = 0 := by rw [y4, upd_eq]
      have hS8 : SQ (gA σ8) a 1 c (Wt (gA σ8) 1) := sq_push (A := gA σ6) (by rw [hA6]; exact v1) y4 y5 y6 y7 (fun _ _ hX => absurd hX id) ⟨⟨fun _ => rfl, fun _ => e35⟩, Or.inl e35⟩
      have hBn8 : Bn (gA σ8) a := by
        unfold Bn
        rw [y7 12 (by omega), hA6]
        exact hB u8.1
      have hS9 := sq_told hS8 (by omega) hl hm (by rw [y7 20 (by omega), hA6]; exact h20) (fun k hk => by rw [y7 21 (by omega), hA6]; exact v3 k hk) hBn8 h19 h22 ho
      have hw : Wt (gA σ9) 1 = Wt (gA σ8) 1 := by unfold Wt; rw [ho 35 (by decide) (by decide), ho 36 (by decide) (by decide)]
      refine ⟨rfl, by rw [hw]; exact hS9, ?_, by rw [hI]; omega, ?_⟩
      rotate_left
      · rcases h22 with ⟨-, q⟩ | ⟨q1, q⟩
        · rw [q]; exact m1_ne (by omega)
        · rw [q]; exact q1
      unfold Bn
      rw [ho 12 (by decide) (by decide)]
      exact hBn8
  have h17 : gI σ8 17 = nI a := by
    rcases zO with ⟨-, y2, -⟩ | ⟨-, -, y3, -⟩
    · exact y2.1
    · exact y3.1
  rw [hcl, ib16 hl, c1, h17, h348]
  refine tot_gd rfl (tot_gd ib12 (tot_if (fun h22 => tot_gd ib12 (tot_some (fin _ (fun _ => rfl) ?_ ?_ (Or.inl ⟨h22, ?_⟩) (bs_A (bs_A hB8 (by show 8 ≤ 8 + l; omega)) (by decide))))) (fun h22 => tot_some (fin _ (fun _ => rfl) ?_ ?_ (Or.inr ⟨h22, ?_⟩) (bs_A hB8 (by show 8 ≤ 8 + l; omega))))))
  · rw [gA_sA, if_neg (by decide), gA_sA, if_pos rfl]
  · intro j h1 h2
    rw [gA_sA, if_neg h2, gA_sA, if_neg h1]
  · rw [gA_sA, if_pos rfl, upd_eq]
  · rw [gA_sA, if_pos rfl]
  · intro j h1 h2
    rw [gA_sA, if_neg h1]
  · rw [gA_sA, if_neg (by decide)]
/-- what the loop over the parameters stands on -/
def HS (σ : St) (a c u w l m : Nat) : Prop := TI σ ∧ TV σ ∧ PS σ a 0 c u w ∧ gI σ 34 = nI l ∧ gA σ 20 (8 + l) = nI m ∧ (gI σ 8 = 0 → HV (gA σ) a c l m ∧ Bn (gA σ) a)
theorem hs_tk {σ σ' : St} {a c u w l m : Nat} (h : HS σ a c u w l m) (hT : TI σ') (hV : TV σ') (hk : Tk σ σ') (hf : gI σ' 8 = 0 → gI σ 8 = 0) : HS σ' a c u w l m := by
  obtain ⟨h1, h2, h3, h4, h5, h6⟩ := h
  exact ⟨hT, hV, ps_tk hk h3, (hk.2.1 34 (by omega)).trans h4, by rw [hk.1]; exact h5, fun e => by rw [tk_A hk]; exact h6 (hf e)⟩
theorem s_head_81 {N : Nat} (hN : 8589934592 ≤ N) {a c u w l : Nat} (hl : l ≤ 7) (ha : a ≤ 1290) : ∀ (n : Nat) (σ : St) (x3 : Int32) (m : Nat), m ≤ 4 → HS σ a c u w l m → ((gI σ 8 = 0 ∧ (1203 - (gI σ 5).toInt).toNat < n) ∨ (¬ gI σ 8 = 0 ∧ 0 < n)) → Tot (m_head_81 N n σ (nI (8 + l)) x3) (fun _ σ' => HD a c u w σ σ' 2 ∧ (gI σ' 8 = 0 → gI σ 8 = 0)) := by
  intro n
  induction n with
  | zero => intro σ x3 m hm hH hn; rcases hn with ⟨-, h⟩ | ⟨-, h⟩ <;> exact absurd h (Nat.not_lt_zero _)
  | succ n ih =>
    intro σ x3 m hm hH hn
    obtain ⟨hT, hV, hP, h34, h20, hV6⟩ := id hH
    show Tot (m_head_81_b N (m_head_81 N n) σ (nI (8 + l)) x3) _
    have hend : Tot (m_head_224 N σ (nI (8 + l))) (fun _ σ' => HD a c u w σ σ' 2 ∧ (gI σ' 8 = 0 → gI σ 8 = 0)) := s_head_224 hN hl hm hT hV hP h34 h20 (fun e => (hV6 e).1) (fun e => (hV6 e).2) ha
    have hcl : (nI (8 + l)).toNatClampNeg = 8 + l := nI_clamp (by omega)
    unfold m_head_81_b
    refine tot_if (fun _ => hend) (fun _ => tot_if (fun h8 => ?_) (fun _ => hend))
    have hn1 : (1203 - (gI σ 5).toInt).toNat < n + 1 := by
      rcases hn with ⟨-, h⟩ | ⟨h, -⟩
      · exact h
      · exact absurd h8 h
    have tp := hT.2.2
    have tp2 := hT.2.1
    have h122 : ∀ (σ2 : St) (x4 : Int32), Go σ σ2 0 → (gI σ2 8 = 0 → σ2 = σ ∧ (gI σ 6 = 0 → m ≤ 3)) → Tot (m_head_122 N (m_head_81 N n) σ2 (nI (8 + l)) x4) (fun _ σ' => HD a c u w σ σ' 2 ∧ (gI σ' 8 = 0 → gI σ 8 = 0)) := by
      intro σ2 x4 hg2 hq
      unfold m_head_122
      refine tot_bd (s_taken hN hg2.1 hg2.2.1 (Or.inl rfl)) (fun r9 σ10 hp => ?_)
      have hg10 := go_tr hg2 hp.1
      have hm3 : gI σ10 8 = 0 → m ≤ 3 := by
        intro e
        obtain ⟨rfl, h3⟩ := hq (hp.1.2.2.2.2 e).1
        exact h3 (hp.2.2.2.2 e).1
      -- the end of the inner loop
      have h179 : ∀ σ12 : St, Go σ σ12 0 → (gI σ12 8 = 0 → (gI σ 5).toInt + 1 ≤ (gI σ12 5).toInt ∧ m ≤ 3) → Tot (m_head_179 N (m_head_81 N n) σ12 (nI (8 + l)) r9) (fun _ σ' => HD a c u w σ σ' 2 ∧ (gI σ' 8 = 0 → gI σ 8 = 0)) := by
        intro σ12 hg12 hpl
        have hk12 := hg12.2.2.1
        have hH12 := hs_tk hH hg12.1 hg12.2.1 hk12 (fun _ => h8)
        obtain ⟨t1, t2, t3, t4, t5, t6⟩ := id hH12
        unfold m_head_179
        rw [hcl, t5, ib16 hl]
        refine tot_if (fun e12 => ?_) (fun e12 => tot_some ⟨⟨bs_tk hk12, 0, by omega, t3, t1, t2, fun e => absurd e e12⟩, fun e => absurd e e12⟩)
        obtain ⟨hpl1, hm3⟩ := hpl e12
        have ei : (4 : Int32) * nI (8 + l) + nI m = nI (32 + 4 * l + m) := by
          rcases (show l = 0 ∨ l = 1 ∨ l = 2 ∨ l = 3 ∨ l = 4 ∨ l = 5 ∨ l = 6 ∨ l = 7 by omega) with rfl | rfl | rfl | rfl | rfl | rfl | rfl | rfl <;> (rcases (show m = 0 ∨ m = 1 ∨ m = 2 ∨ m = 3 by omega) with rfl | rfl | rfl | rfl <;> decide)
        have hi : ib (nI (32 + 4 * l + m)) 64 = true := ib_m (by rw [nI_t (by omega)]; omega) (by rw [nI_t (by omega)]; omega) (by decide)
        rw [ei, hi, nI_clamp (show 32 + 4 * l + m < 2 ^ 31 by omega)]
        refine tot_gd rfl (tot_gd rfl (tot_gd rfl (tot_gd rfl ?_)))
        obtain ⟨σ13, e13⟩ : ∃ z, z = sA (sA σ12 21 (32 + 4 * l + m) r9) 20 (8 + l) (nI m + 1) := ⟨_, rfl⟩
        rw [← e13]
        have g13 : ∀ k, gI σ13 k = gI σ12 k := fun k => by rw [e13]; rfl
        have a20 : gA σ13 20 = upd (gA σ12 20) (8 + l) (nI m + 1) := by rw [e13, gA_sA, if_pos rfl, gA_sA, if_neg (by decide)]
        have a21 : gA σ13 21 = upd (gA σ12 21) (32 + 4 * l + m) r9 := by rw [e13, gA_sA, if_neg (by decide), gA_sA, if_pos rfl]
        have ao : ∀ j, j ≠ 20 → j ≠ 21 → gA σ13 j = gA σ12 j := fun j h1 h2 => by rw [e13, gA_sA, if_neg h1, gA_sA, if_neg h2]
        have hB13 : Bs σ σ13 := by rw [e13]; exact bs_A (bs_A (bs_tk hk12) (by show 32 ≤ 32 + 4 * l + m; omega)) (by show 8 ≤ 8 + l; omega)
        have hT13 : TI σ13 := ti_of (fun k _ => g13 k) t1
        have hV13 : TV σ13 := tv_of (fun k _ => g13 k) t2
        have hH13 : HS σ13 a c u w l (m + 1) := by
          refine ⟨hT13, hV13, ⟨by rw [g13]; exact t3.1, by rw [g13]; exact t3.2.1, by rw [g13]; exact t3.2.2.1, by rw [ao 26 (by decide) (by decide)]; exact t3.2.2.2.1, by rw [ao 29 (by decide) (by decide)]; exact t3.2.2.2.2⟩, by rw [g13]; exact t4, by rw [a20, upd_eq]; exact (nI_succ m).symm, fun e => ?_⟩
          obtain ⟨⟨v1, v2, v3⟩, v4⟩ := t6 e12
          refine ⟨⟨sq_par (l := l) v1 v2 (fun j hj => by rw [a20]; exact upd_ne hj) (fun j hj => by rw [a21]; exact upd_ne (by omega)) ao, by rw [ao 19 (by decide) (by decide)]; exact v2, fun k hk => ?_⟩, ?_⟩
          · rw [a21]
            rcases (show k = m ∨ k < m by omega) with z | z
            · subst z
              rw [upd_eq]
              exact ⟨hp.2.1, hp.2.2.1 rfl⟩
            · rw [upd_ne (by omega)]
              exact v3 k z
          · unfold Bn
            rw [ao 12 (by decide) (by decide)]
            exact v4
        refine tot_bd (s_takesSign hN hT13 hV13) (fun r11 σ14 hq14 => ?_)
        have hg14 : Go σ13 σ14 0 ∧ (gI σ14 8 = 0 → gI σ13 8 = 0) := by
          rcases hq14 with ⟨-, e, -⟩ | ⟨-, hg, -, -⟩
          · rw [e]; exact ⟨go_rf hT13 hV13, id⟩
          · exact ⟨go_le hg (by decide), fun e => (hg.2.2.2.2 e).1⟩
        have pl14 : (gI σ 5).toInt + 1 ≤ (gI σ14 5).toInt := by
          have h1 := hg14.1.2.2.2.1
          rw [g13] at h1
          omega
        have hx := ih σ14 r11 (m + 1) (by omega) (hs_tk hH13 hg14.1.1 hg14.1.2.1 hg14.1.2.2.1 hg14.2) (by
          by_cases e : gI σ14 8 = 0
          · exact Or.inl ⟨e, by omega⟩
          · exact Or.inr ⟨e, by omega⟩)
        refine hx.mono (fun _ σ' q => ⟨?_, fun _ => h8⟩)
        obtain ⟨q0, b', q1, q2, q3, q4, q5⟩ := q.1
        exact ⟨bs_tr (bs_tr hB13 (bs_tk hg14.1.2.2.1)) q0, b', q1, q2, q3, q4, fun e => ⟨(q5 e).1, (q5 e).2.1, (q5 e).2.2.1, by have := (q5 e).2.2.2.1; omega, (q5 e).2.2.2.2⟩⟩
      -- the inner loop
      have h132 : ∀ (n2 : Nat) (σ12 : St) (k : Nat), k ≤ m → Go σ σ12 0 → (gI σ12 8 = 0 → (gI σ 5).toInt + 1 ≤ (gI σ12 5).toInt ∧ m ≤ 3) → 5 - k < n2 → Tot (m_head_132 N (m_head_81 N n) n2 σ12 (nI (8 + l)) x4 r9 (nI k)) (fun _ σ' => HD a c u w σ σ' 2 ∧ (gI σ' 8 = 0 → gI σ 8 = 0)) := by
        intro n2
        induction n2 with
        | zero => intro σ12 k _ _ _ h; exact absurd h (Nat.not_lt_zero _)
        | succ n2 ih2 =>
          intro σ12 k hk hg12 hpl h5
          show Tot (m_head_132_b N (m_head_81 N n) (m_head_132 N (m_head_81 N n) n2) σ12 (nI (8 + l)) x4 r9 (nI k)) _
          have hk12 := hg12.2.2.1
          have t5 : gA σ12 20 (8 + l) = nI m := by rw [hk12.1]; exact h20
          unfold m_head_132_b m_head_173
          rw [hcl, t5, ib16 hl]
          refine tot_gd rfl (tot_if (fun _ => h179 σ12 hg12 hpl) (fun hle => tot_if (fun e12 => ?_) (fun _ => h179 σ12 hg12 hpl)))
          have hkm : k < m := by
            rcases (show k = m ∨ k < m by omega) with z | z
            · subst z
              exact absurd (Int32.le_refl _) hle
            · exact z
          have ei : (4 : Int32) * nI (8 + l) + nI k = nI (32 + 4 * l + k) := by
            rcases (show l = 0 ∨ l = 1 ∨ l = 2 ∨ l = 3 ∨ l = 4 ∨ l = 5 ∨ l = 6 ∨ l = 7 by omega) with rfl | rfl | rfl | rfl | rfl | rfl | rfl | rfl <;> (rcases (show k = 0 ∨ k = 1 ∨ k = 2 ∨ k = 3 by omega) with rfl | rfl | rfl | rfl <;> decide)
          have hi : ib (nI (32 + 4 * l + k)) 64 = true := ib_m (by rw [nI_t (by omega)]; omega) (by rw [nI_t (by omega)]; omega) (by decide)
          rw [ei, hi, ← nI_succ k]
          refine tot_gd rfl (tot_if (fun _ => ?_) (fun _ => ih2 σ12 (k + 1) (by omega) hg12 hpl (by omega)))
          refine tot_bd (s_wrong hg12.1 hg12.2.1 (by decide)) (fun _ σ14 hp14 => ?_)
          exact ih2 σ14 (k + 1) (by omega) (go_le (go_tr hg12 (go_le hp14.1 (d2 := 0) (by decide))) (by decide)) (fun e => absurd e hp14.2.1) (by omega)
      exact h132 N σ10 0 (by omega) (go_le hg10 (by decide)) (fun e => ⟨by have := (hg10.2.2.2.2 e).2; omega, hm3 e⟩) (by omega)
    refine tot_if (fun h6 => ?_) (fun h6 => h122 σ _ (go_rf hT hV) (fun _ => ⟨rfl, fun e => absurd e h6⟩))
    rw [hcl, h20, ib16 hl]
    refine tot_gd rfl (tot_if (fun h4 => ?_) (fun h4 => h122 σ _ (go_rf hT hV) (fun _ => ⟨rfl, fun _ => ?_⟩)))
    · refine tot_bd (s_wrong hT hV (by decide)) (fun _ σ16 hp => ?_)
      exact h122 σ16 _ (go_le hp.1 (by decide)) (fun e => absurd e hp.2.1)
    · rcases (show m = 4 ∨ m ≤ 3 by omega) with q | q
      · subst q
        exact absurd (by decide) h4
      · exact q
theorem nI_of7 {x : Int32} (h0 : 0 ≤ x.toInt) (h1 : x.toInt ≤ 7) : ∃ l : Nat, l ≤ 7 ∧ x = nI l := by
  obtain ⟨n, hn⟩ := Int.eq_ofNat_of_zero_le h0
  refine ⟨n, by omega, Int32.toInt_inj.mp ?_⟩
  rw [nI_t (by omega)]
  exact hn
theorem s_head {N : Nat} (hN : 8589934592 ≤ N) {σ : St} {a c u w : Nat} (ha : a ≤ 1290) (hT : TI σ) (hV : TV σ) (hP : PS σ a 0 c u w) (h8 : gI σ 8 = 0) (hS : SQ (gA σ) a 0 c X0) (hB : Bn (gA σ) a) : Tot (m_head N σ) (fun _ σ' => HD a c u w σ σ' 4) := by
  unfold m_head
  refine tot_bd (s_taken hN hT hV (Or.inr rfl)) (fun r1 σ2 hp => ?_)
  have hk2 := hp.1.2.2.1
  have hP2 := ps_tk hk2 hP
  refine tot_if (fun e2 => ?_) (fun e2 => tot_some ⟨bs_I (bs_tk hk2) (by omega), 0, by omega, ⟨(gI_ne (by decide)).trans hP2.1, (gI_ne (by decide)).trans hP2.2.1, (gI_ne (by decide)).trans hP2.2.2.1, hP2.2.2.2.1, hP2.2.2.2.2⟩, hp.1.1, hp.1.2.1, fun e => absurd e e2⟩)
  obtain ⟨l, hl, rfl⟩ := nI_of7 hp.2.1 (hp.2.2.2.1 rfl)
  have e8l : (8 : Int32) + nI l = nI (8 + l) := by rw [show (8 : Int32) = nI 8 from by decide, nI_add]
  have hcl : (nI (8 + l)).toNatClampNeg = 8 + l := nI_clamp (by omega)
  rw [e8l, ib16 hl, hcl]
  refine tot_gd rfl ?_
  have hA2 := tk_A hk2
  have pl2 := (hp.1.2.2.2.2 e2).2
  have h46 : ∀ σ3 : St, TI σ3 → TV σ3 → PS σ3 a 0 c u w → gI σ3 34 = nI l → gA σ3 = gA σ → (gI σ 5).toInt + 1 ≤ (gI σ3 5).toInt → (gI σ3 8 = 0 → gA σ 19 (8 + l) = -1) → Bs σ σ3 → Tot (m_head_46 N σ3 (nI (8 + l))) (fun _ σ' => HD a c u w σ σ' 4) := by
    intro σ3 hT3 hV3 hP3 h34 hA3 pl3 h19 hB3
    unfold m_head_46
    refine tot_bd (s_wants hN hT3 hV3) (fun _ σ4 hg4 => ?_)
    have hk4 := hg4.2.2.1
    have hA4 : gA σ4 = gA σ := (tk_A hk4).trans hA3
    rw [ib16 hl, hcl]
    refine tot_gd rfl ?_
    obtain ⟨σ5, e5⟩ : ∃ z, z = sA σ4 20 (8 + l) 0 := ⟨_, rfl⟩
    rw [← e5]
    have g5 : ∀ k, gI σ5 k = gI σ4 k := fun k => by rw [e5]; rfl
    have a20 : gA σ5 20 = upd (gA σ 20) (8 + l) 0 := by rw [e5, gA_sA, if_pos rfl, hA4]
    have ao : ∀ j, j ≠ 20 → gA σ5 j = gA σ j := fun j hj => by rw [e5, gA_sA, if_neg hj, hA4]
    have hP4 := ps_tk hk4 hP3
    have hB5 : Bs σ σ5 := by rw [e5]; exact bs_A (bs_tr hB3 (bs_tk hk4)) (by show 8 ≤ 8 + l; omega)
    have hT5 : TI σ5 := ti_of (fun k _ => g5 k) hg4.1
    have hV5 : TV σ5 := tv_of (fun k _ => g5 k) hg4.2.1
    have hH5 : HS σ5 a c u w l 0 := by
      refine ⟨hT5, hV5, ⟨by rw [g5]; exact hP4.1, by rw [g5]; exact hP4.2.1, by rw [g5]; exact hP4.2.2.1, by rw [ao 26 (by decide), ← hA4]; exact hP4.2.2.2.1, by rw [ao 29 (by decide), ← hA4]; exact hP4.2.2.2.2⟩, by rw [g5]; exact (hk4.2.1 34 (by omega)).trans h34, by rw [a20, upd_eq]; decide, fun e => ?_⟩
      rw [g5] at e
      have e19 := h19 (hg4.2.2.2.2 e).1
      refine ⟨⟨sq_par (l := l) hS e19 (fun j hj => by rw [a20]; exact upd_ne hj) (fun j _ => by rw [ao 21 (by decide)]) (fun j h1 _ => ao j h1), by rw [ao 19 (by decide)]; exact e19, fun k hk => absurd hk (by omega)⟩, ?_⟩
      unfold Bn
      rw [ao 12 (by decide)]
      exact hB
    have tp := hT5.2.2
    have tp2 := hT5.2.1
    have tp3 := hT5.1
    have go : ∀ x3 : Int32, Tot (m_head_81 N N σ5 (nI (8 + l)) x3) (fun _ σ' => HD a c u w σ σ' 4) := by
      intro x3
      refine (s_head_81 hN hl ha N σ5 x3 0 (by omega) hH5 (by
        by_cases e : gI σ5 8 = 0
        · exact Or.inl ⟨e, by omega⟩
        · exact Or.inr ⟨e, by omega⟩)).mono (fun _ σ' q => ?_)
      obtain ⟨⟨q0, b', q1, q2, q3, q4, q5⟩, q6⟩ := q
      refine ⟨bs_tr hB5 q0, b', q1, q2, q3, q4, fun e => ?_⟩
      have e4 := q6 e
      rw [g5] at e4
      have u4 := (hg4.2.2.2.2 e4).2
      have u5 := (q5 e).2.2.2.1
      rw [g5] at u5
      exact ⟨(q5 e).1, (q5 e).2.1, (q5 e).2.2.1, by omega, (q5 e).2.2.2.2⟩
    refine tot_if (fun _ => ?_) (fun _ => go 0)
    rw [e_isSign, bd_s]
    exact tot_if (fun _ => go 1) (fun _ => go 0)
  have g34 : ∀ k, k ≠ 34 → gI (sI σ2 34 (nI l)) k = gI σ2 k := fun k hk => gI_ne (fun e => hk e.symm)
  have hT3 : TI (sI σ2 34 (nI l)) := ti_of (fun k hk => g34 k (by omega)) hp.1.1
  have hV3 : TV (sI σ2 34 (nI l)) := tv_of (fun k hk => g34 k (by omega)) hp.1.2.1
  have hP3 : PS (sI σ2 34 (nI l)) a 0 c u w := ⟨(g34 17 (by decide)).trans hP2.1, (g34 38 (by decide)).trans hP2.2.1, (g34 33 (by decide)).trans hP2.2.2.1, hP2.2.2.2.1, hP2.2.2.2.2⟩
  refine tot_if (fun h19 => h46 _ hT3 hV3 hP3 gI_eq hA2 (by rw [g34 5 (by decide)]; exact pl2) (fun _ => by rw [← hA2]; exact h19) (bs_I (bs_tk hk2) (by omega))) (fun _ => ?_)
  refine tot_bd (s_wrong hT3 hV3 (by decide)) (fun _ σ20 hq => ?_)
  have hk20 := hq.1.2.2.1
  exact h46 σ20 hq.1.1 hq.1.2.1 (ps_tk hk20 hP3) ((hk20.2.1 34 (by omega)).trans gI_eq) ((tk_A hk20).trans hA2) (by rw [hq.2.2.2 5 (by decide), g34 5 (by decide)]; exact pl2) (fun e => absurd e hq.2.1) (bs_tr (bs_I (bs_tk hk2) (by omega)) (bs_tk hk20))
