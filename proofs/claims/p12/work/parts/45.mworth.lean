/-- acts that neither call, test nor jump -/
def pln (x : Int32) : Prop := (0 ≤ x.toInt ∧ x.toInt ≤ 13) ∧ ¬ x = 6 ∧ ¬ tst x ∧ ¬ x = 13
theorem s_emitP {N : Nat} {σ : St} {a b c u w : Nat} {x y z v : Int32} {X : Nat → Prop} (hT : TI σ) (hV : TV σ) (hP : PS σ a b c u w) (h : a ≤ 1299) (hx : pln x) (hS : gI σ 8 = 0 → SQ (gA σ) a b c X ∧ (nm1 x → 0 ≤ y.toInt ∧ y.toInt ≤ 25) ∧ (x = 3 → 0 ≤ z.toInt ∧ z.toInt ≤ 25) ∧ ((x = 5 ∨ x = 8) → z = 0 ∨ z = 1)) : Tot (m_emit N σ x y z v) (fun r σ' => r = nI a ∧ PS σ' (a + 1) b c u w ∧ Gp σ σ' 0 ∧ Fb σ σ' ∧ (gI σ' 8 = 0 → SQ (gA σ') (a + 1) b c X ∧ fr (gA σ' 12) a = x)) := by
  refine (s_emit hT hV hP h).mono (fun r σ' q => ?_)
  obtain ⟨q1, q2, q3, q4, q5⟩ := q
  refine ⟨q1, q2, q3, fb_em q4 q5, fun e => ?_⟩
  obtain ⟨s1, s2, s3, s4⟩ := hS (q3.2.2.2 e).1
  rw [q4]
  refine ⟨sq_emit s1 (act_plain hx.1 s2 s3 s4 (fun e => absurd e hx.2.1) (fun e => absurd e hx.2.2.1) (fun e => absurd e hx.2.2.2)) (fun e => absurd e hx.2.1), ?_⟩
  rw [em12, fr_upd_eq]
theorem nt (x : Int32) (h : ¬ x = 10 ∧ ¬ x = 11 ∧ ¬ x = 12) : ¬ tst x := fun e => by
  rcases e with e | e | e
  · exact h.1 e
  · exact h.2.1 e
  · exact h.2.2 e
theorem nn1 {x : Int32} (h : ¬ x = 3 ∧ ¬ x = 4 ∧ ¬ x = 5 ∧ ¬ x = 7 ∧ ¬ x = 8 ∧ ¬ x = 10 ∧ ¬ x = 11) {P : Prop} : nm1 x → P := fun e => by
  rcases e with e | e | e | e | e | e | e
  · exact absurd e h.1
  · exact absurd e h.2.1
  · exact absurd e h.2.2.1
  · exact absurd e h.2.2.2.1
  · exact absurd e h.2.2.2.2.1
  · exact absurd e h.2.2.2.2.2.1
  · exact absurd e h.2.2.2.2.2.2
/-- what worth() leaves -/
def WO (X : Nat → Prop) (a b c w : Nat) (σ σ' : St) : Prop := ∃ a' c' u', a' ≤ a + 1 ∧ c' ≤ c + 1 ∧ u' ≤ 40 ∧ PS σ' a' b c' u' w ∧ Fb σ σ' ∧ (gI σ' 8 = 0 → (c' = c ∨ (gI σ 5).toInt + 3 ≤ (gI σ' 5).toInt) ∧ a' = a + 1 ∧ SQ (gA σ') (a + 1) b c' X ∧ ¬ fr (gA σ' 12) a = 0)
theorem s_emitW {N : Nat} {σ σ1 : St} {d : Int} {a b c u w : Nat} {x y z v : Int32} {X : Nat → Prop} (hG : Gp σ σ1 d) (hF : Fb σ σ1) (hP : PS σ1 a b c u w) (hu : u ≤ 40) (h : a ≤ 1299) (hx : pln x) (hx0 : ¬ x = 0) (hS : gI σ1 8 = 0 → SQ (gA σ1) a b c X ∧ (nm1 x → 0 ≤ y.toInt ∧ y.toInt ≤ 25) ∧ (x = 3 → 0 ≤ z.toInt ∧ z.toInt ≤ 25) ∧ ((x = 5 ∨ x = 8) → z = 0 ∨ z = 1)) : Tot (bd (m_emit N σ1 x y z v) (fun _ σ2 => some ((), σ2))) (fun _ σ' => Gp σ σ' d ∧ WO X a b c w σ σ') := by
  refine tot_bd (s_emitP hG.1 hG.2.1 hP h hx hS) (fun r σ2 q => ?_)
  obtain ⟨q1, q2, q3, q4, q5⟩ := q
  refine tot_some ⟨gp_le (gp_tr hG q3) (by omega), a + 1, c, u, by omega, by omega, hu, q2, fb_tr hF q4, fun e => ⟨Or.inl rfl, rfl, (q5 e).1, ?_⟩⟩
  rw [(q5 e).2]
  exact hx0
theorem s_worth {N : Nat} (hN : 8589934592 ≤ N) {σ : St} {X : Nat → Prop} {a b c u w : Nat} (ha : a ≤ 1299) (hc : c ≤ 399) (hu : u ≤ 40) (hT : TI σ) (hV : TV σ) (hP : PS σ a b c u w) (hS : gI σ 8 = 0 → SQ (gA σ) a b c X ∧ 1 ≤ a ∧ fr (gA σ 12) (a - 1) = 0) : Tot (m_worth N σ) (fun _ σ' => Gp σ σ' 1 ∧ WO X a b c w σ σ') := by
  unfold m_worth
  refine tot_if (fun h8 => ?_) (fun h8 => tot_some ⟨⟨hT, hV, Int.le_refl _, fun e => absurd e h8⟩, a, c, u, by omega, by omega, hu, hP, fb_rf σ, fun e => absurd e h8⟩)
  obtain ⟨s1, s2, s3⟩ := hS h8
  rw [e_isWord, bd_s]
  refine tot_if (fun _ => ?_) (fun hw => ?_)
  · rw [e_isWord, bd_s]
    refine tot_if (fun _ => ?_) (fun hw => ?_)
    · rw [e_isWord, bd_s]
      refine tot_if (fun _ => ?_) (fun hw => ?_)
      · refine tot_if (fun h6 => ?_) (fun h6 => tot_if (fun h61 => ?_) (fun _ => ?_))
        · -- a name
          refine tot_bd (s_taken hN hT hV (Or.inl rfl)) (fun r11 σ12 hp => ?_)
          have hk := hp.1.2.2.1
          rw [e_isSign, bd_s]
          refine tot_if (fun _ => ?_) (fun _ => ?_)
          · exact s_emitW (gp_go hp.1) (fb_tk hk) (ps_tk hk hP) hu ha ⟨by decide, by decide, nt _ (by decide), by decide⟩ (by decide) (fun e => ⟨by rw [tk_A hk]; exact s1, fun _ => ⟨hp.2.1, hp.2.2.1 rfl⟩, fun e => absurd e (by decide), fun e => by rcases e with e | e <;> exact absurd e (by decide)⟩)
          · refine tot_bd (s_newUse hp.1.1 hp.1.2.1 (ps_tk hk hP) hu) (fun r15 σ16 hn => ?_)
            obtain ⟨u', hu', hP16, hG16, -, -, hA16, -, hB16⟩ := hn
            refine tot_bd (s_nextA hN hG16.1) (fun _ σ18 hg18 => ?_)
            refine tot_bd (s_field hN hg18.1.1 hg18.1.2.1) (fun r19 σ20 hf => ?_)
            have hk20 := tk_tr hg18.1.2.2.1 hf.1.2.2.1
            have hGa : Gp σ σ20 1 := gp_le (gp_tr (gp_tr (gp_tr (gp_go hp.1) hG16) (gp_go hg18.1)) (gp_go hf.1)) (by decide)
            have hFa : Fb σ σ20 := fb_tr (fb_tr (fb_tk hk) ⟨hA16 35 (by omega), hA16 36 (by omega), hA16 37 (by omega), hB16⟩) (fb_tk hk20)
            refine s_emitW hGa hFa (ps_tk hk20 hP16) hu' ha ⟨by decide, by decide, nt _ (by decide), by decide⟩ (by decide) (fun e => ⟨?_, fun _ => ⟨hp.2.1, hp.2.2.1 rfl⟩, fun e => absurd e (by decide), fun _ => hf.2 e⟩)
            rw [tk_A hk20]
            have o : ∀ j, (j < 23 ∨ 26 < j) → gA σ16 j = gA σ j := fun j hj => (hA16 j hj).trans (hk.1 j)
            exact sq_congr s1 (o 12 (by omega)) (o 13 (by omega)) (o 14 (by omega)) (o 15 (by omega)) (o 19 (by omega)) (o 20 (by omega)) (o 21 (by omega)) (o 22 (by omega)) (o 31 (by omega)) (o 32 (by omega)) (o 35 (by omega)) (o 36 (by omega)) (o 37 (by omega))
        · -- a call
          refine tot_bd (s_call hN ha hc hT hV hP (fun _ => ⟨s1, s2, s3⟩)) (fun _ σ10 q => ?_)
          obtain ⟨qG, a', c', q1, q2, q3, q4, q5⟩ := q
          exact tot_some ⟨gp_le qG (by decide), a', c', u, q1, q2, hu, q3, q4, fun e => ⟨Or.inr (qG.2.2.2 e).2, q5 e⟩⟩
        · refine tot_bd (s_wrong hT hV (by decide)) (fun _ σ8 hp => ?_)
          exact tot_some ⟨gp_go (go_le hp.1 (by decide)), a, c, u, by omega, by omega, hu, ps_tk hp.1.2.2.1 hP, fb_tk hp.1.2.2.1, fun e => absurd e hp.2.1⟩
      · -- new
        obtain ⟨-, hw6, -⟩ := sgF_1 hw
        refine tot_bd (s_nextW hN hT hV hw6) (fun _ σ26 hg => ?_)
        refine tot_bd (s_taken hN hg.1.1 hg.1.2.1 (Or.inl rfl)) (fun r27 σ28 hp => ?_)
        refine tot_bd (s_taken hN hp.1.1 hp.1.2.1 (Or.inl rfl)) (fun r29 σ30 hp2 => ?_)
        have hgo := go_tr (go_tr hg.1 hp.1) hp2.1
        have hk := hgo.2.2.1
        have hgo1 := go_le hgo (d2 := 1) (by decide)
        exact s_emitW (gp_go hgo1) (fb_tk hk) (ps_tk hk hP) hu ha ⟨by decide, by decide, nt _ (by decide), by decide⟩ (by decide) (fun e => ⟨by rw [tk_A hk]; exact s1, fun _ => ⟨hp.2.1, hp.2.2.1 rfl⟩, fun _ => ⟨hp2.2.1, hp2.2.2.1 rfl⟩, fun e => by rcases e with e | e <;> exact absurd e (by decide)⟩)
    · obtain ⟨-, hw6, -⟩ := sgF_1 hw
      refine tot_bd (s_nextW hN hT hV hw6) (fun _ σ34 hg => ?_)
      have hk := hg.1.2.2.1
      exact s_emitW (gp_go (go_le hg.1 (d2 := 1) (by decide))) (fb_tk hk) (ps_tk hk hP) hu ha ⟨by decide, by decide, nt _ (by decide), by decide⟩ (by decide) (fun e => ⟨by rw [tk_A hk]; exact s1, nn1 (by decide), fun e => absurd e (by decide), fun e => by rcases e with e | e <;> exact absurd e (by decide)⟩)
  · obtain ⟨-, hw6, -⟩ := sgF_1 hw
    refine tot_bd (s_nextW hN hT hV hw6) (fun _ σ38 hg => ?_)
    have hk := hg.1.2.2.1
    exact s_emitW (gp_go (go_le hg.1 (d2 := 1) (by decide))) (fb_tk hk) (ps_tk hk hP) hu ha ⟨by decide, by decide, nt _ (by decide), by decide⟩ (by decide) (fun e => ⟨by rw [tk_A hk]; exact s1, nn1 (by decide), fun e => absurd e (by decide), fun e => by rcases e with e | e <;> exact absurd e (by decide)⟩)
/-! tests -/
/-- what newTest() leaves -/
def NT (X : Nat → Prop) (a b c u : Nat) (r : Int32) (σ σ' : St) : Prop := ∃ a' w', a' ≤ a + 1 ∧ w' ≤ 24 ∧ PS σ' a' b c u w' ∧ Fb σ σ' ∧ (gI σ' 8 = 0 → a' = a + 1 ∧ r = nI a ∧ SQ (gA σ') (a + 1) b c (fun k => X k ∨ k = a) ∧ tst (fr (gA σ' 12) a))
theorem s_emitT {N : Nat} {σ : St} {a b c u w : Nat} {x y z v : Int32} {X : Nat → Prop} (hT : TI σ) (hV : TV σ) (hP : PS σ a b c u w) (h : a ≤ 1299) (hx : tst x) (hS : gI σ 8 = 0 → SQ (gA σ) a b c X ∧ (nm1 x → 0 ≤ y.toInt ∧ y.toInt ≤ 25) ∧ 0 ≤ z.toInt ∧ z.toInt ≤ 23) : Tot (m_emit N σ x y z v) (fun r σ' => r = nI a ∧ PS σ' (a + 1) b c u w ∧ Gp σ σ' 0 ∧ Fb σ σ' ∧ (gI σ' 8 = 0 → SQ (gA σ') (a + 1) b c (fun k => X k ∨ k = a) ∧ tst (fr (gA σ' 12) a))) := by
  refine (s_emit hT hV hP h).mono (fun r σ' q => ?_)
  obtain ⟨q1, q2, q3, q4, q5⟩ := q
  refine ⟨q1, q2, q3, fb_em q4 q5, fun e => ?_⟩
  obtain ⟨s1, s2, s3⟩ := hS (q3.2.2.2 e).1
  rw [q4]
  have ne : ¬ x = 3 ∧ ¬ x = 5 ∧ ¬ x = 8 ∧ ¬ x = 6 ∧ ¬ x = 13 ∧ (0 ≤ x.toInt ∧ x.toInt ≤ 13) := by
    rcases hx with rfl | rfl | rfl <;> decide
  refine ⟨sq_emit (sq_wt s1 (fun k _ hk => Or.inl hk)) (act_plain ne.2.2.2.2.2 s2 (fun e => absurd e ne.1) (fun e => e.elim (fun e => absurd e ne.2.1) (fun e => absurd e ne.2.2.1)) (fun e => absurd e ne.2.2.2.1) (fun _ => ⟨s3.1, s3.2, Or.inr rfl⟩) (fun e => absurd e ne.2.2.2.2.1)) (fun e => absurd e ne.2.2.2.1), ?_⟩
  rw [em12, fr_upd_eq]
  exact hx
theorem s_newTest {N : Nat} (hN : 8589934592 ≤ N) {σ : St} {X : Nat → Prop} {a b c u w : Nat} (ha : a ≤ 1299) (hw : w ≤ 24) (hT : TI σ) (hV : TV σ) (hP : PS σ a b c u w) (hS : gI σ 8 = 0 → SQ (gA σ) a b c X) : Tot (m_newTest N σ) (fun r σ' => Gp σ σ' 1 ∧ NT X a b c u r σ σ') := by
  -- from the test's number on
  have h64 : ∀ (σ2 : St) (x1 : Int32), Go σ σ2 0 → (gI σ2 8 = 0 → w ≤ 23 ∧ (gI σ2 6 = 0 ∨ gI σ2 6 = 2)) → Tot (m_newTest_64 N σ2 x1) (fun r σ' => Gp σ σ' 1 ∧ NT X a b c u r σ σ') := by
    intro σ2 x1 hg2 hw2
    have hk2 := hg2.2.2.1
    have hP2 := ps_tk hk2 hP
    obtain ⟨q1, q2, q3, q4, q5⟩ := id hP2
    unfold m_newTest_64
    refine tot_if (fun h8 => ?_) (fun h8 => tot_some ⟨⟨hg2.1, hg2.2.1, hg2.2.2.2.1, fun e => absurd e h8⟩, a, w, by omega, hw, hP2, fb_tk hk2, fun e => absurd e h8⟩)
    obtain ⟨hw23, h6⟩ := hw2 h8
    have s1 := hS (hg2.2.2.2.2 h8).1
    rw [c1, q5]
    have e25 : (25 : Int32) + nI w = nI (25 + w) := by rw [show (25 : Int32) = nI 25 from by decide, nI_add]
    have hi : ib ((25 : Int32) + nI w) 50 = true := by
      rw [e25]
      exact ib_m (by rw [nI_t (by omega)]; omega) (by rw [nI_t (by omega)]; omega) (by decide)
    rw [hi]
    refine tot_gd ib12 (tot_gd rfl (tot_gd rfl (tot_gd ib12 (tot_gd ib12 ?_))))
    -- the state with the test told
    have hz : ∀ σ3 : St, σ3 = sA (sA (sA σ2 27 (((25 : Int32) + nI w).toNatClampNeg) (gI σ2 34)) 28 (((25 : Int32) + nI w).toNatClampNeg) x1) 29 1 (nI w + 1) → Tot (bd (m_isWord N σ3 7) (fun r1 σ2 => (if r1 = 0 then bd (m_taken N σ2 0) (fun r3 σ4 => bd (m_isWord N σ4 3) (fun r5 σ6 => (if r5 = 0 then bd (m_isWord N σ6 4) (fun r17 σ18 => (if r17 = 0 then bd (m_wrong N σ18 1 (gI σ18 5)) (fun _ σ20 => m_newTest_172 N σ20 (nI w) r3 r5) else m_newTest_172 N σ18 (nI w) r3 r5)) else m_newTest_172 N σ6 (nI w) r3 r5))) else bd (m_next N σ2) (fun _ σ22 => bd (m_emit N σ22 12 0 (nI w) 0) (fun r23 σ24 => some (r23, σ24)))))) (fun r σ' => Gp σ σ' 1 ∧ NT X a b c u r σ σ') := by
      intro σ3 e3
      have g3 : ∀ k, gI σ3 k = gI σ2 k := fun k => by rw [e3]; rfl
      have hT3 : TI σ3 := ti_of (fun k _ => g3 k) hg2.1
      have hV3 : TV σ3 := tv_of (fun k _ => g3 k) hg2.2.1
      have hA3 : ∀ j, (j < 27 ∨ 29 < j) → gA σ3 j = gA σ j := fun j hj => by
        rw [e3, gA_sA, if_neg (by omega), gA_sA, if_neg (by omega), gA_sA, if_neg (by omega)]
        exact hk2.1 j
      have hP3 : PS σ3 a b c u (w + 1) := by
        refine ⟨by rw [g3]; exact q1, by rw [g3]; exact q2, by rw [g3]; exact q3, ?_, ?_⟩
        · rw [hA3 26 (by omega), ← hk2.1 26]; exact q4
        · rw [e3, gA_sA, if_pos rfl]
          unfold upd
          rw [if_pos rfl]
          exact (nI_succ w).symm
      have hx25 : ((25 : Int32) + nI w).toNatClampNeg = 25 + w := by rw [e25]; exact nI_clamp (by omega)
      have hF3 : Fb σ σ3 := ⟨hA3 35 (by omega), hA3 36 (by omega), hA3 37 (by omega), by rw [e3]; exact b2_A (b2_A (b2_A (b2_tk hk2) (by rw [hx25]; show 25 ≤ 25 + w; omega)) (by rw [hx25]; show 25 ≤ 25 + w; omega)) (by decide)⟩
      have hS3 : SQ (gA σ3) a b c X := sq_congr s1 (hA3 12 (by omega)) (hA3 13 (by omega)) (hA3 14 (by omega)) (hA3 15 (by omega)) (hA3 19 (by omega)) (hA3 20 (by omega)) (hA3 21 (by omega)) (hA3 22 (by omega)) (hA3 31 (by omega)) (hA3 32 (by omega)) (hA3 35 (by omega)) (hA3 36 (by omega)) (hA3 37 (by omega))
      have hG3 : Gp σ σ3 0 := ⟨hT3, hV3, by rw [g3]; exact hg2.2.2.2.1, fun e => by rw [g3] at e ⊢; exact hg2.2.2.2.2 e⟩
      have wN : 0 ≤ (nI w).toInt ∧ (nI w).toInt ≤ 23 := by rw [nI_t (by omega)]; omega
      -- the end: emit
      have fin : ∀ (σ5 : St) (x y : Int32), Go σ3 σ5 1 → tst x → (nm1 x → 0 ≤ y.toInt ∧ y.toInt ≤ 25) → Tot (bd (m_emit N σ5 x y (nI w) 0) (fun r9 σ10 => some (r9, σ10))) (fun r σ' => Gp σ σ' 1 ∧ NT X a b c u r σ σ') := by
        intro σ5 x y hg5 hx hy
        have hk5 := hg5.2.2.1
        refine tot_bd (s_emitT hg5.1 hg5.2.1 (ps_tk hk5 hP3) ha hx (fun e => ⟨by rw [tk_A hk5]; exact hS3, hy, wN⟩)) (fun r σ6 q => ?_)
        obtain ⟨z1, z2, z3, z4, z5⟩ := q
        exact tot_some ⟨gp_le (gp_tr (gp_tr hG3 (gp_go hg5)) z3) (by decide), a + 1, w + 1, by omega, by omega, z2, fb_tr (fb_tr hF3 (fb_tk hk5)) z4, fun e => ⟨rfl, z1, (z5 e).1, (z5 e).2⟩⟩
      rw [e_isWord, bd_s]
      refine tot_if (fun hno => ?_) (fun hw7 => ?_)
      · refine tot_bd (s_taken hN hT3 hV3 (Or.inl rfl)) (fun r3 σ4 hp => ?_)
        have hy : ∀ x : Int32, nm1 x → 0 ≤ r3.toInt ∧ r3.toInt ≤ 25 := fun _ _ => ⟨hp.2.1, hp.2.2.1 rfl⟩
        have h211 : ∀ (σ5 : St) (x5 : Int32), Go σ3 σ5 1 → Tot (m_newTest_211 N σ5 (nI w) r3 x5) (fun r σ' => Gp σ σ' 1 ∧ NT X a b c u r σ σ') := by
          intro σ5 x5 hg5
          unfold m_newTest_211 m_newTest_224
          exact tot_if (fun _ => fin σ5 11 r3 hg5 (Or.inr (Or.inl rfl)) (hy 11)) (fun _ => fin σ5 10 r3 hg5 (Or.inl rfl) (hy 10))
        have h200 : ∀ (σ5 : St) (x5 : Int32), Go σ3 σ5 1 → Tot (m_newTest_200 N σ5 (nI w) r3 x5) (fun r σ' => Gp σ σ' 1 ∧ NT X a b c u r σ σ') := by
          intro σ5 x5 hg5
          unfold m_newTest_200
          refine tot_if (fun _ => ?_) (fun _ => h211 σ5 x5 hg5)
          refine tot_bd (s_nextA hN hg5.1) (fun _ σ12 hq => ?_)
          exact h211 σ12 x5 (go_le (go_tr hg5 hq.1) (by decide))
        have h183 : ∀ (σ5 : St) (x5 : Int32), Go σ3 σ5 1 → Tot (m_newTest_183 N σ5 (nI w) r3 x5) (fun r σ' => Gp σ σ' 1 ∧ NT X a b c u r σ σ') := by
          intro σ5 x5 hg5
          unfold m_newTest_183
          rw [e_isWord, bd_s]
          refine tot_if (fun _ => ?_) (fun _ => h200 σ5 x5 hg5)
          refine tot_bd (s_wrong hg5.1 hg5.2.1 (by decide)) (fun _ σ14 hq => ?_)
          exact h200 σ14 x5 (go_le (go_tr hg5 (go_le hq.1 (d2 := 0) (by decide))) (by decide))
        have h172 : ∀ (σ5 : St) (x5 : Int32), Go σ3 σ5 1 → Tot (m_newTest_172 N σ5 (nI w) r3 x5) (fun r σ' => Gp σ σ' 1 ∧ NT X a b c u r σ σ') := by
          intro σ5 x5 hg5
          unfold m_newTest_172
          refine tot_if (fun _ => ?_) (fun _ => h183 σ5 x5 hg5)
          refine tot_bd (s_nextA hN hg5.1) (fun _ σ16 hq => ?_)
          exact h183 σ16 x5 (go_le (go_tr hg5 hq.1) (by decide))
        rw [e_isWord, bd_s]
        refine tot_if (fun _ => ?_) (fun _ => h172 σ4 _ hp.1)
        rw [e_isWord, bd_s]
        refine tot_if (fun _ => ?_) (fun _ => h172 σ4 _ hp.1)
        refine tot_bd (s_wrong hp.1.1 hp.1.2.1 (by decide)) (fun _ σ20 hq => ?_)
        exact h172 σ20 _ (go_le (go_tr hp.1 (go_le hq.1 (d2 := 0) (by decide))) (by decide))
      · obtain ⟨-, hs2, -⟩ := sgF_1 hw7
        refine tot_bd (s_nextW hN hT3 hV3 hs2) (fun _ σ22 hq => ?_)
        exact fin σ22 12 0 (go_le hq.1 (by decide)) (Or.inr (Or.inr rfl)) (nn1 (by decide))
    exact hz _ rfl
  have h33 : ∀ t0 : Int32, (¬ t0 = 0 → gI σ 6 = 0 ∨ gI σ 6 = 2) → Tot (m_newTest_33 N σ (gI σ 5) t0) (fun r σ' => Gp σ σ' 1 ∧ NT X a b c u r σ σ') := by
    intro t0 ht
    unfold m_newTest_33
    refine tot_if (fun _ => ?_) (fun h0 => tot_gd ib12 ?_)
    · refine tot_bd (s_wrong hT hV (by decide)) (fun _ σ28 hp => ?_)
      exact h64 σ28 _ (go_le hp.1 (by decide)) (fun e => absurd e hp.2.1)
    · rw [c1, hP.2.2.2.2]
      refine tot_if (fun _ => ?_) (fun h24 => h64 σ _ (go_rf hT hV) (fun _ => ⟨?_, ht h0⟩))
      · refine tot_bd (s_wrong hT hV (by decide)) (fun _ σ26 hp => ?_)
        exact h64 σ26 _ (go_le hp.1 (by decide)) (fun e => absurd e hp.2.1)
      · rcases (show w = 24 ∨ w ≤ 23 by omega) with q | q
        · subst q
          exact absurd (by decide) h24
        · exact q
  unfold m_newTest m_newTest_28 m_newTest_32
  refine tot_if (fun _ => tot_if (fun h6 => h33 1 (fun _ => Or.inl h6)) (fun _ => ?_)) (fun _ => h33 0 (fun e => absurd rfl e))
  rw [e_isWord, bd_s]
  refine tot_if (fun _ => h33 0 (fun e => absurd rfl e)) (fun h => h33 1 (fun _ => Or.inr (sgF_1 h).2.1))
