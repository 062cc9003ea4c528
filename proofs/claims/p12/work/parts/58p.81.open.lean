/-! a block opens -/
def OpQ (t : Nat → Int32) (n i b : Nat) (kd at_ wv xv : Int32) (σc0 σm0 : St) (rc : Int32) (σc σm : St) : Prop := (rc = 1 ∧ b < 6 ∧ kK t n i = 6 ∧ SyC t n (i + 1) σc ∧ SyM t n (i + 1) σm ∧ gI σc 406 = nI (b + 1) ∧ gI σm 38 = nI (b + 1) ∧ gA σc 5 = upd (gA σc0 5) b kd ∧ gA σc 6 = upd (gA σc0 6) b at_ ∧ gA σm 35 = upd (gA σm0 35) b kd ∧ gA σm 36 = upd (gA σm0 36) b wv ∧ gA σm 37 = upd (gA σm0 37) b xv ∧ (∀ k, k ≠ 405 → k ≠ 406 → gI σc k = gI σc0 k) ∧ (∀ k, gP σc k = gP σc0 k) ∧ (∀ j, j ≠ 5 → j ≠ 6 → gA σc j = gA σc0 j) ∧ (∀ k, (k < 4 ∨ 9 < k) → k ≠ 38 → gI σm k = gI σm0 k) ∧ (∀ j, j ≠ 35 → j ≠ 36 → j ≠ 37 → gA σm j = gA σm0 j)) ∨ (rc = 0 ∧ FP σc σm)
theorem r_open {t : Nat → Int32} {n i b N : Nat} {σc σm : St} {kd at_ wv xv : Int32} (hN : 8589934592 ≤ N) (hT : Tp t n) (hC : SyC t n i σc) (hM : SyM t n i σm) (b1 : gI σc 406 = nI b) (b2 : gI σm 38 = nI b) (hb : b ≤ 6) : R2 (x4_openBlock N σc kd at_) (m_opens N σm kd wv xv) (fun rc σc' _ σm' => OpQ t n i b kd at_ wv xv σc σm rc σc' σm') := by
  have hi := hC.2.2.1
  have h8 := hM.2.2.2.2.2
  have sg : sgP 6 123 := Or.inr (Or.inr (Or.inl ⟨rfl, rfl⟩))
  unfold x4_openBlock m_opens
  rw [sm_sign hM sg, bd_s]
  by_cases k6 : kK t n i = 6
  · have hk0 : ¬ kK t n i = 0 := by rw [k6]; decide
    have h12 := tk_1200 hT hk0
    rw [sc_takeY hT hC k6, bd_s, if_neg (show ¬ (1 : Int32) = 0 by decide), if_pos k6, if_neg (show ¬ (1 : Int32) = 0 by decide), show gI (sI σc 405 (nI (i + 1))) 406 = nI b from (gI_ne (by decide)).trans b1, b2]
    by_cases c6 : b = 6
    · subst c6
      rw [if_neg (show ¬ nI 6 < (6 : Int32) by decide), if_pos (show nI 6 = (6 : Int32) from rfl), hC.2.1, sc_place hT (sc_up hC (by omega)) (by omega), bd_s]
      unfold x4_refuse m_wrong m_opens_27
      rw [bd_s, if_pos h8, bd_s]
      have hf : ¬ gI (sI (sI σm 8 2) 9 (gI σm 5)) 8 = 0 := by rw [gI_ne (by decide), gI_eq]; decide
      rw [ff_wants hf, bd_s, if_neg hf, hM.2.2.2.1]
      refine r2_gdL (fun _ => r2_some (Or.inr ⟨rfl, ?_⟩))
      exact ⟨2, nI (kQ t n i), by decide, (gI_ne (by decide)).trans gI_eq, gI_eq, (gI_ne (by decide)).trans gI_eq, gI_eq⟩
    · have hb6 : b < 6 := by omega
      rw [if_pos (show nI b < (6 : Int32) from nI_lt (b := 6) hb6 (by decide)), if_neg (show ¬ nI b = (6 : Int32) from fun z => c6 ((nI_eq (b := 6) (by omega) (by decide)).mp z))]
      refine r2_bdL (c_put (j := 5) hb6) (fun _ σ1 e => ?_)
      subst e
      rw [show gI (sA (sI σc 405 (nI (i + 1))) 5 b kd) 406 = nI b from (show gI (sI σc 405 (nI (i + 1))) 406 = nI b from (gI_ne (by decide)).trans b1)]
      refine r2_bdL (c_put (j := 6) hb6) (fun _ σ1 e => ?_)
      subst e
      rw [show gI (sA (sA (sI σc 405 (nI (i + 1))) 5 b kd) 6 b at_) 406 = nI b from (show gI (sI σc 405 (nI (i + 1))) 406 = nI b from (gI_ne (by decide)).trans b1), nI_1]
      unfold m_opens_27
      refine r2_bdR (sm_wantsY hN hT hM sg k6) (fun _ σ2 z => ?_)
      obtain ⟨z1, z2⟩ := z
      rw [if_pos z1.2.2.2.2.2, show gI σ2 38 = nI b from (z2.2.1 38 (by omega)).trans b2, ibk (show b < 8 by omega) (by decide), gd_t, gd_t, gd_t, nI_clamp (by omega), nI_1]
      refine r2_some (Or.inl ⟨rfl, hb6, k6, ?_, ?_, gI_eq, gI_eq, ?_, ?_, ?_, ?_, ?_, ?_, fun _ => rfl, ?_, ?_, ?_⟩)
      · exact syC_same (sc_up hC (by omega)) (gI_ne (by decide)) (gI_ne (by decide)) (by show gA (sA (sA (sI σc 405 (nI (i + 1))) 5 b kd) 6 b at_) 3 = _; rw [gA_sA, if_neg (by decide), gA_sA, if_neg (by decide)]) (gI_ne (by decide)) (gI_ne (by decide))
      · refine syM_same z1 ?_ (fun k _ _ => gI_ne (by omega))
        show gA (sA (sA (sA σ2 35 b kd) 36 b wv) 37 b xv) 1 = _
        rw [gA_sA, if_neg (by decide), gA_sA, if_neg (by decide), gA_sA, if_neg (by decide)]
      · show gA (sA (sA (sI σc 405 (nI (i + 1))) 5 b kd) 6 b at_) 5 = _
        rw [gA_sA, if_neg (by decide), gA_sA, if_pos rfl]
        rfl
      · show gA (sA (sA (sI σc 405 (nI (i + 1))) 5 b kd) 6 b at_) 6 = _
        rw [gA_sA, if_pos rfl, gA_sA, if_neg (by decide)]
        rfl
      · show gA (sA (sA (sA σ2 35 b kd) 36 b wv) 37 b xv) 35 = _
        rw [gA_sA, if_neg (by decide), gA_sA, if_neg (by decide), gA_sA, if_pos rfl, z2.1 35]
      · show gA (sA (sA (sA σ2 35 b kd) 36 b wv) 37 b xv) 36 = _
        rw [gA_sA, if_neg (by decide), gA_sA, if_pos rfl, gA_sA, if_neg (by decide), z2.1 36]
      · show gA (sA (sA (sA σ2 35 b kd) 36 b wv) 37 b xv) 37 = _
        rw [gA_sA, if_pos rfl, gA_sA, if_neg (by decide), gA_sA, if_neg (by decide), z2.1 37]
      · intro k k1 k2
        rw [gI_ne (fun y => k2 y.symm)]
        show gI (sI σc 405 (nI (i + 1))) k = _
        exact gI_ne (fun y => k1 y.symm)
      · intro j j1 j2
        show gA (sA (sA (sI σc 405 (nI (i + 1))) 5 b kd) 6 b at_) j = _
        rw [gA_sA, if_neg j2, gA_sA, if_neg j1]
        rfl
      · intro k k1 k2
        rw [gI_ne (fun y => k2 y.symm)]
        exact z2.2.1 k k1
      · intro j j1 j2 j3
        show gA (sA (sA (sA σ2 35 b kd) 36 b wv) 37 b xv) j = _
        rw [gA_sA, if_neg j3, gA_sA, if_neg j2, gA_sA, if_neg j1]
        exact z2.1 j
  · rw [sc_takeN hT hC k6, bd_s, if_pos rfl, if_neg k6, if_pos rfl]
    unfold m_opens_27
    have hf : ¬ gI (sI (sI σm 8 1) 9 (nI (kQ t n i))) 8 = 0 := by rw [gI_ne (by decide), gI_eq]; decide
    rw [sm_wantsN hM sg k6, bd_s, if_neg hf]
    exact r2_some (Or.inr ⟨rfl, fp_of (k := 1) (by decide) rfl rfl⟩)
/-! a TEST -/
def TsR (g w : Nat) (σc σm : St) : Prop := gI σc (100 * g + 12) = nI w ∧ gA σm 29 1 = nI w ∧ w ≤ 24 ∧ ∀ k, k < w → gA σc (g + 9) k = gA σm 27 (25 + k) ∧ gA σc (g + 10) k = gA σm 28 (25 + k)
/-- 'is nothing', 'not nothing' behind the NAME: row s of the class gets its KIND, the reference its act -/
theorem r_cmp {t : Nat → Int32} {n g i S a c s N : Nat} {x3 v : Int32} {σc σm : St} (hN : 8589934592 ≤ N) (hT : Tp t n) (hC : MC t n g i S σc) (hM : MM t n i a c σm) (hs : s < S) : R2 (x4_readComparison N σc (nI s)) (bd (m_isWord N σm 3) (fun r5 σ6 => (if r5 = 0 then bd (m_isWord N σ6 4) (fun r17 σ18 => (if r17 = 0 then bd (m_wrong N σ18 1 (gI σ18 5)) (fun _ σ20 => m_newTest_172 N σ20 x3 v r5) else m_newTest_172 N σ18 x3 v r5)) else m_newTest_172 N σ6 x3 v r5))) (fun rc σc' rm σm' => (rc = 1 ∧ rm = nI a ∧ a ≤ 1299 ∧ ∃ kd x : Int32, ((kd = 6 ∧ x = 10) ∨ (kd = 7 ∧ x = 11)) ∧ σc' = sI (sA σc (g + 2) (12 * s + 4) kd) 405 (nI (i + 1 + 1)) ∧ MC t n g (i + 1 + 1) S σc' ∧ MM t n (i + 1 + 1) (a + 1) c σm' ∧ FmV a c σm σm' ∧ acE a σm' 0 = x ∧ acE a σm' 1 = v ∧ acE a σm' 2 = x3 ∧ (∀ j, ¬ (12 ≤ j ∧ j ≤ 15) → gA σm' j = gA σm j) ∧ (∀ k, (k < 4 ∨ 9 < k) → k ≠ 17 → gI σm' k = gI σm k) ∧ kQ t n i + 8 ≤ kQ t n (i + 1 + 1)) ∨ (rc = 0 ∧ FP σc' σm')) := by
  have hi := hC.1.2.2.1
  have hg := hC.2.1.1
  have h8 := hM.1.2.2.2.2.2
  have wIs : wdP 15 3 := Or.inr (Or.inr (Or.inr (Or.inl ⟨rfl, rfl⟩)))
  have wNot : wdP 16 4 := Or.inr (Or.inr (Or.inr (Or.inr (Or.inl ⟨rfl, rfl⟩))))
  have wNth : wdP 17 5 := Or.inr (Or.inr (Or.inr (Or.inr (Or.inr (Or.inl ⟨rfl, rfl⟩)))))
  -- a fault: what is left of the test
  have ft : ∀ (σ σ9 : St) (x5 : Int32), FP σ σ9 → R2 (some ((0 : Int32), σ)) (m_newTest_172 N σ9 x3 v x5) (fun rc σc' rm σm' => (rc = 1 ∧ rm = nI a ∧ a ≤ 1299 ∧ ∃ kd x : Int32, ((kd = 6 ∧ x = 10) ∨ (kd = 7 ∧ x = 11)) ∧ σc' = sI (sA σc (g + 2) (12 * s + 4) kd) 405 (nI (i + 1 + 1)) ∧ MC t n g (i + 1 + 1) S σc' ∧ MM t n (i + 1 + 1) (a + 1) c σm' ∧ FmV a c σm σm' ∧ acE a σm' 0 = x ∧ acE a σm' 1 = v ∧ acE a σm' 2 = x3 ∧ (∀ j, ¬ (12 ≤ j ∧ j ≤ 15) → gA σm' j = gA σm j) ∧ (∀ k, (k < 4 ∨ 9 < k) → k ≠ 17 → gI σm' k = gI σm k) ∧ kQ t n i + 8 ≤ kQ t n (i + 1 + 1)) ∨ (rc = 0 ∧ FP σc' σm')) := by
    intro σ σ9 x5 hf
    have hn := fp_ne hf
    unfold m_newTest_172 m_newTest_183 m_newTest_200 m_newTest_211 m_newTest_224
    rw [if_neg hn, ff_word hn, bd_s, if_pos rfl, ff_wrong hn, bd_s, if_neg hn]
    exact r2_ifR (fun _ => r2_bdR ff_emit (fun r σ8 w => r2_some (Or.inr ⟨rfl, fp_m hf w.1 w.2⟩))) (fun _ => r2_bdR ff_emit (fun r σ8 w => r2_some (Or.inr ⟨rfl, fp_m hf w.1 w.2⟩)))
  -- the word is there
  have good : ∀ (kw kd x x5 : Int32), kK t n i = kw → ((kw = 15 ∧ kd = 6 ∧ x = 10 ∧ ¬ x5 = 0) ∨ (kw = 16 ∧ kd = 7 ∧ x = 11 ∧ x5 = 0)) → R2 (x4_readComparison_39 N (sA σc (g + 2) (12 * s + 4) kd) kw) (m_newTest_172 N σm x3 v x5) (fun rc σc' rm σm' => (rc = 1 ∧ rm = nI a ∧ a ≤ 1299 ∧ ∃ kd x : Int32, ((kd = 6 ∧ x = 10) ∨ (kd = 7 ∧ x = 11)) ∧ σc' = sI (sA σc (g + 2) (12 * s + 4) kd) 405 (nI (i + 1 + 1)) ∧ MC t n g (i + 1 + 1) S σc' ∧ MM t n (i + 1 + 1) (a + 1) c σm' ∧ FmV a c σm σm' ∧ acE a σm' 0 = x ∧ acE a σm' 1 = v ∧ acE a σm' 2 = x3 ∧ (∀ j, ¬ (12 ≤ j ∧ j ≤ 15) → gA σm' j = gA σm j) ∧ (∀ k, (k < 4 ∨ 9 < k) → k ≠ 17 → gI σm' k = gI σm k) ∧ kQ t n i + 8 ≤ kQ t n (i + 1 + 1)) ∨ (rc = 0 ∧ FP σc' σm')) := by
    intro kw kd x x5 hk hx
    have hk0 : ¬ kK t n i = 0 := by
      rw [hk]
      rcases hx with ⟨rfl, -⟩ | ⟨rfl, -⟩ <;> decide
    have hup := (kQ_up (t := t) (n := n) (i := i)).2.2 hk0
    have hC0 := mC_row (x := 12 * s + 4) (v := kd) hC
    have hC1 := mC_up hT hC0 hk0
    unfold x4_readComparison_39 m_newTest_172 m_newTest_183
    rw [sc_takeY hT hC0.1 hk, bd_s, if_neg (show ¬ (1 : Int32) = 0 by decide), if_pos h8]
    refine r2_bdR (sm_next hN hT hM.1) (fun _ σ1 z => ?_)
    obtain ⟨z1, z2, -⟩ := z
    have hM1 := mM_tk hM z2 z1
    rw [sm_word hM1.1 wNth, bd_s]
    by_cases k17 : kK t n (i + 1) = 17
    · have hk70 : ¬ kK t n (i + 1) = 0 := by rw [k17]; decide
      have hup7 := kQ_word (d := 7) k17 (Or.inr (Or.inr (Or.inr (Or.inr (Or.inr ⟨rfl, rfl⟩)))))
      rw [sc_takeY hT hC1.1 k17, bd_s, if_neg (show ¬ (1 : Int32) = 0 by decide), if_pos k17, if_neg (show ¬ (1 : Int32) = 0 by decide)]
      unfold m_newTest_200
      rw [if_pos hM1.1.2.2.2.2.2]
      refine r2_bdR (sm_next hN hT hM1.1) (fun _ σ2 y => ?_)
      obtain ⟨y1, y2, -⟩ := y
      have hM2 := mM_tk hM1 y2 y1
      have fin : R2 (some ((1 : Int32), sI (sI (sA σc (g + 2) (12 * s + 4) kd) 405 (nI (i + 1))) 405 (nI (i + 1 + 1)))) (m_newTest_224 N σ2 x3 v x) (fun rc σc' rm σm' => (rc = 1 ∧ rm = nI a ∧ a ≤ 1299 ∧ ∃ kd x : Int32, ((kd = 6 ∧ x = 10) ∨ (kd = 7 ∧ x = 11)) ∧ σc' = sI (sA σc (g + 2) (12 * s + 4) kd) 405 (nI (i + 1 + 1)) ∧ MC t n g (i + 1 + 1) S σc' ∧ MM t n (i + 1 + 1) (a + 1) c σm' ∧ FmV a c σm σm' ∧ acE a σm' 0 = x ∧ acE a σm' 1 = v ∧ acE a σm' 2 = x3 ∧ (∀ j, ¬ (12 ≤ j ∧ j ≤ 15) → gA σm' j = gA σm j) ∧ (∀ k, (k < 4 ∨ 9 < k) → k ≠ 17 → gI σm' k = gI σm k) ∧ kQ t n i + 8 ≤ kQ t n (i + 1 + 1)) ∨ (rc = 0 ∧ FP σc' σm')) := by
        unfold m_newTest_224
        refine r2_bdR (n_emit hM2.2.1 hM2.2.2.1) (fun r σ3 e => ?_)
        obtain ⟨ha, rfl, e2, e3, e4⟩ := e
        have em := emV (c := c) e2
        have e405 : sI (sI (sA σc (g + 2) (12 * s + 4) kd) 405 (nI (i + 1))) 405 (nI (i + 1 + 1)) = sI (sA σc (g + 2) (12 * s + 4) kd) 405 (nI (i + 1 + 1)) := by
          have : (fun j => if j = 405 then nI (i + 1 + 1) else (sI (sA σc (g + 2) (12 * s + 4) kd) 405 (nI (i + 1))).1 j) = (fun j => if j = 405 then nI (i + 1 + 1) else (sA σc (g + 2) (12 * s + 4) kd).1 j) := by
            funext j
            by_cases cj : j = 405
            · rw [if_pos cj, if_pos cj]
            · rw [if_neg cj, if_neg cj]
              show (if j = 405 then _ else (sA σc (g + 2) (12 * s + 4) kd).1 j) = _
              rw [if_neg cj]
          unfold sI at this ⊢
          rw [this]
        have hC2 := mC_up hT hC1 hk70
        rw [e405] at hC2 ⊢
        refine r2_some (Or.inl ⟨rfl, rfl, ha, kd, x, ?_, rfl, hC2, mM_em hM2 ha e2 e3 e4, fmV_tr (fmV_tk z2) (fmV_tr (fmV_tk y2) (fmV_em e2 e3)), em.1, em.2.1, em.2.2.1, fun j hj => ?_, fun k k1 k2 => ?_, by omega⟩)
        · rcases hx with ⟨-, h1, h2, -⟩ | ⟨-, h1, h2, -⟩
          · exact Or.inl ⟨h1, h2⟩
          · exact Or.inr ⟨h1, h2⟩
        · rw [e2, emA_o (by omega), y2.1 j, z2.1 j]
        · rw [e3 k k2, y2.2.1 k k1, z2.2.1 k k1]
      unfold m_newTest_211
      rcases hx with ⟨-, -, h2, h3⟩ | ⟨-, -, h2, h3⟩
      · subst h2; rw [if_neg h3]; exact fin
      · subst h2; rw [if_pos h3]; exact fin
    · rw [sc_takeN hT hC1.1 k17, bd_s, if_pos rfl, if_neg k17, if_pos rfl]
      unfold m_wrong m_newTest_200 m_newTest_211 m_newTest_224
      rw [if_pos hM1.1.2.2.2.2.2, bd_s, if_neg (show ¬ gI (sI (sI σ1 8 1) 9 (gI σ1 5)) 8 = 0 by rw [gI_ne (by decide), gI_eq]; decide), hM1.1.2.2.2.1]
      have hf : FP (sI (sI (sI (sA σc (g + 2) (12 * s + 4) kd) 405 (nI (i + 1))) 408 1) 409 (nI (kQ t n (i + 1)))) (sI (sI σ1 8 1) 9 (nI (kQ t n (i + 1)))) := fp_of (k := 1) (by decide) rfl rfl
      exact r2_ifR (fun _ => r2_bdR ff_emit (fun r σ8 w => r2_some (Or.inr ⟨rfl, fp_m hf w.1 w.2⟩))) (fun _ => r2_bdR ff_emit (fun r σ8 w => r2_some (Or.inr ⟨rfl, fp_m hf w.1 w.2⟩)))
  unfold x4_readComparison
  rw [sc_seen hT hC.1, bd_s, sm_word hM.1 wIs, bd_s]
  by_cases k16 : kK t n i = 16
  · rw [if_pos k16, if_neg (show ¬ (1 : Int32) = 0 by decide), k16, if_neg (show ¬ (16 : Int32) = 15 by decide), if_pos rfl, sm_word hM.1 wNot, k16, if_pos rfl, bd_s, if_neg (show ¬ (1 : Int32) = 0 by decide)]
    unfold x4_readComparison_24
    rw [hC.2.1.2.2, pg_cd hg, gd_t]
    show R2 (bd (x0_set N σc (g + 1) (nI s) (nI 4) 7) _) _ _
    rw [c_set hg hC.2.2.1 hC.2.2.2 hs (by decide), bd_s, if_neg (show ¬ (1 : Int32) = 0 by decide)]
    exact good 16 7 11 0 k16 (Or.inr ⟨rfl, rfl, rfl, rfl⟩)
  · rw [if_neg k16, if_pos rfl]
    unfold x4_readComparison_24
    rw [hC.2.1.2.2, pg_cd hg, gd_t]
    show R2 (bd (x0_set N σc (g + 1) (nI s) (nI 4) 6) _) _ _
    rw [c_set hg hC.2.2.1 hC.2.2.2 hs (by decide), bd_s, if_pos rfl]
    by_cases k15 : kK t n i = 15
    · rw [if_pos k15, if_neg (show ¬ (1 : Int32) = 0 by decide)]
      exact good 15 6 10 1 k15 (Or.inl ⟨rfl, rfl, rfl, by decide⟩)
    · rw [if_neg k15, if_pos rfl, sm_word hM.1 wNot, if_neg k16, bd_s, if_pos rfl]
      unfold x4_readComparison_39 m_wrong
      have hC0 := mC_row (x := 12 * s + 4) (v := 6) hC
      rw [sc_takeN hT hC0.1 k15, bd_s, if_pos rfl, if_pos h8, bd_s, hM.1.2.2.2.1]
      exact ft _ _ _ (fp_of (k := 1) (by decide) rfl rfl)
