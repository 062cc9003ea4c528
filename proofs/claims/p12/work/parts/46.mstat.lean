theorem ib8 {b : Nat} (h : b ≤ 7) : ib (nI b) 8 = true := ib_m (by rw [nI_t (by omega)]; omega) (by rw [nI_t (by omega)]; omega) (by decide)
/-- what opens() leaves -/
def OP (a b c u w : Nat) (k q t : Int32) (σ σ' : St) : Prop := (¬ gI σ' 8 = 0 ∧ PS σ' a b c u w ∧ gA σ' = gA σ) ∨ (gI σ' 8 = 0 ∧ b + 1 ≤ 6 ∧ PS σ' a (b + 1) c u w ∧ gA σ' 35 = upd (gA σ 35) b k ∧ gA σ' 36 = upd (gA σ 36) b q ∧ gA σ' 37 = upd (gA σ 37) b t ∧ ∀ j, j < 35 ∨ 37 < j → gA σ' j = gA σ j)
theorem s_opens0 {N : Nat} (hN : 8589934592 ≤ N) {σ : St} {a b c u w : Nat} {k q t : Int32} (hT : TI σ) (hV : TV σ) (hP : PS σ a b c u w) (hb : b ≤ 6) : Tot (m_opens N σ k q t) (fun _ σ' => (Gp σ σ' 1 ∧ OP a b c u w k q t σ σ' ∧ B2 σ σ') ∧ gI σ' 34 = gI σ 34) := by
  have h27 : ∀ σ2 : St, Go σ σ2 0 → (gI σ2 8 = 0 → ¬ sgF σ2 3 123 = 0 → b ≤ 5) → Tot (m_opens_27 N σ2 k q t) (fun _ σ' => (Gp σ σ' 1 ∧ OP a b c u w k q t σ σ' ∧ B2 σ σ') ∧ gI σ' 34 = gI σ 34) := by
    intro σ2 hg2 hb5
    unfold m_opens_27
    refine tot_bd (s_wants2 hN hg2.1 hg2.2.1) (fun _ σ4 hp => ?_)
    have hg4 := go_tr hg2 hp.1
    have hk := hg4.2.2.1
    have hP4 := ps_tk hk hP
    obtain ⟨p1, p2, p3, p4, p5⟩ := id hP4
    have hG : Gp σ σ4 1 := gp_le (gp_go hg4) (by decide)
    refine tot_if (fun h8 => ?_) (fun h8 => tot_some ⟨⟨hG, Or.inl ⟨h8, hP4, tk_A hk⟩, b2_tk hk⟩, hk.2.1 34 (by omega)⟩)
    have hb6 := hb5 (hp.1.2.2.2.2 h8).1 (hp.2 h8)
    rw [p2]
    have hcl : (nI b).toNatClampNeg = b := nI_clamp (by omega)
    rw [ib8 (by omega), hcl]
    have hA := tk_A hk
    refine tot_gd rfl (tot_gd rfl (tot_gd rfl (tot_some ⟨⟨hG, Or.inr ⟨h8, by omega, ⟨p1, gI_eq.trans (nI_succ b).symm, p3, ?_, ?_⟩, ?_, ?_, ?_, ?_⟩, b2_I (b2_A (b2_A (b2_A (b2_tk hk) (Nat.zero_le _)) (Nat.zero_le _)) (Nat.zero_le _)) (by omega)⟩, (hk.2.1 34 (by omega) : gI σ4 34 = gI σ 34)⟩)))
    · exact p4
    · exact p5
    · show gA (sA (sA (sA σ4 35 b k) 36 b q) 37 b t) 35 = _
      rw [gA_sA, if_neg (by decide), gA_sA, if_neg (by decide), gA_sA, if_pos rfl, hA]
    · show gA (sA (sA (sA σ4 35 b k) 36 b q) 37 b t) 36 = _
      rw [gA_sA, if_neg (by decide), gA_sA, if_pos rfl, gA_sA, if_neg (by decide), hA]
    · show gA (sA (sA (sA σ4 35 b k) 36 b q) 37 b t) 37 = _
      rw [gA_sA, if_pos rfl, gA_sA, if_neg (by decide), gA_sA, if_neg (by decide), hA]
    · intro j hj
      show gA (sA (sA (sA σ4 35 b k) 36 b q) 37 b t) j = _
      rw [gA_sA, if_neg (by omega), gA_sA, if_neg (by omega), gA_sA, if_neg (by omega), hA]
  unfold m_opens
  rw [e_isSign, bd_s]
  refine tot_if (fun h0 => h27 σ (go_rf hT hV) (fun _ hn => absurd h0 hn)) (fun h0 => ?_)
  rw [hP.2.1]
  refine tot_if (fun h6 => ?_) (fun h6 => h27 σ (go_rf hT hV) (fun _ _ => ?_))
  · refine tot_bd (s_wrong hT hV (by decide)) (fun _ σ6 hp => ?_)
    exact h27 σ6 (go_le hp.1 (by decide)) (fun e => absurd e hp.2.1)
  · rcases (show b = 6 ∨ b ≤ 5 by omega) with q | q
    · subst q
      exact absurd (by decide) h6
    · exact q
theorem s_opens {N : Nat} (hN : 8589934592 ≤ N) {σ : St} {a b c u w : Nat} {k q t : Int32} (hT : TI σ) (hV : TV σ) (hP : PS σ a b c u w) (hb : b ≤ 6) : Tot (m_opens N σ k q t) (fun _ σ' => Gp σ σ' 1 ∧ OP a b c u w k q t σ σ' ∧ B2 σ σ') := (s_opens0 hN hT hV hP hb).mono (fun _ _ q => q.1)
theorem upd_ne {f : Nat → Int32} {k j : Nat} {x : Int32} (h : j ≠ k) : upd f k x j = f j := by
  unfold upd
  rw [if_neg h]
theorem upd_eq {f : Nat → Int32} {k : Nat} {x : Int32} : upd f k x k = x := by
  unfold upd
  rw [if_pos rfl]
/-- a block more is open -/
theorem sq_push {A A2 : Ar} {a b c : Nat} {X : Nat → Prop} {k q t : Int32} (h : SQ A a b c X) (h35 : A2 35 = upd (A 35) b k) (h36 : A2 36 = upd (A 36) b q) (h37 : A2 37 = upd (A 37) b t) (ho : ∀ j, j < 35 ∨ 37 < j → A2 j = A j) (hX : ∀ n, n < a → X n → Wt A2 (b + 1) n) (hb : blkV A2 a b) : SQ A2 a (b + 1) c (Wt A2 (b + 1)) := by
  obtain ⟨g1, g2, g3, g4, g5, g6⟩ := sq_wt h hX
  have o12 := ho 12 (by omega)
  have o14 := ho 14 (by omega)
  refine ⟨?_, fun i hi => ?_, fun r hr => ?_, ?_, ?_, ?_⟩
  · rw [o12, ho 13 (by omega), o14, ho 15 (by omega)]; exact g1
  · rcases Nat.lt_or_ge i b with z | z
    · have hv := g2 i z
      have e1 : A2 35 i = A 35 i := by rw [h35]; exact upd_ne (by omega)
      have e2 : A2 36 i = A 36 i := by rw [h36]; exact upd_ne (by omega)
      have e3 : A2 37 i = A 37 i := by rw [h37]; exact upd_ne (by omega)
      simp only [blkV, e1, e2, e3, o12, o14] at hv ⊢
      exact hv
    · obtain rfl : i = b := by omega
      exact hb
  · have hv := g3 r hr
    exact rt_up (ho 19 (by omega)) (ho 20 (by omega)) (ho 21 (by omega)) (fun n _ => by rw [o12]) (Nat.le_refl a) (fun e => absurd e (by omega)) hv
  · rw [o12, ho 13 (by omega), o14, ho 31 (by omega), ho 32 (by omega)]; exact g4
  · rw [ho 31 (by omega)]; exact g5
  · rw [ho 22 (by omega), ho 19 (by omega)]; exact g6
theorem nI_inj {a b : Nat} (ha : a < 2 ^ 31) (hb : b < 2 ^ 31) (h : nI a = nI b) : a = b := by
  have h1 := nI_t ha
  have h2 := nI_t hb
  rw [h] at h1
  omega
/-- the open blocks wait still -/
theorem wt_up {A A2 : Ar} {b n : Nat} {k q : Int32} (h35 : A2 35 = upd (A 35) b k) (h36 : A2 36 = upd (A 36) b q) (h : Wt A b n) : Wt A2 (b + 1) n := by
  obtain ⟨i, h1, h2, h3⟩ := h
  exact ⟨i, by omega, by rw [h35, upd_ne (by omega)]; exact h2, by rw [h36, upd_ne (by omega)]; exact h3⟩
/-- between two statements -/
def Bn (A : Ar) (a : Nat) : Prop := a = 0 ∨ ¬ fr (A 12) (a - 1) = 0
/-- what a statement leaves -/
def SM (a b c : Nat) (σ σ' : St) : Prop := B2 σ σ' ∧ ∃ a' b' c' u' w', a' ≤ a + 3 ∧ c' ≤ c + 1 ∧ u' ≤ 40 ∧ w' ≤ 24 ∧ b' ≤ 6 ∧ PS σ' a' b' c' u' w' ∧ TI σ' ∧ TV σ' ∧ (gI σ' 8 = 0 → SQ (gA σ') a' b' c' (Wt (gA σ') b') ∧ Bn (gA σ') a' ∧ 1 ≤ b' ∧ (a' : Int) + (gI σ 5).toInt ≤ a + (gI σ' 5).toInt ∧ 4 * (c' : Int) + (gI σ 5).toInt ≤ 4 * c + (gI σ' 5).toInt ∧ (gI σ 5).toInt < (gI σ' 5).toInt)
theorem wt_fb {σ σ' : St} {b : Nat} (h : Fb σ σ') : Wt (gA σ') b = Wt (gA σ) b := by
  unfold Wt
  rw [h.1, h.2.1]
theorem s_statement {N : Nat} (hN : 8589934592 ≤ N) {σ : St} {a b c u w : Nat} (ha : a ≤ 1290) (hc : c ≤ 390) (hu : u ≤ 40) (hw : w ≤ 24) (hb : b ≤ 6) (hb1 : 1 ≤ b) (hT : TI σ) (hV : TV σ) (hP : PS σ a b c u w) (h8 : gI σ 8 = 0) (hS : SQ (gA σ) a b c (Wt (gA σ) b)) : Tot (m_statement N σ) (fun _ σ' => SM a b c σ σ') := by
  -- STEP
  have hstep : ∀ {K : Int32 → St → Option (Unit × St)}, (∀ σ1 : St, PS σ1 (a + 1) b c u w → Gp σ σ1 0 → Fb σ σ1 → (gI σ1 8 = 0 → SQ (gA σ1) (a + 1) b c (Wt (gA σ) b) ∧ fr (gA σ1 12) a = 0) → (∀ k, k ≠ 17 → gI σ1 k = gI σ k) → Tot (K (nI a) σ1) (fun _ σ' => SM a b c σ σ')) → Tot (bd (m_emit N σ 0 0 0 0) K) (fun _ σ' => SM a b c σ σ') := by
    intro K hK
    obtain ⟨r, σ1, e, q1, q2, q3, q4, q5⟩ := s_emit (N := N) (x := 0) (y := 0) (z := 0) (v := 0) hT hV hP (by omega)
    obtain ⟨r2, σ2, e2, q⟩ := s_emitP (N := N) (x := 0) (y := 0) (z := 0) (v := 0) (X := Wt (gA σ) b) hT hV hP (by omega) ⟨by decide, by decide, nt _ (by decide), by decide⟩ (fun _ => ⟨hS, nn1 (by decide), fun e => absurd e (by decide), fun e => by rcases e with e | e <;> exact absurd e (by decide)⟩)
    rw [e] at e2
    cases e2
    rw [e, bd_s]
    subst q1
    exact hK σ1 q2 q3 q.2.2.2.1 q.2.2.2.2 q5.1
  -- the end of an assignment: VALUE, then the act
  have hval : ∀ (σ1 σ3 : St) (u3 : Nat) (x y z v : Int32), PS σ3 (a + 1) b c u3 w → u3 ≤ 40 → Gp σ σ3 2 → Fb σ σ3 → (gI σ3 8 = 0 → SQ (gA σ3) (a + 1) b c (Wt (gA σ) b) ∧ fr (gA σ3 12) a = 0) → pln x → ¬ x = 0 → (nm1 x → 0 ≤ y.toInt ∧ y.toInt ≤ 25) → ¬ x = 3 → (gI σ3 8 = 0 → (x = 5 ∨ x = 8) → z = 0 ∨ z = 1) → Tot (bd (m_worth N σ3) (fun _ σ5 => bd (m_emit N σ5 x y z v) (fun _ σ7 => m_statement_97 N σ7))) (fun _ σ' => SM a b c σ σ') := by
    intro σ1 σ3 u3 x y z v hP3 hu3 hG3 hF3 hS3 hx hx0 hy hx3 hz
    refine tot_bd (s_worth hN (X := Wt (gA σ) b) (a := a + 1) (by omega) (by omega) hu3 hG3.1 hG3.2.1 hP3 (fun e => ⟨(hS3 e).1, by omega, (hS3 e).2⟩)) (fun _ σ5 q => ?_)
    obtain ⟨qG, a5, c5, u5, l1, l2, l3, qP, qF, qS⟩ := q
    have hG5 := gp_tr hG3 qG
    refine tot_bd (s_emitP (X := Wt (gA σ) b) (x := x) qG.1 qG.2.1 qP (by omega) hx (fun e => ?_)) (fun r7 σ7 q7 => ?_)
    · obtain ⟨-, e2, e3, -⟩ := qS e
      subst e2
      exact ⟨e3, hy, fun e => absurd e hx3, hz (qG.2.2.2 e).1⟩
    · obtain ⟨-, z2, z3, z4, z5⟩ := q7
      unfold m_statement_97
      refine tot_bd (s_wants hN z3.1 z3.2.1) (fun _ σ9 hg9 => ?_)
      have hG9 := gp_tr (gp_tr hG5 z3) (gp_go hg9)
      have hk9 := hg9.2.2.1
      refine tot_some ⟨(fb_tr (fb_tr (fb_tr hF3 qF) z4) (fb_tk hk9)).2.2.2, a5 + 1, b, c5, u5, w, by omega, l2, l3, hw, hb, ps_tk hk9 z2, hg9.1, hg9.2.1, fun e => ?_⟩
      have e7 := (hg9.2.2.2.2 e).1
      have e5 := (z3.2.2.2 e7).1
      obtain ⟨c1, c2, c3, c4⟩ := qS e5
      obtain ⟨d1, d2⟩ := z5 e7
      have hFa : Fb σ σ9 := fb_tr (fb_tr (fb_tr hF3 qF) z4) (fb_tk hk9)
      have hp9 := (hG9.2.2.2 e).2
      rw [wt_fb hFa, tk_A hk9]
      refine ⟨d1, Or.inr ?_, hb1, by omega, ?_, by omega⟩
      · rw [show a5 + 1 - 1 = a5 from rfl, d2]; exact hx0
      · rcases c1 with q | q
        · subst q; omega
        · have h1 := (hG3.2.2.2 ((qG.2.2.2 e5).1)).2
          have h2 := (z3.2.2.2 e7).2
          have h3 := (hg9.2.2.2.2 e).2
          omega
  unfold m_statement
  refine tot_if (fun h6 => ?_) (fun h6 => tot_if (fun h61 => ?_) (fun h61 => ?_))
  · -- a name
    refine hstep (fun σ1 hP1 hG1 hF1 hS1 hI1 => ?_)
    refine tot_bd (s_taken hN hG1.1 hG1.2.1 (Or.inl rfl)) (fun r47 σ48 hp => ?_)
    have hk48 := hp.1.2.2.1
    have hG48 := gp_tr hG1 (gp_go hp.1)
    rw [e_isSign, bd_s]
    refine tot_if (fun _ => ?_) (fun _ => ?_)
    · refine tot_bd (s_wants hN hp.1.1 hp.1.2.1) (fun _ σ52 hg52 => ?_)
      have hgo := go_tr hp.1 hg52
      have hk := hgo.2.2.1
      refine hval σ1 σ52 u 7 r47 0 0 (ps_tk hk hP1) hu (gp_le (gp_tr hG1 (gp_go hgo)) (by decide)) (fb_tr hF1 (fb_tk hk)) (fun e => ?_) ⟨by decide, by decide, nt _ (by decide), by decide⟩ (by decide) (fun _ => ⟨hp.2.1, hp.2.2.1 rfl⟩) (by decide) (fun _ e => by rcases e with e | e <;> exact absurd e (by decide))
      rw [tk_A hk]
      exact hS1 (hgo.2.2.2.2 e).1
    · refine tot_bd (s_newUse hp.1.1 hp.1.2.1 (ps_tk hk48 hP1) hu) (fun r59 σ60 hn => ?_)
      obtain ⟨u', hu', hP60, hG60, -, -, hA60, -, hB60⟩ := hn
      refine tot_bd (s_nextA hN hG60.1) (fun _ σ62 hg62 => ?_)
      refine tot_bd (s_field hN hg62.1.1 hg62.1.2.1) (fun r63 σ64 hf => ?_)
      refine tot_bd (s_wants hN hf.1.1 hf.1.2.1) (fun _ σ66 hg66 => ?_)
      have hgo := go_tr (go_tr hg62.1 hf.1) hg66
      have hk := hgo.2.2.1
      have o : ∀ j, (j < 23 ∨ 26 < j) → gA σ66 j = gA σ1 j := fun j hj => (hk.1 j).trans ((hA60 j hj).trans (hk48.1 j))
      refine hval σ1 σ66 u' 8 r47 r63 r59 (ps_tk hk hP60) hu' (gp_le (gp_tr (gp_tr hG48 hG60) (gp_go hgo)) (by decide)) (fb_tr hF1 ⟨o 35 (by omega), o 36 (by omega), o 37 (by omega), b2_tr (b2_tr (b2_tk hk48) hB60) (b2_tk hk)⟩) (fun e => ?_) ⟨by decide, by decide, nt _ (by decide), by decide⟩ (by decide) (fun _ => ⟨hp.2.1, hp.2.2.1 rfl⟩) (by decide) (fun e _ => hf.2 (hg66.2.2.2.2 e).1)
      have e60 := (hgo.2.2.2.2 e).1
      have e48 := (hG60.2.2.2 e60).1
      have e1 := (hp.1.2.2.2.2 e48).1
      obtain ⟨t1, t2⟩ := hS1 e1
      refine ⟨sq_congr t1 (o 12 (by omega)) (o 13 (by omega)) (o 14 (by omega)) (o 15 (by omega)) (o 19 (by omega)) (o 20 (by omega)) (o 21 (by omega)) (o 22 (by omega)) (o 31 (by omega)) (o 32 (by omega)) (o 35 (by omega)) (o 36 (by omega)) (o 37 (by omega)), ?_⟩
      rw [o 12 (by omega)]
      exact t2
  · -- a call
    refine hstep (fun σ1 hP1 hG1 hF1 hS1 hI1 => ?_)
    refine tot_bd (s_call hN (X := Wt (gA σ) b) (a := a + 1) (by omega) (by omega) hG1.1 hG1.2.1 hP1 (fun e => ⟨(hS1 e).1, by omega, (hS1 e).2⟩)) (fun _ σ42 q => ?_)
    obtain ⟨qG, a5, c5, l1, l2, qP, qF, qS⟩ := q
    refine tot_bd (s_wants hN qG.1 qG.2.1) (fun _ σ44 hg => ?_)
    have hk := hg.2.2.1
    have hG9 := gp_tr (gp_tr hG1 qG) (gp_go hg)
    refine tot_some ⟨(fb_tr (fb_tr hF1 qF) (fb_tk hk)).2.2.2, a5, b, c5, u, w, by omega, l2, hu, hw, hb, ps_tk hk qP, hg.1, hg.2.1, fun e => ?_⟩
    obtain ⟨c2, c3, c4⟩ := qS (hg.2.2.2.2 e).1
    have hFa : Fb σ σ44 := fb_tr (fb_tr hF1 qF) (fb_tk hk)
    have hp9 := (hG9.2.2.2 e).2
    rw [wt_fb hFa, tk_A hk]
    subst c2
    exact ⟨c3, Or.inr c4, hb1, by omega, by omega, by omega⟩
  · rw [e_isWord, bd_s]
    refine tot_if (fun _ => ?_) (fun hw8 => ?_)
    · rw [e_isWord, bd_s]
      -- a branch: kind 1 or 3
      have hbr : ∀ (kd : Int32) (tt : Int32 → Int32), (kd = 1 ∨ kd = 3) → (kd = 3 → ∀ r, tt r = r) → gI σ 6 = 2 → Tot (bd (m_emit N σ 0 0 0 0) (fun _ σ18 => bd (m_next N σ18) (fun _ σ20 => bd (m_newTest N σ20) (fun r21 σ22 => bd (m_opens N σ22 kd r21 (tt r21)) (fun _ σ24 => some ((), σ24)))))) (fun _ σ' => SM a b c σ σ') := by
        intro kd tt hkd htt hs2
        refine hstep (fun σ1 hP1 hG1 hF1 hS1 hI1 => ?_)
        refine tot_bd (s_nextW hN hG1.1 hG1.2.1 (by rw [hI1 6 (by decide)]; exact hs2)) (fun _ σ3 hg3 => ?_)
        have hk3 := hg3.1.2.2.1
        refine tot_bd (s_newTest hN (X := Wt (gA σ) b) (a := a + 1) (by omega) hw hg3.1.1 hg3.1.2.1 (ps_tk hk3 hP1) (fun e => by rw [tk_A hk3]; exact (hS1 (hg3.1.2.2.2.2 e).1).1)) (fun r13 σ5 q => ?_)
        obtain ⟨qG, a5, w5, l1, l2, qP, qF, qS⟩ := q
        refine tot_bd (s_opens hN qG.1 qG.2.1 qP hb) (fun _ σ7 q7 => ?_)
        obtain ⟨zG, zO, zB⟩ := q7
        have hG7 := gp_tr (gp_tr (gp_tr hG1 (gp_go hg3.1)) qG) zG
        have hBa : B2 σ σ7 := b2_tr (fb_tr (fb_tr hF1 (fb_tk hk3)) qF).2.2.2 zB
        refine tot_some ⟨hBa, ?_⟩
        rcases zO with ⟨y1, y2, y3⟩ | ⟨y1, y2, y3, y4, y5, y6, y7⟩
        · exact ⟨a5, b, c, u, w5, by omega, by omega, hu, l2, hb, y2, zG.1, zG.2.1, fun e => absurd e y1⟩
        · refine ⟨a5, b + 1, c, u, w5, by omega, by omega, hu, l2, y2, y3, zG.1, zG.2.1, fun e => ?_⟩
          obtain ⟨c1, c2, c3, c4⟩ := qS (zG.2.2.2 e).1
          subst c1
          have hp7 := (hG7.2.2.2 e).2
          have hFa : Fb σ σ5 := fb_tr (fb_tr hF1 (fb_tk hk3)) qF
          have e35 : gA σ7 35 b = kd := by rw [y4, upd_eq]
          have e36 : gA σ7 36 b = nI (a + 1) := by rw [y5, upd_eq]; exact c2
          have hkd0 : ¬ kd = 0 := by rcases hkd with rfl | rfl <;> decide
          refine ⟨sq_push c3 y4 y5 y6 y7 (fun n hn hX => ?_) ⟨⟨fun e0 => absurd (e35.symm.trans e0) hkd0, fun e0 => absurd e0 (by omega)⟩, Or.inr (Or.inl ⟨by rw [e35]; exact hkd, a + 1, e36, by omega, by rw [y7 12 (by omega)]; exact c4, fun e3 => ?_⟩)⟩, Or.inr ?_, by omega, by omega, by omega, by omega⟩
          · rcases hX with hX | hX
            · rw [← wt_fb hFa] at hX
              exact wt_up y4 y5 hX
            · subst hX
              exact ⟨b, by omega, by rw [e35]; exact hkd0, e36⟩
          · rw [y6, upd_eq, htt (e35.symm.trans e3)]
            exact c2
          · rw [y7 12 (by omega), show a + 1 + 1 - 1 = a + 1 from rfl]
            intro e0
            rw [e0] at c4
            rcases c4 with c4 | c4 | c4 <;> exact absurd c4 (by decide)
      refine tot_if (fun _ => ?_) (fun hw0 => ?_)
      · rw [e_isWord, bd_s]
        refine tot_if (fun _ => ?_) (fun hw2 => ?_)
        · refine tot_bd (s_wrong hT hV (by decide)) (fun _ σ8 hp => ?_)
          exact tot_some ⟨b2_tk hp.1.2.2.1, a, b, c, u, w, by omega, by omega, hu, hw, hb, ps_tk hp.1.2.2.1 hP, hp.1.1, hp.1.2.1, fun e => absurd e hp.2.1⟩
        · exact hbr 3 (fun r => r) (Or.inr rfl) (fun _ _ => rfl) (sgF_1 hw2).2.1
      · exact hbr 1 (fun _ => -1) (Or.inl rfl) (fun e => absurd e (by decide)) (sgF_1 hw0).2.1
    · -- return
      refine hstep (fun σ1 hP1 hG1 hF1 hS1 hI1 => ?_)
      refine tot_bd (s_nextW hN hG1.1 hG1.2.1 (by rw [hI1 6 (by decide)]; exact (sgF_1 hw8).2.1)) (fun _ σ3 hg3 => ?_)
      have hk3 := hg3.1.2.2.1
      have hG3 := gp_tr hG1 (gp_go hg3.1)
      have hS3 : gI σ3 8 = 0 → SQ (gA σ3) (a + 1) b c (Wt (gA σ) b) ∧ fr (gA σ3 12) a = 0 := fun e => by rw [tk_A hk3]; exact hS1 (hg3.1.2.2.2.2 e).1
      -- behind the VALUE
      have h183 : ∀ (σ5 : St) (a5 c5 u5 : Nat) (d : Int), a5 ≤ a + 2 → c5 ≤ c + 1 → u5 ≤ 40 → PS σ5 a5 b c5 u5 w → Gp σ3 σ5 d → 0 ≤ d → Fb σ σ5 → (gI σ5 8 = 0 → a5 = a + 2 ∧ SQ (gA σ5) (a + 2) b c5 (Wt (gA σ) b) ∧ (c5 = c ∨ 3 + (gI σ3 5).toInt ≤ (gI σ5 5).toInt)) → Tot (m_statement_183 N σ5) (fun _ σ' => SM a b c σ σ') := by
        intro σ5 a5 c5 u5 d l1 l2 l3 qP qG hd qF qS
        unfold m_statement_183
        refine tot_bd (s_emitP (X := Wt (gA σ) b) (x := 9) qG.1 qG.2.1 qP (by omega) ⟨by decide, by decide, nt _ (by decide), by decide⟩ (fun e => ?_)) (fun r7 σ7 q7 => ?_)
        · obtain ⟨e2, e3, -⟩ := qS e
          subst e2
          exact ⟨e3, nn1 (by decide), fun e => absurd e (by decide), fun e => by rcases e with e | e <;> exact absurd e (by decide)⟩
        · obtain ⟨-, z2, z3, z4, z5⟩ := q7
          refine tot_bd (s_wants hN z3.1 z3.2.1) (fun _ σ9 hg9 => ?_)
          have hk9 := hg9.2.2.1
          have hG9 := gp_tr (gp_tr (gp_tr hG3 qG) z3) (gp_go hg9)
          refine tot_some ⟨(fb_tr (fb_tr qF z4) (fb_tk hk9)).2.2.2, a5 + 1, b, c5, u5, w, by omega, l2, l3, hw, hb, ps_tk hk9 z2, hg9.1, hg9.2.1, fun e => ?_⟩
          have e7 := (hg9.2.2.2.2 e).1
          have e5 := (z3.2.2.2 e7).1
          obtain ⟨c1, c2, c3⟩ := qS e5
          obtain ⟨d1, d2⟩ := z5 e7
          have hFa : Fb σ σ9 := fb_tr (fb_tr qF z4) (fb_tk hk9)
          have hp9 := (hG9.2.2.2 e).2
          rw [wt_fb hFa, tk_A hk9]
          refine ⟨d1, Or.inr ?_, hb1, by omega, ?_, by omega⟩
          · rw [show a5 + 1 - 1 = a5 from rfl, d2]; decide
          · rcases c3 with q | q
            · subst q; omega
            · have h1 := (hG3.2.2.2 ((qG.2.2.2 e5).1)).2
              have h2 := (z3.2.2.2 e7).2
              have h3 := (hg9.2.2.2.2 e).2
              omega
      rw [e_isSign, bd_s]
      refine tot_if (fun _ => ?_) (fun _ => ?_)
      · refine tot_bd (s_worth hN (X := Wt (gA σ) b) (a := a + 1) (by omega) (by omega) hu hG3.1 hG3.2.1 (ps_tk hk3 hP1) (fun e => ⟨(hS3 e).1, by omega, (hS3 e).2⟩)) (fun _ σ5 q => ?_)
        obtain ⟨qG, a5, c5, u5, l1, l2, l3, qP, qF, qS⟩ := q
        exact h183 σ5 a5 c5 u5 1 (by omega) l2 l3 qP qG (by decide) (fb_tr (fb_tr hF1 (fb_tk hk3)) qF) (fun e => ⟨(qS e).2.1, (qS e).2.2.1, (qS e).1.imp id (fun q => by omega)⟩)
      · refine tot_bd (s_emitP (X := Wt (gA σ) b) (x := 1) hG3.1 hG3.2.1 (ps_tk hk3 hP1) (by omega) ⟨by decide, by decide, nt _ (by decide), by decide⟩ (fun e => ⟨(hS3 e).1, nn1 (by decide), fun e => absurd e (by decide), fun e => by rcases e with e | e <;> exact absurd e (by decide)⟩)) (fun r7 σ7 q7 => ?_)
        obtain ⟨-, z2, z3, z4, z5⟩ := q7
        exact h183 σ7 (a + 2) c u 0 (by omega) (by omega) hu z2 z3 (by decide) (fb_tr (fb_tr hF1 (fb_tk hk3)) z4) (fun e => ⟨rfl, (z5 e).1, Or.inl rfl⟩)
