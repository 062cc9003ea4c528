theorem sq_congr {A A2 : Ar} {a b c : Nat} {X : Nat → Prop} (h : SQ A a b c X) (h12 : A2 12 = A 12) (h13 : A2 13 = A 13) (h14 : A2 14 = A 14) (h15 : A2 15 = A 15) (h19 : A2 19 = A 19) (h20 : A2 20 = A 20) (h21 : A2 21 = A 21) (h22 : A2 22 = A 22) (h31 : A2 31 = A 31) (h32 : A2 32 = A 32) (h35 : A2 35 = A 35) (h36 : A2 36 = A 36) (h37 : A2 37 = A 37) : SQ A2 a b c X := by
  simp only [SQ, blkV, rtV, h12, h13, h14, h15, h19, h20, h21, h22, h31, h32, h35, h36, h37] at h ⊢
  exact h
/-- the open blocks' rows stay -/
def Fb (σ σ' : St) : Prop := gA σ' 35 = gA σ 35 ∧ gA σ' 36 = gA σ 36 ∧ gA σ' 37 = gA σ 37 ∧ B2 σ σ'
theorem fb_rf (σ : St) : Fb σ σ := ⟨rfl, rfl, rfl, b2_rf σ⟩
theorem fb_tr {σ σ1 σ2 : St} (h : Fb σ σ1) (h2 : Fb σ1 σ2) : Fb σ σ2 := ⟨h2.1.trans h.1, h2.2.1.trans h.2.1, h2.2.2.1.trans h.2.2.1, b2_tr h.2.2.2 h2.2.2.2⟩
theorem fb_tk {σ σ' : St} (h : Tk σ σ') : Fb σ σ' := ⟨h.1 _, h.1 _, h.1 _, b2_tk h⟩
theorem fb_em {σ σ' : St} {a : Nat} {x y z w : Int32} (h : gA σ' = emA (gA σ) a x y z w) (hI : (∀ k, k ≠ 17 → gI σ' k = gI σ k) ∧ σ'.2.2.2 = σ.2.2.2) : Fb σ σ' := by
  refine ⟨?_, ?_, ?_, b2_em h hI.1 hI.2⟩ <;> (rw [h]; exact emA_o (by omega))
theorem s_field {N : Nat} (hN : 8589934592 ≤ N) {σ : St} (hT : TI σ) (hV : TV σ) : Tot (m_field N σ) (fun r σ' => Go σ σ' 1 ∧ (gI σ' 8 = 0 → r = 0 ∨ r = 1)) := by
  have h41 : ∀ σ2 : St, TI σ2 → TV σ2 → (gI σ2 8 = 0 → gI σ2 7 = 15 ∨ gI σ2 7 = 16) → Tot (m_field_41 N σ2) (fun r σ' => Go σ2 σ' 1 ∧ (gI σ' 8 = 0 → r = 0 ∨ r = 1)) := by
    intro σ2 hT2 hV2 h
    unfold m_field_41
    refine tot_bd (s_taken hN hT2 hV2 (Or.inl rfl)) (fun r1 σ3 hp => ?_)
    refine tot_some ⟨hp.1, fun e => ?_⟩
    have h8 := (hp.1.2.2.2.2 e).1
    rw [(hp.2.2.2.2 e).2]
    rcases h h8 with q | q <;> rw [q]
    · exact Or.inl (by decide)
    · exact Or.inr (by decide)
  have h32 : Tot (m_field_32 N σ) (fun r σ' => Go σ σ' 1 ∧ (gI σ' 8 = 0 → r = 0 ∨ r = 1)) := by
    unfold m_field_32
    refine tot_bd (s_wrong hT hV (by decide)) (fun _ σ4 hp => ?_)
    exact (h41 σ4 hp.1.1 hp.1.2.1 (fun e => absurd e hp.2.1)).mono (fun _ σ' q => ⟨go_le (go_tr (go_le hp.1 (d2 := 0) (by decide)) q.1) (by decide), q.2⟩)
  unfold m_field
  exact tot_if (fun h => tot_if (fun h2 => tot_if (fun h3 => h41 σ hT hV (fun _ => Or.inl h3)) (fun _ => tot_if (fun h3 => h41 σ hT hV (fun _ => Or.inr h3)) (fun _ => h32))) (fun _ => h32)) (fun h => h41 σ hT hV (fun e => absurd e h))
theorem sq_call {A A2 : Ar} {a b c : Nat} {X : Nat → Prop} {l n : Int32} (h : SQ A a b c X) (hl : 0 ≤ l.toInt ∧ l.toInt ≤ 7) (h31 : A2 31 = upd (A 31) c l) (h32 : A2 32 = upd (A 32) c n) (ho : ∀ j, j ≠ 30 → j ≠ 31 → j ≠ 32 → A2 j = A j) : SQ A2 a b (c + 1) X := by
  obtain ⟨g1, g2, g3, g4, g5, g6⟩ := h
  have o12 := ho 12 (by decide) (by decide) (by decide)
  have o13 := ho 13 (by decide) (by decide) (by decide)
  have o14 := ho 14 (by decide) (by decide) (by decide)
  have o15 := ho 15 (by decide) (by decide) (by decide)
  refine ⟨?_, fun i hi => ?_, fun r hr => ?_, fun k hk e => ?_, fun j hj => ?_, ?_⟩
  · rw [o12, o13, o14, o15]; exact g1
  · have := g2 i hi
    simp only [blkV, ho 35 (by decide) (by decide) (by decide), ho 36 (by decide) (by decide) (by decide), ho 37 (by decide) (by decide) (by decide), o12, o14] at this ⊢
    exact this
  · have := g3 r hr
    simp only [rtV, ho 19 (by decide) (by decide) (by decide), ho 20 (by decide) (by decide) (by decide), ho 21 (by decide) (by decide) (by decide), o12] at this ⊢
    exact this
  · rw [o12] at e
    obtain ⟨j, p1, p2, p3⟩ := g4 k hk e
    refine ⟨j, by omega, ?_, ?_⟩
    · rw [h31, o13, ← p2]
      unfold upd
      rw [if_neg (by omega)]
    · rw [h32, o14, ← p3]
      unfold upd
      rw [if_neg (by omega)]
  · rw [h31]
    unfold upd
    split
    · exact hl
    · exact g5 j (by omega)
  · rw [ho 22 (by decide) (by decide) (by decide), ho 19 (by decide) (by decide) (by decide)]
    exact g6
/-- what call() leaves -/
def CA (X : Nat → Prop) (a b c u w : Nat) (σ σ' : St) : Prop := ∃ a' c', a' ≤ a + 1 ∧ c' ≤ c + 1 ∧ PS σ' a' b c' u w ∧ Fb σ σ' ∧ (gI σ' 8 = 0 → a' = a + 1 ∧ SQ (gA σ') (a + 1) b c' X ∧ ¬ fr (gA σ' 12) a = 0)
theorem s_call_106 {N : Nat} (hN : 8589934592 ≤ N) {σ : St} {a b c u w n : Nat} {x1 x2 x4 : Int32} {X : Nat → Prop} (hT : TI σ) (hV : TV σ) (hP : PS σ a b c u w) (ha : a ≤ 1299) (hc : c ≤ 399) (hl : 0 ≤ x2.toInt ∧ x2.toInt ≤ 7) (hn : gI σ 8 = 0 → n ≤ 4) (hS : gI σ 8 = 0 → SQ (gA σ) a b c X ∧ 1 ≤ a ∧ fr (gA σ 12) (a - 1) = 0) : Tot (m_call_106 N σ x1 x2 (nI n) x4) (fun _ σ' => Gp σ σ' 1 ∧ CA X a b c u w σ σ') := by
  unfold m_call_106
  refine tot_bd (s_wants hN hT hV) (fun _ σ6 hg => ?_)
  have hP6 := ps_tk hg.2.2.1 hP
  refine tot_if (fun h8 => ?_) (fun h8 => tot_some ⟨gp_go hg, a, c, by omega, by omega, hP6, fb_tk hg.2.2.1, fun e => absurd e h8⟩)
  obtain ⟨q1, q2, q3, q4, q5⟩ := id hP6
  have h0 := (hg.2.2.2.2 h8).1
  obtain ⟨s1, s2, s3⟩ := hS h0
  have hA6 := tk_A hg.2.2.1
  have hn4 := hn h0
  rw [q3]
  have hcl : (nI c).toNatClampNeg = c := nI_clamp (by omega)
  have hi : ib (nI c) 400 = true := ib_m (by rw [nI_t (by omega)]; omega) (by rw [nI_t (by omega)]; omega) (by decide)
  rw [hi, hcl]
  refine tot_gd rfl (tot_gd rfl (tot_gd rfl ?_))
  have hP7 : PS (sI (sA (sA (sA σ6 30 c x1) 31 c x2) 32 c (nI n)) 33 (nI c + 1)) a b (c + 1) u w := ⟨q1, q2, gI_eq.trans (nI_succ c).symm, q4, q5⟩
  refine tot_bd (s_emit (σ := sI (sA (sA (sA σ6 30 c x1) 31 c x2) 32 c (nI n)) 33 (nI c + 1)) hg.1 hg.2.1 hP7 ha) (fun r7 σ8 hp => ?_)
  obtain ⟨rfl, e2, e3, e4, e5⟩ := hp
  have hi2 : ib ((1300 : Int32) + nI a) 2600 = true := ib_m (by rw [nI_c ha, nI_t (by omega)]; omega) (by rw [nI_c ha, nI_t (by omega)]; omega) (by decide)
  have hA7 : ∀ j, j ≠ 30 → j ≠ 31 → j ≠ 32 → gA (sI (sA (sA (sA σ6 30 c x1) 31 c x2) 32 c (nI n)) 33 (nI c + 1)) j = gA σ j := by
    intro j h1 h2 h3
    show gA (sA (sA (sA σ6 30 c x1) 31 c x2) 32 c (nI n)) j = gA σ j
    rw [gA_sA, if_neg h3, gA_sA, if_neg h2, gA_sA, if_neg h1, hA6]
  have hS7 : SQ (gA (sI (sA (sA (sA σ6 30 c x1) 31 c x2) 32 c (nI n)) 33 (nI c + 1))) a b (c + 1) X := by
    refine sq_call (n := nI n) s1 hl ?_ ?_ hA7
    · show gA (sA (sA (sA σ6 30 c x1) 31 c x2) 32 c (nI n)) 31 = _
      rw [gA_sA, if_neg (by decide), gA_sA, if_pos rfl, gA_sA, if_neg (by decide), hA6]
    · show gA (sA (sA (sA σ6 30 c x1) 31 c x2) 32 c (nI n)) 32 = _
      rw [gA_sA, if_pos rfl, gA_sA, if_neg (by decide), gA_sA, if_neg (by decide), hA6]
  have hS8 : SQ (gA σ8) (a + 1) b (c + 1) X := by
    rw [e4]
    refine sq_emit hS7 (act_plain ⟨by decide, by decide⟩ (fun e => ?_) (fun e => absurd e (by decide)) (fun e => ?_) (fun _ => ⟨hl.1, hl.2, ?_, ?_, s2, ?_⟩) (fun e => ?_) (fun e => absurd e (by decide))) (fun _ => ⟨c, by omega, ?_, ?_⟩)
    · rcases e with e | e | e | e | e | e | e <;> exact absurd e (by decide)
    · rcases e with e | e <;> exact absurd e (by decide)
    · rw [nI_t (by omega)]; omega
    · rw [nI_t (by omega)]; omega
    · rw [hA7 12 (by decide) (by decide) (by decide)]; exact s3
    · rcases e with e | e | e <;> exact absurd e (by decide)
    · show gA (sA (sA (sA σ6 30 c x1) 31 c x2) 32 c (nI n)) 31 c = x2
      rw [gA_sA, if_neg (by decide), gA_sA, if_pos rfl]
      unfold upd
      rw [if_pos rfl]
    · show gA (sA (sA (sA σ6 30 c x1) 31 c x2) 32 c (nI n)) 32 c = nI n
      rw [gA_sA, if_pos rfl]
      unfold upd
      rw [if_pos rfl]
  have hj : ∀ j, j ≠ 16 → gA (sA σ8 16 (((1300 : Int32) + nI a).toNatClampNeg) x4) j = gA σ8 j := fun j hj => by rw [gA_sA, if_neg hj]
  have hG : Gp σ (sA σ8 16 (((1300 : Int32) + nI a).toNatClampNeg) x4) 1 := gp_le (gp_tr (gp_go hg) (show Gp σ6 (sA σ8 16 (((1300 : Int32) + nI a).toNatClampNeg) x4) 0 from e3)) (by decide)
  refine tot_gd hi2 (tot_some ⟨hG, a + 1, c + 1, by omega, by omega, ?_, ?_, fun _ => ⟨rfl, ?_, ?_⟩⟩)
  · obtain ⟨z1, z2, z3, z4, z5⟩ := e2
    exact ⟨z1, z2, z3, by rw [hj 26 (by decide)]; exact z4, by rw [hj 29 (by decide)]; exact z5⟩
  · have f1 := fb_tr (fb_tk hg.2.2.1) (show Fb σ6 σ8 from ⟨by rw [e4, emA_o (by omega), hA7 35 (by decide) (by decide) (by decide), hA6], by rw [e4, emA_o (by omega), hA7 36 (by decide) (by decide) (by decide), hA6], by rw [e4, emA_o (by omega), hA7 37 (by decide) (by decide) (by decide), hA6], b2_tr (b2_I (b2_A (b2_A (b2_A (b2_rf σ6) (Nat.zero_le _)) (Nat.zero_le _)) (Nat.zero_le _)) (by omega)) (b2_em e4 e5.1 e5.2)⟩)
    exact ⟨(hj 35 (by decide)).trans f1.1, (hj 36 (by decide)).trans f1.2.1, (hj 37 (by decide)).trans f1.2.2.1, b2_A f1.2.2.2 (by rw [nI_cl ha]; show 1300 ≤ 1300 + a; omega)⟩
  · exact sq_congr hS8 (hj 12 (by decide)) (hj 13 (by decide)) (hj 14 (by decide)) (hj 15 (by decide)) (hj 19 (by decide)) (hj 20 (by decide)) (hj 21 (by decide)) (hj 22 (by decide)) (hj 31 (by decide)) (hj 32 (by decide)) (hj 35 (by decide)) (hj 36 (by decide)) (hj 37 (by decide))
  · rw [hj 12 (by decide), e4, em12, fr_upd_eq]
    decide
theorem ca_tk {X : Nat → Prop} {a b c u w : Nat} {σ σ1 σ' : St} (h : Tk σ σ1) (q : CA X a b c u w σ1 σ') : CA X a b c u w σ σ' := by
  obtain ⟨a', c', q1, q2, q3, q4, q5⟩ := q
  exact ⟨a', c', q1, q2, q3, fb_tr (fb_tk h) q4, q5⟩
theorem s_call_45 {N : Nat} (hN : 8589934592 ≤ N) {X : Nat → Prop} {a b c u w : Nat} (ha : a ≤ 1299) (hc : c ≤ 399) : ∀ (m : Nat) (σ : St) (x1 x2 x4 x5 : Int32) (n : Nat), TI σ → TV σ → PS σ a b c u w → 0 ≤ x2.toInt ∧ x2.toInt ≤ 7 → (gI σ 8 = 0 → n ≤ 4) → n ≤ 5 → (gI σ 8 = 0 → SQ (gA σ) a b c X ∧ 1 ≤ a ∧ fr (gA σ 12) (a - 1) = 0) → ((gI σ 8 = 0 ∧ (1203 - (gI σ 5).toInt).toNat < m) ∨ (¬ gI σ 8 = 0 ∧ 0 < m)) → Tot (m_call_45 N m σ x1 x2 (nI n) x4 x5) (fun _ σ' => Gp σ σ' 1 ∧ CA X a b c u w σ σ') := by
  intro m
  induction m with
  | zero => intro σ x1 x2 x4 x5 n hT hV hP hl hn hn5 hS hm; rcases hm with ⟨-, h⟩ | ⟨-, h⟩ <;> exact absurd h (Nat.not_lt_zero _)
  | succ m ih =>
    intro σ x1 x2 x4 x5 n hT hV hP hl hn hn5 hS hm
    show Tot (m_call_45_b N (m_call_45 N m) σ x1 x2 (nI n) x4 x5) _
    have hend : Tot (m_call_106 N σ x1 x2 (nI n) x4) (fun _ σ' => Gp σ σ' 1 ∧ CA X a b c u w σ σ') := s_call_106 hN hT hV hP ha hc hl hn hS
    unfold m_call_45_b
    refine tot_if (fun _ => hend) (fun _ => tot_if (fun h8 => ?_) (fun _ => hend))
    have hm1 : (1203 - (gI σ 5).toInt).toNat < m + 1 := by
      rcases hm with ⟨-, h⟩ | ⟨h, -⟩
      · exact h
      · exact absurd h8 h
    have tp := hT.2.2
    have tp2 := hT.2.1
    have h78 : ∀ σ2 : St, Go σ σ2 0 → (gI σ2 8 = 0 → σ2 = σ ∧ (gI σ 6 = 0 → n ≤ 3)) → Tot (m_call_78 N (m_call_45 N m) σ2 x1 x2 (nI n) x4) (fun _ σ' => Gp σ σ' 1 ∧ CA X a b c u w σ σ') := by
      intro σ2 hg2 hq
      unfold m_call_78
      refine tot_bd (s_taken hN hg2.1 hg2.2.1 (Or.inl rfl)) (fun r9 σ10 hp => ?_)
      have hg10 := go_tr hg2 hp.1
      refine tot_bd (s_takesSign hN hg10.1 hg10.2.1) (fun r11 σ12 hq12 => ?_)
      have hg12 : Go σ σ12 1 := by
        rcases hq12 with ⟨-, e, -⟩ | ⟨-, hg, -, -⟩
        · rw [e]; exact go_le hg10 (by decide)
        · exact go_le (go_tr hg10 hg) (by decide)
      have hk12 := hg12.2.2.1
      have hnn : gI σ12 8 = 0 → n + 1 ≤ 4 := by
        intro e
        have e10 : gI σ10 8 = 0 := by
          rcases hq12 with ⟨-, e2, -⟩ | ⟨-, -, hf, -⟩
          · rw [← e2]; exact e
          · rw [← hf.1]; exact e
        have h2 := (hp.1.2.2.2.2 e10).1
        obtain ⟨rfl, h3⟩ := hq h2
        exact by have := h3 (hp.2.2.2.2 e10).1; omega
      rw [← nI_succ n]
      refine (ih σ12 x1 x2 _ r11 (n + 1) hg12.1 hg12.2.1 (ps_tk hk12 hP) hl hnn (by have := hn h8; omega) (fun e => ?_) ?_).mono (fun _ σ' q => ⟨gp_le (gp_tr (gp_go hg12) q.1) (by decide), ca_tk hk12 q.2⟩)
      · rw [tk_A hk12]
        exact hS h8
      · have hpl := hg12.2.2.2.2
        by_cases e : gI σ12 8 = 0
        · have := (hpl e).2
          exact Or.inl ⟨e, by omega⟩
        · exact Or.inr ⟨e, by omega⟩
    have base := go_rf hT hV
    refine tot_if (fun h6 => ?_) (fun h6 => h78 σ base (fun _ => ⟨rfl, fun e => absurd e h6⟩))
    refine tot_if (fun h4 => ?_) (fun h4 => h78 σ base (fun _ => ⟨rfl, fun _ => ?_⟩))
    · refine tot_bd (s_wrong hT hV (by decide)) (fun _ σ14 hp => ?_)
      exact h78 σ14 (go_le hp.1 (by decide)) (fun e => absurd e hp.2.1)
    · have := hn h8
      rcases (show n = 4 ∨ n ≤ 3 by omega) with q | q
      · subst q
        exact absurd (by decide) h4
      · exact q
theorem s_call {N : Nat} (hN : 8589934592 ≤ N) {σ : St} {X : Nat → Prop} {a b c u w : Nat} (ha : a ≤ 1299) (hc : c ≤ 399) (hT : TI σ) (hV : TV σ) (hP : PS σ a b c u w) (hS : gI σ 8 = 0 → SQ (gA σ) a b c X ∧ 1 ≤ a ∧ fr (gA σ 12) (a - 1) = 0) : Tot (m_call N σ) (fun _ σ' => Gp σ σ' 3 ∧ CA X a b c u w σ σ') := by
  unfold m_call
  refine tot_bd (s_taken hN hT hV (Or.inr rfl)) (fun r1 σ2 hp => ?_)
  refine tot_bd (s_wants hN hp.1.1 hp.1.2.1) (fun _ σ4 hg => ?_)
  have hg4 := go_tr hp.1 hg
  have hk := hg4.2.2.1
  have tp := hg4.1.2.2
  have tp2 := hg4.1.2.1
  have go : ∀ x5 : Int32, Tot (m_call_45 N N σ4 (gI σ 5) r1 0 0 x5) (fun _ σ' => Gp σ σ' 3 ∧ CA X a b c u w σ σ') := by
    intro x5
    refine (s_call_45 hN ha hc N σ4 (gI σ 5) r1 0 x5 0 hg4.1 hg4.2.1 (ps_tk hk hP) ⟨hp.2.1, hp.2.2.2.1 rfl⟩ (fun _ => by omega) (by omega) (fun e => ?_) ?_).mono (fun _ σ' q => ⟨gp_le (gp_tr (gp_go hg4) q.1) (by decide), ca_tk hk q.2⟩)
    · rw [tk_A hk]
      exact hS (hg4.2.2.2.2 e).1
    · by_cases e : gI σ4 8 = 0
      · exact Or.inl ⟨e, by have := hg4.1.1; omega⟩
      · exact Or.inr ⟨e, by omega⟩
  refine tot_if (fun _ => ?_) (fun _ => go 0)
  rw [e_isSign, bd_s]
  exact tot_if (fun _ => go 1) (fun _ => go 0)
