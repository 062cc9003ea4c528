/-! mark and test: both sides answer alike -/
def CQ (σc σm σc' : St) : Prop := CRr (σc, σm) (gA σc' 12) (gA σc' 13) (gA σc' 14) ∨ σc' = σc
theorem cf_q {σc σm σc' σm' : St} (hg : isPr (gP σc 700) = true) (h : CF σc σm) (hc : Kc σc σc') (hm : Km σm σm') (q : CQ σc σm σc') : CF σc' σm' := by
  intro e1 e2
  refine crr_so (s := (σc, σm)) (hc.1 701 (by decide)) (so_kr hg (kr_c hc) (fun j h1 h2 => hm.2 j (by omega))) ?_
  rcases q with q | q
  · exact q
  · rw [q] at e1 e2 ⊢
    exact h e1 e2
theorem eq_mark {s : St × St} {φ : Nat → Nat} {f g h : Nat → Int32} {σ : St} (hc : CRr s f g h) (hm : MRr s φ σ) {m : Nat} (hlt : m < 42) : f m = gA σ 42 m := by
  obtain ⟨c1, c2, c3, c4, c5⟩ := hc
  obtain ⟨m1, m2, m3, m4, m5, m6⟩ := hm
  by_cases e : gI s.1 701 = -1
  · rw [(c4 e).1 m hlt, (m5 e).1 m hlt]
  · rw [(c1 m hlt).1, (m1 m hlt).1]
    congr 1
    refine n4_eq _ (c1 m hlt).2 _ (m1 m hlt).2 (fun i hi => ?_)
    rw [(m6 e).1 m i hlt hi]
    exact (c5 e).1 m i hlt hi
theorem eq_test {s : St × St} {φ : Nat → Nat} {f g h : Nat → Int32} {σ : St} (hc : CRr s f g h) (hm : MRr s φ σ) {t : Nat} (hlt : t < 24) : h t = gA σ 44 t := by
  obtain ⟨c1, c2, c3, c4, c5⟩ := hc
  obtain ⟨m1, m2, m3, m4, m5, m6⟩ := hm
  by_cases e : gI s.1 701 = -1
  · rw [(c4 e).2.2 t hlt, (m5 e).2.1 t (by omega)]
  · rw [(c3 t hlt).1, (m2 t (by omega)).1]
    congr 1
    refine n4_eq _ (c3 t hlt).2 _ (m2 t (by omega)).2 (fun i hi => ?_)
    rw [(m6 e).2.1 t i (by omega) hi]
    exact (c5 e).2.1 t i hlt hi
/-- the reference frees all marks and reckons -/
theorem m_both {N : Nat} {σc σm : St} {φ : Nat → Nat} {T : Nat} {ρ τ : Type} {oc : Option (ρ × St)} {K : St → Option (τ × St)} {Q : ρ → St → τ → St → Prop} (hP : PX (σc, σm) φ T) (hk : ∀ σ', MRr (σc, σm) φ σ' → R2 oc (K σ') Q) : R2 oc (bd (m_frees N (sI σm 0 0)) (fun _ σ2 => bd (m_reckons N σ2) (fun _ σ4 => K σ4))) Q := by
  refine r2_bdR g_frees (fun _ σ2 z => r2_bdR (m_find hP (fun k hk => ?_) (fun j hj => ?_) z.2.2) (fun _ σ4 y => hk σ4 y))
  · exact (z.1 k).trans (gI_ne (fun e => hk e.symm))
  · exact z.2.1 j hj
theorem r_mark {N : Nat} {σc σm : St} {a1 a2 a3 : Int32} (hX : LX σc σm) (hM : MI σm) (hF : CF σc σm) : R2 (x10_mark N σc a1 a2 a3) (m_mark N σm a1 a2 a3) (fun rc σc' rm _ => rc = rm ∧ CQ σc σm σc') := by
  obtain ⟨φ, T, hP⟩ := px_of hX hM
  have hO : PO σc σm (gP σc 700) (sE σc) φ := hP.1
  have hg := hO.1.1
  have hgg := pr_or hg
  obtain ⟨-, T', ⟨t1, t2, t3⟩, -⟩ := id hO
  -- a mark is asked for
  have ask : ∀ (i : Nat) (K : St → Option (Int32 × St)), i < 42 → (∀ σ', Par (K σ') (fun r _ => r = gA σ' 42 i)) → R2 (bd (x1_settle N σc 0) (fun _ σ4 => bd (x5_at N σ4 12 (nI i)) (fun r5 σ6 => some (r5, σ6)))) (bd (m_frees N (sI σm 0 0)) (fun _ σ2 => bd (m_reckons N σ2) (fun _ σ4 => K σ4))) (fun rc σc' rm _ => rc = rm ∧ CQ σc σm σc') := fun i K hi hK => by
    refine r2_bdL (c_settle0 hX hM hF) (fun _ σ4 z => r2_bdL (c_at (show i < 42 from hi)) (fun r σ5 y => m_both hP (fun σ' w => ?_)))
    obtain ⟨y1, y2⟩ := y
    rw [y1, y2]
    intro rc σc' rm σm' e1 e2
    cases e1
    exact ⟨(eq_mark z.2.2.2 w hi).trans (hK σ' _ _ e2).symm, Or.inl z.2.2.2⟩
  have no : ∀ {σ'}, (-1 : Int32) = -1 ∧ CQ σc σm σc ∧ σ' = σ' := fun {_ : St} => ⟨rfl, Or.inr rfl, rfl⟩
  unfold x10_mark
  by_cases k2 : a1 = 2
  · -- a field
    subst k2
    have h2 : ∀ t0, R2 (bd (x10_markIndex N σc 2 a2 a3) (fun r1 σ2 => (if r1 = (-1) then some ((-1), σ2) else bd (x1_settle N σ2 0) (fun _ σ4 => bd (x5_at N σ4 12 r1) (fun r5 σ6 => some (r5, σ6)))))) (m_mark_30 N (sI σm 0 0) 2 a2 a3 t0) (fun rc σc' rm _ => rc = rm ∧ CQ σc σm σc') := fun t0 => by
      unfold x10_markIndex x10_markIndex_14 m_mark_30 m_mark_51 m_mark_69 m_mark_85
      rw [if_pos rfl, if_neg (show ¬ (2 : Int32) < 0 by decide), if_neg (show ¬ (2 : Int32) < 2 by decide), if_pos (show (2 : Int32) ≤ 2 by decide), if_neg (show ¬ (2 : Int32) = 0 by decide), if_pos rfl]
      by_cases c0 : a3 = 0
      · subst c0
        rw [if_pos rfl, bd_s, if_neg (show ¬ (40 : Int32) + 0 = -1 by decide), if_neg (show ¬ (0 : Int32) < 0 by decide), if_pos (show (0 : Int32) ≤ 1 by decide)]
        refine ask 40 _ (by decide) (fun σ' => ?_)
        rw [if_neg (show ¬ (2 : Int32) = 0 by decide), if_neg (show ¬ (2 : Int32) = 1 by decide)]
        exact par_gd (fun _ => par_some rfl)
      rw [if_neg c0]
      by_cases c1 : a3 = 1
      · subst c1
        rw [if_pos rfl, bd_s, if_neg (show ¬ (40 : Int32) + 1 = -1 by decide), if_neg (show ¬ (1 : Int32) < 0 by decide), if_pos (show (1 : Int32) ≤ 1 by decide)]
        refine ask 41 _ (by decide) (fun σ' => ?_)
        rw [if_neg (show ¬ (2 : Int32) = 0 by decide), if_neg (show ¬ (2 : Int32) = 1 by decide)]
        exact par_gd (fun _ => par_some rfl)
      rw [if_neg c1, bd_s, if_pos rfl]
      refine r2_ifR (fun _ => r2_some ⟨rfl, Or.inr rfl⟩) (fun c2 => r2_ifR (fun c3 => ?_) (fun _ => r2_some ⟨rfl, Or.inr rfl⟩))
      obtain ⟨n, n1, rfl⟩ := nI_of c2
      have := (nI_leI (b := 1) n1 (by decide)).mp c3
      rcases (show n = 0 ∨ n = 1 by omega) with e | e
      · rw [e] at c0; exact absurd rfl c0
      · rw [e] at c1; exact absurd rfl c1
    unfold m_mark m_mark_29
    exact r2_ifR (fun _ => h2 0) (fun _ => r2_ifR (fun _ => h2 0) (fun _ => r2_gdR (fun _ => r2_ifR (fun _ => h2 0) (fun _ => h2 1))))
  · -- a routine
    have cls0 : x3_has N σc (gP σc 700) a2 = some (0, σc) → (bd (x10_markIndex N σc a1 a2 a3) (fun r1 σ2 => (if r1 = (-1) then some ((-1), σ2) else bd (x1_settle N σ2 0) (fun _ σ4 => bd (x5_at N σ4 12 r1) (fun r5 σ6 => some (r5, σ6)))))) = some ((-1), σc) := fun e => by
      unfold x10_markIndex
      rw [if_neg k2, hg, gd_t, e, bd_s, if_pos rfl, bd_s, if_pos rfl]
    have ref0 : Par (m_mark_30 N (sI σm 0 0) a1 a2 a3 0) (fun r _ => r = -1) := by
      unfold m_mark_30
      refine par_if (fun _ => par_some rfl) (fun z1 => par_if (fun _ => par_some rfl) (fun z2 => par_if (fun z3 => ?_) (fun _ => ?_)))
      · exfalso
        obtain ⟨n, n1, rfl⟩ := nI_of z1
        have h3 := (nI_leI (a := 2) (by decide) n1).mp z3
        have h2 : ¬ 2 < n := fun h => z2 (nI_lt (a := 2) h n1)
        exact k2 (by rw [show n = 2 by omega]; rfl)
      · rw [if_pos rfl]
        exact par_some rfl
    have both0 : x3_has N σc (gP σc 700) a2 = some (0, σc) → R2 (bd (x10_markIndex N σc a1 a2 a3) (fun r1 σ2 => (if r1 = (-1) then some ((-1), σ2) else bd (x1_settle N σ2 0) (fun _ σ4 => bd (x5_at N σ4 12 r1) (fun r5 σ6 => some (r5, σ6)))))) (m_mark_30 N (sI σm 0 0) a1 a2 a3 0) (fun rc σc' rm _ => rc = rm ∧ CQ σc σm σc') := fun e => by
      rw [cls0 e]
      intro rc σc' rm σm' e1 e2
      cases e1
      exact ⟨(ref0 _ _ e2).symm, Or.inr rfl⟩
    unfold m_mark m_mark_29
    by_cases c1 : a2 < 0
    · rw [if_pos c1]
      exact both0 (by unfold x3_has; rw [if_pos c1])
    rw [if_neg c1]
    by_cases c2 : 8 ≤ a2
    · rw [if_pos c2]
      exact both0 (by unfold x3_has; rw [if_neg c1, if_pos c2])
    rw [if_neg c2]
    obtain ⟨r, r31, rfl⟩ := nI_of c1
    have hr : r < 8 := Classical.byContradiction (fun y => c2 (nI_le (a := 8) (by omega) r31))
    rw [nI_clamp (n := r) r31]
    refine r2_gdR (fun _ => ?_)
    by_cases c3 : gA σm 19 r = -1
    · rw [if_pos c3]
      refine both0 ?_
      rw [c_has hg t2 t1 hr, if_neg (fun h => (t3 r hr).1.mp h c3)]
    rw [if_neg c3]
    have ht := (t3 r hr).1.mpr c3
    obtain ⟨q1, q2, q3, q4, q5, q6, q7, q8⟩ := rd_ok hO (r := r) ⟨hr, c3⟩
    have hm4 : (Rd (gP σc 700) σc σm).2.2.1 r ≤ 4 := q3
    generalize (Rd (gP σc 700) σc σm).2.2.1 r = m at *
    unfold x10_markIndex x10_markIndex_79 x10_markIndex_80 m_mark_30 m_mark_51 m_mark_69 m_mark_85
    rw [if_neg k2, hg, gd_t, c_has hg t2 t1 hr, bd_s, if_pos ht, if_neg (show ¬ (1 : Int32) = 0 by decide), if_neg k2, nI_clamp (n := r) r31, if_neg (show ¬ (1 : Int32) = 0 by decide), show gA (sI σm 0 0) 20 r = nI m from q5]
    by_cases d1 : a1 = 1
    · subst d1
      rw [if_pos rfl, bd_s, show (32 : Int32) + nI r = nI (32 + r) from nI_add 32 r, if_neg (nI_nm1 (by omega)), if_neg (show ¬ (1 : Int32) < 0 by decide), if_neg (show ¬ (2 : Int32) < 1 by decide), if_neg (show ¬ (2 : Int32) ≤ 1 by decide), if_neg (show ¬ (1 : Int32) = 0 by decide)]
      refine ask (32 + r) _ (by omega) (fun σ' => ?_)
      rw [if_neg (show ¬ (1 : Int32) = 0 by decide), if_pos rfl, nI_clamp (n := 32 + r) (by omega)]
      exact par_gd (fun _ => par_some rfl)
    rw [if_neg d1]
    by_cases d0 : a1 = 0
    · subst d0
      rw [if_pos rfl, if_neg (show ¬ (0 : Int32) < 0 by decide), if_neg (show ¬ (2 : Int32) < 0 by decide), if_neg (show ¬ (2 : Int32) ≤ 0 by decide), if_pos rfl]
      by_cases f1 : a3 < 0
      · rw [if_pos f1, if_pos rfl, bd_s, if_pos rfl, if_pos f1]
        exact r2_some ⟨rfl, Or.inr rfl⟩
      rw [if_neg f1, if_neg f1, hg, gd_t]
      obtain ⟨k, k31, rfl⟩ := nI_of f1
      have ea : x5_at N σc (gP σc 700 + 4) (nI r) = some (nI m, σc) := by
        have hl : lenC (gP σc 700 + 4) = 8 := by rcases hgg with e | e <;> rw [e] <;> rfl
        have hia : isIA (gP σc 700 + 4) = true := by rcases hgg with e | e <;> rw [e] <;> rfl
        unfold x5_at
        rw [if_neg c1, hia, gd_t, hl, show Int32.ofNat 8 = 8 from rfl, if_neg c2, ibk hr (by decide), gd_t, nI_clamp r31, q7]
      rw [ea, bd_s]
      refine r2_gdR (fun _ => ?_)
      by_cases f2 : nI m ≤ nI k
      · rw [if_pos f2, if_pos f2, if_pos rfl, bd_s, if_pos rfl]
        exact r2_some ⟨rfl, Or.inr rfl⟩
      · have hk : k < m := Classical.byContradiction (fun y => f2 (nI_le (by omega) k31))
        rw [if_neg f2, if_neg f2, if_neg (show ¬ (1 : Int32) = 0 by decide), bd_s, show nI r * 4 + nI k = nI (4 * r + k) from by rw [show (4 : Int32) = nI 4 from rfl, nI_mul, nI_add, Nat.mul_comm], if_neg (nI_nm1 (by omega))]
        refine ask (4 * r + k) _ (by omega) (fun σ' => ?_)
        rw [if_pos rfl, show (4 : Int32) * nI r + nI k = nI (4 * r + k) from by rw [show (4 : Int32) = nI 4 from rfl, nI_mul, nI_add], nI_clamp (n := 4 * r + k) (by omega)]
        exact par_gd (fun _ => par_some rfl)
    · rw [if_neg d0, if_pos rfl, bd_s, if_pos rfl]
      refine r2_ifR (fun _ => r2_some ⟨rfl, Or.inr rfl⟩) (fun z1 => r2_ifR (fun _ => r2_some ⟨rfl, Or.inr rfl⟩) (fun z2 => ?_))
      exfalso
      obtain ⟨n, n1, rfl⟩ := nI_of z1
      have h2 : ¬ 2 < n := fun h => z2 (nI_lt (a := 2) h n1)
      rcases (show n = 0 ∨ n = 1 ∨ n = 2 by omega) with e | e | e
      · exact d0 (by rw [e]; rfl)
      · exact d1 (by rw [e]; rfl)
      · exact k2 (by rw [e]; rfl)
theorem verd : ∀ v, v < 4 → ((nI v = 0 ∨ nI v = 1 ∨ nI v = 2 ∨ nI v = 3) ∧ (nI v = 0 ↔ v = 0) ∧ (nI v = 1 ↔ v = 1) ∧ (nI v = 2 ↔ v = 2) ∧ (nI v = 3 ↔ v = 3)) := by decide +kernel
theorem r_test {N : Nat} {σc σm : St} {a1 a2 : Int32} (hX : LX σc σm) (hM : MI σm) (hF : CF σc σm) : R2 (x10_test N σc a1 a2) (m_test N σm a1 a2) (fun rc σc' rm _ => rc = rm ∧ CQ σc σm σc') := by
  obtain ⟨φ, T, hP⟩ := px_of hX hM
  obtain ⟨s, φ2, u, w, T2, -, -, -, -, -, ⟨-, -, -, -, u5, u6, u7, u8⟩, -⟩ := hX.2.1
  have hg : isPr (gP σc 700) = true := hX.1.2.2.2.2.2.1
  have hgg := pr_or hg
  have l9 : lenC (gP σc 700 + 9) = 24 ∧ lenC (gP σc 700 + 10) = 24 := by rcases hgg with e | e <;> rw [e] <;> exact ⟨rfl, rfl⟩
  unfold x10_test m_test
  by_cases c1 : a1 < 0
  · rw [if_pos c1, if_pos c1]
    exact r2_some ⟨rfl, Or.inr rfl⟩
  rw [if_neg c1, if_neg c1, hg, gd_t]
  refine r2_gdR (fun _ => ?_)
  rw [u5, show gA σm 29 ((0 : Int32).toNatClampNeg) = nI w from u6]
  by_cases c2 : a1 < nI w
  · rw [if_pos c2, if_pos c2]
    obtain ⟨t, t31, rfl⟩ := nI_of c1
    have ht : t < w := (nI_ltI t31 (by omega)).mp c2
    rw [nI_clamp (n := t) t31]
    by_cases d0 : a2 = 0
    · rw [if_pos d0, if_pos d0]
      refine r2_bdL (c_settle0 hX hM hF) (fun _ σ4 z => r2_bdL (c_at (show t < 24 by omega)) (fun r σ5 y => m_both hP (fun σ' q => ?_)))
      obtain ⟨y1, y2⟩ := y
      have et := eq_test z.2.2.2 q (show t < 24 by omega)
      obtain ⟨v1, v2⟩ := q.2.1 t (by omega)
      rw [y1, y2, et, v1]
      unfold x10_verdictOfTest
      obtain ⟨w0, w1, w2, w3, w4⟩ := verd _ v2
      refine r2_gdR (fun _ => ?_)
      rcases (show tsv σ' t = 0 ∨ tsv σ' t = 1 ∨ tsv σ' t = 2 ∨ tsv σ' t = 3 by omega) with e | e | e | e <;> rw [e]
      · rw [if_pos (show nI 0 = 0 from rfl), bd_s, if_neg (show ¬ nI 0 = 3 by decide), if_neg (show ¬ nI 0 = 1 by decide), if_neg (show ¬ nI 0 = 2 by decide)]
        exact r2_gdR (fun _ => r2_gdR (fun _ => r2_some ⟨rfl, Or.inl z.2.2.2⟩))
      · rw [if_neg (show ¬ nI 1 = 0 by decide), if_pos (show nI 1 = 1 from rfl), bd_s, if_neg (show ¬ nI 1 = 3 by decide)]
        exact r2_gdR (fun _ => r2_some ⟨rfl, Or.inl z.2.2.2⟩)
      · rw [if_neg (show ¬ nI 2 = 0 by decide), if_neg (show ¬ nI 2 = 1 by decide), if_pos (show nI 2 = 2 from rfl), bd_s, if_neg (show ¬ nI 2 = 3 by decide)]
        exact r2_gdR (fun _ => r2_gdR (fun _ => r2_some ⟨rfl, Or.inl z.2.2.2⟩))
      · rw [if_neg (show ¬ nI 3 = 0 by decide), if_neg (show ¬ nI 3 = 1 by decide), if_neg (show ¬ nI 3 = 2 by decide), bd_s, if_pos (show nI 3 = 3 from rfl)]
        exact r2_some ⟨rfl, Or.inl z.2.2.2⟩
    rw [if_neg d0, if_neg d0]
    by_cases d1 : a2 = 1
    · rw [if_pos d1, if_pos d1]
      refine r2_bdL (c_at (show t < lenC (gP σc 700 + 9) by rw [l9.1]; omega)) (fun r σ5 y => r2_gdR (fun _ => ?_))
      rw [y.1, y.2]
      exact r2_some ⟨(u8 t ht).1, Or.inr rfl⟩
    rw [if_neg d1, if_neg d1]
    by_cases d2 : a2 = 2
    · rw [if_pos d2, if_pos d2]
      refine r2_bdL (c_at (show t < lenC (gP σc 700 + 10) by rw [l9.2]; omega)) (fun r σ5 y => r2_gdR (fun _ => ?_))
      rw [y.1, y.2]
      exact r2_some ⟨(u8 t ht).2, Or.inr rfl⟩
    rw [if_neg d2, if_neg d2]
    exact r2_some ⟨rfl, Or.inr rfl⟩
  · rw [if_neg c2, if_neg c2]
    exact r2_some ⟨rfl, Or.inr rfl⟩
