/-! use and count: both sides answer alike -/
/-- a use's fact is in every solution -/
theorem up_use {σc σm σ : St} {G s l : Nat} {φ tv : Nat → Nat} {D : FD} (h : PO σc σm G s φ) (hS : Sol σc G s (Rd G σc σm) l tv D) (hJ : Jr (φ s) (UU σc G s φ D) D σ) {k v b : Nat} (hk : k < φ s) (hx : ¬ gZ σ 41 k = 0) (hc : cNm σm k = 5 ∨ cNm σm k = 8) (h15 : gA σm 15 k = nI v) (hv : v < 40) (hb : b < 2) (hl : lb (gZ σ 41 k) (2 * oNm σm k + b) = true) : D.2.2.2.2 (100 + v) b := by
  obtain ⟨s1, s2, s3⟩ := hS
  obtain ⟨x1, x2, x3⟩ := rK_ok h.1.2.2.2.2.1.1 s k hk
  generalize rK φ s k = p at *
  obtain ⟨i, ei⟩ : ∃ i, k = φ p + i := ⟨k - φ p, by omega⟩
  obtain ⟨u1, u2, u3, u4, u5⟩ := hJ.1 k hk hx p i x1 ei x3
  have hrow := s3 p x1 u1
  have cno : ∀ c, c < 14 → gA σm 12 k = nI c → c ≠ 5 → c ≠ 8 → False := fun c hc14 e n5 n8 => by
    rw [show cNm σm k = c from clo_of e (by omega)] at hc
    omega
  have val : VX σm (Rd G σc σm) (dn σc G p) k → i = 1 → ¬ dn σc G p 0 = 0 → efV (Rd G σc σm) D (D.1 p) (dn σc G p) → D.2.2.2.2 (100 + v) b := fun hv2 e1 e0 hef => by
    rcases hv2 with ⟨-, a⟩ | ⟨-, a⟩ | ⟨-, a, -⟩ | ⟨-, a, -⟩ | ⟨k4, a, b1, b2, -, -, b7⟩ | ⟨-, a, -⟩
    · exact (cno 1 (by decide) a (by decide) (by decide)).elim
    · exact (cno 2 (by decide) a (by decide) (by decide)).elim
    · exact (cno 3 (by decide) a (by decide) (by decide)).elim
    · exact (cno 4 (by decide) a (by decide) (by decide)).elim
    · have e7 : dn σc G p 7 = v := nI_tb dn_lt (by omega) (b7.symm.trans h15)
      rw [show oNm σm k = dn σc G p 5 from clo_of b1 (by omega)] at hl
      have := hef.2.2.1 k4 (by omega) b hb (u3 e1 e0 _ b b2 hb hl)
      rw [e7] at this
      exact this
    · exact (cno 6 (by decide) a (by decide) (by decide)).elim
  rcases rx_of h x1 with ⟨e, l, a0, a1⟩ | ⟨e, l, a0, b, a1⟩ | ⟨e, l, a0, b, b3, b4, b5, b6, b7⟩ | ⟨e, l, a0, b, bv, a2, a3, a4⟩ | ⟨e, l, a0, b, bv, a2, a3, a4, a5, a6, a7⟩ | ⟨e, l, a0, b, bv, b4⟩ | ⟨e, l, a0, bv, a2⟩
  · rcases (show i = 0 ∨ i = 1 by omega) with e1 | e1
    · exact (cno 1 (by decide) (by rw [ei, e1]; exact a0) (by decide) (by decide)).elim
    · exact (cno 9 (by decide) (by rw [ei, e1]; exact a1) (by decide) (by decide)).elim
  · exact (cno 13 (by decide) (by rw [ei, show i = 0 by omega]; exact a0) (by decide) (by decide)).elim
  · rcases (show i = 0 ∨ i = 1 by omega) with e1 | e1
    · exact (cno 0 (by decide) (by rw [ei, e1]; exact a0) (by decide) (by decide)).elim
    · rcases b7 with ⟨-, z⟩ | ⟨w, w1, -, z, -⟩
      · exact (cno 12 (by decide) (by rw [ei, e1]; exact z) (by decide) (by decide)).elim
      · exact (cno (10 + w) (by omega) (by rw [ei, e1]; exact z) (by omega) (by omega)).elim
  · rcases (show i = 0 ∨ i = 1 ∨ i = 2 by omega) with e1 | e1 | e1
    · exact (cno 0 (by decide) (by rw [ei, e1]; exact a0) (by decide) (by decide)).elim
    · exact val (by rw [ei, e1]; exact bv) e1 (by omega) (hrow.2.2.2.2 (by omega)).1
    · exact (cno 7 (by decide) (by rw [ei, e1]; exact a2) (by decide) (by decide)).elim
  · rcases (show i = 0 ∨ i = 1 ∨ i = 2 by omega) with e1 | e1 | e1
    · exact (cno 0 (by decide) (by rw [ei, e1]; exact a0) (by decide) (by decide)).elim
    · exact val (by rw [ei, e1]; exact bv) e1 (by omega) (hrow.2.2.2.2 (by omega)).1
    · have hfi := ((hrow.2.2.2.2 (by omega)).2 (u5 e1).1).2.1 e
      have hns := (u5 e1).2.1
      rw [e1] at ei
      rw [← ei] at a3 a7
      have e3 : dn σc G p 3 = v := nI_tb dn_lt (by omega) (a7.symm.trans h15)
      rw [show oNm σm k = dn σc G p 1 from clo_of a3 (by omega)] at hl
      have := hfi.1 (by omega) _ hb (hns _ _ a4 hb hl)
      rw [e3] at this
      exact this
  · rcases (show i = 0 ∨ i = 1 by omega) with e1 | e1
    · exact (cno 0 (by decide) (by rw [ei, e1]; exact a0) (by decide) (by decide)).elim
    · exact val (by rw [ei, e1]; exact bv) e1 (by omega) (hrow.2.2.2.2 (by omega)).1
  · rcases (show i = 0 ∨ i = 1 ∨ i = 2 by omega) with e1 | e1 | e1
    · exact (cno 0 (by decide) (by rw [ei, e1]; exact a0) (by decide) (by decide)).elim
    · exact val (by rw [ei, e1]; exact bv) e1 (by omega) (hrow.2.2.2.2 (by omega)).1
    · exact (cno 9 (by decide) (by rw [ei, e1]; exact a2) (by decide) (by decide)).elim
/-- the fact that the reference finds of a use -/
theorem m_fact {N : Nat} {σc σm σ : St} {φ : Nat → Nat} {T v : Nat} (hP : PX (σc, σm) φ T) (hM : MRr (σc, σm) φ σ) (hv : v < 40) : Par (m_useFact N σ (nI v)) (fun r σ' => σ' = σ ∧ ∃ w, w < 4 ∧ r = nI w ∧ ((∃ k, k < φ (sE σc) ∧ (cNm σm k = 5 ∨ cNm σm k = 8) ∧ gA σm 15 k = nI v ∧ ((gZ σ 41 k = 0 ∧ w = 0) ∨ (¬ gZ σ 41 k = 0 ∧ w = fm (gZ σ 41 k) (oNm σm k)))) ∨ (w = 0 ∧ ∀ k, k < φ (sE σc) → (cNm σm k = 5 ∨ cNm σm k = 8) → ¬ gA σm 15 k = nI v))) := by
  obtain ⟨hO, h18, -⟩ := hP
  have hO : PO σc σm (gP σc 700) (sE σc) φ := hO
  have h18 : gI σm 18 = nI (φ (sE σc)) := h18
  have ha := hO.1.2.2.2.1
  obtain ⟨m1, m2, m3, m4, -⟩ := hM
  have lp : ∀ (f k : Nat), k ≤ φ (sE σc) → (∀ j, j < k → (cNm σm j = 5 ∨ cNm σm j = 8) → ¬ gA σm 15 j = nI v) → Par (m_useFact_2 N f σ (nI v) (nI k)) (fun r σ' => σ' = σ ∧ ∃ w, w < 4 ∧ r = nI w ∧ ((∃ k, k < φ (sE σc) ∧ (cNm σm k = 5 ∨ cNm σm k = 8) ∧ gA σm 15 k = nI v ∧ ((gZ σ 41 k = 0 ∧ w = 0) ∨ (¬ gZ σ 41 k = 0 ∧ w = fm (gZ σ 41 k) (oNm σm k)))) ∨ (w = 0 ∧ ∀ k, k < φ (sE σc) → (cNm σm k = 5 ∨ cNm σm k = 8) → ¬ gA σm 15 k = nI v))) := by
    intro f
    induction f with
    | zero => intro k _ _ r σ' e; cases e
    | succ f ih =>
      intro k hk hno
      show Par (m_useFact_2_b N (m_useFact_2 N f) σ (nI v) (nI k)) _
      unfold m_useFact_2_b m_useFact_31 m_useFact_41 m_useFact_72
      rw [show gI σ 18 = nI (φ (sE σc)) from (m4 18 (by decide) (by decide)).trans h18, nI_clamp (n := k) (by omega), m3 12 (by decide), m3 15 (by decide), m3 13 (by decide), nI_1]
      refine par_if (fun z => par_some ⟨rfl, 0, by decide, rfl, Or.inr ⟨rfl, fun j hj => hno j ?_⟩⟩) (fun z => par_gd (fun _ => ?_))
      · have := (nI_leI (by omega) (by omega)).mp z
        omega
      · have z2 : k < φ (sE σc) := Classical.byContradiction (fun y => z (nI_le (by omega) (by omega)))
        obtain ⟨p1, p2⟩ := pa_of hO k z2
        have go : ∀ c : Nat, (c = 5 ∨ c = 8) → gA σm 12 k = nI c → Par (gd (ib (nI k) 2600) (if gA σm 15 k = nI v then gd (ib (nI k) 1300) (if lg_cmp (gZ σ 41 k) 0 = 0 then some (0, σ) else gd (ib (nI k) 1300) (gd (ib (nI k) 2600) (bd (m_factOf N σ (gZ σ 41 k) (gA σm 13 k)) (fun r1 σ2 => some (r1, σ2))))) else m_useFact_2 N f σ (nI v) (nI (k + 1)))) (fun r σ' => σ' = σ ∧ ∃ w, w < 4 ∧ r = nI w ∧ ((∃ k, k < φ (sE σc) ∧ (cNm σm k = 5 ∨ cNm σm k = 8) ∧ gA σm 15 k = nI v ∧ ((gZ σ 41 k = 0 ∧ w = 0) ∨ (¬ gZ σ 41 k = 0 ∧ w = fm (gZ σ 41 k) (oNm σm k)))) ∨ (w = 0 ∧ ∀ k, k < φ (sE σc) → (cNm σm k = 5 ∨ cNm σm k = 8) → ¬ gA σm 15 k = nI v))) := fun c hc e => by
          have ec : cNm σm k = c := clo_of e (by omega)
          have ho : gA σm 13 k = nI (oNm σm k) ∧ oNm σm k < 26 := by
            rw [ec] at p2
            rcases hc with hc | hc <;> subst hc
            · exact ⟨p2.2.1, p2.2.2.1⟩
            · exact ⟨p2.2.1, p2.2.2.1⟩
          refine par_gd (fun _ => par_if (fun y => par_gd (fun _ => par_if (fun x => ?_) (fun x => par_gd (fun _ => par_gd (fun _ => ?_))))) (fun y => ih (k + 1) (by omega) (fun j hj hj2 => ?_)))
          · exact par_some ⟨rfl, 0, by decide, rfl, Or.inl ⟨k, z2, by omega, y, Or.inl ⟨lgc.mp x, rfl⟩⟩⟩
          · rw [ho.1, n_fact (by omega), bd_s]
            exact par_some ⟨rfl, _, fm_lt, rfl, Or.inl ⟨k, z2, by omega, y, Or.inr ⟨fun e0 => x (lgc.mpr e0), rfl⟩⟩⟩
          · rcases (show j = k ∨ j < k by omega) with e2 | e2
            · rw [e2]; exact y
            · exact hno j e2 hj2
        refine par_if (fun e => go 5 (Or.inl rfl) e) (fun n5 => par_gd (fun _ => par_if (fun e => go 8 (Or.inr rfl) e) (fun n8 => ih (k + 1) (by omega) (fun j hj hj2 => ?_))))
        rcases (show j = k ∨ j < k by omega) with e2 | e2
        · exfalso
          rw [e2] at hj2
          rcases hj2 with e5 | e8
          · rw [p1, e5] at n5; exact n5 rfl
          · rw [p1, e8] at n8; exact n8 rfl
        · exact hno j e2 hj2
  unfold m_useFact
  exact lp N 0 (Nat.zero_le _) (fun j hj => absurd hj (Nat.not_lt_zero j))
/-- both sides find the same fact of a use -/
theorem eq_use {N : Nat} {σc σm σ : St} {φ : Nat → Nat} {T v : Nat} {f g h : Nat → Int32} (hP : PX (σc, σm) φ T) (hU : UB σm) (hc : CRr (σc, σm) f g h) (hM : MRr (σc, σm) φ σ) (hv : v < 40) : Par (m_useFact N σ (nI v)) (fun r σ' => σ' = σ ∧ r = g v) := by
  have hO : PO σc σm (gP σc 700) (sE σc) φ := hP.1
  have h18 : gI σm 18 = nI (φ (sE σc)) := hP.2.1
  have ha := hO.1.2.2.2.1
  refine (m_fact hP hM hv).mono (fun r σ' z => ?_)
  obtain ⟨z1, w, z2, z3, z4⟩ := z
  refine ⟨z1, ?_⟩
  obtain ⟨c1, c2, c3, c4, c5⟩ := hc
  obtain ⟨m1, m2, m3, m4, m5, m6⟩ := hM
  by_cases e : gI σc 701 = -1
  · rw [z3, (c4 e).2.1 v hv]
    rcases z4 with ⟨k, k1, k2, k3, k4⟩ | ⟨z4, -⟩
    · rcases k4 with ⟨-, k4⟩ | ⟨k4, -⟩
      · rw [k4]; rfl
      · exact absurd ((m5 e).2.2 k k1) k4
    · rw [z4]; rfl
  · obtain ⟨d1, d2, d3⟩ := c5 e
    obtain ⟨e1, e2, hsol, hJ⟩ := m6 e
    rw [z3, (c2 v hv).1]
    congr 1
    refine n4_eq _ z2 _ (c2 v hv).2 (fun b hb => ?_)
    have d3 : (g v).toNatClampNeg.testBit b = true ↔ ∀ D, So (σc, σm) D → D.2.2.2.2 (100 + v) b := d3 v b hv hb
    rw [d3]
    obtain ⟨a, u, f1, f2, f3, f4, f5, f6⟩ := hU
    have ea : a = φ (sE σc) := (nI_eq (by omega) (by omega)).mp (f1.symm.trans h18)
    subst ea
    have hus : ∀ k, k < φ (sE σc) → (cNm σm k = 5 ∨ cNm σm k = 8) → us (gA σm 12 k) := fun k hk hc => by
      have := (pa_of hO k hk).1
      rw [this]
      rcases hc with hc | hc <;> rw [hc]
      · exact Or.inl rfl
      · exact Or.inr rfl
    -- the reference's own solution has it just where the act has it
    have dm : (Dm σc σm (gP σc 700) (sE σc) φ σ).2.2.2.2 (100 + v) b → ∃ k, k < φ (sE σc) ∧ (cNm σm k = 5 ∨ cNm σm k = 8) ∧ gA σm 15 k = nI v ∧ ¬ gZ σ 41 k = 0 ∧ lb (gZ σ 41 k) (2 * oNm σm k + b) = true := fun hd => by
      rcases hd with ⟨q, -⟩ | ⟨-, -, k, k1, k2, k3, k4, k5⟩
      · omega
      · rw [show 100 + v - 100 = v by omega] at k3
        exact ⟨k, k1, k2, k3, k4, k5⟩
    rcases z4 with ⟨k, k1, k2, k3, k4⟩ | ⟨z4, z5⟩
    · have uni : ∀ k', k' < φ (sE σc) → (cNm σm k' = 5 ∨ cNm σm k' = 8) → gA σm 15 k' = nI v → k' = k := fun k' q1 q2 q3 => by
        rcases (show k' = k ∨ k' < k ∨ k < k' by omega) with q | q | q
        · exact q
        · exact absurd (q3.trans k3.symm) (f6 k' k q k1 (hus k' q1 q2) (hus k k1 k2))
        · exact absurd (k3.trans q3.symm) (f6 k k' q q1 (hus k k1 k2) (hus k' q1 q2))
      rcases k4 with ⟨k4, k5⟩ | ⟨k4, k5⟩
      · rw [k5, Nat.zero_testBit]
        refine ⟨fun q => absurd q (by decide), fun q => ?_⟩
        obtain ⟨k', q1, q2, q3, q4, -⟩ := dm (q _ hsol)
        rw [uni k' q1 q2 q3] at q4
        exact absurd k4 q4
      · rw [k5, fm_b hb]
        refine ⟨fun q D hD => up_use hO hD (hJ D hD) k1 k4 k2 k3 hv hb q, fun q => ?_⟩
        obtain ⟨k', q1, q2, q3, q4, q5⟩ := dm (q _ hsol)
        rw [uni k' q1 q2 q3] at q5
        exact q5
    · rw [z4, Nat.zero_testBit]
      refine ⟨fun q => absurd q (by decide), fun q => ?_⟩
      obtain ⟨k', q1, q2, q3, -⟩ := dm (q _ hsol)
      exact absurd q3 (z5 k' q1 q2)
theorem r_useF {N : Nat} {σc σm : St} {a1 a2 : Int32} (hX : LX σc σm) (hM : MI σm) (hF : CF σc σm) (hU : UB σm) : R2 (x10_use N σc a1 a2) (m_use N σm a1 a2) (fun rc σc' rm _ => rc = rm ∧ CQ σc σm σc') := by
  obtain ⟨φ, T, hP⟩ := px_of hX hM
  obtain ⟨s, φ2, u, w, T2, -, -, -, -, -, ⟨u1, u2, u3, u4, -⟩, -⟩ := hX.2.1
  have hg : isPr (gP σc 700) = true := hX.1.2.2.2.2.2.1
  have hgg := pr_or hg
  have l6 : lenC (gP σc 700 + 6) = 40 ∧ lenC (gP σc 700 + 7) = 40 ∧ lenC (gP σc 700 + 8) = 40 := by rcases hgg with e | e <;> rw [e] <;> exact ⟨rfl, rfl, rfl⟩
  unfold x10_use m_use
  by_cases c1 : a1 < 0
  · rw [if_pos c1, if_pos c1]
    exact r2_some ⟨rfl, Or.inr rfl⟩
  rw [if_neg c1, if_neg c1, hg, gd_t]
  refine r2_gdR (fun _ => ?_)
  rw [u1, show gA σm 26 ((0 : Int32).toNatClampNeg) = nI u from u2]
  by_cases c2 : a1 < nI u
  · rw [if_pos c2, if_pos c2]
    obtain ⟨t, t31, rfl⟩ := nI_of c1
    have ht : t < u := (nI_ltI t31 (by omega)).mp c2
    rw [nI_clamp (n := t) t31]
    by_cases d0 : a2 = 0
    · rw [if_pos d0, if_pos d0]
      refine r2_bdL (c_settle0 hX hM hF) (fun _ σ4 z => r2_bdL (c_at (show t < 40 by omega)) (fun r σ5 y => m_both hP (fun σ' q => r2_bdR (eq_use hP hU z.2.2.2 q (show t < 40 by omega)) (fun r6 σ7 x => ?_))))
      obtain ⟨y1, y2⟩ := y
      obtain ⟨x1, x2⟩ := x
      obtain ⟨v1, v2⟩ := z.2.2.2.2.1 t (by omega)
      rw [y1, y2, x1, x2, v1]
      unfold x10_verdictOfUse m_stateOf
      have hcase : (gA σ4 13 t).toNatClampNeg = 0 ∨ (gA σ4 13 t).toNatClampNeg = 1 ∨ (gA σ4 13 t).toNatClampNeg = 2 ∨ (gA σ4 13 t).toNatClampNeg = 3 := by omega
      rcases hcase with e | e | e | e <;> rw [e]
      · rw [if_neg (show ¬ nI 0 = 1 by decide), if_neg (show ¬ nI 0 = 2 by decide), if_neg (show ¬ nI 0 = 3 by decide), bd_s, if_pos (show nI 0 = 0 from rfl), bd_s]
        exact r2_some ⟨rfl, Or.inl z.2.2.2⟩
      · rw [if_pos (show nI 1 = 1 from rfl), bd_s, if_neg (show ¬ nI 1 = 0 by decide), if_neg (show ¬ nI 1 = 2 by decide), if_neg (show ¬ nI 1 = 3 by decide), bd_s]
        exact r2_some ⟨rfl, Or.inl z.2.2.2⟩
      · rw [if_neg (show ¬ nI 2 = 1 by decide), if_pos (show nI 2 = 2 from rfl), bd_s, if_neg (show ¬ nI 2 = 0 by decide), if_pos (show nI 2 = 2 from rfl), bd_s]
        exact r2_some ⟨rfl, Or.inl z.2.2.2⟩
      · rw [if_neg (show ¬ nI 3 = 1 by decide), if_neg (show ¬ nI 3 = 2 by decide), if_pos (show nI 3 = 3 from rfl), bd_s, if_neg (show ¬ nI 3 = 0 by decide), if_neg (show ¬ nI 3 = 2 by decide), if_pos (show nI 3 = 3 from rfl), bd_s]
        exact r2_some ⟨rfl, Or.inl z.2.2.2⟩
    rw [if_neg d0, if_neg d0]
    by_cases d1 : a2 = 1
    · rw [if_pos d1, if_pos d1]
      refine r2_bdL (c_at (show t < lenC (gP σc 700 + 6) by rw [l6.1]; omega)) (fun r σ5 y => r2_gdR (fun _ => ?_))
      rw [y.1, y.2]
      exact r2_some ⟨(u4 t ht).1, Or.inr rfl⟩
    rw [if_neg d1, if_neg d1]
    by_cases d2 : a2 = 2
    · rw [if_pos d2, if_pos d2]
      refine r2_bdL (c_at (show t < lenC (gP σc 700 + 7) by rw [l6.2.1]; omega)) (fun r σ5 y => r2_gdR (fun _ => ?_))
      rw [y.1, y.2]
      exact r2_some ⟨(u4 t ht).2.1, Or.inr rfl⟩
    rw [if_neg d2, if_neg d2]
    by_cases d3 : a2 = 3
    · rw [if_pos d3, if_pos d3]
      refine r2_bdL (c_at (show t < lenC (gP σc 700 + 8) by rw [l6.2.2]; omega)) (fun r σ5 y => r2_gdR (fun _ => ?_))
      rw [y.1, y.2]
      exact r2_some ⟨(u4 t ht).2.2, Or.inr rfl⟩
    rw [if_neg d3, if_neg d3]
    exact r2_some ⟨rfl, Or.inr rfl⟩
  · rw [if_neg c2, if_neg c2]
    exact r2_some ⟨rfl, Or.inr rfl⟩
/-- how many of the first n are v -/
def cF (f : Nat → Int32) (v : Int32) (n : Nat) : Nat := cnb (fun i => decide (f i = v)) n
theorem cF_1 {f : Nat → Int32} {v : Int32} {n : Nat} : cF f v (n + 1) = if f n = v then cF f v n + 1 else cF f v n := by
  show cnb (fun i => decide (f i = v)) n + (if decide (f n = v) = true then 1 else 0) = _
  by_cases e : f n = v
  · rw [if_pos e, decide_eq_true e, if_pos rfl]; rfl
  · rw [if_neg e, decide_eq_false e, if_neg (by decide)]; rfl
theorem c_count {N u : Nat} {σ : St} {v : Int32} (hg : isPr (gP σ 700) = true) (hu : gI σ (100 * gP σ 700 + 11) = nI u) (h40 : u ≤ 40) : ∀ (f i : Nat), i ≤ u → Par (x10_usesOfFact_12 N f σ v (nI (cF (gA σ 13) v i)) (nI i)) (fun r σ' => σ' = σ ∧ r = nI (cF (gA σ 13) v u)) := by
  intro f
  induction f with
  | zero => intro i _ r σ' e; cases e
  | succ f ih =>
    intro i hi
    show Par (x10_usesOfFact_12_b N (x10_usesOfFact_12 N f) σ v (nI (cF (gA σ 13) v i)) (nI i)) _
    unfold x10_usesOfFact_12_b x10_usesOfFact_44
    rw [hg, gd_t, hu]
    refine par_if (fun z => ?_) (fun z => ?_)
    · have e : i = u := by have := (nI_leI (by omega) (by omega)).mp z; omega
      rw [e]
      exact par_some ⟨rfl, rfl⟩
    · have z2 : i < u := Classical.byContradiction (fun y => z (nI_le (by omega) (by omega)))
      refine par_bd (c_at (show i < 40 by omega)) (fun r σ1 y => ?_)
      obtain ⟨y1, y2⟩ := y
      rw [y1, y2, nI_1, nI_1]
      have hn := ih (i + 1) (by omega)
      rw [cF_1] at hn
      by_cases c : gA σ 13 i = v
      · rw [if_pos c]
        rw [if_pos c] at hn
        exact hn
      · rw [if_neg c]
        rw [if_neg c] at hn
        exact hn
theorem m_countL {N u : Nat} {σc σm σ : St} {φ : Nat → Nat} {T : Nat} {f g h : Nat → Int32} {a1 : Int32} (hP : PX (σc, σm) φ T) (hU : UB σm) (hc : CRr (σc, σm) f g h) (hM : MRr (σc, σm) φ σ) (hu : gA σ 26 0 = nI u) (h40 : u ≤ 40) : ∀ (n i : Nat), i ≤ u → Par (m_count_30 N n σ a1 (nI (cF g 3 i)) (nI (cF g 1 i)) (nI i)) (fun r σ' => Par (m_count_83 N σ a1 (nI (cF g 3 u)) (nI (cF g 1 u))) (fun r2 _ => r = r2) ∧ True) := by
  intro n
  induction n with
  | zero => intro i _ r σ' e; cases e
  | succ n ih =>
    intro i hi
    show Par (m_count_30_b N (m_count_30 N n) σ a1 (nI (cF g 3 i)) (nI (cF g 1 i)) (nI i)) _
    unfold m_count_30_b
    rw [show gA σ 26 ((0 : Int32).toNatClampNeg) = nI u from hu]
    refine par_gd (fun _ => par_if (fun z => ?_) (fun z => ?_))
    · have e : i = u := by have := (nI_leI (by omega) (by omega)).mp z; omega
      rw [e]
      exact fun r σ' e1 => ⟨fun r2 σ2 e2 => by rw [e1] at e2; cases e2; rfl, trivial⟩
    · have z2 : i < u := Classical.byContradiction (fun y => z (nI_le (by omega) (by omega)))
      refine par_bd (eq_use hP hU hc hM (show i < 40 by omega)) (fun r13 σ14 y => ?_)
      obtain ⟨y1, y2⟩ := y
      rw [y1, y2]
      have hn := ih (i + 1) (by omega)
      rw [cF_1, cF_1] at hn
      have core : ∀ (t0 t1 : Int32), t0 + t1 = nI (if g i = 3 then cF g 3 i + 1 else cF g 3 i) → Par (m_count_57 N (m_count_30 N n) σ a1 (nI (cF g 1 i)) (nI i) t0 t1) (fun r σ' => Par (m_count_83 N σ a1 (nI (cF g 3 u)) (nI (cF g 1 u))) (fun r2 _ => r = r2) ∧ True) := fun t0 t1 e => by
        unfold m_count_57 m_count_75
        refine par_bd (eq_use hP hU hc hM (show i < 40 by omega)) (fun r15 σ16 x => ?_)
        obtain ⟨x1, x2⟩ := x
        rw [x1, x2, e, nI_1, nI_1, show nI (cF g 1 i) + 0 = nI (cF g 1 i) from nI_add (cF g 1 i) 0]
        by_cases c : g i = 1
        · rw [if_pos c]
          rw [if_pos c] at hn
          exact hn
        · rw [if_neg c]
          rw [if_neg c] at hn
          exact hn
      by_cases c : g i = 3
      · rw [if_pos c]
        exact core _ _ (by rw [if_pos c]; exact nI_1 _)
      · rw [if_neg c]
        exact core _ _ (by rw [if_neg c]; exact nI_add (cF g 3 i) 0)
theorem r_count {N : Nat} {σc σm : St} {a1 : Int32} (hX : LX σc σm) (hM : MI σm) (hF : CF σc σm) (hU : UB σm) : R2 (x10_count N σc a1) (m_count N σm a1) (fun rc σc' rm _ => rc = rm ∧ CQ σc σm σc') := by
  obtain ⟨φ, T, hP⟩ := px_of hX hM
  obtain ⟨s, φ2, u, w, T2, -, -, -, -, -, ⟨u1, u2, u3, u4, u5, u6, u7, u8⟩, -⟩ := hX.2.1
  obtain ⟨l1, l2, l3, l4, l5, hg, l7, ⟨T0, t1, t2, t3, t4⟩, l9⟩ := hX.1
  have hgg := pr_or hg
  have facts : ∀ (v : Int32) (b : Bool), (a1 = if b then 4 else 5) → (v = if b then 3 else 1) → R2 (bd (x10_usesOfFact N σc v) (fun r9 σ10 => some (r9, σ10))) (m_count_19 N (sI σm 0 0) a1 0 0) (fun rc σc' rm _ => rc = rm ∧ CQ σc σm σc') := fun v b e1 e2 => by
    unfold x10_usesOfFact m_count_19
    rw [bd_bd]
    refine r2_bdL (c_settle0 hX hM hF) (fun _ σ4 z => m_both hP (fun σ' q => ?_))
    have hu4 : gI σ4 (100 * gP σ4 700 + 11) = nI u := by rw [z.1.2.2 700 (by decide), z.1.1 _ (by omega)]; exact u1
    have hg4 : isPr (gP σ4 700) = true := by rw [z.1.2.2 700 (by decide)]; exact hg
    have hum : gA σ' 26 0 = nI u := by rw [q.2.2.1 26 (by decide)]; exact u2
    refine r2_bdL (c_count (v := v) hg4 hu4 u3 N 0 (Nat.zero_le _)) (fun r5 σ6 y => ?_)
    obtain ⟨y1, y2⟩ := y
    rw [y1, y2]
    intro rc σc' rm σm' f1 f2
    cases f1
    refine ⟨?_, Or.inl z.2.2.2⟩
    have h1 := (m_countL (a1 := a1) hP hU z.2.2.2 q hum u3 N 0 (Nat.zero_le _) rm σm' f2).1
    have h2 : m_count_83 N σ' a1 (nI (cF (gA σ4 13) 3 u)) (nI (cF (gA σ4 13) 1 u)) = some (nI (cF (gA σ4 13) v u), σ') := by
      unfold m_count_83
      cases b
      · rw [e1, e2, if_neg (by decide), if_neg (by decide), if_neg (by decide), if_neg (by decide), if_neg (by decide), if_pos (by decide)]
        rfl
      · rw [e1, e2, if_neg (by decide), if_neg (by decide), if_neg (by decide), if_neg (by decide), if_pos (by decide)]
        rfl
    exact (h1 _ _ h2).symm
  unfold x10_count m_count
  by_cases c0 : a1 = 0
  · subst c0
    unfold m_count_83
    rw [if_pos rfl, if_neg (by decide), if_neg (by decide), if_pos rfl, hg, gd_t, t3]
    unfold m_routinesMany
    refine r2_bdR (show Par (m_routinesMany_4 N N (sI σm 0 0) 0 0) (fun r σ' => σ' = sI σm 0 0 ∧ r = nI (cnt8 T0)) from n_many (N := N) (σ := sI σm 0 0) (T := T0) (fun r hr => (t4 r hr).1) N 0 (by decide)) (fun r6 σ7 y => ?_)
    rw [y.2]
    exact r2_some ⟨rfl, Or.inr rfl⟩
  rw [if_neg c0]
  by_cases c1 : a1 = 1
  · subst c1
    unfold m_count_83
    rw [if_pos rfl, if_neg (by decide), if_neg (by decide), if_neg (by decide), if_pos rfl, hg, gd_t, u1]
    exact r2_gdR (fun _ => r2_some ⟨u2.symm, Or.inr rfl⟩)
  rw [if_neg c1]
  by_cases c2 : a1 = 2
  · subst c2
    unfold m_count_83
    rw [if_pos rfl, if_neg (by decide), if_neg (by decide), if_neg (by decide), if_neg (by decide), if_pos rfl, hg, gd_t, u5]
    exact r2_gdR (fun _ => r2_some ⟨u6.symm, Or.inr rfl⟩)
  rw [if_neg c2]
  by_cases c3 : a1 = 3
  · subst c3
    unfold m_count_83
    rw [if_pos rfl, if_neg (by decide), if_neg (by decide), if_neg (by decide), if_neg (by decide), if_neg (by decide), if_pos rfl]
    exact r2_some ⟨l9.trans (gI_ne (by decide)).symm, Or.inr rfl⟩
  rw [if_neg c3]
  by_cases c4 : a1 = 4
  · rw [if_pos c4, if_pos c4]
    exact facts 3 true c4 rfl
  rw [if_neg c4, if_neg c4]
  by_cases c5 : a1 = 5
  · rw [if_pos c5, if_pos c5]
    exact facts 1 false c5 rfl
  rw [if_neg c5, if_neg c5]
  unfold m_count_83
  rw [if_neg c0, if_neg c1, if_neg c2, if_neg c3, if_neg c4, if_neg c5]
  exact r2_some ⟨rfl, Or.inr rfl⟩
