/-! the reference's reading: ends of blocks and heads: goals stay in their routine -/
theorem b_1 {b : Nat} (h : 0 < b) : nI b - 1 = nI (b - 1) := by
  rw [show b = (b - 1) + 1 by omega, ← nI_1, Nat.add_sub_cancel]
  exact Int32.add_sub_cancel _ _
/-- a block is ended: its act waits for its goal -/
theorem of_pop {σ : St} {b w : Nat} (h : OF (fun _ => False) σ) (h38 : gI σ 38 = nI (b + 2)) (hb : b + 2 ≤ 8) (hw : gA σ 36 (b + 1) = nI w) (hw2 : w < 1300) : OF (fun k => False ∨ k = w) (sI σ 38 (nI (b + 1))) := by
  obtain ⟨a, b0, st, f1, f2, f3, f4, f5, f6, f7, f8, f9, f10⟩ := h
  have eb : b0 = b + 2 := (nI_eq (by omega) (by omega)).mp (f3.symm.trans h38)
  subst eb
  obtain ⟨w0, w', w1, w2, w3, w4, w5, w6⟩ := (f8 (b + 1) (by omega)).2 (by omega)
  have ew : w' = w := (nI_eq (by omega) (by omega)).mp (w1.symm.trans hw)
  subst ew
  refine ⟨a, b + 1, st, (gI_ne (by decide)).trans f1, f2, gI_eq, by omega, f5, fun t ht => ?_, fun e => by omega, fun i hi => f8 i (by omega), fun k hk => ?_, fun k hk hg => ?_⟩
  · obtain ⟨t1, t2, t3, t4⟩ := f6 t ht
    exact ⟨t1, fun e => by omega, fun _ => t3 (by omega), t4⟩
  · rcases hk with hk | hk
    · exact absurd hk id
    · rw [hk]; exact ⟨w2, w3, by omega⟩
  · rcases f10 k hk hg with q | ⟨i, i1, i2, i3⟩ | ⟨n, n1, n2, n3, n4⟩
    · exact absurd q id
    · rcases (show i = b + 1 ∨ i < b + 1 by omega) with e | e
      · rw [e] at i3
        exact Or.inl (Or.inr ((nI_eq (by omega) (by omega)).mp (i3.symm.trans hw)))
      · exact Or.inr (Or.inl ⟨i, i1, e, i3⟩)
    · exact Or.inr (Or.inr ⟨n, n1, n2, fun e => by omega, n4⟩)
theorem cl_8 {N : Nat} {σ : St} (h8 : ¬ gI σ 8 = 0) : Par (m_closes N σ) (fun _ σ' => ¬ gI σ' 8 = 0) := by
  have em : ∀ {σ1 : St} {x y z w : Int32}, ¬ gI σ1 8 = 0 → Par (m_emit N σ1 x y z w) (fun _ σ' => ¬ gI σ' 8 = 0) := fun h => e_emit8.mono (fun _ σ' e z => h (e.symm.trans z))
  unfold m_closes
  refine par_bd (kz_m_next (kz_r σ)) (fun _ σ2 z2 => par_gd (fun _ => par_gd (fun _ => ?_)))
  have h2 : ¬ gI σ2 8 = 0 := fun e => h8 (z2.2.2 e)
  have hp : ∀ v, ¬ gI (sI σ2 38 v) 8 = 0 := fun v e => h2 ((gI_ne (by decide)).symm.trans e)
  have t151 : ∀ σ4 x1 x2, ¬ gI σ4 8 = 0 → Par (m_closes_151 N σ4 x1 x2) (fun _ σ' => ¬ gI σ' 8 = 0) := fun σ4 x1 x2 h4 => by
    unfold m_closes_151
    exact par_if (fun _ => par_gd (fun _ => par_some h4)) (fun _ => par_gd (fun _ => par_some h4))
  refine par_if (fun _ => par_bd (em (hp _)) (fun _ σ14 h14 => par_bd (em h14) (fun _ _ z => par_some z))) (fun _ => par_if (fun _ => par_gd (fun _ => par_bd (em (hp _)) (fun _ σ12 h12 => par_gd (fun _ => par_some h12)))) (fun _ => par_if (fun _ => ?_) (fun _ => t151 _ _ _ (hp _))))
  refine par_bd (kz_m_isWord (kz_r (sI σ2 38 (gI σ2 38 - 1)))) (fun r3 σ4 z4 => par_if (fun _ => t151 _ _ _ (fun e => hp _ (z4.2.2 e))) (fun _ => par_bd (kz_m_next z4) (fun _ σ6 z6 => par_bd (em (fun e => hp _ (z6.2.2 e))) (fun r7 σ8 h8 => par_gd (fun _ => par_bd (op_8 (σ := sA σ8 15 ((1300 + gA σ2 36 ((gI σ2 38 - 1).toNatClampNeg)).toNatClampNeg) (gI σ8 17)) h8) (fun _ _ z => par_some z))))))
theorem kj_close {N : Nat} {σ : St} (h : KP (fun _ => False) σ) : Par (m_closes N σ) (fun _ σ' => KO σ') := by
  by_cases c8 : gI σ 8 = 0
  · unfold m_closes
    refine par_bd ((kz_m_next (kz_r σ)).and (k8_m_next (s0 := σ) rfl)) (fun _ σ2 zz => par_gd (fun hb => par_gd (fun _ => ?_)))
    obtain ⟨z2, z8⟩ := zz
    by_cases c2 : gI σ2 8 = 0
    · obtain ⟨hof, hne⟩ := kj_z z2 h c2
      obtain ⟨a, b, st, f1, f2, f3, f4, f5, f6, f7, f8, f9, f10⟩ := id hof
      have b1 := n_pos f3 hne
      rw [f3, b_1 b1, nI_clamp (n := b - 1) (by omega)]
      refine par_if (fun k0 => ?_) (fun k0 => ?_)
      · -- a routine ends
        have eb : b = 1 := by
          have := (f8 (b - 1) (by omega)).1.mp k0
          omega
        subst eb
        have g1 : gI (sI σ2 38 (nI (1 - 1))) 17 = nI a := (gI_ne (by decide)).trans f1
        refine par_bd (u_emit g1 f2) (fun r13 σ14 q => ?_)
        obtain ⟨q1, q2, q3⟩ := q
        have g2 : gI σ14 17 = nI (a + 1) := by rw [q3]; exact gI_eq
        refine par_bd (u_emit g2 (by omega)) (fun r15 σ16 y => par_some (fun _ => ?_))
        obtain ⟨y1, y2, y3⟩ := y
        subst q3
        subst y3
        have o12 : ∀ k, k < a → gA (emS (emS (sI σ2 38 (nI (1 - 1))) a 1 0 0 0) (a + 1) 9 0 0 0) 12 (1300 + k) = gA σ2 12 (1300 + k) := fun k hk => by
          rw [emS_12, if_neg (by omega), emS_12, if_neg (by omega)]; rfl
        have n12 : gA (emS (emS (sI σ2 38 (nI (1 - 1))) a 1 0 0 0) (a + 1) 9 0 0 0) 12 (1300 + a) = 1 := by rw [emS_12, if_neg (by omega), emS_12, if_pos rfl]
        have m12 : gA (emS (emS (sI σ2 38 (nI (1 - 1))) a 1 0 0 0) (a + 1) 9 0 0 0) 12 (1300 + (a + 1)) = 9 := by rw [emS_12, if_pos rfl]
        have bd2 : ∀ t, bdy (emS (emS (sI σ2 38 (nI (1 - 1))) a 1 0 0 0) (a + 1) 9 0 0 0) t = bdy σ2 t := fun t => bdy_f (by rw [emS_r (j := 19) (by omega), emS_r (j := 19) (by omega)]; rfl) t
        have gvo : ∀ k, k < a → gv (emS (emS (sI σ2 38 (nI (1 - 1))) a 1 0 0 0) (a + 1) 9 0 0 0) k = gv σ2 k := fun k hk => by
          have o13 : gA (emS (emS (sI σ2 38 (nI (1 - 1))) a 1 0 0 0) (a + 1) 9 0 0 0) 13 (1300 + k) = gA σ2 13 (1300 + k) := by
            rw [emS_13, if_neg (by omega), emS_13, if_neg (by omega)]; rfl
          have o15 : gA (emS (emS (sI σ2 38 (nI (1 - 1))) a 1 0 0 0) (a + 1) 9 0 0 0) 15 (1300 + k) = gA σ2 15 (1300 + k) := by
            rw [emS_15, if_neg (by omega), emS_15, if_neg (by omega)]; rfl
          unfold gv
          rw [o12 k hk, o13, o15]
        refine ⟨a + 2, 0, 0, gI_eq, by omega, ?_, by omega, by omega, fun t ht => ?_, fun _ => Or.inr (by rw [show a + 2 - 1 = a + 1 by omega]; exact m12), fun i hi => absurd hi (Nat.not_lt_zero i), fun k hk => absurd hk id, fun k hk hg => ?_⟩
        · rfl
        · rw [bd2] at ht
          obtain ⟨t1, t2, t3, t4⟩ := f6 t ht
          refine ⟨by omega, fun _ => by omega, fun e => absurd e (Nat.lt_irrefl 0), ?_⟩
          rcases t4 with e | e
          · exact Or.inl e
          · rcases (show t = 0 ∨ 0 < t by omega) with e0 | e0
            · exact Or.inl e0
            · rw [o12 (t - 1) (by omega)]; exact Or.inr e
        · rcases (show k < a ∨ k = a ∨ k = a + 1 by omega) with e | e | e
          · rw [o12 k e] at hg
            rcases f10 k e hg with q | ⟨i, i1, i2, -⟩ | ⟨n, n1, n2, n3, n4⟩
            · exact absurd q id
            · omega
            · exact Or.inr (Or.inr ⟨n, by rw [gvo k e]; exact n1, by omega, fun _ => by omega, fun t ht => n4 t (by rw [bd2] at ht; exact ht)⟩)
          · rw [e, n12] at hg
            exact absurd hg (gl_n (by decide) (by decide) (by decide) (by decide))
          · rw [e, m12] at hg
            exact absurd hg (gl_n (by decide) (by decide) (by decide) (by decide))
      · -- a block inside ends
        have i1 : ¬ b - 1 = 0 := fun e => k0 ((f8 (b - 1) (by omega)).1.mpr e)
        obtain ⟨w0, w, w1, w2, w3, w4, w5, w6⟩ := (f8 (b - 1) (by omega)).2 i1
        obtain ⟨c, ec⟩ : ∃ c, b = c + 2 := ⟨b - 2, by omega⟩
        subst ec
        have hpop := of_pop hof f3 f4 (by rw [show c + 1 = c + 2 - 1 by omega]; exact w1) (by omega)
        rw [show c + 2 - 1 = c + 1 by omega] at *
        have hne2 : ¬ gI (sI σ2 38 (nI (c + 1))) 38 = 0 := fun e => by
          rw [gI_eq] at e
          have := (nI_eq (b := 0) (by omega) (by decide)).mp e
          omega
        have g17 : gI (sI σ2 38 (nI (c + 1))) 17 = nI a := (gI_ne (by decide)).trans f1
        rw [w1, show (1300 : Int32) + nI w = nI (1300 + w) from nI_add 1300 w, nI_clamp (n := 1300 + w) (by omega)]
        -- a goal is laid where the block waits
        have lay : ∀ (σ3 : St) (j n : Nat) (X : Nat → Prop), OF (fun k => X k ∨ k = w) σ3 → gA σ3 12 (1300 + w) = gA σ2 12 (1300 + w) → (j = 13 ∨ j = 15) → (gA σ2 12 (1300 + w) = 13 ↔ j = 13) → gI σ3 17 = nI n → n ≤ 1300 → OF X (sA σ3 j (1300 + w) (gI σ3 17)) := fun σ3 j n X h3 e12 hj ha h17 hn => by
          obtain ⟨l1, l2⟩ := of_lay (v := gI σ3 17) h3 hj (by rw [e12]; exact ha)
          exact of_set l1 (l2.trans h17) hn (Or.inl h17)
        have t151 : ∀ σ4 x1, Kz (sI σ2 38 (nI (c + 1))) σ4 → gI σ4 8 = 0 → ((x1 = 1 ∧ ¬ gA σ2 12 (1300 + w) = 13) ∨ (¬ x1 = 1 ∧ gA σ2 12 (1300 + w) = 13)) → Par (m_closes_151 N σ4 x1 (nI w)) (fun _ σ' => KO σ') := fun σ4 x1 z4 e4 hk => by
          have h4 := (kj_z z4 (fun _ => ⟨hpop, hne2⟩) e4).1
          have g4 : gI σ4 17 = nI a := (z4.2.1 17 (by decide)).trans g17
          have e12 : gA σ4 12 (1300 + w) = gA σ2 12 (1300 + w) := by rw [z4.1 12]; rfl
          unfold m_closes_151
          rw [show (1300 : Int32) + nI w = nI (1300 + w) from nI_add 1300 w, nI_clamp (n := 1300 + w) (by omega)]
          refine par_if (fun e => par_gd (fun _ => par_some (fun _ => ?_))) (fun e => par_gd (fun _ => par_some (fun _ => ?_)))
          · rcases hk with ⟨-, hk⟩ | ⟨hk, -⟩
            · exact lay σ4 15 a _ h4 e12 (Or.inr rfl) ⟨fun e => absurd e hk, fun e => absurd e (by decide)⟩ g4 f2
            · exact absurd e hk
          · rcases hk with ⟨hk, -⟩ | ⟨-, hk⟩
            · exact absurd hk e
            · exact lay σ4 13 a _ h4 e12 (Or.inl rfl) ⟨fun _ => rfl, fun _ => hk⟩ g4 f2
        refine par_if (fun k3 => par_gd (fun _ => ?_)) (fun k3 => par_if (fun k1 => ?_) (fun k1 => ?_))
        · have n13 : ¬ gA σ2 12 (1300 + w) = 13 := fun e => by
            have := w5.mpr e
            rw [k3] at this
            exact absurd this (by decide)
          rw [w6 k3]
          refine par_bd (kj_emit (X := fun k => False ∨ k = w) (fun _ => ⟨hpop, hne2⟩)) (fun r11 σ12 q => par_gd (fun _ => par_some (fun e => ?_)))
          have e8 : gI σ12 8 = 0 := e
          obtain ⟨a', q1, q2, q3, q4, q5, q6, q7⟩ := q e8
          have ea : a' = a := (nI_eq (by omega) (by omega)).mp (q4.symm.trans g17)
          subst ea
          have g12 : gI σ12 17 = nI (a' + 1) := by rw [q5]; exact gI_eq
          have gj : gv σ12 a' = nI w := by
            unfold gv
            rw [q5, emS_12, if_pos rfl, if_pos rfl, emS_13, if_pos rfl]
          have s1 : OF (fun k => False ∨ k = w) σ12 := of_set (k := a') (of_x q6 (fun k hk => hk.elim Or.inl (fun hk => Or.inr hk.2)) (fun k hk => hk.elim Or.inl (fun hk => Or.inr ⟨Or.inr (Or.inr (Or.inr rfl)), hk⟩))) gj (by omega) (Or.inr (Or.inr rfl))
          exact lay σ12 15 (a' + 1) _ s1 (by rw [q5, emS_12, if_neg (by omega)]; rfl) (Or.inr rfl) ⟨fun e => absurd e n13, fun e => absurd e (by decide)⟩ g12 (by omega)
        · have n13 : ¬ gA σ2 12 (1300 + w) = 13 := fun e => by
            have := w5.mpr e
            rw [k1] at this
            exact absurd this (by decide)
          refine par_bd (kz_m_isWord (kz_r (sI σ2 38 (nI (c + 1))))) (fun r3 σ4 z4 => par_if (fun _ => ?_) (fun _ => par_bd (kz_m_next z4) (fun _ σ6 z6 => ?_)))
          · by_cases e4 : gI σ4 8 = 0
            · rw [k1]
              exact t151 σ4 1 z4 e4 (Or.inl ⟨rfl, n13⟩)
            · unfold m_closes_151
              exact par_if (fun _ => par_gd (fun _ => par_some (fun e => absurd e e4))) (fun _ => par_gd (fun _ => par_some (fun e => absurd e e4)))
          · refine par_bd (kj_emit (X := fun k => False ∨ k = w) (kj_z z6 (fun _ => ⟨hpop, hne2⟩))) (fun r7 σ8 q => par_gd (fun _ => ?_))
            by_cases e8 : gI σ8 8 = 0
            · obtain ⟨a', q1, q2, q3, q4, q5, q6, q7⟩ := q e8
              have ea : a' = a := (nI_eq (by omega) (by omega)).mp (q4.symm.trans ((z6.2.1 17 (by decide)).trans g17))
              subst ea
              have g12 : gI σ8 17 = nI (a' + 1) := by rw [q5]; exact gI_eq
              have s1 : OF (fun k => k = a') (sA σ8 15 (1300 + w) (gI σ8 17)) := lay σ8 15 (a' + 1) _ (of_x q6 (fun k hk => by
                rcases hk with (hk | hk) | hk
                · exact absurd hk id
                · exact Or.inr hk
                · exact Or.inl hk.2) (fun k hk => by
                rcases hk with hk | hk
                · exact Or.inr ⟨Or.inr (Or.inr (Or.inr rfl)), hk⟩
                · exact Or.inl (Or.inr hk))) (by rw [q5, emS_12, if_neg (by omega), z6.1 12]; rfl) (Or.inr rfl) ⟨fun e => absurd e n13, fun e => absurd e (by decide)⟩ g12 (by omega)
              have e13 : gA (sA σ8 15 (1300 + w) (gI σ8 17)) 12 (1300 + a') = 13 := by
                rw [gA_sA, if_neg (by decide), q5, emS_12, if_pos rfl]
              rw [q1]
              exact par_bd (kj_open (fun _ => ⟨s1, q7⟩) (Or.inr (Or.inl rfl)) (fun e => absurd e (by decide)) (fun _ => ⟨by rw [e13]; exact Or.inr (Or.inr (Or.inr rfl)), ⟨fun _ => e13, fun _ => rfl⟩⟩) q2) (fun _ σ' z => par_some (fun e => (z e).1))
            · exact par_bd (op_8 (σ := sA σ8 15 (1300 + w) (gI σ8 17)) e8) (fun _ σ' z => par_some (fun e => absurd e z))
        · have k2 : gA σ2 35 (c + 1) = 2 := by
            rcases w0 with e | e | e
            · exact absurd e k1
            · exact e
            · exact absurd e k3
          exact t151 (sI σ2 38 (nI (c + 1))) _ (kz_r _) ((gI_ne (by decide)).trans c2) (Or.inr ⟨k1, w5.mp k2⟩)
    · exact absurd (Eq.trans z8 c8) c2
  · exact (cl_8 c8).mono (fun _ σ' z e => absurd e z)
/-- ahead of a routine's block -/
def KH (σ : St) : Prop := gI σ 8 = 0 → OF (fun _ => False) σ ∧ gI σ 38 = 0
theorem kh_z {σ σ' : St} (z : Kz σ σ') (h : KH σ) : KH σ' := fun e => by
  obtain ⟨h1, h2⟩ := h (z.2.2 e)
  exact ⟨of_f (z.2.1 17 (by decide)) (z.2.1 38 (by decide)) (z.1 12) (z.1 13) (z.1 15) (z.1 19) (z.1 35) (z.1 36) (z.1 37) h1, (z.2.1 38 (by decide)).trans h2⟩
theorem kh_A20 {σ : St} {j i : Nat} {v : Int32} (h : KH σ) (hj : j = 20 ∨ j = 21) : KH (sA σ j i v) := fun e => by
  obtain ⟨h1, h2⟩ := h e
  have ej : ∀ q, q ≠ j → gA (sA σ j i v) q = gA σ q := fun q hq => by rw [gA_sA, if_neg hq]
  exact ⟨of_f (σ := σ) rfl rfl (ej 12 (by omega)) (ej 13 (by omega)) (ej 15 (by omega)) (ej 19 (by omega)) (ej 35 (by omega)) (ej 36 (by omega)) (ej 37 (by omega)) h1, h2⟩
theorem hd_224 {N l : Nat} {σ : St} (hl : l < 16) (h : KH σ) : Par (m_head_224 N σ (nI l)) (fun _ σ' => KO σ') := by
  unfold m_head_224
  refine par_bd (kz_m_wants (kz_r σ)) (fun _ σ6 z6 => ?_)
  have h6 := kh_z z6 h
  -- the block
  have op : Par (m_opens N σ6 0 (-1) (-1)) (fun _ σ8 => gI σ8 8 = 0 → gI σ6 8 = 0 ∧ gI σ8 17 = gI σ6 17 ∧ gI σ8 38 = nI 1 ∧ (∀ j, ¬ (35 ≤ j ∧ j ≤ 37) → gA σ8 j = gA σ6 j) ∧ gA σ8 35 0 = 0) := by
    have core : ∀ σ1, Kz σ6 σ1 → Par (m_opens_27 N σ1 0 (-1) (-1)) (fun _ σ8 => gI σ8 8 = 0 → gI σ6 8 = 0 ∧ gI σ8 17 = gI σ6 17 ∧ gI σ8 38 = nI 1 ∧ (∀ j, ¬ (35 ≤ j ∧ j ≤ 37) → gA σ8 j = gA σ6 j) ∧ gA σ8 35 0 = 0) := fun σ1 hz => by
      unfold m_opens_27
      refine par_bd (kz_m_wants hz) (fun _ σ4 z => par_if (fun c => ?_) (fun c => par_some (fun e => absurd e c)))
      have c6 := z.2.2 c
      have b0 : gI σ4 38 = 0 := (z.2.1 38 (by decide)).trans (h6 c6).2
      rw [b0, show ((0 : Int32).toNatClampNeg) = 0 from rfl]
      refine par_gd (fun _ => par_gd (fun _ => par_gd (fun _ => par_some (fun _ => ⟨c6, (gI_ne (by decide)).trans (z.2.1 17 (by decide)), gI_eq, fun j hj => ?_, ?_⟩))))
      · show gA (sA (sA (sA σ4 35 0 0) 36 0 (-1)) 37 0 (-1)) j = _
        rw [gA_sA, if_neg (by omega), gA_sA, if_neg (by omega), gA_sA, if_neg (by omega), z.1 j]
      · show gA (sA (sA (sA σ4 35 0 0) 36 0 (-1)) 37 0 (-1)) 35 0 = _
        rw [gA_sA, if_neg (by decide), gA_sA, if_neg (by decide), gA_sA, if_pos rfl, pk_us]
    unfold m_opens
    exact par_bd (kz_m_isSign (kz_r σ6)) (fun r1 σ2 z => par_if (fun _ => core σ2 z) (fun _ => par_if (fun _ => par_bd (kz_m_wrong z) (fun _ σ6 z6 => core σ6 z6)) (fun _ => core σ2 z)))
  refine par_bd op (fun _ σ8 q => par_gd (fun _ => par_gd (fun _ => ?_)))
  rw [nI_clamp (n := l) (by omega), show ((1 : Int32).toNatClampNeg) = 1 from rfl]
  -- the routine is told
  have fin : ∀ σ' : St, (∀ k, gI σ' k = gI σ8 k) → (∀ j, j ≠ 19 → j ≠ 22 → gA σ' j = gA σ8 j) → gA σ' 19 = upd (gA σ8 19) l (gI σ8 17) → KO σ' := fun σ' eI eA e19 e => by
    obtain ⟨c6, q17, q38, qA, q35⟩ := q ((eI 8).symm.trans e)
    obtain ⟨hof, h38⟩ := h6 c6
    obtain ⟨a, b, st, f1, f2, f3, f4, f5, f6, f7, f8, f9, f10⟩ := hof
    have eb : b = 0 := by
      rw [h38] at f3
      exact ((nI_eq (a := 0) (by decide) (by omega)).mp f3).symm
    subst eb
    have r12 : gA σ' 12 = gA σ6 12 := (eA 12 (by decide) (by decide)).trans (qA 12 (by omega))
    have r13 : gA σ' 13 = gA σ6 13 := (eA 13 (by decide) (by decide)).trans (qA 13 (by omega))
    have r15 : gA σ' 15 = gA σ6 15 := (eA 15 (by decide) (by decide)).trans (qA 15 (by omega))
    have g17 : gI σ8 17 = nI a := q17.trans f1
    have b19 : ∀ t, bdy σ' t → bdy σ6 t ∨ t = a := fun t ht => by
      obtain ⟨r, r1, r2, r3⟩ := ht
      rw [e19, g17] at r2
      by_cases er : 8 + r = l
      · rw [er, pk_us] at r2
        exact Or.inr ((nI_eq (by omega) (by omega)).mp r2).symm
      · rw [pk_un (by omega), qA 19 (by omega)] at r2
        exact Or.inl ⟨r, r1, r2, r3⟩
    have gv2 : ∀ k, gv σ' k = gv σ6 k := fun k => by
      unfold gv
      rw [r12, r13, r15]
    refine ⟨a, 1, a, (eI 17).trans g17, f2, (eI 38).trans q38, by omega, Nat.le_refl _, fun t ht => ?_, fun e => absurd e (by decide), fun i hi => ?_, fun k hk => absurd hk id, fun k hk hg => ?_⟩
    · rw [r12]
      rcases b19 t ht with h1 | h1
      · obtain ⟨t1, t2, -, t4⟩ := f6 t h1
        exact ⟨t1, fun e => absurd e (by decide), fun _ => t1, t4⟩
      · rw [h1]
        exact ⟨Nat.le_refl _, fun e => absurd e (by decide), fun _ => Nat.le_refl _, f7 rfl⟩
    · have i0 : i = 0 := by omega
      subst i0
      rw [eA 35 (by decide) (by decide), q35]
      exact ⟨⟨fun _ => rfl, fun _ => rfl⟩, fun e => absurd rfl e⟩
    · rw [r12] at hg
      rcases f10 k hk hg with q | ⟨i, i1, i2, -⟩ | ⟨n, n1, n2, n3, n4⟩
      · exact absurd q id
      · omega
      · have hn := n3 rfl
        refine Or.inr (Or.inr ⟨n, by rw [gv2]; exact n1, n2, fun e => absurd e (by decide), fun t ht => ?_⟩)
        rcases b19 t ht with h1 | h1
        · exact n4 t h1
        · rw [h1]
          exact ⟨fun hh => by omega, fun hh => by omega⟩
  refine par_if (fun _ => par_gd (fun _ => par_some (fin _ (fun _ => rfl) (fun j h1 h2 => ?_) ?_))) (fun _ => par_some (fin _ (fun _ => rfl) (fun j h1 h2 => ?_) ?_))
  · rw [gA_sA, if_neg h2, gA_sA, if_neg h1]
  · rw [gA_sA, if_neg (by decide), gA_sA, if_pos rfl]
  · rw [gA_sA, if_neg h1]
  · rw [gA_sA, if_pos rfl]
theorem ko_head {N : Nat} {σ : St} (h : KO σ) (h38 : gI σ 38 = 0) : Par (m_head N σ) (fun _ σ' => KO σ') := by
  have l81 : ∀ (l : Nat), l < 16 → ∀ (f : Nat) (σ1 : St) (x3 : Int32), KH σ1 → Par (m_head_81 N f σ1 (nI l) x3) (fun _ σ' => KO σ') := by
    intro l hl f
    induction f with
    | zero => intro σ1 x3 _ r σ' e; cases e
    | succ f ih =>
      intro σ1 x3 h1
      show Par (m_head_81_b N (m_head_81 N f) σ1 (nI l) x3) _
      have t179 : ∀ (σ2 : St) (x5 : Int32), KH σ2 → Par (m_head_179 N (m_head_81 N f) σ2 (nI l) x5) (fun _ σ' => KO σ') := fun σ2 x5 h2 => by
        unfold m_head_179
        exact par_if (fun _ => par_gd (fun _ => par_gd (fun _ => par_gd (fun _ => par_gd (fun _ => par_bd (kz_m_takesSign (kz_r _)) (fun r11 σ12 z => ih σ12 r11 (kh_z z (kh_A20 (kh_A20 h2 (Or.inr rfl)) (Or.inl rfl))))))))) (fun c => par_some (fun e => absurd e c))
      have t132 : ∀ (g : Nat) (σ2 : St) (x4 x5 x6 : Int32), KH σ2 → Par (m_head_132 N (m_head_81 N f) g σ2 (nI l) x4 x5 x6) (fun _ σ' => KO σ') := by
        intro g
        induction g with
        | zero => intro σ2 x4 x5 x6 _ r σ' e; cases e
        | succ g ihg =>
          intro σ2 x4 x5 x6 h2
          show Par (m_head_132_b N (m_head_81 N f) (m_head_132 N (m_head_81 N f) g) σ2 (nI l) x4 x5 x6) _
          unfold m_head_132_b m_head_173
          exact par_gd (fun _ => par_if (fun _ => t179 σ2 x5 h2) (fun _ => par_if (fun _ => par_gd (fun _ => par_if (fun _ => par_bd (kz_m_wrong (kz_r σ2)) (fun _ σ14 z => ihg σ14 x4 x5 _ (kh_z z h2))) (fun _ => ihg σ2 x4 x5 _ h2))) (fun _ => t179 σ2 x5 h2)))
      have t122 : ∀ (σ2 : St) (x4 : Int32), KH σ2 → Par (m_head_122 N (m_head_81 N f) σ2 (nI l) x4) (fun _ σ' => KO σ') := fun σ2 x4 h2 => by
        unfold m_head_122
        exact par_bd (kz_m_taken (kz_r σ2)) (fun r9 σ10 z => t132 N σ10 x4 r9 0 (kh_z z h2))
      unfold m_head_81_b
      exact par_if (fun _ => hd_224 hl h1) (fun _ => par_if (fun _ => par_if (fun _ => par_gd (fun _ => par_if (fun _ => par_bd (kz_m_wrong (kz_r σ1)) (fun _ σ16 z => t122 σ16 _ (kh_z z h1))) (fun _ => t122 σ1 _ h1))) (fun _ => t122 σ1 _ h1)) (fun _ => hd_224 hl h1))
  have t46 : ∀ (l : Nat) (σ1 : St), l < 16 → KH σ1 → Par (m_head_46 N σ1 (nI l)) (fun _ σ' => KO σ') := fun l σ1 hl h1 => by
    unfold m_head_46
    refine par_bd (kz_m_wants (kz_r σ1)) (fun _ σ4 z4 => par_gd (fun _ => par_if (fun _ => par_bd (kz_m_isSign (kz_r _)) (fun r17 σ18 z => ?_)) (fun _ => l81 l hl N _ _ (kh_A20 (kh_z z4 h1) (Or.inl rfl)))))
    have h18 := kh_z z (kh_A20 (kh_z z4 h1) (Or.inl rfl))
    exact par_if (fun _ => l81 l hl N σ18 _ h18) (fun _ => l81 l hl N σ18 _ h18)
  unfold m_head
  refine par_bd (kz_m_taken (kz_r σ)) (fun r1 σ2 z2 => par_if (fun c2 => par_gd (fun hi => ?_)) (fun c2 => par_some (fun e => absurd ((gI_ne (by decide)).symm.trans e) c2)))
  have hn : ¬ (8 + r1) < 0 := fun e => by
    unfold ib at hi
    rw [decide_eq_true e] at hi
    exact absurd hi (by simp)
  obtain ⟨l, l31, el⟩ := nI_of hn
  rw [el] at hi ⊢
  have hl : l < 16 := ib_l2 hi l31
  have base : KH (sI σ2 34 r1) := fun e => by
    have h2 := ko_z z2 h c2
    exact ⟨of_f (σ := σ2) (gI_ne (by decide)) (gI_ne (by decide)) rfl rfl rfl rfl rfl rfl rfl h2, (gI_ne (by decide)).trans ((z2.2.1 38 (by decide)).trans h38)⟩
  exact par_if (fun _ => t46 l _ hl base) (fun _ => par_bd (kz_m_wrong (kz_r _)) (fun _ σ20 z => t46 l σ20 hl (kh_z z base)))
theorem ko_parses {N : Nat} {σ : St} : Par (m_parses N σ) (fun _ σ' => gI σ' 8 = 0 → OF (fun _ => False) σ' ∧ gI σ' 38 = 0) := by
  have l138 : ∀ (f : Nat) (σ1 : St) (x : Int32), (gI σ1 8 = 0 → OF (fun _ => False) σ1 ∧ gI σ1 38 = 0) → Par (m_parses_138 N f σ1 x) (fun _ σ' => gI σ' 8 = 0 → OF (fun _ => False) σ' ∧ gI σ' 38 = 0) := by
    intro f
    induction f with
    | zero => intro σ1 x _ r σ' e; cases e
    | succ f ih =>
      intro σ1 x h1
      show Par (m_parses_138_b N (m_parses_138 N f) σ1 x) _
      unfold m_parses_138_b m_parses_188 m_parses_199
      have wr : Par (gd (ib x 400) (bd (m_wrong N σ1 4 (gA σ1 30 x.toNatClampNeg)) (fun _ σ4 => m_parses_138 N f σ4 (x + 1)))) (fun _ σ' => gI σ' 8 = 0 → OF (fun _ => False) σ' ∧ gI σ' 38 = 0) := par_gd (fun _ => par_bd (kz_m_wrong (kz_r σ1)) (fun _ σ4 z => ih σ4 _ (kh_z z h1)))
      exact par_if (fun _ => par_some h1) (fun _ => par_if (fun _ => par_gd (fun _ => par_gd (fun _ => par_if (fun _ => wr) (fun _ => par_gd (fun _ => par_gd (fun _ => par_if (fun _ => ih σ1 _ h1) (fun _ => wr))))))) (fun _ => par_some h1))
  have l77 : ∀ (f : Nat) (σ1 : St), KO σ1 → Par (m_parses_77 N f σ1) (fun _ σ' => gI σ' 8 = 0 → OF (fun _ => False) σ' ∧ gI σ' 38 = 0) := by
    intro f
    induction f with
    | zero => intro σ1 _ r σ' e; cases e
    | succ f ih =>
      intro σ1 h1
      show Par (m_parses_77_b N (m_parses_77 N f) σ1) _
      have t99 : Par (m_parses_99 N (m_parses_77 N f) σ1) (fun _ σ' => gI σ' 8 = 0 → OF (fun _ => False) σ' ∧ gI σ' 38 = 0) := by
        unfold m_parses_99
        refine par_if (fun c => par_bd (ko_head h1 c) (fun _ σ2 h2 => ih σ2 h2)) (fun c => par_bd (kz_m_isSign (kz_r σ1)) (fun _ σ2 z2 => ?_))
        have h2 : KP (fun _ => False) σ2 := kj_z z2 (fun e => ⟨h1 e, c⟩)
        exact par_if (fun _ => par_bd (kj_stat h2) (fun _ σ3 h3 => ih σ3 (fun e => (h3 e).1))) (fun _ => par_bd (kj_close h2) (fun _ σ3 h3 => ih σ3 h3))
      unfold m_parses_77_b
      refine par_if (fun _ => par_if (fun _ => par_if (fun c => l138 N σ1 0 (fun e => ⟨h1 e, ?_⟩)) (fun _ => t99)) (fun _ => t99)) (fun c => l138 N σ1 0 (fun e => absurd e c))
      obtain ⟨a, b, st, f1, f2, f3, f4, -⟩ := h1 e
      rw [f3] at c ⊢
      have := (nI_leI (b := 0) (by omega) (by decide)).mp c
      rw [show b = 0 by omega]
      rfl
  have l54 : ∀ (f k : Nat) (σ1 : St), 8 ≤ k → k ≤ 16 → gI σ1 17 = 0 → gI σ1 38 = 0 → (∀ i, i + 8 < k → gA σ1 19 (8 + i) = -1) → Par (m_parses_54 N f σ1 (nI k)) (fun _ σ' => gI σ' 8 = 0 → OF (fun _ => False) σ' ∧ gI σ' 38 = 0) := by
    intro f
    induction f with
    | zero => intro k σ1 _ _ _ _ _ r σ' e; cases e
    | succ f ih =>
      intro k σ1 h8 h16 g17 g38 h19
      show Par (m_parses_54_b N (m_parses_54 N f) σ1 (nI k)) _
      unfold m_parses_54_b m_parses_73
      rw [nI_clamp (n := k) (by omega), nI_1]
      refine par_if (fun z => par_bd (kz_m_next (kz_r σ1)) (fun _ σ2 z2 => l77 N σ2 (ko_z z2 (fun _ => ?_)))) (fun z => par_gd (fun _ => ih (k + 1) _ (by omega) (by have : ¬ 16 ≤ k := fun e => z (nI_le (a := 16) e (by omega)); omega) g17 g38 (fun i hi => ?_)))
      · have hk := (nI_leI (a := 16) (by decide) (by omega)).mp z
        refine ⟨0, 0, 0, g17, by decide, g38, by decide, by decide, fun t ht => ?_, fun _ => Or.inl rfl, fun i hi => absurd hi (Nat.not_lt_zero i), fun k hk => absurd hk id, fun k hk => absurd hk (Nat.not_lt_zero k)⟩
        obtain ⟨r, r1, r2, r3⟩ := ht
        rw [h19 r (by omega)] at r2
        exact absurd r2.symm (nI_nm1 (by omega))
      · rw [gA_sA, if_pos rfl]
        by_cases e : 8 + i = k
        · rw [e, pk_us]
        · rw [pk_un e]
          exact h19 i (by omega)
  unfold m_parses
  exact par_gd (fun _ => par_gd (fun _ => par_gd (fun _ => l54 N 8 _ (by decide) (by decide) rfl rfl (fun i hi => absurd hi (by omega)))))
