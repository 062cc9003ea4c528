/-! the reference's reading: values, tests, statements, ends of blocks -/
def HU (w : Int32) (P : Nat → Prop) (σ : St) : Prop := gI σ 8 = 0 → ∃ v, w = nI v ∧ v < 40 ∧ ¬ P v ∧ UF (fun q => P q ∨ q = v) σ
theorem hu_z {w : Int32} {P : Nat → Prop} {σ σ' : St} (z : Kz σ σ') (h : HU w P σ) : HU w P σ' := fun e => by
  obtain ⟨v, v1, v2, v3, v4⟩ := h (z.2.2 e)
  exact ⟨v, v1, v2, v3, ku_z z (fun _ => v4) e⟩
theorem us_n {x : Int32} (h1 : x ≠ 5) (h2 : x ≠ 8) : ¬ us x := fun e => e.elim h1 h2
theorem ku_worth {N : Nat} {P : Nat → Prop} {σ : St} (h : KU P σ) : Par (m_worth N σ) (fun _ σ' => KU P σ') := by
  have em : ∀ {σ1 : St} {x y z w : Int32}, KU P σ1 → x ≠ 5 → x ≠ 8 → Par (bd (m_emit N σ1 x y z w) (fun _ σ2 => some ((), σ2))) (fun _ σ' => KU P σ') := fun h1 h2 h3 => par_bd (ku_emN h1 (us_n h2 h3)) (fun _ _ z => par_some z.1)
  unfold m_worth
  refine par_if (fun _ => par_bd (ku_m_isWord h) (fun r1 σ2 h2 => par_if (fun _ => par_bd (ku_m_isWord h2) (fun r3 σ4 h4 => par_if (fun _ => par_bd (ku_m_isWord h4) (fun r5 σ6 h6 => par_if (fun _ => par_if (fun _ => ?_) (fun _ => par_if (fun _ => par_bd (ku_m_call h6) (fun _ _ z => par_some z)) (fun _ => par_bd (ku_m_wrong h6) (fun _ _ z => par_some z)))) (fun _ => ?_))) (fun _ => par_bd (ku_m_next h4) (fun _ σ34 h34 => em h34 (by decide) (by decide))))) (fun _ => par_bd (ku_m_next h2) (fun _ σ38 h38 => em h38 (by decide) (by decide))))) (fun _ => par_some h)
  · refine par_bd (ku_m_taken h6) (fun r11 σ12 h12 => par_bd (ku_m_isSign h12) (fun r13 σ14 h14 => par_if (fun _ => em h14 (by decide) (by decide)) (fun _ => ?_)))
    refine par_bd (ku_new h14) (fun r15 σ16 h16 => par_bd (kz_m_next (kz_r σ16)) (fun _ σ18 z18 => par_bd (kz_m_field z18) (fun r19 σ20 z20 => par_bd (ku_emU (hu_z z20 h16) (Or.inl rfl)) (fun _ _ z => par_some z))))
  · exact par_bd (ku_m_next h6) (fun _ σ26 h26 => par_bd (ku_m_taken h26) (fun r27 σ28 h28 => par_bd (ku_m_taken h28) (fun r29 σ30 h30 => em h30 (by decide) (by decide))))
theorem ku_test {N : Nat} {P : Nat → Prop} {σ : St} (h : KU P σ) : Par (m_newTest N σ) (fun r σ' => KU P σ' ∧ (gI σ' 8 = 0 → WT r σ')) := by
  have t224 : ∀ (σ1 : St) (x3 x4 t1 : Int32), KU P σ1 → t1 ≠ 5 → t1 ≠ 8 → Par (m_newTest_224 N σ1 x3 x4 t1) (fun r σ' => KU P σ' ∧ (gI σ' 8 = 0 → WT r σ')) := fun σ1 x3 x4 t1 h1 h2 h3 => by
    unfold m_newTest_224
    exact par_bd (ku_emN h1 (us_n h2 h3)) (fun _ _ z => par_some ⟨z.1, z.2.2.1⟩)
  have t211 : ∀ (σ1 : St) (x3 x4 x5 : Int32), KU P σ1 → Par (m_newTest_211 N σ1 x3 x4 x5) (fun r σ' => KU P σ' ∧ (gI σ' 8 = 0 → WT r σ')) := fun σ1 x3 x4 x5 h1 => by
    unfold m_newTest_211
    exact par_if (fun _ => t224 σ1 x3 x4 11 h1 (by decide) (by decide)) (fun _ => t224 σ1 x3 x4 10 h1 (by decide) (by decide))
  have t200 : ∀ (σ1 : St) (x3 x4 x5 : Int32), KU P σ1 → Par (m_newTest_200 N σ1 x3 x4 x5) (fun r σ' => KU P σ' ∧ (gI σ' 8 = 0 → WT r σ')) := fun σ1 x3 x4 x5 h1 => by
    unfold m_newTest_200
    exact par_if (fun _ => par_bd (ku_m_next h1) (fun _ σ2 h2 => t211 σ2 x3 x4 x5 h2)) (fun _ => t211 σ1 x3 x4 x5 h1)
  have t183 : ∀ (σ1 : St) (x3 x4 x5 : Int32), KU P σ1 → Par (m_newTest_183 N σ1 x3 x4 x5) (fun r σ' => KU P σ' ∧ (gI σ' 8 = 0 → WT r σ')) := fun σ1 x3 x4 x5 h1 => by
    unfold m_newTest_183
    exact par_bd (ku_m_isWord h1) (fun _ σ2 h2 => par_if (fun _ => par_bd (ku_m_wrong h2) (fun _ σ3 h3 => t200 σ3 x3 x4 x5 h3)) (fun _ => t200 σ2 x3 x4 x5 h2))
  have t172 : ∀ (σ1 : St) (x3 x4 x5 : Int32), KU P σ1 → Par (m_newTest_172 N σ1 x3 x4 x5) (fun r σ' => KU P σ' ∧ (gI σ' 8 = 0 → WT r σ')) := fun σ1 x3 x4 x5 h1 => by
    unfold m_newTest_172
    exact par_if (fun _ => par_bd (ku_m_next h1) (fun _ σ2 h2 => t183 σ2 x3 x4 x5 h2)) (fun _ => t183 σ1 x3 x4 x5 h1)
  have t64 : ∀ (σ1 : St) (x1 : Int32), KU P σ1 → Par (m_newTest_64 N σ1 x1) (fun r σ' => KU P σ' ∧ (gI σ' 8 = 0 → WT r σ')) := fun σ1 x1 h1 => by
    unfold m_newTest_64
    refine par_if (fun _ => par_gd (fun _ => par_gd (fun _ => par_gd (fun _ => par_gd (fun _ => par_gd (fun _ => par_bd (ku_m_isWord (ku_A (ku_A (ku_A h1 (by decide)) (by decide)) (by decide))) (fun r1 σ2 h2 => par_if (fun _ => ?_) (fun _ => ?_)))))))) (fun c => par_some ⟨h1, fun e => absurd e c⟩)
    · exact par_bd (ku_m_taken h2) (fun r3 σ4 h4 => par_bd (ku_m_isWord h4) (fun r5 σ6 h6 => par_if (fun _ => par_bd (ku_m_isWord h6) (fun r17 σ18 h18 => par_if (fun _ => par_bd (ku_m_wrong h18) (fun _ σ20 h20 => t172 σ20 _ _ _ h20)) (fun _ => t172 σ18 _ _ _ h18))) (fun _ => t172 σ6 _ _ _ h6)))
    · exact par_bd (ku_m_next h2) (fun _ σ22 h22 => par_bd (ku_emN h22 (us_n (by decide) (by decide))) (fun _ _ z => par_some ⟨z.1, z.2.2.1⟩))
  have t33 : ∀ (σ1 : St) (x1 t0 : Int32), KU P σ1 → Par (m_newTest_33 N σ1 x1 t0) (fun r σ' => KU P σ' ∧ (gI σ' 8 = 0 → WT r σ')) := fun σ1 x1 t0 h1 => by
    unfold m_newTest_33
    exact par_if (fun _ => par_bd (ku_m_wrong h1) (fun _ σ2 h2 => t64 σ2 x1 h2)) (fun _ => par_gd (fun _ => par_if (fun _ => par_bd (ku_m_wrong h1) (fun _ σ2 h2 => t64 σ2 x1 h2)) (fun _ => t64 σ1 x1 h1)))
  unfold m_newTest m_newTest_28 m_newTest_32
  exact par_if (fun _ => par_if (fun _ => t33 σ _ _ h) (fun _ => par_bd (ku_m_isWord h) (fun _ σ2 h2 => par_if (fun _ => t33 σ2 _ _ h2) (fun _ => t33 σ2 _ _ h2)))) (fun _ => t33 σ _ _ h)
theorem ku_stat {N : Nat} {P : Nat → Prop} {σ : St} (h : KU P σ) : Par (m_statement N σ) (fun _ σ' => KU P σ') := by
  have t97 : ∀ σ1, KU P σ1 → Par (m_statement_97 N σ1) (fun _ σ' => KU P σ') := fun σ1 h1 => by
    unfold m_statement_97
    exact par_bd (ku_m_wants h1) (fun _ _ z => par_some z)
  have t183 : ∀ σ1, KU P σ1 → Par (m_statement_183 N σ1) (fun _ σ' => KU P σ') := fun σ1 h1 => by
    unfold m_statement_183
    exact par_bd (ku_emN h1 (us_n (by decide) (by decide))) (fun _ σ2 z => par_bd (ku_m_wants z.1) (fun _ _ z => par_some z))
  unfold m_statement
  refine par_if (fun _ => ?_) (fun _ => par_if (fun _ => ?_) (fun _ => par_bd (ku_m_isWord h) (fun r1 σ2 h2 => par_if (fun _ => par_bd (ku_m_isWord h2) (fun r3 σ4 h4 => par_if (fun _ => par_bd (ku_m_isWord h4) (fun r5 σ6 h6 => par_if (fun _ => par_bd (ku_m_wrong h6) (fun _ _ z => par_some z)) (fun _ => ?_))) (fun _ => ?_))) (fun _ => ?_))))
  · refine par_bd (ku_emN h (us_n (by decide) (by decide))) (fun _ σ46 h46 => par_bd (ku_m_taken h46.1) (fun r47 σ48 h48 => par_bd (ku_m_isSign h48) (fun r49 σ50 h50 => par_if (fun _ => ?_) (fun _ => ?_))))
    · exact par_bd (ku_m_wants h50) (fun _ σ52 h52 => par_bd (ku_worth h52) (fun _ σ54 h54 => par_bd (ku_emN h54 (us_n (by decide) (by decide))) (fun _ σ56 h56 => t97 σ56 h56.1)))
    · refine par_bd (ku_new h50) (fun r59 σ60 h60 => par_bd (kz_m_next (kz_r σ60)) (fun _ σ62 z62 => par_bd (kz_m_field z62) (fun r63 σ64 z64 => par_bd (kz_m_wants z64) (fun _ σ66 z66 => ?_))))
      have h66 : HU r59 P σ66 := hu_z z66 h60
      refine par_bd (P := fun _ σ' => HU r59 P σ') ?_ (fun _ σ68 h68 => par_bd (ku_emU h68 (Or.inr rfl)) (fun _ σ70 h70 => t97 σ70 h70))
      by_cases c : gI σ66 8 = 0
      · obtain ⟨v, v1, v2, v3, v4⟩ := h66 c
        exact (ku_worth (P := fun q => P q ∨ q = v) (fun _ => v4)).mono (fun _ σ' z e => ⟨v, v1, v2, v3, z e⟩)
      · unfold m_worth
        rw [if_neg c]
        exact par_some h66
  · exact par_bd (ku_emN h (us_n (by decide) (by decide))) (fun _ σ40 h40 => par_bd (ku_m_call h40.1) (fun _ σ42 h42 => par_bd (ku_m_wants h42) (fun _ _ z => par_some z)))
  · exact par_bd (ku_emN h6 (us_n (by decide) (by decide))) (fun _ σ10 h10 => par_bd (ku_m_next h10.1) (fun _ σ12 h12 => par_bd (ku_test h12) (fun r13 σ14 h14 => par_bd (ku_open h14.1 (fun _ => h14.2)) (fun _ _ z => par_some z))))
  · exact par_bd (ku_emN h4 (us_n (by decide) (by decide))) (fun _ σ10 h10 => par_bd (ku_m_next h10.1) (fun _ σ12 h12 => par_bd (ku_test h12) (fun r13 σ14 h14 => par_bd (ku_open h14.1 (fun _ => h14.2)) (fun _ _ z => par_some z))))
  · exact par_bd (ku_emN h2 (us_n (by decide) (by decide))) (fun _ σ26 h26 => par_bd (ku_m_next h26.1) (fun _ σ28 h28 => par_bd (ku_m_isSign h28) (fun r29 σ30 h30 => par_if (fun _ => par_bd (ku_worth h30) (fun _ σ32 h32 => t183 σ32 h32)) (fun _ => par_bd (ku_emN h30 (us_n (by decide) (by decide))) (fun _ σ38 h38 => t183 σ38 h38.1)))))
/-- a goal is laid at an act that is no use -/
theorem ku_back {P : Nat → Prop} {σ : St} {x v : Int32} (h : KU P σ) (hw : gI σ 8 = 0 → WT x σ) : KU P (sA σ 15 ((1300 + x).toNatClampNeg) v) := fun e => by
  obtain ⟨a, u, b, f1, f2, f3, f4, f5, f6, f7, f8, f9, f10⟩ := h e
  obtain ⟨a', w, w1, w2, w3, w4, w5⟩ := hw e
  have ea : a' = a := (nI_eq (by omega) (by omega)).mp (w1.symm.trans f1)
  subst ea
  rw [w4, show (1300 : Int32) + nI w = nI (1300 + w) from nI_add 1300 w, nI_clamp (n := 1300 + w) (by omega)]
  have ej : ∀ j, j ≠ 15 → gA (sA σ 15 (1300 + w) v) j = gA σ j := fun j hj => by rw [gA_sA, if_neg hj]
  have e15 : ∀ k, us (gA σ 12 (1300 + k)) → gA (sA σ 15 (1300 + w) v) 15 (1300 + k) = gA σ 15 (1300 + k) := fun k hk => by
    rw [gA_sA, if_pos rfl, pk_un]
    intro e
    have : k = w := by omega
    rw [this] at hk
    exact w5 hk
  refine ⟨a', u, b, f1, f2, by rw [ej 26 (by decide)]; exact f3, f4, f5, f6, f7, fun k hk hu => ?_, fun k k' h1 h2 u1 u2 => ?_, by rw [ej 35 (by decide), ej 36 (by decide), ej 12 (by decide)]; exact f10⟩
  · rw [ej 12 (by decide)] at hu
    rw [e15 k hu]
    exact f8 k hk hu
  · rw [ej 12 (by decide)] at u1 u2
    rw [e15 k u1, e15 k' u2]
    exact f9 k k' h1 h2 u1 u2
theorem ku_close {N : Nat} {P : Nat → Prop} {σ : St} (h : KU P σ) : Par (m_closes N σ) (fun _ σ' => KU P σ') := by
  unfold m_closes
  refine par_bd (ku_m_next h) (fun _ σ2 h2 => par_gd (fun hb => par_gd (fun _ => ?_)))
  -- a block less
  have pop : KU P (sI σ2 38 (gI σ2 38 - 1)) := fun e => by
    have e : gI σ2 8 = 0 := (gI_ne (by decide)).symm.trans e
    obtain ⟨a, u, b, f1, f2, f3, f4, f5, f6, f7, f8, f9, f10⟩ := h2 e
    rw [f5] at hb ⊢
    have b1 : 0 < b := by
      rcases (show b = 0 ∨ 0 < b by omega) with e | e
      · rw [e] at hb; exact absurd hb (by decide)
      · exact e
    have eb : nI b - 1 = nI (b - 1) := by
      rw [show b = (b - 1) + 1 by omega, ← nI_1, Nat.add_sub_cancel]
      exact Int32.add_sub_cancel _ _
    rw [eb]
    exact ⟨a, u, b - 1, (gI_ne (by decide)).trans f1, f2, f3, f4, gI_eq, by omega, f7, f8, f9, fun i hi => f10 i (by omega)⟩
  have wt : (gA σ2 35 ((gI σ2 38 - 1).toNatClampNeg) = 1 ∨ gA σ2 35 ((gI σ2 38 - 1).toNatClampNeg) = 3) → gI (sI σ2 38 (gI σ2 38 - 1)) 8 = 0 → WT (gA σ2 36 ((gI σ2 38 - 1).toNatClampNeg)) (sI σ2 38 (gI σ2 38 - 1)) := fun hk e => by
    have e : gI σ2 8 = 0 := (gI_ne (by decide)).symm.trans e
    obtain ⟨a, u, b, f1, f2, f3, f4, f5, f6, f7, f8, f9, f10⟩ := h2 e
    rw [f5] at hb hk ⊢
    have b1 : 0 < b := by
      rcases (show b = 0 ∨ 0 < b by omega) with e | e
      · rw [e] at hb; exact absurd hb (by decide)
      · exact e
    have eb : nI b - 1 = nI (b - 1) := by
      rw [show b = (b - 1) + 1 by omega, ← nI_1, Nat.add_sub_cancel]
      exact Int32.add_sub_cancel _ _
    rw [eb, nI_clamp (n := b - 1) (by omega)] at hk ⊢
    obtain ⟨w, w1, w2, w3⟩ := f10 (b - 1) (by omega) hk
    exact ⟨a, w, (gI_ne (by decide)).trans f1, f2, w1, w2, w3⟩
  generalize (gI σ2 38 - 1).toNatClampNeg = bi at *
  have t151 : ∀ σ4 x1, KU P σ4 → (x1 = 1 → gI σ4 8 = 0 → WT (gA σ2 36 bi) σ4) → Par (m_closes_151 N σ4 x1 (gA σ2 36 bi)) (fun _ σ' => KU P σ') := fun σ4 x1 h4 hw => by
    unfold m_closes_151
    exact par_if (fun e => par_gd (fun _ => par_some (ku_back h4 (hw e)))) (fun _ => par_gd (fun _ => par_some (ku_A h4 (by decide))))
  refine par_if (fun _ => ?_) (fun _ => par_if (fun k3 => par_gd (fun _ => ?_)) (fun _ => par_if (fun k1 => ?_) (fun k1 => t151 _ _ pop (fun e => absurd e k1))))
  · exact par_bd (ku_emN pop (us_n (by decide) (by decide))) (fun _ σ14 h14 => par_bd (ku_emN h14.1 (us_n (by decide) (by decide))) (fun _ _ z => par_some z.1))
  · exact par_bd (ku_emN pop (us_n (by decide) (by decide))) (fun _ σ12 h12 => par_gd (fun _ => par_some (ku_back h12.1 (h12.2.2.2 _ (wt (Or.inr k3))))))
  · refine par_bd (kz_m_isWord (kz_r (sI σ2 38 (gI σ2 38 - 1)))) (fun r3 σ4 z4 => par_if (fun _ => t151 σ4 _ (ku_z z4 pop) (fun _ e => wt_z z4 (wt (Or.inl k1) (z4.2.2 e)))) (fun _ => ?_))
    refine par_bd (kz_m_next z4) (fun _ σ6 z6 => par_bd (ku_emN (ku_z z6 pop) (us_n (by decide) (by decide))) (fun r7 σ8 h8 => par_gd (fun _ => par_bd (ku_open (ku_back h8.1 (h8.2.2.2 _ (fun e => wt_z z6 (wt (Or.inl k1) (z6.2.2 e))))) (fun e => e.elim (fun e => absurd e (by decide)) (fun e => absurd e (by decide)))) (fun _ _ z => par_some z))))
theorem ku_parses {N : Nat} {σ : St} : Par (m_parses N σ) (fun _ σ' => KU (fun _ => False) σ') := by
  have l138 : ∀ (f : Nat) (σ1 : St) (x : Int32), KU (fun _ => False) σ1 → Par (m_parses_138 N f σ1 x) (fun _ σ' => KU (fun _ => False) σ') := by
    intro f
    induction f with
    | zero => intro σ1 x _ r σ' e; cases e
    | succ f ih =>
      intro σ1 x h1
      show Par (m_parses_138_b N (m_parses_138 N f) σ1 x) _
      unfold m_parses_138_b m_parses_188 m_parses_199
      have wr : Par (gd (ib x 400) (bd (m_wrong N σ1 4 (gA σ1 30 x.toNatClampNeg)) (fun _ σ4 => m_parses_138 N f σ4 (x + 1)))) (fun _ σ' => KU (fun _ => False) σ') := par_gd (fun _ => par_bd (ku_m_wrong h1) (fun _ σ4 h4 => ih σ4 _ h4))
      exact par_if (fun _ => par_some h1) (fun _ => par_if (fun _ => par_gd (fun _ => par_gd (fun _ => par_if (fun _ => wr) (fun _ => par_gd (fun _ => par_gd (fun _ => par_if (fun _ => ih σ1 _ h1) (fun _ => wr))))))) (fun _ => par_some h1))
  have l77 : ∀ (f : Nat) (σ1 : St), KU (fun _ => False) σ1 → Par (m_parses_77 N f σ1) (fun _ σ' => KU (fun _ => False) σ') := by
    intro f
    induction f with
    | zero => intro σ1 _ r σ' e; cases e
    | succ f ih =>
      intro σ1 h1
      show Par (m_parses_77_b N (m_parses_77 N f) σ1) _
      have t99 : Par (m_parses_99 N (m_parses_77 N f) σ1) (fun _ σ' => KU (fun _ => False) σ') := by
        unfold m_parses_99
        exact par_if (fun _ => par_bd (ku_m_head h1) (fun _ σ2 h2 => ih σ2 h2)) (fun _ => par_bd (ku_m_isSign h1) (fun _ σ2 h2 => par_if (fun _ => par_bd (ku_stat h2) (fun _ σ3 h3 => ih σ3 h3)) (fun _ => par_bd (ku_close h2) (fun _ σ3 h3 => ih σ3 h3))))
      unfold m_parses_77_b
      exact par_if (fun _ => par_if (fun _ => par_if (fun _ => l138 N σ1 0 h1) (fun _ => t99)) (fun _ => t99)) (fun _ => l138 N σ1 0 h1)
  have l54 : ∀ (f : Nat) (σ1 : St) (x : Int32), KU (fun _ => False) σ1 → Par (m_parses_54 N f σ1 x) (fun _ σ' => KU (fun _ => False) σ') := by
    intro f
    induction f with
    | zero => intro σ1 x _ r σ' e; cases e
    | succ f ih =>
      intro σ1 x h1
      show Par (m_parses_54_b N (m_parses_54 N f) σ1 x) _
      unfold m_parses_54_b m_parses_73
      exact par_if (fun _ => par_bd (ku_m_next h1) (fun _ σ2 h2 => l77 N σ2 h2)) (fun _ => par_gd (fun _ => ih _ _ (ku_A h1 (by decide))))
  unfold m_parses
  refine par_gd (fun _ => par_gd (fun _ => par_gd (fun _ => l54 N _ _ (fun _ => ?_))))
  refine ⟨0, 0, 0, rfl, by decide, ?_, by decide, rfl, by decide, fun v hv => absurd hv id, fun k hk => absurd hk (Nat.not_lt_zero k), fun k k' _ hk => absurd hk (Nat.not_lt_zero k'), fun i hi => absurd hi (Nat.not_lt_zero i)⟩
  rw [gA_sA, if_neg (by decide), gA_sA, if_neg (by decide), gA_sA, if_pos rfl]
  exact pk_us
