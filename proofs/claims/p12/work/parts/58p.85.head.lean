/-! a routine's head -/
theorem bt_has : ∀ T, T < 256 → ∀ l, l < 8 → (((nI T >>> (nI l &&& 31)) &&& 1 = 0) ↔ T / 2 ^ l % 2 = 0) := by decide +kernel
theorem bt_o1 : ∀ T, T < 256 → ∀ l, l < 8 → T / 2 ^ l % 2 = 0 → cnt8 (T ||| 2 ^ l) = cnt8 T + 1 := by decide +kernel
theorem bt_o2 : ∀ T, T < 256 → ∀ l, l < 8 → (T ||| 2 ^ l) < 256 ∧ ¬ (T ||| 2 ^ l) = 0 := by decide +kernel
theorem bt_o3 : ∀ T, T < 256 → (cnt8 T = 0 ↔ T = 0) := by decide +kernel
theorem bt_o4 : ∀ T, T < 256 → ∀ l, l < 8 → ∀ r, r < 8 → ((T ||| 2 ^ l) / 2 ^ r % 2 = 1 ↔ (r = l ∨ T / 2 ^ r % 2 = 1)) := by decide +kernel
theorem cnt_b : ∀ T, T < 256 → cnt8 T ≤ 8 := by decide +kernel
theorem c_has {N : Nat} {σ : St} {g T l : Nat} (hg : isPr g = true) (h9 : gI σ (100 * g + 9) = nI T) (hT : T < 256) (hl : l < 8) : x3_has N σ g (nI l) = some (if T / 2 ^ l % 2 = 1 then 1 else 0, σ) := by
  unfold x3_has
  rw [if_neg (nI_pos (by omega)), if_neg (show ¬ (8 : Int32) ≤ nI l from nI_ge (b := 8) hl (by decide)), hg, gd_t, h9]
  have hb := bt_has T hT l hl
  by_cases c : T / 2 ^ l % 2 = 1
  · rw [if_neg (fun z => by have := hb.mp z; omega), if_pos c]
  · rw [if_pos (hb.mpr (by omega)), if_neg c]
theorem len_p {g : Nat} (hg : isPr g = true) : lenC (g + 3) = 8 ∧ lenC (g + 4) = 8 ∧ lenC (g + 5) = 32 := by
  rcases pg_b hg with rfl | rfl <;> exact ⟨rfl, rfl, rfl⟩
theorem bd_as {ρ τ υ : Type} {o : Option (ρ × St)} {f : ρ → St → Option (τ × St)} {K : τ → St → Option υ} : bd (bd o f) K = bd o (fun r σ => bd (f r σ) K) := by
  cases o with
  | none => rfl
  | some p => rfl
theorem row4 {l k : Nat} : nI l * 4 + nI k = nI (4 * l + k) := by
  show nI l * nI 4 + nI k = _
  rw [nI_mul, nI_add, Nat.mul_comm]
/-- is this NAME a parameter already -/
theorem c_hasP {N : Nat} {σ : St} {g l m : Nat} {v : Int32} (hg : isPr g = true) (hl : l < 8) (hm : m ≤ 4) (h4 : gA σ (g + 4) l = nI m) : ∀ (f k : Nat), k ≤ m → (∀ j, j < k → ¬ gA σ (g + 5) (4 * l + j) = v) → Par (x3_hasParameter_2 N f σ g (nI l) v (nI k)) (fun r σ' => σ' = σ ∧ ((r = 1 ∧ ∃ j, j < m ∧ gA σ (g + 5) (4 * l + j) = v) ∨ (r = 0 ∧ ∀ j, j < m → ¬ gA σ (g + 5) (4 * l + j) = v))) := by
  have ln := len_p hg
  intro f
  induction f with
  | zero => intro k _ _ r σ' h; cases h
  | succ f ih =>
    intro k hk hj
    show Par (x3_hasParameter_2_b N (x3_hasParameter_2 N f) σ g (nI l) v (nI k)) _
    unfold x3_hasParameter_2_b x3_parameter
    rw [hg, gd_t]
    refine par_bd (c_at (j := g + 4) (i := l) (by omega)) (fun r2 σ2 z => ?_)
    obtain ⟨rfl, rfl⟩ := z
    rw [h4]
    by_cases c : k = m
    · subst c
      rw [if_pos (nI_le (Nat.le_refl _) (by omega))]
      exact par_some ⟨rfl, Or.inr ⟨rfl, hj⟩⟩
    · rw [if_neg (nI_ge (by omega) (by omega)), if_neg (show ¬ (4 : Int32) ≤ nI k from nI_ge (b := 4) (by omega) (by decide)), gd_t, row4, nI_1]
      refine par_bd (P := fun r σ' => σ' = σ2 ∧ r = gA σ2 (g + 5) (4 * l + k)) (par_bd (c_at (j := g + 5) (i := 4 * l + k) (by omega)) (fun r3 σ3 z => par_some z)) (fun r4 σ4 z => ?_)
      obtain ⟨rfl, rfl⟩ := z
      refine par_if (fun z => par_some ⟨rfl, Or.inl ⟨rfl, k, by omega, z⟩⟩) (fun z => ih (k + 1) (by omega) (fun j hj2 => ?_))
      rcases (show j = k ∨ j < k by omega) with e | e
      · rw [e]; exact z
      · exact hj j e
theorem c_addP {N : Nat} {σ : St} {g l m : Nat} {v : Int32} (hg : isPr g = true) (hl : l < 8) (hm : m < 4) (h4 : gA σ (g + 4) l = nI m) : Par (x3_addParameter N σ g (nI l) v) (fun _ σ' => σ' = sA (sA σ (g + 5) (4 * l + m) v) (g + 4) l (nI (m + 1))) := by
  have ln := len_p hg
  unfold x3_addParameter
  rw [hg, gd_t]
  refine par_bd (c_at (j := g + 4) (i := l) (by omega)) (fun r2 σ2 z => ?_)
  obtain ⟨rfl, rfl⟩ := z
  rw [h4, row4, nI_1]
  refine par_bd (c_put (j := g + 5) (i := 4 * l + m) (by omega)) (fun _ σ3 z => ?_)
  subst z
  refine par_bd (c_put (j := g + 4) (i := l) (by omega)) (fun _ σ4 z => par_some z)
/-- the class takes a routine up -/
theorem c_addR {N : Nat} {σ : St} {g l T s : Nat} (hg : isPr g = true) (hl : l < 8) (hT : T < 256) (h9 : gI σ (100 * g + 9) = nI T) (h10 : gI σ (100 * g + 10) = nI (cnt8 T)) (hs : gI σ (100 * (g + 1) + 1) = nI s) : Par (x3_addRoutine N σ g (nI l)) (fun _ σ' => gI σ' (100 * g + 9) = nI (T ||| 2 ^ l) ∧ gI σ' (100 * g + 10) = nI (cnt8 T + 1) ∧ gI σ' (100 * g + 13) = (if cnt8 T = 0 then nI l else gI σ (100 * g + 13)) ∧ (∀ k, k ≠ 100 * g + 9 → k ≠ 100 * g + 10 → k ≠ 100 * g + 13 → gI σ' k = gI σ k) ∧ (∀ k, gP σ' k = gP σ k) ∧ (∀ j, j ≠ g + 3 → j ≠ g + 4 → gA σ' j = gA σ j) ∧ gA σ' (g + 3) = upd (gA σ (g + 3)) l (nI s) ∧ gA σ' (g + 4) = upd (gA σ (g + 4)) l 0) := by
  have ln := len_p hg
  have hgb := pg_b hg
  have cb := cnt_b T hT
  have e1 : (1 : Int32) <<< (nI l &&& 31) = nI (2 ^ l) := shl_c (by omega)
  have p2 : 2 ^ l < 256 := Nat.lt_of_lt_of_le (Nat.pow_lt_pow_right (by decide) hl) (by decide)
  have key : ∀ σ1 : St, gI σ1 (100 * g + 9) = nI T → gI σ1 (100 * g + 10) = nI (cnt8 T) → gI σ1 (100 * (g + 1) + 1) = nI s → Par (x3_addRoutine_12 N σ1 g (nI l)) (fun _ σ' => gI σ' (100 * g + 9) = nI (T ||| 2 ^ l) ∧ gI σ' (100 * g + 10) = nI (cnt8 T + 1) ∧ (∀ k, k ≠ 100 * g + 9 → k ≠ 100 * g + 10 → gI σ' k = gI σ1 k) ∧ (∀ k, gP σ' k = gP σ1 k) ∧ (∀ j, j ≠ g + 3 → j ≠ g + 4 → gA σ' j = gA σ1 j) ∧ gA σ' (g + 3) = upd (gA σ1 (g + 3)) l (nI s) ∧ gA σ' (g + 4) = upd (gA σ1 (g + 4)) l 0) := by
    intro σ1 a9 a10 as
    unfold x3_addRoutine_12
    rw [hg, gd_t, a10, nI_1, e1, show gI (sI σ1 (100 * g + 10) (nI (cnt8 T + 1))) (100 * g + 9) = nI T from (gI_ne (by omega)).trans a9, or_n (by omega) (by omega)]
    rw [show gI (sI (sI σ1 (100 * g + 10) (nI (cnt8 T + 1))) (100 * g + 9) (nI (T ||| 2 ^ l))) (100 * (g + 1) + 1) = nI s from (gI_ne (by omega)).trans ((gI_ne (by omega)).trans as)]
    refine par_bd (c_put (j := g + 3) (i := l) (by omega)) (fun _ σ2 z => ?_)
    subst z
    refine par_bd (c_put (j := g + 4) (i := l) (by omega)) (fun _ σ2 z => ?_)
    subst z
    refine par_some ⟨gI_eq, ?_, fun k k1 k2 => ?_, fun _ => rfl, fun j j1 j2 => ?_, ?_, ?_⟩
    · show gI (sI (sI σ1 (100 * g + 10) (nI (cnt8 T + 1))) (100 * g + 9) (nI (T ||| 2 ^ l))) (100 * g + 10) = _
      rw [gI_ne (by omega), gI_eq]
    · show gI (sI (sI σ1 (100 * g + 10) (nI (cnt8 T + 1))) (100 * g + 9) (nI (T ||| 2 ^ l))) k = _
      rw [gI_ne (fun y => k1 y.symm), gI_ne (fun y => k2 y.symm)]
    · rw [gA_sA, if_neg j2, gA_sA, if_neg j1]
      rfl
    · rw [gA_sA, if_neg (by omega), gA_sA, if_pos rfl]
      rfl
    · rw [gA_sA, if_pos rfl, gA_sA, if_neg (by omega)]
      rfl
  unfold x3_addRoutine
  rw [hg, gd_t, h10]
  refine par_if (fun z => ?_) (fun z => ?_)
  · have c0 : cnt8 T = 0 := (nI_eq (b := 0) (by omega) (by decide)).mp z
    refine (key (sI σ (100 * g + 13) (nI l)) ((gI_ne (by omega)).trans h9) ((gI_ne (by omega)).trans h10) ((gI_ne (by omega)).trans hs)).mono (fun _ σ' q => ?_)
    obtain ⟨q1, q2, q3, q4, q5, q6, q7⟩ := q
    refine ⟨q1, q2, ?_, fun k k1 k2 k3 => ?_, q4, q5, q6, q7⟩
    · rw [if_pos c0, q3 _ (by omega) (by omega)]
      exact gI_eq
    · rw [q3 k k1 k2]
      exact gI_ne (fun y => k3 y.symm)
  · have c0 : ¬ cnt8 T = 0 := fun y => z (by rw [y]; rfl)
    refine (key σ h9 h10 hs).mono (fun _ σ' q => ?_)
    obtain ⟨q1, q2, q3, q4, q5, q6, q7⟩ := q
    refine ⟨q1, q2, ?_, fun k k1 k2 _ => q3 k k1 k2, q4, q5, q6, q7⟩
    rw [if_neg c0]
    exact q3 _ (by omega) (by omega)
/-! the reference behind a fault in a head -/
theorem ff_224 {N : Nat} {σ : St} {x2 : Int32} (h : ¬ gI σ 8 = 0) : Par (m_head_224 N σ x2) (fun _ σ' => gI σ' 8 = gI σ 8 ∧ gI σ' 9 = gI σ 9) := by
  unfold m_head_224
  rw [ff_wants h, bd_s, ff_opens h, bd_s]
  exact par_gd (fun _ => par_gd (fun _ => par_if (fun _ => par_gd (fun _ => par_some ⟨rfl, rfl⟩)) (fun _ => par_some ⟨rfl, rfl⟩)))
theorem ff_81 {N f : Nat} {σ : St} {x2 x3 : Int32} (h : ¬ gI σ 8 = 0) : Par (m_head_81 N f σ x2 x3) (fun _ σ' => gI σ' 8 = gI σ 8 ∧ gI σ' 9 = gI σ 9) := by
  cases f with
  | zero => intro _ _ e; cases e
  | succ f =>
    show Par (m_head_81_b N (m_head_81 N f) σ x2 x3) _
    unfold m_head_81_b
    rw [if_neg h]
    exact par_if (fun _ => ff_224 h) (fun _ => ff_224 h)
theorem r2_81 {ρ : Type} {oc : Option (ρ × St)} {N f : Nat} {σ : St} {x2 : Int32} {Q : ρ → St → Unit → St → Prop} (h : R2 oc (m_head_224 N σ x2) Q) : R2 oc (m_head_81 N f σ x2 0) Q := by
  cases f with
  | zero => intro _ _ _ _ _ e2; cases e2
  | succ f =>
    show R2 oc (m_head_81_b N (m_head_81 N f) σ x2 0) Q
    unfold m_head_81_b
    rw [if_pos rfl]
    exact h
/-- the reference looks for the NAME among the parameters -/
theorem r2_132 {ρ : Type} {oc : Option (ρ × St)} {N : Nat} {rec81 : St → Int32 → Int32 → Option (Unit × St)} {σ : St} {l m : Nat} {q v : Int32} {Q : ρ → St → Unit → St → Prop} (hl : l < 8) (hm : m ≤ 4) (h8 : gI σ 8 = 0) (h20 : gA σ 20 (8 + l) = nI m) (kN : (∀ j, j < m → ¬ gA σ 21 (32 + 4 * l + j) = v) → R2 oc (m_head_179 N rec81 σ (nI (8 + l)) v) Q) (kY : (∃ j, j < m ∧ gA σ 21 (32 + 4 * l + j) = v) → R2 oc (some ((), sI (sI σ 8 3) 9 q)) Q) : ∀ (f k : Nat), k ≤ m → (∀ j, j < k → ¬ gA σ 21 (32 + 4 * l + j) = v) → R2 oc (m_head_132 N rec81 f σ (nI (8 + l)) q v (nI k)) Q := by
  have bad : ∀ (f k : Nat), k ≤ m → R2 oc (some ((), sI (sI σ 8 3) 9 q)) Q → R2 oc (m_head_132 N rec81 f (sI (sI σ 8 3) 9 q) (nI (8 + l)) q v (nI k)) Q := by
    intro f k hk hQ
    have hf : ¬ gI (sI (sI σ 8 3) 9 q) 8 = 0 := by rw [gI_ne (by decide), gI_eq]; decide
    have h179 : R2 oc (m_head_179 N rec81 (sI (sI σ 8 3) 9 q) (nI (8 + l)) v) Q := by
      unfold m_head_179
      rw [if_neg hf]
      exact hQ
    cases f with
    | zero => intro _ _ _ _ _ e2; cases e2
    | succ f =>
      show R2 oc (m_head_132_b N rec81 (m_head_132 N rec81 f) (sI (sI σ 8 3) 9 q) (nI (8 + l)) q v (nI k)) Q
      unfold m_head_132_b
      rw [if_neg hf]
      exact r2_gdR (fun _ => r2_ifR (fun _ => h179) (fun _ => h179))
  intro f
  induction f with
  | zero => intro k _ _ _ _ _ _ _ e2; cases e2
  | succ f ih =>
    intro k hk hj
    show R2 oc (m_head_132_b N rec81 (m_head_132 N rec81 f) σ (nI (8 + l)) q v (nI k)) Q
    unfold m_head_132_b m_head_173
    rw [nI_clamp (by omega), h20]
    refine r2_gdR (fun _ => ?_)
    by_cases c : k = m
    · subst c
      rw [if_pos (nI_le (Nat.le_refl _) (by omega))]
      exact kN hj
    · have e4 : (4 : Int32) * nI (8 + l) + nI k = nI (32 + 4 * l + k) := by
        show nI 4 * nI (8 + l) + nI k = _
        rw [nI_mul, nI_add]
        exact congrArg nI (by omega)
      rw [if_neg (nI_ge (by omega) (by omega)), if_pos h8, e4, nI_clamp (by omega), nI_1]
      refine r2_gdR (fun _ => r2_ifR (fun z => ?_) (fun z => ih (k + 1) (by omega) (fun j hj2 => ?_)))
      · unfold m_wrong
        rw [if_pos h8, bd_s]
        exact bad f (k + 1) (by omega) (kY ⟨k, by omega, z⟩)
      · rcases (show j = k ∨ j < k by omega) with e | e
        · rw [e]; exact z
        · exact hj j e
