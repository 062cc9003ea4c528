/-! runs: leaves of both sides, exactly -/
theorem and1 {x : Int32} : x &&& 1 = 0 ∨ x &&& 1 = 1 := by
  have h : (x &&& 1).toBitVec.toNat ≤ 1 := by
    rw [Int32.toBitVec_and, BitVec.toNat_and]
    exact Nat.and_le_right
  have e : (x &&& 1).toInt = ((x &&& 1).toBitVec.toNat : Int) := BitVec.toInt_eq_toNat_of_lt (by omega)
  rcases (show (x &&& 1).toInt = 0 ∨ (x &&& 1).toInt = 1 by omega) with h1 | h1
  · exact Or.inl (Int32.toInt_inj.mp h1)
  · exact Or.inr (Int32.toInt_inj.mp h1)
theorem fm_xor : ∀ an, an < 401 → (0 : Int32) ≤ (nI an ^^^ 8) := by decide +kernel
/-- the choice that is asked for next -/
def cbit (c : Int32) (an : Nat) : Int32 := (c >>> ((nI an - nI an / 8 * 8) &&& 31)) &&& 1
theorem c_choose {N : Nat} {σ : St} {c : Int32} {an : Nat} (h6 : gI σ 1506 = c) (h9 : gI σ 1509 = nI an) (ha : an < 401) : Par (x6_choose N σ) (fun r σ' => r = cbit c an ∧ σ' = sI σ 1509 (nI (an + 1))) := by
  unfold x6_choose j_floorMod
  rw [h9, if_pos (fm_xor an ha), show decide (¬ (8 : Int32) = 0) = true from rfl, gd_t, bd_s, h6, h9, nI_1]
  refine par_if (fun z => par_some ⟨?_, rfl⟩) (fun z => par_some ⟨?_, rfl⟩)
  · exact z.symm
  · exact (and1.resolve_left z).symm
theorem n_chooses {N : Nat} {σ : St} {c : Int32} {an : Nat} (h9 : gI σ 53 = nI an) : Par (m_chooses N σ c) (fun r σ' => r = cbit c an ∧ σ' = sI σ 53 (nI (an + 1))) := by
  unfold m_chooses m_chooses_20
  rw [h9, nI_1]
  refine par_if (fun z => par_gd (fun _ => par_some ⟨z.symm, rfl⟩)) (fun z => par_gd (fun _ => par_some ⟨?_, rfl⟩))
  exact (and1.resolve_right z).symm
/-- a new thing -/
def mkC (σ : St) (t : Nat) (x y : Int32) : St := sA (sA (sI σ 1508 (nI (t + 1))) 18 (2 * (t + 1)) x) 18 (2 * (t + 1) + 1) y
def mkM (σ : St) (t : Nat) (x y : Int32) : St := sA (sA (sI σ 47 (nI (t + 1))) 46 (2 * (t + 1)) x) 46 (2 * (t + 1) + 1) y
theorem c_make {N : Nat} {σ : St} {t : Nat} {x y : Int32} (h8 : gI σ 1508 = nI t) (ht : t ≤ 300) : Par (x6_make N σ x y) (fun r σ' => (t = 300 ∧ r = 0 ∧ σ' = sI σ 1511 3) ∨ (t < 300 ∧ r = nI (t + 1) ∧ σ' = mkC σ t x y)) := by
  unfold x6_make
  rw [h8, nI_1]
  refine par_if (fun z => ?_) (fun z => par_some (Or.inl ⟨?_, rfl, rfl⟩))
  · have z2 : t < 300 := (nI_ltI (b := 300) (by omega) (by decide)).mp z
    have e2 : ∀ k, nI (t + 1) * 2 + nI k = nI (2 * (t + 1) + k) := fun k => by
      rw [show (2 : Int32) = nI 2 from rfl, nI_mul, nI_add, Nat.mul_comm]
    rw [show nI (t + 1) * 2 = nI (2 * (t + 1)) from by rw [show (2 : Int32) = nI 2 from rfl, nI_mul, Nat.mul_comm]]
    refine par_bd (c_put (show 2 * (t + 1) < 602 by omega)) (fun _ σ2 y2 => ?_)
    have g8 : gI σ2 1508 = nI (t + 1) := by rw [y2]; exact (show gI (sI σ 1508 (nI (t + 1))) 1508 = nI (t + 1) from gI_eq)
    rw [g8, show (1 : Int32) = nI 1 from rfl, e2 1]
    refine par_bd (c_put (show 2 * (t + 1) + 1 < 602 by omega)) (fun _ σ3 y3 => par_some (Or.inr ⟨z2, ?_, ?_⟩))
    · rw [y3]; exact g8
    · rw [y3, y2]; rfl
  · exact Classical.byContradiction (fun y => z (nI_lt (b := 300) (by omega) (by decide)))
def orT (t : Nat) (x : Int32) : Int32 := if x = -1 then nI (t + 1) else x
theorem n_makes {N : Nat} {σ : St} {t : Nat} {x y : Int32} (h8 : gI σ 47 = nI t) (ht : t ≤ 300) : Par (m_makes N σ x y) (fun r σ' => (t = 300 ∧ r = 0 ∧ σ' = sI σ 55 3) ∨ (t < 300 ∧ r = nI (t + 1) ∧ σ' = mkM σ t (orT t x) (orT t y))) := by
  unfold m_makes m_makes_50
  rw [h8, nI_1]
  refine par_if (fun z => par_some (Or.inl ⟨?_, rfl, rfl⟩)) (fun z => ?_)
  · exact (nI_eq (b := 300) (by omega) (by decide)).mp z
  · have z2 : t < 300 := by
      have : ¬ t = 300 := fun e => z (by rw [e]; rfl)
      omega
    have e1 : (2 : Int32) * nI (t + 1) = nI (2 * (t + 1)) := by rw [show (2 : Int32) = nI 2 from rfl, nI_mul]
    rw [show gI (sI σ 47 (nI (t + 1))) 47 = nI (t + 1) from gI_eq, e1, nI_1, nI_clamp (n := 2 * (t + 1)) (by omega), nI_clamp (n := 2 * (t + 1) + 1) (by omega)]
    unfold orT
    by_cases cx : x = -1
    · rw [if_pos cx, if_pos cx]
      by_cases cy : y = -1
      · rw [if_pos cy, if_pos cy]
        exact par_gd (fun _ => par_gd (fun _ => par_some (Or.inr ⟨z2, rfl, rfl⟩)))
      · rw [if_neg cy, if_neg cy]
        exact par_gd (fun _ => par_gd (fun _ => par_some (Or.inr ⟨z2, rfl, rfl⟩)))
    · rw [if_neg cx, if_neg cx]
      by_cases cy : y = -1
      · rw [if_pos cy, if_pos cy]
        exact par_gd (fun _ => par_gd (fun _ => par_some (Or.inr ⟨z2, rfl, rfl⟩)))
      · rw [if_neg cy, if_neg cy]
        exact par_gd (fun _ => par_gd (fun _ => par_some (Or.inr ⟨z2, rfl, rfl⟩)))
theorem n_dp {dp k : Nat} : nI dp * 26 + nI k = nI (26 * dp + k) := by
  rw [show (26 : Int32) = nI 26 from rfl, nI_mul, nI_add, Nat.mul_comm]
theorem x_at_id {N : Nat} {σ : St} {j : Nat} {x : Int32} : Par (x5_at N σ j x) (fun _ σ' => σ' = σ) := by
  unfold x5_at
  exact par_if (fun _ => par_some rfl) (fun _ => par_gd (fun _ => par_if (fun _ => par_some rfl) (fun _ => par_gd (fun _ => par_some rfl))))
theorem c_nameOf {N : Nat} {σ : St} {dp : Nat} {x : Int32} (h : gI σ 1513 = nI dp) (hd : dp ≤ 12) : Par (x6_nameOf N σ x) (fun r σ' => σ' = σ ∧ ∀ k, k < 26 → x = nI k → r = gA σ 16 (26 * dp + k)) := by
  unfold x6_nameOf
  refine par_bd (P := fun r σ' => σ' = σ ∧ ∀ k, k < 26 → x = nI k → r = gA σ 16 (26 * dp + k)) ?_ (fun r σ2 z => par_some z)
  refine fun r σ' e => ⟨x_at_id r σ' e, fun k hk ex => ?_⟩
  rw [h, ex, n_dp] at e
  exact (c_at (show 26 * dp + k < 338 by omega) r σ' e).2
theorem n_nameOf {N : Nat} {σ : St} {dp k : Nat} (h : gI σ 50 = nI (dp + 1)) (hd : dp ≤ 12) (hk : k < 26) : Par (m_nameOf N σ (nI k)) (fun r σ' => σ' = σ ∧ r = gA σ 48 (26 * dp + k)) := by
  unfold m_nameOf
  rw [h, n26 (by omega) (by omega), nI_add, nI_clamp (by omega)]
  exact par_gd (fun _ => par_some ⟨rfl, by rw [Nat.add_sub_cancel]⟩)
theorem c_setName {N : Nat} {σ : St} {dp k : Nat} {v : Int32} (h : gI σ 1513 = nI dp) (hd : dp ≤ 12) (hk : k < 26) : Par (x6_setName N σ (nI k) v) (fun _ σ' => σ' = sA σ 16 (26 * dp + k) v) := by
  unfold x6_setName
  rw [h, n_dp]
  exact par_bd (c_put (show 26 * dp + k < 338 by omega)) (fun _ σ2 z => par_some z)
/-- the names of a frame are cleared -/
def clr (f : Nat → Int32) (b k : Nat) : Nat → Int32 := fun i => if b ≤ i ∧ i < b + k then 0 else f i
theorem clr_up {f : Nat → Int32} {b k : Nat} : upd (clr f b k) (b + k) 0 = clr f b (k + 1) := by
  funext i
  unfold clr
  by_cases e : i = b + k
  · rw [e, pk_us, if_pos (by omega)]
  · rw [pk_un e]
    by_cases c : b ≤ i ∧ i < b + k
    · rw [if_pos c, if_pos (by omega)]
    · rw [if_neg c, if_neg (by omega)]
theorem clr_0 {f : Nat → Int32} {b : Nat} : clr f b 0 = f := by
  funext i
  unfold clr
  rw [if_neg (by omega)]
theorem sA_row {σ : St} {j i : Nat} {v : Int32} : sA σ j i v = sF σ j (upd (gA σ j) i v) := rfl
theorem sF_F {σ : St} {j : Nat} {f g : Nat → Int32} : sF (sF σ j f) j g = sF σ j g := by
  unfold sF
  simp only []
  congr 3
  funext q
  by_cases e : q = j
  · rw [if_pos e, if_pos e]
  · rw [if_neg e, if_neg e, if_neg e]
theorem gA_sF {σ : St} {j : Nat} {f : Nat → Int32} : gA (sF σ j f) j = f := if_pos rfl
theorem gA_sFn {σ : St} {j q : Nat} {f : Nat → Int32} (h : q ≠ j) : gA (sF σ j f) q = gA σ q := if_neg h
theorem sF_id {σ : St} {j : Nat} : sF σ j (gA σ j) = σ := by
  show (σ.1, σ.2.1, (fun q => if q = j then gA σ j else σ.2.2.1 q), σ.2.2.2) = σ
  have : (fun q => if q = j then gA σ j else σ.2.2.1 q) = σ.2.2.1 := by
    funext q
    by_cases e : q = j
    · rw [if_pos e, e]; rfl
    · rw [if_neg e]
  rw [this]
theorem c_clear_2 {N : Nat} {σ : St} {dp : Nat} (h : gI σ 1513 = nI dp) (hd : dp ≤ 12) : ∀ (n k : Nat), k ≤ 26 → Par (x6_clearNames_2 N n (sF σ 16 (clr (gA σ 16) (26 * dp) k)) (nI k)) (fun _ σ' => σ' = sF σ 16 (clr (gA σ 16) (26 * dp) 26)) := by
  intro n
  induction n with
  | zero => intro k _ r σ' e; cases e
  | succ n ih =>
    intro k hk
    show Par (x6_clearNames_2_b N (x6_clearNames_2 N n) (sF σ 16 (clr (gA σ 16) (26 * dp) k)) (nI k)) _
    unfold x6_clearNames_2_b
    refine par_if (fun z => par_some ?_) (fun z => ?_)
    · have := (nI_leI (a := 26) (by decide) (by omega)).mp z
      rw [show k = 26 by omega]
    · have z2 : k < 26 := Classical.byContradiction (fun y => z (nI_le (a := 26) (by omega) (by omega)))
      rw [show gI (sF σ 16 (clr (gA σ 16) (26 * dp) k)) 1513 = nI dp from h, n_dp, nI_1]
      refine par_bd (c_put (show 26 * dp + k < 338 by omega)) (fun _ σ2 y => ?_)
      rw [y, sA_row, gA_sF, sF_F, clr_up]
      exact ih (k + 1) (by omega)
theorem c_clear {N : Nat} {σ : St} {dp : Nat} (h : gI σ 1513 = nI dp) (hd : dp ≤ 12) : Par (x6_clearNames N σ) (fun _ σ' => σ' = sF σ 16 (clr (gA σ 16) (26 * dp) 26)) := by
  unfold x6_clearNames
  have := c_clear_2 (N := N) h hd N 0 (by decide)
  rw [clr_0, sF_id] at this
  exact this
theorem n_frame_2 {N : Nat} {σ : St} {f : Nat} {x : Int32} (h : gI σ 50 = nI f) (hf : f ≤ 13) : ∀ (n k : Nat), k ≤ 26 → Par (m_frame_2 N n (sF σ 48 (clr (gA σ 48) (26 * f) k)) x (nI k)) (fun _ σ' => σ' = sI (sA (sF σ 48 (clr (gA σ 48) (26 * f) 26)) 49 f x) 50 (nI (f + 1))) := by
  intro n
  induction n with
  | zero => intro k _ r σ' e; cases e
  | succ n ih =>
    intro k hk
    show Par (m_frame_2_b N (m_frame_2 N n) (sF σ 48 (clr (gA σ 48) (26 * f) k)) x (nI k)) _
    unfold m_frame_2_b m_frame_29
    rw [show gI (sF σ 48 (clr (gA σ 48) (26 * f) k)) 50 = nI f from h]
    refine par_if (fun z => par_gd (fun _ => par_some ?_)) (fun z => par_gd (fun _ => ?_))
    · have := (nI_leI (a := 26) (by decide) (by omega)).mp z
      rw [show k = 26 by omega, nI_clamp (by omega), nI_1]
    · have z2 : k < 26 := Classical.byContradiction (fun y => z (nI_le (a := 26) (by omega) (by omega)))
      rw [show (26 : Int32) * nI f + nI k = nI (26 * f + k) from by rw [show (26 : Int32) = nI 26 from rfl, nI_mul, nI_add], nI_clamp (by omega), nI_1, sA_row, gA_sF, sF_F, clr_up]
      exact ih (k + 1) (by omega)
theorem n_frame {N : Nat} {σ : St} {f : Nat} {x : Int32} (h : gI σ 50 = nI f) (hf : f ≤ 13) : Par (m_frame N σ x) (fun _ σ' => σ' = sI (sA (sF σ 48 (clr (gA σ 48) (26 * f) 26)) 49 f x) 50 (nI (f + 1))) := by
  unfold m_frame
  have := n_frame_2 (N := N) (x := x) h hf N 0 (by decide)
  rw [clr_0, sF_id] at this
  exact this
