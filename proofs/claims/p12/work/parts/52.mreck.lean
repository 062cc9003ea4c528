/-! the least MARKS: reckons() comes to an end -/
def u4 (x : Int32) : Nat := x.toBitVec.toNat
def u8 (x : Int64) : Nat := x.toBitVec.toNat
theorem u4_or {x y : Int32} : u4 x ≤ u4 (x ||| y) := by
  unfold u4
  rw [Int32.toBitVec_or, BitVec.toNat_or]
  exact Nat.left_le_or
theorem u8_or {x y : Int64} : u8 x ≤ u8 (x ||| y) := by
  unfold u8
  rw [Int64.toBitVec_or, BitVec.toNat_or]
  exact Nat.left_le_or
theorem u4_lt {x y : Int32} (h : ¬ x ||| y = x) : u4 x < u4 (x ||| y) := by
  refine Nat.lt_of_le_of_ne u4_or (fun e => h ?_)
  exact (Int32.toBitVec_inj.mp (BitVec.eq_of_toNat_eq e)).symm
theorem u8_lt {x y : Int64} (h : ¬ x ||| y = x) : u8 x < u8 (x ||| y) := by
  refine Nat.lt_of_le_of_ne u8_or (fun e => h ?_)
  exact (Int64.toBitVec_inj.mp (BitVec.eq_of_toNat_eq e)).symm
def sm (f : Nat → Nat) : Nat → Nat
  | 0 => 0
  | n + 1 => sm f n + f n
theorem sm_le {f g : Nat → Nat} : ∀ n, (∀ i, f i ≤ g i) → sm f n ≤ sm g n := by
  intro n h
  induction n with
  | zero => exact Nat.le_refl _
  | succ n ih => exact Nat.add_le_add ih (h n)
theorem sm_lt {f g : Nat → Nat} {k : Nat} : ∀ n, (∀ i, f i ≤ g i) → k < n → f k < g k → sm f n < sm g n := by
  intro n h
  induction n with
  | zero => intro hk; exact absurd hk (by omega)
  | succ n ih =>
    intro hk hl
    rcases (show k = n ∨ k < n by omega) with z | z
    · subst z
      exact Nat.add_lt_add_of_le_of_lt (sm_le k h) hl
    · exact Nat.add_lt_add_of_lt_of_le (ih z hl) (h n)
theorem sm_b {f : Nat → Nat} {B : Nat} (h : ∀ i, f i ≤ B) : ∀ n, sm f n ≤ n * B := by
  intro n
  induction n with
  | zero => simp [sm]
  | succ n ih =>
    have := h n
    simp only [sm, Nat.succ_mul]
    omega
/-- how much is told -/
def Um (σ : St) : Nat := sm (fun i => u4 (gA σ 42 i)) 42 + sm (fun i => u8 (gZ σ 41 i)) 1300
theorem Um_b (σ : St) : Um σ ≤ 42 * 2 ^ 32 + 1300 * 2 ^ 64 := by
  have h1 := sm_b (f := fun i => u4 (gA σ 42 i)) (B := 2 ^ 32) (fun i => Nat.le_of_lt (gA σ 42 i).toBitVec.isLt) 42
  have h2 := sm_b (f := fun i => u8 (gZ σ 41 i)) (B := 2 ^ 64) (fun i => Nat.le_of_lt (gZ σ 41 i).toBitVec.isLt) 1300
  unfold Um
  omega
/-- what grows, and what stays -/
def Rk (σ σ' : St) : Prop := (∀ j, j ≠ 42 → j ≠ 44 → gA σ' j = gA σ j) ∧ (∀ k, k ≠ 45 → gI σ' k = gI σ k) ∧ (∀ i, u4 (gA σ 42 i) ≤ u4 (gA σ' 42 i)) ∧ (∀ i, u8 (gZ σ 41 i) ≤ u8 (gZ σ' 41 i)) ∧ (gI σ' 45 = gI σ 45 ∨ (gI σ' 45 = 1 ∧ Um σ < Um σ'))
theorem um_le {σ σ' : St} (h1 : ∀ i, u4 (gA σ 42 i) ≤ u4 (gA σ' 42 i)) (h2 : ∀ i, u8 (gZ σ 41 i) ≤ u8 (gZ σ' 41 i)) : Um σ ≤ Um σ' := Nat.add_le_add (sm_le 42 h1) (sm_le 1300 h2)
theorem rk_rf (σ : St) : Rk σ σ := ⟨fun _ _ _ => rfl, fun _ _ => rfl, fun _ => Nat.le_refl _, fun _ => Nat.le_refl _, Or.inl rfl⟩
theorem rk_tr {σ σ1 σ2 : St} (h : Rk σ σ1) (h2 : Rk σ1 σ2) : Rk σ σ2 := by
  obtain ⟨a1, a2, a3, a4, a5⟩ := h
  obtain ⟨b1, b2, b3, b4, b5⟩ := h2
  refine ⟨fun j x y => (b1 j x y).trans (a1 j x y), fun k hk => (b2 k hk).trans (a2 k hk), fun i => Nat.le_trans (a3 i) (b3 i), fun i => Nat.le_trans (a4 i) (b4 i), ?_⟩
  have l1 := um_le a3 a4
  have l2 := um_le b3 b4
  rcases b5 with e | ⟨e, l⟩
  · rcases a5 with e2 | ⟨e2, l⟩
    · exact Or.inl (e.trans e2)
    · exact Or.inr ⟨e.trans e2, by omega⟩
  · exact Or.inr ⟨e, by omega⟩
/-- numbers that the walk rests on: the program is right -/
def GV (σ : St) (a : Nat) : Prop := gI σ 18 = nI a ∧ a ≤ 1299 ∧ BV (gA σ) a
theorem gv_rk {σ σ' : St} {a : Nat} (h : GV σ a) (hr : Rk σ σ') : GV σ' a := by
  obtain ⟨h1, h2, h3⟩ := h
  refine ⟨(hr.2.1 18 (by decide)).trans h1, h2, ?_⟩
  unfold BV at h3 ⊢
  rw [hr.1 12 (by decide) (by decide), hr.1 13 (by decide) (by decide), hr.1 14 (by decide) (by decide), hr.1 15 (by decide) (by decide), hr.1 19 (by decide) (by decide), hr.1 20 (by decide) (by decide), hr.1 21 (by decide) (by decide)]
  exact h3
theorem s_puts {N : Nat} {σ : St} {m f : Int32} (h0 : 0 ≤ m.toInt) (h1 : m.toInt < 42) : Tot (m_puts N σ m f) (fun _ σ' => Rk σ σ') := by
  have hi : ib m 42 = true := ib_m h0 h1 (by decide)
  have hc : m.toNatClampNeg < 42 := ib_cl hi
  have h16 : ∀ t0 : Int32, Tot (m_puts_16 N σ m t0) (fun _ σ' => Rk σ σ') := by
    intro t0
    unfold m_puts_16
    rw [hi]
    refine tot_gd rfl (tot_gd rfl (tot_if (fun _ => tot_some (rk_rf σ)) (fun hne => tot_gd rfl (tot_gd rfl (tot_some ?_)))))
    have hle : ∀ i, u4 (gA σ 42 i) ≤ u4 (gA (sI (sA σ 42 m.toNatClampNeg (gA σ 42 m.toNatClampNeg ||| t0)) 45 1) 42 i) := by
      intro i
      show _ ≤ u4 (gA (sA σ 42 m.toNatClampNeg (gA σ 42 m.toNatClampNeg ||| t0)) 42 i)
      rw [gA_sA, if_pos rfl]
      by_cases hm : i = m.toNatClampNeg
      · subst hm
        rw [upd_eq]
        exact u4_or
      · rw [upd_ne hm]
        exact Nat.le_refl _
    refine ⟨fun j hj _ => ?_, fun k hk => gI_ne (fun e => hk e.symm), hle, fun _ => Nat.le_refl _, Or.inr ⟨gI_eq, ?_⟩⟩
    · show gA (sA σ 42 m.toNatClampNeg (gA σ 42 m.toNatClampNeg ||| t0)) j = gA σ j
      rw [gA_sA, if_neg hj]
    · refine Nat.add_lt_add_of_lt_of_le (sm_lt (k := m.toNatClampNeg) 42 hle hc ?_) (Nat.le_refl _)
      show u4 (gA σ 42 m.toNatClampNeg) < u4 (gA (sA σ 42 m.toNatClampNeg (gA σ 42 m.toNatClampNeg ||| t0)) 42 m.toNatClampNeg)
      rw [gA_sA, if_pos rfl, upd_eq]
      exact u4_lt hne
  unfold m_puts
  exact tot_gd hi (tot_if (fun _ => h16 _) (fun _ => h16 _))
theorem lg0 {x y : Int64} (h : ¬ lg_cmp x y = 0) : ¬ x = y := by
  intro e
  subst e
  unfold lg_cmp at h
  rw [if_neg (by exact Int64.lt_irrefl), if_pos rfl] at h
  exact h rfl
theorem s_flows {N : Nat} {σ : St} {t : Int32} {s : Int64} (h0 : 0 ≤ t.toInt) (h1 : t.toInt < 1300) : Tot (m_flows N σ t s) (fun _ σ' => Rk σ σ') := by
  have hi : ib t 1300 = true := ib_m h0 h1 (by decide)
  have hc : t.toNatClampNeg < 1300 := ib_cl hi
  unfold m_flows
  rw [hi]
  refine tot_gd rfl (tot_gd rfl (tot_if (fun _ => tot_some (rk_rf σ)) (fun hne => tot_gd rfl (tot_some ?_))))
  have hne := lg0 hne
  have gz : ∀ i, gZ (sI (sZ σ 41 t.toNatClampNeg (gZ σ 41 t.toNatClampNeg ||| s)) 45 1) 41 i = if i = t.toNatClampNeg then (gZ σ 41 t.toNatClampNeg ||| s) else gZ σ 41 i := by
    intro i
    simp only [gZ, sI, sZ, if_pos, vp_updL]
  have hle : ∀ i, u8 (gZ σ 41 i) ≤ u8 (gZ (sI (sZ σ 41 t.toNatClampNeg (gZ σ 41 t.toNatClampNeg ||| s)) 45 1) 41 i) := by
    intro i
    rw [gz]
    split
    · rename_i e
      subst e
      exact u8_or
    · exact Nat.le_refl _
  refine ⟨fun j hj _ => rfl, fun k hk => gI_ne (fun e => hk e.symm), fun _ => Nat.le_refl _, hle, Or.inr ⟨gI_eq, ?_⟩⟩
  refine Nat.add_lt_add_of_le_of_lt (Nat.le_refl _) (sm_lt (k := t.toNatClampNeg) 1300 hle hc ?_)
  show u8 (gZ σ 41 t.toNatClampNeg) < u8 (gZ (sI (sZ σ 41 t.toNatClampNeg (gZ σ 41 t.toNatClampNeg ||| s)) 45 1) 41 t.toNatClampNeg)
  rw [gz, if_pos rfl]
  exact u8_lt hne
theorem s_putsThings {N : Nat} {σ : St} : Tot (m_putsThings N σ) (fun _ σ' => Rk σ σ') := by
  unfold m_putsThings
  refine tot_bd (s_puts (by decide) (by decide)) (fun _ σ2 h => ?_)
  refine tot_bd (s_puts (by decide) (by decide)) (fun _ σ4 h2 => tot_some (rk_tr h h2))
theorem e_with {N : Nat} {σ : St} {s : Int64} {n f : Int32} : ∃ v, m_with N σ s n f = some (v, σ) := ⟨_, rfl⟩
theorem e_factOf {N : Nat} {σ : St} {s : Int64} {n : Int32} : ∃ v, m_factOf N σ s n = some (v, σ) := ⟨_, rfl⟩
/-- a told routine -/
theorem bv_rt {A : Ar} {a l : Nat} (h : BV A a) (hl : l ≤ 7) (ht : ¬ A 19 l = -1) : (∃ t : Nat, A 19 l = nI t ∧ t < a ∧ (t = 0 ∨ ¬ A 12 (t - 1) = 0)) ∧ 0 ≤ (A 20 l).toInt ∧ (A 20 l).toInt ≤ 4 ∧ ∀ k : Nat, (k : Int) < (A 20 l).toInt → 0 ≤ (A 21 (4 * l + k)).toInt ∧ (A 21 (4 * l + k)).toInt ≤ 25 := (h.2.2.1 l (by omega)).elim (fun e => absurd e ht) id
theorem n4 {l k : Nat} (hl : l ≤ 7) (hk : k ≤ 3) : (4 : Int32) * nI l + nI k = nI (4 * l + k) := by
  rcases (show l = 0 ∨ l = 1 ∨ l = 2 ∨ l = 3 ∨ l = 4 ∨ l = 5 ∨ l = 6 ∨ l = 7 by omega) with rfl | rfl | rfl | rfl | rfl | rfl | rfl | rfl <;> (rcases (show k = 0 ∨ k = 1 ∨ k = 2 ∨ k = 3 by omega) with rfl | rfl | rfl | rfl <;> decide)
theorem s_begins_39 {N : Nat} {a l : Nat} (hl : l ≤ 7) : ∀ (n : Nat) (σ : St) (x2 : Int64) (k : Nat), GV σ a → ¬ gA σ 19 l = -1 → k ≤ 4 → 5 - k < n → Tot (m_begins_39 N n σ (nI l) x2 (nI k)) (fun _ σ' => Rk σ σ') := by
  intro n
  induction n with
  | zero => intro σ x2 k _ _ _ h; exact absurd h (Nat.not_lt_zero _)
  | succ n ih =>
    intro σ x2 k hG ht hk hn
    obtain ⟨⟨t, t1, t2, -⟩, p1, p2, p3⟩ := bv_rt hG.2.2 hl ht
    show Tot (m_begins_39_b N (m_begins_39 N n) σ (nI l) x2 (nI k)) _
    unfold m_begins_39_b m_begins_93
    have ha := hG.2.1
    rw [ibk (n := 16) (show l < 16 by omega) (by decide), nI_clamp (show l < 2 ^ 31 by omega)]
    refine tot_gd rfl (tot_if (fun _ => tot_gd rfl ?_) (fun hle => ?_))
    · rw [t1]
      refine tot_bd (s_flows (by rw [nI_t (by omega)]; omega) (by rw [nI_t (by omega)]; omega)) (fun _ σ4 h => tot_some h)
    · rw [Int32.le_iff_toInt_le, nI_t (by omega)] at hle
      rw [n4 hl (by omega), ibk (n := 42) (by omega) (by decide), ibk (k := 4 * l + k) (n := 64) (by omega) (by decide), nI_clamp (show 4 * l + k < 2 ^ 31 by omega)]
      refine tot_gd rfl (tot_if (fun _ => tot_some (rk_rf σ)) (fun _ => tot_gd rfl ?_))
      obtain ⟨v, ev⟩ := e_with (N := N) (σ := σ) (s := x2) (n := gA σ 21 (4 * l + k)) (f := gA σ 42 (4 * l + k))
      rw [ev, bd_s, ← nI_succ k]
      exact ih σ v (k + 1) hG ht (by omega) (by omega)
theorem s_begins {N : Nat} (hN : 8589934592 ≤ N) {σ : St} {a l : Nat} (hl : l ≤ 7) (hG : GV σ a) (ht : ¬ gA σ 19 l = -1) : Tot (m_begins N σ (nI l)) (fun _ σ' => Rk σ σ') := by
  have h7 : ∀ (n : Nat) (x2 : Int64) (k : Nat), k ≤ 26 → 27 - k < n → Tot (m_begins_7 N n σ (nI l) x2 (nI k)) (fun _ σ' => Rk σ σ') := by
    intro n
    induction n with
    | zero => intro x2 k _ h; exact absurd h (Nat.not_lt_zero _)
    | succ n ih =>
      intro x2 k hk hn
      show Tot (m_begins_7_b N (m_begins_7 N n) σ (nI l) x2 (nI k)) _
      unfold m_begins_7_b m_begins_28
      refine tot_if (fun _ => ?_) (fun h => ?_)
      · obtain ⟨v, ev⟩ := e_with (N := N) (σ := σ) (s := x2) (n := 26) (f := 1)
        rw [ev, bd_s]
        exact s_begins_39 hl N σ v 0 hG ht (by omega) (by omega)
      · have hk4 := nle (n := 26) (by omega) (by decide) h
        obtain ⟨v, ev⟩ := e_with (N := N) (σ := σ) (s := x2) (n := nI k) (f := 1)
        rw [ev, bd_s, ← nI_succ k]
        exact ih v (k + 1) (by omega) (by omega)
  unfold m_begins
  exact h7 N _ 0 (by omega) (by omega)
theorem n32 {l : Nat} : (32 : Int32) + nI l = nI (32 + l) := by rw [show (32 : Int32) = nI 32 from by decide, nI_add]
theorem s_calls {N : Nat} (hN : 8589934592 ≤ N) {σ : St} {a k : Nat} {s : Int64} (hk : k < a) (hG : GV σ a) (h6 : gA σ 12 k = 6) : Tot (m_calls N σ (nI k) s) (fun _ σ' => Rk σ σ') := by
  obtain ⟨g1, g2, g3⟩ := id hG
  obtain ⟨l, l1, l2, l3, l4⟩ := g3.2.2.2 k hk h6
  obtain ⟨-, p1, p2, -⟩ := bv_rt g3 l1 l3
  have hi : ib (nI k) 2600 = true := ibk (by omega) (by decide)
  have hcl : (nI k).toNatClampNeg = k := nI_clamp (by omega)
  have h11 : ∀ (n : Nat) (σ1 : St) (m : Nat), Rk σ σ1 → m ≤ 4 → 5 - m < n → Tot (m_calls_11 N n σ1 (nI k) s (nI l) (nI m)) (fun _ σ' => Rk σ σ') := by
    intro n
    induction n with
    | zero => intro σ1 m _ _ h; exact absurd h (Nat.not_lt_zero _)
    | succ n ih =>
      intro σ1 m hr hm hn
      have hG1 := gv_rk hG hr
      have e19 : ¬ gA σ1 19 l = -1 := by rw [hr.1 19 (by decide) (by decide)]; exact l3
      show Tot (m_calls_11_b N (m_calls_11 N n) σ1 (nI k) s (nI l) (nI m)) _
      unfold m_calls_11_b m_calls_57
      rw [hi, hcl, hr.1 14 (by decide) (by decide), ← l4]
      refine tot_gd rfl (tot_if (fun _ => ?_) (fun hle => ?_))
      · refine tot_bd (s_begins hN l1 hG1 e19) (fun _ σ2 hr2 => ?_)
        have hr02 := rk_tr hr hr2
        rw [n32, ibk (n := 42) (show 32 + l < 42 by omega) (by decide)]
        refine tot_gd rfl (tot_if (fun _ => tot_some hr02) (fun _ => tot_gd rfl ?_))
        obtain ⟨v, ev⟩ := e_with (N := N) (σ := σ2) (s := s) (n := 26) (f := gA σ2 42 ((nI (32 + l)).toNatClampNeg))
        rw [ev, bd_s, ← nI_succ k]
        refine tot_bd (s_flows (by rw [nI_t (by omega)]; omega) (by rw [nI_t (by omega)]; omega)) (fun _ σ6 h => tot_some (rk_tr hr02 h))
      · rw [Int32.le_iff_toInt_le, nI_t (by omega)] at hle
        refine tot_gd rfl ?_
        obtain ⟨v, ev⟩ := e_factOf (N := N) (σ := σ1) (s := s) (n := ((gA σ1 16 k) >>> ((5 * nI m) &&& 31)) &&& 31)
        rw [ev, bd_s, n4 l1 (by omega)]
        refine tot_bd (s_puts (by rw [nI_t (by omega)]; omega) (by rw [nI_t (by omega)]; omega)) (fun _ σ3 hr3 => ?_)
        rw [← nI_succ m]
        exact ih σ3 (m + 1) (rk_tr hr hr3) (by omega) (by omega)
  unfold m_calls
  rw [hi, hcl, l2]
  exact tot_gd rfl (h11 N σ 0 (rk_rf σ) (by omega) (by omega))
theorem rk_44 {σ : St} {i : Nat} {v : Int32} : Rk σ (sA σ 44 i v) := ⟨fun j _ hj => by rw [gA_sA, if_neg hj], fun _ _ => rfl, fun i => by rw [gA_sA, if_neg (by decide)]; exact Nat.le_refl _, fun _ => Nat.le_refl _, Or.inl rfl⟩
theorem s_tests {N : Nat} {σ : St} {a k : Nat} {s : Int64} (hk : k < a) (hG : GV σ a) (ht : tst (gA σ 12 k)) : Tot (m_tests N σ (nI k) s) (fun _ σ' => Rk σ σ') := by
  obtain ⟨g1, g2, g3⟩ := id hG
  obtain ⟨-, -, -, -, -, p6, -⟩ := g3.1 k hk
  obtain ⟨q1, q2, q3⟩ := p6 ht
  obtain ⟨n, t1, t2, t3, -⟩ := q3.elim (fun e => absurd e id) id
  have hi : ib (nI k) 2600 = true := ibk (by omega) (by decide)
  have hcl : (nI k).toNatClampNeg = k := nI_clamp (by omega)
  have hi2 : ib (gA σ 14 k) 25 = true := ib_m q1 (by omega) (by decide)
  have f1 : ∀ (σ1 : St) (z : Int64), Tot (m_flows N σ1 (nI k + 1) z) (fun _ σ' => Rk σ1 σ') := fun σ1 z => by
    rw [← nI_succ k]
    exact s_flows (by rw [nI_t (by omega)]; omega) (by rw [nI_t (by omega)]; omega)
  have f3 : ∀ (σ1 : St) (z : Int64), Tot (m_flows N σ1 (nI n) z) (fun _ σ' => Rk σ1 σ') := fun σ1 z => s_flows (by rw [nI_t (by omega)]; omega) (by rw [nI_t (by omega)]; omega)
  have h201 : ∀ (σ1 : St) (z : Int64), Rk σ σ1 → Tot (m_tests_201 N σ1 (nI n) z) (fun _ σ' => Rk σ σ') := by
    intro σ1 z hr
    unfold m_tests_201
    exact tot_bd (f3 σ1 z) (fun _ σ2 h => tot_some (rk_tr hr h))
  have h141 : ∀ (σ1 : St) (x5 x6 : Int32), Rk σ σ1 → Tot (m_tests_141 N σ1 (nI k) s x5 x6) (fun _ σ' => Rk σ σ') := by
    intro σ1 x5 x6 hr
    unfold m_tests_141
    rw [hi, hcl, hr.1 14 (by decide) (by decide), hi2, hr.1 15 (by decide) (by decide), hr.1 13 (by decide) (by decide), t1]
    refine tot_if (fun _ => tot_some hr) (fun _ => tot_gd rfl (tot_gd rfl (tot_gd rfl (tot_gd rfl (tot_gd rfl (tot_if (fun _ => h201 _ _ (rk_tr hr rk_44)) (fun _ => tot_gd rfl ?_)))))))
    exact h201 _ _ (rk_tr hr rk_44)
  have h138 : ∀ (σ1 : St) (x5 x6 : Int32) (z : Int64), Rk σ σ1 → Tot (m_tests_138 N σ1 (nI k) s x5 x6 (nI k + 1) z) (fun _ σ' => Rk σ σ') := by
    intro σ1 x5 x6 z hr
    unfold m_tests_138
    exact tot_bd (f1 σ1 z) (fun _ σ2 h => h141 σ2 x5 x6 (rk_tr hr h))
  have h79 : ∀ (x4 x5 t0 : Int32), Tot (m_tests_79 N σ (nI k) s x4 x5 t0) (fun _ σ' => Rk σ σ') := by
    intro x4 x5 t0
    unfold m_tests_79
    rw [hi, hcl, hi2]
    refine tot_if (fun _ => h141 σ x5 t0 (rk_rf σ)) (fun _ => tot_gd rfl (tot_gd rfl (tot_gd rfl (tot_gd rfl (tot_if (fun _ => h138 _ x5 t0 _ rk_44) (fun _ => tot_gd rfl ?_))))))
    exact h138 _ x5 t0 _ rk_44
  have h52 : ∀ (x4 t0 : Int32), Tot (m_tests_52 N σ (nI k) s x4 t0) (fun _ σ' => Rk σ σ') := by
    intro x4 t0
    unfold m_tests_52
    rw [hi, hcl]
    refine tot_gd rfl (tot_if (fun _ => h79 _ _ _) (fun _ => tot_gd rfl ?_))
    exact h79 _ _ _
  have h31 : ∀ t0 : Int32, Tot (m_tests_31 N σ (nI k) s t0) (fun _ σ' => Rk σ σ') := by
    intro t0
    unfold m_tests_31
    rw [hi, hcl]
    exact tot_gd rfl (tot_if (fun _ => h52 _ _) (fun _ => h52 _ _))
  unfold m_tests
  rw [hi, hcl]
  exact tot_gd rfl (tot_if (fun _ => h31 1) (fun _ => tot_gd rfl (tot_if (fun _ => h31 2) (fun _ => h31 3))))
theorem s_routineAt {N : Nat} (hN : 8589934592 ≤ N) {σ : St} {x : Int32} : ∃ r, m_routineAt N σ x = some (r, σ) ∧ -1 ≤ r.toInt ∧ r.toInt ≤ 7 := by
  have h4 : ∀ (n : Nat) (b : Int32) (k : Nat), k ≤ 8 → (b = -1 ∨ (0 ≤ b.toInt ∧ b.toInt ≤ 7)) → 9 - k < n → ∃ r, m_routineAt_4 N n σ x b (nI k) = some (r, σ) ∧ -1 ≤ r.toInt ∧ r.toInt ≤ 7 := by
    intro n
    induction n with
    | zero => intro b k _ _ h; exact absurd h (Nat.not_lt_zero _)
    | succ n ih =>
      intro b k hk hb hn
      show ∃ r, m_routineAt_4_b N (m_routineAt_4 N n) σ x b (nI k) = some (r, σ) ∧ _
      unfold m_routineAt_4_b m_routineAt_50 m_routineAt_52
      by_cases h : (8 : Int32) ≤ nI k
      · rw [if_pos h]
        refine ⟨_, rfl, ?_⟩
        rcases hb with e | e
        · rw [e]; decide
        · omega
      · have hk4 := nle (n := 8) (by omega) (by decide) h
        have e1 := ih b (k + 1) (by omega) hb (by omega)
        have e2 := ih (nI k) (k + 1) (by omega) (Or.inr (by rw [nI_t (by omega)]; omega)) (by omega)
        rw [if_neg h, ibk (n := 16) (show k < 16 by omega) (by decide), nI_clamp (show k < 2 ^ 31 by omega), ← nI_succ k]
        show ∃ r, (if gA σ 19 k = -1 then m_routineAt_4 N n σ x b (nI (k + 1)) else gd true (if x < gA σ 19 k then m_routineAt_4 N n σ x b (nI (k + 1)) else (if b = -1 then m_routineAt_4 N n σ x (nI k) (nI (k + 1)) else gd true (gd (ib b 16) (if gA σ 19 k ≤ gA σ 19 b.toNatClampNeg then m_routineAt_4 N n σ x b (nI (k + 1)) else m_routineAt_4 N n σ x (nI k) (nI (k + 1))))))) = some (r, σ) ∧ _
        split
        · exact e1
        · show ∃ r, (if x < gA σ 19 k then m_routineAt_4 N n σ x b (nI (k + 1)) else (if b = -1 then m_routineAt_4 N n σ x (nI k) (nI (k + 1)) else gd true (gd (ib b 16) (if gA σ 19 k ≤ gA σ 19 b.toNatClampNeg then m_routineAt_4 N n σ x b (nI (k + 1)) else m_routineAt_4 N n σ x (nI k) (nI (k + 1)))))) = some (r, σ) ∧ _
          split
          · exact e1
          · split
            · exact e2
            · rename_i hb1
              rw [ib_m (i := b) (n := 16) (hb.elim (fun e => absurd e hb1) (fun q => q.1)) (by have := hb.elim (fun e => absurd e hb1) (fun q => q.2); omega) (by decide)]
              show ∃ r, (if gA σ 19 k ≤ gA σ 19 b.toNatClampNeg then m_routineAt_4 N n σ x b (nI (k + 1)) else m_routineAt_4 N n σ x (nI k) (nI (k + 1))) = some (r, σ) ∧ _
              split
              · exact e1
              · exact e2
  exact h4 N (-1) 0 (by omega) (Or.inl rfl) (by omega)
