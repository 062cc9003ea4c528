/-! the class's FACTS: words of names, and counting -/
def cnb (f : Nat → Bool) : Nat → Nat
  | 0 => 0
  | n + 1 => cnb f n + (if f n = true then 1 else 0)
theorem cnb_le (f : Nat → Bool) : ∀ n, cnb f n ≤ n
  | 0 => Nat.le_refl _
  | n + 1 => by
    show cnb f n + (if f n = true then 1 else 0) ≤ n + 1
    have := cnb_le f n
    by_cases h : f n = true
    · rw [if_pos h]; omega
    · rw [if_neg h]; omega
theorem cnb_m {f g : Nat → Bool} : ∀ n, (∀ i, i < n → f i = true → g i = true) → cnb f n ≤ cnb g n ∧ ((∃ i, i < n ∧ f i = false ∧ g i = true) → cnb f n < cnb g n)
  | 0, _ => ⟨Nat.le_refl _, fun ⟨i, hi, _⟩ => absurd hi (Nat.not_lt_zero i)⟩
  | n + 1, h => by
    obtain ⟨h1, h2⟩ := cnb_m n (fun i hi => h i (by omega))
    show cnb f n + (if f n = true then 1 else 0) ≤ cnb g n + (if g n = true then 1 else 0) ∧ (_ → cnb f n + (if f n = true then 1 else 0) < cnb g n + (if g n = true then 1 else 0))
    have h3 : (if f n = true then 1 else 0) ≤ (if g n = true then 1 else 0 : Nat) := by
      by_cases e : f n = true
      · rw [if_pos e, if_pos (h n (by omega) e)]; exact Nat.le_refl _
      · rw [if_neg e]; exact Nat.zero_le _
    refine ⟨by omega, fun ⟨i, hi, e1, e2⟩ => ?_⟩
    rcases (show i = n ∨ i < n by omega) with e | e
    · subst e
      rw [e1, e2, if_neg (by decide), if_pos rfl]
      omega
    · have := h2 ⟨i, e, e1, e2⟩
      omega
/-- a name's fact -/
def fc (x : Int64) (n : Nat) : Nat := bN (lb x n) + 2 * bN (lb x (n + 26))
theorem fc_lt {x : Int64} {n : Nat} : fc x n < 4 := bN_t.2.2
theorem fc_b {x : Int64} {n b : Nat} (hb : b < 2) : (fc x n).testBit b = lb x (n + 26 * b) := by
  rcases (show b = 0 ∨ b = 1 by omega) with e | e
  · subst e; exact bN_t.1
  · subst e; exact bN_t.2.1
theorem c_fact {N : Nat} {σ : St} {x : Int64} {n : Nat} (hn : n < 26) : x1_factOf N σ x (nI n) = some (nI (fc x n), σ) := by
  unfold x1_factOf
  rw [cf_eq hn]
  rfl
/-- a word of names that a way brings -/
def WX (x : Int64) : Prop := (∀ i, 52 ≤ i → lb x i = false) ∧ ∀ n, n < 26 → ∃ b, b < 2 ∧ lb x (n + 26 * b) = true
/-- its bits -/
def gB (x : Int64) (n b : Nat) : Prop := n < 26 ∧ b < 2 ∧ lb x (n + 26 * b) = true
theorem wx_ne {x : Int64} (h : WX x) : ¬ x = 0 := fun e => by
  obtain ⟨b, hb, h2⟩ := h.2 0 (by decide)
  rw [e, lb_0] at h2
  exact absurd h2 (by decide)
theorem cw_c {x : Int64} {n n' v b : Nat} (hn : n < 26) (hn' : n' < 26) (hb : b < 2) : lb (cw x n v) (n' + 26 * b) = if n' = n then v.testBit b else lb x (n' + 26 * b) := by
  rw [cw_b hn _ (by omega)]
  by_cases e : n' = n
  · subst e
    rw [if_pos rfl]
    rcases (show b = 0 ∨ b = 1 by omega) with e | e
    · subst e; rw [if_pos (by omega)]
    · subst e; rw [if_neg (by omega), if_pos (by omega)]
  · rw [if_neg e]
    rcases (show b = 0 ∨ b = 1 by omega) with e | e
    · subst e; rw [if_neg (by omega), if_neg (by omega)]
    · subst e; rw [if_neg (by omega), if_neg (by omega)]
theorem cw_g {x : Int64} {n v : Nat} (hn : n < 26) {n' b : Nat} : gB (cw x n v) n' b ↔ (n' < 26 ∧ b < 2 ∧ if n' = n then v.testBit b = true else gB x n' b) := by
  unfold gB
  constructor
  · rintro ⟨h1, h2, h3⟩
    rw [cw_c hn h1 h2] at h3
    refine ⟨h1, h2, ?_⟩
    by_cases e : n' = n
    · rw [if_pos e] at h3 ⊢; exact h3
    · rw [if_neg e] at h3 ⊢; exact ⟨h1, h2, h3⟩
  · rintro ⟨h1, h2, h3⟩
    refine ⟨h1, h2, ?_⟩
    rw [cw_c hn h1 h2]
    by_cases e : n' = n
    · rw [if_pos e] at h3 ⊢; exact h3
    · rw [if_neg e] at h3 ⊢; exact h3.2.2
theorem cw_wx {x : Int64} {n v : Nat} (hx : WX x) (hn : n < 26) (hv : v < 4) (h0 : ¬ v = 0) : WX (cw x n v) := by
  refine ⟨fun i hi => ?_, fun n' hn' => ?_⟩
  · by_cases h64 : i < 64
    · rw [cw_b hn i h64, if_neg (by omega), if_neg (by omega)]
      exact hx.1 i hi
    · exact lb_ge (by omega)
  · by_cases e : n' = n
    · obtain ⟨b, hb, h2⟩ := tb_ex hv h0
      exact ⟨b, hb, by rw [cw_c hn hn' hb, if_pos e]; exact h2⟩
    · obtain ⟨b, hb, h2⟩ := hx.2 n' hn'
      exact ⟨b, hb, by rw [cw_c hn hn' hb, if_neg e]; exact h2⟩
theorem and_w : ∀ v, v < 4 → ∀ w, w < 2 → (nI v &&& nI (2 ^ w) = nI (if v.testBit w = true then 2 ^ w else 0)) := by decide +kernel
/-- only one of the two is kept -/
def nw (x : Int64) (n w : Nat) : Int64 := if (fc x n).testBit w = true then cw x n (2 ^ w) else 0
theorem c_narrow {N : Nat} {σ : St} {x : Int64} {n w : Nat} {y : Int32} (hn : n < 26) (hw : w < 2) (hy : y = nI (2 ^ w)) : x1_narrow N σ x (nI n) y = some (nw x n w, σ) := by
  unfold x1_narrow nw
  rw [c_fact hn, bd_s, hy, and_w _ fc_lt w hw]
  by_cases e : (fc x n).testBit w = true
  · rw [if_pos e, if_pos e, c_with hn (pw2 hw), bd_s]
    rw [if_neg]
    rintro (h | h)
    · rw [fc_b hw, h, lb_0] at e; exact absurd e (by decide)
    · have := Nat.pos_of_ne_zero (show 2 ^ w ≠ 0 from by rcases (show w = 0 ∨ w = 1 by omega) with e | e <;> subst e <;> decide)
      omega
  · rw [if_neg e, if_neg e, c_with hn (by decide), bd_s, if_pos (Or.inr rfl)]
theorem lb_1 {i : Nat} (hi : 0 < i) (h : i < 64) : lb 1 i = false := by
  rw [show (1 : Int64) = lN 1 from rfl, lb_n (by decide) h]
  exact Nat.testBit_lt_two_pow (Nat.one_lt_two_pow (by omega))
theorem held0 {m : Nat} (hm : m < 64) : ((0 : Int64) >>> ((nI m).toInt64 &&& 63)) &&& 1 = 0 := by
  apply lb_ext
  intro i hi
  rw [lb_and, lb_0]
  by_cases e : i = 0
  · subst e
    rw [lb_shr (by omega), lb_0]; rfl
  · rw [lb_1 (by omega) hi, Bool.and_false]
theorem or_sub {x y : Int64} (h : ¬ x ||| y = x) : ∃ i, i < 64 ∧ lb y i = true ∧ lb x i = false := by
  refine Classical.byContradiction (fun hn => h (lb_ext (fun i hi => ?_)))
  rw [lb_or]
  cases e : lb y i
  · rw [Bool.or_false]
  · cases e2 : lb x i
    · exact absurd ⟨i, hi, e, e2⟩ hn
    · rfl
theorem wx_or {x y : Int64} (hx : x = 0 ∨ WX x) (hy : WX y) : WX (x ||| y) := by
  refine ⟨fun i hi => ?_, fun n hn => ?_⟩
  · rw [lb_or, hy.1 i hi, Bool.or_false]
    rcases hx with e | e
    · rw [e, lb_0]
    · exact e.1 i hi
  · obtain ⟨b, hb, h2⟩ := hy.2 n hn
    exact ⟨b, hb, by rw [lb_or, h2, Bool.or_true]⟩
