/-! the reference behind a fault: nothing more is read -/
theorem gd_t {τ : Type} {F : Option τ} : gd true F = F := rfl
theorem ff_sign {σ : St} {N : Nat} (h : ¬ gI σ 8 = 0) {c : Int32} : m_isSign N σ c = some (0, σ) := by unfold m_isSign; rw [if_neg h]
theorem ff_word {σ : St} {N : Nat} (h : ¬ gI σ 8 = 0) {c : Int32} : m_isWord N σ c = some (0, σ) := by unfold m_isWord; rw [if_neg h]
theorem ff_wrong {σ : St} {N : Nat} (h : ¬ gI σ 8 = 0) {k p : Int32} : m_wrong N σ k p = some ((), σ) := by unfold m_wrong; rw [if_neg h]
theorem ff_takes {σ : St} {N : Nat} (h : ¬ gI σ 8 = 0) {c : Int32} : m_takesSign N σ c = some (0, σ) := by unfold m_takesSign; rw [ff_sign h, bd_s, if_pos rfl]
theorem ff_wants {σ : St} {N : Nat} (h : ¬ gI σ 8 = 0) {c : Int32} : m_wants N σ c = some ((), σ) := by unfold m_wants; rw [ff_takes h, bd_s, if_pos rfl, ff_wrong h, bd_s]
theorem ff_taken {σ : St} {N : Nat} (h : ¬ gI σ 8 = 0) {c : Int32} : m_taken N σ c = some (0, σ) := by unfold m_taken; rw [if_neg h]
theorem ff_worth {σ : St} {N : Nat} (h : ¬ gI σ 8 = 0) : m_worth N σ = some ((), σ) := by unfold m_worth; rw [if_neg h]
theorem ff_opens {σ : St} {N : Nat} (h : ¬ gI σ 8 = 0) {a b c : Int32} : m_opens N σ a b c = some ((), σ) := by unfold m_opens m_opens_27; rw [ff_sign h, bd_s, if_pos rfl, ff_wants h, bd_s, if_neg h]
theorem ff_field {σ : St} {N : Nat} (h : ¬ gI σ 8 = 0) : m_field N σ = some (0 - 15, σ) := by unfold m_field m_field_41; rw [if_neg h, ff_taken h, bd_s]
theorem ff_newUse {σ : St} {N : Nat} (h : ¬ gI σ 8 = 0) {a b : Int32} : m_newUse N σ a b = some (0, σ) := by
  unfold m_newUse m_newUse_17
  rw [ib12, gd_t, ff_wrong h, bd_s, if_neg h]
  split <;> rfl
theorem ff_newTest {σ : St} {N : Nat} (h : ¬ gI σ 8 = 0) : m_newTest N σ = some (0, σ) := by
  unfold m_newTest m_newTest_32 m_newTest_33 m_newTest_64
  rw [if_neg h, if_pos rfl, ff_wrong h, bd_s, if_neg h]
theorem ff_call {σ : St} {N : Nat} (h : ¬ gI σ 8 = 0) (hN : 0 < N) : m_call N σ = some ((), σ) := by
  obtain ⟨M, rfl⟩ : ∃ M, N = M + 1 := ⟨N - 1, by omega⟩
  unfold m_call
  rw [ff_taken h, bd_s, ff_wants h, bd_s, if_neg h]
  show m_call_45_b (M + 1) (m_call_45 (M + 1) M) σ (gI σ 5) 0 0 0 0 = _
  unfold m_call_45_b m_call_106
  rw [if_pos rfl, ff_wants h, bd_s, if_neg h]
theorem ib_l2 {k n : Nat} (h : ib (nI k) n = true) (hk : k < 2 ^ 31) : k < n := by
  unfold ib at h
  simp only [Bool.and_eq_true, Bool.not_eq_true', decide_eq_false_iff_not, decide_eq_true_eq] at h
  rw [nI_clamp hk] at h
  exact h.2
/-- the reference's emit, word for word -/
theorem n_emit {N : Nat} {σ : St} {a : Nat} {x y z w : Int32} (ha : gI σ 17 = nI a) (hs : a ≤ 1300) : Par (m_emit N σ x y z w) (fun r σ' => a ≤ 1299 ∧ r = nI a ∧ gA σ' = emA (gA σ) a x y z w ∧ (∀ k, k ≠ 17 → gI σ' k = gI σ k) ∧ gI σ' 17 = nI (a + 1)) := by
  intro r σ' h
  have h0 := h
  unfold m_emit at h0
  obtain ⟨hb, -⟩ := gd_some h0
  rw [ha, show (1300 : Int32) + nI a = nI (1300 + a) from nI_add 1300 a] at hb
  have hl := ib_l2 hb (by omega)
  obtain ⟨σ1, e1, e2, e3, e4, -⟩ := e_emit (N := N) (x := x) (y := y) (z := z) (w := w) ha (by omega)
  rw [e1] at h
  cases h
  exact ⟨by omega, rfl, e2, e3, e4⟩
theorem emA_ge {A : Ar} {a j k : Nat} {x y z w : Int32} (h : k < 1300 + a) : emA A a x y z w j k = A j k := by
  unfold emA
  repeat' split
  all_goals first | (rename_i e; subst e; unfold upd; exact if_neg (by omega)) | rfl
/-! the class: leaves of code and program -/
def Pg (g : Nat) (σ : St) : Prop := isPr g = true ∧ gP σ 403 = g ∧ gP σ 404 = g + 1
theorem pg_cd {g : Nat} (h : isPr g = true) : isCd (g + 1) = true := isCd_of h
theorem pg_b {g : Nat} (h : isPr g = true) : g = 30 ∨ g = 50 := pr_or h
theorem row_c {pc q : Nat} : nI pc * 12 + nI q = nI (12 * pc + q) := by
  show nI pc * nI 12 + nI q = _
  rw [nI_mul, nI_add, Nat.mul_comm]
theorem c_set {N : Nat} {σ : St} {g pc q S : Nat} {v : Int32} (hg : isPr g = true) (hS : gI σ (100 * (g + 1) + 1) = nI S) (hS2 : S ≤ 304) (hp : pc < S) (hq : q < 12) : x0_set N σ (g + 1) (nI pc) (nI q) v = some ((), sA σ (g + 2) (12 * pc + q) v) := by
  unfold x0_set
  rw [if_neg (nI_pos (by omega)), pg_cd hg, hS, row_c, if_neg (nI_ge hp (by omega)), if_neg (nI_pos (by omega)), if_neg (show ¬ (3648 : Int32) ≤ nI (12 * pc + q) from nI_ge (b := 3648) (by omega) (by decide)), ibk (show 12 * pc + q < 3648 by omega) (by decide), nI_clamp (by omega)]
  rfl
theorem c_get {N : Nat} {σ : St} {g pc q S : Nat} (hg : isPr g = true) (hS : gI σ (100 * (g + 1) + 1) = nI S) (hS2 : S ≤ 304) (hp : pc < S) (hq : q < 12) : x0_get N σ (g + 1) (nI pc) (nI q) = some (gA σ (g + 2) (12 * pc + q), σ) := by
  unfold x0_get
  rw [if_neg (nI_pos (by omega)), pg_cd hg, hS, row_c, if_neg (nI_ge hp (by omega)), if_neg (nI_pos (by omega)), if_neg (show ¬ (3648 : Int32) ≤ nI (12 * pc + q) from nI_ge (b := 3648) (by omega) (by decide)), ibk (show 12 * pc + q < 3648 by omega) (by decide), nI_clamp (by omega)]
  rfl
/-- a row that is new -/
def nrow (f : Nat → Int32) (s : Nat) (op ow : Int32) : Nat → Int32 := fun x => if x = 12 * s + 11 then ow else if x = 12 * s then op else if 12 * s ≤ x ∧ x < 12 * s + 12 then 0 else f x
def sF (σ : St) (j : Nat) (f : Nat → Int32) : St := (σ.1, σ.2.1, (fun q => if q = j then f else σ.2.2.1 q), σ.2.2.2)
theorem sA_sF {σ : St} {j i : Nat} {v : Int32} {f : Nat → Int32} : sA (sF σ j f) j i v = sF σ j (upd f i v) := by
  have e : (fun q => if q = j then upd ((sF σ j f).2.2.1 j) i v else (sF σ j f).2.2.1 q) = (fun q => if q = j then upd f i v else σ.2.2.1 q) := by
    funext q
    by_cases c : q = j
    · rw [if_pos c, if_pos c]
      show upd (if j = j then f else σ.2.2.1 j) i v = _
      rw [if_pos rfl]
    · rw [if_neg c, if_neg c]
      show (if q = j then f else σ.2.2.1 q) = _
      rw [if_neg c]
  unfold sA
  rw [e]
  rfl
theorem sF_sA {σ : St} {j i : Nat} {v : Int32} {f : Nat → Int32} : sF (sA σ j i v) j f = sF σ j f := by
  have e : (fun q => if q = j then f else (sA σ j i v).2.2.1 q) = (fun q => if q = j then f else σ.2.2.1 q) := by
    funext q
    by_cases c : q = j
    · rw [if_pos c, if_pos c]
    · rw [if_neg c, if_neg c]
      show (if q = j then _ else σ.2.2.1 q) = _
      rw [if_neg c]
  unfold sF
  rw [e]
  rfl
theorem sA_is {σ : St} {j i : Nat} {v : Int32} : sA σ j i v = sF σ j (upd (gA σ j) i v) := rfl
theorem sF_I {σ : St} {j k : Nat} {f : Nat → Int32} : gI (sF σ j f) k = gI σ k := rfl
theorem sF_P {σ : St} {j k : Nat} {f : Nat → Int32} : gP (sF σ j f) k = gP σ k := rfl
theorem sF_A {σ : St} {j k : Nat} {f : Nat → Int32} : gA (sF σ j f) k = if k = j then f else gA σ k := rfl
theorem c_add31 {N : Nat} {g s S : Nat} (hg : isPr g = true) (hs : s < S) (hS2 : S ≤ 304) {op ow : Int32} : ∀ (f : Nat) (σ : St) (k : Nat), gI σ (100 * (g + 1) + 1) = nI S → k ≤ 12 → (∀ q, q < k → gA σ (g + 2) (12 * s + q) = 0) → Par (x0_add_31 N f σ (g + 1) op ow (nI s) (nI k)) (fun r σ' => r = nI s ∧ ∃ F, σ' = sF σ (g + 2) F ∧ F = nrow (gA σ (g + 2)) s op ow) := by
  intro f
  induction f with
  | zero => intro σ k _ _ _ r σ' h; cases h
  | succ f ih =>
    intro σ k hS hk hz
    show Par (x0_add_31_b N (x0_add_31 N f) σ (g + 1) op ow (nI s) (nI k)) _
    unfold x0_add_31_b
    by_cases c : k = 12
    · subst c
      rw [if_pos (show (12 : Int32) ≤ nI 12 by decide)]
      unfold x0_add_52
      rw [pg_cd hg]
      show Par (bd (x0_set N σ (g + 1) (nI s) (nI 0) op) (fun _ σ4 => bd (x0_set N σ4 (g + 1) (nI s) (nI 11) ow) (fun _ σ6 => some (nI s, σ6)))) _
      rw [c_set hg hS hS2 hs (by decide), bd_s, c_set hg (σ := sA σ (g + 2) (12 * s + 0) op) hS hS2 hs (by decide), bd_s]
      refine par_some ⟨rfl, upd (upd (gA σ (g + 2)) (12 * s + 0) op) (12 * s + 11) ow, by rw [sA_is, sF_sA, gA_sA, if_pos rfl], ?_⟩
      funext x
      unfold nrow upd
      by_cases c1 : x = 12 * s + 11
      · rw [if_pos c1, if_pos c1]
      · rw [if_neg c1, if_neg c1]
        by_cases c2 : x = 12 * s
        · rw [if_pos (show x = 12 * s + 0 from c2), if_pos c2]
        · rw [if_neg (show ¬ x = 12 * s + 0 from c2), if_neg c2]
          by_cases c3 : 12 * s ≤ x ∧ x < 12 * s + 12
          · rw [if_pos c3]
            have := hz (x - 12 * s) (by omega)
            rw [show 12 * s + (x - 12 * s) = x by omega] at this
            exact this
          · rw [if_neg c3]
    · rw [if_neg (show ¬ (12 : Int32) ≤ nI k from nI_ge (b := 12) (by omega) (by decide)), pg_cd hg, nI_1]
      show Par (bd (x0_set N σ (g + 1) (nI s) (nI k) 0) (fun _ σ9 => x0_add_31 N f σ9 (g + 1) op ow (nI s) (nI (k + 1)))) _
      rw [c_set hg hS hS2 hs (by omega), bd_s]
      refine (ih (sA σ (g + 2) (12 * s + k) 0) (k + 1) hS (by omega) (fun q hq => ?_)).mono (fun r σ' z => ⟨z.1, ?_⟩)
      · rw [gA_sA, if_pos rfl]
        unfold upd
        by_cases y : q = k
        · rw [if_pos (by omega)]
        · rw [if_neg (by omega)]
          exact hz q (by omega)
      · obtain ⟨-, F, e1, e2⟩ := z
        refine ⟨F, ?_, ?_⟩
        · rw [e1, sF_sA]
        · rw [e2, gA_sA, if_pos rfl]
          funext x
          unfold nrow upd
          by_cases c3 : 12 * s ≤ x ∧ x < 12 * s + 12
          · rw [if_pos c3, if_pos c3]
          · rw [if_neg c3, if_neg c3, if_neg (show ¬ x = 12 * s + k by omega)]
theorem c_add {N : Nat} {σ : St} {g s : Nat} {op ow : Int32} (hg : isPr g = true) (hS : gI σ (100 * (g + 1) + 1) = nI s) (hs : s < 304) : Par (x0_add N σ (g + 1) op ow) (fun r σ' => r = nI s ∧ σ' = sF (sI σ (100 * (g + 1) + 1) (nI (s + 1))) (g + 2) (nrow (gA σ (g + 2)) s op ow)) := by
  unfold x0_add
  rw [pg_cd hg, hS]
  show Par (if nI s < 0 then _ else _) _
  rw [if_neg (nI_pos (by omega)), if_pos (show nI s < (304 : Int32) from nI_lt (b := 304) hs (by decide)), nI_1]
  refine (c_add31 (S := s + 1) hg (by omega) (by omega) N (sI σ (100 * (g + 1) + 1) (nI (s + 1))) 0 gI_eq (by omega) (fun q hq => absurd hq (Nat.not_lt_zero q))).mono (fun r σ' z => ⟨z.1, ?_⟩)
  obtain ⟨-, F, e1, e2⟩ := z
  rw [e1, e2]
  rfl
theorem c_addUse {N : Nat} {σ : St} {g u : Nat} {l p m : Int32} (hg : isPr g = true) (hu : gI σ (100 * g + 11) = nI u) (h : u < 40) : x3_addUse N σ g l p m = some (nI u, sI (sA (sA (sA σ (g + 6) u l) (g + 7) u p) (g + 8) u m) (100 * g + 11) (nI (u + 1))) := by
  unfold x3_addUse
  rw [hg, hu, if_neg (nI_pos (by omega)), if_pos (show nI u < (40 : Int32) from nI_lt (b := 40) h (by decide)), ibk h (by decide), nI_clamp (by omega), nI_1]
  rfl
theorem c_addTest {N : Nat} {σ : St} {g u : Nat} {l p : Int32} (hg : isPr g = true) (hu : gI σ (100 * g + 12) = nI u) (h : u < 24) : x3_addTest N σ g l p = some (nI u, sI (sA (sA σ (g + 9) u l) (g + 10) u p) (100 * g + 12) (nI (u + 1))) := by
  unfold x3_addTest
  rw [hg, hu, if_neg (nI_pos (by omega)), if_pos (show nI u < (24 : Int32) from nI_lt (b := 24) h (by decide)), ibk h (by decide), nI_clamp (by omega), nI_1]
  rfl
theorem n_newUse {N : Nat} {σ : St} {u : Nat} {v p : Int32} (h8 : gI σ 8 = 0) (hu : gA σ 26 1 = nI u) (h : u < 40) : m_newUse N σ v p = some (nI u, sA (sA (sA (sA σ 23 (41 + u) (gI σ 34)) 24 (41 + u) p) 25 (41 + u) v) 26 1 (nI (u + 1))) := by
  unfold m_newUse m_newUse_17
  have c41 : (41 : Int32) + nI u = nI (41 + u) := nI_add 41 u
  rw [ib12, c1, hu]
  show (if nI u = 40 then _ else _) = _
  rw [if_neg (show ¬ nI u = (40 : Int32) from fun z => by have := (nI_eq (b := 40) (by omega) (by decide)).mp z; omega), if_pos h8, c41, ibk (show 41 + u < 82 by omega) (by decide), nI_clamp (by omega), nI_1]
  show some (nI (u + 1) - 1, _) = _
  rw [nI_pred]
theorem n_newUseF {N : Nat} {σ : St} {v p : Int32} (h8 : gI σ 8 = 0) (hu : gA σ 26 1 = 40) : m_newUse N σ v p = some (0, sI (sI σ 8 2) 9 p) := by
  unfold m_newUse m_newUse_17 m_wrong
  rw [ib12, c1, hu, gd_t, if_pos rfl, if_pos h8, bd_s, if_neg (show ¬ gI (sI (sI σ 8 2) 9 p) 8 = 0 by rw [gI_ne (by decide), gI_eq]; decide)]
/-- both sides have the same fault -/
def FP (σc σm : St) : Prop := ∃ k p : Int32, ¬ k = 0 ∧ gI σc 408 = k ∧ gI σc 409 = p ∧ gI σm 8 = k ∧ gI σm 9 = p
theorem fp_of {σc σm σc' σm' : St} {k p : Int32} (hk : ¬ k = 0) (h1 : σc' = sI (sI σc 408 k) 409 p) (h2 : σm' = sI (sI σm 8 k) 9 p) : FP σc' σm' := by
  subst h1
  subst h2
  exact ⟨k, p, hk, (gI_ne (by decide)).trans gI_eq, gI_eq, (gI_ne (by decide)).trans gI_eq, gI_eq⟩
theorem fp_m {σc σm σm' : St} (h : FP σc σm) (h8 : gI σm' 8 = gI σm 8) (h9 : gI σm' 9 = gI σm 9) : FP σc σm' := by
  obtain ⟨k, p, a, b, c, d, e⟩ := h
  exact ⟨k, p, a, b, c, h8.trans d, h9.trans e⟩
theorem fp_ne {σc σm : St} (h : FP σc σm) : ¬ gI σm 8 = 0 := by
  obtain ⟨k, p, a, b, c, d, e⟩ := h
  rw [d]
  exact a
