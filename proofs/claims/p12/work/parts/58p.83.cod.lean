/-! the code of both sides: rows against acts -/
/-- where a goal stands: it waits, or it is the row q and its first act -/
def GoR (s : Nat) (φ : Nat → Nat) (X : Nat → Prop) (p : Nat) (v w : Int32) : Prop := X p ∨ ∃ q, q ≤ s ∧ p < q ∧ v = nI q ∧ w = nI (φ q)
def FE (d : Nat → Int32) (A : Nat → Nat → Int32) : Prop := d 0 = 0 ∧ A 0 0 = 1 ∧ A 1 0 = 9
def B0 (d : Nat → Int32) (A : Nat → Nat → Int32) : Prop := d 0 = 2 ∧ A 0 0 = 0 ∧ ((d 4 = 1 ∧ A 1 0 = 12) ∨ (d 4 = 6 ∧ A 1 0 = 10 ∧ A 1 1 = d 1) ∨ (d 4 = 7 ∧ A 1 0 = 11 ∧ A 1 1 = d 1)) ∧ A 1 2 = d 3
/-- row d and its acts A: what holds of them whatever their goals are, and how many acts -/
def EL (d : Nat → Int32) (A : Nat → Nat → Int32) (len : Nat) : Prop := (FE d A ∧ len = 2) ∨ (d 0 = 1 ∧ A 0 0 = 13 ∧ len = 1) ∨ (B0 d A ∧ len = 2) ∨ (PE d A ∧ len = 3) ∨ (DE d A ∧ len = 2) ∨ (RE d A ∧ len = 3)
/-- the goals -/
def GL (g s : Nat) (φ : Nat → Nat) (X : Nat → Prop) (σc : St) (p : Nat) (d : Nat → Int32) (A : Nat → Nat → Int32) : Prop := (d 0 = 1 → (A 0 2 = 1 ∧ ∃ q, q < p ∧ d 10 = nI q ∧ rwD g q σc 0 = 2 ∧ A 0 1 = nI (φ q + 1)) ∨ (A 0 2 = 0 ∧ GoR s φ X p (d 10) (A 0 1))) ∧ (d 0 = 2 → GoR s φ X p (d 10) (A 1 3))
def acF (φ : Nat → Nat) (p : Nat) (σm : St) : Nat → Nat → Int32 := fun k => acE (φ p + k) σm
def Cod (g s : Nat) (φ ψ : Nat → Nat) (X : Nat → Prop) (σc σm : St) : Prop := φ 0 = 0 ∧ ψ 0 = 0 ∧ ∀ p, p < s → ∃ len, 0 < len ∧ φ (p + 1) = φ p + len ∧ EL (rwD g p σc) (acF φ p σm) len ∧ GL g s φ X σc p (rwD g p σc) (acF φ p σm) ∧ CR (rwD g p σc) (ψ p) (ψ (p + 1)) σm
theorem vr_same {d e d' e' : Nat → Int32} (hd : ∀ q, q < 10 → d' q = d q) (he : ∀ j, j ≤ 4 → e' j = e j) (h : VR d e) : VR d' e' := by
  unfold VR at *
  rw [hd 4 (by decide), hd 5 (by decide), hd 6 (by decide), hd 7 (by decide), hd 8 (by decide), he 0 (by decide), he 1 (by decide), he 2 (by decide), he 3 (by decide), he 4 (by decide)]
  exact h
theorem el_same {d d' : Nat → Int32} {A A' : Nat → Nat → Int32} {len : Nat} (hd : ∀ q, q < 10 → d' q = d q) (hA : ∀ k j, k < len → j ≤ 4 → A' k j = A k j) (h : EL d A len) : EL d' A' len := by
  unfold EL at *
  rcases h with ⟨h, rfl⟩ | ⟨h, h2, rfl⟩ | ⟨h, rfl⟩ | ⟨h, rfl⟩ | ⟨h, rfl⟩ | ⟨h, rfl⟩
  · refine Or.inl ⟨?_, rfl⟩
    obtain ⟨a, b, c⟩ := h
    exact ⟨(hd 0 (by decide)).trans a, (hA 0 0 (by decide) (by decide)).trans b, (hA 1 0 (by decide) (by decide)).trans c⟩
  · exact Or.inr (Or.inl ⟨(hd 0 (by decide)).trans h, (hA 0 0 (by decide) (by decide)).trans h2, rfl⟩)
  · refine Or.inr (Or.inr (Or.inl ⟨?_, rfl⟩))
    unfold B0 at *
    rw [hd 0 (by decide), hd 1 (by decide), hd 3 (by decide), hd 4 (by decide), hA 0 0 (by decide) (by decide), hA 1 0 (by decide) (by decide), hA 1 1 (by decide) (by decide), hA 1 2 (by decide) (by decide)]
    exact h
  · refine Or.inr (Or.inr (Or.inr (Or.inl ⟨?_, rfl⟩)))
    unfold PE at *
    rw [hd 0 (by decide), hd 1 (by decide), hd 2 (by decide), hd 3 (by decide), hA 0 0 (by decide) (by decide), hA 2 0 (by decide) (by decide), hA 2 1 (by decide) (by decide), hA 2 2 (by decide) (by decide), hA 2 3 (by decide) (by decide)]
    rcases h with ⟨a, b, c, e⟩ | ⟨a, b, c, e⟩
    · exact Or.inl ⟨a, b, vr_same hd (fun j hj => hA 1 j (by decide) hj) c, e⟩
    · exact Or.inr ⟨a, b, vr_same hd (fun j hj => hA 1 j (by decide) hj) c, e⟩
  · refine Or.inr (Or.inr (Or.inr (Or.inr (Or.inl ⟨?_, rfl⟩))))
    obtain ⟨a, b, c, e⟩ := h
    exact ⟨(hd 0 (by decide)).trans a, (hA 0 0 (by decide) (by decide)).trans b, vr_same hd (fun j hj => hA 1 j (by decide) hj) c, (hd 4 (by decide)).trans e⟩
  · refine Or.inr (Or.inr (Or.inr (Or.inr (Or.inr ⟨?_, rfl⟩))))
    obtain ⟨a, b, c, e⟩ := h
    exact ⟨(hd 0 (by decide)).trans a, (hA 0 0 (by decide) (by decide)).trans b, vr_same hd (fun j hj => hA 1 j (by decide) hj) c, (hA 2 0 (by decide) (by decide)).trans e⟩
theorem cr_same {d d' : Nat → Int32} {c c' : Nat} {σ σ' : St} (hd : ∀ q, q < 10 → d' q = d q) (hc : ∀ j, 30 ≤ j → j ≤ 32 → c < c' → gA σ' j c = gA σ j c) (h : CR d c c' σ) : CR d' c c' σ' := by
  unfold CR at *
  rw [hd 4 (by decide), hd 6 (by decide), hd 8 (by decide), hd 9 (by decide)]
  rcases h with ⟨a, b⟩ | ⟨a, b, e⟩
  · exact Or.inl ⟨a, b⟩
  · refine Or.inr ⟨a, b, ?_⟩
    rw [hc 30 (by decide) (by decide) (by omega), hc 31 (by decide) (by decide) (by omega), hc 32 (by decide) (by decide) (by omega)]
    exact e
theorem cr_le {d : Nat → Int32} {c c' : Nat} {σ : St} (h : CR d c c' σ) : c ≤ c' ∧ c' ≤ c + 1 := by
  rcases h with ⟨-, b⟩ | ⟨-, b, -⟩ <;> omega
theorem cod_up {g s : Nat} {φ ψ : Nat → Nat} {X : Nat → Prop} {σc σm : St} (h : Cod g s φ ψ X σc σm) : ∀ q, q ≤ s → ∀ p, p ≤ q → φ p ≤ φ q ∧ ψ p ≤ ψ q ∧ (p < q → φ p < φ q) ∧ p ≤ φ p := by
  intro q
  induction q with
  | zero =>
    intro _ p hp
    obtain rfl : p = 0 := by omega
    exact ⟨Nat.le_refl _, Nat.le_refl _, fun z => absurd z (Nat.lt_irrefl _), by omega⟩
  | succ q ih =>
    intro hq p hp
    obtain ⟨len, l1, l2, -, -, l5⟩ := h.2.2 q (by omega)
    have hc := cr_le l5
    rcases (show p = q + 1 ∨ p ≤ q by omega) with e | e
    · subst e
      have := ih (by omega) q (Nat.le_refl _)
      exact ⟨Nat.le_refl _, Nat.le_refl _, fun z => absurd z (Nat.lt_irrefl _), by omega⟩
    · have := ih (by omega) p e
      exact ⟨by omega, by omega, fun _ => by omega, this.2.2.2⟩
def xt (φ : Nat → Nat) (s v : Nat) : Nat → Nat := fun k => if k ≤ s then φ k else v
theorem xt_le {φ : Nat → Nat} {s v k : Nat} (h : k ≤ s) : xt φ s v k = φ k := if_pos h
theorem xt_s {φ : Nat → Nat} {s v : Nat} : xt φ s v (s + 1) = v := if_neg (by omega)
theorem go_mono {s s2 : Nat} {φ φ2 : Nat → Nat} {X X2 : Nat → Prop} {p : Nat} {v w : Int32} (h : GoR s φ X p v w) (hs : s ≤ s2) (hf : ∀ q, q ≤ s → φ2 q = φ q) (hX : X p → X2 p) : GoR s2 φ2 X2 p v w := by
  rcases h with h | ⟨q, a, b, c, d⟩
  · exact Or.inl (hX h)
  · exact Or.inr ⟨q, by omega, b, c, by rw [hf q a]; exact d⟩
/-- a new row behind the others -/
theorem cod_app {g s len c' : Nat} {φ ψ : Nat → Nat} {X X2 : Nat → Prop} {σc σm σc' σm' : St} (h : Cod g s φ ψ X σc σm) (hr : ∀ x, x < 12 * s → gA σc' (g + 2) x = gA σc (g + 2) x) (ha : ∀ j k, 12 ≤ j → j ≤ 16 → k < 1300 + φ s → gA σm' j k = gA σm j k) (hc : ∀ j k, 30 ≤ j → j ≤ 32 → k < ψ s → gA σm' j k = gA σm j k) (hX : ∀ p, p < s → X p → X2 p) (hl : 0 < len) (hE : EL (rwD g s σc') (fun k => acE (φ s + k) σm') len) (hG : GL g (s + 1) (xt φ s (φ s + len)) X2 σc' s (rwD g s σc') (fun k => acE (φ s + k) σm')) (hR : CR (rwD g s σc') (ψ s) c' σm') : Cod g (s + 1) (xt φ s (φ s + len)) (xt ψ s c') X2 σc' σm' := by
  have hd : ∀ p q, p < s → q < 12 → rwD g p σc' q = rwD g p σc q := fun p q hp hq => hr _ (by omega)
  refine ⟨(xt_le (Nat.zero_le _)).trans h.1, (xt_le (Nat.zero_le _)).trans h.2.1, fun p hp => ?_⟩
  rcases (show p = s ∨ p < s by omega) with e | e
  · subst e
    refine ⟨len, hl, by rw [xt_s, xt_le (Nat.le_refl _)], ?_, ?_, by rw [xt_s, xt_le (Nat.le_refl _)]; exact hR⟩
    · unfold acF
      rw [xt_le (Nat.le_refl _)]
      exact hE
    · unfold acF
      rw [xt_le (Nat.le_refl _)]
      exact hG
  · obtain ⟨ln, l1, l2, l3, l4, l5⟩ := h.2.2 p e
    have hm := cod_up h s (Nat.le_refl _) (p + 1) e
    have hA : ∀ k j, k < ln → j ≤ 4 → acF (xt φ s (φ s + len)) p σm' k j = acF φ p σm k j := fun k j hk hj => by
      unfold acF acE
      rw [xt_le (by omega)]
      exact ha _ _ (by omega) (by omega) (by omega)
    refine ⟨ln, l1, by rw [xt_le (by omega), xt_le (by omega)]; exact l2, el_same (fun q hq => hd p q e (by omega)) hA l3, ⟨fun z => ?_, fun z => ?_⟩, ?_⟩
    · have z0 : rwD g p σc 0 = 1 := (hd p 0 e (by decide)).symm.trans z
      have hln : 0 < ln := l1
      rcases l4.1 z0 with ⟨a1, q, a2, a3, a4, a5⟩ | ⟨a1, a2⟩
      · refine Or.inl ⟨(hA 0 2 hln (by decide)).trans a1, q, a2, (hd p 10 e (by decide)).trans a3, (hd q 0 (by omega) (by decide)).trans a4, ?_⟩
        rw [hA 0 1 hln (by decide), xt_le (by omega)]
        exact a5
      · refine Or.inr ⟨(hA 0 2 hln (by decide)).trans a1, ?_⟩
        rw [hA 0 1 hln (by decide), hd p 10 e (by decide)]
        exact go_mono a2 (by omega) (fun q hq => xt_le hq) (hX p e)
    · have z0 : rwD g p σc 0 = 2 := (hd p 0 e (by decide)).symm.trans z
      have hln : ln = 2 := by
        rcases l3 with ⟨f, f2⟩ | ⟨f, -, f2⟩ | ⟨f, f2⟩ | ⟨f, f2⟩ | ⟨f, f2⟩ | ⟨f, f2⟩
        · exact f2
        · rw [z0] at f; exact absurd f (by decide)
        · exact f2
        · rcases f with ⟨f, -⟩ | ⟨f, -⟩ <;> (rw [z0] at f; exact absurd f (by decide))
        · have := f.1; rw [z0] at this; exact absurd this (by decide)
        · have := f.1; rw [z0] at this; exact absurd this (by decide)
      rw [hA 1 3 (by omega) (by decide), hd p 10 e (by decide)]
      exact go_mono (l4.2 z0) (by omega) (fun q hq => xt_le hq) (hX p e)
    · rw [xt_le (by omega), xt_le (by omega)]
      exact cr_same (fun q hq => hd p q e (by omega)) (fun j h1 h2 h3 => hc j _ h1 h2 (by omega)) l5
