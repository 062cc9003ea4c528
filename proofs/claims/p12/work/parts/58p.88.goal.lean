/-! a block closes: goals are set -/
theorem el_2 {d : Nat → Int32} {A : Nat → Nat → Int32} {len : Nat} (h : EL d A len) (h0 : d 0 = 2) : B0 d A ∧ len = 2 := by
  rcases h with ⟨f, f2⟩ | ⟨f, -, f2⟩ | ⟨f, f2⟩ | ⟨f, f2⟩ | ⟨f, f2⟩ | ⟨f, f2⟩
  · have := f.1; rw [h0] at this; exact absurd this (by decide)
  · rw [h0] at f; exact absurd f (by decide)
  · exact ⟨f, f2⟩
  · rcases f with ⟨f, -⟩ | ⟨f, -⟩ <;> (rw [h0] at f; exact absurd f (by decide))
  · have := f.1; rw [h0] at this; exact absurd this (by decide)
  · have := f.1; rw [h0] at this; exact absurd this (by decide)
theorem el_1 {d : Nat → Int32} {A : Nat → Nat → Int32} {len : Nat} (h : EL d A len) (h0 : d 0 = 1) : A 0 0 = 13 ∧ len = 1 := by
  rcases h with ⟨f, f2⟩ | ⟨f, f3, f2⟩ | ⟨f, f2⟩ | ⟨f, f2⟩ | ⟨f, f2⟩ | ⟨f, f2⟩
  · have := f.1; rw [h0] at this; exact absurd this (by decide)
  · exact ⟨f3, f2⟩
  · have := f.1; rw [h0] at this; exact absurd this (by decide)
  · rcases f with ⟨f, -⟩ | ⟨f, -⟩ <;> (rw [h0] at f; exact absurd f (by decide))
  · have := f.1; rw [h0] at this; exact absurd this (by decide)
  · have := f.1; rw [h0] at this; exact absurd this (by decide)
/-- the goal of row p0 is row q0 -/
theorem cod_goal {g s p0 q0 jj kk : Nat} {φ ψ : Nat → Nat} {X X2 : Nat → Prop} {σc σm σc' σm' : St} (h : Cod g s φ ψ X σc σm) (hp : p0 < s) (hq : q0 ≤ s) (hpq : p0 < q0) (hk : (rwD g p0 σc 0 = 2 ∧ jj = 15 ∧ kk = 1) ∨ (rwD g p0 σc 0 = 1 ∧ acE (φ p0) σm 2 = 0 ∧ jj = 13 ∧ kk = 0)) (hc1 : gA σc' (g + 2) = upd (gA σc (g + 2)) (12 * p0 + 10) (nI q0)) (hm1 : gA σm' jj = upd (gA σm jj) (1300 + (φ p0 + kk)) (nI (φ q0))) (hm2 : ∀ j, j ≠ jj → gA σm' j = gA σm j) (hX : ∀ p, p < s → ¬ p = p0 → X p → X2 p) : Cod g s φ ψ X2 σc' σm' := by
  have hd : ∀ p q, q < 10 → rwD g p σc' q = rwD g p σc q := fun p q hq2 => by
    unfold rwD
    rw [hc1, upd_ne (by omega)]
  have hd10 : ∀ p, ¬ p = p0 → rwD g p σc' 10 = rwD g p σc 10 := fun p hp2 => by
    unfold rwD
    rw [hc1, upd_ne (by omega)]
  have hd10s : rwD g p0 σc' 10 = nI q0 := by unfold rwD; rw [hc1, upd_eq]
  have hjj : jj = 15 ∨ jj = 13 := by
    rcases hk with ⟨-, h1, -⟩ | ⟨-, -, h1, -⟩
    · exact Or.inl h1
    · exact Or.inr h1
  have hkk : kk < 2 := by
    rcases hk with ⟨-, -, h1⟩ | ⟨-, -, -, h1⟩ <;> omega
  obtain ⟨ln0, -, lx0, ly0, -, -⟩ := h.2.2 p0 hp
  have hkl : kk < ln0 := by
    rcases hk with ⟨h1, -, h3⟩ | ⟨h1, -, -, h3⟩
    · have := (el_2 ly0 h1).2; omega
    · have := (el_1 ly0 h1).2; omega
  have hac : ∀ a j, j ≤ 4 → (¬ a = φ p0 + kk ∨ ¬ 12 + j = jj) → acE a σm' j = acE a σm j := fun a j hj h3 => by
    unfold acE
    by_cases c : 12 + j = jj
    · rw [c, hm1, upd_ne (by rcases h3 with h3 | h3 <;> omega)]
    · rw [hm2 _ c]
  refine ⟨h.1, h.2.1, fun p e => ?_⟩
  obtain ⟨ln, l1, l2, l3, l4, l5⟩ := h.2.2 p e
  have hcr : CR (rwD g p σc') (ψ p) (ψ (p + 1)) σm' := cr_same (fun q hq2 => hd p q hq2) (fun j h1 h2 _ => by rw [hm2 j (by omega)]) l5
  by_cases cp : p = p0
  · subst cp
    refine ⟨ln, l1, l2, ?_, ⟨fun z => ?_, fun z => ?_⟩, hcr⟩
    · rcases hk with ⟨h0, h1, h2⟩ | ⟨h0, -, h1, h2⟩
      · obtain ⟨b, hl⟩ := el_2 l3 h0
        refine Or.inr (Or.inr (Or.inl ⟨?_, hl⟩))
        obtain ⟨b1, b2, b3, b4⟩ := b
        refine ⟨(hd p 0 (by decide)).trans b1, (hac _ 0 (by decide) (Or.inr (by omega))).trans b2, ?_, ?_⟩
        · rw [hd p 4 (by decide), hd p 1 (by decide)]
          rcases b3 with ⟨f1, f2⟩ | ⟨f1, f2, f3⟩ | ⟨f1, f2, f3⟩
          · exact Or.inl ⟨f1, (hac _ 0 (by decide) (Or.inr (by omega))).trans f2⟩
          · exact Or.inr (Or.inl ⟨f1, (hac _ 0 (by decide) (Or.inr (by omega))).trans f2, (hac _ 1 (by decide) (Or.inr (by omega))).trans f3⟩)
          · exact Or.inr (Or.inr ⟨f1, (hac _ 0 (by decide) (Or.inr (by omega))).trans f2, (hac _ 1 (by decide) (Or.inr (by omega))).trans f3⟩)
        · rw [hd p 3 (by decide)]
          exact (hac _ 2 (by decide) (Or.inr (by omega))).trans b4
      · obtain ⟨b, hl⟩ := el_1 l3 h0
        exact Or.inr (Or.inl ⟨(hd p 0 (by decide)).trans h0, (hac _ 0 (by decide) (Or.inr (by omega))).trans b, hl⟩)
    · have z0 : rwD g p σc 0 = 1 := (hd p 0 (by decide)).symm.trans z
      rcases hk with ⟨h0, -⟩ | ⟨h0, h4, h1, h2⟩
      · rw [h0] at z0; exact absurd z0 (by decide)
      · subst h1
        subst h2
        refine Or.inr ⟨(hac _ 2 (by decide) (Or.inr (by decide))).trans h4, Or.inr ⟨q0, hq, hpq, hd10s, ?_⟩⟩
        show gA σm' 13 (1300 + (φ p + 0)) = _
        rw [hm1, upd_eq]
    · have z0 : rwD g p σc 0 = 2 := (hd p 0 (by decide)).symm.trans z
      rcases hk with ⟨h0, h1, h2⟩ | ⟨h0, -⟩
      · subst h1
        subst h2
        refine Or.inr ⟨q0, hq, hpq, hd10s, ?_⟩
        show gA σm' 15 (1300 + (φ p + 1)) = _
        rw [hm1, upd_eq]
      · rw [h0] at z0; exact absurd z0 (by decide)
  · have hap : ∀ k, k < ln → ¬ φ p + k = φ p0 + kk := fun k hk2 z => by
      rcases (show p < p0 ∨ p0 < p by omega) with q | q
      · have := (cod_up h p0 (by omega) (p + 1) q).1
        omega
      · have := (cod_up h p (by omega) (p0 + 1) q).1
        omega
    have hA : ∀ k j, k < ln → j ≤ 4 → acF φ p σm' k j = acF φ p σm k j := fun k j hk2 hj => hac _ j hj (Or.inl (hap k hk2))
    refine ⟨ln, l1, l2, el_same (fun q hq2 => hd p q hq2) hA l3, ⟨fun z => ?_, fun z => ?_⟩, hcr⟩
    · have z0 : rwD g p σc 0 = 1 := (hd p 0 (by decide)).symm.trans z
      rcases l4.1 z0 with ⟨a1, q, a2, a3, a4, a5⟩ | ⟨a1, a2⟩
      · refine Or.inl ⟨(hA 0 2 l1 (by decide)).trans a1, q, a2, (hd10 p cp).trans a3, (hd q 0 (by decide)).trans a4, ?_⟩
        rw [hA 0 1 l1 (by decide)]
        exact a5
      · refine Or.inr ⟨(hA 0 2 l1 (by decide)).trans a1, ?_⟩
        rw [hA 0 1 l1 (by decide), hd10 p cp]
        exact go_mono a2 (Nat.le_refl _) (fun _ _ => rfl) (hX p e cp)
    · have z0 : rwD g p σc 0 = 2 := (hd p 0 (by decide)).symm.trans z
      have hln := (el_2 l3 z0).2
      rw [hA 1 3 (by omega) (by decide), hd10 p cp]
      exact go_mono (l4.2 z0) (Nat.le_refl _) (fun _ _ => rfl) (hX p e cp)
