/-! the invariant of texts holds at the start -/
theorem lt_begin (f23 f26 f19 f61 : Nat → Int32) (h19 : ∀ j, j < 16 → f19 j = -1) : LT (sC0 f23 f26) (sM0 f19 f61) := by
  refine ⟨fun j _ => ?_, fun j _ => ?_, rfl, rfl, rfl, rfl, fun e => ?_, ⟨0, by decide, rfl, rfl, fun r hr => ⟨⟨fun h => ?_, fun h => absurd (h19 r (by omega)) h⟩, fun h => ?_⟩⟩, rfl⟩
  · show (0 : Int32) = vp_nar .byte 0
    decide
  · show 0 ≤ (0 : Int32).toInt ∧ (0 : Int32).toInt ≤ 255
    decide
  · exact absurd (show (30 : Nat) = 50 from e) (by decide)
  · rw [Nat.zero_div, Nat.zero_mod] at h
    exact absurd h (by decide)
  · rw [Nat.zero_div, Nat.zero_mod] at h
    exact absurd h (by decide)
theorem lx_begin (f23 f26 f19 f61 : Nat → Int32) (h19 : ∀ j, j < 16 → f19 j = -1) : LX (sC0 f23 f26) (sM0 f19 f61) := by
  refine ⟨lt_begin f23 f26 f19 f61 h19, ⟨0, fun n => n, 0, 0, 0, rfl, by decide, rfl, by decide, ⟨rfl, fun p hp => absurd hp (Nat.not_lt_zero p)⟩, ⟨rfl, rfl, by decide, fun k hk => absurd hk (Nat.not_lt_zero k), rfl, rfl, by decide, fun k hk => absurd hk (Nat.not_lt_zero k)⟩, ⟨by decide, rfl, fun r hr => ⟨⟨fun h => ?_, fun h => absurd (h19 r (by omega)) h⟩, fun h => ?_⟩⟩, fun p hp => absurd hp (Nat.not_lt_zero p)⟩, fun i _ => ⟨rfl, 0, by decide, rfl⟩⟩
  · rw [Nat.zero_div, Nat.zero_mod] at h
    exact absurd h (by decide)
  · rw [Nat.zero_div, Nat.zero_mod] at h
    exact absurd h (by decide)
theorem lr_begin (f23 f26 f19 f61 : Nat → Int32) (h26 : ∀ j, j < 4 → f26 j = -1) : LR (sC0 f23 f26) (sM0 f19 f61) := Or.inl ⟨rfl, h26⟩
theorem cf_begin (f23 f26 f19 f61 : Nat → Int32) : CF (sC0 f23 f26) (sM0 f19 f61) := fun e => absurd (show (1 : Int32) = 0 from e) (by decide)
theorem ub_begin (f19 f61 : Nat → Int32) : UB (sM0 f19 f61) := ⟨0, 0, rfl, by decide, rfl, by decide, fun k hk => absurd hk (Nat.not_lt_zero k), fun k k' _ hk => absurd hk (Nat.not_lt_zero k')⟩
theorem ca_begin (f23 f26 f19 f61 : Nat → Int32) (h19 : ∀ j, j < 16 → f19 j = -1) : CAx BN (sC0 f23 f26) (sM0 f19 f61) := by
  refine ⟨fun e => absurd (show (1 : Int32) = 0 from e) (by decide), ⟨0, rfl, by decide, fun t ht => ?_, fun k hk => absurd hk (Nat.not_lt_zero k)⟩, fun e => absurd (show (1 : Int32) = 0 from e) (by decide)⟩
  obtain ⟨r, r1, r2, r3⟩ := ht
  have e : gA (sM0 f19 f61) 19 r = -1 := h19 r (by omega)
  exact absurd (r2.symm.trans e) (nI_nm1 (by omega))
