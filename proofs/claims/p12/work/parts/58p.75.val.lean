/-! a VALUE: both sides read the same -/
/-- the class in the middle of a statement -/
def MC (t : Nat → Int32) (n g i S : Nat) (σ : St) : Prop := SyC t n i σ ∧ Pg g σ ∧ gI σ (100 * (g + 1) + 1) = nI S ∧ S ≤ 304
/-- the reference in the middle of a statement -/
def MM (t : Nat → Int32) (n i a c : Nat) (σ : St) : Prop := SyM t n i σ ∧ gI σ 17 = nI a ∧ a ≤ 1300 ∧ gI σ 33 = nI c ∧ c ≤ 400
def UsR (g u : Nat) (σc σm : St) : Prop := gI σc (100 * g + 11) = nI u ∧ gA σm 26 1 = nI u ∧ u ≤ 40 ∧ ∀ k, k < u → gA σc (g + 6) k = gA σm 23 (41 + k) ∧ gA σc (g + 7) k = gA σm 24 (41 + k) ∧ gA σc (g + 8) k = gA σm 25 (41 + k)
/-- what reading a VALUE into row pc may change of the class, of the reference -/
def FcV (g pc : Nat) (σ σ' : St) : Prop := (∀ k, k ≠ 405 → k ≠ 100 * g + 11 → gI σ' k = gI σ k) ∧ (∀ k, gP σ' k = gP σ k) ∧ (∀ j, j ≠ g + 2 → j ≠ g + 6 → j ≠ g + 7 → j ≠ g + 8 → gA σ' j = gA σ j) ∧ (∀ x, ¬ (12 * pc + 4 ≤ x ∧ x ≤ 12 * pc + 9) → gA σ' (g + 2) x = gA σ (g + 2) x)
def FmV (a c : Nat) (σ σ' : St) : Prop := (∀ k, (k < 4 ∨ 9 < k) → k ≠ 17 → k ≠ 33 → gI σ' k = gI σ k) ∧ (∀ j, ¬ (12 ≤ j ∧ j ≤ 16) → ¬ (23 ≤ j ∧ j ≤ 26) → ¬ (30 ≤ j ∧ j ≤ 32) → gA σ' j = gA σ j) ∧ (∀ j k, 12 ≤ j → j ≤ 16 → k < 1300 + a → gA σ' j k = gA σ j k) ∧ (∀ j k, 30 ≤ j → j ≤ 32 → k < c → gA σ' j k = gA σ j k)
theorem fcV_rf (g pc : Nat) (σ : St) : FcV g pc σ σ := ⟨fun _ _ _ => rfl, fun _ => rfl, fun _ _ _ _ _ => rfl, fun _ _ => rfl⟩
theorem fcV_tr {g pc : Nat} {σ σ1 σ2 : St} (h : FcV g pc σ σ1) (h2 : FcV g pc σ1 σ2) : FcV g pc σ σ2 := ⟨fun k a b => (h2.1 k a b).trans (h.1 k a b), fun k => (h2.2.1 k).trans (h.2.1 k), fun j a b c d => (h2.2.2.1 j a b c d).trans (h.2.2.1 j a b c d), fun x a => (h2.2.2.2 x a).trans (h.2.2.2 x a)⟩
theorem fcV_n {g pc : Nat} {σ : St} {v : Int32} : FcV g pc σ (sI σ 405 v) := ⟨fun _ a _ => gI_ne (fun q => a q.symm), fun _ => rfl, fun _ _ _ _ _ => rfl, fun _ _ => rfl⟩
theorem fcV_r {g pc q : Nat} {σ : St} {v : Int32} (h1 : 4 ≤ q) (h2 : q ≤ 9) : FcV g pc σ (sA σ (g + 2) (12 * pc + q) v) := ⟨fun _ _ _ => rfl, fun _ => rfl, fun j a _ _ _ => by rw [gA_sA, if_neg a], fun x a => by rw [gA_sA, if_pos rfl]; unfold upd; exact if_neg (by omega)⟩
theorem fmV_rf (a c : Nat) (σ : St) : FmV a c σ σ := ⟨fun _ _ _ _ => rfl, fun _ _ _ _ => rfl, fun _ _ _ _ _ => rfl, fun _ _ _ _ _ => rfl⟩
theorem fmV_tr {a c : Nat} {σ σ1 σ2 : St} (h : FmV a c σ σ1) (h2 : FmV a c σ1 σ2) : FmV a c σ σ2 := ⟨fun k b d e => (h2.1 k b d e).trans (h.1 k b d e), fun j b d e => (h2.2.1 j b d e).trans (h.2.1 j b d e), fun j k b d e => (h2.2.2.1 j k b d e).trans (h.2.2.1 j k b d e), fun j k b d e => (h2.2.2.2 j k b d e).trans (h.2.2.2 j k b d e)⟩
theorem fmV_tk {a c : Nat} {σ σ' : St} (h : Tk σ σ') : FmV a c σ σ' := ⟨fun k b _ _ => h.2.1 k b, fun j _ _ _ => h.1 j, fun j k _ _ _ => by rw [h.1 j], fun j k _ _ _ => by rw [h.1 j]⟩
theorem fmV_em {a c : Nat} {σ σ' : St} {x y z w : Int32} (h : gA σ' = emA (gA σ) a x y z w) (hI : ∀ k, k ≠ 17 → gI σ' k = gI σ k) : FmV a c σ σ' := ⟨fun k _ e _ => hI k e, fun j b _ _ => by rw [h]; exact emA_o (by omega), fun j k _ _ e => by rw [h]; exact emA_ge e, fun j k b _ _ => by rw [h, emA_o (by omega)]⟩
theorem mM_tk {t : Nat → Int32} {n i i2 a c : Nat} {σ σ' : St} (h : MM t n i a c σ) (hT : Tk σ σ') (hS : SyM t n i2 σ') : MM t n i2 a c σ' := ⟨hS, (hT.2.1 17 (by omega)).trans h.2.1, h.2.2.1, (hT.2.1 33 (by omega)).trans h.2.2.2.1, h.2.2.2.2⟩
theorem mC_up {t : Nat → Int32} {n g i S : Nat} {σ : St} (hT : Tp t n) (h : MC t n g i S σ) (hk : ¬ kK t n i = 0) : MC t n g (i + 1) S (sI σ 405 (nI (i + 1))) := by
  have hi := tk_1200 hT hk
  obtain ⟨h1, h2, h3, h4⟩ := h
  have hg := pg_b h2.1
  exact ⟨sc_up h1 (by omega), h2, (gI_ne (by omega)).trans h3, h4⟩
theorem mC_row {t : Nat → Int32} {n g i S x : Nat} {v : Int32} {σ : St} (h : MC t n g i S σ) : MC t n g i S (sA σ (g + 2) x v) := by
  obtain ⟨h1, h2, h3, h4⟩ := h
  have hg := pg_b h2.1
  exact ⟨syC_same h1 rfl rfl (by rw [gA_sA, if_neg (by omega)]) rfl rfl, h2, h3, h4⟩
theorem usR_n {g u : Nat} {σc σm σm' : St} {v : Int32} (hg : isPr g = true) (h : UsR g u σc σm) (hT : Tk σm σm') : UsR g u (sI σc 405 v) σm' := by
  have hb := pg_b hg
  obtain ⟨h1, h2, h3, h4⟩ := h
  refine ⟨(gI_ne (by omega)).trans h1, by rw [hT.1 26]; exact h2, h3, fun k hk => ?_⟩
  rw [hT.1 23, hT.1 24, hT.1 25]
  exact h4 k hk
theorem usR_row {g u x : Nat} {σc σm : St} {v : Int32} (hg : isPr g = true) (h : UsR g u σc σm) : UsR g u (sA σc (g + 2) x v) σm := by
  have hb := pg_b hg
  obtain ⟨h1, h2, h3, h4⟩ := h
  refine ⟨h1, h2, h3, fun k hk => ?_⟩
  rw [gA_sA, if_neg (by omega), gA_sA, if_neg (by omega), gA_sA, if_neg (by omega)]
  exact h4 k hk
theorem usR_em {g u a : Nat} {σc σm σm' : St} {x y z w : Int32} (h : UsR g u σc σm) (he : gA σm' = emA (gA σm) a x y z w) : UsR g u σc σm' := by
  obtain ⟨h1, h2, h3, h4⟩ := h
  refine ⟨h1, by rw [he, emA_o (by omega)]; exact h2, h3, fun k hk => ?_⟩
  rw [he, emA_o (by omega), emA_o (by omega), emA_o (by omega)]
  exact h4 k hk
theorem mM_em {t : Nat → Int32} {n i a c : Nat} {σ σ' : St} {x y z w : Int32} (h : MM t n i a c σ) (ha : a ≤ 1299) (he : gA σ' = emA (gA σ) a x y z w) (hI : ∀ k, k ≠ 17 → gI σ' k = gI σ k) (h17 : gI σ' 17 = nI (a + 1)) : MM t n i (a + 1) c σ' := by
  obtain ⟨h1, h2, h3, h4, h5⟩ := h
  exact ⟨syM_same h1 (by rw [he, emA_o (by omega)]) (fun k _ _ => hI k (by omega)), h17, by omega, (hI 33 (by decide)).trans h4, h5⟩
/-- a field behind the '.' -/
theorem r_field {t : Nat → Int32} {n g i S a c u pc q N : Nat} {σc σm : St} (hN : 8589934592 ≤ N) (hT : Tp t n) (hC : MC t n g i S σc) (hM : MM t n i a c σm) (hU : UsR g u σc σm) (hpc : pc < S) (hq : q < 12) : R2 (x4_readField N σc (nI pc) (nI q)) (m_field N σm) (fun rc σc' rm σm' => (rc = 1 ∧ (rm = 0 ∨ rm = 1) ∧ σc' = sI (sA σc (g + 2) (12 * pc + q) rm) 405 (nI (i + 1)) ∧ MC t n g (i + 1) S σc' ∧ MM t n (i + 1) a c σm' ∧ UsR g u σc' σm' ∧ Tk σm σm' ∧ ¬ kK t n i = 0) ∨ (rc = 0 ∧ FP σc' σm')) := by
  have hi := hC.1.2.2.1
  obtain ⟨v1, -, -, v4, -⟩ := sv_srt hM.1.2.2.2.2.1
  have h8 := hM.1.2.2.2.2.2
  have fault : R2 (x4_readField_39 N σc) (m_field_32 N σm) (fun rc σc' rm σm' => (rc = 1 ∧ (rm = 0 ∨ rm = 1) ∧ σc' = sI (sA σc (g + 2) (12 * pc + q) rm) 405 (nI (i + 1)) ∧ MC t n g (i + 1) S σc' ∧ MM t n (i + 1) a c σm' ∧ UsR g u σc' σm' ∧ Tk σm σm' ∧ ¬ kK t n i = 0) ∨ (rc = 0 ∧ FP σc' σm')) := by
    unfold x4_readField_39 m_field_32 x4_refuse m_wrong m_field_41
    rw [hC.1.2.1, sc_place hT hC.1 (by omega), bd_s, bd_s, if_pos h8, bd_s, ff_taken (show ¬ gI (sI (sI σm 8 1) 9 (gI σm 5)) 8 = 0 by rw [gI_ne (by decide), gI_eq]; decide), bd_s]
    refine r2_gdL (fun _ => r2_some (Or.inr ⟨rfl, fp_of (k := 1) (by decide) rfl (by rw [hM.1.2.2.2.1])⟩))
  unfold x4_readField m_field
  rw [hC.1.2.1, sc_letter hT hC.1 (by omega), bd_s, hC.1.2.1, sc_kind hT hC.1 (by omega), bd_s, if_pos h8]
  by_cases k2 : kK t n i = 2
  · rw [if_pos k2, if_pos (v1.mpr k2), v4 k2]
    have hk0 : ¬ kK t n i = 0 := by rw [k2]; decide
    have good : ∀ w : Int32, (w = 0 ∨ w = 1) → kL t n i - 15 = w → R2 (x4_readField_56 N σc (nI pc) (nI q) (kL t n i)) (m_field_41 N σm) (fun rc σc' rm σm' => (rc = 1 ∧ (rm = 0 ∨ rm = 1) ∧ σc' = sI (sA σc (g + 2) (12 * pc + q) rm) 405 (nI (i + 1)) ∧ MC t n g (i + 1) S σc' ∧ MM t n (i + 1) a c σm' ∧ UsR g u σc' σm' ∧ Tk σm σm' ∧ ¬ kK t n i = 0) ∨ (rc = 0 ∧ FP σc' σm')) := by
      intro w hw ew
      unfold x4_readField_56 m_field_41
      rw [hC.2.1.2.2, pg_cd hC.2.1.1, c_set hC.2.1.1 hC.2.2.1 hC.2.2.2 hpc hq, bd_s]
      refine r2_gdL (fun _ => r2_bdR (sm_takenY hN hT hM.1 (k := 2) (Or.inl ⟨rfl, rfl⟩) k2) (fun r σ1 z => ?_))
      obtain ⟨rfl, z2, z3⟩ := z
      rw [show gI (sA σc (g + 2) (12 * pc + q) (kL t n i - 15)) 405 = nI i from hC.1.2.1, nI_1]
      refine r2_some (Or.inl ⟨rfl, by rw [ew]; exact hw, rfl, mC_up hT (mC_row hC) hk0, mM_tk hM z3 z2, usR_n hC.2.1.1 (usR_row hC.2.1.1 hU) z3, z3, hk0⟩)
    by_cases c15 : kL t n i = 15
    · rw [if_pos c15, if_pos c15]
      exact good 0 (Or.inl rfl) (by rw [c15]; decide)
    · rw [if_neg c15, if_neg c15]
      by_cases c16 : kL t n i = 16
      · rw [if_pos c16, if_pos c16]
        exact good 1 (Or.inr rfl) (by rw [c16]; decide)
      · rw [if_neg c16, if_neg c16]
        exact fault
  · rw [if_neg k2, if_neg (fun z => k2 (v1.mp z))]
    exact fault
theorem bd_use {ρ τ : Type} {o : Option (ρ × St)} {f : St → Option (Unit × St)} {K : ρ → St → Option τ} : bd o (fun r σ => bd (f σ) (fun _ σ2 => K r σ2)) = bd (bd o (fun r σ => bd (f σ) (fun _ σ2 => some (r, σ2)))) K := by
  cases o with
  | none => rfl
  | some p =>
    obtain ⟨r, σ⟩ := p
    show bd (f σ) _ = bd (bd (f σ) _) K
    cases f σ <;> rfl
theorem sm_nextF {t : Nat → Int32} {n i N : Nat} {σ σ1 : St} (hN : 8589934592 ≤ N) (hT : Tp t n) (h : SyM t n i σ) (hs : ∀ k, k < 8 → gI σ1 k = gI σ k) : Par (m_next N σ1) (fun _ σ' => gI σ' 8 = gI σ1 8 ∧ gI σ' 9 = gI σ1 9) := by
  obtain ⟨h3, h1, h4, h5, hv, h8⟩ := h
  have hle := tP_le (t := t) (n := n) (i + 1)
  have hT4 : T4 σ1 := by
    have := hT.2
    unfold T4
    rw [hs 4 (by omega), hs 3 (by omega), h4, h3, nI_t (by omega), nI_t (by omega)]
    omega
  exact (s_next hN hT4).par.mono (fun _ σ' q => q.2.2.2.2)
/-- a use and the '.' behind its NAME -/
theorem r_use {t : Nat → Int32} {n g i j S a c u pc q N : Nat} {σc σm : St} (hN : 8589934592 ≤ N) (hT : Tp t n) (hC : MC t n g i S σc) (hM : MM t n i a c σm) (hU : UsR g u σc σm) (hL : gI σc 407 = gI σm 34) (hpc : pc < S) (hq : q < 12) (hj : j ≤ i) (hk : ¬ kK t n i = 0) : R2 (x4_readUse N σc (nI j) (nI pc) (nI q)) (bd (m_newUse N σm (kL t n j) (nI (kQ t n j))) (fun r σ => bd (m_next N σ) (fun _ σ2 => some (r, σ2)))) (fun rc σc' rm σm' => (rc = 1 ∧ rm = nI u ∧ MC t n g (i + 1) S σc' ∧ MM t n (i + 1) a c σm' ∧ UsR g (u + 1) σc' σm' ∧ FmV a c σm σm' ∧ (∀ k, k ≠ 405 → k ≠ 100 * g + 11 → gI σc' k = gI σc k) ∧ (∀ k, gP σc' k = gP σc k) ∧ (∀ j, j ≠ g + 2 → j ≠ g + 6 → j ≠ g + 7 → j ≠ g + 8 → gA σc' j = gA σc j) ∧ gA σc' (g + 2) = upd (gA σc (g + 2)) (12 * pc + q) (nI u)) ∨ (rc = 0 ∧ FP σc' σm')) := by
  have hi := hC.1.2.2.1
  have h8 := hM.1.2.2.2.2.2
  have hb := pg_b hC.2.1.1
  obtain ⟨u1, u2, u3, u4⟩ := hU
  unfold x4_readUse
  rw [hC.2.1.2.1, hC.2.1.1, u1]
  show R2 (if nI u < 40 then _ else _) _ _
  by_cases cu : u < 40
  · rw [if_pos (show nI u < (40 : Int32) from nI_lt (b := 40) cu (by decide)), sc_place hT hC.1 (by omega), bd_s, sc_letter hT hC.1 (by omega), bd_s, c_addUse hC.2.1.1 u1 cu, bd_s, hC.2.1.2.2, pg_cd hC.2.1.1]
    rw [n_newUse h8 u2 cu, bd_s]
    generalize e1 : sI (sA (sA (sA σc (g + 6) u (gI σc 407)) (g + 7) u (nI (kQ t n j))) (g + 8) u (kL t n j)) (100 * g + 11) (nI (u + 1)) = σ1
    have hS1 : gI σ1 (100 * (g + 1) + 1) = nI S := by rw [← e1]; exact (gI_ne (by omega)).trans hC.2.2.1
    have h405 : gI σ1 405 = nI i := by rw [← e1]; exact (gI_ne (by omega)).trans hC.1.2.1
    rw [c_set hC.2.1.1 hS1 hC.2.2.2 hpc hq, bd_s, show gI (sA σ1 (g + 2) (12 * pc + q) (nI u)) 405 = nI i from h405, nI_1]
    refine r2_gdL (fun _ => ?_)
    generalize e2 : sA (sA (sA (sA σm 23 (41 + u) (gI σm 34)) 24 (41 + u) (nI (kQ t n j))) 25 (41 + u) (kL t n j)) 26 1 (nI (u + 1)) = σ2
    have i2 : ∀ k, gI σ2 k = gI σm k := fun k => by rw [← e2]; rfl
    have a2 : ∀ k, ¬ (23 ≤ k ∧ k ≤ 26) → gA σ2 k = gA σm k := fun k hk => by
      rw [← e2, gA_sA, if_neg (by omega), gA_sA, if_neg (by omega), gA_sA, if_neg (by omega), gA_sA, if_neg (by omega)]
    have hy2 : SyM t n i σ2 := syM_same hM.1 (a2 1 (by omega)) (fun k _ _ => i2 k)
    refine r2_bdR (sm_next hN hT hy2) (fun _ σ3 z => ?_)
    obtain ⟨z1, z2, z3⟩ := z
    have a23 : gA σ2 23 = upd (gA σm 23) (41 + u) (gI σm 34) := by rw [← e2]; rfl
    have a24 : gA σ2 24 = upd (gA σm 24) (41 + u) (nI (kQ t n j)) := by rw [← e2]; rfl
    have a25 : gA σ2 25 = upd (gA σm 25) (41 + u) (kL t n j) := by rw [← e2]; rfl
    have a26 : gA σ2 26 = upd (gA σm 26) 1 (nI (u + 1)) := by rw [← e2]; rfl
    have b6 : gA σ1 (g + 6) = upd (gA σc (g + 6)) u (gI σc 407) := by
      rw [← e1]
      show gA (sA (sA (sA σc (g + 6) u (gI σc 407)) (g + 7) u (nI (kQ t n j))) (g + 8) u (kL t n j)) (g + 6) = _
      rw [gA_sA, if_neg (by omega), gA_sA, if_neg (by omega), gA_sA, if_pos rfl]
    have b7 : gA σ1 (g + 7) = upd (gA σc (g + 7)) u (nI (kQ t n j)) := by
      rw [← e1]
      show gA (sA (sA (sA σc (g + 6) u (gI σc 407)) (g + 7) u (nI (kQ t n j))) (g + 8) u (kL t n j)) (g + 7) = _
      rw [gA_sA, if_neg (by omega), gA_sA, if_pos rfl, gA_sA, if_neg (by omega)]
    have b8 : gA σ1 (g + 8) = upd (gA σc (g + 8)) u (kL t n j) := by
      rw [← e1]
      show gA (sA (sA (sA σc (g + 6) u (gI σc 407)) (g + 7) u (nI (kQ t n j))) (g + 8) u (kL t n j)) (g + 8) = _
      rw [gA_sA, if_pos rfl, gA_sA, if_neg (by omega), gA_sA, if_neg (by omega)]
    have bo : ∀ k, k ≠ g + 6 → k ≠ g + 7 → k ≠ g + 8 → gA σ1 k = gA σc k := fun k k6 k7 k8 => by
      rw [← e1]
      show gA (sA (sA (sA σc (g + 6) u (gI σc 407)) (g + 7) u (nI (kQ t n j))) (g + 8) u (kL t n j)) k = _
      rw [gA_sA, if_neg k8, gA_sA, if_neg k7, gA_sA, if_neg k6]
    have bi : ∀ k, k ≠ 100 * g + 11 → gI σ1 k = gI σc k := fun k hk => by rw [← e1]; exact gI_ne (fun y => hk y.symm)
    have bp : ∀ k, gP σ1 k = gP σc k := fun k => by rw [← e1]; rfl
    have hC1 : MC t n g i S σ1 := ⟨syC_same hC.1 (bi _ (by omega)) (bi _ (by omega)) (bo _ (by omega) (by omega) (by omega)) (bi _ (by omega)) (bi _ (by omega)), ⟨hC.2.1.1, (bp _).trans hC.2.1.2.1, (bp _).trans hC.2.1.2.2⟩, hS1, hC.2.2.2⟩
    refine r2_some (Or.inl ⟨rfl, rfl, mC_up hT (mC_row hC1) hk, ⟨z1, (z2.2.1 17 (by omega)).trans ((i2 17).trans hM.2.1), hM.2.2.1, (z2.2.1 33 (by omega)).trans ((i2 33).trans hM.2.2.2.1), hM.2.2.2.2⟩, ⟨?_, ?_, by omega, ?_⟩, ?_, ?_, ?_, ?_, ?_⟩)
    · show gI (sI (sA σ1 (g + 2) (12 * pc + q) (nI u)) 405 (nI (i + 1))) (100 * g + 11) = _
      rw [gI_ne (by omega)]
      show gI σ1 (100 * g + 11) = _
      rw [← e1]
      exact gI_eq
    · rw [z2.1 26, a26]
      unfold upd
      exact if_pos rfl
    · intro k hk2
      rw [z2.1 23, z2.1 24, z2.1 25, a23, a24, a25]
      show gA (sA σ1 (g + 2) (12 * pc + q) (nI u)) (g + 6) k = _ ∧ gA (sA σ1 (g + 2) (12 * pc + q) (nI u)) (g + 7) k = _ ∧ gA (sA σ1 (g + 2) (12 * pc + q) (nI u)) (g + 8) k = _
      rw [gA_sA, if_neg (by omega), gA_sA, if_neg (by omega), gA_sA, if_neg (by omega), b6, b7, b8]
      unfold upd
      by_cases ck : k = u
      · rw [if_pos ck, if_pos ck, if_pos ck, if_pos (by omega), if_pos (by omega), if_pos (by omega)]
        exact ⟨hL, rfl, rfl⟩
      · rw [if_neg ck, if_neg ck, if_neg ck, if_neg (by omega), if_neg (by omega), if_neg (by omega)]
        exact u4 k (by omega)
    · refine fmV_tr ⟨fun k _ _ _ => i2 k, fun j' _ hj2 _ => a2 j' hj2, fun j' k hj1 hj2 _ => by rw [a2 j' (by omega)], fun j' k hj1 hj2 _ => by rw [a2 j' (by omega)]⟩ (fmV_tk z2)
    · intro k k1 k2
      rw [gI_ne (fun y => k1 y.symm)]
      exact bi k k2
    · exact bp
    · intro j' j1 j2 j3 j4
      show gA (sA σ1 (g + 2) (12 * pc + q) (nI u)) j' = _
      rw [gA_sA, if_neg j1]
      exact bo j' j2 j3 j4
    · show gA (sA σ1 (g + 2) (12 * pc + q) (nI u)) (g + 2) = _
      rw [gA_sA, if_pos rfl, bo (g + 2) (by omega) (by omega) (by omega)]
  · have e40 : u = 40 := by omega
    subst e40
    unfold x4_refuse
    rw [if_neg (by decide), sc_place hT hC.1 (by omega), bd_s, bd_s]
    rw [n_newUseF h8 u2, bd_s]
    refine r2_gdL (fun _ => r2_bdR (sm_nextF hN hT hM.1 (fun k hk => by rw [gI_ne (by omega), gI_ne (by omega)])) (fun _ σ3 z => ?_))
    refine r2_some (Or.inr ⟨rfl, fp_m (fp_of (σm := σm) (k := 2) (by decide) rfl rfl) z.1 z.2⟩)
