/-! the reference's FACTS: what each small step does -/
def fm (x : Int64) (n : Nat) : Nat := bN (lb x (2 * n)) + 2 * bN (lb x (2 * n + 1))
theorem fm_lt {x : Int64} {n : Nat} : fm x n < 4 := bN_t.2.2
theorem fm_b {x : Int64} {n b : Nat} (hb : b < 2) : (fm x n).testBit b = lb x (2 * n + b) := by
  rcases (show b = 0 ∨ b = 1 by omega) with e | e
  · subst e; exact bN_t.1
  · subst e; exact bN_t.2.1
theorem n_fact {N : Nat} {σ : St} {x : Int64} {n : Nat} (hn : n ≤ 26) : m_factOf N σ x (nI n) = some (nI (fm x n), σ) := by
  unfold m_factOf
  rw [mf_eq hn]
  rfl
theorem n_with {N : Nat} {σ : St} {x : Int64} {n v : Nat} : m_with N σ x (nI n) (nI v) = some (mw x n v, σ) := rfl
def mkv (σ : St) (m : Nat) : Nat := (gA σ 42 m).toNatClampNeg
def tsv (σ : St) (t : Nat) : Nat := (gA σ 44 t).toNatClampNeg
/-- the numbers are facts; where a way comes by, a bit says so -/
def WM (a : Nat) (σ : St) : Prop := (∀ m, m < 42 → gA σ 42 m = nI (mkv σ m) ∧ mkv σ m < 4) ∧ (∀ m, m < 42 → gA σ 43 m = 0) ∧ (∀ t, t < 25 → gA σ 44 t = nI (tsv σ t) ∧ tsv σ t < 4) ∧ (∀ k, k < a → ¬ gZ σ 41 k = 0 → lb (gZ σ 41 k) 60 = true)
/-- growing; and if nothing is told to have grown, nothing has -/
def Up (σ σ' : St) : Prop := (gI σ' 45 = 0 → gI σ 45 = 0 ∧ gZ σ' 41 = gZ σ 41 ∧ gA σ' 42 = gA σ 42) ∧ (∀ t b, t < 25 → b < 2 → (tsv σ t).testBit b = true → (tsv σ' t).testBit b = true) ∧ (∀ j, j ≠ 42 → j ≠ 44 → gA σ' j = gA σ j) ∧ (∀ k, k ≠ 45 → gI σ' k = gI σ k)
theorem up_r (σ : St) : Up σ σ := ⟨fun h => ⟨h, rfl, rfl⟩, fun _ _ _ _ h => h, fun _ _ _ => rfl, fun _ _ => rfl⟩
theorem up_t {σ σ1 σ2 : St} (h : Up σ σ1) (k : Up σ1 σ2) : Up σ σ2 := ⟨fun e => by
  obtain ⟨a, b, c⟩ := k.1 e
  obtain ⟨a2, b2, c2⟩ := h.1 a
  exact ⟨a2, b.trans b2, c.trans c2⟩, fun t b h1 h2 h3 => k.2.1 t b h1 h2 (h.2.1 t b h1 h2 h3), fun j h1 h2 => (k.2.2.1 j h1 h2).trans (h.2.2.1 j h1 h2), fun q h1 => (k.2.2.2 q h1).trans (h.2.2.2 q h1)⟩
/-- what is so far found is in D: U says what may stand ahead of act k -/
def Jr (a : Nat) (U : Nat → Int64 → Prop) (D : FD) (σ : St) : Prop := (∀ k, k < a → ¬ gZ σ 41 k = 0 → U k (gZ σ 41 k)) ∧ (∀ m b, m < 42 → b < 2 → (mkv σ m).testBit b = true → D.2.2.1 m b) ∧ (∀ t b, t < 25 → b < 2 → (tsv σ t).testBit b = true → D.2.2.2.2 t b)
theorem e_puts {N a : Nat} {U : Nat → Int64 → Prop} {D : FD} {σ : St} {m v : Nat} (hW : WM a σ) (hm : m < 42) (hv : v < 4) : Par (m_puts N σ (nI m) (nI v)) (fun _ σ' => WM a σ' ∧ Up σ σ' ∧ (Jr a U D σ → (∀ b, b < 2 → v.testBit b = true → D.2.2.1 m b) → Jr a U D σ') ∧ (gI σ' 45 = 0 → ∀ b, b < 2 → v.testBit b = true → (mkv σ' m).testBit b = true)) := by
  obtain ⟨w1, w2, w3, w4⟩ := id hW
  obtain ⟨x1, x2⟩ := w1 m hm
  obtain ⟨o1, o2, o3, o4, o5⟩ := v_or (mkv σ m) x2 v hv
  unfold m_puts m_puts_16
  rw [nI_clamp (n := m) (by omega), w2 m hm, if_pos rfl, x1, o1]
  refine par_gd (fun _ => par_gd (fun _ => par_gd (fun _ => par_if (fun z => par_some ⟨hW, up_r σ, fun h _ => h, fun _ b hb hvb => ?_⟩) (fun z => par_gd (fun _ => par_gd (fun _ => par_some ?_))))))
  · rw [← o1] at z
    obtain ⟨y1, y2⟩ := o5.mp z
    rcases (show b = 0 ∨ b = 1 by omega) with e | e
    · subst e; exact y1 hvb
    · subst e; exact y2 hvb
  · have e42 : ∀ q, gA (sI (sA σ 42 m (nI (mkv σ m ||| v))) 45 1) 42 q = if q = m then nI (mkv σ m ||| v) else gA σ 42 q := fun q => by
      show gA (sA σ 42 m (nI (mkv σ m ||| v))) 42 q = _
      rw [gA_sA, if_pos rfl]
      by_cases e : q = m
      · rw [e, pk_us, if_pos rfl]
      · rw [pk_un e, if_neg e]
    have em : ∀ q, mkv (sI (sA σ 42 m (nI (mkv σ m ||| v))) 45 1) q = if q = m then mkv σ m ||| v else mkv σ q := fun q => by
      show (gA (sI (sA σ 42 m (nI (mkv σ m ||| v))) 45 1) 42 q).toNatClampNeg = _
      rw [e42 q]
      by_cases e : q = m
      · rw [if_pos e, if_pos e, nI_clamp (by omega)]
      · rw [if_neg e, if_neg e]; rfl
    refine ⟨⟨fun q hq => ?_, fun q hq => ?_, w3, w4⟩, ⟨fun e => absurd (show (1 : Int32) = 0 from e) (by decide), fun _ _ _ _ h => h, fun j h1 _ => ?_, fun k hk => gI_ne (fun e => hk e.symm)⟩, fun hJ hD => ⟨hJ.1, fun q b hq hb h => ?_, hJ.2.2⟩, fun e => absurd (show (1 : Int32) = 0 from e) (by decide)⟩
    · rw [e42, em]
      by_cases e : q = m
      · rw [if_pos e, if_pos e]; exact ⟨rfl, o2⟩
      · rw [if_neg e, if_neg e]; exact w1 q hq
    · show gA (sA σ 42 m (nI (mkv σ m ||| v))) 43 q = 0
      rw [gA_sA, if_neg (by decide)]
      exact w2 q hq
    · show gA (sA σ 42 m (nI (mkv σ m ||| v))) j = gA σ j
      rw [gA_sA, if_neg h1]
    · rw [em] at h
      by_cases e : q = m
      · rw [if_pos e] at h
        subst e
        rcases (show b = 0 ∨ b = 1 by omega) with e | e
        · subst e
          rw [o3] at h
          rcases Bool.or_eq_true _ _ ▸ h with h | h
          · exact hJ.2.1 q 0 hq hb h
          · exact hD 0 hb h
        · subst e
          rw [o4] at h
          rcases Bool.or_eq_true _ _ ▸ h with h | h
          · exact hJ.2.1 q 1 hq hb h
          · exact hD 1 hb h
      · rw [if_neg e] at h
        exact hJ.2.1 q b hq hb h
theorem lor_sub {x y : Int64} (h : x ||| y = x) {i : Nat} (hi : lb y i = true) : lb x i = true := by
  rw [← h, lb_or, hi, Bool.or_true]
theorem lor_0 {x y : Int64} (h : x ||| y = 0) : x = 0 ∧ y = 0 := by
  have hb : ∀ i, lb x i = false ∧ lb y i = false := fun i => by
    have : lb (x ||| y) i = false := by rw [h]; exact lb_0
    rw [lb_or] at this
    exact Bool.or_eq_false_iff.mp this
  exact ⟨lb_ext (fun i _ => by rw [(hb i).1, lb_0]), lb_ext (fun i _ => by rw [(hb i).2, lb_0])⟩
theorem or_0l {y : Int64} : (0 : Int64) ||| y = y := lb_ext (fun i _ => by rw [lb_or, lb_0, Bool.false_or])
theorem or_0r {y : Int64} : y ||| (0 : Int64) = y := lb_ext (fun i _ => by rw [lb_or, lb_0, Bool.or_false])
theorem e_flows {N a : Nat} {U : Nat → Int64 → Prop} {D : FD} {σ : St} {k : Nat} {y : Int64} (hU : ∀ x y, U k x → U k y → U k (x ||| y)) (hW : WM a σ) (hk : k < 1300) (hy : lb y 60 = true) : Par (m_flows N σ (nI k) y) (fun _ σ' => WM a σ' ∧ Up σ σ' ∧ (Jr a U D σ → U k y → Jr a U D σ') ∧ (gI σ' 45 = 0 → ¬ gZ σ' 41 k = 0 ∧ ∀ i, lb y i = true → lb (gZ σ' 41 k) i = true)) := by
  obtain ⟨w1, w2, w3, w4⟩ := id hW
  have y0 : ¬ y = 0 := fun e => by rw [e, lb_0] at hy; exact absurd hy (by decide)
  unfold m_flows
  rw [nI_clamp (n := k) (by omega)]
  refine par_gd (fun _ => par_gd (fun _ => par_if (fun z => par_some ⟨hW, up_r σ, fun h _ => h, fun _ => ⟨fun e => ?_, fun i hi => lor_sub (lgc.mp z) hi⟩⟩) (fun z => par_gd (fun _ => par_some ?_))))
  · have := lgc.mp z
    rw [e] at this
    exact y0 (lor_0 this).2
  · have e41 : ∀ q, gZ (sI (sZ σ 41 k (gZ σ 41 k ||| y)) 45 1) 41 q = if q = k then gZ σ 41 k ||| y else gZ σ 41 q := fun q => by
      show (if 41 = 41 then vp_updL (gZ σ 41) k (gZ σ 41 k ||| y) else gZ σ 41) q = _
      rw [if_pos rfl]
      by_cases e : q = k
      · rw [e, pk_uLs, if_pos rfl]
      · rw [pk_uLn e, if_neg e]
    refine ⟨⟨w1, w2, w3, fun q hq h => ?_⟩, ⟨fun e => absurd (show (1 : Int32) = 0 from e) (by decide), fun _ _ _ _ h => h, fun _ _ _ => rfl, fun k hk => gI_ne (fun e => hk e.symm)⟩, fun hJ hD => ⟨fun q hq h => ?_, hJ.2.1, hJ.2.2⟩, fun e => absurd (show (1 : Int32) = 0 from e) (by decide)⟩
    · rw [e41] at h ⊢
      by_cases e : q = k
      · rw [if_pos e, lb_or, hy, Bool.or_true]
      · rw [if_neg e] at h ⊢
        exact w4 q hq h
    · rw [e41] at h ⊢
      by_cases e : q = k
      · rw [if_pos e]
        subst e
        by_cases e0 : gZ σ 41 q = 0
        · rw [e0, or_0l]; exact hD
        · exact hU _ _ (hJ.1 q hq e0) hD
      · rw [if_neg e] at h ⊢
        exact hJ.1 q hq h
