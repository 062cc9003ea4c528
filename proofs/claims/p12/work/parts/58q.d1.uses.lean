/-! the reference's reading: each use's number stands at one act -/
def us (x : Int32) : Prop := x = 5 ∨ x = 8
/-- P: numbers that are told but stand at no act yet -/
def UF (P : Nat → Prop) (σ : St) : Prop := ∃ a u b : Nat, gI σ 17 = nI a ∧ a ≤ 1300 ∧ gA σ 26 1 = nI u ∧ u ≤ 40 ∧ gI σ 38 = nI b ∧ b ≤ 8 ∧ (∀ v, P v → v < u) ∧ (∀ k, k < a → us (gA σ 12 (1300 + k)) → ∃ v, v < u ∧ ¬ P v ∧ gA σ 15 (1300 + k) = nI v) ∧ (∀ k k', k < k' → k' < a → us (gA σ 12 (1300 + k)) → us (gA σ 12 (1300 + k')) → ¬ gA σ 15 (1300 + k) = gA σ 15 (1300 + k')) ∧ ∀ i, i < b → (gA σ 35 i = 1 ∨ gA σ 35 i = 3) → ∃ w, w < a ∧ gA σ 36 i = nI w ∧ ¬ us (gA σ 12 (1300 + w))
def KU (P : Nat → Prop) (σ : St) : Prop := gI σ 8 = 0 → UF P σ
theorem uf_f {P : Nat → Prop} {σ σ' : St} (h17 : gI σ' 17 = gI σ 17) (h38 : gI σ' 38 = gI σ 38) (r12 : gA σ' 12 = gA σ 12) (r15 : gA σ' 15 = gA σ 15) (r26 : gA σ' 26 = gA σ 26) (r35 : gA σ' 35 = gA σ 35) (r36 : gA σ' 36 = gA σ 36) (h : UF P σ) : UF P σ' := by
  unfold UF
  rw [h17, h38, r12, r15, r26, r35, r36]
  exact h
theorem ku_z {P : Nat → Prop} {σ σ' : St} (z : Kz σ σ') (h : KU P σ) : KU P σ' := fun e => uf_f (z.2.1 17 (by decide)) (z.2.1 38 (by decide)) (z.1 12) (z.1 15) (z.1 26) (z.1 35) (z.1 36) (h (z.2.2 e))
theorem ku_I {s0 : Nat → Prop} {σ : St} {k : Nat} {v : Int32} (h : KU s0 σ) (hk : k ≠ 8 ∧ k ≠ 17 ∧ k ≠ 38) : KU s0 (sI σ k v) := fun e => uf_f (gI_ne hk.2.1) (gI_ne hk.2.2) rfl rfl rfl rfl rfl (h ((gI_ne hk.1).symm.trans e))
theorem ku_A {s0 : Nat → Prop} {σ : St} {j i : Nat} {v : Int32} (h : KU s0 σ) (hk : j ≠ 12 ∧ j ≠ 15 ∧ j ≠ 26 ∧ j ≠ 35 ∧ j ≠ 36) : KU s0 (sA σ j i v) := fun e => uf_f (σ := σ) rfl rfl (by rw [gA_sA, if_neg (fun e => hk.1 e.symm)]) (by rw [gA_sA, if_neg (fun e => hk.2.1 e.symm)]) (by rw [gA_sA, if_neg (fun e => hk.2.2.1 e.symm)]) (by rw [gA_sA, if_neg (fun e => hk.2.2.2.1 e.symm)]) (by rw [gA_sA, if_neg (fun e => hk.2.2.2.2 e.symm)]) (h e)
abbrev okA_ku (x : Int32) : Prop := x ≠ 5 ∧ x ≠ 8 ∧ x ≠ 1 ∧ x ≠ 3
/-- an act is laid -/
def emS (σ : St) (a : Nat) (x y z w : Int32) : St := sI (sA (sA (sA (sA σ 12 (1300 + a) x) 13 (1300 + a) y) 14 (1300 + a) z) 15 (1300 + a) w) 17 (nI (a + 1))
theorem e_emit8 {N : Nat} {σ : St} {x y z w : Int32} : Par (m_emit N σ x y z w) (fun _ σ' => gI σ' 8 = gI σ 8) := by
  unfold m_emit
  exact par_gd (fun _ => par_gd (fun _ => par_gd (fun _ => par_gd (fun _ => par_some (gI_ne (by decide))))))
theorem u_emit {N a : Nat} {σ : St} {x y z w : Int32} (h : gI σ 17 = nI a) (ha : a ≤ 1300) : Par (m_emit N σ x y z w) (fun r σ' => a < 1300 ∧ r = nI a ∧ σ' = emS σ a x y z w) := by
  unfold m_emit
  rw [h, show (1300 : Int32) + nI a = nI (1300 + a) from nI_add 1300 a, nI_clamp (n := 1300 + a) (by omega), nI_1]
  refine par_gd (fun e => par_gd (fun _ => par_gd (fun _ => par_gd (fun _ => par_some ⟨?_, ?_, rfl⟩))))
  · have := ib_l2 e (by omega)
    omega
  · rw [← nI_1]
    exact Int32.add_sub_cancel _ _
theorem emS_r {σ : St} {a j : Nat} {x y z w : Int32} (hj : ¬ (12 ≤ j ∧ j ≤ 15)) : gA (emS σ a x y z w) j = gA σ j := by
  unfold emS
  show gA (sA (sA (sA (sA σ 12 (1300 + a) x) 13 (1300 + a) y) 14 (1300 + a) z) 15 (1300 + a) w) j = _
  rw [gA_sA, if_neg (by omega), gA_sA, if_neg (by omega), gA_sA, if_neg (by omega), gA_sA, if_neg (by omega)]
theorem emS_12 {σ : St} {a q : Nat} {x y z w : Int32} : gA (emS σ a x y z w) 12 q = if q = 1300 + a then x else gA σ 12 q := by
  unfold emS
  show gA (sA (sA (sA (sA σ 12 (1300 + a) x) 13 (1300 + a) y) 14 (1300 + a) z) 15 (1300 + a) w) 12 q = _
  rw [gA_sA, if_neg (by decide), gA_sA, if_neg (by decide), gA_sA, if_neg (by decide), gA_sA, if_pos rfl]
  by_cases e : q = 1300 + a
  · rw [e, pk_us, if_pos rfl]
  · rw [pk_un e, if_neg e]
theorem emS_15 {σ : St} {a q : Nat} {x y z w : Int32} : gA (emS σ a x y z w) 15 q = if q = 1300 + a then w else gA σ 15 q := by
  unfold emS
  show gA (sA (sA (sA (sA σ 12 (1300 + a) x) 13 (1300 + a) y) 14 (1300 + a) z) 15 (1300 + a) w) 15 q = _
  rw [gA_sA, if_pos rfl]
  by_cases e : q = 1300 + a
  · rw [e, pk_us, if_pos rfl]
  · rw [pk_un e, if_neg e, gA_sA, if_neg (by decide), gA_sA, if_neg (by decide), gA_sA, if_neg (by decide)]
/-- where a block waits: at an act that is no use -/
def WT (x : Int32) (σ : St) : Prop := ∃ a w : Nat, gI σ 17 = nI a ∧ a ≤ 1300 ∧ w < a ∧ x = nI w ∧ ¬ us (gA σ 12 (1300 + w))
theorem wt_z {x : Int32} {σ σ' : St} (z : Kz σ σ') (h : WT x σ) : WT x σ' := by
  unfold WT
  rw [z.1 12, z.2.1 17 (by decide)]
  exact h
theorem uf_emit {P : Nat → Prop} {σ : St} {a : Nat} {x y z w : Int32} (h : UF P σ) (h17 : gI σ 17 = nI a) (ha : a < 1300) (hx : us x → ∃ v, w = nI v ∧ P v) : UF (fun v => P v ∧ (us x → ¬ w = nI v)) (emS σ a x y z w) ∧ (¬ us x → WT (nI a) (emS σ a x y z w)) := by
  obtain ⟨a0, u, b, f1, f2, f3, f4, f5, f6, f7, f8, f9, f10⟩ := h
  have ea : a0 = a := (nI_eq (by omega) (by omega)).mp (f1.symm.trans h17)
  subst ea
  have h17' : gI (emS σ a0 x y z w) 17 = nI (a0 + 1) := gI_eq
  have o12 : ∀ k, k < a0 → gA (emS σ a0 x y z w) 12 (1300 + k) = gA σ 12 (1300 + k) := fun k hk => by rw [emS_12, if_neg (by omega)]
  have o15 : ∀ k, k < a0 → gA (emS σ a0 x y z w) 15 (1300 + k) = gA σ 15 (1300 + k) := fun k hk => by rw [emS_15, if_neg (by omega)]
  have n12 : gA (emS σ a0 x y z w) 12 (1300 + a0) = x := by rw [emS_12, if_pos rfl]
  have n15 : gA (emS σ a0 x y z w) 15 (1300 + a0) = w := by rw [emS_15, if_pos rfl]
  refine ⟨⟨a0 + 1, u, b, h17', by omega, by rw [emS_r (j := 26) (by omega)]; exact f3, f4, (gI_ne (by decide)).trans f5, f6, fun v hv => f7 v hv.1, fun k hk hu => ?_, fun k k' h1 h2 u1 u2 => ?_, fun i hi hk => ?_⟩, fun hn => ⟨a0 + 1, a0, h17', by omega, by omega, rfl, by rw [n12]; exact hn⟩⟩
  · rcases (show k = a0 ∨ k < a0 by omega) with e | e
    · subst e
      rw [n12] at hu
      rw [n15]
      obtain ⟨v, v1, v2⟩ := hx hu
      exact ⟨v, f7 v v2, fun h => h.2 hu v1, v1⟩
    · rw [o12 k e] at hu
      rw [o15 k e]
      obtain ⟨v, v1, v2, v3⟩ := f8 k e hu
      exact ⟨v, v1, fun h => v2 h.1, v3⟩
  · rw [o12 k (by omega)] at u1
    rcases (show k' = a0 ∨ k' < a0 by omega) with e | e
    · subst e
      rw [n12] at u2
      rw [n15, o15 k h1]
      obtain ⟨v, v1, v2⟩ := hx u2
      obtain ⟨v', w1, w2, w3⟩ := f8 k h1 u1
      intro e
      rw [w3, v1] at e
      have := (nI_eq (by omega) (by have := f7 v v2; omega)).mp e
      rw [this] at w2
      exact w2 v2
    · rw [o12 k' e] at u2
      rw [o15 k (by omega), o15 k' e]
      exact f9 k k' h1 e u1 u2
  · rw [emS_r (j := 35) (by omega)] at hk
    rw [emS_r (j := 36) (by omega)]
    obtain ⟨w', w1, w2, w3⟩ := f10 i hi hk
    exact ⟨w', by omega, w2, by rw [o12 w' w1]; exact w3⟩
theorem uf_p {P P' : Nat → Prop} {σ : St} (h : UF P σ) (hp : ∀ v, P' v → P v) : UF P' σ := by
  obtain ⟨a0, u, b, f1, f2, f3, f4, f5, f6, f7, f8, f9, f10⟩ := h
  exact ⟨a0, u, b, f1, f2, f3, f4, f5, f6, fun v hv => f7 v (hp v hv), fun k hk hu => by
    obtain ⟨v, v1, v2, v3⟩ := f8 k hk hu
    exact ⟨v, v1, fun h => v2 (hp v h), v3⟩, f9, f10⟩
/-- an act that is no use -/
theorem ku_emN {N : Nat} {P : Nat → Prop} {σ : St} {x y z w : Int32} (h : KU P σ) (hx : ¬ us x) : Par (m_emit N σ x y z w) (fun r σ' => KU P σ' ∧ (gI σ' 8 = 0 → gI σ 8 = 0) ∧ (gI σ' 8 = 0 → WT r σ') ∧ ∀ q, (gI σ 8 = 0 → WT q σ) → gI σ' 8 = 0 → WT q σ') := by
  by_cases c : gI σ 8 = 0
  · obtain ⟨a, u, b, f1, f2, -⟩ := id (h c)
    refine (u_emit f1 f2).mono (fun r σ' q => ?_)
    obtain ⟨q1, q2, q3⟩ := q
    obtain ⟨g1, g2⟩ := uf_emit (y := y) (z := z) (w := w) (h c) f1 q1 (fun e => absurd e hx)
    rw [q2, q3]
    refine ⟨fun _ => uf_p g1 (fun v hv => ⟨hv, fun e => absurd e hx⟩), fun _ => c, fun _ => g2 hx, fun q hq _ => ?_⟩
    obtain ⟨a', w', w1, w2, w3, w4, w5⟩ := hq c
    have : a' = a := (nI_eq (by omega) (by omega)).mp (w1.symm.trans f1)
    exact ⟨a + 1, w', gI_eq, by omega, by omega, w4, by rw [emS_12, if_neg (by omega)]; exact w5⟩
  · exact e_emit8.mono (fun r σ' e => ⟨fun z => absurd (e.symm.trans z) c, fun z => absurd (e.symm.trans z) c, fun z => absurd (e.symm.trans z) c, fun _ _ z => absurd (e.symm.trans z) c⟩)
theorem ku_m_emit {N : Nat} {s0 : Nat → Prop} {σ : St} {a1 a2 a3 a4 : Int32} (hU : KU s0 σ) (h_row : okA_ku a1) : Par (m_emit N σ a1 a2 a3 a4) (fun _ σ' => KU s0 σ') := (ku_emN hU (fun e => e.elim h_row.1 h_row.2.1)).mono (fun _ _ z => z.1)
/-- a use's act -/
theorem ku_emU {N : Nat} {P : Nat → Prop} {σ : St} {x y z w : Int32} (h : gI σ 8 = 0 → ∃ v, w = nI v ∧ v < 40 ∧ ¬ P v ∧ UF (fun q => P q ∨ q = v) σ) (hx : us x) : Par (m_emit N σ x y z w) (fun _ σ' => KU P σ') := by
  by_cases c : gI σ 8 = 0
  · obtain ⟨v, v1, v40, v2, v3⟩ := h c
    obtain ⟨a, u, b, f1, f2, f3, f4, f5, f6, f7, -⟩ := id v3
    refine (u_emit f1 f2).mono (fun r σ' q => ?_)
    obtain ⟨q1, q2, q3⟩ := q
    obtain ⟨g1, -⟩ := uf_emit (y := y) (z := z) (w := w) v3 f1 q1 (fun _ => ⟨v, v1, Or.inr rfl⟩)
    rw [q3]
    refine fun _ => uf_p g1 (fun q hq => ⟨Or.inl hq, fun _ e => ?_⟩)
    rw [v1] at e
    have := (nI_eq (by omega) (by have := f7 q (Or.inl hq); omega)).mp e
    rw [this] at v2
    exact v2 hq
  · exact e_emit8.mono (fun r σ' e z => absurd (e.symm.trans z) c)
/-- a use's number is told -/
theorem ku_new {N : Nat} {P : Nat → Prop} {σ : St} {x y : Int32} (h : KU P σ) : Par (m_newUse N σ x y) (fun r σ' => gI σ' 8 = 0 → ∃ v, r = nI v ∧ v < 40 ∧ ¬ P v ∧ UF (fun q => P q ∨ q = v) σ') := by
  have core : ∀ σ1, KU P σ1 → (gI σ1 8 = 0 → ¬ gA σ1 26 1 = 40) → Par (m_newUse_17 N σ1 x y) (fun r σ' => gI σ' 8 = 0 → ∃ v, r = nI v ∧ v < 40 ∧ ¬ P v ∧ UF (fun q => P q ∨ q = v) σ') := fun σ1 h1 hne => by
    unfold m_newUse_17
    refine par_if (fun c => ?_) (fun c => par_some (fun e => absurd e c))
    obtain ⟨a, u, b, f1, f2, f3, f4, f5, f6, f7, f8, f9, f10⟩ := h1 c
    have hu : u < 40 := by
      have : ¬ u = 40 := fun e => hne c (by rw [f3, e]; rfl)
      omega
    rw [show ((1 : Int32).toNatClampNeg) = 1 from rfl, f3, show (41 : Int32) + nI u = nI (41 + u) from nI_add 41 u, nI_clamp (n := 41 + u) (by omega), nI_1]
    refine par_gd (fun _ => par_gd (fun _ => par_gd (fun _ => par_gd (fun _ => par_gd (fun _ => par_gd (fun _ => par_gd (fun _ => par_some (fun _ => ?_))))))))
    have e26 : gA (sA (sA (sA (sA σ1 23 (41 + u) (gI σ1 34)) 24 (41 + u) y) 25 (41 + u) x) 26 1 (nI (u + 1))) 26 1 = nI (u + 1) := by rw [gA_sA, if_pos rfl, pk_us]
    have ej : ∀ j, j < 23 ∨ 26 < j → gA (sA (sA (sA (sA σ1 23 (41 + u) (gI σ1 34)) 24 (41 + u) y) 25 (41 + u) x) 26 1 (nI (u + 1))) j = gA σ1 j := fun j hj => by rw [gA_sA, if_neg (by omega), gA_sA, if_neg (by omega), gA_sA, if_neg (by omega), gA_sA, if_neg (by omega)]
    refine ⟨u, ?_, hu, fun hp => absurd (f7 u hp) (Nat.lt_irrefl u), ⟨a, u + 1, b, f1, f2, e26, by omega, f5, f6, fun v hv => ?_, fun k hk hu2 => ?_, ?_, ?_⟩⟩
    · rw [e26, ← nI_1]
      exact Int32.add_sub_cancel _ _
    · rcases hv with hv | hv
      · have := f7 v hv; omega
      · omega
    · rw [ej 12 (by omega)] at hu2
      rw [ej 15 (by omega)]
      obtain ⟨v, v1, v2, v3⟩ := f8 k hk hu2
      exact ⟨v, by omega, fun hh => hh.elim v2 (fun e => by omega), v3⟩
    · rw [ej 12 (by omega), ej 15 (by omega)]
      exact f9
    · rw [ej 12 (by omega), ej 35 (by omega), ej 36 (by omega)]
      exact f10
  unfold m_newUse
  refine par_gd (fun _ => par_if (fun c => ?_) (fun c => core σ h (fun _ => c)))
  unfold m_wrong
  by_cases c8 : gI σ 8 = 0
  · rw [if_pos c8, bd_s]
    have h8 : gI (sI (sI σ 8 2) 9 y) 8 = 2 := by rw [gI_ne (by decide), gI_eq]
    unfold m_newUse_17
    rw [if_neg (fun e => absurd (h8.symm.trans e) (by decide))]
    exact par_some (fun e => absurd (h8.symm.trans e) (by decide))
  · rw [if_neg c8, bd_s]
    unfold m_newUse_17
    rw [if_neg c8]
    exact par_some (fun e => absurd e c8)
/-- a block opens -/
theorem ku_open {N : Nat} {P : Nat → Prop} {σ : St} {x1 x2 x3 : Int32} (h : KU P σ) (hw : (x1 = 1 ∨ x1 = 3) → gI σ 8 = 0 → WT x2 σ) : Par (m_opens N σ x1 x2 x3) (fun _ σ' => KU P σ') := by
  have core : ∀ σ1, Kz σ σ1 → Par (m_opens_27 N σ1 x1 x2 x3) (fun _ σ' => KU P σ') := fun σ1 hz => by
    unfold m_opens_27
    refine par_bd (kz_m_wants hz) (fun _ σ4 z => par_if (fun c => ?_) (fun _ => par_some (ku_z z h)))
    have c0 := z.2.2 c
    obtain ⟨a, u, b, f1, f2, f3, f4, f5, f6, f7, f8, f9, f10⟩ := ku_z z h c
    rw [f5, nI_clamp (n := b) (by omega), nI_1]
    refine par_gd (fun hb => par_gd (fun _ => par_gd (fun _ => par_some (fun _ => ?_))))
    have hb8 : b < 8 := ib_l2 hb (by omega)
    have ej : ∀ j, ¬ (35 ≤ j ∧ j ≤ 37) → gA (sI (sA (sA (sA σ4 35 b x1) 36 b x2) 37 b x3) 38 (nI (b + 1))) j = gA σ4 j := fun j hj => by
      show gA (sA (sA (sA σ4 35 b x1) 36 b x2) 37 b x3) j = _
      rw [gA_sA, if_neg (by omega), gA_sA, if_neg (by omega), gA_sA, if_neg (by omega)]
    have e35 : ∀ i, gA (sI (sA (sA (sA σ4 35 b x1) 36 b x2) 37 b x3) 38 (nI (b + 1))) 35 i = if i = b then x1 else gA σ4 35 i := fun i => by
      show gA (sA (sA (sA σ4 35 b x1) 36 b x2) 37 b x3) 35 i = _
      rw [gA_sA, if_neg (by decide), gA_sA, if_neg (by decide), gA_sA, if_pos rfl]
      by_cases e : i = b
      · rw [e, pk_us, if_pos rfl]
      · rw [pk_un e, if_neg e]
    have e36 : ∀ i, gA (sI (sA (sA (sA σ4 35 b x1) 36 b x2) 37 b x3) 38 (nI (b + 1))) 36 i = if i = b then x2 else gA σ4 36 i := fun i => by
      show gA (sA (sA (sA σ4 35 b x1) 36 b x2) 37 b x3) 36 i = _
      rw [gA_sA, if_neg (by decide), gA_sA, if_pos rfl]
      by_cases e : i = b
      · rw [e, pk_us, if_pos rfl]
      · rw [pk_un e, if_neg e, gA_sA, if_neg (by decide)]
    refine ⟨a, u, b + 1, (gI_ne (by decide)).trans f1, f2, by rw [ej 26 (by omega)]; exact f3, f4, gI_eq, by omega, f7, ?_, ?_, fun i hi hk => ?_⟩
    · rw [ej 12 (by omega), ej 15 (by omega)]; exact f8
    · rw [ej 12 (by omega), ej 15 (by omega)]; exact f9
    · rw [e35] at hk
      rw [e36, ej 12 (by omega)]
      by_cases e : i = b
      · rw [if_pos e] at hk ⊢
        obtain ⟨a', w, w1, w2, w3, w4, w5⟩ := wt_z z (hw hk c0)
        have : a' = a := (nI_eq (by omega) (by omega)).mp (w1.symm.trans f1)
        exact ⟨w, by omega, w4, w5⟩
      · rw [if_neg e] at hk ⊢
        exact f10 i (by omega) hk
  unfold m_opens
  exact par_bd (kz_m_isSign (kz_r σ)) (fun r1 σ2 z => par_if (fun _ => core σ2 z) (fun _ => par_if (fun _ => par_bd (kz_m_wrong z) (fun _ σ6 z6 => core σ6 z6)) (fun _ => core σ2 z)))
theorem ku_m_opens {N : Nat} {s0 : Nat → Prop} {σ : St} {a1 a2 a3 : Int32} (hU : KU s0 σ) (h_row : okA_ku a1) : Par (m_opens N σ a1 a2 a3) (fun _ σ' => KU s0 σ') := ku_open hU (fun e => e.elim (fun e => absurd e h_row.2.2.1) (fun e => absurd e h_row.2.2.2))
