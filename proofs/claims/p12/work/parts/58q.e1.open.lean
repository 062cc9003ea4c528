/-! the reference's reading: goals lie in the routine of their act -/
def bdy (σ : St) (t : Nat) : Prop := ∃ r, r < 8 ∧ gA σ 19 (8 + r) = nI t ∧ t ≤ 1300
def gl (x : Int32) : Prop := x = 10 ∨ x = 11 ∨ x = 12 ∨ x = 13
def gv (σ : St) (k : Nat) : Int32 := if gA σ 12 (1300 + k) = 13 then gA σ 13 (1300 + k) else gA σ 15 (1300 + k)
/-- X: acts whose goal is not laid yet, and that no block waits for -/
def OF (X : Nat → Prop) (σ : St) : Prop := ∃ a b st : Nat, gI σ 17 = nI a ∧ a ≤ 1300 ∧ gI σ 38 = nI b ∧ b ≤ 8 ∧ st ≤ a ∧ (∀ t, bdy σ t → t ≤ a ∧ (b = 0 → t < a) ∧ (0 < b → t ≤ st) ∧ (t = 0 ∨ gA σ 12 (1300 + (t - 1)) = 9)) ∧ (b = 0 → a = 0 ∨ gA σ 12 (1300 + (a - 1)) = 9) ∧ (∀ i, i < b → (gA σ 35 i = 0 ↔ i = 0) ∧ (¬ i = 0 → (gA σ 35 i = 1 ∨ gA σ 35 i = 2 ∨ gA σ 35 i = 3) ∧ ∃ w, gA σ 36 i = nI w ∧ st ≤ w ∧ w < a ∧ gl (gA σ 12 (1300 + w)) ∧ (gA σ 35 i = 2 ↔ gA σ 12 (1300 + w) = 13) ∧ (gA σ 35 i = 3 → gA σ 37 i = nI w))) ∧ (∀ k, X k → st ≤ k ∧ k < a ∧ 0 < b) ∧ ∀ k, k < a → gl (gA σ 12 (1300 + k)) → X k ∨ (∃ i, 0 < i ∧ i < b ∧ gA σ 36 i = nI k) ∨ ∃ n, gv σ k = nI n ∧ n ≤ a ∧ (b = 0 → n < a) ∧ ∀ t, bdy σ t → ¬ (k < t ∧ t ≤ n) ∧ ¬ (n < t ∧ t ≤ k)
def KO (σ : St) : Prop := gI σ 8 = 0 → OF (fun _ => False) σ
theorem bdy_f {σ σ' : St} (r19 : gA σ' 19 = gA σ 19) (t : Nat) : bdy σ' t = bdy σ t := by
  unfold bdy
  rw [r19]
theorem of_f {X : Nat → Prop} {σ σ' : St} (h17 : gI σ' 17 = gI σ 17) (h38 : gI σ' 38 = gI σ 38) (r12 : gA σ' 12 = gA σ 12) (r13 : gA σ' 13 = gA σ 13) (r15 : gA σ' 15 = gA σ 15) (r19 : gA σ' 19 = gA σ 19) (r35 : gA σ' 35 = gA σ 35) (r36 : gA σ' 36 = gA σ 36) (r37 : gA σ' 37 = gA σ 37) (h : OF X σ) : OF X σ' := by
  unfold OF gv bdy
  rw [h17, h38, r12, r13, r15, r19, r35, r36, r37]
  exact h
theorem ko_z {σ σ' : St} (z : Kz σ σ') (h : KO σ) : KO σ' := fun e => of_f (z.2.1 17 (by decide)) (z.2.1 38 (by decide)) (z.1 12) (z.1 13) (z.1 15) (z.1 19) (z.1 35) (z.1 36) (z.1 37) (h (z.2.2 e))
theorem emS_13 {σ : St} {a q : Nat} {x y z w : Int32} : gA (emS σ a x y z w) 13 q = if q = 1300 + a then y else gA σ 13 q := by
  unfold emS
  show gA (sA (sA (sA (sA σ 12 (1300 + a) x) 13 (1300 + a) y) 14 (1300 + a) z) 15 (1300 + a) w) 13 q = _
  rw [gA_sA, if_neg (by decide), gA_sA, if_neg (by decide), gA_sA, if_pos rfl]
  by_cases e : q = 1300 + a
  · rw [e, pk_us, if_pos rfl]
  · rw [pk_un e, if_neg e, gA_sA, if_neg (by decide)]
/-- an act is laid while a block is open -/
theorem of_emit {X : Nat → Prop} {σ : St} {a b : Nat} {x y z w : Int32} (h : OF X σ) (h17 : gI σ 17 = nI a) (h38 : gI σ 38 = nI b) (hb8 : b ≤ 8) (hb : 0 < b) (ha : a < 1300) : OF (fun k => X k ∨ (gl x ∧ k = a)) (emS σ a x y z w) := by
  obtain ⟨a0, b0, st, f1, f2, f3, f4, f5, f6, f7, f8, f9, f10⟩ := h
  have ea : a0 = a := (nI_eq (by omega) (by omega)).mp (f1.symm.trans h17)
  subst ea
  have eb : b0 = b := (nI_eq (by omega) (by omega)).mp (f3.symm.trans h38)
  subst eb
  have o12 : ∀ k, k < a0 → gA (emS σ a0 x y z w) 12 (1300 + k) = gA σ 12 (1300 + k) := fun k hk => by rw [emS_12, if_neg (by omega)]
  have n12 : gA (emS σ a0 x y z w) 12 (1300 + a0) = x := by rw [emS_12, if_pos rfl]
  have o13 : ∀ k, k < a0 → gA (emS σ a0 x y z w) 13 (1300 + k) = gA σ 13 (1300 + k) := fun k hk => by rw [emS_13, if_neg (by omega)]
  have o15 : ∀ k, k < a0 → gA (emS σ a0 x y z w) 15 (1300 + k) = gA σ 15 (1300 + k) := fun k hk => by rw [emS_15, if_neg (by omega)]
  have bd2 : ∀ t, bdy (emS σ a0 x y z w) t = bdy σ t := fun t => bdy_f (emS_r (j := 19) (by omega)) t
  have gvo : ∀ k, k < a0 → gv (emS σ a0 x y z w) k = gv σ k := fun k hk => by
    unfold gv
    rw [o12 k hk, o13 k hk, o15 k hk]
  refine ⟨a0 + 1, b0, st, gI_eq, by omega, (gI_ne (by decide)).trans f3, f4, by omega, fun t ht => ?_, fun e => by omega, fun i hi => ?_, fun k hk => ?_, fun k hk hg => ?_⟩
  · rw [bd2] at ht
    obtain ⟨t1, t2, t3, t4⟩ := f6 t ht
    refine ⟨by omega, fun e => by omega, t3, ?_⟩
    rcases t4 with e | e
    · exact Or.inl e
    · rcases (show t = 0 ∨ 0 < t by omega) with e0 | e0
      · exact Or.inl e0
      · rw [o12 (t - 1) (by omega)]; exact Or.inr e
  · rw [emS_r (j := 35) (by omega), emS_r (j := 36) (by omega), emS_r (j := 37) (by omega)]
    refine ⟨(f8 i hi).1, fun hne => ?_⟩
    obtain ⟨w0, w', w1, w2, w3, w4, w5, w6⟩ := (f8 i hi).2 hne
    exact ⟨w0, w', w1, w2, by omega, by rw [o12 w' w3]; exact w4, by rw [o12 w' w3]; exact w5, w6⟩
  · rcases hk with hk | ⟨-, hk⟩
    · obtain ⟨x1, x2, x3⟩ := f9 k hk
      exact ⟨x1, by omega, x3⟩
    · exact ⟨by omega, by omega, hb⟩
  · rcases (show k = a0 ∨ k < a0 by omega) with e | e
    · rw [e, n12] at hg
      exact Or.inl (Or.inr ⟨hg, e⟩)
    · rw [o12 k e] at hg
      rcases f10 k e hg with q | ⟨i, i1, i2, i3⟩ | ⟨n, n1, n2, n3, n4⟩
      · exact Or.inl (Or.inl q)
      · exact Or.inr (Or.inl ⟨i, i1, i2, by rw [emS_r (j := 36) (by omega)]; exact i3⟩)
      · exact Or.inr (Or.inr ⟨n, by rw [gvo k e]; exact n1, by omega, fun e => by omega, fun t ht => n4 t (by rw [bd2] at ht; exact ht)⟩)
theorem of_x {X X' : Nat → Prop} {σ : St} (h : OF X σ) (h1 : ∀ k, X k → X' k) (h2 : ∀ k, X' k → X k) : OF X' σ := by
  have e : X' = X := funext (fun k => propext ⟨h2 k, h1 k⟩)
  rw [e]
  exact h
/-- a block is open: what holds while a routine is read -/
def KP (X : Nat → Prop) (σ : St) : Prop := gI σ 8 = 0 → OF X σ ∧ ¬ gI σ 38 = 0
theorem kj_z {X : Nat → Prop} {σ σ' : St} (z : Kz σ σ') (h : KP X σ) : KP X σ' := fun e => ⟨of_f (z.2.1 17 (by decide)) (z.2.1 38 (by decide)) (z.1 12) (z.1 13) (z.1 15) (z.1 19) (z.1 35) (z.1 36) (z.1 37) (h (z.2.2 e)).1, fun e2 => (h (z.2.2 e)).2 ((z.2.1 38 (by decide)).symm.trans e2)⟩
abbrev okA_kj (x : Int32) : Prop := x ≠ 10 ∧ x ≠ 11 ∧ x ≠ 12 ∧ x ≠ 13
theorem kj_I {s0 : Nat → Prop} {σ : St} {k : Nat} {v : Int32} (h : KP s0 σ) (hk : k ≠ 8 ∧ k ≠ 17 ∧ k ≠ 38) : KP s0 (sI σ k v) := fun e => ⟨of_f (gI_ne hk.2.1) (gI_ne hk.2.2) rfl rfl rfl rfl rfl rfl rfl (h ((gI_ne hk.1).symm.trans e)).1, fun e2 => (h ((gI_ne hk.1).symm.trans e)).2 ((gI_ne hk.2.2).symm.trans e2)⟩
theorem kj_A {s0 : Nat → Prop} {σ : St} {j i : Nat} {v : Int32} (h : KP s0 σ) (hk : j ≠ 12 ∧ j ≠ 13 ∧ j ≠ 15 ∧ j ≠ 19 ∧ j ≠ 35 ∧ j ≠ 36 ∧ j ≠ 37) : KP s0 (sA σ j i v) := fun e => ⟨of_f (σ := σ) rfl rfl (by rw [gA_sA, if_neg (fun e => hk.1 e.symm)]) (by rw [gA_sA, if_neg (fun e => hk.2.1 e.symm)]) (by rw [gA_sA, if_neg (fun e => hk.2.2.1 e.symm)]) (by rw [gA_sA, if_neg (fun e => hk.2.2.2.1 e.symm)]) (by rw [gA_sA, if_neg (fun e => hk.2.2.2.2.1 e.symm)]) (by rw [gA_sA, if_neg (fun e => hk.2.2.2.2.2.1 e.symm)]) (by rw [gA_sA, if_neg (fun e => hk.2.2.2.2.2.2 e.symm)]) (h e).1, (h e).2⟩
theorem n_pos {x : Int32} {b : Nat} (h : x = nI b) (hn : ¬ x = 0) : 0 < b := by
  rcases (show b = 0 ∨ 0 < b by omega) with e | e
  · rw [h, e] at hn; exact absurd rfl hn
  · exact e
theorem kj_emit {N : Nat} {X : Nat → Prop} {σ : St} {x y z w : Int32} (h : KP X σ) : Par (m_emit N σ x y z w) (fun r σ' => gI σ' 8 = 0 → ∃ a, r = nI a ∧ a < 1300 ∧ gI σ 8 = 0 ∧ gI σ 17 = nI a ∧ σ' = emS σ a x y z w ∧ OF (fun k => X k ∨ (gl x ∧ k = a)) σ' ∧ ¬ gI σ' 38 = 0) := by
  by_cases c : gI σ 8 = 0
  · obtain ⟨h1, h2⟩ := h c
    obtain ⟨a, b, st, f1, f2, f3, f4, -⟩ := id h1
    refine (u_emit f1 f2).mono (fun r σ' q => ?_)
    obtain ⟨q1, q2, q3⟩ := q
    rw [q2, q3]
    exact fun _ => ⟨a, rfl, q1, c, f1, rfl, of_emit h1 f1 f3 f4 (n_pos f3 h2) q1, fun e => h2 ((gI_ne (by decide)).symm.trans e)⟩
  · exact e_emit8.mono (fun r σ' e z => absurd (e.symm.trans z) c)
theorem kj_emN {N : Nat} {X : Nat → Prop} {σ : St} {x y z w : Int32} (h : KP X σ) (hx : ¬ gl x) : Par (m_emit N σ x y z w) (fun _ σ' => KP X σ') := (kj_emit h).mono (fun r σ' q e => by
  obtain ⟨a, -, -, -, -, -, q6, q7⟩ := q e
  exact ⟨of_x q6 (fun k hk => hk.elim id (fun hk => absurd hk.1 hx)) (fun k hk => Or.inl hk), q7⟩)
theorem kj_m_emit {N : Nat} {s0 : Nat → Prop} {σ : St} {a1 a2 a3 a4 : Int32} (hU : KP s0 σ) (h_row : okA_kj a1) : Par (m_emit N σ a1 a2 a3 a4) (fun _ σ' => KP s0 σ') := kj_emN hU (fun e => by
  rcases e with e | e | e | e
  · exact h_row.1 e
  · exact h_row.2.1 e
  · exact h_row.2.2.1 e
  · exact h_row.2.2.2 e)
/-- a block opens that waits at act w -/
theorem kj_open {N : Nat} {σ : St} {x1 x3 : Int32} {w : Nat} (h : KP (fun k => k = w) σ) (h0 : x1 = 1 ∨ x1 = 2 ∨ x1 = 3) (h3 : x1 = 3 → x3 = nI w) (h2 : gI σ 8 = 0 → gl (gA σ 12 (1300 + w)) ∧ (x1 = 2 ↔ gA σ 12 (1300 + w) = 13)) (hw : w < 1300) : Par (m_opens N σ x1 (nI w) x3) (fun _ σ' => KP (fun _ => False) σ') := by
  have core : ∀ σ1, Kz σ σ1 → Par (m_opens_27 N σ1 x1 (nI w) x3) (fun _ σ' => KP (fun _ => False) σ') := fun σ1 hz => by
    unfold m_opens_27
    refine par_bd (kz_m_wants hz) (fun _ σ4 z => par_if (fun c => ?_) (fun c => par_some (fun e => absurd e c)))
    obtain ⟨hof, hne⟩ := kj_z z h c
    obtain ⟨a, b, st, f1, f2, f3, f4, f5, f6, f7, f8, f9, f10⟩ := id hof
    obtain ⟨g1, g2⟩ := h2 (z.2.2 c)
    rw [← z.1 12] at g1 g2
    have hb := n_pos f3 hne
    obtain ⟨wst, wa, -⟩ := f9 w rfl
    rw [f3, nI_clamp (n := b) (by omega), nI_1]
    refine par_gd (fun hb8 => par_gd (fun _ => par_gd (fun _ => par_some (fun _ => ?_))))
    have hb8 : b < 8 := ib_l2 hb8 (by omega)
    have ej : ∀ j, ¬ (35 ≤ j ∧ j ≤ 37) → gA (sI (sA (sA (sA σ4 35 b x1) 36 b (nI w)) 37 b x3) 38 (nI (b + 1))) j = gA σ4 j := fun j hj => by
      show gA (sA (sA (sA σ4 35 b x1) 36 b (nI w)) 37 b x3) j = _
      rw [gA_sA, if_neg (by omega), gA_sA, if_neg (by omega), gA_sA, if_neg (by omega)]
    have e35 : ∀ i, gA (sI (sA (sA (sA σ4 35 b x1) 36 b (nI w)) 37 b x3) 38 (nI (b + 1))) 35 i = if i = b then x1 else gA σ4 35 i := fun i => by
      show gA (sA (sA (sA σ4 35 b x1) 36 b (nI w)) 37 b x3) 35 i = _
      rw [gA_sA, if_neg (by decide), gA_sA, if_neg (by decide), gA_sA, if_pos rfl]
      by_cases e : i = b
      · rw [e, pk_us, if_pos rfl]
      · rw [pk_un e, if_neg e]
    have e36 : ∀ i, gA (sI (sA (sA (sA σ4 35 b x1) 36 b (nI w)) 37 b x3) 38 (nI (b + 1))) 36 i = if i = b then nI w else gA σ4 36 i := fun i => by
      show gA (sA (sA (sA σ4 35 b x1) 36 b (nI w)) 37 b x3) 36 i = _
      rw [gA_sA, if_neg (by decide), gA_sA, if_pos rfl]
      by_cases e : i = b
      · rw [e, pk_us, if_pos rfl]
      · rw [pk_un e, if_neg e, gA_sA, if_neg (by decide)]
    have e37 : ∀ i, gA (sI (sA (sA (sA σ4 35 b x1) 36 b (nI w)) 37 b x3) 38 (nI (b + 1))) 37 i = if i = b then x3 else gA σ4 37 i := fun i => by
      show gA (sA (sA (sA σ4 35 b x1) 36 b (nI w)) 37 b x3) 37 i = _
      rw [gA_sA, if_pos rfl]
      by_cases e : i = b
      · rw [e, pk_us, if_pos rfl]
      · rw [pk_un e, if_neg e, gA_sA, if_neg (by decide), gA_sA, if_neg (by decide)]
    have h38 : gI (sI (sA (sA (sA σ4 35 b x1) 36 b (nI w)) 37 b x3) 38 (nI (b + 1))) 38 = nI (b + 1) := gI_eq
    have bd2 : ∀ t, bdy (sI (sA (sA (sA σ4 35 b x1) 36 b (nI w)) 37 b x3) 38 (nI (b + 1))) t = bdy σ4 t := fun t => bdy_f (ej 19 (by omega)) t
    have gv2 : ∀ k, gv (sI (sA (sA (sA σ4 35 b x1) 36 b (nI w)) 37 b x3) 38 (nI (b + 1))) k = gv σ4 k := fun k => by
      unfold gv
      rw [ej 12 (by omega), ej 13 (by omega), ej 15 (by omega)]
    refine ⟨⟨a, b + 1, st, (gI_ne (by decide)).trans f1, f2, h38, by omega, f5, fun t ht => ?_, fun e => by omega, fun i hi => ?_, fun k hk => absurd hk id, fun k hk hg => ?_⟩, fun e => ?_⟩
    · rw [bd2] at ht
      rw [ej 12 (by omega)]
      obtain ⟨t1, t2, t3, t4⟩ := f6 t ht
      exact ⟨t1, fun e => by omega, fun _ => t3 hb, t4⟩
    · rw [e35, e36, e37, ej 12 (by omega)]
      by_cases e : i = b
      · rw [if_pos e, if_pos e, if_pos e]
        exact ⟨⟨fun e2 => by rcases h0 with h | h | h <;> rw [h] at e2 <;> exact absurd e2 (by decide), fun e2 => by omega⟩, fun _ => ⟨h0, w, rfl, wst, wa, g1, g2, h3⟩⟩
      · rw [if_neg e, if_neg e, if_neg e]
        exact f8 i (by omega)
    · rw [ej 12 (by omega)] at hg
      rcases f10 k hk hg with q | ⟨i, i1, i2, i3⟩ | ⟨n, n1, n2, n3, n4⟩
      · exact Or.inr (Or.inl ⟨b, hb, by omega, by rw [e36, if_pos rfl, q]⟩)
      · exact Or.inr (Or.inl ⟨i, i1, by omega, by rw [e36, if_neg (by omega)]; exact i3⟩)
      · exact Or.inr (Or.inr ⟨n, by rw [gv2]; exact n1, n2, fun e => by omega, fun t ht => n4 t (by rw [bd2] at ht; exact ht)⟩)
    · rw [h38] at e
      have := (nI_eq (b := 0) (by omega) (by decide)).mp e
      omega
  unfold m_opens
  exact par_bd (kz_m_isSign (kz_r σ)) (fun r1 σ2 z => par_if (fun _ => core σ2 z) (fun _ => par_if (fun _ => par_bd (kz_m_wrong z) (fun _ σ6 z6 => core σ6 z6)) (fun _ => core σ2 z)))
/-- a goal is laid -/
theorem of_set {X : Nat → Prop} {σ : St} {k n : Nat} (h : OF (fun q => X q ∨ q = k) σ) (hg : gv σ k = nI n) (hn : n ≤ 1300) (hs : gI σ 17 = nI n ∨ X n) : OF X σ := by
  obtain ⟨a, b, st, f1, f2, f3, f4, f5, f6, f7, f8, f9, f10⟩ := h
  obtain ⟨k1, k2, k3⟩ := f9 k (Or.inr rfl)
  have hsn : st ≤ n ∧ n ≤ a := by
    rcases hs with e | e
    · have := (nI_eq (by omega) (by omega)).mp (f1.symm.trans e)
      omega
    · obtain ⟨n1, n2, -⟩ := f9 n (Or.inl e)
      omega
  refine ⟨a, b, st, f1, f2, f3, f4, f5, f6, f7, f8, fun q hq => f9 q (Or.inl hq), fun q hq hgl => ?_⟩
  rcases f10 q hq hgl with (e | e) | e | e
  · exact Or.inl e
  · refine Or.inr (Or.inr ⟨n, by rw [e]; exact hg, hsn.2, fun e0 => by omega, fun t ht => ?_⟩)
    have := (f6 t ht).2.2.1 k3
    exact ⟨fun hh => by omega, fun hh => by omega⟩
  · exact Or.inr (Or.inl e)
  · exact Or.inr (Or.inr e)
theorem of_lay {X : Nat → Prop} {σ : St} {w j : Nat} {v : Int32} (h : OF (fun q => X q ∨ q = w) σ) (hj : j = 13 ∨ j = 15) (ha : gA σ 12 (1300 + w) = 13 ↔ j = 13) : OF (fun q => X q ∨ q = w) (sA σ j (1300 + w) v) ∧ gv (sA σ j (1300 + w) v) w = v := by
  obtain ⟨a, b, st, f1, f2, f3, f4, f5, f6, f7, f8, f9, f10⟩ := h
  have ej : ∀ q, q ≠ j → gA (sA σ j (1300 + w) v) q = gA σ q := fun q hq => by rw [gA_sA, if_neg hq]
  have e12 : gA (sA σ j (1300 + w) v) 12 = gA σ 12 := ej 12 (by omega)
  have hv : gA (sA σ j (1300 + w) v) j (1300 + w) = v := by rw [gA_sA, if_pos rfl, pk_us]
  have ho : ∀ k, k ≠ w → gA (sA σ j (1300 + w) v) j (1300 + k) = gA σ j (1300 + k) := fun k hk => by rw [gA_sA, if_pos rfl, pk_un (by omega)]
  have bd2 : ∀ t, bdy (sA σ j (1300 + w) v) t = bdy σ t := fun t => bdy_f (ej 19 (by omega)) t
  have gv2 : ∀ k, k ≠ w → gv (sA σ j (1300 + w) v) k = gv σ k := fun k hk => by
    unfold gv
    rw [e12]
    rcases hj with e | e
    · subst e
      rw [ho k hk, ej 15 (by decide)]
    · subst e
      rw [ho k hk, ej 13 (by decide)]
  refine ⟨⟨a, b, st, f1, f2, f3, f4, f5, fun t ht => ?_, by rw [e12]; exact f7, ?_, f9, fun k hk hg => ?_⟩, ?_⟩
  · rw [bd2] at ht
    rw [e12]
    exact f6 t ht
  · rw [e12, ej 35 (by omega), ej 36 (by omega), ej 37 (by omega)]
    exact f8
  · rw [e12] at hg
    by_cases e : k = w
    · exact Or.inl (Or.inr e)
    · rcases f10 k hk hg with q | ⟨i, i1, i2, i3⟩ | ⟨n, n1, n2, n3, n4⟩
      · exact Or.inl q
      · exact Or.inr (Or.inl ⟨i, i1, i2, by rw [ej 36 (by omega)]; exact i3⟩)
      · exact Or.inr (Or.inr ⟨n, by rw [gv2 k e]; exact n1, n2, n3, fun t ht => n4 t (by rw [bd2] at ht; exact ht)⟩)
  · unfold gv
    rw [e12]
    by_cases c : gA σ 12 (1300 + w) = 13
    · rw [if_pos c]
      have := ha.mp c
      subst this
      exact hv
    · rw [if_neg c]
      rcases hj with e | e
      · exact absurd (ha.mpr e) c
      · subst e
        exact hv
