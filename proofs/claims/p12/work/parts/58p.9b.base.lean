/-! what a taken text leaves: rows against acts, both at their base -/
def acB (φ : Nat → Nat) (p : Nat) (σ : St) : Nat → Nat → Int32 := fun k j => gA σ (12 + j) (φ p + k)
def BC (G s : Nat) (φ : Nat → Nat) (σc σm : St) : Prop := φ 0 = 0 ∧ ∀ p, p < s → ∃ len, 0 < len ∧ φ (p + 1) = φ p + len ∧ EL (rwD G p σc) (acB φ p σm) len ∧ GL G s φ (fun _ => False) σc p (rwD G p σc) (acB φ p σm)
def BU (G u w : Nat) (σc σm : St) : Prop := gI σc (100 * G + 11) = nI u ∧ gA σm 26 0 = nI u ∧ u ≤ 40 ∧ (∀ k, k < u → gA σc (G + 6) k = gA σm 23 k ∧ gA σc (G + 7) k = gA σm 24 k ∧ gA σc (G + 8) k = gA σm 25 k) ∧ gI σc (100 * G + 12) = nI w ∧ gA σm 29 0 = nI w ∧ w ≤ 24 ∧ ∀ k, k < w → gA σc (G + 9) k = gA σm 27 k ∧ gA σc (G + 10) k = gA σm 28 k
def BT (G s T : Nat) (φ : Nat → Nat) (σc σm : St) : Prop := T < 256 ∧ gI σc (100 * G + 9) = nI T ∧ ∀ r, r < 8 → (T / 2 ^ r % 2 = 1 ↔ ¬ gA σm 19 r = -1) ∧ (T / 2 ^ r % 2 = 1 → ∃ m p : Nat, m ≤ 4 ∧ p < s ∧ gA σc (G + 4) r = nI m ∧ gA σm 20 r = nI m ∧ gA σc (G + 3) r = nI p ∧ gA σm 19 r = nI (φ p) ∧ ∀ k, k < m → gA σc (G + 5) (4 * r + k) = gA σm 21 (4 * r + k))
def BW (G s T : Nat) (σc : St) : Prop := ∀ p, p < s → ∃ l, rwD G p σc 11 = nI l ∧ Om G T σc l p
def BX (G s : Nat) (φ : Nat → Nat) (u w T : Nat) (σc σm : St) : Prop := gI σc (100 * (G + 1) + 1) = nI s ∧ s ≤ 304 ∧ gI σm 18 = nI (φ s) ∧ φ s ≤ 1299 ∧ BC G s φ σc σm ∧ BU G u w σc σm ∧ BT G s T φ σc σm ∧ BW G s T σc
def O8 (σc σm : St) : Prop := ∀ i, i < 4 → gA σc 8 i = gA σm 40 i ∧ ∃ x : Nat, x ≤ 3 ∧ gA σm 40 i = nI x
def LY (σc σm : St) : Prop := (∃ s φ u w T, BX (gP σc 700) s φ u w T σc σm) ∧ O8 σc σm
/-- what a run has left stays -/
def Fx (σc σm σc' σm' : St) : Prop := gA σc' 26 = gA σc 26 ∧ ∀ k, 56 ≤ k → k ≤ 60 → gI σm' k = gI σm k
def LX (σc σm : St) : Prop := LT σc σm ∧ LY σc σm
theorem gl_same {g s : Nat} {φ : Nat → Nat} {X X2 : Nat → Prop} {σc σc' : St} {p : Nat} {d d' : Nat → Int32} {A A' : Nat → Nat → Int32} (h : GL g s φ X σc p d A) (hX : X p → X2 p) (h0 : d' 0 = d 0) (h10 : d' 10 = d 10) (a01 : A' 0 1 = A 0 1) (a02 : A' 0 2 = A 0 2) (a13 : d 0 = 2 → A' 1 3 = A 1 3) (hr : ∀ q, q < p → rwD g q σc' 0 = rwD g q σc 0) : GL g s φ X2 σc' p d' A' := by
  obtain ⟨g1, g2⟩ := h
  unfold GL
  rw [h0, h10, a01, a02]
  refine ⟨fun e => ?_, fun e => ?_⟩
  · rcases g1 e with ⟨z1, q, z2, z3, z4, z5⟩ | ⟨z1, z2⟩
    · exact Or.inl ⟨z1, q, z2, z3, (hr q z2).trans z4, z5⟩
    · exact Or.inr ⟨z1, go_mono z2 (Nat.le_refl _) (fun _ _ => rfl) hX⟩
  · rw [a13 e]
    exact go_mono (g2 e) (Nat.le_refl _) (fun _ _ => rfl) hX
theorem el_len2 {d : Nat → Int32} {A : Nat → Nat → Int32} {len : Nat} (h : EL d A len) (e : d 0 = 2) : len = 2 := by
  rcases h with ⟨z, r⟩ | ⟨z, r⟩ | ⟨z, r⟩ | ⟨z, r⟩ | ⟨z, r⟩ | ⟨z, r⟩
  · exact r
  · rw [e] at z; exact absurd z (by decide)
  · exact r
  · rcases z with z | z
    · rw [e] at z; exact absurd z.1 (by decide)
    · rw [e] at z; exact absurd z.1 (by decide)
  · exact r
  · rw [show d 0 = 6 from z.1] at e; exact absurd e (by decide)
theorem bc_up {G s : Nat} {φ : Nat → Nat} {σc σm : St} (h : BC G s φ σc σm) : ∀ q, q ≤ s → ∀ p, p ≤ q → φ p ≤ φ q ∧ (p < q → φ p < φ q) ∧ p ≤ φ p := by
  intro q
  induction q with
  | zero =>
    intro _ p hp
    obtain rfl : p = 0 := by omega
    exact ⟨Nat.le_refl _, fun z => absurd z (Nat.lt_irrefl _), Nat.zero_le _⟩
  | succ q ih =>
    intro hq p hp
    obtain ⟨len, l1, l2, -⟩ := h.2 q (by omega)
    rcases (show p = q + 1 ∨ p ≤ q by omega) with e | e
    · subst e
      have := ih (by omega) q (Nat.le_refl _)
      exact ⟨Nat.le_refl _, fun z => absurd z (Nat.lt_irrefl _), by omega⟩
    · have := ih (by omega) p e
      exact ⟨by omega, fun _ => by omega, this.2.2⟩
theorem bx_keep {G s u w T : Nat} {φ : Nat → Nat} {σc σm σc' σm' : St} (h : BX G s φ u w T σc σm) (hI : ∀ k, 100 * G ≤ k → k < 100 * G + 200 → gI σc' k = gI σc k) (hA : ∀ j, G + 2 ≤ j → j ≤ G + 10 → gA σc' j = gA σc j) (m18 : gI σm' 18 = gI σm 18) (mA : ∀ j i, 12 ≤ j → j < 40 → i < lim j → gA σm' j i = gA σm j i) : BX G s φ u w T σc' σm' := by
  obtain ⟨x1, x2, x3, x4, x5, x6, x7, x8⟩ := h
  have hup := bc_up x5
  have hd : ∀ p q, rwD G p σc' q = rwD G p σc q := fun p q => by unfold rwD; rw [hA (G + 2) (by omega) (by omega)]
  have ha : ∀ p k j, j ≤ 4 → φ p + k < φ s → acB φ p σm' k j = acB φ p σm k j := fun p k j hj hk => by
    refine mA (12 + j) _ (by omega) (by omega) ?_
    rcases (show j = 0 ∨ j = 1 ∨ j = 2 ∨ j = 3 ∨ j = 4 by omega) with e | e | e | e | e <;> subst e <;> show _ < 1300 <;> omega
  refine ⟨?_, x2, m18.trans x3, x4, ⟨x5.1, fun p hp => ?_⟩, ?_, ?_, fun p hp => ?_⟩
  · rw [hI _ (by omega) (by omega)]; exact x1
  · obtain ⟨len, l1, l2, l3, l4⟩ := x5.2 p hp
    have h1 := (hup s (Nat.le_refl _) (p + 1) (by omega)).1
    refine ⟨len, l1, l2, el_same (fun q _ => hd p q) (fun k j hk hj => ha p k j hj (by omega)) l3, ?_⟩
    refine gl_same l4 id (hd p 0) (hd p 10) (ha p 0 1 (by decide) (by omega)) (ha p 0 2 (by decide) (by omega)) (fun e => ha p 1 3 (by decide) ?_) (fun q _ => hd q 0)
    have := el_len2 l3 e
    omega
  · obtain ⟨u1, u2, u3, u4, u5, u6, u7, u8⟩ := x6
    refine ⟨(hI _ (by omega) (by omega)).trans u1, (mA 26 0 (by decide) (by decide) (by decide)).trans u2, u3, fun k hk => ?_, (hI _ (by omega) (by omega)).trans u5, (mA 29 0 (by decide) (by decide) (by decide)).trans u6, u7, fun k hk => ?_⟩
    · rw [hA (G + 6) (by omega) (by omega), hA (G + 7) (by omega) (by omega), hA (G + 8) (by omega) (by omega), mA 23 k (by decide) (by decide) (show k < 41 by omega), mA 24 k (by decide) (by decide) (show k < 41 by omega), mA 25 k (by decide) (by decide) (show k < 41 by omega)]
      exact u4 k hk
    · rw [hA (G + 9) (by omega) (by omega), hA (G + 10) (by omega) (by omega), mA 27 k (by decide) (by decide) (show k < 25 by omega), mA 28 k (by decide) (by decide) (show k < 25 by omega)]
      exact u8 k hk
  · obtain ⟨t1, t2, t3⟩ := x7
    refine ⟨t1, (hI _ (by omega) (by omega)).trans t2, fun r hr => ?_⟩
    rw [hA (G + 3) (by omega) (by omega), hA (G + 4) (by omega) (by omega), hA (G + 5) (by omega) (by omega), mA 19 r (by decide) (by decide) (show r < 8 from hr), mA 20 r (by decide) (by decide) (show r < 8 from hr)]
    refine ⟨(t3 r hr).1, fun z => ?_⟩
    obtain ⟨m, p, q1, q2, q3, q4, q5, q6, q7⟩ := (t3 r hr).2 z
    exact ⟨m, p, q1, q2, q3, q4, q5, q6, fun k hk => by rw [mA 21 _ (by decide) (by decide) (show 4 * r + k < 32 by omega)]; exact q7 k hk⟩
  · obtain ⟨l, b1, b2⟩ := x8 p hp
    exact ⟨l, (hd p 11).trans b1, om_same b2 (hA (G + 3) (by omega) (by omega))⟩
/-- rows filled with one number -/
theorem fill_v {N : Nat} {x0 : Nat} {v : Int32} {L : Nat} (hL : L < 100000) : ∀ (n : Nat) (σ : St) (k : Nat), k ≤ L → Par (j_fill_5 N n σ x0 v (nI k) (nI L)) (fun _ σ' => (∀ i, i < k → gA σ' x0 i = gA σ x0 i) ∧ ∀ i, k ≤ i → i < L → gA σ' x0 i = v) := by
  intro n
  induction n with
  | zero => intro σ k _ r σ' e; cases e
  | succ n ih =>
    intro σ k hk
    show Par (j_fill_5_b N (j_fill_5 N n) σ x0 v (nI k) (nI L)) _
    unfold j_fill_5_b
    refine par_if (fun z => par_some ⟨fun _ _ => rfl, fun i h1 h2 => ?_⟩) (fun z => par_gd (fun _ => par_gd (fun _ => ?_)))
    · have := (nI_leI (by omega) (by omega)).mp z
      omega
    · have z2 : k < L := by
        refine Classical.byContradiction (fun y => z ((nI_leI (by omega) (by omega)).mpr (by omega)))
      rw [nI_clamp (by omega), nI_1]
      refine (ih (sA σ x0 k v) (k + 1) (by omega)).mono (fun _ σ' y => ⟨fun i hi => ?_, fun i h1 h2 => ?_⟩)
      · rw [y.1 i (by omega), gA_sA, if_pos rfl, pk_un (by omega)]
      · rcases (show i = k ∨ k + 1 ≤ i by omega) with e | e
        · subst e
          rw [y.1 i (by omega), gA_sA, if_pos rfl, pk_us]
        · exact y.2 i e h2
theorem c_start8 {N : Nat} {σ : St} {v : Int32} : Par (x7_startAt N σ v) (fun _ σ' => ∀ i, i < 4 → gA σ' 8 i = 3) := by
  unfold x7_startAt j_fill
  refine par_bd (P := fun _ σ' => ∀ i, i < 4 → gA σ' 8 i = 3) (par_gd (fun _ => ?_)) (fun _ σ2 z => par_some z)
  exact (fill_v (L := 4) (by decide) N (sI σ 701 v) 0 (by decide)).mono (fun _ σ' z i hi => z.2 i (Nat.zero_le _) hi)
theorem lx_kr {σc σm σc' σm' : St} (hL : LX σc σm) (hc : Kr σc σc') (hm : Kn σm σm') : LX σc' σm' := by
  obtain ⟨h1, ⟨s, φ, u, w, T, h2⟩, h3⟩ := hL
  have g7 := pr_or h1.2.2.2.2.2.1
  refine ⟨lt_kr h1 hc hm, ⟨s, φ, u, w, T, ?_⟩, fun i hi => ?_⟩
  · rw [hc.2.2 700 (by decide)]
    exact bx_keep h2 (fun k h4 _ => hc.1 k (by omega)) (fun j h4 _ => hc.2.1 j (by omega)) (hm.1 18 (by decide) (by decide)) (fun j i _ hj _ => by rw [hm.2 j (by omega)])
  · rw [hc.2.1 8 (by decide), hm.2 40 (by decide)]
    exact h3 i hi
theorem lx_k {σc σm σc' σm' : St} (hL : LX σc σm) (hc : Kc σc σc') (hm : Km σm σm') : LX σc' σm' := lx_kr hL (kr_c hc) (kn_m hm)
