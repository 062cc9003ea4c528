/-! the FACTS of both sides are the least that satisfy the rows -/
def sE (σ : St) : Nat := (gI σ (100 * (gP σ 700 + 1) + 1)).toNatClampNeg
def lE (σ : St) : Nat := (gI σ 701).toNatClampNeg
def tE (σ : St) (j : Nat) : Nat := (gA σ 8 j).toNatClampNeg
def So (s : St × St) (D : FD) : Prop := Sol s.1 (gP s.1 700) (sE s.1) (Rd (gP s.1 700) s.1 s.2) (lE s.1) (tE s.1) D
def nb (x : Int32) (b : Nat) : Prop := x.toNatClampNeg.testBit b = true
/-- the rows of marks, uses and tests are the least -/
def CRr (s : St × St) (f12 f13 f14 : Nat → Int32) : Prop := nf4 f12 42 ∧ nf4 f13 40 ∧ nf4 f14 24 ∧ (gI s.1 701 = -1 → (∀ m, m < 42 → f12 m = 0) ∧ (∀ u, u < 40 → f13 u = 0) ∧ ∀ t, t < 24 → f14 t = 0) ∧ (¬ gI s.1 701 = -1 → (∀ m b, m < 42 → b < 2 → (nb (f12 m) b ↔ ∀ D, So s D → D.2.2.1 m b)) ∧ (∀ t b, t < 24 → b < 2 → (nb (f14 t) b ↔ ∀ D, So s D → D.2.2.2.2 t b)) ∧ ∀ u b, u < 40 → b < 2 → (nb (f13 u) b ↔ ∀ D, So s D → D.2.2.2.2 (100 + u) b))
/-- what is known of a program that both sides have taken -/
def PX (s : St × St) (φ : Nat → Nat) (T : Nat) : Prop := PO s.1 s.2 (gP s.1 700) (sE s.1) φ ∧ gI s.2 18 = nI (φ (sE s.1)) ∧ T < 256 ∧ gI s.1 (100 * gP s.1 700 + 9) = nI T ∧ gI s.1 701 = gI s.2 39 ∧ (∀ j, j < 4 → gA s.1 8 j = nI (tE s.1 j) ∧ gA s.2 40 j = nI (tE s.1 j) ∧ tE s.1 j < 4) ∧ (gI s.1 701 = -1 ∨ (gI s.1 701 = nI (lE s.1) ∧ (Rd (gP s.1 700) s.1 s.2).1 (lE s.1) ∧ T / 2 ^ lE s.1 % 2 = 1))
theorem px_of {σc σm : St} (hX : LX σc σm) (hM : MI σm) : ∃ φ T, PX (σc, σm) φ T := by
  obtain ⟨⟨l1, l2, l3, l4, l5, l6, l7, -, l9⟩, ⟨s, φ, u, w, T, hBX⟩, hO8⟩ := hX
  obtain ⟨a, u0, w0, m1, m2, -, -, -, -, mB, mE, -⟩ := hM
  obtain ⟨x1, x2, x3, x4, x5, x6, x7, x8⟩ := hBX
  have ea : a = φ s := (nI_eq (by omega) (by omega)).mp (m1.symm.trans x3)
  subst ea
  have es : sE σc = s := by
    unfold sE
    rw [x1, nI_clamp (by omega)]
  refine ⟨φ, T, ?_, ?_, x7.1, x7.2.1, l9, fun j hj => ?_, ?_⟩
  · show PO σc σm (gP σc 700) (sE σc) φ
    rw [es]
    exact ⟨⟨l6, x1, x2, x4, x5, mB, T, x7⟩, T, x7, x8⟩
  · show gI σm 18 = nI (φ (sE σc))
    rw [es]; exact x3
  · obtain ⟨h1, x, h2, h3⟩ := hO8 j hj
    have et : tE σc j = x := by
      unfold tE
      rw [h1, h3, nI_clamp (by omega)]
    show gA σc 8 j = nI (tE σc j) ∧ gA σm 40 j = nI (tE σc j) ∧ tE σc j < 4
    rw [et]
    exact ⟨h1.trans h3, h3, by omega⟩
  · rcases mE with e | ⟨l, e1, e2, e3⟩
    · exact Or.inl (l9.trans e)
    · have el : lE σc = l := by
        unfold lE
        rw [l9, e2, nI_clamp (by omega)]
      refine Or.inr ⟨?_, ?_, ?_⟩
      · show gI σc 701 = nI (lE σc)
        rw [el]; exact l9.trans e2
      · show (Rd (gP σc 700) σc σm).1 (lE σc)
        rw [el]; exact ⟨by omega, e3⟩
      · show T / 2 ^ lE σc % 2 = 1
        rw [el]; exact (x7.2.2 l (by omega)).1.mpr e3
theorem par_all {ρ α : Type} {o : Option (ρ × St)} {Q : α → ρ → St → Prop} (h : ∀ a, Par o (Q a)) : Par o (fun r σ => ∀ a, Q a r σ) := fun r σ e a => h a r σ e
theorem n4_eq : ∀ a, a < 4 → ∀ b, b < 4 → (∀ i, i < 2 → (a.testBit i = true ↔ b.testBit i = true)) → a = b := by decide
/-- no entry: nothing is found -/
theorem c_none {N : Nat} {σc0 : St} {G s : Nat} (hg : isPr G = true) (h1 : gI σc0 (100 * (G + 1) + 1) = nI s) (hs : s ≤ 304) : ∀ (f k : Nat) (σ : St), k ≤ 1 → Em σ → gI σ 910 = 0 → gP σ 906 = G → gP σ 907 = G + 1 → Kc σc0 σ → gL σ 912 = 0 → (k = 1 → gI σ 909 = 0) → Par (x1_settle_37 N f σ (nI k)) (fun _ σ' => Em σ' ∧ gL σ' 912 = 0 ∧ gI σ' 908 = 0) := by
  have hgg := pr_or hg
  intro f
  induction f with
  | zero => intro k σ _ _ _ _ _ _ _ _ r σ' e; cases e
  | succ f ih =>
    intro k σ hk hE e910 e6 e7 hK hL hk1
    have fin : Par (some ((), sI σ 908 0)) (fun _ σ' => Em σ' ∧ gL σ' 912 = 0 ∧ gI σ' 908 = 0) := par_some ⟨⟨hE.1, hE.2.1, hE.2.2.1, hE.2.2.2.1, hE.2.2.2.2.1, (gI_ne (by decide)).trans hE.2.2.2.2.2⟩, hL, gI_eq⟩
    show Par (x1_settle_37_b N (x1_settle_37 N f) σ (nI k)) _
    unfold x1_settle_37_b x1_openRoutines
    refine par_if (fun _ => fin) (fun _ => par_if (fun _ => fin) (fun y => ?_))
    have k0 : k = 0 := by
      rcases (show k = 0 ∨ k = 1 by omega) with e | e
      · exact e
      · exact absurd (hk1 e) y
    subst k0
    have lo : ∀ (f i : Nat), i ≤ 8 → Par (x1_openRoutines_2 N f (sI σ 909 0) (nI i)) (fun _ σ' => σ' = sI σ 909 0) := by
      intro f
      induction f with
      | zero => intro i _ r σ' e; cases e
      | succ f ihf =>
        intro i hi
        show Par (x1_openRoutines_2_b N (x1_openRoutines_2 N f) (sI σ 909 0) (nI i)) _
        unfold x1_openRoutines_2_b x1_openRoutines_96
        rw [show gI (sI σ 909 0) 910 = nI 0 from (gI_ne (by decide)).trans e910]
        refine par_if (fun _ => par_some rfl) (fun z => ?_)
        have z2 : i < 8 := Classical.byContradiction (fun y => z (nI_le (a := 8) (by omega) (by omega)))
        rw [if_pos ((rb0 0 (by decide) i z2).mpr (Nat.zero_testBit i)), nI_1]
        exact ihf (i + 1) (by omega)
    refine par_bd (lo N 0 (by decide)) (fun _ σ6 e => ?_)
    subst e
    have lp : ∀ (g p : Nat), p ≤ s → Par (x1_settle_63 N (x1_settle_37 N f) g (sI σ 909 0) (nI 0) (nI p)) (fun _ σ' => Em σ' ∧ gL σ' 912 = 0 ∧ gI σ' 908 = 0) := by
      intro g
      induction g with
      | zero => intro p _ r σ' e; cases e
      | succ g ihg =>
        intro p hp
        have fin2 : Par (x1_settle_37 N f (sI σ 909 0) (nI (0 + 1))) (fun _ σ' => Em σ' ∧ gL σ' 912 = 0 ∧ gI σ' 908 = 0) := ih (0 + 1) _ (by decide) ⟨hE.1, hE.2.1, hE.2.2.1, hE.2.2.2.1, hE.2.2.2.2.1, (gI_ne (by decide)).trans hE.2.2.2.2.2⟩ ((gI_ne (by decide)).trans e910) e6 e7 (kc_I hK (by decide)) hL (fun _ => gI_eq)
        show Par (x1_settle_63_b N (x1_settle_37 N f) (x1_settle_63 N (x1_settle_37 N f) g) (sI σ 909 0) (nI 0) (nI p)) _
        unfold x1_settle_63_b x1_settle_145 x1_settle_139
        rw [show gP (sI σ 909 0) 907 = G + 1 from e7, pg_cd hg, gd_t, show gI (sI σ 909 0) (100 * (G + 1) + 1) = nI s from (gI_ne (by omega)).trans ((hK.1 _ (by omega)).trans h1), nI_clamp (n := p) (by omega), nI_1, nI_1]
        refine par_if (fun _ => fin2) (fun z => par_if (fun _ => fin2) (fun _ => par_gd (fun _ => ?_)))
        have z2 : p < s := Classical.byContradiction (fun y => z (nI_le (by omega) (by omega)))
        rw [if_pos (lgc.mpr (show gZ (sI σ 909 0) 10 p = 0 from hE.1 p (by omega)))]
        exact ihg (p + 1) (by omega)
    exact lp N 0 (Nat.zero_le _)
/-- nothing held: what the class has found -/
theorem c_17 {N : Nat} {σc σm : St} {φ : Nat → Nat} {T : Nat} (hP : PX (σc, σm) φ T) : Par (x1_settle_17 N σc 0) (fun _ σ' => gI σ' 908 = 0 ∧ gL σ' 912 = 0 ∧ CRr (σc, σm) (gA σ' 12) (gA σ' 13) (gA σ' 14)) := by
  obtain ⟨hO, h18, hT1, hT2, h39, h8, hE⟩ := hP
  have hO : PO σc σm (gP σc 700) (sE σc) φ := hO
  rcases hE with e | ⟨e1, e2, e3⟩
  · have e : gI σc 701 = -1 := e
    have hg := pr_or hO.1.1
    unfold x1_settle_17
    refine par_bd (c_clear1 (G := gP σc 700) rfl) (fun _ σ2 q => ?_)
    obtain ⟨q1, q2, q3, q4, q5⟩ := q
    have e701 : gI (sL σ2 912 0) 701 = -1 := (q5.1 701 (by decide)).trans e
    have hh : x3_has N (sL σ2 912 0) (gP σc 700) (-1) = some (0, sL σ2 912 0) := by
      unfold x3_has
      rw [if_pos (by decide)]
    unfold x1_reachEntry
    rw [show gP (sL σ2 912 0) 906 = gP σc 700 from q3, hO.1.1, gd_t, e701, hh, bd_s, if_pos rfl, bd_s]
    refine (c_none (G := gP σc 700) (σc0 := σc) hO.1.1 hO.1.2.1 hO.1.2.2.1 N 0 (sI (sL σ2 912 0) 909 1) (by decide) ⟨q1.1, q1.2.1, q1.2.2.1, q1.2.2.2.1, q1.2.2.2.2.1, (gI_ne (by decide)).trans q1.2.2.2.2.2⟩ ((gI_ne (by decide)).trans q2) q3 q4 (kc_I (kc_L q5) (by decide)) (gL_e (k := 912)) (fun z => absurd z (by decide))).mono (fun _ σ' z => ?_)
    obtain ⟨z1, z2, z3⟩ := z
    have e0 : ∀ f : Nat → Int32, ∀ k, (∀ i, i < k → f i = 0) → nf4 f k := fun f k hf i hi => by
      rw [hf i hi]
      exact ⟨rfl, by decide⟩
    exact ⟨z3, z2, e0 _ _ z1.2.2.1, e0 _ _ z1.2.2.2.1, e0 _ _ z1.2.2.2.2.1, fun _ => ⟨z1.2.2.1, z1.2.2.2.1, z1.2.2.2.2.1⟩, fun h => absurd e h⟩
  · have hne : ¬ gI σc 701 = -1 := by
      rw [show gI σc 701 = nI (lE σc) from e1]
      exact nI_nm1 (by have := (rd_ok hO e2).1; exact Nat.lt_of_lt_of_le this (by decide))
    refine (par_all (fun D => c_settle17 (D := D) (T := T) (tv := tE σc) hO (fun p hp => rf_of hO hp) e2 hT1 hT2 e3 rfl e1 (fun j hj => (h8 j hj).2.2) (fun j hj => (h8 j hj).1))).mono (fun _ σ' z => ?_)
    obtain ⟨σ1, w1, w2, w3, w4⟩ := z (DT (Rd (gP σc 700) σc σm))
    have hall : ∀ D, So (σc, σm) D → FL (Dc σ1) D := fun D hD => by
      obtain ⟨σ2, y1, y2, -⟩ := z D
      have e10 : gZ σ2 10 = gZ σ1 10 := by
        have := congrArg (fun x => gZ x 10) (y1.symm.trans w1)
        exact this
      have eA : ∀ j, gA σ2 j = gA σ1 j := fun j => by
        have := congrArg (fun x => gA x j) (y1.symm.trans w1)
        exact this
      have eR : gI σ2 910 = gI σ1 910 := by
        have := congrArg (fun x => gI x 910) (y1.symm.trans w1)
        have t2 : gI (sI σ2 908 0) 910 = gI (sI σ1 908 0) 910 := this
        rw [gI_ne (by decide), gI_ne (by decide)] at t2
        exact t2
      have eD : FL (Dc σ1) (Dc σ2) := fl_of (fun p i _ h => by rw [e10]; exact h) (fun m b _ _ h => by unfold cmk at *; rw [eA]; exact h) (fun l _ h => by unfold crd at *; rw [eR]; exact h) (fun t b _ _ h => by unfold cts at *; rw [eA]; exact h) (fun t b _ _ h => by unfold cus at *; rw [eA]; exact h)
      exact fl_t eD (y2.2.2.2.2.1 hD)
    have hsol : So (σc, σm) (Dc σ1) := ⟨w2.2.2.2.2.2.2, fun r hr => w3 r (rd_ok hO hr).1, fun p hp hu => rwS_m (fl_r _) (fun _ _ h => h) (fun n b h => h.2) (w4 p hp hu.2)⟩
    have eA : ∀ j, gA σ' j = gA σ1 j := fun j => by rw [w1]; rfl
    refine ⟨by rw [w1]; exact gI_eq, by rw [w1]; exact w2.1.2.2.2, ?_⟩
    rw [eA, eA, eA]
    refine ⟨w2.2.1.1, w2.2.1.2.1, w2.2.1.2.2.1, fun h => absurd h hne, fun _ => ⟨fun m b hm hb => ⟨fun h D hD => (hall D hD).2.2.1 m b ⟨hm, hb, h⟩, fun h => (h _ hsol).2.2⟩, fun t b ht hb => ⟨fun h D hD => (hall D hD).2.2.2.2 t b ⟨hb, Or.inl ⟨ht, h⟩⟩, fun h => ?_⟩, fun u b hu hb => ⟨fun h D hD => (hall D hD).2.2.2.2 (100 + u) b ⟨hb, Or.inr ⟨by omega, by omega, by rw [show 100 + u - 100 = u by omega]; exact h⟩⟩, fun h => ?_⟩⟩⟩
    · rcases (h _ hsol).2 with ⟨-, z⟩ | ⟨z, -⟩
      · exact z
      · omega
    · rcases (h _ hsol).2 with ⟨z, -⟩ | ⟨-, -, z⟩
      · omega
      · rw [show 100 + u - 100 = u by omega] at z
        exact z
/-- what the reference has found -/
def MRr (s : St × St) (φ : Nat → Nat) (σ : St) : Prop := (∀ m, m < 42 → gA σ 42 m = nI (mkv σ m) ∧ mkv σ m < 4) ∧ (∀ t, t < 25 → gA σ 44 t = nI (tsv σ t) ∧ tsv σ t < 4) ∧ (∀ j, j < 40 → gA σ j = gA s.2 j) ∧ (∀ k, k < 40 → k ≠ 0 → gI σ k = gI s.2 k) ∧ (gI s.1 701 = -1 → (∀ m, m < 42 → gA σ 42 m = 0) ∧ (∀ t, t < 25 → gA σ 44 t = 0) ∧ ∀ k, k < φ (sE s.1) → gZ σ 41 k = 0) ∧ (¬ gI s.1 701 = -1 → (∀ m b, m < 42 → b < 2 → ((mkv σ m).testBit b = true ↔ ∀ D, So s D → D.2.2.1 m b)) ∧ (∀ t b, t < 25 → b < 2 → ((tsv σ t).testBit b = true ↔ ∀ D, So s D → D.2.2.2.2 t b)) ∧ So s (Dm s.1 s.2 (gP s.1 700) (sE s.1) φ σ) ∧ ∀ D, So s D → Jr (φ (sE s.1)) (UU s.1 (gP s.1 700) (sE s.1) φ D) D σ)
theorem m_find {N : Nat} {σc σm : St} {φ : Nat → Nat} {T : Nat} (hP : PX (σc, σm) φ T) {σ : St} (hI : ∀ k, k ≠ 0 → gI σ k = gI σm k) (hR : ∀ j, j ≠ 43 → gA σ j = gA σm j) (h43 : ∀ m, m < 42 → gA σ 43 m = 0) : Par (m_reckons N σ) (fun _ σ' => MRr (σc, σm) φ σ') := by
  obtain ⟨hO, h18, hT1, hT2, h39, h8, hE⟩ := hP
  have hO : PO σc σm (gP σc 700) (sE σc) φ := hO
  have h39 : gI σc 701 = gI σm 39 := h39
  have h18 : gI σm 18 = nI (φ (sE σc)) := h18
  have ha := hO.1.2.2.2.1
  rcases hE with e | ⟨e1, e2, e3⟩
  · have e : gI σc 701 = -1 := e
    refine g_65 ha ((hI 18 (by decide)).trans h18) (fun σ1 f1 f2 f3 f4 f5 => ?_)
    unfold m_reckons_65
    rw [f1 39, hI 39 (by decide), ← h39, e, if_pos rfl]
    have core : ∀ f, Par (m_reckons_82 N f (sI σ1 45 0)) (fun _ σ' => σ' = sI σ1 45 0) := fun f => by
      cases f with
      | zero => intro r σ' e; cases e
      | succ f =>
        show Par (m_reckons_82_b N (m_reckons_82 N f) (sI σ1 45 0)) _
        unfold m_reckons_82_b
        rw [if_pos gI_eq]
        exact par_some rfl
    refine (core N).mono (fun _ σ' z => ?_)
    subst z
    refine ⟨fun m hm => ?_, fun t ht => ?_, fun j hj => (f2 j (by omega) (by omega)).trans (hR j (by omega)), fun k hk h0 => (gI_ne (by omega)).trans ((f1 k).trans (hI k h0)), fun _ => ⟨f4, f5, f3⟩, fun h => absurd e h⟩
    · have z : gA σ1 42 m = 0 := f4 m hm
      show gA σ1 42 m = nI (gA σ1 42 m).toNatClampNeg ∧ (gA σ1 42 m).toNatClampNeg < 4
      rw [z]
      exact ⟨rfl, by decide⟩
    · have z : gA σ1 44 t = 0 := f5 t ht
      show gA σ1 44 t = nI (gA σ1 44 t).toNatClampNeg ∧ (gA σ1 44 t).toNatClampNeg < 4
      rw [z]
      exact ⟨rfl, by decide⟩
  · have hne : ¬ gI σc 701 = -1 := by
      rw [show gI σc 701 = nI (lE σc) from e1]
      exact nI_nm1 (by have := (rd_ok hO e2).1; exact Nat.lt_of_lt_of_le this (by decide))
    refine (par_all (fun D => g_facts (D := D) (U := UU σc (gP σc 700) (sE σc) φ D) uu_or hO ha h18 (pa_of hO) e2 (h39.symm.trans e1) (fun j hj => (h8 j hj).2.2) (fun j hj => (h8 j hj).2.1) hI hR h43)).mono (fun _ σ' z => ?_)
    have z0 := z (DT (Rd (gP σc 700) σc σm))
    obtain ⟨⟨k1, k2, k3, k4, k5⟩, k6⟩ := z0
    have hsol : So (σc, σm) (Dm σc σm (gP σc 700) (sE σc) φ σ') := sol_d hO e2 (fun m hm => (k2.1 m hm).2) (k4 k6)
    have hJ : ∀ D, So (σc, σm) D → Jr (φ (sE σc)) (UU σc (gP σc 700) (sE σc) φ D) D σ' := fun D hD => (z D).1.2.2.1 (cl_sol hO e2 hD)
    refine ⟨k2.1, k2.2.2.1, k1.1, k1.2, fun h => absurd h hne, fun _ => ⟨fun m b hm hb => ⟨fun h D hD => (hJ D hD).2.1 m b hm hb h, fun h => (h _ hsol).2.2⟩, fun t b ht hb => ⟨fun h D hD => (hJ D hD).2.2 t b ht hb h, fun h => ?_⟩, hsol, hJ⟩⟩
    · rcases h _ hsol with ⟨-, -, z⟩ | ⟨z, -⟩
      · exact z
      · omega
