/-! the class's FACTS: a round over the rows, and all rounds -/
def rS (σc0 : St) (G : Nat) (R : RD) (σ : St) (p : Nat) : Prop := rwS R (Dc σ) (Dc σ).2.2.1 (gB (gZ σ 10 p)) (dn σc0 G p) p
/-- a row that was seen at this version asks for nothing more -/
def SC (σc0 : St) (G s : Nat) (R : RD) (σ : St) : Prop := ∀ p, p < s → ¬ gZ σ 10 p = 0 → gA σ 11 p = gI σ 911 → rS σc0 G R σ p
/-- what stands all along -/
def IV (σc0 : St) (G s : Nat) (R : RD) (l : Nat) (tv : Nat → Nat) (D : FD) (C : Prop) (σ : St) : Prop := CV σc0 G σ ∧ CW σ ∧ TH σ ∧ FL (Dc σ) (DT R) ∧ (C → FL (Dc σ) D) ∧ SC σc0 G s R σ ∧ enS R (Dc σ) l tv
/-- since the round began -/
def Ro (σr σ : St) : Prop := (∀ j, j < 15900 → fbt σr j = true → fbt σ j = true) ∧ (gI σr 909 = 0 → ¬ gI σ 909 = 0 → mu σr < mu σ)
theorem ro_c {σr σ σ' : St} (h : Ro σr σ) (k : Cg σ σ') : Ro σr σ' := by
  refine ⟨fun j hj z => k.2.1 j hj (h.1 j hj z), fun e1 e2 => ?_⟩
  by_cases c : gI σ 909 = 0
  · exact Nat.lt_of_le_of_lt (mu_m h.1) (k.2.2.2.1 c e2)
  · exact Nat.lt_of_lt_of_le (h.2 e1 c) (mu_m k.2.1)
theorem enS_m {R : RD} {D D' : FD} {l : Nat} {tv : Nat → Nat} (h : FL D D') (k : enS R D l tv) : enS R D' l tv := ⟨h.2.2.2.1 _ k.1, fun j hj => ⟨fun b hb z => h.2.2.1 _ _ ((k.2 j hj).1 b hb z), fun z => ⟨h.2.2.1 _ _ ((k.2 j hj).2 z).1, h.2.2.1 _ _ ((k.2 j hj).2 z).2⟩⟩⟩
/-- if a row is seen at this version behind a step, it was so ahead of it, and the marks are the same -/
theorem sc_back {σc0 σ σ' : St} {G p : Nat} (hW : CW σ) (h : OC σc0 G σ σ') (hp : p < 304) (he : gA σ' 11 p = gI σ' 911) : gZ σ' 10 p = gZ σ 10 p ∧ gA σ 11 p = gI σ 911 ∧ vN σ' = vN σ ∧ gA σ' 12 = gA σ 12 := by
  obtain ⟨k1, k2, k3⟩ := h
  obtain ⟨v1, v2, v3⟩ := k2.2.2.2.2.1
  obtain ⟨u1, u2, u3⟩ := hW.2.2.2.2.1
  have hm1 : mu σ ≤ 15900 := cnb_le _ _
  have hm2 : mu σ' ≤ 15900 := cnb_le _ _
  rcases k3.2.2.2.2.2.2 p hp with ⟨x1, x2⟩ | x
  · obtain ⟨w, w1, w2⟩ := hW.2.2.2.2.2.1 p hp
    have e : w = vN σ' := by
      rw [x2, w1, v1] at he
      exact (nI_eq (by omega) (by omega)).mp he
    have hle := k3.2.2.2.2.1
    have e2 : vN σ' = vN σ := by omega
    refine ⟨x1, ?_, e2, k3.2.2.2.2.2.1 e2⟩
    rw [w1, u1, e, e2]
  · rw [x, v1] at he
    have := (nI_eq (a := 0) (by decide) (by omega)).mp he
    omega
theorem cw_p {σ : St} {p : Nat} (hp : p < 304) (hW : CW σ) : CW (sA σ 11 p (gI σ 911)) := by
  obtain ⟨w1, w2, w3, w4, w5, w6, w7⟩ := hW
  have ej : ∀ j, j ≠ 11 → gA (sA σ 11 p (gI σ 911)) j = gA σ j := fun j hj => by rw [gA_sA, if_neg hj]
  refine ⟨by rw [ej 12 (by decide)]; exact w1, by rw [ej 13 (by decide)]; exact w2, by rw [ej 14 (by decide)]; exact w3, w4, w5, fun q hq => ?_, w7⟩
  rw [gA_sA, if_pos rfl]
  by_cases e : q = p
  · exact ⟨vN σ, by rw [e, pk_us]; exact w5.1, Nat.le_refl _⟩
  · rw [pk_un e]; exact w6 q hq
theorem dc_p {σ : St} {p : Nat} {v : Int32} : Dc (sA σ 11 p v) = Dc σ := rfl
theorem c_pass {N : Nat} {σc0 σm0 : St} {G s l : Nat} {φ tv : Nat → Nat} {D : FD} {C : Prop} {rec : St → Int32 → Option (Unit × St)} {x3 : Int32} {Q : Unit → St → Prop} {σr : St} (hO : PO σc0 σm0 G s φ) (hF : ∀ p, p < s → RF (Rd G σc0 σm0) (dn σc0 G p) s p) (hC : C → ∀ p, p < s → D.2.1 p → rwS (Rd G σc0 σm0) D D.2.2.1 (D.1 p) (dn σc0 G p) p) (hrec : ∀ σ', IV σc0 G s (Rd G σc0 σm0) l tv D C σ' → Ro σr σ' → (gI σ' 909 = 0 → (∀ l, l < 8 → opS (Rd G σc0 σm0) (Dc σ') l) ∧ ∀ p, p < s → ¬ gZ σ' 10 p = 0 → rS σc0 G (Rd G σc0 σm0) σ' p) → Par (rec σ' (x3 + 1)) Q) : ∀ (f p : Nat) (σ : St), p ≤ s → IV σc0 G s (Rd G σc0 σm0) l tv D C σ → Ro σr σ → (gI σ 909 = 0 → (∀ l, l < 8 → opS (Rd G σc0 σm0) (Dc σ) l) ∧ ∀ q, q < p → ¬ gZ σ 10 q = 0 → gA σ 11 q = gI σ 911) → Par (x1_settle_63 N rec f σ x3 (nI p)) Q := by
  have hs := hO.1.2.2.1
  have hg := pr_or hO.1.1
  intro f
  induction f with
  | zero => intro p σ _ _ _ _ r σ' e; cases e
  | succ f ih =>
    intro p σ hp hI hRo hE
    obtain ⟨i1, i2, i3, i4, i5, i6, i7⟩ := id hI
    show Par (x1_settle_63_b N rec (x1_settle_63 N rec f) σ x3 (nI p)) Q
    unfold x1_settle_63_b x1_settle_145 x1_settle_139
    rw [cfd hO i1, gd_t, i1.2.2.1, i1.1.1 _ (by omega), hO.1.2.1, nI_clamp (n := p) (by omega), nI_1]
    have fin : p = s → Par (rec σ (x3 + 1)) Q := fun e => hrec σ hI hRo (fun e0 => ⟨(hE e0).1, fun q hq hne => i6 q hq hne ((hE e0).2 q (by omega) hne)⟩)
    refine par_if (fun z => fin (by have := (nI_leI (by omega) (by omega)).mp z; omega)) (fun z => ?_)
    have z2 : p < s := Classical.byContradiction (fun y => z (nI_le (by omega) (by omega)))
    refine par_if (fun y => absurd ((nI_leI (a := 304) (by decide) (by omega)).mp y) (by omega)) (fun _ => par_gd (fun _ => par_if (fun y => ?_) (fun y => ?_)))
    · have y0 := lgc.mp y
      refine ih (p + 1) σ (by omega) hI hRo (fun e0 => ⟨(hE e0).1, fun q hq hne => ?_⟩)
      rcases (show q = p ∨ q < p by omega) with e | e
      · rw [e] at hne; exact absurd y0 hne
      · exact (hE e0).2 q e hne
    · have y0 : ¬ gZ σ 10 p = 0 := fun e => y (lgc.mpr e)
      refine par_bd (c_at (show p < 304 by omega)) (fun r σ1 w => ?_)
      obtain ⟨w1, w2⟩ := w
      rw [w1, w2]
      refine par_if (fun v => ?_) (fun v => ?_)
      · refine ih (p + 1) σ (by omega) hI hRo (fun e0 => ⟨(hE e0).1, fun q hq hne => ?_⟩)
        rcases (show q = p ∨ q < p by omega) with e | e
        · rw [e]; exact v
        · exact (hE e0).2 q e hne
      · refine par_bd (c_put (show p < 304 by omega)) (fun _ σ2 e2 => par_gd (fun _ => ?_))
        have hx : WX (gZ σ 10 p) := (i2.2.2.2.2.2.2 p (by omega)).resolve_left y0
        subst e2
        have hV2 : CV σc0 G (sA σ 11 p (gI σ 911)) := ⟨kc_A i1.1 (by decide), i1.2.1, i1.2.2.1, i1.2.2.2⟩
        have hW2 : CW (sA σ 11 p (gI σ 911)) := cw_p (by omega) i2
        have hT2 : TH (sA σ 11 p (gI σ 911)) := i3
        have ep : gA (sA σ 11 p (gI σ 911)) 11 p = gI σ 911 := by rw [gA_sA, if_pos rfl, pk_us]
        have eq : ∀ q, q ≠ p → gA (sA σ 11 p (gI σ 911)) 11 q = gA σ 11 q := fun q hq => by rw [gA_sA, if_pos rfl, pk_un hq]
        refine par_bd (c_adv (x := gZ σ 10 p) hO hV2 hW2 z2 hx hT2 (fun ⟨n, h⟩ => i3 (Or.inl ⟨p, n, by omega, h⟩)) (hF p z2)) (fun _ σ3 q => ?_)
        obtain ⟨q1, q2, q3, q4⟩ := q
        have hfl : FL (Dc σ) (Dc σ3) := q1.2.2.1
        refine ih (p + 1) σ3 (by omega) ⟨q1.1, q1.2.1, q2, q3 _ i4 (rwS_T (hF p z2)), fun c => q3 D (i5 c) ?_, fun k hk hne he => ?_, enS_m hfl i7⟩ (ro_c (σ := sA σ 11 p (gI σ 911)) ⟨hRo.1, hRo.2⟩ q1.2.2) (fun e0 => ?_)
        · have hD := i5 c
          exact rwS_m (fl_r D) (fun _ _ h => h) (fun n b h => hD.1 p n b ⟨by omega, h⟩) (hC c p z2 (hD.2.1 p ⟨by omega, y0⟩))
        · obtain ⟨b1, b2, b3, b4⟩ := sc_back hW2 q1 (by omega) he
          have b1 : gZ σ3 10 k = gZ σ 10 k := b1
          unfold rS
          rw [b1]
          by_cases e : k = p
          · rw [e]
            exact q4 b3
          · rw [eq k e] at b2
            have old := i6 k hk (by rw [← b1]; exact hne) b2
            have e12 : (Dc σ3).2.2.1 = (Dc σ).2.2.1 := dc_mk b4
            exact rwS_m hfl (fun m b h => by rw [e12] at h; exact h) (fun _ _ h => h) old
        · obtain ⟨c1, c2, c3, c4, c5, c6⟩ := q1.2.2.2.2.1 e0
          have c1 : gI σ 909 = 0 := c1
          refine ⟨fun l hl => op_same (σ := sA σ 11 p (gI σ 911)) q1.2.2 e0 ((hE c1).1 l hl), fun k hk hne => ?_⟩
          rw [c4, c6]
          by_cases e : k = p
          · rw [e]; exact ep
          · rw [eq k e]
            rw [c2] at hne
            exact (hE c1).2 k (by omega) hne
/-- all rounds -/
theorem c_rounds {N : Nat} {σc0 σm0 : St} {G s l : Nat} {φ tv : Nat → Nat} {D : FD} {C : Prop} (hO : PO σc0 σm0 G s φ) (hF : ∀ p, p < s → RF (Rd G σc0 σm0) (dn σc0 G p) s p) (hC1 : C → ∀ r, (Rd G σc0 σm0).1 r → opS (Rd G σc0 σm0) D r) (hC2 : C → ∀ p, p < s → D.2.1 p → rwS (Rd G σc0 σm0) D D.2.2.1 (D.1 p) (dn σc0 G p) p) : ∀ (f k : Nat) (σ : St), k ≤ 15902 → IV σc0 G s (Rd G σc0 σm0) l tv D C σ → (gI σ 909 = 0 → (∀ l, l < 8 → opS (Rd G σc0 σm0) (Dc σ) l) ∧ ∀ p, p < s → ¬ gZ σ 10 p = 0 → rS σc0 G (Rd G σc0 σm0) σ p) → (¬ gI σ 909 = 0 → k ≤ mu σ) → Par (x1_settle_37 N f σ (nI k)) (fun _ σ' => ∃ σ1, σ' = sI σ1 908 0 ∧ IV σc0 G s (Rd G σc0 σm0) l tv D C σ1 ∧ (∀ l, l < 8 → opS (Rd G σc0 σm0) (Dc σ1) l) ∧ ∀ p, p < s → ¬ gZ σ1 10 p = 0 → rS σc0 G (Rd G σc0 σm0) σ1 p) := by
  intro f
  induction f with
  | zero => intro k σ _ _ _ _ r σ' e; cases e
  | succ f ih =>
    intro k σ hk hI h0 h1
    have hmu : mu σ ≤ 15900 := cnb_le _ _
    show Par (x1_settle_37_b N (x1_settle_37 N f) σ (nI k)) _
    unfold x1_settle_37_b
    refine par_if (fun z => ?_) (fun z => par_if (fun y => par_some ⟨σ, rfl, hI, h0 y⟩) (fun y => ?_))
    · have := (nI_leI (a := 15902) (by decide) (by omega)).mp z
      by_cases c : gI σ 909 = 0
      · exact par_some ⟨σ, rfl, hI, h0 c⟩
      · have := h1 c
        omega
    · have z2 : k < 15902 := Classical.byContradiction (fun y => z (nI_le (a := 15902) (by omega) (by omega)))
      have hk2 := h1 y
      obtain ⟨i1, i2, i3, i4, i5, i6, i7⟩ := id hI
      have hV0 : CV σc0 G (sI σ 909 0) := ⟨kc_I i1.1 (by decide), i1.2.1, i1.2.2.1, i1.2.2.2⟩
      have e911 : gI (sI σ 909 0) 911 = gI σ 911 := gI_ne (by decide)
      have e910 : gI (sI σ 909 0) 910 = gI σ 910 := gI_ne (by decide)
      have er : crd (sI σ 909 0) = crd σ := by unfold crd; rw [e910]
      have ev : vN (sI σ 909 0) = vN σ := by unfold vN; rw [e911]
      have ef : fbt (sI σ 909 0) = fbt σ := by
        funext j
        unfold fbt
        rw [er]
        rfl
      have em : mu (sI σ 909 0) = mu σ := by unfold mu; rw [ef]
      have eD : Dc (sI σ 909 0) = Dc σ := by
        unfold Dc
        rw [er]
        rfl
      have hW0 : CW (sI σ 909 0) := ⟨i2.1, i2.2.1, i2.2.2.1, by rw [er, e910]; exact i2.2.2.2.1, ⟨by rw [ev, e911]; exact i2.2.2.2.2.1.1, by rw [ev]; exact i2.2.2.2.2.1.2.1, by rw [ev, em]; exact i2.2.2.2.2.1.2.2⟩, fun p hp => by rw [ev]; exact i2.2.2.2.2.2.1 p hp, i2.2.2.2.2.2.2⟩
      have hT0 : TH (sI σ 909 0) := by
        unfold TH
        rw [eD]
        exact i3
      unfold x1_openRoutines
      refine par_bd (c_open (σ0 := sI σ 909 0) (D := D) (C := C) hO hC1 N 0 _ (by decide) (oc_r hV0 hW0) hT0 (by rw [eD]; exact i4) (by rw [eD]; exact i5) (fun _ l hl => absurd hl (Nat.not_lt_zero l))) (fun _ σ6 q => ?_)
      obtain ⟨q1, q2, q3, q4, q5⟩ := q
      have hfl : FL (Dc σ) (Dc σ6) := by have := q1.2.2.1; rw [eD] at this; exact this
      have hIV : IV σc0 G s (Rd G σc0 σm0) l tv D C σ6 := by
        refine ⟨q1.1, q1.2.1, q2, q3, q4, fun p hp hne he => ?_, enS_m hfl i7⟩
        have hs := hO.1.2.2.1
        obtain ⟨b1, b2, b3, b4⟩ := sc_back hW0 q1 (show p < 304 by omega) he
        have b1 : gZ σ6 10 p = gZ σ 10 p := b1
        have b2 : gA σ 11 p = gI σ 911 := by rw [← e911]; exact b2
        have old := i6 p hp (by rw [← b1]; exact hne) b2
        have e12 : (Dc σ6).2.2.1 = (Dc σ).2.2.1 := dc_mk b4
        unfold rS
        rw [b1]
        exact rwS_m hfl (fun m b h => by rw [e12] at h; exact h) (fun _ _ h => h) old
      refine c_pass (σr := sI σ 909 0) hO hF hC2 (fun σ' j1 j2 j3 => ?_) N 0 σ6 (Nat.zero_le _) hIV ⟨q1.2.2.2.1, q1.2.2.2.2.2.1⟩ (fun e0 => ⟨q5 e0, fun q hq => absurd hq (Nat.not_lt_zero q)⟩)
      rw [nI_1]
      refine ih (k + 1) σ' (by omega) j1 j3 (fun hne => ?_)
      have := j2.2 gI_eq hne
      rw [em] at this
      omega
