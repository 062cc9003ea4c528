/-! the class's FACTS: its state, and the small steps -/
def cmk (σ : St) (m : Nat) : Nat := (gA σ 12 m).toNatClampNeg
def cus (σ : St) (u : Nat) : Nat := (gA σ 13 u).toNatClampNeg
def cts (σ : St) (t : Nat) : Nat := (gA σ 14 t).toNatClampNeg
def crd (σ : St) : Nat := (gI σ 910).toNatClampNeg
def vN (σ : St) : Nat := (gI σ 911).toNatClampNeg
/-- what is found so far -/
def Dc (σ : St) : FD := (fun p n b => p < 304 ∧ gB (gZ σ 10 p) n b, fun p => p < 304 ∧ ¬ gZ σ 10 p = 0, fun m b => m < 42 ∧ b < 2 ∧ (cmk σ m).testBit b = true, fun l => l < 8 ∧ (crd σ).testBit l = true, fun t b => b < 2 ∧ ((t < 24 ∧ (cts σ t).testBit b = true) ∨ (100 ≤ t ∧ t < 140 ∧ (cus σ (t - 100)).testBit b = true)))
def fbt (σ : St) (j : Nat) : Bool := if j < 15808 then lb (gZ σ 10 (j / 52)) (j % 52) else if j < 15892 then (cmk σ ((j - 15808) / 2)).testBit ((j - 15808) % 2) else (crd σ).testBit (j - 15892)
def mu (σ : St) : Nat := cnb (fbt σ) 15900
def CV (σc0 : St) (G : Nat) (σ : St) : Prop := Kc σc0 σ ∧ gP σ 906 = G ∧ gP σ 907 = G + 1 ∧ gL σ 912 = 0
def nf4 (f : Nat → Int32) (k : Nat) : Prop := ∀ i, i < k → f i = nI (f i).toNatClampNeg ∧ (f i).toNatClampNeg < 4
def CW (σ : St) : Prop := nf4 (gA σ 12) 42 ∧ nf4 (gA σ 13) 40 ∧ nf4 (gA σ 14) 24 ∧ (gI σ 910 = nI (crd σ) ∧ crd σ < 256) ∧ (gI σ 911 = nI (vN σ) ∧ 1 ≤ vN σ ∧ vN σ ≤ 1 + mu σ) ∧ (∀ p, p < 304 → ∃ w, gA σ 11 p = nI w ∧ w ≤ vN σ) ∧ ∀ p, p < 304 → gZ σ 10 p = 0 ∨ WX (gZ σ 10 p)
/-- growing -/
def Cg (σ σ' : St) : Prop := FL (Dc σ) (Dc σ') ∧ (∀ j, j < 15900 → fbt σ j = true → fbt σ' j = true) ∧ (gI σ' 909 = 0 → gI σ 909 = 0 ∧ gZ σ' 10 = gZ σ 10 ∧ gA σ' 12 = gA σ 12 ∧ gA σ' 11 = gA σ 11 ∧ gI σ' 910 = gI σ 910 ∧ gI σ' 911 = gI σ 911) ∧ (gI σ 909 = 0 → ¬ gI σ' 909 = 0 → mu σ < mu σ') ∧ vN σ ≤ vN σ' ∧ (vN σ' = vN σ → gA σ' 12 = gA σ 12) ∧ ∀ p, p < 304 → (gZ σ' 10 p = gZ σ 10 p ∧ gA σ' 11 p = gA σ 11 p) ∨ gA σ' 11 p = 0
theorem cp_r (σ : St) : Cg σ σ := ⟨fl_r _, fun _ _ h => h, fun e => ⟨e, rfl, rfl, rfl, rfl, rfl⟩, fun e h => absurd e h, Nat.le_refl _, fun _ => rfl, fun _ _ => Or.inl ⟨rfl, rfl⟩⟩
theorem mu_m {σ σ' : St} (h : ∀ j, j < 15900 → fbt σ j = true → fbt σ' j = true) : mu σ ≤ mu σ' := (cnb_m 15900 h).1
theorem cp_t {σ σ1 σ2 : St} (h : Cg σ σ1) (k : Cg σ1 σ2) : Cg σ σ2 := by
  obtain ⟨a1, a2, a3, a4, a5, a6, a7⟩ := h
  obtain ⟨b1, b2, b3, b4, b5, b6, b7⟩ := k
  refine ⟨fl_t a1 b1, fun j hj h => b2 j hj (a2 j hj h), fun e => ?_, fun e1 e2 => ?_, Nat.le_trans a5 b5, fun e => ?_, fun p hp => ?_⟩
  · obtain ⟨x1, x2, x3, x4, x5, x6⟩ := b3 e
    obtain ⟨y1, y2, y3, y4, y5, y6⟩ := a3 x1
    exact ⟨y1, x2.trans y2, x3.trans y3, x4.trans y4, x5.trans y5, x6.trans y6⟩
  · by_cases c : gI σ1 909 = 0
    · exact Nat.lt_of_le_of_lt (mu_m a2) (b4 c e2)
    · exact Nat.lt_of_lt_of_le (a4 e1 c) (mu_m b2)
  · have e1 : vN σ1 = vN σ := by omega
    have e2 : vN σ2 = vN σ1 := by omega
    exact (b6 e2).trans (a6 e1)
  · rcases b7 p hp with ⟨x1, x2⟩ | x
    · rcases a7 p hp with ⟨y1, y2⟩ | y
      · exact Or.inl ⟨x1.trans y1, x2.trans y2⟩
      · exact Or.inr (x2.trans y)
    · exact Or.inr x
def OC (σc0 : St) (G : Nat) (σ σ' : St) : Prop := CV σc0 G σ' ∧ CW σ' ∧ Cg σ σ'
/-- a THING somewhere: both fields' marks are something -/
def nz (σ : St) : Prop := ¬ cmk σ 40 = 0 ∧ ¬ cmk σ 41 = 0
def TH (σ : St) : Prop := ((∃ p n, (Dc σ).1 p n 1) ∨ ∃ m, (Dc σ).2.2.1 m 1) → nz σ
theorem tb_nz {v b : Nat} (h : v.testBit b = true) : ¬ v = 0 := fun e => by
  rw [e, Nat.zero_testBit] at h
  exact absurd h (by decide)
theorem nz_m {σ σ' : St} (hW : CW σ) (h : Cg σ σ') (hz : nz σ) : nz σ' := by
  have : ∀ m, m < 42 → ¬ cmk σ m = 0 → ¬ cmk σ' m = 0 := fun m hm hne => by
    obtain ⟨b, b1, b2⟩ := tb_ex (hW.1 m hm).2 hne
    exact tb_nz (h.1.2.2.1 m b ⟨hm, b1, b2⟩).2.2
  exact ⟨this 40 (by decide) hz.1, this 41 (by decide) hz.2⟩
theorem fb_1 {σ : St} {q i : Nat} (hq : q < 304) (hi : i < 52) : fbt σ (52 * q + i) = lb (gZ σ 10 q) i := by
  unfold fbt
  rw [if_pos (by omega), show (52 * q + i) / 52 = q by omega, show (52 * q + i) % 52 = i by omega]
theorem fb_2 {σ : St} {m b : Nat} (hm : m < 42) (hb : b < 2) : fbt σ (15808 + 2 * m + b) = (cmk σ m).testBit b := by
  unfold fbt
  rw [if_neg (by omega), if_pos (by omega), show (15808 + 2 * m + b - 15808) / 2 = m by omega, show (15808 + 2 * m + b - 15808) % 2 = b by omega]
theorem fb_3 {σ : St} {l : Nat} : fbt σ (15892 + l) = (crd σ).testBit l := by
  unfold fbt
  rw [if_neg (by omega), if_neg (by omega), show 15892 + l - 15892 = l by omega]
theorem fb_m {σ σ' : St} (h1 : ∀ p i, p < 304 → lb (gZ σ 10 p) i = true → lb (gZ σ' 10 p) i = true) (h2 : ∀ m b, m < 42 → b < 2 → (cmk σ m).testBit b = true → (cmk σ' m).testBit b = true) (h3 : ∀ l, l < 8 → (crd σ).testBit l = true → (crd σ').testBit l = true) : ∀ j, j < 15900 → fbt σ j = true → fbt σ' j = true := by
  intro j hj h
  unfold fbt at h ⊢
  by_cases c1 : j < 15808
  · rw [if_pos c1] at h ⊢; exact h1 _ _ (by omega) h
  · rw [if_neg c1] at h ⊢
    by_cases c2 : j < 15892
    · rw [if_pos c2] at h ⊢; exact h2 _ _ (by omega) (by omega) h
    · rw [if_neg c2] at h ⊢; exact h3 _ (by omega) h
theorem fl_of {σ σ' : St} (h1 : ∀ p i, p < 304 → lb (gZ σ 10 p) i = true → lb (gZ σ' 10 p) i = true) (h2 : ∀ m b, m < 42 → b < 2 → (cmk σ m).testBit b = true → (cmk σ' m).testBit b = true) (h3 : ∀ l, l < 8 → (crd σ).testBit l = true → (crd σ').testBit l = true) (h4 : ∀ t b, t < 24 → b < 2 → (cts σ t).testBit b = true → (cts σ' t).testBit b = true) (h5 : ∀ t b, t < 40 → b < 2 → (cus σ t).testBit b = true → (cus σ' t).testBit b = true) : FL (Dc σ) (Dc σ') := by
  refine ⟨fun p n b h => ⟨h.1, h.2.1, h.2.2.1, h1 _ _ h.1 h.2.2.2⟩, fun p h => ⟨h.1, fun e => h.2 ?_⟩, fun m b h => ⟨h.1, h.2.1, h2 m b h.1 h.2.1 h.2.2⟩, fun l h => ⟨h.1, h3 l h.1 h.2⟩, fun t b h => ⟨h.1, ?_⟩⟩
  · apply lb_ext
    intro i _
    rw [lb_0]
    cases e2 : lb (gZ σ 10 p) i
    · rfl
    · have := h1 p i h.1 e2
      rw [e, lb_0] at this
      exact absurd this (by decide)
  · rcases h.2 with ⟨x, y⟩ | ⟨x, y, z⟩
    · exact Or.inl ⟨x, h4 t b x h.1 y⟩
    · exact Or.inr ⟨x, y, h5 (t - 100) b (by omega) h.1 z⟩
theorem or_b : ∀ a, a < 4 → ∀ v, v < 4 → ∀ b, b < 2 → ((a ||| v).testBit b = true ↔ (a.testBit b = true ∨ v.testBit b = true)) := by decide
theorem or_ne : ∀ a, a < 4 → ∀ v, v < 4 → ¬ nI a ||| nI v = nI a → ∃ b, b < 2 ∧ v.testBit b = true ∧ a.testBit b = false := by decide +kernel
theorem nf4_s {f : Nat → Int32} {k m v : Nat} (h : nf4 f k) (hv : v < 4) : nf4 (upd f m (nI v)) k := fun i hi => by
  by_cases e : i = m
  · rw [e, pk_us, nI_clamp (by omega)]; exact ⟨rfl, hv⟩
  · rw [pk_un e]; exact h i hi
/-- a mark is raised -/
def QR (σc0 : St) (G m v : Nat) (σ σ' : St) : Prop := OC σc0 G σ σ' ∧ (∀ D, FL (Dc σ) D → PD D m v → FL (Dc σ') D) ∧ PD (Dc σ') m v ∧ gL σ' 913 = gL σ 913 ∧ gZ σ' 10 = gZ σ 10 ∧ (∀ m', cmk σ' m' = if m' = m then cmk σ m ||| v else cmk σ m')
theorem c_raise {N G m v : Nat} {σc0 σ : St} (hV : CV σc0 G σ) (hW : CW σ) (hm : m < 42) (hv : v < 4) : Par (x1_raise N σ (nI m) (nI v)) (fun _ σ' => QR σc0 G m v σ σ') := by
  obtain ⟨w1, w2, w3, w4, ⟨w5, w5a, w5b⟩, w6, w7⟩ := id hW
  obtain ⟨x1, x2⟩ := w1 m hm
  have x1 : gA σ 12 m = nI (cmk σ m) := x1
  have x2 : cmk σ m < 4 := x2
  obtain ⟨o1, o2, -⟩ := v_or (cmk σ m) x2 v hv
  have hmu : mu σ ≤ 15900 := cnb_le _ _
  unfold x1_raise x1_raise_20
  rw [hV.2.2.2, held0 (by omega), if_pos (lgc.mpr rfl)]
  refine par_bd (c_at (show m < 42 from hm)) (fun r σ1 z => ?_)
  obtain ⟨z1, z2⟩ := z
  rw [z1, z2, x1]
  refine par_if (fun e => par_some ?_) (fun e => par_bd (c_put (show m < 42 from hm)) (fun _ σ2 y => par_some ?_))
  · have o5 := (v_or (cmk σ m) x2 v hv).2.2.2.2.mp e
    refine ⟨⟨hV, hW, cp_r σ⟩, fun D h _ => h, fun b hb hvb => ⟨hm, hb, ?_⟩, rfl, rfl, fun m' => ?_⟩
    · rcases (show b = 0 ∨ b = 1 by omega) with e2 | e2
      · subst e2; exact o5.1 hvb
      · subst e2; exact o5.2 hvb
    · by_cases e2 : m' = m
      · rw [if_pos e2, e2]
        rw [o1] at e
        exact ((nI_eq (by omega) (by omega)).mp e).symm
      · rw [if_neg e2]
  · obtain ⟨b0, c1, c2, c3⟩ := or_ne _ x2 v hv e
    rw [o1] at y
    subst y
    rw [show gI (sA σ 12 m (nI (cmk σ m ||| v))) 911 = nI (vN σ) from w5, nI_1]
    have e12 : gA (sI (sI (sA σ 12 m (nI (cmk σ m ||| v))) 911 (nI (vN σ + 1))) 909 1) 12 = upd (gA σ 12) m (nI (cmk σ m ||| v)) := by
      show gA (sA σ 12 m (nI (cmk σ m ||| v))) 12 = _
      rw [gA_sA, if_pos rfl]
    have ej : ∀ j, j ≠ 12 → gA (sI (sI (sA σ 12 m (nI (cmk σ m ||| v))) 911 (nI (vN σ + 1))) 909 1) j = gA σ j := fun j hj => by
      show gA (sA σ 12 m (nI (cmk σ m ||| v))) j = _
      rw [gA_sA, if_neg hj]
    have eI : ∀ k, k ≠ 909 → k ≠ 911 → gI (sI (sI (sA σ 12 m (nI (cmk σ m ||| v))) 911 (nI (vN σ + 1))) 909 1) k = gI σ k := fun k h1 h2 => by
      rw [gI_ne (fun e => h1 e.symm), gI_ne (fun e => h2 e.symm)]
      rfl
    have e911 : gI (sI (sI (sA σ 12 m (nI (cmk σ m ||| v))) 911 (nI (vN σ + 1))) 909 1) 911 = nI (vN σ + 1) := by
      rw [gI_ne (by decide), gI_eq]
    generalize hS : sI (sI (sA σ 12 m (nI (cmk σ m ||| v))) 911 (nI (vN σ + 1))) 909 1 = σ' at *
    have hZ : gZ σ' 10 = gZ σ 10 := by rw [← hS]; rfl
    have hL : gL σ' 913 = gL σ 913 := by rw [← hS]; rfl
    have hL2 : gL σ' 912 = gL σ 912 := by rw [← hS]; rfl
    have hP : ∀ k, gP σ' k = gP σ k := fun k => by rw [← hS]; rfl
    have hK : Kc σc0 σ' := by rw [← hS]; exact kc_I (kc_I (kc_A hV.1 (by decide)) (by decide)) (by decide)
    have e909 : gI σ' 909 = 1 := by rw [← hS]; exact gI_eq
    have em : ∀ m', cmk σ' m' = if m' = m then cmk σ m ||| v else cmk σ m' := fun m' => by
      unfold cmk
      rw [e12]
      by_cases e2 : m' = m
      · rw [if_pos e2, e2, pk_us, nI_clamp (show cmk σ m ||| v < 2 ^ 31 by omega)]; rfl
      · rw [if_neg e2, pk_un e2]
    have er : crd σ' = crd σ := by unfold crd; rw [eI 910 (by decide) (by decide)]
    have et : ∀ t, cts σ' t = cts σ t := fun t => by unfold cts; rw [ej 14 (by decide)]
    have eu : ∀ t, cus σ' t = cus σ t := fun t => by unfold cus; rw [ej 13 (by decide)]
    have ev : vN σ' = vN σ + 1 := by
      show (gI σ' 911).toNatClampNeg = _
      rw [e911, nI_clamp (by omega)]
    have hmono : ∀ m' b, m' < 42 → b < 2 → (cmk σ m').testBit b = true → (cmk σ' m').testBit b = true := fun m' b h1 h2 h3 => by
      rw [em]
      by_cases e2 : m' = m
      · rw [if_pos e2, or_b _ x2 v hv b h2]
        rw [e2] at h3
        exact Or.inl h3
      · rw [if_neg e2]; exact h3
    have hfb := fb_m (σ := σ) (σ' := σ') (fun p i _ h => by rw [hZ]; exact h) hmono (fun l _ h => by rw [er]; exact h)
    have hmu2 : mu σ < mu σ' := (cnb_m 15900 hfb).2 ⟨15808 + 2 * m + b0, by omega, by rw [fb_2 hm c1]; exact c3, by rw [fb_2 hm c1, em, if_pos rfl, or_b _ x2 v hv b0 c1]; exact Or.inr c2⟩
    refine ⟨⟨⟨hK, (hP 906).trans hV.2.1, (hP 907).trans hV.2.2.1, hL2.trans hV.2.2.2⟩, ⟨by rw [e12]; exact nf4_s w1 o2, by rw [ej 13 (by decide)]; exact w2, by rw [ej 14 (by decide)]; exact w3, by rw [er, eI 910 (by decide) (by decide)]; exact w4, ⟨by rw [ev]; exact e911, by omega, by omega⟩, fun p hp => ?_, fun p hp => by rw [hZ]; exact w7 p hp⟩, ⟨fl_of (fun p i _ h => by rw [hZ]; exact h) hmono (fun l _ h => by rw [er]; exact h) (fun t b _ _ h => by rw [et]; exact h) (fun t b _ _ h => by rw [eu]; exact h), hfb, fun e2 => absurd (e909.symm.trans e2) (by decide), fun _ _ => hmu2, by omega, fun e2 => absurd e2 (by omega), fun p _ => Or.inl ⟨by rw [hZ], by rw [ej 11 (by decide)]⟩⟩⟩, fun D hD hP => ⟨fun p n b h => hD.1 p n b (by rw [show (Dc σ').1 p n b = (Dc σ).1 p n b from by unfold Dc; rw [hZ]] at h; exact h), fun p h => hD.2.1 p (by rw [show (Dc σ').2.1 p = (Dc σ).2.1 p from by unfold Dc; rw [hZ]] at h; exact h), fun m' b h => ?_, fun l h => hD.2.2.2.1 l ⟨h.1, by rw [← er]; exact h.2⟩, fun t b h => hD.2.2.2.2 t b ⟨h.1, by rw [← et, ← eu]; exact h.2⟩⟩, fun b hb hvb => ⟨hm, hb, by rw [em, if_pos rfl, or_b _ x2 v hv b hb]; exact Or.inr hvb⟩, hL, hZ, em⟩
    · obtain ⟨w, y1, y2⟩ := w6 p hp
      exact ⟨w, by rw [ej 11 (by decide)]; exact y1, by omega⟩
    · obtain ⟨h1, h2, h3⟩ := h
      rw [em] at h3
      by_cases e2 : m' = m
      · rw [if_pos e2, or_b _ x2 v hv b h2] at h3
        rw [e2]
        rcases h3 with h3 | h3
        · exact hD.2.2.1 m b ⟨hm, h2, h3⟩
        · exact hP b h2 h3
      · rw [if_neg e2] at h3
        exact hD.2.2.1 m' b ⟨h1, h2, h3⟩
theorem th_raise {σc0 σ σ' : St} {G m v : Nat} (hW : CW σ) (hv : v < 4) (hm : m < 42) (h : QR σc0 G m v σ σ') (hT : TH σ) (hn : v.testBit 1 = true → nz σ') : TH σ' := by
  obtain ⟨⟨q1, q2, q3⟩, q4, q5, q6, q7, q8⟩ := h
  rintro (⟨p, n, z⟩ | ⟨m', z⟩)
  · exact nz_m hW q3 (hT (Or.inl ⟨p, n, by rw [show (Dc σ').1 p n 1 = (Dc σ).1 p n 1 from by unfold Dc; rw [q7]] at z; exact z⟩))
  · obtain ⟨z1, z2, z3⟩ := z
    rw [q8] at z3
    by_cases e : m' = m
    · rw [if_pos e, or_b (cmk σ m) (hW.1 m hm).2 v hv 1 (by decide)] at z3
      rcases z3 with z3 | z3
      · exact nz_m hW q3 (hT (Or.inr ⟨m, hm, by decide, z3⟩))
      · exact hn z3
    · rw [if_neg e] at z3
      exact nz_m hW q3 (hT (Or.inr ⟨m', z1, by decide, z3⟩))
