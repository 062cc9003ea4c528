/-! the class's FACTS: ways join, uses and tests are noted, a routine is reached -/
def QJ (σc0 : St) (G q : Nat) (y : Int64) (σ σ' : St) : Prop := OC σc0 G σ σ' ∧ (∀ D, FL (Dc σ) D → jn D q (gB y) → FL (Dc σ') D) ∧ jn (Dc σ') q (gB y) ∧ gL σ' 913 = gL σ 913 ∧ gA σ' 12 = gA σ 12 ∧ (∀ p, p < 304 → p ≠ q → gZ σ' 10 p = gZ σ 10 p) ∧ gZ σ' 10 q = gZ σ 10 q ||| y ∧ gI σ' 911 = gI σ 911
theorem c_join {N G q : Nat} {y : Int64} {σc0 σ : St} (hV : CV σc0 G σ) (hW : CW σ) (hq : q < 304) (hy : WX y) : Par (x1_join N σ (nI q) y) (fun _ σ' => QJ σc0 G q y σ σ') := by
  obtain ⟨w1, w2, w3, w4, ⟨w5, w5a, w5b⟩, w6, w7⟩ := id hW
  unfold x1_join
  rw [nI_clamp (n := q) (by omega)]
  refine par_if (fun z => absurd z (nI_nlt (b := 0) (Nat.zero_le _) (by omega))) (fun _ => par_if (fun z => absurd ((nI_leI (a := 304) (by decide) (by omega)).mp z) (by omega)) (fun _ => par_gd (fun _ => par_gd (fun _ => par_if (fun z => par_some ?_) (fun z => par_gd (fun _ => par_gd (fun _ => par_bd (c_put (show q < 304 from hq)) (fun _ σ2 e => par_some ?_))))))))
  · have z := lgc.mp z
    refine ⟨⟨hV, hW, cp_r σ⟩, fun D h _ => h, ⟨⟨hq, fun e => ?_⟩, fun n b hn hb h => ⟨hq, hn, hb, lor_sub z h.2.2⟩⟩, rfl, rfl, fun _ _ _ => rfl, z.symm, rfl⟩
    rw [e] at z
    exact wx_ne hy (lor_0 z).2
  · have hne : ¬ gZ σ 10 q ||| y = gZ σ 10 q := fun e2 => z (lgc.mpr e2)
    obtain ⟨i0, i1, i2, i3⟩ := or_sub hne
    have i4 : i0 < 52 := Classical.byContradiction (fun c => by rw [hy.1 i0 (by omega)] at i2; exact absurd i2 (by decide))
    subst e
    have eZ : ∀ p, gZ (sI (sA (sZ σ 10 q (gZ σ 10 q ||| y)) 11 q 0) 909 1) 10 p = if p = q then gZ σ 10 q ||| y else gZ σ 10 p := fun p => by
      show (if 10 = 10 then vp_updL (gZ σ 10) q (gZ σ 10 q ||| y) else gZ σ 10) p = _
      rw [if_pos rfl]
      by_cases e : p = q
      · rw [e, pk_uLs, if_pos rfl]
      · rw [pk_uLn e, if_neg e]
    have e11 : gA (sI (sA (sZ σ 10 q (gZ σ 10 q ||| y)) 11 q 0) 909 1) 11 = upd (gA σ 11) q 0 := by
      show gA (sA (sZ σ 10 q (gZ σ 10 q ||| y)) 11 q 0) 11 = _
      rw [gA_sA, if_pos rfl]
      rfl
    have ej : ∀ j, j ≠ 11 → gA (sI (sA (sZ σ 10 q (gZ σ 10 q ||| y)) 11 q 0) 909 1) j = gA σ j := fun j hj => by
      show gA (sA (sZ σ 10 q (gZ σ 10 q ||| y)) 11 q 0) j = _
      rw [gA_sA, if_neg hj]
      rfl
    have eI : ∀ k, k ≠ 909 → gI (sI (sA (sZ σ 10 q (gZ σ 10 q ||| y)) 11 q 0) 909 1) k = gI σ k := fun k h1 => by
      rw [gI_ne (fun e => h1 e.symm)]
      rfl
    generalize hS : sI (sA (sZ σ 10 q (gZ σ 10 q ||| y)) 11 q 0) 909 1 = σ' at *
    have hL : gL σ' 913 = gL σ 913 := by rw [← hS]; rfl
    have hL2 : gL σ' 912 = gL σ 912 := by rw [← hS]; rfl
    have hP : ∀ k, gP σ' k = gP σ k := fun k => by rw [← hS]; rfl
    have hK : Kc σc0 σ' := by rw [← hS]; exact kc_I (kc_A (kc_Z hV.1) (by decide)) (by decide)
    have e909 : gI σ' 909 = 1 := by rw [← hS]; exact gI_eq
    have em : ∀ m, cmk σ' m = cmk σ m := fun m => by unfold cmk; rw [ej 12 (by decide)]
    have er : crd σ' = crd σ := by unfold crd; rw [eI 910 (by decide)]
    have et : ∀ t, cts σ' t = cts σ t := fun t => by unfold cts; rw [ej 14 (by decide)]
    have eu : ∀ t, cus σ' t = cus σ t := fun t => by unfold cus; rw [ej 13 (by decide)]
    have ev : vN σ' = vN σ := by unfold vN; rw [eI 911 (by decide)]
    have hmono : ∀ p i, p < 304 → lb (gZ σ 10 p) i = true → lb (gZ σ' 10 p) i = true := fun p i _ h => by
      rw [eZ]
      by_cases e : p = q
      · rw [if_pos e, lb_or]
        rw [e] at h
        rw [h, Bool.true_or]
      · rw [if_neg e]; exact h
    have hfb := fb_m (σ := σ) (σ' := σ') hmono (fun m b _ _ h => by rw [em]; exact h) (fun l _ h => by rw [er]; exact h)
    have hmu2 : mu σ < mu σ' := (cnb_m 15900 hfb).2 ⟨52 * q + i0, by omega, by rw [fb_1 hq i4]; exact i3, by rw [fb_1 hq i4, eZ, if_pos rfl, lb_or, i2, Bool.or_true]⟩
    have hmle : mu σ ≤ mu σ' := Nat.le_of_lt hmu2
    refine ⟨⟨⟨hK, (hP 906).trans hV.2.1, (hP 907).trans hV.2.2.1, hL2.trans hV.2.2.2⟩, ⟨by rw [ej 12 (by decide)]; exact w1, by rw [ej 13 (by decide)]; exact w2, by rw [ej 14 (by decide)]; exact w3, by rw [er, eI 910 (by decide)]; exact w4, ⟨by rw [ev, eI 911 (by decide)]; exact w5, by omega, by omega⟩, fun p hp => ?_, fun p hp => ?_⟩, ⟨fl_of hmono (fun m b _ _ h => by rw [em]; exact h) (fun l _ h => by rw [er]; exact h) (fun t b _ _ h => by rw [et]; exact h) (fun t b _ _ h => by rw [eu]; exact h), hfb, fun e2 => absurd (e909.symm.trans e2) (by decide), fun _ _ => hmu2, by omega, fun _ => ej 12 (by decide), fun p _ => ?_⟩⟩, fun D hD hJ => ⟨fun p n b h => ?_, fun p h => ?_, fun m b h => hD.2.2.1 m b ⟨h.1, h.2.1, by rw [← em]; exact h.2.2⟩, fun l h => hD.2.2.2.1 l ⟨h.1, by rw [← er]; exact h.2⟩, fun t b h => hD.2.2.2.2 t b ⟨h.1, by rw [← et, ← eu]; exact h.2⟩⟩, ⟨⟨hq, fun e => ?_⟩, fun n b hn hb h => ⟨hq, hn, hb, by rw [eZ, if_pos rfl, lb_or, h.2.2, Bool.or_true]⟩⟩, hL, ej 12 (by decide), fun p _ hp => by rw [eZ, if_neg hp], by rw [eZ, if_pos rfl], eI 911 (by decide)⟩
    · by_cases e : p = q
      · exact ⟨0, by rw [e11, e, pk_us]; rfl, by omega⟩
      · obtain ⟨w, y1, y2⟩ := w6 p hp
        exact ⟨w, by rw [e11, pk_un e]; exact y1, by omega⟩
    · rw [eZ]
      by_cases e : p = q
      · rw [if_pos e]; exact Or.inr (wx_or (w7 q hq) hy)
      · rw [if_neg e]; exact w7 p hp
    · by_cases e : p = q
      · exact Or.inr (by rw [e11, e, pk_us])
      · exact Or.inl ⟨by rw [eZ, if_neg e], by rw [e11, pk_un e]⟩
    · obtain ⟨h1, h2, h3, h4⟩ := h
      rw [eZ] at h4
      by_cases e : p = q
      · rw [if_pos e, lb_or] at h4
        rw [e]
        rcases Bool.or_eq_true _ _ ▸ h4 with h4 | h4
        · exact hD.1 q n b ⟨hq, h2, h3, h4⟩
        · exact hJ.2 n b h2 h3 ⟨h2, h3, h4⟩
      · rw [if_neg e] at h4
        exact hD.1 p n b ⟨h1, h2, h3, h4⟩
    · by_cases e : p = q
      · rw [e]; exact hJ.1
      · refine hD.2.1 p ⟨h.1, ?_⟩
        have := h.2
        rw [eZ, if_neg e] at this
        exact this
    · rw [eZ, if_pos rfl] at e
      exact wx_ne hy (lor_0 e).2
theorem c_join0 {N : Nat} {σ : St} {x : Int32} : Par (x1_join N σ x 0) (fun _ σ' => σ' = σ) := by
  unfold x1_join
  refine par_if (fun _ => par_some rfl) (fun _ => par_if (fun _ => par_some rfl) (fun _ => par_gd (fun _ => par_gd (fun _ => par_if (fun _ => par_some rfl) (fun z => absurd (lgc.mpr or_0r) z)))))
theorem th_join {σc0 σ σ' : St} {G q : Nat} {y : Int64} (hW : CW σ) (h : QJ σc0 G q y σ σ') (hT : TH σ) (hn : (∃ n, gB y n 1) → nz σ) : TH σ' := by
  obtain ⟨⟨q1, q2, q3⟩, q4, q5, q6, q7, q8, q9, -⟩ := h
  rintro (⟨p, n, z⟩ | ⟨m, z⟩)
  · obtain ⟨z1, z2, z3, z4⟩ := z
    by_cases e : p = q
    · rw [e, q9, lb_or] at z4
      rcases Bool.or_eq_true _ _ ▸ z4 with z4 | z4
      · exact nz_m hW q3 (hT (Or.inl ⟨p, n, z1, z2, z3, by rw [e]; exact z4⟩))
      · exact nz_m hW q3 (hn ⟨n, z2, z3, z4⟩)
    · rw [q8 p z1 e] at z4
      exact nz_m hW q3 (hT (Or.inl ⟨p, n, z1, z2, z3, z4⟩))
  · refine nz_m hW q3 (hT (Or.inr ⟨m, ?_⟩))
    rw [show (Dc σ').2.2.1 m 1 = (Dc σ).2.2.1 m 1 from by unfold Dc cmk; rw [q7]] at z
    exact z
/-- a step that leaves ways, marks and routines -/
def QS (σc0 : St) (G : Nat) (σ σ' : St) : Prop := OC σc0 G σ σ' ∧ gL σ' 913 = gL σ 913 ∧ gA σ' 12 = gA σ 12 ∧ gZ σ' 10 = gZ σ 10 ∧ gI σ' 911 = gI σ 911
theorem th_qs {σc0 σ σ' : St} {G : Nat} (hW : CW σ) (h : QS σc0 G σ σ') (hT : TH σ) : TH σ' := by
  obtain ⟨⟨q1, q2, q3⟩, q4, q5, q6, -⟩ := h
  rintro (⟨p, n, z⟩ | ⟨m, z⟩)
  · refine nz_m hW q3 (hT (Or.inl ⟨p, n, ?_⟩))
    rw [show (Dc σ').1 p n 1 = (Dc σ).1 p n 1 from by unfold Dc; rw [q6]] at z
    exact z
  · refine nz_m hW q3 (hT (Or.inr ⟨m, ?_⟩))
    rw [show (Dc σ').2.2.1 m 1 = (Dc σ).2.2.1 m 1 from by unfold Dc cmk; rw [q5]] at z
    exact z
/-- a number is put into the rows of tests or uses -/
theorem oc_put {G j k i v : Nat} {σc0 σ : St} (hV : CV σc0 G σ) (hW : CW σ) (hj : (j = 13 ∧ k = 40) ∨ (j = 14 ∧ k = 24)) (hi : i < k) (hv : v < 4) : QS σc0 G σ (sA σ j i (nI ((gA σ j i).toNatClampNeg ||| v))) ∧ (∀ D, FL (Dc σ) D → (∀ b, b < 2 → v.testBit b = true → D.2.2.2.2 (if j = 13 then 100 + i else i) b) → FL (Dc (sA σ j i (nI ((gA σ j i).toNatClampNeg ||| v)))) D) ∧ (∀ b, b < 2 → v.testBit b = true → (Dc (sA σ j i (nI ((gA σ j i).toNatClampNeg ||| v)))).2.2.2.2 (if j = 13 then 100 + i else i) b) := by
  obtain ⟨w1, w2, w3, w4, w5, w6, w7⟩ := id hW
  have xj : nf4 (gA σ j) k := by
    rcases hj with ⟨e1, e2⟩ | ⟨e1, e2⟩ <;> rw [e1, e2]
    · exact w2
    · exact w3
  obtain ⟨x1, x2⟩ := xj i hi
  have o2 := (v_or _ x2 v hv).2.1
  have ej : ∀ q, gA (sA σ j i (nI ((gA σ j i).toNatClampNeg ||| v))) q = if q = j then upd (gA σ j) i (nI ((gA σ j i).toNatClampNeg ||| v)) else gA σ q := fun q => gA_sA
  have hK : Kc σc0 (sA σ j i (nI ((gA σ j i).toNatClampNeg ||| v))) := kc_A hV.1 (by rcases hj with ⟨e1, -⟩ | ⟨e1, -⟩ <;> rw [e1] <;> decide)
  have e11 : gA (sA σ j i (nI ((gA σ j i).toNatClampNeg ||| v))) 11 = gA σ 11 := by rw [ej, if_neg (by omega)]
  have e12 : gA (sA σ j i (nI ((gA σ j i).toNatClampNeg ||| v))) 12 = gA σ 12 := by rw [ej, if_neg (by omega)]
  generalize hS : sA σ j i (nI ((gA σ j i).toNatClampNeg ||| v)) = σ' at *
  have hZ : gZ σ' 10 = gZ σ 10 := by rw [← hS]; rfl
  have hI : ∀ q, gI σ' q = gI σ q := fun q => by rw [← hS]; rfl
  have hL : ∀ q, gL σ' q = gL σ q := fun q => by rw [← hS]; rfl
  have hP : ∀ q, gP σ' q = gP σ q := fun q => by rw [← hS]; rfl
  have em : ∀ m, cmk σ' m = cmk σ m := fun m => by unfold cmk; rw [e12]
  have er : crd σ' = crd σ := by unfold crd; rw [hI]
  have ev : vN σ' = vN σ := by unfold vN; rw [hI]
  have hrow : ∀ q i', (gA σ' q i').toNatClampNeg = if q = j ∧ i' = i then (gA σ j i).toNatClampNeg ||| v else (gA σ q i').toNatClampNeg := fun q i' => by
    rw [ej]
    by_cases c : q = j
    · rw [if_pos c]
      by_cases c2 : i' = i
      · rw [if_pos ⟨c, c2⟩, c2, pk_us, nI_clamp (by omega)]
      · rw [if_neg (fun e => c2 e.2), pk_un c2, c]
    · rw [if_neg c, if_neg (fun e => c e.1)]
  have hfbe : fbt σ' = fbt σ := by
    funext q
    unfold fbt
    rw [hZ, em, er]
  have hmu : mu σ' = mu σ := by unfold mu; rw [hfbe]
  have hmono : ∀ q i' b, b < 2 → (gA σ q i').toNatClampNeg.testBit b = true → (gA σ' q i').toNatClampNeg.testBit b = true := fun q i' b hb h => by
    rw [hrow]
    by_cases c : q = j ∧ i' = i
    · rw [if_pos c, or_b _ x2 v hv b hb]
      rw [c.1, c.2] at h
      exact Or.inl h
    · rw [if_neg c]; exact h
  refine ⟨⟨⟨⟨hK, (hP 906).trans hV.2.1, (hP 907).trans hV.2.2.1, (hL 912).trans hV.2.2.2⟩, ⟨by rw [e12]; exact w1, ?_, ?_, by rw [er, hI]; exact w4, ⟨by rw [ev, hI]; exact w5.1, by rw [ev]; exact w5.2.1, by rw [ev, hmu]; exact w5.2.2⟩, fun p hp => by rw [e11, ev]; exact w6 p hp, fun p hp => by rw [hZ]; exact w7 p hp⟩, ⟨fl_of (fun p i _ h => by rw [hZ]; exact h) (fun m b _ _ h => by rw [em]; exact h) (fun l _ h => by rw [er]; exact h) (fun t b _ hb h => hmono 14 t b hb h) (fun t b _ hb h => hmono 13 t b hb h), fun q _ h => by rw [hfbe]; exact h, fun e => ⟨by rw [← hI]; exact e, hZ, e12, e11, hI _, hI _⟩, fun e1 e2 => absurd ((hI 909).trans e1) e2, by omega, fun _ => e12, fun p _ => Or.inl ⟨by rw [hZ], by rw [e11]⟩⟩⟩, hL 913, e12, hZ, hI 911⟩, fun D hD hC => ⟨fun p n b h => hD.1 p n b (by rw [show (Dc σ').1 p n b = (Dc σ).1 p n b from by unfold Dc; rw [hZ]] at h; exact h), fun p h => hD.2.1 p (by rw [show (Dc σ').2.1 p = (Dc σ).2.1 p from by unfold Dc; rw [hZ]] at h; exact h), fun m b h => hD.2.2.1 m b ⟨h.1, h.2.1, by rw [← em]; exact h.2.2⟩, fun l h => hD.2.2.2.1 l ⟨h.1, by rw [← er]; exact h.2⟩, fun t b h => ?_⟩, fun b hb hvb => ?_⟩
  · rw [ej]
    by_cases c : 13 = j
    · rw [if_pos c]
      refine nf4_s ?_ o2
      rw [← c]; exact w2
    · rw [if_neg c]; exact w2
  · rw [ej]
    by_cases c : 14 = j
    · rw [if_pos c]
      refine nf4_s ?_ o2
      rw [← c]; exact w3
    · rw [if_neg c]; exact w3
  · obtain ⟨hb, h⟩ := h
    rcases h with ⟨h1, h2⟩ | ⟨h1, h2, h3⟩
    · have h2 : (gA σ' 14 t).toNatClampNeg.testBit b = true := h2
      rw [hrow] at h2
      by_cases c : 14 = j ∧ t = i
      · rw [if_pos c, or_b _ x2 v hv b hb] at h2
        rcases h2 with h2 | h2
        · exact hD.2.2.2.2 t b ⟨hb, Or.inl ⟨h1, by rw [← c.1, ← c.2] at h2; exact h2⟩⟩
        · have := hC b hb h2
          rw [if_neg (by omega), ← c.2] at this
          exact this
      · rw [if_neg c] at h2
        exact hD.2.2.2.2 t b ⟨hb, Or.inl ⟨h1, h2⟩⟩
    · have h3 : (gA σ' 13 (t - 100)).toNatClampNeg.testBit b = true := h3
      rw [hrow] at h3
      by_cases c : 13 = j ∧ t - 100 = i
      · rw [if_pos c, or_b _ x2 v hv b hb] at h3
        rcases h3 with h3 | h3
        · exact hD.2.2.2.2 t b ⟨hb, Or.inr ⟨h1, h2, by rw [← c.1, ← c.2] at h3; exact h3⟩⟩
        · have := hC b hb h3
          rw [if_pos c.1.symm, ← c.2, show 100 + (t - 100) = t by omega] at this
          exact this
      · rw [if_neg c] at h3
        exact hD.2.2.2.2 t b ⟨hb, Or.inr ⟨h1, h2, h3⟩⟩
  · refine ⟨hb, ?_⟩
    have hx : (gA σ' j i).toNatClampNeg.testBit b = true := by
      rw [hrow, if_pos ⟨rfl, rfl⟩, or_b _ x2 v hv b hb]
      exact Or.inr hvb
    rcases hj with ⟨e1, e2⟩ | ⟨e1, e2⟩
    · subst e1
      rw [if_pos rfl]
      exact Or.inr ⟨by omega, by omega, by rw [show 100 + i - 100 = i by omega]; exact hx⟩
    · subst e1
      rw [if_neg (by decide)]
      exact Or.inl ⟨by omega, hx⟩
