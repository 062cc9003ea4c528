/-! the class's FACTS: notes of uses and tests, and routines reached -/
theorem nI_tb {u : Nat} (h : u < 2 ^ 32) {n : Nat} (hn : n < 2 ^ 31) (e : nI u = nI n) : u = n := by
  have := congrArg (fun x : Int32 => x.toBitVec.toNat) e
  have h2 : (nI u).toBitVec.toNat = (nI n).toBitVec.toNat := this
  rw [tb_n, tb_n, BitVec.toNat_ofNat, BitVec.toNat_ofNat, Nat.mod_eq_of_lt h, Nat.mod_eq_of_lt (by omega)] at h2
  exact h2
theorem qs_r {σc0 σ : St} {G : Nat} (hV : CV σc0 G σ) (hW : CW σ) : QS σc0 G σ σ := ⟨⟨hV, hW, cp_r σ⟩, rfl, rfl, rfl, rfl⟩
theorem c_note {N G u v : Nat} {σc0 σ : St} (hV : CV σc0 G σ) (hW : CW σ) (hu : u < 2 ^ 32) (hv : v < 4) : Par (x1_noteUse N σ (nI u) (nI v)) (fun _ σ' => QS σc0 G σ σ' ∧ (∀ D, FL (Dc σ) D → (u < 40 → ∀ b, b < 2 → v.testBit b = true → D.2.2.2.2 (100 + u) b) → FL (Dc σ') D) ∧ (u < 40 → ∀ b, b < 2 → v.testBit b = true → (Dc σ').2.2.2.2 (100 + u) b)) := by
  unfold x1_noteUse
  by_cases c : u < 40
  · refine par_bd (c_at (show u < 40 from c)) (fun r σ1 z => ?_)
    obtain ⟨z1, z2⟩ := z
    obtain ⟨x1, x2⟩ := hW.2.1 u c
    rw [z1, z2, x1, (v_or _ x2 v hv).1]
    refine par_bd (c_put (show u < 40 from c)) (fun _ σ2 y => par_some ?_)
    subst y
    obtain ⟨q1, q2, q3⟩ := oc_put (j := 13) (k := 40) hV hW (Or.inl ⟨rfl, rfl⟩) c hv
    exact ⟨q1, fun D hD hC => q2 D hD (fun b hb h => by rw [if_pos rfl]; exact hC c b hb h), fun _ b hb h => by have := q3 b hb h; rw [if_pos rfl] at this; exact this⟩
  · refine par_bd x_at_id (fun r σ1 z => ?_)
    rw [z]
    have hput : ∀ y, Par (x5_put N σ 13 (nI u) y) (fun _ σ' => σ' = σ) := fun y => by
      unfold x5_put
      refine par_if (fun _ => par_some rfl) (fun e1 => par_gd (fun _ => par_if (fun _ => par_some rfl) (fun e2 => ?_)))
      obtain ⟨n, n1, n2⟩ := nI_of e1
      rw [n2] at e2
      have : n < 40 := Classical.byContradiction (fun e => e2 (nI_le (a := 40) (by omega) (by omega)))
      have := nI_tb hu n1 n2
      omega
    exact par_bd (hput _) (fun _ σ2 y => par_some (by rw [y]; exact ⟨qs_r hV hW, fun D hD _ => hD, fun e => absurd e c⟩))
theorem c_test {N G t v : Nat} {σc0 σ : St} {ρ : Type} {K : Unit → St → Option (ρ × St)} {Q : ρ → St → Prop} {w : Int32} (hV : CV σc0 G σ) (hW : CW σ) (ht : t < 24) (hv : v < 4) (hw : w = nI v) (hk : ∀ σ', QS σc0 G σ σ' → (∀ D, FL (Dc σ) D → (∀ b, b < 2 → v.testBit b = true → D.2.2.2.2 t b) → FL (Dc σ') D) → (∀ b, b < 2 → v.testBit b = true → (Dc σ').2.2.2.2 t b) → Par (K () σ') Q) : Par (bd (x5_at N σ 14 (nI t)) (fun r10 σ11 => bd (x5_put N σ11 14 (nI t) (r10 ||| w)) K)) Q := by
  refine par_bd (c_at (show t < 24 from ht)) (fun r σ1 z => ?_)
  obtain ⟨z1, z2⟩ := z
  obtain ⟨x1, x2⟩ := hW.2.2.1 t ht
  rw [z1, z2, x1, hw, (v_or _ x2 v hv).1]
  refine par_bd (c_put (show t < 24 from ht)) (fun _ σ2 y => ?_)
  subst y
  obtain ⟨q1, q2, q3⟩ := oc_put (j := 14) (k := 24) hV hW (Or.inr ⟨rfl, rfl⟩) ht hv
  exact hk _ q1 (fun D hD hC => q2 D hD (fun b hb h => by rw [if_neg (by decide)]; exact hC b hb h)) (fun b hb h => by have := q3 b hb h; rw [if_neg (by decide)] at this; exact this)
theorem rb0 : ∀ r, r < 256 → ∀ l, l < 8 → ((nI r >>> (nI l &&& 31)) &&& 1 = 0 ↔ r.testBit l = false) := by decide +kernel
theorem rb1 : ∀ r, r < 256 → ∀ l, l < 8 → (nI r ||| ((1 : Int32) <<< (nI l &&& 31)) = nI (r ||| 2 ^ l) ∧ r ||| 2 ^ l < 256) := by decide +kernel
/-- a routine is reached -/
theorem c_reach {G l : Nat} {σc0 σ : St} (hV : CV σc0 G σ) (hW : CW σ) (hl : l < 8) (h0 : (crd σ).testBit l = false) : OC σc0 G σ (sI (sI σ 910 (nI (crd σ ||| 2 ^ l))) 909 1) ∧ (∀ D, FL (Dc σ) D → D.2.2.2.1 l → FL (Dc (sI (sI σ 910 (nI (crd σ ||| 2 ^ l))) 909 1)) D) ∧ (Dc (sI (sI σ 910 (nI (crd σ ||| 2 ^ l))) 909 1)).2.2.2.1 l := by
  obtain ⟨w1, w2, w3, w4, w5, w6, w7⟩ := id hW
  have hb := (rb1 (crd σ) w4.2 l hl).2
  have er : crd (sI (sI σ 910 (nI (crd σ ||| 2 ^ l))) 909 1) = crd σ ||| 2 ^ l := by
    show (gI (sI (sI σ 910 (nI (crd σ ||| 2 ^ l))) 909 1) 910).toNatClampNeg = _
    rw [gI_ne (by decide), gI_eq, nI_clamp (by omega)]
  have eb : ∀ i, (crd σ ||| 2 ^ l).testBit i = ((crd σ).testBit i || decide (l = i)) := fun i => by rw [Nat.testBit_or, Nat.testBit_two_pow]
  have hmono : ∀ i, i < 8 → (crd σ).testBit i = true → (crd (sI (sI σ 910 (nI (crd σ ||| 2 ^ l))) 909 1)).testBit i = true := fun i _ h => by rw [er, eb, h, Bool.true_or]
  have ev : vN (sI (sI σ 910 (nI (crd σ ||| 2 ^ l))) 909 1) = vN σ := by
    unfold vN
    rw [gI_ne (by decide), gI_ne (by decide)]
  have hfb := fb_m (σ := σ) (σ' := sI (sI σ 910 (nI (crd σ ||| 2 ^ l))) 909 1) (fun _ _ _ h => h) (fun _ _ _ _ h => h) hmono
  have hmu : mu σ < mu (sI (sI σ 910 (nI (crd σ ||| 2 ^ l))) 909 1) := (cnb_m 15900 hfb).2 ⟨15892 + l, by omega, by rw [fb_3]; exact h0, by rw [fb_3, er, eb, decide_eq_true rfl, Bool.or_true]⟩
  refine ⟨⟨⟨kc_I (kc_I hV.1 (by decide)) (by decide), hV.2.1, hV.2.2.1, hV.2.2.2⟩, ⟨w1, w2, w3, ⟨by rw [er, gI_ne (by decide), gI_eq], by rw [er]; exact hb⟩, ⟨by rw [ev, gI_ne (by decide), gI_ne (by decide)]; exact w5.1, by rw [ev]; exact w5.2.1, by rw [ev]; have := w5.2.2; omega⟩, fun p hp => by rw [ev]; exact w6 p hp, w7⟩, ⟨fl_of (fun _ _ _ h => h) (fun _ _ _ _ h => h) hmono (fun _ _ _ _ h => h) (fun _ _ _ _ h => h), hfb, fun e => absurd (show (1 : Int32) = 0 from gI_eq.symm.trans e) (by decide), fun _ _ => hmu, by omega, fun _ => rfl, fun _ _ => Or.inl ⟨rfl, rfl⟩⟩⟩, fun D hD hl2 => ⟨hD.1, hD.2.1, hD.2.2.1, fun i h => ?_, hD.2.2.2.2⟩, ⟨hl, by rw [er, eb, decide_eq_true rfl, Bool.or_true]⟩⟩
  obtain ⟨h1, h2⟩ := h
  rw [er, eb] at h2
  rcases Bool.or_eq_true _ _ ▸ h2 with h2 | h2
  · exact hD.2.2.2.1 i ⟨h1, h2⟩
  · rw [← of_decide_eq_true h2]; exact hl2
