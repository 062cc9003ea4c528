/-! the program, for FACTS: routines, and the numbers of rows -/
def Rd (G : Nat) (σc0 σm0 : St) : RD := (fun r => r < 8 ∧ ¬ gA σm0 19 r = -1, fun r => (gA σc0 (G + 3) r).toNatClampNeg, fun r => if r < 8 then (gA σm0 20 r).toNatClampNeg else 0, fun r k => if r < 8 ∧ k < 4 then (gA σm0 21 (4 * r + k)).toNatClampNeg else 0)
def PO (σc0 σm0 : St) (G s : Nat) (φ : Nat → Nat) : Prop := RO σc0 σm0 G s φ ∧ ∃ T, BT G s T φ σc0 σm0 ∧ BW G s T σc0
theorem rd_ok {σc0 σm0 : St} {G s : Nat} {φ : Nat → Nat} (h : PO σc0 σm0 G s φ) {r : Nat} (hr : (Rd G σc0 σm0).1 r) : r < 8 ∧ (Rd G σc0 σm0).2.1 r < s ∧ (Rd G σc0 σm0).2.2.1 r ≤ 4 ∧ gA σm0 19 r = nI (φ ((Rd G σc0 σm0).2.1 r)) ∧ gA σm0 20 r = nI ((Rd G σc0 σm0).2.2.1 r) ∧ gA σc0 (G + 3) r = nI ((Rd G σc0 σm0).2.1 r) ∧ gA σc0 (G + 4) r = nI ((Rd G σc0 σm0).2.2.1 r) ∧ ∀ k, k < (Rd G σc0 σm0).2.2.1 r → gA σm0 21 (4 * r + k) = nI ((Rd G σc0 σm0).2.2.2 r k) ∧ (Rd G σc0 σm0).2.2.2 r k < 26 ∧ gA σc0 (G + 5) (4 * r + k) = nI ((Rd G σc0 σm0).2.2.2 r k) := by
  obtain ⟨hO, T, ⟨t1, t2, t3⟩, -⟩ := h
  obtain ⟨h8, h19⟩ := hr
  have hs := hO.2.2.1
  obtain ⟨m, p, q1, q2, q3, q4, q5, q6, q7⟩ := (t3 r h8).2 ((t3 r h8).1.mpr h19)
  have e1 : (Rd G σc0 σm0).2.1 r = p := by show (gA σc0 (G + 3) r).toNatClampNeg = p; rw [q5, nI_clamp (by omega)]
  have e2 : (Rd G σc0 σm0).2.2.1 r = m := by show (if r < 8 then (gA σm0 20 r).toNatClampNeg else 0) = m; rw [if_pos h8, q4, nI_clamp (by omega)]
  rw [e1, e2]
  refine ⟨h8, q2, q1, q6, q4, q5, q3, fun k hk => ?_⟩
  have hx : ∃ x, x ≤ 25 ∧ gA σm0 21 (4 * r + k) = nI x := by
    rcases hO.2.2.2.2.2.1.2.2.1 r h8 with e | ⟨-, -, -, e⟩
    · exact absurd e h19
    · obtain ⟨y1, y2⟩ := e k (by rw [q4, nI_t (by omega)]; omega)
      exact nI_upto y1 (n := 25) y2 (by decide)
  obtain ⟨x, x1, x2⟩ := hx
  have e3 : (Rd G σc0 σm0).2.2.2 r k = x := by show (if r < 8 ∧ k < 4 then (gA σm0 21 (4 * r + k)).toNatClampNeg else 0) = x; rw [if_pos ⟨h8, by omega⟩, x2, nI_clamp (by omega)]
  rw [e3, q7 k hk]
  exact ⟨x2, by omega, x2⟩
theorem dn_of {σ : St} {G p q x : Nat} (h : rwD G p σ q = nI x) (hx : x < 2 ^ 31) : dn σ G p q = x := by
  unfold dn
  rw [h, tb_n, BitVec.toNat_ofNat]
  exact Nat.mod_eq_of_lt (by omega)
theorem nI_dn {σ : St} {G p q : Nat} : nI (dn σ G p q) = rwD G p σ q := by
  unfold dn
  apply Int32.toBitVec_inj.mp
  rw [tb_n]
  exact BitVec.ofNat_toNat _ _ ▸ (by rw [BitVec.setWidth_eq])
/-- a value's act, in numbers -/
def VF6 (σc0 σm0 : St) (G : Nat) (φ : Nat → Nat) (p : Nat) : Prop := (dn σc0 G p 4 = 0 ∧ gA σm0 12 (φ p + 1) = 1) ∨ (dn σc0 G p 4 = 1 ∧ gA σm0 12 (φ p + 1) = 2) ∨ (dn σc0 G p 4 = 2 ∧ gA σm0 12 (φ p + 1) = 3 ∧ gA σm0 13 (φ p + 1) = nI (dn σc0 G p 5) ∧ dn σc0 G p 5 < 26 ∧ gA σm0 14 (φ p + 1) = nI (dn σc0 G p 6) ∧ dn σc0 G p 6 < 26) ∨ (dn σc0 G p 4 = 3 ∧ gA σm0 12 (φ p + 1) = 4 ∧ gA σm0 13 (φ p + 1) = nI (dn σc0 G p 5) ∧ dn σc0 G p 5 < 26) ∨ (dn σc0 G p 4 = 4 ∧ gA σm0 12 (φ p + 1) = 5 ∧ gA σm0 13 (φ p + 1) = nI (dn σc0 G p 5) ∧ dn σc0 G p 5 < 26 ∧ gA σm0 14 (φ p + 1) = nI (dn σc0 G p 6) ∧ dn σc0 G p 6 < 2) ∨ (dn σc0 G p 4 = 5 ∧ gA σm0 12 (φ p + 1) = 6 ∧ gA σm0 13 (φ p + 1) = nI (dn σc0 G p 6) ∧ (Rd G σc0 σm0).1 (dn σc0 G p 6) ∧ gA σm0 14 (φ p + 1) = nI ((Rd G σc0 σm0).2.2.1 (dn σc0 G p 6)) ∧ ∃ b, b < 2 ^ 20 ∧ gA σm0 16 (φ p + 1) = nI b ∧ rwD G p σc0 8 = nI ((Rd G σc0 σm0).2.2.1 (dn σc0 G p 6) * 2 ^ 20 + b) ∧ ∀ i, i < (Rd G σc0 σm0).2.2.1 (dn σc0 G p 6) → b / 2 ^ (5 * i) % 32 = agN (dn σc0 G p) i ∧ agN (dn σc0 G p) i < 26)
theorem vf6 {σc0 σm0 : St} {G s p : Nat} {φ : Nat → Nat} (h : PO σc0 σm0 G s φ) (hk : φ p + 1 < φ s) (hv : VR (rwD G p σc0) (acB φ p σm0 1)) : VF6 σc0 σm0 G φ p := by
  have hBV := h.1.2.2.2.2.2.1
  obtain ⟨a1, a2, a3, a4, a5, -⟩ := hBV.1 (φ p + 1) hk
  rcases hv with ⟨d4, e0⟩ | ⟨d4, e0⟩ | ⟨d4, e0, e1, e2⟩ | ⟨d4, e0, e1⟩ | ⟨d4, e0, e1, e2, e3⟩ | ⟨d4, e0, e1, k, b, hk4, hb, d8, e2, e4, h26⟩
  · exact Or.inl ⟨dn_of (x := 0) d4 (by decide), e0⟩
  · exact Or.inr (Or.inl ⟨dn_of (x := 1) d4 (by decide), e0⟩)
  · obtain ⟨k1, k2, k3⟩ := nI_upto (a2 (Or.inl e0)).1 (n := 25) (a2 (Or.inl e0)).2 (by decide)
    obtain ⟨j1, j2, j3⟩ := nI_upto (a3 e0).1 (n := 25) (a3 e0).2 (by decide)
    have f5 : dn σc0 G p 5 = k1 := dn_of (e1.symm.trans k3) (by omega)
    have f6 : dn σc0 G p 6 = j1 := dn_of (e2.symm.trans j3) (by omega)
    exact Or.inr (Or.inr (Or.inl ⟨dn_of (x := 2) d4 (by decide), e0, by rw [f5]; exact k3, by omega, by rw [f6]; exact j3, by omega⟩))
  · obtain ⟨k1, k2, k3⟩ := nI_upto (a2 (Or.inr (Or.inl e0))).1 (n := 25) (a2 (Or.inr (Or.inl e0))).2 (by decide)
    have f5 : dn σc0 G p 5 = k1 := dn_of (e1.symm.trans k3) (by omega)
    exact Or.inr (Or.inr (Or.inr (Or.inl ⟨dn_of (x := 3) d4 (by decide), e0, by rw [f5]; exact k3, by omega⟩)))
  · obtain ⟨k1, k2, k3⟩ := nI_upto (a2 (Or.inr (Or.inr (Or.inl e0)))).1 (n := 25) (a2 (Or.inr (Or.inr (Or.inl e0)))).2 (by decide)
    have f5 : dn σc0 G p 5 = k1 := dn_of (e1.symm.trans k3) (by omega)
    have f6 : ∃ x, x < 2 ∧ gA σm0 14 (φ p + 1) = nI x := by
      rcases a4 (Or.inl e0) with q | q
      · exact ⟨0, by decide, q⟩
      · exact ⟨1, by decide, q⟩
    obtain ⟨x, x1, x2⟩ := f6
    have f6 : dn σc0 G p 6 = x := dn_of (e2.symm.trans x2) (by omega)
    exact Or.inr (Or.inr (Or.inr (Or.inr (Or.inl ⟨dn_of (x := 4) d4 (by decide), e0, by rw [f5]; exact k3, by omega, by rw [f6]; exact x2, by omega⟩))))
  · obtain ⟨l, hl, b1, b2, b3⟩ := hBV.2.2.2 (φ p + 1) hk e0
    have f6 : dn σc0 G p 6 = l := dn_of (e1.symm.trans b1) (by omega)
    have hR : (Rd G σc0 σm0).1 l := ⟨by omega, b2⟩
    obtain ⟨r1, r2, r3, r4, r5, -⟩ := rd_ok h hR
    have ek : (Rd G σc0 σm0).2.2.1 l = k := (nI_eq (by omega) (by omega)).mp (r5.symm.trans (b3.trans e2))
    have f8 : dn σc0 G p 8 = k * 2 ^ 20 + b := dn_of d8 (by omega)
    refine Or.inr (Or.inr (Or.inr (Or.inr (Or.inr ⟨dn_of (x := 5) d4 (by decide), e0, by rw [f6]; exact b1, by rw [f6]; exact hR, by rw [f6, ek]; exact e2, b, hb, e4, by rw [f6, ek]; exact d8, fun i hi => ?_⟩))))
    rw [f6, ek] at hi
    unfold agN
    rw [f8, ar_eq hk4 hb hi]
    exact ⟨rfl, h26 i hi⟩
/-- the routine in which act phi p + i stands -/
theorem n_rat {N : Nat} {σ σc0 σm0 : St} {G s p k : Nat} {φ : Nat → Nat} (h : PO σc0 σm0 G s φ) (hq : Kq σm0 σ) (hp : p < s) (hk1 : φ p ≤ k) (hk2 : k < φ (p + 1)) : rwD G p σc0 11 = nI (dn σc0 G p 11) ∧ (Rd G σc0 σm0).1 (dn σc0 G p 11) ∧ Par (m_routineAt N σ (nI k)) (fun r σ' => σ' = σ ∧ r = nI (dn σc0 G p 11)) := by
  obtain ⟨hO, T, hBT, hBW⟩ := id h
  obtain ⟨l, o1, hl8, o3, o, o4, o5, o6⟩ := hBW p hp
  have hup := bc_up hO.2.2.2.2.1
  have hs := hO.2.2.1
  have ha := hO.2.2.2.1
  have hps := (hup s (Nat.le_refl _) (p + 1) (by omega)).1
  have e11 : dn σc0 G p 11 = l := dn_of o1 (by omega)
  have hRl : (Rd G σc0 σm0).1 l := ⟨hl8, (hBT.2.2 l hl8).1.mp o3⟩
  rw [e11]
  refine ⟨o1, hRl, ?_⟩
  -- a routine's first act against k, and against the owner's
  have hfr : ∀ r, (Rd G σc0 σm0).1 r → ∃ w, w < s ∧ gA σ 19 r = nI (φ w) ∧ (φ w ≤ k → φ w ≤ φ o ∧ (φ w = φ o → r = l)) := fun r hr => by
    obtain ⟨r1, r2, r3, r4, r5, r6, -⟩ := rd_ok h hr
    refine ⟨_, r2, by rw [hq.1 19 (by decide)]; exact r4, fun hle => ?_⟩
    have hw : (Rd G σc0 σm0).2.1 r ≤ p := by
      refine Classical.byContradiction (fun y => ?_)
      have := (hup s (Nat.le_refl _) ((Rd G σc0 σm0).2.1 r) (by omega)).1
      have := (hup _ (Nat.le_of_lt r2) (p + 1) (by omega)).1
      omega
    obtain ⟨y1, y2⟩ := o6 r r1 ((hBT.2.2 r r1).1.mpr hr.2) _ hw (by omega) r6
    refine ⟨(hup o (by omega) _ y1).1, fun e => y2 ?_⟩
    refine Classical.byContradiction (fun z => ?_)
    have := (hup o (by omega) _ y1).2.1 (by omega)
    omega
  obtain ⟨r1, r2, r3, r4, r5, r6, -⟩ := rd_ok h hRl
  have eo : (Rd G σc0 σm0).2.1 l = o := (nI_eq (by omega) (by omega)).mp (r6.symm.trans o4)
  rw [eo] at r4 r2
  have e19 : gA σ 19 l = nI (φ o) := by rw [hq.1 19 (by decide)]; exact r4
  have hok : φ o ≤ k := Nat.le_trans (hup p (by omega) o o5).1 hk1
  have hb : ∀ w, w < s → φ w < 2000 := fun w hw => by
    have := (hup s (Nat.le_refl _) w (by omega)).1
    omega
  have lp : ∀ (f j : Nat) (best : Int32), j ≤ 8 → ((best = nI l ∧ l < j) ∨ (j ≤ l ∧ (best = -1 ∨ ∃ b w, b < 8 ∧ w < s ∧ best = nI b ∧ gA σ 19 b = nI (φ w) ∧ φ w ≤ k ∧ φ w < φ o))) → Par (m_routineAt_4 N f σ (nI k) best (nI j)) (fun r σ' => σ' = σ ∧ r = nI l) := by
    intro f
    induction f with
    | zero => intro j best _ _ r σ' e; cases e
    | succ f ih =>
      intro j best hj hB
      show Par (m_routineAt_4_b N (m_routineAt_4 N f) σ (nI k) best (nI j)) _
      unfold m_routineAt_4_b m_routineAt_50 m_routineAt_52
      refine par_if (fun z => par_some ⟨rfl, ?_⟩) (fun z => par_gd (fun _ => ?_))
      · have := (nI_leI (a := 8) (by decide) (by omega)).mp z
        rcases hB with ⟨e, -⟩ | ⟨e, -⟩
        · exact e
        · omega
      · have z2 : j < 8 := Classical.byContradiction (fun y => z (nI_le (a := 8) (by omega) (by omega)))
        have keep : ¬ j = l → Par (m_routineAt_4 N f σ (nI k) best (nI j + 1)) (fun r σ' => σ' = σ ∧ r = nI l) := fun hne => by
          rw [nI_1]
          refine ih (j + 1) best (by omega) ?_
          rcases hB with ⟨e, e2⟩ | ⟨e, e2⟩
          · exact Or.inl ⟨e, by omega⟩
          · exact Or.inr ⟨by omega, e2⟩
        rw [nI_clamp (n := j) (by omega)]
        refine par_if (fun y => keep (fun e => ?_)) (fun y => par_gd (fun _ => ?_))
        · rw [e, e19] at y
          have := congrArg Int32.toInt y
          rw [nI_t (by have := hb o (by omega); omega), show (-1 : Int32).toInt = -1 from rfl] at this
          omega
        · have hRj : (Rd G σc0 σm0).1 j := ⟨z2, fun e => y (by rw [hq.1 19 (by decide)]; exact e)⟩
          obtain ⟨w, w1, w2, w3⟩ := hfr j hRj
          have hbw := hb w w1
          have hbo := hb o (by omega)
          rw [w2]
          refine par_if (fun x => keep (fun e => ?_)) (fun x => ?_)
          · have := (nI_ltI (by omega) (by omega)).mp x
            rw [e, e19] at w2
            have := (nI_eq (by omega) (by omega)).mp w2
            omega
          · have hle : φ w ≤ k := Classical.byContradiction (fun y2 => x (nI_lt (by omega) (by omega)))
            obtain ⟨w4, w5⟩ := w3 hle
            have take : ((j = l) ∨ (j < l ∧ φ w < φ o)) → Par (m_routineAt_4 N f σ (nI k) (nI j) (nI j + 1)) (fun r σ' => σ' = σ ∧ r = nI l) := fun hc => by
              rw [nI_1]
              rcases hc with e | ⟨e, e2⟩
              · subst e
                exact ih (j + 1) _ (by omega) (Or.inl ⟨rfl, by omega⟩)
              · exact ih (j + 1) _ (by omega) (Or.inr ⟨by omega, Or.inr ⟨j, w, z2, w1, rfl, w2, hle, e2⟩⟩)
            have hcase : j = l ∨ φ w < φ o := by
              rcases (show φ w = φ o ∨ φ w < φ o by omega) with e | e
              · exact Or.inl (w5 e)
              · exact Or.inr e
            refine par_if (fun v => ?_) (fun v => par_gd (fun _ => par_gd (fun _ => ?_)))
            · rcases hB with ⟨e, e2⟩ | ⟨e, -⟩
              · exact absurd (e.symm.trans v) (nI_nm1 (by omega))
              · refine take ?_
                rcases hcase with e2 | e2
                · exact Or.inl e2
                · rcases (show j = l ∨ j < l by omega) with e3 | e3
                  · exact Or.inl e3
                  · exact Or.inr ⟨e3, e2⟩
            · rcases hB with ⟨e, e2⟩ | ⟨e, e2⟩
              · have hjl : ¬ j = l := by omega
                rw [e, nI_clamp (n := l) (by omega), e19]
                refine par_if (fun u => ?_) (fun u => absurd (nI_le w4 (by omega)) u)
                have := keep hjl
                rw [e] at this
                exact this
              · rcases e2 with e2 | ⟨b, wb, b1, b2, b3, b4, b5, b6⟩
                · exact absurd e2 v
                · have hbb := hb wb b2
                  rw [b3, nI_clamp (n := b) (by omega), b4]
                  refine par_if (fun u => ?_) (fun u => ?_)
                  · have hne : ¬ j = l := fun e3 => by
                      have := (nI_leI (by omega) (by omega)).mp u
                      rw [e3, e19] at w2
                      have := (nI_eq (by omega) (by omega)).mp w2
                      omega
                    have := keep hne
                    rw [b3] at this
                    exact this
                  · refine take ?_
                    rcases hcase with e2 | e2
                    · exact Or.inl e2
                    · rcases (show j = l ∨ j < l by omega) with e3 | e3
                      · exact Or.inl e3
                      · exact Or.inr ⟨e3, e2⟩
  unfold m_routineAt
  exact lp N 0 (-1) (by decide) (Or.inr ⟨by omega, Or.inl rfl⟩)
