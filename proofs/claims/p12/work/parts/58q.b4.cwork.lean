/-! the class's FACTS: the rows' numbers, and the work of a row -/
def VK (R : RD) (d : Nat → Nat) : Prop := d 4 = 0 ∨ d 4 = 1 ∨ (d 4 = 2 ∧ d 5 < 26 ∧ d 6 < 26) ∨ (d 4 = 3 ∧ d 5 < 26) ∨ (d 4 = 4 ∧ d 5 < 26 ∧ d 6 < 2) ∨ (d 4 = 5 ∧ R.1 (d 6) ∧ ∃ b, b < 2 ^ 20 ∧ d 8 = R.2.2.1 (d 6) * 2 ^ 20 + b ∧ ∀ i, i < R.2.2.1 (d 6) → b / 2 ^ (5 * i) % 32 = agN d i ∧ agN d i < 26)
def RF (R : RD) (d : Nat → Nat) (s p : Nat) : Prop := (d 0 = 0 ∧ R.1 (d 11)) ∨ (d 0 = 1 ∧ d 10 < s) ∨ (d 0 = 2 ∧ (d 4 = 1 ∨ ((d 4 = 6 ∨ d 4 = 7) ∧ d 1 < 26)) ∧ d 3 < 24 ∧ p + 1 < s ∧ d 10 < s) ∨ (d 0 = 3 ∧ d 1 < 26 ∧ p + 1 < s ∧ VK R d) ∨ (d 0 = 4 ∧ d 1 < 26 ∧ d 2 < 2 ∧ p + 1 < s ∧ VK R d) ∨ (d 0 = 5 ∧ p + 1 < s ∧ VK R d) ∨ (d 0 = 6 ∧ R.1 (d 11) ∧ VK R d)
theorem dn_lt {σ : St} {G p q : Nat} : dn σ G p q < 2 ^ 32 := BitVec.isLt _
theorem cfd {σc0 σm0 σ : St} {G s : Nat} {φ : Nat → Nat} (hO : PO σc0 σm0 G s φ) (hV : CV σc0 G σ) : isCd (gP σ 907) = true := by
  rw [hV.2.2.1]
  exact pg_cd hO.1.1
theorem cpd2 {σc0 σm0 σ : St} {G s : Nat} {φ : Nat → Nat} (hO : PO σc0 σm0 G s φ) (hV : CV σc0 G σ) : isPr (gP σ 906) = true := by
  rw [hV.2.1]
  exact hO.1.1
theorem cgF {N : Nat} {σc0 σm0 σ : St} {G s p q : Nat} {φ : Nat → Nat} {v : Int32} (hO : PO σc0 σm0 G s φ) (hV : CV σc0 G σ) (hp : p < s) (hq : q < 12) (hv : v = nI q) : x0_get N σ (gP σ 907) (nI p) v = some (nI (dn σc0 G p q), σ) := by
  have hg := pr_or hO.1.1
  rw [hV.2.2.1, hv, c_get hO.1.1 (S := s) (by rw [hV.1.1 _ (by omega)]; exact hO.1.2.1) hO.1.2.2.1 hp hq, nI_dn]
  unfold rwD
  rw [hV.1.2.1 (G + 2) (by omega)]
theorem cgFA {N : Nat} {σc0 σm0 σ : St} {G s p m b : Nat} {φ : Nat → Nat} (hO : PO σc0 σm0 G s φ) (hV : CV σc0 G σ) (hp : p < s) (h8 : dn σc0 G p 8 = m * 2 ^ 20 + b) (hm : m ≤ 4) (hb : b < 2 ^ 20) : x0_arguments N σ (gP σ 907) (nI p) = some (nI m, σ) := by
  unfold x0_arguments
  rw [cfd hO hV, gd_t, cgF (v := 8) hO hV hp (q := 8) (by decide) rfl, bd_s, h8, show (20 : Int32) = nI 20 from rfl, shr_n (by decide) (by omega), show (m * 2 ^ 20 + b) / 2 ^ 20 = m by omega]
theorem cgFB {N : Nat} {σc0 σm0 σ : St} {G s p m b i : Nat} {φ : Nat → Nat} (hO : PO σc0 σm0 G s φ) (hV : CV σc0 G σ) (hp : p < s) (h8 : dn σc0 G p 8 = m * 2 ^ 20 + b) (hm : m ≤ 4) (hb : b < 2 ^ 20) (hi : i < m) : x0_argument N σ (gP σ 907) (nI p) (nI i) = some (nI (b / 2 ^ (5 * i) % 32), σ) := by
  unfold x0_argument
  have hd : (m * 2 ^ 20 + b) / 2 ^ (5 * i) < 2 ^ 32 := Nat.lt_of_le_of_lt (Nat.div_le_self _ _) (by omega)
  rw [cfd hO hV, gd_t, cgF (v := 8) hO hV hp (q := 8) (by decide) rfl, bd_s, h8, show nI i * 5 = nI (5 * i) from by rw [show (5 : Int32) = nI 5 from rfl, nI_mul, Nat.mul_comm], shr_n (by omega) (by omega), a31_n hd, ar_eq hm hb hi]
theorem cv_L {σc0 σ : St} {G : Nat} {x : Int64} (hV : CV σc0 G σ) : CV σc0 G (sL σ 913 x) := ⟨kc_L hV.1, hV.2.1, hV.2.2.1, hV.2.2.2⟩
theorem oc_L {σc0 σ : St} {G : Nat} {x : Int64} (hV : CV σc0 G σ) (hW : CW σ) : OC σc0 G σ (sL σ 913 x) := ⟨cv_L hV, hW, cp_r σ⟩
theorem oc_t {σc0 σ σ1 σ2 : St} {G : Nat} (h : OC σc0 G σ σ1) (k : OC σc0 G σ1 σ2) : OC σc0 G σ σ2 := ⟨k.1, k.2.1, cp_t h.2.2 k.2.2⟩
theorem oc_r {σc0 σ : St} {G : Nat} (hV : CV σc0 G σ) (hW : CW σ) : OC σc0 G σ σ := ⟨hV, hW, cp_r σ⟩
theorem gL_e {σ : St} {k : Nat} {x : Int64} : gL (sL σ k x) k = x := by
  unfold gL sL
  simp only [if_pos]
theorem gL_L {σ : St} {x : Int64} : gL (sL σ 913 x) 913 = x := gL_e
/-- a mark's fact, as it stands -/
theorem mk_b {σ : St} {m b : Nat} (hm : m < 42) (hb : b < 2) : (Dc σ).2.2.1 m b ↔ (cmk σ m).testBit b = true := ⟨fun h => h.2.2, fun h => ⟨hm, hb, h⟩⟩
/-- what the work of a row leaves -/
def WQ (σc0 : St) (G : Nat) (R : RD) (d : Nat → Nat) (x : Int64) (σ : St) (r : Int32) (σ' : St) : Prop := ∃ v, r = nI v ∧ v < 4 ∧ OC σc0 G σ σ' ∧ (∀ D, FL (Dc σ) D → efV R D (gB x) d → FL (Dc σ') D) ∧ efV R (Dc σ') (gB x) d ∧ (∀ b, b < 2 → v.testBit b = true → vB (Dc σ').2.2.1 (gB x) d b) ∧ (vN σ' = vN σ → ∀ b, b < 2 → vB (Dc σ').2.2.1 (gB x) d b → v.testBit b = true) ∧ TH σ' ∧ (v.testBit 1 = true → nz σ') ∧ ((gL σ' 913 = 0 ∧ (vN σ' = vN σ → ¬ aL (Dc σ').2.2.1 (gB x) d)) ∨ (WX (gL σ' 913) ∧ ¬ v = 0 ∧ aL (Dc σ').2.2.1 (gB x) d ∧ ∀ n b, n < 26 → b < 2 → (gB (gL σ' 913) n b ↔ nB (gB x) d n b)))
theorem efV_n {R : RD} {D : FD} {g : Nat → Nat → Prop} {d : Nat → Nat} (h1 : ¬ d 4 = 1) (h2 : ¬ d 4 = 2) (h4 : ¬ d 4 = 4) (h5 : ¬ d 4 = 5) : efV R D g d := ⟨fun e => absurd e h1, fun e => absurd e h2, fun e => absurd e h4, fun e => absurd e h5⟩
theorem aL_n {M g : Nat → Nat → Prop} {d : Nat → Nat} (h4 : ¬ d 4 = 4) (h5 : ¬ d 4 = 5) : aL M g d := ⟨fun e => absurd e h4, fun e => absurd e h5⟩
theorem nB_n {g : Nat → Nat → Prop} {d : Nat → Nat} (h4 : ¬ d 4 = 4) {n b : Nat} : g n b ↔ nB g d n b := by
  unfold nB
  rw [if_neg (fun e => h4 e.1)]
theorem th_nz {σ : St} (h : nz σ) : TH σ := fun _ => h
theorem bit01 : ∀ v, v < 4 → ∀ b, b < 2 → ((nI v = 1 → (v.testBit b = true ↔ b = 0)) ∧ (nI v = 2 → (v.testBit b = true ↔ b = 1)) ∧ (nI v = 3 → v.testBit b = true)) := by decide +kernel
/-- a call: routines reached, arguments, the answer -/
theorem c_call {N : Nat} {σc0 σm0 σ : St} {G s p l b : Nat} {φ : Nat → Nat} {x : Int64} (hO : PO σc0 σm0 G s φ) (hV : CV σc0 G σ) (hW : CW σ) (hp : p < s) (hx : WX x) (h913 : gL σ 913 = x) (hT : TH σ) (hnz : (∃ n, gB x n 1) → nz σ) (h4 : dn σc0 G p 4 = 5) (h6 : dn σc0 G p 6 = l) (hl : (Rd G σc0 σm0).1 l) (hb : b < 2 ^ 20) (h8 : dn σc0 G p 8 = (Rd G σc0 σm0).2.2.1 l * 2 ^ 20 + b) (hag : ∀ i, i < (Rd G σc0 σm0).2.2.1 l → b / 2 ^ (5 * i) % 32 = agN (dn σc0 G p) i ∧ agN (dn σc0 G p) i < 26) : Par (x1_workCall N σ (nI p) x (nI l)) (fun r σ' => WQ σc0 G (Rd G σc0 σm0) (dn σc0 G p) x σ r σ') := by
  obtain ⟨r1, r2, r3, -⟩ := rd_ok hO hl
  -- what the loop over the arguments keeps
  have lp : ∀ (f i : Nat) (σ1 : St), i ≤ (Rd G σc0 σm0).2.2.1 l → OC σc0 G σ σ1 → (∀ D, FL (Dc σ) D → (D.2.2.2.1 l ∧ ∀ j, j < i → PD D (4 * l + j) (fc x (agN (dn σc0 G p) j))) → FL (Dc σ1) D) → ((Dc σ1).2.2.2.1 l ∧ ∀ j, j < i → PD (Dc σ1) (4 * l + j) (fc x (agN (dn σc0 G p) j))) → gL σ1 913 = x → TH σ1 → Par (x1_workCall_33 N f σ1 (nI p) x (nI l) (nI i)) (fun r σ' => WQ σc0 G (Rd G σc0 σm0) (dn σc0 G p) x σ r σ') := by
    intro f
    induction f with
    | zero => intro i σ1 _ _ _ _ _ _ r σ' e; cases e
    | succ f ih =>
      intro i σ1 hi hC hD hE hL hT1
      show Par (x1_workCall_33_b N (x1_workCall_33 N f) σ1 (nI p) x (nI l) (nI i)) _
      unfold x1_workCall_33_b x1_workCall_77
      rw [cfd hO hC.1, gd_t, cgFA hO hC.1 hp h8 r3 hb, bd_s, nI_1]
      refine par_if (fun z => ?_) (fun z => ?_)
      · have e : i = (Rd G σc0 σm0).2.2.1 l := by have := (nI_leI (by omega) (by omega)).mp z; omega
        subst e
        rw [show (32 : Int32) + nI l = nI (32 + l) from nI_add 32 l]
        refine par_bd (c_at (show 32 + l < 42 by omega)) (fun r σ2 y => ?_)
        obtain ⟨y1, y2⟩ := y
        obtain ⟨x1, x2⟩ := hC.2.1.1 (32 + l) (by omega)
        have x1 : gA σ1 12 (32 + l) = nI (cmk σ1 (32 + l)) := x1
        have x2 : cmk σ1 (32 + l) < 4 := x2
        rw [y1, y2, x1]
        have hef : efV (Rd G σc0 σm0) (Dc σ1) (gB x) (dn σc0 G p) := ⟨fun e => absurd (h4.symm.trans e) (by decide), fun e => absurd (h4.symm.trans e) (by decide), fun e => absurd (h4.symm.trans e) (by decide), fun _ => by
          rw [h6]
          exact ⟨hE.1, fun j b hj hb h => hE.2 j hj b hb (by rw [fc_b hb]; exact h.2.2)⟩⟩
        have hup : ∀ D, FL (Dc σ) D → efV (Rd G σc0 σm0) D (gB x) (dn σc0 G p) → FL (Dc σ1) D := fun D h1 h2 => hD D h1 (by
          have h3 := h2.2.2.2 h4
          rw [h6] at h3
          exact ⟨h3.1, fun j hj b hb h => h3.2 j b hj hb ⟨(hag j hj).2, hb, by rw [← fc_b hb]; exact h⟩⟩)
        have hvb : ∀ b, b < 2 → (vB (Dc σ1).2.2.1 (gB x) (dn σc0 G p) b ↔ (cmk σ1 (32 + l)).testBit b = true) := fun b hb => by
          unfold vB
          rw [h4, h6]
          refine ⟨fun h => ?_, fun h => Or.inr (Or.inr (Or.inr (Or.inr (Or.inr ⟨rfl, by omega, hb, h⟩))))⟩
          rcases h with h | h | h | h | h | h
          · exact absurd h.1 (by decide)
          · exact absurd h (by decide)
          · exact absurd h.1 (by decide)
          · exact absurd h.1 (by decide)
          · exact absurd h.1 (by decide)
          · exact h.2.2.2
        have hal : aL (Dc σ1).2.2.1 (gB x) (dn σc0 G p) ↔ ¬ cmk σ1 (32 + l) = 0 := by
          unfold aL
          rw [h4, h6]
          refine ⟨fun h e => ?_, fun h => ⟨fun e => absurd e (by decide), fun _ => ?_⟩⟩
          · obtain ⟨b, b1, b2⟩ := h.2 rfl
            exact tb_nz b2.2.2 e
          · obtain ⟨b, b1, b2⟩ := tb_ex x2 h
            exact ⟨b, b1, by omega, b1, b2⟩
        have hn1 : (cmk σ1 (32 + l)).testBit 1 = true → nz σ1 := fun h => hT1 (Or.inr ⟨32 + l, by omega, by decide, h⟩)
        refine par_if (fun y => par_some ?_) (fun y => par_some ?_)
        · have y0 := (nI_eq (b := 0) (by omega) (by decide)).mp y
          exact ⟨cmk σ1 (32 + l), rfl, x2, oc_t hC (oc_L hC.1 hC.2.1), hup, hef, fun b hb h => (hvb b hb).mpr h, fun _ b hb h => (hvb b hb).mp h, hT1, hn1, Or.inl ⟨gL_L, fun _ => fun h => hal.mp h y0⟩⟩
        · have y0 : ¬ cmk σ1 (32 + l) = 0 := fun e => y (by rw [e]; rfl)
          refine ⟨cmk σ1 (32 + l), rfl, x2, hC, hup, hef, fun b hb h => (hvb b hb).mpr h, fun _ b hb h => (hvb b hb).mp h, hT1, hn1, Or.inr ⟨by rw [hL]; exact hx, y0, hal.mpr y0, fun n b _ _ => ?_⟩⟩
          rw [hL]
          exact nB_n (by rw [h4]; decide)
      · have z2 : i < (Rd G σc0 σm0).2.2.1 l := Classical.byContradiction (fun y => z (nI_le (by omega) (by omega)))
        obtain ⟨p1, p2⟩ := hag i z2
        rw [cfd hO hC.1, gd_t, cgFB hO hC.1 hp h8 r3 hb z2, bd_s, p1, c_fact p2, bd_s, show nI l * 4 + nI i = nI (4 * l + i) from by rw [show (4 : Int32) = nI 4 from rfl, nI_mul, nI_add, Nat.mul_comm]]
        refine par_bd (c_raise hC.1 hC.2.1 (show 4 * l + i < 42 by omega) fc_lt) (fun _ σ2 q => ?_)
        refine ih (i + 1) σ2 (by omega) (oc_t hC q.1) (fun D h1 h2 => q.2.1 D (hD D h1 ⟨h2.1, fun j hj => h2.2 j (by omega)⟩) (h2.2 i (by omega))) ⟨q.1.2.2.1.2.2.2.1 _ hE.1, fun j hj => ?_⟩ (q.2.2.2.1.trans hL) (th_raise hC.2.1 fc_lt (by omega) q hT1 (fun h => ?_))
        · rcases (show j = i ∨ j < i by omega) with e | e
          · rw [e]; exact q.2.2.1
          · exact fun b hb h => q.1.2.2.1.2.2.1 _ _ (hE.2 j e b hb h)
        · exact nz_m hC.2.1 q.1.2.2 (nz_m hW hC.2.2 (hnz ⟨agN (dn σc0 G p) i, p2, by decide, by rw [← fc_b (by decide)]; exact h⟩))
  obtain ⟨w41, w42⟩ := hW.2.2.2.1
  unfold x1_workCall
  rw [w41]
  refine par_if (fun z => ?_) (fun z => ?_)
  · have z0 := (rb0 _ w42 l r1).mp z
    rw [(rb1 _ w42 l r1).1]
    obtain ⟨q1, q2, q3⟩ := c_reach hV hW r1 z0
    refine lp N 0 _ (Nat.zero_le _) q1 (fun D h1 h2 => q2 D h1 h2.1) ⟨q3, fun j hj => absurd hj (Nat.not_lt_zero j)⟩ h913 ?_
    rintro (h | h)
    · exact hT (Or.inl h)
    · exact hT (Or.inr h)
  · have z0 : (crd σ).testBit l = true := by
      cases e : (crd σ).testBit l
      · exact absurd ((rb0 _ w42 l r1).mpr e) z
      · rfl
    exact lp N 0 σ (Nat.zero_le _) (oc_r hV hW) (fun D h1 _ => h1) ⟨⟨r1, z0⟩, fun j hj => absurd hj (Nat.not_lt_zero j)⟩ h913 hT
