/-! what the acts find is what the rows ask for: downwards -/
def rho (σc0 : St) (G : Nat) (φ : Nat → Nat) (p : Nat) : Nat := if dn σc0 G p 0 = 0 ∨ dn σc0 G p 0 = 1 then φ p else φ p + 1
def Dm (σc0 σm0 : St) (G s : Nat) (φ : Nat → Nat) (σ : St) : FD := (fun p n b => p < s ∧ n < 26 ∧ b < 2 ∧ lb (gZ σ 41 (rho σc0 G φ p)) (2 * n + b) = true, fun p => p < s ∧ ¬ gZ σ 41 (rho σc0 G φ p) = 0, fun m b => m < 42 ∧ b < 2 ∧ (mkv σ m).testBit b = true, fun l => Bm (Rd G σc0 σm0) φ σ l, fun t b => (t < 25 ∧ b < 2 ∧ (tsv σ t).testBit b = true) ∨ (100 ≤ t ∧ b < 2 ∧ ∃ k, k < φ s ∧ (cNm σm0 k = 5 ∨ cNm σm0 k = 8) ∧ gA σm0 15 k = nI (t - 100) ∧ ¬ gZ σ 41 k = 0 ∧ lb (gZ σ 41 k) (2 * oNm σm0 k + b) = true))
def lB (y : Int64) (n b : Nat) : Prop := lb y (2 * n + b) = true
theorem rk_eq {σc0 σm0 : St} {G s : Nat} {φ : Nat → Nat} (h : PO σc0 σm0 G s φ) {p k : Nat} (hp : p < s) (h1 : φ p ≤ k) (h2 : k < φ (p + 1)) : rK φ s k = p := by
  have hps := (po_up h (show p + 1 ≤ s by omega) (Nat.le_refl _)).1
  obtain ⟨x1, x2, x3⟩ := rK_ok h.1.2.2.2.2.1.1 s k (by omega)
  exact po_un h x1 hp x2 x3 h1 h2
section
variable {σc0 σm0 σ : St} {G s l : Nat} {φ tv : Nat → Nat}
theorem fm_self {q : Nat} (h : ¬ gZ σ 41 q = 0) : Fm σ q (gZ σ 41 q) := ⟨h, fun _ z => z⟩
theorem d_step (h : PO σc0 σm0 G s φ) {q : Nat} (hq : q < s) (h0 : ¬ dn σc0 G q 0 = 0) (h1 : ¬ dn σc0 G q 0 = 1) : gA σm0 12 (φ q) = nI 0 ∧ φ q + 1 < φ (q + 1) := by
  rcases rx_of h hq with ⟨e, -⟩ | ⟨e, -⟩ | ⟨e, l, a, -⟩ | ⟨e, l, a, -⟩ | ⟨e, l, a, -⟩ | ⟨e, l, a, -⟩ | ⟨e, l, a, -⟩
  · exact absurd e h0
  · exact absurd e h1
  all_goals exact ⟨a, by omega⟩
theorem into (h : PO σc0 σm0 G s φ) (hX : FX (Rd G σc0 σm0) φ (φ s) l tv (cNm σm0) (oNm σm0) (tNm σm0) (hNm σm0) (wNm σc0 G s φ) (aNm σm0) σ) {q : Nat} {y : Int64} (hq : q < s) (hf : Fm σ (φ q) y) : jn (Dm σc0 σm0 G s φ σ) q (lB y) := by
  by_cases c : dn σc0 G q 0 = 0 ∨ dn σc0 G q 0 = 1
  · have e : rho σc0 G φ q = φ q := if_pos c
    refine ⟨⟨hq, by rw [e]; exact hf.1⟩, fun n b hn hb z => ⟨hq, hn, hb, by rw [e]; exact hf.2 _ z⟩⟩
  · have e : rho σc0 G φ q = φ q + 1 := if_neg c
    obtain ⟨a, a2⟩ := d_step h hq (fun z => c (Or.inl z)) (fun z => c (Or.inr z))
    have hps := (po_up h (show q + 1 ≤ s by omega) (Nat.le_refl _)).1
    have hs := hX.1 (φ q) (by omega) hf.1
    rw [show cNm σm0 (φ q) = 0 from clo_of a (by decide)] at hs
    have hs : Fm σ (φ q + 1) (gZ σ 41 (φ q)) := hs
    refine ⟨⟨hq, by rw [e]; exact hs.1⟩, fun n b hn hb z => ⟨hq, hn, hb, by rw [e]; exact hs.2 _ (hf.2 _ z)⟩⟩
theorem into1 {q : Nat} {y : Int64} (hq : q < s) (h2 : dn σc0 G q 0 = 2) (hf : Fm σ (φ q + 1) y) : jn (Dm σc0 σm0 G s φ σ) q (lB y) := by
  have e : rho σc0 G φ q = φ q + 1 := if_neg (by omega)
  exact ⟨⟨hq, by rw [e]; exact hf.1⟩, fun n b hn hb z => ⟨hq, hn, hb, by rw [e]; exact hf.2 _ z⟩⟩
theorem pm_d {m v : Nat} (hm : m < 42) (h : Pm σ m v) {b : Nat} (hb : b < 2) (hv : v.testBit b = true) : (Dm σc0 σm0 G s φ σ).2.2.1 m b := ⟨hm, hb, h b hb hv⟩
theorem d_val (h : PO σc0 σm0 G s φ) {d : Nat → Nat} {k ow : Nat} {x : Int64} {g : Nat → Nat → Prop} (hk : k < φ s) (hv : VX σm0 (Rd G σc0 σm0) d k) (hg : ∀ n b, g n b → n < 26 ∧ b < 2 ∧ lb x (2 * n + b) = true) (hx : x = gZ σ 41 k) (hx0 : ¬ x = 0) (hW : ∀ m, m < 42 → mkv σ m < 4) (ha : AS (Rd G σc0 σm0) φ σ k (oNm σm0 k) (tNm σm0 k) (hNm σm0 k) ow (aNm σm0 k) x (cNm σm0 k)) : efV (Rd G σc0 σm0) (Dm σc0 σm0 G s φ σ) g d ∧ (aL (Dm σc0 σm0 G s φ σ).2.2.1 g d → ∃ y, Fm σ (k + 1) y ∧ (∀ n b, n < 26 → b < 2 → nB g d n b → lb y (2 * n + b) = true) ∧ ∀ b, b < 2 → vB (Dm σc0 σm0 G s φ σ).2.2.1 g d b → lb y (2 * 26 + b) = true) := by
  have gf : ∀ n b, g n b → (fm x n).testBit b = true := fun n b z => by rw [fm_b (hg n b z).2.1]; exact (hg n b z).2.2
  have nsp : ¬ d 4 = 4 → ∀ v, v < 4 → ∀ n b, n < 26 → b < 2 → nB g d n b → lb (mw x 26 v) (2 * n + b) = true := fun e v hv n b hn hb z => by
    rw [mw26n hn hv hb]
    exact (hg n b ((nB_n e).mpr z)).2.2
  rcases hv with ⟨k4, a⟩ | ⟨k4, a⟩ | ⟨k4, a, b, b2, c, c2⟩ | ⟨k4, a, b, b2⟩ | ⟨k4, a, b, b2, c, c2, b7⟩ | ⟨k4, a, b, b2, c, bb, b3, b4, b5, b6⟩
  · rw [show cNm σm0 k = 1 from clo_of a (by decide)] at ha
    exact ⟨efV_n (by omega) (by omega) (by omega) (by omega), fun _ => ⟨_, ha, nsp (by omega) 1 (by decide), fun b hb z => by rw [mw26b (by decide) hb]; exact ((bit01 1 (by decide) b hb).1 rfl).mpr ((vB_0 k4).mp z)⟩⟩
  · rw [show cNm σm0 k = 2 from clo_of a (by decide)] at ha
    obtain ⟨h1, h2, h3⟩ := ha
    exact ⟨⟨fun _ => ⟨pm_d (by decide) h1 (by decide) rfl, pm_d (by decide) h2 (by decide) rfl⟩, fun e => absurd (k4.symm.trans e) (by decide), fun e => absurd (k4.symm.trans e) (by decide), fun e => absurd (k4.symm.trans e) (by decide)⟩, fun _ => ⟨_, h3, nsp (by omega) 3 (by decide), fun b hb z => by rw [mw26b (by decide) hb]; exact (bit01 3 (by decide) b hb).2.2 rfl⟩⟩
  · rw [show cNm σm0 k = 3 from clo_of a (by decide), show oNm σm0 k = d 5 from clo_of b (by omega), show tNm σm0 k = d 6 from clo_of c (by omega)] at ha
    obtain ⟨h1, h2, h3⟩ := ha
    exact ⟨⟨fun e => absurd (k4.symm.trans e) (by decide), fun _ b hb => ⟨fun z => pm_d (by decide) h1 hb (gf _ b z), fun z => pm_d (by decide) h2 hb (gf _ b z)⟩, fun e => absurd (k4.symm.trans e) (by decide), fun e => absurd (k4.symm.trans e) (by decide)⟩, fun _ => ⟨_, h3, nsp (by omega) 2 (by decide), fun b hb z => by rw [mw26b (by decide) hb]; exact ((bit01 2 (by decide) b hb).2.1 rfl).mpr ((vB_2 k4).mp z)⟩⟩
  · rw [show cNm σm0 k = 4 from clo_of a (by decide), show oNm σm0 k = d 5 from clo_of b (by omega)] at ha
    exact ⟨efV_n (by omega) (by omega) (by omega) (by omega), fun _ => ⟨_, ha, nsp (by omega) _ fm_lt, fun b hb z => by rw [mw26b fm_lt hb]; exact gf _ b ((vB_3 k4).mp z)⟩⟩
  · have eo : oNm σm0 k = d 5 := clo_of b (by omega)
    have ec : cNm σm0 k = 5 := clo_of a (by decide)
    rw [ec, eo, show tNm σm0 k = d 6 from clo_of c (by omega)] at ha
    have ha : (fm x (d 5)).testBit 1 = true → ¬ mkv σ (40 + d 6) = 0 → Fm σ (k + 1) (mw (mw x (d 5) 2) 26 (mkv σ (40 + d 6))) := ha
    refine ⟨⟨fun e => absurd (k4.symm.trans e) (by decide), fun e => absurd (k4.symm.trans e) (by decide), fun _ _ b hb z => Or.inr ⟨by omega, hb, k, hk, Or.inl ec, by rw [show 100 + d 7 - 100 = d 7 by omega]; exact b7, by rw [← hx]; exact hx0, by rw [← hx, eo]; exact (hg _ _ z).2.2⟩, fun e => absurd (k4.symm.trans e) (by decide)⟩, fun hal => ?_⟩
    obtain ⟨z1, e, e1, e2⟩ := hal.1 k4
    have hlt := hW (40 + d 6) (by omega)
    · refine ⟨_, ha (gf _ 1 z1) (tb_nz e2.2.2), fun n b hn hb z => ?_, fun b hb z => by rw [mw26b hlt hb]; exact ((vB_4 k4).mp z).2.2⟩
      rw [mw26n hn hlt hb, mw_nb (by omega) (by omega) (by decide) hb]
      unfold nB at z
      by_cases c : n = d 5
      · rw [if_pos ⟨k4, c⟩] at z
        rw [if_pos c]
        exact ((bit01 2 (by decide) b hb).2.1 rfl).mpr z
      · rw [if_neg (fun e => c e.2)] at z
        rw [if_neg c]
        exact (hg n b z).2.2
  · have r1 := (rd_ok h b2).1
    have r3 := (rd_ok h b2).2.2.1
    rw [show cNm σm0 k = 6 from clo_of a (by decide), show oNm σm0 k = d 6 from clo_of b (by omega)] at ha
    obtain ⟨h1, h2, h3⟩ := ha
    refine ⟨⟨fun e => absurd (k4.symm.trans e) (by decide), fun e => absurd (k4.symm.trans e) (by decide), fun e => absurd (k4.symm.trans e) (by decide), fun _ => ⟨h2, fun i b hi hb z => ?_⟩⟩, fun hal => ?_⟩
    · have e : aNm σm0 k i = agN d i := by
        unfold aNm
        rw [clo_of b4 (by omega)]
        exact (b6 i hi).1
      have := h1 i hi
      rw [e] at this
      exact pm_d (by omega) this hb (gf _ b z)
    · obtain ⟨e, e1, e2⟩ := hal.2 k4
      have hlt := hW (32 + d 6) (by omega)
      · refine ⟨_, h3 (tb_nz e2.2.2), nsp (by omega) _ hlt, fun b hb z => ?_⟩
        rw [mw26b hlt hb]
        rcases z with z | z | z | z | z | z
        · exact absurd (k4.symm.trans z.1) (by decide)
        · exact absurd (k4.symm.trans z) (by decide)
        · exact absurd (k4.symm.trans z.1) (by decide)
        · exact absurd (k4.symm.trans z.1) (by decide)
        · exact absurd (k4.symm.trans z.1) (by decide)
        · exact z.2.2.2
/-- the reference's FACTS satisfy the rows -/
theorem sol_d (h : PO σc0 σm0 G s φ) (hl : (Rd G σc0 σm0).1 l) (hW : ∀ m, m < 42 → mkv σ m < 4) (hX : FX (Rd G σc0 σm0) φ (φ s) l tv (cNm σm0) (oNm σm0) (tNm σm0) (hNm σm0) (wNm σc0 G s φ) (aNm σm0) σ) : Sol σc0 G s (Rd G σc0 σm0) l tv (Dm σc0 σm0 G s φ σ) := by
  have r1 := (rd_ok h hl).1
  have r3 := (rd_ok h hl).2.2.1
  have ha := h.1.2.2.2.1
  refine ⟨⟨hX.2.1, fun j hj => ⟨fun b hb z => pm_d (by omega) (hX.2.2 j hj).1 hb z, fun z => ⟨pm_d (by decide) ((hX.2.2 j hj).2 z).1 (by decide) rfl, pm_d (by decide) ((hX.2.2 j hj).2 z).2 (by decide) rfl⟩⟩⟩, fun r hr hb hnz => ?_, fun p hp hu => ?_⟩
  · have o1 := rd_ok h hr
    obtain ⟨b1, b2⟩ := hb (fun k hk e => by
      obtain ⟨b, _, b3⟩ := hnz k hk
      exact tb_nz b3.2.2 e)
    refine jn_m (fl_r _) (fun n b hn hb z => ?_) (into h hX o1.2.1 (fm_self b1))
    exact b2 n b hn hb (opB_mono (D := Dm σc0 σm0 G s φ σ) (D' := mD σ) (fun k b _ z _ => z.2.2) _ (Nat.le_refl _) n b hb z)
  · have hps := (po_up h (show p + 1 ≤ s by omega) (Nat.le_refl _)).1
    have hg : ∀ n b, (Dm σc0 σm0 G s φ σ).1 p n b → n < 26 ∧ b < 2 ∧ lb (gZ σ 41 (rho σc0 G φ p)) (2 * n + b) = true := fun n b z => z.2
    have gf : ∀ n b, (Dm σc0 σm0 G s φ σ).1 p n b → (fm (gZ σ 41 (rho σc0 G φ p)) n).testBit b = true := fun n b z => by rw [fm_b (hg n b z).2.1]; exact (hg n b z).2.2
    have hx0 := hu.2
    have b2 : ∀ b, b < 2 → (2 : Nat).testBit b = true → b = 1 := fun b hb z => ((bit01 2 (by decide) b hb).2.1 rfl).mp z
    rcases rx_of h hp with ⟨e, l, a0, a1⟩ | ⟨e, l, a0, b, a1⟩ | ⟨e, l, a0, b, b3, b4, b5, b6, b7⟩ | ⟨e, l, a0, b, bv, a2, a3, a4⟩ | ⟨e, l, a0, b, bv, a2, a3, a4, a5, a6, a7⟩ | ⟨e, l, a0, b, bv, b4⟩ | ⟨e, l, a0, bv, a2⟩
    · have er : rho σc0 G φ p = φ p := if_pos (Or.inl e)
      rw [er] at hx0
      refine ⟨fun _ => ?_, fun e2 => absurd (e.symm.trans e2) (by decide), fun e2 => absurd (e.symm.trans e2) (by decide), fun e2 => absurd (e.symm.trans e2) (by decide), fun e2 => absurd e2 (by omega)⟩
      have s1 := hX.1 (φ p) (by omega) hx0
      rw [show cNm σm0 (φ p) = 1 from clo_of a0 (by decide)] at s1
      have s1 : Fm σ (φ p + 1) (mw (gZ σ 41 (φ p)) 26 1) := s1
      have s2 := hX.1 (φ p + 1) (by omega) s1.1
      rw [show cNm σm0 (φ p + 1) = 9 from clo_of a1 (by decide), show wNm σc0 G s φ (φ p + 1) = dn σc0 G p 11 from by unfold wNm; rw [rk_eq h hp (by omega) (by omega)]] at s2
      have s2 : Pm σ (32 + dn σc0 G p 11) (fm (gZ σ 41 (φ p + 1)) 26) := s2
      have h11 : dn σc0 G p 11 < 8 := by
        rcases rf_of h hp with ⟨-, z⟩ | ⟨z, -⟩ | ⟨z, -⟩ | ⟨z, -⟩ | ⟨z, -⟩ | ⟨z, -⟩ | ⟨z, -⟩ <;> first | exact (rd_ok h z).1 | omega
      exact pm_d (by omega) s2 (by decide) (by rw [fm_b (by decide)]; exact s1.2 _ (by rw [mw26b (by decide) (by decide)]; rfl))
    · have er : rho σc0 G φ p = φ p := if_pos (Or.inr e)
      rw [er] at hx0
      refine ⟨fun e2 => absurd (e.symm.trans e2) (by decide), fun _ => ?_, fun e2 => absurd (e.symm.trans e2) (by decide), fun e2 => absurd (e.symm.trans e2) (by decide), fun e2 => absurd e2 (by omega)⟩
      have s1 := hX.1 (φ p) (by omega) hx0
      rw [show cNm σm0 (φ p) = 13 from clo_of a0 (by decide)] at s1
      have s1 : Fm σ (oNm σm0 (φ p)) (gZ σ 41 (φ p)) := s1
      have hq := (po_up h (show dn σc0 G p 10 ≤ s by omega) (Nat.le_refl _)).1
      have hb : ∀ n b, n < 26 → b < 2 → (Dm σc0 σm0 G s φ σ).1 p n b → lB (gZ σ 41 (φ p)) n b := fun n b _ _ z => by
        have := (hg n b z).2.2
        rw [er] at this
        exact this
      rcases a1 with a1 | ⟨a1, a2⟩
      · rw [show oNm σm0 (φ p) = φ (dn σc0 G p 10) from clo_of a1 (by omega)] at s1
        exact jn_m (fl_r _) hb (into h hX b s1)
      · rw [show oNm σm0 (φ p) = φ (dn σc0 G p 10) + 1 from clo_of a1 (by omega)] at s1
        exact jn_m (fl_r _) hb (into1 b a2 s1)
    · have er : rho σc0 G φ p = φ p + 1 := if_neg (by omega)
      rw [er] at hx0
      have s1 := hX.1 (φ p + 1) (by omega) hx0
      have hq := (po_up h (show dn σc0 G p 10 ≤ s by omega) (Nat.le_refl _)).1
      rw [show tNm σm0 (φ p + 1) = dn σc0 G p 3 from clo_of b4 (by omega), show hNm σm0 (φ p + 1) = φ (dn σc0 G p 10) from clo_of b6 (by omega)] at s1
      have hk1 : φ p + 1 + 1 = φ (p + 1) := by omega
      rw [er] at hg gf
      rcases b7 with ⟨z1, z2⟩ | ⟨w, w1, w2, w3, w4, w5⟩
      · rw [show cNm σm0 (φ p + 1) = 12 from clo_of z2 (by decide)] at s1
        obtain ⟨j1, j2, j3, j4⟩ := s1
        rw [hk1] at j2
        refine ⟨fun e2 => absurd (e.symm.trans e2) (by decide), fun e2 => absurd (e.symm.trans e2) (by decide), fun _ _ => ⟨Or.inl j1, Or.inl j3, jn_m (fl_r _) (fun n b _ _ z => (hg n b z).2.2) (into h hX b j2), jn_m (fl_r _) (fun n b _ _ z => (hg n b z).2.2) (into h hX b5 j4)⟩, fun _ w _ e2 => absurd (z1.symm.trans e2) (by omega), fun e2 => absurd e2 (by omega)⟩
      · rw [show oNm σm0 (φ p + 1) = dn σc0 G p 1 from clo_of w4 (by omega)] at s1
        have main : ((fm (gZ σ 41 (φ p + 1)) (dn σc0 G p 1)).testBit w = true → Tm σ (dn σc0 G p 3) 0 ∧ Fm σ (φ p + 1 + 1) (mw (gZ σ 41 (φ p + 1)) (dn σc0 G p 1) (2 ^ w))) ∧ ((fm (gZ σ 41 (φ p + 1)) (dn σc0 G p 1)).testBit (1 - w) = true → Tm σ (dn σc0 G p 3) 1 ∧ Fm σ (φ (dn σc0 G p 10)) (mw (gZ σ 41 (φ p + 1)) (dn σc0 G p 1) (2 ^ (1 - w)))) := by
          rcases (show w = 0 ∨ w = 1 by omega) with ew | ew <;> subst ew
          · rw [show cNm σm0 (φ p + 1) = 10 from clo_of w3 (by decide)] at s1
            exact s1
          · rw [show cNm σm0 (φ p + 1) = 11 from clo_of w3 (by decide)] at s1
            exact s1
        rw [hk1] at main
        have nsw : ∀ v, v < 2 → ∀ n b, n < 26 → b < 2 → (if n = dn σc0 G p 1 then b = v else (Dm σc0 σm0 G s φ σ).1 p n b) → lB (mw (gZ σ 41 (φ p + 1)) (dn σc0 G p 1) (2 ^ v)) n b := fun v hv n b hn hb z => by
          unfold lB
          rw [mw_nb (by omega) (by omega) (pw2 hv) hb]
          by_cases c : n = dn σc0 G p 1
          · rw [if_pos c] at z ⊢
            exact (tp_b hv hb).mpr z
          · rw [if_neg c] at z ⊢
            exact (hg n b z).2.2
        refine ⟨fun e2 => absurd (e.symm.trans e2) (by decide), fun e2 => absurd (e.symm.trans e2) (by decide), fun _ e2 => absurd (w2.symm.trans e2) (by omega), fun _ w' hw' e2 => ?_, fun e2 => absurd e2 (by omega)⟩
        obtain rfl : w' = w := by omega
        refine ⟨fun z => ?_, fun z => ?_⟩
        · obtain ⟨y1, y2⟩ := main.1 (gf _ _ z)
          exact ⟨Or.inl y1, jn_m (fl_r _) (nsw w' w1) (into h hX b y2)⟩
        · obtain ⟨y1, y2⟩ := main.2 (gf _ _ z)
          exact ⟨Or.inl y1, jn_m (fl_r _) (nsw (1 - w') (by omega)) (into h hX b5 y2)⟩
    · have er : rho σc0 G φ p = φ p + 1 := if_neg (by omega)
      rw [er] at hx0 hg
      obtain ⟨v1, v2⟩ := d_val h (by omega) bv hg rfl hx0 hW (hX.1 (φ p + 1) (by omega) hx0)
      refine ⟨fun e2 => absurd (e.symm.trans e2) (by decide), fun e2 => absurd (e.symm.trans e2) (by decide), fun e2 => absurd (e.symm.trans e2) (by decide), fun e2 => absurd (e.symm.trans e2) (by decide), fun _ => ⟨v1, fun hal => ?_⟩⟩
      obtain ⟨y, y1, y2, y3⟩ := v2 hal
      have s2 := hX.1 (φ p + 2) (by omega) y1.1
      rw [show cNm σm0 (φ p + 2) = 7 from clo_of a2 (by decide), show oNm σm0 (φ p + 2) = dn σc0 G p 1 from clo_of a3 (by omega)] at s2
      have s2 : Fm σ (φ p + 2 + 1) (mw (gZ σ 41 (φ p + 2)) (dn σc0 G p 1) (fm (gZ σ 41 (φ p + 2)) 26)) := s2
      rw [show φ p + 2 + 1 = φ (p + 1) by omega] at s2
      refine ⟨fun _ => jn_m (fl_r _) (fun n b hn hb z => ?_) (into h hX b s2), fun e2 => absurd (e.symm.trans e2) (by decide), fun e2 => absurd (e.symm.trans e2) (by decide), fun e2 => absurd (e.symm.trans e2) (by decide)⟩
      unfold lB
      rw [mw_nb (by omega) (by omega) fm_lt hb]
      by_cases c : n = dn σc0 G p 1
      · rw [if_pos c] at z ⊢
        rw [fm_b hb]
        exact y1.2 _ (y3 b hb z)
      · rw [if_neg c] at z ⊢
        exact y1.2 _ (y2 n b hn hb z)
    · have er : rho σc0 G φ p = φ p + 1 := if_neg (by omega)
      rw [er] at hx0 hg
      obtain ⟨v1, v2⟩ := d_val h (by omega) bv hg rfl hx0 hW (hX.1 (φ p + 1) (by omega) hx0)
      refine ⟨fun e2 => absurd (e.symm.trans e2) (by decide), fun e2 => absurd (e.symm.trans e2) (by decide), fun e2 => absurd (e.symm.trans e2) (by decide), fun e2 => absurd (e.symm.trans e2) (by decide), fun _ => ⟨v1, fun hal => ?_⟩⟩
      obtain ⟨y, y1, y2, y3⟩ := v2 hal
      have s2 := hX.1 (φ p + 2) (by omega) y1.1
      have eo : oNm σm0 (φ p + 2) = dn σc0 G p 1 := clo_of a3 (by omega)
      have ec : cNm σm0 (φ p + 2) = 8 := clo_of a2 (by decide)
      rw [ec, eo, show tNm σm0 (φ p + 2) = dn σc0 G p 2 from clo_of a5 (by omega)] at s2
      have s2 : (fm (gZ σ 41 (φ p + 2)) (dn σc0 G p 1)).testBit 1 = true → Pm σ (40 + dn σc0 G p 2) (fm (gZ σ 41 (φ p + 2)) 26) ∧ Fm σ (φ p + 2 + 1) (mw (gZ σ 41 (φ p + 2)) (dn σc0 G p 1) 2) := s2
      rw [show φ p + 2 + 1 = φ (p + 1) by omega] at s2
      refine ⟨fun e2 => absurd (e.symm.trans e2) (by decide), fun _ => ⟨fun u b hb z => Or.inr ⟨by omega, hb, φ p + 2, by omega, Or.inr ec, by rw [show 100 + dn σc0 G p 3 - 100 = dn σc0 G p 3 by omega]; exact a7, y1.1, by rw [eo]; exact y1.2 _ (y2 _ b a4 hb z)⟩, fun z => ?_⟩, fun e2 => absurd (e.symm.trans e2) (by decide), fun e2 => absurd (e.symm.trans e2) (by decide)⟩
      obtain ⟨j1, j2⟩ := s2 (by rw [fm_b (by decide)]; exact y1.2 _ (y2 _ 1 a4 (by decide) z))
      refine ⟨fun b hb z => pm_d (by omega) j1 hb (by rw [fm_b hb]; exact y1.2 _ (y3 b hb z)), jn_m (fl_r _) (fun n b hn hb z => ?_) (into h hX b j2)⟩
      unfold lB
      rw [mw_nb (by omega) (by omega) (by decide) hb]
      by_cases c : n = dn σc0 G p 1
      · rw [if_pos c] at z ⊢
        exact ((bit01 2 (by decide) b hb).2.1 rfl).mpr z
      · rw [if_neg c] at z ⊢
        exact y1.2 _ (y2 n b hn hb z)
    · have er : rho σc0 G φ p = φ p + 1 := if_neg (by omega)
      rw [er] at hx0 hg
      obtain ⟨v1, v2⟩ := d_val h (by omega) bv hg rfl hx0 hW (hX.1 (φ p + 1) (by omega) hx0)
      refine ⟨fun e2 => absurd (e.symm.trans e2) (by decide), fun e2 => absurd (e.symm.trans e2) (by decide), fun e2 => absurd (e.symm.trans e2) (by decide), fun e2 => absurd (e.symm.trans e2) (by decide), fun _ => ⟨v1, fun hal => ?_⟩⟩
      obtain ⟨y, y1, y2, y3⟩ := v2 hal
      rw [show φ p + 1 + 1 = φ (p + 1) by omega] at y1
      exact ⟨fun e2 => absurd (e.symm.trans e2) (by decide), fun e2 => absurd (e.symm.trans e2) (by decide), fun _ => jn_m (fl_r _) (fun n b hn hb z => y2 n b hn hb z) (into h hX b y1), fun e2 => absurd (e.symm.trans e2) (by decide)⟩
    · have er : rho σc0 G φ p = φ p + 1 := if_neg (by omega)
      rw [er] at hx0 hg
      obtain ⟨v1, v2⟩ := d_val h (by omega) bv hg rfl hx0 hW (hX.1 (φ p + 1) (by omega) hx0)
      refine ⟨fun e2 => absurd (e.symm.trans e2) (by decide), fun e2 => absurd (e.symm.trans e2) (by decide), fun e2 => absurd (e.symm.trans e2) (by decide), fun e2 => absurd (e.symm.trans e2) (by decide), fun _ => ⟨v1, fun hal => ?_⟩⟩
      obtain ⟨y, y1, y2, y3⟩ := v2 hal
      have s2 := hX.1 (φ p + 2) (by omega) y1.1
      rw [show cNm σm0 (φ p + 2) = 9 from clo_of a2 (by decide), show wNm σc0 G s φ (φ p + 2) = dn σc0 G p 11 from by unfold wNm; rw [rk_eq h hp (by omega) (by omega)]] at s2
      have s2 : Pm σ (32 + dn σc0 G p 11) (fm (gZ σ 41 (φ p + 2)) 26) := s2
      have h11 : dn σc0 G p 11 < 8 := by
        rcases rf_of h hp with ⟨z, -⟩ | ⟨z, -⟩ | ⟨z, -⟩ | ⟨z, -⟩ | ⟨z, -⟩ | ⟨z, -⟩ | ⟨-, z, -⟩ <;> first | exact (rd_ok h z).1 | omega
      exact ⟨fun e2 => absurd (e.symm.trans e2) (by decide), fun e2 => absurd (e.symm.trans e2) (by decide), fun e2 => absurd (e.symm.trans e2) (by decide), fun _ b hb z => pm_d (by omega) s2 hb (by rw [fm_b hb]; exact y1.2 _ (y3 b hb z))⟩
end
