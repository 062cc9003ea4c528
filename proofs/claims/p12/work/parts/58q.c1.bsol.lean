/-! what the rows ask for is what the acts ask for: upwards -/
def NS (x : Int64) (g : Nat → Nat → Prop) : Prop := ∀ n b, n < 26 → b < 2 → lb x (2 * n + b) = true → g n b
def UP (d : Nat → Nat) (D : FD) (p i : Nat) (x : Int64) : Prop := D.2.1 p ∧ (i = 0 → NS x (D.1 p)) ∧ (i = 1 → ¬ d 0 = 0 → NS x (D.1 p)) ∧ (i = 1 → d 0 = 0 → ∀ b, b < 2 → lb x (2 * 26 + b) = true → b = 0) ∧ (i = 2 → aL D.2.2.1 (D.1 p) d ∧ NS x (nB (D.1 p) d) ∧ ∀ b, b < 2 → lb x (2 * 26 + b) = true → vB D.2.2.1 (D.1 p) d b)
def UU (σc0 : St) (G s : Nat) (φ : Nat → Nat) (D : FD) (k : Nat) (x : Int64) : Prop := ∀ p i, p < s → k = φ p + i → k < φ (p + 1) → UP (dn σc0 G p) D p i x
theorem ns_or {x y : Int64} {g : Nat → Nat → Prop} (h1 : NS x g) (h2 : NS y g) : NS (x ||| y) g := fun n b hn hb h => by
  rw [lb_or] at h
  rcases Bool.or_eq_true _ _ ▸ h with h | h
  · exact h1 n b hn hb h
  · exact h2 n b hn hb h
theorem uu_or {σc0 : St} {G s : Nat} {φ : Nat → Nat} {D : FD} : ∀ k x y, UU σc0 G s φ D k x → UU σc0 G s φ D k y → UU σc0 G s φ D k (x ||| y) := fun k x y h1 h2 p i hp e hlt => by
  obtain ⟨a1, a2, a3, a4, a5⟩ := h1 p i hp e hlt
  obtain ⟨b1, b2, b3, b4, b5⟩ := h2 p i hp e hlt
  refine ⟨a1, fun e => ns_or (a2 e) (b2 e), fun e e2 => ns_or (a3 e e2) (b3 e e2), fun e e2 b hb h => ?_, fun e => ⟨(a5 e).1, ns_or (a5 e).2.1 (b5 e).2.1, fun b hb h => ?_⟩⟩
  · rw [lb_or] at h
    rcases Bool.or_eq_true _ _ ▸ h with h | h
    · exact a4 e e2 b hb h
    · exact b4 e e2 b hb h
  · rw [lb_or] at h
    rcases Bool.or_eq_true _ _ ▸ h with h | h
    · exact (a5 e).2.2 b hb h
    · exact (b5 e).2.2 b hb h
section
variable {σc0 σm0 : St} {G s : Nat} {φ : Nat → Nat} {D : FD}
theorem uu_row (h : PO σc0 σm0 G s φ) {q : Nat} {y : Int64} {g : Nat → Nat → Prop} (hq : q < s) (hj : jn D q g) (hy : NS y g) : UU σc0 G s φ D (φ q) y := fun p i hp e hlt => by
  have h1 := (po_up h (show q ≤ q + 1 by omega) (by omega)).2 (by omega)
  have e2 : p = q := po_un h hp hq (by omega) hlt (Nat.le_refl _) h1
  subst e2
  have ei : i = 0 := by omega
  subst ei
  exact ⟨hj.1, fun _ n b hn hb z => hj.2 n b hn hb (hy n b hn hb z), fun z => absurd z (by decide), fun z => absurd z (by decide), fun z => absurd z (by decide)⟩
theorem uu_in (h : PO σc0 σm0 G s φ) {p i k : Nat} {y : Int64} (hp : p < s) (hk : k = φ p + (i + 1)) (hlt : k < φ (p + 1)) (hu : UP (dn σc0 G p) D p (i + 1) y) : UU σc0 G s φ D k y := fun p' i' hp' e hlt' => by
  have e2 : p' = p := po_un h hp' hp (by omega) hlt' (by omega) hlt
  subst e2
  have ei : i' = i + 1 := by omega
  rw [ei]
  exact hu
theorem mw26n {x : Int64} {v n b : Nat} (hn : n < 26) (hv : v < 4) (hb : b < 2) : lb (mw x 26 v) (2 * n + b) = lb x (2 * n + b) := by
  rw [mw_nb (by decide) (by omega) hv hb, if_neg (by omega)]
theorem mw26b {x : Int64} {v b : Nat} (hv : v < 4) (hb : b < 2) : lb (mw x 26 v) (2 * 26 + b) = v.testBit b := by
  rw [mw_nb (by decide) (by decide) hv hb, if_pos rfl]
theorem ns_26 {x : Int64} {v : Nat} {g : Nat → Nat → Prop} (hv : v < 4) (h : NS x g) : NS (mw x 26 v) g := fun n b hn hb z => h n b hn hb (by rw [mw26n hn hv hb] at z; exact z)
theorem ns_nB {x : Int64} {g : Nat → Nat → Prop} {d : Nat → Nat} (h4 : ¬ d 4 = 4) (h : NS x g) : NS x (nB g d) := fun n b hn hb z => (nB_n h4).mp (h n b hn hb z)
theorem bd_sol (h : PO σc0 σm0 G s φ) (hS : ∀ r, (Rd G σc0 σm0).1 r → opS (Rd G σc0 σm0) D r) {r : Nat} (hr : (Rd G σc0 σm0).1 r) (hc : D.2.2.2.1 r) : BD (Rd G σc0 σm0) φ (UU σc0 G s φ D) D r := fun x h1 h2 => uu_row h (rd_ok h hr).2.1 (hS r hr hc h1) h2
/-- a value's act -/
theorem b_val (h : PO σc0 σm0 G s φ) (hS : ∀ r, (Rd G σc0 σm0).1 r → opS (Rd G σc0 σm0) D r) {d : Nat → Nat} {k ow : Nat} {x : Int64} {g : Nat → Nat → Prop} (hv : VX σm0 (Rd G σc0 σm0) d k) (hx : NS x g) (hef : efV (Rd G σc0 σm0) D g d) (hF : ∀ y, aL D.2.2.1 g d → NS y (nB g d) → (∀ b, b < 2 → lb y (2 * 26 + b) = true → vB D.2.2.1 g d b) → UU σc0 G s φ D (k + 1) y) : AC (Rd G σc0 σm0) φ (UU σc0 G s φ D) D k (oNm σm0 k) (tNm σm0 k) (hNm σm0 k) ow (aNm σm0 k) x (cNm σm0 k) := by
  intro mk hm hm4
  have xb : ∀ n b, n < 26 → b < 2 → (fm x n).testBit b = true → g n b := fun n b hn hb z => hx n b hn hb (by rw [← fm_b hb]; exact z)
  rcases hv with ⟨k4, a⟩ | ⟨k4, a⟩ | ⟨k4, a, b, b2, c, c2⟩ | ⟨k4, a, b, b2⟩ | ⟨k4, a, b, b2, c, c2, -⟩ | ⟨k4, a, b, b2, c, bb, b3, b4, b5, b6⟩
  · rw [show cNm σm0 k = 1 from clo_of a (by decide)]
    exact hF _ (aL_n (by omega) (by omega)) (ns_26 (by decide) (ns_nB (by omega) hx)) (fun b hb z => (vB_0 k4).mpr (((bit01 1 (by decide) b hb).1 rfl).mp (by rw [mw26b (by decide) hb] at z; exact z)))
  · rw [show cNm σm0 k = 2 from clo_of a (by decide)]
    have b2 : ∀ b, b < 2 → (2 : Nat).testBit b = true → b = 1 := fun b hb z => ((bit01 2 (by decide) b hb).2.1 rfl).mp z
    exact ⟨fun b hb z => by rw [b2 b hb z]; exact (hef.1 k4).1, fun b hb z => by rw [b2 b hb z]; exact (hef.1 k4).2, hF _ (aL_n (by omega) (by omega)) (ns_26 (by decide) (ns_nB (by omega) hx)) (fun b hb _ => vB_1 k4)⟩
  · rw [show cNm σm0 k = 3 from clo_of a (by decide), show oNm σm0 k = d 5 from clo_of b (by omega), show tNm σm0 k = d 6 from clo_of c (by omega)]
    exact ⟨fun b hb z => (hef.2.1 k4 b hb).1 (xb _ b b2 hb z), fun b hb z => (hef.2.1 k4 b hb).2 (xb _ b c2 hb z), hF _ (aL_n (by omega) (by omega)) (ns_26 (by decide) (ns_nB (by omega) hx)) (fun b hb z => (vB_2 k4).mpr (((bit01 2 (by decide) b hb).2.1 rfl).mp (by rw [mw26b (by decide) hb] at z; exact z)))⟩
  · rw [show cNm σm0 k = 4 from clo_of a (by decide), show oNm σm0 k = d 5 from clo_of b (by omega)]
    exact hF _ (aL_n (by omega) (by omega)) (ns_26 fm_lt (ns_nB (by omega) hx)) (fun b hb z => (vB_3 k4).mpr (xb _ b b2 hb (by rw [mw26b fm_lt hb] at z; exact z)))
  · rw [show cNm σm0 k = 5 from clo_of a (by decide), show oNm σm0 k = d 5 from clo_of b (by omega), show tNm σm0 k = d 6 from clo_of c (by omega)]
    intro z1 z2
    obtain ⟨e, e1, e2⟩ := tb_ex (hm4 (40 + d 6)) z2
    refine hF _ ⟨fun _ => ⟨xb _ 1 b2 (by decide) z1, e, e1, hm _ e (by omega) e1 e2⟩, fun e => absurd (k4.symm.trans e) (by decide)⟩ (ns_26 (hm4 _) (fun n b hn hb z => ?_)) (fun b hb z => (vB_4 k4).mpr (hm _ b (by omega) hb (by rw [mw26b (hm4 _) hb] at z; exact z)))
    rw [mw_nb (by omega) (by omega) (by decide) hb] at z
    unfold nB
    by_cases c : n = d 5
    · rw [if_pos c] at z
      rw [if_pos ⟨k4, c⟩]
      exact ((bit01 2 (by decide) b hb).2.1 rfl).mp z
    · rw [if_neg c] at z
      rw [if_neg (fun e => c e.2)]
      exact hx n b hn hb z
  · have r1 := (rd_ok h b2).1
    obtain ⟨f1, f2⟩ := hef.2.2.2 k4
    rw [show cNm σm0 k = 6 from clo_of a (by decide), show oNm σm0 k = d 6 from clo_of b (by omega)]
    refine ⟨fun i hi b hb z => f2 i b hi hb ?_, bd_sol h hS b2 f1, fun z2 => ?_⟩
    · have e : aNm σm0 k i = agN d i := by
        unfold aNm
        rw [clo_of b4 (by omega)]
        exact (b6 i hi).1
      rw [e] at z
      exact xb _ b (b6 i hi).2 hb z
    · obtain ⟨e, e1, e2⟩ := tb_ex (hm4 (32 + d 6)) z2
      refine hF _ ⟨fun e => absurd (k4.symm.trans e) (by decide), fun _ => ⟨e, e1, hm _ e (by omega) e1 e2⟩⟩ (ns_26 (hm4 _) (ns_nB (by omega) hx)) (fun b hb z => Or.inr (Or.inr (Or.inr (Or.inr (Or.inr ⟨k4, hm _ b (by omega) hb (by rw [mw26b (hm4 _) hb] at z; exact z)⟩)))))
/-- what a solution of the rows has, the acts find -/
theorem cl_sol (h : PO σc0 σm0 G s φ) {l : Nat} {tv : Nat → Nat} (hl : (Rd G σc0 σm0).1 l) (hS : Sol σc0 G s (Rd G σc0 σm0) l tv D) : CL (Rd G σc0 σm0) φ (φ s) l tv (cNm σm0) (oNm σm0) (tNm σm0) (hNm σm0) (wNm σc0 G s φ) (aNm σm0) (UU σc0 G s φ D) D := by
  obtain ⟨s1, s2, s3⟩ := hS
  have ha := h.1.2.2.2.1
  have b2 : ∀ b, b < 2 → (2 : Nat).testBit b = true → b = 1 := fun b hb z => ((bit01 2 (by decide) b hb).2.1 rfl).mp z
  refine ⟨fun k x hk hu => ?_, bd_sol h s2 hl s1.1, fun j hj => ⟨fun b hb z => (s1.2 j hj).1 b hb z, fun z => ⟨fun b hb y => by rw [b2 b hb y]; exact ((s1.2 j hj).2 z).1, fun b hb y => by rw [b2 b hb y]; exact ((s1.2 j hj).2 z).2⟩⟩⟩
  obtain ⟨x1, x2, x3⟩ := rK_ok h.1.2.2.2.2.1.1 s k hk
  have hw : wNm σc0 G s φ k = dn σc0 G (rK φ s k) 11 := rfl
  generalize rK φ s k = p at *
  obtain ⟨i, ei⟩ : ∃ i, k = φ p + i := ⟨k - φ p, by omega⟩
  obtain ⟨u1, u2, u3, u4, u5⟩ := hu p i x1 ei x3
  have hrow := s3 p x1 u1
  have hps := (po_up h (show p + 1 ≤ s by omega) (Nat.le_refl _)).1
  -- a step leads on with the same names
  have step : gA σm0 12 k = nI 0 → i = 0 → k + 1 < φ (p + 1) → ¬ dn σc0 G p 0 = 0 → AC (Rd G σc0 σm0) φ (UU σc0 G s φ D) D k (oNm σm0 k) (tNm σm0 k) (hNm σm0 k) (wNm σc0 G s φ k) (aNm σm0 k) x (cNm σm0 k) := fun e e2 e3 e4 => by
    intro mk _ _
    rw [show cNm σm0 k = 0 from clo_of e (by decide)]
    exact uu_in h (i := 0) x1 (by omega) e3 ⟨u1, fun z => absurd z (by decide), fun _ _ => u2 e2, fun _ z => absurd z e4, fun z => absurd z (by decide)⟩
  have xb : NS x (D.1 p) → ∀ n b, n < 26 → b < 2 → (fm x n).testBit b = true → D.1 p n b := fun hx n b hn hb z => hx n b hn hb (by rw [← fm_b hb]; exact z)
  have ab : i = 2 → ∀ b, b < 2 → (fm x 26).testBit b = true → vB D.2.2.1 (D.1 p) (dn σc0 G p) b := fun e b hb z => (u5 e).2.2 b hb (by rw [← fm_b hb]; exact z)
  rcases rx_of h x1 with ⟨e, l, a0, a1⟩ | ⟨e, l, a0, b, a1⟩ | ⟨e, l, a0, b, b3, b4, b5, b6, b7⟩ | ⟨e, l, a0, b, bv, a2, a3, a4⟩ | ⟨e, l, a0, b, bv, a2, a3, a4, a5, a6, a7⟩ | ⟨e, l, a0, b, bv, b4⟩ | ⟨e, l, a0, bv, a2⟩
  · rcases (show i = 0 ∨ i = 1 by omega) with e1 | e1
    · intro mk _ _
      rw [show cNm σm0 k = 1 from clo_of (by rw [ei, e1]; exact a0) (by decide)]
      exact uu_in h (i := 0) x1 (by omega) (by omega) ⟨u1, fun z => absurd z (by decide), fun _ z => absurd e z, fun _ _ b hb z => ((bit01 1 (by decide) b hb).1 rfl).mp (by rw [mw26b (by decide) hb] at z; exact z), fun z => absurd z (by decide)⟩
    · intro mk _ _
      rw [show cNm σm0 k = 9 from clo_of (by rw [ei, e1]; exact a1) (by decide), hw]
      intro b hb z
      have := u4 e1 e b hb (by rw [← fm_b hb]; exact z)
      rw [this]
      exact hrow.1 e
  · have e1 : i = 0 := by omega
    intro mk _ _
    rw [show cNm σm0 k = 13 from clo_of (by rw [ei, e1]; exact a0) (by decide)]
    have hj := hrow.2.1 e
    rw [e1, Nat.add_zero] at ei
    rw [← ei] at a1
    have hq := (po_up h (show dn σc0 G p 10 + 1 ≤ s by omega) (Nat.le_refl _)).1
    have hq2 := (po_up h (show dn σc0 G p 10 ≤ dn σc0 G p 10 + 1 by omega) (by omega)).2 (by omega)
    rcases a1 with a1 | ⟨a1, a2⟩
    · rw [show oNm σm0 k = φ (dn σc0 G p 10) from clo_of a1 (by omega)]
      exact uu_row h b hj (u2 e1)
    · have l2 : φ (dn σc0 G p 10 + 1) = φ (dn σc0 G p 10) + 2 := by
        rcases rx_of h b with ⟨z, -⟩ | ⟨z, -⟩ | ⟨-, z, -⟩ | ⟨z, -⟩ | ⟨z, -⟩ | ⟨z, -⟩ | ⟨z, -⟩ <;> first | exact z | omega
      rw [show oNm σm0 k = φ (dn σc0 G p 10) + 1 from clo_of a1 (by omega)]
      exact uu_in h (i := 0) b (by omega) (by omega) ⟨hj.1, fun z => absurd z (by decide), fun _ _ n b hn hb z => hj.2 n b hn hb (u2 e1 n b hn hb z), fun _ z => absurd (a2.symm.trans z) (by decide), fun z => absurd z (by decide)⟩
  · rcases (show i = 0 ∨ i = 1 by omega) with e1 | e1
    · exact step (by rw [ei, e1]; exact a0) e1 (by omega) (by omega)
    · intro mk _ _
      have hx := u3 e1 (by omega)
      have hq := (po_up h (show dn σc0 G p 10 ≤ s by omega) (Nat.le_refl _)).2 b5
      rw [e1] at ei
      rw [← ei] at b4 b6 b7
      have hk1 : k + 1 = φ (p + 1) := by omega
      rw [show tNm σm0 k = dn σc0 G p 3 from clo_of b4 (by omega), show hNm σm0 k = φ (dn σc0 G p 10) from clo_of b6 (by omega)]
      rcases b7 with ⟨z1, z2⟩ | ⟨w, w1, w2, w3, w4, w5⟩
      · obtain ⟨j1, j2, j3, j4⟩ := hrow.2.2.1 e z1
        rw [show cNm σm0 k = 12 from clo_of z2 (by decide)]
        refine ⟨j1, ?_, j2, uu_row h b5 j4 hx⟩
        rw [hk1]
        exact uu_row h b j3 hx
      · obtain ⟨j1, j2⟩ := hrow.2.2.2.1 e w w1 w2
        rw [show oNm σm0 k = dn σc0 G p 1 from clo_of w4 (by omega)]
        have nsw : ∀ v, v < 2 → NS (mw x (dn σc0 G p 1) (2 ^ v)) (fun n b => if n = dn σc0 G p 1 then b = v else D.1 p n b) := fun v hv n b hn hb z => by
          rw [mw_nb (by omega) (by omega) (pw2 hv) hb] at z
          show (if n = dn σc0 G p 1 then b = v else D.1 p n b)
          by_cases c : n = dn σc0 G p 1
          · rw [if_pos c] at z ⊢
            exact (tp_b hv hb).mp z
          · rw [if_neg c] at z ⊢
            exact hx n b hn hb z
        have main : ((fm x (dn σc0 G p 1)).testBit w = true → D.2.2.2.2 (dn σc0 G p 3) 0 ∧ UU σc0 G s φ D (k + 1) (mw x (dn σc0 G p 1) (2 ^ w))) ∧ ((fm x (dn σc0 G p 1)).testBit (1 - w) = true → D.2.2.2.2 (dn σc0 G p 3) 1 ∧ UU σc0 G s φ D (φ (dn σc0 G p 10)) (mw x (dn σc0 G p 1) (2 ^ (1 - w)))) := by
          refine ⟨fun z => ?_, fun z => ?_⟩
          · obtain ⟨y1, y2⟩ := j1 (xb hx _ w w5 w1 z)
            refine ⟨y1, ?_⟩
            rw [hk1]
            exact uu_row h b y2 (nsw w w1)
          · obtain ⟨y1, y2⟩ := j2 (xb hx _ (1 - w) w5 (by omega) z)
            exact ⟨y1, uu_row h b5 y2 (nsw (1 - w) (by omega))⟩
        rcases (show w = 0 ∨ w = 1 by omega) with ew | ew <;> subst ew
        · rw [show cNm σm0 k = 10 from clo_of w3 (by decide)]
          exact main
        · rw [show cNm σm0 k = 11 from clo_of w3 (by decide)]
          exact main
  · have hef := (hrow.2.2.2.2 (by omega)).1
    rcases (show i = 0 ∨ i = 1 ∨ i = 2 by omega) with e1 | e1 | e1
    · exact step (by rw [ei, e1]; exact a0) e1 (by omega) (by omega)
    · rw [e1] at ei
      rw [← ei] at bv
      exact b_val h s2 bv (u3 e1 (by omega)) hef (fun y y1 y2 y3 => uu_in h (i := 1) x1 (by omega) (by omega) ⟨u1, fun z => absurd z (by decide), fun z => absurd z (by decide), fun z => absurd z (by decide), fun _ => ⟨y1, y2, y3⟩⟩)
    · intro mk _ _
      have hfi := (hrow.2.2.2.2 (by omega)).2 (u5 e1).1
      have hab := ab e1
      have hns := (u5 e1).2.1
      rw [e1] at ei
      rw [← ei] at a2 a3
      rw [show cNm σm0 k = 7 from clo_of a2 (by decide), show oNm σm0 k = dn σc0 G p 1 from clo_of a3 (by omega)]
      show UU σc0 G s φ D (k + 1) (mw x (dn σc0 G p 1) (fm x 26))
      rw [show k + 1 = φ (p + 1) by omega]
      refine uu_row h b (hfi.1 e) (fun n b hn hb z => ?_)
      rw [mw_nb (by omega) (by omega) fm_lt hb] at z
      show (if n = dn σc0 G p 1 then _ else _)
      by_cases c : n = dn σc0 G p 1
      · rw [if_pos c] at z ⊢
        exact hab b hb z
      · rw [if_neg c] at z ⊢
        exact hns n b hn hb z
  · have hef := (hrow.2.2.2.2 (by omega)).1
    rcases (show i = 0 ∨ i = 1 ∨ i = 2 by omega) with e1 | e1 | e1
    · exact step (by rw [ei, e1]; exact a0) e1 (by omega) (by omega)
    · rw [e1] at ei
      rw [← ei] at bv
      exact b_val h s2 bv (u3 e1 (by omega)) hef (fun y y1 y2 y3 => uu_in h (i := 1) x1 (by omega) (by omega) ⟨u1, fun z => absurd z (by decide), fun z => absurd z (by decide), fun z => absurd z (by decide), fun _ => ⟨y1, y2, y3⟩⟩)
    · intro mk _ _
      have hfi := ((hrow.2.2.2.2 (by omega)).2 (u5 e1).1).2.1 e
      have hab := ab e1
      have hns := (u5 e1).2.1
      rw [e1] at ei
      rw [← ei] at a2 a3 a5
      rw [show cNm σm0 k = 8 from clo_of a2 (by decide), show oNm σm0 k = dn σc0 G p 1 from clo_of a3 (by omega), show tNm σm0 k = dn σc0 G p 2 from clo_of a5 (by omega)]
      intro z
      obtain ⟨j1, j2⟩ := hfi.2 (hns _ 1 a4 (by decide) (by rw [← fm_b (by decide)]; exact z))
      refine ⟨fun b hb z => j1 b hb (hab b hb z), ?_⟩
      rw [show k + 1 = φ (p + 1) by omega]
      refine uu_row h b j2 (fun n b hn hb z => ?_)
      rw [mw_nb (by omega) (by omega) (by decide) hb] at z
      show (if n = dn σc0 G p 1 then _ else _)
      by_cases c : n = dn σc0 G p 1
      · rw [if_pos c] at z ⊢
        exact b2 b hb z
      · rw [if_neg c] at z ⊢
        exact hns n b hn hb z
  · have hef := (hrow.2.2.2.2 (by omega)).1
    rcases (show i = 0 ∨ i = 1 by omega) with e1 | e1
    · exact step (by rw [ei, e1]; exact a0) e1 (by omega) (by omega)
    · rw [e1] at ei
      rw [← ei] at bv
      refine b_val h s2 bv (u3 e1 (by omega)) hef (fun y y1 y2 y3 => ?_)
      rw [show k + 1 = φ (p + 1) by omega]
      exact uu_row h b (((hrow.2.2.2.2 (by omega)).2 y1).2.2.1 e) y2
  · have hef := (hrow.2.2.2.2 (by omega)).1
    rcases (show i = 0 ∨ i = 1 ∨ i = 2 by omega) with e1 | e1 | e1
    · exact step (by rw [ei, e1]; exact a0) e1 (by omega) (by omega)
    · rw [e1] at ei
      rw [← ei] at bv
      exact b_val h s2 bv (u3 e1 (by omega)) hef (fun y y1 y2 y3 => uu_in h (i := 1) x1 (by omega) (by omega) ⟨u1, fun z => absurd z (by decide), fun z => absurd z (by decide), fun z => absurd z (by decide), fun _ => ⟨y1, y2, y3⟩⟩)
    · intro mk _ _
      have hfi := ((hrow.2.2.2.2 (by omega)).2 (u5 e1).1).2.2.2 e
      have hab := ab e1
      rw [e1] at ei
      rw [← ei] at a2
      rw [show cNm σm0 k = 9 from clo_of a2 (by decide), hw]
      exact fun b hb z => hfi b hb (hab b hb z)
end
