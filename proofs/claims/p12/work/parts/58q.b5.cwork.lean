/-! the class's FACTS: the value of a row -/
theorem vB_0 {M g : Nat → Nat → Prop} {d : Nat → Nat} (h : d 4 = 0) {b : Nat} : vB M g d b ↔ b = 0 := by
  unfold vB
  rw [h]
  refine ⟨fun e => ?_, fun e => Or.inl ⟨rfl, e⟩⟩
  rcases e with e | e | e | e | e | e
  · exact e.2
  · exact absurd e (by decide)
  · exact absurd e.1 (by decide)
  · exact absurd e.1 (by decide)
  · exact absurd e.1 (by decide)
  · exact absurd e.1 (by decide)
theorem vB_1 {M g : Nat → Nat → Prop} {d : Nat → Nat} (h : d 4 = 1) {b : Nat} : vB M g d b := Or.inr (Or.inl h)
theorem vB_2 {M g : Nat → Nat → Prop} {d : Nat → Nat} (h : d 4 = 2) {b : Nat} : vB M g d b ↔ b = 1 := by
  unfold vB
  rw [h]
  refine ⟨fun e => ?_, fun e => Or.inr (Or.inr (Or.inl ⟨rfl, e⟩))⟩
  rcases e with e | e | e | e | e | e
  · exact absurd e.1 (by decide)
  · exact absurd e (by decide)
  · exact e.2
  · exact absurd e.1 (by decide)
  · exact absurd e.1 (by decide)
  · exact absurd e.1 (by decide)
theorem vB_3 {M g : Nat → Nat → Prop} {d : Nat → Nat} (h : d 4 = 3) {b : Nat} : vB M g d b ↔ g (d 5) b := by
  unfold vB
  rw [h]
  refine ⟨fun e => ?_, fun e => Or.inr (Or.inr (Or.inr (Or.inl ⟨rfl, e⟩)))⟩
  rcases e with e | e | e | e | e | e
  · exact absurd e.1 (by decide)
  · exact absurd e (by decide)
  · exact absurd e.1 (by decide)
  · exact e.2
  · exact absurd e.1 (by decide)
  · exact absurd e.1 (by decide)
theorem vB_4 {M g : Nat → Nat → Prop} {d : Nat → Nat} (h : d 4 = 4) {b : Nat} : vB M g d b ↔ M (40 + d 6) b := by
  unfold vB
  rw [h]
  refine ⟨fun e => ?_, fun e => Or.inr (Or.inr (Or.inr (Or.inr (Or.inl ⟨rfl, e⟩))))⟩
  rcases e with e | e | e | e | e | e
  · exact absurd e.1 (by decide)
  · exact absurd e (by decide)
  · exact absurd e.1 (by decide)
  · exact absurd e.1 (by decide)
  · exact e.2
  · exact absurd e.1 (by decide)
theorem c_work {N : Nat} {σc0 σm0 σ : St} {G s p : Nat} {φ : Nat → Nat} {x : Int64} (hO : PO σc0 σm0 G s φ) (hV : CV σc0 G σ) (hW : CW σ) (hp : p < s) (hx : WX x) (hT : TH σ) (hnz : (∃ n, gB x n 1) → nz σ) (hK : VK (Rd G σc0 σm0) (dn σc0 G p)) : Par (x1_work N σ (nI p) x) (fun r σ' => WQ σc0 G (Rd G σc0 σm0) (dn σc0 G p) x σ r σ') := by
  have hV1 : CV σc0 G (sL σ 913 x) := cv_L hV
  have hW1 : CW (sL σ 913 x) := hW
  have hT1 : TH (sL σ 913 x) := hT
  have hz1 : (∃ n, gB x n 1) → nz (sL σ 913 x) := hnz
  have hL1 : gL (sL σ 913 x) 913 = x := gL_L
  have hC1 : OC σc0 G σ (sL σ 913 x) := oc_L hV hW
  unfold x1_work
  rw [cfd hO hV, gd_t, cgF (v := 5) hO hV hp (q := 5) (by decide) rfl, bd_s, cfd hO hV, gd_t, cgF (v := 6) hO hV hp (q := 6) (by decide) rfl, bd_s, cfd hO hV, gd_t]
  rw [show gP σ 907 = gP (sL σ 913 x) 907 from rfl, cgF (v := 4) hO hV1 hp (q := 4) (by decide) rfl, bd_s]
  generalize hσ : sL σ 913 x = σ1 at *
  have fl1 : ∀ D, FL (Dc σ) D → FL (Dc σ1) D := fun D h => by rw [← hσ]; exact h
  have v1 : vN σ1 = vN σ := by rw [← hσ]; rfl
  rcases hK with k | k | ⟨k, k5, k6⟩ | ⟨k, k5⟩ | ⟨k, k5, k6⟩ | ⟨k, kR, b, kb, k8, kg⟩
  · -- nothing
    rw [k, if_neg (show ¬ nI 0 = 1 by decide), if_neg (show ¬ nI 0 = 2 by decide), if_neg (show ¬ nI 0 = 3 by decide), if_neg (show ¬ nI 0 = 4 by decide), if_neg (show ¬ nI 0 = 5 by decide)]
    refine par_some ⟨1, rfl, by decide, hC1, fun D h _ => fl1 D h, efV_n (by omega) (by omega) (by omega) (by omega), fun b hb h => (vB_0 k).mpr (((bit01 1 (by decide) b hb).1 rfl).mp h), fun _ b hb h => ((bit01 1 (by decide) b hb).1 rfl).mpr ((vB_0 k).mp h), hT1, fun h => absurd h (by decide), Or.inr ⟨by rw [hL1]; exact hx, by decide, aL_n (by omega) (by omega), fun n b _ _ => by rw [hL1]; exact nB_n (by omega)⟩⟩
  · -- any
    rw [k, if_pos (show nI 1 = 1 from rfl)]
    refine par_bd (c_raise (m := 40) (v := 2) hV1 hW1 (by decide) (by decide)) (fun _ σ2 q2 => par_bd (c_raise (m := 41) (v := 2) q2.1.1 q2.1.2.1 (by decide) (by decide)) (fun _ σ3 q3 => par_some ?_))
    have p40 : (Dc σ3).2.2.1 40 1 := q3.1.2.2.1.2.2.1 _ _ (q2.2.2.1 1 (by decide) rfl)
    have p41 : (Dc σ3).2.2.1 41 1 := q3.2.2.1 1 (by decide) rfl
    have hz3 : nz σ3 := ⟨tb_nz p40.2.2, tb_nz p41.2.2⟩
    have b2 : ∀ b, b < 2 → (2 : Nat).testBit b = true → b = 1 := fun b hb h => by
      rcases (show b = 0 ∨ b = 1 by omega) with e | e
      · subst e; exact absurd h (by decide)
      · exact e
    refine ⟨3, rfl, by decide, oc_t hC1 (oc_t q2.1 q3.1), fun D h1 h2 => q3.2.1 D (q2.2.1 D (fl1 D h1) (fun b hb h => by rw [b2 b hb h]; exact (h2.1 k).1)) (fun b hb h => by rw [b2 b hb h]; exact (h2.1 k).2), ⟨fun _ => ⟨p40, p41⟩, fun e => absurd (k.symm.trans e) (by decide), fun e => absurd (k.symm.trans e) (by decide), fun e => absurd (k.symm.trans e) (by decide)⟩, fun b hb _ => vB_1 k, fun _ b hb _ => (bit01 3 (by decide) b hb).2.2 rfl, th_nz hz3, fun _ => hz3, Or.inr ⟨by rw [q3.2.2.2.1, q2.2.2.2.1, hL1]; exact hx, by decide, aL_n (by omega) (by omega), fun n b _ _ => by rw [q3.2.2.2.1, q2.2.2.2.1, hL1]; exact nB_n (by omega)⟩⟩
  · -- new
    rw [k, if_neg (show ¬ nI 2 = 1 by decide), if_pos (show nI 2 = 2 from rfl), c_fact k5, bd_s]
    refine par_bd (c_raise (m := 40) hV1 hW1 (by decide) fc_lt) (fun _ σ2 q2 => ?_)
    rw [c_fact k6, bd_s]
    refine par_bd (c_raise (m := 41) q2.1.1 q2.1.2.1 (by decide) fc_lt) (fun _ σ3 q3 => par_some ?_)
    have hz3 : nz σ3 := by
      obtain ⟨b, b1, b2⟩ := hx.2 _ k5
      obtain ⟨c, c1, c2⟩ := hx.2 _ k6
      exact ⟨tb_nz (q3.1.2.2.1.2.2.1 _ _ (q2.2.2.1 b b1 (by rw [fc_b b1]; exact b2))).2.2, tb_nz (q3.2.2.1 c c1 (by rw [fc_b c1]; exact c2)).2.2⟩
    refine ⟨2, rfl, by decide, oc_t hC1 (oc_t q2.1 q3.1), fun D h1 h2 => q3.2.1 D (q2.2.1 D (fl1 D h1) (fun b hb h => (h2.2.1 k b hb).1 ⟨k5, hb, by rw [← fc_b hb]; exact h⟩)) (fun b hb h => (h2.2.1 k b hb).2 ⟨k6, hb, by rw [← fc_b hb]; exact h⟩), ⟨fun e => absurd (k.symm.trans e) (by decide), fun _ b hb => ⟨fun h => q3.1.2.2.1.2.2.1 _ _ (q2.2.2.1 b hb (by rw [fc_b hb]; exact h.2.2)), fun h => q3.2.2.1 b hb (by rw [fc_b hb]; exact h.2.2)⟩, fun e => absurd (k.symm.trans e) (by decide), fun e => absurd (k.symm.trans e) (by decide)⟩, fun b hb h => (vB_2 k).mpr (((bit01 2 (by decide) b hb).2.1 rfl).mp h), fun _ b hb h => ((bit01 2 (by decide) b hb).2.1 rfl).mpr ((vB_2 k).mp h), th_nz hz3, fun _ => hz3, Or.inr ⟨by rw [q3.2.2.2.1, q2.2.2.2.1, hL1]; exact hx, by decide, aL_n (by omega) (by omega), fun n b _ _ => by rw [q3.2.2.2.1, q2.2.2.2.1, hL1]; exact nB_n (by omega)⟩⟩
  · -- a name
    rw [k, if_neg (show ¬ nI 3 = 1 by decide), if_neg (show ¬ nI 3 = 2 by decide), if_pos (show nI 3 = 3 from rfl), c_fact k5, bd_s]
    have hne : ¬ fc x (dn σc0 G p 5) = 0 := by
      obtain ⟨b, b1, b2⟩ := hx.2 _ k5
      exact tb_nz (by rw [fc_b b1]; exact b2)
    refine par_some ⟨fc x (dn σc0 G p 5), rfl, fc_lt, hC1, fun D h _ => fl1 D h, efV_n (by omega) (by omega) (by omega) (by omega), fun b hb h => (vB_3 k).mpr ⟨k5, hb, by rw [← fc_b hb]; exact h⟩, fun _ b hb h => by rw [fc_b hb]; exact ((vB_3 k).mp h).2.2, hT1, fun h => hz1 ⟨_, k5, by decide, by rw [← fc_b (by decide)]; exact h⟩, Or.inr ⟨by rw [hL1]; exact hx, hne, aL_n (by omega) (by omega), fun n b _ _ => by rw [hL1]; exact nB_n (by omega)⟩⟩
  · -- a field
    rw [k, if_neg (show ¬ nI 4 = 1 by decide), if_neg (show ¬ nI 4 = 2 by decide), if_neg (show ¬ nI 4 = 3 by decide), if_pos (show nI 4 = 4 from rfl), cfd hO hV1, gd_t, cgF (v := 7) hO hV1 hp (q := 7) (by decide) rfl, bd_s, c_fact k5, bd_s]
    refine par_bd (c_note hV1 hW1 dn_lt fc_lt) (fun _ σ2 q2 => ?_)
    obtain ⟨q2a, q2b, q2c⟩ := q2
    rw [c_narrow (y := 2) (w := 1) k5 (by decide) rfl, bd_s, show (40 : Int32) + nI (dn σc0 G p 6) = nI (40 + dn σc0 G p 6) from nI_add 40 _]
    refine par_bd (c_at (show 40 + dn σc0 G p 6 < 42 by omega)) (fun r σ3 y => par_some ?_)
    obtain ⟨y1, y2⟩ := y
    obtain ⟨x1, x2⟩ := q2a.1.2.1.1 (40 + dn σc0 G p 6) (by omega)
    have x1 : gA σ2 12 (40 + dn σc0 G p 6) = nI (cmk σ2 (40 + dn σc0 G p 6)) := x1
    have x2 : cmk σ2 (40 + dn σc0 G p 6) < 4 := x2
    have hT2 : TH σ2 := th_qs hW1 q2a hT1
    have e12 : ∀ m, cmk σ2 m = cmk σ1 m := fun m => by unfold cmk; rw [q2a.2.2.1]
    rw [y1, y2, show gA (sL σ2 913 (nw x (dn σc0 G p 5) 1)) 12 (40 + dn σc0 G p 6) = nI (cmk σ2 (40 + dn σc0 G p 6)) from x1]
    have hvb : ∀ b, b < 2 → (vB (Dc σ2).2.2.1 (gB x) (dn σc0 G p) b ↔ (cmk σ2 (40 + dn σc0 G p 6)).testBit b = true) := fun b hb => (vB_4 k).trans (mk_b (by omega) hb)
    have hn : (cmk σ2 (40 + dn σc0 G p 6)).testBit 1 = true → nz σ2 := fun h => hT2 (Or.inr ⟨_, by omega, by decide, h⟩)
    refine ⟨cmk σ2 (40 + dn σc0 G p 6), rfl, x2, oc_t hC1 (oc_t q2a.1 (oc_L q2a.1.1 q2a.1.2.1)), fun D h1 h2 => q2b D (fl1 D h1) (fun u b hb h => h2.2.2.1 k u b hb ⟨k5, hb, by rw [← fc_b hb]; exact h⟩), ⟨fun e => absurd (k.symm.trans e) (by decide), fun e => absurd (k.symm.trans e) (by decide), fun _ u b hb h => q2c u b hb (by rw [fc_b hb]; exact h.2.2), fun e => absurd (k.symm.trans e) (by decide)⟩, fun b hb h => (hvb b hb).mpr h, fun _ b hb h => (hvb b hb).mp h, hT2, hn, ?_⟩
    rw [gL_L]
    unfold nw
    by_cases c : (fc x (dn σc0 G p 5)).testBit 1 = true
    · have gx : gB x (dn σc0 G p 5) 1 := ⟨k5, by decide, by rw [← fc_b (by decide)]; exact c⟩
      have hz2 : nz σ2 := nz_m hW1 q2a.1.2.2 (hz1 ⟨_, gx⟩)
      have h0 : ¬ cmk σ2 (40 + dn σc0 G p 6) = 0 := by
        rcases (show dn σc0 G p 6 = 0 ∨ dn σc0 G p 6 = 1 by omega) with e | e
        · rw [e]; exact hz2.1
        · rw [e]; exact hz2.2
      obtain ⟨b, b1, b2⟩ := tb_ex x2 h0
      rw [if_pos c]
      refine Or.inr ⟨cw_wx hx k5 (by decide) (by decide), h0, ⟨fun _ => ⟨gx, b, b1, by omega, b1, b2⟩, fun e => absurd (k.symm.trans e) (by decide)⟩, fun n b hn hb => ?_⟩
      rw [cw_g k5]
      unfold nB
      by_cases e : n = dn σc0 G p 5
      · rw [if_pos e, if_pos ⟨k, e⟩]
        refine ⟨fun h => ((bit01 2 (by decide) b hb).2.1 rfl).mp h.2.2, fun h => ⟨hn, hb, ((bit01 2 (by decide) b hb).2.1 rfl).mpr h⟩⟩
      · rw [if_neg e, if_neg (fun h => e h.2)]
        exact ⟨fun h => h.2.2, fun h => ⟨hn, hb, h⟩⟩
    · rw [if_neg c]
      refine Or.inl ⟨rfl, fun _ h => c ?_⟩
      rw [fc_b (by decide)]
      exact (h.1 k).1.2.2
  · -- a call
    rw [k, if_neg (show ¬ nI 5 = 1 by decide), if_neg (show ¬ nI 5 = 2 by decide), if_neg (show ¬ nI 5 = 3 by decide), if_neg (show ¬ nI 5 = 4 by decide), if_pos (show nI 5 = 5 from rfl)]
    refine par_bd (c_call hO hV1 hW1 hp hx hL1 hT1 hz1 k rfl kR kb k8 kg) (fun r σ2 q => par_some ?_)
    obtain ⟨v, q1, q2, q3, q4, q5, q6, q7, q8, q9, q10⟩ := q
    rw [v1] at q7 q10
    exact ⟨v, q1, q2, oc_t hC1 q3, fun D h1 h2 => q4 D (fl1 D h1) h2, q5, q6, q7, q8, q9, q10⟩
/-- what the end of a row asks for -/
def FI (D : FD) (d : Nat → Nat) (p v : Nat) (y : Int64) : Prop := (d 0 = 3 → jn D (p + 1) (gB (cw y (d 1) v))) ∧ (d 0 = 4 → (d 3 < 40 → ∀ b, b < 2 → gB y (d 1) b → D.2.2.2.2 (100 + d 3) b) ∧ (gB y (d 1) 1 → PD D (40 + d 2) v ∧ jn D (p + 1) (gB (cw y (d 1) 2)))) ∧ (d 0 = 5 → jn D (p + 1) (gB y)) ∧ (d 0 = 6 → PD D (32 + d 11) v)
theorem c_finish {N : Nat} {σc0 σm0 σ : St} {G s p v : Nat} {φ : Nat → Nat} {y : Int64} (hO : PO σc0 σm0 G s φ) (hV : CV σc0 G σ) (hW : CW σ) (hp : p < s) (hL : gL σ 913 = y) (hy : WX y) (hT : TH σ) (hz : (∃ n, gB y n 1) → nz σ) (hv : v < 4) (hv0 : ¬ v = 0) (hv1 : v.testBit 1 = true → nz σ) (hR : RF (Rd G σc0 σm0) (dn σc0 G p) s p) (h3 : 3 ≤ dn σc0 G p 0) : Par (x1_finish N σ (nI p) (nI (dn σc0 G p 0)) (nI v)) (fun _ σ' => OC σc0 G σ σ' ∧ (∀ D, FL (Dc σ) D → FI D (dn σc0 G p) p v y → FL (Dc σ') D) ∧ FI (Dc σ') (dn σc0 G p) p v y ∧ TH σ') := by
  have hs := hO.1.2.2.1
  have hz2 : (∃ n, gB (cw y (dn σc0 G p 1) v) n 1) → dn σc0 G p 1 < 26 → nz σ := fun ⟨n, h⟩ h1 => by
    obtain ⟨g1, g2, g3⟩ := (cw_g h1).mp h
    by_cases e : n = dn σc0 G p 1
    · rw [if_pos e] at g3; exact hv1 g3
    · rw [if_neg e] at g3; exact hz ⟨n, g3⟩
  unfold x1_finish
  rw [cfd hO hV, gd_t, cgF (v := 1) hO hV hp (q := 1) (by decide) rfl, bd_s]
  rcases hR with ⟨e, -⟩ | ⟨e, -⟩ | ⟨e, -⟩ | ⟨e, k1, kp, -⟩ | ⟨e, k1, k2, kp, -⟩ | ⟨e, kp, -⟩ | ⟨e, kR, -⟩
  · omega
  · omega
  · omega
  · rw [e, if_pos (show nI 3 = 3 from rfl), hL, c_with k1 hv, bd_s, if_neg (fun h => h.elim (wx_ne hy) hv0), nI_1]
    refine par_bd (c_join hV hW (show p + 1 < 304 by omega) (cw_wx hy k1 hv hv0)) (fun _ σ2 q => par_some ⟨q.1, fun D h1 h2 => q.2.1 D h1 (h2.1 e), ⟨fun _ => q.2.2.1, fun e2 => absurd (e.symm.trans e2) (by decide), fun e2 => absurd (e.symm.trans e2) (by decide), fun e2 => absurd (e.symm.trans e2) (by decide)⟩, th_join hW q hT (fun h => hz2 h k1)⟩)
  · rw [e, if_neg (show ¬ nI 4 = 3 by decide), if_pos (show nI 4 = 4 from rfl), cfd hO hV, gd_t, cgF (v := 3) hO hV hp (q := 3) (by decide) rfl, bd_s, hL, c_fact k1, bd_s]
    refine par_bd (c_note hV hW dn_lt fc_lt) (fun _ σ2 q2 => ?_)
    obtain ⟨q2a, q2b, q2c⟩ := q2
    rw [q2a.2.1, hL, c_narrow (y := 2) (w := 1) k1 (by decide) rfl, bd_s]
    have hT2 : TH σ2 := th_qs hW q2a hT
    by_cases c : (fc y (dn σc0 G p 1)).testBit 1 = true
    · have gy : gB y (dn σc0 G p 1) 1 := ⟨k1, by decide, by rw [← fc_b (by decide)]; exact c⟩
      have enw : nw y (dn σc0 G p 1) 1 = cw y (dn σc0 G p 1) 2 := if_pos c
      have hwx : WX (cw y (dn σc0 G p 1) 2) := cw_wx hy k1 (by decide) (by decide)
      rw [enw, if_neg (fun h => wx_ne hwx (lgc.mp h)), cfd hO q2a.1.1, gd_t, show gP σ2 907 = gP (sL σ2 913 (cw y (dn σc0 G p 1) 2)) 907 from rfl, cgF (v := 2) hO (cv_L q2a.1.1) hp (q := 2) (by decide) rfl, bd_s, show (40 : Int32) + nI (dn σc0 G p 2) = nI (40 + dn σc0 G p 2) from nI_add 40 _]
      have hV3 : CV σc0 G (sL σ2 913 (cw y (dn σc0 G p 1) 2)) := cv_L q2a.1.1
      have hW3 : CW (sL σ2 913 (cw y (dn σc0 G p 1) 2)) := q2a.1.2.1
      have hT3 : TH (sL σ2 913 (cw y (dn σc0 G p 1) 2)) := hT2
      have hz3 : nz (sL σ2 913 (cw y (dn σc0 G p 1) 2)) := nz_m hW q2a.1.2.2 (hz ⟨_, gy⟩)
      refine par_bd (c_raise hV3 hW3 (show 40 + dn σc0 G p 2 < 42 by omega) hv) (fun _ σ4 q4 => ?_)
      rw [q4.2.2.2.1, gL_L, nI_1]
      refine par_bd (c_join q4.1.1 q4.1.2.1 (show p + 1 < 304 by omega) hwx) (fun _ σ5 q5 => par_some ⟨oc_t q2a.1 (oc_t (oc_L q2a.1.1 q2a.1.2.1) (oc_t q4.1 q5.1)), fun D h1 h2 => q5.2.1 D (q4.2.1 D (q2b D h1 (fun u b hb h => (h2.2.1 e).1 u b hb ⟨k1, hb, by rw [← fc_b hb]; exact h⟩)) ((h2.2.1 e).2 gy).1) ((h2.2.1 e).2 gy).2, ⟨fun e2 => absurd (e.symm.trans e2) (by decide), fun _ => ⟨fun u b hb h => q5.1.2.2.1.2.2.2.2 _ _ (q4.1.2.2.1.2.2.2.2 _ _ (q2c u b hb (by rw [fc_b hb]; exact h.2.2))), fun _ => ⟨fun b hb h => q5.1.2.2.1.2.2.1 _ _ (q4.2.2.1 b hb h), q5.2.2.1⟩⟩, fun e2 => absurd (e.symm.trans e2) (by decide), fun e2 => absurd (e.symm.trans e2) (by decide)⟩, th_join q4.1.2.1 q5 (th_raise hW3 hv (by omega) q4 hT3 (fun _ => nz_m hW3 q4.1.2.2 hz3)) (fun _ => nz_m hW3 q4.1.2.2 hz3)⟩)
    · have enw : nw y (dn σc0 G p 1) 1 = 0 := if_neg c
      have ngy : ¬ gB y (dn σc0 G p 1) 1 := fun h => c (by rw [fc_b (by decide)]; exact h.2.2)
      rw [enw, if_pos (lgc.mpr rfl)]
      exact par_some ⟨oc_t q2a.1 (oc_L q2a.1.1 q2a.1.2.1), fun D h1 h2 => q2b D h1 (fun u b hb h => (h2.2.1 e).1 u b hb ⟨k1, hb, by rw [← fc_b hb]; exact h⟩), ⟨fun e2 => absurd (e.symm.trans e2) (by decide), fun _ => ⟨fun u b hb h => q2c u b hb (by rw [fc_b hb]; exact h.2.2), fun h => absurd h ngy⟩, fun e2 => absurd (e.symm.trans e2) (by decide), fun e2 => absurd (e.symm.trans e2) (by decide)⟩, hT2⟩
  · rw [e, if_neg (show ¬ nI 5 = 3 by decide), if_neg (show ¬ nI 5 = 4 by decide), if_neg (show ¬ nI 5 = 6 by decide), hL, nI_1]
    exact par_bd (c_join hV hW (show p + 1 < 304 by omega) hy) (fun _ σ2 q => par_some ⟨q.1, fun D h1 h2 => q.2.1 D h1 (h2.2.2.1 e), ⟨fun e2 => absurd (e.symm.trans e2) (by decide), fun e2 => absurd (e.symm.trans e2) (by decide), fun _ => q.2.2.1, fun e2 => absurd (e.symm.trans e2) (by decide)⟩, th_join hW q hT hz⟩)
  · have h8 := (rd_ok hO kR).1
    rw [e, if_neg (show ¬ nI 6 = 3 by decide), if_neg (show ¬ nI 6 = 4 by decide), if_pos (show nI 6 = 6 from rfl), cfd hO hV, gd_t, cgF (v := 11) hO hV hp (q := 11) (by decide) rfl, bd_s, show (32 : Int32) + nI (dn σc0 G p 11) = nI (32 + dn σc0 G p 11) from nI_add 32 _]
    exact par_bd (c_raise hV hW (show 32 + dn σc0 G p 11 < 42 by omega) hv) (fun _ σ2 q => par_some ⟨q.1, fun D h1 h2 => q.2.1 D h1 (h2.2.2.2 e), ⟨fun e2 => absurd (e.symm.trans e2) (by decide), fun e2 => absurd (e.symm.trans e2) (by decide), fun e2 => absurd (e.symm.trans e2) (by decide), fun _ => q.2.2.1⟩, th_raise hW hv (by omega) q hT (fun h => nz_m hW q.1.2.2 (hv1 h))⟩)
