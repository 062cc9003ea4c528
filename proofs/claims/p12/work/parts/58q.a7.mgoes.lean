/-! the reference's FACTS: every act -/
theorem g_things {N a : Nat} {U : Nat → Int64 → Prop} {D : FD} {σ : St} (hW : WM a σ) : Par (m_putsThings N σ) (fun _ σ' => GO a U D (PD D 40 2 ∧ PD D 41 2) (fun σ' => Pm σ' 40 2 ∧ Pm σ' 41 2) σ σ') := by
  unfold m_putsThings
  exact par_bd (g_puts (a := a) (U := U) (D := D) (m := 40) (v := 2) hW (by decide) (by decide)) (fun _ σ2 g1 => par_bd (g_puts (a := a) (U := U) (D := D) (m := 41) (v := 2) g1.1 (by decide) (by decide)) (fun _ σ3 g2 => par_some (go_t g1 sb_P g2 (fun c => c.1) (fun c _ => c.2) (fun e1 e2 => ⟨e1, e2⟩))))
/-- what an act asks of (U, D), whatever marks within D are read -/
def AC (R : RD) (φ : Nat → Nat) (U : Nat → Int64 → Prop) (D : FD) (k o t h ow : Nat) (ag : Nat → Nat) (x : Int64) (c : Nat) : Prop := ∀ mk : Nat → Nat, (∀ m b, m < 42 → b < 2 → (mk m).testBit b = true → D.2.2.1 m b) → (∀ m, mk m < 4) → AE R k o t h ow ag mk (PD D) U D.2.2.2.2 (BD R φ U D) x c
def AS (R : RD) (φ : Nat → Nat) (σ : St) (k o t h ow : Nat) (ag : Nat → Nat) (x : Int64) (c : Nat) : Prop := AE R k o t h ow ag (mkv σ) (Pm σ) (Fm σ) (Tm σ) (Bm R φ σ) x c
theorem g_goes {N a : Nat} {U : Nat → Int64 → Prop} {D : FD} {σ σc0 σm0 : St} {G s k c o t h ow : Nat} {ag φ : Nat → Nat} {x : Int64} (hU : ∀ k x y, U k x → U k y → U k (x ||| y)) (hO : PO σc0 σm0 G s φ) (hq : Kq σm0 σ) (hW : WM a σ) (ha : a ≤ 1299) (hk : k < a) (hc : gA σm0 12 k = nI c) (hB : AB σm0 (Rd G σc0 σm0) a k o t h ow ag c) (hx : lb x 60 = true) : Par (m_goes N σ (nI k) x) (fun _ σ' => GO a U D (AC (Rd G σc0 σm0) φ U D k o t h ow ag x c) (fun σ' => AS (Rd G σc0 σm0) φ σ' k o t h ow ag x c) σ σ') := by
  have h0 : ∀ m, (fun _ => 0 : Nat → Nat) m < 4 := fun _ => Nat.zero_lt_succ 3
  have hk2 : k < 2 ^ 31 := by omega
  unfold m_goes
  rw [nI_clamp (n := k) hk2, hq.1 12 (by decide), hc]
  refine par_gd (fun _ => ?_)
  match c, hB with
  | 0, hB =>
    rw [if_pos (show nI 0 = 0 from rfl), nI_1]
    exact par_bd (g_flows (a := a) (D := D) hU hW (by have : k + 1 < a := hB; omega) hx) (fun _ σ' z => par_some (go_m z (fun e => e _ mk0 h0) id))
  | 1, hB =>
    rw [if_neg (show ¬ nI 1 = 0 by decide), if_pos (show nI 1 = 1 from rfl), nI_1, show m_with N σ x 26 1 = some (mw x 26 1, σ) from n_with26 (v := 1), bd_s]
    exact par_bd (g_flows (a := a) (D := D) hU hW (by have : k + 1 < a := hB; omega) (by rw [mw_60 (by decide) (by decide)]; exact hx)) (fun _ σ' z => par_some (go_m z (fun e => e _ mk0 h0) id))
  | 2, hB =>
    rw [if_neg (show ¬ nI 2 = 0 by decide), if_neg (show ¬ nI 2 = 1 by decide), if_pos (show nI 2 = 2 from rfl), nI_1]
    refine par_bd (g_things (a := a) (U := U) (D := D) hW) (fun _ σ1 g1 => ?_)
    rw [show m_with N σ1 x 26 3 = some (mw x 26 3, σ1) from n_with26 (v := 3), bd_s]
    exact par_bd (g_flows (a := a) (D := D) hU g1.1 (by have : k + 1 < a := hB; omega) (by rw [mw_60 (by decide) (by decide)]; exact hx)) (fun _ σ' z => par_some (go_t g1 (sb_and sb_P sb_P) z (fun e => ⟨(e _ mk0 h0).1, (e _ mk0 h0).2.1⟩) (fun e _ => (e _ mk0 h0).2.2) (fun e1 e2 => ⟨e1.1, e1.2, e2⟩)))
  | 3, hB =>
    obtain ⟨b1, b2, b3, b4, b5⟩ := hB
    rw [if_neg (show ¬ nI 3 = 0 by decide), if_neg (show ¬ nI 3 = 1 by decide), if_neg (show ¬ nI 3 = 2 by decide), if_pos (show nI 3 = 3 from rfl), nI_1, hq.1 13 (by decide), b2, n_fact (by omega), bd_s]
    refine par_gd (fun _ => par_bd (g_puts (a := a) (U := U) (D := D) (m := 40) hW (by decide) fm_lt) (fun _ σ1 g1 => par_gd (fun _ => ?_)))
    rw [(kq_up hq g1.2.1).1 14 (by decide), b4, n_fact (by omega), bd_s]
    refine par_bd (g_puts (a := a) (U := U) (D := D) (m := 41) g1.1 (by decide) fm_lt) (fun _ σ2 g2 => ?_)
    rw [show m_with N σ2 x 26 2 = some (mw x 26 2, σ2) from n_with26 (v := 2), bd_s]
    have g12 : GO a U D (PD D 40 (fm x o) ∧ PD D 41 (fm x t)) (fun σ' => Pm σ' 40 (fm x o) ∧ Pm σ' 41 (fm x t)) σ σ2 := go_t g1 sb_P g2 (fun e => e.1) (fun e _ => e.2) (fun e1 e2 => ⟨e1, e2⟩)
    exact par_bd (g_flows (a := a) (D := D) hU g2.1 (by omega) (by rw [mw_60 (by decide) (by decide)]; exact hx)) (fun _ σ' z => par_some (go_t g12 (sb_and sb_P sb_P) z (fun e => ⟨(e _ mk0 h0).1, (e _ mk0 h0).2.1⟩) (fun e _ => (e _ mk0 h0).2.2) (fun e1 e2 => ⟨e1.1, e1.2, e2⟩)))
  | 4, hB =>
    obtain ⟨b1, b2, b3⟩ := hB
    rw [if_neg (show ¬ nI 4 = 0 by decide), if_neg (show ¬ nI 4 = 1 by decide), if_neg (show ¬ nI 4 = 2 by decide), if_neg (show ¬ nI 4 = 3 by decide), if_pos (show nI 4 = 4 from rfl), nI_1, hq.1 13 (by decide), b2, n_fact (by omega), bd_s, n_with26, bd_s]
    exact par_gd (fun _ => par_bd (g_flows (a := a) (D := D) hU hW (by omega) (by rw [mw_60 (by decide) fm_lt]; exact hx)) (fun _ σ' z => par_some (go_m z (fun e => e _ mk0 h0) id)))
  | 5, hB =>
    obtain ⟨b1, b2, b3, b4, b5⟩ := hB
    obtain ⟨x1, x2⟩ := hW.1 (40 + t) (by omega)
    rw [if_neg (show ¬ nI 5 = 0 by decide), if_neg (show ¬ nI 5 = 1 by decide), if_neg (show ¬ nI 5 = 2 by decide), if_neg (show ¬ nI 5 = 3 by decide), if_neg (show ¬ nI 5 = 4 by decide), if_pos (show nI 5 = 5 from rfl), nI_1, hq.1 13 (by decide), b2, n_fact (by omega), bd_s]
    refine par_gd (fun _ => par_if (fun z => par_some (go_r hW (fun e => absurd e ((fw2 _ fm_lt).mp z)))) (fun z => par_gd (fun _ => ?_)))
    rw [hq.1 14 (by decide), b4, show (40 : Int32) + nI t = nI (40 + t) from nI_add 40 t, nI_clamp (n := 40 + t) (by omega), x1]
    refine par_gd (fun _ => par_if (fun y => par_some (go_r hW (fun _ y2 => absurd ((nI_eq (b := 0) (by omega) (by decide)).mp y) y2))) (fun y => par_gd (fun _ => ?_)))
    rw [hq.1 13 (by decide), b2, show m_with N σ x (nI o) 2 = some (mw x o 2, σ) from n_with (v := 2), bd_s]
    refine par_gd (fun _ => par_gd (fun _ => ?_))
    rw [hq.1 14 (by decide), b4, show (40 : Int32) + nI t = nI (40 + t) from nI_add 40 t, nI_clamp (n := 40 + t) (by omega), x1, n_with26, bd_s]
    have zb : (fm x o).testBit 1 = true := Classical.byContradiction (fun e => z ((fw2 _ fm_lt).mpr e))
    have y0 : ¬ mkv σ (40 + t) = 0 := fun e0 => y (by rw [e0]; rfl)
    refine par_bd (g_flows (a := a) (D := D) hU hW (by omega) (by rw [mw_60 (by decide) x2, mw_60 (by omega) (by decide)]; exact hx)) (fun _ σ' g1 => par_some ⟨g1.1, g1.2.1, fun hJ hC => g1.2.2.1 hJ ?_, fun e _ _ => ?_⟩)
    · have := hC (mkt σ) (fun m b h1 h2 h3 => hJ.2.1 m b h1 h2 (by rw [mkt_e h1] at h3; exact h3)) (mkc hW)
      have this : (fm x o).testBit 1 = true → ¬ mkt σ (40 + t) = 0 → U (k + 1) (mw (mw x o 2) 26 (mkt σ (40 + t))) := this
      rw [mkt_e (show 40 + t < 42 by omega)] at this
      exact this zb y0
    · rw [mkv_up g1.2.1 e]
      exact g1.2.2.2 e
  | 6, hB =>
    obtain ⟨b1, b2, b3, b4, bb, b5, b6, b7⟩ := hB
    rw [if_neg (show ¬ nI 6 = 0 by decide), if_neg (show ¬ nI 6 = 1 by decide), if_neg (show ¬ nI 6 = 2 by decide), if_neg (show ¬ nI 6 = 3 by decide), if_neg (show ¬ nI 6 = 4 by decide), if_neg (show ¬ nI 6 = 5 by decide), if_pos (show nI 6 = 6 from rfl)]
    exact par_bd (g_calls (a := a) (D := D) hU hO hq hW ha b1 b2 b3 b4 b5 b6 b7 hx) (fun _ σ' z => par_some (go_m z id id))
  | 7, hB =>
    obtain ⟨b1, b2, b3⟩ := hB
    rw [if_neg (show ¬ nI 7 = 0 by decide), if_neg (show ¬ nI 7 = 1 by decide), if_neg (show ¬ nI 7 = 2 by decide), if_neg (show ¬ nI 7 = 3 by decide), if_neg (show ¬ nI 7 = 4 by decide), if_neg (show ¬ nI 7 = 5 by decide), if_neg (show ¬ nI 7 = 6 by decide), if_pos (show nI 7 = 7 from rfl), nI_1, hq.1 13 (by decide), b2, n_fact26, bd_s, n_with, bd_s]
    exact par_gd (fun _ => par_bd (g_flows (a := a) (D := D) hU hW (by omega) (by rw [mw_60 (by omega) fm_lt]; exact hx)) (fun _ σ' z => par_some (go_m z (fun e => e _ mk0 h0) id)))
  | 8, hB =>
    obtain ⟨b1, b2, b3, b4, b5⟩ := hB
    rw [if_neg (show ¬ nI 8 = 0 by decide), if_neg (show ¬ nI 8 = 1 by decide), if_neg (show ¬ nI 8 = 2 by decide), if_neg (show ¬ nI 8 = 3 by decide), if_neg (show ¬ nI 8 = 4 by decide), if_neg (show ¬ nI 8 = 5 by decide), if_neg (show ¬ nI 8 = 6 by decide), if_neg (show ¬ nI 8 = 7 by decide), if_pos (show nI 8 = 8 from rfl), nI_1, hq.1 13 (by decide), b2, n_fact (by omega), bd_s]
    refine par_gd (fun _ => par_if (fun z => par_some (go_r hW (fun e => absurd e ((fw2 _ fm_lt).mp z)))) (fun z => par_gd (fun _ => ?_)))
    rw [hq.1 14 (by decide), b4, show (40 : Int32) + nI t = nI (40 + t) from nI_add 40 t, n_fact26, bd_s]
    have zb : (fm x o).testBit 1 = true := Classical.byContradiction (fun e => z ((fw2 _ fm_lt).mpr e))
    refine par_bd (g_puts (a := a) (U := U) (D := D) hW (by omega) fm_lt) (fun _ σ1 g1 => par_gd (fun _ => ?_))
    rw [(kq_up hq g1.2.1).1 13 (by decide), b2, show m_with N σ1 x (nI o) 2 = some (mw x o 2, σ1) from n_with (v := 2), bd_s]
    exact par_bd (g_flows (a := a) (D := D) hU g1.1 (by omega) (by rw [mw_60 (by omega) (by decide)]; exact hx)) (fun _ σ' g2 => par_some (go_t g1 sb_P g2 (fun e => (e _ mk0 h0 zb).1) (fun e _ => (e _ mk0 h0 zb).2) (fun e1 e2 _ => ⟨e1, e2⟩)))
  | 9, hB =>
    obtain ⟨b1, b2⟩ := hB
    rw [if_neg (show ¬ nI 9 = 0 by decide), if_neg (show ¬ nI 9 = 1 by decide), if_neg (show ¬ nI 9 = 2 by decide), if_neg (show ¬ nI 9 = 3 by decide), if_neg (show ¬ nI 9 = 4 by decide), if_neg (show ¬ nI 9 = 5 by decide), if_neg (show ¬ nI 9 = 6 by decide), if_neg (show ¬ nI 9 = 7 by decide), if_neg (show ¬ nI 9 = 8 by decide), if_pos (show nI 9 = 9 from rfl)]
    refine par_bd (b2 N σ hq) (fun r σ1 z => ?_)
    obtain ⟨z1, z2⟩ := z
    rw [z1, z2, n_fact26, bd_s, show (32 : Int32) + nI ow = nI (32 + ow) from nI_add 32 ow]
    exact par_bd (g_puts (a := a) (U := U) (D := D) hW (by omega) fm_lt) (fun _ σ2 g1 => par_some (go_m g1 (fun e => e _ mk0 h0) id))
  | 10, hB =>
    obtain ⟨b1, b2, b3, b4, b5, b6, b7⟩ := hB
    rw [if_neg (show ¬ nI 10 = 0 by decide), if_neg (show ¬ nI 10 = 1 by decide), if_neg (show ¬ nI 10 = 2 by decide), if_neg (show ¬ nI 10 = 3 by decide), if_neg (show ¬ nI 10 = 4 by decide), if_neg (show ¬ nI 10 = 5 by decide), if_neg (show ¬ nI 10 = 6 by decide), if_neg (show ¬ nI 10 = 7 by decide), if_neg (show ¬ nI 10 = 8 by decide), if_neg (show ¬ nI 10 = 9 by decide), if_pos (show nI 10 = 10 from rfl)]
    exact par_bd (g_tests (a := a) (U := U) (D := D) (w := 0) hU hq hW ha b1 (by decide) hc b2 b3 b4 b5 b6 b7 hx) (fun _ σ' z => par_some (go_m z (fun e => e _ mk0 h0) id))
  | 11, hB =>
    obtain ⟨b1, b2, b3, b4, b5, b6, b7⟩ := hB
    rw [if_neg (show ¬ nI 11 = 0 by decide), if_neg (show ¬ nI 11 = 1 by decide), if_neg (show ¬ nI 11 = 2 by decide), if_neg (show ¬ nI 11 = 3 by decide), if_neg (show ¬ nI 11 = 4 by decide), if_neg (show ¬ nI 11 = 5 by decide), if_neg (show ¬ nI 11 = 6 by decide), if_neg (show ¬ nI 11 = 7 by decide), if_neg (show ¬ nI 11 = 8 by decide), if_neg (show ¬ nI 11 = 9 by decide), if_neg (show ¬ nI 11 = 10 by decide), if_pos (show nI 11 = 11 from rfl)]
    exact par_bd (g_tests (a := a) (U := U) (D := D) (w := 1) hU hq hW ha b1 (by decide) hc b2 b3 b4 b5 b6 b7 hx) (fun _ σ' z => par_some (go_m z (fun e => e _ mk0 h0) id))
  | 12, hB =>
    obtain ⟨b1, b4, b5, b6, b7⟩ := hB
    rw [if_neg (show ¬ nI 12 = 0 by decide), if_neg (show ¬ nI 12 = 1 by decide), if_neg (show ¬ nI 12 = 2 by decide), if_neg (show ¬ nI 12 = 3 by decide), if_neg (show ¬ nI 12 = 4 by decide), if_neg (show ¬ nI 12 = 5 by decide), if_neg (show ¬ nI 12 = 6 by decide), if_neg (show ¬ nI 12 = 7 by decide), if_neg (show ¬ nI 12 = 8 by decide), if_neg (show ¬ nI 12 = 9 by decide), if_neg (show ¬ nI 12 = 10 by decide), if_neg (show ¬ nI 12 = 11 by decide), if_pos (show nI 12 = 12 from rfl)]
    exact par_bd (g_any (a := a) (U := U) (D := D) hU hq hW ha b1 hc b4 b5 b6 b7 hx) (fun _ σ' z => par_some (go_m z (fun e => e _ mk0 h0) id))
  | 13, hB =>
    obtain ⟨b1, b2⟩ := hB
    rw [if_neg (show ¬ nI 13 = 0 by decide), if_neg (show ¬ nI 13 = 1 by decide), if_neg (show ¬ nI 13 = 2 by decide), if_neg (show ¬ nI 13 = 3 by decide), if_neg (show ¬ nI 13 = 4 by decide), if_neg (show ¬ nI 13 = 5 by decide), if_neg (show ¬ nI 13 = 6 by decide), if_neg (show ¬ nI 13 = 7 by decide), if_neg (show ¬ nI 13 = 8 by decide), if_neg (show ¬ nI 13 = 9 by decide), if_neg (show ¬ nI 13 = 10 by decide), if_neg (show ¬ nI 13 = 11 by decide), if_neg (show ¬ nI 13 = 12 by decide), if_pos (show nI 13 = 13 from rfl), hq.1 13 (by decide), b1]
    exact par_gd (fun _ => par_bd (g_flows (a := a) (D := D) hU hW (by omega) hx) (fun _ σ' z => par_some (go_m z (fun e => e _ mk0 h0) id)))
  | n + 14, hB => exact absurd hB id
