/-! the reference's FACTS: an act goes -/
theorem fw : ∀ f, f < 4 → ∀ w, w < 2 → nI f &&& nI (2 ^ w) = if f.testBit w = true then nI (2 ^ w) else 0 := by decide +kernel
theorem fw2 : ∀ f, f < 4 → (nI f &&& 2 = 0 ↔ ¬ f.testBit 1 = true) := by decide +kernel
theorem w2_ne : ∀ w, w < 2 → ¬ nI (2 ^ w) = 0 := by decide +kernel
theorem n_with26 {N : Nat} {σ : St} {x : Int64} {v : Nat} : m_with N σ x 26 (nI v) = some (mw x 26 v, σ) := n_with (n := 26)
theorem n_fact26 {N : Nat} {σ : St} {x : Int64} : m_factOf N σ x 26 = some (nI (fm x 26), σ) := n_fact (n := 26) (by decide)
theorem pw2 {w : Nat} (hw : w < 2) : 2 ^ w < 4 := by
  rcases (show w = 0 ∨ w = 1 by omega) with e | e <;> subst e <;> decide
def mkt (σ : St) (m : Nat) : Nat := if m < 42 then mkv σ m else 0
theorem mkt_e {σ : St} {m : Nat} (h : m < 42) : mkt σ m = mkv σ m := if_pos h
theorem mkc {a : Nat} {σ : St} (hW : WM a σ) : ∀ m, mkt σ m < 4 := fun m => by
  unfold mkt
  by_cases c : m < 42
  · rw [if_pos c]; exact (hW.1 m c).2
  · rw [if_neg c]; decide
theorem mk0 {D : FD} : ∀ m b, m < 42 → b < 2 → ((fun _ => 0 : Nat → Nat) m).testBit b = true → D.2.2.1 m b := fun m b _ _ z => by
  rw [show ((fun _ => 0 : Nat → Nat) m) = 0 from rfl, Nat.zero_testBit] at z
  exact absurd z (by decide)
theorem m_arg {bb i : Nat} (hb : bb < 2 ^ 20) (hi : i < 5) : ((nI bb) >>> (((5 : Int32) * nI i) &&& 31)) &&& 31 = nI (bb / 2 ^ (5 * i) % 32) := by
  have hdv : bb / 2 ^ (5 * i) < 2 ^ 32 := Nat.lt_of_le_of_lt (Nat.div_le_self _ _) (by omega)
  rw [show (5 : Int32) * nI i = nI (5 * i) from by rw [show (5 : Int32) = nI 5 from rfl, nI_mul], shr_n (by omega) (by omega), a31_n hdv]
theorem g_no {N a : Nat} {U : Nat → Int64 → Prop} {D : FD} {σ σ0 : St} {k o t h w f : Nat} {x : Int64} (hU : ∀ k x y, U k x → U k y → U k (x ||| y)) (hq : Kq σ0 σ) (hW : WM a σ) (ha : a ≤ 1299) (hk : k < a) (hc : ¬ gA σ0 12 k = 12) (h13 : gA σ0 13 k = nI o) (ho : o < 26) (h14 : gA σ0 14 k = nI t) (ht : t < 25) (h15 : gA σ0 15 k = nI h) (hh : h < a) (hw : w < 2) (hf : f < 4) (hx : lb x 60 = true) : Par (m_tests_141 N σ (nI k) x (nI (2 ^ w)) (nI f)) (fun _ σ' => GO a U D (f.testBit w = true → D.2.2.2.2 t 1 ∧ U h (mw x o (2 ^ w))) (fun σ' => f.testBit w = true → Tm σ' t 1 ∧ Fm σ' h (mw x o (2 ^ w))) σ σ') := by
  unfold m_tests_141 m_tests_201
  rw [nI_clamp (n := k) (by omega), hq.1 12 (by decide), hq.1 13 (by decide), hq.1 14 (by decide), hq.1 15 (by decide), h13, h14, h15, nI_clamp (n := t) (by omega), fw f hf w hw]
  by_cases z : f.testBit w = true
  · rw [if_pos z, if_neg (w2_ne w hw), if_neg hc]
    refine par_gd (fun _ => par_gd (fun _ => par_gd (fun _ => par_gd (fun _ => par_gd (fun _ => par_gd (fun _ => ?_))))))
    rw [n_with, bd_s]
    have g1 := g_test (a := a) (U := U) (D := D) (v := 2) hW ht (b := 1) (by decide) rfl
    refine par_bd (g_flows (a := a) (D := D) hU g1.1 (by omega) (by rw [mw_60 (by omega) (pw2 hw)]; exact hx)) (fun _ σ' q => par_some (go_t g1 sb_T q (fun e => (e z).1) (fun e _ => (e z).2) (fun e1 e2 _ => ⟨e1, e2⟩)))
  · rw [if_neg z, if_pos rfl]
    exact par_some (go_r hW (fun e => absurd e z))
theorem g_yes {N a : Nat} {U : Nat → Int64 → Prop} {D : FD} {σ σ0 : St} {k o t h w f : Nat} {x : Int64} (hU : ∀ k x y, U k x → U k y → U k (x ||| y)) (hq : Kq σ0 σ) (hW : WM a σ) (ha : a ≤ 1299) (hk : k + 1 < a) (hc : ¬ gA σ0 12 k = 12) (h13 : gA σ0 13 k = nI o) (ho : o < 26) (h14 : gA σ0 14 k = nI t) (ht : t < 25) (h15 : gA σ0 15 k = nI h) (hh : h < a) (hw : w < 2) (hf : f < 4) (hx : lb x 60 = true) : Par (m_tests_79 N σ (nI k) x (nI (2 ^ w)) (nI (2 ^ (1 - w))) (nI f)) (fun _ σ' => GO a U D ((f.testBit w = true → D.2.2.2.2 t 0 ∧ U (k + 1) (mw x o (2 ^ w))) ∧ (f.testBit (1 - w) = true → D.2.2.2.2 t 1 ∧ U h (mw x o (2 ^ (1 - w))))) (fun σ' => (f.testBit w = true → Tm σ' t 0 ∧ Fm σ' (k + 1) (mw x o (2 ^ w))) ∧ (f.testBit (1 - w) = true → Tm σ' t 1 ∧ Fm σ' h (mw x o (2 ^ (1 - w))))) σ σ') := by
  unfold m_tests_79 m_tests_138
  rw [nI_clamp (n := k) (by omega), hq.1 12 (by decide), hq.1 13 (by decide), hq.1 14 (by decide), h13, h14, nI_clamp (n := t) (by omega), fw f hf w hw, nI_1]
  by_cases z : f.testBit w = true
  · rw [if_pos z, if_neg (w2_ne w hw), if_neg hc]
    refine par_gd (fun _ => par_gd (fun _ => par_gd (fun _ => par_gd (fun _ => par_gd (fun _ => ?_)))))
    rw [n_with, bd_s]
    have g1 := g_test (a := a) (U := U) (D := D) (v := 1) hW ht (b := 0) (by decide) rfl
    refine par_bd (g_flows (a := a) (D := D) hU g1.1 (by omega) (by rw [mw_60 (by omega) (pw2 hw)]; exact hx)) (fun _ σ2 q => ?_)
    have g2 : GO a U D (f.testBit w = true → D.2.2.2.2 t 0 ∧ U (k + 1) (mw x o (2 ^ w))) (fun σ' => Tm σ' t 0 ∧ Fm σ' (k + 1) (mw x o (2 ^ w))) σ σ2 := go_t g1 sb_T q (fun e => (e z).1) (fun e _ => (e z).2) (fun e1 e2 => ⟨e1, e2⟩)
    refine (g_no (a := a) (D := D) hU (kq_up hq g2.2.1) g2.1 ha (by omega) hc h13 ho h14 ht h15 hh (w := 1 - w) (by omega) hf hx).mono (fun _ σ3 q3 => go_t g2 (sb_and sb_T sb_F) q3 (fun e => e.1) (fun e _ => e.2) (fun e1 e2 => ⟨fun _ => e1, e2⟩))
  · rw [if_neg z, if_pos rfl]
    exact (g_no (a := a) (D := D) hU hq hW ha (by omega) hc h13 ho h14 ht h15 hh (w := 1 - w) (by omega) hf hx).mono (fun _ σ3 q3 => go_m q3 (fun e => e.2) (fun e => ⟨fun z2 => absurd z2 z, e⟩))
theorem g_tests {N a : Nat} {U : Nat → Int64 → Prop} {D : FD} {σ σ0 : St} {k o t h w : Nat} {x : Int64} (hU : ∀ k x y, U k x → U k y → U k (x ||| y)) (hq : Kq σ0 σ) (hW : WM a σ) (ha : a ≤ 1299) (hk : k + 1 < a) (hw : w < 2) (hc : gA σ0 12 k = nI (10 + w)) (h13 : gA σ0 13 k = nI o) (ho : o < 26) (h14 : gA σ0 14 k = nI t) (ht : t < 25) (h15 : gA σ0 15 k = nI h) (hh : h < a) (hx : lb x 60 = true) : Par (m_tests N σ (nI k) x) (fun _ σ' => GO a U D (((fm x o).testBit w = true → D.2.2.2.2 t 0 ∧ U (k + 1) (mw x o (2 ^ w))) ∧ ((fm x o).testBit (1 - w) = true → D.2.2.2.2 t 1 ∧ U h (mw x o (2 ^ (1 - w))))) (fun σ' => ((fm x o).testBit w = true → Tm σ' t 0 ∧ Fm σ' (k + 1) (mw x o (2 ^ w))) ∧ ((fm x o).testBit (1 - w) = true → Tm σ' t 1 ∧ Fm σ' h (mw x o (2 ^ (1 - w))))) σ σ') := by
  have hc12 : ¬ gA σ0 12 k = 12 := by
    rw [hc]
    rcases (show w = 0 ∨ w = 1 by omega) with e | e <;> subst e <;> decide
  have hy := g_yes (N := N) (a := a) (D := D) hU hq hW ha hk hc12 h13 ho h14 ht h15 hh hw (fm_lt (x := x) (n := o)) hx
  have h31 : ∀ y, y = nI (2 ^ w) → 3 - y = nI (2 ^ (1 - w)) → Par (m_tests_31 N σ (nI k) x y) (fun _ σ' => GO a U D (((fm x o).testBit w = true → D.2.2.2.2 t 0 ∧ U (k + 1) (mw x o (2 ^ w))) ∧ ((fm x o).testBit (1 - w) = true → D.2.2.2.2 t 1 ∧ U h (mw x o (2 ^ (1 - w))))) (fun σ' => ((fm x o).testBit w = true → Tm σ' t 0 ∧ Fm σ' (k + 1) (mw x o (2 ^ w))) ∧ ((fm x o).testBit (1 - w) = true → Tm σ' t 1 ∧ Fm σ' h (mw x o (2 ^ (1 - w))))) σ σ') := fun y e1 e2 => by
    unfold m_tests_31 m_tests_52
    rw [nI_clamp (n := k) (by omega), hq.1 12 (by decide), hq.1 13 (by decide), h13, if_neg hc12, if_neg hc12, e2, e1, n_fact (by omega), bd_s]
    exact par_gd (fun _ => par_gd (fun _ => par_gd (fun _ => hy)))
  unfold m_tests
  rw [nI_clamp (n := k) (by omega), hq.1 12 (by decide), hc]
  rcases (show w = 0 ∨ w = 1 by omega) with e | e <;> subst e
  · rw [if_pos (show nI (10 + 0) = 10 from rfl)]
    exact par_gd (fun _ => h31 1 rfl (by decide))
  · rw [if_neg (show ¬ nI (10 + 1) = 10 by decide), if_pos (show nI (10 + 1) = 11 from rfl)]
    exact par_gd (fun _ => par_gd (fun _ => h31 2 rfl (by decide)))
theorem g_any {N a : Nat} {U : Nat → Int64 → Prop} {D : FD} {σ σ0 : St} {k t h : Nat} {x : Int64} (hU : ∀ k x y, U k x → U k y → U k (x ||| y)) (hq : Kq σ0 σ) (hW : WM a σ) (ha : a ≤ 1299) (hk : k + 1 < a) (hc : gA σ0 12 k = 12) (h14 : gA σ0 14 k = nI t) (ht : t < 25) (h15 : gA σ0 15 k = nI h) (hh : h < a) (hx : lb x 60 = true) : Par (m_tests N σ (nI k) x) (fun _ σ' => GO a U D (D.2.2.2.2 t 0 ∧ U (k + 1) x ∧ D.2.2.2.2 t 1 ∧ U h x) (fun σ' => Tm σ' t 0 ∧ Fm σ' (k + 1) x ∧ Tm σ' t 1 ∧ Fm σ' h x) σ σ') := by
  unfold m_tests m_tests_31 m_tests_52 m_tests_79 m_tests_138
  rw [nI_clamp (n := k) (by omega), hq.1 12 (by decide), hc, hq.1 14 (by decide), h14, nI_clamp (n := t) (by omega), if_neg (show ¬ (12 : Int32) = 10 by decide), if_neg (show ¬ (12 : Int32) = 11 by decide), if_pos rfl, if_pos rfl, if_neg (show ¬ (3 : Int32) &&& 3 = 0 by decide), if_pos rfl, nI_1]
  refine par_gd (fun _ => par_gd (fun _ => par_gd (fun _ => par_gd (fun _ => par_gd (fun _ => par_gd (fun _ => par_gd (fun _ => par_gd (fun _ => ?_))))))))
  have g1 := g_test (a := a) (U := U) (D := D) (v := 1) hW ht (b := 0) (by decide) rfl
  refine par_bd (g_flows (a := a) (D := D) hU g1.1 (by omega) hx) (fun _ σ2 q => ?_)
  have g2 : GO a U D (D.2.2.2.2 t 0 ∧ U (k + 1) x) (fun σ' => Tm σ' t 0 ∧ Fm σ' (k + 1) x) σ σ2 := go_t g1 sb_T q (fun e => e.1) (fun e _ => e.2) (fun e1 e2 => ⟨e1, e2⟩)
  have hq2 := kq_up hq g2.2.1
  unfold m_tests_141 m_tests_201
  rw [nI_clamp (n := k) (by omega), hq2.1 12 (by decide), hc, hq2.1 14 (by decide), h14, hq2.1 15 (by decide), h15, nI_clamp (n := t) (by omega), if_neg (show ¬ (3 : Int32) &&& 3 = 0 by decide), if_pos rfl]
  refine par_gd (fun _ => par_gd (fun _ => par_gd (fun _ => par_gd (fun _ => par_gd (fun _ => ?_)))))
  have g3 := g_test (a := a) (U := U) (D := D) (v := 2) g2.1 ht (b := 1) (by decide) rfl
  refine par_bd (g_flows (a := a) (D := D) hU g3.1 (by omega) hx) (fun _ σ4 q4 => par_some ?_)
  have g4 : GO a U D (D.2.2.2.2 t 1 ∧ U h x) (fun σ' => Tm σ' t 1 ∧ Fm σ' h x) σ2 σ4 := go_t g3 sb_T q4 (fun e => e.1) (fun e _ => e.2) (fun e1 e2 => ⟨e1, e2⟩)
  exact go_t g2 (sb_and sb_T sb_F) g4 (fun e => ⟨e.1, e.2.1⟩) (fun e _ => e.2.2) (fun e1 e2 => ⟨e1.1, e1.2, e2.1, e2.2⟩)
/-- a call: its arguments, the beginning, the answer -/
theorem g_calls {N a : Nat} {U : Nat → Int64 → Prop} {D : FD} {σ σc0 σm0 : St} {G s k o : Nat} {ag φ : Nat → Nat} {x : Int64} (hU : ∀ k x y, U k x → U k y → U k (x ||| y)) (hO : PO σc0 σm0 G s φ) (hq : Kq σm0 σ) (hW : WM a σ) (ha : a ≤ 1299) (hk : k + 1 < a) (h13 : gA σm0 13 k = nI o) (hr : (Rd G σc0 σm0).1 o) (h14 : gA σm0 14 k = nI ((Rd G σc0 σm0).2.2.1 o)) {bb : Nat} (hb : bb < 2 ^ 20) (h16 : gA σm0 16 k = nI bb) (hag : ∀ i, i < (Rd G σc0 σm0).2.2.1 o → bb / 2 ^ (5 * i) % 32 = ag i ∧ ag i < 26) (hx : lb x 60 = true) : Par (m_calls N σ (nI k) x) (fun _ σ' => GO a U D (∀ mk : Nat → Nat, (∀ m b, m < 42 → b < 2 → (mk m).testBit b = true → D.2.2.1 m b) → (∀ m, mk m < 4) → (∀ i, i < (Rd G σc0 σm0).2.2.1 o → PD D (4 * o + i) (fm x (ag i))) ∧ BD (Rd G σc0 σm0) φ U D o ∧ (¬ mk (32 + o) = 0 → U (k + 1) (mw x 26 (mk (32 + o))))) (fun σ' => (∀ i, i < (Rd G σc0 σm0).2.2.1 o → Pm σ' (4 * o + i) (fm x (ag i))) ∧ Bm (Rd G σc0 σm0) φ σ' o ∧ (¬ mkv σ' (32 + o) = 0 → Fm σ' (k + 1) (mw x 26 (mkv σ' (32 + o))))) σ σ') := by
  obtain ⟨r1, r2, r3, r4, r5, r6, r7, r8⟩ := rd_ok hO hr
  have h0 : ∀ m, (fun _ => 0 : Nat → Nat) m < 4 := fun _ => Nat.zero_lt_succ 3
  have lp : ∀ (f i : Nat) (σ1 : St), i ≤ (Rd G σc0 σm0).2.2.1 o → GO a U D (∀ j, j < i → PD D (4 * o + j) (fm x (ag j))) (fun σ' => ∀ j, j < i → Pm σ' (4 * o + j) (fm x (ag j))) σ σ1 → Par (m_calls_11 N f σ1 (nI k) x (nI o) (nI i)) (fun _ σ' => GO a U D (∀ mk : Nat → Nat, (∀ m b, m < 42 → b < 2 → (mk m).testBit b = true → D.2.2.1 m b) → (∀ m, mk m < 4) → (∀ i, i < (Rd G σc0 σm0).2.2.1 o → PD D (4 * o + i) (fm x (ag i))) ∧ BD (Rd G σc0 σm0) φ U D o ∧ (¬ mk (32 + o) = 0 → U (k + 1) (mw x 26 (mk (32 + o))))) (fun σ' => (∀ i, i < (Rd G σc0 σm0).2.2.1 o → Pm σ' (4 * o + i) (fm x (ag i))) ∧ Bm (Rd G σc0 σm0) φ σ' o ∧ (¬ mkv σ' (32 + o) = 0 → Fm σ' (k + 1) (mw x 26 (mkv σ' (32 + o))))) σ σ') := by
    intro f
    induction f with
    | zero => intro i σ1 _ _ r σ' e; cases e
    | succ f ih =>
      intro i σ1 hi g1
      show Par (m_calls_11_b N (m_calls_11 N f) σ1 (nI k) x (nI o) (nI i)) _
      have hq1 := kq_up hq g1.2.1
      have sb1 : Sb (fun σ' => ∀ j, j < i → Pm σ' (4 * o + j) (fm x (ag j))) := fun s1 s2 u e p j hj => sb_P s1 s2 u e (p j hj)
      unfold m_calls_11_b m_calls_57
      rw [nI_clamp (n := k) (by omega), hq1.1 14 (by decide), h14, hq1.1 16 (by decide), h16, nI_1, nI_1]
      refine par_gd (fun _ => par_if (fun z => ?_) (fun z => par_gd (fun _ => ?_)))
      · have e : i = (Rd G σc0 σm0).2.2.1 o := by have := (nI_leI (by omega) (by omega)).mp z; omega
        rw [show (32 : Int32) + nI o = nI (32 + o) from nI_add 32 o, nI_clamp (n := 32 + o) (by omega)]
        refine par_bd (g_begins (N := N) (a := a) (D := D) hU hO hq1 g1.1 hr) (fun _ σ2 g2 => par_gd (fun _ => ?_))
        obtain ⟨x1, x2⟩ := g2.1.1 (32 + o) (by omega)
        rw [x1]
        have g12 : GO a U D (∀ mk : Nat → Nat, (∀ m b, m < 42 → b < 2 → (mk m).testBit b = true → D.2.2.1 m b) → (∀ m, mk m < 4) → (∀ i, i < (Rd G σc0 σm0).2.2.1 o → PD D (4 * o + i) (fm x (ag i))) ∧ BD (Rd G σc0 σm0) φ U D o ∧ (¬ mk (32 + o) = 0 → U (k + 1) (mw x 26 (mk (32 + o))))) (fun σ' => (∀ j, j < i → Pm σ' (4 * o + j) (fm x (ag j))) ∧ Bm (Rd G σc0 σm0) φ σ' o) σ σ2 := go_t g1 sb1 g2 (fun c j hj => (c _ mk0 h0).1 j (by omega)) (fun c _ => (c _ mk0 h0).2.1) (fun e1 e2 => ⟨e1, e2⟩)
        refine par_if (fun y => par_some (go_m g12 id (fun e1 => ⟨fun j hj => e1.1 j (by omega), e1.2, fun y2 => absurd ((nI_eq (b := 0) (by omega) (by decide)).mp y) y2⟩))) (fun y => par_gd (fun _ => ?_))
        rw [n_with26, bd_s]
        refine par_bd (g_flows (a := a) (D := D) hU g2.1 (by omega) (by rw [mw_60 (by decide) x2]; exact hx)) (fun _ σ3 g3 => par_some ?_)
        have y2 : ¬ mkv σ2 (32 + o) = 0 := fun e0 => y (by rw [e0]; rfl)
        refine ⟨g3.1, up_t g12.2.1 g3.2.1, fun hJ hC => ?_, fun e0 => ?_⟩
        · have j2 := g12.2.2.1 hJ hC
          have := (hC (mkt σ2) (fun m b h1 h2 h3 => j2.2.1 m b h1 h2 (by rw [mkt_e h1] at h3; exact h3)) (mkc g2.1)).2.2
          rw [mkt_e (show 32 + o < 42 by omega)] at this
          exact g3.2.2.1 j2 (this y2)
        · have ss := sb_and sb1 (sb_B (R := Rd G σc0 σm0) (φ := φ) (r := o)) σ2 σ3 g3.2.1 e0 (g12.2.2.2 (g3.2.1.1 e0).1)
          have em := mkv_up g3.2.1 e0
          exact ⟨fun j hj => ss.1 j (by omega), ss.2, fun _ => by rw [em]; exact g3.2.2.2 e0⟩
      · have z2 : i < (Rd G σc0 σm0).2.2.1 o := Classical.byContradiction (fun y => z (nI_le (by omega) (by omega)))
        obtain ⟨p1, p2⟩ := hag i z2
        rw [show ((nI bb) >>> (((5 : Int32) * nI i) &&& 31)) &&& 31 = nI (bb / 2 ^ (5 * i) % 32) from m_arg hb (by omega), p1, n_fact (by omega), bd_s, show (4 : Int32) * nI o + nI i = nI (4 * o + i) from by rw [show (4 : Int32) = nI 4 from rfl, nI_mul, nI_add]]
        refine par_bd (g_puts (a := a) (U := U) (D := D) g1.1 (by omega) fm_lt) (fun _ σ2 g2 => ?_)
        refine ih (i + 1) σ2 (by omega) (go_t g1 sb1 g2 (fun c j hj => c j (by omega)) (fun c _ => c i (by omega)) (fun e1 e2 j hj => ?_))
        rcases (show j = i ∨ j < i by omega) with e | e
        · rw [e]; exact e2
        · exact e1 j e
  unfold m_calls
  rw [nI_clamp (n := k) (by omega), hq.1 13 (by decide), h13]
  exact par_gd (fun _ => lp N 0 σ (Nat.zero_le _) (go_r hW (fun j hj => absurd hj (Nat.not_lt_zero j))))
