/-! trials: what each gives, from whatever a run before has left -/
/-- what runs hang on, both sides -/
def SCx (σc σm : St) : Prop := isPr (gP σc 700) = true ∧ gI σc 701 = gI σm 39 ∧ LY σc σm
theorem sc_lx {σc σm : St} (h : LX σc σm) : SCx σc σm := ⟨h.1.2.2.2.2.2.1, h.1.2.2.2.2.2.2.2.2, h.2⟩
def JM (σm σ : St) : Prop := gI σ 18 = gI σm 18 ∧ gI σ 39 = gI σm 39 ∧ (∀ j i, 12 ≤ j → j < 40 → i < lim j → gA σ j i = gA σm j i) ∧ (∀ i, i < 4 → gA σ 40 i = gA σm 40 i) ∧ MI σ
theorem jm_r {σ : St} (hM : MI σ) : JM σ σ := ⟨rfl, rfl, fun _ _ _ _ _ => rfl, fun _ _ => rfl, hM⟩
theorem jm_t {σ σ1 σ2 : St} (h : JM σ σ1) (k : JM σ1 σ2) : JM σ σ2 := ⟨k.1.trans h.1, k.2.1.trans h.2.1, fun j i h1 h2 h3 => (k.2.2.1 j i h1 h2 h3).trans (h.2.2.1 j i h1 h2 h3), fun i hi => (k.2.2.2.1 i hi).trans (h.2.2.2.1 i hi), k.2.2.2.2⟩
theorem jm_z {σ : St} (hM : MI σ) : JM σ (sI σ 0 0) := ⟨gI_ne (by decide), gI_ne (by decide), fun _ _ _ _ _ => rfl, fun _ _ => rfl, (mi_0 hM).1⟩
theorem jm_km {σ σ' : St} (h : Km σ σ') (hM : MI σ') : JM σ σ' := ⟨h.1 18 (Or.inl (by decide)) (by decide), h.1 39 (Or.inl (by decide)) (by decide), fun j i _ hj _ => by rw [h.2 j (by omega)], fun i _ => by rw [h.2 40 (by decide)], hM⟩
theorem jm_runs {N : Nat} (hN : 8589934592 ≤ N) {σm σ : St} {x c : Int32} (h39 : ¬ gI σm 39 = -1) (h : JM σm σ) : Tot (m_runs N σ x c) (fun _ σ' => JM σm σ') := by
  obtain ⟨u, σ', e, z1, z2⟩ := s_runs hN (x := x) (y := c) h.2.2.2.2 (by rw [h.2.1]; exact h39) (kq_rf σ) rfl
  exact ⟨u, σ', e, jm_t h (jm_km (km_m_runs (km_refl σ) u σ' e) (mi_kp h.2.2.2.2 z1 z2).1)⟩
theorem sc_k {σc σm σc' σm' : St} (h : SCx σc σm) (hc : Kc σc σc') (hm : JM σm σm') : SCx σc' σm' := by
  obtain ⟨h1, h2, ⟨s, φ, u, w, T, h3⟩, h4⟩ := h
  have g7 := pr_or h1
  have e7 : gP σc' 700 = gP σc 700 := hc.2.2 700 (by decide)
  refine ⟨by rw [e7]; exact h1, (hc.1 701 (by decide)).trans (h2.trans hm.2.1.symm), ⟨s, φ, u, w, T, ?_⟩, fun i hi => ?_⟩
  · rw [e7]
    exact bx_keep h3 (fun k h5 _ => hc.1 k (by omega)) (fun j h5 _ => hc.2.1 j (by omega)) hm.1 (fun j i h5 h6 h7 => hm.2.2.1 j i h5 h6 h7)
  · rw [hc.2.1 8 (by decide), hm.2.2.2.1 i hi]
    exact h4 i hi
theorem px_s {σc σm : St} (hX : SCx σc σm) (hM : MI σm) : ∃ φ T, PX (σc, σm) φ T := by
  obtain ⟨l6, l9, ⟨s, φ, u, w, T, hBX⟩, hO8⟩ := hX
  obtain ⟨a, u0, w0, m1, m2, -, -, -, -, mB, mE, -⟩ := hM
  obtain ⟨x1, x2, x3, x4, x5, x6, x7, x8⟩ := hBX
  have ea : a = φ s := (nI_eq (by omega) (by omega)).mp (m1.symm.trans x3)
  subst ea
  have es : sE σc = s := by
    unfold sE
    rw [x1, nI_clamp (by omega)]
  refine ⟨φ, T, ?_, ?_, x7.1, x7.2.1, l9, fun j hj => ?_, ?_⟩
  · show PO σc σm (gP σc 700) (sE σc) φ
    rw [es]
    exact ⟨⟨l6, x1, x2, x4, x5, mB, T, x7⟩, T, x7, x8⟩
  · show gI σm 18 = nI (φ (sE σc))
    rw [es]; exact x3
  · obtain ⟨h1, x, h2, h3⟩ := hO8 j hj
    have et : tE σc j = x := by
      unfold tE
      rw [h1, h3, nI_clamp (by omega)]
    show gA σc 8 j = nI (tE σc j) ∧ gA σm 40 j = nI (tE σc j) ∧ tE σc j < 4
    rw [et]
    exact ⟨h1.trans h3, h3, by omega⟩
  · rcases mE with e | ⟨l, e1, e2, e3⟩
    · exact Or.inl (l9.trans e)
    · have el : lE σc = l := by
        unfold lE
        rw [l9, e2, nI_clamp (by omega)]
      refine Or.inr ⟨?_, ?_, ?_⟩
      · show gI σc 701 = nI (lE σc)
        rw [el]; exact l9.trans e2
      · show (Rd (gP σc 700) σc σm).1 (lE σc)
        rw [el]; exact ⟨by omega, e3⟩
      · show T / 2 ^ lE σc % 2 = 1
        rw [el]; exact (x7.2.2 l (by omega)).1.mpr e3
theorem r_go1 {N : Nat} {σc σm : St} {x c : Int32} (hN : 8589934592 ≤ N) (hX : SCx σc σm) (hM : MI σm) (h39 : ¬ gI σm 39 = -1) : R2 (x6_go N σc x c) (m_runs N σm x c) (fun rc σc' _ σm' => RZ σc' σm' ∧ rc = gI σc' 1511) := by
  obtain ⟨l6, l9, ⟨s, φ, u, w, T, hBX⟩, hO8⟩ := hX
  obtain ⟨a, u0, w0, m1, m2, -, -, -, -, mB, mE, -⟩ := hM
  obtain ⟨x1, x2, x3, x4, x5, x6, x7, -⟩ := hBX
  have ea : a = φ s := (nI_eq (by omega) (by omega)).mp (m1.symm.trans x3)
  subst ea
  have hO : RO σc σm (gP σc 700) s φ := ⟨l6, x1, x2, x4, x5, mB, T, x7⟩
  obtain ⟨l, hl, hl1, hl2⟩ := mE.resolve_left h39
  obtain ⟨t1, t2, t3⟩ := id x7
  have ct := (t3 l (by omega)).1.mpr hl2
  obtain ⟨m, p, q1, q2, q3, q4, q5, q6, q7⟩ := (t3 l (by omega)).2 ct
  have hE : EN (gP σc 700) T l m p φ σc σm := ⟨rfl, l9.trans hl1, by omega, t1, t2, ct, q3, q1, hl1, q4, q5, q6, q7⟩
  exact r_gos hN hO hE q2
theorem r_alw1 {N : Nat} {σc σm : St} {x y : Int32} (hX : SCx σc σm) (hM : MI σm) (h39 : ¬ gI σm 39 = -1) (hy0 : ¬ y < 0) (hy1 : ¬ 255 < y) : R2 (x7_allows N σc x) (m_canRun N σm x y) (fun rc σc' rm σm' => rc = rm ∧ σc' = σc ∧ σm' = σm) := by
  obtain ⟨l6, l9, ⟨s, φ, u, w, T, hBX⟩, hO8⟩ := hX
  obtain ⟨a, u0, w0, m1, m2, -, -, -, -, mB, mE, -⟩ := hM
  obtain ⟨x1, x2, x3, x4, x5, x6, x7, -⟩ := hBX
  obtain ⟨l, hl, hl1, hl2⟩ := mE.resolve_left h39
  obtain ⟨t1, t2, t3⟩ := id x7
  have ct := (t3 l (by omega)).1.mpr hl2
  obtain ⟨m, p, q1, q2, q3, q4, q5, q6, q7⟩ := (t3 l (by omega)).2 ct
  have hE : EN (gP σc 700) T l m p φ σc σm := ⟨rfl, l9.trans hl1, by omega, t1, t2, ct, q3, q1, hl1, q4, q5, q6, q7⟩
  exact r_allow l6 hE hO8 hy0 hy1
/-- whether a run may be made -/
def crv (N : Nat) (σm : St) (x : Int32) : Int32 := ((m_canRun N σm x 0).map (fun q => q.1)).getD 0
theorem mp_gd {ρ ρ' : Type} {f : ρ → ρ'} {b : Bool} {o : Option ρ} : Option.map f (gd b o) = gd b (Option.map f o) := by cases b <;> rfl
theorem mp_if {ρ ρ' : Type} {f : ρ → ρ'} {P : Prop} [Decidable P] {a b : Option ρ} : Option.map f (if P then a else b) = if P then Option.map f a else Option.map f b := by split <;> rfl
theorem can_42 {N : Nat} {σm σ : St} {x : Int32} {l : Nat} (h : JM σm σ) (hl : gI σm 39 = nI l) (l8 : l < 8) : ∀ (n : Nat) (k : Int32), m_canRun_42 N n σ x k = Option.map (fun q => (q.1, σ)) (m_canRun_42 N n σm x k) := by
  intro n
  induction n with
  | zero => intro k; rfl
  | succ n ih =>
    intro k
    show m_canRun_42_b N (m_canRun_42 N n) σ x k = Option.map (fun q => (q.1, σ)) (m_canRun_42_b N (m_canRun_42 N n) σm x k)
    unfold m_canRun_42_b
    rw [h.2.1, hl, nI_clamp (n := l) (by omega), h.2.2.1 20 l (by decide) (by decide) l8, mp_gd, mp_if, mp_gd, mp_if, ih]
    have g0 : ∀ (o : Option (Int32 × St)), gd false o = none := fun _ => rfl
    cases hk : ib k 4 with
    | false =>
      rw [g0, g0]
      rfl
    | true =>
      have hk4 : k.toNatClampNeg < 4 := by
        have hn : ¬ k < 0 := fun e => by
          unfold ib at hk
          rw [decide_eq_true e] at hk
          exact absurd hk (by simp)
        obtain ⟨q, q31, rfl⟩ := nI_of hn
        rw [nI_clamp q31]
        exact ib_l2 hk q31
      rw [h.2.2.2.1 _ hk4]
      rfl
theorem can_eq {N : Nat} (hN : 8589934592 ≤ N) {σm σ : St} {x : Int32} {c : Nat} (hM : MI σm) (h : JM σm σ) (hc : c < 256) : m_canRun N σ x (nI c) = some (crv N σm x, σ) := by
  have n1 : ¬ nI c < 0 := nI_pos (by omega)
  have n2 : ¬ 255 < nI c := fun e => by
    have := (nI_ltI (a := 255) (by decide) (by omega)).mp e
    omega
  have e0 : ∀ σ' : St, m_canRun N σ' x (nI c) = m_canRun N σ' x 0 := fun σ' => by
    unfold m_canRun
    rw [if_neg n1, if_neg n2, if_neg (show ¬ (0 : Int32) < 0 by decide), if_neg (show ¬ (255 : Int32) < 0 by decide)]
  obtain ⟨a, hG, hE⟩ := mi_gv hM
  have e1 : m_canRun N σ x 0 = Option.map (fun q => (q.1, σ)) (m_canRun N σm x 0) := by
    unfold m_canRun
    rcases hE with e39 | ⟨l, l1, l2, l3⟩
    · rw [h.2.1, if_pos e39, if_pos e39]
      rfl
    · rw [h.2.1, mp_if, mp_if, mp_if, mp_if, mp_gd, mp_if, can_42 h l2 (by omega), l2, nI_clamp (n := l) (by omega), h.2.2.1 20 l (by decide) (by decide) (show l < 8 by omega)]
      rfl
  obtain ⟨r, er, -⟩ := e_canRun hN (x := x) (y := 0) hG hE
  have e2 : crv N σm x = r := by
    unfold crv
    rw [er]
    rfl
  rw [e0, e1, er, e2]
  rfl
/-- trial T ends with a failure at use w; it does not -/
def FW (N : Nat) (σm : St) (w T : Nat) : Prop := ¬ crv N σm (nI (T / 256)) = 0 ∧ ∀ σ, JM σm σ → Par (m_runs N σ (nI (T / 256)) (nI (T % 256))) (fun _ σ' => gI σ' 55 = 2 ∧ gI σ' 54 = nI w)
def NWx (N : Nat) (σm : St) (w T : Nat) : Prop := ¬ crv N σm (nI (T / 256)) = 0 → ∀ σ, JM σm σ → Par (m_runs N σ (nI (T / 256)) (nI (T % 256))) (fun _ σ' => ¬ (gI σ' 55 = 2 ∧ gI σ' 54 = nI w))
/-- the answer of tries -/
def TR (N : Nat) (σm : St) (w : Nat) (r : Int32) : Prop := (∃ T, T < 4096 ∧ r = nI T ∧ FW N σm w T ∧ ∀ T', T' < T → NWx N σm w T') ∨ (r = -1 ∧ ∀ T, T < 4096 → NWx N σm w T)
/-- the reference finds it -/
theorem m_tries_r {N : Nat} (hN : 8589934592 ≤ N) {σm : St} {w : Nat} {r0 : Int32} (hM : MI σm) (h39 : ¬ gI σm 39 = -1) (hw : w < 40) (hT : TR N σm w r0) : ∀ (n : Nat) (σ : St) (k : Nat), JM σm σ → k ≤ 16 → (∀ T, r0 = nI T → T < 4096 → 256 * k ≤ T) → Par (m_tries_23 N n σ (nI w) (nI k)) (fun r σ' => r = r0) := by
  obtain ⟨a, hG, hE⟩ := mi_gv hM
  obtain ⟨l, l1, l2, l3⟩ := hE.elim (fun e => absurd e h39) id
  obtain ⟨-, b4, b5, -⟩ := bv_rt hG.2.2 l1 l3
  obtain ⟨m, m1, m2⟩ := nI_upto b4 (n := 4) b5 (by decide)
  have hp : 2 ^ m ≤ 16 := by
    rcases (show m = 0 ∨ m = 1 ∨ m = 2 ∨ m = 3 ∨ m = 4 by omega) with e | e | e | e | e <;> subst e <;> decide
  have big : ∀ k, 2 ^ m ≤ k → k < 16 → crv N σm (nI k) = 0 := fun k h1 h2 => by
    unfold crv m_canRun
    rw [if_neg h39, if_neg (show ¬ (0 : Int32) < 0 by decide), if_neg (show ¬ (255 : Int32) < 0 by decide), if_neg (nI_pos (n := k) (by omega)), l2, ibk (k := l) (n := 16) (by omega) (by decide), gd_t, nI_clamp (n := l) (by omega), show gA σm 20 l = nI m from m2, shl_c (by omega), if_neg (fun e => by have := (nI_ltI (by omega) (by omega)).mp e; omega)]
    rfl
  intro n
  induction n with
  | zero => intro σ k _ _ _ r σ' e; cases e
  | succ n ih =>
    intro σ k hJ hk hlo
    show Par (m_tries_23_b N (m_tries_23 N n) σ (nI w) (nI k)) _
    unfold m_tries_23_b
    rw [hJ.2.1, l2, nI_clamp (n := l) (by omega), hJ.2.2.1 20 l (by decide) (by decide) (show l < 8 by omega), m2, shl_c (by omega)]
    refine par_gd (fun _ => par_if (fun z => par_some ?_) (fun z => ?_))
    · have z1 : 2 ^ m ≤ k := (nI_leI (by omega) (by omega)).mp z
      rcases hT with ⟨T, t1, t2, t3, t4⟩ | ⟨t, -⟩
      · have h5 := hlo T t2 t1
        exact absurd (big (T / 256) (by omega) (by omega)) t3.1
      · exact t.symm
    · have z1 : k < 2 ^ m := Classical.byContradiction (fun y => z (nI_le (by omega) (by omega)))
      have lp : ∀ (f : Nat) (σ1 : St) (c : Nat), JM σm σ1 → c ≤ 256 → (∀ T, r0 = nI T → T < 4096 → 256 * k + c ≤ T) → Par (m_tries_40 N (m_tries_23 N n) f σ1 (nI w) (nI k) (nI c)) (fun r σ' => r = r0) := by
        intro f
        induction f with
        | zero => intro σ1 c _ _ _ r σ' e; cases e
        | succ f ihf =>
          intro σ1 c hJ1 hc hlo1
          show Par (m_tries_40_b N (m_tries_23 N n) (m_tries_40 N (m_tries_23 N n) f) σ1 (nI w) (nI k) (nI c)) _
          unfold m_tries_40_b m_tries_95 m_tries_89
          rw [nI_1, nI_1]
          refine par_if (fun y => ih σ1 (k + 1) hJ1 (by omega) (fun T h1 h2 => ?_)) (fun y => ?_)
          · have : 256 ≤ c := (nI_leI (a := 256) (by decide) (by omega)).mp y
            have := hlo1 T h1 h2
            omega
          · have y1 : c < 256 := Classical.byContradiction (fun q => y (nI_le (a := 256) (by omega) (by omega)))
            rw [can_eq hN hM hJ1 y1, bd_s]
            have hd1 : (256 * k + c) / 256 = k := by omega
            have hd2 : (256 * k + c) % 256 = c := by omega
            -- this trial does not fail at w, unless it is the one
            have nxt : (∀ T, r0 = nI T → T < 4096 → ¬ T = 256 * k + c) → ∀ σ2, JM σm σ2 → Par (m_tries_40 N (m_tries_23 N n) f σ2 (nI w) (nI k) (nI (c + 1))) (fun r σ' => r = r0) := fun hne σ2 hJ2 => ihf σ2 (c + 1) hJ2 (by omega) (fun T h1 h2 => by
              have := hlo1 T h1 h2
              have := hne T h1 h2
              omega)
            refine par_if (fun e0 => nxt (fun T h1 h2 h3 => ?_) σ1 hJ1) (fun e0 => ?_)
            · rcases hT with ⟨T', t1, t2, t3, -⟩ | ⟨t, -⟩
              · have : T' = T := (nI_eq (by omega) (by omega)).mp (t2.symm.trans h1)
                subst this
                rw [h3] at t3
                unfold FW at t3
                rw [hd1] at t3
                exact t3.1 e0
              · exact nI_nm1 (show T < 1000000 by omega) (h1.symm.trans t)
            · by_cases hit : ∃ T, r0 = nI T ∧ T < 4096 ∧ T = 256 * k + c
              · obtain ⟨T, h1, h2, h3⟩ := hit
                rcases hT with ⟨T', t1, t2, t3, -⟩ | ⟨t, -⟩
                · have : T' = T := (nI_eq (by omega) (by omega)).mp (t2.symm.trans h1)
                  subst this
                  rw [h3] at t3 h1
                  unfold FW at t3
                  rw [hd1, hd2] at t3
                  refine par_bd (t3.2 σ1 hJ1) (fun _ σ4 q => ?_)
                  rw [q.1, q.2, if_pos rfl, if_pos rfl, show (256 : Int32) * nI k + nI c = nI (256 * k + c) from by rw [show (256 : Int32) = nI 256 from rfl, nI_mul, nI_add]]
                  exact par_some h1.symm
                · exact absurd (h1.symm.trans t) (nI_nm1 (show T < 1000000 by omega))
              · have nw : NWx N σm w (256 * k + c) := by
                  rcases hT with ⟨T', t1, t2, t3, t4⟩ | ⟨-, t4⟩
                  · have h5 := hlo1 T' t2 t1
                    refine t4 _ (Classical.byContradiction (fun q => hit ⟨T', t2, t1, by omega⟩))
                  · exact t4 _ (by omega)
                unfold NWx at nw
                rw [hd1, hd2] at nw
                refine par_bd ((nw e0 σ1 hJ1).and (jm_runs hN h39 hJ1).par) (fun _ σ4 q => ?_)
                have go := nxt (fun T h1 h2 h3 => hit ⟨T, h1, h2, h3⟩) σ4 q.2
                exact par_if (fun q1 => par_if (fun q2 => absurd ⟨q1, q2⟩ q.1) (fun _ => go)) (fun _ => go)
      exact lp N σ 0 hJ (by omega) (fun T h1 h2 => by have := hlo T h1 h2; omega)
theorem crv_k {N : Nat} (hN : 8589934592 ≤ N) {σm σ : St} {x : Int32} (hM : MI σm) (h : JM σm σ) : crv N σ x = crv N σm x := by
  have e := can_eq (x := x) (c := 0) hN hM h (by decide)
  have e : m_canRun N σ x 0 = some (crv N σm x, σ) := e
  show ((m_canRun N σ x 0).map (fun q => q.1)).getD 0 = _
  rw [e]
  rfl
theorem tr_k {N : Nat} (hN : 8589934592 ≤ N) {σm σ : St} {w : Nat} {r : Int32} (hM : MI σm) (h : JM σm σ) (hT : TR N σm w r) : TR N σ w r := by
  have f : ∀ T, FW N σm w T → FW N σ w T := fun T q => ⟨by rw [crv_k hN hM h]; exact q.1, fun σ' h' => q.2 σ' (jm_t h h')⟩
  have g : ∀ T, NWx N σm w T → NWx N σ w T := fun T q hc σ' h' => q (by rw [← crv_k hN hM h]; exact hc) σ' (jm_t h h')
  rcases hT with ⟨T, t1, t2, t3, t4⟩ | ⟨t1, t2⟩
  · exact Or.inl ⟨T, t1, t2, f T t3, fun T' hT' => g T' (t4 T' hT')⟩
  · exact Or.inr ⟨t1, fun T hT => g T (t2 T hT)⟩
