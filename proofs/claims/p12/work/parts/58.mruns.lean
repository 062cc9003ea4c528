/-! runs, run, ran, tries, feed of the reference -/
theorem dp_mono {σ0 σ : St} {a m n : Nat} {r : Int32} (h : DP σ0 a m r σ) (hm : m ≤ n) : DP σ0 a n r σ := ⟨h.1, h.2.1, fun e => by
  obtain ⟨t, f, s, p, q1, q2, q3, q4, q5⟩ := h.2.2 e
  exact ⟨t, f, s, p, q1, q2, q3, q4, Nat.lt_of_lt_of_le q5 hm⟩⟩
theorem s_runs_108 {N : Nat} (hN : 8589934592 ≤ N) {σ0 : St} {a : Nat} {c : Int32} (hV : BV (gA σ0) a) (ha : a ≤ 1299) : ∀ (n : Nat) (σ : St) (r : Int32), 0 < n → DP σ0 a n r σ → Tot (m_runs_108 N n σ c r) (fun _ σ' => Kq σ0 σ' ∧ gI σ' 64 = gI σ0 64) := by
  intro n
  induction n with
  | zero => intro σ r h; exact absurd h (Nat.not_lt_zero _)
  | succ n ih =>
    intro σ r _ hD
    show Tot (m_runs_108_b N (m_runs_108 N n) σ c r) _
    unfold m_runs_108_b
    refine tot_if (fun e => ?_) (fun _ => tot_some ⟨hD.1, hD.2.1⟩)
    obtain ⟨t, f, s, p, rfl, q2, q3, q4, q5⟩ := hD.2.2 e
    refine tot_bd (s_does hN hV ha q4 q3 q2) (fun r3 σ4 q => ih σ4 r3 ?_ (dp_mono q (by omega)))
    unfold ms at q5
    omega
theorem s_runs {N : Nat} (hN : 8589934592 ≤ N) {σ0 σ : St} {x y : Int32} (hM : MI σ0) (h39 : ¬ gI σ0 39 = -1) (hK : Kq σ0 σ) (h64 : gI σ 64 = gI σ0 64) : Tot (m_runs N σ x y) (fun _ σ' => Kq σ0 σ' ∧ gI σ' 64 = gI σ0 64) := by
  obtain ⟨a, ⟨-, ha, hV⟩, hE⟩ := mi_gv hM
  obtain ⟨l, l1, l2, l3⟩ := hE.elim (fun e => absurd e h39) id
  obtain ⟨⟨t0, b1, b2, b3⟩, b4, b5, b6⟩ := bv_rt hV l1 l3
  have h42 : ∀ (n : Nat) (σ1 : St) (t k : Nat), RI σ0 a t 1 0 σ1 → k ≤ 4 → 4 - k < n → Tot (m_runs_42 N n σ1 x y (nI k)) (fun _ σ' => Kq σ0 σ' ∧ gI σ' 64 = gI σ0 64) := by
    intro n
    induction n with
    | zero => intro σ1 t k _ _ h; exact absurd h (Nat.not_lt_zero _)
    | succ n ih =>
      intro σ1 t k hR hk hn
      obtain ⟨r1, r2, ⟨r3, r3'⟩, r4, r5, r6, r7, r8, r9⟩ := id hR
      show Tot (m_runs_42_b N (m_runs_42 N n) σ1 x y (nI k)) _
      unfold m_runs_42_b m_runs_98 m_runs_91
      rw [r1.2 39 (by decide) (by decide), l2, ibk (k := l) (n := 16) (by omega) (by decide), nI_clamp (n := l) (by omega), r1.1 19 (by decide), r1.1 20 (by decide), r1.1 21 (by decide), b1, ← nI_succ k]
      refine tot_gd rfl (tot_if (fun _ => tot_gd rfl ?_) (fun hl => ?_))
      · refine s_runs_108 hN hV ha N σ1 (nI t0) (by omega) ⟨r1, r2, fun _ => ⟨t, 1, 0, t0, rfl, b2, by omega, hR, ?_⟩⟩
        have := bon_le (ac := gA σ0 12) (p := t0)
        unfold ms
        omega
      · rw [Int32.le_iff_toInt_le, nI_t (by omega)] at hl
        have hk4 : k < 4 := by omega
        obtain ⟨m1, m2⟩ := b6 k (by omega)
        obtain ⟨m, m3, m4⟩ := nI_upto m1 (n := 25) m2 (by decide)
        rw [n4 l1 (by omega), ibk (k := 4 * l + k) (n := 64) (by omega) (by decide), nI_clamp (n := 4 * l + k) (by omega), m4, ibk (k := m) (n := 364) (by omega) (by decide)]
        refine tot_gd rfl (tot_if (fun _ => ?_) (fun _ => tot_gd rfl (ih _ t (k + 1) (ri_name hR ?_) (by omega) (by omega))))
        · exact tot_bd (s_makes hR (Or.inl rfl) (Or.inl rfl)) (fun r5 σ6 ⟨t2, hR2, hr2⟩ => tot_gd rfl (ih _ t2 (k + 1) (ri_name hR2 hr2) (by omega) (by omega)))
        · unfold th; rw [show (0 : Int32).toInt = 0 from rfl]; omega
  unfold m_runs
  have z : RI σ0 a 0 0 0 (sI (sI (sI (sI (sI (sI (sI σ 47 0) 50 0) 52 0) 53 0) 54 (-1)) 55 (-1)) 51 0) := by
    refine ⟨kq_tr hK (kq_tr (kq_sI (k := 47) (v := 0) (Or.inr (by decide))) (kq_tr (kq_sI (k := 50) (v := 0) (Or.inr (by decide))) (kq_tr (kq_sI (k := 52) (v := 0) (Or.inr (by decide))) (kq_tr (kq_sI (k := 53) (v := 0) (Or.inr (by decide))) (kq_tr (kq_sI (k := 54) (v := -1) (Or.inr (by decide))) (kq_tr (kq_sI (k := 55) (v := -1) (Or.inr (by decide))) (kq_sI (k := 51) (v := 0) (Or.inr (by decide))))))))), ?_, ⟨?_, by omega⟩, ⟨?_, by omega⟩, ?_, ⟨?_, by omega⟩, fun i hi => absurd hi (by omega), fun i h1 h2 => absurd h1 (by omega), fun i h1 h2 => absurd h1 (by omega)⟩
    · simp only [gI, sI]; exact h64
    · simp [gI, sI]; decide
    · simp [gI, sI]; decide
    · rw [gI_eq]; unfold th; rw [show (0 : Int32).toInt = 0 from rfl]; omega
    · simp [gI, sI]; decide
  refine tot_bd (s_frame hN z (by omega) (Or.inl rfl)) (fun _ σ2 ⟨hR, _⟩ => h42 N σ2 0 0 hR (by omega) (by omega))
theorem e_canRun {N : Nat} (hN : 8589934592 ≤ N) {σ : St} {a : Nat} {x y : Int32} (hG : GV σ a) (hE : En σ) : ∃ r, m_canRun N σ x y = some (r, σ) ∧ (¬ r = 0 → ¬ gI σ 39 = -1) := by
  have hT : ∀ P : Prop, (¬ gI σ 39 = -1 → P) → Tot (m_canRun N σ x y) (fun r σ' => σ' = σ ∧ (¬ r = 0 → P)) := by
    intro P hP
    unfold m_canRun
    refine tot_if (fun _ => tot_some ⟨rfl, fun e => absurd rfl e⟩) (fun h39 => tot_if (fun _ => tot_some ⟨rfl, fun _ => hP h39⟩) (fun _ => tot_if (fun _ => tot_some ⟨rfl, fun _ => hP h39⟩) (fun _ => tot_if (fun _ => tot_some ⟨rfl, fun _ => hP h39⟩) (fun _ => ?_))))
    obtain ⟨l, l1, l2, l3⟩ := hE.elim (fun e => absurd e h39) id
    obtain ⟨-, b4, b5, -⟩ := bv_rt hG.2.2 l1 l3
    have h42 : ∀ (n : Nat) (k : Nat), k ≤ 4 → 4 - k < n → Tot (m_canRun_42 N n σ x (nI k)) (fun r σ' => σ' = σ ∧ (¬ r = 0 → P)) := by
      intro n
      induction n with
      | zero => intro k _ h; exact absurd h (Nat.not_lt_zero _)
      | succ n ih =>
        intro k hk hn
        show Tot (m_canRun_42_b N (m_canRun_42 N n) σ x (nI k)) _
        unfold m_canRun_42_b
        rw [l2, ibk (k := l) (n := 16) (by omega) (by decide), nI_clamp (n := l) (by omega), ← nI_succ k]
        refine tot_gd rfl (tot_if (fun _ => tot_some ⟨rfl, fun _ => hP h39⟩) (fun hl => ?_))
        rw [Int32.le_iff_toInt_le, nI_t (by omega)] at hl
        rw [ibk (k := k) (n := 4) (by omega) (by decide)]
        exact tot_gd rfl (tot_if (fun _ => tot_some ⟨rfl, fun _ => hP h39⟩) (fun _ => ih (k + 1) (by omega) (by omega)))
    rw [l2, ibk (k := l) (n := 16) (by omega) (by decide)]
    exact tot_gd rfl (tot_if (fun _ => h42 N 0 (by omega) (by omega)) (fun _ => tot_some ⟨rfl, fun _ => hP h39⟩))
  obtain ⟨r, σ', e, h1, h2⟩ := hT _ id
  subst h1
  exact ⟨r, e, h2⟩
theorem s_run {N : Nat} (hN : 8589934592 ≤ N) {σ : St} {x y : Int32} (hM : MI σ) : Tot (m_run N σ x y) (fun _ σ' => MI σ' ∧ gI σ' 2 = gI σ 2) := by
  have h0 := mi_0 hM
  obtain ⟨a, hG, hE⟩ := mi_gv h0.1
  obtain ⟨r, er, hr⟩ := e_canRun hN (x := x) (y := y) hG hE
  unfold m_run
  rw [er, bd_s]
  refine tot_if (fun _ => tot_some h0) (fun hne => ?_)
  refine tot_bd (s_runs hN h0.1 (hr hne) (kq_rf _) rfl) (fun _ σ4 ⟨k1, k2⟩ => tot_some ?_)
  have hk : ∀ v1 v2 v3 v4 v5 : Int32, Kq σ (sI (sI (sI (sI (sI σ4 56 v1) 57 v2) 58 v3) 59 v4) 60 v5) := fun v1 v2 v3 v4 v5 => kq_tr (kq_tr (kq_sI (k := 0) (v := 0) (Or.inl rfl)) k1) (kq_tr (kq_sI (k := 56) (v := v1) (Or.inr (by decide))) (kq_tr (kq_sI (k := 57) (v := v2) (Or.inr (by decide))) (kq_tr (kq_sI (k := 58) (v := v3) (Or.inr (by decide))) (kq_tr (kq_sI (k := 59) (v := v4) (Or.inr (by decide))) (kq_sI (k := 60) (v := v5) (Or.inr (by decide)))))))
  refine mi_kp hM (hk _ _ _ _ _) ?_
  have : gI (sI σ 0 0) 64 = gI σ 64 := gI_ne (by decide)
  rw [← this, ← k2]
  simp [gI, sI]
theorem s_ran {N : Nat} {σ : St} {x : Int32} (hM : MI σ) : Tot (m_ran N σ x) (fun _ σ' => MI σ' ∧ gI σ' 2 = gI σ 2) := by
  have h0 := mi_0 hM
  unfold m_ran
  exact tot_if (fun _ => tot_some h0) (fun _ => tot_if (fun _ => tot_some h0) (fun _ => tot_if (fun _ => tot_some h0) (fun _ => tot_if (fun _ => tot_some h0) (fun _ => tot_if (fun _ => tot_some h0) (fun _ => tot_some h0)))))
theorem s_tries_40 {N : Nat} (hN : 8589934592 ≤ N) {σ0 : St} {x y : Int32} (hM : MI σ0) (h39 : ¬ gI σ0 39 = -1) {rec : St → Int32 → Int32 → Option (Int32 × St)} {Q : Int32 → St → Prop} (hrec : ∀ σ', Kq σ0 σ' → gI σ' 64 = gI σ0 64 → Tot (rec σ' x (y + 1)) Q) (hQ : ∀ r σ', Kq σ0 σ' → gI σ' 64 = gI σ0 64 → Q r σ') : ∀ (n : Nat) (σ : St) (k : Nat), Kq σ0 σ → gI σ 64 = gI σ0 64 → k ≤ 256 → 256 - k < n → Tot (m_tries_40 N rec n σ x y (nI k)) Q := by
  obtain ⟨a, hG, hE⟩ := mi_gv hM
  intro n
  induction n with
  | zero => intro σ k _ _ _ h; exact absurd h (Nat.not_lt_zero _)
  | succ n ih =>
    intro σ k hK h64 hk hn
    show Tot (m_tries_40_b N rec (m_tries_40 N rec n) σ x y (nI k)) _
    unfold m_tries_40_b m_tries_95 m_tries_89
    refine tot_if (fun _ => hrec σ hK h64) (fun hl => ?_)
    have hk4 := nle (n := 256) (by omega) (by decide) hl
    obtain ⟨r, er, -⟩ := e_canRun hN (x := y) (y := nI k) (gv_kq hG hK) (en_kq hE hK)
    rw [er, bd_s, ← nI_succ k]
    refine tot_if (fun _ => ih σ (k + 1) hK h64 (by omega) (by omega)) (fun _ => ?_)
    refine tot_bd (s_runs hN hM h39 hK h64) (fun _ σ4 ⟨k1, k2⟩ => ?_)
    exact tot_if (fun _ => tot_if (fun _ => tot_some (hQ _ _ k1 k2)) (fun _ => ih σ4 (k + 1) k1 k2 (by omega) (by omega))) (fun _ => ih σ4 (k + 1) k1 k2 (by omega) (by omega))
theorem s_tries {N : Nat} (hN : 8589934592 ≤ N) {σ : St} {x : Int32} (hM : MI σ) : Tot (m_tries N σ x) (fun _ σ' => MI σ' ∧ gI σ' 2 = gI σ 2) := by
  have h0 := mi_0 hM
  have hQ : ∀ (r : Int32) (σ' : St), Kq σ σ' → gI σ' 64 = gI σ 64 → MI σ' ∧ gI σ' 2 = gI σ 2 := fun r σ' k1 k2 => mi_kp hM k1 k2
  obtain ⟨a, hG, hE⟩ := mi_gv hM
  obtain ⟨a', u, w, -, -, m3, m4, -, -, -, -, m9, -⟩ := id hM
  unfold m_tries
  refine tot_if (fun _ => tot_some h0) (fun e1 => tot_gd rfl (tot_if (fun e2 => ?_) (fun _ => tot_some h0)))
  rw [show gA σ 26 ((0 : Int32).toNatClampNeg) = nI u from m3] at e2
  have h39 : ¬ gI σ 39 = -1 := by
    refine m9 ?_
    rw [Int32.lt_iff_toInt_lt] at e1 e2
    rw [nI_t (by omega)] at e2
    have : (0 : Int32).toInt = 0 := rfl
    omega
  obtain ⟨l, l1, l2, l3⟩ := hE.elim (fun e => absurd e h39) id
  obtain ⟨-, b4, b5, -⟩ := bv_rt hG.2.2 l1 l3
  obtain ⟨m, m1, m2⟩ := nI_upto b4 (n := 4) b5 (by decide)
  have hp : 2 ^ m ≤ 1024 := p2_le (by omega)
  have h23 : ∀ (n : Nat) (σ1 : St) (k : Nat), Kq σ σ1 → gI σ1 64 = gI σ 64 → k ≤ 2 ^ m → 2 ^ m - k < n → Tot (m_tries_23 N n σ1 x (nI k)) (fun _ σ' => MI σ' ∧ gI σ' 2 = gI σ 2) := by
    intro n
    induction n with
    | zero => intro σ1 k _ _ _ h; exact absurd h (Nat.not_lt_zero _)
    | succ n ih =>
      intro σ1 k hK h64 hk hn
      show Tot (m_tries_23_b N (m_tries_23 N n) σ1 x (nI k)) _
      unfold m_tries_23_b
      rw [hK.2 39 (by decide) (by decide), l2, ibk (k := l) (n := 16) (by omega) (by decide), nI_clamp (n := l) (by omega), hK.1 20 (by decide), m2, shl_c (by omega)]
      refine tot_gd rfl (tot_if (fun _ => tot_some (hQ 0 _ hK h64)) (fun hl => ?_))
      have hk4 := nle (n := 2 ^ m) (by omega) (nI_t (by omega)) hl
      refine s_tries_40 hN hM h39 (fun σ' k1 k2 => ?_) hQ N σ1 0 hK h64 (by omega) (by omega)
      rw [← nI_succ k]
      exact ih σ' (k + 1) k1 k2 (by omega) (by omega)
  exact h23 N (sI σ 0 0) 0 (kq_sI (Or.inl rfl)) (gI_ne (by decide)) (Nat.zero_le _) (by omega)
theorem mi_12 {σ σ' : St} (h : MI σ) (hA : ∀ j, 12 ≤ j → gA σ' j = gA σ j) (h18 : gI σ' 18 = gI σ 18) (h39 : gI σ' 39 = gI σ 39) (h64 : gI σ' 64 = gI σ 64) (h2 : 0 ≤ (gI σ' 2).toInt ∧ (gI σ' 2).toInt ≤ 1200) : MI σ' := by
  obtain ⟨a, u, w, m1, m2, m3, m4, m5, m6, m7, m8, m9, m10, m11, m12, m13⟩ := h
  refine ⟨a, u, w, h18.trans m1, m2, ?_, m4, ?_, m6, ?_, ?_, ?_, h2.1, h2.2, by rw [h64]; exact m12, by rw [h64]; exact m13⟩
  · rw [hA 26 (by decide)]; exact m3
  · rw [hA 29 (by decide)]; exact m5
  · unfold BV at m7 ⊢
    rw [hA 12 (by decide), hA 13 (by decide), hA 14 (by decide), hA 15 (by decide), hA 19 (by decide), hA 20 (by decide), hA 21 (by decide)]
    exact m7
  · rw [h39, hA 19 (by decide)]; exact m8
  · rw [h39]; exact m9
theorem s_feed {N : Nat} (hN : 8589934592 ≤ N) {σ : St} {x1 x2 x3 x4 x5 : Int32} (hM : MI σ) : Tot (m_feed N σ x1 x2 x3 x4 x5) (fun r σ' => MI σ' ∧ (if gI σ 2 ≤ 1180 then r = gI σ 2 + 20 ∧ gI σ' 2 = gI σ 2 + 20 else r = -1 ∧ gI σ' 2 = gI σ 2)) := by
  have h0 := mi_0 hM
  obtain ⟨a', u, w, -, -, -, -, -, -, -, -, -, m10, m11, -⟩ := id hM
  obtain ⟨q, q1, q2⟩ := nI_upto m10 (n := 1200) m11 (by decide)
  unfold m_feed
  refine tot_if (fun hl => ?_) (fun hl => tot_some ⟨h0.1, by rw [if_neg hl]; exact ⟨rfl, h0.2⟩⟩)
  have hq : q ≤ 1180 := by
    rw [q2, Int32.le_iff_toInt_le, nI_t (by omega), show (1180 : Int32).toInt = 1180 from rfl] at hl
    omega
  have h20 : ∀ (n : Nat) (σ1 : St) (k : Nat), (∀ j, 12 ≤ j → gA σ1 j = gA σ j) → (∀ j, j ≠ 0 → gI σ1 j = gI σ j) → k ≤ 20 → 20 - k < n → Tot (m_feed_20 N n σ1 x1 x2 x3 x4 x5 (nI k)) (fun r σ' => MI σ' ∧ (if gI σ 2 ≤ 1180 then r = gI σ 2 + 20 ∧ gI σ' 2 = gI σ 2 + 20 else r = -1 ∧ gI σ' 2 = gI σ 2)) := by
    intro n
    induction n with
    | zero => intro σ1 k _ _ _ h; exact absurd h (Nat.not_lt_zero _)
    | succ n ih =>
      intro σ1 k hA hI hk hn
      have e2 : gI σ1 2 = nI q := (hI 2 (by decide)).trans q2
      show Tot (m_feed_20_b N (m_feed_20 N n) σ1 x1 x2 x3 x4 x5 (nI k)) _
      unfold m_feed_20_b m_feed_110 m_feed_73
      rw [e2]
      refine tot_if (fun _ => tot_some ?_) (fun hl2 => ?_)
      · have e3 : gI (sI σ1 2 (nI q + 20)) 2 = nI (q + 20) := by
          rw [gI_eq, show (20 : Int32) = nI 20 from by decide, nI_add]
        refine ⟨mi_12 hM hA ((gI_ne (by decide)).trans (hI 18 (by decide))) ((gI_ne (by decide)).trans (hI 39 (by decide))) ((gI_ne (by decide)).trans (hI 64 (by decide))) ?_, ?_⟩
        · rw [e3, nI_t (by omega)]
          omega
        · rw [if_pos hl, q2]
          exact ⟨rfl, gI_eq⟩
      · have hk4 := nle (n := 20) (by omega) (by decide) hl2
        rw [nI_add, ibk (k := q + k) (n := 1200) (by omega) (by decide), ← nI_succ k]
        have go : ∀ v : Int32, Tot (gd true (m_feed_20 N n (sA σ1 1 ((nI (q + k)).toNatClampNeg) v) x1 x2 x3 x4 x5 (nI (k + 1)))) (fun r σ' => MI σ' ∧ (if gI σ 2 ≤ 1180 then r = gI σ 2 + 20 ∧ gI σ' 2 = gI σ 2 + 20 else r = -1 ∧ gI σ' 2 = gI σ 2)) := fun v => tot_gd rfl (ih _ (k + 1) (fun j hj => by rw [gA_sA, if_neg (by omega)]; exact hA j hj) hI (by omega) (by omega))
        exact tot_if (fun _ => tot_if (fun _ => tot_if (fun _ => tot_if (fun _ => go _) (fun _ => go _)) (fun _ => go _)) (fun _ => go _)) (fun _ => go _)
  exact h20 N (sI σ 0 0) 0 (fun _ _ => rfl) (fun j hj => gI_ne (fun e => hj e.symm)) (by omega) (by omega)
