/-! the class's trials find what the reference would -/
theorem cnb_0 {f : Nat → Bool} : ∀ n, (∀ i, i < n → f i = false) → cnb f n = 0
  | 0, _ => rfl
  | n + 1, h => by
    show cnb f n + (if f n = true then 1 else 0) = 0
    rw [cnb_0 n (fun i hi => h i (by omega)), h n (by omega), if_neg (by decide)]
theorem fd_f {σ : St} {w : Nat} (h : gA σ 20 w = -1) : fd σ w = false := decide_eq_false (fun e => e h)
theorem fd_t {σ : St} {w : Nat} (h : ¬ gA σ 20 w = -1) : fd σ w = true := decide_eq_true h
theorem c_noteT {N : Nat} {σc σm σ : St} {bt : Nat → Bool} {T : Nat} {rc f : Int32} (hu40 : uN σm ≤ 40) (hT : T < 4096) (h : LQ N σc σm bt T σ) (hf : gI σ 1510 = f) (hv : rc = 2 → ∃ v, v < uN σm ∧ f = nI v ∧ bt v = true) (nwT : ∀ w, ¬ (rc = 2 ∧ f = nI w) → NWx N σm w T) (fwT : ∀ w, rc = 2 → f = nI w → FW N σm w T) : Par (x9_noteFailure N σ (nI T) rc) (fun _ σ' => LQ N σc σm bt (T + 1) σ' ∧ gI σ' 1509 = gI σ 1509) := by
  unfold x9_noteFailure
  refine par_if (fun e2 => ?_) (fun e2 => par_some ⟨lq_next h (fun w _ _ _ => nwT w (fun q => e2 q.1)), rfl⟩)
  obtain ⟨v, v1, v2, v3⟩ := hv e2
  rw [hf, v2]
  refine par_bd (c_at (j := 20) (i := v) (show v < 40 by omega)) (fun r1 σ2 z => ?_)
  obtain ⟨z1, z2⟩ := z
  subst z1
  rw [z2]
  refine par_if (fun y => ?_) (fun y => par_some ⟨lq_next h (fun w hw e _ => nwT w (fun q => ?_)), rfl⟩)
  · refine par_bd (c_put (j := 20) (i := v) (show v < 40 by omega)) (fun _ σ4 x => par_some ⟨?_, ?_⟩)
    · subst x
      obtain ⟨h1, h2, h3, h4, h5⟩ := h
      have e20 : ∀ w, gA (sI (sA σ2 20 v (nI T)) 1905 (gI (sA σ2 20 v (nI T)) 1905 - 1)) 20 w = if w = v then nI T else gA σ2 20 w := fun w => by
        show gA (sA σ2 20 v (nI T)) 20 w = _
        rw [gA_sA, if_pos rfl]
        by_cases e : w = v
        · rw [e, pk_us, if_pos rfl]
        · rw [pk_un e, if_neg e]
      have e21 : gA (sI (sA σ2 20 v (nI T)) 1905 (gI (sA σ2 20 v (nI T)) 1905 - 1)) 21 = gA σ2 21 := by
        show gA (sA σ2 20 v (nI T)) 21 = _
        rw [gA_sA, if_neg (by decide)]
      have nm : ¬ nI T = -1 := nI_nm1 (by omega)
      have h4' : ∀ w, w < 40 → fd (sI (sA σ2 20 v (nI T)) 1905 (gI (sA σ2 20 v (nI T)) 1905 - 1)) w = true → w < uN σm ∧ bt w = true := fun w hw hfd => by
        by_cases e : w = v
        · rw [e]; exact ⟨v1, v3⟩
        · refine h4 w hw (fd_t (fun q => ?_))
          have := of_decide_eq_true hfd
          rw [e20, if_neg e] at this
          exact this q
      refine ⟨kc_I (kc_A h1 (by decide)) (by decide), fun w hw => ?_, fun c x hc hx e => ?_, h4', ?_⟩
      · rw [e20]
        by_cases e : w = v
        · rw [if_pos e, e]
          refine Or.inr ⟨T, by omega, rfl, fwT v e2 v2, ?_⟩
          rcases h2 v (by omega) with ⟨-, q⟩ | ⟨T0, q0, q1, -⟩
          · exact q
          · exact absurd (q1.symm.trans y) (nI_nm1 (by omega))
        · rw [if_neg e]
          rcases h2 w hw with ⟨q1, q2⟩ | ⟨T0, q0, q1⟩
          · refine Or.inl ⟨q1, fun T' hT' => ?_⟩
            rcases (show T' = T ∨ T' < T by omega) with e3 | e3
            · rw [e3]
              refine nwT w (fun q => e ?_)
              exact (nI_eq (by omega) (by omega)).mp (q.2.symm.trans v2)
            · exact q2 T' e3
          · exact Or.inr ⟨T0, by omega, q1⟩
      · rw [e21] at e
        obtain ⟨T0, t1, t2⟩ := h3 c x hc hx e
        exact ⟨T0, by omega, t2⟩
      · have hins : cnb (fd (sI (sA σ2 20 v (nI T)) 1905 (gI (sA σ2 20 v (nI T)) 1905 - 1))) (uN σm) = cnb (fd σ2) (uN σm) + 1 := cnb_ins (w := v) (fd_f y) (fd_t (by rw [e20, if_pos rfl]; exact nm)) (fun i hi => by
          show decide _ = decide _
          rw [e20, if_neg hi]) _ v1
        have hle := (cnb_m (f := fd (sI (sA σ2 20 v (nI T)) 1905 (gI (sA σ2 20 v (nI T)) 1905 - 1))) (g := bt) (uN σm) (fun i hi hfd => (h4' i (by omega) hfd).2)).1
        show gI (sI (sA σ2 20 v (nI T)) 1905 (gI (sA σ2 20 v (nI T)) 1905 - 1)) 1905 = _
        rw [gI_eq, hins, show gI (sA σ2 20 v (nI T)) 1905 = nI (cnb bt (uN σm) - cnb (fd σ2) (uN σm)) from h5, show cnb bt (uN σm) - cnb (fd σ2) (uN σm) = cnb bt (uN σm) - (cnb (fd σ2) (uN σm) + 1) + 1 by omega, nI_pred]
    · subst x
      rfl
  · have : w = v := (nI_eq (by omega) (by omega)).mp (q.2.symm.trans v2)
    rw [← this] at y
    exact y e
theorem c_loop {N : Nat} {σc σm : St} {bt : Nat → Bool} (hN : 8589934592 ≤ N) (hS : SCx σc σm) (hM : MI σm) (h39 : ¬ gI σm 39 = -1) (hOB : OB σm) (hUB : UB σm) (hbt : ∀ w, w < uN σm → (∀ D, So (σc, σm) D → D.2.2.2.2 (100 + w) 0) → bt w = true) : ∀ (n T : Nat) (σ : St), T ≤ 4096 → LQ N σc σm bt T σ → Par (x9_fill_31 N n σ (nI T)) (fun _ σ' => gI σ' 1904 = 0 ∧ Kc σc σ' ∧ ∀ w, w < 40 → TR N σm w (gA σ' 20 w)) := by
  have hu40 : uN σm ≤ 40 := by
    obtain ⟨a, u, -, -, f3, f4, -⟩ := hUB
    rw [uN_of f3 f4]
    exact f4
  intro n
  induction n with
  | zero => intro T σ _ _ r σ' e; cases e
  | succ n ih =>
    intro T σ hT h
    show Par (x9_fill_31_b N (x9_fill_31 N n) σ (nI T)) _
    unfold x9_fill_31_b x9_fill_104
    rw [nI_1]
    refine par_if (fun z => par_some ⟨gI_eq, kc_I h.1 (by decide), fun w hw => ?_⟩) (fun z => ?_)
    · have e : T = 4096 := by have := (nI_leI (a := 4096) (by decide) (by omega)).mp z; omega
      subst e
      show TR N σm w (gA σ 20 w)
      rcases h.2.1 w hw with ⟨q1, q2⟩ | ⟨T0, q0, q1, q2, q3⟩
      · exact Or.inr ⟨q1, q2⟩
      · exact Or.inl ⟨T0, q0, q1, q2, q3⟩
    have hT4 : T < 4096 := Classical.byContradiction (fun y => z (nI_le (a := 4096) (by omega) (by omega)))
    obtain ⟨t1, t2⟩ := n_tri T hT4
    rw [t2, t1]
    have x16 : T / 256 < 16 := by omega
    have c256 : T % 256 < 256 := Nat.mod_lt _ (by decide)
    have eT : 256 * (T / 256) + T % 256 = T := by omega
    refine par_if (fun y => par_some ⟨gI_eq, kc_I h.1 (by decide), fun w hw => ?_⟩) (fun _ => ?_)
    · show TR N σm w (gA σ 20 w)
      obtain ⟨h1, h2, h3, h4, h5⟩ := h
      have hb := cnb_le bt (uN σm)
      have hz : cnb bt (uN σm) - cnb (fd σ) (uN σm) = 0 := by
        rw [h5] at y
        have := (nI_leI (b := 0) (by omega) (by decide)).mp y
        omega
      rcases h2 w hw with ⟨q1, q2⟩ | ⟨T0, q0, q1, q2, q3⟩
      · refine Or.inr ⟨q1, fun T' hT' hx σ' hJ => ?_⟩
        refine (nd_runs (c := nI (T' % 256)) hN hS hM h39 hOB hUB hJ hx).mono (fun _ σ2 k q => ?_)
        obtain ⟨v, v1, v2, v3⟩ := k q.1
        have ev : v = w := (nI_eq (by omega) (by omega)).mp (v2.symm.trans q.2)
        subst ev
        have := (cnb_m (f := fd σ) (g := bt) (uN σm) (fun i hi hfd => (h4 i (by omega) hfd).2)).2 ⟨v, v1, fd_f q1, hbt v v1 v3⟩
        omega
      · exact Or.inl ⟨T0, by omega, q1, q2, q3⟩
    refine par_bd (c_at (j := 21) (i := T % 256) (show T % 256 < 256 from c256)) (fun r5 σ6 w => ?_)
    obtain ⟨w1, w2⟩ := w
    subst w1
    rw [w2]
    refine par_if (fun y => ih (T + 1) σ6 (by omega) (lq_next h (fun w _ _ all => ?_))) (fun _ => ?_)
    · obtain ⟨T0, q1, q2⟩ := h.2.2.1 (T % 256) (T / 256) c256 x16 y
      have := q2 w (all T0 q1)
      rw [eT] at this
      exact this
    have ec := can_eq (x := nI (T / 256)) (c := 0) hN hM (jm_r hM) (by decide)
    refine par_bd (P := fun r7 σ8 => r7 = crv N σm (nI (T / 256)) ∧ σ8 = σ6) (fun r7 σ8 e => ?_) (fun r7 σ8 y => ?_)
    · obtain ⟨k1, k2, -⟩ := r_alw1 (y := nI 0) (sc_k hS h.1 (jm_r hM)) hM h39 (by decide) (by decide) r7 σ8 _ _ e ec
      exact ⟨k1, k2⟩
    obtain ⟨y1, y2⟩ := y
    subst y2
    rw [y1]
    refine par_if (fun hx => ih (T + 1) σ8 (by omega) (lq_next h (fun w _ _ _ hx2 => absurd hx hx2))) (fun hx => ?_)
    refine par_bd ((c_trial (x := nI (T / 256)) (c := nI (T % 256)) hN hS hM h39 hOB hUB h.1 hx).and ((kc_x6_go h.1).and (ky_x6_go (ky_r σ8)))) (fun r9 σ10 k => ?_)
    obtain ⟨⟨f, A, f1, f2, f3, f4, f5⟩, k1, k2⟩ := k
    have nwT : ∀ w, ¬ (r9 = 2 ∧ f = nI w) → NWx N σm w T := fun w hne _ σ' hJ => (f4 σ' hJ (nI (T % 256)) (fun _ _ => rfl)).mono (fun _ σ2 y q => hne ⟨y.1.symm.trans q.1, y.2.symm.trans q.2⟩)
    have fwT : ∀ w, r9 = 2 → f = nI w → FW N σm w T := fun w e2 ef => ⟨hx, fun σ' hJ => (f4 σ' hJ (nI (T % 256)) (fun _ _ => rfl)).mono (fun _ σ2 y => ⟨y.1.trans e2, y.2.trans ef⟩)⟩
    refine par_bd ((c_noteT (bt := bt) (T := T) (rc := r9) hu40 hT4 (lq_k h k1 k2) f1 (fun e2 => ?_) nwT fwT)) (fun _ σ12 q => ?_)
    · obtain ⟨v, v1, v2, v3⟩ := f5 e2
      exact ⟨v, v1, v2, hbt v v1 v3⟩
    obtain ⟨q1, q2⟩ := q
    have h9 : gI σ12 1509 = nI A := q2.trans f2
    unfold x9_skipTheSame
    rw [h9]
    refine par_bd (P := fun _ σ14 => LQ N σc σm bt (T + 1) σ14) (par_if (fun _ => par_some q1) (fun a8 => ?_)) (fun _ σ14 q => ih (T + 1) σ14 (by omega) q)
    have A8 : A < 8 := Classical.byContradiction (fun y => a8 (nI_le (a := 8) (by omega) f3))
    have hs := (c_skip (N := N) (σ0 := σ12) (x := T / 256) (c0 := T % 256) A8 h9 N 0 σ12 (fun _ _ => rfl) (fun _ => rfl) (kc_r σ12) (fun c _ => Or.inl rfl) (by rw [Nat.zero_mul]; omega)).and (kc_x9_skipTheSame_14 (s0 := σc) N σ12 (nI (T / 256)) (nI (T % 256 + 0 * 2 ^ A)) q1.1)
    rw [Nat.zero_mul, Nat.add_zero] at hs
    refine hs.mono ?_
    intro _ σ14 s
    obtain ⟨⟨s1, s2, -, s4⟩, s5⟩ := s
    obtain ⟨g1, g2, g3, g4, g5⟩ := q1
    have e20 : gA σ14 20 = gA σ12 20 := s1 20 (by decide)
    have ef : fd σ14 = fd σ12 := by
      unfold fd
      rw [e20]
    refine ⟨s5, by rw [e20]; exact g2, fun c x hc hx2 e => ?_, by rw [ef]; exact g4, by rw [ef, s2]; exact g5⟩
    rcases s4 c hc with p1 | ⟨p1, i, p2⟩
    · rw [p1] at e
      exact g3 c x hc hx2 e
    · have ex : x = T / 256 := (nI_eq (by omega) (by omega)).mp (e.symm.trans p1)
      subst ex
      refine ⟨T, by omega, fun w nw hx3 σ' hJ => ?_⟩
      rw [show (256 * (T / 256) + c) / 256 = T / 256 by omega, show (256 * (T / 256) + c) % 256 = c by omega]
      obtain ⟨u2, σ2, e2, -⟩ := jm_runs hN (x := nI (T / 256)) (c := nI (T % 256)) h39 hJ
      have q3 := f4 σ' hJ (nI (T % 256)) (fun _ _ => rfl) u2 σ2 e2
      have q4 := nw hx σ' hJ u2 σ2 e2
      have q5 := f4 σ' hJ (nI c) (by rw [p2]; exact cb_same A8 (by rw [← p2]; exact hc))
      exact q5.mono (fun _ σ3 y q => q4 ⟨q3.1.trans (y.1.symm.trans q.1), q3.2.trans (y.2.symm.trans q.2)⟩)
/-- the trials are filled: each use has its first -/
theorem c_fillT {N : Nat} {σc σm σ : St} {bt : Nat → Bool} (hN : 8589934592 ≤ N) (hS : SCx σc σm) (hM : MI σm) (h39 : ¬ gI σm 39 = -1) (hOB : OB σm) (hUB : UB σm) (hbt : ∀ w, w < uN σm → (∀ D, So (σc, σm) D → D.2.2.2.2 (100 + w) 0) → bt w = true) (hK : Kc σc σ) (hT : gI σ 1904 = 0 → ∀ w, w < 40 → TR N σm w (gA σ 20 w)) : Par (x9_fill N σ (nI (cnb bt (uN σm)))) (fun _ σ' => gI σ' 1904 = 0 ∧ Kc σc σ' ∧ ∀ w, w < 40 → TR N σm w (gA σ' 20 w)) := by
  have hu40 : uN σm ≤ 40 := by
    obtain ⟨a, u, -, -, f3, f4, -⟩ := hUB
    rw [uN_of f3 f4]
    exact f4
  unfold x9_fill
  refine par_if (fun e => par_some ⟨e, hK, hT e⟩) (fun _ => ?_)
  refine par_bd ((fill_a (j := 20) (L := 40) rfl (by decide)).and (kc_j_fill (kc_I hK (by decide)) (by decide))) (fun _ σ2 y => par_bd ((fill_a (j := 21) (L := 256) rfl (by decide)).and (kc_j_fill y.2 (by decide))) (fun _ σ4 w => ?_))
  obtain ⟨⟨a1, a2, a3, -⟩, a4⟩ := y
  obtain ⟨⟨b1, b2, b3, -⟩, b4⟩ := w
  have r20 : ∀ i, i < 40 → gA σ4 20 i = -1 := fun i hi => by rw [b2 20 (by decide)]; exact a1 i hi
  refine c_loop hN hS hM h39 hOB hUB hbt N 0 σ4 (by decide) ⟨b4, fun w hw => Or.inl ⟨r20 w hw, fun T' hT' => absurd hT' (Nat.not_lt_zero T')⟩, fun c x hc hx e => ?_, fun w hw e => ?_, ?_⟩
  · rw [b1 c hc] at e
    exact absurd e.symm (nI_nm1 (by omega))
  · rw [fd_f (r20 w hw)] at e
    exact absurd e (by decide)
  · rw [cnb_0 (f := fd σ4) (uN σm) (fun i hi => fd_f (r20 i (by omega))), Nat.sub_zero, b3, a3]
    exact gI_eq
theorem c_guards {N u : Nat} {σ : St} (hg : isPr (gP σ 906) = true) (hu : gI σ (100 * gP σ 906 + 11) = nI u) (h40 : u ≤ 40) : ∀ (f i : Nat), i ≤ u → Par (x1_guardsNeeded_4 N f σ (nI (cnb (fun w => decide (¬ gA σ 13 w &&& 1 = 0)) i)) (nI i)) (fun r σ' => σ' = σ ∧ r = nI (cnb (fun w => decide (¬ gA σ 13 w &&& 1 = 0)) u)) := by
  intro f
  induction f with
  | zero => intro i _ r σ' e; cases e
  | succ f ih =>
    intro i hi
    show Par (x1_guardsNeeded_4_b N (x1_guardsNeeded_4 N f) σ (nI (cnb (fun w => decide (¬ gA σ 13 w &&& 1 = 0)) i)) (nI i)) _
    unfold x1_guardsNeeded_4_b x1_guardsNeeded_31
    rw [hg, gd_t, hu]
    refine par_if (fun z => ?_) (fun z => ?_)
    · have e : i = u := by have := (nI_leI (by omega) (by omega)).mp z; omega
      rw [e]
      exact par_some ⟨rfl, rfl⟩
    · have z2 : i < u := Classical.byContradiction (fun y => z (nI_le (by omega) (by omega)))
      refine par_bd (c_at (j := 13) (i := i) (show i < 40 by omega)) (fun r σ1 y => ?_)
      obtain ⟨y1, y2⟩ := y
      subst y1
      rw [y2, nI_1, nI_1]
      have hn := ih (i + 1) (by omega)
      have e1 : cnb (fun w => decide (¬ gA σ1 13 w &&& 1 = 0)) (i + 1) = cnb (fun w => decide (¬ gA σ1 13 w &&& 1 = 0)) i + (if decide (¬ gA σ1 13 i &&& 1 = 0) = true then 1 else 0) := rfl
      by_cases c : gA σ1 13 i &&& 1 = 0
      · rw [if_pos c]
        rw [e1, if_neg (by rw [decide_eq_true_eq]; exact fun q => q c)] at hn
        exact hn
      · rw [if_neg c]
        rw [e1, if_pos (by rw [decide_eq_true_eq]; exact c)] at hn
        exact hn
