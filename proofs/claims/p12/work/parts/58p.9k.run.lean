/-! runs: the beginning, and run itself -/
theorem c_outers {N : Nat} {σ : St} {G T l m : Nat} (h7 : gP σ 700 = G) (hg : isPr G = true) (h1 : gI σ 701 = nI l) (hl : l < 8) (t1 : T < 256) (t2 : gI σ (100 * G + 9) = nI T) (ct : T / 2 ^ l % 2 = 1) (h4 : gA σ (G + 4) l = nI m) (hm : m ≤ 4) : Par (x7_outers N σ) (fun r σ' => σ' = σ ∧ r = nI m) := by
  unfold x7_outers
  refine par_gd (fun _ => par_bd (P := fun r σ' => σ' = σ ∧ r = nI m) ?_ (fun r2 σ3 z => ?_))
  · rw [h1, h7]
    have hlen : l < lenC (G + 4) := by
      rcases pr_or hg with h | h
      · rw [h]; show l < 8; omega
      · rw [h]; show l < 8; omega
    exact (c_at hlen).mono (fun r σ' z => ⟨z.1, z.2.trans h4⟩)
  · obtain ⟨z1, z2⟩ := z
    rw [z1, z2, h1, h7]
    refine par_gd (fun _ => ?_)
    rw [c_has hg t2 t1 hl, bd_s, if_pos ct, if_neg (show ¬ (1 : Int32) = 0 by decide)]
    unfold x7_outers_33
    exact par_some ⟨rfl, if_neg (show ¬ (4 : Int32) < nI m from nI_nlt (a := 4) (by omega) (by decide))⟩
theorem bit3 : ∀ x, x < 4 → ((nI x &&& 1 = 0 ↔ (nI x >>> ((0 : Int32) &&& 31)) &&& 1 = 0) ∧ (nI x &&& 2 = 0 ↔ (nI x >>> ((1 : Int32) &&& 31)) &&& 1 = 0)) := by decide +kernel
/-- where a run begins -/
def EN (G T l m p : Nat) (φ : Nat → Nat) (σc σm : St) : Prop := gP σc 700 = G ∧ gI σc 701 = nI l ∧ l < 8 ∧ T < 256 ∧ gI σc (100 * G + 9) = nI T ∧ T / 2 ^ l % 2 = 1 ∧ gA σc (G + 4) l = nI m ∧ m ≤ 4 ∧ gI σm 39 = nI l ∧ gA σm 20 l = nI m ∧ gA σc (G + 3) l = nI p ∧ gA σm 19 l = nI (φ p) ∧ ∀ k, k < m → gA σc (G + 5) (4 * l + k) = gA σm 21 (4 * l + k)
theorem en_k {G T l m p : Nat} {φ : Nat → Nat} {σc σm σc' σm' : St} (hg : isPr G = true) (h : EN G T l m p φ σc σm) (hc : Kc σc σc') (hm : Kq σm σm') : EN G T l m p φ σc' σm' := by
  have g := pr_or hg
  obtain ⟨e1, e2, e3, e4, e5, e6, e7, e8, e9, e10, e11, e12, e13⟩ := h
  refine ⟨(hc.2.2 700 (by decide)).trans e1, (hc.1 701 (by decide)).trans e2, e3, e4, (hc.1 _ (by omega)).trans e5, e6, ?_, e8, (hm.2 39 (by decide) (by decide)).trans e9, ?_, ?_, ?_, fun k hk => ?_⟩
  · rw [hc.2.1 _ (by omega)]; exact e7
  · rw [hm.1 20 (by decide)]; exact e10
  · rw [hc.2.1 _ (by omega)]; exact e11
  · rw [hm.1 19 (by decide)]; exact e12
  · rw [hc.2.1 _ (by omega), hm.1 21 (by decide)]; exact e13 k hk
theorem en_out {N : Nat} {G T l m p : Nat} {φ : Nat → Nat} {σc σm : St} (hg : isPr G = true) (h : EN G T l m p φ σc σm) : Par (x7_outers N σc) (fun r σ' => σ' = σc ∧ r = nI m) := by
  obtain ⟨e1, e2, e3, e4, e5, e6, e7, e8, -⟩ := h
  exact c_outers e1 hg e2 e3 e4 e5 e6 e7 e8
theorem r_allow32 {N : Nat} {σc σm : St} {G T l m p : Nat} {φ : Nat → Nat} {x : Int32} (hg : isPr G = true) (h : EN G T l m p φ σc σm) (h8 : O8 σc σm) : ∀ (n n' i : Nat), i ≤ m → R2 (x7_allows_32 N n σc x (nI i)) (m_canRun_42 N n' σm x (nI i)) (fun rc σc' rm σm' => rc = rm ∧ σc' = σc ∧ σm' = σm) := by
  obtain ⟨e1, e2, e3, e4, e5, e6, e7, e8, e9, e10, -⟩ := id h
  intro n
  induction n with
  | zero => intro n' i _ rc σc' rm σm' e; cases e
  | succ n ih =>
    intro n' i hi
    cases n' with
    | zero => intro rc σc' rm σm' _ e; cases e
    | succ n' =>
      show R2 (x7_allows_32_b N (x7_allows_32 N n) σc x (nI i)) (m_canRun_42_b N (m_canRun_42 N n') σm x (nI i)) _
      unfold x7_allows_32_b m_canRun_42_b x7_allows_53
      refine r2_bdL (en_out hg h) (fun r6 σ7 w => ?_)
      obtain ⟨w1, w2⟩ := w
      rw [w1, w2, e9, nI_clamp (n := l) (by omega), e10]
      refine r2_gdR (fun _ => ?_)
      by_cases z : nI m ≤ nI i
      · rw [if_pos z, if_pos z]
        exact r2_some ⟨rfl, rfl, rfl⟩
      · rw [if_neg z, if_neg z]
        have z2 : i < m := Classical.byContradiction (fun y => z (nI_le (by omega) (by omega)))
        obtain ⟨o1, v, o2, o3⟩ := h8 i (by omega)
        obtain ⟨b1, b2⟩ := bit3 v (by omega)
        rw [nI_clamp (n := i) (by omega), o3, nI_1]
        refine r2_gdR (fun _ => ?_)
        rcases and1 (x := x >>> (nI i &&& 31)) with hb | hb
        · rw [hb, if_pos rfl]
          refine r2_bdL (c_at (show i < 4 by omega)) (fun r8 σ9 y => ?_)
          rw [y.1, y.2, o1, o3]
          by_cases c : nI v &&& 1 = 0
          · rw [if_pos c, if_pos (b1.mp c)]
            exact r2_some ⟨rfl, rfl, rfl⟩
          · rw [if_neg c, if_neg (fun e => c (b1.mpr e))]
            exact ih n' (i + 1) (by omega)
        · rw [hb, if_neg (show ¬ (1 : Int32) = 0 by decide)]
          refine r2_bdL (c_at (show i < 4 by omega)) (fun r8 σ9 y => ?_)
          rw [y.1, y.2, o1, o3]
          by_cases c : nI v &&& 2 = 0
          · rw [if_pos c, if_pos (b2.mp c)]
            exact r2_some ⟨rfl, rfl, rfl⟩
          · rw [if_neg c, if_neg (fun e => c (b2.mpr e))]
            exact ih n' (i + 1) (by omega)
theorem nI_nm1 {a : Nat} (h : a < 1000000) : ¬ nI a = -1 := fun e => by
  have := congrArg Int32.toInt e
  rw [nI_t (by omega), show (-1 : Int32).toInt = -1 from rfl] at this
  omega
theorem r_allow {N : Nat} {σc σm : St} {G T l m p : Nat} {φ : Nat → Nat} {x y : Int32} (hg : isPr G = true) (h : EN G T l m p φ σc σm) (h8 : O8 σc σm) (hy0 : ¬ y < 0) (hy1 : ¬ 255 < y) : R2 (x7_allows N σc x) (m_canRun N σm x y) (fun rc σc' rm σm' => rc = rm ∧ σc' = σc ∧ σm' = σm) := by
  obtain ⟨e1, e2, e3, e4, e5, e6, e7, e8, e9, e10, -⟩ := id h
  unfold x7_allows m_canRun
  rw [e1, hg, gd_t, e2, c_has hg e5 e4 e3, bd_s, if_pos e6, if_neg (show ¬ (1 : Int32) = 0 by decide), e9, if_neg (nI_nm1 (show l < 1000000 by omega)), if_neg hy0, if_neg hy1]
  by_cases c : x < 0
  · rw [if_pos c, if_pos c]
    exact r2_some ⟨rfl, rfl, rfl⟩
  · rw [if_neg c, if_neg c, nI_clamp (n := l) (by omega), e10]
    refine r2_bdL (en_out hg h) (fun r4 σ5 w => ?_)
    rw [w.1, w.2]
    refine r2_gdR (fun _ => ?_)
    by_cases c2 : x < (1 : Int32) <<< (nI m &&& 31)
    · rw [if_pos c2, if_pos c2]
      exact r_allow32 hg h h8 N N 0 (Nat.zero_le _)
    · rw [if_neg c2, if_neg c2]
      exact r2_some ⟨rfl, rfl, rfl⟩
theorem th_0 {t : Nat} : th t 0 := by
  unfold th
  rw [show (0 : Int32).toInt = 0 from rfl]
  omega
theorem r_beg {N : Nat} {σc0 σm0 : St} {G s T l m p : Nat} {φ : Nat → Nat} {c x : Int32} (hN : 8589934592 ≤ N) (hO : RO σc0 σm0 G s φ) (hE : EN G T l m p φ σc0 σm0) (hps : p < s) : ∀ (n n' i t : Nat) (σc σm : St), i ≤ m → t ≤ i → RS σc0 σm0 G s φ c t 0 0 0 σc σm → gI σc 1515 = 0 → R2 (bd (x6_begin_68 N n σc x (nI i)) (fun _ σ => x6_go_8 N N σ 0)) (m_runs_42 N n' σm x c (nI i)) (fun rc σc' _ σm' => RZ σc' σm' ∧ rc = gI σc' 1511) := by
  intro n
  induction n with
  | zero => intro n' i t σc σm _ _ _ _ rc σc' rm σm' e; cases e
  | succ n ih =>
    intro n' i t σc σm hi hti hS h15
    cases n' with
    | zero => intro rc σc' rm σm' _ e; cases e
    | succ n' =>
      obtain ⟨hC, hV, hK, hR⟩ := id hS
      obtain ⟨v1, v2, v3, v4, v5, v6, v7, v8, v9, v10, v11, v12⟩ := hV
      obtain ⟨hq, -, ⟨r47, r47'⟩, ⟨r50, r50'⟩, r51, ⟨r52, r52'⟩, -⟩ := id hR
      have hE' := en_k hO.1 hE hC.1 hq
      obtain ⟨e1, e2, e3, e4, e5, e6, e7, e8, e9, e10, e11, e12, e13⟩ := id hE'
      show R2 (bd (x6_begin_68_b N (x6_begin_68 N n) σc x (nI i)) (fun _ σ => x6_go_8 N N σ 0)) (m_runs_42_b N (m_runs_42 N n') σm x c (nI i)) _
      unfold x6_begin_68_b m_runs_42_b
      rw [bd_bd]
      refine r2_bdL (en_out hO.1 hE') (fun r4 σ5 w => ?_)
      obtain ⟨w1, w2⟩ := w
      rw [w1, w2, e9, nI_clamp (n := l) (by omega), e10]
      refine r2_gdR (fun _ => ?_)
      by_cases z : nI m ≤ nI i
      · rw [if_pos z, if_pos z]
        unfold x6_begin_132 m_runs_98
        rw [e9, nI_clamp (n := l) (by omega), e12]
        refine r2_bdL (P := fun _ σ' => σ' = sI σc 1512 (nI p)) (par_gd (fun _ => ?_)) (fun _ σ2 y => ?_)
        · rw [hC.2.1, e2]
          refine par_bd (c_at (by rw [(lenG hO.1).1]; exact e3)) (fun r7 σ8 y => par_some ?_)
          rw [y.1, y.2, e11]
        · subst y
          refine r2_gdR (fun _ => ?_)
          refine r_go8 hN hO N 0 248306 _ _ N _ (by decide) (Or.inr ⟨t, 0, 0, 0, p, ⟨rc_I hC (by decide) (by decide), ⟨v1, v2, v3, v4, v5, v6, v7, v8, v9, v10, v11, v12⟩, hK, hR⟩, gI_eq, hps, Or.inl ⟨h15, rfl, ?_⟩⟩)
          have := jC_le (d := rwD G p σc0) (p := p)
          unfold mC
          omega
      · rw [if_neg z, if_neg z]
        have z2 : i < m := Classical.byContradiction (fun y => z (nI_le (by omega) (by omega)))
        have hpr : ∃ q, q ≤ 25 ∧ gA σm0 21 (4 * l + i) = nI q := by
          obtain ⟨T2, u1, u2, u3⟩ := hO.2.2.2.2.2.2
          rcases hO.2.2.2.2.2.1.2.2.1 l e3 with e | ⟨-, -, -, e⟩
          · have e19 : gA σm0 19 l = nI (φ p) := hE.2.2.2.2.2.2.2.2.2.2.2.1
            have hup := (bc_up hO.2.2.2.2.1 s (Nat.le_refl _) p (by omega)).1
            have h4 := hO.2.2.2.1
            exact absurd (e19.symm.trans e) (nI_nm1 (by omega))
          · have e20 : gA σm0 20 l = nI m := hE.2.2.2.2.2.2.2.2.2.1
            obtain ⟨y1, y2⟩ := e i (by rw [e20, nI_t (by omega)]; omega)
            exact nI_upto y1 (n := 25) y2 (by decide)
        obtain ⟨q, q1, q2⟩ := hpr
        have q3 : gA σm 21 (4 * l + i) = nI q := by rw [hq.1 21 (by decide)]; exact q2
        have q4 : gA σc (G + 5) (4 * l + i) = nI q := (e13 i z2).trans q3
        unfold m_runs_91
        rw [show (4 : Int32) * nI l + nI i = nI (4 * l + i) from by rw [show (4 : Int32) = nI 4 from rfl, nI_mul, nI_add], nI_clamp (n := 4 * l + i) (by omega), q3, nI_clamp (n := q) (by omega), nI_1]
        refine r2_gdR (fun _ => ?_)
        have h4 : isPr (gP σc 1504) = true := by rw [hC.2.1]; exact hO.1
        unfold x6_begin_92 x6_begin_123
        rcases and1 (x := x >>> (nI i &&& 31)) with hb | hb
        · rw [hb, if_pos rfl, if_neg (show ¬ (0 : Int32) = 1 by decide), h4, gd_t, bd_bd, e2]
          refine r2_bdL (cgP hO.1 hC.2.1 e3 (by omega)) (fun r10 σ11 y => ?_)
          rw [y.1, y.2, q4, if_pos rfl, bd_bd]
          refine r2_bdL (c_setName (dp := 0) v10 (by omega) (show q < 26 by omega)) (fun _ σ13 u => ?_)
          rw [u, show 26 * 0 + q = q by omega, nI_1 i]
          refine r2_gdR (fun _ => ih n' (i + 1) t (sA σc 16 q 0) (sA σm 48 q 0) (by omega) (by omega) ⟨rc_A hC (by decide), ⟨v1, v2, v3, v4, v5, v6, v7, v8, v9, v10, fun j hj => upd_eq2 (v11 j hj) rfl, v12⟩, hK, ri_name hR th_0⟩ h15)
        · rw [hb, if_neg (show ¬ (1 : Int32) = 0 by decide), if_pos rfl, h4, gd_t, bd_bd, e2]
          refine r2_bdL (cgP hO.1 hC.2.1 e3 (by omega)) (fun r10 σ11 y => ?_)
          rw [y.1, y.2, q4, if_neg (show ¬ (1 : Int32) = 0 by decide), bd_bd]
          unfold x6_makeLoop
          rw [v2, nI_1]
          refine r2_bdL (P := fun r σ' => r = nI (t + 1) ∧ σ' = mkC σc t (nI (t + 1)) (nI (t + 1))) (par_bd (c_make v2 r47') (fun r1 σ2 w => par_some ?_)) (fun r14 σ15 w => ?_)
          · rcases w with ⟨w, -⟩ | ⟨-, w⟩
            · omega
            · exact w
          · obtain ⟨w3, w4⟩ := w
            subst w4
            rw [w3, bd_bd]
            refine r2_bdL (c_setName (dp := 0) v10 (by omega) (show q < 26 by omega)) (fun _ σ13 u => ?_)
            rw [u, show 26 * 0 + q = q by omega, nI_1 i]
            refine r2_bdR ((n_makes r47 r47').and (s_makes hR (Or.inl rfl) (Or.inl rfl)).par) (fun r5 σ6 k => ?_)
            obtain ⟨k1, t', k2, k3⟩ := k
            rcases k1 with ⟨k1, -⟩ | ⟨-, k4, k5⟩
            · omega
            · subst k5
              have hR' : RI σm0 (φ s) (t + 1) 1 0 (mkM σm t (orT t (-1)) (orT t (-1))) := ri_id k2 rfl (by omega) r50 (by omega) r52 (by omega)
              rw [k4]
              refine r2_gdR (fun _ => ih n' (i + 1) (t + 1) (sA (mkC σc t (nI (t + 1)) (nI (t + 1))) 16 q (nI (t + 1))) (sA (mkM σm t (orT t (-1)) (orT t (-1))) 48 q (nI (t + 1))) (by omega) (by omega) ⟨rc_A (rc_A (rc_A (rc_I hC (by decide) (by decide)) (by decide)) (by decide)) (by decide), ⟨v1, rfl, v3, v4, v5, v6, v7, v8, v9, v10, fun j hj => upd_eq2 (v11 j hj) rfl, mk_f v12 rfl rfl⟩, hK, ri_name hR' (th_n (Nat.le_refl _) (by omega))⟩ h15)
theorem r_gos {N : Nat} {σc0 σm0 : St} {G s T l m p : Nat} {φ : Nat → Nat} {c x : Int32} (hN : 8589934592 ≤ N) (hO : RO σc0 σm0 G s φ) (hE : EN G T l m p φ σc0 σm0) (hps : p < s) : R2 (x6_go N σc0 x c) (m_runs N σm0 x c) (fun rc σc' _ σm' => RZ σc' σm' ∧ rc = gI σc' 1511) := by
  unfold x6_go x6_begin m_runs
  rw [hE.1, hO.1, gd_t, bd_bd]
  have hC1 : RC σc0 G c (sI (sI (sI (sI (sI (sI (sI (sI (sP (sP σc0 1504 G) 1505 (G + 1)) 1506 c) 1507 0) 1508 0) 1509 0) 1510 (-1)) 1511 (-1)) 1513 0) 1515 0) := ⟨kc_I (kc_I (kc_I (kc_I (kc_I (kc_I (kc_I (kc_I (kc_P (kc_P (kc_r σc0) (by decide)) (by decide)) (by decide)) (by decide)) (by decide)) (by decide)) (by decide)) (by decide)) (by decide)) (by decide), rfl, rfl, rfl⟩
  refine r2_bdL (c_clear (dp := 0) (show gI (sI (sI (sI (sI (sI (sI (sI (sI (sP (sP σc0 1504 G) 1505 (G + 1)) 1506 c) 1507 0) 1508 0) 1509 0) 1510 (-1)) 1511 (-1)) 1513 0) 1515 0) 1513 = nI 0 from rfl) (by omega)) (fun _ σ3 w => ?_)
  subst w
  have hR0 : RI σm0 (φ s) 0 0 0 (sI (sI (sI (sI (sI (sI (sI σm0 47 0) 50 0) 52 0) 53 0) 54 (-1)) 55 (-1)) 51 0) := by
    refine ⟨⟨fun _ _ => rfl, fun k h1 h2 => ?_⟩, rfl, ⟨rfl, by decide⟩, ⟨rfl, by decide⟩, th_0, ⟨rfl, by decide⟩, fun i hi => by omega, fun i h1 h2 => by omega, fun i h1 h2 => by omega⟩
    rw [gI_ne (by omega), gI_ne (by omega), gI_ne (by omega), gI_ne (by omega), gI_ne (by omega), gI_ne (by omega), gI_ne (by omega)]
  refine r2_bdR ((n_frame (f := 0) (show gI (sI (sI (sI (sI (sI (sI (sI σm0 47 0) 50 0) 52 0) 53 0) 54 (-1)) 55 (-1)) 51 0) 50 = nI 0 from rfl) (by omega)).and (s_frame hN hR0 (by omega) (Or.inl rfl)).par) (fun _ σ2 y => ?_)
  obtain ⟨y1, y2, -⟩ := y
  subst y1
  refine r_beg hN hO hE hps N N 0 0 _ _ (Nat.zero_le _) (Nat.le_refl _) ⟨rc_F hC1 (by decide), ⟨rfl, rfl, rfl, rfl, Nat.le_refl _, rfl, rfl, rfl, rfl, rfl, fun i hi => ?_, fun i h1 h2 => by omega⟩, fun i hi => by omega, y2⟩ rfl
  show clr (gA σc0 16) (26 * 0) 26 i = clr (gA σm0 48) (26 * 0) 26 i
  unfold clr
  rw [if_pos (by omega), if_pos (by omega)]
/-- what the last run has left: both the same -/
def LR (σc σm : St) : Prop := (gI σm 56 = 0 ∧ ∀ i, i < 4 → gA σc 26 i = -1) ∨ (¬ gI σm 56 = 0 ∧ gA σc 26 0 = gI σm 57 ∧ gA σc 26 1 = gI σm 58 ∧ gA σc 26 2 = gI σm 59 ∧ gA σc 26 3 = gI σm 60)
theorem lr_fx {σc σm σc' σm' : St} (h : LR σc σm) (f : Fx σc σm σc' σm') : LR σc' σm' := by
  unfold LR
  rw [f.1, f.2 56 (by decide) (by decide), f.2 57 (by decide) (by decide), f.2 58 (by decide) (by decide), f.2 59 (by decide) (by decide), f.2 60 (by decide) (by decide)]
  exact h
theorem r_run {N : Nat} {σc σm : St} {a1 a2 : Int32} (hN : 8589934592 ≤ N) (hX : LX σc σm) (hM : MI σm) : R2 (x10_run N σc a1 a2) (m_run N σm a1 a2) (fun rc σc' rm σm' => rc = rm ∧ (LR σc σm → LR σc' σm')) := by
  obtain ⟨hL, hY⟩ := hX
  obtain ⟨l1, l2, l3, l4, l5, l6, l7, -, l9⟩ := hL
  obtain ⟨a, u0, w0, m1, m2, -, -, -, -, mB, mE, -⟩ := hM
  obtain ⟨⟨s, φ, u, w, T, hBX⟩, hO8⟩ := ly_z hY
  obtain ⟨x1, x2, x3, x4, x5, x6, x7, -⟩ := hBX
  have ea : a = φ s := (nI_eq (by omega) (by omega)).mp (m1.symm.trans x3)
  subst ea
  have hO : RO σc (sI σm 0 0) (gP σc 700) s φ := ⟨l6, x1, x2, x4, x5, mB, T, x7⟩
  have no : ∀ {σ' : St}, Fx σc σm σ' σ' → True := fun _ => trivial
  have hz : LR σc σm → LR σc (sI σm 0 0) := fun h => lr_fx h fx_z
  unfold x10_run m_run
  have can0 : (gI σm 39 = -1 ∨ a2 < 0 ∨ 255 < a2) → Par (m_canRun N (sI σm 0 0) a1 a2) (fun r σ' => r = 0 ∧ σ' = sI σm 0 0) := fun h => by
    unfold m_canRun
    by_cases c1 : gI (sI σm 0 0) 39 = -1
    · rw [if_pos c1]; exact par_some ⟨rfl, rfl⟩
    rw [if_neg c1]
    by_cases c2 : a2 < 0
    · rw [if_pos c2]; exact par_some ⟨rfl, rfl⟩
    rw [if_neg c2]
    by_cases c3 : 255 < a2
    · rw [if_pos c3]; exact par_some ⟨rfl, rfl⟩
    · rcases h with h | h | h
      · exact absurd h c1
      · exact absurd h c2
      · exact absurd h c3
  by_cases c1 : a2 < 0
  · rw [if_pos c1]
    refine r2_bdR (can0 (Or.inr (Or.inl c1))) (fun r1 σ2 z => ?_)
    rw [z.1, z.2, if_pos rfl]
    exact r2_some ⟨rfl, hz⟩
  rw [if_neg c1]
  by_cases c2 : 256 ≤ a2
  · rw [if_pos c2]
    refine r2_bdR (can0 (Or.inr (Or.inr (by rw [Int32.le_iff_toInt_le, show (256 : Int32).toInt = 256 from rfl] at c2; rw [Int32.lt_iff_toInt_lt, show (255 : Int32).toInt = 255 from rfl]; omega)))) (fun r1 σ2 z => ?_)
    rw [z.1, z.2, if_pos rfl]
    exact r2_some ⟨rfl, hz⟩
  rw [if_neg c2]
  have c3 : ¬ 255 < a2 := fun e => c2 (by rw [Int32.lt_iff_toInt_lt, show (255 : Int32).toInt = 255 from rfl] at e; rw [Int32.le_iff_toInt_le, show (256 : Int32).toInt = 256 from rfl]; omega)
  by_cases c9 : gI σm 39 = -1
  · have c7 : gI σc 701 = -1 := l9.trans c9
    have eh : x7_allows N σc a1 = some (0, σc) := by
      unfold x7_allows
      have eh : x3_has N σc (gP σc 700) (gI σc 701) = some (0, σc) := by
        unfold x3_has
        rw [c7, if_pos (by decide)]
      rw [l6, gd_t, eh, bd_s, if_pos rfl]
    rw [eh, bd_s, if_pos rfl]
    refine r2_bdR (can0 (Or.inl c9)) (fun r1 σ2 z => ?_)
    rw [z.1, z.2, if_pos rfl]
    exact r2_some ⟨rfl, hz⟩
  obtain ⟨l, hl, hl1, hl2⟩ := mE.resolve_left c9
  obtain ⟨t1, t2, t3⟩ := id x7
  have ct := (t3 l (by omega)).1.mpr hl2
  obtain ⟨m, p, q1, q2, q3, q4, q5, q6, q7⟩ := (t3 l (by omega)).2 ct
  have hE : EN (gP σc 700) T l m p φ σc (sI σm 0 0) := ⟨rfl, l9.trans hl1, by omega, t1, t2, ct, q3, q1, hl1, q4, q5, q6, q7⟩
  refine r2_bd (r_allow l6 hE hO8 c1 c3) (fun r1 σ2 rm σ3 z => ?_)
  obtain ⟨rfl, rfl, rfl⟩ := z
  by_cases c0 : r1 = 0
  · rw [if_pos c0, if_pos c0]
    exact r2_some ⟨rfl, hz⟩
  rw [if_neg c0, if_neg c0]
  refine r2_bd (r_gos hN hO hE q2) (fun r3 σ4 _ σ5 z => ?_)
  obtain ⟨⟨z1, z2, z3, z4, z5, z6⟩, z7⟩ := z
  refine r2_bdL (c_put (j := 26) (i := 0) (show 0 < 4 by decide)) (fun _ σ6 y1 => ?_)
  subst y1
  refine r2_bdL (c_put (j := 26) (i := 1) (show 1 < 4 by decide)) (fun _ σ8 y2 => ?_)
  subst y2
  refine r2_bdL (c_put (j := 26) (i := 2) (show 2 < 4 by decide)) (fun _ σ10 y3 => ?_)
  subst y3
  refine r2_bdL (c_put (j := 26) (i := 3) (show 3 < 4 by decide)) (fun _ σ12 y4 => ?_)
  subst y4
  exact r2_some ⟨z7.trans z2, fun _ => Or.inr ⟨(show ¬ (1 : Int32) = 0 by decide), z3, z6, z4, z5⟩⟩
theorem r_ran {N : Nat} {σc σm : St} {a1 : Int32} (h : LR σc σm) : R2 (x10_ran N σc a1) (m_ran N σm a1) (fun rc σc' rm σm' => rc = rm) := by
  unfold x10_ran m_ran x10_ran_13
  by_cases c1 : a1 < 0
  · rw [if_pos c1]
    have n0 : ¬ a1 = 0 := fun e => by rw [e] at c1; exact absurd c1 (by decide)
    have n1 : ¬ a1 = 1 := fun e => by rw [e] at c1; exact absurd c1 (by decide)
    have n2 : ¬ a1 = 2 := fun e => by rw [e] at c1; exact absurd c1 (by decide)
    have n3 : ¬ a1 = 3 := fun e => by rw [e] at c1; exact absurd c1 (by decide)
    rw [if_neg n0, if_neg n1, if_neg n2, if_neg n3]
    by_cases c : gI σm 56 = 0
    · rw [if_pos c]; exact r2_some rfl
    · rw [if_neg c]; exact r2_some rfl
  rw [if_neg c1]
  by_cases c2 : a1 < 4
  · rw [if_pos c2]
    obtain ⟨k, k1, rfl⟩ := nI_of c1
    have k4 : k < 4 := (nI_ltI (b := 4) k1 (by decide)).mp c2
    rw [nI_clamp k1]
    refine r2_gdL (fun _ => ?_)
    rcases h with ⟨h1, h2⟩ | ⟨h1, h2, h3, h4, h5⟩
    · rw [if_pos h1, h2 k k4]
      exact r2_some rfl
    · rw [if_neg h1]
      rcases (show k = 0 ∨ k = 1 ∨ k = 2 ∨ k = 3 by omega) with e | e | e | e <;> subst e
      · rw [if_pos (show nI 0 = 0 from rfl), h2]
        exact r2_some rfl
      · rw [if_neg (show ¬ nI 1 = 0 by decide), if_pos (show nI 1 = 1 from rfl), h3]
        exact r2_some rfl
      · rw [if_neg (show ¬ nI 2 = 0 by decide), if_neg (show ¬ nI 2 = 1 by decide), if_pos (show nI 2 = 2 from rfl), h4]
        exact r2_some rfl
      · rw [if_neg (show ¬ nI 3 = 0 by decide), if_neg (show ¬ nI 3 = 1 by decide), if_neg (show ¬ nI 3 = 2 by decide), if_pos (show nI 3 = 3 from rfl), h5]
        exact r2_some rfl
  · rw [if_neg c2]
    have n0 : ¬ a1 = 0 := fun e => c2 (by rw [e]; decide)
    have n1 : ¬ a1 = 1 := fun e => c2 (by rw [e]; decide)
    have n2 : ¬ a1 = 2 := fun e => c2 (by rw [e]; decide)
    have n3 : ¬ a1 = 3 := fun e => c2 (by rw [e]; decide)
    rw [if_neg n0, if_neg n1, if_neg n2, if_neg n3]
    by_cases c : gI σm 56 = 0
    · rw [if_pos c]; exact r2_some rfl
    · rw [if_neg c]; exact r2_some rfl
