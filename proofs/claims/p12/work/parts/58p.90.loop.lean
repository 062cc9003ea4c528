/-! the whole text: both parsers -/
/-- behind the reading: the same fault, or no fault and the relation -/
def PQ (t : Nat → Int32) (n g : Nat) (σc σm : St) : Prop := FP σc σm ∨ ∃ (i s : Nat) (φ ψ : Nat → Nat) (u w T : Nat), Rel t n g i s φ ψ 0 u w T σc σm
theorem ff_138 {N f : Nat} {σ : St} {x : Int32} (h : ¬ gI σ 8 = 0) : Par (m_parses_138 N f σ x) (fun _ σ' => σ' = σ) := by
  cases f with
  | zero => intro _ _ e; cases e
  | succ f =>
    show Par (m_parses_138_b N (m_parses_138 N f) σ x) _
    unfold m_parses_138_b
    rw [if_neg h]
    exact par_if (fun _ => par_some rfl) (fun _ => par_some rfl)
theorem fp_c {σc σm : St} (h : FP σc σm) : ¬ gI σc 408 = 0 := by
  obtain ⟨k, p, a, b, c, d, e⟩ := h
  rw [b]
  exact a
theorem fc_check {N f : Nat} {σ : St} {x : Int32} (h : ¬ gI σ 408 = 0) : Par (x4_checkCalls_2 N f σ x) (fun _ σ' => σ' = σ) := by
  cases f with
  | zero => intro _ _ e; cases e
  | succ f =>
    show Par (x4_checkCalls_2_b N (x4_checkCalls_2 N f) σ x) _
    unfold x4_checkCalls_2_b
    rw [if_neg h]
    exact par_gd (fun _ => par_if (fun _ => par_some rfl) (fun _ => par_some rfl))
/-- every call has its routine, with as many parameters -/
theorem r_check {t : Nat → Int32} {n g i s u w T N : Nat} {φ ψ : Nat → Nat} {σc σm : St} (hR : Rel t n g i s φ ψ 0 u w T σc σm) : ∀ (f f' p : Nat), p ≤ s → R2 (x4_checkCalls_2 N f σc (nI p)) (m_parses_138 N f' σm (nI (ψ p))) (fun _ σc' _ σm' => PQ t n g σc' σm') := by
  obtain ⟨r1, r2, r3, r4, r5, r6, r7, r8, r9⟩ := id hR
  have hg := r1.2.1.1
  have hgb := pg_b hg
  have hs := r1.2.2.2
  have hψ := r2.2.2.2.2
  have h8 := r2.1.2.2.2.2.2
  have h408 := r1.1.2.2.2
  intro f
  induction f with
  | zero => intro f' p _ _ _ _ _ e1; cases e1
  | succ f ih =>
    intro f' p hp
    have hup := cod_up r8 s (Nat.le_refl _) p hp
    show R2 (x4_checkCalls_2_b N (x4_checkCalls_2 N f) σc (nI p)) _ _
    unfold x4_checkCalls_2_b
    rw [r1.2.1.2.2, pg_cd hg, gd_t, r1.2.2.1]
    by_cases cs : p = s
    · subst cs
      rw [if_pos (nI_le (Nat.le_refl _) (by omega))]
      cases f' with
      | zero => intro _ _ _ _ _ e2; cases e2
      | succ f' =>
        show R2 _ (m_parses_138_b N (m_parses_138 N f') σm (nI (ψ p))) _
        unfold m_parses_138_b
        rw [r2.2.2.2.1, if_pos (nI_le (Nat.le_refl _) (by omega))]
        exact r2_some (Or.inr ⟨i, p, φ, ψ, u, w, T, hR⟩)
    · have hp2 : p < s := by omega
      rw [if_neg (nI_ge hp2 (by omega)), if_pos h408]
      obtain ⟨len, l1, l2, l3, l4, l5⟩ := r8.2.2 p hp2
      have hup1 := cod_up r8 s (Nat.le_refl _) (p + 1) hp2
      show R2 (bd (x0_get N σc (g + 1) (nI p) (nI 4)) _) _ _
      rw [c_get hg r1.2.2.1 hs hp2 (by decide), bd_s]
      show R2 (if rwD g p σc 4 = 5 then _ else _) _ _
      rcases l5 with ⟨c1', c2'⟩ | ⟨c1', c2', c3, c4, k, b, c5, c6, c7, c8, l, c9, c10⟩
      · rw [if_neg c1']
        unfold x4_checkCalls_93
        rw [nI_1, ← c2']
        exact ih f' (p + 1) (by omega)
      · rw [if_pos c1', r1.2.1.2.2, pg_cd hg, gd_t]
        show R2 (bd (x0_get N σc (g + 1) (nI p) (nI 6)) _) _ _
        rw [c_get hg r1.2.2.1 hs hp2 (by decide), bd_s, show gA σc (g + 2) (12 * p + 6) = nI l from c10, r1.2.1.2.1, hg, gd_t]
        obtain ⟨t1, t2, t3, t4, t5, t6, t7⟩ := id r7
        rw [c_has hg t2 t1 c9, bd_s]
        have t8 := (t7 l c9).1
        cases f' with
        | zero => intro _ _ _ _ _ e2; cases e2
        | succ f' =>
          show R2 _ (m_parses_138_b N (m_parses_138 N f') σm (nI (ψ p))) _
          unfold m_parses_138_b
          rw [r2.2.2.2.1, if_neg (nI_ge (by omega) (by omega)), if_pos h8, nI_clamp (by omega), c4.trans c10, show (8 : Int32) + nI l = nI (8 + l) from nI_add 8 l, nI_clamp (by omega)]
          -- the call is wrong
          have bad : R2 (x4_checkCalls_77 N (x4_checkCalls_2 N f) σc (nI p)) (m_parses_188 N (m_parses_138 N f') σm (nI (ψ p))) (fun _ σc' _ σm' => PQ t n g σc' σm') := by
            unfold x4_checkCalls_77 m_parses_188 x4_checkCalls_93 m_parses_199 x4_refuse m_wrong
            rw [r1.2.1.2.2, pg_cd hg, gd_t]
            show R2 (bd (x0_get N σc (g + 1) (nI p) (nI 9)) _) _ _
            rw [c_get hg r1.2.2.1 hs hp2 (by decide), bd_s, bd_s, nI_clamp (by omega), c3, if_pos h8, bd_s]
            refine r2_gdR (fun _ => ?_)
            have hfp : FP (sI (sI σc 408 4) 409 (gA σc (g + 2) (12 * p + 9))) (sI (sI σm 8 4) 9 (rwD g p σc 9)) := fp_of (k := 4) (by decide) rfl rfl
            exact r2_par (fc_check (fp_c hfp)) (ff_138 (fp_ne hfp)) (fun _ σ1 _ σ2 e1 e2 => by rw [e1, e2]; exact Or.inl hfp)
          refine r2_gdR (fun _ => r2_gdR (fun _ => ?_))
          by_cases ct : T / 2 ^ l % 2 = 1
          · rw [if_pos ct, if_neg (show ¬ (1 : Int32) = 0 by decide), if_neg (t8.mp ct), r1.2.1.2.1, hg, gd_t]
            obtain ⟨m, p', m1, m2, m3, m4, m5, m6, m7, m8⟩ := (t7 l c9).2 ct
            have ln := len_p hg
            refine r2_bdL (c_at (j := g + 4) (i := l) (by omega)) (fun ra σ3 q => ?_)
            obtain ⟨rfl, rfl⟩ := q
            unfold x0_arguments
            rw [m4, m5, r1.2.1.2.2, pg_cd hg, gd_t, gd_t]
            show R2 (bd (bd (x0_get N σ3 (g + 1) (nI p) (nI 8)) _) _) _ _
            rw [c_get hg r1.2.2.1 hs hp2 (by decide), bd_s, bd_s, show gA σ3 (g + 2) (12 * p + 8) = nI (k * 2 ^ 20 + b) from c7]
            have e1 : nI (k * 2 ^ 20 + b) >>> ((20 : Int32) &&& 31) = nI k := by
              have := shr_n (a := k * 2 ^ 20 + b) (k := 20) (by decide) (by omega)
              rw [show (k * 2 ^ 20 + b) / 2 ^ 20 = k by omega] at this
              exact this
            rw [e1, c8]
            refine r2_gdR (fun _ => r2_gdR (fun _ => ?_))
            by_cases cm : nI m = nI k
            · rw [if_pos cm, if_pos cm]
              unfold x4_checkCalls_93 m_parses_199
              rw [nI_1, nI_1, ← c2']
              exact ih f' (p + 1) (by omega)
            · rw [if_neg cm, if_neg cm]
              exact bad
          · have rf : gA σm 19 (8 + l) = -1 := Classical.not_not.mp (fun z => ct (t8.mpr z))
            rw [if_neg ct, if_pos rfl, if_pos rf]
            exact bad
/-- the end: behind a fault nothing is read -/
theorem r_endF {t : Nat → Int32} {n g N f f' : Nat} {σc σm : St} {x : Int32} (h : FP σc σm) : R2 (x4_readInto_39 N f σc x) (m_parses_77 N f' σm) (fun _ σc' _ σm' => PQ t n g σc' σm') := by
  have hc := fp_c h
  have hm := fp_ne h
  have e110 : x4_readInto_110 N σc = some ((), σc) := by unfold x4_readInto_110; rw [if_neg hc]
  cases f with
  | zero => intro _ _ _ _ e1; cases e1
  | succ f =>
    cases f' with
    | zero => intro _ _ _ _ _ e2; cases e2
    | succ f' =>
      show R2 (x4_readInto_39_b N (x4_readInto_39 N f) σc x) (m_parses_77_b N (m_parses_77 N f') σm) _
      unfold x4_readInto_39_b m_parses_77_b
      rw [if_neg hc, if_neg hm, e110]
      have fin : R2 (some ((), σc)) (m_parses_138 N N σm 0) (fun _ σc' _ σm' => PQ t n g σc' σm') := fun rc σc' rm σm' e1 e2 => by
        cases e1
        have := ff_138 hm _ _ e2
        rw [this]
        exact Or.inl h
      exact r2_ifL (fun _ => fin) (fun _ => fin)
theorem r_loop {t : Nat → Int32} {n g N : Nat} (hN : 8589934592 ≤ N) (hT : Tp t n) : ∀ (f f' x i s : Nat) (φ ψ : Nat → Nat) (b u w T : Nat) (σc σm : St), Rel t n g i s φ ψ b u w T σc σm → x ≤ kQ t n i → R2 (x4_readInto_39 N f σc (nI x)) (m_parses_77 N f' σm) (fun _ σc' _ σm' => PQ t n g σc' σm') := by
  intro f
  induction f with
  | zero => intro f' x i s φ ψ b u w T σc σm _ _ _ _ _ _ e1; cases e1
  | succ f ih =>
    intro f' x i s φ ψ b u w T σc σm hR hx
    cases f' with
    | zero => intro _ _ _ _ _ e2; cases e2
    | succ f' =>
      obtain ⟨r1, r2, r3, r4, r5, r6, r7, r8, r9⟩ := id hR
      have hi := r1.1.2.2.1
      have hn := hT.2
      have hq := kQ_le (t := t) (n := n) (i := i)
      have h8 := r2.1.2.2.2.2.2
      have h408 := r1.1.2.2.2
      obtain ⟨-, -, v3, -, -⟩ := sv_srt r2.1.2.2.2.2.1
      show R2 (x4_readInto_39_b N (x4_readInto_39 N f) σc (nI x)) (m_parses_77_b N (m_parses_77 N f') σm) _
      unfold x4_readInto_39_b m_parses_77_b
      rw [if_neg (show ¬ (1200 : Int32) < nI x from nI_nlt (a := 1200) (by omega) (by decide)), if_pos h408, if_pos h8]
      -- a turn
      have turn : (b = 0 → ¬ kK t n i = 0) → R2 (x4_readInto_68 N (x4_readInto_39 N f) σc (nI x)) (m_parses_99 N (m_parses_77 N f') σm) (fun _ σc' _ σm' => PQ t n g σc' σm') := by
        intro hb
        unfold x4_readInto_68 m_parses_99 x4_readInto_104
        rw [r6.1, r6.2.1, nI_1]
        by_cases cb : b = 0
        · subst cb
          rw [if_pos (show nI 0 = (0 : Int32) from rfl), if_pos (show nI 0 = (0 : Int32) from rfl)]
          refine r2_bd (r_head hN hT hR) (fun r σ1 _ σ2 z => ?_)
          rcases z with ⟨-, i', s', φ', ψ', b', u', w', T', z1, z2⟩ | ⟨-, z⟩
          · exact ih f' (x + 1) i' s' φ' ψ' b' u' w' T' _ _ z2 (by omega)
          · exact r_endF z
        · obtain ⟨k, rfl⟩ : ∃ k, b = k + 1 := ⟨b - 1, by omega⟩
          have hbn : ¬ nI (k + 1) = (0 : Int32) := nI_ne0 (by omega) (by have := r6.2.2.1; omega)
          rw [if_neg hbn, if_neg hbn, sc_seen hT r1.1, bd_s, sm_sign r2.1 (k := 7) (c := 125) (Or.inr (Or.inr (Or.inr (Or.inl ⟨rfl, rfl⟩)))), bd_s]
          by_cases k7 : kK t n i = 7
          · rw [if_pos k7, if_neg (show ¬ (1 : Int32) = 0 by decide), if_neg (show ¬ (1 : Int32) = 0 by decide)]
            refine r2_bd (r_close hN hT hR k7) (fun _ σ1 _ σ2 z => ?_)
            rcases z with ⟨i', s', φ', ψ', b', u', w', z1, z2⟩ | z
            · exact ih f' (x + 1) i' s' φ' ψ' b' u' w' T _ _ z2 (by omega)
            · exact r_endF z
          · rw [if_neg k7, if_pos rfl, if_pos rfl]
            refine r2_bd (r_stat hN hT hR (by omega)) (fun r σ1 _ σ2 z => ?_)
            rcases z with ⟨-, i', s', φ', ψ', b', u', w', z1, z2⟩ | ⟨-, z⟩
            · exact ih f' (x + 1) i' s' φ' ψ' b' u' w' T _ _ z2 (by omega)
            · exact r_endF z
      rw [r6.1, r6.2.1]
      by_cases cb : b = 0
      · subst cb
        rw [if_neg (show ¬ (0 : Int32) < nI 0 by decide), sc_seen hT r1.1, bd_s]
        by_cases k0 : kK t n i = 0
        · rw [if_pos k0, if_neg (show ¬ (1 : Int32) = 0 by decide), if_pos (v3.mpr k0), if_pos (show nI 0 ≤ (0 : Int32) by decide)]
          unfold x4_readInto_110 x4_checkCalls
          rw [if_pos h408]
          have e0 : ψ 0 = 0 := r8.2.1
          have := r_check (N := N) hR N N 0 (Nat.zero_le _)
          rw [e0] at this
          exact fun rc σc' rm σm' e1 e2 => by
            obtain ⟨q1, q2, q3, q4⟩ := bd_some e1
            cases q4
            exact this _ _ _ _ q3 e2
        · rw [if_neg k0, if_pos rfl, if_neg (fun z => k0 (v3.mp z))]
          exact turn (fun _ => k0)
      · have hb6 := r6.2.2.1
        rw [if_pos (show (0 : Int32) < nI b from nI_lt (a := 0) (by omega) (by omega))]
        refine r2_ifR (fun _ => ?_) (fun _ => turn (fun h => absurd h cb))
        rw [if_neg (nI_nle (by omega) (by omega))]
        exact turn (fun h => absurd h cb)
