/-! goes, reckons, frees: FACTS come to an end -/
theorem t_with {ρ : Type} {N : Nat} {σ : St} {s : Int64} {n f : Int32} {K : Int64 → St → Option (ρ × St)} {Q : ρ → St → Prop} (h : ∀ v, Tot (K v σ) Q) : Tot (bd (m_with N σ s n f) K) Q := by
  obtain ⟨v, e⟩ := e_with (N := N) (σ := σ) (s := s) (n := n) (f := f)
  rw [e, bd_s]
  exact h v
theorem t_factOf {ρ : Type} {N : Nat} {σ : St} {s : Int64} {n : Int32} {K : Int32 → St → Option (ρ × St)} {Q : ρ → St → Prop} (h : ∀ v, Tot (K v σ) Q) : Tot (bd (m_factOf N σ s n) K) Q := by
  obtain ⟨v, e⟩ := e_factOf (N := N) (σ := σ) (s := s) (n := n)
  rw [e, bd_s]
  exact h v
theorem i_ne {x c : Int32} (h : ¬ x = c) : x.toInt ≠ c.toInt := fun e => h (Int32.toInt_inj.mp e)
theorem s_goes {N : Nat} (hN : 8589934592 ≤ N) {σ : St} {a k : Nat} {s : Int64} (hk : k < a) (hG : GV σ a) : Tot (m_goes N σ (nI k) s) (fun _ σ' => Rk σ σ') := by
  obtain ⟨g1, g2, g3⟩ := id hG
  obtain ⟨p1, p2, p3, p4, p5, p6, p7⟩ := g3.1 k hk
  have hi : ib (nI k) 2600 = true := ibk (by omega) (by decide)
  have hcl : (nI k).toNatClampNeg = k := nI_clamp (by omega)
  have fl : ∀ (σ1 : St) (z : Int64), Rk σ σ1 → Tot (bd (m_flows N σ1 (nI k + 1) z) (fun _ σ3 => some ((), σ3))) (fun _ σ' => Rk σ σ') := by
    intro σ1 z hr
    rw [← nI_succ k]
    exact tot_bd (s_flows (by rw [nI_t (by omega)]; omega) (by rw [nI_t (by omega)]; omega)) (fun _ σ2 h => tot_some (rk_tr hr h))
  have rr := rk_rf σ
  have h40 : (gA σ 12 k = 5 ∨ gA σ 12 k = 8) → 0 ≤ (40 + gA σ 14 k).toInt ∧ (40 + gA σ 14 k).toInt < 42 := by
    intro e
    rcases p4 e with e | e <;> (rw [e]; decide)
  have ts : tst (gA σ 12 k) → Tot (bd (m_tests N σ (nI k) s) (fun _ σ3 => some ((), σ3))) (fun _ σ' => Rk σ σ') := fun ht => tot_bd (s_tests hk hG ht) (fun _ σ2 h => tot_some h)
  unfold m_goes
  rw [hi, hcl]
  refine tot_gd rfl (tot_if (fun _ => fl σ _ rr) (fun e0 => tot_if (fun _ => t_with (fun v => fl σ _ rr)) (fun e1 => tot_if (fun _ => ?c2) (fun e2 => tot_if (fun _ => ?c3) (fun e3 => tot_if (fun _ => ?c4) (fun e4 => tot_if (fun e => ?c5) (fun e5 => tot_if (fun e => ?c6) (fun e6 => tot_if (fun _ => ?c7) (fun e7 => tot_if (fun e => ?c8) (fun e8 => tot_if (fun _ => ?c9) (fun e9 => tot_if (fun e => ts (Or.inl e)) (fun e10 => tot_if (fun e => ts (Or.inr (Or.inl e))) (fun e11 => tot_if (fun e => ts (Or.inr (Or.inr e))) (fun e12 => tot_if (fun e => ?c13) (fun e13 => ?c14)))))))))))))))
  case c2 => exact tot_bd s_putsThings (fun _ σ2 h => t_with (fun v => fl σ2 _ h))
  case c3 => exact tot_gd rfl (t_factOf (fun v => tot_bd (s_puts (by decide) (by decide)) (fun _ σ2 h => tot_gd rfl (t_factOf (fun v2 => tot_bd (s_puts (by decide) (by decide)) (fun _ σ3 h2 => t_with (fun v3 => fl σ3 _ (rk_tr h h2))))))))
  case c4 => exact tot_gd rfl (t_factOf (fun v => t_with (fun v2 => fl σ _ rr)))
  case c5 =>
    have h4 := h40 (Or.inl e)
    have hi4 : ib (40 + gA σ 14 k) 42 = true := ib_m h4.1 h4.2 (by decide)
    refine tot_gd rfl (t_factOf (fun v => tot_if (fun _ => tot_some rr) (fun _ => tot_gd rfl (tot_gd hi4 (tot_if (fun _ => tot_some rr) (fun _ => tot_gd rfl (t_with (fun v2 => tot_gd rfl (tot_gd hi4 (t_with (fun v3 => fl σ _ rr)))))))))))
  case c6 => exact tot_bd (s_calls hN hk hG e) (fun _ σ2 h => tot_some h)
  case c7 => exact tot_gd rfl (t_factOf (fun v => t_with (fun v2 => fl σ _ rr)))
  case c8 =>
    have h4 := h40 (Or.inr e)
    refine tot_gd rfl (t_factOf (fun v => tot_if (fun _ => tot_some rr) (fun _ => tot_gd rfl (t_factOf (fun v2 => tot_bd (s_puts h4.1 h4.2) (fun _ σ2 h => tot_gd rfl (t_with (fun v3 => fl σ2 _ h))))))))
  case c9 =>
    obtain ⟨r, er, r1, r2⟩ := s_routineAt hN (σ := σ) (x := nI k)
    rw [er, bd_s]
    refine t_factOf (fun v => tot_bd (s_puts ?_ ?_) (fun _ σ2 h => tot_some h))
    · rw [Int32.toInt_add, show (32 : Int32).toInt = 32 from rfl]
      rw [Int.bmod_eq_of_le (by omega) (by omega)]
      omega
    · rw [Int32.toInt_add, show (32 : Int32).toInt = 32 from rfl]
      rw [Int.bmod_eq_of_le (by omega) (by omega)]
      omega
  case c13 =>
    refine tot_gd rfl ?_
    rcases p7 e with ⟨-, n, n1, n2, -⟩ | ⟨-, q⟩
    · rw [n1]
      exact tot_bd (s_flows (by rw [nI_t (by omega)]; omega) (by rw [nI_t (by omega)]; omega)) (fun _ σ2 h => tot_some h)
    · obtain ⟨n, n1, n2, n3, -⟩ := q.elim (fun e => absurd e id) id
      rw [n1]
      exact tot_bd (s_flows (by rw [nI_t (by omega)]; omega) (by rw [nI_t (by omega)]; omega)) (fun _ σ2 h => tot_some h)
  case c14 =>
    exfalso
    have q0 := i_ne e0
    have q1 := i_ne e1
    have q2 := i_ne e2
    have q3 := i_ne e3
    have q4 := i_ne e4
    have q5 := i_ne e5
    have q6 := i_ne e6
    have q7 := i_ne e7
    have q8 := i_ne e8
    have q9 := i_ne e9
    have q10 := i_ne e10
    have q11 := i_ne e11
    have q12 := i_ne e12
    have q13 := i_ne e13
    simp only [show (0 : Int32).toInt = 0 from rfl, show (1 : Int32).toInt = 1 from rfl, show (2 : Int32).toInt = 2 from rfl, show (3 : Int32).toInt = 3 from rfl, show (4 : Int32).toInt = 4 from rfl, show (5 : Int32).toInt = 5 from rfl, show (6 : Int32).toInt = 6 from rfl, show (7 : Int32).toInt = 7 from rfl, show (8 : Int32).toInt = 8 from rfl, show (9 : Int32).toInt = 9 from rfl, show (10 : Int32).toInt = 10 from rfl, show (11 : Int32).toInt = 11 from rfl, show (12 : Int32).toInt = 12 from rfl, show (13 : Int32).toInt = 13 from rfl] at q0 q1 q2 q3 q4 q5 q6 q7 q8 q9 q10 q11 q12 q13
    clear p2 p3 p4 p5 p6 p7 fl h40 ts g3 hG
    omega
/-- what reckons() leaves -/
def Rn (σ σ' : St) : Prop := (∀ j, j ≠ 42 → j ≠ 43 → j ≠ 44 → gA σ' j = gA σ j) ∧ (∀ k, k ≠ 45 → gI σ' k = gI σ k)
theorem rn_rf (σ : St) : Rn σ σ := ⟨fun _ _ _ _ => rfl, fun _ _ => rfl⟩
theorem rn_tr {σ σ1 σ2 : St} (h : Rn σ σ1) (h2 : Rn σ1 σ2) : Rn σ σ2 := ⟨fun j a b c => (h2.1 j a b c).trans (h.1 j a b c), fun k hk => (h2.2 k hk).trans (h.2 k hk)⟩
theorem rn_rk {σ σ1 : St} (h : Rk σ σ1) : Rn σ σ1 := ⟨fun j a _ c => h.1 j a c, h.2.1⟩
theorem rn_sI {σ : St} {v : Int32} : Rn σ (sI σ 45 v) := ⟨fun _ _ _ _ => rfl, fun _ hk => gI_ne (fun e => hk e.symm)⟩
theorem rn_sA {σ : St} {j i : Nat} {v : Int32} (h : j = 42 ∨ j = 43 ∨ j = 44) : Rn σ (sA σ j i v) := ⟨fun j2 a b c => by rw [gA_sA, if_neg (by omega)], fun _ _ => rfl⟩
theorem rn_sZ {σ : St} {j i : Nat} {v : Int64} : Rn σ (sZ σ j i v) := ⟨fun _ _ _ _ => rfl, fun _ _ => rfl⟩
theorem gv_rn {σ σ' : St} {a : Nat} (h : GV σ a) (hr : Rn σ σ') : GV σ' a := by
  obtain ⟨h1, h2, h3⟩ := h
  refine ⟨(hr.2 18 (by decide)).trans h1, h2, ?_⟩
  unfold BV at h3 ⊢
  rw [hr.1 12 (by decide) (by decide) (by decide), hr.1 13 (by decide) (by decide) (by decide), hr.1 14 (by decide) (by decide) (by decide), hr.1 15 (by decide) (by decide) (by decide), hr.1 19 (by decide) (by decide) (by decide), hr.1 20 (by decide) (by decide) (by decide), hr.1 21 (by decide) (by decide) (by decide)]
  exact h3
def En (σ : St) : Prop := gI σ 39 = -1 ∨ ∃ l : Nat, l ≤ 7 ∧ gI σ 39 = nI l ∧ ¬ gA σ 19 l = -1
theorem en_rn {σ σ' : St} (h : En σ) (hr : Rn σ σ') : En σ' := by
  unfold En at h ⊢
  rw [hr.2 39 (by decide), hr.1 19 (by decide) (by decide) (by decide)]
  exact h
theorem s_reckons_158 {N : Nat} (hN : 8589934592 ≤ N) {Q : Unit → St → Prop} {rec : St → Option (Unit × St)} {a : Nat} {σ0 : St} (hG : GV σ0 a) (hrec : ∀ σ', Rk σ0 σ' → Tot (rec σ') Q) : ∀ (n : Nat) (σ : St) (k : Nat), Rk σ0 σ → k ≤ a → a - k < n → Tot (m_reckons_158 N rec n σ (nI k)) Q := by
  intro n
  induction n with
  | zero => intro σ k _ _ h; exact absurd h (Nat.not_lt_zero _)
  | succ n ih =>
    intro σ k hr hk hn
    have hG1 := gv_rk hG hr
    obtain ⟨g1, g2, g3⟩ := id hG1
    show Tot (m_reckons_158_b N rec (m_reckons_158 N rec n) σ (nI k)) _
    unfold m_reckons_158_b m_reckons_188 m_reckons_194
    rw [g1]
    refine tot_if (fun _ => hrec σ hr) (fun h => ?_)
    have hka := nle (n := a) (by omega) (nI_t (by omega)) h
    have hi : ib (nI k) 1300 = true := ibk (by omega) (by decide)
    rw [hi, ← nI_succ k]
    refine tot_gd rfl (tot_if (fun _ => ih σ (k + 1) hr (by omega) (by omega)) (fun _ => tot_gd rfl ?_))
    exact tot_bd (s_goes hN hka hG1) (fun _ σ2 h2 => ih σ2 (k + 1) (rk_tr hr h2) (by omega) (by omega))
theorem s_reckons_96 {N : Nat} (hN : 8589934592 ≤ N) {Q : Unit → St → Prop} {rec : St → Option (Unit × St)} {a l : Nat} {σ0 : St} (hG : GV σ0 a) (hl : l ≤ 7) (hE : gI σ0 39 = nI l) (ht : ¬ gA σ0 19 l = -1) (hrec : ∀ σ', Rk σ0 σ' → Tot (rec σ') Q) : ∀ (n : Nat) (σ : St) (k : Nat), Rk σ0 σ → k ≤ 4 → 5 - k < n → Tot (m_reckons_96 N rec n σ (nI k)) Q := by
  intro n
  induction n with
  | zero => intro σ k _ _ h; exact absurd h (Nat.not_lt_zero _)
  | succ n ih =>
    intro σ k hr hk hn
    have hG1 := gv_rk hG hr
    have hE1 : gI σ 39 = nI l := (hr.2.1 39 (by decide)).trans hE
    have ht1 : ¬ gA σ 19 l = -1 := by rw [hr.1 19 (by decide) (by decide)]; exact ht
    obtain ⟨-, p1, p2, -⟩ := bv_rt hG1.2.2 hl ht1
    show Tot (m_reckons_96_b N rec (m_reckons_96 N rec n) σ (nI k)) _
    unfold m_reckons_96_b m_reckons_142 m_reckons_148
    rw [hE1, ibk (k := l) (n := 16) (by omega) (by decide), nI_clamp (n := l) (by omega)]
    refine tot_gd rfl (tot_if (fun _ => ?_) (fun h => ?_))
    · have hG2 : ∀ σ2, Rk σ0 σ2 → Tot (m_reckons_158 N rec N σ2 0) Q := fun σ2 h2 => s_reckons_158 hN hG hrec N σ2 0 h2 (by omega) (by have := hG.2.1; omega)
      exact tot_bd (s_begins hN hl hG1 ht1) (fun _ σ2 h2 => hG2 σ2 (rk_tr hr h2))
    · rw [Int32.le_iff_toInt_le, nI_t (by omega)] at h
      rw [ibk (k := k) (n := 4) (by omega) (by decide), n4 hl (by omega), ← nI_succ k]
      refine tot_gd rfl (tot_bd (s_puts (by rw [nI_t (by omega)]; omega) (by rw [nI_t (by omega)]; omega)) (fun _ σ2 h2 => ?_))
      have hr2 := rk_tr hr h2
      refine tot_gd rfl (tot_if (fun _ => ih σ2 (k + 1) hr2 (by omega) (by omega)) (fun _ => ?_))
      exact tot_bd s_putsThings (fun _ σ3 h3 => ih σ3 (k + 1) (rk_tr hr2 h3) (by omega) (by omega))
/-- fuel for reckons -/
abbrev BB : Nat := 42 * 2 ^ 32 + 1300 * 2 ^ 64
theorem s_reckons_82 {N : Nat} (hN : BB + 2 ≤ N) {a : Nat} {σb : St} : ∀ (n : Nat) (σ : St), GV σ a → Rn σb σ → 0 < n → (gI σ 45 = 0 ∨ (¬ gI σ 39 = -1 ∧ En σ ∧ BB + 2 ≤ n + Um σ)) → Tot (m_reckons_82 N n σ) (fun _ σ' => Rn σb σ') := by
  intro n
  induction n with
  | zero => intro σ _ _ h; exact absurd h (Nat.not_lt_zero _)
  | succ n ih =>
    intro σ hG hR _ hc
    show Tot (m_reckons_82_b N (m_reckons_82 N n) σ) _
    unfold m_reckons_82_b
    refine tot_if (fun _ => tot_some hR) (fun h45 => ?_)
    obtain ⟨c1, c2, c3⟩ := hc.elim (fun e => absurd e h45) id
    obtain ⟨l, l1, l2, l3⟩ := c2.elim (fun e => absurd e c1) id
    have hN2 : 8589934592 ≤ N := Nat.le_trans (by decide) hN
    have hG0 : GV (sI σ 45 0) a := gv_rn hG rn_sI
    refine s_reckons_96 hN2 hG0 l1 ((rn_sI (σ := σ)).2 39 (by decide) |>.trans l2) l3 (fun σ' hr => ?_) N (sI σ 45 0) 0 (rk_rf _) (by omega) (by omega)
    have hR1 : Rn σ σ' := rn_tr rn_sI (rn_rk hr)
    have hb := Um_b σ
    refine ih σ' (gv_rk hG0 hr) (rn_tr hR hR1) (by simp only [BB] at c3; omega) ?_
    rcases hr.2.2.2.2 with e | ⟨e, hl⟩
    · exact Or.inl (e.trans gI_eq)
    · refine Or.inr ⟨?_, en_rn c2 hR1, ?_⟩
      · rw [hR1.2 39 (by decide)]; exact c1
      · have : Um (sI σ 45 0) = Um σ := rfl
        omega
theorem s_reckons {N : Nat} (hN : BB + 2 ≤ N) {a : Nat} {σ : St} (hG : GV σ a) (hE : En σ) : Tot (m_reckons N σ) (fun _ σ' => Rn σ σ') := by
  have hN2 : 8589934592 ≤ N := Nat.le_trans (by decide) hN
  have h65 : ∀ σ1, Rn σ σ1 → Tot (m_reckons_65 N σ1) (fun _ σ' => Rn σ σ') := by
    intro σ1 hr
    have hG1 := gv_rn hG hr
    unfold m_reckons_65
    refine tot_if (fun _ => ?_) (fun h => ?_)
    · exact s_reckons_82 hN N _ (gv_rn hG1 rn_sI) (rn_tr hr rn_sI) (by omega) (Or.inl gI_eq)
    · refine s_reckons_82 hN N _ (gv_rn hG1 rn_sI) (rn_tr hr rn_sI) (by omega) (Or.inr ⟨?_, en_rn (en_rn hE hr) rn_sI, by omega⟩)
      rw [rn_sI.2 39 (by decide)]; exact h
  have h46 : ∀ (n : Nat) (σ1 : St) (k : Nat), Rn σ σ1 → k ≤ 25 → 25 - k < n → Tot (m_reckons_46 N n σ1 (nI k)) (fun _ σ' => Rn σ σ') := by
    intro n
    induction n with
    | zero => intro σ1 k _ _ h; exact absurd h (Nat.not_lt_zero _)
    | succ n ih =>
      intro σ1 k hr hk hn
      show Tot (m_reckons_46_b N (m_reckons_46 N n) σ1 (nI k)) _
      unfold m_reckons_46_b
      refine tot_if (fun _ => h65 σ1 hr) (fun h => ?_)
      have hk4 := nle (n := 25) (by omega) (by decide) h
      rw [ibk (n := 25) hk4 (by decide), ← nI_succ k]
      exact tot_gd rfl (ih _ (k + 1) (rn_tr hr (rn_sA (Or.inr (Or.inr rfl)))) (by omega) (by omega))
  have h25 : ∀ (n : Nat) (σ1 : St) (k : Nat), Rn σ σ1 → k ≤ 42 → 42 - k < n → Tot (m_reckons_25 N n σ1 (nI k)) (fun _ σ' => Rn σ σ') := by
    intro n
    induction n with
    | zero => intro σ1 k _ _ h; exact absurd h (Nat.not_lt_zero _)
    | succ n ih =>
      intro σ1 k hr hk hn
      show Tot (m_reckons_25_b N (m_reckons_25 N n) σ1 (nI k)) _
      unfold m_reckons_25_b
      refine tot_if (fun _ => h46 N σ1 0 hr (by omega) (by omega)) (fun h => ?_)
      have hk4 := nle (n := 42) (by omega) (by decide) h
      rw [ibk (n := 42) hk4 (by decide), ← nI_succ k]
      exact tot_gd rfl (ih _ (k + 1) (rn_tr hr (rn_sA (Or.inl rfl))) (by omega) (by omega))
  have h2 : ∀ (n : Nat) (σ1 : St) (k : Nat), Rn σ σ1 → k ≤ a → a - k < n → Tot (m_reckons_2 N n σ1 (nI k)) (fun _ σ' => Rn σ σ') := by
    intro n
    induction n with
    | zero => intro σ1 k _ _ h; exact absurd h (Nat.not_lt_zero _)
    | succ n ih =>
      intro σ1 k hr hk hn
      obtain ⟨g1, g2, g3⟩ := gv_rn hG hr
      show Tot (m_reckons_2_b N (m_reckons_2 N n) σ1 (nI k)) _
      unfold m_reckons_2_b
      rw [g1]
      refine tot_if (fun _ => h25 N σ1 0 hr (by omega) (by omega)) (fun h => ?_)
      have hk4 := nle (n := a) (by omega) (nI_t (by omega)) h
      rw [ibk (k := k) (n := 1300) (by omega) (by decide), ← nI_succ k]
      exact tot_gd rfl (ih _ (k + 1) (rn_tr hr rn_sZ) (by omega) (by omega))
  have ha := hG.2.1
  unfold m_reckons
  exact h2 N σ 0 (rn_rf σ) (by omega) (by omega)
theorem s_frees {N : Nat} (hN : 8589934592 ≤ N) {σ : St} : Tot (m_frees N σ) (fun _ σ' => Rn σ σ') := by
  have h2 : ∀ (n : Nat) (σ1 : St) (k : Nat), Rn σ σ1 → k ≤ 42 → 42 - k < n → Tot (m_frees_2 N n σ1 (nI k)) (fun _ σ' => Rn σ σ') := by
    intro n
    induction n with
    | zero => intro σ1 k _ _ h; exact absurd h (Nat.not_lt_zero _)
    | succ n ih =>
      intro σ1 k hr hk hn
      show Tot (m_frees_2_b N (m_frees_2 N n) σ1 (nI k)) _
      unfold m_frees_2_b
      refine tot_if (fun _ => tot_some hr) (fun h => ?_)
      have hk4 := nle (n := 42) (by omega) (by decide) h
      rw [ibk (n := 42) hk4 (by decide), ← nI_succ k]
      exact tot_gd rfl (ih _ (k + 1) (rn_tr hr (rn_sA (Or.inr (Or.inl rfl)))) (by omega) (by omega))
  unfold m_frees
  exact h2 N σ 0 (rn_rf σ) (by omega) (by omega)
