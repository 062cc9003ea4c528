theorem ib400 {k : Nat} (h : k ≤ 399) : ib (nI k) 400 = true := ib_m (by rw [nI_t (by omega)]; omega) (by rw [nI_t (by omega)]; omega) (by decide)
/-- what parses() leaves: where no fault is told, a right program -/
def PR (σ' : St) : Prop := ∃ a c u w : Nat, a ≤ 1299 ∧ u ≤ 40 ∧ w ≤ 24 ∧ PS σ' a 0 c u w ∧ SQ (gA σ') a 0 c X0 ∧ (a = 0 ∨ E9 (gA σ') a) ∧ (0 < u → ¬ gA σ' 22 1 = -1) ∧ ∀ j, j < c → ∀ l : Nat, l ≤ 7 → gA σ' 31 j = nI l → ¬ gA σ' 19 (8 + l) = -1 ∧ gA σ' 20 (8 + l) = gA σ' 32 j
theorem s_parses_138 {N : Nat} : ∀ (n : Nat) (σ : St) (k c : Nat), c ≤ 399 → TI σ → TV σ → gI σ 33 = nI c → k ≤ c → (gI σ 8 = 0 → ∀ j, j < c → 0 ≤ (gA σ 31 j).toInt ∧ (gA σ 31 j).toInt ≤ 7) → (gI σ 8 = 0 → ∀ j, j < k → ∀ l : Nat, l ≤ 7 → gA σ 31 j = nI l → ¬ gA σ 19 (8 + l) = -1 ∧ gA σ 20 (8 + l) = gA σ 32 j) → 400 - k < n → Tot (m_parses_138 N n σ (nI k)) (fun _ σ' => Tk σ σ' ∧ (gI σ' 8 = 0 → gI σ 8 = 0 ∧ ∀ j, j < c → ∀ l : Nat, l ≤ 7 → gA σ 31 j = nI l → ¬ gA σ 19 (8 + l) = -1 ∧ gA σ 20 (8 + l) = gA σ 32 j)) := by
  intro n
  induction n with
  | zero => intro σ k c _ _ _ _ _ _ _ h; exact absurd h (Nat.not_lt_zero _)
  | succ n ih =>
    intro σ k c hc hT hV h33 hk hl hq hn
    show Tot (m_parses_138_b N (m_parses_138 N n) σ (nI k)) _
    unfold m_parses_138_b m_parses_188 m_parses_199
    rw [h33]
    refine tot_if (fun hle => ?_) (fun hle => ?_)
    · rw [Int32.le_iff_toInt_le, nI_t (by omega), nI_t (by omega)] at hle
      obtain rfl : k = c := by omega
      exact tot_some ⟨tk_rf σ, fun e => ⟨e, hq e⟩⟩
    · rw [Int32.le_iff_toInt_le, nI_t (by omega), nI_t (by omega)] at hle
      refine tot_if (fun h8 => ?_) (fun h8 => tot_some ⟨tk_rf σ, fun e => absurd e h8⟩)
      have hcl : (nI k).toNatClampNeg = k := nI_clamp (by omega)
      obtain ⟨l, hl7, el⟩ := nI_of7 (hl h8 k (by omega)).1 (hl h8 k (by omega)).2
      rw [hcl, ib400 (by omega), el, show (8 : Int32) + nI l = nI (8 + l) from by rw [show (8 : Int32) = nI 8 from by decide, nI_add], ib16 hl7, nI_clamp (show 8 + l < 2 ^ 31 by omega), ← nI_succ k]
      have bad : Tot (gd true (bd (m_wrong N σ 4 (gA σ 30 k)) (fun _ σ4 => m_parses_138 N n σ4 (nI (k + 1))))) (fun _ σ' => Tk σ σ' ∧ (gI σ' 8 = 0 → gI σ 8 = 0 ∧ ∀ j, j < c → ∀ l : Nat, l ≤ 7 → gA σ 31 j = nI l → ¬ gA σ 19 (8 + l) = -1 ∧ gA σ 20 (8 + l) = gA σ 32 j)) := by
        refine tot_gd rfl (tot_bd (s_wrong hT hV (by decide)) (fun _ σ4 hp => ?_))
        have hk4 := hp.1.2.2.1
        refine (ih σ4 (k + 1) c hc hp.1.1 hp.1.2.1 (by rw [hk4.2.1 33 (by omega)]; exact h33) (by omega) (fun e => absurd e hp.2.1) (fun e => absurd e hp.2.1) (by omega)).mono (fun _ σ' q => ⟨tk_tr hk4 q.1, fun e => absurd (q.2 e).1 hp.2.1⟩)
      refine tot_gd rfl (tot_gd rfl (tot_if (fun _ => bad) (fun h19 => tot_gd rfl (tot_gd rfl (tot_if (fun h20 => ?_) (fun _ => bad))))))
      refine ih σ (k + 1) c hc hT hV h33 (by omega) hl (fun e j hj l2 hl2 e2 => ?_) (by omega)
      rcases (show j = k ∨ j < k by omega) with z | z
      · subst z
        have : l = l2 := nI_inj (by omega) (by omega) (el.symm.trans e2)
        subst this
        exact ⟨h19, h20⟩
      · exact hq e j z l2 hl2 e2
theorem wt0 {A : Ar} {k : Nat} (h : Wt A 0 k) : X0 k := by
  obtain ⟨i, h1, -⟩ := h
  exact absurd h1 (by omega)
theorem x0_wt {A : Ar} {k : Nat} (h : X0 k) : Wt A 0 k := absurd h id
theorem s_parses_77 {N : Nat} (hN : 8589934592 ≤ N) : ∀ (n : Nat) (σ : St) (a b c u w : Nat), a ≤ 1299 → c ≤ 399 → u ≤ 40 → w ≤ 24 → b ≤ 6 → TI σ → TV σ → PS σ a b c u w → (gI σ 8 = 0 → SQ (gA σ) a b c (Wt (gA σ) b) ∧ Bn (gA σ) a ∧ (b = 0 → a = 0 ∨ E9 (gA σ) a) ∧ (a : Int) + (if b = 0 then 0 else 1) ≤ (gI σ 5).toInt ∧ 4 * (c : Int) ≤ (gI σ 5).toInt ∧ (0 < b ∨ 0 < u → ¬ gA σ 22 1 = -1)) → ((gI σ 8 = 0 ∧ (1203 - (gI σ 5).toInt).toNat < n) ∨ (¬ gI σ 8 = 0 ∧ 0 < n)) → Tot (m_parses_77 N n σ) (fun _ σ' => Bs σ σ' ∧ (gI σ' 8 = 0 → PR σ')) := by
  intro n
  induction n with
  | zero => intro σ a b c u w _ _ _ _ _ _ _ _ _ hn; rcases hn with ⟨-, h⟩ | ⟨-, h⟩ <;> exact absurd h (Nat.not_lt_zero _)
  | succ n ih =>
    intro σ a b c u w ha hc hu hw hb hT hV hP hS hn
    show Tot (m_parses_77_b N (m_parses_77 N n) σ) _
    have tp := hT.2.2
    have tp2 := hT.2.1
    have hend : (gI σ 8 = 0 → b = 0) → Tot (m_parses_138 N N σ 0) (fun _ σ' => Bs σ σ' ∧ (gI σ' 8 = 0 → PR σ')) := by
      intro hb0
      refine (s_parses_138 N σ 0 c hc hT hV hP.2.2.1 (by omega) (fun e => (hS e).1.2.2.2.2.1) (fun _ j hj => absurd hj (by omega)) (by omega)).mono (fun _ σ' q => ⟨bs_tk q.1, fun e => ?_⟩)
      obtain ⟨e8, hcalls⟩ := q.2 e
      have hk := q.1
      obtain rfl := hb0 e8
      obtain ⟨s1, s2, s3, s4, s5, s6⟩ := hS e8
      refine ⟨a, c, u, w, ha, hu, hw, ps_tk hk hP, ?_, ?_, ?_, ?_⟩
      · rw [tk_A hk]
        exact sq_wt s1 (fun k _ h => wt0 h)
      · rw [tk_A hk]
        exact s3 rfl
      · rw [tk_A hk]
        exact fun h => s6 (Or.inr h)
      · rw [tk_A hk]
        exact hcalls
    have h99 : gI σ 8 = 0 → Tot (m_parses_99 N (m_parses_77 N n) σ) (fun _ σ' => Bs σ σ' ∧ (gI σ' 8 = 0 → PR σ')) := by
      intro h8
      obtain ⟨s1, s2, s3, s4, s5, s6⟩ := hS h8
      have hn1 : (1203 - (gI σ 5).toInt).toNat < n + 1 := by
        rcases hn with ⟨-, h⟩ | ⟨h, -⟩
        · exact h
        · exact absurd h8 h
      have ha2 : a ≤ 1290 := by
        split at s4 <;> omega
      unfold m_parses_99
      rw [hP.2.1]
      refine tot_if (fun hb0 => ?_) (fun hb0 => ?_)
      · obtain rfl : b = 0 := nI_inj (by omega) (by omega) (hb0.trans (by decide))
        refine tot_bd (s_head hN ha2 hT hV hP h8 (sq_wt s1 (fun k _ h => wt0 h)) s2) (fun _ σ1 q => ?_)
        obtain ⟨q0, b', q1, q2, q3, q4, q5⟩ := q
        refine (ih σ1 a b' c u w ha hc hu hw q1 q3 q4 q2 (fun e => ?_) ?_).mono (fun _ σ' z => ⟨bs_tr q0 z.1, z.2⟩)
        · obtain ⟨rfl, z2, z3, z4, z5⟩ := q5 e
          rw [if_pos rfl] at s4
          exact ⟨z2, z3, fun e => absurd e (by decide), by rw [if_neg (by decide)]; omega, by omega, fun _ => z5⟩
        · by_cases e : gI σ1 8 = 0
          · have := (q5 e).2.2.2.1
            exact Or.inl ⟨e, by omega⟩
          · exact Or.inr ⟨e, by omega⟩
      · have hb1 : 1 ≤ b := by
          rcases (show b = 0 ∨ 1 ≤ b by omega) with z | z
          · subst z
            exact absurd (by decide) hb0
          · exact z
        rw [if_neg (by omega)] at s4
        have h22 := s6 (Or.inl hb1)
        rw [e_isSign, bd_s]
        refine tot_if (fun _ => ?_) (fun hsg => ?_)
        · refine tot_bd (s_statement hN ha2 (by omega) hu hw hb hb1 hT hV hP h8 s1) (fun _ σ1 q => ?_)
          obtain ⟨q0, a', b', c', u', w', l1, l2, l3, l4, l5, q1, q2, q3, q4⟩ := q
          refine (ih σ1 a' b' c' u' w' (by omega) (by omega) l3 l4 l5 q2 q3 q1 (fun e => ?_) ?_).mono (fun _ σ' z => ⟨bs_tr q0.1 z.1, z.2⟩)
          · obtain ⟨z1, z2, z3, z4, z5, z6⟩ := q4 e
            exact ⟨z1, z2, fun e => absurd e (by omega), by rw [if_neg (by omega)]; omega, by omega, fun _ => by rw [q0.2]; exact h22⟩
          · by_cases e : gI σ1 8 = 0
            · have := (q4 e).2.2.2.2.2
              exact Or.inl ⟨e, by omega⟩
            · exact Or.inr ⟨e, by omega⟩
        · obtain ⟨i, rfl⟩ : ∃ i, b = i + 1 := ⟨b - 1, by omega⟩
          refine tot_bd (s_closes hN ha2 hb hT hV hP h8 (sgF_1 hsg).2.1 s1 s2) (fun _ σ1 q => ?_)
          obtain ⟨q0, a', b', l1, l2, q1, q2, q3, q4⟩ := q
          refine (ih σ1 a' b' c u w (by omega) hc hu hw l2 q2 q3 q1 (fun e => ?_) ?_).mono (fun _ σ' z => ⟨bs_tr q0.1 z.1, z.2⟩)
          · obtain ⟨z1, z2, z3, z4, z5⟩ := q4 e
            exact ⟨z1, z2, fun e0 => Or.inr (z3 e0).2, by omega, by omega, fun _ => by rw [q0.2]; exact h22⟩
          · by_cases e : gI σ1 8 = 0
            · have := (q4 e).2.2.2.2
              exact Or.inl ⟨e, by omega⟩
            · exact Or.inr ⟨e, by omega⟩
    unfold m_parses_77_b
    refine tot_if (fun h8 => tot_if (fun _ => ?_) (fun _ => h99 h8)) (fun h8 => hend (fun e => absurd e h8))
    rw [hP.2.1]
    refine tot_if (fun hle => hend (fun _ => ?_)) (fun _ => h99 h8)
    rw [Int32.le_iff_toInt_le, nI_t (by omega), i0] at hle
    omega
theorem s_parses_54 {N : Nat} (hN : 8589934592 ≤ N) : ∀ (n : Nat) (σ : St) (k : Nat), 8 ≤ k → k ≤ 16 → T4 σ → PS σ 0 0 0 0 0 → gI σ 8 = 0 → gA σ 22 1 = -1 → (∀ r, 8 ≤ r → r < k → gA σ 19 r = -1) → 17 - k < n → Tot (m_parses_54 N n σ (nI k)) (fun _ σ' => Bs σ σ' ∧ (gI σ' 8 = 0 → PR σ')) := by
  intro n
  induction n with
  | zero => intro σ k _ _ _ _ _ _ _ h; exact absurd h (Nat.not_lt_zero _)
  | succ n ih =>
    intro σ k hk1 hk2 hT hP h8 h22 hr hn
    show Tot (m_parses_54_b N (m_parses_54 N n) σ (nI k)) _
    unfold m_parses_54_b m_parses_73
    refine tot_if (fun hle => ?_) (fun hle => ?_)
    · rw [Int32.le_iff_toInt_le, nI_t (by omega), show (16 : Int32).toInt = 16 from by decide] at hle
      obtain rfl : k = 16 := by omega
      refine tot_bd (s_next hN hT) (fun _ σ2 hp => ?_)
      obtain ⟨q1, q2, q3, q4, q5⟩ := hp
      have hA := tk_A q4
      have t1 := hT.1
      have u1 := q1.2.1
      have u2 := q1.2.2
      refine (s_parses_77 hN N σ2 0 0 0 0 0 (by omega) (by omega) (by omega) (by omega) (by omega) q1 q2 (ps_tk q4 hP) (fun _ => ⟨?_, Or.inl rfl, fun _ => Or.inl rfl, ?_, ?_, fun h => absurd h (by omega)⟩) (Or.inl ⟨q5.1.trans h8, by omega⟩)).mono (fun _ σ' z => ⟨bs_tr (bs_tk q4) z.1, z.2⟩)
      · rw [hA]
        exact ⟨fun k hk => absurd hk (by omega), fun i hi => absurd hi (by omega), fun r hr8 => Or.inl (hr (8 + r) (by omega) (by omega)), fun k hk => absurd hk (by omega), fun j hj => absurd hj (by omega), Or.inl ⟨h22, fun r hr8 => hr (8 + r) (by omega) (by omega)⟩⟩
      · rw [if_pos rfl]; omega
      · omega
    · rw [Int32.le_iff_toInt_le, nI_t (by omega), show (16 : Int32).toInt = 16 from by decide] at hle
      have hi : ib (nI k) 16 = true := ib_m (by rw [nI_t (by omega)]; omega) (by rw [nI_t (by omega)]; omega) (by decide)
      rw [hi, nI_clamp (show k < 2 ^ 31 by omega), ← nI_succ k]
      refine tot_gd rfl ?_
      refine (ih (sA σ 19 k (-1)) (k + 1) (by omega) (by omega) hT ⟨hP.1, hP.2.1, hP.2.2.1, hP.2.2.2.1, hP.2.2.2.2⟩ h8 (by rw [gA_sA, if_neg (by decide)]; exact h22) (fun r h1 h2 => ?_) (by omega)).mono (fun _ σ' z => ⟨bs_tr (bs_A (bs_rf σ) (by show 8 ≤ k; omega)) z.1, z.2⟩)
      rw [gA_sA, if_pos rfl]
      rcases (show r = k ∨ r < k by omega) with z | z
      · subst z
        exact upd_eq
      · rw [upd_ne (by omega)]
        exact hr r h1 z
theorem s_parses {N : Nat} (hN : 8589934592 ≤ N) {σ : St} (h0 : 0 ≤ (gI σ 3).toInt) (h1 : (gI σ 3).toInt ≤ 1200) : Tot (m_parses N σ) (fun _ σ' => Bs σ σ' ∧ (gI σ' 8 = 0 → PR σ')) := by
  unfold m_parses
  rw [c1]
  refine tot_gd ib12 (tot_gd ib12 (tot_gd ib12 ?_))
  refine (s_parses_54 hN N (sA (sA (sA (sI (sI (sI (sI (sI (sI σ 4 0) 8 0) 9 (-1)) 17 0) 33 0) 38 0) 26 1 0) 29 1 0) 22 1 (-1)) 8 (by omega) (by omega) ⟨(show 0 ≤ (0 : Int32).toInt by decide), ?_, h1⟩ ⟨(show (0 : Int32) = nI 0 by decide), (show (0 : Int32) = nI 0 by decide), (show (0 : Int32) = nI 0 by decide), ?_, ?_⟩ rfl ?_ (fun r h2 h3 => absurd h3 (by omega)) (by omega)).mono (fun _ σ' z => ⟨bs_tr (bs_A (bs_A (bs_A (bs_I (bs_I (bs_I (bs_I (bs_I (bs_I (bs_rf σ) (by omega)) (by omega)) (by omega)) (by omega)) (by omega)) (by omega)) (by decide)) (by decide)) (by decide)) z.1, z.2⟩)
  · show (0 : Int32).toInt ≤ (gI σ 3).toInt
    rw [i0]; exact h0
  · rw [gA_sA, if_neg (by decide), gA_sA, if_neg (by decide), gA_sA, if_pos rfl, upd_eq]; decide
  · rw [gA_sA, if_neg (by decide), gA_sA, if_pos rfl, upd_eq]; decide
  · rw [gA_sA, if_pos rfl, upd_eq]
