/-! mark, use, test, count, price, mend, mended keep the reference's invariant -/
def Kq (σ σ' : St) : Prop := (∀ j, j < 40 → gA σ' j = gA σ j) ∧ (∀ k, k < 40 → k ≠ 0 → gI σ' k = gI σ k)
theorem kq_rf (σ : St) : Kq σ σ := ⟨fun _ _ => rfl, fun _ _ _ => rfl⟩
theorem kq_tr {σ σ1 σ2 : St} (h : Kq σ σ1) (h2 : Kq σ1 σ2) : Kq σ σ2 := ⟨fun j a => (h2.1 j a).trans (h.1 j a), fun k hk h0 => (h2.2 k hk h0).trans (h.2 k hk h0)⟩
theorem kq_rn {σ σ1 : St} (h : Rn σ σ1) : Kq σ σ1 := ⟨fun j hj => h.1 j (by omega) (by omega) (by omega), fun k hk _ => h.2 k (by omega)⟩
theorem kq_sI {σ : St} {k : Nat} {v : Int32} (h : k = 0 ∨ 40 ≤ k) : Kq σ (sI σ k v) := ⟨fun _ _ => rfl, fun k2 hk h0 => gI_ne (fun e => by omega)⟩
theorem kq_sA {σ : St} {j i : Nat} {v : Int32} (h : 40 ≤ j) : Kq σ (sA σ j i v) := ⟨fun j2 hj => by rw [gA_sA, if_neg (by omega)], fun _ _ _ => rfl⟩
theorem mi_kq {σ σ' : St} (h : MI σ) (hk : Kq σ σ') (h64 : 0 ≤ (gI σ' 64).toInt ∧ (gI σ' 64).toInt ≤ 10) : MI σ' := by
  obtain ⟨a, u, w, m1, m2, m3, m4, m5, m6, m7, m8, m9, m10, m11, -⟩ := h
  refine ⟨a, u, w, (hk.2 18 (by decide) (by decide)).trans m1, m2, ?_, m4, ?_, m6, ?_, ?_, ?_, ?_, ?_, h64.1, h64.2⟩
  · rw [hk.1 26 (by decide)]; exact m3
  · rw [hk.1 29 (by decide)]; exact m5
  · unfold BV at m7 ⊢
    rw [hk.1 12 (by decide), hk.1 13 (by decide), hk.1 14 (by decide), hk.1 15 (by decide), hk.1 19 (by decide), hk.1 20 (by decide), hk.1 21 (by decide)]
    exact m7
  · rw [hk.2 39 (by decide) (by decide), hk.1 19 (by decide)]; exact m8
  · rw [hk.2 39 (by decide) (by decide)]; exact m9
  · rw [hk.2 2 (by decide) (by decide)]; exact m10
  · rw [hk.2 2 (by decide) (by decide)]; exact m11
theorem mi_64 {σ : St} (h : MI σ) : 0 ≤ (gI σ 64).toInt ∧ (gI σ 64).toInt ≤ 10 := by
  obtain ⟨a, u, w, -, -, -, -, -, -, -, -, -, -, -, h1, h2⟩ := h
  exact ⟨h1, h2⟩
theorem mi_kp {σ σ' : St} (h : MI σ) (hk : Kq σ σ') (h64 : gI σ' 64 = gI σ 64) : MI σ' ∧ gI σ' 2 = gI σ 2 := ⟨mi_kq h hk (by rw [h64]; exact mi_64 h), hk.2 2 (by decide) (by decide)⟩
theorem mi_rn {σ σ' : St} (h : MI σ) (hr : Rn (sI σ 0 0) σ') : MI σ' ∧ gI σ' 2 = gI σ 2 := mi_kp h (kq_tr (kq_sI (Or.inl rfl)) (kq_rn hr)) ((hr.2 64 (by decide)).trans (gI_ne (by decide)))
theorem mi_0 {σ : St} (h : MI σ) : MI (sI σ 0 0) ∧ gI (sI σ 0 0) 2 = gI σ 2 := mi_rn h (rn_rf _)
theorem mi_gv {σ : St} (h : MI σ) : ∃ a, GV σ a ∧ En σ := by
  obtain ⟨a, u, w, m1, m2, m3, m4, m5, m6, m7, m8, -⟩ := h
  exact ⟨a, ⟨m1, m2, m7⟩, m8⟩
/-- FACTS anew -/
theorem s_fr {ρ : Type} {N : Nat} (hN : BB + 2 ≤ N) {a : Nat} {σ : St} {K : St → Option (ρ × St)} {Q : ρ → St → Prop} (hG : GV σ a) (hE : En σ) (h : ∀ σ', Rn σ σ' → Tot (K σ') Q) : Tot (bd (m_frees N σ) (fun _ σ2 => bd (m_reckons N σ2) (fun _ σ4 => K σ4))) Q := by
  refine tot_bd (s_frees (Nat.le_trans (by decide) hN)) (fun _ σ2 h2 => ?_)
  exact tot_bd (s_reckons hN (gv_rn hG h2) (en_rn hE h2)) (fun _ σ4 h4 => h σ4 (rn_tr h2 h4))
theorem nI_upto {x : Int32} {n : Nat} (h0 : 0 ≤ x.toInt) (h1 : x.toInt ≤ n) (hn : n < 2 ^ 31) : ∃ l : Nat, l ≤ n ∧ x = nI l := by
  refine ⟨x.toInt.toNat, by omega, Int32.toInt_inj.mp ?_⟩
  rw [nI_t (by omega)]
  omega
theorem e_useFact {N : Nat} (hN : 8589934592 ≤ N) {σ : St} {a : Nat} {x : Int32} (hG : GV σ a) : ∃ v, m_useFact N σ x = some (v, σ) := by
  obtain ⟨g1, g2, -⟩ := hG
  have h2 : ∀ (n : Nat) (k : Nat), k ≤ a → a - k < n → Tot (m_useFact_2 N n σ x (nI k)) (fun _ σ' => σ' = σ) := by
    intro n
    induction n with
    | zero => intro k _ h; exact absurd h (Nat.not_lt_zero _)
    | succ n ih =>
      intro k hk hn
      show Tot (m_useFact_2_b N (m_useFact_2 N n) σ x (nI k)) _
      unfold m_useFact_2_b m_useFact_31 m_useFact_72 m_useFact_41
      rw [g1]
      refine tot_if (fun _ => tot_some rfl) (fun h => ?_)
      have hk4 := nle (n := a) (by omega) (nI_t (by omega)) h
      rw [ibk (k := k) (n := 2600) (by omega) (by decide), ibk (k := k) (n := 1300) (by omega) (by decide), ← nI_succ k]
      have e := ih (k + 1) (by omega) (by omega)
      have q : ∀ z : Int64, ∀ y : Int32, Tot (bd (m_factOf N σ z y) (fun r1 σ2 => some (r1, σ2))) (fun _ σ' => σ' = σ) := fun z y => t_factOf (fun v => tot_some rfl)
      refine tot_gd rfl (tot_if (fun _ => ?_) (fun _ => tot_gd rfl (tot_if (fun _ => ?_) (fun _ => e))))
      · exact tot_gd rfl (tot_if (fun _ => tot_gd rfl (tot_if (fun _ => tot_some rfl) (fun _ => tot_gd rfl (tot_gd rfl (q _ _))))) (fun _ => e))
      · exact tot_gd rfl (tot_if (fun _ => tot_gd rfl (tot_if (fun _ => tot_some rfl) (fun _ => tot_gd rfl (tot_gd rfl (q _ _))))) (fun _ => e))
  unfold m_useFact
  obtain ⟨r, σ', e, h⟩ := h2 N 0 (by omega) (by omega)
  subst h
  exact ⟨r, e⟩
theorem t_useFact {ρ : Type} {N : Nat} (hN : 8589934592 ≤ N) {σ : St} {a : Nat} {x : Int32} (hG : GV σ a) {K : Int32 → St → Option (ρ × St)} {Q : ρ → St → Prop} (h : ∀ v, Tot (K v σ) Q) : Tot (bd (m_useFact N σ x) K) Q := by
  obtain ⟨v, e⟩ := e_useFact hN hG (x := x)
  rw [e, bd_s]
  exact h v
theorem i32_add {x y : Int32} (h1 : -2147483648 ≤ x.toInt + y.toInt) (h2 : x.toInt + y.toInt < 2147483648) : (x + y).toInt = x.toInt + y.toInt := by
  rw [Int32.toInt_add]
  exact Int.bmod_eq_of_le (by omega) (by omega)
theorem s_mark {N : Nat} (hN : BB + 2 ≤ N) {σ : St} {x y z : Int32} (hM : MI σ) : Tot (m_mark N σ x y z) (fun _ σ' => MI σ' ∧ gI σ' 2 = gI σ 2) := by
  obtain ⟨a, hG0, hE0⟩ := mi_gv (mi_0 hM).1
  obtain ⟨a1, hG1, -⟩ := mi_gv hM
  have h0 := mi_0 hM
  have h85 : ((x = 0 → ∃ l m : Nat, y = nI l ∧ z = nI m ∧ l ≤ 7 ∧ m ≤ 3) ∧ (x = 1 → ∃ l : Nat, y = nI l ∧ l ≤ 7) ∧ (¬ x = 0 → ¬ x = 1 → ∃ m : Nat, z = nI m ∧ m ≤ 1)) → Tot (m_mark_85 N (sI σ 0 0) x y z) (fun _ σ' => MI σ' ∧ gI σ' 2 = gI σ 2) := by
    intro ⟨q1, q2, q3⟩
    unfold m_mark_85
    refine s_fr hN hG0 hE0 (fun σ' hr => ?_)
    have hm := mi_rn hM hr
    refine tot_if (fun e => ?_) (fun e => tot_if (fun e2 => ?_) (fun e2 => ?_))
    · obtain ⟨l, m, rfl, rfl, hl, hm3⟩ := q1 e
      rw [n4 hl hm3]
      exact tot_gd (ibk (by omega) (by decide)) (tot_some hm)
    · obtain ⟨l, rfl, hl⟩ := q2 e2
      rw [n32]
      exact tot_gd (ibk (by omega) (by decide)) (tot_some hm)
    · obtain ⟨m, rfl, hm1⟩ := q3 e e2
      rw [show (40 : Int32) = nI 40 from by decide, nI_add]
      exact tot_gd (ibk (by omega) (by decide)) (tot_some hm)
  have h69 : ((x = 0 → ∃ l m : Nat, y = nI l ∧ z = nI m ∧ l ≤ 7 ∧ m ≤ 3) ∧ (x = 1 → ∃ l : Nat, y = nI l ∧ l ≤ 7) ∧ (¬ x = 0 → ¬ x = 1 → x = 2)) → Tot (m_mark_69 N (sI σ 0 0) x y z) (fun _ σ' => MI σ' ∧ gI σ' 2 = gI σ 2) := by
    intro ⟨q1, q2, q3⟩
    unfold m_mark_69
    refine tot_if (fun e => tot_if (fun _ => tot_some h0) (fun e2 => tot_if (fun e3 => ?_) (fun _ => tot_some h0))) (fun e => h85 ⟨q1, q2, fun e1 e2 => absurd (q3 e1 e2) e⟩)
    refine h85 ⟨q1, q2, fun _ _ => ?_⟩
    rw [Int32.lt_iff_toInt_lt] at e2
    rw [Int32.le_iff_toInt_le] at e3
    have e2' : 0 ≤ z.toInt := by have : (0 : Int32).toInt = 0 := rfl; omega
    have e3' : z.toInt ≤ (1 : Nat) := e3
    obtain ⟨l, l1, l2⟩ := nI_upto e2' e3' (by decide)
    exact ⟨l, l2, l1⟩
  have h51 : ((x = 0 ∨ x = 1) → ∃ l : Nat, y = nI l ∧ l ≤ 7 ∧ ¬ gA σ 19 l = -1) → (¬ x = 0 → ¬ x = 1 → x = 2) → Tot (m_mark_51 N (sI σ 0 0) x y z) (fun _ σ' => MI σ' ∧ gI σ' 2 = gI σ 2) := by
    intro q q3
    unfold m_mark_51
    refine tot_if (fun e => tot_if (fun _ => tot_some h0) (fun e2 => ?_)) (fun e => h69 ⟨fun e1 => absurd e1 e, fun e1 => ?_, q3⟩)
    · obtain ⟨l, rfl, hl, ht⟩ := q (Or.inl e)
      refine tot_gd (ibk (by omega) (by decide)) (tot_if (fun _ => tot_some h0) (fun e3 => h69 ⟨fun _ => ?_, fun e1 => ⟨l, rfl, hl⟩, q3⟩))
      obtain ⟨-, p1, p2, -⟩ := bv_rt hG1.2.2 hl ht
      rw [Int32.lt_iff_toInt_lt] at e2
      rw [Int32.le_iff_toInt_le, nI_clamp (by omega)] at e3
      have e2' : 0 ≤ z.toInt := by have : (0 : Int32).toInt = 0 := rfl; omega
      have e3' : z.toInt ≤ (3 : Nat) := by
        have : gA (sI σ 0 0) 20 l = gA σ 20 l := rfl
        rw [this] at e3
        omega
      obtain ⟨m, m1, m2⟩ := nI_upto e2' e3' (by decide)
      exact ⟨l, m, rfl, m2, hl, m1⟩
    · obtain ⟨l, l1, l2, -⟩ := q (Or.inr e1)
      exact ⟨l, l1, l2⟩
  have x2 : ¬ x < 0 → ¬ (2 : Int32) < x → ¬ x = 0 → ¬ x = 1 → x = 2 := by
    intro e1 e2 e3 e4
    rw [Int32.lt_iff_toInt_lt] at e1 e2
    have e3 := i_ne e3
    have e4 := i_ne e4
    apply Int32.toInt_inj.mp
    have q0 : (0 : Int32).toInt = 0 := rfl
    have q1 : (1 : Int32).toInt = 1 := rfl
    have q2 : (2 : Int32).toInt = 2 := rfl
    omega
  have h30 : ∀ t : Int32, (¬ t = 0 → ∃ l : Nat, y = nI l ∧ l ≤ 7 ∧ ¬ gA σ 19 l = -1) → Tot (m_mark_30 N (sI σ 0 0) x y z t) (fun _ σ' => MI σ' ∧ gI σ' 2 = gI σ 2) := by
    intro t q
    unfold m_mark_30
    refine tot_if (fun _ => tot_some h0) (fun e1 => tot_if (fun _ => tot_some h0) (fun e2 => tot_if (fun e3 => h51 (fun e => ?_) (x2 e1 e2)) (fun _ => tot_if (fun _ => tot_some h0) (fun et => h51 (fun _ => q et) (x2 e1 e2)))))
    rcases e with rfl | rfl
    · exact absurd e3 (by decide)
    · exact absurd e3 (by decide)
  unfold m_mark m_mark_29
  refine tot_if (fun _ => h30 0 (fun e => absurd rfl e)) (fun e1 => tot_if (fun _ => h30 0 (fun e => absurd rfl e)) (fun e2 => ?_))
  rw [Int32.lt_iff_toInt_lt] at e1
  rw [Int32.le_iff_toInt_le] at e2
  have e1' : 0 ≤ y.toInt := by have : (0 : Int32).toInt = 0 := rfl; omega
  have e2' : y.toInt ≤ (7 : Nat) := by have : (8 : Int32).toInt = 8 := rfl; omega
  obtain ⟨l, l1, rfl⟩ := nI_upto e1' e2' (by decide)
  refine tot_gd (ibk (by omega) (by decide)) (tot_if (fun _ => h30 0 (fun e => absurd rfl e)) (fun e => h30 1 (fun _ => ⟨l, rfl, l1, ?_⟩)))
  rw [nI_clamp (by omega)] at e
  exact e
theorem lt_n {x : Int32} {u n : Nat} (h0 : ¬ x < 0) (h1 : x < nI u) (hu : u ≤ n) (hn : n < 2 ^ 31) : ib x n = true := by
  rw [Int32.lt_iff_toInt_lt] at h0 h1
  rw [nI_t (by omega)] at h1
  exact ib_m (by have : (0 : Int32).toInt = 0 := rfl; omega) (by omega) hn
theorem s_use {N : Nat} (hN : BB + 2 ≤ N) {σ : St} {x y : Int32} (hM : MI σ) : Tot (m_use N σ x y) (fun _ σ' => MI σ' ∧ gI σ' 2 = gI σ 2) := by
  obtain ⟨a, hG0, hE0⟩ := mi_gv (mi_0 hM).1
  have h0 := mi_0 hM
  have hN2 : 8589934592 ≤ N := Nat.le_trans (by decide) hN
  obtain ⟨a', u, w, -, -, m3, m4, -⟩ := id hM
  unfold m_use
  refine tot_if (fun _ => tot_some h0) (fun e1 => tot_gd rfl (tot_if (fun e2 => ?_) (fun _ => tot_some h0)))
  rw [show gA σ 26 ((0 : Int32).toNatClampNeg) = nI u from m3] at e2
  have hi : ib x 82 = true := lt_n e1 e2 (by omega) (by decide)
  refine tot_if (fun _ => ?_) (fun _ => tot_if (fun _ => tot_gd hi (tot_some h0)) (fun _ => tot_if (fun _ => tot_gd hi (tot_some h0)) (fun _ => tot_if (fun _ => tot_gd hi (tot_some h0)) (fun _ => tot_some h0))))
  refine s_fr hN hG0 hE0 (fun σ' hr => ?_)
  have hm := mi_rn hM hr
  refine t_useFact hN2 (gv_rn hG0 hr) (fun v => ?_)
  unfold m_stateOf
  by_cases v0 : v = 0
  · rw [if_pos v0]; exact tot_some hm
  · rw [if_neg v0]
    by_cases v2 : v = 2
    · rw [if_pos v2]; exact tot_some hm
    · rw [if_neg v2]
      by_cases v3 : v = 3
      · rw [if_pos v3]; exact tot_some hm
      · rw [if_neg v3]; exact tot_some hm
theorem s_test {N : Nat} (hN : BB + 2 ≤ N) {σ : St} {x y : Int32} (hM : MI σ) : Tot (m_test N σ x y) (fun _ σ' => MI σ' ∧ gI σ' 2 = gI σ 2) := by
  obtain ⟨a, hG0, hE0⟩ := mi_gv (mi_0 hM).1
  have h0 := mi_0 hM
  obtain ⟨a', u, w, -, -, m3, m4, m5, m6, -⟩ := id hM
  unfold m_test
  refine tot_if (fun _ => tot_some h0) (fun e1 => tot_gd rfl (tot_if (fun e2 => ?_) (fun _ => tot_some h0)))
  rw [show gA σ 29 ((0 : Int32).toNatClampNeg) = nI w from m5] at e2
  have hi : ib x 50 = true := lt_n e1 e2 (by omega) (by decide)
  have hi2 : ib x 25 = true := lt_n e1 e2 (by omega) (by decide)
  refine tot_if (fun _ => ?_) (fun _ => tot_if (fun _ => tot_gd hi (tot_some h0)) (fun _ => tot_if (fun _ => tot_gd hi (tot_some h0)) (fun _ => tot_some h0)))
  refine s_fr hN hG0 hE0 (fun σ' hr => ?_)
  have hm := mi_rn hM hr
  exact tot_gd hi2 (tot_if (fun _ => tot_some hm) (fun _ => tot_gd hi2 (tot_if (fun _ => tot_some hm) (fun _ => tot_gd hi2 (tot_if (fun _ => tot_some hm) (fun _ => tot_some hm))))))
theorem s_count {N : Nat} (hN : BB + 2 ≤ N) {σ : St} {x : Int32} (hM : MI σ) : Tot (m_count N σ x) (fun _ σ' => MI σ' ∧ gI σ' 2 = gI σ 2) := by
  obtain ⟨a, hG0, hE0⟩ := mi_gv (mi_0 hM).1
  have hN2 : 8589934592 ≤ N := Nat.le_trans (by decide) hN
  have h83 : ∀ (σ1 : St) (p q : Int32), Rn (sI σ 0 0) σ1 → Tot (m_count_83 N σ1 x p q) (fun _ σ' => MI σ' ∧ gI σ' 2 = gI σ 2) := by
    intro σ1 p q hr
    have hm := mi_rn hM hr
    unfold m_count_83
    refine tot_if (fun _ => ?_) (fun _ => tot_if (fun _ => tot_gd rfl (tot_some hm)) (fun _ => tot_if (fun _ => tot_gd rfl (tot_some hm)) (fun _ => tot_if (fun _ => tot_some hm) (fun _ => tot_if (fun _ => tot_some hm) (fun _ => tot_if (fun _ => tot_some hm) (fun _ => tot_some hm))))))
    obtain ⟨r, er⟩ := s_routinesMany hN2 (σ := σ1)
    rw [er, bd_s]
    exact tot_some hm
  have h19 : Tot (m_count_19 N (sI σ 0 0) x 0 0) (fun _ σ' => MI σ' ∧ gI σ' 2 = gI σ 2) := by
    unfold m_count_19
    refine s_fr hN hG0 hE0 (fun σ1 hr => ?_)
    have hm := mi_rn hM hr
    obtain ⟨a', u, w, -, -, m3, m4, -⟩ := id hm.1
    have hG1 := gv_rn hG0 hr
    have h30 : ∀ (n : Nat) (p q : Int32) (k : Nat), k ≤ 40 → 40 - k < n → Tot (m_count_30 N n σ1 x p q (nI k)) (fun _ σ' => MI σ' ∧ gI σ' 2 = gI σ 2) := by
      intro n
      induction n with
      | zero => intro p q k _ h; exact absurd h (Nat.not_lt_zero _)
      | succ n ih =>
        intro p q k hk hn
        show Tot (m_count_30_b N (m_count_30 N n) σ1 x p q (nI k)) _
        unfold m_count_30_b m_count_57 m_count_75
        rw [show gA σ1 26 ((0 : Int32).toNatClampNeg) = nI u from m3, ← nI_succ k]
        refine tot_gd rfl (tot_if (fun _ => h83 σ1 p q hr) (fun h => ?_))
        have hk4 := nle (n := u) (by omega) (nI_t (by omega)) h
        refine t_useFact hN2 hG1 (fun v => tot_if (fun _ => t_useFact hN2 hG1 (fun v2 => ?_)) (fun _ => t_useFact hN2 hG1 (fun v2 => ?_)))
        · exact tot_if (fun _ => ih _ _ (k + 1) (by omega) (by omega)) (fun _ => ih _ _ (k + 1) (by omega) (by omega))
        · exact tot_if (fun _ => ih _ _ (k + 1) (by omega) (by omega)) (fun _ => ih _ _ (k + 1) (by omega) (by omega))
    exact h30 N 0 0 0 (by omega) (by omega)
  unfold m_count
  exact tot_if (fun _ => h19) (fun _ => tot_if (fun _ => h19) (fun _ => h83 _ _ _ (rn_rf _)))
theorem s_price {N : Nat} {σ : St} {x y : Int32} (hM : MI σ) : Tot (m_price N σ x y) (fun _ σ' => MI σ' ∧ gI σ' 2 = gI σ 2) := by
  have h0 := mi_0 hM
  unfold m_price
  refine tot_if (fun _ => tot_some h0) (fun e1 => tot_if (fun _ => tot_some h0) (fun e2 => tot_if (fun _ => tot_some h0) (fun _ => tot_if (fun _ => tot_gd ?_ (tot_some ?_)) (fun _ => tot_some h0))))
  · rw [Int32.lt_iff_toInt_lt] at e1 e2
    exact ib_m (by have : (0 : Int32).toInt = 0 := rfl; omega) (by have : (3 : Int32).toInt = 3 := rfl; omega) (by decide)
  · exact mi_kp hM (kq_tr (kq_sI (Or.inl rfl)) (kq_sA (by decide))) (show gI (sI σ 0 0) 64 = gI σ 64 from gI_ne (by decide))
theorem s_mended {N : Nat} {σ : St} {x : Int32} (hM : MI σ) : Tot (m_mended N σ x) (fun _ σ' => MI σ' ∧ gI σ' 2 = gI σ 2) := by
  have h0 := mi_0 hM
  have h64 := mi_64 hM
  unfold m_mended
  refine tot_if (fun _ => tot_some h0) (fun _ => tot_if (fun _ => tot_some h0) (fun _ => tot_if (fun e1 => tot_if (fun e2 => tot_gd ?_ (tot_if (fun _ => tot_if (fun _ => tot_some h0) (fun _ => tot_some h0)) (fun _ => tot_some h0))) (fun _ => tot_if (fun _ => tot_some h0) (fun _ => tot_some h0))) (fun _ => tot_some h0)))
  rw [Int32.lt_iff_toInt_lt, i32_add (by have : (2 : Int32).toInt = 2 := rfl; omega) (by have : (2 : Int32).toInt = 2 := rfl; omega)] at e1
  rw [Int32.le_iff_toInt_le] at e2
  have q2 : (2 : Int32).toInt = 2 := rfl
  have e3 : (x - 2).toInt = x.toInt - 2 := by
    rw [Int32.toInt_sub, q2]
    exact Int.bmod_eq_of_le (by omega) (by omega)
  exact ib_m (by omega) (by omega) (by decide)
