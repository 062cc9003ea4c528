/-! mend keeps the reference's invariant -/
theorem gv_kq {σ σ' : St} {a : Nat} (h : GV σ a) (hr : Kq σ σ') : GV σ' a := by
  obtain ⟨h1, h2, h3⟩ := h
  refine ⟨(hr.2 18 (by decide) (by decide)).trans h1, h2, ?_⟩
  unfold BV at h3 ⊢
  rw [hr.1 12 (by decide), hr.1 13 (by decide), hr.1 14 (by decide), hr.1 15 (by decide), hr.1 19 (by decide), hr.1 20 (by decide), hr.1 21 (by decide)]
  exact h3
theorem en_kq {σ σ' : St} (h : En σ) (hr : Kq σ σ') : En σ' := by
  unfold En at h ⊢
  rw [hr.2 39 (by decide) (by decide), hr.1 19 (by decide)]
  exact h
def Md (σ0 : St) (c : Nat) (σ : St) : Prop := Kq σ0 σ ∧ gI σ 63 = nI c ∧ c ≤ 10 ∧ ∀ i, i < c → 0 ≤ (gA σ 62 i).toInt ∧ (gA σ 62 i).toInt ≤ 41
theorem md_rn {σ0 σ σ' : St} {c : Nat} (h : Md σ0 c σ) (hr : Rn σ σ') : Md σ0 c σ' := by
  obtain ⟨h1, h2, h3, h4⟩ := h
  exact ⟨kq_tr h1 (kq_rn hr), (hr.2 63 (by decide)).trans h2, h3, by rw [hr.1 62 (by decide) (by decide) (by decide)]; exact h4⟩
theorem md_sI {σ0 σ : St} {c k : Nat} {v : Int32} (h : Md σ0 c σ) (hk : 63 < k) : Md σ0 c (sI σ k v) := by
  obtain ⟨h1, h2, h3, h4⟩ := h
  exact ⟨kq_tr h1 (kq_sI (Or.inr (by omega))), (gI_ne (by omega)).trans h2, h3, h4⟩
theorem md_sA {σ0 σ : St} {c j i : Nat} {v : Int32} (h : Md σ0 c σ) (hk : 62 < j) : Md σ0 c (sA σ j i v) := by
  obtain ⟨h1, h2, h3, h4⟩ := h
  exact ⟨kq_tr h1 (kq_sA (by omega)), h2, h3, by rw [gA_sA, if_neg (by omega)]; exact h4⟩
theorem e_guards {N : Nat} (hN : 8589934592 ≤ N) {σ : St} {a u : Nat} (hG : GV σ a) (h26 : gA σ 26 0 = nI u) (hu : u ≤ 40) : ∃ v, m_guards N σ = some (v, σ) := by
  have h4 : ∀ (n : Nat) (x : Int32) (k : Nat), k ≤ 40 → 40 - k < n → Tot (m_guards_4 N n σ x (nI k)) (fun _ σ' => σ' = σ) := by
    intro n
    induction n with
    | zero => intro x k _ h; exact absurd h (Nat.not_lt_zero _)
    | succ n ih =>
      intro x k hk hn
      show Tot (m_guards_4_b N (m_guards_4 N n) σ x (nI k)) _
      unfold m_guards_4_b m_guards_30
      rw [show gA σ 26 ((0 : Int32).toNatClampNeg) = nI u from h26, ← nI_succ k]
      refine tot_gd rfl (tot_if (fun _ => tot_some rfl) (fun h => ?_))
      have hk4 := nle (n := u) (by omega) (nI_t (by omega)) h
      exact t_useFact hN hG (fun v => tot_if (fun _ => ih _ (k + 1) (by omega) (by omega)) (fun _ => ih _ (k + 1) (by omega) (by omega)))
  unfold m_guards
  obtain ⟨r, σ', e, h⟩ := h4 N 0 0 (by omega) (by omega)
  subst h
  exact ⟨r, e⟩
theorem t_guards {ρ : Type} {N : Nat} (hN : 8589934592 ≤ N) {σ0 σ : St} (hM : MI σ0) (hk : Kq σ0 σ) {K : Int32 → St → Option (ρ × St)} {Q : ρ → St → Prop} (h : ∀ v, Tot (K v σ) Q) : Tot (bd (m_guards N σ) K) Q := by
  obtain ⟨a, u, w, m1, m2, m3, m4, m5, m6, m7, -⟩ := hM
  obtain ⟨v, e⟩ := e_guards hN (gv_kq ⟨m1, m2, m7⟩ hk) (u := u) (by rw [hk.1 26 (by decide)]; exact m3) m4
  rw [e, bd_s]
  exact h v
theorem shl_c {c : Nat} (h : c ≤ 10) : (1 : Int32) <<< (nI c &&& 31) = nI (2 ^ c) := by
  rcases (show c = 0 ∨ c = 1 ∨ c = 2 ∨ c = 3 ∨ c = 4 ∨ c = 5 ∨ c = 6 ∨ c = 7 ∨ c = 8 ∨ c = 9 ∨ c = 10 by omega) with rfl | rfl | rfl | rfl | rfl | rfl | rfl | rfl | rfl | rfl | rfl <;> decide
theorem s_mend_260 {N : Nat} {σ0 : St} (hM : MI σ0) {c : Nat} {x y : Int32} : ∀ (n : Nat) (σ : St) (k h : Nat), Md σ0 c σ → gI σ 64 = nI h → h ≤ k → k ≤ c → c - k < n → Tot (m_mend_260 N n σ x y (nI k)) (fun _ σ' => MI σ' ∧ gI σ' 2 = gI σ0 2) := by
  intro n
  induction n with
  | zero => intro σ k h _ _ _ _ h; exact absurd h (Nat.not_lt_zero _)
  | succ n ih =>
    intro σ k h hD h64 hh hk hn
    obtain ⟨d1, d2, d3, d4⟩ := id hD
    show Tot (m_mend_260_b N (m_mend_260 N n) σ x y (nI k)) _
    unfold m_mend_260_b m_mend_304
    rw [d2, h64, ← nI_succ k]
    refine tot_if (fun _ => tot_some ?_) (fun hl => ?_)
    · have hkq : Kq σ0 (sI σ 67 1) := kq_tr d1 (kq_sI (Or.inr (by decide)))
      refine ⟨mi_kq hM hkq ?_, hkq.2 2 (by decide) (by decide)⟩
      rw [show gI (sI σ 67 1) 64 = nI h from (gI_ne (by decide)).trans h64, nI_t (by omega)]
      omega
    · have hk4 := nle (n := c) (by omega) (nI_t (by omega)) hl
      refine tot_if (fun _ => ih σ (k + 1) h hD h64 (by omega) (by omega) (by omega)) (fun _ => ?_)
      rw [ibk (k := k) (n := 10) (by omega) (by decide), ibk (k := h) (n := 10) (by omega) (by decide)]
      refine tot_gd rfl (tot_gd rfl (ih _ (k + 1) (h + 1) (md_sI (md_sA hD (by decide)) (by decide)) ?_ (by omega) (by omega) (by omega)))
      rw [nI_succ h]
      exact gI_eq
theorem s_mend_126 {N : Nat} (hN : BB + 2 ≤ N) {σ0 : St} (hM : MI σ0) {c : Nat} {x3 : Int32} {Q : Int32 → St → Prop} {rec : St → Int32 → Int32 → Int32 → Option (Int32 × St)} (hrec : ∀ σ' x y, Md σ0 c σ' → Tot (rec σ' x y (x3 + 1)) Q) {x1 x2 : Int32} : ∀ (n : Nat) (σ : St) (x4 : Int32) (k : Nat), Md σ0 c σ → k ≤ c → c - k < n → Tot (m_mend_126 N rec n σ x1 x2 x3 x4 (nI k)) Q := by
  have hN2 : 8589934592 ≤ N := Nat.le_trans (by decide) hN
  obtain ⟨a, hG, hE⟩ := mi_gv hM
  have h234 : ∀ (σ : St) (x4 : Int32), Md σ0 c σ → Tot (m_mend_234 N rec σ x3 x4) Q := by
    intro σ x4 hD
    unfold m_mend_234 m_mend_247
    exact t_guards hN2 hM hD.1 (fun v => hrec _ _ _ (md_sI hD (by decide)))
  have h200 : ∀ (σ : St) (x4 : Int32), Md σ0 c σ → Tot (m_mend_200 N rec σ x1 x2 x3 x4) Q := by
    intro σ x4 hD
    unfold m_mend_200 m_mend_247
    refine tot_bd (s_reckons hN (gv_kq hG hD.1) (en_kq hE hD.1)) (fun _ σ2 h2 => tot_gd rfl ?_)
    have hD2 := md_rn hD h2
    exact t_guards hN2 hM hD2.1 (fun v => tot_if (fun _ => h234 _ _ hD2) (fun _ => tot_if (fun _ => h234 _ _ hD2) (fun _ => hrec _ _ _ hD2)))
  intro n
  induction n with
  | zero => intro σ x4 k _ _ h; exact absurd h (Nat.not_lt_zero _)
  | succ n ih =>
    intro σ x4 k hD hk hn
    obtain ⟨d1, d2, d3, d4⟩ := id hD
    show Tot (m_mend_126_b N rec (m_mend_126 N rec n) σ x1 x2 x3 x4 (nI k)) _
    unfold m_mend_126_b m_mend_180 m_mend_186 m_mend_247
    rw [d2, ← nI_succ k]
    refine tot_if (fun _ => tot_if (fun _ => h200 _ _ hD) (fun _ => tot_if (fun _ => h200 _ _ hD) (fun _ => hrec _ _ _ hD))) (fun hl => ?_)
    have hk4 := nle (n := c) (by omega) (nI_t (by omega)) hl
    refine tot_if (fun _ => ih σ x4 (k + 1) hD (by omega) (by omega)) (fun _ => ?_)
    rw [ibk (k := k) (n := 10) (by omega) (by decide), nI_clamp (n := k) (by omega)]
    obtain ⟨q1, q2⟩ := d4 k hk4
    refine tot_gd rfl (tot_gd (ib_m q1 (by omega) (by decide)) (tot_gd rfl ?_))
    have hD2 : ∀ v, Md σ0 c (sA σ 43 ((gA σ 62 k).toNatClampNeg) v) := fun v => md_rn hD (rn_sA (Or.inr (Or.inl rfl)))
    unfold m_kindOf
    by_cases v0 : (32 : Int32) ≤ gA σ 62 k
    · rw [if_pos v0]
      by_cases v1 : (40 : Int32) ≤ gA σ 62 k
      · rw [if_pos v1]; exact tot_gd (by decide) (ih _ _ (k + 1) (hD2 _) (by omega) (by omega))
      · rw [if_neg v1]; exact tot_gd (by decide) (ih _ _ (k + 1) (hD2 _) (by omega) (by omega))
    · rw [if_neg v0]; exact tot_gd (by decide) (ih _ _ (k + 1) (hD2 _) (by omega) (by omega))
theorem p2_le {c : Nat} (h : c ≤ 10) : 2 ^ c ≤ 1024 := by
  have := Nat.pow_le_pow_right (n := 2) (by decide) h
  omega
theorem s_mend_106 {N : Nat} (hN : BB + 2 ≤ N) {σ0 : St} (hM : MI σ0) {c : Nat} (hc : c ≤ 10) : ∀ (n : Nat) (σ : St) (x1 x2 : Int32) (k : Nat), Md σ0 c σ → k ≤ 2 ^ c → 2 ^ c - k < n → Tot (m_mend_106 N n σ x1 x2 (nI k)) (fun _ σ' => MI σ' ∧ gI σ' 2 = gI σ0 2) := by
  have hN2 : 8589934592 ≤ N := Nat.le_trans (by decide) hN
  have hp := p2_le hc
  intro n
  induction n with
  | zero => intro σ x1 x2 k _ _ h; exact absurd h (Nat.not_lt_zero _)
  | succ n ih =>
    intro σ x1 x2 k hD hk hn
    obtain ⟨d1, d2, d3, d4⟩ := id hD
    show Tot (m_mend_106_b N (m_mend_106 N n) σ x1 x2 (nI k)) _
    unfold m_mend_106_b m_mend_253
    rw [d2, shl_c hc]
    refine tot_if (fun _ => s_mend_260 hM N _ 0 0 (md_sI hD (by decide)) gI_eq (by omega) (by omega) (by omega)) (fun hl => ?_)
    have hk4 := nle (n := 2 ^ c) (by omega) (nI_t (by omega)) hl
    refine tot_bd (s_frees hN2) (fun _ σ2 h2 => s_mend_126 hN hM (fun σ' x y hD' => ?_) N σ2 0 0 (md_rn hD h2) (by omega) (by omega))
    rw [← nI_succ k]
    exact ih σ' x y (k + 1) hD' (by omega) (by omega)
theorem s_mend {N : Nat} (hN : BB + 2 ≤ N) {σ : St} (hM : MI σ) : Tot (m_mend N σ) (fun _ σ' => MI σ' ∧ gI σ' 2 = gI σ 2) := by
  have hN2 : 8589934592 ≤ N := Nat.le_trans (by decide) hN
  obtain ⟨a, hG0, hE0⟩ := mi_gv (mi_0 hM).1
  have h100 : ∀ (σ1 : St) (c : Nat), Md σ c σ1 → Tot (m_mend_100 N σ1) (fun _ σ' => MI σ' ∧ gI σ' 2 = gI σ 2) := by
    intro σ1 c hD
    have hp := p2_le hD.2.2.1
    unfold m_mend_100
    exact s_mend_106 hN hM hD.2.2.1 N σ1 _ _ 0 hD (Nat.zero_le _) (by omega)
  have h30 : ∀ (n : Nat) (σ1 : St) (c k : Nat), Md σ c σ1 → k ≤ 42 → 42 - k < n → Tot (m_mend_30 N n σ1 (nI k)) (fun _ σ' => MI σ' ∧ gI σ' 2 = gI σ 2) := by
    intro n
    induction n with
    | zero => intro σ1 c k _ _ h; exact absurd h (Nat.not_lt_zero _)
    | succ n ih =>
      intro σ1 c k hD hk hn
      obtain ⟨d1, d2, d3, d4⟩ := id hD
      show Tot (m_mend_30_b N (m_mend_30 N n) σ1 (nI k)) _
      unfold m_mend_30_b m_mend_74 m_mend_94
      rw [d2, ← nI_succ k]
      refine tot_if (fun _ => h100 σ1 c hD) (fun hl => tot_if (fun _ => h100 σ1 c hD) (fun hl2 => ?_))
      have hk4 := nle (n := 42) (by omega) (by decide) hl
      have hc4 := nle (n := 10) (by omega) (by decide) hl2
      have e1 := ih σ1 c (k + 1) hD (by omega) (by omega)
      have e2 : Tot (gd (ib (nI c) 10) (m_mend_30 N n (sI (sA σ1 62 ((nI c).toNatClampNeg) (nI k)) 63 (nI c + 1)) (nI (k + 1)))) (fun _ σ' => MI σ' ∧ gI σ' 2 = gI σ 2) := by
        refine tot_gd (ibk (by omega) (by decide)) (ih _ (c + 1) (k + 1) ⟨kq_tr (kq_tr d1 (kq_sA (by decide))) (kq_sI (Or.inr (by decide))), by rw [nI_succ c]; exact gI_eq, by omega, fun i hi => ?_⟩ (by omega) (by omega))
        show 0 ≤ (gA (sA σ1 62 ((nI c).toNatClampNeg) (nI k)) 62 i).toInt ∧ (gA (sA σ1 62 ((nI c).toNatClampNeg) (nI k)) 62 i).toInt ≤ 41
        rw [gA_sA, if_pos rfl, nI_clamp (n := c) (by omega)]
        by_cases hic : i = c
        · subst hic
          rw [upd_eq, nI_t (by omega)]
          omega
        · rw [upd_ne hic]
          exact d4 i (by omega)
      refine tot_gd (ibk (by omega) (by decide)) (tot_if (fun _ => tot_if (fun _ => e2) (fun _ => tot_if (fun _ => e1) (fun _ => e2))) (fun _ => e1))
  unfold m_mend
  refine tot_if (fun _ => tot_some (mi_0 hM)) (fun _ => s_fr hN hG0 hE0 (fun σ' hr => ?_))
  exact h30 N (sI σ' 63 0) 0 0 ⟨kq_tr (kq_tr (kq_sI (Or.inl rfl)) (kq_rn hr)) (kq_sI (Or.inr (by decide))), gI_eq, by omega, fun i hi => absurd hi (Nat.not_lt_zero _)⟩ (by omega) (by omega)
