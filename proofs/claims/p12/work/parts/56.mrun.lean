/-! the reference's runs come to an end -/
theorem and31 {x : Int32} : 0 ≤ (x &&& 31).toInt ∧ (x &&& 31).toInt ≤ 31 := by
  have h : (x &&& 31).toBitVec.toNat ≤ 31 := by
    rw [Int32.toBitVec_and, BitVec.toNat_and]
    exact Nat.and_le_right
  have e : (x &&& 31).toInt = ((x &&& 31).toBitVec.toNat : Int) := BitVec.toInt_eq_toNat_of_lt (by omega)
  rw [e]
  omega
theorem n26 {f : Nat} (h : 1 ≤ f) (h2 : f ≤ 14) : (26 : Int32) * (nI f - 1) = nI (26 * (f - 1)) := by
  rcases (show f = 1 ∨ f = 2 ∨ f = 3 ∨ f = 4 ∨ f = 5 ∨ f = 6 ∨ f = 7 ∨ f = 8 ∨ f = 9 ∨ f = 10 ∨ f = 11 ∨ f = 12 ∨ f = 13 ∨ f = 14 by omega) with rfl | rfl | rfl | rfl | rfl | rfl | rfl | rfl | rfl | rfl | rfl | rfl | rfl | rfl <;> decide
theorem n26' {f : Nat} (h2 : f ≤ 14) : (26 : Int32) * nI f = nI (26 * f) := by
  rcases (show f = 0 ∨ f = 1 ∨ f = 2 ∨ f = 3 ∨ f = 4 ∨ f = 5 ∨ f = 6 ∨ f = 7 ∨ f = 8 ∨ f = 9 ∨ f = 10 ∨ f = 11 ∨ f = 12 ∨ f = 13 ∨ f = 14 by omega) with rfl | rfl | rfl | rfl | rfl | rfl | rfl | rfl | rfl | rfl | rfl | rfl | rfl | rfl | rfl <;> decide
theorem nI_mul {a b : Nat} : nI a * nI b = nI (a * b) := by
  unfold nI
  rw [← Int32.ofNat_mul]
/-- a thing or nothing -/
def th (t : Nat) (x : Int32) : Prop := 0 ≤ x.toInt ∧ x.toInt ≤ t
theorem th_up {t t2 : Nat} {x : Int32} (h : th t x) (ht : t ≤ t2) : th t2 x := ⟨h.1, by have := h.2; omega⟩
/-- a run under way -/
def RI (σ0 : St) (a t f s : Nat) (σ : St) : Prop := Kq σ0 σ ∧ gI σ 64 = gI σ0 64 ∧ (gI σ 47 = nI t ∧ t ≤ 300) ∧ (gI σ 50 = nI f ∧ f ≤ 13) ∧ th t (gI σ 51) ∧ (gI σ 52 = nI s ∧ s ≤ 400) ∧ (∀ i, i < 26 * f → th t (gA σ 48 i)) ∧ (∀ i, 2 ≤ i → i < 2 * t + 2 → th t (gA σ 46 i)) ∧ ∀ i, 1 ≤ i → i < f → ∃ p : Nat, gA σ 49 i = nI p ∧ p < a ∧ 1 ≤ p ∧ gA σ0 12 (p - 1) = 6
theorem ri_sI {σ0 σ : St} {a t f s k : Nat} {v : Int32} (h : RI σ0 a t f s σ) (hk : 53 ≤ k ∧ k ≠ 64) : RI σ0 a t f s (sI σ k v) := by
  obtain ⟨h1, h2, h3, h4, h5, h6, h7, h8, h9⟩ := h
  have g : ∀ j, j ≠ k → gI (sI σ k v) j = gI σ j := fun j hj => gI_ne (fun e => hj e.symm)
  exact ⟨kq_tr h1 (kq_sI (Or.inr (by omega))), (g 64 (by omega)).trans h2, by rw [g 47 (by omega)]; exact h3, by rw [g 50 (by omega)]; exact h4, by rw [g 51 (by omega)]; exact h5, by rw [g 52 (by omega)]; exact h6, h7, h8, h9⟩
theorem ri_acc {σ0 σ : St} {a t f s : Nat} {v : Int32} (h : RI σ0 a t f s σ) (hv : th t v) : RI σ0 a t f s (sI σ 51 v) := by
  obtain ⟨h1, h2, h3, h4, h5, h6, h7, h8, h9⟩ := h
  have g : ∀ j, j ≠ 51 → gI (sI σ 51 v) j = gI σ j := fun j hj => gI_ne (fun e => hj e.symm)
  exact ⟨kq_tr h1 (kq_sI (Or.inr (by omega))), (g 64 (by omega)).trans h2, by rw [g 47 (by omega)]; exact h3, by rw [g 50 (by omega)]; exact h4, by rw [gI_eq]; exact hv, by rw [g 52 (by omega)]; exact h6, h7, h8, h9⟩
theorem ri_name {σ0 σ : St} {a t f s i : Nat} {v : Int32} (h : RI σ0 a t f s σ) (hv : th t v) : RI σ0 a t f s (sA σ 48 i v) := by
  obtain ⟨h1, h2, h3, h4, h5, h6, h7, h8, h9⟩ := h
  refine ⟨kq_tr h1 (kq_sA (by decide)), h2, h3, h4, h5, h6, fun k hk => ?_, fun k k1 k2 => ?_, fun k k1 k2 => ?_⟩
  · rw [gA_sA, if_pos rfl]
    by_cases e : k = i
    · subst e; rw [upd_eq]; exact hv
    · rw [upd_ne e]; exact h7 k hk
  · rw [gA_sA, if_neg (by decide)]; exact h8 k k1 k2
  · rw [gA_sA, if_neg (by decide)]; exact h9 k k1 k2
theorem ri_field {σ0 σ : St} {a t f s i : Nat} {v : Int32} (h : RI σ0 a t f s σ) (hv : th t v) : RI σ0 a t f s (sA σ 46 i v) := by
  obtain ⟨h1, h2, h3, h4, h5, h6, h7, h8, h9⟩ := h
  refine ⟨kq_tr h1 (kq_sA (by decide)), h2, h3, h4, h5, h6, fun k hk => ?_, fun k k1 k2 => ?_, fun k k1 k2 => ?_⟩
  · rw [gA_sA, if_neg (by decide)]; exact h7 k hk
  · rw [gA_sA, if_pos rfl]
    by_cases e : k = i
    · subst e; rw [upd_eq]; exact hv
    · rw [upd_ne e]; exact h8 k k1 k2
  · rw [gA_sA, if_neg (by decide)]; exact h9 k k1 k2
theorem th_n {t k : Nat} (h : k ≤ t) (ht : t ≤ 300) : th t (nI k) := by
  unfold th
  rw [nI_t (by omega)]
  omega
theorem n2 {r k : Nat} : (2 : Int32) * nI r + nI k = nI (2 * r + k) := by
  rw [show (2 : Int32) = nI 2 from by decide, nI_mul, nI_add]
theorem s_makes {N : Nat} {σ0 σ : St} {a t f s : Nat} {x y : Int32} (h : RI σ0 a t f s σ) (hx : x = -1 ∨ th t x) (hy : y = -1 ∨ th t y) : Tot (m_makes N σ x y) (fun r σ' => ∃ t', RI σ0 a t' f s σ' ∧ th t' r) := by
  obtain ⟨h1, h2, ⟨h3, h3'⟩, h4, h5, h6, h7, h8, h9⟩ := id h
  have h50 : ∀ v : Int32, th (t + 1) v → ¬ t = 300 → Tot (m_makes_50 N (sI σ 47 (nI (t + 1))) y (nI (2 * (t + 1))) v) (fun r σ' => ∃ t', RI σ0 a t' f s σ' ∧ th t' r) := by
    intro v hv ht
    have g : ∀ j, j ≠ 47 → gI (sI σ 47 (nI (t + 1))) j = gI σ j := fun j hj => gI_ne (fun e => hj e.symm)
    have e47 : gI (sI σ 47 (nI (t + 1))) 47 = nI (t + 1) := gI_eq
    have key : ∀ w : Int32, th (t + 1) w → RI σ0 a (t + 1) f s (sA (sA (sI σ 47 (nI (t + 1))) 46 (2 * (t + 1)) v) 46 (2 * (t + 1) + 1) w) := by
      intro w hw
      refine ⟨kq_tr h1 (kq_tr (kq_sI (k := 47) (Or.inr (by decide))) (kq_tr (kq_sA (by decide)) (kq_sA (by decide)))), (g 64 (by decide)).trans h2, ⟨e47, by omega⟩, by rw [show gI (sA (sA (sI σ 47 (nI (t + 1))) 46 (2 * (t + 1)) v) 46 (2 * (t + 1) + 1) w) 50 = gI σ 50 from g 50 (by decide)]; exact h4, by rw [show gI (sA (sA (sI σ 47 (nI (t + 1))) 46 (2 * (t + 1)) v) 46 (2 * (t + 1) + 1) w) 51 = gI σ 51 from g 51 (by decide)]; exact th_up h5 (by omega), by rw [show gI (sA (sA (sI σ 47 (nI (t + 1))) 46 (2 * (t + 1)) v) 46 (2 * (t + 1) + 1) w) 52 = gI σ 52 from g 52 (by decide)]; exact h6, fun k hk => ?_, fun k k1 k2 => ?_, fun k k1 k2 => ?_⟩
      · rw [gA_sA, if_neg (by decide), gA_sA, if_neg (by decide)]
        exact th_up (h7 k hk) (by omega)
      · rw [gA_sA, if_pos rfl]
        by_cases e : k = 2 * (t + 1) + 1
        · rw [e, upd_eq]; exact hw
        · rw [upd_ne e, gA_sA, if_pos rfl]
          by_cases e2 : k = 2 * (t + 1)
          · rw [e2, upd_eq]; exact hv
          · rw [upd_ne e2]
            exact th_up (h8 k k1 (by omega)) (by omega)
      · rw [gA_sA, if_neg (by decide), gA_sA, if_neg (by decide)]
        exact h9 k k1 k2
    unfold m_makes_50
    rw [e47, show (1 : Int32) = nI 1 from by decide, n2, ibk (k := 2 * (t + 1)) (n := 602) (by omega) (by decide), ibk (k := 2 * (t + 1) + 1) (n := 602) (by omega) (by decide), nI_clamp (n := 2 * (t + 1)) (by omega), nI_clamp (n := 2 * (t + 1) + 1) (by omega)]
    have htt : th (t + 1) (nI (t + 1)) := th_n (by omega) (by omega)
    refine tot_gd rfl (tot_if (fun _ => tot_gd rfl (tot_some ⟨t + 1, key _ htt, htt⟩)) (fun hy1 => tot_gd rfl (tot_some ⟨t + 1, key _ (th_up (hy.elim (fun e => absurd e hy1) id) (by omega)), htt⟩)))
  unfold m_makes
  rw [h3]
  refine tot_if (fun _ => tot_some ⟨t, ri_sI h (by decide), by unfold th; rw [show (0 : Int32).toInt = 0 from rfl]; omega⟩) (fun hne => ?_)
  have ht : ¬ t = 300 := fun e => hne (by rw [e]; decide)
  rw [← nI_succ t, show (2 : Int32) * nI (t + 1) = nI (2 * (t + 1)) from by rw [show (2 : Int32) = nI 2 from by decide, nI_mul]]
  exact tot_if (fun _ => h50 _ (th_n (by omega) (by omega)) ht) (fun hx1 => h50 _ (th_up (hx.elim (fun e => absurd e hx1) id) (by omega)) ht)
theorem s_chooses {N : Nat} {σ0 σ : St} {a t f s : Nat} {x : Int32} (h : RI σ0 a t f s σ) : Tot (m_chooses N σ x) (fun r σ' => RI σ0 a t f s σ') := by
  unfold m_chooses m_chooses_20
  exact tot_if (fun _ => tot_gd (by decide) (tot_some (ri_sI h (by decide)))) (fun _ => tot_gd (by decide) (tot_some (ri_sI h (by decide))))
theorem e_nameOf {N : Nat} {σ0 σ : St} {a t f s : Nat} {x : Int32} (h : RI σ0 a t f s σ) (hf : 1 ≤ f) (h0 : 0 ≤ x.toInt) (h1 : x.toInt ≤ 25) : ∃ v, m_nameOf N σ x = some (v, σ) ∧ th t v := by
  obtain ⟨-, -, -, ⟨h4, h4'⟩, -, -, h7, -, -⟩ := id h
  obtain ⟨l, l1, rfl⟩ := nI_upto h0 (n := 25) h1 (by decide)
  unfold m_nameOf
  rw [h4, n26 hf (by omega), nI_add, ibk (n := 364) (by omega) (by decide), nI_clamp (by omega)]
  exact ⟨_, rfl, h7 _ (by omega)⟩
theorem t_nameOf {ρ : Type} {N : Nat} {σ0 σ : St} {a t f s : Nat} {x : Int32} {K : Int32 → St → Option (ρ × St)} {Q : ρ → St → Prop} (h : RI σ0 a t f s σ) (hf : 1 ≤ f) (h0 : 0 ≤ x.toInt ∧ x.toInt ≤ 25) (hK : ∀ v, th t v → Tot (K v σ) Q) : Tot (bd (m_nameOf N σ x) K) Q := by
  obtain ⟨v, e, hv⟩ := e_nameOf (N := N) h hf h0.1 h0.2
  rw [e, bd_s]
  exact hK v hv
/-- a new frame -/
theorem s_frame {N : Nat} (hN : 8589934592 ≤ N) {σ0 σ : St} {a t f s : Nat} {x : Int32} (h : RI σ0 a t f s σ) (hf : f ≤ 12) (hx : f = 0 ∨ ∃ p : Nat, x = nI p ∧ p < a ∧ 1 ≤ p ∧ gA σ0 12 (p - 1) = 6) : Tot (m_frame N σ x) (fun _ σ' => RI σ0 a t (f + 1) s σ' ∧ gI σ' 55 = gI σ 55) := by
  have h2 : ∀ (n : Nat) (σ1 : St) (k : Nat), RI σ0 a t f s σ1 → gI σ1 55 = gI σ 55 → (∀ i, i < k → th t (gA σ1 48 (26 * f + i))) → k ≤ 26 → 26 - k < n → Tot (m_frame_2 N n σ1 x (nI k)) (fun _ σ' => RI σ0 a t (f + 1) s σ' ∧ gI σ' 55 = gI σ 55) := by
    intro n
    induction n with
    | zero => intro σ1 k _ _ _ _ h; exact absurd h (Nat.not_lt_zero _)
    | succ n ih =>
      intro σ1 k hR h55 hz hk hn
      obtain ⟨r1, r2, r3, ⟨r4, r4'⟩, r5, r6, r7, r8, r9⟩ := id hR
      show Tot (m_frame_2_b N (m_frame_2 N n) σ1 x (nI k)) _
      unfold m_frame_2_b m_frame_29
      rw [r4, n26' (by omega), nI_add, ← nI_succ k]
      refine tot_if (fun hl => ?_) (fun hl => ?_)
      · have hk26 : k = 26 := by
          rw [Int32.le_iff_toInt_le, nI_t (by omega), show (26 : Int32).toInt = 26 from rfl] at hl
          omega
        subst hk26
        rw [ibk (k := f) (n := 14) (by omega) (by decide), nI_clamp (n := f) (by omega), ← nI_succ f]
        refine tot_gd rfl (tot_some ⟨?_, ?_⟩)
        · have g : ∀ j, j ≠ 50 → gI (sI (sA σ1 49 f x) 50 (nI (f + 1))) j = gI σ1 j := fun j hj => gI_ne (fun e => hj e.symm)
          refine ⟨kq_tr r1 (kq_tr (kq_sA (by decide)) (kq_sI (Or.inr (by decide)))), (g 64 (by decide)).trans r2, by rw [g 47 (by decide)]; exact r3, ⟨gI_eq, by omega⟩, by rw [g 51 (by decide)]; exact r5, by rw [g 52 (by decide)]; exact r6, fun i hi => ?_, fun i i1 i2 => ?_, fun i i1 i2 => ?_⟩
          · show th t (gA (sA σ1 49 f x) 48 i)
            rw [gA_sA, if_neg (by decide)]
            rcases Nat.lt_or_ge i (26 * f) with q | q
            · exact r7 i q
            · have := hz (i - 26 * f) (by omega)
              rw [show 26 * f + (i - 26 * f) = i from by omega] at this
              exact this
          · show th t (gA (sA σ1 49 f x) 46 i)
            rw [gA_sA, if_neg (by decide)]
            exact r8 i i1 i2
          · show ∃ p : Nat, gA (sA σ1 49 f x) 49 i = nI p ∧ p < a ∧ 1 ≤ p ∧ gA σ0 12 (p - 1) = 6
            rw [gA_sA, if_pos rfl]
            by_cases e : i = f
            · subst e
              rw [upd_eq]
              exact hx.elim (fun e => absurd e (by omega)) id
            · rw [upd_ne e]
              exact r9 i i1 (by omega)
        · exact (gI_ne (by decide)).trans h55
      · have hk4 := nle (n := 26) (by omega) (by decide) hl
        rw [ibk (k := 26 * f + k) (n := 364) (by omega) (by decide), nI_clamp (n := 26 * f + k) (by omega)]
        have h0 : th t 0 := by unfold th; rw [show (0 : Int32).toInt = 0 from rfl]; omega
        refine tot_gd rfl (ih _ (k + 1) (ri_name hR h0) h55 (fun i hi => ?_) (by omega) (by omega))
        rw [gA_sA, if_pos rfl]
        by_cases e : 26 * f + i = 26 * f + k
        · rw [e, upd_eq]; exact h0
        · rw [upd_ne e]; exact hz i (by omega)
  unfold m_frame
  exact h2 N σ 0 h rfl (fun i hi => absurd hi (Nat.not_lt_zero _)) (by omega) (by omega)
