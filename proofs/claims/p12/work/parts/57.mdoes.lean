/-! one act of a run, and runs -/
def bon (ac : Nat → Int32) (p : Nat) : Nat := if ac p = 6 then 10000 else 0
def ms (ac : Nat → Int32) (s f p : Nat) : Nat := (400 - s) * 100000 + f * 2000 + (1300 - p) + bon ac p
theorem bon_0 {ac : Nat → Int32} {p : Nat} (h : ¬ ac p = 6) : bon ac p = 0 := by unfold bon; rw [if_neg h]
theorem bon_6 {ac : Nat → Int32} {p : Nat} (h : ac p = 6) : bon ac p = 10000 := by unfold bon; rw [if_pos h]
theorem bon_le {ac : Nat → Int32} {p : Nat} : bon ac p ≤ 10000 := by unfold bon; split <;> omega
def DP (σ0 : St) (a m : Nat) (r : Int32) (σ : St) : Prop := Kq σ0 σ ∧ gI σ 64 = gI σ0 64 ∧ (gI σ 55 = -1 → ∃ t f s p : Nat, r = nI p ∧ p < a ∧ 1 ≤ f ∧ RI σ0 a t f s σ ∧ ms (gA σ0 12) s f p < m)
/-- no CALL behind what is no STEP -/
theorem bv_nc {A : Ar} {a n : Nat} (h : BV A a) (hn : n < a) (h0 : n = 0 ∨ ¬ A 12 (n - 1) = 0) : bon (A 12) n = 0 := by
  apply bon_0
  intro e
  obtain ⟨-, -, -, -, p5, -⟩ := h.1 n hn
  obtain ⟨-, -, -, -, q1, q2⟩ := p5 e
  rcases h0 with z | z
  · omega
  · exact z q2
theorem bv_nx {A : Ar} {a p : Nat} (h : BV A a) (hp : p < a) (h9 : ¬ A 12 p = 9) : p + 1 < a := by
  rcases h.2.1 with z | z
  · omega
  · rcases (show p + 1 < a ∨ p = a - 1 by omega) with q | q
    · exact q
    · rw [q] at h9
      exact absurd z.1 h9
theorem s_step {N : Nat} {σ0 σ : St} {a t f s : Nat} (h : RI σ0 a t f s σ) : Tot (m_step N σ) (fun _ σ' => (gI σ' 55 = 3 ∧ RI σ0 a t f s σ') ∨ (s < 400 ∧ RI σ0 a t f (s + 1) σ')) := by
  obtain ⟨h1, h2, h3, h4, h5, ⟨h6, h6'⟩, h7, h8, h9⟩ := id h
  unfold m_step
  rw [h6]
  refine tot_if (fun _ => tot_some (Or.inl ⟨gI_eq, ri_sI h (by decide)⟩)) (fun hne => tot_some (Or.inr ?_))
  have hs : ¬ s = 400 := fun e => hne (by rw [e]; decide)
  have g : ∀ j, j ≠ 52 → gI (sI σ 52 (nI s + 1)) j = gI σ j := fun j hj => gI_ne (fun e => hj e.symm)
  exact ⟨by omega, kq_tr h1 (kq_sI (Or.inr (by decide))), (g 64 (by decide)).trans h2, by rw [g 47 (by decide)]; exact h3, by rw [g 50 (by decide)]; exact h4, by rw [g 51 (by decide)]; exact h5, ⟨by rw [nI_succ s]; exact gI_eq, by omega⟩, h7, h8, h9⟩
theorem s_enter {N : Nat} (hN : 8589934592 ≤ N) {σ0 σ : St} {a t f s p : Nat} (hV : BV (gA σ0) a) (ha : a ≤ 1299) (hR : RI σ0 a t f s σ) (hf : 1 ≤ f) (hp : p < a) (h6 : gA σ0 12 p = 6) : Tot (m_enter N σ (nI p)) (fun r σ' => DP σ0 a (ms (gA σ0 12) s f p) r σ') := by
  obtain ⟨h1, h2, h3, ⟨h4, h4'⟩, h5, h6', h7, h8, h9⟩ := id hR
  obtain ⟨l, l1, l2, l3, l4⟩ := hV.2.2.2 p hp h6
  obtain ⟨⟨t0, b1, b2, b3⟩, b4, b5, b6⟩ := bv_rt hV l1 l3
  have hi : ib (nI p) 2600 = true := ibk (by omega) (by decide)
  have hcl : (nI p).toNatClampNeg = p := nI_clamp (by omega)
  have hp1 := bv_nx hV hp (by rw [h6]; decide)
  unfold m_enter
  rw [h4, hi, hcl, h1.1 13 (by decide), l2, ← nI_succ p, n26 hf (by omega)]
  refine tot_if (fun _ => tot_some ⟨kq_tr h1 (kq_sI (Or.inr (by decide))), (gI_ne (by decide)).trans h2, fun e => ?_⟩) (fun hne => tot_gd rfl ?_)
  · rw [gI_eq] at e
    exact absurd e (by decide)
  · have hf12 : f ≤ 12 := by
      have : ¬ f = 13 := fun e => hne (by rw [e]; decide)
      omega
    refine tot_bd (s_frame hN hR hf12 (Or.inr ⟨p + 1, rfl, hp1, by omega, h6⟩)) (fun _ σ2 ⟨hR2, _⟩ => ?_)
    have h43 : ∀ (n : Nat) (σ1 : St) (k : Nat), RI σ0 a t (f + 1) s σ1 → k ≤ 4 → 4 - k < n → Tot (m_enter_43 N n σ1 (nI p) (nI (26 * (f - 1))) (nI l) (nI k)) (fun r σ' => DP σ0 a (ms (gA σ0 12) s f p) r σ') := by
      intro n
      induction n with
      | zero => intro σ1 k _ _ h; exact absurd h (Nat.not_lt_zero _)
      | succ n ih =>
        intro σ1 k hR1 hk hn
        obtain ⟨r1, r2, r3, ⟨r4, r4'⟩, r5, r6, r7, r8, r9⟩ := id hR1
        show Tot (m_enter_43_b N (m_enter_43 N n) σ1 (nI p) (nI (26 * (f - 1))) (nI l) (nI k)) _
        unfold m_enter_43_b
        rw [hi, hcl, r1.1 14 (by decide), ← l4, r1.1 19 (by decide), r1.1 21 (by decide), ibk (k := l) (n := 16) (by omega) (by decide), nI_clamp (n := l) (by omega), r4, n26 (by omega) (by omega)]
        refine tot_gd rfl (tot_if (fun _ => tot_gd rfl (tot_some ⟨r1, r2, fun _ => ⟨t, f + 1, s, t0, b1, b2, by omega, hR1, ?_⟩⟩)) (fun hl => ?_))
        · have e1 := bon_6 h6
          have e2 := bv_nc hV b2 b3
          unfold ms
          rw [e1, e2]
          omega
        · rw [Int32.le_iff_toInt_le, nI_t (by omega)] at hl
          have hk4 : k < 4 := by omega
          rw [n4 l1 (by omega), ibk (k := 4 * l + k) (n := 64) (by omega) (by decide), nI_clamp (n := 4 * l + k) (by omega), ← nI_succ k]
          obtain ⟨m1, m2⟩ := b6 k (by omega)
          obtain ⟨m, m3, m4⟩ := nI_upto m1 (n := 25) m2 (by decide)
          obtain ⟨a1, a2⟩ := and31 (x := gA σ1 16 p >>> ((5 * nI k) &&& 31))
          obtain ⟨v, v1, v2⟩ := nI_upto a1 (n := 31) a2 (by decide)
          rw [m4, v2, nI_add, nI_add, ibk (k := 26 * (f - 1) + v) (n := 364) (by omega) (by decide), ibk (k := 26 * (f + 1 - 1) + m) (n := 364) (by omega) (by decide), nI_clamp (n := 26 * (f - 1) + v) (by omega)]
          exact tot_gd rfl (tot_gd rfl (tot_gd rfl (tot_gd rfl (ih _ (k + 1) (ri_name hR1 (r7 _ (by omega))) (by omega) (by omega)))))
    exact h43 N σ2 0 hR2 (by omega) (by omega)
theorem s_does {N : Nat} (hN : 8589934592 ≤ N) {σ0 σ : St} {a t f s p : Nat} {c : Int32} (hV : BV (gA σ0) a) (ha : a ≤ 1299) (hR : RI σ0 a t f s σ) (hf : 1 ≤ f) (hp : p < a) : Tot (m_does N σ (nI p) c) (fun r σ' => DP σ0 a (ms (gA σ0 12) s f p) r σ') := by
  obtain ⟨h1, h2, ⟨h3, h3'⟩, ⟨h4, h4'⟩, h5, h6', h7, h8, h9⟩ := id hR
  obtain ⟨p1, p2, p3, p4, p5, p6, p7⟩ := hV.1 p hp
  have e12 := h1.1 12 (by decide)
  have e13 := h1.1 13 (by decide)
  have e14 := h1.1 14 (by decide)
  have e15 := h1.1 15 (by decide)
  have hi : ib (nI p) 2600 = true := ibk (by omega) (by decide)
  have hcl : (nI p).toNatClampNeg = p := nI_clamp (by omega)
  have h0t : ∀ t, th t 0 := fun t => by unfold th; rw [show (0 : Int32).toInt = 0 from rfl]; omega
  have go : ∀ (σ' : St) (t' n : Nat), RI σ0 a t' f s σ' → p < n → n < a → ¬ gA σ0 12 (n - 1) = 0 → DP σ0 a (ms (gA σ0 12) s f p) (nI n) σ' := by
    intro σ' t' n hR' hn hna h0
    refine ⟨hR'.1, hR'.2.1, fun _ => ⟨t', f, s, n, rfl, hna, hf, hR', ?_⟩⟩
    have := bv_nc hV hna (Or.inr h0)
    unfold ms
    rw [this]
    omega
  have fall : ∀ (σ' : St) (t' : Nat), RI σ0 a t' f s σ' → ¬ gA σ0 12 p = 0 → ¬ gA σ0 12 p = 9 → DP σ0 a (ms (gA σ0 12) s f p) (nI p + 1) σ' := by
    intro σ' t' hR' h0 h9'
    rw [← nI_succ p]
    exact go σ' t' (p + 1) hR' (by omega) (bv_nx hV hp h9') h0
  have goal : tst (gA σ0 12 p) → ∃ n, gA σ0 15 p = nI n ∧ p < n ∧ n < a ∧ ¬ gA σ0 12 (n - 1) = 0 := by
    intro ht
    obtain ⟨-, -, q3⟩ := p6 ht
    obtain ⟨n, t1, t2, t3, t4⟩ := q3.elim (fun e => absurd e id) id
    refine ⟨n, t1, t2, ?_, t4⟩
    rcases hV.2.1 with z | z
    · omega
    · obtain ⟨n2, u1, u2⟩ := (z.2 p hp).1 ht
      have := nI_inj (by omega) (by omega) (t1.symm.trans u1)
      omega
  have h437 : tst (gA σ0 12 p) → ∀ (σ' : St) (x : Int32), RI σ0 a t f s σ' → Tot (m_does_437 N σ' (nI p) x) (fun r σ' => DP σ0 a (ms (gA σ0 12) s f p) r σ') := by
    intro ht σ' x hR'
    obtain ⟨n, n1, n2, n3, n4⟩ := goal ht
    unfold m_does_437
    rw [hi, hcl, hR'.1.1 15 (by decide), n1]
    refine tot_if (fun _ => tot_gd rfl (tot_some (go σ' t n hR' n2 n3 n4))) (fun _ => tot_some (fall σ' t hR' ?_ ?_))
    · intro e; rw [e] at ht; exact absurd ht (by unfold tst; decide)
    · intro e; rw [e] at ht; exact absurd ht (by unfold tst; decide)
  have h413 : tst (gA σ0 12 p) → ∀ x : Int32, Tot (m_does_413 N σ (nI p) x) (fun r σ' => DP σ0 a (ms (gA σ0 12) s f p) r σ') := by
    intro ht x
    have q := h437 ht σ
    unfold m_does_413 m_does_429
    rw [hi]
    exact tot_gd rfl (tot_if (fun _ => tot_if (fun _ => q _ hR) (fun _ => q _ hR)) (fun _ => tot_if (fun _ => q _ hR) (fun _ => q _ hR)))
  have tt : tst (gA σ0 12 p) → Tot (gd true (if gA σ 12 p = 12 then bd (m_chooses N σ c) (fun r σ' => m_does_437 N σ' (nI p) r) else gd true (bd (m_nameOf N σ (gA σ 13 p)) (fun r σ' => if r = 0 then m_does_413 N σ' (nI p) 1 else m_does_413 N σ' (nI p) 0)))) (fun r σ' => DP σ0 a (ms (gA σ0 12) s f p) r σ') := by
    intro ht
    refine tot_gd rfl (tot_if (fun _ => tot_bd (s_chooses hR) (fun r σ' hR' => h437 ht σ' r hR')) (fun hne => tot_gd rfl ?_))
    rw [e12] at hne
    have hn1 : nm1 (gA σ0 12 p) := by
      rcases ht with e | e | e
      · exact Or.inr (Or.inr (Or.inr (Or.inr (Or.inr (Or.inl e)))))
      · exact Or.inr (Or.inr (Or.inr (Or.inr (Or.inr (Or.inr e)))))
      · exact absurd e hne
    exact t_nameOf hR hf (by rw [e13]; exact p2 hn1) (fun v hv => tot_if (fun _ => h413 ht 1) (fun _ => h413 ht 0))
  have hfld : (gA σ0 12 p = 5 ∨ gA σ0 12 p = 8) → ∀ v : Int32, th t v → ¬ v = 0 → ∃ n : Nat, 2 * v + gA σ 14 p = nI n ∧ 2 ≤ n ∧ n < 2 * t + 2 := by
    intro e v hv hv0
    obtain ⟨r, r1, rfl⟩ := nI_upto hv.1 hv.2 (by omega)
    have hr0 : ¬ r = 0 := fun e => hv0 (by rw [e]; decide)
    rw [e14]
    rcases p4 e with q | q
    · exact ⟨2 * r + 0, by rw [q, show (0 : Int32) = nI 0 from by decide, n2], by omega, by omega⟩
    · exact ⟨2 * r + 1, by rw [q, show (1 : Int32) = nI 1 from by decide, n2], by omega, by omega⟩
  unfold m_does
  rw [hi, hcl]
  refine tot_gd rfl (tot_if (fun e => ?c0) (fun e0 => tot_if (fun e => ?c1) (fun e1 => tot_if (fun e => ?c2) (fun e2 => tot_if (fun e => ?c3) (fun e3 => tot_if (fun e => ?c4) (fun e4 => tot_if (fun e => ?c5) (fun e5 => tot_if (fun e => ?c6) (fun e6 => tot_if (fun e => ?c7) (fun e7 => tot_if (fun e => ?c8) (fun e8 => tot_if (fun e => ?c9) (fun e9 => tot_if (fun e => ?c10) (fun e10 => tot_if (fun e => ?c11) (fun e11 => tot_if (fun e => ?c12) (fun e12 => tot_if (fun e => ?c13) (fun e13 => ?c14)))))))))))))))
  case c0 =>
    rw [e12] at e
    refine tot_bd (s_step hR) (fun _ σ' q => tot_some ?_)
    rcases q with ⟨q1, q2⟩ | ⟨q1, q2⟩
    · exact ⟨q2.1, q2.2.1, fun e => absurd (q1.symm.trans e) (by decide)⟩
    · refine ⟨q2.1, q2.2.1, fun _ => ⟨t, f, s + 1, p + 1, (nI_succ p).symm, bv_nx hV hp (by rw [e]; decide), hf, q2, ?_⟩⟩
      have := bon_le (ac := gA σ0 12) (p := p + 1)
      unfold ms
      omega
  case c1 =>
    rw [e12] at e
    exact tot_some (fall _ t (ri_acc hR (h0t t)) (by rw [e]; decide) (by rw [e]; decide))
  case c2 =>
    rw [e12] at e
    refine tot_bd (s_chooses hR) (fun r σ' hR' => ?_)
    unfold m_does_110
    refine tot_if (fun _ => tot_some (fall _ t (ri_acc hR' (h0t t)) (by rw [e]; decide) (by rw [e]; decide))) (fun _ => ?_)
    refine tot_bd (s_makes hR' (Or.inl rfl) (Or.inl rfl)) (fun r2 σ2 ⟨t2, hR2, hr2⟩ => ?_)
    exact tot_some (fall _ t2 (ri_acc hR2 hr2) (by rw [e]; decide) (by rw [e]; decide))
  case c3 =>
    rw [e12] at e
    refine tot_gd rfl (t_nameOf hR hf (by rw [e13]; exact p2 (Or.inl e)) (fun v hv => tot_gd rfl (t_nameOf hR hf (by rw [e14]; exact p3 e) (fun v2 hv2 => ?_))))
    refine tot_bd (s_makes hR (Or.inr hv) (Or.inr hv2)) (fun r2 σ2 ⟨t2, hR2, hr2⟩ => ?_)
    exact tot_some (fall _ t2 (ri_acc hR2 hr2) (by rw [e]; decide) (by rw [e]; decide))
  case c4 =>
    rw [e12] at e
    exact tot_gd rfl (t_nameOf hR hf (by rw [e13]; exact p2 (Or.inr (Or.inl e))) (fun v hv => tot_some (fall _ t (ri_acc hR hv) (by rw [e]; decide) (by rw [e]; decide))))
  case c5 =>
    rw [e12] at e
    have hb := p2 (Or.inr (Or.inr (Or.inl e)))
    obtain ⟨v, ev, hv⟩ := e_nameOf (N := N) hR hf (x := gA σ 13 p) (by rw [e13]; exact hb.1) (by rw [e13]; exact hb.2)
    rw [ev, bd_s]
    refine tot_gd rfl (tot_if (fun _ => tot_gd rfl (tot_some (fall _ t (ri_sI (ri_sI hR (by decide)) (by decide)) (by rw [e]; decide) (by rw [e]; decide)))) (fun hv0 => tot_gd rfl ?_))
    rw [ev, bd_s]
    obtain ⟨n, n1, n2, n3⟩ := hfld (Or.inl e) v hv hv0
    rw [n1, ibk (k := n) (n := 602) (by omega) (by decide), nI_clamp (n := n) (by omega)]
    exact tot_gd rfl (tot_gd rfl (tot_some (fall _ t (ri_acc hR (h8 n n2 n3)) (by rw [e]; decide) (by rw [e]; decide))))
  case c6 =>
    rw [e12] at e
    exact tot_bd (s_enter hN hV ha hR hf hp e) (fun r σ' q => tot_some q)
  case c7 =>
    rw [e12] at e
    obtain ⟨b1, b2⟩ := p2 (Or.inr (Or.inr (Or.inr (Or.inl e))))
    obtain ⟨m, m1, m2⟩ := nI_upto b1 (n := 25) b2 (by decide)
    rw [h4, n26 hf (by omega), e13, m2, nI_add, ibk (k := 26 * (f - 1) + m) (n := 364) (by omega) (by decide)]
    exact tot_gd rfl (tot_gd rfl (tot_some (fall _ t (ri_name hR h5) (by rw [e]; decide) (by rw [e]; decide))))
  case c8 =>
    rw [e12] at e
    have hb := p2 (Or.inr (Or.inr (Or.inr (Or.inr (Or.inl e)))))
    obtain ⟨v, ev, hv⟩ := e_nameOf (N := N) hR hf (x := gA σ 13 p) (by rw [e13]; exact hb.1) (by rw [e13]; exact hb.2)
    rw [ev, bd_s]
    refine tot_gd rfl (tot_if (fun _ => tot_gd rfl (tot_some (fall _ t (ri_sI (ri_sI hR (by decide)) (by decide)) (by rw [e]; decide) (by rw [e]; decide)))) (fun hv0 => tot_gd rfl ?_))
    rw [ev, bd_s]
    obtain ⟨n, n1, n2, n3⟩ := hfld (Or.inr e) v hv hv0
    rw [n1, ibk (k := n) (n := 602) (by omega) (by decide), nI_clamp (n := n) (by omega)]
    exact tot_gd rfl (tot_gd rfl (tot_some (fall _ t (ri_field hR h5) (by rw [e]; decide) (by rw [e]; decide))))
  case c9 =>
    rw [h4, show nI f - 1 = nI (f - 1) from by obtain ⟨g, rfl⟩ : ∃ g, f = g + 1 := ⟨f - 1, by omega⟩; rw [nI_succ g, Int32.add_sub_cancel]; rfl]
    rw [ibk (k := f - 1) (n := 14) (by omega) (by decide), nI_clamp (n := f - 1) (by omega)]
    have g50 : ∀ v w : Int32, ¬ w = -1 → DP σ0 a (ms (gA σ0 12) s f p) v (sI (sI σ 50 (nI (f - 1))) 55 w) := fun v w hw => ⟨kq_tr h1 (kq_tr (kq_sI (k := 50) (Or.inr (by decide))) (kq_sI (Or.inr (by decide)))), ((gI_ne (by decide)).trans (gI_ne (by decide))).trans h2, fun e => absurd (gI_eq.symm.trans e) hw⟩
    refine tot_if (fun _ => tot_if (fun _ => tot_gd rfl (tot_some (g50 _ _ (by decide)))) (fun _ => tot_gd rfl (tot_some (g50 _ _ (by decide))))) (fun hf1 => tot_gd rfl (tot_some ?_))
    have hf2 : ¬ f - 1 = 0 := fun e => hf1 (by rw [e]; decide)
    obtain ⟨q, q1, q2, q3, q4⟩ := h9 (f - 1) (by omega) (by omega)
    have g : ∀ j, j ≠ 50 → gI (sI σ 50 (nI (f - 1))) j = gI σ j := fun j hj => gI_ne (fun e => hj e.symm)
    have hk : Kq σ0 (sI σ 50 (nI (f - 1))) := kq_tr h1 (kq_sI (Or.inr (by decide)))
    refine ⟨hk, (g 64 (by decide)).trans h2, fun _ => ⟨t, f - 1, s, q, q1, q2, by omega, ⟨hk, (g 64 (by decide)).trans h2, by rw [g 47 (by decide)]; exact ⟨h3, h3'⟩, ⟨gI_eq, by omega⟩, by rw [g 51 (by decide)]; exact h5, by rw [g 52 (by decide)]; exact h6', fun i hi => h7 i (by omega), h8, fun i i1 i2 => h9 i i1 (by omega)⟩, ?_⟩⟩
    have := bv_nc hV q2 (Or.inr (by rw [q4]; decide))
    unfold ms
    rw [this]
    omega
  case c10 => exact tt (by rw [e12] at e; exact Or.inl e)
  case c11 => exact tt (by rw [e12] at e; exact Or.inr (Or.inl e))
  case c12 => exact tt (by rw [h1.1 12 (by decide)] at e; exact Or.inr (Or.inr e))
  case c13 =>
    rw [h1.1 12 (by decide)] at e
    rw [e14, h1.1 13 (by decide)]
    refine tot_gd rfl (tot_if (fun e1 => ?_) (fun e1 => tot_gd rfl (tot_some ?_)))
    · rcases p7 e with ⟨-, n, n1, n2, n3⟩ | ⟨q, -⟩
      · refine tot_bd (s_step hR) (fun _ σ' q => tot_gd rfl (tot_some ?_))
        rcases q with ⟨q1, q2⟩ | ⟨q1, q2⟩
        · exact ⟨q2.1, q2.2.1, fun e => absurd (q1.symm.trans e) (by decide)⟩
        · refine ⟨q2.1, q2.2.1, fun _ => ⟨t, f, s + 1, n, by rw [q2.1.1 13 (by decide)]; exact n1, by omega, hf, q2, ?_⟩⟩
          have := bon_le (ac := gA σ0 12) (p := n)
          unfold ms
          omega
      · rw [q] at e1
        exact absurd e1 (by decide)
    · rcases p7 e with ⟨q, -⟩ | ⟨q, q2⟩
      · exact absurd q e1
      · obtain ⟨n, t1, t2, t3, t4⟩ := q2.elim (fun e => absurd e id) id
        rw [t1]
        refine go σ t n hR t2 ?_ t4
        rcases hV.2.1 with z | z
        · omega
        · obtain ⟨n2, u1, u2⟩ := (z.2 p hp).2 e q
          have := nI_inj (by omega) (by omega) (t1.symm.trans u1)
          omega
  case c14 =>
    exfalso
    rw [h1.1 12 (by decide)] at e0 e1 e2 e3 e4 e5 e6 e7 e8 e9 e10 e11 e12 e13
    have q0 := i_ne e0
    have q1 := i_ne e1
    have q2 := i_ne e2
    have q3 := i_ne e3
    have q4 := i_ne e4
    have q5 := i_ne e5
    have q6 := i_ne e6
    have q7 := i_ne e7
    have q8 := i_ne e8
    have q9 := i_ne e9
    have q10 := i_ne e10
    have q11 := i_ne e11
    have q12 := i_ne e12
    have q13 := i_ne e13
    simp only [show (0 : Int32).toInt = 0 from rfl, show (1 : Int32).toInt = 1 from rfl, show (2 : Int32).toInt = 2 from rfl, show (3 : Int32).toInt = 3 from rfl, show (4 : Int32).toInt = 4 from rfl, show (5 : Int32).toInt = 5 from rfl, show (6 : Int32).toInt = 6 from rfl, show (7 : Int32).toInt = 7 from rfl, show (8 : Int32).toInt = 8 from rfl, show (9 : Int32).toInt = 9 from rfl, show (10 : Int32).toInt = 10 from rfl, show (11 : Int32).toInt = 11 from rfl, show (12 : Int32).toInt = 12 from rfl, show (13 : Int32).toInt = 13 from rfl] at q0 q1 q2 q3 q4 q5 q6 q7 q8 q9 q10 q11 q12 q13
    clear p2 p3 p4 p5 p6 p7 h7 h8 h9 hR go fall goal h437 h413 tt hfld h0t hV h1
    omega
