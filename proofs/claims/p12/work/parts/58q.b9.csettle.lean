/-! the class's FACTS: from the start -/
theorem fill_a {N j L : Nat} {v : Int32} {σ : St} (hj : lenC j = L) (hL : L < 100000) : Par (j_fill N σ j v) (fun _ σ' => (∀ i, i < L → gA σ' j i = v) ∧ (∀ q, q ≠ j → gA σ' q = gA σ q) ∧ (∀ k, gI σ' k = gI σ k) ∧ (∀ k, gL σ' k = gL σ k) ∧ (∀ k, gP σ' k = gP σ k) ∧ ∀ q, gZ σ' q = gZ σ q) := by
  have lp : ∀ (n k : Nat) (σ1 : St), k ≤ L → (∀ i, i < k → gA σ1 j i = v) → (∀ q, q ≠ j → gA σ1 q = gA σ q) → (∀ k, gI σ1 k = gI σ k) → (∀ k, gL σ1 k = gL σ k) → (∀ k, gP σ1 k = gP σ k) → (∀ q, gZ σ1 q = gZ σ q) → Par (j_fill_5 N n σ1 j v (nI k) (nI L)) (fun _ σ' => (∀ i, i < L → gA σ' j i = v) ∧ (∀ q, q ≠ j → gA σ' q = gA σ q) ∧ (∀ k, gI σ' k = gI σ k) ∧ (∀ k, gL σ' k = gL σ k) ∧ (∀ k, gP σ' k = gP σ k) ∧ ∀ q, gZ σ' q = gZ σ q) := by
    intro n
    induction n with
    | zero => intro k σ1 _ _ _ _ _ _ _ r σ' e; cases e
    | succ n ih =>
      intro k σ1 hk h1 h2 h3 h4 h5 h6
      show Par (j_fill_5_b N (j_fill_5 N n) σ1 j v (nI k) (nI L)) _
      unfold j_fill_5_b
      rw [nI_clamp (n := k) (by omega), nI_1]
      refine par_if (fun z => par_some ⟨fun i hi => h1 i ?_, h2, h3, h4, h5, h6⟩) (fun z => par_gd (fun _ => par_gd (fun _ => ?_)))
      · have := (nI_leI (by omega) (by omega)).mp z
        omega
      · have z2 : k < L := Classical.byContradiction (fun y => z (nI_le (by omega) (by omega)))
        refine ih (k + 1) _ (by omega) (fun i hi => ?_) (fun q hq => ?_) h3 h4 h5 h6
        · rw [gA_sA, if_pos rfl]
          by_cases e : i = k
          · rw [e, pk_us]
          · rw [pk_un e]; exact h1 i (by omega)
        · rw [gA_sA, if_neg hq]; exact h2 q hq
  unfold j_fill
  rw [hj]
  exact par_gd (fun _ => lp N 0 σ (Nat.zero_le _) (fun i hi => absurd hi (Nat.not_lt_zero i)) (fun _ _ => rfl) (fun _ => rfl) (fun _ => rfl) (fun _ => rfl) (fun _ => rfl))
theorem fill_l {N j L : Nat} {v : Int64} {σ : St} (hj : lenC j = L) (hL : L < 100000) : Par (j_fillL N σ j v) (fun _ σ' => (∀ i, i < L → gZ σ' j i = v) ∧ (∀ q, gA σ' q = gA σ q) ∧ (∀ k, gI σ' k = gI σ k) ∧ (∀ k, gL σ' k = gL σ k) ∧ ∀ k, gP σ' k = gP σ k) := by
  have lp : ∀ (n k : Nat) (σ1 : St), k ≤ L → (∀ i, i < k → gZ σ1 j i = v) → (∀ q, gA σ1 q = gA σ q) → (∀ k, gI σ1 k = gI σ k) → (∀ k, gL σ1 k = gL σ k) → (∀ k, gP σ1 k = gP σ k) → Par (j_fillL_6 N n σ1 j v (nI k) (nI L)) (fun _ σ' => (∀ i, i < L → gZ σ' j i = v) ∧ (∀ q, gA σ' q = gA σ q) ∧ (∀ k, gI σ' k = gI σ k) ∧ (∀ k, gL σ' k = gL σ k) ∧ ∀ k, gP σ' k = gP σ k) := by
    intro n
    induction n with
    | zero => intro k σ1 _ _ _ _ _ _ r σ' e; cases e
    | succ n ih =>
      intro k σ1 hk h1 h2 h3 h4 h5
      show Par (j_fillL_6_b N (j_fillL_6 N n) σ1 j v (nI k) (nI L)) _
      unfold j_fillL_6_b
      rw [nI_clamp (n := k) (by omega), nI_1]
      refine par_if (fun z => par_some ⟨fun i hi => h1 i ?_, h2, h3, h4, h5⟩) (fun z => par_gd (fun _ => par_gd (fun _ => ?_)))
      · have := (nI_leI (by omega) (by omega)).mp z
        omega
      · have z2 : k < L := Classical.byContradiction (fun y => z (nI_le (by omega) (by omega)))
        refine ih (k + 1) _ (by omega) (fun i hi => ?_) h2 h3 h4 h5
        show (if j = j then vp_updL (gZ σ1 j) k v else gZ σ1 j) i = v
        rw [if_pos rfl]
        by_cases e : i = k
        · rw [e, pk_uLs]
        · rw [pk_uLn e]; exact h1 i (by omega)
  unfold j_fillL
  rw [hj]
  exact par_gd (fun _ => lp N 0 σ (Nat.zero_le _) (fun i hi => absurd hi (Nat.not_lt_zero i)) (fun _ => rfl) (fun _ => rfl) (fun _ => rfl) (fun _ => rfl))
/-- all is emptied -/
def Em (σ : St) : Prop := (∀ p, p < 304 → gZ σ 10 p = 0) ∧ (∀ p, p < 304 → gA σ 11 p = 0) ∧ (∀ m, m < 42 → gA σ 12 m = 0) ∧ (∀ u, u < 40 → gA σ 13 u = 0) ∧ (∀ t, t < 24 → gA σ 14 t = 0) ∧ gI σ 911 = 1
theorem c_clear1 {N G : Nat} {σ : St} (hg : gP σ 700 = G) : Par (x1_clear N σ) (fun _ σ' => Em σ' ∧ gI σ' 910 = 0 ∧ gP σ' 906 = G ∧ gP σ' 907 = G + 1 ∧ Kc σ σ') := by
  have hK := kc_x1_clear (N := N) (kc_r σ)
  subst hg
  refine fun r σ' e => ⟨?_, ?_, ?_, ?_, hK r σ' e⟩
  all_goals revert r σ'
  · show Par (x1_clear N σ) (fun _ σ' => Em σ')
    unfold x1_clear
    refine par_gd (fun _ => par_bd (fill_l (j := 10) (L := 304) rfl (by decide)) (fun _ σ1 h1 => par_bd (fill_a (j := 11) (L := 304) rfl (by decide)) (fun _ σ2 h2 => par_bd (fill_a (j := 12) (L := 42) rfl (by decide)) (fun _ σ3 h3 => par_bd (fill_a (j := 13) (L := 40) rfl (by decide)) (fun _ σ4 h4 => par_bd (fill_a (j := 14) (L := 24) rfl (by decide)) (fun _ σ5 h5 => par_some ⟨fun p hp => ?_, fun p hp => ?_, fun p hp => ?_, fun p hp => ?_, fun p hp => ?_, ?_⟩))))))
    · rw [h5.2.2.2.2.2, h4.2.2.2.2.2, h3.2.2.2.2.2, h2.2.2.2.2.2]; exact h1.1 p hp
    · rw [h5.2.1 11 (by decide), h4.2.1 11 (by decide), h3.2.1 11 (by decide)]; exact h2.1 p hp
    · rw [h5.2.1 12 (by decide), h4.2.1 12 (by decide)]; exact h3.1 p hp
    · rw [h5.2.1 13 (by decide)]; exact h4.1 p hp
    · exact h5.1 p hp
    · rw [h5.2.2.1, h4.2.2.1, h3.2.2.1, h2.2.2.1, h1.2.2.1]; exact gI_eq
  · show Par (x1_clear N σ) (fun _ σ' => gI σ' 910 = 0)
    unfold x1_clear
    refine par_gd (fun _ => par_bd (fill_l (j := 10) (L := 304) rfl (by decide)) (fun _ σ1 h1 => par_bd (fill_a (j := 11) (L := 304) rfl (by decide)) (fun _ σ2 h2 => par_bd (fill_a (j := 12) (L := 42) rfl (by decide)) (fun _ σ3 h3 => par_bd (fill_a (j := 13) (L := 40) rfl (by decide)) (fun _ σ4 h4 => par_bd (fill_a (j := 14) (L := 24) rfl (by decide)) (fun _ σ5 h5 => par_some ?_))))))
    rw [h5.2.2.1, h4.2.2.1, h3.2.2.1, h2.2.2.1, h1.2.2.1]
    exact (gI_ne (by decide)).trans gI_eq
  · show Par (x1_clear N σ) (fun _ σ' => gP σ' 906 = gP σ 700)
    unfold x1_clear
    refine par_gd (fun _ => par_bd (fill_l (j := 10) (L := 304) rfl (by decide)) (fun _ σ1 h1 => par_bd (fill_a (j := 11) (L := 304) rfl (by decide)) (fun _ σ2 h2 => par_bd (fill_a (j := 12) (L := 42) rfl (by decide)) (fun _ σ3 h3 => par_bd (fill_a (j := 13) (L := 40) rfl (by decide)) (fun _ σ4 h4 => par_bd (fill_a (j := 14) (L := 24) rfl (by decide)) (fun _ σ5 h5 => par_some ?_))))))
    rw [h5.2.2.2.2.1, h4.2.2.2.2.1, h3.2.2.2.2.1, h2.2.2.2.2.1, h1.2.2.2.2]
    rfl
  · show Par (x1_clear N σ) (fun _ σ' => gP σ' 907 = gP σ 700 + 1)
    unfold x1_clear
    refine par_gd (fun _ => par_bd (fill_l (j := 10) (L := 304) rfl (by decide)) (fun _ σ1 h1 => par_bd (fill_a (j := 11) (L := 304) rfl (by decide)) (fun _ σ2 h2 => par_bd (fill_a (j := 12) (L := 42) rfl (by decide)) (fun _ σ3 h3 => par_bd (fill_a (j := 13) (L := 40) rfl (by decide)) (fun _ σ4 h4 => par_bd (fill_a (j := 14) (L := 24) rfl (by decide)) (fun _ σ5 h5 => par_some ?_))))))
    rw [h5.2.2.2.2.1, h4.2.2.2.2.1, h3.2.2.2.2.1, h2.2.2.2.2.1, h1.2.2.2.2]
    rfl
theorem em_k {σ : St} {m : Nat} (h : Em σ) (hm : m < 42) : cmk σ m = 0 := by
  unfold cmk
  rw [h.2.2.1 m hm]
  rfl
theorem em_w {σ : St} {l : Nat} (h : Em σ) (hl : l < 256) (h910 : gI σ 910 = nI l) : CW σ ∧ crd σ = l := by
  have e0 : ∀ f : Nat → Int32, ∀ k, (∀ i, i < k → f i = 0) → nf4 f k := fun f k hf i hi => by
    rw [hf i hi]
    exact ⟨rfl, by decide⟩
  have er : crd σ = l := by
    unfold crd
    rw [h910, nI_clamp (by omega)]
  have ev : vN σ = 1 := by
    unfold vN
    rw [h.2.2.2.2.2]
    rfl
  exact ⟨⟨e0 _ _ h.2.2.1, e0 _ _ h.2.2.2.1, e0 _ _ h.2.2.2.2.1, ⟨by rw [er]; exact h910, by rw [er]; exact hl⟩, ⟨by rw [ev]; exact h.2.2.2.2.2, by omega, by omega⟩, fun p hp => ⟨0, h.2.1 p hp, by omega⟩, fun p hp => Or.inl (h.1 p hp)⟩, er⟩
theorem em_d {σ : St} {R : RD} {D : FD} (h : Em σ) (hr : ∀ l, l < 8 → (crd σ).testBit l = true → D.2.2.2.1 l) : FL (Dc σ) D := by
  refine ⟨fun p n b z => ?_, fun p z => absurd (h.1 p z.1) z.2, fun m b z => ?_, fun l z => hr l z.1 z.2, fun t b z => ?_⟩
  · have := z.2.2.2
    rw [h.1 p z.1, lb_0] at this
    exact absurd this (by decide)
  · exact absurd (em_k h z.1) (tb_nz z.2.2)
  · rcases z.2 with ⟨z1, z2⟩ | ⟨z1, z2, z3⟩
    · have z2 : (gA σ 14 t).toNatClampNeg.testBit b = true := z2
      rw [h.2.2.2.2.1 t z1] at z2
      exact absurd z2 (by rw [show (0 : Int32).toNatClampNeg = 0 from rfl, Nat.zero_testBit]; decide)
    · have z3 : (gA σ 13 (t - 100)).toNatClampNeg.testBit b = true := z3
      rw [h.2.2.2.1 (t - 100) (by omega)] at z3
      exact absurd z3 (by rw [show (0 : Int32).toNatClampNeg = 0 from rfl, Nat.zero_testBit]; decide)
theorem tv2 : ∀ v, v < 4 → (nI v &&& 2 = nI (v &&& 2) ∧ v &&& 2 < 4 ∧ ((v &&& 2).testBit 1 = v.testBit 1) ∧ (v &&& 2).testBit 0 = false) := by decide +kernel
/-- the entry: its parameters, as they are told -/
theorem c_entry {N : Nat} {σc0 σm0 : St} {G s l T : Nat} {φ tv : Nat → Nat} {D : FD} {C : Prop} {σe : St} (hO : PO σc0 σm0 G s φ) (hl : (Rd G σc0 σm0).1 l) (hT1 : T < 256) (hT2 : gI σc0 (100 * G + 9) = nI T) (hT3 : T / 2 ^ l % 2 = 1) (h700 : gP σc0 700 = G) (h701 : gI σc0 701 = nI l) (htv : ∀ j, j < 4 → tv j < 4) (h8 : ∀ j, j < 4 → gA σc0 8 j = nI (tv j)) (hC : C → enS (Rd G σc0 σm0) D l tv) (hE : Em σe) (hrc : (Dc σe).2.2.2.1 l) : ∀ (f k : Nat) (σ : St), k ≤ (Rd G σc0 σm0).2.2.1 l → OC σc0 G σe σ → TH σ → FL (Dc σ) (DT (Rd G σc0 σm0)) → (C → FL (Dc σ) D) → gZ σ 10 = gZ σe 10 → (∀ j, j < k → (∀ b, b < 2 → (tv j).testBit b = true → (Dc σ).2.2.1 (4 * l + j) b) ∧ ((tv j).testBit 1 = true → (Dc σ).2.2.1 40 1 ∧ (Dc σ).2.2.1 41 1)) → Par (x1_reachEntry_33 N f σ (nI k)) (fun _ σ' => IV σc0 G s (Rd G σc0 σm0) l tv D C σ') := by
  obtain ⟨r1, r2, r3, r4, r5, r6, r7, r8⟩ := rd_ok hO hl
  have hg := pr_or hO.1.1
  have hs := hO.1.2.2.1
  intro f
  induction f with
  | zero => intro k σ _ _ _ _ _ _ _ r σ' e; cases e
  | succ f ih =>
    intro k σ hk h1 h2 h3 h4 h5 h6
    show Par (x1_reachEntry_33_b N (x1_reachEntry_33 N f) σ (nI k)) _
    unfold x1_reachEntry_33_b
    refine par_bd (c_outers (T := T) (l := l) (m := (Rd G σc0 σm0).2.2.1 l) ((h1.1.1.2.2 700 (by decide)).trans h700) hO.1.1 ((h1.1.1.1 701 (by decide)).trans h701) r1 hT1 ((h1.1.1.1 _ (by omega)).trans hT2) hT3 (by rw [h1.1.1.2.1 (G + 4) (by omega)]; exact r7) r3) (fun r σ1 z => ?_)
    obtain ⟨z1, z2⟩ := z
    rw [z1, z2]
    refine par_if (fun y => par_some ?_) (fun y => ?_)
    · have e : k = (Rd G σc0 σm0).2.2.1 l := by have := (nI_leI (by omega) (by omega)).mp y; omega
      subst e
      refine ⟨h1.1, h1.2.1, h2, h3, h4, fun p hp hne => absurd (show gZ σ 10 p = 0 by rw [h5]; exact hE.1 p (by omega)) hne, ⟨h1.2.2.1.2.2.2.1 _ hrc, h6⟩⟩
    · have y2 : k < (Rd G σc0 σm0).2.2.1 l := Classical.byContradiction (fun y3 => y (nI_le (by omega) (by omega)))
      have hv := htv k (by omega)
      obtain ⟨t1, t2, t3, t4⟩ := tv2 _ hv
      refine par_bd (c_at (show k < 4 by omega)) (fun r σ2 z => ?_)
      obtain ⟨z1, z2⟩ := z
      rw [z1, z2, h1.1.1.2.1 8 (by decide), h8 k (by omega), h1.1.1.1 701 (by decide), h701, t1, show nI l * 4 + nI k = nI (4 * l + k) from by rw [show (4 : Int32) = nI 4 from rfl, nI_mul, nI_add, Nat.mul_comm], nI_1]
      refine par_bd (c_raise h1.1 h1.2.1 (show 4 * l + k < 42 by omega) hv) (fun _ σ3 q3 => par_bd (c_raise (m := 40) q3.1.1 q3.1.2.1 (by decide) t2) (fun _ σ4 q4 => par_bd (c_raise (m := 41) q4.1.1 q4.1.2.1 (by decide) t2) (fun _ σ5 q5 => ?_)))
      have bb : ∀ b, b < 2 → (tv k &&& 2).testBit b = true → b = 1 ∧ (tv k).testBit 1 = true := fun b hb h => by
        rcases (show b = 0 ∨ b = 1 by omega) with e | e
        · rw [e, t4] at h; exact absurd h (by decide)
        · rw [e, t3] at h; exact ⟨e, h⟩
      have up : ∀ D' : FD, FL (Dc σ) D' → ((∀ b, b < 2 → (tv k).testBit b = true → D'.2.2.1 (4 * l + k) b) ∧ ((tv k).testBit 1 = true → D'.2.2.1 40 1 ∧ D'.2.2.1 41 1)) → FL (Dc σ5) D' := fun D' d1 d2 => q5.2.1 D' (q4.2.1 D' (q3.2.1 D' d1 d2.1) (fun b hb h => by rw [(bb b hb h).1]; exact (d2.2 (bb b hb h).2).1)) (fun b hb h => by rw [(bb b hb h).1]; exact (d2.2 (bb b hb h).2).2)
      have m4 : ∀ m b, (Dc σ4).2.2.1 m b → (Dc σ5).2.2.1 m b := q5.1.2.2.1.2.2.1
      have m3 : ∀ m b, (Dc σ3).2.2.1 m b → (Dc σ5).2.2.1 m b := fun m b h => m4 m b (q4.1.2.2.1.2.2.1 m b h)
      have m0 : ∀ m b, (Dc σ).2.2.1 m b → (Dc σ5).2.2.1 m b := fun m b h => m3 m b (q3.1.2.2.1.2.2.1 m b h)
      have t5 : (tv k).testBit 1 = true → (Dc σ5).2.2.1 40 1 ∧ (Dc σ5).2.2.1 41 1 := fun h => ⟨m4 _ _ (q4.2.2.1 1 (by decide) (by rw [t3]; exact h)), q5.2.2.1 1 (by decide) (by rw [t3]; exact h)⟩
      refine ih (k + 1) σ5 (by omega) (oc_t h1 (oc_t q3.1 (oc_t q4.1 q5.1))) ?_ (up _ h3 ⟨fun _ _ _ => trivial, fun _ => ⟨trivial, trivial⟩⟩) (fun c => up D (h4 c) ((hC c).2 k y2)) (q5.2.2.2.2.1.trans (q4.2.2.2.2.1.trans (q3.2.2.2.2.1.trans h5))) (fun j hj => ?_)
      · by_cases c : (tv k).testBit 1 = true
        · have := t5 c
          exact th_nz ⟨tb_nz this.1.2.2, tb_nz this.2.2.2⟩
        · have n0 : ¬ (tv k &&& 2).testBit 1 = true := by rw [t3]; exact c
          exact th_raise q4.1.2.1 t2 (by decide) q5 (th_raise q3.1.2.1 t2 (by decide) q4 (th_raise h1.2.1 hv (by omega) q3 h2 (fun h => absurd h c)) (fun h => absurd h n0)) (fun h => absurd h n0)
      · rcases (show j = k ∨ j < k by omega) with e | e
        · rw [e]
          exact ⟨fun b hb h => m3 _ _ (q3.2.2.1 b hb h), t5⟩
        · exact ⟨fun b hb h => m0 _ _ ((h6 j e).1 b hb h), fun h => ⟨m0 _ _ ((h6 j e).2 h).1, m0 _ _ ((h6 j e).2 h).2⟩⟩
/-- the class's FACTS, of an entry, nothing held -/
theorem c_settle17 {N : Nat} {σc0 σm0 : St} {G s l T : Nat} {φ tv : Nat → Nat} {D : FD} (hO : PO σc0 σm0 G s φ) (hF : ∀ p, p < s → RF (Rd G σc0 σm0) (dn σc0 G p) s p) (hl : (Rd G σc0 σm0).1 l) (hT1 : T < 256) (hT2 : gI σc0 (100 * G + 9) = nI T) (hT3 : T / 2 ^ l % 2 = 1) (h700 : gP σc0 700 = G) (h701 : gI σc0 701 = nI l) (htv : ∀ j, j < 4 → tv j < 4) (h8 : ∀ j, j < 4 → gA σc0 8 j = nI (tv j)) : Par (x1_settle_17 N σc0 0) (fun _ σ' => ∃ σ1, σ' = sI σ1 908 0 ∧ IV σc0 G s (Rd G σc0 σm0) l tv D (Sol σc0 G s (Rd G σc0 σm0) l tv D) σ1 ∧ (∀ l, l < 8 → opS (Rd G σc0 σm0) (Dc σ1) l) ∧ ∀ p, p < s → ¬ gZ σ1 10 p = 0 → rS σc0 G (Rd G σc0 σm0) σ1 p) := by
  obtain ⟨r1, r2, r3, -⟩ := rd_ok hO hl
  have hg := pr_or hO.1.1
  unfold x1_settle_17
  refine par_bd (c_clear1 h700) (fun _ σ2 q => ?_)
  obtain ⟨q1, q2, q3, q4, q5⟩ := q
  unfold x1_reachEntry
  rw [show gP (sL σ2 912 0) 906 = G from q3, hO.1.1, gd_t, show gI (sL σ2 912 0) 701 = nI l from (q5.1 701 (by decide)).trans h701, c_has (T := T) hO.1.1 (show gI (sL σ2 912 0) (100 * G + 9) = nI T from (q5.1 _ (by omega)).trans hT2) hT1 r1, bd_s, if_pos hT3, if_neg (show ¬ (1 : Int32) = 0 by decide), show gI (sL σ2 912 0) 701 = nI l from (q5.1 701 (by decide)).trans h701, shl_c (by omega)]
  have hE : Em (sI (sL σ2 912 0) 910 (nI (2 ^ l))) := ⟨q1.1, q1.2.1, q1.2.2.1, q1.2.2.2.1, q1.2.2.2.2.1, (gI_ne (by decide)).trans q1.2.2.2.2.2⟩
  have h2l : 2 ^ l < 256 := by
    have : ∀ l, l < 8 → 2 ^ l < 256 := by decide
    exact this l r1
  obtain ⟨hW, er⟩ := em_w hE h2l gI_eq
  have hV : CV σc0 G (sI (sL σ2 912 0) 910 (nI (2 ^ l))) := ⟨kc_I (kc_L q5) (by decide), q3, q4, gL_e (k := 912)⟩
  have hbit : ∀ i, (crd (sI (sL σ2 912 0) 910 (nI (2 ^ l)))).testBit i = true → i = l := fun i h => by
    rw [er, Nat.testBit_two_pow] at h
    exact (of_decide_eq_true h).symm
  refine par_bd (c_entry (tv := tv) (D := D) (C := Sol σc0 G s (Rd G σc0 σm0) l tv D) hO hl hT1 hT2 hT3 h700 h701 htv h8 (fun c => c.1) hE ⟨r1, by rw [er, Nat.testBit_two_pow]; exact decide_eq_true rfl⟩ N 0 _ (Nat.zero_le _) (oc_r hV hW) (fun h => ?_) (em_d (R := Rd G σc0 σm0) hE (fun i _ h => by rw [hbit i h]; exact hl)) (fun c => em_d (R := Rd G σc0 σm0) hE (fun i _ h => by rw [hbit i h]; exact c.1.1)) rfl (fun j hj => absurd hj (Nat.not_lt_zero j))) (fun _ σ4 hI => ?_)
  · rcases h with ⟨p, n, z⟩ | ⟨m, z⟩
    · have := z.2.2.2
      rw [hE.1 p z.1, lb_0] at this
      exact absurd this (by decide)
    · exact absurd (em_k hE z.1) (tb_nz z.2.2)
  · obtain ⟨i1, i2, i3, i4, i5, i6, i7⟩ := id hI
    have e911 : gI (sI σ4 909 1) 911 = gI σ4 911 := gI_ne (by decide)
    have e910 : gI (sI σ4 909 1) 910 = gI σ4 910 := gI_ne (by decide)
    have er : crd (sI σ4 909 1) = crd σ4 := by unfold crd; rw [e910]
    have ev : vN (sI σ4 909 1) = vN σ4 := by unfold vN; rw [e911]
    have ef : fbt (sI σ4 909 1) = fbt σ4 := by
      funext j
      unfold fbt
      rw [er]
      rfl
    have em : mu (sI σ4 909 1) = mu σ4 := by unfold mu; rw [ef]
    have eD : Dc (sI σ4 909 1) = Dc σ4 := by
      unfold Dc
      rw [er]
      rfl
    refine c_rounds (D := D) (C := Sol σc0 G s (Rd G σc0 σm0) l tv D) hO hF (fun c => c.2.1) (fun c => c.2.2) N 0 _ (by decide) ⟨⟨kc_I i1.1 (by decide), i1.2.1, i1.2.2.1, i1.2.2.2⟩, ⟨i2.1, i2.2.1, i2.2.2.1, by rw [er, e910]; exact i2.2.2.2.1, ⟨by rw [ev, e911]; exact i2.2.2.2.2.1.1, by rw [ev]; exact i2.2.2.2.2.1.2.1, by rw [ev, em]; exact i2.2.2.2.2.1.2.2⟩, fun p hp => by rw [ev]; exact i2.2.2.2.2.2.1 p hp, i2.2.2.2.2.2.2⟩, ?_, by rw [eD]; exact i4, by rw [eD]; exact i5, fun p hp hne he => ?_, by rw [eD]; exact i7⟩ (fun e => absurd (show (1 : Int32) = 0 from gI_eq.symm.trans e) (by decide)) (fun _ => Nat.zero_le _)
    · unfold TH
      rw [eD]
      exact i3
    · unfold rS
      rw [eD]
      exact i6 p hp hne (by rw [e911] at he; exact he)
