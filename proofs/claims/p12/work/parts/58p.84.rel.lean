/-! both parsers between two statements -/
def wk (f : Nat → Int32) : Nat → Nat
  | 0 => 0
  | k + 1 => wk f k + (if f k = 0 ∨ f k = 3 then 4 else 0)
theorem wk_same {f f' : Nat → Int32} : ∀ b : Nat, (∀ k, k < b → f' k = f k) → wk f' b = wk f b := by
  intro b
  induction b with
  | zero => intro _; rfl
  | succ b ih =>
    intro h
    show wk f' b + (if f' b = 0 ∨ f' b = 3 then 4 else 0) = wk f b + (if f b = 0 ∨ f b = 3 then 4 else 0)
    rw [ih (fun k hk => h k (by omega)), h b (by omega)]
def BlR (g s : Nat) (φ : Nat → Nat) (b : Nat) (σc σm : St) : Prop := gI σc 406 = nI b ∧ gI σm 38 = nI b ∧ b ≤ 6 ∧ ∀ k, k < b → gA σc 5 k = gA σm 35 k ∧ ((k = 0 ∧ gA σc 5 k = 0) ∨ (0 < k ∧ ∃ p, p < s ∧ gA σc 6 k = nI p ∧ (((gA σc 5 k = 1 ∨ gA σc 5 k = 3) ∧ rwD g p σc 0 = 2 ∧ gA σm 36 k = nI (φ p + 1) ∧ (gA σc 5 k = 3 → gA σm 37 k = nI (φ p + 1))) ∨ (gA σc 5 k = 2 ∧ rwD g p σc 0 = 1 ∧ gA σm 36 k = nI (φ p) ∧ acE (φ p) σm 2 = 0))))
def Xw (b : Nat) (σc : St) : Nat → Prop := fun p => ∃ k, 0 < k ∧ k < b ∧ gA σc 6 k = nI p
def cnt8 (T : Nat) : Nat := T % 2 + T / 2 % 2 + T / 4 % 2 + T / 8 % 2 + T / 16 % 2 + T / 32 % 2 + T / 64 % 2 + T / 128 % 2
def RtR (g s : Nat) (φ : Nat → Nat) (T b : Nat) (σc σm : St) : Prop := T < 256 ∧ gI σc (100 * g + 9) = nI T ∧ gI σc (100 * g + 10) = nI (cnt8 T) ∧ gI σc (100 * g + 13) = gA σm 22 1 ∧ (T = 0 → gA σm 22 1 = -1) ∧ (¬ T = 0 → ¬ gA σm 22 1 = -1) ∧ ∀ r, r < 8 → (T / 2 ^ r % 2 = 1 ↔ ¬ gA σm 19 (8 + r) = -1) ∧ (T / 2 ^ r % 2 = 1 → ∃ m p : Nat, m ≤ 4 ∧ p ≤ s ∧ (b = 0 → p < s) ∧ gA σc (g + 4) r = nI m ∧ gA σm 20 (8 + r) = nI m ∧ gA σc (g + 3) r = nI p ∧ gA σm 19 (8 + r) = nI (φ p) ∧ ∀ k, k < m → gA σc (g + 5) (4 * r + k) = gA σm 21 (32 + 4 * r + k))
/-- l is the routine in which row p stands -/
def Om (g T : Nat) (σc : St) (l p : Nat) : Prop := l < 8 ∧ T / 2 ^ l % 2 = 1 ∧ ∃ o, gA σc (g + 3) l = nI o ∧ o ≤ p ∧ ∀ r, r < 8 → T / 2 ^ r % 2 = 1 → ∀ o', o' ≤ p → o' ≤ 304 → gA σc (g + 3) r = nI o' → o' ≤ o ∧ (o' = o → r = l)
def Ow (g s T b : Nat) (σc : St) : Prop := (∀ p, p < s → ∃ l, rwD g p σc 11 = nI l ∧ Om g T σc l p) ∧ (0 < b → ∃ l, gI σc 407 = nI l ∧ ∀ p, s ≤ p → Om g T σc l p)
theorem om_same {g T l p : Nat} {σc σc' : St} (h : Om g T σc l p) (h3 : gA σc' (g + 3) = gA σc (g + 3)) : Om g T σc' l p := by
  unfold Om
  rw [h3]
  exact h
theorem ow_mk {g s s2 T b b2 : Nat} {σc σc' : St} (h : Ow g s T b σc) (hb : 0 < b) (hs : s ≤ s2) (hr : ∀ p, p < s2 → rwD g p σc' 11 = if p < s then rwD g p σc 11 else gI σc 407) (h3 : gA σc' (g + 3) = gA σc (g + 3)) (h7 : gI σc' 407 = gI σc 407) : Ow g s2 T b2 σc' := by
  obtain ⟨o1, o2⟩ := h
  obtain ⟨l, l1, l2⟩ := o2 hb
  refine ⟨fun p hp => ?_, fun _ => ⟨l, h7.trans l1, fun p hp => om_same (l2 p (by omega)) h3⟩⟩
  rw [hr p hp]
  by_cases c : p < s
  · rw [if_pos c]
    obtain ⟨l', a, b⟩ := o1 p c
    exact ⟨l', a, om_same b h3⟩
  · rw [if_neg c]
    exact ⟨l, l1, om_same (l2 p (by omega)) h3⟩
def Rel (t : Nat → Int32) (n g i s : Nat) (φ ψ : Nat → Nat) (b u w T : Nat) (σc σm : St) : Prop := MC t n g i s σc ∧ MM t n i (φ s) (ψ s) σm ∧ UsR g u σc σm ∧ TsR g w σc σm ∧ ((0 < b → gI σc 407 = gI σm 34) ∧ Ow g s T b σc) ∧ BlR g s φ b σc σm ∧ RtR g s φ T b σc σm ∧ Cod g s φ ψ (Xw b σc) σc σm ∧ 4 * s + wk (gA σc 5) b ≤ kQ t n i
theorem tsR_same {g w : Nat} {σc σm σc' σm' : St} (h : TsR g w σc σm) (h1 : gI σc' (100 * g + 12) = gI σc (100 * g + 12)) (h2 : gA σc' (g + 9) = gA σc (g + 9)) (h3 : gA σc' (g + 10) = gA σc (g + 10)) (h4 : ∀ j, 27 ≤ j → j ≤ 29 → gA σm' j = gA σm j) : TsR g w σc' σm' := by
  obtain ⟨a, b, c, d⟩ := h
  refine ⟨h1.trans a, by rw [h4 29 (by omega) (by omega)]; exact b, c, fun k hk => ?_⟩
  rw [h2, h3, h4 27 (by omega) (by omega), h4 28 (by omega) (by omega)]
  exact d k hk
theorem rtR_same {g s s2 T b b2 : Nat} {φ φ2 : Nat → Nat} {σc σm σc' σm' : St} (h : RtR g s φ T b σc σm) (hs : s ≤ s2) (hf : ∀ p, p ≤ s → φ2 p = φ p) (hb : b2 = 0 → b = 0 ∨ s < s2) (h1 : gI σc' (100 * g + 9) = gI σc (100 * g + 9)) (h2 : gI σc' (100 * g + 10) = gI σc (100 * g + 10)) (h3 : gI σc' (100 * g + 13) = gI σc (100 * g + 13)) (h4 : gA σc' (g + 3) = gA σc (g + 3)) (h5 : gA σc' (g + 4) = gA σc (g + 4)) (h6 : gA σc' (g + 5) = gA σc (g + 5)) (h7 : ∀ j, 19 ≤ j → j ≤ 22 → gA σm' j = gA σm j) : RtR g s2 φ2 T b2 σc' σm' := by
  obtain ⟨a1, a2, a3, a4, a5, a6, a7⟩ := h
  refine ⟨a1, h1.trans a2, h2.trans a3, ?_, ?_, ?_, fun r hr => ?_⟩
  · rw [h3, h7 22 (by omega) (by omega)]; exact a4
  · rw [h7 22 (by omega) (by omega)]; exact a5
  · rw [h7 22 (by omega) (by omega)]; exact a6
  · obtain ⟨r1, r2⟩ := a7 r hr
    rw [h7 19 (by omega) (by omega), h7 20 (by omega) (by omega), h7 21 (by omega) (by omega), h4, h5, h6]
    refine ⟨r1, fun z => ?_⟩
    obtain ⟨m, p, q1, q2, q3, q4, q5, q6, q7, q8⟩ := r2 z
    refine ⟨m, p, q1, by omega, fun e => ?_, q4, q5, q6, by rw [hf p q2]; exact q7, q8⟩
    rcases hb e with y | y
    · have := q3 y; omega
    · omega
theorem kQ_mono {t : Nat → Int32} {n i : Nat} : ∀ d, kQ t n i ≤ kQ t n (i + d) := by
  intro d
  induction d with
  | zero => exact Nat.le_refl _
  | succ d ih =>
    have h := kQ_up (t := t) (n := n) (i := i + d)
    have : kQ t n (i + d) ≤ kQ t n (i + (d + 1)) := Nat.le_trans h.1 h.2.1
    omega
theorem kQ_lt {t : Nat → Int32} {n i j : Nat} (h : kQ t n i < kQ t n j) : i < j := by
  rcases Nat.lt_or_ge i j with q | q
  · exact q
  · have := kQ_mono (t := t) (n := n) (i := j) (i - j)
    rw [show j + (i - j) = i by omega] at this
    omega
theorem rel_s {t : Nat → Int32} {n g i s b u w T : Nat} {φ ψ : Nat → Nat} {σc σm : St} (hT : Tp t n) (h : Rel t n g i s φ ψ b u w T σc σm) : s ≤ 300 := by
  have h1 := h.2.2.2.2.2.2.2.2
  have h2 := kQ_le (t := t) (n := n) (i := i)
  have := hT.2
  omega
/-- a statement of one row -/
theorem rel_row {t : Nat → Int32} {n g i s b u w T len : Nat} {φ ψ : Nat → Nat} {E : (Nat → Int32) → (Nat → Nat → Int32) → Prop} {σc σm σc' σm' : St} {i' c' u' : Nat} (hR : Rel t n g i s φ ψ b u w T σc σm) (hl : 0 < len) (hE : ∀ d A, E d A → EL d A len ∧ ¬ d 0 = 1 ∧ ¬ d 0 = 2) (q1 : MC t n g i' (s + 1) σc') (q2 : MM t n i' (φ s + len) c' σm') (q3 : UsR g u' σc' σm') (q4 : FcR g s σc σc') (q5 : FmV (φ s) (ψ s) σm σm') (q6 : CR (rwD g s σc') (ψ s) c' σm') (q7 : E (rwD g s σc') (fun k => acE (φ s + k) σm')) (q9 : kQ t n i + 4 ≤ kQ t n i') (hb0 : 0 < b) (q8 : rwD g s σc' 11 = gI σc 407) : Rel t n g i' (s + 1) (xt φ s (φ s + len)) (xt ψ s c') b u' w T σc' σm' := by
  obtain ⟨r1, r2, r3, r4, r5, r6, r7, r8, r9⟩ := hR
  have hg := r1.2.1.1
  have hgb := pg_b hg
  have A5 : gA σc' 5 = gA σc 5 := q4.2.2.1 5 (by omega) (by omega) (by omega) (by omega)
  have A6 : gA σc' 6 = gA σc 6 := q4.2.2.1 6 (by omega) (by omega) (by omega) (by omega)
  have hX : Xw b σc' = Xw b σc := by unfold Xw; rw [A6]
  have hd : ∀ p, p < s → rwD g p σc' 0 = rwD g p σc 0 := fun p hp => q4.2.2.2 _ (by omega)
  refine ⟨q1, ?_, q3, ?_, ⟨fun hb => ?_, ?_⟩, ?_, ?_, ?_, ?_⟩
  · rw [xt_s, xt_s]; exact q2
  · exact tsR_same r4 (q4.1 _ (by omega) (by omega) (by omega)) (q4.2.2.1 _ (by omega) (by omega) (by omega) (by omega)) (q4.2.2.1 _ (by omega) (by omega) (by omega) (by omega)) (fun j h1 h2 => q5.2.1 j (by omega) (by omega) (by omega))
  · rw [q4.1 407 (by decide) (by omega) (by omega), q5.1 34 (by omega) (by decide) (by decide)]
    exact r5.1 hb
  · refine ow_mk r5.2 hb0 (by omega) (fun p hp => ?_) (q4.2.2.1 _ (by omega) (by omega) (by omega) (by omega)) (q4.1 407 (by decide) (by omega) (by omega))
    by_cases c : p < s
    · rw [if_pos c]
      exact q4.2.2.2 (12 * p + 11) (by omega)
    · rw [if_neg c, show p = s by omega]
      exact q8
  · obtain ⟨b1, b2, b3, b4⟩ := r6
    refine ⟨(q4.1 406 (by decide) (by omega) (by omega)).trans b1, (q5.1 38 (by omega) (by decide) (by decide)).trans b2, b3, fun k hk => ?_⟩
    obtain ⟨k1, k2⟩ := b4 k hk
    rw [A5, A6, q5.2.1 35 (by omega) (by omega) (by omega), q5.2.1 36 (by omega) (by omega) (by omega), q5.2.1 37 (by omega) (by omega) (by omega)]
    refine ⟨k1, k2.imp id (fun ⟨z0, p, z1, z2, z3⟩ => ⟨z0, p, by omega, z2, ?_⟩)⟩
    rw [hd p z1, xt_le (by omega)]
    have hm := (cod_up r8 s (Nat.le_refl _) p (by omega)).2.2.1 z1
    rw [show acE (φ p) σm' 2 = acE (φ p) σm 2 from q5.2.2.1 (12 + 2) (1300 + φ p) (by omega) (by omega) (by omega)]
    exact z3
  · exact rtR_same r7 (by omega) (fun p hp => xt_le hp) (fun _ => Or.inr (by omega)) (q4.1 _ (by omega) (by omega) (by omega)) (q4.1 _ (by omega) (by omega) (by omega)) (q4.1 _ (by omega) (by omega) (by omega)) (q4.2.2.1 _ (by omega) (by omega) (by omega) (by omega)) (q4.2.2.1 _ (by omega) (by omega) (by omega) (by omega)) (q4.2.2.1 _ (by omega) (by omega) (by omega) (by omega)) (fun j h1 h2 => q5.2.1 j (by omega) (by omega) (by omega))
  · obtain ⟨e1, e2, e3⟩ := hE _ _ q7
    rw [hX]
    exact cod_app r8 q4.2.2.2 q5.2.2.1 q5.2.2.2 (fun _ _ h => h) hl e1 ⟨fun z => absurd z e2, fun z => absurd z e3⟩ q6
  · rw [A5]
    omega
theorem pe_el : ∀ d A, PE d A → EL d A 3 ∧ ¬ d 0 = 1 ∧ ¬ d 0 = 2 := by
  intro d A h
  refine ⟨Or.inr (Or.inr (Or.inr (Or.inl ⟨h, rfl⟩))), ?_⟩
  rcases h with ⟨h, -⟩ | ⟨h, -⟩ <;> (rw [h]; decide)
theorem de_el : ∀ d A, DE d A → EL d A 2 ∧ ¬ d 0 = 1 ∧ ¬ d 0 = 2 := by
  intro d A h
  refine ⟨Or.inr (Or.inr (Or.inr (Or.inr (Or.inl ⟨h, rfl⟩)))), ?_⟩
  rw [h.1]
  decide
theorem re_el : ∀ d A, RE d A → EL d A 3 ∧ ¬ d 0 = 1 ∧ ¬ d 0 = 2 := by
  intro d A h
  refine ⟨Or.inr (Or.inr (Or.inr (Or.inr (Or.inr ⟨h, rfl⟩)))), ?_⟩
  rw [h.1]
  decide
/-- if and while -/
theorem rel_branch {t : Nat → Int32} {n g i s b u w T d0 : Nat} {φ ψ : Nat → Nat} {kd : Int32} {X : Int32 → Int32} {σc σm σc' σm' : St} {i' : Nat} (hR : Rel t n g i s φ ψ b u w T σc σm) (hb0 : 0 < b) (hkd : (kd = 1 ∧ d0 = 4) ∨ (kd = 3 ∧ d0 = 8 ∧ ∀ v, X v = v)) (z0 : b < 6) (z1 : MC t n g i' (s + 1) σc') (z2 : MM t n i' (φ s + 2) (ψ s) σm') (z3 : UsR g u σc' σm') (z4 : TsR g (w + 1) σc' σm') (z5 : gI σc' 406 = nI (b + 1)) (z6 : gI σm' 38 = nI (b + 1)) (z7 : gA σc' 5 = upd (gA σc 5) b kd) (z8 : gA σc' 6 = upd (gA σc 6) b (nI s)) (z9 : gA σm' 35 = upd (gA σm 35) b kd) (z10 : gA σm' 36 = upd (gA σm 36) b (nI (φ s + 1))) (z11 : gA σm' 37 = upd (gA σm 37) b (X (nI (φ s + 1)))) (z12 : FcB g s σc σc') (z13 : FmB (φ s) σm σm') (z14 : BE w (rwD g s σc') (fun k => acE (φ s + k) σm')) (z16 : kQ t n i + d0 ≤ kQ t n i') (z15 : rwD g s σc' 11 = gI σc 407) : Rel t n g i' (s + 1) (xt φ s (φ s + 2)) (xt ψ s (ψ s)) (b + 1) u (w + 1) T σc' σm' := by
  obtain ⟨r1, r2, r3, r4, r5, r6, r7, r8, r9⟩ := hR
  have hg := r1.2.1.1
  have hgb := pg_b hg
  have hs := z1.2.2.2
  have hd : ∀ p, p < s → rwD g p σc' 0 = rwD g p σc 0 := fun p hp => z12.2.2.2 _ (by omega)
  obtain ⟨E1, E2, E3, E4, E5⟩ := z14
  have d4 : ¬ rwD g s σc' 4 = 5 := by
    rcases E3 with ⟨h, -⟩ | ⟨h, -⟩ | ⟨h, -⟩ <;> (rw [h]; decide)
  have kd0 : ¬ kd = 0 := by rcases hkd with ⟨h, -⟩ | ⟨h, -⟩ <;> (rw [h]; decide)
  refine ⟨z1, ?_, z3, z4, ⟨fun _ => ?_, ?_⟩, ⟨z5, z6, by omega, fun k hk => ?_⟩, ?_, ?_, ?_⟩
  · rw [xt_s, xt_s]; exact z2
  · rw [z12.1 407 (by decide) (by decide) (by omega) (by omega), z13.1 34 (by omega) (by decide) (by decide)]
    exact r5.1 hb0
  · refine ow_mk r5.2 hb0 (by omega) (fun p hp => ?_) (z12.2.2.1 _ (by omega) (by omega) (by omega) (by omega) (by omega)) (z12.1 407 (by decide) (by decide) (by omega) (by omega))
    by_cases c : p < s
    · rw [if_pos c]
      exact z12.2.2.2 (12 * p + 11) (by omega)
    · rw [if_neg c, show p = s by omega]
      exact z15
  · rw [z7, z8, z9, z10, z11]
    by_cases ck : k = b
    · subst ck
      rw [upd_eq, upd_eq, upd_eq, upd_eq, upd_eq]
      refine ⟨rfl, Or.inr ⟨hb0, s, by omega, rfl, Or.inl ⟨?_, E1, ?_, fun h => ?_⟩⟩⟩
      · rcases hkd with ⟨h, -⟩ | ⟨h, -⟩
        · exact Or.inl h
        · exact Or.inr h
      · rw [xt_le (Nat.le_refl _)]
      · rw [xt_le (Nat.le_refl _)]
        rcases hkd with ⟨h2, -⟩ | ⟨-, -, h2⟩
        · rw [h2] at h; exact absurd h (by decide)
        · exact h2 _
    · rw [upd_ne ck, upd_ne ck, upd_ne ck, upd_ne ck, upd_ne ck]
      obtain ⟨b1, b2, b3, b4⟩ := r6
      obtain ⟨k1, k2⟩ := b4 k (by omega)
      refine ⟨k1, k2.imp id (fun ⟨y0, p, y1, y2, y3⟩ => ⟨y0, p, by omega, y2, ?_⟩)⟩
      rw [hd p y1, xt_le (by omega)]
      have hm := (cod_up r8 s (Nat.le_refl _) p (by omega)).2.2.1 y1
      rw [show acE (φ p) σm' 2 = acE (φ p) σm 2 from z13.2.2 (12 + 2) (1300 + φ p) (by omega) (by omega) (by omega)]
      exact y3
  · exact rtR_same r7 (by omega) (fun p hp => xt_le hp) (fun h => absurd h (by omega)) (z12.1 _ (by omega) (by omega) (by omega) (by omega)) (z12.1 _ (by omega) (by omega) (by omega) (by omega)) (z12.1 _ (by omega) (by omega) (by omega) (by omega)) (z12.2.2.1 _ (by omega) (by omega) (by omega) (by omega) (by omega)) (z12.2.2.1 _ (by omega) (by omega) (by omega) (by omega) (by omega)) (z12.2.2.1 _ (by omega) (by omega) (by omega) (by omega) (by omega)) (fun j h1 h2 => z13.2.1 j (by omega) (by omega) (by omega))
  · refine cod_app r8 z12.2.2.2 (fun j k h1 h2 h3 => ?_) (fun j k h1 h2 _ => by rw [z13.2.1 j (by omega) (by omega) (by omega)]) (fun p hp h => ?_) (by decide) (Or.inr (Or.inr (Or.inl ⟨⟨E1, E2, E3, E4⟩, rfl⟩))) ⟨fun z => ?_, fun _ => Or.inl ⟨b, hb0, by omega, by rw [z8, upd_eq]⟩⟩ (Or.inl ⟨d4, rfl⟩)
    · rcases (show j = 16 ∨ j ≤ 15 by omega) with e | e
      · subst e
        rw [z13.2.1 16 (by omega) (by omega) (by omega)]
      · exact z13.2.2 j k h1 e h3
    · obtain ⟨k, k1, k2, k3⟩ := h
      refine ⟨k, k1, by omega, ?_⟩
      rw [z8, upd_ne (by omega)]
      exact k3
    · rw [E1] at z
      exact absurd z (by decide)
  · rw [z7]
    show 4 * (s + 1) + (wk (upd (gA σc 5) b kd) b + (if upd (gA σc 5) b kd b = 0 ∨ upd (gA σc 5) b kd b = 3 then 4 else 0)) ≤ _
    rw [wk_same (f := gA σc 5) (f' := upd (gA σc 5) b kd) b (fun k hk => upd_ne (by omega)), upd_eq]
    rcases hkd with ⟨h1, h2⟩ | ⟨h1, h2, -⟩
    · rw [if_neg (by rw [h1]; decide)]
      omega
    · rw [if_pos (Or.inr h1)]
      omega
/-- the relation holds again, further on; or both have the same fault -/
def Nxt (t : Nat → Int32) (n g i T : Nat) (rc : Int32) (σc σm : St) : Prop := (rc = 1 ∧ ∃ (i' s : Nat) (φ ψ : Nat → Nat) (b u w : Nat), kQ t n i < kQ t n i' ∧ Rel t n g i' s φ ψ b u w T σc σm) ∨ (rc = 0 ∧ FP σc σm)
theorem r_stat {t : Nat → Int32} {n g i s b u w T N : Nat} {φ ψ : Nat → Nat} {σc σm : St} (hN : 8589934592 ≤ N) (hT : Tp t n) (hR : Rel t n g i s φ ψ b u w T σc σm) (hb0 : 0 < b) : R2 (x4_readStatement N σc) (m_statement N σm) (fun rc σc' _ σm' => Nxt t n g i T rc σc' σm') := by
  have hs := rel_s hT hR
  obtain ⟨r1, r2, r3, r4, r5, r6, r7, r8, r9⟩ := id hR
  have hi := r1.1.2.2.1
  have hL := r5.1 hb0
  have h8 := r2.1.2.2.2.2.2
  obtain ⟨v1, v2, -, v4, v5⟩ := sv_srt r2.1.2.2.2.2.1
  have row : ∀ {len : Nat} {E : (Nat → Int32) → (Nat → Nat → Int32) → Prop} {oc : Option (Int32 × St)} {om : Option (Unit × St)}, 0 < len → (∀ d A, E d A → EL d A len ∧ ¬ d 0 = 1 ∧ ¬ d 0 = 2) → R2 oc om (fun rc σc' _ σm' => RowQ t n g i s (φ s) (ψ s) len E σc σm rc σc' σm') → R2 oc om (fun rc σc' _ σm' => Nxt t n g i T rc σc' σm') := by
    intro len E oc om hl hE h
    refine h.mono (fun rc σc' _ σm' q => ?_)
    rcases q with ⟨rfl, i', c', u', q1, q2, q3, q4, q5, q6, q7, q8, q9⟩ | ⟨rfl, q⟩
    · exact Or.inl ⟨rfl, i', s + 1, _, _, b, u', w, by omega, rel_row hR hl hE q1 q2 q3 q4 q5 q6 q7 q9 hb0 q8⟩
    · exact Or.inr ⟨rfl, q⟩
  have br : ∀ {kd : Int32} {d0 : Nat} {X : Int32 → Int32} {oc : Option (Int32 × St)} {om : Option (Unit × St)}, ((kd = 1 ∧ d0 = 4) ∨ (kd = 3 ∧ d0 = 8 ∧ ∀ v, X v = v)) → R2 oc om (fun rc σc' _ σm' => BrQ t n g i s (φ s) (ψ s) u w b d0 kd X σc σm rc σc' σm') → R2 oc om (fun rc σc' _ σm' => Nxt t n g i T rc σc' σm') := by
    intro kd d0 X oc om hkd h
    refine h.mono (fun rc σc' _ σm' q => ?_)
    rcases q with ⟨rfl, i', z0, z1, z2, z3, z4, z5, z6, z7, z8, z9, z10, z11, z12, z13, z14, z15, z16⟩ | ⟨rfl, q⟩
    · exact Or.inl ⟨rfl, i', s + 1, _, _, b + 1, u, w + 1, (by rcases hkd with ⟨-, h⟩ | ⟨-, h, -⟩ <;> omega), rel_branch hR hb0 hkd z0 z1 z2 z3 z4 z5 z6 z7 z8 z9 z10 z11 z12 z13 z14 z16 z15⟩
    · exact Or.inr ⟨rfl, q⟩
  unfold x4_readStatement m_statement
  rw [r1.1.2.1, sc_kind hT r1.1 (by omega), bd_s]
  by_cases k2 : kK t n i = 2
  · rw [if_pos k2, if_pos (v1.mpr k2)]
    exact r2_isb (row (by decide) pe_el (r_put hN hT r1 (by omega) r2 r3 hL k2))
  rw [if_neg k2, if_neg (fun z => k2 (v1.mp z))]
  by_cases k3 : kK t n i = 3
  · rw [if_pos k3, if_pos (v2.mpr k3)]
    exact row (by decide) de_el (r_drop hN hT r1 (by omega) r2 r3 k3)
  rw [if_neg k3, if_neg (fun z => k3 (v2.mp z))]
  have wRet : wdP 20 8 := Or.inr (Or.inr (Or.inr (Or.inr (Or.inr (Or.inr (Or.inr (Or.inr ⟨rfl, rfl⟩)))))))
  have wIf : wdP 12 0 := Or.inl ⟨rfl, rfl⟩
  have wWh : wdP 14 2 := Or.inr (Or.inr (Or.inl ⟨rfl, rfl⟩))
  rw [sm_word r2.1 wRet, bd_s]
  by_cases k20 : kK t n i = 20
  · rw [if_neg (show ¬ (if kK t n i = 20 then (1 : Int32) else 0) = 0 by rw [if_pos k20]; decide), k20, if_neg (show ¬ (20 : Int32) = 12 by decide), if_neg (show ¬ (20 : Int32) = 14 by decide), if_pos rfl]
    exact r2_isb (row (by decide) re_el (r_ret hN hT r1 (by omega) r2 r3 hL k20))
  rw [if_pos (show (if kK t n i = 20 then (1 : Int32) else 0) = 0 from if_neg k20), sm_word r2.1 wIf, bd_s]
  by_cases k12 : kK t n i = 12
  · have hk0 : ¬ kK t n i = 0 := by rw [k12]; decide
    have hup := kQ_word (d := 2) k12 (Or.inr (Or.inr (Or.inr (Or.inl ⟨rfl, rfl⟩))))
    rw [if_neg (show ¬ (if kK t n i = 12 then (1 : Int32) else 0) = 0 by rw [if_pos k12]; decide), if_pos k12]
    exact r2_isb (br (X := fun _ => -1) (Or.inl ⟨rfl, rfl⟩) (r_branch hN hT r1 (by omega) r2 r3 r4 hL r6.1 r6.2.1 r6.2.2.1 (by omega) hk0))
  rw [if_pos (show (if kK t n i = 12 then (1 : Int32) else 0) = 0 from if_neg k12), sm_word r2.1 wWh, bd_s]
  by_cases k14 : kK t n i = 14
  · have hk0 : ¬ kK t n i = 0 := by rw [k14]; decide
    have hup := kQ_word (d := 5) k14 (Or.inl ⟨rfl, rfl⟩)
    rw [if_neg (show ¬ (if kK t n i = 14 then (1 : Int32) else 0) = 0 by rw [if_pos k14]; decide), if_neg k12, if_pos k14]
    exact r2_isb (br (X := fun v => v) (Or.inr ⟨rfl, rfl, fun _ => rfl⟩) (r_branch hN hT r1 (by omega) r2 r3 r4 hL r6.1 r6.2.1 r6.2.2.1 (by omega) hk0))
  · rw [if_pos (show (if kK t n i = 14 then (1 : Int32) else 0) = 0 from if_neg k14), if_neg k12, if_neg k14, if_neg k20]
    unfold x4_refuse m_wrong
    rw [r1.1.2.1, sc_place hT r1.1 (by omega), bd_s, bd_s, if_pos h8, bd_s, r2.1.2.2.2.1]
    exact r2_gdL (fun _ => r2_some (Or.inr ⟨rfl, fp_of (k := 1) (by decide) rfl rfl⟩))
