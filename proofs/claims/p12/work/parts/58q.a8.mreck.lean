/-! the reference's FACTS: a pass over all acts, and all passes -/
theorem ae_m {R : RD} {k o t h ow : Nat} {ag mk : Nat → Nat} {P P' : Nat → Nat → Prop} {F F' : Nat → Int64 → Prop} {T T' : Nat → Nat → Prop} {B B' : Nat → Prop} {x : Int64} (hP : ∀ m v, P m v → P' m v) (hF : ∀ q y, F q y → F' q y) (hT : ∀ t b, T t b → T' t b) (hB : ∀ r, B r → B' r) : ∀ c, AE R k o t h ow ag mk P F T B x c → AE R k o t h ow ag mk P' F' T' B' x c
  | 0, e => hF _ _ e
  | 1, e => hF _ _ e
  | 2, e => ⟨hP _ _ e.1, hP _ _ e.2.1, hF _ _ e.2.2⟩
  | 3, e => ⟨hP _ _ e.1, hP _ _ e.2.1, hF _ _ e.2.2⟩
  | 4, e => hF _ _ e
  | 5, e => fun h1 h2 => hF _ _ (e h1 h2)
  | 6, e => ⟨fun i hi => hP _ _ (e.1 i hi), hB _ e.2.1, fun h1 => hF _ _ (e.2.2 h1)⟩
  | 7, e => hF _ _ e
  | 8, e => fun h1 => ⟨hP _ _ (e h1).1, hF _ _ (e h1).2⟩
  | 9, e => hP _ _ e
  | 10, e => ⟨fun h1 => ⟨hT _ _ (e.1 h1).1, hF _ _ (e.1 h1).2⟩, fun h1 => ⟨hT _ _ (e.2 h1).1, hF _ _ (e.2 h1).2⟩⟩
  | 11, e => ⟨fun h1 => ⟨hT _ _ (e.1 h1).1, hF _ _ (e.1 h1).2⟩, fun h1 => ⟨hT _ _ (e.2 h1).1, hF _ _ (e.2 h1).2⟩⟩
  | 12, e => ⟨hT _ _ e.1, hF _ _ e.2.1, hT _ _ e.2.2.1, hF _ _ e.2.2.2⟩
  | 13, e => hF _ _ e
  | _ + 14, e => e
theorem sb_A {R : RD} {φ : Nat → Nat} {k o t h ow c : Nat} {ag : Nat → Nat} : Sb (fun σ => ¬ gZ σ 41 k = 0 → AS R φ σ k o t h ow ag (gZ σ 41 k) c) := fun σ σ' u e p hne => by
  have e41 := (u.1 e).2.1
  rw [e41] at hne
  have := p hne
  show AS R φ σ' k o t h ow ag (gZ σ' 41 k) c
  unfold AS at *
  rw [e41, mkv_up u e]
  exact ae_m (fun m v => sb_P σ σ' u e) (fun q y => sb_F σ σ' u e) (fun t b => sb_T σ σ' u e) (fun r => sb_B σ σ' u e) c this
/-- the program, as the passes want it -/
def PA (σm0 : St) (R : RD) (a : Nat) (cN oN tN hN ow : Nat → Nat) (ag : Nat → Nat → Nat) : Prop := ∀ k, k < a → gA σm0 12 k = nI (cN k) ∧ AB σm0 R a k (oN k) (tN k) (hN k) (ow k) (ag k) (cN k)
/-- nothing more is asked for -/
def FX (R : RD) (φ : Nat → Nat) (a l : Nat) (tv cN oN tN hN ow : Nat → Nat) (ag : Nat → Nat → Nat) (σ : St) : Prop := (∀ k, k < a → ¬ gZ σ 41 k = 0 → AS R φ σ k (oN k) (tN k) (hN k) (ow k) (ag k) (gZ σ 41 k) (cN k)) ∧ Bm R φ σ l ∧ ∀ j, j < R.2.2.1 l → Pm σ (4 * l + j) (tv j) ∧ ((tv j).testBit 1 = true → Pm σ 40 2 ∧ Pm σ 41 2)
/-- (U, D) has all that is asked for -/
def CL (R : RD) (φ : Nat → Nat) (a l : Nat) (tv cN oN tN hN ow : Nat → Nat) (ag : Nat → Nat → Nat) (U : Nat → Int64 → Prop) (D : FD) : Prop := (∀ k x, k < a → U k x → AC R φ U D k (oN k) (tN k) (hN k) (ow k) (ag k) x (cN k)) ∧ BD R φ U D l ∧ ∀ j, j < R.2.2.1 l → PD D (4 * l + j) (tv j) ∧ ((tv j).testBit 1 = true → PD D 40 2 ∧ PD D 41 2)
theorem up_I {σ : St} : ∀ k, k ≠ 45 → gI (sI σ 45 0) k = gI σ k := fun k hk => gI_ne (fun e => hk e.symm)
section
variable {N a l G s : Nat} {U : Nat → Int64 → Prop} {D : FD} {σc0 σm0 : St} {φ tv cN oN tN hN ow : Nat → Nat} {ag : Nat → Nat → Nat}
theorem g_pass (hU : ∀ k x y, U k x → U k y → U k (x ||| y)) (hO : PO σc0 σm0 G s φ) (ha : a ≤ 1299) (h18 : gI σm0 18 = nI a) (hA : PA σm0 (Rd G σc0 σm0) a cN oN tN hN ow ag) {rec : St → Option (Unit × St)} {Q : Unit → St → Prop} {σs : St} {C : Prop} {S : St → Prop} (hS : Sb S) (hs : Kq σm0 σs) (hC : C → CL (Rd G σc0 σm0) φ a l tv cN oN tN hN ow ag U D) (hrec : ∀ σ', Kq σm0 σ' → GO a U D C (fun σ => S σ ∧ ∀ k, k < a → ¬ gZ σ 41 k = 0 → AS (Rd G σc0 σm0) φ σ k (oN k) (tN k) (hN k) (ow k) (ag k) (gZ σ 41 k) (cN k)) σs σ' → Par (rec σ') Q) : ∀ (f k : Nat) (σ : St), k ≤ a → GO a U D C (fun σ => S σ ∧ ∀ j, j < k → ¬ gZ σ 41 j = 0 → AS (Rd G σc0 σm0) φ σ j (oN j) (tN j) (hN j) (ow j) (ag j) (gZ σ 41 j) (cN j)) σs σ → Par (m_reckons_158 N rec f σ (nI k)) Q := by
  intro f
  induction f with
  | zero => intro k σ _ _ r σ' e; cases e
  | succ f ih =>
    intro k σ hk g1
    have hq := kq_up hs g1.2.1
    show Par (m_reckons_158_b N rec (m_reckons_158 N rec f) σ (nI k)) Q
    unfold m_reckons_158_b m_reckons_194 m_reckons_188
    rw [hq.2 18 (by decide) (by decide), h18, nI_clamp (n := k) (by omega), nI_1]
    refine par_if (fun z => ?_) (fun z => par_gd (fun _ => ?_))
    · have : k = a := by have := (nI_leI (by omega) (by omega)).mp z; omega
      subst this
      exact hrec σ hq g1
    · have z2 : k < a := Classical.byContradiction (fun y => z (nI_le (by omega) (by omega)))
      have sb1 : Sb (fun σ => S σ ∧ ∀ j, j < k → ¬ gZ σ 41 j = 0 → AS (Rd G σc0 σm0) φ σ j (oN j) (tN j) (hN j) (ow j) (ag j) (gZ σ 41 j) (cN j)) := sb_and hS (fun s1 s2 u e p j hj => sb_A s1 s2 u e (p j hj))
      refine par_if (fun y => ih (k + 1) σ (by omega) (go_m g1 id (fun e => ⟨e.1, fun j hj hne => ?_⟩))) (fun y => par_gd (fun _ => ?_))
      · rcases (show j = k ∨ j < k by omega) with e2 | e2
        · rw [e2] at hne; exact absurd (lgc.mp y) hne
        · exact e.2 j e2 hne
      · have hne : ¬ gZ σ 41 k = 0 := fun e => y (lgc.mpr e)
        refine par_bd (g_goes (a := a) (U := U) (D := D) hU hO hq g1.1 ha z2 (hA k z2).1 (hA k z2).2 (g1.1.2.2.2 k z2 hne)) (fun _ σ2 g2 => ?_)
        refine ih (k + 1) σ2 (by omega) (go_u g1 sb1 g2 id (fun c j1 => (hC c).1 k _ z2 (j1.1 k z2 hne)) (fun e0 e1 e2 => ⟨e1.1, fun j hj hn => ?_⟩))
        rcases (show j = k ∨ j < k by omega) with e3 | e3
        · rw [e3, (g2.2.1.1 e0).2.1]; exact e2
        · exact e1.2 j e3 hn
theorem g_params (hU : ∀ k x y, U k x → U k y → U k (x ||| y)) (hO : PO σc0 σm0 G s φ) (ha : a ≤ 1299) (h18 : gI σm0 18 = nI a) (hA : PA σm0 (Rd G σc0 σm0) a cN oN tN hN ow ag) (hl : (Rd G σc0 σm0).1 l) (h39 : gI σm0 39 = nI l) (htv : ∀ j, j < 4 → tv j < 4) {rec : St → Option (Unit × St)} {Q : Unit → St → Prop} {σs : St} (hs : Kq σm0 σs) (h40 : ∀ j, j < 4 → gA σs 40 j = nI (tv j)) (hrec : ∀ σ', Kq σm0 σ' → GO a U D (CL (Rd G σc0 σm0) φ a l tv cN oN tN hN ow ag U D) (FX (Rd G σc0 σm0) φ a l tv cN oN tN hN ow ag) σs σ' → Par (rec σ') Q) : ∀ (f j : Nat) (σ : St), j ≤ (Rd G σc0 σm0).2.2.1 l → GO a U D (CL (Rd G σc0 σm0) φ a l tv cN oN tN hN ow ag U D) (fun σ => ∀ i, i < j → Pm σ (4 * l + i) (tv i) ∧ ((tv i).testBit 1 = true → Pm σ 40 2 ∧ Pm σ 41 2)) σs σ → Par (m_reckons_96 N rec f σ (nI j)) Q := by
  obtain ⟨r1, r2, r3, r4, r5, r6, r7, r8⟩ := rd_ok hO hl
  intro f
  induction f with
  | zero => intro j σ _ _ r σ' e; cases e
  | succ f ih =>
    intro j σ hj g1
    have hq := kq_up hs g1.2.1
    have sb1 : Sb (fun σ => ∀ i, i < j → Pm σ (4 * l + i) (tv i) ∧ ((tv i).testBit 1 = true → Pm σ 40 2 ∧ Pm σ 41 2)) := fun s1 s2 u e p i hi => ⟨sb_P s1 s2 u e (p i hi).1, fun y => sb_and sb_P sb_P s1 s2 u e ((p i hi).2 y)⟩
    show Par (m_reckons_96_b N rec (m_reckons_96 N rec f) σ (nI j)) Q
    unfold m_reckons_96_b m_reckons_148 m_reckons_142
    rw [hq.2 39 (by decide) (by decide), h39, nI_clamp (n := l) (by omega), hq.1 20 (by decide), r5, nI_1]
    refine par_gd (fun _ => par_if (fun z => ?_) (fun z => par_gd (fun _ => ?_)))
    · have e : j = (Rd G σc0 σm0).2.2.1 l := by have := (nI_leI (by omega) (by omega)).mp z; omega
      subst e
      refine par_bd (g_begins (N := N) (a := a) (D := D) hU hO hq g1.1 hl) (fun _ σ2 g2 => ?_)
      have g12 := go_t (S := fun σ => (∀ i, i < (Rd G σc0 σm0).2.2.1 l → Pm σ (4 * l + i) (tv i) ∧ ((tv i).testBit 1 = true → Pm σ 40 2 ∧ Pm σ 41 2)) ∧ Bm (Rd G σc0 σm0) φ σ l) g1 sb1 g2 id (fun c _ => c.2.1) (fun e1 e2 => ⟨e1, e2⟩)
      refine g_pass (l := l) (tv := tv) hU hO ha h18 hA (S := fun σ => (∀ i, i < (Rd G σc0 σm0).2.2.1 l → Pm σ (4 * l + i) (tv i) ∧ ((tv i).testBit 1 = true → Pm σ 40 2 ∧ Pm σ 41 2)) ∧ Bm (Rd G σc0 σm0) φ σ l) (sb_and sb1 sb_B) hs id (fun σ' hq' g3 => hrec σ' hq' (go_m g3 id (fun e => ⟨e.2, e.1.2, e.1.1⟩))) N 0 σ2 (Nat.zero_le _) (go_m g12 id (fun e => ⟨e, fun j hj => absurd hj (Nat.not_lt_zero j)⟩))
    · have z2 : j < (Rd G σc0 σm0).2.2.1 l := Classical.byContradiction (fun y => z (nI_le (by omega) (by omega)))
      have h40' : gA σ 40 j = nI (tv j) := by rw [g1.2.1.2.2.1 40 (by decide) (by decide)]; exact h40 j (by omega)
      rw [nI_clamp (n := j) (by omega), h40', show (4 : Int32) * nI l + nI j = nI (4 * l + j) from by rw [show (4 : Int32) = nI 4 from rfl, nI_mul, nI_add]]
      refine par_bd (g_puts (a := a) (U := U) (D := D) g1.1 (by omega) (htv j (by omega))) (fun _ σ2 g2 => par_gd (fun _ => ?_))
      have h40'' : gA σ2 40 j = nI (tv j) := by rw [g2.2.1.2.2.1 40 (by decide) (by decide)]; exact h40'
      rw [h40'']
      have g12 := go_t (C := CL (Rd G σc0 σm0) φ a l tv cN oN tN hN ow ag U D) (S := fun σ => (∀ i, i < j → Pm σ (4 * l + i) (tv i) ∧ ((tv i).testBit 1 = true → Pm σ 40 2 ∧ Pm σ 41 2)) ∧ Pm σ (4 * l + j) (tv j)) g1 sb1 g2 id (fun c _ => (c.2.2 j z2).1) (fun e1 e2 => ⟨e1, e2⟩)
      refine par_if (fun y => ih (j + 1) σ2 (by omega) (go_m g12 id (fun e i hi => ?_))) (fun y => ?_)
      · rcases (show i = j ∨ i < j by omega) with e2 | e2
        · rw [e2]; exact ⟨e.2, fun y2 => absurd y2 ((fw2 _ (htv j (by omega))).mp y)⟩
        · exact e.1 i e2
      · have yb : (tv j).testBit 1 = true := Classical.byContradiction (fun e => y ((fw2 _ (htv j (by omega))).mpr e))
        refine par_bd (g_things (a := a) (U := U) (D := D) g2.1) (fun _ σ3 g3 => ih (j + 1) σ3 (by omega) (go_t g12 (sb_and sb1 sb_P) g3 id (fun c _ => (c.2.2 j z2).2 yb) (fun e e3 i hi => ?_)))
        rcases (show i = j ∨ i < j by omega) with e2 | e2
        · rw [e2]; exact ⟨e.2, fun _ => e3⟩
        · exact e.1 i e2
/-- what stands between two passes -/
def RQ (R : RD) (φ : Nat → Nat) (a l : Nat) (tv cN oN tN hN ow : Nat → Nat) (ag : Nat → Nat → Nat) (U : Nat → Int64 → Prop) (D : FD) (σm0 σ : St) : Prop := Kq σm0 σ ∧ WM a σ ∧ (CL R φ a l tv cN oN tN hN ow ag U D → Jr a U D σ) ∧ (gI σ 45 = 0 → FX R φ a l tv cN oN tN hN ow ag σ) ∧ ∀ j, j < 4 → gA σ 40 j = nI (tv j)
theorem g_82 (hU : ∀ k x y, U k x → U k y → U k (x ||| y)) (hO : PO σc0 σm0 G s φ) (ha : a ≤ 1299) (h18 : gI σm0 18 = nI a) (hA : PA σm0 (Rd G σc0 σm0) a cN oN tN hN ow ag) (hl : (Rd G σc0 σm0).1 l) (h39 : gI σm0 39 = nI l) (htv : ∀ j, j < 4 → tv j < 4) : ∀ (f : Nat) (σ : St), RQ (Rd G σc0 σm0) φ a l tv cN oN tN hN ow ag U D σm0 σ → Par (m_reckons_82 N f σ) (fun _ σ' => RQ (Rd G σc0 σm0) φ a l tv cN oN tN hN ow ag U D σm0 σ' ∧ gI σ' 45 = 0) := by
  intro f
  induction f with
  | zero => intro σ _ r σ' e; cases e
  | succ f ih =>
    intro σ hR
    obtain ⟨q1, q2, q3, q4, q5⟩ := id hR
    show Par (m_reckons_82_b N (m_reckons_82 N f) σ) _
    unfold m_reckons_82_b
    refine par_if (fun z => par_some ⟨hR, z⟩) (fun z => ?_)
    have hs : Kq σm0 (sI σ 45 0) := ⟨q1.1, fun k hk h0 => (up_I k (by omega)).trans (q1.2 k hk h0)⟩
    have hW : WM a (sI σ 45 0) := q2
    refine g_params (l := l) (tv := tv) hU hO ha h18 hA hl h39 htv hs q5 (fun σ' hq' g => ih σ' ⟨hq', g.1, fun c => g.2.2.1 (q3 c) c, g.2.2.2, fun j hj => ?_⟩) N 0 _ (Nat.zero_le _) (go_r hW (fun i hi => absurd hi (Nat.not_lt_zero i)))
    rw [g.2.1.2.2.1 40 (by decide) (by decide)]
    exact q5 j hj
end
/-- rows are emptied; then the passes -/
theorem g_65 {N a : Nat} {σ0 : St} {Q : Unit → St → Prop} (ha : a ≤ 1299) (h18 : gI σ0 18 = nI a) (hk : ∀ σ, (∀ k, gI σ k = gI σ0 k) → (∀ j, j ≠ 42 → j ≠ 44 → gA σ j = gA σ0 j) → (∀ k, k < a → gZ σ 41 k = 0) → (∀ m, m < 42 → gA σ 42 m = 0) → (∀ t, t < 25 → gA σ 44 t = 0) → Par (m_reckons_65 N σ) Q) : Par (m_reckons N σ0) Q := by
  have l46 : ∀ (f t : Nat) (σ : St), t ≤ 25 → (∀ k, gI σ k = gI σ0 k) → (∀ j, j ≠ 42 → j ≠ 44 → gA σ j = gA σ0 j) → (∀ k, k < a → gZ σ 41 k = 0) → (∀ m, m < 42 → gA σ 42 m = 0) → (∀ i, i < t → gA σ 44 i = 0) → Par (m_reckons_46 N f σ (nI t)) Q := by
    intro f
    induction f with
    | zero => intro t σ _ _ _ _ _ _ r σ' e; cases e
    | succ f ih =>
      intro t σ ht h1 h2 h3 h4 h5
      show Par (m_reckons_46_b N (m_reckons_46 N f) σ (nI t)) Q
      unfold m_reckons_46_b
      rw [nI_clamp (n := t) (by omega), nI_1]
      refine par_if (fun z => ?_) (fun z => par_gd (fun _ => ?_))
      · have := (nI_leI (a := 25) (by decide) (by omega)).mp z
        exact hk σ h1 h2 h3 h4 (fun i hi => h5 i (by omega))
      · have z2 : t < 25 := Classical.byContradiction (fun y => z (nI_le (a := 25) (by omega) (by omega)))
        refine ih (t + 1) _ (by omega) h1 (fun j j1 j2 => ?_) h3 (fun m hm => ?_) (fun i hi => ?_)
        · rw [gA_sA, if_neg j2]; exact h2 j j1 j2
        · rw [gA_sA, if_neg (by decide)]; exact h4 m hm
        · rw [gA_sA, if_pos rfl]
          by_cases e : i = t
          · rw [e, pk_us]
          · rw [pk_un e]; exact h5 i (by omega)
  have l25 : ∀ (f t : Nat) (σ : St), t ≤ 42 → (∀ k, gI σ k = gI σ0 k) → (∀ j, j ≠ 42 → j ≠ 44 → gA σ j = gA σ0 j) → (∀ k, k < a → gZ σ 41 k = 0) → (∀ i, i < t → gA σ 42 i = 0) → Par (m_reckons_25 N f σ (nI t)) Q := by
    intro f
    induction f with
    | zero => intro t σ _ _ _ _ _ r σ' e; cases e
    | succ f ih =>
      intro t σ ht h1 h2 h3 h5
      show Par (m_reckons_25_b N (m_reckons_25 N f) σ (nI t)) Q
      unfold m_reckons_25_b
      rw [nI_clamp (n := t) (by omega), nI_1]
      refine par_if (fun z => ?_) (fun z => par_gd (fun _ => ?_))
      · have := (nI_leI (a := 42) (by decide) (by omega)).mp z
        exact l46 N 0 σ (by decide) h1 h2 h3 (fun m hm => h5 m (by omega)) (fun i hi => absurd hi (Nat.not_lt_zero i))
      · have z2 : t < 42 := Classical.byContradiction (fun y => z (nI_le (a := 42) (by omega) (by omega)))
        refine ih (t + 1) _ (by omega) h1 (fun j j1 j2 => ?_) h3 (fun i hi => ?_)
        · rw [gA_sA, if_neg j1]; exact h2 j j1 j2
        · rw [gA_sA, if_pos rfl]
          by_cases e : i = t
          · rw [e, pk_us]
          · rw [pk_un e]; exact h5 i (by omega)
  have l2 : ∀ (f t : Nat) (σ : St), t ≤ a → (∀ k, gI σ k = gI σ0 k) → (∀ j, gA σ j = gA σ0 j) → (∀ k, k < t → gZ σ 41 k = 0) → Par (m_reckons_2 N f σ (nI t)) Q := by
    intro f
    induction f with
    | zero => intro t σ _ _ _ _ r σ' e; cases e
    | succ f ih =>
      intro t σ ht h1 h2 h3
      show Par (m_reckons_2_b N (m_reckons_2 N f) σ (nI t)) Q
      unfold m_reckons_2_b
      rw [nI_clamp (n := t) (by omega), nI_1, h1 18, h18]
      refine par_if (fun z => ?_) (fun z => par_gd (fun _ => ?_))
      · have := (nI_leI (by omega) (by omega)).mp z
        exact l25 N 0 σ (by decide) h1 (fun j _ _ => h2 j) (fun k hk => h3 k (by omega)) (fun i hi => absurd hi (Nat.not_lt_zero i))
      · have z2 : t < a := Classical.byContradiction (fun y => z (nI_le (by omega) (by omega)))
        refine ih (t + 1) _ (by omega) h1 h2 (fun k hk => ?_)
        show (if 41 = 41 then vp_updL (gZ σ 41) t 0 else gZ σ 41) k = 0
        rw [if_pos rfl]
        by_cases e : k = t
        · rw [e, pk_uLs]
        · rw [pk_uLn e]; exact h3 k (by omega)
  unfold m_reckons
  exact l2 N 0 σ0 (Nat.zero_le _) (fun _ => rfl) (fun _ => rfl) (fun k hk => absurd hk (Nat.not_lt_zero k))
theorem g_frees {N : Nat} {σ0 : St} : Par (m_frees N σ0) (fun _ σ' => (∀ k, gI σ' k = gI σ0 k) ∧ (∀ j, j ≠ 43 → gA σ' j = gA σ0 j) ∧ ∀ m, m < 42 → gA σ' 43 m = 0) := by
  have lp : ∀ (f t : Nat) (σ : St), t ≤ 42 → (∀ k, gI σ k = gI σ0 k) → (∀ j, j ≠ 43 → gA σ j = gA σ0 j) → (∀ i, i < t → gA σ 43 i = 0) → Par (m_frees_2 N f σ (nI t)) (fun _ σ' => (∀ k, gI σ' k = gI σ0 k) ∧ (∀ j, j ≠ 43 → gA σ' j = gA σ0 j) ∧ ∀ m, m < 42 → gA σ' 43 m = 0) := by
    intro f
    induction f with
    | zero => intro t σ _ _ _ _ r σ' e; cases e
    | succ f ih =>
      intro t σ ht h1 h2 h3
      show Par (m_frees_2_b N (m_frees_2 N f) σ (nI t)) _
      unfold m_frees_2_b
      rw [nI_clamp (n := t) (by omega), nI_1]
      refine par_if (fun z => ?_) (fun z => par_gd (fun _ => ?_))
      · have := (nI_leI (a := 42) (by decide) (by omega)).mp z
        exact par_some ⟨h1, h2, fun m hm => h3 m (by omega)⟩
      · have z2 : t < 42 := Classical.byContradiction (fun y => z (nI_le (a := 42) (by omega) (by omega)))
        refine ih (t + 1) _ (by omega) h1 (fun j j1 => ?_) (fun i hi => ?_)
        · rw [gA_sA, if_neg j1]; exact h2 j j1
        · rw [gA_sA, if_pos rfl]
          by_cases e : i = t
          · rw [e, pk_us]; rfl
          · rw [pk_un e]; exact h3 i (by omega)
  unfold m_frees
  exact lp N 0 σ0 (by decide) (fun _ => rfl) (fun _ _ => rfl) (fun i hi => absurd hi (Nat.not_lt_zero i))
/-- the reference's FACTS, of an entry -/
theorem g_facts {N a l G s : Nat} {U : Nat → Int64 → Prop} {D : FD} {σc0 σm0 : St} {φ tv cN oN tN hN ow : Nat → Nat} {ag : Nat → Nat → Nat} (hU : ∀ k x y, U k x → U k y → U k (x ||| y)) (hO : PO σc0 σm0 G s φ) (ha : a ≤ 1299) (h18 : gI σm0 18 = nI a) (hA : PA σm0 (Rd G σc0 σm0) a cN oN tN hN ow ag) (hl : (Rd G σc0 σm0).1 l) (h39 : gI σm0 39 = nI l) (htv : ∀ j, j < 4 → tv j < 4) (h40 : ∀ j, j < 4 → gA σm0 40 j = nI (tv j)) {σ : St} (hI : ∀ k, k ≠ 0 → gI σ k = gI σm0 k) (hR : ∀ j, j ≠ 43 → gA σ j = gA σm0 j) (h43 : ∀ m, m < 42 → gA σ 43 m = 0) : Par (m_reckons N σ) (fun _ σ' => RQ (Rd G σc0 σm0) φ a l tv cN oN tN hN ow ag U D σm0 σ' ∧ gI σ' 45 = 0) := by
  obtain ⟨r1, -⟩ := rd_ok hO hl
  refine g_65 ha ((hI 18 (by decide)).trans h18) (fun σ1 e1 e2 e3 e4 e5 => ?_)
  unfold m_reckons_65
  rw [e1 39, hI 39 (by decide), h39, if_neg (nI_nm1 (by omega))]
  refine g_82 hU hO ha h18 hA hl h39 htv N _ ⟨⟨fun j hj => ?_, fun k hk h0 => ?_⟩, ⟨fun m hm => ?_, fun m hm => ?_, fun t ht => ?_, fun k hk hne => absurd (e3 k hk) hne⟩, fun _ => ⟨fun k hk hne => absurd (e3 k hk) hne, fun m b hm hb h => ?_, fun t b ht hb h => ?_⟩, fun e => absurd (show (1 : Int32) = 0 from e) (by decide), fun j hj => ?_⟩
  · exact (e2 j (by omega) (by omega)).trans (hR j (by omega))
  · rw [gI_ne (by omega), e1 k]; exact hI k h0
  · have e : gA σ1 42 m = 0 := e4 m hm
    show gA σ1 42 m = nI (gA σ1 42 m).toNatClampNeg ∧ (gA σ1 42 m).toNatClampNeg < 4
    rw [e]
    exact ⟨rfl, by decide⟩
  · exact (congrFun (e2 43 (by decide) (by decide)) m).trans (h43 m hm)
  · have e : gA σ1 44 t = 0 := e5 t ht
    show gA σ1 44 t = nI (gA σ1 44 t).toNatClampNeg ∧ (gA σ1 44 t).toNatClampNeg < 4
    rw [e]
    exact ⟨rfl, by decide⟩
  · have h : (gA σ1 42 m).toNatClampNeg.testBit b = true := h
    rw [e4 m hm, show ((0 : Int32).toNatClampNeg) = 0 from rfl, Nat.zero_testBit] at h
    exact absurd h (by decide)
  · have h : (gA σ1 44 t).toNatClampNeg.testBit b = true := h
    rw [e5 t ht, show ((0 : Int32).toNatClampNeg) = 0 from rfl, Nat.zero_testBit] at h
    exact absurd h (by decide)
  · exact (congrFun (e2 40 (by decide) (by decide)) j).trans ((congrFun (hR 40 (by decide)) j).trans (h40 j hj))
