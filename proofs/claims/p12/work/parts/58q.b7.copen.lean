/-! the class's FACTS: routines are opened -/
def DT (R : RD) : FD := (fun _ _ _ => True, fun _ => True, fun _ _ => True, fun l => R.1 l, fun _ _ => True)
theorem jn_T {R : RD} {q : Nat} {g : Nat → Nat → Prop} : jn (DT R) q g := ⟨trivial, fun _ _ _ _ _ => trivial⟩
theorem fiS_T {R : RD} {M g : Nat → Nat → Prop} {d : Nat → Nat} {p : Nat} : fiS (DT R) M g d p := ⟨fun _ => jn_T, fun _ => ⟨fun _ _ _ _ => trivial, fun _ => ⟨fun _ _ _ => trivial, jn_T⟩⟩, fun _ => jn_T, fun _ _ _ _ => trivial⟩
theorem rwS_T {R : RD} {M g : Nat → Nat → Prop} {d : Nat → Nat} {s p : Nat} (h : RF R d s p) : rwS R (DT R) M g d p := by
  refine ⟨fun _ => trivial, fun _ => jn_T, fun _ _ => ⟨trivial, trivial, jn_T, jn_T⟩, fun _ w _ _ => ⟨fun _ => ⟨trivial, jn_T⟩, fun _ => ⟨trivial, jn_T⟩⟩, fun e => ⟨⟨fun _ => ⟨trivial, trivial⟩, fun _ _ _ => ⟨fun _ => trivial, fun _ => trivial⟩, fun _ _ _ _ _ => trivial, fun e5 => ⟨?_, fun _ _ _ _ _ => trivial⟩⟩, fun _ => fiS_T⟩⟩
  have hK : VK R d := by
    rcases h with ⟨z, -⟩ | ⟨z, -⟩ | ⟨z, -⟩ | ⟨-, -, -, k⟩ | ⟨-, -, -, -, k⟩ | ⟨-, -, k⟩ | ⟨-, -, k⟩ <;> first | exact k | omega
  rcases hK with k | k | ⟨k, -⟩ | ⟨k, -⟩ | ⟨k, -⟩ | ⟨-, k, -⟩ <;> first | exact k | omega
theorem opB_r {R : RD} {D D' : FD} {l : Nat} (h : D'.2.2.1 = D.2.2.1) : ∀ k, opB R D' l k = opB R D l k
  | 0 => rfl
  | k + 1 => by
    funext n b
    show (if n = R.2.2.2 l k then D'.2.2.1 (4 * l + k) b else opB R D' l k n b) = (if n = R.2.2.2 l k then D.2.2.1 (4 * l + k) b else opB R D l k n b)
    rw [h, opB_r h k]
theorem all0_b {i : Nat} (h : i < 64) : lb 67108863 i = decide (i < 26) := by
  rw [show (67108863 : Int64) = lN 67108863 from rfl, lb_n (by decide) h]
  have : ∀ i, i < 64 → (67108863 : Nat).testBit i = decide (i < 26) := by decide +kernel
  exact this i h
theorem all0_w : WX 67108863 := by
  refine ⟨fun i hi => ?_, fun n hn => ⟨0, by decide, ?_⟩⟩
  · by_cases h : i < 64
    · rw [all0_b h, decide_eq_false (by omega)]
    · exact lb_ge (by omega)
  · rw [all0_b (by omega), decide_eq_true (by omega)]
theorem all0_g {n b : Nat} (hn : n < 26) (hb : b < 2) : gB 67108863 n b ↔ b = 0 := by
  unfold gB
  rw [all0_b (by omega)]
  refine ⟨fun h => ?_, fun h => ⟨hn, hb, decide_eq_true (by omega)⟩⟩
  have := of_decide_eq_true h.2.2
  omega
/-- one routine is opened: what its parameters' marks say -/
theorem c_open1 {N l : Nat} {σc0 σm0 σ : St} {G s : Nat} {φ : Nat → Nat} {rec : St → Int32 → Option (Unit × St)} {Q : Unit → St → Prop} (hO : PO σc0 σm0 G s φ) (hV : CV σc0 G σ) (hW : CW σ) (hT : TH σ) (hl : (Rd G σc0 σm0).1 l) (hk : ∀ σ', OC σc0 G σ σ' → TH σ' → (∀ D, FL (Dc σ) D → opS (Rd G σc0 σm0) D l → (Dc σ).2.2.2.1 l → FL (Dc σ') D) → (gA σ' 12 = gA σ 12) → opS (Rd G σc0 σm0) (Dc σ') l → Par (rec σ' (nI (l + 1))) Q) (hrc : (Dc σ).2.2.2.1 l) : ∀ (f k : Nat) (x : Int64), k ≤ (Rd G σc0 σm0).2.2.1 l → ((x = 0 ∧ ∃ i, i < k ∧ cmk σ (4 * l + i) = 0) ∨ (WX x ∧ (∀ i, i < k → ¬ cmk σ (4 * l + i) = 0) ∧ ∀ n b, n < 26 → b < 2 → (gB x n b ↔ opB (Rd G σc0 σm0) (Dc σ) l k n b))) → Par (x1_openRoutines_26 N rec f σ (nI l) x (nI k)) Q := by
  obtain ⟨r1, r2, r3, r4, r5, r6, r7, r8⟩ := rd_ok hO hl
  have hg := pr_or hO.1.1
  have hs := hO.1.2.2.1
  have hrow : ∀ j, G + 2 ≤ j → gA σ j = gA σc0 j := fun j hj => hV.1.2.1 j (by omega)
  have len4 : lenC (G + 4) = 8 := by rcases hg with e | e <;> subst e <;> rfl
  intro f
  induction f with
  | zero => intro k x _ _ r σ' e; cases e
  | succ f ih =>
    intro k x hk2 hx
    show Par (x1_openRoutines_26_b N rec (x1_openRoutines_26 N rec f) σ (nI l) x (nI k)) Q
    unfold x1_openRoutines_26_b x1_openRoutines_80 x1_openRoutines_96
    rw [cpd2 hO hV, gd_t, hV.2.1]
    refine par_bd (c_at (show l < lenC (G + 4) by rw [len4]; exact r1)) (fun r σ1 z => ?_)
    obtain ⟨z1, z2⟩ := z
    rw [z1, z2, hrow (G + 4) (by omega), r7]
    refine par_if (fun y => ?_) (fun y => ?_)
    · have e : k = (Rd G σc0 σm0).2.2.1 l := by have := (nI_leI (by omega) (by omega)).mp y; omega
      subst e
      rw [cpd2 hO hV, gd_t, hV.2.1]
      refine par_bd (c_at (show l < lenC (G + 3) by rw [(lenG hO.1.1).1]; exact r1)) (fun r σ2 z => ?_)
      obtain ⟨z1, z2⟩ := z
      rw [z1, z2, hrow (G + 3) (by omega), r6, nI_1]
      rcases hx with ⟨e0, i, i1, i2⟩ | ⟨e0, e1, e2⟩
      · rw [e0]
        refine par_bd c_join0 (fun _ σ3 w => ?_)
        rw [w]
        refine hk σ (oc_r hV hW) hT (fun D h _ _ => h) rfl (fun _ h => ?_)
        obtain ⟨b, b1, b2⟩ := h i i1
        exact absurd i2 (tb_nz b2.2.2)
      · have hth : (∃ n, gB x n 1) → nz σ := fun ⟨n, h⟩ => by
          have : ∀ k, k ≤ (Rd G σc0 σm0).2.2.1 l → opB (Rd G σc0 σm0) (Dc σ) l k n 1 → nz σ := by
            intro k
            induction k with
            | zero => intro _ h; exact absurd (show 1 = 0 from h) (by decide)
            | succ k ihk =>
              intro hk3 h
              have h : (if n = (Rd G σc0 σm0).2.2.2 l k then (Dc σ).2.2.1 (4 * l + k) 1 else opB (Rd G σc0 σm0) (Dc σ) l k n 1) := h
              by_cases c : n = (Rd G σc0 σm0).2.2.2 l k
              · rw [if_pos c] at h; exact hT (Or.inr ⟨_, h⟩)
              · rw [if_neg c] at h; exact ihk (by omega) h
          exact this _ (Nat.le_refl _) ((e2 n 1 h.1 (by decide)).mp h)
        refine par_bd (c_join hV hW (show (Rd G σc0 σm0).2.1 l < 304 by omega) e0) (fun _ σ3 q => hk σ3 q.1 (th_join hW q hT hth) (fun D h1 h2 h3 => q.2.1 D h1 ?_) q.2.2.2.2.1 (fun _ _ => ?_))
        · refine jn_m (fl_r D) (fun n b hn hb h => ?_) (h2 (h1.2.2.2.1 l h3) (fun i hi => ?_))
          · exact opB_mono (D := Dc σ) (fun i b _ h _ => h1.2.2.1 _ _ h) _ (Nat.le_refl _) n b hb ((e2 n b hn hb).mp h)
          · obtain ⟨b, b1, b2⟩ := tb_ex (hW.1 (4 * l + i) (by omega)).2 (e1 i hi)
            exact ⟨b, b1, h1.2.2.1 _ _ ⟨by omega, b1, b2⟩⟩
        · rw [opB_r (dc_mk q.2.2.2.2.1)]
          exact jn_m (fl_r _) (fun n b hn hb h => (e2 n b hn hb).mpr h) q.2.2.1
    · have y2 : k < (Rd G σc0 σm0).2.2.1 l := Classical.byContradiction (fun y3 => y (nI_le (by omega) (by omega)))
      obtain ⟨p1, p2, p3⟩ := r8 k y2
      rw [show nI l * 4 + nI k = nI (4 * l + k) from by rw [show (4 : Int32) = nI 4 from rfl, nI_mul, nI_add, Nat.mul_comm]]
      refine par_bd (c_at (show 4 * l + k < 42 by omega)) (fun r σ2 z => ?_)
      obtain ⟨z1, z2⟩ := z
      obtain ⟨x1, x2⟩ := hW.1 (4 * l + k) (by omega)
      have x1 : gA σ 12 (4 * l + k) = nI (cmk σ (4 * l + k)) := x1
      have x2 : cmk σ (4 * l + k) < 4 := x2
      rw [z1, z2, x1, cpd2 hO hV, gd_t]
      unfold x3_parameter
      rw [hV.2.1, show nI l * 4 + nI k = nI (4 * l + k) from by rw [show (4 : Int32) = nI 4 from rfl, nI_mul, nI_add, Nat.mul_comm]]
      refine par_bd (P := fun r σ' => σ' = σ ∧ r = nI ((Rd G σc0 σm0).2.2.2 l k)) (par_gd (fun _ => par_bd (c_at (show 4 * l + k < lenC (G + 5) by rw [(lenG hO.1.1).2]; omega)) (fun r2 σ3 z => par_some ?_))) (fun r σ3 z => ?_)
      · obtain ⟨z1, z2⟩ := z
        exact ⟨z1, by rw [z2, hrow (G + 5) (by omega)]; exact p3⟩
      · obtain ⟨z1, z2⟩ := z
        rw [z1, z2, c_with p2 x2, bd_s, nI_1]
        refine ih (k + 1) _ (by omega) ?_
        rcases hx with ⟨e0, i, i1, i2⟩ | ⟨e0, e1, e2⟩
        · rw [if_pos (Or.inl e0)]
          exact Or.inl ⟨rfl, i, by omega, i2⟩
        · by_cases c : cmk σ (4 * l + k) = 0
          · rw [if_pos (Or.inr c)]
            exact Or.inl ⟨rfl, k, by omega, c⟩
          · rw [if_neg (fun h => h.elim (wx_ne e0) c)]
            refine Or.inr ⟨cw_wx e0 p2 x2 c, fun i hi => ?_, fun n b hn hb => ?_⟩
            · rcases (show i = k ∨ i < k by omega) with e | e
              · rw [e]; exact c
              · exact e1 i e
            · rw [cw_g p2]
              show _ ↔ (if n = (Rd G σc0 σm0).2.2.2 l k then (Dc σ).2.2.1 (4 * l + k) b else opB (Rd G σc0 σm0) (Dc σ) l k n b)
              by_cases e : n = (Rd G σc0 σm0).2.2.2 l k
              · rw [if_pos e, if_pos e]
                exact ⟨fun h => ⟨by omega, hb, h.2.2⟩, fun h => ⟨hn, hb, h.2.2⟩⟩
              · rw [if_neg e, if_neg e]
                exact ⟨fun h => (e2 n b hn hb).mp h.2.2, fun h => ⟨hn, hb, (e2 n b hn hb).mpr h⟩⟩
/-- if nothing has changed, what was asked of a routine still stands -/
theorem op_same {R : RD} {σ σ' : St} {l : Nat} (hc : Cg σ σ') (h0 : gI σ' 909 = 0) (h : opS R (Dc σ) l) : opS R (Dc σ') l := by
  obtain ⟨x1, x2, x3, x4, x5, x6⟩ := hc.2.2.1 h0
  have e1 : (Dc σ').2.2.1 = (Dc σ).2.2.1 := dc_mk x3
  unfold opS at *
  rw [opB_r e1, e1]
  intro h1 h2
  refine jn_m hc.1 (fun _ _ _ _ z => z) (h ?_ h2)
  rw [show (Dc σ').2.2.2.1 l = (Dc σ).2.2.2.1 l from by unfold Dc crd; rw [x5]] at h1
  exact h1
theorem c_open {N : Nat} {σc0 σm0 : St} {G s : Nat} {φ : Nat → Nat} {σ0 : St} {D : FD} {C : Prop} (hO : PO σc0 σm0 G s φ) (hC : C → ∀ r, (Rd G σc0 σm0).1 r → opS (Rd G σc0 σm0) D r) : ∀ (f i : Nat) (σ : St), i ≤ 8 → OC σc0 G σ0 σ → TH σ → FL (Dc σ) (DT (Rd G σc0 σm0)) → (C → FL (Dc σ) D) → (gI σ 909 = 0 → ∀ l, l < i → opS (Rd G σc0 σm0) (Dc σ) l) → Par (x1_openRoutines_2 N f σ (nI i)) (fun _ σ' => OC σc0 G σ0 σ' ∧ TH σ' ∧ FL (Dc σ') (DT (Rd G σc0 σm0)) ∧ (C → FL (Dc σ') D) ∧ (gI σ' 909 = 0 → ∀ l, l < 8 → opS (Rd G σc0 σm0) (Dc σ') l)) := by
  intro f
  induction f with
  | zero => intro i σ _ _ _ _ _ _ r σ' e; cases e
  | succ f ih =>
    intro i σ hi h1 h2 h3 h4 h5
    show Par (x1_openRoutines_2_b N (x1_openRoutines_2 N f) σ (nI i)) _
    obtain ⟨w41, w42⟩ := h1.2.1.2.2.2.1
    unfold x1_openRoutines_2_b x1_openRoutines_96
    rw [w41]
    refine par_if (fun z => ?_) (fun z => ?_)
    · have := (nI_leI (a := 8) (by decide) (by omega)).mp z
      exact par_some ⟨h1, h2, h3, h4, fun e l hl => h5 e l (by omega)⟩
    · have z2 : i < 8 := Classical.byContradiction (fun y => z (nI_le (a := 8) (by omega) (by omega)))
      refine par_if (fun y => ?_) (fun y => ?_)
      · have y0 := (rb0 _ w42 i z2).mp y
        rw [nI_1]
        refine ih (i + 1) σ (by omega) h1 h2 h3 h4 (fun e l hl => ?_)
        rcases (show l = i ∨ l < i by omega) with e2 | e2
        · rw [e2]
          exact fun h => absurd h.2 (by rw [y0]; decide)
        · exact h5 e l e2
      · have y0 : (crd σ).testBit i = true := by
          cases e : (crd σ).testBit i
          · exact absurd ((rb0 _ w42 i z2).mpr e) y
          · rfl
        have hrc : (Dc σ).2.2.2.1 i := ⟨z2, y0⟩
        have hl : (Rd G σc0 σm0).1 i := h3.2.2.2.1 i hrc
        refine c_open1 hO h1.1 h1.2.1 h2 hl (fun σ' q1 q2 q3 q4 q5 => ih (i + 1) σ' (by omega) (oc_t h1 q1) q2 (q3 _ h3 (fun _ _ => jn_T) hrc) (fun c => q3 D (h4 c) (hC c i hl) hrc) (fun e l hl2 => ?_)) hrc N 0 _ (Nat.zero_le _) (Or.inr ⟨all0_w, fun i hi => absurd hi (Nat.not_lt_zero i), fun n b hn hb => all0_g hn hb⟩)
        rcases (show l = i ∨ l < i by omega) with e2 | e2
        · rw [e2]; exact q5
        · exact op_same q1.2.2 e (h5 (q1.2.2.2.2.1 e).1 l e2)
