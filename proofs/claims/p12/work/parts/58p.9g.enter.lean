/-! runs: a call's frame, both sides -/
def arF (b q : Nat) (pn ar : Nat → Nat) (f : Nat → Int32) : Nat → (Nat → Int32)
  | 0 => f
  | i + 1 => upd (arF b q pn ar f i) (b + pn i) (arF b q pn ar f i (q + ar i))
theorem arF_rel {b q L m : Nat} {pn ar : Nat → Nat} {f g : Nat → Int32} (h : ∀ i, i < L → f i = g i) (hq : ∀ j, j < m → q + ar j < L) : ∀ j, j ≤ m → ∀ i, i < L → arF b q pn ar f j i = arF b q pn ar g j i := by
  intro j
  induction j with
  | zero => intro _ i hi; exact h i hi
  | succ j ih =>
    intro hj i hi
    show upd (arF b q pn ar f j) (b + pn j) (arF b q pn ar f j (q + ar j)) i = upd (arF b q pn ar g j) (b + pn j) (arF b q pn ar g j (q + ar j)) i
    by_cases e : i = b + pn j
    · rw [e, pk_us, pk_us]
      exact ih (by omega) _ (hq j (by omega))
    · rw [pk_un e, pk_un e]
      exact ih (by omega) i hi
theorem ar_eq {m b i : Nat} (hm : m ≤ 4) (hb : b < 2 ^ 20) (hi : i < m) : (m * 2 ^ 20 + b) / 2 ^ (5 * i) % 32 = b / 2 ^ (5 * i) % 32 := by
  rcases (show i = 0 ∨ i = 1 ∨ i = 2 ∨ i = 3 by omega) with e | e | e | e <;> subst e
  · show (m * 1048576 + b) / 1 % 32 = b / 1 % 32
    omega
  · show (m * 1048576 + b) / 32 % 32 = b / 32 % 32
    omega
  · show (m * 1048576 + b) / 1024 % 32 = b / 1024 % 32
    omega
  · show (m * 1048576 + b) / 32768 % 32 = b / 32768 % 32
    omega
theorem cgA {N : Nat} {σc0 σm0 σ : St} {G s p m b : Nat} {φ : Nat → Nat} {c : Int32} (hO : RO σc0 σm0 G s φ) (hC : RC σc0 G c σ) (hp : p < s) (h8 : rwD G p σc0 8 = nI (m * 2 ^ 20 + b)) (hm : m ≤ 4) (hb : b < 2 ^ 20) : x0_arguments N σ (gP σ 1505) (nI p) = some (nI m, σ) := by
  unfold x0_arguments
  rw [cgd hO hC, gd_t, cg (v := 8) hO hC hp (q := 8) (by decide) rfl, bd_s, h8, show (20 : Int32) = nI 20 from rfl, shr_n (by decide) (by omega), show (m * 2 ^ 20 + b) / 2 ^ 20 = m by omega]
theorem cgB {N : Nat} {σc0 σm0 σ : St} {G s p m b i : Nat} {φ : Nat → Nat} {c : Int32} (hO : RO σc0 σm0 G s φ) (hC : RC σc0 G c σ) (hp : p < s) (h8 : rwD G p σc0 8 = nI (m * 2 ^ 20 + b)) (hm : m ≤ 4) (hb : b < 2 ^ 20) (hi : i < m) : x0_argument N σ (gP σ 1505) (nI p) (nI i) = some (nI (b / 2 ^ (5 * i) % 32), σ) := by
  unfold x0_argument
  have hd : (m * 2 ^ 20 + b) / 2 ^ (5 * i) < 2 ^ 32 := Nat.lt_of_le_of_lt (Nat.div_le_self _ _) (by omega)
  rw [cgd hO hC, gd_t, cg (v := 8) hO hC hp (q := 8) (by decide) rfl, bd_s, h8, show nI i * 5 = nI (5 * i) from by rw [show (5 : Int32) = nI 5 from rfl, nI_mul, Nat.mul_comm], shr_n (by omega) (by omega), a31_n hd, ar_eq hm hb hi]
theorem lenG {G : Nat} (h : isPr G = true) : lenC (G + 3) = 8 ∧ lenC (G + 5) = 32 := by
  rcases pr_or h with e | e <;> subst e <;> exact ⟨rfl, rfl⟩
theorem cgP {N : Nat} {σ : St} {G r i : Nat} (hg : isPr G = true) (h4 : gP σ 1504 = G) (hr : r < 8) (hi : i < 4) : Par (x3_parameter N σ (gP σ 1504) (nI r) (nI i)) (fun v σ' => σ' = σ ∧ v = gA σ (G + 5) (4 * r + i)) := by
  unfold x3_parameter
  rw [h4, show nI r * 4 + nI i = nI (4 * r + i) from by rw [show (4 : Int32) = nI 4 from rfl, nI_mul, nI_add, Nat.mul_comm]]
  exact par_gd (fun _ => par_bd (c_at (by rw [(lenG hg).2]; omega)) (fun r2 σ3 z => par_some z))
theorem c_args {N : Nat} {σc0 σm0 σ : St} {G s p p' dp r m b : Nat} {φ pn : Nat → Nat} {c : Int32} (hO : RO σc0 σm0 G s φ) (hC : RC σc0 G c σ) (hpc : gI σ 1512 = nI p) (hp : p < s) (h13 : gI σ 1513 = nI (dp + 1)) (hd : dp < 12) (h8 : rwD G p σc0 8 = nI (m * 2 ^ 20 + b)) (hm : m ≤ 4) (hb : b < 2 ^ 20) (hr : r < 8) (hpn : ∀ i, i < m → gA σ (G + 5) (4 * r + i) = nI (pn i) ∧ pn i < 26) (hop : gA σ (G + 3) r = nI p') : ∀ (n i : Nat), i ≤ m → Par (x6_enter_51 N n (sF σ 16 (arF (26 * (dp + 1)) (26 * dp) pn (fun i => b / 2 ^ (5 * i) % 32) (gA σ 16) i)) (nI r) (nI dp) (nI i)) (fun _ σ' => σ' = sI (sI (sF σ 16 (arF (26 * (dp + 1)) (26 * dp) pn (fun i => b / 2 ^ (5 * i) % 32) (gA σ 16) m)) 1512 (nI p')) 1515 0) := by
  have hg := pr_or hO.1
  intro n
  induction n with
  | zero => intro i _ r σ' e; cases e
  | succ n ih =>
    intro i hi
    show Par (x6_enter_51_b N (x6_enter_51 N n) (sF σ 16 (arF (26 * (dp + 1)) (26 * dp) pn (fun i => b / 2 ^ (5 * i) % 32) (gA σ 16) i)) (nI r) (nI dp) (nI i)) _
    have hC2 : RC σc0 G c (sF σ 16 (arF (26 * (dp + 1)) (26 * dp) pn (fun i => b / 2 ^ (5 * i) % 32) (gA σ 16) i)) := rc_F hC (by decide)
    unfold x6_enter_51_b
    rw [cgd hO hC2, gd_t, show gI (sF σ 16 (arF (26 * (dp + 1)) (26 * dp) pn (fun i => b / 2 ^ (5 * i) % 32) (gA σ 16) i)) 1512 = nI p from hpc, cgA hO hC2 hp h8 hm hb, bd_s]
    refine par_if (fun z => ?_) (fun z => ?_)
    · have : i = m := by have := (nI_leI (by omega) (by omega)).mp z; omega
      subst this
      unfold x6_enter_113
      refine par_gd (fun _ => ?_)
      rw [hC2.2.1]
      refine par_bd (c_at (by rw [(lenG hO.1).1]; exact hr)) (fun r9 σ10 w => par_some ?_)
      rw [w.1, w.2, gA_sFn (by omega), hop]
    · have z2 : i < m := Classical.byContradiction (fun y => z (nI_le (by omega) (by omega)))
      obtain ⟨q1, q2⟩ := hpn i z2
      rw [cgd hO hC2, gd_t, show gI (sF σ 16 (arF (26 * (dp + 1)) (26 * dp) pn (fun i => b / 2 ^ (5 * i) % 32) (gA σ 16) i)) 1512 = nI p from hpc, cgB hO hC2 hp h8 hm hb z2, bd_s, n_dp]
      have ha : b / 2 ^ (5 * i) % 32 < 32 := Nat.mod_lt _ (by decide)
      refine par_bd (c_at (show 26 * dp + b / 2 ^ (5 * i) % 32 < 338 by omega)) (fun r14 σ15 w => ?_)
      obtain ⟨w1, w2⟩ := w
      rw [w1, w2]
      refine par_gd (fun _ => par_bd (cgP hO.1 hC2.2.1 hr (by omega)) (fun r17 σ18 v => ?_))
      obtain ⟨v1, v2⟩ := v
      rw [v1, v2, gA_sFn (by omega), q1, gA_sF]
      refine par_bd (c_setName (dp := dp + 1) h13 (by omega) q2) (fun _ σ20 u => ?_)
      rw [u, sA_row, gA_sF, sF_F, nI_1]
      exact ih (i + 1) (by omega)
theorem c_enter {N : Nat} {σc0 σm0 σ : St} {G s p p' dp r m b : Nat} {φ pn : Nat → Nat} {c : Int32} (hO : RO σc0 σm0 G s φ) (hC : RC σc0 G c σ) (hpc : gI σ 1512 = nI p) (hp : p < s) (h13 : gI σ 1513 = nI dp) (hd : dp ≤ 12) (h8 : rwD G p σc0 8 = nI (m * 2 ^ 20 + b)) (hm : m ≤ 4) (hb : b < 2 ^ 20) (hr : r < 8) (hpn : ∀ i, i < m → gA σ (G + 5) (4 * r + i) = nI (pn i) ∧ pn i < 26) (hop : gA σ (G + 3) r = nI p') : Par (x6_enter N σ (nI r)) (fun _ σ' => (dp = 12 ∧ σ' = sI σ 1511 3) ∨ (dp < 12 ∧ σ' = sI (sI (sF (sI (sA σ 17 dp (nI p)) 1513 (nI (dp + 1))) 16 (arF (26 * (dp + 1)) (26 * dp) pn (fun i => b / 2 ^ (5 * i) % 32) (clr (gA σ 16) (26 * (dp + 1)) 26) m)) 1512 (nI p')) 1515 0)) := by
  have hg := pr_or hO.1
  unfold x6_enter
  rw [h13]
  refine par_if (fun z => ?_) (fun z => par_some (Or.inl ⟨?_, rfl⟩))
  · have z2 : dp < 12 := (nI_ltI (b := 12) (by omega) (by decide)).mp z
    rw [hpc]
    refine par_bd (c_put (show dp < 12 from z2)) (fun _ σ2 y => ?_)
    rw [y, show gI (sA σ 17 dp (nI p)) 1513 = nI dp from h13, nI_1]
    refine par_bd (c_clear (dp := dp + 1) gI_eq (by omega)) (fun _ σ4 w => ?_)
    rw [w, show gA (sI (sA σ 17 dp (nI p)) 1513 (nI (dp + 1))) 16 = gA σ 16 from rfl]
    have hC4 : RC σc0 G c (sF (sI (sA σ 17 dp (nI p)) 1513 (nI (dp + 1))) 16 (clr (gA σ 16) (26 * (dp + 1)) 26)) := rc_F (rc_I (rc_A hC (by decide)) (by decide) (by decide)) (by decide)
    have hx := c_args (N := N) (pn := pn) (p' := p') (dp := dp) hO hC4 (by exact hpc) hp rfl z2 h8 hm hb hr (fun i hi => by rw [gA_sFn (by omega)]; show gA (sA σ 17 dp (nI p)) (G + 5) _ = _ ∧ _; rw [gA_sA, if_neg (by omega)]; exact hpn i hi) (by rw [gA_sFn (by omega)]; show gA (sA σ 17 dp (nI p)) (G + 3) _ = _; rw [gA_sA, if_neg (by omega)]; exact hop) N 0 (Nat.zero_le _)
    rw [gA_sF] at hx
    show Par (x6_enter_51 N N _ (nI r) (nI dp) (nI 0)) _
    rw [show arF (26 * (dp + 1)) (26 * dp) pn (fun i => b / 2 ^ (5 * i) % 32) (clr (gA σ 16) (26 * (dp + 1)) 26) 0 = clr (gA σ 16) (26 * (dp + 1)) 26 from rfl, sF_F] at hx
    exact hx.mono (fun _ σ' u => Or.inr ⟨z2, by rw [u, sF_F]⟩)
  · exact Classical.byContradiction (fun y => z (nI_lt (b := 12) (by omega) (by decide)))
theorem n_args {N : Nat} {σ : St} {k dp r m b : Nat} {pn : Nat → Nat} (hk : k < 2600) (h50 : gI σ 50 = nI (dp + 2)) (hd : dp < 12) (h14 : gA σ 14 k = nI m) (h16 : gA σ 16 k = nI b) (hm : m ≤ 4) (hb : b < 2 ^ 20) (hr : r < 8) (hpn : ∀ i, i < m → gA σ 21 (4 * r + i) = nI (pn i) ∧ pn i < 26) : ∀ (n i : Nat), i ≤ m → Par (m_enter_43 N n (sF σ 48 (arF (26 * (dp + 1)) (26 * dp) pn (fun i => b / 2 ^ (5 * i) % 32) (gA σ 48) i)) (nI k) (nI (26 * dp)) (nI r) (nI i)) (fun v σ' => v = gA σ 19 r ∧ σ' = sF σ 48 (arF (26 * (dp + 1)) (26 * dp) pn (fun i => b / 2 ^ (5 * i) % 32) (gA σ 48) m)) := by
  intro n
  induction n with
  | zero => intro i _ r σ' e; cases e
  | succ n ih =>
    intro i hi
    show Par (m_enter_43_b N (m_enter_43 N n) (sF σ 48 (arF (26 * (dp + 1)) (26 * dp) pn (fun i => b / 2 ^ (5 * i) % 32) (gA σ 48) i)) (nI k) (nI (26 * dp)) (nI r) (nI i)) _
    unfold m_enter_43_b
    rw [nI_clamp (show k < 2 ^ 31 by omega), nI_clamp (show r < 2 ^ 31 by omega), gA_sFn (q := 14) (by decide), gA_sFn (q := 16) (by decide), gA_sFn (q := 21) (by decide), gA_sFn (q := 19) (by decide), h14, h16, show gI (sF σ 48 (arF (26 * (dp + 1)) (26 * dp) pn (fun i => b / 2 ^ (5 * i) % 32) (gA σ 48) i)) 50 = nI (dp + 2) from h50]
    refine par_gd (fun _ => par_if (fun z => par_gd (fun _ => par_some ?_)) (fun z => ?_))
    · have : i = m := by have := (nI_leI (by omega) (by omega)).mp z; omega
      subst this
      exact ⟨rfl, rfl⟩
    · have z2 : i < m := Classical.byContradiction (fun y => z (nI_le (by omega) (by omega)))
      obtain ⟨q1, q2⟩ := hpn i z2
      have ha : b / 2 ^ (5 * i) % 32 < 32 := Nat.mod_lt _ (by decide)
      have hdv : b / 2 ^ (5 * i) < 2 ^ 32 := Nat.lt_of_le_of_lt (Nat.div_le_self _ _) (by omega)
      rw [show (4 : Int32) * nI r + nI i = nI (4 * r + i) from by rw [show (4 : Int32) = nI 4 from rfl, nI_mul, nI_add], nI_clamp (n := 4 * r + i) (by omega), q1, show (5 : Int32) * nI i = nI (5 * i) from by rw [show (5 : Int32) = nI 5 from rfl, nI_mul], shr_n (by omega) (by omega), a31_n hdv, nI_add, nI_clamp (n := 26 * dp + b / 2 ^ (5 * i) % 32) (by omega), n26 (by omega) (by omega), nI_add, show dp + 2 - 1 = dp + 1 from rfl, nI_clamp (n := 26 * (dp + 1) + pn i) (by omega), nI_1]
      refine par_gd (fun _ => par_gd (fun _ => par_gd (fun _ => par_gd (fun _ => ?_))))
      rw [sA_row, gA_sF, sF_F]
      exact ih (i + 1) (by omega)
theorem n_enter {N : Nat} {σ : St} {k dp r m b : Nat} {pn : Nat → Nat} (hk : k < 2600) (h50 : gI σ 50 = nI (dp + 1)) (hd : dp ≤ 12) (h13 : gA σ 13 k = nI r) (h14 : gA σ 14 k = nI m) (h16 : gA σ 16 k = nI b) (hm : m ≤ 4) (hb : b < 2 ^ 20) (hr : r < 8) (hpn : ∀ i, i < m → gA σ 21 (4 * r + i) = nI (pn i) ∧ pn i < 26) : Par (m_enter N σ (nI k)) (fun v σ' => (dp = 12 ∧ σ' = sI σ 55 3) ∨ (dp < 12 ∧ v = gA σ 19 r ∧ σ' = sF (sI (sA (sF σ 48 (clr (gA σ 48) (26 * (dp + 1)) 26)) 49 (dp + 1) (nI (k + 1))) 50 (nI (dp + 2))) 48 (arF (26 * (dp + 1)) (26 * dp) pn (fun i => b / 2 ^ (5 * i) % 32) (clr (gA σ 48) (26 * (dp + 1)) 26) m))) := by
  unfold m_enter
  rw [h50]
  refine par_if (fun z => par_some (Or.inl ⟨?_, rfl⟩)) (fun z => par_gd (fun _ => ?_))
  · have := (nI_eq (b := 13) (by omega) (by decide)).mp z
    omega
  · have z2 : dp < 12 := by
      have : ¬ dp = 12 := fun e => z (by rw [e]; rfl)
      omega
    rw [nI_1, nI_clamp (show k < 2 ^ 31 by omega), h13, n26 (by omega) (by omega), Nat.add_sub_cancel]
    refine par_bd (n_frame h50 (by omega)) (fun _ σ2 y => ?_)
    rw [y]
    have hx := n_args (N := N) (σ := sI (sA (sF σ 48 (clr (gA σ 48) (26 * (dp + 1)) 26)) 49 (dp + 1) (nI (k + 1))) 50 (nI (dp + 2))) (pn := pn) (dp := dp) hk gI_eq z2 h14 h16 hm hb hr hpn N 0 (Nat.zero_le _)
    have e48 : gA (sI (sA (sF σ 48 (clr (gA σ 48) (26 * (dp + 1)) 26)) 49 (dp + 1) (nI (k + 1))) 50 (nI (dp + 2))) 48 = clr (gA σ 48) (26 * (dp + 1)) 26 := rfl
    rw [e48] at hx
    have hx0 : sF (sI (sA (sF σ 48 (clr (gA σ 48) (26 * (dp + 1)) 26)) 49 (dp + 1) (nI (k + 1))) 50 (nI (dp + 2))) 48 (arF (26 * (dp + 1)) (26 * dp) pn (fun i => b / 2 ^ (5 * i) % 32) (clr (gA σ 48) (26 * (dp + 1)) 26) 0) = sI (sA (sF σ 48 (clr (gA σ 48) (26 * (dp + 1)) 26)) 49 (dp + 1) (nI (k + 1))) 50 (nI (dp + 2)) := by
      show sF _ 48 (clr (gA σ 48) (26 * (dp + 1)) 26) = _
      conv => lhs; arg 3; rw [← e48]
      exact sF_id
    rw [hx0] at hx
    exact hx.mono (fun v σ' u => Or.inr ⟨z2, u.1, u.2⟩)
