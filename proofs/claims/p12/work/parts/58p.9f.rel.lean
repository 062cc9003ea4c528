/-! runs: the relation of both sides -/
def RC (σc0 : St) (G : Nat) (c : Int32) (σ : St) : Prop := Kc σc0 σ ∧ gP σ 1504 = G ∧ gP σ 1505 = G + 1 ∧ gI σ 1506 = c
def RV (dp t st an : Nat) (σc σm : St) : Prop := gI σc 1507 = nI st ∧ gI σc 1508 = nI t ∧ gI σc 1509 = nI an ∧ gI σm 53 = nI an ∧ an ≤ st ∧ gI σc 1510 = -1 ∧ gI σm 54 = -1 ∧ gI σc 1511 = -1 ∧ gI σm 55 = -1 ∧ gI σc 1513 = nI dp ∧ (∀ i, i < 26 * (dp + 1) → gA σc 16 i = gA σm 48 i) ∧ (∀ i, 2 ≤ i → i < 2 * t + 2 → gA σc 18 i = gA σm 46 i)
def opV (d : Nat → Int32) : Prop := ¬ d 0 = 0 ∧ ¬ d 0 = 1 ∧ ¬ d 0 = 2
def RK (G s : Nat) (φ : Nat → Nat) (σc0 : St) (dp : Nat) (σc σm : St) : Prop := ∀ i, i < dp → ∃ p, p < s ∧ gA σc 17 i = nI p ∧ opV (rwD G p σc0) ∧ gA σm 49 (i + 1) = nI (φ p + 2)
def RS (σc0 σm0 : St) (G s : Nat) (φ : Nat → Nat) (c : Int32) (t dp st an : Nat) (σc σm : St) : Prop := RC σc0 G c σc ∧ RV dp t st an σc σm ∧ RK G s φ σc0 dp σc σm ∧ RI σm0 (φ s) t (dp + 1) st σm
/-- both runs have ended alike -/
def RZ (σc σm : St) : Prop := ¬ gI σc 1511 = -1 ∧ gI σc 1511 = gI σm 55 ∧ gI σc 1507 = gI σm 52 ∧ gI σc 1508 = gI σm 47 ∧ gI σc 1509 = gI σm 53 ∧ gI σc 1510 = gI σm 54
def jC (d : Nat → Int32) (p : Nat) : Nat := if d 0 = 0 ∨ d 0 = 1 then 305 - p else 0
def mC (st dp j : Nat) : Nat := (400 - st) * 620 + dp * 310 + j
def RM (σc0 σm0 : St) (G s : Nat) (φ : Nat → Nat) (c : Int32) (M : Nat) (r : Int32) (σc σm : St) : Prop := RZ σc σm ∨ ∃ t dp st an p, RS σc0 σm0 G s φ c t dp st an σc σm ∧ gI σc 1512 = nI p ∧ p < s ∧ ((gI σc 1515 = 0 ∧ r = nI (φ p) ∧ mC st dp (jC (rwD G p σc0) p) < M) ∨ (gI σc 1515 = 1 ∧ opV (rwD G p σc0) ∧ gI σc 1514 = gI σm 51 ∧ r = nI (φ p + 2) ∧ φ p + 2 < φ s ∧ mC st dp 306 < M) ∨ (gI σc 1515 = 0 ∧ rwD G p σc0 0 = 2 ∧ (∃ k, k < φ s ∧ r = nI k ∧ gA σm0 12 k = 13 ∧ gA σm0 14 k = 1 ∧ gA σm0 13 k = nI (φ p + 1)) ∧ mC st dp 0 < M))
/-- what stands while a run goes -/
def RO (σc0 σm0 : St) (G s : Nat) (φ : Nat → Nat) : Prop := isPr G = true ∧ gI σc0 (100 * (G + 1) + 1) = nI s ∧ s ≤ 304 ∧ φ s ≤ 1299 ∧ BC G s φ σc0 σm0 ∧ BV (gA σm0) (φ s) ∧ ∃ T, BT G s T φ σc0 σm0
theorem jC_le {d : Nat → Int32} {p : Nat} : jC d p ≤ 305 - p := by
  unfold jC
  split <;> omega
theorem rc_I {σc0 σ : St} {G k : Nat} {c v : Int32} (h : RC σc0 G c σ) (hk : 900 ≤ k ∧ k < 3000) (h6 : k ≠ 1506) : RC σc0 G c (sI σ k v) := ⟨kc_I h.1 hk, h.2.1, h.2.2.1, (gI_ne h6).trans h.2.2.2⟩
theorem rc_A {σc0 σ : St} {G j i : Nat} {c v : Int32} (h : RC σc0 G c σ) (hk : okA_kc j) : RC σc0 G c (sA σ j i v) := ⟨kc_A h.1 hk, h.2.1, h.2.2.1, h.2.2.2⟩
theorem rc_F {σc0 σ : St} {G j : Nat} {f : Nat → Int32} {c : Int32} (h : RC σc0 G c σ) (hk : okA_kc j) : RC σc0 G c (sF σ j f) := ⟨⟨h.1.1, fun q hq => (gA_sFn (fun e => by have := hk.1; have := hk.2; omega)).trans (h.1.2.1 q hq), h.1.2.2⟩, h.2.1, h.2.2.1, h.2.2.2⟩
theorem cgd {σc0 σm0 σ : St} {G s : Nat} {φ : Nat → Nat} {c : Int32} (hO : RO σc0 σm0 G s φ) (hC : RC σc0 G c σ) : isCd (gP σ 1505) = true := by
  rw [hC.2.2.1]
  exact pg_cd hO.1
theorem cg {N : Nat} {σc0 σm0 σ : St} {G s p q : Nat} {φ : Nat → Nat} {c v : Int32} (hO : RO σc0 σm0 G s φ) (hC : RC σc0 G c σ) (hp : p < s) (hq : q < 12) (hv : v = nI q) : x0_get N σ (gP σ 1505) (nI p) v = some (rwD G p σc0 q, σ) := by
  have hg := pr_or hO.1
  rw [hC.2.2.1, hv, c_get hO.1 (S := s) (by rw [hC.1.1 _ (by omega)]; exact hO.2.1) hO.2.2.1 hp hq]
  unfold rwD
  rw [hC.1.2.1 (G + 2) (by omega)]
theorem ri_id {σ0 σ : St} {a t t' f f' s s' : Nat} (h : RI σ0 a t' f' s' σ) (h47 : gI σ 47 = nI t) (ht : t < 1000) (h50 : gI σ 50 = nI f) (hf : f < 1000) (h52 : gI σ 52 = nI s) (hs : s < 1000) : RI σ0 a t f s σ := by
  obtain ⟨-, -, ⟨a1, a2⟩, ⟨b1, b2⟩, -, ⟨c1, c2⟩, -⟩ := id h
  obtain rfl : t' = t := (nI_eq (by omega) (by omega)).mp (a1.symm.trans h47)
  obtain rfl : f' = f := (nI_eq (by omega) (by omega)).mp (b1.symm.trans h50)
  obtain rfl : s' = s := (nI_eq (by omega) (by omega)).mp (c1.symm.trans h52)
  exact h
theorem dp_ri {σ0 σ : St} {a m t f s k : Nat} {r : Int32} (h : DP σ0 a m r σ) (ha : a ≤ 1299) (h55 : gI σ 55 = -1) (h47 : gI σ 47 = nI t) (ht : t < 1000) (h50 : gI σ 50 = nI f) (hf : f < 1000) (h52 : gI σ 52 = nI s) (hs : s < 1000) (hr : r = nI k) (hk : k < 10000) : RI σ0 a t f s σ ∧ k < a := by
  obtain ⟨t1, f1, s1, p1, q1, q2, q3, q4, q5⟩ := h.2.2 h55
  have := (nI_eq (show p1 < 2 ^ 31 by omega) (show k < 2 ^ 31 by omega)).mp (q1.symm.trans hr)
  exact ⟨ri_id q4 h47 ht h50 hf h52 hs, by omega⟩
/-- a turn of the reference's loop -/
theorem r2_run {ρ : Type} {oc : Option (ρ × St)} {Q : ρ → St → Unit → St → Prop} {N n : Nat} {σm : St} {c r : Int32} {P : Int32 → St → Prop} (h55 : gI σm 55 = -1) (hd : Par (m_does N σm r c) P) (k : ∀ n' r' σ', P r' σ' → R2 oc (m_runs_108 N n' σ' c r') Q) : R2 oc (m_runs_108 N n σm c r) Q := by
  cases n with
  | zero => intro rc σc' rm σm' _ e; cases e
  | succ n =>
    show R2 oc (m_runs_108_b N (m_runs_108 N n) σm c r) Q
    unfold m_runs_108_b
    rw [if_pos h55]
    exact r2_bdR hd (fun r3 σ4 z => k n r3 σ4 z)
/-- the class's work, by kind -/
theorem n_mul2 {x : Int32} : x * 2 = 2 * x := Int32.mul_comm x 2
theorem cw0 {N : Nat} {σc0 σm0 σ : St} {G s p dp : Nat} {φ : Nat → Nat} {c : Int32} (hO : RO σc0 σm0 G s φ) (hC : RC σc0 G c σ) (hpc : gI σ 1512 = nI p) (hp : p < s) (h13 : gI σ 1513 = nI dp) (hd : dp ≤ 12) (h4 : rwD G p σc0 4 = 0) : Par (x6_work N σ) (fun _ σ' => σ' = (sI (sI σ 1514 0) 1515 1)) := by
  unfold x6_work
  rw [cgd hO hC, gd_t, hpc, cg (v := 5) hO hC hp (q := 5) (by decide) rfl, bd_s, cgd hO hC, gd_t, hpc, cg (v := 6) hO hC hp (q := 6) (by decide) rfl, bd_s]
  refine par_bd (c_nameOf h13 hd) (fun r7 σ8 z => ?_)
  obtain ⟨z1, z2⟩ := z
  rw [z1, cgd hO hC, gd_t, hpc, cg (v := 4) hO hC hp (q := 4) (by decide) rfl, bd_s, h4, if_neg (show ¬ (0 : Int32) = 1 by decide), if_neg (show ¬ (0 : Int32) = 2 by decide), if_neg (show ¬ (0 : Int32) = 3 by decide), if_neg (show ¬ (0 : Int32) = 4 by decide), if_neg (show ¬ (0 : Int32) = 5 by decide)]
  exact par_some rfl
theorem cw1 {N : Nat} {σc0 σm0 σ : St} {G s p dp : Nat} {φ : Nat → Nat} {c : Int32} (hO : RO σc0 σm0 G s φ) (hC : RC σc0 G c σ) (hpc : gI σ 1512 = nI p) (hp : p < s) (h13 : gI σ 1513 = nI dp) (hd : dp ≤ 12) {an t : Nat} (h4 : rwD G p σc0 4 = 1) (h9 : gI σ 1509 = nI an) (ha : an < 401) (h8 : gI σ 1508 = nI t) (ht : t ≤ 300) : Par (x6_work N σ) (fun _ σ' => (cbit c an = 0 ∧ σ' = sI (sI (sI (sI σ 1514 0) 1515 1) 1509 (nI (an + 1))) 1514 0) ∨ (¬ cbit c an = 0 ∧ t = 300 ∧ σ' = sI (sI (sI (sI (sI σ 1514 0) 1515 1) 1509 (nI (an + 1))) 1511 3) 1514 0) ∨ (¬ cbit c an = 0 ∧ t < 300 ∧ σ' = sI (mkC (sI (sI (sI σ 1514 0) 1515 1) 1509 (nI (an + 1))) t (nI (t + 1)) (nI (t + 1))) 1514 (nI (t + 1)))) := by
  unfold x6_work
  rw [cgd hO hC, gd_t, hpc, cg (v := 5) hO hC hp (q := 5) (by decide) rfl, bd_s, cgd hO hC, gd_t, hpc, cg (v := 6) hO hC hp (q := 6) (by decide) rfl, bd_s]
  refine par_bd (c_nameOf h13 hd) (fun r7 σ8 z => ?_)
  obtain ⟨z1, z2⟩ := z
  rw [z1, cgd hO hC, gd_t, hpc, cg (v := 4) hO hC hp (q := 4) (by decide) rfl, bd_s, h4, if_pos rfl]
  unfold x6_work_79 x6_makeLoop
  refine par_bd (c_choose (c := c) (an := an) hC.2.2.2 h9 ha) (fun r20 σ21 y => ?_)
  obtain ⟨y1, y2⟩ := y
  have e8 : gI σ21 1508 = nI t := by rw [y2]; exact h8
  rw [y1, e8, nI_1]
  refine par_if (fun x => par_some (Or.inl ⟨x, by rw [y2]⟩)) (fun x => ?_)
  refine par_bd (P := fun r σ' => (t = 300 ∧ r = 0 ∧ σ' = sI σ21 1511 3) ∨ (t < 300 ∧ r = nI (t + 1) ∧ σ' = mkC σ21 t (nI (t + 1)) (nI (t + 1)))) (par_bd (c_make e8 ht) (fun r1 σ2 w => par_some w)) (fun r22 σ23 w => ?_)
  rcases w with ⟨w1, w2, w3⟩ | ⟨w1, w2, w3⟩
  · exact par_some (Or.inr (Or.inl ⟨x, w1, by rw [w2, w3, y2]⟩))
  · exact par_some (Or.inr (Or.inr ⟨x, w1, by rw [w2, w3, y2]⟩))
theorem cw2 {N : Nat} {σc0 σm0 σ : St} {G s p dp : Nat} {φ : Nat → Nat} {c : Int32} (hO : RO σc0 σm0 G s φ) (hC : RC σc0 G c σ) (hpc : gI σ 1512 = nI p) (hp : p < s) (h13 : gI σ 1513 = nI dp) (hd : dp ≤ 12) {t k1 k2 : Nat} (h4 : rwD G p σc0 4 = 2) (h8 : gI σ 1508 = nI t) (ht : t ≤ 300) (h5 : rwD G p σc0 5 = nI k1) (hk1 : k1 < 26) (h6 : rwD G p σc0 6 = nI k2) (hk2 : k2 < 26) : Par (x6_work N σ) (fun _ σ' => (t = 300 ∧ σ' = sI (sI (sI (sI σ 1514 0) 1515 1) 1511 3) 1514 0) ∨ (t < 300 ∧ σ' = sI (mkC (sI (sI σ 1514 0) 1515 1) t (gA σ 16 (26 * dp + k1)) (gA σ 16 (26 * dp + k2))) 1514 (nI (t + 1)))) := by
  unfold x6_work
  rw [cgd hO hC, gd_t, hpc, cg (v := 5) hO hC hp (q := 5) (by decide) rfl, bd_s, cgd hO hC, gd_t, hpc, cg (v := 6) hO hC hp (q := 6) (by decide) rfl, bd_s]
  refine par_bd (c_nameOf h13 hd) (fun r7 σ8 z => ?_)
  obtain ⟨z1, z2⟩ := z
  rw [z1, cgd hO hC, gd_t, hpc, cg (v := 4) hO hC hp (q := 4) (by decide) rfl, bd_s, h4, if_neg (show ¬ (2 : Int32) = 1 by decide), if_pos rfl]
  refine par_bd (c_nameOf (dp := dp) h13 hd) (fun r16 σ17 y => ?_)
  obtain ⟨y1, y2⟩ := y
  rw [y1, z2 k1 hk1 h5, y2 k2 hk2 h6]
  refine par_bd (c_make (t := t) h8 ht) (fun r18 σ19 w => ?_)
  rcases w with ⟨w1, w2, w3⟩ | ⟨w1, w2, w3⟩
  · exact par_some (Or.inl ⟨w1, by rw [w2, w3]⟩)
  · exact par_some (Or.inr ⟨w1, by rw [w2, w3]; rfl⟩)
theorem cw3 {N : Nat} {σc0 σm0 σ : St} {G s p dp : Nat} {φ : Nat → Nat} {c : Int32} (hO : RO σc0 σm0 G s φ) (hC : RC σc0 G c σ) (hpc : gI σ 1512 = nI p) (hp : p < s) (h13 : gI σ 1513 = nI dp) (hd : dp ≤ 12) {k1 : Nat} (h4 : rwD G p σc0 4 = 3) (h5 : rwD G p σc0 5 = nI k1) (hk1 : k1 < 26) : Par (x6_work N σ) (fun _ σ' => σ' = sI (sI (sI σ 1514 0) 1515 1) 1514 (gA σ 16 (26 * dp + k1))) := by
  unfold x6_work
  rw [cgd hO hC, gd_t, hpc, cg (v := 5) hO hC hp (q := 5) (by decide) rfl, bd_s, cgd hO hC, gd_t, hpc, cg (v := 6) hO hC hp (q := 6) (by decide) rfl, bd_s]
  refine par_bd (c_nameOf h13 hd) (fun r7 σ8 z => ?_)
  obtain ⟨z1, z2⟩ := z
  rw [z1, cgd hO hC, gd_t, hpc, cg (v := 4) hO hC hp (q := 4) (by decide) rfl, bd_s, h4, if_neg (show ¬ (3 : Int32) = 1 by decide), if_neg (show ¬ (3 : Int32) = 2 by decide), if_pos rfl]
  exact par_some (by rw [z2 k1 hk1 h5])
theorem cw4 {N : Nat} {σc0 σm0 σ : St} {G s p dp : Nat} {φ : Nat → Nat} {c : Int32} (hO : RO σc0 σm0 G s φ) (hC : RC σc0 G c σ) (hpc : gI σ 1512 = nI p) (hp : p < s) (h13 : gI σ 1513 = nI dp) (hd : dp ≤ 12) {k1 : Nat} (h4 : rwD G p σc0 4 = 4) (h5 : rwD G p σc0 5 = nI k1) (hk1 : k1 < 26) : Par (x6_work N σ) (fun _ σ' => (gA σ 16 (26 * dp + k1) = 0 ∧ σ' = sI (sI (sI (sI (sI σ 1514 0) 1515 1) 1511 2) 1510 (rwD G p σc0 7)) 1514 0) ∨ (¬ gA σ 16 (26 * dp + k1) = 0 ∧ ∀ n, n < 602 → 2 * gA σ 16 (26 * dp + k1) + rwD G p σc0 6 = nI n → σ' = sI (sI (sI σ 1514 0) 1515 1) 1514 (gA σ 18 n))) := by
  unfold x6_work
  rw [cgd hO hC, gd_t, hpc, cg (v := 5) hO hC hp (q := 5) (by decide) rfl, bd_s, cgd hO hC, gd_t, hpc, cg (v := 6) hO hC hp (q := 6) (by decide) rfl, bd_s]
  refine par_bd (c_nameOf h13 hd) (fun r7 σ8 z => ?_)
  obtain ⟨z1, z2⟩ := z
  rw [z1, cgd hO hC, gd_t, hpc, cg (v := 4) hO hC hp (q := 4) (by decide) rfl, bd_s, h4, if_neg (show ¬ (4 : Int32) = 1 by decide), if_neg (show ¬ (4 : Int32) = 2 by decide), if_neg (show ¬ (4 : Int32) = 3 by decide), if_pos rfl]
  rw [z2 k1 hk1 h5]
  unfold x6_fieldOf
  by_cases x : gA σ 16 (26 * dp + k1) = 0
  · rw [if_pos x]
    have hC2 : RC σc0 G c (sI (sI (sI σ 1514 0) 1515 1) 1511 2) := rc_I (rc_I (rc_I hC (by decide) (by decide)) (by decide) (by decide)) (by decide) (by decide)
    have hc := cg (N := N) (v := 7) hO hC2 hp (q := 7) (by decide) rfl
    rw [show gI (sI (sI σ 1514 0) 1515 1) 1512 = nI p from hpc]
    refine par_bd (P := fun r σ' => r = 0 ∧ σ' = sI (sI (sI (sI σ 1514 0) 1515 1) 1511 2) 1510 (rwD G p σc0 7)) (par_gd (fun _ => ?_)) (fun r14 σ15 w => par_some (Or.inl ⟨x, by rw [w.1, w.2]⟩))
    rw [show gP (sI (sI σ 1514 0) 1515 1) 1505 = gP (sI (sI (sI σ 1514 0) 1515 1) 1511 2) 1505 from rfl, hc, bd_s]
    exact par_some ⟨rfl, rfl⟩
  · rw [if_neg x, n_mul2]
    refine par_bd (P := fun r σ' => σ' = (sI (sI σ 1514 0) 1515 1) ∧ ∀ n, n < 602 → 2 * gA σ 16 (26 * dp + k1) + rwD G p σc0 6 = nI n → r = gA σ 18 n) ?_ (fun r14 σ15 w => par_some (Or.inr ⟨x, fun n hn e => by rw [w.1, w.2 n hn e]⟩))
    refine par_bd (P := fun r σ' => σ' = (sI (sI σ 1514 0) 1515 1) ∧ ∀ n, n < 602 → 2 * gA σ 16 (26 * dp + k1) + rwD G p σc0 6 = nI n → r = gA σ 18 n) ?_ (fun r1 σ2 w => par_some w)
    refine fun r σ' e => ⟨x_at_id r σ' e, fun n hn en => ?_⟩
    rw [en] at e
    exact (c_at (show n < lenC 18 from hn) r σ' e).2
theorem cw5 {N : Nat} {σc0 σm0 σ : St} {G s p dp : Nat} {φ : Nat → Nat} {c : Int32} (hO : RO σc0 σm0 G s φ) (hC : RC σc0 G c σ) (hpc : gI σ 1512 = nI p) (hp : p < s) (h13 : gI σ 1513 = nI dp) (hd : dp ≤ 12) {Q : Unit → St → Prop} (h4 : rwD G p σc0 4 = 5) (h : Par (x6_enter N (sI (sI σ 1514 0) 1515 1) (rwD G p σc0 6)) Q) : Par (x6_work N σ) Q := by
  unfold x6_work
  rw [cgd hO hC, gd_t, hpc, cg (v := 5) hO hC hp (q := 5) (by decide) rfl, bd_s, cgd hO hC, gd_t, hpc, cg (v := 6) hO hC hp (q := 6) (by decide) rfl, bd_s]
  refine par_bd (c_nameOf h13 hd) (fun r7 σ8 z => ?_)
  obtain ⟨z1, z2⟩ := z
  rw [z1, cgd hO hC, gd_t, hpc, cg (v := 4) hO hC hp (q := 4) (by decide) rfl, bd_s, h4, if_neg (show ¬ (5 : Int32) = 1 by decide), if_neg (show ¬ (5 : Int32) = 2 by decide), if_neg (show ¬ (5 : Int32) = 3 by decide), if_neg (show ¬ (5 : Int32) = 4 by decide), if_pos rfl]
  exact par_bd h (fun _ σ13 w => par_some w)
