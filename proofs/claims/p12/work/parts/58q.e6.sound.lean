/-! runs keep to the FACTS -/
def uN (σ : St) : Nat := (gA σ 26 0).toNatClampNeg
theorem uN_of {σ : St} {u : Nat} (h : gA σ 26 0 = nI u) (hu : u ≤ 40) : uN σ = u := by
  unfold uN
  rw [h, nI_clamp (by omega)]
def vb (x : Int32) : Nat := if x = 0 then 0 else 1
theorem vb_0 {x : Int32} (h : x = 0) : vb x = 0 := if_pos h
theorem vb_1 {x : Int32} (h : ¬ x = 0) : vb x = 1 := if_neg h
theorem vb_lt {x : Int32} : vb x < 2 := by
  unfold vb
  split <;> decide
theorem vb_n {t : Nat} (ht : t < 1000) : vb (nI (t + 1)) = 1 := vb_1 (fun e => by
  have := (nI_eq (b := 0) (by omega) (by decide)).mp e
  omega)
def NSt (σ : St) (j : Nat) (g : Nat → Nat → Prop) : Prop := ∀ n, n < 26 → g n (vb (gA σ 48 (26 * j + n)))
def FS (D : FD) (σ : St) : Prop := ∀ t, gI σ 47 = nI t → t ≤ 300 → ∀ i, 2 ≤ i → i < 2 * t + 2 → D.2.2.1 (40 + i % 2) (vb (gA σ 46 i))
/-- the frames below: each waits at the row of a call -/
def FC (σc : St) (G s : Nat) (φ : Nat → Nat) (D : FD) (σ : St) : Nat → Nat → Prop
  | 0, _ => True
  | dp + 1, l => ∃ q, q < s ∧ D.2.1 q ∧ 3 ≤ dn σc G q 0 ∧ dn σc G q 4 = 5 ∧ gA σ 49 (dp + 1) = nI (φ q + 2) ∧ NSt σ dp (D.1 q) ∧ dn σc G q 6 = l ∧ FC σc G s φ D σ dp (dn σc G q 11)
theorem fc_f {σc σ σ' : St} {G s : Nat} {φ : Nat → Nat} {D : FD} : ∀ (dp l : Nat), (∀ i, i < 26 * dp → gA σ' 48 i = gA σ 48 i) → (∀ j, 0 < j → j ≤ dp → gA σ' 49 j = gA σ 49 j) → FC σc G s φ D σ dp l → FC σc G s φ D σ' dp l
  | 0, _, _, _, _ => trivial
  | dp + 1, l, h48, h49, ⟨q, q1, q2, q3, q4, q5, q6, q7, q8⟩ => ⟨q, q1, q2, q3, q4, (h49 (dp + 1) (by omega) (Nat.le_refl _)).trans q5, fun n hn => by rw [h48 (26 * dp + n) (by omega)]; exact q6 n hn, q7, fc_f dp _ (fun i hi => h48 i (by omega)) (fun j h0 hj => h49 j h0 (by omega)) q8⟩
def PL (M g : Nat → Nat → Prop) (d : Nat → Nat) (i : Nat) (σ : St) (j : Nat) : Prop := (i = 0 → NSt σ j g) ∧ (i = 1 → (d 0 = 0 → gI σ 51 = 0) ∧ (2 ≤ d 0 → NSt σ j g)) ∧ (i = 2 → aL M g d ∧ NSt σ j (nB g d) ∧ vB M g d (vb (gI σ 51)))
theorem pl_0 {M g : Nat → Nat → Prop} {d : Nat → Nat} {σ : St} {j : Nat} (h : NSt σ j g) : PL M g d 0 σ j := ⟨fun _ => h, fun e => absurd e (by decide), fun e => absurd e (by decide)⟩
theorem pl_2 {M g : Nat → Nat → Prop} {d : Nat → Nat} {σ : St} {j : Nat} (h1 : aL M g d) (h2 : NSt σ j (nB g d)) (h3 : vB M g d (vb (gI σ 51))) : PL M g d 2 σ j := ⟨fun e => absurd e (by decide), fun e => absurd e (by decide), fun _ => ⟨h1, h2, h3⟩⟩
def IS (σc σm : St) (G s : Nat) (φ : Nat → Nat) (D : FD) (k : Nat) (σ : St) : Prop := gI σ 55 = -1 ∧ FS D σ ∧ ∃ dp p i t st, dp ≤ 12 ∧ RI σm (φ s) t (dp + 1) st σ ∧ p < s ∧ k = φ p + i ∧ k < φ (p + 1) ∧ D.2.1 p ∧ FC σc G s φ D σ dp (dn σc G p 11) ∧ PL D.2.2.1 (D.1 p) (dn σc G p) i σ dp
def IQ (σc σm : St) (G s : Nat) (φ : Nat → Nat) (D : FD) (r : Int32) (σ : St) : Prop := (gI σ 55 = -1 → ∃ k, r = nI k ∧ IS σc σm G s φ D k σ) ∧ (gI σ 55 = 2 → ∃ v, v < uN σm ∧ gI σ 54 = nI v ∧ D.2.2.2.2 (100 + v) 0)
theorem iq_3 {σc σm σ : St} {G s : Nat} {φ : Nat → Nat} {D : FD} {r : Int32} {x : Int32} (h : gI σ 55 = x) (h1 : ¬ x = -1) (h2 : ¬ x = 2) : IQ σc σm G s φ D r σ := ⟨fun e => absurd (h.symm.trans e) h1, fun e => absurd (h.symm.trans e) h2⟩
theorem iq_2 {σc σm σ : St} {G s v : Nat} {φ : Nat → Nat} {D : FD} {r : Int32} (h : gI σ 55 = 2) (hv : v < uN σm) (h54 : gI σ 54 = nI v) (hd : D.2.2.2.2 (100 + v) 0) : IQ σc σm G s φ D r σ := ⟨fun e => absurd (h.symm.trans e) (by decide), fun _ => ⟨v, hv, h54, hd⟩⟩
theorem iq_land {σc σm σ : St} {G s k dp p i m : Nat} {φ : Nat → Nat} {D : FD} {r : Int32} (hD : DP σm (φ s) m r σ) (hr : r = nI k) (h50 : gI σ 50 = nI (dp + 1)) (hd : dp ≤ 12) (hF : FS D σ) (hp : p < s) (hk : k = φ p + i) (hk2 : k < φ (p + 1)) (hDp : D.2.1 p) (hC : FC σc G s φ D σ dp (dn σc G p 11)) (hP : PL D.2.2.1 (D.1 p) (dn σc G p) i σ dp) (h55 : gI σ 55 = -1) : IQ σc σm G s φ D r σ := by
  obtain ⟨t1, f1, s1, p1, q1, q2, q3, q4, q5⟩ := hD.2.2 h55
  have ef : f1 = dp + 1 := by
    have := q4.2.2.2.1
    exact (nI_eq (by omega) (by omega)).mp (this.1.symm.trans h50)
  subst ef
  exact ⟨fun _ => ⟨k, hr, h55, hF, dp, p, i, t1, s1, hd, q4, hp, hk, hk2, hDp, hC, hP⟩, fun e => absurd (h55.symm.trans e) (by decide)⟩
theorem fs_mk {D : FD} {σ : St} {t : Nat} {x y : Int32} (h : FS D σ) (h47 : gI σ 47 = nI t) (ht : t < 300) (hx : D.2.2.1 40 (vb x)) (hy : D.2.2.1 41 (vb y)) : FS D (mkM σ t x y) := by
  intro t' ht' h300 i h2 hi
  have e : t' = t + 1 := (nI_eq (by omega) (by omega)).mp (ht'.symm.trans (show gI (mkM σ t x y) 47 = nI (t + 1) from rfl))
  subst e
  show D.2.2.1 (40 + i % 2) (vb (upd (upd (gA σ 46) (2 * (t + 1)) x) (2 * (t + 1) + 1) y i))
  rcases (show i = 2 * (t + 1) + 1 ∨ i = 2 * (t + 1) ∨ i < 2 * t + 2 by omega) with e | e | e
  · rw [e, pk_us, show (2 * (t + 1) + 1) % 2 = 1 by omega]
    exact hy
  · rw [pk_un (by omega), e, pk_us, show (2 * (t + 1)) % 2 = 0 by omega]
    exact hx
  · rw [pk_un (by omega), pk_un (by omega)]
    exact h t h47 (by omega) i h2 e
theorem ddJ {N : Nat} {σ : St} {c : Int32} {k : Nat} (hk : k < 2600) (h : gA σ 12 k = 13) : Par (m_does N σ (nI k) c) (fun r σ' => (gI σ 52 = 400 ∧ σ' = sI σ 55 3) ∨ (r = gA σ 13 k ∧ (σ' = σ ∨ σ' = sI σ 52 (gI σ 52 + 1)))) := by
  by_cases h14 : gA σ 14 k = 1
  · refine (ddB (x := gA σ 13 k) hk h h14 rfl).mono (fun r σ' z => ?_)
    rcases z with z | ⟨-, z1, z2⟩
    · exact Or.inl z
    · exact Or.inr ⟨z1, Or.inr z2⟩
  · unfold m_does
    rw [ibk (show k < 2600 by omega) (by decide), nI_clamp (show k < 2 ^ 31 by omega), gd_t, h, if_neg (show ¬ (13 : Int32) = 0 by decide), if_neg (show ¬ (13 : Int32) = 1 by decide), if_neg (show ¬ (13 : Int32) = 2 by decide), if_neg (show ¬ (13 : Int32) = 3 by decide), if_neg (show ¬ (13 : Int32) = 4 by decide), if_neg (show ¬ (13 : Int32) = 5 by decide), if_neg (show ¬ (13 : Int32) = 6 by decide), if_neg (show ¬ (13 : Int32) = 7 by decide), if_neg (show ¬ (13 : Int32) = 8 by decide), if_neg (show ¬ (13 : Int32) = 9 by decide), if_neg (show ¬ (13 : Int32) = 10 by decide), if_neg (show ¬ (13 : Int32) = 11 by decide), if_neg (show ¬ (13 : Int32) = 12 by decide), if_pos rfl]
    rw [gd_t, if_neg h14]
    exact par_gd (fun _ => par_some (Or.inr ⟨rfl, Or.inl rfl⟩))
theorem arF_lo {b q : Nat} {pn ar : Nat → Nat} {f : Nat → Int32} {i : Nat} (hi : i < b) : ∀ j, arF b q pn ar f j i = f i
  | 0 => rfl
  | j + 1 => by
    show upd (arF b q pn ar f j) (b + pn j) (arF b q pn ar f j (q + ar j)) i = f i
    rw [pk_un (by omega)]
    exact arF_lo hi j
theorem op_ar {R : RD} {D : FD} {l b q m : Nat} {pn ar : Nat → Nat} {f : Nat → Int32} (hq : q + 26 ≤ b) (hpn : ∀ j, j < m → pn j = R.2.2.2 l j) (har : ∀ j, j < m → ar j < 26 ∧ D.2.2.1 (4 * l + j) (vb (f (q + ar j)))) (hz : ∀ n, n < 26 → f (b + n) = 0) : ∀ j, j ≤ m → ∀ n, n < 26 → opB R D l j n (vb (arF b q pn ar f j (b + n)))
  | 0, _, n, hn => by
    show vb (f (b + n)) = 0
    exact vb_0 (hz n hn)
  | j + 1, hj, n, hn => by
    obtain ⟨a1, a2⟩ := har j (by omega)
    show if n = R.2.2.2 l j then D.2.2.1 (4 * l + j) (vb (upd (arF b q pn ar f j) (b + pn j) (arF b q pn ar f j (q + ar j)) (b + n))) else opB R D l j n (vb (upd (arF b q pn ar f j) (b + pn j) (arF b q pn ar f j (q + ar j)) (b + n)))
    have e := hpn j (by omega)
    by_cases c : n = R.2.2.2 l j
    · rw [if_pos c, show b + n = b + pn j by omega, pk_us, arF_lo (by omega)]
      exact a2
    · rw [if_neg c, pk_un (by omega)]
      exact op_ar hq hpn har hz j (by omega) n hn
/-- an act is done: the run keeps to the FACTS -/
theorem is_step {N : Nat} {σc σm σ : St} {G s l k : Nat} {φ tv : Nat → Nat} {D : FD} {c : Int32} (hN : 8589934592 ≤ N) (h : PO σc σm G s φ) (hOB : OB σm) (hUB : UB σm) (h18 : gI σm 18 = nI (φ s)) (hS : Sol σc G s (Rd G σc σm) l tv D) (hI : IS σc σm G s φ D k σ) : Par (m_does N σ (nI k) c) (fun r σ' => IQ σc σm G s φ D r σ') := by
  obtain ⟨i55, iF, dp, p, i, t, st, hd, hR, hp, ek, hk, hDp, hFC, hPL⟩ := hI
  have ha := h.1.2.2.2.1
  have hs := h.1.2.2.1
  have hBV := h.1.2.2.2.2.2.1
  have hps := (po_up h (show p + 1 ≤ s by omega) (Nat.le_refl _)).1
  obtain ⟨hq, -, ⟨r47, r47'⟩, ⟨r50, r50'⟩, r51, ⟨r52, r52'⟩, rN, rFd, r49⟩ := id hR
  have hK : ∀ j, j < 40 → ∀ q, gA σ j q = gA σm j q := fun j hj q => by rw [hq.1 j hj]
  have hrow := hS.2.2 p hp hDp
  have k26 : k < 2600 := by omega
  have sd := (s_does (N := N) (c := c) hN hBV ha hR (show 1 ≤ dp + 1 by omega) (show k < φ s by omega)).par
  -- a row's beginning is reached
  have go : ∀ (r : Int32) (σ' : St) (q : Nat) (g : Nat → Nat → Prop), DP σm (φ s) (ms (gA σm 12) st (dp + 1) k) r σ' → r = nI (φ q) → q < s → gI σ' 50 = nI (dp + 1) → FS D σ' → NSt σ' dp g → jn D q g → (∀ i, i < 26 * dp → gA σ' 48 i = gA σ 48 i) → gA σ' 49 = gA σ 49 → gI σ' 55 = -1 → dn σc G q 11 = dn σc G p 11 → IQ σc σm G s φ D r σ' := fun r σ' q g zD hr hq2 h50 hF hNS hj h48 h49 h55 ho =>
    iq_land (i := 0) zD hr h50 hd hF hq2 rfl ((po_up h (show q ≤ q + 1 by omega) (by omega)).2 (by omega)) hj.1 (by rw [ho]; exact fc_f dp _ h48 (fun j _ _ => by rw [h49]) hFC) (pl_0 (fun n hn => hj.2 n _ hn vb_lt (hNS n hn))) h55
  have nxo : p + 1 < s → ¬ gA σm 12 (φ (p + 1) - 1) = 9 → dn σc G (p + 1) 11 = dn σc G p 11 := fun h1 h2 => own_next h hOB h1 h2
  -- back to a call
  have ret : gA σ 12 k = 9 → D.2.2.1 (32 + dn σc G p 11) (vb (gI σ 51)) → Par (m_does N σ (nI k) c) (fun r σ' => IQ σc σm G s φ D r σ') := fun a hm => by
    refine ((dd9 k26 a r50 hd).and sd).mono (fun r σ' z => ?_)
    obtain ⟨z, zD⟩ := z
    rcases z with ⟨z0, ⟨-, z2⟩ | ⟨-, z2⟩⟩ | ⟨z0, z1, z2⟩
    · rw [z2]
      exact iq_3 (x := 0) rfl (by decide) (by decide)
    · rw [z2]
      exact iq_3 (x := 1) rfl (by decide) (by decide)
    · subst z2
      obtain ⟨dp', rfl⟩ : ∃ dp', dp = dp' + 1 := ⟨dp - 1, by omega⟩
      obtain ⟨q, q1, q2, q3, q4, q5, q6, q7, q8⟩ := hFC
      have hM : D.2.2.1 (32 + dn σc G q 6) (vb (gI σ 51)) := by rw [q7]; exact hm
      have hal : aL D.2.2.1 (D.1 q) (dn σc G q) := ⟨fun e => by omega, fun _ => ⟨_, vb_lt, hM⟩⟩
      have hnb : NSt σ dp' (nB (D.1 q) (dn σc G q)) := fun n hn => by
        unfold nB
        rw [if_neg (fun e => by omega)]
        exact q6 n hn
      have hvb : vB D.2.2.1 (D.1 q) (dn σc G q) (vb (gI σ 51)) := Or.inr (Or.inr (Or.inr (Or.inr (Or.inr ⟨q4, hM⟩))))
      have hr := z1.trans q5
      have hC2 : ∀ l, FC σc G s φ D σ dp' l → FC σc G s φ D (sI σ 50 (nI (dp' + 1))) dp' l := fun l hh => fc_f (σ := σ) dp' l (fun _ _ => rfl) (fun _ _ _ => rfl) hh
      have two : φ (q + 1) = φ q + 3 → IQ σc σm G s φ D r (sI σ 50 (nI (dp' + 1))) := fun ln => iq_land (k := φ q + 2) (i := 2) zD hr gI_eq (by omega) iF q1 rfl (by omega) q2 (hC2 _ q8) (pl_2 hal hnb hvb) i55
      rcases rx_of h q1 with ⟨e, -⟩ | ⟨e, -⟩ | ⟨e, -⟩ | ⟨e, ln, -⟩ | ⟨e, ln, -⟩ | ⟨e, ln, -, lt, vx, -⟩ | ⟨e, ln, -⟩
      · omega
      · omega
      · omega
      · exact two ln
      · exact two ln
      · have hj := (((hS.2.2 q q1 q2).2.2.2.2 (by omega)).2 hal).2.2.1 e
        have a6 : gA σm 12 (φ q + 1) = nI 6 := by
          rcases vx with ⟨y, -⟩ | ⟨y, -⟩ | ⟨y, -⟩ | ⟨y, -⟩ | ⟨y, -⟩ | ⟨-, y, -⟩ <;> first | exact y | omega
        have ho : dn σc G (q + 1) 11 = dn σc G q 11 := own_next h hOB lt (by rw [show φ (q + 1) - 1 = φ q + 1 by omega, a6]; decide)
        refine iq_land (k := φ q + 2) (i := 0) zD hr gI_eq (by omega) iF lt ln.symm ?_ hj.1 (by rw [ho]; exact hC2 _ q8) (pl_0 (fun n hn => hj.2 n _ hn vb_lt (hnb n hn))) i55
        have := (po_up h (show q + 1 ≤ q + 1 + 1 by omega) (by omega)).2 (by omega)
        omega
      · exact two ln
  -- a step is counted
  have stp : i = 0 → gA σ 12 k = 0 → 2 ≤ dn σc G p 0 → k + 1 < φ (p + 1) → Par (m_does N σ (nI k) c) (fun r σ' => IQ σc σm G s φ D r σ') := fun e a h2 hk2 => by
    refine ((dd0 k26 a).and sd).mono (fun r σ' z => ?_)
    obtain ⟨z, zD⟩ := z
    rcases z with ⟨-, z2⟩ | ⟨-, z1, z2⟩
    · rw [z2]
      exact iq_3 (x := 3) rfl (by decide) (by decide)
    · subst z2
      exact iq_land (k := k + 1) (i := 1) zD z1 r50 hd iF hp (by omega) hk2 hDp (fc_f (σ := σ) dp _ (fun _ _ => rfl) (fun _ _ _ => rfl) hFC) ⟨fun e => absurd e (by decide), fun _ => ⟨fun e => by omega, fun _ => hPL.1 e⟩, fun e => absurd e (by decide)⟩ i55
  -- a value is there
  have fin : ∀ (r : Int32) (σ' : St), DP σm (φ s) (ms (gA σm 12) st (dp + 1) k) r σ' → i = 1 → k + 1 < φ (p + 1) → r = nI (k + 1) → gI σ' 50 = nI (dp + 1) → gI σ' 55 = -1 → FS D σ' → gA σ' 48 = gA σ 48 → gA σ' 49 = gA σ 49 → aL D.2.2.1 (D.1 p) (dn σc G p) → (∀ n, n < 26 → nB (D.1 p) (dn σc G p) n (vb (gA σ 48 (26 * dp + n)))) → vB D.2.2.1 (D.1 p) (dn σc G p) (vb (gI σ' 51)) → IQ σc σm G s φ D r σ' := fun r σ' zD e1 hk2 hr h50 h55 hF h48 h49 hal hnb hvb =>
    iq_land (k := k + 1) (i := 2) zD hr h50 hd hF hp (by omega) hk2 hDp (fc_f dp _ (fun i _ => by rw [h48]) (fun j _ _ => by rw [h49]) hFC) (pl_2 hal (fun n hn => by rw [h48]; exact hnb n hn) hvb) h55
  have val : VX σm (Rd G σc σm) (dn σc G p) k → i = 1 → 3 ≤ dn σc G p 0 → (¬ dn σc G p 4 = 5 → k + 1 < φ (p + 1)) → Par (m_does N σ (nI k) c) (fun r σ' => IQ σc σm G s φ D r σ') := fun hv e1 h3 hk2 => by
    have hNS : NSt σ dp (D.1 p) := (hPL.2.1 e1).2 (by omega)
    obtain ⟨hef, -⟩ := hrow.2.2.2.2 h3
    have hnb : ¬ dn σc G p 4 = 4 → ∀ n, n < 26 → nB (D.1 p) (dn σc G p) n (vb (gA σ 48 (26 * dp + n))) := fun h4 n hn => by
      unfold nB
      rw [if_neg (fun e => h4 e.1)]
      exact hNS n hn
    rcases hv with ⟨d4, a⟩ | ⟨d4, a⟩ | ⟨d4, a, b1, b2, b3, b4⟩ | ⟨d4, a, b1, b2⟩ | ⟨d4, a, b1, b2, b3, b4, b5⟩ | ⟨d4, a, b1, hRl, b3, bb, b4, b5, b6, b7⟩
    · refine ((dd1 k26 ((hK 12 (by decide) k).trans a)).and sd).mono (fun r σ' z => ?_)
      obtain ⟨⟨z1, z2⟩, zD⟩ := z
      subst z2
      exact fin r _ zD e1 (hk2 (by omega)) z1 r50 i55 iF rfl rfl ⟨fun e => by omega, fun e => by omega⟩ (hnb (by omega)) (Or.inl ⟨d4, vb_0 rfl⟩)
    · obtain ⟨an, h53⟩ : ∃ an, gI σ 53 = nI an := ⟨(gI σ 53).toBitVec.toNat, by apply Int32.toBitVec_inj.mp; rw [tb_n]; simp⟩
      refine ((dd2 k26 ((hK 12 (by decide) k).trans a) h53 r47 r47').and sd).mono (fun r σ' z => ?_)
      obtain ⟨⟨z1, z2⟩, zD⟩ := z
      rcases z2 with ⟨-, z2⟩ | ⟨-, -, z2⟩ | ⟨-, ht, z2⟩
      · subst z2
        exact fin r _ zD e1 (hk2 (by omega)) z1 r50 i55 iF rfl rfl ⟨fun e => by omega, fun e => by omega⟩ (hnb (by omega)) (Or.inr (Or.inl d4))
      · rw [z2]
        exact iq_3 (x := 3) rfl (by decide) (by decide)
      · subst z2
        obtain ⟨m0, m1⟩ := hef.1 d4
        have hF2 : FS D (mkM (sI σ 53 (nI (an + 1))) t (nI (t + 1)) (nI (t + 1))) := fs_mk (fun t' ht' => iF t' ht') r47 ht (by rw [vb_n (by omega)]; exact m0) (by rw [vb_n (by omega)]; exact m1)
        exact fin r _ zD e1 (hk2 (by omega)) z1 r50 i55 (fun t' ht' => hF2 t' ht') rfl rfl ⟨fun e => by omega, fun e => by omega⟩ (hnb (by omega)) (Or.inr (Or.inl d4))
    · refine ((dd3 k26 ((hK 12 (by decide) k).trans a) r50 hd ((hK 13 (by decide) k).trans b1) b2 ((hK 14 (by decide) k).trans b3) b4 r47 r47').and sd).mono (fun r σ' z => ?_)
      obtain ⟨⟨z1, z2⟩, zD⟩ := z
      rcases z2 with ⟨-, z2⟩ | ⟨ht, z2⟩
      · rw [z2]
        exact iq_3 (x := 3) rfl (by decide) (by decide)
      · subst z2
        have o1 : ∀ j, j < 26 → orT t (gA σ 48 (26 * dp + j)) = gA σ 48 (26 * dp + j) := fun j hj => if_neg (th_ne (rN (26 * dp + j) (by omega)))
        have hF2 : FS D (mkM σ t (orT t (gA σ 48 (26 * dp + dn σc G p 5))) (orT t (gA σ 48 (26 * dp + dn σc G p 6)))) := fs_mk iF r47 ht (by rw [o1 _ b2]; exact (hef.2.1 d4 _ vb_lt).1 (hNS _ b2)) (by rw [o1 _ b4]; exact (hef.2.1 d4 _ vb_lt).2 (hNS _ b4))
        exact fin r _ zD e1 (hk2 (by omega)) z1 r50 i55 (fun t' ht' => hF2 t' ht') rfl rfl ⟨fun e => by omega, fun e => by omega⟩ (hnb (by omega)) (Or.inr (Or.inr (Or.inl ⟨d4, vb_n (by omega)⟩)))
    · refine ((dd4 k26 ((hK 12 (by decide) k).trans a) r50 hd ((hK 13 (by decide) k).trans b1) b2).and sd).mono (fun r σ' z => ?_)
      obtain ⟨⟨z1, z2⟩, zD⟩ := z
      subst z2
      exact fin r _ zD e1 (hk2 (by omega)) z1 r50 i55 iF rfl rfl ⟨fun e => by omega, fun e => by omega⟩ (hnb (by omega)) (Or.inr (Or.inr (Or.inr (Or.inl ⟨d4, hNS _ b2⟩))))
    · refine ((dd5 k26 ((hK 12 (by decide) k).trans a) r50 hd ((hK 13 (by decide) k).trans b1) b2).and sd).mono (fun r σ' z => ?_)
      obtain ⟨⟨z1, z2⟩, zD⟩ := z
      have hx := hNS _ b2
      rcases z2 with ⟨y, z2⟩ | ⟨y, z2⟩
      · subst z2
        rw [vb_0 y] at hx
        obtain ⟨a0, u, f1, f2, f3, f4, f5, -⟩ := hUB
        have ea : a0 = φ s := (nI_eq (by omega) (by omega)).mp (f1.symm.trans h18)
        obtain ⟨v, v1, v2⟩ := f5 k (by omega) (Or.inl a)
        have e7 : dn σc G p 7 = v := nI_tb dn_lt (by omega) (b5.symm.trans v2)
        exact iq_2 (v := v) rfl (by rw [uN_of f3 f4]; exact v1) ((hK 15 (by decide) k).trans v2) (by rw [← e7]; exact hef.2.2.1 d4 (by omega) 0 (by decide) hx)
      · subst z2
        rw [vb_1 y] at hx
        have hth := rN (26 * dp + dn σc G p 5) (by omega)
        obtain ⟨m, m1, m2⟩ := nI_upto hth.1 hth.2 (by omega)
        have hm0 : 0 < m := by
          rcases Nat.eq_zero_or_pos m with e | e
          · rw [m2, e] at y; exact absurd rfl y
          · exact e
        have ix : (2 * gA σ 48 (26 * dp + dn σc G p 5) + gA σ 14 k).toNatClampNeg = 2 * m + dn σc G p 6 := by
          rw [m2, hK 14 (by decide) k, b3, show (2 : Int32) = nI 2 from rfl, nI_mul, nI_add, nI_clamp (by omega)]
        have hf := iF t r47 r47' (2 * m + dn σc G p 6) (by omega) (by omega)
        rw [show (2 * m + dn σc G p 6) % 2 = dn σc G p 6 by omega, ← ix] at hf
        exact fin r _ zD e1 (hk2 (by omega)) z1 r50 i55 iF rfl rfl ⟨fun _ => ⟨hx, _, vb_lt, hf⟩, fun e => by omega⟩ (fun n hn => by
          unfold nB
          by_cases e : dn σc G p 4 = 4 ∧ n = dn σc G p 5
          · rw [if_pos e, e.2]
            exact vb_1 y
          · rw [if_neg e]
            exact hNS n hn) (Or.inr (Or.inr (Or.inr (Or.inr (Or.inl ⟨d4, hf⟩)))))
    · obtain ⟨g1, g2, g3, g4, g5, g6, g7, g8⟩ := rd_ok h hRl
      refine ((dd6 k26 ((hK 12 (by decide) k).trans a) (n_enter (pn := fun i => (Rd G σc σm).2.2.2 (dn σc G p 6) i) (dp := dp) k26 r50 hd ((hK 13 (by decide) k).trans b1) ((hK 14 (by decide) k).trans b3) ((hK 16 (by decide) k).trans b5) g3 b4 g1 (fun i hi => ⟨(hK 21 (by decide) _).trans (g8 i hi).1, (g8 i hi).2.1⟩))).and sd).mono (fun r σ' z => ?_)
      obtain ⟨z, zD⟩ := z
      rcases z with ⟨-, z2⟩ | ⟨hd2, z1, z2⟩
      · rw [z2]
        exact iq_3 (x := 3) rfl (by decide) (by decide)
      · subst z2
        obtain ⟨ef1, ef2⟩ := hef.2.2.2 d4
        have hcl : ∀ i, i < 26 * (dp + 1) → clr (gA σ 48) (26 * (dp + 1)) 26 i = gA σ 48 i := fun i hi => if_neg (by omega)
        have har : ∀ j, j < (Rd G σc σm).2.2.1 (dn σc G p 6) → bb / 2 ^ (5 * j) % 32 < 26 ∧ D.2.2.1 (4 * dn σc G p 6 + j) (vb (clr (gA σ 48) (26 * (dp + 1)) 26 (26 * dp + bb / 2 ^ (5 * j) % 32))) := fun j hj => by
          obtain ⟨j1, j2⟩ := b7 j hj
          rw [j1, hcl _ (by omega)]
          exact ⟨j2, ef2 j _ hj vb_lt (hNS _ j2)⟩
        have hop := op_ar (R := Rd G σc σm) (D := D) (l := dn σc G p 6) (b := 26 * (dp + 1)) (q := 26 * dp) (m := (Rd G σc σm).2.2.1 (dn σc G p 6)) (pn := fun i => (Rd G σc σm).2.2.2 (dn σc G p 6) i) (ar := fun i => bb / 2 ^ (5 * i) % 32) (f := clr (gA σ 48) (26 * (dp + 1)) 26) (by omega) (fun _ _ => rfl) har (fun n hn => if_pos (by omega)) _ (Nat.le_refl _)
        have hj := hS.2.1 (dn σc G p 6) hRl ef1 (fun j hj => ⟨_, vb_lt, (har j hj).2⟩)
        have hown := own_open h hRl
        have lo : ∀ i, i < 26 * (dp + 1) → gA (sF (sI (sA (sF σ 48 (clr (gA σ 48) (26 * (dp + 1)) 26)) 49 (dp + 1) (nI (k + 1))) 50 (nI (dp + 2))) 48 (arF (26 * (dp + 1)) (26 * dp) (fun i => (Rd G σc σm).2.2.2 (dn σc G p 6) i) (fun i => bb / 2 ^ (5 * i) % 32) (clr (gA σ 48) (26 * (dp + 1)) 26) ((Rd G σc σm).2.2.1 (dn σc G p 6)))) 48 i = gA σ 48 i := fun i hi => by
          rw [gA_sF, arF_lo hi]
          exact hcl i hi
        have n49 : ∀ j, gA (sF (sI (sA (sF σ 48 (clr (gA σ 48) (26 * (dp + 1)) 26)) 49 (dp + 1) (nI (k + 1))) 50 (nI (dp + 2))) 48 (arF (26 * (dp + 1)) (26 * dp) (fun i => (Rd G σc σm).2.2.2 (dn σc G p 6) i) (fun i => bb / 2 ^ (5 * i) % 32) (clr (gA σ 48) (26 * (dp + 1)) 26) ((Rd G σc σm).2.2.1 (dn σc G p 6)))) 49 j = upd (gA σ 49) (dp + 1) (nI (k + 1)) j := fun j => rfl
        refine iq_land (k := φ ((Rd G σc σm).2.1 (dn σc G p 6))) (i := 0) (dp := dp + 1) zD (z1.trans ((hK 19 (by decide) _).trans g4)) rfl (by omega) (fun t' ht' => iF t' ht') g2 rfl ((po_up h (show (Rd G σc σm).2.1 (dn σc G p 6) ≤ (Rd G σc σm).2.1 (dn σc G p 6) + 1 by omega) (by omega)).2 (by omega)) hj.1 ?_ (pl_0 (fun n hn => ?_)) i55
        · rw [hown]
          refine ⟨p, hp, hDp, h3, d4, ?_, fun n hn => ?_, rfl, fc_f dp _ (fun i hi => lo i (by omega)) (fun j h0 hj => ?_) hFC⟩
          · rw [n49, pk_us, show k + 1 = φ p + 2 by omega]
          · rw [lo _ (by omega)]
            exact hNS n hn
          · rw [n49, pk_un (by omega)]
        · refine hj.2 n _ hn vb_lt ?_
          rw [gA_sF]
          exact hop n hn
  rcases rx_of h hp with ⟨e, ln, a0, a1⟩ | ⟨e, ln, a0, b, a1⟩ | ⟨e, ln, a0, b, b3, b4, b5, b6, b7⟩ | ⟨e, ln, a0, b, bv, a2, a3, a4⟩ | ⟨e, ln, a0, b, bv, a2, a3, a4, a5, a6, a7⟩ | ⟨e, ln, a0, b, bv, b4⟩ | ⟨e, ln, a0, bv, a2⟩
  · rcases (show i = 0 ∨ i = 1 by omega) with e1 | e1
    · refine ((dd1 k26 (by rw [hK 12 (by decide), ek, e1]; exact a0)).and sd).mono (fun r σ' z => ?_)
      obtain ⟨⟨z1, z2⟩, zD⟩ := z
      subst z2
      exact iq_land (k := k + 1) (i := 1) zD z1 r50 hd iF hp (by omega) (by omega) hDp (fc_f (σ := σ) dp _ (fun _ _ => rfl) (fun _ _ _ => rfl) hFC) ⟨fun e => absurd e (by decide), fun _ => ⟨fun _ => rfl, fun e2 => by omega⟩, fun e => absurd e (by decide)⟩ i55
    · refine ret (by rw [hK 12 (by decide), ek, e1]; exact a1) ?_
      rw [vb_0 ((hPL.2.1 e1).1 e)]
      exact hrow.1 e
  · have e1 : i = 0 := by omega
    have hj := hrow.2.1 e
    have hNS := hPL.1 e1
    have ek0 : k = φ p := by omega
    have hgo : ∀ n, gA σm 13 (φ p) = nI n → φ (dn σc G p 10) ≤ n → n < φ (dn σc G p 10 + 1) → dn σc G (dn σc G p 10) 11 = dn σc G p 11 := fun n h1 h2 h3 => own_goal h hOB hp b (k := φ p) (n := n) (Nat.le_refl _) (by omega) h2 h3 (by rw [a0]; exact Or.inr (Or.inr (Or.inr rfl))) (by unfold gvB; rw [a0, if_pos (show nI 13 = (13 : Int32) from rfl)]; exact h1) h18
    refine ((ddJ k26 (by rw [hK 12 (by decide), ek0]; exact a0)).and sd).mono (fun r σ' z => ?_)
    obtain ⟨z, zD⟩ := z
    rcases z with ⟨-, z2⟩ | ⟨z1, z2⟩
    · rw [z2]
      exact iq_3 (x := 3) rfl (by decide) (by decide)
    · rw [hK 13 (by decide), ek0] at z1
      have up1 := (po_up h (show dn σc G p 10 ≤ dn σc G p 10 + 1 by omega) (by omega)).2 (by omega)
      have core : gI σ' 50 = nI (dp + 1) → FS D σ' → gA σ' 48 = gA σ 48 → gA σ' 49 = gA σ 49 → gI σ' 55 = -1 → IQ σc σm G s φ D r σ' := fun s1 s2 s3 s4 s5 => by
        have hNS2 : NSt σ' dp (D.1 (dn σc G p 10)) := fun n hn => by rw [s3]; exact hj.2 n _ hn vb_lt (hNS n hn)
        rcases a1 with a1 | ⟨a1, e2⟩
        · exact go r σ' (dn σc G p 10) (D.1 p) zD (z1.trans a1) b s1 s2 (fun n hn => by rw [s3]; exact hNS n hn) hj (fun i _ => by rw [s3]) s4 s5 (hgo _ a1 (Nat.le_refl _) up1)
        · have up2 : φ (dn σc G p 10 + 1) = φ (dn σc G p 10) + 2 := by
            rcases rx_of h b with ⟨y, -⟩ | ⟨y, -⟩ | ⟨-, y, -⟩ | ⟨y, -⟩ | ⟨y, -⟩ | ⟨y, -⟩ | ⟨y, -⟩ <;> first | exact y | omega
          refine iq_land (k := φ (dn σc G p 10) + 1) (i := 1) zD (z1.trans a1) s1 hd s2 b rfl (by omega) hj.1 ?_ ⟨fun e => absurd e (by decide), fun _ => ⟨fun e => by omega, fun _ => hNS2⟩, fun e => absurd e (by decide)⟩ s5
          rw [hgo _ a1 (by omega) (by omega)]
          exact fc_f dp _ (fun i _ => by rw [s3]) (fun j _ _ => by rw [s4]) hFC
      rcases z2 with z2 | z2
      · subst z2
        exact core r50 iF rfl rfl i55
      · subst z2
        exact core r50 (fun t' ht' => iF t' ht') rfl rfl i55
  · rcases (show i = 0 ∨ i = 1 by omega) with e1 | e1
    · exact stp e1 (by rw [hK 12 (by decide), ek, e1]; exact a0) (by omega) (by omega)
    · have hNS := (hPL.2.1 e1).2 (by omega)
      have ek1 : k = φ p + 1 := by omega
      have g15 : gA σ 15 k = nI (φ (dn σc G p 10)) := by rw [hK 15 (by decide), ek1]; exact b6
      have up1 := (po_up h (show dn σc G p 10 ≤ dn σc G p 10 + 1 by omega) (by omega)).2 (by omega)
      have ln1 : nI (k + 1) = nI (φ (p + 1)) := by rw [ln, ek1]
      have hgo : gl (gA σm 12 (φ p + 1)) → ¬ gA σm 12 (φ p + 1) = 13 → dn σc G (dn σc G p 10) 11 = dn σc G p 11 := fun h1 h2 => own_goal h hOB hp b5 (k := φ p + 1) (n := φ (dn σc G p 10)) (by omega) (by omega) (Nat.le_refl _) up1 h1 (by unfold gvB; rw [if_neg h2]; exact b6) h18
      have hnx : ¬ gA σm 12 (φ p + 1) = 9 → dn σc G (p + 1) 11 = dn σc G p 11 := fun h1 => nxo b (by rw [ln, show φ p + 2 - 1 = φ p + 1 by omega]; exact h1)
      rcases b7 with ⟨d4, a⟩ | ⟨w, w2, d4, a, c1, c2⟩
      · obtain ⟨an, h53⟩ : ∃ an, gI σ 53 = nI an := ⟨(gI σ 53).toBitVec.toNat, by apply Int32.toBitVec_inj.mp; rw [tb_n]; simp⟩
        obtain ⟨-, -, j1, j2⟩ := hrow.2.2.1 e d4
        refine ((dd12 k26 (by rw [hK 12 (by decide), ek1]; exact a) h53).and sd).mono (fun r σ' z => ?_)
        obtain ⟨⟨z1, z2⟩, zD⟩ := z
        subst z1
        rcases z2 with ⟨-, z2⟩ | ⟨-, z2⟩
        · exact go r _ (dn σc G p 10) (D.1 p) zD (z2.trans g15) b5 r50 (fun t' ht' => iF t' ht') hNS j2 (fun _ _ => rfl) rfl i55 (hgo (by rw [a]; exact Or.inr (Or.inr (Or.inl rfl))) (by rw [a]; decide))
        · exact go r _ (p + 1) (D.1 p) zD (z2.trans ln1) b r50 (fun t' ht' => iF t' ht') hNS j1 (fun _ _ => rfl) rfl i55 (hnx (by rw [a]; decide))
      · have hts := hrow.2.2.2.1 e w w2 d4
        have hx := hNS _ c2
        have nm : ∀ x, vb (gA σ 48 (26 * dp + dn σc G p 1)) = x → NSt σ dp (fun n b => if n = dn σc G p 1 then b = x else D.1 p n b) := fun x hx n hn => by
          show if n = dn σc G p 1 then vb (gA σ 48 (26 * dp + n)) = x else D.1 p n (vb (gA σ 48 (26 * dp + n)))
          by_cases q : n = dn σc G p 1
          · rw [if_pos q, q]; exact hx
          · rw [if_neg q]; exact hNS n hn
        have near : ∀ (r : Int32), DP σm (φ s) (ms (gA σm 12) st (dp + 1) k) r σ → r = nI (k + 1) → vb (gA σ 48 (26 * dp + dn σc G p 1)) = w → IQ σc σm G s φ D r σ := fun r zD hr hv => go r σ (p + 1) _ zD (hr.trans ln1) b r50 iF (nm w hv) (hts.1 (by rw [← hv]; exact hx)).2 (fun _ _ => rfl) rfl i55 (hnx (by rw [a]; rcases (show w = 0 ∨ w = 1 by omega) with q | q <;> subst q <;> decide))
        have far : ∀ (r : Int32), DP σm (φ s) (ms (gA σm 12) st (dp + 1) k) r σ → r = gA σ 15 k → vb (gA σ 48 (26 * dp + dn σc G p 1)) = 1 - w → IQ σc σm G s φ D r σ := fun r zD hr hv => go r σ (dn σc G p 10) _ zD (hr.trans g15) b5 r50 iF (nm (1 - w) hv) (hts.2 (by rw [← hv]; exact hx)).2 (fun _ _ => rfl) rfl i55 (hgo (by rw [a]; rcases (show w = 0 ∨ w = 1 by omega) with q | q <;> subst q; exact Or.inl rfl; exact Or.inr (Or.inl rfl)) (by rw [a]; rcases (show w = 0 ∨ w = 1 by omega) with q | q <;> subst q <;> decide))
        have a' : gA σ 12 k = nI (10 + w) := by rw [hK 12 (by decide), ek1]; exact a
        have c1' : gA σ 13 k = nI (dn σc G p 1) := by rw [hK 13 (by decide), ek1]; exact c1
        rcases (show w = 0 ∨ w = 1 by omega) with q | q
        · subst q
          refine ((dd10 k26 a' r50 hd c1' c2).and sd).mono (fun r σ' z => ?_)
          obtain ⟨⟨z1, z2⟩, zD⟩ := z
          subst z1
          rcases z2 with ⟨y, z2⟩ | ⟨y, z2⟩
          · exact near r zD z2 (vb_0 y)
          · exact far r zD z2 (vb_1 y)
        · subst q
          refine ((dd11 k26 a' r50 hd c1' c2).and sd).mono (fun r σ' z => ?_)
          obtain ⟨⟨z1, z2⟩, zD⟩ := z
          subst z1
          rcases z2 with ⟨y, z2⟩ | ⟨y, z2⟩
          · exact far r zD z2 (vb_0 y)
          · exact near r zD z2 (vb_1 y)
  · rcases (show i = 0 ∨ i = 1 ∨ i = 2 by omega) with e1 | e1 | e1
    · exact stp e1 (by rw [hK 12 (by decide), ek, e1]; exact a0) (by omega) (by omega)
    · exact val (by rw [ek, e1]; exact bv) e1 (by omega) (fun _ => by omega)
    · obtain ⟨p1, p2, p3⟩ := hPL.2.2 e1
      have ek2 : k = φ p + 2 := by omega
      have hj := ((hrow.2.2.2.2 (by omega)).2 p1).1 e
      refine ((dd7 k26 (by rw [hK 12 (by decide), ek2]; exact a2) r50 hd (by rw [hK 13 (by decide), ek2]; exact a3) a4).and sd).mono (fun r σ' z => ?_)
      obtain ⟨⟨z1, z2⟩, zD⟩ := z
      subst z2
      refine go r _ (p + 1) _ zD (z1.trans (by rw [ln, ek2])) b r50 (fun t' ht' => iF t' ht') (fun n hn => ?_) hj (fun i hi => ?_) rfl i55 (nxo b (by rw [ln, show φ p + 3 - 1 = φ p + 2 by omega, a2]; decide))
      · show if n = dn σc G p 1 then vB D.2.2.1 (D.1 p) (dn σc G p) (vb (upd (gA σ 48) (26 * dp + dn σc G p 1) (gI σ 51) (26 * dp + n))) else nB (D.1 p) (dn σc G p) n (vb (upd (gA σ 48) (26 * dp + dn σc G p 1) (gI σ 51) (26 * dp + n)))
        by_cases q : n = dn σc G p 1
        · rw [if_pos q, q, pk_us]; exact p3
        · rw [if_neg q, pk_un (by omega)]; exact p2 n hn
      · show upd (gA σ 48) (26 * dp + dn σc G p 1) (gI σ 51) i = gA σ 48 i
        exact pk_un (by omega)
  · rcases (show i = 0 ∨ i = 1 ∨ i = 2 by omega) with e1 | e1 | e1
    · exact stp e1 (by rw [hK 12 (by decide), ek, e1]; exact a0) (by omega) (by omega)
    · exact val (by rw [ek, e1]; exact bv) e1 (by omega) (fun _ => by omega)
    · obtain ⟨p1, p2, p3⟩ := hPL.2.2 e1
      have ek2 : k = φ p + 2 := by omega
      obtain ⟨f1, f2⟩ := ((hrow.2.2.2.2 (by omega)).2 p1).2.1 e
      have hx := p2 _ a4
      refine ((dd8 k26 (by rw [hK 12 (by decide), ek2]; exact a2) r50 hd (by rw [hK 13 (by decide), ek2]; exact a3) a4).and sd).mono (fun r σ' z => ?_)
      obtain ⟨⟨z1, z2⟩, zD⟩ := z
      rcases z2 with ⟨y, z2⟩ | ⟨y, z2⟩
      · subst z2
        rw [vb_0 y] at hx
        obtain ⟨a00, u, u1, u2, u3, u4, u5, -⟩ := hUB
        have ea : a00 = φ s := (nI_eq (by omega) (by omega)).mp (u1.symm.trans h18)
        obtain ⟨v, v1, v2⟩ := u5 (φ p + 2) (by omega) (Or.inr a2)
        have e3 : dn σc G p 3 = v := nI_tb dn_lt (by omega) (a7.symm.trans v2)
        exact iq_2 (v := v) rfl (by rw [uN_of u3 u4]; exact v1) ((hK 15 (by decide) k).trans (by rw [ek2]; exact v2)) (by rw [← e3]; exact f1 (by omega) 0 (by decide) hx)
      · subst z2
        rw [vb_1 y] at hx
        obtain ⟨m40, hj⟩ := f2 hx
        have hth := rN (26 * dp + dn σc G p 1) (by omega)
        obtain ⟨m, m1, m2⟩ := nI_upto hth.1 hth.2 (by omega)
        have hm0 : 0 < m := by
          rcases Nat.eq_zero_or_pos m with q | q
          · rw [m2, q] at y; exact absurd rfl y
          · exact q
        have ix : (2 * gA σ 48 (26 * dp + dn σc G p 1) + gA σ 14 k).toNatClampNeg = 2 * m + dn σc G p 2 := by
          rw [m2, hK 14 (by decide) k, ek2, a5, show (2 : Int32) = nI 2 from rfl, nI_mul, nI_add, nI_clamp (by omega)]
        rw [ix] at zD ⊢
        refine go r _ (p + 1) _ zD (z1.trans (by rw [ln, ek2])) b r50 (fun t' ht' h300 i h2 hi => ?_) (fun n hn => ?_) hj (fun i hi => rfl) rfl i55 (nxo b (by rw [ln, show φ p + 3 - 1 = φ p + 2 by omega, a2]; decide))
        · show D.2.2.1 (40 + i % 2) (vb (upd (gA σ 46) (2 * m + dn σc G p 2) (gI σ 51) i))
          by_cases q : i = 2 * m + dn σc G p 2
          · rw [q, pk_us, show (2 * m + dn σc G p 2) % 2 = dn σc G p 2 by omega]
            exact m40 _ vb_lt p3
          · rw [pk_un q]
            exact iF t' ht' h300 i h2 hi
        · show if n = dn σc G p 1 then vb (gA σ 48 (26 * dp + n)) = 1 else nB (D.1 p) (dn σc G p) n (vb (gA σ 48 (26 * dp + n)))
          by_cases q : n = dn σc G p 1
          · rw [if_pos q, q]; exact vb_1 y
          · rw [if_neg q]; exact p2 n hn
  · rcases (show i = 0 ∨ i = 1 by omega) with e1 | e1
    · exact stp e1 (by rw [hK 12 (by decide), ek, e1]; exact a0) (by omega) (by omega)
    · exact val (by rw [ek, e1]; exact bv) e1 (by omega) (fun q => absurd b4 q)
  · rcases (show i = 0 ∨ i = 1 ∨ i = 2 by omega) with e1 | e1 | e1
    · exact stp e1 (by rw [hK 12 (by decide), ek, e1]; exact a0) (by omega) (by omega)
    · exact val (by rw [ek, e1]; exact bv) e1 (by omega) (fun _ => by omega)
    · obtain ⟨p1, p2, p3⟩ := hPL.2.2 e1
      refine ret (by rw [hK 12 (by decide), ek, e1]; exact a2) ?_
      exact ((hrow.2.2.2.2 (by omega)).2 p1).2.2.2 e _ vb_lt p3
