/-! the reference's FACTS: a routine begins -/
/-- the marks of a state -/
def mD (σ : St) : FD := (fun _ _ _ => False, fun _ => False, fun m b => (mkv σ m).testBit b = true, fun _ => False, fun _ _ => False)
theorem mw_60 {x : Int64} {n v : Nat} (hn : n ≤ 26) (hv : v < 4) : lb (mw x n v) 60 = lb x 60 := by
  rw [mw_b hn hv 60 (by decide), if_neg (by omega), if_neg (by omega)]
theorem mw_nb {x : Int64} {n n' v b : Nat} (hn : n ≤ 26) (hn' : n' ≤ 26) (hv : v < 4) (hb : b < 2) : lb (mw x n v) (2 * n' + b) = if n' = n then v.testBit b else lb x (2 * n' + b) := by
  rw [mw_b hn hv _ (by omega)]
  by_cases e : n' = n
  · subst e
    rw [if_pos rfl]
    rcases (show b = 0 ∨ b = 1 by omega) with e | e
    · subst e; rw [if_pos (by omega)]
    · subst e; rw [if_neg (by omega), if_pos rfl]
  · rw [if_neg e, if_neg (by omega), if_neg (by omega)]
theorem n_beg7 {N : Nat} {σ : St} {r : Int32} {Q : Unit → St → Prop} (h : ∀ x, lb x 60 = true → (∀ n b, n < 26 → b < 2 → (lb x (2 * n + b) = true ↔ b = 0)) → Par (m_begins_28 N σ r x) Q) : ∀ (f k : Nat) (x : Int64), k ≤ 26 → lb x 60 = true → (∀ n b, n < k → b < 2 → (lb x (2 * n + b) = true ↔ b = 0)) → Par (m_begins_7 N f σ r x (nI k)) Q := by
  intro f
  induction f with
  | zero => intro k x _ _ _ r σ' e; cases e
  | succ f ih =>
    intro k x hk h60 hx
    show Par (m_begins_7_b N (m_begins_7 N f) σ r x (nI k)) Q
    unfold m_begins_7_b
    refine par_if (fun z => ?_) (fun z => ?_)
    · have := (nI_leI (a := 26) (by decide) (by omega)).mp z
      exact h x h60 (fun n b hn hb => hx n b (by omega) hb)
    · have z2 : k < 26 := Classical.byContradiction (fun y => z (nI_le (a := 26) (by omega) (by omega)))
      rw [show m_with N σ x (nI k) 1 = some (mw x k 1, σ) from n_with (v := 1), bd_s, nI_1]
      refine ih (k + 1) _ (by omega) (by rw [mw_60 (by omega) (by decide)]; exact h60) (fun n b hn hb => ?_)
      rw [mw_nb (by omega) (by omega) (by decide) hb]
      by_cases e : n = k
      · rw [if_pos e]
        rcases (show b = 0 ∨ b = 1 by omega) with e | e
        · subst e; exact ⟨fun _ => rfl, fun _ => rfl⟩
        · subst e; exact ⟨fun h => absurd h (by decide), fun h => absurd h (by decide)⟩
      · rw [if_neg e]
        exact hx n b (by omega) hb
theorem n_beg39 {N a : Nat} {σ : St} {R : RD} {r o m : Nat} {Q : Unit → St → Prop} (hW : WM a σ) (hr : r < 8) (h20 : gA σ 20 r = nI m) (hm : m ≤ 4) (h19 : gA σ 19 r = nI o) (hm2 : R.2.2.1 r = m) (hpn : ∀ k, k < m → gA σ 21 (4 * r + k) = nI (R.2.2.2 r k) ∧ R.2.2.2 r k < 26) (hdead : (∃ k, k < m ∧ mkv σ (4 * r + k) = 0) → Q () σ) (h : ∀ x, (∀ k, k < m → ¬ mkv σ (4 * r + k) = 0) → lb x 60 = true → (∀ n b, n < 26 → b < 2 → (lb x (2 * n + b) = true ↔ opB R (mD σ) r m n b)) → Par (m_flows N σ (nI o) x) Q) : ∀ (f k : Nat) (x : Int64), k ≤ m → (∀ i, i < k → ¬ mkv σ (4 * r + i) = 0) → lb x 60 = true → (∀ n b, n < 26 → b < 2 → (lb x (2 * n + b) = true ↔ opB R (mD σ) r k n b)) → Par (m_begins_39 N f σ (nI r) x (nI k)) Q := by
  obtain ⟨w1, w2, w3, w4⟩ := id hW
  intro f
  induction f with
  | zero => intro k x _ _ _ _ r σ' e; cases e
  | succ f ih =>
    intro k x hk hnz h60 hx
    show Par (m_begins_39_b N (m_begins_39 N f) σ (nI r) x (nI k)) Q
    unfold m_begins_39_b m_begins_93
    rw [nI_clamp (n := r) (by omega), h20, h19, show (4 : Int32) * nI r + nI k = nI (4 * r + k) from by rw [show (4 : Int32) = nI 4 from rfl, nI_mul, nI_add], nI_clamp (n := 4 * r + k) (by omega)]
    refine par_gd (fun _ => par_if (fun z => par_gd (fun _ => ?_)) (fun z => par_gd (fun _ => ?_)))
    · have e : k = m := by have := (nI_leI (by omega) (by omega)).mp z; omega
      subst e
      exact par_bd (h x hnz h60 hx) (fun _ σ4 q => par_some q)
    · have z2 : k < m := Classical.byContradiction (fun y => z (nI_le (by omega) (by omega)))
      obtain ⟨x1, x2⟩ := w1 (4 * r + k) (by omega)
      obtain ⟨p1, p2⟩ := hpn k z2
      rw [x1, p1, nI_1]
      refine par_if (fun y => par_some (hdead ⟨k, z2, (nI_eq (b := 0) (by omega) (by decide)).mp y⟩)) (fun y => par_gd (fun _ => ?_))
      rw [n_with, bd_s]
      refine ih (k + 1) _ (by omega) (fun i hi => ?_) (by rw [mw_60 (by omega) x2]; exact h60) (fun n b hn hb => ?_)
      · rcases (show i = k ∨ i < k by omega) with e | e
        · rw [e]; exact fun e0 => y (by rw [e0]; rfl)
        · exact hnz i e
      · rw [mw_nb (by omega) (by omega) x2 hb]
        show _ ↔ (if n = R.2.2.2 r k then (mkv σ (4 * r + k)).testBit b = true else opB R (mD σ) r k n b)
        by_cases e : n = R.2.2.2 r k
        · rw [if_pos e, if_pos e]
        · rw [if_neg e, if_neg e]
          exact hx n b hn hb
theorem opB_mono {R : RD} {D D' : FD} {r m : Nat} (h : ∀ k b, k < m → D.2.2.1 (4 * r + k) b → b < 2 → D'.2.2.1 (4 * r + k) b) : ∀ k, k ≤ m → ∀ n b, b < 2 → opB R D r k n b → opB R D' r k n b := by
  intro k
  induction k with
  | zero => intro _ n b _ h2; exact h2
  | succ k ih =>
    intro hk n b hb h2
    have h2 : (if n = R.2.2.2 r k then D.2.2.1 (4 * r + k) b else opB R D r k n b) := h2
    show (if n = R.2.2.2 r k then D'.2.2.1 (4 * r + k) b else opB R D' r k n b)
    by_cases e : n = R.2.2.2 r k
    · rw [if_pos e] at h2 ⊢
      exact h k b (by omega) h2 hb
    · rw [if_neg e] at h2 ⊢
      exact ih (by omega) n b hb h2
theorem tb_ex {v : Nat} (hv : v < 4) (h : ¬ v = 0) : ∃ b, b < 2 ∧ v.testBit b = true := by
  rcases (show v = 1 ∨ v = 2 ∨ v = 3 by omega) with e | e | e <;> subst e
  · exact ⟨0, by decide, rfl⟩
  · exact ⟨1, by decide, rfl⟩
  · exact ⟨0, by decide, rfl⟩
theorem e_begins {N a : Nat} {U : Nat → Int64 → Prop} {D : FD} {σ : St} {R : RD} {r o m : Nat} (hU : ∀ x y, U o x → U o y → U o (x ||| y)) (hW : WM a σ) (hr : r < 8) (ho : o < 1300) (h20 : gA σ 20 r = nI m) (hm : m ≤ 4) (h19 : gA σ 19 r = nI o) (hm2 : R.2.2.1 r = m) (hpn : ∀ k, k < m → gA σ 21 (4 * r + k) = nI (R.2.2.2 r k) ∧ R.2.2.2 r k < 26) : Par (m_begins N σ (nI r)) (fun _ σ' => WM a σ' ∧ Up σ σ' ∧ (Jr a U D σ → (∀ x, (∀ k, k < m → ∃ b, b < 2 ∧ D.2.2.1 (4 * r + k) b) → (∀ n b, n < 26 → b < 2 → lb x (2 * n + b) = true → opB R D r m n b) → U o x) → Jr a U D σ') ∧ (gI σ' 45 = 0 → (∀ k, k < m → ¬ mkv σ' (4 * r + k) = 0) → ¬ gZ σ' 41 o = 0 ∧ ∀ n b, n < 26 → b < 2 → opB R (mD σ') r m n b → lb (gZ σ' 41 o) (2 * n + b) = true)) := by
  obtain ⟨w1, -⟩ := id hW
  unfold m_begins
  refine n_beg7 (fun x h60 hx => ?_) N 0 _ (by decide) (show lb (lN 1152921504606846976) 60 = true from by rw [lb_n (by decide) (by decide)]; decide) (fun n b hn => absurd hn (Nat.not_lt_zero n))
  unfold m_begins_28
  rw [show m_with N σ x 26 1 = some (mw x 26 1, σ) from n_with (n := 26) (v := 1), bd_s]
  have hbits : ∀ n b, n < 26 → b < 2 → (lb (mw x 26 1) (2 * n + b) = true ↔ opB R (mD σ) r 0 n b) := fun n b hn hb => by
    rw [mw_nb (by decide) (by omega) (by decide) hb, if_neg (by omega)]
    exact hx n b hn hb
  have h60' : lb (mw x 26 1) 60 = true := by rw [mw_60 (by decide) (by decide)]; exact h60
  refine n_beg39 (R := R) (a := a) hW hr h20 hm h19 hm2 hpn ?hdd ?hfl N 0 _ (Nat.zero_le _) (fun i hi => absurd hi (Nat.not_lt_zero i)) h60' hbits
  case hdd =>
    intro hd
    refine ⟨hW, up_r σ, fun h _ => h, fun _ hnz => ?_⟩
    obtain ⟨k, k1, k2⟩ := hd
    exact absurd k2 (hnz k k1)
  case hfl =>
    intro y hnz y60 hy
    refine (e_flows (a := a) (D := D) hU hW ho y60).mono (fun _ σ' q => ?_)
    obtain ⟨q1, q2, q3, q4⟩ := q
    refine ⟨q1, q2, fun hJ hx => q3 hJ (hx y (fun k hk => ?_) (fun n b hn hb h => ?_)), fun e _ => ?_⟩
    · obtain ⟨b, b1, b2⟩ := tb_ex (w1 (4 * r + k) (by omega)).2 (hnz k hk)
      exact ⟨b, b1, hJ.2.1 _ b (by omega) b1 b2⟩
    · exact opB_mono (D := mD σ) (fun k b hk h hb => hJ.2.1 _ b (by omega) hb h) m (Nat.le_refl _) n b hb ((hy n b hn hb).mp h)
    · obtain ⟨q5, q6⟩ := q4 e
      refine ⟨q5, fun n b hn hb h => q6 _ ((hy n b hn hb).mpr (opB_mono (D := mD σ') (fun k b hk h _ => ?_) m (Nat.le_refl _) n b hb h))⟩
      have e42 := (q2.1 e).2.2
      show (mkv σ (4 * r + k)).testBit b = true
      unfold mkv
      rw [← e42]
      exact h
