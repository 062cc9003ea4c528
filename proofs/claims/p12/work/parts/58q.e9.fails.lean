/-! a use that fails in a run can be NOTHING -/
theorem is_108 {N : Nat} {σc σm : St} {G s l : Nat} {φ tv : Nat → Nat} {D : FD} {c : Int32} (hN : 8589934592 ≤ N) (h : PO σc σm G s φ) (hOB : OB σm) (hUB : UB σm) (h18 : gI σm 18 = nI (φ s)) (hS : Sol σc G s (Rd G σc σm) l tv D) : ∀ (n : Nat) (σ : St) (r : Int32), IQ σc σm G s φ D r σ → Par (m_runs_108 N n σ c r) (fun _ σ' => gI σ' 55 = 2 → ∃ v, v < uN σm ∧ gI σ' 54 = nI v ∧ D.2.2.2.2 (100 + v) 0) := by
  intro n
  induction n with
  | zero => intro σ r _ u σ' e; cases e
  | succ n ih =>
    intro σ r hQ
    show Par (m_runs_108_b N (m_runs_108 N n) σ c r) _
    unfold m_runs_108_b
    refine par_if (fun e => ?_) (fun _ => par_some hQ.2)
    obtain ⟨k, hr, hI⟩ := hQ.1 e
    rw [hr]
    exact par_bd (is_step hN h hOB hUB h18 hS hI) (fun r3 σ4 z => ih σ4 r3 z)
/-- bits of a run that are told of the parameters -/
def ALx (m : Nat) (tv : Nat → Nat) (x : Int32) : Prop := ∀ k, k < m → ((x >>> (nI k &&& 31)) &&& 1 = 0 → (tv k).testBit 0 = true) ∧ ((x >>> (nI k &&& 31)) &&& 1 = 1 → (tv k).testBit 1 = true)
theorem bit_ok {T b : Nat} (hT : T < 4) (hb : b < 2) (h : ¬ (nI T >>> (nI b &&& 31)) &&& 1 = 0) : T.testBit b = true := by
  rcases (show T = 0 ∨ T = 1 ∨ T = 2 ∨ T = 3 by omega) with e | e | e | e <;> rcases (show b = 0 ∨ b = 1 by omega) with q | q <;> subst e <;> subst q <;> first | rfl | exact absurd (by decide) h
theorem can_al {N : Nat} {σ : St} {l m : Nat} {tv : Nat → Nat} {x c : Int32} (h39 : gI σ 39 = nI l) (hl : l < 8) (h20 : gA σ 20 l = nI m) (hm : m ≤ 4) (h40 : ∀ j, j < 4 → gA σ 40 j = nI (tv j) ∧ tv j < 4) : Par (m_canRun N σ x c) (fun r σ' => σ' = σ ∧ (¬ r = 0 → ALx m tv x)) := by
  have lp : ∀ (f k : Nat), k ≤ m → ALx k tv x → Par (m_canRun_42 N f σ x (nI k)) (fun r σ' => σ' = σ ∧ (¬ r = 0 → ALx m tv x)) := by
    intro f
    induction f with
    | zero => intro k _ _ r σ' e; cases e
    | succ f ih =>
      intro k hk hA
      show Par (m_canRun_42_b N (m_canRun_42 N f) σ x (nI k)) _
      unfold m_canRun_42_b
      rw [h39, nI_clamp (n := l) (by omega), h20, nI_clamp (n := k) (by omega), nI_1]
      refine par_gd (fun _ => par_if (fun z => ?_) (fun z => ?_))
      · have e : k = m := by have := (nI_leI (by omega) (by omega)).mp z; omega
        subst e
        exact par_some ⟨rfl, fun _ => hA⟩
      · have z2 : k < m := Classical.byContradiction (fun y => z (nI_le (by omega) (by omega)))
        obtain ⟨t1, t2⟩ := h40 k (by omega)
        rw [t1]
        refine par_gd (fun _ => par_if (fun _ => par_some ⟨rfl, fun e => absurd rfl e⟩) (fun y => ih (k + 1) (by omega) (fun j hj => ?_)))
        rcases (show j = k ∨ j < k by omega) with e | e
        · subst e
          refine ⟨fun e0 => ?_, fun e1 => ?_⟩
          · rw [e0] at y
            exact bit_ok (b := 0) t2 (by decide) y
          · rw [e1] at y
            exact bit_ok (b := 1) t2 (by decide) y
        · exact hA j e
  have no : Par (some ((0 : Int32), σ)) (fun r σ' => σ' = σ ∧ (¬ r = 0 → ALx m tv x)) := par_some ⟨rfl, fun e => absurd rfl e⟩
  unfold m_canRun
  exact par_if (fun _ => no) (fun _ => par_if (fun _ => no) (fun _ => par_if (fun _ => no) (fun _ => par_if (fun _ => no) (fun _ => par_gd (fun _ => par_if (fun _ => lp N 0 (Nat.zero_le _) (fun j hj => absurd hj (Nat.not_lt_zero j))) (fun _ => no))))))
theorem is_42 {N : Nat} {σc σm : St} {G s l : Nat} {φ tv : Nat → Nat} {D : FD} {x c : Int32} (hN : 8589934592 ≤ N) (h : PO σc σm G s φ) (hOB : OB σm) (hUB : UB σm) (h18 : gI σm 18 = nI (φ s)) (hS : Sol σc G s (Rd G σc σm) l tv D) (h39 : gI σm 39 = nI l) (hR : (Rd G σc σm).1 l) (hA : ALx ((Rd G σc σm).2.2.1 l) tv x) : ∀ (n i t : Nat) (σ : St), i ≤ (Rd G σc σm).2.2.1 l → t ≤ i → RI σm (φ s) t 1 0 σ → gI σ 55 = -1 → FS D σ → (∀ n, n < 26 → opB (Rd G σc σm) D l i n (vb (gA σ 48 n))) → Par (m_runs_42 N n σ x c (nI i)) (fun _ σ' => gI σ' 55 = 2 → ∃ v, v < uN σm ∧ gI σ' 54 = nI v ∧ D.2.2.2.2 (100 + v) 0) := by
  obtain ⟨g1, g2, g3, g4, g5, g6, g7, g8⟩ := rd_ok h hR
  have ha := h.1.2.2.2.1
  obtain ⟨hen, hop, hrow⟩ := id hS
  intro n
  induction n with
  | zero => intro i t σ _ _ _ _ _ _ u σ' e; cases e
  | succ n ih =>
    intro i t σ hi hti hRI h55 hF hO
    obtain ⟨hq, -, ⟨r47, r47'⟩, ⟨r50, r50'⟩, r51, ⟨r52, r52'⟩, rN, rFd, r49⟩ := id hRI
    show Par (m_runs_42_b N (m_runs_42 N n) σ x c (nI i)) _
    unfold m_runs_42_b m_runs_98 m_runs_91
    rw [show gI σ 39 = nI l from (hq.2 39 (by decide) (by decide)).trans h39, nI_clamp (n := l) (by omega), hq.1 20 (by decide), hq.1 19 (by decide), hq.1 21 (by decide), g5, g4, nI_1]
    refine par_gd (fun _ => par_if (fun z => par_gd (fun _ => ?_)) (fun z => ?_))
    · have e : i = (Rd G σc σm).2.2.1 l := by have := (nI_leI (by omega) (by omega)).mp z; omega
      subst e
      have hj := hop l hR hen.1 (fun k hk => by
        rcases and1 (x := x >>> (nI k &&& 31)) with hb | hb
        · exact ⟨0, by decide, (hen.2 k hk).1 0 (by decide) ((hA k hk).1 hb)⟩
        · exact ⟨1, by decide, (hen.2 k hk).1 1 (by decide) ((hA k hk).2 hb)⟩)
      have up1 := (po_up h (show (Rd G σc σm).2.1 l ≤ (Rd G σc σm).2.1 l + 1 by omega) (by omega)).2 (by omega)
      refine is_108 hN h hOB hUB h18 hS N σ _ ⟨fun _ => ⟨_, rfl, h55, hF, 0, (Rd G σc σm).2.1 l, 0, t, 0, by decide, hRI, g2, rfl, up1, hj.1, trivial, pl_0 (fun n hn => ?_)⟩, fun e => absurd (h55.symm.trans e) (by decide)⟩
      rw [show 26 * 0 + n = n by omega]
      exact hj.2 n _ hn vb_lt (hO n hn)
    · have z2 : i < (Rd G σc σm).2.2.1 l := Classical.byContradiction (fun y => z (nI_le (by omega) (by omega)))
      obtain ⟨q1, q2, -⟩ := g8 i z2
      rw [show (4 : Int32) * nI l + nI i = nI (4 * l + i) from by rw [show (4 : Int32) = nI 4 from rfl, nI_mul, nI_add], nI_clamp (n := 4 * l + i) (by omega), q1, nI_clamp (n := (Rd G σc σm).2.2.2 l i) (by omega)]
      have nm : ∀ (σ' : St) (v : Int32), (∀ n, n < 26 → gA σ' 48 n = gA σ 48 n) → D.2.2.1 (4 * l + i) (vb v) → ∀ n, n < 26 → opB (Rd G σc σm) D l (i + 1) n (vb (gA (sA σ' 48 ((Rd G σc σm).2.2.2 l i) v) 48 n)) := fun σ' v hs hv n hn => by
        show if n = (Rd G σc σm).2.2.2 l i then D.2.2.1 (4 * l + i) (vb (upd (gA σ' 48) ((Rd G σc σm).2.2.2 l i) v n)) else opB (Rd G σc σm) D l i n (vb (upd (gA σ' 48) ((Rd G σc σm).2.2.2 l i) v n))
        by_cases e : n = (Rd G σc σm).2.2.2 l i
        · rw [if_pos e, e, pk_us]; exact hv
        · rw [if_neg e, pk_un e, hs n hn]; exact hO n hn
      refine par_gd (fun _ => par_if (fun y => ?_) (fun y => par_gd (fun _ => ih (i + 1) t _ (by omega) (by omega) (ri_name hRI th_0) h55 (fun t' ht' => hF t' ht') (nm σ 0 (fun _ _ => rfl) ?_))))
      · refine par_bd ((n_makes r47 r47').and (s_makes hRI (Or.inl rfl) (Or.inl rfl)).par) (fun r5 σ6 k => ?_)
        obtain ⟨k1, t', k2, k3⟩ := k
        rcases k1 with ⟨k1, -⟩ | ⟨-, k4, k5⟩
        · omega
        · subst k5
          have hR' : RI σm (φ s) (t + 1) 1 0 (mkM σ t (orT t (-1)) (orT t (-1))) := ri_id k2 rfl (by omega) r50 (by omega) r52 (by omega)
          rw [k4]
          have hb := (hA i z2).2 y
          obtain ⟨m40, m41⟩ := (hen.2 i z2).2 hb
          have ev : vb (orT t (-1)) = 1 := by rw [show orT t (-1) = nI (t + 1) from if_pos rfl]; exact vb_n (by omega)
          have hF2 : FS D (mkM σ t (orT t (-1)) (orT t (-1))) := fs_mk hF r47 (by omega) (by rw [ev]; exact m40) (by rw [ev]; exact m41)
          exact par_gd (fun _ => ih (i + 1) (t + 1) _ (by omega) (by omega) (ri_name hR' (th_n (Nat.le_refl _) (by omega))) h55 (fun t' ht' => hF2 t' ht') (nm _ _ (fun _ _ => rfl) (by rw [vb_n (by omega)]; exact (hen.2 i z2).1 1 (by decide) hb)))
      · rw [vb_0 rfl]
        exact (hen.2 i z2).1 0 (by decide) ((hA i z2).1 (and1.resolve_right y))
theorem is_runs {N : Nat} {σc σm σ : St} {G s l : Nat} {φ tv : Nat → Nat} {D : FD} {x c : Int32} (hN : 8589934592 ≤ N) (h : PO σc σm G s φ) (hOB : OB σm) (hUB : UB σm) (h18 : gI σm 18 = nI (φ s)) (hS : Sol σc G s (Rd G σc σm) l tv D) (h39 : gI σm 39 = nI l) (hR : (Rd G σc σm).1 l) (hA : ALx ((Rd G σc σm).2.2.1 l) tv x) (hK : Kq σm σ) (h64 : gI σ 64 = gI σm 64) : Par (m_runs N σ x c) (fun _ σ' => gI σ' 55 = 2 → ∃ v, v < uN σm ∧ gI σ' 54 = nI v ∧ D.2.2.2.2 (100 + v) 0) := by
  have z : RI σm (φ s) 0 0 0 (sI (sI (sI (sI (sI (sI (sI σ 47 0) 50 0) 52 0) 53 0) 54 (-1)) 55 (-1)) 51 0) := by
    refine ⟨kq_tr hK (kq_tr (kq_sI (k := 47) (v := 0) (Or.inr (by decide))) (kq_tr (kq_sI (k := 50) (v := 0) (Or.inr (by decide))) (kq_tr (kq_sI (k := 52) (v := 0) (Or.inr (by decide))) (kq_tr (kq_sI (k := 53) (v := 0) (Or.inr (by decide))) (kq_tr (kq_sI (k := 54) (v := -1) (Or.inr (by decide))) (kq_tr (kq_sI (k := 55) (v := -1) (Or.inr (by decide))) (kq_sI (k := 51) (v := 0) (Or.inr (by decide))))))))), ?_, ⟨?_, by omega⟩, ⟨?_, by omega⟩, ?_, ⟨?_, by omega⟩, fun i hi => absurd hi (by omega), fun i h1 h2 => absurd h1 (by omega), fun i h1 h2 => absurd h1 (by omega)⟩
    · simp only [gI, sI]; exact h64
    · simp [gI, sI]; decide
    · simp [gI, sI]; decide
    · rw [gI_eq]; unfold th; rw [show (0 : Int32).toInt = 0 from rfl]; omega
    · simp [gI, sI]; decide
  unfold m_runs
  refine par_bd ((n_frame (f := 0) (show gI (sI (sI (sI (sI (sI (sI (sI σ 47 0) 50 0) 52 0) 53 0) 54 (-1)) 55 (-1)) 51 0) 50 = nI 0 from rfl) (by omega)).and (s_frame hN z (by omega) (Or.inl rfl)).par) (fun _ σ2 y => ?_)
  obtain ⟨y1, y2, -⟩ := y
  subst y1
  refine is_42 hN h hOB hUB h18 hS h39 hR hA N 0 0 _ (Nat.zero_le _) (Nat.le_refl _) y2 rfl (fun t' ht' h300 i h2 hi => ?_) (fun n hn => ?_)
  · have e : t' = 0 := (nI_eq (by omega) (by decide)).mp (ht'.symm.trans (show _ = nI 0 from rfl))
    omega
  · show vb (clr (gA σ 48) (26 * 0) 26 n) = 0
    exact vb_0 (if_pos (by omega))
