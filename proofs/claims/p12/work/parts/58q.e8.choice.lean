/-! runs of the reference: choices that were not asked for don't matter -/
theorem k3_chooses {N : Nat} {σ : St} {c : Int32} : Par (m_chooses N σ c) (fun _ σ' => gI σ' 53 = gI σ 53 + 1) := by
  unfold m_chooses m_chooses_20
  exact par_if (fun _ => par_gd (fun _ => par_some gI_eq)) (fun _ => par_gd (fun _ => par_some gI_eq))
theorem does_c {N : Nat} {σ : St} {r c : Int32} : (Par (m_does N σ r c) (fun _ σ' => gI σ' 53 = gI σ 53) ∧ ∀ c', m_does N σ r c = m_does N σ r c') ∨ (Par (m_does N σ r c) (fun _ σ' => gI σ' 53 = gI σ 53 + 1) ∧ ∀ c', m_chooses N σ c = m_chooses N σ c' → m_does N σ r c = m_does N σ r c') := by
  by_cases h2 : gA σ 12 r.toNatClampNeg = 2
  · refine Or.inr ⟨?_, fun c' e => by unfold m_does; rw [e]⟩
    unfold m_does m_does_110
    rw [h2, if_neg (show ¬ (2 : Int32) = 0 by decide), if_neg (show ¬ (2 : Int32) = 1 by decide), if_pos rfl]
    exact par_gd (fun _ => par_bd k3_chooses (fun r6 σ7 z => par_if (fun _ => par_some ((gI_ne (by decide)).trans z)) (fun _ => par_bd (k3_m_makes (k3_r σ7)) (fun r8 σ9 y => par_some ((gI_ne (by decide)).trans (Eq.trans y z))))))
  by_cases h12 : gA σ 12 r.toNatClampNeg = 12
  · refine Or.inr ⟨?_, fun c' e => by unfold m_does; rw [e]⟩
    unfold m_does m_does_437
    rw [h12, if_neg (show ¬ (12 : Int32) = 0 by decide), if_neg (show ¬ (12 : Int32) = 1 by decide), if_neg (show ¬ (12 : Int32) = 2 by decide), if_neg (show ¬ (12 : Int32) = 3 by decide), if_neg (show ¬ (12 : Int32) = 4 by decide), if_neg (show ¬ (12 : Int32) = 5 by decide), if_neg (show ¬ (12 : Int32) = 6 by decide), if_neg (show ¬ (12 : Int32) = 7 by decide), if_neg (show ¬ (12 : Int32) = 8 by decide), if_neg (show ¬ (12 : Int32) = 9 by decide), if_neg (show ¬ (12 : Int32) = 10 by decide), if_neg (show ¬ (12 : Int32) = 11 by decide), if_pos rfl, if_pos rfl]
    exact par_gd (fun _ => par_gd (fun _ => par_bd k3_chooses (fun r6 σ7 z => par_if (fun _ => par_gd (fun _ => par_some z)) (fun _ => par_some z))))
  · refine Or.inl ⟨?_, fun c' => by unfold m_does; simp only [if_neg h2, if_neg h12]⟩
    have n1 : ∀ (σ' : St), K3 σ σ' → gI σ' 53 = gI σ 53 := fun _ z => z
    have s13 : ∀ (σ' : St) (t0 : Int32), K3 σ σ' → Par (m_does_413 N σ' r t0) (fun _ σ' => gI σ' 53 = gI σ 53) := fun σ' t0 z => by
      unfold m_does_413 m_does_429 m_does_437
      exact par_gd (fun _ => par_if (fun _ => par_if (fun _ => par_if (fun _ => par_gd (fun _ => par_some z)) (fun _ => par_some z)) (fun _ => par_if (fun _ => par_gd (fun _ => par_some z)) (fun _ => par_some z))) (fun _ => par_if (fun _ => par_if (fun _ => par_gd (fun _ => par_some z)) (fun _ => par_some z)) (fun _ => par_if (fun _ => par_gd (fun _ => par_some z)) (fun _ => par_some z))))
    have tst : Par (gd (ib r 2600) (if gA σ 12 r.toNatClampNeg = 12 then bd (m_chooses N σ c) (fun r42 σ43 => m_does_437 N σ43 r r42) else gd (ib r 2600) (bd (m_nameOf N σ (gA σ 13 r.toNatClampNeg)) (fun r40 σ41 => if r40 = 0 then m_does_413 N σ41 r 1 else m_does_413 N σ41 r 0)))) (fun _ σ' => gI σ' 53 = gI σ 53) := par_gd (fun _ => par_if (fun e => absurd e h12) (fun _ => par_gd (fun _ => par_bd (k3_m_nameOf (k3_r σ)) (fun r40 σ41 z => par_if (fun _ => s13 σ41 1 z) (fun _ => s13 σ41 0 z)))))
    unfold m_does
    refine par_gd (fun _ => par_if (fun _ => par_bd (k3_m_step (k3_r σ)) (fun _ σ3 z => par_some z)) (fun _ => par_if (fun _ => par_some (gI_ne (by decide))) (fun _ => par_if (fun e => absurd e h2) (fun _ => par_if (fun _ => ?_) (fun _ => par_if (fun _ => ?_) (fun _ => par_if (fun _ => ?_) (fun _ => par_if (fun _ => ?_) (fun _ => par_if (fun _ => ?_) (fun _ => par_if (fun _ => ?_) (fun _ => par_if (fun _ => ?_) (fun _ => par_if (fun _ => tst) (fun _ => par_if (fun _ => tst) (fun _ => par_if (fun _ => tst) (fun _ => par_if (fun _ => ?_) (fun _ => tst)))))))))))))))
    · exact par_gd (fun _ => par_bd (k3_m_nameOf (k3_r σ)) (fun r11 σ12 z => par_gd (fun _ => par_bd (k3_m_nameOf z) (fun r13 σ14 y => par_bd (k3_m_makes y) (fun r15 σ16 x => par_some ((gI_ne (by decide)).trans x))))))
    · exact par_gd (fun _ => par_bd (k3_m_nameOf (k3_r σ)) (fun r11 σ12 z => par_some ((gI_ne (by decide)).trans z)))
    · exact par_gd (fun _ => par_bd (k3_m_nameOf (k3_r σ)) (fun r21 σ22 z => par_if (fun _ => par_gd (fun _ => par_bd (k3_m_fails z) (fun _ σ26 y => par_some y))) (fun _ => par_gd (fun _ => par_bd (k3_m_nameOf z) (fun r23 σ24 y => par_gd (fun _ => par_gd (fun _ => par_some ((gI_ne (by decide)).trans y))))))))
    · exact par_bd (k3_m_enter (k3_r σ)) (fun r28 σ29 z => par_some z)
    · exact par_gd (fun _ => par_gd (fun _ => par_some rfl))
    · exact par_gd (fun _ => par_bd (k3_m_nameOf (k3_r σ)) (fun r21 σ22 z => par_if (fun _ => par_gd (fun _ => par_bd (k3_m_fails z) (fun _ σ26 y => par_some y))) (fun _ => par_gd (fun _ => par_bd (k3_m_nameOf z) (fun r23 σ24 y => par_gd (fun _ => par_gd (fun _ => par_some y)))))))
    · exact par_if (fun _ => par_if (fun _ => par_gd (fun _ => par_some ((gI_ne (by decide)).trans (gI_ne (by decide))))) (fun _ => par_gd (fun _ => par_some ((gI_ne (by decide)).trans (gI_ne (by decide)))))) (fun _ => par_gd (fun _ => par_some (gI_ne (by decide))))
    · exact par_gd (fun _ => par_if (fun _ => par_bd (k3_m_step (k3_r σ)) (fun _ σ56 z => par_gd (fun _ => par_some z))) (fun _ => par_gd (fun _ => par_some rfl)))
/-- a run that ends: how many choices it asked for, and that no other choice matters -/
def PC (f : Int32 → Option (Unit × St)) (c : Int32) (an : Nat) : Prop := ∀ u σ2, f c = some (u, σ2) → ∃ an2, gI σ2 53 = nI an2 ∧ an ≤ an2 ∧ an2 < 2 ^ 31 ∧ ∀ c', (∀ j, j < an2 → cbit c j = cbit c' j) → f c' = some (u, σ2)
theorem pc_gd {f : Int32 → Option (Unit × St)} {c : Int32} {an : Nat} {b : Bool} (h : b = true → PC f c an) : PC (fun c => gd b (f c)) c an := by
  cases b with
  | false => intro u σ2 e; cases e
  | true => exact h rfl
theorem pc_if {f g : Int32 → Option (Unit × St)} {c : Int32} {an : Nat} {P : Prop} [Decidable P] (h1 : P → PC f c an) (h2 : ¬ P → PC g c an) : PC (fun c => if P then f c else g c) c an := by
  by_cases e : P
  · have : (fun c => if P then f c else g c) = f := funext (fun c => if_pos e)
    rw [this]
    exact h1 e
  · have : (fun c => if P then f c else g c) = g := funext (fun c => if_neg e)
    rw [this]
    exact h2 e
theorem pc_bd {ρ : Type} {o : Option (ρ × St)} {f : ρ → St → Int32 → Option (Unit × St)} {c : Int32} {an : Nat} {P : ρ → St → Prop} (h : Par o P) (k : ∀ r σ, P r σ → PC (f r σ) c an) : PC (fun c => bd o (fun r σ => f r σ c)) c an := by
  cases o with
  | none => intro u σ2 e; cases e
  | some q => exact k q.1 q.2 (h q.1 q.2 rfl)
theorem pc_108 {N : Nat} {σ0 : St} {a : Nat} (hN : 8589934592 ≤ N) (hV : BV (gA σ0) a) (ha : a ≤ 1299) {c : Int32} : ∀ (n : Nat) (σ : St) (r : Int32) (an M : Nat), DP σ0 a M r σ → gI σ 53 = nI an → an + M ≤ 1000000000 → PC (fun c => m_runs_108 N n σ c r) c an := by
  intro n
  induction n with
  | zero => intro σ r an M _ _ _ u σ2 e; cases e
  | succ n ih =>
    intro σ r an M hD h53 hM u σ2 e
    have e : m_runs_108_b N (m_runs_108 N n) σ c r = some (u, σ2) := e
    unfold m_runs_108_b at e
    by_cases h55 : gI σ 55 = -1
    · rw [if_pos h55] at e
      obtain ⟨t, f, s, p, rfl, q2, q3, q4, q5⟩ := hD.2.2 h55
      cases hd : m_does N σ (nI p) c with
      | none => rw [hd] at e; cases e
      | some q =>
        obtain ⟨r3, σ4⟩ := q
        rw [hd, bd_s] at e
        have hD4 := (s_does (N := N) (c := c) hN hV ha q4 q3 q2).par r3 σ4 hd
        have back : ∀ c', m_does N σ (nI p) c = m_does N σ (nI p) c' → m_runs_108 N n σ4 c' r3 = some (u, σ2) → m_runs_108 N (n + 1) σ c' (nI p) = some (u, σ2) := fun c' h1 h2 => by
          show m_runs_108_b N (m_runs_108 N n) σ c' (nI p) = some (u, σ2)
          unfold m_runs_108_b
          rw [if_pos h55, ← h1, hd, bd_s]
          exact h2
        rcases does_c (N := N) (σ := σ) (r := nI p) (c := c) with ⟨d1, d2⟩ | ⟨d1, d2⟩
        · obtain ⟨an2, a1, a2, a3, a4⟩ := ih σ4 r3 an _ hD4 ((d1 r3 σ4 hd).trans h53) (by omega) u σ2 e
          exact ⟨an2, a1, a2, a3, fun c' hc => back c' (d2 c') (a4 c' hc)⟩
        · obtain ⟨an2, a1, a2, a3, a4⟩ := ih σ4 r3 (an + 1) _ hD4 ((d1 r3 σ4 hd).trans (by rw [h53, nI_1])) (by omega) u σ2 e
          refine ⟨an2, a1, by omega, a3, fun c' hc => back c' (d2 c' ?_) (a4 c' hc)⟩
          have hb := hc an (by omega)
          unfold cbit at hb
          unfold m_chooses
          rw [h53, hb]
    · rw [if_neg h55] at e
      cases e
      refine ⟨an, h53, Nat.le_refl _, by omega, fun c' _ => ?_⟩
      show m_runs_108_b N (m_runs_108 N n) σ c' r = some ((), σ)
      unfold m_runs_108_b
      rw [if_neg h55]
theorem pc_runs {N : Nat} (hN : 8589934592 ≤ N) {σ0 σ : St} {x c : Int32} (hM : MI σ0) (h39 : ¬ gI σ0 39 = -1) (hK : Kq σ0 σ) (h64 : gI σ 64 = gI σ0 64) : PC (fun c => m_runs N σ x c) c 0 := by
  obtain ⟨a, ⟨-, ha, hV⟩, hE⟩ := mi_gv hM
  obtain ⟨l, l1, l2, l3⟩ := hE.elim (fun e => absurd e h39) id
  obtain ⟨⟨t0, b1, b2, b3⟩, b4, b5, b6⟩ := bv_rt hV l1 l3
  have h42 : ∀ (n : Nat) (σ1 : St) (t k : Nat), RI σ0 a t 1 0 σ1 → gI σ1 53 = nI 0 → k ≤ 4 → PC (fun c => m_runs_42 N n σ1 x c (nI k)) c 0 := by
    intro n
    induction n with
    | zero => intro σ1 t k _ _ _ u σ2 e; cases e
    | succ n ih =>
      intro σ1 t k hR h53 hk
      obtain ⟨r1, r2, ⟨r3, r3'⟩, r4, r5, r6, r7, r8, r9⟩ := id hR
      show PC (fun c => m_runs_42_b N (m_runs_42 N n) σ1 x c (nI k)) c 0
      unfold m_runs_42_b m_runs_98 m_runs_91
      rw [r1.2 39 (by decide) (by decide), l2, nI_clamp (n := l) (by omega), r1.1 19 (by decide), r1.1 20 (by decide), r1.1 21 (by decide), b1, ← nI_succ k]
      refine pc_gd (fun _ => pc_if (fun _ => pc_gd (fun _ => ?_)) (fun hl => ?_))
      · refine pc_108 hN hV ha N σ1 (nI t0) 0 50000000 ⟨r1, r2, fun _ => ⟨t, 1, 0, t0, rfl, b2, by omega, hR, ?_⟩⟩ h53 (by decide)
        have := bon_le (ac := gA σ0 12) (p := t0)
        unfold ms
        omega
      · rw [Int32.le_iff_toInt_le, nI_t (by omega)] at hl
        have hk4 : k < 4 := by omega
        refine pc_gd (fun _ => pc_if (fun _ => ?_) (fun _ => pc_gd (fun _ => ih _ t (k + 1) (ri_name hR ?_) h53 (by omega))))
        · exact pc_bd ((s_makes hR (Or.inl rfl) (Or.inl rfl)).par.and (k3_m_makes (k3_r σ1))) (fun r5 σ6 ⟨⟨t2, hR2, hr2⟩, h3⟩ => pc_gd (fun _ => ih _ t2 (k + 1) (ri_name hR2 hr2) (Eq.trans h3 h53) (by omega)))
        · unfold th; rw [show (0 : Int32).toInt = 0 from rfl]; omega
  have z : RI σ0 a 0 0 0 (sI (sI (sI (sI (sI (sI (sI σ 47 0) 50 0) 52 0) 53 0) 54 (-1)) 55 (-1)) 51 0) := by
    refine ⟨kq_tr hK (kq_tr (kq_sI (k := 47) (v := 0) (Or.inr (by decide))) (kq_tr (kq_sI (k := 50) (v := 0) (Or.inr (by decide))) (kq_tr (kq_sI (k := 52) (v := 0) (Or.inr (by decide))) (kq_tr (kq_sI (k := 53) (v := 0) (Or.inr (by decide))) (kq_tr (kq_sI (k := 54) (v := -1) (Or.inr (by decide))) (kq_tr (kq_sI (k := 55) (v := -1) (Or.inr (by decide))) (kq_sI (k := 51) (v := 0) (Or.inr (by decide))))))))), ?_, ⟨?_, by omega⟩, ⟨?_, by omega⟩, ?_, ⟨?_, by omega⟩, fun i hi => absurd hi (by omega), fun i h1 h2 => absurd h1 (by omega), fun i h1 h2 => absurd h1 (by omega)⟩
    · simp only [gI, sI]; exact h64
    · simp [gI, sI]; decide
    · simp [gI, sI]; decide
    · rw [gI_eq]; unfold th; rw [show (0 : Int32).toInt = 0 from rfl]; omega
    · simp [gI, sI]; decide
  unfold m_runs
  exact pc_bd ((s_frame hN z (by omega) (Or.inl rfl)).par.and (k3_m_frame (k3_r _))) (fun _ σ2 y => h42 N σ2 0 0 y.1.1 (Eq.trans y.2 rfl) (by omega))
