/-! the other calls: uses' numbers stay at their acts -/
theorem ub_feed {N : Nat} {σc σm σc' σm' : St} {a1 a2 a3 a4 a5 rc rm : Int32} {q : Nat} (hX : LX σc σm) (c1' : gI σc 1 = nI q) (m2 : gI σm 2 = nI q) (hq : q ≤ 1200) (e1 : x10_feed N σc a1 a2 a3 a4 a5 = some (rc, σc')) (e2 : m_feed N σm a1 a2 a3 a4 a5 = some (rm, σm')) (h : UB σm) : UB σm' := by
  obtain ⟨z1, z2, z3, z4, z5, z6, z7⟩ := r_feed hX.1.1 hX.1.2.1 c1' m2 hq rc σc' rm σm' e1 e2
  exact ub_f (z7 18 (by decide) (by decide)) (fun i _ => by rw [z6 12 (by decide)]) (fun i _ => by rw [z6 15 (by decide)]) (by rw [z6 26 (by decide)]) h
theorem ub_fault {N : Nat} {σm : St} {a1 : Int32} (h : UB σm) : Par (m_fault N σm a1) (fun _ σ' => UB σ') := by
  have hz : UB (sI σm 0 0) := ub_km (gI_ne (by decide)) (fun _ _ => rfl) h
  unfold m_fault
  exact par_if (fun _ => par_some hz) (fun _ => par_if (fun _ => par_some hz) (fun _ => par_some hz))
theorem ub_entry {N : Nat} (hN : 8589934592 ≤ N) {σm : St} {a1 : Int32} (h : UB σm) : Par (m_entry N σm a1) (fun _ σ' => UB σ') := by
  have hz : UB (sI σm 0 0) := ub_km (gI_ne (by decide)) (fun _ _ => rfl) h
  unfold m_entry
  exact par_if (fun _ => par_some hz) (fun _ => par_if (fun _ => par_some hz) (fun _ => par_gd (fun _ => par_if (fun _ => par_some hz) (fun _ => par_bd (s_enters hN).par (fun _ σ2 z => par_some (ub_km (z.2.1 18 (by decide)) (fun j hj => z.1 j (by omega)) hz))))))
theorem ub_outer {N : Nat} {σm : St} {a1 a2 : Int32} (h : UB σm) : Par (m_outer N σm a1 a2) (fun _ σ' => UB σ') := by
  have hz : UB (sI σm 0 0) := ub_km (gI_ne (by decide)) (fun _ _ => rfl) h
  unfold m_outer
  exact par_if (fun _ => par_some hz) (fun _ => par_if (fun _ => par_some hz) (fun _ => par_gd (fun _ => par_if (fun _ => par_some hz) (fun _ => par_if (fun _ => par_some hz) (fun _ => par_if (fun _ => par_gd (fun _ => par_some (ub_km (σ := sI σm 0 0) rfl (fun j hj => by rw [gA_sA, if_neg (by omega)]) hz))) (fun _ => par_some hz))))))
