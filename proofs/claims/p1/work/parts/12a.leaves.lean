set_option maxHeartbeats 4000000 in
set_option maxRecDepth 100000 in
theorem c_at_neg (l : Launch) (dC : Nat → ClassId) (dI : Nat → Nat → Nat) (cI cB cL cZ : ClassId) (ar : Nat) (k : Int32) (sz : Nat) (hk : k < 0) : Met l yX5_at wsX5_at ({ frames := 0, cells := 0, slots := 0, locals := 0 }) (cP (dC, dI) (kTy cI cB cL cZ) [.ref ar, .int k] [] sz) (va_Qi (fun (r : Int32) (_ : Unit) => r = 0) (fun (_ : Unit) (t : State) => va_P (dC, dI) vwCl [] t.heap ∧ va_D (va_A [] sz) []) (va_A [] sz)) 0 0 (va_A [] sz) := by
  refine Met.ofW (cc := cX5_at) (maxL := 2) (ret := (some .int)) (by decide) rfl ?_
  intro p e s m args below meth c s₁ B hml hv
  obtain ⟨rfl, hsz, hP, hK, hD0, hN⟩ := hv
  have hx := B.exec
  have hb := B.bytes
  have hr := B.returns
  have hts := atoms_spec (ws := wsX5_at) B.pre
  have hown : s.vm.findClass RX5 = some m.cls := findClass_of_methodNamed B.named
  have hlocks := B.notSynchronized
  subst hsz
  have hD := hD0.self (sz := s.heap.size)
  generalize hAe : va_A [] s.heap.size = A at hD ⊢
  have hA : ∀ q : Nat, s.heap.size ≤ q → A q := fun q h => by rw [← hAe]; exact Or.inr h
  have hl := lv_entry ([.ref ar, .int k]) (n := 2) (Nat.le_of_ble_eq_true rfl)
  rw [lg_entry_eq]
  generalize (lg_sl ([.ref ar, .int k]) ++ List.replicate (2 - (lg_sl ([.ref ar, .int k])).length) Slot.unset).toArray = ls at hl ⊢
  have hl : lv_has ls 2 [(0, .ref ar), (1, .int k)] := hl
  refine k_H (A := A) hP (fun H hP hS => ?_)
  have hP : va_P (dC, dI) vwCl [] H := hP
  have hD : va_D A [] := hD
  refine lv_iload_n hx hb dX5_at_0 rfl (lv_at hl 1 rfl) ?_
  refine lv_if_lt (tgt := 16) hx hb dX5_at_1 (by decide) (fun _ => ?_) (fun c9 => absurd hk c9)
  refine lv_iconst (v := 0) hx hb dX5_at_16 (by decide) ?_
  have hP9 := hP.sub (ws' := []) [] rfl
  have hD9 := hD.sub (ws' := []) [] (by decide) rfl
  exact W.iret (v := 0) hx hb hr (fun t ht hW => ⟨⟨0, (), rfl, rfl, by rw [ht]; exact hP9, hD9⟩, hS.F ht⟩) hS.2.2 dX5_at_17

set_option maxHeartbeats 4000000 in
set_option maxRecDepth 100000 in
theorem c_at_40 (l : Launch) (dC : Nat → ClassId) (dI : Nat → Nat → Nat) (cI cB cL cZ : ClassId) (ar : Nat) (f : Nat → Int32) (sz : Nat) (hf : ∀ j, j < 42 → f j = 0) : Met l yX5_at wsX5_at ({ frames := 0, cells := 0, slots := 0, locals := 0 }) (cP (dC, dI) (kTy cI cB cL cZ) [.ref ar, .int 40] [(ar, .inl (cI, 42, .inl f))] sz) (va_Qi (fun (r : Int32) (_ : Unit) => r = 0) (fun (_ : Unit) (t : State) => va_P (dC, dI) vwCl [] t.heap ∧ va_D (va_A [(ar, .inl (cI, 42, .inl f))] sz) []) (va_A [(ar, .inl (cI, 42, .inl f))] sz)) 0 0 (va_A [(ar, .inl (cI, 42, .inl f))] sz) := by
  refine Met.ofW (cc := cX5_at) (maxL := 2) (ret := (some .int)) (by decide) rfl ?_
  intro p e s m args below meth c s₁ B hml hv
  obtain ⟨rfl, hsz, hP, hK, hD0, hN⟩ := hv
  have hx := B.exec
  have hb := B.bytes
  have hr := B.returns
  have hts := atoms_spec (ws := wsX5_at) B.pre
  have hown : s.vm.findClass RX5 = some m.cls := findClass_of_methodNamed B.named
  have hlocks := B.notSynchronized
  subst hsz
  have hD := hD0.self (sz := s.heap.size)
  generalize hAe : va_A [(ar, .inl (cI, 42, .inl f))] s.heap.size = A at hD ⊢
  have hA : ∀ q : Nat, s.heap.size ≤ q → A q := fun q h => by rw [← hAe]; exact Or.inr h
  have hl := lv_entry ([.ref ar, .int 40]) (n := 2) (Nat.le_of_ble_eq_true rfl)
  rw [lg_entry_eq]
  generalize (lg_sl ([.ref ar, .int 40]) ++ List.replicate (2 - (lg_sl ([.ref ar, .int 40])).length) Slot.unset).toArray = ls at hl ⊢
  have hl : lv_has ls 2 [(0, .ref ar), (1, .int 40)] := hl
  refine k_H (A := A) hP (fun H hP hS => ?_)
  have hP : va_P (dC, dI) vwCl [(ar, .inl (cI, 42, .inl f))] H := hP
  have hD : va_D A [(ar, .inl (cI, 42, .inl f))] := hD
  refine lv_iload_n hx hb dX5_at_0 rfl (lv_at hl 1 rfl) ?_
  refine lv_if_lt (tgt := 16) hx hb dX5_at_1 (by decide) (fun c9 => absurd c9 (by decide)) (fun _ => ?_)
  refine lv_iload_n hx hb dX5_at_4 rfl (lv_at hl 1 rfl) ?_
  refine lv_aload_n hx hb dX5_at_5 rfl (lv_at hl 0 rfl) ?_
  refine va_alen hx hb hK hP 0 0 rfl rfl (v := 42) (by show Int32.ofNat 42 = 42; decide) dX5_at_6 ?_
  refine lv_icmp_ge (tgt := 16) hx hb dX5_at_7 (by decide) (fun c9 => absurd c9 (by decide)) (fun _ => ?_)
  refine lv_aload_n hx hb dX5_at_10 rfl (lv_at hl 0 rfl) ?_
  refine lv_iload_n hx hb dX5_at_11 rfl (lv_at hl 1 rfl) ?_
  refine va_iald hx hb hK hP 0 0 rfl rfl (by unfold vp_in; decide) dX5_at_12 ?_
  refine lv_topi (fun y_93 ey_93 => ?_)
  obtain rfl : y_93 = 0 := ey_93.trans (hf _ (by decide))
  refine lv_goto (tgt := 17) hx hb dX5_at_13 (by decide) ?_
  have hP9 := hP.sub (ws' := []) [] rfl
  have hD9 := hD.sub (ws' := []) [] (by decide) rfl
  exact W.iret (v := 0) hx hb hr (fun t ht hW => ⟨⟨0, (), rfl, rfl, by rw [ht]; exact hP9, hD9⟩, hS.F ht⟩) hS.2.2 dX5_at_17

set_option maxHeartbeats 4000000 in
set_option maxRecDepth 100000 in
theorem c_at_41 (l : Launch) (dC : Nat → ClassId) (dI : Nat → Nat → Nat) (cI cB cL cZ : ClassId) (ar : Nat) (f : Nat → Int32) (sz : Nat) (hf : ∀ j, j < 42 → f j = 0) : Met l yX5_at wsX5_at ({ frames := 0, cells := 0, slots := 0, locals := 0 }) (cP (dC, dI) (kTy cI cB cL cZ) [.ref ar, .int 41] [(ar, .inl (cI, 42, .inl f))] sz) (va_Qi (fun (r : Int32) (_ : Unit) => r = 0) (fun (_ : Unit) (t : State) => va_P (dC, dI) vwCl [] t.heap ∧ va_D (va_A [(ar, .inl (cI, 42, .inl f))] sz) []) (va_A [(ar, .inl (cI, 42, .inl f))] sz)) 0 0 (va_A [(ar, .inl (cI, 42, .inl f))] sz) := by
  refine Met.ofW (cc := cX5_at) (maxL := 2) (ret := (some .int)) (by decide) rfl ?_
  intro p e s m args below meth c s₁ B hml hv
  obtain ⟨rfl, hsz, hP, hK, hD0, hN⟩ := hv
  have hx := B.exec
  have hb := B.bytes
  have hr := B.returns
  have hts := atoms_spec (ws := wsX5_at) B.pre
  have hown : s.vm.findClass RX5 = some m.cls := findClass_of_methodNamed B.named
  have hlocks := B.notSynchronized
  subst hsz
  have hD := hD0.self (sz := s.heap.size)
  generalize hAe : va_A [(ar, .inl (cI, 42, .inl f))] s.heap.size = A at hD ⊢
  have hA : ∀ q : Nat, s.heap.size ≤ q → A q := fun q h => by rw [← hAe]; exact Or.inr h
  have hl := lv_entry ([.ref ar, .int 41]) (n := 2) (Nat.le_of_ble_eq_true rfl)
  rw [lg_entry_eq]
  generalize (lg_sl ([.ref ar, .int 41]) ++ List.replicate (2 - (lg_sl ([.ref ar, .int 41])).length) Slot.unset).toArray = ls at hl ⊢
  have hl : lv_has ls 2 [(0, .ref ar), (1, .int 41)] := hl
  refine k_H (A := A) hP (fun H hP hS => ?_)
  have hP : va_P (dC, dI) vwCl [(ar, .inl (cI, 42, .inl f))] H := hP
  have hD : va_D A [(ar, .inl (cI, 42, .inl f))] := hD
  refine lv_iload_n hx hb dX5_at_0 rfl (lv_at hl 1 rfl) ?_
  refine lv_if_lt (tgt := 16) hx hb dX5_at_1 (by decide) (fun c9 => absurd c9 (by decide)) (fun _ => ?_)
  refine lv_iload_n hx hb dX5_at_4 rfl (lv_at hl 1 rfl) ?_
  refine lv_aload_n hx hb dX5_at_5 rfl (lv_at hl 0 rfl) ?_
  refine va_alen hx hb hK hP 0 0 rfl rfl (v := 42) (by show Int32.ofNat 42 = 42; decide) dX5_at_6 ?_
  refine lv_icmp_ge (tgt := 16) hx hb dX5_at_7 (by decide) (fun c9 => absurd c9 (by decide)) (fun _ => ?_)
  refine lv_aload_n hx hb dX5_at_10 rfl (lv_at hl 0 rfl) ?_
  refine lv_iload_n hx hb dX5_at_11 rfl (lv_at hl 1 rfl) ?_
  refine va_iald hx hb hK hP 0 0 rfl rfl (by unfold vp_in; decide) dX5_at_12 ?_
  refine lv_topi (fun y_94 ey_94 => ?_)
  obtain rfl : y_94 = 0 := ey_94.trans (hf _ (by decide))
  refine lv_goto (tgt := 17) hx hb dX5_at_13 (by decide) ?_
  have hP9 := hP.sub (ws' := []) [] rfl
  have hD9 := hD.sub (ws' := []) [] (by decide) rfl
  exact W.iret (v := 0) hx hb hr (fun t ht hW => ⟨⟨0, (), rfl, rfl, by rw [ht]; exact hP9, hD9⟩, hS.F ht⟩) hS.2.2 dX5_at_17

set_option maxHeartbeats 4000000 in
set_option maxRecDepth 100000 in
theorem c_put (l : Launch) (dC : Nat → ClassId) (dI : Nat → Nat → Nat) (cI cB cL cZ : ClassId) (ar : Nat) (k : Int32) (v : Int32) (f : Nat → Int32) (sz : Nat)  : Met l yX5_put wsX5_put ({ frames := 0, cells := 0, slots := 0, locals := 0 }) (cP (dC, dI) (kTy cI cB cL cZ) [.ref ar, .int k, .int v] [(ar, .inl (cI, 4, .inl f))] sz) (va_Qv (fun _ : Unit => True) (fun (_ : Unit) (t : State) => va_P (dC, dI) vwCl [] t.heap ∧ va_D (va_A [(ar, .inl (cI, 4, .inl f))] sz) []) (va_A [(ar, .inl (cI, 4, .inl f))] sz)) 0 0 (va_A [(ar, .inl (cI, 4, .inl f))] sz) := by
  refine Met.ofW (cc := cX5_put) (maxL := 3) (ret := none) (by decide) rfl ?_
  intro p e s m args below meth c s₁ B hml hv
  obtain ⟨rfl, hsz, hP, hK, hD0, hN⟩ := hv
  have hx := B.exec
  have hb := B.bytes
  have hr := B.returns
  have hts := atoms_spec (ws := wsX5_put) B.pre
  have hown : s.vm.findClass RX5 = some m.cls := findClass_of_methodNamed B.named
  have hlocks := B.notSynchronized
  subst hsz
  have hD := hD0.self (sz := s.heap.size)
  generalize hAe : va_A [(ar, .inl (cI, 4, .inl f))] s.heap.size = A at hD ⊢
  have hA : ∀ q : Nat, s.heap.size ≤ q → A q := fun q h => by rw [← hAe]; exact Or.inr h
  have hl := lv_entry ([.ref ar, .int k, .int v]) (n := 3) (Nat.le_of_ble_eq_true rfl)
  rw [lg_entry_eq]
  generalize (lg_sl ([.ref ar, .int k, .int v]) ++ List.replicate (3 - (lg_sl ([.ref ar, .int k, .int v])).length) Slot.unset).toArray = ls at hl ⊢
  have hl : lv_has ls 3 [(0, .ref ar), (1, .int k), (2, .int v)] := hl
  refine k_H (A := A) hP (fun H hP hS => ?_)
  have hP : va_P (dC, dI) vwCl [(ar, .inl (cI, 4, .inl f))] H := hP
  have hD : va_D A [(ar, .inl (cI, 4, .inl f))] := hD
  refine lv_iload_n hx hb dX5_put_0 rfl (lv_at hl 1 rfl) ?_
  refine lv_if_lt (tgt := 14) hx hb dX5_put_1 (by decide) (fun c_95 => ?_) (fun c_95 => ?_)
  · have hP9 := hP.sub (ws' := []) [] rfl
    have hD9 := hD.sub (ws' := []) [] (by decide) rfl
    exact W.vret hx hb hr (fun t ht hW => ⟨⟨(), rfl, trivial, by rw [ht]; exact hP9, hD9⟩, hS.F ht⟩) hS.2.2 dX5_put_14
  · refine lv_iload_n hx hb dX5_put_4 rfl (lv_at hl 1 rfl) ?_
    refine lv_aload_n hx hb dX5_put_5 rfl (lv_at hl 0 rfl) ?_
    refine va_alen hx hb hK hP 0 0 rfl rfl (v := 4) (by show Int32.ofNat 4 = 4; decide) dX5_put_6 ?_
    refine lv_icmp_ge (tgt := 14) hx hb dX5_put_7 (by decide) (fun c_96 => ?_) (fun c_96 => ?_)
    · have hP9 := hP.sub (ws' := []) [] rfl
      have hD9 := hD.sub (ws' := []) [] (by decide) rfl
      exact W.vret hx hb hr (fun t ht hW => ⟨⟨(), rfl, trivial, by rw [ht]; exact hP9, hD9⟩, hS.F ht⟩) hS.2.2 dX5_put_14
    · refine lv_aload_n hx hb dX5_put_10 rfl (lv_at hl 0 rfl) ?_
      refine lv_iload_n hx hb dX5_put_11 rfl (lv_at hl 1 rfl) ?_
      refine lv_iload_n hx hb dX5_put_12 rfl (lv_at hl 2 rfl) ?_
      refine va_iast hx hb hK hP hD hS 0 0 rfl rfl (in_of (n := 4) (y := 4) (by decide) c_95 c_96 (by decide)) dX5_put_13 (fun H locs hP hD hS => ?_)
      obtain ⟨f_97, ef_97⟩ : ∃ z, z = upd f k.toNatClampNeg v := ⟨_, rfl⟩
      have hP : va_P (dC, dI) vwCl [(ar, .inl (cI, 4, .inl f_97))] H := by rw [ef_97]; exact hP
      have hD : va_D A [(ar, .inl (cI, 4, .inl f_97))] := by rw [ef_97]; exact hD
      have hP9 := hP.sub (ws' := []) [] rfl
      have hD9 := hD.sub (ws' := []) [] (by decide) rfl
      exact W.vret hx hb hr (fun t ht hW => ⟨⟨(), rfl, trivial, by rw [ht]; exact hP9, hD9⟩, hS.F ht⟩) hS.2.2 dX5_put_14

set_option maxHeartbeats 4000000 in
set_option maxRecDepth 100000 in
theorem c_has (l : Launch) (dC : Nat → ClassId) (dI : Nat → Nat → Nat) (cI cB cL cZ : ClassId) (h0 : Nat) (gc : Nat) (ga1 : Nat) (ga2 : Nat) (ga3 : Nat) (ga4 : Nat) (ga5 : Nat) (ga6 : Nat) (ga7 : Nat) (ga8 : Nat) (r : Int32) (sz : Nat)  : Met l yX3_has wsX3_has ({ frames := 0, cells := 0, slots := 0, locals := 0 }) (cP (dC, dI) (kTy cI cB cL cZ) [.ref h0, .int r] [(h0, .inr (3, [.ref gc, .ref ga1, .ref ga2, .ref ga3, .ref ga4, .ref ga5, .ref ga6, .ref ga7, .ref ga8, .int 0, .int 0, .int 0, .int 0, .int (-1)]))] sz) (va_Qi (fun (r : Int32) (_ : Unit) => r = 0) (fun (_ : Unit) (t : State) => va_P (dC, dI) vwCl [(h0, .inr (3, [.ref gc, .ref ga1, .ref ga2, .ref ga3, .ref ga4, .ref ga5, .ref ga6, .ref ga7, .ref ga8, .int 0, .int 0, .int 0, .int 0, .int (-1)]))] t.heap ∧ va_D (va_A [(h0, .inr (3, [.ref gc, .ref ga1, .ref ga2, .ref ga3, .ref ga4, .ref ga5, .ref ga6, .ref ga7, .ref ga8, .int 0, .int 0, .int 0, .int 0, .int (-1)]))] sz) [(h0, .inr (3, [.ref gc, .ref ga1, .ref ga2, .ref ga3, .ref ga4, .ref ga5, .ref ga6, .ref ga7, .ref ga8, .int 0, .int 0, .int 0, .int 0, .int (-1)]))]) (va_A [(h0, .inr (3, [.ref gc, .ref ga1, .ref ga2, .ref ga3, .ref ga4, .ref ga5, .ref ga6, .ref ga7, .ref ga8, .int 0, .int 0, .int 0, .int 0, .int (-1)]))] sz)) 0 0 (va_A [(h0, .inr (3, [.ref gc, .ref ga1, .ref ga2, .ref ga3, .ref ga4, .ref ga5, .ref ga6, .ref ga7, .ref ga8, .int 0, .int 0, .int 0, .int 0, .int (-1)]))] sz) := by
  refine Met.ofW (cc := cX3_has) (maxL := 2) (ret := (some .boolean)) (by decide) rfl ?_
  intro p e s m args below meth c s₁ B hml hv
  obtain ⟨rfl, hsz, hP, hK, hD0, hN⟩ := hv
  have hx := B.exec
  have hb := B.bytes
  have hr := B.returns
  have hts := atoms_spec (ws := wsX3_has) B.pre
  have hown : s.vm.findClass RX3 = some m.cls := findClass_of_methodNamed B.named
  have hlocks := B.notSynchronized
  subst hsz
  have hD := hD0.self (sz := s.heap.size)
  generalize hAe : va_A [(h0, .inr (3, [.ref gc, .ref ga1, .ref ga2, .ref ga3, .ref ga4, .ref ga5, .ref ga6, .ref ga7, .ref ga8, .int 0, .int 0, .int 0, .int 0, .int (-1)]))] s.heap.size = A at hD ⊢
  have hA : ∀ q : Nat, s.heap.size ≤ q → A q := fun q h => by rw [← hAe]; exact Or.inr h
  have hl := lv_entry ([.ref h0, .int r]) (n := 2) (Nat.le_of_ble_eq_true rfl)
  rw [lg_entry_eq]
  generalize (lg_sl ([.ref h0, .int r]) ++ List.replicate (2 - (lg_sl ([.ref h0, .int r])).length) Slot.unset).toArray = ls at hl ⊢
  have hl : lv_has ls 2 [(0, .ref h0), (1, .int r)] := hl
  refine k_H (A := A) hP (fun H hP hS => ?_)
  have hP : va_P (dC, dI) vwCl [(h0, .inr (3, [.ref gc, .ref ga1, .ref ga2, .ref ga3, .ref ga4, .ref ga5, .ref ga6, .ref ga7, .ref ga8, .int 0, .int 0, .int 0, .int 0, .int (-1)]))] H := hP
  have hD : va_D A [(h0, .inr (3, [.ref gc, .ref ga1, .ref ga2, .ref ga3, .ref ga4, .ref ga5, .ref ga6, .ref ga7, .ref ga8, .int 0, .int 0, .int 0, .int 0, .int (-1)]))] := hD
  refine lv_iload_n hx hb dX3_has_0 rfl (lv_at hl 1 rfl) ?_
  refine lv_if_lt (tgt := 25) hx hb dX3_has_1 (by decide) (fun c_98 => ?_) (fun c_98 => ?_)
  · refine lv_iconst (v := 0) hx hb dX3_has_25 (by decide) ?_
    have hP9 := hP.sub (ws' := [(h0, .inr (3, [.ref gc, .ref ga1, .ref ga2, .ref ga3, .ref ga4, .ref ga5, .ref ga6, .ref ga7, .ref ga8, .int 0, .int 0, .int 0, .int 0, .int (-1)]))]) [0] rfl
    have hD9 := hD.sub (ws' := [(h0, .inr (3, [.ref gc, .ref ga1, .ref ga2, .ref ga3, .ref ga4, .ref ga5, .ref ga6, .ref ga7, .ref ga8, .int 0, .int 0, .int 0, .int 0, .int (-1)]))]) [0] (by decide) rfl
    exact W.zret (v := 0) (ty := .boolean) hx hb hr rfl (fun t ht hW => ⟨⟨0, (), rfl, rfl, by rw [ht]; exact hP9, hD9⟩, hS.F ht⟩) hS.2.2 dX3_has_26
  · refine lv_iload_n hx hb dX3_has_4 rfl (lv_at hl 1 rfl) ?_
    refine lv_bipush (v := 8) hx hb dX3_has_5 (by decide) ?_
    refine lv_icmp_ge (tgt := 25) hx hb dX3_has_7 (by decide) (fun c_99 => ?_) (fun c_99 => ?_)
    · refine lv_iconst (v := 0) hx hb dX3_has_25 (by decide) ?_
      have hP9 := hP.sub (ws' := [(h0, .inr (3, [.ref gc, .ref ga1, .ref ga2, .ref ga3, .ref ga4, .ref ga5, .ref ga6, .ref ga7, .ref ga8, .int 0, .int 0, .int 0, .int 0, .int (-1)]))]) [0] rfl
      have hD9 := hD.sub (ws' := [(h0, .inr (3, [.ref gc, .ref ga1, .ref ga2, .ref ga3, .ref ga4, .ref ga5, .ref ga6, .ref ga7, .ref ga8, .int 0, .int 0, .int 0, .int 0, .int (-1)]))]) [0] (by decide) rfl
      exact W.zret (v := 0) (ty := .boolean) hx hb hr rfl (fun t ht hW => ⟨⟨0, (), rfl, rfl, by rw [ht]; exact hP9, hD9⟩, hS.F ht⟩) hS.2.2 dX3_has_26
    · refine lv_aload_n hx hb dX3_has_10 rfl (lv_at hl 0 rfl) ?_
      refine va_get (D := (dC, dI)) (ci := 3) (v := .int 0) (C := RX3) (T := TX3) (N := 14) hx hb hts iwwsX3_has_3 hown hK hP 0 rfl rfl 9 (by decide) (hts (.fieldLink RX3 50 "NothingJudge$Program" "told" "I") fwwsX3_has_50) (fun _ h9 => h9) rfl dX3_has_11 ?_
      refine lv_iload_n hx hb dX3_has_14 rfl (lv_at hl 1 rfl) ?_
      refine lv_ishr hx hb dX3_has_15 ?_
      refine lv_topi (fun v_100 ev_100 => ?_)
      refine lv_iconst (v := 1) hx hb dX3_has_16 (by decide) ?_
      refine lv_iand hx hb dX3_has_17 ?_
      refine lv_topi (fun v_101 ev_101 => ?_)
      refine lv_if_eq (tgt := 25) hx hb dX3_has_18 (by decide) (fun _ => ?_) (fun c9 => absurd (by rw [ev_101, ev_100]; exact z_sh _) c9)
      refine lv_iconst (v := 0) hx hb dX3_has_25 (by decide) ?_
      have hP9 := hP.sub (ws' := [(h0, .inr (3, [.ref gc, .ref ga1, .ref ga2, .ref ga3, .ref ga4, .ref ga5, .ref ga6, .ref ga7, .ref ga8, .int 0, .int 0, .int 0, .int 0, .int (-1)]))]) [0] rfl
      have hD9 := hD.sub (ws' := [(h0, .inr (3, [.ref gc, .ref ga1, .ref ga2, .ref ga3, .ref ga4, .ref ga5, .ref ga6, .ref ga7, .ref ga8, .int 0, .int 0, .int 0, .int 0, .int (-1)]))]) [0] (by decide) rfl
      exact W.zret (v := 0) (ty := .boolean) hx hb hr rfl (fun t ht hW => ⟨⟨0, (), rfl, rfl, by rw [ht]; exact hP9, hD9⟩, hS.F ht⟩) hS.2.2 dX3_has_26

set_option maxHeartbeats 4000000 in
set_option maxRecDepth 100000 in
theorem c_fillI (l : Launch) (dC : Nat → ClassId) (dI : Nat → Nat → Nat) (cI cB cL cZ : ClassId) (ar : Nat) (v : Int32) (f : Nat → Int32) (N : Nat) (sz : Nat) (hNb : N < 2 ^ 31) : Met l yJ7_fill_53178 wsJ7_fill_53178 ({ frames := 0, cells := 0, slots := 0, locals := 0 }) (cP (dC, dI) (kTy cI cB cL cZ) [.ref ar, .int v] [(ar, .inl (cI, N, .inl f))] sz) (va_Qv (fun _ : Unit => True) (fun (_ : Unit) (t : State) => ∃ fz0 : Nat → Int32, (∀ j, j < N → fz0 j = v) ∧ va_P (dC, dI) vwCl [(ar, .inl (cI, N, .inl fz0))] t.heap ∧ va_D (va_A [(ar, .inl (cI, N, .inl f))] sz) [(ar, .inl (cI, N, .inl fz0))]) (va_A [(ar, .inl (cI, N, .inl f))] sz)) 0 0 (va_A [(ar, .inl (cI, N, .inl f))] sz) := by
  refine Met.ofW (cc := cJ7_fill_53178) (maxL := 4) (ret := none) (by decide) rfl ?_
  intro p e s m args below meth c s₁ B hml hv
  obtain ⟨rfl, hsz, hP, hK, hD0, hN⟩ := hv
  have hx := B.exec
  have hb := B.bytes
  have hr := B.returns
  have hts := atoms_spec (ws := wsJ7_fill_53178) B.pre
  have hown : s.vm.findClass RJ7 = some m.cls := findClass_of_methodNamed B.named
  have hlocks := B.notSynchronized
  subst hsz
  have hD := hD0.self (sz := s.heap.size)
  generalize hAe : va_A [(ar, .inl (cI, N, .inl f))] s.heap.size = A at hD ⊢
  have hA : ∀ q : Nat, s.heap.size ≤ q → A q := fun q h => by rw [← hAe]; exact Or.inr h
  have hl := lv_entry ([.ref ar, .int v]) (n := 4) (Nat.le_of_ble_eq_true rfl)
  rw [lg_entry_eq]
  generalize (lg_sl ([.ref ar, .int v]) ++ List.replicate (4 - (lg_sl ([.ref ar, .int v])).length) Slot.unset).toArray = ls at hl ⊢
  have hl : lv_has ls 4 [(0, .ref ar), (1, .int v)] := hl
  refine k_H (A := A) hP (fun H hP hS => ?_)
  have hP : va_P (dC, dI) vwCl [(ar, .inl (cI, N, .inl f))] H := hP
  have hD : va_D A [(ar, .inl (cI, N, .inl f))] := hD
  refine lv_iconst (v := 0) hx hb dJ7_fill_53178_0 (by decide) ?_
  refine lv_istore_n (lv' := [(2, .int 0), (0, .ref ar), (1, .int v)]) hx hb dJ7_fill_53178_1 rfl hl (by decide) rfl (fun ls hl => ?_)
  refine lv_aload_n hx hb dJ7_fill_53178_2 rfl (lv_at hl 1 rfl) ?_
  refine va_alen hx hb hK hP 0 0 rfl rfl (v := nI N) (by rfl) dJ7_fill_53178_3 ?_
  refine lv_istore_n (lv' := [(3, .int (nI N)), (2, .int 0), (0, .ref ar), (1, .int v)]) hx hb dJ7_fill_53178_4 rfl hl (by decide) rfl (fun ls hl => ?_)
  have hl := lv_sub hl (l' := [(2, .int (0)), (3, .int (nI N)), (0, .ref ar), (1, .int v)]) [1, 0, 2, 3] rfl
  rw [show (0 : Int32) = nI 0 by decide] at hl
  refine lp_up (S := Nat → Int32) (fun k f => ∀ j, j < k → f j = v) (fun f => [(ar, .inl (cI, N, .inl f))]) (fun k _ => [(2, .int (nI k)), (3, .int (nI N)), (0, .ref ar), (1, .int v)]) 5 N ?_ ?_ 0 (Nat.zero_le N) f (fun j hj => absurd hj (Nat.not_lt_zero j)) hP hD hS hl
  · intro f_102 hJ H locs hP hD hS ls hl
    have hP : va_P (dC, dI) vwCl [(ar, .inl (cI, N, .inl f_102))] H := hP
    have hD : va_D A [(ar, .inl (cI, N, .inl f_102))] := hD
    have hl : lv_has ls 4 [(2, .int (nI N)), (3, .int (nI N)), (0, .ref ar), (1, .int v)] := hl
    refine lv_iload_n hx hb dJ7_fill_53178_5 rfl (lv_at hl 0 rfl) ?_
    refine lv_iload_n hx hb dJ7_fill_53178_6 rfl (lv_at hl 1 rfl) ?_
    refine lv_icmp_ge (tgt := 20) hx hb dJ7_fill_53178_7 (by decide) (fun _ => ?_) (fun c9 => absurd (nI_le (Nat.le_refl N) hNb) c9)
    have hP9 := hP.sub (ws' := [(ar, .inl (cI, N, .inl f_102))]) [0] rfl
    have hD9 := hD.sub (ws' := [(ar, .inl (cI, N, .inl f_102))]) [0] (by decide) rfl
    exact W.vret hx hb hr (fun t ht hW => ⟨⟨(), rfl, trivial, f_102, hJ, by rw [ht]; exact hP9, hD9⟩, hS.F ht⟩) hS.2.2 dJ7_fill_53178_20
  · intro k f_103 hk hJ ih H locs hP hD hS ls hl
    have hP : va_P (dC, dI) vwCl [(ar, .inl (cI, N, .inl f_103))] H := hP
    have hD : va_D A [(ar, .inl (cI, N, .inl f_103))] := hD
    have hl : lv_has ls 4 [(2, .int (nI k)), (3, .int (nI N)), (0, .ref ar), (1, .int v)] := hl
    refine lv_iload_n hx hb dJ7_fill_53178_5 rfl (lv_at hl 0 rfl) ?_
    refine lv_iload_n hx hb dJ7_fill_53178_6 rfl (lv_at hl 1 rfl) ?_
    refine lv_icmp_ge (tgt := 20) hx hb dJ7_fill_53178_7 (by decide) (fun c9 => absurd c9 (nI_ge hk hNb)) (fun _ => ?_)
    refine lv_aload_n hx hb dJ7_fill_53178_10 rfl (lv_at hl 2 rfl) ?_
    refine lv_iload_n hx hb dJ7_fill_53178_11 rfl (lv_at hl 0 rfl) ?_
    refine lv_iload_n hx hb dJ7_fill_53178_12 rfl (lv_at hl 3 rfl) ?_
    refine va_iast hx hb hK hP hD hS 0 0 rfl rfl (vp_in_nI hk hNb) dJ7_fill_53178_13 (fun H locs hP hD hS => ?_)
    obtain ⟨f_104, ef_104⟩ : ∃ z, z = upd f_103 (nI k).toNatClampNeg v := ⟨_, rfl⟩
    have hP : va_P (dC, dI) vwCl [(ar, .inl (cI, N, .inl f_104))] H := by rw [ef_104]; exact hP
    have hD : va_D A [(ar, .inl (cI, N, .inl f_104))] := by rw [ef_104]; exact hD
    obtain ⟨x_105, ex_105⟩ : ∃ z : Int32, z = (nI k) + 1 := ⟨_, rfl⟩
    refine lv_iinc (v := x_105) (lv' := [(2, .int x_105), (3, .int (nI N)), (0, .ref ar), (1, .int v)]) hx hb dJ7_fill_53178_14 hl (k := 0) rfl (by rw [ex_105]; rfl) (by decide) rfl (fun ls hl => ?_)
    refine lv_goto (tgt := 5) hx hb dJ7_fill_53178_17 (by decide) ?_
    have hl : lv_has ls 4 [(2, .int (nI (k + 1))), (3, .int (nI N)), (0, .ref ar), (1, .int v)] := by
      have hq := lv_sub hl (l' := [(2, .int x_105), (3, .int (nI N)), (0, .ref ar), (1, .int v)]) [0, 1, 2, 3] rfl
      rw [ex_105, nI_1 k] at hq
      exact hq
    exact ih f_104 (up_fill ef_104 (by omega) hJ) H locs hP hD hS ls hl

set_option maxHeartbeats 4000000 in
set_option maxRecDepth 100000 in
theorem c_fillL (l : Launch) (dC : Nat → ClassId) (dI : Nat → Nat → Nat) (cI cB cL cZ : ClassId) (ar : Nat) (v : Int64) (f : Nat → Int64) (N : Nat) (sz : Nat) (hNb : N < 2 ^ 31) : Met l yJ7_fill_d0a16 wsJ7_fill_d0a16 ({ frames := 0, cells := 0, slots := 0, locals := 0 }) (cP (dC, dI) (kTy cI cB cL cZ) [.ref ar, .long v] [(ar, .inl (cL, N, .inr (.inl f)))] sz) (va_Qv (fun _ : Unit => True) (fun (_ : Unit) (t : State) => ∃ flz0 : Nat → Int64, va_P (dC, dI) vwCl [(ar, .inl (cL, N, .inr (.inl flz0)))] t.heap ∧ va_D (va_A [(ar, .inl (cL, N, .inr (.inl f)))] sz) [(ar, .inl (cL, N, .inr (.inl flz0)))]) (va_A [(ar, .inl (cL, N, .inr (.inl f)))] sz)) 0 0 (va_A [(ar, .inl (cL, N, .inr (.inl f)))] sz) := by
  refine Met.ofW (cc := cJ7_fill_d0a16) (maxL := 5) (ret := none) (by decide) rfl ?_
  intro p e s m args below meth c s₁ B hml hv
  obtain ⟨rfl, hsz, hP, hK, hD0, hN⟩ := hv
  have hx := B.exec
  have hb := B.bytes
  have hr := B.returns
  have hts := atoms_spec (ws := wsJ7_fill_d0a16) B.pre
  have hown : s.vm.findClass RJ7 = some m.cls := findClass_of_methodNamed B.named
  have hlocks := B.notSynchronized
  subst hsz
  have hD := hD0.self (sz := s.heap.size)
  generalize hAe : va_A [(ar, .inl (cL, N, .inr (.inl f)))] s.heap.size = A at hD ⊢
  have hA : ∀ q : Nat, s.heap.size ≤ q → A q := fun q h => by rw [← hAe]; exact Or.inr h
  have hl := lv_entry ([.ref ar, .long v]) (n := 5) (Nat.le_of_ble_eq_true rfl)
  rw [lg_entry_eq]
  generalize (lg_sl ([.ref ar, .long v]) ++ List.replicate (5 - (lg_sl ([.ref ar, .long v])).length) Slot.unset).toArray = ls at hl ⊢
  have hl : lv_has ls 5 [(0, .ref ar), (1, .long v)] := hl
  refine k_H (A := A) hP (fun H hP hS => ?_)
  have hP : va_P (dC, dI) vwCl [(ar, .inl (cL, N, .inr (.inl f)))] H := hP
  have hD : va_D A [(ar, .inl (cL, N, .inr (.inl f)))] := hD
  refine lv_iconst (v := 0) hx hb dJ7_fill_d0a16_0 (by decide) ?_
  refine lv_istore_n (lv' := [(3, .int 0), (0, .ref ar), (1, .long v)]) hx hb dJ7_fill_d0a16_1 rfl hl (by decide) rfl (fun ls hl => ?_)
  refine lv_aload_n hx hb dJ7_fill_d0a16_2 rfl (lv_at hl 1 rfl) ?_
  refine va_alen hx hb hK hP 0 2 rfl rfl (v := nI N) (by rfl) dJ7_fill_d0a16_3 ?_
  refine lv_istore (lv' := [(4, .int (nI N)), (3, .int 0), (0, .ref ar), (1, .long v)]) hx hb dJ7_fill_d0a16_4 hl (by decide) rfl (fun ls hl => ?_)
  have hl := lv_sub hl (l' := [(3, .int (0)), (4, .int (nI N)), (0, .ref ar), (1, .long v)]) [1, 0, 2, 3] rfl
  rw [show (0 : Int32) = nI 0 by decide] at hl
  refine lp_up (S := Nat → Int64) (fun _ _ => True) (fun f => [(ar, .inl (cL, N, .inr (.inl f)))]) (fun k _ => [(3, .int (nI k)), (4, .int (nI N)), (0, .ref ar), (1, .long v)]) 6 N ?_ ?_ 0 (Nat.zero_le N) f trivial hP hD hS hl
  · intro fl_106 hJ H locs hP hD hS ls hl
    have hP : va_P (dC, dI) vwCl [(ar, .inl (cL, N, .inr (.inl fl_106)))] H := hP
    have hD : va_D A [(ar, .inl (cL, N, .inr (.inl fl_106)))] := hD
    have hl : lv_has ls 5 [(3, .int (nI N)), (4, .int (nI N)), (0, .ref ar), (1, .long v)] := hl
    refine lv_iload_n hx hb dJ7_fill_d0a16_6 rfl (lv_at hl 0 rfl) ?_
    refine lv_iload hx hb dJ7_fill_d0a16_7 (lv_at hl 1 rfl) ?_
    refine lv_icmp_ge (tgt := 22) hx hb dJ7_fill_d0a16_9 (by decide) (fun _ => ?_) (fun c9 => absurd (nI_le (Nat.le_refl N) hNb) c9)
    have hP9 := hP.sub (ws' := [(ar, .inl (cL, N, .inr (.inl fl_106)))]) [0] rfl
    have hD9 := hD.sub (ws' := [(ar, .inl (cL, N, .inr (.inl fl_106)))]) [0] (by decide) rfl
    exact W.vret hx hb hr (fun t ht hW => ⟨⟨(), rfl, trivial, fl_106, by rw [ht]; exact hP9, hD9⟩, hS.F ht⟩) hS.2.2 dJ7_fill_d0a16_22
  · intro k fl_107 hk hJ ih H locs hP hD hS ls hl
    have hP : va_P (dC, dI) vwCl [(ar, .inl (cL, N, .inr (.inl fl_107)))] H := hP
    have hD : va_D A [(ar, .inl (cL, N, .inr (.inl fl_107)))] := hD
    have hl : lv_has ls 5 [(3, .int (nI k)), (4, .int (nI N)), (0, .ref ar), (1, .long v)] := hl
    refine lv_iload_n hx hb dJ7_fill_d0a16_6 rfl (lv_at hl 0 rfl) ?_
    refine lv_iload hx hb dJ7_fill_d0a16_7 (lv_at hl 1 rfl) ?_
    refine lv_icmp_ge (tgt := 22) hx hb dJ7_fill_d0a16_9 (by decide) (fun c9 => absurd c9 (nI_ge hk hNb)) (fun _ => ?_)
    refine lv_aload_n hx hb dJ7_fill_d0a16_12 rfl (lv_at hl 2 rfl) ?_
    refine lv_iload_n hx hb dJ7_fill_d0a16_13 rfl (lv_at hl 0 rfl) ?_
    refine lv_lload_n hx hb dJ7_fill_d0a16_14 rfl (lv_at hl 3 rfl) ?_
    refine va_last hx hb hK hP hD hS 0 2 rfl rfl (vp_in_nI hk hNb) dJ7_fill_d0a16_15 (fun H locs hP hD hS => ?_)
    obtain ⟨fl_108, efl_108⟩ : ∃ z, z = vp_updL fl_107 (nI k).toNatClampNeg v := ⟨_, rfl⟩
    have hP : va_P (dC, dI) vwCl [(ar, .inl (cL, N, .inr (.inl fl_108)))] H := by rw [efl_108]; exact hP
    have hD : va_D A [(ar, .inl (cL, N, .inr (.inl fl_108)))] := by rw [efl_108]; exact hD
    obtain ⟨x_109, ex_109⟩ : ∃ z : Int32, z = (nI k) + 1 := ⟨_, rfl⟩
    refine lv_iinc (v := x_109) (lv' := [(3, .int x_109), (4, .int (nI N)), (0, .ref ar), (1, .long v)]) hx hb dJ7_fill_d0a16_16 hl (k := 0) rfl (by rw [ex_109]; rfl) (by decide) rfl (fun ls hl => ?_)
    refine lv_goto (tgt := 6) hx hb dJ7_fill_d0a16_19 (by decide) ?_
    have hl : lv_has ls 5 [(3, .int (nI (k + 1))), (4, .int (nI N)), (0, .ref ar), (1, .long v)] := by
      have hq := lv_sub hl (l' := [(3, .int x_109), (4, .int (nI N)), (0, .ref ar), (1, .long v)]) [0, 1, 2, 3] rfl
      rw [ex_109, nI_1 k] at hq
      exact hq
    exact ih fl_108 trivial H locs hP hD hS ls hl
