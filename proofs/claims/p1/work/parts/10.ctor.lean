set_option maxHeartbeats 4000000 in
set_option maxRecDepth 100000 in
theorem c_X0_init (l : Launch) (dC : Nat → ClassId) (dI : Nat → Nat → Nat) (cI cB cL cZ : ClassId) (h0 : Nat) (sz : Nat)  : Met l yX0_init wsX0_init ({ frames := 1, cells := 1, slots := 3648, locals := 12 }) (cP (dC, dI) (kTy cI cB cL cZ) [.ref h0] [(h0, .inr (0, [.null, .int 0]))] sz) (va_Qv (fun _ : Unit => True) (fun (_ : Unit) (t : State) => ∃ qz0 : Nat, va_P (dC, dI) vwCl [(h0, .inr (0, [.ref qz0, .int 0]))] t.heap ∧ va_D (va_A [(h0, .inr (0, [.null, .int 0]))] sz) [(h0, .inr (0, [.ref qz0, .int 0]))]) (va_A [(h0, .inr (0, [.null, .int 0]))] sz)) 1 3648 (va_A [(h0, .inr (0, [.null, .int 0]))] sz) := by
  refine Met.ofW (cc := cX0_init) (maxL := 1) (ret := none) (by decide) rfl ?_
  intro p e s m args below meth c s₁ B hml hv
  obtain ⟨rfl, hsz, hP, hK, hD0, hN⟩ := hv
  have hx := B.exec
  have hb := B.bytes
  have hr := B.returns
  have hts := atoms_spec (ws := wsX0_init) B.pre
  have hown : s.vm.findClass RX0 = some m.cls := findClass_of_methodNamed B.named
  have hlocks := B.notSynchronized
  have hin : meth.name = "<init>" := (name_of_methodNamed B.named B.method).1
  subst hsz
  have hD := hD0.self (sz := s.heap.size)
  generalize hAe : va_A [(h0, .inr (0, [.null, .int 0]))] s.heap.size = A at hD ⊢
  have hA : ∀ q : Nat, s.heap.size ≤ q → A q := fun q h => by rw [← hAe]; exact Or.inr h
  have hl := lv_entry ([.ref h0]) (n := 1) (Nat.le_of_ble_eq_true rfl)
  rw [lg_entry_eq]
  generalize (lg_sl ([.ref h0]) ++ List.replicate (1 - (lg_sl ([.ref h0])).length) Slot.unset).toArray = ls at hl ⊢
  have hl : lv_has ls 1 [(0, .ref h0)] := hl
  refine k_H (A := A) hP (fun H hP hS => ?_)
  have hP : va_P (dC, dI) vwCl [(h0, .inr (0, [.null, .int 0]))] H := hP
  have hD : va_D A [(h0, .inr (0, [.null, .int 0]))] := hD
  refine lv_aload_n hx hb dX0_init_0 rfl (lv_at hl 0 rfl) ?_
  refine W.objInit hx hb hown (hts (.methodLink RX0 5 objectInit) ol_wsX0_init) (hts (.instanceMethod objectInit) oi_wsX0_init) (hts (.code objectInit ⟨#[0xb1]⟩ 1 none) oc_wsX0_init) rfl (by rw [hml]; exact hl.1) rfl dX0_init_1 (Nat.le_of_ble_eq_true rfl) (Nat.le_of_ble_eq_true rfl) ?_
  refine W.eq (g2 := F0 m 4 ls []) rfl ?_
  refine lv_aload_n hx hb dX0_init_4 rfl (lv_at hl 0 rfl) ?_
  refine lv_sipush (v := 3648) hx hb dX0_init_5 (by decide) ?_
  refine k_newa (atype := .int) hx hb (hts (.arrayClass .int) ac_int_wsX0_init) rfl hK 0 rfl (fun _ h9 => h9) (a0 := (3648, .inl (fun _ => 0))) (N' := 3648) hP hD hS hA (fun _ => rfl) (by decide) (by decide) (by decide) (Nat.le_of_ble_eq_true rfl) (Nat.le_of_ble_eq_true rfl) dX0_init_8 (fun q_1 H hP hD hS => ?_)
  have hP : va_P (dC, dI) vwCl [(h0, .inr (0, [.null, .int 0])), (q_1, .inl (cI, 3648, .inl (fun _ => 0)))] H := hP
  have hD : va_D A [(h0, .inr (0, [.null, .int 0])), (q_1, .inl (cI, 3648, .inl (fun _ => 0)))] := hD
  refine W.widen (k := 1) (n := 3648) (Nat.le_of_ble_eq_true rfl) (Nat.le_of_ble_eq_true rfl) ?_
  refine va_putF (D := (dC, dI)) (ci := 0) (v := .ref q_1) (ty := .array .int) (C := RX0) (T := TX0) (N := 2) hx hb hts iwwsX0_init_0 tyX0 tyX0_ok nmX0 hown hK hP hD hS 0 rfl rfl 0 (by decide) (hts (.fieldLink RX0 11 "NothingJudge$Code" "cells" "[I") fwwsX0_init_11) (fun _ h9 => h9) rfl hin rfl (by decide +kernel) rfl rfl (Nat.le_of_ble_eq_true rfl) dX0_init_10 (fun H locs hP hD hS => ?_)
  have hP : va_P (dC, dI) vwCl [(h0, .inr (0, [.ref q_1, .int 0])), (q_1, .inl (cI, 3648, .inl (fun _ => 0)))] H := hP
  have hD : va_D A [(h0, .inr (0, [.ref q_1, .int 0])), (q_1, .inl (cI, 3648, .inl (fun _ => 0)))] := hD
  have hP9 := hP.sub (ws' := [(h0, .inr (0, [.ref q_1, .int 0]))]) [0] rfl
  have hD9 := hD.sub (ws' := [(h0, .inr (0, [.ref q_1, .int 0]))]) [0] (by decide) rfl
  exact W.vret hx hb hr (fun t ht hW => ⟨⟨(), rfl, trivial, q_1, by rw [ht]; exact hP9, hD9⟩, hS.F ht⟩) hS.2.2 dX0_init_13

set_option maxHeartbeats 4000000 in
set_option maxRecDepth 100000 in
theorem c_X8_init (l : Launch) (dC : Nat → ClassId) (dI : Nat → Nat → Nat) (cI cB cL cZ : ClassId) (h0 : Nat) (sz : Nat)  : Met l yX8_init wsX8_init ({ frames := 1, cells := 1, slots := 1200, locals := 12 }) (cP (dC, dI) (kTy cI cB cL cZ) [.ref h0] [(h0, .inr (7, [.null, .int 0, .int 0]))] sz) (va_Qv (fun _ : Unit => True) (fun (_ : Unit) (t : State) => ∃ qz0 : Nat, va_P (dC, dI) vwCl [(h0, .inr (7, [.ref qz0, .int 0, .int 0]))] t.heap ∧ va_D (va_A [(h0, .inr (7, [.null, .int 0, .int 0]))] sz) [(h0, .inr (7, [.ref qz0, .int 0, .int 0]))]) (va_A [(h0, .inr (7, [.null, .int 0, .int 0]))] sz)) 1 1200 (va_A [(h0, .inr (7, [.null, .int 0, .int 0]))] sz) := by
  refine Met.ofW (cc := cX8_init) (maxL := 1) (ret := none) (by decide) rfl ?_
  intro p e s m args below meth c s₁ B hml hv
  obtain ⟨rfl, hsz, hP, hK, hD0, hN⟩ := hv
  have hx := B.exec
  have hb := B.bytes
  have hr := B.returns
  have hts := atoms_spec (ws := wsX8_init) B.pre
  have hown : s.vm.findClass RX8 = some m.cls := findClass_of_methodNamed B.named
  have hlocks := B.notSynchronized
  have hin : meth.name = "<init>" := (name_of_methodNamed B.named B.method).1
  subst hsz
  have hD := hD0.self (sz := s.heap.size)
  generalize hAe : va_A [(h0, .inr (7, [.null, .int 0, .int 0]))] s.heap.size = A at hD ⊢
  have hA : ∀ q : Nat, s.heap.size ≤ q → A q := fun q h => by rw [← hAe]; exact Or.inr h
  have hl := lv_entry ([.ref h0]) (n := 1) (Nat.le_of_ble_eq_true rfl)
  rw [lg_entry_eq]
  generalize (lg_sl ([.ref h0]) ++ List.replicate (1 - (lg_sl ([.ref h0])).length) Slot.unset).toArray = ls at hl ⊢
  have hl : lv_has ls 1 [(0, .ref h0)] := hl
  refine k_H (A := A) hP (fun H hP hS => ?_)
  have hP : va_P (dC, dI) vwCl [(h0, .inr (7, [.null, .int 0, .int 0]))] H := hP
  have hD : va_D A [(h0, .inr (7, [.null, .int 0, .int 0]))] := hD
  refine lv_aload_n hx hb dX8_init_0 rfl (lv_at hl 0 rfl) ?_
  refine W.objInit hx hb hown (hts (.methodLink RX8 3 objectInit) ol_wsX8_init) (hts (.instanceMethod objectInit) oi_wsX8_init) (hts (.code objectInit ⟨#[0xb1]⟩ 1 none) oc_wsX8_init) rfl (by rw [hml]; exact hl.1) rfl dX8_init_1 (Nat.le_of_ble_eq_true rfl) (Nat.le_of_ble_eq_true rfl) ?_
  refine W.eq (g2 := F0 m 4 ls []) rfl ?_
  refine lv_aload_n hx hb dX8_init_4 rfl (lv_at hl 0 rfl) ?_
  refine lv_sipush (v := 1200) hx hb dX8_init_5 (by decide) ?_
  refine k_newa (atype := .int) hx hb (hts (.arrayClass .int) ac_int_wsX8_init) rfl hK 0 rfl (fun _ h9 => h9) (a0 := (1200, .inl (fun _ => 0))) (N' := 1200) hP hD hS hA (fun _ => rfl) (by decide) (by decide) (by decide) (Nat.le_of_ble_eq_true rfl) (Nat.le_of_ble_eq_true rfl) dX8_init_8 (fun q_2 H hP hD hS => ?_)
  have hP : va_P (dC, dI) vwCl [(h0, .inr (7, [.null, .int 0, .int 0])), (q_2, .inl (cI, 1200, .inl (fun _ => 0)))] H := hP
  have hD : va_D A [(h0, .inr (7, [.null, .int 0, .int 0])), (q_2, .inl (cI, 1200, .inl (fun _ => 0)))] := hD
  refine W.widen (k := 1) (n := 1200) (Nat.le_of_ble_eq_true rfl) (Nat.le_of_ble_eq_true rfl) ?_
  refine va_putF (D := (dC, dI)) (ci := 7) (v := .ref q_2) (ty := .array .int) (C := RX8) (T := TX8) (N := 3) hx hb hts iwwsX8_init_8 tyX8 tyX8_ok nmX8 hown hK hP hD hS 0 rfl rfl 0 (by decide) (hts (.fieldLink RX8 9 "NothingJudge$Tokens" "packed" "[I") fwwsX8_init_9) (fun _ h9 => h9) rfl hin rfl (by decide +kernel) rfl rfl (Nat.le_of_ble_eq_true rfl) dX8_init_10 (fun H locs hP hD hS => ?_)
  have hP : va_P (dC, dI) vwCl [(h0, .inr (7, [.ref q_2, .int 0, .int 0])), (q_2, .inl (cI, 1200, .inl (fun _ => 0)))] H := hP
  have hD : va_D A [(h0, .inr (7, [.ref q_2, .int 0, .int 0])), (q_2, .inl (cI, 1200, .inl (fun _ => 0)))] := hD
  have hP9 := hP.sub (ws' := [(h0, .inr (7, [.ref q_2, .int 0, .int 0]))]) [0] rfl
  have hD9 := hD.sub (ws' := [(h0, .inr (7, [.ref q_2, .int 0, .int 0]))]) [0] (by decide) rfl
  exact W.vret hx hb hr (fun t ht hW => ⟨⟨(), rfl, trivial, q_2, by rw [ht]; exact hP9, hD9⟩, hS.F ht⟩) hS.2.2 dX8_init_13

set_option maxHeartbeats 4000000 in
set_option maxRecDepth 100000 in
theorem c_X3_init (l : Launch) (dC : Nat → ClassId) (dI : Nat → Nat → Nat) (cI cB cL cZ : ClassId) (h0 : Nat) (sz : Nat)  : Met l yX3_init wsX3_init ({ frames := 2, cells := 10, slots := 3866, locals := 32 }) (cP (dC, dI) (kTy cI cB cL cZ) [.ref h0] [(h0, .inr (3, [.null, .null, .null, .null, .null, .null, .null, .null, .null, .int 0, .int 0, .int 0, .int 0, .int 0]))] sz) (va_Qv (fun _ : Unit => True) (fun (_ : Unit) (t : State) => ∃ qz0 : Nat, ∃ qz1 : Nat, ∃ qz2 : Nat, ∃ qz3 : Nat, ∃ qz4 : Nat, ∃ qz5 : Nat, ∃ qz6 : Nat, ∃ qz7 : Nat, ∃ qz8 : Nat, ∃ qz9 : Nat, va_P (dC, dI) vwCl [(h0, .inr (3, [.ref qz0, .ref qz1, .ref qz2, .ref qz3, .ref qz4, .ref qz5, .ref qz6, .ref qz7, .ref qz8, .int 0, .int 0, .int 0, .int 0, .int (-1)])), (qz0, .inr (0, [.ref qz9, .int 0]))] t.heap ∧ va_D (va_A [(h0, .inr (3, [.null, .null, .null, .null, .null, .null, .null, .null, .null, .int 0, .int 0, .int 0, .int 0, .int 0]))] sz) [(h0, .inr (3, [.ref qz0, .ref qz1, .ref qz2, .ref qz3, .ref qz4, .ref qz5, .ref qz6, .ref qz7, .ref qz8, .int 0, .int 0, .int 0, .int 0, .int (-1)])), (qz0, .inr (0, [.ref qz9, .int 0]))]) (va_A [(h0, .inr (3, [.null, .null, .null, .null, .null, .null, .null, .null, .null, .int 0, .int 0, .int 0, .int 0, .int 0]))] sz)) 10 3866 (va_A [(h0, .inr (3, [.null, .null, .null, .null, .null, .null, .null, .null, .null, .int 0, .int 0, .int 0, .int 0, .int 0]))] sz) := by
  refine Met.ofW (cc := cX3_init) (maxL := 1) (ret := none) (by decide) rfl ?_
  intro p e s m args below meth c s₁ B hml hv
  obtain ⟨rfl, hsz, hP, hK, hD0, hN⟩ := hv
  have hx := B.exec
  have hb := B.bytes
  have hr := B.returns
  have hts := atoms_spec (ws := wsX3_init) B.pre
  have hown : s.vm.findClass RX3 = some m.cls := findClass_of_methodNamed B.named
  have hlocks := B.notSynchronized
  have hin : meth.name = "<init>" := (name_of_methodNamed B.named B.method).1
  subst hsz
  have hD := hD0.self (sz := s.heap.size)
  generalize hAe : va_A [(h0, .inr (3, [.null, .null, .null, .null, .null, .null, .null, .null, .null, .int 0, .int 0, .int 0, .int 0, .int 0]))] s.heap.size = A at hD ⊢
  have hA : ∀ q : Nat, s.heap.size ≤ q → A q := fun q h => by rw [← hAe]; exact Or.inr h
  have hl := lv_entry ([.ref h0]) (n := 1) (Nat.le_of_ble_eq_true rfl)
  rw [lg_entry_eq]
  generalize (lg_sl ([.ref h0]) ++ List.replicate (1 - (lg_sl ([.ref h0])).length) Slot.unset).toArray = ls at hl ⊢
  have hl : lv_has ls 1 [(0, .ref h0)] := hl
  refine k_H (A := A) hP (fun H hP hS => ?_)
  have hP : va_P (dC, dI) vwCl [(h0, .inr (3, [.null, .null, .null, .null, .null, .null, .null, .null, .null, .int 0, .int 0, .int 0, .int 0, .int 0]))] H := hP
  have hD : va_D A [(h0, .inr (3, [.null, .null, .null, .null, .null, .null, .null, .null, .null, .int 0, .int 0, .int 0, .int 0, .int 0]))] := hD
  refine lv_aload_n hx hb dX3_init_0 rfl (lv_at hl 0 rfl) ?_
  refine W.objInit hx hb hown (hts (.methodLink RX3 3 objectInit) ol_wsX3_init) (hts (.instanceMethod objectInit) oi_wsX3_init) (hts (.code objectInit ⟨#[0xb1]⟩ 1 none) oc_wsX3_init) rfl (by rw [hml]; exact hl.1) rfl dX3_init_1 (Nat.le_of_ble_eq_true rfl) (Nat.le_of_ble_eq_true rfl) ?_
  refine W.eq (g2 := F0 m 4 ls []) rfl ?_
  refine lv_aload_n hx hb dX3_init_4 rfl (lv_at hl 0 rfl) ?_
  refine va_new (D := (dC, dI)) (ci := 0) (fs := [.null, .int 0]) (C := RX0) (T := TX0) (N := 2) hx hb hts iwwsX3_init_0 tyX0 tyX0_ok hown (hts (.classLink RX3 9 RX0) cl9_wsX3_init) (hts (.instantiable RX0 2) in0_wsX3_init) (hts (.initialized RX0) it0_wsX3_init) hK hP hD hS hA rfl dfX0 (Nat.le_of_ble_eq_true rfl) (Nat.le_of_ble_eq_true rfl) dX3_init_5 (fun q_3 H hP hD hS => ?_)
  have hP : va_P (dC, dI) vwCl [(h0, .inr (3, [.null, .null, .null, .null, .null, .null, .null, .null, .null, .int 0, .int 0, .int 0, .int 0, .int 0])), (q_3, .inr (0, [.null, .int 0]))] H := hP
  have hD : va_D A [(h0, .inr (3, [.null, .null, .null, .null, .null, .null, .null, .null, .null, .int 0, .int 0, .int 0, .int 0, .int 0])), (q_3, .inr (0, [.null, .int 0]))] := hD
  refine W.widen (k := 1) (n := 2) (Nat.le_of_ble_eq_true rfl) (Nat.le_of_ble_eq_true rfl) ?_
  refine lv_dup hx hb dX3_init_8 rfl ?_
  have hPc := hP.sub (ws' := [(q_3, .inr (0, [.null, .int 0]))]) [1] rfl
  have hDc := hD.sub (ws' := [(q_3, .inr (0, [.null, .int 0]))]) [1] (by decide) rfl
  have hFc := va_free (wc := [(q_3, .inr (0, [.null, .int 0]))]) hD hS hA [1] rfl
  refine va_callv (va_runIN (As := []) (rest := [.ref q_3, .ref h0]) ⟨hx, hb, hml, hown, hts⟩ (c_X0_init l dC dI cI cB cL cZ (q_3) H.size) ⟨va_cnB (host := "NothingJudge") 0 hts gX3_init_X0_init_n11 rfl rfl rfl hN.2.2 (hts (.initialized RX0) it0_wsX3_init) (by decide +kernel) ⟨Nat.le_of_ble_eq_true rfl, Nat.le_of_ble_eq_true rfl⟩, rfl, (hts (.instanceMethod yX0_init) imyX0_init_wsX3_init)⟩ ⟨cP_fb, fun U hU hW => cP_pre hPc hK hDc hN U hU hW⟩ rfl rfl hl.1 rfl (lv_room (Nat.le_of_ble_eq_true rfl)) dX3_init_9 ⟨Nat.le_of_ble_eq_true rfl, Nat.le_of_ble_eq_true rfl⟩) hS (fun q _ h => hFc q h) hFc (fun u t H1 locs ht hvm hw hB hz1 hk1 hS => ?_)
  obtain ⟨q_4, hP1, hD1⟩ := hB
  rw [ht] at hP1
  obtain ⟨hP, hD⟩ := va_join (wr := [(h0, .inr (3, [.null, .null, .null, .null, .null, .null, .null, .null, .null, .int 0, .int 0, .int 0, .int 0, .int 0]))]) (w1 := [(q_3, .inr (0, [.ref q_4, .int 0]))]) hP hD [1] [0] rfl rfl (by decide) (by decide) hk1 hFc hP1 hD1
  generalize H1 = H at hP hS ⊢
  have hP : va_P (dC, dI) vwCl [(h0, .inr (3, [.null, .null, .null, .null, .null, .null, .null, .null, .null, .int 0, .int 0, .int 0, .int 0, .int 0])), (q_3, .inr (0, [.ref q_4, .int 0]))] H := hP
  have hD : va_D A [(h0, .inr (3, [.null, .null, .null, .null, .null, .null, .null, .null, .null, .int 0, .int 0, .int 0, .int 0, .int 0])), (q_3, .inr (0, [.ref q_4, .int 0]))] := hD
  refine W.widen (k := 2) (n := 3650) (Nat.le_of_ble_eq_true rfl) (Nat.le_of_ble_eq_true rfl) ?_
  refine va_putF (D := (dC, dI)) (ci := 3) (v := .ref q_3) (ty := .object "NothingJudge$Code") (C := RX3) (T := TX3) (N := 14) hx hb hts iwwsX3_init_3 tyX3 tyX3_ok nmX3 hown hK hP hD hS 0 rfl rfl 0 (by decide) (hts (.fieldLink RX3 12 "NothingJudge$Program" "code" "LNothingJudge$Code;") fwwsX3_init_12) (fun _ h9 => h9) rfl hin rfl (by decide +kernel) rfl rfl (Nat.le_of_ble_eq_true rfl) dX3_init_12 (fun H locs hP hD hS => ?_)
  have hP : va_P (dC, dI) vwCl [(h0, .inr (3, [.ref q_3, .null, .null, .null, .null, .null, .null, .null, .null, .int 0, .int 0, .int 0, .int 0, .int 0])), (q_3, .inr (0, [.ref q_4, .int 0]))] H := hP
  have hD : va_D A [(h0, .inr (3, [.ref q_3, .null, .null, .null, .null, .null, .null, .null, .null, .int 0, .int 0, .int 0, .int 0, .int 0])), (q_3, .inr (0, [.ref q_4, .int 0]))] := hD
  refine lv_aload_n hx hb dX3_init_15 rfl (lv_at hl 0 rfl) ?_
  refine lv_bipush (v := 8) hx hb dX3_init_16 (by decide) ?_
  refine k_newa (atype := .int) hx hb (hts (.arrayClass .int) ac_int_wsX3_init) rfl hK 0 rfl (fun _ h9 => h9) (a0 := (8, .inl (fun _ => 0))) (N' := 8) hP hD hS hA (fun _ => rfl) (by decide) (by decide) (by decide) (Nat.le_of_ble_eq_true rfl) (Nat.le_of_ble_eq_true rfl) dX3_init_18 (fun q_6 H hP hD hS => ?_)
  have hP : va_P (dC, dI) vwCl [(h0, .inr (3, [.ref q_3, .null, .null, .null, .null, .null, .null, .null, .null, .int 0, .int 0, .int 0, .int 0, .int 0])), (q_3, .inr (0, [.ref q_4, .int 0])), (q_6, .inl (cI, 8, .inl (fun _ => 0)))] H := hP
  have hD : va_D A [(h0, .inr (3, [.ref q_3, .null, .null, .null, .null, .null, .null, .null, .null, .int 0, .int 0, .int 0, .int 0, .int 0])), (q_3, .inr (0, [.ref q_4, .int 0])), (q_6, .inl (cI, 8, .inl (fun _ => 0)))] := hD
  refine W.widen (k := 3) (n := 3658) (Nat.le_of_ble_eq_true rfl) (Nat.le_of_ble_eq_true rfl) ?_
  refine va_putF (D := (dC, dI)) (ci := 3) (v := .ref q_6) (ty := .array .int) (C := RX3) (T := TX3) (N := 14) hx hb hts iwwsX3_init_3 tyX3 tyX3_ok nmX3 hown hK hP hD hS 0 rfl rfl 1 (by decide) (hts (.fieldLink RX3 18 "NothingJudge$Program" "opening" "[I") fwwsX3_init_18) (fun _ h9 => h9) rfl hin rfl (by decide +kernel) rfl rfl (Nat.le_of_ble_eq_true rfl) dX3_init_20 (fun H locs hP hD hS => ?_)
  have hP : va_P (dC, dI) vwCl [(h0, .inr (3, [.ref q_3, .ref q_6, .null, .null, .null, .null, .null, .null, .null, .int 0, .int 0, .int 0, .int 0, .int 0])), (q_3, .inr (0, [.ref q_4, .int 0])), (q_6, .inl (cI, 8, .inl (fun _ => 0)))] H := hP
  have hD : va_D A [(h0, .inr (3, [.ref q_3, .ref q_6, .null, .null, .null, .null, .null, .null, .null, .int 0, .int 0, .int 0, .int 0, .int 0])), (q_3, .inr (0, [.ref q_4, .int 0])), (q_6, .inl (cI, 8, .inl (fun _ => 0)))] := hD
  refine lv_aload_n hx hb dX3_init_23 rfl (lv_at hl 0 rfl) ?_
  refine lv_bipush (v := 8) hx hb dX3_init_24 (by decide) ?_
  refine k_newa (atype := .int) hx hb (hts (.arrayClass .int) ac_int_wsX3_init) rfl hK 0 rfl (fun _ h9 => h9) (a0 := (8, .inl (fun _ => 0))) (N' := 8) hP hD hS hA (fun _ => rfl) (by decide) (by decide) (by decide) (Nat.le_of_ble_eq_true rfl) (Nat.le_of_ble_eq_true rfl) dX3_init_26 (fun q_7 H hP hD hS => ?_)
  have hP : va_P (dC, dI) vwCl [(h0, .inr (3, [.ref q_3, .ref q_6, .null, .null, .null, .null, .null, .null, .null, .int 0, .int 0, .int 0, .int 0, .int 0])), (q_3, .inr (0, [.ref q_4, .int 0])), (q_6, .inl (cI, 8, .inl (fun _ => 0))), (q_7, .inl (cI, 8, .inl (fun _ => 0)))] H := hP
  have hD : va_D A [(h0, .inr (3, [.ref q_3, .ref q_6, .null, .null, .null, .null, .null, .null, .null, .int 0, .int 0, .int 0, .int 0, .int 0])), (q_3, .inr (0, [.ref q_4, .int 0])), (q_6, .inl (cI, 8, .inl (fun _ => 0))), (q_7, .inl (cI, 8, .inl (fun _ => 0)))] := hD
  refine W.widen (k := 4) (n := 3666) (Nat.le_of_ble_eq_true rfl) (Nat.le_of_ble_eq_true rfl) ?_
  refine va_putF (D := (dC, dI)) (ci := 3) (v := .ref q_7) (ty := .array .int) (C := RX3) (T := TX3) (N := 14) hx hb hts iwwsX3_init_3 tyX3 tyX3_ok nmX3 hown hK hP hD hS 0 rfl rfl 2 (by decide) (hts (.fieldLink RX3 22 "NothingJudge$Program" "arity" "[I") fwwsX3_init_22) (fun _ h9 => h9) rfl hin rfl (by decide +kernel) rfl rfl (Nat.le_of_ble_eq_true rfl) dX3_init_28 (fun H locs hP hD hS => ?_)
  have hP : va_P (dC, dI) vwCl [(h0, .inr (3, [.ref q_3, .ref q_6, .ref q_7, .null, .null, .null, .null, .null, .null, .int 0, .int 0, .int 0, .int 0, .int 0])), (q_3, .inr (0, [.ref q_4, .int 0])), (q_6, .inl (cI, 8, .inl (fun _ => 0))), (q_7, .inl (cI, 8, .inl (fun _ => 0)))] H := hP
  have hD : va_D A [(h0, .inr (3, [.ref q_3, .ref q_6, .ref q_7, .null, .null, .null, .null, .null, .null, .int 0, .int 0, .int 0, .int 0, .int 0])), (q_3, .inr (0, [.ref q_4, .int 0])), (q_6, .inl (cI, 8, .inl (fun _ => 0))), (q_7, .inl (cI, 8, .inl (fun _ => 0)))] := hD
  refine lv_aload_n hx hb dX3_init_31 rfl (lv_at hl 0 rfl) ?_
  refine lv_bipush (v := 32) hx hb dX3_init_32 (by decide) ?_
  refine k_newa (atype := .int) hx hb (hts (.arrayClass .int) ac_int_wsX3_init) rfl hK 0 rfl (fun _ h9 => h9) (a0 := (32, .inl (fun _ => 0))) (N' := 32) hP hD hS hA (fun _ => rfl) (by decide) (by decide) (by decide) (Nat.le_of_ble_eq_true rfl) (Nat.le_of_ble_eq_true rfl) dX3_init_34 (fun q_8 H hP hD hS => ?_)
  have hP : va_P (dC, dI) vwCl [(h0, .inr (3, [.ref q_3, .ref q_6, .ref q_7, .null, .null, .null, .null, .null, .null, .int 0, .int 0, .int 0, .int 0, .int 0])), (q_3, .inr (0, [.ref q_4, .int 0])), (q_6, .inl (cI, 8, .inl (fun _ => 0))), (q_7, .inl (cI, 8, .inl (fun _ => 0))), (q_8, .inl (cI, 32, .inl (fun _ => 0)))] H := hP
  have hD : va_D A [(h0, .inr (3, [.ref q_3, .ref q_6, .ref q_7, .null, .null, .null, .null, .null, .null, .int 0, .int 0, .int 0, .int 0, .int 0])), (q_3, .inr (0, [.ref q_4, .int 0])), (q_6, .inl (cI, 8, .inl (fun _ => 0))), (q_7, .inl (cI, 8, .inl (fun _ => 0))), (q_8, .inl (cI, 32, .inl (fun _ => 0)))] := hD
  refine W.widen (k := 5) (n := 3698) (Nat.le_of_ble_eq_true rfl) (Nat.le_of_ble_eq_true rfl) ?_
  refine va_putF (D := (dC, dI)) (ci := 3) (v := .ref q_8) (ty := .array .int) (C := RX3) (T := TX3) (N := 14) hx hb hts iwwsX3_init_3 tyX3 tyX3_ok nmX3 hown hK hP hD hS 0 rfl rfl 3 (by decide) (hts (.fieldLink RX3 25 "NothingJudge$Program" "parameters" "[I") fwwsX3_init_25) (fun _ h9 => h9) rfl hin rfl (by decide +kernel) rfl rfl (Nat.le_of_ble_eq_true rfl) dX3_init_36 (fun H locs hP hD hS => ?_)
  have hP : va_P (dC, dI) vwCl [(h0, .inr (3, [.ref q_3, .ref q_6, .ref q_7, .ref q_8, .null, .null, .null, .null, .null, .int 0, .int 0, .int 0, .int 0, .int 0])), (q_3, .inr (0, [.ref q_4, .int 0])), (q_6, .inl (cI, 8, .inl (fun _ => 0))), (q_7, .inl (cI, 8, .inl (fun _ => 0))), (q_8, .inl (cI, 32, .inl (fun _ => 0)))] H := hP
  have hD : va_D A [(h0, .inr (3, [.ref q_3, .ref q_6, .ref q_7, .ref q_8, .null, .null, .null, .null, .null, .int 0, .int 0, .int 0, .int 0, .int 0])), (q_3, .inr (0, [.ref q_4, .int 0])), (q_6, .inl (cI, 8, .inl (fun _ => 0))), (q_7, .inl (cI, 8, .inl (fun _ => 0))), (q_8, .inl (cI, 32, .inl (fun _ => 0)))] := hD
  refine lv_aload_n hx hb dX3_init_39 rfl (lv_at hl 0 rfl) ?_
  refine lv_bipush (v := 40) hx hb dX3_init_40 (by decide) ?_
  refine k_newa (atype := .int) hx hb (hts (.arrayClass .int) ac_int_wsX3_init) rfl hK 0 rfl (fun _ h9 => h9) (a0 := (40, .inl (fun _ => 0))) (N' := 40) hP hD hS hA (fun _ => rfl) (by decide) (by decide) (by decide) (Nat.le_of_ble_eq_true rfl) (Nat.le_of_ble_eq_true rfl) dX3_init_42 (fun q_9 H hP hD hS => ?_)
  have hP : va_P (dC, dI) vwCl [(h0, .inr (3, [.ref q_3, .ref q_6, .ref q_7, .ref q_8, .null, .null, .null, .null, .null, .int 0, .int 0, .int 0, .int 0, .int 0])), (q_3, .inr (0, [.ref q_4, .int 0])), (q_6, .inl (cI, 8, .inl (fun _ => 0))), (q_7, .inl (cI, 8, .inl (fun _ => 0))), (q_8, .inl (cI, 32, .inl (fun _ => 0))), (q_9, .inl (cI, 40, .inl (fun _ => 0)))] H := hP
  have hD : va_D A [(h0, .inr (3, [.ref q_3, .ref q_6, .ref q_7, .ref q_8, .null, .null, .null, .null, .null, .int 0, .int 0, .int 0, .int 0, .int 0])), (q_3, .inr (0, [.ref q_4, .int 0])), (q_6, .inl (cI, 8, .inl (fun _ => 0))), (q_7, .inl (cI, 8, .inl (fun _ => 0))), (q_8, .inl (cI, 32, .inl (fun _ => 0))), (q_9, .inl (cI, 40, .inl (fun _ => 0)))] := hD
  refine W.widen (k := 6) (n := 3738) (Nat.le_of_ble_eq_true rfl) (Nat.le_of_ble_eq_true rfl) ?_
  refine va_putF (D := (dC, dI)) (ci := 3) (v := .ref q_9) (ty := .array .int) (C := RX3) (T := TX3) (N := 14) hx hb hts iwwsX3_init_3 tyX3 tyX3_ok nmX3 hown hK hP hD hS 0 rfl rfl 4 (by decide) (hts (.fieldLink RX3 28 "NothingJudge$Program" "useOwner" "[I") fwwsX3_init_28) (fun _ h9 => h9) rfl hin rfl (by decide +kernel) rfl rfl (Nat.le_of_ble_eq_true rfl) dX3_init_44 (fun H locs hP hD hS => ?_)
  have hP : va_P (dC, dI) vwCl [(h0, .inr (3, [.ref q_3, .ref q_6, .ref q_7, .ref q_8, .ref q_9, .null, .null, .null, .null, .int 0, .int 0, .int 0, .int 0, .int 0])), (q_3, .inr (0, [.ref q_4, .int 0])), (q_6, .inl (cI, 8, .inl (fun _ => 0))), (q_7, .inl (cI, 8, .inl (fun _ => 0))), (q_8, .inl (cI, 32, .inl (fun _ => 0))), (q_9, .inl (cI, 40, .inl (fun _ => 0)))] H := hP
  have hD : va_D A [(h0, .inr (3, [.ref q_3, .ref q_6, .ref q_7, .ref q_8, .ref q_9, .null, .null, .null, .null, .int 0, .int 0, .int 0, .int 0, .int 0])), (q_3, .inr (0, [.ref q_4, .int 0])), (q_6, .inl (cI, 8, .inl (fun _ => 0))), (q_7, .inl (cI, 8, .inl (fun _ => 0))), (q_8, .inl (cI, 32, .inl (fun _ => 0))), (q_9, .inl (cI, 40, .inl (fun _ => 0)))] := hD
  refine lv_aload_n hx hb dX3_init_47 rfl (lv_at hl 0 rfl) ?_
  refine lv_bipush (v := 40) hx hb dX3_init_48 (by decide) ?_
  refine k_newa (atype := .int) hx hb (hts (.arrayClass .int) ac_int_wsX3_init) rfl hK 0 rfl (fun _ h9 => h9) (a0 := (40, .inl (fun _ => 0))) (N' := 40) hP hD hS hA (fun _ => rfl) (by decide) (by decide) (by decide) (Nat.le_of_ble_eq_true rfl) (Nat.le_of_ble_eq_true rfl) dX3_init_50 (fun q_10 H hP hD hS => ?_)
  have hP : va_P (dC, dI) vwCl [(h0, .inr (3, [.ref q_3, .ref q_6, .ref q_7, .ref q_8, .ref q_9, .null, .null, .null, .null, .int 0, .int 0, .int 0, .int 0, .int 0])), (q_3, .inr (0, [.ref q_4, .int 0])), (q_6, .inl (cI, 8, .inl (fun _ => 0))), (q_7, .inl (cI, 8, .inl (fun _ => 0))), (q_8, .inl (cI, 32, .inl (fun _ => 0))), (q_9, .inl (cI, 40, .inl (fun _ => 0))), (q_10, .inl (cI, 40, .inl (fun _ => 0)))] H := hP
  have hD : va_D A [(h0, .inr (3, [.ref q_3, .ref q_6, .ref q_7, .ref q_8, .ref q_9, .null, .null, .null, .null, .int 0, .int 0, .int 0, .int 0, .int 0])), (q_3, .inr (0, [.ref q_4, .int 0])), (q_6, .inl (cI, 8, .inl (fun _ => 0))), (q_7, .inl (cI, 8, .inl (fun _ => 0))), (q_8, .inl (cI, 32, .inl (fun _ => 0))), (q_9, .inl (cI, 40, .inl (fun _ => 0))), (q_10, .inl (cI, 40, .inl (fun _ => 0)))] := hD
  refine W.widen (k := 7) (n := 3778) (Nat.le_of_ble_eq_true rfl) (Nat.le_of_ble_eq_true rfl) ?_
  refine va_putF (D := (dC, dI)) (ci := 3) (v := .ref q_10) (ty := .array .int) (C := RX3) (T := TX3) (N := 14) hx hb hts iwwsX3_init_3 tyX3 tyX3_ok nmX3 hown hK hP hD hS 0 rfl rfl 5 (by decide) (hts (.fieldLink RX3 31 "NothingJudge$Program" "usePlace" "[I") fwwsX3_init_31) (fun _ h9 => h9) rfl hin rfl (by decide +kernel) rfl rfl (Nat.le_of_ble_eq_true rfl) dX3_init_52 (fun H locs hP hD hS => ?_)
  have hP : va_P (dC, dI) vwCl [(h0, .inr (3, [.ref q_3, .ref q_6, .ref q_7, .ref q_8, .ref q_9, .ref q_10, .null, .null, .null, .int 0, .int 0, .int 0, .int 0, .int 0])), (q_3, .inr (0, [.ref q_4, .int 0])), (q_6, .inl (cI, 8, .inl (fun _ => 0))), (q_7, .inl (cI, 8, .inl (fun _ => 0))), (q_8, .inl (cI, 32, .inl (fun _ => 0))), (q_9, .inl (cI, 40, .inl (fun _ => 0))), (q_10, .inl (cI, 40, .inl (fun _ => 0)))] H := hP
  have hD : va_D A [(h0, .inr (3, [.ref q_3, .ref q_6, .ref q_7, .ref q_8, .ref q_9, .ref q_10, .null, .null, .null, .int 0, .int 0, .int 0, .int 0, .int 0])), (q_3, .inr (0, [.ref q_4, .int 0])), (q_6, .inl (cI, 8, .inl (fun _ => 0))), (q_7, .inl (cI, 8, .inl (fun _ => 0))), (q_8, .inl (cI, 32, .inl (fun _ => 0))), (q_9, .inl (cI, 40, .inl (fun _ => 0))), (q_10, .inl (cI, 40, .inl (fun _ => 0)))] := hD
  refine lv_aload_n hx hb dX3_init_55 rfl (lv_at hl 0 rfl) ?_
  refine lv_bipush (v := 40) hx hb dX3_init_56 (by decide) ?_
  refine k_newa (atype := .int) hx hb (hts (.arrayClass .int) ac_int_wsX3_init) rfl hK 0 rfl (fun _ h9 => h9) (a0 := (40, .inl (fun _ => 0))) (N' := 40) hP hD hS hA (fun _ => rfl) (by decide) (by decide) (by decide) (Nat.le_of_ble_eq_true rfl) (Nat.le_of_ble_eq_true rfl) dX3_init_58 (fun q_11 H hP hD hS => ?_)
  have hP : va_P (dC, dI) vwCl [(h0, .inr (3, [.ref q_3, .ref q_6, .ref q_7, .ref q_8, .ref q_9, .ref q_10, .null, .null, .null, .int 0, .int 0, .int 0, .int 0, .int 0])), (q_3, .inr (0, [.ref q_4, .int 0])), (q_6, .inl (cI, 8, .inl (fun _ => 0))), (q_7, .inl (cI, 8, .inl (fun _ => 0))), (q_8, .inl (cI, 32, .inl (fun _ => 0))), (q_9, .inl (cI, 40, .inl (fun _ => 0))), (q_10, .inl (cI, 40, .inl (fun _ => 0))), (q_11, .inl (cI, 40, .inl (fun _ => 0)))] H := hP
  have hD : va_D A [(h0, .inr (3, [.ref q_3, .ref q_6, .ref q_7, .ref q_8, .ref q_9, .ref q_10, .null, .null, .null, .int 0, .int 0, .int 0, .int 0, .int 0])), (q_3, .inr (0, [.ref q_4, .int 0])), (q_6, .inl (cI, 8, .inl (fun _ => 0))), (q_7, .inl (cI, 8, .inl (fun _ => 0))), (q_8, .inl (cI, 32, .inl (fun _ => 0))), (q_9, .inl (cI, 40, .inl (fun _ => 0))), (q_10, .inl (cI, 40, .inl (fun _ => 0))), (q_11, .inl (cI, 40, .inl (fun _ => 0)))] := hD
  refine W.widen (k := 8) (n := 3818) (Nat.le_of_ble_eq_true rfl) (Nat.le_of_ble_eq_true rfl) ?_
  refine va_putF (D := (dC, dI)) (ci := 3) (v := .ref q_11) (ty := .array .int) (C := RX3) (T := TX3) (N := 14) hx hb hts iwwsX3_init_3 tyX3 tyX3_ok nmX3 hown hK hP hD hS 0 rfl rfl 6 (by decide) (hts (.fieldLink RX3 34 "NothingJudge$Program" "useName" "[I") fwwsX3_init_34) (fun _ h9 => h9) rfl hin rfl (by decide +kernel) rfl rfl (Nat.le_of_ble_eq_true rfl) dX3_init_60 (fun H locs hP hD hS => ?_)
  have hP : va_P (dC, dI) vwCl [(h0, .inr (3, [.ref q_3, .ref q_6, .ref q_7, .ref q_8, .ref q_9, .ref q_10, .ref q_11, .null, .null, .int 0, .int 0, .int 0, .int 0, .int 0])), (q_3, .inr (0, [.ref q_4, .int 0])), (q_6, .inl (cI, 8, .inl (fun _ => 0))), (q_7, .inl (cI, 8, .inl (fun _ => 0))), (q_8, .inl (cI, 32, .inl (fun _ => 0))), (q_9, .inl (cI, 40, .inl (fun _ => 0))), (q_10, .inl (cI, 40, .inl (fun _ => 0))), (q_11, .inl (cI, 40, .inl (fun _ => 0)))] H := hP
  have hD : va_D A [(h0, .inr (3, [.ref q_3, .ref q_6, .ref q_7, .ref q_8, .ref q_9, .ref q_10, .ref q_11, .null, .null, .int 0, .int 0, .int 0, .int 0, .int 0])), (q_3, .inr (0, [.ref q_4, .int 0])), (q_6, .inl (cI, 8, .inl (fun _ => 0))), (q_7, .inl (cI, 8, .inl (fun _ => 0))), (q_8, .inl (cI, 32, .inl (fun _ => 0))), (q_9, .inl (cI, 40, .inl (fun _ => 0))), (q_10, .inl (cI, 40, .inl (fun _ => 0))), (q_11, .inl (cI, 40, .inl (fun _ => 0)))] := hD
  refine lv_aload_n hx hb dX3_init_63 rfl (lv_at hl 0 rfl) ?_
  refine lv_bipush (v := 24) hx hb dX3_init_64 (by decide) ?_
  refine k_newa (atype := .int) hx hb (hts (.arrayClass .int) ac_int_wsX3_init) rfl hK 0 rfl (fun _ h9 => h9) (a0 := (24, .inl (fun _ => 0))) (N' := 24) hP hD hS hA (fun _ => rfl) (by decide) (by decide) (by decide) (Nat.le_of_ble_eq_true rfl) (Nat.le_of_ble_eq_true rfl) dX3_init_66 (fun q_12 H hP hD hS => ?_)
  have hP : va_P (dC, dI) vwCl [(h0, .inr (3, [.ref q_3, .ref q_6, .ref q_7, .ref q_8, .ref q_9, .ref q_10, .ref q_11, .null, .null, .int 0, .int 0, .int 0, .int 0, .int 0])), (q_3, .inr (0, [.ref q_4, .int 0])), (q_6, .inl (cI, 8, .inl (fun _ => 0))), (q_7, .inl (cI, 8, .inl (fun _ => 0))), (q_8, .inl (cI, 32, .inl (fun _ => 0))), (q_9, .inl (cI, 40, .inl (fun _ => 0))), (q_10, .inl (cI, 40, .inl (fun _ => 0))), (q_11, .inl (cI, 40, .inl (fun _ => 0))), (q_12, .inl (cI, 24, .inl (fun _ => 0)))] H := hP
  have hD : va_D A [(h0, .inr (3, [.ref q_3, .ref q_6, .ref q_7, .ref q_8, .ref q_9, .ref q_10, .ref q_11, .null, .null, .int 0, .int 0, .int 0, .int 0, .int 0])), (q_3, .inr (0, [.ref q_4, .int 0])), (q_6, .inl (cI, 8, .inl (fun _ => 0))), (q_7, .inl (cI, 8, .inl (fun _ => 0))), (q_8, .inl (cI, 32, .inl (fun _ => 0))), (q_9, .inl (cI, 40, .inl (fun _ => 0))), (q_10, .inl (cI, 40, .inl (fun _ => 0))), (q_11, .inl (cI, 40, .inl (fun _ => 0))), (q_12, .inl (cI, 24, .inl (fun _ => 0)))] := hD
  refine W.widen (k := 9) (n := 3842) (Nat.le_of_ble_eq_true rfl) (Nat.le_of_ble_eq_true rfl) ?_
  refine va_putF (D := (dC, dI)) (ci := 3) (v := .ref q_12) (ty := .array .int) (C := RX3) (T := TX3) (N := 14) hx hb hts iwwsX3_init_3 tyX3 tyX3_ok nmX3 hown hK hP hD hS 0 rfl rfl 7 (by decide) (hts (.fieldLink RX3 37 "NothingJudge$Program" "testOwner" "[I") fwwsX3_init_37) (fun _ h9 => h9) rfl hin rfl (by decide +kernel) rfl rfl (Nat.le_of_ble_eq_true rfl) dX3_init_68 (fun H locs hP hD hS => ?_)
  have hP : va_P (dC, dI) vwCl [(h0, .inr (3, [.ref q_3, .ref q_6, .ref q_7, .ref q_8, .ref q_9, .ref q_10, .ref q_11, .ref q_12, .null, .int 0, .int 0, .int 0, .int 0, .int 0])), (q_3, .inr (0, [.ref q_4, .int 0])), (q_6, .inl (cI, 8, .inl (fun _ => 0))), (q_7, .inl (cI, 8, .inl (fun _ => 0))), (q_8, .inl (cI, 32, .inl (fun _ => 0))), (q_9, .inl (cI, 40, .inl (fun _ => 0))), (q_10, .inl (cI, 40, .inl (fun _ => 0))), (q_11, .inl (cI, 40, .inl (fun _ => 0))), (q_12, .inl (cI, 24, .inl (fun _ => 0)))] H := hP
  have hD : va_D A [(h0, .inr (3, [.ref q_3, .ref q_6, .ref q_7, .ref q_8, .ref q_9, .ref q_10, .ref q_11, .ref q_12, .null, .int 0, .int 0, .int 0, .int 0, .int 0])), (q_3, .inr (0, [.ref q_4, .int 0])), (q_6, .inl (cI, 8, .inl (fun _ => 0))), (q_7, .inl (cI, 8, .inl (fun _ => 0))), (q_8, .inl (cI, 32, .inl (fun _ => 0))), (q_9, .inl (cI, 40, .inl (fun _ => 0))), (q_10, .inl (cI, 40, .inl (fun _ => 0))), (q_11, .inl (cI, 40, .inl (fun _ => 0))), (q_12, .inl (cI, 24, .inl (fun _ => 0)))] := hD
  refine lv_aload_n hx hb dX3_init_71 rfl (lv_at hl 0 rfl) ?_
  refine lv_bipush (v := 24) hx hb dX3_init_72 (by decide) ?_
  refine k_newa (atype := .int) hx hb (hts (.arrayClass .int) ac_int_wsX3_init) rfl hK 0 rfl (fun _ h9 => h9) (a0 := (24, .inl (fun _ => 0))) (N' := 24) hP hD hS hA (fun _ => rfl) (by decide) (by decide) (by decide) (Nat.le_of_ble_eq_true rfl) (Nat.le_of_ble_eq_true rfl) dX3_init_74 (fun q_13 H hP hD hS => ?_)
  have hP : va_P (dC, dI) vwCl [(h0, .inr (3, [.ref q_3, .ref q_6, .ref q_7, .ref q_8, .ref q_9, .ref q_10, .ref q_11, .ref q_12, .null, .int 0, .int 0, .int 0, .int 0, .int 0])), (q_3, .inr (0, [.ref q_4, .int 0])), (q_6, .inl (cI, 8, .inl (fun _ => 0))), (q_7, .inl (cI, 8, .inl (fun _ => 0))), (q_8, .inl (cI, 32, .inl (fun _ => 0))), (q_9, .inl (cI, 40, .inl (fun _ => 0))), (q_10, .inl (cI, 40, .inl (fun _ => 0))), (q_11, .inl (cI, 40, .inl (fun _ => 0))), (q_12, .inl (cI, 24, .inl (fun _ => 0))), (q_13, .inl (cI, 24, .inl (fun _ => 0)))] H := hP
  have hD : va_D A [(h0, .inr (3, [.ref q_3, .ref q_6, .ref q_7, .ref q_8, .ref q_9, .ref q_10, .ref q_11, .ref q_12, .null, .int 0, .int 0, .int 0, .int 0, .int 0])), (q_3, .inr (0, [.ref q_4, .int 0])), (q_6, .inl (cI, 8, .inl (fun _ => 0))), (q_7, .inl (cI, 8, .inl (fun _ => 0))), (q_8, .inl (cI, 32, .inl (fun _ => 0))), (q_9, .inl (cI, 40, .inl (fun _ => 0))), (q_10, .inl (cI, 40, .inl (fun _ => 0))), (q_11, .inl (cI, 40, .inl (fun _ => 0))), (q_12, .inl (cI, 24, .inl (fun _ => 0))), (q_13, .inl (cI, 24, .inl (fun _ => 0)))] := hD
  refine W.widen (k := 10) (n := 3866) (Nat.le_of_ble_eq_true rfl) (Nat.le_of_ble_eq_true rfl) ?_
  refine va_putF (D := (dC, dI)) (ci := 3) (v := .ref q_13) (ty := .array .int) (C := RX3) (T := TX3) (N := 14) hx hb hts iwwsX3_init_3 tyX3 tyX3_ok nmX3 hown hK hP hD hS 0 rfl rfl 8 (by decide) (hts (.fieldLink RX3 40 "NothingJudge$Program" "testPlace" "[I") fwwsX3_init_40) (fun _ h9 => h9) rfl hin rfl (by decide +kernel) rfl rfl (Nat.le_of_ble_eq_true rfl) dX3_init_76 (fun H locs hP hD hS => ?_)
  have hP : va_P (dC, dI) vwCl [(h0, .inr (3, [.ref q_3, .ref q_6, .ref q_7, .ref q_8, .ref q_9, .ref q_10, .ref q_11, .ref q_12, .ref q_13, .int 0, .int 0, .int 0, .int 0, .int 0])), (q_3, .inr (0, [.ref q_4, .int 0])), (q_6, .inl (cI, 8, .inl (fun _ => 0))), (q_7, .inl (cI, 8, .inl (fun _ => 0))), (q_8, .inl (cI, 32, .inl (fun _ => 0))), (q_9, .inl (cI, 40, .inl (fun _ => 0))), (q_10, .inl (cI, 40, .inl (fun _ => 0))), (q_11, .inl (cI, 40, .inl (fun _ => 0))), (q_12, .inl (cI, 24, .inl (fun _ => 0))), (q_13, .inl (cI, 24, .inl (fun _ => 0)))] H := hP
  have hD : va_D A [(h0, .inr (3, [.ref q_3, .ref q_6, .ref q_7, .ref q_8, .ref q_9, .ref q_10, .ref q_11, .ref q_12, .ref q_13, .int 0, .int 0, .int 0, .int 0, .int 0])), (q_3, .inr (0, [.ref q_4, .int 0])), (q_6, .inl (cI, 8, .inl (fun _ => 0))), (q_7, .inl (cI, 8, .inl (fun _ => 0))), (q_8, .inl (cI, 32, .inl (fun _ => 0))), (q_9, .inl (cI, 40, .inl (fun _ => 0))), (q_10, .inl (cI, 40, .inl (fun _ => 0))), (q_11, .inl (cI, 40, .inl (fun _ => 0))), (q_12, .inl (cI, 24, .inl (fun _ => 0))), (q_13, .inl (cI, 24, .inl (fun _ => 0)))] := hD
  refine lv_aload_n hx hb dX3_init_79 rfl (lv_at hl 0 rfl) ?_
  refine lv_iconst (v := (-1)) hx hb dX3_init_80 (by decide) ?_
  refine va_put (D := (dC, dI)) (ci := 3) (v := .int (-1)) (ty := .int) (C := RX3) (T := TX3) (N := 14) hx hb hts iwwsX3_init_3 tyX3 tyX3_ok nmX3 hown hK hP hD hS 0 rfl rfl 13 (by decide) (hts (.fieldLink RX3 43 "NothingJudge$Program" "first" "I") fwwsX3_init_43) (fun _ h9 => h9) rfl (by decide +kernel) rfl rfl (Nat.le_of_ble_eq_true rfl) dX3_init_81 (fun H locs hP hD hS => ?_)
  have hP : va_P (dC, dI) vwCl [(h0, .inr (3, [.ref q_3, .ref q_6, .ref q_7, .ref q_8, .ref q_9, .ref q_10, .ref q_11, .ref q_12, .ref q_13, .int 0, .int 0, .int 0, .int 0, .int (-1)])), (q_3, .inr (0, [.ref q_4, .int 0])), (q_6, .inl (cI, 8, .inl (fun _ => 0))), (q_7, .inl (cI, 8, .inl (fun _ => 0))), (q_8, .inl (cI, 32, .inl (fun _ => 0))), (q_9, .inl (cI, 40, .inl (fun _ => 0))), (q_10, .inl (cI, 40, .inl (fun _ => 0))), (q_11, .inl (cI, 40, .inl (fun _ => 0))), (q_12, .inl (cI, 24, .inl (fun _ => 0))), (q_13, .inl (cI, 24, .inl (fun _ => 0)))] H := hP
  have hD : va_D A [(h0, .inr (3, [.ref q_3, .ref q_6, .ref q_7, .ref q_8, .ref q_9, .ref q_10, .ref q_11, .ref q_12, .ref q_13, .int 0, .int 0, .int 0, .int 0, .int (-1)])), (q_3, .inr (0, [.ref q_4, .int 0])), (q_6, .inl (cI, 8, .inl (fun _ => 0))), (q_7, .inl (cI, 8, .inl (fun _ => 0))), (q_8, .inl (cI, 32, .inl (fun _ => 0))), (q_9, .inl (cI, 40, .inl (fun _ => 0))), (q_10, .inl (cI, 40, .inl (fun _ => 0))), (q_11, .inl (cI, 40, .inl (fun _ => 0))), (q_12, .inl (cI, 24, .inl (fun _ => 0))), (q_13, .inl (cI, 24, .inl (fun _ => 0)))] := hD
  have hP9 := hP.sub (ws' := [(h0, .inr (3, [.ref q_3, .ref q_6, .ref q_7, .ref q_8, .ref q_9, .ref q_10, .ref q_11, .ref q_12, .ref q_13, .int 0, .int 0, .int 0, .int 0, .int (-1)])), (q_3, .inr (0, [.ref q_4, .int 0]))]) [0, 1] rfl
  have hD9 := hD.sub (ws' := [(h0, .inr (3, [.ref q_3, .ref q_6, .ref q_7, .ref q_8, .ref q_9, .ref q_10, .ref q_11, .ref q_12, .ref q_13, .int 0, .int 0, .int 0, .int 0, .int (-1)])), (q_3, .inr (0, [.ref q_4, .int 0]))]) [0, 1] (by decide) rfl
  exact W.vret hx hb hr (fun t ht hW => ⟨⟨(), rfl, trivial, q_3, q_6, q_7, q_8, q_9, q_10, q_11, q_12, q_13, q_4, by rw [ht]; exact hP9, hD9⟩, hS.F ht⟩) hS.2.2 dX3_init_84

set_option maxHeartbeats 4000000 in
set_option maxRecDepth 100000 in
theorem c_X4_init (l : Launch) (dC : Nat → ClassId) (dI : Nat → Nat → Nat) (cI cB cL cZ : ClassId) (h0 : Nat) (tok : Nat) (g : Nat) (gc : Nat) (ga1 : Nat) (ga2 : Nat) (ga3 : Nat) (ga4 : Nat) (ga5 : Nat) (ga6 : Nat) (ga7 : Nat) (ga8 : Nat) (sz : Nat)  : Met l yX4_init wsX4_init ({ frames := 1, cells := 2, slots := 12, locals := 12 }) (cP (dC, dI) (kTy cI cB cL cZ) [.ref h0, .ref tok, .ref g] [(h0, .inr (4, [.null, .null, .null, .null, .null, .int 0, .int 0, .int 0, .int 0, .int 0])), (g, .inr (3, [.ref gc, .ref ga1, .ref ga2, .ref ga3, .ref ga4, .ref ga5, .ref ga6, .ref ga7, .ref ga8, .int 0, .int 0, .int 0, .int 0, .int (-1)]))] sz) (va_Qv (fun _ : Unit => True) (fun (_ : Unit) (t : State) => ∃ qz0 : Nat, ∃ qz1 : Nat, va_P (dC, dI) vwCl [(h0, .inr (4, [.ref tok, .ref qz0, .ref qz1, .ref g, .ref gc, .int 0, .int 0, .int 0, .int 0, .int (-1)])), (g, .inr (3, [.ref gc, .ref ga1, .ref ga2, .ref ga3, .ref ga4, .ref ga5, .ref ga6, .ref ga7, .ref ga8, .int 0, .int 0, .int 0, .int 0, .int (-1)]))] t.heap ∧ va_D (va_A [(h0, .inr (4, [.null, .null, .null, .null, .null, .int 0, .int 0, .int 0, .int 0, .int 0])), (g, .inr (3, [.ref gc, .ref ga1, .ref ga2, .ref ga3, .ref ga4, .ref ga5, .ref ga6, .ref ga7, .ref ga8, .int 0, .int 0, .int 0, .int 0, .int (-1)]))] sz) [(h0, .inr (4, [.ref tok, .ref qz0, .ref qz1, .ref g, .ref gc, .int 0, .int 0, .int 0, .int 0, .int (-1)])), (g, .inr (3, [.ref gc, .ref ga1, .ref ga2, .ref ga3, .ref ga4, .ref ga5, .ref ga6, .ref ga7, .ref ga8, .int 0, .int 0, .int 0, .int 0, .int (-1)]))]) (va_A [(h0, .inr (4, [.null, .null, .null, .null, .null, .int 0, .int 0, .int 0, .int 0, .int 0])), (g, .inr (3, [.ref gc, .ref ga1, .ref ga2, .ref ga3, .ref ga4, .ref ga5, .ref ga6, .ref ga7, .ref ga8, .int 0, .int 0, .int 0, .int 0, .int (-1)]))] sz)) 2 12 (va_A [(h0, .inr (4, [.null, .null, .null, .null, .null, .int 0, .int 0, .int 0, .int 0, .int 0])), (g, .inr (3, [.ref gc, .ref ga1, .ref ga2, .ref ga3, .ref ga4, .ref ga5, .ref ga6, .ref ga7, .ref ga8, .int 0, .int 0, .int 0, .int 0, .int (-1)]))] sz) := by
  refine Met.ofW (cc := cX4_init) (maxL := 3) (ret := none) (by decide) rfl ?_
  intro p e s m args below meth c s₁ B hml hv
  obtain ⟨rfl, hsz, hP, hK, hD0, hN⟩ := hv
  have hx := B.exec
  have hb := B.bytes
  have hr := B.returns
  have hts := atoms_spec (ws := wsX4_init) B.pre
  have hown : s.vm.findClass RX4 = some m.cls := findClass_of_methodNamed B.named
  have hlocks := B.notSynchronized
  have hin : meth.name = "<init>" := (name_of_methodNamed B.named B.method).1
  subst hsz
  have hD := hD0.self (sz := s.heap.size)
  generalize hAe : va_A [(h0, .inr (4, [.null, .null, .null, .null, .null, .int 0, .int 0, .int 0, .int 0, .int 0])), (g, .inr (3, [.ref gc, .ref ga1, .ref ga2, .ref ga3, .ref ga4, .ref ga5, .ref ga6, .ref ga7, .ref ga8, .int 0, .int 0, .int 0, .int 0, .int (-1)]))] s.heap.size = A at hD ⊢
  have hA : ∀ q : Nat, s.heap.size ≤ q → A q := fun q h => by rw [← hAe]; exact Or.inr h
  have hl := lv_entry ([.ref h0, .ref tok, .ref g]) (n := 3) (Nat.le_of_ble_eq_true rfl)
  rw [lg_entry_eq]
  generalize (lg_sl ([.ref h0, .ref tok, .ref g]) ++ List.replicate (3 - (lg_sl ([.ref h0, .ref tok, .ref g])).length) Slot.unset).toArray = ls at hl ⊢
  have hl : lv_has ls 3 [(0, .ref h0), (1, .ref tok), (2, .ref g)] := hl
  refine k_H (A := A) hP (fun H hP hS => ?_)
  have hP : va_P (dC, dI) vwCl [(h0, .inr (4, [.null, .null, .null, .null, .null, .int 0, .int 0, .int 0, .int 0, .int 0])), (g, .inr (3, [.ref gc, .ref ga1, .ref ga2, .ref ga3, .ref ga4, .ref ga5, .ref ga6, .ref ga7, .ref ga8, .int 0, .int 0, .int 0, .int 0, .int (-1)]))] H := hP
  have hD : va_D A [(h0, .inr (4, [.null, .null, .null, .null, .null, .int 0, .int 0, .int 0, .int 0, .int 0])), (g, .inr (3, [.ref gc, .ref ga1, .ref ga2, .ref ga3, .ref ga4, .ref ga5, .ref ga6, .ref ga7, .ref ga8, .int 0, .int 0, .int 0, .int 0, .int (-1)]))] := hD
  refine lv_aload_n hx hb dX4_init_0 rfl (lv_at hl 0 rfl) ?_
  refine W.objInit hx hb hown (hts (.methodLink RX4 3 objectInit) ol_wsX4_init) (hts (.instanceMethod objectInit) oi_wsX4_init) (hts (.code objectInit ⟨#[0xb1]⟩ 1 none) oc_wsX4_init) rfl (by rw [hml]; exact hl.1) rfl dX4_init_1 (Nat.le_of_ble_eq_true rfl) (Nat.le_of_ble_eq_true rfl) ?_
  refine W.eq (g2 := F0 m 4 ls []) rfl ?_
  refine lv_aload_n hx hb dX4_init_4 rfl (lv_at hl 0 rfl) ?_
  refine lv_bipush (v := 6) hx hb dX4_init_5 (by decide) ?_
  refine k_newa (atype := .int) hx hb (hts (.arrayClass .int) ac_int_wsX4_init) rfl hK 0 rfl (fun _ h9 => h9) (a0 := (6, .inl (fun _ => 0))) (N' := 6) hP hD hS hA (fun _ => rfl) (by decide) (by decide) (by decide) (Nat.le_of_ble_eq_true rfl) (Nat.le_of_ble_eq_true rfl) dX4_init_7 (fun q_14 H hP hD hS => ?_)
  have hP : va_P (dC, dI) vwCl [(h0, .inr (4, [.null, .null, .null, .null, .null, .int 0, .int 0, .int 0, .int 0, .int 0])), (g, .inr (3, [.ref gc, .ref ga1, .ref ga2, .ref ga3, .ref ga4, .ref ga5, .ref ga6, .ref ga7, .ref ga8, .int 0, .int 0, .int 0, .int 0, .int (-1)])), (q_14, .inl (cI, 6, .inl (fun _ => 0)))] H := hP
  have hD : va_D A [(h0, .inr (4, [.null, .null, .null, .null, .null, .int 0, .int 0, .int 0, .int 0, .int 0])), (g, .inr (3, [.ref gc, .ref ga1, .ref ga2, .ref ga3, .ref ga4, .ref ga5, .ref ga6, .ref ga7, .ref ga8, .int 0, .int 0, .int 0, .int 0, .int (-1)])), (q_14, .inl (cI, 6, .inl (fun _ => 0)))] := hD
  refine W.widen (k := 1) (n := 6) (Nat.le_of_ble_eq_true rfl) (Nat.le_of_ble_eq_true rfl) ?_
  refine va_putF (D := (dC, dI)) (ci := 4) (v := .ref q_14) (ty := .array .int) (C := RX4) (T := TX4) (N := 10) hx hb hts iwwsX4_init_4 tyX4 tyX4_ok nmX4 hown hK hP hD hS 0 rfl rfl 1 (by decide) (hts (.fieldLink RX4 9 "NothingJudge$Reader" "openKind" "[I") fwwsX4_init_9) (fun _ h9 => h9) rfl hin rfl (by decide +kernel) rfl rfl (Nat.le_of_ble_eq_true rfl) dX4_init_9 (fun H locs hP hD hS => ?_)
  have hP : va_P (dC, dI) vwCl [(h0, .inr (4, [.null, .ref q_14, .null, .null, .null, .int 0, .int 0, .int 0, .int 0, .int 0])), (g, .inr (3, [.ref gc, .ref ga1, .ref ga2, .ref ga3, .ref ga4, .ref ga5, .ref ga6, .ref ga7, .ref ga8, .int 0, .int 0, .int 0, .int 0, .int (-1)])), (q_14, .inl (cI, 6, .inl (fun _ => 0)))] H := hP
  have hD : va_D A [(h0, .inr (4, [.null, .ref q_14, .null, .null, .null, .int 0, .int 0, .int 0, .int 0, .int 0])), (g, .inr (3, [.ref gc, .ref ga1, .ref ga2, .ref ga3, .ref ga4, .ref ga5, .ref ga6, .ref ga7, .ref ga8, .int 0, .int 0, .int 0, .int 0, .int (-1)])), (q_14, .inl (cI, 6, .inl (fun _ => 0)))] := hD
  refine lv_aload_n hx hb dX4_init_12 rfl (lv_at hl 0 rfl) ?_
  refine lv_bipush (v := 6) hx hb dX4_init_13 (by decide) ?_
  refine k_newa (atype := .int) hx hb (hts (.arrayClass .int) ac_int_wsX4_init) rfl hK 0 rfl (fun _ h9 => h9) (a0 := (6, .inl (fun _ => 0))) (N' := 6) hP hD hS hA (fun _ => rfl) (by decide) (by decide) (by decide) (Nat.le_of_ble_eq_true rfl) (Nat.le_of_ble_eq_true rfl) dX4_init_15 (fun q_15 H hP hD hS => ?_)
  have hP : va_P (dC, dI) vwCl [(h0, .inr (4, [.null, .ref q_14, .null, .null, .null, .int 0, .int 0, .int 0, .int 0, .int 0])), (g, .inr (3, [.ref gc, .ref ga1, .ref ga2, .ref ga3, .ref ga4, .ref ga5, .ref ga6, .ref ga7, .ref ga8, .int 0, .int 0, .int 0, .int 0, .int (-1)])), (q_14, .inl (cI, 6, .inl (fun _ => 0))), (q_15, .inl (cI, 6, .inl (fun _ => 0)))] H := hP
  have hD : va_D A [(h0, .inr (4, [.null, .ref q_14, .null, .null, .null, .int 0, .int 0, .int 0, .int 0, .int 0])), (g, .inr (3, [.ref gc, .ref ga1, .ref ga2, .ref ga3, .ref ga4, .ref ga5, .ref ga6, .ref ga7, .ref ga8, .int 0, .int 0, .int 0, .int 0, .int (-1)])), (q_14, .inl (cI, 6, .inl (fun _ => 0))), (q_15, .inl (cI, 6, .inl (fun _ => 0)))] := hD
  refine W.widen (k := 2) (n := 12) (Nat.le_of_ble_eq_true rfl) (Nat.le_of_ble_eq_true rfl) ?_
  refine va_putF (D := (dC, dI)) (ci := 4) (v := .ref q_15) (ty := .array .int) (C := RX4) (T := TX4) (N := 10) hx hb hts iwwsX4_init_4 tyX4 tyX4_ok nmX4 hown hK hP hD hS 0 rfl rfl 2 (by decide) (hts (.fieldLink RX4 15 "NothingJudge$Reader" "openAt" "[I") fwwsX4_init_15) (fun _ h9 => h9) rfl hin rfl (by decide +kernel) rfl rfl (Nat.le_of_ble_eq_true rfl) dX4_init_17 (fun H locs hP hD hS => ?_)
  have hP : va_P (dC, dI) vwCl [(h0, .inr (4, [.null, .ref q_14, .ref q_15, .null, .null, .int 0, .int 0, .int 0, .int 0, .int 0])), (g, .inr (3, [.ref gc, .ref ga1, .ref ga2, .ref ga3, .ref ga4, .ref ga5, .ref ga6, .ref ga7, .ref ga8, .int 0, .int 0, .int 0, .int 0, .int (-1)])), (q_14, .inl (cI, 6, .inl (fun _ => 0))), (q_15, .inl (cI, 6, .inl (fun _ => 0)))] H := hP
  have hD : va_D A [(h0, .inr (4, [.null, .ref q_14, .ref q_15, .null, .null, .int 0, .int 0, .int 0, .int 0, .int 0])), (g, .inr (3, [.ref gc, .ref ga1, .ref ga2, .ref ga3, .ref ga4, .ref ga5, .ref ga6, .ref ga7, .ref ga8, .int 0, .int 0, .int 0, .int 0, .int (-1)])), (q_14, .inl (cI, 6, .inl (fun _ => 0))), (q_15, .inl (cI, 6, .inl (fun _ => 0)))] := hD
  refine lv_aload_n hx hb dX4_init_20 rfl (lv_at hl 0 rfl) ?_
  refine lv_iconst (v := (-1)) hx hb dX4_init_21 (by decide) ?_
  refine va_put (D := (dC, dI)) (ci := 4) (v := .int (-1)) (ty := .int) (C := RX4) (T := TX4) (N := 10) hx hb hts iwwsX4_init_4 tyX4 tyX4_ok nmX4 hown hK hP hD hS 0 rfl rfl 9 (by decide) (hts (.fieldLink RX4 18 "NothingJudge$Reader" "wrongPlace" "I") fwwsX4_init_18) (fun _ h9 => h9) rfl (by decide +kernel) rfl rfl (Nat.le_of_ble_eq_true rfl) dX4_init_22 (fun H locs hP hD hS => ?_)
  have hP : va_P (dC, dI) vwCl [(h0, .inr (4, [.null, .ref q_14, .ref q_15, .null, .null, .int 0, .int 0, .int 0, .int 0, .int (-1)])), (g, .inr (3, [.ref gc, .ref ga1, .ref ga2, .ref ga3, .ref ga4, .ref ga5, .ref ga6, .ref ga7, .ref ga8, .int 0, .int 0, .int 0, .int 0, .int (-1)])), (q_14, .inl (cI, 6, .inl (fun _ => 0))), (q_15, .inl (cI, 6, .inl (fun _ => 0)))] H := hP
  have hD : va_D A [(h0, .inr (4, [.null, .ref q_14, .ref q_15, .null, .null, .int 0, .int 0, .int 0, .int 0, .int (-1)])), (g, .inr (3, [.ref gc, .ref ga1, .ref ga2, .ref ga3, .ref ga4, .ref ga5, .ref ga6, .ref ga7, .ref ga8, .int 0, .int 0, .int 0, .int 0, .int (-1)])), (q_14, .inl (cI, 6, .inl (fun _ => 0))), (q_15, .inl (cI, 6, .inl (fun _ => 0)))] := hD
  refine lv_aload_n hx hb dX4_init_25 rfl (lv_at hl 0 rfl) ?_
  refine lv_aload_n hx hb dX4_init_26 rfl (lv_at hl 1 rfl) ?_
  refine va_putF (D := (dC, dI)) (ci := 4) (v := .ref tok) (ty := .object "NothingJudge$Tokens") (C := RX4) (T := TX4) (N := 10) hx hb hts iwwsX4_init_4 tyX4 tyX4_ok nmX4 hown hK hP hD hS 0 rfl rfl 0 (by decide) (hts (.fieldLink RX4 22 "NothingJudge$Reader" "tokens" "LNothingJudge$Tokens;") fwwsX4_init_22) (fun _ h9 => h9) rfl hin rfl (by decide +kernel) rfl rfl (Nat.le_of_ble_eq_true rfl) dX4_init_27 (fun H locs hP hD hS => ?_)
  have hP : va_P (dC, dI) vwCl [(h0, .inr (4, [.ref tok, .ref q_14, .ref q_15, .null, .null, .int 0, .int 0, .int 0, .int 0, .int (-1)])), (g, .inr (3, [.ref gc, .ref ga1, .ref ga2, .ref ga3, .ref ga4, .ref ga5, .ref ga6, .ref ga7, .ref ga8, .int 0, .int 0, .int 0, .int 0, .int (-1)])), (q_14, .inl (cI, 6, .inl (fun _ => 0))), (q_15, .inl (cI, 6, .inl (fun _ => 0)))] H := hP
  have hD : va_D A [(h0, .inr (4, [.ref tok, .ref q_14, .ref q_15, .null, .null, .int 0, .int 0, .int 0, .int 0, .int (-1)])), (g, .inr (3, [.ref gc, .ref ga1, .ref ga2, .ref ga3, .ref ga4, .ref ga5, .ref ga6, .ref ga7, .ref ga8, .int 0, .int 0, .int 0, .int 0, .int (-1)])), (q_14, .inl (cI, 6, .inl (fun _ => 0))), (q_15, .inl (cI, 6, .inl (fun _ => 0)))] := hD
  refine lv_aload_n hx hb dX4_init_30 rfl (lv_at hl 0 rfl) ?_
  refine lv_aload_n hx hb dX4_init_31 rfl (lv_at hl 2 rfl) ?_
  refine va_put (D := (dC, dI)) (ci := 4) (v := .ref g) (ty := .object "NothingJudge$Program") (C := RX4) (T := TX4) (N := 10) hx hb hts iwwsX4_init_4 tyX4 tyX4_ok nmX4 hown hK hP hD hS 0 rfl rfl 3 (by decide) (hts (.fieldLink RX4 26 "NothingJudge$Reader" "program" "LNothingJudge$Program;") fwwsX4_init_26) (fun _ h9 => h9) rfl (by decide +kernel) rfl rfl (Nat.le_of_ble_eq_true rfl) dX4_init_32 (fun H locs hP hD hS => ?_)
  have hP : va_P (dC, dI) vwCl [(h0, .inr (4, [.ref tok, .ref q_14, .ref q_15, .ref g, .null, .int 0, .int 0, .int 0, .int 0, .int (-1)])), (g, .inr (3, [.ref gc, .ref ga1, .ref ga2, .ref ga3, .ref ga4, .ref ga5, .ref ga6, .ref ga7, .ref ga8, .int 0, .int 0, .int 0, .int 0, .int (-1)])), (q_14, .inl (cI, 6, .inl (fun _ => 0))), (q_15, .inl (cI, 6, .inl (fun _ => 0)))] H := hP
  have hD : va_D A [(h0, .inr (4, [.ref tok, .ref q_14, .ref q_15, .ref g, .null, .int 0, .int 0, .int 0, .int 0, .int (-1)])), (g, .inr (3, [.ref gc, .ref ga1, .ref ga2, .ref ga3, .ref ga4, .ref ga5, .ref ga6, .ref ga7, .ref ga8, .int 0, .int 0, .int 0, .int 0, .int (-1)])), (q_14, .inl (cI, 6, .inl (fun _ => 0))), (q_15, .inl (cI, 6, .inl (fun _ => 0)))] := hD
  refine lv_aload_n hx hb dX4_init_35 rfl (lv_at hl 0 rfl) ?_
  refine lv_aload_n hx hb dX4_init_36 rfl (lv_at hl 2 rfl) ?_
  refine va_get (D := (dC, dI)) (ci := 3) (v := .ref gc) (C := RX3) (T := TX3) (N := 14) hx hb hts iwwsX4_init_3 hown hK hP 1 rfl rfl 0 (by decide) (hts (.fieldLink RX4 30 "NothingJudge$Program" "code" "LNothingJudge$Code;") fwwsX4_init_30) (fun _ h9 => h9) rfl dX4_init_37 ?_
  refine va_put (D := (dC, dI)) (ci := 4) (v := .ref gc) (ty := .object "NothingJudge$Code") (C := RX4) (T := TX4) (N := 10) hx hb hts iwwsX4_init_4 tyX4 tyX4_ok nmX4 hown hK hP hD hS 0 rfl rfl 4 (by decide) (hts (.fieldLink RX4 36 "NothingJudge$Reader" "code" "LNothingJudge$Code;") fwwsX4_init_36) (fun _ h9 => h9) rfl (by decide +kernel) rfl rfl (Nat.le_of_ble_eq_true rfl) dX4_init_40 (fun H locs hP hD hS => ?_)
  have hP : va_P (dC, dI) vwCl [(h0, .inr (4, [.ref tok, .ref q_14, .ref q_15, .ref g, .ref gc, .int 0, .int 0, .int 0, .int 0, .int (-1)])), (g, .inr (3, [.ref gc, .ref ga1, .ref ga2, .ref ga3, .ref ga4, .ref ga5, .ref ga6, .ref ga7, .ref ga8, .int 0, .int 0, .int 0, .int 0, .int (-1)])), (q_14, .inl (cI, 6, .inl (fun _ => 0))), (q_15, .inl (cI, 6, .inl (fun _ => 0)))] H := hP
  have hD : va_D A [(h0, .inr (4, [.ref tok, .ref q_14, .ref q_15, .ref g, .ref gc, .int 0, .int 0, .int 0, .int 0, .int (-1)])), (g, .inr (3, [.ref gc, .ref ga1, .ref ga2, .ref ga3, .ref ga4, .ref ga5, .ref ga6, .ref ga7, .ref ga8, .int 0, .int 0, .int 0, .int 0, .int (-1)])), (q_14, .inl (cI, 6, .inl (fun _ => 0))), (q_15, .inl (cI, 6, .inl (fun _ => 0)))] := hD
  have hP9 := hP.sub (ws' := [(h0, .inr (4, [.ref tok, .ref q_14, .ref q_15, .ref g, .ref gc, .int 0, .int 0, .int 0, .int 0, .int (-1)])), (g, .inr (3, [.ref gc, .ref ga1, .ref ga2, .ref ga3, .ref ga4, .ref ga5, .ref ga6, .ref ga7, .ref ga8, .int 0, .int 0, .int 0, .int 0, .int (-1)]))]) [0, 1] rfl
  have hD9 := hD.sub (ws' := [(h0, .inr (4, [.ref tok, .ref q_14, .ref q_15, .ref g, .ref gc, .int 0, .int 0, .int 0, .int 0, .int (-1)])), (g, .inr (3, [.ref gc, .ref ga1, .ref ga2, .ref ga3, .ref ga4, .ref ga5, .ref ga6, .ref ga7, .ref ga8, .int 0, .int 0, .int 0, .int 0, .int (-1)]))]) [0, 1] (by decide) rfl
  exact W.vret hx hb hr (fun t ht hW => ⟨⟨(), rfl, trivial, q_14, q_15, by rw [ht]; exact hP9, hD9⟩, hS.F ht⟩) hS.2.2 dX4_init_43

set_option maxHeartbeats 4000000 in
set_option maxRecDepth 100000 in
theorem c_X7_init (l : Launch) (dC : Nat → ClassId) (dI : Nat → Nat → Nat) (cI cB cL cZ : ClassId) (h0 : Nat) (g : Nat) (sz : Nat)  : Met l yX7_init wsX7_init ({ frames := 1, cells := 1, slots := 4, locals := 12 }) (cP (dC, dI) (kTy cI cB cL cZ) [.ref h0, .ref g] [(h0, .inr (6, [.null, .int 0, .null]))] sz) (va_Qv (fun _ : Unit => True) (fun (_ : Unit) (t : State) => ∃ qz0 : Nat, va_P (dC, dI) vwCl [(h0, .inr (6, [.ref g, .int (-1), .ref qz0])), (qz0, .inl (cI, 4, .inl (fun _ => 0)))] t.heap ∧ va_D (va_A [(h0, .inr (6, [.null, .int 0, .null]))] sz) [(h0, .inr (6, [.ref g, .int (-1), .ref qz0])), (qz0, .inl (cI, 4, .inl (fun _ => 0)))]) (va_A [(h0, .inr (6, [.null, .int 0, .null]))] sz)) 1 4 (va_A [(h0, .inr (6, [.null, .int 0, .null]))] sz) := by
  refine Met.ofW (cc := cX7_init) (maxL := 2) (ret := none) (by decide) rfl ?_
  intro p e s m args below meth c s₁ B hml hv
  obtain ⟨rfl, hsz, hP, hK, hD0, hN⟩ := hv
  have hx := B.exec
  have hb := B.bytes
  have hr := B.returns
  have hts := atoms_spec (ws := wsX7_init) B.pre
  have hown : s.vm.findClass RX7 = some m.cls := findClass_of_methodNamed B.named
  have hlocks := B.notSynchronized
  have hin : meth.name = "<init>" := (name_of_methodNamed B.named B.method).1
  subst hsz
  have hD := hD0.self (sz := s.heap.size)
  generalize hAe : va_A [(h0, .inr (6, [.null, .int 0, .null]))] s.heap.size = A at hD ⊢
  have hA : ∀ q : Nat, s.heap.size ≤ q → A q := fun q h => by rw [← hAe]; exact Or.inr h
  have hl := lv_entry ([.ref h0, .ref g]) (n := 2) (Nat.le_of_ble_eq_true rfl)
  rw [lg_entry_eq]
  generalize (lg_sl ([.ref h0, .ref g]) ++ List.replicate (2 - (lg_sl ([.ref h0, .ref g])).length) Slot.unset).toArray = ls at hl ⊢
  have hl : lv_has ls 2 [(0, .ref h0), (1, .ref g)] := hl
  refine k_H (A := A) hP (fun H hP hS => ?_)
  have hP : va_P (dC, dI) vwCl [(h0, .inr (6, [.null, .int 0, .null]))] H := hP
  have hD : va_D A [(h0, .inr (6, [.null, .int 0, .null]))] := hD
  refine lv_aload_n hx hb dX7_init_0 rfl (lv_at hl 0 rfl) ?_
  refine W.objInit hx hb hown (hts (.methodLink RX7 3 objectInit) ol_wsX7_init) (hts (.instanceMethod objectInit) oi_wsX7_init) (hts (.code objectInit ⟨#[0xb1]⟩ 1 none) oc_wsX7_init) rfl (by rw [hml]; exact hl.1) rfl dX7_init_1 (Nat.le_of_ble_eq_true rfl) (Nat.le_of_ble_eq_true rfl) ?_
  refine W.eq (g2 := F0 m 4 ls []) rfl ?_
  refine lv_aload_n hx hb dX7_init_4 rfl (lv_at hl 0 rfl) ?_
  refine lv_iconst (v := (-1)) hx hb dX7_init_5 (by decide) ?_
  refine va_put (D := (dC, dI)) (ci := 6) (v := .int (-1)) (ty := .int) (C := RX7) (T := TX7) (N := 3) hx hb hts iwwsX7_init_7 tyX7 tyX7_ok nmX7 hown hK hP hD hS 0 rfl rfl 1 (by decide) (hts (.fieldLink RX7 9 "NothingJudge$Scene" "start" "I") fwwsX7_init_9) (fun _ h9 => h9) rfl (by decide +kernel) rfl rfl (Nat.le_of_ble_eq_true rfl) dX7_init_6 (fun H locs hP hD hS => ?_)
  have hP : va_P (dC, dI) vwCl [(h0, .inr (6, [.null, .int (-1), .null]))] H := hP
  have hD : va_D A [(h0, .inr (6, [.null, .int (-1), .null]))] := hD
  refine lv_aload_n hx hb dX7_init_9 rfl (lv_at hl 0 rfl) ?_
  refine lv_iconst (v := 4) hx hb dX7_init_10 (by decide) ?_
  refine k_newa (atype := .int) hx hb (hts (.arrayClass .int) ac_int_wsX7_init) rfl hK 0 rfl (fun _ h9 => h9) (a0 := (4, .inl (fun _ => 0))) (N' := 4) hP hD hS hA (fun _ => rfl) (by decide) (by decide) (by decide) (Nat.le_of_ble_eq_true rfl) (Nat.le_of_ble_eq_true rfl) dX7_init_11 (fun q_16 H hP hD hS => ?_)
  have hP : va_P (dC, dI) vwCl [(h0, .inr (6, [.null, .int (-1), .null])), (q_16, .inl (cI, 4, .inl (fun _ => 0)))] H := hP
  have hD : va_D A [(h0, .inr (6, [.null, .int (-1), .null])), (q_16, .inl (cI, 4, .inl (fun _ => 0)))] := hD
  refine W.widen (k := 1) (n := 4) (Nat.le_of_ble_eq_true rfl) (Nat.le_of_ble_eq_true rfl) ?_
  refine va_putF (D := (dC, dI)) (ci := 6) (v := .ref q_16) (ty := .array .int) (C := RX7) (T := TX7) (N := 3) hx hb hts iwwsX7_init_7 tyX7 tyX7_ok nmX7 hown hK hP hD hS 0 rfl rfl 2 (by decide) (hts (.fieldLink RX7 15 "NothingJudge$Scene" "told" "[I") fwwsX7_init_15) (fun _ h9 => h9) rfl hin rfl (by decide +kernel) rfl rfl (Nat.le_of_ble_eq_true rfl) dX7_init_13 (fun H locs hP hD hS => ?_)
  have hP : va_P (dC, dI) vwCl [(h0, .inr (6, [.null, .int (-1), .ref q_16])), (q_16, .inl (cI, 4, .inl (fun _ => 0)))] H := hP
  have hD : va_D A [(h0, .inr (6, [.null, .int (-1), .ref q_16])), (q_16, .inl (cI, 4, .inl (fun _ => 0)))] := hD
  refine lv_aload_n hx hb dX7_init_16 rfl (lv_at hl 0 rfl) ?_
  refine lv_aload_n hx hb dX7_init_17 rfl (lv_at hl 1 rfl) ?_
  refine va_put (D := (dC, dI)) (ci := 6) (v := .ref g) (ty := .object "NothingJudge$Program") (C := RX7) (T := TX7) (N := 3) hx hb hts iwwsX7_init_7 tyX7 tyX7_ok nmX7 hown hK hP hD hS 0 rfl rfl 0 (by decide) (hts (.fieldLink RX7 19 "NothingJudge$Scene" "program" "LNothingJudge$Program;") fwwsX7_init_19) (fun _ h9 => h9) rfl (by decide +kernel) rfl rfl (Nat.le_of_ble_eq_true rfl) dX7_init_18 (fun H locs hP hD hS => ?_)
  have hP : va_P (dC, dI) vwCl [(h0, .inr (6, [.ref g, .int (-1), .ref q_16])), (q_16, .inl (cI, 4, .inl (fun _ => 0)))] H := hP
  have hD : va_D A [(h0, .inr (6, [.ref g, .int (-1), .ref q_16])), (q_16, .inl (cI, 4, .inl (fun _ => 0)))] := hD
  have hP9 := hP.sub (ws' := [(h0, .inr (6, [.ref g, .int (-1), .ref q_16])), (q_16, .inl (cI, 4, .inl (fun _ => 0)))]) [0, 1] rfl
  have hD9 := hD.sub (ws' := [(h0, .inr (6, [.ref g, .int (-1), .ref q_16])), (q_16, .inl (cI, 4, .inl (fun _ => 0)))]) [0, 1] (by decide) rfl
  exact W.vret hx hb hr (fun t ht hW => ⟨⟨(), rfl, trivial, q_16, by rw [ht]; exact hP9, hD9⟩, hS.F ht⟩) hS.2.2 dX7_init_21

set_option maxHeartbeats 4000000 in
set_option maxRecDepth 100000 in
theorem c_X1_init (l : Launch) (dC : Nat → ClassId) (dI : Nat → Nat → Nat) (cI cB cL cZ : ClassId) (h0 : Nat) (sc : Nat) (g : Nat) (td : Nat) (gc : Nat) (ga1 : Nat) (ga2 : Nat) (ga3 : Nat) (ga4 : Nat) (ga5 : Nat) (ga6 : Nat) (ga7 : Nat) (ga8 : Nat) (sz : Nat)  : Met l yX1_init wsX1_init ({ frames := 1, cells := 5, slots := 714, locals := 12 }) (cP (dC, dI) (kTy cI cB cL cZ) [.ref h0, .ref sc] [(h0, .inr (1, [.null, .null, .null, .null, .null, .null, .null, .null, .int 0, .int 0, .int 0, .int 0, .long 0, .long 0])), (sc, .inr (6, [.ref g, .int (-1), .ref td])), (g, .inr (3, [.ref gc, .ref ga1, .ref ga2, .ref ga3, .ref ga4, .ref ga5, .ref ga6, .ref ga7, .ref ga8, .int 0, .int 0, .int 0, .int 0, .int (-1)]))] sz) (va_Qv (fun _ : Unit => True) (fun (_ : Unit) (t : State) => ∃ qz0 : Nat, ∃ qz1 : Nat, ∃ qz2 : Nat, ∃ qz3 : Nat, ∃ qz4 : Nat, va_P (dC, dI) vwCl [(h0, .inr (1, [.ref sc, .ref qz0, .ref qz1, .ref qz2, .ref qz3, .ref qz4, .ref g, .ref gc, .int 1, .int 0, .int 0, .int 0, .long 0, .long 0])), (sc, .inr (6, [.ref g, .int (-1), .ref td])), (g, .inr (3, [.ref gc, .ref ga1, .ref ga2, .ref ga3, .ref ga4, .ref ga5, .ref ga6, .ref ga7, .ref ga8, .int 0, .int 0, .int 0, .int 0, .int (-1)])), (qz0, .inl (cL, 304, .inr (.inl (fun _ => 0)))), (qz1, .inl (cI, 304, .inl (fun _ => 0))), (qz2, .inl (cI, 42, .inl (fun _ => 0))), (qz3, .inl (cI, 40, .inl (fun _ => 0))), (qz4, .inl (cI, 24, .inl (fun _ => 0)))] t.heap ∧ va_D (va_A [(h0, .inr (1, [.null, .null, .null, .null, .null, .null, .null, .null, .int 0, .int 0, .int 0, .int 0, .long 0, .long 0])), (sc, .inr (6, [.ref g, .int (-1), .ref td])), (g, .inr (3, [.ref gc, .ref ga1, .ref ga2, .ref ga3, .ref ga4, .ref ga5, .ref ga6, .ref ga7, .ref ga8, .int 0, .int 0, .int 0, .int 0, .int (-1)]))] sz) [(h0, .inr (1, [.ref sc, .ref qz0, .ref qz1, .ref qz2, .ref qz3, .ref qz4, .ref g, .ref gc, .int 1, .int 0, .int 0, .int 0, .long 0, .long 0])), (sc, .inr (6, [.ref g, .int (-1), .ref td])), (g, .inr (3, [.ref gc, .ref ga1, .ref ga2, .ref ga3, .ref ga4, .ref ga5, .ref ga6, .ref ga7, .ref ga8, .int 0, .int 0, .int 0, .int 0, .int (-1)])), (qz0, .inl (cL, 304, .inr (.inl (fun _ => 0)))), (qz1, .inl (cI, 304, .inl (fun _ => 0))), (qz2, .inl (cI, 42, .inl (fun _ => 0))), (qz3, .inl (cI, 40, .inl (fun _ => 0))), (qz4, .inl (cI, 24, .inl (fun _ => 0)))]) (va_A [(h0, .inr (1, [.null, .null, .null, .null, .null, .null, .null, .null, .int 0, .int 0, .int 0, .int 0, .long 0, .long 0])), (sc, .inr (6, [.ref g, .int (-1), .ref td])), (g, .inr (3, [.ref gc, .ref ga1, .ref ga2, .ref ga3, .ref ga4, .ref ga5, .ref ga6, .ref ga7, .ref ga8, .int 0, .int 0, .int 0, .int 0, .int (-1)]))] sz)) 5 714 (va_A [(h0, .inr (1, [.null, .null, .null, .null, .null, .null, .null, .null, .int 0, .int 0, .int 0, .int 0, .long 0, .long 0])), (sc, .inr (6, [.ref g, .int (-1), .ref td])), (g, .inr (3, [.ref gc, .ref ga1, .ref ga2, .ref ga3, .ref ga4, .ref ga5, .ref ga6, .ref ga7, .ref ga8, .int 0, .int 0, .int 0, .int 0, .int (-1)]))] sz) := by
  refine Met.ofW (cc := cX1_init) (maxL := 2) (ret := none) (by decide) rfl ?_
  intro p e s m args below meth c s₁ B hml hv
  obtain ⟨rfl, hsz, hP, hK, hD0, hN⟩ := hv
  have hx := B.exec
  have hb := B.bytes
  have hr := B.returns
  have hts := atoms_spec (ws := wsX1_init) B.pre
  have hown : s.vm.findClass RX1 = some m.cls := findClass_of_methodNamed B.named
  have hlocks := B.notSynchronized
  have hin : meth.name = "<init>" := (name_of_methodNamed B.named B.method).1
  subst hsz
  have hD := hD0.self (sz := s.heap.size)
  generalize hAe : va_A [(h0, .inr (1, [.null, .null, .null, .null, .null, .null, .null, .null, .int 0, .int 0, .int 0, .int 0, .long 0, .long 0])), (sc, .inr (6, [.ref g, .int (-1), .ref td])), (g, .inr (3, [.ref gc, .ref ga1, .ref ga2, .ref ga3, .ref ga4, .ref ga5, .ref ga6, .ref ga7, .ref ga8, .int 0, .int 0, .int 0, .int 0, .int (-1)]))] s.heap.size = A at hD ⊢
  have hA : ∀ q : Nat, s.heap.size ≤ q → A q := fun q h => by rw [← hAe]; exact Or.inr h
  have hl := lv_entry ([.ref h0, .ref sc]) (n := 2) (Nat.le_of_ble_eq_true rfl)
  rw [lg_entry_eq]
  generalize (lg_sl ([.ref h0, .ref sc]) ++ List.replicate (2 - (lg_sl ([.ref h0, .ref sc])).length) Slot.unset).toArray = ls at hl ⊢
  have hl : lv_has ls 2 [(0, .ref h0), (1, .ref sc)] := hl
  refine k_H (A := A) hP (fun H hP hS => ?_)
  have hP : va_P (dC, dI) vwCl [(h0, .inr (1, [.null, .null, .null, .null, .null, .null, .null, .null, .int 0, .int 0, .int 0, .int 0, .long 0, .long 0])), (sc, .inr (6, [.ref g, .int (-1), .ref td])), (g, .inr (3, [.ref gc, .ref ga1, .ref ga2, .ref ga3, .ref ga4, .ref ga5, .ref ga6, .ref ga7, .ref ga8, .int 0, .int 0, .int 0, .int 0, .int (-1)]))] H := hP
  have hD : va_D A [(h0, .inr (1, [.null, .null, .null, .null, .null, .null, .null, .null, .int 0, .int 0, .int 0, .int 0, .long 0, .long 0])), (sc, .inr (6, [.ref g, .int (-1), .ref td])), (g, .inr (3, [.ref gc, .ref ga1, .ref ga2, .ref ga3, .ref ga4, .ref ga5, .ref ga6, .ref ga7, .ref ga8, .int 0, .int 0, .int 0, .int 0, .int (-1)]))] := hD
  refine lv_aload_n hx hb dX1_init_0 rfl (lv_at hl 0 rfl) ?_
  refine W.objInit hx hb hown (hts (.methodLink RX1 3 objectInit) ol_wsX1_init) (hts (.instanceMethod objectInit) oi_wsX1_init) (hts (.code objectInit ⟨#[0xb1]⟩ 1 none) oc_wsX1_init) rfl (by rw [hml]; exact hl.1) rfl dX1_init_1 (Nat.le_of_ble_eq_true rfl) (Nat.le_of_ble_eq_true rfl) ?_
  refine W.eq (g2 := F0 m 4 ls []) rfl ?_
  refine lv_aload_n hx hb dX1_init_4 rfl (lv_at hl 0 rfl) ?_
  refine lv_sipush (v := 304) hx hb dX1_init_5 (by decide) ?_
  refine k_newa (atype := .long) hx hb (hts (.arrayClass .long) ac_long_wsX1_init) rfl hK 2 rfl (fun _ h9 => h9) (a0 := (304, .inr (.inl (fun _ => 0)))) (N' := 304) hP hD hS hA (fun _ => rfl) (by decide) (by decide) (by decide) (Nat.le_of_ble_eq_true rfl) (Nat.le_of_ble_eq_true rfl) dX1_init_8 (fun q_17 H hP hD hS => ?_)
  have hP : va_P (dC, dI) vwCl [(h0, .inr (1, [.null, .null, .null, .null, .null, .null, .null, .null, .int 0, .int 0, .int 0, .int 0, .long 0, .long 0])), (sc, .inr (6, [.ref g, .int (-1), .ref td])), (g, .inr (3, [.ref gc, .ref ga1, .ref ga2, .ref ga3, .ref ga4, .ref ga5, .ref ga6, .ref ga7, .ref ga8, .int 0, .int 0, .int 0, .int 0, .int (-1)])), (q_17, .inl (cL, 304, .inr (.inl (fun _ => 0))))] H := hP
  have hD : va_D A [(h0, .inr (1, [.null, .null, .null, .null, .null, .null, .null, .null, .int 0, .int 0, .int 0, .int 0, .long 0, .long 0])), (sc, .inr (6, [.ref g, .int (-1), .ref td])), (g, .inr (3, [.ref gc, .ref ga1, .ref ga2, .ref ga3, .ref ga4, .ref ga5, .ref ga6, .ref ga7, .ref ga8, .int 0, .int 0, .int 0, .int 0, .int (-1)])), (q_17, .inl (cL, 304, .inr (.inl (fun _ => 0))))] := hD
  refine W.widen (k := 1) (n := 304) (Nat.le_of_ble_eq_true rfl) (Nat.le_of_ble_eq_true rfl) ?_
  refine va_putF (D := (dC, dI)) (ci := 1) (v := .ref q_17) (ty := .array .long) (C := RX1) (T := TX1) (N := 14) hx hb hts iwwsX1_init_1 tyX1 tyX1_ok nmX1 hown hK hP hD hS 0 rfl rfl 1 (by decide) (hts (.fieldLink RX1 9 "NothingJudge$Facts" "state" "[J") fwwsX1_init_9) (fun _ h9 => h9) rfl hin rfl (by decide +kernel) rfl rfl (Nat.le_of_ble_eq_true rfl) dX1_init_10 (fun H locs hP hD hS => ?_)
  have hP : va_P (dC, dI) vwCl [(h0, .inr (1, [.null, .ref q_17, .null, .null, .null, .null, .null, .null, .int 0, .int 0, .int 0, .int 0, .long 0, .long 0])), (sc, .inr (6, [.ref g, .int (-1), .ref td])), (g, .inr (3, [.ref gc, .ref ga1, .ref ga2, .ref ga3, .ref ga4, .ref ga5, .ref ga6, .ref ga7, .ref ga8, .int 0, .int 0, .int 0, .int 0, .int (-1)])), (q_17, .inl (cL, 304, .inr (.inl (fun _ => 0))))] H := hP
  have hD : va_D A [(h0, .inr (1, [.null, .ref q_17, .null, .null, .null, .null, .null, .null, .int 0, .int 0, .int 0, .int 0, .long 0, .long 0])), (sc, .inr (6, [.ref g, .int (-1), .ref td])), (g, .inr (3, [.ref gc, .ref ga1, .ref ga2, .ref ga3, .ref ga4, .ref ga5, .ref ga6, .ref ga7, .ref ga8, .int 0, .int 0, .int 0, .int 0, .int (-1)])), (q_17, .inl (cL, 304, .inr (.inl (fun _ => 0))))] := hD
  refine lv_aload_n hx hb dX1_init_13 rfl (lv_at hl 0 rfl) ?_
  refine lv_sipush (v := 304) hx hb dX1_init_14 (by decide) ?_
  refine k_newa (atype := .int) hx hb (hts (.arrayClass .int) ac_int_wsX1_init) rfl hK 0 rfl (fun _ h9 => h9) (a0 := (304, .inl (fun _ => 0))) (N' := 304) hP hD hS hA (fun _ => rfl) (by decide) (by decide) (by decide) (Nat.le_of_ble_eq_true rfl) (Nat.le_of_ble_eq_true rfl) dX1_init_17 (fun q_18 H hP hD hS => ?_)
  have hP : va_P (dC, dI) vwCl [(h0, .inr (1, [.null, .ref q_17, .null, .null, .null, .null, .null, .null, .int 0, .int 0, .int 0, .int 0, .long 0, .long 0])), (sc, .inr (6, [.ref g, .int (-1), .ref td])), (g, .inr (3, [.ref gc, .ref ga1, .ref ga2, .ref ga3, .ref ga4, .ref ga5, .ref ga6, .ref ga7, .ref ga8, .int 0, .int 0, .int 0, .int 0, .int (-1)])), (q_17, .inl (cL, 304, .inr (.inl (fun _ => 0)))), (q_18, .inl (cI, 304, .inl (fun _ => 0)))] H := hP
  have hD : va_D A [(h0, .inr (1, [.null, .ref q_17, .null, .null, .null, .null, .null, .null, .int 0, .int 0, .int 0, .int 0, .long 0, .long 0])), (sc, .inr (6, [.ref g, .int (-1), .ref td])), (g, .inr (3, [.ref gc, .ref ga1, .ref ga2, .ref ga3, .ref ga4, .ref ga5, .ref ga6, .ref ga7, .ref ga8, .int 0, .int 0, .int 0, .int 0, .int (-1)])), (q_17, .inl (cL, 304, .inr (.inl (fun _ => 0)))), (q_18, .inl (cI, 304, .inl (fun _ => 0)))] := hD
  refine W.widen (k := 2) (n := 608) (Nat.le_of_ble_eq_true rfl) (Nat.le_of_ble_eq_true rfl) ?_
  refine va_putF (D := (dC, dI)) (ci := 1) (v := .ref q_18) (ty := .array .int) (C := RX1) (T := TX1) (N := 14) hx hb hts iwwsX1_init_1 tyX1 tyX1_ok nmX1 hown hK hP hD hS 0 rfl rfl 2 (by decide) (hts (.fieldLink RX1 15 "NothingJudge$Facts" "seenAt" "[I") fwwsX1_init_15) (fun _ h9 => h9) rfl hin rfl (by decide +kernel) rfl rfl (Nat.le_of_ble_eq_true rfl) dX1_init_19 (fun H locs hP hD hS => ?_)
  have hP : va_P (dC, dI) vwCl [(h0, .inr (1, [.null, .ref q_17, .ref q_18, .null, .null, .null, .null, .null, .int 0, .int 0, .int 0, .int 0, .long 0, .long 0])), (sc, .inr (6, [.ref g, .int (-1), .ref td])), (g, .inr (3, [.ref gc, .ref ga1, .ref ga2, .ref ga3, .ref ga4, .ref ga5, .ref ga6, .ref ga7, .ref ga8, .int 0, .int 0, .int 0, .int 0, .int (-1)])), (q_17, .inl (cL, 304, .inr (.inl (fun _ => 0)))), (q_18, .inl (cI, 304, .inl (fun _ => 0)))] H := hP
  have hD : va_D A [(h0, .inr (1, [.null, .ref q_17, .ref q_18, .null, .null, .null, .null, .null, .int 0, .int 0, .int 0, .int 0, .long 0, .long 0])), (sc, .inr (6, [.ref g, .int (-1), .ref td])), (g, .inr (3, [.ref gc, .ref ga1, .ref ga2, .ref ga3, .ref ga4, .ref ga5, .ref ga6, .ref ga7, .ref ga8, .int 0, .int 0, .int 0, .int 0, .int (-1)])), (q_17, .inl (cL, 304, .inr (.inl (fun _ => 0)))), (q_18, .inl (cI, 304, .inl (fun _ => 0)))] := hD
  refine lv_aload_n hx hb dX1_init_22 rfl (lv_at hl 0 rfl) ?_
  refine lv_bipush (v := 42) hx hb dX1_init_23 (by decide) ?_
  refine k_newa (atype := .int) hx hb (hts (.arrayClass .int) ac_int_wsX1_init) rfl hK 0 rfl (fun _ h9 => h9) (a0 := (42, .inl (fun _ => 0))) (N' := 42) hP hD hS hA (fun _ => rfl) (by decide) (by decide) (by decide) (Nat.le_of_ble_eq_true rfl) (Nat.le_of_ble_eq_true rfl) dX1_init_25 (fun q_19 H hP hD hS => ?_)
  have hP : va_P (dC, dI) vwCl [(h0, .inr (1, [.null, .ref q_17, .ref q_18, .null, .null, .null, .null, .null, .int 0, .int 0, .int 0, .int 0, .long 0, .long 0])), (sc, .inr (6, [.ref g, .int (-1), .ref td])), (g, .inr (3, [.ref gc, .ref ga1, .ref ga2, .ref ga3, .ref ga4, .ref ga5, .ref ga6, .ref ga7, .ref ga8, .int 0, .int 0, .int 0, .int 0, .int (-1)])), (q_17, .inl (cL, 304, .inr (.inl (fun _ => 0)))), (q_18, .inl (cI, 304, .inl (fun _ => 0))), (q_19, .inl (cI, 42, .inl (fun _ => 0)))] H := hP
  have hD : va_D A [(h0, .inr (1, [.null, .ref q_17, .ref q_18, .null, .null, .null, .null, .null, .int 0, .int 0, .int 0, .int 0, .long 0, .long 0])), (sc, .inr (6, [.ref g, .int (-1), .ref td])), (g, .inr (3, [.ref gc, .ref ga1, .ref ga2, .ref ga3, .ref ga4, .ref ga5, .ref ga6, .ref ga7, .ref ga8, .int 0, .int 0, .int 0, .int 0, .int (-1)])), (q_17, .inl (cL, 304, .inr (.inl (fun _ => 0)))), (q_18, .inl (cI, 304, .inl (fun _ => 0))), (q_19, .inl (cI, 42, .inl (fun _ => 0)))] := hD
  refine W.widen (k := 3) (n := 650) (Nat.le_of_ble_eq_true rfl) (Nat.le_of_ble_eq_true rfl) ?_
  refine va_putF (D := (dC, dI)) (ci := 1) (v := .ref q_19) (ty := .array .int) (C := RX1) (T := TX1) (N := 14) hx hb hts iwwsX1_init_1 tyX1 tyX1_ok nmX1 hown hK hP hD hS 0 rfl rfl 3 (by decide) (hts (.fieldLink RX1 19 "NothingJudge$Facts" "marks" "[I") fwwsX1_init_19) (fun _ h9 => h9) rfl hin rfl (by decide +kernel) rfl rfl (Nat.le_of_ble_eq_true rfl) dX1_init_27 (fun H locs hP hD hS => ?_)
  have hP : va_P (dC, dI) vwCl [(h0, .inr (1, [.null, .ref q_17, .ref q_18, .ref q_19, .null, .null, .null, .null, .int 0, .int 0, .int 0, .int 0, .long 0, .long 0])), (sc, .inr (6, [.ref g, .int (-1), .ref td])), (g, .inr (3, [.ref gc, .ref ga1, .ref ga2, .ref ga3, .ref ga4, .ref ga5, .ref ga6, .ref ga7, .ref ga8, .int 0, .int 0, .int 0, .int 0, .int (-1)])), (q_17, .inl (cL, 304, .inr (.inl (fun _ => 0)))), (q_18, .inl (cI, 304, .inl (fun _ => 0))), (q_19, .inl (cI, 42, .inl (fun _ => 0)))] H := hP
  have hD : va_D A [(h0, .inr (1, [.null, .ref q_17, .ref q_18, .ref q_19, .null, .null, .null, .null, .int 0, .int 0, .int 0, .int 0, .long 0, .long 0])), (sc, .inr (6, [.ref g, .int (-1), .ref td])), (g, .inr (3, [.ref gc, .ref ga1, .ref ga2, .ref ga3, .ref ga4, .ref ga5, .ref ga6, .ref ga7, .ref ga8, .int 0, .int 0, .int 0, .int 0, .int (-1)])), (q_17, .inl (cL, 304, .inr (.inl (fun _ => 0)))), (q_18, .inl (cI, 304, .inl (fun _ => 0))), (q_19, .inl (cI, 42, .inl (fun _ => 0)))] := hD
  refine lv_aload_n hx hb dX1_init_30 rfl (lv_at hl 0 rfl) ?_
  refine lv_bipush (v := 40) hx hb dX1_init_31 (by decide) ?_
  refine k_newa (atype := .int) hx hb (hts (.arrayClass .int) ac_int_wsX1_init) rfl hK 0 rfl (fun _ h9 => h9) (a0 := (40, .inl (fun _ => 0))) (N' := 40) hP hD hS hA (fun _ => rfl) (by decide) (by decide) (by decide) (Nat.le_of_ble_eq_true rfl) (Nat.le_of_ble_eq_true rfl) dX1_init_33 (fun q_20 H hP hD hS => ?_)
  have hP : va_P (dC, dI) vwCl [(h0, .inr (1, [.null, .ref q_17, .ref q_18, .ref q_19, .null, .null, .null, .null, .int 0, .int 0, .int 0, .int 0, .long 0, .long 0])), (sc, .inr (6, [.ref g, .int (-1), .ref td])), (g, .inr (3, [.ref gc, .ref ga1, .ref ga2, .ref ga3, .ref ga4, .ref ga5, .ref ga6, .ref ga7, .ref ga8, .int 0, .int 0, .int 0, .int 0, .int (-1)])), (q_17, .inl (cL, 304, .inr (.inl (fun _ => 0)))), (q_18, .inl (cI, 304, .inl (fun _ => 0))), (q_19, .inl (cI, 42, .inl (fun _ => 0))), (q_20, .inl (cI, 40, .inl (fun _ => 0)))] H := hP
  have hD : va_D A [(h0, .inr (1, [.null, .ref q_17, .ref q_18, .ref q_19, .null, .null, .null, .null, .int 0, .int 0, .int 0, .int 0, .long 0, .long 0])), (sc, .inr (6, [.ref g, .int (-1), .ref td])), (g, .inr (3, [.ref gc, .ref ga1, .ref ga2, .ref ga3, .ref ga4, .ref ga5, .ref ga6, .ref ga7, .ref ga8, .int 0, .int 0, .int 0, .int 0, .int (-1)])), (q_17, .inl (cL, 304, .inr (.inl (fun _ => 0)))), (q_18, .inl (cI, 304, .inl (fun _ => 0))), (q_19, .inl (cI, 42, .inl (fun _ => 0))), (q_20, .inl (cI, 40, .inl (fun _ => 0)))] := hD
  refine W.widen (k := 4) (n := 690) (Nat.le_of_ble_eq_true rfl) (Nat.le_of_ble_eq_true rfl) ?_
  refine va_putF (D := (dC, dI)) (ci := 1) (v := .ref q_20) (ty := .array .int) (C := RX1) (T := TX1) (N := 14) hx hb hts iwwsX1_init_1 tyX1 tyX1_ok nmX1 hown hK hP hD hS 0 rfl rfl 4 (by decide) (hts (.fieldLink RX1 22 "NothingJudge$Facts" "used" "[I") fwwsX1_init_22) (fun _ h9 => h9) rfl hin rfl (by decide +kernel) rfl rfl (Nat.le_of_ble_eq_true rfl) dX1_init_35 (fun H locs hP hD hS => ?_)
  have hP : va_P (dC, dI) vwCl [(h0, .inr (1, [.null, .ref q_17, .ref q_18, .ref q_19, .ref q_20, .null, .null, .null, .int 0, .int 0, .int 0, .int 0, .long 0, .long 0])), (sc, .inr (6, [.ref g, .int (-1), .ref td])), (g, .inr (3, [.ref gc, .ref ga1, .ref ga2, .ref ga3, .ref ga4, .ref ga5, .ref ga6, .ref ga7, .ref ga8, .int 0, .int 0, .int 0, .int 0, .int (-1)])), (q_17, .inl (cL, 304, .inr (.inl (fun _ => 0)))), (q_18, .inl (cI, 304, .inl (fun _ => 0))), (q_19, .inl (cI, 42, .inl (fun _ => 0))), (q_20, .inl (cI, 40, .inl (fun _ => 0)))] H := hP
  have hD : va_D A [(h0, .inr (1, [.null, .ref q_17, .ref q_18, .ref q_19, .ref q_20, .null, .null, .null, .int 0, .int 0, .int 0, .int 0, .long 0, .long 0])), (sc, .inr (6, [.ref g, .int (-1), .ref td])), (g, .inr (3, [.ref gc, .ref ga1, .ref ga2, .ref ga3, .ref ga4, .ref ga5, .ref ga6, .ref ga7, .ref ga8, .int 0, .int 0, .int 0, .int 0, .int (-1)])), (q_17, .inl (cL, 304, .inr (.inl (fun _ => 0)))), (q_18, .inl (cI, 304, .inl (fun _ => 0))), (q_19, .inl (cI, 42, .inl (fun _ => 0))), (q_20, .inl (cI, 40, .inl (fun _ => 0)))] := hD
  refine lv_aload_n hx hb dX1_init_38 rfl (lv_at hl 0 rfl) ?_
  refine lv_bipush (v := 24) hx hb dX1_init_39 (by decide) ?_
  refine k_newa (atype := .int) hx hb (hts (.arrayClass .int) ac_int_wsX1_init) rfl hK 0 rfl (fun _ h9 => h9) (a0 := (24, .inl (fun _ => 0))) (N' := 24) hP hD hS hA (fun _ => rfl) (by decide) (by decide) (by decide) (Nat.le_of_ble_eq_true rfl) (Nat.le_of_ble_eq_true rfl) dX1_init_41 (fun q_21 H hP hD hS => ?_)
  have hP : va_P (dC, dI) vwCl [(h0, .inr (1, [.null, .ref q_17, .ref q_18, .ref q_19, .ref q_20, .null, .null, .null, .int 0, .int 0, .int 0, .int 0, .long 0, .long 0])), (sc, .inr (6, [.ref g, .int (-1), .ref td])), (g, .inr (3, [.ref gc, .ref ga1, .ref ga2, .ref ga3, .ref ga4, .ref ga5, .ref ga6, .ref ga7, .ref ga8, .int 0, .int 0, .int 0, .int 0, .int (-1)])), (q_17, .inl (cL, 304, .inr (.inl (fun _ => 0)))), (q_18, .inl (cI, 304, .inl (fun _ => 0))), (q_19, .inl (cI, 42, .inl (fun _ => 0))), (q_20, .inl (cI, 40, .inl (fun _ => 0))), (q_21, .inl (cI, 24, .inl (fun _ => 0)))] H := hP
  have hD : va_D A [(h0, .inr (1, [.null, .ref q_17, .ref q_18, .ref q_19, .ref q_20, .null, .null, .null, .int 0, .int 0, .int 0, .int 0, .long 0, .long 0])), (sc, .inr (6, [.ref g, .int (-1), .ref td])), (g, .inr (3, [.ref gc, .ref ga1, .ref ga2, .ref ga3, .ref ga4, .ref ga5, .ref ga6, .ref ga7, .ref ga8, .int 0, .int 0, .int 0, .int 0, .int (-1)])), (q_17, .inl (cL, 304, .inr (.inl (fun _ => 0)))), (q_18, .inl (cI, 304, .inl (fun _ => 0))), (q_19, .inl (cI, 42, .inl (fun _ => 0))), (q_20, .inl (cI, 40, .inl (fun _ => 0))), (q_21, .inl (cI, 24, .inl (fun _ => 0)))] := hD
  refine W.widen (k := 5) (n := 714) (Nat.le_of_ble_eq_true rfl) (Nat.le_of_ble_eq_true rfl) ?_
  refine va_putF (D := (dC, dI)) (ci := 1) (v := .ref q_21) (ty := .array .int) (C := RX1) (T := TX1) (N := 14) hx hb hts iwwsX1_init_1 tyX1 tyX1_ok nmX1 hown hK hP hD hS 0 rfl rfl 5 (by decide) (hts (.fieldLink RX1 25 "NothingJudge$Facts" "tested" "[I") fwwsX1_init_25) (fun _ h9 => h9) rfl hin rfl (by decide +kernel) rfl rfl (Nat.le_of_ble_eq_true rfl) dX1_init_43 (fun H locs hP hD hS => ?_)
  have hP : va_P (dC, dI) vwCl [(h0, .inr (1, [.null, .ref q_17, .ref q_18, .ref q_19, .ref q_20, .ref q_21, .null, .null, .int 0, .int 0, .int 0, .int 0, .long 0, .long 0])), (sc, .inr (6, [.ref g, .int (-1), .ref td])), (g, .inr (3, [.ref gc, .ref ga1, .ref ga2, .ref ga3, .ref ga4, .ref ga5, .ref ga6, .ref ga7, .ref ga8, .int 0, .int 0, .int 0, .int 0, .int (-1)])), (q_17, .inl (cL, 304, .inr (.inl (fun _ => 0)))), (q_18, .inl (cI, 304, .inl (fun _ => 0))), (q_19, .inl (cI, 42, .inl (fun _ => 0))), (q_20, .inl (cI, 40, .inl (fun _ => 0))), (q_21, .inl (cI, 24, .inl (fun _ => 0)))] H := hP
  have hD : va_D A [(h0, .inr (1, [.null, .ref q_17, .ref q_18, .ref q_19, .ref q_20, .ref q_21, .null, .null, .int 0, .int 0, .int 0, .int 0, .long 0, .long 0])), (sc, .inr (6, [.ref g, .int (-1), .ref td])), (g, .inr (3, [.ref gc, .ref ga1, .ref ga2, .ref ga3, .ref ga4, .ref ga5, .ref ga6, .ref ga7, .ref ga8, .int 0, .int 0, .int 0, .int 0, .int (-1)])), (q_17, .inl (cL, 304, .inr (.inl (fun _ => 0)))), (q_18, .inl (cI, 304, .inl (fun _ => 0))), (q_19, .inl (cI, 42, .inl (fun _ => 0))), (q_20, .inl (cI, 40, .inl (fun _ => 0))), (q_21, .inl (cI, 24, .inl (fun _ => 0)))] := hD
  refine lv_aload_n hx hb dX1_init_46 rfl (lv_at hl 0 rfl) ?_
  refine lv_iconst (v := 1) hx hb dX1_init_47 (by decide) ?_
  refine va_put (D := (dC, dI)) (ci := 1) (v := .int 1) (ty := .boolean) (C := RX1) (T := TX1) (N := 14) hx hb hts iwwsX1_init_1 tyX1 tyX1_ok nmX1 hown hK hP hD hS 0 rfl rfl 8 (by decide) (hts (.fieldLink RX1 28 "NothingJudge$Facts" "stale" "Z") fwwsX1_init_28) (fun _ h9 => h9) rfl (by decide +kernel) rfl rfl (Nat.le_of_ble_eq_true rfl) dX1_init_48 (fun H locs hP hD hS => ?_)
  have hP : va_P (dC, dI) vwCl [(h0, .inr (1, [.null, .ref q_17, .ref q_18, .ref q_19, .ref q_20, .ref q_21, .null, .null, .int 1, .int 0, .int 0, .int 0, .long 0, .long 0])), (sc, .inr (6, [.ref g, .int (-1), .ref td])), (g, .inr (3, [.ref gc, .ref ga1, .ref ga2, .ref ga3, .ref ga4, .ref ga5, .ref ga6, .ref ga7, .ref ga8, .int 0, .int 0, .int 0, .int 0, .int (-1)])), (q_17, .inl (cL, 304, .inr (.inl (fun _ => 0)))), (q_18, .inl (cI, 304, .inl (fun _ => 0))), (q_19, .inl (cI, 42, .inl (fun _ => 0))), (q_20, .inl (cI, 40, .inl (fun _ => 0))), (q_21, .inl (cI, 24, .inl (fun _ => 0)))] H := hP
  have hD : va_D A [(h0, .inr (1, [.null, .ref q_17, .ref q_18, .ref q_19, .ref q_20, .ref q_21, .null, .null, .int 1, .int 0, .int 0, .int 0, .long 0, .long 0])), (sc, .inr (6, [.ref g, .int (-1), .ref td])), (g, .inr (3, [.ref gc, .ref ga1, .ref ga2, .ref ga3, .ref ga4, .ref ga5, .ref ga6, .ref ga7, .ref ga8, .int 0, .int 0, .int 0, .int 0, .int (-1)])), (q_17, .inl (cL, 304, .inr (.inl (fun _ => 0)))), (q_18, .inl (cI, 304, .inl (fun _ => 0))), (q_19, .inl (cI, 42, .inl (fun _ => 0))), (q_20, .inl (cI, 40, .inl (fun _ => 0))), (q_21, .inl (cI, 24, .inl (fun _ => 0)))] := hD
  refine lv_aload_n hx hb dX1_init_51 rfl (lv_at hl 0 rfl) ?_
  refine lv_aload_n hx hb dX1_init_52 rfl (lv_at hl 1 rfl) ?_
  refine va_putF (D := (dC, dI)) (ci := 1) (v := .ref sc) (ty := .object "NothingJudge$Scene") (C := RX1) (T := TX1) (N := 14) hx hb hts iwwsX1_init_1 tyX1 tyX1_ok nmX1 hown hK hP hD hS 0 rfl rfl 0 (by decide) (hts (.fieldLink RX1 32 "NothingJudge$Facts" "scene" "LNothingJudge$Scene;") fwwsX1_init_32) (fun _ h9 => h9) rfl hin rfl (by decide +kernel) rfl rfl (Nat.le_of_ble_eq_true rfl) dX1_init_53 (fun H locs hP hD hS => ?_)
  have hP : va_P (dC, dI) vwCl [(h0, .inr (1, [.ref sc, .ref q_17, .ref q_18, .ref q_19, .ref q_20, .ref q_21, .null, .null, .int 1, .int 0, .int 0, .int 0, .long 0, .long 0])), (sc, .inr (6, [.ref g, .int (-1), .ref td])), (g, .inr (3, [.ref gc, .ref ga1, .ref ga2, .ref ga3, .ref ga4, .ref ga5, .ref ga6, .ref ga7, .ref ga8, .int 0, .int 0, .int 0, .int 0, .int (-1)])), (q_17, .inl (cL, 304, .inr (.inl (fun _ => 0)))), (q_18, .inl (cI, 304, .inl (fun _ => 0))), (q_19, .inl (cI, 42, .inl (fun _ => 0))), (q_20, .inl (cI, 40, .inl (fun _ => 0))), (q_21, .inl (cI, 24, .inl (fun _ => 0)))] H := hP
  have hD : va_D A [(h0, .inr (1, [.ref sc, .ref q_17, .ref q_18, .ref q_19, .ref q_20, .ref q_21, .null, .null, .int 1, .int 0, .int 0, .int 0, .long 0, .long 0])), (sc, .inr (6, [.ref g, .int (-1), .ref td])), (g, .inr (3, [.ref gc, .ref ga1, .ref ga2, .ref ga3, .ref ga4, .ref ga5, .ref ga6, .ref ga7, .ref ga8, .int 0, .int 0, .int 0, .int 0, .int (-1)])), (q_17, .inl (cL, 304, .inr (.inl (fun _ => 0)))), (q_18, .inl (cI, 304, .inl (fun _ => 0))), (q_19, .inl (cI, 42, .inl (fun _ => 0))), (q_20, .inl (cI, 40, .inl (fun _ => 0))), (q_21, .inl (cI, 24, .inl (fun _ => 0)))] := hD
  refine lv_aload_n hx hb dX1_init_56 rfl (lv_at hl 0 rfl) ?_
  refine lv_aload_n hx hb dX1_init_57 rfl (lv_at hl 1 rfl) ?_
  refine va_get (D := (dC, dI)) (ci := 6) (v := .ref g) (C := RX7) (T := TX7) (N := 3) hx hb hts iwwsX1_init_7 hown hK hP 1 rfl rfl 0 (by decide) (hts (.fieldLink RX1 36 "NothingJudge$Scene" "program" "LNothingJudge$Program;") fwwsX1_init_36) (fun _ h9 => h9) rfl dX1_init_58 ?_
  refine va_put (D := (dC, dI)) (ci := 1) (v := .ref g) (ty := .object "NothingJudge$Program") (C := RX1) (T := TX1) (N := 14) hx hb hts iwwsX1_init_1 tyX1 tyX1_ok nmX1 hown hK hP hD hS 0 rfl rfl 6 (by decide) (hts (.fieldLink RX1 42 "NothingJudge$Facts" "program" "LNothingJudge$Program;") fwwsX1_init_42) (fun _ h9 => h9) rfl (by decide +kernel) rfl rfl (Nat.le_of_ble_eq_true rfl) dX1_init_61 (fun H locs hP hD hS => ?_)
  have hP : va_P (dC, dI) vwCl [(h0, .inr (1, [.ref sc, .ref q_17, .ref q_18, .ref q_19, .ref q_20, .ref q_21, .ref g, .null, .int 1, .int 0, .int 0, .int 0, .long 0, .long 0])), (sc, .inr (6, [.ref g, .int (-1), .ref td])), (g, .inr (3, [.ref gc, .ref ga1, .ref ga2, .ref ga3, .ref ga4, .ref ga5, .ref ga6, .ref ga7, .ref ga8, .int 0, .int 0, .int 0, .int 0, .int (-1)])), (q_17, .inl (cL, 304, .inr (.inl (fun _ => 0)))), (q_18, .inl (cI, 304, .inl (fun _ => 0))), (q_19, .inl (cI, 42, .inl (fun _ => 0))), (q_20, .inl (cI, 40, .inl (fun _ => 0))), (q_21, .inl (cI, 24, .inl (fun _ => 0)))] H := hP
  have hD : va_D A [(h0, .inr (1, [.ref sc, .ref q_17, .ref q_18, .ref q_19, .ref q_20, .ref q_21, .ref g, .null, .int 1, .int 0, .int 0, .int 0, .long 0, .long 0])), (sc, .inr (6, [.ref g, .int (-1), .ref td])), (g, .inr (3, [.ref gc, .ref ga1, .ref ga2, .ref ga3, .ref ga4, .ref ga5, .ref ga6, .ref ga7, .ref ga8, .int 0, .int 0, .int 0, .int 0, .int (-1)])), (q_17, .inl (cL, 304, .inr (.inl (fun _ => 0)))), (q_18, .inl (cI, 304, .inl (fun _ => 0))), (q_19, .inl (cI, 42, .inl (fun _ => 0))), (q_20, .inl (cI, 40, .inl (fun _ => 0))), (q_21, .inl (cI, 24, .inl (fun _ => 0)))] := hD
  refine lv_aload_n hx hb dX1_init_64 rfl (lv_at hl 0 rfl) ?_
  refine lv_aload_n hx hb dX1_init_65 rfl (lv_at hl 1 rfl) ?_
  refine va_get (D := (dC, dI)) (ci := 6) (v := .ref g) (C := RX7) (T := TX7) (N := 3) hx hb hts iwwsX1_init_7 hown hK hP 1 rfl rfl 0 (by decide) (hts (.fieldLink RX1 36 "NothingJudge$Scene" "program" "LNothingJudge$Program;") fwwsX1_init_36) (fun _ h9 => h9) rfl dX1_init_66 ?_
  refine va_get (D := (dC, dI)) (ci := 3) (v := .ref gc) (C := RX3) (T := TX3) (N := 14) hx hb hts iwwsX1_init_3 hown hK hP 2 rfl rfl 0 (by decide) (hts (.fieldLink RX1 43 "NothingJudge$Program" "code" "LNothingJudge$Code;") fwwsX1_init_43) (fun _ h9 => h9) rfl dX1_init_69 ?_
  refine va_put (D := (dC, dI)) (ci := 1) (v := .ref gc) (ty := .object "NothingJudge$Code") (C := RX1) (T := TX1) (N := 14) hx hb hts iwwsX1_init_1 tyX1 tyX1_ok nmX1 hown hK hP hD hS 0 rfl rfl 7 (by decide) (hts (.fieldLink RX1 49 "NothingJudge$Facts" "code" "LNothingJudge$Code;") fwwsX1_init_49) (fun _ h9 => h9) rfl (by decide +kernel) rfl rfl (Nat.le_of_ble_eq_true rfl) dX1_init_72 (fun H locs hP hD hS => ?_)
  have hP : va_P (dC, dI) vwCl [(h0, .inr (1, [.ref sc, .ref q_17, .ref q_18, .ref q_19, .ref q_20, .ref q_21, .ref g, .ref gc, .int 1, .int 0, .int 0, .int 0, .long 0, .long 0])), (sc, .inr (6, [.ref g, .int (-1), .ref td])), (g, .inr (3, [.ref gc, .ref ga1, .ref ga2, .ref ga3, .ref ga4, .ref ga5, .ref ga6, .ref ga7, .ref ga8, .int 0, .int 0, .int 0, .int 0, .int (-1)])), (q_17, .inl (cL, 304, .inr (.inl (fun _ => 0)))), (q_18, .inl (cI, 304, .inl (fun _ => 0))), (q_19, .inl (cI, 42, .inl (fun _ => 0))), (q_20, .inl (cI, 40, .inl (fun _ => 0))), (q_21, .inl (cI, 24, .inl (fun _ => 0)))] H := hP
  have hD : va_D A [(h0, .inr (1, [.ref sc, .ref q_17, .ref q_18, .ref q_19, .ref q_20, .ref q_21, .ref g, .ref gc, .int 1, .int 0, .int 0, .int 0, .long 0, .long 0])), (sc, .inr (6, [.ref g, .int (-1), .ref td])), (g, .inr (3, [.ref gc, .ref ga1, .ref ga2, .ref ga3, .ref ga4, .ref ga5, .ref ga6, .ref ga7, .ref ga8, .int 0, .int 0, .int 0, .int 0, .int (-1)])), (q_17, .inl (cL, 304, .inr (.inl (fun _ => 0)))), (q_18, .inl (cI, 304, .inl (fun _ => 0))), (q_19, .inl (cI, 42, .inl (fun _ => 0))), (q_20, .inl (cI, 40, .inl (fun _ => 0))), (q_21, .inl (cI, 24, .inl (fun _ => 0)))] := hD
  have hP9 := hP.sub (ws' := [(h0, .inr (1, [.ref sc, .ref q_17, .ref q_18, .ref q_19, .ref q_20, .ref q_21, .ref g, .ref gc, .int 1, .int 0, .int 0, .int 0, .long 0, .long 0])), (sc, .inr (6, [.ref g, .int (-1), .ref td])), (g, .inr (3, [.ref gc, .ref ga1, .ref ga2, .ref ga3, .ref ga4, .ref ga5, .ref ga6, .ref ga7, .ref ga8, .int 0, .int 0, .int 0, .int 0, .int (-1)])), (q_17, .inl (cL, 304, .inr (.inl (fun _ => 0)))), (q_18, .inl (cI, 304, .inl (fun _ => 0))), (q_19, .inl (cI, 42, .inl (fun _ => 0))), (q_20, .inl (cI, 40, .inl (fun _ => 0))), (q_21, .inl (cI, 24, .inl (fun _ => 0)))]) [0, 1, 2, 3, 4, 5, 6, 7] rfl
  have hD9 := hD.sub (ws' := [(h0, .inr (1, [.ref sc, .ref q_17, .ref q_18, .ref q_19, .ref q_20, .ref q_21, .ref g, .ref gc, .int 1, .int 0, .int 0, .int 0, .long 0, .long 0])), (sc, .inr (6, [.ref g, .int (-1), .ref td])), (g, .inr (3, [.ref gc, .ref ga1, .ref ga2, .ref ga3, .ref ga4, .ref ga5, .ref ga6, .ref ga7, .ref ga8, .int 0, .int 0, .int 0, .int 0, .int (-1)])), (q_17, .inl (cL, 304, .inr (.inl (fun _ => 0)))), (q_18, .inl (cI, 304, .inl (fun _ => 0))), (q_19, .inl (cI, 42, .inl (fun _ => 0))), (q_20, .inl (cI, 40, .inl (fun _ => 0))), (q_21, .inl (cI, 24, .inl (fun _ => 0)))]) [0, 1, 2, 3, 4, 5, 6, 7] (by decide) rfl
  exact W.vret hx hb hr (fun t ht hW => ⟨⟨(), rfl, trivial, q_17, q_18, q_19, q_20, q_21, by rw [ht]; exact hP9, hD9⟩, hS.F ht⟩) hS.2.2 dX1_init_75

set_option maxHeartbeats 4000000 in
set_option maxRecDepth 100000 in
theorem c_X6_init (l : Launch) (dC : Nat → ClassId) (dI : Nat → Nat → Nat) (cI cB cL cZ : ClassId) (h0 : Nat) (sc : Nat) (g : Nat) (td : Nat) (gc : Nat) (ga1 : Nat) (ga2 : Nat) (ga3 : Nat) (ga4 : Nat) (ga5 : Nat) (ga6 : Nat) (ga7 : Nat) (ga8 : Nat) (sz : Nat)  : Met l yX6_init wsX6_init ({ frames := 1, cells := 3, slots := 952, locals := 12 }) (cP (dC, dI) (kTy cI cB cL cZ) [.ref h0, .ref sc] [(h0, .inr (5, [.null, .null, .null, .null, .null, .null, .int 0, .int 0, .int 0, .int 0, .int 0, .int 0, .int 0, .int 0, .int 0, .int 0])), (sc, .inr (6, [.ref g, .int (-1), .ref td])), (g, .inr (3, [.ref gc, .ref ga1, .ref ga2, .ref ga3, .ref ga4, .ref ga5, .ref ga6, .ref ga7, .ref ga8, .int 0, .int 0, .int 0, .int 0, .int (-1)]))] sz) (va_Qv (fun _ : Unit => True) (fun (_ : Unit) (t : State) => va_P (dC, dI) vwCl [(sc, .inr (6, [.ref g, .int (-1), .ref td])), (g, .inr (3, [.ref gc, .ref ga1, .ref ga2, .ref ga3, .ref ga4, .ref ga5, .ref ga6, .ref ga7, .ref ga8, .int 0, .int 0, .int 0, .int 0, .int (-1)]))] t.heap ∧ va_D (va_A [(h0, .inr (5, [.null, .null, .null, .null, .null, .null, .int 0, .int 0, .int 0, .int 0, .int 0, .int 0, .int 0, .int 0, .int 0, .int 0])), (sc, .inr (6, [.ref g, .int (-1), .ref td])), (g, .inr (3, [.ref gc, .ref ga1, .ref ga2, .ref ga3, .ref ga4, .ref ga5, .ref ga6, .ref ga7, .ref ga8, .int 0, .int 0, .int 0, .int 0, .int (-1)]))] sz) [(sc, .inr (6, [.ref g, .int (-1), .ref td])), (g, .inr (3, [.ref gc, .ref ga1, .ref ga2, .ref ga3, .ref ga4, .ref ga5, .ref ga6, .ref ga7, .ref ga8, .int 0, .int 0, .int 0, .int 0, .int (-1)]))]) (va_A [(h0, .inr (5, [.null, .null, .null, .null, .null, .null, .int 0, .int 0, .int 0, .int 0, .int 0, .int 0, .int 0, .int 0, .int 0, .int 0])), (sc, .inr (6, [.ref g, .int (-1), .ref td])), (g, .inr (3, [.ref gc, .ref ga1, .ref ga2, .ref ga3, .ref ga4, .ref ga5, .ref ga6, .ref ga7, .ref ga8, .int 0, .int 0, .int 0, .int 0, .int (-1)]))] sz)) 3 952 (va_A [(h0, .inr (5, [.null, .null, .null, .null, .null, .null, .int 0, .int 0, .int 0, .int 0, .int 0, .int 0, .int 0, .int 0, .int 0, .int 0])), (sc, .inr (6, [.ref g, .int (-1), .ref td])), (g, .inr (3, [.ref gc, .ref ga1, .ref ga2, .ref ga3, .ref ga4, .ref ga5, .ref ga6, .ref ga7, .ref ga8, .int 0, .int 0, .int 0, .int 0, .int (-1)]))] sz) := by
  refine Met.ofW (cc := cX6_init) (maxL := 2) (ret := none) (by decide) rfl ?_
  intro p e s m args below meth c s₁ B hml hv
  obtain ⟨rfl, hsz, hP, hK, hD0, hN⟩ := hv
  have hx := B.exec
  have hb := B.bytes
  have hr := B.returns
  have hts := atoms_spec (ws := wsX6_init) B.pre
  have hown : s.vm.findClass RX6 = some m.cls := findClass_of_methodNamed B.named
  have hlocks := B.notSynchronized
  have hin : meth.name = "<init>" := (name_of_methodNamed B.named B.method).1
  subst hsz
  have hD := hD0.self (sz := s.heap.size)
  generalize hAe : va_A [(h0, .inr (5, [.null, .null, .null, .null, .null, .null, .int 0, .int 0, .int 0, .int 0, .int 0, .int 0, .int 0, .int 0, .int 0, .int 0])), (sc, .inr (6, [.ref g, .int (-1), .ref td])), (g, .inr (3, [.ref gc, .ref ga1, .ref ga2, .ref ga3, .ref ga4, .ref ga5, .ref ga6, .ref ga7, .ref ga8, .int 0, .int 0, .int 0, .int 0, .int (-1)]))] s.heap.size = A at hD ⊢
  have hA : ∀ q : Nat, s.heap.size ≤ q → A q := fun q h => by rw [← hAe]; exact Or.inr h
  have hl := lv_entry ([.ref h0, .ref sc]) (n := 2) (Nat.le_of_ble_eq_true rfl)
  rw [lg_entry_eq]
  generalize (lg_sl ([.ref h0, .ref sc]) ++ List.replicate (2 - (lg_sl ([.ref h0, .ref sc])).length) Slot.unset).toArray = ls at hl ⊢
  have hl : lv_has ls 2 [(0, .ref h0), (1, .ref sc)] := hl
  refine k_H (A := A) hP (fun H hP hS => ?_)
  have hP : va_P (dC, dI) vwCl [(h0, .inr (5, [.null, .null, .null, .null, .null, .null, .int 0, .int 0, .int 0, .int 0, .int 0, .int 0, .int 0, .int 0, .int 0, .int 0])), (sc, .inr (6, [.ref g, .int (-1), .ref td])), (g, .inr (3, [.ref gc, .ref ga1, .ref ga2, .ref ga3, .ref ga4, .ref ga5, .ref ga6, .ref ga7, .ref ga8, .int 0, .int 0, .int 0, .int 0, .int (-1)]))] H := hP
  have hD : va_D A [(h0, .inr (5, [.null, .null, .null, .null, .null, .null, .int 0, .int 0, .int 0, .int 0, .int 0, .int 0, .int 0, .int 0, .int 0, .int 0])), (sc, .inr (6, [.ref g, .int (-1), .ref td])), (g, .inr (3, [.ref gc, .ref ga1, .ref ga2, .ref ga3, .ref ga4, .ref ga5, .ref ga6, .ref ga7, .ref ga8, .int 0, .int 0, .int 0, .int 0, .int (-1)]))] := hD
  refine lv_aload_n hx hb dX6_init_0 rfl (lv_at hl 0 rfl) ?_
  refine W.objInit hx hb hown (hts (.methodLink RX6 3 objectInit) ol_wsX6_init) (hts (.instanceMethod objectInit) oi_wsX6_init) (hts (.code objectInit ⟨#[0xb1]⟩ 1 none) oc_wsX6_init) rfl (by rw [hml]; exact hl.1) rfl dX6_init_1 (Nat.le_of_ble_eq_true rfl) (Nat.le_of_ble_eq_true rfl) ?_
  refine W.eq (g2 := F0 m 4 ls []) rfl ?_
  refine lv_aload_n hx hb dX6_init_4 rfl (lv_at hl 0 rfl) ?_
  refine lv_sipush (v := 338) hx hb dX6_init_5 (by decide) ?_
  refine k_newa (atype := .int) hx hb (hts (.arrayClass .int) ac_int_wsX6_init) rfl hK 0 rfl (fun _ h9 => h9) (a0 := (338, .inl (fun _ => 0))) (N' := 338) hP hD hS hA (fun _ => rfl) (by decide) (by decide) (by decide) (Nat.le_of_ble_eq_true rfl) (Nat.le_of_ble_eq_true rfl) dX6_init_8 (fun q_22 H hP hD hS => ?_)
  have hP : va_P (dC, dI) vwCl [(h0, .inr (5, [.null, .null, .null, .null, .null, .null, .int 0, .int 0, .int 0, .int 0, .int 0, .int 0, .int 0, .int 0, .int 0, .int 0])), (sc, .inr (6, [.ref g, .int (-1), .ref td])), (g, .inr (3, [.ref gc, .ref ga1, .ref ga2, .ref ga3, .ref ga4, .ref ga5, .ref ga6, .ref ga7, .ref ga8, .int 0, .int 0, .int 0, .int 0, .int (-1)])), (q_22, .inl (cI, 338, .inl (fun _ => 0)))] H := hP
  have hD : va_D A [(h0, .inr (5, [.null, .null, .null, .null, .null, .null, .int 0, .int 0, .int 0, .int 0, .int 0, .int 0, .int 0, .int 0, .int 0, .int 0])), (sc, .inr (6, [.ref g, .int (-1), .ref td])), (g, .inr (3, [.ref gc, .ref ga1, .ref ga2, .ref ga3, .ref ga4, .ref ga5, .ref ga6, .ref ga7, .ref ga8, .int 0, .int 0, .int 0, .int 0, .int (-1)])), (q_22, .inl (cI, 338, .inl (fun _ => 0)))] := hD
  refine W.widen (k := 1) (n := 338) (Nat.le_of_ble_eq_true rfl) (Nat.le_of_ble_eq_true rfl) ?_
  refine va_putF (D := (dC, dI)) (ci := 5) (v := .ref q_22) (ty := .array .int) (C := RX6) (T := TX6) (N := 16) hx hb hts iwwsX6_init_6 tyX6 tyX6_ok nmX6 hown hK hP hD hS 0 rfl rfl 1 (by decide) (hts (.fieldLink RX6 11 "NothingJudge$Runner" "names" "[I") fwwsX6_init_11) (fun _ h9 => h9) rfl hin rfl (by decide +kernel) rfl rfl (Nat.le_of_ble_eq_true rfl) dX6_init_10 (fun H locs hP hD hS => ?_)
  have hP : va_P (dC, dI) vwCl [(h0, .inr (5, [.null, .ref q_22, .null, .null, .null, .null, .int 0, .int 0, .int 0, .int 0, .int 0, .int 0, .int 0, .int 0, .int 0, .int 0])), (sc, .inr (6, [.ref g, .int (-1), .ref td])), (g, .inr (3, [.ref gc, .ref ga1, .ref ga2, .ref ga3, .ref ga4, .ref ga5, .ref ga6, .ref ga7, .ref ga8, .int 0, .int 0, .int 0, .int 0, .int (-1)])), (q_22, .inl (cI, 338, .inl (fun _ => 0)))] H := hP
  have hD : va_D A [(h0, .inr (5, [.null, .ref q_22, .null, .null, .null, .null, .int 0, .int 0, .int 0, .int 0, .int 0, .int 0, .int 0, .int 0, .int 0, .int 0])), (sc, .inr (6, [.ref g, .int (-1), .ref td])), (g, .inr (3, [.ref gc, .ref ga1, .ref ga2, .ref ga3, .ref ga4, .ref ga5, .ref ga6, .ref ga7, .ref ga8, .int 0, .int 0, .int 0, .int 0, .int (-1)])), (q_22, .inl (cI, 338, .inl (fun _ => 0)))] := hD
  refine lv_aload_n hx hb dX6_init_13 rfl (lv_at hl 0 rfl) ?_
  refine lv_bipush (v := 12) hx hb dX6_init_14 (by decide) ?_
  refine k_newa (atype := .int) hx hb (hts (.arrayClass .int) ac_int_wsX6_init) rfl hK 0 rfl (fun _ h9 => h9) (a0 := (12, .inl (fun _ => 0))) (N' := 12) hP hD hS hA (fun _ => rfl) (by decide) (by decide) (by decide) (Nat.le_of_ble_eq_true rfl) (Nat.le_of_ble_eq_true rfl) dX6_init_16 (fun q_23 H hP hD hS => ?_)
  have hP : va_P (dC, dI) vwCl [(h0, .inr (5, [.null, .ref q_22, .null, .null, .null, .null, .int 0, .int 0, .int 0, .int 0, .int 0, .int 0, .int 0, .int 0, .int 0, .int 0])), (sc, .inr (6, [.ref g, .int (-1), .ref td])), (g, .inr (3, [.ref gc, .ref ga1, .ref ga2, .ref ga3, .ref ga4, .ref ga5, .ref ga6, .ref ga7, .ref ga8, .int 0, .int 0, .int 0, .int 0, .int (-1)])), (q_22, .inl (cI, 338, .inl (fun _ => 0))), (q_23, .inl (cI, 12, .inl (fun _ => 0)))] H := hP
  have hD : va_D A [(h0, .inr (5, [.null, .ref q_22, .null, .null, .null, .null, .int 0, .int 0, .int 0, .int 0, .int 0, .int 0, .int 0, .int 0, .int 0, .int 0])), (sc, .inr (6, [.ref g, .int (-1), .ref td])), (g, .inr (3, [.ref gc, .ref ga1, .ref ga2, .ref ga3, .ref ga4, .ref ga5, .ref ga6, .ref ga7, .ref ga8, .int 0, .int 0, .int 0, .int 0, .int (-1)])), (q_22, .inl (cI, 338, .inl (fun _ => 0))), (q_23, .inl (cI, 12, .inl (fun _ => 0)))] := hD
  refine W.widen (k := 2) (n := 350) (Nat.le_of_ble_eq_true rfl) (Nat.le_of_ble_eq_true rfl) ?_
  refine va_putF (D := (dC, dI)) (ci := 5) (v := .ref q_23) (ty := .array .int) (C := RX6) (T := TX6) (N := 16) hx hb hts iwwsX6_init_6 tyX6 tyX6_ok nmX6 hown hK hP hD hS 0 rfl rfl 2 (by decide) (hts (.fieldLink RX6 15 "NothingJudge$Runner" "back" "[I") fwwsX6_init_15) (fun _ h9 => h9) rfl hin rfl (by decide +kernel) rfl rfl (Nat.le_of_ble_eq_true rfl) dX6_init_18 (fun H locs hP hD hS => ?_)
  have hP : va_P (dC, dI) vwCl [(h0, .inr (5, [.null, .ref q_22, .ref q_23, .null, .null, .null, .int 0, .int 0, .int 0, .int 0, .int 0, .int 0, .int 0, .int 0, .int 0, .int 0])), (sc, .inr (6, [.ref g, .int (-1), .ref td])), (g, .inr (3, [.ref gc, .ref ga1, .ref ga2, .ref ga3, .ref ga4, .ref ga5, .ref ga6, .ref ga7, .ref ga8, .int 0, .int 0, .int 0, .int 0, .int (-1)])), (q_22, .inl (cI, 338, .inl (fun _ => 0))), (q_23, .inl (cI, 12, .inl (fun _ => 0)))] H := hP
  have hD : va_D A [(h0, .inr (5, [.null, .ref q_22, .ref q_23, .null, .null, .null, .int 0, .int 0, .int 0, .int 0, .int 0, .int 0, .int 0, .int 0, .int 0, .int 0])), (sc, .inr (6, [.ref g, .int (-1), .ref td])), (g, .inr (3, [.ref gc, .ref ga1, .ref ga2, .ref ga3, .ref ga4, .ref ga5, .ref ga6, .ref ga7, .ref ga8, .int 0, .int 0, .int 0, .int 0, .int (-1)])), (q_22, .inl (cI, 338, .inl (fun _ => 0))), (q_23, .inl (cI, 12, .inl (fun _ => 0)))] := hD
  refine lv_aload_n hx hb dX6_init_21 rfl (lv_at hl 0 rfl) ?_
  refine lv_sipush (v := 602) hx hb dX6_init_22 (by decide) ?_
  refine k_newa (atype := .int) hx hb (hts (.arrayClass .int) ac_int_wsX6_init) rfl hK 0 rfl (fun _ h9 => h9) (a0 := (602, .inl (fun _ => 0))) (N' := 602) hP hD hS hA (fun _ => rfl) (by decide) (by decide) (by decide) (Nat.le_of_ble_eq_true rfl) (Nat.le_of_ble_eq_true rfl) dX6_init_25 (fun q_24 H hP hD hS => ?_)
  have hP : va_P (dC, dI) vwCl [(h0, .inr (5, [.null, .ref q_22, .ref q_23, .null, .null, .null, .int 0, .int 0, .int 0, .int 0, .int 0, .int 0, .int 0, .int 0, .int 0, .int 0])), (sc, .inr (6, [.ref g, .int (-1), .ref td])), (g, .inr (3, [.ref gc, .ref ga1, .ref ga2, .ref ga3, .ref ga4, .ref ga5, .ref ga6, .ref ga7, .ref ga8, .int 0, .int 0, .int 0, .int 0, .int (-1)])), (q_22, .inl (cI, 338, .inl (fun _ => 0))), (q_23, .inl (cI, 12, .inl (fun _ => 0))), (q_24, .inl (cI, 602, .inl (fun _ => 0)))] H := hP
  have hD : va_D A [(h0, .inr (5, [.null, .ref q_22, .ref q_23, .null, .null, .null, .int 0, .int 0, .int 0, .int 0, .int 0, .int 0, .int 0, .int 0, .int 0, .int 0])), (sc, .inr (6, [.ref g, .int (-1), .ref td])), (g, .inr (3, [.ref gc, .ref ga1, .ref ga2, .ref ga3, .ref ga4, .ref ga5, .ref ga6, .ref ga7, .ref ga8, .int 0, .int 0, .int 0, .int 0, .int (-1)])), (q_22, .inl (cI, 338, .inl (fun _ => 0))), (q_23, .inl (cI, 12, .inl (fun _ => 0))), (q_24, .inl (cI, 602, .inl (fun _ => 0)))] := hD
  refine W.widen (k := 3) (n := 952) (Nat.le_of_ble_eq_true rfl) (Nat.le_of_ble_eq_true rfl) ?_
  refine va_putF (D := (dC, dI)) (ci := 5) (v := .ref q_24) (ty := .array .int) (C := RX6) (T := TX6) (N := 16) hx hb hts iwwsX6_init_6 tyX6 tyX6_ok nmX6 hown hK hP hD hS 0 rfl rfl 3 (by decide) (hts (.fieldLink RX6 18 "NothingJudge$Runner" "fields" "[I") fwwsX6_init_18) (fun _ h9 => h9) rfl hin rfl (by decide +kernel) rfl rfl (Nat.le_of_ble_eq_true rfl) dX6_init_27 (fun H locs hP hD hS => ?_)
  have hP : va_P (dC, dI) vwCl [(h0, .inr (5, [.null, .ref q_22, .ref q_23, .ref q_24, .null, .null, .int 0, .int 0, .int 0, .int 0, .int 0, .int 0, .int 0, .int 0, .int 0, .int 0])), (sc, .inr (6, [.ref g, .int (-1), .ref td])), (g, .inr (3, [.ref gc, .ref ga1, .ref ga2, .ref ga3, .ref ga4, .ref ga5, .ref ga6, .ref ga7, .ref ga8, .int 0, .int 0, .int 0, .int 0, .int (-1)])), (q_22, .inl (cI, 338, .inl (fun _ => 0))), (q_23, .inl (cI, 12, .inl (fun _ => 0))), (q_24, .inl (cI, 602, .inl (fun _ => 0)))] H := hP
  have hD : va_D A [(h0, .inr (5, [.null, .ref q_22, .ref q_23, .ref q_24, .null, .null, .int 0, .int 0, .int 0, .int 0, .int 0, .int 0, .int 0, .int 0, .int 0, .int 0])), (sc, .inr (6, [.ref g, .int (-1), .ref td])), (g, .inr (3, [.ref gc, .ref ga1, .ref ga2, .ref ga3, .ref ga4, .ref ga5, .ref ga6, .ref ga7, .ref ga8, .int 0, .int 0, .int 0, .int 0, .int (-1)])), (q_22, .inl (cI, 338, .inl (fun _ => 0))), (q_23, .inl (cI, 12, .inl (fun _ => 0))), (q_24, .inl (cI, 602, .inl (fun _ => 0)))] := hD
  refine lv_aload_n hx hb dX6_init_30 rfl (lv_at hl 0 rfl) ?_
  refine lv_aload_n hx hb dX6_init_31 rfl (lv_at hl 1 rfl) ?_
  refine va_putF (D := (dC, dI)) (ci := 5) (v := .ref sc) (ty := .object "NothingJudge$Scene") (C := RX6) (T := TX6) (N := 16) hx hb hts iwwsX6_init_6 tyX6 tyX6_ok nmX6 hown hK hP hD hS 0 rfl rfl 0 (by decide) (hts (.fieldLink RX6 21 "NothingJudge$Runner" "scene" "LNothingJudge$Scene;") fwwsX6_init_21) (fun _ h9 => h9) rfl hin rfl (by decide +kernel) rfl rfl (Nat.le_of_ble_eq_true rfl) dX6_init_32 (fun H locs hP hD hS => ?_)
  have hP : va_P (dC, dI) vwCl [(h0, .inr (5, [.ref sc, .ref q_22, .ref q_23, .ref q_24, .null, .null, .int 0, .int 0, .int 0, .int 0, .int 0, .int 0, .int 0, .int 0, .int 0, .int 0])), (sc, .inr (6, [.ref g, .int (-1), .ref td])), (g, .inr (3, [.ref gc, .ref ga1, .ref ga2, .ref ga3, .ref ga4, .ref ga5, .ref ga6, .ref ga7, .ref ga8, .int 0, .int 0, .int 0, .int 0, .int (-1)])), (q_22, .inl (cI, 338, .inl (fun _ => 0))), (q_23, .inl (cI, 12, .inl (fun _ => 0))), (q_24, .inl (cI, 602, .inl (fun _ => 0)))] H := hP
  have hD : va_D A [(h0, .inr (5, [.ref sc, .ref q_22, .ref q_23, .ref q_24, .null, .null, .int 0, .int 0, .int 0, .int 0, .int 0, .int 0, .int 0, .int 0, .int 0, .int 0])), (sc, .inr (6, [.ref g, .int (-1), .ref td])), (g, .inr (3, [.ref gc, .ref ga1, .ref ga2, .ref ga3, .ref ga4, .ref ga5, .ref ga6, .ref ga7, .ref ga8, .int 0, .int 0, .int 0, .int 0, .int (-1)])), (q_22, .inl (cI, 338, .inl (fun _ => 0))), (q_23, .inl (cI, 12, .inl (fun _ => 0))), (q_24, .inl (cI, 602, .inl (fun _ => 0)))] := hD
  refine lv_aload_n hx hb dX6_init_35 rfl (lv_at hl 0 rfl) ?_
  refine lv_aload_n hx hb dX6_init_36 rfl (lv_at hl 1 rfl) ?_
  refine va_get (D := (dC, dI)) (ci := 6) (v := .ref g) (C := RX7) (T := TX7) (N := 3) hx hb hts iwwsX6_init_7 hown hK hP 1 rfl rfl 0 (by decide) (hts (.fieldLink RX6 25 "NothingJudge$Scene" "program" "LNothingJudge$Program;") fwwsX6_init_25) (fun _ h9 => h9) rfl dX6_init_37 ?_
  refine va_put (D := (dC, dI)) (ci := 5) (v := .ref g) (ty := .object "NothingJudge$Program") (C := RX6) (T := TX6) (N := 16) hx hb hts iwwsX6_init_6 tyX6 tyX6_ok nmX6 hown hK hP hD hS 0 rfl rfl 4 (by decide) (hts (.fieldLink RX6 31 "NothingJudge$Runner" "program" "LNothingJudge$Program;") fwwsX6_init_31) (fun _ h9 => h9) rfl (by decide +kernel) rfl rfl (Nat.le_of_ble_eq_true rfl) dX6_init_40 (fun H locs hP hD hS => ?_)
  have hP : va_P (dC, dI) vwCl [(h0, .inr (5, [.ref sc, .ref q_22, .ref q_23, .ref q_24, .ref g, .null, .int 0, .int 0, .int 0, .int 0, .int 0, .int 0, .int 0, .int 0, .int 0, .int 0])), (sc, .inr (6, [.ref g, .int (-1), .ref td])), (g, .inr (3, [.ref gc, .ref ga1, .ref ga2, .ref ga3, .ref ga4, .ref ga5, .ref ga6, .ref ga7, .ref ga8, .int 0, .int 0, .int 0, .int 0, .int (-1)])), (q_22, .inl (cI, 338, .inl (fun _ => 0))), (q_23, .inl (cI, 12, .inl (fun _ => 0))), (q_24, .inl (cI, 602, .inl (fun _ => 0)))] H := hP
  have hD : va_D A [(h0, .inr (5, [.ref sc, .ref q_22, .ref q_23, .ref q_24, .ref g, .null, .int 0, .int 0, .int 0, .int 0, .int 0, .int 0, .int 0, .int 0, .int 0, .int 0])), (sc, .inr (6, [.ref g, .int (-1), .ref td])), (g, .inr (3, [.ref gc, .ref ga1, .ref ga2, .ref ga3, .ref ga4, .ref ga5, .ref ga6, .ref ga7, .ref ga8, .int 0, .int 0, .int 0, .int 0, .int (-1)])), (q_22, .inl (cI, 338, .inl (fun _ => 0))), (q_23, .inl (cI, 12, .inl (fun _ => 0))), (q_24, .inl (cI, 602, .inl (fun _ => 0)))] := hD
  refine lv_aload_n hx hb dX6_init_43 rfl (lv_at hl 0 rfl) ?_
  refine lv_aload_n hx hb dX6_init_44 rfl (lv_at hl 1 rfl) ?_
  refine va_get (D := (dC, dI)) (ci := 6) (v := .ref g) (C := RX7) (T := TX7) (N := 3) hx hb hts iwwsX6_init_7 hown hK hP 1 rfl rfl 0 (by decide) (hts (.fieldLink RX6 25 "NothingJudge$Scene" "program" "LNothingJudge$Program;") fwwsX6_init_25) (fun _ h9 => h9) rfl dX6_init_45 ?_
  refine va_get (D := (dC, dI)) (ci := 3) (v := .ref gc) (C := RX3) (T := TX3) (N := 14) hx hb hts iwwsX6_init_3 hown hK hP 2 rfl rfl 0 (by decide) (hts (.fieldLink RX6 32 "NothingJudge$Program" "code" "LNothingJudge$Code;") fwwsX6_init_32) (fun _ h9 => h9) rfl dX6_init_48 ?_
  refine va_put (D := (dC, dI)) (ci := 5) (v := .ref gc) (ty := .object "NothingJudge$Code") (C := RX6) (T := TX6) (N := 16) hx hb hts iwwsX6_init_6 tyX6 tyX6_ok nmX6 hown hK hP hD hS 0 rfl rfl 5 (by decide) (hts (.fieldLink RX6 38 "NothingJudge$Runner" "code" "LNothingJudge$Code;") fwwsX6_init_38) (fun _ h9 => h9) rfl (by decide +kernel) rfl rfl (Nat.le_of_ble_eq_true rfl) dX6_init_51 (fun H locs hP hD hS => ?_)
  have hP : va_P (dC, dI) vwCl [(h0, .inr (5, [.ref sc, .ref q_22, .ref q_23, .ref q_24, .ref g, .ref gc, .int 0, .int 0, .int 0, .int 0, .int 0, .int 0, .int 0, .int 0, .int 0, .int 0])), (sc, .inr (6, [.ref g, .int (-1), .ref td])), (g, .inr (3, [.ref gc, .ref ga1, .ref ga2, .ref ga3, .ref ga4, .ref ga5, .ref ga6, .ref ga7, .ref ga8, .int 0, .int 0, .int 0, .int 0, .int (-1)])), (q_22, .inl (cI, 338, .inl (fun _ => 0))), (q_23, .inl (cI, 12, .inl (fun _ => 0))), (q_24, .inl (cI, 602, .inl (fun _ => 0)))] H := hP
  have hD : va_D A [(h0, .inr (5, [.ref sc, .ref q_22, .ref q_23, .ref q_24, .ref g, .ref gc, .int 0, .int 0, .int 0, .int 0, .int 0, .int 0, .int 0, .int 0, .int 0, .int 0])), (sc, .inr (6, [.ref g, .int (-1), .ref td])), (g, .inr (3, [.ref gc, .ref ga1, .ref ga2, .ref ga3, .ref ga4, .ref ga5, .ref ga6, .ref ga7, .ref ga8, .int 0, .int 0, .int 0, .int 0, .int (-1)])), (q_22, .inl (cI, 338, .inl (fun _ => 0))), (q_23, .inl (cI, 12, .inl (fun _ => 0))), (q_24, .inl (cI, 602, .inl (fun _ => 0)))] := hD
  have hP9 := hP.sub (ws' := [(sc, .inr (6, [.ref g, .int (-1), .ref td])), (g, .inr (3, [.ref gc, .ref ga1, .ref ga2, .ref ga3, .ref ga4, .ref ga5, .ref ga6, .ref ga7, .ref ga8, .int 0, .int 0, .int 0, .int 0, .int (-1)]))]) [1, 2] rfl
  have hD9 := hD.sub (ws' := [(sc, .inr (6, [.ref g, .int (-1), .ref td])), (g, .inr (3, [.ref gc, .ref ga1, .ref ga2, .ref ga3, .ref ga4, .ref ga5, .ref ga6, .ref ga7, .ref ga8, .int 0, .int 0, .int 0, .int 0, .int (-1)]))]) [1, 2] (by decide) rfl
  exact W.vret hx hb hr (fun t ht hW => ⟨⟨(), rfl, trivial, by rw [ht]; exact hP9, hD9⟩, hS.F ht⟩) hS.2.2 dX6_init_54

set_option maxHeartbeats 4000000 in
set_option maxRecDepth 100000 in
theorem c_X9_init (l : Launch) (dC : Nat → ClassId) (dI : Nat → Nat → Nat) (cI cB cL cZ : ClassId) (h0 : Nat) (sc : Nat) (rn : Nat) (sz : Nat)  : Met l yX9_init wsX9_init ({ frames := 1, cells := 2, slots := 296, locals := 12 }) (cP (dC, dI) (kTy cI cB cL cZ) [.ref h0, .ref sc, .ref rn] [(h0, .inr (8, [.null, .null, .null, .null, .int 0, .int 0]))] sz) (va_Qv (fun _ : Unit => True) (fun (_ : Unit) (t : State) => ∃ qz0 : Nat, ∃ qz1 : Nat, va_P (dC, dI) vwCl [(h0, .inr (8, [.ref sc, .ref rn, .ref qz0, .ref qz1, .int 1, .int 0]))] t.heap ∧ va_D (va_A [(h0, .inr (8, [.null, .null, .null, .null, .int 0, .int 0]))] sz) [(h0, .inr (8, [.ref sc, .ref rn, .ref qz0, .ref qz1, .int 1, .int 0]))]) (va_A [(h0, .inr (8, [.null, .null, .null, .null, .int 0, .int 0]))] sz)) 2 296 (va_A [(h0, .inr (8, [.null, .null, .null, .null, .int 0, .int 0]))] sz) := by
  refine Met.ofW (cc := cX9_init) (maxL := 3) (ret := none) (by decide) rfl ?_
  intro p e s m args below meth c s₁ B hml hv
  obtain ⟨rfl, hsz, hP, hK, hD0, hN⟩ := hv
  have hx := B.exec
  have hb := B.bytes
  have hr := B.returns
  have hts := atoms_spec (ws := wsX9_init) B.pre
  have hown : s.vm.findClass RX9 = some m.cls := findClass_of_methodNamed B.named
  have hlocks := B.notSynchronized
  have hin : meth.name = "<init>" := (name_of_methodNamed B.named B.method).1
  subst hsz
  have hD := hD0.self (sz := s.heap.size)
  generalize hAe : va_A [(h0, .inr (8, [.null, .null, .null, .null, .int 0, .int 0]))] s.heap.size = A at hD ⊢
  have hA : ∀ q : Nat, s.heap.size ≤ q → A q := fun q h => by rw [← hAe]; exact Or.inr h
  have hl := lv_entry ([.ref h0, .ref sc, .ref rn]) (n := 3) (Nat.le_of_ble_eq_true rfl)
  rw [lg_entry_eq]
  generalize (lg_sl ([.ref h0, .ref sc, .ref rn]) ++ List.replicate (3 - (lg_sl ([.ref h0, .ref sc, .ref rn])).length) Slot.unset).toArray = ls at hl ⊢
  have hl : lv_has ls 3 [(0, .ref h0), (1, .ref sc), (2, .ref rn)] := hl
  refine k_H (A := A) hP (fun H hP hS => ?_)
  have hP : va_P (dC, dI) vwCl [(h0, .inr (8, [.null, .null, .null, .null, .int 0, .int 0]))] H := hP
  have hD : va_D A [(h0, .inr (8, [.null, .null, .null, .null, .int 0, .int 0]))] := hD
  refine lv_aload_n hx hb dX9_init_0 rfl (lv_at hl 0 rfl) ?_
  refine W.objInit hx hb hown (hts (.methodLink RX9 3 objectInit) ol_wsX9_init) (hts (.instanceMethod objectInit) oi_wsX9_init) (hts (.code objectInit ⟨#[0xb1]⟩ 1 none) oc_wsX9_init) rfl (by rw [hml]; exact hl.1) rfl dX9_init_1 (Nat.le_of_ble_eq_true rfl) (Nat.le_of_ble_eq_true rfl) ?_
  refine W.eq (g2 := F0 m 4 ls []) rfl ?_
  refine lv_aload_n hx hb dX9_init_4 rfl (lv_at hl 0 rfl) ?_
  refine lv_bipush (v := 40) hx hb dX9_init_5 (by decide) ?_
  refine k_newa (atype := .int) hx hb (hts (.arrayClass .int) ac_int_wsX9_init) rfl hK 0 rfl (fun _ h9 => h9) (a0 := (40, .inl (fun _ => 0))) (N' := 40) hP hD hS hA (fun _ => rfl) (by decide) (by decide) (by decide) (Nat.le_of_ble_eq_true rfl) (Nat.le_of_ble_eq_true rfl) dX9_init_7 (fun q_25 H hP hD hS => ?_)
  have hP : va_P (dC, dI) vwCl [(h0, .inr (8, [.null, .null, .null, .null, .int 0, .int 0])), (q_25, .inl (cI, 40, .inl (fun _ => 0)))] H := hP
  have hD : va_D A [(h0, .inr (8, [.null, .null, .null, .null, .int 0, .int 0])), (q_25, .inl (cI, 40, .inl (fun _ => 0)))] := hD
  refine W.widen (k := 1) (n := 40) (Nat.le_of_ble_eq_true rfl) (Nat.le_of_ble_eq_true rfl) ?_
  refine va_putF (D := (dC, dI)) (ci := 8) (v := .ref q_25) (ty := .array .int) (C := RX9) (T := TX9) (N := 6) hx hb hts iwwsX9_init_9 tyX9 tyX9_ok nmX9 hown hK hP hD hS 0 rfl rfl 2 (by decide) (hts (.fieldLink RX9 9 "NothingJudge$Trials" "first" "[I") fwwsX9_init_9) (fun _ h9 => h9) rfl hin rfl (by decide +kernel) rfl rfl (Nat.le_of_ble_eq_true rfl) dX9_init_9 (fun H locs hP hD hS => ?_)
  have hP : va_P (dC, dI) vwCl [(h0, .inr (8, [.null, .null, .ref q_25, .null, .int 0, .int 0])), (q_25, .inl (cI, 40, .inl (fun _ => 0)))] H := hP
  have hD : va_D A [(h0, .inr (8, [.null, .null, .ref q_25, .null, .int 0, .int 0])), (q_25, .inl (cI, 40, .inl (fun _ => 0)))] := hD
  refine lv_aload_n hx hb dX9_init_12 rfl (lv_at hl 0 rfl) ?_
  refine lv_sipush (v := 256) hx hb dX9_init_13 (by decide) ?_
  refine k_newa (atype := .int) hx hb (hts (.arrayClass .int) ac_int_wsX9_init) rfl hK 0 rfl (fun _ h9 => h9) (a0 := (256, .inl (fun _ => 0))) (N' := 256) hP hD hS hA (fun _ => rfl) (by decide) (by decide) (by decide) (Nat.le_of_ble_eq_true rfl) (Nat.le_of_ble_eq_true rfl) dX9_init_16 (fun q_26 H hP hD hS => ?_)
  have hP : va_P (dC, dI) vwCl [(h0, .inr (8, [.null, .null, .ref q_25, .null, .int 0, .int 0])), (q_25, .inl (cI, 40, .inl (fun _ => 0))), (q_26, .inl (cI, 256, .inl (fun _ => 0)))] H := hP
  have hD : va_D A [(h0, .inr (8, [.null, .null, .ref q_25, .null, .int 0, .int 0])), (q_25, .inl (cI, 40, .inl (fun _ => 0))), (q_26, .inl (cI, 256, .inl (fun _ => 0)))] := hD
  refine W.widen (k := 2) (n := 296) (Nat.le_of_ble_eq_true rfl) (Nat.le_of_ble_eq_true rfl) ?_
  refine va_putF (D := (dC, dI)) (ci := 8) (v := .ref q_26) (ty := .array .int) (C := RX9) (T := TX9) (N := 6) hx hb hts iwwsX9_init_9 tyX9 tyX9_ok nmX9 hown hK hP hD hS 0 rfl rfl 3 (by decide) (hts (.fieldLink RX9 15 "NothingJudge$Trials" "knownFor" "[I") fwwsX9_init_15) (fun _ h9 => h9) rfl hin rfl (by decide +kernel) rfl rfl (Nat.le_of_ble_eq_true rfl) dX9_init_18 (fun H locs hP hD hS => ?_)
  have hP : va_P (dC, dI) vwCl [(h0, .inr (8, [.null, .null, .ref q_25, .ref q_26, .int 0, .int 0])), (q_25, .inl (cI, 40, .inl (fun _ => 0))), (q_26, .inl (cI, 256, .inl (fun _ => 0)))] H := hP
  have hD : va_D A [(h0, .inr (8, [.null, .null, .ref q_25, .ref q_26, .int 0, .int 0])), (q_25, .inl (cI, 40, .inl (fun _ => 0))), (q_26, .inl (cI, 256, .inl (fun _ => 0)))] := hD
  refine lv_aload_n hx hb dX9_init_21 rfl (lv_at hl 0 rfl) ?_
  refine lv_iconst (v := 1) hx hb dX9_init_22 (by decide) ?_
  refine va_put (D := (dC, dI)) (ci := 8) (v := .int 1) (ty := .boolean) (C := RX9) (T := TX9) (N := 6) hx hb hts iwwsX9_init_9 tyX9 tyX9_ok nmX9 hown hK hP hD hS 0 rfl rfl 4 (by decide) (hts (.fieldLink RX9 18 "NothingJudge$Trials" "stale" "Z") fwwsX9_init_18) (fun _ h9 => h9) rfl (by decide +kernel) rfl rfl (Nat.le_of_ble_eq_true rfl) dX9_init_23 (fun H locs hP hD hS => ?_)
  have hP : va_P (dC, dI) vwCl [(h0, .inr (8, [.null, .null, .ref q_25, .ref q_26, .int 1, .int 0])), (q_25, .inl (cI, 40, .inl (fun _ => 0))), (q_26, .inl (cI, 256, .inl (fun _ => 0)))] H := hP
  have hD : va_D A [(h0, .inr (8, [.null, .null, .ref q_25, .ref q_26, .int 1, .int 0])), (q_25, .inl (cI, 40, .inl (fun _ => 0))), (q_26, .inl (cI, 256, .inl (fun _ => 0)))] := hD
  refine lv_aload_n hx hb dX9_init_26 rfl (lv_at hl 0 rfl) ?_
  refine lv_aload_n hx hb dX9_init_27 rfl (lv_at hl 1 rfl) ?_
  refine va_putF (D := (dC, dI)) (ci := 8) (v := .ref sc) (ty := .object "NothingJudge$Scene") (C := RX9) (T := TX9) (N := 6) hx hb hts iwwsX9_init_9 tyX9 tyX9_ok nmX9 hown hK hP hD hS 0 rfl rfl 0 (by decide) (hts (.fieldLink RX9 22 "NothingJudge$Trials" "scene" "LNothingJudge$Scene;") fwwsX9_init_22) (fun _ h9 => h9) rfl hin rfl (by decide +kernel) rfl rfl (Nat.le_of_ble_eq_true rfl) dX9_init_28 (fun H locs hP hD hS => ?_)
  have hP : va_P (dC, dI) vwCl [(h0, .inr (8, [.ref sc, .null, .ref q_25, .ref q_26, .int 1, .int 0])), (q_25, .inl (cI, 40, .inl (fun _ => 0))), (q_26, .inl (cI, 256, .inl (fun _ => 0)))] H := hP
  have hD : va_D A [(h0, .inr (8, [.ref sc, .null, .ref q_25, .ref q_26, .int 1, .int 0])), (q_25, .inl (cI, 40, .inl (fun _ => 0))), (q_26, .inl (cI, 256, .inl (fun _ => 0)))] := hD
  refine lv_aload_n hx hb dX9_init_31 rfl (lv_at hl 0 rfl) ?_
  refine lv_aload_n hx hb dX9_init_32 rfl (lv_at hl 2 rfl) ?_
  refine va_putF (D := (dC, dI)) (ci := 8) (v := .ref rn) (ty := .object "NothingJudge$Runner") (C := RX9) (T := TX9) (N := 6) hx hb hts iwwsX9_init_9 tyX9 tyX9_ok nmX9 hown hK hP hD hS 0 rfl rfl 1 (by decide) (hts (.fieldLink RX9 26 "NothingJudge$Trials" "runner" "LNothingJudge$Runner;") fwwsX9_init_26) (fun _ h9 => h9) rfl hin rfl (by decide +kernel) rfl rfl (Nat.le_of_ble_eq_true rfl) dX9_init_33 (fun H locs hP hD hS => ?_)
  have hP : va_P (dC, dI) vwCl [(h0, .inr (8, [.ref sc, .ref rn, .ref q_25, .ref q_26, .int 1, .int 0])), (q_25, .inl (cI, 40, .inl (fun _ => 0))), (q_26, .inl (cI, 256, .inl (fun _ => 0)))] H := hP
  have hD : va_D A [(h0, .inr (8, [.ref sc, .ref rn, .ref q_25, .ref q_26, .int 1, .int 0])), (q_25, .inl (cI, 40, .inl (fun _ => 0))), (q_26, .inl (cI, 256, .inl (fun _ => 0)))] := hD
  have hP9 := hP.sub (ws' := [(h0, .inr (8, [.ref sc, .ref rn, .ref q_25, .ref q_26, .int 1, .int 0]))]) [0] rfl
  have hD9 := hD.sub (ws' := [(h0, .inr (8, [.ref sc, .ref rn, .ref q_25, .ref q_26, .int 1, .int 0]))]) [0] (by decide) rfl
  exact W.vret hx hb hr (fun t ht hW => ⟨⟨(), rfl, trivial, q_25, q_26, by rw [ht]; exact hP9, hD9⟩, hS.F ht⟩) hS.2.2 dX9_init_36

set_option maxHeartbeats 4000000 in
set_option maxRecDepth 100000 in
theorem c_X2_init (l : Launch) (dC : Nat → ClassId) (dI : Nat → Nat → Nat) (cI cB cL cZ : ClassId) (h0 : Nat) (fc : Nat) (sz : Nat)  : Met l yX2_init wsX2_init ({ frames := 1, cells := 3, slots := 24, locals := 12 }) (cP (dC, dI) (kTy cI cB cL cZ) [.ref h0, .ref fc] [(h0, .inr (2, [.null, .null, .null, .null, .int 0, .int 0, .int 0, .int 0, .int 0, .int 0]))] sz) (va_Qv (fun _ : Unit => True) (fun (_ : Unit) (t : State) => ∃ qz0 : Nat, ∃ qz1 : Nat, ∃ qz2 : Nat, ∃ fz3 : Nat → Int32, va_P (dC, dI) vwCl [(h0, .inr (2, [.ref fc, .ref qz0, .ref qz1, .ref qz2, .int 1, .int 0, .int 0, .int (-1), .int 0, .int 0])), (qz0, .inl (cI, 4, .inl fz3))] t.heap ∧ va_D (va_A [(h0, .inr (2, [.null, .null, .null, .null, .int 0, .int 0, .int 0, .int 0, .int 0, .int 0]))] sz) [(h0, .inr (2, [.ref fc, .ref qz0, .ref qz1, .ref qz2, .int 1, .int 0, .int 0, .int (-1), .int 0, .int 0])), (qz0, .inl (cI, 4, .inl fz3))]) (va_A [(h0, .inr (2, [.null, .null, .null, .null, .int 0, .int 0, .int 0, .int 0, .int 0, .int 0]))] sz)) 3 24 (va_A [(h0, .inr (2, [.null, .null, .null, .null, .int 0, .int 0, .int 0, .int 0, .int 0, .int 0]))] sz) := by
  refine Met.ofW (cc := cX2_init) (maxL := 2) (ret := none) (by decide) rfl ?_
  intro p e s m args below meth c s₁ B hml hv
  obtain ⟨rfl, hsz, hP, hK, hD0, hN⟩ := hv
  have hx := B.exec
  have hb := B.bytes
  have hr := B.returns
  have hts := atoms_spec (ws := wsX2_init) B.pre
  have hown : s.vm.findClass RX2 = some m.cls := findClass_of_methodNamed B.named
  have hlocks := B.notSynchronized
  have hin : meth.name = "<init>" := (name_of_methodNamed B.named B.method).1
  subst hsz
  have hD := hD0.self (sz := s.heap.size)
  generalize hAe : va_A [(h0, .inr (2, [.null, .null, .null, .null, .int 0, .int 0, .int 0, .int 0, .int 0, .int 0]))] s.heap.size = A at hD ⊢
  have hA : ∀ q : Nat, s.heap.size ≤ q → A q := fun q h => by rw [← hAe]; exact Or.inr h
  have hl := lv_entry ([.ref h0, .ref fc]) (n := 2) (Nat.le_of_ble_eq_true rfl)
  rw [lg_entry_eq]
  generalize (lg_sl ([.ref h0, .ref fc]) ++ List.replicate (2 - (lg_sl ([.ref h0, .ref fc])).length) Slot.unset).toArray = ls at hl ⊢
  have hl : lv_has ls 2 [(0, .ref h0), (1, .ref fc)] := hl
  refine k_H (A := A) hP (fun H hP hS => ?_)
  have hP : va_P (dC, dI) vwCl [(h0, .inr (2, [.null, .null, .null, .null, .int 0, .int 0, .int 0, .int 0, .int 0, .int 0]))] H := hP
  have hD : va_D A [(h0, .inr (2, [.null, .null, .null, .null, .int 0, .int 0, .int 0, .int 0, .int 0, .int 0]))] := hD
  refine lv_aload_n hx hb dX2_init_0 rfl (lv_at hl 0 rfl) ?_
  refine W.objInit hx hb hown (hts (.methodLink RX2 3 objectInit) ol_wsX2_init) (hts (.instanceMethod objectInit) oi_wsX2_init) (hts (.code objectInit ⟨#[0xb1]⟩ 1 none) oc_wsX2_init) rfl (by rw [hml]; exact hl.1) rfl dX2_init_1 (Nat.le_of_ble_eq_true rfl) (Nat.le_of_ble_eq_true rfl) ?_
  refine W.eq (g2 := F0 m 4 ls []) rfl ?_
  refine lv_aload_n hx hb dX2_init_4 rfl (lv_at hl 0 rfl) ?_
  refine lv_iconst (v := 4) hx hb dX2_init_5 (by decide) ?_
  refine k_newa (atype := .int) hx hb (hts (.arrayClass .int) ac_int_wsX2_init) rfl hK 0 rfl (fun _ h9 => h9) (a0 := (4, .inl (fun _ => 0))) (N' := 4) hP hD hS hA (fun _ => rfl) (by decide) (by decide) (by decide) (Nat.le_of_ble_eq_true rfl) (Nat.le_of_ble_eq_true rfl) dX2_init_6 (fun q_27 H hP hD hS => ?_)
  have hP : va_P (dC, dI) vwCl [(h0, .inr (2, [.null, .null, .null, .null, .int 0, .int 0, .int 0, .int 0, .int 0, .int 0])), (q_27, .inl (cI, 4, .inl (fun _ => 0)))] H := hP
  have hD : va_D A [(h0, .inr (2, [.null, .null, .null, .null, .int 0, .int 0, .int 0, .int 0, .int 0, .int 0])), (q_27, .inl (cI, 4, .inl (fun _ => 0)))] := hD
  refine W.widen (k := 1) (n := 4) (Nat.le_of_ble_eq_true rfl) (Nat.le_of_ble_eq_true rfl) ?_
  refine lv_dup hx hb dX2_init_8 rfl ?_
  refine lv_iconst (v := 0) hx hb dX2_init_9 (by decide) ?_
  refine lv_iconst (v := 3) hx hb dX2_init_10 (by decide) ?_
  refine va_iast hx hb hK hP hD hS 1 0 rfl rfl (by unfold vp_in; decide) dX2_init_11 (fun H locs hP hD hS => ?_)
  obtain ⟨f_28, ef_28⟩ : ∃ z, z = upd (fun _ => 0) (0 : Int32).toNatClampNeg 3 := ⟨_, rfl⟩
  have hP : va_P (dC, dI) vwCl [(h0, .inr (2, [.null, .null, .null, .null, .int 0, .int 0, .int 0, .int 0, .int 0, .int 0])), (q_27, .inl (cI, 4, .inl f_28))] H := by rw [ef_28]; exact hP
  have hD : va_D A [(h0, .inr (2, [.null, .null, .null, .null, .int 0, .int 0, .int 0, .int 0, .int 0, .int 0])), (q_27, .inl (cI, 4, .inl f_28))] := by rw [ef_28]; exact hD
  refine lv_dup hx hb dX2_init_12 rfl ?_
  refine lv_iconst (v := 1) hx hb dX2_init_13 (by decide) ?_
  refine lv_iconst (v := 2) hx hb dX2_init_14 (by decide) ?_
  refine va_iast hx hb hK hP hD hS 1 0 rfl rfl (by unfold vp_in; decide) dX2_init_15 (fun H locs hP hD hS => ?_)
  obtain ⟨f_29, ef_29⟩ : ∃ z, z = upd f_28 (1 : Int32).toNatClampNeg 2 := ⟨_, rfl⟩
  have hP : va_P (dC, dI) vwCl [(h0, .inr (2, [.null, .null, .null, .null, .int 0, .int 0, .int 0, .int 0, .int 0, .int 0])), (q_27, .inl (cI, 4, .inl f_29))] H := by rw [ef_29]; exact hP
  have hD : va_D A [(h0, .inr (2, [.null, .null, .null, .null, .int 0, .int 0, .int 0, .int 0, .int 0, .int 0])), (q_27, .inl (cI, 4, .inl f_29))] := by rw [ef_29]; exact hD
  refine lv_dup hx hb dX2_init_16 rfl ?_
  refine lv_iconst (v := 2) hx hb dX2_init_17 (by decide) ?_
  refine lv_iconst (v := 5) hx hb dX2_init_18 (by decide) ?_
  refine va_iast hx hb hK hP hD hS 1 0 rfl rfl (by unfold vp_in; decide) dX2_init_19 (fun H locs hP hD hS => ?_)
  obtain ⟨f_30, ef_30⟩ : ∃ z, z = upd f_29 (2 : Int32).toNatClampNeg 5 := ⟨_, rfl⟩
  have hP : va_P (dC, dI) vwCl [(h0, .inr (2, [.null, .null, .null, .null, .int 0, .int 0, .int 0, .int 0, .int 0, .int 0])), (q_27, .inl (cI, 4, .inl f_30))] H := by rw [ef_30]; exact hP
  have hD : va_D A [(h0, .inr (2, [.null, .null, .null, .null, .int 0, .int 0, .int 0, .int 0, .int 0, .int 0])), (q_27, .inl (cI, 4, .inl f_30))] := by rw [ef_30]; exact hD
  refine lv_dup hx hb dX2_init_20 rfl ?_
  refine lv_iconst (v := 3) hx hb dX2_init_21 (by decide) ?_
  refine lv_iconst (v := 4) hx hb dX2_init_22 (by decide) ?_
  refine va_iast hx hb hK hP hD hS 1 0 rfl rfl (by unfold vp_in; decide) dX2_init_23 (fun H locs hP hD hS => ?_)
  obtain ⟨f_31, ef_31⟩ : ∃ z, z = upd f_30 (3 : Int32).toNatClampNeg 4 := ⟨_, rfl⟩
  have hP : va_P (dC, dI) vwCl [(h0, .inr (2, [.null, .null, .null, .null, .int 0, .int 0, .int 0, .int 0, .int 0, .int 0])), (q_27, .inl (cI, 4, .inl f_31))] H := by rw [ef_31]; exact hP
  have hD : va_D A [(h0, .inr (2, [.null, .null, .null, .null, .int 0, .int 0, .int 0, .int 0, .int 0, .int 0])), (q_27, .inl (cI, 4, .inl f_31))] := by rw [ef_31]; exact hD
  refine va_putF (D := (dC, dI)) (ci := 2) (v := .ref q_27) (ty := .array .int) (C := RX2) (T := TX2) (N := 10) hx hb hts iwwsX2_init_2 tyX2 tyX2_ok nmX2 hown hK hP hD hS 0 rfl rfl 1 (by decide) (hts (.fieldLink RX2 9 "NothingJudge$Mender" "prices" "[I") fwwsX2_init_9) (fun _ h9 => h9) rfl hin rfl (by decide +kernel) rfl rfl (Nat.le_of_ble_eq_true rfl) dX2_init_24 (fun H locs hP hD hS => ?_)
  have hP : va_P (dC, dI) vwCl [(h0, .inr (2, [.null, .ref q_27, .null, .null, .int 0, .int 0, .int 0, .int 0, .int 0, .int 0])), (q_27, .inl (cI, 4, .inl f_31))] H := hP
  have hD : va_D A [(h0, .inr (2, [.null, .ref q_27, .null, .null, .int 0, .int 0, .int 0, .int 0, .int 0, .int 0])), (q_27, .inl (cI, 4, .inl f_31))] := hD
  refine lv_aload_n hx hb dX2_init_27 rfl (lv_at hl 0 rfl) ?_
  refine lv_bipush (v := 10) hx hb dX2_init_28 (by decide) ?_
  refine k_newa (atype := .int) hx hb (hts (.arrayClass .int) ac_int_wsX2_init) rfl hK 0 rfl (fun _ h9 => h9) (a0 := (10, .inl (fun _ => 0))) (N' := 10) hP hD hS hA (fun _ => rfl) (by decide) (by decide) (by decide) (Nat.le_of_ble_eq_true rfl) (Nat.le_of_ble_eq_true rfl) dX2_init_30 (fun q_32 H hP hD hS => ?_)
  have hP : va_P (dC, dI) vwCl [(h0, .inr (2, [.null, .ref q_27, .null, .null, .int 0, .int 0, .int 0, .int 0, .int 0, .int 0])), (q_27, .inl (cI, 4, .inl f_31)), (q_32, .inl (cI, 10, .inl (fun _ => 0)))] H := hP
  have hD : va_D A [(h0, .inr (2, [.null, .ref q_27, .null, .null, .int 0, .int 0, .int 0, .int 0, .int 0, .int 0])), (q_27, .inl (cI, 4, .inl f_31)), (q_32, .inl (cI, 10, .inl (fun _ => 0)))] := hD
  refine W.widen (k := 2) (n := 14) (Nat.le_of_ble_eq_true rfl) (Nat.le_of_ble_eq_true rfl) ?_
  refine va_putF (D := (dC, dI)) (ci := 2) (v := .ref q_32) (ty := .array .int) (C := RX2) (T := TX2) (N := 10) hx hb hts iwwsX2_init_2 tyX2 tyX2_ok nmX2 hown hK hP hD hS 0 rfl rfl 2 (by decide) (hts (.fieldLink RX2 15 "NothingJudge$Mender" "candidates" "[I") fwwsX2_init_15) (fun _ h9 => h9) rfl hin rfl (by decide +kernel) rfl rfl (Nat.le_of_ble_eq_true rfl) dX2_init_32 (fun H locs hP hD hS => ?_)
  have hP : va_P (dC, dI) vwCl [(h0, .inr (2, [.null, .ref q_27, .ref q_32, .null, .int 0, .int 0, .int 0, .int 0, .int 0, .int 0])), (q_27, .inl (cI, 4, .inl f_31)), (q_32, .inl (cI, 10, .inl (fun _ => 0)))] H := hP
  have hD : va_D A [(h0, .inr (2, [.null, .ref q_27, .ref q_32, .null, .int 0, .int 0, .int 0, .int 0, .int 0, .int 0])), (q_27, .inl (cI, 4, .inl f_31)), (q_32, .inl (cI, 10, .inl (fun _ => 0)))] := hD
  refine lv_aload_n hx hb dX2_init_35 rfl (lv_at hl 0 rfl) ?_
  refine lv_bipush (v := 10) hx hb dX2_init_36 (by decide) ?_
  refine k_newa (atype := .int) hx hb (hts (.arrayClass .int) ac_int_wsX2_init) rfl hK 0 rfl (fun _ h9 => h9) (a0 := (10, .inl (fun _ => 0))) (N' := 10) hP hD hS hA (fun _ => rfl) (by decide) (by decide) (by decide) (Nat.le_of_ble_eq_true rfl) (Nat.le_of_ble_eq_true rfl) dX2_init_38 (fun q_33 H hP hD hS => ?_)
  have hP : va_P (dC, dI) vwCl [(h0, .inr (2, [.null, .ref q_27, .ref q_32, .null, .int 0, .int 0, .int 0, .int 0, .int 0, .int 0])), (q_27, .inl (cI, 4, .inl f_31)), (q_32, .inl (cI, 10, .inl (fun _ => 0))), (q_33, .inl (cI, 10, .inl (fun _ => 0)))] H := hP
  have hD : va_D A [(h0, .inr (2, [.null, .ref q_27, .ref q_32, .null, .int 0, .int 0, .int 0, .int 0, .int 0, .int 0])), (q_27, .inl (cI, 4, .inl f_31)), (q_32, .inl (cI, 10, .inl (fun _ => 0))), (q_33, .inl (cI, 10, .inl (fun _ => 0)))] := hD
  refine W.widen (k := 3) (n := 24) (Nat.le_of_ble_eq_true rfl) (Nat.le_of_ble_eq_true rfl) ?_
  refine va_putF (D := (dC, dI)) (ci := 2) (v := .ref q_33) (ty := .array .int) (C := RX2) (T := TX2) (N := 10) hx hb hts iwwsX2_init_2 tyX2 tyX2_ok nmX2 hown hK hP hD hS 0 rfl rfl 3 (by decide) (hts (.fieldLink RX2 18 "NothingJudge$Mender" "heldNames" "[I") fwwsX2_init_18) (fun _ h9 => h9) rfl hin rfl (by decide +kernel) rfl rfl (Nat.le_of_ble_eq_true rfl) dX2_init_40 (fun H locs hP hD hS => ?_)
  have hP : va_P (dC, dI) vwCl [(h0, .inr (2, [.null, .ref q_27, .ref q_32, .ref q_33, .int 0, .int 0, .int 0, .int 0, .int 0, .int 0])), (q_27, .inl (cI, 4, .inl f_31)), (q_32, .inl (cI, 10, .inl (fun _ => 0))), (q_33, .inl (cI, 10, .inl (fun _ => 0)))] H := hP
  have hD : va_D A [(h0, .inr (2, [.null, .ref q_27, .ref q_32, .ref q_33, .int 0, .int 0, .int 0, .int 0, .int 0, .int 0])), (q_27, .inl (cI, 4, .inl f_31)), (q_32, .inl (cI, 10, .inl (fun _ => 0))), (q_33, .inl (cI, 10, .inl (fun _ => 0)))] := hD
  refine lv_aload_n hx hb dX2_init_43 rfl (lv_at hl 0 rfl) ?_
  refine lv_iconst (v := 1) hx hb dX2_init_44 (by decide) ?_
  refine va_put (D := (dC, dI)) (ci := 2) (v := .int 1) (ty := .boolean) (C := RX2) (T := TX2) (N := 10) hx hb hts iwwsX2_init_2 tyX2 tyX2_ok nmX2 hown hK hP hD hS 0 rfl rfl 4 (by decide) (hts (.fieldLink RX2 21 "NothingJudge$Mender" "stale" "Z") fwwsX2_init_21) (fun _ h9 => h9) rfl (by decide +kernel) rfl rfl (Nat.le_of_ble_eq_true rfl) dX2_init_45 (fun H locs hP hD hS => ?_)
  have hP : va_P (dC, dI) vwCl [(h0, .inr (2, [.null, .ref q_27, .ref q_32, .ref q_33, .int 1, .int 0, .int 0, .int 0, .int 0, .int 0])), (q_27, .inl (cI, 4, .inl f_31)), (q_32, .inl (cI, 10, .inl (fun _ => 0))), (q_33, .inl (cI, 10, .inl (fun _ => 0)))] H := hP
  have hD : va_D A [(h0, .inr (2, [.null, .ref q_27, .ref q_32, .ref q_33, .int 1, .int 0, .int 0, .int 0, .int 0, .int 0])), (q_27, .inl (cI, 4, .inl f_31)), (q_32, .inl (cI, 10, .inl (fun _ => 0))), (q_33, .inl (cI, 10, .inl (fun _ => 0)))] := hD
  refine lv_aload_n hx hb dX2_init_48 rfl (lv_at hl 0 rfl) ?_
  refine lv_iconst (v := (-1)) hx hb dX2_init_49 (by decide) ?_
  refine va_put (D := (dC, dI)) (ci := 2) (v := .int (-1)) (ty := .int) (C := RX2) (T := TX2) (N := 10) hx hb hts iwwsX2_init_2 tyX2 tyX2_ok nmX2 hown hK hP hD hS 0 rfl rfl 7 (by decide) (hts (.fieldLink RX2 25 "NothingJudge$Mender" "cost" "I") fwwsX2_init_25) (fun _ h9 => h9) rfl (by decide +kernel) rfl rfl (Nat.le_of_ble_eq_true rfl) dX2_init_50 (fun H locs hP hD hS => ?_)
  have hP : va_P (dC, dI) vwCl [(h0, .inr (2, [.null, .ref q_27, .ref q_32, .ref q_33, .int 1, .int 0, .int 0, .int (-1), .int 0, .int 0])), (q_27, .inl (cI, 4, .inl f_31)), (q_32, .inl (cI, 10, .inl (fun _ => 0))), (q_33, .inl (cI, 10, .inl (fun _ => 0)))] H := hP
  have hD : va_D A [(h0, .inr (2, [.null, .ref q_27, .ref q_32, .ref q_33, .int 1, .int 0, .int 0, .int (-1), .int 0, .int 0])), (q_27, .inl (cI, 4, .inl f_31)), (q_32, .inl (cI, 10, .inl (fun _ => 0))), (q_33, .inl (cI, 10, .inl (fun _ => 0)))] := hD
  refine lv_aload_n hx hb dX2_init_53 rfl (lv_at hl 0 rfl) ?_
  refine lv_aload_n hx hb dX2_init_54 rfl (lv_at hl 1 rfl) ?_
  refine va_putF (D := (dC, dI)) (ci := 2) (v := .ref fc) (ty := .object "NothingJudge$Facts") (C := RX2) (T := TX2) (N := 10) hx hb hts iwwsX2_init_2 tyX2 tyX2_ok nmX2 hown hK hP hD hS 0 rfl rfl 0 (by decide) (hts (.fieldLink RX2 29 "NothingJudge$Mender" "facts" "LNothingJudge$Facts;") fwwsX2_init_29) (fun _ h9 => h9) rfl hin rfl (by decide +kernel) rfl rfl (Nat.le_of_ble_eq_true rfl) dX2_init_55 (fun H locs hP hD hS => ?_)
  have hP : va_P (dC, dI) vwCl [(h0, .inr (2, [.ref fc, .ref q_27, .ref q_32, .ref q_33, .int 1, .int 0, .int 0, .int (-1), .int 0, .int 0])), (q_27, .inl (cI, 4, .inl f_31)), (q_32, .inl (cI, 10, .inl (fun _ => 0))), (q_33, .inl (cI, 10, .inl (fun _ => 0)))] H := hP
  have hD : va_D A [(h0, .inr (2, [.ref fc, .ref q_27, .ref q_32, .ref q_33, .int 1, .int 0, .int 0, .int (-1), .int 0, .int 0])), (q_27, .inl (cI, 4, .inl f_31)), (q_32, .inl (cI, 10, .inl (fun _ => 0))), (q_33, .inl (cI, 10, .inl (fun _ => 0)))] := hD
  have hP9 := hP.sub (ws' := [(h0, .inr (2, [.ref fc, .ref q_27, .ref q_32, .ref q_33, .int 1, .int 0, .int 0, .int (-1), .int 0, .int 0])), (q_27, .inl (cI, 4, .inl f_31))]) [0, 1] rfl
  have hD9 := hD.sub (ws' := [(h0, .inr (2, [.ref fc, .ref q_27, .ref q_32, .ref q_33, .int 1, .int 0, .int 0, .int (-1), .int 0, .int 0])), (q_27, .inl (cI, 4, .inl f_31))]) [0, 1] (by decide) rfl
  exact W.vret hx hb hr (fun t ht hW => ⟨⟨(), rfl, trivial, q_27, q_32, q_33, f_31, by rw [ht]; exact hP9, hD9⟩, hS.F ht⟩) hS.2.2 dX2_init_58
