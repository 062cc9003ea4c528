set_option maxHeartbeats 4000000 in
set_option maxRecDepth 100000 in
theorem c_X0_init (l : Launch) (dC : Nat → ClassId) (dI : Nat → Nat → Nat) (cI cB cL cZ : ClassId) (h0 : Nat) (sz : Nat)  : Met l yX0_init wsX0_init ({ frames := 1, cells := 1, slots := 3648, locals := 12 }) (cP (dC, dI) (kTy cI cB cL cZ) [.ref h0] [(h0, .inr (0, [.null, .int 0]))] sz) (va_Qv (fun _ : Unit => True) (fun (_ : Unit) (t : State) => ∃ qz0 : Nat, va_P (dC, dI) vwCl [(h0, .inr (0, [.ref qz0, .int 0]))] t.heap ∧ va_D (va_A [(h0, .inr (0, [.null, .int 0]))] sz) [(h0, .inr (0, [.ref qz0, .int 0]))]) (va_A [(h0, .inr (0, [.null, .int 0]))] sz)) 1 3648 (va_A [(h0, .inr (0, [.null, .int 0]))] sz) := by
  refine Met.ofW (cc := cX0_init) (maxL := 1) (ret := none) (by decide) rfl ?_
  intro p e s m args below meth c s₁ B hml hv
  obtain ⟨rfl, hsz, hP, hK, hD0, hN⟩ := hv
  have hx := B.exec
  have hb := B.bytes
  have hr := B.returns
  have hts := atoms_spec (ws := wsX0_init) B.pre
  have hown : s.vm.findClass RX0 = some m.cls := findClass_of_methodNamed B.named
  have hlocks := B.notSynchronized
  have hin : meth.name = "<init>" := (name_of_methodNamed B.named B.method).1
  subst hsz
  have hD := hD0.self (sz := s.heap.size)
  generalize hAe : va_A [(h0, .inr (0, [.null, .int 0]))] s.heap.size = A at hD ⊢
  have hA : ∀ q : Nat, s.heap.size ≤ q → A q := fun q h => by rw [← hAe]; exact Or.inr h
  have hl := lv_entry ([.ref h0]) (n := 1) (Nat.le_of_ble_eq_true rfl)
  rw [lg_entry_eq]
  generalize (lg_sl ([.ref h0]) ++ List.replicate (1 - (lg_sl ([.ref h0])).length) Slot.unset).toArray = ls at hl ⊢
  have hl : lv_has ls 1 [(0, .ref h0)] := hl
  refine k_H (A := A) hP (fun H hP hS => ?_)
  have hP : va_P (dC, dI) vwCl [(h0, .inr (0, [.null, .int 0]))] H := hP
  have hD : va_D A [(h0, .inr (0, [.null, .int 0]))] := hD
  refine lv_aload_n hx hb dX0_init_0 rfl (lv_at hl 0 rfl) ?_
  refine W.objInit hx hb hown (hts (.methodLink RX0 5 objectInit) ol_wsX0_init) (hts (.instanceMethod objectInit) oi_wsX0_init) (hts (.code objectInit ⟨#[0xb1]⟩ 1 none) oc_wsX0_init) rfl (by rw [hml]; exact hl.1) rfl dX0_init_1 (Nat.le_of_ble_eq_true rfl) (Nat.le_of_ble_eq_true rfl) ?_
  refine W.eq (g2 := F0 m 4 ls []) rfl ?_
  refine lv_aload_n hx hb dX0_init_4 rfl (lv_at hl 0 rfl) ?_
  refine lv_sipush (v := 3648) hx hb dX0_init_5 (by decide) ?_
  refine k_newa (atype := .int) hx hb (hts (.arrayClass .int) ac_int_wsX0_init) rfl hK 0 rfl (fun _ h9 => h9) (a0 := (3648, .inl (fun _ => 0))) (N' := 3648) hP hD hS hA (fun _ => rfl) (by decide) (by decide) (by decide) (Nat.le_of_ble_eq_true rfl) (Nat.le_of_ble_eq_true rfl) dX0_init_8 (fun q_1 H hP hD hS => ?_)
  have hP : va_P (dC, dI) vwCl [(h0, .inr (0, [.null, .int 0])), (q_1, .inl (cI, 3648, .inl (fun _ => 0)))] H := hP
  have hD : va_D A [(h0, .inr (0, [.null, .int 0])), (q_1, .inl (cI, 3648, .inl (fun _ => 0)))] := hD
  refine W.widen (k := 1) (n := 3648) (Nat.le_of_ble_eq_true rfl) (Nat.le_of_ble_eq_true rfl) ?_
  refine va_putF (D := (dC, dI)) (ci := 0) (v := .ref q_1) (ty := .array .int) (C := RX0) (T := TX0) (N := 2) hx hb hts iwwsX0_init_0 tyX0 tyX0_ok nmX0 hown hK hP hD hS 0 rfl rfl 0 (by decide) (hts (.fieldLink RX0 11 "NothingJudge$Code" "cells" "[I") fwwsX0_init_11) (fun _ h9 => h9) rfl hin rfl (by decide +kernel) rfl rfl (Nat.le_of_ble_eq_true rfl) dX0_init_10 (fun H locs hP hD hS => ?_)
  have hP : va_P (dC, dI) vwCl [(h0, .inr (0, [.ref q_1, .int 0])), (q_1, .inl (cI, 3648, .inl (fun _ => 0)))] H := hP
  have hD : va_D A [(h0, .inr (0, [.ref q_1, .int 0])), (q_1, .inl (cI, 3648, .inl (fun _ => 0)))] := hD
  have hP9 := hP.sub (ws' := [(h0, .inr (0, [.ref q_1, .int 0]))]) [0] rfl
  have hD9 := hD.sub (ws' := [(h0, .inr (0, [.ref q_1, .int 0]))]) [0] (by decide) rfl
  exact W.vret hx hb hr (fun t ht hW => ⟨⟨(), rfl, trivial, q_1, by rw [ht]; exact hP9, hD9⟩, hS.F ht⟩) hS.2.2 dX0_init_13

set_option maxHeartbeats 4000000 in
set_option maxRecDepth 100000 in
theorem c_X8_init (l : Launch) (dC : Nat → ClassId) (dI : Nat → Nat → Nat) (cI cB cL cZ : ClassId) (h0 : Nat) (sz : Nat)  : Met l yX8_init wsX8_init ({ frames := 1, cells := 1, slots := 1200, locals := 12 }) (cP (dC, dI) (kTy cI cB cL cZ) [.ref h0] [(h0, .inr (7, [.null, .int 0, .int 0]))] sz) (va_Qv (fun _ : Unit => True) (fun (_ : Unit) (t : State) => ∃ qz0 : Nat, va_P (dC, dI) vwCl [(h0, .inr (7, [.ref qz0, .int 0, .int 0]))] t.heap ∧ va_D (va_A [(h0, .inr (7, [.null, .int 0, .int 0]))] sz) [(h0, .inr (7, [.ref qz0, .int 0, .int 0]))]) (va_A [(h0, .inr (7, [.null, .int 0, .int 0]))] sz)) 1 1200 (va_A [(h0, .inr (7, [.null, .int 0, .int 0]))] sz) := by
  refine Met.ofW (cc := cX8_init) (maxL := 1) (ret := none) (by decide) rfl ?_
  intro p e s m args below meth c s₁ B hml hv
  obtain ⟨rfl, hsz, hP, hK, hD0, hN⟩ := hv
  have hx := B.exec
  have hb := B.bytes
  have hr := B.returns
  have hts := atoms_spec (ws := wsX8_init) B.pre
  have hown : s.vm.findClass RX8 = some m.cls := findClass_of_methodNamed B.named
  have hlocks := B.notSynchronized
  have hin : meth.name = "<init>" := (name_of_methodNamed B.named B.method).1
  subst hsz
  have hD := hD0.self (sz := s.heap.size)
  generalize hAe : va_A [(h0, .inr (7, [.null, .int 0, .int 0]))] s.heap.size = A at hD ⊢
  have hA : ∀ q : Nat, s.heap.size ≤ q → A q := fun q h => by rw [← hAe]; exact Or.inr h
  have hl := lv_entry ([.ref h0]) (n := 1) (Nat.le_of_ble_eq_true rfl)
  rw [lg_entry_eq]
  generalize (lg_sl ([.ref h0]) ++ List.replicate (1 - (lg_sl ([.ref h0])).length) Slot.unset).toArray = ls at hl ⊢
  have hl : lv_has ls 1 [(0, .ref h0)] := hl
  refine k_H (A := A) hP (fun H hP hS => ?_)
  have hP : va_P (dC, dI) vwCl [(h0, .inr (7, [.null, .int 0, .int 0]))] H := hP
  have hD : va_D A [(h0, .inr (7, [.null, .int 0, .int 0]))] := hD
  refine lv_aload_n hx hb dX8_init_0 rfl (lv_at hl 0 rfl) ?_
  refine W.objInit hx hb hown (hts (.methodLink RX8 3 objectInit) ol_wsX8_init) (hts (.instanceMethod objectInit) oi_wsX8_init) (hts (.code objectInit ⟨#[0xb1]⟩ 1 none) oc_wsX8_init) rfl (by rw [hml]; exact hl.1) rfl dX8_init_1 (Nat.le_of_ble_eq_true rfl) (Nat.le_of_ble_eq_true rfl) ?_
  refine W.eq (g2 := F0 m 4 ls []) rfl ?_
  refine lv_aload_n hx hb dX8_init_4 rfl (lv_at hl 0 rfl) ?_
  refine lv_sipush (v := 1200) hx hb dX8_init_5 (by decide) ?_
  refine k_newa (atype := .int) hx hb (hts (.arrayClass .int) ac_int_wsX8_init) rfl hK 0 rfl (fun _ h9 => h9) (a0 := (1200, .inl (fun _ => 0))) (N' := 1200) hP hD hS hA (fun _ => rfl) (by decide) (by decide) (by decide) (Nat.le_of_ble_eq_true rfl) (Nat.le_of_ble_eq_true rfl) dX8_init_8 (fun q_2 H hP hD hS => ?_)
  have hP : va_P (dC, dI) vwCl [(h0, .inr (7, [.null, .int 0, .int 0])), (q_2, .inl (cI, 1200, .inl (fun _ => 0)))] H := hP
  have hD : va_D A [(h0, .inr (7, [.null, .int 0, .int 0])), (q_2, .inl (cI, 1200, .inl (fun _ => 0)))] := hD
  refine W.widen (k := 1) (n := 1200) (Nat.le_of_ble_eq_true rfl) (Nat.le_of_ble_eq_true rfl) ?_
  refine va_putF (D := (dC, dI)) (ci := 7) (v := .ref q_2) (ty := .array .int) (C := RX8) (T := TX8) (N := 3) hx hb hts iwwsX8_init_8 tyX8 tyX8_ok nmX8 hown hK hP hD hS 0 rfl rfl 0 (by decide) (hts (.fieldLink RX8 9 "NothingJudge$Tokens" "packed" "[I") fwwsX8_init_9) (fun _ h9 => h9) rfl hin rfl (by decide +kernel) rfl rfl (Nat.le_of_ble_eq_true rfl) dX8_init_10 (fun H locs hP hD hS => ?_)
  have hP : va_P (dC, dI) vwCl [(h0, .inr (7, [.ref q_2, .int 0, .int 0])), (q_2, .inl (cI, 1200, .inl (fun _ => 0)))] H := hP
  have hD : va_D A [(h0, .inr (7, [.ref q_2, .int 0, .int 0])), (q_2, .inl (cI, 1200, .inl (fun _ => 0)))] := hD
  have hP9 := hP.sub (ws' := [(h0, .inr (7, [.ref q_2, .int 0, .int 0]))]) [0] rfl
  have hD9 := hD.sub (ws' := [(h0, .inr (7, [.ref q_2, .int 0, .int 0]))]) [0] (by decide) rfl
  exact W.vret hx hb hr (fun t ht hW => ⟨⟨(), rfl, trivial, q_2, by rw [ht]; exact hP9, hD9⟩, hS.F ht⟩) hS.2.2 dX8_init_13

set_option maxHeartbeats 4000000 in
set_option maxRecDepth 100000 in
theorem c_X3_init (l : Launch) (dC : Nat → ClassId) (dI : Nat → Nat → Nat) (cI cB cL cZ : ClassId) (h0 : Nat) (sz : Nat)  : Met l yX3_init wsX3_init ({ frames := 2, cells := 10, slots := 3866, locals := 32 }) (cP (dC, dI) (kTy cI cB cL cZ) [.ref h0] [(h0, .inr (3, [.null, .null, .null, .null, .null, .null, .null, .null, .null, .int 0, .int 0, .int 0, .int 0, .int 0]))] sz) (va_Qv (fun _ : Unit => True) (fun (_ : Unit) (t : State) => ∃ qz0 : Nat, ∃ qz1 : Nat, ∃ qz2 : Nat, ∃ qz3 : Nat, ∃ qz4 : Nat, ∃ qz5 : Nat, ∃ qz6 : Nat, ∃ qz7 : Nat, ∃ qz8 : Nat, ∃ qz9 : Nat, va_P (dC, dI) vwCl [(h0, .inr (3, [.ref qz0, .ref qz1, .ref qz2, .ref qz3, .ref qz4, .ref qz5, .ref qz6, .ref qz7, .ref qz8, .int 0, .int 0, .int 0, .int 0, .int (-1)])), (qz0, .inr (0, [.ref qz9, .int 0]))] t.heap ∧ va_D (va_A [(h0, .inr (3, [.null, .null, .null, .null, .null, .null, .null, .null, .null, .int 0, .int 0, .int 0, .int 0, .int 0]))] sz) [(h0, .inr (3, [.ref qz0, .ref qz1, .ref qz2, .ref qz3, .ref qz4, .ref qz5, .ref qz6, .ref qz7, .ref qz8, .int 0, .int 0, .int 0, .int 0, .int (-1)])), (qz0, .inr (0, [.ref qz9, .int 0]))]) (va_A [(h0, .inr (3, [.null, .null, .null, .null, .null, .null, .null, .null, .null, .int 0, .int 0, .int 0, .int 0, .int 0]))] sz)) 10 3866 (va_A [(h0, .inr (3, [.null, .null, .null, .null, .null, .null, .null, .null, .null, .int 0, .int 0, .int 0, .int 0, .int 0]))] sz) := by
  refine Met.ofW (cc := cX3_init) (maxL := 1) (ret := none) (by decide) rfl ?_
  intro p e s m args below meth c s₁ B hml hv
  obtain ⟨rfl, hsz, hP, hK, hD0, hN⟩ := hv
  have hx := B.exec
  have hb := B.bytes
  have hr := B.returns
  have hts := atoms_spec (ws := wsX3_init) B.pre
  have hown : s.vm.findClass RX3 = some m.cls := findClass_of_methodNamed B.named
  have hlocks := B.notSynchronized
  have hin : meth.name = "<init>" := (name_of_methodNamed B.named B.method).1
  subst hsz
  have hD := hD0.self (sz := s.heap.size)
  generalize hAe : va_A [(h0, .inr (3, [.null, .null, .null, .null, .null, .null, .null, .null, .null, .int 0, .int 0, .int 0, .int 0, .int 0]))] s.heap.size = A at hD ⊢
  have hA : ∀ q : Nat, s.heap.size ≤ q → A q := fun q h => by rw [← hAe]; exact Or.inr h
  have hl := lv_entry ([.ref h0]) (n := 1) (Nat.le_of_ble_eq_true rfl)
  rw [lg_entry_eq]
  generalize (lg_sl ([.ref h0]) ++ List.replicate (1 - (lg_sl ([.ref h0])).length) Slot.unset).toArray = ls at hl ⊢
  have hl : lv_has ls 1 [(0, .ref h0)] := hl
  refine k_H (A := A) hP (fun H hP hS => ?_)
  have hP : va_P (dC, dI) vwCl [(h0, .inr (3, [.null, .null, .null, .null, .null, .null, .null, .null, .null, .int 0, .int 0, .int 0, .int 0, .int 0]))] H := hP
  have hD : va_D A [(h0, .inr (3, [.null, .null, .null, .null, .null, .null, .null, .null, .null, .int 0, .int 0, .int 0, .int 0, .int 0]))] := hD
  refine lv_aload_n hx hb dX3_init_0 rfl (lv_at hl 0 rfl) ?_
  refine W.objInit hx hb hown (hts (.methodLink RX3 3 objectInit) ol_wsX3_init) (hts (.instanceMethod objectInit) oi_wsX3_init) (hts (.code objectInit ⟨#[0xb1]⟩ 1 none) oc_wsX3_init) rfl (by rw [hml]; exact hl.1) rfl dX3_init_1 (Nat.le_of_ble_eq_true rfl) (Nat.le_of_ble_eq_true rfl) ?_
  refine W.eq (g2 := F0 m 4 ls []) rfl ?_
  refine lv_aload_n hx hb dX3_init_4 rfl (lv_at hl 0 rfl) ?_
  refine va_new (D := (dC, dI)) (ci := 0) (fs := [.null, .int 0]) (C := RX0) (T := TX0) (N := 2) hx hb hts iwwsX3_init_0 tyX0 tyX0_ok hown (hts (.classLink RX3 9 RX0) cl9_wsX3_init) (hts (.instantiable RX0 2) in0_wsX3_init) (hts (.initialized RX0) it0_wsX3_init) hK hP hD hS hA rfl dfX0 (Nat.le_of_ble_eq_true rfl) (Nat.le_of_ble_eq_true rfl) dX3_init_5 (fun q_3 H hP hD hS => ?_)
  have hP : va_P (dC, dI) vwCl [(h0, .inr (3, [.null, .null, .null, .null, .null, .null, .null, .null, .null, .int 0, .int 0, .int 0, .int 0, .int 0])), (q_3, .inr (0, [.null, .int 0]))] H := hP
  have hD : va_D A [(h0, .inr (3, [.null, .null, .null, .null, .null, .null, .null, .null, .null, .int 0, .int 0, .int 0, .int 0, .int 0])), (q_3, .inr (0, [.null, .int 0]))] := hD
  refine W.widen (k := 1) (n := 2) (Nat.le_of_ble_eq_true rfl) (Nat.le_of_ble_eq_true rfl) ?_
  refine lv_dup hx hb dX3_init_8 rfl ?_
  have hPc := hP.sub (ws' := [(q_3, .inr (0, [.null, .int 0]))]) [1] rfl
  have hDc := hD.sub (ws' := [(q_3, .inr (0, [.null, .int 0]))]) [1] (by decide) rfl
  have hFc := va_free (wc := [(q_3, .inr (0, [.null, .int 0]))]) hD hS hA [1] rfl
  refine va_callv (va_runIN (As := []) (rest := [.ref q_3, .ref h0]) ⟨hx, hb, hml, hown, hts⟩ (c_X0_init l dC dI cI cB cL cZ (q_3) H.size) ⟨va_cnB (host := "NothingJudge") 0 hts gX3_init_X0_init_n11 rfl rfl rfl hN.2.2 (hts (.initialized RX0) it0_wsX3_init) (by decide +kernel) ⟨Nat.le_of_ble_eq_true rfl, Nat.le_of_ble_eq_true rfl⟩, rfl, (hts (.instanceMethod yX0_init) imyX0_init_wsX3_init)⟩ ⟨cP_fb, fun U hU hW => cP_pre hPc hK hDc hN U hU hW⟩ rfl rfl hl.1 rfl (lv_room (Nat.le_of_ble_eq_true rfl)) dX3_init_9 ⟨Nat.le_of_ble_eq_true rfl, Nat.le_of_ble_eq_true rfl⟩) hS (fun q _ h => hFc q h) hFc (fun u t H1 locs ht hvm hw hB hz1 hk1 hS => ?_)
  obtain ⟨q_4, hP1, hD1⟩ := hB
  rw [ht] at hP1
  obtain ⟨hP, hD⟩ := va_join (wr := [(h0, .inr (3, [.null, .null, .null, .null, .null, .null, .null, .null, .null, .int 0, .int 0, .int 0, .int 0, .int 0]))]) (w1 := [(q_3, .inr (0, [.ref q_4, .int 0]))]) hP hD [1] [0] rfl rfl (by decide) (by decide) hk1 hFc hP1 hD1
  generalize H1 = H at hP hS ⊢
  have hP : va_P (dC, dI) vwCl [(h0, .inr (3, [.null, .null, .null, .null, .null, .null, .null, .null, .null, .int 0, .int 0, .int 0, .int 0, .int 0])), (q_3, .inr (0, [.ref q_4, .int 0]))] H := hP
  have hD : va_D A [(h0, .inr (3, [.null, .null, .null, .null, .null, .null, .null, .null, .null, .int 0, .int 0, .int 0, .int 0, .int 0])), (q_3, .inr (0, [.ref q_4, .int 0]))] := hD
  refine W.widen (k := 2) (n := 3650) (Nat.le_of_ble_eq_true rfl) (Nat.le_of_ble_eq_true rfl) ?_
  refine va_putF (D := (dC, dI)) (ci := 3) (v := .ref q_3) (ty := .object "NothingJudge$Code") (C := RX3) (T := TX3) (N := 14) hx hb hts iwwsX3_init_3 tyX3 tyX3_ok nmX3 hown hK hP hD hS 0 rfl rfl 0 (by decide) (hts (.fieldLink RX3 12 "NothingJudge$Program" "code" "LNothingJudge$Code;") fwwsX3_init_12) (fun _ h9 => h9) rfl hin rfl (by decide +kernel) rfl rfl (Nat.le_of_ble_eq_true rfl) dX3_init_12 (fun H locs hP hD hS => ?_)
  have hP : va_P (dC, dI) vwCl [(h0, .inr (3, [.ref q_3, .null, .null, .null, .null, .null, .null, .null, .null, .int 0, .int 0, .int 0, .int 0, .int 0])), (q_3, .inr (0, [.ref q_4, .int 0]))] H := hP
  have hD : va_D A [(h0, .inr (3, [.ref q_3, .null, .null, .null, .null, .null, .null, .null, .null, .int 0, .int 0, .int 0, .int 0, .int 0])), (q_3, .inr (0, [.ref q_4, .int 0]))] := hD
  refine lv_aload_n hx hb dX3_init_15 rfl (lv_at hl 0 rfl) ?_
  refine lv_bipush (v := 8) hx hb dX3_init_16 (by decide) ?_
  refine k_newa (atype := .int) hx hb (hts (.arrayClass .int) ac_int_wsX3_init) rfl hK 0 rfl (fun _ h9 => h9) (a0 := (8, .inl (fun _ => 0))) (N' := 8) hP hD hS hA (fun _ => rfl) (by decide) (by decide) (by decide) (Nat.le_of_ble_eq_true rfl) (Nat.le_of_ble_eq_true rfl) dX3_init_18 (fun q_6 H hP hD hS => ?_)
  have hP : va_P (dC, dI) vwCl [(h0, .inr (3, [.ref q_3, .null, .null, .null, .null, .null, .null, .null, .null, .int 0, .int 0, .int 0, .int 0, .int 0])), (q_3, .inr (0, [.ref q_4, .int 0])), (q_6, .inl (cI, 8, .inl (fun _ => 0)))] H := hP
  have hD : va_D A [(h0, .inr (3, [.ref q_3, .null, .null, .null, .null, .null, .null, .null, .null, .int 0, .int 0, .int 0, .int 0, .int 0])), (q_3, .inr (0, [.ref q_4, .int 0])), (q_6, .inl (cI, 8, .inl (fun _ => 0)))] := hD
  refine W.widen (k := 3) (n := 3658) (Nat.le_of_ble_eq_true rfl) (Nat.le_of_ble_eq_true rfl) ?_
  refine va_putF (D := (dC, dI)) (ci := 3) (v := .ref q_6) (ty := .array .int) (C := RX3) (T := TX3) (N := 14) hx hb hts iwwsX3_init_3 tyX3 tyX3_ok nmX3 hown hK hP hD hS 0 rfl rfl 1 (by decide) (hts (.fieldLink RX3 18 "NothingJudge$Program" "opening" "[I") fwwsX3_init_18) (fun _ h9 => h9) rfl hin rfl (by decide +kernel) rfl rfl (Nat.le_of_ble_eq_true rfl) dX3_init_20 (fun H locs hP hD hS => ?_)
  have hP : va_P (dC, dI) vwCl [(h0, .inr (3, [.ref q_3, .ref q_6, .null, .null, .null, .null, .null, .null, .null, .int 0, .int 0, .int 0, .int 0, .int 0])), (q_3, .inr (0, [.ref q_4, .int 0])), (q_6, .inl (cI, 8, .inl (fun _ => 0)))] H := hP
  have hD : va_D A [(h0, .inr (3, [.ref q_3, .ref q_6, .null, .null, .null, .null, .null, .null, .null, .int 0, .int 0, .int 0, .int 0, .int 0])), (q_3, .inr (0, [.ref q_4, .int 0])), (q_6, .inl (cI, 8, .inl (fun _ => 0)))] := hD
  refine lv_aload_n hx hb dX3_init_23 rfl (lv_at hl 0 rfl) ?_
  refine lv_bipush (v := 8) hx hb dX3_init_24 (by decide) ?_
  refine k_newa (atype := .int) hx hb (hts (.arrayClass .int) ac_int_wsX3_init) rfl hK 0 rfl (fun _ h9 => h9) (a0 := (8, .inl (fun _ => 0))) (N' := 8) hP hD hS hA (fun _ => rfl) (by decide) (by decide) (by decide) (Nat.le_of_ble_eq_true rfl) (Nat.le_of_ble_eq_true rfl) dX3_init_26 (fun q_7 H hP hD hS => ?_)
  have hP : va_P (dC, dI) vwCl [(h0, .inr (3, [.ref q_3, .ref q_6, .null, .null, .null, .null, .null, .null, .null, .int 0, .int 0, .int 0, .int 0, .int 0])), (q_3, .inr (0, [.ref q_4, .int 0])), (q_6, .inl (cI, 8, .inl (fun _ => 0))), (q_7, .inl (cI, 8, .inl (fun _ => 0)))] H := hP
  have hD : va_D A [(h0, .inr (3, [.ref q_3, .ref q_6, .null, .null, .null, .null, .null, .null, .null, .int 0, .int 0, .int 0, .int 0, .int 0])), (q_3, .inr (0, [.ref q_4, .int 0])), (q_6, .inl (cI, 8, .inl (fun _ => 0))), (q_7, .inl (cI, 8, .inl (fun _ => 0)))] := hD
  refine W.widen (k := 4) (n := 3666) (Nat.le_of_ble_eq_true rfl) (Nat.le_of_ble_eq_true rfl) ?_
  refine va_putF (D := (dC, dI)) (ci := 3) (v := .ref q_7) (ty := .array .int) (C := RX3) (T := TX3) (N := 14) hx hb hts iwwsX3_init_3 tyX3 tyX3_ok nmX3 hown hK hP hD hS 0 rfl rfl 2 (by decide) (hts (.fieldLink RX3 22 "NothingJudge$Program" "arity" "[I") fwwsX3_init_22) (fun _ h9 => h9) rfl hin rfl (by decide +kernel) rfl rfl (Nat.le_of_ble_eq_true rfl) dX3_init_28 (fun H locs hP hD hS => ?_)
  have hP : va_P (dC, dI) vwCl [(h0, .inr (3, [.ref q_3, .ref q_6, .ref q_7, .null, .null, .null, .null, .null, .null, .int 0, .int 0, .int 0, .int 0, .int 0])), (q_3, .inr (0, [.ref q_4, .int 0])), (q_6, .inl (cI, 8, .inl (fun _ => 0))), (q_7, .inl (cI, 8, .inl (fun _ => 0)))] H := hP
  have hD : va_D A [(h0, .inr (3, [.ref q_3, .ref q_6, .ref q_7, .null, .null, .null, .null, .null, .null, .int 0, .int 0, .int 0, .int 0, .int 0])), (q_3, .inr (0, [.ref q_4, .int 0])), (q_6, .inl (cI, 8, .inl (fun _ => 0))), (q_7, .inl (cI, 8, .inl (fun _ => 0)))] := hD
  refine lv_aload_n hx hb dX3_init_31 rfl (lv_at hl 0 rfl) ?_
  refine lv_bipush (v := 32) hx hb dX3_init_32 (by decide) ?_
  refine k_newa (atype := .int) hx hb (hts (.arrayClass .int) ac_int_wsX3_init) rfl hK 0 rfl (fun _ h9 => h9) (a0 := (32, .inl (fun _ => 0))) (N' := 32) hP hD hS hA (fun _ => rfl) (by decide) (by decide) (by decide) (Nat.le_of_ble_eq_true rfl) (Nat.le_of_ble_eq_true rfl) dX3_init_34 (fun q_8 H hP hD hS => ?_)
  have hP : va_P (dC, dI) vwCl [(h0, .inr (3, [.ref q_3, .ref q_6, .ref q_7, .null, .null, .null, .null, .null, .null, .int 0, .int 0, .int 0, .int 0, .int 0])), (q_3, .inr (0, [.ref q_4, .int 0])), (q_6, .inl (cI, 8, .inl (fun _ => 0))), (q_7, .inl (cI, 8, .inl (fun _ => 0))), (q_8, .inl (cI, 32, .inl (fun _ => 0)))] H := hP
  have hD : va_D A [(h0, .inr (3, [.ref q_3, .ref q_6, .ref q_7, .null, .null, .null, .null, .null, .null, .int 0, .int 0, .int 0, .int 0, .int 0])), (q_3, .inr (0, [.ref q_4, .int 0])), (q_6, .inl (cI, 8, .inl (fun _ => 0))), (q_7, .inl (cI, 8, .inl (fun _ => 0))), (q_8, .inl (cI, 32, .inl (fun _ => 0)))] := hD
  refine W.widen (k := 5) (n := 3698) (Nat.le_of_ble_eq_true rfl) (Nat.le_of_ble_eq_true rfl) ?_
  refine va_putF (D := (dC, dI)) (ci := 3) (v := .ref q_8) (ty := .array .int) (C := RX3) (T := TX3) (N := 14) hx hb hts iwwsX3_init_3 tyX3 tyX3_ok nmX3 hown hK hP hD hS 0 rfl rfl 3 (by decide) (hts (.fieldLink RX3 25 "NothingJudge$Program" "parameters" "[I") fwwsX3_init_25) (fun _ h9 => h9) rfl hin rfl (by decide +kernel) rfl rfl (Nat.le_of_ble_eq_true rfl) dX3_init_36 (fun H locs hP hD hS => ?_)
  have hP : va_P (dC, dI) vwCl [(h0, .inr (3, [.ref q_3, .ref q_6, .ref q_7, .ref q_8, .null, .null, .null, .null, .null, .int 0, .int 0, .int 0, .int 0, .int 0])), (q_3, .inr (0, [.ref q_4, .int 0])), (q_6, .inl (cI, 8, .inl (fun _ => 0))), (q_7, .inl (cI, 8, .inl (fun _ => 0))), (q_8, .inl (cI, 32, .inl (fun _ => 0)))] H := hP
  have hD : va_D A [(h0, .inr (3, [.ref q_3, .ref q_6, .ref q_7, .ref q_8, .null, .null, .null, .null, .null, .int 0, .int 0, .int 0, .int 0, .int 0])), (q_3, .inr (0, [.ref q_4, .int 0])), (q_6, .inl (cI, 8, .inl (fun _ => 0))), (q_7, .inl (cI, 8, .inl (fun _ => 0))), (q_8, .inl (cI, 32, .inl (fun _ => 0)))] := hD
  refine lv_aload_n hx hb dX3_init_39 rfl (lv_at hl 0 rfl) ?_
  refine lv_bipush (v := 40) hx hb dX3_init_40 (by decide) ?_
  refine k_newa (atype := .int) hx hb (hts (.arrayClass .int) ac_int_wsX3_init) rfl hK 0 rfl (fun _ h9 => h9) (a0 := (40, .inl (fun _ => 0))) (N' := 40) hP hD hS hA (fun _ => rfl) (by decide) (by decide) (by decide) (Nat.le_of_ble_eq_true rfl) (Nat.le_of_ble_eq_true rfl) dX3_init_42 (fun q_9 H hP hD hS => ?_)
  have hP : va_P (dC, dI) vwCl [(h0, .inr (3, [.ref q_3, .ref q_6, .ref q_7, .ref q_8, .null, .null, .null, .null, .null, .int 0, .int 0, .int 0, .int 0, .int 0])), (q_3, .inr (0, [.ref q_4, .int 0])), (q_6, .inl (cI, 8, .inl (fun _ => 0))), (q_7, .inl (cI, 8, .inl (fun _ => 0))), (q_8, .inl (cI, 32, .inl (fun _ => 0))), (q_9, .inl (cI, 40, .inl (fun _ => 0)))] H := hP
  have hD : va_D A [(h0, .inr (3, [.ref q_3, .ref q_6, .ref q_7, .ref q_8, .null, .null, .null, .null, .null, .int 0, .int 0, .int 0, .int 0, .int 0])), (q_3, .inr (0, [.ref q_4, .int 0])), (q_6, .inl (cI, 8, .inl (fun _ => 0))), (q_7, .inl (cI, 8, .inl (fun _ => 0))), (q_8, .inl (cI, 32, .inl (fun _ => 0))), (q_9, .inl (cI, 40, .inl (fun _ => 0)))] := hD
  refine W.widen (k := 6) (n := 3738) (Nat.le_of_ble_eq_true rfl) (Nat.le_of_ble_eq_true rfl) ?_
  refine va_putF (D := (dC, dI)) (ci := 3) (v := .ref q_9) (ty := .array .int) (C := RX3) (T := TX3) (N := 14) hx hb hts iwwsX3_init_3 tyX3 tyX3_ok nmX3 hown hK hP hD hS 0 rfl rfl 4 (by decide) (hts (.fieldLink RX3 28 "NothingJudge$Program" "useOwner" "[I") fwwsX3_init_28) (fun _ h9 => h9) rfl hin rfl (by decide +kernel) rfl rfl (Nat.le_of_ble_eq_true rfl) dX3_init_44 (fun H locs hP hD hS => ?_)
  have hP : va_P (dC, dI) vwCl [(h0, .inr (3, [.ref q_3, .ref q_6, .ref q_7, .ref q_8, .ref q_9, .null, .null, .null, .null, .int 0, .int 0, .int 0, .int 0, .int 0])), (q_3, .inr (0, [.ref q_4, .int 0])), (q_6, .inl (cI, 8, .inl (fun _ => 0))), (q_7, .inl (cI, 8, .inl (fun _ => 0))), (q_8, .inl (cI, 32, .inl (fun _ => 0))), (q_9, .inl (cI, 40, .inl (fun _ => 0)))] H := hP
  have hD : va_D A [(h0, .inr (3, [.ref q_3, .ref q_6, .ref q_7, .ref q_8, .ref q_9, .null, .null, .null, .null, .int 0, .int 0, .int 0, .int 0, .int 0])), (q_3, .inr (0, [.ref q_4, .int 0])), (q_6, .inl (cI, 8, .inl (fun _ => 0))), (q_7, .inl (cI, 8, .inl (fun _ => 0))), (q_8, .inl (cI, 32, .inl (fun _ => 0))), (q_9, .inl (cI, 40, .inl (fun _ => 0)))] := hD
  refine lv_aload_n hx hb dX3_init_47 rfl (lv_at hl 0 rfl) ?_
  refine lv_bipush (v := 40) hx hb dX3_init_48 (by decide) ?_
  refine k_newa (atype := .int) hx hb (hts (.arrayClass .int) ac_int_wsX3_init) rfl hK 0 rfl (fun _ h9 => h9) (a0 := (40, .inl (fun _ => 0))) (N' := 40) hP hD hS hA (fun _ => rfl) (by decide) (by decide) (by decide) (Nat.le_of_ble_eq_true rfl) (Nat.le_of_ble_eq_true rfl) dX3_init_50 (fun q_10 H hP hD hS => ?_)
  have hP : va_P (dC, dI) vwCl [(h0, .inr (3, [.ref q_3, .ref q_6, .ref q_7, .ref q_8, .ref q_9, .null, .null, .null, .null, .int 0, .int 0, .int 0, .int 0, .int 0])), (q_3, .inr (0, [.ref q_4, .int 0])), (q_6, .inl (cI, 8, .inl (fun _ => 0))), (q_7, .inl (cI, 8, .inl (fun _ => 0))), (q_8, .inl (cI, 32, .inl (fun _ => 0))), (q_9, .inl (cI, 40, .inl (fun _ => 0))), (q_10, .inl (cI, 40, .inl (fun _ => 0)))] H := hP
  have hD : va_D A [(h0, .inr (3, [.ref q_3, .ref q_6, .ref q_7, .ref q_8, .ref q_9, .null, .null, .null, .null, .int 0, .int 0, .int 0, .int 0, .int 0])), (q_3, .inr (0, [.ref q_4, .int 0])), (q_6, .inl (cI, 8, .inl (fun _ => 0))), (q_7, .inl (cI, 8, .inl (fun _ => 0))), (q_8, .inl (cI, 32, .inl (fun _ => 0))), (q_9, .inl (cI, 40, .inl (fun _ => 0))), (q_10, .inl (cI, 40, .inl (fun _ => 0)))] := hD
  refine W.widen (k := 7) (n := 3778) (Nat.le_of_ble_eq_true rfl) (Nat.le_of_ble_eq_true rfl) ?_
  refine va_putF (D := (dC, dI)) (ci := 3) (v := .ref q_10) (ty := .array .int) (C := RX3) (T := TX3) (N := 14) hx hb hts iwwsX3_init_3 tyX3 tyX3_ok nmX3 hown hK hP hD hS 0 rfl rfl 5 (by decide) (hts (.fieldLink RX3 31 "NothingJudge$Program" "usePlace" "[I") fwwsX3_init_31) (fun _ h9 => h9) rfl hin rfl (by decide +kernel) rfl rfl (Nat.le_of_ble_eq_true rfl) dX3_init_52 (fun H locs hP hD hS => ?_)
  have hP : va_P (dC, dI) vwCl [(h0, .inr (3, [.ref q_3, .ref q_6, .ref q_7, .ref q_8, .ref q_9, .ref q_10, .null, .null, .null, .int 0, .int 0, .int 0, .int 0, .int 0])), (q_3, .inr (0, [.ref q_4, .int 0])), (q_6, .inl (cI, 8, .inl (fun _ => 0))), (q_7, .inl (cI, 8, .inl (fun _ => 0))), (q_8, .inl (cI, 32, .inl (fun _ => 0))), (q_9, .inl (cI, 40, .inl (fun _ => 0))), (q_10, .inl (cI, 40, .inl (fun _ => 0)))] H := hP
  have hD : va_D A [(h0, .inr (3, [.ref q_3, .ref q_6, .ref q_7, .ref q_8, .ref q_9, .ref q_10, .null, .null, .null, .int 0, .int 0, .int 0, .int 0, .int 0])), (q_3, .inr (0, [.ref q_4, .int 0])), (q_6, .inl (cI, 8, .inl (fun _ => 0))), (q_7, .inl (cI, 8, .inl (fun _ => 0))), (q_8, .inl (cI, 32, .inl (fun _ => 0))), (q_9, .inl (cI, 40, .inl (fun _ => 0))), (q_10, .inl (cI, 40, .inl (fun _ => 0)))] := hD
  refine lv_aload_n hx hb dX3_init_55 rfl (lv_at hl 0 rfl) ?_
  refine lv_bipush (v := 40) hx hb dX3_init_56 (by decide) ?_
  refine k_newa (atype := .int) hx hb (hts (.arrayClass .int) ac_int_wsX3_init) rfl hK 0 rfl (fun _ h9 => h9) (a0 := (40, .inl (fun _ => 0))) (N' := 40) hP hD hS hA (fun _ => rfl) (by decide) (by decide) (by decide) (Nat.le_of_ble_eq_true rfl) (Nat.le_of_ble_eq_true rfl) dX3_init_58 (fun q_11 H hP hD hS => ?_)
  have hP : va_P (dC, dI) vwCl [(h0, .inr (3, [.ref q_3, .ref q_6, .ref q_7, .ref q_8, .ref q_9, .ref q_10, .null, .null, .null, .int 0, .int 0, .int 0, .int 0, .int 0])), (q_3, .inr (0, [.ref q_4, .int 0])), (q_6, .inl (cI, 8, .inl (fun _ => 0))), (q_7, .inl (cI, 8, .inl (fun _ => 0))), (q_8, .inl (cI, 32, .inl (fun _ => 0))), (q_9, .inl (cI, 40, .inl (fun _ => 0))), (q_10, .inl (cI, 40, .inl (fun _ => 0))), (q_11, .inl (cI, 40, .inl (fun _ => 0)))] H := hP
  have hD : va_D A [(h0, .inr (3, [.ref q_3, .ref q_6, .ref q_7, .ref q_8, .ref q_9, .ref q_10, .null, .null, .null, .int 0, .int 0, .int 0, .int 0, .int 0])), (q_3, .inr (0, [.ref q_4, .int 0])), (q_6, .inl (cI, 8, .inl (fun _ => 0))), (q_7, .inl (cI, 8, .inl (fun _ => 0))), (q_8, .inl (cI, 32, .inl (fun _ => 0))), (q_9, .inl (cI, 40, .inl (fun _ => 0))), (q_10, .inl (cI, 40, .inl (fun _ => 0))), (q_11, .inl (cI, 40, .inl (fun _ => 0)))] := hD
  refine W.widen (k := 8) (n := 3818) (Nat.le_of_ble_eq_true rfl) (Nat.le_of_ble_eq_true rfl) ?_
  refine va_putF (D := (dC, dI)) (ci := 3) (v := .ref q_11) (ty := .array .int) (C := RX3) (T := TX3) (N := 14) hx hb hts iwwsX3_init_3 tyX3 tyX3_ok nmX3 hown hK hP hD hS 0 rfl rfl 6 (by decide) (hts (.fieldLink RX3 34 "NothingJudge$Program" "useName" "[I") fwwsX3_init_34) (fun _ h9 => h9) rfl hin rfl (by decide +kernel) rfl rfl (Nat.le_of_ble_eq_true rfl) dX3_init_60 (fun H locs hP hD hS => ?_)
  have hP : va_P (dC, dI) vwCl [(h0, .inr (3, [.ref q_3, .ref q_6, .ref q_7, .ref q_8, .ref q_9, .ref q_10, .ref q_11, .null, .null, .int 0, .int 0, .int 0, .int 0, .int 0])), (q_3, .inr (0, [.ref q_4, .int 0])), (q_6, .inl (cI, 8, .inl (fun _ => 0))), (q_7, .inl (cI, 8, .inl (fun _ => 0))), (q_8, .inl (cI, 32, .inl (fun _ => 0))), (q_9, .inl (cI, 40, .inl (fun _ => 0))), (q_10, .inl (cI, 40, .inl (fun _ => 0))), (q_11, .inl (cI, 40, .inl (fun _ => 0)))] H := hP
  have hD : va_D A [(h0, .inr (3, [.ref q_3, .ref q_6, .ref q_7, .ref q_8, .ref q_9, .ref q_10, .ref q_11, .null, .null, .int 0, .int 0, .int 0, .int 0, .int 0])), (q_3, .inr (0, [.ref q_4, .int 0])), (q_6, .inl (cI, 8, .inl (fun _ => 0))), (q_7, .inl (cI, 8, .inl (fun _ => 0))), (q_8, .inl (cI, 32, .inl (fun _ => 0))), (q_9, .inl (cI, 40, .inl (fun _ => 0))), (q_10, .inl (cI, 40, .inl (fun _ => 0))), (q_11, .inl (cI, 40, .inl (fun _ => 0)))] := hD
  refine lv_aload_n hx hb dX3_init_63 rfl (lv_at hl 0 rfl) ?_
  refine lv_bipush (v := 24) hx hb dX3_init_64 (by decide) ?_
  refine k_newa (atype := .int) hx hb (hts (.arrayClass .int) ac_int_wsX3_init) rfl hK 0 rfl (fun _ h9 => h9) (a0 := (24, .inl (fun _ => 0))) (N' := 24) hP hD hS hA (fun _ => rfl) (by decide) (by decide) (by decide) (Nat.le_of_ble_eq_true rfl) (Nat.le_of_ble_eq_true rfl) dX3_init_66 (fun q_12 H hP hD hS => ?_)
  have hP : va_P (dC, dI) vwCl [(h0, .inr (3, [.ref q_3, .ref q_6, .ref q_7, .ref q_8, .ref q_9, .ref q_10, .ref q_11, .null, .null, .int 0, .int 0, .int 0, .int 0, .int 0])), (q_3, .inr (0, [.ref q_4, .int 0])), (q_6, .inl (cI, 8, .inl (fun _ => 0))), (q_7, .inl (cI, 8, .inl (fun _ => 0))), (q_8, .inl (cI, 32, .inl (fun _ => 0))), (q_9, .inl (cI, 40, .inl (fun _ => 0))), (q_10, .inl (cI, 40, .inl (fun _ => 0))), (q_11, .inl (cI, 40, .inl (fun _ => 0))), (q_12, .inl (cI, 24, .inl (fun _ => 0)))] H := hP
  have hD : va_D A [(h0, .inr (3, [.ref q_3, .ref q_6, .ref q_7, .ref q_8, .ref q_9, .ref q_10, .ref q_11, .null, .null, .int 0, .int 0, .int 0, .int 0, .int 0])), (q_3, .inr (0, [.ref q_4, .int 0])), (q_6, .inl (cI, 8, .inl (fun _ => 0))), (q_7, .inl (cI, 8, .inl (fun _ => 0))), (q_8, .inl (cI, 32, .inl (fun _ => 0))), (q_9, .inl (cI, 40, .inl (fun _ => 0))), (q_10, .inl (cI, 40, .inl (fun _ => 0))), (q_11, .inl (cI, 40, .inl (fun _ => 0))), (q_12, .inl (cI, 24, .inl (fun _ => 0)))] := hD
  refine W.widen (k := 9) (n := 3842) (Nat.le_of_ble_eq_true rfl) (Nat.le_of_ble_eq_true rfl) ?_
  refine va_putF (D := (dC, dI)) (ci := 3) (v := .ref q_12) (ty := .array .int) (C := RX3) (T := TX3) (N := 14) hx hb hts iwwsX3_init_3 tyX3 tyX3_ok nmX3 hown hK hP hD hS 0 rfl rfl 7 (by decide) (hts (.fieldLink RX3 37 "NothingJudge$Program" "testOwner" "[I") fwwsX3_init_37) (fun _ h9 => h9) rfl hin rfl (by decide +kernel) rfl rfl (Nat.le_of_ble_eq_true rfl) dX3_init_68 (fun H locs hP hD hS => ?_)
  have hP : va_P (dC, dI) vwCl [(h0, .inr (3, [.ref q_3, .ref q_6, .ref q_7, .ref q_8, .ref q_9, .ref q_10, .ref q_11, .ref q_12, .null, .int 0, .int 0, .int 0, .int 0, .int 0])), (q_3, .inr (0, [.ref q_4, .int 0])), (q_6, .inl (cI, 8, .inl (fun _ => 0))), (q_7, .inl (cI, 8, .inl (fun _ => 0))), (q_8, .inl (cI, 32, .inl (fun _ => 0))), (q_9, .inl (cI, 40, .inl (fun _ => 0))), (q_10, .inl (cI, 40, .inl (fun _ => 0))), (q_11, .inl (cI, 40, .inl (fun _ => 0))), (q_12, .inl (cI, 24, .inl (fun _ => 0)))] H := hP
  have hD : va_D A [(h0, .inr (3, [.ref q_3, .ref q_6, .ref q_7, .ref q_8, .ref q_9, .ref q_10, .ref q_11, .ref q_12, .null, .int 0, .int 0, .int 0, .int 0, .int 0])), (q_3, .inr (0, [.ref q_4, .int 0])), (q_6, .inl (cI, 8, .inl (fun _ => 0))), (q_7, .inl (cI, 8, .inl (fun _ => 0))), (q_8, .inl (cI, 32, .inl (fun _ => 0))), (q_9, .inl (cI, 40, .inl (fun _ => 0))), (q_10, .inl (cI, 40, .inl (fun _ => 0))), (q_11, .inl (cI, 40, .inl (fun _ => 0))), (q_12, .inl (cI, 24, .inl (fun _ => 0)))] := hD
  refine lv_aload_n hx hb dX3_init_71 rfl (lv_at hl 0 rfl) ?_
  refine lv_bipush (v := 24) hx hb dX3_init_72 (by decide) ?_
  refine k_newa (atype := .int) hx hb (hts (.arrayClass .int) ac_int_wsX3_init) rfl hK 0 rfl (fun _ h9 => h9) (a0 := (24, .inl (fun _ => 0))) (N' := 24) hP hD hS hA (fun _ => rfl) (by decide) (by decide) (by decide) (Nat.le_of_ble_eq_true rfl) (Nat.le_of_ble_eq_true rfl) dX3_init_74 (fun q_13 H hP hD hS => ?_)
  have hP : va_P (dC, dI) vwCl [(h0, .inr (3, [.ref q_3, .ref q_6, .ref q_7, .ref q_8, .ref q_9, .ref q_10, .ref q_11, .ref q_12, .null, .int 0, .int 0, .int 0, .int 0, .int 0])), (q_3, .inr (0, [.ref q_4, .int 0])), (q_6, .inl (cI, 8, .inl (fun _ => 0))), (q_7, .inl (cI, 8, .inl (fun _ => 0))), (q_8, .inl (cI, 32, .inl (fun _ => 0))), (q_9, .inl (cI, 40, .inl (fun _ => 0))), (q_10, .inl (cI, 40, .inl (fun _ => 0))), (q_11, .inl (cI, 40, .inl (fun _ => 0))), (q_12, .inl (cI, 24, .inl (fun _ => 0))), (q_13, .inl (cI, 24, .inl (fun _ => 0)))] H := hP
  have hD : va_D A [(h0, .inr (3, [.ref q_3, .ref q_6, .ref q_7, .ref q_8, .ref q_9, .ref q_10, .ref q_11, .ref q_12, .null, .int 0, .int 0, .int 0, .int 0, .int 0])), (q_3, .inr (0, [.ref q_4, .int 0])), (q_6, .inl (cI, 8, .inl (fun _ => 0))), (q_7, .inl (cI, 8, .inl (fun _ => 0))), (q_8, .inl (cI, 32, .inl (fun _ => 0))), (q_9, .inl (cI, 40, .inl (fun _ => 0))), (q_10, .inl (cI, 40, .inl (fun _ => 0))), (q_11, .inl (cI, 40, .inl (fun _ => 0))), (q_12, .inl (cI, 24, .inl (fun _ => 0))), (q_13, .inl (cI, 24, .inl (fun _ => 0)))] := hD
  refine W.widen (k := 10) (n := 3866) (Nat.le_of_ble_eq_true rfl) (Nat.le_of_ble_eq_true rfl) ?_
  refine va_putF (D := (dC, dI)) (ci := 3) (v := .ref q_13) (ty := .array .int) (C := RX3) (T := TX3) (N := 14) hx hb hts iwwsX3_init_3 tyX3 tyX3_ok nmX3 hown hK hP hD hS 0 rfl rfl 8 (by decide) (hts (.fieldLink RX3 40 "NothingJudge$Program" "testPlace" "[I") fwwsX3_init_40) (fun _ h9 => h9) rfl hin rfl (by decide +kernel) rfl rfl (Nat.le_of_ble_eq_true rfl) dX3_init_76 (fun H locs hP hD hS => ?_)
  have hP : va_P (dC, dI) vwCl [(h0, .inr (3, [.ref q_3, .ref q_6, .ref q_7, .ref q_8, .ref q_9, .ref q_10, .ref q_11, .ref q_12, .ref q_13, .int 0, .int 0, .int 0, .int 0, .int 0])), (q_3, .inr (0, [.ref q_4, .int 0])), (q_6, .inl (cI, 8, .inl (fun _ => 0))), (q_7, .inl (cI, 8, .inl (fun _ => 0))), (q_8, .inl (cI, 32, .inl (fun _ => 0))), (q_9, .inl (cI, 40, .inl (fun _ => 0))), (q_10, .inl (cI, 40, .inl (fun _ => 0))), (q_11, .inl (cI, 40, .inl (fun _ => 0))), (q_12, .inl (cI, 24, .inl (fun _ => 0))), (q_13, .inl (cI, 24, .inl (fun _ => 0)))] H := hP
  have hD : va_D A [(h0, .inr (3, [.ref q_3, .ref q_6, .ref q_7, .ref q_8, .ref q_9, .ref q_10, .ref q_11, .ref q_12, .ref q_13, .int 0, .int 0, .int 0, .int 0, .int 0])), (q_3, .inr (0, [.ref q_4, .int 0])), (q_6, .inl (cI, 8, .inl (fun _ => 0))), (q_7, .inl (cI, 8, .inl (fun _ => 0))), (q_8, .inl (cI, 32, .inl (fun _ => 0))), (q_9, .inl (cI, 40, .inl (fun _ => 0))), (q_10, .inl (cI, 40, .inl (fun _ => 0))), (q_11, .inl (cI, 40, .inl (fun _ => 0))), (q_12, .inl (cI, 24, .inl (fun _ => 0))), (q_13, .inl (cI, 24, .inl (fun _ => 0)))] := hD
  refine lv_aload_n hx hb dX3_init_79 rfl (lv_at hl 0 rfl) ?_
  refine lv_iconst (v := (-1)) hx hb dX3_init_80 (by decide) ?_
  refine va_put (D := (dC, dI)) (ci := 3) (v := .int (-1)) (ty := .int) (C := RX3) (T := TX3) (N := 14) hx hb hts iwwsX3_init_3 tyX3 tyX3_ok nmX3 hown hK hP hD hS 0 rfl rfl 13 (by decide) (hts (.fieldLink RX3 43 "NothingJudge$Program" "first" "I") fwwsX3_init_43) (fun _ h9 => h9) rfl (by decide +kernel) rfl rfl (Nat.le_of_ble_eq_true rfl) dX3_init_81 (fun H locs hP hD hS => ?_)
  have hP : va_P (dC, dI) vwCl [(h0, .inr (3, [.ref q_3, .ref q_6, .ref q_7, .ref q_8, .ref q_9, .ref q_10, .ref q_11, .ref q_12, .ref q_13, .int 0, .int 0, .int 0, .int 0, .int (-1)])), (q_3, .inr (0, [.ref q_4, .int 0])), (q_6, .inl (cI, 8, .inl (fun _ => 0))), (q_7, .inl (cI, 8, .inl (fun _ => 0))), (q_8, .inl (cI, 32, .inl (fun _ => 0))), (q_9, .inl (cI, 40, .inl (fun _ => 0))), (q_10, .inl (cI, 40, .inl (fun _ => 0))), (q_11, .inl (cI, 40, .inl (fun _ => 0))), (q_12, .inl (cI, 24, .inl (fun _ => 0))), (q_13, .inl (cI, 24, .inl (fun _ => 0)))] H := hP
  have hD : va_D A [(h0, .inr (3, [.ref q_3, .ref q_6, .ref q_7, .ref q_8, .ref q_9, .ref q_10, .ref q_11, .ref q_12, .ref q_13, .int 0, .int 0, .int 0, .int 0, .int (-1)])), (q_3, .inr (0, [.ref q_4, .int 0])), (q_6, .inl (cI, 8, .inl (fun _ => 0))), (q_7, .inl (cI, 8, .inl (fun _ => 0))), (q_8, .inl (cI, 32, .inl (fun _ => 0))), (q_9, .inl (cI, 40, .inl (fun _ => 0))), (q_10, .inl (cI, 40, .inl (fun _ => 0))), (q_11, .inl (cI, 40, .inl (fun _ => 0))), (q_12, .inl (cI, 24, .inl (fun _ => 0))), (q_13, .inl (cI, 24, .inl (fun _ => 0)))] := hD
  have hP9 := hP.sub (ws' := [(h0, .inr (3, [.ref q_3, .ref q_6, .ref q_7, .ref q_8, .ref q_9, .ref q_10, .ref q_11, .ref q_12, .ref q_13, .int 0, .int 0, .int 0, .int 0, .int (-1)])), (q_3, .inr (0, [.ref q_4, .int 0]))]) [0, 1] rfl
  have hD9 := hD.sub (ws' := [(h0, .inr (3, [.ref q_3, .ref q_6, .ref q_7, .ref q_8, .ref q_9, .ref q_10, .ref q_11, .ref q_12, .ref q_13, .int 0, .int 0, .int 0, .int 0, .int (-1)])), (q_3, .inr (0, [.ref q_4, .int 0]))]) [0, 1] (by decide) rfl
  exact W.vret hx hb hr (fun t ht hW => ⟨⟨(), rfl, trivial, q_3, q_6, q_7, q_8, q_9, q_10, q_11, q_12, q_13, q_4, by rw [ht]; exact hP9, hD9⟩, hS.F ht⟩) hS.2.2 dX3_init_84

set_option maxHeartbeats 4000000 in
set_option maxRecDepth 100000 in
theorem c_X4_init (l : Launch) (dC : Nat → ClassId) (dI : Nat → Nat → Nat) (cI cB cL cZ : ClassId) (h0 : Nat) (tok : Nat) (g : Nat) (gc : Nat) (ga1 : Nat) (ga2 : Nat) (ga3 : Nat) (ga4 : Nat) (ga5 : Nat) (ga6 : Nat) (ga7 : Nat) (ga8 : Nat) (sz : Nat)  : Met l yX4_init wsX4_init ({ frames := 1, cells := 2, slots := 12, locals := 12 }) (cP (dC, dI) (kTy cI cB cL cZ) [.ref h0, .ref tok, .ref g] [(h0, .inr (4, [.null, .null, .null, .null, .null, .int 0, .int 0, .int 0, .int 0, .int 0])), (g, .inr (3, [.ref gc, .ref ga1, .ref ga2, .ref ga3, .ref ga4, .ref ga5, .ref ga6, .ref ga7, .ref ga8, .int 0, .int 0, .int 0, .int 0, .int (-1)]))] sz) (va_Qv (fun _ : Unit => True) (fun (_ : Unit) (t : State) => ∃ qz0 : Nat, ∃ qz1 : Nat, va_P (dC, dI) vwCl [(h0, .inr (4, [.ref tok, .ref qz0, .ref qz1, .ref g, .ref gc, .int 0, .int 0, .int 0, .int 0, .int (-1)])), (g, .inr (3, [.ref gc, .ref ga1, .ref ga2, .ref ga3, .ref ga4, .ref ga5, .ref ga6, .ref ga7, .ref ga8, .int 0, .int 0, .int 0, .int 0, .int (-1)]))] t.heap ∧ va_D (va_A [(h0, .inr (4, [.null, .null, .null, .null, .null, .int 0, .int 0, .int 0, .int 0, .int 0])), (g, .inr (3, [.ref gc, .ref ga1, .ref ga2, .ref ga3, .ref ga4, .ref ga5, .ref ga6, .ref ga7, .ref ga8, .int 0, .int 0, .int 0, .int 0, .int (-1)]))] sz) [(h0, .inr (4, [.ref tok, .ref qz0, .ref qz1, .ref g, .ref gc, .int 0, .int 0, .int 0, .int 0, .int (-1)])), (g, .inr (3, [.ref gc, .ref ga1, .ref ga2, .ref ga3, .ref ga4, .ref ga5, .ref ga6, .ref ga7, .ref ga8, .int 0, .int 0, .int 0, .int 0, .int (-1)]))]) (va_A [(h0, .inr (4, [.null, .null, .null, .null, .null, .int 0, .int 0, .int 0, .int 0, .int 0])), (g, .inr (3, [.ref gc, .ref ga1, .ref ga2, .ref ga3, .ref ga4, .ref ga5, .ref ga6, .ref ga7, .ref ga8, .int 0, .int 0, .int 0, .int 0, .int (-1)]))] sz)) 2 12 (va_A [(h0, .inr (4, [.null, .null, .null, .null, .null, .int 0, .int 0, .int 0, .int 0, .int 0])), (g, .inr (3, [.ref gc, .ref ga1, .ref ga2, .ref ga3, .ref ga4, .ref ga5, .ref ga6, .ref ga7, .ref ga8, .int 0, .int 0, .int 0, .int 0, .int (-1)]))] sz) := by
  refine Met.ofW (cc := cX4_init) (maxL := 3) (ret := none) (by decide) rfl ?_
  intro p e s m args below meth c s₁ B hml hv
  obtain ⟨rfl, hsz, hP, hK, hD0, hN⟩ := hv
  have hx := B.exec
  have hb := B.bytes
  have hr := B.returns
  have hts := atoms_spec (ws := wsX4_init) B.pre
  have hown : s.vm.findClass RX4 = some m.cls := findClass_of_methodNamed B.named
  have hlocks := B.notSynchronized
  have hin : meth.name = "<init>" := (name_of_methodNamed B.named B.method).1
  subst hsz
  have hD := hD0.self (sz := s.heap.size)
  generalize hAe : va_A [(h0, .inr (4, [.null, .null, .null, .null, .null, .int 0, .int 0, .int 0, .int 0, .int 0])), (g, .inr (3, [.ref gc, .ref ga1, .ref ga2, .ref ga3, .ref ga4, .ref ga5, .ref ga6, .ref ga7, .ref ga8, .int 0, .int 0, .int 0, .int 0, .int (-1)]))] s.heap.size = A at hD ⊢
  have hA : ∀ q : Nat, s.heap.size ≤ q → A q := fun q h => by rw [← hAe]; exact Or.inr h
  have hl := lv_entry ([.ref h0, .ref tok, .ref g]) (n := 3) (Nat.le_of_ble_eq_true rfl)
  rw [lg_entry_eq]
  generalize (lg_sl ([.ref h0, .ref tok, .ref g]) ++ List.replicate (3 - (lg_sl ([.ref h0, .ref tok, .ref g])).length) Slot.unset).toArray = ls at hl ⊢
  have hl : lv_has ls 3 [(0, .ref h0), (1, .ref tok), (2, .ref g)] := hl
  refine k_H (A := A) hP (fun H hP hS => ?_)
  have hP : va_P (dC, dI) vwCl [(h0, .inr (4, [.null, .null, .null, .null, .null, .int 0, .int 0, .int 0, .int 0, .int 0])), (g, .inr (3, [.ref gc, .ref ga1, .ref ga2, .ref ga3, .ref ga4, .ref ga5, .ref ga6, .ref ga7, .ref ga8, .int 0, .int 0, .int 0, .int 0, .int (-1)]))] H := hP
  have hD : va_D A [(h0, .inr (4, [.null, .null, .null, .null, .null, .int 0, .int 0, .int 0, .int 0, .int 0])), (g, .inr (3, [.ref gc, .ref ga1, .ref ga2, .ref ga3, .ref ga4, .ref ga5, .ref ga6, .ref ga7, .ref ga8, .int 0, .int 0, .int 0, .int 0, .int (-1)]))] := hD
  refine lv_aload_n hx hb dX4_init_0 rfl (lv_at hl 0 rfl) ?_
  refine W.objInit hx hb hown (hts (.methodLink RX4 3 objectInit) ol_wsX4_init) (hts (.instanceMethod objectInit) oi_wsX4_init) (hts (.code objectInit ⟨#[0xb1]⟩ 1 none) oc_wsX4_init) rfl (by rw [hml]; exact hl.1) rfl dX4_init_1 (Nat.le_of_ble_eq_true rfl) (Nat.le_of_ble_eq_true rfl) ?_
  refine W.eq (g2 := F0 m 4 ls []) rfl ?_
  refine lv_aload_n hx hb dX4_init_4 rfl (lv_at hl 0 rfl) ?_
  refine lv_bipush (v := 6) hx hb dX4_init_5 (by decide) ?_
  refine k_newa (atype := .int) hx hb (hts (.arrayClass .int) ac_int_wsX4_init) rfl hK 0 rfl (fun _ h9 => h9) (a0 := (6, .inl (fun _ => 0))) (N' := 6) hP hD hS hA (fun _ => rfl) (by decide) (by decide) (by decide) (Nat.le_of_ble_eq_true rfl) (Nat.le_of_ble_eq_true rfl) dX4_init_7 (fun q_14 H hP hD hS => ?_)
  have hP : va_P (dC, dI) vwCl [(h0, .inr (4, [.null, .null, .null, .null, .null, .int 0, .int 0, .int 0, .int 0, .int 0])), (g, .inr (3, [.ref gc, .ref ga1, .ref ga2, .ref ga3, .ref ga4, .ref ga5, .ref ga6, .ref ga7, .ref ga8, .int 0, .int 0, .int 0, .int 0, .int (-1)])), (q_14, .inl (cI, 6, .inl (fun _ => 0)))] H := hP
  have hD : va_D A [(h0, .inr (4, [.null, .null, .null, .null, .null, .int 0, .int 0, .int 0, .int 0, .int 0])), (g, .inr (3, [.ref gc, .ref ga1, .ref ga2, .ref ga3, .ref ga4, .ref ga5, .ref ga6, .ref ga7, .ref ga8, .int 0, .int 0, .int 0, .int 0, .int (-1)])), (q_14, .inl (cI, 6, .inl (fun _ => 0)))] := hD
  refine W.widen (k := 1) (n := 6) (Nat.le_of_ble_eq_true rfl) (Nat.le_of_ble_eq_true rfl) ?_
  refine va_putF (D := (dC, dI)) (ci := 4) (v := .ref q_14) (ty := .array .int) (C := RX4) (T := TX4) (N := 10) hx hb hts iwwsX4_init_4 tyX4 tyX4_ok nmX4 hown hK hP hD hS 0 rfl rfl 1 (by decide) (hts (.fieldLink RX4 9 "NothingJudge$Reader" "openKind" "[I") fwwsX4_init_9) (fun _ h9 => h9) rfl hin rfl (by decide +kernel) rfl rfl (Nat.le_of_ble_eq_true rfl) dX4_init_9 (fun H locs hP hD hS => ?_)
  have hP : va_P (dC, dI) vwCl [(h0, .inr (4, [.null, .ref q_14, .null, .null, .null, .int 0, .int 0, .int 0, .int 0, .int 0])), (g, .inr (3, [.ref gc, .ref ga1, .ref ga2, .ref ga3, .ref ga4, .ref ga5, .ref ga6, .ref ga7, .ref ga8, .int 0, .int 0, .int 0, .int 0, .int (-1)])), (q_14, .inl (cI, 6, .inl (fun _ => 0)))] H := hP
  have hD : va_D A [(h0, .inr (4, [.null, .ref q_14, .null, .null, .null, .int 0, .int 0, .int 0, .int 0, .int 0])), (g, .inr (3, [.ref gc, .ref ga1, .ref ga2, .ref ga3, .ref ga4, .ref ga5, .ref ga6, .ref ga7, .ref ga8, .int 0, .int 0, .int 0, .int 0, .int (-1)])), (q_14, .inl (cI, 6, .inl (fun _ => 0)))] := hD
  refine lv_aload_n hx hb dX4_init_12 rfl (lv_at hl 0 rfl) ?_
  refine lv_bipush (v := 6) hx hb dX4_init_13 (by decide) ?_
  refine k_newa (atype := .int) hx hb (hts (.arrayClass .int) ac_int_wsX4_init) rfl hK 0 rfl (fun _ h9 => h9) (a0 := (6, .inl (fun _ => 0))) (N' := 6) hP hD hS hA (fun _ => rfl) (by decide) (by decide) (by decide) (Nat.le_of_ble_eq_true rfl) (Nat.le_of_ble_eq_true rfl) dX4_init_15 (fun q_15 H hP hD hS => ?_)
  have hP : va_P (dC, dI) vwCl [(h0, .inr (4, [.null, .ref q_14, .null, .null, .null, .int 0, .int 0, .int 0, .int 0, .int 0])), (g, .inr (3, [.ref gc, .ref ga1, .ref ga2, .ref ga3, .ref ga4, .ref ga5, .ref ga6, .ref ga7, .ref ga8, .int 0, .int 0, .int 0, .int 0, .int (-1)])), (q_14, .inl (cI, 6, .inl (fun _ => 0))), (q_15, .inl (cI, 6, .inl (fun _ => 0)))] H := hP
  have hD : va_D A [(h0, .inr (4, [.null, .ref q_14, .null, .null, .null, .int 0, .int 0, .int 0, .int 0, .int 0])), (g, .inr (3, [.ref gc, .ref ga1, .ref ga2, .ref ga3, .ref ga4, .ref ga5, .ref ga6, .ref ga7, .ref ga8, .int 0, .int 0, .int 0, .int 0, .int (-1)])), (q_14, .inl (cI, 6, .inl (fun _ => 0))), (q_15, .inl (cI, 6, .inl (fun _ => 0)))] := hD
  refine W.widen (k := 2) (n := 12) (Nat.le_of_ble_eq_true rfl) (Nat.le_of_ble_eq_true rfl) ?_
  refine va_putF (D := (dC, dI)) (ci := 4) (v := .ref q_15) (ty := .array .int) (C := RX4) (T := TX4) (N := 10) hx hb hts iwwsX4_init_4 tyX4 tyX4_ok nmX4 hown hK hP hD hS 0 rfl rfl 2 (by decide) (hts (.fieldLink RX4 15 "NothingJudge$Reader" "openAt" "[I") fwwsX4_init_15) (fun _ h9 => h9) rfl hin rfl (by decide +kernel) rfl rfl (Nat.le_of_ble_eq_true rfl) dX4_init_17 (fun H locs hP hD hS => ?_)
  have hP : va_P (dC, dI) vwCl [(h0, .inr (4, [.null, .ref q_14, .ref q_15, .null, .null, .int 0, .int 0, .int 0, .int 0, .int 0])), (g, .inr (3, [.ref gc, .ref ga1, .ref ga2, .ref ga3, .ref ga4, .ref ga5, .ref ga6, .ref ga7, .ref ga8, .int 0, .int 0, .int 0, .int 0, .int (-1)])), (q_14, .inl (cI, 6, .inl (fun _ => 0))), (q_15, .inl (cI, 6, .inl (fun _ => 0)))] H := hP
  have hD : va_D A [(h0, .inr (4, [.null, .ref q_14, .ref q_15, .null, .null, .int 0, .int 0, .int 0, .int 0, .int 0])), (g, .inr (3, [.ref gc, .ref ga1, .ref ga2, .ref ga3, .ref ga4, .ref ga5, .ref ga6, .ref ga7, .ref ga8, .int 0, .int 0, .int 0, .int 0, .int (-1)])), (q_14, .inl (cI, 6, .inl (fun _ => 0))), (q_15, .inl (cI, 6, .inl (fun _ => 0)))] := hD
  refine lv_aload_n hx hb dX4_init_20 rfl (lv_at hl 0 rfl) ?_
  refine lv_iconst (v := (-1)) hx hb dX4_init_21 (by decide) ?_
  refine va_put (D := (dC, dI)) (ci := 4) (v := .int (-1)) (ty := .int) (C := RX4) (T := TX4) (N := 10) hx hb hts iwwsX4_init_4 tyX4 tyX4_ok nmX4 hown hK hP hD hS 0 rfl rfl 9 (by decide) (hts (.fieldLink RX4 18 "NothingJudge$Reader" "wrongPlace" "I") fwwsX4_init_18) (fun _ h9 => h9) rfl (by decide +kernel) rfl rfl (Nat.le_of_ble_eq_true rfl) dX4_init_22 (fun H locs hP hD hS => ?_)
  have hP : va_P (dC, dI) vwCl [(h0, .inr (4, [.null, .ref q_14, .ref q_15, .null, .null, .int 0, .int 0, .int 0, .int 0, .int (-1)])), (g, .inr (3, [.ref gc, .ref ga1, .ref ga2, .ref ga3, .ref ga4, .ref ga5, .ref ga6, .ref ga7, .ref ga8, .int 0, .int 0, .int 0, .int 0, .int (-1)])), (q_14, .inl (cI, 6, .inl (fun _ => 0))), (q_15, .inl (cI, 6, .inl (fun _ => 0)))] H := hP
  have hD : va_D A [(h0, .inr (4, [.null, .ref q_14, .ref q_15, .null, .null, .int 0, .int 0, .int 0, .int 0, .int (-1)])), (g, .inr (3, [.ref gc, .ref ga1, .ref ga2, .ref ga3, .ref ga4, .ref ga5, .ref ga6, .ref ga7, .ref ga8, .int 0, .int 0, .int 0, .int 0, .int (-1)])), (q_14, .inl (cI, 6, .inl (fun _ => 0))), (q_15, .inl (cI, 6, .inl (fun _ => 0)))] := hD
  refine lv_aload_n hx hb dX4_init_25 rfl (lv_at hl 0 rfl) ?_
  refine lv_aload_n hx hb dX4_init_26 rfl (lv_at hl 1 rfl) ?_
  refine va_putF (D := (dC, dI)) (ci := 4) (v := .ref tok) (ty := .object "NothingJudge$Tokens") (C := RX4) (T := TX4) (N := 10) hx hb hts iwwsX4_init_4 tyX4 tyX4_ok nmX4 hown hK hP hD hS 0 rfl rfl 0 (by decide) (hts (.fieldLink RX4 22 "NothingJudge$Reader" "tokens" "LNothingJudge$Tokens;") fwwsX4_init_22) (fun _ h9 => h9) rfl hin rfl (by decide +kernel) rfl rfl (Nat.le_of_ble_eq_true rfl) dX4_init_27 (fun H locs hP hD hS => ?_)
  have hP : va_P (dC, dI) vwCl [(h0, .inr (4, [.ref tok, .ref q_14, .ref q_15, .null, .null, .int 0, .int 0, .int 0, .int 0, .int (-1)])), (g, .inr (3, [.ref gc, .ref ga1, .ref ga2, .ref ga3, .ref ga4, .ref ga5, .ref ga6, .ref ga7, .ref ga8, .int 0, .int 0, .int 0, .int 0, .int (-1)])), (q_14, .inl (cI, 6, .inl (fun _ => 0))), (q_15, .inl (cI, 6, .inl (fun _ => 0)))] H := hP
  have hD : va_D A [(h0, .inr (4, [.ref tok, .ref q_14, .ref q_15, .null, .null, .int 0, .int 0, .int 0, .int 0, .int (-1)])), (g, .inr (3, [.ref gc, .ref ga1, .ref ga2, .ref ga3, .ref ga4, .ref ga5, .ref ga6, .ref ga7, .ref ga8, .int 0, .int 0, .int 0, .int 0, .int (-1)])), (q_14, .inl (cI, 6, .inl (fun _ => 0))), (q_15, .inl (cI, 6, .inl (fun _ => 0)))] := hD
  refine lv_aload_n hx hb dX4_init_30 rfl (lv_at hl 0 rfl) ?_
  refine lv_aload_n hx hb dX4_init_31 rfl (lv_at hl 2 rfl) ?_
  refine va_put (D := (dC, dI)) (ci := 4) (v := .ref g) (ty := .object "NothingJudge$Program") (C := RX4) (T := TX4) (N := 10) hx hb hts iwwsX4_init_4 tyX4 tyX4_ok nmX4 hown hK hP hD hS 0 rfl rfl 3 (by decide) (hts (.fieldLink RX4 26 "NothingJudge$Reader" "program" "LNothingJudge$Program;") fwwsX4_init_26) (fun _ h9 => h9) rfl (by decide +kernel) rfl rfl (Nat.le_of_ble_eq_true rfl) dX4_init_32 (fun H locs hP hD hS => ?_)
  have hP : va_P (dC, dI) vwCl [(h0, .inr (4, [.ref tok, .ref q_14, .ref q_15, .ref g, .null, .int 0, .int 0, .int 0, .int 0, .int (-1)])), (g, .inr (3, [.ref gc, .ref ga1, .ref ga2, .ref ga3, .ref ga4, .ref ga5, .ref ga6, .ref ga7, .ref ga8, .int 0, .int 0, .int 0, .int 0, .int (-1)])), (q_14, .inl (cI, 6, .inl (fun _ => 0))), (q_15, .inl (cI, 6, .inl (fun _ => 0)))] H := hP
  have hD : va_D A [(h0, .inr (4, [.ref tok, .ref q_14, .ref q_15, .ref g, .null, .int 0, .int 0, .int 0, .int 0, .int (-1)])), (g, .inr (3, [.ref gc, .ref ga1, .ref ga2, .ref ga3, .ref ga4, .ref ga5, .ref ga6, .ref ga7, .ref ga8, .int 0, .int 0, .int 0, .int 0, .int (-1)])), (q_14, .inl (cI, 6, .inl (fun _ => 0))), (q_15, .inl (cI, 6, .inl (fun _ => 0)))] := hD
  refine lv_aload_n hx hb dX4_init_35 rfl (lv_at hl 0 rfl) ?_
  refine lv_aload_n hx hb dX4_init_36 rfl (lv_at hl 2 rfl) ?_
  refine va_get (D := (dC, dI)) (ci := 3) (v := .ref gc) (C := RX3) (T := TX3) (N := 14) hx hb hts iwwsX4_init_3 hown hK hP 1 rfl rfl 0 (by decide) (hts (.fieldLink RX4 30 "NothingJudge$Program" "code" "LNothingJudge$Code;") fwwsX4_init_30) (fun _ h9 => h9) rfl dX4_init_37 ?_
  refine va_put (D := (dC, dI)) (ci := 4) (v := .ref gc) (ty := .object "NothingJudge$Code") (C := RX4) (T := TX4) (N := 10) hx hb hts iwwsX4_init_4 tyX4 tyX4_ok nmX4 hown hK hP hD hS 0 rfl rfl 4 (by decide) (hts (.fieldLink RX4 36 "NothingJudge$Reader" "code" "LNothingJudge$Code;") fwwsX4_init_36) (fun _ h9 => h9) rfl (by decide +kernel) rfl rfl (Nat.le_of_ble_eq_true rfl) dX4_init_40 (fun H locs hP hD hS => ?_)
  have hP : va_P (dC, dI) vwCl [(h0, .inr (4, [.ref tok, .ref q_14, .ref q_15, .ref g, .ref gc, .int 0, .int 0, .int 0, .int 0, .int (-1)])), (g, .inr (3, [.ref gc, .ref ga1, .ref ga2, .ref ga3, .ref ga4, .ref ga5, .ref ga6, .ref ga7, .ref ga8, .int 0, .int 0, .int 0, .int 0, .int (-1)])), (q_14, .inl (cI, 6, .inl (fun _ => 0))), (q_15, .inl (cI, 6, .inl (fun _ => 0)))] H := hP
  have hD : va_D A [(h0, .inr (4, [.ref tok, .ref q_14, .ref q_15, .ref g, .ref gc, .int 0, .int 0, .int 0, .int 0, .int (-1)])), (g, .inr (3, [.ref gc, .ref ga1, .ref ga2, .ref ga3, .ref ga4, .ref ga5, .ref ga6, .ref ga7, .ref ga8, .int 0, .int 0, .int 0, .int 0, .int (-1)])), (q_14, .inl (cI, 6, .inl (fun _ => 0))), (q_15, .inl (cI, 6, .inl (fun _ => 0)))] := hD
  have hP9 := hP.sub (ws' := [(h0, .inr (4, [.ref tok, .ref q_14, .ref q_15, .ref g, .ref gc, .int 0, .int 0, .int 0, .int 0, .int (-1)])), (g, .inr (3, [.ref gc, .ref ga1, .ref ga2, .ref ga3, .ref ga4, .ref ga5, .ref ga6, .ref ga7, .ref ga8, .int 0, .int 0, .int 0, .int 0, .int (-1)]))]) [0, 1] rfl
  have hD9 := hD.sub (ws' := [(h0, .inr (4, [.ref tok, .ref q_14, .ref q_15, .ref g, .ref gc, .int 0, .int 0, .int 0, .int 0, .int (-1)])), (g, .inr (3, [.ref gc, .ref ga1, .ref ga2, .ref ga3, .ref ga4, .ref ga5, .ref ga6, .ref ga7, .ref ga8, .int 0, .int 0, .int 0, .int 0, .int (-1)]))]) [0, 1] (by decide) rfl
  exact W.vret hx hb hr (fun t ht hW => ⟨⟨(), rfl, trivial, q_14, q_15, by rw [ht]; exact hP9, hD9⟩, hS.F ht⟩) hS.2.2 dX4_init_43

set_option maxHeartbeats 4000000 in
set_option maxRecDepth 100000 in
theorem c_X7_init (l : Launch) (dC : Nat → ClassId) (dI : Nat → Nat → Nat) (cI cB cL cZ : ClassId) (h0 : Nat) (g : Nat) (sz : Nat)  : Met l yX7_init wsX7_init ({ frames := 1, cells := 1, slots := 4, locals := 12 }) (cP (dC, dI) (kTy cI cB cL cZ) [.ref h0, .ref g] [(h0, .inr (6, [.null, .int 0, .null]))] sz) (va_Qv (fun _ : Unit => True) (fun (_ : Unit) (t : State) => ∃ qz0 : Nat, va_P (dC, dI) vwCl [(h0, .inr (6, [.ref g, .int (-1), .ref qz0])), (qz0, .inl (cI, 4, .inl (fun _ => 0)))] t.heap ∧ va_D (va_A [(h0, .inr (6, [.null, .int 0, .null]))] sz) [(h0, .inr (6, [.ref g, .int (-1), .ref qz0])), (qz0, .inl (cI, 4, .inl (fun _ => 0)))]) (va_A [(h0, .inr (6, [.null, .int 0, .null]))] sz)) 1 4 (va_A [(h0, .inr (6, [.null, .int 0, .null]))] sz) := by
  refine Met.ofW (cc := cX7_init) (maxL := 2) (ret := none) (by decide) rfl ?_
  intro p e s m args below meth c s₁ B hml hv
  obtain ⟨rfl, hsz, hP, hK, hD0, hN⟩ := hv
  have hx := B.exec
  have hb := B.bytes
  have hr := B.returns
  have hts := atoms_spec (ws := wsX7_init) B.pre
  have hown : s.vm.findClass RX7 = some m.cls := findClass_of_methodNamed B.named
  have hlocks := B.notSynchronized
  have hin : meth.name = "<init>" := (name_of_methodNamed B.named B.method).1
  subst hsz
  have hD := hD0.self (sz := s.heap.size)
  generalize hAe : va_A [(h0, .inr (6, [.null, .int 0, .null]))] s.heap.size = A at hD ⊢
  have hA : ∀ q : Nat, s.heap.size ≤ q → A q := fun q h => by rw [← hAe]; exact Or.inr h
  have hl := lv_entry ([.ref h0, .ref g]) (n := 2) (Nat.le_of_ble_eq_true rfl)
  rw [lg_entry_eq]
  generalize (lg_sl ([.ref h0, .ref g]) ++ List.replicate (2 - (lg_sl ([.ref h0, .ref g])).length) Slot.unset).toArray = ls at hl ⊢
  have hl : lv_has ls 2 [(0, .ref h0), (1, .ref g)] := hl
  refine k_H (A := A) hP (fun H hP hS => ?_)
  have hP : va_P (dC, dI) vwCl [(h0, .inr (6, [.null, .int 0, .null]))] H := hP
  have hD : va_D A [(h0, .inr (6, [.null, .int 0, .null]))] := hD
  refine lv_aload_n hx hb dX7_init_0 rfl (lv_at hl 0 rfl) ?_
  refine W.objInit hx hb hown (hts (.methodLink RX7 3 objectInit) ol_wsX7_init) (hts (.instanceMethod objectInit) oi_wsX7_init) (hts (.code objectInit ⟨#[0xb1]⟩ 1 none) oc_wsX7_init) rfl (by rw [hml]; exact hl.1) rfl dX7_init_1 (Nat.le_of_ble_eq_true rfl) (Nat.le_of_ble_eq_true rfl) ?_
  refine W.eq (g2 := F0 m 4 ls []) rfl ?_
  refine lv_aload_n hx hb dX7_init_4 rfl (lv_at hl 0 rfl) ?_
  refine lv_iconst (v := (-1)) hx hb dX7_init_5 (by decide) ?_
  refine va_put (D := (dC, dI)) (ci := 6) (v := .int (-1)) (ty := .int) (C := RX7) (T := TX7) (N := 3) hx hb hts iwwsX7_init_7 tyX7 tyX7_ok nmX7 hown hK hP hD hS 0 rfl rfl 1 (by decide) (hts (.fieldLink RX7 9 "NothingJudge$Scene" "start" "I") fwwsX7_init_9) (fun _ h9 => h9) rfl (by decide +kernel) rfl rfl (Nat.le_of_ble_eq_true rfl) dX7_init_6 (fun H locs hP hD hS => ?_)
  have hP : va_P (dC, dI) vwCl [(h0, .inr (6, [.null, .int (-1), .null]))] H := hP
  have hD : va_D A [(h0, .inr (6, [.null, .int (-1), .null]))] := hD
  refine lv_aload_n hx hb dX7_init_9 rfl (lv_at hl 0 rfl) ?_
  refine lv_iconst (v := 4) hx hb dX7_init_10 (by decide) ?_
  refine k_newa (atype := .int) hx hb (hts (.arrayClass .int) ac_int_wsX7_init) rfl hK 0 rfl (fun _ h9 => h9) (a0 := (4, .inl (fun _ => 0))) (N' := 4) hP hD hS hA (fun _ => rfl) (by decide) (by decide) (by decide) (Nat.le_of_ble_eq_true rfl) (Nat.le_of_ble_eq_true rfl) dX7_init_11 (fun q_16 H hP hD hS => ?_)
  have hP : va_P (dC, dI) vwCl [(h0, .inr (6, [.null, .int (-1), .null])), (q_16, .inl (cI, 4, .inl (fun _ => 0)))] H := hP
  have hD : va_D A [(h0, .inr (6, [.null, .int (-1), .null])), (q_16, .inl (cI, 4, .inl (fun _ => 0)))] := hD
  refine W.widen (k := 1) (n := 4) (Nat.le_of_ble_eq_true rfl) (Nat.le_of_ble_eq_true rfl) ?_
  refine va_putF (D := (dC, dI)) (ci := 6) (v := .ref q_16) (ty := .array .int) (C := RX7) (T := TX7) (N := 3) hx hb hts iwwsX7_init_7 tyX7 tyX7_ok nmX7 hown hK hP hD hS 0 rfl rfl 2 (by decide) (hts (.fieldLink RX7 15 "NothingJudge$Scene" "told" "[I") fwwsX7_init_15) (fun _ h9 => h9) rfl hin rfl (by decide +kernel) rfl rfl (Nat.le_of_ble_eq_true rfl) dX7_init_13 (fun H locs hP hD hS => ?_)
  have hP : va_P (dC, dI) vwCl [(h0, .inr (6, [.null, .int (-1), .ref q_16])), (q_16, .inl (cI, 4, .inl (fun _ => 0)))] H := hP
  have hD : va_D A [(h0, .inr (6, [.null, .int (-1), .ref q_16])), (q_16, .inl (cI, 4, .inl (fun _ => 0)))] := hD
  refine lv_aload_n hx hb dX7_init_16 rfl (lv_at hl 0 rfl) ?_
  refine lv_aload_n hx hb dX7_init_17 rfl (lv_at hl 1 rfl) ?_
  refine va_put (D := (dC, dI)) (ci := 6) (v := .ref g) (ty := .object "NothingJudge$Program") (C := RX7) (T := TX7) (N := 3) hx hb hts iwwsX7_init_7 tyX7 tyX7_ok nmX7 hown hK hP hD hS 0 rfl rfl 0 (by decide) (hts (.fieldLink RX7 19 "NothingJudge$Scene" "program" "LNothingJudge$Program;") fwwsX7_init_19) (fun _ h9 => h9) rfl (by decide +kernel) rfl rfl (Nat.le_of_ble_eq_true rfl) dX7_init_18 (fun H locs hP hD hS => ?_)
  have hP : va_P (dC, dI) vwCl [(h0, .inr (6, [.ref g, .int (-1), .ref q_16])), (q_16, .inl (cI, 4, .inl (fun _ => 0)))] H := hP
  have hD : va_D A [(h0, .inr (6, [.ref g, .int (-1), .ref q_16])), (q_16, .inl (cI, 4, .inl (fun _ => 0)))] := hD
  have hP9 := hP.sub (ws' := [(h0, .inr (6, [.ref g, .int (-1), .ref q_16])), (q_16, .inl (cI, 4, .inl (fun _ => 0)))]) [0, 1] rfl
  have hD9 := hD.sub (ws' := [(h0, .inr (6, [.ref g, .int (-1), .ref q_16])), (q_16, .inl (cI, 4, .inl (fun _ => 0)))]) [0, 1] (by decide) rfl
  exact W.vret hx hb hr (fun t ht hW => ⟨⟨(), rfl, trivial, q_16, by rw [ht]; exact hP9, hD9⟩, hS.F ht⟩) hS.2.2 dX7_init_21
