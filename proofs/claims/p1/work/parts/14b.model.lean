set_option maxHeartbeats 4000000 in
set_option maxRecDepth 100000 in
theorem m_canRun (l : Launch) (dC : Nat → ClassId) (dI : Nat → Nat → Nat) (cI cB cL cZ : ClassId) (h0 : Nat) (a : Int32) (b : Int32) (fs : List Value) (sz : Nat) (gl_fs : fs.length = 68) (g_fs_39 : fs[39]? = some (.int (-1))) : Met l yX11_canRun wsX11_canRun ({ frames := 0, cells := 0, slots := 0, locals := 0 }) (cP (dC, dI) (kTy cI cB cL cZ) [.ref h0, .int a, .int b] [(h0, .inr (10, fs))] sz) (va_Qi (fun (r : Int32) (_ : Unit) => r = 0) (fun (_ : Unit) (t : State) => va_P (dC, dI) vwCl [(h0, .inr (10, fs))] t.heap ∧ va_D (va_A [(h0, .inr (10, fs))] sz) [(h0, .inr (10, fs))]) (va_A [(h0, .inr (10, fs))] sz)) 0 0 (va_A [(h0, .inr (10, fs))] sz) := by
  refine Met.ofW (cc := cX11_canRun) (maxL := 4) (ret := (some .boolean)) (by decide) rfl ?_
  intro p e s m args below meth c s₁ B hml hv
  obtain ⟨rfl, hsz, hP, hK, hD0, hN⟩ := hv
  have hx := B.exec
  have hb := B.bytes
  have hr := B.returns
  have hts := atoms_spec (ws := wsX11_canRun) B.pre
  have hown : s.vm.findClass RX11 = some m.cls := findClass_of_methodNamed B.named
  have hlocks := B.notSynchronized
  subst hsz
  have hD := hD0.self (sz := s.heap.size)
  generalize hAe : va_A [(h0, .inr (10, fs))] s.heap.size = A at hD ⊢
  have hA : ∀ q : Nat, s.heap.size ≤ q → A q := fun q h => by rw [← hAe]; exact Or.inr h
  have hl := lv_entry ([.ref h0, .int a, .int b]) (n := 4) (Nat.le_of_ble_eq_true rfl)
  rw [lg_entry_eq]
  generalize (lg_sl ([.ref h0, .int a, .int b]) ++ List.replicate (4 - (lg_sl ([.ref h0, .int a, .int b])).length) Slot.unset).toArray = ls at hl ⊢
  have hl : lv_has ls 4 [(0, .ref h0), (1, .int a), (2, .int b)] := hl
  refine k_H (A := A) hP (fun H hP hS => ?_)
  have hP : va_P (dC, dI) vwCl [(h0, .inr (10, fs))] H := hP
  have hD : va_D A [(h0, .inr (10, fs))] := hD
  refine lv_aload_n hx hb dX11_canRun_0 rfl (lv_at hl 0 rfl) ?_
  refine va_get (D := (dC, dI)) (ci := 10) (v := .int (-1)) (C := RX11) (T := TX11) (N := 68) hx hb hts iwwsX11_canRun_11 hown hK hP 0 rfl rfl 39 (by decide) (hts (.fieldLink RX11 83 "NothingJudgeModel" "entry" "I") fwwsX11_canRun_83) (fun _ h9 => h9) g_fs_39 dX11_canRun_1 ?_
  refine lv_iconst (v := (-1)) hx hb dX11_canRun_4 (by decide) ?_
  refine lv_icmp_eq (tgt := 38) hx hb dX11_canRun_5 (by decide) (fun _ => ?_) (fun c9 => absurd (by decide) c9)
  refine lv_iconst (v := 0) hx hb dX11_canRun_38 (by decide) ?_
  have hP9 := hP.sub (ws' := [(h0, .inr (10, fs))]) [0] rfl
  have hD9 := hD.sub (ws' := [(h0, .inr (10, fs))]) [0] (by decide) rfl
  exact W.zret (v := 0) (ty := .boolean) hx hb hr rfl (fun t ht hW => ⟨⟨0, (), rfl, rfl, by rw [ht]; exact hP9, hD9⟩, hS.F ht⟩) hS.2.2 dX11_canRun_39

set_option maxHeartbeats 4000000 in
set_option maxRecDepth 100000 in
theorem m_run (l : Launch) (dC : Nat → ClassId) (dI : Nat → Nat → Nat) (cI cB cL cZ : ClassId) (h0 : Nat) (a : Int32) (b : Int32) (fs : List Value) (sz : Nat) (gl_fs : fs.length = 68) (g_fs_39 : fs[39]? = some (.int (-1))) : Met l yX11_run wsX11_run ({ frames := 1, cells := 0, slots := 0, locals := 23 }) (cP (dC, dI) (kTy cI cB cL cZ) [.ref h0, .int a, .int b] [(h0, .inr (10, fs))] sz) (va_Qi (fun (r : Int32) (_ : Unit) => r = -1) (fun (_ : Unit) (t : State) => va_P (dC, dI) vwCl [] t.heap ∧ va_D (va_A [(h0, .inr (10, fs))] sz) []) (va_A [(h0, .inr (10, fs))] sz)) 0 0 (va_A [(h0, .inr (10, fs))] sz) := by
  refine Met.ofW (cc := cX11_run) (maxL := 3) (ret := (some .int)) (by decide) rfl ?_
  intro p e s m args below meth c s₁ B hml hv
  obtain ⟨rfl, hsz, hP, hK, hD0, hN⟩ := hv
  have hx := B.exec
  have hb := B.bytes
  have hr := B.returns
  have hts := atoms_spec (ws := wsX11_run) B.pre
  have hown : s.vm.findClass RX11 = some m.cls := findClass_of_methodNamed B.named
  have hlocks := B.notSynchronized
  subst hsz
  have hD := hD0.self (sz := s.heap.size)
  generalize hAe : va_A [(h0, .inr (10, fs))] s.heap.size = A at hD ⊢
  have hA : ∀ q : Nat, s.heap.size ≤ q → A q := fun q h => by rw [← hAe]; exact Or.inr h
  have hl := lv_entry ([.ref h0, .int a, .int b]) (n := 3) (Nat.le_of_ble_eq_true rfl)
  rw [lg_entry_eq]
  generalize (lg_sl ([.ref h0, .int a, .int b]) ++ List.replicate (3 - (lg_sl ([.ref h0, .int a, .int b])).length) Slot.unset).toArray = ls at hl ⊢
  have hl : lv_has ls 3 [(0, .ref h0), (1, .int a), (2, .int b)] := hl
  refine k_H (A := A) hP (fun H hP hS => ?_)
  have hP : va_P (dC, dI) vwCl [(h0, .inr (10, fs))] H := hP
  have hD : va_D A [(h0, .inr (10, fs))] := hD
  refine lv_aload_n hx hb dX11_run_0 rfl (lv_at hl 0 rfl) ?_
  refine lv_iconst (v := 0) hx hb dX11_run_1 (by decide) ?_
  refine va_put (D := (dC, dI)) (ci := 10) (v := .int 0) (ty := .int) (C := RX11) (T := TX11) (N := 68) hx hb hts iwwsX11_run_11 tyX11 tyX11_ok nmX11 hown hK hP hD hS 0 rfl rfl 0 (by decide) (hts (.fieldLink RX11 121 "NothingJudgeModel" "thrown" "I") fwwsX11_run_121) (fun _ h9 => h9) rfl (by decide +kernel) rfl rfl (by rw [gl_fs]; decide) dX11_run_2 (fun H locs hP hD hS => ?_)
  obtain ⟨fs_340, efs_340⟩ : ∃ z : List Value, z = fs.set 0 (.int 0) := ⟨_, rfl⟩
  have glfs_340 : fs_340.length = 68 := fs_len efs_340 gl_fs
  have hP : va_P (dC, dI) vwCl [(h0, .inr (10, fs_340))] H := by rw [efs_340]; exact hP
  have hD : va_D A [(h0, .inr (10, fs_340))] := by rw [efs_340]; exact hD
  refine lv_aload_n hx hb dX11_run_5 rfl (lv_at hl 0 rfl) ?_
  refine lv_iload_n hx hb dX11_run_6 rfl (lv_at hl 1 rfl) ?_
  refine lv_iload_n hx hb dX11_run_7 rfl (lv_at hl 2 rfl) ?_
  have hPc := hP.sub (ws' := [(h0, .inr (10, fs_340))]) [0] rfl
  have hDc := hD.sub (ws' := [(h0, .inr (10, fs_340))]) [0] (by decide) rfl
  have hFc := va_free (wc := [(h0, .inr (10, fs_340))]) hD hS hA [0] rfl
  refine va_calli (va_runV (As := [.int a, .int b]) (rest := []) ⟨hx, hb, hml, hown, hts⟩ (m_canRun l dC dI cI cB cL cZ (h0) (a) (b) (fs_340) H.size glfs_340 (fs_ne efs_340 (by decide) g_fs_39)) (cwV 2 hts gX11_run_X11_canRun rfl rfl rfl (by decide +kernel) ⟨Nat.le_of_ble_eq_true rfl, Nat.le_of_ble_eq_true rfl⟩) ⟨cP_fb, va_recv hK hPc (ci := 10) (q0 := 0) rfl rfl, fun U hU hW => cP_pre hPc hK hDc hN U hU hW⟩ rfl rfl hl.1 rfl (lv_room (Nat.le_of_ble_eq_true rfl)) dX11_run_8 ⟨Nat.le_of_ble_eq_true rfl, Nat.le_of_ble_eq_true rfl⟩) hS (fun q _ h => hFc q h) hFc (fun r_341 u t H1 locs ht hvm hw hB hz1 hk1 hS => ?_)
  obtain ⟨hP1, hD1⟩ := hB
  rw [ht] at hP1
  obtain ⟨hP, hD⟩ := va_join (wr := []) (w1 := [(h0, .inr (10, fs_340))]) hP hD [0] [] rfl rfl (by decide) (by decide) hk1 hFc hP1 hD1
  generalize H1 = H at hP hS ⊢
  have hP : va_P (dC, dI) vwCl [(h0, .inr (10, fs_340))] H := hP
  have hD : va_D A [(h0, .inr (10, fs_340))] := hD
  obtain rfl : r_341 = 0 := hw
  refine lv_if_ne (tgt := 16) hx hb dX11_run_11 (by decide) (fun c9 => absurd c9 (by decide)) (fun _ => ?_)
  refine lv_iconst (v := (-1)) hx hb dX11_run_14 (by decide) ?_
  subst efs_340
  have hP9 := hP.sub (ws' := []) [] rfl
  have hD9 := hD.sub (ws' := []) [] (by decide) rfl
  exact W.iret (v := (-1)) hx hb hr (fun t ht hW => ⟨⟨(-1), (), rfl, rfl, by rw [ht]; exact hP9, hD9⟩, hS.F ht⟩) hS.2.2 dX11_run_15

set_option maxHeartbeats 4000000 in
set_option maxRecDepth 100000 in
theorem m_ran (l : Launch) (dC : Nat → ClassId) (dI : Nat → Nat → Nat) (cI cB cL cZ : ClassId) (h0 : Nat) (a : Int32) (fs : List Value) (sz : Nat) (gl_fs : fs.length = 68) (g_fs_56 : fs[56]? = some (.int 0)) : Met l yX11_ran wsX11_ran ({ frames := 0, cells := 0, slots := 0, locals := 0 }) (cP (dC, dI) (kTy cI cB cL cZ) [.ref h0, .int a] [(h0, .inr (10, fs))] sz) (va_Qi (fun (r : Int32) (_ : Unit) => r = -1) (fun (_ : Unit) (t : State) => va_P (dC, dI) vwCl [] t.heap ∧ va_D (va_A [(h0, .inr (10, fs))] sz) []) (va_A [(h0, .inr (10, fs))] sz)) 0 0 (va_A [(h0, .inr (10, fs))] sz) := by
  refine Met.ofW (cc := cX11_ran) (maxL := 2) (ret := (some .int)) (by decide) rfl ?_
  intro p e s m args below meth c s₁ B hml hv
  obtain ⟨rfl, hsz, hP, hK, hD0, hN⟩ := hv
  have hx := B.exec
  have hb := B.bytes
  have hr := B.returns
  have hts := atoms_spec (ws := wsX11_ran) B.pre
  have hown : s.vm.findClass RX11 = some m.cls := findClass_of_methodNamed B.named
  have hlocks := B.notSynchronized
  subst hsz
  have hD := hD0.self (sz := s.heap.size)
  generalize hAe : va_A [(h0, .inr (10, fs))] s.heap.size = A at hD ⊢
  have hA : ∀ q : Nat, s.heap.size ≤ q → A q := fun q h => by rw [← hAe]; exact Or.inr h
  have hl := lv_entry ([.ref h0, .int a]) (n := 2) (Nat.le_of_ble_eq_true rfl)
  rw [lg_entry_eq]
  generalize (lg_sl ([.ref h0, .int a]) ++ List.replicate (2 - (lg_sl ([.ref h0, .int a])).length) Slot.unset).toArray = ls at hl ⊢
  have hl : lv_has ls 2 [(0, .ref h0), (1, .int a)] := hl
  refine k_H (A := A) hP (fun H hP hS => ?_)
  have hP : va_P (dC, dI) vwCl [(h0, .inr (10, fs))] H := hP
  have hD : va_D A [(h0, .inr (10, fs))] := hD
  refine lv_aload_n hx hb dX11_ran_0 rfl (lv_at hl 0 rfl) ?_
  refine lv_iconst (v := 0) hx hb dX11_ran_1 (by decide) ?_
  refine va_put (D := (dC, dI)) (ci := 10) (v := .int 0) (ty := .int) (C := RX11) (T := TX11) (N := 68) hx hb hts iwwsX11_ran_11 tyX11 tyX11_ok nmX11 hown hK hP hD hS 0 rfl rfl 0 (by decide) (hts (.fieldLink RX11 121 "NothingJudgeModel" "thrown" "I") fwwsX11_ran_121) (fun _ h9 => h9) rfl (by decide +kernel) rfl rfl (by rw [gl_fs]; decide) dX11_ran_2 (fun H locs hP hD hS => ?_)
  obtain ⟨fs_342, efs_342⟩ : ∃ z : List Value, z = fs.set 0 (.int 0) := ⟨_, rfl⟩
  have glfs_342 : fs_342.length = 68 := fs_len efs_342 gl_fs
  have hP : va_P (dC, dI) vwCl [(h0, .inr (10, fs_342))] H := by rw [efs_342]; exact hP
  have hD : va_D A [(h0, .inr (10, fs_342))] := by rw [efs_342]; exact hD
  refine lv_aload_n hx hb dX11_ran_5 rfl (lv_at hl 0 rfl) ?_
  refine va_get (D := (dC, dI)) (ci := 10) (v := .int 0) (C := RX11) (T := TX11) (N := 68) hx hb hts iwwsX11_ran_11 hown hK hP 0 rfl rfl 56 (by decide) (hts (.fieldLink RX11 363 "NothingJudgeModel" "hasRun" "Z") fwwsX11_ran_363) (fun _ h9 => h9) (fs_ne efs_342 (by decide) g_fs_56) dX11_ran_6 ?_
  refine lv_if_ne (tgt := 14) hx hb dX11_ran_9 (by decide) (fun c9 => absurd c9 (by decide)) (fun _ => ?_)
  refine lv_iconst (v := (-1)) hx hb dX11_ran_12 (by decide) ?_
  subst efs_342
  have hP9 := hP.sub (ws' := []) [] rfl
  have hD9 := hD.sub (ws' := []) [] (by decide) rfl
  exact W.iret (v := (-1)) hx hb hr (fun t ht hW => ⟨⟨(-1), (), rfl, rfl, by rw [ht]; exact hP9, hD9⟩, hS.F ht⟩) hS.2.2 dX11_ran_13

set_option maxHeartbeats 4000000 in
set_option maxRecDepth 100000 in
theorem m_mend (l : Launch) (dC : Nat → ClassId) (dI : Nat → Nat → Nat) (cI cB cL cZ : ClassId) (h0 : Nat) (fs : List Value) (sz : Nat) (gl_fs : fs.length = 68) (g_fs_39 : fs[39]? = some (.int (-1))) : Met l yX11_mend wsX11_mend ({ frames := 0, cells := 0, slots := 0, locals := 0 }) (cP (dC, dI) (kTy cI cB cL cZ) [.ref h0] [(h0, .inr (10, fs))] sz) (va_Qi (fun (r : Int32) (_ : Unit) => r = -1) (fun (_ : Unit) (t : State) => va_P (dC, dI) vwCl [] t.heap ∧ va_D (va_A [(h0, .inr (10, fs))] sz) []) (va_A [(h0, .inr (10, fs))] sz)) 0 0 (va_A [(h0, .inr (10, fs))] sz) := by
  refine Met.ofW (cc := cX11_mend) (maxL := 6) (ret := (some .int)) (by decide) rfl ?_
  intro p e s m args below meth c s₁ B hml hv
  obtain ⟨rfl, hsz, hP, hK, hD0, hN⟩ := hv
  have hx := B.exec
  have hb := B.bytes
  have hr := B.returns
  have hts := atoms_spec (ws := wsX11_mend) B.pre
  have hown : s.vm.findClass RX11 = some m.cls := findClass_of_methodNamed B.named
  have hlocks := B.notSynchronized
  subst hsz
  have hD := hD0.self (sz := s.heap.size)
  generalize hAe : va_A [(h0, .inr (10, fs))] s.heap.size = A at hD ⊢
  have hA : ∀ q : Nat, s.heap.size ≤ q → A q := fun q h => by rw [← hAe]; exact Or.inr h
  have hl := lv_entry ([.ref h0]) (n := 6) (Nat.le_of_ble_eq_true rfl)
  rw [lg_entry_eq]
  generalize (lg_sl ([.ref h0]) ++ List.replicate (6 - (lg_sl ([.ref h0])).length) Slot.unset).toArray = ls at hl ⊢
  have hl : lv_has ls 6 [(0, .ref h0)] := hl
  refine k_H (A := A) hP (fun H hP hS => ?_)
  have hP : va_P (dC, dI) vwCl [(h0, .inr (10, fs))] H := hP
  have hD : va_D A [(h0, .inr (10, fs))] := hD
  refine lv_aload_n hx hb dX11_mend_0 rfl (lv_at hl 0 rfl) ?_
  refine lv_iconst (v := 0) hx hb dX11_mend_1 (by decide) ?_
  refine va_put (D := (dC, dI)) (ci := 10) (v := .int 0) (ty := .int) (C := RX11) (T := TX11) (N := 68) hx hb hts iwwsX11_mend_11 tyX11 tyX11_ok nmX11 hown hK hP hD hS 0 rfl rfl 0 (by decide) (hts (.fieldLink RX11 121 "NothingJudgeModel" "thrown" "I") fwwsX11_mend_121) (fun _ h9 => h9) rfl (by decide +kernel) rfl rfl (by rw [gl_fs]; decide) dX11_mend_2 (fun H locs hP hD hS => ?_)
  obtain ⟨fs_343, efs_343⟩ : ∃ z : List Value, z = fs.set 0 (.int 0) := ⟨_, rfl⟩
  have glfs_343 : fs_343.length = 68 := fs_len efs_343 gl_fs
  have hP : va_P (dC, dI) vwCl [(h0, .inr (10, fs_343))] H := by rw [efs_343]; exact hP
  have hD : va_D A [(h0, .inr (10, fs_343))] := by rw [efs_343]; exact hD
  refine lv_aload_n hx hb dX11_mend_5 rfl (lv_at hl 0 rfl) ?_
  refine va_get (D := (dC, dI)) (ci := 10) (v := .int (-1)) (C := RX11) (T := TX11) (N := 68) hx hb hts iwwsX11_mend_11 hown hK hP 0 rfl rfl 39 (by decide) (hts (.fieldLink RX11 83 "NothingJudgeModel" "entry" "I") fwwsX11_mend_83) (fun _ h9 => h9) (fs_ne efs_343 (by decide) g_fs_39) dX11_mend_6 ?_
  refine lv_iconst (v := (-1)) hx hb dX11_mend_9 (by decide) ?_
  refine lv_icmp_ne (tgt := 15) hx hb dX11_mend_10 (by decide) (fun c9 => absurd c9 (by decide)) (fun _ => ?_)
  refine lv_iconst (v := (-1)) hx hb dX11_mend_13 (by decide) ?_
  subst efs_343
  have hP9 := hP.sub (ws' := []) [] rfl
  have hD9 := hD.sub (ws' := []) [] (by decide) rfl
  exact W.iret (v := (-1)) hx hb hr (fun t ht hW => ⟨⟨(-1), (), rfl, rfl, by rw [ht]; exact hP9, hD9⟩, hS.F ht⟩) hS.2.2 dX11_mend_14

set_option maxHeartbeats 4000000 in
set_option maxRecDepth 100000 in
theorem m_mended (l : Launch) (dC : Nat → ClassId) (dI : Nat → Nat → Nat) (cI cB cL cZ : ClassId) (h0 : Nat) (a : Int32) (fs : List Value) (sz : Nat) (gl_fs : fs.length = 68) (g_fs_67 : fs[67]? = some (.int 0)) : Met l yX11_mended wsX11_mended ({ frames := 0, cells := 0, slots := 0, locals := 0 }) (cP (dC, dI) (kTy cI cB cL cZ) [.ref h0, .int a] [(h0, .inr (10, fs))] sz) (va_Qi (fun (r : Int32) (_ : Unit) => r = -1) (fun (_ : Unit) (t : State) => va_P (dC, dI) vwCl [] t.heap ∧ va_D (va_A [(h0, .inr (10, fs))] sz) []) (va_A [(h0, .inr (10, fs))] sz)) 0 0 (va_A [(h0, .inr (10, fs))] sz) := by
  refine Met.ofW (cc := cX11_mended) (maxL := 3) (ret := (some .int)) (by decide) rfl ?_
  intro p e s m args below meth c s₁ B hml hv
  obtain ⟨rfl, hsz, hP, hK, hD0, hN⟩ := hv
  have hx := B.exec
  have hb := B.bytes
  have hr := B.returns
  have hts := atoms_spec (ws := wsX11_mended) B.pre
  have hown : s.vm.findClass RX11 = some m.cls := findClass_of_methodNamed B.named
  have hlocks := B.notSynchronized
  subst hsz
  have hD := hD0.self (sz := s.heap.size)
  generalize hAe : va_A [(h0, .inr (10, fs))] s.heap.size = A at hD ⊢
  have hA : ∀ q : Nat, s.heap.size ≤ q → A q := fun q h => by rw [← hAe]; exact Or.inr h
  have hl := lv_entry ([.ref h0, .int a]) (n := 3) (Nat.le_of_ble_eq_true rfl)
  rw [lg_entry_eq]
  generalize (lg_sl ([.ref h0, .int a]) ++ List.replicate (3 - (lg_sl ([.ref h0, .int a])).length) Slot.unset).toArray = ls at hl ⊢
  have hl : lv_has ls 3 [(0, .ref h0), (1, .int a)] := hl
  refine k_H (A := A) hP (fun H hP hS => ?_)
  have hP : va_P (dC, dI) vwCl [(h0, .inr (10, fs))] H := hP
  have hD : va_D A [(h0, .inr (10, fs))] := hD
  refine lv_aload_n hx hb dX11_mended_0 rfl (lv_at hl 0 rfl) ?_
  refine lv_iconst (v := 0) hx hb dX11_mended_1 (by decide) ?_
  refine va_put (D := (dC, dI)) (ci := 10) (v := .int 0) (ty := .int) (C := RX11) (T := TX11) (N := 68) hx hb hts iwwsX11_mended_11 tyX11 tyX11_ok nmX11 hown hK hP hD hS 0 rfl rfl 0 (by decide) (hts (.fieldLink RX11 121 "NothingJudgeModel" "thrown" "I") fwwsX11_mended_121) (fun _ h9 => h9) rfl (by decide +kernel) rfl rfl (by rw [gl_fs]; decide) dX11_mended_2 (fun H locs hP hD hS => ?_)
  obtain ⟨fs_344, efs_344⟩ : ∃ z : List Value, z = fs.set 0 (.int 0) := ⟨_, rfl⟩
  have glfs_344 : fs_344.length = 68 := fs_len efs_344 gl_fs
  have hP : va_P (dC, dI) vwCl [(h0, .inr (10, fs_344))] H := by rw [efs_344]; exact hP
  have hD : va_D A [(h0, .inr (10, fs_344))] := by rw [efs_344]; exact hD
  refine lv_aload_n hx hb dX11_mended_5 rfl (lv_at hl 0 rfl) ?_
  refine va_get (D := (dC, dI)) (ci := 10) (v := .int 0) (C := RX11) (T := TX11) (N := 68) hx hb hts iwwsX11_mended_11 hown hK hP 0 rfl rfl 67 (by decide) (hts (.fieldLink RX11 393 "NothingJudgeModel" "hasMend" "Z") fwwsX11_mended_393) (fun _ h9 => h9) (fs_ne efs_344 (by decide) g_fs_67) dX11_mended_6 ?_
  refine lv_if_eq (tgt := 26) hx hb dX11_mended_9 (by decide) (fun _ => ?_) (fun c9 => absurd (by decide) c9)
  refine lv_iconst (v := (-1)) hx hb dX11_mended_26 (by decide) ?_
  subst efs_344
  have hP9 := hP.sub (ws' := []) [] rfl
  have hD9 := hD.sub (ws' := []) [] (by decide) rfl
  exact W.iret (v := (-1)) hx hb hr (fun t ht hW => ⟨⟨(-1), (), rfl, rfl, by rw [ht]; exact hP9, hD9⟩, hS.F ht⟩) hS.2.2 dX11_mended_27

set_option maxHeartbeats 4000000 in
set_option maxRecDepth 100000 in
theorem m_priceY (l : Launch) (dC : Nat → ClassId) (dI : Nat → Nat → Nat) (cI cB cL cZ : ClassId) (h0 : Nat) (m_pr : Nat) (a : Int32) (b : Int32) (fs : List Value) (f : Nat → Int32) (sz : Nat) (gl_fs : fs.length = 68) (g_fs_61 : fs[61]? = some (.ref m_pr)) (h1 : ¬ a < 0) (h2 : ¬ 3 < a) (h3 : ¬ b < 1) (h4 : b ≤ 99) : Met l yX11_price wsX11_price ({ frames := 0, cells := 0, slots := 0, locals := 0 }) (cP (dC, dI) (kTy cI cB cL cZ) [.ref h0, .int a, .int b] [(h0, .inr (10, fs)), (m_pr, .inl (cI, 4, .inl f))] sz) (va_Qi (fun (r : Int32) (_ : Unit) => r = 1) (fun (_ : Unit) (t : State) => va_P (dC, dI) vwCl [] t.heap ∧ va_D (va_A [(h0, .inr (10, fs)), (m_pr, .inl (cI, 4, .inl f))] sz) []) (va_A [(h0, .inr (10, fs)), (m_pr, .inl (cI, 4, .inl f))] sz)) 0 0 (va_A [(h0, .inr (10, fs)), (m_pr, .inl (cI, 4, .inl f))] sz) := by
  refine Met.ofW (cc := cX11_price) (maxL := 3) (ret := (some .boolean)) (by decide) rfl ?_
  intro p e s m args below meth c s₁ B hml hv
  obtain ⟨rfl, hsz, hP, hK, hD0, hN⟩ := hv
  have hx := B.exec
  have hb := B.bytes
  have hr := B.returns
  have hts := atoms_spec (ws := wsX11_price) B.pre
  have hown : s.vm.findClass RX11 = some m.cls := findClass_of_methodNamed B.named
  have hlocks := B.notSynchronized
  subst hsz
  have hD := hD0.self (sz := s.heap.size)
  generalize hAe : va_A [(h0, .inr (10, fs)), (m_pr, .inl (cI, 4, .inl f))] s.heap.size = A at hD ⊢
  have hA : ∀ q : Nat, s.heap.size ≤ q → A q := fun q h => by rw [← hAe]; exact Or.inr h
  have hl := lv_entry ([.ref h0, .int a, .int b]) (n := 3) (Nat.le_of_ble_eq_true rfl)
  rw [lg_entry_eq]
  generalize (lg_sl ([.ref h0, .int a, .int b]) ++ List.replicate (3 - (lg_sl ([.ref h0, .int a, .int b])).length) Slot.unset).toArray = ls at hl ⊢
  have hl : lv_has ls 3 [(0, .ref h0), (1, .int a), (2, .int b)] := hl
  refine k_H (A := A) hP (fun H hP hS => ?_)
  have hP : va_P (dC, dI) vwCl [(h0, .inr (10, fs)), (m_pr, .inl (cI, 4, .inl f))] H := hP
  have hD : va_D A [(h0, .inr (10, fs)), (m_pr, .inl (cI, 4, .inl f))] := hD
  refine lv_aload_n hx hb dX11_price_0 rfl (lv_at hl 0 rfl) ?_
  refine lv_iconst (v := 0) hx hb dX11_price_1 (by decide) ?_
  refine va_put (D := (dC, dI)) (ci := 10) (v := .int 0) (ty := .int) (C := RX11) (T := TX11) (N := 68) hx hb hts iwwsX11_price_11 tyX11 tyX11_ok nmX11 hown hK hP hD hS 0 rfl rfl 0 (by decide) (hts (.fieldLink RX11 121 "NothingJudgeModel" "thrown" "I") fwwsX11_price_121) (fun _ h9 => h9) rfl (by decide +kernel) rfl rfl (by rw [gl_fs]; decide) dX11_price_2 (fun H locs hP hD hS => ?_)
  obtain ⟨fs_345, efs_345⟩ : ∃ z : List Value, z = fs.set 0 (.int 0) := ⟨_, rfl⟩
  have glfs_345 : fs_345.length = 68 := fs_len efs_345 gl_fs
  have hP : va_P (dC, dI) vwCl [(h0, .inr (10, fs_345)), (m_pr, .inl (cI, 4, .inl f))] H := by rw [efs_345]; exact hP
  have hD : va_D A [(h0, .inr (10, fs_345)), (m_pr, .inl (cI, 4, .inl f))] := by rw [efs_345]; exact hD
  refine lv_iload_n hx hb dX11_price_5 rfl (lv_at hl 1 rfl) ?_
  refine lv_if_lt (tgt := 25) hx hb dX11_price_6 (by decide) (fun c9 => absurd c9 h1) (fun _ => ?_)
  refine lv_iload_n hx hb dX11_price_9 rfl (lv_at hl 1 rfl) ?_
  refine lv_iconst (v := 3) hx hb dX11_price_10 (by decide) ?_
  refine lv_icmp_gt (tgt := 25) hx hb dX11_price_11 (by decide) (fun c9 => absurd c9 h2) (fun _ => ?_)
  refine lv_iload_n hx hb dX11_price_14 rfl (lv_at hl 2 rfl) ?_
  refine lv_iconst (v := 1) hx hb dX11_price_15 (by decide) ?_
  refine lv_icmp_lt (tgt := 25) hx hb dX11_price_16 (by decide) (fun c9 => absurd c9 h3) (fun _ => ?_)
  refine lv_iload_n hx hb dX11_price_19 rfl (lv_at hl 2 rfl) ?_
  refine lv_bipush (v := 99) hx hb dX11_price_20 (by decide) ?_
  refine lv_icmp_le (tgt := 27) hx hb dX11_price_22 (by decide) (fun _ => ?_) (fun c9 => absurd h4 c9)
  refine lv_aload_n hx hb dX11_price_27 rfl (lv_at hl 0 rfl) ?_
  refine va_get (D := (dC, dI)) (ci := 10) (v := .ref m_pr) (C := RX11) (T := TX11) (N := 68) hx hb hts iwwsX11_price_11 hown hK hP 0 rfl rfl 61 (by decide) (hts (.fieldLink RX11 112 "NothingJudgeModel" "prices" "[I") fwwsX11_price_112) (fun _ h9 => h9) (fs_ne efs_345 (by decide) g_fs_61) dX11_price_28 ?_
  refine lv_iload_n hx hb dX11_price_31 rfl (lv_at hl 1 rfl) ?_
  refine lv_iload_n hx hb dX11_price_32 rfl (lv_at hl 2 rfl) ?_
  refine va_iast hx hb hK hP hD hS 1 0 rfl rfl (in_of (y := 4) (by decide) h1 (fun h9 => h2 (Int32.lt_of_lt_of_le (by decide) h9)) (by decide)) dX11_price_33 (fun H locs hP hD hS => ?_)
  obtain ⟨f_346, ef_346⟩ : ∃ z, z = upd f a.toNatClampNeg b := ⟨_, rfl⟩
  have hP : va_P (dC, dI) vwCl [(h0, .inr (10, fs_345)), (m_pr, .inl (cI, 4, .inl f_346))] H := by rw [ef_346]; exact hP
  have hD : va_D A [(h0, .inr (10, fs_345)), (m_pr, .inl (cI, 4, .inl f_346))] := by rw [ef_346]; exact hD
  refine lv_iconst (v := 1) hx hb dX11_price_34 (by decide) ?_
  subst efs_345
  have hP9 := hP.sub (ws' := []) [] rfl
  have hD9 := hD.sub (ws' := []) [] (by decide) rfl
  exact W.zret (v := 1) (ty := .boolean) hx hb hr rfl (fun t ht hW => ⟨⟨1, (), rfl, rfl, by rw [ht]; exact hP9, hD9⟩, hS.F ht⟩) hS.2.2 dX11_price_35

set_option maxHeartbeats 4000000 in
set_option maxRecDepth 100000 in
theorem m_priceN (l : Launch) (dC : Nat → ClassId) (dI : Nat → Nat → Nat) (cI cB cL cZ : ClassId) (h0 : Nat) (a : Int32) (b : Int32) (fs : List Value) (sz : Nat) (gl_fs : fs.length = 68) (hb9 : a < 0 ∨ 3 < a ∨ b < 1 ∨ ¬ b ≤ 99) : Met l yX11_price wsX11_price ({ frames := 0, cells := 0, slots := 0, locals := 0 }) (cP (dC, dI) (kTy cI cB cL cZ) [.ref h0, .int a, .int b] [(h0, .inr (10, fs))] sz) (va_Qi (fun (r : Int32) (_ : Unit) => r = 0) (fun (_ : Unit) (t : State) => va_P (dC, dI) vwCl [] t.heap ∧ va_D (va_A [(h0, .inr (10, fs))] sz) []) (va_A [(h0, .inr (10, fs))] sz)) 0 0 (va_A [(h0, .inr (10, fs))] sz) := by
  refine Met.ofW (cc := cX11_price) (maxL := 3) (ret := (some .boolean)) (by decide) rfl ?_
  intro p e s m args below meth c s₁ B hml hv
  obtain ⟨rfl, hsz, hP, hK, hD0, hN⟩ := hv
  have hx := B.exec
  have hb := B.bytes
  have hr := B.returns
  have hts := atoms_spec (ws := wsX11_price) B.pre
  have hown : s.vm.findClass RX11 = some m.cls := findClass_of_methodNamed B.named
  have hlocks := B.notSynchronized
  subst hsz
  have hD := hD0.self (sz := s.heap.size)
  generalize hAe : va_A [(h0, .inr (10, fs))] s.heap.size = A at hD ⊢
  have hA : ∀ q : Nat, s.heap.size ≤ q → A q := fun q h => by rw [← hAe]; exact Or.inr h
  have hl := lv_entry ([.ref h0, .int a, .int b]) (n := 3) (Nat.le_of_ble_eq_true rfl)
  rw [lg_entry_eq]
  generalize (lg_sl ([.ref h0, .int a, .int b]) ++ List.replicate (3 - (lg_sl ([.ref h0, .int a, .int b])).length) Slot.unset).toArray = ls at hl ⊢
  have hl : lv_has ls 3 [(0, .ref h0), (1, .int a), (2, .int b)] := hl
  refine k_H (A := A) hP (fun H hP hS => ?_)
  have hP : va_P (dC, dI) vwCl [(h0, .inr (10, fs))] H := hP
  have hD : va_D A [(h0, .inr (10, fs))] := hD
  refine lv_aload_n hx hb dX11_price_0 rfl (lv_at hl 0 rfl) ?_
  refine lv_iconst (v := 0) hx hb dX11_price_1 (by decide) ?_
  refine va_put (D := (dC, dI)) (ci := 10) (v := .int 0) (ty := .int) (C := RX11) (T := TX11) (N := 68) hx hb hts iwwsX11_price_11 tyX11 tyX11_ok nmX11 hown hK hP hD hS 0 rfl rfl 0 (by decide) (hts (.fieldLink RX11 121 "NothingJudgeModel" "thrown" "I") fwwsX11_price_121) (fun _ h9 => h9) rfl (by decide +kernel) rfl rfl (by rw [gl_fs]; decide) dX11_price_2 (fun H locs hP hD hS => ?_)
  obtain ⟨fs_347, efs_347⟩ : ∃ z : List Value, z = fs.set 0 (.int 0) := ⟨_, rfl⟩
  have glfs_347 : fs_347.length = 68 := fs_len efs_347 gl_fs
  have hP : va_P (dC, dI) vwCl [(h0, .inr (10, fs_347))] H := by rw [efs_347]; exact hP
  have hD : va_D A [(h0, .inr (10, fs_347))] := by rw [efs_347]; exact hD
  refine lv_iload_n hx hb dX11_price_5 rfl (lv_at hl 1 rfl) ?_
  refine lv_if_lt (tgt := 25) hx hb dX11_price_6 (by decide) (fun c_348 => ?_) (fun c_348 => ?_)
  · refine lv_iconst (v := 0) hx hb dX11_price_25 (by decide) ?_
    subst efs_347
    have hP9 := hP.sub (ws' := []) [] rfl
    have hD9 := hD.sub (ws' := []) [] (by decide) rfl
    exact W.zret (v := 0) (ty := .boolean) hx hb hr rfl (fun t ht hW => ⟨⟨0, (), rfl, rfl, by rw [ht]; exact hP9, hD9⟩, hS.F ht⟩) hS.2.2 dX11_price_26
  · refine lv_iload_n hx hb dX11_price_9 rfl (lv_at hl 1 rfl) ?_
    refine lv_iconst (v := 3) hx hb dX11_price_10 (by decide) ?_
    refine lv_icmp_gt (tgt := 25) hx hb dX11_price_11 (by decide) (fun c_349 => ?_) (fun c_349 => ?_)
    · refine lv_iconst (v := 0) hx hb dX11_price_25 (by decide) ?_
      subst efs_347
      have hP9 := hP.sub (ws' := []) [] rfl
      have hD9 := hD.sub (ws' := []) [] (by decide) rfl
      exact W.zret (v := 0) (ty := .boolean) hx hb hr rfl (fun t ht hW => ⟨⟨0, (), rfl, rfl, by rw [ht]; exact hP9, hD9⟩, hS.F ht⟩) hS.2.2 dX11_price_26
    · refine lv_iload_n hx hb dX11_price_14 rfl (lv_at hl 2 rfl) ?_
      refine lv_iconst (v := 1) hx hb dX11_price_15 (by decide) ?_
      refine lv_icmp_lt (tgt := 25) hx hb dX11_price_16 (by decide) (fun c_350 => ?_) (fun c_350 => ?_)
      · refine lv_iconst (v := 0) hx hb dX11_price_25 (by decide) ?_
        subst efs_347
        have hP9 := hP.sub (ws' := []) [] rfl
        have hD9 := hD.sub (ws' := []) [] (by decide) rfl
        exact W.zret (v := 0) (ty := .boolean) hx hb hr rfl (fun t ht hW => ⟨⟨0, (), rfl, rfl, by rw [ht]; exact hP9, hD9⟩, hS.F ht⟩) hS.2.2 dX11_price_26
      · refine lv_iload_n hx hb dX11_price_19 rfl (lv_at hl 2 rfl) ?_
        refine lv_bipush (v := 99) hx hb dX11_price_20 (by decide) ?_
        refine lv_icmp_le (tgt := 27) hx hb dX11_price_22 (by decide) (fun c9 => absurd c9 (((hb9.resolve_left c_348).resolve_left c_349).resolve_left c_350)) (fun _ => ?_)
        refine lv_iconst (v := 0) hx hb dX11_price_25 (by decide) ?_
        subst efs_347
        have hP9 := hP.sub (ws' := []) [] rfl
        have hD9 := hD.sub (ws' := []) [] (by decide) rfl
        exact W.zret (v := 0) (ty := .boolean) hx hb hr rfl (fun t ht hW => ⟨⟨0, (), rfl, rfl, by rw [ht]; exact hP9, hD9⟩, hS.F ht⟩) hS.2.2 dX11_price_26

set_option maxHeartbeats 4000000 in
set_option maxRecDepth 100000 in
theorem m_mark0 (l : Launch) (dC : Nat → ClassId) (dI : Nat → Nat → Nat) (cI cB cL cZ : ClassId) (h0 : Nat) (m_rf : Nat) (m_ih : Nat) (m_mk : Nat) (m_td : Nat) (r : Int32) (fs : List Value) (frf : Nat → Int32) (f0 : Nat → Int32) (f1 : Nat → Int32) (f2 : Nat → Int32) (sz : Nat) (gl_fs : fs.length = 68) (g_fs_19 : fs[19]? = some (.ref m_rf)) (g_fs_43 : fs[43]? = some (.ref m_ih)) (g_fs_42 : fs[42]? = some (.ref m_mk)) (g_fs_44 : fs[44]? = some (.ref m_td)) (g_fs_18 : fs[18]? = some (.int 0)) (g_fs_39 : fs[39]? = some (.int (-1))) (hrf : ∀ j, j < 16 → frf j = -1) : Met l yX11_mark wsX11_mark ({ frames := 1, cells := 0, slots := 0, locals := 21 }) (cP (dC, dI) (kTy cI cB cL cZ) [.ref h0, .int 2, .int r, .int 0] [(h0, .inr (10, fs)), (m_rf, .inl (cI, 16, .inl frf)), (m_ih, .inl (cZ, 42, .inl f0)), (m_mk, .inl (cI, 42, .inl f1)), (m_td, .inl (cI, 25, .inl f2))] sz) (va_Qi (fun (r : Int32) (_ : Unit) => r = 0) (fun (_ : Unit) (t : State) => va_P (dC, dI) vwCl [] t.heap ∧ va_D (va_A [(h0, .inr (10, fs)), (m_rf, .inl (cI, 16, .inl frf)), (m_ih, .inl (cZ, 42, .inl f0)), (m_mk, .inl (cI, 42, .inl f1)), (m_td, .inl (cI, 25, .inl f2))] sz) []) (va_A [(h0, .inr (10, fs)), (m_rf, .inl (cI, 16, .inl frf)), (m_ih, .inl (cZ, 42, .inl f0)), (m_mk, .inl (cI, 42, .inl f1)), (m_td, .inl (cI, 25, .inl f2))] sz)) 0 0 (va_A [(h0, .inr (10, fs)), (m_rf, .inl (cI, 16, .inl frf)), (m_ih, .inl (cZ, 42, .inl f0)), (m_mk, .inl (cI, 42, .inl f1)), (m_td, .inl (cI, 25, .inl f2))] sz) := by
  refine Met.ofW (cc := cX11_mark) (maxL := 5) (ret := (some .int)) (by decide) rfl ?_
  intro p e s m args below meth c s₁ B hml hv
  obtain ⟨rfl, hsz, hP, hK, hD0, hN⟩ := hv
  have hx := B.exec
  have hb := B.bytes
  have hr := B.returns
  have hts := atoms_spec (ws := wsX11_mark) B.pre
  have hown : s.vm.findClass RX11 = some m.cls := findClass_of_methodNamed B.named
  have hlocks := B.notSynchronized
  subst hsz
  have hD := hD0.self (sz := s.heap.size)
  generalize hAe : va_A [(h0, .inr (10, fs)), (m_rf, .inl (cI, 16, .inl frf)), (m_ih, .inl (cZ, 42, .inl f0)), (m_mk, .inl (cI, 42, .inl f1)), (m_td, .inl (cI, 25, .inl f2))] s.heap.size = A at hD ⊢
  have hA : ∀ q : Nat, s.heap.size ≤ q → A q := fun q h => by rw [← hAe]; exact Or.inr h
  have hl := lv_entry ([.ref h0, .int 2, .int r, .int 0]) (n := 5) (Nat.le_of_ble_eq_true rfl)
  rw [lg_entry_eq]
  generalize (lg_sl ([.ref h0, .int 2, .int r, .int 0]) ++ List.replicate (5 - (lg_sl ([.ref h0, .int 2, .int r, .int 0])).length) Slot.unset).toArray = ls at hl ⊢
  have hl : lv_has ls 5 [(0, .ref h0), (1, .int 2), (2, .int r), (3, .int 0)] := hl
  refine k_H (A := A) hP (fun H hP hS => ?_)
  have hP : va_P (dC, dI) vwCl [(h0, .inr (10, fs)), (m_rf, .inl (cI, 16, .inl frf)), (m_ih, .inl (cZ, 42, .inl f0)), (m_mk, .inl (cI, 42, .inl f1)), (m_td, .inl (cI, 25, .inl f2))] H := hP
  have hD : va_D A [(h0, .inr (10, fs)), (m_rf, .inl (cI, 16, .inl frf)), (m_ih, .inl (cZ, 42, .inl f0)), (m_mk, .inl (cI, 42, .inl f1)), (m_td, .inl (cI, 25, .inl f2))] := hD
  refine lv_aload_n hx hb dX11_mark_0 rfl (lv_at hl 0 rfl) ?_
  refine lv_iconst (v := 0) hx hb dX11_mark_1 (by decide) ?_
  refine va_put (D := (dC, dI)) (ci := 10) (v := .int 0) (ty := .int) (C := RX11) (T := TX11) (N := 68) hx hb hts iwwsX11_mark_11 tyX11 tyX11_ok nmX11 hown hK hP hD hS 0 rfl rfl 0 (by decide) (hts (.fieldLink RX11 121 "NothingJudgeModel" "thrown" "I") fwwsX11_mark_121) (fun _ h9 => h9) rfl (by decide +kernel) rfl rfl (by rw [gl_fs]; decide) dX11_mark_2 (fun H locs hP hD hS => ?_)
  obtain ⟨fs_351, efs_351⟩ : ∃ z : List Value, z = fs.set 0 (.int 0) := ⟨_, rfl⟩
  have glfs_351 : fs_351.length = 68 := fs_len efs_351 gl_fs
  have hP : va_P (dC, dI) vwCl [(h0, .inr (10, fs_351)), (m_rf, .inl (cI, 16, .inl frf)), (m_ih, .inl (cZ, 42, .inl f0)), (m_mk, .inl (cI, 42, .inl f1)), (m_td, .inl (cI, 25, .inl f2))] H := by rw [efs_351]; exact hP
  have hD : va_D A [(h0, .inr (10, fs_351)), (m_rf, .inl (cI, 16, .inl frf)), (m_ih, .inl (cZ, 42, .inl f0)), (m_mk, .inl (cI, 42, .inl f1)), (m_td, .inl (cI, 25, .inl f2))] := by rw [efs_351]; exact hD
  refine lv_iload_n hx hb dX11_mark_5 rfl (lv_at hl 2 rfl) ?_
  refine lv_if_lt (tgt := 29) hx hb dX11_mark_6 (by decide) (fun c_352 => ?_) (fun c_352 => ?_)
  · refine lv_iconst (v := 0) hx hb dX11_mark_29 (by decide) ?_
    refine lv_istore (lv' := [(4, .int 0), (0, .ref h0), (1, .int 2), (2, .int r), (3, .int 0)]) hx hb dX11_mark_30 hl (by decide) rfl (fun ls hl => ?_)
    refine lv_iload_n hx hb dX11_mark_32 rfl (lv_at hl 2 rfl) ?_
    refine lv_if_lt (tgt := 83) hx hb dX11_mark_33 (by decide) (fun c9 => absurd c9 (by decide)) (fun _ => ?_)
    refine lv_iload_n hx hb dX11_mark_36 rfl (lv_at hl 2 rfl) ?_
    refine lv_iconst (v := 2) hx hb dX11_mark_37 (by decide) ?_
    refine lv_icmp_gt (tgt := 83) hx hb dX11_mark_38 (by decide) (fun c9 => absurd c9 (by decide)) (fun _ => ?_)
    refine lv_iload_n hx hb dX11_mark_41 rfl (lv_at hl 2 rfl) ?_
    refine lv_iconst (v := 2) hx hb dX11_mark_42 (by decide) ?_
    refine lv_icmp_ge (tgt := 51) hx hb dX11_mark_43 (by decide) (fun _ => ?_) (fun c9 => absurd (by decide) c9)
    refine lv_iload_n hx hb dX11_mark_51 rfl (lv_at hl 2 rfl) ?_
    refine lv_if_ne (tgt := 69) hx hb dX11_mark_52 (by decide) (fun _ => ?_) (fun c9 => absurd c9 (by decide))
    refine lv_iload_n hx hb dX11_mark_69 rfl (lv_at hl 2 rfl) ?_
    refine lv_iconst (v := 2) hx hb dX11_mark_70 (by decide) ?_
    refine lv_icmp_ne (tgt := 85) hx hb dX11_mark_71 (by decide) (fun c9 => absurd c9 (by decide)) (fun _ => ?_)
    refine lv_iload_n hx hb dX11_mark_74 rfl (lv_at hl 4 rfl) ?_
    refine lv_if_lt (tgt := 83) hx hb dX11_mark_75 (by decide) (fun c9 => absurd c9 (by decide)) (fun _ => ?_)
    refine lv_iload_n hx hb dX11_mark_78 rfl (lv_at hl 4 rfl) ?_
    refine lv_iconst (v := 1) hx hb dX11_mark_79 (by decide) ?_
    refine lv_icmp_le (tgt := 85) hx hb dX11_mark_80 (by decide) (fun _ => ?_) (fun c9 => absurd (by decide) c9)
    refine lv_aload_n hx hb dX11_mark_85 rfl (lv_at hl 1 rfl) ?_
    have hPc := hP.sub (ws' := [(h0, .inr (10, fs_351)), (m_ih, .inl (cZ, 42, .inl f0))]) [0, 2] rfl
    have hDc := hD.sub (ws' := [(h0, .inr (10, fs_351)), (m_ih, .inl (cZ, 42, .inl f0))]) [0, 2] (by decide) rfl
    have hFc := va_free (wc := [(h0, .inr (10, fs_351)), (m_ih, .inl (cZ, 42, .inl f0))]) hD hS hA [0, 2] rfl
    refine va_callv (va_runV (As := []) (rest := []) ⟨hx, hb, hml, hown, hts⟩ (c_frees l dC dI cI cB cL cZ (h0) (m_ih) (fs_351) (f0) H.size glfs_351 (fs_ne efs_351 (by decide) g_fs_43)) (cwV 0 hts gX11_mark_X11_frees rfl rfl rfl (by decide +kernel) ⟨Nat.le_of_ble_eq_true rfl, Nat.le_of_ble_eq_true rfl⟩) ⟨cP_fb, va_recv hK hPc (ci := 10) (q0 := 0) rfl rfl, fun U hU hW => cP_pre hPc hK hDc hN U hU hW⟩ rfl rfl hl.1 rfl (lv_room (Nat.le_of_ble_eq_true rfl)) dX11_mark_86 ⟨Nat.le_of_ble_eq_true rfl, Nat.le_of_ble_eq_true rfl⟩) hS (fun q _ h => hFc q h) hFc (fun u t H1 locs ht hvm hw hB hz1 hk1 hS => ?_)
    obtain ⟨hP1, hD1⟩ := hB
    rw [ht] at hP1
    obtain ⟨hP, hD⟩ := va_join (wr := [(m_rf, .inl (cI, 16, .inl frf)), (m_mk, .inl (cI, 42, .inl f1)), (m_td, .inl (cI, 25, .inl f2))]) (w1 := [(h0, .inr (10, fs_351))]) hP hD [0, 2] [1, 3, 4] rfl rfl (by decide) (by decide) hk1 hFc hP1 hD1
    generalize H1 = H at hP hS ⊢
    have hP : va_P (dC, dI) vwCl [(m_rf, .inl (cI, 16, .inl frf)), (m_mk, .inl (cI, 42, .inl f1)), (m_td, .inl (cI, 25, .inl f2)), (h0, .inr (10, fs_351))] H := hP
    have hD : va_D A [(m_rf, .inl (cI, 16, .inl frf)), (m_mk, .inl (cI, 42, .inl f1)), (m_td, .inl (cI, 25, .inl f2)), (h0, .inr (10, fs_351))] := hD
    refine lv_aload_n hx hb dX11_mark_89 rfl (lv_at hl 1 rfl) ?_
    have hPc := hP.sub (ws' := [(h0, .inr (10, fs_351)), (m_mk, .inl (cI, 42, .inl f1)), (m_td, .inl (cI, 25, .inl f2))]) [3, 1, 2] rfl
    have hDc := hD.sub (ws' := [(h0, .inr (10, fs_351)), (m_mk, .inl (cI, 42, .inl f1)), (m_td, .inl (cI, 25, .inl f2))]) [3, 1, 2] (by decide) rfl
    have hFc := va_free (wc := [(h0, .inr (10, fs_351)), (m_mk, .inl (cI, 42, .inl f1)), (m_td, .inl (cI, 25, .inl f2))]) hD hS hA [3, 1, 2] rfl
    refine va_callv (va_runV (As := []) (rest := []) ⟨hx, hb, hml, hown, hts⟩ (c_reckons l dC dI cI cB cL cZ (h0) (m_mk) (m_td) (fs_351) (f1) (f2) H.size glfs_351 (fs_ne efs_351 (by decide) g_fs_42) (fs_ne efs_351 (by decide) g_fs_44) (fs_ne efs_351 (by decide) g_fs_18) (fs_ne efs_351 (by decide) g_fs_39)) (cwV 0 hts gX11_mark_X11_reckons rfl rfl rfl (by decide +kernel) ⟨Nat.le_of_ble_eq_true rfl, Nat.le_of_ble_eq_true rfl⟩) ⟨cP_fb, va_recv hK hPc (ci := 10) (q0 := 0) rfl rfl, fun U hU hW => cP_pre hPc hK hDc hN U hU hW⟩ rfl rfl hl.1 rfl (lv_room (Nat.le_of_ble_eq_true rfl)) dX11_mark_90 ⟨Nat.le_of_ble_eq_true rfl, Nat.le_of_ble_eq_true rfl⟩) hS (fun q _ h => hFc q h) hFc (fun u t H1 locs ht hvm hw hB hz1 hk1 hS => ?_)
    obtain ⟨f_354, hf_355, hP1, hD1⟩ := hB
    rw [ht] at hP1
    obtain ⟨hP, hD⟩ := va_join (wr := [(m_rf, .inl (cI, 16, .inl frf))]) (w1 := [(h0, .inr (10, (fs_351.set 45 (.int 0)))), (m_mk, .inl (cI, 42, .inl f_354))]) hP hD [3, 1, 2] [0] rfl rfl (by decide) (by decide) hk1 hFc hP1 hD1
    generalize H1 = H at hP hS ⊢
    obtain ⟨fs_357, efs_357⟩ : ∃ z : List Value, z = fs_351.set 45 (.int 0) := ⟨_, rfl⟩
    have glfs_357 : fs_357.length = 68 := fs_len efs_357 glfs_351
    have hP : va_P (dC, dI) vwCl [(m_rf, .inl (cI, 16, .inl frf)), (h0, .inr (10, fs_357)), (m_mk, .inl (cI, 42, .inl f_354))] H := by rw [efs_357]; exact hP
    have hD : va_D A [(m_rf, .inl (cI, 16, .inl frf)), (h0, .inr (10, fs_357)), (m_mk, .inl (cI, 42, .inl f_354))] := by rw [efs_357]; exact hD
    refine lv_aload_n hx hb dX11_mark_93 rfl (lv_at hl 1 rfl) ?_
    refine va_get (D := (dC, dI)) (ci := 10) (v := .ref m_mk) (C := RX11) (T := TX11) (N := 68) hx hb hts iwwsX11_mark_11 hown hK hP 1 rfl rfl 42 (by decide) (hts (.fieldLink RX11 93 "NothingJudgeModel" "marks" "[I") fwwsX11_mark_93) (fun _ h9 => h9) (fs_ne efs_357 (by decide) (fs_ne efs_351 (by decide) g_fs_42)) dX11_mark_94 ?_
    refine lv_iload_n hx hb dX11_mark_97 rfl (lv_at hl 2 rfl) ?_
    refine lv_if_ne (tgt := 109) hx hb dX11_mark_98 (by decide) (fun _ => ?_) (fun c9 => absurd c9 (by decide))
    refine lv_iload_n hx hb dX11_mark_109 rfl (lv_at hl 2 rfl) ?_
    refine lv_iconst (v := 1) hx hb dX11_mark_110 (by decide) ?_
    refine lv_icmp_ne (tgt := 121) hx hb dX11_mark_111 (by decide) (fun _ => ?_) (fun c9 => absurd c9 (by decide))
    refine lv_bipush (v := 40) hx hb dX11_mark_121 (by decide) ?_
    refine lv_iload_n hx hb dX11_mark_123 rfl (lv_at hl 4 rfl) ?_
    refine lv_iadd hx hb dX11_mark_124 ?_
    refine lv_topi (fun y_358 ey_358 => ?_)
    obtain rfl : y_358 = 40 := ey_358.trans (by decide)
    refine va_iald hx hb hK hP 2 0 rfl rfl (by unfold vp_in; decide) dX11_mark_125 ?_
    refine lv_topi (fun y_359 ey_359 => ?_)
    obtain rfl : y_359 = 0 := ey_359.trans (hf_355 _ (by decide))
    subst efs_357
    subst efs_351
    have hP9 := hP.sub (ws' := []) [] rfl
    have hD9 := hD.sub (ws' := []) [] (by decide) rfl
    exact W.iret (v := 0) hx hb hr (fun t ht hW => ⟨⟨0, (), rfl, rfl, by rw [ht]; exact hP9, hD9⟩, hS.F ht⟩) hS.2.2 dX11_mark_126
  · refine lv_iload_n hx hb dX11_mark_9 rfl (lv_at hl 2 rfl) ?_
    refine lv_bipush (v := 8) hx hb dX11_mark_10 (by decide) ?_
    refine lv_icmp_ge (tgt := 29) hx hb dX11_mark_12 (by decide) (fun c_360 => ?_) (fun c_360 => ?_)
    · refine lv_iconst (v := 0) hx hb dX11_mark_29 (by decide) ?_
      refine lv_istore (lv' := [(4, .int 0), (0, .ref h0), (1, .int 2), (2, .int r), (3, .int 0)]) hx hb dX11_mark_30 hl (by decide) rfl (fun ls hl => ?_)
      refine lv_iload_n hx hb dX11_mark_32 rfl (lv_at hl 2 rfl) ?_
      refine lv_if_lt (tgt := 83) hx hb dX11_mark_33 (by decide) (fun c9 => absurd c9 (by decide)) (fun _ => ?_)
      refine lv_iload_n hx hb dX11_mark_36 rfl (lv_at hl 2 rfl) ?_
      refine lv_iconst (v := 2) hx hb dX11_mark_37 (by decide) ?_
      refine lv_icmp_gt (tgt := 83) hx hb dX11_mark_38 (by decide) (fun c9 => absurd c9 (by decide)) (fun _ => ?_)
      refine lv_iload_n hx hb dX11_mark_41 rfl (lv_at hl 2 rfl) ?_
      refine lv_iconst (v := 2) hx hb dX11_mark_42 (by decide) ?_
      refine lv_icmp_ge (tgt := 51) hx hb dX11_mark_43 (by decide) (fun _ => ?_) (fun c9 => absurd (by decide) c9)
      refine lv_iload_n hx hb dX11_mark_51 rfl (lv_at hl 2 rfl) ?_
      refine lv_if_ne (tgt := 69) hx hb dX11_mark_52 (by decide) (fun _ => ?_) (fun c9 => absurd c9 (by decide))
      refine lv_iload_n hx hb dX11_mark_69 rfl (lv_at hl 2 rfl) ?_
      refine lv_iconst (v := 2) hx hb dX11_mark_70 (by decide) ?_
      refine lv_icmp_ne (tgt := 85) hx hb dX11_mark_71 (by decide) (fun c9 => absurd c9 (by decide)) (fun _ => ?_)
      refine lv_iload_n hx hb dX11_mark_74 rfl (lv_at hl 4 rfl) ?_
      refine lv_if_lt (tgt := 83) hx hb dX11_mark_75 (by decide) (fun c9 => absurd c9 (by decide)) (fun _ => ?_)
      refine lv_iload_n hx hb dX11_mark_78 rfl (lv_at hl 4 rfl) ?_
      refine lv_iconst (v := 1) hx hb dX11_mark_79 (by decide) ?_
      refine lv_icmp_le (tgt := 85) hx hb dX11_mark_80 (by decide) (fun _ => ?_) (fun c9 => absurd (by decide) c9)
      refine lv_aload_n hx hb dX11_mark_85 rfl (lv_at hl 1 rfl) ?_
      have hPc := hP.sub (ws' := [(h0, .inr (10, fs_351)), (m_ih, .inl (cZ, 42, .inl f0))]) [0, 2] rfl
      have hDc := hD.sub (ws' := [(h0, .inr (10, fs_351)), (m_ih, .inl (cZ, 42, .inl f0))]) [0, 2] (by decide) rfl
      have hFc := va_free (wc := [(h0, .inr (10, fs_351)), (m_ih, .inl (cZ, 42, .inl f0))]) hD hS hA [0, 2] rfl
      refine va_callv (va_runV (As := []) (rest := []) ⟨hx, hb, hml, hown, hts⟩ (c_frees l dC dI cI cB cL cZ (h0) (m_ih) (fs_351) (f0) H.size glfs_351 (fs_ne efs_351 (by decide) g_fs_43)) (cwV 0 hts gX11_mark_X11_frees rfl rfl rfl (by decide +kernel) ⟨Nat.le_of_ble_eq_true rfl, Nat.le_of_ble_eq_true rfl⟩) ⟨cP_fb, va_recv hK hPc (ci := 10) (q0 := 0) rfl rfl, fun U hU hW => cP_pre hPc hK hDc hN U hU hW⟩ rfl rfl hl.1 rfl (lv_room (Nat.le_of_ble_eq_true rfl)) dX11_mark_86 ⟨Nat.le_of_ble_eq_true rfl, Nat.le_of_ble_eq_true rfl⟩) hS (fun q _ h => hFc q h) hFc (fun u t H1 locs ht hvm hw hB hz1 hk1 hS => ?_)
      obtain ⟨hP1, hD1⟩ := hB
      rw [ht] at hP1
      obtain ⟨hP, hD⟩ := va_join (wr := [(m_rf, .inl (cI, 16, .inl frf)), (m_mk, .inl (cI, 42, .inl f1)), (m_td, .inl (cI, 25, .inl f2))]) (w1 := [(h0, .inr (10, fs_351))]) hP hD [0, 2] [1, 3, 4] rfl rfl (by decide) (by decide) hk1 hFc hP1 hD1
      generalize H1 = H at hP hS ⊢
      have hP : va_P (dC, dI) vwCl [(m_rf, .inl (cI, 16, .inl frf)), (m_mk, .inl (cI, 42, .inl f1)), (m_td, .inl (cI, 25, .inl f2)), (h0, .inr (10, fs_351))] H := hP
      have hD : va_D A [(m_rf, .inl (cI, 16, .inl frf)), (m_mk, .inl (cI, 42, .inl f1)), (m_td, .inl (cI, 25, .inl f2)), (h0, .inr (10, fs_351))] := hD
      refine lv_aload_n hx hb dX11_mark_89 rfl (lv_at hl 1 rfl) ?_
      have hPc := hP.sub (ws' := [(h0, .inr (10, fs_351)), (m_mk, .inl (cI, 42, .inl f1)), (m_td, .inl (cI, 25, .inl f2))]) [3, 1, 2] rfl
      have hDc := hD.sub (ws' := [(h0, .inr (10, fs_351)), (m_mk, .inl (cI, 42, .inl f1)), (m_td, .inl (cI, 25, .inl f2))]) [3, 1, 2] (by decide) rfl
      have hFc := va_free (wc := [(h0, .inr (10, fs_351)), (m_mk, .inl (cI, 42, .inl f1)), (m_td, .inl (cI, 25, .inl f2))]) hD hS hA [3, 1, 2] rfl
      refine va_callv (va_runV (As := []) (rest := []) ⟨hx, hb, hml, hown, hts⟩ (c_reckons l dC dI cI cB cL cZ (h0) (m_mk) (m_td) (fs_351) (f1) (f2) H.size glfs_351 (fs_ne efs_351 (by decide) g_fs_42) (fs_ne efs_351 (by decide) g_fs_44) (fs_ne efs_351 (by decide) g_fs_18) (fs_ne efs_351 (by decide) g_fs_39)) (cwV 0 hts gX11_mark_X11_reckons rfl rfl rfl (by decide +kernel) ⟨Nat.le_of_ble_eq_true rfl, Nat.le_of_ble_eq_true rfl⟩) ⟨cP_fb, va_recv hK hPc (ci := 10) (q0 := 0) rfl rfl, fun U hU hW => cP_pre hPc hK hDc hN U hU hW⟩ rfl rfl hl.1 rfl (lv_room (Nat.le_of_ble_eq_true rfl)) dX11_mark_90 ⟨Nat.le_of_ble_eq_true rfl, Nat.le_of_ble_eq_true rfl⟩) hS (fun q _ h => hFc q h) hFc (fun u t H1 locs ht hvm hw hB hz1 hk1 hS => ?_)
      obtain ⟨f_362, hf_363, hP1, hD1⟩ := hB
      rw [ht] at hP1
      obtain ⟨hP, hD⟩ := va_join (wr := [(m_rf, .inl (cI, 16, .inl frf))]) (w1 := [(h0, .inr (10, (fs_351.set 45 (.int 0)))), (m_mk, .inl (cI, 42, .inl f_362))]) hP hD [3, 1, 2] [0] rfl rfl (by decide) (by decide) hk1 hFc hP1 hD1
      generalize H1 = H at hP hS ⊢
      obtain ⟨fs_365, efs_365⟩ : ∃ z : List Value, z = fs_351.set 45 (.int 0) := ⟨_, rfl⟩
      have glfs_365 : fs_365.length = 68 := fs_len efs_365 glfs_351
      have hP : va_P (dC, dI) vwCl [(m_rf, .inl (cI, 16, .inl frf)), (h0, .inr (10, fs_365)), (m_mk, .inl (cI, 42, .inl f_362))] H := by rw [efs_365]; exact hP
      have hD : va_D A [(m_rf, .inl (cI, 16, .inl frf)), (h0, .inr (10, fs_365)), (m_mk, .inl (cI, 42, .inl f_362))] := by rw [efs_365]; exact hD
      refine lv_aload_n hx hb dX11_mark_93 rfl (lv_at hl 1 rfl) ?_
      refine va_get (D := (dC, dI)) (ci := 10) (v := .ref m_mk) (C := RX11) (T := TX11) (N := 68) hx hb hts iwwsX11_mark_11 hown hK hP 1 rfl rfl 42 (by decide) (hts (.fieldLink RX11 93 "NothingJudgeModel" "marks" "[I") fwwsX11_mark_93) (fun _ h9 => h9) (fs_ne efs_365 (by decide) (fs_ne efs_351 (by decide) g_fs_42)) dX11_mark_94 ?_
      refine lv_iload_n hx hb dX11_mark_97 rfl (lv_at hl 2 rfl) ?_
      refine lv_if_ne (tgt := 109) hx hb dX11_mark_98 (by decide) (fun _ => ?_) (fun c9 => absurd c9 (by decide))
      refine lv_iload_n hx hb dX11_mark_109 rfl (lv_at hl 2 rfl) ?_
      refine lv_iconst (v := 1) hx hb dX11_mark_110 (by decide) ?_
      refine lv_icmp_ne (tgt := 121) hx hb dX11_mark_111 (by decide) (fun _ => ?_) (fun c9 => absurd c9 (by decide))
      refine lv_bipush (v := 40) hx hb dX11_mark_121 (by decide) ?_
      refine lv_iload_n hx hb dX11_mark_123 rfl (lv_at hl 4 rfl) ?_
      refine lv_iadd hx hb dX11_mark_124 ?_
      refine lv_topi (fun y_366 ey_366 => ?_)
      obtain rfl : y_366 = 40 := ey_366.trans (by decide)
      refine va_iald hx hb hK hP 2 0 rfl rfl (by unfold vp_in; decide) dX11_mark_125 ?_
      refine lv_topi (fun y_367 ey_367 => ?_)
      obtain rfl : y_367 = 0 := ey_367.trans (hf_363 _ (by decide))
      subst efs_365
      subst efs_351
      have hP9 := hP.sub (ws' := []) [] rfl
      have hD9 := hD.sub (ws' := []) [] (by decide) rfl
      exact W.iret (v := 0) hx hb hr (fun t ht hW => ⟨⟨0, (), rfl, rfl, by rw [ht]; exact hP9, hD9⟩, hS.F ht⟩) hS.2.2 dX11_mark_126
    · refine lv_aload_n hx hb dX11_mark_15 rfl (lv_at hl 0 rfl) ?_
      refine va_get (D := (dC, dI)) (ci := 10) (v := .ref m_rf) (C := RX11) (T := TX11) (N := 68) hx hb hts iwwsX11_mark_11 hown hK hP 0 rfl rfl 19 (by decide) (hts (.fieldLink RX11 32 "NothingJudgeModel" "routineFrom" "[I") fwwsX11_mark_32) (fun _ h9 => h9) (fs_ne efs_351 (by decide) g_fs_19) dX11_mark_16 ?_
      refine lv_iload_n hx hb dX11_mark_19 rfl (lv_at hl 2 rfl) ?_
      refine va_iald hx hb hK hP 1 0 rfl rfl (in_of (y := 16) (by decide) c_352 (fun h9 => c_360 (Int32.le_trans (by decide) h9)) (by decide)) dX11_mark_20 ?_
      refine lv_topi (fun y_368 ey_368 => ?_)
      obtain rfl : y_368 = (-1) := ey_368.trans (hrf _ (cl_of (y := 16) (by decide) c_352 (fun h9 => c_360 (Int32.le_trans (by decide) h9))))
      refine lv_iconst (v := (-1)) hx hb dX11_mark_21 (by decide) ?_
      refine lv_icmp_eq (tgt := 29) hx hb dX11_mark_22 (by decide) (fun _ => ?_) (fun c9 => absurd (by decide) c9)
      refine lv_iconst (v := 0) hx hb dX11_mark_29 (by decide) ?_
      refine lv_istore (lv' := [(4, .int 0), (0, .ref h0), (1, .int 2), (2, .int r), (3, .int 0)]) hx hb dX11_mark_30 hl (by decide) rfl (fun ls hl => ?_)
      refine lv_iload_n hx hb dX11_mark_32 rfl (lv_at hl 2 rfl) ?_
      refine lv_if_lt (tgt := 83) hx hb dX11_mark_33 (by decide) (fun c9 => absurd c9 (by decide)) (fun _ => ?_)
      refine lv_iload_n hx hb dX11_mark_36 rfl (lv_at hl 2 rfl) ?_
      refine lv_iconst (v := 2) hx hb dX11_mark_37 (by decide) ?_
      refine lv_icmp_gt (tgt := 83) hx hb dX11_mark_38 (by decide) (fun c9 => absurd c9 (by decide)) (fun _ => ?_)
      refine lv_iload_n hx hb dX11_mark_41 rfl (lv_at hl 2 rfl) ?_
      refine lv_iconst (v := 2) hx hb dX11_mark_42 (by decide) ?_
      refine lv_icmp_ge (tgt := 51) hx hb dX11_mark_43 (by decide) (fun _ => ?_) (fun c9 => absurd (by decide) c9)
      refine lv_iload_n hx hb dX11_mark_51 rfl (lv_at hl 2 rfl) ?_
      refine lv_if_ne (tgt := 69) hx hb dX11_mark_52 (by decide) (fun _ => ?_) (fun c9 => absurd c9 (by decide))
      refine lv_iload_n hx hb dX11_mark_69 rfl (lv_at hl 2 rfl) ?_
      refine lv_iconst (v := 2) hx hb dX11_mark_70 (by decide) ?_
      refine lv_icmp_ne (tgt := 85) hx hb dX11_mark_71 (by decide) (fun c9 => absurd c9 (by decide)) (fun _ => ?_)
      refine lv_iload_n hx hb dX11_mark_74 rfl (lv_at hl 4 rfl) ?_
      refine lv_if_lt (tgt := 83) hx hb dX11_mark_75 (by decide) (fun c9 => absurd c9 (by decide)) (fun _ => ?_)
      refine lv_iload_n hx hb dX11_mark_78 rfl (lv_at hl 4 rfl) ?_
      refine lv_iconst (v := 1) hx hb dX11_mark_79 (by decide) ?_
      refine lv_icmp_le (tgt := 85) hx hb dX11_mark_80 (by decide) (fun _ => ?_) (fun c9 => absurd (by decide) c9)
      refine lv_aload_n hx hb dX11_mark_85 rfl (lv_at hl 1 rfl) ?_
      have hPc := hP.sub (ws' := [(h0, .inr (10, fs_351)), (m_ih, .inl (cZ, 42, .inl f0))]) [0, 2] rfl
      have hDc := hD.sub (ws' := [(h0, .inr (10, fs_351)), (m_ih, .inl (cZ, 42, .inl f0))]) [0, 2] (by decide) rfl
      have hFc := va_free (wc := [(h0, .inr (10, fs_351)), (m_ih, .inl (cZ, 42, .inl f0))]) hD hS hA [0, 2] rfl
      refine va_callv (va_runV (As := []) (rest := []) ⟨hx, hb, hml, hown, hts⟩ (c_frees l dC dI cI cB cL cZ (h0) (m_ih) (fs_351) (f0) H.size glfs_351 (fs_ne efs_351 (by decide) g_fs_43)) (cwV 0 hts gX11_mark_X11_frees rfl rfl rfl (by decide +kernel) ⟨Nat.le_of_ble_eq_true rfl, Nat.le_of_ble_eq_true rfl⟩) ⟨cP_fb, va_recv hK hPc (ci := 10) (q0 := 0) rfl rfl, fun U hU hW => cP_pre hPc hK hDc hN U hU hW⟩ rfl rfl hl.1 rfl (lv_room (Nat.le_of_ble_eq_true rfl)) dX11_mark_86 ⟨Nat.le_of_ble_eq_true rfl, Nat.le_of_ble_eq_true rfl⟩) hS (fun q _ h => hFc q h) hFc (fun u t H1 locs ht hvm hw hB hz1 hk1 hS => ?_)
      obtain ⟨hP1, hD1⟩ := hB
      rw [ht] at hP1
      obtain ⟨hP, hD⟩ := va_join (wr := [(m_rf, .inl (cI, 16, .inl frf)), (m_mk, .inl (cI, 42, .inl f1)), (m_td, .inl (cI, 25, .inl f2))]) (w1 := [(h0, .inr (10, fs_351))]) hP hD [0, 2] [1, 3, 4] rfl rfl (by decide) (by decide) hk1 hFc hP1 hD1
      generalize H1 = H at hP hS ⊢
      have hP : va_P (dC, dI) vwCl [(m_rf, .inl (cI, 16, .inl frf)), (m_mk, .inl (cI, 42, .inl f1)), (m_td, .inl (cI, 25, .inl f2)), (h0, .inr (10, fs_351))] H := hP
      have hD : va_D A [(m_rf, .inl (cI, 16, .inl frf)), (m_mk, .inl (cI, 42, .inl f1)), (m_td, .inl (cI, 25, .inl f2)), (h0, .inr (10, fs_351))] := hD
      refine lv_aload_n hx hb dX11_mark_89 rfl (lv_at hl 1 rfl) ?_
      have hPc := hP.sub (ws' := [(h0, .inr (10, fs_351)), (m_mk, .inl (cI, 42, .inl f1)), (m_td, .inl (cI, 25, .inl f2))]) [3, 1, 2] rfl
      have hDc := hD.sub (ws' := [(h0, .inr (10, fs_351)), (m_mk, .inl (cI, 42, .inl f1)), (m_td, .inl (cI, 25, .inl f2))]) [3, 1, 2] (by decide) rfl
      have hFc := va_free (wc := [(h0, .inr (10, fs_351)), (m_mk, .inl (cI, 42, .inl f1)), (m_td, .inl (cI, 25, .inl f2))]) hD hS hA [3, 1, 2] rfl
      refine va_callv (va_runV (As := []) (rest := []) ⟨hx, hb, hml, hown, hts⟩ (c_reckons l dC dI cI cB cL cZ (h0) (m_mk) (m_td) (fs_351) (f1) (f2) H.size glfs_351 (fs_ne efs_351 (by decide) g_fs_42) (fs_ne efs_351 (by decide) g_fs_44) (fs_ne efs_351 (by decide) g_fs_18) (fs_ne efs_351 (by decide) g_fs_39)) (cwV 0 hts gX11_mark_X11_reckons rfl rfl rfl (by decide +kernel) ⟨Nat.le_of_ble_eq_true rfl, Nat.le_of_ble_eq_true rfl⟩) ⟨cP_fb, va_recv hK hPc (ci := 10) (q0 := 0) rfl rfl, fun U hU hW => cP_pre hPc hK hDc hN U hU hW⟩ rfl rfl hl.1 rfl (lv_room (Nat.le_of_ble_eq_true rfl)) dX11_mark_90 ⟨Nat.le_of_ble_eq_true rfl, Nat.le_of_ble_eq_true rfl⟩) hS (fun q _ h => hFc q h) hFc (fun u t H1 locs ht hvm hw hB hz1 hk1 hS => ?_)
      obtain ⟨f_370, hf_371, hP1, hD1⟩ := hB
      rw [ht] at hP1
      obtain ⟨hP, hD⟩ := va_join (wr := [(m_rf, .inl (cI, 16, .inl frf))]) (w1 := [(h0, .inr (10, (fs_351.set 45 (.int 0)))), (m_mk, .inl (cI, 42, .inl f_370))]) hP hD [3, 1, 2] [0] rfl rfl (by decide) (by decide) hk1 hFc hP1 hD1
      generalize H1 = H at hP hS ⊢
      obtain ⟨fs_373, efs_373⟩ : ∃ z : List Value, z = fs_351.set 45 (.int 0) := ⟨_, rfl⟩
      have glfs_373 : fs_373.length = 68 := fs_len efs_373 glfs_351
      have hP : va_P (dC, dI) vwCl [(m_rf, .inl (cI, 16, .inl frf)), (h0, .inr (10, fs_373)), (m_mk, .inl (cI, 42, .inl f_370))] H := by rw [efs_373]; exact hP
      have hD : va_D A [(m_rf, .inl (cI, 16, .inl frf)), (h0, .inr (10, fs_373)), (m_mk, .inl (cI, 42, .inl f_370))] := by rw [efs_373]; exact hD
      refine lv_aload_n hx hb dX11_mark_93 rfl (lv_at hl 1 rfl) ?_
      refine va_get (D := (dC, dI)) (ci := 10) (v := .ref m_mk) (C := RX11) (T := TX11) (N := 68) hx hb hts iwwsX11_mark_11 hown hK hP 1 rfl rfl 42 (by decide) (hts (.fieldLink RX11 93 "NothingJudgeModel" "marks" "[I") fwwsX11_mark_93) (fun _ h9 => h9) (fs_ne efs_373 (by decide) (fs_ne efs_351 (by decide) g_fs_42)) dX11_mark_94 ?_
      refine lv_iload_n hx hb dX11_mark_97 rfl (lv_at hl 2 rfl) ?_
      refine lv_if_ne (tgt := 109) hx hb dX11_mark_98 (by decide) (fun _ => ?_) (fun c9 => absurd c9 (by decide))
      refine lv_iload_n hx hb dX11_mark_109 rfl (lv_at hl 2 rfl) ?_
      refine lv_iconst (v := 1) hx hb dX11_mark_110 (by decide) ?_
      refine lv_icmp_ne (tgt := 121) hx hb dX11_mark_111 (by decide) (fun _ => ?_) (fun c9 => absurd c9 (by decide))
      refine lv_bipush (v := 40) hx hb dX11_mark_121 (by decide) ?_
      refine lv_iload_n hx hb dX11_mark_123 rfl (lv_at hl 4 rfl) ?_
      refine lv_iadd hx hb dX11_mark_124 ?_
      refine lv_topi (fun y_374 ey_374 => ?_)
      obtain rfl : y_374 = 40 := ey_374.trans (by decide)
      refine va_iald hx hb hK hP 2 0 rfl rfl (by unfold vp_in; decide) dX11_mark_125 ?_
      refine lv_topi (fun y_375 ey_375 => ?_)
      obtain rfl : y_375 = 0 := ey_375.trans (hf_371 _ (by decide))
      subst efs_373
      subst efs_351
      have hP9 := hP.sub (ws' := []) [] rfl
      have hD9 := hD.sub (ws' := []) [] (by decide) rfl
      exact W.iret (v := 0) hx hb hr (fun t ht hW => ⟨⟨0, (), rfl, rfl, by rw [ht]; exact hP9, hD9⟩, hS.F ht⟩) hS.2.2 dX11_mark_126
