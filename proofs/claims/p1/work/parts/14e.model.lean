set_option maxHeartbeats 4000000 in
set_option maxRecDepth 100000 in
theorem m_parses (l : Launch) (dC : Nat → ClassId) (dI : Nat → Nat → Nat) (cI cB cL cZ : ClassId) (h0 : Nat) (m_rf : Nat) (m_um : Nat) (m_tm : Nat) (m_fr : Nat) (fs : List Value) (frf : Nat → Int32) (f0 : Nat → Int32) (f1 : Nat → Int32) (f2 : Nat → Int32) (sz : Nat) (gl_fs : fs.length = 68) (g_fs_19 : fs[19]? = some (.ref m_rf)) (g_fs_26 : fs[26]? = some (.ref m_um)) (g_fs_29 : fs[29]? = some (.ref m_tm)) (g_fs_22 : fs[22]? = some (.ref m_fr)) (g_fs_3 : fs[3]? = some (.int 0)) (hrf : ∀ j, j < 16 → frf j = -1) : Met l yX11_parses wsX11_parses ({ frames := 2, cells := 0, slots := 0, locals := 42 }) (cP (dC, dI) (kTy cI cB cL cZ) [.ref h0] [(h0, .inr (10, fs)), (m_rf, .inl (cI, 16, .inl frf)), (m_um, .inl (cI, 2, .inl f0)), (m_tm, .inl (cI, 2, .inl f1)), (m_fr, .inl (cI, 2, .inl f2))] sz) (va_Qv (fun _ : Unit => True) (fun (_ : Unit) (t : State) => ∃ fz0 : Nat → Int32, ∃ fz1 : Nat → Int32, ∃ fz2 : Nat → Int32, ∃ fz3 : Nat → Int32, (∀ j, j < 16 → fz0 j = -1) ∧ va_P (dC, dI) vwCl [(h0, .inr (10, ((((((((fs.set 4 (.int 0)).set 8 (.int 0)).set 9 (.int (-1))).set 17 (.int 0)).set 33 (.int 0)).set 38 (.int 0)).set 5 (.int 0)).set 6 (.int 4)))), (m_rf, .inl (cI, 16, .inl fz0)), (m_um, .inl (cI, 2, .inl fz1)), (m_tm, .inl (cI, 2, .inl fz2)), (m_fr, .inl (cI, 2, .inl fz3))] t.heap ∧ va_D (va_A [(h0, .inr (10, fs)), (m_rf, .inl (cI, 16, .inl frf)), (m_um, .inl (cI, 2, .inl f0)), (m_tm, .inl (cI, 2, .inl f1)), (m_fr, .inl (cI, 2, .inl f2))] sz) [(h0, .inr (10, ((((((((fs.set 4 (.int 0)).set 8 (.int 0)).set 9 (.int (-1))).set 17 (.int 0)).set 33 (.int 0)).set 38 (.int 0)).set 5 (.int 0)).set 6 (.int 4)))), (m_rf, .inl (cI, 16, .inl fz0)), (m_um, .inl (cI, 2, .inl fz1)), (m_tm, .inl (cI, 2, .inl fz2)), (m_fr, .inl (cI, 2, .inl fz3))]) (va_A [(h0, .inr (10, fs)), (m_rf, .inl (cI, 16, .inl frf)), (m_um, .inl (cI, 2, .inl f0)), (m_tm, .inl (cI, 2, .inl f1)), (m_fr, .inl (cI, 2, .inl f2))] sz)) 0 0 (va_A [(h0, .inr (10, fs)), (m_rf, .inl (cI, 16, .inl frf)), (m_um, .inl (cI, 2, .inl f0)), (m_tm, .inl (cI, 2, .inl f1)), (m_fr, .inl (cI, 2, .inl f2))] sz) := by
  refine Met.ofW (cc := cX11_parses) (maxL := 3) (ret := none) (by decide) rfl ?_
  intro p e s m args below meth c s₁ B hml hv
  obtain ⟨rfl, hsz, hP, hK, hD0, hN⟩ := hv
  have hx := B.exec
  have hb := B.bytes
  have hr := B.returns
  have hts := atoms_spec (ws := wsX11_parses) B.pre
  have hown : s.vm.findClass RX11 = some m.cls := findClass_of_methodNamed B.named
  have hlocks := B.notSynchronized
  subst hsz
  have hD := hD0.self (sz := s.heap.size)
  generalize hAe : va_A [(h0, .inr (10, fs)), (m_rf, .inl (cI, 16, .inl frf)), (m_um, .inl (cI, 2, .inl f0)), (m_tm, .inl (cI, 2, .inl f1)), (m_fr, .inl (cI, 2, .inl f2))] s.heap.size = A at hD ⊢
  have hA : ∀ q : Nat, s.heap.size ≤ q → A q := fun q h => by rw [← hAe]; exact Or.inr h
  have hl := lv_entry ([.ref h0]) (n := 3) (Nat.le_of_ble_eq_true rfl)
  rw [lg_entry_eq]
  generalize (lg_sl ([.ref h0]) ++ List.replicate (3 - (lg_sl ([.ref h0])).length) Slot.unset).toArray = ls at hl ⊢
  have hl : lv_has ls 3 [(0, .ref h0)] := hl
  refine k_H (A := A) hP (fun H hP hS => ?_)
  have hP : va_P (dC, dI) vwCl [(h0, .inr (10, fs)), (m_rf, .inl (cI, 16, .inl frf)), (m_um, .inl (cI, 2, .inl f0)), (m_tm, .inl (cI, 2, .inl f1)), (m_fr, .inl (cI, 2, .inl f2))] H := hP
  have hD : va_D A [(h0, .inr (10, fs)), (m_rf, .inl (cI, 16, .inl frf)), (m_um, .inl (cI, 2, .inl f0)), (m_tm, .inl (cI, 2, .inl f1)), (m_fr, .inl (cI, 2, .inl f2))] := hD
  refine lv_aload_n hx hb dX11_parses_0 rfl (lv_at hl 0 rfl) ?_
  refine lv_iconst (v := 0) hx hb dX11_parses_1 (by decide) ?_
  refine va_put (D := (dC, dI)) (ci := 10) (v := .int 0) (ty := .int) (C := RX11) (T := TX11) (N := 68) hx hb hts iwwsX11_parses_11 tyX11 tyX11_ok nmX11 hown hK hP hD hS 0 rfl rfl 4 (by decide) (hts (.fieldLink RX11 127 "NothingJudgeModel" "at" "I") fwwsX11_parses_127) (fun _ h9 => h9) rfl (by decide +kernel) rfl rfl (by rw [gl_fs]; decide) dX11_parses_2 (fun H locs hP hD hS => ?_)
  obtain ⟨fs_488, efs_488⟩ : ∃ z : List Value, z = fs.set 4 (.int 0) := ⟨_, rfl⟩
  have glfs_488 : fs_488.length = 68 := fs_len efs_488 gl_fs
  have hP : va_P (dC, dI) vwCl [(h0, .inr (10, fs_488)), (m_rf, .inl (cI, 16, .inl frf)), (m_um, .inl (cI, 2, .inl f0)), (m_tm, .inl (cI, 2, .inl f1)), (m_fr, .inl (cI, 2, .inl f2))] H := by rw [efs_488]; exact hP
  have hD : va_D A [(h0, .inr (10, fs_488)), (m_rf, .inl (cI, 16, .inl frf)), (m_um, .inl (cI, 2, .inl f0)), (m_tm, .inl (cI, 2, .inl f1)), (m_fr, .inl (cI, 2, .inl f2))] := by rw [efs_488]; exact hD
  refine lv_aload_n hx hb dX11_parses_5 rfl (lv_at hl 0 rfl) ?_
  refine lv_iconst (v := 0) hx hb dX11_parses_6 (by decide) ?_
  refine va_put (D := (dC, dI)) (ci := 10) (v := .int 0) (ty := .int) (C := RX11) (T := TX11) (N := 68) hx hb hts iwwsX11_parses_11 tyX11 tyX11_ok nmX11 hown hK hP hD hS 0 rfl rfl 8 (by decide) (hts (.fieldLink RX11 164 "NothingJudgeModel" "fault" "I") fwwsX11_parses_164) (fun _ h9 => h9) rfl (by decide +kernel) rfl rfl (by rw [glfs_488]; decide) dX11_parses_7 (fun H locs hP hD hS => ?_)
  obtain ⟨fs_489, efs_489⟩ : ∃ z : List Value, z = fs_488.set 8 (.int 0) := ⟨_, rfl⟩
  have glfs_489 : fs_489.length = 68 := fs_len efs_489 glfs_488
  have hP : va_P (dC, dI) vwCl [(h0, .inr (10, fs_489)), (m_rf, .inl (cI, 16, .inl frf)), (m_um, .inl (cI, 2, .inl f0)), (m_tm, .inl (cI, 2, .inl f1)), (m_fr, .inl (cI, 2, .inl f2))] H := by rw [efs_489]; exact hP
  have hD : va_D A [(h0, .inr (10, fs_489)), (m_rf, .inl (cI, 16, .inl frf)), (m_um, .inl (cI, 2, .inl f0)), (m_tm, .inl (cI, 2, .inl f1)), (m_fr, .inl (cI, 2, .inl f2))] := by rw [efs_489]; exact hD
  refine lv_aload_n hx hb dX11_parses_10 rfl (lv_at hl 0 rfl) ?_
  refine lv_iconst (v := (-1)) hx hb dX11_parses_11 (by decide) ?_
  refine va_put (D := (dC, dI)) (ci := 10) (v := .int (-1)) (ty := .int) (C := RX11) (T := TX11) (N := 68) hx hb hts iwwsX11_parses_11 tyX11 tyX11_ok nmX11 hown hK hP hD hS 0 rfl rfl 9 (by decide) (hts (.fieldLink RX11 167 "NothingJudgeModel" "faultPlace" "I") fwwsX11_parses_167) (fun _ h9 => h9) rfl (by decide +kernel) rfl rfl (by rw [glfs_489]; decide) dX11_parses_12 (fun H locs hP hD hS => ?_)
  obtain ⟨fs_490, efs_490⟩ : ∃ z : List Value, z = fs_489.set 9 (.int (-1)) := ⟨_, rfl⟩
  have glfs_490 : fs_490.length = 68 := fs_len efs_490 glfs_489
  have hP : va_P (dC, dI) vwCl [(h0, .inr (10, fs_490)), (m_rf, .inl (cI, 16, .inl frf)), (m_um, .inl (cI, 2, .inl f0)), (m_tm, .inl (cI, 2, .inl f1)), (m_fr, .inl (cI, 2, .inl f2))] H := by rw [efs_490]; exact hP
  have hD : va_D A [(h0, .inr (10, fs_490)), (m_rf, .inl (cI, 16, .inl frf)), (m_um, .inl (cI, 2, .inl f0)), (m_tm, .inl (cI, 2, .inl f1)), (m_fr, .inl (cI, 2, .inl f2))] := by rw [efs_490]; exact hD
  refine lv_aload_n hx hb dX11_parses_15 rfl (lv_at hl 0 rfl) ?_
  refine lv_iconst (v := 0) hx hb dX11_parses_16 (by decide) ?_
  refine va_put (D := (dC, dI)) (ci := 10) (v := .int 0) (ty := .int) (C := RX11) (T := TX11) (N := 68) hx hb hts iwwsX11_parses_11 tyX11 tyX11_ok nmX11 hown hK hP hD hS 0 rfl rfl 17 (by decide) (hts (.fieldLink RX11 183 "NothingJudgeModel" "acts" "I") fwwsX11_parses_183) (fun _ h9 => h9) rfl (by decide +kernel) rfl rfl (by rw [glfs_490]; decide) dX11_parses_17 (fun H locs hP hD hS => ?_)
  obtain ⟨fs_491, efs_491⟩ : ∃ z : List Value, z = fs_490.set 17 (.int 0) := ⟨_, rfl⟩
  have glfs_491 : fs_491.length = 68 := fs_len efs_491 glfs_490
  have hP : va_P (dC, dI) vwCl [(h0, .inr (10, fs_491)), (m_rf, .inl (cI, 16, .inl frf)), (m_um, .inl (cI, 2, .inl f0)), (m_tm, .inl (cI, 2, .inl f1)), (m_fr, .inl (cI, 2, .inl f2))] H := by rw [efs_491]; exact hP
  have hD : va_D A [(h0, .inr (10, fs_491)), (m_rf, .inl (cI, 16, .inl frf)), (m_um, .inl (cI, 2, .inl f0)), (m_tm, .inl (cI, 2, .inl f1)), (m_fr, .inl (cI, 2, .inl f2))] := by rw [efs_491]; exact hD
  refine lv_aload_n hx hb dX11_parses_20 rfl (lv_at hl 0 rfl) ?_
  refine lv_iconst (v := 0) hx hb dX11_parses_21 (by decide) ?_
  refine va_put (D := (dC, dI)) (ci := 10) (v := .int 0) (ty := .int) (C := RX11) (T := TX11) (N := 68) hx hb hts iwwsX11_parses_11 tyX11 tyX11_ok nmX11 hown hK hP hD hS 0 rfl rfl 33 (by decide) (hts (.fieldLink RX11 186 "NothingJudgeModel" "calls" "I") fwwsX11_parses_186) (fun _ h9 => h9) rfl (by decide +kernel) rfl rfl (by rw [glfs_491]; decide) dX11_parses_22 (fun H locs hP hD hS => ?_)
  obtain ⟨fs_492, efs_492⟩ : ∃ z : List Value, z = fs_491.set 33 (.int 0) := ⟨_, rfl⟩
  have glfs_492 : fs_492.length = 68 := fs_len efs_492 glfs_491
  have hP : va_P (dC, dI) vwCl [(h0, .inr (10, fs_492)), (m_rf, .inl (cI, 16, .inl frf)), (m_um, .inl (cI, 2, .inl f0)), (m_tm, .inl (cI, 2, .inl f1)), (m_fr, .inl (cI, 2, .inl f2))] H := by rw [efs_492]; exact hP
  have hD : va_D A [(h0, .inr (10, fs_492)), (m_rf, .inl (cI, 16, .inl frf)), (m_um, .inl (cI, 2, .inl f0)), (m_tm, .inl (cI, 2, .inl f1)), (m_fr, .inl (cI, 2, .inl f2))] := by rw [efs_492]; exact hD
  refine lv_aload_n hx hb dX11_parses_25 rfl (lv_at hl 0 rfl) ?_
  refine lv_iconst (v := 0) hx hb dX11_parses_26 (by decide) ?_
  refine va_put (D := (dC, dI)) (ci := 10) (v := .int 0) (ty := .int) (C := RX11) (T := TX11) (N := 68) hx hb hts iwwsX11_parses_11 tyX11 tyX11_ok nmX11 hown hK hP hD hS 0 rfl rfl 38 (by decide) (hts (.fieldLink RX11 189 "NothingJudgeModel" "blocks" "I") fwwsX11_parses_189) (fun _ h9 => h9) rfl (by decide +kernel) rfl rfl (by rw [glfs_492]; decide) dX11_parses_27 (fun H locs hP hD hS => ?_)
  obtain ⟨fs_493, efs_493⟩ : ∃ z : List Value, z = fs_492.set 38 (.int 0) := ⟨_, rfl⟩
  have glfs_493 : fs_493.length = 68 := fs_len efs_493 glfs_492
  have hP : va_P (dC, dI) vwCl [(h0, .inr (10, fs_493)), (m_rf, .inl (cI, 16, .inl frf)), (m_um, .inl (cI, 2, .inl f0)), (m_tm, .inl (cI, 2, .inl f1)), (m_fr, .inl (cI, 2, .inl f2))] H := by rw [efs_493]; exact hP
  have hD : va_D A [(h0, .inr (10, fs_493)), (m_rf, .inl (cI, 16, .inl frf)), (m_um, .inl (cI, 2, .inl f0)), (m_tm, .inl (cI, 2, .inl f1)), (m_fr, .inl (cI, 2, .inl f2))] := by rw [efs_493]; exact hD
  refine lv_aload_n hx hb dX11_parses_30 rfl (lv_at hl 0 rfl) ?_
  refine va_get (D := (dC, dI)) (ci := 10) (v := .ref m_um) (C := RX11) (T := TX11) (N := 68) hx hb hts iwwsX11_parses_11 hown hK hP 0 rfl rfl 26 (by decide) (hts (.fieldLink RX11 53 "NothingJudgeModel" "useMany" "[I") fwwsX11_parses_53) (fun _ h9 => h9) (fs_ne efs_493 (by decide) (fs_ne efs_492 (by decide) (fs_ne efs_491 (by decide) (fs_ne efs_490 (by decide) (fs_ne efs_489 (by decide) (fs_ne efs_488 (by decide) g_fs_26)))))) dX11_parses_31 ?_
  refine lv_iconst (v := 1) hx hb dX11_parses_34 (by decide) ?_
  refine lv_iconst (v := 0) hx hb dX11_parses_35 (by decide) ?_
  refine va_iast hx hb hK hP hD hS 2 0 rfl rfl (by unfold vp_in; decide) dX11_parses_36 (fun H locs hP hD hS => ?_)
  obtain ⟨f_494, ef_494⟩ : ∃ z, z = upd f0 (1 : Int32).toNatClampNeg 0 := ⟨_, rfl⟩
  have hP : va_P (dC, dI) vwCl [(h0, .inr (10, fs_493)), (m_rf, .inl (cI, 16, .inl frf)), (m_um, .inl (cI, 2, .inl f_494)), (m_tm, .inl (cI, 2, .inl f1)), (m_fr, .inl (cI, 2, .inl f2))] H := by rw [ef_494]; exact hP
  have hD : va_D A [(h0, .inr (10, fs_493)), (m_rf, .inl (cI, 16, .inl frf)), (m_um, .inl (cI, 2, .inl f_494)), (m_tm, .inl (cI, 2, .inl f1)), (m_fr, .inl (cI, 2, .inl f2))] := by rw [ef_494]; exact hD
  refine lv_aload_n hx hb dX11_parses_37 rfl (lv_at hl 0 rfl) ?_
  refine va_get (D := (dC, dI)) (ci := 10) (v := .ref m_tm) (C := RX11) (T := TX11) (N := 68) hx hb hts iwwsX11_parses_11 hown hK hP 0 rfl rfl 29 (by decide) (hts (.fieldLink RX11 62 "NothingJudgeModel" "testMany" "[I") fwwsX11_parses_62) (fun _ h9 => h9) (fs_ne efs_493 (by decide) (fs_ne efs_492 (by decide) (fs_ne efs_491 (by decide) (fs_ne efs_490 (by decide) (fs_ne efs_489 (by decide) (fs_ne efs_488 (by decide) g_fs_29)))))) dX11_parses_38 ?_
  refine lv_iconst (v := 1) hx hb dX11_parses_41 (by decide) ?_
  refine lv_iconst (v := 0) hx hb dX11_parses_42 (by decide) ?_
  refine va_iast hx hb hK hP hD hS 3 0 rfl rfl (by unfold vp_in; decide) dX11_parses_43 (fun H locs hP hD hS => ?_)
  obtain ⟨f_495, ef_495⟩ : ∃ z, z = upd f1 (1 : Int32).toNatClampNeg 0 := ⟨_, rfl⟩
  have hP : va_P (dC, dI) vwCl [(h0, .inr (10, fs_493)), (m_rf, .inl (cI, 16, .inl frf)), (m_um, .inl (cI, 2, .inl f_494)), (m_tm, .inl (cI, 2, .inl f_495)), (m_fr, .inl (cI, 2, .inl f2))] H := by rw [ef_495]; exact hP
  have hD : va_D A [(h0, .inr (10, fs_493)), (m_rf, .inl (cI, 16, .inl frf)), (m_um, .inl (cI, 2, .inl f_494)), (m_tm, .inl (cI, 2, .inl f_495)), (m_fr, .inl (cI, 2, .inl f2))] := by rw [ef_495]; exact hD
  refine lv_aload_n hx hb dX11_parses_44 rfl (lv_at hl 0 rfl) ?_
  refine va_get (D := (dC, dI)) (ci := 10) (v := .ref m_fr) (C := RX11) (T := TX11) (N := 68) hx hb hts iwwsX11_parses_11 hown hK hP 0 rfl rfl 22 (by decide) (hts (.fieldLink RX11 41 "NothingJudgeModel" "firstRoutine" "[I") fwwsX11_parses_41) (fun _ h9 => h9) (fs_ne efs_493 (by decide) (fs_ne efs_492 (by decide) (fs_ne efs_491 (by decide) (fs_ne efs_490 (by decide) (fs_ne efs_489 (by decide) (fs_ne efs_488 (by decide) g_fs_22)))))) dX11_parses_45 ?_
  refine lv_iconst (v := 1) hx hb dX11_parses_48 (by decide) ?_
  refine lv_iconst (v := (-1)) hx hb dX11_parses_49 (by decide) ?_
  refine va_iast hx hb hK hP hD hS 4 0 rfl rfl (by unfold vp_in; decide) dX11_parses_50 (fun H locs hP hD hS => ?_)
  obtain ⟨f_496, ef_496⟩ : ∃ z, z = upd f2 (1 : Int32).toNatClampNeg (-1) := ⟨_, rfl⟩
  have hP : va_P (dC, dI) vwCl [(h0, .inr (10, fs_493)), (m_rf, .inl (cI, 16, .inl frf)), (m_um, .inl (cI, 2, .inl f_494)), (m_tm, .inl (cI, 2, .inl f_495)), (m_fr, .inl (cI, 2, .inl f_496))] H := by rw [ef_496]; exact hP
  have hD : va_D A [(h0, .inr (10, fs_493)), (m_rf, .inl (cI, 16, .inl frf)), (m_um, .inl (cI, 2, .inl f_494)), (m_tm, .inl (cI, 2, .inl f_495)), (m_fr, .inl (cI, 2, .inl f_496))] := by rw [ef_496]; exact hD
  refine lv_bipush (v := 8) hx hb dX11_parses_51 (by decide) ?_
  refine lv_istore_n (lv' := [(1, .int 8), (0, .ref h0)]) hx hb dX11_parses_53 rfl hl (by decide) rfl (fun ls hl => ?_)
  have hl := lv_sub hl (l' := [(1, .int 8), (0, .ref h0)]) [0, 1] rfl
  have hl : lv_has ls 3 [(1, .int (nI 8)), (0, .ref h0)] := by rw [show nI 8 = (8 : Int32) by decide]; exact hl
  refine lp_up (S := (Nat → Int32)) (fun k st => ∀ j, j < 16 → (st) j = -1) (fun st => [(h0, .inr (10, fs_493)), (m_rf, .inl (cI, 16, .inl (st))), (m_um, .inl (cI, 2, .inl f_494)), (m_tm, .inl (cI, 2, .inl f_495)), (m_fr, .inl (cI, 2, .inl f_496))]) (fun k st => [(1, .int (nI k)), (0, .ref h0)]) 54 16 ?_ ?_ 8 (by decide) (frf) hrf hP hD hS hl
  · intro f_497 hJ H locs hP hD hS ls hl
    have hP : va_P (dC, dI) vwCl [(h0, .inr (10, fs_493)), (m_rf, .inl (cI, 16, .inl f_497)), (m_um, .inl (cI, 2, .inl f_494)), (m_tm, .inl (cI, 2, .inl f_495)), (m_fr, .inl (cI, 2, .inl f_496))] H := hP
    have hD : va_D A [(h0, .inr (10, fs_493)), (m_rf, .inl (cI, 16, .inl f_497)), (m_um, .inl (cI, 2, .inl f_494)), (m_tm, .inl (cI, 2, .inl f_495)), (m_fr, .inl (cI, 2, .inl f_496))] := hD
    have hl : lv_has ls 3 [(1, .int 16), (0, .ref h0)] := by rw [← show nI 16 = (16 : Int32) by decide]; exact hl
    have hJr := hJ
    refine lv_iload_n hx hb dX11_parses_54 rfl (lv_at hl 0 rfl) ?_
    refine lv_bipush (v := 16) hx hb dX11_parses_55 (by decide) ?_
    refine lv_icmp_ge (tgt := 73) hx hb dX11_parses_57 (by decide) (fun _ => ?_) (fun c9 => absurd (by decide) c9)
    refine lv_aload_n hx hb dX11_parses_73 rfl (lv_at hl 1 rfl) ?_
    have hPc := hP.sub (ws' := [(h0, .inr (10, fs_493))]) [0] rfl
    have hDc := hD.sub (ws' := [(h0, .inr (10, fs_493))]) [0] (by decide) rfl
    have hFc := va_free (wc := [(h0, .inr (10, fs_493))]) hD hS hA [0] rfl
    refine va_callv (va_runV (As := []) (rest := []) ⟨hx, hb, hml, hown, hts⟩ (c_next l dC dI cI cB cL cZ (h0) (fs_493) H.size glfs_493 (fs_ne efs_493 (by decide) (fs_ne efs_492 (by decide) (fs_ne efs_491 (by decide) (fs_ne efs_490 (by decide) (fs_ne efs_489 (by decide) (fs_eq efs_488 (by rw [gl_fs]; decide))))))) (fs_ne efs_493 (by decide) (fs_ne efs_492 (by decide) (fs_ne efs_491 (by decide) (fs_ne efs_490 (by decide) (fs_ne efs_489 (by decide) (fs_ne efs_488 (by decide) g_fs_3))))))) (cwV 0 hts gX11_parses_X11_next rfl rfl rfl (by decide +kernel) ⟨Nat.le_of_ble_eq_true rfl, Nat.le_of_ble_eq_true rfl⟩) ⟨cP_fb, va_recv hK hPc (ci := 10) (q0 := 0) rfl rfl, fun U hU hW => cP_pre hPc hK hDc hN U hU hW⟩ rfl rfl hl.1 rfl (lv_room (Nat.le_of_ble_eq_true rfl)) dX11_parses_74 ⟨Nat.le_of_ble_eq_true rfl, Nat.le_of_ble_eq_true rfl⟩) hS (fun q _ h => hFc q h) hFc (fun u t H1 locs ht hvm hw hB hz1 hk1 hS => ?_)
    obtain ⟨hP1, hD1⟩ := hB
    rw [ht] at hP1
    obtain ⟨hP, hD⟩ := va_join (wr := [(m_rf, .inl (cI, 16, .inl f_497)), (m_um, .inl (cI, 2, .inl f_494)), (m_tm, .inl (cI, 2, .inl f_495)), (m_fr, .inl (cI, 2, .inl f_496))]) (w1 := [(h0, .inr (10, ((fs_493.set 5 (.int 0)).set 6 (.int 4))))]) hP hD [0] [1, 2, 3, 4] rfl rfl (by decide) (by decide) hk1 hFc hP1 hD1
    generalize H1 = H at hP hS ⊢
    obtain ⟨fs_499, efs_499⟩ : ∃ z : List Value, z = fs_493.set 5 (.int 0) := ⟨_, rfl⟩
    have glfs_499 : fs_499.length = 68 := fs_len efs_499 glfs_493
    obtain ⟨fs_500, efs_500⟩ : ∃ z : List Value, z = fs_499.set 6 (.int 4) := ⟨_, rfl⟩
    have glfs_500 : fs_500.length = 68 := fs_len efs_500 glfs_499
    have hP : va_P (dC, dI) vwCl [(m_rf, .inl (cI, 16, .inl f_497)), (m_um, .inl (cI, 2, .inl f_494)), (m_tm, .inl (cI, 2, .inl f_495)), (m_fr, .inl (cI, 2, .inl f_496)), (h0, .inr (10, fs_500))] H := by rw [efs_500, efs_499]; exact hP
    have hD : va_D A [(m_rf, .inl (cI, 16, .inl f_497)), (m_um, .inl (cI, 2, .inl f_494)), (m_tm, .inl (cI, 2, .inl f_495)), (m_fr, .inl (cI, 2, .inl f_496)), (h0, .inr (10, fs_500))] := by rw [efs_500, efs_499]; exact hD
    refine lv_aload_n hx hb dX11_parses_77 rfl (lv_at hl 1 rfl) ?_
    refine va_get (D := (dC, dI)) (ci := 10) (v := .int 0) (C := RX11) (T := TX11) (N := 68) hx hb hts iwwsX11_parses_11 hown hK hP 4 rfl rfl 8 (by decide) (hts (.fieldLink RX11 164 "NothingJudgeModel" "fault" "I") fwwsX11_parses_164) (fun _ h9 => h9) (fs_ne efs_500 (by decide) (fs_ne efs_499 (by decide) (fs_ne efs_493 (by decide) (fs_ne efs_492 (by decide) (fs_ne efs_491 (by decide) (fs_ne efs_490 (by decide) (fs_eq efs_489 (by rw [glfs_488]; decide)))))))) dX11_parses_78 ?_
    refine lv_if_ne (tgt := 136) hx hb dX11_parses_81 (by decide) (fun c9 => absurd c9 (by decide)) (fun _ => ?_)
    refine lv_aload_n hx hb dX11_parses_84 rfl (lv_at hl 1 rfl) ?_
    refine va_get (D := (dC, dI)) (ci := 10) (v := .int 4) (C := RX11) (T := TX11) (N := 68) hx hb hts iwwsX11_parses_11 hown hK hP 4 rfl rfl 6 (by decide) (hts (.fieldLink RX11 140 "NothingJudgeModel" "sort" "I") fwwsX11_parses_140) (fun _ h9 => h9) (fs_eq efs_500 (by rw [glfs_499]; decide)) dX11_parses_85 ?_
    refine lv_iconst (v := 4) hx hb dX11_parses_88 (by decide) ?_
    refine lv_icmp_ne (tgt := 99) hx hb dX11_parses_89 (by decide) (fun c9 => absurd c9 (by decide)) (fun _ => ?_)
    refine lv_aload_n hx hb dX11_parses_92 rfl (lv_at hl 1 rfl) ?_
    refine va_get (D := (dC, dI)) (ci := 10) (v := .int 0) (C := RX11) (T := TX11) (N := 68) hx hb hts iwwsX11_parses_11 hown hK hP 4 rfl rfl 38 (by decide) (hts (.fieldLink RX11 189 "NothingJudgeModel" "blocks" "I") fwwsX11_parses_189) (fun _ h9 => h9) (fs_ne efs_500 (by decide) (fs_ne efs_499 (by decide) (fs_eq efs_493 (by rw [glfs_492]; decide)))) dX11_parses_93 ?_
    refine lv_if_le (tgt := 136) hx hb dX11_parses_96 (by decide) (fun _ => ?_) (fun c9 => absurd (by decide) c9)
    refine lv_iconst (v := 0) hx hb dX11_parses_136 (by decide) ?_
    refine lv_istore_n (lv' := [(1, .int 0), (0, .ref h0)]) hx hb dX11_parses_137 rfl hl (by decide) rfl (fun ls hl => ?_)
    refine lv_iload_n hx hb dX11_parses_138 rfl (lv_at hl 0 rfl) ?_
    refine lv_aload_n hx hb dX11_parses_139 rfl (lv_at hl 1 rfl) ?_
    refine va_get (D := (dC, dI)) (ci := 10) (v := .int 0) (C := RX11) (T := TX11) (N := 68) hx hb hts iwwsX11_parses_11 hown hK hP 4 rfl rfl 33 (by decide) (hts (.fieldLink RX11 186 "NothingJudgeModel" "calls" "I") fwwsX11_parses_186) (fun _ h9 => h9) (fs_ne efs_500 (by decide) (fs_ne efs_499 (by decide) (fs_ne efs_493 (by decide) (fs_eq efs_492 (by rw [glfs_491]; decide))))) dX11_parses_140 ?_
    refine lv_icmp_ge (tgt := 205) hx hb dX11_parses_143 (by decide) (fun _ => ?_) (fun c9 => absurd (by decide) c9)
    subst efs_500
    subst efs_499
    subst efs_493
    subst efs_492
    subst efs_491
    subst efs_490
    subst efs_489
    subst efs_488
    have hP9 := hP.sub (ws' := [(h0, .inr (10, ((((((((fs.set 4 (.int 0)).set 8 (.int 0)).set 9 (.int (-1))).set 17 (.int 0)).set 33 (.int 0)).set 38 (.int 0)).set 5 (.int 0)).set 6 (.int 4)))), (m_rf, .inl (cI, 16, .inl f_497)), (m_um, .inl (cI, 2, .inl f_494)), (m_tm, .inl (cI, 2, .inl f_495)), (m_fr, .inl (cI, 2, .inl f_496))]) [4, 0, 1, 2, 3] rfl
    have hD9 := hD.sub (ws' := [(h0, .inr (10, ((((((((fs.set 4 (.int 0)).set 8 (.int 0)).set 9 (.int (-1))).set 17 (.int 0)).set 33 (.int 0)).set 38 (.int 0)).set 5 (.int 0)).set 6 (.int 4)))), (m_rf, .inl (cI, 16, .inl f_497)), (m_um, .inl (cI, 2, .inl f_494)), (m_tm, .inl (cI, 2, .inl f_495)), (m_fr, .inl (cI, 2, .inl f_496))]) [4, 0, 1, 2, 3] (by decide) rfl
    exact W.vret hx hb hr (fun t ht hW => ⟨⟨(), rfl, trivial, f_497, f_494, f_495, f_496, hJr, by rw [ht]; exact hP9, hD9⟩, hS.F ht⟩) hS.2.2 dX11_parses_205
  · intro k f_501 hk hJ ih H locs hP hD hS ls hl
    have hP : va_P (dC, dI) vwCl [(h0, .inr (10, fs_493)), (m_rf, .inl (cI, 16, .inl f_501)), (m_um, .inl (cI, 2, .inl f_494)), (m_tm, .inl (cI, 2, .inl f_495)), (m_fr, .inl (cI, 2, .inl f_496))] H := hP
    have hD : va_D A [(h0, .inr (10, fs_493)), (m_rf, .inl (cI, 16, .inl f_501)), (m_um, .inl (cI, 2, .inl f_494)), (m_tm, .inl (cI, 2, .inl f_495)), (m_fr, .inl (cI, 2, .inl f_496))] := hD
    have hl : lv_has ls 3 [(1, .int (nI k)), (0, .ref h0)] := hl
    refine lv_iload_n hx hb dX11_parses_54 rfl (lv_at hl 0 rfl) ?_
    refine lv_bipush (v := 16) hx hb dX11_parses_55 (by decide) ?_
    refine lv_icmp_ge (tgt := 73) hx hb dX11_parses_57 (by decide) (fun c9 => absurd c9 (ge_no (N := 16) (by decide) hk (by decide))) (fun _ => ?_)
    refine lv_aload_n hx hb dX11_parses_60 rfl (lv_at hl 1 rfl) ?_
    refine va_get (D := (dC, dI)) (ci := 10) (v := .ref m_rf) (C := RX11) (T := TX11) (N := 68) hx hb hts iwwsX11_parses_11 hown hK hP 0 rfl rfl 19 (by decide) (hts (.fieldLink RX11 32 "NothingJudgeModel" "routineFrom" "[I") fwwsX11_parses_32) (fun _ h9 => h9) (fs_ne efs_493 (by decide) (fs_ne efs_492 (by decide) (fs_ne efs_491 (by decide) (fs_ne efs_490 (by decide) (fs_ne efs_489 (by decide) (fs_ne efs_488 (by decide) g_fs_19)))))) dX11_parses_61 ?_
    refine lv_iload_n hx hb dX11_parses_64 rfl (lv_at hl 0 rfl) ?_
    refine lv_iconst (v := (-1)) hx hb dX11_parses_65 (by decide) ?_
    refine va_iast hx hb hK hP hD hS 1 0 rfl rfl (vp_in_nI (by omega) (by decide)) dX11_parses_66 (fun H locs hP hD hS => ?_)
    obtain ⟨f_502, ef_502⟩ : ∃ z, z = upd f_501 (nI k).toNatClampNeg (-1) := ⟨_, rfl⟩
    have hP : va_P (dC, dI) vwCl [(h0, .inr (10, fs_493)), (m_rf, .inl (cI, 16, .inl f_502)), (m_um, .inl (cI, 2, .inl f_494)), (m_tm, .inl (cI, 2, .inl f_495)), (m_fr, .inl (cI, 2, .inl f_496))] H := by rw [ef_502]; exact hP
    have hD : va_D A [(h0, .inr (10, fs_493)), (m_rf, .inl (cI, 16, .inl f_502)), (m_um, .inl (cI, 2, .inl f_494)), (m_tm, .inl (cI, 2, .inl f_495)), (m_fr, .inl (cI, 2, .inl f_496))] := by rw [ef_502]; exact hD
    obtain ⟨x_503, ex_503⟩ : ∃ z : Int32, z = (nI k) + 1 := ⟨_, rfl⟩
    refine lv_iinc (v := x_503) (lv' := [(1, .int x_503), (0, .ref h0)]) hx hb dX11_parses_67 hl (k := 0) rfl (by rw [ex_503]; rfl) (by decide) rfl (fun ls hl => ?_)
    refine lv_goto (tgt := 54) hx hb dX11_parses_70 (by decide) ?_
    have hl := lv_sub hl (l' := [(1, .int x_503), (0, .ref h0)]) [0, 1] rfl
    rw [ex_503, nI_1 k] at hl
    exact ih (f_502) (up_keep ef_502 hJ) H locs hP hD hS ls hl
