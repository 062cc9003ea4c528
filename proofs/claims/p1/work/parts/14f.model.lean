set_option maxHeartbeats 4000000 in
set_option maxRecDepth 100000 in
theorem m_comes (l : Launch) (dC : Nat → ClassId) (dI : Nat → Nat → Nat) (cI cB cL cZ : ClassId) (h0 : Nat) (m_rf : Nat) (m_pa : Nat) (m_pn : Nat) (m_fr : Nat) (m_ur : Nat) (m_up : Nat) (m_un : Nat) (m_um : Nat) (m_tr : Nat) (m_te : Nat) (m_tm : Nat) (m_ou : Nat) (fs : List Value) (frf : Nat → Int32) (f1 : Nat → Int32) (f2 : Nat → Int32) (f3 : Nat → Int32) (f4 : Nat → Int32) (f5 : Nat → Int32) (f6 : Nat → Int32) (f7 : Nat → Int32) (f8 : Nat → Int32) (f9 : Nat → Int32) (f10 : Nat → Int32) (f11 : Nat → Int32) (sz : Nat) (gl_fs : fs.length = 68) (g_fs_19 : fs[19]? = some (.ref m_rf)) (g_fs_20 : fs[20]? = some (.ref m_pa)) (g_fs_21 : fs[21]? = some (.ref m_pn)) (g_fs_22 : fs[22]? = some (.ref m_fr)) (g_fs_23 : fs[23]? = some (.ref m_ur)) (g_fs_24 : fs[24]? = some (.ref m_up)) (g_fs_25 : fs[25]? = some (.ref m_un)) (g_fs_26 : fs[26]? = some (.ref m_um)) (g_fs_27 : fs[27]? = some (.ref m_tr)) (g_fs_28 : fs[28]? = some (.ref m_te)) (g_fs_29 : fs[29]? = some (.ref m_tm)) (g_fs_40 : fs[40]? = some (.ref m_ou)) (g_fs_17 : fs[17]? = some (.int 0)) (hrf : ∀ j, j < 16 → frf j = -1) : Met l yX11_comes wsX11_comes ({ frames := 1, cells := 0, slots := 0, locals := 22 }) (cP (dC, dI) (kTy cI cB cL cZ) [.ref h0] [(h0, .inr (10, fs)), (m_rf, .inl (cI, 16, .inl frf)), (m_pa, .inl (cI, 16, .inl f1)), (m_pn, .inl (cI, 64, .inl f2)), (m_fr, .inl (cI, 2, .inl f3)), (m_ur, .inl (cI, 82, .inl f4)), (m_up, .inl (cI, 82, .inl f5)), (m_un, .inl (cI, 82, .inl f6)), (m_um, .inl (cI, 2, .inl f7)), (m_tr, .inl (cI, 50, .inl f8)), (m_te, .inl (cI, 50, .inl f9)), (m_tm, .inl (cI, 2, .inl f10)), (m_ou, .inl (cI, 4, .inl f11))] sz) (va_Qv (fun _ : Unit => True) (fun (_ : Unit) (t : State) => ∃ yz0 : Int32, ∃ fz1 : Nat → Int32, (∀ j, j < 16 → fz1 j = -1) ∧ va_P (dC, dI) vwCl [(h0, .inr (10, ((fs.set 18 (.int 0)).set 39 (.int yz0)))), (m_rf, .inl (cI, 16, .inl fz1))] t.heap ∧ va_D (va_A [(h0, .inr (10, fs)), (m_rf, .inl (cI, 16, .inl frf)), (m_pa, .inl (cI, 16, .inl f1)), (m_pn, .inl (cI, 64, .inl f2)), (m_fr, .inl (cI, 2, .inl f3)), (m_ur, .inl (cI, 82, .inl f4)), (m_up, .inl (cI, 82, .inl f5)), (m_un, .inl (cI, 82, .inl f6)), (m_um, .inl (cI, 2, .inl f7)), (m_tr, .inl (cI, 50, .inl f8)), (m_te, .inl (cI, 50, .inl f9)), (m_tm, .inl (cI, 2, .inl f10)), (m_ou, .inl (cI, 4, .inl f11))] sz) [(h0, .inr (10, ((fs.set 18 (.int 0)).set 39 (.int yz0)))), (m_rf, .inl (cI, 16, .inl fz1))]) (va_A [(h0, .inr (10, fs)), (m_rf, .inl (cI, 16, .inl frf)), (m_pa, .inl (cI, 16, .inl f1)), (m_pn, .inl (cI, 64, .inl f2)), (m_fr, .inl (cI, 2, .inl f3)), (m_ur, .inl (cI, 82, .inl f4)), (m_up, .inl (cI, 82, .inl f5)), (m_un, .inl (cI, 82, .inl f6)), (m_um, .inl (cI, 2, .inl f7)), (m_tr, .inl (cI, 50, .inl f8)), (m_te, .inl (cI, 50, .inl f9)), (m_tm, .inl (cI, 2, .inl f10)), (m_ou, .inl (cI, 4, .inl f11))] sz)) 0 0 (va_A [(h0, .inr (10, fs)), (m_rf, .inl (cI, 16, .inl frf)), (m_pa, .inl (cI, 16, .inl f1)), (m_pn, .inl (cI, 64, .inl f2)), (m_fr, .inl (cI, 2, .inl f3)), (m_ur, .inl (cI, 82, .inl f4)), (m_up, .inl (cI, 82, .inl f5)), (m_un, .inl (cI, 82, .inl f6)), (m_um, .inl (cI, 2, .inl f7)), (m_tr, .inl (cI, 50, .inl f8)), (m_te, .inl (cI, 50, .inl f9)), (m_tm, .inl (cI, 2, .inl f10)), (m_ou, .inl (cI, 4, .inl f11))] sz) := by
  refine Met.ofW (cc := cX11_comes) (maxL := 2) (ret := none) (by decide) rfl ?_
  intro p e s m args below meth c s₁ B hml hv
  obtain ⟨rfl, hsz, hP, hK, hD0, hN⟩ := hv
  have hx := B.exec
  have hb := B.bytes
  have hr := B.returns
  have hts := atoms_spec (ws := wsX11_comes) B.pre
  have hown : s.vm.findClass RX11 = some m.cls := findClass_of_methodNamed B.named
  have hlocks := B.notSynchronized
  subst hsz
  have hD := hD0.self (sz := s.heap.size)
  generalize hAe : va_A [(h0, .inr (10, fs)), (m_rf, .inl (cI, 16, .inl frf)), (m_pa, .inl (cI, 16, .inl f1)), (m_pn, .inl (cI, 64, .inl f2)), (m_fr, .inl (cI, 2, .inl f3)), (m_ur, .inl (cI, 82, .inl f4)), (m_up, .inl (cI, 82, .inl f5)), (m_un, .inl (cI, 82, .inl f6)), (m_um, .inl (cI, 2, .inl f7)), (m_tr, .inl (cI, 50, .inl f8)), (m_te, .inl (cI, 50, .inl f9)), (m_tm, .inl (cI, 2, .inl f10)), (m_ou, .inl (cI, 4, .inl f11))] s.heap.size = A at hD ⊢
  have hA : ∀ q : Nat, s.heap.size ≤ q → A q := fun q h => by rw [← hAe]; exact Or.inr h
  have hl := lv_entry ([.ref h0]) (n := 2) (Nat.le_of_ble_eq_true rfl)
  rw [lg_entry_eq]
  generalize (lg_sl ([.ref h0]) ++ List.replicate (2 - (lg_sl ([.ref h0])).length) Slot.unset).toArray = ls at hl ⊢
  have hl : lv_has ls 2 [(0, .ref h0)] := hl
  refine k_H (A := A) hP (fun H hP hS => ?_)
  have hP : va_P (dC, dI) vwCl [(h0, .inr (10, fs)), (m_rf, .inl (cI, 16, .inl frf)), (m_pa, .inl (cI, 16, .inl f1)), (m_pn, .inl (cI, 64, .inl f2)), (m_fr, .inl (cI, 2, .inl f3)), (m_ur, .inl (cI, 82, .inl f4)), (m_up, .inl (cI, 82, .inl f5)), (m_un, .inl (cI, 82, .inl f6)), (m_um, .inl (cI, 2, .inl f7)), (m_tr, .inl (cI, 50, .inl f8)), (m_te, .inl (cI, 50, .inl f9)), (m_tm, .inl (cI, 2, .inl f10)), (m_ou, .inl (cI, 4, .inl f11))] H := hP
  have hD : va_D A [(h0, .inr (10, fs)), (m_rf, .inl (cI, 16, .inl frf)), (m_pa, .inl (cI, 16, .inl f1)), (m_pn, .inl (cI, 64, .inl f2)), (m_fr, .inl (cI, 2, .inl f3)), (m_ur, .inl (cI, 82, .inl f4)), (m_up, .inl (cI, 82, .inl f5)), (m_un, .inl (cI, 82, .inl f6)), (m_um, .inl (cI, 2, .inl f7)), (m_tr, .inl (cI, 50, .inl f8)), (m_te, .inl (cI, 50, .inl f9)), (m_tm, .inl (cI, 2, .inl f10)), (m_ou, .inl (cI, 4, .inl f11))] := hD
  refine lv_aload_n hx hb dX11_comes_0 rfl (lv_at hl 0 rfl) ?_
  refine lv_aload_n hx hb dX11_comes_1 rfl (lv_at hl 0 rfl) ?_
  refine va_get (D := (dC, dI)) (ci := 10) (v := .int 0) (C := RX11) (T := TX11) (N := 68) hx hb hts iwwsX11_comes_11 hown hK hP 0 rfl rfl 17 (by decide) (hts (.fieldLink RX11 183 "NothingJudgeModel" "acts" "I") fwwsX11_comes_183) (fun _ h9 => h9) g_fs_17 dX11_comes_2 ?_
  refine va_put (D := (dC, dI)) (ci := 10) (v := .int 0) (ty := .int) (C := RX11) (T := TX11) (N := 68) hx hb hts iwwsX11_comes_11 tyX11 tyX11_ok nmX11 hown hK hP hD hS 0 rfl rfl 18 (by decide) (hts (.fieldLink RX11 251 "NothingJudgeModel" "actMany" "I") fwwsX11_comes_251) (fun _ h9 => h9) rfl (by decide +kernel) rfl rfl (by rw [gl_fs]; decide) dX11_comes_5 (fun H locs hP hD hS => ?_)
  obtain ⟨fs_504, efs_504⟩ : ∃ z : List Value, z = fs.set 18 (.int 0) := ⟨_, rfl⟩
  have glfs_504 : fs_504.length = 68 := fs_len efs_504 gl_fs
  have hP : va_P (dC, dI) vwCl [(h0, .inr (10, fs_504)), (m_rf, .inl (cI, 16, .inl frf)), (m_pa, .inl (cI, 16, .inl f1)), (m_pn, .inl (cI, 64, .inl f2)), (m_fr, .inl (cI, 2, .inl f3)), (m_ur, .inl (cI, 82, .inl f4)), (m_up, .inl (cI, 82, .inl f5)), (m_un, .inl (cI, 82, .inl f6)), (m_um, .inl (cI, 2, .inl f7)), (m_tr, .inl (cI, 50, .inl f8)), (m_te, .inl (cI, 50, .inl f9)), (m_tm, .inl (cI, 2, .inl f10)), (m_ou, .inl (cI, 4, .inl f11))] H := by rw [efs_504]; exact hP
  have hD : va_D A [(h0, .inr (10, fs_504)), (m_rf, .inl (cI, 16, .inl frf)), (m_pa, .inl (cI, 16, .inl f1)), (m_pn, .inl (cI, 64, .inl f2)), (m_fr, .inl (cI, 2, .inl f3)), (m_ur, .inl (cI, 82, .inl f4)), (m_up, .inl (cI, 82, .inl f5)), (m_un, .inl (cI, 82, .inl f6)), (m_um, .inl (cI, 2, .inl f7)), (m_tr, .inl (cI, 50, .inl f8)), (m_te, .inl (cI, 50, .inl f9)), (m_tm, .inl (cI, 2, .inl f10)), (m_ou, .inl (cI, 4, .inl f11))] := by rw [efs_504]; exact hD
  refine lv_iconst (v := 0) hx hb dX11_comes_8 (by decide) ?_
  refine lv_istore_n (lv' := [(1, .int 0), (0, .ref h0)]) hx hb dX11_comes_9 rfl hl (by decide) rfl (fun ls hl => ?_)
  refine lv_iload_n hx hb dX11_comes_10 rfl (lv_at hl 0 rfl) ?_
  refine lv_aload_n hx hb dX11_comes_11 rfl (lv_at hl 1 rfl) ?_
  refine va_get (D := (dC, dI)) (ci := 10) (v := .int 0) (C := RX11) (T := TX11) (N := 68) hx hb hts iwwsX11_comes_11 hown hK hP 0 rfl rfl 17 (by decide) (hts (.fieldLink RX11 183 "NothingJudgeModel" "acts" "I") fwwsX11_comes_183) (fun _ h9 => h9) (fs_ne efs_504 (by decide) g_fs_17) dX11_comes_12 ?_
  refine lv_icmp_ge (tgt := 104) hx hb dX11_comes_15 (by decide) (fun _ => ?_) (fun c9 => absurd (by decide) c9)
  refine lv_iconst (v := 0) hx hb dX11_comes_104 (by decide) ?_
  refine lv_istore_n (lv' := [(1, .int 0), (0, .ref h0)]) hx hb dX11_comes_105 rfl hl (by decide) rfl (fun ls hl => ?_)
  have hl := lv_sub hl (l' := [(1, .int 0), (0, .ref h0)]) [0, 1] rfl
  have hl : lv_has ls 2 [(1, .int (nI 0)), (0, .ref h0)] := by rw [show nI 0 = (0 : Int32) by decide]; exact hl
  refine lp_up (S := (Nat → Int32) × (Nat → Int32)) (fun k st => ∀ j, j < 16 → (st.1) j = -1) (fun st => [(h0, .inr (10, fs_504)), (m_rf, .inl (cI, 16, .inl (st.1))), (m_pa, .inl (cI, 16, .inl (st.2))), (m_pn, .inl (cI, 64, .inl f2)), (m_fr, .inl (cI, 2, .inl f3)), (m_ur, .inl (cI, 82, .inl f4)), (m_up, .inl (cI, 82, .inl f5)), (m_un, .inl (cI, 82, .inl f6)), (m_um, .inl (cI, 2, .inl f7)), (m_tr, .inl (cI, 50, .inl f8)), (m_te, .inl (cI, 50, .inl f9)), (m_tm, .inl (cI, 2, .inl f10)), (m_ou, .inl (cI, 4, .inl f11))]) (fun k st => [(1, .int (nI k)), (0, .ref h0)]) 106 8 ?_ ?_ 0 (by decide) (frf, f1) hrf hP hD hS hl
  · intro st9 hJ H locs hP hD hS ls hl
    obtain ⟨f_505, f_506⟩ := st9
    have hP : va_P (dC, dI) vwCl [(h0, .inr (10, fs_504)), (m_rf, .inl (cI, 16, .inl f_505)), (m_pa, .inl (cI, 16, .inl f_506)), (m_pn, .inl (cI, 64, .inl f2)), (m_fr, .inl (cI, 2, .inl f3)), (m_ur, .inl (cI, 82, .inl f4)), (m_up, .inl (cI, 82, .inl f5)), (m_un, .inl (cI, 82, .inl f6)), (m_um, .inl (cI, 2, .inl f7)), (m_tr, .inl (cI, 50, .inl f8)), (m_te, .inl (cI, 50, .inl f9)), (m_tm, .inl (cI, 2, .inl f10)), (m_ou, .inl (cI, 4, .inl f11))] H := hP
    have hD : va_D A [(h0, .inr (10, fs_504)), (m_rf, .inl (cI, 16, .inl f_505)), (m_pa, .inl (cI, 16, .inl f_506)), (m_pn, .inl (cI, 64, .inl f2)), (m_fr, .inl (cI, 2, .inl f3)), (m_ur, .inl (cI, 82, .inl f4)), (m_up, .inl (cI, 82, .inl f5)), (m_un, .inl (cI, 82, .inl f6)), (m_um, .inl (cI, 2, .inl f7)), (m_tr, .inl (cI, 50, .inl f8)), (m_te, .inl (cI, 50, .inl f9)), (m_tm, .inl (cI, 2, .inl f10)), (m_ou, .inl (cI, 4, .inl f11))] := hD
    have hl : lv_has ls 2 [(1, .int 8), (0, .ref h0)] := by rw [← show nI 8 = (8 : Int32) by decide]; exact hl
    have hJr := hJ
    refine lv_iload_n hx hb dX11_comes_106 rfl (lv_at hl 0 rfl) ?_
    refine lv_bipush (v := 8) hx hb dX11_comes_107 (by decide) ?_
    refine lv_icmp_ge (tgt := 148) hx hb dX11_comes_109 (by decide) (fun _ => ?_) (fun c9 => absurd (by decide) c9)
    refine lv_iconst (v := 0) hx hb dX11_comes_148 (by decide) ?_
    refine lv_istore_n (lv' := [(1, .int 0), (0, .ref h0)]) hx hb dX11_comes_149 rfl hl (by decide) rfl (fun ls hl => ?_)
    have hl := lv_sub hl (l' := [(1, .int 0), (0, .ref h0)]) [0, 1] rfl
    have hl : lv_has ls 2 [(1, .int (nI 0)), (0, .ref h0)] := by rw [show nI 0 = (0 : Int32) by decide]; exact hl
    refine lp_up (S := (Nat → Int32)) (fun k st => True) (fun st => [(h0, .inr (10, fs_504)), (m_rf, .inl (cI, 16, .inl f_505)), (m_pa, .inl (cI, 16, .inl f_506)), (m_pn, .inl (cI, 64, .inl (st))), (m_fr, .inl (cI, 2, .inl f3)), (m_ur, .inl (cI, 82, .inl f4)), (m_up, .inl (cI, 82, .inl f5)), (m_un, .inl (cI, 82, .inl f6)), (m_um, .inl (cI, 2, .inl f7)), (m_tr, .inl (cI, 50, .inl f8)), (m_te, .inl (cI, 50, .inl f9)), (m_tm, .inl (cI, 2, .inl f10)), (m_ou, .inl (cI, 4, .inl f11))]) (fun k st => [(1, .int (nI k)), (0, .ref h0)]) 150 32 ?_ ?_ 0 (by decide) (f2) trivial hP hD hS hl
    · intro f_507 hJ H locs hP hD hS ls hl
      have hP : va_P (dC, dI) vwCl [(h0, .inr (10, fs_504)), (m_rf, .inl (cI, 16, .inl f_505)), (m_pa, .inl (cI, 16, .inl f_506)), (m_pn, .inl (cI, 64, .inl f_507)), (m_fr, .inl (cI, 2, .inl f3)), (m_ur, .inl (cI, 82, .inl f4)), (m_up, .inl (cI, 82, .inl f5)), (m_un, .inl (cI, 82, .inl f6)), (m_um, .inl (cI, 2, .inl f7)), (m_tr, .inl (cI, 50, .inl f8)), (m_te, .inl (cI, 50, .inl f9)), (m_tm, .inl (cI, 2, .inl f10)), (m_ou, .inl (cI, 4, .inl f11))] H := hP
      have hD : va_D A [(h0, .inr (10, fs_504)), (m_rf, .inl (cI, 16, .inl f_505)), (m_pa, .inl (cI, 16, .inl f_506)), (m_pn, .inl (cI, 64, .inl f_507)), (m_fr, .inl (cI, 2, .inl f3)), (m_ur, .inl (cI, 82, .inl f4)), (m_up, .inl (cI, 82, .inl f5)), (m_un, .inl (cI, 82, .inl f6)), (m_um, .inl (cI, 2, .inl f7)), (m_tr, .inl (cI, 50, .inl f8)), (m_te, .inl (cI, 50, .inl f9)), (m_tm, .inl (cI, 2, .inl f10)), (m_ou, .inl (cI, 4, .inl f11))] := hD
      have hl : lv_has ls 2 [(1, .int 32), (0, .ref h0)] := by rw [← show nI 32 = (32 : Int32) by decide]; exact hl
      refine lv_iload_n hx hb dX11_comes_150 rfl (lv_at hl 0 rfl) ?_
      refine lv_bipush (v := 32) hx hb dX11_comes_151 (by decide) ?_
      refine lv_icmp_ge (tgt := 177) hx hb dX11_comes_153 (by decide) (fun _ => ?_) (fun c9 => absurd (by decide) c9)
      refine lv_aload_n hx hb dX11_comes_177 rfl (lv_at hl 1 rfl) ?_
      refine va_get (D := (dC, dI)) (ci := 10) (v := .ref m_fr) (C := RX11) (T := TX11) (N := 68) hx hb hts iwwsX11_comes_11 hown hK hP 0 rfl rfl 22 (by decide) (hts (.fieldLink RX11 41 "NothingJudgeModel" "firstRoutine" "[I") fwwsX11_comes_41) (fun _ h9 => h9) (fs_ne efs_504 (by decide) g_fs_22) dX11_comes_178 ?_
      refine lv_iconst (v := 0) hx hb dX11_comes_181 (by decide) ?_
      refine lv_aload_n hx hb dX11_comes_182 rfl (lv_at hl 1 rfl) ?_
      refine va_get (D := (dC, dI)) (ci := 10) (v := .ref m_fr) (C := RX11) (T := TX11) (N := 68) hx hb hts iwwsX11_comes_11 hown hK hP 0 rfl rfl 22 (by decide) (hts (.fieldLink RX11 41 "NothingJudgeModel" "firstRoutine" "[I") fwwsX11_comes_41) (fun _ h9 => h9) (fs_ne efs_504 (by decide) g_fs_22) dX11_comes_183 ?_
      refine lv_iconst (v := 1) hx hb dX11_comes_186 (by decide) ?_
      refine va_iald hx hb hK hP 4 0 rfl rfl (by unfold vp_in; decide) dX11_comes_187 ?_
      refine lv_topi (fun y_508 ey_508 => ?_)
      refine va_iast hx hb hK hP hD hS 4 0 rfl rfl (by unfold vp_in; decide) dX11_comes_188 (fun H locs hP hD hS => ?_)
      obtain ⟨f_509, ef_509⟩ : ∃ z, z = upd f3 (0 : Int32).toNatClampNeg y_508 := ⟨_, rfl⟩
      have hP : va_P (dC, dI) vwCl [(h0, .inr (10, fs_504)), (m_rf, .inl (cI, 16, .inl f_505)), (m_pa, .inl (cI, 16, .inl f_506)), (m_pn, .inl (cI, 64, .inl f_507)), (m_fr, .inl (cI, 2, .inl f_509)), (m_ur, .inl (cI, 82, .inl f4)), (m_up, .inl (cI, 82, .inl f5)), (m_un, .inl (cI, 82, .inl f6)), (m_um, .inl (cI, 2, .inl f7)), (m_tr, .inl (cI, 50, .inl f8)), (m_te, .inl (cI, 50, .inl f9)), (m_tm, .inl (cI, 2, .inl f10)), (m_ou, .inl (cI, 4, .inl f11))] H := by rw [ef_509]; exact hP
      have hD : va_D A [(h0, .inr (10, fs_504)), (m_rf, .inl (cI, 16, .inl f_505)), (m_pa, .inl (cI, 16, .inl f_506)), (m_pn, .inl (cI, 64, .inl f_507)), (m_fr, .inl (cI, 2, .inl f_509)), (m_ur, .inl (cI, 82, .inl f4)), (m_up, .inl (cI, 82, .inl f5)), (m_un, .inl (cI, 82, .inl f6)), (m_um, .inl (cI, 2, .inl f7)), (m_tr, .inl (cI, 50, .inl f8)), (m_te, .inl (cI, 50, .inl f9)), (m_tm, .inl (cI, 2, .inl f10)), (m_ou, .inl (cI, 4, .inl f11))] := by rw [ef_509]; exact hD
      refine lv_iconst (v := 0) hx hb dX11_comes_189 (by decide) ?_
      refine lv_istore_n (lv' := [(1, .int 0), (0, .ref h0)]) hx hb dX11_comes_190 rfl hl (by decide) rfl (fun ls hl => ?_)
      have hl := lv_sub hl (l' := [(1, .int 0), (0, .ref h0)]) [0, 1] rfl
      have hl : lv_has ls 2 [(1, .int (nI 0)), (0, .ref h0)] := by rw [show nI 0 = (0 : Int32) by decide]; exact hl
      refine lp_up (S := (Nat → Int32) × (Nat → Int32) × (Nat → Int32)) (fun k st => True) (fun st => [(h0, .inr (10, fs_504)), (m_rf, .inl (cI, 16, .inl f_505)), (m_pa, .inl (cI, 16, .inl f_506)), (m_pn, .inl (cI, 64, .inl f_507)), (m_fr, .inl (cI, 2, .inl f_509)), (m_ur, .inl (cI, 82, .inl (st.1))), (m_up, .inl (cI, 82, .inl (st.2.1))), (m_un, .inl (cI, 82, .inl (st.2.2))), (m_um, .inl (cI, 2, .inl f7)), (m_tr, .inl (cI, 50, .inl f8)), (m_te, .inl (cI, 50, .inl f9)), (m_tm, .inl (cI, 2, .inl f10)), (m_ou, .inl (cI, 4, .inl f11))]) (fun k st => [(1, .int (nI k)), (0, .ref h0)]) 191 41 ?_ ?_ 0 (by decide) (f4, f5, f6) trivial hP hD hS hl
      · intro st9 hJ H locs hP hD hS ls hl
        obtain ⟨f_510, f_511, f_512⟩ := st9
        have hP : va_P (dC, dI) vwCl [(h0, .inr (10, fs_504)), (m_rf, .inl (cI, 16, .inl f_505)), (m_pa, .inl (cI, 16, .inl f_506)), (m_pn, .inl (cI, 64, .inl f_507)), (m_fr, .inl (cI, 2, .inl f_509)), (m_ur, .inl (cI, 82, .inl f_510)), (m_up, .inl (cI, 82, .inl f_511)), (m_un, .inl (cI, 82, .inl f_512)), (m_um, .inl (cI, 2, .inl f7)), (m_tr, .inl (cI, 50, .inl f8)), (m_te, .inl (cI, 50, .inl f9)), (m_tm, .inl (cI, 2, .inl f10)), (m_ou, .inl (cI, 4, .inl f11))] H := hP
        have hD : va_D A [(h0, .inr (10, fs_504)), (m_rf, .inl (cI, 16, .inl f_505)), (m_pa, .inl (cI, 16, .inl f_506)), (m_pn, .inl (cI, 64, .inl f_507)), (m_fr, .inl (cI, 2, .inl f_509)), (m_ur, .inl (cI, 82, .inl f_510)), (m_up, .inl (cI, 82, .inl f_511)), (m_un, .inl (cI, 82, .inl f_512)), (m_um, .inl (cI, 2, .inl f7)), (m_tr, .inl (cI, 50, .inl f8)), (m_te, .inl (cI, 50, .inl f9)), (m_tm, .inl (cI, 2, .inl f10)), (m_ou, .inl (cI, 4, .inl f11))] := hD
        have hl : lv_has ls 2 [(1, .int 41), (0, .ref h0)] := by rw [← show nI 41 = (41 : Int32) by decide]; exact hl
        refine lv_iload_n hx hb dX11_comes_191 rfl (lv_at hl 0 rfl) ?_
        refine lv_bipush (v := 41) hx hb dX11_comes_192 (by decide) ?_
        refine lv_icmp_ge (tgt := 248) hx hb dX11_comes_194 (by decide) (fun _ => ?_) (fun c9 => absurd (by decide) c9)
        refine lv_aload_n hx hb dX11_comes_248 rfl (lv_at hl 1 rfl) ?_
        refine va_get (D := (dC, dI)) (ci := 10) (v := .ref m_um) (C := RX11) (T := TX11) (N := 68) hx hb hts iwwsX11_comes_11 hown hK hP 0 rfl rfl 26 (by decide) (hts (.fieldLink RX11 53 "NothingJudgeModel" "useMany" "[I") fwwsX11_comes_53) (fun _ h9 => h9) (fs_ne efs_504 (by decide) g_fs_26) dX11_comes_249 ?_
        refine lv_iconst (v := 0) hx hb dX11_comes_252 (by decide) ?_
        refine lv_aload_n hx hb dX11_comes_253 rfl (lv_at hl 1 rfl) ?_
        refine va_get (D := (dC, dI)) (ci := 10) (v := .ref m_um) (C := RX11) (T := TX11) (N := 68) hx hb hts iwwsX11_comes_11 hown hK hP 0 rfl rfl 26 (by decide) (hts (.fieldLink RX11 53 "NothingJudgeModel" "useMany" "[I") fwwsX11_comes_53) (fun _ h9 => h9) (fs_ne efs_504 (by decide) g_fs_26) dX11_comes_254 ?_
        refine lv_iconst (v := 1) hx hb dX11_comes_257 (by decide) ?_
        refine va_iald hx hb hK hP 8 0 rfl rfl (by unfold vp_in; decide) dX11_comes_258 ?_
        refine lv_topi (fun y_513 ey_513 => ?_)
        refine va_iast hx hb hK hP hD hS 8 0 rfl rfl (by unfold vp_in; decide) dX11_comes_259 (fun H locs hP hD hS => ?_)
        obtain ⟨f_514, ef_514⟩ : ∃ z, z = upd f7 (0 : Int32).toNatClampNeg y_513 := ⟨_, rfl⟩
        have hP : va_P (dC, dI) vwCl [(h0, .inr (10, fs_504)), (m_rf, .inl (cI, 16, .inl f_505)), (m_pa, .inl (cI, 16, .inl f_506)), (m_pn, .inl (cI, 64, .inl f_507)), (m_fr, .inl (cI, 2, .inl f_509)), (m_ur, .inl (cI, 82, .inl f_510)), (m_up, .inl (cI, 82, .inl f_511)), (m_un, .inl (cI, 82, .inl f_512)), (m_um, .inl (cI, 2, .inl f_514)), (m_tr, .inl (cI, 50, .inl f8)), (m_te, .inl (cI, 50, .inl f9)), (m_tm, .inl (cI, 2, .inl f10)), (m_ou, .inl (cI, 4, .inl f11))] H := by rw [ef_514]; exact hP
        have hD : va_D A [(h0, .inr (10, fs_504)), (m_rf, .inl (cI, 16, .inl f_505)), (m_pa, .inl (cI, 16, .inl f_506)), (m_pn, .inl (cI, 64, .inl f_507)), (m_fr, .inl (cI, 2, .inl f_509)), (m_ur, .inl (cI, 82, .inl f_510)), (m_up, .inl (cI, 82, .inl f_511)), (m_un, .inl (cI, 82, .inl f_512)), (m_um, .inl (cI, 2, .inl f_514)), (m_tr, .inl (cI, 50, .inl f8)), (m_te, .inl (cI, 50, .inl f9)), (m_tm, .inl (cI, 2, .inl f10)), (m_ou, .inl (cI, 4, .inl f11))] := by rw [ef_514]; exact hD
        refine lv_iconst (v := 0) hx hb dX11_comes_260 (by decide) ?_
        refine lv_istore_n (lv' := [(1, .int 0), (0, .ref h0)]) hx hb dX11_comes_261 rfl hl (by decide) rfl (fun ls hl => ?_)
        have hl := lv_sub hl (l' := [(1, .int 0), (0, .ref h0)]) [0, 1] rfl
        have hl : lv_has ls 2 [(1, .int (nI 0)), (0, .ref h0)] := by rw [show nI 0 = (0 : Int32) by decide]; exact hl
        refine lp_up (S := (Nat → Int32) × (Nat → Int32)) (fun k st => True) (fun st => [(h0, .inr (10, fs_504)), (m_rf, .inl (cI, 16, .inl f_505)), (m_pa, .inl (cI, 16, .inl f_506)), (m_pn, .inl (cI, 64, .inl f_507)), (m_fr, .inl (cI, 2, .inl f_509)), (m_ur, .inl (cI, 82, .inl f_510)), (m_up, .inl (cI, 82, .inl f_511)), (m_un, .inl (cI, 82, .inl f_512)), (m_um, .inl (cI, 2, .inl f_514)), (m_tr, .inl (cI, 50, .inl (st.1))), (m_te, .inl (cI, 50, .inl (st.2))), (m_tm, .inl (cI, 2, .inl f10)), (m_ou, .inl (cI, 4, .inl f11))]) (fun k st => [(1, .int (nI k)), (0, .ref h0)]) 262 25 ?_ ?_ 0 (by decide) (f8, f9) trivial hP hD hS hl
        · intro st9 hJ H locs hP hD hS ls hl
          obtain ⟨f_515, f_516⟩ := st9
          have hP : va_P (dC, dI) vwCl [(h0, .inr (10, fs_504)), (m_rf, .inl (cI, 16, .inl f_505)), (m_pa, .inl (cI, 16, .inl f_506)), (m_pn, .inl (cI, 64, .inl f_507)), (m_fr, .inl (cI, 2, .inl f_509)), (m_ur, .inl (cI, 82, .inl f_510)), (m_up, .inl (cI, 82, .inl f_511)), (m_un, .inl (cI, 82, .inl f_512)), (m_um, .inl (cI, 2, .inl f_514)), (m_tr, .inl (cI, 50, .inl f_515)), (m_te, .inl (cI, 50, .inl f_516)), (m_tm, .inl (cI, 2, .inl f10)), (m_ou, .inl (cI, 4, .inl f11))] H := hP
          have hD : va_D A [(h0, .inr (10, fs_504)), (m_rf, .inl (cI, 16, .inl f_505)), (m_pa, .inl (cI, 16, .inl f_506)), (m_pn, .inl (cI, 64, .inl f_507)), (m_fr, .inl (cI, 2, .inl f_509)), (m_ur, .inl (cI, 82, .inl f_510)), (m_up, .inl (cI, 82, .inl f_511)), (m_un, .inl (cI, 82, .inl f_512)), (m_um, .inl (cI, 2, .inl f_514)), (m_tr, .inl (cI, 50, .inl f_515)), (m_te, .inl (cI, 50, .inl f_516)), (m_tm, .inl (cI, 2, .inl f10)), (m_ou, .inl (cI, 4, .inl f11))] := hD
          have hl : lv_has ls 2 [(1, .int 25), (0, .ref h0)] := by rw [← show nI 25 = (25 : Int32) by decide]; exact hl
          refine lv_iload_n hx hb dX11_comes_262 rfl (lv_at hl 0 rfl) ?_
          refine lv_bipush (v := 25) hx hb dX11_comes_263 (by decide) ?_
          refine lv_icmp_ge (tgt := 304) hx hb dX11_comes_265 (by decide) (fun _ => ?_) (fun c9 => absurd (by decide) c9)
          refine lv_aload_n hx hb dX11_comes_304 rfl (lv_at hl 1 rfl) ?_
          refine va_get (D := (dC, dI)) (ci := 10) (v := .ref m_tm) (C := RX11) (T := TX11) (N := 68) hx hb hts iwwsX11_comes_11 hown hK hP 0 rfl rfl 29 (by decide) (hts (.fieldLink RX11 62 "NothingJudgeModel" "testMany" "[I") fwwsX11_comes_62) (fun _ h9 => h9) (fs_ne efs_504 (by decide) g_fs_29) dX11_comes_305 ?_
          refine lv_iconst (v := 0) hx hb dX11_comes_308 (by decide) ?_
          refine lv_aload_n hx hb dX11_comes_309 rfl (lv_at hl 1 rfl) ?_
          refine va_get (D := (dC, dI)) (ci := 10) (v := .ref m_tm) (C := RX11) (T := TX11) (N := 68) hx hb hts iwwsX11_comes_11 hown hK hP 0 rfl rfl 29 (by decide) (hts (.fieldLink RX11 62 "NothingJudgeModel" "testMany" "[I") fwwsX11_comes_62) (fun _ h9 => h9) (fs_ne efs_504 (by decide) g_fs_29) dX11_comes_310 ?_
          refine lv_iconst (v := 1) hx hb dX11_comes_313 (by decide) ?_
          refine va_iald hx hb hK hP 11 0 rfl rfl (by unfold vp_in; decide) dX11_comes_314 ?_
          refine lv_topi (fun y_517 ey_517 => ?_)
          refine va_iast hx hb hK hP hD hS 11 0 rfl rfl (by unfold vp_in; decide) dX11_comes_315 (fun H locs hP hD hS => ?_)
          obtain ⟨f_518, ef_518⟩ : ∃ z, z = upd f10 (0 : Int32).toNatClampNeg y_517 := ⟨_, rfl⟩
          have hP : va_P (dC, dI) vwCl [(h0, .inr (10, fs_504)), (m_rf, .inl (cI, 16, .inl f_505)), (m_pa, .inl (cI, 16, .inl f_506)), (m_pn, .inl (cI, 64, .inl f_507)), (m_fr, .inl (cI, 2, .inl f_509)), (m_ur, .inl (cI, 82, .inl f_510)), (m_up, .inl (cI, 82, .inl f_511)), (m_un, .inl (cI, 82, .inl f_512)), (m_um, .inl (cI, 2, .inl f_514)), (m_tr, .inl (cI, 50, .inl f_515)), (m_te, .inl (cI, 50, .inl f_516)), (m_tm, .inl (cI, 2, .inl f_518)), (m_ou, .inl (cI, 4, .inl f11))] H := by rw [ef_518]; exact hP
          have hD : va_D A [(h0, .inr (10, fs_504)), (m_rf, .inl (cI, 16, .inl f_505)), (m_pa, .inl (cI, 16, .inl f_506)), (m_pn, .inl (cI, 64, .inl f_507)), (m_fr, .inl (cI, 2, .inl f_509)), (m_ur, .inl (cI, 82, .inl f_510)), (m_up, .inl (cI, 82, .inl f_511)), (m_un, .inl (cI, 82, .inl f_512)), (m_um, .inl (cI, 2, .inl f_514)), (m_tr, .inl (cI, 50, .inl f_515)), (m_te, .inl (cI, 50, .inl f_516)), (m_tm, .inl (cI, 2, .inl f_518)), (m_ou, .inl (cI, 4, .inl f11))] := by rw [ef_518]; exact hD
          refine lv_aload_n hx hb dX11_comes_316 rfl (lv_at hl 1 rfl) ?_
          refine lv_aload_n hx hb dX11_comes_317 rfl (lv_at hl 1 rfl) ?_
          refine va_get (D := (dC, dI)) (ci := 10) (v := .ref m_fr) (C := RX11) (T := TX11) (N := 68) hx hb hts iwwsX11_comes_11 hown hK hP 0 rfl rfl 22 (by decide) (hts (.fieldLink RX11 41 "NothingJudgeModel" "firstRoutine" "[I") fwwsX11_comes_41) (fun _ h9 => h9) (fs_ne efs_504 (by decide) g_fs_22) dX11_comes_318 ?_
          refine lv_iconst (v := 0) hx hb dX11_comes_321 (by decide) ?_
          refine va_iald hx hb hK hP 4 0 rfl rfl (by unfold vp_in; decide) dX11_comes_322 ?_
          refine lv_topi (fun y_519 ey_519 => ?_)
          have hPc := hP.sub (ws' := [(h0, .inr (10, fs_504)), (m_ou, .inl (cI, 4, .inl f11))]) [0, 12] rfl
          have hDc := hD.sub (ws' := [(h0, .inr (10, fs_504)), (m_ou, .inl (cI, 4, .inl f11))]) [0, 12] (by decide) rfl
          have hFc := va_free (wc := [(h0, .inr (10, fs_504)), (m_ou, .inl (cI, 4, .inl f11))]) hD hS hA [0, 12] rfl
          refine va_callv (va_runV (As := [.int y_519]) (rest := []) ⟨hx, hb, hml, hown, hts⟩ (c_enters l dC dI cI cB cL cZ (h0) (m_ou) (y_519) (fs_504) (f11) H.size glfs_504 (fs_ne efs_504 (by decide) g_fs_40)) (cwV 1 hts gX11_comes_X11_enters rfl rfl rfl (by decide +kernel) ⟨Nat.le_of_ble_eq_true rfl, Nat.le_of_ble_eq_true rfl⟩) ⟨cP_fb, va_recv hK hPc (ci := 10) (q0 := 0) rfl rfl, fun U hU hW => cP_pre hPc hK hDc hN U hU hW⟩ rfl rfl hl.1 rfl (lv_room (Nat.le_of_ble_eq_true rfl)) dX11_comes_323 ⟨Nat.le_of_ble_eq_true rfl, Nat.le_of_ble_eq_true rfl⟩) hS (fun q _ h => hFc q h) hFc (fun u t H1 locs ht hvm hw hB hz1 hk1 hS => ?_)
          obtain ⟨hP1, hD1⟩ := hB
          rw [ht] at hP1
          obtain ⟨hP, hD⟩ := va_join (wr := [(m_rf, .inl (cI, 16, .inl f_505)), (m_pa, .inl (cI, 16, .inl f_506)), (m_pn, .inl (cI, 64, .inl f_507)), (m_fr, .inl (cI, 2, .inl f_509)), (m_ur, .inl (cI, 82, .inl f_510)), (m_up, .inl (cI, 82, .inl f_511)), (m_un, .inl (cI, 82, .inl f_512)), (m_um, .inl (cI, 2, .inl f_514)), (m_tr, .inl (cI, 50, .inl f_515)), (m_te, .inl (cI, 50, .inl f_516)), (m_tm, .inl (cI, 2, .inl f_518))]) (w1 := [(h0, .inr (10, (fs_504.set 39 (.int y_519))))]) hP hD [0, 12] [1, 2, 3, 4, 5, 6, 7, 8, 9, 10, 11] rfl rfl (by decide) (by decide) hk1 hFc hP1 hD1
          generalize H1 = H at hP hS ⊢
          obtain ⟨fs_521, efs_521⟩ : ∃ z : List Value, z = fs_504.set 39 (.int y_519) := ⟨_, rfl⟩
          have glfs_521 : fs_521.length = 68 := fs_len efs_521 glfs_504
          have hP : va_P (dC, dI) vwCl [(m_rf, .inl (cI, 16, .inl f_505)), (m_pa, .inl (cI, 16, .inl f_506)), (m_pn, .inl (cI, 64, .inl f_507)), (m_fr, .inl (cI, 2, .inl f_509)), (m_ur, .inl (cI, 82, .inl f_510)), (m_up, .inl (cI, 82, .inl f_511)), (m_un, .inl (cI, 82, .inl f_512)), (m_um, .inl (cI, 2, .inl f_514)), (m_tr, .inl (cI, 50, .inl f_515)), (m_te, .inl (cI, 50, .inl f_516)), (m_tm, .inl (cI, 2, .inl f_518)), (h0, .inr (10, fs_521))] H := by rw [efs_521]; exact hP
          have hD : va_D A [(m_rf, .inl (cI, 16, .inl f_505)), (m_pa, .inl (cI, 16, .inl f_506)), (m_pn, .inl (cI, 64, .inl f_507)), (m_fr, .inl (cI, 2, .inl f_509)), (m_ur, .inl (cI, 82, .inl f_510)), (m_up, .inl (cI, 82, .inl f_511)), (m_un, .inl (cI, 82, .inl f_512)), (m_um, .inl (cI, 2, .inl f_514)), (m_tr, .inl (cI, 50, .inl f_515)), (m_te, .inl (cI, 50, .inl f_516)), (m_tm, .inl (cI, 2, .inl f_518)), (h0, .inr (10, fs_521))] := by rw [efs_521]; exact hD
          subst efs_521
          subst efs_504
          have hP9 := hP.sub (ws' := [(h0, .inr (10, ((fs.set 18 (.int 0)).set 39 (.int y_519)))), (m_rf, .inl (cI, 16, .inl f_505))]) [11, 0] rfl
          have hD9 := hD.sub (ws' := [(h0, .inr (10, ((fs.set 18 (.int 0)).set 39 (.int y_519)))), (m_rf, .inl (cI, 16, .inl f_505))]) [11, 0] (by decide) rfl
          exact W.vret hx hb hr (fun t ht hW => ⟨⟨(), rfl, trivial, y_519, f_505, hJr, by rw [ht]; exact hP9, hD9⟩, hS.F ht⟩) hS.2.2 dX11_comes_326
        · intro k st9 hk hJ ih H locs hP hD hS ls hl
          obtain ⟨f_522, f_523⟩ := st9
          have hP : va_P (dC, dI) vwCl [(h0, .inr (10, fs_504)), (m_rf, .inl (cI, 16, .inl f_505)), (m_pa, .inl (cI, 16, .inl f_506)), (m_pn, .inl (cI, 64, .inl f_507)), (m_fr, .inl (cI, 2, .inl f_509)), (m_ur, .inl (cI, 82, .inl f_510)), (m_up, .inl (cI, 82, .inl f_511)), (m_un, .inl (cI, 82, .inl f_512)), (m_um, .inl (cI, 2, .inl f_514)), (m_tr, .inl (cI, 50, .inl f_522)), (m_te, .inl (cI, 50, .inl f_523)), (m_tm, .inl (cI, 2, .inl f10)), (m_ou, .inl (cI, 4, .inl f11))] H := hP
          have hD : va_D A [(h0, .inr (10, fs_504)), (m_rf, .inl (cI, 16, .inl f_505)), (m_pa, .inl (cI, 16, .inl f_506)), (m_pn, .inl (cI, 64, .inl f_507)), (m_fr, .inl (cI, 2, .inl f_509)), (m_ur, .inl (cI, 82, .inl f_510)), (m_up, .inl (cI, 82, .inl f_511)), (m_un, .inl (cI, 82, .inl f_512)), (m_um, .inl (cI, 2, .inl f_514)), (m_tr, .inl (cI, 50, .inl f_522)), (m_te, .inl (cI, 50, .inl f_523)), (m_tm, .inl (cI, 2, .inl f10)), (m_ou, .inl (cI, 4, .inl f11))] := hD
          have hl : lv_has ls 2 [(1, .int (nI k)), (0, .ref h0)] := hl
          refine lv_iload_n hx hb dX11_comes_262 rfl (lv_at hl 0 rfl) ?_
          refine lv_bipush (v := 25) hx hb dX11_comes_263 (by decide) ?_
          refine lv_icmp_ge (tgt := 304) hx hb dX11_comes_265 (by decide) (fun c9 => absurd c9 (ge_no (N := 25) (by decide) hk (by decide))) (fun _ => ?_)
          refine lv_aload_n hx hb dX11_comes_268 rfl (lv_at hl 1 rfl) ?_
          refine va_get (D := (dC, dI)) (ci := 10) (v := .ref m_tr) (C := RX11) (T := TX11) (N := 68) hx hb hts iwwsX11_comes_11 hown hK hP 0 rfl rfl 27 (by decide) (hts (.fieldLink RX11 56 "NothingJudgeModel" "testRoutine" "[I") fwwsX11_comes_56) (fun _ h9 => h9) (fs_ne efs_504 (by decide) g_fs_27) dX11_comes_269 ?_
          refine lv_iload_n hx hb dX11_comes_272 rfl (lv_at hl 0 rfl) ?_
          refine lv_aload_n hx hb dX11_comes_273 rfl (lv_at hl 1 rfl) ?_
          refine va_get (D := (dC, dI)) (ci := 10) (v := .ref m_tr) (C := RX11) (T := TX11) (N := 68) hx hb hts iwwsX11_comes_11 hown hK hP 0 rfl rfl 27 (by decide) (hts (.fieldLink RX11 56 "NothingJudgeModel" "testRoutine" "[I") fwwsX11_comes_56) (fun _ h9 => h9) (fs_ne efs_504 (by decide) g_fs_27) dX11_comes_274 ?_
          refine lv_bipush (v := 25) hx hb dX11_comes_277 (by decide) ?_
          refine lv_iload_n hx hb dX11_comes_279 rfl (lv_at hl 0 rfl) ?_
          refine lv_iadd hx hb dX11_comes_280 ?_
          refine lv_topi (fun v_524 ev_524 => ?_)
          refine va_iald hx hb hK hP 9 0 rfl rfl (in_add (c := 25) ev_524 (by omega) (by decide) (by decide)) dX11_comes_281 ?_
          refine lv_topi (fun y_525 ey_525 => ?_)
          refine va_iast hx hb hK hP hD hS 9 0 rfl rfl (vp_in_nI (by omega) (by decide)) dX11_comes_282 (fun H locs hP hD hS => ?_)
          obtain ⟨f_526, ef_526⟩ : ∃ z, z = upd f_522 (nI k).toNatClampNeg y_525 := ⟨_, rfl⟩
          have hP : va_P (dC, dI) vwCl [(h0, .inr (10, fs_504)), (m_rf, .inl (cI, 16, .inl f_505)), (m_pa, .inl (cI, 16, .inl f_506)), (m_pn, .inl (cI, 64, .inl f_507)), (m_fr, .inl (cI, 2, .inl f_509)), (m_ur, .inl (cI, 82, .inl f_510)), (m_up, .inl (cI, 82, .inl f_511)), (m_un, .inl (cI, 82, .inl f_512)), (m_um, .inl (cI, 2, .inl f_514)), (m_tr, .inl (cI, 50, .inl f_526)), (m_te, .inl (cI, 50, .inl f_523)), (m_tm, .inl (cI, 2, .inl f10)), (m_ou, .inl (cI, 4, .inl f11))] H := by rw [ef_526]; exact hP
          have hD : va_D A [(h0, .inr (10, fs_504)), (m_rf, .inl (cI, 16, .inl f_505)), (m_pa, .inl (cI, 16, .inl f_506)), (m_pn, .inl (cI, 64, .inl f_507)), (m_fr, .inl (cI, 2, .inl f_509)), (m_ur, .inl (cI, 82, .inl f_510)), (m_up, .inl (cI, 82, .inl f_511)), (m_un, .inl (cI, 82, .inl f_512)), (m_um, .inl (cI, 2, .inl f_514)), (m_tr, .inl (cI, 50, .inl f_526)), (m_te, .inl (cI, 50, .inl f_523)), (m_tm, .inl (cI, 2, .inl f10)), (m_ou, .inl (cI, 4, .inl f11))] := by rw [ef_526]; exact hD
          refine lv_aload_n hx hb dX11_comes_283 rfl (lv_at hl 1 rfl) ?_
          refine va_get (D := (dC, dI)) (ci := 10) (v := .ref m_te) (C := RX11) (T := TX11) (N := 68) hx hb hts iwwsX11_comes_11 hown hK hP 0 rfl rfl 28 (by decide) (hts (.fieldLink RX11 59 "NothingJudgeModel" "testPlace" "[I") fwwsX11_comes_59) (fun _ h9 => h9) (fs_ne efs_504 (by decide) g_fs_28) dX11_comes_284 ?_
          refine lv_iload_n hx hb dX11_comes_287 rfl (lv_at hl 0 rfl) ?_
          refine lv_aload_n hx hb dX11_comes_288 rfl (lv_at hl 1 rfl) ?_
          refine va_get (D := (dC, dI)) (ci := 10) (v := .ref m_te) (C := RX11) (T := TX11) (N := 68) hx hb hts iwwsX11_comes_11 hown hK hP 0 rfl rfl 28 (by decide) (hts (.fieldLink RX11 59 "NothingJudgeModel" "testPlace" "[I") fwwsX11_comes_59) (fun _ h9 => h9) (fs_ne efs_504 (by decide) g_fs_28) dX11_comes_289 ?_
          refine lv_bipush (v := 25) hx hb dX11_comes_292 (by decide) ?_
          refine lv_iload_n hx hb dX11_comes_294 rfl (lv_at hl 0 rfl) ?_
          refine lv_iadd hx hb dX11_comes_295 ?_
          refine lv_topi (fun v_527 ev_527 => ?_)
          refine va_iald hx hb hK hP 10 0 rfl rfl (in_add (c := 25) ev_527 (by omega) (by decide) (by decide)) dX11_comes_296 ?_
          refine lv_topi (fun y_528 ey_528 => ?_)
          refine va_iast hx hb hK hP hD hS 10 0 rfl rfl (vp_in_nI (by omega) (by decide)) dX11_comes_297 (fun H locs hP hD hS => ?_)
          obtain ⟨f_529, ef_529⟩ : ∃ z, z = upd f_523 (nI k).toNatClampNeg y_528 := ⟨_, rfl⟩
          have hP : va_P (dC, dI) vwCl [(h0, .inr (10, fs_504)), (m_rf, .inl (cI, 16, .inl f_505)), (m_pa, .inl (cI, 16, .inl f_506)), (m_pn, .inl (cI, 64, .inl f_507)), (m_fr, .inl (cI, 2, .inl f_509)), (m_ur, .inl (cI, 82, .inl f_510)), (m_up, .inl (cI, 82, .inl f_511)), (m_un, .inl (cI, 82, .inl f_512)), (m_um, .inl (cI, 2, .inl f_514)), (m_tr, .inl (cI, 50, .inl f_526)), (m_te, .inl (cI, 50, .inl f_529)), (m_tm, .inl (cI, 2, .inl f10)), (m_ou, .inl (cI, 4, .inl f11))] H := by rw [ef_529]; exact hP
          have hD : va_D A [(h0, .inr (10, fs_504)), (m_rf, .inl (cI, 16, .inl f_505)), (m_pa, .inl (cI, 16, .inl f_506)), (m_pn, .inl (cI, 64, .inl f_507)), (m_fr, .inl (cI, 2, .inl f_509)), (m_ur, .inl (cI, 82, .inl f_510)), (m_up, .inl (cI, 82, .inl f_511)), (m_un, .inl (cI, 82, .inl f_512)), (m_um, .inl (cI, 2, .inl f_514)), (m_tr, .inl (cI, 50, .inl f_526)), (m_te, .inl (cI, 50, .inl f_529)), (m_tm, .inl (cI, 2, .inl f10)), (m_ou, .inl (cI, 4, .inl f11))] := by rw [ef_529]; exact hD
          obtain ⟨x_530, ex_530⟩ : ∃ z : Int32, z = (nI k) + 1 := ⟨_, rfl⟩
          refine lv_iinc (v := x_530) (lv' := [(1, .int x_530), (0, .ref h0)]) hx hb dX11_comes_298 hl (k := 0) rfl (by rw [ex_530]; rfl) (by decide) rfl (fun ls hl => ?_)
          refine lv_goto (tgt := 262) hx hb dX11_comes_301 (by decide) ?_
          have hl := lv_sub hl (l' := [(1, .int x_530), (0, .ref h0)]) [0, 1] rfl
          rw [ex_530, nI_1 k] at hl
          exact ih (f_526, f_529) trivial H locs hP hD hS ls hl
      · intro k st9 hk hJ ih H locs hP hD hS ls hl
        obtain ⟨f_531, f_532, f_533⟩ := st9
        have hP : va_P (dC, dI) vwCl [(h0, .inr (10, fs_504)), (m_rf, .inl (cI, 16, .inl f_505)), (m_pa, .inl (cI, 16, .inl f_506)), (m_pn, .inl (cI, 64, .inl f_507)), (m_fr, .inl (cI, 2, .inl f_509)), (m_ur, .inl (cI, 82, .inl f_531)), (m_up, .inl (cI, 82, .inl f_532)), (m_un, .inl (cI, 82, .inl f_533)), (m_um, .inl (cI, 2, .inl f7)), (m_tr, .inl (cI, 50, .inl f8)), (m_te, .inl (cI, 50, .inl f9)), (m_tm, .inl (cI, 2, .inl f10)), (m_ou, .inl (cI, 4, .inl f11))] H := hP
        have hD : va_D A [(h0, .inr (10, fs_504)), (m_rf, .inl (cI, 16, .inl f_505)), (m_pa, .inl (cI, 16, .inl f_506)), (m_pn, .inl (cI, 64, .inl f_507)), (m_fr, .inl (cI, 2, .inl f_509)), (m_ur, .inl (cI, 82, .inl f_531)), (m_up, .inl (cI, 82, .inl f_532)), (m_un, .inl (cI, 82, .inl f_533)), (m_um, .inl (cI, 2, .inl f7)), (m_tr, .inl (cI, 50, .inl f8)), (m_te, .inl (cI, 50, .inl f9)), (m_tm, .inl (cI, 2, .inl f10)), (m_ou, .inl (cI, 4, .inl f11))] := hD
        have hl : lv_has ls 2 [(1, .int (nI k)), (0, .ref h0)] := hl
        refine lv_iload_n hx hb dX11_comes_191 rfl (lv_at hl 0 rfl) ?_
        refine lv_bipush (v := 41) hx hb dX11_comes_192 (by decide) ?_
        refine lv_icmp_ge (tgt := 248) hx hb dX11_comes_194 (by decide) (fun c9 => absurd c9 (ge_no (N := 41) (by decide) hk (by decide))) (fun _ => ?_)
        refine lv_aload_n hx hb dX11_comes_197 rfl (lv_at hl 1 rfl) ?_
        refine va_get (D := (dC, dI)) (ci := 10) (v := .ref m_ur) (C := RX11) (T := TX11) (N := 68) hx hb hts iwwsX11_comes_11 hown hK hP 0 rfl rfl 23 (by decide) (hts (.fieldLink RX11 44 "NothingJudgeModel" "useRoutine" "[I") fwwsX11_comes_44) (fun _ h9 => h9) (fs_ne efs_504 (by decide) g_fs_23) dX11_comes_198 ?_
        refine lv_iload_n hx hb dX11_comes_201 rfl (lv_at hl 0 rfl) ?_
        refine lv_aload_n hx hb dX11_comes_202 rfl (lv_at hl 1 rfl) ?_
        refine va_get (D := (dC, dI)) (ci := 10) (v := .ref m_ur) (C := RX11) (T := TX11) (N := 68) hx hb hts iwwsX11_comes_11 hown hK hP 0 rfl rfl 23 (by decide) (hts (.fieldLink RX11 44 "NothingJudgeModel" "useRoutine" "[I") fwwsX11_comes_44) (fun _ h9 => h9) (fs_ne efs_504 (by decide) g_fs_23) dX11_comes_203 ?_
        refine lv_bipush (v := 41) hx hb dX11_comes_206 (by decide) ?_
        refine lv_iload_n hx hb dX11_comes_208 rfl (lv_at hl 0 rfl) ?_
        refine lv_iadd hx hb dX11_comes_209 ?_
        refine lv_topi (fun v_534 ev_534 => ?_)
        refine va_iald hx hb hK hP 5 0 rfl rfl (in_add (c := 41) ev_534 (by omega) (by decide) (by decide)) dX11_comes_210 ?_
        refine lv_topi (fun y_535 ey_535 => ?_)
        refine va_iast hx hb hK hP hD hS 5 0 rfl rfl (vp_in_nI (by omega) (by decide)) dX11_comes_211 (fun H locs hP hD hS => ?_)
        obtain ⟨f_536, ef_536⟩ : ∃ z, z = upd f_531 (nI k).toNatClampNeg y_535 := ⟨_, rfl⟩
        have hP : va_P (dC, dI) vwCl [(h0, .inr (10, fs_504)), (m_rf, .inl (cI, 16, .inl f_505)), (m_pa, .inl (cI, 16, .inl f_506)), (m_pn, .inl (cI, 64, .inl f_507)), (m_fr, .inl (cI, 2, .inl f_509)), (m_ur, .inl (cI, 82, .inl f_536)), (m_up, .inl (cI, 82, .inl f_532)), (m_un, .inl (cI, 82, .inl f_533)), (m_um, .inl (cI, 2, .inl f7)), (m_tr, .inl (cI, 50, .inl f8)), (m_te, .inl (cI, 50, .inl f9)), (m_tm, .inl (cI, 2, .inl f10)), (m_ou, .inl (cI, 4, .inl f11))] H := by rw [ef_536]; exact hP
        have hD : va_D A [(h0, .inr (10, fs_504)), (m_rf, .inl (cI, 16, .inl f_505)), (m_pa, .inl (cI, 16, .inl f_506)), (m_pn, .inl (cI, 64, .inl f_507)), (m_fr, .inl (cI, 2, .inl f_509)), (m_ur, .inl (cI, 82, .inl f_536)), (m_up, .inl (cI, 82, .inl f_532)), (m_un, .inl (cI, 82, .inl f_533)), (m_um, .inl (cI, 2, .inl f7)), (m_tr, .inl (cI, 50, .inl f8)), (m_te, .inl (cI, 50, .inl f9)), (m_tm, .inl (cI, 2, .inl f10)), (m_ou, .inl (cI, 4, .inl f11))] := by rw [ef_536]; exact hD
        refine lv_aload_n hx hb dX11_comes_212 rfl (lv_at hl 1 rfl) ?_
        refine va_get (D := (dC, dI)) (ci := 10) (v := .ref m_up) (C := RX11) (T := TX11) (N := 68) hx hb hts iwwsX11_comes_11 hown hK hP 0 rfl rfl 24 (by decide) (hts (.fieldLink RX11 47 "NothingJudgeModel" "usePlace" "[I") fwwsX11_comes_47) (fun _ h9 => h9) (fs_ne efs_504 (by decide) g_fs_24) dX11_comes_213 ?_
        refine lv_iload_n hx hb dX11_comes_216 rfl (lv_at hl 0 rfl) ?_
        refine lv_aload_n hx hb dX11_comes_217 rfl (lv_at hl 1 rfl) ?_
        refine va_get (D := (dC, dI)) (ci := 10) (v := .ref m_up) (C := RX11) (T := TX11) (N := 68) hx hb hts iwwsX11_comes_11 hown hK hP 0 rfl rfl 24 (by decide) (hts (.fieldLink RX11 47 "NothingJudgeModel" "usePlace" "[I") fwwsX11_comes_47) (fun _ h9 => h9) (fs_ne efs_504 (by decide) g_fs_24) dX11_comes_218 ?_
        refine lv_bipush (v := 41) hx hb dX11_comes_221 (by decide) ?_
        refine lv_iload_n hx hb dX11_comes_223 rfl (lv_at hl 0 rfl) ?_
        refine lv_iadd hx hb dX11_comes_224 ?_
        refine lv_topi (fun v_537 ev_537 => ?_)
        refine va_iald hx hb hK hP 6 0 rfl rfl (in_add (c := 41) ev_537 (by omega) (by decide) (by decide)) dX11_comes_225 ?_
        refine lv_topi (fun y_538 ey_538 => ?_)
        refine va_iast hx hb hK hP hD hS 6 0 rfl rfl (vp_in_nI (by omega) (by decide)) dX11_comes_226 (fun H locs hP hD hS => ?_)
        obtain ⟨f_539, ef_539⟩ : ∃ z, z = upd f_532 (nI k).toNatClampNeg y_538 := ⟨_, rfl⟩
        have hP : va_P (dC, dI) vwCl [(h0, .inr (10, fs_504)), (m_rf, .inl (cI, 16, .inl f_505)), (m_pa, .inl (cI, 16, .inl f_506)), (m_pn, .inl (cI, 64, .inl f_507)), (m_fr, .inl (cI, 2, .inl f_509)), (m_ur, .inl (cI, 82, .inl f_536)), (m_up, .inl (cI, 82, .inl f_539)), (m_un, .inl (cI, 82, .inl f_533)), (m_um, .inl (cI, 2, .inl f7)), (m_tr, .inl (cI, 50, .inl f8)), (m_te, .inl (cI, 50, .inl f9)), (m_tm, .inl (cI, 2, .inl f10)), (m_ou, .inl (cI, 4, .inl f11))] H := by rw [ef_539]; exact hP
        have hD : va_D A [(h0, .inr (10, fs_504)), (m_rf, .inl (cI, 16, .inl f_505)), (m_pa, .inl (cI, 16, .inl f_506)), (m_pn, .inl (cI, 64, .inl f_507)), (m_fr, .inl (cI, 2, .inl f_509)), (m_ur, .inl (cI, 82, .inl f_536)), (m_up, .inl (cI, 82, .inl f_539)), (m_un, .inl (cI, 82, .inl f_533)), (m_um, .inl (cI, 2, .inl f7)), (m_tr, .inl (cI, 50, .inl f8)), (m_te, .inl (cI, 50, .inl f9)), (m_tm, .inl (cI, 2, .inl f10)), (m_ou, .inl (cI, 4, .inl f11))] := by rw [ef_539]; exact hD
        refine lv_aload_n hx hb dX11_comes_227 rfl (lv_at hl 1 rfl) ?_
        refine va_get (D := (dC, dI)) (ci := 10) (v := .ref m_un) (C := RX11) (T := TX11) (N := 68) hx hb hts iwwsX11_comes_11 hown hK hP 0 rfl rfl 25 (by decide) (hts (.fieldLink RX11 50 "NothingJudgeModel" "useName" "[I") fwwsX11_comes_50) (fun _ h9 => h9) (fs_ne efs_504 (by decide) g_fs_25) dX11_comes_228 ?_
        refine lv_iload_n hx hb dX11_comes_231 rfl (lv_at hl 0 rfl) ?_
        refine lv_aload_n hx hb dX11_comes_232 rfl (lv_at hl 1 rfl) ?_
        refine va_get (D := (dC, dI)) (ci := 10) (v := .ref m_un) (C := RX11) (T := TX11) (N := 68) hx hb hts iwwsX11_comes_11 hown hK hP 0 rfl rfl 25 (by decide) (hts (.fieldLink RX11 50 "NothingJudgeModel" "useName" "[I") fwwsX11_comes_50) (fun _ h9 => h9) (fs_ne efs_504 (by decide) g_fs_25) dX11_comes_233 ?_
        refine lv_bipush (v := 41) hx hb dX11_comes_236 (by decide) ?_
        refine lv_iload_n hx hb dX11_comes_238 rfl (lv_at hl 0 rfl) ?_
        refine lv_iadd hx hb dX11_comes_239 ?_
        refine lv_topi (fun v_540 ev_540 => ?_)
        refine va_iald hx hb hK hP 7 0 rfl rfl (in_add (c := 41) ev_540 (by omega) (by decide) (by decide)) dX11_comes_240 ?_
        refine lv_topi (fun y_541 ey_541 => ?_)
        refine va_iast hx hb hK hP hD hS 7 0 rfl rfl (vp_in_nI (by omega) (by decide)) dX11_comes_241 (fun H locs hP hD hS => ?_)
        obtain ⟨f_542, ef_542⟩ : ∃ z, z = upd f_533 (nI k).toNatClampNeg y_541 := ⟨_, rfl⟩
        have hP : va_P (dC, dI) vwCl [(h0, .inr (10, fs_504)), (m_rf, .inl (cI, 16, .inl f_505)), (m_pa, .inl (cI, 16, .inl f_506)), (m_pn, .inl (cI, 64, .inl f_507)), (m_fr, .inl (cI, 2, .inl f_509)), (m_ur, .inl (cI, 82, .inl f_536)), (m_up, .inl (cI, 82, .inl f_539)), (m_un, .inl (cI, 82, .inl f_542)), (m_um, .inl (cI, 2, .inl f7)), (m_tr, .inl (cI, 50, .inl f8)), (m_te, .inl (cI, 50, .inl f9)), (m_tm, .inl (cI, 2, .inl f10)), (m_ou, .inl (cI, 4, .inl f11))] H := by rw [ef_542]; exact hP
        have hD : va_D A [(h0, .inr (10, fs_504)), (m_rf, .inl (cI, 16, .inl f_505)), (m_pa, .inl (cI, 16, .inl f_506)), (m_pn, .inl (cI, 64, .inl f_507)), (m_fr, .inl (cI, 2, .inl f_509)), (m_ur, .inl (cI, 82, .inl f_536)), (m_up, .inl (cI, 82, .inl f_539)), (m_un, .inl (cI, 82, .inl f_542)), (m_um, .inl (cI, 2, .inl f7)), (m_tr, .inl (cI, 50, .inl f8)), (m_te, .inl (cI, 50, .inl f9)), (m_tm, .inl (cI, 2, .inl f10)), (m_ou, .inl (cI, 4, .inl f11))] := by rw [ef_542]; exact hD
        obtain ⟨x_543, ex_543⟩ : ∃ z : Int32, z = (nI k) + 1 := ⟨_, rfl⟩
        refine lv_iinc (v := x_543) (lv' := [(1, .int x_543), (0, .ref h0)]) hx hb dX11_comes_242 hl (k := 0) rfl (by rw [ex_543]; rfl) (by decide) rfl (fun ls hl => ?_)
        refine lv_goto (tgt := 191) hx hb dX11_comes_245 (by decide) ?_
        have hl := lv_sub hl (l' := [(1, .int x_543), (0, .ref h0)]) [0, 1] rfl
        rw [ex_543, nI_1 k] at hl
        exact ih (f_536, f_539, f_542) trivial H locs hP hD hS ls hl
    · intro k f_544 hk hJ ih H locs hP hD hS ls hl
      have hP : va_P (dC, dI) vwCl [(h0, .inr (10, fs_504)), (m_rf, .inl (cI, 16, .inl f_505)), (m_pa, .inl (cI, 16, .inl f_506)), (m_pn, .inl (cI, 64, .inl f_544)), (m_fr, .inl (cI, 2, .inl f3)), (m_ur, .inl (cI, 82, .inl f4)), (m_up, .inl (cI, 82, .inl f5)), (m_un, .inl (cI, 82, .inl f6)), (m_um, .inl (cI, 2, .inl f7)), (m_tr, .inl (cI, 50, .inl f8)), (m_te, .inl (cI, 50, .inl f9)), (m_tm, .inl (cI, 2, .inl f10)), (m_ou, .inl (cI, 4, .inl f11))] H := hP
      have hD : va_D A [(h0, .inr (10, fs_504)), (m_rf, .inl (cI, 16, .inl f_505)), (m_pa, .inl (cI, 16, .inl f_506)), (m_pn, .inl (cI, 64, .inl f_544)), (m_fr, .inl (cI, 2, .inl f3)), (m_ur, .inl (cI, 82, .inl f4)), (m_up, .inl (cI, 82, .inl f5)), (m_un, .inl (cI, 82, .inl f6)), (m_um, .inl (cI, 2, .inl f7)), (m_tr, .inl (cI, 50, .inl f8)), (m_te, .inl (cI, 50, .inl f9)), (m_tm, .inl (cI, 2, .inl f10)), (m_ou, .inl (cI, 4, .inl f11))] := hD
      have hl : lv_has ls 2 [(1, .int (nI k)), (0, .ref h0)] := hl
      refine lv_iload_n hx hb dX11_comes_150 rfl (lv_at hl 0 rfl) ?_
      refine lv_bipush (v := 32) hx hb dX11_comes_151 (by decide) ?_
      refine lv_icmp_ge (tgt := 177) hx hb dX11_comes_153 (by decide) (fun c9 => absurd c9 (ge_no (N := 32) (by decide) hk (by decide))) (fun _ => ?_)
      refine lv_aload_n hx hb dX11_comes_156 rfl (lv_at hl 1 rfl) ?_
      refine va_get (D := (dC, dI)) (ci := 10) (v := .ref m_pn) (C := RX11) (T := TX11) (N := 68) hx hb hts iwwsX11_comes_11 hown hK hP 0 rfl rfl 21 (by decide) (hts (.fieldLink RX11 38 "NothingJudgeModel" "paramNames" "[I") fwwsX11_comes_38) (fun _ h9 => h9) (fs_ne efs_504 (by decide) g_fs_21) dX11_comes_157 ?_
      refine lv_iload_n hx hb dX11_comes_160 rfl (lv_at hl 0 rfl) ?_
      refine lv_aload_n hx hb dX11_comes_161 rfl (lv_at hl 1 rfl) ?_
      refine va_get (D := (dC, dI)) (ci := 10) (v := .ref m_pn) (C := RX11) (T := TX11) (N := 68) hx hb hts iwwsX11_comes_11 hown hK hP 0 rfl rfl 21 (by decide) (hts (.fieldLink RX11 38 "NothingJudgeModel" "paramNames" "[I") fwwsX11_comes_38) (fun _ h9 => h9) (fs_ne efs_504 (by decide) g_fs_21) dX11_comes_162 ?_
      refine lv_bipush (v := 32) hx hb dX11_comes_165 (by decide) ?_
      refine lv_iload_n hx hb dX11_comes_167 rfl (lv_at hl 0 rfl) ?_
      refine lv_iadd hx hb dX11_comes_168 ?_
      refine lv_topi (fun v_545 ev_545 => ?_)
      refine va_iald hx hb hK hP 3 0 rfl rfl (in_add (c := 32) ev_545 (by omega) (by decide) (by decide)) dX11_comes_169 ?_
      refine lv_topi (fun y_546 ey_546 => ?_)
      refine va_iast hx hb hK hP hD hS 3 0 rfl rfl (vp_in_nI (by omega) (by decide)) dX11_comes_170 (fun H locs hP hD hS => ?_)
      obtain ⟨f_547, ef_547⟩ : ∃ z, z = upd f_544 (nI k).toNatClampNeg y_546 := ⟨_, rfl⟩
      have hP : va_P (dC, dI) vwCl [(h0, .inr (10, fs_504)), (m_rf, .inl (cI, 16, .inl f_505)), (m_pa, .inl (cI, 16, .inl f_506)), (m_pn, .inl (cI, 64, .inl f_547)), (m_fr, .inl (cI, 2, .inl f3)), (m_ur, .inl (cI, 82, .inl f4)), (m_up, .inl (cI, 82, .inl f5)), (m_un, .inl (cI, 82, .inl f6)), (m_um, .inl (cI, 2, .inl f7)), (m_tr, .inl (cI, 50, .inl f8)), (m_te, .inl (cI, 50, .inl f9)), (m_tm, .inl (cI, 2, .inl f10)), (m_ou, .inl (cI, 4, .inl f11))] H := by rw [ef_547]; exact hP
      have hD : va_D A [(h0, .inr (10, fs_504)), (m_rf, .inl (cI, 16, .inl f_505)), (m_pa, .inl (cI, 16, .inl f_506)), (m_pn, .inl (cI, 64, .inl f_547)), (m_fr, .inl (cI, 2, .inl f3)), (m_ur, .inl (cI, 82, .inl f4)), (m_up, .inl (cI, 82, .inl f5)), (m_un, .inl (cI, 82, .inl f6)), (m_um, .inl (cI, 2, .inl f7)), (m_tr, .inl (cI, 50, .inl f8)), (m_te, .inl (cI, 50, .inl f9)), (m_tm, .inl (cI, 2, .inl f10)), (m_ou, .inl (cI, 4, .inl f11))] := by rw [ef_547]; exact hD
      obtain ⟨x_548, ex_548⟩ : ∃ z : Int32, z = (nI k) + 1 := ⟨_, rfl⟩
      refine lv_iinc (v := x_548) (lv' := [(1, .int x_548), (0, .ref h0)]) hx hb dX11_comes_171 hl (k := 0) rfl (by rw [ex_548]; rfl) (by decide) rfl (fun ls hl => ?_)
      refine lv_goto (tgt := 150) hx hb dX11_comes_174 (by decide) ?_
      have hl := lv_sub hl (l' := [(1, .int x_548), (0, .ref h0)]) [0, 1] rfl
      rw [ex_548, nI_1 k] at hl
      exact ih (f_547) trivial H locs hP hD hS ls hl
  · intro k st9 hk hJ ih H locs hP hD hS ls hl
    obtain ⟨f_549, f_550⟩ := st9
    have hP : va_P (dC, dI) vwCl [(h0, .inr (10, fs_504)), (m_rf, .inl (cI, 16, .inl f_549)), (m_pa, .inl (cI, 16, .inl f_550)), (m_pn, .inl (cI, 64, .inl f2)), (m_fr, .inl (cI, 2, .inl f3)), (m_ur, .inl (cI, 82, .inl f4)), (m_up, .inl (cI, 82, .inl f5)), (m_un, .inl (cI, 82, .inl f6)), (m_um, .inl (cI, 2, .inl f7)), (m_tr, .inl (cI, 50, .inl f8)), (m_te, .inl (cI, 50, .inl f9)), (m_tm, .inl (cI, 2, .inl f10)), (m_ou, .inl (cI, 4, .inl f11))] H := hP
    have hD : va_D A [(h0, .inr (10, fs_504)), (m_rf, .inl (cI, 16, .inl f_549)), (m_pa, .inl (cI, 16, .inl f_550)), (m_pn, .inl (cI, 64, .inl f2)), (m_fr, .inl (cI, 2, .inl f3)), (m_ur, .inl (cI, 82, .inl f4)), (m_up, .inl (cI, 82, .inl f5)), (m_un, .inl (cI, 82, .inl f6)), (m_um, .inl (cI, 2, .inl f7)), (m_tr, .inl (cI, 50, .inl f8)), (m_te, .inl (cI, 50, .inl f9)), (m_tm, .inl (cI, 2, .inl f10)), (m_ou, .inl (cI, 4, .inl f11))] := hD
    have hl : lv_has ls 2 [(1, .int (nI k)), (0, .ref h0)] := hl
    refine lv_iload_n hx hb dX11_comes_106 rfl (lv_at hl 0 rfl) ?_
    refine lv_bipush (v := 8) hx hb dX11_comes_107 (by decide) ?_
    refine lv_icmp_ge (tgt := 148) hx hb dX11_comes_109 (by decide) (fun c9 => absurd c9 (ge_no (N := 8) (by decide) hk (by decide))) (fun _ => ?_)
    refine lv_aload_n hx hb dX11_comes_112 rfl (lv_at hl 1 rfl) ?_
    refine va_get (D := (dC, dI)) (ci := 10) (v := .ref m_rf) (C := RX11) (T := TX11) (N := 68) hx hb hts iwwsX11_comes_11 hown hK hP 0 rfl rfl 19 (by decide) (hts (.fieldLink RX11 32 "NothingJudgeModel" "routineFrom" "[I") fwwsX11_comes_32) (fun _ h9 => h9) (fs_ne efs_504 (by decide) g_fs_19) dX11_comes_113 ?_
    refine lv_iload_n hx hb dX11_comes_116 rfl (lv_at hl 0 rfl) ?_
    refine lv_aload_n hx hb dX11_comes_117 rfl (lv_at hl 1 rfl) ?_
    refine va_get (D := (dC, dI)) (ci := 10) (v := .ref m_rf) (C := RX11) (T := TX11) (N := 68) hx hb hts iwwsX11_comes_11 hown hK hP 0 rfl rfl 19 (by decide) (hts (.fieldLink RX11 32 "NothingJudgeModel" "routineFrom" "[I") fwwsX11_comes_32) (fun _ h9 => h9) (fs_ne efs_504 (by decide) g_fs_19) dX11_comes_118 ?_
    refine lv_bipush (v := 8) hx hb dX11_comes_121 (by decide) ?_
    refine lv_iload_n hx hb dX11_comes_123 rfl (lv_at hl 0 rfl) ?_
    refine lv_iadd hx hb dX11_comes_124 ?_
    refine lv_topi (fun v_551 ev_551 => ?_)
    refine va_iald hx hb hK hP 1 0 rfl rfl (in_add (c := 8) ev_551 (by omega) (by decide) (by decide)) dX11_comes_125 ?_
    refine lv_topi (fun y_552 ey_552 => ?_)
    obtain rfl : y_552 = (-1) := ey_552.trans (hJ _ (cl_add (c := 8) ev_551 (by omega) (by decide)))
    refine va_iast hx hb hK hP hD hS 1 0 rfl rfl (vp_in_nI (by omega) (by decide)) dX11_comes_126 (fun H locs hP hD hS => ?_)
    obtain ⟨f_553, ef_553⟩ : ∃ z, z = upd f_549 (nI k).toNatClampNeg (-1) := ⟨_, rfl⟩
    have hP : va_P (dC, dI) vwCl [(h0, .inr (10, fs_504)), (m_rf, .inl (cI, 16, .inl f_553)), (m_pa, .inl (cI, 16, .inl f_550)), (m_pn, .inl (cI, 64, .inl f2)), (m_fr, .inl (cI, 2, .inl f3)), (m_ur, .inl (cI, 82, .inl f4)), (m_up, .inl (cI, 82, .inl f5)), (m_un, .inl (cI, 82, .inl f6)), (m_um, .inl (cI, 2, .inl f7)), (m_tr, .inl (cI, 50, .inl f8)), (m_te, .inl (cI, 50, .inl f9)), (m_tm, .inl (cI, 2, .inl f10)), (m_ou, .inl (cI, 4, .inl f11))] H := by rw [ef_553]; exact hP
    have hD : va_D A [(h0, .inr (10, fs_504)), (m_rf, .inl (cI, 16, .inl f_553)), (m_pa, .inl (cI, 16, .inl f_550)), (m_pn, .inl (cI, 64, .inl f2)), (m_fr, .inl (cI, 2, .inl f3)), (m_ur, .inl (cI, 82, .inl f4)), (m_up, .inl (cI, 82, .inl f5)), (m_un, .inl (cI, 82, .inl f6)), (m_um, .inl (cI, 2, .inl f7)), (m_tr, .inl (cI, 50, .inl f8)), (m_te, .inl (cI, 50, .inl f9)), (m_tm, .inl (cI, 2, .inl f10)), (m_ou, .inl (cI, 4, .inl f11))] := by rw [ef_553]; exact hD
    refine lv_aload_n hx hb dX11_comes_127 rfl (lv_at hl 1 rfl) ?_
    refine va_get (D := (dC, dI)) (ci := 10) (v := .ref m_pa) (C := RX11) (T := TX11) (N := 68) hx hb hts iwwsX11_comes_11 hown hK hP 0 rfl rfl 20 (by decide) (hts (.fieldLink RX11 35 "NothingJudgeModel" "params" "[I") fwwsX11_comes_35) (fun _ h9 => h9) (fs_ne efs_504 (by decide) g_fs_20) dX11_comes_128 ?_
    refine lv_iload_n hx hb dX11_comes_131 rfl (lv_at hl 0 rfl) ?_
    refine lv_aload_n hx hb dX11_comes_132 rfl (lv_at hl 1 rfl) ?_
    refine va_get (D := (dC, dI)) (ci := 10) (v := .ref m_pa) (C := RX11) (T := TX11) (N := 68) hx hb hts iwwsX11_comes_11 hown hK hP 0 rfl rfl 20 (by decide) (hts (.fieldLink RX11 35 "NothingJudgeModel" "params" "[I") fwwsX11_comes_35) (fun _ h9 => h9) (fs_ne efs_504 (by decide) g_fs_20) dX11_comes_133 ?_
    refine lv_bipush (v := 8) hx hb dX11_comes_136 (by decide) ?_
    refine lv_iload_n hx hb dX11_comes_138 rfl (lv_at hl 0 rfl) ?_
    refine lv_iadd hx hb dX11_comes_139 ?_
    refine lv_topi (fun v_554 ev_554 => ?_)
    refine va_iald hx hb hK hP 2 0 rfl rfl (in_add (c := 8) ev_554 (by omega) (by decide) (by decide)) dX11_comes_140 ?_
    refine lv_topi (fun y_555 ey_555 => ?_)
    refine va_iast hx hb hK hP hD hS 2 0 rfl rfl (vp_in_nI (by omega) (by decide)) dX11_comes_141 (fun H locs hP hD hS => ?_)
    obtain ⟨f_556, ef_556⟩ : ∃ z, z = upd f_550 (nI k).toNatClampNeg y_555 := ⟨_, rfl⟩
    have hP : va_P (dC, dI) vwCl [(h0, .inr (10, fs_504)), (m_rf, .inl (cI, 16, .inl f_553)), (m_pa, .inl (cI, 16, .inl f_556)), (m_pn, .inl (cI, 64, .inl f2)), (m_fr, .inl (cI, 2, .inl f3)), (m_ur, .inl (cI, 82, .inl f4)), (m_up, .inl (cI, 82, .inl f5)), (m_un, .inl (cI, 82, .inl f6)), (m_um, .inl (cI, 2, .inl f7)), (m_tr, .inl (cI, 50, .inl f8)), (m_te, .inl (cI, 50, .inl f9)), (m_tm, .inl (cI, 2, .inl f10)), (m_ou, .inl (cI, 4, .inl f11))] H := by rw [ef_556]; exact hP
    have hD : va_D A [(h0, .inr (10, fs_504)), (m_rf, .inl (cI, 16, .inl f_553)), (m_pa, .inl (cI, 16, .inl f_556)), (m_pn, .inl (cI, 64, .inl f2)), (m_fr, .inl (cI, 2, .inl f3)), (m_ur, .inl (cI, 82, .inl f4)), (m_up, .inl (cI, 82, .inl f5)), (m_un, .inl (cI, 82, .inl f6)), (m_um, .inl (cI, 2, .inl f7)), (m_tr, .inl (cI, 50, .inl f8)), (m_te, .inl (cI, 50, .inl f9)), (m_tm, .inl (cI, 2, .inl f10)), (m_ou, .inl (cI, 4, .inl f11))] := by rw [ef_556]; exact hD
    obtain ⟨x_557, ex_557⟩ : ∃ z : Int32, z = (nI k) + 1 := ⟨_, rfl⟩
    refine lv_iinc (v := x_557) (lv' := [(1, .int x_557), (0, .ref h0)]) hx hb dX11_comes_142 hl (k := 0) rfl (by rw [ex_557]; rfl) (by decide) rfl (fun ls hl => ?_)
    refine lv_goto (tgt := 106) hx hb dX11_comes_145 (by decide) ?_
    have hl := lv_sub hl (l' := [(1, .int x_557), (0, .ref h0)]) [0, 1] rfl
    rw [ex_557, nI_1 k] at hl
    exact ih (f_553, f_556) (up_keep ef_553 hJ) H locs hP hD hS ls hl
