set_option maxHeartbeats 4000000 in
set_option maxRecDepth 100000 in
theorem m_text0 (l : Launch) (dC : Nat → ClassId) (dI : Nat → Nat → Nat) (cI cB cL cZ : ClassId) (h0 : Nat) (m_rf : Nat) (m_pa : Nat) (m_pn : Nat) (m_fr : Nat) (m_ur : Nat) (m_up : Nat) (m_un : Nat) (m_um : Nat) (m_tr : Nat) (m_te : Nat) (m_tm : Nat) (m_ou : Nat) (fs : List Value) (frf : Nat → Int32) (f1 : Nat → Int32) (f2 : Nat → Int32) (f3 : Nat → Int32) (f4 : Nat → Int32) (f5 : Nat → Int32) (f6 : Nat → Int32) (f7 : Nat → Int32) (f8 : Nat → Int32) (f9 : Nat → Int32) (f10 : Nat → Int32) (f11 : Nat → Int32) (sz : Nat) (gl_fs : fs.length = 68) (g_fs_19 : fs[19]? = some (.ref m_rf)) (g_fs_20 : fs[20]? = some (.ref m_pa)) (g_fs_21 : fs[21]? = some (.ref m_pn)) (g_fs_22 : fs[22]? = some (.ref m_fr)) (g_fs_23 : fs[23]? = some (.ref m_ur)) (g_fs_24 : fs[24]? = some (.ref m_up)) (g_fs_25 : fs[25]? = some (.ref m_un)) (g_fs_26 : fs[26]? = some (.ref m_um)) (g_fs_27 : fs[27]? = some (.ref m_tr)) (g_fs_28 : fs[28]? = some (.ref m_te)) (g_fs_29 : fs[29]? = some (.ref m_tm)) (g_fs_40 : fs[40]? = some (.ref m_ou)) (g_fs_2 : fs[2]? = some (.int 0)) (hrf : ∀ j, j < 16 → frf j = -1) : Met l yX11_text wsX11_text ({ frames := 3, cells := 0, slots := 0, locals := 64 }) (cP (dC, dI) (kTy cI cB cL cZ) [.ref h0, .int 0] [(h0, .inr (10, fs)), (m_rf, .inl (cI, 16, .inl frf)), (m_pa, .inl (cI, 16, .inl f1)), (m_pn, .inl (cI, 64, .inl f2)), (m_fr, .inl (cI, 2, .inl f3)), (m_ur, .inl (cI, 82, .inl f4)), (m_up, .inl (cI, 82, .inl f5)), (m_un, .inl (cI, 82, .inl f6)), (m_um, .inl (cI, 2, .inl f7)), (m_tr, .inl (cI, 50, .inl f8)), (m_te, .inl (cI, 50, .inl f9)), (m_tm, .inl (cI, 2, .inl f10)), (m_ou, .inl (cI, 4, .inl f11))] sz) (va_Qi (fun (r : Int32) (_ : Unit) => r = 0) (fun (_ : Unit) (t : State) => va_P (dC, dI) vwCl [] t.heap ∧ va_D (va_A [(h0, .inr (10, fs)), (m_rf, .inl (cI, 16, .inl frf)), (m_pa, .inl (cI, 16, .inl f1)), (m_pn, .inl (cI, 64, .inl f2)), (m_fr, .inl (cI, 2, .inl f3)), (m_ur, .inl (cI, 82, .inl f4)), (m_up, .inl (cI, 82, .inl f5)), (m_un, .inl (cI, 82, .inl f6)), (m_um, .inl (cI, 2, .inl f7)), (m_tr, .inl (cI, 50, .inl f8)), (m_te, .inl (cI, 50, .inl f9)), (m_tm, .inl (cI, 2, .inl f10)), (m_ou, .inl (cI, 4, .inl f11))] sz) []) (va_A [(h0, .inr (10, fs)), (m_rf, .inl (cI, 16, .inl frf)), (m_pa, .inl (cI, 16, .inl f1)), (m_pn, .inl (cI, 64, .inl f2)), (m_fr, .inl (cI, 2, .inl f3)), (m_ur, .inl (cI, 82, .inl f4)), (m_up, .inl (cI, 82, .inl f5)), (m_un, .inl (cI, 82, .inl f6)), (m_um, .inl (cI, 2, .inl f7)), (m_tr, .inl (cI, 50, .inl f8)), (m_te, .inl (cI, 50, .inl f9)), (m_tm, .inl (cI, 2, .inl f10)), (m_ou, .inl (cI, 4, .inl f11))] sz)) 0 0 (va_A [(h0, .inr (10, fs)), (m_rf, .inl (cI, 16, .inl frf)), (m_pa, .inl (cI, 16, .inl f1)), (m_pn, .inl (cI, 64, .inl f2)), (m_fr, .inl (cI, 2, .inl f3)), (m_ur, .inl (cI, 82, .inl f4)), (m_up, .inl (cI, 82, .inl f5)), (m_un, .inl (cI, 82, .inl f6)), (m_um, .inl (cI, 2, .inl f7)), (m_tr, .inl (cI, 50, .inl f8)), (m_te, .inl (cI, 50, .inl f9)), (m_tm, .inl (cI, 2, .inl f10)), (m_ou, .inl (cI, 4, .inl f11))] sz) := by
  refine Met.ofW (cc := cX11_text) (maxL := 2) (ret := (some .int)) (by decide) rfl ?_
  intro p e s m args below meth c s₁ B hml hv
  obtain ⟨rfl, hsz, hP, hK, hD0, hN⟩ := hv
  have hx := B.exec
  have hb := B.bytes
  have hr := B.returns
  have hts := atoms_spec (ws := wsX11_text) B.pre
  have hown : s.vm.findClass RX11 = some m.cls := findClass_of_methodNamed B.named
  have hlocks := B.notSynchronized
  subst hsz
  have hD := hD0.self (sz := s.heap.size)
  generalize hAe : va_A [(h0, .inr (10, fs)), (m_rf, .inl (cI, 16, .inl frf)), (m_pa, .inl (cI, 16, .inl f1)), (m_pn, .inl (cI, 64, .inl f2)), (m_fr, .inl (cI, 2, .inl f3)), (m_ur, .inl (cI, 82, .inl f4)), (m_up, .inl (cI, 82, .inl f5)), (m_un, .inl (cI, 82, .inl f6)), (m_um, .inl (cI, 2, .inl f7)), (m_tr, .inl (cI, 50, .inl f8)), (m_te, .inl (cI, 50, .inl f9)), (m_tm, .inl (cI, 2, .inl f10)), (m_ou, .inl (cI, 4, .inl f11))] s.heap.size = A at hD ⊢
  have hA : ∀ q : Nat, s.heap.size ≤ q → A q := fun q h => by rw [← hAe]; exact Or.inr h
  have hl := lv_entry ([.ref h0, .int 0]) (n := 2) (Nat.le_of_ble_eq_true rfl)
  rw [lg_entry_eq]
  generalize (lg_sl ([.ref h0, .int 0]) ++ List.replicate (2 - (lg_sl ([.ref h0, .int 0])).length) Slot.unset).toArray = ls at hl ⊢
  have hl : lv_has ls 2 [(0, .ref h0), (1, .int 0)] := hl
  refine k_H (A := A) hP (fun H hP hS => ?_)
  have hP : va_P (dC, dI) vwCl [(h0, .inr (10, fs)), (m_rf, .inl (cI, 16, .inl frf)), (m_pa, .inl (cI, 16, .inl f1)), (m_pn, .inl (cI, 64, .inl f2)), (m_fr, .inl (cI, 2, .inl f3)), (m_ur, .inl (cI, 82, .inl f4)), (m_up, .inl (cI, 82, .inl f5)), (m_un, .inl (cI, 82, .inl f6)), (m_um, .inl (cI, 2, .inl f7)), (m_tr, .inl (cI, 50, .inl f8)), (m_te, .inl (cI, 50, .inl f9)), (m_tm, .inl (cI, 2, .inl f10)), (m_ou, .inl (cI, 4, .inl f11))] H := hP
  have hD : va_D A [(h0, .inr (10, fs)), (m_rf, .inl (cI, 16, .inl frf)), (m_pa, .inl (cI, 16, .inl f1)), (m_pn, .inl (cI, 64, .inl f2)), (m_fr, .inl (cI, 2, .inl f3)), (m_ur, .inl (cI, 82, .inl f4)), (m_up, .inl (cI, 82, .inl f5)), (m_un, .inl (cI, 82, .inl f6)), (m_um, .inl (cI, 2, .inl f7)), (m_tr, .inl (cI, 50, .inl f8)), (m_te, .inl (cI, 50, .inl f9)), (m_tm, .inl (cI, 2, .inl f10)), (m_ou, .inl (cI, 4, .inl f11))] := hD
  refine lv_aload_n hx hb dX11_text_0 rfl (lv_at hl 0 rfl) ?_
  refine lv_iconst (v := 0) hx hb dX11_text_1 (by decide) ?_
  refine va_put (D := (dC, dI)) (ci := 10) (v := .int 0) (ty := .int) (C := RX11) (T := TX11) (N := 68) hx hb hts iwwsX11_text_11 tyX11 tyX11_ok nmX11 hown hK hP hD hS 0 rfl rfl 0 (by decide) (hts (.fieldLink RX11 121 "NothingJudgeModel" "thrown" "I") fwwsX11_text_121) (fun _ h9 => h9) rfl (by decide +kernel) rfl rfl (by rw [gl_fs]; decide) dX11_text_2 (fun H locs hP hD hS => ?_)
  obtain ⟨fs_558, efs_558⟩ : ∃ z : List Value, z = fs.set 0 (.int 0) := ⟨_, rfl⟩
  have glfs_558 : fs_558.length = 68 := fs_len efs_558 gl_fs
  have hP : va_P (dC, dI) vwCl [(h0, .inr (10, fs_558)), (m_rf, .inl (cI, 16, .inl frf)), (m_pa, .inl (cI, 16, .inl f1)), (m_pn, .inl (cI, 64, .inl f2)), (m_fr, .inl (cI, 2, .inl f3)), (m_ur, .inl (cI, 82, .inl f4)), (m_up, .inl (cI, 82, .inl f5)), (m_un, .inl (cI, 82, .inl f6)), (m_um, .inl (cI, 2, .inl f7)), (m_tr, .inl (cI, 50, .inl f8)), (m_te, .inl (cI, 50, .inl f9)), (m_tm, .inl (cI, 2, .inl f10)), (m_ou, .inl (cI, 4, .inl f11))] H := by rw [efs_558]; exact hP
  have hD : va_D A [(h0, .inr (10, fs_558)), (m_rf, .inl (cI, 16, .inl frf)), (m_pa, .inl (cI, 16, .inl f1)), (m_pn, .inl (cI, 64, .inl f2)), (m_fr, .inl (cI, 2, .inl f3)), (m_ur, .inl (cI, 82, .inl f4)), (m_up, .inl (cI, 82, .inl f5)), (m_un, .inl (cI, 82, .inl f6)), (m_um, .inl (cI, 2, .inl f7)), (m_tr, .inl (cI, 50, .inl f8)), (m_te, .inl (cI, 50, .inl f9)), (m_tm, .inl (cI, 2, .inl f10)), (m_ou, .inl (cI, 4, .inl f11))] := by rw [efs_558]; exact hD
  refine lv_iload_n hx hb dX11_text_5 rfl (lv_at hl 1 rfl) ?_
  refine lv_if_lt (tgt := 17) hx hb dX11_text_6 (by decide) (fun c9 => absurd c9 (by decide)) (fun _ => ?_)
  refine lv_iload_n hx hb dX11_text_9 rfl (lv_at hl 1 rfl) ?_
  refine lv_aload_n hx hb dX11_text_10 rfl (lv_at hl 0 rfl) ?_
  refine va_get (D := (dC, dI)) (ci := 10) (v := .int 0) (C := RX11) (T := TX11) (N := 68) hx hb hts iwwsX11_text_11 hown hK hP 0 rfl rfl 2 (by decide) (hts (.fieldLink RX11 124 "NothingJudgeModel" "taped" "I") fwwsX11_text_124) (fun _ h9 => h9) (fs_ne efs_558 (by decide) g_fs_2) dX11_text_11 ?_
  refine lv_icmp_le (tgt := 20) hx hb dX11_text_14 (by decide) (fun _ => ?_) (fun c9 => absurd (by decide) c9)
  refine lv_aload_n hx hb dX11_text_20 rfl (lv_at hl 0 rfl) ?_
  refine lv_iload_n hx hb dX11_text_21 rfl (lv_at hl 1 rfl) ?_
  refine va_put (D := (dC, dI)) (ci := 10) (v := .int 0) (ty := .int) (C := RX11) (T := TX11) (N := 68) hx hb hts iwwsX11_text_11 tyX11 tyX11_ok nmX11 hown hK hP hD hS 0 rfl rfl 3 (by decide) (hts (.fieldLink RX11 130 "NothingJudgeModel" "size" "I") fwwsX11_text_130) (fun _ h9 => h9) rfl (by decide +kernel) rfl rfl (by rw [glfs_558]; decide) dX11_text_22 (fun H locs hP hD hS => ?_)
  obtain ⟨fs_559, efs_559⟩ : ∃ z : List Value, z = fs_558.set 3 (.int 0) := ⟨_, rfl⟩
  have glfs_559 : fs_559.length = 68 := fs_len efs_559 glfs_558
  have hP : va_P (dC, dI) vwCl [(h0, .inr (10, fs_559)), (m_rf, .inl (cI, 16, .inl frf)), (m_pa, .inl (cI, 16, .inl f1)), (m_pn, .inl (cI, 64, .inl f2)), (m_fr, .inl (cI, 2, .inl f3)), (m_ur, .inl (cI, 82, .inl f4)), (m_up, .inl (cI, 82, .inl f5)), (m_un, .inl (cI, 82, .inl f6)), (m_um, .inl (cI, 2, .inl f7)), (m_tr, .inl (cI, 50, .inl f8)), (m_te, .inl (cI, 50, .inl f9)), (m_tm, .inl (cI, 2, .inl f10)), (m_ou, .inl (cI, 4, .inl f11))] H := by rw [efs_559]; exact hP
  have hD : va_D A [(h0, .inr (10, fs_559)), (m_rf, .inl (cI, 16, .inl frf)), (m_pa, .inl (cI, 16, .inl f1)), (m_pn, .inl (cI, 64, .inl f2)), (m_fr, .inl (cI, 2, .inl f3)), (m_ur, .inl (cI, 82, .inl f4)), (m_up, .inl (cI, 82, .inl f5)), (m_un, .inl (cI, 82, .inl f6)), (m_um, .inl (cI, 2, .inl f7)), (m_tr, .inl (cI, 50, .inl f8)), (m_te, .inl (cI, 50, .inl f9)), (m_tm, .inl (cI, 2, .inl f10)), (m_ou, .inl (cI, 4, .inl f11))] := by rw [efs_559]; exact hD
  refine lv_aload_n hx hb dX11_text_25 rfl (lv_at hl 0 rfl) ?_
  refine lv_iconst (v := 0) hx hb dX11_text_26 (by decide) ?_
  refine va_put (D := (dC, dI)) (ci := 10) (v := .int 0) (ty := .int) (C := RX11) (T := TX11) (N := 68) hx hb hts iwwsX11_text_11 tyX11 tyX11_ok nmX11 hown hK hP hD hS 0 rfl rfl 2 (by decide) (hts (.fieldLink RX11 124 "NothingJudgeModel" "taped" "I") fwwsX11_text_124) (fun _ h9 => h9) rfl (by decide +kernel) rfl rfl (by rw [glfs_559]; decide) dX11_text_27 (fun H locs hP hD hS => ?_)
  obtain ⟨fs_560, efs_560⟩ : ∃ z : List Value, z = fs_559.set 2 (.int 0) := ⟨_, rfl⟩
  have glfs_560 : fs_560.length = 68 := fs_len efs_560 glfs_559
  have hP : va_P (dC, dI) vwCl [(h0, .inr (10, fs_560)), (m_rf, .inl (cI, 16, .inl frf)), (m_pa, .inl (cI, 16, .inl f1)), (m_pn, .inl (cI, 64, .inl f2)), (m_fr, .inl (cI, 2, .inl f3)), (m_ur, .inl (cI, 82, .inl f4)), (m_up, .inl (cI, 82, .inl f5)), (m_un, .inl (cI, 82, .inl f6)), (m_um, .inl (cI, 2, .inl f7)), (m_tr, .inl (cI, 50, .inl f8)), (m_te, .inl (cI, 50, .inl f9)), (m_tm, .inl (cI, 2, .inl f10)), (m_ou, .inl (cI, 4, .inl f11))] H := by rw [efs_560]; exact hP
  have hD : va_D A [(h0, .inr (10, fs_560)), (m_rf, .inl (cI, 16, .inl frf)), (m_pa, .inl (cI, 16, .inl f1)), (m_pn, .inl (cI, 64, .inl f2)), (m_fr, .inl (cI, 2, .inl f3)), (m_ur, .inl (cI, 82, .inl f4)), (m_up, .inl (cI, 82, .inl f5)), (m_un, .inl (cI, 82, .inl f6)), (m_um, .inl (cI, 2, .inl f7)), (m_tr, .inl (cI, 50, .inl f8)), (m_te, .inl (cI, 50, .inl f9)), (m_tm, .inl (cI, 2, .inl f10)), (m_ou, .inl (cI, 4, .inl f11))] := by rw [efs_560]; exact hD
  refine lv_aload_n hx hb dX11_text_30 rfl (lv_at hl 0 rfl) ?_
  have hPc := hP.sub (ws' := [(h0, .inr (10, fs_560)), (m_rf, .inl (cI, 16, .inl frf)), (m_um, .inl (cI, 2, .inl f7)), (m_tm, .inl (cI, 2, .inl f10)), (m_fr, .inl (cI, 2, .inl f3))]) [0, 1, 8, 11, 4] rfl
  have hDc := hD.sub (ws' := [(h0, .inr (10, fs_560)), (m_rf, .inl (cI, 16, .inl frf)), (m_um, .inl (cI, 2, .inl f7)), (m_tm, .inl (cI, 2, .inl f10)), (m_fr, .inl (cI, 2, .inl f3))]) [0, 1, 8, 11, 4] (by decide) rfl
  have hFc := va_free (wc := [(h0, .inr (10, fs_560)), (m_rf, .inl (cI, 16, .inl frf)), (m_um, .inl (cI, 2, .inl f7)), (m_tm, .inl (cI, 2, .inl f10)), (m_fr, .inl (cI, 2, .inl f3))]) hD hS hA [0, 1, 8, 11, 4] rfl
  refine va_callv (va_runV (As := []) (rest := []) ⟨hx, hb, hml, hown, hts⟩ (m_parses l dC dI cI cB cL cZ (h0) (m_rf) (m_um) (m_tm) (m_fr) (fs_560) (frf) (f7) (f10) (f3) H.size glfs_560 (fs_ne efs_560 (by decide) (fs_ne efs_559 (by decide) (fs_ne efs_558 (by decide) g_fs_19))) (fs_ne efs_560 (by decide) (fs_ne efs_559 (by decide) (fs_ne efs_558 (by decide) g_fs_26))) (fs_ne efs_560 (by decide) (fs_ne efs_559 (by decide) (fs_ne efs_558 (by decide) g_fs_29))) (fs_ne efs_560 (by decide) (fs_ne efs_559 (by decide) (fs_ne efs_558 (by decide) g_fs_22))) (fs_ne efs_560 (by decide) (fs_eq efs_559 (by rw [glfs_558]; decide))) (hrf)) (cwV 0 hts gX11_text_X11_parses rfl rfl rfl (by decide +kernel) ⟨Nat.le_of_ble_eq_true rfl, Nat.le_of_ble_eq_true rfl⟩) ⟨cP_fb, va_recv hK hPc (ci := 10) (q0 := 0) rfl rfl, fun U hU hW => cP_pre hPc hK hDc hN U hU hW⟩ rfl rfl hl.1 rfl (lv_room (Nat.le_of_ble_eq_true rfl)) dX11_text_31 ⟨Nat.le_of_ble_eq_true rfl, Nat.le_of_ble_eq_true rfl⟩) hS (fun q _ h => hFc q h) hFc (fun u t H1 locs ht hvm hw hB hz1 hk1 hS => ?_)
  obtain ⟨f_561, f_562, f_563, f_564, hf_565, hP1, hD1⟩ := hB
  rw [ht] at hP1
  obtain ⟨hP, hD⟩ := va_join (wr := [(m_pa, .inl (cI, 16, .inl f1)), (m_pn, .inl (cI, 64, .inl f2)), (m_ur, .inl (cI, 82, .inl f4)), (m_up, .inl (cI, 82, .inl f5)), (m_un, .inl (cI, 82, .inl f6)), (m_tr, .inl (cI, 50, .inl f8)), (m_te, .inl (cI, 50, .inl f9)), (m_ou, .inl (cI, 4, .inl f11))]) (w1 := [(h0, .inr (10, ((((((((fs_560.set 4 (.int 0)).set 8 (.int 0)).set 9 (.int (-1))).set 17 (.int 0)).set 33 (.int 0)).set 38 (.int 0)).set 5 (.int 0)).set 6 (.int 4)))), (m_rf, .inl (cI, 16, .inl f_561)), (m_um, .inl (cI, 2, .inl f_562)), (m_tm, .inl (cI, 2, .inl f_563)), (m_fr, .inl (cI, 2, .inl f_564))]) hP hD [0, 1, 8, 11, 4] [2, 3, 5, 6, 7, 9, 10, 12] rfl rfl (by decide) (by decide) hk1 hFc hP1 hD1
  generalize H1 = H at hP hS ⊢
  obtain ⟨fs_567, efs_567⟩ : ∃ z : List Value, z = fs_560.set 4 (.int 0) := ⟨_, rfl⟩
  have glfs_567 : fs_567.length = 68 := fs_len efs_567 glfs_560
  obtain ⟨fs_568, efs_568⟩ : ∃ z : List Value, z = fs_567.set 8 (.int 0) := ⟨_, rfl⟩
  have glfs_568 : fs_568.length = 68 := fs_len efs_568 glfs_567
  obtain ⟨fs_569, efs_569⟩ : ∃ z : List Value, z = fs_568.set 9 (.int (-1)) := ⟨_, rfl⟩
  have glfs_569 : fs_569.length = 68 := fs_len efs_569 glfs_568
  obtain ⟨fs_570, efs_570⟩ : ∃ z : List Value, z = fs_569.set 17 (.int 0) := ⟨_, rfl⟩
  have glfs_570 : fs_570.length = 68 := fs_len efs_570 glfs_569
  obtain ⟨fs_571, efs_571⟩ : ∃ z : List Value, z = fs_570.set 33 (.int 0) := ⟨_, rfl⟩
  have glfs_571 : fs_571.length = 68 := fs_len efs_571 glfs_570
  obtain ⟨fs_572, efs_572⟩ : ∃ z : List Value, z = fs_571.set 38 (.int 0) := ⟨_, rfl⟩
  have glfs_572 : fs_572.length = 68 := fs_len efs_572 glfs_571
  obtain ⟨fs_573, efs_573⟩ : ∃ z : List Value, z = fs_572.set 5 (.int 0) := ⟨_, rfl⟩
  have glfs_573 : fs_573.length = 68 := fs_len efs_573 glfs_572
  obtain ⟨fs_574, efs_574⟩ : ∃ z : List Value, z = fs_573.set 6 (.int 4) := ⟨_, rfl⟩
  have glfs_574 : fs_574.length = 68 := fs_len efs_574 glfs_573
  have hP : va_P (dC, dI) vwCl [(m_pa, .inl (cI, 16, .inl f1)), (m_pn, .inl (cI, 64, .inl f2)), (m_ur, .inl (cI, 82, .inl f4)), (m_up, .inl (cI, 82, .inl f5)), (m_un, .inl (cI, 82, .inl f6)), (m_tr, .inl (cI, 50, .inl f8)), (m_te, .inl (cI, 50, .inl f9)), (m_ou, .inl (cI, 4, .inl f11)), (h0, .inr (10, fs_574)), (m_rf, .inl (cI, 16, .inl f_561)), (m_um, .inl (cI, 2, .inl f_562)), (m_tm, .inl (cI, 2, .inl f_563)), (m_fr, .inl (cI, 2, .inl f_564))] H := by rw [efs_574, efs_573, efs_572, efs_571, efs_570, efs_569, efs_568, efs_567]; exact hP
  have hD : va_D A [(m_pa, .inl (cI, 16, .inl f1)), (m_pn, .inl (cI, 64, .inl f2)), (m_ur, .inl (cI, 82, .inl f4)), (m_up, .inl (cI, 82, .inl f5)), (m_un, .inl (cI, 82, .inl f6)), (m_tr, .inl (cI, 50, .inl f8)), (m_te, .inl (cI, 50, .inl f9)), (m_ou, .inl (cI, 4, .inl f11)), (h0, .inr (10, fs_574)), (m_rf, .inl (cI, 16, .inl f_561)), (m_um, .inl (cI, 2, .inl f_562)), (m_tm, .inl (cI, 2, .inl f_563)), (m_fr, .inl (cI, 2, .inl f_564))] := by rw [efs_574, efs_573, efs_572, efs_571, efs_570, efs_569, efs_568, efs_567]; exact hD
  refine lv_aload_n hx hb dX11_text_34 rfl (lv_at hl 0 rfl) ?_
  refine lv_aload_n hx hb dX11_text_35 rfl (lv_at hl 0 rfl) ?_
  refine va_get (D := (dC, dI)) (ci := 10) (v := .int 0) (C := RX11) (T := TX11) (N := 68) hx hb hts iwwsX11_text_11 hown hK hP 8 rfl rfl 8 (by decide) (hts (.fieldLink RX11 164 "NothingJudgeModel" "fault" "I") fwwsX11_text_164) (fun _ h9 => h9) (fs_ne efs_574 (by decide) (fs_ne efs_573 (by decide) (fs_ne efs_572 (by decide) (fs_ne efs_571 (by decide) (fs_ne efs_570 (by decide) (fs_ne efs_569 (by decide) (fs_eq efs_568 (by rw [glfs_567]; decide)))))))) dX11_text_36 ?_
  refine va_put (D := (dC, dI)) (ci := 10) (v := .int 0) (ty := .int) (C := RX11) (T := TX11) (N := 68) hx hb hts iwwsX11_text_11 tyX11 tyX11_ok nmX11 hown hK hP hD hS 8 rfl rfl 10 (by decide) (hts (.fieldLink RX11 242 "NothingJudgeModel" "lastFault" "I") fwwsX11_text_242) (fun _ h9 => h9) rfl (by decide +kernel) rfl rfl (by rw [glfs_574]; decide) dX11_text_39 (fun H locs hP hD hS => ?_)
  obtain ⟨fs_575, efs_575⟩ : ∃ z : List Value, z = fs_574.set 10 (.int 0) := ⟨_, rfl⟩
  have glfs_575 : fs_575.length = 68 := fs_len efs_575 glfs_574
  have hP : va_P (dC, dI) vwCl [(m_pa, .inl (cI, 16, .inl f1)), (m_pn, .inl (cI, 64, .inl f2)), (m_ur, .inl (cI, 82, .inl f4)), (m_up, .inl (cI, 82, .inl f5)), (m_un, .inl (cI, 82, .inl f6)), (m_tr, .inl (cI, 50, .inl f8)), (m_te, .inl (cI, 50, .inl f9)), (m_ou, .inl (cI, 4, .inl f11)), (h0, .inr (10, fs_575)), (m_rf, .inl (cI, 16, .inl f_561)), (m_um, .inl (cI, 2, .inl f_562)), (m_tm, .inl (cI, 2, .inl f_563)), (m_fr, .inl (cI, 2, .inl f_564))] H := by rw [efs_575]; exact hP
  have hD : va_D A [(m_pa, .inl (cI, 16, .inl f1)), (m_pn, .inl (cI, 64, .inl f2)), (m_ur, .inl (cI, 82, .inl f4)), (m_up, .inl (cI, 82, .inl f5)), (m_un, .inl (cI, 82, .inl f6)), (m_tr, .inl (cI, 50, .inl f8)), (m_te, .inl (cI, 50, .inl f9)), (m_ou, .inl (cI, 4, .inl f11)), (h0, .inr (10, fs_575)), (m_rf, .inl (cI, 16, .inl f_561)), (m_um, .inl (cI, 2, .inl f_562)), (m_tm, .inl (cI, 2, .inl f_563)), (m_fr, .inl (cI, 2, .inl f_564))] := by rw [efs_575]; exact hD
  refine lv_aload_n hx hb dX11_text_42 rfl (lv_at hl 0 rfl) ?_
  refine lv_aload_n hx hb dX11_text_43 rfl (lv_at hl 0 rfl) ?_
  refine va_get (D := (dC, dI)) (ci := 10) (v := .int (-1)) (C := RX11) (T := TX11) (N := 68) hx hb hts iwwsX11_text_11 hown hK hP 8 rfl rfl 9 (by decide) (hts (.fieldLink RX11 167 "NothingJudgeModel" "faultPlace" "I") fwwsX11_text_167) (fun _ h9 => h9) (fs_ne efs_575 (by decide) (fs_ne efs_574 (by decide) (fs_ne efs_573 (by decide) (fs_ne efs_572 (by decide) (fs_ne efs_571 (by decide) (fs_ne efs_570 (by decide) (fs_eq efs_569 (by rw [glfs_568]; decide)))))))) dX11_text_44 ?_
  refine va_put (D := (dC, dI)) (ci := 10) (v := .int (-1)) (ty := .int) (C := RX11) (T := TX11) (N := 68) hx hb hts iwwsX11_text_11 tyX11 tyX11_ok nmX11 hown hK hP hD hS 8 rfl rfl 11 (by decide) (hts (.fieldLink RX11 13 "NothingJudgeModel" "lastPlace" "I") fwwsX11_text_13) (fun _ h9 => h9) rfl (by decide +kernel) rfl rfl (by rw [glfs_575]; decide) dX11_text_47 (fun H locs hP hD hS => ?_)
  obtain ⟨fs_576, efs_576⟩ : ∃ z : List Value, z = fs_575.set 11 (.int (-1)) := ⟨_, rfl⟩
  have glfs_576 : fs_576.length = 68 := fs_len efs_576 glfs_575
  have hP : va_P (dC, dI) vwCl [(m_pa, .inl (cI, 16, .inl f1)), (m_pn, .inl (cI, 64, .inl f2)), (m_ur, .inl (cI, 82, .inl f4)), (m_up, .inl (cI, 82, .inl f5)), (m_un, .inl (cI, 82, .inl f6)), (m_tr, .inl (cI, 50, .inl f8)), (m_te, .inl (cI, 50, .inl f9)), (m_ou, .inl (cI, 4, .inl f11)), (h0, .inr (10, fs_576)), (m_rf, .inl (cI, 16, .inl f_561)), (m_um, .inl (cI, 2, .inl f_562)), (m_tm, .inl (cI, 2, .inl f_563)), (m_fr, .inl (cI, 2, .inl f_564))] H := by rw [efs_576]; exact hP
  have hD : va_D A [(m_pa, .inl (cI, 16, .inl f1)), (m_pn, .inl (cI, 64, .inl f2)), (m_ur, .inl (cI, 82, .inl f4)), (m_up, .inl (cI, 82, .inl f5)), (m_un, .inl (cI, 82, .inl f6)), (m_tr, .inl (cI, 50, .inl f8)), (m_te, .inl (cI, 50, .inl f9)), (m_ou, .inl (cI, 4, .inl f11)), (h0, .inr (10, fs_576)), (m_rf, .inl (cI, 16, .inl f_561)), (m_um, .inl (cI, 2, .inl f_562)), (m_tm, .inl (cI, 2, .inl f_563)), (m_fr, .inl (cI, 2, .inl f_564))] := by rw [efs_576]; exact hD
  refine lv_aload_n hx hb dX11_text_50 rfl (lv_at hl 0 rfl) ?_
  refine va_get (D := (dC, dI)) (ci := 10) (v := .int 0) (C := RX11) (T := TX11) (N := 68) hx hb hts iwwsX11_text_11 hown hK hP 8 rfl rfl 8 (by decide) (hts (.fieldLink RX11 164 "NothingJudgeModel" "fault" "I") fwwsX11_text_164) (fun _ h9 => h9) (fs_ne efs_576 (by decide) (fs_ne efs_575 (by decide) (fs_ne efs_574 (by decide) (fs_ne efs_573 (by decide) (fs_ne efs_572 (by decide) (fs_ne efs_571 (by decide) (fs_ne efs_570 (by decide) (fs_ne efs_569 (by decide) (fs_eq efs_568 (by rw [glfs_567]; decide)))))))))) dX11_text_51 ?_
  refine lv_if_eq (tgt := 59) hx hb dX11_text_54 (by decide) (fun _ => ?_) (fun c9 => absurd (by decide) c9)
  refine lv_aload_n hx hb dX11_text_59 rfl (lv_at hl 0 rfl) ?_
  have hPc := hP.sub (ws' := [(h0, .inr (10, fs_576)), (m_rf, .inl (cI, 16, .inl f_561)), (m_pa, .inl (cI, 16, .inl f1)), (m_pn, .inl (cI, 64, .inl f2)), (m_fr, .inl (cI, 2, .inl f_564)), (m_ur, .inl (cI, 82, .inl f4)), (m_up, .inl (cI, 82, .inl f5)), (m_un, .inl (cI, 82, .inl f6)), (m_um, .inl (cI, 2, .inl f_562)), (m_tr, .inl (cI, 50, .inl f8)), (m_te, .inl (cI, 50, .inl f9)), (m_tm, .inl (cI, 2, .inl f_563)), (m_ou, .inl (cI, 4, .inl f11))]) [8, 9, 0, 1, 12, 2, 3, 4, 10, 5, 6, 11, 7] rfl
  have hDc := hD.sub (ws' := [(h0, .inr (10, fs_576)), (m_rf, .inl (cI, 16, .inl f_561)), (m_pa, .inl (cI, 16, .inl f1)), (m_pn, .inl (cI, 64, .inl f2)), (m_fr, .inl (cI, 2, .inl f_564)), (m_ur, .inl (cI, 82, .inl f4)), (m_up, .inl (cI, 82, .inl f5)), (m_un, .inl (cI, 82, .inl f6)), (m_um, .inl (cI, 2, .inl f_562)), (m_tr, .inl (cI, 50, .inl f8)), (m_te, .inl (cI, 50, .inl f9)), (m_tm, .inl (cI, 2, .inl f_563)), (m_ou, .inl (cI, 4, .inl f11))]) [8, 9, 0, 1, 12, 2, 3, 4, 10, 5, 6, 11, 7] (by decide) rfl
  have hFc := va_free (wc := [(h0, .inr (10, fs_576)), (m_rf, .inl (cI, 16, .inl f_561)), (m_pa, .inl (cI, 16, .inl f1)), (m_pn, .inl (cI, 64, .inl f2)), (m_fr, .inl (cI, 2, .inl f_564)), (m_ur, .inl (cI, 82, .inl f4)), (m_up, .inl (cI, 82, .inl f5)), (m_un, .inl (cI, 82, .inl f6)), (m_um, .inl (cI, 2, .inl f_562)), (m_tr, .inl (cI, 50, .inl f8)), (m_te, .inl (cI, 50, .inl f9)), (m_tm, .inl (cI, 2, .inl f_563)), (m_ou, .inl (cI, 4, .inl f11))]) hD hS hA [8, 9, 0, 1, 12, 2, 3, 4, 10, 5, 6, 11, 7] rfl
  refine va_callv (va_runV (As := []) (rest := []) ⟨hx, hb, hml, hown, hts⟩ (m_comes l dC dI cI cB cL cZ (h0) (m_rf) (m_pa) (m_pn) (m_fr) (m_ur) (m_up) (m_un) (m_um) (m_tr) (m_te) (m_tm) (m_ou) (fs_576) (f_561) (f1) (f2) (f_564) (f4) (f5) (f6) (f_562) (f8) (f9) (f_563) (f11) H.size glfs_576 (fs_ne efs_576 (by decide) (fs_ne efs_575 (by decide) (fs_ne efs_574 (by decide) (fs_ne efs_573 (by decide) (fs_ne efs_572 (by decide) (fs_ne efs_571 (by decide) (fs_ne efs_570 (by decide) (fs_ne efs_569 (by decide) (fs_ne efs_568 (by decide) (fs_ne efs_567 (by decide) (fs_ne efs_560 (by decide) (fs_ne efs_559 (by decide) (fs_ne efs_558 (by decide) g_fs_19))))))))))))) (fs_ne efs_576 (by decide) (fs_ne efs_575 (by decide) (fs_ne efs_574 (by decide) (fs_ne efs_573 (by decide) (fs_ne efs_572 (by decide) (fs_ne efs_571 (by decide) (fs_ne efs_570 (by decide) (fs_ne efs_569 (by decide) (fs_ne efs_568 (by decide) (fs_ne efs_567 (by decide) (fs_ne efs_560 (by decide) (fs_ne efs_559 (by decide) (fs_ne efs_558 (by decide) g_fs_20))))))))))))) (fs_ne efs_576 (by decide) (fs_ne efs_575 (by decide) (fs_ne efs_574 (by decide) (fs_ne efs_573 (by decide) (fs_ne efs_572 (by decide) (fs_ne efs_571 (by decide) (fs_ne efs_570 (by decide) (fs_ne efs_569 (by decide) (fs_ne efs_568 (by decide) (fs_ne efs_567 (by decide) (fs_ne efs_560 (by decide) (fs_ne efs_559 (by decide) (fs_ne efs_558 (by decide) g_fs_21))))))))))))) (fs_ne efs_576 (by decide) (fs_ne efs_575 (by decide) (fs_ne efs_574 (by decide) (fs_ne efs_573 (by decide) (fs_ne efs_572 (by decide) (fs_ne efs_571 (by decide) (fs_ne efs_570 (by decide) (fs_ne efs_569 (by decide) (fs_ne efs_568 (by decide) (fs_ne efs_567 (by decide) (fs_ne efs_560 (by decide) (fs_ne efs_559 (by decide) (fs_ne efs_558 (by decide) g_fs_22))))))))))))) (fs_ne efs_576 (by decide) (fs_ne efs_575 (by decide) (fs_ne efs_574 (by decide) (fs_ne efs_573 (by decide) (fs_ne efs_572 (by decide) (fs_ne efs_571 (by decide) (fs_ne efs_570 (by decide) (fs_ne efs_569 (by decide) (fs_ne efs_568 (by decide) (fs_ne efs_567 (by decide) (fs_ne efs_560 (by decide) (fs_ne efs_559 (by decide) (fs_ne efs_558 (by decide) g_fs_23))))))))))))) (fs_ne efs_576 (by decide) (fs_ne efs_575 (by decide) (fs_ne efs_574 (by decide) (fs_ne efs_573 (by decide) (fs_ne efs_572 (by decide) (fs_ne efs_571 (by decide) (fs_ne efs_570 (by decide) (fs_ne efs_569 (by decide) (fs_ne efs_568 (by decide) (fs_ne efs_567 (by decide) (fs_ne efs_560 (by decide) (fs_ne efs_559 (by decide) (fs_ne efs_558 (by decide) g_fs_24))))))))))))) (fs_ne efs_576 (by decide) (fs_ne efs_575 (by decide) (fs_ne efs_574 (by decide) (fs_ne efs_573 (by decide) (fs_ne efs_572 (by decide) (fs_ne efs_571 (by decide) (fs_ne efs_570 (by decide) (fs_ne efs_569 (by decide) (fs_ne efs_568 (by decide) (fs_ne efs_567 (by decide) (fs_ne efs_560 (by decide) (fs_ne efs_559 (by decide) (fs_ne efs_558 (by decide) g_fs_25))))))))))))) (fs_ne efs_576 (by decide) (fs_ne efs_575 (by decide) (fs_ne efs_574 (by decide) (fs_ne efs_573 (by decide) (fs_ne efs_572 (by decide) (fs_ne efs_571 (by decide) (fs_ne efs_570 (by decide) (fs_ne efs_569 (by decide) (fs_ne efs_568 (by decide) (fs_ne efs_567 (by decide) (fs_ne efs_560 (by decide) (fs_ne efs_559 (by decide) (fs_ne efs_558 (by decide) g_fs_26))))))))))))) (fs_ne efs_576 (by decide) (fs_ne efs_575 (by decide) (fs_ne efs_574 (by decide) (fs_ne efs_573 (by decide) (fs_ne efs_572 (by decide) (fs_ne efs_571 (by decide) (fs_ne efs_570 (by decide) (fs_ne efs_569 (by decide) (fs_ne efs_568 (by decide) (fs_ne efs_567 (by decide) (fs_ne efs_560 (by decide) (fs_ne efs_559 (by decide) (fs_ne efs_558 (by decide) g_fs_27))))))))))))) (fs_ne efs_576 (by decide) (fs_ne efs_575 (by decide) (fs_ne efs_574 (by decide) (fs_ne efs_573 (by decide) (fs_ne efs_572 (by decide) (fs_ne efs_571 (by decide) (fs_ne efs_570 (by decide) (fs_ne efs_569 (by decide) (fs_ne efs_568 (by decide) (fs_ne efs_567 (by decide) (fs_ne efs_560 (by decide) (fs_ne efs_559 (by decide) (fs_ne efs_558 (by decide) g_fs_28))))))))))))) (fs_ne efs_576 (by decide) (fs_ne efs_575 (by decide) (fs_ne efs_574 (by decide) (fs_ne efs_573 (by decide) (fs_ne efs_572 (by decide) (fs_ne efs_571 (by decide) (fs_ne efs_570 (by decide) (fs_ne efs_569 (by decide) (fs_ne efs_568 (by decide) (fs_ne efs_567 (by decide) (fs_ne efs_560 (by decide) (fs_ne efs_559 (by decide) (fs_ne efs_558 (by decide) g_fs_29))))))))))))) (fs_ne efs_576 (by decide) (fs_ne efs_575 (by decide) (fs_ne efs_574 (by decide) (fs_ne efs_573 (by decide) (fs_ne efs_572 (by decide) (fs_ne efs_571 (by decide) (fs_ne efs_570 (by decide) (fs_ne efs_569 (by decide) (fs_ne efs_568 (by decide) (fs_ne efs_567 (by decide) (fs_ne efs_560 (by decide) (fs_ne efs_559 (by decide) (fs_ne efs_558 (by decide) g_fs_40))))))))))))) (fs_ne efs_576 (by decide) (fs_ne efs_575 (by decide) (fs_ne efs_574 (by decide) (fs_ne efs_573 (by decide) (fs_ne efs_572 (by decide) (fs_ne efs_571 (by decide) (fs_eq efs_570 (by rw [glfs_569]; decide)))))))) (hf_565)) (cwV 0 hts gX11_text_X11_comes rfl rfl rfl (by decide +kernel) ⟨Nat.le_of_ble_eq_true rfl, Nat.le_of_ble_eq_true rfl⟩) ⟨cP_fb, va_recv hK hPc (ci := 10) (q0 := 0) rfl rfl, fun U hU hW => cP_pre hPc hK hDc hN U hU hW⟩ rfl rfl hl.1 rfl (lv_room (Nat.le_of_ble_eq_true rfl)) dX11_text_60 ⟨Nat.le_of_ble_eq_true rfl, Nat.le_of_ble_eq_true rfl⟩) hS (fun q _ h => hFc q h) hFc (fun u t H1 locs ht hvm hw hB hz1 hk1 hS => ?_)
  obtain ⟨v_577, f_578, hf_579, hP1, hD1⟩ := hB
  rw [ht] at hP1
  obtain ⟨hP, hD⟩ := va_join (wr := []) (w1 := [(h0, .inr (10, ((fs_576.set 18 (.int 0)).set 39 (.int v_577)))), (m_rf, .inl (cI, 16, .inl f_578))]) hP hD [8, 9, 0, 1, 12, 2, 3, 4, 10, 5, 6, 11, 7] [] rfl rfl (by decide) (by decide) hk1 hFc hP1 hD1
  generalize H1 = H at hP hS ⊢
  obtain ⟨fs_581, efs_581⟩ : ∃ z : List Value, z = fs_576.set 18 (.int 0) := ⟨_, rfl⟩
  have glfs_581 : fs_581.length = 68 := fs_len efs_581 glfs_576
  obtain ⟨fs_582, efs_582⟩ : ∃ z : List Value, z = fs_581.set 39 (.int v_577) := ⟨_, rfl⟩
  have glfs_582 : fs_582.length = 68 := fs_len efs_582 glfs_581
  have hP : va_P (dC, dI) vwCl [(h0, .inr (10, fs_582)), (m_rf, .inl (cI, 16, .inl f_578))] H := by rw [efs_582, efs_581]; exact hP
  have hD : va_D A [(h0, .inr (10, fs_582)), (m_rf, .inl (cI, 16, .inl f_578))] := by rw [efs_582, efs_581]; exact hD
  refine lv_aload_n hx hb dX11_text_63 rfl (lv_at hl 0 rfl) ?_
  have hPc := hP.sub (ws' := [(h0, .inr (10, fs_582)), (m_rf, .inl (cI, 16, .inl f_578))]) [0, 1] rfl
  have hDc := hD.sub (ws' := [(h0, .inr (10, fs_582)), (m_rf, .inl (cI, 16, .inl f_578))]) [0, 1] (by decide) rfl
  have hFc := va_free (wc := [(h0, .inr (10, fs_582)), (m_rf, .inl (cI, 16, .inl f_578))]) hD hS hA [0, 1] rfl
  refine va_calli (va_runV (As := []) (rest := []) ⟨hx, hb, hml, hown, hts⟩ (c_rmany l dC dI cI cB cL cZ (h0) (m_rf) (fs_582) (f_578) H.size glfs_582 (fs_ne efs_582 (by decide) (fs_ne efs_581 (by decide) (fs_ne efs_576 (by decide) (fs_ne efs_575 (by decide) (fs_ne efs_574 (by decide) (fs_ne efs_573 (by decide) (fs_ne efs_572 (by decide) (fs_ne efs_571 (by decide) (fs_ne efs_570 (by decide) (fs_ne efs_569 (by decide) (fs_ne efs_568 (by decide) (fs_ne efs_567 (by decide) (fs_ne efs_560 (by decide) (fs_ne efs_559 (by decide) (fs_ne efs_558 (by decide) g_fs_19))))))))))))))) (hf_579)) (cwV 0 hts gX11_text_X11_routinesMany rfl rfl rfl (by decide +kernel) ⟨Nat.le_of_ble_eq_true rfl, Nat.le_of_ble_eq_true rfl⟩) ⟨cP_fb, va_recv hK hPc (ci := 10) (q0 := 0) rfl rfl, fun U hU hW => cP_pre hPc hK hDc hN U hU hW⟩ rfl rfl hl.1 rfl (lv_room (Nat.le_of_ble_eq_true rfl)) dX11_text_64 ⟨Nat.le_of_ble_eq_true rfl, Nat.le_of_ble_eq_true rfl⟩) hS (fun q _ h => hFc q h) hFc (fun r_583 u t H1 locs ht hvm hw hB hz1 hk1 hS => ?_)
  obtain ⟨hP1, hD1⟩ := hB
  rw [ht] at hP1
  obtain ⟨hP, hD⟩ := va_join (wr := []) (w1 := [(h0, .inr (10, fs_582))]) hP hD [0, 1] [] rfl rfl (by decide) (by decide) hk1 hFc hP1 hD1
  generalize H1 = H at hP hS ⊢
  have hP : va_P (dC, dI) vwCl [(h0, .inr (10, fs_582))] H := hP
  have hD : va_D A [(h0, .inr (10, fs_582))] := hD
  obtain rfl : r_583 = 0 := hw
  subst efs_582
  subst efs_581
  subst efs_576
  subst efs_575
  subst efs_574
  subst efs_573
  subst efs_572
  subst efs_571
  subst efs_570
  subst efs_569
  subst efs_568
  subst efs_567
  subst efs_560
  subst efs_559
  subst efs_558
  have hP9 := hP.sub (ws' := []) [] rfl
  have hD9 := hD.sub (ws' := []) [] (by decide) rfl
  exact W.iret (v := 0) hx hb hr (fun t ht hW => ⟨⟨0, (), rfl, rfl, by rw [ht]; exact hP9, hD9⟩, hS.F ht⟩) hS.2.2 dX11_text_67

set_option maxHeartbeats 4000000 in
set_option maxRecDepth 100000 in
theorem m_textN (l : Launch) (dC : Nat → ClassId) (dI : Nat → Nat → Nat) (cI cB cL cZ : ClassId) (h0 : Nat) (n : Int32) (fs : List Value) (sz : Nat) (gl_fs : fs.length = 68) (g_fs_2 : fs[2]? = some (.int 0)) (hn9 : n < 0 ∨ 0 < n) : Met l yX11_text wsX11_text ({ frames := 0, cells := 0, slots := 0, locals := 0 }) (cP (dC, dI) (kTy cI cB cL cZ) [.ref h0, .int n] [(h0, .inr (10, fs))] sz) (va_Qi (fun (r : Int32) (_ : Unit) => r = -2) (fun (_ : Unit) (t : State) => va_P (dC, dI) vwCl [] t.heap ∧ va_D (va_A [(h0, .inr (10, fs))] sz) []) (va_A [(h0, .inr (10, fs))] sz)) 0 0 (va_A [(h0, .inr (10, fs))] sz) := by
  refine Met.ofW (cc := cX11_text) (maxL := 2) (ret := (some .int)) (by decide) rfl ?_
  intro p e s m args below meth c s₁ B hml hv
  obtain ⟨rfl, hsz, hP, hK, hD0, hN⟩ := hv
  have hx := B.exec
  have hb := B.bytes
  have hr := B.returns
  have hts := atoms_spec (ws := wsX11_text) B.pre
  have hown : s.vm.findClass RX11 = some m.cls := findClass_of_methodNamed B.named
  have hlocks := B.notSynchronized
  subst hsz
  have hD := hD0.self (sz := s.heap.size)
  generalize hAe : va_A [(h0, .inr (10, fs))] s.heap.size = A at hD ⊢
  have hA : ∀ q : Nat, s.heap.size ≤ q → A q := fun q h => by rw [← hAe]; exact Or.inr h
  have hl := lv_entry ([.ref h0, .int n]) (n := 2) (Nat.le_of_ble_eq_true rfl)
  rw [lg_entry_eq]
  generalize (lg_sl ([.ref h0, .int n]) ++ List.replicate (2 - (lg_sl ([.ref h0, .int n])).length) Slot.unset).toArray = ls at hl ⊢
  have hl : lv_has ls 2 [(0, .ref h0), (1, .int n)] := hl
  refine k_H (A := A) hP (fun H hP hS => ?_)
  have hP : va_P (dC, dI) vwCl [(h0, .inr (10, fs))] H := hP
  have hD : va_D A [(h0, .inr (10, fs))] := hD
  refine lv_aload_n hx hb dX11_text_0 rfl (lv_at hl 0 rfl) ?_
  refine lv_iconst (v := 0) hx hb dX11_text_1 (by decide) ?_
  refine va_put (D := (dC, dI)) (ci := 10) (v := .int 0) (ty := .int) (C := RX11) (T := TX11) (N := 68) hx hb hts iwwsX11_text_11 tyX11 tyX11_ok nmX11 hown hK hP hD hS 0 rfl rfl 0 (by decide) (hts (.fieldLink RX11 121 "NothingJudgeModel" "thrown" "I") fwwsX11_text_121) (fun _ h9 => h9) rfl (by decide +kernel) rfl rfl (by rw [gl_fs]; decide) dX11_text_2 (fun H locs hP hD hS => ?_)
  obtain ⟨fs_584, efs_584⟩ : ∃ z : List Value, z = fs.set 0 (.int 0) := ⟨_, rfl⟩
  have glfs_584 : fs_584.length = 68 := fs_len efs_584 gl_fs
  have hP : va_P (dC, dI) vwCl [(h0, .inr (10, fs_584))] H := by rw [efs_584]; exact hP
  have hD : va_D A [(h0, .inr (10, fs_584))] := by rw [efs_584]; exact hD
  refine lv_iload_n hx hb dX11_text_5 rfl (lv_at hl 1 rfl) ?_
  refine lv_if_lt (tgt := 17) hx hb dX11_text_6 (by decide) (fun c_585 => ?_) (fun c_585 => ?_)
  · refine lv_bipush (v := (-2)) hx hb dX11_text_17 (by decide) ?_
    subst efs_584
    have hP9 := hP.sub (ws' := []) [] rfl
    have hD9 := hD.sub (ws' := []) [] (by decide) rfl
    exact W.iret (v := (-2)) hx hb hr (fun t ht hW => ⟨⟨(-2), (), rfl, rfl, by rw [ht]; exact hP9, hD9⟩, hS.F ht⟩) hS.2.2 dX11_text_19
  · refine lv_iload_n hx hb dX11_text_9 rfl (lv_at hl 1 rfl) ?_
    refine lv_aload_n hx hb dX11_text_10 rfl (lv_at hl 0 rfl) ?_
    refine va_get (D := (dC, dI)) (ci := 10) (v := .int 0) (C := RX11) (T := TX11) (N := 68) hx hb hts iwwsX11_text_11 hown hK hP 0 rfl rfl 2 (by decide) (hts (.fieldLink RX11 124 "NothingJudgeModel" "taped" "I") fwwsX11_text_124) (fun _ h9 => h9) (fs_ne efs_584 (by decide) g_fs_2) dX11_text_11 ?_
    refine lv_icmp_le (tgt := 20) hx hb dX11_text_14 (by decide) (fun c9 => absurd c9 (Int32.not_le.mpr (hn9.resolve_left c_585))) (fun _ => ?_)
    refine lv_bipush (v := (-2)) hx hb dX11_text_17 (by decide) ?_
    subst efs_584
    have hP9 := hP.sub (ws' := []) [] rfl
    have hD9 := hD.sub (ws' := []) [] (by decide) rfl
    exact W.iret (v := (-2)) hx hb hr (fun t ht hW => ⟨⟨(-2), (), rfl, rfl, by rw [ht]; exact hP9, hD9⟩, hS.F ht⟩) hS.2.2 dX11_text_19
