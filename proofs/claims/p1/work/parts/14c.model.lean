set_option maxHeartbeats 4000000 in
set_option maxRecDepth 100000 in
theorem m_mark1 (l : Launch) (dC : Nat → ClassId) (dI : Nat → Nat → Nat) (cI cB cL cZ : ClassId) (h0 : Nat) (m_rf : Nat) (m_ih : Nat) (m_mk : Nat) (m_td : Nat) (r : Int32) (fs : List Value) (frf : Nat → Int32) (f0 : Nat → Int32) (f1 : Nat → Int32) (f2 : Nat → Int32) (sz : Nat) (gl_fs : fs.length = 68) (g_fs_19 : fs[19]? = some (.ref m_rf)) (g_fs_43 : fs[43]? = some (.ref m_ih)) (g_fs_42 : fs[42]? = some (.ref m_mk)) (g_fs_44 : fs[44]? = some (.ref m_td)) (g_fs_18 : fs[18]? = some (.int 0)) (g_fs_39 : fs[39]? = some (.int (-1))) (hrf : ∀ j, j < 16 → frf j = -1) : Met l yX11_mark wsX11_mark ({ frames := 1, cells := 0, slots := 0, locals := 21 }) (cP (dC, dI) (kTy cI cB cL cZ) [.ref h0, .int 2, .int r, .int 1] [(h0, .inr (10, fs)), (m_rf, .inl (cI, 16, .inl frf)), (m_ih, .inl (cZ, 42, .inl f0)), (m_mk, .inl (cI, 42, .inl f1)), (m_td, .inl (cI, 25, .inl f2))] sz) (va_Qi (fun (r : Int32) (_ : Unit) => r = 0) (fun (_ : Unit) (t : State) => va_P (dC, dI) vwCl [] t.heap ∧ va_D (va_A [(h0, .inr (10, fs)), (m_rf, .inl (cI, 16, .inl frf)), (m_ih, .inl (cZ, 42, .inl f0)), (m_mk, .inl (cI, 42, .inl f1)), (m_td, .inl (cI, 25, .inl f2))] sz) []) (va_A [(h0, .inr (10, fs)), (m_rf, .inl (cI, 16, .inl frf)), (m_ih, .inl (cZ, 42, .inl f0)), (m_mk, .inl (cI, 42, .inl f1)), (m_td, .inl (cI, 25, .inl f2))] sz)) 0 0 (va_A [(h0, .inr (10, fs)), (m_rf, .inl (cI, 16, .inl frf)), (m_ih, .inl (cZ, 42, .inl f0)), (m_mk, .inl (cI, 42, .inl f1)), (m_td, .inl (cI, 25, .inl f2))] sz) := by
  refine Met.ofW (cc := cX11_mark) (maxL := 5) (ret := (some .int)) (by decide) rfl ?_
  intro p e s m args below meth c s₁ B hml hv
  obtain ⟨rfl, hsz, hP, hK, hD0, hN⟩ := hv
  have hx := B.exec
  have hb := B.bytes
  have hr := B.returns
  have hts := atoms_spec (ws := wsX11_mark) B.pre
  have hown : s.vm.findClass RX11 = some m.cls := findClass_of_methodNamed B.named
  have hlocks := B.notSynchronized
  subst hsz
  have hD := hD0.self (sz := s.heap.size)
  generalize hAe : va_A [(h0, .inr (10, fs)), (m_rf, .inl (cI, 16, .inl frf)), (m_ih, .inl (cZ, 42, .inl f0)), (m_mk, .inl (cI, 42, .inl f1)), (m_td, .inl (cI, 25, .inl f2))] s.heap.size = A at hD ⊢
  have hA : ∀ q : Nat, s.heap.size ≤ q → A q := fun q h => by rw [← hAe]; exact Or.inr h
  have hl := lv_entry ([.ref h0, .int 2, .int r, .int 1]) (n := 5) (Nat.le_of_ble_eq_true rfl)
  rw [lg_entry_eq]
  generalize (lg_sl ([.ref h0, .int 2, .int r, .int 1]) ++ List.replicate (5 - (lg_sl ([.ref h0, .int 2, .int r, .int 1])).length) Slot.unset).toArray = ls at hl ⊢
  have hl : lv_has ls 5 [(0, .ref h0), (1, .int 2), (2, .int r), (3, .int 1)] := hl
  refine k_H (A := A) hP (fun H hP hS => ?_)
  have hP : va_P (dC, dI) vwCl [(h0, .inr (10, fs)), (m_rf, .inl (cI, 16, .inl frf)), (m_ih, .inl (cZ, 42, .inl f0)), (m_mk, .inl (cI, 42, .inl f1)), (m_td, .inl (cI, 25, .inl f2))] H := hP
  have hD : va_D A [(h0, .inr (10, fs)), (m_rf, .inl (cI, 16, .inl frf)), (m_ih, .inl (cZ, 42, .inl f0)), (m_mk, .inl (cI, 42, .inl f1)), (m_td, .inl (cI, 25, .inl f2))] := hD
  refine lv_aload_n hx hb dX11_mark_0 rfl (lv_at hl 0 rfl) ?_
  refine lv_iconst (v := 0) hx hb dX11_mark_1 (by decide) ?_
  refine va_put (D := (dC, dI)) (ci := 10) (v := .int 0) (ty := .int) (C := RX11) (T := TX11) (N := 68) hx hb hts iwwsX11_mark_11 tyX11 tyX11_ok nmX11 hown hK hP hD hS 0 rfl rfl 0 (by decide) (hts (.fieldLink RX11 121 "NothingJudgeModel" "thrown" "I") fwwsX11_mark_121) (fun _ h9 => h9) rfl (by decide +kernel) rfl rfl (by rw [gl_fs]; decide) dX11_mark_2 (fun H locs hP hD hS => ?_)
  obtain ⟨fs_376, efs_376⟩ : ∃ z : List Value, z = fs.set 0 (.int 0) := ⟨_, rfl⟩
  have glfs_376 : fs_376.length = 68 := fs_len efs_376 gl_fs
  have hP : va_P (dC, dI) vwCl [(h0, .inr (10, fs_376)), (m_rf, .inl (cI, 16, .inl frf)), (m_ih, .inl (cZ, 42, .inl f0)), (m_mk, .inl (cI, 42, .inl f1)), (m_td, .inl (cI, 25, .inl f2))] H := by rw [efs_376]; exact hP
  have hD : va_D A [(h0, .inr (10, fs_376)), (m_rf, .inl (cI, 16, .inl frf)), (m_ih, .inl (cZ, 42, .inl f0)), (m_mk, .inl (cI, 42, .inl f1)), (m_td, .inl (cI, 25, .inl f2))] := by rw [efs_376]; exact hD
  refine lv_iload_n hx hb dX11_mark_5 rfl (lv_at hl 2 rfl) ?_
  refine lv_if_lt (tgt := 29) hx hb dX11_mark_6 (by decide) (fun c_377 => ?_) (fun c_377 => ?_)
  · refine lv_iconst (v := 0) hx hb dX11_mark_29 (by decide) ?_
    refine lv_istore (lv' := [(4, .int 0), (0, .ref h0), (1, .int 2), (2, .int r), (3, .int 1)]) hx hb dX11_mark_30 hl (by decide) rfl (fun ls hl => ?_)
    refine lv_iload_n hx hb dX11_mark_32 rfl (lv_at hl 2 rfl) ?_
    refine lv_if_lt (tgt := 83) hx hb dX11_mark_33 (by decide) (fun c9 => absurd c9 (by decide)) (fun _ => ?_)
    refine lv_iload_n hx hb dX11_mark_36 rfl (lv_at hl 2 rfl) ?_
    refine lv_iconst (v := 2) hx hb dX11_mark_37 (by decide) ?_
    refine lv_icmp_gt (tgt := 83) hx hb dX11_mark_38 (by decide) (fun c9 => absurd c9 (by decide)) (fun _ => ?_)
    refine lv_iload_n hx hb dX11_mark_41 rfl (lv_at hl 2 rfl) ?_
    refine lv_iconst (v := 2) hx hb dX11_mark_42 (by decide) ?_
    refine lv_icmp_ge (tgt := 51) hx hb dX11_mark_43 (by decide) (fun _ => ?_) (fun c9 => absurd (by decide) c9)
    refine lv_iload_n hx hb dX11_mark_51 rfl (lv_at hl 2 rfl) ?_
    refine lv_if_ne (tgt := 69) hx hb dX11_mark_52 (by decide) (fun _ => ?_) (fun c9 => absurd c9 (by decide))
    refine lv_iload_n hx hb dX11_mark_69 rfl (lv_at hl 2 rfl) ?_
    refine lv_iconst (v := 2) hx hb dX11_mark_70 (by decide) ?_
    refine lv_icmp_ne (tgt := 85) hx hb dX11_mark_71 (by decide) (fun c9 => absurd c9 (by decide)) (fun _ => ?_)
    refine lv_iload_n hx hb dX11_mark_74 rfl (lv_at hl 4 rfl) ?_
    refine lv_if_lt (tgt := 83) hx hb dX11_mark_75 (by decide) (fun c9 => absurd c9 (by decide)) (fun _ => ?_)
    refine lv_iload_n hx hb dX11_mark_78 rfl (lv_at hl 4 rfl) ?_
    refine lv_iconst (v := 1) hx hb dX11_mark_79 (by decide) ?_
    refine lv_icmp_le (tgt := 85) hx hb dX11_mark_80 (by decide) (fun _ => ?_) (fun c9 => absurd (by decide) c9)
    refine lv_aload_n hx hb dX11_mark_85 rfl (lv_at hl 1 rfl) ?_
    have hPc := hP.sub (ws' := [(h0, .inr (10, fs_376)), (m_ih, .inl (cZ, 42, .inl f0))]) [0, 2] rfl
    have hDc := hD.sub (ws' := [(h0, .inr (10, fs_376)), (m_ih, .inl (cZ, 42, .inl f0))]) [0, 2] (by decide) rfl
    have hFc := va_free (wc := [(h0, .inr (10, fs_376)), (m_ih, .inl (cZ, 42, .inl f0))]) hD hS hA [0, 2] rfl
    refine va_callv (va_runV (As := []) (rest := []) ⟨hx, hb, hml, hown, hts⟩ (c_frees l dC dI cI cB cL cZ (h0) (m_ih) (fs_376) (f0) H.size glfs_376 (fs_ne efs_376 (by decide) g_fs_43)) (cwV 0 hts gX11_mark_X11_frees rfl rfl rfl (by decide +kernel) ⟨Nat.le_of_ble_eq_true rfl, Nat.le_of_ble_eq_true rfl⟩) ⟨cP_fb, va_recv hK hPc (ci := 10) (q0 := 0) rfl rfl, fun U hU hW => cP_pre hPc hK hDc hN U hU hW⟩ rfl rfl hl.1 rfl (lv_room (Nat.le_of_ble_eq_true rfl)) dX11_mark_86 ⟨Nat.le_of_ble_eq_true rfl, Nat.le_of_ble_eq_true rfl⟩) hS (fun q _ h => hFc q h) hFc (fun u t H1 locs ht hvm hw hB hz1 hk1 hS => ?_)
    obtain ⟨hP1, hD1⟩ := hB
    rw [ht] at hP1
    obtain ⟨hP, hD⟩ := va_join (wr := [(m_rf, .inl (cI, 16, .inl frf)), (m_mk, .inl (cI, 42, .inl f1)), (m_td, .inl (cI, 25, .inl f2))]) (w1 := [(h0, .inr (10, fs_376))]) hP hD [0, 2] [1, 3, 4] rfl rfl (by decide) (by decide) hk1 hFc hP1 hD1
    generalize H1 = H at hP hS ⊢
    have hP : va_P (dC, dI) vwCl [(m_rf, .inl (cI, 16, .inl frf)), (m_mk, .inl (cI, 42, .inl f1)), (m_td, .inl (cI, 25, .inl f2)), (h0, .inr (10, fs_376))] H := hP
    have hD : va_D A [(m_rf, .inl (cI, 16, .inl frf)), (m_mk, .inl (cI, 42, .inl f1)), (m_td, .inl (cI, 25, .inl f2)), (h0, .inr (10, fs_376))] := hD
    refine lv_aload_n hx hb dX11_mark_89 rfl (lv_at hl 1 rfl) ?_
    have hPc := hP.sub (ws' := [(h0, .inr (10, fs_376)), (m_mk, .inl (cI, 42, .inl f1)), (m_td, .inl (cI, 25, .inl f2))]) [3, 1, 2] rfl
    have hDc := hD.sub (ws' := [(h0, .inr (10, fs_376)), (m_mk, .inl (cI, 42, .inl f1)), (m_td, .inl (cI, 25, .inl f2))]) [3, 1, 2] (by decide) rfl
    have hFc := va_free (wc := [(h0, .inr (10, fs_376)), (m_mk, .inl (cI, 42, .inl f1)), (m_td, .inl (cI, 25, .inl f2))]) hD hS hA [3, 1, 2] rfl
    refine va_callv (va_runV (As := []) (rest := []) ⟨hx, hb, hml, hown, hts⟩ (c_reckons l dC dI cI cB cL cZ (h0) (m_mk) (m_td) (fs_376) (f1) (f2) H.size glfs_376 (fs_ne efs_376 (by decide) g_fs_42) (fs_ne efs_376 (by decide) g_fs_44) (fs_ne efs_376 (by decide) g_fs_18) (fs_ne efs_376 (by decide) g_fs_39)) (cwV 0 hts gX11_mark_X11_reckons rfl rfl rfl (by decide +kernel) ⟨Nat.le_of_ble_eq_true rfl, Nat.le_of_ble_eq_true rfl⟩) ⟨cP_fb, va_recv hK hPc (ci := 10) (q0 := 0) rfl rfl, fun U hU hW => cP_pre hPc hK hDc hN U hU hW⟩ rfl rfl hl.1 rfl (lv_room (Nat.le_of_ble_eq_true rfl)) dX11_mark_90 ⟨Nat.le_of_ble_eq_true rfl, Nat.le_of_ble_eq_true rfl⟩) hS (fun q _ h => hFc q h) hFc (fun u t H1 locs ht hvm hw hB hz1 hk1 hS => ?_)
    obtain ⟨f_379, hf_380, hP1, hD1⟩ := hB
    rw [ht] at hP1
    obtain ⟨hP, hD⟩ := va_join (wr := [(m_rf, .inl (cI, 16, .inl frf))]) (w1 := [(h0, .inr (10, (fs_376.set 45 (.int 0)))), (m_mk, .inl (cI, 42, .inl f_379))]) hP hD [3, 1, 2] [0] rfl rfl (by decide) (by decide) hk1 hFc hP1 hD1
    generalize H1 = H at hP hS ⊢
    obtain ⟨fs_382, efs_382⟩ : ∃ z : List Value, z = fs_376.set 45 (.int 0) := ⟨_, rfl⟩
    have glfs_382 : fs_382.length = 68 := fs_len efs_382 glfs_376
    have hP : va_P (dC, dI) vwCl [(m_rf, .inl (cI, 16, .inl frf)), (h0, .inr (10, fs_382)), (m_mk, .inl (cI, 42, .inl f_379))] H := by rw [efs_382]; exact hP
    have hD : va_D A [(m_rf, .inl (cI, 16, .inl frf)), (h0, .inr (10, fs_382)), (m_mk, .inl (cI, 42, .inl f_379))] := by rw [efs_382]; exact hD
    refine lv_aload_n hx hb dX11_mark_93 rfl (lv_at hl 1 rfl) ?_
    refine va_get (D := (dC, dI)) (ci := 10) (v := .ref m_mk) (C := RX11) (T := TX11) (N := 68) hx hb hts iwwsX11_mark_11 hown hK hP 1 rfl rfl 42 (by decide) (hts (.fieldLink RX11 93 "NothingJudgeModel" "marks" "[I") fwwsX11_mark_93) (fun _ h9 => h9) (fs_ne efs_382 (by decide) (fs_ne efs_376 (by decide) g_fs_42)) dX11_mark_94 ?_
    refine lv_iload_n hx hb dX11_mark_97 rfl (lv_at hl 2 rfl) ?_
    refine lv_if_ne (tgt := 109) hx hb dX11_mark_98 (by decide) (fun _ => ?_) (fun c9 => absurd c9 (by decide))
    refine lv_iload_n hx hb dX11_mark_109 rfl (lv_at hl 2 rfl) ?_
    refine lv_iconst (v := 1) hx hb dX11_mark_110 (by decide) ?_
    refine lv_icmp_ne (tgt := 121) hx hb dX11_mark_111 (by decide) (fun _ => ?_) (fun c9 => absurd c9 (by decide))
    refine lv_bipush (v := 40) hx hb dX11_mark_121 (by decide) ?_
    refine lv_iload_n hx hb dX11_mark_123 rfl (lv_at hl 4 rfl) ?_
    refine lv_iadd hx hb dX11_mark_124 ?_
    refine lv_topi (fun y_383 ey_383 => ?_)
    obtain rfl : y_383 = 41 := ey_383.trans (by decide)
    refine va_iald hx hb hK hP 2 0 rfl rfl (by unfold vp_in; decide) dX11_mark_125 ?_
    refine lv_topi (fun y_384 ey_384 => ?_)
    obtain rfl : y_384 = 0 := ey_384.trans (hf_380 _ (by decide))
    subst efs_382
    subst efs_376
    have hP9 := hP.sub (ws' := []) [] rfl
    have hD9 := hD.sub (ws' := []) [] (by decide) rfl
    exact W.iret (v := 0) hx hb hr (fun t ht hW => ⟨⟨0, (), rfl, rfl, by rw [ht]; exact hP9, hD9⟩, hS.F ht⟩) hS.2.2 dX11_mark_126
  · refine lv_iload_n hx hb dX11_mark_9 rfl (lv_at hl 2 rfl) ?_
    refine lv_bipush (v := 8) hx hb dX11_mark_10 (by decide) ?_
    refine lv_icmp_ge (tgt := 29) hx hb dX11_mark_12 (by decide) (fun c_385 => ?_) (fun c_385 => ?_)
    · refine lv_iconst (v := 0) hx hb dX11_mark_29 (by decide) ?_
      refine lv_istore (lv' := [(4, .int 0), (0, .ref h0), (1, .int 2), (2, .int r), (3, .int 1)]) hx hb dX11_mark_30 hl (by decide) rfl (fun ls hl => ?_)
      refine lv_iload_n hx hb dX11_mark_32 rfl (lv_at hl 2 rfl) ?_
      refine lv_if_lt (tgt := 83) hx hb dX11_mark_33 (by decide) (fun c9 => absurd c9 (by decide)) (fun _ => ?_)
      refine lv_iload_n hx hb dX11_mark_36 rfl (lv_at hl 2 rfl) ?_
      refine lv_iconst (v := 2) hx hb dX11_mark_37 (by decide) ?_
      refine lv_icmp_gt (tgt := 83) hx hb dX11_mark_38 (by decide) (fun c9 => absurd c9 (by decide)) (fun _ => ?_)
      refine lv_iload_n hx hb dX11_mark_41 rfl (lv_at hl 2 rfl) ?_
      refine lv_iconst (v := 2) hx hb dX11_mark_42 (by decide) ?_
      refine lv_icmp_ge (tgt := 51) hx hb dX11_mark_43 (by decide) (fun _ => ?_) (fun c9 => absurd (by decide) c9)
      refine lv_iload_n hx hb dX11_mark_51 rfl (lv_at hl 2 rfl) ?_
      refine lv_if_ne (tgt := 69) hx hb dX11_mark_52 (by decide) (fun _ => ?_) (fun c9 => absurd c9 (by decide))
      refine lv_iload_n hx hb dX11_mark_69 rfl (lv_at hl 2 rfl) ?_
      refine lv_iconst (v := 2) hx hb dX11_mark_70 (by decide) ?_
      refine lv_icmp_ne (tgt := 85) hx hb dX11_mark_71 (by decide) (fun c9 => absurd c9 (by decide)) (fun _ => ?_)
      refine lv_iload_n hx hb dX11_mark_74 rfl (lv_at hl 4 rfl) ?_
      refine lv_if_lt (tgt := 83) hx hb dX11_mark_75 (by decide) (fun c9 => absurd c9 (by decide)) (fun _ => ?_)
      refine lv_iload_n hx hb dX11_mark_78 rfl (lv_at hl 4 rfl) ?_
      refine lv_iconst (v := 1) hx hb dX11_mark_79 (by decide) ?_
      refine lv_icmp_le (tgt := 85) hx hb dX11_mark_80 (by decide) (fun _ => ?_) (fun c9 => absurd (by decide) c9)
      refine lv_aload_n hx hb dX11_mark_85 rfl (lv_at hl 1 rfl) ?_
      have hPc := hP.sub (ws' := [(h0, .inr (10, fs_376)), (m_ih, .inl (cZ, 42, .inl f0))]) [0, 2] rfl
      have hDc := hD.sub (ws' := [(h0, .inr (10, fs_376)), (m_ih, .inl (cZ, 42, .inl f0))]) [0, 2] (by decide) rfl
      have hFc := va_free (wc := [(h0, .inr (10, fs_376)), (m_ih, .inl (cZ, 42, .inl f0))]) hD hS hA [0, 2] rfl
      refine va_callv (va_runV (As := []) (rest := []) ⟨hx, hb, hml, hown, hts⟩ (c_frees l dC dI cI cB cL cZ (h0) (m_ih) (fs_376) (f0) H.size glfs_376 (fs_ne efs_376 (by decide) g_fs_43)) (cwV 0 hts gX11_mark_X11_frees rfl rfl rfl (by decide +kernel) ⟨Nat.le_of_ble_eq_true rfl, Nat.le_of_ble_eq_true rfl⟩) ⟨cP_fb, va_recv hK hPc (ci := 10) (q0 := 0) rfl rfl, fun U hU hW => cP_pre hPc hK hDc hN U hU hW⟩ rfl rfl hl.1 rfl (lv_room (Nat.le_of_ble_eq_true rfl)) dX11_mark_86 ⟨Nat.le_of_ble_eq_true rfl, Nat.le_of_ble_eq_true rfl⟩) hS (fun q _ h => hFc q h) hFc (fun u t H1 locs ht hvm hw hB hz1 hk1 hS => ?_)
      obtain ⟨hP1, hD1⟩ := hB
      rw [ht] at hP1
      obtain ⟨hP, hD⟩ := va_join (wr := [(m_rf, .inl (cI, 16, .inl frf)), (m_mk, .inl (cI, 42, .inl f1)), (m_td, .inl (cI, 25, .inl f2))]) (w1 := [(h0, .inr (10, fs_376))]) hP hD [0, 2] [1, 3, 4] rfl rfl (by decide) (by decide) hk1 hFc hP1 hD1
      generalize H1 = H at hP hS ⊢
      have hP : va_P (dC, dI) vwCl [(m_rf, .inl (cI, 16, .inl frf)), (m_mk, .inl (cI, 42, .inl f1)), (m_td, .inl (cI, 25, .inl f2)), (h0, .inr (10, fs_376))] H := hP
      have hD : va_D A [(m_rf, .inl (cI, 16, .inl frf)), (m_mk, .inl (cI, 42, .inl f1)), (m_td, .inl (cI, 25, .inl f2)), (h0, .inr (10, fs_376))] := hD
      refine lv_aload_n hx hb dX11_mark_89 rfl (lv_at hl 1 rfl) ?_
      have hPc := hP.sub (ws' := [(h0, .inr (10, fs_376)), (m_mk, .inl (cI, 42, .inl f1)), (m_td, .inl (cI, 25, .inl f2))]) [3, 1, 2] rfl
      have hDc := hD.sub (ws' := [(h0, .inr (10, fs_376)), (m_mk, .inl (cI, 42, .inl f1)), (m_td, .inl (cI, 25, .inl f2))]) [3, 1, 2] (by decide) rfl
      have hFc := va_free (wc := [(h0, .inr (10, fs_376)), (m_mk, .inl (cI, 42, .inl f1)), (m_td, .inl (cI, 25, .inl f2))]) hD hS hA [3, 1, 2] rfl
      refine va_callv (va_runV (As := []) (rest := []) ⟨hx, hb, hml, hown, hts⟩ (c_reckons l dC dI cI cB cL cZ (h0) (m_mk) (m_td) (fs_376) (f1) (f2) H.size glfs_376 (fs_ne efs_376 (by decide) g_fs_42) (fs_ne efs_376 (by decide) g_fs_44) (fs_ne efs_376 (by decide) g_fs_18) (fs_ne efs_376 (by decide) g_fs_39)) (cwV 0 hts gX11_mark_X11_reckons rfl rfl rfl (by decide +kernel) ⟨Nat.le_of_ble_eq_true rfl, Nat.le_of_ble_eq_true rfl⟩) ⟨cP_fb, va_recv hK hPc (ci := 10) (q0 := 0) rfl rfl, fun U hU hW => cP_pre hPc hK hDc hN U hU hW⟩ rfl rfl hl.1 rfl (lv_room (Nat.le_of_ble_eq_true rfl)) dX11_mark_90 ⟨Nat.le_of_ble_eq_true rfl, Nat.le_of_ble_eq_true rfl⟩) hS (fun q _ h => hFc q h) hFc (fun u t H1 locs ht hvm hw hB hz1 hk1 hS => ?_)
      obtain ⟨f_387, hf_388, hP1, hD1⟩ := hB
      rw [ht] at hP1
      obtain ⟨hP, hD⟩ := va_join (wr := [(m_rf, .inl (cI, 16, .inl frf))]) (w1 := [(h0, .inr (10, (fs_376.set 45 (.int 0)))), (m_mk, .inl (cI, 42, .inl f_387))]) hP hD [3, 1, 2] [0] rfl rfl (by decide) (by decide) hk1 hFc hP1 hD1
      generalize H1 = H at hP hS ⊢
      obtain ⟨fs_390, efs_390⟩ : ∃ z : List Value, z = fs_376.set 45 (.int 0) := ⟨_, rfl⟩
      have glfs_390 : fs_390.length = 68 := fs_len efs_390 glfs_376
      have hP : va_P (dC, dI) vwCl [(m_rf, .inl (cI, 16, .inl frf)), (h0, .inr (10, fs_390)), (m_mk, .inl (cI, 42, .inl f_387))] H := by rw [efs_390]; exact hP
      have hD : va_D A [(m_rf, .inl (cI, 16, .inl frf)), (h0, .inr (10, fs_390)), (m_mk, .inl (cI, 42, .inl f_387))] := by rw [efs_390]; exact hD
      refine lv_aload_n hx hb dX11_mark_93 rfl (lv_at hl 1 rfl) ?_
      refine va_get (D := (dC, dI)) (ci := 10) (v := .ref m_mk) (C := RX11) (T := TX11) (N := 68) hx hb hts iwwsX11_mark_11 hown hK hP 1 rfl rfl 42 (by decide) (hts (.fieldLink RX11 93 "NothingJudgeModel" "marks" "[I") fwwsX11_mark_93) (fun _ h9 => h9) (fs_ne efs_390 (by decide) (fs_ne efs_376 (by decide) g_fs_42)) dX11_mark_94 ?_
      refine lv_iload_n hx hb dX11_mark_97 rfl (lv_at hl 2 rfl) ?_
      refine lv_if_ne (tgt := 109) hx hb dX11_mark_98 (by decide) (fun _ => ?_) (fun c9 => absurd c9 (by decide))
      refine lv_iload_n hx hb dX11_mark_109 rfl (lv_at hl 2 rfl) ?_
      refine lv_iconst (v := 1) hx hb dX11_mark_110 (by decide) ?_
      refine lv_icmp_ne (tgt := 121) hx hb dX11_mark_111 (by decide) (fun _ => ?_) (fun c9 => absurd c9 (by decide))
      refine lv_bipush (v := 40) hx hb dX11_mark_121 (by decide) ?_
      refine lv_iload_n hx hb dX11_mark_123 rfl (lv_at hl 4 rfl) ?_
      refine lv_iadd hx hb dX11_mark_124 ?_
      refine lv_topi (fun y_391 ey_391 => ?_)
      obtain rfl : y_391 = 41 := ey_391.trans (by decide)
      refine va_iald hx hb hK hP 2 0 rfl rfl (by unfold vp_in; decide) dX11_mark_125 ?_
      refine lv_topi (fun y_392 ey_392 => ?_)
      obtain rfl : y_392 = 0 := ey_392.trans (hf_388 _ (by decide))
      subst efs_390
      subst efs_376
      have hP9 := hP.sub (ws' := []) [] rfl
      have hD9 := hD.sub (ws' := []) [] (by decide) rfl
      exact W.iret (v := 0) hx hb hr (fun t ht hW => ⟨⟨0, (), rfl, rfl, by rw [ht]; exact hP9, hD9⟩, hS.F ht⟩) hS.2.2 dX11_mark_126
    · refine lv_aload_n hx hb dX11_mark_15 rfl (lv_at hl 0 rfl) ?_
      refine va_get (D := (dC, dI)) (ci := 10) (v := .ref m_rf) (C := RX11) (T := TX11) (N := 68) hx hb hts iwwsX11_mark_11 hown hK hP 0 rfl rfl 19 (by decide) (hts (.fieldLink RX11 32 "NothingJudgeModel" "routineFrom" "[I") fwwsX11_mark_32) (fun _ h9 => h9) (fs_ne efs_376 (by decide) g_fs_19) dX11_mark_16 ?_
      refine lv_iload_n hx hb dX11_mark_19 rfl (lv_at hl 2 rfl) ?_
      refine va_iald hx hb hK hP 1 0 rfl rfl (in_of (y := 16) (by decide) c_377 (fun h9 => c_385 (Int32.le_trans (by decide) h9)) (by decide)) dX11_mark_20 ?_
      refine lv_topi (fun y_393 ey_393 => ?_)
      obtain rfl : y_393 = (-1) := ey_393.trans (hrf _ (cl_of (y := 16) (by decide) c_377 (fun h9 => c_385 (Int32.le_trans (by decide) h9))))
      refine lv_iconst (v := (-1)) hx hb dX11_mark_21 (by decide) ?_
      refine lv_icmp_eq (tgt := 29) hx hb dX11_mark_22 (by decide) (fun _ => ?_) (fun c9 => absurd (by decide) c9)
      refine lv_iconst (v := 0) hx hb dX11_mark_29 (by decide) ?_
      refine lv_istore (lv' := [(4, .int 0), (0, .ref h0), (1, .int 2), (2, .int r), (3, .int 1)]) hx hb dX11_mark_30 hl (by decide) rfl (fun ls hl => ?_)
      refine lv_iload_n hx hb dX11_mark_32 rfl (lv_at hl 2 rfl) ?_
      refine lv_if_lt (tgt := 83) hx hb dX11_mark_33 (by decide) (fun c9 => absurd c9 (by decide)) (fun _ => ?_)
      refine lv_iload_n hx hb dX11_mark_36 rfl (lv_at hl 2 rfl) ?_
      refine lv_iconst (v := 2) hx hb dX11_mark_37 (by decide) ?_
      refine lv_icmp_gt (tgt := 83) hx hb dX11_mark_38 (by decide) (fun c9 => absurd c9 (by decide)) (fun _ => ?_)
      refine lv_iload_n hx hb dX11_mark_41 rfl (lv_at hl 2 rfl) ?_
      refine lv_iconst (v := 2) hx hb dX11_mark_42 (by decide) ?_
      refine lv_icmp_ge (tgt := 51) hx hb dX11_mark_43 (by decide) (fun _ => ?_) (fun c9 => absurd (by decide) c9)
      refine lv_iload_n hx hb dX11_mark_51 rfl (lv_at hl 2 rfl) ?_
      refine lv_if_ne (tgt := 69) hx hb dX11_mark_52 (by decide) (fun _ => ?_) (fun c9 => absurd c9 (by decide))
      refine lv_iload_n hx hb dX11_mark_69 rfl (lv_at hl 2 rfl) ?_
      refine lv_iconst (v := 2) hx hb dX11_mark_70 (by decide) ?_
      refine lv_icmp_ne (tgt := 85) hx hb dX11_mark_71 (by decide) (fun c9 => absurd c9 (by decide)) (fun _ => ?_)
      refine lv_iload_n hx hb dX11_mark_74 rfl (lv_at hl 4 rfl) ?_
      refine lv_if_lt (tgt := 83) hx hb dX11_mark_75 (by decide) (fun c9 => absurd c9 (by decide)) (fun _ => ?_)
      refine lv_iload_n hx hb dX11_mark_78 rfl (lv_at hl 4 rfl) ?_
      refine lv_iconst (v := 1) hx hb dX11_mark_79 (by decide) ?_
      refine lv_icmp_le (tgt := 85) hx hb dX11_mark_80 (by decide) (fun _ => ?_) (fun c9 => absurd (by decide) c9)
      refine lv_aload_n hx hb dX11_mark_85 rfl (lv_at hl 1 rfl) ?_
      have hPc := hP.sub (ws' := [(h0, .inr (10, fs_376)), (m_ih, .inl (cZ, 42, .inl f0))]) [0, 2] rfl
      have hDc := hD.sub (ws' := [(h0, .inr (10, fs_376)), (m_ih, .inl (cZ, 42, .inl f0))]) [0, 2] (by decide) rfl
      have hFc := va_free (wc := [(h0, .inr (10, fs_376)), (m_ih, .inl (cZ, 42, .inl f0))]) hD hS hA [0, 2] rfl
      refine va_callv (va_runV (As := []) (rest := []) ⟨hx, hb, hml, hown, hts⟩ (c_frees l dC dI cI cB cL cZ (h0) (m_ih) (fs_376) (f0) H.size glfs_376 (fs_ne efs_376 (by decide) g_fs_43)) (cwV 0 hts gX11_mark_X11_frees rfl rfl rfl (by decide +kernel) ⟨Nat.le_of_ble_eq_true rfl, Nat.le_of_ble_eq_true rfl⟩) ⟨cP_fb, va_recv hK hPc (ci := 10) (q0 := 0) rfl rfl, fun U hU hW => cP_pre hPc hK hDc hN U hU hW⟩ rfl rfl hl.1 rfl (lv_room (Nat.le_of_ble_eq_true rfl)) dX11_mark_86 ⟨Nat.le_of_ble_eq_true rfl, Nat.le_of_ble_eq_true rfl⟩) hS (fun q _ h => hFc q h) hFc (fun u t H1 locs ht hvm hw hB hz1 hk1 hS => ?_)
      obtain ⟨hP1, hD1⟩ := hB
      rw [ht] at hP1
      obtain ⟨hP, hD⟩ := va_join (wr := [(m_rf, .inl (cI, 16, .inl frf)), (m_mk, .inl (cI, 42, .inl f1)), (m_td, .inl (cI, 25, .inl f2))]) (w1 := [(h0, .inr (10, fs_376))]) hP hD [0, 2] [1, 3, 4] rfl rfl (by decide) (by decide) hk1 hFc hP1 hD1
      generalize H1 = H at hP hS ⊢
      have hP : va_P (dC, dI) vwCl [(m_rf, .inl (cI, 16, .inl frf)), (m_mk, .inl (cI, 42, .inl f1)), (m_td, .inl (cI, 25, .inl f2)), (h0, .inr (10, fs_376))] H := hP
      have hD : va_D A [(m_rf, .inl (cI, 16, .inl frf)), (m_mk, .inl (cI, 42, .inl f1)), (m_td, .inl (cI, 25, .inl f2)), (h0, .inr (10, fs_376))] := hD
      refine lv_aload_n hx hb dX11_mark_89 rfl (lv_at hl 1 rfl) ?_
      have hPc := hP.sub (ws' := [(h0, .inr (10, fs_376)), (m_mk, .inl (cI, 42, .inl f1)), (m_td, .inl (cI, 25, .inl f2))]) [3, 1, 2] rfl
      have hDc := hD.sub (ws' := [(h0, .inr (10, fs_376)), (m_mk, .inl (cI, 42, .inl f1)), (m_td, .inl (cI, 25, .inl f2))]) [3, 1, 2] (by decide) rfl
      have hFc := va_free (wc := [(h0, .inr (10, fs_376)), (m_mk, .inl (cI, 42, .inl f1)), (m_td, .inl (cI, 25, .inl f2))]) hD hS hA [3, 1, 2] rfl
      refine va_callv (va_runV (As := []) (rest := []) ⟨hx, hb, hml, hown, hts⟩ (c_reckons l dC dI cI cB cL cZ (h0) (m_mk) (m_td) (fs_376) (f1) (f2) H.size glfs_376 (fs_ne efs_376 (by decide) g_fs_42) (fs_ne efs_376 (by decide) g_fs_44) (fs_ne efs_376 (by decide) g_fs_18) (fs_ne efs_376 (by decide) g_fs_39)) (cwV 0 hts gX11_mark_X11_reckons rfl rfl rfl (by decide +kernel) ⟨Nat.le_of_ble_eq_true rfl, Nat.le_of_ble_eq_true rfl⟩) ⟨cP_fb, va_recv hK hPc (ci := 10) (q0 := 0) rfl rfl, fun U hU hW => cP_pre hPc hK hDc hN U hU hW⟩ rfl rfl hl.1 rfl (lv_room (Nat.le_of_ble_eq_true rfl)) dX11_mark_90 ⟨Nat.le_of_ble_eq_true rfl, Nat.le_of_ble_eq_true rfl⟩) hS (fun q _ h => hFc q h) hFc (fun u t H1 locs ht hvm hw hB hz1 hk1 hS => ?_)
      obtain ⟨f_395, hf_396, hP1, hD1⟩ := hB
      rw [ht] at hP1
      obtain ⟨hP, hD⟩ := va_join (wr := [(m_rf, .inl (cI, 16, .inl frf))]) (w1 := [(h0, .inr (10, (fs_376.set 45 (.int 0)))), (m_mk, .inl (cI, 42, .inl f_395))]) hP hD [3, 1, 2] [0] rfl rfl (by decide) (by decide) hk1 hFc hP1 hD1
      generalize H1 = H at hP hS ⊢
      obtain ⟨fs_398, efs_398⟩ : ∃ z : List Value, z = fs_376.set 45 (.int 0) := ⟨_, rfl⟩
      have glfs_398 : fs_398.length = 68 := fs_len efs_398 glfs_376
      have hP : va_P (dC, dI) vwCl [(m_rf, .inl (cI, 16, .inl frf)), (h0, .inr (10, fs_398)), (m_mk, .inl (cI, 42, .inl f_395))] H := by rw [efs_398]; exact hP
      have hD : va_D A [(m_rf, .inl (cI, 16, .inl frf)), (h0, .inr (10, fs_398)), (m_mk, .inl (cI, 42, .inl f_395))] := by rw [efs_398]; exact hD
      refine lv_aload_n hx hb dX11_mark_93 rfl (lv_at hl 1 rfl) ?_
      refine va_get (D := (dC, dI)) (ci := 10) (v := .ref m_mk) (C := RX11) (T := TX11) (N := 68) hx hb hts iwwsX11_mark_11 hown hK hP 1 rfl rfl 42 (by decide) (hts (.fieldLink RX11 93 "NothingJudgeModel" "marks" "[I") fwwsX11_mark_93) (fun _ h9 => h9) (fs_ne efs_398 (by decide) (fs_ne efs_376 (by decide) g_fs_42)) dX11_mark_94 ?_
      refine lv_iload_n hx hb dX11_mark_97 rfl (lv_at hl 2 rfl) ?_
      refine lv_if_ne (tgt := 109) hx hb dX11_mark_98 (by decide) (fun _ => ?_) (fun c9 => absurd c9 (by decide))
      refine lv_iload_n hx hb dX11_mark_109 rfl (lv_at hl 2 rfl) ?_
      refine lv_iconst (v := 1) hx hb dX11_mark_110 (by decide) ?_
      refine lv_icmp_ne (tgt := 121) hx hb dX11_mark_111 (by decide) (fun _ => ?_) (fun c9 => absurd c9 (by decide))
      refine lv_bipush (v := 40) hx hb dX11_mark_121 (by decide) ?_
      refine lv_iload_n hx hb dX11_mark_123 rfl (lv_at hl 4 rfl) ?_
      refine lv_iadd hx hb dX11_mark_124 ?_
      refine lv_topi (fun y_399 ey_399 => ?_)
      obtain rfl : y_399 = 41 := ey_399.trans (by decide)
      refine va_iald hx hb hK hP 2 0 rfl rfl (by unfold vp_in; decide) dX11_mark_125 ?_
      refine lv_topi (fun y_400 ey_400 => ?_)
      obtain rfl : y_400 = 0 := ey_400.trans (hf_396 _ (by decide))
      subst efs_398
      subst efs_376
      have hP9 := hP.sub (ws' := []) [] rfl
      have hD9 := hD.sub (ws' := []) [] (by decide) rfl
      exact W.iret (v := 0) hx hb hr (fun t ht hW => ⟨⟨0, (), rfl, rfl, by rw [ht]; exact hP9, hD9⟩, hS.F ht⟩) hS.2.2 dX11_mark_126

set_option maxHeartbeats 4000000 in
set_option maxRecDepth 100000 in
theorem m_markN (l : Launch) (dC : Nat → ClassId) (dI : Nat → Nat → Nat) (cI cB cL cZ : ClassId) (h0 : Nat) (m_rf : Nat) (kd : Int32) (r : Int32) (k : Int32) (fs : List Value) (frf : Nat → Int32) (sz : Nat) (gl_fs : fs.length = 68) (g_fs_19 : fs[19]? = some (.ref m_rf)) (hrf : ∀ j, j < 16 → frf j = -1) (hn9 : ¬ (kd = 2 ∧ (k = 0 ∨ k = 1))) : Met l yX11_mark wsX11_mark ({ frames := 0, cells := 0, slots := 0, locals := 0 }) (cP (dC, dI) (kTy cI cB cL cZ) [.ref h0, .int kd, .int r, .int k] [(h0, .inr (10, fs)), (m_rf, .inl (cI, 16, .inl frf))] sz) (va_Qi (fun (r : Int32) (_ : Unit) => r = -1) (fun (_ : Unit) (t : State) => va_P (dC, dI) vwCl [] t.heap ∧ va_D (va_A [(h0, .inr (10, fs)), (m_rf, .inl (cI, 16, .inl frf))] sz) []) (va_A [(h0, .inr (10, fs)), (m_rf, .inl (cI, 16, .inl frf))] sz)) 0 0 (va_A [(h0, .inr (10, fs)), (m_rf, .inl (cI, 16, .inl frf))] sz) := by
  refine Met.ofW (cc := cX11_mark) (maxL := 5) (ret := (some .int)) (by decide) rfl ?_
  intro p e s m args below meth c s₁ B hml hv
  obtain ⟨rfl, hsz, hP, hK, hD0, hN⟩ := hv
  have hx := B.exec
  have hb := B.bytes
  have hr := B.returns
  have hts := atoms_spec (ws := wsX11_mark) B.pre
  have hown : s.vm.findClass RX11 = some m.cls := findClass_of_methodNamed B.named
  have hlocks := B.notSynchronized
  subst hsz
  have hD := hD0.self (sz := s.heap.size)
  generalize hAe : va_A [(h0, .inr (10, fs)), (m_rf, .inl (cI, 16, .inl frf))] s.heap.size = A at hD ⊢
  have hA : ∀ q : Nat, s.heap.size ≤ q → A q := fun q h => by rw [← hAe]; exact Or.inr h
  have hl := lv_entry ([.ref h0, .int kd, .int r, .int k]) (n := 5) (Nat.le_of_ble_eq_true rfl)
  rw [lg_entry_eq]
  generalize (lg_sl ([.ref h0, .int kd, .int r, .int k]) ++ List.replicate (5 - (lg_sl ([.ref h0, .int kd, .int r, .int k])).length) Slot.unset).toArray = ls at hl ⊢
  have hl : lv_has ls 5 [(0, .ref h0), (1, .int kd), (2, .int r), (3, .int k)] := hl
  refine k_H (A := A) hP (fun H hP hS => ?_)
  have hP : va_P (dC, dI) vwCl [(h0, .inr (10, fs)), (m_rf, .inl (cI, 16, .inl frf))] H := hP
  have hD : va_D A [(h0, .inr (10, fs)), (m_rf, .inl (cI, 16, .inl frf))] := hD
  refine lv_aload_n hx hb dX11_mark_0 rfl (lv_at hl 0 rfl) ?_
  refine lv_iconst (v := 0) hx hb dX11_mark_1 (by decide) ?_
  refine va_put (D := (dC, dI)) (ci := 10) (v := .int 0) (ty := .int) (C := RX11) (T := TX11) (N := 68) hx hb hts iwwsX11_mark_11 tyX11 tyX11_ok nmX11 hown hK hP hD hS 0 rfl rfl 0 (by decide) (hts (.fieldLink RX11 121 "NothingJudgeModel" "thrown" "I") fwwsX11_mark_121) (fun _ h9 => h9) rfl (by decide +kernel) rfl rfl (by rw [gl_fs]; decide) dX11_mark_2 (fun H locs hP hD hS => ?_)
  obtain ⟨fs_401, efs_401⟩ : ∃ z : List Value, z = fs.set 0 (.int 0) := ⟨_, rfl⟩
  have glfs_401 : fs_401.length = 68 := fs_len efs_401 gl_fs
  have hP : va_P (dC, dI) vwCl [(h0, .inr (10, fs_401)), (m_rf, .inl (cI, 16, .inl frf))] H := by rw [efs_401]; exact hP
  have hD : va_D A [(h0, .inr (10, fs_401)), (m_rf, .inl (cI, 16, .inl frf))] := by rw [efs_401]; exact hD
  refine lv_iload_n hx hb dX11_mark_5 rfl (lv_at hl 2 rfl) ?_
  refine lv_if_lt (tgt := 29) hx hb dX11_mark_6 (by decide) (fun c_402 => ?_) (fun c_402 => ?_)
  · refine lv_iconst (v := 0) hx hb dX11_mark_29 (by decide) ?_
    refine lv_istore (lv' := [(4, .int 0), (0, .ref h0), (1, .int kd), (2, .int r), (3, .int k)]) hx hb dX11_mark_30 hl (by decide) rfl (fun ls hl => ?_)
    refine lv_iload_n hx hb dX11_mark_32 rfl (lv_at hl 2 rfl) ?_
    refine lv_if_lt (tgt := 83) hx hb dX11_mark_33 (by decide) (fun c_403 => ?_) (fun c_403 => ?_)
    · refine lv_iconst (v := (-1)) hx hb dX11_mark_83 (by decide) ?_
      subst efs_401
      have hP9 := hP.sub (ws' := []) [] rfl
      have hD9 := hD.sub (ws' := []) [] (by decide) rfl
      exact W.iret (v := (-1)) hx hb hr (fun t ht hW => ⟨⟨(-1), (), rfl, rfl, by rw [ht]; exact hP9, hD9⟩, hS.F ht⟩) hS.2.2 dX11_mark_84
    · refine lv_iload_n hx hb dX11_mark_36 rfl (lv_at hl 2 rfl) ?_
      refine lv_iconst (v := 2) hx hb dX11_mark_37 (by decide) ?_
      refine lv_icmp_gt (tgt := 83) hx hb dX11_mark_38 (by decide) (fun c_404 => ?_) (fun c_404 => ?_)
      · refine lv_iconst (v := (-1)) hx hb dX11_mark_83 (by decide) ?_
        subst efs_401
        have hP9 := hP.sub (ws' := []) [] rfl
        have hD9 := hD.sub (ws' := []) [] (by decide) rfl
        exact W.iret (v := (-1)) hx hb hr (fun t ht hW => ⟨⟨(-1), (), rfl, rfl, by rw [ht]; exact hP9, hD9⟩, hS.F ht⟩) hS.2.2 dX11_mark_84
      · refine lv_iload_n hx hb dX11_mark_41 rfl (lv_at hl 2 rfl) ?_
        refine lv_iconst (v := 2) hx hb dX11_mark_42 (by decide) ?_
        refine lv_icmp_ge (tgt := 51) hx hb dX11_mark_43 (by decide) (fun c_405 => ?_) (fun c_405 => ?_)
        · refine lv_iload_n hx hb dX11_mark_51 rfl (lv_at hl 2 rfl) ?_
          refine lv_if_ne (tgt := 69) hx hb dX11_mark_52 (by decide) (fun _ => ?_) (fun c9 => absurd c9 (fun h9 => absurd (h9 ▸ c_405 : (2 : Int32) ≤ 0) (by decide)))
          refine lv_iload_n hx hb dX11_mark_69 rfl (lv_at hl 2 rfl) ?_
          refine lv_iconst (v := 2) hx hb dX11_mark_70 (by decide) ?_
          refine lv_icmp_ne (tgt := 85) hx hb dX11_mark_71 (by decide) (fun c9 => absurd c9 (fun h9 => h9 (Int32.le_antisymm (Int32.not_lt.mp c_404) c_405))) (fun _ => ?_)
          refine lv_iload_n hx hb dX11_mark_74 rfl (lv_at hl 4 rfl) ?_
          refine lv_if_lt (tgt := 83) hx hb dX11_mark_75 (by decide) (fun c_406 => ?_) (fun c_406 => ?_)
          · refine lv_iconst (v := (-1)) hx hb dX11_mark_83 (by decide) ?_
            subst efs_401
            have hP9 := hP.sub (ws' := []) [] rfl
            have hD9 := hD.sub (ws' := []) [] (by decide) rfl
            exact W.iret (v := (-1)) hx hb hr (fun t ht hW => ⟨⟨(-1), (), rfl, rfl, by rw [ht]; exact hP9, hD9⟩, hS.F ht⟩) hS.2.2 dX11_mark_84
          · refine lv_iload_n hx hb dX11_mark_78 rfl (lv_at hl 4 rfl) ?_
            refine lv_iconst (v := 1) hx hb dX11_mark_79 (by decide) ?_
            refine lv_icmp_le (tgt := 85) hx hb dX11_mark_80 (by decide) (fun c9 => absurd c9 (k_no (fun h9 => hn9 ⟨Int32.le_antisymm (Int32.not_lt.mp c_404) c_405, h9⟩) c_406)) (fun _ => ?_)
            refine lv_iconst (v := (-1)) hx hb dX11_mark_83 (by decide) ?_
            subst efs_401
            have hP9 := hP.sub (ws' := []) [] rfl
            have hD9 := hD.sub (ws' := []) [] (by decide) rfl
            exact W.iret (v := (-1)) hx hb hr (fun t ht hW => ⟨⟨(-1), (), rfl, rfl, by rw [ht]; exact hP9, hD9⟩, hS.F ht⟩) hS.2.2 dX11_mark_84
        · refine lv_iload hx hb dX11_mark_46 (lv_at hl 0 rfl) ?_
          refine lv_if_eq (tgt := 83) hx hb dX11_mark_48 (by decide) (fun _ => ?_) (fun c9 => absurd (by decide) c9)
          refine lv_iconst (v := (-1)) hx hb dX11_mark_83 (by decide) ?_
          subst efs_401
          have hP9 := hP.sub (ws' := []) [] rfl
          have hD9 := hD.sub (ws' := []) [] (by decide) rfl
          exact W.iret (v := (-1)) hx hb hr (fun t ht hW => ⟨⟨(-1), (), rfl, rfl, by rw [ht]; exact hP9, hD9⟩, hS.F ht⟩) hS.2.2 dX11_mark_84
  · refine lv_iload_n hx hb dX11_mark_9 rfl (lv_at hl 2 rfl) ?_
    refine lv_bipush (v := 8) hx hb dX11_mark_10 (by decide) ?_
    refine lv_icmp_ge (tgt := 29) hx hb dX11_mark_12 (by decide) (fun c_407 => ?_) (fun c_407 => ?_)
    · refine lv_iconst (v := 0) hx hb dX11_mark_29 (by decide) ?_
      refine lv_istore (lv' := [(4, .int 0), (0, .ref h0), (1, .int kd), (2, .int r), (3, .int k)]) hx hb dX11_mark_30 hl (by decide) rfl (fun ls hl => ?_)
      refine lv_iload_n hx hb dX11_mark_32 rfl (lv_at hl 2 rfl) ?_
      refine lv_if_lt (tgt := 83) hx hb dX11_mark_33 (by decide) (fun c_408 => ?_) (fun c_408 => ?_)
      · refine lv_iconst (v := (-1)) hx hb dX11_mark_83 (by decide) ?_
        subst efs_401
        have hP9 := hP.sub (ws' := []) [] rfl
        have hD9 := hD.sub (ws' := []) [] (by decide) rfl
        exact W.iret (v := (-1)) hx hb hr (fun t ht hW => ⟨⟨(-1), (), rfl, rfl, by rw [ht]; exact hP9, hD9⟩, hS.F ht⟩) hS.2.2 dX11_mark_84
      · refine lv_iload_n hx hb dX11_mark_36 rfl (lv_at hl 2 rfl) ?_
        refine lv_iconst (v := 2) hx hb dX11_mark_37 (by decide) ?_
        refine lv_icmp_gt (tgt := 83) hx hb dX11_mark_38 (by decide) (fun c_409 => ?_) (fun c_409 => ?_)
        · refine lv_iconst (v := (-1)) hx hb dX11_mark_83 (by decide) ?_
          subst efs_401
          have hP9 := hP.sub (ws' := []) [] rfl
          have hD9 := hD.sub (ws' := []) [] (by decide) rfl
          exact W.iret (v := (-1)) hx hb hr (fun t ht hW => ⟨⟨(-1), (), rfl, rfl, by rw [ht]; exact hP9, hD9⟩, hS.F ht⟩) hS.2.2 dX11_mark_84
        · refine lv_iload_n hx hb dX11_mark_41 rfl (lv_at hl 2 rfl) ?_
          refine lv_iconst (v := 2) hx hb dX11_mark_42 (by decide) ?_
          refine lv_icmp_ge (tgt := 51) hx hb dX11_mark_43 (by decide) (fun c_410 => ?_) (fun c_410 => ?_)
          · refine lv_iload_n hx hb dX11_mark_51 rfl (lv_at hl 2 rfl) ?_
            refine lv_if_ne (tgt := 69) hx hb dX11_mark_52 (by decide) (fun _ => ?_) (fun c9 => absurd c9 (fun h9 => absurd (h9 ▸ c_410 : (2 : Int32) ≤ 0) (by decide)))
            refine lv_iload_n hx hb dX11_mark_69 rfl (lv_at hl 2 rfl) ?_
            refine lv_iconst (v := 2) hx hb dX11_mark_70 (by decide) ?_
            refine lv_icmp_ne (tgt := 85) hx hb dX11_mark_71 (by decide) (fun c9 => absurd c9 (fun h9 => h9 (Int32.le_antisymm (Int32.not_lt.mp c_409) c_410))) (fun _ => ?_)
            refine lv_iload_n hx hb dX11_mark_74 rfl (lv_at hl 4 rfl) ?_
            refine lv_if_lt (tgt := 83) hx hb dX11_mark_75 (by decide) (fun c_411 => ?_) (fun c_411 => ?_)
            · refine lv_iconst (v := (-1)) hx hb dX11_mark_83 (by decide) ?_
              subst efs_401
              have hP9 := hP.sub (ws' := []) [] rfl
              have hD9 := hD.sub (ws' := []) [] (by decide) rfl
              exact W.iret (v := (-1)) hx hb hr (fun t ht hW => ⟨⟨(-1), (), rfl, rfl, by rw [ht]; exact hP9, hD9⟩, hS.F ht⟩) hS.2.2 dX11_mark_84
            · refine lv_iload_n hx hb dX11_mark_78 rfl (lv_at hl 4 rfl) ?_
              refine lv_iconst (v := 1) hx hb dX11_mark_79 (by decide) ?_
              refine lv_icmp_le (tgt := 85) hx hb dX11_mark_80 (by decide) (fun c9 => absurd c9 (k_no (fun h9 => hn9 ⟨Int32.le_antisymm (Int32.not_lt.mp c_409) c_410, h9⟩) c_411)) (fun _ => ?_)
              refine lv_iconst (v := (-1)) hx hb dX11_mark_83 (by decide) ?_
              subst efs_401
              have hP9 := hP.sub (ws' := []) [] rfl
              have hD9 := hD.sub (ws' := []) [] (by decide) rfl
              exact W.iret (v := (-1)) hx hb hr (fun t ht hW => ⟨⟨(-1), (), rfl, rfl, by rw [ht]; exact hP9, hD9⟩, hS.F ht⟩) hS.2.2 dX11_mark_84
          · refine lv_iload hx hb dX11_mark_46 (lv_at hl 0 rfl) ?_
            refine lv_if_eq (tgt := 83) hx hb dX11_mark_48 (by decide) (fun _ => ?_) (fun c9 => absurd (by decide) c9)
            refine lv_iconst (v := (-1)) hx hb dX11_mark_83 (by decide) ?_
            subst efs_401
            have hP9 := hP.sub (ws' := []) [] rfl
            have hD9 := hD.sub (ws' := []) [] (by decide) rfl
            exact W.iret (v := (-1)) hx hb hr (fun t ht hW => ⟨⟨(-1), (), rfl, rfl, by rw [ht]; exact hP9, hD9⟩, hS.F ht⟩) hS.2.2 dX11_mark_84
    · refine lv_aload_n hx hb dX11_mark_15 rfl (lv_at hl 0 rfl) ?_
      refine va_get (D := (dC, dI)) (ci := 10) (v := .ref m_rf) (C := RX11) (T := TX11) (N := 68) hx hb hts iwwsX11_mark_11 hown hK hP 0 rfl rfl 19 (by decide) (hts (.fieldLink RX11 32 "NothingJudgeModel" "routineFrom" "[I") fwwsX11_mark_32) (fun _ h9 => h9) (fs_ne efs_401 (by decide) g_fs_19) dX11_mark_16 ?_
      refine lv_iload_n hx hb dX11_mark_19 rfl (lv_at hl 2 rfl) ?_
      refine va_iald hx hb hK hP 1 0 rfl rfl (in_of (y := 16) (by decide) c_402 (fun h9 => c_407 (Int32.le_trans (by decide) h9)) (by decide)) dX11_mark_20 ?_
      refine lv_topi (fun y_412 ey_412 => ?_)
      obtain rfl : y_412 = (-1) := ey_412.trans (hrf _ (cl_of (y := 16) (by decide) c_402 (fun h9 => c_407 (Int32.le_trans (by decide) h9))))
      refine lv_iconst (v := (-1)) hx hb dX11_mark_21 (by decide) ?_
      refine lv_icmp_eq (tgt := 29) hx hb dX11_mark_22 (by decide) (fun _ => ?_) (fun c9 => absurd (by decide) c9)
      refine lv_iconst (v := 0) hx hb dX11_mark_29 (by decide) ?_
      refine lv_istore (lv' := [(4, .int 0), (0, .ref h0), (1, .int kd), (2, .int r), (3, .int k)]) hx hb dX11_mark_30 hl (by decide) rfl (fun ls hl => ?_)
      refine lv_iload_n hx hb dX11_mark_32 rfl (lv_at hl 2 rfl) ?_
      refine lv_if_lt (tgt := 83) hx hb dX11_mark_33 (by decide) (fun c_413 => ?_) (fun c_413 => ?_)
      · refine lv_iconst (v := (-1)) hx hb dX11_mark_83 (by decide) ?_
        subst efs_401
        have hP9 := hP.sub (ws' := []) [] rfl
        have hD9 := hD.sub (ws' := []) [] (by decide) rfl
        exact W.iret (v := (-1)) hx hb hr (fun t ht hW => ⟨⟨(-1), (), rfl, rfl, by rw [ht]; exact hP9, hD9⟩, hS.F ht⟩) hS.2.2 dX11_mark_84
      · refine lv_iload_n hx hb dX11_mark_36 rfl (lv_at hl 2 rfl) ?_
        refine lv_iconst (v := 2) hx hb dX11_mark_37 (by decide) ?_
        refine lv_icmp_gt (tgt := 83) hx hb dX11_mark_38 (by decide) (fun c_414 => ?_) (fun c_414 => ?_)
        · refine lv_iconst (v := (-1)) hx hb dX11_mark_83 (by decide) ?_
          subst efs_401
          have hP9 := hP.sub (ws' := []) [] rfl
          have hD9 := hD.sub (ws' := []) [] (by decide) rfl
          exact W.iret (v := (-1)) hx hb hr (fun t ht hW => ⟨⟨(-1), (), rfl, rfl, by rw [ht]; exact hP9, hD9⟩, hS.F ht⟩) hS.2.2 dX11_mark_84
        · refine lv_iload_n hx hb dX11_mark_41 rfl (lv_at hl 2 rfl) ?_
          refine lv_iconst (v := 2) hx hb dX11_mark_42 (by decide) ?_
          refine lv_icmp_ge (tgt := 51) hx hb dX11_mark_43 (by decide) (fun c_415 => ?_) (fun c_415 => ?_)
          · refine lv_iload_n hx hb dX11_mark_51 rfl (lv_at hl 2 rfl) ?_
            refine lv_if_ne (tgt := 69) hx hb dX11_mark_52 (by decide) (fun _ => ?_) (fun c9 => absurd c9 (fun h9 => absurd (h9 ▸ c_415 : (2 : Int32) ≤ 0) (by decide)))
            refine lv_iload_n hx hb dX11_mark_69 rfl (lv_at hl 2 rfl) ?_
            refine lv_iconst (v := 2) hx hb dX11_mark_70 (by decide) ?_
            refine lv_icmp_ne (tgt := 85) hx hb dX11_mark_71 (by decide) (fun c9 => absurd c9 (fun h9 => h9 (Int32.le_antisymm (Int32.not_lt.mp c_414) c_415))) (fun _ => ?_)
            refine lv_iload_n hx hb dX11_mark_74 rfl (lv_at hl 4 rfl) ?_
            refine lv_if_lt (tgt := 83) hx hb dX11_mark_75 (by decide) (fun c_416 => ?_) (fun c_416 => ?_)
            · refine lv_iconst (v := (-1)) hx hb dX11_mark_83 (by decide) ?_
              subst efs_401
              have hP9 := hP.sub (ws' := []) [] rfl
              have hD9 := hD.sub (ws' := []) [] (by decide) rfl
              exact W.iret (v := (-1)) hx hb hr (fun t ht hW => ⟨⟨(-1), (), rfl, rfl, by rw [ht]; exact hP9, hD9⟩, hS.F ht⟩) hS.2.2 dX11_mark_84
            · refine lv_iload_n hx hb dX11_mark_78 rfl (lv_at hl 4 rfl) ?_
              refine lv_iconst (v := 1) hx hb dX11_mark_79 (by decide) ?_
              refine lv_icmp_le (tgt := 85) hx hb dX11_mark_80 (by decide) (fun c9 => absurd c9 (k_no (fun h9 => hn9 ⟨Int32.le_antisymm (Int32.not_lt.mp c_414) c_415, h9⟩) c_416)) (fun _ => ?_)
              refine lv_iconst (v := (-1)) hx hb dX11_mark_83 (by decide) ?_
              subst efs_401
              have hP9 := hP.sub (ws' := []) [] rfl
              have hD9 := hD.sub (ws' := []) [] (by decide) rfl
              exact W.iret (v := (-1)) hx hb hr (fun t ht hW => ⟨⟨(-1), (), rfl, rfl, by rw [ht]; exact hP9, hD9⟩, hS.F ht⟩) hS.2.2 dX11_mark_84
          · refine lv_iload hx hb dX11_mark_46 (lv_at hl 0 rfl) ?_
            refine lv_if_eq (tgt := 83) hx hb dX11_mark_48 (by decide) (fun _ => ?_) (fun c9 => absurd (by decide) c9)
            refine lv_iconst (v := (-1)) hx hb dX11_mark_83 (by decide) ?_
            subst efs_401
            have hP9 := hP.sub (ws' := []) [] rfl
            have hD9 := hD.sub (ws' := []) [] (by decide) rfl
            exact W.iret (v := (-1)) hx hb hr (fun t ht hW => ⟨⟨(-1), (), rfl, rfl, by rw [ht]; exact hP9, hD9⟩, hS.F ht⟩) hS.2.2 dX11_mark_84

set_option maxHeartbeats 4000000 in
set_option maxRecDepth 100000 in
theorem m_count0 (l : Launch) (dC : Nat → ClassId) (dI : Nat → Nat → Nat) (cI cB cL cZ : ClassId) (h0 : Nat) (m_rf : Nat) (m_um : Nat) (m_tm : Nat) (fs : List Value) (frf : Nat → Int32) (fu : Nat → Int32) (ft : Nat → Int32) (sz : Nat) (gl_fs : fs.length = 68) (g_fs_19 : fs[19]? = some (.ref m_rf)) (g_fs_26 : fs[26]? = some (.ref m_um)) (g_fs_29 : fs[29]? = some (.ref m_tm)) (g_fs_39 : fs[39]? = some (.int (-1))) (hrf : ∀ j, j < 16 → frf j = -1) (hu : fu ((0 : Int32).toNatClampNeg) = 0) (ht : ft ((0 : Int32).toNatClampNeg) = 0) : Met l yX11_count wsX11_count ({ frames := 1, cells := 0, slots := 0, locals := 22 }) (cP (dC, dI) (kTy cI cB cL cZ) [.ref h0, .int 0] [(h0, .inr (10, fs)), (m_rf, .inl (cI, 16, .inl frf)), (m_um, .inl (cI, 2, .inl fu)), (m_tm, .inl (cI, 2, .inl ft))] sz) (va_Qi (fun (r : Int32) (_ : Unit) => r = 0) (fun (_ : Unit) (t : State) => va_P (dC, dI) vwCl [] t.heap ∧ va_D (va_A [(h0, .inr (10, fs)), (m_rf, .inl (cI, 16, .inl frf)), (m_um, .inl (cI, 2, .inl fu)), (m_tm, .inl (cI, 2, .inl ft))] sz) []) (va_A [(h0, .inr (10, fs)), (m_rf, .inl (cI, 16, .inl frf)), (m_um, .inl (cI, 2, .inl fu)), (m_tm, .inl (cI, 2, .inl ft))] sz)) 0 0 (va_A [(h0, .inr (10, fs)), (m_rf, .inl (cI, 16, .inl frf)), (m_um, .inl (cI, 2, .inl fu)), (m_tm, .inl (cI, 2, .inl ft))] sz) := by
  refine Met.ofW (cc := cX11_count) (maxL := 5) (ret := (some .int)) (by decide) rfl ?_
  intro p e s m args below meth c s₁ B hml hv
  obtain ⟨rfl, hsz, hP, hK, hD0, hN⟩ := hv
  have hx := B.exec
  have hb := B.bytes
  have hr := B.returns
  have hts := atoms_spec (ws := wsX11_count) B.pre
  have hown : s.vm.findClass RX11 = some m.cls := findClass_of_methodNamed B.named
  have hlocks := B.notSynchronized
  subst hsz
  have hD := hD0.self (sz := s.heap.size)
  generalize hAe : va_A [(h0, .inr (10, fs)), (m_rf, .inl (cI, 16, .inl frf)), (m_um, .inl (cI, 2, .inl fu)), (m_tm, .inl (cI, 2, .inl ft))] s.heap.size = A at hD ⊢
  have hA : ∀ q : Nat, s.heap.size ≤ q → A q := fun q h => by rw [← hAe]; exact Or.inr h
  have hl := lv_entry ([.ref h0, .int 0]) (n := 5) (Nat.le_of_ble_eq_true rfl)
  rw [lg_entry_eq]
  generalize (lg_sl ([.ref h0, .int 0]) ++ List.replicate (5 - (lg_sl ([.ref h0, .int 0])).length) Slot.unset).toArray = ls at hl ⊢
  have hl : lv_has ls 5 [(0, .ref h0), (1, .int 0)] := hl
  refine k_H (A := A) hP (fun H hP hS => ?_)
  have hP : va_P (dC, dI) vwCl [(h0, .inr (10, fs)), (m_rf, .inl (cI, 16, .inl frf)), (m_um, .inl (cI, 2, .inl fu)), (m_tm, .inl (cI, 2, .inl ft))] H := hP
  have hD : va_D A [(h0, .inr (10, fs)), (m_rf, .inl (cI, 16, .inl frf)), (m_um, .inl (cI, 2, .inl fu)), (m_tm, .inl (cI, 2, .inl ft))] := hD
  refine lv_aload_n hx hb dX11_count_0 rfl (lv_at hl 0 rfl) ?_
  refine lv_iconst (v := 0) hx hb dX11_count_1 (by decide) ?_
  refine va_put (D := (dC, dI)) (ci := 10) (v := .int 0) (ty := .int) (C := RX11) (T := TX11) (N := 68) hx hb hts iwwsX11_count_11 tyX11 tyX11_ok nmX11 hown hK hP hD hS 0 rfl rfl 0 (by decide) (hts (.fieldLink RX11 121 "NothingJudgeModel" "thrown" "I") fwwsX11_count_121) (fun _ h9 => h9) rfl (by decide +kernel) rfl rfl (by rw [gl_fs]; decide) dX11_count_2 (fun H locs hP hD hS => ?_)
  obtain ⟨fs_417, efs_417⟩ : ∃ z : List Value, z = fs.set 0 (.int 0) := ⟨_, rfl⟩
  have glfs_417 : fs_417.length = 68 := fs_len efs_417 gl_fs
  have hP : va_P (dC, dI) vwCl [(h0, .inr (10, fs_417)), (m_rf, .inl (cI, 16, .inl frf)), (m_um, .inl (cI, 2, .inl fu)), (m_tm, .inl (cI, 2, .inl ft))] H := by rw [efs_417]; exact hP
  have hD : va_D A [(h0, .inr (10, fs_417)), (m_rf, .inl (cI, 16, .inl frf)), (m_um, .inl (cI, 2, .inl fu)), (m_tm, .inl (cI, 2, .inl ft))] := by rw [efs_417]; exact hD
  refine lv_iconst (v := 0) hx hb dX11_count_5 (by decide) ?_
  refine lv_istore_n (lv' := [(2, .int 0), (0, .ref h0), (1, .int 0)]) hx hb dX11_count_6 rfl hl (by decide) rfl (fun ls hl => ?_)
  refine lv_iconst (v := 0) hx hb dX11_count_7 (by decide) ?_
  refine lv_istore_n (lv' := [(3, .int 0), (2, .int 0), (0, .ref h0), (1, .int 0)]) hx hb dX11_count_8 rfl hl (by decide) rfl (fun ls hl => ?_)
  refine lv_iload_n hx hb dX11_count_9 rfl (lv_at hl 3 rfl) ?_
  refine lv_iconst (v := 4) hx hb dX11_count_10 (by decide) ?_
  refine lv_icmp_eq (tgt := 19) hx hb dX11_count_11 (by decide) (fun c9 => absurd c9 (by decide)) (fun _ => ?_)
  refine lv_iload_n hx hb dX11_count_14 rfl (lv_at hl 3 rfl) ?_
  refine lv_iconst (v := 5) hx hb dX11_count_15 (by decide) ?_
  refine lv_icmp_ne (tgt := 83) hx hb dX11_count_16 (by decide) (fun _ => ?_) (fun c9 => absurd c9 (by decide))
  refine lv_iload_n hx hb dX11_count_83 rfl (lv_at hl 3 rfl) ?_
  refine lv_tableIn (off := 40) (tgt := 124) hx hb dX11_count_84 (by decide) (by decide) (by decide) (by decide) ?_
  refine lv_aload_n hx hb dX11_count_124 rfl (lv_at hl 2 rfl) ?_
  have hPc := hP.sub (ws' := [(h0, .inr (10, fs_417)), (m_rf, .inl (cI, 16, .inl frf))]) [0, 1] rfl
  have hDc := hD.sub (ws' := [(h0, .inr (10, fs_417)), (m_rf, .inl (cI, 16, .inl frf))]) [0, 1] (by decide) rfl
  have hFc := va_free (wc := [(h0, .inr (10, fs_417)), (m_rf, .inl (cI, 16, .inl frf))]) hD hS hA [0, 1] rfl
  refine va_calli (va_runV (As := []) (rest := []) ⟨hx, hb, hml, hown, hts⟩ (c_rmany l dC dI cI cB cL cZ (h0) (m_rf) (fs_417) (frf) H.size glfs_417 (fs_ne efs_417 (by decide) g_fs_19) (hrf)) (cwV 0 hts gX11_count_X11_routinesMany rfl rfl rfl (by decide +kernel) ⟨Nat.le_of_ble_eq_true rfl, Nat.le_of_ble_eq_true rfl⟩) ⟨cP_fb, va_recv hK hPc (ci := 10) (q0 := 0) rfl rfl, fun U hU hW => cP_pre hPc hK hDc hN U hU hW⟩ rfl rfl hl.1 rfl (lv_room (Nat.le_of_ble_eq_true rfl)) dX11_count_125 ⟨Nat.le_of_ble_eq_true rfl, Nat.le_of_ble_eq_true rfl⟩) hS (fun q _ h => hFc q h) hFc (fun r_418 u t H1 locs ht hvm hw hB hz1 hk1 hS => ?_)
  obtain ⟨hP1, hD1⟩ := hB
  rw [ht] at hP1
  obtain ⟨hP, hD⟩ := va_join (wr := [(m_um, .inl (cI, 2, .inl fu)), (m_tm, .inl (cI, 2, .inl ft))]) (w1 := [(h0, .inr (10, fs_417))]) hP hD [0, 1] [2, 3] rfl rfl (by decide) (by decide) hk1 hFc hP1 hD1
  generalize H1 = H at hP hS ⊢
  have hP : va_P (dC, dI) vwCl [(m_um, .inl (cI, 2, .inl fu)), (m_tm, .inl (cI, 2, .inl ft)), (h0, .inr (10, fs_417))] H := hP
  have hD : va_D A [(m_um, .inl (cI, 2, .inl fu)), (m_tm, .inl (cI, 2, .inl ft)), (h0, .inr (10, fs_417))] := hD
  obtain rfl : r_418 = 0 := hw
  subst efs_417
  have hP9 := hP.sub (ws' := []) [] rfl
  have hD9 := hD.sub (ws' := []) [] (by decide) rfl
  exact W.iret (v := 0) hx hb hr (fun t ht hW => ⟨⟨0, (), rfl, rfl, by rw [ht]; exact hP9, hD9⟩, hS.F ht⟩) hS.2.2 dX11_count_128

set_option maxHeartbeats 4000000 in
set_option maxRecDepth 100000 in
theorem m_count1 (l : Launch) (dC : Nat → ClassId) (dI : Nat → Nat → Nat) (cI cB cL cZ : ClassId) (h0 : Nat) (m_rf : Nat) (m_um : Nat) (m_tm : Nat) (fs : List Value) (frf : Nat → Int32) (fu : Nat → Int32) (ft : Nat → Int32) (sz : Nat) (gl_fs : fs.length = 68) (g_fs_19 : fs[19]? = some (.ref m_rf)) (g_fs_26 : fs[26]? = some (.ref m_um)) (g_fs_29 : fs[29]? = some (.ref m_tm)) (g_fs_39 : fs[39]? = some (.int (-1))) (hrf : ∀ j, j < 16 → frf j = -1) (hu : fu ((0 : Int32).toNatClampNeg) = 0) (ht : ft ((0 : Int32).toNatClampNeg) = 0) : Met l yX11_count wsX11_count ({ frames := 0, cells := 0, slots := 0, locals := 0 }) (cP (dC, dI) (kTy cI cB cL cZ) [.ref h0, .int 1] [(h0, .inr (10, fs)), (m_rf, .inl (cI, 16, .inl frf)), (m_um, .inl (cI, 2, .inl fu)), (m_tm, .inl (cI, 2, .inl ft))] sz) (va_Qi (fun (r : Int32) (_ : Unit) => r = 0) (fun (_ : Unit) (t : State) => va_P (dC, dI) vwCl [] t.heap ∧ va_D (va_A [(h0, .inr (10, fs)), (m_rf, .inl (cI, 16, .inl frf)), (m_um, .inl (cI, 2, .inl fu)), (m_tm, .inl (cI, 2, .inl ft))] sz) []) (va_A [(h0, .inr (10, fs)), (m_rf, .inl (cI, 16, .inl frf)), (m_um, .inl (cI, 2, .inl fu)), (m_tm, .inl (cI, 2, .inl ft))] sz)) 0 0 (va_A [(h0, .inr (10, fs)), (m_rf, .inl (cI, 16, .inl frf)), (m_um, .inl (cI, 2, .inl fu)), (m_tm, .inl (cI, 2, .inl ft))] sz) := by
  refine Met.ofW (cc := cX11_count) (maxL := 5) (ret := (some .int)) (by decide) rfl ?_
  intro p e s m args below meth c s₁ B hml hv
  obtain ⟨rfl, hsz, hP, hK, hD0, hN⟩ := hv
  have hx := B.exec
  have hb := B.bytes
  have hr := B.returns
  have hts := atoms_spec (ws := wsX11_count) B.pre
  have hown : s.vm.findClass RX11 = some m.cls := findClass_of_methodNamed B.named
  have hlocks := B.notSynchronized
  subst hsz
  have hD := hD0.self (sz := s.heap.size)
  generalize hAe : va_A [(h0, .inr (10, fs)), (m_rf, .inl (cI, 16, .inl frf)), (m_um, .inl (cI, 2, .inl fu)), (m_tm, .inl (cI, 2, .inl ft))] s.heap.size = A at hD ⊢
  have hA : ∀ q : Nat, s.heap.size ≤ q → A q := fun q h => by rw [← hAe]; exact Or.inr h
  have hl := lv_entry ([.ref h0, .int 1]) (n := 5) (Nat.le_of_ble_eq_true rfl)
  rw [lg_entry_eq]
  generalize (lg_sl ([.ref h0, .int 1]) ++ List.replicate (5 - (lg_sl ([.ref h0, .int 1])).length) Slot.unset).toArray = ls at hl ⊢
  have hl : lv_has ls 5 [(0, .ref h0), (1, .int 1)] := hl
  refine k_H (A := A) hP (fun H hP hS => ?_)
  have hP : va_P (dC, dI) vwCl [(h0, .inr (10, fs)), (m_rf, .inl (cI, 16, .inl frf)), (m_um, .inl (cI, 2, .inl fu)), (m_tm, .inl (cI, 2, .inl ft))] H := hP
  have hD : va_D A [(h0, .inr (10, fs)), (m_rf, .inl (cI, 16, .inl frf)), (m_um, .inl (cI, 2, .inl fu)), (m_tm, .inl (cI, 2, .inl ft))] := hD
  refine lv_aload_n hx hb dX11_count_0 rfl (lv_at hl 0 rfl) ?_
  refine lv_iconst (v := 0) hx hb dX11_count_1 (by decide) ?_
  refine va_put (D := (dC, dI)) (ci := 10) (v := .int 0) (ty := .int) (C := RX11) (T := TX11) (N := 68) hx hb hts iwwsX11_count_11 tyX11 tyX11_ok nmX11 hown hK hP hD hS 0 rfl rfl 0 (by decide) (hts (.fieldLink RX11 121 "NothingJudgeModel" "thrown" "I") fwwsX11_count_121) (fun _ h9 => h9) rfl (by decide +kernel) rfl rfl (by rw [gl_fs]; decide) dX11_count_2 (fun H locs hP hD hS => ?_)
  obtain ⟨fs_419, efs_419⟩ : ∃ z : List Value, z = fs.set 0 (.int 0) := ⟨_, rfl⟩
  have glfs_419 : fs_419.length = 68 := fs_len efs_419 gl_fs
  have hP : va_P (dC, dI) vwCl [(h0, .inr (10, fs_419)), (m_rf, .inl (cI, 16, .inl frf)), (m_um, .inl (cI, 2, .inl fu)), (m_tm, .inl (cI, 2, .inl ft))] H := by rw [efs_419]; exact hP
  have hD : va_D A [(h0, .inr (10, fs_419)), (m_rf, .inl (cI, 16, .inl frf)), (m_um, .inl (cI, 2, .inl fu)), (m_tm, .inl (cI, 2, .inl ft))] := by rw [efs_419]; exact hD
  refine lv_iconst (v := 0) hx hb dX11_count_5 (by decide) ?_
  refine lv_istore_n (lv' := [(2, .int 0), (0, .ref h0), (1, .int 1)]) hx hb dX11_count_6 rfl hl (by decide) rfl (fun ls hl => ?_)
  refine lv_iconst (v := 0) hx hb dX11_count_7 (by decide) ?_
  refine lv_istore_n (lv' := [(3, .int 0), (2, .int 0), (0, .ref h0), (1, .int 1)]) hx hb dX11_count_8 rfl hl (by decide) rfl (fun ls hl => ?_)
  refine lv_iload_n hx hb dX11_count_9 rfl (lv_at hl 3 rfl) ?_
  refine lv_iconst (v := 4) hx hb dX11_count_10 (by decide) ?_
  refine lv_icmp_eq (tgt := 19) hx hb dX11_count_11 (by decide) (fun c9 => absurd c9 (by decide)) (fun _ => ?_)
  refine lv_iload_n hx hb dX11_count_14 rfl (lv_at hl 3 rfl) ?_
  refine lv_iconst (v := 5) hx hb dX11_count_15 (by decide) ?_
  refine lv_icmp_ne (tgt := 83) hx hb dX11_count_16 (by decide) (fun _ => ?_) (fun c9 => absurd c9 (by decide))
  refine lv_iload_n hx hb dX11_count_83 rfl (lv_at hl 3 rfl) ?_
  refine lv_tableIn (off := 45) (tgt := 129) hx hb dX11_count_84 (by decide) (by decide) (by decide) (by decide) ?_
  refine lv_aload_n hx hb dX11_count_129 rfl (lv_at hl 2 rfl) ?_
  refine va_get (D := (dC, dI)) (ci := 10) (v := .ref m_um) (C := RX11) (T := TX11) (N := 68) hx hb hts iwwsX11_count_11 hown hK hP 0 rfl rfl 26 (by decide) (hts (.fieldLink RX11 53 "NothingJudgeModel" "useMany" "[I") fwwsX11_count_53) (fun _ h9 => h9) (fs_ne efs_419 (by decide) g_fs_26) dX11_count_130 ?_
  refine lv_iconst (v := 0) hx hb dX11_count_133 (by decide) ?_
  refine va_iald hx hb hK hP 2 0 rfl rfl (by unfold vp_in; decide) dX11_count_134 ?_
  refine lv_topi (fun y_420 ey_420 => ?_)
  obtain rfl : y_420 = 0 := ey_420.trans hu
  subst efs_419
  have hP9 := hP.sub (ws' := []) [] rfl
  have hD9 := hD.sub (ws' := []) [] (by decide) rfl
  exact W.iret (v := 0) hx hb hr (fun t ht hW => ⟨⟨0, (), rfl, rfl, by rw [ht]; exact hP9, hD9⟩, hS.F ht⟩) hS.2.2 dX11_count_135

set_option maxHeartbeats 4000000 in
set_option maxRecDepth 100000 in
theorem m_count2 (l : Launch) (dC : Nat → ClassId) (dI : Nat → Nat → Nat) (cI cB cL cZ : ClassId) (h0 : Nat) (m_rf : Nat) (m_um : Nat) (m_tm : Nat) (fs : List Value) (frf : Nat → Int32) (fu : Nat → Int32) (ft : Nat → Int32) (sz : Nat) (gl_fs : fs.length = 68) (g_fs_19 : fs[19]? = some (.ref m_rf)) (g_fs_26 : fs[26]? = some (.ref m_um)) (g_fs_29 : fs[29]? = some (.ref m_tm)) (g_fs_39 : fs[39]? = some (.int (-1))) (hrf : ∀ j, j < 16 → frf j = -1) (hu : fu ((0 : Int32).toNatClampNeg) = 0) (ht : ft ((0 : Int32).toNatClampNeg) = 0) : Met l yX11_count wsX11_count ({ frames := 0, cells := 0, slots := 0, locals := 0 }) (cP (dC, dI) (kTy cI cB cL cZ) [.ref h0, .int 2] [(h0, .inr (10, fs)), (m_rf, .inl (cI, 16, .inl frf)), (m_um, .inl (cI, 2, .inl fu)), (m_tm, .inl (cI, 2, .inl ft))] sz) (va_Qi (fun (r : Int32) (_ : Unit) => r = 0) (fun (_ : Unit) (t : State) => va_P (dC, dI) vwCl [] t.heap ∧ va_D (va_A [(h0, .inr (10, fs)), (m_rf, .inl (cI, 16, .inl frf)), (m_um, .inl (cI, 2, .inl fu)), (m_tm, .inl (cI, 2, .inl ft))] sz) []) (va_A [(h0, .inr (10, fs)), (m_rf, .inl (cI, 16, .inl frf)), (m_um, .inl (cI, 2, .inl fu)), (m_tm, .inl (cI, 2, .inl ft))] sz)) 0 0 (va_A [(h0, .inr (10, fs)), (m_rf, .inl (cI, 16, .inl frf)), (m_um, .inl (cI, 2, .inl fu)), (m_tm, .inl (cI, 2, .inl ft))] sz) := by
  refine Met.ofW (cc := cX11_count) (maxL := 5) (ret := (some .int)) (by decide) rfl ?_
  intro p e s m args below meth c s₁ B hml hv
  obtain ⟨rfl, hsz, hP, hK, hD0, hN⟩ := hv
  have hx := B.exec
  have hb := B.bytes
  have hr := B.returns
  have hts := atoms_spec (ws := wsX11_count) B.pre
  have hown : s.vm.findClass RX11 = some m.cls := findClass_of_methodNamed B.named
  have hlocks := B.notSynchronized
  subst hsz
  have hD := hD0.self (sz := s.heap.size)
  generalize hAe : va_A [(h0, .inr (10, fs)), (m_rf, .inl (cI, 16, .inl frf)), (m_um, .inl (cI, 2, .inl fu)), (m_tm, .inl (cI, 2, .inl ft))] s.heap.size = A at hD ⊢
  have hA : ∀ q : Nat, s.heap.size ≤ q → A q := fun q h => by rw [← hAe]; exact Or.inr h
  have hl := lv_entry ([.ref h0, .int 2]) (n := 5) (Nat.le_of_ble_eq_true rfl)
  rw [lg_entry_eq]
  generalize (lg_sl ([.ref h0, .int 2]) ++ List.replicate (5 - (lg_sl ([.ref h0, .int 2])).length) Slot.unset).toArray = ls at hl ⊢
  have hl : lv_has ls 5 [(0, .ref h0), (1, .int 2)] := hl
  refine k_H (A := A) hP (fun H hP hS => ?_)
  have hP : va_P (dC, dI) vwCl [(h0, .inr (10, fs)), (m_rf, .inl (cI, 16, .inl frf)), (m_um, .inl (cI, 2, .inl fu)), (m_tm, .inl (cI, 2, .inl ft))] H := hP
  have hD : va_D A [(h0, .inr (10, fs)), (m_rf, .inl (cI, 16, .inl frf)), (m_um, .inl (cI, 2, .inl fu)), (m_tm, .inl (cI, 2, .inl ft))] := hD
  refine lv_aload_n hx hb dX11_count_0 rfl (lv_at hl 0 rfl) ?_
  refine lv_iconst (v := 0) hx hb dX11_count_1 (by decide) ?_
  refine va_put (D := (dC, dI)) (ci := 10) (v := .int 0) (ty := .int) (C := RX11) (T := TX11) (N := 68) hx hb hts iwwsX11_count_11 tyX11 tyX11_ok nmX11 hown hK hP hD hS 0 rfl rfl 0 (by decide) (hts (.fieldLink RX11 121 "NothingJudgeModel" "thrown" "I") fwwsX11_count_121) (fun _ h9 => h9) rfl (by decide +kernel) rfl rfl (by rw [gl_fs]; decide) dX11_count_2 (fun H locs hP hD hS => ?_)
  obtain ⟨fs_421, efs_421⟩ : ∃ z : List Value, z = fs.set 0 (.int 0) := ⟨_, rfl⟩
  have glfs_421 : fs_421.length = 68 := fs_len efs_421 gl_fs
  have hP : va_P (dC, dI) vwCl [(h0, .inr (10, fs_421)), (m_rf, .inl (cI, 16, .inl frf)), (m_um, .inl (cI, 2, .inl fu)), (m_tm, .inl (cI, 2, .inl ft))] H := by rw [efs_421]; exact hP
  have hD : va_D A [(h0, .inr (10, fs_421)), (m_rf, .inl (cI, 16, .inl frf)), (m_um, .inl (cI, 2, .inl fu)), (m_tm, .inl (cI, 2, .inl ft))] := by rw [efs_421]; exact hD
  refine lv_iconst (v := 0) hx hb dX11_count_5 (by decide) ?_
  refine lv_istore_n (lv' := [(2, .int 0), (0, .ref h0), (1, .int 2)]) hx hb dX11_count_6 rfl hl (by decide) rfl (fun ls hl => ?_)
  refine lv_iconst (v := 0) hx hb dX11_count_7 (by decide) ?_
  refine lv_istore_n (lv' := [(3, .int 0), (2, .int 0), (0, .ref h0), (1, .int 2)]) hx hb dX11_count_8 rfl hl (by decide) rfl (fun ls hl => ?_)
  refine lv_iload_n hx hb dX11_count_9 rfl (lv_at hl 3 rfl) ?_
  refine lv_iconst (v := 4) hx hb dX11_count_10 (by decide) ?_
  refine lv_icmp_eq (tgt := 19) hx hb dX11_count_11 (by decide) (fun c9 => absurd c9 (by decide)) (fun _ => ?_)
  refine lv_iload_n hx hb dX11_count_14 rfl (lv_at hl 3 rfl) ?_
  refine lv_iconst (v := 5) hx hb dX11_count_15 (by decide) ?_
  refine lv_icmp_ne (tgt := 83) hx hb dX11_count_16 (by decide) (fun _ => ?_) (fun c9 => absurd c9 (by decide))
  refine lv_iload_n hx hb dX11_count_83 rfl (lv_at hl 3 rfl) ?_
  refine lv_tableIn (off := 52) (tgt := 136) hx hb dX11_count_84 (by decide) (by decide) (by decide) (by decide) ?_
  refine lv_aload_n hx hb dX11_count_136 rfl (lv_at hl 2 rfl) ?_
  refine va_get (D := (dC, dI)) (ci := 10) (v := .ref m_tm) (C := RX11) (T := TX11) (N := 68) hx hb hts iwwsX11_count_11 hown hK hP 0 rfl rfl 29 (by decide) (hts (.fieldLink RX11 62 "NothingJudgeModel" "testMany" "[I") fwwsX11_count_62) (fun _ h9 => h9) (fs_ne efs_421 (by decide) g_fs_29) dX11_count_137 ?_
  refine lv_iconst (v := 0) hx hb dX11_count_140 (by decide) ?_
  refine va_iald hx hb hK hP 3 0 rfl rfl (by unfold vp_in; decide) dX11_count_141 ?_
  refine lv_topi (fun y_422 ey_422 => ?_)
  obtain rfl : y_422 = 0 := ey_422.trans ht
  subst efs_421
  have hP9 := hP.sub (ws' := []) [] rfl
  have hD9 := hD.sub (ws' := []) [] (by decide) rfl
  exact W.iret (v := 0) hx hb hr (fun t ht hW => ⟨⟨0, (), rfl, rfl, by rw [ht]; exact hP9, hD9⟩, hS.F ht⟩) hS.2.2 dX11_count_142

set_option maxHeartbeats 4000000 in
set_option maxRecDepth 100000 in
theorem m_count3 (l : Launch) (dC : Nat → ClassId) (dI : Nat → Nat → Nat) (cI cB cL cZ : ClassId) (h0 : Nat) (m_rf : Nat) (m_um : Nat) (m_tm : Nat) (fs : List Value) (frf : Nat → Int32) (fu : Nat → Int32) (ft : Nat → Int32) (sz : Nat) (gl_fs : fs.length = 68) (g_fs_19 : fs[19]? = some (.ref m_rf)) (g_fs_26 : fs[26]? = some (.ref m_um)) (g_fs_29 : fs[29]? = some (.ref m_tm)) (g_fs_39 : fs[39]? = some (.int (-1))) (hrf : ∀ j, j < 16 → frf j = -1) (hu : fu ((0 : Int32).toNatClampNeg) = 0) (ht : ft ((0 : Int32).toNatClampNeg) = 0) : Met l yX11_count wsX11_count ({ frames := 0, cells := 0, slots := 0, locals := 0 }) (cP (dC, dI) (kTy cI cB cL cZ) [.ref h0, .int 3] [(h0, .inr (10, fs)), (m_rf, .inl (cI, 16, .inl frf)), (m_um, .inl (cI, 2, .inl fu)), (m_tm, .inl (cI, 2, .inl ft))] sz) (va_Qi (fun (r : Int32) (_ : Unit) => r = (-1)) (fun (_ : Unit) (t : State) => va_P (dC, dI) vwCl [] t.heap ∧ va_D (va_A [(h0, .inr (10, fs)), (m_rf, .inl (cI, 16, .inl frf)), (m_um, .inl (cI, 2, .inl fu)), (m_tm, .inl (cI, 2, .inl ft))] sz) []) (va_A [(h0, .inr (10, fs)), (m_rf, .inl (cI, 16, .inl frf)), (m_um, .inl (cI, 2, .inl fu)), (m_tm, .inl (cI, 2, .inl ft))] sz)) 0 0 (va_A [(h0, .inr (10, fs)), (m_rf, .inl (cI, 16, .inl frf)), (m_um, .inl (cI, 2, .inl fu)), (m_tm, .inl (cI, 2, .inl ft))] sz) := by
  refine Met.ofW (cc := cX11_count) (maxL := 5) (ret := (some .int)) (by decide) rfl ?_
  intro p e s m args below meth c s₁ B hml hv
  obtain ⟨rfl, hsz, hP, hK, hD0, hN⟩ := hv
  have hx := B.exec
  have hb := B.bytes
  have hr := B.returns
  have hts := atoms_spec (ws := wsX11_count) B.pre
  have hown : s.vm.findClass RX11 = some m.cls := findClass_of_methodNamed B.named
  have hlocks := B.notSynchronized
  subst hsz
  have hD := hD0.self (sz := s.heap.size)
  generalize hAe : va_A [(h0, .inr (10, fs)), (m_rf, .inl (cI, 16, .inl frf)), (m_um, .inl (cI, 2, .inl fu)), (m_tm, .inl (cI, 2, .inl ft))] s.heap.size = A at hD ⊢
  have hA : ∀ q : Nat, s.heap.size ≤ q → A q := fun q h => by rw [← hAe]; exact Or.inr h
  have hl := lv_entry ([.ref h0, .int 3]) (n := 5) (Nat.le_of_ble_eq_true rfl)
  rw [lg_entry_eq]
  generalize (lg_sl ([.ref h0, .int 3]) ++ List.replicate (5 - (lg_sl ([.ref h0, .int 3])).length) Slot.unset).toArray = ls at hl ⊢
  have hl : lv_has ls 5 [(0, .ref h0), (1, .int 3)] := hl
  refine k_H (A := A) hP (fun H hP hS => ?_)
  have hP : va_P (dC, dI) vwCl [(h0, .inr (10, fs)), (m_rf, .inl (cI, 16, .inl frf)), (m_um, .inl (cI, 2, .inl fu)), (m_tm, .inl (cI, 2, .inl ft))] H := hP
  have hD : va_D A [(h0, .inr (10, fs)), (m_rf, .inl (cI, 16, .inl frf)), (m_um, .inl (cI, 2, .inl fu)), (m_tm, .inl (cI, 2, .inl ft))] := hD
  refine lv_aload_n hx hb dX11_count_0 rfl (lv_at hl 0 rfl) ?_
  refine lv_iconst (v := 0) hx hb dX11_count_1 (by decide) ?_
  refine va_put (D := (dC, dI)) (ci := 10) (v := .int 0) (ty := .int) (C := RX11) (T := TX11) (N := 68) hx hb hts iwwsX11_count_11 tyX11 tyX11_ok nmX11 hown hK hP hD hS 0 rfl rfl 0 (by decide) (hts (.fieldLink RX11 121 "NothingJudgeModel" "thrown" "I") fwwsX11_count_121) (fun _ h9 => h9) rfl (by decide +kernel) rfl rfl (by rw [gl_fs]; decide) dX11_count_2 (fun H locs hP hD hS => ?_)
  obtain ⟨fs_423, efs_423⟩ : ∃ z : List Value, z = fs.set 0 (.int 0) := ⟨_, rfl⟩
  have glfs_423 : fs_423.length = 68 := fs_len efs_423 gl_fs
  have hP : va_P (dC, dI) vwCl [(h0, .inr (10, fs_423)), (m_rf, .inl (cI, 16, .inl frf)), (m_um, .inl (cI, 2, .inl fu)), (m_tm, .inl (cI, 2, .inl ft))] H := by rw [efs_423]; exact hP
  have hD : va_D A [(h0, .inr (10, fs_423)), (m_rf, .inl (cI, 16, .inl frf)), (m_um, .inl (cI, 2, .inl fu)), (m_tm, .inl (cI, 2, .inl ft))] := by rw [efs_423]; exact hD
  refine lv_iconst (v := 0) hx hb dX11_count_5 (by decide) ?_
  refine lv_istore_n (lv' := [(2, .int 0), (0, .ref h0), (1, .int 3)]) hx hb dX11_count_6 rfl hl (by decide) rfl (fun ls hl => ?_)
  refine lv_iconst (v := 0) hx hb dX11_count_7 (by decide) ?_
  refine lv_istore_n (lv' := [(3, .int 0), (2, .int 0), (0, .ref h0), (1, .int 3)]) hx hb dX11_count_8 rfl hl (by decide) rfl (fun ls hl => ?_)
  refine lv_iload_n hx hb dX11_count_9 rfl (lv_at hl 3 rfl) ?_
  refine lv_iconst (v := 4) hx hb dX11_count_10 (by decide) ?_
  refine lv_icmp_eq (tgt := 19) hx hb dX11_count_11 (by decide) (fun c9 => absurd c9 (by decide)) (fun _ => ?_)
  refine lv_iload_n hx hb dX11_count_14 rfl (lv_at hl 3 rfl) ?_
  refine lv_iconst (v := 5) hx hb dX11_count_15 (by decide) ?_
  refine lv_icmp_ne (tgt := 83) hx hb dX11_count_16 (by decide) (fun _ => ?_) (fun c9 => absurd c9 (by decide))
  refine lv_iload_n hx hb dX11_count_83 rfl (lv_at hl 3 rfl) ?_
  refine lv_tableIn (off := 59) (tgt := 143) hx hb dX11_count_84 (by decide) (by decide) (by decide) (by decide) ?_
  refine lv_aload_n hx hb dX11_count_143 rfl (lv_at hl 2 rfl) ?_
  refine va_get (D := (dC, dI)) (ci := 10) (v := .int (-1)) (C := RX11) (T := TX11) (N := 68) hx hb hts iwwsX11_count_11 hown hK hP 0 rfl rfl 39 (by decide) (hts (.fieldLink RX11 83 "NothingJudgeModel" "entry" "I") fwwsX11_count_83) (fun _ h9 => h9) (fs_ne efs_423 (by decide) g_fs_39) dX11_count_144 ?_
  subst efs_423
  have hP9 := hP.sub (ws' := []) [] rfl
  have hD9 := hD.sub (ws' := []) [] (by decide) rfl
  exact W.iret (v := (-1)) hx hb hr (fun t ht hW => ⟨⟨(-1), (), rfl, rfl, by rw [ht]; exact hP9, hD9⟩, hS.F ht⟩) hS.2.2 dX11_count_147
