set_option maxHeartbeats 4000000 in
set_option maxRecDepth 100000 in
theorem m_count4 (l : Launch) (dC : Nat → ClassId) (dI : Nat → Nat → Nat) (cI cB cL cZ : ClassId) (h0 : Nat) (m_um : Nat) (m_ih : Nat) (m_mk : Nat) (m_td : Nat) (fs : List Value) (fu : Nat → Int32) (f0 : Nat → Int32) (f1 : Nat → Int32) (f2 : Nat → Int32) (sz : Nat) (gl_fs : fs.length = 68) (g_fs_26 : fs[26]? = some (.ref m_um)) (g_fs_43 : fs[43]? = some (.ref m_ih)) (g_fs_42 : fs[42]? = some (.ref m_mk)) (g_fs_44 : fs[44]? = some (.ref m_td)) (g_fs_18 : fs[18]? = some (.int 0)) (g_fs_39 : fs[39]? = some (.int (-1))) (hu : fu ((0 : Int32).toNatClampNeg) = 0) : Met l yX11_count wsX11_count ({ frames := 1, cells := 0, slots := 0, locals := 21 }) (cP (dC, dI) (kTy cI cB cL cZ) [.ref h0, .int 4] [(h0, .inr (10, fs)), (m_um, .inl (cI, 2, .inl fu)), (m_ih, .inl (cZ, 42, .inl f0)), (m_mk, .inl (cI, 42, .inl f1)), (m_td, .inl (cI, 25, .inl f2))] sz) (va_Qi (fun (r : Int32) (_ : Unit) => r = 0) (fun (_ : Unit) (t : State) => va_P (dC, dI) vwCl [] t.heap ∧ va_D (va_A [(h0, .inr (10, fs)), (m_um, .inl (cI, 2, .inl fu)), (m_ih, .inl (cZ, 42, .inl f0)), (m_mk, .inl (cI, 42, .inl f1)), (m_td, .inl (cI, 25, .inl f2))] sz) []) (va_A [(h0, .inr (10, fs)), (m_um, .inl (cI, 2, .inl fu)), (m_ih, .inl (cZ, 42, .inl f0)), (m_mk, .inl (cI, 42, .inl f1)), (m_td, .inl (cI, 25, .inl f2))] sz)) 0 0 (va_A [(h0, .inr (10, fs)), (m_um, .inl (cI, 2, .inl fu)), (m_ih, .inl (cZ, 42, .inl f0)), (m_mk, .inl (cI, 42, .inl f1)), (m_td, .inl (cI, 25, .inl f2))] sz) := by
  refine Met.ofW (cc := cX11_count) (maxL := 5) (ret := (some .int)) (by decide) rfl ?_
  intro p e s m args below meth c s₁ B hml hv
  obtain ⟨rfl, hsz, hP, hK, hD0, hN⟩ := hv
  have hx := B.exec
  have hb := B.bytes
  have hr := B.returns
  have hts := atoms_spec (ws := wsX11_count) B.pre
  have hown : s.vm.findClass RX11 = some m.cls := findClass_of_methodNamed B.named
  have hlocks := B.notSynchronized
  subst hsz
  have hD := hD0.self (sz := s.heap.size)
  generalize hAe : va_A [(h0, .inr (10, fs)), (m_um, .inl (cI, 2, .inl fu)), (m_ih, .inl (cZ, 42, .inl f0)), (m_mk, .inl (cI, 42, .inl f1)), (m_td, .inl (cI, 25, .inl f2))] s.heap.size = A at hD ⊢
  have hA : ∀ q : Nat, s.heap.size ≤ q → A q := fun q h => by rw [← hAe]; exact Or.inr h
  have hl := lv_entry ([.ref h0, .int 4]) (n := 5) (Nat.le_of_ble_eq_true rfl)
  rw [lg_entry_eq]
  generalize (lg_sl ([.ref h0, .int 4]) ++ List.replicate (5 - (lg_sl ([.ref h0, .int 4])).length) Slot.unset).toArray = ls at hl ⊢
  have hl : lv_has ls 5 [(0, .ref h0), (1, .int 4)] := hl
  refine k_H (A := A) hP (fun H hP hS => ?_)
  have hP : va_P (dC, dI) vwCl [(h0, .inr (10, fs)), (m_um, .inl (cI, 2, .inl fu)), (m_ih, .inl (cZ, 42, .inl f0)), (m_mk, .inl (cI, 42, .inl f1)), (m_td, .inl (cI, 25, .inl f2))] H := hP
  have hD : va_D A [(h0, .inr (10, fs)), (m_um, .inl (cI, 2, .inl fu)), (m_ih, .inl (cZ, 42, .inl f0)), (m_mk, .inl (cI, 42, .inl f1)), (m_td, .inl (cI, 25, .inl f2))] := hD
  refine lv_aload_n hx hb dX11_count_0 rfl (lv_at hl 0 rfl) ?_
  refine lv_iconst (v := 0) hx hb dX11_count_1 (by decide) ?_
  refine va_put (D := (dC, dI)) (ci := 10) (v := .int 0) (ty := .int) (C := RX11) (T := TX11) (N := 68) hx hb hts iwwsX11_count_11 tyX11 tyX11_ok nmX11 hown hK hP hD hS 0 rfl rfl 0 (by decide) (hts (.fieldLink RX11 121 "NothingJudgeModel" "thrown" "I") fwwsX11_count_121) (fun _ h9 => h9) rfl (by decide +kernel) rfl rfl (by rw [gl_fs]; decide) dX11_count_2 (fun H locs hP hD hS => ?_)
  obtain ⟨fs_424, efs_424⟩ : ∃ z : List Value, z = fs.set 0 (.int 0) := ⟨_, rfl⟩
  have glfs_424 : fs_424.length = 68 := fs_len efs_424 gl_fs
  have hP : va_P (dC, dI) vwCl [(h0, .inr (10, fs_424)), (m_um, .inl (cI, 2, .inl fu)), (m_ih, .inl (cZ, 42, .inl f0)), (m_mk, .inl (cI, 42, .inl f1)), (m_td, .inl (cI, 25, .inl f2))] H := by rw [efs_424]; exact hP
  have hD : va_D A [(h0, .inr (10, fs_424)), (m_um, .inl (cI, 2, .inl fu)), (m_ih, .inl (cZ, 42, .inl f0)), (m_mk, .inl (cI, 42, .inl f1)), (m_td, .inl (cI, 25, .inl f2))] := by rw [efs_424]; exact hD
  refine lv_iconst (v := 0) hx hb dX11_count_5 (by decide) ?_
  refine lv_istore_n (lv' := [(2, .int 0), (0, .ref h0), (1, .int 4)]) hx hb dX11_count_6 rfl hl (by decide) rfl (fun ls hl => ?_)
  refine lv_iconst (v := 0) hx hb dX11_count_7 (by decide) ?_
  refine lv_istore_n (lv' := [(3, .int 0), (2, .int 0), (0, .ref h0), (1, .int 4)]) hx hb dX11_count_8 rfl hl (by decide) rfl (fun ls hl => ?_)
  refine lv_iload_n hx hb dX11_count_9 rfl (lv_at hl 3 rfl) ?_
  refine lv_iconst (v := 4) hx hb dX11_count_10 (by decide) ?_
  refine lv_icmp_eq (tgt := 19) hx hb dX11_count_11 (by decide) (fun _ => ?_) (fun c9 => absurd (by decide) c9)
  refine lv_aload_n hx hb dX11_count_19 rfl (lv_at hl 2 rfl) ?_
  have hPc := hP.sub (ws' := [(h0, .inr (10, fs_424)), (m_ih, .inl (cZ, 42, .inl f0))]) [0, 2] rfl
  have hDc := hD.sub (ws' := [(h0, .inr (10, fs_424)), (m_ih, .inl (cZ, 42, .inl f0))]) [0, 2] (by decide) rfl
  have hFc := va_free (wc := [(h0, .inr (10, fs_424)), (m_ih, .inl (cZ, 42, .inl f0))]) hD hS hA [0, 2] rfl
  refine va_callv (va_runV (As := []) (rest := []) ⟨hx, hb, hml, hown, hts⟩ (c_frees l dC dI cI cB cL cZ (h0) (m_ih) (fs_424) (f0) H.size glfs_424 (fs_ne efs_424 (by decide) g_fs_43)) (cwV 0 hts gX11_count_X11_frees rfl rfl rfl (by decide +kernel) ⟨Nat.le_of_ble_eq_true rfl, Nat.le_of_ble_eq_true rfl⟩) ⟨cP_fb, va_recv hK hPc (ci := 10) (q0 := 0) rfl rfl, fun U hU hW => cP_pre hPc hK hDc hN U hU hW⟩ rfl rfl hl.1 rfl (lv_room (Nat.le_of_ble_eq_true rfl)) dX11_count_20 ⟨Nat.le_of_ble_eq_true rfl, Nat.le_of_ble_eq_true rfl⟩) hS (fun q _ h => hFc q h) hFc (fun u t H1 locs ht hvm hw hB hz1 hk1 hS => ?_)
  obtain ⟨hP1, hD1⟩ := hB
  rw [ht] at hP1
  obtain ⟨hP, hD⟩ := va_join (wr := [(m_um, .inl (cI, 2, .inl fu)), (m_mk, .inl (cI, 42, .inl f1)), (m_td, .inl (cI, 25, .inl f2))]) (w1 := [(h0, .inr (10, fs_424))]) hP hD [0, 2] [1, 3, 4] rfl rfl (by decide) (by decide) hk1 hFc hP1 hD1
  generalize H1 = H at hP hS ⊢
  have hP : va_P (dC, dI) vwCl [(m_um, .inl (cI, 2, .inl fu)), (m_mk, .inl (cI, 42, .inl f1)), (m_td, .inl (cI, 25, .inl f2)), (h0, .inr (10, fs_424))] H := hP
  have hD : va_D A [(m_um, .inl (cI, 2, .inl fu)), (m_mk, .inl (cI, 42, .inl f1)), (m_td, .inl (cI, 25, .inl f2)), (h0, .inr (10, fs_424))] := hD
  refine lv_aload_n hx hb dX11_count_23 rfl (lv_at hl 2 rfl) ?_
  have hPc := hP.sub (ws' := [(h0, .inr (10, fs_424)), (m_mk, .inl (cI, 42, .inl f1)), (m_td, .inl (cI, 25, .inl f2))]) [3, 1, 2] rfl
  have hDc := hD.sub (ws' := [(h0, .inr (10, fs_424)), (m_mk, .inl (cI, 42, .inl f1)), (m_td, .inl (cI, 25, .inl f2))]) [3, 1, 2] (by decide) rfl
  have hFc := va_free (wc := [(h0, .inr (10, fs_424)), (m_mk, .inl (cI, 42, .inl f1)), (m_td, .inl (cI, 25, .inl f2))]) hD hS hA [3, 1, 2] rfl
  refine va_callv (va_runV (As := []) (rest := []) ⟨hx, hb, hml, hown, hts⟩ (c_reckons l dC dI cI cB cL cZ (h0) (m_mk) (m_td) (fs_424) (f1) (f2) H.size glfs_424 (fs_ne efs_424 (by decide) g_fs_42) (fs_ne efs_424 (by decide) g_fs_44) (fs_ne efs_424 (by decide) g_fs_18) (fs_ne efs_424 (by decide) g_fs_39)) (cwV 0 hts gX11_count_X11_reckons rfl rfl rfl (by decide +kernel) ⟨Nat.le_of_ble_eq_true rfl, Nat.le_of_ble_eq_true rfl⟩) ⟨cP_fb, va_recv hK hPc (ci := 10) (q0 := 0) rfl rfl, fun U hU hW => cP_pre hPc hK hDc hN U hU hW⟩ rfl rfl hl.1 rfl (lv_room (Nat.le_of_ble_eq_true rfl)) dX11_count_24 ⟨Nat.le_of_ble_eq_true rfl, Nat.le_of_ble_eq_true rfl⟩) hS (fun q _ h => hFc q h) hFc (fun u t H1 locs ht hvm hw hB hz1 hk1 hS => ?_)
  obtain ⟨f_426, hf_427, hP1, hD1⟩ := hB
  rw [ht] at hP1
  obtain ⟨hP, hD⟩ := va_join (wr := [(m_um, .inl (cI, 2, .inl fu))]) (w1 := [(h0, .inr (10, (fs_424.set 45 (.int 0)))), (m_mk, .inl (cI, 42, .inl f_426))]) hP hD [3, 1, 2] [0] rfl rfl (by decide) (by decide) hk1 hFc hP1 hD1
  generalize H1 = H at hP hS ⊢
  obtain ⟨fs_429, efs_429⟩ : ∃ z : List Value, z = fs_424.set 45 (.int 0) := ⟨_, rfl⟩
  have glfs_429 : fs_429.length = 68 := fs_len efs_429 glfs_424
  have hP : va_P (dC, dI) vwCl [(m_um, .inl (cI, 2, .inl fu)), (h0, .inr (10, fs_429)), (m_mk, .inl (cI, 42, .inl f_426))] H := by rw [efs_429]; exact hP
  have hD : va_D A [(m_um, .inl (cI, 2, .inl fu)), (h0, .inr (10, fs_429)), (m_mk, .inl (cI, 42, .inl f_426))] := by rw [efs_429]; exact hD
  refine lv_iconst (v := 0) hx hb dX11_count_27 (by decide) ?_
  refine lv_istore (lv' := [(4, .int 0), (3, .int 0), (2, .int 0), (0, .ref h0), (1, .int 4)]) hx hb dX11_count_28 hl (by decide) rfl (fun ls hl => ?_)
  refine lv_iload hx hb dX11_count_30 (lv_at hl 0 rfl) ?_
  refine lv_aload_n hx hb dX11_count_32 rfl (lv_at hl 3 rfl) ?_
  refine va_get (D := (dC, dI)) (ci := 10) (v := .ref m_um) (C := RX11) (T := TX11) (N := 68) hx hb hts iwwsX11_count_11 hown hK hP 1 rfl rfl 26 (by decide) (hts (.fieldLink RX11 53 "NothingJudgeModel" "useMany" "[I") fwwsX11_count_53) (fun _ h9 => h9) (fs_ne efs_429 (by decide) (fs_ne efs_424 (by decide) g_fs_26)) dX11_count_33 ?_
  refine lv_iconst (v := 0) hx hb dX11_count_36 (by decide) ?_
  refine va_iald hx hb hK hP 0 0 rfl rfl (by unfold vp_in; decide) dX11_count_37 ?_
  refine lv_topi (fun y_430 ey_430 => ?_)
  obtain rfl : y_430 = 0 := ey_430.trans hu
  refine lv_icmp_ge (tgt := 83) hx hb dX11_count_38 (by decide) (fun _ => ?_) (fun c9 => absurd (by decide) c9)
  refine lv_iload_n hx hb dX11_count_83 rfl (lv_at hl 4 rfl) ?_
  refine lv_tableIn (off := 64) (tgt := 148) hx hb dX11_count_84 (by decide) (by decide) (by decide) (by decide) ?_
  refine lv_iload_n hx hb dX11_count_148 rfl (lv_at hl 2 rfl) ?_
  subst efs_429
  subst efs_424
  have hP9 := hP.sub (ws' := []) [] rfl
  have hD9 := hD.sub (ws' := []) [] (by decide) rfl
  exact W.iret (v := 0) hx hb hr (fun t ht hW => ⟨⟨0, (), rfl, rfl, by rw [ht]; exact hP9, hD9⟩, hS.F ht⟩) hS.2.2 dX11_count_149

set_option maxHeartbeats 4000000 in
set_option maxRecDepth 100000 in
theorem m_count5 (l : Launch) (dC : Nat → ClassId) (dI : Nat → Nat → Nat) (cI cB cL cZ : ClassId) (h0 : Nat) (m_um : Nat) (m_ih : Nat) (m_mk : Nat) (m_td : Nat) (fs : List Value) (fu : Nat → Int32) (f0 : Nat → Int32) (f1 : Nat → Int32) (f2 : Nat → Int32) (sz : Nat) (gl_fs : fs.length = 68) (g_fs_26 : fs[26]? = some (.ref m_um)) (g_fs_43 : fs[43]? = some (.ref m_ih)) (g_fs_42 : fs[42]? = some (.ref m_mk)) (g_fs_44 : fs[44]? = some (.ref m_td)) (g_fs_18 : fs[18]? = some (.int 0)) (g_fs_39 : fs[39]? = some (.int (-1))) (hu : fu ((0 : Int32).toNatClampNeg) = 0) : Met l yX11_count wsX11_count ({ frames := 1, cells := 0, slots := 0, locals := 21 }) (cP (dC, dI) (kTy cI cB cL cZ) [.ref h0, .int 5] [(h0, .inr (10, fs)), (m_um, .inl (cI, 2, .inl fu)), (m_ih, .inl (cZ, 42, .inl f0)), (m_mk, .inl (cI, 42, .inl f1)), (m_td, .inl (cI, 25, .inl f2))] sz) (va_Qi (fun (r : Int32) (_ : Unit) => r = 0) (fun (_ : Unit) (t : State) => va_P (dC, dI) vwCl [] t.heap ∧ va_D (va_A [(h0, .inr (10, fs)), (m_um, .inl (cI, 2, .inl fu)), (m_ih, .inl (cZ, 42, .inl f0)), (m_mk, .inl (cI, 42, .inl f1)), (m_td, .inl (cI, 25, .inl f2))] sz) []) (va_A [(h0, .inr (10, fs)), (m_um, .inl (cI, 2, .inl fu)), (m_ih, .inl (cZ, 42, .inl f0)), (m_mk, .inl (cI, 42, .inl f1)), (m_td, .inl (cI, 25, .inl f2))] sz)) 0 0 (va_A [(h0, .inr (10, fs)), (m_um, .inl (cI, 2, .inl fu)), (m_ih, .inl (cZ, 42, .inl f0)), (m_mk, .inl (cI, 42, .inl f1)), (m_td, .inl (cI, 25, .inl f2))] sz) := by
  refine Met.ofW (cc := cX11_count) (maxL := 5) (ret := (some .int)) (by decide) rfl ?_
  intro p e s m args below meth c s₁ B hml hv
  obtain ⟨rfl, hsz, hP, hK, hD0, hN⟩ := hv
  have hx := B.exec
  have hb := B.bytes
  have hr := B.returns
  have hts := atoms_spec (ws := wsX11_count) B.pre
  have hown : s.vm.findClass RX11 = some m.cls := findClass_of_methodNamed B.named
  have hlocks := B.notSynchronized
  subst hsz
  have hD := hD0.self (sz := s.heap.size)
  generalize hAe : va_A [(h0, .inr (10, fs)), (m_um, .inl (cI, 2, .inl fu)), (m_ih, .inl (cZ, 42, .inl f0)), (m_mk, .inl (cI, 42, .inl f1)), (m_td, .inl (cI, 25, .inl f2))] s.heap.size = A at hD ⊢
  have hA : ∀ q : Nat, s.heap.size ≤ q → A q := fun q h => by rw [← hAe]; exact Or.inr h
  have hl := lv_entry ([.ref h0, .int 5]) (n := 5) (Nat.le_of_ble_eq_true rfl)
  rw [lg_entry_eq]
  generalize (lg_sl ([.ref h0, .int 5]) ++ List.replicate (5 - (lg_sl ([.ref h0, .int 5])).length) Slot.unset).toArray = ls at hl ⊢
  have hl : lv_has ls 5 [(0, .ref h0), (1, .int 5)] := hl
  refine k_H (A := A) hP (fun H hP hS => ?_)
  have hP : va_P (dC, dI) vwCl [(h0, .inr (10, fs)), (m_um, .inl (cI, 2, .inl fu)), (m_ih, .inl (cZ, 42, .inl f0)), (m_mk, .inl (cI, 42, .inl f1)), (m_td, .inl (cI, 25, .inl f2))] H := hP
  have hD : va_D A [(h0, .inr (10, fs)), (m_um, .inl (cI, 2, .inl fu)), (m_ih, .inl (cZ, 42, .inl f0)), (m_mk, .inl (cI, 42, .inl f1)), (m_td, .inl (cI, 25, .inl f2))] := hD
  refine lv_aload_n hx hb dX11_count_0 rfl (lv_at hl 0 rfl) ?_
  refine lv_iconst (v := 0) hx hb dX11_count_1 (by decide) ?_
  refine va_put (D := (dC, dI)) (ci := 10) (v := .int 0) (ty := .int) (C := RX11) (T := TX11) (N := 68) hx hb hts iwwsX11_count_11 tyX11 tyX11_ok nmX11 hown hK hP hD hS 0 rfl rfl 0 (by decide) (hts (.fieldLink RX11 121 "NothingJudgeModel" "thrown" "I") fwwsX11_count_121) (fun _ h9 => h9) rfl (by decide +kernel) rfl rfl (by rw [gl_fs]; decide) dX11_count_2 (fun H locs hP hD hS => ?_)
  obtain ⟨fs_431, efs_431⟩ : ∃ z : List Value, z = fs.set 0 (.int 0) := ⟨_, rfl⟩
  have glfs_431 : fs_431.length = 68 := fs_len efs_431 gl_fs
  have hP : va_P (dC, dI) vwCl [(h0, .inr (10, fs_431)), (m_um, .inl (cI, 2, .inl fu)), (m_ih, .inl (cZ, 42, .inl f0)), (m_mk, .inl (cI, 42, .inl f1)), (m_td, .inl (cI, 25, .inl f2))] H := by rw [efs_431]; exact hP
  have hD : va_D A [(h0, .inr (10, fs_431)), (m_um, .inl (cI, 2, .inl fu)), (m_ih, .inl (cZ, 42, .inl f0)), (m_mk, .inl (cI, 42, .inl f1)), (m_td, .inl (cI, 25, .inl f2))] := by rw [efs_431]; exact hD
  refine lv_iconst (v := 0) hx hb dX11_count_5 (by decide) ?_
  refine lv_istore_n (lv' := [(2, .int 0), (0, .ref h0), (1, .int 5)]) hx hb dX11_count_6 rfl hl (by decide) rfl (fun ls hl => ?_)
  refine lv_iconst (v := 0) hx hb dX11_count_7 (by decide) ?_
  refine lv_istore_n (lv' := [(3, .int 0), (2, .int 0), (0, .ref h0), (1, .int 5)]) hx hb dX11_count_8 rfl hl (by decide) rfl (fun ls hl => ?_)
  refine lv_iload_n hx hb dX11_count_9 rfl (lv_at hl 3 rfl) ?_
  refine lv_iconst (v := 4) hx hb dX11_count_10 (by decide) ?_
  refine lv_icmp_eq (tgt := 19) hx hb dX11_count_11 (by decide) (fun c9 => absurd c9 (by decide)) (fun _ => ?_)
  refine lv_iload_n hx hb dX11_count_14 rfl (lv_at hl 3 rfl) ?_
  refine lv_iconst (v := 5) hx hb dX11_count_15 (by decide) ?_
  refine lv_icmp_ne (tgt := 83) hx hb dX11_count_16 (by decide) (fun c9 => absurd c9 (by decide)) (fun _ => ?_)
  refine lv_aload_n hx hb dX11_count_19 rfl (lv_at hl 2 rfl) ?_
  have hPc := hP.sub (ws' := [(h0, .inr (10, fs_431)), (m_ih, .inl (cZ, 42, .inl f0))]) [0, 2] rfl
  have hDc := hD.sub (ws' := [(h0, .inr (10, fs_431)), (m_ih, .inl (cZ, 42, .inl f0))]) [0, 2] (by decide) rfl
  have hFc := va_free (wc := [(h0, .inr (10, fs_431)), (m_ih, .inl (cZ, 42, .inl f0))]) hD hS hA [0, 2] rfl
  refine va_callv (va_runV (As := []) (rest := []) ⟨hx, hb, hml, hown, hts⟩ (c_frees l dC dI cI cB cL cZ (h0) (m_ih) (fs_431) (f0) H.size glfs_431 (fs_ne efs_431 (by decide) g_fs_43)) (cwV 0 hts gX11_count_X11_frees rfl rfl rfl (by decide +kernel) ⟨Nat.le_of_ble_eq_true rfl, Nat.le_of_ble_eq_true rfl⟩) ⟨cP_fb, va_recv hK hPc (ci := 10) (q0 := 0) rfl rfl, fun U hU hW => cP_pre hPc hK hDc hN U hU hW⟩ rfl rfl hl.1 rfl (lv_room (Nat.le_of_ble_eq_true rfl)) dX11_count_20 ⟨Nat.le_of_ble_eq_true rfl, Nat.le_of_ble_eq_true rfl⟩) hS (fun q _ h => hFc q h) hFc (fun u t H1 locs ht hvm hw hB hz1 hk1 hS => ?_)
  obtain ⟨hP1, hD1⟩ := hB
  rw [ht] at hP1
  obtain ⟨hP, hD⟩ := va_join (wr := [(m_um, .inl (cI, 2, .inl fu)), (m_mk, .inl (cI, 42, .inl f1)), (m_td, .inl (cI, 25, .inl f2))]) (w1 := [(h0, .inr (10, fs_431))]) hP hD [0, 2] [1, 3, 4] rfl rfl (by decide) (by decide) hk1 hFc hP1 hD1
  generalize H1 = H at hP hS ⊢
  have hP : va_P (dC, dI) vwCl [(m_um, .inl (cI, 2, .inl fu)), (m_mk, .inl (cI, 42, .inl f1)), (m_td, .inl (cI, 25, .inl f2)), (h0, .inr (10, fs_431))] H := hP
  have hD : va_D A [(m_um, .inl (cI, 2, .inl fu)), (m_mk, .inl (cI, 42, .inl f1)), (m_td, .inl (cI, 25, .inl f2)), (h0, .inr (10, fs_431))] := hD
  refine lv_aload_n hx hb dX11_count_23 rfl (lv_at hl 2 rfl) ?_
  have hPc := hP.sub (ws' := [(h0, .inr (10, fs_431)), (m_mk, .inl (cI, 42, .inl f1)), (m_td, .inl (cI, 25, .inl f2))]) [3, 1, 2] rfl
  have hDc := hD.sub (ws' := [(h0, .inr (10, fs_431)), (m_mk, .inl (cI, 42, .inl f1)), (m_td, .inl (cI, 25, .inl f2))]) [3, 1, 2] (by decide) rfl
  have hFc := va_free (wc := [(h0, .inr (10, fs_431)), (m_mk, .inl (cI, 42, .inl f1)), (m_td, .inl (cI, 25, .inl f2))]) hD hS hA [3, 1, 2] rfl
  refine va_callv (va_runV (As := []) (rest := []) ⟨hx, hb, hml, hown, hts⟩ (c_reckons l dC dI cI cB cL cZ (h0) (m_mk) (m_td) (fs_431) (f1) (f2) H.size glfs_431 (fs_ne efs_431 (by decide) g_fs_42) (fs_ne efs_431 (by decide) g_fs_44) (fs_ne efs_431 (by decide) g_fs_18) (fs_ne efs_431 (by decide) g_fs_39)) (cwV 0 hts gX11_count_X11_reckons rfl rfl rfl (by decide +kernel) ⟨Nat.le_of_ble_eq_true rfl, Nat.le_of_ble_eq_true rfl⟩) ⟨cP_fb, va_recv hK hPc (ci := 10) (q0 := 0) rfl rfl, fun U hU hW => cP_pre hPc hK hDc hN U hU hW⟩ rfl rfl hl.1 rfl (lv_room (Nat.le_of_ble_eq_true rfl)) dX11_count_24 ⟨Nat.le_of_ble_eq_true rfl, Nat.le_of_ble_eq_true rfl⟩) hS (fun q _ h => hFc q h) hFc (fun u t H1 locs ht hvm hw hB hz1 hk1 hS => ?_)
  obtain ⟨f_433, hf_434, hP1, hD1⟩ := hB
  rw [ht] at hP1
  obtain ⟨hP, hD⟩ := va_join (wr := [(m_um, .inl (cI, 2, .inl fu))]) (w1 := [(h0, .inr (10, (fs_431.set 45 (.int 0)))), (m_mk, .inl (cI, 42, .inl f_433))]) hP hD [3, 1, 2] [0] rfl rfl (by decide) (by decide) hk1 hFc hP1 hD1
  generalize H1 = H at hP hS ⊢
  obtain ⟨fs_436, efs_436⟩ : ∃ z : List Value, z = fs_431.set 45 (.int 0) := ⟨_, rfl⟩
  have glfs_436 : fs_436.length = 68 := fs_len efs_436 glfs_431
  have hP : va_P (dC, dI) vwCl [(m_um, .inl (cI, 2, .inl fu)), (h0, .inr (10, fs_436)), (m_mk, .inl (cI, 42, .inl f_433))] H := by rw [efs_436]; exact hP
  have hD : va_D A [(m_um, .inl (cI, 2, .inl fu)), (h0, .inr (10, fs_436)), (m_mk, .inl (cI, 42, .inl f_433))] := by rw [efs_436]; exact hD
  refine lv_iconst (v := 0) hx hb dX11_count_27 (by decide) ?_
  refine lv_istore (lv' := [(4, .int 0), (3, .int 0), (2, .int 0), (0, .ref h0), (1, .int 5)]) hx hb dX11_count_28 hl (by decide) rfl (fun ls hl => ?_)
  refine lv_iload hx hb dX11_count_30 (lv_at hl 0 rfl) ?_
  refine lv_aload_n hx hb dX11_count_32 rfl (lv_at hl 3 rfl) ?_
  refine va_get (D := (dC, dI)) (ci := 10) (v := .ref m_um) (C := RX11) (T := TX11) (N := 68) hx hb hts iwwsX11_count_11 hown hK hP 1 rfl rfl 26 (by decide) (hts (.fieldLink RX11 53 "NothingJudgeModel" "useMany" "[I") fwwsX11_count_53) (fun _ h9 => h9) (fs_ne efs_436 (by decide) (fs_ne efs_431 (by decide) g_fs_26)) dX11_count_33 ?_
  refine lv_iconst (v := 0) hx hb dX11_count_36 (by decide) ?_
  refine va_iald hx hb hK hP 0 0 rfl rfl (by unfold vp_in; decide) dX11_count_37 ?_
  refine lv_topi (fun y_437 ey_437 => ?_)
  obtain rfl : y_437 = 0 := ey_437.trans hu
  refine lv_icmp_ge (tgt := 83) hx hb dX11_count_38 (by decide) (fun _ => ?_) (fun c9 => absurd (by decide) c9)
  refine lv_iload_n hx hb dX11_count_83 rfl (lv_at hl 4 rfl) ?_
  refine lv_tableIn (off := 66) (tgt := 150) hx hb dX11_count_84 (by decide) (by decide) (by decide) (by decide) ?_
  refine lv_iload_n hx hb dX11_count_150 rfl (lv_at hl 1 rfl) ?_
  subst efs_436
  subst efs_431
  have hP9 := hP.sub (ws' := []) [] rfl
  have hD9 := hD.sub (ws' := []) [] (by decide) rfl
  exact W.iret (v := 0) hx hb hr (fun t ht hW => ⟨⟨0, (), rfl, rfl, by rw [ht]; exact hP9, hD9⟩, hS.F ht⟩) hS.2.2 dX11_count_151

set_option maxHeartbeats 4000000 in
set_option maxRecDepth 100000 in
theorem m_countN (l : Launch) (dC : Nat → ClassId) (dI : Nat → Nat → Nat) (cI cB cL cZ : ClassId) (h0 : Nat) (w : Int32) (fs : List Value) (sz : Nat) (gl_fs : fs.length = 68) (hw9 : w.toInt < 0 ∨ 5 < w.toInt) : Met l yX11_count wsX11_count ({ frames := 0, cells := 0, slots := 0, locals := 0 }) (cP (dC, dI) (kTy cI cB cL cZ) [.ref h0, .int w] [(h0, .inr (10, fs))] sz) (va_Qi (fun (r : Int32) (_ : Unit) => r = -1) (fun (_ : Unit) (t : State) => va_P (dC, dI) vwCl [] t.heap ∧ va_D (va_A [(h0, .inr (10, fs))] sz) []) (va_A [(h0, .inr (10, fs))] sz)) 0 0 (va_A [(h0, .inr (10, fs))] sz) := by
  refine Met.ofW (cc := cX11_count) (maxL := 5) (ret := (some .int)) (by decide) rfl ?_
  intro p e s m args below meth c s₁ B hml hv
  obtain ⟨rfl, hsz, hP, hK, hD0, hN⟩ := hv
  have hx := B.exec
  have hb := B.bytes
  have hr := B.returns
  have hts := atoms_spec (ws := wsX11_count) B.pre
  have hown : s.vm.findClass RX11 = some m.cls := findClass_of_methodNamed B.named
  have hlocks := B.notSynchronized
  subst hsz
  have hD := hD0.self (sz := s.heap.size)
  generalize hAe : va_A [(h0, .inr (10, fs))] s.heap.size = A at hD ⊢
  have hA : ∀ q : Nat, s.heap.size ≤ q → A q := fun q h => by rw [← hAe]; exact Or.inr h
  have hl := lv_entry ([.ref h0, .int w]) (n := 5) (Nat.le_of_ble_eq_true rfl)
  rw [lg_entry_eq]
  generalize (lg_sl ([.ref h0, .int w]) ++ List.replicate (5 - (lg_sl ([.ref h0, .int w])).length) Slot.unset).toArray = ls at hl ⊢
  have hl : lv_has ls 5 [(0, .ref h0), (1, .int w)] := hl
  refine k_H (A := A) hP (fun H hP hS => ?_)
  have hP : va_P (dC, dI) vwCl [(h0, .inr (10, fs))] H := hP
  have hD : va_D A [(h0, .inr (10, fs))] := hD
  refine lv_aload_n hx hb dX11_count_0 rfl (lv_at hl 0 rfl) ?_
  refine lv_iconst (v := 0) hx hb dX11_count_1 (by decide) ?_
  refine va_put (D := (dC, dI)) (ci := 10) (v := .int 0) (ty := .int) (C := RX11) (T := TX11) (N := 68) hx hb hts iwwsX11_count_11 tyX11 tyX11_ok nmX11 hown hK hP hD hS 0 rfl rfl 0 (by decide) (hts (.fieldLink RX11 121 "NothingJudgeModel" "thrown" "I") fwwsX11_count_121) (fun _ h9 => h9) rfl (by decide +kernel) rfl rfl (by rw [gl_fs]; decide) dX11_count_2 (fun H locs hP hD hS => ?_)
  obtain ⟨fs_438, efs_438⟩ : ∃ z : List Value, z = fs.set 0 (.int 0) := ⟨_, rfl⟩
  have glfs_438 : fs_438.length = 68 := fs_len efs_438 gl_fs
  have hP : va_P (dC, dI) vwCl [(h0, .inr (10, fs_438))] H := by rw [efs_438]; exact hP
  have hD : va_D A [(h0, .inr (10, fs_438))] := by rw [efs_438]; exact hD
  refine lv_iconst (v := 0) hx hb dX11_count_5 (by decide) ?_
  refine lv_istore_n (lv' := [(2, .int 0), (0, .ref h0), (1, .int w)]) hx hb dX11_count_6 rfl hl (by decide) rfl (fun ls hl => ?_)
  refine lv_iconst (v := 0) hx hb dX11_count_7 (by decide) ?_
  refine lv_istore_n (lv' := [(3, .int 0), (2, .int 0), (0, .ref h0), (1, .int w)]) hx hb dX11_count_8 rfl hl (by decide) rfl (fun ls hl => ?_)
  refine lv_iload_n hx hb dX11_count_9 rfl (lv_at hl 3 rfl) ?_
  refine lv_iconst (v := 4) hx hb dX11_count_10 (by decide) ?_
  refine lv_icmp_eq (tgt := 19) hx hb dX11_count_11 (by decide) (fun c9 => absurd c9 (fun h9 => by subst h9; revert hw9; decide)) (fun _ => ?_)
  refine lv_iload_n hx hb dX11_count_14 rfl (lv_at hl 3 rfl) ?_
  refine lv_iconst (v := 5) hx hb dX11_count_15 (by decide) ?_
  refine lv_icmp_ne (tgt := 83) hx hb dX11_count_16 (by decide) (fun _ => ?_) (fun c9 => absurd c9 (fun h9 => by subst h9; revert hw9; decide))
  refine lv_iload_n hx hb dX11_count_83 rfl (lv_at hl 3 rfl) ?_
  refine lv_tableOut (tgt := 152) hx hb dX11_count_84 hw9 (by decide) ?_
  refine lv_iconst (v := (-1)) hx hb dX11_count_152 (by decide) ?_
  subst efs_438
  have hP9 := hP.sub (ws' := []) [] rfl
  have hD9 := hD.sub (ws' := []) [] (by decide) rfl
  exact W.iret (v := (-1)) hx hb hr (fun t ht hW => ⟨⟨(-1), (), rfl, rfl, by rw [ht]; exact hP9, hD9⟩, hS.F ht⟩) hS.2.2 dX11_count_153

set_option maxHeartbeats 4000000 in
set_option maxRecDepth 100000 in
theorem m_feed (l : Launch) (dC : Nat → ClassId) (dI : Nat → Nat → Nat) (cI cB cL cZ : ClassId) (h0 : Nat) (m_tp : Nat) (n1 : Int32) (n2 : Int32) (n3 : Int32) (n4 : Int32) (n5 : Int32) (fs : List Value) (f : Nat → Int32) (sz : Nat) (gl_fs : fs.length = 68) (g_fs_1 : fs[1]? = some (.ref m_tp)) (g_fs_2 : fs[2]? = some (.int 0)) : Met l yX11_feed wsX11_feed ({ frames := 0, cells := 0, slots := 0, locals := 0 }) (cP (dC, dI) (kTy cI cB cL cZ) [.ref h0, .int n1, .int n2, .int n3, .int n4, .int n5] [(h0, .inr (10, fs)), (m_tp, .inl (cI, 1200, .inl f))] sz) (va_Qi (fun (r : Int32) (_ : Unit) => r = 20) (fun (_ : Unit) (t : State) => va_P (dC, dI) vwCl [] t.heap ∧ va_D (va_A [(h0, .inr (10, fs)), (m_tp, .inl (cI, 1200, .inl f))] sz) []) (va_A [(h0, .inr (10, fs)), (m_tp, .inl (cI, 1200, .inl f))] sz)) 0 0 (va_A [(h0, .inr (10, fs)), (m_tp, .inl (cI, 1200, .inl f))] sz) := by
  refine Met.ofW (cc := cX11_feed) (maxL := 8) (ret := (some .int)) (by decide) rfl ?_
  intro p e s m args below meth c s₁ B hml hv
  obtain ⟨rfl, hsz, hP, hK, hD0, hN⟩ := hv
  have hx := B.exec
  have hb := B.bytes
  have hr := B.returns
  have hts := atoms_spec (ws := wsX11_feed) B.pre
  have hown : s.vm.findClass RX11 = some m.cls := findClass_of_methodNamed B.named
  have hlocks := B.notSynchronized
  subst hsz
  have hD := hD0.self (sz := s.heap.size)
  generalize hAe : va_A [(h0, .inr (10, fs)), (m_tp, .inl (cI, 1200, .inl f))] s.heap.size = A at hD ⊢
  have hA : ∀ q : Nat, s.heap.size ≤ q → A q := fun q h => by rw [← hAe]; exact Or.inr h
  have hl := lv_entry ([.ref h0, .int n1, .int n2, .int n3, .int n4, .int n5]) (n := 8) (Nat.le_of_ble_eq_true rfl)
  rw [lg_entry_eq]
  generalize (lg_sl ([.ref h0, .int n1, .int n2, .int n3, .int n4, .int n5]) ++ List.replicate (8 - (lg_sl ([.ref h0, .int n1, .int n2, .int n3, .int n4, .int n5])).length) Slot.unset).toArray = ls at hl ⊢
  have hl : lv_has ls 8 [(0, .ref h0), (1, .int n1), (2, .int n2), (3, .int n3), (4, .int n4), (5, .int n5)] := hl
  refine k_H (A := A) hP (fun H hP hS => ?_)
  have hP : va_P (dC, dI) vwCl [(h0, .inr (10, fs)), (m_tp, .inl (cI, 1200, .inl f))] H := hP
  have hD : va_D A [(h0, .inr (10, fs)), (m_tp, .inl (cI, 1200, .inl f))] := hD
  refine lv_aload_n hx hb dX11_feed_0 rfl (lv_at hl 0 rfl) ?_
  refine lv_iconst (v := 0) hx hb dX11_feed_1 (by decide) ?_
  refine va_put (D := (dC, dI)) (ci := 10) (v := .int 0) (ty := .int) (C := RX11) (T := TX11) (N := 68) hx hb hts iwwsX11_feed_11 tyX11 tyX11_ok nmX11 hown hK hP hD hS 0 rfl rfl 0 (by decide) (hts (.fieldLink RX11 121 "NothingJudgeModel" "thrown" "I") fwwsX11_feed_121) (fun _ h9 => h9) rfl (by decide +kernel) rfl rfl (by rw [gl_fs]; decide) dX11_feed_2 (fun H locs hP hD hS => ?_)
  obtain ⟨fs_439, efs_439⟩ : ∃ z : List Value, z = fs.set 0 (.int 0) := ⟨_, rfl⟩
  have glfs_439 : fs_439.length = 68 := fs_len efs_439 gl_fs
  have hP : va_P (dC, dI) vwCl [(h0, .inr (10, fs_439)), (m_tp, .inl (cI, 1200, .inl f))] H := by rw [efs_439]; exact hP
  have hD : va_D A [(h0, .inr (10, fs_439)), (m_tp, .inl (cI, 1200, .inl f))] := by rw [efs_439]; exact hD
  refine lv_aload_n hx hb dX11_feed_5 rfl (lv_at hl 0 rfl) ?_
  refine va_get (D := (dC, dI)) (ci := 10) (v := .int 0) (C := RX11) (T := TX11) (N := 68) hx hb hts iwwsX11_feed_11 hown hK hP 0 rfl rfl 2 (by decide) (hts (.fieldLink RX11 124 "NothingJudgeModel" "taped" "I") fwwsX11_feed_124) (fun _ h9 => h9) (fs_ne efs_439 (by decide) g_fs_2) dX11_feed_6 ?_
  refine lv_sipush (v := 1180) hx hb dX11_feed_9 (by decide) ?_
  refine lv_icmp_le (tgt := 17) hx hb dX11_feed_12 (by decide) (fun _ => ?_) (fun c9 => absurd (by decide) c9)
  refine lv_iconst (v := 0) hx hb dX11_feed_17 (by decide) ?_
  refine lv_istore (lv' := [(6, .int 0), (0, .ref h0), (1, .int n1), (2, .int n2), (3, .int n3), (4, .int n4), (5, .int n5)]) hx hb dX11_feed_18 hl (by decide) rfl (fun ls hl => ?_)
  have hl := lv_sub hl (l' := [(6, .int 0), (0, .ref h0), (1, .int n1), (2, .int n2), (3, .int n3), (4, .int n4), (5, .int n5)]) [0, 1, 2, 3, 4, 5, 6] rfl
  have hl : lv_has ls 8 [(6, .int (nI 0)), (0, .ref h0), (1, .int n1), (2, .int n2), (3, .int n3), (4, .int n4), (5, .int n5)] := by rw [show nI 0 = (0 : Int32) by decide]; exact hl
  refine lp_up (S := (Nat → Int32)) (fun k st => True) (fun st => [(h0, .inr (10, fs_439)), (m_tp, .inl (cI, 1200, .inl (st)))]) (fun k st => [(6, .int (nI k)), (0, .ref h0), (1, .int n1), (2, .int n2), (3, .int n3), (4, .int n4), (5, .int n5)]) 20 20 ?_ ?_ 0 (by decide) (f) trivial hP hD hS hl
  · intro f_440 hJ H locs hP hD hS ls hl
    have hP : va_P (dC, dI) vwCl [(h0, .inr (10, fs_439)), (m_tp, .inl (cI, 1200, .inl f_440))] H := hP
    have hD : va_D A [(h0, .inr (10, fs_439)), (m_tp, .inl (cI, 1200, .inl f_440))] := hD
    have hl : lv_has ls 8 [(6, .int 20), (0, .ref h0), (1, .int n1), (2, .int n2), (3, .int n3), (4, .int n4), (5, .int n5)] := by rw [← show nI 20 = (20 : Int32) by decide]; exact hl
    refine lv_iload hx hb dX11_feed_20 (lv_at hl 0 rfl) ?_
    refine lv_bipush (v := 20) hx hb dX11_feed_22 (by decide) ?_
    refine lv_icmp_ge (tgt := 110) hx hb dX11_feed_24 (by decide) (fun _ => ?_) (fun c9 => absurd (by decide) c9)
    refine lv_aload_n hx hb dX11_feed_110 rfl (lv_at hl 1 rfl) ?_
    refine lv_dup hx hb dX11_feed_111 rfl ?_
    refine va_get (D := (dC, dI)) (ci := 10) (v := .int 0) (C := RX11) (T := TX11) (N := 68) hx hb hts iwwsX11_feed_11 hown hK hP 0 rfl rfl 2 (by decide) (hts (.fieldLink RX11 124 "NothingJudgeModel" "taped" "I") fwwsX11_feed_124) (fun _ h9 => h9) (fs_ne efs_439 (by decide) g_fs_2) dX11_feed_112 ?_
    refine lv_bipush (v := 20) hx hb dX11_feed_115 (by decide) ?_
    refine lv_iadd hx hb dX11_feed_117 ?_
    refine lv_topi (fun y_441 ey_441 => ?_)
    obtain rfl : y_441 = 20 := ey_441.trans (by decide)
    refine va_put (D := (dC, dI)) (ci := 10) (v := .int 20) (ty := .int) (C := RX11) (T := TX11) (N := 68) hx hb hts iwwsX11_feed_11 tyX11 tyX11_ok nmX11 hown hK hP hD hS 0 rfl rfl 2 (by decide) (hts (.fieldLink RX11 124 "NothingJudgeModel" "taped" "I") fwwsX11_feed_124) (fun _ h9 => h9) rfl (by decide +kernel) rfl rfl (by rw [glfs_439]; decide) dX11_feed_118 (fun H locs hP hD hS => ?_)
    obtain ⟨fs_442, efs_442⟩ : ∃ z : List Value, z = fs_439.set 2 (.int 20) := ⟨_, rfl⟩
    have glfs_442 : fs_442.length = 68 := fs_len efs_442 glfs_439
    have hP : va_P (dC, dI) vwCl [(h0, .inr (10, fs_442)), (m_tp, .inl (cI, 1200, .inl f_440))] H := by rw [efs_442]; exact hP
    have hD : va_D A [(h0, .inr (10, fs_442)), (m_tp, .inl (cI, 1200, .inl f_440))] := by rw [efs_442]; exact hD
    refine lv_aload_n hx hb dX11_feed_121 rfl (lv_at hl 1 rfl) ?_
    refine va_get (D := (dC, dI)) (ci := 10) (v := .int 20) (C := RX11) (T := TX11) (N := 68) hx hb hts iwwsX11_feed_11 hown hK hP 0 rfl rfl 2 (by decide) (hts (.fieldLink RX11 124 "NothingJudgeModel" "taped" "I") fwwsX11_feed_124) (fun _ h9 => h9) (fs_eq efs_442 (by rw [glfs_439]; decide)) dX11_feed_122 ?_
    subst efs_442
    subst efs_439
    have hP9 := hP.sub (ws' := []) [] rfl
    have hD9 := hD.sub (ws' := []) [] (by decide) rfl
    exact W.iret (v := 20) hx hb hr (fun t ht hW => ⟨⟨20, (), rfl, rfl, by rw [ht]; exact hP9, hD9⟩, hS.F ht⟩) hS.2.2 dX11_feed_125
  · intro k f_443 hk hJ ih H locs hP hD hS ls hl
    have hP : va_P (dC, dI) vwCl [(h0, .inr (10, fs_439)), (m_tp, .inl (cI, 1200, .inl f_443))] H := hP
    have hD : va_D A [(h0, .inr (10, fs_439)), (m_tp, .inl (cI, 1200, .inl f_443))] := hD
    have hl : lv_has ls 8 [(6, .int (nI k)), (0, .ref h0), (1, .int n1), (2, .int n2), (3, .int n3), (4, .int n4), (5, .int n5)] := hl
    refine lv_iload hx hb dX11_feed_20 (lv_at hl 0 rfl) ?_
    refine lv_bipush (v := 20) hx hb dX11_feed_22 (by decide) ?_
    refine lv_icmp_ge (tgt := 110) hx hb dX11_feed_24 (by decide) (fun c9 => absurd c9 (ge_no (N := 20) (by decide) hk (by decide))) (fun _ => ?_)
    refine lv_iload hx hb dX11_feed_27 (lv_at hl 0 rfl) ?_
    refine lv_iconst (v := 4) hx hb dX11_feed_29 (by decide) ?_
    refine lv_icmp_ge (tgt := 37) hx hb dX11_feed_30 (by decide) (fun c_444 => ?_) (fun c_444 => ?_)
    · refine lv_iload hx hb dX11_feed_37 (lv_at hl 0 rfl) ?_
      refine lv_bipush (v := 8) hx hb dX11_feed_39 (by decide) ?_
      refine lv_icmp_ge (tgt := 48) hx hb dX11_feed_41 (by decide) (fun c_445 => ?_) (fun c_445 => ?_)
      · refine lv_iload hx hb dX11_feed_48 (lv_at hl 0 rfl) ?_
        refine lv_bipush (v := 12) hx hb dX11_feed_50 (by decide) ?_
        refine lv_icmp_ge (tgt := 59) hx hb dX11_feed_52 (by decide) (fun c_446 => ?_) (fun c_446 => ?_)
        · refine lv_iload hx hb dX11_feed_59 (lv_at hl 0 rfl) ?_
          refine lv_bipush (v := 16) hx hb dX11_feed_61 (by decide) ?_
          refine lv_icmp_ge (tgt := 71) hx hb dX11_feed_63 (by decide) (fun c_447 => ?_) (fun c_447 => ?_)
          · refine lv_iload hx hb dX11_feed_71 (lv_at hl 6 rfl) ?_
            refine lv_istore (lv' := [(7, .int n5), (6, .int (nI k)), (0, .ref h0), (1, .int n1), (2, .int n2), (3, .int n3), (4, .int n4), (5, .int n5)]) hx hb dX11_feed_73 hl (by decide) rfl (fun ls hl => ?_)
            refine lv_aload_n hx hb dX11_feed_75 rfl (lv_at hl 2 rfl) ?_
            refine va_get (D := (dC, dI)) (ci := 10) (v := .ref m_tp) (C := RX11) (T := TX11) (N := 68) hx hb hts iwwsX11_feed_11 hown hK hP 0 rfl rfl 1 (by decide) (hts (.fieldLink RX11 7 "NothingJudgeModel" "tape" "[I") fwwsX11_feed_7) (fun _ h9 => h9) (fs_ne efs_439 (by decide) g_fs_1) dX11_feed_76 ?_
            refine lv_aload_n hx hb dX11_feed_79 rfl (lv_at hl 2 rfl) ?_
            refine va_get (D := (dC, dI)) (ci := 10) (v := .int 0) (C := RX11) (T := TX11) (N := 68) hx hb hts iwwsX11_feed_11 hown hK hP 0 rfl rfl 2 (by decide) (hts (.fieldLink RX11 124 "NothingJudgeModel" "taped" "I") fwwsX11_feed_124) (fun _ h9 => h9) (fs_ne efs_439 (by decide) g_fs_2) dX11_feed_80 ?_
            refine lv_iload hx hb dX11_feed_83 (lv_at hl 1 rfl) ?_
            refine lv_iadd hx hb dX11_feed_85 ?_
            refine lv_topi (fun v_448 ev_448 => ?_)
            refine lv_iload hx hb dX11_feed_86 (lv_at hl 0 rfl) ?_
            refine lv_bipush (v := 24) hx hb dX11_feed_88 (by decide) ?_
            refine lv_bipush (v := 8) hx hb dX11_feed_90 (by decide) ?_
            refine lv_iload hx hb dX11_feed_92 (lv_at hl 1 rfl) ?_
            refine lv_iconst (v := 4) hx hb dX11_feed_94 (by decide) ?_
            refine lv_irem hx hb dX11_feed_95 (by decide) ?_
            refine lv_topi (fun v_449 ev_449 => ?_)
            refine lv_imul hx hb dX11_feed_96 ?_
            refine lv_topi (fun v_450 ev_450 => ?_)
            refine lv_isub hx hb dX11_feed_97 ?_
            refine lv_topi (fun v_451 ev_451 => ?_)
            refine lv_ishr hx hb dX11_feed_98 ?_
            refine lv_topi (fun v_452 ev_452 => ?_)
            refine lv_sipush (v := 255) hx hb dX11_feed_99 (by decide) ?_
            refine lv_iand hx hb dX11_feed_102 ?_
            refine lv_topi (fun v_453 ev_453 => ?_)
            refine va_iast hx hb hK hP hD hS 1 0 rfl rfl (in_add (c := 0) ev_448 (by omega) (by decide) (by decide)) dX11_feed_103 (fun H locs hP hD hS => ?_)
            obtain ⟨f_454, ef_454⟩ : ∃ z, z = upd f_443 v_448.toNatClampNeg v_453 := ⟨_, rfl⟩
            have hP : va_P (dC, dI) vwCl [(h0, .inr (10, fs_439)), (m_tp, .inl (cI, 1200, .inl f_454))] H := by rw [ef_454]; exact hP
            have hD : va_D A [(h0, .inr (10, fs_439)), (m_tp, .inl (cI, 1200, .inl f_454))] := by rw [ef_454]; exact hD
            obtain ⟨x_455, ex_455⟩ : ∃ z : Int32, z = (nI k) + 1 := ⟨_, rfl⟩
            refine lv_iinc (v := x_455) (lv' := [(6, .int x_455), (7, .int n5), (0, .ref h0), (1, .int n1), (2, .int n2), (3, .int n3), (4, .int n4), (5, .int n5)]) hx hb dX11_feed_104 hl (k := 1) rfl (by rw [ex_455]; rfl) (by decide) rfl (fun ls hl => ?_)
            refine lv_goto (tgt := 20) hx hb dX11_feed_107 (by decide) ?_
            have hl := lv_sub hl (l' := [(6, .int x_455), (0, .ref h0), (1, .int n1), (2, .int n2), (3, .int n3), (4, .int n4), (5, .int n5)]) [0, 2, 3, 4, 5, 6, 7] rfl
            rw [ex_455, nI_1 k] at hl
            exact ih (f_454) trivial H locs hP hD hS ls hl
          · refine lv_iload hx hb dX11_feed_66 (lv_at hl 5 rfl) ?_
            refine lv_goto (tgt := 73) hx hb dX11_feed_68 (by decide) ?_
            refine lv_istore (lv' := [(7, .int n4), (6, .int (nI k)), (0, .ref h0), (1, .int n1), (2, .int n2), (3, .int n3), (4, .int n4), (5, .int n5)]) hx hb dX11_feed_73 hl (by decide) rfl (fun ls hl => ?_)
            refine lv_aload_n hx hb dX11_feed_75 rfl (lv_at hl 2 rfl) ?_
            refine va_get (D := (dC, dI)) (ci := 10) (v := .ref m_tp) (C := RX11) (T := TX11) (N := 68) hx hb hts iwwsX11_feed_11 hown hK hP 0 rfl rfl 1 (by decide) (hts (.fieldLink RX11 7 "NothingJudgeModel" "tape" "[I") fwwsX11_feed_7) (fun _ h9 => h9) (fs_ne efs_439 (by decide) g_fs_1) dX11_feed_76 ?_
            refine lv_aload_n hx hb dX11_feed_79 rfl (lv_at hl 2 rfl) ?_
            refine va_get (D := (dC, dI)) (ci := 10) (v := .int 0) (C := RX11) (T := TX11) (N := 68) hx hb hts iwwsX11_feed_11 hown hK hP 0 rfl rfl 2 (by decide) (hts (.fieldLink RX11 124 "NothingJudgeModel" "taped" "I") fwwsX11_feed_124) (fun _ h9 => h9) (fs_ne efs_439 (by decide) g_fs_2) dX11_feed_80 ?_
            refine lv_iload hx hb dX11_feed_83 (lv_at hl 1 rfl) ?_
            refine lv_iadd hx hb dX11_feed_85 ?_
            refine lv_topi (fun v_456 ev_456 => ?_)
            refine lv_iload hx hb dX11_feed_86 (lv_at hl 0 rfl) ?_
            refine lv_bipush (v := 24) hx hb dX11_feed_88 (by decide) ?_
            refine lv_bipush (v := 8) hx hb dX11_feed_90 (by decide) ?_
            refine lv_iload hx hb dX11_feed_92 (lv_at hl 1 rfl) ?_
            refine lv_iconst (v := 4) hx hb dX11_feed_94 (by decide) ?_
            refine lv_irem hx hb dX11_feed_95 (by decide) ?_
            refine lv_topi (fun v_457 ev_457 => ?_)
            refine lv_imul hx hb dX11_feed_96 ?_
            refine lv_topi (fun v_458 ev_458 => ?_)
            refine lv_isub hx hb dX11_feed_97 ?_
            refine lv_topi (fun v_459 ev_459 => ?_)
            refine lv_ishr hx hb dX11_feed_98 ?_
            refine lv_topi (fun v_460 ev_460 => ?_)
            refine lv_sipush (v := 255) hx hb dX11_feed_99 (by decide) ?_
            refine lv_iand hx hb dX11_feed_102 ?_
            refine lv_topi (fun v_461 ev_461 => ?_)
            refine va_iast hx hb hK hP hD hS 1 0 rfl rfl (in_add (c := 0) ev_456 (by omega) (by decide) (by decide)) dX11_feed_103 (fun H locs hP hD hS => ?_)
            obtain ⟨f_462, ef_462⟩ : ∃ z, z = upd f_443 v_456.toNatClampNeg v_461 := ⟨_, rfl⟩
            have hP : va_P (dC, dI) vwCl [(h0, .inr (10, fs_439)), (m_tp, .inl (cI, 1200, .inl f_462))] H := by rw [ef_462]; exact hP
            have hD : va_D A [(h0, .inr (10, fs_439)), (m_tp, .inl (cI, 1200, .inl f_462))] := by rw [ef_462]; exact hD
            obtain ⟨x_463, ex_463⟩ : ∃ z : Int32, z = (nI k) + 1 := ⟨_, rfl⟩
            refine lv_iinc (v := x_463) (lv' := [(6, .int x_463), (7, .int n4), (0, .ref h0), (1, .int n1), (2, .int n2), (3, .int n3), (4, .int n4), (5, .int n5)]) hx hb dX11_feed_104 hl (k := 1) rfl (by rw [ex_463]; rfl) (by decide) rfl (fun ls hl => ?_)
            refine lv_goto (tgt := 20) hx hb dX11_feed_107 (by decide) ?_
            have hl := lv_sub hl (l' := [(6, .int x_463), (0, .ref h0), (1, .int n1), (2, .int n2), (3, .int n3), (4, .int n4), (5, .int n5)]) [0, 2, 3, 4, 5, 6, 7] rfl
            rw [ex_463, nI_1 k] at hl
            exact ih (f_462) trivial H locs hP hD hS ls hl
        · refine lv_iload_n hx hb dX11_feed_55 rfl (lv_at hl 4 rfl) ?_
          refine lv_goto (tgt := 73) hx hb dX11_feed_56 (by decide) ?_
          refine lv_istore (lv' := [(7, .int n3), (6, .int (nI k)), (0, .ref h0), (1, .int n1), (2, .int n2), (3, .int n3), (4, .int n4), (5, .int n5)]) hx hb dX11_feed_73 hl (by decide) rfl (fun ls hl => ?_)
          refine lv_aload_n hx hb dX11_feed_75 rfl (lv_at hl 2 rfl) ?_
          refine va_get (D := (dC, dI)) (ci := 10) (v := .ref m_tp) (C := RX11) (T := TX11) (N := 68) hx hb hts iwwsX11_feed_11 hown hK hP 0 rfl rfl 1 (by decide) (hts (.fieldLink RX11 7 "NothingJudgeModel" "tape" "[I") fwwsX11_feed_7) (fun _ h9 => h9) (fs_ne efs_439 (by decide) g_fs_1) dX11_feed_76 ?_
          refine lv_aload_n hx hb dX11_feed_79 rfl (lv_at hl 2 rfl) ?_
          refine va_get (D := (dC, dI)) (ci := 10) (v := .int 0) (C := RX11) (T := TX11) (N := 68) hx hb hts iwwsX11_feed_11 hown hK hP 0 rfl rfl 2 (by decide) (hts (.fieldLink RX11 124 "NothingJudgeModel" "taped" "I") fwwsX11_feed_124) (fun _ h9 => h9) (fs_ne efs_439 (by decide) g_fs_2) dX11_feed_80 ?_
          refine lv_iload hx hb dX11_feed_83 (lv_at hl 1 rfl) ?_
          refine lv_iadd hx hb dX11_feed_85 ?_
          refine lv_topi (fun v_464 ev_464 => ?_)
          refine lv_iload hx hb dX11_feed_86 (lv_at hl 0 rfl) ?_
          refine lv_bipush (v := 24) hx hb dX11_feed_88 (by decide) ?_
          refine lv_bipush (v := 8) hx hb dX11_feed_90 (by decide) ?_
          refine lv_iload hx hb dX11_feed_92 (lv_at hl 1 rfl) ?_
          refine lv_iconst (v := 4) hx hb dX11_feed_94 (by decide) ?_
          refine lv_irem hx hb dX11_feed_95 (by decide) ?_
          refine lv_topi (fun v_465 ev_465 => ?_)
          refine lv_imul hx hb dX11_feed_96 ?_
          refine lv_topi (fun v_466 ev_466 => ?_)
          refine lv_isub hx hb dX11_feed_97 ?_
          refine lv_topi (fun v_467 ev_467 => ?_)
          refine lv_ishr hx hb dX11_feed_98 ?_
          refine lv_topi (fun v_468 ev_468 => ?_)
          refine lv_sipush (v := 255) hx hb dX11_feed_99 (by decide) ?_
          refine lv_iand hx hb dX11_feed_102 ?_
          refine lv_topi (fun v_469 ev_469 => ?_)
          refine va_iast hx hb hK hP hD hS 1 0 rfl rfl (in_add (c := 0) ev_464 (by omega) (by decide) (by decide)) dX11_feed_103 (fun H locs hP hD hS => ?_)
          obtain ⟨f_470, ef_470⟩ : ∃ z, z = upd f_443 v_464.toNatClampNeg v_469 := ⟨_, rfl⟩
          have hP : va_P (dC, dI) vwCl [(h0, .inr (10, fs_439)), (m_tp, .inl (cI, 1200, .inl f_470))] H := by rw [ef_470]; exact hP
          have hD : va_D A [(h0, .inr (10, fs_439)), (m_tp, .inl (cI, 1200, .inl f_470))] := by rw [ef_470]; exact hD
          obtain ⟨x_471, ex_471⟩ : ∃ z : Int32, z = (nI k) + 1 := ⟨_, rfl⟩
          refine lv_iinc (v := x_471) (lv' := [(6, .int x_471), (7, .int n3), (0, .ref h0), (1, .int n1), (2, .int n2), (3, .int n3), (4, .int n4), (5, .int n5)]) hx hb dX11_feed_104 hl (k := 1) rfl (by rw [ex_471]; rfl) (by decide) rfl (fun ls hl => ?_)
          refine lv_goto (tgt := 20) hx hb dX11_feed_107 (by decide) ?_
          have hl := lv_sub hl (l' := [(6, .int x_471), (0, .ref h0), (1, .int n1), (2, .int n2), (3, .int n3), (4, .int n4), (5, .int n5)]) [0, 2, 3, 4, 5, 6, 7] rfl
          rw [ex_471, nI_1 k] at hl
          exact ih (f_470) trivial H locs hP hD hS ls hl
      · refine lv_iload_n hx hb dX11_feed_44 rfl (lv_at hl 3 rfl) ?_
        refine lv_goto (tgt := 73) hx hb dX11_feed_45 (by decide) ?_
        refine lv_istore (lv' := [(7, .int n2), (6, .int (nI k)), (0, .ref h0), (1, .int n1), (2, .int n2), (3, .int n3), (4, .int n4), (5, .int n5)]) hx hb dX11_feed_73 hl (by decide) rfl (fun ls hl => ?_)
        refine lv_aload_n hx hb dX11_feed_75 rfl (lv_at hl 2 rfl) ?_
        refine va_get (D := (dC, dI)) (ci := 10) (v := .ref m_tp) (C := RX11) (T := TX11) (N := 68) hx hb hts iwwsX11_feed_11 hown hK hP 0 rfl rfl 1 (by decide) (hts (.fieldLink RX11 7 "NothingJudgeModel" "tape" "[I") fwwsX11_feed_7) (fun _ h9 => h9) (fs_ne efs_439 (by decide) g_fs_1) dX11_feed_76 ?_
        refine lv_aload_n hx hb dX11_feed_79 rfl (lv_at hl 2 rfl) ?_
        refine va_get (D := (dC, dI)) (ci := 10) (v := .int 0) (C := RX11) (T := TX11) (N := 68) hx hb hts iwwsX11_feed_11 hown hK hP 0 rfl rfl 2 (by decide) (hts (.fieldLink RX11 124 "NothingJudgeModel" "taped" "I") fwwsX11_feed_124) (fun _ h9 => h9) (fs_ne efs_439 (by decide) g_fs_2) dX11_feed_80 ?_
        refine lv_iload hx hb dX11_feed_83 (lv_at hl 1 rfl) ?_
        refine lv_iadd hx hb dX11_feed_85 ?_
        refine lv_topi (fun v_472 ev_472 => ?_)
        refine lv_iload hx hb dX11_feed_86 (lv_at hl 0 rfl) ?_
        refine lv_bipush (v := 24) hx hb dX11_feed_88 (by decide) ?_
        refine lv_bipush (v := 8) hx hb dX11_feed_90 (by decide) ?_
        refine lv_iload hx hb dX11_feed_92 (lv_at hl 1 rfl) ?_
        refine lv_iconst (v := 4) hx hb dX11_feed_94 (by decide) ?_
        refine lv_irem hx hb dX11_feed_95 (by decide) ?_
        refine lv_topi (fun v_473 ev_473 => ?_)
        refine lv_imul hx hb dX11_feed_96 ?_
        refine lv_topi (fun v_474 ev_474 => ?_)
        refine lv_isub hx hb dX11_feed_97 ?_
        refine lv_topi (fun v_475 ev_475 => ?_)
        refine lv_ishr hx hb dX11_feed_98 ?_
        refine lv_topi (fun v_476 ev_476 => ?_)
        refine lv_sipush (v := 255) hx hb dX11_feed_99 (by decide) ?_
        refine lv_iand hx hb dX11_feed_102 ?_
        refine lv_topi (fun v_477 ev_477 => ?_)
        refine va_iast hx hb hK hP hD hS 1 0 rfl rfl (in_add (c := 0) ev_472 (by omega) (by decide) (by decide)) dX11_feed_103 (fun H locs hP hD hS => ?_)
        obtain ⟨f_478, ef_478⟩ : ∃ z, z = upd f_443 v_472.toNatClampNeg v_477 := ⟨_, rfl⟩
        have hP : va_P (dC, dI) vwCl [(h0, .inr (10, fs_439)), (m_tp, .inl (cI, 1200, .inl f_478))] H := by rw [ef_478]; exact hP
        have hD : va_D A [(h0, .inr (10, fs_439)), (m_tp, .inl (cI, 1200, .inl f_478))] := by rw [ef_478]; exact hD
        obtain ⟨x_479, ex_479⟩ : ∃ z : Int32, z = (nI k) + 1 := ⟨_, rfl⟩
        refine lv_iinc (v := x_479) (lv' := [(6, .int x_479), (7, .int n2), (0, .ref h0), (1, .int n1), (2, .int n2), (3, .int n3), (4, .int n4), (5, .int n5)]) hx hb dX11_feed_104 hl (k := 1) rfl (by rw [ex_479]; rfl) (by decide) rfl (fun ls hl => ?_)
        refine lv_goto (tgt := 20) hx hb dX11_feed_107 (by decide) ?_
        have hl := lv_sub hl (l' := [(6, .int x_479), (0, .ref h0), (1, .int n1), (2, .int n2), (3, .int n3), (4, .int n4), (5, .int n5)]) [0, 2, 3, 4, 5, 6, 7] rfl
        rw [ex_479, nI_1 k] at hl
        exact ih (f_478) trivial H locs hP hD hS ls hl
    · refine lv_iload_n hx hb dX11_feed_33 rfl (lv_at hl 2 rfl) ?_
      refine lv_goto (tgt := 73) hx hb dX11_feed_34 (by decide) ?_
      refine lv_istore (lv' := [(7, .int n1), (6, .int (nI k)), (0, .ref h0), (1, .int n1), (2, .int n2), (3, .int n3), (4, .int n4), (5, .int n5)]) hx hb dX11_feed_73 hl (by decide) rfl (fun ls hl => ?_)
      refine lv_aload_n hx hb dX11_feed_75 rfl (lv_at hl 2 rfl) ?_
      refine va_get (D := (dC, dI)) (ci := 10) (v := .ref m_tp) (C := RX11) (T := TX11) (N := 68) hx hb hts iwwsX11_feed_11 hown hK hP 0 rfl rfl 1 (by decide) (hts (.fieldLink RX11 7 "NothingJudgeModel" "tape" "[I") fwwsX11_feed_7) (fun _ h9 => h9) (fs_ne efs_439 (by decide) g_fs_1) dX11_feed_76 ?_
      refine lv_aload_n hx hb dX11_feed_79 rfl (lv_at hl 2 rfl) ?_
      refine va_get (D := (dC, dI)) (ci := 10) (v := .int 0) (C := RX11) (T := TX11) (N := 68) hx hb hts iwwsX11_feed_11 hown hK hP 0 rfl rfl 2 (by decide) (hts (.fieldLink RX11 124 "NothingJudgeModel" "taped" "I") fwwsX11_feed_124) (fun _ h9 => h9) (fs_ne efs_439 (by decide) g_fs_2) dX11_feed_80 ?_
      refine lv_iload hx hb dX11_feed_83 (lv_at hl 1 rfl) ?_
      refine lv_iadd hx hb dX11_feed_85 ?_
      refine lv_topi (fun v_480 ev_480 => ?_)
      refine lv_iload hx hb dX11_feed_86 (lv_at hl 0 rfl) ?_
      refine lv_bipush (v := 24) hx hb dX11_feed_88 (by decide) ?_
      refine lv_bipush (v := 8) hx hb dX11_feed_90 (by decide) ?_
      refine lv_iload hx hb dX11_feed_92 (lv_at hl 1 rfl) ?_
      refine lv_iconst (v := 4) hx hb dX11_feed_94 (by decide) ?_
      refine lv_irem hx hb dX11_feed_95 (by decide) ?_
      refine lv_topi (fun v_481 ev_481 => ?_)
      refine lv_imul hx hb dX11_feed_96 ?_
      refine lv_topi (fun v_482 ev_482 => ?_)
      refine lv_isub hx hb dX11_feed_97 ?_
      refine lv_topi (fun v_483 ev_483 => ?_)
      refine lv_ishr hx hb dX11_feed_98 ?_
      refine lv_topi (fun v_484 ev_484 => ?_)
      refine lv_sipush (v := 255) hx hb dX11_feed_99 (by decide) ?_
      refine lv_iand hx hb dX11_feed_102 ?_
      refine lv_topi (fun v_485 ev_485 => ?_)
      refine va_iast hx hb hK hP hD hS 1 0 rfl rfl (in_add (c := 0) ev_480 (by omega) (by decide) (by decide)) dX11_feed_103 (fun H locs hP hD hS => ?_)
      obtain ⟨f_486, ef_486⟩ : ∃ z, z = upd f_443 v_480.toNatClampNeg v_485 := ⟨_, rfl⟩
      have hP : va_P (dC, dI) vwCl [(h0, .inr (10, fs_439)), (m_tp, .inl (cI, 1200, .inl f_486))] H := by rw [ef_486]; exact hP
      have hD : va_D A [(h0, .inr (10, fs_439)), (m_tp, .inl (cI, 1200, .inl f_486))] := by rw [ef_486]; exact hD
      obtain ⟨x_487, ex_487⟩ : ∃ z : Int32, z = (nI k) + 1 := ⟨_, rfl⟩
      refine lv_iinc (v := x_487) (lv' := [(6, .int x_487), (7, .int n1), (0, .ref h0), (1, .int n1), (2, .int n2), (3, .int n3), (4, .int n4), (5, .int n5)]) hx hb dX11_feed_104 hl (k := 1) rfl (by rw [ex_487]; rfl) (by decide) rfl (fun ls hl => ?_)
      refine lv_goto (tgt := 20) hx hb dX11_feed_107 (by decide) ?_
      have hl := lv_sub hl (l' := [(6, .int x_487), (0, .ref h0), (1, .int n1), (2, .int n2), (3, .int n3), (4, .int n4), (5, .int n5)]) [0, 2, 3, 4, 5, 6, 7] rfl
      rw [ex_487, nI_1 k] at hl
      exact ih (f_486) trivial H locs hP hD hS ls hl
