set_option maxHeartbeats 4000000 in
set_option maxRecDepth 100000 in
theorem c_here (l : Launch) (dC : Nat → ClassId) (dI : Nat → Nat → Nat) (cI cB cL cZ : ClassId) (h0 : Nat) (fs : List Value) (sz : Nat) (gl_fs : fs.length = 68) (g_fs_4 : fs[4]? = some (.int 0)) (g_fs_3 : fs[3]? = some (.int 0)) : Met l yX11_here wsX11_here ({ frames := 0, cells := 0, slots := 0, locals := 0 }) (cP (dC, dI) (kTy cI cB cL cZ) [.ref h0] [(h0, .inr (10, fs))] sz) (va_Qi (fun (r : Int32) (_ : Unit) => r = -1) (fun (_ : Unit) (t : State) => va_P (dC, dI) vwCl [(h0, .inr (10, fs))] t.heap ∧ va_D (va_A [(h0, .inr (10, fs))] sz) [(h0, .inr (10, fs))]) (va_A [(h0, .inr (10, fs))] sz)) 0 0 (va_A [(h0, .inr (10, fs))] sz) := by
  refine Met.ofW (cc := cX11_here) (maxL := 1) (ret := (some .int)) (by decide) rfl ?_
  intro p e s m args below meth c s₁ B hml hv
  obtain ⟨rfl, hsz, hP, hK, hD0, hN⟩ := hv
  have hx := B.exec
  have hb := B.bytes
  have hr := B.returns
  have hts := atoms_spec (ws := wsX11_here) B.pre
  have hown : s.vm.findClass RX11 = some m.cls := findClass_of_methodNamed B.named
  have hlocks := B.notSynchronized
  subst hsz
  have hD := hD0.self (sz := s.heap.size)
  generalize hAe : va_A [(h0, .inr (10, fs))] s.heap.size = A at hD ⊢
  have hA : ∀ q : Nat, s.heap.size ≤ q → A q := fun q h => by rw [← hAe]; exact Or.inr h
  have hl := lv_entry ([.ref h0]) (n := 1) (Nat.le_of_ble_eq_true rfl)
  rw [lg_entry_eq]
  generalize (lg_sl ([.ref h0]) ++ List.replicate (1 - (lg_sl ([.ref h0])).length) Slot.unset).toArray = ls at hl ⊢
  have hl : lv_has ls 1 [(0, .ref h0)] := hl
  refine k_H (A := A) hP (fun H hP hS => ?_)
  have hP : va_P (dC, dI) vwCl [(h0, .inr (10, fs))] H := hP
  have hD : va_D A [(h0, .inr (10, fs))] := hD
  refine lv_aload_n hx hb dX11_here_0 rfl (lv_at hl 0 rfl) ?_
  refine va_get (D := (dC, dI)) (ci := 10) (v := .int 0) (C := RX11) (T := TX11) (N := 68) hx hb hts iwwsX11_here_11 hown hK hP 0 rfl rfl 4 (by decide) (hts (.fieldLink RX11 127 "NothingJudgeModel" "at" "I") fwwsX11_here_127) (fun _ h9 => h9) g_fs_4 dX11_here_1 ?_
  refine lv_aload_n hx hb dX11_here_4 rfl (lv_at hl 0 rfl) ?_
  refine va_get (D := (dC, dI)) (ci := 10) (v := .int 0) (C := RX11) (T := TX11) (N := 68) hx hb hts iwwsX11_here_11 hown hK hP 0 rfl rfl 3 (by decide) (hts (.fieldLink RX11 130 "NothingJudgeModel" "size" "I") fwwsX11_here_130) (fun _ h9 => h9) g_fs_3 dX11_here_5 ?_
  refine lv_icmp_ge (tgt := 23) hx hb dX11_here_8 (by decide) (fun _ => ?_) (fun c9 => absurd (by decide) c9)
  refine lv_iconst (v := (-1)) hx hb dX11_here_23 (by decide) ?_
  have hP9 := hP.sub (ws' := [(h0, .inr (10, fs))]) [0] rfl
  have hD9 := hD.sub (ws' := [(h0, .inr (10, fs))]) [0] (by decide) rfl
  exact W.iret (v := (-1)) hx hb hr (fun t ht hW => ⟨⟨(-1), (), rfl, rfl, by rw [ht]; exact hP9, hD9⟩, hS.F ht⟩) hS.2.2 dX11_here_24

set_option maxHeartbeats 4000000 in
set_option maxRecDepth 100000 in
theorem c_next (l : Launch) (dC : Nat → ClassId) (dI : Nat → Nat → Nat) (cI cB cL cZ : ClassId) (h0 : Nat) (fs : List Value) (sz : Nat) (gl_fs : fs.length = 68) (g_fs_4 : fs[4]? = some (.int 0)) (g_fs_3 : fs[3]? = some (.int 0)) : Met l yX11_next wsX11_next ({ frames := 1, cells := 0, slots := 0, locals := 20 }) (cP (dC, dI) (kTy cI cB cL cZ) [.ref h0] [(h0, .inr (10, fs))] sz) (va_Qv (fun _ : Unit => True) (fun (_ : Unit) (t : State) => va_P (dC, dI) vwCl [(h0, .inr (10, ((fs.set 5 (.int 0)).set 6 (.int 4))))] t.heap ∧ va_D (va_A [(h0, .inr (10, fs))] sz) [(h0, .inr (10, ((fs.set 5 (.int 0)).set 6 (.int 4))))]) (va_A [(h0, .inr (10, fs))] sz)) 0 0 (va_A [(h0, .inr (10, fs))] sz) := by
  refine Met.ofW (cc := cX11_next) (maxL := 3) (ret := none) (by decide) rfl ?_
  intro p e s m args below meth c s₁ B hml hv
  obtain ⟨rfl, hsz, hP, hK, hD0, hN⟩ := hv
  have hx := B.exec
  have hb := B.bytes
  have hr := B.returns
  have hts := atoms_spec (ws := wsX11_next) B.pre
  have hown : s.vm.findClass RX11 = some m.cls := findClass_of_methodNamed B.named
  have hlocks := B.notSynchronized
  subst hsz
  have hD := hD0.self (sz := s.heap.size)
  generalize hAe : va_A [(h0, .inr (10, fs))] s.heap.size = A at hD ⊢
  have hA : ∀ q : Nat, s.heap.size ≤ q → A q := fun q h => by rw [← hAe]; exact Or.inr h
  have hl := lv_entry ([.ref h0]) (n := 3) (Nat.le_of_ble_eq_true rfl)
  rw [lg_entry_eq]
  generalize (lg_sl ([.ref h0]) ++ List.replicate (3 - (lg_sl ([.ref h0])).length) Slot.unset).toArray = ls at hl ⊢
  have hl : lv_has ls 3 [(0, .ref h0)] := hl
  refine k_H (A := A) hP (fun H hP hS => ?_)
  have hP : va_P (dC, dI) vwCl [(h0, .inr (10, fs))] H := hP
  have hD : va_D A [(h0, .inr (10, fs))] := hD
  refine lv_aload_n hx hb dX11_next_0 rfl (lv_at hl 0 rfl) ?_
  have hPc := hP.sub (ws' := [(h0, .inr (10, fs))]) [0] rfl
  have hDc := hD.sub (ws' := [(h0, .inr (10, fs))]) [0] (by decide) rfl
  have hFc := va_free (wc := [(h0, .inr (10, fs))]) hD hS hA [0] rfl
  refine va_calli (va_runV (As := []) (rest := []) ⟨hx, hb, hml, hown, hts⟩ (c_here l dC dI cI cB cL cZ (h0) (fs) H.size gl_fs g_fs_4 g_fs_3) (cwV 0 hts gX11_next_X11_here rfl rfl rfl (by decide +kernel) ⟨Nat.le_of_ble_eq_true rfl, Nat.le_of_ble_eq_true rfl⟩) ⟨cP_fb, va_recv hK hPc (ci := 10) (q0 := 0) rfl rfl, fun U hU hW => cP_pre hPc hK hDc hN U hU hW⟩ rfl rfl hl.1 rfl (lv_room (Nat.le_of_ble_eq_true rfl)) dX11_next_1 ⟨Nat.le_of_ble_eq_true rfl, Nat.le_of_ble_eq_true rfl⟩) hS (fun q _ h => hFc q h) hFc (fun r_295 u t H1 locs ht hvm hw hB hz1 hk1 hS => ?_)
  obtain ⟨hP1, hD1⟩ := hB
  rw [ht] at hP1
  obtain ⟨hP, hD⟩ := va_join (wr := []) (w1 := [(h0, .inr (10, fs))]) hP hD [0] [] rfl rfl (by decide) (by decide) hk1 hFc hP1 hD1
  generalize H1 = H at hP hS ⊢
  have hP : va_P (dC, dI) vwCl [(h0, .inr (10, fs))] H := hP
  have hD : va_D A [(h0, .inr (10, fs))] := hD
  obtain rfl : r_295 = (-1) := hw
  refine lv_bipush (v := 10) hx hb dX11_next_4 (by decide) ?_
  refine lv_icmp_eq (tgt := 18) hx hb dX11_next_6 (by decide) (fun c9 => absurd c9 (by decide)) (fun _ => ?_)
  refine lv_aload_n hx hb dX11_next_9 rfl (lv_at hl 0 rfl) ?_
  have hPc := hP.sub (ws' := [(h0, .inr (10, fs))]) [0] rfl
  have hDc := hD.sub (ws' := [(h0, .inr (10, fs))]) [0] (by decide) rfl
  have hFc := va_free (wc := [(h0, .inr (10, fs))]) hD hS hA [0] rfl
  refine va_calli (va_runV (As := []) (rest := []) ⟨hx, hb, hml, hown, hts⟩ (c_here l dC dI cI cB cL cZ (h0) (fs) H.size gl_fs g_fs_4 g_fs_3) (cwV 0 hts gX11_next_X11_here rfl rfl rfl (by decide +kernel) ⟨Nat.le_of_ble_eq_true rfl, Nat.le_of_ble_eq_true rfl⟩) ⟨cP_fb, va_recv hK hPc (ci := 10) (q0 := 0) rfl rfl, fun U hU hW => cP_pre hPc hK hDc hN U hU hW⟩ rfl rfl hl.1 rfl (lv_room (Nat.le_of_ble_eq_true rfl)) dX11_next_10 ⟨Nat.le_of_ble_eq_true rfl, Nat.le_of_ble_eq_true rfl⟩) hS (fun q _ h => hFc q h) hFc (fun r_296 u t H1 locs ht hvm hw hB hz1 hk1 hS => ?_)
  obtain ⟨hP1, hD1⟩ := hB
  rw [ht] at hP1
  obtain ⟨hP, hD⟩ := va_join (wr := []) (w1 := [(h0, .inr (10, fs))]) hP hD [0] [] rfl rfl (by decide) (by decide) hk1 hFc hP1 hD1
  generalize H1 = H at hP hS ⊢
  have hP : va_P (dC, dI) vwCl [(h0, .inr (10, fs))] H := hP
  have hD : va_D A [(h0, .inr (10, fs))] := hD
  obtain rfl : r_296 = (-1) := hw
  refine lv_bipush (v := 32) hx hb dX11_next_13 (by decide) ?_
  refine lv_icmp_ne (tgt := 31) hx hb dX11_next_15 (by decide) (fun _ => ?_) (fun c9 => absurd c9 (by decide))
  refine lv_aload_n hx hb dX11_next_31 rfl (lv_at hl 0 rfl) ?_
  refine lv_aload_n hx hb dX11_next_32 rfl (lv_at hl 0 rfl) ?_
  refine va_get (D := (dC, dI)) (ci := 10) (v := .int 0) (C := RX11) (T := TX11) (N := 68) hx hb hts iwwsX11_next_11 hown hK hP 0 rfl rfl 4 (by decide) (hts (.fieldLink RX11 127 "NothingJudgeModel" "at" "I") fwwsX11_next_127) (fun _ h9 => h9) g_fs_4 dX11_next_33 ?_
  refine va_put (D := (dC, dI)) (ci := 10) (v := .int 0) (ty := .int) (C := RX11) (T := TX11) (N := 68) hx hb hts iwwsX11_next_11 tyX11 tyX11_ok nmX11 hown hK hP hD hS 0 rfl rfl 5 (by decide) (hts (.fieldLink RX11 137 "NothingJudgeModel" "place" "I") fwwsX11_next_137) (fun _ h9 => h9) rfl (by decide +kernel) rfl rfl (by rw [gl_fs]; decide) dX11_next_36 (fun H locs hP hD hS => ?_)
  obtain ⟨fs_297, efs_297⟩ : ∃ z : List Value, z = fs.set 5 (.int 0) := ⟨_, rfl⟩
  have glfs_297 : fs_297.length = 68 := fs_len efs_297 gl_fs
  have hP : va_P (dC, dI) vwCl [(h0, .inr (10, fs_297))] H := by rw [efs_297]; exact hP
  have hD : va_D A [(h0, .inr (10, fs_297))] := by rw [efs_297]; exact hD
  refine lv_aload_n hx hb dX11_next_39 rfl (lv_at hl 0 rfl) ?_
  have hPc := hP.sub (ws' := [(h0, .inr (10, fs_297))]) [0] rfl
  have hDc := hD.sub (ws' := [(h0, .inr (10, fs_297))]) [0] (by decide) rfl
  have hFc := va_free (wc := [(h0, .inr (10, fs_297))]) hD hS hA [0] rfl
  refine va_calli (va_runV (As := []) (rest := []) ⟨hx, hb, hml, hown, hts⟩ (c_here l dC dI cI cB cL cZ (h0) (fs_297) H.size glfs_297 (fs_ne efs_297 (by decide) g_fs_4) (fs_ne efs_297 (by decide) g_fs_3)) (cwV 0 hts gX11_next_X11_here rfl rfl rfl (by decide +kernel) ⟨Nat.le_of_ble_eq_true rfl, Nat.le_of_ble_eq_true rfl⟩) ⟨cP_fb, va_recv hK hPc (ci := 10) (q0 := 0) rfl rfl, fun U hU hW => cP_pre hPc hK hDc hN U hU hW⟩ rfl rfl hl.1 rfl (lv_room (Nat.le_of_ble_eq_true rfl)) dX11_next_40 ⟨Nat.le_of_ble_eq_true rfl, Nat.le_of_ble_eq_true rfl⟩) hS (fun q _ h => hFc q h) hFc (fun r_298 u t H1 locs ht hvm hw hB hz1 hk1 hS => ?_)
  obtain ⟨hP1, hD1⟩ := hB
  rw [ht] at hP1
  obtain ⟨hP, hD⟩ := va_join (wr := []) (w1 := [(h0, .inr (10, fs_297))]) hP hD [0] [] rfl rfl (by decide) (by decide) hk1 hFc hP1 hD1
  generalize H1 = H at hP hS ⊢
  have hP : va_P (dC, dI) vwCl [(h0, .inr (10, fs_297))] H := hP
  have hD : va_D A [(h0, .inr (10, fs_297))] := hD
  obtain rfl : r_298 = (-1) := hw
  refine lv_istore_n (lv' := [(1, .int (-1)), (0, .ref h0)]) hx hb dX11_next_43 rfl hl (by decide) rfl (fun ls hl => ?_)
  refine lv_iload_n hx hb dX11_next_44 rfl (lv_at hl 0 rfl) ?_
  refine lv_iconst (v := (-1)) hx hb dX11_next_45 (by decide) ?_
  refine lv_icmp_ne (tgt := 57) hx hb dX11_next_46 (by decide) (fun c9 => absurd c9 (by decide)) (fun _ => ?_)
  refine lv_aload_n hx hb dX11_next_49 rfl (lv_at hl 1 rfl) ?_
  refine lv_iconst (v := 4) hx hb dX11_next_50 (by decide) ?_
  refine va_put (D := (dC, dI)) (ci := 10) (v := .int 4) (ty := .int) (C := RX11) (T := TX11) (N := 68) hx hb hts iwwsX11_next_11 tyX11 tyX11_ok nmX11 hown hK hP hD hS 0 rfl rfl 6 (by decide) (hts (.fieldLink RX11 140 "NothingJudgeModel" "sort" "I") fwwsX11_next_140) (fun _ h9 => h9) rfl (by decide +kernel) rfl rfl (by rw [glfs_297]; decide) dX11_next_51 (fun H locs hP hD hS => ?_)
  obtain ⟨fs_299, efs_299⟩ : ∃ z : List Value, z = fs_297.set 6 (.int 4) := ⟨_, rfl⟩
  have glfs_299 : fs_299.length = 68 := fs_len efs_299 glfs_297
  have hP : va_P (dC, dI) vwCl [(h0, .inr (10, fs_299))] H := by rw [efs_299]; exact hP
  have hD : va_D A [(h0, .inr (10, fs_299))] := by rw [efs_299]; exact hD
  refine lv_goto (tgt := 269) hx hb dX11_next_54 (by decide) ?_
  subst efs_299
  subst efs_297
  have hP9 := hP.sub (ws' := [(h0, .inr (10, ((fs.set 5 (.int 0)).set 6 (.int 4))))]) [0] rfl
  have hD9 := hD.sub (ws' := [(h0, .inr (10, ((fs.set 5 (.int 0)).set 6 (.int 4))))]) [0] (by decide) rfl
  exact W.vret hx hb hr (fun t ht hW => ⟨⟨(), rfl, trivial, by rw [ht]; exact hP9, hD9⟩, hS.F ht⟩) hS.2.2 dX11_next_269

set_option maxHeartbeats 4000000 in
set_option maxRecDepth 100000 in
theorem c_enters (l : Launch) (dC : Nat → ClassId) (dI : Nat → Nat → Nat) (cI cB cL cZ : ClassId) (h0 : Nat) (m_ou : Nat) (r : Int32) (fs : List Value) (f : Nat → Int32) (sz : Nat) (gl_fs : fs.length = 68) (g_fs_40 : fs[40]? = some (.ref m_ou)) : Met l yX11_enters wsX11_enters ({ frames := 0, cells := 0, slots := 0, locals := 0 }) (cP (dC, dI) (kTy cI cB cL cZ) [.ref h0, .int r] [(h0, .inr (10, fs)), (m_ou, .inl (cI, 4, .inl f))] sz) (va_Qv (fun _ : Unit => True) (fun (_ : Unit) (t : State) => va_P (dC, dI) vwCl [(h0, .inr (10, (fs.set 39 (.int r))))] t.heap ∧ va_D (va_A [(h0, .inr (10, fs)), (m_ou, .inl (cI, 4, .inl f))] sz) [(h0, .inr (10, (fs.set 39 (.int r))))]) (va_A [(h0, .inr (10, fs)), (m_ou, .inl (cI, 4, .inl f))] sz)) 0 0 (va_A [(h0, .inr (10, fs)), (m_ou, .inl (cI, 4, .inl f))] sz) := by
  refine Met.ofW (cc := cX11_enters) (maxL := 3) (ret := none) (by decide) rfl ?_
  intro p e s m args below meth c s₁ B hml hv
  obtain ⟨rfl, hsz, hP, hK, hD0, hN⟩ := hv
  have hx := B.exec
  have hb := B.bytes
  have hr := B.returns
  have hts := atoms_spec (ws := wsX11_enters) B.pre
  have hown : s.vm.findClass RX11 = some m.cls := findClass_of_methodNamed B.named
  have hlocks := B.notSynchronized
  subst hsz
  have hD := hD0.self (sz := s.heap.size)
  generalize hAe : va_A [(h0, .inr (10, fs)), (m_ou, .inl (cI, 4, .inl f))] s.heap.size = A at hD ⊢
  have hA : ∀ q : Nat, s.heap.size ≤ q → A q := fun q h => by rw [← hAe]; exact Or.inr h
  have hl := lv_entry ([.ref h0, .int r]) (n := 3) (Nat.le_of_ble_eq_true rfl)
  rw [lg_entry_eq]
  generalize (lg_sl ([.ref h0, .int r]) ++ List.replicate (3 - (lg_sl ([.ref h0, .int r])).length) Slot.unset).toArray = ls at hl ⊢
  have hl : lv_has ls 3 [(0, .ref h0), (1, .int r)] := hl
  refine k_H (A := A) hP (fun H hP hS => ?_)
  have hP : va_P (dC, dI) vwCl [(h0, .inr (10, fs)), (m_ou, .inl (cI, 4, .inl f))] H := hP
  have hD : va_D A [(h0, .inr (10, fs)), (m_ou, .inl (cI, 4, .inl f))] := hD
  refine lv_aload_n hx hb dX11_enters_0 rfl (lv_at hl 0 rfl) ?_
  refine lv_iload_n hx hb dX11_enters_1 rfl (lv_at hl 1 rfl) ?_
  refine va_put (D := (dC, dI)) (ci := 10) (v := .int r) (ty := .int) (C := RX11) (T := TX11) (N := 68) hx hb hts iwwsX11_enters_11 tyX11 tyX11_ok nmX11 hown hK hP hD hS 0 rfl rfl 39 (by decide) (hts (.fieldLink RX11 83 "NothingJudgeModel" "entry" "I") fwwsX11_enters_83) (fun _ h9 => h9) rfl (by decide +kernel) rfl rfl (by rw [gl_fs]; decide) dX11_enters_2 (fun H locs hP hD hS => ?_)
  obtain ⟨fs_300, efs_300⟩ : ∃ z : List Value, z = fs.set 39 (.int r) := ⟨_, rfl⟩
  have glfs_300 : fs_300.length = 68 := fs_len efs_300 gl_fs
  have hP : va_P (dC, dI) vwCl [(h0, .inr (10, fs_300)), (m_ou, .inl (cI, 4, .inl f))] H := by rw [efs_300]; exact hP
  have hD : va_D A [(h0, .inr (10, fs_300)), (m_ou, .inl (cI, 4, .inl f))] := by rw [efs_300]; exact hD
  refine lv_iconst (v := 0) hx hb dX11_enters_5 (by decide) ?_
  refine lv_istore_n (lv' := [(2, .int 0), (0, .ref h0), (1, .int r)]) hx hb dX11_enters_6 rfl hl (by decide) rfl (fun ls hl => ?_)
  have hl := lv_sub hl (l' := [(2, .int 0), (0, .ref h0), (1, .int r)]) [0, 1, 2] rfl
  have hl : lv_has ls 3 [(2, .int (nI 0)), (0, .ref h0), (1, .int r)] := by rw [show nI 0 = (0 : Int32) by decide]; exact hl
  refine lp_up (S := (Nat → Int32)) (fun k st => True) (fun st => [(h0, .inr (10, fs_300)), (m_ou, .inl (cI, 4, .inl (st)))]) (fun k st => [(2, .int (nI k)), (0, .ref h0), (1, .int r)]) 7 4 ?_ ?_ 0 (by decide) (f) trivial hP hD hS hl
  · intro f_301 hJ H locs hP hD hS ls hl
    have hP : va_P (dC, dI) vwCl [(h0, .inr (10, fs_300)), (m_ou, .inl (cI, 4, .inl f_301))] H := hP
    have hD : va_D A [(h0, .inr (10, fs_300)), (m_ou, .inl (cI, 4, .inl f_301))] := hD
    have hl : lv_has ls 3 [(2, .int 4), (0, .ref h0), (1, .int r)] := by rw [← show nI 4 = (4 : Int32) by decide]; exact hl
    refine lv_iload_n hx hb dX11_enters_7 rfl (lv_at hl 0 rfl) ?_
    refine lv_iconst (v := 4) hx hb dX11_enters_8 (by decide) ?_
    refine lv_icmp_ge (tgt := 25) hx hb dX11_enters_9 (by decide) (fun _ => ?_) (fun c9 => absurd (by decide) c9)
    subst efs_300
    have hP9 := hP.sub (ws' := [(h0, .inr (10, (fs.set 39 (.int r))))]) [0] rfl
    have hD9 := hD.sub (ws' := [(h0, .inr (10, (fs.set 39 (.int r))))]) [0] (by decide) rfl
    exact W.vret hx hb hr (fun t ht hW => ⟨⟨(), rfl, trivial, by rw [ht]; exact hP9, hD9⟩, hS.F ht⟩) hS.2.2 dX11_enters_25
  · intro k f_302 hk hJ ih H locs hP hD hS ls hl
    have hP : va_P (dC, dI) vwCl [(h0, .inr (10, fs_300)), (m_ou, .inl (cI, 4, .inl f_302))] H := hP
    have hD : va_D A [(h0, .inr (10, fs_300)), (m_ou, .inl (cI, 4, .inl f_302))] := hD
    have hl : lv_has ls 3 [(2, .int (nI k)), (0, .ref h0), (1, .int r)] := hl
    refine lv_iload_n hx hb dX11_enters_7 rfl (lv_at hl 0 rfl) ?_
    refine lv_iconst (v := 4) hx hb dX11_enters_8 (by decide) ?_
    refine lv_icmp_ge (tgt := 25) hx hb dX11_enters_9 (by decide) (fun c9 => absurd c9 (ge_no (N := 4) (by decide) hk (by decide))) (fun _ => ?_)
    refine lv_aload_n hx hb dX11_enters_12 rfl (lv_at hl 1 rfl) ?_
    refine va_get (D := (dC, dI)) (ci := 10) (v := .ref m_ou) (C := RX11) (T := TX11) (N := 68) hx hb hts iwwsX11_enters_11 hown hK hP 0 rfl rfl 40 (by decide) (hts (.fieldLink RX11 86 "NothingJudgeModel" "outers" "[I") fwwsX11_enters_86) (fun _ h9 => h9) (fs_ne efs_300 (by decide) g_fs_40) dX11_enters_13 ?_
    refine lv_iload_n hx hb dX11_enters_16 rfl (lv_at hl 0 rfl) ?_
    refine lv_iconst (v := 3) hx hb dX11_enters_17 (by decide) ?_
    refine va_iast hx hb hK hP hD hS 1 0 rfl rfl (vp_in_nI (by omega) (by decide)) dX11_enters_18 (fun H locs hP hD hS => ?_)
    obtain ⟨f_303, ef_303⟩ : ∃ z, z = upd f_302 (nI k).toNatClampNeg 3 := ⟨_, rfl⟩
    have hP : va_P (dC, dI) vwCl [(h0, .inr (10, fs_300)), (m_ou, .inl (cI, 4, .inl f_303))] H := by rw [ef_303]; exact hP
    have hD : va_D A [(h0, .inr (10, fs_300)), (m_ou, .inl (cI, 4, .inl f_303))] := by rw [ef_303]; exact hD
    obtain ⟨x_304, ex_304⟩ : ∃ z : Int32, z = (nI k) + 1 := ⟨_, rfl⟩
    refine lv_iinc (v := x_304) (lv' := [(2, .int x_304), (0, .ref h0), (1, .int r)]) hx hb dX11_enters_19 hl (k := 0) rfl (by rw [ex_304]; rfl) (by decide) rfl (fun ls hl => ?_)
    refine lv_goto (tgt := 7) hx hb dX11_enters_22 (by decide) ?_
    have hl := lv_sub hl (l' := [(2, .int x_304), (0, .ref h0), (1, .int r)]) [0, 1, 2] rfl
    rw [ex_304, nI_1 k] at hl
    exact ih (f_303) trivial H locs hP hD hS ls hl

set_option maxHeartbeats 4000000 in
set_option maxRecDepth 100000 in
theorem c_rmany (l : Launch) (dC : Nat → ClassId) (dI : Nat → Nat → Nat) (cI cB cL cZ : ClassId) (h0 : Nat) (m_rf : Nat) (fs : List Value) (frf : Nat → Int32) (sz : Nat) (gl_fs : fs.length = 68) (g_fs_19 : fs[19]? = some (.ref m_rf)) (hrf : ∀ j, j < 16 → frf j = -1) : Met l yX11_routinesMany wsX11_routinesMany ({ frames := 0, cells := 0, slots := 0, locals := 0 }) (cP (dC, dI) (kTy cI cB cL cZ) [.ref h0] [(h0, .inr (10, fs)), (m_rf, .inl (cI, 16, .inl frf))] sz) (va_Qi (fun (r : Int32) (_ : Unit) => r = 0) (fun (_ : Unit) (t : State) => va_P (dC, dI) vwCl [(h0, .inr (10, fs))] t.heap ∧ va_D (va_A [(h0, .inr (10, fs)), (m_rf, .inl (cI, 16, .inl frf))] sz) [(h0, .inr (10, fs))]) (va_A [(h0, .inr (10, fs)), (m_rf, .inl (cI, 16, .inl frf))] sz)) 0 0 (va_A [(h0, .inr (10, fs)), (m_rf, .inl (cI, 16, .inl frf))] sz) := by
  refine Met.ofW (cc := cX11_routinesMany) (maxL := 3) (ret := (some .int)) (by decide) rfl ?_
  intro p e s m args below meth c s₁ B hml hv
  obtain ⟨rfl, hsz, hP, hK, hD0, hN⟩ := hv
  have hx := B.exec
  have hb := B.bytes
  have hr := B.returns
  have hts := atoms_spec (ws := wsX11_routinesMany) B.pre
  have hown : s.vm.findClass RX11 = some m.cls := findClass_of_methodNamed B.named
  have hlocks := B.notSynchronized
  subst hsz
  have hD := hD0.self (sz := s.heap.size)
  generalize hAe : va_A [(h0, .inr (10, fs)), (m_rf, .inl (cI, 16, .inl frf))] s.heap.size = A at hD ⊢
  have hA : ∀ q : Nat, s.heap.size ≤ q → A q := fun q h => by rw [← hAe]; exact Or.inr h
  have hl := lv_entry ([.ref h0]) (n := 3) (Nat.le_of_ble_eq_true rfl)
  rw [lg_entry_eq]
  generalize (lg_sl ([.ref h0]) ++ List.replicate (3 - (lg_sl ([.ref h0])).length) Slot.unset).toArray = ls at hl ⊢
  have hl : lv_has ls 3 [(0, .ref h0)] := hl
  refine k_H (A := A) hP (fun H hP hS => ?_)
  have hP : va_P (dC, dI) vwCl [(h0, .inr (10, fs)), (m_rf, .inl (cI, 16, .inl frf))] H := hP
  have hD : va_D A [(h0, .inr (10, fs)), (m_rf, .inl (cI, 16, .inl frf))] := hD
  refine lv_iconst (v := 0) hx hb dX11_routinesMany_0 (by decide) ?_
  refine lv_istore_n (lv' := [(1, .int 0), (0, .ref h0)]) hx hb dX11_routinesMany_1 rfl hl (by decide) rfl (fun ls hl => ?_)
  refine lv_iconst (v := 0) hx hb dX11_routinesMany_2 (by decide) ?_
  refine lv_istore_n (lv' := [(2, .int 0), (1, .int 0), (0, .ref h0)]) hx hb dX11_routinesMany_3 rfl hl (by decide) rfl (fun ls hl => ?_)
  have hl := lv_sub hl (l' := [(2, .int 0), (1, .int 0), (0, .ref h0)]) [0, 1, 2] rfl
  have hl : lv_has ls 3 [(2, .int (nI 0)), (1, .int 0), (0, .ref h0)] := by rw [show nI 0 = (0 : Int32) by decide]; exact hl
  refine lp_up (S := (Nat → Int32)) (fun k st => ∀ j, j < 16 → (st) j = -1) (fun st => [(h0, .inr (10, fs)), (m_rf, .inl (cI, 16, .inl (st)))]) (fun k st => [(2, .int (nI k)), (1, .int 0), (0, .ref h0)]) 4 8 ?_ ?_ 0 (by decide) (frf) hrf hP hD hS hl
  · intro f_305 hJ H locs hP hD hS ls hl
    have hP : va_P (dC, dI) vwCl [(h0, .inr (10, fs)), (m_rf, .inl (cI, 16, .inl f_305))] H := hP
    have hD : va_D A [(h0, .inr (10, fs)), (m_rf, .inl (cI, 16, .inl f_305))] := hD
    have hl : lv_has ls 3 [(2, .int 8), (1, .int 0), (0, .ref h0)] := by rw [← show nI 8 = (8 : Int32) by decide]; exact hl
    refine lv_iload_n hx hb dX11_routinesMany_4 rfl (lv_at hl 0 rfl) ?_
    refine lv_bipush (v := 8) hx hb dX11_routinesMany_5 (by decide) ?_
    refine lv_icmp_ge (tgt := 34) hx hb dX11_routinesMany_7 (by decide) (fun _ => ?_) (fun c9 => absurd (by decide) c9)
    refine lv_iload_n hx hb dX11_routinesMany_34 rfl (lv_at hl 1 rfl) ?_
    have hP9 := hP.sub (ws' := [(h0, .inr (10, fs))]) [0] rfl
    have hD9 := hD.sub (ws' := [(h0, .inr (10, fs))]) [0] (by decide) rfl
    exact W.iret (v := 0) hx hb hr (fun t ht hW => ⟨⟨0, (), rfl, rfl, by rw [ht]; exact hP9, hD9⟩, hS.F ht⟩) hS.2.2 dX11_routinesMany_35
  · intro k f_306 hk hJ ih H locs hP hD hS ls hl
    have hP : va_P (dC, dI) vwCl [(h0, .inr (10, fs)), (m_rf, .inl (cI, 16, .inl f_306))] H := hP
    have hD : va_D A [(h0, .inr (10, fs)), (m_rf, .inl (cI, 16, .inl f_306))] := hD
    have hl : lv_has ls 3 [(2, .int (nI k)), (1, .int 0), (0, .ref h0)] := hl
    refine lv_iload_n hx hb dX11_routinesMany_4 rfl (lv_at hl 0 rfl) ?_
    refine lv_bipush (v := 8) hx hb dX11_routinesMany_5 (by decide) ?_
    refine lv_icmp_ge (tgt := 34) hx hb dX11_routinesMany_7 (by decide) (fun c9 => absurd c9 (ge_no (N := 8) (by decide) hk (by decide))) (fun _ => ?_)
    refine lv_iload_n hx hb dX11_routinesMany_10 rfl (lv_at hl 1 rfl) ?_
    refine lv_aload_n hx hb dX11_routinesMany_11 rfl (lv_at hl 2 rfl) ?_
    refine va_get (D := (dC, dI)) (ci := 10) (v := .ref m_rf) (C := RX11) (T := TX11) (N := 68) hx hb hts iwwsX11_routinesMany_11 hown hK hP 0 rfl rfl 19 (by decide) (hts (.fieldLink RX11 32 "NothingJudgeModel" "routineFrom" "[I") fwwsX11_routinesMany_32) (fun _ h9 => h9) g_fs_19 dX11_routinesMany_12 ?_
    refine lv_iload_n hx hb dX11_routinesMany_15 rfl (lv_at hl 0 rfl) ?_
    refine va_iald hx hb hK hP 1 0 rfl rfl (vp_in_nI (by omega) (by decide)) dX11_routinesMany_16 ?_
    refine lv_topi (fun y_307 ey_307 => ?_)
    obtain rfl : y_307 = (-1) := ey_307.trans (hJ _ (by rw [nI_clamp (by omega)]; omega))
    refine lv_iconst (v := (-1)) hx hb dX11_routinesMany_17 (by decide) ?_
    refine lv_icmp_ne (tgt := 25) hx hb dX11_routinesMany_18 (by decide) (fun c9 => absurd c9 (by decide)) (fun _ => ?_)
    refine lv_iconst (v := 0) hx hb dX11_routinesMany_21 (by decide) ?_
    refine lv_goto (tgt := 26) hx hb dX11_routinesMany_22 (by decide) ?_
    refine lv_iadd hx hb dX11_routinesMany_26 ?_
    refine lv_topi (fun y_308 ey_308 => ?_)
    obtain rfl : y_308 = 0 := ey_308.trans (by decide)
    refine lv_istore_n (lv' := [(1, .int 0), (2, .int (nI k)), (0, .ref h0)]) hx hb dX11_routinesMany_27 rfl hl (by decide) rfl (fun ls hl => ?_)
    obtain ⟨x_309, ex_309⟩ : ∃ z : Int32, z = (nI k) + 1 := ⟨_, rfl⟩
    refine lv_iinc (v := x_309) (lv' := [(2, .int x_309), (1, .int 0), (0, .ref h0)]) hx hb dX11_routinesMany_28 hl (k := 1) rfl (by rw [ex_309]; rfl) (by decide) rfl (fun ls hl => ?_)
    refine lv_goto (tgt := 4) hx hb dX11_routinesMany_31 (by decide) ?_
    have hl := lv_sub hl (l' := [(2, .int x_309), (1, .int 0), (0, .ref h0)]) [0, 1, 2] rfl
    rw [ex_309, nI_1 k] at hl
    exact ih (f_306) hJ H locs hP hD hS ls hl

set_option maxHeartbeats 4000000 in
set_option maxRecDepth 100000 in
theorem c_frees (l : Launch) (dC : Nat → ClassId) (dI : Nat → Nat → Nat) (cI cB cL cZ : ClassId) (h0 : Nat) (m_ih : Nat) (fs : List Value) (f : Nat → Int32) (sz : Nat) (gl_fs : fs.length = 68) (g_fs_43 : fs[43]? = some (.ref m_ih)) : Met l yX11_frees wsX11_frees ({ frames := 0, cells := 0, slots := 0, locals := 0 }) (cP (dC, dI) (kTy cI cB cL cZ) [.ref h0] [(h0, .inr (10, fs)), (m_ih, .inl (cZ, 42, .inl f))] sz) (va_Qv (fun _ : Unit => True) (fun (_ : Unit) (t : State) => va_P (dC, dI) vwCl [(h0, .inr (10, fs))] t.heap ∧ va_D (va_A [(h0, .inr (10, fs)), (m_ih, .inl (cZ, 42, .inl f))] sz) [(h0, .inr (10, fs))]) (va_A [(h0, .inr (10, fs)), (m_ih, .inl (cZ, 42, .inl f))] sz)) 0 0 (va_A [(h0, .inr (10, fs)), (m_ih, .inl (cZ, 42, .inl f))] sz) := by
  refine Met.ofW (cc := cX11_frees) (maxL := 2) (ret := none) (by decide) rfl ?_
  intro p e s m args below meth c s₁ B hml hv
  obtain ⟨rfl, hsz, hP, hK, hD0, hN⟩ := hv
  have hx := B.exec
  have hb := B.bytes
  have hr := B.returns
  have hts := atoms_spec (ws := wsX11_frees) B.pre
  have hown : s.vm.findClass RX11 = some m.cls := findClass_of_methodNamed B.named
  have hlocks := B.notSynchronized
  subst hsz
  have hD := hD0.self (sz := s.heap.size)
  generalize hAe : va_A [(h0, .inr (10, fs)), (m_ih, .inl (cZ, 42, .inl f))] s.heap.size = A at hD ⊢
  have hA : ∀ q : Nat, s.heap.size ≤ q → A q := fun q h => by rw [← hAe]; exact Or.inr h
  have hl := lv_entry ([.ref h0]) (n := 2) (Nat.le_of_ble_eq_true rfl)
  rw [lg_entry_eq]
  generalize (lg_sl ([.ref h0]) ++ List.replicate (2 - (lg_sl ([.ref h0])).length) Slot.unset).toArray = ls at hl ⊢
  have hl : lv_has ls 2 [(0, .ref h0)] := hl
  refine k_H (A := A) hP (fun H hP hS => ?_)
  have hP : va_P (dC, dI) vwCl [(h0, .inr (10, fs)), (m_ih, .inl (cZ, 42, .inl f))] H := hP
  have hD : va_D A [(h0, .inr (10, fs)), (m_ih, .inl (cZ, 42, .inl f))] := hD
  refine lv_iconst (v := 0) hx hb dX11_frees_0 (by decide) ?_
  refine lv_istore_n (lv' := [(1, .int 0), (0, .ref h0)]) hx hb dX11_frees_1 rfl hl (by decide) rfl (fun ls hl => ?_)
  have hl := lv_sub hl (l' := [(1, .int 0), (0, .ref h0)]) [0, 1] rfl
  have hl : lv_has ls 2 [(1, .int (nI 0)), (0, .ref h0)] := by rw [show nI 0 = (0 : Int32) by decide]; exact hl
  refine lp_up (S := (Nat → Int32)) (fun k st => True) (fun st => [(h0, .inr (10, fs)), (m_ih, .inl (cZ, 42, .inl (st)))]) (fun k st => [(1, .int (nI k)), (0, .ref h0)]) 2 42 ?_ ?_ 0 (by decide) (f) trivial hP hD hS hl
  · intro f_310 hJ H locs hP hD hS ls hl
    have hP : va_P (dC, dI) vwCl [(h0, .inr (10, fs)), (m_ih, .inl (cZ, 42, .inl f_310))] H := hP
    have hD : va_D A [(h0, .inr (10, fs)), (m_ih, .inl (cZ, 42, .inl f_310))] := hD
    have hl : lv_has ls 2 [(1, .int 42), (0, .ref h0)] := by rw [← show nI 42 = (42 : Int32) by decide]; exact hl
    refine lv_iload_n hx hb dX11_frees_2 rfl (lv_at hl 0 rfl) ?_
    refine lv_bipush (v := 42) hx hb dX11_frees_3 (by decide) ?_
    refine lv_icmp_ge (tgt := 21) hx hb dX11_frees_5 (by decide) (fun _ => ?_) (fun c9 => absurd (by decide) c9)
    have hP9 := hP.sub (ws' := [(h0, .inr (10, fs))]) [0] rfl
    have hD9 := hD.sub (ws' := [(h0, .inr (10, fs))]) [0] (by decide) rfl
    exact W.vret hx hb hr (fun t ht hW => ⟨⟨(), rfl, trivial, by rw [ht]; exact hP9, hD9⟩, hS.F ht⟩) hS.2.2 dX11_frees_21
  · intro k f_311 hk hJ ih H locs hP hD hS ls hl
    have hP : va_P (dC, dI) vwCl [(h0, .inr (10, fs)), (m_ih, .inl (cZ, 42, .inl f_311))] H := hP
    have hD : va_D A [(h0, .inr (10, fs)), (m_ih, .inl (cZ, 42, .inl f_311))] := hD
    have hl : lv_has ls 2 [(1, .int (nI k)), (0, .ref h0)] := hl
    refine lv_iload_n hx hb dX11_frees_2 rfl (lv_at hl 0 rfl) ?_
    refine lv_bipush (v := 42) hx hb dX11_frees_3 (by decide) ?_
    refine lv_icmp_ge (tgt := 21) hx hb dX11_frees_5 (by decide) (fun c9 => absurd c9 (ge_no (N := 42) (by decide) hk (by decide))) (fun _ => ?_)
    refine lv_aload_n hx hb dX11_frees_8 rfl (lv_at hl 1 rfl) ?_
    refine va_get (D := (dC, dI)) (ci := 10) (v := .ref m_ih) (C := RX11) (T := TX11) (N := 68) hx hb hts iwwsX11_frees_11 hown hK hP 0 rfl rfl 43 (by decide) (hts (.fieldLink RX11 96 "NothingJudgeModel" "isHeld" "[Z") fwwsX11_frees_96) (fun _ h9 => h9) g_fs_43 dX11_frees_9 ?_
    refine lv_iload_n hx hb dX11_frees_12 rfl (lv_at hl 0 rfl) ?_
    refine lv_iconst (v := 0) hx hb dX11_frees_13 (by decide) ?_
    refine va_zast hx hb hK hP hD hS 1 3 rfl rfl (vp_in_nI (by omega) (by decide)) dX11_frees_14 (fun H locs hP hD hS => ?_)
    obtain ⟨f_312, ef_312⟩ : ∃ z, z = upd f_311 (nI k).toNatClampNeg (vp_nar .boolean 0) := ⟨_, rfl⟩
    have hP : va_P (dC, dI) vwCl [(h0, .inr (10, fs)), (m_ih, .inl (cZ, 42, .inl f_312))] H := by rw [ef_312]; exact hP
    have hD : va_D A [(h0, .inr (10, fs)), (m_ih, .inl (cZ, 42, .inl f_312))] := by rw [ef_312]; exact hD
    obtain ⟨x_313, ex_313⟩ : ∃ z : Int32, z = (nI k) + 1 := ⟨_, rfl⟩
    refine lv_iinc (v := x_313) (lv' := [(1, .int x_313), (0, .ref h0)]) hx hb dX11_frees_15 hl (k := 0) rfl (by rw [ex_313]; rfl) (by decide) rfl (fun ls hl => ?_)
    refine lv_goto (tgt := 2) hx hb dX11_frees_18 (by decide) ?_
    have hl := lv_sub hl (l' := [(1, .int x_313), (0, .ref h0)]) [0, 1] rfl
    rw [ex_313, nI_1 k] at hl
    exact ih (f_312) trivial H locs hP hD hS ls hl

set_option maxHeartbeats 4000000 in
set_option maxRecDepth 100000 in
theorem c_reckons (l : Launch) (dC : Nat → ClassId) (dI : Nat → Nat → Nat) (cI cB cL cZ : ClassId) (h0 : Nat) (m_mk : Nat) (m_td : Nat) (fs : List Value) (f1 : Nat → Int32) (f2 : Nat → Int32) (sz : Nat) (gl_fs : fs.length = 68) (g_fs_42 : fs[42]? = some (.ref m_mk)) (g_fs_44 : fs[44]? = some (.ref m_td)) (g_fs_18 : fs[18]? = some (.int 0)) (g_fs_39 : fs[39]? = some (.int (-1))) : Met l yX11_reckons wsX11_reckons ({ frames := 0, cells := 0, slots := 0, locals := 0 }) (cP (dC, dI) (kTy cI cB cL cZ) [.ref h0] [(h0, .inr (10, fs)), (m_mk, .inl (cI, 42, .inl f1)), (m_td, .inl (cI, 25, .inl f2))] sz) (va_Qv (fun _ : Unit => True) (fun (_ : Unit) (t : State) => ∃ fz0 : Nat → Int32, (∀ j, j < 42 → fz0 j = 0) ∧ va_P (dC, dI) vwCl [(h0, .inr (10, (fs.set 45 (.int 0)))), (m_mk, .inl (cI, 42, .inl fz0))] t.heap ∧ va_D (va_A [(h0, .inr (10, fs)), (m_mk, .inl (cI, 42, .inl f1)), (m_td, .inl (cI, 25, .inl f2))] sz) [(h0, .inr (10, (fs.set 45 (.int 0)))), (m_mk, .inl (cI, 42, .inl fz0))]) (va_A [(h0, .inr (10, fs)), (m_mk, .inl (cI, 42, .inl f1)), (m_td, .inl (cI, 25, .inl f2))] sz)) 0 0 (va_A [(h0, .inr (10, fs)), (m_mk, .inl (cI, 42, .inl f1)), (m_td, .inl (cI, 25, .inl f2))] sz) := by
  refine Met.ofW (cc := cX11_reckons) (maxL := 2) (ret := none) (by decide) rfl ?_
  intro p e s m args below meth c s₁ B hml hv
  obtain ⟨rfl, hsz, hP, hK, hD0, hN⟩ := hv
  have hx := B.exec
  have hb := B.bytes
  have hr := B.returns
  have hts := atoms_spec (ws := wsX11_reckons) B.pre
  have hown : s.vm.findClass RX11 = some m.cls := findClass_of_methodNamed B.named
  have hlocks := B.notSynchronized
  subst hsz
  have hD := hD0.self (sz := s.heap.size)
  generalize hAe : va_A [(h0, .inr (10, fs)), (m_mk, .inl (cI, 42, .inl f1)), (m_td, .inl (cI, 25, .inl f2))] s.heap.size = A at hD ⊢
  have hA : ∀ q : Nat, s.heap.size ≤ q → A q := fun q h => by rw [← hAe]; exact Or.inr h
  have hl := lv_entry ([.ref h0]) (n := 2) (Nat.le_of_ble_eq_true rfl)
  rw [lg_entry_eq]
  generalize (lg_sl ([.ref h0]) ++ List.replicate (2 - (lg_sl ([.ref h0])).length) Slot.unset).toArray = ls at hl ⊢
  have hl : lv_has ls 2 [(0, .ref h0)] := hl
  refine k_H (A := A) hP (fun H hP hS => ?_)
  have hP : va_P (dC, dI) vwCl [(h0, .inr (10, fs)), (m_mk, .inl (cI, 42, .inl f1)), (m_td, .inl (cI, 25, .inl f2))] H := hP
  have hD : va_D A [(h0, .inr (10, fs)), (m_mk, .inl (cI, 42, .inl f1)), (m_td, .inl (cI, 25, .inl f2))] := hD
  refine lv_iconst (v := 0) hx hb dX11_reckons_0 (by decide) ?_
  refine lv_istore_n (lv' := [(1, .int 0), (0, .ref h0)]) hx hb dX11_reckons_1 rfl hl (by decide) rfl (fun ls hl => ?_)
  refine lv_iload_n hx hb dX11_reckons_2 rfl (lv_at hl 0 rfl) ?_
  refine lv_aload_n hx hb dX11_reckons_3 rfl (lv_at hl 1 rfl) ?_
  refine va_get (D := (dC, dI)) (ci := 10) (v := .int 0) (C := RX11) (T := TX11) (N := 68) hx hb hts iwwsX11_reckons_11 hown hK hP 0 rfl rfl 18 (by decide) (hts (.fieldLink RX11 251 "NothingJudgeModel" "actMany" "I") fwwsX11_reckons_251) (fun _ h9 => h9) g_fs_18 dX11_reckons_4 ?_
  refine lv_icmp_ge (tgt := 23) hx hb dX11_reckons_7 (by decide) (fun _ => ?_) (fun c9 => absurd (by decide) c9)
  refine lv_iconst (v := 0) hx hb dX11_reckons_23 (by decide) ?_
  refine lv_istore_n (lv' := [(1, .int 0), (0, .ref h0)]) hx hb dX11_reckons_24 rfl hl (by decide) rfl (fun ls hl => ?_)
  have hl := lv_sub hl (l' := [(1, .int 0), (0, .ref h0)]) [0, 1] rfl
  have hl : lv_has ls 2 [(1, .int (nI 0)), (0, .ref h0)] := by rw [show nI 0 = (0 : Int32) by decide]; exact hl
  refine lp_up (S := (Nat → Int32)) (fun k st => ∀ j, j < k → (st) j = 0) (fun st => [(h0, .inr (10, fs)), (m_mk, .inl (cI, 42, .inl (st))), (m_td, .inl (cI, 25, .inl f2))]) (fun k st => [(1, .int (nI k)), (0, .ref h0)]) 25 42 ?_ ?_ 0 (by decide) (f1) (fun j hj => absurd hj (Nat.not_lt_zero j)) hP hD hS hl
  · intro f_314 hJ H locs hP hD hS ls hl
    have hP : va_P (dC, dI) vwCl [(h0, .inr (10, fs)), (m_mk, .inl (cI, 42, .inl f_314)), (m_td, .inl (cI, 25, .inl f2))] H := hP
    have hD : va_D A [(h0, .inr (10, fs)), (m_mk, .inl (cI, 42, .inl f_314)), (m_td, .inl (cI, 25, .inl f2))] := hD
    have hl : lv_has ls 2 [(1, .int 42), (0, .ref h0)] := by rw [← show nI 42 = (42 : Int32) by decide]; exact hl
    have hJm := hJ
    refine lv_iload_n hx hb dX11_reckons_25 rfl (lv_at hl 0 rfl) ?_
    refine lv_bipush (v := 42) hx hb dX11_reckons_26 (by decide) ?_
    refine lv_icmp_ge (tgt := 44) hx hb dX11_reckons_28 (by decide) (fun _ => ?_) (fun c9 => absurd (by decide) c9)
    refine lv_iconst (v := 0) hx hb dX11_reckons_44 (by decide) ?_
    refine lv_istore_n (lv' := [(1, .int 0), (0, .ref h0)]) hx hb dX11_reckons_45 rfl hl (by decide) rfl (fun ls hl => ?_)
    have hl := lv_sub hl (l' := [(1, .int 0), (0, .ref h0)]) [0, 1] rfl
    have hl : lv_has ls 2 [(1, .int (nI 0)), (0, .ref h0)] := by rw [show nI 0 = (0 : Int32) by decide]; exact hl
    refine lp_up (S := (Nat → Int32)) (fun k st => True) (fun st => [(h0, .inr (10, fs)), (m_mk, .inl (cI, 42, .inl f_314)), (m_td, .inl (cI, 25, .inl (st)))]) (fun k st => [(1, .int (nI k)), (0, .ref h0)]) 46 25 ?_ ?_ 0 (by decide) (f2) trivial hP hD hS hl
    · intro f_315 hJ H locs hP hD hS ls hl
      have hP : va_P (dC, dI) vwCl [(h0, .inr (10, fs)), (m_mk, .inl (cI, 42, .inl f_314)), (m_td, .inl (cI, 25, .inl f_315))] H := hP
      have hD : va_D A [(h0, .inr (10, fs)), (m_mk, .inl (cI, 42, .inl f_314)), (m_td, .inl (cI, 25, .inl f_315))] := hD
      have hl : lv_has ls 2 [(1, .int 25), (0, .ref h0)] := by rw [← show nI 25 = (25 : Int32) by decide]; exact hl
      refine lv_iload_n hx hb dX11_reckons_46 rfl (lv_at hl 0 rfl) ?_
      refine lv_bipush (v := 25) hx hb dX11_reckons_47 (by decide) ?_
      refine lv_icmp_ge (tgt := 65) hx hb dX11_reckons_49 (by decide) (fun _ => ?_) (fun c9 => absurd (by decide) c9)
      refine lv_aload_n hx hb dX11_reckons_65 rfl (lv_at hl 1 rfl) ?_
      refine lv_aload_n hx hb dX11_reckons_66 rfl (lv_at hl 1 rfl) ?_
      refine va_get (D := (dC, dI)) (ci := 10) (v := .int (-1)) (C := RX11) (T := TX11) (N := 68) hx hb hts iwwsX11_reckons_11 hown hK hP 0 rfl rfl 39 (by decide) (hts (.fieldLink RX11 83 "NothingJudgeModel" "entry" "I") fwwsX11_reckons_83) (fun _ h9 => h9) g_fs_39 dX11_reckons_67 ?_
      refine lv_iconst (v := (-1)) hx hb dX11_reckons_70 (by decide) ?_
      refine lv_icmp_eq (tgt := 78) hx hb dX11_reckons_71 (by decide) (fun _ => ?_) (fun c9 => absurd (by decide) c9)
      refine lv_iconst (v := 0) hx hb dX11_reckons_78 (by decide) ?_
      refine va_put (D := (dC, dI)) (ci := 10) (v := .int 0) (ty := .boolean) (C := RX11) (T := TX11) (N := 68) hx hb hts iwwsX11_reckons_11 tyX11 tyX11_ok nmX11 hown hK hP hD hS 0 rfl rfl 45 (by decide) (hts (.fieldLink RX11 261 "NothingJudgeModel" "isMore" "Z") fwwsX11_reckons_261) (fun _ h9 => h9) rfl (by decide +kernel) rfl rfl (by rw [gl_fs]; decide) dX11_reckons_79 (fun H locs hP hD hS => ?_)
      obtain ⟨fs_316, efs_316⟩ : ∃ z : List Value, z = fs.set 45 (.int 0) := ⟨_, rfl⟩
      have glfs_316 : fs_316.length = 68 := fs_len efs_316 gl_fs
      have hP : va_P (dC, dI) vwCl [(h0, .inr (10, fs_316)), (m_mk, .inl (cI, 42, .inl f_314)), (m_td, .inl (cI, 25, .inl f_315))] H := by rw [efs_316]; exact hP
      have hD : va_D A [(h0, .inr (10, fs_316)), (m_mk, .inl (cI, 42, .inl f_314)), (m_td, .inl (cI, 25, .inl f_315))] := by rw [efs_316]; exact hD
      refine lv_aload_n hx hb dX11_reckons_82 rfl (lv_at hl 1 rfl) ?_
      refine va_get (D := (dC, dI)) (ci := 10) (v := .int 0) (C := RX11) (T := TX11) (N := 68) hx hb hts iwwsX11_reckons_11 hown hK hP 0 rfl rfl 45 (by decide) (hts (.fieldLink RX11 261 "NothingJudgeModel" "isMore" "Z") fwwsX11_reckons_261) (fun _ h9 => h9) (fs_eq efs_316 (by rw [gl_fs]; decide)) dX11_reckons_83 ?_
      refine lv_if_eq (tgt := 197) hx hb dX11_reckons_86 (by decide) (fun _ => ?_) (fun c9 => absurd (by decide) c9)
      subst efs_316
      have hP9 := hP.sub (ws' := [(h0, .inr (10, (fs.set 45 (.int 0)))), (m_mk, .inl (cI, 42, .inl f_314))]) [0, 1] rfl
      have hD9 := hD.sub (ws' := [(h0, .inr (10, (fs.set 45 (.int 0)))), (m_mk, .inl (cI, 42, .inl f_314))]) [0, 1] (by decide) rfl
      exact W.vret hx hb hr (fun t ht hW => ⟨⟨(), rfl, trivial, f_314, hJm, by rw [ht]; exact hP9, hD9⟩, hS.F ht⟩) hS.2.2 dX11_reckons_197
    · intro k f_317 hk hJ ih H locs hP hD hS ls hl
      have hP : va_P (dC, dI) vwCl [(h0, .inr (10, fs)), (m_mk, .inl (cI, 42, .inl f_314)), (m_td, .inl (cI, 25, .inl f_317))] H := hP
      have hD : va_D A [(h0, .inr (10, fs)), (m_mk, .inl (cI, 42, .inl f_314)), (m_td, .inl (cI, 25, .inl f_317))] := hD
      have hl : lv_has ls 2 [(1, .int (nI k)), (0, .ref h0)] := hl
      refine lv_iload_n hx hb dX11_reckons_46 rfl (lv_at hl 0 rfl) ?_
      refine lv_bipush (v := 25) hx hb dX11_reckons_47 (by decide) ?_
      refine lv_icmp_ge (tgt := 65) hx hb dX11_reckons_49 (by decide) (fun c9 => absurd c9 (ge_no (N := 25) (by decide) hk (by decide))) (fun _ => ?_)
      refine lv_aload_n hx hb dX11_reckons_52 rfl (lv_at hl 1 rfl) ?_
      refine va_get (D := (dC, dI)) (ci := 10) (v := .ref m_td) (C := RX11) (T := TX11) (N := 68) hx hb hts iwwsX11_reckons_11 hown hK hP 0 rfl rfl 44 (by decide) (hts (.fieldLink RX11 100 "NothingJudgeModel" "tested" "[I") fwwsX11_reckons_100) (fun _ h9 => h9) g_fs_44 dX11_reckons_53 ?_
      refine lv_iload_n hx hb dX11_reckons_56 rfl (lv_at hl 0 rfl) ?_
      refine lv_iconst (v := 0) hx hb dX11_reckons_57 (by decide) ?_
      refine va_iast hx hb hK hP hD hS 2 0 rfl rfl (vp_in_nI (by omega) (by decide)) dX11_reckons_58 (fun H locs hP hD hS => ?_)
      obtain ⟨f_318, ef_318⟩ : ∃ z, z = upd f_317 (nI k).toNatClampNeg 0 := ⟨_, rfl⟩
      have hP : va_P (dC, dI) vwCl [(h0, .inr (10, fs)), (m_mk, .inl (cI, 42, .inl f_314)), (m_td, .inl (cI, 25, .inl f_318))] H := by rw [ef_318]; exact hP
      have hD : va_D A [(h0, .inr (10, fs)), (m_mk, .inl (cI, 42, .inl f_314)), (m_td, .inl (cI, 25, .inl f_318))] := by rw [ef_318]; exact hD
      obtain ⟨x_319, ex_319⟩ : ∃ z : Int32, z = (nI k) + 1 := ⟨_, rfl⟩
      refine lv_iinc (v := x_319) (lv' := [(1, .int x_319), (0, .ref h0)]) hx hb dX11_reckons_59 hl (k := 0) rfl (by rw [ex_319]; rfl) (by decide) rfl (fun ls hl => ?_)
      refine lv_goto (tgt := 46) hx hb dX11_reckons_62 (by decide) ?_
      have hl := lv_sub hl (l' := [(1, .int x_319), (0, .ref h0)]) [0, 1] rfl
      rw [ex_319, nI_1 k] at hl
      exact ih (f_318) trivial H locs hP hD hS ls hl
  · intro k f_320 hk hJ ih H locs hP hD hS ls hl
    have hP : va_P (dC, dI) vwCl [(h0, .inr (10, fs)), (m_mk, .inl (cI, 42, .inl f_320)), (m_td, .inl (cI, 25, .inl f2))] H := hP
    have hD : va_D A [(h0, .inr (10, fs)), (m_mk, .inl (cI, 42, .inl f_320)), (m_td, .inl (cI, 25, .inl f2))] := hD
    have hl : lv_has ls 2 [(1, .int (nI k)), (0, .ref h0)] := hl
    refine lv_iload_n hx hb dX11_reckons_25 rfl (lv_at hl 0 rfl) ?_
    refine lv_bipush (v := 42) hx hb dX11_reckons_26 (by decide) ?_
    refine lv_icmp_ge (tgt := 44) hx hb dX11_reckons_28 (by decide) (fun c9 => absurd c9 (ge_no (N := 42) (by decide) hk (by decide))) (fun _ => ?_)
    refine lv_aload_n hx hb dX11_reckons_31 rfl (lv_at hl 1 rfl) ?_
    refine va_get (D := (dC, dI)) (ci := 10) (v := .ref m_mk) (C := RX11) (T := TX11) (N := 68) hx hb hts iwwsX11_reckons_11 hown hK hP 0 rfl rfl 42 (by decide) (hts (.fieldLink RX11 93 "NothingJudgeModel" "marks" "[I") fwwsX11_reckons_93) (fun _ h9 => h9) g_fs_42 dX11_reckons_32 ?_
    refine lv_iload_n hx hb dX11_reckons_35 rfl (lv_at hl 0 rfl) ?_
    refine lv_iconst (v := 0) hx hb dX11_reckons_36 (by decide) ?_
    refine va_iast hx hb hK hP hD hS 1 0 rfl rfl (vp_in_nI (by omega) (by decide)) dX11_reckons_37 (fun H locs hP hD hS => ?_)
    obtain ⟨f_321, ef_321⟩ : ∃ z, z = upd f_320 (nI k).toNatClampNeg 0 := ⟨_, rfl⟩
    have hP : va_P (dC, dI) vwCl [(h0, .inr (10, fs)), (m_mk, .inl (cI, 42, .inl f_321)), (m_td, .inl (cI, 25, .inl f2))] H := by rw [ef_321]; exact hP
    have hD : va_D A [(h0, .inr (10, fs)), (m_mk, .inl (cI, 42, .inl f_321)), (m_td, .inl (cI, 25, .inl f2))] := by rw [ef_321]; exact hD
    obtain ⟨x_322, ex_322⟩ : ∃ z : Int32, z = (nI k) + 1 := ⟨_, rfl⟩
    refine lv_iinc (v := x_322) (lv' := [(1, .int x_322), (0, .ref h0)]) hx hb dX11_reckons_38 hl (k := 0) rfl (by rw [ex_322]; rfl) (by decide) rfl (fun ls hl => ?_)
    refine lv_goto (tgt := 25) hx hb dX11_reckons_41 (by decide) ?_
    have hl := lv_sub hl (l' := [(1, .int x_322), (0, .ref h0)]) [0, 1] rfl
    rw [ex_322, nI_1 k] at hl
    exact ih (f_321) (up_fill ef_321 (by omega) hJ) H locs hP hD hS ls hl

set_option maxHeartbeats 4000000 in
set_option maxRecDepth 100000 in
theorem m_fault (l : Launch) (dC : Nat → ClassId) (dI : Nat → Nat → Nat) (cI cB cL cZ : ClassId) (h0 : Nat) (w : Int32) (fs : List Value) (sz : Nat) (gl_fs : fs.length = 68) (g_fs_10 : fs[10]? = some (.int 0)) (g_fs_11 : fs[11]? = some (.int (-1))) : Met l yX11_fault wsX11_fault ({ frames := 0, cells := 0, slots := 0, locals := 0 }) (cP (dC, dI) (kTy cI cB cL cZ) [.ref h0, .int w] [(h0, .inr (10, fs))] sz) (va_Qi (fun (r : Int32) (_ : Unit) => r = (if w = 0 then (0 : Int32) else -1)) (fun (_ : Unit) (t : State) => va_P (dC, dI) vwCl [] t.heap ∧ va_D (va_A [(h0, .inr (10, fs))] sz) []) (va_A [(h0, .inr (10, fs))] sz)) 0 0 (va_A [(h0, .inr (10, fs))] sz) := by
  refine Met.ofW (cc := cX11_fault) (maxL := 2) (ret := (some .int)) (by decide) rfl ?_
  intro p e s m args below meth c s₁ B hml hv
  obtain ⟨rfl, hsz, hP, hK, hD0, hN⟩ := hv
  have hx := B.exec
  have hb := B.bytes
  have hr := B.returns
  have hts := atoms_spec (ws := wsX11_fault) B.pre
  have hown : s.vm.findClass RX11 = some m.cls := findClass_of_methodNamed B.named
  have hlocks := B.notSynchronized
  subst hsz
  have hD := hD0.self (sz := s.heap.size)
  generalize hAe : va_A [(h0, .inr (10, fs))] s.heap.size = A at hD ⊢
  have hA : ∀ q : Nat, s.heap.size ≤ q → A q := fun q h => by rw [← hAe]; exact Or.inr h
  have hl := lv_entry ([.ref h0, .int w]) (n := 2) (Nat.le_of_ble_eq_true rfl)
  rw [lg_entry_eq]
  generalize (lg_sl ([.ref h0, .int w]) ++ List.replicate (2 - (lg_sl ([.ref h0, .int w])).length) Slot.unset).toArray = ls at hl ⊢
  have hl : lv_has ls 2 [(0, .ref h0), (1, .int w)] := hl
  refine k_H (A := A) hP (fun H hP hS => ?_)
  have hP : va_P (dC, dI) vwCl [(h0, .inr (10, fs))] H := hP
  have hD : va_D A [(h0, .inr (10, fs))] := hD
  refine lv_aload_n hx hb dX11_fault_0 rfl (lv_at hl 0 rfl) ?_
  refine lv_iconst (v := 0) hx hb dX11_fault_1 (by decide) ?_
  refine va_put (D := (dC, dI)) (ci := 10) (v := .int 0) (ty := .int) (C := RX11) (T := TX11) (N := 68) hx hb hts iwwsX11_fault_11 tyX11 tyX11_ok nmX11 hown hK hP hD hS 0 rfl rfl 0 (by decide) (hts (.fieldLink RX11 121 "NothingJudgeModel" "thrown" "I") fwwsX11_fault_121) (fun _ h9 => h9) rfl (by decide +kernel) rfl rfl (by rw [gl_fs]; decide) dX11_fault_2 (fun H locs hP hD hS => ?_)
  obtain ⟨fs_323, efs_323⟩ : ∃ z : List Value, z = fs.set 0 (.int 0) := ⟨_, rfl⟩
  have glfs_323 : fs_323.length = 68 := fs_len efs_323 gl_fs
  have hP : va_P (dC, dI) vwCl [(h0, .inr (10, fs_323))] H := by rw [efs_323]; exact hP
  have hD : va_D A [(h0, .inr (10, fs_323))] := by rw [efs_323]; exact hD
  refine lv_iload_n hx hb dX11_fault_5 rfl (lv_at hl 1 rfl) ?_
  refine lv_if_ne (tgt := 16) hx hb dX11_fault_6 (by decide) (fun c_324 => ?_) (fun c_324 => ?_)
  · refine lv_iload_n hx hb dX11_fault_16 rfl (lv_at hl 1 rfl) ?_
    refine lv_iconst (v := 1) hx hb dX11_fault_17 (by decide) ?_
    refine lv_icmp_ne (tgt := 28) hx hb dX11_fault_18 (by decide) (fun c_325 => ?_) (fun c_325 => ?_)
    · refine lv_iconst (v := (-1)) hx hb dX11_fault_28 (by decide) ?_
      subst efs_323
      have hP9 := hP.sub (ws' := []) [] rfl
      have hD9 := hD.sub (ws' := []) [] (by decide) rfl
      exact W.iret (v := (-1)) hx hb hr (fun t ht hW => ⟨⟨(-1), (), rfl, (by first | (rw [if_pos (by assumption)]) | (rw [if_neg (by assumption)])), by rw [ht]; exact hP9, hD9⟩, hS.F ht⟩) hS.2.2 dX11_fault_29
    · refine lv_aload_n hx hb dX11_fault_21 rfl (lv_at hl 0 rfl) ?_
      refine va_get (D := (dC, dI)) (ci := 10) (v := .int (-1)) (C := RX11) (T := TX11) (N := 68) hx hb hts iwwsX11_fault_11 hown hK hP 0 rfl rfl 11 (by decide) (hts (.fieldLink RX11 13 "NothingJudgeModel" "lastPlace" "I") fwwsX11_fault_13) (fun _ h9 => h9) (fs_ne efs_323 (by decide) g_fs_11) dX11_fault_22 ?_
      refine lv_goto (tgt := 29) hx hb dX11_fault_25 (by decide) ?_
      subst efs_323
      have hP9 := hP.sub (ws' := []) [] rfl
      have hD9 := hD.sub (ws' := []) [] (by decide) rfl
      exact W.iret (v := (-1)) hx hb hr (fun t ht hW => ⟨⟨(-1), (), rfl, (by first | (rw [if_pos (by assumption)]) | (rw [if_neg (by assumption)])), by rw [ht]; exact hP9, hD9⟩, hS.F ht⟩) hS.2.2 dX11_fault_29
  · refine lv_aload_n hx hb dX11_fault_9 rfl (lv_at hl 0 rfl) ?_
    refine va_get (D := (dC, dI)) (ci := 10) (v := .int 0) (C := RX11) (T := TX11) (N := 68) hx hb hts iwwsX11_fault_11 hown hK hP 0 rfl rfl 10 (by decide) (hts (.fieldLink RX11 242 "NothingJudgeModel" "lastFault" "I") fwwsX11_fault_242) (fun _ h9 => h9) (fs_ne efs_323 (by decide) g_fs_10) dX11_fault_10 ?_
    refine lv_goto (tgt := 29) hx hb dX11_fault_13 (by decide) ?_
    subst efs_323
    have hP9 := hP.sub (ws' := []) [] rfl
    have hD9 := hD.sub (ws' := []) [] (by decide) rfl
    exact W.iret (v := 0) hx hb hr (fun t ht hW => ⟨⟨0, (), rfl, (by first | (rw [if_pos (by assumption)]) | (rw [if_neg (by assumption)])), by rw [ht]; exact hP9, hD9⟩, hS.F ht⟩) hS.2.2 dX11_fault_29

set_option maxHeartbeats 4000000 in
set_option maxRecDepth 100000 in
theorem m_entry (l : Launch) (dC : Nat → ClassId) (dI : Nat → Nat → Nat) (cI cB cL cZ : ClassId) (h0 : Nat) (m_rf : Nat) (r : Int32) (fs : List Value) (frf : Nat → Int32) (sz : Nat) (gl_fs : fs.length = 68) (g_fs_19 : fs[19]? = some (.ref m_rf)) (hrf : ∀ j, j < 16 → frf j = -1) : Met l yX11_entry wsX11_entry ({ frames := 0, cells := 0, slots := 0, locals := 0 }) (cP (dC, dI) (kTy cI cB cL cZ) [.ref h0, .int r] [(h0, .inr (10, fs)), (m_rf, .inl (cI, 16, .inl frf))] sz) (va_Qi (fun (r : Int32) (_ : Unit) => r = 0) (fun (_ : Unit) (t : State) => va_P (dC, dI) vwCl [] t.heap ∧ va_D (va_A [(h0, .inr (10, fs)), (m_rf, .inl (cI, 16, .inl frf))] sz) []) (va_A [(h0, .inr (10, fs)), (m_rf, .inl (cI, 16, .inl frf))] sz)) 0 0 (va_A [(h0, .inr (10, fs)), (m_rf, .inl (cI, 16, .inl frf))] sz) := by
  refine Met.ofW (cc := cX11_entry) (maxL := 2) (ret := (some .boolean)) (by decide) rfl ?_
  intro p e s m args below meth c s₁ B hml hv
  obtain ⟨rfl, hsz, hP, hK, hD0, hN⟩ := hv
  have hx := B.exec
  have hb := B.bytes
  have hr := B.returns
  have hts := atoms_spec (ws := wsX11_entry) B.pre
  have hown : s.vm.findClass RX11 = some m.cls := findClass_of_methodNamed B.named
  have hlocks := B.notSynchronized
  subst hsz
  have hD := hD0.self (sz := s.heap.size)
  generalize hAe : va_A [(h0, .inr (10, fs)), (m_rf, .inl (cI, 16, .inl frf))] s.heap.size = A at hD ⊢
  have hA : ∀ q : Nat, s.heap.size ≤ q → A q := fun q h => by rw [← hAe]; exact Or.inr h
  have hl := lv_entry ([.ref h0, .int r]) (n := 2) (Nat.le_of_ble_eq_true rfl)
  rw [lg_entry_eq]
  generalize (lg_sl ([.ref h0, .int r]) ++ List.replicate (2 - (lg_sl ([.ref h0, .int r])).length) Slot.unset).toArray = ls at hl ⊢
  have hl : lv_has ls 2 [(0, .ref h0), (1, .int r)] := hl
  refine k_H (A := A) hP (fun H hP hS => ?_)
  have hP : va_P (dC, dI) vwCl [(h0, .inr (10, fs)), (m_rf, .inl (cI, 16, .inl frf))] H := hP
  have hD : va_D A [(h0, .inr (10, fs)), (m_rf, .inl (cI, 16, .inl frf))] := hD
  refine lv_aload_n hx hb dX11_entry_0 rfl (lv_at hl 0 rfl) ?_
  refine lv_iconst (v := 0) hx hb dX11_entry_1 (by decide) ?_
  refine va_put (D := (dC, dI)) (ci := 10) (v := .int 0) (ty := .int) (C := RX11) (T := TX11) (N := 68) hx hb hts iwwsX11_entry_11 tyX11 tyX11_ok nmX11 hown hK hP hD hS 0 rfl rfl 0 (by decide) (hts (.fieldLink RX11 121 "NothingJudgeModel" "thrown" "I") fwwsX11_entry_121) (fun _ h9 => h9) rfl (by decide +kernel) rfl rfl (by rw [gl_fs]; decide) dX11_entry_2 (fun H locs hP hD hS => ?_)
  obtain ⟨fs_326, efs_326⟩ : ∃ z : List Value, z = fs.set 0 (.int 0) := ⟨_, rfl⟩
  have glfs_326 : fs_326.length = 68 := fs_len efs_326 gl_fs
  have hP : va_P (dC, dI) vwCl [(h0, .inr (10, fs_326)), (m_rf, .inl (cI, 16, .inl frf))] H := by rw [efs_326]; exact hP
  have hD : va_D A [(h0, .inr (10, fs_326)), (m_rf, .inl (cI, 16, .inl frf))] := by rw [efs_326]; exact hD
  refine lv_iload_n hx hb dX11_entry_5 rfl (lv_at hl 1 rfl) ?_
  refine lv_if_lt (tgt := 25) hx hb dX11_entry_6 (by decide) (fun c_327 => ?_) (fun c_327 => ?_)
  · refine lv_iconst (v := 0) hx hb dX11_entry_25 (by decide) ?_
    subst efs_326
    have hP9 := hP.sub (ws' := []) [] rfl
    have hD9 := hD.sub (ws' := []) [] (by decide) rfl
    exact W.zret (v := 0) (ty := .boolean) hx hb hr rfl (fun t ht hW => ⟨⟨0, (), rfl, rfl, by rw [ht]; exact hP9, hD9⟩, hS.F ht⟩) hS.2.2 dX11_entry_26
  · refine lv_iload_n hx hb dX11_entry_9 rfl (lv_at hl 1 rfl) ?_
    refine lv_bipush (v := 7) hx hb dX11_entry_10 (by decide) ?_
    refine lv_icmp_gt (tgt := 25) hx hb dX11_entry_12 (by decide) (fun c_328 => ?_) (fun c_328 => ?_)
    · refine lv_iconst (v := 0) hx hb dX11_entry_25 (by decide) ?_
      subst efs_326
      have hP9 := hP.sub (ws' := []) [] rfl
      have hD9 := hD.sub (ws' := []) [] (by decide) rfl
      exact W.zret (v := 0) (ty := .boolean) hx hb hr rfl (fun t ht hW => ⟨⟨0, (), rfl, rfl, by rw [ht]; exact hP9, hD9⟩, hS.F ht⟩) hS.2.2 dX11_entry_26
    · refine lv_aload_n hx hb dX11_entry_15 rfl (lv_at hl 0 rfl) ?_
      refine va_get (D := (dC, dI)) (ci := 10) (v := .ref m_rf) (C := RX11) (T := TX11) (N := 68) hx hb hts iwwsX11_entry_11 hown hK hP 0 rfl rfl 19 (by decide) (hts (.fieldLink RX11 32 "NothingJudgeModel" "routineFrom" "[I") fwwsX11_entry_32) (fun _ h9 => h9) (fs_ne efs_326 (by decide) g_fs_19) dX11_entry_16 ?_
      refine lv_iload_n hx hb dX11_entry_19 rfl (lv_at hl 1 rfl) ?_
      refine va_iald hx hb hK hP 1 0 rfl rfl (in_of (y := 16) (by decide) c_327 (fun h9 => c_328 (Int32.lt_of_lt_of_le (by decide) h9)) (by decide)) dX11_entry_20 ?_
      refine lv_topi (fun y_329 ey_329 => ?_)
      obtain rfl : y_329 = (-1) := ey_329.trans (hrf _ (cl_of (y := 16) (by decide) c_327 (fun h9 => c_328 (Int32.lt_of_lt_of_le (by decide) h9))))
      refine lv_iconst (v := (-1)) hx hb dX11_entry_21 (by decide) ?_
      refine lv_icmp_ne (tgt := 27) hx hb dX11_entry_22 (by decide) (fun c9 => absurd c9 (by decide)) (fun _ => ?_)
      refine lv_iconst (v := 0) hx hb dX11_entry_25 (by decide) ?_
      subst efs_326
      have hP9 := hP.sub (ws' := []) [] rfl
      have hD9 := hD.sub (ws' := []) [] (by decide) rfl
      exact W.zret (v := 0) (ty := .boolean) hx hb hr rfl (fun t ht hW => ⟨⟨0, (), rfl, rfl, by rw [ht]; exact hP9, hD9⟩, hS.F ht⟩) hS.2.2 dX11_entry_26

set_option maxHeartbeats 4000000 in
set_option maxRecDepth 100000 in
theorem m_outer (l : Launch) (dC : Nat → ClassId) (dI : Nat → Nat → Nat) (cI cB cL cZ : ClassId) (h0 : Nat) (a : Int32) (b : Int32) (fs : List Value) (sz : Nat) (gl_fs : fs.length = 68) (g_fs_39 : fs[39]? = some (.int (-1))) : Met l yX11_outer wsX11_outer ({ frames := 0, cells := 0, slots := 0, locals := 0 }) (cP (dC, dI) (kTy cI cB cL cZ) [.ref h0, .int a, .int b] [(h0, .inr (10, fs))] sz) (va_Qi (fun (r : Int32) (_ : Unit) => r = 0) (fun (_ : Unit) (t : State) => va_P (dC, dI) vwCl [] t.heap ∧ va_D (va_A [(h0, .inr (10, fs))] sz) []) (va_A [(h0, .inr (10, fs))] sz)) 0 0 (va_A [(h0, .inr (10, fs))] sz) := by
  refine Met.ofW (cc := cX11_outer) (maxL := 3) (ret := (some .boolean)) (by decide) rfl ?_
  intro p e s m args below meth c s₁ B hml hv
  obtain ⟨rfl, hsz, hP, hK, hD0, hN⟩ := hv
  have hx := B.exec
  have hb := B.bytes
  have hr := B.returns
  have hts := atoms_spec (ws := wsX11_outer) B.pre
  have hown : s.vm.findClass RX11 = some m.cls := findClass_of_methodNamed B.named
  have hlocks := B.notSynchronized
  subst hsz
  have hD := hD0.self (sz := s.heap.size)
  generalize hAe : va_A [(h0, .inr (10, fs))] s.heap.size = A at hD ⊢
  have hA : ∀ q : Nat, s.heap.size ≤ q → A q := fun q h => by rw [← hAe]; exact Or.inr h
  have hl := lv_entry ([.ref h0, .int a, .int b]) (n := 3) (Nat.le_of_ble_eq_true rfl)
  rw [lg_entry_eq]
  generalize (lg_sl ([.ref h0, .int a, .int b]) ++ List.replicate (3 - (lg_sl ([.ref h0, .int a, .int b])).length) Slot.unset).toArray = ls at hl ⊢
  have hl : lv_has ls 3 [(0, .ref h0), (1, .int a), (2, .int b)] := hl
  refine k_H (A := A) hP (fun H hP hS => ?_)
  have hP : va_P (dC, dI) vwCl [(h0, .inr (10, fs))] H := hP
  have hD : va_D A [(h0, .inr (10, fs))] := hD
  refine lv_aload_n hx hb dX11_outer_0 rfl (lv_at hl 0 rfl) ?_
  refine lv_iconst (v := 0) hx hb dX11_outer_1 (by decide) ?_
  refine va_put (D := (dC, dI)) (ci := 10) (v := .int 0) (ty := .int) (C := RX11) (T := TX11) (N := 68) hx hb hts iwwsX11_outer_11 tyX11 tyX11_ok nmX11 hown hK hP hD hS 0 rfl rfl 0 (by decide) (hts (.fieldLink RX11 121 "NothingJudgeModel" "thrown" "I") fwwsX11_outer_121) (fun _ h9 => h9) rfl (by decide +kernel) rfl rfl (by rw [gl_fs]; decide) dX11_outer_2 (fun H locs hP hD hS => ?_)
  obtain ⟨fs_330, efs_330⟩ : ∃ z : List Value, z = fs.set 0 (.int 0) := ⟨_, rfl⟩
  have glfs_330 : fs_330.length = 68 := fs_len efs_330 gl_fs
  have hP : va_P (dC, dI) vwCl [(h0, .inr (10, fs_330))] H := by rw [efs_330]; exact hP
  have hD : va_D A [(h0, .inr (10, fs_330))] := by rw [efs_330]; exact hD
  refine lv_aload_n hx hb dX11_outer_5 rfl (lv_at hl 0 rfl) ?_
  refine va_get (D := (dC, dI)) (ci := 10) (v := .int (-1)) (C := RX11) (T := TX11) (N := 68) hx hb hts iwwsX11_outer_11 hown hK hP 0 rfl rfl 39 (by decide) (hts (.fieldLink RX11 83 "NothingJudgeModel" "entry" "I") fwwsX11_outer_83) (fun _ h9 => h9) (fs_ne efs_330 (by decide) g_fs_39) dX11_outer_6 ?_
  refine lv_iconst (v := (-1)) hx hb dX11_outer_9 (by decide) ?_
  refine lv_icmp_eq (tgt := 40) hx hb dX11_outer_10 (by decide) (fun _ => ?_) (fun c9 => absurd (by decide) c9)
  refine lv_iconst (v := 0) hx hb dX11_outer_40 (by decide) ?_
  subst efs_330
  have hP9 := hP.sub (ws' := []) [] rfl
  have hD9 := hD.sub (ws' := []) [] (by decide) rfl
  exact W.zret (v := 0) (ty := .boolean) hx hb hr rfl (fun t ht hW => ⟨⟨0, (), rfl, rfl, by rw [ht]; exact hP9, hD9⟩, hS.F ht⟩) hS.2.2 dX11_outer_41

set_option maxHeartbeats 4000000 in
set_option maxRecDepth 100000 in
theorem m_use (l : Launch) (dC : Nat → ClassId) (dI : Nat → Nat → Nat) (cI cB cL cZ : ClassId) (h0 : Nat) (m_um : Nat) (a : Int32) (b : Int32) (fs : List Value) (fu : Nat → Int32) (sz : Nat) (gl_fs : fs.length = 68) (g_fs_26 : fs[26]? = some (.ref m_um)) (hu : fu ((0 : Int32).toNatClampNeg) = 0) : Met l yX11_use wsX11_use ({ frames := 0, cells := 0, slots := 0, locals := 0 }) (cP (dC, dI) (kTy cI cB cL cZ) [.ref h0, .int a, .int b] [(h0, .inr (10, fs)), (m_um, .inl (cI, 2, .inl fu))] sz) (va_Qi (fun (r : Int32) (_ : Unit) => r = -1) (fun (_ : Unit) (t : State) => va_P (dC, dI) vwCl [] t.heap ∧ va_D (va_A [(h0, .inr (10, fs)), (m_um, .inl (cI, 2, .inl fu))] sz) []) (va_A [(h0, .inr (10, fs)), (m_um, .inl (cI, 2, .inl fu))] sz)) 0 0 (va_A [(h0, .inr (10, fs)), (m_um, .inl (cI, 2, .inl fu))] sz) := by
  refine Met.ofW (cc := cX11_use) (maxL := 3) (ret := (some .int)) (by decide) rfl ?_
  intro p e s m args below meth c s₁ B hml hv
  obtain ⟨rfl, hsz, hP, hK, hD0, hN⟩ := hv
  have hx := B.exec
  have hb := B.bytes
  have hr := B.returns
  have hts := atoms_spec (ws := wsX11_use) B.pre
  have hown : s.vm.findClass RX11 = some m.cls := findClass_of_methodNamed B.named
  have hlocks := B.notSynchronized
  subst hsz
  have hD := hD0.self (sz := s.heap.size)
  generalize hAe : va_A [(h0, .inr (10, fs)), (m_um, .inl (cI, 2, .inl fu))] s.heap.size = A at hD ⊢
  have hA : ∀ q : Nat, s.heap.size ≤ q → A q := fun q h => by rw [← hAe]; exact Or.inr h
  have hl := lv_entry ([.ref h0, .int a, .int b]) (n := 3) (Nat.le_of_ble_eq_true rfl)
  rw [lg_entry_eq]
  generalize (lg_sl ([.ref h0, .int a, .int b]) ++ List.replicate (3 - (lg_sl ([.ref h0, .int a, .int b])).length) Slot.unset).toArray = ls at hl ⊢
  have hl : lv_has ls 3 [(0, .ref h0), (1, .int a), (2, .int b)] := hl
  refine k_H (A := A) hP (fun H hP hS => ?_)
  have hP : va_P (dC, dI) vwCl [(h0, .inr (10, fs)), (m_um, .inl (cI, 2, .inl fu))] H := hP
  have hD : va_D A [(h0, .inr (10, fs)), (m_um, .inl (cI, 2, .inl fu))] := hD
  refine lv_aload_n hx hb dX11_use_0 rfl (lv_at hl 0 rfl) ?_
  refine lv_iconst (v := 0) hx hb dX11_use_1 (by decide) ?_
  refine va_put (D := (dC, dI)) (ci := 10) (v := .int 0) (ty := .int) (C := RX11) (T := TX11) (N := 68) hx hb hts iwwsX11_use_11 tyX11 tyX11_ok nmX11 hown hK hP hD hS 0 rfl rfl 0 (by decide) (hts (.fieldLink RX11 121 "NothingJudgeModel" "thrown" "I") fwwsX11_use_121) (fun _ h9 => h9) rfl (by decide +kernel) rfl rfl (by rw [gl_fs]; decide) dX11_use_2 (fun H locs hP hD hS => ?_)
  obtain ⟨fs_331, efs_331⟩ : ∃ z : List Value, z = fs.set 0 (.int 0) := ⟨_, rfl⟩
  have glfs_331 : fs_331.length = 68 := fs_len efs_331 gl_fs
  have hP : va_P (dC, dI) vwCl [(h0, .inr (10, fs_331)), (m_um, .inl (cI, 2, .inl fu))] H := by rw [efs_331]; exact hP
  have hD : va_D A [(h0, .inr (10, fs_331)), (m_um, .inl (cI, 2, .inl fu))] := by rw [efs_331]; exact hD
  refine lv_iload_n hx hb dX11_use_5 rfl (lv_at hl 1 rfl) ?_
  refine lv_if_lt (tgt := 19) hx hb dX11_use_6 (by decide) (fun c_332 => ?_) (fun c_332 => ?_)
  · refine lv_iconst (v := (-1)) hx hb dX11_use_19 (by decide) ?_
    subst efs_331
    have hP9 := hP.sub (ws' := []) [] rfl
    have hD9 := hD.sub (ws' := []) [] (by decide) rfl
    exact W.iret (v := (-1)) hx hb hr (fun t ht hW => ⟨⟨(-1), (), rfl, rfl, by rw [ht]; exact hP9, hD9⟩, hS.F ht⟩) hS.2.2 dX11_use_20
  · refine lv_iload_n hx hb dX11_use_9 rfl (lv_at hl 1 rfl) ?_
    refine lv_aload_n hx hb dX11_use_10 rfl (lv_at hl 0 rfl) ?_
    refine va_get (D := (dC, dI)) (ci := 10) (v := .ref m_um) (C := RX11) (T := TX11) (N := 68) hx hb hts iwwsX11_use_11 hown hK hP 0 rfl rfl 26 (by decide) (hts (.fieldLink RX11 53 "NothingJudgeModel" "useMany" "[I") fwwsX11_use_53) (fun _ h9 => h9) (fs_ne efs_331 (by decide) g_fs_26) dX11_use_11 ?_
    refine lv_iconst (v := 0) hx hb dX11_use_14 (by decide) ?_
    refine va_iald hx hb hK hP 1 0 rfl rfl (by unfold vp_in; decide) dX11_use_15 ?_
    refine lv_topi (fun y_333 ey_333 => ?_)
    obtain rfl : y_333 = 0 := ey_333.trans hu
    refine lv_icmp_lt (tgt := 21) hx hb dX11_use_16 (by decide) (fun c9 => absurd c9 c_332) (fun _ => ?_)
    refine lv_iconst (v := (-1)) hx hb dX11_use_19 (by decide) ?_
    subst efs_331
    have hP9 := hP.sub (ws' := []) [] rfl
    have hD9 := hD.sub (ws' := []) [] (by decide) rfl
    exact W.iret (v := (-1)) hx hb hr (fun t ht hW => ⟨⟨(-1), (), rfl, rfl, by rw [ht]; exact hP9, hD9⟩, hS.F ht⟩) hS.2.2 dX11_use_20

set_option maxHeartbeats 4000000 in
set_option maxRecDepth 100000 in
theorem m_test (l : Launch) (dC : Nat → ClassId) (dI : Nat → Nat → Nat) (cI cB cL cZ : ClassId) (h0 : Nat) (m_tm : Nat) (a : Int32) (b : Int32) (fs : List Value) (fu : Nat → Int32) (sz : Nat) (gl_fs : fs.length = 68) (g_fs_29 : fs[29]? = some (.ref m_tm)) (hu : fu ((0 : Int32).toNatClampNeg) = 0) : Met l yX11_test wsX11_test ({ frames := 0, cells := 0, slots := 0, locals := 0 }) (cP (dC, dI) (kTy cI cB cL cZ) [.ref h0, .int a, .int b] [(h0, .inr (10, fs)), (m_tm, .inl (cI, 2, .inl fu))] sz) (va_Qi (fun (r : Int32) (_ : Unit) => r = -1) (fun (_ : Unit) (t : State) => va_P (dC, dI) vwCl [] t.heap ∧ va_D (va_A [(h0, .inr (10, fs)), (m_tm, .inl (cI, 2, .inl fu))] sz) []) (va_A [(h0, .inr (10, fs)), (m_tm, .inl (cI, 2, .inl fu))] sz)) 0 0 (va_A [(h0, .inr (10, fs)), (m_tm, .inl (cI, 2, .inl fu))] sz) := by
  refine Met.ofW (cc := cX11_test) (maxL := 3) (ret := (some .int)) (by decide) rfl ?_
  intro p e s m args below meth c s₁ B hml hv
  obtain ⟨rfl, hsz, hP, hK, hD0, hN⟩ := hv
  have hx := B.exec
  have hb := B.bytes
  have hr := B.returns
  have hts := atoms_spec (ws := wsX11_test) B.pre
  have hown : s.vm.findClass RX11 = some m.cls := findClass_of_methodNamed B.named
  have hlocks := B.notSynchronized
  subst hsz
  have hD := hD0.self (sz := s.heap.size)
  generalize hAe : va_A [(h0, .inr (10, fs)), (m_tm, .inl (cI, 2, .inl fu))] s.heap.size = A at hD ⊢
  have hA : ∀ q : Nat, s.heap.size ≤ q → A q := fun q h => by rw [← hAe]; exact Or.inr h
  have hl := lv_entry ([.ref h0, .int a, .int b]) (n := 3) (Nat.le_of_ble_eq_true rfl)
  rw [lg_entry_eq]
  generalize (lg_sl ([.ref h0, .int a, .int b]) ++ List.replicate (3 - (lg_sl ([.ref h0, .int a, .int b])).length) Slot.unset).toArray = ls at hl ⊢
  have hl : lv_has ls 3 [(0, .ref h0), (1, .int a), (2, .int b)] := hl
  refine k_H (A := A) hP (fun H hP hS => ?_)
  have hP : va_P (dC, dI) vwCl [(h0, .inr (10, fs)), (m_tm, .inl (cI, 2, .inl fu))] H := hP
  have hD : va_D A [(h0, .inr (10, fs)), (m_tm, .inl (cI, 2, .inl fu))] := hD
  refine lv_aload_n hx hb dX11_test_0 rfl (lv_at hl 0 rfl) ?_
  refine lv_iconst (v := 0) hx hb dX11_test_1 (by decide) ?_
  refine va_put (D := (dC, dI)) (ci := 10) (v := .int 0) (ty := .int) (C := RX11) (T := TX11) (N := 68) hx hb hts iwwsX11_test_11 tyX11 tyX11_ok nmX11 hown hK hP hD hS 0 rfl rfl 0 (by decide) (hts (.fieldLink RX11 121 "NothingJudgeModel" "thrown" "I") fwwsX11_test_121) (fun _ h9 => h9) rfl (by decide +kernel) rfl rfl (by rw [gl_fs]; decide) dX11_test_2 (fun H locs hP hD hS => ?_)
  obtain ⟨fs_334, efs_334⟩ : ∃ z : List Value, z = fs.set 0 (.int 0) := ⟨_, rfl⟩
  have glfs_334 : fs_334.length = 68 := fs_len efs_334 gl_fs
  have hP : va_P (dC, dI) vwCl [(h0, .inr (10, fs_334)), (m_tm, .inl (cI, 2, .inl fu))] H := by rw [efs_334]; exact hP
  have hD : va_D A [(h0, .inr (10, fs_334)), (m_tm, .inl (cI, 2, .inl fu))] := by rw [efs_334]; exact hD
  refine lv_iload_n hx hb dX11_test_5 rfl (lv_at hl 1 rfl) ?_
  refine lv_if_lt (tgt := 19) hx hb dX11_test_6 (by decide) (fun c_335 => ?_) (fun c_335 => ?_)
  · refine lv_iconst (v := (-1)) hx hb dX11_test_19 (by decide) ?_
    subst efs_334
    have hP9 := hP.sub (ws' := []) [] rfl
    have hD9 := hD.sub (ws' := []) [] (by decide) rfl
    exact W.iret (v := (-1)) hx hb hr (fun t ht hW => ⟨⟨(-1), (), rfl, rfl, by rw [ht]; exact hP9, hD9⟩, hS.F ht⟩) hS.2.2 dX11_test_20
  · refine lv_iload_n hx hb dX11_test_9 rfl (lv_at hl 1 rfl) ?_
    refine lv_aload_n hx hb dX11_test_10 rfl (lv_at hl 0 rfl) ?_
    refine va_get (D := (dC, dI)) (ci := 10) (v := .ref m_tm) (C := RX11) (T := TX11) (N := 68) hx hb hts iwwsX11_test_11 hown hK hP 0 rfl rfl 29 (by decide) (hts (.fieldLink RX11 62 "NothingJudgeModel" "testMany" "[I") fwwsX11_test_62) (fun _ h9 => h9) (fs_ne efs_334 (by decide) g_fs_29) dX11_test_11 ?_
    refine lv_iconst (v := 0) hx hb dX11_test_14 (by decide) ?_
    refine va_iald hx hb hK hP 1 0 rfl rfl (by unfold vp_in; decide) dX11_test_15 ?_
    refine lv_topi (fun y_336 ey_336 => ?_)
    obtain rfl : y_336 = 0 := ey_336.trans hu
    refine lv_icmp_lt (tgt := 21) hx hb dX11_test_16 (by decide) (fun c9 => absurd c9 c_335) (fun _ => ?_)
    refine lv_iconst (v := (-1)) hx hb dX11_test_19 (by decide) ?_
    subst efs_334
    have hP9 := hP.sub (ws' := []) [] rfl
    have hD9 := hD.sub (ws' := []) [] (by decide) rfl
    exact W.iret (v := (-1)) hx hb hr (fun t ht hW => ⟨⟨(-1), (), rfl, rfl, by rw [ht]; exact hP9, hD9⟩, hS.F ht⟩) hS.2.2 dX11_test_20

set_option maxHeartbeats 4000000 in
set_option maxRecDepth 100000 in
theorem m_tries (l : Launch) (dC : Nat → ClassId) (dI : Nat → Nat → Nat) (cI cB cL cZ : ClassId) (h0 : Nat) (m_um : Nat) (a : Int32) (fs : List Value) (fu : Nat → Int32) (sz : Nat) (gl_fs : fs.length = 68) (g_fs_26 : fs[26]? = some (.ref m_um)) (hu : fu ((0 : Int32).toNatClampNeg) = 0) : Met l yX11_tries wsX11_tries ({ frames := 0, cells := 0, slots := 0, locals := 0 }) (cP (dC, dI) (kTy cI cB cL cZ) [.ref h0, .int a] [(h0, .inr (10, fs)), (m_um, .inl (cI, 2, .inl fu))] sz) (va_Qi (fun (r : Int32) (_ : Unit) => r = -1) (fun (_ : Unit) (t : State) => va_P (dC, dI) vwCl [] t.heap ∧ va_D (va_A [(h0, .inr (10, fs)), (m_um, .inl (cI, 2, .inl fu))] sz) []) (va_A [(h0, .inr (10, fs)), (m_um, .inl (cI, 2, .inl fu))] sz)) 0 0 (va_A [(h0, .inr (10, fs)), (m_um, .inl (cI, 2, .inl fu))] sz) := by
  refine Met.ofW (cc := cX11_tries) (maxL := 4) (ret := (some .int)) (by decide) rfl ?_
  intro p e s m args below meth c s₁ B hml hv
  obtain ⟨rfl, hsz, hP, hK, hD0, hN⟩ := hv
  have hx := B.exec
  have hb := B.bytes
  have hr := B.returns
  have hts := atoms_spec (ws := wsX11_tries) B.pre
  have hown : s.vm.findClass RX11 = some m.cls := findClass_of_methodNamed B.named
  have hlocks := B.notSynchronized
  subst hsz
  have hD := hD0.self (sz := s.heap.size)
  generalize hAe : va_A [(h0, .inr (10, fs)), (m_um, .inl (cI, 2, .inl fu))] s.heap.size = A at hD ⊢
  have hA : ∀ q : Nat, s.heap.size ≤ q → A q := fun q h => by rw [← hAe]; exact Or.inr h
  have hl := lv_entry ([.ref h0, .int a]) (n := 4) (Nat.le_of_ble_eq_true rfl)
  rw [lg_entry_eq]
  generalize (lg_sl ([.ref h0, .int a]) ++ List.replicate (4 - (lg_sl ([.ref h0, .int a])).length) Slot.unset).toArray = ls at hl ⊢
  have hl : lv_has ls 4 [(0, .ref h0), (1, .int a)] := hl
  refine k_H (A := A) hP (fun H hP hS => ?_)
  have hP : va_P (dC, dI) vwCl [(h0, .inr (10, fs)), (m_um, .inl (cI, 2, .inl fu))] H := hP
  have hD : va_D A [(h0, .inr (10, fs)), (m_um, .inl (cI, 2, .inl fu))] := hD
  refine lv_aload_n hx hb dX11_tries_0 rfl (lv_at hl 0 rfl) ?_
  refine lv_iconst (v := 0) hx hb dX11_tries_1 (by decide) ?_
  refine va_put (D := (dC, dI)) (ci := 10) (v := .int 0) (ty := .int) (C := RX11) (T := TX11) (N := 68) hx hb hts iwwsX11_tries_11 tyX11 tyX11_ok nmX11 hown hK hP hD hS 0 rfl rfl 0 (by decide) (hts (.fieldLink RX11 121 "NothingJudgeModel" "thrown" "I") fwwsX11_tries_121) (fun _ h9 => h9) rfl (by decide +kernel) rfl rfl (by rw [gl_fs]; decide) dX11_tries_2 (fun H locs hP hD hS => ?_)
  obtain ⟨fs_337, efs_337⟩ : ∃ z : List Value, z = fs.set 0 (.int 0) := ⟨_, rfl⟩
  have glfs_337 : fs_337.length = 68 := fs_len efs_337 gl_fs
  have hP : va_P (dC, dI) vwCl [(h0, .inr (10, fs_337)), (m_um, .inl (cI, 2, .inl fu))] H := by rw [efs_337]; exact hP
  have hD : va_D A [(h0, .inr (10, fs_337)), (m_um, .inl (cI, 2, .inl fu))] := by rw [efs_337]; exact hD
  refine lv_iload_n hx hb dX11_tries_5 rfl (lv_at hl 1 rfl) ?_
  refine lv_if_lt (tgt := 19) hx hb dX11_tries_6 (by decide) (fun c_338 => ?_) (fun c_338 => ?_)
  · refine lv_iconst (v := (-1)) hx hb dX11_tries_19 (by decide) ?_
    subst efs_337
    have hP9 := hP.sub (ws' := []) [] rfl
    have hD9 := hD.sub (ws' := []) [] (by decide) rfl
    exact W.iret (v := (-1)) hx hb hr (fun t ht hW => ⟨⟨(-1), (), rfl, rfl, by rw [ht]; exact hP9, hD9⟩, hS.F ht⟩) hS.2.2 dX11_tries_20
  · refine lv_iload_n hx hb dX11_tries_9 rfl (lv_at hl 1 rfl) ?_
    refine lv_aload_n hx hb dX11_tries_10 rfl (lv_at hl 0 rfl) ?_
    refine va_get (D := (dC, dI)) (ci := 10) (v := .ref m_um) (C := RX11) (T := TX11) (N := 68) hx hb hts iwwsX11_tries_11 hown hK hP 0 rfl rfl 26 (by decide) (hts (.fieldLink RX11 53 "NothingJudgeModel" "useMany" "[I") fwwsX11_tries_53) (fun _ h9 => h9) (fs_ne efs_337 (by decide) g_fs_26) dX11_tries_11 ?_
    refine lv_iconst (v := 0) hx hb dX11_tries_14 (by decide) ?_
    refine va_iald hx hb hK hP 1 0 rfl rfl (by unfold vp_in; decide) dX11_tries_15 ?_
    refine lv_topi (fun y_339 ey_339 => ?_)
    obtain rfl : y_339 = 0 := ey_339.trans hu
    refine lv_icmp_lt (tgt := 21) hx hb dX11_tries_16 (by decide) (fun c9 => absurd c9 c_338) (fun _ => ?_)
    refine lv_iconst (v := (-1)) hx hb dX11_tries_19 (by decide) ?_
    subst efs_337
    have hP9 := hP.sub (ws' := []) [] rfl
    have hD9 := hD.sub (ws' := []) [] (by decide) rfl
    exact W.iret (v := (-1)) hx hb hr (fun t ht hW => ⟨⟨(-1), (), rfl, rfl, by rw [ht]; exact hP9, hD9⟩, hS.F ht⟩) hS.2.2 dX11_tries_20
