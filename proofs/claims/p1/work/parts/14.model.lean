set_option maxHeartbeats 4000000 in
set_option maxRecDepth 100000 in
theorem c_here (l : Launch) (dC : Nat → ClassId) (dI : Nat → Nat → Nat) (cI cB cL cZ : ClassId) (h0 : Nat) (fs : List Value) (sz : Nat) (gl_fs : fs.length = 68) (g_fs_4 : fs[4]? = some (.int 0)) (g_fs_3 : fs[3]? = some (.int 0)) : Met l yX11_here wsX11_here ({ frames := 0, cells := 0, slots := 0, locals := 0 }) (cP (dC, dI) (kTy cI cB cL cZ) [.ref h0] [(h0, .inr (10, fs))] sz) (va_Qi (fun (r : Int32) (_ : Unit) => r = -1) (fun (_ : Unit) (t : State) => va_P (dC, dI) vwCl [(h0, .inr (10, fs))] t.heap ∧ va_D (va_A [(h0, .inr (10, fs))] sz) [(h0, .inr (10, fs))]) (va_A [(h0, .inr (10, fs))] sz)) 0 0 (va_A [(h0, .inr (10, fs))] sz) := by
  refine Met.ofW (cc := cX11_here) (maxL := 1) (ret := (some .int)) (by decide) rfl ?_
  intro p e s m args below meth c s₁ B hml hv
  obtain ⟨rfl, hsz, hP, hK, hD0, hN⟩ := hv
  have hx := B.exec
  have hb := B.bytes
  have hr := B.returns
  have hts := atoms_spec (ws := wsX11_here) B.pre
  have hown : s.vm.findClass RX11 = some m.cls := findClass_of_methodNamed B.named
  have hlocks := B.notSynchronized
  subst hsz
  have hD := hD0.self (sz := s.heap.size)
  generalize hAe : va_A [(h0, .inr (10, fs))] s.heap.size = A at hD ⊢
  have hA : ∀ q : Nat, s.heap.size ≤ q → A q := fun q h => by rw [← hAe]; exact Or.inr h
  have hl := lv_entry ([.ref h0]) (n := 1) (Nat.le_of_ble_eq_true rfl)
  rw [lg_entry_eq]
  generalize (lg_sl ([.ref h0]) ++ List.replicate (1 - (lg_sl ([.ref h0])).length) Slot.unset).toArray = ls at hl ⊢
  have hl : lv_has ls 1 [(0, .ref h0)] := hl
  refine k_H (A := A) hP (fun H hP hS => ?_)
  have hP : va_P (dC, dI) vwCl [(h0, .inr (10, fs))] H := hP
  have hD : va_D A [(h0, .inr (10, fs))] := hD
  refine lv_aload_n hx hb dX11_here_0 rfl (lv_at hl 0 rfl) ?_
  refine va_get (D := (dC, dI)) (ci := 10) (v := .int 0) (C := RX11) (T := TX11) (N := 68) hx hb hts iwwsX11_here_11 hown hK hP 0 rfl rfl 4 (by decide) (hts (.fieldLink RX11 127 "NothingJudgeModel" "at" "I") fwwsX11_here_127) (fun _ h9 => h9) g_fs_4 dX11_here_1 ?_
  refine lv_aload_n hx hb dX11_here_4 rfl (lv_at hl 0 rfl) ?_
  refine va_get (D := (dC, dI)) (ci := 10) (v := .int 0) (C := RX11) (T := TX11) (N := 68) hx hb hts iwwsX11_here_11 hown hK hP 0 rfl rfl 3 (by decide) (hts (.fieldLink RX11 130 "NothingJudgeModel" "size" "I") fwwsX11_here_130) (fun _ h9 => h9) g_fs_3 dX11_here_5 ?_
  refine lv_icmp_ge (tgt := 23) hx hb dX11_here_8 (by decide) (fun _ => ?_) (fun c9 => absurd (by decide) c9)
  refine lv_iconst (v := (-1)) hx hb dX11_here_23 (by decide) ?_
  have hP9 := hP.sub (ws' := [(h0, .inr (10, fs))]) [0] rfl
  have hD9 := hD.sub (ws' := [(h0, .inr (10, fs))]) [0] (by decide) rfl
  exact W.iret (v := (-1)) hx hb hr (fun t ht hW => ⟨⟨(-1), (), rfl, rfl, by rw [ht]; exact hP9, hD9⟩, hS.F ht⟩) hS.2.2 dX11_here_24

set_option maxHeartbeats 4000000 in
set_option maxRecDepth 100000 in
theorem c_next (l : Launch) (dC : Nat → ClassId) (dI : Nat → Nat → Nat) (cI cB cL cZ : ClassId) (h0 : Nat) (fs : List Value) (sz : Nat) (gl_fs : fs.length = 68) (g_fs_4 : fs[4]? = some (.int 0)) (g_fs_3 : fs[3]? = some (.int 0)) : Met l yX11_next wsX11_next ({ frames := 1, cells := 0, slots := 0, locals := 20 }) (cP (dC, dI) (kTy cI cB cL cZ) [.ref h0] [(h0, .inr (10, fs))] sz) (va_Qv (fun _ : Unit => True) (fun (_ : Unit) (t : State) => va_P (dC, dI) vwCl [(h0, .inr (10, ((fs.set 5 (.int 0)).set 6 (.int 4))))] t.heap ∧ va_D (va_A [(h0, .inr (10, fs))] sz) [(h0, .inr (10, ((fs.set 5 (.int 0)).set 6 (.int 4))))]) (va_A [(h0, .inr (10, fs))] sz)) 0 0 (va_A [(h0, .inr (10, fs))] sz) := by
  refine Met.ofW (cc := cX11_next) (maxL := 3) (ret := none) (by decide) rfl ?_
  intro p e s m args below meth c s₁ B hml hv
  obtain ⟨rfl, hsz, hP, hK, hD0, hN⟩ := hv
  have hx := B.exec
  have hb := B.bytes
  have hr := B.returns
  have hts := atoms_spec (ws := wsX11_next) B.pre
  have hown : s.vm.findClass RX11 = some m.cls := findClass_of_methodNamed B.named
  have hlocks := B.notSynchronized
  subst hsz
  have hD := hD0.self (sz := s.heap.size)
  generalize hAe : va_A [(h0, .inr (10, fs))] s.heap.size = A at hD ⊢
  have hA : ∀ q : Nat, s.heap.size ≤ q → A q := fun q h => by rw [← hAe]; exact Or.inr h
  have hl := lv_entry ([.ref h0]) (n := 3) (Nat.le_of_ble_eq_true rfl)
  rw [lg_entry_eq]
  generalize (lg_sl ([.ref h0]) ++ List.replicate (3 - (lg_sl ([.ref h0])).length) Slot.unset).toArray = ls at hl ⊢
  have hl : lv_has ls 3 [(0, .ref h0)] := hl
  refine k_H (A := A) hP (fun H hP hS => ?_)
  have hP : va_P (dC, dI) vwCl [(h0, .inr (10, fs))] H := hP
  have hD : va_D A [(h0, .inr (10, fs))] := hD
  refine lv_aload_n hx hb dX11_next_0 rfl (lv_at hl 0 rfl) ?_
  have hPc := hP.sub (ws' := [(h0, .inr (10, fs))]) [0] rfl
  have hDc := hD.sub (ws' := [(h0, .inr (10, fs))]) [0] (by decide) rfl
  have hFc := va_free (wc := [(h0, .inr (10, fs))]) hD hS hA [0] rfl
  refine va_calli (va_runV (As := []) (rest := []) ⟨hx, hb, hml, hown, hts⟩ (c_here l dC dI cI cB cL cZ (h0) (fs) H.size gl_fs g_fs_4 g_fs_3) (cwV 0 hts gX11_next_X11_here rfl rfl rfl (by decide +kernel) ⟨Nat.le_of_ble_eq_true rfl, Nat.le_of_ble_eq_true rfl⟩) ⟨cP_fb, va_recv hK hPc (ci := 10) (q0 := 0) rfl rfl, fun U hU hW => cP_pre hPc hK hDc hN U hU hW⟩ rfl rfl hl.1 rfl (lv_room (Nat.le_of_ble_eq_true rfl)) dX11_next_1 ⟨Nat.le_of_ble_eq_true rfl, Nat.le_of_ble_eq_true rfl⟩) hS (fun q _ h => hFc q h) hFc (fun r_295 u t H1 locs ht hvm hw hB hz1 hk1 hS => ?_)
  obtain ⟨hP1, hD1⟩ := hB
  rw [ht] at hP1
  obtain ⟨hP, hD⟩ := va_join (wr := []) (w1 := [(h0, .inr (10, fs))]) hP hD [0] [] rfl rfl (by decide) (by decide) hk1 hFc hP1 hD1
  generalize H1 = H at hP hS ⊢
  have hP : va_P (dC, dI) vwCl [(h0, .inr (10, fs))] H := hP
  have hD : va_D A [(h0, .inr (10, fs))] := hD
  obtain rfl : r_295 = (-1) := hw
  refine lv_bipush (v := 10) hx hb dX11_next_4 (by decide) ?_
  refine lv_icmp_eq (tgt := 18) hx hb dX11_next_6 (by decide) (fun c9 => absurd c9 (by decide)) (fun _ => ?_)
  refine lv_aload_n hx hb dX11_next_9 rfl (lv_at hl 0 rfl) ?_
  have hPc := hP.sub (ws' := [(h0, .inr (10, fs))]) [0] rfl
  have hDc := hD.sub (ws' := [(h0, .inr (10, fs))]) [0] (by decide) rfl
  have hFc := va_free (wc := [(h0, .inr (10, fs))]) hD hS hA [0] rfl
  refine va_calli (va_runV (As := []) (rest := []) ⟨hx, hb, hml, hown, hts⟩ (c_here l dC dI cI cB cL cZ (h0) (fs) H.size gl_fs g_fs_4 g_fs_3) (cwV 0 hts gX11_next_X11_here rfl rfl rfl (by decide +kernel) ⟨Nat.le_of_ble_eq_true rfl, Nat.le_of_ble_eq_true rfl⟩) ⟨cP_fb, va_recv hK hPc (ci := 10) (q0 := 0) rfl rfl, fun U hU hW => cP_pre hPc hK hDc hN U hU hW⟩ rfl rfl hl.1 rfl (lv_room (Nat.le_of_ble_eq_true rfl)) dX11_next_10 ⟨Nat.le_of_ble_eq_true rfl, Nat.le_of_ble_eq_true rfl⟩) hS (fun q _ h => hFc q h) hFc (fun r_296 u t H1 locs ht hvm hw hB hz1 hk1 hS => ?_)
  obtain ⟨hP1, hD1⟩ := hB
  rw [ht] at hP1
  obtain ⟨hP, hD⟩ := va_join (wr := []) (w1 := [(h0, .inr (10, fs))]) hP hD [0] [] rfl rfl (by decide) (by decide) hk1 hFc hP1 hD1
  generalize H1 = H at hP hS ⊢
  have hP : va_P (dC, dI) vwCl [(h0, .inr (10, fs))] H := hP
  have hD : va_D A [(h0, .inr (10, fs))] := hD
  obtain rfl : r_296 = (-1) := hw
  refine lv_bipush (v := 32) hx hb dX11_next_13 (by decide) ?_
  refine lv_icmp_ne (tgt := 31) hx hb dX11_next_15 (by decide) (fun _ => ?_) (fun c9 => absurd (by decide) c9)
  refine lv_aload_n hx hb dX11_next_31 rfl (lv_at hl 0 rfl) ?_
  refine lv_aload_n hx hb dX11_next_32 rfl (lv_at hl 0 rfl) ?_
  refine va_get (D := (dC, dI)) (ci := 10) (v := .int 0) (C := RX11) (T := TX11) (N := 68) hx hb hts iwwsX11_next_11 hown hK hP 0 rfl rfl 4 (by decide) (hts (.fieldLink RX11 127 "NothingJudgeModel" "at" "I") fwwsX11_next_127) (fun _ h9 => h9) g_fs_4 dX11_next_33 ?_
  refine va_put (D := (dC, dI)) (ci := 10) (v := .int 0) (ty := .int) (C := RX11) (T := TX11) (N := 68) hx hb hts iwwsX11_next_11 tyX11 tyX11_ok nmX11 hown hK hP hD hS 0 rfl rfl 5 (by decide) (hts (.fieldLink RX11 137 "NothingJudgeModel" "place" "I") fwwsX11_next_137) (fun _ h9 => h9) rfl (by decide +kernel) rfl rfl (by rw [gl_fs]; decide) dX11_next_36 (fun H locs hP hD hS => ?_)
  obtain ⟨fs_297, efs_297⟩ : ∃ z : List Value, z = fs.set 5 (.int 0) := ⟨_, rfl⟩
  have glfs_297 : fs_297.length = 68 := fs_len efs_297 gl_fs
  have hP : va_P (dC, dI) vwCl [(h0, .inr (10, fs_297))] H := by rw [efs_297]; exact hP
  have hD : va_D A [(h0, .inr (10, fs_297))] := by rw [efs_297]; exact hD
  refine lv_aload_n hx hb dX11_next_39 rfl (lv_at hl 0 rfl) ?_
  have hPc := hP.sub (ws' := [(h0, .inr (10, fs_297))]) [0] rfl
  have hDc := hD.sub (ws' := [(h0, .inr (10, fs_297))]) [0] (by decide) rfl
  have hFc := va_free (wc := [(h0, .inr (10, fs_297))]) hD hS hA [0] rfl
  refine va_calli (va_runV (As := []) (rest := []) ⟨hx, hb, hml, hown, hts⟩ (c_here l dC dI cI cB cL cZ (h0) (fs_297) H.size glfs_297 (fs_ne efs_297 (by decide) g_fs_4) (fs_ne efs_297 (by decide) g_fs_3)) (cwV 0 hts gX11_next_X11_here rfl rfl rfl (by decide +kernel) ⟨Nat.le_of_ble_eq_true rfl, Nat.le_of_ble_eq_true rfl⟩) ⟨cP_fb, va_recv hK hPc (ci := 10) (q0 := 0) rfl rfl, fun U hU hW => cP_pre hPc hK hDc hN U hU hW⟩ rfl rfl hl.1 rfl (lv_room (Nat.le_of_ble_eq_true rfl)) dX11_next_40 ⟨Nat.le_of_ble_eq_true rfl, Nat.le_of_ble_eq_true rfl⟩) hS (fun q _ h => hFc q h) hFc (fun r_298 u t H1 locs ht hvm hw hB hz1 hk1 hS => ?_)
  obtain ⟨hP1, hD1⟩ := hB
  rw [ht] at hP1
  obtain ⟨hP, hD⟩ := va_join (wr := []) (w1 := [(h0, .inr (10, fs_297))]) hP hD [0] [] rfl rfl (by decide) (by decide) hk1 hFc hP1 hD1
  generalize H1 = H at hP hS ⊢
  have hP : va_P (dC, dI) vwCl [(h0, .inr (10, fs_297))] H := hP
  have hD : va_D A [(h0, .inr (10, fs_297))] := hD
  obtain rfl : r_298 = (-1) := hw
  refine lv_istore_n (lv' := [(1, .int (-1)), (0, .ref h0)]) hx hb dX11_next_43 rfl hl (by decide) rfl (fun ls hl => ?_)
  refine lv_iload_n hx hb dX11_next_44 rfl (lv_at hl 0 rfl) ?_
  refine lv_iconst (v := (-1)) hx hb dX11_next_45 (by decide) ?_
  refine lv_icmp_ne (tgt := 57) hx hb dX11_next_46 (by decide) (fun c9 => absurd c9 (by decide)) (fun _ => ?_)
  refine lv_aload_n hx hb dX11_next_49 rfl (lv_at hl 1 rfl) ?_
  refine lv_iconst (v := 4) hx hb dX11_next_50 (by decide) ?_
  refine va_put (D := (dC, dI)) (ci := 10) (v := .int 4) (ty := .int) (C := RX11) (T := TX11) (N := 68) hx hb hts iwwsX11_next_11 tyX11 tyX11_ok nmX11 hown hK hP hD hS 0 rfl rfl 6 (by decide) (hts (.fieldLink RX11 140 "NothingJudgeModel" "sort" "I") fwwsX11_next_140) (fun _ h9 => h9) rfl (by decide +kernel) rfl rfl (by rw [glfs_297]; decide) dX11_next_51 (fun H locs hP hD hS => ?_)
  obtain ⟨fs_299, efs_299⟩ : ∃ z : List Value, z = fs_297.set 6 (.int 4) := ⟨_, rfl⟩
  have glfs_299 : fs_299.length = 68 := fs_len efs_299 glfs_297
  have hP : va_P (dC, dI) vwCl [(h0, .inr (10, fs_299))] H := by rw [efs_299]; exact hP
  have hD : va_D A [(h0, .inr (10, fs_299))] := by rw [efs_299]; exact hD
  refine lv_goto (tgt := 269) hx hb dX11_next_54 (by decide) ?_
  subst efs_299
  subst efs_297
  have hP9 := hP.sub (ws' := [(h0, .inr (10, ((fs.set 5 (.int 0)).set 6 (.int 4))))]) [0] rfl
  have hD9 := hD.sub (ws' := [(h0, .inr (10, ((fs.set 5 (.int 0)).set 6 (.int 4))))]) [0] (by decide) rfl
  exact W.vret hx hb hr (fun t ht hW => ⟨⟨(), rfl, trivial, by rw [ht]; exact hP9, hD9⟩, hS.F ht⟩) hS.2.2 dX11_next_269

set_option maxHeartbeats 4000000 in
set_option maxRecDepth 100000 in
theorem c_enters (l : Launch) (dC : Nat → ClassId) (dI : Nat → Nat → Nat) (cI cB cL cZ : ClassId) (h0 : Nat) (m_ou : Nat) (r : Int32) (fs : List Value) (f : Nat → Int32) (sz : Nat) (gl_fs : fs.length = 68) (g_fs_40 : fs[40]? = some (.ref m_ou)) : Met l yX11_enters wsX11_enters ({ frames := 0, cells := 0, slots := 0, locals := 0 }) (cP (dC, dI) (kTy cI cB cL cZ) [.ref h0, .int r] [(h0, .inr (10, fs)), (m_ou, .inl (cI, 4, .inl f))] sz) (va_Qv (fun _ : Unit => True) (fun (_ : Unit) (t : State) => va_P (dC, dI) vwCl [(h0, .inr (10, (fs.set 39 (.int r))))] t.heap ∧ va_D (va_A [(h0, .inr (10, fs)), (m_ou, .inl (cI, 4, .inl f))] sz) [(h0, .inr (10, (fs.set 39 (.int r))))]) (va_A [(h0, .inr (10, fs)), (m_ou, .inl (cI, 4, .inl f))] sz)) 0 0 (va_A [(h0, .inr (10, fs)), (m_ou, .inl (cI, 4, .inl f))] sz) := by
  refine Met.ofW (cc := cX11_enters) (maxL := 3) (ret := none) (by decide) rfl ?_
  intro p e s m args below meth c s₁ B hml hv
  obtain ⟨rfl, hsz, hP, hK, hD0, hN⟩ := hv
  have hx := B.exec
  have hb := B.bytes
  have hr := B.returns
  have hts := atoms_spec (ws := wsX11_enters) B.pre
  have hown : s.vm.findClass RX11 = some m.cls := findClass_of_methodNamed B.named
  have hlocks := B.notSynchronized
  subst hsz
  have hD := hD0.self (sz := s.heap.size)
  generalize hAe : va_A [(h0, .inr (10, fs)), (m_ou, .inl (cI, 4, .inl f))] s.heap.size = A at hD ⊢
  have hA : ∀ q : Nat, s.heap.size ≤ q → A q := fun q h => by rw [← hAe]; exact Or.inr h
  have hl := lv_entry ([.ref h0, .int r]) (n := 3) (Nat.le_of_ble_eq_true rfl)
  rw [lg_entry_eq]
  generalize (lg_sl ([.ref h0, .int r]) ++ List.replicate (3 - (lg_sl ([.ref h0, .int r])).length) Slot.unset).toArray = ls at hl ⊢
  have hl : lv_has ls 3 [(0, .ref h0), (1, .int r)] := hl
  refine k_H (A := A) hP (fun H hP hS => ?_)
  have hP : va_P (dC, dI) vwCl [(h0, .inr (10, fs)), (m_ou, .inl (cI, 4, .inl f))] H := hP
  have hD : va_D A [(h0, .inr (10, fs)), (m_ou, .inl (cI, 4, .inl f))] := hD
  refine lv_aload_n hx hb dX11_enters_0 rfl (lv_at hl 0 rfl) ?_
  refine lv_iload_n hx hb dX11_enters_1 rfl (lv_at hl 1 rfl) ?_
  refine va_put (D := (dC, dI)) (ci := 10) (v := .int r) (ty := .int) (C := RX11) (T := TX11) (N := 68) hx hb hts iwwsX11_enters_11 tyX11 tyX11_ok nmX11 hown hK hP hD hS 0 rfl rfl 39 (by decide) (hts (.fieldLink RX11 83 "NothingJudgeModel" "entry" "I") fwwsX11_enters_83) (fun _ h9 => h9) rfl (by decide +kernel) rfl rfl (by rw [gl_fs]; decide) dX11_enters_2 (fun H locs hP hD hS => ?_)
  obtain ⟨fs_300, efs_300⟩ : ∃ z : List Value, z = fs.set 39 (.int r) := ⟨_, rfl⟩
  have glfs_300 : fs_300.length = 68 := fs_len efs_300 gl_fs
  have hP : va_P (dC, dI) vwCl [(h0, .inr (10, fs_300)), (m_ou, .inl (cI, 4, .inl f))] H := by rw [efs_300]; exact hP
  have hD : va_D A [(h0, .inr (10, fs_300)), (m_ou, .inl (cI, 4, .inl f))] := by rw [efs_300]; exact hD
  refine lv_iconst (v := 0) hx hb dX11_enters_5 (by decide) ?_
  refine lv_istore_n (lv' := [(2, .int 0), (0, .ref h0), (1, .int r)]) hx hb dX11_enters_6 rfl hl (by decide) rfl (fun ls hl => ?_)
  have hl := lv_sub hl (l' := [(2, .int 0), (0, .ref h0), (1, .int r)]) [0, 1, 2] rfl
  have hl : lv_has ls 3 [(2, .int (nI 0)), (0, .ref h0), (1, .int r)] := by rw [show nI 0 = (0 : Int32) by decide]; exact hl
  refine lp_up (S := (Nat → Int32)) (fun k st => True) (fun st => [(h0, .inr (10, fs_300)), (m_ou, .inl (cI, 4, .inl (st)))]) (fun k st => [(2, .int (nI k)), (0, .ref h0), (1, .int r)]) 7 4 ?_ ?_ 0 (by decide) (f) trivial hP hD hS hl
  · intro f_301 hJ H locs hP hD hS ls hl
    have hP : va_P (dC, dI) vwCl [(h0, .inr (10, fs_300)), (m_ou, .inl (cI, 4, .inl f_301))] H := hP
    have hD : va_D A [(h0, .inr (10, fs_300)), (m_ou, .inl (cI, 4, .inl f_301))] := hD
    have hl : lv_has ls 3 [(2, .int 4), (0, .ref h0), (1, .int r)] := by rw [← show nI 4 = (4 : Int32) by decide]; exact hl
    refine lv_iload_n hx hb dX11_enters_7 rfl (lv_at hl 0 rfl) ?_
    refine lv_iconst (v := 4) hx hb dX11_enters_8 (by decide) ?_
    refine lv_icmp_ge (tgt := 25) hx hb dX11_enters_9 (by decide) (fun _ => ?_) (fun c9 => absurd (by decide) c9)
    subst efs_300
    have hP9 := hP.sub (ws' := [(h0, .inr (10, (fs.set 39 (.int r))))]) [0] rfl
    have hD9 := hD.sub (ws' := [(h0, .inr (10, (fs.set 39 (.int r))))]) [0] (by decide) rfl
    exact W.vret hx hb hr (fun t ht hW => ⟨⟨(), rfl, trivial, by rw [ht]; exact hP9, hD9⟩, hS.F ht⟩) hS.2.2 dX11_enters_25
  · intro k f_302 hk hJ ih H locs hP hD hS ls hl
    have hP : va_P (dC, dI) vwCl [(h0, .inr (10, fs_300)), (m_ou, .inl (cI, 4, .inl f_302))] H := hP
    have hD : va_D A [(h0, .inr (10, fs_300)), (m_ou, .inl (cI, 4, .inl f_302))] := hD
    have hl : lv_has ls 3 [(2, .int (nI k)), (0, .ref h0), (1, .int r)] := hl
    refine lv_iload_n hx hb dX11_enters_7 rfl (lv_at hl 0 rfl) ?_
    refine lv_iconst (v := 4) hx hb dX11_enters_8 (by decide) ?_
    refine lv_icmp_ge (tgt := 25) hx hb dX11_enters_9 (by decide) (fun c9 => absurd c9 (ge_no (N := 4) (by decide) hk (by decide))) (fun _ => ?_)
    refine lv_aload_n hx hb dX11_enters_12 rfl (lv_at hl 1 rfl) ?_
    refine va_get (D := (dC, dI)) (ci := 10) (v := .ref m_ou) (C := RX11) (T := TX11) (N := 68) hx hb hts iwwsX11_enters_11 hown hK hP 0 rfl rfl 40 (by decide) (hts (.fieldLink RX11 86 "NothingJudgeModel" "outers" "[I") fwwsX11_enters_86) (fun _ h9 => h9) (fs_ne efs_300 (by decide) g_fs_40) dX11_enters_13 ?_
    refine lv_iload_n hx hb dX11_enters_16 rfl (lv_at hl 0 rfl) ?_
    refine lv_iconst (v := 3) hx hb dX11_enters_17 (by decide) ?_
    refine va_iast hx hb hK hP hD hS 1 0 rfl rfl (vp_in_nI (by omega) (by decide)) dX11_enters_18 (fun H locs hP hD hS => ?_)
    obtain ⟨f_303, ef_303⟩ : ∃ z, z = upd f_302 (nI k).toNatClampNeg 3 := ⟨_, rfl⟩
    have hP : va_P (dC, dI) vwCl [(h0, .inr (10, fs_300)), (m_ou, .inl (cI, 4, .inl f_303))] H := by rw [ef_303]; exact hP
    have hD : va_D A [(h0, .inr (10, fs_300)), (m_ou, .inl (cI, 4, .inl f_303))] := by rw [ef_303]; exact hD
    obtain ⟨x_304, ex_304⟩ : ∃ z : Int32, z = (nI k) + 1 := ⟨_, rfl⟩
    refine lv_iinc (v := x_304) (lv' := [(2, .int x_304), (0, .ref h0), (1, .int r)]) hx hb dX11_enters_19 hl (k := 0) rfl (by rw [ex_304]; rfl) (by decide) rfl (fun ls hl => ?_)
    refine lv_goto (tgt := 7) hx hb dX11_enters_22 (by decide) ?_
    have hl := lv_sub hl (l' := [(2, .int x_304), (0, .ref h0), (1, .int r)]) [0, 1, 2] rfl
    rw [ex_304, nI_1 k] at hl
    exact ih (f_303) trivial H locs hP hD hS ls hl

set_option maxHeartbeats 4000000 in
set_option maxRecDepth 100000 in
theorem c_rmany (l : Launch) (dC : Nat → ClassId) (dI : Nat → Nat → Nat) (cI cB cL cZ : ClassId) (h0 : Nat) (m_rf : Nat) (fs : List Value) (frf : Nat → Int32) (sz : Nat) (gl_fs : fs.length = 68) (g_fs_19 : fs[19]? = some (.ref m_rf)) (hrf : ∀ j, j < 16 → frf j = -1) : Met l yX11_routinesMany wsX11_routinesMany ({ frames := 0, cells := 0, slots := 0, locals := 0 }) (cP (dC, dI) (kTy cI cB cL cZ) [.ref h0] [(h0, .inr (10, fs)), (m_rf, .inl (cI, 16, .inl frf))] sz) (va_Qi (fun (r : Int32) (_ : Unit) => r = 0) (fun (_ : Unit) (t : State) => va_P (dC, dI) vwCl [(h0, .inr (10, fs))] t.heap ∧ va_D (va_A [(h0, .inr (10, fs)), (m_rf, .inl (cI, 16, .inl frf))] sz) [(h0, .inr (10, fs))]) (va_A [(h0, .inr (10, fs)), (m_rf, .inl (cI, 16, .inl frf))] sz)) 0 0 (va_A [(h0, .inr (10, fs)), (m_rf, .inl (cI, 16, .inl frf))] sz) := by
  refine Met.ofW (cc := cX11_routinesMany) (maxL := 3) (ret := (some .int)) (by decide) rfl ?_
  intro p e s m args below meth c s₁ B hml hv
  obtain ⟨rfl, hsz, hP, hK, hD0, hN⟩ := hv
  have hx := B.exec
  have hb := B.bytes
  have hr := B.returns
  have hts := atoms_spec (ws := wsX11_routinesMany) B.pre
  have hown : s.vm.findClass RX11 = some m.cls := findClass_of_methodNamed B.named
  have hlocks := B.notSynchronized
  subst hsz
  have hD := hD0.self (sz := s.heap.size)
  generalize hAe : va_A [(h0, .inr (10, fs)), (m_rf, .inl (cI, 16, .inl frf))] s.heap.size = A at hD ⊢
  have hA : ∀ q : Nat, s.heap.size ≤ q → A q := fun q h => by rw [← hAe]; exact Or.inr h
  have hl := lv_entry ([.ref h0]) (n := 3) (Nat.le_of_ble_eq_true rfl)
  rw [lg_entry_eq]
  generalize (lg_sl ([.ref h0]) ++ List.replicate (3 - (lg_sl ([.ref h0])).length) Slot.unset).toArray = ls at hl ⊢
  have hl : lv_has ls 3 [(0, .ref h0)] := hl
  refine k_H (A := A) hP (fun H hP hS => ?_)
  have hP : va_P (dC, dI) vwCl [(h0, .inr (10, fs)), (m_rf, .inl (cI, 16, .inl frf))] H := hP
  have hD : va_D A [(h0, .inr (10, fs)), (m_rf, .inl (cI, 16, .inl frf))] := hD
  refine lv_iconst (v := 0) hx hb dX11_routinesMany_0 (by decide) ?_
  refine lv_istore_n (lv' := [(1, .int 0), (0, .ref h0)]) hx hb dX11_routinesMany_1 rfl hl (by decide) rfl (fun ls hl => ?_)
  refine lv_iconst (v := 0) hx hb dX11_routinesMany_2 (by decide) ?_
  refine lv_istore_n (lv' := [(2, .int 0), (1, .int 0), (0, .ref h0)]) hx hb dX11_routinesMany_3 rfl hl (by decide) rfl (fun ls hl => ?_)
  have hl := lv_sub hl (l' := [(2, .int 0), (1, .int 0), (0, .ref h0)]) [0, 1, 2] rfl
  have hl : lv_has ls 3 [(2, .int (nI 0)), (1, .int 0), (0, .ref h0)] := by rw [show nI 0 = (0 : Int32) by decide]; exact hl
  refine lp_up (S := (Nat → Int32)) (fun k st => ∀ j, j < 16 → (st) j = -1) (fun st => [(h0, .inr (10, fs)), (m_rf, .inl (cI, 16, .inl (st)))]) (fun k st => [(2, .int (nI k)), (1, .int 0), (0, .ref h0)]) 4 8 ?_ ?_ 0 (by decide) (frf) hrf hP hD hS hl
  · intro f_305 hJ H locs hP hD hS ls hl
    have hP : va_P (dC, dI) vwCl [(h0, .inr (10, fs)), (m_rf, .inl (cI, 16, .inl f_305))] H := hP
    have hD : va_D A [(h0, .inr (10, fs)), (m_rf, .inl (cI, 16, .inl f_305))] := hD
    have hl : lv_has ls 3 [(2, .int 8), (1, .int 0), (0, .ref h0)] := by rw [← show nI 8 = (8 : Int32) by decide]; exact hl
    refine lv_iload_n hx hb dX11_routinesMany_4 rfl (lv_at hl 0 rfl) ?_
    refine lv_bipush (v := 8) hx hb dX11_routinesMany_5 (by decide) ?_
    refine lv_icmp_ge (tgt := 34) hx hb dX11_routinesMany_7 (by decide) (fun _ => ?_) (fun c9 => absurd (by decide) c9)
    refine lv_iload_n hx hb dX11_routinesMany_34 rfl (lv_at hl 1 rfl) ?_
    have hP9 := hP.sub (ws' := [(h0, .inr (10, fs))]) [0] rfl
    have hD9 := hD.sub (ws' := [(h0, .inr (10, fs))]) [0] (by decide) rfl
    exact W.iret (v := 0) hx hb hr (fun t ht hW => ⟨⟨0, (), rfl, rfl, by rw [ht]; exact hP9, hD9⟩, hS.F ht⟩) hS.2.2 dX11_routinesMany_35
  · intro k f_306 hk hJ ih H locs hP hD hS ls hl
    have hP : va_P (dC, dI) vwCl [(h0, .inr (10, fs)), (m_rf, .inl (cI, 16, .inl f_306))] H := hP
    have hD : va_D A [(h0, .inr (10, fs)), (m_rf, .inl (cI, 16, .inl f_306))] := hD
    have hl : lv_has ls 3 [(2, .int (nI k)), (1, .int 0), (0, .ref h0)] := hl
    refine lv_iload_n hx hb dX11_routinesMany_4 rfl (lv_at hl 0 rfl) ?_
    refine lv_bipush (v := 8) hx hb dX11_routinesMany_5 (by decide) ?_
    refine lv_icmp_ge (tgt := 34) hx hb dX11_routinesMany_7 (by decide) (fun c9 => absurd c9 (ge_no (N := 8) (by decide) hk (by decide))) (fun _ => ?_)
    refine lv_iload_n hx hb dX11_routinesMany_10 rfl (lv_at hl 1 rfl) ?_
    refine lv_aload_n hx hb dX11_routinesMany_11 rfl (lv_at hl 2 rfl) ?_
    refine va_get (D := (dC, dI)) (ci := 10) (v := .ref m_rf) (C := RX11) (T := TX11) (N := 68) hx hb hts iwwsX11_routinesMany_11 hown hK hP 0 rfl rfl 19 (by decide) (hts (.fieldLink RX11 32 "NothingJudgeModel" "routineFrom" "[I") fwwsX11_routinesMany_32) (fun _ h9 => h9) g_fs_19 dX11_routinesMany_12 ?_
    refine lv_iload_n hx hb dX11_routinesMany_15 rfl (lv_at hl 0 rfl) ?_
    refine va_iald hx hb hK hP 1 0 rfl rfl (vp_in_nI (by omega) (by decide)) dX11_routinesMany_16 ?_
    refine lv_topi (fun y_307 ey_307 => ?_)
    obtain rfl : y_307 = (-1) := ey_307.trans (hJ _ (by rw [nI_clamp (by omega)]; omega))
    refine lv_iconst (v := (-1)) hx hb dX11_routinesMany_17 (by decide) ?_
    refine lv_icmp_ne (tgt := 25) hx hb dX11_routinesMany_18 (by decide) (fun c9 => absurd c9 (by decide)) (fun _ => ?_)
    refine lv_iconst (v := 0) hx hb dX11_routinesMany_21 (by decide) ?_
    refine lv_goto (tgt := 26) hx hb dX11_routinesMany_22 (by decide) ?_
    refine lv_iadd hx hb dX11_routinesMany_26 ?_
    refine lv_topi (fun y_308 ey_308 => ?_)
    obtain rfl : y_308 = 0 := ey_308.trans (by decide)
    refine lv_istore_n (lv' := [(1, .int 0), (2, .int (nI k)), (0, .ref h0)]) hx hb dX11_routinesMany_27 rfl hl (by decide) rfl (fun ls hl => ?_)
    obtain ⟨x_309, ex_309⟩ : ∃ z : Int32, z = (nI k) + 1 := ⟨_, rfl⟩
    refine lv_iinc (v := x_309) (lv' := [(2, .int x_309), (1, .int 0), (0, .ref h0)]) hx hb dX11_routinesMany_28 hl (k := 1) rfl (by rw [ex_309]; rfl) (by decide) rfl (fun ls hl => ?_)
    refine lv_goto (tgt := 4) hx hb dX11_routinesMany_31 (by decide) ?_
    have hl := lv_sub hl (l' := [(2, .int x_309), (1, .int 0), (0, .ref h0)]) [0, 1, 2] rfl
    rw [ex_309, nI_1 k] at hl
    exact ih (f_306) hJ H locs hP hD hS ls hl

set_option maxHeartbeats 4000000 in
set_option maxRecDepth 100000 in
theorem c_frees (l : Launch) (dC : Nat → ClassId) (dI : Nat → Nat → Nat) (cI cB cL cZ : ClassId) (h0 : Nat) (m_ih : Nat) (fs : List Value) (f : Nat → Int32) (sz : Nat) (gl_fs : fs.length = 68) (g_fs_43 : fs[43]? = some (.ref m_ih)) : Met l yX11_frees wsX11_frees ({ frames := 0, cells := 0, slots := 0, locals := 0 }) (cP (dC, dI) (kTy cI cB cL cZ) [.ref h0] [(h0, .inr (10, fs)), (m_ih, .inl (cZ, 42, .inl f))] sz) (va_Qv (fun _ : Unit => True) (fun (_ : Unit) (t : State) => va_P (dC, dI) vwCl [(h0, .inr (10, fs))] t.heap ∧ va_D (va_A [(h0, .inr (10, fs)), (m_ih, .inl (cZ, 42, .inl f))] sz) [(h0, .inr (10, fs))]) (va_A [(h0, .inr (10, fs)), (m_ih, .inl (cZ, 42, .inl f))] sz)) 0 0 (va_A [(h0, .inr (10, fs)), (m_ih, .inl (cZ, 42, .inl f))] sz) := by
  refine Met.ofW (cc := cX11_frees) (maxL := 2) (ret := none) (by decide) rfl ?_
  intro p e s m args below meth c s₁ B hml hv
  obtain ⟨rfl, hsz, hP, hK, hD0, hN⟩ := hv
  have hx := B.exec
  have hb := B.bytes
  have hr := B.returns
  have hts := atoms_spec (ws := wsX11_frees) B.pre
  have hown : s.vm.findClass RX11 = some m.cls := findClass_of_methodNamed B.named
  have hlocks := B.notSynchronized
  subst hsz
  have hD := hD0.self (sz := s.heap.size)
  generalize hAe : va_A [(h0, .inr (10, fs)), (m_ih, .inl (cZ, 42, .inl f))] s.heap.size = A at hD ⊢
  have hA : ∀ q : Nat, s.heap.size ≤ q → A q := fun q h => by rw [← hAe]; exact Or.inr h
  have hl := lv_entry ([.ref h0]) (n := 2) (Nat.le_of_ble_eq_true rfl)
  rw [lg_entry_eq]
  generalize (lg_sl ([.ref h0]) ++ List.replicate (2 - (lg_sl ([.ref h0])).length) Slot.unset).toArray = ls at hl ⊢
  have hl : lv_has ls 2 [(0, .ref h0)] := hl
  refine k_H (A := A) hP (fun H hP hS => ?_)
  have hP : va_P (dC, dI) vwCl [(h0, .inr (10, fs)), (m_ih, .inl (cZ, 42, .inl f))] H := hP
  have hD : va_D A [(h0, .inr (10, fs)), (m_ih, .inl (cZ, 42, .inl f))] := hD
  refine lv_iconst (v := 0) hx hb dX11_frees_0 (by decide) ?_
  refine lv_istore_n (lv' := [(1, .int 0), (0, .ref h0)]) hx hb dX11_frees_1 rfl hl (by decide) rfl (fun ls hl => ?_)
  have hl := lv_sub hl (l' := [(1, .int 0), (0, .ref h0)]) [0, 1] rfl
  have hl : lv_has ls 2 [(1, .int (nI 0)), (0, .ref h0)] := by rw [show nI 0 = (0 : Int32) by decide]; exact hl
  refine lp_up (S := (Nat → Int32)) (fun k st => True) (fun st => [(h0, .inr (10, fs)), (m_ih, .inl (cZ, 42, .inl (st)))]) (fun k st => [(1, .int (nI k)), (0, .ref h0)]) 2 42 ?_ ?_ 0 (by decide) (f) trivial hP hD hS hl
  · intro f_310 hJ H locs hP hD hS ls hl
    have hP : va_P (dC, dI) vwCl [(h0, .inr (10, fs)), (m_ih, .inl (cZ, 42, .inl f_310))] H := hP
    have hD : va_D A [(h0, .inr (10, fs)), (m_ih, .inl (cZ, 42, .inl f_310))] := hD
    have hl : lv_has ls 2 [(1, .int 42), (0, .ref h0)] := by rw [← show nI 42 = (42 : Int32) by decide]; exact hl
    refine lv_iload_n hx hb dX11_frees_2 rfl (lv_at hl 0 rfl) ?_
    refine lv_bipush (v := 42) hx hb dX11_frees_3 (by decide) ?_
    refine lv_icmp_ge (tgt := 21) hx hb dX11_frees_5 (by decide) (fun _ => ?_) (fun c9 => absurd (by decide) c9)
    have hP9 := hP.sub (ws' := [(h0, .inr (10, fs))]) [0] rfl
    have hD9 := hD.sub (ws' := [(h0, .inr (10, fs))]) [0] (by decide) rfl
    exact W.vret hx hb hr (fun t ht hW => ⟨⟨(), rfl, trivial, by rw [ht]; exact hP9, hD9⟩, hS.F ht⟩) hS.2.2 dX11_frees_21
  · intro k f_311 hk hJ ih H locs hP hD hS ls hl
    have hP : va_P (dC, dI) vwCl [(h0, .inr (10, fs)), (m_ih, .inl (cZ, 42, .inl f_311))] H := hP
    have hD : va_D A [(h0, .inr (10, fs)), (m_ih, .inl (cZ, 42, .inl f_311))] := hD
    have hl : lv_has ls 2 [(1, .int (nI k)), (0, .ref h0)] := hl
    refine lv_iload_n hx hb dX11_frees_2 rfl (lv_at hl 0 rfl) ?_
    refine lv_bipush (v := 42) hx hb dX11_frees_3 (by decide) ?_
    refine lv_icmp_ge (tgt := 21) hx hb dX11_frees_5 (by decide) (fun c9 => absurd c9 (ge_no (N := 42) (by decide) hk (by decide))) (fun _ => ?_)
    refine lv_aload_n hx hb dX11_frees_8 rfl (lv_at hl 1 rfl) ?_
    refine va_get (D := (dC, dI)) (ci := 10) (v := .ref m_ih) (C := RX11) (T := TX11) (N := 68) hx hb hts iwwsX11_frees_11 hown hK hP 0 rfl rfl 43 (by decide) (hts (.fieldLink RX11 96 "NothingJudgeModel" "isHeld" "[Z") fwwsX11_frees_96) (fun _ h9 => h9) g_fs_43 dX11_frees_9 ?_
    refine lv_iload_n hx hb dX11_frees_12 rfl (lv_at hl 0 rfl) ?_
    refine lv_iconst (v := 0) hx hb dX11_frees_13 (by decide) ?_
    refine va_zast hx hb hK hP hD hS 1 3 rfl rfl (vp_in_nI (by omega) (by decide)) dX11_frees_14 (fun H locs hP hD hS => ?_)
    obtain ⟨f_312, ef_312⟩ : ∃ z, z = upd f_311 (nI k).toNatClampNeg (vp_nar .boolean 0) := ⟨_, rfl⟩
    have hP : va_P (dC, dI) vwCl [(h0, .inr (10, fs)), (m_ih, .inl (cZ, 42, .inl f_312))] H := by rw [ef_312]; exact hP
    have hD : va_D A [(h0, .inr (10, fs)), (m_ih, .inl (cZ, 42, .inl f_312))] := by rw [ef_312]; exact hD
    obtain ⟨x_313, ex_313⟩ : ∃ z : Int32, z = (nI k) + 1 := ⟨_, rfl⟩
    refine lv_iinc (v := x_313) (lv' := [(1, .int x_313), (0, .ref h0)]) hx hb dX11_frees_15 hl (k := 0) rfl (by rw [ex_313]; rfl) (by decide) rfl (fun ls hl => ?_)
    refine lv_goto (tgt := 2) hx hb dX11_frees_18 (by decide) ?_
    have hl := lv_sub hl (l' := [(1, .int x_313), (0, .ref h0)]) [0, 1] rfl
    rw [ex_313, nI_1 k] at hl
    exact ih (f_312) trivial H locs hP hD hS ls hl

set_option maxHeartbeats 4000000 in
set_option maxRecDepth 100000 in
theorem c_reckons (l : Launch) (dC : Nat → ClassId) (dI : Nat → Nat → Nat) (cI cB cL cZ : ClassId) (h0 : Nat) (m_mk : Nat) (m_td : Nat) (fs : List Value) (f1 : Nat → Int32) (f2 : Nat → Int32) (sz : Nat) (gl_fs : fs.length = 68) (g_fs_42 : fs[42]? = some (.ref m_mk)) (g_fs_44 : fs[44]? = some (.ref m_td)) (g_fs_18 : fs[18]? = some (.int 0)) (g_fs_39 : fs[39]? = some (.int (-1))) : Met l yX11_reckons wsX11_reckons ({ frames := 0, cells := 0, slots := 0, locals := 0 }) (cP (dC, dI) (kTy cI cB cL cZ) [.ref h0] [(h0, .inr (10, fs)), (m_mk, .inl (cI, 42, .inl f1)), (m_td, .inl (cI, 25, .inl f2))] sz) (va_Qv (fun _ : Unit => True) (fun (_ : Unit) (t : State) => ∃ fz0 : Nat → Int32, (∀ j, j < 42 → fz0 j = 0) ∧ va_P (dC, dI) vwCl [(h0, .inr (10, (fs.set 45 (.int 0)))), (m_mk, .inl (cI, 42, .inl fz0))] t.heap ∧ va_D (va_A [(h0, .inr (10, fs)), (m_mk, .inl (cI, 42, .inl f1)), (m_td, .inl (cI, 25, .inl f2))] sz) [(h0, .inr (10, (fs.set 45 (.int 0)))), (m_mk, .inl (cI, 42, .inl fz0))]) (va_A [(h0, .inr (10, fs)), (m_mk, .inl (cI, 42, .inl f1)), (m_td, .inl (cI, 25, .inl f2))] sz)) 0 0 (va_A [(h0, .inr (10, fs)), (m_mk, .inl (cI, 42, .inl f1)), (m_td, .inl (cI, 25, .inl f2))] sz) := by
  refine Met.ofW (cc := cX11_reckons) (maxL := 2) (ret := none) (by decide) rfl ?_
  intro p e s m args below meth c s₁ B hml hv
  obtain ⟨rfl, hsz, hP, hK, hD0, hN⟩ := hv
  have hx := B.exec
  have hb := B.bytes
  have hr := B.returns
  have hts := atoms_spec (ws := wsX11_reckons) B.pre
  have hown : s.vm.findClass RX11 = some m.cls := findClass_of_methodNamed B.named
  have hlocks := B.notSynchronized
  subst hsz
  have hD := hD0.self (sz := s.heap.size)
  generalize hAe : va_A [(h0, .inr (10, fs)), (m_mk, .inl (cI, 42, .inl f1)), (m_td, .inl (cI, 25, .inl f2))] s.heap.size = A at hD ⊢
  have hA : ∀ q : Nat, s.heap.size ≤ q → A q := fun q h => by rw [← hAe]; exact Or.inr h
  have hl := lv_entry ([.ref h0]) (n := 2) (Nat.le_of_ble_eq_true rfl)
  rw [lg_entry_eq]
  generalize (lg_sl ([.ref h0]) ++ List.replicate (2 - (lg_sl ([.ref h0])).length) Slot.unset).toArray = ls at hl ⊢
  have hl : lv_has ls 2 [(0, .ref h0)] := hl
  refine k_H (A := A) hP (fun H hP hS => ?_)
  have hP : va_P (dC, dI) vwCl [(h0, .inr (10, fs)), (m_mk, .inl (cI, 42, .inl f1)), (m_td, .inl (cI, 25, .inl f2))] H := hP
  have hD : va_D A [(h0, .inr (10, fs)), (m_mk, .inl (cI, 42, .inl f1)), (m_td, .inl (cI, 25, .inl f2))] := hD
  refine lv_iconst (v := 0) hx hb dX11_reckons_0 (by decide) ?_
  refine lv_istore_n (lv' := [(1, .int 0), (0, .ref h0)]) hx hb dX11_reckons_1 rfl hl (by decide) rfl (fun ls hl => ?_)
  refine lv_iload_n hx hb dX11_reckons_2 rfl (lv_at hl 0 rfl) ?_
  refine lv_aload_n hx hb dX11_reckons_3 rfl (lv_at hl 1 rfl) ?_
  refine va_get (D := (dC, dI)) (ci := 10) (v := .int 0) (C := RX11) (T := TX11) (N := 68) hx hb hts iwwsX11_reckons_11 hown hK hP 0 rfl rfl 18 (by decide) (hts (.fieldLink RX11 251 "NothingJudgeModel" "actMany" "I") fwwsX11_reckons_251) (fun _ h9 => h9) g_fs_18 dX11_reckons_4 ?_
  refine lv_icmp_ge (tgt := 23) hx hb dX11_reckons_7 (by decide) (fun _ => ?_) (fun c9 => absurd (by decide) c9)
  refine lv_iconst (v := 0) hx hb dX11_reckons_23 (by decide) ?_
  refine lv_istore_n (lv' := [(1, .int 0), (0, .ref h0)]) hx hb dX11_reckons_24 rfl hl (by decide) rfl (fun ls hl => ?_)
  have hl := lv_sub hl (l' := [(1, .int 0), (0, .ref h0)]) [0, 1] rfl
  have hl : lv_has ls 2 [(1, .int (nI 0)), (0, .ref h0)] := by rw [show nI 0 = (0 : Int32) by decide]; exact hl
  refine lp_up (S := (Nat → Int32)) (fun k st => ∀ j, j < k → (st) j = 0) (fun st => [(h0, .inr (10, fs)), (m_mk, .inl (cI, 42, .inl (st))), (m_td, .inl (cI, 25, .inl f2))]) (fun k st => [(1, .int (nI k)), (0, .ref h0)]) 25 42 ?_ ?_ 0 (by decide) (f1) (fun j hj => absurd hj (Nat.not_lt_zero j)) hP hD hS hl
  · intro f_314 hJ H locs hP hD hS ls hl
    have hP : va_P (dC, dI) vwCl [(h0, .inr (10, fs)), (m_mk, .inl (cI, 42, .inl f_314)), (m_td, .inl (cI, 25, .inl f2))] H := hP
    have hD : va_D A [(h0, .inr (10, fs)), (m_mk, .inl (cI, 42, .inl f_314)), (m_td, .inl (cI, 25, .inl f2))] := hD
    have hl : lv_has ls 2 [(1, .int 42), (0, .ref h0)] := by rw [← show nI 42 = (42 : Int32) by decide]; exact hl
    have hJm := hJ
    refine lv_iload_n hx hb dX11_reckons_25 rfl (lv_at hl 0 rfl) ?_
    refine lv_bipush (v := 42) hx hb dX11_reckons_26 (by decide) ?_
    refine lv_icmp_ge (tgt := 44) hx hb dX11_reckons_28 (by decide) (fun _ => ?_) (fun c9 => absurd (by decide) c9)
    refine lv_iconst (v := 0) hx hb dX11_reckons_44 (by decide) ?_
    refine lv_istore_n (lv' := [(1, .int 0), (0, .ref h0)]) hx hb dX11_reckons_45 rfl hl (by decide) rfl (fun ls hl => ?_)
    have hl := lv_sub hl (l' := [(1, .int 0), (0, .ref h0)]) [0, 1] rfl
    have hl : lv_has ls 2 [(1, .int (nI 0)), (0, .ref h0)] := by rw [show nI 0 = (0 : Int32) by decide]; exact hl
    refine lp_up (S := (Nat → Int32)) (fun k st => True) (fun st => [(h0, .inr (10, fs)), (m_mk, .inl (cI, 42, .inl f_314)), (m_td, .inl (cI, 25, .inl (st)))]) (fun k st => [(1, .int (nI k)), (0, .ref h0)]) 46 25 ?_ ?_ 0 (by decide) (f2) trivial hP hD hS hl
    · intro f_315 hJ H locs hP hD hS ls hl
      have hP : va_P (dC, dI) vwCl [(h0, .inr (10, fs)), (m_mk, .inl (cI, 42, .inl f_314)), (m_td, .inl (cI, 25, .inl f_315))] H := hP
      have hD : va_D A [(h0, .inr (10, fs)), (m_mk, .inl (cI, 42, .inl f_314)), (m_td, .inl (cI, 25, .inl f_315))] := hD
      have hl : lv_has ls 2 [(1, .int 25), (0, .ref h0)] := by rw [← show nI 25 = (25 : Int32) by decide]; exact hl
      refine lv_iload_n hx hb dX11_reckons_46 rfl (lv_at hl 0 rfl) ?_
      refine lv_bipush (v := 25) hx hb dX11_reckons_47 (by decide) ?_
      refine lv_icmp_ge (tgt := 65) hx hb dX11_reckons_49 (by decide) (fun _ => ?_) (fun c9 => absurd (by decide) c9)
      refine lv_aload_n hx hb dX11_reckons_65 rfl (lv_at hl 1 rfl) ?_
      refine lv_aload_n hx hb dX11_reckons_66 rfl (lv_at hl 1 rfl) ?_
      refine va_get (D := (dC, dI)) (ci := 10) (v := .int (-1)) (C := RX11) (T := TX11) (N := 68) hx hb hts iwwsX11_reckons_11 hown hK hP 0 rfl rfl 39 (by decide) (hts (.fieldLink RX11 83 "NothingJudgeModel" "entry" "I") fwwsX11_reckons_83) (fun _ h9 => h9) g_fs_39 dX11_reckons_67 ?_
      refine lv_iconst (v := (-1)) hx hb dX11_reckons_70 (by decide) ?_
      refine lv_icmp_eq (tgt := 78) hx hb dX11_reckons_71 (by decide) (fun _ => ?_) (fun c9 => absurd (by decide) c9)
      refine lv_iconst (v := 0) hx hb dX11_reckons_78 (by decide) ?_
      refine va_put (D := (dC, dI)) (ci := 10) (v := .int 0) (ty := .boolean) (C := RX11) (T := TX11) (N := 68) hx hb hts iwwsX11_reckons_11 tyX11 tyX11_ok nmX11 hown hK hP hD hS 0 rfl rfl 45 (by decide) (hts (.fieldLink RX11 261 "NothingJudgeModel" "isMore" "Z") fwwsX11_reckons_261) (fun _ h9 => h9) rfl (by decide +kernel) rfl rfl (by rw [gl_fs]; decide) dX11_reckons_79 (fun H locs hP hD hS => ?_)
      obtain ⟨fs_316, efs_316⟩ : ∃ z : List Value, z = fs.set 45 (.int 0) := ⟨_, rfl⟩
      have glfs_316 : fs_316.length = 68 := fs_len efs_316 gl_fs
      have hP : va_P (dC, dI) vwCl [(h0, .inr (10, fs_316)), (m_mk, .inl (cI, 42, .inl f_314)), (m_td, .inl (cI, 25, .inl f_315))] H := by rw [efs_316]; exact hP
      have hD : va_D A [(h0, .inr (10, fs_316)), (m_mk, .inl (cI, 42, .inl f_314)), (m_td, .inl (cI, 25, .inl f_315))] := by rw [efs_316]; exact hD
      refine lv_aload_n hx hb dX11_reckons_82 rfl (lv_at hl 1 rfl) ?_
      refine va_get (D := (dC, dI)) (ci := 10) (v := .int 0) (C := RX11) (T := TX11) (N := 68) hx hb hts iwwsX11_reckons_11 hown hK hP 0 rfl rfl 45 (by decide) (hts (.fieldLink RX11 261 "NothingJudgeModel" "isMore" "Z") fwwsX11_reckons_261) (fun _ h9 => h9) (fs_eq efs_316 (by rw [gl_fs]; decide)) dX11_reckons_83 ?_
      refine lv_if_eq (tgt := 197) hx hb dX11_reckons_86 (by decide) (fun _ => ?_) (fun c9 => absurd (by decide) c9)
      subst efs_316
      have hP9 := hP.sub (ws' := [(h0, .inr (10, (fs.set 45 (.int 0)))), (m_mk, .inl (cI, 42, .inl f_314))]) [0, 1] rfl
      have hD9 := hD.sub (ws' := [(h0, .inr (10, (fs.set 45 (.int 0)))), (m_mk, .inl (cI, 42, .inl f_314))]) [0, 1] (by decide) rfl
      exact W.vret hx hb hr (fun t ht hW => ⟨⟨(), rfl, trivial, f_314, hJm, by rw [ht]; exact hP9, hD9⟩, hS.F ht⟩) hS.2.2 dX11_reckons_197
    · intro k f_317 hk hJ ih H locs hP hD hS ls hl
      have hP : va_P (dC, dI) vwCl [(h0, .inr (10, fs)), (m_mk, .inl (cI, 42, .inl f_314)), (m_td, .inl (cI, 25, .inl f_317))] H := hP
      have hD : va_D A [(h0, .inr (10, fs)), (m_mk, .inl (cI, 42, .inl f_314)), (m_td, .inl (cI, 25, .inl f_317))] := hD
      have hl : lv_has ls 2 [(1, .int (nI k)), (0, .ref h0)] := hl
      refine lv_iload_n hx hb dX11_reckons_46 rfl (lv_at hl 0 rfl) ?_
      refine lv_bipush (v := 25) hx hb dX11_reckons_47 (by decide) ?_
      refine lv_icmp_ge (tgt := 65) hx hb dX11_reckons_49 (by decide) (fun c9 => absurd c9 (ge_no (N := 25) (by decide) hk (by decide))) (fun _ => ?_)
      refine lv_aload_n hx hb dX11_reckons_52 rfl (lv_at hl 1 rfl) ?_
      refine va_get (D := (dC, dI)) (ci := 10) (v := .ref m_td) (C := RX11) (T := TX11) (N := 68) hx hb hts iwwsX11_reckons_11 hown hK hP 0 rfl rfl 44 (by decide) (hts (.fieldLink RX11 100 "NothingJudgeModel" "tested" "[I") fwwsX11_reckons_100) (fun _ h9 => h9) g_fs_44 dX11_reckons_53 ?_
      refine lv_iload_n hx hb dX11_reckons_56 rfl (lv_at hl 0 rfl) ?_
      refine lv_iconst (v := 0) hx hb dX11_reckons_57 (by decide) ?_
      refine va_iast hx hb hK hP hD hS 2 0 rfl rfl (vp_in_nI (by omega) (by decide)) dX11_reckons_58 (fun H locs hP hD hS => ?_)
      obtain ⟨f_318, ef_318⟩ : ∃ z, z = upd f_317 (nI k).toNatClampNeg 0 := ⟨_, rfl⟩
      have hP : va_P (dC, dI) vwCl [(h0, .inr (10, fs)), (m_mk, .inl (cI, 42, .inl f_314)), (m_td, .inl (cI, 25, .inl f_318))] H := by rw [ef_318]; exact hP
      have hD : va_D A [(h0, .inr (10, fs)), (m_mk, .inl (cI, 42, .inl f_314)), (m_td, .inl (cI, 25, .inl f_318))] := by rw [ef_318]; exact hD
      obtain ⟨x_319, ex_319⟩ : ∃ z : Int32, z = (nI k) + 1 := ⟨_, rfl⟩
      refine lv_iinc (v := x_319) (lv' := [(1, .int x_319), (0, .ref h0)]) hx hb dX11_reckons_59 hl (k := 0) rfl (by rw [ex_319]; rfl) (by decide) rfl (fun ls hl => ?_)
      refine lv_goto (tgt := 46) hx hb dX11_reckons_62 (by decide) ?_
      have hl := lv_sub hl (l' := [(1, .int x_319), (0, .ref h0)]) [0, 1] rfl
      rw [ex_319, nI_1 k] at hl
      exact ih (f_318) trivial H locs hP hD hS ls hl
  · intro k f_320 hk hJ ih H locs hP hD hS ls hl
    have hP : va_P (dC, dI) vwCl [(h0, .inr (10, fs)), (m_mk, .inl (cI, 42, .inl f_320)), (m_td, .inl (cI, 25, .inl f2))] H := hP
    have hD : va_D A [(h0, .inr (10, fs)), (m_mk, .inl (cI, 42, .inl f_320)), (m_td, .inl (cI, 25, .inl f2))] := hD
    have hl : lv_has ls 2 [(1, .int (nI k)), (0, .ref h0)] := hl
    refine lv_iload_n hx hb dX11_reckons_25 rfl (lv_at hl 0 rfl) ?_
    refine lv_bipush (v := 42) hx hb dX11_reckons_26 (by decide) ?_
    refine lv_icmp_ge (tgt := 44) hx hb dX11_reckons_28 (by decide) (fun c9 => absurd c9 (ge_no (N := 42) (by decide) hk (by decide))) (fun _ => ?_)
    refine lv_aload_n hx hb dX11_reckons_31 rfl (lv_at hl 1 rfl) ?_
    refine va_get (D := (dC, dI)) (ci := 10) (v := .ref m_mk) (C := RX11) (T := TX11) (N := 68) hx hb hts iwwsX11_reckons_11 hown hK hP 0 rfl rfl 42 (by decide) (hts (.fieldLink RX11 93 "NothingJudgeModel" "marks" "[I") fwwsX11_reckons_93) (fun _ h9 => h9) g_fs_42 dX11_reckons_32 ?_
    refine lv_iload_n hx hb dX11_reckons_35 rfl (lv_at hl 0 rfl) ?_
    refine lv_iconst (v := 0) hx hb dX11_reckons_36 (by decide) ?_
    refine va_iast hx hb hK hP hD hS 1 0 rfl rfl (vp_in_nI (by omega) (by decide)) dX11_reckons_37 (fun H locs hP hD hS => ?_)
    obtain ⟨f_321, ef_321⟩ : ∃ z, z = upd f_320 (nI k).toNatClampNeg 0 := ⟨_, rfl⟩
    have hP : va_P (dC, dI) vwCl [(h0, .inr (10, fs)), (m_mk, .inl (cI, 42, .inl f_321)), (m_td, .inl (cI, 25, .inl f2))] H := by rw [ef_321]; exact hP
    have hD : va_D A [(h0, .inr (10, fs)), (m_mk, .inl (cI, 42, .inl f_321)), (m_td, .inl (cI, 25, .inl f2))] := by rw [ef_321]; exact hD
    obtain ⟨x_322, ex_322⟩ : ∃ z : Int32, z = (nI k) + 1 := ⟨_, rfl⟩
    refine lv_iinc (v := x_322) (lv' := [(1, .int x_322), (0, .ref h0)]) hx hb dX11_reckons_38 hl (k := 0) rfl (by rw [ex_322]; rfl) (by decide) rfl (fun ls hl => ?_)
    refine lv_goto (tgt := 25) hx hb dX11_reckons_41 (by decide) ?_
    have hl := lv_sub hl (l' := [(1, .int x_322), (0, .ref h0)]) [0, 1] rfl
    rw [ex_322, nI_1 k] at hl
    exact ih (f_321) (up_fill ef_321 (by omega) hJ) H locs hP hD hS ls hl

set_option maxHeartbeats 4000000 in
set_option maxRecDepth 100000 in
theorem m_fault (l : Launch) (dC : Nat → ClassId) (dI : Nat → Nat → Nat) (cI cB cL cZ : ClassId) (h0 : Nat) (w : Int32) (fs : List Value) (sz : Nat) (gl_fs : fs.length = 68) (g_fs_10 : fs[10]? = some (.int 0)) (g_fs_11 : fs[11]? = some (.int (-1))) : Met l yX11_fault wsX11_fault ({ frames := 0, cells := 0, slots := 0, locals := 0 }) (cP (dC, dI) (kTy cI cB cL cZ) [.ref h0, .int w] [(h0, .inr (10, fs))] sz) (va_Qi (fun (r : Int32) (_ : Unit) => r = (if w = 0 then (0 : Int32) else -1)) (fun (_ : Unit) (t : State) => va_P (dC, dI) vwCl [] t.heap ∧ va_D (va_A [(h0, .inr (10, fs))] sz) []) (va_A [(h0, .inr (10, fs))] sz)) 0 0 (va_A [(h0, .inr (10, fs))] sz) := by
  refine Met.ofW (cc := cX11_fault) (maxL := 2) (ret := (some .int)) (by decide) rfl ?_
  intro p e s m args below meth c s₁ B hml hv
  obtain ⟨rfl, hsz, hP, hK, hD0, hN⟩ := hv
  have hx := B.exec
  have hb := B.bytes
  have hr := B.returns
  have hts := atoms_spec (ws := wsX11_fault) B.pre
  have hown : s.vm.findClass RX11 = some m.cls := findClass_of_methodNamed B.named
  have hlocks := B.notSynchronized
  subst hsz
  have hD := hD0.self (sz := s.heap.size)
  generalize hAe : va_A [(h0, .inr (10, fs))] s.heap.size = A at hD ⊢
  have hA : ∀ q : Nat, s.heap.size ≤ q → A q := fun q h => by rw [← hAe]; exact Or.inr h
  have hl := lv_entry ([.ref h0, .int w]) (n := 2) (Nat.le_of_ble_eq_true rfl)
  rw [lg_entry_eq]
  generalize (lg_sl ([.ref h0, .int w]) ++ List.replicate (2 - (lg_sl ([.ref h0, .int w])).length) Slot.unset).toArray = ls at hl ⊢
  have hl : lv_has ls 2 [(0, .ref h0), (1, .int w)] := hl
  refine k_H (A := A) hP (fun H hP hS => ?_)
  have hP : va_P (dC, dI) vwCl [(h0, .inr (10, fs))] H := hP
  have hD : va_D A [(h0, .inr (10, fs))] := hD
  refine lv_aload_n hx hb dX11_fault_0 rfl (lv_at hl 0 rfl) ?_
  refine lv_iconst (v := 0) hx hb dX11_fault_1 (by decide) ?_
  refine va_put (D := (dC, dI)) (ci := 10) (v := .int 0) (ty := .int) (C := RX11) (T := TX11) (N := 68) hx hb hts iwwsX11_fault_11 tyX11 tyX11_ok nmX11 hown hK hP hD hS 0 rfl rfl 0 (by decide) (hts (.fieldLink RX11 121 "NothingJudgeModel" "thrown" "I") fwwsX11_fault_121) (fun _ h9 => h9) rfl (by decide +kernel) rfl rfl (by rw [gl_fs]; decide) dX11_fault_2 (fun H locs hP hD hS => ?_)
  obtain ⟨fs_323, efs_323⟩ : ∃ z : List Value, z = fs.set 0 (.int 0) := ⟨_, rfl⟩
  have glfs_323 : fs_323.length = 68 := fs_len efs_323 gl_fs
  have hP : va_P (dC, dI) vwCl [(h0, .inr (10, fs_323))] H := by rw [efs_323]; exact hP
  have hD : va_D A [(h0, .inr (10, fs_323))] := by rw [efs_323]; exact hD
  refine lv_iload_n hx hb dX11_fault_5 rfl (lv_at hl 1 rfl) ?_
  refine lv_if_ne (tgt := 16) hx hb dX11_fault_6 (by decide) (fun c_324 => ?_) (fun c_324 => ?_)
  · refine lv_iload_n hx hb dX11_fault_16 rfl (lv_at hl 1 rfl) ?_
    refine lv_iconst (v := 1) hx hb dX11_fault_17 (by decide) ?_
    refine lv_icmp_ne (tgt := 28) hx hb dX11_fault_18 (by decide) (fun c_325 => ?_) (fun c_325 => ?_)
    · refine lv_iconst (v := (-1)) hx hb dX11_fault_28 (by decide) ?_
      subst efs_323
      have hP9 := hP.sub (ws' := []) [] rfl
      have hD9 := hD.sub (ws' := []) [] (by decide) rfl
      exact W.iret (v := (-1)) hx hb hr (fun t ht hW => ⟨⟨(-1), (), rfl, (by first | (rw [if_pos (by assumption)]) | (rw [if_neg (by assumption)])), by rw [ht]; exact hP9, hD9⟩, hS.F ht⟩) hS.2.2 dX11_fault_29
    · refine lv_aload_n hx hb dX11_fault_21 rfl (lv_at hl 0 rfl) ?_
      refine va_get (D := (dC, dI)) (ci := 10) (v := .int (-1)) (C := RX11) (T := TX11) (N := 68) hx hb hts iwwsX11_fault_11 hown hK hP 0 rfl rfl 11 (by decide) (hts (.fieldLink RX11 13 "NothingJudgeModel" "lastPlace" "I") fwwsX11_fault_13) (fun _ h9 => h9) (fs_ne efs_323 (by decide) g_fs_11) dX11_fault_22 ?_
      refine lv_goto (tgt := 29) hx hb dX11_fault_25 (by decide) ?_
      subst efs_323
      have hP9 := hP.sub (ws' := []) [] rfl
      have hD9 := hD.sub (ws' := []) [] (by decide) rfl
      exact W.iret (v := (-1)) hx hb hr (fun t ht hW => ⟨⟨(-1), (), rfl, (by first | (rw [if_pos (by assumption)]) | (rw [if_neg (by assumption)])), by rw [ht]; exact hP9, hD9⟩, hS.F ht⟩) hS.2.2 dX11_fault_29
  · refine lv_aload_n hx hb dX11_fault_9 rfl (lv_at hl 0 rfl) ?_
    refine va_get (D := (dC, dI)) (ci := 10) (v := .int 0) (C := RX11) (T := TX11) (N := 68) hx hb hts iwwsX11_fault_11 hown hK hP 0 rfl rfl 10 (by decide) (hts (.fieldLink RX11 242 "NothingJudgeModel" "lastFault" "I") fwwsX11_fault_242) (fun _ h9 => h9) (fs_ne efs_323 (by decide) g_fs_10) dX11_fault_10 ?_
    refine lv_goto (tgt := 29) hx hb dX11_fault_13 (by decide) ?_
    subst efs_323
    have hP9 := hP.sub (ws' := []) [] rfl
    have hD9 := hD.sub (ws' := []) [] (by decide) rfl
    exact W.iret (v := 0) hx hb hr (fun t ht hW => ⟨⟨0, (), rfl, (by first | (rw [if_pos (by assumption)]) | (rw [if_neg (by assumption)])), by rw [ht]; exact hP9, hD9⟩, hS.F ht⟩) hS.2.2 dX11_fault_29

set_option maxHeartbeats 4000000 in
set_option maxRecDepth 100000 in
theorem m_entry (l : Launch) (dC : Nat → ClassId) (dI : Nat → Nat → Nat) (cI cB cL cZ : ClassId) (h0 : Nat) (m_rf : Nat) (r : Int32) (fs : List Value) (frf : Nat → Int32) (sz : Nat) (gl_fs : fs.length = 68) (g_fs_19 : fs[19]? = some (.ref m_rf)) (hrf : ∀ j, j < 16 → frf j = -1) : Met l yX11_entry wsX11_entry ({ frames := 0, cells := 0, slots := 0, locals := 0 }) (cP (dC, dI) (kTy cI cB cL cZ) [.ref h0, .int r] [(h0, .inr (10, fs)), (m_rf, .inl (cI, 16, .inl frf))] sz) (va_Qi (fun (r : Int32) (_ : Unit) => r = 0) (fun (_ : Unit) (t : State) => va_P (dC, dI) vwCl [] t.heap ∧ va_D (va_A [(h0, .inr (10, fs)), (m_rf, .inl (cI, 16, .inl frf))] sz) []) (va_A [(h0, .inr (10, fs)), (m_rf, .inl (cI, 16, .inl frf))] sz)) 0 0 (va_A [(h0, .inr (10, fs)), (m_rf, .inl (cI, 16, .inl frf))] sz) := by
  refine Met.ofW (cc := cX11_entry) (maxL := 2) (ret := (some .boolean)) (by decide) rfl ?_
  intro p e s m args below meth c s₁ B hml hv
  obtain ⟨rfl, hsz, hP, hK, hD0, hN⟩ := hv
  have hx := B.exec
  have hb := B.bytes
  have hr := B.returns
  have hts := atoms_spec (ws := wsX11_entry) B.pre
  have hown : s.vm.findClass RX11 = some m.cls := findClass_of_methodNamed B.named
  have hlocks := B.notSynchronized
  subst hsz
  have hD := hD0.self (sz := s.heap.size)
  generalize hAe : va_A [(h0, .inr (10, fs)), (m_rf, .inl (cI, 16, .inl frf))] s.heap.size = A at hD ⊢
  have hA : ∀ q : Nat, s.heap.size ≤ q → A q := fun q h => by rw [← hAe]; exact Or.inr h
  have hl := lv_entry ([.ref h0, .int r]) (n := 2) (Nat.le_of_ble_eq_true rfl)
  rw [lg_entry_eq]
  generalize (lg_sl ([.ref h0, .int r]) ++ List.replicate (2 - (lg_sl ([.ref h0, .int r])).length) Slot.unset).toArray = ls at hl ⊢
  have hl : lv_has ls 2 [(0, .ref h0), (1, .int r)] := hl
  refine k_H (A := A) hP (fun H hP hS => ?_)
  have hP : va_P (dC, dI) vwCl [(h0, .inr (10, fs)), (m_rf, .inl (cI, 16, .inl frf))] H := hP
  have hD : va_D A [(h0, .inr (10, fs)), (m_rf, .inl (cI, 16, .inl frf))] := hD
  refine lv_aload_n hx hb dX11_entry_0 rfl (lv_at hl 0 rfl) ?_
  refine lv_iconst (v := 0) hx hb dX11_entry_1 (by decide) ?_
  refine va_put (D := (dC, dI)) (ci := 10) (v := .int 0) (ty := .int) (C := RX11) (T := TX11) (N := 68) hx hb hts iwwsX11_entry_11 tyX11 tyX11_ok nmX11 hown hK hP hD hS 0 rfl rfl 0 (by decide) (hts (.fieldLink RX11 121 "NothingJudgeModel" "thrown" "I") fwwsX11_entry_121) (fun _ h9 => h9) rfl (by decide +kernel) rfl rfl (by rw [gl_fs]; decide) dX11_entry_2 (fun H locs hP hD hS => ?_)
  obtain ⟨fs_326, efs_326⟩ : ∃ z : List Value, z = fs.set 0 (.int 0) := ⟨_, rfl⟩
  have glfs_326 : fs_326.length = 68 := fs_len efs_326 gl_fs
  have hP : va_P (dC, dI) vwCl [(h0, .inr (10, fs_326)), (m_rf, .inl (cI, 16, .inl frf))] H := by rw [efs_326]; exact hP
  have hD : va_D A [(h0, .inr (10, fs_326)), (m_rf, .inl (cI, 16, .inl frf))] := by rw [efs_326]; exact hD
  refine lv_iload_n hx hb dX11_entry_5 rfl (lv_at hl 1 rfl) ?_
  refine lv_if_lt (tgt := 25) hx hb dX11_entry_6 (by decide) (fun c_327 => ?_) (fun c_327 => ?_)
  · refine lv_iconst (v := 0) hx hb dX11_entry_25 (by decide) ?_
    subst efs_326
    have hP9 := hP.sub (ws' := []) [] rfl
    have hD9 := hD.sub (ws' := []) [] (by decide) rfl
    exact W.zret (v := 0) (ty := .boolean) hx hb hr rfl (fun t ht hW => ⟨⟨0, (), rfl, rfl, by rw [ht]; exact hP9, hD9⟩, hS.F ht⟩) hS.2.2 dX11_entry_26
  · refine lv_iload_n hx hb dX11_entry_9 rfl (lv_at hl 1 rfl) ?_
    refine lv_bipush (v := 7) hx hb dX11_entry_10 (by decide) ?_
    refine lv_icmp_gt (tgt := 25) hx hb dX11_entry_12 (by decide) (fun c_328 => ?_) (fun c_328 => ?_)
    · refine lv_iconst (v := 0) hx hb dX11_entry_25 (by decide) ?_
      subst efs_326
      have hP9 := hP.sub (ws' := []) [] rfl
      have hD9 := hD.sub (ws' := []) [] (by decide) rfl
      exact W.zret (v := 0) (ty := .boolean) hx hb hr rfl (fun t ht hW => ⟨⟨0, (), rfl, rfl, by rw [ht]; exact hP9, hD9⟩, hS.F ht⟩) hS.2.2 dX11_entry_26
    · refine lv_aload_n hx hb dX11_entry_15 rfl (lv_at hl 0 rfl) ?_
      refine va_get (D := (dC, dI)) (ci := 10) (v := .ref m_rf) (C := RX11) (T := TX11) (N := 68) hx hb hts iwwsX11_entry_11 hown hK hP 0 rfl rfl 19 (by decide) (hts (.fieldLink RX11 32 "NothingJudgeModel" "routineFrom" "[I") fwwsX11_entry_32) (fun _ h9 => h9) (fs_ne efs_326 (by decide) g_fs_19) dX11_entry_16 ?_
      refine lv_iload_n hx hb dX11_entry_19 rfl (lv_at hl 1 rfl) ?_
      refine va_iald hx hb hK hP 1 0 rfl rfl (in_of (y := 16) (by decide) c_327 (fun h9 => c_328 (Int32.lt_of_lt_of_le (by decide) h9)) (by decide)) dX11_entry_20 ?_
      refine lv_topi (fun y_329 ey_329 => ?_)
      obtain rfl : y_329 = (-1) := ey_329.trans (hrf _ (cl_of (y := 16) (by decide) c_327 (fun h9 => c_328 (Int32.lt_of_lt_of_le (by decide) h9))))
      refine lv_iconst (v := (-1)) hx hb dX11_entry_21 (by decide) ?_
      refine lv_icmp_ne (tgt := 27) hx hb dX11_entry_22 (by decide) (fun c9 => absurd c9 (by decide)) (fun _ => ?_)
      refine lv_iconst (v := 0) hx hb dX11_entry_25 (by decide) ?_
      subst efs_326
      have hP9 := hP.sub (ws' := []) [] rfl
      have hD9 := hD.sub (ws' := []) [] (by decide) rfl
      exact W.zret (v := 0) (ty := .boolean) hx hb hr rfl (fun t ht hW => ⟨⟨0, (), rfl, rfl, by rw [ht]; exact hP9, hD9⟩, hS.F ht⟩) hS.2.2 dX11_entry_26

set_option maxHeartbeats 4000000 in
set_option maxRecDepth 100000 in
theorem m_outer (l : Launch) (dC : Nat → ClassId) (dI : Nat → Nat → Nat) (cI cB cL cZ : ClassId) (h0 : Nat) (a : Int32) (b : Int32) (fs : List Value) (sz : Nat) (gl_fs : fs.length = 68) (g_fs_39 : fs[39]? = some (.int (-1))) : Met l yX11_outer wsX11_outer ({ frames := 0, cells := 0, slots := 0, locals := 0 }) (cP (dC, dI) (kTy cI cB cL cZ) [.ref h0, .int a, .int b] [(h0, .inr (10, fs))] sz) (va_Qi (fun (r : Int32) (_ : Unit) => r = 0) (fun (_ : Unit) (t : State) => va_P (dC, dI) vwCl [] t.heap ∧ va_D (va_A [(h0, .inr (10, fs))] sz) []) (va_A [(h0, .inr (10, fs))] sz)) 0 0 (va_A [(h0, .inr (10, fs))] sz) := by
  refine Met.ofW (cc := cX11_outer) (maxL := 3) (ret := (some .boolean)) (by decide) rfl ?_
  intro p e s m args below meth c s₁ B hml hv
  obtain ⟨rfl, hsz, hP, hK, hD0, hN⟩ := hv
  have hx := B.exec
  have hb := B.bytes
  have hr := B.returns
  have hts := atoms_spec (ws := wsX11_outer) B.pre
  have hown : s.vm.findClass RX11 = some m.cls := findClass_of_methodNamed B.named
  have hlocks := B.notSynchronized
  subst hsz
  have hD := hD0.self (sz := s.heap.size)
  generalize hAe : va_A [(h0, .inr (10, fs))] s.heap.size = A at hD ⊢
  have hA : ∀ q : Nat, s.heap.size ≤ q → A q := fun q h => by rw [← hAe]; exact Or.inr h
  have hl := lv_entry ([.ref h0, .int a, .int b]) (n := 3) (Nat.le_of_ble_eq_true rfl)
  rw [lg_entry_eq]
  generalize (lg_sl ([.ref h0, .int a, .int b]) ++ List.replicate (3 - (lg_sl ([.ref h0, .int a, .int b])).length) Slot.unset).toArray = ls at hl ⊢
  have hl : lv_has ls 3 [(0, .ref h0), (1, .int a), (2, .int b)] := hl
  refine k_H (A := A) hP (fun H hP hS => ?_)
  have hP : va_P (dC, dI) vwCl [(h0, .inr (10, fs))] H := hP
  have hD : va_D A [(h0, .inr (10, fs))] := hD
  refine lv_aload_n hx hb dX11_outer_0 rfl (lv_at hl 0 rfl) ?_
  refine lv_iconst (v := 0) hx hb dX11_outer_1 (by decide) ?_
  refine va_put (D := (dC, dI)) (ci := 10) (v := .int 0) (ty := .int) (C := RX11) (T := TX11) (N := 68) hx hb hts iwwsX11_outer_11 tyX11 tyX11_ok nmX11 hown hK hP hD hS 0 rfl rfl 0 (by decide) (hts (.fieldLink RX11 121 "NothingJudgeModel" "thrown" "I") fwwsX11_outer_121) (fun _ h9 => h9) rfl (by decide +kernel) rfl rfl (by rw [gl_fs]; decide) dX11_outer_2 (fun H locs hP hD hS => ?_)
  obtain ⟨fs_330, efs_330⟩ : ∃ z : List Value, z = fs.set 0 (.int 0) := ⟨_, rfl⟩
  have glfs_330 : fs_330.length = 68 := fs_len efs_330 gl_fs
  have hP : va_P (dC, dI) vwCl [(h0, .inr (10, fs_330))] H := by rw [efs_330]; exact hP
  have hD : va_D A [(h0, .inr (10, fs_330))] := by rw [efs_330]; exact hD
  refine lv_aload_n hx hb dX11_outer_5 rfl (lv_at hl 0 rfl) ?_
  refine va_get (D := (dC, dI)) (ci := 10) (v := .int (-1)) (C := RX11) (T := TX11) (N := 68) hx hb hts iwwsX11_outer_11 hown hK hP 0 rfl rfl 39 (by decide) (hts (.fieldLink RX11 83 "NothingJudgeModel" "entry" "I") fwwsX11_outer_83) (fun _ h9 => h9) (fs_ne efs_330 (by decide) g_fs_39) dX11_outer_6 ?_
  refine lv_iconst (v := (-1)) hx hb dX11_outer_9 (by decide) ?_
  refine lv_icmp_eq (tgt := 40) hx hb dX11_outer_10 (by decide) (fun _ => ?_) (fun c9 => absurd (by decide) c9)
  refine lv_iconst (v := 0) hx hb dX11_outer_40 (by decide) ?_
  subst efs_330
  have hP9 := hP.sub (ws' := []) [] rfl
  have hD9 := hD.sub (ws' := []) [] (by decide) rfl
  exact W.zret (v := 0) (ty := .boolean) hx hb hr rfl (fun t ht hW => ⟨⟨0, (), rfl, rfl, by rw [ht]; exact hP9, hD9⟩, hS.F ht⟩) hS.2.2 dX11_outer_41

set_option maxHeartbeats 4000000 in
set_option maxRecDepth 100000 in
theorem m_use (l : Launch) (dC : Nat → ClassId) (dI : Nat → Nat → Nat) (cI cB cL cZ : ClassId) (h0 : Nat) (m_um : Nat) (a : Int32) (b : Int32) (fs : List Value) (fu : Nat → Int32) (sz : Nat) (gl_fs : fs.length = 68) (g_fs_26 : fs[26]? = some (.ref m_um)) (hu : fu ((0 : Int32).toNatClampNeg) = 0) : Met l yX11_use wsX11_use ({ frames := 0, cells := 0, slots := 0, locals := 0 }) (cP (dC, dI) (kTy cI cB cL cZ) [.ref h0, .int a, .int b] [(h0, .inr (10, fs)), (m_um, .inl (cI, 2, .inl fu))] sz) (va_Qi (fun (r : Int32) (_ : Unit) => r = -1) (fun (_ : Unit) (t : State) => va_P (dC, dI) vwCl [] t.heap ∧ va_D (va_A [(h0, .inr (10, fs)), (m_um, .inl (cI, 2, .inl fu))] sz) []) (va_A [(h0, .inr (10, fs)), (m_um, .inl (cI, 2, .inl fu))] sz)) 0 0 (va_A [(h0, .inr (10, fs)), (m_um, .inl (cI, 2, .inl fu))] sz) := by
  refine Met.ofW (cc := cX11_use) (maxL := 3) (ret := (some .int)) (by decide) rfl ?_
  intro p e s m args below meth c s₁ B hml hv
  obtain ⟨rfl, hsz, hP, hK, hD0, hN⟩ := hv
  have hx := B.exec
  have hb := B.bytes
  have hr := B.returns
  have hts := atoms_spec (ws := wsX11_use) B.pre
  have hown : s.vm.findClass RX11 = some m.cls := findClass_of_methodNamed B.named
  have hlocks := B.notSynchronized
  subst hsz
  have hD := hD0.self (sz := s.heap.size)
  generalize hAe : va_A [(h0, .inr (10, fs)), (m_um, .inl (cI, 2, .inl fu))] s.heap.size = A at hD ⊢
  have hA : ∀ q : Nat, s.heap.size ≤ q → A q := fun q h => by rw [← hAe]; exact Or.inr h
  have hl := lv_entry ([.ref h0, .int a, .int b]) (n := 3) (Nat.le_of_ble_eq_true rfl)
  rw [lg_entry_eq]
  generalize (lg_sl ([.ref h0, .int a, .int b]) ++ List.replicate (3 - (lg_sl ([.ref h0, .int a, .int b])).length) Slot.unset).toArray = ls at hl ⊢
  have hl : lv_has ls 3 [(0, .ref h0), (1, .int a), (2, .int b)] := hl
  refine k_H (A := A) hP (fun H hP hS => ?_)
  have hP : va_P (dC, dI) vwCl [(h0, .inr (10, fs)), (m_um, .inl (cI, 2, .inl fu))] H := hP
  have hD : va_D A [(h0, .inr (10, fs)), (m_um, .inl (cI, 2, .inl fu))] := hD
  refine lv_aload_n hx hb dX11_use_0 rfl (lv_at hl 0 rfl) ?_
  refine lv_iconst (v := 0) hx hb dX11_use_1 (by decide) ?_
  refine va_put (D := (dC, dI)) (ci := 10) (v := .int 0) (ty := .int) (C := RX11) (T := TX11) (N := 68) hx hb hts iwwsX11_use_11 tyX11 tyX11_ok nmX11 hown hK hP hD hS 0 rfl rfl 0 (by decide) (hts (.fieldLink RX11 121 "NothingJudgeModel" "thrown" "I") fwwsX11_use_121) (fun _ h9 => h9) rfl (by decide +kernel) rfl rfl (by rw [gl_fs]; decide) dX11_use_2 (fun H locs hP hD hS => ?_)
  obtain ⟨fs_331, efs_331⟩ : ∃ z : List Value, z = fs.set 0 (.int 0) := ⟨_, rfl⟩
  have glfs_331 : fs_331.length = 68 := fs_len efs_331 gl_fs
  have hP : va_P (dC, dI) vwCl [(h0, .inr (10, fs_331)), (m_um, .inl (cI, 2, .inl fu))] H := by rw [efs_331]; exact hP
  have hD : va_D A [(h0, .inr (10, fs_331)), (m_um, .inl (cI, 2, .inl fu))] := by rw [efs_331]; exact hD
  refine lv_iload_n hx hb dX11_use_5 rfl (lv_at hl 1 rfl) ?_
  refine lv_if_lt (tgt := 19) hx hb dX11_use_6 (by decide) (fun c_332 => ?_) (fun c_332 => ?_)
  · refine lv_iconst (v := (-1)) hx hb dX11_use_19 (by decide) ?_
    subst efs_331
    have hP9 := hP.sub (ws' := []) [] rfl
    have hD9 := hD.sub (ws' := []) [] (by decide) rfl
    exact W.iret (v := (-1)) hx hb hr (fun t ht hW => ⟨⟨(-1), (), rfl, rfl, by rw [ht]; exact hP9, hD9⟩, hS.F ht⟩) hS.2.2 dX11_use_20
  · refine lv_iload_n hx hb dX11_use_9 rfl (lv_at hl 1 rfl) ?_
    refine lv_aload_n hx hb dX11_use_10 rfl (lv_at hl 0 rfl) ?_
    refine va_get (D := (dC, dI)) (ci := 10) (v := .ref m_um) (C := RX11) (T := TX11) (N := 68) hx hb hts iwwsX11_use_11 hown hK hP 0 rfl rfl 26 (by decide) (hts (.fieldLink RX11 53 "NothingJudgeModel" "useMany" "[I") fwwsX11_use_53) (fun _ h9 => h9) (fs_ne efs_331 (by decide) g_fs_26) dX11_use_11 ?_
    refine lv_iconst (v := 0) hx hb dX11_use_14 (by decide) ?_
    refine va_iald hx hb hK hP 1 0 rfl rfl (by unfold vp_in; decide) dX11_use_15 ?_
    refine lv_topi (fun y_333 ey_333 => ?_)
    obtain rfl : y_333 = 0 := ey_333.trans hu
    refine lv_icmp_lt (tgt := 21) hx hb dX11_use_16 (by decide) (fun c9 => absurd c9 c_332) (fun _ => ?_)
    refine lv_iconst (v := (-1)) hx hb dX11_use_19 (by decide) ?_
    subst efs_331
    have hP9 := hP.sub (ws' := []) [] rfl
    have hD9 := hD.sub (ws' := []) [] (by decide) rfl
    exact W.iret (v := (-1)) hx hb hr (fun t ht hW => ⟨⟨(-1), (), rfl, rfl, by rw [ht]; exact hP9, hD9⟩, hS.F ht⟩) hS.2.2 dX11_use_20

set_option maxHeartbeats 4000000 in
set_option maxRecDepth 100000 in
theorem m_test (l : Launch) (dC : Nat → ClassId) (dI : Nat → Nat → Nat) (cI cB cL cZ : ClassId) (h0 : Nat) (m_tm : Nat) (a : Int32) (b : Int32) (fs : List Value) (fu : Nat → Int32) (sz : Nat) (gl_fs : fs.length = 68) (g_fs_29 : fs[29]? = some (.ref m_tm)) (hu : fu ((0 : Int32).toNatClampNeg) = 0) : Met l yX11_test wsX11_test ({ frames := 0, cells := 0, slots := 0, locals := 0 }) (cP (dC, dI) (kTy cI cB cL cZ) [.ref h0, .int a, .int b] [(h0, .inr (10, fs)), (m_tm, .inl (cI, 2, .inl fu))] sz) (va_Qi (fun (r : Int32) (_ : Unit) => r = -1) (fun (_ : Unit) (t : State) => va_P (dC, dI) vwCl [] t.heap ∧ va_D (va_A [(h0, .inr (10, fs)), (m_tm, .inl (cI, 2, .inl fu))] sz) []) (va_A [(h0, .inr (10, fs)), (m_tm, .inl (cI, 2, .inl fu))] sz)) 0 0 (va_A [(h0, .inr (10, fs)), (m_tm, .inl (cI, 2, .inl fu))] sz) := by
  refine Met.ofW (cc := cX11_test) (maxL := 3) (ret := (some .int)) (by decide) rfl ?_
  intro p e s m args below meth c s₁ B hml hv
  obtain ⟨rfl, hsz, hP, hK, hD0, hN⟩ := hv
  have hx := B.exec
  have hb := B.bytes
  have hr := B.returns
  have hts := atoms_spec (ws := wsX11_test) B.pre
  have hown : s.vm.findClass RX11 = some m.cls := findClass_of_methodNamed B.named
  have hlocks := B.notSynchronized
  subst hsz
  have hD := hD0.self (sz := s.heap.size)
  generalize hAe : va_A [(h0, .inr (10, fs)), (m_tm, .inl (cI, 2, .inl fu))] s.heap.size = A at hD ⊢
  have hA : ∀ q : Nat, s.heap.size ≤ q → A q := fun q h => by rw [← hAe]; exact Or.inr h
  have hl := lv_entry ([.ref h0, .int a, .int b]) (n := 3) (Nat.le_of_ble_eq_true rfl)
  rw [lg_entry_eq]
  generalize (lg_sl ([.ref h0, .int a, .int b]) ++ List.replicate (3 - (lg_sl ([.ref h0, .int a, .int b])).length) Slot.unset).toArray = ls at hl ⊢
  have hl : lv_has ls 3 [(0, .ref h0), (1, .int a), (2, .int b)] := hl
  refine k_H (A := A) hP (fun H hP hS => ?_)
  have hP : va_P (dC, dI) vwCl [(h0, .inr (10, fs)), (m_tm, .inl (cI, 2, .inl fu))] H := hP
  have hD : va_D A [(h0, .inr (10, fs)), (m_tm, .inl (cI, 2, .inl fu))] := hD
  refine lv_aload_n hx hb dX11_test_0 rfl (lv_at hl 0 rfl) ?_
  refine lv_iconst (v := 0) hx hb dX11_test_1 (by decide) ?_
  refine va_put (D := (dC, dI)) (ci := 10) (v := .int 0) (ty := .int) (C := RX11) (T := TX11) (N := 68) hx hb hts iwwsX11_test_11 tyX11 tyX11_ok nmX11 hown hK hP hD hS 0 rfl rfl 0 (by decide) (hts (.fieldLink RX11 121 "NothingJudgeModel" "thrown" "I") fwwsX11_test_121) (fun _ h9 => h9) rfl (by decide +kernel) rfl rfl (by rw [gl_fs]; decide) dX11_test_2 (fun H locs hP hD hS => ?_)
  obtain ⟨fs_334, efs_334⟩ : ∃ z : List Value, z = fs.set 0 (.int 0) := ⟨_, rfl⟩
  have glfs_334 : fs_334.length = 68 := fs_len efs_334 gl_fs
  have hP : va_P (dC, dI) vwCl [(h0, .inr (10, fs_334)), (m_tm, .inl (cI, 2, .inl fu))] H := by rw [efs_334]; exact hP
  have hD : va_D A [(h0, .inr (10, fs_334)), (m_tm, .inl (cI, 2, .inl fu))] := by rw [efs_334]; exact hD
  refine lv_iload_n hx hb dX11_test_5 rfl (lv_at hl 1 rfl) ?_
  refine lv_if_lt (tgt := 19) hx hb dX11_test_6 (by decide) (fun c_335 => ?_) (fun c_335 => ?_)
  · refine lv_iconst (v := (-1)) hx hb dX11_test_19 (by decide) ?_
    subst efs_334
    have hP9 := hP.sub (ws' := []) [] rfl
    have hD9 := hD.sub (ws' := []) [] (by decide) rfl
    exact W.iret (v := (-1)) hx hb hr (fun t ht hW => ⟨⟨(-1), (), rfl, rfl, by rw [ht]; exact hP9, hD9⟩, hS.F ht⟩) hS.2.2 dX11_test_20
  · refine lv_iload_n hx hb dX11_test_9 rfl (lv_at hl 1 rfl) ?_
    refine lv_aload_n hx hb dX11_test_10 rfl (lv_at hl 0 rfl) ?_
    refine va_get (D := (dC, dI)) (ci := 10) (v := .ref m_tm) (C := RX11) (T := TX11) (N := 68) hx hb hts iwwsX11_test_11 hown hK hP 0 rfl rfl 29 (by decide) (hts (.fieldLink RX11 62 "NothingJudgeModel" "testMany" "[I") fwwsX11_test_62) (fun _ h9 => h9) (fs_ne efs_334 (by decide) g_fs_29) dX11_test_11 ?_
    refine lv_iconst (v := 0) hx hb dX11_test_14 (by decide) ?_
    refine va_iald hx hb hK hP 1 0 rfl rfl (by unfold vp_in; decide) dX11_test_15 ?_
    refine lv_topi (fun y_336 ey_336 => ?_)
    obtain rfl : y_336 = 0 := ey_336.trans hu
    refine lv_icmp_lt (tgt := 21) hx hb dX11_test_16 (by decide) (fun c9 => absurd c9 c_335) (fun _ => ?_)
    refine lv_iconst (v := (-1)) hx hb dX11_test_19 (by decide) ?_
    subst efs_334
    have hP9 := hP.sub (ws' := []) [] rfl
    have hD9 := hD.sub (ws' := []) [] (by decide) rfl
    exact W.iret (v := (-1)) hx hb hr (fun t ht hW => ⟨⟨(-1), (), rfl, rfl, by rw [ht]; exact hP9, hD9⟩, hS.F ht⟩) hS.2.2 dX11_test_20

set_option maxHeartbeats 4000000 in
set_option maxRecDepth 100000 in
theorem m_tries (l : Launch) (dC : Nat → ClassId) (dI : Nat → Nat → Nat) (cI cB cL cZ : ClassId) (h0 : Nat) (m_um : Nat) (a : Int32) (fs : List Value) (fu : Nat → Int32) (sz : Nat) (gl_fs : fs.length = 68) (g_fs_26 : fs[26]? = some (.ref m_um)) (hu : fu ((0 : Int32).toNatClampNeg) = 0) : Met l yX11_tries wsX11_tries ({ frames := 0, cells := 0, slots := 0, locals := 0 }) (cP (dC, dI) (kTy cI cB cL cZ) [.ref h0, .int a] [(h0, .inr (10, fs)), (m_um, .inl (cI, 2, .inl fu))] sz) (va_Qi (fun (r : Int32) (_ : Unit) => r = -1) (fun (_ : Unit) (t : State) => va_P (dC, dI) vwCl [] t.heap ∧ va_D (va_A [(h0, .inr (10, fs)), (m_um, .inl (cI, 2, .inl fu))] sz) []) (va_A [(h0, .inr (10, fs)), (m_um, .inl (cI, 2, .inl fu))] sz)) 0 0 (va_A [(h0, .inr (10, fs)), (m_um, .inl (cI, 2, .inl fu))] sz) := by
  refine Met.ofW (cc := cX11_tries) (maxL := 4) (ret := (some .int)) (by decide) rfl ?_
  intro p e s m args below meth c s₁ B hml hv
  obtain ⟨rfl, hsz, hP, hK, hD0, hN⟩ := hv
  have hx := B.exec
  have hb := B.bytes
  have hr := B.returns
  have hts := atoms_spec (ws := wsX11_tries) B.pre
  have hown : s.vm.findClass RX11 = some m.cls := findClass_of_methodNamed B.named
  have hlocks := B.notSynchronized
  subst hsz
  have hD := hD0.self (sz := s.heap.size)
  generalize hAe : va_A [(h0, .inr (10, fs)), (m_um, .inl (cI, 2, .inl fu))] s.heap.size = A at hD ⊢
  have hA : ∀ q : Nat, s.heap.size ≤ q → A q := fun q h => by rw [← hAe]; exact Or.inr h
  have hl := lv_entry ([.ref h0, .int a]) (n := 4) (Nat.le_of_ble_eq_true rfl)
  rw [lg_entry_eq]
  generalize (lg_sl ([.ref h0, .int a]) ++ List.replicate (4 - (lg_sl ([.ref h0, .int a])).length) Slot.unset).toArray = ls at hl ⊢
  have hl : lv_has ls 4 [(0, .ref h0), (1, .int a)] := hl
  refine k_H (A := A) hP (fun H hP hS => ?_)
  have hP : va_P (dC, dI) vwCl [(h0, .inr (10, fs)), (m_um, .inl (cI, 2, .inl fu))] H := hP
  have hD : va_D A [(h0, .inr (10, fs)), (m_um, .inl (cI, 2, .inl fu))] := hD
  refine lv_aload_n hx hb dX11_tries_0 rfl (lv_at hl 0 rfl) ?_
  refine lv_iconst (v := 0) hx hb dX11_tries_1 (by decide) ?_
  refine va_put (D := (dC, dI)) (ci := 10) (v := .int 0) (ty := .int) (C := RX11) (T := TX11) (N := 68) hx hb hts iwwsX11_tries_11 tyX11 tyX11_ok nmX11 hown hK hP hD hS 0 rfl rfl 0 (by decide) (hts (.fieldLink RX11 121 "NothingJudgeModel" "thrown" "I") fwwsX11_tries_121) (fun _ h9 => h9) rfl (by decide +kernel) rfl rfl (by rw [gl_fs]; decide) dX11_tries_2 (fun H locs hP hD hS => ?_)
  obtain ⟨fs_337, efs_337⟩ : ∃ z : List Value, z = fs.set 0 (.int 0) := ⟨_, rfl⟩
  have glfs_337 : fs_337.length = 68 := fs_len efs_337 gl_fs
  have hP : va_P (dC, dI) vwCl [(h0, .inr (10, fs_337)), (m_um, .inl (cI, 2, .inl fu))] H := by rw [efs_337]; exact hP
  have hD : va_D A [(h0, .inr (10, fs_337)), (m_um, .inl (cI, 2, .inl fu))] := by rw [efs_337]; exact hD
  refine lv_iload_n hx hb dX11_tries_5 rfl (lv_at hl 1 rfl) ?_
  refine lv_if_lt (tgt := 19) hx hb dX11_tries_6 (by decide) (fun c_338 => ?_) (fun c_338 => ?_)
  · refine lv_iconst (v := (-1)) hx hb dX11_tries_19 (by decide) ?_
    subst efs_337
    have hP9 := hP.sub (ws' := []) [] rfl
    have hD9 := hD.sub (ws' := []) [] (by decide) rfl
    exact W.iret (v := (-1)) hx hb hr (fun t ht hW => ⟨⟨(-1), (), rfl, rfl, by rw [ht]; exact hP9, hD9⟩, hS.F ht⟩) hS.2.2 dX11_tries_20
  · refine lv_iload_n hx hb dX11_tries_9 rfl (lv_at hl 1 rfl) ?_
    refine lv_aload_n hx hb dX11_tries_10 rfl (lv_at hl 0 rfl) ?_
    refine va_get (D := (dC, dI)) (ci := 10) (v := .ref m_um) (C := RX11) (T := TX11) (N := 68) hx hb hts iwwsX11_tries_11 hown hK hP 0 rfl rfl 26 (by decide) (hts (.fieldLink RX11 53 "NothingJudgeModel" "useMany" "[I") fwwsX11_tries_53) (fun _ h9 => h9) (fs_ne efs_337 (by decide) g_fs_26) dX11_tries_11 ?_
    refine lv_iconst (v := 0) hx hb dX11_tries_14 (by decide) ?_
    refine va_iald hx hb hK hP 1 0 rfl rfl (by unfold vp_in; decide) dX11_tries_15 ?_
    refine lv_topi (fun y_339 ey_339 => ?_)
    obtain rfl : y_339 = 0 := ey_339.trans hu
    refine lv_icmp_lt (tgt := 21) hx hb dX11_tries_16 (by decide) (fun c9 => absurd c9 c_338) (fun _ => ?_)
    refine lv_iconst (v := (-1)) hx hb dX11_tries_19 (by decide) ?_
    subst efs_337
    have hP9 := hP.sub (ws' := []) [] rfl
    have hD9 := hD.sub (ws' := []) [] (by decide) rfl
    exact W.iret (v := (-1)) hx hb hr (fun t ht hW => ⟨⟨(-1), (), rfl, rfl, by rw [ht]; exact hP9, hD9⟩, hS.F ht⟩) hS.2.2 dX11_tries_20

set_option maxHeartbeats 4000000 in
set_option maxRecDepth 100000 in
theorem m_canRun (l : Launch) (dC : Nat → ClassId) (dI : Nat → Nat → Nat) (cI cB cL cZ : ClassId) (h0 : Nat) (a : Int32) (b : Int32) (fs : List Value) (sz : Nat) (gl_fs : fs.length = 68) (g_fs_39 : fs[39]? = some (.int (-1))) : Met l yX11_canRun wsX11_canRun ({ frames := 0, cells := 0, slots := 0, locals := 0 }) (cP (dC, dI) (kTy cI cB cL cZ) [.ref h0, .int a, .int b] [(h0, .inr (10, fs))] sz) (va_Qi (fun (r : Int32) (_ : Unit) => r = 0) (fun (_ : Unit) (t : State) => va_P (dC, dI) vwCl [(h0, .inr (10, fs))] t.heap ∧ va_D (va_A [(h0, .inr (10, fs))] sz) [(h0, .inr (10, fs))]) (va_A [(h0, .inr (10, fs))] sz)) 0 0 (va_A [(h0, .inr (10, fs))] sz) := by
  refine Met.ofW (cc := cX11_canRun) (maxL := 4) (ret := (some .boolean)) (by decide) rfl ?_
  intro p e s m args below meth c s₁ B hml hv
  obtain ⟨rfl, hsz, hP, hK, hD0, hN⟩ := hv
  have hx := B.exec
  have hb := B.bytes
  have hr := B.returns
  have hts := atoms_spec (ws := wsX11_canRun) B.pre
  have hown : s.vm.findClass RX11 = some m.cls := findClass_of_methodNamed B.named
  have hlocks := B.notSynchronized
  subst hsz
  have hD := hD0.self (sz := s.heap.size)
  generalize hAe : va_A [(h0, .inr (10, fs))] s.heap.size = A at hD ⊢
  have hA : ∀ q : Nat, s.heap.size ≤ q → A q := fun q h => by rw [← hAe]; exact Or.inr h
  have hl := lv_entry ([.ref h0, .int a, .int b]) (n := 4) (Nat.le_of_ble_eq_true rfl)
  rw [lg_entry_eq]
  generalize (lg_sl ([.ref h0, .int a, .int b]) ++ List.replicate (4 - (lg_sl ([.ref h0, .int a, .int b])).length) Slot.unset).toArray = ls at hl ⊢
  have hl : lv_has ls 4 [(0, .ref h0), (1, .int a), (2, .int b)] := hl
  refine k_H (A := A) hP (fun H hP hS => ?_)
  have hP : va_P (dC, dI) vwCl [(h0, .inr (10, fs))] H := hP
  have hD : va_D A [(h0, .inr (10, fs))] := hD
  refine lv_aload_n hx hb dX11_canRun_0 rfl (lv_at hl 0 rfl) ?_
  refine va_get (D := (dC, dI)) (ci := 10) (v := .int (-1)) (C := RX11) (T := TX11) (N := 68) hx hb hts iwwsX11_canRun_11 hown hK hP 0 rfl rfl 39 (by decide) (hts (.fieldLink RX11 83 "NothingJudgeModel" "entry" "I") fwwsX11_canRun_83) (fun _ h9 => h9) g_fs_39 dX11_canRun_1 ?_
  refine lv_iconst (v := (-1)) hx hb dX11_canRun_4 (by decide) ?_
  refine lv_icmp_eq (tgt := 38) hx hb dX11_canRun_5 (by decide) (fun _ => ?_) (fun c9 => absurd (by decide) c9)
  refine lv_iconst (v := 0) hx hb dX11_canRun_38 (by decide) ?_
  have hP9 := hP.sub (ws' := [(h0, .inr (10, fs))]) [0] rfl
  have hD9 := hD.sub (ws' := [(h0, .inr (10, fs))]) [0] (by decide) rfl
  exact W.zret (v := 0) (ty := .boolean) hx hb hr rfl (fun t ht hW => ⟨⟨0, (), rfl, rfl, by rw [ht]; exact hP9, hD9⟩, hS.F ht⟩) hS.2.2 dX11_canRun_39

set_option maxHeartbeats 4000000 in
set_option maxRecDepth 100000 in
theorem m_run (l : Launch) (dC : Nat → ClassId) (dI : Nat → Nat → Nat) (cI cB cL cZ : ClassId) (h0 : Nat) (a : Int32) (b : Int32) (fs : List Value) (sz : Nat) (gl_fs : fs.length = 68) (g_fs_39 : fs[39]? = some (.int (-1))) : Met l yX11_run wsX11_run ({ frames := 1, cells := 0, slots := 0, locals := 23 }) (cP (dC, dI) (kTy cI cB cL cZ) [.ref h0, .int a, .int b] [(h0, .inr (10, fs))] sz) (va_Qi (fun (r : Int32) (_ : Unit) => r = -1) (fun (_ : Unit) (t : State) => va_P (dC, dI) vwCl [] t.heap ∧ va_D (va_A [(h0, .inr (10, fs))] sz) []) (va_A [(h0, .inr (10, fs))] sz)) 0 0 (va_A [(h0, .inr (10, fs))] sz) := by
  refine Met.ofW (cc := cX11_run) (maxL := 3) (ret := (some .int)) (by decide) rfl ?_
  intro p e s m args below meth c s₁ B hml hv
  obtain ⟨rfl, hsz, hP, hK, hD0, hN⟩ := hv
  have hx := B.exec
  have hb := B.bytes
  have hr := B.returns
  have hts := atoms_spec (ws := wsX11_run) B.pre
  have hown : s.vm.findClass RX11 = some m.cls := findClass_of_methodNamed B.named
  have hlocks := B.notSynchronized
  subst hsz
  have hD := hD0.self (sz := s.heap.size)
  generalize hAe : va_A [(h0, .inr (10, fs))] s.heap.size = A at hD ⊢
  have hA : ∀ q : Nat, s.heap.size ≤ q → A q := fun q h => by rw [← hAe]; exact Or.inr h
  have hl := lv_entry ([.ref h0, .int a, .int b]) (n := 3) (Nat.le_of_ble_eq_true rfl)
  rw [lg_entry_eq]
  generalize (lg_sl ([.ref h0, .int a, .int b]) ++ List.replicate (3 - (lg_sl ([.ref h0, .int a, .int b])).length) Slot.unset).toArray = ls at hl ⊢
  have hl : lv_has ls 3 [(0, .ref h0), (1, .int a), (2, .int b)] := hl
  refine k_H (A := A) hP (fun H hP hS => ?_)
  have hP : va_P (dC, dI) vwCl [(h0, .inr (10, fs))] H := hP
  have hD : va_D A [(h0, .inr (10, fs))] := hD
  refine lv_aload_n hx hb dX11_run_0 rfl (lv_at hl 0 rfl) ?_
  refine lv_iconst (v := 0) hx hb dX11_run_1 (by decide) ?_
  refine va_put (D := (dC, dI)) (ci := 10) (v := .int 0) (ty := .int) (C := RX11) (T := TX11) (N := 68) hx hb hts iwwsX11_run_11 tyX11 tyX11_ok nmX11 hown hK hP hD hS 0 rfl rfl 0 (by decide) (hts (.fieldLink RX11 121 "NothingJudgeModel" "thrown" "I") fwwsX11_run_121) (fun _ h9 => h9) rfl (by decide +kernel) rfl rfl (by rw [gl_fs]; decide) dX11_run_2 (fun H locs hP hD hS => ?_)
  obtain ⟨fs_340, efs_340⟩ : ∃ z : List Value, z = fs.set 0 (.int 0) := ⟨_, rfl⟩
  have glfs_340 : fs_340.length = 68 := fs_len efs_340 gl_fs
  have hP : va_P (dC, dI) vwCl [(h0, .inr (10, fs_340))] H := by rw [efs_340]; exact hP
  have hD : va_D A [(h0, .inr (10, fs_340))] := by rw [efs_340]; exact hD
  refine lv_aload_n hx hb dX11_run_5 rfl (lv_at hl 0 rfl) ?_
  refine lv_iload_n hx hb dX11_run_6 rfl (lv_at hl 1 rfl) ?_
  refine lv_iload_n hx hb dX11_run_7 rfl (lv_at hl 2 rfl) ?_
  have hPc := hP.sub (ws' := [(h0, .inr (10, fs_340))]) [0] rfl
  have hDc := hD.sub (ws' := [(h0, .inr (10, fs_340))]) [0] (by decide) rfl
  have hFc := va_free (wc := [(h0, .inr (10, fs_340))]) hD hS hA [0] rfl
  refine va_calli (va_runV (As := [.int a, .int b]) (rest := []) ⟨hx, hb, hml, hown, hts⟩ (m_canRun l dC dI cI cB cL cZ (h0) (a) (b) (fs_340) H.size glfs_340 (fs_ne efs_340 (by decide) g_fs_39)) (cwV 2 hts gX11_run_X11_canRun rfl rfl rfl (by decide +kernel) ⟨Nat.le_of_ble_eq_true rfl, Nat.le_of_ble_eq_true rfl⟩) ⟨cP_fb, va_recv hK hPc (ci := 10) (q0 := 0) rfl rfl, fun U hU hW => cP_pre hPc hK hDc hN U hU hW⟩ rfl rfl hl.1 rfl (lv_room (Nat.le_of_ble_eq_true rfl)) dX11_run_8 ⟨Nat.le_of_ble_eq_true rfl, Nat.le_of_ble_eq_true rfl⟩) hS (fun q _ h => hFc q h) hFc (fun r_341 u t H1 locs ht hvm hw hB hz1 hk1 hS => ?_)
  obtain ⟨hP1, hD1⟩ := hB
  rw [ht] at hP1
  obtain ⟨hP, hD⟩ := va_join (wr := []) (w1 := [(h0, .inr (10, fs_340))]) hP hD [0] [] rfl rfl (by decide) (by decide) hk1 hFc hP1 hD1
  generalize H1 = H at hP hS ⊢
  have hP : va_P (dC, dI) vwCl [(h0, .inr (10, fs_340))] H := hP
  have hD : va_D A [(h0, .inr (10, fs_340))] := hD
  obtain rfl : r_341 = 0 := hw
  refine lv_if_ne (tgt := 16) hx hb dX11_run_11 (by decide) (fun c9 => absurd c9 (by decide)) (fun _ => ?_)
  refine lv_iconst (v := (-1)) hx hb dX11_run_14 (by decide) ?_
  subst efs_340
  have hP9 := hP.sub (ws' := []) [] rfl
  have hD9 := hD.sub (ws' := []) [] (by decide) rfl
  exact W.iret (v := (-1)) hx hb hr (fun t ht hW => ⟨⟨(-1), (), rfl, rfl, by rw [ht]; exact hP9, hD9⟩, hS.F ht⟩) hS.2.2 dX11_run_15

set_option maxHeartbeats 4000000 in
set_option maxRecDepth 100000 in
theorem m_ran (l : Launch) (dC : Nat → ClassId) (dI : Nat → Nat → Nat) (cI cB cL cZ : ClassId) (h0 : Nat) (a : Int32) (fs : List Value) (sz : Nat) (gl_fs : fs.length = 68) (g_fs_56 : fs[56]? = some (.int 0)) : Met l yX11_ran wsX11_ran ({ frames := 0, cells := 0, slots := 0, locals := 0 }) (cP (dC, dI) (kTy cI cB cL cZ) [.ref h0, .int a] [(h0, .inr (10, fs))] sz) (va_Qi (fun (r : Int32) (_ : Unit) => r = -1) (fun (_ : Unit) (t : State) => va_P (dC, dI) vwCl [] t.heap ∧ va_D (va_A [(h0, .inr (10, fs))] sz) []) (va_A [(h0, .inr (10, fs))] sz)) 0 0 (va_A [(h0, .inr (10, fs))] sz) := by
  refine Met.ofW (cc := cX11_ran) (maxL := 2) (ret := (some .int)) (by decide) rfl ?_
  intro p e s m args below meth c s₁ B hml hv
  obtain ⟨rfl, hsz, hP, hK, hD0, hN⟩ := hv
  have hx := B.exec
  have hb := B.bytes
  have hr := B.returns
  have hts := atoms_spec (ws := wsX11_ran) B.pre
  have hown : s.vm.findClass RX11 = some m.cls := findClass_of_methodNamed B.named
  have hlocks := B.notSynchronized
  subst hsz
  have hD := hD0.self (sz := s.heap.size)
  generalize hAe : va_A [(h0, .inr (10, fs))] s.heap.size = A at hD ⊢
  have hA : ∀ q : Nat, s.heap.size ≤ q → A q := fun q h => by rw [← hAe]; exact Or.inr h
  have hl := lv_entry ([.ref h0, .int a]) (n := 2) (Nat.le_of_ble_eq_true rfl)
  rw [lg_entry_eq]
  generalize (lg_sl ([.ref h0, .int a]) ++ List.replicate (2 - (lg_sl ([.ref h0, .int a])).length) Slot.unset).toArray = ls at hl ⊢
  have hl : lv_has ls 2 [(0, .ref h0), (1, .int a)] := hl
  refine k_H (A := A) hP (fun H hP hS => ?_)
  have hP : va_P (dC, dI) vwCl [(h0, .inr (10, fs))] H := hP
  have hD : va_D A [(h0, .inr (10, fs))] := hD
  refine lv_aload_n hx hb dX11_ran_0 rfl (lv_at hl 0 rfl) ?_
  refine lv_iconst (v := 0) hx hb dX11_ran_1 (by decide) ?_
  refine va_put (D := (dC, dI)) (ci := 10) (v := .int 0) (ty := .int) (C := RX11) (T := TX11) (N := 68) hx hb hts iwwsX11_ran_11 tyX11 tyX11_ok nmX11 hown hK hP hD hS 0 rfl rfl 0 (by decide) (hts (.fieldLink RX11 121 "NothingJudgeModel" "thrown" "I") fwwsX11_ran_121) (fun _ h9 => h9) rfl (by decide +kernel) rfl rfl (by rw [gl_fs]; decide) dX11_ran_2 (fun H locs hP hD hS => ?_)
  obtain ⟨fs_342, efs_342⟩ : ∃ z : List Value, z = fs.set 0 (.int 0) := ⟨_, rfl⟩
  have glfs_342 : fs_342.length = 68 := fs_len efs_342 gl_fs
  have hP : va_P (dC, dI) vwCl [(h0, .inr (10, fs_342))] H := by rw [efs_342]; exact hP
  have hD : va_D A [(h0, .inr (10, fs_342))] := by rw [efs_342]; exact hD
  refine lv_aload_n hx hb dX11_ran_5 rfl (lv_at hl 0 rfl) ?_
  refine va_get (D := (dC, dI)) (ci := 10) (v := .int 0) (C := RX11) (T := TX11) (N := 68) hx hb hts iwwsX11_ran_11 hown hK hP 0 rfl rfl 56 (by decide) (hts (.fieldLink RX11 363 "NothingJudgeModel" "hasRun" "Z") fwwsX11_ran_363) (fun _ h9 => h9) (fs_ne efs_342 (by decide) g_fs_56) dX11_ran_6 ?_
  refine lv_if_ne (tgt := 14) hx hb dX11_ran_9 (by decide) (fun c9 => absurd c9 (by decide)) (fun _ => ?_)
  refine lv_iconst (v := (-1)) hx hb dX11_ran_12 (by decide) ?_
  subst efs_342
  have hP9 := hP.sub (ws' := []) [] rfl
  have hD9 := hD.sub (ws' := []) [] (by decide) rfl
  exact W.iret (v := (-1)) hx hb hr (fun t ht hW => ⟨⟨(-1), (), rfl, rfl, by rw [ht]; exact hP9, hD9⟩, hS.F ht⟩) hS.2.2 dX11_ran_13

set_option maxHeartbeats 4000000 in
set_option maxRecDepth 100000 in
theorem m_mend (l : Launch) (dC : Nat → ClassId) (dI : Nat → Nat → Nat) (cI cB cL cZ : ClassId) (h0 : Nat) (fs : List Value) (sz : Nat) (gl_fs : fs.length = 68) (g_fs_39 : fs[39]? = some (.int (-1))) : Met l yX11_mend wsX11_mend ({ frames := 0, cells := 0, slots := 0, locals := 0 }) (cP (dC, dI) (kTy cI cB cL cZ) [.ref h0] [(h0, .inr (10, fs))] sz) (va_Qi (fun (r : Int32) (_ : Unit) => r = -1) (fun (_ : Unit) (t : State) => va_P (dC, dI) vwCl [] t.heap ∧ va_D (va_A [(h0, .inr (10, fs))] sz) []) (va_A [(h0, .inr (10, fs))] sz)) 0 0 (va_A [(h0, .inr (10, fs))] sz) := by
  refine Met.ofW (cc := cX11_mend) (maxL := 6) (ret := (some .int)) (by decide) rfl ?_
  intro p e s m args below meth c s₁ B hml hv
  obtain ⟨rfl, hsz, hP, hK, hD0, hN⟩ := hv
  have hx := B.exec
  have hb := B.bytes
  have hr := B.returns
  have hts := atoms_spec (ws := wsX11_mend) B.pre
  have hown : s.vm.findClass RX11 = some m.cls := findClass_of_methodNamed B.named
  have hlocks := B.notSynchronized
  subst hsz
  have hD := hD0.self (sz := s.heap.size)
  generalize hAe : va_A [(h0, .inr (10, fs))] s.heap.size = A at hD ⊢
  have hA : ∀ q : Nat, s.heap.size ≤ q → A q := fun q h => by rw [← hAe]; exact Or.inr h
  have hl := lv_entry ([.ref h0]) (n := 6) (Nat.le_of_ble_eq_true rfl)
  rw [lg_entry_eq]
  generalize (lg_sl ([.ref h0]) ++ List.replicate (6 - (lg_sl ([.ref h0])).length) Slot.unset).toArray = ls at hl ⊢
  have hl : lv_has ls 6 [(0, .ref h0)] := hl
  refine k_H (A := A) hP (fun H hP hS => ?_)
  have hP : va_P (dC, dI) vwCl [(h0, .inr (10, fs))] H := hP
  have hD : va_D A [(h0, .inr (10, fs))] := hD
  refine lv_aload_n hx hb dX11_mend_0 rfl (lv_at hl 0 rfl) ?_
  refine lv_iconst (v := 0) hx hb dX11_mend_1 (by decide) ?_
  refine va_put (D := (dC, dI)) (ci := 10) (v := .int 0) (ty := .int) (C := RX11) (T := TX11) (N := 68) hx hb hts iwwsX11_mend_11 tyX11 tyX11_ok nmX11 hown hK hP hD hS 0 rfl rfl 0 (by decide) (hts (.fieldLink RX11 121 "NothingJudgeModel" "thrown" "I") fwwsX11_mend_121) (fun _ h9 => h9) rfl (by decide +kernel) rfl rfl (by rw [gl_fs]; decide) dX11_mend_2 (fun H locs hP hD hS => ?_)
  obtain ⟨fs_343, efs_343⟩ : ∃ z : List Value, z = fs.set 0 (.int 0) := ⟨_, rfl⟩
  have glfs_343 : fs_343.length = 68 := fs_len efs_343 gl_fs
  have hP : va_P (dC, dI) vwCl [(h0, .inr (10, fs_343))] H := by rw [efs_343]; exact hP
  have hD : va_D A [(h0, .inr (10, fs_343))] := by rw [efs_343]; exact hD
  refine lv_aload_n hx hb dX11_mend_5 rfl (lv_at hl 0 rfl) ?_
  refine va_get (D := (dC, dI)) (ci := 10) (v := .int (-1)) (C := RX11) (T := TX11) (N := 68) hx hb hts iwwsX11_mend_11 hown hK hP 0 rfl rfl 39 (by decide) (hts (.fieldLink RX11 83 "NothingJudgeModel" "entry" "I") fwwsX11_mend_83) (fun _ h9 => h9) (fs_ne efs_343 (by decide) g_fs_39) dX11_mend_6 ?_
  refine lv_iconst (v := (-1)) hx hb dX11_mend_9 (by decide) ?_
  refine lv_icmp_ne (tgt := 15) hx hb dX11_mend_10 (by decide) (fun c9 => absurd c9 (by decide)) (fun _ => ?_)
  refine lv_iconst (v := (-1)) hx hb dX11_mend_13 (by decide) ?_
  subst efs_343
  have hP9 := hP.sub (ws' := []) [] rfl
  have hD9 := hD.sub (ws' := []) [] (by decide) rfl
  exact W.iret (v := (-1)) hx hb hr (fun t ht hW => ⟨⟨(-1), (), rfl, rfl, by rw [ht]; exact hP9, hD9⟩, hS.F ht⟩) hS.2.2 dX11_mend_14

set_option maxHeartbeats 4000000 in
set_option maxRecDepth 100000 in
theorem m_mended (l : Launch) (dC : Nat → ClassId) (dI : Nat → Nat → Nat) (cI cB cL cZ : ClassId) (h0 : Nat) (a : Int32) (fs : List Value) (sz : Nat) (gl_fs : fs.length = 68) (g_fs_67 : fs[67]? = some (.int 0)) : Met l yX11_mended wsX11_mended ({ frames := 0, cells := 0, slots := 0, locals := 0 }) (cP (dC, dI) (kTy cI cB cL cZ) [.ref h0, .int a] [(h0, .inr (10, fs))] sz) (va_Qi (fun (r : Int32) (_ : Unit) => r = -1) (fun (_ : Unit) (t : State) => va_P (dC, dI) vwCl [] t.heap ∧ va_D (va_A [(h0, .inr (10, fs))] sz) []) (va_A [(h0, .inr (10, fs))] sz)) 0 0 (va_A [(h0, .inr (10, fs))] sz) := by
  refine Met.ofW (cc := cX11_mended) (maxL := 3) (ret := (some .int)) (by decide) rfl ?_
  intro p e s m args below meth c s₁ B hml hv
  obtain ⟨rfl, hsz, hP, hK, hD0, hN⟩ := hv
  have hx := B.exec
  have hb := B.bytes
  have hr := B.returns
  have hts := atoms_spec (ws := wsX11_mended) B.pre
  have hown : s.vm.findClass RX11 = some m.cls := findClass_of_methodNamed B.named
  have hlocks := B.notSynchronized
  subst hsz
  have hD := hD0.self (sz := s.heap.size)
  generalize hAe : va_A [(h0, .inr (10, fs))] s.heap.size = A at hD ⊢
  have hA : ∀ q : Nat, s.heap.size ≤ q → A q := fun q h => by rw [← hAe]; exact Or.inr h
  have hl := lv_entry ([.ref h0, .int a]) (n := 3) (Nat.le_of_ble_eq_true rfl)
  rw [lg_entry_eq]
  generalize (lg_sl ([.ref h0, .int a]) ++ List.replicate (3 - (lg_sl ([.ref h0, .int a])).length) Slot.unset).toArray = ls at hl ⊢
  have hl : lv_has ls 3 [(0, .ref h0), (1, .int a)] := hl
  refine k_H (A := A) hP (fun H hP hS => ?_)
  have hP : va_P (dC, dI) vwCl [(h0, .inr (10, fs))] H := hP
  have hD : va_D A [(h0, .inr (10, fs))] := hD
  refine lv_aload_n hx hb dX11_mended_0 rfl (lv_at hl 0 rfl) ?_
  refine lv_iconst (v := 0) hx hb dX11_mended_1 (by decide) ?_
  refine va_put (D := (dC, dI)) (ci := 10) (v := .int 0) (ty := .int) (C := RX11) (T := TX11) (N := 68) hx hb hts iwwsX11_mended_11 tyX11 tyX11_ok nmX11 hown hK hP hD hS 0 rfl rfl 0 (by decide) (hts (.fieldLink RX11 121 "NothingJudgeModel" "thrown" "I") fwwsX11_mended_121) (fun _ h9 => h9) rfl (by decide +kernel) rfl rfl (by rw [gl_fs]; decide) dX11_mended_2 (fun H locs hP hD hS => ?_)
  obtain ⟨fs_344, efs_344⟩ : ∃ z : List Value, z = fs.set 0 (.int 0) := ⟨_, rfl⟩
  have glfs_344 : fs_344.length = 68 := fs_len efs_344 gl_fs
  have hP : va_P (dC, dI) vwCl [(h0, .inr (10, fs_344))] H := by rw [efs_344]; exact hP
  have hD : va_D A [(h0, .inr (10, fs_344))] := by rw [efs_344]; exact hD
  refine lv_aload_n hx hb dX11_mended_5 rfl (lv_at hl 0 rfl) ?_
  refine va_get (D := (dC, dI)) (ci := 10) (v := .int 0) (C := RX11) (T := TX11) (N := 68) hx hb hts iwwsX11_mended_11 hown hK hP 0 rfl rfl 67 (by decide) (hts (.fieldLink RX11 393 "NothingJudgeModel" "hasMend" "Z") fwwsX11_mended_393) (fun _ h9 => h9) (fs_ne efs_344 (by decide) g_fs_67) dX11_mended_6 ?_
  refine lv_if_eq (tgt := 26) hx hb dX11_mended_9 (by decide) (fun _ => ?_) (fun c9 => absurd (by decide) c9)
  refine lv_iconst (v := (-1)) hx hb dX11_mended_26 (by decide) ?_
  subst efs_344
  have hP9 := hP.sub (ws' := []) [] rfl
  have hD9 := hD.sub (ws' := []) [] (by decide) rfl
  exact W.iret (v := (-1)) hx hb hr (fun t ht hW => ⟨⟨(-1), (), rfl, rfl, by rw [ht]; exact hP9, hD9⟩, hS.F ht⟩) hS.2.2 dX11_mended_27

set_option maxHeartbeats 4000000 in
set_option maxRecDepth 100000 in
theorem m_priceY (l : Launch) (dC : Nat → ClassId) (dI : Nat → Nat → Nat) (cI cB cL cZ : ClassId) (h0 : Nat) (m_pr : Nat) (a : Int32) (b : Int32) (fs : List Value) (f : Nat → Int32) (sz : Nat) (gl_fs : fs.length = 68) (g_fs_61 : fs[61]? = some (.ref m_pr)) (h1 : ¬ a < 0) (h2 : ¬ 3 < a) (h3 : ¬ b < 1) (h4 : b ≤ 99) : Met l yX11_price wsX11_price ({ frames := 0, cells := 0, slots := 0, locals := 0 }) (cP (dC, dI) (kTy cI cB cL cZ) [.ref h0, .int a, .int b] [(h0, .inr (10, fs)), (m_pr, .inl (cI, 4, .inl f))] sz) (va_Qi (fun (r : Int32) (_ : Unit) => r = 1) (fun (_ : Unit) (t : State) => va_P (dC, dI) vwCl [] t.heap ∧ va_D (va_A [(h0, .inr (10, fs)), (m_pr, .inl (cI, 4, .inl f))] sz) []) (va_A [(h0, .inr (10, fs)), (m_pr, .inl (cI, 4, .inl f))] sz)) 0 0 (va_A [(h0, .inr (10, fs)), (m_pr, .inl (cI, 4, .inl f))] sz) := by
  refine Met.ofW (cc := cX11_price) (maxL := 3) (ret := (some .boolean)) (by decide) rfl ?_
  intro p e s m args below meth c s₁ B hml hv
  obtain ⟨rfl, hsz, hP, hK, hD0, hN⟩ := hv
  have hx := B.exec
  have hb := B.bytes
  have hr := B.returns
  have hts := atoms_spec (ws := wsX11_price) B.pre
  have hown : s.vm.findClass RX11 = some m.cls := findClass_of_methodNamed B.named
  have hlocks := B.notSynchronized
  subst hsz
  have hD := hD0.self (sz := s.heap.size)
  generalize hAe : va_A [(h0, .inr (10, fs)), (m_pr, .inl (cI, 4, .inl f))] s.heap.size = A at hD ⊢
  have hA : ∀ q : Nat, s.heap.size ≤ q → A q := fun q h => by rw [← hAe]; exact Or.inr h
  have hl := lv_entry ([.ref h0, .int a, .int b]) (n := 3) (Nat.le_of_ble_eq_true rfl)
  rw [lg_entry_eq]
  generalize (lg_sl ([.ref h0, .int a, .int b]) ++ List.replicate (3 - (lg_sl ([.ref h0, .int a, .int b])).length) Slot.unset).toArray = ls at hl ⊢
  have hl : lv_has ls 3 [(0, .ref h0), (1, .int a), (2, .int b)] := hl
  refine k_H (A := A) hP (fun H hP hS => ?_)
  have hP : va_P (dC, dI) vwCl [(h0, .inr (10, fs)), (m_pr, .inl (cI, 4, .inl f))] H := hP
  have hD : va_D A [(h0, .inr (10, fs)), (m_pr, .inl (cI, 4, .inl f))] := hD
  refine lv_aload_n hx hb dX11_price_0 rfl (lv_at hl 0 rfl) ?_
  refine lv_iconst (v := 0) hx hb dX11_price_1 (by decide) ?_
  refine va_put (D := (dC, dI)) (ci := 10) (v := .int 0) (ty := .int) (C := RX11) (T := TX11) (N := 68) hx hb hts iwwsX11_price_11 tyX11 tyX11_ok nmX11 hown hK hP hD hS 0 rfl rfl 0 (by decide) (hts (.fieldLink RX11 121 "NothingJudgeModel" "thrown" "I") fwwsX11_price_121) (fun _ h9 => h9) rfl (by decide +kernel) rfl rfl (by rw [gl_fs]; decide) dX11_price_2 (fun H locs hP hD hS => ?_)
  obtain ⟨fs_345, efs_345⟩ : ∃ z : List Value, z = fs.set 0 (.int 0) := ⟨_, rfl⟩
  have glfs_345 : fs_345.length = 68 := fs_len efs_345 gl_fs
  have hP : va_P (dC, dI) vwCl [(h0, .inr (10, fs_345)), (m_pr, .inl (cI, 4, .inl f))] H := by rw [efs_345]; exact hP
  have hD : va_D A [(h0, .inr (10, fs_345)), (m_pr, .inl (cI, 4, .inl f))] := by rw [efs_345]; exact hD
  refine lv_iload_n hx hb dX11_price_5 rfl (lv_at hl 1 rfl) ?_
  refine lv_if_lt (tgt := 25) hx hb dX11_price_6 (by decide) (fun c9 => absurd c9 h1) (fun _ => ?_)
  refine lv_iload_n hx hb dX11_price_9 rfl (lv_at hl 1 rfl) ?_
  refine lv_iconst (v := 3) hx hb dX11_price_10 (by decide) ?_
  refine lv_icmp_gt (tgt := 25) hx hb dX11_price_11 (by decide) (fun c9 => absurd c9 h2) (fun _ => ?_)
  refine lv_iload_n hx hb dX11_price_14 rfl (lv_at hl 2 rfl) ?_
  refine lv_iconst (v := 1) hx hb dX11_price_15 (by decide) ?_
  refine lv_icmp_lt (tgt := 25) hx hb dX11_price_16 (by decide) (fun c9 => absurd c9 h3) (fun _ => ?_)
  refine lv_iload_n hx hb dX11_price_19 rfl (lv_at hl 2 rfl) ?_
  refine lv_bipush (v := 99) hx hb dX11_price_20 (by decide) ?_
  refine lv_icmp_le (tgt := 27) hx hb dX11_price_22 (by decide) (fun _ => ?_) (fun c9 => absurd h4 c9)
  refine lv_aload_n hx hb dX11_price_27 rfl (lv_at hl 0 rfl) ?_
  refine va_get (D := (dC, dI)) (ci := 10) (v := .ref m_pr) (C := RX11) (T := TX11) (N := 68) hx hb hts iwwsX11_price_11 hown hK hP 0 rfl rfl 61 (by decide) (hts (.fieldLink RX11 112 "NothingJudgeModel" "prices" "[I") fwwsX11_price_112) (fun _ h9 => h9) (fs_ne efs_345 (by decide) g_fs_61) dX11_price_28 ?_
  refine lv_iload_n hx hb dX11_price_31 rfl (lv_at hl 1 rfl) ?_
  refine lv_iload_n hx hb dX11_price_32 rfl (lv_at hl 2 rfl) ?_
  refine va_iast hx hb hK hP hD hS 1 0 rfl rfl (in_of (y := 4) (by decide) h1 (fun h9 => h2 (Int32.lt_of_lt_of_le (by decide) h9)) (by decide)) dX11_price_33 (fun H locs hP hD hS => ?_)
  obtain ⟨f_346, ef_346⟩ : ∃ z, z = upd f a.toNatClampNeg b := ⟨_, rfl⟩
  have hP : va_P (dC, dI) vwCl [(h0, .inr (10, fs_345)), (m_pr, .inl (cI, 4, .inl f_346))] H := by rw [ef_346]; exact hP
  have hD : va_D A [(h0, .inr (10, fs_345)), (m_pr, .inl (cI, 4, .inl f_346))] := by rw [ef_346]; exact hD
  refine lv_iconst (v := 1) hx hb dX11_price_34 (by decide) ?_
  subst efs_345
  have hP9 := hP.sub (ws' := []) [] rfl
  have hD9 := hD.sub (ws' := []) [] (by decide) rfl
  exact W.zret (v := 1) (ty := .boolean) hx hb hr rfl (fun t ht hW => ⟨⟨1, (), rfl, rfl, by rw [ht]; exact hP9, hD9⟩, hS.F ht⟩) hS.2.2 dX11_price_35

set_option maxHeartbeats 4000000 in
set_option maxRecDepth 100000 in
theorem m_priceN (l : Launch) (dC : Nat → ClassId) (dI : Nat → Nat → Nat) (cI cB cL cZ : ClassId) (h0 : Nat) (a : Int32) (b : Int32) (fs : List Value) (sz : Nat) (gl_fs : fs.length = 68) (hb9 : a < 0 ∨ 3 < a ∨ b < 1 ∨ ¬ b ≤ 99) : Met l yX11_price wsX11_price ({ frames := 0, cells := 0, slots := 0, locals := 0 }) (cP (dC, dI) (kTy cI cB cL cZ) [.ref h0, .int a, .int b] [(h0, .inr (10, fs))] sz) (va_Qi (fun (r : Int32) (_ : Unit) => r = 0) (fun (_ : Unit) (t : State) => va_P (dC, dI) vwCl [] t.heap ∧ va_D (va_A [(h0, .inr (10, fs))] sz) []) (va_A [(h0, .inr (10, fs))] sz)) 0 0 (va_A [(h0, .inr (10, fs))] sz) := by
  refine Met.ofW (cc := cX11_price) (maxL := 3) (ret := (some .boolean)) (by decide) rfl ?_
  intro p e s m args below meth c s₁ B hml hv
  obtain ⟨rfl, hsz, hP, hK, hD0, hN⟩ := hv
  have hx := B.exec
  have hb := B.bytes
  have hr := B.returns
  have hts := atoms_spec (ws := wsX11_price) B.pre
  have hown : s.vm.findClass RX11 = some m.cls := findClass_of_methodNamed B.named
  have hlocks := B.notSynchronized
  subst hsz
  have hD := hD0.self (sz := s.heap.size)
  generalize hAe : va_A [(h0, .inr (10, fs))] s.heap.size = A at hD ⊢
  have hA : ∀ q : Nat, s.heap.size ≤ q → A q := fun q h => by rw [← hAe]; exact Or.inr h
  have hl := lv_entry ([.ref h0, .int a, .int b]) (n := 3) (Nat.le_of_ble_eq_true rfl)
  rw [lg_entry_eq]
  generalize (lg_sl ([.ref h0, .int a, .int b]) ++ List.replicate (3 - (lg_sl ([.ref h0, .int a, .int b])).length) Slot.unset).toArray = ls at hl ⊢
  have hl : lv_has ls 3 [(0, .ref h0), (1, .int a), (2, .int b)] := hl
  refine k_H (A := A) hP (fun H hP hS => ?_)
  have hP : va_P (dC, dI) vwCl [(h0, .inr (10, fs))] H := hP
  have hD : va_D A [(h0, .inr (10, fs))] := hD
  refine lv_aload_n hx hb dX11_price_0 rfl (lv_at hl 0 rfl) ?_
  refine lv_iconst (v := 0) hx hb dX11_price_1 (by decide) ?_
  refine va_put (D := (dC, dI)) (ci := 10) (v := .int 0) (ty := .int) (C := RX11) (T := TX11) (N := 68) hx hb hts iwwsX11_price_11 tyX11 tyX11_ok nmX11 hown hK hP hD hS 0 rfl rfl 0 (by decide) (hts (.fieldLink RX11 121 "NothingJudgeModel" "thrown" "I") fwwsX11_price_121) (fun _ h9 => h9) rfl (by decide +kernel) rfl rfl (by rw [gl_fs]; decide) dX11_price_2 (fun H locs hP hD hS => ?_)
  obtain ⟨fs_347, efs_347⟩ : ∃ z : List Value, z = fs.set 0 (.int 0) := ⟨_, rfl⟩
  have glfs_347 : fs_347.length = 68 := fs_len efs_347 gl_fs
  have hP : va_P (dC, dI) vwCl [(h0, .inr (10, fs_347))] H := by rw [efs_347]; exact hP
  have hD : va_D A [(h0, .inr (10, fs_347))] := by rw [efs_347]; exact hD
  refine lv_iload_n hx hb dX11_price_5 rfl (lv_at hl 1 rfl) ?_
  refine lv_if_lt (tgt := 25) hx hb dX11_price_6 (by decide) (fun c_348 => ?_) (fun c_348 => ?_)
  · refine lv_iconst (v := 0) hx hb dX11_price_25 (by decide) ?_
    subst efs_347
    have hP9 := hP.sub (ws' := []) [] rfl
    have hD9 := hD.sub (ws' := []) [] (by decide) rfl
    exact W.zret (v := 0) (ty := .boolean) hx hb hr rfl (fun t ht hW => ⟨⟨0, (), rfl, rfl, by rw [ht]; exact hP9, hD9⟩, hS.F ht⟩) hS.2.2 dX11_price_26
  · refine lv_iload_n hx hb dX11_price_9 rfl (lv_at hl 1 rfl) ?_
    refine lv_iconst (v := 3) hx hb dX11_price_10 (by decide) ?_
    refine lv_icmp_gt (tgt := 25) hx hb dX11_price_11 (by decide) (fun c_349 => ?_) (fun c_349 => ?_)
    · refine lv_iconst (v := 0) hx hb dX11_price_25 (by decide) ?_
      subst efs_347
      have hP9 := hP.sub (ws' := []) [] rfl
      have hD9 := hD.sub (ws' := []) [] (by decide) rfl
      exact W.zret (v := 0) (ty := .boolean) hx hb hr rfl (fun t ht hW => ⟨⟨0, (), rfl, rfl, by rw [ht]; exact hP9, hD9⟩, hS.F ht⟩) hS.2.2 dX11_price_26
    · refine lv_iload_n hx hb dX11_price_14 rfl (lv_at hl 2 rfl) ?_
      refine lv_iconst (v := 1) hx hb dX11_price_15 (by decide) ?_
      refine lv_icmp_lt (tgt := 25) hx hb dX11_price_16 (by decide) (fun c_350 => ?_) (fun c_350 => ?_)
      · refine lv_iconst (v := 0) hx hb dX11_price_25 (by decide) ?_
        subst efs_347
        have hP9 := hP.sub (ws' := []) [] rfl
        have hD9 := hD.sub (ws' := []) [] (by decide) rfl
        exact W.zret (v := 0) (ty := .boolean) hx hb hr rfl (fun t ht hW => ⟨⟨0, (), rfl, rfl, by rw [ht]; exact hP9, hD9⟩, hS.F ht⟩) hS.2.2 dX11_price_26
      · refine lv_iload_n hx hb dX11_price_19 rfl (lv_at hl 2 rfl) ?_
        refine lv_bipush (v := 99) hx hb dX11_price_20 (by decide) ?_
        refine lv_icmp_le (tgt := 27) hx hb dX11_price_22 (by decide) (fun c9 => absurd c9 (((hb9.resolve_left c_348).resolve_left c_349).resolve_left c_350)) (fun _ => ?_)
        refine lv_iconst (v := 0) hx hb dX11_price_25 (by decide) ?_
        subst efs_347
        have hP9 := hP.sub (ws' := []) [] rfl
        have hD9 := hD.sub (ws' := []) [] (by decide) rfl
        exact W.zret (v := 0) (ty := .boolean) hx hb hr rfl (fun t ht hW => ⟨⟨0, (), rfl, rfl, by rw [ht]; exact hP9, hD9⟩, hS.F ht⟩) hS.2.2 dX11_price_26

set_option maxHeartbeats 4000000 in
set_option maxRecDepth 100000 in
theorem m_mark0 (l : Launch) (dC : Nat → ClassId) (dI : Nat → Nat → Nat) (cI cB cL cZ : ClassId) (h0 : Nat) (m_rf : Nat) (m_ih : Nat) (m_mk : Nat) (m_td : Nat) (r : Int32) (fs : List Value) (frf : Nat → Int32) (f0 : Nat → Int32) (f1 : Nat → Int32) (f2 : Nat → Int32) (sz : Nat) (gl_fs : fs.length = 68) (g_fs_19 : fs[19]? = some (.ref m_rf)) (g_fs_43 : fs[43]? = some (.ref m_ih)) (g_fs_42 : fs[42]? = some (.ref m_mk)) (g_fs_44 : fs[44]? = some (.ref m_td)) (g_fs_18 : fs[18]? = some (.int 0)) (g_fs_39 : fs[39]? = some (.int (-1))) (hrf : ∀ j, j < 16 → frf j = -1) : Met l yX11_mark wsX11_mark ({ frames := 1, cells := 0, slots := 0, locals := 21 }) (cP (dC, dI) (kTy cI cB cL cZ) [.ref h0, .int 2, .int r, .int 0] [(h0, .inr (10, fs)), (m_rf, .inl (cI, 16, .inl frf)), (m_ih, .inl (cZ, 42, .inl f0)), (m_mk, .inl (cI, 42, .inl f1)), (m_td, .inl (cI, 25, .inl f2))] sz) (va_Qi (fun (r : Int32) (_ : Unit) => r = 0) (fun (_ : Unit) (t : State) => va_P (dC, dI) vwCl [] t.heap ∧ va_D (va_A [(h0, .inr (10, fs)), (m_rf, .inl (cI, 16, .inl frf)), (m_ih, .inl (cZ, 42, .inl f0)), (m_mk, .inl (cI, 42, .inl f1)), (m_td, .inl (cI, 25, .inl f2))] sz) []) (va_A [(h0, .inr (10, fs)), (m_rf, .inl (cI, 16, .inl frf)), (m_ih, .inl (cZ, 42, .inl f0)), (m_mk, .inl (cI, 42, .inl f1)), (m_td, .inl (cI, 25, .inl f2))] sz)) 0 0 (va_A [(h0, .inr (10, fs)), (m_rf, .inl (cI, 16, .inl frf)), (m_ih, .inl (cZ, 42, .inl f0)), (m_mk, .inl (cI, 42, .inl f1)), (m_td, .inl (cI, 25, .inl f2))] sz) := by
  refine Met.ofW (cc := cX11_mark) (maxL := 5) (ret := (some .int)) (by decide) rfl ?_
  intro p e s m args below meth c s₁ B hml hv
  obtain ⟨rfl, hsz, hP, hK, hD0, hN⟩ := hv
  have hx := B.exec
  have hb := B.bytes
  have hr := B.returns
  have hts := atoms_spec (ws := wsX11_mark) B.pre
  have hown : s.vm.findClass RX11 = some m.cls := findClass_of_methodNamed B.named
  have hlocks := B.notSynchronized
  subst hsz
  have hD := hD0.self (sz := s.heap.size)
  generalize hAe : va_A [(h0, .inr (10, fs)), (m_rf, .inl (cI, 16, .inl frf)), (m_ih, .inl (cZ, 42, .inl f0)), (m_mk, .inl (cI, 42, .inl f1)), (m_td, .inl (cI, 25, .inl f2))] s.heap.size = A at hD ⊢
  have hA : ∀ q : Nat, s.heap.size ≤ q → A q := fun q h => by rw [← hAe]; exact Or.inr h
  have hl := lv_entry ([.ref h0, .int 2, .int r, .int 0]) (n := 5) (Nat.le_of_ble_eq_true rfl)
  rw [lg_entry_eq]
  generalize (lg_sl ([.ref h0, .int 2, .int r, .int 0]) ++ List.replicate (5 - (lg_sl ([.ref h0, .int 2, .int r, .int 0])).length) Slot.unset).toArray = ls at hl ⊢
  have hl : lv_has ls 5 [(0, .ref h0), (1, .int 2), (2, .int r), (3, .int 0)] := hl
  refine k_H (A := A) hP (fun H hP hS => ?_)
  have hP : va_P (dC, dI) vwCl [(h0, .inr (10, fs)), (m_rf, .inl (cI, 16, .inl frf)), (m_ih, .inl (cZ, 42, .inl f0)), (m_mk, .inl (cI, 42, .inl f1)), (m_td, .inl (cI, 25, .inl f2))] H := hP
  have hD : va_D A [(h0, .inr (10, fs)), (m_rf, .inl (cI, 16, .inl frf)), (m_ih, .inl (cZ, 42, .inl f0)), (m_mk, .inl (cI, 42, .inl f1)), (m_td, .inl (cI, 25, .inl f2))] := hD
  refine lv_aload_n hx hb dX11_mark_0 rfl (lv_at hl 0 rfl) ?_
  refine lv_iconst (v := 0) hx hb dX11_mark_1 (by decide) ?_
  refine va_put (D := (dC, dI)) (ci := 10) (v := .int 0) (ty := .int) (C := RX11) (T := TX11) (N := 68) hx hb hts iwwsX11_mark_11 tyX11 tyX11_ok nmX11 hown hK hP hD hS 0 rfl rfl 0 (by decide) (hts (.fieldLink RX11 121 "NothingJudgeModel" "thrown" "I") fwwsX11_mark_121) (fun _ h9 => h9) rfl (by decide +kernel) rfl rfl (by rw [gl_fs]; decide) dX11_mark_2 (fun H locs hP hD hS => ?_)
  obtain ⟨fs_351, efs_351⟩ : ∃ z : List Value, z = fs.set 0 (.int 0) := ⟨_, rfl⟩
  have glfs_351 : fs_351.length = 68 := fs_len efs_351 gl_fs
  have hP : va_P (dC, dI) vwCl [(h0, .inr (10, fs_351)), (m_rf, .inl (cI, 16, .inl frf)), (m_ih, .inl (cZ, 42, .inl f0)), (m_mk, .inl (cI, 42, .inl f1)), (m_td, .inl (cI, 25, .inl f2))] H := by rw [efs_351]; exact hP
  have hD : va_D A [(h0, .inr (10, fs_351)), (m_rf, .inl (cI, 16, .inl frf)), (m_ih, .inl (cZ, 42, .inl f0)), (m_mk, .inl (cI, 42, .inl f1)), (m_td, .inl (cI, 25, .inl f2))] := by rw [efs_351]; exact hD
  refine lv_iload_n hx hb dX11_mark_5 rfl (lv_at hl 2 rfl) ?_
  refine lv_if_lt (tgt := 29) hx hb dX11_mark_6 (by decide) (fun c_352 => ?_) (fun c_352 => ?_)
  · refine lv_iconst (v := 0) hx hb dX11_mark_29 (by decide) ?_
    refine lv_istore (lv' := [(4, .int 0), (0, .ref h0), (1, .int 2), (2, .int r), (3, .int 0)]) hx hb dX11_mark_30 hl (by decide) rfl (fun ls hl => ?_)
    refine lv_iload_n hx hb dX11_mark_32 rfl (lv_at hl 2 rfl) ?_
    refine lv_if_lt (tgt := 83) hx hb dX11_mark_33 (by decide) (fun c9 => absurd c9 (by decide)) (fun _ => ?_)
    refine lv_iload_n hx hb dX11_mark_36 rfl (lv_at hl 2 rfl) ?_
    refine lv_iconst (v := 2) hx hb dX11_mark_37 (by decide) ?_
    refine lv_icmp_gt (tgt := 83) hx hb dX11_mark_38 (by decide) (fun c9 => absurd c9 (by decide)) (fun _ => ?_)
    refine lv_iload_n hx hb dX11_mark_41 rfl (lv_at hl 2 rfl) ?_
    refine lv_iconst (v := 2) hx hb dX11_mark_42 (by decide) ?_
    refine lv_icmp_ge (tgt := 51) hx hb dX11_mark_43 (by decide) (fun _ => ?_) (fun c9 => absurd (by decide) c9)
    refine lv_iload_n hx hb dX11_mark_51 rfl (lv_at hl 2 rfl) ?_
    refine lv_if_ne (tgt := 69) hx hb dX11_mark_52 (by decide) (fun _ => ?_) (fun c9 => absurd (by decide) c9)
    refine lv_iload_n hx hb dX11_mark_69 rfl (lv_at hl 2 rfl) ?_
    refine lv_iconst (v := 2) hx hb dX11_mark_70 (by decide) ?_
    refine lv_icmp_ne (tgt := 85) hx hb dX11_mark_71 (by decide) (fun c9 => absurd c9 (by decide)) (fun _ => ?_)
    refine lv_iload_n hx hb dX11_mark_74 rfl (lv_at hl 4 rfl) ?_
    refine lv_if_lt (tgt := 83) hx hb dX11_mark_75 (by decide) (fun c9 => absurd c9 (by decide)) (fun _ => ?_)
    refine lv_iload_n hx hb dX11_mark_78 rfl (lv_at hl 4 rfl) ?_
    refine lv_iconst (v := 1) hx hb dX11_mark_79 (by decide) ?_
    refine lv_icmp_le (tgt := 85) hx hb dX11_mark_80 (by decide) (fun _ => ?_) (fun c9 => absurd (by decide) c9)
    refine lv_aload_n hx hb dX11_mark_85 rfl (lv_at hl 1 rfl) ?_
    have hPc := hP.sub (ws' := [(h0, .inr (10, fs_351)), (m_ih, .inl (cZ, 42, .inl f0))]) [0, 2] rfl
    have hDc := hD.sub (ws' := [(h0, .inr (10, fs_351)), (m_ih, .inl (cZ, 42, .inl f0))]) [0, 2] (by decide) rfl
    have hFc := va_free (wc := [(h0, .inr (10, fs_351)), (m_ih, .inl (cZ, 42, .inl f0))]) hD hS hA [0, 2] rfl
    refine va_callv (va_runV (As := []) (rest := []) ⟨hx, hb, hml, hown, hts⟩ (c_frees l dC dI cI cB cL cZ (h0) (m_ih) (fs_351) (f0) H.size glfs_351 (fs_ne efs_351 (by decide) g_fs_43)) (cwV 0 hts gX11_mark_X11_frees rfl rfl rfl (by decide +kernel) ⟨Nat.le_of_ble_eq_true rfl, Nat.le_of_ble_eq_true rfl⟩) ⟨cP_fb, va_recv hK hPc (ci := 10) (q0 := 0) rfl rfl, fun U hU hW => cP_pre hPc hK hDc hN U hU hW⟩ rfl rfl hl.1 rfl (lv_room (Nat.le_of_ble_eq_true rfl)) dX11_mark_86 ⟨Nat.le_of_ble_eq_true rfl, Nat.le_of_ble_eq_true rfl⟩) hS (fun q _ h => hFc q h) hFc (fun u t H1 locs ht hvm hw hB hz1 hk1 hS => ?_)
    obtain ⟨hP1, hD1⟩ := hB
    rw [ht] at hP1
    obtain ⟨hP, hD⟩ := va_join (wr := [(m_rf, .inl (cI, 16, .inl frf)), (m_mk, .inl (cI, 42, .inl f1)), (m_td, .inl (cI, 25, .inl f2))]) (w1 := [(h0, .inr (10, fs_351))]) hP hD [0, 2] [1, 3, 4] rfl rfl (by decide) (by decide) hk1 hFc hP1 hD1
    generalize H1 = H at hP hS ⊢
    have hP : va_P (dC, dI) vwCl [(m_rf, .inl (cI, 16, .inl frf)), (m_mk, .inl (cI, 42, .inl f1)), (m_td, .inl (cI, 25, .inl f2)), (h0, .inr (10, fs_351))] H := hP
    have hD : va_D A [(m_rf, .inl (cI, 16, .inl frf)), (m_mk, .inl (cI, 42, .inl f1)), (m_td, .inl (cI, 25, .inl f2)), (h0, .inr (10, fs_351))] := hD
    refine lv_aload_n hx hb dX11_mark_89 rfl (lv_at hl 1 rfl) ?_
    have hPc := hP.sub (ws' := [(h0, .inr (10, fs_351)), (m_mk, .inl (cI, 42, .inl f1)), (m_td, .inl (cI, 25, .inl f2))]) [3, 1, 2] rfl
    have hDc := hD.sub (ws' := [(h0, .inr (10, fs_351)), (m_mk, .inl (cI, 42, .inl f1)), (m_td, .inl (cI, 25, .inl f2))]) [3, 1, 2] (by decide) rfl
    have hFc := va_free (wc := [(h0, .inr (10, fs_351)), (m_mk, .inl (cI, 42, .inl f1)), (m_td, .inl (cI, 25, .inl f2))]) hD hS hA [3, 1, 2] rfl
    refine va_callv (va_runV (As := []) (rest := []) ⟨hx, hb, hml, hown, hts⟩ (c_reckons l dC dI cI cB cL cZ (h0) (m_mk) (m_td) (fs_351) (f1) (f2) H.size glfs_351 (fs_ne efs_351 (by decide) g_fs_42) (fs_ne efs_351 (by decide) g_fs_44) (fs_ne efs_351 (by decide) g_fs_18) (fs_ne efs_351 (by decide) g_fs_39)) (cwV 0 hts gX11_mark_X11_reckons rfl rfl rfl (by decide +kernel) ⟨Nat.le_of_ble_eq_true rfl, Nat.le_of_ble_eq_true rfl⟩) ⟨cP_fb, va_recv hK hPc (ci := 10) (q0 := 0) rfl rfl, fun U hU hW => cP_pre hPc hK hDc hN U hU hW⟩ rfl rfl hl.1 rfl (lv_room (Nat.le_of_ble_eq_true rfl)) dX11_mark_90 ⟨Nat.le_of_ble_eq_true rfl, Nat.le_of_ble_eq_true rfl⟩) hS (fun q _ h => hFc q h) hFc (fun u t H1 locs ht hvm hw hB hz1 hk1 hS => ?_)
    obtain ⟨f_354, hf_355, hP1, hD1⟩ := hB
    rw [ht] at hP1
    obtain ⟨hP, hD⟩ := va_join (wr := [(m_rf, .inl (cI, 16, .inl frf))]) (w1 := [(h0, .inr (10, (fs_351.set 45 (.int 0)))), (m_mk, .inl (cI, 42, .inl f_354))]) hP hD [3, 1, 2] [0] rfl rfl (by decide) (by decide) hk1 hFc hP1 hD1
    generalize H1 = H at hP hS ⊢
    obtain ⟨fs_357, efs_357⟩ : ∃ z : List Value, z = fs_351.set 45 (.int 0) := ⟨_, rfl⟩
    have glfs_357 : fs_357.length = 68 := fs_len efs_357 glfs_351
    have hP : va_P (dC, dI) vwCl [(m_rf, .inl (cI, 16, .inl frf)), (h0, .inr (10, fs_357)), (m_mk, .inl (cI, 42, .inl f_354))] H := by rw [efs_357]; exact hP
    have hD : va_D A [(m_rf, .inl (cI, 16, .inl frf)), (h0, .inr (10, fs_357)), (m_mk, .inl (cI, 42, .inl f_354))] := by rw [efs_357]; exact hD
    refine lv_aload_n hx hb dX11_mark_93 rfl (lv_at hl 1 rfl) ?_
    refine va_get (D := (dC, dI)) (ci := 10) (v := .ref m_mk) (C := RX11) (T := TX11) (N := 68) hx hb hts iwwsX11_mark_11 hown hK hP 1 rfl rfl 42 (by decide) (hts (.fieldLink RX11 93 "NothingJudgeModel" "marks" "[I") fwwsX11_mark_93) (fun _ h9 => h9) (fs_ne efs_357 (by decide) (fs_ne efs_351 (by decide) g_fs_42)) dX11_mark_94 ?_
    refine lv_iload_n hx hb dX11_mark_97 rfl (lv_at hl 2 rfl) ?_
    refine lv_if_ne (tgt := 109) hx hb dX11_mark_98 (by decide) (fun _ => ?_) (fun c9 => absurd (by decide) c9)
    refine lv_iload_n hx hb dX11_mark_109 rfl (lv_at hl 2 rfl) ?_
    refine lv_iconst (v := 1) hx hb dX11_mark_110 (by decide) ?_
    refine lv_icmp_ne (tgt := 121) hx hb dX11_mark_111 (by decide) (fun _ => ?_) (fun c9 => absurd (by decide) c9)
    refine lv_bipush (v := 40) hx hb dX11_mark_121 (by decide) ?_
    refine lv_iload_n hx hb dX11_mark_123 rfl (lv_at hl 4 rfl) ?_
    refine lv_iadd hx hb dX11_mark_124 ?_
    refine lv_topi (fun y_358 ey_358 => ?_)
    obtain rfl : y_358 = 40 := ey_358.trans (by decide)
    refine va_iald hx hb hK hP 2 0 rfl rfl (by unfold vp_in; decide) dX11_mark_125 ?_
    refine lv_topi (fun y_359 ey_359 => ?_)
    obtain rfl : y_359 = 0 := ey_359.trans (hf_355 _ (by decide))
    subst efs_357
    subst efs_351
    have hP9 := hP.sub (ws' := []) [] rfl
    have hD9 := hD.sub (ws' := []) [] (by decide) rfl
    exact W.iret (v := 0) hx hb hr (fun t ht hW => ⟨⟨0, (), rfl, rfl, by rw [ht]; exact hP9, hD9⟩, hS.F ht⟩) hS.2.2 dX11_mark_126
  · refine lv_iload_n hx hb dX11_mark_9 rfl (lv_at hl 2 rfl) ?_
    refine lv_bipush (v := 8) hx hb dX11_mark_10 (by decide) ?_
    refine lv_icmp_ge (tgt := 29) hx hb dX11_mark_12 (by decide) (fun c_360 => ?_) (fun c_360 => ?_)
    · refine lv_iconst (v := 0) hx hb dX11_mark_29 (by decide) ?_
      refine lv_istore (lv' := [(4, .int 0), (0, .ref h0), (1, .int 2), (2, .int r), (3, .int 0)]) hx hb dX11_mark_30 hl (by decide) rfl (fun ls hl => ?_)
      refine lv_iload_n hx hb dX11_mark_32 rfl (lv_at hl 2 rfl) ?_
      refine lv_if_lt (tgt := 83) hx hb dX11_mark_33 (by decide) (fun c9 => absurd c9 (by decide)) (fun _ => ?_)
      refine lv_iload_n hx hb dX11_mark_36 rfl (lv_at hl 2 rfl) ?_
      refine lv_iconst (v := 2) hx hb dX11_mark_37 (by decide) ?_
      refine lv_icmp_gt (tgt := 83) hx hb dX11_mark_38 (by decide) (fun c9 => absurd c9 (by decide)) (fun _ => ?_)
      refine lv_iload_n hx hb dX11_mark_41 rfl (lv_at hl 2 rfl) ?_
      refine lv_iconst (v := 2) hx hb dX11_mark_42 (by decide) ?_
      refine lv_icmp_ge (tgt := 51) hx hb dX11_mark_43 (by decide) (fun _ => ?_) (fun c9 => absurd (by decide) c9)
      refine lv_iload_n hx hb dX11_mark_51 rfl (lv_at hl 2 rfl) ?_
      refine lv_if_ne (tgt := 69) hx hb dX11_mark_52 (by decide) (fun _ => ?_) (fun c9 => absurd (by decide) c9)
      refine lv_iload_n hx hb dX11_mark_69 rfl (lv_at hl 2 rfl) ?_
      refine lv_iconst (v := 2) hx hb dX11_mark_70 (by decide) ?_
      refine lv_icmp_ne (tgt := 85) hx hb dX11_mark_71 (by decide) (fun c9 => absurd c9 (by decide)) (fun _ => ?_)
      refine lv_iload_n hx hb dX11_mark_74 rfl (lv_at hl 4 rfl) ?_
      refine lv_if_lt (tgt := 83) hx hb dX11_mark_75 (by decide) (fun c9 => absurd c9 (by decide)) (fun _ => ?_)
      refine lv_iload_n hx hb dX11_mark_78 rfl (lv_at hl 4 rfl) ?_
      refine lv_iconst (v := 1) hx hb dX11_mark_79 (by decide) ?_
      refine lv_icmp_le (tgt := 85) hx hb dX11_mark_80 (by decide) (fun _ => ?_) (fun c9 => absurd (by decide) c9)
      refine lv_aload_n hx hb dX11_mark_85 rfl (lv_at hl 1 rfl) ?_
      have hPc := hP.sub (ws' := [(h0, .inr (10, fs_351)), (m_ih, .inl (cZ, 42, .inl f0))]) [0, 2] rfl
      have hDc := hD.sub (ws' := [(h0, .inr (10, fs_351)), (m_ih, .inl (cZ, 42, .inl f0))]) [0, 2] (by decide) rfl
      have hFc := va_free (wc := [(h0, .inr (10, fs_351)), (m_ih, .inl (cZ, 42, .inl f0))]) hD hS hA [0, 2] rfl
      refine va_callv (va_runV (As := []) (rest := []) ⟨hx, hb, hml, hown, hts⟩ (c_frees l dC dI cI cB cL cZ (h0) (m_ih) (fs_351) (f0) H.size glfs_351 (fs_ne efs_351 (by decide) g_fs_43)) (cwV 0 hts gX11_mark_X11_frees rfl rfl rfl (by decide +kernel) ⟨Nat.le_of_ble_eq_true rfl, Nat.le_of_ble_eq_true rfl⟩) ⟨cP_fb, va_recv hK hPc (ci := 10) (q0 := 0) rfl rfl, fun U hU hW => cP_pre hPc hK hDc hN U hU hW⟩ rfl rfl hl.1 rfl (lv_room (Nat.le_of_ble_eq_true rfl)) dX11_mark_86 ⟨Nat.le_of_ble_eq_true rfl, Nat.le_of_ble_eq_true rfl⟩) hS (fun q _ h => hFc q h) hFc (fun u t H1 locs ht hvm hw hB hz1 hk1 hS => ?_)
      obtain ⟨hP1, hD1⟩ := hB
      rw [ht] at hP1
      obtain ⟨hP, hD⟩ := va_join (wr := [(m_rf, .inl (cI, 16, .inl frf)), (m_mk, .inl (cI, 42, .inl f1)), (m_td, .inl (cI, 25, .inl f2))]) (w1 := [(h0, .inr (10, fs_351))]) hP hD [0, 2] [1, 3, 4] rfl rfl (by decide) (by decide) hk1 hFc hP1 hD1
      generalize H1 = H at hP hS ⊢
      have hP : va_P (dC, dI) vwCl [(m_rf, .inl (cI, 16, .inl frf)), (m_mk, .inl (cI, 42, .inl f1)), (m_td, .inl (cI, 25, .inl f2)), (h0, .inr (10, fs_351))] H := hP
      have hD : va_D A [(m_rf, .inl (cI, 16, .inl frf)), (m_mk, .inl (cI, 42, .inl f1)), (m_td, .inl (cI, 25, .inl f2)), (h0, .inr (10, fs_351))] := hD
      refine lv_aload_n hx hb dX11_mark_89 rfl (lv_at hl 1 rfl) ?_
      have hPc := hP.sub (ws' := [(h0, .inr (10, fs_351)), (m_mk, .inl (cI, 42, .inl f1)), (m_td, .inl (cI, 25, .inl f2))]) [3, 1, 2] rfl
      have hDc := hD.sub (ws' := [(h0, .inr (10, fs_351)), (m_mk, .inl (cI, 42, .inl f1)), (m_td, .inl (cI, 25, .inl f2))]) [3, 1, 2] (by decide) rfl
      have hFc := va_free (wc := [(h0, .inr (10, fs_351)), (m_mk, .inl (cI, 42, .inl f1)), (m_td, .inl (cI, 25, .inl f2))]) hD hS hA [3, 1, 2] rfl
      refine va_callv (va_runV (As := []) (rest := []) ⟨hx, hb, hml, hown, hts⟩ (c_reckons l dC dI cI cB cL cZ (h0) (m_mk) (m_td) (fs_351) (f1) (f2) H.size glfs_351 (fs_ne efs_351 (by decide) g_fs_42) (fs_ne efs_351 (by decide) g_fs_44) (fs_ne efs_351 (by decide) g_fs_18) (fs_ne efs_351 (by decide) g_fs_39)) (cwV 0 hts gX11_mark_X11_reckons rfl rfl rfl (by decide +kernel) ⟨Nat.le_of_ble_eq_true rfl, Nat.le_of_ble_eq_true rfl⟩) ⟨cP_fb, va_recv hK hPc (ci := 10) (q0 := 0) rfl rfl, fun U hU hW => cP_pre hPc hK hDc hN U hU hW⟩ rfl rfl hl.1 rfl (lv_room (Nat.le_of_ble_eq_true rfl)) dX11_mark_90 ⟨Nat.le_of_ble_eq_true rfl, Nat.le_of_ble_eq_true rfl⟩) hS (fun q _ h => hFc q h) hFc (fun u t H1 locs ht hvm hw hB hz1 hk1 hS => ?_)
      obtain ⟨f_362, hf_363, hP1, hD1⟩ := hB
      rw [ht] at hP1
      obtain ⟨hP, hD⟩ := va_join (wr := [(m_rf, .inl (cI, 16, .inl frf))]) (w1 := [(h0, .inr (10, (fs_351.set 45 (.int 0)))), (m_mk, .inl (cI, 42, .inl f_362))]) hP hD [3, 1, 2] [0] rfl rfl (by decide) (by decide) hk1 hFc hP1 hD1
      generalize H1 = H at hP hS ⊢
      obtain ⟨fs_365, efs_365⟩ : ∃ z : List Value, z = fs_351.set 45 (.int 0) := ⟨_, rfl⟩
      have glfs_365 : fs_365.length = 68 := fs_len efs_365 glfs_351
      have hP : va_P (dC, dI) vwCl [(m_rf, .inl (cI, 16, .inl frf)), (h0, .inr (10, fs_365)), (m_mk, .inl (cI, 42, .inl f_362))] H := by rw [efs_365]; exact hP
      have hD : va_D A [(m_rf, .inl (cI, 16, .inl frf)), (h0, .inr (10, fs_365)), (m_mk, .inl (cI, 42, .inl f_362))] := by rw [efs_365]; exact hD
      refine lv_aload_n hx hb dX11_mark_93 rfl (lv_at hl 1 rfl) ?_
      refine va_get (D := (dC, dI)) (ci := 10) (v := .ref m_mk) (C := RX11) (T := TX11) (N := 68) hx hb hts iwwsX11_mark_11 hown hK hP 1 rfl rfl 42 (by decide) (hts (.fieldLink RX11 93 "NothingJudgeModel" "marks" "[I") fwwsX11_mark_93) (fun _ h9 => h9) (fs_ne efs_365 (by decide) (fs_ne efs_351 (by decide) g_fs_42)) dX11_mark_94 ?_
      refine lv_iload_n hx hb dX11_mark_97 rfl (lv_at hl 2 rfl) ?_
      refine lv_if_ne (tgt := 109) hx hb dX11_mark_98 (by decide) (fun _ => ?_) (fun c9 => absurd (by decide) c9)
      refine lv_iload_n hx hb dX11_mark_109 rfl (lv_at hl 2 rfl) ?_
      refine lv_iconst (v := 1) hx hb dX11_mark_110 (by decide) ?_
      refine lv_icmp_ne (tgt := 121) hx hb dX11_mark_111 (by decide) (fun _ => ?_) (fun c9 => absurd (by decide) c9)
      refine lv_bipush (v := 40) hx hb dX11_mark_121 (by decide) ?_
      refine lv_iload_n hx hb dX11_mark_123 rfl (lv_at hl 4 rfl) ?_
      refine lv_iadd hx hb dX11_mark_124 ?_
      refine lv_topi (fun y_366 ey_366 => ?_)
      obtain rfl : y_366 = 40 := ey_366.trans (by decide)
      refine va_iald hx hb hK hP 2 0 rfl rfl (by unfold vp_in; decide) dX11_mark_125 ?_
      refine lv_topi (fun y_367 ey_367 => ?_)
      obtain rfl : y_367 = 0 := ey_367.trans (hf_363 _ (by decide))
      subst efs_365
      subst efs_351
      have hP9 := hP.sub (ws' := []) [] rfl
      have hD9 := hD.sub (ws' := []) [] (by decide) rfl
      exact W.iret (v := 0) hx hb hr (fun t ht hW => ⟨⟨0, (), rfl, rfl, by rw [ht]; exact hP9, hD9⟩, hS.F ht⟩) hS.2.2 dX11_mark_126
    · refine lv_aload_n hx hb dX11_mark_15 rfl (lv_at hl 0 rfl) ?_
      refine va_get (D := (dC, dI)) (ci := 10) (v := .ref m_rf) (C := RX11) (T := TX11) (N := 68) hx hb hts iwwsX11_mark_11 hown hK hP 0 rfl rfl 19 (by decide) (hts (.fieldLink RX11 32 "NothingJudgeModel" "routineFrom" "[I") fwwsX11_mark_32) (fun _ h9 => h9) (fs_ne efs_351 (by decide) g_fs_19) dX11_mark_16 ?_
      refine lv_iload_n hx hb dX11_mark_19 rfl (lv_at hl 2 rfl) ?_
      refine va_iald hx hb hK hP 1 0 rfl rfl (in_of (y := 16) (by decide) c_352 (fun h9 => c_360 (Int32.le_trans (by decide) h9)) (by decide)) dX11_mark_20 ?_
      refine lv_topi (fun y_368 ey_368 => ?_)
      obtain rfl : y_368 = (-1) := ey_368.trans (hrf _ (cl_of (y := 16) (by decide) c_352 (fun h9 => c_360 (Int32.le_trans (by decide) h9))))
      refine lv_iconst (v := (-1)) hx hb dX11_mark_21 (by decide) ?_
      refine lv_icmp_eq (tgt := 29) hx hb dX11_mark_22 (by decide) (fun _ => ?_) (fun c9 => absurd (by decide) c9)
      refine lv_iconst (v := 0) hx hb dX11_mark_29 (by decide) ?_
      refine lv_istore (lv' := [(4, .int 0), (0, .ref h0), (1, .int 2), (2, .int r), (3, .int 0)]) hx hb dX11_mark_30 hl (by decide) rfl (fun ls hl => ?_)
      refine lv_iload_n hx hb dX11_mark_32 rfl (lv_at hl 2 rfl) ?_
      refine lv_if_lt (tgt := 83) hx hb dX11_mark_33 (by decide) (fun c9 => absurd c9 (by decide)) (fun _ => ?_)
      refine lv_iload_n hx hb dX11_mark_36 rfl (lv_at hl 2 rfl) ?_
      refine lv_iconst (v := 2) hx hb dX11_mark_37 (by decide) ?_
      refine lv_icmp_gt (tgt := 83) hx hb dX11_mark_38 (by decide) (fun c9 => absurd c9 (by decide)) (fun _ => ?_)
      refine lv_iload_n hx hb dX11_mark_41 rfl (lv_at hl 2 rfl) ?_
      refine lv_iconst (v := 2) hx hb dX11_mark_42 (by decide) ?_
      refine lv_icmp_ge (tgt := 51) hx hb dX11_mark_43 (by decide) (fun _ => ?_) (fun c9 => absurd (by decide) c9)
      refine lv_iload_n hx hb dX11_mark_51 rfl (lv_at hl 2 rfl) ?_
      refine lv_if_ne (tgt := 69) hx hb dX11_mark_52 (by decide) (fun _ => ?_) (fun c9 => absurd (by decide) c9)
      refine lv_iload_n hx hb dX11_mark_69 rfl (lv_at hl 2 rfl) ?_
      refine lv_iconst (v := 2) hx hb dX11_mark_70 (by decide) ?_
      refine lv_icmp_ne (tgt := 85) hx hb dX11_mark_71 (by decide) (fun c9 => absurd c9 (by decide)) (fun _ => ?_)
      refine lv_iload_n hx hb dX11_mark_74 rfl (lv_at hl 4 rfl) ?_
      refine lv_if_lt (tgt := 83) hx hb dX11_mark_75 (by decide) (fun c9 => absurd c9 (by decide)) (fun _ => ?_)
      refine lv_iload_n hx hb dX11_mark_78 rfl (lv_at hl 4 rfl) ?_
      refine lv_iconst (v := 1) hx hb dX11_mark_79 (by decide) ?_
      refine lv_icmp_le (tgt := 85) hx hb dX11_mark_80 (by decide) (fun _ => ?_) (fun c9 => absurd (by decide) c9)
      refine lv_aload_n hx hb dX11_mark_85 rfl (lv_at hl 1 rfl) ?_
      have hPc := hP.sub (ws' := [(h0, .inr (10, fs_351)), (m_ih, .inl (cZ, 42, .inl f0))]) [0, 2] rfl
      have hDc := hD.sub (ws' := [(h0, .inr (10, fs_351)), (m_ih, .inl (cZ, 42, .inl f0))]) [0, 2] (by decide) rfl
      have hFc := va_free (wc := [(h0, .inr (10, fs_351)), (m_ih, .inl (cZ, 42, .inl f0))]) hD hS hA [0, 2] rfl
      refine va_callv (va_runV (As := []) (rest := []) ⟨hx, hb, hml, hown, hts⟩ (c_frees l dC dI cI cB cL cZ (h0) (m_ih) (fs_351) (f0) H.size glfs_351 (fs_ne efs_351 (by decide) g_fs_43)) (cwV 0 hts gX11_mark_X11_frees rfl rfl rfl (by decide +kernel) ⟨Nat.le_of_ble_eq_true rfl, Nat.le_of_ble_eq_true rfl⟩) ⟨cP_fb, va_recv hK hPc (ci := 10) (q0 := 0) rfl rfl, fun U hU hW => cP_pre hPc hK hDc hN U hU hW⟩ rfl rfl hl.1 rfl (lv_room (Nat.le_of_ble_eq_true rfl)) dX11_mark_86 ⟨Nat.le_of_ble_eq_true rfl, Nat.le_of_ble_eq_true rfl⟩) hS (fun q _ h => hFc q h) hFc (fun u t H1 locs ht hvm hw hB hz1 hk1 hS => ?_)
      obtain ⟨hP1, hD1⟩ := hB
      rw [ht] at hP1
      obtain ⟨hP, hD⟩ := va_join (wr := [(m_rf, .inl (cI, 16, .inl frf)), (m_mk, .inl (cI, 42, .inl f1)), (m_td, .inl (cI, 25, .inl f2))]) (w1 := [(h0, .inr (10, fs_351))]) hP hD [0, 2] [1, 3, 4] rfl rfl (by decide) (by decide) hk1 hFc hP1 hD1
      generalize H1 = H at hP hS ⊢
      have hP : va_P (dC, dI) vwCl [(m_rf, .inl (cI, 16, .inl frf)), (m_mk, .inl (cI, 42, .inl f1)), (m_td, .inl (cI, 25, .inl f2)), (h0, .inr (10, fs_351))] H := hP
      have hD : va_D A [(m_rf, .inl (cI, 16, .inl frf)), (m_mk, .inl (cI, 42, .inl f1)), (m_td, .inl (cI, 25, .inl f2)), (h0, .inr (10, fs_351))] := hD
      refine lv_aload_n hx hb dX11_mark_89 rfl (lv_at hl 1 rfl) ?_
      have hPc := hP.sub (ws' := [(h0, .inr (10, fs_351)), (m_mk, .inl (cI, 42, .inl f1)), (m_td, .inl (cI, 25, .inl f2))]) [3, 1, 2] rfl
      have hDc := hD.sub (ws' := [(h0, .inr (10, fs_351)), (m_mk, .inl (cI, 42, .inl f1)), (m_td, .inl (cI, 25, .inl f2))]) [3, 1, 2] (by decide) rfl
      have hFc := va_free (wc := [(h0, .inr (10, fs_351)), (m_mk, .inl (cI, 42, .inl f1)), (m_td, .inl (cI, 25, .inl f2))]) hD hS hA [3, 1, 2] rfl
      refine va_callv (va_runV (As := []) (rest := []) ⟨hx, hb, hml, hown, hts⟩ (c_reckons l dC dI cI cB cL cZ (h0) (m_mk) (m_td) (fs_351) (f1) (f2) H.size glfs_351 (fs_ne efs_351 (by decide) g_fs_42) (fs_ne efs_351 (by decide) g_fs_44) (fs_ne efs_351 (by decide) g_fs_18) (fs_ne efs_351 (by decide) g_fs_39)) (cwV 0 hts gX11_mark_X11_reckons rfl rfl rfl (by decide +kernel) ⟨Nat.le_of_ble_eq_true rfl, Nat.le_of_ble_eq_true rfl⟩) ⟨cP_fb, va_recv hK hPc (ci := 10) (q0 := 0) rfl rfl, fun U hU hW => cP_pre hPc hK hDc hN U hU hW⟩ rfl rfl hl.1 rfl (lv_room (Nat.le_of_ble_eq_true rfl)) dX11_mark_90 ⟨Nat.le_of_ble_eq_true rfl, Nat.le_of_ble_eq_true rfl⟩) hS (fun q _ h => hFc q h) hFc (fun u t H1 locs ht hvm hw hB hz1 hk1 hS => ?_)
      obtain ⟨f_370, hf_371, hP1, hD1⟩ := hB
      rw [ht] at hP1
      obtain ⟨hP, hD⟩ := va_join (wr := [(m_rf, .inl (cI, 16, .inl frf))]) (w1 := [(h0, .inr (10, (fs_351.set 45 (.int 0)))), (m_mk, .inl (cI, 42, .inl f_370))]) hP hD [3, 1, 2] [0] rfl rfl (by decide) (by decide) hk1 hFc hP1 hD1
      generalize H1 = H at hP hS ⊢
      obtain ⟨fs_373, efs_373⟩ : ∃ z : List Value, z = fs_351.set 45 (.int 0) := ⟨_, rfl⟩
      have glfs_373 : fs_373.length = 68 := fs_len efs_373 glfs_351
      have hP : va_P (dC, dI) vwCl [(m_rf, .inl (cI, 16, .inl frf)), (h0, .inr (10, fs_373)), (m_mk, .inl (cI, 42, .inl f_370))] H := by rw [efs_373]; exact hP
      have hD : va_D A [(m_rf, .inl (cI, 16, .inl frf)), (h0, .inr (10, fs_373)), (m_mk, .inl (cI, 42, .inl f_370))] := by rw [efs_373]; exact hD
      refine lv_aload_n hx hb dX11_mark_93 rfl (lv_at hl 1 rfl) ?_
      refine va_get (D := (dC, dI)) (ci := 10) (v := .ref m_mk) (C := RX11) (T := TX11) (N := 68) hx hb hts iwwsX11_mark_11 hown hK hP 1 rfl rfl 42 (by decide) (hts (.fieldLink RX11 93 "NothingJudgeModel" "marks" "[I") fwwsX11_mark_93) (fun _ h9 => h9) (fs_ne efs_373 (by decide) (fs_ne efs_351 (by decide) g_fs_42)) dX11_mark_94 ?_
      refine lv_iload_n hx hb dX11_mark_97 rfl (lv_at hl 2 rfl) ?_
      refine lv_if_ne (tgt := 109) hx hb dX11_mark_98 (by decide) (fun _ => ?_) (fun c9 => absurd (by decide) c9)
      refine lv_iload_n hx hb dX11_mark_109 rfl (lv_at hl 2 rfl) ?_
      refine lv_iconst (v := 1) hx hb dX11_mark_110 (by decide) ?_
      refine lv_icmp_ne (tgt := 121) hx hb dX11_mark_111 (by decide) (fun _ => ?_) (fun c9 => absurd (by decide) c9)
      refine lv_bipush (v := 40) hx hb dX11_mark_121 (by decide) ?_
      refine lv_iload_n hx hb dX11_mark_123 rfl (lv_at hl 4 rfl) ?_
      refine lv_iadd hx hb dX11_mark_124 ?_
      refine lv_topi (fun y_374 ey_374 => ?_)
      obtain rfl : y_374 = 40 := ey_374.trans (by decide)
      refine va_iald hx hb hK hP 2 0 rfl rfl (by unfold vp_in; decide) dX11_mark_125 ?_
      refine lv_topi (fun y_375 ey_375 => ?_)
      obtain rfl : y_375 = 0 := ey_375.trans (hf_371 _ (by decide))
      subst efs_373
      subst efs_351
      have hP9 := hP.sub (ws' := []) [] rfl
      have hD9 := hD.sub (ws' := []) [] (by decide) rfl
      exact W.iret (v := 0) hx hb hr (fun t ht hW => ⟨⟨0, (), rfl, rfl, by rw [ht]; exact hP9, hD9⟩, hS.F ht⟩) hS.2.2 dX11_mark_126

set_option maxHeartbeats 4000000 in
set_option maxRecDepth 100000 in
theorem m_mark1 (l : Launch) (dC : Nat → ClassId) (dI : Nat → Nat → Nat) (cI cB cL cZ : ClassId) (h0 : Nat) (m_rf : Nat) (m_ih : Nat) (m_mk : Nat) (m_td : Nat) (r : Int32) (fs : List Value) (frf : Nat → Int32) (f0 : Nat → Int32) (f1 : Nat → Int32) (f2 : Nat → Int32) (sz : Nat) (gl_fs : fs.length = 68) (g_fs_19 : fs[19]? = some (.ref m_rf)) (g_fs_43 : fs[43]? = some (.ref m_ih)) (g_fs_42 : fs[42]? = some (.ref m_mk)) (g_fs_44 : fs[44]? = some (.ref m_td)) (g_fs_18 : fs[18]? = some (.int 0)) (g_fs_39 : fs[39]? = some (.int (-1))) (hrf : ∀ j, j < 16 → frf j = -1) : Met l yX11_mark wsX11_mark ({ frames := 1, cells := 0, slots := 0, locals := 21 }) (cP (dC, dI) (kTy cI cB cL cZ) [.ref h0, .int 2, .int r, .int 1] [(h0, .inr (10, fs)), (m_rf, .inl (cI, 16, .inl frf)), (m_ih, .inl (cZ, 42, .inl f0)), (m_mk, .inl (cI, 42, .inl f1)), (m_td, .inl (cI, 25, .inl f2))] sz) (va_Qi (fun (r : Int32) (_ : Unit) => r = 0) (fun (_ : Unit) (t : State) => va_P (dC, dI) vwCl [] t.heap ∧ va_D (va_A [(h0, .inr (10, fs)), (m_rf, .inl (cI, 16, .inl frf)), (m_ih, .inl (cZ, 42, .inl f0)), (m_mk, .inl (cI, 42, .inl f1)), (m_td, .inl (cI, 25, .inl f2))] sz) []) (va_A [(h0, .inr (10, fs)), (m_rf, .inl (cI, 16, .inl frf)), (m_ih, .inl (cZ, 42, .inl f0)), (m_mk, .inl (cI, 42, .inl f1)), (m_td, .inl (cI, 25, .inl f2))] sz)) 0 0 (va_A [(h0, .inr (10, fs)), (m_rf, .inl (cI, 16, .inl frf)), (m_ih, .inl (cZ, 42, .inl f0)), (m_mk, .inl (cI, 42, .inl f1)), (m_td, .inl (cI, 25, .inl f2))] sz) := by
  refine Met.ofW (cc := cX11_mark) (maxL := 5) (ret := (some .int)) (by decide) rfl ?_
  intro p e s m args below meth c s₁ B hml hv
  obtain ⟨rfl, hsz, hP, hK, hD0, hN⟩ := hv
  have hx := B.exec
  have hb := B.bytes
  have hr := B.returns
  have hts := atoms_spec (ws := wsX11_mark) B.pre
  have hown : s.vm.findClass RX11 = some m.cls := findClass_of_methodNamed B.named
  have hlocks := B.notSynchronized
  subst hsz
  have hD := hD0.self (sz := s.heap.size)
  generalize hAe : va_A [(h0, .inr (10, fs)), (m_rf, .inl (cI, 16, .inl frf)), (m_ih, .inl (cZ, 42, .inl f0)), (m_mk, .inl (cI, 42, .inl f1)), (m_td, .inl (cI, 25, .inl f2))] s.heap.size = A at hD ⊢
  have hA : ∀ q : Nat, s.heap.size ≤ q → A q := fun q h => by rw [← hAe]; exact Or.inr h
  have hl := lv_entry ([.ref h0, .int 2, .int r, .int 1]) (n := 5) (Nat.le_of_ble_eq_true rfl)
  rw [lg_entry_eq]
  generalize (lg_sl ([.ref h0, .int 2, .int r, .int 1]) ++ List.replicate (5 - (lg_sl ([.ref h0, .int 2, .int r, .int 1])).length) Slot.unset).toArray = ls at hl ⊢
  have hl : lv_has ls 5 [(0, .ref h0), (1, .int 2), (2, .int r), (3, .int 1)] := hl
  refine k_H (A := A) hP (fun H hP hS => ?_)
  have hP : va_P (dC, dI) vwCl [(h0, .inr (10, fs)), (m_rf, .inl (cI, 16, .inl frf)), (m_ih, .inl (cZ, 42, .inl f0)), (m_mk, .inl (cI, 42, .inl f1)), (m_td, .inl (cI, 25, .inl f2))] H := hP
  have hD : va_D A [(h0, .inr (10, fs)), (m_rf, .inl (cI, 16, .inl frf)), (m_ih, .inl (cZ, 42, .inl f0)), (m_mk, .inl (cI, 42, .inl f1)), (m_td, .inl (cI, 25, .inl f2))] := hD
  refine lv_aload_n hx hb dX11_mark_0 rfl (lv_at hl 0 rfl) ?_
  refine lv_iconst (v := 0) hx hb dX11_mark_1 (by decide) ?_
  refine va_put (D := (dC, dI)) (ci := 10) (v := .int 0) (ty := .int) (C := RX11) (T := TX11) (N := 68) hx hb hts iwwsX11_mark_11 tyX11 tyX11_ok nmX11 hown hK hP hD hS 0 rfl rfl 0 (by decide) (hts (.fieldLink RX11 121 "NothingJudgeModel" "thrown" "I") fwwsX11_mark_121) (fun _ h9 => h9) rfl (by decide +kernel) rfl rfl (by rw [gl_fs]; decide) dX11_mark_2 (fun H locs hP hD hS => ?_)
  obtain ⟨fs_376, efs_376⟩ : ∃ z : List Value, z = fs.set 0 (.int 0) := ⟨_, rfl⟩
  have glfs_376 : fs_376.length = 68 := fs_len efs_376 gl_fs
  have hP : va_P (dC, dI) vwCl [(h0, .inr (10, fs_376)), (m_rf, .inl (cI, 16, .inl frf)), (m_ih, .inl (cZ, 42, .inl f0)), (m_mk, .inl (cI, 42, .inl f1)), (m_td, .inl (cI, 25, .inl f2))] H := by rw [efs_376]; exact hP
  have hD : va_D A [(h0, .inr (10, fs_376)), (m_rf, .inl (cI, 16, .inl frf)), (m_ih, .inl (cZ, 42, .inl f0)), (m_mk, .inl (cI, 42, .inl f1)), (m_td, .inl (cI, 25, .inl f2))] := by rw [efs_376]; exact hD
  refine lv_iload_n hx hb dX11_mark_5 rfl (lv_at hl 2 rfl) ?_
  refine lv_if_lt (tgt := 29) hx hb dX11_mark_6 (by decide) (fun c_377 => ?_) (fun c_377 => ?_)
  · refine lv_iconst (v := 0) hx hb dX11_mark_29 (by decide) ?_
    refine lv_istore (lv' := [(4, .int 0), (0, .ref h0), (1, .int 2), (2, .int r), (3, .int 1)]) hx hb dX11_mark_30 hl (by decide) rfl (fun ls hl => ?_)
    refine lv_iload_n hx hb dX11_mark_32 rfl (lv_at hl 2 rfl) ?_
    refine lv_if_lt (tgt := 83) hx hb dX11_mark_33 (by decide) (fun c9 => absurd c9 (by decide)) (fun _ => ?_)
    refine lv_iload_n hx hb dX11_mark_36 rfl (lv_at hl 2 rfl) ?_
    refine lv_iconst (v := 2) hx hb dX11_mark_37 (by decide) ?_
    refine lv_icmp_gt (tgt := 83) hx hb dX11_mark_38 (by decide) (fun c9 => absurd c9 (by decide)) (fun _ => ?_)
    refine lv_iload_n hx hb dX11_mark_41 rfl (lv_at hl 2 rfl) ?_
    refine lv_iconst (v := 2) hx hb dX11_mark_42 (by decide) ?_
    refine lv_icmp_ge (tgt := 51) hx hb dX11_mark_43 (by decide) (fun _ => ?_) (fun c9 => absurd (by decide) c9)
    refine lv_iload_n hx hb dX11_mark_51 rfl (lv_at hl 2 rfl) ?_
    refine lv_if_ne (tgt := 69) hx hb dX11_mark_52 (by decide) (fun _ => ?_) (fun c9 => absurd (by decide) c9)
    refine lv_iload_n hx hb dX11_mark_69 rfl (lv_at hl 2 rfl) ?_
    refine lv_iconst (v := 2) hx hb dX11_mark_70 (by decide) ?_
    refine lv_icmp_ne (tgt := 85) hx hb dX11_mark_71 (by decide) (fun c9 => absurd c9 (by decide)) (fun _ => ?_)
    refine lv_iload_n hx hb dX11_mark_74 rfl (lv_at hl 4 rfl) ?_
    refine lv_if_lt (tgt := 83) hx hb dX11_mark_75 (by decide) (fun c9 => absurd c9 (by decide)) (fun _ => ?_)
    refine lv_iload_n hx hb dX11_mark_78 rfl (lv_at hl 4 rfl) ?_
    refine lv_iconst (v := 1) hx hb dX11_mark_79 (by decide) ?_
    refine lv_icmp_le (tgt := 85) hx hb dX11_mark_80 (by decide) (fun _ => ?_) (fun c9 => absurd (by decide) c9)
    refine lv_aload_n hx hb dX11_mark_85 rfl (lv_at hl 1 rfl) ?_
    have hPc := hP.sub (ws' := [(h0, .inr (10, fs_376)), (m_ih, .inl (cZ, 42, .inl f0))]) [0, 2] rfl
    have hDc := hD.sub (ws' := [(h0, .inr (10, fs_376)), (m_ih, .inl (cZ, 42, .inl f0))]) [0, 2] (by decide) rfl
    have hFc := va_free (wc := [(h0, .inr (10, fs_376)), (m_ih, .inl (cZ, 42, .inl f0))]) hD hS hA [0, 2] rfl
    refine va_callv (va_runV (As := []) (rest := []) ⟨hx, hb, hml, hown, hts⟩ (c_frees l dC dI cI cB cL cZ (h0) (m_ih) (fs_376) (f0) H.size glfs_376 (fs_ne efs_376 (by decide) g_fs_43)) (cwV 0 hts gX11_mark_X11_frees rfl rfl rfl (by decide +kernel) ⟨Nat.le_of_ble_eq_true rfl, Nat.le_of_ble_eq_true rfl⟩) ⟨cP_fb, va_recv hK hPc (ci := 10) (q0 := 0) rfl rfl, fun U hU hW => cP_pre hPc hK hDc hN U hU hW⟩ rfl rfl hl.1 rfl (lv_room (Nat.le_of_ble_eq_true rfl)) dX11_mark_86 ⟨Nat.le_of_ble_eq_true rfl, Nat.le_of_ble_eq_true rfl⟩) hS (fun q _ h => hFc q h) hFc (fun u t H1 locs ht hvm hw hB hz1 hk1 hS => ?_)
    obtain ⟨hP1, hD1⟩ := hB
    rw [ht] at hP1
    obtain ⟨hP, hD⟩ := va_join (wr := [(m_rf, .inl (cI, 16, .inl frf)), (m_mk, .inl (cI, 42, .inl f1)), (m_td, .inl (cI, 25, .inl f2))]) (w1 := [(h0, .inr (10, fs_376))]) hP hD [0, 2] [1, 3, 4] rfl rfl (by decide) (by decide) hk1 hFc hP1 hD1
    generalize H1 = H at hP hS ⊢
    have hP : va_P (dC, dI) vwCl [(m_rf, .inl (cI, 16, .inl frf)), (m_mk, .inl (cI, 42, .inl f1)), (m_td, .inl (cI, 25, .inl f2)), (h0, .inr (10, fs_376))] H := hP
    have hD : va_D A [(m_rf, .inl (cI, 16, .inl frf)), (m_mk, .inl (cI, 42, .inl f1)), (m_td, .inl (cI, 25, .inl f2)), (h0, .inr (10, fs_376))] := hD
    refine lv_aload_n hx hb dX11_mark_89 rfl (lv_at hl 1 rfl) ?_
    have hPc := hP.sub (ws' := [(h0, .inr (10, fs_376)), (m_mk, .inl (cI, 42, .inl f1)), (m_td, .inl (cI, 25, .inl f2))]) [3, 1, 2] rfl
    have hDc := hD.sub (ws' := [(h0, .inr (10, fs_376)), (m_mk, .inl (cI, 42, .inl f1)), (m_td, .inl (cI, 25, .inl f2))]) [3, 1, 2] (by decide) rfl
    have hFc := va_free (wc := [(h0, .inr (10, fs_376)), (m_mk, .inl (cI, 42, .inl f1)), (m_td, .inl (cI, 25, .inl f2))]) hD hS hA [3, 1, 2] rfl
    refine va_callv (va_runV (As := []) (rest := []) ⟨hx, hb, hml, hown, hts⟩ (c_reckons l dC dI cI cB cL cZ (h0) (m_mk) (m_td) (fs_376) (f1) (f2) H.size glfs_376 (fs_ne efs_376 (by decide) g_fs_42) (fs_ne efs_376 (by decide) g_fs_44) (fs_ne efs_376 (by decide) g_fs_18) (fs_ne efs_376 (by decide) g_fs_39)) (cwV 0 hts gX11_mark_X11_reckons rfl rfl rfl (by decide +kernel) ⟨Nat.le_of_ble_eq_true rfl, Nat.le_of_ble_eq_true rfl⟩) ⟨cP_fb, va_recv hK hPc (ci := 10) (q0 := 0) rfl rfl, fun U hU hW => cP_pre hPc hK hDc hN U hU hW⟩ rfl rfl hl.1 rfl (lv_room (Nat.le_of_ble_eq_true rfl)) dX11_mark_90 ⟨Nat.le_of_ble_eq_true rfl, Nat.le_of_ble_eq_true rfl⟩) hS (fun q _ h => hFc q h) hFc (fun u t H1 locs ht hvm hw hB hz1 hk1 hS => ?_)
    obtain ⟨f_379, hf_380, hP1, hD1⟩ := hB
    rw [ht] at hP1
    obtain ⟨hP, hD⟩ := va_join (wr := [(m_rf, .inl (cI, 16, .inl frf))]) (w1 := [(h0, .inr (10, (fs_376.set 45 (.int 0)))), (m_mk, .inl (cI, 42, .inl f_379))]) hP hD [3, 1, 2] [0] rfl rfl (by decide) (by decide) hk1 hFc hP1 hD1
    generalize H1 = H at hP hS ⊢
    obtain ⟨fs_382, efs_382⟩ : ∃ z : List Value, z = fs_376.set 45 (.int 0) := ⟨_, rfl⟩
    have glfs_382 : fs_382.length = 68 := fs_len efs_382 glfs_376
    have hP : va_P (dC, dI) vwCl [(m_rf, .inl (cI, 16, .inl frf)), (h0, .inr (10, fs_382)), (m_mk, .inl (cI, 42, .inl f_379))] H := by rw [efs_382]; exact hP
    have hD : va_D A [(m_rf, .inl (cI, 16, .inl frf)), (h0, .inr (10, fs_382)), (m_mk, .inl (cI, 42, .inl f_379))] := by rw [efs_382]; exact hD
    refine lv_aload_n hx hb dX11_mark_93 rfl (lv_at hl 1 rfl) ?_
    refine va_get (D := (dC, dI)) (ci := 10) (v := .ref m_mk) (C := RX11) (T := TX11) (N := 68) hx hb hts iwwsX11_mark_11 hown hK hP 1 rfl rfl 42 (by decide) (hts (.fieldLink RX11 93 "NothingJudgeModel" "marks" "[I") fwwsX11_mark_93) (fun _ h9 => h9) (fs_ne efs_382 (by decide) (fs_ne efs_376 (by decide) g_fs_42)) dX11_mark_94 ?_
    refine lv_iload_n hx hb dX11_mark_97 rfl (lv_at hl 2 rfl) ?_
    refine lv_if_ne (tgt := 109) hx hb dX11_mark_98 (by decide) (fun _ => ?_) (fun c9 => absurd (by decide) c9)
    refine lv_iload_n hx hb dX11_mark_109 rfl (lv_at hl 2 rfl) ?_
    refine lv_iconst (v := 1) hx hb dX11_mark_110 (by decide) ?_
    refine lv_icmp_ne (tgt := 121) hx hb dX11_mark_111 (by decide) (fun _ => ?_) (fun c9 => absurd (by decide) c9)
    refine lv_bipush (v := 40) hx hb dX11_mark_121 (by decide) ?_
    refine lv_iload_n hx hb dX11_mark_123 rfl (lv_at hl 4 rfl) ?_
    refine lv_iadd hx hb dX11_mark_124 ?_
    refine lv_topi (fun y_383 ey_383 => ?_)
    obtain rfl : y_383 = 41 := ey_383.trans (by decide)
    refine va_iald hx hb hK hP 2 0 rfl rfl (by unfold vp_in; decide) dX11_mark_125 ?_
    refine lv_topi (fun y_384 ey_384 => ?_)
    obtain rfl : y_384 = 0 := ey_384.trans (hf_380 _ (by decide))
    subst efs_382
    subst efs_376
    have hP9 := hP.sub (ws' := []) [] rfl
    have hD9 := hD.sub (ws' := []) [] (by decide) rfl
    exact W.iret (v := 0) hx hb hr (fun t ht hW => ⟨⟨0, (), rfl, rfl, by rw [ht]; exact hP9, hD9⟩, hS.F ht⟩) hS.2.2 dX11_mark_126
  · refine lv_iload_n hx hb dX11_mark_9 rfl (lv_at hl 2 rfl) ?_
    refine lv_bipush (v := 8) hx hb dX11_mark_10 (by decide) ?_
    refine lv_icmp_ge (tgt := 29) hx hb dX11_mark_12 (by decide) (fun c_385 => ?_) (fun c_385 => ?_)
    · refine lv_iconst (v := 0) hx hb dX11_mark_29 (by decide) ?_
      refine lv_istore (lv' := [(4, .int 0), (0, .ref h0), (1, .int 2), (2, .int r), (3, .int 1)]) hx hb dX11_mark_30 hl (by decide) rfl (fun ls hl => ?_)
      refine lv_iload_n hx hb dX11_mark_32 rfl (lv_at hl 2 rfl) ?_
      refine lv_if_lt (tgt := 83) hx hb dX11_mark_33 (by decide) (fun c9 => absurd c9 (by decide)) (fun _ => ?_)
      refine lv_iload_n hx hb dX11_mark_36 rfl (lv_at hl 2 rfl) ?_
      refine lv_iconst (v := 2) hx hb dX11_mark_37 (by decide) ?_
      refine lv_icmp_gt (tgt := 83) hx hb dX11_mark_38 (by decide) (fun c9 => absurd c9 (by decide)) (fun _ => ?_)
      refine lv_iload_n hx hb dX11_mark_41 rfl (lv_at hl 2 rfl) ?_
      refine lv_iconst (v := 2) hx hb dX11_mark_42 (by decide) ?_
      refine lv_icmp_ge (tgt := 51) hx hb dX11_mark_43 (by decide) (fun _ => ?_) (fun c9 => absurd (by decide) c9)
      refine lv_iload_n hx hb dX11_mark_51 rfl (lv_at hl 2 rfl) ?_
      refine lv_if_ne (tgt := 69) hx hb dX11_mark_52 (by decide) (fun _ => ?_) (fun c9 => absurd (by decide) c9)
      refine lv_iload_n hx hb dX11_mark_69 rfl (lv_at hl 2 rfl) ?_
      refine lv_iconst (v := 2) hx hb dX11_mark_70 (by decide) ?_
      refine lv_icmp_ne (tgt := 85) hx hb dX11_mark_71 (by decide) (fun c9 => absurd c9 (by decide)) (fun _ => ?_)
      refine lv_iload_n hx hb dX11_mark_74 rfl (lv_at hl 4 rfl) ?_
      refine lv_if_lt (tgt := 83) hx hb dX11_mark_75 (by decide) (fun c9 => absurd c9 (by decide)) (fun _ => ?_)
      refine lv_iload_n hx hb dX11_mark_78 rfl (lv_at hl 4 rfl) ?_
      refine lv_iconst (v := 1) hx hb dX11_mark_79 (by decide) ?_
      refine lv_icmp_le (tgt := 85) hx hb dX11_mark_80 (by decide) (fun _ => ?_) (fun c9 => absurd (by decide) c9)
      refine lv_aload_n hx hb dX11_mark_85 rfl (lv_at hl 1 rfl) ?_
      have hPc := hP.sub (ws' := [(h0, .inr (10, fs_376)), (m_ih, .inl (cZ, 42, .inl f0))]) [0, 2] rfl
      have hDc := hD.sub (ws' := [(h0, .inr (10, fs_376)), (m_ih, .inl (cZ, 42, .inl f0))]) [0, 2] (by decide) rfl
      have hFc := va_free (wc := [(h0, .inr (10, fs_376)), (m_ih, .inl (cZ, 42, .inl f0))]) hD hS hA [0, 2] rfl
      refine va_callv (va_runV (As := []) (rest := []) ⟨hx, hb, hml, hown, hts⟩ (c_frees l dC dI cI cB cL cZ (h0) (m_ih) (fs_376) (f0) H.size glfs_376 (fs_ne efs_376 (by decide) g_fs_43)) (cwV 0 hts gX11_mark_X11_frees rfl rfl rfl (by decide +kernel) ⟨Nat.le_of_ble_eq_true rfl, Nat.le_of_ble_eq_true rfl⟩) ⟨cP_fb, va_recv hK hPc (ci := 10) (q0 := 0) rfl rfl, fun U hU hW => cP_pre hPc hK hDc hN U hU hW⟩ rfl rfl hl.1 rfl (lv_room (Nat.le_of_ble_eq_true rfl)) dX11_mark_86 ⟨Nat.le_of_ble_eq_true rfl, Nat.le_of_ble_eq_true rfl⟩) hS (fun q _ h => hFc q h) hFc (fun u t H1 locs ht hvm hw hB hz1 hk1 hS => ?_)
      obtain ⟨hP1, hD1⟩ := hB
      rw [ht] at hP1
      obtain ⟨hP, hD⟩ := va_join (wr := [(m_rf, .inl (cI, 16, .inl frf)), (m_mk, .inl (cI, 42, .inl f1)), (m_td, .inl (cI, 25, .inl f2))]) (w1 := [(h0, .inr (10, fs_376))]) hP hD [0, 2] [1, 3, 4] rfl rfl (by decide) (by decide) hk1 hFc hP1 hD1
      generalize H1 = H at hP hS ⊢
      have hP : va_P (dC, dI) vwCl [(m_rf, .inl (cI, 16, .inl frf)), (m_mk, .inl (cI, 42, .inl f1)), (m_td, .inl (cI, 25, .inl f2)), (h0, .inr (10, fs_376))] H := hP
      have hD : va_D A [(m_rf, .inl (cI, 16, .inl frf)), (m_mk, .inl (cI, 42, .inl f1)), (m_td, .inl (cI, 25, .inl f2)), (h0, .inr (10, fs_376))] := hD
      refine lv_aload_n hx hb dX11_mark_89 rfl (lv_at hl 1 rfl) ?_
      have hPc := hP.sub (ws' := [(h0, .inr (10, fs_376)), (m_mk, .inl (cI, 42, .inl f1)), (m_td, .inl (cI, 25, .inl f2))]) [3, 1, 2] rfl
      have hDc := hD.sub (ws' := [(h0, .inr (10, fs_376)), (m_mk, .inl (cI, 42, .inl f1)), (m_td, .inl (cI, 25, .inl f2))]) [3, 1, 2] (by decide) rfl
      have hFc := va_free (wc := [(h0, .inr (10, fs_376)), (m_mk, .inl (cI, 42, .inl f1)), (m_td, .inl (cI, 25, .inl f2))]) hD hS hA [3, 1, 2] rfl
      refine va_callv (va_runV (As := []) (rest := []) ⟨hx, hb, hml, hown, hts⟩ (c_reckons l dC dI cI cB cL cZ (h0) (m_mk) (m_td) (fs_376) (f1) (f2) H.size glfs_376 (fs_ne efs_376 (by decide) g_fs_42) (fs_ne efs_376 (by decide) g_fs_44) (fs_ne efs_376 (by decide) g_fs_18) (fs_ne efs_376 (by decide) g_fs_39)) (cwV 0 hts gX11_mark_X11_reckons rfl rfl rfl (by decide +kernel) ⟨Nat.le_of_ble_eq_true rfl, Nat.le_of_ble_eq_true rfl⟩) ⟨cP_fb, va_recv hK hPc (ci := 10) (q0 := 0) rfl rfl, fun U hU hW => cP_pre hPc hK hDc hN U hU hW⟩ rfl rfl hl.1 rfl (lv_room (Nat.le_of_ble_eq_true rfl)) dX11_mark_90 ⟨Nat.le_of_ble_eq_true rfl, Nat.le_of_ble_eq_true rfl⟩) hS (fun q _ h => hFc q h) hFc (fun u t H1 locs ht hvm hw hB hz1 hk1 hS => ?_)
      obtain ⟨f_387, hf_388, hP1, hD1⟩ := hB
      rw [ht] at hP1
      obtain ⟨hP, hD⟩ := va_join (wr := [(m_rf, .inl (cI, 16, .inl frf))]) (w1 := [(h0, .inr (10, (fs_376.set 45 (.int 0)))), (m_mk, .inl (cI, 42, .inl f_387))]) hP hD [3, 1, 2] [0] rfl rfl (by decide) (by decide) hk1 hFc hP1 hD1
      generalize H1 = H at hP hS ⊢
      obtain ⟨fs_390, efs_390⟩ : ∃ z : List Value, z = fs_376.set 45 (.int 0) := ⟨_, rfl⟩
      have glfs_390 : fs_390.length = 68 := fs_len efs_390 glfs_376
      have hP : va_P (dC, dI) vwCl [(m_rf, .inl (cI, 16, .inl frf)), (h0, .inr (10, fs_390)), (m_mk, .inl (cI, 42, .inl f_387))] H := by rw [efs_390]; exact hP
      have hD : va_D A [(m_rf, .inl (cI, 16, .inl frf)), (h0, .inr (10, fs_390)), (m_mk, .inl (cI, 42, .inl f_387))] := by rw [efs_390]; exact hD
      refine lv_aload_n hx hb dX11_mark_93 rfl (lv_at hl 1 rfl) ?_
      refine va_get (D := (dC, dI)) (ci := 10) (v := .ref m_mk) (C := RX11) (T := TX11) (N := 68) hx hb hts iwwsX11_mark_11 hown hK hP 1 rfl rfl 42 (by decide) (hts (.fieldLink RX11 93 "NothingJudgeModel" "marks" "[I") fwwsX11_mark_93) (fun _ h9 => h9) (fs_ne efs_390 (by decide) (fs_ne efs_376 (by decide) g_fs_42)) dX11_mark_94 ?_
      refine lv_iload_n hx hb dX11_mark_97 rfl (lv_at hl 2 rfl) ?_
      refine lv_if_ne (tgt := 109) hx hb dX11_mark_98 (by decide) (fun _ => ?_) (fun c9 => absurd (by decide) c9)
      refine lv_iload_n hx hb dX11_mark_109 rfl (lv_at hl 2 rfl) ?_
      refine lv_iconst (v := 1) hx hb dX11_mark_110 (by decide) ?_
      refine lv_icmp_ne (tgt := 121) hx hb dX11_mark_111 (by decide) (fun _ => ?_) (fun c9 => absurd (by decide) c9)
      refine lv_bipush (v := 40) hx hb dX11_mark_121 (by decide) ?_
      refine lv_iload_n hx hb dX11_mark_123 rfl (lv_at hl 4 rfl) ?_
      refine lv_iadd hx hb dX11_mark_124 ?_
      refine lv_topi (fun y_391 ey_391 => ?_)
      obtain rfl : y_391 = 41 := ey_391.trans (by decide)
      refine va_iald hx hb hK hP 2 0 rfl rfl (by unfold vp_in; decide) dX11_mark_125 ?_
      refine lv_topi (fun y_392 ey_392 => ?_)
      obtain rfl : y_392 = 0 := ey_392.trans (hf_388 _ (by decide))
      subst efs_390
      subst efs_376
      have hP9 := hP.sub (ws' := []) [] rfl
      have hD9 := hD.sub (ws' := []) [] (by decide) rfl
      exact W.iret (v := 0) hx hb hr (fun t ht hW => ⟨⟨0, (), rfl, rfl, by rw [ht]; exact hP9, hD9⟩, hS.F ht⟩) hS.2.2 dX11_mark_126
    · refine lv_aload_n hx hb dX11_mark_15 rfl (lv_at hl 0 rfl) ?_
      refine va_get (D := (dC, dI)) (ci := 10) (v := .ref m_rf) (C := RX11) (T := TX11) (N := 68) hx hb hts iwwsX11_mark_11 hown hK hP 0 rfl rfl 19 (by decide) (hts (.fieldLink RX11 32 "NothingJudgeModel" "routineFrom" "[I") fwwsX11_mark_32) (fun _ h9 => h9) (fs_ne efs_376 (by decide) g_fs_19) dX11_mark_16 ?_
      refine lv_iload_n hx hb dX11_mark_19 rfl (lv_at hl 2 rfl) ?_
      refine va_iald hx hb hK hP 1 0 rfl rfl (in_of (y := 16) (by decide) c_377 (fun h9 => c_385 (Int32.le_trans (by decide) h9)) (by decide)) dX11_mark_20 ?_
      refine lv_topi (fun y_393 ey_393 => ?_)
      obtain rfl : y_393 = (-1) := ey_393.trans (hrf _ (cl_of (y := 16) (by decide) c_377 (fun h9 => c_385 (Int32.le_trans (by decide) h9))))
      refine lv_iconst (v := (-1)) hx hb dX11_mark_21 (by decide) ?_
      refine lv_icmp_eq (tgt := 29) hx hb dX11_mark_22 (by decide) (fun _ => ?_) (fun c9 => absurd (by decide) c9)
      refine lv_iconst (v := 0) hx hb dX11_mark_29 (by decide) ?_
      refine lv_istore (lv' := [(4, .int 0), (0, .ref h0), (1, .int 2), (2, .int r), (3, .int 1)]) hx hb dX11_mark_30 hl (by decide) rfl (fun ls hl => ?_)
      refine lv_iload_n hx hb dX11_mark_32 rfl (lv_at hl 2 rfl) ?_
      refine lv_if_lt (tgt := 83) hx hb dX11_mark_33 (by decide) (fun c9 => absurd c9 (by decide)) (fun _ => ?_)
      refine lv_iload_n hx hb dX11_mark_36 rfl (lv_at hl 2 rfl) ?_
      refine lv_iconst (v := 2) hx hb dX11_mark_37 (by decide) ?_
      refine lv_icmp_gt (tgt := 83) hx hb dX11_mark_38 (by decide) (fun c9 => absurd c9 (by decide)) (fun _ => ?_)
      refine lv_iload_n hx hb dX11_mark_41 rfl (lv_at hl 2 rfl) ?_
      refine lv_iconst (v := 2) hx hb dX11_mark_42 (by decide) ?_
      refine lv_icmp_ge (tgt := 51) hx hb dX11_mark_43 (by decide) (fun _ => ?_) (fun c9 => absurd (by decide) c9)
      refine lv_iload_n hx hb dX11_mark_51 rfl (lv_at hl 2 rfl) ?_
      refine lv_if_ne (tgt := 69) hx hb dX11_mark_52 (by decide) (fun _ => ?_) (fun c9 => absurd (by decide) c9)
      refine lv_iload_n hx hb dX11_mark_69 rfl (lv_at hl 2 rfl) ?_
      refine lv_iconst (v := 2) hx hb dX11_mark_70 (by decide) ?_
      refine lv_icmp_ne (tgt := 85) hx hb dX11_mark_71 (by decide) (fun c9 => absurd c9 (by decide)) (fun _ => ?_)
      refine lv_iload_n hx hb dX11_mark_74 rfl (lv_at hl 4 rfl) ?_
      refine lv_if_lt (tgt := 83) hx hb dX11_mark_75 (by decide) (fun c9 => absurd c9 (by decide)) (fun _ => ?_)
      refine lv_iload_n hx hb dX11_mark_78 rfl (lv_at hl 4 rfl) ?_
      refine lv_iconst (v := 1) hx hb dX11_mark_79 (by decide) ?_
      refine lv_icmp_le (tgt := 85) hx hb dX11_mark_80 (by decide) (fun _ => ?_) (fun c9 => absurd (by decide) c9)
      refine lv_aload_n hx hb dX11_mark_85 rfl (lv_at hl 1 rfl) ?_
      have hPc := hP.sub (ws' := [(h0, .inr (10, fs_376)), (m_ih, .inl (cZ, 42, .inl f0))]) [0, 2] rfl
      have hDc := hD.sub (ws' := [(h0, .inr (10, fs_376)), (m_ih, .inl (cZ, 42, .inl f0))]) [0, 2] (by decide) rfl
      have hFc := va_free (wc := [(h0, .inr (10, fs_376)), (m_ih, .inl (cZ, 42, .inl f0))]) hD hS hA [0, 2] rfl
      refine va_callv (va_runV (As := []) (rest := []) ⟨hx, hb, hml, hown, hts⟩ (c_frees l dC dI cI cB cL cZ (h0) (m_ih) (fs_376) (f0) H.size glfs_376 (fs_ne efs_376 (by decide) g_fs_43)) (cwV 0 hts gX11_mark_X11_frees rfl rfl rfl (by decide +kernel) ⟨Nat.le_of_ble_eq_true rfl, Nat.le_of_ble_eq_true rfl⟩) ⟨cP_fb, va_recv hK hPc (ci := 10) (q0 := 0) rfl rfl, fun U hU hW => cP_pre hPc hK hDc hN U hU hW⟩ rfl rfl hl.1 rfl (lv_room (Nat.le_of_ble_eq_true rfl)) dX11_mark_86 ⟨Nat.le_of_ble_eq_true rfl, Nat.le_of_ble_eq_true rfl⟩) hS (fun q _ h => hFc q h) hFc (fun u t H1 locs ht hvm hw hB hz1 hk1 hS => ?_)
      obtain ⟨hP1, hD1⟩ := hB
      rw [ht] at hP1
      obtain ⟨hP, hD⟩ := va_join (wr := [(m_rf, .inl (cI, 16, .inl frf)), (m_mk, .inl (cI, 42, .inl f1)), (m_td, .inl (cI, 25, .inl f2))]) (w1 := [(h0, .inr (10, fs_376))]) hP hD [0, 2] [1, 3, 4] rfl rfl (by decide) (by decide) hk1 hFc hP1 hD1
      generalize H1 = H at hP hS ⊢
      have hP : va_P (dC, dI) vwCl [(m_rf, .inl (cI, 16, .inl frf)), (m_mk, .inl (cI, 42, .inl f1)), (m_td, .inl (cI, 25, .inl f2)), (h0, .inr (10, fs_376))] H := hP
      have hD : va_D A [(m_rf, .inl (cI, 16, .inl frf)), (m_mk, .inl (cI, 42, .inl f1)), (m_td, .inl (cI, 25, .inl f2)), (h0, .inr (10, fs_376))] := hD
      refine lv_aload_n hx hb dX11_mark_89 rfl (lv_at hl 1 rfl) ?_
      have hPc := hP.sub (ws' := [(h0, .inr (10, fs_376)), (m_mk, .inl (cI, 42, .inl f1)), (m_td, .inl (cI, 25, .inl f2))]) [3, 1, 2] rfl
      have hDc := hD.sub (ws' := [(h0, .inr (10, fs_376)), (m_mk, .inl (cI, 42, .inl f1)), (m_td, .inl (cI, 25, .inl f2))]) [3, 1, 2] (by decide) rfl
      have hFc := va_free (wc := [(h0, .inr (10, fs_376)), (m_mk, .inl (cI, 42, .inl f1)), (m_td, .inl (cI, 25, .inl f2))]) hD hS hA [3, 1, 2] rfl
      refine va_callv (va_runV (As := []) (rest := []) ⟨hx, hb, hml, hown, hts⟩ (c_reckons l dC dI cI cB cL cZ (h0) (m_mk) (m_td) (fs_376) (f1) (f2) H.size glfs_376 (fs_ne efs_376 (by decide) g_fs_42) (fs_ne efs_376 (by decide) g_fs_44) (fs_ne efs_376 (by decide) g_fs_18) (fs_ne efs_376 (by decide) g_fs_39)) (cwV 0 hts gX11_mark_X11_reckons rfl rfl rfl (by decide +kernel) ⟨Nat.le_of_ble_eq_true rfl, Nat.le_of_ble_eq_true rfl⟩) ⟨cP_fb, va_recv hK hPc (ci := 10) (q0 := 0) rfl rfl, fun U hU hW => cP_pre hPc hK hDc hN U hU hW⟩ rfl rfl hl.1 rfl (lv_room (Nat.le_of_ble_eq_true rfl)) dX11_mark_90 ⟨Nat.le_of_ble_eq_true rfl, Nat.le_of_ble_eq_true rfl⟩) hS (fun q _ h => hFc q h) hFc (fun u t H1 locs ht hvm hw hB hz1 hk1 hS => ?_)
      obtain ⟨f_395, hf_396, hP1, hD1⟩ := hB
      rw [ht] at hP1
      obtain ⟨hP, hD⟩ := va_join (wr := [(m_rf, .inl (cI, 16, .inl frf))]) (w1 := [(h0, .inr (10, (fs_376.set 45 (.int 0)))), (m_mk, .inl (cI, 42, .inl f_395))]) hP hD [3, 1, 2] [0] rfl rfl (by decide) (by decide) hk1 hFc hP1 hD1
      generalize H1 = H at hP hS ⊢
      obtain ⟨fs_398, efs_398⟩ : ∃ z : List Value, z = fs_376.set 45 (.int 0) := ⟨_, rfl⟩
      have glfs_398 : fs_398.length = 68 := fs_len efs_398 glfs_376
      have hP : va_P (dC, dI) vwCl [(m_rf, .inl (cI, 16, .inl frf)), (h0, .inr (10, fs_398)), (m_mk, .inl (cI, 42, .inl f_395))] H := by rw [efs_398]; exact hP
      have hD : va_D A [(m_rf, .inl (cI, 16, .inl frf)), (h0, .inr (10, fs_398)), (m_mk, .inl (cI, 42, .inl f_395))] := by rw [efs_398]; exact hD
      refine lv_aload_n hx hb dX11_mark_93 rfl (lv_at hl 1 rfl) ?_
      refine va_get (D := (dC, dI)) (ci := 10) (v := .ref m_mk) (C := RX11) (T := TX11) (N := 68) hx hb hts iwwsX11_mark_11 hown hK hP 1 rfl rfl 42 (by decide) (hts (.fieldLink RX11 93 "NothingJudgeModel" "marks" "[I") fwwsX11_mark_93) (fun _ h9 => h9) (fs_ne efs_398 (by decide) (fs_ne efs_376 (by decide) g_fs_42)) dX11_mark_94 ?_
      refine lv_iload_n hx hb dX11_mark_97 rfl (lv_at hl 2 rfl) ?_
      refine lv_if_ne (tgt := 109) hx hb dX11_mark_98 (by decide) (fun _ => ?_) (fun c9 => absurd (by decide) c9)
      refine lv_iload_n hx hb dX11_mark_109 rfl (lv_at hl 2 rfl) ?_
      refine lv_iconst (v := 1) hx hb dX11_mark_110 (by decide) ?_
      refine lv_icmp_ne (tgt := 121) hx hb dX11_mark_111 (by decide) (fun _ => ?_) (fun c9 => absurd (by decide) c9)
      refine lv_bipush (v := 40) hx hb dX11_mark_121 (by decide) ?_
      refine lv_iload_n hx hb dX11_mark_123 rfl (lv_at hl 4 rfl) ?_
      refine lv_iadd hx hb dX11_mark_124 ?_
      refine lv_topi (fun y_399 ey_399 => ?_)
      obtain rfl : y_399 = 41 := ey_399.trans (by decide)
      refine va_iald hx hb hK hP 2 0 rfl rfl (by unfold vp_in; decide) dX11_mark_125 ?_
      refine lv_topi (fun y_400 ey_400 => ?_)
      obtain rfl : y_400 = 0 := ey_400.trans (hf_396 _ (by decide))
      subst efs_398
      subst efs_376
      have hP9 := hP.sub (ws' := []) [] rfl
      have hD9 := hD.sub (ws' := []) [] (by decide) rfl
      exact W.iret (v := 0) hx hb hr (fun t ht hW => ⟨⟨0, (), rfl, rfl, by rw [ht]; exact hP9, hD9⟩, hS.F ht⟩) hS.2.2 dX11_mark_126

set_option maxHeartbeats 4000000 in
set_option maxRecDepth 100000 in
theorem m_markN (l : Launch) (dC : Nat → ClassId) (dI : Nat → Nat → Nat) (cI cB cL cZ : ClassId) (h0 : Nat) (m_rf : Nat) (kd : Int32) (r : Int32) (k : Int32) (fs : List Value) (frf : Nat → Int32) (sz : Nat) (gl_fs : fs.length = 68) (g_fs_19 : fs[19]? = some (.ref m_rf)) (hrf : ∀ j, j < 16 → frf j = -1) (hn9 : ¬ (kd = 2 ∧ (k = 0 ∨ k = 1))) : Met l yX11_mark wsX11_mark ({ frames := 0, cells := 0, slots := 0, locals := 0 }) (cP (dC, dI) (kTy cI cB cL cZ) [.ref h0, .int kd, .int r, .int k] [(h0, .inr (10, fs)), (m_rf, .inl (cI, 16, .inl frf))] sz) (va_Qi (fun (r : Int32) (_ : Unit) => r = -1) (fun (_ : Unit) (t : State) => va_P (dC, dI) vwCl [] t.heap ∧ va_D (va_A [(h0, .inr (10, fs)), (m_rf, .inl (cI, 16, .inl frf))] sz) []) (va_A [(h0, .inr (10, fs)), (m_rf, .inl (cI, 16, .inl frf))] sz)) 0 0 (va_A [(h0, .inr (10, fs)), (m_rf, .inl (cI, 16, .inl frf))] sz) := by
  refine Met.ofW (cc := cX11_mark) (maxL := 5) (ret := (some .int)) (by decide) rfl ?_
  intro p e s m args below meth c s₁ B hml hv
  obtain ⟨rfl, hsz, hP, hK, hD0, hN⟩ := hv
  have hx := B.exec
  have hb := B.bytes
  have hr := B.returns
  have hts := atoms_spec (ws := wsX11_mark) B.pre
  have hown : s.vm.findClass RX11 = some m.cls := findClass_of_methodNamed B.named
  have hlocks := B.notSynchronized
  subst hsz
  have hD := hD0.self (sz := s.heap.size)
  generalize hAe : va_A [(h0, .inr (10, fs)), (m_rf, .inl (cI, 16, .inl frf))] s.heap.size = A at hD ⊢
  have hA : ∀ q : Nat, s.heap.size ≤ q → A q := fun q h => by rw [← hAe]; exact Or.inr h
  have hl := lv_entry ([.ref h0, .int kd, .int r, .int k]) (n := 5) (Nat.le_of_ble_eq_true rfl)
  rw [lg_entry_eq]
  generalize (lg_sl ([.ref h0, .int kd, .int r, .int k]) ++ List.replicate (5 - (lg_sl ([.ref h0, .int kd, .int r, .int k])).length) Slot.unset).toArray = ls at hl ⊢
  have hl : lv_has ls 5 [(0, .ref h0), (1, .int kd), (2, .int r), (3, .int k)] := hl
  refine k_H (A := A) hP (fun H hP hS => ?_)
  have hP : va_P (dC, dI) vwCl [(h0, .inr (10, fs)), (m_rf, .inl (cI, 16, .inl frf))] H := hP
  have hD : va_D A [(h0, .inr (10, fs)), (m_rf, .inl (cI, 16, .inl frf))] := hD
  refine lv_aload_n hx hb dX11_mark_0 rfl (lv_at hl 0 rfl) ?_
  refine lv_iconst (v := 0) hx hb dX11_mark_1 (by decide) ?_
  refine va_put (D := (dC, dI)) (ci := 10) (v := .int 0) (ty := .int) (C := RX11) (T := TX11) (N := 68) hx hb hts iwwsX11_mark_11 tyX11 tyX11_ok nmX11 hown hK hP hD hS 0 rfl rfl 0 (by decide) (hts (.fieldLink RX11 121 "NothingJudgeModel" "thrown" "I") fwwsX11_mark_121) (fun _ h9 => h9) rfl (by decide +kernel) rfl rfl (by rw [gl_fs]; decide) dX11_mark_2 (fun H locs hP hD hS => ?_)
  obtain ⟨fs_401, efs_401⟩ : ∃ z : List Value, z = fs.set 0 (.int 0) := ⟨_, rfl⟩
  have glfs_401 : fs_401.length = 68 := fs_len efs_401 gl_fs
  have hP : va_P (dC, dI) vwCl [(h0, .inr (10, fs_401)), (m_rf, .inl (cI, 16, .inl frf))] H := by rw [efs_401]; exact hP
  have hD : va_D A [(h0, .inr (10, fs_401)), (m_rf, .inl (cI, 16, .inl frf))] := by rw [efs_401]; exact hD
  refine lv_iload_n hx hb dX11_mark_5 rfl (lv_at hl 2 rfl) ?_
  refine lv_if_lt (tgt := 29) hx hb dX11_mark_6 (by decide) (fun c_402 => ?_) (fun c_402 => ?_)
  · refine lv_iconst (v := 0) hx hb dX11_mark_29 (by decide) ?_
    refine lv_istore (lv' := [(4, .int 0), (0, .ref h0), (1, .int kd), (2, .int r), (3, .int k)]) hx hb dX11_mark_30 hl (by decide) rfl (fun ls hl => ?_)
    refine lv_iload_n hx hb dX11_mark_32 rfl (lv_at hl 2 rfl) ?_
    refine lv_if_lt (tgt := 83) hx hb dX11_mark_33 (by decide) (fun c_403 => ?_) (fun c_403 => ?_)
    · refine lv_iconst (v := (-1)) hx hb dX11_mark_83 (by decide) ?_
      subst efs_401
      have hP9 := hP.sub (ws' := []) [] rfl
      have hD9 := hD.sub (ws' := []) [] (by decide) rfl
      exact W.iret (v := (-1)) hx hb hr (fun t ht hW => ⟨⟨(-1), (), rfl, rfl, by rw [ht]; exact hP9, hD9⟩, hS.F ht⟩) hS.2.2 dX11_mark_84
    · refine lv_iload_n hx hb dX11_mark_36 rfl (lv_at hl 2 rfl) ?_
      refine lv_iconst (v := 2) hx hb dX11_mark_37 (by decide) ?_
      refine lv_icmp_gt (tgt := 83) hx hb dX11_mark_38 (by decide) (fun c_404 => ?_) (fun c_404 => ?_)
      · refine lv_iconst (v := (-1)) hx hb dX11_mark_83 (by decide) ?_
        subst efs_401
        have hP9 := hP.sub (ws' := []) [] rfl
        have hD9 := hD.sub (ws' := []) [] (by decide) rfl
        exact W.iret (v := (-1)) hx hb hr (fun t ht hW => ⟨⟨(-1), (), rfl, rfl, by rw [ht]; exact hP9, hD9⟩, hS.F ht⟩) hS.2.2 dX11_mark_84
      · refine lv_iload_n hx hb dX11_mark_41 rfl (lv_at hl 2 rfl) ?_
        refine lv_iconst (v := 2) hx hb dX11_mark_42 (by decide) ?_
        refine lv_icmp_ge (tgt := 51) hx hb dX11_mark_43 (by decide) (fun c_405 => ?_) (fun c_405 => ?_)
        · refine lv_iload_n hx hb dX11_mark_51 rfl (lv_at hl 2 rfl) ?_
          refine lv_if_ne (tgt := 69) hx hb dX11_mark_52 (by decide) (fun _ => ?_) (fun c9 => absurd (fun h9 => absurd (h9 ▸ c_405 : (2 : Int32) ≤ 0) (by decide)) c9)
          refine lv_iload_n hx hb dX11_mark_69 rfl (lv_at hl 2 rfl) ?_
          refine lv_iconst (v := 2) hx hb dX11_mark_70 (by decide) ?_
          refine lv_icmp_ne (tgt := 85) hx hb dX11_mark_71 (by decide) (fun c9 => absurd c9 (fun h9 => h9 (Int32.le_antisymm (Int32.not_lt.mp c_404) c_405))) (fun _ => ?_)
          refine lv_iload_n hx hb dX11_mark_74 rfl (lv_at hl 4 rfl) ?_
          refine lv_if_lt (tgt := 83) hx hb dX11_mark_75 (by decide) (fun c_406 => ?_) (fun c_406 => ?_)
          · refine lv_iconst (v := (-1)) hx hb dX11_mark_83 (by decide) ?_
            subst efs_401
            have hP9 := hP.sub (ws' := []) [] rfl
            have hD9 := hD.sub (ws' := []) [] (by decide) rfl
            exact W.iret (v := (-1)) hx hb hr (fun t ht hW => ⟨⟨(-1), (), rfl, rfl, by rw [ht]; exact hP9, hD9⟩, hS.F ht⟩) hS.2.2 dX11_mark_84
          · refine lv_iload_n hx hb dX11_mark_78 rfl (lv_at hl 4 rfl) ?_
            refine lv_iconst (v := 1) hx hb dX11_mark_79 (by decide) ?_
            refine lv_icmp_le (tgt := 85) hx hb dX11_mark_80 (by decide) (fun c9 => absurd c9 (k_no (fun h9 => hn9 ⟨Int32.le_antisymm (Int32.not_lt.mp c_404) c_405, h9⟩) c_406)) (fun _ => ?_)
            refine lv_iconst (v := (-1)) hx hb dX11_mark_83 (by decide) ?_
            subst efs_401
            have hP9 := hP.sub (ws' := []) [] rfl
            have hD9 := hD.sub (ws' := []) [] (by decide) rfl
            exact W.iret (v := (-1)) hx hb hr (fun t ht hW => ⟨⟨(-1), (), rfl, rfl, by rw [ht]; exact hP9, hD9⟩, hS.F ht⟩) hS.2.2 dX11_mark_84
        · refine lv_iload hx hb dX11_mark_46 (lv_at hl 0 rfl) ?_
          refine lv_if_eq (tgt := 83) hx hb dX11_mark_48 (by decide) (fun _ => ?_) (fun c9 => absurd (by decide) c9)
          refine lv_iconst (v := (-1)) hx hb dX11_mark_83 (by decide) ?_
          subst efs_401
          have hP9 := hP.sub (ws' := []) [] rfl
          have hD9 := hD.sub (ws' := []) [] (by decide) rfl
          exact W.iret (v := (-1)) hx hb hr (fun t ht hW => ⟨⟨(-1), (), rfl, rfl, by rw [ht]; exact hP9, hD9⟩, hS.F ht⟩) hS.2.2 dX11_mark_84
  · refine lv_iload_n hx hb dX11_mark_9 rfl (lv_at hl 2 rfl) ?_
    refine lv_bipush (v := 8) hx hb dX11_mark_10 (by decide) ?_
    refine lv_icmp_ge (tgt := 29) hx hb dX11_mark_12 (by decide) (fun c_407 => ?_) (fun c_407 => ?_)
    · refine lv_iconst (v := 0) hx hb dX11_mark_29 (by decide) ?_
      refine lv_istore (lv' := [(4, .int 0), (0, .ref h0), (1, .int kd), (2, .int r), (3, .int k)]) hx hb dX11_mark_30 hl (by decide) rfl (fun ls hl => ?_)
      refine lv_iload_n hx hb dX11_mark_32 rfl (lv_at hl 2 rfl) ?_
      refine lv_if_lt (tgt := 83) hx hb dX11_mark_33 (by decide) (fun c_408 => ?_) (fun c_408 => ?_)
      · refine lv_iconst (v := (-1)) hx hb dX11_mark_83 (by decide) ?_
        subst efs_401
        have hP9 := hP.sub (ws' := []) [] rfl
        have hD9 := hD.sub (ws' := []) [] (by decide) rfl
        exact W.iret (v := (-1)) hx hb hr (fun t ht hW => ⟨⟨(-1), (), rfl, rfl, by rw [ht]; exact hP9, hD9⟩, hS.F ht⟩) hS.2.2 dX11_mark_84
      · refine lv_iload_n hx hb dX11_mark_36 rfl (lv_at hl 2 rfl) ?_
        refine lv_iconst (v := 2) hx hb dX11_mark_37 (by decide) ?_
        refine lv_icmp_gt (tgt := 83) hx hb dX11_mark_38 (by decide) (fun c_409 => ?_) (fun c_409 => ?_)
        · refine lv_iconst (v := (-1)) hx hb dX11_mark_83 (by decide) ?_
          subst efs_401
          have hP9 := hP.sub (ws' := []) [] rfl
          have hD9 := hD.sub (ws' := []) [] (by decide) rfl
          exact W.iret (v := (-1)) hx hb hr (fun t ht hW => ⟨⟨(-1), (), rfl, rfl, by rw [ht]; exact hP9, hD9⟩, hS.F ht⟩) hS.2.2 dX11_mark_84
        · refine lv_iload_n hx hb dX11_mark_41 rfl (lv_at hl 2 rfl) ?_
          refine lv_iconst (v := 2) hx hb dX11_mark_42 (by decide) ?_
          refine lv_icmp_ge (tgt := 51) hx hb dX11_mark_43 (by decide) (fun c_410 => ?_) (fun c_410 => ?_)
          · refine lv_iload_n hx hb dX11_mark_51 rfl (lv_at hl 2 rfl) ?_
            refine lv_if_ne (tgt := 69) hx hb dX11_mark_52 (by decide) (fun _ => ?_) (fun c9 => absurd (fun h9 => absurd (h9 ▸ c_410 : (2 : Int32) ≤ 0) (by decide)) c9)
            refine lv_iload_n hx hb dX11_mark_69 rfl (lv_at hl 2 rfl) ?_
            refine lv_iconst (v := 2) hx hb dX11_mark_70 (by decide) ?_
            refine lv_icmp_ne (tgt := 85) hx hb dX11_mark_71 (by decide) (fun c9 => absurd c9 (fun h9 => h9 (Int32.le_antisymm (Int32.not_lt.mp c_409) c_410))) (fun _ => ?_)
            refine lv_iload_n hx hb dX11_mark_74 rfl (lv_at hl 4 rfl) ?_
            refine lv_if_lt (tgt := 83) hx hb dX11_mark_75 (by decide) (fun c_411 => ?_) (fun c_411 => ?_)
            · refine lv_iconst (v := (-1)) hx hb dX11_mark_83 (by decide) ?_
              subst efs_401
              have hP9 := hP.sub (ws' := []) [] rfl
              have hD9 := hD.sub (ws' := []) [] (by decide) rfl
              exact W.iret (v := (-1)) hx hb hr (fun t ht hW => ⟨⟨(-1), (), rfl, rfl, by rw [ht]; exact hP9, hD9⟩, hS.F ht⟩) hS.2.2 dX11_mark_84
            · refine lv_iload_n hx hb dX11_mark_78 rfl (lv_at hl 4 rfl) ?_
              refine lv_iconst (v := 1) hx hb dX11_mark_79 (by decide) ?_
              refine lv_icmp_le (tgt := 85) hx hb dX11_mark_80 (by decide) (fun c9 => absurd c9 (k_no (fun h9 => hn9 ⟨Int32.le_antisymm (Int32.not_lt.mp c_409) c_410, h9⟩) c_411)) (fun _ => ?_)
              refine lv_iconst (v := (-1)) hx hb dX11_mark_83 (by decide) ?_
              subst efs_401
              have hP9 := hP.sub (ws' := []) [] rfl
              have hD9 := hD.sub (ws' := []) [] (by decide) rfl
              exact W.iret (v := (-1)) hx hb hr (fun t ht hW => ⟨⟨(-1), (), rfl, rfl, by rw [ht]; exact hP9, hD9⟩, hS.F ht⟩) hS.2.2 dX11_mark_84
          · refine lv_iload hx hb dX11_mark_46 (lv_at hl 0 rfl) ?_
            refine lv_if_eq (tgt := 83) hx hb dX11_mark_48 (by decide) (fun _ => ?_) (fun c9 => absurd (by decide) c9)
            refine lv_iconst (v := (-1)) hx hb dX11_mark_83 (by decide) ?_
            subst efs_401
            have hP9 := hP.sub (ws' := []) [] rfl
            have hD9 := hD.sub (ws' := []) [] (by decide) rfl
            exact W.iret (v := (-1)) hx hb hr (fun t ht hW => ⟨⟨(-1), (), rfl, rfl, by rw [ht]; exact hP9, hD9⟩, hS.F ht⟩) hS.2.2 dX11_mark_84
    · refine lv_aload_n hx hb dX11_mark_15 rfl (lv_at hl 0 rfl) ?_
      refine va_get (D := (dC, dI)) (ci := 10) (v := .ref m_rf) (C := RX11) (T := TX11) (N := 68) hx hb hts iwwsX11_mark_11 hown hK hP 0 rfl rfl 19 (by decide) (hts (.fieldLink RX11 32 "NothingJudgeModel" "routineFrom" "[I") fwwsX11_mark_32) (fun _ h9 => h9) (fs_ne efs_401 (by decide) g_fs_19) dX11_mark_16 ?_
      refine lv_iload_n hx hb dX11_mark_19 rfl (lv_at hl 2 rfl) ?_
      refine va_iald hx hb hK hP 1 0 rfl rfl (in_of (y := 16) (by decide) c_402 (fun h9 => c_407 (Int32.le_trans (by decide) h9)) (by decide)) dX11_mark_20 ?_
      refine lv_topi (fun y_412 ey_412 => ?_)
      obtain rfl : y_412 = (-1) := ey_412.trans (hrf _ (cl_of (y := 16) (by decide) c_402 (fun h9 => c_407 (Int32.le_trans (by decide) h9))))
      refine lv_iconst (v := (-1)) hx hb dX11_mark_21 (by decide) ?_
      refine lv_icmp_eq (tgt := 29) hx hb dX11_mark_22 (by decide) (fun _ => ?_) (fun c9 => absurd (by decide) c9)
      refine lv_iconst (v := 0) hx hb dX11_mark_29 (by decide) ?_
      refine lv_istore (lv' := [(4, .int 0), (0, .ref h0), (1, .int kd), (2, .int r), (3, .int k)]) hx hb dX11_mark_30 hl (by decide) rfl (fun ls hl => ?_)
      refine lv_iload_n hx hb dX11_mark_32 rfl (lv_at hl 2 rfl) ?_
      refine lv_if_lt (tgt := 83) hx hb dX11_mark_33 (by decide) (fun c_413 => ?_) (fun c_413 => ?_)
      · refine lv_iconst (v := (-1)) hx hb dX11_mark_83 (by decide) ?_
        subst efs_401
        have hP9 := hP.sub (ws' := []) [] rfl
        have hD9 := hD.sub (ws' := []) [] (by decide) rfl
        exact W.iret (v := (-1)) hx hb hr (fun t ht hW => ⟨⟨(-1), (), rfl, rfl, by rw [ht]; exact hP9, hD9⟩, hS.F ht⟩) hS.2.2 dX11_mark_84
      · refine lv_iload_n hx hb dX11_mark_36 rfl (lv_at hl 2 rfl) ?_
        refine lv_iconst (v := 2) hx hb dX11_mark_37 (by decide) ?_
        refine lv_icmp_gt (tgt := 83) hx hb dX11_mark_38 (by decide) (fun c_414 => ?_) (fun c_414 => ?_)
        · refine lv_iconst (v := (-1)) hx hb dX11_mark_83 (by decide) ?_
          subst efs_401
          have hP9 := hP.sub (ws' := []) [] rfl
          have hD9 := hD.sub (ws' := []) [] (by decide) rfl
          exact W.iret (v := (-1)) hx hb hr (fun t ht hW => ⟨⟨(-1), (), rfl, rfl, by rw [ht]; exact hP9, hD9⟩, hS.F ht⟩) hS.2.2 dX11_mark_84
        · refine lv_iload_n hx hb dX11_mark_41 rfl (lv_at hl 2 rfl) ?_
          refine lv_iconst (v := 2) hx hb dX11_mark_42 (by decide) ?_
          refine lv_icmp_ge (tgt := 51) hx hb dX11_mark_43 (by decide) (fun c_415 => ?_) (fun c_415 => ?_)
          · refine lv_iload_n hx hb dX11_mark_51 rfl (lv_at hl 2 rfl) ?_
            refine lv_if_ne (tgt := 69) hx hb dX11_mark_52 (by decide) (fun _ => ?_) (fun c9 => absurd (fun h9 => absurd (h9 ▸ c_415 : (2 : Int32) ≤ 0) (by decide)) c9)
            refine lv_iload_n hx hb dX11_mark_69 rfl (lv_at hl 2 rfl) ?_
            refine lv_iconst (v := 2) hx hb dX11_mark_70 (by decide) ?_
            refine lv_icmp_ne (tgt := 85) hx hb dX11_mark_71 (by decide) (fun c9 => absurd c9 (fun h9 => h9 (Int32.le_antisymm (Int32.not_lt.mp c_414) c_415))) (fun _ => ?_)
            refine lv_iload_n hx hb dX11_mark_74 rfl (lv_at hl 4 rfl) ?_
            refine lv_if_lt (tgt := 83) hx hb dX11_mark_75 (by decide) (fun c_416 => ?_) (fun c_416 => ?_)
            · refine lv_iconst (v := (-1)) hx hb dX11_mark_83 (by decide) ?_
              subst efs_401
              have hP9 := hP.sub (ws' := []) [] rfl
              have hD9 := hD.sub (ws' := []) [] (by decide) rfl
              exact W.iret (v := (-1)) hx hb hr (fun t ht hW => ⟨⟨(-1), (), rfl, rfl, by rw [ht]; exact hP9, hD9⟩, hS.F ht⟩) hS.2.2 dX11_mark_84
            · refine lv_iload_n hx hb dX11_mark_78 rfl (lv_at hl 4 rfl) ?_
              refine lv_iconst (v := 1) hx hb dX11_mark_79 (by decide) ?_
              refine lv_icmp_le (tgt := 85) hx hb dX11_mark_80 (by decide) (fun c9 => absurd c9 (k_no (fun h9 => hn9 ⟨Int32.le_antisymm (Int32.not_lt.mp c_414) c_415, h9⟩) c_416)) (fun _ => ?_)
              refine lv_iconst (v := (-1)) hx hb dX11_mark_83 (by decide) ?_
              subst efs_401
              have hP9 := hP.sub (ws' := []) [] rfl
              have hD9 := hD.sub (ws' := []) [] (by decide) rfl
              exact W.iret (v := (-1)) hx hb hr (fun t ht hW => ⟨⟨(-1), (), rfl, rfl, by rw [ht]; exact hP9, hD9⟩, hS.F ht⟩) hS.2.2 dX11_mark_84
          · refine lv_iload hx hb dX11_mark_46 (lv_at hl 0 rfl) ?_
            refine lv_if_eq (tgt := 83) hx hb dX11_mark_48 (by decide) (fun _ => ?_) (fun c9 => absurd (by decide) c9)
            refine lv_iconst (v := (-1)) hx hb dX11_mark_83 (by decide) ?_
            subst efs_401
            have hP9 := hP.sub (ws' := []) [] rfl
            have hD9 := hD.sub (ws' := []) [] (by decide) rfl
            exact W.iret (v := (-1)) hx hb hr (fun t ht hW => ⟨⟨(-1), (), rfl, rfl, by rw [ht]; exact hP9, hD9⟩, hS.F ht⟩) hS.2.2 dX11_mark_84

set_option maxHeartbeats 4000000 in
set_option maxRecDepth 100000 in
theorem m_count0 (l : Launch) (dC : Nat → ClassId) (dI : Nat → Nat → Nat) (cI cB cL cZ : ClassId) (h0 : Nat) (m_rf : Nat) (m_um : Nat) (m_tm : Nat) (fs : List Value) (frf : Nat → Int32) (fu : Nat → Int32) (ft : Nat → Int32) (sz : Nat) (gl_fs : fs.length = 68) (g_fs_19 : fs[19]? = some (.ref m_rf)) (g_fs_26 : fs[26]? = some (.ref m_um)) (g_fs_29 : fs[29]? = some (.ref m_tm)) (g_fs_39 : fs[39]? = some (.int (-1))) (hrf : ∀ j, j < 16 → frf j = -1) (hu : fu ((0 : Int32).toNatClampNeg) = 0) (ht : ft ((0 : Int32).toNatClampNeg) = 0) : Met l yX11_count wsX11_count ({ frames := 1, cells := 0, slots := 0, locals := 22 }) (cP (dC, dI) (kTy cI cB cL cZ) [.ref h0, .int 0] [(h0, .inr (10, fs)), (m_rf, .inl (cI, 16, .inl frf)), (m_um, .inl (cI, 2, .inl fu)), (m_tm, .inl (cI, 2, .inl ft))] sz) (va_Qi (fun (r : Int32) (_ : Unit) => r = 0) (fun (_ : Unit) (t : State) => va_P (dC, dI) vwCl [] t.heap ∧ va_D (va_A [(h0, .inr (10, fs)), (m_rf, .inl (cI, 16, .inl frf)), (m_um, .inl (cI, 2, .inl fu)), (m_tm, .inl (cI, 2, .inl ft))] sz) []) (va_A [(h0, .inr (10, fs)), (m_rf, .inl (cI, 16, .inl frf)), (m_um, .inl (cI, 2, .inl fu)), (m_tm, .inl (cI, 2, .inl ft))] sz)) 0 0 (va_A [(h0, .inr (10, fs)), (m_rf, .inl (cI, 16, .inl frf)), (m_um, .inl (cI, 2, .inl fu)), (m_tm, .inl (cI, 2, .inl ft))] sz) := by
  refine Met.ofW (cc := cX11_count) (maxL := 5) (ret := (some .int)) (by decide) rfl ?_
  intro p e s m args below meth c s₁ B hml hv
  obtain ⟨rfl, hsz, hP, hK, hD0, hN⟩ := hv
  have hx := B.exec
  have hb := B.bytes
  have hr := B.returns
  have hts := atoms_spec (ws := wsX11_count) B.pre
  have hown : s.vm.findClass RX11 = some m.cls := findClass_of_methodNamed B.named
  have hlocks := B.notSynchronized
  subst hsz
  have hD := hD0.self (sz := s.heap.size)
  generalize hAe : va_A [(h0, .inr (10, fs)), (m_rf, .inl (cI, 16, .inl frf)), (m_um, .inl (cI, 2, .inl fu)), (m_tm, .inl (cI, 2, .inl ft))] s.heap.size = A at hD ⊢
  have hA : ∀ q : Nat, s.heap.size ≤ q → A q := fun q h => by rw [← hAe]; exact Or.inr h
  have hl := lv_entry ([.ref h0, .int 0]) (n := 5) (Nat.le_of_ble_eq_true rfl)
  rw [lg_entry_eq]
  generalize (lg_sl ([.ref h0, .int 0]) ++ List.replicate (5 - (lg_sl ([.ref h0, .int 0])).length) Slot.unset).toArray = ls at hl ⊢
  have hl : lv_has ls 5 [(0, .ref h0), (1, .int 0)] := hl
  refine k_H (A := A) hP (fun H hP hS => ?_)
  have hP : va_P (dC, dI) vwCl [(h0, .inr (10, fs)), (m_rf, .inl (cI, 16, .inl frf)), (m_um, .inl (cI, 2, .inl fu)), (m_tm, .inl (cI, 2, .inl ft))] H := hP
  have hD : va_D A [(h0, .inr (10, fs)), (m_rf, .inl (cI, 16, .inl frf)), (m_um, .inl (cI, 2, .inl fu)), (m_tm, .inl (cI, 2, .inl ft))] := hD
  refine lv_aload_n hx hb dX11_count_0 rfl (lv_at hl 0 rfl) ?_
  refine lv_iconst (v := 0) hx hb dX11_count_1 (by decide) ?_
  refine va_put (D := (dC, dI)) (ci := 10) (v := .int 0) (ty := .int) (C := RX11) (T := TX11) (N := 68) hx hb hts iwwsX11_count_11 tyX11 tyX11_ok nmX11 hown hK hP hD hS 0 rfl rfl 0 (by decide) (hts (.fieldLink RX11 121 "NothingJudgeModel" "thrown" "I") fwwsX11_count_121) (fun _ h9 => h9) rfl (by decide +kernel) rfl rfl (by rw [gl_fs]; decide) dX11_count_2 (fun H locs hP hD hS => ?_)
  obtain ⟨fs_417, efs_417⟩ : ∃ z : List Value, z = fs.set 0 (.int 0) := ⟨_, rfl⟩
  have glfs_417 : fs_417.length = 68 := fs_len efs_417 gl_fs
  have hP : va_P (dC, dI) vwCl [(h0, .inr (10, fs_417)), (m_rf, .inl (cI, 16, .inl frf)), (m_um, .inl (cI, 2, .inl fu)), (m_tm, .inl (cI, 2, .inl ft))] H := by rw [efs_417]; exact hP
  have hD : va_D A [(h0, .inr (10, fs_417)), (m_rf, .inl (cI, 16, .inl frf)), (m_um, .inl (cI, 2, .inl fu)), (m_tm, .inl (cI, 2, .inl ft))] := by rw [efs_417]; exact hD
  refine lv_iconst (v := 0) hx hb dX11_count_5 (by decide) ?_
  refine lv_istore_n (lv' := [(2, .int 0), (0, .ref h0), (1, .int 0)]) hx hb dX11_count_6 rfl hl (by decide) rfl (fun ls hl => ?_)
  refine lv_iconst (v := 0) hx hb dX11_count_7 (by decide) ?_
  refine lv_istore_n (lv' := [(3, .int 0), (2, .int 0), (0, .ref h0), (1, .int 0)]) hx hb dX11_count_8 rfl hl (by decide) rfl (fun ls hl => ?_)
  refine lv_iload_n hx hb dX11_count_9 rfl (lv_at hl 3 rfl) ?_
  refine lv_iconst (v := 4) hx hb dX11_count_10 (by decide) ?_
  refine lv_icmp_eq (tgt := 19) hx hb dX11_count_11 (by decide) (fun c9 => absurd c9 (by decide)) (fun _ => ?_)
  refine lv_iload_n hx hb dX11_count_14 rfl (lv_at hl 3 rfl) ?_
  refine lv_iconst (v := 5) hx hb dX11_count_15 (by decide) ?_
  refine lv_icmp_ne (tgt := 83) hx hb dX11_count_16 (by decide) (fun _ => ?_) (fun c9 => absurd (by decide) c9)
  refine lv_iload_n hx hb dX11_count_83 rfl (lv_at hl 3 rfl) ?_
  refine lv_tableIn (off := 40) (tgt := 124) hx hb dX11_count_84 (by decide) (by decide) (by decide) (by decide) ?_
  refine lv_aload_n hx hb dX11_count_124 rfl (lv_at hl 2 rfl) ?_
  have hPc := hP.sub (ws' := [(h0, .inr (10, fs_417)), (m_rf, .inl (cI, 16, .inl frf))]) [0, 1] rfl
  have hDc := hD.sub (ws' := [(h0, .inr (10, fs_417)), (m_rf, .inl (cI, 16, .inl frf))]) [0, 1] (by decide) rfl
  have hFc := va_free (wc := [(h0, .inr (10, fs_417)), (m_rf, .inl (cI, 16, .inl frf))]) hD hS hA [0, 1] rfl
  refine va_calli (va_runV (As := []) (rest := []) ⟨hx, hb, hml, hown, hts⟩ (c_rmany l dC dI cI cB cL cZ (h0) (m_rf) (fs_417) (frf) H.size glfs_417 (fs_ne efs_417 (by decide) g_fs_19) (hrf)) (cwV 0 hts gX11_count_X11_routinesMany rfl rfl rfl (by decide +kernel) ⟨Nat.le_of_ble_eq_true rfl, Nat.le_of_ble_eq_true rfl⟩) ⟨cP_fb, va_recv hK hPc (ci := 10) (q0 := 0) rfl rfl, fun U hU hW => cP_pre hPc hK hDc hN U hU hW⟩ rfl rfl hl.1 rfl (lv_room (Nat.le_of_ble_eq_true rfl)) dX11_count_125 ⟨Nat.le_of_ble_eq_true rfl, Nat.le_of_ble_eq_true rfl⟩) hS (fun q _ h => hFc q h) hFc (fun r_418 u t H1 locs ht hvm hw hB hz1 hk1 hS => ?_)
  obtain ⟨hP1, hD1⟩ := hB
  rw [ht] at hP1
  obtain ⟨hP, hD⟩ := va_join (wr := [(m_um, .inl (cI, 2, .inl fu)), (m_tm, .inl (cI, 2, .inl ft))]) (w1 := [(h0, .inr (10, fs_417))]) hP hD [0, 1] [2, 3] rfl rfl (by decide) (by decide) hk1 hFc hP1 hD1
  generalize H1 = H at hP hS ⊢
  have hP : va_P (dC, dI) vwCl [(m_um, .inl (cI, 2, .inl fu)), (m_tm, .inl (cI, 2, .inl ft)), (h0, .inr (10, fs_417))] H := hP
  have hD : va_D A [(m_um, .inl (cI, 2, .inl fu)), (m_tm, .inl (cI, 2, .inl ft)), (h0, .inr (10, fs_417))] := hD
  obtain rfl : r_418 = 0 := hw
  subst efs_417
  have hP9 := hP.sub (ws' := []) [] rfl
  have hD9 := hD.sub (ws' := []) [] (by decide) rfl
  exact W.iret (v := 0) hx hb hr (fun t ht hW => ⟨⟨0, (), rfl, rfl, by rw [ht]; exact hP9, hD9⟩, hS.F ht⟩) hS.2.2 dX11_count_128

set_option maxHeartbeats 4000000 in
set_option maxRecDepth 100000 in
theorem m_count1 (l : Launch) (dC : Nat → ClassId) (dI : Nat → Nat → Nat) (cI cB cL cZ : ClassId) (h0 : Nat) (m_rf : Nat) (m_um : Nat) (m_tm : Nat) (fs : List Value) (frf : Nat → Int32) (fu : Nat → Int32) (ft : Nat → Int32) (sz : Nat) (gl_fs : fs.length = 68) (g_fs_19 : fs[19]? = some (.ref m_rf)) (g_fs_26 : fs[26]? = some (.ref m_um)) (g_fs_29 : fs[29]? = some (.ref m_tm)) (g_fs_39 : fs[39]? = some (.int (-1))) (hrf : ∀ j, j < 16 → frf j = -1) (hu : fu ((0 : Int32).toNatClampNeg) = 0) (ht : ft ((0 : Int32).toNatClampNeg) = 0) : Met l yX11_count wsX11_count ({ frames := 0, cells := 0, slots := 0, locals := 0 }) (cP (dC, dI) (kTy cI cB cL cZ) [.ref h0, .int 1] [(h0, .inr (10, fs)), (m_rf, .inl (cI, 16, .inl frf)), (m_um, .inl (cI, 2, .inl fu)), (m_tm, .inl (cI, 2, .inl ft))] sz) (va_Qi (fun (r : Int32) (_ : Unit) => r = 0) (fun (_ : Unit) (t : State) => va_P (dC, dI) vwCl [] t.heap ∧ va_D (va_A [(h0, .inr (10, fs)), (m_rf, .inl (cI, 16, .inl frf)), (m_um, .inl (cI, 2, .inl fu)), (m_tm, .inl (cI, 2, .inl ft))] sz) []) (va_A [(h0, .inr (10, fs)), (m_rf, .inl (cI, 16, .inl frf)), (m_um, .inl (cI, 2, .inl fu)), (m_tm, .inl (cI, 2, .inl ft))] sz)) 0 0 (va_A [(h0, .inr (10, fs)), (m_rf, .inl (cI, 16, .inl frf)), (m_um, .inl (cI, 2, .inl fu)), (m_tm, .inl (cI, 2, .inl ft))] sz) := by
  refine Met.ofW (cc := cX11_count) (maxL := 5) (ret := (some .int)) (by decide) rfl ?_
  intro p e s m args below meth c s₁ B hml hv
  obtain ⟨rfl, hsz, hP, hK, hD0, hN⟩ := hv
  have hx := B.exec
  have hb := B.bytes
  have hr := B.returns
  have hts := atoms_spec (ws := wsX11_count) B.pre
  have hown : s.vm.findClass RX11 = some m.cls := findClass_of_methodNamed B.named
  have hlocks := B.notSynchronized
  subst hsz
  have hD := hD0.self (sz := s.heap.size)
  generalize hAe : va_A [(h0, .inr (10, fs)), (m_rf, .inl (cI, 16, .inl frf)), (m_um, .inl (cI, 2, .inl fu)), (m_tm, .inl (cI, 2, .inl ft))] s.heap.size = A at hD ⊢
  have hA : ∀ q : Nat, s.heap.size ≤ q → A q := fun q h => by rw [← hAe]; exact Or.inr h
  have hl := lv_entry ([.ref h0, .int 1]) (n := 5) (Nat.le_of_ble_eq_true rfl)
  rw [lg_entry_eq]
  generalize (lg_sl ([.ref h0, .int 1]) ++ List.replicate (5 - (lg_sl ([.ref h0, .int 1])).length) Slot.unset).toArray = ls at hl ⊢
  have hl : lv_has ls 5 [(0, .ref h0), (1, .int 1)] := hl
  refine k_H (A := A) hP (fun H hP hS => ?_)
  have hP : va_P (dC, dI) vwCl [(h0, .inr (10, fs)), (m_rf, .inl (cI, 16, .inl frf)), (m_um, .inl (cI, 2, .inl fu)), (m_tm, .inl (cI, 2, .inl ft))] H := hP
  have hD : va_D A [(h0, .inr (10, fs)), (m_rf, .inl (cI, 16, .inl frf)), (m_um, .inl (cI, 2, .inl fu)), (m_tm, .inl (cI, 2, .inl ft))] := hD
  refine lv_aload_n hx hb dX11_count_0 rfl (lv_at hl 0 rfl) ?_
  refine lv_iconst (v := 0) hx hb dX11_count_1 (by decide) ?_
  refine va_put (D := (dC, dI)) (ci := 10) (v := .int 0) (ty := .int) (C := RX11) (T := TX11) (N := 68) hx hb hts iwwsX11_count_11 tyX11 tyX11_ok nmX11 hown hK hP hD hS 0 rfl rfl 0 (by decide) (hts (.fieldLink RX11 121 "NothingJudgeModel" "thrown" "I") fwwsX11_count_121) (fun _ h9 => h9) rfl (by decide +kernel) rfl rfl (by rw [gl_fs]; decide) dX11_count_2 (fun H locs hP hD hS => ?_)
  obtain ⟨fs_419, efs_419⟩ : ∃ z : List Value, z = fs.set 0 (.int 0) := ⟨_, rfl⟩
  have glfs_419 : fs_419.length = 68 := fs_len efs_419 gl_fs
  have hP : va_P (dC, dI) vwCl [(h0, .inr (10, fs_419)), (m_rf, .inl (cI, 16, .inl frf)), (m_um, .inl (cI, 2, .inl fu)), (m_tm, .inl (cI, 2, .inl ft))] H := by rw [efs_419]; exact hP
  have hD : va_D A [(h0, .inr (10, fs_419)), (m_rf, .inl (cI, 16, .inl frf)), (m_um, .inl (cI, 2, .inl fu)), (m_tm, .inl (cI, 2, .inl ft))] := by rw [efs_419]; exact hD
  refine lv_iconst (v := 0) hx hb dX11_count_5 (by decide) ?_
  refine lv_istore_n (lv' := [(2, .int 0), (0, .ref h0), (1, .int 1)]) hx hb dX11_count_6 rfl hl (by decide) rfl (fun ls hl => ?_)
  refine lv_iconst (v := 0) hx hb dX11_count_7 (by decide) ?_
  refine lv_istore_n (lv' := [(3, .int 0), (2, .int 0), (0, .ref h0), (1, .int 1)]) hx hb dX11_count_8 rfl hl (by decide) rfl (fun ls hl => ?_)
  refine lv_iload_n hx hb dX11_count_9 rfl (lv_at hl 3 rfl) ?_
  refine lv_iconst (v := 4) hx hb dX11_count_10 (by decide) ?_
  refine lv_icmp_eq (tgt := 19) hx hb dX11_count_11 (by decide) (fun c9 => absurd c9 (by decide)) (fun _ => ?_)
  refine lv_iload_n hx hb dX11_count_14 rfl (lv_at hl 3 rfl) ?_
  refine lv_iconst (v := 5) hx hb dX11_count_15 (by decide) ?_
  refine lv_icmp_ne (tgt := 83) hx hb dX11_count_16 (by decide) (fun _ => ?_) (fun c9 => absurd (by decide) c9)
  refine lv_iload_n hx hb dX11_count_83 rfl (lv_at hl 3 rfl) ?_
  refine lv_tableIn (off := 45) (tgt := 129) hx hb dX11_count_84 (by decide) (by decide) (by decide) (by decide) ?_
  refine lv_aload_n hx hb dX11_count_129 rfl (lv_at hl 2 rfl) ?_
  refine va_get (D := (dC, dI)) (ci := 10) (v := .ref m_um) (C := RX11) (T := TX11) (N := 68) hx hb hts iwwsX11_count_11 hown hK hP 0 rfl rfl 26 (by decide) (hts (.fieldLink RX11 53 "NothingJudgeModel" "useMany" "[I") fwwsX11_count_53) (fun _ h9 => h9) (fs_ne efs_419 (by decide) g_fs_26) dX11_count_130 ?_
  refine lv_iconst (v := 0) hx hb dX11_count_133 (by decide) ?_
  refine va_iald hx hb hK hP 2 0 rfl rfl (by unfold vp_in; decide) dX11_count_134 ?_
  refine lv_topi (fun y_420 ey_420 => ?_)
  obtain rfl : y_420 = 0 := ey_420.trans hu
  subst efs_419
  have hP9 := hP.sub (ws' := []) [] rfl
  have hD9 := hD.sub (ws' := []) [] (by decide) rfl
  exact W.iret (v := 0) hx hb hr (fun t ht hW => ⟨⟨0, (), rfl, rfl, by rw [ht]; exact hP9, hD9⟩, hS.F ht⟩) hS.2.2 dX11_count_135

set_option maxHeartbeats 4000000 in
set_option maxRecDepth 100000 in
theorem m_count2 (l : Launch) (dC : Nat → ClassId) (dI : Nat → Nat → Nat) (cI cB cL cZ : ClassId) (h0 : Nat) (m_rf : Nat) (m_um : Nat) (m_tm : Nat) (fs : List Value) (frf : Nat → Int32) (fu : Nat → Int32) (ft : Nat → Int32) (sz : Nat) (gl_fs : fs.length = 68) (g_fs_19 : fs[19]? = some (.ref m_rf)) (g_fs_26 : fs[26]? = some (.ref m_um)) (g_fs_29 : fs[29]? = some (.ref m_tm)) (g_fs_39 : fs[39]? = some (.int (-1))) (hrf : ∀ j, j < 16 → frf j = -1) (hu : fu ((0 : Int32).toNatClampNeg) = 0) (ht : ft ((0 : Int32).toNatClampNeg) = 0) : Met l yX11_count wsX11_count ({ frames := 0, cells := 0, slots := 0, locals := 0 }) (cP (dC, dI) (kTy cI cB cL cZ) [.ref h0, .int 2] [(h0, .inr (10, fs)), (m_rf, .inl (cI, 16, .inl frf)), (m_um, .inl (cI, 2, .inl fu)), (m_tm, .inl (cI, 2, .inl ft))] sz) (va_Qi (fun (r : Int32) (_ : Unit) => r = 0) (fun (_ : Unit) (t : State) => va_P (dC, dI) vwCl [] t.heap ∧ va_D (va_A [(h0, .inr (10, fs)), (m_rf, .inl (cI, 16, .inl frf)), (m_um, .inl (cI, 2, .inl fu)), (m_tm, .inl (cI, 2, .inl ft))] sz) []) (va_A [(h0, .inr (10, fs)), (m_rf, .inl (cI, 16, .inl frf)), (m_um, .inl (cI, 2, .inl fu)), (m_tm, .inl (cI, 2, .inl ft))] sz)) 0 0 (va_A [(h0, .inr (10, fs)), (m_rf, .inl (cI, 16, .inl frf)), (m_um, .inl (cI, 2, .inl fu)), (m_tm, .inl (cI, 2, .inl ft))] sz) := by
  refine Met.ofW (cc := cX11_count) (maxL := 5) (ret := (some .int)) (by decide) rfl ?_
  intro p e s m args below meth c s₁ B hml hv
  obtain ⟨rfl, hsz, hP, hK, hD0, hN⟩ := hv
  have hx := B.exec
  have hb := B.bytes
  have hr := B.returns
  have hts := atoms_spec (ws := wsX11_count) B.pre
  have hown : s.vm.findClass RX11 = some m.cls := findClass_of_methodNamed B.named
  have hlocks := B.notSynchronized
  subst hsz
  have hD := hD0.self (sz := s.heap.size)
  generalize hAe : va_A [(h0, .inr (10, fs)), (m_rf, .inl (cI, 16, .inl frf)), (m_um, .inl (cI, 2, .inl fu)), (m_tm, .inl (cI, 2, .inl ft))] s.heap.size = A at hD ⊢
  have hA : ∀ q : Nat, s.heap.size ≤ q → A q := fun q h => by rw [← hAe]; exact Or.inr h
  have hl := lv_entry ([.ref h0, .int 2]) (n := 5) (Nat.le_of_ble_eq_true rfl)
  rw [lg_entry_eq]
  generalize (lg_sl ([.ref h0, .int 2]) ++ List.replicate (5 - (lg_sl ([.ref h0, .int 2])).length) Slot.unset).toArray = ls at hl ⊢
  have hl : lv_has ls 5 [(0, .ref h0), (1, .int 2)] := hl
  refine k_H (A := A) hP (fun H hP hS => ?_)
  have hP : va_P (dC, dI) vwCl [(h0, .inr (10, fs)), (m_rf, .inl (cI, 16, .inl frf)), (m_um, .inl (cI, 2, .inl fu)), (m_tm, .inl (cI, 2, .inl ft))] H := hP
  have hD : va_D A [(h0, .inr (10, fs)), (m_rf, .inl (cI, 16, .inl frf)), (m_um, .inl (cI, 2, .inl fu)), (m_tm, .inl (cI, 2, .inl ft))] := hD
  refine lv_aload_n hx hb dX11_count_0 rfl (lv_at hl 0 rfl) ?_
  refine lv_iconst (v := 0) hx hb dX11_count_1 (by decide) ?_
  refine va_put (D := (dC, dI)) (ci := 10) (v := .int 0) (ty := .int) (C := RX11) (T := TX11) (N := 68) hx hb hts iwwsX11_count_11 tyX11 tyX11_ok nmX11 hown hK hP hD hS 0 rfl rfl 0 (by decide) (hts (.fieldLink RX11 121 "NothingJudgeModel" "thrown" "I") fwwsX11_count_121) (fun _ h9 => h9) rfl (by decide +kernel) rfl rfl (by rw [gl_fs]; decide) dX11_count_2 (fun H locs hP hD hS => ?_)
  obtain ⟨fs_421, efs_421⟩ : ∃ z : List Value, z = fs.set 0 (.int 0) := ⟨_, rfl⟩
  have glfs_421 : fs_421.length = 68 := fs_len efs_421 gl_fs
  have hP : va_P (dC, dI) vwCl [(h0, .inr (10, fs_421)), (m_rf, .inl (cI, 16, .inl frf)), (m_um, .inl (cI, 2, .inl fu)), (m_tm, .inl (cI, 2, .inl ft))] H := by rw [efs_421]; exact hP
  have hD : va_D A [(h0, .inr (10, fs_421)), (m_rf, .inl (cI, 16, .inl frf)), (m_um, .inl (cI, 2, .inl fu)), (m_tm, .inl (cI, 2, .inl ft))] := by rw [efs_421]; exact hD
  refine lv_iconst (v := 0) hx hb dX11_count_5 (by decide) ?_
  refine lv_istore_n (lv' := [(2, .int 0), (0, .ref h0), (1, .int 2)]) hx hb dX11_count_6 rfl hl (by decide) rfl (fun ls hl => ?_)
  refine lv_iconst (v := 0) hx hb dX11_count_7 (by decide) ?_
  refine lv_istore_n (lv' := [(3, .int 0), (2, .int 0), (0, .ref h0), (1, .int 2)]) hx hb dX11_count_8 rfl hl (by decide) rfl (fun ls hl => ?_)
  refine lv_iload_n hx hb dX11_count_9 rfl (lv_at hl 3 rfl) ?_
  refine lv_iconst (v := 4) hx hb dX11_count_10 (by decide) ?_
  refine lv_icmp_eq (tgt := 19) hx hb dX11_count_11 (by decide) (fun c9 => absurd c9 (by decide)) (fun _ => ?_)
  refine lv_iload_n hx hb dX11_count_14 rfl (lv_at hl 3 rfl) ?_
  refine lv_iconst (v := 5) hx hb dX11_count_15 (by decide) ?_
  refine lv_icmp_ne (tgt := 83) hx hb dX11_count_16 (by decide) (fun _ => ?_) (fun c9 => absurd (by decide) c9)
  refine lv_iload_n hx hb dX11_count_83 rfl (lv_at hl 3 rfl) ?_
  refine lv_tableIn (off := 52) (tgt := 136) hx hb dX11_count_84 (by decide) (by decide) (by decide) (by decide) ?_
  refine lv_aload_n hx hb dX11_count_136 rfl (lv_at hl 2 rfl) ?_
  refine va_get (D := (dC, dI)) (ci := 10) (v := .ref m_tm) (C := RX11) (T := TX11) (N := 68) hx hb hts iwwsX11_count_11 hown hK hP 0 rfl rfl 29 (by decide) (hts (.fieldLink RX11 62 "NothingJudgeModel" "testMany" "[I") fwwsX11_count_62) (fun _ h9 => h9) (fs_ne efs_421 (by decide) g_fs_29) dX11_count_137 ?_
  refine lv_iconst (v := 0) hx hb dX11_count_140 (by decide) ?_
  refine va_iald hx hb hK hP 3 0 rfl rfl (by unfold vp_in; decide) dX11_count_141 ?_
  refine lv_topi (fun y_422 ey_422 => ?_)
  obtain rfl : y_422 = 0 := ey_422.trans ht
  subst efs_421
  have hP9 := hP.sub (ws' := []) [] rfl
  have hD9 := hD.sub (ws' := []) [] (by decide) rfl
  exact W.iret (v := 0) hx hb hr (fun t ht hW => ⟨⟨0, (), rfl, rfl, by rw [ht]; exact hP9, hD9⟩, hS.F ht⟩) hS.2.2 dX11_count_142

set_option maxHeartbeats 4000000 in
set_option maxRecDepth 100000 in
theorem m_count3 (l : Launch) (dC : Nat → ClassId) (dI : Nat → Nat → Nat) (cI cB cL cZ : ClassId) (h0 : Nat) (m_rf : Nat) (m_um : Nat) (m_tm : Nat) (fs : List Value) (frf : Nat → Int32) (fu : Nat → Int32) (ft : Nat → Int32) (sz : Nat) (gl_fs : fs.length = 68) (g_fs_19 : fs[19]? = some (.ref m_rf)) (g_fs_26 : fs[26]? = some (.ref m_um)) (g_fs_29 : fs[29]? = some (.ref m_tm)) (g_fs_39 : fs[39]? = some (.int (-1))) (hrf : ∀ j, j < 16 → frf j = -1) (hu : fu ((0 : Int32).toNatClampNeg) = 0) (ht : ft ((0 : Int32).toNatClampNeg) = 0) : Met l yX11_count wsX11_count ({ frames := 0, cells := 0, slots := 0, locals := 0 }) (cP (dC, dI) (kTy cI cB cL cZ) [.ref h0, .int 3] [(h0, .inr (10, fs)), (m_rf, .inl (cI, 16, .inl frf)), (m_um, .inl (cI, 2, .inl fu)), (m_tm, .inl (cI, 2, .inl ft))] sz) (va_Qi (fun (r : Int32) (_ : Unit) => r = (-1)) (fun (_ : Unit) (t : State) => va_P (dC, dI) vwCl [] t.heap ∧ va_D (va_A [(h0, .inr (10, fs)), (m_rf, .inl (cI, 16, .inl frf)), (m_um, .inl (cI, 2, .inl fu)), (m_tm, .inl (cI, 2, .inl ft))] sz) []) (va_A [(h0, .inr (10, fs)), (m_rf, .inl (cI, 16, .inl frf)), (m_um, .inl (cI, 2, .inl fu)), (m_tm, .inl (cI, 2, .inl ft))] sz)) 0 0 (va_A [(h0, .inr (10, fs)), (m_rf, .inl (cI, 16, .inl frf)), (m_um, .inl (cI, 2, .inl fu)), (m_tm, .inl (cI, 2, .inl ft))] sz) := by
  refine Met.ofW (cc := cX11_count) (maxL := 5) (ret := (some .int)) (by decide) rfl ?_
  intro p e s m args below meth c s₁ B hml hv
  obtain ⟨rfl, hsz, hP, hK, hD0, hN⟩ := hv
  have hx := B.exec
  have hb := B.bytes
  have hr := B.returns
  have hts := atoms_spec (ws := wsX11_count) B.pre
  have hown : s.vm.findClass RX11 = some m.cls := findClass_of_methodNamed B.named
  have hlocks := B.notSynchronized
  subst hsz
  have hD := hD0.self (sz := s.heap.size)
  generalize hAe : va_A [(h0, .inr (10, fs)), (m_rf, .inl (cI, 16, .inl frf)), (m_um, .inl (cI, 2, .inl fu)), (m_tm, .inl (cI, 2, .inl ft))] s.heap.size = A at hD ⊢
  have hA : ∀ q : Nat, s.heap.size ≤ q → A q := fun q h => by rw [← hAe]; exact Or.inr h
  have hl := lv_entry ([.ref h0, .int 3]) (n := 5) (Nat.le_of_ble_eq_true rfl)
  rw [lg_entry_eq]
  generalize (lg_sl ([.ref h0, .int 3]) ++ List.replicate (5 - (lg_sl ([.ref h0, .int 3])).length) Slot.unset).toArray = ls at hl ⊢
  have hl : lv_has ls 5 [(0, .ref h0), (1, .int 3)] := hl
  refine k_H (A := A) hP (fun H hP hS => ?_)
  have hP : va_P (dC, dI) vwCl [(h0, .inr (10, fs)), (m_rf, .inl (cI, 16, .inl frf)), (m_um, .inl (cI, 2, .inl fu)), (m_tm, .inl (cI, 2, .inl ft))] H := hP
  have hD : va_D A [(h0, .inr (10, fs)), (m_rf, .inl (cI, 16, .inl frf)), (m_um, .inl (cI, 2, .inl fu)), (m_tm, .inl (cI, 2, .inl ft))] := hD
  refine lv_aload_n hx hb dX11_count_0 rfl (lv_at hl 0 rfl) ?_
  refine lv_iconst (v := 0) hx hb dX11_count_1 (by decide) ?_
  refine va_put (D := (dC, dI)) (ci := 10) (v := .int 0) (ty := .int) (C := RX11) (T := TX11) (N := 68) hx hb hts iwwsX11_count_11 tyX11 tyX11_ok nmX11 hown hK hP hD hS 0 rfl rfl 0 (by decide) (hts (.fieldLink RX11 121 "NothingJudgeModel" "thrown" "I") fwwsX11_count_121) (fun _ h9 => h9) rfl (by decide +kernel) rfl rfl (by rw [gl_fs]; decide) dX11_count_2 (fun H locs hP hD hS => ?_)
  obtain ⟨fs_423, efs_423⟩ : ∃ z : List Value, z = fs.set 0 (.int 0) := ⟨_, rfl⟩
  have glfs_423 : fs_423.length = 68 := fs_len efs_423 gl_fs
  have hP : va_P (dC, dI) vwCl [(h0, .inr (10, fs_423)), (m_rf, .inl (cI, 16, .inl frf)), (m_um, .inl (cI, 2, .inl fu)), (m_tm, .inl (cI, 2, .inl ft))] H := by rw [efs_423]; exact hP
  have hD : va_D A [(h0, .inr (10, fs_423)), (m_rf, .inl (cI, 16, .inl frf)), (m_um, .inl (cI, 2, .inl fu)), (m_tm, .inl (cI, 2, .inl ft))] := by rw [efs_423]; exact hD
  refine lv_iconst (v := 0) hx hb dX11_count_5 (by decide) ?_
  refine lv_istore_n (lv' := [(2, .int 0), (0, .ref h0), (1, .int 3)]) hx hb dX11_count_6 rfl hl (by decide) rfl (fun ls hl => ?_)
  refine lv_iconst (v := 0) hx hb dX11_count_7 (by decide) ?_
  refine lv_istore_n (lv' := [(3, .int 0), (2, .int 0), (0, .ref h0), (1, .int 3)]) hx hb dX11_count_8 rfl hl (by decide) rfl (fun ls hl => ?_)
  refine lv_iload_n hx hb dX11_count_9 rfl (lv_at hl 3 rfl) ?_
  refine lv_iconst (v := 4) hx hb dX11_count_10 (by decide) ?_
  refine lv_icmp_eq (tgt := 19) hx hb dX11_count_11 (by decide) (fun c9 => absurd c9 (by decide)) (fun _ => ?_)
  refine lv_iload_n hx hb dX11_count_14 rfl (lv_at hl 3 rfl) ?_
  refine lv_iconst (v := 5) hx hb dX11_count_15 (by decide) ?_
  refine lv_icmp_ne (tgt := 83) hx hb dX11_count_16 (by decide) (fun _ => ?_) (fun c9 => absurd (by decide) c9)
  refine lv_iload_n hx hb dX11_count_83 rfl (lv_at hl 3 rfl) ?_
  refine lv_tableIn (off := 59) (tgt := 143) hx hb dX11_count_84 (by decide) (by decide) (by decide) (by decide) ?_
  refine lv_aload_n hx hb dX11_count_143 rfl (lv_at hl 2 rfl) ?_
  refine va_get (D := (dC, dI)) (ci := 10) (v := .int (-1)) (C := RX11) (T := TX11) (N := 68) hx hb hts iwwsX11_count_11 hown hK hP 0 rfl rfl 39 (by decide) (hts (.fieldLink RX11 83 "NothingJudgeModel" "entry" "I") fwwsX11_count_83) (fun _ h9 => h9) (fs_ne efs_423 (by decide) g_fs_39) dX11_count_144 ?_
  subst efs_423
  have hP9 := hP.sub (ws' := []) [] rfl
  have hD9 := hD.sub (ws' := []) [] (by decide) rfl
  exact W.iret (v := (-1)) hx hb hr (fun t ht hW => ⟨⟨(-1), (), rfl, rfl, by rw [ht]; exact hP9, hD9⟩, hS.F ht⟩) hS.2.2 dX11_count_147

set_option maxHeartbeats 4000000 in
set_option maxRecDepth 100000 in
theorem m_count4 (l : Launch) (dC : Nat → ClassId) (dI : Nat → Nat → Nat) (cI cB cL cZ : ClassId) (h0 : Nat) (m_um : Nat) (m_ih : Nat) (m_mk : Nat) (m_td : Nat) (fs : List Value) (fu : Nat → Int32) (f0 : Nat → Int32) (f1 : Nat → Int32) (f2 : Nat → Int32) (sz : Nat) (gl_fs : fs.length = 68) (g_fs_26 : fs[26]? = some (.ref m_um)) (g_fs_43 : fs[43]? = some (.ref m_ih)) (g_fs_42 : fs[42]? = some (.ref m_mk)) (g_fs_44 : fs[44]? = some (.ref m_td)) (g_fs_18 : fs[18]? = some (.int 0)) (g_fs_39 : fs[39]? = some (.int (-1))) (hu : fu ((0 : Int32).toNatClampNeg) = 0) : Met l yX11_count wsX11_count ({ frames := 1, cells := 0, slots := 0, locals := 21 }) (cP (dC, dI) (kTy cI cB cL cZ) [.ref h0, .int 4] [(h0, .inr (10, fs)), (m_um, .inl (cI, 2, .inl fu)), (m_ih, .inl (cZ, 42, .inl f0)), (m_mk, .inl (cI, 42, .inl f1)), (m_td, .inl (cI, 25, .inl f2))] sz) (va_Qi (fun (r : Int32) (_ : Unit) => r = 0) (fun (_ : Unit) (t : State) => va_P (dC, dI) vwCl [] t.heap ∧ va_D (va_A [(h0, .inr (10, fs)), (m_um, .inl (cI, 2, .inl fu)), (m_ih, .inl (cZ, 42, .inl f0)), (m_mk, .inl (cI, 42, .inl f1)), (m_td, .inl (cI, 25, .inl f2))] sz) []) (va_A [(h0, .inr (10, fs)), (m_um, .inl (cI, 2, .inl fu)), (m_ih, .inl (cZ, 42, .inl f0)), (m_mk, .inl (cI, 42, .inl f1)), (m_td, .inl (cI, 25, .inl f2))] sz)) 0 0 (va_A [(h0, .inr (10, fs)), (m_um, .inl (cI, 2, .inl fu)), (m_ih, .inl (cZ, 42, .inl f0)), (m_mk, .inl (cI, 42, .inl f1)), (m_td, .inl (cI, 25, .inl f2))] sz) := by
  refine Met.ofW (cc := cX11_count) (maxL := 5) (ret := (some .int)) (by decide) rfl ?_
  intro p e s m args below meth c s₁ B hml hv
  obtain ⟨rfl, hsz, hP, hK, hD0, hN⟩ := hv
  have hx := B.exec
  have hb := B.bytes
  have hr := B.returns
  have hts := atoms_spec (ws := wsX11_count) B.pre
  have hown : s.vm.findClass RX11 = some m.cls := findClass_of_methodNamed B.named
  have hlocks := B.notSynchronized
  subst hsz
  have hD := hD0.self (sz := s.heap.size)
  generalize hAe : va_A [(h0, .inr (10, fs)), (m_um, .inl (cI, 2, .inl fu)), (m_ih, .inl (cZ, 42, .inl f0)), (m_mk, .inl (cI, 42, .inl f1)), (m_td, .inl (cI, 25, .inl f2))] s.heap.size = A at hD ⊢
  have hA : ∀ q : Nat, s.heap.size ≤ q → A q := fun q h => by rw [← hAe]; exact Or.inr h
  have hl := lv_entry ([.ref h0, .int 4]) (n := 5) (Nat.le_of_ble_eq_true rfl)
  rw [lg_entry_eq]
  generalize (lg_sl ([.ref h0, .int 4]) ++ List.replicate (5 - (lg_sl ([.ref h0, .int 4])).length) Slot.unset).toArray = ls at hl ⊢
  have hl : lv_has ls 5 [(0, .ref h0), (1, .int 4)] := hl
  refine k_H (A := A) hP (fun H hP hS => ?_)
  have hP : va_P (dC, dI) vwCl [(h0, .inr (10, fs)), (m_um, .inl (cI, 2, .inl fu)), (m_ih, .inl (cZ, 42, .inl f0)), (m_mk, .inl (cI, 42, .inl f1)), (m_td, .inl (cI, 25, .inl f2))] H := hP
  have hD : va_D A [(h0, .inr (10, fs)), (m_um, .inl (cI, 2, .inl fu)), (m_ih, .inl (cZ, 42, .inl f0)), (m_mk, .inl (cI, 42, .inl f1)), (m_td, .inl (cI, 25, .inl f2))] := hD
  refine lv_aload_n hx hb dX11_count_0 rfl (lv_at hl 0 rfl) ?_
  refine lv_iconst (v := 0) hx hb dX11_count_1 (by decide) ?_
  refine va_put (D := (dC, dI)) (ci := 10) (v := .int 0) (ty := .int) (C := RX11) (T := TX11) (N := 68) hx hb hts iwwsX11_count_11 tyX11 tyX11_ok nmX11 hown hK hP hD hS 0 rfl rfl 0 (by decide) (hts (.fieldLink RX11 121 "NothingJudgeModel" "thrown" "I") fwwsX11_count_121) (fun _ h9 => h9) rfl (by decide +kernel) rfl rfl (by rw [gl_fs]; decide) dX11_count_2 (fun H locs hP hD hS => ?_)
  obtain ⟨fs_424, efs_424⟩ : ∃ z : List Value, z = fs.set 0 (.int 0) := ⟨_, rfl⟩
  have glfs_424 : fs_424.length = 68 := fs_len efs_424 gl_fs
  have hP : va_P (dC, dI) vwCl [(h0, .inr (10, fs_424)), (m_um, .inl (cI, 2, .inl fu)), (m_ih, .inl (cZ, 42, .inl f0)), (m_mk, .inl (cI, 42, .inl f1)), (m_td, .inl (cI, 25, .inl f2))] H := by rw [efs_424]; exact hP
  have hD : va_D A [(h0, .inr (10, fs_424)), (m_um, .inl (cI, 2, .inl fu)), (m_ih, .inl (cZ, 42, .inl f0)), (m_mk, .inl (cI, 42, .inl f1)), (m_td, .inl (cI, 25, .inl f2))] := by rw [efs_424]; exact hD
  refine lv_iconst (v := 0) hx hb dX11_count_5 (by decide) ?_
  refine lv_istore_n (lv' := [(2, .int 0), (0, .ref h0), (1, .int 4)]) hx hb dX11_count_6 rfl hl (by decide) rfl (fun ls hl => ?_)
  refine lv_iconst (v := 0) hx hb dX11_count_7 (by decide) ?_
  refine lv_istore_n (lv' := [(3, .int 0), (2, .int 0), (0, .ref h0), (1, .int 4)]) hx hb dX11_count_8 rfl hl (by decide) rfl (fun ls hl => ?_)
  refine lv_iload_n hx hb dX11_count_9 rfl (lv_at hl 3 rfl) ?_
  refine lv_iconst (v := 4) hx hb dX11_count_10 (by decide) ?_
  refine lv_icmp_eq (tgt := 19) hx hb dX11_count_11 (by decide) (fun _ => ?_) (fun c9 => absurd (by decide) c9)
  refine lv_aload_n hx hb dX11_count_19 rfl (lv_at hl 2 rfl) ?_
  have hPc := hP.sub (ws' := [(h0, .inr (10, fs_424)), (m_ih, .inl (cZ, 42, .inl f0))]) [0, 2] rfl
  have hDc := hD.sub (ws' := [(h0, .inr (10, fs_424)), (m_ih, .inl (cZ, 42, .inl f0))]) [0, 2] (by decide) rfl
  have hFc := va_free (wc := [(h0, .inr (10, fs_424)), (m_ih, .inl (cZ, 42, .inl f0))]) hD hS hA [0, 2] rfl
  refine va_callv (va_runV (As := []) (rest := []) ⟨hx, hb, hml, hown, hts⟩ (c_frees l dC dI cI cB cL cZ (h0) (m_ih) (fs_424) (f0) H.size glfs_424 (fs_ne efs_424 (by decide) g_fs_43)) (cwV 0 hts gX11_count_X11_frees rfl rfl rfl (by decide +kernel) ⟨Nat.le_of_ble_eq_true rfl, Nat.le_of_ble_eq_true rfl⟩) ⟨cP_fb, va_recv hK hPc (ci := 10) (q0 := 0) rfl rfl, fun U hU hW => cP_pre hPc hK hDc hN U hU hW⟩ rfl rfl hl.1 rfl (lv_room (Nat.le_of_ble_eq_true rfl)) dX11_count_20 ⟨Nat.le_of_ble_eq_true rfl, Nat.le_of_ble_eq_true rfl⟩) hS (fun q _ h => hFc q h) hFc (fun u t H1 locs ht hvm hw hB hz1 hk1 hS => ?_)
  obtain ⟨hP1, hD1⟩ := hB
  rw [ht] at hP1
  obtain ⟨hP, hD⟩ := va_join (wr := [(m_um, .inl (cI, 2, .inl fu)), (m_mk, .inl (cI, 42, .inl f1)), (m_td, .inl (cI, 25, .inl f2))]) (w1 := [(h0, .inr (10, fs_424))]) hP hD [0, 2] [1, 3, 4] rfl rfl (by decide) (by decide) hk1 hFc hP1 hD1
  generalize H1 = H at hP hS ⊢
  have hP : va_P (dC, dI) vwCl [(m_um, .inl (cI, 2, .inl fu)), (m_mk, .inl (cI, 42, .inl f1)), (m_td, .inl (cI, 25, .inl f2)), (h0, .inr (10, fs_424))] H := hP
  have hD : va_D A [(m_um, .inl (cI, 2, .inl fu)), (m_mk, .inl (cI, 42, .inl f1)), (m_td, .inl (cI, 25, .inl f2)), (h0, .inr (10, fs_424))] := hD
  refine lv_aload_n hx hb dX11_count_23 rfl (lv_at hl 2 rfl) ?_
  have hPc := hP.sub (ws' := [(h0, .inr (10, fs_424)), (m_mk, .inl (cI, 42, .inl f1)), (m_td, .inl (cI, 25, .inl f2))]) [3, 1, 2] rfl
  have hDc := hD.sub (ws' := [(h0, .inr (10, fs_424)), (m_mk, .inl (cI, 42, .inl f1)), (m_td, .inl (cI, 25, .inl f2))]) [3, 1, 2] (by decide) rfl
  have hFc := va_free (wc := [(h0, .inr (10, fs_424)), (m_mk, .inl (cI, 42, .inl f1)), (m_td, .inl (cI, 25, .inl f2))]) hD hS hA [3, 1, 2] rfl
  refine va_callv (va_runV (As := []) (rest := []) ⟨hx, hb, hml, hown, hts⟩ (c_reckons l dC dI cI cB cL cZ (h0) (m_mk) (m_td) (fs_424) (f1) (f2) H.size glfs_424 (fs_ne efs_424 (by decide) g_fs_42) (fs_ne efs_424 (by decide) g_fs_44) (fs_ne efs_424 (by decide) g_fs_18) (fs_ne efs_424 (by decide) g_fs_39)) (cwV 0 hts gX11_count_X11_reckons rfl rfl rfl (by decide +kernel) ⟨Nat.le_of_ble_eq_true rfl, Nat.le_of_ble_eq_true rfl⟩) ⟨cP_fb, va_recv hK hPc (ci := 10) (q0 := 0) rfl rfl, fun U hU hW => cP_pre hPc hK hDc hN U hU hW⟩ rfl rfl hl.1 rfl (lv_room (Nat.le_of_ble_eq_true rfl)) dX11_count_24 ⟨Nat.le_of_ble_eq_true rfl, Nat.le_of_ble_eq_true rfl⟩) hS (fun q _ h => hFc q h) hFc (fun u t H1 locs ht hvm hw hB hz1 hk1 hS => ?_)
  obtain ⟨f_426, hf_427, hP1, hD1⟩ := hB
  rw [ht] at hP1
  obtain ⟨hP, hD⟩ := va_join (wr := [(m_um, .inl (cI, 2, .inl fu))]) (w1 := [(h0, .inr (10, (fs_424.set 45 (.int 0)))), (m_mk, .inl (cI, 42, .inl f_426))]) hP hD [3, 1, 2] [0] rfl rfl (by decide) (by decide) hk1 hFc hP1 hD1
  generalize H1 = H at hP hS ⊢
  obtain ⟨fs_429, efs_429⟩ : ∃ z : List Value, z = fs_424.set 45 (.int 0) := ⟨_, rfl⟩
  have glfs_429 : fs_429.length = 68 := fs_len efs_429 glfs_424
  have hP : va_P (dC, dI) vwCl [(m_um, .inl (cI, 2, .inl fu)), (h0, .inr (10, fs_429)), (m_mk, .inl (cI, 42, .inl f_426))] H := by rw [efs_429]; exact hP
  have hD : va_D A [(m_um, .inl (cI, 2, .inl fu)), (h0, .inr (10, fs_429)), (m_mk, .inl (cI, 42, .inl f_426))] := by rw [efs_429]; exact hD
  refine lv_iconst (v := 0) hx hb dX11_count_27 (by decide) ?_
  refine lv_istore (lv' := [(4, .int 0), (3, .int 0), (2, .int 0), (0, .ref h0), (1, .int 4)]) hx hb dX11_count_28 hl (by decide) rfl (fun ls hl => ?_)
  refine lv_iload hx hb dX11_count_30 (lv_at hl 0 rfl) ?_
  refine lv_aload_n hx hb dX11_count_32 rfl (lv_at hl 3 rfl) ?_
  refine va_get (D := (dC, dI)) (ci := 10) (v := .ref m_um) (C := RX11) (T := TX11) (N := 68) hx hb hts iwwsX11_count_11 hown hK hP 1 rfl rfl 26 (by decide) (hts (.fieldLink RX11 53 "NothingJudgeModel" "useMany" "[I") fwwsX11_count_53) (fun _ h9 => h9) (fs_ne efs_429 (by decide) (fs_ne efs_424 (by decide) g_fs_26)) dX11_count_33 ?_
  refine lv_iconst (v := 0) hx hb dX11_count_36 (by decide) ?_
  refine va_iald hx hb hK hP 0 0 rfl rfl (by unfold vp_in; decide) dX11_count_37 ?_
  refine lv_topi (fun y_430 ey_430 => ?_)
  obtain rfl : y_430 = 0 := ey_430.trans hu
  refine lv_icmp_ge (tgt := 83) hx hb dX11_count_38 (by decide) (fun _ => ?_) (fun c9 => absurd (by decide) c9)
  refine lv_iload_n hx hb dX11_count_83 rfl (lv_at hl 4 rfl) ?_
  refine lv_tableIn (off := 64) (tgt := 148) hx hb dX11_count_84 (by decide) (by decide) (by decide) (by decide) ?_
  refine lv_iload_n hx hb dX11_count_148 rfl (lv_at hl 2 rfl) ?_
  subst efs_429
  subst efs_424
  have hP9 := hP.sub (ws' := []) [] rfl
  have hD9 := hD.sub (ws' := []) [] (by decide) rfl
  exact W.iret (v := 0) hx hb hr (fun t ht hW => ⟨⟨0, (), rfl, rfl, by rw [ht]; exact hP9, hD9⟩, hS.F ht⟩) hS.2.2 dX11_count_149

set_option maxHeartbeats 4000000 in
set_option maxRecDepth 100000 in
theorem m_count5 (l : Launch) (dC : Nat → ClassId) (dI : Nat → Nat → Nat) (cI cB cL cZ : ClassId) (h0 : Nat) (m_um : Nat) (m_ih : Nat) (m_mk : Nat) (m_td : Nat) (fs : List Value) (fu : Nat → Int32) (f0 : Nat → Int32) (f1 : Nat → Int32) (f2 : Nat → Int32) (sz : Nat) (gl_fs : fs.length = 68) (g_fs_26 : fs[26]? = some (.ref m_um)) (g_fs_43 : fs[43]? = some (.ref m_ih)) (g_fs_42 : fs[42]? = some (.ref m_mk)) (g_fs_44 : fs[44]? = some (.ref m_td)) (g_fs_18 : fs[18]? = some (.int 0)) (g_fs_39 : fs[39]? = some (.int (-1))) (hu : fu ((0 : Int32).toNatClampNeg) = 0) : Met l yX11_count wsX11_count ({ frames := 1, cells := 0, slots := 0, locals := 21 }) (cP (dC, dI) (kTy cI cB cL cZ) [.ref h0, .int 5] [(h0, .inr (10, fs)), (m_um, .inl (cI, 2, .inl fu)), (m_ih, .inl (cZ, 42, .inl f0)), (m_mk, .inl (cI, 42, .inl f1)), (m_td, .inl (cI, 25, .inl f2))] sz) (va_Qi (fun (r : Int32) (_ : Unit) => r = 0) (fun (_ : Unit) (t : State) => va_P (dC, dI) vwCl [] t.heap ∧ va_D (va_A [(h0, .inr (10, fs)), (m_um, .inl (cI, 2, .inl fu)), (m_ih, .inl (cZ, 42, .inl f0)), (m_mk, .inl (cI, 42, .inl f1)), (m_td, .inl (cI, 25, .inl f2))] sz) []) (va_A [(h0, .inr (10, fs)), (m_um, .inl (cI, 2, .inl fu)), (m_ih, .inl (cZ, 42, .inl f0)), (m_mk, .inl (cI, 42, .inl f1)), (m_td, .inl (cI, 25, .inl f2))] sz)) 0 0 (va_A [(h0, .inr (10, fs)), (m_um, .inl (cI, 2, .inl fu)), (m_ih, .inl (cZ, 42, .inl f0)), (m_mk, .inl (cI, 42, .inl f1)), (m_td, .inl (cI, 25, .inl f2))] sz) := by
  refine Met.ofW (cc := cX11_count) (maxL := 5) (ret := (some .int)) (by decide) rfl ?_
  intro p e s m args below meth c s₁ B hml hv
  obtain ⟨rfl, hsz, hP, hK, hD0, hN⟩ := hv
  have hx := B.exec
  have hb := B.bytes
  have hr := B.returns
  have hts := atoms_spec (ws := wsX11_count) B.pre
  have hown : s.vm.findClass RX11 = some m.cls := findClass_of_methodNamed B.named
  have hlocks := B.notSynchronized
  subst hsz
  have hD := hD0.self (sz := s.heap.size)
  generalize hAe : va_A [(h0, .inr (10, fs)), (m_um, .inl (cI, 2, .inl fu)), (m_ih, .inl (cZ, 42, .inl f0)), (m_mk, .inl (cI, 42, .inl f1)), (m_td, .inl (cI, 25, .inl f2))] s.heap.size = A at hD ⊢
  have hA : ∀ q : Nat, s.heap.size ≤ q → A q := fun q h => by rw [← hAe]; exact Or.inr h
  have hl := lv_entry ([.ref h0, .int 5]) (n := 5) (Nat.le_of_ble_eq_true rfl)
  rw [lg_entry_eq]
  generalize (lg_sl ([.ref h0, .int 5]) ++ List.replicate (5 - (lg_sl ([.ref h0, .int 5])).length) Slot.unset).toArray = ls at hl ⊢
  have hl : lv_has ls 5 [(0, .ref h0), (1, .int 5)] := hl
  refine k_H (A := A) hP (fun H hP hS => ?_)
  have hP : va_P (dC, dI) vwCl [(h0, .inr (10, fs)), (m_um, .inl (cI, 2, .inl fu)), (m_ih, .inl (cZ, 42, .inl f0)), (m_mk, .inl (cI, 42, .inl f1)), (m_td, .inl (cI, 25, .inl f2))] H := hP
  have hD : va_D A [(h0, .inr (10, fs)), (m_um, .inl (cI, 2, .inl fu)), (m_ih, .inl (cZ, 42, .inl f0)), (m_mk, .inl (cI, 42, .inl f1)), (m_td, .inl (cI, 25, .inl f2))] := hD
  refine lv_aload_n hx hb dX11_count_0 rfl (lv_at hl 0 rfl) ?_
  refine lv_iconst (v := 0) hx hb dX11_count_1 (by decide) ?_
  refine va_put (D := (dC, dI)) (ci := 10) (v := .int 0) (ty := .int) (C := RX11) (T := TX11) (N := 68) hx hb hts iwwsX11_count_11 tyX11 tyX11_ok nmX11 hown hK hP hD hS 0 rfl rfl 0 (by decide) (hts (.fieldLink RX11 121 "NothingJudgeModel" "thrown" "I") fwwsX11_count_121) (fun _ h9 => h9) rfl (by decide +kernel) rfl rfl (by rw [gl_fs]; decide) dX11_count_2 (fun H locs hP hD hS => ?_)
  obtain ⟨fs_431, efs_431⟩ : ∃ z : List Value, z = fs.set 0 (.int 0) := ⟨_, rfl⟩
  have glfs_431 : fs_431.length = 68 := fs_len efs_431 gl_fs
  have hP : va_P (dC, dI) vwCl [(h0, .inr (10, fs_431)), (m_um, .inl (cI, 2, .inl fu)), (m_ih, .inl (cZ, 42, .inl f0)), (m_mk, .inl (cI, 42, .inl f1)), (m_td, .inl (cI, 25, .inl f2))] H := by rw [efs_431]; exact hP
  have hD : va_D A [(h0, .inr (10, fs_431)), (m_um, .inl (cI, 2, .inl fu)), (m_ih, .inl (cZ, 42, .inl f0)), (m_mk, .inl (cI, 42, .inl f1)), (m_td, .inl (cI, 25, .inl f2))] := by rw [efs_431]; exact hD
  refine lv_iconst (v := 0) hx hb dX11_count_5 (by decide) ?_
  refine lv_istore_n (lv' := [(2, .int 0), (0, .ref h0), (1, .int 5)]) hx hb dX11_count_6 rfl hl (by decide) rfl (fun ls hl => ?_)
  refine lv_iconst (v := 0) hx hb dX11_count_7 (by decide) ?_
  refine lv_istore_n (lv' := [(3, .int 0), (2, .int 0), (0, .ref h0), (1, .int 5)]) hx hb dX11_count_8 rfl hl (by decide) rfl (fun ls hl => ?_)
  refine lv_iload_n hx hb dX11_count_9 rfl (lv_at hl 3 rfl) ?_
  refine lv_iconst (v := 4) hx hb dX11_count_10 (by decide) ?_
  refine lv_icmp_eq (tgt := 19) hx hb dX11_count_11 (by decide) (fun c9 => absurd c9 (by decide)) (fun _ => ?_)
  refine lv_iload_n hx hb dX11_count_14 rfl (lv_at hl 3 rfl) ?_
  refine lv_iconst (v := 5) hx hb dX11_count_15 (by decide) ?_
  refine lv_icmp_ne (tgt := 83) hx hb dX11_count_16 (by decide) (fun c9 => absurd c9 (by decide)) (fun _ => ?_)
  refine lv_aload_n hx hb dX11_count_19 rfl (lv_at hl 2 rfl) ?_
  have hPc := hP.sub (ws' := [(h0, .inr (10, fs_431)), (m_ih, .inl (cZ, 42, .inl f0))]) [0, 2] rfl
  have hDc := hD.sub (ws' := [(h0, .inr (10, fs_431)), (m_ih, .inl (cZ, 42, .inl f0))]) [0, 2] (by decide) rfl
  have hFc := va_free (wc := [(h0, .inr (10, fs_431)), (m_ih, .inl (cZ, 42, .inl f0))]) hD hS hA [0, 2] rfl
  refine va_callv (va_runV (As := []) (rest := []) ⟨hx, hb, hml, hown, hts⟩ (c_frees l dC dI cI cB cL cZ (h0) (m_ih) (fs_431) (f0) H.size glfs_431 (fs_ne efs_431 (by decide) g_fs_43)) (cwV 0 hts gX11_count_X11_frees rfl rfl rfl (by decide +kernel) ⟨Nat.le_of_ble_eq_true rfl, Nat.le_of_ble_eq_true rfl⟩) ⟨cP_fb, va_recv hK hPc (ci := 10) (q0 := 0) rfl rfl, fun U hU hW => cP_pre hPc hK hDc hN U hU hW⟩ rfl rfl hl.1 rfl (lv_room (Nat.le_of_ble_eq_true rfl)) dX11_count_20 ⟨Nat.le_of_ble_eq_true rfl, Nat.le_of_ble_eq_true rfl⟩) hS (fun q _ h => hFc q h) hFc (fun u t H1 locs ht hvm hw hB hz1 hk1 hS => ?_)
  obtain ⟨hP1, hD1⟩ := hB
  rw [ht] at hP1
  obtain ⟨hP, hD⟩ := va_join (wr := [(m_um, .inl (cI, 2, .inl fu)), (m_mk, .inl (cI, 42, .inl f1)), (m_td, .inl (cI, 25, .inl f2))]) (w1 := [(h0, .inr (10, fs_431))]) hP hD [0, 2] [1, 3, 4] rfl rfl (by decide) (by decide) hk1 hFc hP1 hD1
  generalize H1 = H at hP hS ⊢
  have hP : va_P (dC, dI) vwCl [(m_um, .inl (cI, 2, .inl fu)), (m_mk, .inl (cI, 42, .inl f1)), (m_td, .inl (cI, 25, .inl f2)), (h0, .inr (10, fs_431))] H := hP
  have hD : va_D A [(m_um, .inl (cI, 2, .inl fu)), (m_mk, .inl (cI, 42, .inl f1)), (m_td, .inl (cI, 25, .inl f2)), (h0, .inr (10, fs_431))] := hD
  refine lv_aload_n hx hb dX11_count_23 rfl (lv_at hl 2 rfl) ?_
  have hPc := hP.sub (ws' := [(h0, .inr (10, fs_431)), (m_mk, .inl (cI, 42, .inl f1)), (m_td, .inl (cI, 25, .inl f2))]) [3, 1, 2] rfl
  have hDc := hD.sub (ws' := [(h0, .inr (10, fs_431)), (m_mk, .inl (cI, 42, .inl f1)), (m_td, .inl (cI, 25, .inl f2))]) [3, 1, 2] (by decide) rfl
  have hFc := va_free (wc := [(h0, .inr (10, fs_431)), (m_mk, .inl (cI, 42, .inl f1)), (m_td, .inl (cI, 25, .inl f2))]) hD hS hA [3, 1, 2] rfl
  refine va_callv (va_runV (As := []) (rest := []) ⟨hx, hb, hml, hown, hts⟩ (c_reckons l dC dI cI cB cL cZ (h0) (m_mk) (m_td) (fs_431) (f1) (f2) H.size glfs_431 (fs_ne efs_431 (by decide) g_fs_42) (fs_ne efs_431 (by decide) g_fs_44) (fs_ne efs_431 (by decide) g_fs_18) (fs_ne efs_431 (by decide) g_fs_39)) (cwV 0 hts gX11_count_X11_reckons rfl rfl rfl (by decide +kernel) ⟨Nat.le_of_ble_eq_true rfl, Nat.le_of_ble_eq_true rfl⟩) ⟨cP_fb, va_recv hK hPc (ci := 10) (q0 := 0) rfl rfl, fun U hU hW => cP_pre hPc hK hDc hN U hU hW⟩ rfl rfl hl.1 rfl (lv_room (Nat.le_of_ble_eq_true rfl)) dX11_count_24 ⟨Nat.le_of_ble_eq_true rfl, Nat.le_of_ble_eq_true rfl⟩) hS (fun q _ h => hFc q h) hFc (fun u t H1 locs ht hvm hw hB hz1 hk1 hS => ?_)
  obtain ⟨f_433, hf_434, hP1, hD1⟩ := hB
  rw [ht] at hP1
  obtain ⟨hP, hD⟩ := va_join (wr := [(m_um, .inl (cI, 2, .inl fu))]) (w1 := [(h0, .inr (10, (fs_431.set 45 (.int 0)))), (m_mk, .inl (cI, 42, .inl f_433))]) hP hD [3, 1, 2] [0] rfl rfl (by decide) (by decide) hk1 hFc hP1 hD1
  generalize H1 = H at hP hS ⊢
  obtain ⟨fs_436, efs_436⟩ : ∃ z : List Value, z = fs_431.set 45 (.int 0) := ⟨_, rfl⟩
  have glfs_436 : fs_436.length = 68 := fs_len efs_436 glfs_431
  have hP : va_P (dC, dI) vwCl [(m_um, .inl (cI, 2, .inl fu)), (h0, .inr (10, fs_436)), (m_mk, .inl (cI, 42, .inl f_433))] H := by rw [efs_436]; exact hP
  have hD : va_D A [(m_um, .inl (cI, 2, .inl fu)), (h0, .inr (10, fs_436)), (m_mk, .inl (cI, 42, .inl f_433))] := by rw [efs_436]; exact hD
  refine lv_iconst (v := 0) hx hb dX11_count_27 (by decide) ?_
  refine lv_istore (lv' := [(4, .int 0), (3, .int 0), (2, .int 0), (0, .ref h0), (1, .int 5)]) hx hb dX11_count_28 hl (by decide) rfl (fun ls hl => ?_)
  refine lv_iload hx hb dX11_count_30 (lv_at hl 0 rfl) ?_
  refine lv_aload_n hx hb dX11_count_32 rfl (lv_at hl 3 rfl) ?_
  refine va_get (D := (dC, dI)) (ci := 10) (v := .ref m_um) (C := RX11) (T := TX11) (N := 68) hx hb hts iwwsX11_count_11 hown hK hP 1 rfl rfl 26 (by decide) (hts (.fieldLink RX11 53 "NothingJudgeModel" "useMany" "[I") fwwsX11_count_53) (fun _ h9 => h9) (fs_ne efs_436 (by decide) (fs_ne efs_431 (by decide) g_fs_26)) dX11_count_33 ?_
  refine lv_iconst (v := 0) hx hb dX11_count_36 (by decide) ?_
  refine va_iald hx hb hK hP 0 0 rfl rfl (by unfold vp_in; decide) dX11_count_37 ?_
  refine lv_topi (fun y_437 ey_437 => ?_)
  obtain rfl : y_437 = 0 := ey_437.trans hu
  refine lv_icmp_ge (tgt := 83) hx hb dX11_count_38 (by decide) (fun _ => ?_) (fun c9 => absurd (by decide) c9)
  refine lv_iload_n hx hb dX11_count_83 rfl (lv_at hl 4 rfl) ?_
  refine lv_tableIn (off := 66) (tgt := 150) hx hb dX11_count_84 (by decide) (by decide) (by decide) (by decide) ?_
  refine lv_iload_n hx hb dX11_count_150 rfl (lv_at hl 1 rfl) ?_
  subst efs_436
  subst efs_431
  have hP9 := hP.sub (ws' := []) [] rfl
  have hD9 := hD.sub (ws' := []) [] (by decide) rfl
  exact W.iret (v := 0) hx hb hr (fun t ht hW => ⟨⟨0, (), rfl, rfl, by rw [ht]; exact hP9, hD9⟩, hS.F ht⟩) hS.2.2 dX11_count_151

set_option maxHeartbeats 4000000 in
set_option maxRecDepth 100000 in
theorem m_countN (l : Launch) (dC : Nat → ClassId) (dI : Nat → Nat → Nat) (cI cB cL cZ : ClassId) (h0 : Nat) (w : Int32) (fs : List Value) (sz : Nat) (gl_fs : fs.length = 68) (hw9 : w.toInt < 0 ∨ 5 < w.toInt) : Met l yX11_count wsX11_count ({ frames := 0, cells := 0, slots := 0, locals := 0 }) (cP (dC, dI) (kTy cI cB cL cZ) [.ref h0, .int w] [(h0, .inr (10, fs))] sz) (va_Qi (fun (r : Int32) (_ : Unit) => r = -1) (fun (_ : Unit) (t : State) => va_P (dC, dI) vwCl [] t.heap ∧ va_D (va_A [(h0, .inr (10, fs))] sz) []) (va_A [(h0, .inr (10, fs))] sz)) 0 0 (va_A [(h0, .inr (10, fs))] sz) := by
  refine Met.ofW (cc := cX11_count) (maxL := 5) (ret := (some .int)) (by decide) rfl ?_
  intro p e s m args below meth c s₁ B hml hv
  obtain ⟨rfl, hsz, hP, hK, hD0, hN⟩ := hv
  have hx := B.exec
  have hb := B.bytes
  have hr := B.returns
  have hts := atoms_spec (ws := wsX11_count) B.pre
  have hown : s.vm.findClass RX11 = some m.cls := findClass_of_methodNamed B.named
  have hlocks := B.notSynchronized
  subst hsz
  have hD := hD0.self (sz := s.heap.size)
  generalize hAe : va_A [(h0, .inr (10, fs))] s.heap.size = A at hD ⊢
  have hA : ∀ q : Nat, s.heap.size ≤ q → A q := fun q h => by rw [← hAe]; exact Or.inr h
  have hl := lv_entry ([.ref h0, .int w]) (n := 5) (Nat.le_of_ble_eq_true rfl)
  rw [lg_entry_eq]
  generalize (lg_sl ([.ref h0, .int w]) ++ List.replicate (5 - (lg_sl ([.ref h0, .int w])).length) Slot.unset).toArray = ls at hl ⊢
  have hl : lv_has ls 5 [(0, .ref h0), (1, .int w)] := hl
  refine k_H (A := A) hP (fun H hP hS => ?_)
  have hP : va_P (dC, dI) vwCl [(h0, .inr (10, fs))] H := hP
  have hD : va_D A [(h0, .inr (10, fs))] := hD
  refine lv_aload_n hx hb dX11_count_0 rfl (lv_at hl 0 rfl) ?_
  refine lv_iconst (v := 0) hx hb dX11_count_1 (by decide) ?_
  refine va_put (D := (dC, dI)) (ci := 10) (v := .int 0) (ty := .int) (C := RX11) (T := TX11) (N := 68) hx hb hts iwwsX11_count_11 tyX11 tyX11_ok nmX11 hown hK hP hD hS 0 rfl rfl 0 (by decide) (hts (.fieldLink RX11 121 "NothingJudgeModel" "thrown" "I") fwwsX11_count_121) (fun _ h9 => h9) rfl (by decide +kernel) rfl rfl (by rw [gl_fs]; decide) dX11_count_2 (fun H locs hP hD hS => ?_)
  obtain ⟨fs_438, efs_438⟩ : ∃ z : List Value, z = fs.set 0 (.int 0) := ⟨_, rfl⟩
  have glfs_438 : fs_438.length = 68 := fs_len efs_438 gl_fs
  have hP : va_P (dC, dI) vwCl [(h0, .inr (10, fs_438))] H := by rw [efs_438]; exact hP
  have hD : va_D A [(h0, .inr (10, fs_438))] := by rw [efs_438]; exact hD
  refine lv_iconst (v := 0) hx hb dX11_count_5 (by decide) ?_
  refine lv_istore_n (lv' := [(2, .int 0), (0, .ref h0), (1, .int w)]) hx hb dX11_count_6 rfl hl (by decide) rfl (fun ls hl => ?_)
  refine lv_iconst (v := 0) hx hb dX11_count_7 (by decide) ?_
  refine lv_istore_n (lv' := [(3, .int 0), (2, .int 0), (0, .ref h0), (1, .int w)]) hx hb dX11_count_8 rfl hl (by decide) rfl (fun ls hl => ?_)
  refine lv_iload_n hx hb dX11_count_9 rfl (lv_at hl 3 rfl) ?_
  refine lv_iconst (v := 4) hx hb dX11_count_10 (by decide) ?_
  refine lv_icmp_eq (tgt := 19) hx hb dX11_count_11 (by decide) (fun c9 => absurd c9 (fun h9 => by subst h9; revert hw9; decide)) (fun _ => ?_)
  refine lv_iload_n hx hb dX11_count_14 rfl (lv_at hl 3 rfl) ?_
  refine lv_iconst (v := 5) hx hb dX11_count_15 (by decide) ?_
  refine lv_icmp_ne (tgt := 83) hx hb dX11_count_16 (by decide) (fun _ => ?_) (fun c9 => absurd (fun h9 => by subst h9; revert hw9; decide) c9)
  refine lv_iload_n hx hb dX11_count_83 rfl (lv_at hl 3 rfl) ?_
  refine lv_tableOut (tgt := 152) hx hb dX11_count_84 hw9 (by decide) ?_
  refine lv_iconst (v := (-1)) hx hb dX11_count_152 (by decide) ?_
  subst efs_438
  have hP9 := hP.sub (ws' := []) [] rfl
  have hD9 := hD.sub (ws' := []) [] (by decide) rfl
  exact W.iret (v := (-1)) hx hb hr (fun t ht hW => ⟨⟨(-1), (), rfl, rfl, by rw [ht]; exact hP9, hD9⟩, hS.F ht⟩) hS.2.2 dX11_count_153

set_option maxHeartbeats 4000000 in
set_option maxRecDepth 100000 in
theorem m_feed (l : Launch) (dC : Nat → ClassId) (dI : Nat → Nat → Nat) (cI cB cL cZ : ClassId) (h0 : Nat) (m_tp : Nat) (n1 : Int32) (n2 : Int32) (n3 : Int32) (n4 : Int32) (n5 : Int32) (fs : List Value) (f : Nat → Int32) (sz : Nat) (gl_fs : fs.length = 68) (g_fs_1 : fs[1]? = some (.ref m_tp)) (g_fs_2 : fs[2]? = some (.int 0)) : Met l yX11_feed wsX11_feed ({ frames := 0, cells := 0, slots := 0, locals := 0 }) (cP (dC, dI) (kTy cI cB cL cZ) [.ref h0, .int n1, .int n2, .int n3, .int n4, .int n5] [(h0, .inr (10, fs)), (m_tp, .inl (cI, 1200, .inl f))] sz) (va_Qi (fun (r : Int32) (_ : Unit) => r = 20) (fun (_ : Unit) (t : State) => va_P (dC, dI) vwCl [] t.heap ∧ va_D (va_A [(h0, .inr (10, fs)), (m_tp, .inl (cI, 1200, .inl f))] sz) []) (va_A [(h0, .inr (10, fs)), (m_tp, .inl (cI, 1200, .inl f))] sz)) 0 0 (va_A [(h0, .inr (10, fs)), (m_tp, .inl (cI, 1200, .inl f))] sz) := by
  refine Met.ofW (cc := cX11_feed) (maxL := 8) (ret := (some .int)) (by decide) rfl ?_
  intro p e s m args below meth c s₁ B hml hv
  obtain ⟨rfl, hsz, hP, hK, hD0, hN⟩ := hv
  have hx := B.exec
  have hb := B.bytes
  have hr := B.returns
  have hts := atoms_spec (ws := wsX11_feed) B.pre
  have hown : s.vm.findClass RX11 = some m.cls := findClass_of_methodNamed B.named
  have hlocks := B.notSynchronized
  subst hsz
  have hD := hD0.self (sz := s.heap.size)
  generalize hAe : va_A [(h0, .inr (10, fs)), (m_tp, .inl (cI, 1200, .inl f))] s.heap.size = A at hD ⊢
  have hA : ∀ q : Nat, s.heap.size ≤ q → A q := fun q h => by rw [← hAe]; exact Or.inr h
  have hl := lv_entry ([.ref h0, .int n1, .int n2, .int n3, .int n4, .int n5]) (n := 8) (Nat.le_of_ble_eq_true rfl)
  rw [lg_entry_eq]
  generalize (lg_sl ([.ref h0, .int n1, .int n2, .int n3, .int n4, .int n5]) ++ List.replicate (8 - (lg_sl ([.ref h0, .int n1, .int n2, .int n3, .int n4, .int n5])).length) Slot.unset).toArray = ls at hl ⊢
  have hl : lv_has ls 8 [(0, .ref h0), (1, .int n1), (2, .int n2), (3, .int n3), (4, .int n4), (5, .int n5)] := hl
  refine k_H (A := A) hP (fun H hP hS => ?_)
  have hP : va_P (dC, dI) vwCl [(h0, .inr (10, fs)), (m_tp, .inl (cI, 1200, .inl f))] H := hP
  have hD : va_D A [(h0, .inr (10, fs)), (m_tp, .inl (cI, 1200, .inl f))] := hD
  refine lv_aload_n hx hb dX11_feed_0 rfl (lv_at hl 0 rfl) ?_
  refine lv_iconst (v := 0) hx hb dX11_feed_1 (by decide) ?_
  refine va_put (D := (dC, dI)) (ci := 10) (v := .int 0) (ty := .int) (C := RX11) (T := TX11) (N := 68) hx hb hts iwwsX11_feed_11 tyX11 tyX11_ok nmX11 hown hK hP hD hS 0 rfl rfl 0 (by decide) (hts (.fieldLink RX11 121 "NothingJudgeModel" "thrown" "I") fwwsX11_feed_121) (fun _ h9 => h9) rfl (by decide +kernel) rfl rfl (by rw [gl_fs]; decide) dX11_feed_2 (fun H locs hP hD hS => ?_)
  obtain ⟨fs_439, efs_439⟩ : ∃ z : List Value, z = fs.set 0 (.int 0) := ⟨_, rfl⟩
  have glfs_439 : fs_439.length = 68 := fs_len efs_439 gl_fs
  have hP : va_P (dC, dI) vwCl [(h0, .inr (10, fs_439)), (m_tp, .inl (cI, 1200, .inl f))] H := by rw [efs_439]; exact hP
  have hD : va_D A [(h0, .inr (10, fs_439)), (m_tp, .inl (cI, 1200, .inl f))] := by rw [efs_439]; exact hD
  refine lv_aload_n hx hb dX11_feed_5 rfl (lv_at hl 0 rfl) ?_
  refine va_get (D := (dC, dI)) (ci := 10) (v := .int 0) (C := RX11) (T := TX11) (N := 68) hx hb hts iwwsX11_feed_11 hown hK hP 0 rfl rfl 2 (by decide) (hts (.fieldLink RX11 124 "NothingJudgeModel" "taped" "I") fwwsX11_feed_124) (fun _ h9 => h9) (fs_ne efs_439 (by decide) g_fs_2) dX11_feed_6 ?_
  refine lv_sipush (v := 1180) hx hb dX11_feed_9 (by decide) ?_
  refine lv_icmp_le (tgt := 17) hx hb dX11_feed_12 (by decide) (fun _ => ?_) (fun c9 => absurd (by decide) c9)
  refine lv_iconst (v := 0) hx hb dX11_feed_17 (by decide) ?_
  refine lv_istore (lv' := [(6, .int 0), (0, .ref h0), (1, .int n1), (2, .int n2), (3, .int n3), (4, .int n4), (5, .int n5)]) hx hb dX11_feed_18 hl (by decide) rfl (fun ls hl => ?_)
  have hl := lv_sub hl (l' := [(6, .int 0), (0, .ref h0), (1, .int n1), (2, .int n2), (3, .int n3), (4, .int n4), (5, .int n5)]) [0, 1, 2, 3, 4, 5, 6] rfl
  have hl : lv_has ls 8 [(6, .int (nI 0)), (0, .ref h0), (1, .int n1), (2, .int n2), (3, .int n3), (4, .int n4), (5, .int n5)] := by rw [show nI 0 = (0 : Int32) by decide]; exact hl
  refine lp_up (S := (Nat → Int32)) (fun k st => True) (fun st => [(h0, .inr (10, fs_439)), (m_tp, .inl (cI, 1200, .inl (st)))]) (fun k st => [(6, .int (nI k)), (0, .ref h0), (1, .int n1), (2, .int n2), (3, .int n3), (4, .int n4), (5, .int n5)]) 20 20 ?_ ?_ 0 (by decide) (f) trivial hP hD hS hl
  · intro f_440 hJ H locs hP hD hS ls hl
    have hP : va_P (dC, dI) vwCl [(h0, .inr (10, fs_439)), (m_tp, .inl (cI, 1200, .inl f_440))] H := hP
    have hD : va_D A [(h0, .inr (10, fs_439)), (m_tp, .inl (cI, 1200, .inl f_440))] := hD
    have hl : lv_has ls 8 [(6, .int 20), (0, .ref h0), (1, .int n1), (2, .int n2), (3, .int n3), (4, .int n4), (5, .int n5)] := by rw [← show nI 20 = (20 : Int32) by decide]; exact hl
    refine lv_iload hx hb dX11_feed_20 (lv_at hl 0 rfl) ?_
    refine lv_bipush (v := 20) hx hb dX11_feed_22 (by decide) ?_
    refine lv_icmp_ge (tgt := 110) hx hb dX11_feed_24 (by decide) (fun _ => ?_) (fun c9 => absurd (by decide) c9)
    refine lv_aload_n hx hb dX11_feed_110 rfl (lv_at hl 1 rfl) ?_
    refine lv_dup hx hb dX11_feed_111 rfl ?_
    refine va_get (D := (dC, dI)) (ci := 10) (v := .int 0) (C := RX11) (T := TX11) (N := 68) hx hb hts iwwsX11_feed_11 hown hK hP 0 rfl rfl 2 (by decide) (hts (.fieldLink RX11 124 "NothingJudgeModel" "taped" "I") fwwsX11_feed_124) (fun _ h9 => h9) (fs_ne efs_439 (by decide) g_fs_2) dX11_feed_112 ?_
    refine lv_bipush (v := 20) hx hb dX11_feed_115 (by decide) ?_
    refine lv_iadd hx hb dX11_feed_117 ?_
    refine lv_topi (fun y_441 ey_441 => ?_)
    obtain rfl : y_441 = 20 := ey_441.trans (by decide)
    refine va_put (D := (dC, dI)) (ci := 10) (v := .int 20) (ty := .int) (C := RX11) (T := TX11) (N := 68) hx hb hts iwwsX11_feed_11 tyX11 tyX11_ok nmX11 hown hK hP hD hS 0 rfl rfl 2 (by decide) (hts (.fieldLink RX11 124 "NothingJudgeModel" "taped" "I") fwwsX11_feed_124) (fun _ h9 => h9) rfl (by decide +kernel) rfl rfl (by rw [glfs_439]; decide) dX11_feed_118 (fun H locs hP hD hS => ?_)
    obtain ⟨fs_442, efs_442⟩ : ∃ z : List Value, z = fs_439.set 2 (.int 20) := ⟨_, rfl⟩
    have glfs_442 : fs_442.length = 68 := fs_len efs_442 glfs_439
    have hP : va_P (dC, dI) vwCl [(h0, .inr (10, fs_442)), (m_tp, .inl (cI, 1200, .inl f_440))] H := by rw [efs_442]; exact hP
    have hD : va_D A [(h0, .inr (10, fs_442)), (m_tp, .inl (cI, 1200, .inl f_440))] := by rw [efs_442]; exact hD
    refine lv_aload_n hx hb dX11_feed_121 rfl (lv_at hl 1 rfl) ?_
    refine va_get (D := (dC, dI)) (ci := 10) (v := .int 20) (C := RX11) (T := TX11) (N := 68) hx hb hts iwwsX11_feed_11 hown hK hP 0 rfl rfl 2 (by decide) (hts (.fieldLink RX11 124 "NothingJudgeModel" "taped" "I") fwwsX11_feed_124) (fun _ h9 => h9) (fs_eq efs_442 (by rw [glfs_439]; decide)) dX11_feed_122 ?_
    subst efs_442
    subst efs_439
    have hP9 := hP.sub (ws' := []) [] rfl
    have hD9 := hD.sub (ws' := []) [] (by decide) rfl
    exact W.iret (v := 20) hx hb hr (fun t ht hW => ⟨⟨20, (), rfl, rfl, by rw [ht]; exact hP9, hD9⟩, hS.F ht⟩) hS.2.2 dX11_feed_125
  · intro k f_443 hk hJ ih H locs hP hD hS ls hl
    have hP : va_P (dC, dI) vwCl [(h0, .inr (10, fs_439)), (m_tp, .inl (cI, 1200, .inl f_443))] H := hP
    have hD : va_D A [(h0, .inr (10, fs_439)), (m_tp, .inl (cI, 1200, .inl f_443))] := hD
    have hl : lv_has ls 8 [(6, .int (nI k)), (0, .ref h0), (1, .int n1), (2, .int n2), (3, .int n3), (4, .int n4), (5, .int n5)] := hl
    refine lv_iload hx hb dX11_feed_20 (lv_at hl 0 rfl) ?_
    refine lv_bipush (v := 20) hx hb dX11_feed_22 (by decide) ?_
    refine lv_icmp_ge (tgt := 110) hx hb dX11_feed_24 (by decide) (fun c9 => absurd c9 (ge_no (N := 20) (by decide) hk (by decide))) (fun _ => ?_)
    refine lv_iload hx hb dX11_feed_27 (lv_at hl 0 rfl) ?_
    refine lv_iconst (v := 4) hx hb dX11_feed_29 (by decide) ?_
    refine lv_icmp_ge (tgt := 37) hx hb dX11_feed_30 (by decide) (fun c_444 => ?_) (fun c_444 => ?_)
    · refine lv_iload hx hb dX11_feed_37 (lv_at hl 0 rfl) ?_
      refine lv_bipush (v := 8) hx hb dX11_feed_39 (by decide) ?_
      refine lv_icmp_ge (tgt := 48) hx hb dX11_feed_41 (by decide) (fun c_445 => ?_) (fun c_445 => ?_)
      · refine lv_iload hx hb dX11_feed_48 (lv_at hl 0 rfl) ?_
        refine lv_bipush (v := 12) hx hb dX11_feed_50 (by decide) ?_
        refine lv_icmp_ge (tgt := 59) hx hb dX11_feed_52 (by decide) (fun c_446 => ?_) (fun c_446 => ?_)
        · refine lv_iload hx hb dX11_feed_59 (lv_at hl 0 rfl) ?_
          refine lv_bipush (v := 16) hx hb dX11_feed_61 (by decide) ?_
          refine lv_icmp_ge (tgt := 71) hx hb dX11_feed_63 (by decide) (fun c_447 => ?_) (fun c_447 => ?_)
          · refine lv_iload hx hb dX11_feed_71 (lv_at hl 6 rfl) ?_
            refine lv_istore (lv' := [(7, .int n5), (6, .int (nI k)), (0, .ref h0), (1, .int n1), (2, .int n2), (3, .int n3), (4, .int n4), (5, .int n5)]) hx hb dX11_feed_73 hl (by decide) rfl (fun ls hl => ?_)
            refine lv_aload_n hx hb dX11_feed_75 rfl (lv_at hl 2 rfl) ?_
            refine va_get (D := (dC, dI)) (ci := 10) (v := .ref m_tp) (C := RX11) (T := TX11) (N := 68) hx hb hts iwwsX11_feed_11 hown hK hP 0 rfl rfl 1 (by decide) (hts (.fieldLink RX11 7 "NothingJudgeModel" "tape" "[I") fwwsX11_feed_7) (fun _ h9 => h9) (fs_ne efs_439 (by decide) g_fs_1) dX11_feed_76 ?_
            refine lv_aload_n hx hb dX11_feed_79 rfl (lv_at hl 2 rfl) ?_
            refine va_get (D := (dC, dI)) (ci := 10) (v := .int 0) (C := RX11) (T := TX11) (N := 68) hx hb hts iwwsX11_feed_11 hown hK hP 0 rfl rfl 2 (by decide) (hts (.fieldLink RX11 124 "NothingJudgeModel" "taped" "I") fwwsX11_feed_124) (fun _ h9 => h9) (fs_ne efs_439 (by decide) g_fs_2) dX11_feed_80 ?_
            refine lv_iload hx hb dX11_feed_83 (lv_at hl 1 rfl) ?_
            refine lv_iadd hx hb dX11_feed_85 ?_
            refine lv_topi (fun v_448 ev_448 => ?_)
            refine lv_iload hx hb dX11_feed_86 (lv_at hl 0 rfl) ?_
            refine lv_bipush (v := 24) hx hb dX11_feed_88 (by decide) ?_
            refine lv_bipush (v := 8) hx hb dX11_feed_90 (by decide) ?_
            refine lv_iload hx hb dX11_feed_92 (lv_at hl 1 rfl) ?_
            refine lv_iconst (v := 4) hx hb dX11_feed_94 (by decide) ?_
            refine lv_irem hx hb dX11_feed_95 (by decide) ?_
            refine lv_topi (fun v_449 ev_449 => ?_)
            refine lv_imul hx hb dX11_feed_96 ?_
            refine lv_topi (fun v_450 ev_450 => ?_)
            refine lv_isub hx hb dX11_feed_97 ?_
            refine lv_topi (fun v_451 ev_451 => ?_)
            refine lv_ishr hx hb dX11_feed_98 ?_
            refine lv_topi (fun v_452 ev_452 => ?_)
            refine lv_sipush (v := 255) hx hb dX11_feed_99 (by decide) ?_
            refine lv_iand hx hb dX11_feed_102 ?_
            refine lv_topi (fun v_453 ev_453 => ?_)
            refine va_iast hx hb hK hP hD hS 1 0 rfl rfl (in_add (c := 0) ev_448 (by omega) (by decide) (by decide)) dX11_feed_103 (fun H locs hP hD hS => ?_)
            obtain ⟨f_454, ef_454⟩ : ∃ z, z = upd f_443 v_448.toNatClampNeg v_453 := ⟨_, rfl⟩
            have hP : va_P (dC, dI) vwCl [(h0, .inr (10, fs_439)), (m_tp, .inl (cI, 1200, .inl f_454))] H := by rw [ef_454]; exact hP
            have hD : va_D A [(h0, .inr (10, fs_439)), (m_tp, .inl (cI, 1200, .inl f_454))] := by rw [ef_454]; exact hD
            obtain ⟨x_455, ex_455⟩ : ∃ z : Int32, z = (nI k) + 1 := ⟨_, rfl⟩
            refine lv_iinc (v := x_455) (lv' := [(6, .int x_455), (7, .int n5), (0, .ref h0), (1, .int n1), (2, .int n2), (3, .int n3), (4, .int n4), (5, .int n5)]) hx hb dX11_feed_104 hl (k := 1) rfl (by rw [ex_455]; rfl) (by decide) rfl (fun ls hl => ?_)
            refine lv_goto (tgt := 20) hx hb dX11_feed_107 (by decide) ?_
            have hl := lv_sub hl (l' := [(6, .int x_455), (0, .ref h0), (1, .int n1), (2, .int n2), (3, .int n3), (4, .int n4), (5, .int n5)]) [0, 2, 3, 4, 5, 6, 7] rfl
            rw [ex_455, nI_1 k] at hl
            exact ih (f_454) trivial H locs hP hD hS ls hl
          · refine lv_iload hx hb dX11_feed_66 (lv_at hl 5 rfl) ?_
            refine lv_goto (tgt := 73) hx hb dX11_feed_68 (by decide) ?_
            refine lv_istore (lv' := [(7, .int n4), (6, .int (nI k)), (0, .ref h0), (1, .int n1), (2, .int n2), (3, .int n3), (4, .int n4), (5, .int n5)]) hx hb dX11_feed_73 hl (by decide) rfl (fun ls hl => ?_)
            refine lv_aload_n hx hb dX11_feed_75 rfl (lv_at hl 2 rfl) ?_
            refine va_get (D := (dC, dI)) (ci := 10) (v := .ref m_tp) (C := RX11) (T := TX11) (N := 68) hx hb hts iwwsX11_feed_11 hown hK hP 0 rfl rfl 1 (by decide) (hts (.fieldLink RX11 7 "NothingJudgeModel" "tape" "[I") fwwsX11_feed_7) (fun _ h9 => h9) (fs_ne efs_439 (by decide) g_fs_1) dX11_feed_76 ?_
            refine lv_aload_n hx hb dX11_feed_79 rfl (lv_at hl 2 rfl) ?_
            refine va_get (D := (dC, dI)) (ci := 10) (v := .int 0) (C := RX11) (T := TX11) (N := 68) hx hb hts iwwsX11_feed_11 hown hK hP 0 rfl rfl 2 (by decide) (hts (.fieldLink RX11 124 "NothingJudgeModel" "taped" "I") fwwsX11_feed_124) (fun _ h9 => h9) (fs_ne efs_439 (by decide) g_fs_2) dX11_feed_80 ?_
            refine lv_iload hx hb dX11_feed_83 (lv_at hl 1 rfl) ?_
            refine lv_iadd hx hb dX11_feed_85 ?_
            refine lv_topi (fun v_456 ev_456 => ?_)
            refine lv_iload hx hb dX11_feed_86 (lv_at hl 0 rfl) ?_
            refine lv_bipush (v := 24) hx hb dX11_feed_88 (by decide) ?_
            refine lv_bipush (v := 8) hx hb dX11_feed_90 (by decide) ?_
            refine lv_iload hx hb dX11_feed_92 (lv_at hl 1 rfl) ?_
            refine lv_iconst (v := 4) hx hb dX11_feed_94 (by decide) ?_
            refine lv_irem hx hb dX11_feed_95 (by decide) ?_
            refine lv_topi (fun v_457 ev_457 => ?_)
            refine lv_imul hx hb dX11_feed_96 ?_
            refine lv_topi (fun v_458 ev_458 => ?_)
            refine lv_isub hx hb dX11_feed_97 ?_
            refine lv_topi (fun v_459 ev_459 => ?_)
            refine lv_ishr hx hb dX11_feed_98 ?_
            refine lv_topi (fun v_460 ev_460 => ?_)
            refine lv_sipush (v := 255) hx hb dX11_feed_99 (by decide) ?_
            refine lv_iand hx hb dX11_feed_102 ?_
            refine lv_topi (fun v_461 ev_461 => ?_)
            refine va_iast hx hb hK hP hD hS 1 0 rfl rfl (in_add (c := 0) ev_456 (by omega) (by decide) (by decide)) dX11_feed_103 (fun H locs hP hD hS => ?_)
            obtain ⟨f_462, ef_462⟩ : ∃ z, z = upd f_443 v_456.toNatClampNeg v_461 := ⟨_, rfl⟩
            have hP : va_P (dC, dI) vwCl [(h0, .inr (10, fs_439)), (m_tp, .inl (cI, 1200, .inl f_462))] H := by rw [ef_462]; exact hP
            have hD : va_D A [(h0, .inr (10, fs_439)), (m_tp, .inl (cI, 1200, .inl f_462))] := by rw [ef_462]; exact hD
            obtain ⟨x_463, ex_463⟩ : ∃ z : Int32, z = (nI k) + 1 := ⟨_, rfl⟩
            refine lv_iinc (v := x_463) (lv' := [(6, .int x_463), (7, .int n4), (0, .ref h0), (1, .int n1), (2, .int n2), (3, .int n3), (4, .int n4), (5, .int n5)]) hx hb dX11_feed_104 hl (k := 1) rfl (by rw [ex_463]; rfl) (by decide) rfl (fun ls hl => ?_)
            refine lv_goto (tgt := 20) hx hb dX11_feed_107 (by decide) ?_
            have hl := lv_sub hl (l' := [(6, .int x_463), (0, .ref h0), (1, .int n1), (2, .int n2), (3, .int n3), (4, .int n4), (5, .int n5)]) [0, 2, 3, 4, 5, 6, 7] rfl
            rw [ex_463, nI_1 k] at hl
            exact ih (f_462) trivial H locs hP hD hS ls hl
        · refine lv_iload_n hx hb dX11_feed_55 rfl (lv_at hl 4 rfl) ?_
          refine lv_goto (tgt := 73) hx hb dX11_feed_56 (by decide) ?_
          refine lv_istore (lv' := [(7, .int n3), (6, .int (nI k)), (0, .ref h0), (1, .int n1), (2, .int n2), (3, .int n3), (4, .int n4), (5, .int n5)]) hx hb dX11_feed_73 hl (by decide) rfl (fun ls hl => ?_)
          refine lv_aload_n hx hb dX11_feed_75 rfl (lv_at hl 2 rfl) ?_
          refine va_get (D := (dC, dI)) (ci := 10) (v := .ref m_tp) (C := RX11) (T := TX11) (N := 68) hx hb hts iwwsX11_feed_11 hown hK hP 0 rfl rfl 1 (by decide) (hts (.fieldLink RX11 7 "NothingJudgeModel" "tape" "[I") fwwsX11_feed_7) (fun _ h9 => h9) (fs_ne efs_439 (by decide) g_fs_1) dX11_feed_76 ?_
          refine lv_aload_n hx hb dX11_feed_79 rfl (lv_at hl 2 rfl) ?_
          refine va_get (D := (dC, dI)) (ci := 10) (v := .int 0) (C := RX11) (T := TX11) (N := 68) hx hb hts iwwsX11_feed_11 hown hK hP 0 rfl rfl 2 (by decide) (hts (.fieldLink RX11 124 "NothingJudgeModel" "taped" "I") fwwsX11_feed_124) (fun _ h9 => h9) (fs_ne efs_439 (by decide) g_fs_2) dX11_feed_80 ?_
          refine lv_iload hx hb dX11_feed_83 (lv_at hl 1 rfl) ?_
          refine lv_iadd hx hb dX11_feed_85 ?_
          refine lv_topi (fun v_464 ev_464 => ?_)
          refine lv_iload hx hb dX11_feed_86 (lv_at hl 0 rfl) ?_
          refine lv_bipush (v := 24) hx hb dX11_feed_88 (by decide) ?_
          refine lv_bipush (v := 8) hx hb dX11_feed_90 (by decide) ?_
          refine lv_iload hx hb dX11_feed_92 (lv_at hl 1 rfl) ?_
          refine lv_iconst (v := 4) hx hb dX11_feed_94 (by decide) ?_
          refine lv_irem hx hb dX11_feed_95 (by decide) ?_
          refine lv_topi (fun v_465 ev_465 => ?_)
          refine lv_imul hx hb dX11_feed_96 ?_
          refine lv_topi (fun v_466 ev_466 => ?_)
          refine lv_isub hx hb dX11_feed_97 ?_
          refine lv_topi (fun v_467 ev_467 => ?_)
          refine lv_ishr hx hb dX11_feed_98 ?_
          refine lv_topi (fun v_468 ev_468 => ?_)
          refine lv_sipush (v := 255) hx hb dX11_feed_99 (by decide) ?_
          refine lv_iand hx hb dX11_feed_102 ?_
          refine lv_topi (fun v_469 ev_469 => ?_)
          refine va_iast hx hb hK hP hD hS 1 0 rfl rfl (in_add (c := 0) ev_464 (by omega) (by decide) (by decide)) dX11_feed_103 (fun H locs hP hD hS => ?_)
          obtain ⟨f_470, ef_470⟩ : ∃ z, z = upd f_443 v_464.toNatClampNeg v_469 := ⟨_, rfl⟩
          have hP : va_P (dC, dI) vwCl [(h0, .inr (10, fs_439)), (m_tp, .inl (cI, 1200, .inl f_470))] H := by rw [ef_470]; exact hP
          have hD : va_D A [(h0, .inr (10, fs_439)), (m_tp, .inl (cI, 1200, .inl f_470))] := by rw [ef_470]; exact hD
          obtain ⟨x_471, ex_471⟩ : ∃ z : Int32, z = (nI k) + 1 := ⟨_, rfl⟩
          refine lv_iinc (v := x_471) (lv' := [(6, .int x_471), (7, .int n3), (0, .ref h0), (1, .int n1), (2, .int n2), (3, .int n3), (4, .int n4), (5, .int n5)]) hx hb dX11_feed_104 hl (k := 1) rfl (by rw [ex_471]; rfl) (by decide) rfl (fun ls hl => ?_)
          refine lv_goto (tgt := 20) hx hb dX11_feed_107 (by decide) ?_
          have hl := lv_sub hl (l' := [(6, .int x_471), (0, .ref h0), (1, .int n1), (2, .int n2), (3, .int n3), (4, .int n4), (5, .int n5)]) [0, 2, 3, 4, 5, 6, 7] rfl
          rw [ex_471, nI_1 k] at hl
          exact ih (f_470) trivial H locs hP hD hS ls hl
      · refine lv_iload_n hx hb dX11_feed_44 rfl (lv_at hl 3 rfl) ?_
        refine lv_goto (tgt := 73) hx hb dX11_feed_45 (by decide) ?_
        refine lv_istore (lv' := [(7, .int n2), (6, .int (nI k)), (0, .ref h0), (1, .int n1), (2, .int n2), (3, .int n3), (4, .int n4), (5, .int n5)]) hx hb dX11_feed_73 hl (by decide) rfl (fun ls hl => ?_)
        refine lv_aload_n hx hb dX11_feed_75 rfl (lv_at hl 2 rfl) ?_
        refine va_get (D := (dC, dI)) (ci := 10) (v := .ref m_tp) (C := RX11) (T := TX11) (N := 68) hx hb hts iwwsX11_feed_11 hown hK hP 0 rfl rfl 1 (by decide) (hts (.fieldLink RX11 7 "NothingJudgeModel" "tape" "[I") fwwsX11_feed_7) (fun _ h9 => h9) (fs_ne efs_439 (by decide) g_fs_1) dX11_feed_76 ?_
        refine lv_aload_n hx hb dX11_feed_79 rfl (lv_at hl 2 rfl) ?_
        refine va_get (D := (dC, dI)) (ci := 10) (v := .int 0) (C := RX11) (T := TX11) (N := 68) hx hb hts iwwsX11_feed_11 hown hK hP 0 rfl rfl 2 (by decide) (hts (.fieldLink RX11 124 "NothingJudgeModel" "taped" "I") fwwsX11_feed_124) (fun _ h9 => h9) (fs_ne efs_439 (by decide) g_fs_2) dX11_feed_80 ?_
        refine lv_iload hx hb dX11_feed_83 (lv_at hl 1 rfl) ?_
        refine lv_iadd hx hb dX11_feed_85 ?_
        refine lv_topi (fun v_472 ev_472 => ?_)
        refine lv_iload hx hb dX11_feed_86 (lv_at hl 0 rfl) ?_
        refine lv_bipush (v := 24) hx hb dX11_feed_88 (by decide) ?_
        refine lv_bipush (v := 8) hx hb dX11_feed_90 (by decide) ?_
        refine lv_iload hx hb dX11_feed_92 (lv_at hl 1 rfl) ?_
        refine lv_iconst (v := 4) hx hb dX11_feed_94 (by decide) ?_
        refine lv_irem hx hb dX11_feed_95 (by decide) ?_
        refine lv_topi (fun v_473 ev_473 => ?_)
        refine lv_imul hx hb dX11_feed_96 ?_
        refine lv_topi (fun v_474 ev_474 => ?_)
        refine lv_isub hx hb dX11_feed_97 ?_
        refine lv_topi (fun v_475 ev_475 => ?_)
        refine lv_ishr hx hb dX11_feed_98 ?_
        refine lv_topi (fun v_476 ev_476 => ?_)
        refine lv_sipush (v := 255) hx hb dX11_feed_99 (by decide) ?_
        refine lv_iand hx hb dX11_feed_102 ?_
        refine lv_topi (fun v_477 ev_477 => ?_)
        refine va_iast hx hb hK hP hD hS 1 0 rfl rfl (in_add (c := 0) ev_472 (by omega) (by decide) (by decide)) dX11_feed_103 (fun H locs hP hD hS => ?_)
        obtain ⟨f_478, ef_478⟩ : ∃ z, z = upd f_443 v_472.toNatClampNeg v_477 := ⟨_, rfl⟩
        have hP : va_P (dC, dI) vwCl [(h0, .inr (10, fs_439)), (m_tp, .inl (cI, 1200, .inl f_478))] H := by rw [ef_478]; exact hP
        have hD : va_D A [(h0, .inr (10, fs_439)), (m_tp, .inl (cI, 1200, .inl f_478))] := by rw [ef_478]; exact hD
        obtain ⟨x_479, ex_479⟩ : ∃ z : Int32, z = (nI k) + 1 := ⟨_, rfl⟩
        refine lv_iinc (v := x_479) (lv' := [(6, .int x_479), (7, .int n2), (0, .ref h0), (1, .int n1), (2, .int n2), (3, .int n3), (4, .int n4), (5, .int n5)]) hx hb dX11_feed_104 hl (k := 1) rfl (by rw [ex_479]; rfl) (by decide) rfl (fun ls hl => ?_)
        refine lv_goto (tgt := 20) hx hb dX11_feed_107 (by decide) ?_
        have hl := lv_sub hl (l' := [(6, .int x_479), (0, .ref h0), (1, .int n1), (2, .int n2), (3, .int n3), (4, .int n4), (5, .int n5)]) [0, 2, 3, 4, 5, 6, 7] rfl
        rw [ex_479, nI_1 k] at hl
        exact ih (f_478) trivial H locs hP hD hS ls hl
    · refine lv_iload_n hx hb dX11_feed_33 rfl (lv_at hl 2 rfl) ?_
      refine lv_goto (tgt := 73) hx hb dX11_feed_34 (by decide) ?_
      refine lv_istore (lv' := [(7, .int n1), (6, .int (nI k)), (0, .ref h0), (1, .int n1), (2, .int n2), (3, .int n3), (4, .int n4), (5, .int n5)]) hx hb dX11_feed_73 hl (by decide) rfl (fun ls hl => ?_)
      refine lv_aload_n hx hb dX11_feed_75 rfl (lv_at hl 2 rfl) ?_
      refine va_get (D := (dC, dI)) (ci := 10) (v := .ref m_tp) (C := RX11) (T := TX11) (N := 68) hx hb hts iwwsX11_feed_11 hown hK hP 0 rfl rfl 1 (by decide) (hts (.fieldLink RX11 7 "NothingJudgeModel" "tape" "[I") fwwsX11_feed_7) (fun _ h9 => h9) (fs_ne efs_439 (by decide) g_fs_1) dX11_feed_76 ?_
      refine lv_aload_n hx hb dX11_feed_79 rfl (lv_at hl 2 rfl) ?_
      refine va_get (D := (dC, dI)) (ci := 10) (v := .int 0) (C := RX11) (T := TX11) (N := 68) hx hb hts iwwsX11_feed_11 hown hK hP 0 rfl rfl 2 (by decide) (hts (.fieldLink RX11 124 "NothingJudgeModel" "taped" "I") fwwsX11_feed_124) (fun _ h9 => h9) (fs_ne efs_439 (by decide) g_fs_2) dX11_feed_80 ?_
      refine lv_iload hx hb dX11_feed_83 (lv_at hl 1 rfl) ?_
      refine lv_iadd hx hb dX11_feed_85 ?_
      refine lv_topi (fun v_480 ev_480 => ?_)
      refine lv_iload hx hb dX11_feed_86 (lv_at hl 0 rfl) ?_
      refine lv_bipush (v := 24) hx hb dX11_feed_88 (by decide) ?_
      refine lv_bipush (v := 8) hx hb dX11_feed_90 (by decide) ?_
      refine lv_iload hx hb dX11_feed_92 (lv_at hl 1 rfl) ?_
      refine lv_iconst (v := 4) hx hb dX11_feed_94 (by decide) ?_
      refine lv_irem hx hb dX11_feed_95 (by decide) ?_
      refine lv_topi (fun v_481 ev_481 => ?_)
      refine lv_imul hx hb dX11_feed_96 ?_
      refine lv_topi (fun v_482 ev_482 => ?_)
      refine lv_isub hx hb dX11_feed_97 ?_
      refine lv_topi (fun v_483 ev_483 => ?_)
      refine lv_ishr hx hb dX11_feed_98 ?_
      refine lv_topi (fun v_484 ev_484 => ?_)
      refine lv_sipush (v := 255) hx hb dX11_feed_99 (by decide) ?_
      refine lv_iand hx hb dX11_feed_102 ?_
      refine lv_topi (fun v_485 ev_485 => ?_)
      refine va_iast hx hb hK hP hD hS 1 0 rfl rfl (in_add (c := 0) ev_480 (by omega) (by decide) (by decide)) dX11_feed_103 (fun H locs hP hD hS => ?_)
      obtain ⟨f_486, ef_486⟩ : ∃ z, z = upd f_443 v_480.toNatClampNeg v_485 := ⟨_, rfl⟩
      have hP : va_P (dC, dI) vwCl [(h0, .inr (10, fs_439)), (m_tp, .inl (cI, 1200, .inl f_486))] H := by rw [ef_486]; exact hP
      have hD : va_D A [(h0, .inr (10, fs_439)), (m_tp, .inl (cI, 1200, .inl f_486))] := by rw [ef_486]; exact hD
      obtain ⟨x_487, ex_487⟩ : ∃ z : Int32, z = (nI k) + 1 := ⟨_, rfl⟩
      refine lv_iinc (v := x_487) (lv' := [(6, .int x_487), (7, .int n1), (0, .ref h0), (1, .int n1), (2, .int n2), (3, .int n3), (4, .int n4), (5, .int n5)]) hx hb dX11_feed_104 hl (k := 1) rfl (by rw [ex_487]; rfl) (by decide) rfl (fun ls hl => ?_)
      refine lv_goto (tgt := 20) hx hb dX11_feed_107 (by decide) ?_
      have hl := lv_sub hl (l' := [(6, .int x_487), (0, .ref h0), (1, .int n1), (2, .int n2), (3, .int n3), (4, .int n4), (5, .int n5)]) [0, 2, 3, 4, 5, 6, 7] rfl
      rw [ex_487, nI_1 k] at hl
      exact ih (f_486) trivial H locs hP hD hS ls hl

set_option maxHeartbeats 4000000 in
set_option maxRecDepth 100000 in
theorem m_parses (l : Launch) (dC : Nat → ClassId) (dI : Nat → Nat → Nat) (cI cB cL cZ : ClassId) (h0 : Nat) (m_rf : Nat) (m_um : Nat) (m_tm : Nat) (m_fr : Nat) (fs : List Value) (frf : Nat → Int32) (f0 : Nat → Int32) (f1 : Nat → Int32) (f2 : Nat → Int32) (sz : Nat) (gl_fs : fs.length = 68) (g_fs_19 : fs[19]? = some (.ref m_rf)) (g_fs_26 : fs[26]? = some (.ref m_um)) (g_fs_29 : fs[29]? = some (.ref m_tm)) (g_fs_22 : fs[22]? = some (.ref m_fr)) (g_fs_3 : fs[3]? = some (.int 0)) (hrf : ∀ j, j < 16 → frf j = -1) : Met l yX11_parses wsX11_parses ({ frames := 2, cells := 0, slots := 0, locals := 42 }) (cP (dC, dI) (kTy cI cB cL cZ) [.ref h0] [(h0, .inr (10, fs)), (m_rf, .inl (cI, 16, .inl frf)), (m_um, .inl (cI, 2, .inl f0)), (m_tm, .inl (cI, 2, .inl f1)), (m_fr, .inl (cI, 2, .inl f2))] sz) (va_Qv (fun _ : Unit => True) (fun (_ : Unit) (t : State) => ∃ fz0 : Nat → Int32, ∃ fz1 : Nat → Int32, ∃ fz2 : Nat → Int32, ∃ fz3 : Nat → Int32, (∀ j, j < 16 → fz0 j = -1) ∧ va_P (dC, dI) vwCl [(h0, .inr (10, ((((((((fs.set 4 (.int 0)).set 8 (.int 0)).set 9 (.int (-1))).set 17 (.int 0)).set 33 (.int 0)).set 38 (.int 0)).set 5 (.int 0)).set 6 (.int 4)))), (m_rf, .inl (cI, 16, .inl fz0)), (m_um, .inl (cI, 2, .inl fz1)), (m_tm, .inl (cI, 2, .inl fz2)), (m_fr, .inl (cI, 2, .inl fz3))] t.heap ∧ va_D (va_A [(h0, .inr (10, fs)), (m_rf, .inl (cI, 16, .inl frf)), (m_um, .inl (cI, 2, .inl f0)), (m_tm, .inl (cI, 2, .inl f1)), (m_fr, .inl (cI, 2, .inl f2))] sz) [(h0, .inr (10, ((((((((fs.set 4 (.int 0)).set 8 (.int 0)).set 9 (.int (-1))).set 17 (.int 0)).set 33 (.int 0)).set 38 (.int 0)).set 5 (.int 0)).set 6 (.int 4)))), (m_rf, .inl (cI, 16, .inl fz0)), (m_um, .inl (cI, 2, .inl fz1)), (m_tm, .inl (cI, 2, .inl fz2)), (m_fr, .inl (cI, 2, .inl fz3))]) (va_A [(h0, .inr (10, fs)), (m_rf, .inl (cI, 16, .inl frf)), (m_um, .inl (cI, 2, .inl f0)), (m_tm, .inl (cI, 2, .inl f1)), (m_fr, .inl (cI, 2, .inl f2))] sz)) 0 0 (va_A [(h0, .inr (10, fs)), (m_rf, .inl (cI, 16, .inl frf)), (m_um, .inl (cI, 2, .inl f0)), (m_tm, .inl (cI, 2, .inl f1)), (m_fr, .inl (cI, 2, .inl f2))] sz) := by
  refine Met.ofW (cc := cX11_parses) (maxL := 3) (ret := none) (by decide) rfl ?_
  intro p e s m args below meth c s₁ B hml hv
  obtain ⟨rfl, hsz, hP, hK, hD0, hN⟩ := hv
  have hx := B.exec
  have hb := B.bytes
  have hr := B.returns
  have hts := atoms_spec (ws := wsX11_parses) B.pre
  have hown : s.vm.findClass RX11 = some m.cls := findClass_of_methodNamed B.named
  have hlocks := B.notSynchronized
  subst hsz
  have hD := hD0.self (sz := s.heap.size)
  generalize hAe : va_A [(h0, .inr (10, fs)), (m_rf, .inl (cI, 16, .inl frf)), (m_um, .inl (cI, 2, .inl f0)), (m_tm, .inl (cI, 2, .inl f1)), (m_fr, .inl (cI, 2, .inl f2))] s.heap.size = A at hD ⊢
  have hA : ∀ q : Nat, s.heap.size ≤ q → A q := fun q h => by rw [← hAe]; exact Or.inr h
  have hl := lv_entry ([.ref h0]) (n := 3) (Nat.le_of_ble_eq_true rfl)
  rw [lg_entry_eq]
  generalize (lg_sl ([.ref h0]) ++ List.replicate (3 - (lg_sl ([.ref h0])).length) Slot.unset).toArray = ls at hl ⊢
  have hl : lv_has ls 3 [(0, .ref h0)] := hl
  refine k_H (A := A) hP (fun H hP hS => ?_)
  have hP : va_P (dC, dI) vwCl [(h0, .inr (10, fs)), (m_rf, .inl (cI, 16, .inl frf)), (m_um, .inl (cI, 2, .inl f0)), (m_tm, .inl (cI, 2, .inl f1)), (m_fr, .inl (cI, 2, .inl f2))] H := hP
  have hD : va_D A [(h0, .inr (10, fs)), (m_rf, .inl (cI, 16, .inl frf)), (m_um, .inl (cI, 2, .inl f0)), (m_tm, .inl (cI, 2, .inl f1)), (m_fr, .inl (cI, 2, .inl f2))] := hD
  refine lv_aload_n hx hb dX11_parses_0 rfl (lv_at hl 0 rfl) ?_
  refine lv_iconst (v := 0) hx hb dX11_parses_1 (by decide) ?_
  refine va_put (D := (dC, dI)) (ci := 10) (v := .int 0) (ty := .int) (C := RX11) (T := TX11) (N := 68) hx hb hts iwwsX11_parses_11 tyX11 tyX11_ok nmX11 hown hK hP hD hS 0 rfl rfl 4 (by decide) (hts (.fieldLink RX11 127 "NothingJudgeModel" "at" "I") fwwsX11_parses_127) (fun _ h9 => h9) rfl (by decide +kernel) rfl rfl (by rw [gl_fs]; decide) dX11_parses_2 (fun H locs hP hD hS => ?_)
  obtain ⟨fs_488, efs_488⟩ : ∃ z : List Value, z = fs.set 4 (.int 0) := ⟨_, rfl⟩
  have glfs_488 : fs_488.length = 68 := fs_len efs_488 gl_fs
  have hP : va_P (dC, dI) vwCl [(h0, .inr (10, fs_488)), (m_rf, .inl (cI, 16, .inl frf)), (m_um, .inl (cI, 2, .inl f0)), (m_tm, .inl (cI, 2, .inl f1)), (m_fr, .inl (cI, 2, .inl f2))] H := by rw [efs_488]; exact hP
  have hD : va_D A [(h0, .inr (10, fs_488)), (m_rf, .inl (cI, 16, .inl frf)), (m_um, .inl (cI, 2, .inl f0)), (m_tm, .inl (cI, 2, .inl f1)), (m_fr, .inl (cI, 2, .inl f2))] := by rw [efs_488]; exact hD
  refine lv_aload_n hx hb dX11_parses_5 rfl (lv_at hl 0 rfl) ?_
  refine lv_iconst (v := 0) hx hb dX11_parses_6 (by decide) ?_
  refine va_put (D := (dC, dI)) (ci := 10) (v := .int 0) (ty := .int) (C := RX11) (T := TX11) (N := 68) hx hb hts iwwsX11_parses_11 tyX11 tyX11_ok nmX11 hown hK hP hD hS 0 rfl rfl 8 (by decide) (hts (.fieldLink RX11 164 "NothingJudgeModel" "fault" "I") fwwsX11_parses_164) (fun _ h9 => h9) rfl (by decide +kernel) rfl rfl (by rw [glfs_488]; decide) dX11_parses_7 (fun H locs hP hD hS => ?_)
  obtain ⟨fs_489, efs_489⟩ : ∃ z : List Value, z = fs_488.set 8 (.int 0) := ⟨_, rfl⟩
  have glfs_489 : fs_489.length = 68 := fs_len efs_489 glfs_488
  have hP : va_P (dC, dI) vwCl [(h0, .inr (10, fs_489)), (m_rf, .inl (cI, 16, .inl frf)), (m_um, .inl (cI, 2, .inl f0)), (m_tm, .inl (cI, 2, .inl f1)), (m_fr, .inl (cI, 2, .inl f2))] H := by rw [efs_489]; exact hP
  have hD : va_D A [(h0, .inr (10, fs_489)), (m_rf, .inl (cI, 16, .inl frf)), (m_um, .inl (cI, 2, .inl f0)), (m_tm, .inl (cI, 2, .inl f1)), (m_fr, .inl (cI, 2, .inl f2))] := by rw [efs_489]; exact hD
  refine lv_aload_n hx hb dX11_parses_10 rfl (lv_at hl 0 rfl) ?_
  refine lv_iconst (v := (-1)) hx hb dX11_parses_11 (by decide) ?_
  refine va_put (D := (dC, dI)) (ci := 10) (v := .int (-1)) (ty := .int) (C := RX11) (T := TX11) (N := 68) hx hb hts iwwsX11_parses_11 tyX11 tyX11_ok nmX11 hown hK hP hD hS 0 rfl rfl 9 (by decide) (hts (.fieldLink RX11 167 "NothingJudgeModel" "faultPlace" "I") fwwsX11_parses_167) (fun _ h9 => h9) rfl (by decide +kernel) rfl rfl (by rw [glfs_489]; decide) dX11_parses_12 (fun H locs hP hD hS => ?_)
  obtain ⟨fs_490, efs_490⟩ : ∃ z : List Value, z = fs_489.set 9 (.int (-1)) := ⟨_, rfl⟩
  have glfs_490 : fs_490.length = 68 := fs_len efs_490 glfs_489
  have hP : va_P (dC, dI) vwCl [(h0, .inr (10, fs_490)), (m_rf, .inl (cI, 16, .inl frf)), (m_um, .inl (cI, 2, .inl f0)), (m_tm, .inl (cI, 2, .inl f1)), (m_fr, .inl (cI, 2, .inl f2))] H := by rw [efs_490]; exact hP
  have hD : va_D A [(h0, .inr (10, fs_490)), (m_rf, .inl (cI, 16, .inl frf)), (m_um, .inl (cI, 2, .inl f0)), (m_tm, .inl (cI, 2, .inl f1)), (m_fr, .inl (cI, 2, .inl f2))] := by rw [efs_490]; exact hD
  refine lv_aload_n hx hb dX11_parses_15 rfl (lv_at hl 0 rfl) ?_
  refine lv_iconst (v := 0) hx hb dX11_parses_16 (by decide) ?_
  refine va_put (D := (dC, dI)) (ci := 10) (v := .int 0) (ty := .int) (C := RX11) (T := TX11) (N := 68) hx hb hts iwwsX11_parses_11 tyX11 tyX11_ok nmX11 hown hK hP hD hS 0 rfl rfl 17 (by decide) (hts (.fieldLink RX11 183 "NothingJudgeModel" "acts" "I") fwwsX11_parses_183) (fun _ h9 => h9) rfl (by decide +kernel) rfl rfl (by rw [glfs_490]; decide) dX11_parses_17 (fun H locs hP hD hS => ?_)
  obtain ⟨fs_491, efs_491⟩ : ∃ z : List Value, z = fs_490.set 17 (.int 0) := ⟨_, rfl⟩
  have glfs_491 : fs_491.length = 68 := fs_len efs_491 glfs_490
  have hP : va_P (dC, dI) vwCl [(h0, .inr (10, fs_491)), (m_rf, .inl (cI, 16, .inl frf)), (m_um, .inl (cI, 2, .inl f0)), (m_tm, .inl (cI, 2, .inl f1)), (m_fr, .inl (cI, 2, .inl f2))] H := by rw [efs_491]; exact hP
  have hD : va_D A [(h0, .inr (10, fs_491)), (m_rf, .inl (cI, 16, .inl frf)), (m_um, .inl (cI, 2, .inl f0)), (m_tm, .inl (cI, 2, .inl f1)), (m_fr, .inl (cI, 2, .inl f2))] := by rw [efs_491]; exact hD
  refine lv_aload_n hx hb dX11_parses_20 rfl (lv_at hl 0 rfl) ?_
  refine lv_iconst (v := 0) hx hb dX11_parses_21 (by decide) ?_
  refine va_put (D := (dC, dI)) (ci := 10) (v := .int 0) (ty := .int) (C := RX11) (T := TX11) (N := 68) hx hb hts iwwsX11_parses_11 tyX11 tyX11_ok nmX11 hown hK hP hD hS 0 rfl rfl 33 (by decide) (hts (.fieldLink RX11 186 "NothingJudgeModel" "calls" "I") fwwsX11_parses_186) (fun _ h9 => h9) rfl (by decide +kernel) rfl rfl (by rw [glfs_491]; decide) dX11_parses_22 (fun H locs hP hD hS => ?_)
  obtain ⟨fs_492, efs_492⟩ : ∃ z : List Value, z = fs_491.set 33 (.int 0) := ⟨_, rfl⟩
  have glfs_492 : fs_492.length = 68 := fs_len efs_492 glfs_491
  have hP : va_P (dC, dI) vwCl [(h0, .inr (10, fs_492)), (m_rf, .inl (cI, 16, .inl frf)), (m_um, .inl (cI, 2, .inl f0)), (m_tm, .inl (cI, 2, .inl f1)), (m_fr, .inl (cI, 2, .inl f2))] H := by rw [efs_492]; exact hP
  have hD : va_D A [(h0, .inr (10, fs_492)), (m_rf, .inl (cI, 16, .inl frf)), (m_um, .inl (cI, 2, .inl f0)), (m_tm, .inl (cI, 2, .inl f1)), (m_fr, .inl (cI, 2, .inl f2))] := by rw [efs_492]; exact hD
  refine lv_aload_n hx hb dX11_parses_25 rfl (lv_at hl 0 rfl) ?_
  refine lv_iconst (v := 0) hx hb dX11_parses_26 (by decide) ?_
  refine va_put (D := (dC, dI)) (ci := 10) (v := .int 0) (ty := .int) (C := RX11) (T := TX11) (N := 68) hx hb hts iwwsX11_parses_11 tyX11 tyX11_ok nmX11 hown hK hP hD hS 0 rfl rfl 38 (by decide) (hts (.fieldLink RX11 189 "NothingJudgeModel" "blocks" "I") fwwsX11_parses_189) (fun _ h9 => h9) rfl (by decide +kernel) rfl rfl (by rw [glfs_492]; decide) dX11_parses_27 (fun H locs hP hD hS => ?_)
  obtain ⟨fs_493, efs_493⟩ : ∃ z : List Value, z = fs_492.set 38 (.int 0) := ⟨_, rfl⟩
  have glfs_493 : fs_493.length = 68 := fs_len efs_493 glfs_492
  have hP : va_P (dC, dI) vwCl [(h0, .inr (10, fs_493)), (m_rf, .inl (cI, 16, .inl frf)), (m_um, .inl (cI, 2, .inl f0)), (m_tm, .inl (cI, 2, .inl f1)), (m_fr, .inl (cI, 2, .inl f2))] H := by rw [efs_493]; exact hP
  have hD : va_D A [(h0, .inr (10, fs_493)), (m_rf, .inl (cI, 16, .inl frf)), (m_um, .inl (cI, 2, .inl f0)), (m_tm, .inl (cI, 2, .inl f1)), (m_fr, .inl (cI, 2, .inl f2))] := by rw [efs_493]; exact hD
  refine lv_aload_n hx hb dX11_parses_30 rfl (lv_at hl 0 rfl) ?_
  refine va_get (D := (dC, dI)) (ci := 10) (v := .ref m_um) (C := RX11) (T := TX11) (N := 68) hx hb hts iwwsX11_parses_11 hown hK hP 0 rfl rfl 26 (by decide) (hts (.fieldLink RX11 53 "NothingJudgeModel" "useMany" "[I") fwwsX11_parses_53) (fun _ h9 => h9) (fs_ne efs_493 (by decide) (fs_ne efs_492 (by decide) (fs_ne efs_491 (by decide) (fs_ne efs_490 (by decide) (fs_ne efs_489 (by decide) (fs_ne efs_488 (by decide) g_fs_26)))))) dX11_parses_31 ?_
  refine lv_iconst (v := 1) hx hb dX11_parses_34 (by decide) ?_
  refine lv_iconst (v := 0) hx hb dX11_parses_35 (by decide) ?_
  refine va_iast hx hb hK hP hD hS 2 0 rfl rfl (by unfold vp_in; decide) dX11_parses_36 (fun H locs hP hD hS => ?_)
  obtain ⟨f_494, ef_494⟩ : ∃ z, z = upd f0 (1 : Int32).toNatClampNeg 0 := ⟨_, rfl⟩
  have hP : va_P (dC, dI) vwCl [(h0, .inr (10, fs_493)), (m_rf, .inl (cI, 16, .inl frf)), (m_um, .inl (cI, 2, .inl f_494)), (m_tm, .inl (cI, 2, .inl f1)), (m_fr, .inl (cI, 2, .inl f2))] H := by rw [ef_494]; exact hP
  have hD : va_D A [(h0, .inr (10, fs_493)), (m_rf, .inl (cI, 16, .inl frf)), (m_um, .inl (cI, 2, .inl f_494)), (m_tm, .inl (cI, 2, .inl f1)), (m_fr, .inl (cI, 2, .inl f2))] := by rw [ef_494]; exact hD
  refine lv_aload_n hx hb dX11_parses_37 rfl (lv_at hl 0 rfl) ?_
  refine va_get (D := (dC, dI)) (ci := 10) (v := .ref m_tm) (C := RX11) (T := TX11) (N := 68) hx hb hts iwwsX11_parses_11 hown hK hP 0 rfl rfl 29 (by decide) (hts (.fieldLink RX11 62 "NothingJudgeModel" "testMany" "[I") fwwsX11_parses_62) (fun _ h9 => h9) (fs_ne efs_493 (by decide) (fs_ne efs_492 (by decide) (fs_ne efs_491 (by decide) (fs_ne efs_490 (by decide) (fs_ne efs_489 (by decide) (fs_ne efs_488 (by decide) g_fs_29)))))) dX11_parses_38 ?_
  refine lv_iconst (v := 1) hx hb dX11_parses_41 (by decide) ?_
  refine lv_iconst (v := 0) hx hb dX11_parses_42 (by decide) ?_
  refine va_iast hx hb hK hP hD hS 3 0 rfl rfl (by unfold vp_in; decide) dX11_parses_43 (fun H locs hP hD hS => ?_)
  obtain ⟨f_495, ef_495⟩ : ∃ z, z = upd f1 (1 : Int32).toNatClampNeg 0 := ⟨_, rfl⟩
  have hP : va_P (dC, dI) vwCl [(h0, .inr (10, fs_493)), (m_rf, .inl (cI, 16, .inl frf)), (m_um, .inl (cI, 2, .inl f_494)), (m_tm, .inl (cI, 2, .inl f_495)), (m_fr, .inl (cI, 2, .inl f2))] H := by rw [ef_495]; exact hP
  have hD : va_D A [(h0, .inr (10, fs_493)), (m_rf, .inl (cI, 16, .inl frf)), (m_um, .inl (cI, 2, .inl f_494)), (m_tm, .inl (cI, 2, .inl f_495)), (m_fr, .inl (cI, 2, .inl f2))] := by rw [ef_495]; exact hD
  refine lv_aload_n hx hb dX11_parses_44 rfl (lv_at hl 0 rfl) ?_
  refine va_get (D := (dC, dI)) (ci := 10) (v := .ref m_fr) (C := RX11) (T := TX11) (N := 68) hx hb hts iwwsX11_parses_11 hown hK hP 0 rfl rfl 22 (by decide) (hts (.fieldLink RX11 41 "NothingJudgeModel" "firstRoutine" "[I") fwwsX11_parses_41) (fun _ h9 => h9) (fs_ne efs_493 (by decide) (fs_ne efs_492 (by decide) (fs_ne efs_491 (by decide) (fs_ne efs_490 (by decide) (fs_ne efs_489 (by decide) (fs_ne efs_488 (by decide) g_fs_22)))))) dX11_parses_45 ?_
  refine lv_iconst (v := 1) hx hb dX11_parses_48 (by decide) ?_
  refine lv_iconst (v := (-1)) hx hb dX11_parses_49 (by decide) ?_
  refine va_iast hx hb hK hP hD hS 4 0 rfl rfl (by unfold vp_in; decide) dX11_parses_50 (fun H locs hP hD hS => ?_)
  obtain ⟨f_496, ef_496⟩ : ∃ z, z = upd f2 (1 : Int32).toNatClampNeg (-1) := ⟨_, rfl⟩
  have hP : va_P (dC, dI) vwCl [(h0, .inr (10, fs_493)), (m_rf, .inl (cI, 16, .inl frf)), (m_um, .inl (cI, 2, .inl f_494)), (m_tm, .inl (cI, 2, .inl f_495)), (m_fr, .inl (cI, 2, .inl f_496))] H := by rw [ef_496]; exact hP
  have hD : va_D A [(h0, .inr (10, fs_493)), (m_rf, .inl (cI, 16, .inl frf)), (m_um, .inl (cI, 2, .inl f_494)), (m_tm, .inl (cI, 2, .inl f_495)), (m_fr, .inl (cI, 2, .inl f_496))] := by rw [ef_496]; exact hD
  refine lv_bipush (v := 8) hx hb dX11_parses_51 (by decide) ?_
  refine lv_istore_n (lv' := [(1, .int 8), (0, .ref h0)]) hx hb dX11_parses_53 rfl hl (by decide) rfl (fun ls hl => ?_)
  have hl := lv_sub hl (l' := [(1, .int 8), (0, .ref h0)]) [0, 1] rfl
  have hl : lv_has ls 3 [(1, .int (nI 8)), (0, .ref h0)] := by rw [show nI 8 = (8 : Int32) by decide]; exact hl
  refine lp_up (S := (Nat → Int32)) (fun k st => ∀ j, j < 16 → (st) j = -1) (fun st => [(h0, .inr (10, fs_493)), (m_rf, .inl (cI, 16, .inl (st))), (m_um, .inl (cI, 2, .inl f_494)), (m_tm, .inl (cI, 2, .inl f_495)), (m_fr, .inl (cI, 2, .inl f_496))]) (fun k st => [(1, .int (nI k)), (0, .ref h0)]) 54 16 ?_ ?_ 8 (by decide) (frf) hrf hP hD hS hl
  · intro f_497 hJ H locs hP hD hS ls hl
    have hP : va_P (dC, dI) vwCl [(h0, .inr (10, fs_493)), (m_rf, .inl (cI, 16, .inl f_497)), (m_um, .inl (cI, 2, .inl f_494)), (m_tm, .inl (cI, 2, .inl f_495)), (m_fr, .inl (cI, 2, .inl f_496))] H := hP
    have hD : va_D A [(h0, .inr (10, fs_493)), (m_rf, .inl (cI, 16, .inl f_497)), (m_um, .inl (cI, 2, .inl f_494)), (m_tm, .inl (cI, 2, .inl f_495)), (m_fr, .inl (cI, 2, .inl f_496))] := hD
    have hl : lv_has ls 3 [(1, .int 16), (0, .ref h0)] := by rw [← show nI 16 = (16 : Int32) by decide]; exact hl
    have hJr := hJ
    refine lv_iload_n hx hb dX11_parses_54 rfl (lv_at hl 0 rfl) ?_
    refine lv_bipush (v := 16) hx hb dX11_parses_55 (by decide) ?_
    refine lv_icmp_ge (tgt := 73) hx hb dX11_parses_57 (by decide) (fun _ => ?_) (fun c9 => absurd (by decide) c9)
    refine lv_aload_n hx hb dX11_parses_73 rfl (lv_at hl 1 rfl) ?_
    have hPc := hP.sub (ws' := [(h0, .inr (10, fs_493))]) [0] rfl
    have hDc := hD.sub (ws' := [(h0, .inr (10, fs_493))]) [0] (by decide) rfl
    have hFc := va_free (wc := [(h0, .inr (10, fs_493))]) hD hS hA [0] rfl
    refine va_callv (va_runV (As := []) (rest := []) ⟨hx, hb, hml, hown, hts⟩ (c_next l dC dI cI cB cL cZ (h0) (fs_493) H.size glfs_493 (fs_ne efs_493 (by decide) (fs_ne efs_492 (by decide) (fs_ne efs_491 (by decide) (fs_ne efs_490 (by decide) (fs_ne efs_489 (by decide) (fs_eq efs_488 (by rw [gl_fs]; decide))))))) (fs_ne efs_493 (by decide) (fs_ne efs_492 (by decide) (fs_ne efs_491 (by decide) (fs_ne efs_490 (by decide) (fs_ne efs_489 (by decide) (fs_ne efs_488 (by decide) g_fs_3))))))) (cwV 0 hts gX11_parses_X11_next rfl rfl rfl (by decide +kernel) ⟨Nat.le_of_ble_eq_true rfl, Nat.le_of_ble_eq_true rfl⟩) ⟨cP_fb, va_recv hK hPc (ci := 10) (q0 := 0) rfl rfl, fun U hU hW => cP_pre hPc hK hDc hN U hU hW⟩ rfl rfl hl.1 rfl (lv_room (Nat.le_of_ble_eq_true rfl)) dX11_parses_74 ⟨Nat.le_of_ble_eq_true rfl, Nat.le_of_ble_eq_true rfl⟩) hS (fun q _ h => hFc q h) hFc (fun u t H1 locs ht hvm hw hB hz1 hk1 hS => ?_)
    obtain ⟨hP1, hD1⟩ := hB
    rw [ht] at hP1
    obtain ⟨hP, hD⟩ := va_join (wr := [(m_rf, .inl (cI, 16, .inl f_497)), (m_um, .inl (cI, 2, .inl f_494)), (m_tm, .inl (cI, 2, .inl f_495)), (m_fr, .inl (cI, 2, .inl f_496))]) (w1 := [(h0, .inr (10, ((fs_493.set 5 (.int 0)).set 6 (.int 4))))]) hP hD [0] [1, 2, 3, 4] rfl rfl (by decide) (by decide) hk1 hFc hP1 hD1
    generalize H1 = H at hP hS ⊢
    obtain ⟨fs_499, efs_499⟩ : ∃ z : List Value, z = fs_493.set 5 (.int 0) := ⟨_, rfl⟩
    have glfs_499 : fs_499.length = 68 := fs_len efs_499 glfs_493
    obtain ⟨fs_500, efs_500⟩ : ∃ z : List Value, z = fs_499.set 6 (.int 4) := ⟨_, rfl⟩
    have glfs_500 : fs_500.length = 68 := fs_len efs_500 glfs_499
    have hP : va_P (dC, dI) vwCl [(m_rf, .inl (cI, 16, .inl f_497)), (m_um, .inl (cI, 2, .inl f_494)), (m_tm, .inl (cI, 2, .inl f_495)), (m_fr, .inl (cI, 2, .inl f_496)), (h0, .inr (10, fs_500))] H := by rw [efs_500, efs_499]; exact hP
    have hD : va_D A [(m_rf, .inl (cI, 16, .inl f_497)), (m_um, .inl (cI, 2, .inl f_494)), (m_tm, .inl (cI, 2, .inl f_495)), (m_fr, .inl (cI, 2, .inl f_496)), (h0, .inr (10, fs_500))] := by rw [efs_500, efs_499]; exact hD
    refine lv_aload_n hx hb dX11_parses_77 rfl (lv_at hl 1 rfl) ?_
    refine va_get (D := (dC, dI)) (ci := 10) (v := .int 0) (C := RX11) (T := TX11) (N := 68) hx hb hts iwwsX11_parses_11 hown hK hP 4 rfl rfl 8 (by decide) (hts (.fieldLink RX11 164 "NothingJudgeModel" "fault" "I") fwwsX11_parses_164) (fun _ h9 => h9) (fs_ne efs_500 (by decide) (fs_ne efs_499 (by decide) (fs_ne efs_493 (by decide) (fs_ne efs_492 (by decide) (fs_ne efs_491 (by decide) (fs_ne efs_490 (by decide) (fs_eq efs_489 (by rw [glfs_488]; decide)))))))) dX11_parses_78 ?_
    refine lv_if_ne (tgt := 136) hx hb dX11_parses_81 (by decide) (fun c9 => absurd c9 (by decide)) (fun _ => ?_)
    refine lv_aload_n hx hb dX11_parses_84 rfl (lv_at hl 1 rfl) ?_
    refine va_get (D := (dC, dI)) (ci := 10) (v := .int 4) (C := RX11) (T := TX11) (N := 68) hx hb hts iwwsX11_parses_11 hown hK hP 4 rfl rfl 6 (by decide) (hts (.fieldLink RX11 140 "NothingJudgeModel" "sort" "I") fwwsX11_parses_140) (fun _ h9 => h9) (fs_eq efs_500 (by rw [glfs_499]; decide)) dX11_parses_85 ?_
    refine lv_iconst (v := 4) hx hb dX11_parses_88 (by decide) ?_
    refine lv_icmp_ne (tgt := 99) hx hb dX11_parses_89 (by decide) (fun c9 => absurd c9 (by decide)) (fun _ => ?_)
    refine lv_aload_n hx hb dX11_parses_92 rfl (lv_at hl 1 rfl) ?_
    refine va_get (D := (dC, dI)) (ci := 10) (v := .int 0) (C := RX11) (T := TX11) (N := 68) hx hb hts iwwsX11_parses_11 hown hK hP 4 rfl rfl 38 (by decide) (hts (.fieldLink RX11 189 "NothingJudgeModel" "blocks" "I") fwwsX11_parses_189) (fun _ h9 => h9) (fs_ne efs_500 (by decide) (fs_ne efs_499 (by decide) (fs_eq efs_493 (by rw [glfs_492]; decide)))) dX11_parses_93 ?_
    refine lv_if_le (tgt := 136) hx hb dX11_parses_96 (by decide) (fun _ => ?_) (fun c9 => absurd (by decide) c9)
    refine lv_iconst (v := 0) hx hb dX11_parses_136 (by decide) ?_
    refine lv_istore_n (lv' := [(1, .int 0), (0, .ref h0)]) hx hb dX11_parses_137 rfl hl (by decide) rfl (fun ls hl => ?_)
    refine lv_iload_n hx hb dX11_parses_138 rfl (lv_at hl 0 rfl) ?_
    refine lv_aload_n hx hb dX11_parses_139 rfl (lv_at hl 1 rfl) ?_
    refine va_get (D := (dC, dI)) (ci := 10) (v := .int 0) (C := RX11) (T := TX11) (N := 68) hx hb hts iwwsX11_parses_11 hown hK hP 4 rfl rfl 33 (by decide) (hts (.fieldLink RX11 186 "NothingJudgeModel" "calls" "I") fwwsX11_parses_186) (fun _ h9 => h9) (fs_ne efs_500 (by decide) (fs_ne efs_499 (by decide) (fs_ne efs_493 (by decide) (fs_eq efs_492 (by rw [glfs_491]; decide))))) dX11_parses_140 ?_
    refine lv_icmp_ge (tgt := 205) hx hb dX11_parses_143 (by decide) (fun _ => ?_) (fun c9 => absurd (by decide) c9)
    subst efs_500
    subst efs_499
    subst efs_493
    subst efs_492
    subst efs_491
    subst efs_490
    subst efs_489
    subst efs_488
    have hP9 := hP.sub (ws' := [(h0, .inr (10, ((((((((fs.set 4 (.int 0)).set 8 (.int 0)).set 9 (.int (-1))).set 17 (.int 0)).set 33 (.int 0)).set 38 (.int 0)).set 5 (.int 0)).set 6 (.int 4)))), (m_rf, .inl (cI, 16, .inl f_497)), (m_um, .inl (cI, 2, .inl f_494)), (m_tm, .inl (cI, 2, .inl f_495)), (m_fr, .inl (cI, 2, .inl f_496))]) [4, 0, 1, 2, 3] rfl
    have hD9 := hD.sub (ws' := [(h0, .inr (10, ((((((((fs.set 4 (.int 0)).set 8 (.int 0)).set 9 (.int (-1))).set 17 (.int 0)).set 33 (.int 0)).set 38 (.int 0)).set 5 (.int 0)).set 6 (.int 4)))), (m_rf, .inl (cI, 16, .inl f_497)), (m_um, .inl (cI, 2, .inl f_494)), (m_tm, .inl (cI, 2, .inl f_495)), (m_fr, .inl (cI, 2, .inl f_496))]) [4, 0, 1, 2, 3] (by decide) rfl
    exact W.vret hx hb hr (fun t ht hW => ⟨⟨(), rfl, trivial, f_497, f_494, f_495, f_496, hJr, by rw [ht]; exact hP9, hD9⟩, hS.F ht⟩) hS.2.2 dX11_parses_205
  · intro k f_501 hk hJ ih H locs hP hD hS ls hl
    have hP : va_P (dC, dI) vwCl [(h0, .inr (10, fs_493)), (m_rf, .inl (cI, 16, .inl f_501)), (m_um, .inl (cI, 2, .inl f_494)), (m_tm, .inl (cI, 2, .inl f_495)), (m_fr, .inl (cI, 2, .inl f_496))] H := hP
    have hD : va_D A [(h0, .inr (10, fs_493)), (m_rf, .inl (cI, 16, .inl f_501)), (m_um, .inl (cI, 2, .inl f_494)), (m_tm, .inl (cI, 2, .inl f_495)), (m_fr, .inl (cI, 2, .inl f_496))] := hD
    have hl : lv_has ls 3 [(1, .int (nI k)), (0, .ref h0)] := hl
    refine lv_iload_n hx hb dX11_parses_54 rfl (lv_at hl 0 rfl) ?_
    refine lv_bipush (v := 16) hx hb dX11_parses_55 (by decide) ?_
    refine lv_icmp_ge (tgt := 73) hx hb dX11_parses_57 (by decide) (fun c9 => absurd c9 (ge_no (N := 16) (by decide) hk (by decide))) (fun _ => ?_)
    refine lv_aload_n hx hb dX11_parses_60 rfl (lv_at hl 1 rfl) ?_
    refine va_get (D := (dC, dI)) (ci := 10) (v := .ref m_rf) (C := RX11) (T := TX11) (N := 68) hx hb hts iwwsX11_parses_11 hown hK hP 0 rfl rfl 19 (by decide) (hts (.fieldLink RX11 32 "NothingJudgeModel" "routineFrom" "[I") fwwsX11_parses_32) (fun _ h9 => h9) (fs_ne efs_493 (by decide) (fs_ne efs_492 (by decide) (fs_ne efs_491 (by decide) (fs_ne efs_490 (by decide) (fs_ne efs_489 (by decide) (fs_ne efs_488 (by decide) g_fs_19)))))) dX11_parses_61 ?_
    refine lv_iload_n hx hb dX11_parses_64 rfl (lv_at hl 0 rfl) ?_
    refine lv_iconst (v := (-1)) hx hb dX11_parses_65 (by decide) ?_
    refine va_iast hx hb hK hP hD hS 1 0 rfl rfl (vp_in_nI (by omega) (by decide)) dX11_parses_66 (fun H locs hP hD hS => ?_)
    obtain ⟨f_502, ef_502⟩ : ∃ z, z = upd f_501 (nI k).toNatClampNeg (-1) := ⟨_, rfl⟩
    have hP : va_P (dC, dI) vwCl [(h0, .inr (10, fs_493)), (m_rf, .inl (cI, 16, .inl f_502)), (m_um, .inl (cI, 2, .inl f_494)), (m_tm, .inl (cI, 2, .inl f_495)), (m_fr, .inl (cI, 2, .inl f_496))] H := by rw [ef_502]; exact hP
    have hD : va_D A [(h0, .inr (10, fs_493)), (m_rf, .inl (cI, 16, .inl f_502)), (m_um, .inl (cI, 2, .inl f_494)), (m_tm, .inl (cI, 2, .inl f_495)), (m_fr, .inl (cI, 2, .inl f_496))] := by rw [ef_502]; exact hD
    obtain ⟨x_503, ex_503⟩ : ∃ z : Int32, z = (nI k) + 1 := ⟨_, rfl⟩
    refine lv_iinc (v := x_503) (lv' := [(1, .int x_503), (0, .ref h0)]) hx hb dX11_parses_67 hl (k := 0) rfl (by rw [ex_503]; rfl) (by decide) rfl (fun ls hl => ?_)
    refine lv_goto (tgt := 54) hx hb dX11_parses_70 (by decide) ?_
    have hl := lv_sub hl (l' := [(1, .int x_503), (0, .ref h0)]) [0, 1] rfl
    rw [ex_503, nI_1 k] at hl
    exact ih (f_502) (up_keep ef_502 hJ) H locs hP hD hS ls hl

set_option maxHeartbeats 4000000 in
set_option maxRecDepth 100000 in
theorem m_comes (l : Launch) (dC : Nat → ClassId) (dI : Nat → Nat → Nat) (cI cB cL cZ : ClassId) (h0 : Nat) (m_rf : Nat) (m_pa : Nat) (m_pn : Nat) (m_fr : Nat) (m_ur : Nat) (m_up : Nat) (m_un : Nat) (m_um : Nat) (m_tr : Nat) (m_te : Nat) (m_tm : Nat) (m_ou : Nat) (fs : List Value) (frf : Nat → Int32) (f1 : Nat → Int32) (f2 : Nat → Int32) (f3 : Nat → Int32) (f4 : Nat → Int32) (f5 : Nat → Int32) (f6 : Nat → Int32) (f7 : Nat → Int32) (f8 : Nat → Int32) (f9 : Nat → Int32) (f10 : Nat → Int32) (f11 : Nat → Int32) (sz : Nat) (gl_fs : fs.length = 68) (g_fs_19 : fs[19]? = some (.ref m_rf)) (g_fs_20 : fs[20]? = some (.ref m_pa)) (g_fs_21 : fs[21]? = some (.ref m_pn)) (g_fs_22 : fs[22]? = some (.ref m_fr)) (g_fs_23 : fs[23]? = some (.ref m_ur)) (g_fs_24 : fs[24]? = some (.ref m_up)) (g_fs_25 : fs[25]? = some (.ref m_un)) (g_fs_26 : fs[26]? = some (.ref m_um)) (g_fs_27 : fs[27]? = some (.ref m_tr)) (g_fs_28 : fs[28]? = some (.ref m_te)) (g_fs_29 : fs[29]? = some (.ref m_tm)) (g_fs_40 : fs[40]? = some (.ref m_ou)) (g_fs_17 : fs[17]? = some (.int 0)) (hrf : ∀ j, j < 16 → frf j = -1) : Met l yX11_comes wsX11_comes ({ frames := 1, cells := 0, slots := 0, locals := 22 }) (cP (dC, dI) (kTy cI cB cL cZ) [.ref h0] [(h0, .inr (10, fs)), (m_rf, .inl (cI, 16, .inl frf)), (m_pa, .inl (cI, 16, .inl f1)), (m_pn, .inl (cI, 64, .inl f2)), (m_fr, .inl (cI, 2, .inl f3)), (m_ur, .inl (cI, 82, .inl f4)), (m_up, .inl (cI, 82, .inl f5)), (m_un, .inl (cI, 82, .inl f6)), (m_um, .inl (cI, 2, .inl f7)), (m_tr, .inl (cI, 50, .inl f8)), (m_te, .inl (cI, 50, .inl f9)), (m_tm, .inl (cI, 2, .inl f10)), (m_ou, .inl (cI, 4, .inl f11))] sz) (va_Qv (fun _ : Unit => True) (fun (_ : Unit) (t : State) => ∃ fz0 : Nat → Int32, (∀ j, j < 16 → fz0 j = -1) ∧ va_P (dC, dI) vwCl [(h0, .inr (10, ((fs.set 18 (.int 0)).set 39 (.int y_519)))), (m_rf, .inl (cI, 16, .inl fz0))] t.heap ∧ va_D (va_A [(h0, .inr (10, fs)), (m_rf, .inl (cI, 16, .inl frf)), (m_pa, .inl (cI, 16, .inl f1)), (m_pn, .inl (cI, 64, .inl f2)), (m_fr, .inl (cI, 2, .inl f3)), (m_ur, .inl (cI, 82, .inl f4)), (m_up, .inl (cI, 82, .inl f5)), (m_un, .inl (cI, 82, .inl f6)), (m_um, .inl (cI, 2, .inl f7)), (m_tr, .inl (cI, 50, .inl f8)), (m_te, .inl (cI, 50, .inl f9)), (m_tm, .inl (cI, 2, .inl f10)), (m_ou, .inl (cI, 4, .inl f11))] sz) [(h0, .inr (10, ((fs.set 18 (.int 0)).set 39 (.int y_519)))), (m_rf, .inl (cI, 16, .inl fz0))]) (va_A [(h0, .inr (10, fs)), (m_rf, .inl (cI, 16, .inl frf)), (m_pa, .inl (cI, 16, .inl f1)), (m_pn, .inl (cI, 64, .inl f2)), (m_fr, .inl (cI, 2, .inl f3)), (m_ur, .inl (cI, 82, .inl f4)), (m_up, .inl (cI, 82, .inl f5)), (m_un, .inl (cI, 82, .inl f6)), (m_um, .inl (cI, 2, .inl f7)), (m_tr, .inl (cI, 50, .inl f8)), (m_te, .inl (cI, 50, .inl f9)), (m_tm, .inl (cI, 2, .inl f10)), (m_ou, .inl (cI, 4, .inl f11))] sz)) 0 0 (va_A [(h0, .inr (10, fs)), (m_rf, .inl (cI, 16, .inl frf)), (m_pa, .inl (cI, 16, .inl f1)), (m_pn, .inl (cI, 64, .inl f2)), (m_fr, .inl (cI, 2, .inl f3)), (m_ur, .inl (cI, 82, .inl f4)), (m_up, .inl (cI, 82, .inl f5)), (m_un, .inl (cI, 82, .inl f6)), (m_um, .inl (cI, 2, .inl f7)), (m_tr, .inl (cI, 50, .inl f8)), (m_te, .inl (cI, 50, .inl f9)), (m_tm, .inl (cI, 2, .inl f10)), (m_ou, .inl (cI, 4, .inl f11))] sz) := by
  refine Met.ofW (cc := cX11_comes) (maxL := 2) (ret := none) (by decide) rfl ?_
  intro p e s m args below meth c s₁ B hml hv
  obtain ⟨rfl, hsz, hP, hK, hD0, hN⟩ := hv
  have hx := B.exec
  have hb := B.bytes
  have hr := B.returns
  have hts := atoms_spec (ws := wsX11_comes) B.pre
  have hown : s.vm.findClass RX11 = some m.cls := findClass_of_methodNamed B.named
  have hlocks := B.notSynchronized
  subst hsz
  have hD := hD0.self (sz := s.heap.size)
  generalize hAe : va_A [(h0, .inr (10, fs)), (m_rf, .inl (cI, 16, .inl frf)), (m_pa, .inl (cI, 16, .inl f1)), (m_pn, .inl (cI, 64, .inl f2)), (m_fr, .inl (cI, 2, .inl f3)), (m_ur, .inl (cI, 82, .inl f4)), (m_up, .inl (cI, 82, .inl f5)), (m_un, .inl (cI, 82, .inl f6)), (m_um, .inl (cI, 2, .inl f7)), (m_tr, .inl (cI, 50, .inl f8)), (m_te, .inl (cI, 50, .inl f9)), (m_tm, .inl (cI, 2, .inl f10)), (m_ou, .inl (cI, 4, .inl f11))] s.heap.size = A at hD ⊢
  have hA : ∀ q : Nat, s.heap.size ≤ q → A q := fun q h => by rw [← hAe]; exact Or.inr h
  have hl := lv_entry ([.ref h0]) (n := 2) (Nat.le_of_ble_eq_true rfl)
  rw [lg_entry_eq]
  generalize (lg_sl ([.ref h0]) ++ List.replicate (2 - (lg_sl ([.ref h0])).length) Slot.unset).toArray = ls at hl ⊢
  have hl : lv_has ls 2 [(0, .ref h0)] := hl
  refine k_H (A := A) hP (fun H hP hS => ?_)
  have hP : va_P (dC, dI) vwCl [(h0, .inr (10, fs)), (m_rf, .inl (cI, 16, .inl frf)), (m_pa, .inl (cI, 16, .inl f1)), (m_pn, .inl (cI, 64, .inl f2)), (m_fr, .inl (cI, 2, .inl f3)), (m_ur, .inl (cI, 82, .inl f4)), (m_up, .inl (cI, 82, .inl f5)), (m_un, .inl (cI, 82, .inl f6)), (m_um, .inl (cI, 2, .inl f7)), (m_tr, .inl (cI, 50, .inl f8)), (m_te, .inl (cI, 50, .inl f9)), (m_tm, .inl (cI, 2, .inl f10)), (m_ou, .inl (cI, 4, .inl f11))] H := hP
  have hD : va_D A [(h0, .inr (10, fs)), (m_rf, .inl (cI, 16, .inl frf)), (m_pa, .inl (cI, 16, .inl f1)), (m_pn, .inl (cI, 64, .inl f2)), (m_fr, .inl (cI, 2, .inl f3)), (m_ur, .inl (cI, 82, .inl f4)), (m_up, .inl (cI, 82, .inl f5)), (m_un, .inl (cI, 82, .inl f6)), (m_um, .inl (cI, 2, .inl f7)), (m_tr, .inl (cI, 50, .inl f8)), (m_te, .inl (cI, 50, .inl f9)), (m_tm, .inl (cI, 2, .inl f10)), (m_ou, .inl (cI, 4, .inl f11))] := hD
  refine lv_aload_n hx hb dX11_comes_0 rfl (lv_at hl 0 rfl) ?_
  refine lv_aload_n hx hb dX11_comes_1 rfl (lv_at hl 0 rfl) ?_
  refine va_get (D := (dC, dI)) (ci := 10) (v := .int 0) (C := RX11) (T := TX11) (N := 68) hx hb hts iwwsX11_comes_11 hown hK hP 0 rfl rfl 17 (by decide) (hts (.fieldLink RX11 183 "NothingJudgeModel" "acts" "I") fwwsX11_comes_183) (fun _ h9 => h9) g_fs_17 dX11_comes_2 ?_
  refine va_put (D := (dC, dI)) (ci := 10) (v := .int 0) (ty := .int) (C := RX11) (T := TX11) (N := 68) hx hb hts iwwsX11_comes_11 tyX11 tyX11_ok nmX11 hown hK hP hD hS 0 rfl rfl 18 (by decide) (hts (.fieldLink RX11 251 "NothingJudgeModel" "actMany" "I") fwwsX11_comes_251) (fun _ h9 => h9) rfl (by decide +kernel) rfl rfl (by rw [gl_fs]; decide) dX11_comes_5 (fun H locs hP hD hS => ?_)
  obtain ⟨fs_504, efs_504⟩ : ∃ z : List Value, z = fs.set 18 (.int 0) := ⟨_, rfl⟩
  have glfs_504 : fs_504.length = 68 := fs_len efs_504 gl_fs
  have hP : va_P (dC, dI) vwCl [(h0, .inr (10, fs_504)), (m_rf, .inl (cI, 16, .inl frf)), (m_pa, .inl (cI, 16, .inl f1)), (m_pn, .inl (cI, 64, .inl f2)), (m_fr, .inl (cI, 2, .inl f3)), (m_ur, .inl (cI, 82, .inl f4)), (m_up, .inl (cI, 82, .inl f5)), (m_un, .inl (cI, 82, .inl f6)), (m_um, .inl (cI, 2, .inl f7)), (m_tr, .inl (cI, 50, .inl f8)), (m_te, .inl (cI, 50, .inl f9)), (m_tm, .inl (cI, 2, .inl f10)), (m_ou, .inl (cI, 4, .inl f11))] H := by rw [efs_504]; exact hP
  have hD : va_D A [(h0, .inr (10, fs_504)), (m_rf, .inl (cI, 16, .inl frf)), (m_pa, .inl (cI, 16, .inl f1)), (m_pn, .inl (cI, 64, .inl f2)), (m_fr, .inl (cI, 2, .inl f3)), (m_ur, .inl (cI, 82, .inl f4)), (m_up, .inl (cI, 82, .inl f5)), (m_un, .inl (cI, 82, .inl f6)), (m_um, .inl (cI, 2, .inl f7)), (m_tr, .inl (cI, 50, .inl f8)), (m_te, .inl (cI, 50, .inl f9)), (m_tm, .inl (cI, 2, .inl f10)), (m_ou, .inl (cI, 4, .inl f11))] := by rw [efs_504]; exact hD
  refine lv_iconst (v := 0) hx hb dX11_comes_8 (by decide) ?_
  refine lv_istore_n (lv' := [(1, .int 0), (0, .ref h0)]) hx hb dX11_comes_9 rfl hl (by decide) rfl (fun ls hl => ?_)
  refine lv_iload_n hx hb dX11_comes_10 rfl (lv_at hl 0 rfl) ?_
  refine lv_aload_n hx hb dX11_comes_11 rfl (lv_at hl 1 rfl) ?_
  refine va_get (D := (dC, dI)) (ci := 10) (v := .int 0) (C := RX11) (T := TX11) (N := 68) hx hb hts iwwsX11_comes_11 hown hK hP 0 rfl rfl 17 (by decide) (hts (.fieldLink RX11 183 "NothingJudgeModel" "acts" "I") fwwsX11_comes_183) (fun _ h9 => h9) (fs_ne efs_504 (by decide) g_fs_17) dX11_comes_12 ?_
  refine lv_icmp_ge (tgt := 104) hx hb dX11_comes_15 (by decide) (fun _ => ?_) (fun c9 => absurd (by decide) c9)
  refine lv_iconst (v := 0) hx hb dX11_comes_104 (by decide) ?_
  refine lv_istore_n (lv' := [(1, .int 0), (0, .ref h0)]) hx hb dX11_comes_105 rfl hl (by decide) rfl (fun ls hl => ?_)
  have hl := lv_sub hl (l' := [(1, .int 0), (0, .ref h0)]) [0, 1] rfl
  have hl : lv_has ls 2 [(1, .int (nI 0)), (0, .ref h0)] := by rw [show nI 0 = (0 : Int32) by decide]; exact hl
  refine lp_up (S := (Nat → Int32) × (Nat → Int32)) (fun k st => ∀ j, j < 16 → (st.1) j = -1) (fun st => [(h0, .inr (10, fs_504)), (m_rf, .inl (cI, 16, .inl (st.1))), (m_pa, .inl (cI, 16, .inl (st.2))), (m_pn, .inl (cI, 64, .inl f2)), (m_fr, .inl (cI, 2, .inl f3)), (m_ur, .inl (cI, 82, .inl f4)), (m_up, .inl (cI, 82, .inl f5)), (m_un, .inl (cI, 82, .inl f6)), (m_um, .inl (cI, 2, .inl f7)), (m_tr, .inl (cI, 50, .inl f8)), (m_te, .inl (cI, 50, .inl f9)), (m_tm, .inl (cI, 2, .inl f10)), (m_ou, .inl (cI, 4, .inl f11))]) (fun k st => [(1, .int (nI k)), (0, .ref h0)]) 106 8 ?_ ?_ 0 (by decide) (frf, f1) hrf hP hD hS hl
  · intro st9 hJ H locs hP hD hS ls hl
    obtain ⟨f_505, f_506⟩ := st9
    have hP : va_P (dC, dI) vwCl [(h0, .inr (10, fs_504)), (m_rf, .inl (cI, 16, .inl f_505)), (m_pa, .inl (cI, 16, .inl f_506)), (m_pn, .inl (cI, 64, .inl f2)), (m_fr, .inl (cI, 2, .inl f3)), (m_ur, .inl (cI, 82, .inl f4)), (m_up, .inl (cI, 82, .inl f5)), (m_un, .inl (cI, 82, .inl f6)), (m_um, .inl (cI, 2, .inl f7)), (m_tr, .inl (cI, 50, .inl f8)), (m_te, .inl (cI, 50, .inl f9)), (m_tm, .inl (cI, 2, .inl f10)), (m_ou, .inl (cI, 4, .inl f11))] H := hP
    have hD : va_D A [(h0, .inr (10, fs_504)), (m_rf, .inl (cI, 16, .inl f_505)), (m_pa, .inl (cI, 16, .inl f_506)), (m_pn, .inl (cI, 64, .inl f2)), (m_fr, .inl (cI, 2, .inl f3)), (m_ur, .inl (cI, 82, .inl f4)), (m_up, .inl (cI, 82, .inl f5)), (m_un, .inl (cI, 82, .inl f6)), (m_um, .inl (cI, 2, .inl f7)), (m_tr, .inl (cI, 50, .inl f8)), (m_te, .inl (cI, 50, .inl f9)), (m_tm, .inl (cI, 2, .inl f10)), (m_ou, .inl (cI, 4, .inl f11))] := hD
    have hl : lv_has ls 2 [(1, .int 8), (0, .ref h0)] := by rw [← show nI 8 = (8 : Int32) by decide]; exact hl
    have hJr := hJ
    refine lv_iload_n hx hb dX11_comes_106 rfl (lv_at hl 0 rfl) ?_
    refine lv_bipush (v := 8) hx hb dX11_comes_107 (by decide) ?_
    refine lv_icmp_ge (tgt := 148) hx hb dX11_comes_109 (by decide) (fun _ => ?_) (fun c9 => absurd (by decide) c9)
    refine lv_iconst (v := 0) hx hb dX11_comes_148 (by decide) ?_
    refine lv_istore_n (lv' := [(1, .int 0), (0, .ref h0)]) hx hb dX11_comes_149 rfl hl (by decide) rfl (fun ls hl => ?_)
    have hl := lv_sub hl (l' := [(1, .int 0), (0, .ref h0)]) [0, 1] rfl
    have hl : lv_has ls 2 [(1, .int (nI 0)), (0, .ref h0)] := by rw [show nI 0 = (0 : Int32) by decide]; exact hl
    refine lp_up (S := (Nat → Int32)) (fun k st => True) (fun st => [(h0, .inr (10, fs_504)), (m_rf, .inl (cI, 16, .inl f_505)), (m_pa, .inl (cI, 16, .inl f_506)), (m_pn, .inl (cI, 64, .inl (st))), (m_fr, .inl (cI, 2, .inl f3)), (m_ur, .inl (cI, 82, .inl f4)), (m_up, .inl (cI, 82, .inl f5)), (m_un, .inl (cI, 82, .inl f6)), (m_um, .inl (cI, 2, .inl f7)), (m_tr, .inl (cI, 50, .inl f8)), (m_te, .inl (cI, 50, .inl f9)), (m_tm, .inl (cI, 2, .inl f10)), (m_ou, .inl (cI, 4, .inl f11))]) (fun k st => [(1, .int (nI k)), (0, .ref h0)]) 150 32 ?_ ?_ 0 (by decide) (f2) trivial hP hD hS hl
    · intro f_507 hJ H locs hP hD hS ls hl
      have hP : va_P (dC, dI) vwCl [(h0, .inr (10, fs_504)), (m_rf, .inl (cI, 16, .inl f_505)), (m_pa, .inl (cI, 16, .inl f_506)), (m_pn, .inl (cI, 64, .inl f_507)), (m_fr, .inl (cI, 2, .inl f3)), (m_ur, .inl (cI, 82, .inl f4)), (m_up, .inl (cI, 82, .inl f5)), (m_un, .inl (cI, 82, .inl f6)), (m_um, .inl (cI, 2, .inl f7)), (m_tr, .inl (cI, 50, .inl f8)), (m_te, .inl (cI, 50, .inl f9)), (m_tm, .inl (cI, 2, .inl f10)), (m_ou, .inl (cI, 4, .inl f11))] H := hP
      have hD : va_D A [(h0, .inr (10, fs_504)), (m_rf, .inl (cI, 16, .inl f_505)), (m_pa, .inl (cI, 16, .inl f_506)), (m_pn, .inl (cI, 64, .inl f_507)), (m_fr, .inl (cI, 2, .inl f3)), (m_ur, .inl (cI, 82, .inl f4)), (m_up, .inl (cI, 82, .inl f5)), (m_un, .inl (cI, 82, .inl f6)), (m_um, .inl (cI, 2, .inl f7)), (m_tr, .inl (cI, 50, .inl f8)), (m_te, .inl (cI, 50, .inl f9)), (m_tm, .inl (cI, 2, .inl f10)), (m_ou, .inl (cI, 4, .inl f11))] := hD
      have hl : lv_has ls 2 [(1, .int 32), (0, .ref h0)] := by rw [← show nI 32 = (32 : Int32) by decide]; exact hl
      refine lv_iload_n hx hb dX11_comes_150 rfl (lv_at hl 0 rfl) ?_
      refine lv_bipush (v := 32) hx hb dX11_comes_151 (by decide) ?_
      refine lv_icmp_ge (tgt := 177) hx hb dX11_comes_153 (by decide) (fun _ => ?_) (fun c9 => absurd (by decide) c9)
      refine lv_aload_n hx hb dX11_comes_177 rfl (lv_at hl 1 rfl) ?_
      refine va_get (D := (dC, dI)) (ci := 10) (v := .ref m_fr) (C := RX11) (T := TX11) (N := 68) hx hb hts iwwsX11_comes_11 hown hK hP 0 rfl rfl 22 (by decide) (hts (.fieldLink RX11 41 "NothingJudgeModel" "firstRoutine" "[I") fwwsX11_comes_41) (fun _ h9 => h9) (fs_ne efs_504 (by decide) g_fs_22) dX11_comes_178 ?_
      refine lv_iconst (v := 0) hx hb dX11_comes_181 (by decide) ?_
      refine lv_aload_n hx hb dX11_comes_182 rfl (lv_at hl 1 rfl) ?_
      refine va_get (D := (dC, dI)) (ci := 10) (v := .ref m_fr) (C := RX11) (T := TX11) (N := 68) hx hb hts iwwsX11_comes_11 hown hK hP 0 rfl rfl 22 (by decide) (hts (.fieldLink RX11 41 "NothingJudgeModel" "firstRoutine" "[I") fwwsX11_comes_41) (fun _ h9 => h9) (fs_ne efs_504 (by decide) g_fs_22) dX11_comes_183 ?_
      refine lv_iconst (v := 1) hx hb dX11_comes_186 (by decide) ?_
      refine va_iald hx hb hK hP 4 0 rfl rfl (by unfold vp_in; decide) dX11_comes_187 ?_
      refine lv_topi (fun y_508 ey_508 => ?_)
      refine va_iast hx hb hK hP hD hS 4 0 rfl rfl (by unfold vp_in; decide) dX11_comes_188 (fun H locs hP hD hS => ?_)
      obtain ⟨f_509, ef_509⟩ : ∃ z, z = upd f3 (0 : Int32).toNatClampNeg y_508 := ⟨_, rfl⟩
      have hP : va_P (dC, dI) vwCl [(h0, .inr (10, fs_504)), (m_rf, .inl (cI, 16, .inl f_505)), (m_pa, .inl (cI, 16, .inl f_506)), (m_pn, .inl (cI, 64, .inl f_507)), (m_fr, .inl (cI, 2, .inl f_509)), (m_ur, .inl (cI, 82, .inl f4)), (m_up, .inl (cI, 82, .inl f5)), (m_un, .inl (cI, 82, .inl f6)), (m_um, .inl (cI, 2, .inl f7)), (m_tr, .inl (cI, 50, .inl f8)), (m_te, .inl (cI, 50, .inl f9)), (m_tm, .inl (cI, 2, .inl f10)), (m_ou, .inl (cI, 4, .inl f11))] H := by rw [ef_509]; exact hP
      have hD : va_D A [(h0, .inr (10, fs_504)), (m_rf, .inl (cI, 16, .inl f_505)), (m_pa, .inl (cI, 16, .inl f_506)), (m_pn, .inl (cI, 64, .inl f_507)), (m_fr, .inl (cI, 2, .inl f_509)), (m_ur, .inl (cI, 82, .inl f4)), (m_up, .inl (cI, 82, .inl f5)), (m_un, .inl (cI, 82, .inl f6)), (m_um, .inl (cI, 2, .inl f7)), (m_tr, .inl (cI, 50, .inl f8)), (m_te, .inl (cI, 50, .inl f9)), (m_tm, .inl (cI, 2, .inl f10)), (m_ou, .inl (cI, 4, .inl f11))] := by rw [ef_509]; exact hD
      refine lv_iconst (v := 0) hx hb dX11_comes_189 (by decide) ?_
      refine lv_istore_n (lv' := [(1, .int 0), (0, .ref h0)]) hx hb dX11_comes_190 rfl hl (by decide) rfl (fun ls hl => ?_)
      have hl := lv_sub hl (l' := [(1, .int 0), (0, .ref h0)]) [0, 1] rfl
      have hl : lv_has ls 2 [(1, .int (nI 0)), (0, .ref h0)] := by rw [show nI 0 = (0 : Int32) by decide]; exact hl
      refine lp_up (S := (Nat → Int32) × (Nat → Int32) × (Nat → Int32)) (fun k st => True) (fun st => [(h0, .inr (10, fs_504)), (m_rf, .inl (cI, 16, .inl f_505)), (m_pa, .inl (cI, 16, .inl f_506)), (m_pn, .inl (cI, 64, .inl f_507)), (m_fr, .inl (cI, 2, .inl f_509)), (m_ur, .inl (cI, 82, .inl (st.1))), (m_up, .inl (cI, 82, .inl (st.2.1))), (m_un, .inl (cI, 82, .inl (st.2.2))), (m_um, .inl (cI, 2, .inl f7)), (m_tr, .inl (cI, 50, .inl f8)), (m_te, .inl (cI, 50, .inl f9)), (m_tm, .inl (cI, 2, .inl f10)), (m_ou, .inl (cI, 4, .inl f11))]) (fun k st => [(1, .int (nI k)), (0, .ref h0)]) 191 41 ?_ ?_ 0 (by decide) (f4, f5, f6) trivial hP hD hS hl
      · intro st9 hJ H locs hP hD hS ls hl
        obtain ⟨f_510, f_511, f_512⟩ := st9
        have hP : va_P (dC, dI) vwCl [(h0, .inr (10, fs_504)), (m_rf, .inl (cI, 16, .inl f_505)), (m_pa, .inl (cI, 16, .inl f_506)), (m_pn, .inl (cI, 64, .inl f_507)), (m_fr, .inl (cI, 2, .inl f_509)), (m_ur, .inl (cI, 82, .inl f_510)), (m_up, .inl (cI, 82, .inl f_511)), (m_un, .inl (cI, 82, .inl f_512)), (m_um, .inl (cI, 2, .inl f7)), (m_tr, .inl (cI, 50, .inl f8)), (m_te, .inl (cI, 50, .inl f9)), (m_tm, .inl (cI, 2, .inl f10)), (m_ou, .inl (cI, 4, .inl f11))] H := hP
        have hD : va_D A [(h0, .inr (10, fs_504)), (m_rf, .inl (cI, 16, .inl f_505)), (m_pa, .inl (cI, 16, .inl f_506)), (m_pn, .inl (cI, 64, .inl f_507)), (m_fr, .inl (cI, 2, .inl f_509)), (m_ur, .inl (cI, 82, .inl f_510)), (m_up, .inl (cI, 82, .inl f_511)), (m_un, .inl (cI, 82, .inl f_512)), (m_um, .inl (cI, 2, .inl f7)), (m_tr, .inl (cI, 50, .inl f8)), (m_te, .inl (cI, 50, .inl f9)), (m_tm, .inl (cI, 2, .inl f10)), (m_ou, .inl (cI, 4, .inl f11))] := hD
        have hl : lv_has ls 2 [(1, .int 41), (0, .ref h0)] := by rw [← show nI 41 = (41 : Int32) by decide]; exact hl
        refine lv_iload_n hx hb dX11_comes_191 rfl (lv_at hl 0 rfl) ?_
        refine lv_bipush (v := 41) hx hb dX11_comes_192 (by decide) ?_
        refine lv_icmp_ge (tgt := 248) hx hb dX11_comes_194 (by decide) (fun _ => ?_) (fun c9 => absurd (by decide) c9)
        refine lv_aload_n hx hb dX11_comes_248 rfl (lv_at hl 1 rfl) ?_
        refine va_get (D := (dC, dI)) (ci := 10) (v := .ref m_um) (C := RX11) (T := TX11) (N := 68) hx hb hts iwwsX11_comes_11 hown hK hP 0 rfl rfl 26 (by decide) (hts (.fieldLink RX11 53 "NothingJudgeModel" "useMany" "[I") fwwsX11_comes_53) (fun _ h9 => h9) (fs_ne efs_504 (by decide) g_fs_26) dX11_comes_249 ?_
        refine lv_iconst (v := 0) hx hb dX11_comes_252 (by decide) ?_
        refine lv_aload_n hx hb dX11_comes_253 rfl (lv_at hl 1 rfl) ?_
        refine va_get (D := (dC, dI)) (ci := 10) (v := .ref m_um) (C := RX11) (T := TX11) (N := 68) hx hb hts iwwsX11_comes_11 hown hK hP 0 rfl rfl 26 (by decide) (hts (.fieldLink RX11 53 "NothingJudgeModel" "useMany" "[I") fwwsX11_comes_53) (fun _ h9 => h9) (fs_ne efs_504 (by decide) g_fs_26) dX11_comes_254 ?_
        refine lv_iconst (v := 1) hx hb dX11_comes_257 (by decide) ?_
        refine va_iald hx hb hK hP 8 0 rfl rfl (by unfold vp_in; decide) dX11_comes_258 ?_
        refine lv_topi (fun y_513 ey_513 => ?_)
        refine va_iast hx hb hK hP hD hS 8 0 rfl rfl (by unfold vp_in; decide) dX11_comes_259 (fun H locs hP hD hS => ?_)
        obtain ⟨f_514, ef_514⟩ : ∃ z, z = upd f7 (0 : Int32).toNatClampNeg y_513 := ⟨_, rfl⟩
        have hP : va_P (dC, dI) vwCl [(h0, .inr (10, fs_504)), (m_rf, .inl (cI, 16, .inl f_505)), (m_pa, .inl (cI, 16, .inl f_506)), (m_pn, .inl (cI, 64, .inl f_507)), (m_fr, .inl (cI, 2, .inl f_509)), (m_ur, .inl (cI, 82, .inl f_510)), (m_up, .inl (cI, 82, .inl f_511)), (m_un, .inl (cI, 82, .inl f_512)), (m_um, .inl (cI, 2, .inl f_514)), (m_tr, .inl (cI, 50, .inl f8)), (m_te, .inl (cI, 50, .inl f9)), (m_tm, .inl (cI, 2, .inl f10)), (m_ou, .inl (cI, 4, .inl f11))] H := by rw [ef_514]; exact hP
        have hD : va_D A [(h0, .inr (10, fs_504)), (m_rf, .inl (cI, 16, .inl f_505)), (m_pa, .inl (cI, 16, .inl f_506)), (m_pn, .inl (cI, 64, .inl f_507)), (m_fr, .inl (cI, 2, .inl f_509)), (m_ur, .inl (cI, 82, .inl f_510)), (m_up, .inl (cI, 82, .inl f_511)), (m_un, .inl (cI, 82, .inl f_512)), (m_um, .inl (cI, 2, .inl f_514)), (m_tr, .inl (cI, 50, .inl f8)), (m_te, .inl (cI, 50, .inl f9)), (m_tm, .inl (cI, 2, .inl f10)), (m_ou, .inl (cI, 4, .inl f11))] := by rw [ef_514]; exact hD
        refine lv_iconst (v := 0) hx hb dX11_comes_260 (by decide) ?_
        refine lv_istore_n (lv' := [(1, .int 0), (0, .ref h0)]) hx hb dX11_comes_261 rfl hl (by decide) rfl (fun ls hl => ?_)
        have hl := lv_sub hl (l' := [(1, .int 0), (0, .ref h0)]) [0, 1] rfl
        have hl : lv_has ls 2 [(1, .int (nI 0)), (0, .ref h0)] := by rw [show nI 0 = (0 : Int32) by decide]; exact hl
        refine lp_up (S := (Nat → Int32) × (Nat → Int32)) (fun k st => True) (fun st => [(h0, .inr (10, fs_504)), (m_rf, .inl (cI, 16, .inl f_505)), (m_pa, .inl (cI, 16, .inl f_506)), (m_pn, .inl (cI, 64, .inl f_507)), (m_fr, .inl (cI, 2, .inl f_509)), (m_ur, .inl (cI, 82, .inl f_510)), (m_up, .inl (cI, 82, .inl f_511)), (m_un, .inl (cI, 82, .inl f_512)), (m_um, .inl (cI, 2, .inl f_514)), (m_tr, .inl (cI, 50, .inl (st.1))), (m_te, .inl (cI, 50, .inl (st.2))), (m_tm, .inl (cI, 2, .inl f10)), (m_ou, .inl (cI, 4, .inl f11))]) (fun k st => [(1, .int (nI k)), (0, .ref h0)]) 262 25 ?_ ?_ 0 (by decide) (f8, f9) trivial hP hD hS hl
        · intro st9 hJ H locs hP hD hS ls hl
          obtain ⟨f_515, f_516⟩ := st9
          have hP : va_P (dC, dI) vwCl [(h0, .inr (10, fs_504)), (m_rf, .inl (cI, 16, .inl f_505)), (m_pa, .inl (cI, 16, .inl f_506)), (m_pn, .inl (cI, 64, .inl f_507)), (m_fr, .inl (cI, 2, .inl f_509)), (m_ur, .inl (cI, 82, .inl f_510)), (m_up, .inl (cI, 82, .inl f_511)), (m_un, .inl (cI, 82, .inl f_512)), (m_um, .inl (cI, 2, .inl f_514)), (m_tr, .inl (cI, 50, .inl f_515)), (m_te, .inl (cI, 50, .inl f_516)), (m_tm, .inl (cI, 2, .inl f10)), (m_ou, .inl (cI, 4, .inl f11))] H := hP
          have hD : va_D A [(h0, .inr (10, fs_504)), (m_rf, .inl (cI, 16, .inl f_505)), (m_pa, .inl (cI, 16, .inl f_506)), (m_pn, .inl (cI, 64, .inl f_507)), (m_fr, .inl (cI, 2, .inl f_509)), (m_ur, .inl (cI, 82, .inl f_510)), (m_up, .inl (cI, 82, .inl f_511)), (m_un, .inl (cI, 82, .inl f_512)), (m_um, .inl (cI, 2, .inl f_514)), (m_tr, .inl (cI, 50, .inl f_515)), (m_te, .inl (cI, 50, .inl f_516)), (m_tm, .inl (cI, 2, .inl f10)), (m_ou, .inl (cI, 4, .inl f11))] := hD
          have hl : lv_has ls 2 [(1, .int 25), (0, .ref h0)] := by rw [← show nI 25 = (25 : Int32) by decide]; exact hl
          refine lv_iload_n hx hb dX11_comes_262 rfl (lv_at hl 0 rfl) ?_
          refine lv_bipush (v := 25) hx hb dX11_comes_263 (by decide) ?_
          refine lv_icmp_ge (tgt := 304) hx hb dX11_comes_265 (by decide) (fun _ => ?_) (fun c9 => absurd (by decide) c9)
          refine lv_aload_n hx hb dX11_comes_304 rfl (lv_at hl 1 rfl) ?_
          refine va_get (D := (dC, dI)) (ci := 10) (v := .ref m_tm) (C := RX11) (T := TX11) (N := 68) hx hb hts iwwsX11_comes_11 hown hK hP 0 rfl rfl 29 (by decide) (hts (.fieldLink RX11 62 "NothingJudgeModel" "testMany" "[I") fwwsX11_comes_62) (fun _ h9 => h9) (fs_ne efs_504 (by decide) g_fs_29) dX11_comes_305 ?_
          refine lv_iconst (v := 0) hx hb dX11_comes_308 (by decide) ?_
          refine lv_aload_n hx hb dX11_comes_309 rfl (lv_at hl 1 rfl) ?_
          refine va_get (D := (dC, dI)) (ci := 10) (v := .ref m_tm) (C := RX11) (T := TX11) (N := 68) hx hb hts iwwsX11_comes_11 hown hK hP 0 rfl rfl 29 (by decide) (hts (.fieldLink RX11 62 "NothingJudgeModel" "testMany" "[I") fwwsX11_comes_62) (fun _ h9 => h9) (fs_ne efs_504 (by decide) g_fs_29) dX11_comes_310 ?_
          refine lv_iconst (v := 1) hx hb dX11_comes_313 (by decide) ?_
          refine va_iald hx hb hK hP 11 0 rfl rfl (by unfold vp_in; decide) dX11_comes_314 ?_
          refine lv_topi (fun y_517 ey_517 => ?_)
          refine va_iast hx hb hK hP hD hS 11 0 rfl rfl (by unfold vp_in; decide) dX11_comes_315 (fun H locs hP hD hS => ?_)
          obtain ⟨f_518, ef_518⟩ : ∃ z, z = upd f10 (0 : Int32).toNatClampNeg y_517 := ⟨_, rfl⟩
          have hP : va_P (dC, dI) vwCl [(h0, .inr (10, fs_504)), (m_rf, .inl (cI, 16, .inl f_505)), (m_pa, .inl (cI, 16, .inl f_506)), (m_pn, .inl (cI, 64, .inl f_507)), (m_fr, .inl (cI, 2, .inl f_509)), (m_ur, .inl (cI, 82, .inl f_510)), (m_up, .inl (cI, 82, .inl f_511)), (m_un, .inl (cI, 82, .inl f_512)), (m_um, .inl (cI, 2, .inl f_514)), (m_tr, .inl (cI, 50, .inl f_515)), (m_te, .inl (cI, 50, .inl f_516)), (m_tm, .inl (cI, 2, .inl f_518)), (m_ou, .inl (cI, 4, .inl f11))] H := by rw [ef_518]; exact hP
          have hD : va_D A [(h0, .inr (10, fs_504)), (m_rf, .inl (cI, 16, .inl f_505)), (m_pa, .inl (cI, 16, .inl f_506)), (m_pn, .inl (cI, 64, .inl f_507)), (m_fr, .inl (cI, 2, .inl f_509)), (m_ur, .inl (cI, 82, .inl f_510)), (m_up, .inl (cI, 82, .inl f_511)), (m_un, .inl (cI, 82, .inl f_512)), (m_um, .inl (cI, 2, .inl f_514)), (m_tr, .inl (cI, 50, .inl f_515)), (m_te, .inl (cI, 50, .inl f_516)), (m_tm, .inl (cI, 2, .inl f_518)), (m_ou, .inl (cI, 4, .inl f11))] := by rw [ef_518]; exact hD
          refine lv_aload_n hx hb dX11_comes_316 rfl (lv_at hl 1 rfl) ?_
          refine lv_aload_n hx hb dX11_comes_317 rfl (lv_at hl 1 rfl) ?_
          refine va_get (D := (dC, dI)) (ci := 10) (v := .ref m_fr) (C := RX11) (T := TX11) (N := 68) hx hb hts iwwsX11_comes_11 hown hK hP 0 rfl rfl 22 (by decide) (hts (.fieldLink RX11 41 "NothingJudgeModel" "firstRoutine" "[I") fwwsX11_comes_41) (fun _ h9 => h9) (fs_ne efs_504 (by decide) g_fs_22) dX11_comes_318 ?_
          refine lv_iconst (v := 0) hx hb dX11_comes_321 (by decide) ?_
          refine va_iald hx hb hK hP 4 0 rfl rfl (by unfold vp_in; decide) dX11_comes_322 ?_
          refine lv_topi (fun y_519 ey_519 => ?_)
          have hPc := hP.sub (ws' := [(h0, .inr (10, fs_504)), (m_ou, .inl (cI, 4, .inl f11))]) [0, 12] rfl
          have hDc := hD.sub (ws' := [(h0, .inr (10, fs_504)), (m_ou, .inl (cI, 4, .inl f11))]) [0, 12] (by decide) rfl
          have hFc := va_free (wc := [(h0, .inr (10, fs_504)), (m_ou, .inl (cI, 4, .inl f11))]) hD hS hA [0, 12] rfl
          refine va_callv (va_runV (As := [.int y_519]) (rest := []) ⟨hx, hb, hml, hown, hts⟩ (c_enters l dC dI cI cB cL cZ (h0) (m_ou) (y_519) (fs_504) (f11) H.size glfs_504 (fs_ne efs_504 (by decide) g_fs_40)) (cwV 1 hts gX11_comes_X11_enters rfl rfl rfl (by decide +kernel) ⟨Nat.le_of_ble_eq_true rfl, Nat.le_of_ble_eq_true rfl⟩) ⟨cP_fb, va_recv hK hPc (ci := 10) (q0 := 0) rfl rfl, fun U hU hW => cP_pre hPc hK hDc hN U hU hW⟩ rfl rfl hl.1 rfl (lv_room (Nat.le_of_ble_eq_true rfl)) dX11_comes_323 ⟨Nat.le_of_ble_eq_true rfl, Nat.le_of_ble_eq_true rfl⟩) hS (fun q _ h => hFc q h) hFc (fun u t H1 locs ht hvm hw hB hz1 hk1 hS => ?_)
          obtain ⟨hP1, hD1⟩ := hB
          rw [ht] at hP1
          obtain ⟨hP, hD⟩ := va_join (wr := [(m_rf, .inl (cI, 16, .inl f_505)), (m_pa, .inl (cI, 16, .inl f_506)), (m_pn, .inl (cI, 64, .inl f_507)), (m_fr, .inl (cI, 2, .inl f_509)), (m_ur, .inl (cI, 82, .inl f_510)), (m_up, .inl (cI, 82, .inl f_511)), (m_un, .inl (cI, 82, .inl f_512)), (m_um, .inl (cI, 2, .inl f_514)), (m_tr, .inl (cI, 50, .inl f_515)), (m_te, .inl (cI, 50, .inl f_516)), (m_tm, .inl (cI, 2, .inl f_518))]) (w1 := [(h0, .inr (10, (fs_504.set 39 (.int y_519))))]) hP hD [0, 12] [1, 2, 3, 4, 5, 6, 7, 8, 9, 10, 11] rfl rfl (by decide) (by decide) hk1 hFc hP1 hD1
          generalize H1 = H at hP hS ⊢
          obtain ⟨fs_521, efs_521⟩ : ∃ z : List Value, z = fs_504.set 39 (.int y_519) := ⟨_, rfl⟩
          have glfs_521 : fs_521.length = 68 := fs_len efs_521 glfs_504
          have hP : va_P (dC, dI) vwCl [(m_rf, .inl (cI, 16, .inl f_505)), (m_pa, .inl (cI, 16, .inl f_506)), (m_pn, .inl (cI, 64, .inl f_507)), (m_fr, .inl (cI, 2, .inl f_509)), (m_ur, .inl (cI, 82, .inl f_510)), (m_up, .inl (cI, 82, .inl f_511)), (m_un, .inl (cI, 82, .inl f_512)), (m_um, .inl (cI, 2, .inl f_514)), (m_tr, .inl (cI, 50, .inl f_515)), (m_te, .inl (cI, 50, .inl f_516)), (m_tm, .inl (cI, 2, .inl f_518)), (h0, .inr (10, fs_521))] H := by rw [efs_521]; exact hP
          have hD : va_D A [(m_rf, .inl (cI, 16, .inl f_505)), (m_pa, .inl (cI, 16, .inl f_506)), (m_pn, .inl (cI, 64, .inl f_507)), (m_fr, .inl (cI, 2, .inl f_509)), (m_ur, .inl (cI, 82, .inl f_510)), (m_up, .inl (cI, 82, .inl f_511)), (m_un, .inl (cI, 82, .inl f_512)), (m_um, .inl (cI, 2, .inl f_514)), (m_tr, .inl (cI, 50, .inl f_515)), (m_te, .inl (cI, 50, .inl f_516)), (m_tm, .inl (cI, 2, .inl f_518)), (h0, .inr (10, fs_521))] := by rw [efs_521]; exact hD
          subst efs_521
          subst efs_504
          have hP9 := hP.sub (ws' := [(h0, .inr (10, ((fs.set 18 (.int 0)).set 39 (.int y_519)))), (m_rf, .inl (cI, 16, .inl f_505))]) [11, 0] rfl
          have hD9 := hD.sub (ws' := [(h0, .inr (10, ((fs.set 18 (.int 0)).set 39 (.int y_519)))), (m_rf, .inl (cI, 16, .inl f_505))]) [11, 0] (by decide) rfl
          exact W.vret hx hb hr (fun t ht hW => ⟨⟨(), rfl, trivial, f_505, hJr, by rw [ht]; exact hP9, hD9⟩, hS.F ht⟩) hS.2.2 dX11_comes_326
        · intro k st9 hk hJ ih H locs hP hD hS ls hl
          obtain ⟨f_522, f_523⟩ := st9
          have hP : va_P (dC, dI) vwCl [(h0, .inr (10, fs_504)), (m_rf, .inl (cI, 16, .inl f_505)), (m_pa, .inl (cI, 16, .inl f_506)), (m_pn, .inl (cI, 64, .inl f_507)), (m_fr, .inl (cI, 2, .inl f_509)), (m_ur, .inl (cI, 82, .inl f_510)), (m_up, .inl (cI, 82, .inl f_511)), (m_un, .inl (cI, 82, .inl f_512)), (m_um, .inl (cI, 2, .inl f_514)), (m_tr, .inl (cI, 50, .inl f_522)), (m_te, .inl (cI, 50, .inl f_523)), (m_tm, .inl (cI, 2, .inl f10)), (m_ou, .inl (cI, 4, .inl f11))] H := hP
          have hD : va_D A [(h0, .inr (10, fs_504)), (m_rf, .inl (cI, 16, .inl f_505)), (m_pa, .inl (cI, 16, .inl f_506)), (m_pn, .inl (cI, 64, .inl f_507)), (m_fr, .inl (cI, 2, .inl f_509)), (m_ur, .inl (cI, 82, .inl f_510)), (m_up, .inl (cI, 82, .inl f_511)), (m_un, .inl (cI, 82, .inl f_512)), (m_um, .inl (cI, 2, .inl f_514)), (m_tr, .inl (cI, 50, .inl f_522)), (m_te, .inl (cI, 50, .inl f_523)), (m_tm, .inl (cI, 2, .inl f10)), (m_ou, .inl (cI, 4, .inl f11))] := hD
          have hl : lv_has ls 2 [(1, .int (nI k)), (0, .ref h0)] := hl
          refine lv_iload_n hx hb dX11_comes_262 rfl (lv_at hl 0 rfl) ?_
          refine lv_bipush (v := 25) hx hb dX11_comes_263 (by decide) ?_
          refine lv_icmp_ge (tgt := 304) hx hb dX11_comes_265 (by decide) (fun c9 => absurd c9 (ge_no (N := 25) (by decide) hk (by decide))) (fun _ => ?_)
          refine lv_aload_n hx hb dX11_comes_268 rfl (lv_at hl 1 rfl) ?_
          refine va_get (D := (dC, dI)) (ci := 10) (v := .ref m_tr) (C := RX11) (T := TX11) (N := 68) hx hb hts iwwsX11_comes_11 hown hK hP 0 rfl rfl 27 (by decide) (hts (.fieldLink RX11 56 "NothingJudgeModel" "testRoutine" "[I") fwwsX11_comes_56) (fun _ h9 => h9) (fs_ne efs_504 (by decide) g_fs_27) dX11_comes_269 ?_
          refine lv_iload_n hx hb dX11_comes_272 rfl (lv_at hl 0 rfl) ?_
          refine lv_aload_n hx hb dX11_comes_273 rfl (lv_at hl 1 rfl) ?_
          refine va_get (D := (dC, dI)) (ci := 10) (v := .ref m_tr) (C := RX11) (T := TX11) (N := 68) hx hb hts iwwsX11_comes_11 hown hK hP 0 rfl rfl 27 (by decide) (hts (.fieldLink RX11 56 "NothingJudgeModel" "testRoutine" "[I") fwwsX11_comes_56) (fun _ h9 => h9) (fs_ne efs_504 (by decide) g_fs_27) dX11_comes_274 ?_
          refine lv_bipush (v := 25) hx hb dX11_comes_277 (by decide) ?_
          refine lv_iload_n hx hb dX11_comes_279 rfl (lv_at hl 0 rfl) ?_
          refine lv_iadd hx hb dX11_comes_280 ?_
          refine lv_topi (fun v_524 ev_524 => ?_)
          refine va_iald hx hb hK hP 9 0 rfl rfl (in_add (c := 25) ev_524 (by omega) (by decide) (by decide)) dX11_comes_281 ?_
          refine lv_topi (fun y_525 ey_525 => ?_)
          refine va_iast hx hb hK hP hD hS 9 0 rfl rfl (vp_in_nI (by omega) (by decide)) dX11_comes_282 (fun H locs hP hD hS => ?_)
          obtain ⟨f_526, ef_526⟩ : ∃ z, z = upd f_522 (nI k).toNatClampNeg y_525 := ⟨_, rfl⟩
          have hP : va_P (dC, dI) vwCl [(h0, .inr (10, fs_504)), (m_rf, .inl (cI, 16, .inl f_505)), (m_pa, .inl (cI, 16, .inl f_506)), (m_pn, .inl (cI, 64, .inl f_507)), (m_fr, .inl (cI, 2, .inl f_509)), (m_ur, .inl (cI, 82, .inl f_510)), (m_up, .inl (cI, 82, .inl f_511)), (m_un, .inl (cI, 82, .inl f_512)), (m_um, .inl (cI, 2, .inl f_514)), (m_tr, .inl (cI, 50, .inl f_526)), (m_te, .inl (cI, 50, .inl f_523)), (m_tm, .inl (cI, 2, .inl f10)), (m_ou, .inl (cI, 4, .inl f11))] H := by rw [ef_526]; exact hP
          have hD : va_D A [(h0, .inr (10, fs_504)), (m_rf, .inl (cI, 16, .inl f_505)), (m_pa, .inl (cI, 16, .inl f_506)), (m_pn, .inl (cI, 64, .inl f_507)), (m_fr, .inl (cI, 2, .inl f_509)), (m_ur, .inl (cI, 82, .inl f_510)), (m_up, .inl (cI, 82, .inl f_511)), (m_un, .inl (cI, 82, .inl f_512)), (m_um, .inl (cI, 2, .inl f_514)), (m_tr, .inl (cI, 50, .inl f_526)), (m_te, .inl (cI, 50, .inl f_523)), (m_tm, .inl (cI, 2, .inl f10)), (m_ou, .inl (cI, 4, .inl f11))] := by rw [ef_526]; exact hD
          refine lv_aload_n hx hb dX11_comes_283 rfl (lv_at hl 1 rfl) ?_
          refine va_get (D := (dC, dI)) (ci := 10) (v := .ref m_te) (C := RX11) (T := TX11) (N := 68) hx hb hts iwwsX11_comes_11 hown hK hP 0 rfl rfl 28 (by decide) (hts (.fieldLink RX11 59 "NothingJudgeModel" "testPlace" "[I") fwwsX11_comes_59) (fun _ h9 => h9) (fs_ne efs_504 (by decide) g_fs_28) dX11_comes_284 ?_
          refine lv_iload_n hx hb dX11_comes_287 rfl (lv_at hl 0 rfl) ?_
          refine lv_aload_n hx hb dX11_comes_288 rfl (lv_at hl 1 rfl) ?_
          refine va_get (D := (dC, dI)) (ci := 10) (v := .ref m_te) (C := RX11) (T := TX11) (N := 68) hx hb hts iwwsX11_comes_11 hown hK hP 0 rfl rfl 28 (by decide) (hts (.fieldLink RX11 59 "NothingJudgeModel" "testPlace" "[I") fwwsX11_comes_59) (fun _ h9 => h9) (fs_ne efs_504 (by decide) g_fs_28) dX11_comes_289 ?_
          refine lv_bipush (v := 25) hx hb dX11_comes_292 (by decide) ?_
          refine lv_iload_n hx hb dX11_comes_294 rfl (lv_at hl 0 rfl) ?_
          refine lv_iadd hx hb dX11_comes_295 ?_
          refine lv_topi (fun v_527 ev_527 => ?_)
          refine va_iald hx hb hK hP 10 0 rfl rfl (in_add (c := 25) ev_527 (by omega) (by decide) (by decide)) dX11_comes_296 ?_
          refine lv_topi (fun y_528 ey_528 => ?_)
          refine va_iast hx hb hK hP hD hS 10 0 rfl rfl (vp_in_nI (by omega) (by decide)) dX11_comes_297 (fun H locs hP hD hS => ?_)
          obtain ⟨f_529, ef_529⟩ : ∃ z, z = upd f_523 (nI k).toNatClampNeg y_528 := ⟨_, rfl⟩
          have hP : va_P (dC, dI) vwCl [(h0, .inr (10, fs_504)), (m_rf, .inl (cI, 16, .inl f_505)), (m_pa, .inl (cI, 16, .inl f_506)), (m_pn, .inl (cI, 64, .inl f_507)), (m_fr, .inl (cI, 2, .inl f_509)), (m_ur, .inl (cI, 82, .inl f_510)), (m_up, .inl (cI, 82, .inl f_511)), (m_un, .inl (cI, 82, .inl f_512)), (m_um, .inl (cI, 2, .inl f_514)), (m_tr, .inl (cI, 50, .inl f_526)), (m_te, .inl (cI, 50, .inl f_529)), (m_tm, .inl (cI, 2, .inl f10)), (m_ou, .inl (cI, 4, .inl f11))] H := by rw [ef_529]; exact hP
          have hD : va_D A [(h0, .inr (10, fs_504)), (m_rf, .inl (cI, 16, .inl f_505)), (m_pa, .inl (cI, 16, .inl f_506)), (m_pn, .inl (cI, 64, .inl f_507)), (m_fr, .inl (cI, 2, .inl f_509)), (m_ur, .inl (cI, 82, .inl f_510)), (m_up, .inl (cI, 82, .inl f_511)), (m_un, .inl (cI, 82, .inl f_512)), (m_um, .inl (cI, 2, .inl f_514)), (m_tr, .inl (cI, 50, .inl f_526)), (m_te, .inl (cI, 50, .inl f_529)), (m_tm, .inl (cI, 2, .inl f10)), (m_ou, .inl (cI, 4, .inl f11))] := by rw [ef_529]; exact hD
          obtain ⟨x_530, ex_530⟩ : ∃ z : Int32, z = (nI k) + 1 := ⟨_, rfl⟩
          refine lv_iinc (v := x_530) (lv' := [(1, .int x_530), (0, .ref h0)]) hx hb dX11_comes_298 hl (k := 0) rfl (by rw [ex_530]; rfl) (by decide) rfl (fun ls hl => ?_)
          refine lv_goto (tgt := 262) hx hb dX11_comes_301 (by decide) ?_
          have hl := lv_sub hl (l' := [(1, .int x_530), (0, .ref h0)]) [0, 1] rfl
          rw [ex_530, nI_1 k] at hl
          exact ih (f_526, f_529) trivial H locs hP hD hS ls hl
      · intro k st9 hk hJ ih H locs hP hD hS ls hl
        obtain ⟨f_531, f_532, f_533⟩ := st9
        have hP : va_P (dC, dI) vwCl [(h0, .inr (10, fs_504)), (m_rf, .inl (cI, 16, .inl f_505)), (m_pa, .inl (cI, 16, .inl f_506)), (m_pn, .inl (cI, 64, .inl f_507)), (m_fr, .inl (cI, 2, .inl f_509)), (m_ur, .inl (cI, 82, .inl f_531)), (m_up, .inl (cI, 82, .inl f_532)), (m_un, .inl (cI, 82, .inl f_533)), (m_um, .inl (cI, 2, .inl f7)), (m_tr, .inl (cI, 50, .inl f8)), (m_te, .inl (cI, 50, .inl f9)), (m_tm, .inl (cI, 2, .inl f10)), (m_ou, .inl (cI, 4, .inl f11))] H := hP
        have hD : va_D A [(h0, .inr (10, fs_504)), (m_rf, .inl (cI, 16, .inl f_505)), (m_pa, .inl (cI, 16, .inl f_506)), (m_pn, .inl (cI, 64, .inl f_507)), (m_fr, .inl (cI, 2, .inl f_509)), (m_ur, .inl (cI, 82, .inl f_531)), (m_up, .inl (cI, 82, .inl f_532)), (m_un, .inl (cI, 82, .inl f_533)), (m_um, .inl (cI, 2, .inl f7)), (m_tr, .inl (cI, 50, .inl f8)), (m_te, .inl (cI, 50, .inl f9)), (m_tm, .inl (cI, 2, .inl f10)), (m_ou, .inl (cI, 4, .inl f11))] := hD
        have hl : lv_has ls 2 [(1, .int (nI k)), (0, .ref h0)] := hl
        refine lv_iload_n hx hb dX11_comes_191 rfl (lv_at hl 0 rfl) ?_
        refine lv_bipush (v := 41) hx hb dX11_comes_192 (by decide) ?_
        refine lv_icmp_ge (tgt := 248) hx hb dX11_comes_194 (by decide) (fun c9 => absurd c9 (ge_no (N := 41) (by decide) hk (by decide))) (fun _ => ?_)
        refine lv_aload_n hx hb dX11_comes_197 rfl (lv_at hl 1 rfl) ?_
        refine va_get (D := (dC, dI)) (ci := 10) (v := .ref m_ur) (C := RX11) (T := TX11) (N := 68) hx hb hts iwwsX11_comes_11 hown hK hP 0 rfl rfl 23 (by decide) (hts (.fieldLink RX11 44 "NothingJudgeModel" "useRoutine" "[I") fwwsX11_comes_44) (fun _ h9 => h9) (fs_ne efs_504 (by decide) g_fs_23) dX11_comes_198 ?_
        refine lv_iload_n hx hb dX11_comes_201 rfl (lv_at hl 0 rfl) ?_
        refine lv_aload_n hx hb dX11_comes_202 rfl (lv_at hl 1 rfl) ?_
        refine va_get (D := (dC, dI)) (ci := 10) (v := .ref m_ur) (C := RX11) (T := TX11) (N := 68) hx hb hts iwwsX11_comes_11 hown hK hP 0 rfl rfl 23 (by decide) (hts (.fieldLink RX11 44 "NothingJudgeModel" "useRoutine" "[I") fwwsX11_comes_44) (fun _ h9 => h9) (fs_ne efs_504 (by decide) g_fs_23) dX11_comes_203 ?_
        refine lv_bipush (v := 41) hx hb dX11_comes_206 (by decide) ?_
        refine lv_iload_n hx hb dX11_comes_208 rfl (lv_at hl 0 rfl) ?_
        refine lv_iadd hx hb dX11_comes_209 ?_
        refine lv_topi (fun v_534 ev_534 => ?_)
        refine va_iald hx hb hK hP 5 0 rfl rfl (in_add (c := 41) ev_534 (by omega) (by decide) (by decide)) dX11_comes_210 ?_
        refine lv_topi (fun y_535 ey_535 => ?_)
        refine va_iast hx hb hK hP hD hS 5 0 rfl rfl (vp_in_nI (by omega) (by decide)) dX11_comes_211 (fun H locs hP hD hS => ?_)
        obtain ⟨f_536, ef_536⟩ : ∃ z, z = upd f_531 (nI k).toNatClampNeg y_535 := ⟨_, rfl⟩
        have hP : va_P (dC, dI) vwCl [(h0, .inr (10, fs_504)), (m_rf, .inl (cI, 16, .inl f_505)), (m_pa, .inl (cI, 16, .inl f_506)), (m_pn, .inl (cI, 64, .inl f_507)), (m_fr, .inl (cI, 2, .inl f_509)), (m_ur, .inl (cI, 82, .inl f_536)), (m_up, .inl (cI, 82, .inl f_532)), (m_un, .inl (cI, 82, .inl f_533)), (m_um, .inl (cI, 2, .inl f7)), (m_tr, .inl (cI, 50, .inl f8)), (m_te, .inl (cI, 50, .inl f9)), (m_tm, .inl (cI, 2, .inl f10)), (m_ou, .inl (cI, 4, .inl f11))] H := by rw [ef_536]; exact hP
        have hD : va_D A [(h0, .inr (10, fs_504)), (m_rf, .inl (cI, 16, .inl f_505)), (m_pa, .inl (cI, 16, .inl f_506)), (m_pn, .inl (cI, 64, .inl f_507)), (m_fr, .inl (cI, 2, .inl f_509)), (m_ur, .inl (cI, 82, .inl f_536)), (m_up, .inl (cI, 82, .inl f_532)), (m_un, .inl (cI, 82, .inl f_533)), (m_um, .inl (cI, 2, .inl f7)), (m_tr, .inl (cI, 50, .inl f8)), (m_te, .inl (cI, 50, .inl f9)), (m_tm, .inl (cI, 2, .inl f10)), (m_ou, .inl (cI, 4, .inl f11))] := by rw [ef_536]; exact hD
        refine lv_aload_n hx hb dX11_comes_212 rfl (lv_at hl 1 rfl) ?_
        refine va_get (D := (dC, dI)) (ci := 10) (v := .ref m_up) (C := RX11) (T := TX11) (N := 68) hx hb hts iwwsX11_comes_11 hown hK hP 0 rfl rfl 24 (by decide) (hts (.fieldLink RX11 47 "NothingJudgeModel" "usePlace" "[I") fwwsX11_comes_47) (fun _ h9 => h9) (fs_ne efs_504 (by decide) g_fs_24) dX11_comes_213 ?_
        refine lv_iload_n hx hb dX11_comes_216 rfl (lv_at hl 0 rfl) ?_
        refine lv_aload_n hx hb dX11_comes_217 rfl (lv_at hl 1 rfl) ?_
        refine va_get (D := (dC, dI)) (ci := 10) (v := .ref m_up) (C := RX11) (T := TX11) (N := 68) hx hb hts iwwsX11_comes_11 hown hK hP 0 rfl rfl 24 (by decide) (hts (.fieldLink RX11 47 "NothingJudgeModel" "usePlace" "[I") fwwsX11_comes_47) (fun _ h9 => h9) (fs_ne efs_504 (by decide) g_fs_24) dX11_comes_218 ?_
        refine lv_bipush (v := 41) hx hb dX11_comes_221 (by decide) ?_
        refine lv_iload_n hx hb dX11_comes_223 rfl (lv_at hl 0 rfl) ?_
        refine lv_iadd hx hb dX11_comes_224 ?_
        refine lv_topi (fun v_537 ev_537 => ?_)
        refine va_iald hx hb hK hP 6 0 rfl rfl (in_add (c := 41) ev_537 (by omega) (by decide) (by decide)) dX11_comes_225 ?_
        refine lv_topi (fun y_538 ey_538 => ?_)
        refine va_iast hx hb hK hP hD hS 6 0 rfl rfl (vp_in_nI (by omega) (by decide)) dX11_comes_226 (fun H locs hP hD hS => ?_)
        obtain ⟨f_539, ef_539⟩ : ∃ z, z = upd f_532 (nI k).toNatClampNeg y_538 := ⟨_, rfl⟩
        have hP : va_P (dC, dI) vwCl [(h0, .inr (10, fs_504)), (m_rf, .inl (cI, 16, .inl f_505)), (m_pa, .inl (cI, 16, .inl f_506)), (m_pn, .inl (cI, 64, .inl f_507)), (m_fr, .inl (cI, 2, .inl f_509)), (m_ur, .inl (cI, 82, .inl f_536)), (m_up, .inl (cI, 82, .inl f_539)), (m_un, .inl (cI, 82, .inl f_533)), (m_um, .inl (cI, 2, .inl f7)), (m_tr, .inl (cI, 50, .inl f8)), (m_te, .inl (cI, 50, .inl f9)), (m_tm, .inl (cI, 2, .inl f10)), (m_ou, .inl (cI, 4, .inl f11))] H := by rw [ef_539]; exact hP
        have hD : va_D A [(h0, .inr (10, fs_504)), (m_rf, .inl (cI, 16, .inl f_505)), (m_pa, .inl (cI, 16, .inl f_506)), (m_pn, .inl (cI, 64, .inl f_507)), (m_fr, .inl (cI, 2, .inl f_509)), (m_ur, .inl (cI, 82, .inl f_536)), (m_up, .inl (cI, 82, .inl f_539)), (m_un, .inl (cI, 82, .inl f_533)), (m_um, .inl (cI, 2, .inl f7)), (m_tr, .inl (cI, 50, .inl f8)), (m_te, .inl (cI, 50, .inl f9)), (m_tm, .inl (cI, 2, .inl f10)), (m_ou, .inl (cI, 4, .inl f11))] := by rw [ef_539]; exact hD
        refine lv_aload_n hx hb dX11_comes_227 rfl (lv_at hl 1 rfl) ?_
        refine va_get (D := (dC, dI)) (ci := 10) (v := .ref m_un) (C := RX11) (T := TX11) (N := 68) hx hb hts iwwsX11_comes_11 hown hK hP 0 rfl rfl 25 (by decide) (hts (.fieldLink RX11 50 "NothingJudgeModel" "useName" "[I") fwwsX11_comes_50) (fun _ h9 => h9) (fs_ne efs_504 (by decide) g_fs_25) dX11_comes_228 ?_
        refine lv_iload_n hx hb dX11_comes_231 rfl (lv_at hl 0 rfl) ?_
        refine lv_aload_n hx hb dX11_comes_232 rfl (lv_at hl 1 rfl) ?_
        refine va_get (D := (dC, dI)) (ci := 10) (v := .ref m_un) (C := RX11) (T := TX11) (N := 68) hx hb hts iwwsX11_comes_11 hown hK hP 0 rfl rfl 25 (by decide) (hts (.fieldLink RX11 50 "NothingJudgeModel" "useName" "[I") fwwsX11_comes_50) (fun _ h9 => h9) (fs_ne efs_504 (by decide) g_fs_25) dX11_comes_233 ?_
        refine lv_bipush (v := 41) hx hb dX11_comes_236 (by decide) ?_
        refine lv_iload_n hx hb dX11_comes_238 rfl (lv_at hl 0 rfl) ?_
        refine lv_iadd hx hb dX11_comes_239 ?_
        refine lv_topi (fun v_540 ev_540 => ?_)
        refine va_iald hx hb hK hP 7 0 rfl rfl (in_add (c := 41) ev_540 (by omega) (by decide) (by decide)) dX11_comes_240 ?_
        refine lv_topi (fun y_541 ey_541 => ?_)
        refine va_iast hx hb hK hP hD hS 7 0 rfl rfl (vp_in_nI (by omega) (by decide)) dX11_comes_241 (fun H locs hP hD hS => ?_)
        obtain ⟨f_542, ef_542⟩ : ∃ z, z = upd f_533 (nI k).toNatClampNeg y_541 := ⟨_, rfl⟩
        have hP : va_P (dC, dI) vwCl [(h0, .inr (10, fs_504)), (m_rf, .inl (cI, 16, .inl f_505)), (m_pa, .inl (cI, 16, .inl f_506)), (m_pn, .inl (cI, 64, .inl f_507)), (m_fr, .inl (cI, 2, .inl f_509)), (m_ur, .inl (cI, 82, .inl f_536)), (m_up, .inl (cI, 82, .inl f_539)), (m_un, .inl (cI, 82, .inl f_542)), (m_um, .inl (cI, 2, .inl f7)), (m_tr, .inl (cI, 50, .inl f8)), (m_te, .inl (cI, 50, .inl f9)), (m_tm, .inl (cI, 2, .inl f10)), (m_ou, .inl (cI, 4, .inl f11))] H := by rw [ef_542]; exact hP
        have hD : va_D A [(h0, .inr (10, fs_504)), (m_rf, .inl (cI, 16, .inl f_505)), (m_pa, .inl (cI, 16, .inl f_506)), (m_pn, .inl (cI, 64, .inl f_507)), (m_fr, .inl (cI, 2, .inl f_509)), (m_ur, .inl (cI, 82, .inl f_536)), (m_up, .inl (cI, 82, .inl f_539)), (m_un, .inl (cI, 82, .inl f_542)), (m_um, .inl (cI, 2, .inl f7)), (m_tr, .inl (cI, 50, .inl f8)), (m_te, .inl (cI, 50, .inl f9)), (m_tm, .inl (cI, 2, .inl f10)), (m_ou, .inl (cI, 4, .inl f11))] := by rw [ef_542]; exact hD
        obtain ⟨x_543, ex_543⟩ : ∃ z : Int32, z = (nI k) + 1 := ⟨_, rfl⟩
        refine lv_iinc (v := x_543) (lv' := [(1, .int x_543), (0, .ref h0)]) hx hb dX11_comes_242 hl (k := 0) rfl (by rw [ex_543]; rfl) (by decide) rfl (fun ls hl => ?_)
        refine lv_goto (tgt := 191) hx hb dX11_comes_245 (by decide) ?_
        have hl := lv_sub hl (l' := [(1, .int x_543), (0, .ref h0)]) [0, 1] rfl
        rw [ex_543, nI_1 k] at hl
        exact ih (f_536, f_539, f_542) trivial H locs hP hD hS ls hl
    · intro k f_544 hk hJ ih H locs hP hD hS ls hl
      have hP : va_P (dC, dI) vwCl [(h0, .inr (10, fs_504)), (m_rf, .inl (cI, 16, .inl f_505)), (m_pa, .inl (cI, 16, .inl f_506)), (m_pn, .inl (cI, 64, .inl f_544)), (m_fr, .inl (cI, 2, .inl f3)), (m_ur, .inl (cI, 82, .inl f4)), (m_up, .inl (cI, 82, .inl f5)), (m_un, .inl (cI, 82, .inl f6)), (m_um, .inl (cI, 2, .inl f7)), (m_tr, .inl (cI, 50, .inl f8)), (m_te, .inl (cI, 50, .inl f9)), (m_tm, .inl (cI, 2, .inl f10)), (m_ou, .inl (cI, 4, .inl f11))] H := hP
      have hD : va_D A [(h0, .inr (10, fs_504)), (m_rf, .inl (cI, 16, .inl f_505)), (m_pa, .inl (cI, 16, .inl f_506)), (m_pn, .inl (cI, 64, .inl f_544)), (m_fr, .inl (cI, 2, .inl f3)), (m_ur, .inl (cI, 82, .inl f4)), (m_up, .inl (cI, 82, .inl f5)), (m_un, .inl (cI, 82, .inl f6)), (m_um, .inl (cI, 2, .inl f7)), (m_tr, .inl (cI, 50, .inl f8)), (m_te, .inl (cI, 50, .inl f9)), (m_tm, .inl (cI, 2, .inl f10)), (m_ou, .inl (cI, 4, .inl f11))] := hD
      have hl : lv_has ls 2 [(1, .int (nI k)), (0, .ref h0)] := hl
      refine lv_iload_n hx hb dX11_comes_150 rfl (lv_at hl 0 rfl) ?_
      refine lv_bipush (v := 32) hx hb dX11_comes_151 (by decide) ?_
      refine lv_icmp_ge (tgt := 177) hx hb dX11_comes_153 (by decide) (fun c9 => absurd c9 (ge_no (N := 32) (by decide) hk (by decide))) (fun _ => ?_)
      refine lv_aload_n hx hb dX11_comes_156 rfl (lv_at hl 1 rfl) ?_
      refine va_get (D := (dC, dI)) (ci := 10) (v := .ref m_pn) (C := RX11) (T := TX11) (N := 68) hx hb hts iwwsX11_comes_11 hown hK hP 0 rfl rfl 21 (by decide) (hts (.fieldLink RX11 38 "NothingJudgeModel" "paramNames" "[I") fwwsX11_comes_38) (fun _ h9 => h9) (fs_ne efs_504 (by decide) g_fs_21) dX11_comes_157 ?_
      refine lv_iload_n hx hb dX11_comes_160 rfl (lv_at hl 0 rfl) ?_
      refine lv_aload_n hx hb dX11_comes_161 rfl (lv_at hl 1 rfl) ?_
      refine va_get (D := (dC, dI)) (ci := 10) (v := .ref m_pn) (C := RX11) (T := TX11) (N := 68) hx hb hts iwwsX11_comes_11 hown hK hP 0 rfl rfl 21 (by decide) (hts (.fieldLink RX11 38 "NothingJudgeModel" "paramNames" "[I") fwwsX11_comes_38) (fun _ h9 => h9) (fs_ne efs_504 (by decide) g_fs_21) dX11_comes_162 ?_
      refine lv_bipush (v := 32) hx hb dX11_comes_165 (by decide) ?_
      refine lv_iload_n hx hb dX11_comes_167 rfl (lv_at hl 0 rfl) ?_
      refine lv_iadd hx hb dX11_comes_168 ?_
      refine lv_topi (fun v_545 ev_545 => ?_)
      refine va_iald hx hb hK hP 3 0 rfl rfl (in_add (c := 32) ev_545 (by omega) (by decide) (by decide)) dX11_comes_169 ?_
      refine lv_topi (fun y_546 ey_546 => ?_)
      refine va_iast hx hb hK hP hD hS 3 0 rfl rfl (vp_in_nI (by omega) (by decide)) dX11_comes_170 (fun H locs hP hD hS => ?_)
      obtain ⟨f_547, ef_547⟩ : ∃ z, z = upd f_544 (nI k).toNatClampNeg y_546 := ⟨_, rfl⟩
      have hP : va_P (dC, dI) vwCl [(h0, .inr (10, fs_504)), (m_rf, .inl (cI, 16, .inl f_505)), (m_pa, .inl (cI, 16, .inl f_506)), (m_pn, .inl (cI, 64, .inl f_547)), (m_fr, .inl (cI, 2, .inl f3)), (m_ur, .inl (cI, 82, .inl f4)), (m_up, .inl (cI, 82, .inl f5)), (m_un, .inl (cI, 82, .inl f6)), (m_um, .inl (cI, 2, .inl f7)), (m_tr, .inl (cI, 50, .inl f8)), (m_te, .inl (cI, 50, .inl f9)), (m_tm, .inl (cI, 2, .inl f10)), (m_ou, .inl (cI, 4, .inl f11))] H := by rw [ef_547]; exact hP
      have hD : va_D A [(h0, .inr (10, fs_504)), (m_rf, .inl (cI, 16, .inl f_505)), (m_pa, .inl (cI, 16, .inl f_506)), (m_pn, .inl (cI, 64, .inl f_547)), (m_fr, .inl (cI, 2, .inl f3)), (m_ur, .inl (cI, 82, .inl f4)), (m_up, .inl (cI, 82, .inl f5)), (m_un, .inl (cI, 82, .inl f6)), (m_um, .inl (cI, 2, .inl f7)), (m_tr, .inl (cI, 50, .inl f8)), (m_te, .inl (cI, 50, .inl f9)), (m_tm, .inl (cI, 2, .inl f10)), (m_ou, .inl (cI, 4, .inl f11))] := by rw [ef_547]; exact hD
      obtain ⟨x_548, ex_548⟩ : ∃ z : Int32, z = (nI k) + 1 := ⟨_, rfl⟩
      refine lv_iinc (v := x_548) (lv' := [(1, .int x_548), (0, .ref h0)]) hx hb dX11_comes_171 hl (k := 0) rfl (by rw [ex_548]; rfl) (by decide) rfl (fun ls hl => ?_)
      refine lv_goto (tgt := 150) hx hb dX11_comes_174 (by decide) ?_
      have hl := lv_sub hl (l' := [(1, .int x_548), (0, .ref h0)]) [0, 1] rfl
      rw [ex_548, nI_1 k] at hl
      exact ih (f_547) trivial H locs hP hD hS ls hl
  · intro k st9 hk hJ ih H locs hP hD hS ls hl
    obtain ⟨f_549, f_550⟩ := st9
    have hP : va_P (dC, dI) vwCl [(h0, .inr (10, fs_504)), (m_rf, .inl (cI, 16, .inl f_549)), (m_pa, .inl (cI, 16, .inl f_550)), (m_pn, .inl (cI, 64, .inl f2)), (m_fr, .inl (cI, 2, .inl f3)), (m_ur, .inl (cI, 82, .inl f4)), (m_up, .inl (cI, 82, .inl f5)), (m_un, .inl (cI, 82, .inl f6)), (m_um, .inl (cI, 2, .inl f7)), (m_tr, .inl (cI, 50, .inl f8)), (m_te, .inl (cI, 50, .inl f9)), (m_tm, .inl (cI, 2, .inl f10)), (m_ou, .inl (cI, 4, .inl f11))] H := hP
    have hD : va_D A [(h0, .inr (10, fs_504)), (m_rf, .inl (cI, 16, .inl f_549)), (m_pa, .inl (cI, 16, .inl f_550)), (m_pn, .inl (cI, 64, .inl f2)), (m_fr, .inl (cI, 2, .inl f3)), (m_ur, .inl (cI, 82, .inl f4)), (m_up, .inl (cI, 82, .inl f5)), (m_un, .inl (cI, 82, .inl f6)), (m_um, .inl (cI, 2, .inl f7)), (m_tr, .inl (cI, 50, .inl f8)), (m_te, .inl (cI, 50, .inl f9)), (m_tm, .inl (cI, 2, .inl f10)), (m_ou, .inl (cI, 4, .inl f11))] := hD
    have hl : lv_has ls 2 [(1, .int (nI k)), (0, .ref h0)] := hl
    refine lv_iload_n hx hb dX11_comes_106 rfl (lv_at hl 0 rfl) ?_
    refine lv_bipush (v := 8) hx hb dX11_comes_107 (by decide) ?_
    refine lv_icmp_ge (tgt := 148) hx hb dX11_comes_109 (by decide) (fun c9 => absurd c9 (ge_no (N := 8) (by decide) hk (by decide))) (fun _ => ?_)
    refine lv_aload_n hx hb dX11_comes_112 rfl (lv_at hl 1 rfl) ?_
    refine va_get (D := (dC, dI)) (ci := 10) (v := .ref m_rf) (C := RX11) (T := TX11) (N := 68) hx hb hts iwwsX11_comes_11 hown hK hP 0 rfl rfl 19 (by decide) (hts (.fieldLink RX11 32 "NothingJudgeModel" "routineFrom" "[I") fwwsX11_comes_32) (fun _ h9 => h9) (fs_ne efs_504 (by decide) g_fs_19) dX11_comes_113 ?_
    refine lv_iload_n hx hb dX11_comes_116 rfl (lv_at hl 0 rfl) ?_
    refine lv_aload_n hx hb dX11_comes_117 rfl (lv_at hl 1 rfl) ?_
    refine va_get (D := (dC, dI)) (ci := 10) (v := .ref m_rf) (C := RX11) (T := TX11) (N := 68) hx hb hts iwwsX11_comes_11 hown hK hP 0 rfl rfl 19 (by decide) (hts (.fieldLink RX11 32 "NothingJudgeModel" "routineFrom" "[I") fwwsX11_comes_32) (fun _ h9 => h9) (fs_ne efs_504 (by decide) g_fs_19) dX11_comes_118 ?_
    refine lv_bipush (v := 8) hx hb dX11_comes_121 (by decide) ?_
    refine lv_iload_n hx hb dX11_comes_123 rfl (lv_at hl 0 rfl) ?_
    refine lv_iadd hx hb dX11_comes_124 ?_
    refine lv_topi (fun v_551 ev_551 => ?_)
    refine va_iald hx hb hK hP 1 0 rfl rfl (in_add (c := 8) ev_551 (by omega) (by decide) (by decide)) dX11_comes_125 ?_
    refine lv_topi (fun y_552 ey_552 => ?_)
    obtain rfl : y_552 = (-1) := ey_552.trans (hJ _ (cl_add (c := 8) ev_551 (by omega) (by decide)))
    refine va_iast hx hb hK hP hD hS 1 0 rfl rfl (vp_in_nI (by omega) (by decide)) dX11_comes_126 (fun H locs hP hD hS => ?_)
    obtain ⟨f_553, ef_553⟩ : ∃ z, z = upd f_549 (nI k).toNatClampNeg (-1) := ⟨_, rfl⟩
    have hP : va_P (dC, dI) vwCl [(h0, .inr (10, fs_504)), (m_rf, .inl (cI, 16, .inl f_553)), (m_pa, .inl (cI, 16, .inl f_550)), (m_pn, .inl (cI, 64, .inl f2)), (m_fr, .inl (cI, 2, .inl f3)), (m_ur, .inl (cI, 82, .inl f4)), (m_up, .inl (cI, 82, .inl f5)), (m_un, .inl (cI, 82, .inl f6)), (m_um, .inl (cI, 2, .inl f7)), (m_tr, .inl (cI, 50, .inl f8)), (m_te, .inl (cI, 50, .inl f9)), (m_tm, .inl (cI, 2, .inl f10)), (m_ou, .inl (cI, 4, .inl f11))] H := by rw [ef_553]; exact hP
    have hD : va_D A [(h0, .inr (10, fs_504)), (m_rf, .inl (cI, 16, .inl f_553)), (m_pa, .inl (cI, 16, .inl f_550)), (m_pn, .inl (cI, 64, .inl f2)), (m_fr, .inl (cI, 2, .inl f3)), (m_ur, .inl (cI, 82, .inl f4)), (m_up, .inl (cI, 82, .inl f5)), (m_un, .inl (cI, 82, .inl f6)), (m_um, .inl (cI, 2, .inl f7)), (m_tr, .inl (cI, 50, .inl f8)), (m_te, .inl (cI, 50, .inl f9)), (m_tm, .inl (cI, 2, .inl f10)), (m_ou, .inl (cI, 4, .inl f11))] := by rw [ef_553]; exact hD
    refine lv_aload_n hx hb dX11_comes_127 rfl (lv_at hl 1 rfl) ?_
    refine va_get (D := (dC, dI)) (ci := 10) (v := .ref m_pa) (C := RX11) (T := TX11) (N := 68) hx hb hts iwwsX11_comes_11 hown hK hP 0 rfl rfl 20 (by decide) (hts (.fieldLink RX11 35 "NothingJudgeModel" "params" "[I") fwwsX11_comes_35) (fun _ h9 => h9) (fs_ne efs_504 (by decide) g_fs_20) dX11_comes_128 ?_
    refine lv_iload_n hx hb dX11_comes_131 rfl (lv_at hl 0 rfl) ?_
    refine lv_aload_n hx hb dX11_comes_132 rfl (lv_at hl 1 rfl) ?_
    refine va_get (D := (dC, dI)) (ci := 10) (v := .ref m_pa) (C := RX11) (T := TX11) (N := 68) hx hb hts iwwsX11_comes_11 hown hK hP 0 rfl rfl 20 (by decide) (hts (.fieldLink RX11 35 "NothingJudgeModel" "params" "[I") fwwsX11_comes_35) (fun _ h9 => h9) (fs_ne efs_504 (by decide) g_fs_20) dX11_comes_133 ?_
    refine lv_bipush (v := 8) hx hb dX11_comes_136 (by decide) ?_
    refine lv_iload_n hx hb dX11_comes_138 rfl (lv_at hl 0 rfl) ?_
    refine lv_iadd hx hb dX11_comes_139 ?_
    refine lv_topi (fun v_554 ev_554 => ?_)
    refine va_iald hx hb hK hP 2 0 rfl rfl (in_add (c := 8) ev_554 (by omega) (by decide) (by decide)) dX11_comes_140 ?_
    refine lv_topi (fun y_555 ey_555 => ?_)
    refine va_iast hx hb hK hP hD hS 2 0 rfl rfl (vp_in_nI (by omega) (by decide)) dX11_comes_141 (fun H locs hP hD hS => ?_)
    obtain ⟨f_556, ef_556⟩ : ∃ z, z = upd f_550 (nI k).toNatClampNeg y_555 := ⟨_, rfl⟩
    have hP : va_P (dC, dI) vwCl [(h0, .inr (10, fs_504)), (m_rf, .inl (cI, 16, .inl f_553)), (m_pa, .inl (cI, 16, .inl f_556)), (m_pn, .inl (cI, 64, .inl f2)), (m_fr, .inl (cI, 2, .inl f3)), (m_ur, .inl (cI, 82, .inl f4)), (m_up, .inl (cI, 82, .inl f5)), (m_un, .inl (cI, 82, .inl f6)), (m_um, .inl (cI, 2, .inl f7)), (m_tr, .inl (cI, 50, .inl f8)), (m_te, .inl (cI, 50, .inl f9)), (m_tm, .inl (cI, 2, .inl f10)), (m_ou, .inl (cI, 4, .inl f11))] H := by rw [ef_556]; exact hP
    have hD : va_D A [(h0, .inr (10, fs_504)), (m_rf, .inl (cI, 16, .inl f_553)), (m_pa, .inl (cI, 16, .inl f_556)), (m_pn, .inl (cI, 64, .inl f2)), (m_fr, .inl (cI, 2, .inl f3)), (m_ur, .inl (cI, 82, .inl f4)), (m_up, .inl (cI, 82, .inl f5)), (m_un, .inl (cI, 82, .inl f6)), (m_um, .inl (cI, 2, .inl f7)), (m_tr, .inl (cI, 50, .inl f8)), (m_te, .inl (cI, 50, .inl f9)), (m_tm, .inl (cI, 2, .inl f10)), (m_ou, .inl (cI, 4, .inl f11))] := by rw [ef_556]; exact hD
    obtain ⟨x_557, ex_557⟩ : ∃ z : Int32, z = (nI k) + 1 := ⟨_, rfl⟩
    refine lv_iinc (v := x_557) (lv' := [(1, .int x_557), (0, .ref h0)]) hx hb dX11_comes_142 hl (k := 0) rfl (by rw [ex_557]; rfl) (by decide) rfl (fun ls hl => ?_)
    refine lv_goto (tgt := 106) hx hb dX11_comes_145 (by decide) ?_
    have hl := lv_sub hl (l' := [(1, .int x_557), (0, .ref h0)]) [0, 1] rfl
    rw [ex_557, nI_1 k] at hl
    exact ih (f_553, f_556) (up_keep ef_553 hJ) H locs hP hD hS ls hl

set_option maxHeartbeats 4000000 in
set_option maxRecDepth 100000 in
theorem m_text0 (l : Launch) (dC : Nat → ClassId) (dI : Nat → Nat → Nat) (cI cB cL cZ : ClassId) (h0 : Nat) (m_rf : Nat) (m_pa : Nat) (m_pn : Nat) (m_fr : Nat) (m_ur : Nat) (m_up : Nat) (m_un : Nat) (m_um : Nat) (m_tr : Nat) (m_te : Nat) (m_tm : Nat) (m_ou : Nat) (fs : List Value) (frf : Nat → Int32) (f1 : Nat → Int32) (f2 : Nat → Int32) (f3 : Nat → Int32) (f4 : Nat → Int32) (f5 : Nat → Int32) (f6 : Nat → Int32) (f7 : Nat → Int32) (f8 : Nat → Int32) (f9 : Nat → Int32) (f10 : Nat → Int32) (f11 : Nat → Int32) (sz : Nat) (gl_fs : fs.length = 68) (g_fs_19 : fs[19]? = some (.ref m_rf)) (g_fs_20 : fs[20]? = some (.ref m_pa)) (g_fs_21 : fs[21]? = some (.ref m_pn)) (g_fs_22 : fs[22]? = some (.ref m_fr)) (g_fs_23 : fs[23]? = some (.ref m_ur)) (g_fs_24 : fs[24]? = some (.ref m_up)) (g_fs_25 : fs[25]? = some (.ref m_un)) (g_fs_26 : fs[26]? = some (.ref m_um)) (g_fs_27 : fs[27]? = some (.ref m_tr)) (g_fs_28 : fs[28]? = some (.ref m_te)) (g_fs_29 : fs[29]? = some (.ref m_tm)) (g_fs_40 : fs[40]? = some (.ref m_ou)) (g_fs_2 : fs[2]? = some (.int 0)) (hrf : ∀ j, j < 16 → frf j = -1) : Met l yX11_text wsX11_text ({ frames := 3, cells := 0, slots := 0, locals := 64 }) (cP (dC, dI) (kTy cI cB cL cZ) [.ref h0, .int 0] [(h0, .inr (10, fs)), (m_rf, .inl (cI, 16, .inl frf)), (m_pa, .inl (cI, 16, .inl f1)), (m_pn, .inl (cI, 64, .inl f2)), (m_fr, .inl (cI, 2, .inl f3)), (m_ur, .inl (cI, 82, .inl f4)), (m_up, .inl (cI, 82, .inl f5)), (m_un, .inl (cI, 82, .inl f6)), (m_um, .inl (cI, 2, .inl f7)), (m_tr, .inl (cI, 50, .inl f8)), (m_te, .inl (cI, 50, .inl f9)), (m_tm, .inl (cI, 2, .inl f10)), (m_ou, .inl (cI, 4, .inl f11))] sz) (va_Qi (fun (r : Int32) (_ : Unit) => r = 0) (fun (_ : Unit) (t : State) => va_P (dC, dI) vwCl [] t.heap ∧ va_D (va_A [(h0, .inr (10, fs)), (m_rf, .inl (cI, 16, .inl frf)), (m_pa, .inl (cI, 16, .inl f1)), (m_pn, .inl (cI, 64, .inl f2)), (m_fr, .inl (cI, 2, .inl f3)), (m_ur, .inl (cI, 82, .inl f4)), (m_up, .inl (cI, 82, .inl f5)), (m_un, .inl (cI, 82, .inl f6)), (m_um, .inl (cI, 2, .inl f7)), (m_tr, .inl (cI, 50, .inl f8)), (m_te, .inl (cI, 50, .inl f9)), (m_tm, .inl (cI, 2, .inl f10)), (m_ou, .inl (cI, 4, .inl f11))] sz) []) (va_A [(h0, .inr (10, fs)), (m_rf, .inl (cI, 16, .inl frf)), (m_pa, .inl (cI, 16, .inl f1)), (m_pn, .inl (cI, 64, .inl f2)), (m_fr, .inl (cI, 2, .inl f3)), (m_ur, .inl (cI, 82, .inl f4)), (m_up, .inl (cI, 82, .inl f5)), (m_un, .inl (cI, 82, .inl f6)), (m_um, .inl (cI, 2, .inl f7)), (m_tr, .inl (cI, 50, .inl f8)), (m_te, .inl (cI, 50, .inl f9)), (m_tm, .inl (cI, 2, .inl f10)), (m_ou, .inl (cI, 4, .inl f11))] sz)) 0 0 (va_A [(h0, .inr (10, fs)), (m_rf, .inl (cI, 16, .inl frf)), (m_pa, .inl (cI, 16, .inl f1)), (m_pn, .inl (cI, 64, .inl f2)), (m_fr, .inl (cI, 2, .inl f3)), (m_ur, .inl (cI, 82, .inl f4)), (m_up, .inl (cI, 82, .inl f5)), (m_un, .inl (cI, 82, .inl f6)), (m_um, .inl (cI, 2, .inl f7)), (m_tr, .inl (cI, 50, .inl f8)), (m_te, .inl (cI, 50, .inl f9)), (m_tm, .inl (cI, 2, .inl f10)), (m_ou, .inl (cI, 4, .inl f11))] sz) := by
  refine Met.ofW (cc := cX11_text) (maxL := 2) (ret := (some .int)) (by decide) rfl ?_
  intro p e s m args below meth c s₁ B hml hv
  obtain ⟨rfl, hsz, hP, hK, hD0, hN⟩ := hv
  have hx := B.exec
  have hb := B.bytes
  have hr := B.returns
  have hts := atoms_spec (ws := wsX11_text) B.pre
  have hown : s.vm.findClass RX11 = some m.cls := findClass_of_methodNamed B.named
  have hlocks := B.notSynchronized
  subst hsz
  have hD := hD0.self (sz := s.heap.size)
  generalize hAe : va_A [(h0, .inr (10, fs)), (m_rf, .inl (cI, 16, .inl frf)), (m_pa, .inl (cI, 16, .inl f1)), (m_pn, .inl (cI, 64, .inl f2)), (m_fr, .inl (cI, 2, .inl f3)), (m_ur, .inl (cI, 82, .inl f4)), (m_up, .inl (cI, 82, .inl f5)), (m_un, .inl (cI, 82, .inl f6)), (m_um, .inl (cI, 2, .inl f7)), (m_tr, .inl (cI, 50, .inl f8)), (m_te, .inl (cI, 50, .inl f9)), (m_tm, .inl (cI, 2, .inl f10)), (m_ou, .inl (cI, 4, .inl f11))] s.heap.size = A at hD ⊢
  have hA : ∀ q : Nat, s.heap.size ≤ q → A q := fun q h => by rw [← hAe]; exact Or.inr h
  have hl := lv_entry ([.ref h0, .int 0]) (n := 2) (Nat.le_of_ble_eq_true rfl)
  rw [lg_entry_eq]
  generalize (lg_sl ([.ref h0, .int 0]) ++ List.replicate (2 - (lg_sl ([.ref h0, .int 0])).length) Slot.unset).toArray = ls at hl ⊢
  have hl : lv_has ls 2 [(0, .ref h0), (1, .int 0)] := hl
  refine k_H (A := A) hP (fun H hP hS => ?_)
  have hP : va_P (dC, dI) vwCl [(h0, .inr (10, fs)), (m_rf, .inl (cI, 16, .inl frf)), (m_pa, .inl (cI, 16, .inl f1)), (m_pn, .inl (cI, 64, .inl f2)), (m_fr, .inl (cI, 2, .inl f3)), (m_ur, .inl (cI, 82, .inl f4)), (m_up, .inl (cI, 82, .inl f5)), (m_un, .inl (cI, 82, .inl f6)), (m_um, .inl (cI, 2, .inl f7)), (m_tr, .inl (cI, 50, .inl f8)), (m_te, .inl (cI, 50, .inl f9)), (m_tm, .inl (cI, 2, .inl f10)), (m_ou, .inl (cI, 4, .inl f11))] H := hP
  have hD : va_D A [(h0, .inr (10, fs)), (m_rf, .inl (cI, 16, .inl frf)), (m_pa, .inl (cI, 16, .inl f1)), (m_pn, .inl (cI, 64, .inl f2)), (m_fr, .inl (cI, 2, .inl f3)), (m_ur, .inl (cI, 82, .inl f4)), (m_up, .inl (cI, 82, .inl f5)), (m_un, .inl (cI, 82, .inl f6)), (m_um, .inl (cI, 2, .inl f7)), (m_tr, .inl (cI, 50, .inl f8)), (m_te, .inl (cI, 50, .inl f9)), (m_tm, .inl (cI, 2, .inl f10)), (m_ou, .inl (cI, 4, .inl f11))] := hD
  refine lv_aload_n hx hb dX11_text_0 rfl (lv_at hl 0 rfl) ?_
  refine lv_iconst (v := 0) hx hb dX11_text_1 (by decide) ?_
  refine va_put (D := (dC, dI)) (ci := 10) (v := .int 0) (ty := .int) (C := RX11) (T := TX11) (N := 68) hx hb hts iwwsX11_text_11 tyX11 tyX11_ok nmX11 hown hK hP hD hS 0 rfl rfl 0 (by decide) (hts (.fieldLink RX11 121 "NothingJudgeModel" "thrown" "I") fwwsX11_text_121) (fun _ h9 => h9) rfl (by decide +kernel) rfl rfl (by rw [gl_fs]; decide) dX11_text_2 (fun H locs hP hD hS => ?_)
  obtain ⟨fs_558, efs_558⟩ : ∃ z : List Value, z = fs.set 0 (.int 0) := ⟨_, rfl⟩
  have glfs_558 : fs_558.length = 68 := fs_len efs_558 gl_fs
  have hP : va_P (dC, dI) vwCl [(h0, .inr (10, fs_558)), (m_rf, .inl (cI, 16, .inl frf)), (m_pa, .inl (cI, 16, .inl f1)), (m_pn, .inl (cI, 64, .inl f2)), (m_fr, .inl (cI, 2, .inl f3)), (m_ur, .inl (cI, 82, .inl f4)), (m_up, .inl (cI, 82, .inl f5)), (m_un, .inl (cI, 82, .inl f6)), (m_um, .inl (cI, 2, .inl f7)), (m_tr, .inl (cI, 50, .inl f8)), (m_te, .inl (cI, 50, .inl f9)), (m_tm, .inl (cI, 2, .inl f10)), (m_ou, .inl (cI, 4, .inl f11))] H := by rw [efs_558]; exact hP
  have hD : va_D A [(h0, .inr (10, fs_558)), (m_rf, .inl (cI, 16, .inl frf)), (m_pa, .inl (cI, 16, .inl f1)), (m_pn, .inl (cI, 64, .inl f2)), (m_fr, .inl (cI, 2, .inl f3)), (m_ur, .inl (cI, 82, .inl f4)), (m_up, .inl (cI, 82, .inl f5)), (m_un, .inl (cI, 82, .inl f6)), (m_um, .inl (cI, 2, .inl f7)), (m_tr, .inl (cI, 50, .inl f8)), (m_te, .inl (cI, 50, .inl f9)), (m_tm, .inl (cI, 2, .inl f10)), (m_ou, .inl (cI, 4, .inl f11))] := by rw [efs_558]; exact hD
  refine lv_iload_n hx hb dX11_text_5 rfl (lv_at hl 1 rfl) ?_
  refine lv_if_lt (tgt := 17) hx hb dX11_text_6 (by decide) (fun c9 => absurd c9 (by decide)) (fun _ => ?_)
  refine lv_iload_n hx hb dX11_text_9 rfl (lv_at hl 1 rfl) ?_
  refine lv_aload_n hx hb dX11_text_10 rfl (lv_at hl 0 rfl) ?_
  refine va_get (D := (dC, dI)) (ci := 10) (v := .int 0) (C := RX11) (T := TX11) (N := 68) hx hb hts iwwsX11_text_11 hown hK hP 0 rfl rfl 2 (by decide) (hts (.fieldLink RX11 124 "NothingJudgeModel" "taped" "I") fwwsX11_text_124) (fun _ h9 => h9) (fs_ne efs_558 (by decide) g_fs_2) dX11_text_11 ?_
  refine lv_icmp_le (tgt := 20) hx hb dX11_text_14 (by decide) (fun _ => ?_) (fun c9 => absurd (by decide) c9)
  refine lv_aload_n hx hb dX11_text_20 rfl (lv_at hl 0 rfl) ?_
  refine lv_iload_n hx hb dX11_text_21 rfl (lv_at hl 1 rfl) ?_
  refine va_put (D := (dC, dI)) (ci := 10) (v := .int 0) (ty := .int) (C := RX11) (T := TX11) (N := 68) hx hb hts iwwsX11_text_11 tyX11 tyX11_ok nmX11 hown hK hP hD hS 0 rfl rfl 3 (by decide) (hts (.fieldLink RX11 130 "NothingJudgeModel" "size" "I") fwwsX11_text_130) (fun _ h9 => h9) rfl (by decide +kernel) rfl rfl (by rw [glfs_558]; decide) dX11_text_22 (fun H locs hP hD hS => ?_)
  obtain ⟨fs_559, efs_559⟩ : ∃ z : List Value, z = fs_558.set 3 (.int 0) := ⟨_, rfl⟩
  have glfs_559 : fs_559.length = 68 := fs_len efs_559 glfs_558
  have hP : va_P (dC, dI) vwCl [(h0, .inr (10, fs_559)), (m_rf, .inl (cI, 16, .inl frf)), (m_pa, .inl (cI, 16, .inl f1)), (m_pn, .inl (cI, 64, .inl f2)), (m_fr, .inl (cI, 2, .inl f3)), (m_ur, .inl (cI, 82, .inl f4)), (m_up, .inl (cI, 82, .inl f5)), (m_un, .inl (cI, 82, .inl f6)), (m_um, .inl (cI, 2, .inl f7)), (m_tr, .inl (cI, 50, .inl f8)), (m_te, .inl (cI, 50, .inl f9)), (m_tm, .inl (cI, 2, .inl f10)), (m_ou, .inl (cI, 4, .inl f11))] H := by rw [efs_559]; exact hP
  have hD : va_D A [(h0, .inr (10, fs_559)), (m_rf, .inl (cI, 16, .inl frf)), (m_pa, .inl (cI, 16, .inl f1)), (m_pn, .inl (cI, 64, .inl f2)), (m_fr, .inl (cI, 2, .inl f3)), (m_ur, .inl (cI, 82, .inl f4)), (m_up, .inl (cI, 82, .inl f5)), (m_un, .inl (cI, 82, .inl f6)), (m_um, .inl (cI, 2, .inl f7)), (m_tr, .inl (cI, 50, .inl f8)), (m_te, .inl (cI, 50, .inl f9)), (m_tm, .inl (cI, 2, .inl f10)), (m_ou, .inl (cI, 4, .inl f11))] := by rw [efs_559]; exact hD
  refine lv_aload_n hx hb dX11_text_25 rfl (lv_at hl 0 rfl) ?_
  refine lv_iconst (v := 0) hx hb dX11_text_26 (by decide) ?_
  refine va_put (D := (dC, dI)) (ci := 10) (v := .int 0) (ty := .int) (C := RX11) (T := TX11) (N := 68) hx hb hts iwwsX11_text_11 tyX11 tyX11_ok nmX11 hown hK hP hD hS 0 rfl rfl 2 (by decide) (hts (.fieldLink RX11 124 "NothingJudgeModel" "taped" "I") fwwsX11_text_124) (fun _ h9 => h9) rfl (by decide +kernel) rfl rfl (by rw [glfs_559]; decide) dX11_text_27 (fun H locs hP hD hS => ?_)
  obtain ⟨fs_560, efs_560⟩ : ∃ z : List Value, z = fs_559.set 2 (.int 0) := ⟨_, rfl⟩
  have glfs_560 : fs_560.length = 68 := fs_len efs_560 glfs_559
  have hP : va_P (dC, dI) vwCl [(h0, .inr (10, fs_560)), (m_rf, .inl (cI, 16, .inl frf)), (m_pa, .inl (cI, 16, .inl f1)), (m_pn, .inl (cI, 64, .inl f2)), (m_fr, .inl (cI, 2, .inl f3)), (m_ur, .inl (cI, 82, .inl f4)), (m_up, .inl (cI, 82, .inl f5)), (m_un, .inl (cI, 82, .inl f6)), (m_um, .inl (cI, 2, .inl f7)), (m_tr, .inl (cI, 50, .inl f8)), (m_te, .inl (cI, 50, .inl f9)), (m_tm, .inl (cI, 2, .inl f10)), (m_ou, .inl (cI, 4, .inl f11))] H := by rw [efs_560]; exact hP
  have hD : va_D A [(h0, .inr (10, fs_560)), (m_rf, .inl (cI, 16, .inl frf)), (m_pa, .inl (cI, 16, .inl f1)), (m_pn, .inl (cI, 64, .inl f2)), (m_fr, .inl (cI, 2, .inl f3)), (m_ur, .inl (cI, 82, .inl f4)), (m_up, .inl (cI, 82, .inl f5)), (m_un, .inl (cI, 82, .inl f6)), (m_um, .inl (cI, 2, .inl f7)), (m_tr, .inl (cI, 50, .inl f8)), (m_te, .inl (cI, 50, .inl f9)), (m_tm, .inl (cI, 2, .inl f10)), (m_ou, .inl (cI, 4, .inl f11))] := by rw [efs_560]; exact hD
  refine lv_aload_n hx hb dX11_text_30 rfl (lv_at hl 0 rfl) ?_
  have hPc := hP.sub (ws' := [(h0, .inr (10, fs_560)), (m_rf, .inl (cI, 16, .inl frf)), (m_um, .inl (cI, 2, .inl f7)), (m_tm, .inl (cI, 2, .inl f10)), (m_fr, .inl (cI, 2, .inl f3))]) [0, 1, 8, 11, 4] rfl
  have hDc := hD.sub (ws' := [(h0, .inr (10, fs_560)), (m_rf, .inl (cI, 16, .inl frf)), (m_um, .inl (cI, 2, .inl f7)), (m_tm, .inl (cI, 2, .inl f10)), (m_fr, .inl (cI, 2, .inl f3))]) [0, 1, 8, 11, 4] (by decide) rfl
  have hFc := va_free (wc := [(h0, .inr (10, fs_560)), (m_rf, .inl (cI, 16, .inl frf)), (m_um, .inl (cI, 2, .inl f7)), (m_tm, .inl (cI, 2, .inl f10)), (m_fr, .inl (cI, 2, .inl f3))]) hD hS hA [0, 1, 8, 11, 4] rfl
  refine va_callv (va_runV (As := []) (rest := []) ⟨hx, hb, hml, hown, hts⟩ (m_parses l dC dI cI cB cL cZ (h0) (m_rf) (m_um) (m_tm) (m_fr) (fs_560) (frf) (f7) (f10) (f3) H.size glfs_560 (fs_ne efs_560 (by decide) (fs_ne efs_559 (by decide) (fs_ne efs_558 (by decide) g_fs_19))) (fs_ne efs_560 (by decide) (fs_ne efs_559 (by decide) (fs_ne efs_558 (by decide) g_fs_26))) (fs_ne efs_560 (by decide) (fs_ne efs_559 (by decide) (fs_ne efs_558 (by decide) g_fs_29))) (fs_ne efs_560 (by decide) (fs_ne efs_559 (by decide) (fs_ne efs_558 (by decide) g_fs_22))) (fs_ne efs_560 (by decide) (fs_eq efs_559 (by rw [glfs_558]; decide))) (hrf)) (cwV 0 hts gX11_text_X11_parses rfl rfl rfl (by decide +kernel) ⟨Nat.le_of_ble_eq_true rfl, Nat.le_of_ble_eq_true rfl⟩) ⟨cP_fb, va_recv hK hPc (ci := 10) (q0 := 0) rfl rfl, fun U hU hW => cP_pre hPc hK hDc hN U hU hW⟩ rfl rfl hl.1 rfl (lv_room (Nat.le_of_ble_eq_true rfl)) dX11_text_31 ⟨Nat.le_of_ble_eq_true rfl, Nat.le_of_ble_eq_true rfl⟩) hS (fun q _ h => hFc q h) hFc (fun u t H1 locs ht hvm hw hB hz1 hk1 hS => ?_)
  obtain ⟨f_561, f_562, f_563, f_564, hf_565, hP1, hD1⟩ := hB
  rw [ht] at hP1
  obtain ⟨hP, hD⟩ := va_join (wr := [(m_pa, .inl (cI, 16, .inl f1)), (m_pn, .inl (cI, 64, .inl f2)), (m_ur, .inl (cI, 82, .inl f4)), (m_up, .inl (cI, 82, .inl f5)), (m_un, .inl (cI, 82, .inl f6)), (m_tr, .inl (cI, 50, .inl f8)), (m_te, .inl (cI, 50, .inl f9)), (m_ou, .inl (cI, 4, .inl f11))]) (w1 := [(h0, .inr (10, ((((((((fs_560.set 4 (.int 0)).set 8 (.int 0)).set 9 (.int (-1))).set 17 (.int 0)).set 33 (.int 0)).set 38 (.int 0)).set 5 (.int 0)).set 6 (.int 4)))), (m_rf, .inl (cI, 16, .inl f_561)), (m_um, .inl (cI, 2, .inl f_562)), (m_tm, .inl (cI, 2, .inl f_563)), (m_fr, .inl (cI, 2, .inl f_564))]) hP hD [0, 1, 8, 11, 4] [2, 3, 5, 6, 7, 9, 10, 12] rfl rfl (by decide) (by decide) hk1 hFc hP1 hD1
  generalize H1 = H at hP hS ⊢
  obtain ⟨fs_567, efs_567⟩ : ∃ z : List Value, z = fs_560.set 4 (.int 0) := ⟨_, rfl⟩
  have glfs_567 : fs_567.length = 68 := fs_len efs_567 glfs_560
  obtain ⟨fs_568, efs_568⟩ : ∃ z : List Value, z = fs_567.set 8 (.int 0) := ⟨_, rfl⟩
  have glfs_568 : fs_568.length = 68 := fs_len efs_568 glfs_567
  obtain ⟨fs_569, efs_569⟩ : ∃ z : List Value, z = fs_568.set 9 (.int (-1)) := ⟨_, rfl⟩
  have glfs_569 : fs_569.length = 68 := fs_len efs_569 glfs_568
  obtain ⟨fs_570, efs_570⟩ : ∃ z : List Value, z = fs_569.set 17 (.int 0) := ⟨_, rfl⟩
  have glfs_570 : fs_570.length = 68 := fs_len efs_570 glfs_569
  obtain ⟨fs_571, efs_571⟩ : ∃ z : List Value, z = fs_570.set 33 (.int 0) := ⟨_, rfl⟩
  have glfs_571 : fs_571.length = 68 := fs_len efs_571 glfs_570
  obtain ⟨fs_572, efs_572⟩ : ∃ z : List Value, z = fs_571.set 38 (.int 0) := ⟨_, rfl⟩
  have glfs_572 : fs_572.length = 68 := fs_len efs_572 glfs_571
  obtain ⟨fs_573, efs_573⟩ : ∃ z : List Value, z = fs_572.set 5 (.int 0) := ⟨_, rfl⟩
  have glfs_573 : fs_573.length = 68 := fs_len efs_573 glfs_572
  obtain ⟨fs_574, efs_574⟩ : ∃ z : List Value, z = fs_573.set 6 (.int 4) := ⟨_, rfl⟩
  have glfs_574 : fs_574.length = 68 := fs_len efs_574 glfs_573
  have hP : va_P (dC, dI) vwCl [(m_pa, .inl (cI, 16, .inl f1)), (m_pn, .inl (cI, 64, .inl f2)), (m_ur, .inl (cI, 82, .inl f4)), (m_up, .inl (cI, 82, .inl f5)), (m_un, .inl (cI, 82, .inl f6)), (m_tr, .inl (cI, 50, .inl f8)), (m_te, .inl (cI, 50, .inl f9)), (m_ou, .inl (cI, 4, .inl f11)), (h0, .inr (10, fs_574)), (m_rf, .inl (cI, 16, .inl f_561)), (m_um, .inl (cI, 2, .inl f_562)), (m_tm, .inl (cI, 2, .inl f_563)), (m_fr, .inl (cI, 2, .inl f_564))] H := by rw [efs_574, efs_573, efs_572, efs_571, efs_570, efs_569, efs_568, efs_567]; exact hP
  have hD : va_D A [(m_pa, .inl (cI, 16, .inl f1)), (m_pn, .inl (cI, 64, .inl f2)), (m_ur, .inl (cI, 82, .inl f4)), (m_up, .inl (cI, 82, .inl f5)), (m_un, .inl (cI, 82, .inl f6)), (m_tr, .inl (cI, 50, .inl f8)), (m_te, .inl (cI, 50, .inl f9)), (m_ou, .inl (cI, 4, .inl f11)), (h0, .inr (10, fs_574)), (m_rf, .inl (cI, 16, .inl f_561)), (m_um, .inl (cI, 2, .inl f_562)), (m_tm, .inl (cI, 2, .inl f_563)), (m_fr, .inl (cI, 2, .inl f_564))] := by rw [efs_574, efs_573, efs_572, efs_571, efs_570, efs_569, efs_568, efs_567]; exact hD
  refine lv_aload_n hx hb dX11_text_34 rfl (lv_at hl 0 rfl) ?_
  refine lv_aload_n hx hb dX11_text_35 rfl (lv_at hl 0 rfl) ?_
  refine va_get (D := (dC, dI)) (ci := 10) (v := .int 0) (C := RX11) (T := TX11) (N := 68) hx hb hts iwwsX11_text_11 hown hK hP 8 rfl rfl 8 (by decide) (hts (.fieldLink RX11 164 "NothingJudgeModel" "fault" "I") fwwsX11_text_164) (fun _ h9 => h9) (fs_ne efs_574 (by decide) (fs_ne efs_573 (by decide) (fs_ne efs_572 (by decide) (fs_ne efs_571 (by decide) (fs_ne efs_570 (by decide) (fs_ne efs_569 (by decide) (fs_eq efs_568 (by rw [glfs_567]; decide)))))))) dX11_text_36 ?_
  refine va_put (D := (dC, dI)) (ci := 10) (v := .int 0) (ty := .int) (C := RX11) (T := TX11) (N := 68) hx hb hts iwwsX11_text_11 tyX11 tyX11_ok nmX11 hown hK hP hD hS 8 rfl rfl 10 (by decide) (hts (.fieldLink RX11 242 "NothingJudgeModel" "lastFault" "I") fwwsX11_text_242) (fun _ h9 => h9) rfl (by decide +kernel) rfl rfl (by rw [glfs_574]; decide) dX11_text_39 (fun H locs hP hD hS => ?_)
  obtain ⟨fs_575, efs_575⟩ : ∃ z : List Value, z = fs_574.set 10 (.int 0) := ⟨_, rfl⟩
  have glfs_575 : fs_575.length = 68 := fs_len efs_575 glfs_574
  have hP : va_P (dC, dI) vwCl [(m_pa, .inl (cI, 16, .inl f1)), (m_pn, .inl (cI, 64, .inl f2)), (m_ur, .inl (cI, 82, .inl f4)), (m_up, .inl (cI, 82, .inl f5)), (m_un, .inl (cI, 82, .inl f6)), (m_tr, .inl (cI, 50, .inl f8)), (m_te, .inl (cI, 50, .inl f9)), (m_ou, .inl (cI, 4, .inl f11)), (h0, .inr (10, fs_575)), (m_rf, .inl (cI, 16, .inl f_561)), (m_um, .inl (cI, 2, .inl f_562)), (m_tm, .inl (cI, 2, .inl f_563)), (m_fr, .inl (cI, 2, .inl f_564))] H := by rw [efs_575]; exact hP
  have hD : va_D A [(m_pa, .inl (cI, 16, .inl f1)), (m_pn, .inl (cI, 64, .inl f2)), (m_ur, .inl (cI, 82, .inl f4)), (m_up, .inl (cI, 82, .inl f5)), (m_un, .inl (cI, 82, .inl f6)), (m_tr, .inl (cI, 50, .inl f8)), (m_te, .inl (cI, 50, .inl f9)), (m_ou, .inl (cI, 4, .inl f11)), (h0, .inr (10, fs_575)), (m_rf, .inl (cI, 16, .inl f_561)), (m_um, .inl (cI, 2, .inl f_562)), (m_tm, .inl (cI, 2, .inl f_563)), (m_fr, .inl (cI, 2, .inl f_564))] := by rw [efs_575]; exact hD
  refine lv_aload_n hx hb dX11_text_42 rfl (lv_at hl 0 rfl) ?_
  refine lv_aload_n hx hb dX11_text_43 rfl (lv_at hl 0 rfl) ?_
  refine va_get (D := (dC, dI)) (ci := 10) (v := .int (-1)) (C := RX11) (T := TX11) (N := 68) hx hb hts iwwsX11_text_11 hown hK hP 8 rfl rfl 9 (by decide) (hts (.fieldLink RX11 167 "NothingJudgeModel" "faultPlace" "I") fwwsX11_text_167) (fun _ h9 => h9) (fs_ne efs_575 (by decide) (fs_ne efs_574 (by decide) (fs_ne efs_573 (by decide) (fs_ne efs_572 (by decide) (fs_ne efs_571 (by decide) (fs_ne efs_570 (by decide) (fs_eq efs_569 (by rw [glfs_568]; decide)))))))) dX11_text_44 ?_
  refine va_put (D := (dC, dI)) (ci := 10) (v := .int (-1)) (ty := .int) (C := RX11) (T := TX11) (N := 68) hx hb hts iwwsX11_text_11 tyX11 tyX11_ok nmX11 hown hK hP hD hS 8 rfl rfl 11 (by decide) (hts (.fieldLink RX11 13 "NothingJudgeModel" "lastPlace" "I") fwwsX11_text_13) (fun _ h9 => h9) rfl (by decide +kernel) rfl rfl (by rw [glfs_575]; decide) dX11_text_47 (fun H locs hP hD hS => ?_)
  obtain ⟨fs_576, efs_576⟩ : ∃ z : List Value, z = fs_575.set 11 (.int (-1)) := ⟨_, rfl⟩
  have glfs_576 : fs_576.length = 68 := fs_len efs_576 glfs_575
  have hP : va_P (dC, dI) vwCl [(m_pa, .inl (cI, 16, .inl f1)), (m_pn, .inl (cI, 64, .inl f2)), (m_ur, .inl (cI, 82, .inl f4)), (m_up, .inl (cI, 82, .inl f5)), (m_un, .inl (cI, 82, .inl f6)), (m_tr, .inl (cI, 50, .inl f8)), (m_te, .inl (cI, 50, .inl f9)), (m_ou, .inl (cI, 4, .inl f11)), (h0, .inr (10, fs_576)), (m_rf, .inl (cI, 16, .inl f_561)), (m_um, .inl (cI, 2, .inl f_562)), (m_tm, .inl (cI, 2, .inl f_563)), (m_fr, .inl (cI, 2, .inl f_564))] H := by rw [efs_576]; exact hP
  have hD : va_D A [(m_pa, .inl (cI, 16, .inl f1)), (m_pn, .inl (cI, 64, .inl f2)), (m_ur, .inl (cI, 82, .inl f4)), (m_up, .inl (cI, 82, .inl f5)), (m_un, .inl (cI, 82, .inl f6)), (m_tr, .inl (cI, 50, .inl f8)), (m_te, .inl (cI, 50, .inl f9)), (m_ou, .inl (cI, 4, .inl f11)), (h0, .inr (10, fs_576)), (m_rf, .inl (cI, 16, .inl f_561)), (m_um, .inl (cI, 2, .inl f_562)), (m_tm, .inl (cI, 2, .inl f_563)), (m_fr, .inl (cI, 2, .inl f_564))] := by rw [efs_576]; exact hD
  refine lv_aload_n hx hb dX11_text_50 rfl (lv_at hl 0 rfl) ?_
  refine va_get (D := (dC, dI)) (ci := 10) (v := .int 0) (C := RX11) (T := TX11) (N := 68) hx hb hts iwwsX11_text_11 hown hK hP 8 rfl rfl 8 (by decide) (hts (.fieldLink RX11 164 "NothingJudgeModel" "fault" "I") fwwsX11_text_164) (fun _ h9 => h9) (fs_ne efs_576 (by decide) (fs_ne efs_575 (by decide) (fs_ne efs_574 (by decide) (fs_ne efs_573 (by decide) (fs_ne efs_572 (by decide) (fs_ne efs_571 (by decide) (fs_ne efs_570 (by decide) (fs_ne efs_569 (by decide) (fs_eq efs_568 (by rw [glfs_567]; decide)))))))))) dX11_text_51 ?_
  refine lv_if_eq (tgt := 59) hx hb dX11_text_54 (by decide) (fun _ => ?_) (fun c9 => absurd (by decide) c9)
  refine lv_aload_n hx hb dX11_text_59 rfl (lv_at hl 0 rfl) ?_
  have hPc := hP.sub (ws' := [(h0, .inr (10, fs_576)), (m_rf, .inl (cI, 16, .inl f_561)), (m_pa, .inl (cI, 16, .inl f1)), (m_pn, .inl (cI, 64, .inl f2)), (m_fr, .inl (cI, 2, .inl f_564)), (m_ur, .inl (cI, 82, .inl f4)), (m_up, .inl (cI, 82, .inl f5)), (m_un, .inl (cI, 82, .inl f6)), (m_um, .inl (cI, 2, .inl f_562)), (m_tr, .inl (cI, 50, .inl f8)), (m_te, .inl (cI, 50, .inl f9)), (m_tm, .inl (cI, 2, .inl f_563)), (m_ou, .inl (cI, 4, .inl f11))]) [8, 9, 0, 1, 12, 2, 3, 4, 10, 5, 6, 11, 7] rfl
  have hDc := hD.sub (ws' := [(h0, .inr (10, fs_576)), (m_rf, .inl (cI, 16, .inl f_561)), (m_pa, .inl (cI, 16, .inl f1)), (m_pn, .inl (cI, 64, .inl f2)), (m_fr, .inl (cI, 2, .inl f_564)), (m_ur, .inl (cI, 82, .inl f4)), (m_up, .inl (cI, 82, .inl f5)), (m_un, .inl (cI, 82, .inl f6)), (m_um, .inl (cI, 2, .inl f_562)), (m_tr, .inl (cI, 50, .inl f8)), (m_te, .inl (cI, 50, .inl f9)), (m_tm, .inl (cI, 2, .inl f_563)), (m_ou, .inl (cI, 4, .inl f11))]) [8, 9, 0, 1, 12, 2, 3, 4, 10, 5, 6, 11, 7] (by decide) rfl
  have hFc := va_free (wc := [(h0, .inr (10, fs_576)), (m_rf, .inl (cI, 16, .inl f_561)), (m_pa, .inl (cI, 16, .inl f1)), (m_pn, .inl (cI, 64, .inl f2)), (m_fr, .inl (cI, 2, .inl f_564)), (m_ur, .inl (cI, 82, .inl f4)), (m_up, .inl (cI, 82, .inl f5)), (m_un, .inl (cI, 82, .inl f6)), (m_um, .inl (cI, 2, .inl f_562)), (m_tr, .inl (cI, 50, .inl f8)), (m_te, .inl (cI, 50, .inl f9)), (m_tm, .inl (cI, 2, .inl f_563)), (m_ou, .inl (cI, 4, .inl f11))]) hD hS hA [8, 9, 0, 1, 12, 2, 3, 4, 10, 5, 6, 11, 7] rfl
  refine va_callv (va_runV (As := []) (rest := []) ⟨hx, hb, hml, hown, hts⟩ (m_comes l dC dI cI cB cL cZ (h0) (m_rf) (m_pa) (m_pn) (m_fr) (m_ur) (m_up) (m_un) (m_um) (m_tr) (m_te) (m_tm) (m_ou) (fs_576) (f_561) (f1) (f2) (f_564) (f4) (f5) (f6) (f_562) (f8) (f9) (f_563) (f11) H.size glfs_576 (fs_ne efs_576 (by decide) (fs_ne efs_575 (by decide) (fs_ne efs_574 (by decide) (fs_ne efs_573 (by decide) (fs_ne efs_572 (by decide) (fs_ne efs_571 (by decide) (fs_ne efs_570 (by decide) (fs_ne efs_569 (by decide) (fs_ne efs_568 (by decide) (fs_ne efs_567 (by decide) (fs_ne efs_560 (by decide) (fs_ne efs_559 (by decide) (fs_ne efs_558 (by decide) g_fs_19))))))))))))) (fs_ne efs_576 (by decide) (fs_ne efs_575 (by decide) (fs_ne efs_574 (by decide) (fs_ne efs_573 (by decide) (fs_ne efs_572 (by decide) (fs_ne efs_571 (by decide) (fs_ne efs_570 (by decide) (fs_ne efs_569 (by decide) (fs_ne efs_568 (by decide) (fs_ne efs_567 (by decide) (fs_ne efs_560 (by decide) (fs_ne efs_559 (by decide) (fs_ne efs_558 (by decide) g_fs_20))))))))))))) (fs_ne efs_576 (by decide) (fs_ne efs_575 (by decide) (fs_ne efs_574 (by decide) (fs_ne efs_573 (by decide) (fs_ne efs_572 (by decide) (fs_ne efs_571 (by decide) (fs_ne efs_570 (by decide) (fs_ne efs_569 (by decide) (fs_ne efs_568 (by decide) (fs_ne efs_567 (by decide) (fs_ne efs_560 (by decide) (fs_ne efs_559 (by decide) (fs_ne efs_558 (by decide) g_fs_21))))))))))))) (fs_ne efs_576 (by decide) (fs_ne efs_575 (by decide) (fs_ne efs_574 (by decide) (fs_ne efs_573 (by decide) (fs_ne efs_572 (by decide) (fs_ne efs_571 (by decide) (fs_ne efs_570 (by decide) (fs_ne efs_569 (by decide) (fs_ne efs_568 (by decide) (fs_ne efs_567 (by decide) (fs_ne efs_560 (by decide) (fs_ne efs_559 (by decide) (fs_ne efs_558 (by decide) g_fs_22))))))))))))) (fs_ne efs_576 (by decide) (fs_ne efs_575 (by decide) (fs_ne efs_574 (by decide) (fs_ne efs_573 (by decide) (fs_ne efs_572 (by decide) (fs_ne efs_571 (by decide) (fs_ne efs_570 (by decide) (fs_ne efs_569 (by decide) (fs_ne efs_568 (by decide) (fs_ne efs_567 (by decide) (fs_ne efs_560 (by decide) (fs_ne efs_559 (by decide) (fs_ne efs_558 (by decide) g_fs_23))))))))))))) (fs_ne efs_576 (by decide) (fs_ne efs_575 (by decide) (fs_ne efs_574 (by decide) (fs_ne efs_573 (by decide) (fs_ne efs_572 (by decide) (fs_ne efs_571 (by decide) (fs_ne efs_570 (by decide) (fs_ne efs_569 (by decide) (fs_ne efs_568 (by decide) (fs_ne efs_567 (by decide) (fs_ne efs_560 (by decide) (fs_ne efs_559 (by decide) (fs_ne efs_558 (by decide) g_fs_24))))))))))))) (fs_ne efs_576 (by decide) (fs_ne efs_575 (by decide) (fs_ne efs_574 (by decide) (fs_ne efs_573 (by decide) (fs_ne efs_572 (by decide) (fs_ne efs_571 (by decide) (fs_ne efs_570 (by decide) (fs_ne efs_569 (by decide) (fs_ne efs_568 (by decide) (fs_ne efs_567 (by decide) (fs_ne efs_560 (by decide) (fs_ne efs_559 (by decide) (fs_ne efs_558 (by decide) g_fs_25))))))))))))) (fs_ne efs_576 (by decide) (fs_ne efs_575 (by decide) (fs_ne efs_574 (by decide) (fs_ne efs_573 (by decide) (fs_ne efs_572 (by decide) (fs_ne efs_571 (by decide) (fs_ne efs_570 (by decide) (fs_ne efs_569 (by decide) (fs_ne efs_568 (by decide) (fs_ne efs_567 (by decide) (fs_ne efs_560 (by decide) (fs_ne efs_559 (by decide) (fs_ne efs_558 (by decide) g_fs_26))))))))))))) (fs_ne efs_576 (by decide) (fs_ne efs_575 (by decide) (fs_ne efs_574 (by decide) (fs_ne efs_573 (by decide) (fs_ne efs_572 (by decide) (fs_ne efs_571 (by decide) (fs_ne efs_570 (by decide) (fs_ne efs_569 (by decide) (fs_ne efs_568 (by decide) (fs_ne efs_567 (by decide) (fs_ne efs_560 (by decide) (fs_ne efs_559 (by decide) (fs_ne efs_558 (by decide) g_fs_27))))))))))))) (fs_ne efs_576 (by decide) (fs_ne efs_575 (by decide) (fs_ne efs_574 (by decide) (fs_ne efs_573 (by decide) (fs_ne efs_572 (by decide) (fs_ne efs_571 (by decide) (fs_ne efs_570 (by decide) (fs_ne efs_569 (by decide) (fs_ne efs_568 (by decide) (fs_ne efs_567 (by decide) (fs_ne efs_560 (by decide) (fs_ne efs_559 (by decide) (fs_ne efs_558 (by decide) g_fs_28))))))))))))) (fs_ne efs_576 (by decide) (fs_ne efs_575 (by decide) (fs_ne efs_574 (by decide) (fs_ne efs_573 (by decide) (fs_ne efs_572 (by decide) (fs_ne efs_571 (by decide) (fs_ne efs_570 (by decide) (fs_ne efs_569 (by decide) (fs_ne efs_568 (by decide) (fs_ne efs_567 (by decide) (fs_ne efs_560 (by decide) (fs_ne efs_559 (by decide) (fs_ne efs_558 (by decide) g_fs_29))))))))))))) (fs_ne efs_576 (by decide) (fs_ne efs_575 (by decide) (fs_ne efs_574 (by decide) (fs_ne efs_573 (by decide) (fs_ne efs_572 (by decide) (fs_ne efs_571 (by decide) (fs_ne efs_570 (by decide) (fs_ne efs_569 (by decide) (fs_ne efs_568 (by decide) (fs_ne efs_567 (by decide) (fs_ne efs_560 (by decide) (fs_ne efs_559 (by decide) (fs_ne efs_558 (by decide) g_fs_40))))))))))))) (fs_ne efs_576 (by decide) (fs_ne efs_575 (by decide) (fs_ne efs_574 (by decide) (fs_ne efs_573 (by decide) (fs_ne efs_572 (by decide) (fs_ne efs_571 (by decide) (fs_eq efs_570 (by rw [glfs_569]; decide)))))))) (hf_565)) (cwV 0 hts gX11_text_X11_comes rfl rfl rfl (by decide +kernel) ⟨Nat.le_of_ble_eq_true rfl, Nat.le_of_ble_eq_true rfl⟩) ⟨cP_fb, va_recv hK hPc (ci := 10) (q0 := 0) rfl rfl, fun U hU hW => cP_pre hPc hK hDc hN U hU hW⟩ rfl rfl hl.1 rfl (lv_room (Nat.le_of_ble_eq_true rfl)) dX11_text_60 ⟨Nat.le_of_ble_eq_true rfl, Nat.le_of_ble_eq_true rfl⟩) hS (fun q _ h => hFc q h) hFc (fun u t H1 locs ht hvm hw hB hz1 hk1 hS => ?_)
  obtain ⟨f_577, hf_578, hP1, hD1⟩ := hB
  rw [ht] at hP1
  obtain ⟨hP, hD⟩ := va_join (wr := []) (w1 := [(h0, .inr (10, ((fs_576.set 18 (.int 0)).set 39 (.int y_519)))), (m_rf, .inl (cI, 16, .inl f_577))]) hP hD [8, 9, 0, 1, 12, 2, 3, 4, 10, 5, 6, 11, 7] [] rfl rfl (by decide) (by decide) hk1 hFc hP1 hD1
  generalize H1 = H at hP hS ⊢
  obtain ⟨fs_580, efs_580⟩ : ∃ z : List Value, z = fs_576.set 18 (.int 0) := ⟨_, rfl⟩
  have glfs_580 : fs_580.length = 68 := fs_len efs_580 glfs_576
  obtain ⟨fs_581, efs_581⟩ : ∃ z : List Value, z = fs_580.set 39 (.int y_519) := ⟨_, rfl⟩
  have glfs_581 : fs_581.length = 68 := fs_len efs_581 glfs_580
  have hP : va_P (dC, dI) vwCl [(h0, .inr (10, fs_581)), (m_rf, .inl (cI, 16, .inl f_577))] H := by rw [efs_581, efs_580]; exact hP
  have hD : va_D A [(h0, .inr (10, fs_581)), (m_rf, .inl (cI, 16, .inl f_577))] := by rw [efs_581, efs_580]; exact hD
  refine lv_aload_n hx hb dX11_text_63 rfl (lv_at hl 0 rfl) ?_
  have hPc := hP.sub (ws' := [(h0, .inr (10, fs_581)), (m_rf, .inl (cI, 16, .inl f_577))]) [0, 1] rfl
  have hDc := hD.sub (ws' := [(h0, .inr (10, fs_581)), (m_rf, .inl (cI, 16, .inl f_577))]) [0, 1] (by decide) rfl
  have hFc := va_free (wc := [(h0, .inr (10, fs_581)), (m_rf, .inl (cI, 16, .inl f_577))]) hD hS hA [0, 1] rfl
  refine va_calli (va_runV (As := []) (rest := []) ⟨hx, hb, hml, hown, hts⟩ (c_rmany l dC dI cI cB cL cZ (h0) (m_rf) (fs_581) (f_577) H.size glfs_581 (fs_ne efs_581 (by decide) (fs_ne efs_580 (by decide) (fs_ne efs_576 (by decide) (fs_ne efs_575 (by decide) (fs_ne efs_574 (by decide) (fs_ne efs_573 (by decide) (fs_ne efs_572 (by decide) (fs_ne efs_571 (by decide) (fs_ne efs_570 (by decide) (fs_ne efs_569 (by decide) (fs_ne efs_568 (by decide) (fs_ne efs_567 (by decide) (fs_ne efs_560 (by decide) (fs_ne efs_559 (by decide) (fs_ne efs_558 (by decide) g_fs_19))))))))))))))) (hf_578)) (cwV 0 hts gX11_text_X11_routinesMany rfl rfl rfl (by decide +kernel) ⟨Nat.le_of_ble_eq_true rfl, Nat.le_of_ble_eq_true rfl⟩) ⟨cP_fb, va_recv hK hPc (ci := 10) (q0 := 0) rfl rfl, fun U hU hW => cP_pre hPc hK hDc hN U hU hW⟩ rfl rfl hl.1 rfl (lv_room (Nat.le_of_ble_eq_true rfl)) dX11_text_64 ⟨Nat.le_of_ble_eq_true rfl, Nat.le_of_ble_eq_true rfl⟩) hS (fun q _ h => hFc q h) hFc (fun r_582 u t H1 locs ht hvm hw hB hz1 hk1 hS => ?_)
  obtain ⟨hP1, hD1⟩ := hB
  rw [ht] at hP1
  obtain ⟨hP, hD⟩ := va_join (wr := []) (w1 := [(h0, .inr (10, fs_581))]) hP hD [0, 1] [] rfl rfl (by decide) (by decide) hk1 hFc hP1 hD1
  generalize H1 = H at hP hS ⊢
  have hP : va_P (dC, dI) vwCl [(h0, .inr (10, fs_581))] H := hP
  have hD : va_D A [(h0, .inr (10, fs_581))] := hD
  obtain rfl : r_582 = 0 := hw
  subst efs_581
  subst efs_580
  subst efs_576
  subst efs_575
  subst efs_574
  subst efs_573
  subst efs_572
  subst efs_571
  subst efs_570
  subst efs_569
  subst efs_568
  subst efs_567
  subst efs_560
  subst efs_559
  subst efs_558
  have hP9 := hP.sub (ws' := []) [] rfl
  have hD9 := hD.sub (ws' := []) [] (by decide) rfl
  exact W.iret (v := 0) hx hb hr (fun t ht hW => ⟨⟨0, (), rfl, rfl, by rw [ht]; exact hP9, hD9⟩, hS.F ht⟩) hS.2.2 dX11_text_67

set_option maxHeartbeats 4000000 in
set_option maxRecDepth 100000 in
theorem m_textN (l : Launch) (dC : Nat → ClassId) (dI : Nat → Nat → Nat) (cI cB cL cZ : ClassId) (h0 : Nat) (n : Int32) (fs : List Value) (sz : Nat) (gl_fs : fs.length = 68) (g_fs_2 : fs[2]? = some (.int 0)) (hn9 : n < 0 ∨ 0 < n) : Met l yX11_text wsX11_text ({ frames := 0, cells := 0, slots := 0, locals := 0 }) (cP (dC, dI) (kTy cI cB cL cZ) [.ref h0, .int n] [(h0, .inr (10, fs))] sz) (va_Qi (fun (r : Int32) (_ : Unit) => r = -2) (fun (_ : Unit) (t : State) => va_P (dC, dI) vwCl [] t.heap ∧ va_D (va_A [(h0, .inr (10, fs))] sz) []) (va_A [(h0, .inr (10, fs))] sz)) 0 0 (va_A [(h0, .inr (10, fs))] sz) := by
  refine Met.ofW (cc := cX11_text) (maxL := 2) (ret := (some .int)) (by decide) rfl ?_
  intro p e s m args below meth c s₁ B hml hv
  obtain ⟨rfl, hsz, hP, hK, hD0, hN⟩ := hv
  have hx := B.exec
  have hb := B.bytes
  have hr := B.returns
  have hts := atoms_spec (ws := wsX11_text) B.pre
  have hown : s.vm.findClass RX11 = some m.cls := findClass_of_methodNamed B.named
  have hlocks := B.notSynchronized
  subst hsz
  have hD := hD0.self (sz := s.heap.size)
  generalize hAe : va_A [(h0, .inr (10, fs))] s.heap.size = A at hD ⊢
  have hA : ∀ q : Nat, s.heap.size ≤ q → A q := fun q h => by rw [← hAe]; exact Or.inr h
  have hl := lv_entry ([.ref h0, .int n]) (n := 2) (Nat.le_of_ble_eq_true rfl)
  rw [lg_entry_eq]
  generalize (lg_sl ([.ref h0, .int n]) ++ List.replicate (2 - (lg_sl ([.ref h0, .int n])).length) Slot.unset).toArray = ls at hl ⊢
  have hl : lv_has ls 2 [(0, .ref h0), (1, .int n)] := hl
  refine k_H (A := A) hP (fun H hP hS => ?_)
  have hP : va_P (dC, dI) vwCl [(h0, .inr (10, fs))] H := hP
  have hD : va_D A [(h0, .inr (10, fs))] := hD
  refine lv_aload_n hx hb dX11_text_0 rfl (lv_at hl 0 rfl) ?_
  refine lv_iconst (v := 0) hx hb dX11_text_1 (by decide) ?_
  refine va_put (D := (dC, dI)) (ci := 10) (v := .int 0) (ty := .int) (C := RX11) (T := TX11) (N := 68) hx hb hts iwwsX11_text_11 tyX11 tyX11_ok nmX11 hown hK hP hD hS 0 rfl rfl 0 (by decide) (hts (.fieldLink RX11 121 "NothingJudgeModel" "thrown" "I") fwwsX11_text_121) (fun _ h9 => h9) rfl (by decide +kernel) rfl rfl (by rw [gl_fs]; decide) dX11_text_2 (fun H locs hP hD hS => ?_)
  obtain ⟨fs_583, efs_583⟩ : ∃ z : List Value, z = fs.set 0 (.int 0) := ⟨_, rfl⟩
  have glfs_583 : fs_583.length = 68 := fs_len efs_583 gl_fs
  have hP : va_P (dC, dI) vwCl [(h0, .inr (10, fs_583))] H := by rw [efs_583]; exact hP
  have hD : va_D A [(h0, .inr (10, fs_583))] := by rw [efs_583]; exact hD
  refine lv_iload_n hx hb dX11_text_5 rfl (lv_at hl 1 rfl) ?_
  refine lv_if_lt (tgt := 17) hx hb dX11_text_6 (by decide) (fun c_584 => ?_) (fun c_584 => ?_)
  · refine lv_bipush (v := (-2)) hx hb dX11_text_17 (by decide) ?_
    subst efs_583
    have hP9 := hP.sub (ws' := []) [] rfl
    have hD9 := hD.sub (ws' := []) [] (by decide) rfl
    exact W.iret (v := (-2)) hx hb hr (fun t ht hW => ⟨⟨(-2), (), rfl, rfl, by rw [ht]; exact hP9, hD9⟩, hS.F ht⟩) hS.2.2 dX11_text_19
  · refine lv_iload_n hx hb dX11_text_9 rfl (lv_at hl 1 rfl) ?_
    refine lv_aload_n hx hb dX11_text_10 rfl (lv_at hl 0 rfl) ?_
    refine va_get (D := (dC, dI)) (ci := 10) (v := .int 0) (C := RX11) (T := TX11) (N := 68) hx hb hts iwwsX11_text_11 hown hK hP 0 rfl rfl 2 (by decide) (hts (.fieldLink RX11 124 "NothingJudgeModel" "taped" "I") fwwsX11_text_124) (fun _ h9 => h9) (fs_ne efs_583 (by decide) g_fs_2) dX11_text_11 ?_
    refine lv_icmp_le (tgt := 20) hx hb dX11_text_14 (by decide) (fun c9 => absurd c9 (Int32.not_le.mpr (hn9.resolve_left c_584))) (fun _ => ?_)
    refine lv_bipush (v := (-2)) hx hb dX11_text_17 (by decide) ?_
    subst efs_583
    have hP9 := hP.sub (ws' := []) [] rfl
    have hD9 := hD.sub (ws' := []) [] (by decide) rfl
    exact W.iret (v := (-2)) hx hb hr (fun t ht hW => ⟨⟨(-2), (), rfl, rfl, by rw [ht]; exact hP9, hD9⟩, hS.F ht⟩) hS.2.2 dX11_text_19
