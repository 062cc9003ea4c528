set_option maxHeartbeats 4000000 in
set_option maxRecDepth 100000 in
theorem lw_run {p : Program} {l : Launch} {e : Env} {s : State} {m : MethodId} {below : List Frame} {meth : Method} {c : Code} {dC : Nat → ClassId} {dI : Nat → Nat → Nat} {cI cB cL cZ : ClassId} {b : Nat} {xs : Nat → Int32} (hx : p.tables.exec = Jvm.exec) (hb : c.code = cL_law) (hr : meth.sig.returnType = ret) (hml : c.maxLocals = 4) (hown : s.vm.findClass RL = some m.cls) (hts : ∀ w ∈ lw_tbl, w.before #[Value.ref b] s = true) (hX : va_X b 6 xs s s.heap) (hbl : b < s.heap.size) (hlocks : meth.locks = false) (hK : va_K (dC, dI) vwCl (kTy cI cB cL cZ) s) (hN : nN s) {q_664 : Nat} {q_665 : Nat} {q_666 : Nat} {q_667 : Nat} {q_668 : Nat} {q_669 : Nat} {q_670 : Nat} {q_671 : Nat} {q_672 : Nat} {q_673 : Nat} {q_674 : Nat} {q_688 : Nat} {q_689 : Nat} {q_690 : Nat} {q_691 : Nat} {q_692 : Nat} {q_693 : Nat} {q_694 : Nat} {q_695 : Nat} {q_696 : Nat} {q_697 : Nat} {q_698 : Nat} {q_714 : Nat} {fs_715 : List Value} {w1 : Int32} (ew1 : w1 = xs 1) {w2 : Int32} (ew2 : w2 = xs 2) {w3 : Int32} (ew3 : w3 = xs 3) {w4 : Int32} (ew4 : w4 = xs 4) {w5 : Int32} (ew5 : w5 = xs 5) {H : Heap} {locs : List Loc} (hP : va_P (dC, dI) vwCl [(q_664, .inr (9, [.ref q_665, .int 0, .ref q_666, .ref q_667, .ref q_668, .int 0, .int (-1), .ref q_669, .ref q_670, .ref q_671, .ref q_672, .ref q_673, .ref q_674])), (q_669, .inr (6, [.ref q_688, .int (-1), .ref q_689])), (q_688, .inr (3, [.ref q_690, .ref q_691, .ref q_692, .ref q_693, .ref q_694, .ref q_695, .ref q_696, .ref q_697, .ref q_698, .int 0, .int 0, .int 0, .int 0, .int (-1)])), (q_714, .inr (10, fs_715))] H) (hD : va_D (fun q : Nat => s.heap.size ≤ q) [(q_664, .inr (9, [.ref q_665, .int 0, .ref q_666, .ref q_667, .ref q_668, .int 0, .int (-1), .ref q_669, .ref q_670, .ref q_671, .ref q_672, .ref q_673, .ref q_674])), (q_669, .inr (6, [.ref q_688, .int (-1), .ref q_689])), (q_688, .inr (3, [.ref q_690, .ref q_691, .ref q_692, .ref q_693, .ref q_694, .ref q_695, .ref q_696, .ref q_697, .ref q_698, .int 0, .int 0, .int 0, .int 0, .int (-1)])), (q_714, .inr (10, fs_715))]) (hS : va_S (fun q : Nat => s.heap.size ≤ q) s.heap H locs) {ls : Array Slot} (hl : lv_has ls 4 [(3, .int 0), (2, .ref q_714), (1, .ref q_664), (0, .ref b)]) (hf_735 : fs_715.length = 68) (hf_757 : fs_715[39]? = some (.int (-1))) : W p l e room_1 s m #[Value.ref b] below meth c H locs 84 30598 (lw_Z below #[Value.ref b] s) (F0 m 382 ls []) := by
  have hA : ∀ q : Nat, s.heap.size ≤ q → (fun q : Nat => s.heap.size ≤ q) q := fun _ h => h
  have hbA : ¬ (fun q : Nat => s.heap.size ≤ q) b := Nat.not_le.mpr hbl
  refine lv_aload_n hx hb dL_law_382 rfl (lv_at hl 2 rfl) ?_
  refine lv_aload_n hx hb dL_law_383 rfl (lv_at hl 3 rfl) ?_
  refine lv_iload_n hx hb dL_law_384 rfl (lv_at hl 0 rfl) ?_
  refine lv_iconst (v := 1) hx hb dL_law_385 (by decide) ?_
  refine lv_iadd hx hb dL_law_386 ?_
  refine lv_topi (fun y_902 ey_902 => ?_)
  obtain rfl : y_902 = 1 := ey_902.trans (by decide)
  refine va_sld hx hb hX hbl hbA hS (by unfold vp_in; decide) dL_law_387 ?_
  refine lv_topi (fun y_903 ey_903 => ?_)
  obtain rfl : w1 = y_903 := (ey_903.trans ((congrArg xs (by decide : (1 : Int32).toNatClampNeg = 1)).trans ew1.symm)).symm
  refine lv_aload_n hx hb dL_law_388 rfl (lv_at hl 3 rfl) ?_
  refine lv_iload_n hx hb dL_law_389 rfl (lv_at hl 0 rfl) ?_
  refine lv_iconst (v := 2) hx hb dL_law_390 (by decide) ?_
  refine lv_iadd hx hb dL_law_391 ?_
  refine lv_topi (fun y_904 ey_904 => ?_)
  obtain rfl : y_904 = 2 := ey_904.trans (by decide)
  refine va_sld hx hb hX hbl hbA hS (by unfold vp_in; decide) dL_law_392 ?_
  refine lv_topi (fun y_905 ey_905 => ?_)
  obtain rfl : w2 = y_905 := (ey_905.trans ((congrArg xs (by decide : (2 : Int32).toNatClampNeg = 2)).trans ew2.symm)).symm
  have hPc := hP.sub (ws' := [(q_664, .inr (9, [.ref q_665, .int 0, .ref q_666, .ref q_667, .ref q_668, .int 0, .int (-1), .ref q_669, .ref q_670, .ref q_671, .ref q_672, .ref q_673, .ref q_674])), (q_669, .inr (6, [.ref q_688, .int (-1), .ref q_689])), (q_688, .inr (3, [.ref q_690, .ref q_691, .ref q_692, .ref q_693, .ref q_694, .ref q_695, .ref q_696, .ref q_697, .ref q_698, .int 0, .int 0, .int 0, .int 0, .int (-1)]))]) [0, 1, 2] rfl
  have hDc := hD.sub (ws' := [(q_664, .inr (9, [.ref q_665, .int 0, .ref q_666, .ref q_667, .ref q_668, .int 0, .int (-1), .ref q_669, .ref q_670, .ref q_671, .ref q_672, .ref q_673, .ref q_674])), (q_669, .inr (6, [.ref q_688, .int (-1), .ref q_689])), (q_688, .inr (3, [.ref q_690, .ref q_691, .ref q_692, .ref q_693, .ref q_694, .ref q_695, .ref q_696, .ref q_697, .ref q_698, .int 0, .int 0, .int 0, .int 0, .int (-1)]))]) [0, 1, 2] (by decide) rfl
  have hFc := va_free (wc := [(q_664, .inr (9, [.ref q_665, .int 0, .ref q_666, .ref q_667, .ref q_668, .int 0, .int (-1), .ref q_669, .ref q_670, .ref q_671, .ref q_672, .ref q_673, .ref q_674])), (q_669, .inr (6, [.ref q_688, .int (-1), .ref q_689])), (q_688, .inr (3, [.ref q_690, .ref q_691, .ref q_692, .ref q_693, .ref q_694, .ref q_695, .ref q_696, .ref q_697, .ref q_698, .int 0, .int 0, .int 0, .int 0, .int (-1)]))]) hD hS hA [0, 1, 2] rfl
  refine va_calli (va_runV (As := [.int w1, .int w2]) (rest := []) ⟨hx, hb, hml, hown, hts⟩ (c_run l dC dI cI cB cL cZ (q_664) (q_665) (q_666) (q_667) (q_668) (q_669) (q_670) (q_671) (q_672) (q_673) (q_674) (q_688) (q_689) (q_690) (q_691) (q_692) (q_693) (q_694) (q_695) (q_696) (q_697) (q_698) (w1) (w2) H.size) (cwV 2 hts gW_X10_run rfl rfl rfl (by decide +kernel) ⟨Nat.le_of_ble_eq_true rfl, Nat.le_of_ble_eq_true rfl⟩) ⟨cP_fb, va_recv hK hPc (ci := 9) (q0 := 0) rfl rfl, fun U hU hW => cP_pre hPc hK hDc hN U hU hW⟩ rfl rfl hl.1 rfl (lv_room (Nat.le_of_ble_eq_true rfl)) dL_law_393 ⟨Nat.le_of_ble_eq_true rfl, Nat.le_of_ble_eq_true rfl⟩) hS (fun q _ h => hFc q h) hFc (fun r_906 u t H1 locs ht hvm hw hB hz1 hk1 hS => ?_)
  obtain ⟨hP1, hD1⟩ := hB
  rw [ht] at hP1
  obtain ⟨hP, hD⟩ := va_join (wr := [(q_714, .inr (10, fs_715))]) (w1 := []) hP hD [0, 1, 2] [3] rfl rfl (by decide) (by decide) hk1 hFc hP1 hD1
  generalize H1 = H at hP hS ⊢
  have hP : va_P (dC, dI) vwCl [(q_714, .inr (10, fs_715))] H := hP
  have hD : va_D (fun q : Nat => s.heap.size ≤ q) [(q_714, .inr (10, fs_715))] := hD
  obtain rfl : r_906 = (-1) := hw
  refine lv_aload_n hx hb dL_law_396 rfl (lv_at hl 1 rfl) ?_
  refine lv_aload_n hx hb dL_law_397 rfl (lv_at hl 3 rfl) ?_
  refine lv_iload_n hx hb dL_law_398 rfl (lv_at hl 0 rfl) ?_
  refine lv_iconst (v := 1) hx hb dL_law_399 (by decide) ?_
  refine lv_iadd hx hb dL_law_400 ?_
  refine lv_topi (fun y_907 ey_907 => ?_)
  obtain rfl : y_907 = 1 := ey_907.trans (by decide)
  refine va_sld hx hb hX hbl hbA hS (by unfold vp_in; decide) dL_law_401 ?_
  refine lv_topi (fun y_908 ey_908 => ?_)
  obtain rfl : w1 = y_908 := (ey_908.trans ((congrArg xs (by decide : (1 : Int32).toNatClampNeg = 1)).trans ew1.symm)).symm
  refine lv_aload_n hx hb dL_law_402 rfl (lv_at hl 3 rfl) ?_
  refine lv_iload_n hx hb dL_law_403 rfl (lv_at hl 0 rfl) ?_
  refine lv_iconst (v := 2) hx hb dL_law_404 (by decide) ?_
  refine lv_iadd hx hb dL_law_405 ?_
  refine lv_topi (fun y_909 ey_909 => ?_)
  obtain rfl : y_909 = 2 := ey_909.trans (by decide)
  refine va_sld hx hb hX hbl hbA hS (by unfold vp_in; decide) dL_law_406 ?_
  refine lv_topi (fun y_910 ey_910 => ?_)
  obtain rfl : w2 = y_910 := (ey_910.trans ((congrArg xs (by decide : (2 : Int32).toNatClampNeg = 2)).trans ew2.symm)).symm
  have hPc := hP.sub (ws' := [(q_714, .inr (10, fs_715))]) [0] rfl
  have hDc := hD.sub (ws' := [(q_714, .inr (10, fs_715))]) [0] (by decide) rfl
  have hFc := va_free (wc := [(q_714, .inr (10, fs_715))]) hD hS hA [0] rfl
  refine va_calli (va_runV (As := [.int w1, .int w2]) (rest := [.int (-1)]) ⟨hx, hb, hml, hown, hts⟩ (m_run l dC dI cI cB cL cZ (q_714) (w1) (w2) (fs_715) H.size hf_735 hf_757) (cwV 2 hts gW_X11_run rfl rfl rfl (by decide +kernel) ⟨Nat.le_of_ble_eq_true rfl, Nat.le_of_ble_eq_true rfl⟩) ⟨cP_fb, va_recv hK hPc (ci := 10) (q0 := 0) rfl rfl, fun U hU hW => cP_pre hPc hK hDc hN U hU hW⟩ rfl rfl hl.1 rfl (lv_room (Nat.le_of_ble_eq_true rfl)) dL_law_407 ⟨Nat.le_of_ble_eq_true rfl, Nat.le_of_ble_eq_true rfl⟩) hS (fun q _ h => hFc q h) hFc (fun r_911 u t H1 locs ht hvm hw hB hz1 hk1 hS => ?_)
  obtain ⟨hP1, hD1⟩ := hB
  rw [ht] at hP1
  obtain ⟨hP, hD⟩ := va_join (wr := []) (w1 := []) hP hD [0] [] rfl rfl (by decide) (by decide) hk1 hFc hP1 hD1
  generalize H1 = H at hP hS ⊢
  have hP : va_P (dC, dI) vwCl [] H := hP
  have hD : va_D (fun q : Nat => s.heap.size ≤ q) [] := hD
  obtain rfl : r_911 = (-1) := hw
  refine lv_icmp_eq (tgt := 553) hx hb dL_law_410 (by decide) (fun _ => ?_) (fun c9 => absurd (by decide) c9)
  refine lv_iinc (v := 6) (lv' := [(3, .int 6), (2, .ref q_714), (1, .ref q_664), (0, .ref b)]) hx hb dL_law_553 hl (k := 0) rfl (by decide) (by decide) rfl (fun ls hl => ?_)
  refine lv_goto (tgt := 18) hx hb dL_law_556 (by decide) ?_
  refine lv_iload_n hx hb dL_law_18 rfl (lv_at hl 0 rfl) ?_
  refine lv_aload_n hx hb dL_law_19 rfl (lv_at hl 3 rfl) ?_
  refine va_slen hx hb hX hbl hbA hS dL_law_20 ?_
  refine lv_topi (fun y_912 ey_912 => ?_)
  obtain rfl : y_912 = 6 := ey_912.trans (by decide)
  refine lv_bipush (v := 6) hx hb dL_law_21 (by decide) ?_
  refine lv_isub hx hb dL_law_23 ?_
  refine lv_topi (fun y_913 ey_913 => ?_)
  obtain rfl : y_913 = 0 := ey_913.trans (by decide)
  refine lv_icmp_gt (tgt := 559) hx hb dL_law_24 (by decide) (fun _ => ?_) (fun c9 => absurd (by decide) c9)
  refine lv_iconst (v := 1) hx hb dL_law_559 (by decide) ?_
  refine va_forget (fun q hq => hS.2.2 q hq) ?_
  exact lw_ret hx hb hr hlocks dL_law_560

set_option maxHeartbeats 4000000 in
set_option maxRecDepth 100000 in
theorem lw_ran {p : Program} {l : Launch} {e : Env} {s : State} {m : MethodId} {below : List Frame} {meth : Method} {c : Code} {dC : Nat → ClassId} {dI : Nat → Nat → Nat} {cI cB cL cZ : ClassId} {b : Nat} {xs : Nat → Int32} (hx : p.tables.exec = Jvm.exec) (hb : c.code = cL_law) (hr : meth.sig.returnType = ret) (hml : c.maxLocals = 4) (hown : s.vm.findClass RL = some m.cls) (hts : ∀ w ∈ lw_tbl, w.before #[Value.ref b] s = true) (hX : va_X b 6 xs s s.heap) (hbl : b < s.heap.size) (hlocks : meth.locks = false) (hK : va_K (dC, dI) vwCl (kTy cI cB cL cZ) s) (hN : nN s) {q_664 : Nat} {q_665 : Nat} {q_666 : Nat} {q_667 : Nat} {q_668 : Nat} {q_669 : Nat} {q_670 : Nat} {q_671 : Nat} {q_672 : Nat} {q_673 : Nat} {q_674 : Nat} {f_711 : Nat → Int32} {q_714 : Nat} {fs_715 : List Value} {w1 : Int32} (ew1 : w1 = xs 1) {w2 : Int32} (ew2 : w2 = xs 2) {w3 : Int32} (ew3 : w3 = xs 3) {w4 : Int32} (ew4 : w4 = xs 4) {w5 : Int32} (ew5 : w5 = xs 5) {H : Heap} {locs : List Loc} (hP : va_P (dC, dI) vwCl [(q_664, .inr (9, [.ref q_665, .int 0, .ref q_666, .ref q_667, .ref q_668, .int 0, .int (-1), .ref q_669, .ref q_670, .ref q_671, .ref q_672, .ref q_673, .ref q_674])), (q_674, .inl (cI, 4, .inl f_711)), (q_714, .inr (10, fs_715))] H) (hD : va_D (fun q : Nat => s.heap.size ≤ q) [(q_664, .inr (9, [.ref q_665, .int 0, .ref q_666, .ref q_667, .ref q_668, .int 0, .int (-1), .ref q_669, .ref q_670, .ref q_671, .ref q_672, .ref q_673, .ref q_674])), (q_674, .inl (cI, 4, .inl f_711)), (q_714, .inr (10, fs_715))]) (hS : va_S (fun q : Nat => s.heap.size ≤ q) s.heap H locs) {ls : Array Slot} (hl : lv_has ls 4 [(3, .int 0), (2, .ref q_714), (1, .ref q_664), (0, .ref b)]) (hf_735 : fs_715.length = 68) (hf_758 : fs_715[56]? = some (.int 0)) (hf_712 : ∀ j, j < 4 → f_711 j = -1) : W p l e room_1 s m #[Value.ref b] below meth c H locs 84 30598 (lw_Z below #[Value.ref b] s) (F0 m 415 ls []) := by
  have hA : ∀ q : Nat, s.heap.size ≤ q → (fun q : Nat => s.heap.size ≤ q) q := fun _ h => h
  have hbA : ¬ (fun q : Nat => s.heap.size ≤ q) b := Nat.not_le.mpr hbl
  refine lv_aload_n hx hb dL_law_415 rfl (lv_at hl 2 rfl) ?_
  refine lv_aload_n hx hb dL_law_416 rfl (lv_at hl 3 rfl) ?_
  refine lv_iload_n hx hb dL_law_417 rfl (lv_at hl 0 rfl) ?_
  refine lv_iconst (v := 1) hx hb dL_law_418 (by decide) ?_
  refine lv_iadd hx hb dL_law_419 ?_
  refine lv_topi (fun y_914 ey_914 => ?_)
  obtain rfl : y_914 = 1 := ey_914.trans (by decide)
  refine va_sld hx hb hX hbl hbA hS (by unfold vp_in; decide) dL_law_420 ?_
  refine lv_topi (fun y_915 ey_915 => ?_)
  obtain rfl : w1 = y_915 := (ey_915.trans ((congrArg xs (by decide : (1 : Int32).toNatClampNeg = 1)).trans ew1.symm)).symm
  have hPc := hP.sub (ws' := [(q_664, .inr (9, [.ref q_665, .int 0, .ref q_666, .ref q_667, .ref q_668, .int 0, .int (-1), .ref q_669, .ref q_670, .ref q_671, .ref q_672, .ref q_673, .ref q_674])), (q_674, .inl (cI, 4, .inl f_711))]) [0, 1] rfl
  have hDc := hD.sub (ws' := [(q_664, .inr (9, [.ref q_665, .int 0, .ref q_666, .ref q_667, .ref q_668, .int 0, .int (-1), .ref q_669, .ref q_670, .ref q_671, .ref q_672, .ref q_673, .ref q_674])), (q_674, .inl (cI, 4, .inl f_711))]) [0, 1] (by decide) rfl
  have hFc := va_free (wc := [(q_664, .inr (9, [.ref q_665, .int 0, .ref q_666, .ref q_667, .ref q_668, .int 0, .int (-1), .ref q_669, .ref q_670, .ref q_671, .ref q_672, .ref q_673, .ref q_674])), (q_674, .inl (cI, 4, .inl f_711))]) hD hS hA [0, 1] rfl
  refine va_calli (va_runV (As := [.int w1]) (rest := []) ⟨hx, hb, hml, hown, hts⟩ (c_ran l dC dI cI cB cL cZ (q_664) (q_665) (q_666) (q_667) (q_668) (q_669) (q_670) (q_671) (q_672) (q_673) (q_674) (w1) (f_711) H.size (hf_712)) (cwV 1 hts gW_X10_ran rfl rfl rfl (by decide +kernel) ⟨Nat.le_of_ble_eq_true rfl, Nat.le_of_ble_eq_true rfl⟩) ⟨cP_fb, va_recv hK hPc (ci := 9) (q0 := 0) rfl rfl, fun U hU hW => cP_pre hPc hK hDc hN U hU hW⟩ rfl rfl hl.1 rfl (lv_room (Nat.le_of_ble_eq_true rfl)) dL_law_421 ⟨Nat.le_of_ble_eq_true rfl, Nat.le_of_ble_eq_true rfl⟩) hS (fun q _ h => hFc q h) hFc (fun r_916 u t H1 locs ht hvm hw hB hz1 hk1 hS => ?_)
  obtain ⟨hP1, hD1⟩ := hB
  rw [ht] at hP1
  obtain ⟨hP, hD⟩ := va_join (wr := [(q_714, .inr (10, fs_715))]) (w1 := []) hP hD [0, 1] [2] rfl rfl (by decide) (by decide) hk1 hFc hP1 hD1
  generalize H1 = H at hP hS ⊢
  have hP : va_P (dC, dI) vwCl [(q_714, .inr (10, fs_715))] H := hP
  have hD : va_D (fun q : Nat => s.heap.size ≤ q) [(q_714, .inr (10, fs_715))] := hD
  obtain rfl : r_916 = (-1) := hw
  refine lv_aload_n hx hb dL_law_424 rfl (lv_at hl 1 rfl) ?_
  refine lv_aload_n hx hb dL_law_425 rfl (lv_at hl 3 rfl) ?_
  refine lv_iload_n hx hb dL_law_426 rfl (lv_at hl 0 rfl) ?_
  refine lv_iconst (v := 1) hx hb dL_law_427 (by decide) ?_
  refine lv_iadd hx hb dL_law_428 ?_
  refine lv_topi (fun y_917 ey_917 => ?_)
  obtain rfl : y_917 = 1 := ey_917.trans (by decide)
  refine va_sld hx hb hX hbl hbA hS (by unfold vp_in; decide) dL_law_429 ?_
  refine lv_topi (fun y_918 ey_918 => ?_)
  obtain rfl : w1 = y_918 := (ey_918.trans ((congrArg xs (by decide : (1 : Int32).toNatClampNeg = 1)).trans ew1.symm)).symm
  have hPc := hP.sub (ws' := [(q_714, .inr (10, fs_715))]) [0] rfl
  have hDc := hD.sub (ws' := [(q_714, .inr (10, fs_715))]) [0] (by decide) rfl
  have hFc := va_free (wc := [(q_714, .inr (10, fs_715))]) hD hS hA [0] rfl
  refine va_calli (va_runV (As := [.int w1]) (rest := [.int (-1)]) ⟨hx, hb, hml, hown, hts⟩ (m_ran l dC dI cI cB cL cZ (q_714) (w1) (fs_715) H.size hf_735 hf_758) (cwV 1 hts gW_X11_ran rfl rfl rfl (by decide +kernel) ⟨Nat.le_of_ble_eq_true rfl, Nat.le_of_ble_eq_true rfl⟩) ⟨cP_fb, va_recv hK hPc (ci := 10) (q0 := 0) rfl rfl, fun U hU hW => cP_pre hPc hK hDc hN U hU hW⟩ rfl rfl hl.1 rfl (lv_room (Nat.le_of_ble_eq_true rfl)) dL_law_430 ⟨Nat.le_of_ble_eq_true rfl, Nat.le_of_ble_eq_true rfl⟩) hS (fun q _ h => hFc q h) hFc (fun r_919 u t H1 locs ht hvm hw hB hz1 hk1 hS => ?_)
  obtain ⟨hP1, hD1⟩ := hB
  rw [ht] at hP1
  obtain ⟨hP, hD⟩ := va_join (wr := []) (w1 := []) hP hD [0] [] rfl rfl (by decide) (by decide) hk1 hFc hP1 hD1
  generalize H1 = H at hP hS ⊢
  have hP : va_P (dC, dI) vwCl [] H := hP
  have hD : va_D (fun q : Nat => s.heap.size ≤ q) [] := hD
  obtain rfl : r_919 = (-1) := hw
  refine lv_icmp_eq (tgt := 553) hx hb dL_law_433 (by decide) (fun _ => ?_) (fun c9 => absurd (by decide) c9)
  refine lv_iinc (v := 6) (lv' := [(3, .int 6), (2, .ref q_714), (1, .ref q_664), (0, .ref b)]) hx hb dL_law_553 hl (k := 0) rfl (by decide) (by decide) rfl (fun ls hl => ?_)
  refine lv_goto (tgt := 18) hx hb dL_law_556 (by decide) ?_
  refine lv_iload_n hx hb dL_law_18 rfl (lv_at hl 0 rfl) ?_
  refine lv_aload_n hx hb dL_law_19 rfl (lv_at hl 3 rfl) ?_
  refine va_slen hx hb hX hbl hbA hS dL_law_20 ?_
  refine lv_topi (fun y_920 ey_920 => ?_)
  obtain rfl : y_920 = 6 := ey_920.trans (by decide)
  refine lv_bipush (v := 6) hx hb dL_law_21 (by decide) ?_
  refine lv_isub hx hb dL_law_23 ?_
  refine lv_topi (fun y_921 ey_921 => ?_)
  obtain rfl : y_921 = 0 := ey_921.trans (by decide)
  refine lv_icmp_gt (tgt := 559) hx hb dL_law_24 (by decide) (fun _ => ?_) (fun c9 => absurd (by decide) c9)
  refine lv_iconst (v := 1) hx hb dL_law_559 (by decide) ?_
  refine va_forget (fun q hq => hS.2.2 q hq) ?_
  exact lw_ret hx hb hr hlocks dL_law_560

set_option maxHeartbeats 4000000 in
set_option maxRecDepth 100000 in
theorem lw_tries {p : Program} {l : Launch} {e : Env} {s : State} {m : MethodId} {below : List Frame} {meth : Method} {c : Code} {dC : Nat → ClassId} {dI : Nat → Nat → Nat} {cI cB cL cZ : ClassId} {b : Nat} {xs : Nat → Int32} (hx : p.tables.exec = Jvm.exec) (hb : c.code = cL_law) (hr : meth.sig.returnType = ret) (hml : c.maxLocals = 4) (hown : s.vm.findClass RL = some m.cls) (hts : ∀ w ∈ lw_tbl, w.before #[Value.ref b] s = true) (hX : va_X b 6 xs s s.heap) (hbl : b < s.heap.size) (hlocks : meth.locks = false) (hK : va_K (dC, dI) vwCl (kTy cI cB cL cZ) s) (hN : nN s) {q_664 : Nat} {q_665 : Nat} {q_666 : Nat} {q_667 : Nat} {q_668 : Nat} {q_669 : Nat} {q_670 : Nat} {q_671 : Nat} {q_672 : Nat} {q_673 : Nat} {q_674 : Nat} {q_688 : Nat} {q_689 : Nat} {q_690 : Nat} {q_691 : Nat} {q_692 : Nat} {q_693 : Nat} {q_694 : Nat} {q_695 : Nat} {q_696 : Nat} {q_697 : Nat} {q_698 : Nat} {q_714 : Nat} {fs_715 : List Value} {q_725 : Nat} {w1 : Int32} (ew1 : w1 = xs 1) {w2 : Int32} (ew2 : w2 = xs 2) {w3 : Int32} (ew3 : w3 = xs 3) {w4 : Int32} (ew4 : w4 = xs 4) {w5 : Int32} (ew5 : w5 = xs 5) {H : Heap} {locs : List Loc} (hP : va_P (dC, dI) vwCl [(q_664, .inr (9, [.ref q_665, .int 0, .ref q_666, .ref q_667, .ref q_668, .int 0, .int (-1), .ref q_669, .ref q_670, .ref q_671, .ref q_672, .ref q_673, .ref q_674])), (q_669, .inr (6, [.ref q_688, .int (-1), .ref q_689])), (q_688, .inr (3, [.ref q_690, .ref q_691, .ref q_692, .ref q_693, .ref q_694, .ref q_695, .ref q_696, .ref q_697, .ref q_698, .int 0, .int 0, .int 0, .int 0, .int (-1)])), (q_714, .inr (10, fs_715)), (q_725, .inl (cI, 2, .inl (fun _ => 0)))] H) (hD : va_D (fun q : Nat => s.heap.size ≤ q) [(q_664, .inr (9, [.ref q_665, .int 0, .ref q_666, .ref q_667, .ref q_668, .int 0, .int (-1), .ref q_669, .ref q_670, .ref q_671, .ref q_672, .ref q_673, .ref q_674])), (q_669, .inr (6, [.ref q_688, .int (-1), .ref q_689])), (q_688, .inr (3, [.ref q_690, .ref q_691, .ref q_692, .ref q_693, .ref q_694, .ref q_695, .ref q_696, .ref q_697, .ref q_698, .int 0, .int 0, .int 0, .int 0, .int (-1)])), (q_714, .inr (10, fs_715)), (q_725, .inl (cI, 2, .inl (fun _ => 0)))]) (hS : va_S (fun q : Nat => s.heap.size ≤ q) s.heap H locs) {ls : Array Slot} (hl : lv_has ls 4 [(3, .int 0), (2, .ref q_714), (1, .ref q_664), (0, .ref b)]) (hf_735 : fs_715.length = 68) (hf_744 : fs_715[26]? = some (.ref q_725)) : W p l e room_1 s m #[Value.ref b] below meth c H locs 84 30598 (lw_Z below #[Value.ref b] s) (F0 m 438 ls []) := by
  have hA : ∀ q : Nat, s.heap.size ≤ q → (fun q : Nat => s.heap.size ≤ q) q := fun _ h => h
  have hbA : ¬ (fun q : Nat => s.heap.size ≤ q) b := Nat.not_le.mpr hbl
  refine lv_aload_n hx hb dL_law_438 rfl (lv_at hl 2 rfl) ?_
  refine lv_aload_n hx hb dL_law_439 rfl (lv_at hl 3 rfl) ?_
  refine lv_iload_n hx hb dL_law_440 rfl (lv_at hl 0 rfl) ?_
  refine lv_iconst (v := 1) hx hb dL_law_441 (by decide) ?_
  refine lv_iadd hx hb dL_law_442 ?_
  refine lv_topi (fun y_922 ey_922 => ?_)
  obtain rfl : y_922 = 1 := ey_922.trans (by decide)
  refine va_sld hx hb hX hbl hbA hS (by unfold vp_in; decide) dL_law_443 ?_
  refine lv_topi (fun y_923 ey_923 => ?_)
  obtain rfl : w1 = y_923 := (ey_923.trans ((congrArg xs (by decide : (1 : Int32).toNatClampNeg = 1)).trans ew1.symm)).symm
  have hPc := hP.sub (ws' := [(q_664, .inr (9, [.ref q_665, .int 0, .ref q_666, .ref q_667, .ref q_668, .int 0, .int (-1), .ref q_669, .ref q_670, .ref q_671, .ref q_672, .ref q_673, .ref q_674])), (q_669, .inr (6, [.ref q_688, .int (-1), .ref q_689])), (q_688, .inr (3, [.ref q_690, .ref q_691, .ref q_692, .ref q_693, .ref q_694, .ref q_695, .ref q_696, .ref q_697, .ref q_698, .int 0, .int 0, .int 0, .int 0, .int (-1)]))]) [0, 1, 2] rfl
  have hDc := hD.sub (ws' := [(q_664, .inr (9, [.ref q_665, .int 0, .ref q_666, .ref q_667, .ref q_668, .int 0, .int (-1), .ref q_669, .ref q_670, .ref q_671, .ref q_672, .ref q_673, .ref q_674])), (q_669, .inr (6, [.ref q_688, .int (-1), .ref q_689])), (q_688, .inr (3, [.ref q_690, .ref q_691, .ref q_692, .ref q_693, .ref q_694, .ref q_695, .ref q_696, .ref q_697, .ref q_698, .int 0, .int 0, .int 0, .int 0, .int (-1)]))]) [0, 1, 2] (by decide) rfl
  have hFc := va_free (wc := [(q_664, .inr (9, [.ref q_665, .int 0, .ref q_666, .ref q_667, .ref q_668, .int 0, .int (-1), .ref q_669, .ref q_670, .ref q_671, .ref q_672, .ref q_673, .ref q_674])), (q_669, .inr (6, [.ref q_688, .int (-1), .ref q_689])), (q_688, .inr (3, [.ref q_690, .ref q_691, .ref q_692, .ref q_693, .ref q_694, .ref q_695, .ref q_696, .ref q_697, .ref q_698, .int 0, .int 0, .int 0, .int 0, .int (-1)]))]) hD hS hA [0, 1, 2] rfl
  refine va_calli (va_runV (As := [.int w1]) (rest := []) ⟨hx, hb, hml, hown, hts⟩ (c_tries l dC dI cI cB cL cZ (q_664) (q_665) (q_666) (q_667) (q_668) (q_669) (q_670) (q_671) (q_672) (q_673) (q_674) (q_688) (q_689) (q_690) (q_691) (q_692) (q_693) (q_694) (q_695) (q_696) (q_697) (q_698) (w1) H.size) (cwV 1 hts gW_X10_tries rfl rfl rfl (by decide +kernel) ⟨Nat.le_of_ble_eq_true rfl, Nat.le_of_ble_eq_true rfl⟩) ⟨cP_fb, va_recv hK hPc (ci := 9) (q0 := 0) rfl rfl, fun U hU hW => cP_pre hPc hK hDc hN U hU hW⟩ rfl rfl hl.1 rfl (lv_room (Nat.le_of_ble_eq_true rfl)) dL_law_444 ⟨Nat.le_of_ble_eq_true rfl, Nat.le_of_ble_eq_true rfl⟩) hS (fun q _ h => hFc q h) hFc (fun r_924 u t H1 locs ht hvm hw hB hz1 hk1 hS => ?_)
  obtain ⟨hP1, hD1⟩ := hB
  rw [ht] at hP1
  obtain ⟨hP, hD⟩ := va_join (wr := [(q_714, .inr (10, fs_715)), (q_725, .inl (cI, 2, .inl (fun _ => 0)))]) (w1 := []) hP hD [0, 1, 2] [3, 4] rfl rfl (by decide) (by decide) hk1 hFc hP1 hD1
  generalize H1 = H at hP hS ⊢
  have hP : va_P (dC, dI) vwCl [(q_714, .inr (10, fs_715)), (q_725, .inl (cI, 2, .inl (fun _ => 0)))] H := hP
  have hD : va_D (fun q : Nat => s.heap.size ≤ q) [(q_714, .inr (10, fs_715)), (q_725, .inl (cI, 2, .inl (fun _ => 0)))] := hD
  obtain rfl : r_924 = (-1) := hw
  refine lv_aload_n hx hb dL_law_447 rfl (lv_at hl 1 rfl) ?_
  refine lv_aload_n hx hb dL_law_448 rfl (lv_at hl 3 rfl) ?_
  refine lv_iload_n hx hb dL_law_449 rfl (lv_at hl 0 rfl) ?_
  refine lv_iconst (v := 1) hx hb dL_law_450 (by decide) ?_
  refine lv_iadd hx hb dL_law_451 ?_
  refine lv_topi (fun y_925 ey_925 => ?_)
  obtain rfl : y_925 = 1 := ey_925.trans (by decide)
  refine va_sld hx hb hX hbl hbA hS (by unfold vp_in; decide) dL_law_452 ?_
  refine lv_topi (fun y_926 ey_926 => ?_)
  obtain rfl : w1 = y_926 := (ey_926.trans ((congrArg xs (by decide : (1 : Int32).toNatClampNeg = 1)).trans ew1.symm)).symm
  have hPc := hP.sub (ws' := [(q_714, .inr (10, fs_715)), (q_725, .inl (cI, 2, .inl (fun _ => 0)))]) [0, 1] rfl
  have hDc := hD.sub (ws' := [(q_714, .inr (10, fs_715)), (q_725, .inl (cI, 2, .inl (fun _ => 0)))]) [0, 1] (by decide) rfl
  have hFc := va_free (wc := [(q_714, .inr (10, fs_715)), (q_725, .inl (cI, 2, .inl (fun _ => 0)))]) hD hS hA [0, 1] rfl
  refine va_calli (va_runV (As := [.int w1]) (rest := [.int (-1)]) ⟨hx, hb, hml, hown, hts⟩ (m_tries l dC dI cI cB cL cZ (q_714) (q_725) (w1) (fs_715) ((fun _ => 0)) H.size hf_735 hf_744 (rfl)) (cwV 1 hts gW_X11_tries rfl rfl rfl (by decide +kernel) ⟨Nat.le_of_ble_eq_true rfl, Nat.le_of_ble_eq_true rfl⟩) ⟨cP_fb, va_recv hK hPc (ci := 10) (q0 := 0) rfl rfl, fun U hU hW => cP_pre hPc hK hDc hN U hU hW⟩ rfl rfl hl.1 rfl (lv_room (Nat.le_of_ble_eq_true rfl)) dL_law_453 ⟨Nat.le_of_ble_eq_true rfl, Nat.le_of_ble_eq_true rfl⟩) hS (fun q _ h => hFc q h) hFc (fun r_927 u t H1 locs ht hvm hw hB hz1 hk1 hS => ?_)
  obtain ⟨hP1, hD1⟩ := hB
  rw [ht] at hP1
  obtain ⟨hP, hD⟩ := va_join (wr := []) (w1 := []) hP hD [0, 1] [] rfl rfl (by decide) (by decide) hk1 hFc hP1 hD1
  generalize H1 = H at hP hS ⊢
  have hP : va_P (dC, dI) vwCl [] H := hP
  have hD : va_D (fun q : Nat => s.heap.size ≤ q) [] := hD
  obtain rfl : r_927 = (-1) := hw
  refine lv_icmp_eq (tgt := 553) hx hb dL_law_456 (by decide) (fun _ => ?_) (fun c9 => absurd (by decide) c9)
  refine lv_iinc (v := 6) (lv' := [(3, .int 6), (2, .ref q_714), (1, .ref q_664), (0, .ref b)]) hx hb dL_law_553 hl (k := 0) rfl (by decide) (by decide) rfl (fun ls hl => ?_)
  refine lv_goto (tgt := 18) hx hb dL_law_556 (by decide) ?_
  refine lv_iload_n hx hb dL_law_18 rfl (lv_at hl 0 rfl) ?_
  refine lv_aload_n hx hb dL_law_19 rfl (lv_at hl 3 rfl) ?_
  refine va_slen hx hb hX hbl hbA hS dL_law_20 ?_
  refine lv_topi (fun y_928 ey_928 => ?_)
  obtain rfl : y_928 = 6 := ey_928.trans (by decide)
  refine lv_bipush (v := 6) hx hb dL_law_21 (by decide) ?_
  refine lv_isub hx hb dL_law_23 ?_
  refine lv_topi (fun y_929 ey_929 => ?_)
  obtain rfl : y_929 = 0 := ey_929.trans (by decide)
  refine lv_icmp_gt (tgt := 559) hx hb dL_law_24 (by decide) (fun _ => ?_) (fun c9 => absurd (by decide) c9)
  refine lv_iconst (v := 1) hx hb dL_law_559 (by decide) ?_
  refine va_forget (fun q hq => hS.2.2 q hq) ?_
  exact lw_ret hx hb hr hlocks dL_law_560

set_option maxHeartbeats 4000000 in
set_option maxRecDepth 100000 in
theorem lw_priceY {p : Program} {l : Launch} {e : Env} {s : State} {m : MethodId} {below : List Frame} {meth : Method} {c : Code} {dC : Nat → ClassId} {dI : Nat → Nat → Nat} {cI cB cL cZ : ClassId} {b : Nat} {xs : Nat → Int32} (hx : p.tables.exec = Jvm.exec) (hb : c.code = cL_law) (hr : meth.sig.returnType = ret) (hml : c.maxLocals = 4) (hown : s.vm.findClass RL = some m.cls) (hts : ∀ w ∈ lw_tbl, w.before #[Value.ref b] s = true) (hX : va_X b 6 xs s s.heap) (hbl : b < s.heap.size) (hlocks : meth.locks = false) (hK : va_K (dC, dI) vwCl (kTy cI cB cL cZ) s) (hN : nN s) {q_664 : Nat} {q_665 : Nat} {q_666 : Nat} {q_667 : Nat} {q_668 : Nat} {q_669 : Nat} {q_670 : Nat} {q_671 : Nat} {q_672 : Nat} {q_673 : Nat} {q_674 : Nat} {q_707 : Nat} {q_708 : Nat} {q_709 : Nat} {f_710 : Nat → Int32} {q_714 : Nat} {fs_715 : List Value} {q_733 : Nat} {f_734 : Nat → Int32} {w1 : Int32} (ew1 : w1 = xs 1) {w2 : Int32} (ew2 : w2 = xs 2) {w3 : Int32} (ew3 : w3 = xs 3) {w4 : Int32} (ew4 : w4 = xs 4) {w5 : Int32} (ew5 : w5 = xs 5) {H : Heap} {locs : List Loc} (hP : va_P (dC, dI) vwCl [(q_664, .inr (9, [.ref q_665, .int 0, .ref q_666, .ref q_667, .ref q_668, .int 0, .int (-1), .ref q_669, .ref q_670, .ref q_671, .ref q_672, .ref q_673, .ref q_674])), (q_673, .inr (2, [.ref q_670, .ref q_707, .ref q_708, .ref q_709, .int 1, .int 0, .int 0, .int (-1), .int 0, .int 0])), (q_707, .inl (cI, 4, .inl f_710)), (q_714, .inr (10, fs_715)), (q_733, .inl (cI, 4, .inl f_734))] H) (hD : va_D (fun q : Nat => s.heap.size ≤ q) [(q_664, .inr (9, [.ref q_665, .int 0, .ref q_666, .ref q_667, .ref q_668, .int 0, .int (-1), .ref q_669, .ref q_670, .ref q_671, .ref q_672, .ref q_673, .ref q_674])), (q_673, .inr (2, [.ref q_670, .ref q_707, .ref q_708, .ref q_709, .int 1, .int 0, .int 0, .int (-1), .int 0, .int 0])), (q_707, .inl (cI, 4, .inl f_710)), (q_714, .inr (10, fs_715)), (q_733, .inl (cI, 4, .inl f_734))]) (hS : va_S (fun q : Nat => s.heap.size ≤ q) s.heap H locs) {ls : Array Slot} (hl : lv_has ls 4 [(3, .int 0), (2, .ref q_714), (1, .ref q_664), (0, .ref b)]) (hf_735 : fs_715.length = 68) (hf_752 : fs_715[61]? = some (.ref q_733)) (h1 : ¬ w1 < 0) (h2 : ¬ 3 < w1) (h3 : ¬ w2 < 1) (h4 : w2 ≤ 99) : W p l e room_1 s m #[Value.ref b] below meth c H locs 84 30598 (lw_Z below #[Value.ref b] s) (F0 m 461 ls []) := by
  have hA : ∀ q : Nat, s.heap.size ≤ q → (fun q : Nat => s.heap.size ≤ q) q := fun _ h => h
  have hbA : ¬ (fun q : Nat => s.heap.size ≤ q) b := Nat.not_le.mpr hbl
  refine lv_aload_n hx hb dL_law_461 rfl (lv_at hl 2 rfl) ?_
  refine lv_aload_n hx hb dL_law_462 rfl (lv_at hl 3 rfl) ?_
  refine lv_iload_n hx hb dL_law_463 rfl (lv_at hl 0 rfl) ?_
  refine lv_iconst (v := 1) hx hb dL_law_464 (by decide) ?_
  refine lv_iadd hx hb dL_law_465 ?_
  refine lv_topi (fun y_930 ey_930 => ?_)
  obtain rfl : y_930 = 1 := ey_930.trans (by decide)
  refine va_sld hx hb hX hbl hbA hS (by unfold vp_in; decide) dL_law_466 ?_
  refine lv_topi (fun y_931 ey_931 => ?_)
  obtain rfl : w1 = y_931 := (ey_931.trans ((congrArg xs (by decide : (1 : Int32).toNatClampNeg = 1)).trans ew1.symm)).symm
  refine lv_aload_n hx hb dL_law_467 rfl (lv_at hl 3 rfl) ?_
  refine lv_iload_n hx hb dL_law_468 rfl (lv_at hl 0 rfl) ?_
  refine lv_iconst (v := 2) hx hb dL_law_469 (by decide) ?_
  refine lv_iadd hx hb dL_law_470 ?_
  refine lv_topi (fun y_932 ey_932 => ?_)
  obtain rfl : y_932 = 2 := ey_932.trans (by decide)
  refine va_sld hx hb hX hbl hbA hS (by unfold vp_in; decide) dL_law_471 ?_
  refine lv_topi (fun y_933 ey_933 => ?_)
  obtain rfl : w2 = y_933 := (ey_933.trans ((congrArg xs (by decide : (2 : Int32).toNatClampNeg = 2)).trans ew2.symm)).symm
  have hPc := hP.sub (ws' := [(q_664, .inr (9, [.ref q_665, .int 0, .ref q_666, .ref q_667, .ref q_668, .int 0, .int (-1), .ref q_669, .ref q_670, .ref q_671, .ref q_672, .ref q_673, .ref q_674])), (q_673, .inr (2, [.ref q_670, .ref q_707, .ref q_708, .ref q_709, .int 1, .int 0, .int 0, .int (-1), .int 0, .int 0])), (q_707, .inl (cI, 4, .inl f_710))]) [0, 1, 2] rfl
  have hDc := hD.sub (ws' := [(q_664, .inr (9, [.ref q_665, .int 0, .ref q_666, .ref q_667, .ref q_668, .int 0, .int (-1), .ref q_669, .ref q_670, .ref q_671, .ref q_672, .ref q_673, .ref q_674])), (q_673, .inr (2, [.ref q_670, .ref q_707, .ref q_708, .ref q_709, .int 1, .int 0, .int 0, .int (-1), .int 0, .int 0])), (q_707, .inl (cI, 4, .inl f_710))]) [0, 1, 2] (by decide) rfl
  have hFc := va_free (wc := [(q_664, .inr (9, [.ref q_665, .int 0, .ref q_666, .ref q_667, .ref q_668, .int 0, .int (-1), .ref q_669, .ref q_670, .ref q_671, .ref q_672, .ref q_673, .ref q_674])), (q_673, .inr (2, [.ref q_670, .ref q_707, .ref q_708, .ref q_709, .int 1, .int 0, .int 0, .int (-1), .int 0, .int 0])), (q_707, .inl (cI, 4, .inl f_710))]) hD hS hA [0, 1, 2] rfl
  refine va_calli (va_runV (As := [.int w1, .int w2]) (rest := []) ⟨hx, hb, hml, hown, hts⟩ (c_priceY l dC dI cI cB cL cZ (q_664) (q_665) (q_666) (q_667) (q_668) (q_669) (q_670) (q_671) (q_672) (q_673) (q_674) (q_670) (q_707) (q_708) (q_709) (w1) (w2) (f_710) H.size (h1) (h2) (h3) (h4)) (cwV 2 hts gW_X10_price rfl rfl rfl (by decide +kernel) ⟨Nat.le_of_ble_eq_true rfl, Nat.le_of_ble_eq_true rfl⟩) ⟨cP_fb, va_recv hK hPc (ci := 9) (q0 := 0) rfl rfl, fun U hU hW => cP_pre hPc hK hDc hN U hU hW⟩ rfl rfl hl.1 rfl (lv_room (Nat.le_of_ble_eq_true rfl)) dL_law_472 ⟨Nat.le_of_ble_eq_true rfl, Nat.le_of_ble_eq_true rfl⟩) hS (fun q _ h => hFc q h) hFc (fun r_934 u t H1 locs ht hvm hw hB hz1 hk1 hS => ?_)
  obtain ⟨hP1, hD1⟩ := hB
  rw [ht] at hP1
  obtain ⟨hP, hD⟩ := va_join (wr := [(q_714, .inr (10, fs_715)), (q_733, .inl (cI, 4, .inl f_734))]) (w1 := []) hP hD [0, 1, 2] [3, 4] rfl rfl (by decide) (by decide) hk1 hFc hP1 hD1
  generalize H1 = H at hP hS ⊢
  have hP : va_P (dC, dI) vwCl [(q_714, .inr (10, fs_715)), (q_733, .inl (cI, 4, .inl f_734))] H := hP
  have hD : va_D (fun q : Nat => s.heap.size ≤ q) [(q_714, .inr (10, fs_715)), (q_733, .inl (cI, 4, .inl f_734))] := hD
  obtain rfl : r_934 = 1 := hw
  refine lv_aload_n hx hb dL_law_475 rfl (lv_at hl 1 rfl) ?_
  refine lv_aload_n hx hb dL_law_476 rfl (lv_at hl 3 rfl) ?_
  refine lv_iload_n hx hb dL_law_477 rfl (lv_at hl 0 rfl) ?_
  refine lv_iconst (v := 1) hx hb dL_law_478 (by decide) ?_
  refine lv_iadd hx hb dL_law_479 ?_
  refine lv_topi (fun y_935 ey_935 => ?_)
  obtain rfl : y_935 = 1 := ey_935.trans (by decide)
  refine va_sld hx hb hX hbl hbA hS (by unfold vp_in; decide) dL_law_480 ?_
  refine lv_topi (fun y_936 ey_936 => ?_)
  obtain rfl : w1 = y_936 := (ey_936.trans ((congrArg xs (by decide : (1 : Int32).toNatClampNeg = 1)).trans ew1.symm)).symm
  refine lv_aload_n hx hb dL_law_481 rfl (lv_at hl 3 rfl) ?_
  refine lv_iload_n hx hb dL_law_482 rfl (lv_at hl 0 rfl) ?_
  refine lv_iconst (v := 2) hx hb dL_law_483 (by decide) ?_
  refine lv_iadd hx hb dL_law_484 ?_
  refine lv_topi (fun y_937 ey_937 => ?_)
  obtain rfl : y_937 = 2 := ey_937.trans (by decide)
  refine va_sld hx hb hX hbl hbA hS (by unfold vp_in; decide) dL_law_485 ?_
  refine lv_topi (fun y_938 ey_938 => ?_)
  obtain rfl : w2 = y_938 := (ey_938.trans ((congrArg xs (by decide : (2 : Int32).toNatClampNeg = 2)).trans ew2.symm)).symm
  have hPc := hP.sub (ws' := [(q_714, .inr (10, fs_715)), (q_733, .inl (cI, 4, .inl f_734))]) [0, 1] rfl
  have hDc := hD.sub (ws' := [(q_714, .inr (10, fs_715)), (q_733, .inl (cI, 4, .inl f_734))]) [0, 1] (by decide) rfl
  have hFc := va_free (wc := [(q_714, .inr (10, fs_715)), (q_733, .inl (cI, 4, .inl f_734))]) hD hS hA [0, 1] rfl
  refine va_calli (va_runV (As := [.int w1, .int w2]) (rest := [.int 1]) ⟨hx, hb, hml, hown, hts⟩ (m_priceY l dC dI cI cB cL cZ (q_714) (q_733) (w1) (w2) (fs_715) (f_734) H.size hf_735 hf_752 (h1) (h2) (h3) (h4)) (cwV 2 hts gW_X11_price rfl rfl rfl (by decide +kernel) ⟨Nat.le_of_ble_eq_true rfl, Nat.le_of_ble_eq_true rfl⟩) ⟨cP_fb, va_recv hK hPc (ci := 10) (q0 := 0) rfl rfl, fun U hU hW => cP_pre hPc hK hDc hN U hU hW⟩ rfl rfl hl.1 rfl (lv_room (Nat.le_of_ble_eq_true rfl)) dL_law_486 ⟨Nat.le_of_ble_eq_true rfl, Nat.le_of_ble_eq_true rfl⟩) hS (fun q _ h => hFc q h) hFc (fun r_939 u t H1 locs ht hvm hw hB hz1 hk1 hS => ?_)
  obtain ⟨hP1, hD1⟩ := hB
  rw [ht] at hP1
  obtain ⟨hP, hD⟩ := va_join (wr := []) (w1 := []) hP hD [0, 1] [] rfl rfl (by decide) (by decide) hk1 hFc hP1 hD1
  generalize H1 = H at hP hS ⊢
  have hP : va_P (dC, dI) vwCl [] H := hP
  have hD : va_D (fun q : Nat => s.heap.size ≤ q) [] := hD
  obtain rfl : r_939 = 1 := hw
  refine lv_icmp_eq (tgt := 553) hx hb dL_law_489 (by decide) (fun _ => ?_) (fun c9 => absurd (by decide) c9)
  refine lv_iinc (v := 6) (lv' := [(3, .int 6), (2, .ref q_714), (1, .ref q_664), (0, .ref b)]) hx hb dL_law_553 hl (k := 0) rfl (by decide) (by decide) rfl (fun ls hl => ?_)
  refine lv_goto (tgt := 18) hx hb dL_law_556 (by decide) ?_
  refine lv_iload_n hx hb dL_law_18 rfl (lv_at hl 0 rfl) ?_
  refine lv_aload_n hx hb dL_law_19 rfl (lv_at hl 3 rfl) ?_
  refine va_slen hx hb hX hbl hbA hS dL_law_20 ?_
  refine lv_topi (fun y_940 ey_940 => ?_)
  obtain rfl : y_940 = 6 := ey_940.trans (by decide)
  refine lv_bipush (v := 6) hx hb dL_law_21 (by decide) ?_
  refine lv_isub hx hb dL_law_23 ?_
  refine lv_topi (fun y_941 ey_941 => ?_)
  obtain rfl : y_941 = 0 := ey_941.trans (by decide)
  refine lv_icmp_gt (tgt := 559) hx hb dL_law_24 (by decide) (fun _ => ?_) (fun c9 => absurd (by decide) c9)
  refine lv_iconst (v := 1) hx hb dL_law_559 (by decide) ?_
  refine va_forget (fun q hq => hS.2.2 q hq) ?_
  exact lw_ret hx hb hr hlocks dL_law_560

set_option maxHeartbeats 4000000 in
set_option maxRecDepth 100000 in
theorem lw_priceN {p : Program} {l : Launch} {e : Env} {s : State} {m : MethodId} {below : List Frame} {meth : Method} {c : Code} {dC : Nat → ClassId} {dI : Nat → Nat → Nat} {cI cB cL cZ : ClassId} {b : Nat} {xs : Nat → Int32} (hx : p.tables.exec = Jvm.exec) (hb : c.code = cL_law) (hr : meth.sig.returnType = ret) (hml : c.maxLocals = 4) (hown : s.vm.findClass RL = some m.cls) (hts : ∀ w ∈ lw_tbl, w.before #[Value.ref b] s = true) (hX : va_X b 6 xs s s.heap) (hbl : b < s.heap.size) (hlocks : meth.locks = false) (hK : va_K (dC, dI) vwCl (kTy cI cB cL cZ) s) (hN : nN s) {q_664 : Nat} {q_665 : Nat} {q_666 : Nat} {q_667 : Nat} {q_668 : Nat} {q_669 : Nat} {q_670 : Nat} {q_671 : Nat} {q_672 : Nat} {q_673 : Nat} {q_674 : Nat} {q_714 : Nat} {fs_715 : List Value} {w1 : Int32} (ew1 : w1 = xs 1) {w2 : Int32} (ew2 : w2 = xs 2) {w3 : Int32} (ew3 : w3 = xs 3) {w4 : Int32} (ew4 : w4 = xs 4) {w5 : Int32} (ew5 : w5 = xs 5) {H : Heap} {locs : List Loc} (hP : va_P (dC, dI) vwCl [(q_664, .inr (9, [.ref q_665, .int 0, .ref q_666, .ref q_667, .ref q_668, .int 0, .int (-1), .ref q_669, .ref q_670, .ref q_671, .ref q_672, .ref q_673, .ref q_674])), (q_714, .inr (10, fs_715))] H) (hD : va_D (fun q : Nat => s.heap.size ≤ q) [(q_664, .inr (9, [.ref q_665, .int 0, .ref q_666, .ref q_667, .ref q_668, .int 0, .int (-1), .ref q_669, .ref q_670, .ref q_671, .ref q_672, .ref q_673, .ref q_674])), (q_714, .inr (10, fs_715))]) (hS : va_S (fun q : Nat => s.heap.size ≤ q) s.heap H locs) {ls : Array Slot} (hl : lv_has ls 4 [(3, .int 0), (2, .ref q_714), (1, .ref q_664), (0, .ref b)]) (hf_735 : fs_715.length = 68) (hb9 : w1 < 0 ∨ 3 < w1 ∨ w2 < 1 ∨ ¬ w2 ≤ 99) : W p l e room_1 s m #[Value.ref b] below meth c H locs 84 30598 (lw_Z below #[Value.ref b] s) (F0 m 461 ls []) := by
  have hA : ∀ q : Nat, s.heap.size ≤ q → (fun q : Nat => s.heap.size ≤ q) q := fun _ h => h
  have hbA : ¬ (fun q : Nat => s.heap.size ≤ q) b := Nat.not_le.mpr hbl
  refine lv_aload_n hx hb dL_law_461 rfl (lv_at hl 2 rfl) ?_
  refine lv_aload_n hx hb dL_law_462 rfl (lv_at hl 3 rfl) ?_
  refine lv_iload_n hx hb dL_law_463 rfl (lv_at hl 0 rfl) ?_
  refine lv_iconst (v := 1) hx hb dL_law_464 (by decide) ?_
  refine lv_iadd hx hb dL_law_465 ?_
  refine lv_topi (fun y_942 ey_942 => ?_)
  obtain rfl : y_942 = 1 := ey_942.trans (by decide)
  refine va_sld hx hb hX hbl hbA hS (by unfold vp_in; decide) dL_law_466 ?_
  refine lv_topi (fun y_943 ey_943 => ?_)
  obtain rfl : w1 = y_943 := (ey_943.trans ((congrArg xs (by decide : (1 : Int32).toNatClampNeg = 1)).trans ew1.symm)).symm
  refine lv_aload_n hx hb dL_law_467 rfl (lv_at hl 3 rfl) ?_
  refine lv_iload_n hx hb dL_law_468 rfl (lv_at hl 0 rfl) ?_
  refine lv_iconst (v := 2) hx hb dL_law_469 (by decide) ?_
  refine lv_iadd hx hb dL_law_470 ?_
  refine lv_topi (fun y_944 ey_944 => ?_)
  obtain rfl : y_944 = 2 := ey_944.trans (by decide)
  refine va_sld hx hb hX hbl hbA hS (by unfold vp_in; decide) dL_law_471 ?_
  refine lv_topi (fun y_945 ey_945 => ?_)
  obtain rfl : w2 = y_945 := (ey_945.trans ((congrArg xs (by decide : (2 : Int32).toNatClampNeg = 2)).trans ew2.symm)).symm
  have hPc := hP.sub (ws' := [(q_664, .inr (9, [.ref q_665, .int 0, .ref q_666, .ref q_667, .ref q_668, .int 0, .int (-1), .ref q_669, .ref q_670, .ref q_671, .ref q_672, .ref q_673, .ref q_674]))]) [0] rfl
  have hDc := hD.sub (ws' := [(q_664, .inr (9, [.ref q_665, .int 0, .ref q_666, .ref q_667, .ref q_668, .int 0, .int (-1), .ref q_669, .ref q_670, .ref q_671, .ref q_672, .ref q_673, .ref q_674]))]) [0] (by decide) rfl
  have hFc := va_free (wc := [(q_664, .inr (9, [.ref q_665, .int 0, .ref q_666, .ref q_667, .ref q_668, .int 0, .int (-1), .ref q_669, .ref q_670, .ref q_671, .ref q_672, .ref q_673, .ref q_674]))]) hD hS hA [0] rfl
  refine va_calli (va_runV (As := [.int w1, .int w2]) (rest := []) ⟨hx, hb, hml, hown, hts⟩ (c_priceN l dC dI cI cB cL cZ (q_664) (q_665) (q_666) (q_667) (q_668) (q_669) (q_670) (q_671) (q_672) (q_673) (q_674) (w1) (w2) H.size (hb9)) (cwV 2 hts gW_X10_price rfl rfl rfl (by decide +kernel) ⟨Nat.le_of_ble_eq_true rfl, Nat.le_of_ble_eq_true rfl⟩) ⟨cP_fb, va_recv hK hPc (ci := 9) (q0 := 0) rfl rfl, fun U hU hW => cP_pre hPc hK hDc hN U hU hW⟩ rfl rfl hl.1 rfl (lv_room (Nat.le_of_ble_eq_true rfl)) dL_law_472 ⟨Nat.le_of_ble_eq_true rfl, Nat.le_of_ble_eq_true rfl⟩) hS (fun q _ h => hFc q h) hFc (fun r_946 u t H1 locs ht hvm hw hB hz1 hk1 hS => ?_)
  obtain ⟨hP1, hD1⟩ := hB
  rw [ht] at hP1
  obtain ⟨hP, hD⟩ := va_join (wr := [(q_714, .inr (10, fs_715))]) (w1 := []) hP hD [0] [1] rfl rfl (by decide) (by decide) hk1 hFc hP1 hD1
  generalize H1 = H at hP hS ⊢
  have hP : va_P (dC, dI) vwCl [(q_714, .inr (10, fs_715))] H := hP
  have hD : va_D (fun q : Nat => s.heap.size ≤ q) [(q_714, .inr (10, fs_715))] := hD
  obtain rfl : r_946 = 0 := hw
  refine lv_aload_n hx hb dL_law_475 rfl (lv_at hl 1 rfl) ?_
  refine lv_aload_n hx hb dL_law_476 rfl (lv_at hl 3 rfl) ?_
  refine lv_iload_n hx hb dL_law_477 rfl (lv_at hl 0 rfl) ?_
  refine lv_iconst (v := 1) hx hb dL_law_478 (by decide) ?_
  refine lv_iadd hx hb dL_law_479 ?_
  refine lv_topi (fun y_947 ey_947 => ?_)
  obtain rfl : y_947 = 1 := ey_947.trans (by decide)
  refine va_sld hx hb hX hbl hbA hS (by unfold vp_in; decide) dL_law_480 ?_
  refine lv_topi (fun y_948 ey_948 => ?_)
  obtain rfl : w1 = y_948 := (ey_948.trans ((congrArg xs (by decide : (1 : Int32).toNatClampNeg = 1)).trans ew1.symm)).symm
  refine lv_aload_n hx hb dL_law_481 rfl (lv_at hl 3 rfl) ?_
  refine lv_iload_n hx hb dL_law_482 rfl (lv_at hl 0 rfl) ?_
  refine lv_iconst (v := 2) hx hb dL_law_483 (by decide) ?_
  refine lv_iadd hx hb dL_law_484 ?_
  refine lv_topi (fun y_949 ey_949 => ?_)
  obtain rfl : y_949 = 2 := ey_949.trans (by decide)
  refine va_sld hx hb hX hbl hbA hS (by unfold vp_in; decide) dL_law_485 ?_
  refine lv_topi (fun y_950 ey_950 => ?_)
  obtain rfl : w2 = y_950 := (ey_950.trans ((congrArg xs (by decide : (2 : Int32).toNatClampNeg = 2)).trans ew2.symm)).symm
  have hPc := hP.sub (ws' := [(q_714, .inr (10, fs_715))]) [0] rfl
  have hDc := hD.sub (ws' := [(q_714, .inr (10, fs_715))]) [0] (by decide) rfl
  have hFc := va_free (wc := [(q_714, .inr (10, fs_715))]) hD hS hA [0] rfl
  refine va_calli (va_runV (As := [.int w1, .int w2]) (rest := [.int 0]) ⟨hx, hb, hml, hown, hts⟩ (m_priceN l dC dI cI cB cL cZ (q_714) (w1) (w2) (fs_715) H.size hf_735 (hb9)) (cwV 2 hts gW_X11_price rfl rfl rfl (by decide +kernel) ⟨Nat.le_of_ble_eq_true rfl, Nat.le_of_ble_eq_true rfl⟩) ⟨cP_fb, va_recv hK hPc (ci := 10) (q0 := 0) rfl rfl, fun U hU hW => cP_pre hPc hK hDc hN U hU hW⟩ rfl rfl hl.1 rfl (lv_room (Nat.le_of_ble_eq_true rfl)) dL_law_486 ⟨Nat.le_of_ble_eq_true rfl, Nat.le_of_ble_eq_true rfl⟩) hS (fun q _ h => hFc q h) hFc (fun r_951 u t H1 locs ht hvm hw hB hz1 hk1 hS => ?_)
  obtain ⟨hP1, hD1⟩ := hB
  rw [ht] at hP1
  obtain ⟨hP, hD⟩ := va_join (wr := []) (w1 := []) hP hD [0] [] rfl rfl (by decide) (by decide) hk1 hFc hP1 hD1
  generalize H1 = H at hP hS ⊢
  have hP : va_P (dC, dI) vwCl [] H := hP
  have hD : va_D (fun q : Nat => s.heap.size ≤ q) [] := hD
  obtain rfl : r_951 = 0 := hw
  refine lv_icmp_eq (tgt := 553) hx hb dL_law_489 (by decide) (fun _ => ?_) (fun c9 => absurd (by decide) c9)
  refine lv_iinc (v := 6) (lv' := [(3, .int 6), (2, .ref q_714), (1, .ref q_664), (0, .ref b)]) hx hb dL_law_553 hl (k := 0) rfl (by decide) (by decide) rfl (fun ls hl => ?_)
  refine lv_goto (tgt := 18) hx hb dL_law_556 (by decide) ?_
  refine lv_iload_n hx hb dL_law_18 rfl (lv_at hl 0 rfl) ?_
  refine lv_aload_n hx hb dL_law_19 rfl (lv_at hl 3 rfl) ?_
  refine va_slen hx hb hX hbl hbA hS dL_law_20 ?_
  refine lv_topi (fun y_952 ey_952 => ?_)
  obtain rfl : y_952 = 6 := ey_952.trans (by decide)
  refine lv_bipush (v := 6) hx hb dL_law_21 (by decide) ?_
  refine lv_isub hx hb dL_law_23 ?_
  refine lv_topi (fun y_953 ey_953 => ?_)
  obtain rfl : y_953 = 0 := ey_953.trans (by decide)
  refine lv_icmp_gt (tgt := 559) hx hb dL_law_24 (by decide) (fun _ => ?_) (fun c9 => absurd (by decide) c9)
  refine lv_iconst (v := 1) hx hb dL_law_559 (by decide) ?_
  refine va_forget (fun q hq => hS.2.2 q hq) ?_
  exact lw_ret hx hb hr hlocks dL_law_560

set_option maxHeartbeats 4000000 in
set_option maxRecDepth 100000 in
theorem lw_mend {p : Program} {l : Launch} {e : Env} {s : State} {m : MethodId} {below : List Frame} {meth : Method} {c : Code} {dC : Nat → ClassId} {dI : Nat → Nat → Nat} {cI cB cL cZ : ClassId} {b : Nat} {xs : Nat → Int32} (hx : p.tables.exec = Jvm.exec) (hb : c.code = cL_law) (hr : meth.sig.returnType = ret) (hml : c.maxLocals = 4) (hown : s.vm.findClass RL = some m.cls) (hts : ∀ w ∈ lw_tbl, w.before #[Value.ref b] s = true) (hX : va_X b 6 xs s s.heap) (hbl : b < s.heap.size) (hlocks : meth.locks = false) (hK : va_K (dC, dI) vwCl (kTy cI cB cL cZ) s) (hN : nN s) {q_664 : Nat} {q_665 : Nat} {q_666 : Nat} {q_667 : Nat} {q_668 : Nat} {q_669 : Nat} {q_670 : Nat} {q_671 : Nat} {q_672 : Nat} {q_673 : Nat} {q_674 : Nat} {q_688 : Nat} {q_689 : Nat} {q_690 : Nat} {q_691 : Nat} {q_692 : Nat} {q_693 : Nat} {q_694 : Nat} {q_695 : Nat} {q_696 : Nat} {q_697 : Nat} {q_698 : Nat} {q_714 : Nat} {fs_715 : List Value} {w1 : Int32} (ew1 : w1 = xs 1) {w2 : Int32} (ew2 : w2 = xs 2) {w3 : Int32} (ew3 : w3 = xs 3) {w4 : Int32} (ew4 : w4 = xs 4) {w5 : Int32} (ew5 : w5 = xs 5) {H : Heap} {locs : List Loc} (hP : va_P (dC, dI) vwCl [(q_664, .inr (9, [.ref q_665, .int 0, .ref q_666, .ref q_667, .ref q_668, .int 0, .int (-1), .ref q_669, .ref q_670, .ref q_671, .ref q_672, .ref q_673, .ref q_674])), (q_669, .inr (6, [.ref q_688, .int (-1), .ref q_689])), (q_688, .inr (3, [.ref q_690, .ref q_691, .ref q_692, .ref q_693, .ref q_694, .ref q_695, .ref q_696, .ref q_697, .ref q_698, .int 0, .int 0, .int 0, .int 0, .int (-1)])), (q_714, .inr (10, fs_715))] H) (hD : va_D (fun q : Nat => s.heap.size ≤ q) [(q_664, .inr (9, [.ref q_665, .int 0, .ref q_666, .ref q_667, .ref q_668, .int 0, .int (-1), .ref q_669, .ref q_670, .ref q_671, .ref q_672, .ref q_673, .ref q_674])), (q_669, .inr (6, [.ref q_688, .int (-1), .ref q_689])), (q_688, .inr (3, [.ref q_690, .ref q_691, .ref q_692, .ref q_693, .ref q_694, .ref q_695, .ref q_696, .ref q_697, .ref q_698, .int 0, .int 0, .int 0, .int 0, .int (-1)])), (q_714, .inr (10, fs_715))]) (hS : va_S (fun q : Nat => s.heap.size ≤ q) s.heap H locs) {ls : Array Slot} (hl : lv_has ls 4 [(3, .int 0), (2, .ref q_714), (1, .ref q_664), (0, .ref b)]) (hf_735 : fs_715.length = 68) (hf_757 : fs_715[39]? = some (.int (-1))) : W p l e room_1 s m #[Value.ref b] below meth c H locs 84 30598 (lw_Z below #[Value.ref b] s) (F0 m 494 ls []) := by
  have hA : ∀ q : Nat, s.heap.size ≤ q → (fun q : Nat => s.heap.size ≤ q) q := fun _ h => h
  have hbA : ¬ (fun q : Nat => s.heap.size ≤ q) b := Nat.not_le.mpr hbl
  refine lv_aload_n hx hb dL_law_494 rfl (lv_at hl 2 rfl) ?_
  have hPc := hP.sub (ws' := [(q_664, .inr (9, [.ref q_665, .int 0, .ref q_666, .ref q_667, .ref q_668, .int 0, .int (-1), .ref q_669, .ref q_670, .ref q_671, .ref q_672, .ref q_673, .ref q_674])), (q_669, .inr (6, [.ref q_688, .int (-1), .ref q_689])), (q_688, .inr (3, [.ref q_690, .ref q_691, .ref q_692, .ref q_693, .ref q_694, .ref q_695, .ref q_696, .ref q_697, .ref q_698, .int 0, .int 0, .int 0, .int 0, .int (-1)]))]) [0, 1, 2] rfl
  have hDc := hD.sub (ws' := [(q_664, .inr (9, [.ref q_665, .int 0, .ref q_666, .ref q_667, .ref q_668, .int 0, .int (-1), .ref q_669, .ref q_670, .ref q_671, .ref q_672, .ref q_673, .ref q_674])), (q_669, .inr (6, [.ref q_688, .int (-1), .ref q_689])), (q_688, .inr (3, [.ref q_690, .ref q_691, .ref q_692, .ref q_693, .ref q_694, .ref q_695, .ref q_696, .ref q_697, .ref q_698, .int 0, .int 0, .int 0, .int 0, .int (-1)]))]) [0, 1, 2] (by decide) rfl
  have hFc := va_free (wc := [(q_664, .inr (9, [.ref q_665, .int 0, .ref q_666, .ref q_667, .ref q_668, .int 0, .int (-1), .ref q_669, .ref q_670, .ref q_671, .ref q_672, .ref q_673, .ref q_674])), (q_669, .inr (6, [.ref q_688, .int (-1), .ref q_689])), (q_688, .inr (3, [.ref q_690, .ref q_691, .ref q_692, .ref q_693, .ref q_694, .ref q_695, .ref q_696, .ref q_697, .ref q_698, .int 0, .int 0, .int 0, .int 0, .int (-1)]))]) hD hS hA [0, 1, 2] rfl
  refine va_calli (va_runV (As := []) (rest := []) ⟨hx, hb, hml, hown, hts⟩ (c_mend l dC dI cI cB cL cZ (q_664) (q_665) (q_666) (q_667) (q_668) (q_669) (q_670) (q_671) (q_672) (q_673) (q_674) (q_688) (q_689) (q_690) (q_691) (q_692) (q_693) (q_694) (q_695) (q_696) (q_697) (q_698) H.size) (cwV 0 hts gW_X10_mend rfl rfl rfl (by decide +kernel) ⟨Nat.le_of_ble_eq_true rfl, Nat.le_of_ble_eq_true rfl⟩) ⟨cP_fb, va_recv hK hPc (ci := 9) (q0 := 0) rfl rfl, fun U hU hW => cP_pre hPc hK hDc hN U hU hW⟩ rfl rfl hl.1 rfl (lv_room (Nat.le_of_ble_eq_true rfl)) dL_law_495 ⟨Nat.le_of_ble_eq_true rfl, Nat.le_of_ble_eq_true rfl⟩) hS (fun q _ h => hFc q h) hFc (fun r_954 u t H1 locs ht hvm hw hB hz1 hk1 hS => ?_)
  obtain ⟨hP1, hD1⟩ := hB
  rw [ht] at hP1
  obtain ⟨hP, hD⟩ := va_join (wr := [(q_714, .inr (10, fs_715))]) (w1 := []) hP hD [0, 1, 2] [3] rfl rfl (by decide) (by decide) hk1 hFc hP1 hD1
  generalize H1 = H at hP hS ⊢
  have hP : va_P (dC, dI) vwCl [(q_714, .inr (10, fs_715))] H := hP
  have hD : va_D (fun q : Nat => s.heap.size ≤ q) [(q_714, .inr (10, fs_715))] := hD
  obtain rfl : r_954 = (-1) := hw
  refine lv_aload_n hx hb dL_law_498 rfl (lv_at hl 1 rfl) ?_
  have hPc := hP.sub (ws' := [(q_714, .inr (10, fs_715))]) [0] rfl
  have hDc := hD.sub (ws' := [(q_714, .inr (10, fs_715))]) [0] (by decide) rfl
  have hFc := va_free (wc := [(q_714, .inr (10, fs_715))]) hD hS hA [0] rfl
  refine va_calli (va_runV (As := []) (rest := [.int (-1)]) ⟨hx, hb, hml, hown, hts⟩ (m_mend l dC dI cI cB cL cZ (q_714) (fs_715) H.size hf_735 hf_757) (cwV 0 hts gW_X11_mend rfl rfl rfl (by decide +kernel) ⟨Nat.le_of_ble_eq_true rfl, Nat.le_of_ble_eq_true rfl⟩) ⟨cP_fb, va_recv hK hPc (ci := 10) (q0 := 0) rfl rfl, fun U hU hW => cP_pre hPc hK hDc hN U hU hW⟩ rfl rfl hl.1 rfl (lv_room (Nat.le_of_ble_eq_true rfl)) dL_law_499 ⟨Nat.le_of_ble_eq_true rfl, Nat.le_of_ble_eq_true rfl⟩) hS (fun q _ h => hFc q h) hFc (fun r_955 u t H1 locs ht hvm hw hB hz1 hk1 hS => ?_)
  obtain ⟨hP1, hD1⟩ := hB
  rw [ht] at hP1
  obtain ⟨hP, hD⟩ := va_join (wr := []) (w1 := []) hP hD [0] [] rfl rfl (by decide) (by decide) hk1 hFc hP1 hD1
  generalize H1 = H at hP hS ⊢
  have hP : va_P (dC, dI) vwCl [] H := hP
  have hD : va_D (fun q : Nat => s.heap.size ≤ q) [] := hD
  obtain rfl : r_955 = (-1) := hw
  refine lv_icmp_eq (tgt := 553) hx hb dL_law_502 (by decide) (fun _ => ?_) (fun c9 => absurd (by decide) c9)
  refine lv_iinc (v := 6) (lv' := [(3, .int 6), (2, .ref q_714), (1, .ref q_664), (0, .ref b)]) hx hb dL_law_553 hl (k := 0) rfl (by decide) (by decide) rfl (fun ls hl => ?_)
  refine lv_goto (tgt := 18) hx hb dL_law_556 (by decide) ?_
  refine lv_iload_n hx hb dL_law_18 rfl (lv_at hl 0 rfl) ?_
  refine lv_aload_n hx hb dL_law_19 rfl (lv_at hl 3 rfl) ?_
  refine va_slen hx hb hX hbl hbA hS dL_law_20 ?_
  refine lv_topi (fun y_956 ey_956 => ?_)
  obtain rfl : y_956 = 6 := ey_956.trans (by decide)
  refine lv_bipush (v := 6) hx hb dL_law_21 (by decide) ?_
  refine lv_isub hx hb dL_law_23 ?_
  refine lv_topi (fun y_957 ey_957 => ?_)
  obtain rfl : y_957 = 0 := ey_957.trans (by decide)
  refine lv_icmp_gt (tgt := 559) hx hb dL_law_24 (by decide) (fun _ => ?_) (fun c9 => absurd (by decide) c9)
  refine lv_iconst (v := 1) hx hb dL_law_559 (by decide) ?_
  refine va_forget (fun q hq => hS.2.2 q hq) ?_
  exact lw_ret hx hb hr hlocks dL_law_560

set_option maxHeartbeats 4000000 in
set_option maxRecDepth 100000 in
theorem lw_mended {p : Program} {l : Launch} {e : Env} {s : State} {m : MethodId} {below : List Frame} {meth : Method} {c : Code} {dC : Nat → ClassId} {dI : Nat → Nat → Nat} {cI cB cL cZ : ClassId} {b : Nat} {xs : Nat → Int32} (hx : p.tables.exec = Jvm.exec) (hb : c.code = cL_law) (hr : meth.sig.returnType = ret) (hml : c.maxLocals = 4) (hown : s.vm.findClass RL = some m.cls) (hts : ∀ w ∈ lw_tbl, w.before #[Value.ref b] s = true) (hX : va_X b 6 xs s s.heap) (hbl : b < s.heap.size) (hlocks : meth.locks = false) (hK : va_K (dC, dI) vwCl (kTy cI cB cL cZ) s) (hN : nN s) {q_664 : Nat} {q_665 : Nat} {q_666 : Nat} {q_667 : Nat} {q_668 : Nat} {q_669 : Nat} {q_670 : Nat} {q_671 : Nat} {q_672 : Nat} {q_673 : Nat} {q_674 : Nat} {q_707 : Nat} {q_708 : Nat} {q_709 : Nat} {q_714 : Nat} {fs_715 : List Value} {w1 : Int32} (ew1 : w1 = xs 1) {w2 : Int32} (ew2 : w2 = xs 2) {w3 : Int32} (ew3 : w3 = xs 3) {w4 : Int32} (ew4 : w4 = xs 4) {w5 : Int32} (ew5 : w5 = xs 5) {H : Heap} {locs : List Loc} (hP : va_P (dC, dI) vwCl [(q_664, .inr (9, [.ref q_665, .int 0, .ref q_666, .ref q_667, .ref q_668, .int 0, .int (-1), .ref q_669, .ref q_670, .ref q_671, .ref q_672, .ref q_673, .ref q_674])), (q_673, .inr (2, [.ref q_670, .ref q_707, .ref q_708, .ref q_709, .int 1, .int 0, .int 0, .int (-1), .int 0, .int 0])), (q_714, .inr (10, fs_715))] H) (hD : va_D (fun q : Nat => s.heap.size ≤ q) [(q_664, .inr (9, [.ref q_665, .int 0, .ref q_666, .ref q_667, .ref q_668, .int 0, .int (-1), .ref q_669, .ref q_670, .ref q_671, .ref q_672, .ref q_673, .ref q_674])), (q_673, .inr (2, [.ref q_670, .ref q_707, .ref q_708, .ref q_709, .int 1, .int 0, .int 0, .int (-1), .int 0, .int 0])), (q_714, .inr (10, fs_715))]) (hS : va_S (fun q : Nat => s.heap.size ≤ q) s.heap H locs) {ls : Array Slot} (hl : lv_has ls 4 [(3, .int 0), (2, .ref q_714), (1, .ref q_664), (0, .ref b)]) (hf_735 : fs_715.length = 68) (hf_759 : fs_715[67]? = some (.int 0)) : W p l e room_1 s m #[Value.ref b] below meth c H locs 84 30598 (lw_Z below #[Value.ref b] s) (F0 m 507 ls []) := by
  have hA : ∀ q : Nat, s.heap.size ≤ q → (fun q : Nat => s.heap.size ≤ q) q := fun _ h => h
  have hbA : ¬ (fun q : Nat => s.heap.size ≤ q) b := Nat.not_le.mpr hbl
  refine lv_aload_n hx hb dL_law_507 rfl (lv_at hl 2 rfl) ?_
  refine lv_aload_n hx hb dL_law_508 rfl (lv_at hl 3 rfl) ?_
  refine lv_iload_n hx hb dL_law_509 rfl (lv_at hl 0 rfl) ?_
  refine lv_iconst (v := 1) hx hb dL_law_510 (by decide) ?_
  refine lv_iadd hx hb dL_law_511 ?_
  refine lv_topi (fun y_958 ey_958 => ?_)
  obtain rfl : y_958 = 1 := ey_958.trans (by decide)
  refine va_sld hx hb hX hbl hbA hS (by unfold vp_in; decide) dL_law_512 ?_
  refine lv_topi (fun y_959 ey_959 => ?_)
  obtain rfl : w1 = y_959 := (ey_959.trans ((congrArg xs (by decide : (1 : Int32).toNatClampNeg = 1)).trans ew1.symm)).symm
  have hPc := hP.sub (ws' := [(q_664, .inr (9, [.ref q_665, .int 0, .ref q_666, .ref q_667, .ref q_668, .int 0, .int (-1), .ref q_669, .ref q_670, .ref q_671, .ref q_672, .ref q_673, .ref q_674])), (q_673, .inr (2, [.ref q_670, .ref q_707, .ref q_708, .ref q_709, .int 1, .int 0, .int 0, .int (-1), .int 0, .int 0]))]) [0, 1] rfl
  have hDc := hD.sub (ws' := [(q_664, .inr (9, [.ref q_665, .int 0, .ref q_666, .ref q_667, .ref q_668, .int 0, .int (-1), .ref q_669, .ref q_670, .ref q_671, .ref q_672, .ref q_673, .ref q_674])), (q_673, .inr (2, [.ref q_670, .ref q_707, .ref q_708, .ref q_709, .int 1, .int 0, .int 0, .int (-1), .int 0, .int 0]))]) [0, 1] (by decide) rfl
  have hFc := va_free (wc := [(q_664, .inr (9, [.ref q_665, .int 0, .ref q_666, .ref q_667, .ref q_668, .int 0, .int (-1), .ref q_669, .ref q_670, .ref q_671, .ref q_672, .ref q_673, .ref q_674])), (q_673, .inr (2, [.ref q_670, .ref q_707, .ref q_708, .ref q_709, .int 1, .int 0, .int 0, .int (-1), .int 0, .int 0]))]) hD hS hA [0, 1] rfl
  refine va_calli (va_runV (As := [.int w1]) (rest := []) ⟨hx, hb, hml, hown, hts⟩ (c_mended l dC dI cI cB cL cZ (q_664) (q_665) (q_666) (q_667) (q_668) (q_669) (q_670) (q_671) (q_672) (q_673) (q_674) (q_670) (q_707) (q_708) (q_709) (w1) H.size) (cwV 1 hts gW_X10_mended rfl rfl rfl (by decide +kernel) ⟨Nat.le_of_ble_eq_true rfl, Nat.le_of_ble_eq_true rfl⟩) ⟨cP_fb, va_recv hK hPc (ci := 9) (q0 := 0) rfl rfl, fun U hU hW => cP_pre hPc hK hDc hN U hU hW⟩ rfl rfl hl.1 rfl (lv_room (Nat.le_of_ble_eq_true rfl)) dL_law_513 ⟨Nat.le_of_ble_eq_true rfl, Nat.le_of_ble_eq_true rfl⟩) hS (fun q _ h => hFc q h) hFc (fun r_960 u t H1 locs ht hvm hw hB hz1 hk1 hS => ?_)
  obtain ⟨hP1, hD1⟩ := hB
  rw [ht] at hP1
  obtain ⟨hP, hD⟩ := va_join (wr := [(q_714, .inr (10, fs_715))]) (w1 := []) hP hD [0, 1] [2] rfl rfl (by decide) (by decide) hk1 hFc hP1 hD1
  generalize H1 = H at hP hS ⊢
  have hP : va_P (dC, dI) vwCl [(q_714, .inr (10, fs_715))] H := hP
  have hD : va_D (fun q : Nat => s.heap.size ≤ q) [(q_714, .inr (10, fs_715))] := hD
  obtain rfl : r_960 = (-1) := hw
  refine lv_aload_n hx hb dL_law_516 rfl (lv_at hl 1 rfl) ?_
  refine lv_aload_n hx hb dL_law_517 rfl (lv_at hl 3 rfl) ?_
  refine lv_iload_n hx hb dL_law_518 rfl (lv_at hl 0 rfl) ?_
  refine lv_iconst (v := 1) hx hb dL_law_519 (by decide) ?_
  refine lv_iadd hx hb dL_law_520 ?_
  refine lv_topi (fun y_961 ey_961 => ?_)
  obtain rfl : y_961 = 1 := ey_961.trans (by decide)
  refine va_sld hx hb hX hbl hbA hS (by unfold vp_in; decide) dL_law_521 ?_
  refine lv_topi (fun y_962 ey_962 => ?_)
  obtain rfl : w1 = y_962 := (ey_962.trans ((congrArg xs (by decide : (1 : Int32).toNatClampNeg = 1)).trans ew1.symm)).symm
  have hPc := hP.sub (ws' := [(q_714, .inr (10, fs_715))]) [0] rfl
  have hDc := hD.sub (ws' := [(q_714, .inr (10, fs_715))]) [0] (by decide) rfl
  have hFc := va_free (wc := [(q_714, .inr (10, fs_715))]) hD hS hA [0] rfl
  refine va_calli (va_runV (As := [.int w1]) (rest := [.int (-1)]) ⟨hx, hb, hml, hown, hts⟩ (m_mended l dC dI cI cB cL cZ (q_714) (w1) (fs_715) H.size hf_735 hf_759) (cwV 1 hts gW_X11_mended rfl rfl rfl (by decide +kernel) ⟨Nat.le_of_ble_eq_true rfl, Nat.le_of_ble_eq_true rfl⟩) ⟨cP_fb, va_recv hK hPc (ci := 10) (q0 := 0) rfl rfl, fun U hU hW => cP_pre hPc hK hDc hN U hU hW⟩ rfl rfl hl.1 rfl (lv_room (Nat.le_of_ble_eq_true rfl)) dL_law_522 ⟨Nat.le_of_ble_eq_true rfl, Nat.le_of_ble_eq_true rfl⟩) hS (fun q _ h => hFc q h) hFc (fun r_963 u t H1 locs ht hvm hw hB hz1 hk1 hS => ?_)
  obtain ⟨hP1, hD1⟩ := hB
  rw [ht] at hP1
  obtain ⟨hP, hD⟩ := va_join (wr := []) (w1 := []) hP hD [0] [] rfl rfl (by decide) (by decide) hk1 hFc hP1 hD1
  generalize H1 = H at hP hS ⊢
  have hP : va_P (dC, dI) vwCl [] H := hP
  have hD : va_D (fun q : Nat => s.heap.size ≤ q) [] := hD
  obtain rfl : r_963 = (-1) := hw
  refine lv_icmp_eq (tgt := 553) hx hb dL_law_525 (by decide) (fun _ => ?_) (fun c9 => absurd (by decide) c9)
  refine lv_iinc (v := 6) (lv' := [(3, .int 6), (2, .ref q_714), (1, .ref q_664), (0, .ref b)]) hx hb dL_law_553 hl (k := 0) rfl (by decide) (by decide) rfl (fun ls hl => ?_)
  refine lv_goto (tgt := 18) hx hb dL_law_556 (by decide) ?_
  refine lv_iload_n hx hb dL_law_18 rfl (lv_at hl 0 rfl) ?_
  refine lv_aload_n hx hb dL_law_19 rfl (lv_at hl 3 rfl) ?_
  refine va_slen hx hb hX hbl hbA hS dL_law_20 ?_
  refine lv_topi (fun y_964 ey_964 => ?_)
  obtain rfl : y_964 = 6 := ey_964.trans (by decide)
  refine lv_bipush (v := 6) hx hb dL_law_21 (by decide) ?_
  refine lv_isub hx hb dL_law_23 ?_
  refine lv_topi (fun y_965 ey_965 => ?_)
  obtain rfl : y_965 = 0 := ey_965.trans (by decide)
  refine lv_icmp_gt (tgt := 559) hx hb dL_law_24 (by decide) (fun _ => ?_) (fun c9 => absurd (by decide) c9)
  refine lv_iconst (v := 1) hx hb dL_law_559 (by decide) ?_
  refine va_forget (fun q hq => hS.2.2 q hq) ?_
  exact lw_ret hx hb hr hlocks dL_law_560

set_option maxHeartbeats 4000000 in
set_option maxRecDepth 100000 in
theorem lw_count0 {p : Program} {l : Launch} {e : Env} {s : State} {m : MethodId} {below : List Frame} {meth : Method} {c : Code} {dC : Nat → ClassId} {dI : Nat → Nat → Nat} {cI cB cL cZ : ClassId} {b : Nat} {xs : Nat → Int32} (hx : p.tables.exec = Jvm.exec) (hb : c.code = cL_law) (hr : meth.sig.returnType = ret) (hml : c.maxLocals = 4) (hown : s.vm.findClass RL = some m.cls) (hts : ∀ w ∈ lw_tbl, w.before #[Value.ref b] s = true) (hX : va_X b 6 xs s s.heap) (hbl : b < s.heap.size) (hlocks : meth.locks = false) (hK : va_K (dC, dI) vwCl (kTy cI cB cL cZ) s) (hN : nN s) {q_664 : Nat} {q_665 : Nat} {q_666 : Nat} {q_667 : Nat} {q_668 : Nat} {q_669 : Nat} {q_670 : Nat} {q_671 : Nat} {q_672 : Nat} {q_673 : Nat} {q_674 : Nat} {q_688 : Nat} {q_689 : Nat} {q_690 : Nat} {q_691 : Nat} {q_692 : Nat} {q_693 : Nat} {q_694 : Nat} {q_695 : Nat} {q_696 : Nat} {q_697 : Nat} {q_698 : Nat} {q_714 : Nat} {fs_715 : List Value} {q_717 : Nat} {f_718 : Nat → Int32} {q_725 : Nat} {q_728 : Nat} (ew1 : (0 : Int32) = xs 1) {w2 : Int32} (ew2 : w2 = xs 2) {w3 : Int32} (ew3 : w3 = xs 3) {w4 : Int32} (ew4 : w4 = xs 4) {w5 : Int32} (ew5 : w5 = xs 5) {H : Heap} {locs : List Loc} (hP : va_P (dC, dI) vwCl [(q_664, .inr (9, [.ref q_665, .int 0, .ref q_666, .ref q_667, .ref q_668, .int 0, .int (-1), .ref q_669, .ref q_670, .ref q_671, .ref q_672, .ref q_673, .ref q_674])), (q_669, .inr (6, [.ref q_688, .int (-1), .ref q_689])), (q_688, .inr (3, [.ref q_690, .ref q_691, .ref q_692, .ref q_693, .ref q_694, .ref q_695, .ref q_696, .ref q_697, .ref q_698, .int 0, .int 0, .int 0, .int 0, .int (-1)])), (q_714, .inr (10, fs_715)), (q_717, .inl (cI, 16, .inl f_718)), (q_725, .inl (cI, 2, .inl (fun _ => 0))), (q_728, .inl (cI, 2, .inl (fun _ => 0)))] H) (hD : va_D (fun q : Nat => s.heap.size ≤ q) [(q_664, .inr (9, [.ref q_665, .int 0, .ref q_666, .ref q_667, .ref q_668, .int 0, .int (-1), .ref q_669, .ref q_670, .ref q_671, .ref q_672, .ref q_673, .ref q_674])), (q_669, .inr (6, [.ref q_688, .int (-1), .ref q_689])), (q_688, .inr (3, [.ref q_690, .ref q_691, .ref q_692, .ref q_693, .ref q_694, .ref q_695, .ref q_696, .ref q_697, .ref q_698, .int 0, .int 0, .int 0, .int 0, .int (-1)])), (q_714, .inr (10, fs_715)), (q_717, .inl (cI, 16, .inl f_718)), (q_725, .inl (cI, 2, .inl (fun _ => 0))), (q_728, .inl (cI, 2, .inl (fun _ => 0)))]) (hS : va_S (fun q : Nat => s.heap.size ≤ q) s.heap H locs) {ls : Array Slot} (hl : lv_has ls 4 [(3, .int 0), (2, .ref q_714), (1, .ref q_664), (0, .ref b)]) (hf_735 : fs_715.length = 68) (hf_737 : fs_715[19]? = some (.ref q_717)) (hf_744 : fs_715[26]? = some (.ref q_725)) (hf_747 : fs_715[29]? = some (.ref q_728)) (hf_757 : fs_715[39]? = some (.int (-1))) (hf_760 : ∀ j, j < 16 → f_718 j = -1) : W p l e room_1 s m #[Value.ref b] below meth c H locs 84 30598 (lw_Z below #[Value.ref b] s) (F0 m 530 ls []) := by
  have hA : ∀ q : Nat, s.heap.size ≤ q → (fun q : Nat => s.heap.size ≤ q) q := fun _ h => h
  have hbA : ¬ (fun q : Nat => s.heap.size ≤ q) b := Nat.not_le.mpr hbl
  refine lv_aload_n hx hb dL_law_530 rfl (lv_at hl 2 rfl) ?_
  refine lv_aload_n hx hb dL_law_531 rfl (lv_at hl 3 rfl) ?_
  refine lv_iload_n hx hb dL_law_532 rfl (lv_at hl 0 rfl) ?_
  refine lv_iconst (v := 1) hx hb dL_law_533 (by decide) ?_
  refine lv_iadd hx hb dL_law_534 ?_
  refine lv_topi (fun y_966 ey_966 => ?_)
  obtain rfl : y_966 = 1 := ey_966.trans (by decide)
  refine va_sld hx hb hX hbl hbA hS (by unfold vp_in; decide) dL_law_535 ?_
  refine lv_topi (fun y_967 ey_967 => ?_)
  obtain rfl : y_967 = 0 := ey_967.trans ((congrArg xs (by decide : (1 : Int32).toNatClampNeg = 1)).trans ew1.symm)
  have hPc := hP.sub (ws' := [(q_664, .inr (9, [.ref q_665, .int 0, .ref q_666, .ref q_667, .ref q_668, .int 0, .int (-1), .ref q_669, .ref q_670, .ref q_671, .ref q_672, .ref q_673, .ref q_674])), (q_669, .inr (6, [.ref q_688, .int (-1), .ref q_689])), (q_688, .inr (3, [.ref q_690, .ref q_691, .ref q_692, .ref q_693, .ref q_694, .ref q_695, .ref q_696, .ref q_697, .ref q_698, .int 0, .int 0, .int 0, .int 0, .int (-1)]))]) [0, 1, 2] rfl
  have hDc := hD.sub (ws' := [(q_664, .inr (9, [.ref q_665, .int 0, .ref q_666, .ref q_667, .ref q_668, .int 0, .int (-1), .ref q_669, .ref q_670, .ref q_671, .ref q_672, .ref q_673, .ref q_674])), (q_669, .inr (6, [.ref q_688, .int (-1), .ref q_689])), (q_688, .inr (3, [.ref q_690, .ref q_691, .ref q_692, .ref q_693, .ref q_694, .ref q_695, .ref q_696, .ref q_697, .ref q_698, .int 0, .int 0, .int 0, .int 0, .int (-1)]))]) [0, 1, 2] (by decide) rfl
  have hFc := va_free (wc := [(q_664, .inr (9, [.ref q_665, .int 0, .ref q_666, .ref q_667, .ref q_668, .int 0, .int (-1), .ref q_669, .ref q_670, .ref q_671, .ref q_672, .ref q_673, .ref q_674])), (q_669, .inr (6, [.ref q_688, .int (-1), .ref q_689])), (q_688, .inr (3, [.ref q_690, .ref q_691, .ref q_692, .ref q_693, .ref q_694, .ref q_695, .ref q_696, .ref q_697, .ref q_698, .int 0, .int 0, .int 0, .int 0, .int (-1)]))]) hD hS hA [0, 1, 2] rfl
  refine va_calli (va_runV (As := [.int 0]) (rest := []) ⟨hx, hb, hml, hown, hts⟩ (c_count0 l dC dI cI cB cL cZ (q_664) (q_665) (q_666) (q_667) (q_668) (q_669) (q_670) (q_671) (q_672) (q_673) (q_674) (q_688) (q_689) (q_690) (q_691) (q_692) (q_693) (q_694) (q_695) (q_696) (q_697) (q_698) H.size) (cwV 1 hts gW_X10_count rfl rfl rfl (by decide +kernel) ⟨Nat.le_of_ble_eq_true rfl, Nat.le_of_ble_eq_true rfl⟩) ⟨cP_fb, va_recv hK hPc (ci := 9) (q0 := 0) rfl rfl, fun U hU hW => cP_pre hPc hK hDc hN U hU hW⟩ rfl rfl hl.1 rfl (lv_room (Nat.le_of_ble_eq_true rfl)) dL_law_536 ⟨Nat.le_of_ble_eq_true rfl, Nat.le_of_ble_eq_true rfl⟩) hS (fun q _ h => hFc q h) hFc (fun r_968 u t H1 locs ht hvm hw hB hz1 hk1 hS => ?_)
  obtain ⟨hP1, hD1⟩ := hB
  rw [ht] at hP1
  obtain ⟨hP, hD⟩ := va_join (wr := [(q_714, .inr (10, fs_715)), (q_717, .inl (cI, 16, .inl f_718)), (q_725, .inl (cI, 2, .inl (fun _ => 0))), (q_728, .inl (cI, 2, .inl (fun _ => 0)))]) (w1 := []) hP hD [0, 1, 2] [3, 4, 5, 6] rfl rfl (by decide) (by decide) hk1 hFc hP1 hD1
  generalize H1 = H at hP hS ⊢
  have hP : va_P (dC, dI) vwCl [(q_714, .inr (10, fs_715)), (q_717, .inl (cI, 16, .inl f_718)), (q_725, .inl (cI, 2, .inl (fun _ => 0))), (q_728, .inl (cI, 2, .inl (fun _ => 0)))] H := hP
  have hD : va_D (fun q : Nat => s.heap.size ≤ q) [(q_714, .inr (10, fs_715)), (q_717, .inl (cI, 16, .inl f_718)), (q_725, .inl (cI, 2, .inl (fun _ => 0))), (q_728, .inl (cI, 2, .inl (fun _ => 0)))] := hD
  obtain rfl : r_968 = 0 := hw
  refine lv_aload_n hx hb dL_law_539 rfl (lv_at hl 1 rfl) ?_
  refine lv_aload_n hx hb dL_law_540 rfl (lv_at hl 3 rfl) ?_
  refine lv_iload_n hx hb dL_law_541 rfl (lv_at hl 0 rfl) ?_
  refine lv_iconst (v := 1) hx hb dL_law_542 (by decide) ?_
  refine lv_iadd hx hb dL_law_543 ?_
  refine lv_topi (fun y_969 ey_969 => ?_)
  obtain rfl : y_969 = 1 := ey_969.trans (by decide)
  refine va_sld hx hb hX hbl hbA hS (by unfold vp_in; decide) dL_law_544 ?_
  refine lv_topi (fun y_970 ey_970 => ?_)
  obtain rfl : y_970 = 0 := ey_970.trans ((congrArg xs (by decide : (1 : Int32).toNatClampNeg = 1)).trans ew1.symm)
  have hPc := hP.sub (ws' := [(q_714, .inr (10, fs_715)), (q_717, .inl (cI, 16, .inl f_718)), (q_725, .inl (cI, 2, .inl (fun _ => 0))), (q_728, .inl (cI, 2, .inl (fun _ => 0)))]) [0, 1, 2, 3] rfl
  have hDc := hD.sub (ws' := [(q_714, .inr (10, fs_715)), (q_717, .inl (cI, 16, .inl f_718)), (q_725, .inl (cI, 2, .inl (fun _ => 0))), (q_728, .inl (cI, 2, .inl (fun _ => 0)))]) [0, 1, 2, 3] (by decide) rfl
  have hFc := va_free (wc := [(q_714, .inr (10, fs_715)), (q_717, .inl (cI, 16, .inl f_718)), (q_725, .inl (cI, 2, .inl (fun _ => 0))), (q_728, .inl (cI, 2, .inl (fun _ => 0)))]) hD hS hA [0, 1, 2, 3] rfl
  refine va_calli (va_runV (As := [.int 0]) (rest := [.int 0]) ⟨hx, hb, hml, hown, hts⟩ (m_count0 l dC dI cI cB cL cZ (q_714) (q_717) (q_725) (q_728) (fs_715) (f_718) ((fun _ => 0)) ((fun _ => 0)) H.size hf_735 hf_737 hf_744 hf_747 hf_757 (hf_760) (rfl) (rfl)) (cwV 1 hts gW_X11_count rfl rfl rfl (by decide +kernel) ⟨Nat.le_of_ble_eq_true rfl, Nat.le_of_ble_eq_true rfl⟩) ⟨cP_fb, va_recv hK hPc (ci := 10) (q0 := 0) rfl rfl, fun U hU hW => cP_pre hPc hK hDc hN U hU hW⟩ rfl rfl hl.1 rfl (lv_room (Nat.le_of_ble_eq_true rfl)) dL_law_545 ⟨Nat.le_of_ble_eq_true rfl, Nat.le_of_ble_eq_true rfl⟩) hS (fun q _ h => hFc q h) hFc (fun r_971 u t H1 locs ht hvm hw hB hz1 hk1 hS => ?_)
  obtain ⟨hP1, hD1⟩ := hB
  rw [ht] at hP1
  obtain ⟨hP, hD⟩ := va_join (wr := []) (w1 := []) hP hD [0, 1, 2, 3] [] rfl rfl (by decide) (by decide) hk1 hFc hP1 hD1
  generalize H1 = H at hP hS ⊢
  have hP : va_P (dC, dI) vwCl [] H := hP
  have hD : va_D (fun q : Nat => s.heap.size ≤ q) [] := hD
  obtain rfl : r_971 = 0 := hw
  refine lv_icmp_eq (tgt := 553) hx hb dL_law_548 (by decide) (fun _ => ?_) (fun c9 => absurd (by decide) c9)
  refine lv_iinc (v := 6) (lv' := [(3, .int 6), (2, .ref q_714), (1, .ref q_664), (0, .ref b)]) hx hb dL_law_553 hl (k := 0) rfl (by decide) (by decide) rfl (fun ls hl => ?_)
  refine lv_goto (tgt := 18) hx hb dL_law_556 (by decide) ?_
  refine lv_iload_n hx hb dL_law_18 rfl (lv_at hl 0 rfl) ?_
  refine lv_aload_n hx hb dL_law_19 rfl (lv_at hl 3 rfl) ?_
  refine va_slen hx hb hX hbl hbA hS dL_law_20 ?_
  refine lv_topi (fun y_972 ey_972 => ?_)
  obtain rfl : y_972 = 6 := ey_972.trans (by decide)
  refine lv_bipush (v := 6) hx hb dL_law_21 (by decide) ?_
  refine lv_isub hx hb dL_law_23 ?_
  refine lv_topi (fun y_973 ey_973 => ?_)
  obtain rfl : y_973 = 0 := ey_973.trans (by decide)
  refine lv_icmp_gt (tgt := 559) hx hb dL_law_24 (by decide) (fun _ => ?_) (fun c9 => absurd (by decide) c9)
  refine lv_iconst (v := 1) hx hb dL_law_559 (by decide) ?_
  refine va_forget (fun q hq => hS.2.2 q hq) ?_
  exact lw_ret hx hb hr hlocks dL_law_560
