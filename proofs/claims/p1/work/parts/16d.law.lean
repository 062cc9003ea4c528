set_option maxHeartbeats 4000000 in
set_option maxRecDepth 100000 in
theorem lw_count1 {p : Program} {l : Launch} {e : Env} {s : State} {m : MethodId} {below : List Frame} {meth : Method} {c : Code} {dC : Nat → ClassId} {dI : Nat → Nat → Nat} {cI cB cL cZ : ClassId} {b : Nat} {xs : Nat → Int32} (hx : p.tables.exec = Jvm.exec) (hb : c.code = cL_law) (hr : meth.sig.returnType = ret) (hml : c.maxLocals = 4) (hown : s.vm.findClass RL = some m.cls) (hts : ∀ w ∈ lw_tbl, w.before #[Value.ref b] s = true) (hX : va_X b 6 xs s s.heap) (hbl : b < s.heap.size) (hlocks : meth.locks = false) (hK : va_K (dC, dI) vwCl (kTy cI cB cL cZ) s) (hN : nN s) {q_664 : Nat} {q_665 : Nat} {q_666 : Nat} {q_667 : Nat} {q_668 : Nat} {q_669 : Nat} {q_670 : Nat} {q_671 : Nat} {q_672 : Nat} {q_673 : Nat} {q_674 : Nat} {q_688 : Nat} {q_689 : Nat} {q_690 : Nat} {q_691 : Nat} {q_692 : Nat} {q_693 : Nat} {q_694 : Nat} {q_695 : Nat} {q_696 : Nat} {q_697 : Nat} {q_698 : Nat} {q_714 : Nat} {fs_715 : List Value} {q_717 : Nat} {f_718 : Nat → Int32} {q_725 : Nat} {q_728 : Nat} (ew1 : (1 : Int32) = xs 1) {w2 : Int32} (ew2 : w2 = xs 2) {w3 : Int32} (ew3 : w3 = xs 3) {w4 : Int32} (ew4 : w4 = xs 4) {w5 : Int32} (ew5 : w5 = xs 5) {H : Heap} {locs : List Loc} (hP : va_P (dC, dI) vwCl [(q_664, .inr (9, [.ref q_665, .int 0, .ref q_666, .ref q_667, .ref q_668, .int 0, .int (-1), .ref q_669, .ref q_670, .ref q_671, .ref q_672, .ref q_673, .ref q_674])), (q_669, .inr (6, [.ref q_688, .int (-1), .ref q_689])), (q_688, .inr (3, [.ref q_690, .ref q_691, .ref q_692, .ref q_693, .ref q_694, .ref q_695, .ref q_696, .ref q_697, .ref q_698, .int 0, .int 0, .int 0, .int 0, .int (-1)])), (q_714, .inr (10, fs_715)), (q_717, .inl (cI, 16, .inl f_718)), (q_725, .inl (cI, 2, .inl (fun _ => 0))), (q_728, .inl (cI, 2, .inl (fun _ => 0)))] H) (hD : va_D (fun q : Nat => s.heap.size ≤ q) [(q_664, .inr (9, [.ref q_665, .int 0, .ref q_666, .ref q_667, .ref q_668, .int 0, .int (-1), .ref q_669, .ref q_670, .ref q_671, .ref q_672, .ref q_673, .ref q_674])), (q_669, .inr (6, [.ref q_688, .int (-1), .ref q_689])), (q_688, .inr (3, [.ref q_690, .ref q_691, .ref q_692, .ref q_693, .ref q_694, .ref q_695, .ref q_696, .ref q_697, .ref q_698, .int 0, .int 0, .int 0, .int 0, .int (-1)])), (q_714, .inr (10, fs_715)), (q_717, .inl (cI, 16, .inl f_718)), (q_725, .inl (cI, 2, .inl (fun _ => 0))), (q_728, .inl (cI, 2, .inl (fun _ => 0)))]) (hS : va_S (fun q : Nat => s.heap.size ≤ q) s.heap H locs) {ls : Array Slot} (hl : lv_has ls 4 [(3, .int 0), (2, .ref q_714), (1, .ref q_664), (0, .ref b)]) (hf_735 : fs_715.length = 68) (hf_737 : fs_715[19]? = some (.ref q_717)) (hf_744 : fs_715[26]? = some (.ref q_725)) (hf_747 : fs_715[29]? = some (.ref q_728)) (hf_757 : fs_715[39]? = some (.int (-1))) (hf_760 : ∀ j, j < 16 → f_718 j = -1) : W p l e room_1 s m #[Value.ref b] below meth c H locs 84 30598 (lw_Z below #[Value.ref b] s) (F0 m 530 ls []) := by
  have hA : ∀ q : Nat, s.heap.size ≤ q → (fun q : Nat => s.heap.size ≤ q) q := fun _ h => h
  have hbA : ¬ (fun q : Nat => s.heap.size ≤ q) b := Nat.not_le.mpr hbl
  refine lv_aload_n hx hb dL_law_530 rfl (lv_at hl 2 rfl) ?_
  refine lv_aload_n hx hb dL_law_531 rfl (lv_at hl 3 rfl) ?_
  refine lv_iload_n hx hb dL_law_532 rfl (lv_at hl 0 rfl) ?_
  refine lv_iconst (v := 1) hx hb dL_law_533 (by decide) ?_
  refine lv_iadd hx hb dL_law_534 ?_
  refine lv_topi (fun y_974 ey_974 => ?_)
  obtain rfl : y_974 = 1 := ey_974.trans (by decide)
  refine va_sld hx hb hX hbl hbA hS (by unfold vp_in; decide) dL_law_535 ?_
  refine lv_topi (fun y_975 ey_975 => ?_)
  obtain rfl : y_975 = 1 := ey_975.trans ((congrArg xs (by decide : (1 : Int32).toNatClampNeg = 1)).trans ew1.symm)
  have hPc := hP.sub (ws' := [(q_664, .inr (9, [.ref q_665, .int 0, .ref q_666, .ref q_667, .ref q_668, .int 0, .int (-1), .ref q_669, .ref q_670, .ref q_671, .ref q_672, .ref q_673, .ref q_674])), (q_669, .inr (6, [.ref q_688, .int (-1), .ref q_689])), (q_688, .inr (3, [.ref q_690, .ref q_691, .ref q_692, .ref q_693, .ref q_694, .ref q_695, .ref q_696, .ref q_697, .ref q_698, .int 0, .int 0, .int 0, .int 0, .int (-1)]))]) [0, 1, 2] rfl
  have hDc := hD.sub (ws' := [(q_664, .inr (9, [.ref q_665, .int 0, .ref q_666, .ref q_667, .ref q_668, .int 0, .int (-1), .ref q_669, .ref q_670, .ref q_671, .ref q_672, .ref q_673, .ref q_674])), (q_669, .inr (6, [.ref q_688, .int (-1), .ref q_689])), (q_688, .inr (3, [.ref q_690, .ref q_691, .ref q_692, .ref q_693, .ref q_694, .ref q_695, .ref q_696, .ref q_697, .ref q_698, .int 0, .int 0, .int 0, .int 0, .int (-1)]))]) [0, 1, 2] (by decide) rfl
  have hFc := va_free (wc := [(q_664, .inr (9, [.ref q_665, .int 0, .ref q_666, .ref q_667, .ref q_668, .int 0, .int (-1), .ref q_669, .ref q_670, .ref q_671, .ref q_672, .ref q_673, .ref q_674])), (q_669, .inr (6, [.ref q_688, .int (-1), .ref q_689])), (q_688, .inr (3, [.ref q_690, .ref q_691, .ref q_692, .ref q_693, .ref q_694, .ref q_695, .ref q_696, .ref q_697, .ref q_698, .int 0, .int 0, .int 0, .int 0, .int (-1)]))]) hD hS hA [0, 1, 2] rfl
  refine va_calli (va_runV (As := [.int 1]) (rest := []) ⟨hx, hb, hml, hown, hts⟩ (c_count1 l dC dI cI cB cL cZ (q_664) (q_665) (q_666) (q_667) (q_668) (q_669) (q_670) (q_671) (q_672) (q_673) (q_674) (q_688) (q_689) (q_690) (q_691) (q_692) (q_693) (q_694) (q_695) (q_696) (q_697) (q_698) H.size) (cwV 1 hts gW_X10_count rfl rfl rfl (by decide +kernel) ⟨Nat.le_of_ble_eq_true rfl, Nat.le_of_ble_eq_true rfl⟩) ⟨cP_fb, va_recv hK hPc (ci := 9) (q0 := 0) rfl rfl, fun U hU hW => cP_pre hPc hK hDc hN U hU hW⟩ rfl rfl hl.1 rfl (lv_room (Nat.le_of_ble_eq_true rfl)) dL_law_536 ⟨Nat.le_of_ble_eq_true rfl, Nat.le_of_ble_eq_true rfl⟩) hS (fun q _ h => hFc q h) hFc (fun r_976 u t H1 locs ht hvm hw hB hz1 hk1 hS => ?_)
  obtain ⟨hP1, hD1⟩ := hB
  rw [ht] at hP1
  obtain ⟨hP, hD⟩ := va_join (wr := [(q_714, .inr (10, fs_715)), (q_717, .inl (cI, 16, .inl f_718)), (q_725, .inl (cI, 2, .inl (fun _ => 0))), (q_728, .inl (cI, 2, .inl (fun _ => 0)))]) (w1 := []) hP hD [0, 1, 2] [3, 4, 5, 6] rfl rfl (by decide) (by decide) hk1 hFc hP1 hD1
  generalize H1 = H at hP hS ⊢
  have hP : va_P (dC, dI) vwCl [(q_714, .inr (10, fs_715)), (q_717, .inl (cI, 16, .inl f_718)), (q_725, .inl (cI, 2, .inl (fun _ => 0))), (q_728, .inl (cI, 2, .inl (fun _ => 0)))] H := hP
  have hD : va_D (fun q : Nat => s.heap.size ≤ q) [(q_714, .inr (10, fs_715)), (q_717, .inl (cI, 16, .inl f_718)), (q_725, .inl (cI, 2, .inl (fun _ => 0))), (q_728, .inl (cI, 2, .inl (fun _ => 0)))] := hD
  obtain rfl : r_976 = 0 := hw
  refine lv_aload_n hx hb dL_law_539 rfl (lv_at hl 1 rfl) ?_
  refine lv_aload_n hx hb dL_law_540 rfl (lv_at hl 3 rfl) ?_
  refine lv_iload_n hx hb dL_law_541 rfl (lv_at hl 0 rfl) ?_
  refine lv_iconst (v := 1) hx hb dL_law_542 (by decide) ?_
  refine lv_iadd hx hb dL_law_543 ?_
  refine lv_topi (fun y_977 ey_977 => ?_)
  obtain rfl : y_977 = 1 := ey_977.trans (by decide)
  refine va_sld hx hb hX hbl hbA hS (by unfold vp_in; decide) dL_law_544 ?_
  refine lv_topi (fun y_978 ey_978 => ?_)
  obtain rfl : y_978 = 1 := ey_978.trans ((congrArg xs (by decide : (1 : Int32).toNatClampNeg = 1)).trans ew1.symm)
  have hPc := hP.sub (ws' := [(q_714, .inr (10, fs_715)), (q_717, .inl (cI, 16, .inl f_718)), (q_725, .inl (cI, 2, .inl (fun _ => 0))), (q_728, .inl (cI, 2, .inl (fun _ => 0)))]) [0, 1, 2, 3] rfl
  have hDc := hD.sub (ws' := [(q_714, .inr (10, fs_715)), (q_717, .inl (cI, 16, .inl f_718)), (q_725, .inl (cI, 2, .inl (fun _ => 0))), (q_728, .inl (cI, 2, .inl (fun _ => 0)))]) [0, 1, 2, 3] (by decide) rfl
  have hFc := va_free (wc := [(q_714, .inr (10, fs_715)), (q_717, .inl (cI, 16, .inl f_718)), (q_725, .inl (cI, 2, .inl (fun _ => 0))), (q_728, .inl (cI, 2, .inl (fun _ => 0)))]) hD hS hA [0, 1, 2, 3] rfl
  refine va_calli (va_runV (As := [.int 1]) (rest := [.int 0]) ⟨hx, hb, hml, hown, hts⟩ (m_count1 l dC dI cI cB cL cZ (q_714) (q_717) (q_725) (q_728) (fs_715) (f_718) ((fun _ => 0)) ((fun _ => 0)) H.size hf_735 hf_737 hf_744 hf_747 hf_757 (hf_760) (rfl) (rfl)) (cwV 1 hts gW_X11_count rfl rfl rfl (by decide +kernel) ⟨Nat.le_of_ble_eq_true rfl, Nat.le_of_ble_eq_true rfl⟩) ⟨cP_fb, va_recv hK hPc (ci := 10) (q0 := 0) rfl rfl, fun U hU hW => cP_pre hPc hK hDc hN U hU hW⟩ rfl rfl hl.1 rfl (lv_room (Nat.le_of_ble_eq_true rfl)) dL_law_545 ⟨Nat.le_of_ble_eq_true rfl, Nat.le_of_ble_eq_true rfl⟩) hS (fun q _ h => hFc q h) hFc (fun r_979 u t H1 locs ht hvm hw hB hz1 hk1 hS => ?_)
  obtain ⟨hP1, hD1⟩ := hB
  rw [ht] at hP1
  obtain ⟨hP, hD⟩ := va_join (wr := []) (w1 := []) hP hD [0, 1, 2, 3] [] rfl rfl (by decide) (by decide) hk1 hFc hP1 hD1
  generalize H1 = H at hP hS ⊢
  have hP : va_P (dC, dI) vwCl [] H := hP
  have hD : va_D (fun q : Nat => s.heap.size ≤ q) [] := hD
  obtain rfl : r_979 = 0 := hw
  refine lv_icmp_eq (tgt := 553) hx hb dL_law_548 (by decide) (fun _ => ?_) (fun c9 => absurd (by decide) c9)
  refine lv_iinc (v := 6) (lv' := [(3, .int 6), (2, .ref q_714), (1, .ref q_664), (0, .ref b)]) hx hb dL_law_553 hl (k := 0) rfl (by decide) (by decide) rfl (fun ls hl => ?_)
  refine lv_goto (tgt := 18) hx hb dL_law_556 (by decide) ?_
  refine lv_iload_n hx hb dL_law_18 rfl (lv_at hl 0 rfl) ?_
  refine lv_aload_n hx hb dL_law_19 rfl (lv_at hl 3 rfl) ?_
  refine va_slen hx hb hX hbl hbA hS dL_law_20 ?_
  refine lv_topi (fun y_980 ey_980 => ?_)
  obtain rfl : y_980 = 6 := ey_980.trans (by decide)
  refine lv_bipush (v := 6) hx hb dL_law_21 (by decide) ?_
  refine lv_isub hx hb dL_law_23 ?_
  refine lv_topi (fun y_981 ey_981 => ?_)
  obtain rfl : y_981 = 0 := ey_981.trans (by decide)
  refine lv_icmp_gt (tgt := 559) hx hb dL_law_24 (by decide) (fun _ => ?_) (fun c9 => absurd (by decide) c9)
  refine lv_iconst (v := 1) hx hb dL_law_559 (by decide) ?_
  refine va_forget (fun q hq => hS.2.2 q hq) ?_
  exact lw_ret hx hb hr hlocks dL_law_560

set_option maxHeartbeats 4000000 in
set_option maxRecDepth 100000 in
theorem lw_count2 {p : Program} {l : Launch} {e : Env} {s : State} {m : MethodId} {below : List Frame} {meth : Method} {c : Code} {dC : Nat → ClassId} {dI : Nat → Nat → Nat} {cI cB cL cZ : ClassId} {b : Nat} {xs : Nat → Int32} (hx : p.tables.exec = Jvm.exec) (hb : c.code = cL_law) (hr : meth.sig.returnType = ret) (hml : c.maxLocals = 4) (hown : s.vm.findClass RL = some m.cls) (hts : ∀ w ∈ lw_tbl, w.before #[Value.ref b] s = true) (hX : va_X b 6 xs s s.heap) (hbl : b < s.heap.size) (hlocks : meth.locks = false) (hK : va_K (dC, dI) vwCl (kTy cI cB cL cZ) s) (hN : nN s) {q_664 : Nat} {q_665 : Nat} {q_666 : Nat} {q_667 : Nat} {q_668 : Nat} {q_669 : Nat} {q_670 : Nat} {q_671 : Nat} {q_672 : Nat} {q_673 : Nat} {q_674 : Nat} {q_688 : Nat} {q_689 : Nat} {q_690 : Nat} {q_691 : Nat} {q_692 : Nat} {q_693 : Nat} {q_694 : Nat} {q_695 : Nat} {q_696 : Nat} {q_697 : Nat} {q_698 : Nat} {q_714 : Nat} {fs_715 : List Value} {q_717 : Nat} {f_718 : Nat → Int32} {q_725 : Nat} {q_728 : Nat} (ew1 : (2 : Int32) = xs 1) {w2 : Int32} (ew2 : w2 = xs 2) {w3 : Int32} (ew3 : w3 = xs 3) {w4 : Int32} (ew4 : w4 = xs 4) {w5 : Int32} (ew5 : w5 = xs 5) {H : Heap} {locs : List Loc} (hP : va_P (dC, dI) vwCl [(q_664, .inr (9, [.ref q_665, .int 0, .ref q_666, .ref q_667, .ref q_668, .int 0, .int (-1), .ref q_669, .ref q_670, .ref q_671, .ref q_672, .ref q_673, .ref q_674])), (q_669, .inr (6, [.ref q_688, .int (-1), .ref q_689])), (q_688, .inr (3, [.ref q_690, .ref q_691, .ref q_692, .ref q_693, .ref q_694, .ref q_695, .ref q_696, .ref q_697, .ref q_698, .int 0, .int 0, .int 0, .int 0, .int (-1)])), (q_714, .inr (10, fs_715)), (q_717, .inl (cI, 16, .inl f_718)), (q_725, .inl (cI, 2, .inl (fun _ => 0))), (q_728, .inl (cI, 2, .inl (fun _ => 0)))] H) (hD : va_D (fun q : Nat => s.heap.size ≤ q) [(q_664, .inr (9, [.ref q_665, .int 0, .ref q_666, .ref q_667, .ref q_668, .int 0, .int (-1), .ref q_669, .ref q_670, .ref q_671, .ref q_672, .ref q_673, .ref q_674])), (q_669, .inr (6, [.ref q_688, .int (-1), .ref q_689])), (q_688, .inr (3, [.ref q_690, .ref q_691, .ref q_692, .ref q_693, .ref q_694, .ref q_695, .ref q_696, .ref q_697, .ref q_698, .int 0, .int 0, .int 0, .int 0, .int (-1)])), (q_714, .inr (10, fs_715)), (q_717, .inl (cI, 16, .inl f_718)), (q_725, .inl (cI, 2, .inl (fun _ => 0))), (q_728, .inl (cI, 2, .inl (fun _ => 0)))]) (hS : va_S (fun q : Nat => s.heap.size ≤ q) s.heap H locs) {ls : Array Slot} (hl : lv_has ls 4 [(3, .int 0), (2, .ref q_714), (1, .ref q_664), (0, .ref b)]) (hf_735 : fs_715.length = 68) (hf_737 : fs_715[19]? = some (.ref q_717)) (hf_744 : fs_715[26]? = some (.ref q_725)) (hf_747 : fs_715[29]? = some (.ref q_728)) (hf_757 : fs_715[39]? = some (.int (-1))) (hf_760 : ∀ j, j < 16 → f_718 j = -1) : W p l e room_1 s m #[Value.ref b] below meth c H locs 84 30598 (lw_Z below #[Value.ref b] s) (F0 m 530 ls []) := by
  have hA : ∀ q : Nat, s.heap.size ≤ q → (fun q : Nat => s.heap.size ≤ q) q := fun _ h => h
  have hbA : ¬ (fun q : Nat => s.heap.size ≤ q) b := Nat.not_le.mpr hbl
  refine lv_aload_n hx hb dL_law_530 rfl (lv_at hl 2 rfl) ?_
  refine lv_aload_n hx hb dL_law_531 rfl (lv_at hl 3 rfl) ?_
  refine lv_iload_n hx hb dL_law_532 rfl (lv_at hl 0 rfl) ?_
  refine lv_iconst (v := 1) hx hb dL_law_533 (by decide) ?_
  refine lv_iadd hx hb dL_law_534 ?_
  refine lv_topi (fun y_982 ey_982 => ?_)
  obtain rfl : y_982 = 1 := ey_982.trans (by decide)
  refine va_sld hx hb hX hbl hbA hS (by unfold vp_in; decide) dL_law_535 ?_
  refine lv_topi (fun y_983 ey_983 => ?_)
  obtain rfl : y_983 = 2 := ey_983.trans ((congrArg xs (by decide : (1 : Int32).toNatClampNeg = 1)).trans ew1.symm)
  have hPc := hP.sub (ws' := [(q_664, .inr (9, [.ref q_665, .int 0, .ref q_666, .ref q_667, .ref q_668, .int 0, .int (-1), .ref q_669, .ref q_670, .ref q_671, .ref q_672, .ref q_673, .ref q_674])), (q_669, .inr (6, [.ref q_688, .int (-1), .ref q_689])), (q_688, .inr (3, [.ref q_690, .ref q_691, .ref q_692, .ref q_693, .ref q_694, .ref q_695, .ref q_696, .ref q_697, .ref q_698, .int 0, .int 0, .int 0, .int 0, .int (-1)]))]) [0, 1, 2] rfl
  have hDc := hD.sub (ws' := [(q_664, .inr (9, [.ref q_665, .int 0, .ref q_666, .ref q_667, .ref q_668, .int 0, .int (-1), .ref q_669, .ref q_670, .ref q_671, .ref q_672, .ref q_673, .ref q_674])), (q_669, .inr (6, [.ref q_688, .int (-1), .ref q_689])), (q_688, .inr (3, [.ref q_690, .ref q_691, .ref q_692, .ref q_693, .ref q_694, .ref q_695, .ref q_696, .ref q_697, .ref q_698, .int 0, .int 0, .int 0, .int 0, .int (-1)]))]) [0, 1, 2] (by decide) rfl
  have hFc := va_free (wc := [(q_664, .inr (9, [.ref q_665, .int 0, .ref q_666, .ref q_667, .ref q_668, .int 0, .int (-1), .ref q_669, .ref q_670, .ref q_671, .ref q_672, .ref q_673, .ref q_674])), (q_669, .inr (6, [.ref q_688, .int (-1), .ref q_689])), (q_688, .inr (3, [.ref q_690, .ref q_691, .ref q_692, .ref q_693, .ref q_694, .ref q_695, .ref q_696, .ref q_697, .ref q_698, .int 0, .int 0, .int 0, .int 0, .int (-1)]))]) hD hS hA [0, 1, 2] rfl
  refine va_calli (va_runV (As := [.int 2]) (rest := []) ⟨hx, hb, hml, hown, hts⟩ (c_count2 l dC dI cI cB cL cZ (q_664) (q_665) (q_666) (q_667) (q_668) (q_669) (q_670) (q_671) (q_672) (q_673) (q_674) (q_688) (q_689) (q_690) (q_691) (q_692) (q_693) (q_694) (q_695) (q_696) (q_697) (q_698) H.size) (cwV 1 hts gW_X10_count rfl rfl rfl (by decide +kernel) ⟨Nat.le_of_ble_eq_true rfl, Nat.le_of_ble_eq_true rfl⟩) ⟨cP_fb, va_recv hK hPc (ci := 9) (q0 := 0) rfl rfl, fun U hU hW => cP_pre hPc hK hDc hN U hU hW⟩ rfl rfl hl.1 rfl (lv_room (Nat.le_of_ble_eq_true rfl)) dL_law_536 ⟨Nat.le_of_ble_eq_true rfl, Nat.le_of_ble_eq_true rfl⟩) hS (fun q _ h => hFc q h) hFc (fun r_984 u t H1 locs ht hvm hw hB hz1 hk1 hS => ?_)
  obtain ⟨hP1, hD1⟩ := hB
  rw [ht] at hP1
  obtain ⟨hP, hD⟩ := va_join (wr := [(q_714, .inr (10, fs_715)), (q_717, .inl (cI, 16, .inl f_718)), (q_725, .inl (cI, 2, .inl (fun _ => 0))), (q_728, .inl (cI, 2, .inl (fun _ => 0)))]) (w1 := []) hP hD [0, 1, 2] [3, 4, 5, 6] rfl rfl (by decide) (by decide) hk1 hFc hP1 hD1
  generalize H1 = H at hP hS ⊢
  have hP : va_P (dC, dI) vwCl [(q_714, .inr (10, fs_715)), (q_717, .inl (cI, 16, .inl f_718)), (q_725, .inl (cI, 2, .inl (fun _ => 0))), (q_728, .inl (cI, 2, .inl (fun _ => 0)))] H := hP
  have hD : va_D (fun q : Nat => s.heap.size ≤ q) [(q_714, .inr (10, fs_715)), (q_717, .inl (cI, 16, .inl f_718)), (q_725, .inl (cI, 2, .inl (fun _ => 0))), (q_728, .inl (cI, 2, .inl (fun _ => 0)))] := hD
  obtain rfl : r_984 = 0 := hw
  refine lv_aload_n hx hb dL_law_539 rfl (lv_at hl 1 rfl) ?_
  refine lv_aload_n hx hb dL_law_540 rfl (lv_at hl 3 rfl) ?_
  refine lv_iload_n hx hb dL_law_541 rfl (lv_at hl 0 rfl) ?_
  refine lv_iconst (v := 1) hx hb dL_law_542 (by decide) ?_
  refine lv_iadd hx hb dL_law_543 ?_
  refine lv_topi (fun y_985 ey_985 => ?_)
  obtain rfl : y_985 = 1 := ey_985.trans (by decide)
  refine va_sld hx hb hX hbl hbA hS (by unfold vp_in; decide) dL_law_544 ?_
  refine lv_topi (fun y_986 ey_986 => ?_)
  obtain rfl : y_986 = 2 := ey_986.trans ((congrArg xs (by decide : (1 : Int32).toNatClampNeg = 1)).trans ew1.symm)
  have hPc := hP.sub (ws' := [(q_714, .inr (10, fs_715)), (q_717, .inl (cI, 16, .inl f_718)), (q_725, .inl (cI, 2, .inl (fun _ => 0))), (q_728, .inl (cI, 2, .inl (fun _ => 0)))]) [0, 1, 2, 3] rfl
  have hDc := hD.sub (ws' := [(q_714, .inr (10, fs_715)), (q_717, .inl (cI, 16, .inl f_718)), (q_725, .inl (cI, 2, .inl (fun _ => 0))), (q_728, .inl (cI, 2, .inl (fun _ => 0)))]) [0, 1, 2, 3] (by decide) rfl
  have hFc := va_free (wc := [(q_714, .inr (10, fs_715)), (q_717, .inl (cI, 16, .inl f_718)), (q_725, .inl (cI, 2, .inl (fun _ => 0))), (q_728, .inl (cI, 2, .inl (fun _ => 0)))]) hD hS hA [0, 1, 2, 3] rfl
  refine va_calli (va_runV (As := [.int 2]) (rest := [.int 0]) ⟨hx, hb, hml, hown, hts⟩ (m_count2 l dC dI cI cB cL cZ (q_714) (q_717) (q_725) (q_728) (fs_715) (f_718) ((fun _ => 0)) ((fun _ => 0)) H.size hf_735 hf_737 hf_744 hf_747 hf_757 (hf_760) (rfl) (rfl)) (cwV 1 hts gW_X11_count rfl rfl rfl (by decide +kernel) ⟨Nat.le_of_ble_eq_true rfl, Nat.le_of_ble_eq_true rfl⟩) ⟨cP_fb, va_recv hK hPc (ci := 10) (q0 := 0) rfl rfl, fun U hU hW => cP_pre hPc hK hDc hN U hU hW⟩ rfl rfl hl.1 rfl (lv_room (Nat.le_of_ble_eq_true rfl)) dL_law_545 ⟨Nat.le_of_ble_eq_true rfl, Nat.le_of_ble_eq_true rfl⟩) hS (fun q _ h => hFc q h) hFc (fun r_987 u t H1 locs ht hvm hw hB hz1 hk1 hS => ?_)
  obtain ⟨hP1, hD1⟩ := hB
  rw [ht] at hP1
  obtain ⟨hP, hD⟩ := va_join (wr := []) (w1 := []) hP hD [0, 1, 2, 3] [] rfl rfl (by decide) (by decide) hk1 hFc hP1 hD1
  generalize H1 = H at hP hS ⊢
  have hP : va_P (dC, dI) vwCl [] H := hP
  have hD : va_D (fun q : Nat => s.heap.size ≤ q) [] := hD
  obtain rfl : r_987 = 0 := hw
  refine lv_icmp_eq (tgt := 553) hx hb dL_law_548 (by decide) (fun _ => ?_) (fun c9 => absurd (by decide) c9)
  refine lv_iinc (v := 6) (lv' := [(3, .int 6), (2, .ref q_714), (1, .ref q_664), (0, .ref b)]) hx hb dL_law_553 hl (k := 0) rfl (by decide) (by decide) rfl (fun ls hl => ?_)
  refine lv_goto (tgt := 18) hx hb dL_law_556 (by decide) ?_
  refine lv_iload_n hx hb dL_law_18 rfl (lv_at hl 0 rfl) ?_
  refine lv_aload_n hx hb dL_law_19 rfl (lv_at hl 3 rfl) ?_
  refine va_slen hx hb hX hbl hbA hS dL_law_20 ?_
  refine lv_topi (fun y_988 ey_988 => ?_)
  obtain rfl : y_988 = 6 := ey_988.trans (by decide)
  refine lv_bipush (v := 6) hx hb dL_law_21 (by decide) ?_
  refine lv_isub hx hb dL_law_23 ?_
  refine lv_topi (fun y_989 ey_989 => ?_)
  obtain rfl : y_989 = 0 := ey_989.trans (by decide)
  refine lv_icmp_gt (tgt := 559) hx hb dL_law_24 (by decide) (fun _ => ?_) (fun c9 => absurd (by decide) c9)
  refine lv_iconst (v := 1) hx hb dL_law_559 (by decide) ?_
  refine va_forget (fun q hq => hS.2.2 q hq) ?_
  exact lw_ret hx hb hr hlocks dL_law_560

set_option maxHeartbeats 4000000 in
set_option maxRecDepth 100000 in
theorem lw_count3 {p : Program} {l : Launch} {e : Env} {s : State} {m : MethodId} {below : List Frame} {meth : Method} {c : Code} {dC : Nat → ClassId} {dI : Nat → Nat → Nat} {cI cB cL cZ : ClassId} {b : Nat} {xs : Nat → Int32} (hx : p.tables.exec = Jvm.exec) (hb : c.code = cL_law) (hr : meth.sig.returnType = ret) (hml : c.maxLocals = 4) (hown : s.vm.findClass RL = some m.cls) (hts : ∀ w ∈ lw_tbl, w.before #[Value.ref b] s = true) (hX : va_X b 6 xs s s.heap) (hbl : b < s.heap.size) (hlocks : meth.locks = false) (hK : va_K (dC, dI) vwCl (kTy cI cB cL cZ) s) (hN : nN s) {q_664 : Nat} {q_665 : Nat} {q_666 : Nat} {q_667 : Nat} {q_668 : Nat} {q_669 : Nat} {q_670 : Nat} {q_671 : Nat} {q_672 : Nat} {q_673 : Nat} {q_674 : Nat} {q_688 : Nat} {q_689 : Nat} {q_690 : Nat} {q_691 : Nat} {q_692 : Nat} {q_693 : Nat} {q_694 : Nat} {q_695 : Nat} {q_696 : Nat} {q_697 : Nat} {q_698 : Nat} {q_714 : Nat} {fs_715 : List Value} {q_717 : Nat} {f_718 : Nat → Int32} {q_725 : Nat} {q_728 : Nat} (ew1 : (3 : Int32) = xs 1) {w2 : Int32} (ew2 : w2 = xs 2) {w3 : Int32} (ew3 : w3 = xs 3) {w4 : Int32} (ew4 : w4 = xs 4) {w5 : Int32} (ew5 : w5 = xs 5) {H : Heap} {locs : List Loc} (hP : va_P (dC, dI) vwCl [(q_664, .inr (9, [.ref q_665, .int 0, .ref q_666, .ref q_667, .ref q_668, .int 0, .int (-1), .ref q_669, .ref q_670, .ref q_671, .ref q_672, .ref q_673, .ref q_674])), (q_669, .inr (6, [.ref q_688, .int (-1), .ref q_689])), (q_688, .inr (3, [.ref q_690, .ref q_691, .ref q_692, .ref q_693, .ref q_694, .ref q_695, .ref q_696, .ref q_697, .ref q_698, .int 0, .int 0, .int 0, .int 0, .int (-1)])), (q_714, .inr (10, fs_715)), (q_717, .inl (cI, 16, .inl f_718)), (q_725, .inl (cI, 2, .inl (fun _ => 0))), (q_728, .inl (cI, 2, .inl (fun _ => 0)))] H) (hD : va_D (fun q : Nat => s.heap.size ≤ q) [(q_664, .inr (9, [.ref q_665, .int 0, .ref q_666, .ref q_667, .ref q_668, .int 0, .int (-1), .ref q_669, .ref q_670, .ref q_671, .ref q_672, .ref q_673, .ref q_674])), (q_669, .inr (6, [.ref q_688, .int (-1), .ref q_689])), (q_688, .inr (3, [.ref q_690, .ref q_691, .ref q_692, .ref q_693, .ref q_694, .ref q_695, .ref q_696, .ref q_697, .ref q_698, .int 0, .int 0, .int 0, .int 0, .int (-1)])), (q_714, .inr (10, fs_715)), (q_717, .inl (cI, 16, .inl f_718)), (q_725, .inl (cI, 2, .inl (fun _ => 0))), (q_728, .inl (cI, 2, .inl (fun _ => 0)))]) (hS : va_S (fun q : Nat => s.heap.size ≤ q) s.heap H locs) {ls : Array Slot} (hl : lv_has ls 4 [(3, .int 0), (2, .ref q_714), (1, .ref q_664), (0, .ref b)]) (hf_735 : fs_715.length = 68) (hf_737 : fs_715[19]? = some (.ref q_717)) (hf_744 : fs_715[26]? = some (.ref q_725)) (hf_747 : fs_715[29]? = some (.ref q_728)) (hf_757 : fs_715[39]? = some (.int (-1))) (hf_760 : ∀ j, j < 16 → f_718 j = -1) : W p l e room_1 s m #[Value.ref b] below meth c H locs 84 30598 (lw_Z below #[Value.ref b] s) (F0 m 530 ls []) := by
  have hA : ∀ q : Nat, s.heap.size ≤ q → (fun q : Nat => s.heap.size ≤ q) q := fun _ h => h
  have hbA : ¬ (fun q : Nat => s.heap.size ≤ q) b := Nat.not_le.mpr hbl
  refine lv_aload_n hx hb dL_law_530 rfl (lv_at hl 2 rfl) ?_
  refine lv_aload_n hx hb dL_law_531 rfl (lv_at hl 3 rfl) ?_
  refine lv_iload_n hx hb dL_law_532 rfl (lv_at hl 0 rfl) ?_
  refine lv_iconst (v := 1) hx hb dL_law_533 (by decide) ?_
  refine lv_iadd hx hb dL_law_534 ?_
  refine lv_topi (fun y_990 ey_990 => ?_)
  obtain rfl : y_990 = 1 := ey_990.trans (by decide)
  refine va_sld hx hb hX hbl hbA hS (by unfold vp_in; decide) dL_law_535 ?_
  refine lv_topi (fun y_991 ey_991 => ?_)
  obtain rfl : y_991 = 3 := ey_991.trans ((congrArg xs (by decide : (1 : Int32).toNatClampNeg = 1)).trans ew1.symm)
  have hPc := hP.sub (ws' := [(q_664, .inr (9, [.ref q_665, .int 0, .ref q_666, .ref q_667, .ref q_668, .int 0, .int (-1), .ref q_669, .ref q_670, .ref q_671, .ref q_672, .ref q_673, .ref q_674])), (q_669, .inr (6, [.ref q_688, .int (-1), .ref q_689])), (q_688, .inr (3, [.ref q_690, .ref q_691, .ref q_692, .ref q_693, .ref q_694, .ref q_695, .ref q_696, .ref q_697, .ref q_698, .int 0, .int 0, .int 0, .int 0, .int (-1)]))]) [0, 1, 2] rfl
  have hDc := hD.sub (ws' := [(q_664, .inr (9, [.ref q_665, .int 0, .ref q_666, .ref q_667, .ref q_668, .int 0, .int (-1), .ref q_669, .ref q_670, .ref q_671, .ref q_672, .ref q_673, .ref q_674])), (q_669, .inr (6, [.ref q_688, .int (-1), .ref q_689])), (q_688, .inr (3, [.ref q_690, .ref q_691, .ref q_692, .ref q_693, .ref q_694, .ref q_695, .ref q_696, .ref q_697, .ref q_698, .int 0, .int 0, .int 0, .int 0, .int (-1)]))]) [0, 1, 2] (by decide) rfl
  have hFc := va_free (wc := [(q_664, .inr (9, [.ref q_665, .int 0, .ref q_666, .ref q_667, .ref q_668, .int 0, .int (-1), .ref q_669, .ref q_670, .ref q_671, .ref q_672, .ref q_673, .ref q_674])), (q_669, .inr (6, [.ref q_688, .int (-1), .ref q_689])), (q_688, .inr (3, [.ref q_690, .ref q_691, .ref q_692, .ref q_693, .ref q_694, .ref q_695, .ref q_696, .ref q_697, .ref q_698, .int 0, .int 0, .int 0, .int 0, .int (-1)]))]) hD hS hA [0, 1, 2] rfl
  refine va_calli (va_runV (As := [.int 3]) (rest := []) ⟨hx, hb, hml, hown, hts⟩ (c_count3 l dC dI cI cB cL cZ (q_664) (q_665) (q_666) (q_667) (q_668) (q_669) (q_670) (q_671) (q_672) (q_673) (q_674) (q_688) (q_689) (q_690) (q_691) (q_692) (q_693) (q_694) (q_695) (q_696) (q_697) (q_698) H.size) (cwV 1 hts gW_X10_count rfl rfl rfl (by decide +kernel) ⟨Nat.le_of_ble_eq_true rfl, Nat.le_of_ble_eq_true rfl⟩) ⟨cP_fb, va_recv hK hPc (ci := 9) (q0 := 0) rfl rfl, fun U hU hW => cP_pre hPc hK hDc hN U hU hW⟩ rfl rfl hl.1 rfl (lv_room (Nat.le_of_ble_eq_true rfl)) dL_law_536 ⟨Nat.le_of_ble_eq_true rfl, Nat.le_of_ble_eq_true rfl⟩) hS (fun q _ h => hFc q h) hFc (fun r_992 u t H1 locs ht hvm hw hB hz1 hk1 hS => ?_)
  obtain ⟨hP1, hD1⟩ := hB
  rw [ht] at hP1
  obtain ⟨hP, hD⟩ := va_join (wr := [(q_714, .inr (10, fs_715)), (q_717, .inl (cI, 16, .inl f_718)), (q_725, .inl (cI, 2, .inl (fun _ => 0))), (q_728, .inl (cI, 2, .inl (fun _ => 0)))]) (w1 := []) hP hD [0, 1, 2] [3, 4, 5, 6] rfl rfl (by decide) (by decide) hk1 hFc hP1 hD1
  generalize H1 = H at hP hS ⊢
  have hP : va_P (dC, dI) vwCl [(q_714, .inr (10, fs_715)), (q_717, .inl (cI, 16, .inl f_718)), (q_725, .inl (cI, 2, .inl (fun _ => 0))), (q_728, .inl (cI, 2, .inl (fun _ => 0)))] H := hP
  have hD : va_D (fun q : Nat => s.heap.size ≤ q) [(q_714, .inr (10, fs_715)), (q_717, .inl (cI, 16, .inl f_718)), (q_725, .inl (cI, 2, .inl (fun _ => 0))), (q_728, .inl (cI, 2, .inl (fun _ => 0)))] := hD
  obtain rfl : r_992 = (-1) := hw
  refine lv_aload_n hx hb dL_law_539 rfl (lv_at hl 1 rfl) ?_
  refine lv_aload_n hx hb dL_law_540 rfl (lv_at hl 3 rfl) ?_
  refine lv_iload_n hx hb dL_law_541 rfl (lv_at hl 0 rfl) ?_
  refine lv_iconst (v := 1) hx hb dL_law_542 (by decide) ?_
  refine lv_iadd hx hb dL_law_543 ?_
  refine lv_topi (fun y_993 ey_993 => ?_)
  obtain rfl : y_993 = 1 := ey_993.trans (by decide)
  refine va_sld hx hb hX hbl hbA hS (by unfold vp_in; decide) dL_law_544 ?_
  refine lv_topi (fun y_994 ey_994 => ?_)
  obtain rfl : y_994 = 3 := ey_994.trans ((congrArg xs (by decide : (1 : Int32).toNatClampNeg = 1)).trans ew1.symm)
  have hPc := hP.sub (ws' := [(q_714, .inr (10, fs_715)), (q_717, .inl (cI, 16, .inl f_718)), (q_725, .inl (cI, 2, .inl (fun _ => 0))), (q_728, .inl (cI, 2, .inl (fun _ => 0)))]) [0, 1, 2, 3] rfl
  have hDc := hD.sub (ws' := [(q_714, .inr (10, fs_715)), (q_717, .inl (cI, 16, .inl f_718)), (q_725, .inl (cI, 2, .inl (fun _ => 0))), (q_728, .inl (cI, 2, .inl (fun _ => 0)))]) [0, 1, 2, 3] (by decide) rfl
  have hFc := va_free (wc := [(q_714, .inr (10, fs_715)), (q_717, .inl (cI, 16, .inl f_718)), (q_725, .inl (cI, 2, .inl (fun _ => 0))), (q_728, .inl (cI, 2, .inl (fun _ => 0)))]) hD hS hA [0, 1, 2, 3] rfl
  refine va_calli (va_runV (As := [.int 3]) (rest := [.int (-1)]) ⟨hx, hb, hml, hown, hts⟩ (m_count3 l dC dI cI cB cL cZ (q_714) (q_717) (q_725) (q_728) (fs_715) (f_718) ((fun _ => 0)) ((fun _ => 0)) H.size hf_735 hf_737 hf_744 hf_747 hf_757 (hf_760) (rfl) (rfl)) (cwV 1 hts gW_X11_count rfl rfl rfl (by decide +kernel) ⟨Nat.le_of_ble_eq_true rfl, Nat.le_of_ble_eq_true rfl⟩) ⟨cP_fb, va_recv hK hPc (ci := 10) (q0 := 0) rfl rfl, fun U hU hW => cP_pre hPc hK hDc hN U hU hW⟩ rfl rfl hl.1 rfl (lv_room (Nat.le_of_ble_eq_true rfl)) dL_law_545 ⟨Nat.le_of_ble_eq_true rfl, Nat.le_of_ble_eq_true rfl⟩) hS (fun q _ h => hFc q h) hFc (fun r_995 u t H1 locs ht hvm hw hB hz1 hk1 hS => ?_)
  obtain ⟨hP1, hD1⟩ := hB
  rw [ht] at hP1
  obtain ⟨hP, hD⟩ := va_join (wr := []) (w1 := []) hP hD [0, 1, 2, 3] [] rfl rfl (by decide) (by decide) hk1 hFc hP1 hD1
  generalize H1 = H at hP hS ⊢
  have hP : va_P (dC, dI) vwCl [] H := hP
  have hD : va_D (fun q : Nat => s.heap.size ≤ q) [] := hD
  obtain rfl : r_995 = (-1) := hw
  refine lv_icmp_eq (tgt := 553) hx hb dL_law_548 (by decide) (fun _ => ?_) (fun c9 => absurd (by decide) c9)
  refine lv_iinc (v := 6) (lv' := [(3, .int 6), (2, .ref q_714), (1, .ref q_664), (0, .ref b)]) hx hb dL_law_553 hl (k := 0) rfl (by decide) (by decide) rfl (fun ls hl => ?_)
  refine lv_goto (tgt := 18) hx hb dL_law_556 (by decide) ?_
  refine lv_iload_n hx hb dL_law_18 rfl (lv_at hl 0 rfl) ?_
  refine lv_aload_n hx hb dL_law_19 rfl (lv_at hl 3 rfl) ?_
  refine va_slen hx hb hX hbl hbA hS dL_law_20 ?_
  refine lv_topi (fun y_996 ey_996 => ?_)
  obtain rfl : y_996 = 6 := ey_996.trans (by decide)
  refine lv_bipush (v := 6) hx hb dL_law_21 (by decide) ?_
  refine lv_isub hx hb dL_law_23 ?_
  refine lv_topi (fun y_997 ey_997 => ?_)
  obtain rfl : y_997 = 0 := ey_997.trans (by decide)
  refine lv_icmp_gt (tgt := 559) hx hb dL_law_24 (by decide) (fun _ => ?_) (fun c9 => absurd (by decide) c9)
  refine lv_iconst (v := 1) hx hb dL_law_559 (by decide) ?_
  refine va_forget (fun q hq => hS.2.2 q hq) ?_
  exact lw_ret hx hb hr hlocks dL_law_560

set_option maxHeartbeats 4000000 in
set_option maxRecDepth 100000 in
theorem lw_count4 {p : Program} {l : Launch} {e : Env} {s : State} {m : MethodId} {below : List Frame} {meth : Method} {c : Code} {dC : Nat → ClassId} {dI : Nat → Nat → Nat} {cI cB cL cZ : ClassId} {b : Nat} {xs : Nat → Int32} (hx : p.tables.exec = Jvm.exec) (hb : c.code = cL_law) (hr : meth.sig.returnType = ret) (hml : c.maxLocals = 4) (hown : s.vm.findClass RL = some m.cls) (hts : ∀ w ∈ lw_tbl, w.before #[Value.ref b] s = true) (hX : va_X b 6 xs s s.heap) (hbl : b < s.heap.size) (hlocks : meth.locks = false) (hK : va_K (dC, dI) vwCl (kTy cI cB cL cZ) s) (hN : nN s) {q_664 : Nat} {q_665 : Nat} {q_666 : Nat} {q_667 : Nat} {q_668 : Nat} {q_669 : Nat} {q_670 : Nat} {q_671 : Nat} {q_672 : Nat} {q_673 : Nat} {q_674 : Nat} {q_700 : Nat} {q_701 : Nat} {q_702 : Nat} {q_703 : Nat} {q_704 : Nat} {q_688 : Nat} {q_690 : Nat} {q_689 : Nat} {q_691 : Nat} {q_692 : Nat} {q_693 : Nat} {q_694 : Nat} {q_695 : Nat} {q_696 : Nat} {q_697 : Nat} {q_698 : Nat} {q_699 : Nat} {q_714 : Nat} {fs_715 : List Value} {q_725 : Nat} {q_731 : Nat} {q_730 : Nat} {q_732 : Nat} (ew1 : (4 : Int32) = xs 1) {w2 : Int32} (ew2 : w2 = xs 2) {w3 : Int32} (ew3 : w3 = xs 3) {w4 : Int32} (ew4 : w4 = xs 4) {w5 : Int32} (ew5 : w5 = xs 5) {H : Heap} {locs : List Loc} (hP : va_P (dC, dI) vwCl [(q_664, .inr (9, [.ref q_665, .int 0, .ref q_666, .ref q_667, .ref q_668, .int 0, .int (-1), .ref q_669, .ref q_670, .ref q_671, .ref q_672, .ref q_673, .ref q_674])), (q_670, .inr (1, [.ref q_669, .ref q_700, .ref q_701, .ref q_702, .ref q_703, .ref q_704, .ref q_688, .ref q_690, .int 1, .int 0, .int 0, .int 0, .long 0, .long 0])), (q_669, .inr (6, [.ref q_688, .int (-1), .ref q_689])), (q_688, .inr (3, [.ref q_690, .ref q_691, .ref q_692, .ref q_693, .ref q_694, .ref q_695, .ref q_696, .ref q_697, .ref q_698, .int 0, .int 0, .int 0, .int 0, .int (-1)])), (q_690, .inr (0, [.ref q_699, .int 0])), (q_700, .inl (cL, 304, .inr (.inl (fun _ => 0)))), (q_701, .inl (cI, 304, .inl (fun _ => 0))), (q_702, .inl (cI, 42, .inl (fun _ => 0))), (q_703, .inl (cI, 40, .inl (fun _ => 0))), (q_704, .inl (cI, 24, .inl (fun _ => 0))), (q_714, .inr (10, fs_715)), (q_725, .inl (cI, 2, .inl (fun _ => 0))), (q_731, .inl (cZ, 42, .inl (fun _ => 0))), (q_730, .inl (cI, 42, .inl (fun _ => 0))), (q_732, .inl (cI, 25, .inl (fun _ => 0)))] H) (hD : va_D (fun q : Nat => s.heap.size ≤ q) [(q_664, .inr (9, [.ref q_665, .int 0, .ref q_666, .ref q_667, .ref q_668, .int 0, .int (-1), .ref q_669, .ref q_670, .ref q_671, .ref q_672, .ref q_673, .ref q_674])), (q_670, .inr (1, [.ref q_669, .ref q_700, .ref q_701, .ref q_702, .ref q_703, .ref q_704, .ref q_688, .ref q_690, .int 1, .int 0, .int 0, .int 0, .long 0, .long 0])), (q_669, .inr (6, [.ref q_688, .int (-1), .ref q_689])), (q_688, .inr (3, [.ref q_690, .ref q_691, .ref q_692, .ref q_693, .ref q_694, .ref q_695, .ref q_696, .ref q_697, .ref q_698, .int 0, .int 0, .int 0, .int 0, .int (-1)])), (q_690, .inr (0, [.ref q_699, .int 0])), (q_700, .inl (cL, 304, .inr (.inl (fun _ => 0)))), (q_701, .inl (cI, 304, .inl (fun _ => 0))), (q_702, .inl (cI, 42, .inl (fun _ => 0))), (q_703, .inl (cI, 40, .inl (fun _ => 0))), (q_704, .inl (cI, 24, .inl (fun _ => 0))), (q_714, .inr (10, fs_715)), (q_725, .inl (cI, 2, .inl (fun _ => 0))), (q_731, .inl (cZ, 42, .inl (fun _ => 0))), (q_730, .inl (cI, 42, .inl (fun _ => 0))), (q_732, .inl (cI, 25, .inl (fun _ => 0)))]) (hS : va_S (fun q : Nat => s.heap.size ≤ q) s.heap H locs) {ls : Array Slot} (hl : lv_has ls 4 [(3, .int 0), (2, .ref q_714), (1, .ref q_664), (0, .ref b)]) (hf_735 : fs_715.length = 68) (hf_744 : fs_715[26]? = some (.ref q_725)) (hf_750 : fs_715[43]? = some (.ref q_731)) (hf_749 : fs_715[42]? = some (.ref q_730)) (hf_751 : fs_715[44]? = some (.ref q_732)) (hf_756 : fs_715[18]? = some (.int 0)) (hf_757 : fs_715[39]? = some (.int (-1))) : W p l e room_1 s m #[Value.ref b] below meth c H locs 84 30598 (lw_Z below #[Value.ref b] s) (F0 m 530 ls []) := by
  have hA : ∀ q : Nat, s.heap.size ≤ q → (fun q : Nat => s.heap.size ≤ q) q := fun _ h => h
  have hbA : ¬ (fun q : Nat => s.heap.size ≤ q) b := Nat.not_le.mpr hbl
  refine lv_aload_n hx hb dL_law_530 rfl (lv_at hl 2 rfl) ?_
  refine lv_aload_n hx hb dL_law_531 rfl (lv_at hl 3 rfl) ?_
  refine lv_iload_n hx hb dL_law_532 rfl (lv_at hl 0 rfl) ?_
  refine lv_iconst (v := 1) hx hb dL_law_533 (by decide) ?_
  refine lv_iadd hx hb dL_law_534 ?_
  refine lv_topi (fun y_998 ey_998 => ?_)
  obtain rfl : y_998 = 1 := ey_998.trans (by decide)
  refine va_sld hx hb hX hbl hbA hS (by unfold vp_in; decide) dL_law_535 ?_
  refine lv_topi (fun y_999 ey_999 => ?_)
  obtain rfl : y_999 = 4 := ey_999.trans ((congrArg xs (by decide : (1 : Int32).toNatClampNeg = 1)).trans ew1.symm)
  have hPc := hP.sub (ws' := [(q_664, .inr (9, [.ref q_665, .int 0, .ref q_666, .ref q_667, .ref q_668, .int 0, .int (-1), .ref q_669, .ref q_670, .ref q_671, .ref q_672, .ref q_673, .ref q_674])), (q_670, .inr (1, [.ref q_669, .ref q_700, .ref q_701, .ref q_702, .ref q_703, .ref q_704, .ref q_688, .ref q_690, .int 1, .int 0, .int 0, .int 0, .long 0, .long 0])), (q_669, .inr (6, [.ref q_688, .int (-1), .ref q_689])), (q_688, .inr (3, [.ref q_690, .ref q_691, .ref q_692, .ref q_693, .ref q_694, .ref q_695, .ref q_696, .ref q_697, .ref q_698, .int 0, .int 0, .int 0, .int 0, .int (-1)])), (q_690, .inr (0, [.ref q_699, .int 0])), (q_700, .inl (cL, 304, .inr (.inl (fun _ => 0)))), (q_701, .inl (cI, 304, .inl (fun _ => 0))), (q_702, .inl (cI, 42, .inl (fun _ => 0))), (q_703, .inl (cI, 40, .inl (fun _ => 0))), (q_704, .inl (cI, 24, .inl (fun _ => 0)))]) [0, 1, 2, 3, 4, 5, 6, 7, 8, 9] rfl
  have hDc := hD.sub (ws' := [(q_664, .inr (9, [.ref q_665, .int 0, .ref q_666, .ref q_667, .ref q_668, .int 0, .int (-1), .ref q_669, .ref q_670, .ref q_671, .ref q_672, .ref q_673, .ref q_674])), (q_670, .inr (1, [.ref q_669, .ref q_700, .ref q_701, .ref q_702, .ref q_703, .ref q_704, .ref q_688, .ref q_690, .int 1, .int 0, .int 0, .int 0, .long 0, .long 0])), (q_669, .inr (6, [.ref q_688, .int (-1), .ref q_689])), (q_688, .inr (3, [.ref q_690, .ref q_691, .ref q_692, .ref q_693, .ref q_694, .ref q_695, .ref q_696, .ref q_697, .ref q_698, .int 0, .int 0, .int 0, .int 0, .int (-1)])), (q_690, .inr (0, [.ref q_699, .int 0])), (q_700, .inl (cL, 304, .inr (.inl (fun _ => 0)))), (q_701, .inl (cI, 304, .inl (fun _ => 0))), (q_702, .inl (cI, 42, .inl (fun _ => 0))), (q_703, .inl (cI, 40, .inl (fun _ => 0))), (q_704, .inl (cI, 24, .inl (fun _ => 0)))]) [0, 1, 2, 3, 4, 5, 6, 7, 8, 9] (by decide) rfl
  have hFc := va_free (wc := [(q_664, .inr (9, [.ref q_665, .int 0, .ref q_666, .ref q_667, .ref q_668, .int 0, .int (-1), .ref q_669, .ref q_670, .ref q_671, .ref q_672, .ref q_673, .ref q_674])), (q_670, .inr (1, [.ref q_669, .ref q_700, .ref q_701, .ref q_702, .ref q_703, .ref q_704, .ref q_688, .ref q_690, .int 1, .int 0, .int 0, .int 0, .long 0, .long 0])), (q_669, .inr (6, [.ref q_688, .int (-1), .ref q_689])), (q_688, .inr (3, [.ref q_690, .ref q_691, .ref q_692, .ref q_693, .ref q_694, .ref q_695, .ref q_696, .ref q_697, .ref q_698, .int 0, .int 0, .int 0, .int 0, .int (-1)])), (q_690, .inr (0, [.ref q_699, .int 0])), (q_700, .inl (cL, 304, .inr (.inl (fun _ => 0)))), (q_701, .inl (cI, 304, .inl (fun _ => 0))), (q_702, .inl (cI, 42, .inl (fun _ => 0))), (q_703, .inl (cI, 40, .inl (fun _ => 0))), (q_704, .inl (cI, 24, .inl (fun _ => 0)))]) hD hS hA [0, 1, 2, 3, 4, 5, 6, 7, 8, 9] rfl
  refine va_calli (va_runV (As := [.int 4]) (rest := []) ⟨hx, hb, hml, hown, hts⟩ (c_count4 l dC dI cI cB cL cZ (q_664) (q_665) (q_666) (q_667) (q_668) (q_669) (q_670) (q_671) (q_672) (q_673) (q_674) (q_688) (q_689) (q_690) (q_691) (q_692) (q_693) (q_694) (q_695) (q_696) (q_697) (q_698) (q_699) (q_700) (q_701) (q_702) (q_703) (q_704) ((fun _ => 0)) ((fun _ => 0)) ((fun _ => 0)) ((fun _ => 0)) ((fun _ => 0)) H.size) (cwV 1 hts gW_X10_count rfl rfl rfl (by decide +kernel) ⟨Nat.le_of_ble_eq_true rfl, Nat.le_of_ble_eq_true rfl⟩) ⟨cP_fb, va_recv hK hPc (ci := 9) (q0 := 0) rfl rfl, fun U hU hW => cP_pre hPc hK hDc hN U hU hW⟩ rfl rfl hl.1 rfl (lv_room (Nat.le_of_ble_eq_true rfl)) dL_law_536 ⟨Nat.le_of_ble_eq_true rfl, Nat.le_of_ble_eq_true rfl⟩) hS (fun q _ h => hFc q h) hFc (fun r_1000 u t H1 locs ht hvm hw hB hz1 hk1 hS => ?_)
  obtain ⟨hP1, hD1⟩ := hB
  rw [ht] at hP1
  obtain ⟨hP, hD⟩ := va_join (wr := [(q_714, .inr (10, fs_715)), (q_725, .inl (cI, 2, .inl (fun _ => 0))), (q_731, .inl (cZ, 42, .inl (fun _ => 0))), (q_730, .inl (cI, 42, .inl (fun _ => 0))), (q_732, .inl (cI, 25, .inl (fun _ => 0)))]) (w1 := []) hP hD [0, 1, 2, 3, 4, 5, 6, 7, 8, 9] [10, 11, 12, 13, 14] rfl rfl (by decide) (by decide) hk1 hFc hP1 hD1
  generalize H1 = H at hP hS ⊢
  have hP : va_P (dC, dI) vwCl [(q_714, .inr (10, fs_715)), (q_725, .inl (cI, 2, .inl (fun _ => 0))), (q_731, .inl (cZ, 42, .inl (fun _ => 0))), (q_730, .inl (cI, 42, .inl (fun _ => 0))), (q_732, .inl (cI, 25, .inl (fun _ => 0)))] H := hP
  have hD : va_D (fun q : Nat => s.heap.size ≤ q) [(q_714, .inr (10, fs_715)), (q_725, .inl (cI, 2, .inl (fun _ => 0))), (q_731, .inl (cZ, 42, .inl (fun _ => 0))), (q_730, .inl (cI, 42, .inl (fun _ => 0))), (q_732, .inl (cI, 25, .inl (fun _ => 0)))] := hD
  obtain rfl : r_1000 = 0 := hw
  refine lv_aload_n hx hb dL_law_539 rfl (lv_at hl 1 rfl) ?_
  refine lv_aload_n hx hb dL_law_540 rfl (lv_at hl 3 rfl) ?_
  refine lv_iload_n hx hb dL_law_541 rfl (lv_at hl 0 rfl) ?_
  refine lv_iconst (v := 1) hx hb dL_law_542 (by decide) ?_
  refine lv_iadd hx hb dL_law_543 ?_
  refine lv_topi (fun y_1001 ey_1001 => ?_)
  obtain rfl : y_1001 = 1 := ey_1001.trans (by decide)
  refine va_sld hx hb hX hbl hbA hS (by unfold vp_in; decide) dL_law_544 ?_
  refine lv_topi (fun y_1002 ey_1002 => ?_)
  obtain rfl : y_1002 = 4 := ey_1002.trans ((congrArg xs (by decide : (1 : Int32).toNatClampNeg = 1)).trans ew1.symm)
  have hPc := hP.sub (ws' := [(q_714, .inr (10, fs_715)), (q_725, .inl (cI, 2, .inl (fun _ => 0))), (q_731, .inl (cZ, 42, .inl (fun _ => 0))), (q_730, .inl (cI, 42, .inl (fun _ => 0))), (q_732, .inl (cI, 25, .inl (fun _ => 0)))]) [0, 1, 2, 3, 4] rfl
  have hDc := hD.sub (ws' := [(q_714, .inr (10, fs_715)), (q_725, .inl (cI, 2, .inl (fun _ => 0))), (q_731, .inl (cZ, 42, .inl (fun _ => 0))), (q_730, .inl (cI, 42, .inl (fun _ => 0))), (q_732, .inl (cI, 25, .inl (fun _ => 0)))]) [0, 1, 2, 3, 4] (by decide) rfl
  have hFc := va_free (wc := [(q_714, .inr (10, fs_715)), (q_725, .inl (cI, 2, .inl (fun _ => 0))), (q_731, .inl (cZ, 42, .inl (fun _ => 0))), (q_730, .inl (cI, 42, .inl (fun _ => 0))), (q_732, .inl (cI, 25, .inl (fun _ => 0)))]) hD hS hA [0, 1, 2, 3, 4] rfl
  refine va_calli (va_runV (As := [.int 4]) (rest := [.int 0]) ⟨hx, hb, hml, hown, hts⟩ (m_count4 l dC dI cI cB cL cZ (q_714) (q_725) (q_731) (q_730) (q_732) (fs_715) ((fun _ => 0)) ((fun _ => 0)) ((fun _ => 0)) ((fun _ => 0)) H.size hf_735 hf_744 hf_750 hf_749 hf_751 hf_756 hf_757 (rfl)) (cwV 1 hts gW_X11_count rfl rfl rfl (by decide +kernel) ⟨Nat.le_of_ble_eq_true rfl, Nat.le_of_ble_eq_true rfl⟩) ⟨cP_fb, va_recv hK hPc (ci := 10) (q0 := 0) rfl rfl, fun U hU hW => cP_pre hPc hK hDc hN U hU hW⟩ rfl rfl hl.1 rfl (lv_room (Nat.le_of_ble_eq_true rfl)) dL_law_545 ⟨Nat.le_of_ble_eq_true rfl, Nat.le_of_ble_eq_true rfl⟩) hS (fun q _ h => hFc q h) hFc (fun r_1003 u t H1 locs ht hvm hw hB hz1 hk1 hS => ?_)
  obtain ⟨hP1, hD1⟩ := hB
  rw [ht] at hP1
  obtain ⟨hP, hD⟩ := va_join (wr := []) (w1 := []) hP hD [0, 1, 2, 3, 4] [] rfl rfl (by decide) (by decide) hk1 hFc hP1 hD1
  generalize H1 = H at hP hS ⊢
  have hP : va_P (dC, dI) vwCl [] H := hP
  have hD : va_D (fun q : Nat => s.heap.size ≤ q) [] := hD
  obtain rfl : r_1003 = 0 := hw
  refine lv_icmp_eq (tgt := 553) hx hb dL_law_548 (by decide) (fun _ => ?_) (fun c9 => absurd (by decide) c9)
  refine lv_iinc (v := 6) (lv' := [(3, .int 6), (2, .ref q_714), (1, .ref q_664), (0, .ref b)]) hx hb dL_law_553 hl (k := 0) rfl (by decide) (by decide) rfl (fun ls hl => ?_)
  refine lv_goto (tgt := 18) hx hb dL_law_556 (by decide) ?_
  refine lv_iload_n hx hb dL_law_18 rfl (lv_at hl 0 rfl) ?_
  refine lv_aload_n hx hb dL_law_19 rfl (lv_at hl 3 rfl) ?_
  refine va_slen hx hb hX hbl hbA hS dL_law_20 ?_
  refine lv_topi (fun y_1004 ey_1004 => ?_)
  obtain rfl : y_1004 = 6 := ey_1004.trans (by decide)
  refine lv_bipush (v := 6) hx hb dL_law_21 (by decide) ?_
  refine lv_isub hx hb dL_law_23 ?_
  refine lv_topi (fun y_1005 ey_1005 => ?_)
  obtain rfl : y_1005 = 0 := ey_1005.trans (by decide)
  refine lv_icmp_gt (tgt := 559) hx hb dL_law_24 (by decide) (fun _ => ?_) (fun c9 => absurd (by decide) c9)
  refine lv_iconst (v := 1) hx hb dL_law_559 (by decide) ?_
  refine va_forget (fun q hq => hS.2.2 q hq) ?_
  exact lw_ret hx hb hr hlocks dL_law_560

set_option maxHeartbeats 4000000 in
set_option maxRecDepth 100000 in
theorem lw_count5 {p : Program} {l : Launch} {e : Env} {s : State} {m : MethodId} {below : List Frame} {meth : Method} {c : Code} {dC : Nat → ClassId} {dI : Nat → Nat → Nat} {cI cB cL cZ : ClassId} {b : Nat} {xs : Nat → Int32} (hx : p.tables.exec = Jvm.exec) (hb : c.code = cL_law) (hr : meth.sig.returnType = ret) (hml : c.maxLocals = 4) (hown : s.vm.findClass RL = some m.cls) (hts : ∀ w ∈ lw_tbl, w.before #[Value.ref b] s = true) (hX : va_X b 6 xs s s.heap) (hbl : b < s.heap.size) (hlocks : meth.locks = false) (hK : va_K (dC, dI) vwCl (kTy cI cB cL cZ) s) (hN : nN s) {q_664 : Nat} {q_665 : Nat} {q_666 : Nat} {q_667 : Nat} {q_668 : Nat} {q_669 : Nat} {q_670 : Nat} {q_671 : Nat} {q_672 : Nat} {q_673 : Nat} {q_674 : Nat} {q_700 : Nat} {q_701 : Nat} {q_702 : Nat} {q_703 : Nat} {q_704 : Nat} {q_688 : Nat} {q_690 : Nat} {q_689 : Nat} {q_691 : Nat} {q_692 : Nat} {q_693 : Nat} {q_694 : Nat} {q_695 : Nat} {q_696 : Nat} {q_697 : Nat} {q_698 : Nat} {q_699 : Nat} {q_714 : Nat} {fs_715 : List Value} {q_725 : Nat} {q_731 : Nat} {q_730 : Nat} {q_732 : Nat} (ew1 : (5 : Int32) = xs 1) {w2 : Int32} (ew2 : w2 = xs 2) {w3 : Int32} (ew3 : w3 = xs 3) {w4 : Int32} (ew4 : w4 = xs 4) {w5 : Int32} (ew5 : w5 = xs 5) {H : Heap} {locs : List Loc} (hP : va_P (dC, dI) vwCl [(q_664, .inr (9, [.ref q_665, .int 0, .ref q_666, .ref q_667, .ref q_668, .int 0, .int (-1), .ref q_669, .ref q_670, .ref q_671, .ref q_672, .ref q_673, .ref q_674])), (q_670, .inr (1, [.ref q_669, .ref q_700, .ref q_701, .ref q_702, .ref q_703, .ref q_704, .ref q_688, .ref q_690, .int 1, .int 0, .int 0, .int 0, .long 0, .long 0])), (q_669, .inr (6, [.ref q_688, .int (-1), .ref q_689])), (q_688, .inr (3, [.ref q_690, .ref q_691, .ref q_692, .ref q_693, .ref q_694, .ref q_695, .ref q_696, .ref q_697, .ref q_698, .int 0, .int 0, .int 0, .int 0, .int (-1)])), (q_690, .inr (0, [.ref q_699, .int 0])), (q_700, .inl (cL, 304, .inr (.inl (fun _ => 0)))), (q_701, .inl (cI, 304, .inl (fun _ => 0))), (q_702, .inl (cI, 42, .inl (fun _ => 0))), (q_703, .inl (cI, 40, .inl (fun _ => 0))), (q_704, .inl (cI, 24, .inl (fun _ => 0))), (q_714, .inr (10, fs_715)), (q_725, .inl (cI, 2, .inl (fun _ => 0))), (q_731, .inl (cZ, 42, .inl (fun _ => 0))), (q_730, .inl (cI, 42, .inl (fun _ => 0))), (q_732, .inl (cI, 25, .inl (fun _ => 0)))] H) (hD : va_D (fun q : Nat => s.heap.size ≤ q) [(q_664, .inr (9, [.ref q_665, .int 0, .ref q_666, .ref q_667, .ref q_668, .int 0, .int (-1), .ref q_669, .ref q_670, .ref q_671, .ref q_672, .ref q_673, .ref q_674])), (q_670, .inr (1, [.ref q_669, .ref q_700, .ref q_701, .ref q_702, .ref q_703, .ref q_704, .ref q_688, .ref q_690, .int 1, .int 0, .int 0, .int 0, .long 0, .long 0])), (q_669, .inr (6, [.ref q_688, .int (-1), .ref q_689])), (q_688, .inr (3, [.ref q_690, .ref q_691, .ref q_692, .ref q_693, .ref q_694, .ref q_695, .ref q_696, .ref q_697, .ref q_698, .int 0, .int 0, .int 0, .int 0, .int (-1)])), (q_690, .inr (0, [.ref q_699, .int 0])), (q_700, .inl (cL, 304, .inr (.inl (fun _ => 0)))), (q_701, .inl (cI, 304, .inl (fun _ => 0))), (q_702, .inl (cI, 42, .inl (fun _ => 0))), (q_703, .inl (cI, 40, .inl (fun _ => 0))), (q_704, .inl (cI, 24, .inl (fun _ => 0))), (q_714, .inr (10, fs_715)), (q_725, .inl (cI, 2, .inl (fun _ => 0))), (q_731, .inl (cZ, 42, .inl (fun _ => 0))), (q_730, .inl (cI, 42, .inl (fun _ => 0))), (q_732, .inl (cI, 25, .inl (fun _ => 0)))]) (hS : va_S (fun q : Nat => s.heap.size ≤ q) s.heap H locs) {ls : Array Slot} (hl : lv_has ls 4 [(3, .int 0), (2, .ref q_714), (1, .ref q_664), (0, .ref b)]) (hf_735 : fs_715.length = 68) (hf_744 : fs_715[26]? = some (.ref q_725)) (hf_750 : fs_715[43]? = some (.ref q_731)) (hf_749 : fs_715[42]? = some (.ref q_730)) (hf_751 : fs_715[44]? = some (.ref q_732)) (hf_756 : fs_715[18]? = some (.int 0)) (hf_757 : fs_715[39]? = some (.int (-1))) : W p l e room_1 s m #[Value.ref b] below meth c H locs 84 30598 (lw_Z below #[Value.ref b] s) (F0 m 530 ls []) := by
  have hA : ∀ q : Nat, s.heap.size ≤ q → (fun q : Nat => s.heap.size ≤ q) q := fun _ h => h
  have hbA : ¬ (fun q : Nat => s.heap.size ≤ q) b := Nat.not_le.mpr hbl
  refine lv_aload_n hx hb dL_law_530 rfl (lv_at hl 2 rfl) ?_
  refine lv_aload_n hx hb dL_law_531 rfl (lv_at hl 3 rfl) ?_
  refine lv_iload_n hx hb dL_law_532 rfl (lv_at hl 0 rfl) ?_
  refine lv_iconst (v := 1) hx hb dL_law_533 (by decide) ?_
  refine lv_iadd hx hb dL_law_534 ?_
  refine lv_topi (fun y_1006 ey_1006 => ?_)
  obtain rfl : y_1006 = 1 := ey_1006.trans (by decide)
  refine va_sld hx hb hX hbl hbA hS (by unfold vp_in; decide) dL_law_535 ?_
  refine lv_topi (fun y_1007 ey_1007 => ?_)
  obtain rfl : y_1007 = 5 := ey_1007.trans ((congrArg xs (by decide : (1 : Int32).toNatClampNeg = 1)).trans ew1.symm)
  have hPc := hP.sub (ws' := [(q_664, .inr (9, [.ref q_665, .int 0, .ref q_666, .ref q_667, .ref q_668, .int 0, .int (-1), .ref q_669, .ref q_670, .ref q_671, .ref q_672, .ref q_673, .ref q_674])), (q_670, .inr (1, [.ref q_669, .ref q_700, .ref q_701, .ref q_702, .ref q_703, .ref q_704, .ref q_688, .ref q_690, .int 1, .int 0, .int 0, .int 0, .long 0, .long 0])), (q_669, .inr (6, [.ref q_688, .int (-1), .ref q_689])), (q_688, .inr (3, [.ref q_690, .ref q_691, .ref q_692, .ref q_693, .ref q_694, .ref q_695, .ref q_696, .ref q_697, .ref q_698, .int 0, .int 0, .int 0, .int 0, .int (-1)])), (q_690, .inr (0, [.ref q_699, .int 0])), (q_700, .inl (cL, 304, .inr (.inl (fun _ => 0)))), (q_701, .inl (cI, 304, .inl (fun _ => 0))), (q_702, .inl (cI, 42, .inl (fun _ => 0))), (q_703, .inl (cI, 40, .inl (fun _ => 0))), (q_704, .inl (cI, 24, .inl (fun _ => 0)))]) [0, 1, 2, 3, 4, 5, 6, 7, 8, 9] rfl
  have hDc := hD.sub (ws' := [(q_664, .inr (9, [.ref q_665, .int 0, .ref q_666, .ref q_667, .ref q_668, .int 0, .int (-1), .ref q_669, .ref q_670, .ref q_671, .ref q_672, .ref q_673, .ref q_674])), (q_670, .inr (1, [.ref q_669, .ref q_700, .ref q_701, .ref q_702, .ref q_703, .ref q_704, .ref q_688, .ref q_690, .int 1, .int 0, .int 0, .int 0, .long 0, .long 0])), (q_669, .inr (6, [.ref q_688, .int (-1), .ref q_689])), (q_688, .inr (3, [.ref q_690, .ref q_691, .ref q_692, .ref q_693, .ref q_694, .ref q_695, .ref q_696, .ref q_697, .ref q_698, .int 0, .int 0, .int 0, .int 0, .int (-1)])), (q_690, .inr (0, [.ref q_699, .int 0])), (q_700, .inl (cL, 304, .inr (.inl (fun _ => 0)))), (q_701, .inl (cI, 304, .inl (fun _ => 0))), (q_702, .inl (cI, 42, .inl (fun _ => 0))), (q_703, .inl (cI, 40, .inl (fun _ => 0))), (q_704, .inl (cI, 24, .inl (fun _ => 0)))]) [0, 1, 2, 3, 4, 5, 6, 7, 8, 9] (by decide) rfl
  have hFc := va_free (wc := [(q_664, .inr (9, [.ref q_665, .int 0, .ref q_666, .ref q_667, .ref q_668, .int 0, .int (-1), .ref q_669, .ref q_670, .ref q_671, .ref q_672, .ref q_673, .ref q_674])), (q_670, .inr (1, [.ref q_669, .ref q_700, .ref q_701, .ref q_702, .ref q_703, .ref q_704, .ref q_688, .ref q_690, .int 1, .int 0, .int 0, .int 0, .long 0, .long 0])), (q_669, .inr (6, [.ref q_688, .int (-1), .ref q_689])), (q_688, .inr (3, [.ref q_690, .ref q_691, .ref q_692, .ref q_693, .ref q_694, .ref q_695, .ref q_696, .ref q_697, .ref q_698, .int 0, .int 0, .int 0, .int 0, .int (-1)])), (q_690, .inr (0, [.ref q_699, .int 0])), (q_700, .inl (cL, 304, .inr (.inl (fun _ => 0)))), (q_701, .inl (cI, 304, .inl (fun _ => 0))), (q_702, .inl (cI, 42, .inl (fun _ => 0))), (q_703, .inl (cI, 40, .inl (fun _ => 0))), (q_704, .inl (cI, 24, .inl (fun _ => 0)))]) hD hS hA [0, 1, 2, 3, 4, 5, 6, 7, 8, 9] rfl
  refine va_calli (va_runV (As := [.int 5]) (rest := []) ⟨hx, hb, hml, hown, hts⟩ (c_count5 l dC dI cI cB cL cZ (q_664) (q_665) (q_666) (q_667) (q_668) (q_669) (q_670) (q_671) (q_672) (q_673) (q_674) (q_688) (q_689) (q_690) (q_691) (q_692) (q_693) (q_694) (q_695) (q_696) (q_697) (q_698) (q_699) (q_700) (q_701) (q_702) (q_703) (q_704) ((fun _ => 0)) ((fun _ => 0)) ((fun _ => 0)) ((fun _ => 0)) ((fun _ => 0)) H.size) (cwV 1 hts gW_X10_count rfl rfl rfl (by decide +kernel) ⟨Nat.le_of_ble_eq_true rfl, Nat.le_of_ble_eq_true rfl⟩) ⟨cP_fb, va_recv hK hPc (ci := 9) (q0 := 0) rfl rfl, fun U hU hW => cP_pre hPc hK hDc hN U hU hW⟩ rfl rfl hl.1 rfl (lv_room (Nat.le_of_ble_eq_true rfl)) dL_law_536 ⟨Nat.le_of_ble_eq_true rfl, Nat.le_of_ble_eq_true rfl⟩) hS (fun q _ h => hFc q h) hFc (fun r_1008 u t H1 locs ht hvm hw hB hz1 hk1 hS => ?_)
  obtain ⟨hP1, hD1⟩ := hB
  rw [ht] at hP1
  obtain ⟨hP, hD⟩ := va_join (wr := [(q_714, .inr (10, fs_715)), (q_725, .inl (cI, 2, .inl (fun _ => 0))), (q_731, .inl (cZ, 42, .inl (fun _ => 0))), (q_730, .inl (cI, 42, .inl (fun _ => 0))), (q_732, .inl (cI, 25, .inl (fun _ => 0)))]) (w1 := []) hP hD [0, 1, 2, 3, 4, 5, 6, 7, 8, 9] [10, 11, 12, 13, 14] rfl rfl (by decide) (by decide) hk1 hFc hP1 hD1
  generalize H1 = H at hP hS ⊢
  have hP : va_P (dC, dI) vwCl [(q_714, .inr (10, fs_715)), (q_725, .inl (cI, 2, .inl (fun _ => 0))), (q_731, .inl (cZ, 42, .inl (fun _ => 0))), (q_730, .inl (cI, 42, .inl (fun _ => 0))), (q_732, .inl (cI, 25, .inl (fun _ => 0)))] H := hP
  have hD : va_D (fun q : Nat => s.heap.size ≤ q) [(q_714, .inr (10, fs_715)), (q_725, .inl (cI, 2, .inl (fun _ => 0))), (q_731, .inl (cZ, 42, .inl (fun _ => 0))), (q_730, .inl (cI, 42, .inl (fun _ => 0))), (q_732, .inl (cI, 25, .inl (fun _ => 0)))] := hD
  obtain rfl : r_1008 = 0 := hw
  refine lv_aload_n hx hb dL_law_539 rfl (lv_at hl 1 rfl) ?_
  refine lv_aload_n hx hb dL_law_540 rfl (lv_at hl 3 rfl) ?_
  refine lv_iload_n hx hb dL_law_541 rfl (lv_at hl 0 rfl) ?_
  refine lv_iconst (v := 1) hx hb dL_law_542 (by decide) ?_
  refine lv_iadd hx hb dL_law_543 ?_
  refine lv_topi (fun y_1009 ey_1009 => ?_)
  obtain rfl : y_1009 = 1 := ey_1009.trans (by decide)
  refine va_sld hx hb hX hbl hbA hS (by unfold vp_in; decide) dL_law_544 ?_
  refine lv_topi (fun y_1010 ey_1010 => ?_)
  obtain rfl : y_1010 = 5 := ey_1010.trans ((congrArg xs (by decide : (1 : Int32).toNatClampNeg = 1)).trans ew1.symm)
  have hPc := hP.sub (ws' := [(q_714, .inr (10, fs_715)), (q_725, .inl (cI, 2, .inl (fun _ => 0))), (q_731, .inl (cZ, 42, .inl (fun _ => 0))), (q_730, .inl (cI, 42, .inl (fun _ => 0))), (q_732, .inl (cI, 25, .inl (fun _ => 0)))]) [0, 1, 2, 3, 4] rfl
  have hDc := hD.sub (ws' := [(q_714, .inr (10, fs_715)), (q_725, .inl (cI, 2, .inl (fun _ => 0))), (q_731, .inl (cZ, 42, .inl (fun _ => 0))), (q_730, .inl (cI, 42, .inl (fun _ => 0))), (q_732, .inl (cI, 25, .inl (fun _ => 0)))]) [0, 1, 2, 3, 4] (by decide) rfl
  have hFc := va_free (wc := [(q_714, .inr (10, fs_715)), (q_725, .inl (cI, 2, .inl (fun _ => 0))), (q_731, .inl (cZ, 42, .inl (fun _ => 0))), (q_730, .inl (cI, 42, .inl (fun _ => 0))), (q_732, .inl (cI, 25, .inl (fun _ => 0)))]) hD hS hA [0, 1, 2, 3, 4] rfl
  refine va_calli (va_runV (As := [.int 5]) (rest := [.int 0]) ⟨hx, hb, hml, hown, hts⟩ (m_count5 l dC dI cI cB cL cZ (q_714) (q_725) (q_731) (q_730) (q_732) (fs_715) ((fun _ => 0)) ((fun _ => 0)) ((fun _ => 0)) ((fun _ => 0)) H.size hf_735 hf_744 hf_750 hf_749 hf_751 hf_756 hf_757 (rfl)) (cwV 1 hts gW_X11_count rfl rfl rfl (by decide +kernel) ⟨Nat.le_of_ble_eq_true rfl, Nat.le_of_ble_eq_true rfl⟩) ⟨cP_fb, va_recv hK hPc (ci := 10) (q0 := 0) rfl rfl, fun U hU hW => cP_pre hPc hK hDc hN U hU hW⟩ rfl rfl hl.1 rfl (lv_room (Nat.le_of_ble_eq_true rfl)) dL_law_545 ⟨Nat.le_of_ble_eq_true rfl, Nat.le_of_ble_eq_true rfl⟩) hS (fun q _ h => hFc q h) hFc (fun r_1011 u t H1 locs ht hvm hw hB hz1 hk1 hS => ?_)
  obtain ⟨hP1, hD1⟩ := hB
  rw [ht] at hP1
  obtain ⟨hP, hD⟩ := va_join (wr := []) (w1 := []) hP hD [0, 1, 2, 3, 4] [] rfl rfl (by decide) (by decide) hk1 hFc hP1 hD1
  generalize H1 = H at hP hS ⊢
  have hP : va_P (dC, dI) vwCl [] H := hP
  have hD : va_D (fun q : Nat => s.heap.size ≤ q) [] := hD
  obtain rfl : r_1011 = 0 := hw
  refine lv_icmp_eq (tgt := 553) hx hb dL_law_548 (by decide) (fun _ => ?_) (fun c9 => absurd (by decide) c9)
  refine lv_iinc (v := 6) (lv' := [(3, .int 6), (2, .ref q_714), (1, .ref q_664), (0, .ref b)]) hx hb dL_law_553 hl (k := 0) rfl (by decide) (by decide) rfl (fun ls hl => ?_)
  refine lv_goto (tgt := 18) hx hb dL_law_556 (by decide) ?_
  refine lv_iload_n hx hb dL_law_18 rfl (lv_at hl 0 rfl) ?_
  refine lv_aload_n hx hb dL_law_19 rfl (lv_at hl 3 rfl) ?_
  refine va_slen hx hb hX hbl hbA hS dL_law_20 ?_
  refine lv_topi (fun y_1012 ey_1012 => ?_)
  obtain rfl : y_1012 = 6 := ey_1012.trans (by decide)
  refine lv_bipush (v := 6) hx hb dL_law_21 (by decide) ?_
  refine lv_isub hx hb dL_law_23 ?_
  refine lv_topi (fun y_1013 ey_1013 => ?_)
  obtain rfl : y_1013 = 0 := ey_1013.trans (by decide)
  refine lv_icmp_gt (tgt := 559) hx hb dL_law_24 (by decide) (fun _ => ?_) (fun c9 => absurd (by decide) c9)
  refine lv_iconst (v := 1) hx hb dL_law_559 (by decide) ?_
  refine va_forget (fun q hq => hS.2.2 q hq) ?_
  exact lw_ret hx hb hr hlocks dL_law_560

set_option maxHeartbeats 4000000 in
set_option maxRecDepth 100000 in
theorem lw_countN {p : Program} {l : Launch} {e : Env} {s : State} {m : MethodId} {below : List Frame} {meth : Method} {c : Code} {dC : Nat → ClassId} {dI : Nat → Nat → Nat} {cI cB cL cZ : ClassId} {b : Nat} {xs : Nat → Int32} (hx : p.tables.exec = Jvm.exec) (hb : c.code = cL_law) (hr : meth.sig.returnType = ret) (hml : c.maxLocals = 4) (hown : s.vm.findClass RL = some m.cls) (hts : ∀ w ∈ lw_tbl, w.before #[Value.ref b] s = true) (hX : va_X b 6 xs s s.heap) (hbl : b < s.heap.size) (hlocks : meth.locks = false) (hK : va_K (dC, dI) vwCl (kTy cI cB cL cZ) s) (hN : nN s) {q_664 : Nat} {q_665 : Nat} {q_666 : Nat} {q_667 : Nat} {q_668 : Nat} {q_669 : Nat} {q_670 : Nat} {q_671 : Nat} {q_672 : Nat} {q_673 : Nat} {q_674 : Nat} {q_714 : Nat} {fs_715 : List Value} {w1 : Int32} (ew1 : w1 = xs 1) {w2 : Int32} (ew2 : w2 = xs 2) {w3 : Int32} (ew3 : w3 = xs 3) {w4 : Int32} (ew4 : w4 = xs 4) {w5 : Int32} (ew5 : w5 = xs 5) {H : Heap} {locs : List Loc} (hP : va_P (dC, dI) vwCl [(q_664, .inr (9, [.ref q_665, .int 0, .ref q_666, .ref q_667, .ref q_668, .int 0, .int (-1), .ref q_669, .ref q_670, .ref q_671, .ref q_672, .ref q_673, .ref q_674])), (q_714, .inr (10, fs_715))] H) (hD : va_D (fun q : Nat => s.heap.size ≤ q) [(q_664, .inr (9, [.ref q_665, .int 0, .ref q_666, .ref q_667, .ref q_668, .int 0, .int (-1), .ref q_669, .ref q_670, .ref q_671, .ref q_672, .ref q_673, .ref q_674])), (q_714, .inr (10, fs_715))]) (hS : va_S (fun q : Nat => s.heap.size ≤ q) s.heap H locs) {ls : Array Slot} (hl : lv_has ls 4 [(3, .int 0), (2, .ref q_714), (1, .ref q_664), (0, .ref b)]) (hf_735 : fs_715.length = 68) (hw9 : w1.toInt < 0 ∨ 5 < w1.toInt) : W p l e room_1 s m #[Value.ref b] below meth c H locs 84 30598 (lw_Z below #[Value.ref b] s) (F0 m 530 ls []) := by
  have hA : ∀ q : Nat, s.heap.size ≤ q → (fun q : Nat => s.heap.size ≤ q) q := fun _ h => h
  have hbA : ¬ (fun q : Nat => s.heap.size ≤ q) b := Nat.not_le.mpr hbl
  refine lv_aload_n hx hb dL_law_530 rfl (lv_at hl 2 rfl) ?_
  refine lv_aload_n hx hb dL_law_531 rfl (lv_at hl 3 rfl) ?_
  refine lv_iload_n hx hb dL_law_532 rfl (lv_at hl 0 rfl) ?_
  refine lv_iconst (v := 1) hx hb dL_law_533 (by decide) ?_
  refine lv_iadd hx hb dL_law_534 ?_
  refine lv_topi (fun y_1014 ey_1014 => ?_)
  obtain rfl : y_1014 = 1 := ey_1014.trans (by decide)
  refine va_sld hx hb hX hbl hbA hS (by unfold vp_in; decide) dL_law_535 ?_
  refine lv_topi (fun y_1015 ey_1015 => ?_)
  obtain rfl : w1 = y_1015 := (ey_1015.trans ((congrArg xs (by decide : (1 : Int32).toNatClampNeg = 1)).trans ew1.symm)).symm
  have hPc := hP.sub (ws' := [(q_664, .inr (9, [.ref q_665, .int 0, .ref q_666, .ref q_667, .ref q_668, .int 0, .int (-1), .ref q_669, .ref q_670, .ref q_671, .ref q_672, .ref q_673, .ref q_674]))]) [0] rfl
  have hDc := hD.sub (ws' := [(q_664, .inr (9, [.ref q_665, .int 0, .ref q_666, .ref q_667, .ref q_668, .int 0, .int (-1), .ref q_669, .ref q_670, .ref q_671, .ref q_672, .ref q_673, .ref q_674]))]) [0] (by decide) rfl
  have hFc := va_free (wc := [(q_664, .inr (9, [.ref q_665, .int 0, .ref q_666, .ref q_667, .ref q_668, .int 0, .int (-1), .ref q_669, .ref q_670, .ref q_671, .ref q_672, .ref q_673, .ref q_674]))]) hD hS hA [0] rfl
  refine va_calli (va_runV (As := [.int w1]) (rest := []) ⟨hx, hb, hml, hown, hts⟩ (c_countN l dC dI cI cB cL cZ (q_664) (q_665) (q_666) (q_667) (q_668) (q_669) (q_670) (q_671) (q_672) (q_673) (q_674) (w1) H.size (hw9)) (cwV 1 hts gW_X10_count rfl rfl rfl (by decide +kernel) ⟨Nat.le_of_ble_eq_true rfl, Nat.le_of_ble_eq_true rfl⟩) ⟨cP_fb, va_recv hK hPc (ci := 9) (q0 := 0) rfl rfl, fun U hU hW => cP_pre hPc hK hDc hN U hU hW⟩ rfl rfl hl.1 rfl (lv_room (Nat.le_of_ble_eq_true rfl)) dL_law_536 ⟨Nat.le_of_ble_eq_true rfl, Nat.le_of_ble_eq_true rfl⟩) hS (fun q _ h => hFc q h) hFc (fun r_1016 u t H1 locs ht hvm hw hB hz1 hk1 hS => ?_)
  obtain ⟨hP1, hD1⟩ := hB
  rw [ht] at hP1
  obtain ⟨hP, hD⟩ := va_join (wr := [(q_714, .inr (10, fs_715))]) (w1 := []) hP hD [0] [1] rfl rfl (by decide) (by decide) hk1 hFc hP1 hD1
  generalize H1 = H at hP hS ⊢
  have hP : va_P (dC, dI) vwCl [(q_714, .inr (10, fs_715))] H := hP
  have hD : va_D (fun q : Nat => s.heap.size ≤ q) [(q_714, .inr (10, fs_715))] := hD
  obtain rfl : r_1016 = (-1) := hw
  refine lv_aload_n hx hb dL_law_539 rfl (lv_at hl 1 rfl) ?_
  refine lv_aload_n hx hb dL_law_540 rfl (lv_at hl 3 rfl) ?_
  refine lv_iload_n hx hb dL_law_541 rfl (lv_at hl 0 rfl) ?_
  refine lv_iconst (v := 1) hx hb dL_law_542 (by decide) ?_
  refine lv_iadd hx hb dL_law_543 ?_
  refine lv_topi (fun y_1017 ey_1017 => ?_)
  obtain rfl : y_1017 = 1 := ey_1017.trans (by decide)
  refine va_sld hx hb hX hbl hbA hS (by unfold vp_in; decide) dL_law_544 ?_
  refine lv_topi (fun y_1018 ey_1018 => ?_)
  obtain rfl : w1 = y_1018 := (ey_1018.trans ((congrArg xs (by decide : (1 : Int32).toNatClampNeg = 1)).trans ew1.symm)).symm
  have hPc := hP.sub (ws' := [(q_714, .inr (10, fs_715))]) [0] rfl
  have hDc := hD.sub (ws' := [(q_714, .inr (10, fs_715))]) [0] (by decide) rfl
  have hFc := va_free (wc := [(q_714, .inr (10, fs_715))]) hD hS hA [0] rfl
  refine va_calli (va_runV (As := [.int w1]) (rest := [.int (-1)]) ⟨hx, hb, hml, hown, hts⟩ (m_countN l dC dI cI cB cL cZ (q_714) (w1) (fs_715) H.size hf_735 (hw9)) (cwV 1 hts gW_X11_count rfl rfl rfl (by decide +kernel) ⟨Nat.le_of_ble_eq_true rfl, Nat.le_of_ble_eq_true rfl⟩) ⟨cP_fb, va_recv hK hPc (ci := 10) (q0 := 0) rfl rfl, fun U hU hW => cP_pre hPc hK hDc hN U hU hW⟩ rfl rfl hl.1 rfl (lv_room (Nat.le_of_ble_eq_true rfl)) dL_law_545 ⟨Nat.le_of_ble_eq_true rfl, Nat.le_of_ble_eq_true rfl⟩) hS (fun q _ h => hFc q h) hFc (fun r_1019 u t H1 locs ht hvm hw hB hz1 hk1 hS => ?_)
  obtain ⟨hP1, hD1⟩ := hB
  rw [ht] at hP1
  obtain ⟨hP, hD⟩ := va_join (wr := []) (w1 := []) hP hD [0] [] rfl rfl (by decide) (by decide) hk1 hFc hP1 hD1
  generalize H1 = H at hP hS ⊢
  have hP : va_P (dC, dI) vwCl [] H := hP
  have hD : va_D (fun q : Nat => s.heap.size ≤ q) [] := hD
  obtain rfl : r_1019 = (-1) := hw
  refine lv_icmp_eq (tgt := 553) hx hb dL_law_548 (by decide) (fun _ => ?_) (fun c9 => absurd (by decide) c9)
  refine lv_iinc (v := 6) (lv' := [(3, .int 6), (2, .ref q_714), (1, .ref q_664), (0, .ref b)]) hx hb dL_law_553 hl (k := 0) rfl (by decide) (by decide) rfl (fun ls hl => ?_)
  refine lv_goto (tgt := 18) hx hb dL_law_556 (by decide) ?_
  refine lv_iload_n hx hb dL_law_18 rfl (lv_at hl 0 rfl) ?_
  refine lv_aload_n hx hb dL_law_19 rfl (lv_at hl 3 rfl) ?_
  refine va_slen hx hb hX hbl hbA hS dL_law_20 ?_
  refine lv_topi (fun y_1020 ey_1020 => ?_)
  obtain rfl : y_1020 = 6 := ey_1020.trans (by decide)
  refine lv_bipush (v := 6) hx hb dL_law_21 (by decide) ?_
  refine lv_isub hx hb dL_law_23 ?_
  refine lv_topi (fun y_1021 ey_1021 => ?_)
  obtain rfl : y_1021 = 0 := ey_1021.trans (by decide)
  refine lv_icmp_gt (tgt := 559) hx hb dL_law_24 (by decide) (fun _ => ?_) (fun c9 => absurd (by decide) c9)
  refine lv_iconst (v := 1) hx hb dL_law_559 (by decide) ?_
  refine va_forget (fun q hq => hS.2.2 q hq) ?_
  exact lw_ret hx hb hr hlocks dL_law_560
