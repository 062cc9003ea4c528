set_option maxHeartbeats 4000000 in
set_option maxRecDepth 100000 in
theorem lw_mark0 {p : Program} {l : Launch} {e : Env} {s : State} {m : MethodId} {below : List Frame} {meth : Method} {c : Code} {dC : Nat → ClassId} {dI : Nat → Nat → Nat} {cI cB cL cZ : ClassId} {b : Nat} {xs : Nat → Int32} (hx : p.tables.exec = Jvm.exec) (hb : c.code = cL_law) (hr : meth.sig.returnType = ret) (hml : c.maxLocals = 4) (hown : s.vm.findClass RL = some m.cls) (hts : ∀ w ∈ lw_tbl, w.before #[Value.ref b] s = true) (hX : va_X b 6 xs s s.heap) (hbl : b < s.heap.size) (hlocks : meth.locks = false) (hK : va_K (dC, dI) vwCl (kTy cI cB cL cZ) s) (hN : nN s) {q_664 : Nat} {q_665 : Nat} {q_666 : Nat} {q_667 : Nat} {q_668 : Nat} {q_669 : Nat} {q_670 : Nat} {q_671 : Nat} {q_672 : Nat} {q_673 : Nat} {q_674 : Nat} {q_700 : Nat} {q_701 : Nat} {q_702 : Nat} {q_703 : Nat} {q_704 : Nat} {q_688 : Nat} {q_690 : Nat} {q_689 : Nat} {q_691 : Nat} {q_692 : Nat} {q_693 : Nat} {q_694 : Nat} {q_695 : Nat} {q_696 : Nat} {q_697 : Nat} {q_698 : Nat} {q_699 : Nat} {q_714 : Nat} {fs_715 : List Value} {q_717 : Nat} {f_718 : Nat → Int32} {q_731 : Nat} {q_730 : Nat} {q_732 : Nat} (ew1 : (2 : Int32) = xs 1) {w2 : Int32} (ew2 : w2 = xs 2) (ew3 : (0 : Int32) = xs 3) {w4 : Int32} (ew4 : w4 = xs 4) {w5 : Int32} (ew5 : w5 = xs 5) {H : Heap} {locs : List Loc} (hP : va_P (dC, dI) vwCl [(q_664, .inr (9, [.ref q_665, .int 0, .ref q_666, .ref q_667, .ref q_668, .int 0, .int (-1), .ref q_669, .ref q_670, .ref q_671, .ref q_672, .ref q_673, .ref q_674])), (q_670, .inr (1, [.ref q_669, .ref q_700, .ref q_701, .ref q_702, .ref q_703, .ref q_704, .ref q_688, .ref q_690, .int 1, .int 0, .int 0, .int 0, .long 0, .long 0])), (q_669, .inr (6, [.ref q_688, .int (-1), .ref q_689])), (q_688, .inr (3, [.ref q_690, .ref q_691, .ref q_692, .ref q_693, .ref q_694, .ref q_695, .ref q_696, .ref q_697, .ref q_698, .int 0, .int 0, .int 0, .int 0, .int (-1)])), (q_690, .inr (0, [.ref q_699, .int 0])), (q_700, .inl (cL, 304, .inr (.inl (fun _ => 0)))), (q_701, .inl (cI, 304, .inl (fun _ => 0))), (q_702, .inl (cI, 42, .inl (fun _ => 0))), (q_703, .inl (cI, 40, .inl (fun _ => 0))), (q_704, .inl (cI, 24, .inl (fun _ => 0))), (q_714, .inr (10, fs_715)), (q_717, .inl (cI, 16, .inl f_718)), (q_731, .inl (cZ, 42, .inl (fun _ => 0))), (q_730, .inl (cI, 42, .inl (fun _ => 0))), (q_732, .inl (cI, 25, .inl (fun _ => 0)))] H) (hD : va_D (fun q : Nat => s.heap.size ≤ q) [(q_664, .inr (9, [.ref q_665, .int 0, .ref q_666, .ref q_667, .ref q_668, .int 0, .int (-1), .ref q_669, .ref q_670, .ref q_671, .ref q_672, .ref q_673, .ref q_674])), (q_670, .inr (1, [.ref q_669, .ref q_700, .ref q_701, .ref q_702, .ref q_703, .ref q_704, .ref q_688, .ref q_690, .int 1, .int 0, .int 0, .int 0, .long 0, .long 0])), (q_669, .inr (6, [.ref q_688, .int (-1), .ref q_689])), (q_688, .inr (3, [.ref q_690, .ref q_691, .ref q_692, .ref q_693, .ref q_694, .ref q_695, .ref q_696, .ref q_697, .ref q_698, .int 0, .int 0, .int 0, .int 0, .int (-1)])), (q_690, .inr (0, [.ref q_699, .int 0])), (q_700, .inl (cL, 304, .inr (.inl (fun _ => 0)))), (q_701, .inl (cI, 304, .inl (fun _ => 0))), (q_702, .inl (cI, 42, .inl (fun _ => 0))), (q_703, .inl (cI, 40, .inl (fun _ => 0))), (q_704, .inl (cI, 24, .inl (fun _ => 0))), (q_714, .inr (10, fs_715)), (q_717, .inl (cI, 16, .inl f_718)), (q_731, .inl (cZ, 42, .inl (fun _ => 0))), (q_730, .inl (cI, 42, .inl (fun _ => 0))), (q_732, .inl (cI, 25, .inl (fun _ => 0)))]) (hS : va_S (fun q : Nat => s.heap.size ≤ q) s.heap H locs) {ls : Array Slot} (hl : lv_has ls 4 [(3, .int 0), (2, .ref q_714), (1, .ref q_664), (0, .ref b)]) (hf_735 : fs_715.length = 68) (hf_737 : fs_715[19]? = some (.ref q_717)) (hf_750 : fs_715[43]? = some (.ref q_731)) (hf_749 : fs_715[42]? = some (.ref q_730)) (hf_751 : fs_715[44]? = some (.ref q_732)) (hf_756 : fs_715[18]? = some (.int 0)) (hf_757 : fs_715[39]? = some (.int (-1))) (hf_760 : ∀ j, j < 16 → f_718 j = -1) : W p l e room_1 s m #[Value.ref b] below meth c H locs 84 30598 (lw_Z below #[Value.ref b] s) (F0 m 273 ls []) := by
  have hA : ∀ q : Nat, s.heap.size ≤ q → (fun q : Nat => s.heap.size ≤ q) q := fun _ h => h
  have hbA : ¬ (fun q : Nat => s.heap.size ≤ q) b := Nat.not_le.mpr hbl
  refine lv_aload_n hx hb dL_law_273 rfl (lv_at hl 2 rfl) ?_
  refine lv_aload_n hx hb dL_law_274 rfl (lv_at hl 3 rfl) ?_
  refine lv_iload_n hx hb dL_law_275 rfl (lv_at hl 0 rfl) ?_
  refine lv_iconst (v := 1) hx hb dL_law_276 (by decide) ?_
  refine lv_iadd hx hb dL_law_277 ?_
  refine lv_topi (fun y_830 ey_830 => ?_)
  obtain rfl : y_830 = 1 := ey_830.trans (by decide)
  refine va_sld hx hb hX hbl hbA hS (by unfold vp_in; decide) dL_law_278 ?_
  refine lv_topi (fun y_831 ey_831 => ?_)
  obtain rfl : y_831 = 2 := ey_831.trans ((congrArg xs (by decide : (1 : Int32).toNatClampNeg = 1)).trans ew1.symm)
  refine lv_aload_n hx hb dL_law_279 rfl (lv_at hl 3 rfl) ?_
  refine lv_iload_n hx hb dL_law_280 rfl (lv_at hl 0 rfl) ?_
  refine lv_iconst (v := 2) hx hb dL_law_281 (by decide) ?_
  refine lv_iadd hx hb dL_law_282 ?_
  refine lv_topi (fun y_832 ey_832 => ?_)
  obtain rfl : y_832 = 2 := ey_832.trans (by decide)
  refine va_sld hx hb hX hbl hbA hS (by unfold vp_in; decide) dL_law_283 ?_
  refine lv_topi (fun y_833 ey_833 => ?_)
  obtain rfl : w2 = y_833 := (ey_833.trans ((congrArg xs (by decide : (2 : Int32).toNatClampNeg = 2)).trans ew2.symm)).symm
  refine lv_aload_n hx hb dL_law_284 rfl (lv_at hl 3 rfl) ?_
  refine lv_iload_n hx hb dL_law_285 rfl (lv_at hl 0 rfl) ?_
  refine lv_iconst (v := 3) hx hb dL_law_286 (by decide) ?_
  refine lv_iadd hx hb dL_law_287 ?_
  refine lv_topi (fun y_834 ey_834 => ?_)
  obtain rfl : y_834 = 3 := ey_834.trans (by decide)
  refine va_sld hx hb hX hbl hbA hS (by unfold vp_in; decide) dL_law_288 ?_
  refine lv_topi (fun y_835 ey_835 => ?_)
  obtain rfl : y_835 = 0 := ey_835.trans ((congrArg xs (by decide : (3 : Int32).toNatClampNeg = 3)).trans ew3.symm)
  have hPc := hP.sub (ws' := [(q_664, .inr (9, [.ref q_665, .int 0, .ref q_666, .ref q_667, .ref q_668, .int 0, .int (-1), .ref q_669, .ref q_670, .ref q_671, .ref q_672, .ref q_673, .ref q_674])), (q_670, .inr (1, [.ref q_669, .ref q_700, .ref q_701, .ref q_702, .ref q_703, .ref q_704, .ref q_688, .ref q_690, .int 1, .int 0, .int 0, .int 0, .long 0, .long 0])), (q_669, .inr (6, [.ref q_688, .int (-1), .ref q_689])), (q_688, .inr (3, [.ref q_690, .ref q_691, .ref q_692, .ref q_693, .ref q_694, .ref q_695, .ref q_696, .ref q_697, .ref q_698, .int 0, .int 0, .int 0, .int 0, .int (-1)])), (q_690, .inr (0, [.ref q_699, .int 0])), (q_700, .inl (cL, 304, .inr (.inl (fun _ => 0)))), (q_701, .inl (cI, 304, .inl (fun _ => 0))), (q_702, .inl (cI, 42, .inl (fun _ => 0))), (q_703, .inl (cI, 40, .inl (fun _ => 0))), (q_704, .inl (cI, 24, .inl (fun _ => 0)))]) [0, 1, 2, 3, 4, 5, 6, 7, 8, 9] rfl
  have hDc := hD.sub (ws' := [(q_664, .inr (9, [.ref q_665, .int 0, .ref q_666, .ref q_667, .ref q_668, .int 0, .int (-1), .ref q_669, .ref q_670, .ref q_671, .ref q_672, .ref q_673, .ref q_674])), (q_670, .inr (1, [.ref q_669, .ref q_700, .ref q_701, .ref q_702, .ref q_703, .ref q_704, .ref q_688, .ref q_690, .int 1, .int 0, .int 0, .int 0, .long 0, .long 0])), (q_669, .inr (6, [.ref q_688, .int (-1), .ref q_689])), (q_688, .inr (3, [.ref q_690, .ref q_691, .ref q_692, .ref q_693, .ref q_694, .ref q_695, .ref q_696, .ref q_697, .ref q_698, .int 0, .int 0, .int 0, .int 0, .int (-1)])), (q_690, .inr (0, [.ref q_699, .int 0])), (q_700, .inl (cL, 304, .inr (.inl (fun _ => 0)))), (q_701, .inl (cI, 304, .inl (fun _ => 0))), (q_702, .inl (cI, 42, .inl (fun _ => 0))), (q_703, .inl (cI, 40, .inl (fun _ => 0))), (q_704, .inl (cI, 24, .inl (fun _ => 0)))]) [0, 1, 2, 3, 4, 5, 6, 7, 8, 9] (by decide) rfl
  have hFc := va_free (wc := [(q_664, .inr (9, [.ref q_665, .int 0, .ref q_666, .ref q_667, .ref q_668, .int 0, .int (-1), .ref q_669, .ref q_670, .ref q_671, .ref q_672, .ref q_673, .ref q_674])), (q_670, .inr (1, [.ref q_669, .ref q_700, .ref q_701, .ref q_702, .ref q_703, .ref q_704, .ref q_688, .ref q_690, .int 1, .int 0, .int 0, .int 0, .long 0, .long 0])), (q_669, .inr (6, [.ref q_688, .int (-1), .ref q_689])), (q_688, .inr (3, [.ref q_690, .ref q_691, .ref q_692, .ref q_693, .ref q_694, .ref q_695, .ref q_696, .ref q_697, .ref q_698, .int 0, .int 0, .int 0, .int 0, .int (-1)])), (q_690, .inr (0, [.ref q_699, .int 0])), (q_700, .inl (cL, 304, .inr (.inl (fun _ => 0)))), (q_701, .inl (cI, 304, .inl (fun _ => 0))), (q_702, .inl (cI, 42, .inl (fun _ => 0))), (q_703, .inl (cI, 40, .inl (fun _ => 0))), (q_704, .inl (cI, 24, .inl (fun _ => 0)))]) hD hS hA [0, 1, 2, 3, 4, 5, 6, 7, 8, 9] rfl
  refine va_calli (va_runV (As := [.int 2, .int w2, .int 0]) (rest := []) ⟨hx, hb, hml, hown, hts⟩ (c_mark0 l dC dI cI cB cL cZ (q_664) (q_665) (q_666) (q_667) (q_668) (q_669) (q_670) (q_671) (q_672) (q_673) (q_674) (q_688) (q_689) (q_690) (q_691) (q_692) (q_693) (q_694) (q_695) (q_696) (q_697) (q_698) (q_699) (q_700) (q_701) (q_702) (q_703) (q_704) (w2) ((fun _ => 0)) ((fun _ => 0)) ((fun _ => 0)) ((fun _ => 0)) ((fun _ => 0)) H.size) (cwV 3 hts gW_X10_mark rfl rfl rfl (by decide +kernel) ⟨Nat.le_of_ble_eq_true rfl, Nat.le_of_ble_eq_true rfl⟩) ⟨cP_fb, va_recv hK hPc (ci := 9) (q0 := 0) rfl rfl, fun U hU hW => cP_pre hPc hK hDc hN U hU hW⟩ rfl rfl hl.1 rfl (lv_room (Nat.le_of_ble_eq_true rfl)) dL_law_289 ⟨Nat.le_of_ble_eq_true rfl, Nat.le_of_ble_eq_true rfl⟩) hS (fun q _ h => hFc q h) hFc (fun r_836 u t H1 locs ht hvm hw hB hz1 hk1 hS => ?_)
  obtain ⟨hP1, hD1⟩ := hB
  rw [ht] at hP1
  obtain ⟨hP, hD⟩ := va_join (wr := [(q_714, .inr (10, fs_715)), (q_717, .inl (cI, 16, .inl f_718)), (q_731, .inl (cZ, 42, .inl (fun _ => 0))), (q_730, .inl (cI, 42, .inl (fun _ => 0))), (q_732, .inl (cI, 25, .inl (fun _ => 0)))]) (w1 := []) hP hD [0, 1, 2, 3, 4, 5, 6, 7, 8, 9] [10, 11, 12, 13, 14] rfl rfl (by decide) (by decide) hk1 hFc hP1 hD1
  generalize H1 = H at hP hS ⊢
  have hP : va_P (dC, dI) vwCl [(q_714, .inr (10, fs_715)), (q_717, .inl (cI, 16, .inl f_718)), (q_731, .inl (cZ, 42, .inl (fun _ => 0))), (q_730, .inl (cI, 42, .inl (fun _ => 0))), (q_732, .inl (cI, 25, .inl (fun _ => 0)))] H := hP
  have hD : va_D (fun q : Nat => s.heap.size ≤ q) [(q_714, .inr (10, fs_715)), (q_717, .inl (cI, 16, .inl f_718)), (q_731, .inl (cZ, 42, .inl (fun _ => 0))), (q_730, .inl (cI, 42, .inl (fun _ => 0))), (q_732, .inl (cI, 25, .inl (fun _ => 0)))] := hD
  obtain rfl : r_836 = 0 := hw
  refine lv_aload_n hx hb dL_law_292 rfl (lv_at hl 1 rfl) ?_
  refine lv_aload_n hx hb dL_law_293 rfl (lv_at hl 3 rfl) ?_
  refine lv_iload_n hx hb dL_law_294 rfl (lv_at hl 0 rfl) ?_
  refine lv_iconst (v := 1) hx hb dL_law_295 (by decide) ?_
  refine lv_iadd hx hb dL_law_296 ?_
  refine lv_topi (fun y_837 ey_837 => ?_)
  obtain rfl : y_837 = 1 := ey_837.trans (by decide)
  refine va_sld hx hb hX hbl hbA hS (by unfold vp_in; decide) dL_law_297 ?_
  refine lv_topi (fun y_838 ey_838 => ?_)
  obtain rfl : y_838 = 2 := ey_838.trans ((congrArg xs (by decide : (1 : Int32).toNatClampNeg = 1)).trans ew1.symm)
  refine lv_aload_n hx hb dL_law_298 rfl (lv_at hl 3 rfl) ?_
  refine lv_iload_n hx hb dL_law_299 rfl (lv_at hl 0 rfl) ?_
  refine lv_iconst (v := 2) hx hb dL_law_300 (by decide) ?_
  refine lv_iadd hx hb dL_law_301 ?_
  refine lv_topi (fun y_839 ey_839 => ?_)
  obtain rfl : y_839 = 2 := ey_839.trans (by decide)
  refine va_sld hx hb hX hbl hbA hS (by unfold vp_in; decide) dL_law_302 ?_
  refine lv_topi (fun y_840 ey_840 => ?_)
  obtain rfl : w2 = y_840 := (ey_840.trans ((congrArg xs (by decide : (2 : Int32).toNatClampNeg = 2)).trans ew2.symm)).symm
  refine lv_aload_n hx hb dL_law_303 rfl (lv_at hl 3 rfl) ?_
  refine lv_iload_n hx hb dL_law_304 rfl (lv_at hl 0 rfl) ?_
  refine lv_iconst (v := 3) hx hb dL_law_305 (by decide) ?_
  refine lv_iadd hx hb dL_law_306 ?_
  refine lv_topi (fun y_841 ey_841 => ?_)
  obtain rfl : y_841 = 3 := ey_841.trans (by decide)
  refine va_sld hx hb hX hbl hbA hS (by unfold vp_in; decide) dL_law_307 ?_
  refine lv_topi (fun y_842 ey_842 => ?_)
  obtain rfl : y_842 = 0 := ey_842.trans ((congrArg xs (by decide : (3 : Int32).toNatClampNeg = 3)).trans ew3.symm)
  have hPc := hP.sub (ws' := [(q_714, .inr (10, fs_715)), (q_717, .inl (cI, 16, .inl f_718)), (q_731, .inl (cZ, 42, .inl (fun _ => 0))), (q_730, .inl (cI, 42, .inl (fun _ => 0))), (q_732, .inl (cI, 25, .inl (fun _ => 0)))]) [0, 1, 2, 3, 4] rfl
  have hDc := hD.sub (ws' := [(q_714, .inr (10, fs_715)), (q_717, .inl (cI, 16, .inl f_718)), (q_731, .inl (cZ, 42, .inl (fun _ => 0))), (q_730, .inl (cI, 42, .inl (fun _ => 0))), (q_732, .inl (cI, 25, .inl (fun _ => 0)))]) [0, 1, 2, 3, 4] (by decide) rfl
  have hFc := va_free (wc := [(q_714, .inr (10, fs_715)), (q_717, .inl (cI, 16, .inl f_718)), (q_731, .inl (cZ, 42, .inl (fun _ => 0))), (q_730, .inl (cI, 42, .inl (fun _ => 0))), (q_732, .inl (cI, 25, .inl (fun _ => 0)))]) hD hS hA [0, 1, 2, 3, 4] rfl
  refine va_calli (va_runV (As := [.int 2, .int w2, .int 0]) (rest := [.int 0]) ⟨hx, hb, hml, hown, hts⟩ (m_mark0 l dC dI cI cB cL cZ (q_714) (q_717) (q_731) (q_730) (q_732) (w2) (fs_715) (f_718) ((fun _ => 0)) ((fun _ => 0)) ((fun _ => 0)) H.size hf_735 hf_737 hf_750 hf_749 hf_751 hf_756 hf_757 (hf_760)) (cwV 3 hts gW_X11_mark rfl rfl rfl (by decide +kernel) ⟨Nat.le_of_ble_eq_true rfl, Nat.le_of_ble_eq_true rfl⟩) ⟨cP_fb, va_recv hK hPc (ci := 10) (q0 := 0) rfl rfl, fun U hU hW => cP_pre hPc hK hDc hN U hU hW⟩ rfl rfl hl.1 rfl (lv_room (Nat.le_of_ble_eq_true rfl)) dL_law_308 ⟨Nat.le_of_ble_eq_true rfl, Nat.le_of_ble_eq_true rfl⟩) hS (fun q _ h => hFc q h) hFc (fun r_843 u t H1 locs ht hvm hw hB hz1 hk1 hS => ?_)
  obtain ⟨hP1, hD1⟩ := hB
  rw [ht] at hP1
  obtain ⟨hP, hD⟩ := va_join (wr := []) (w1 := []) hP hD [0, 1, 2, 3, 4] [] rfl rfl (by decide) (by decide) hk1 hFc hP1 hD1
  generalize H1 = H at hP hS ⊢
  have hP : va_P (dC, dI) vwCl [] H := hP
  have hD : va_D (fun q : Nat => s.heap.size ≤ q) [] := hD
  obtain rfl : r_843 = 0 := hw
  refine lv_icmp_eq (tgt := 553) hx hb dL_law_311 (by decide) (fun _ => ?_) (fun c9 => absurd (by decide) c9)
  refine lv_iinc (v := 6) (lv' := [(3, .int 6), (2, .ref q_714), (1, .ref q_664), (0, .ref b)]) hx hb dL_law_553 hl (k := 0) rfl (by decide) (by decide) rfl (fun ls hl => ?_)
  refine lv_goto (tgt := 18) hx hb dL_law_556 (by decide) ?_
  refine lv_iload_n hx hb dL_law_18 rfl (lv_at hl 0 rfl) ?_
  refine lv_aload_n hx hb dL_law_19 rfl (lv_at hl 3 rfl) ?_
  refine va_slen hx hb hX hbl hbA hS dL_law_20 ?_
  refine lv_topi (fun y_844 ey_844 => ?_)
  obtain rfl : y_844 = 6 := ey_844.trans (by decide)
  refine lv_bipush (v := 6) hx hb dL_law_21 (by decide) ?_
  refine lv_isub hx hb dL_law_23 ?_
  refine lv_topi (fun y_845 ey_845 => ?_)
  obtain rfl : y_845 = 0 := ey_845.trans (by decide)
  refine lv_icmp_gt (tgt := 559) hx hb dL_law_24 (by decide) (fun _ => ?_) (fun c9 => absurd (by decide) c9)
  refine lv_iconst (v := 1) hx hb dL_law_559 (by decide) ?_
  refine va_forget (fun q hq => hS.2.2 q hq) ?_
  exact lw_ret hx hb hr hlocks dL_law_560

set_option maxHeartbeats 4000000 in
set_option maxRecDepth 100000 in
theorem lw_mark1 {p : Program} {l : Launch} {e : Env} {s : State} {m : MethodId} {below : List Frame} {meth : Method} {c : Code} {dC : Nat → ClassId} {dI : Nat → Nat → Nat} {cI cB cL cZ : ClassId} {b : Nat} {xs : Nat → Int32} (hx : p.tables.exec = Jvm.exec) (hb : c.code = cL_law) (hr : meth.sig.returnType = ret) (hml : c.maxLocals = 4) (hown : s.vm.findClass RL = some m.cls) (hts : ∀ w ∈ lw_tbl, w.before #[Value.ref b] s = true) (hX : va_X b 6 xs s s.heap) (hbl : b < s.heap.size) (hlocks : meth.locks = false) (hK : va_K (dC, dI) vwCl (kTy cI cB cL cZ) s) (hN : nN s) {q_664 : Nat} {q_665 : Nat} {q_666 : Nat} {q_667 : Nat} {q_668 : Nat} {q_669 : Nat} {q_670 : Nat} {q_671 : Nat} {q_672 : Nat} {q_673 : Nat} {q_674 : Nat} {q_700 : Nat} {q_701 : Nat} {q_702 : Nat} {q_703 : Nat} {q_704 : Nat} {q_688 : Nat} {q_690 : Nat} {q_689 : Nat} {q_691 : Nat} {q_692 : Nat} {q_693 : Nat} {q_694 : Nat} {q_695 : Nat} {q_696 : Nat} {q_697 : Nat} {q_698 : Nat} {q_699 : Nat} {q_714 : Nat} {fs_715 : List Value} {q_717 : Nat} {f_718 : Nat → Int32} {q_731 : Nat} {q_730 : Nat} {q_732 : Nat} (ew1 : (2 : Int32) = xs 1) {w2 : Int32} (ew2 : w2 = xs 2) (ew3 : (1 : Int32) = xs 3) {w4 : Int32} (ew4 : w4 = xs 4) {w5 : Int32} (ew5 : w5 = xs 5) {H : Heap} {locs : List Loc} (hP : va_P (dC, dI) vwCl [(q_664, .inr (9, [.ref q_665, .int 0, .ref q_666, .ref q_667, .ref q_668, .int 0, .int (-1), .ref q_669, .ref q_670, .ref q_671, .ref q_672, .ref q_673, .ref q_674])), (q_670, .inr (1, [.ref q_669, .ref q_700, .ref q_701, .ref q_702, .ref q_703, .ref q_704, .ref q_688, .ref q_690, .int 1, .int 0, .int 0, .int 0, .long 0, .long 0])), (q_669, .inr (6, [.ref q_688, .int (-1), .ref q_689])), (q_688, .inr (3, [.ref q_690, .ref q_691, .ref q_692, .ref q_693, .ref q_694, .ref q_695, .ref q_696, .ref q_697, .ref q_698, .int 0, .int 0, .int 0, .int 0, .int (-1)])), (q_690, .inr (0, [.ref q_699, .int 0])), (q_700, .inl (cL, 304, .inr (.inl (fun _ => 0)))), (q_701, .inl (cI, 304, .inl (fun _ => 0))), (q_702, .inl (cI, 42, .inl (fun _ => 0))), (q_703, .inl (cI, 40, .inl (fun _ => 0))), (q_704, .inl (cI, 24, .inl (fun _ => 0))), (q_714, .inr (10, fs_715)), (q_717, .inl (cI, 16, .inl f_718)), (q_731, .inl (cZ, 42, .inl (fun _ => 0))), (q_730, .inl (cI, 42, .inl (fun _ => 0))), (q_732, .inl (cI, 25, .inl (fun _ => 0)))] H) (hD : va_D (fun q : Nat => s.heap.size ≤ q) [(q_664, .inr (9, [.ref q_665, .int 0, .ref q_666, .ref q_667, .ref q_668, .int 0, .int (-1), .ref q_669, .ref q_670, .ref q_671, .ref q_672, .ref q_673, .ref q_674])), (q_670, .inr (1, [.ref q_669, .ref q_700, .ref q_701, .ref q_702, .ref q_703, .ref q_704, .ref q_688, .ref q_690, .int 1, .int 0, .int 0, .int 0, .long 0, .long 0])), (q_669, .inr (6, [.ref q_688, .int (-1), .ref q_689])), (q_688, .inr (3, [.ref q_690, .ref q_691, .ref q_692, .ref q_693, .ref q_694, .ref q_695, .ref q_696, .ref q_697, .ref q_698, .int 0, .int 0, .int 0, .int 0, .int (-1)])), (q_690, .inr (0, [.ref q_699, .int 0])), (q_700, .inl (cL, 304, .inr (.inl (fun _ => 0)))), (q_701, .inl (cI, 304, .inl (fun _ => 0))), (q_702, .inl (cI, 42, .inl (fun _ => 0))), (q_703, .inl (cI, 40, .inl (fun _ => 0))), (q_704, .inl (cI, 24, .inl (fun _ => 0))), (q_714, .inr (10, fs_715)), (q_717, .inl (cI, 16, .inl f_718)), (q_731, .inl (cZ, 42, .inl (fun _ => 0))), (q_730, .inl (cI, 42, .inl (fun _ => 0))), (q_732, .inl (cI, 25, .inl (fun _ => 0)))]) (hS : va_S (fun q : Nat => s.heap.size ≤ q) s.heap H locs) {ls : Array Slot} (hl : lv_has ls 4 [(3, .int 0), (2, .ref q_714), (1, .ref q_664), (0, .ref b)]) (hf_735 : fs_715.length = 68) (hf_737 : fs_715[19]? = some (.ref q_717)) (hf_750 : fs_715[43]? = some (.ref q_731)) (hf_749 : fs_715[42]? = some (.ref q_730)) (hf_751 : fs_715[44]? = some (.ref q_732)) (hf_756 : fs_715[18]? = some (.int 0)) (hf_757 : fs_715[39]? = some (.int (-1))) (hf_760 : ∀ j, j < 16 → f_718 j = -1) : W p l e room_1 s m #[Value.ref b] below meth c H locs 84 30598 (lw_Z below #[Value.ref b] s) (F0 m 273 ls []) := by
  have hA : ∀ q : Nat, s.heap.size ≤ q → (fun q : Nat => s.heap.size ≤ q) q := fun _ h => h
  have hbA : ¬ (fun q : Nat => s.heap.size ≤ q) b := Nat.not_le.mpr hbl
  refine lv_aload_n hx hb dL_law_273 rfl (lv_at hl 2 rfl) ?_
  refine lv_aload_n hx hb dL_law_274 rfl (lv_at hl 3 rfl) ?_
  refine lv_iload_n hx hb dL_law_275 rfl (lv_at hl 0 rfl) ?_
  refine lv_iconst (v := 1) hx hb dL_law_276 (by decide) ?_
  refine lv_iadd hx hb dL_law_277 ?_
  refine lv_topi (fun y_846 ey_846 => ?_)
  obtain rfl : y_846 = 1 := ey_846.trans (by decide)
  refine va_sld hx hb hX hbl hbA hS (by unfold vp_in; decide) dL_law_278 ?_
  refine lv_topi (fun y_847 ey_847 => ?_)
  obtain rfl : y_847 = 2 := ey_847.trans ((congrArg xs (by decide : (1 : Int32).toNatClampNeg = 1)).trans ew1.symm)
  refine lv_aload_n hx hb dL_law_279 rfl (lv_at hl 3 rfl) ?_
  refine lv_iload_n hx hb dL_law_280 rfl (lv_at hl 0 rfl) ?_
  refine lv_iconst (v := 2) hx hb dL_law_281 (by decide) ?_
  refine lv_iadd hx hb dL_law_282 ?_
  refine lv_topi (fun y_848 ey_848 => ?_)
  obtain rfl : y_848 = 2 := ey_848.trans (by decide)
  refine va_sld hx hb hX hbl hbA hS (by unfold vp_in; decide) dL_law_283 ?_
  refine lv_topi (fun y_849 ey_849 => ?_)
  obtain rfl : w2 = y_849 := (ey_849.trans ((congrArg xs (by decide : (2 : Int32).toNatClampNeg = 2)).trans ew2.symm)).symm
  refine lv_aload_n hx hb dL_law_284 rfl (lv_at hl 3 rfl) ?_
  refine lv_iload_n hx hb dL_law_285 rfl (lv_at hl 0 rfl) ?_
  refine lv_iconst (v := 3) hx hb dL_law_286 (by decide) ?_
  refine lv_iadd hx hb dL_law_287 ?_
  refine lv_topi (fun y_850 ey_850 => ?_)
  obtain rfl : y_850 = 3 := ey_850.trans (by decide)
  refine va_sld hx hb hX hbl hbA hS (by unfold vp_in; decide) dL_law_288 ?_
  refine lv_topi (fun y_851 ey_851 => ?_)
  obtain rfl : y_851 = 1 := ey_851.trans ((congrArg xs (by decide : (3 : Int32).toNatClampNeg = 3)).trans ew3.symm)
  have hPc := hP.sub (ws' := [(q_664, .inr (9, [.ref q_665, .int 0, .ref q_666, .ref q_667, .ref q_668, .int 0, .int (-1), .ref q_669, .ref q_670, .ref q_671, .ref q_672, .ref q_673, .ref q_674])), (q_670, .inr (1, [.ref q_669, .ref q_700, .ref q_701, .ref q_702, .ref q_703, .ref q_704, .ref q_688, .ref q_690, .int 1, .int 0, .int 0, .int 0, .long 0, .long 0])), (q_669, .inr (6, [.ref q_688, .int (-1), .ref q_689])), (q_688, .inr (3, [.ref q_690, .ref q_691, .ref q_692, .ref q_693, .ref q_694, .ref q_695, .ref q_696, .ref q_697, .ref q_698, .int 0, .int 0, .int 0, .int 0, .int (-1)])), (q_690, .inr (0, [.ref q_699, .int 0])), (q_700, .inl (cL, 304, .inr (.inl (fun _ => 0)))), (q_701, .inl (cI, 304, .inl (fun _ => 0))), (q_702, .inl (cI, 42, .inl (fun _ => 0))), (q_703, .inl (cI, 40, .inl (fun _ => 0))), (q_704, .inl (cI, 24, .inl (fun _ => 0)))]) [0, 1, 2, 3, 4, 5, 6, 7, 8, 9] rfl
  have hDc := hD.sub (ws' := [(q_664, .inr (9, [.ref q_665, .int 0, .ref q_666, .ref q_667, .ref q_668, .int 0, .int (-1), .ref q_669, .ref q_670, .ref q_671, .ref q_672, .ref q_673, .ref q_674])), (q_670, .inr (1, [.ref q_669, .ref q_700, .ref q_701, .ref q_702, .ref q_703, .ref q_704, .ref q_688, .ref q_690, .int 1, .int 0, .int 0, .int 0, .long 0, .long 0])), (q_669, .inr (6, [.ref q_688, .int (-1), .ref q_689])), (q_688, .inr (3, [.ref q_690, .ref q_691, .ref q_692, .ref q_693, .ref q_694, .ref q_695, .ref q_696, .ref q_697, .ref q_698, .int 0, .int 0, .int 0, .int 0, .int (-1)])), (q_690, .inr (0, [.ref q_699, .int 0])), (q_700, .inl (cL, 304, .inr (.inl (fun _ => 0)))), (q_701, .inl (cI, 304, .inl (fun _ => 0))), (q_702, .inl (cI, 42, .inl (fun _ => 0))), (q_703, .inl (cI, 40, .inl (fun _ => 0))), (q_704, .inl (cI, 24, .inl (fun _ => 0)))]) [0, 1, 2, 3, 4, 5, 6, 7, 8, 9] (by decide) rfl
  have hFc := va_free (wc := [(q_664, .inr (9, [.ref q_665, .int 0, .ref q_666, .ref q_667, .ref q_668, .int 0, .int (-1), .ref q_669, .ref q_670, .ref q_671, .ref q_672, .ref q_673, .ref q_674])), (q_670, .inr (1, [.ref q_669, .ref q_700, .ref q_701, .ref q_702, .ref q_703, .ref q_704, .ref q_688, .ref q_690, .int 1, .int 0, .int 0, .int 0, .long 0, .long 0])), (q_669, .inr (6, [.ref q_688, .int (-1), .ref q_689])), (q_688, .inr (3, [.ref q_690, .ref q_691, .ref q_692, .ref q_693, .ref q_694, .ref q_695, .ref q_696, .ref q_697, .ref q_698, .int 0, .int 0, .int 0, .int 0, .int (-1)])), (q_690, .inr (0, [.ref q_699, .int 0])), (q_700, .inl (cL, 304, .inr (.inl (fun _ => 0)))), (q_701, .inl (cI, 304, .inl (fun _ => 0))), (q_702, .inl (cI, 42, .inl (fun _ => 0))), (q_703, .inl (cI, 40, .inl (fun _ => 0))), (q_704, .inl (cI, 24, .inl (fun _ => 0)))]) hD hS hA [0, 1, 2, 3, 4, 5, 6, 7, 8, 9] rfl
  refine va_calli (va_runV (As := [.int 2, .int w2, .int 1]) (rest := []) ⟨hx, hb, hml, hown, hts⟩ (c_mark1 l dC dI cI cB cL cZ (q_664) (q_665) (q_666) (q_667) (q_668) (q_669) (q_670) (q_671) (q_672) (q_673) (q_674) (q_688) (q_689) (q_690) (q_691) (q_692) (q_693) (q_694) (q_695) (q_696) (q_697) (q_698) (q_699) (q_700) (q_701) (q_702) (q_703) (q_704) (w2) ((fun _ => 0)) ((fun _ => 0)) ((fun _ => 0)) ((fun _ => 0)) ((fun _ => 0)) H.size) (cwV 3 hts gW_X10_mark rfl rfl rfl (by decide +kernel) ⟨Nat.le_of_ble_eq_true rfl, Nat.le_of_ble_eq_true rfl⟩) ⟨cP_fb, va_recv hK hPc (ci := 9) (q0 := 0) rfl rfl, fun U hU hW => cP_pre hPc hK hDc hN U hU hW⟩ rfl rfl hl.1 rfl (lv_room (Nat.le_of_ble_eq_true rfl)) dL_law_289 ⟨Nat.le_of_ble_eq_true rfl, Nat.le_of_ble_eq_true rfl⟩) hS (fun q _ h => hFc q h) hFc (fun r_852 u t H1 locs ht hvm hw hB hz1 hk1 hS => ?_)
  obtain ⟨hP1, hD1⟩ := hB
  rw [ht] at hP1
  obtain ⟨hP, hD⟩ := va_join (wr := [(q_714, .inr (10, fs_715)), (q_717, .inl (cI, 16, .inl f_718)), (q_731, .inl (cZ, 42, .inl (fun _ => 0))), (q_730, .inl (cI, 42, .inl (fun _ => 0))), (q_732, .inl (cI, 25, .inl (fun _ => 0)))]) (w1 := []) hP hD [0, 1, 2, 3, 4, 5, 6, 7, 8, 9] [10, 11, 12, 13, 14] rfl rfl (by decide) (by decide) hk1 hFc hP1 hD1
  generalize H1 = H at hP hS ⊢
  have hP : va_P (dC, dI) vwCl [(q_714, .inr (10, fs_715)), (q_717, .inl (cI, 16, .inl f_718)), (q_731, .inl (cZ, 42, .inl (fun _ => 0))), (q_730, .inl (cI, 42, .inl (fun _ => 0))), (q_732, .inl (cI, 25, .inl (fun _ => 0)))] H := hP
  have hD : va_D (fun q : Nat => s.heap.size ≤ q) [(q_714, .inr (10, fs_715)), (q_717, .inl (cI, 16, .inl f_718)), (q_731, .inl (cZ, 42, .inl (fun _ => 0))), (q_730, .inl (cI, 42, .inl (fun _ => 0))), (q_732, .inl (cI, 25, .inl (fun _ => 0)))] := hD
  obtain rfl : r_852 = 0 := hw
  refine lv_aload_n hx hb dL_law_292 rfl (lv_at hl 1 rfl) ?_
  refine lv_aload_n hx hb dL_law_293 rfl (lv_at hl 3 rfl) ?_
  refine lv_iload_n hx hb dL_law_294 rfl (lv_at hl 0 rfl) ?_
  refine lv_iconst (v := 1) hx hb dL_law_295 (by decide) ?_
  refine lv_iadd hx hb dL_law_296 ?_
  refine lv_topi (fun y_853 ey_853 => ?_)
  obtain rfl : y_853 = 1 := ey_853.trans (by decide)
  refine va_sld hx hb hX hbl hbA hS (by unfold vp_in; decide) dL_law_297 ?_
  refine lv_topi (fun y_854 ey_854 => ?_)
  obtain rfl : y_854 = 2 := ey_854.trans ((congrArg xs (by decide : (1 : Int32).toNatClampNeg = 1)).trans ew1.symm)
  refine lv_aload_n hx hb dL_law_298 rfl (lv_at hl 3 rfl) ?_
  refine lv_iload_n hx hb dL_law_299 rfl (lv_at hl 0 rfl) ?_
  refine lv_iconst (v := 2) hx hb dL_law_300 (by decide) ?_
  refine lv_iadd hx hb dL_law_301 ?_
  refine lv_topi (fun y_855 ey_855 => ?_)
  obtain rfl : y_855 = 2 := ey_855.trans (by decide)
  refine va_sld hx hb hX hbl hbA hS (by unfold vp_in; decide) dL_law_302 ?_
  refine lv_topi (fun y_856 ey_856 => ?_)
  obtain rfl : w2 = y_856 := (ey_856.trans ((congrArg xs (by decide : (2 : Int32).toNatClampNeg = 2)).trans ew2.symm)).symm
  refine lv_aload_n hx hb dL_law_303 rfl (lv_at hl 3 rfl) ?_
  refine lv_iload_n hx hb dL_law_304 rfl (lv_at hl 0 rfl) ?_
  refine lv_iconst (v := 3) hx hb dL_law_305 (by decide) ?_
  refine lv_iadd hx hb dL_law_306 ?_
  refine lv_topi (fun y_857 ey_857 => ?_)
  obtain rfl : y_857 = 3 := ey_857.trans (by decide)
  refine va_sld hx hb hX hbl hbA hS (by unfold vp_in; decide) dL_law_307 ?_
  refine lv_topi (fun y_858 ey_858 => ?_)
  obtain rfl : y_858 = 1 := ey_858.trans ((congrArg xs (by decide : (3 : Int32).toNatClampNeg = 3)).trans ew3.symm)
  have hPc := hP.sub (ws' := [(q_714, .inr (10, fs_715)), (q_717, .inl (cI, 16, .inl f_718)), (q_731, .inl (cZ, 42, .inl (fun _ => 0))), (q_730, .inl (cI, 42, .inl (fun _ => 0))), (q_732, .inl (cI, 25, .inl (fun _ => 0)))]) [0, 1, 2, 3, 4] rfl
  have hDc := hD.sub (ws' := [(q_714, .inr (10, fs_715)), (q_717, .inl (cI, 16, .inl f_718)), (q_731, .inl (cZ, 42, .inl (fun _ => 0))), (q_730, .inl (cI, 42, .inl (fun _ => 0))), (q_732, .inl (cI, 25, .inl (fun _ => 0)))]) [0, 1, 2, 3, 4] (by decide) rfl
  have hFc := va_free (wc := [(q_714, .inr (10, fs_715)), (q_717, .inl (cI, 16, .inl f_718)), (q_731, .inl (cZ, 42, .inl (fun _ => 0))), (q_730, .inl (cI, 42, .inl (fun _ => 0))), (q_732, .inl (cI, 25, .inl (fun _ => 0)))]) hD hS hA [0, 1, 2, 3, 4] rfl
  refine va_calli (va_runV (As := [.int 2, .int w2, .int 1]) (rest := [.int 0]) ⟨hx, hb, hml, hown, hts⟩ (m_mark1 l dC dI cI cB cL cZ (q_714) (q_717) (q_731) (q_730) (q_732) (w2) (fs_715) (f_718) ((fun _ => 0)) ((fun _ => 0)) ((fun _ => 0)) H.size hf_735 hf_737 hf_750 hf_749 hf_751 hf_756 hf_757 (hf_760)) (cwV 3 hts gW_X11_mark rfl rfl rfl (by decide +kernel) ⟨Nat.le_of_ble_eq_true rfl, Nat.le_of_ble_eq_true rfl⟩) ⟨cP_fb, va_recv hK hPc (ci := 10) (q0 := 0) rfl rfl, fun U hU hW => cP_pre hPc hK hDc hN U hU hW⟩ rfl rfl hl.1 rfl (lv_room (Nat.le_of_ble_eq_true rfl)) dL_law_308 ⟨Nat.le_of_ble_eq_true rfl, Nat.le_of_ble_eq_true rfl⟩) hS (fun q _ h => hFc q h) hFc (fun r_859 u t H1 locs ht hvm hw hB hz1 hk1 hS => ?_)
  obtain ⟨hP1, hD1⟩ := hB
  rw [ht] at hP1
  obtain ⟨hP, hD⟩ := va_join (wr := []) (w1 := []) hP hD [0, 1, 2, 3, 4] [] rfl rfl (by decide) (by decide) hk1 hFc hP1 hD1
  generalize H1 = H at hP hS ⊢
  have hP : va_P (dC, dI) vwCl [] H := hP
  have hD : va_D (fun q : Nat => s.heap.size ≤ q) [] := hD
  obtain rfl : r_859 = 0 := hw
  refine lv_icmp_eq (tgt := 553) hx hb dL_law_311 (by decide) (fun _ => ?_) (fun c9 => absurd (by decide) c9)
  refine lv_iinc (v := 6) (lv' := [(3, .int 6), (2, .ref q_714), (1, .ref q_664), (0, .ref b)]) hx hb dL_law_553 hl (k := 0) rfl (by decide) (by decide) rfl (fun ls hl => ?_)
  refine lv_goto (tgt := 18) hx hb dL_law_556 (by decide) ?_
  refine lv_iload_n hx hb dL_law_18 rfl (lv_at hl 0 rfl) ?_
  refine lv_aload_n hx hb dL_law_19 rfl (lv_at hl 3 rfl) ?_
  refine va_slen hx hb hX hbl hbA hS dL_law_20 ?_
  refine lv_topi (fun y_860 ey_860 => ?_)
  obtain rfl : y_860 = 6 := ey_860.trans (by decide)
  refine lv_bipush (v := 6) hx hb dL_law_21 (by decide) ?_
  refine lv_isub hx hb dL_law_23 ?_
  refine lv_topi (fun y_861 ey_861 => ?_)
  obtain rfl : y_861 = 0 := ey_861.trans (by decide)
  refine lv_icmp_gt (tgt := 559) hx hb dL_law_24 (by decide) (fun _ => ?_) (fun c9 => absurd (by decide) c9)
  refine lv_iconst (v := 1) hx hb dL_law_559 (by decide) ?_
  refine va_forget (fun q hq => hS.2.2 q hq) ?_
  exact lw_ret hx hb hr hlocks dL_law_560

set_option maxHeartbeats 4000000 in
set_option maxRecDepth 100000 in
theorem lw_markN {p : Program} {l : Launch} {e : Env} {s : State} {m : MethodId} {below : List Frame} {meth : Method} {c : Code} {dC : Nat → ClassId} {dI : Nat → Nat → Nat} {cI cB cL cZ : ClassId} {b : Nat} {xs : Nat → Int32} (hx : p.tables.exec = Jvm.exec) (hb : c.code = cL_law) (hr : meth.sig.returnType = ret) (hml : c.maxLocals = 4) (hown : s.vm.findClass RL = some m.cls) (hts : ∀ w ∈ lw_tbl, w.before #[Value.ref b] s = true) (hX : va_X b 6 xs s s.heap) (hbl : b < s.heap.size) (hlocks : meth.locks = false) (hK : va_K (dC, dI) vwCl (kTy cI cB cL cZ) s) (hN : nN s) {q_664 : Nat} {q_665 : Nat} {q_666 : Nat} {q_667 : Nat} {q_668 : Nat} {q_669 : Nat} {q_670 : Nat} {q_671 : Nat} {q_672 : Nat} {q_673 : Nat} {q_674 : Nat} {q_688 : Nat} {q_689 : Nat} {q_690 : Nat} {q_691 : Nat} {q_692 : Nat} {q_693 : Nat} {q_694 : Nat} {q_695 : Nat} {q_696 : Nat} {q_697 : Nat} {q_698 : Nat} {q_714 : Nat} {fs_715 : List Value} {q_717 : Nat} {f_718 : Nat → Int32} {w1 : Int32} (ew1 : w1 = xs 1) {w2 : Int32} (ew2 : w2 = xs 2) {w3 : Int32} (ew3 : w3 = xs 3) {w4 : Int32} (ew4 : w4 = xs 4) {w5 : Int32} (ew5 : w5 = xs 5) {H : Heap} {locs : List Loc} (hP : va_P (dC, dI) vwCl [(q_664, .inr (9, [.ref q_665, .int 0, .ref q_666, .ref q_667, .ref q_668, .int 0, .int (-1), .ref q_669, .ref q_670, .ref q_671, .ref q_672, .ref q_673, .ref q_674])), (q_669, .inr (6, [.ref q_688, .int (-1), .ref q_689])), (q_688, .inr (3, [.ref q_690, .ref q_691, .ref q_692, .ref q_693, .ref q_694, .ref q_695, .ref q_696, .ref q_697, .ref q_698, .int 0, .int 0, .int 0, .int 0, .int (-1)])), (q_714, .inr (10, fs_715)), (q_717, .inl (cI, 16, .inl f_718))] H) (hD : va_D (fun q : Nat => s.heap.size ≤ q) [(q_664, .inr (9, [.ref q_665, .int 0, .ref q_666, .ref q_667, .ref q_668, .int 0, .int (-1), .ref q_669, .ref q_670, .ref q_671, .ref q_672, .ref q_673, .ref q_674])), (q_669, .inr (6, [.ref q_688, .int (-1), .ref q_689])), (q_688, .inr (3, [.ref q_690, .ref q_691, .ref q_692, .ref q_693, .ref q_694, .ref q_695, .ref q_696, .ref q_697, .ref q_698, .int 0, .int 0, .int 0, .int 0, .int (-1)])), (q_714, .inr (10, fs_715)), (q_717, .inl (cI, 16, .inl f_718))]) (hS : va_S (fun q : Nat => s.heap.size ≤ q) s.heap H locs) {ls : Array Slot} (hl : lv_has ls 4 [(3, .int 0), (2, .ref q_714), (1, .ref q_664), (0, .ref b)]) (hf_735 : fs_715.length = 68) (hf_737 : fs_715[19]? = some (.ref q_717)) (hf_760 : ∀ j, j < 16 → f_718 j = -1) (hn9 : ¬ (w1 = 2 ∧ (w3 = 0 ∨ w3 = 1))) : W p l e room_1 s m #[Value.ref b] below meth c H locs 84 30598 (lw_Z below #[Value.ref b] s) (F0 m 273 ls []) := by
  have hA : ∀ q : Nat, s.heap.size ≤ q → (fun q : Nat => s.heap.size ≤ q) q := fun _ h => h
  have hbA : ¬ (fun q : Nat => s.heap.size ≤ q) b := Nat.not_le.mpr hbl
  refine lv_aload_n hx hb dL_law_273 rfl (lv_at hl 2 rfl) ?_
  refine lv_aload_n hx hb dL_law_274 rfl (lv_at hl 3 rfl) ?_
  refine lv_iload_n hx hb dL_law_275 rfl (lv_at hl 0 rfl) ?_
  refine lv_iconst (v := 1) hx hb dL_law_276 (by decide) ?_
  refine lv_iadd hx hb dL_law_277 ?_
  refine lv_topi (fun y_862 ey_862 => ?_)
  obtain rfl : y_862 = 1 := ey_862.trans (by decide)
  refine va_sld hx hb hX hbl hbA hS (by unfold vp_in; decide) dL_law_278 ?_
  refine lv_topi (fun y_863 ey_863 => ?_)
  obtain rfl : w1 = y_863 := (ey_863.trans ((congrArg xs (by decide : (1 : Int32).toNatClampNeg = 1)).trans ew1.symm)).symm
  refine lv_aload_n hx hb dL_law_279 rfl (lv_at hl 3 rfl) ?_
  refine lv_iload_n hx hb dL_law_280 rfl (lv_at hl 0 rfl) ?_
  refine lv_iconst (v := 2) hx hb dL_law_281 (by decide) ?_
  refine lv_iadd hx hb dL_law_282 ?_
  refine lv_topi (fun y_864 ey_864 => ?_)
  obtain rfl : y_864 = 2 := ey_864.trans (by decide)
  refine va_sld hx hb hX hbl hbA hS (by unfold vp_in; decide) dL_law_283 ?_
  refine lv_topi (fun y_865 ey_865 => ?_)
  obtain rfl : w2 = y_865 := (ey_865.trans ((congrArg xs (by decide : (2 : Int32).toNatClampNeg = 2)).trans ew2.symm)).symm
  refine lv_aload_n hx hb dL_law_284 rfl (lv_at hl 3 rfl) ?_
  refine lv_iload_n hx hb dL_law_285 rfl (lv_at hl 0 rfl) ?_
  refine lv_iconst (v := 3) hx hb dL_law_286 (by decide) ?_
  refine lv_iadd hx hb dL_law_287 ?_
  refine lv_topi (fun y_866 ey_866 => ?_)
  obtain rfl : y_866 = 3 := ey_866.trans (by decide)
  refine va_sld hx hb hX hbl hbA hS (by unfold vp_in; decide) dL_law_288 ?_
  refine lv_topi (fun y_867 ey_867 => ?_)
  obtain rfl : w3 = y_867 := (ey_867.trans ((congrArg xs (by decide : (3 : Int32).toNatClampNeg = 3)).trans ew3.symm)).symm
  have hPc := hP.sub (ws' := [(q_664, .inr (9, [.ref q_665, .int 0, .ref q_666, .ref q_667, .ref q_668, .int 0, .int (-1), .ref q_669, .ref q_670, .ref q_671, .ref q_672, .ref q_673, .ref q_674])), (q_669, .inr (6, [.ref q_688, .int (-1), .ref q_689])), (q_688, .inr (3, [.ref q_690, .ref q_691, .ref q_692, .ref q_693, .ref q_694, .ref q_695, .ref q_696, .ref q_697, .ref q_698, .int 0, .int 0, .int 0, .int 0, .int (-1)]))]) [0, 1, 2] rfl
  have hDc := hD.sub (ws' := [(q_664, .inr (9, [.ref q_665, .int 0, .ref q_666, .ref q_667, .ref q_668, .int 0, .int (-1), .ref q_669, .ref q_670, .ref q_671, .ref q_672, .ref q_673, .ref q_674])), (q_669, .inr (6, [.ref q_688, .int (-1), .ref q_689])), (q_688, .inr (3, [.ref q_690, .ref q_691, .ref q_692, .ref q_693, .ref q_694, .ref q_695, .ref q_696, .ref q_697, .ref q_698, .int 0, .int 0, .int 0, .int 0, .int (-1)]))]) [0, 1, 2] (by decide) rfl
  have hFc := va_free (wc := [(q_664, .inr (9, [.ref q_665, .int 0, .ref q_666, .ref q_667, .ref q_668, .int 0, .int (-1), .ref q_669, .ref q_670, .ref q_671, .ref q_672, .ref q_673, .ref q_674])), (q_669, .inr (6, [.ref q_688, .int (-1), .ref q_689])), (q_688, .inr (3, [.ref q_690, .ref q_691, .ref q_692, .ref q_693, .ref q_694, .ref q_695, .ref q_696, .ref q_697, .ref q_698, .int 0, .int 0, .int 0, .int 0, .int (-1)]))]) hD hS hA [0, 1, 2] rfl
  refine va_calli (va_runV (As := [.int w1, .int w2, .int w3]) (rest := []) ⟨hx, hb, hml, hown, hts⟩ (c_markN l dC dI cI cB cL cZ (q_664) (q_665) (q_666) (q_667) (q_668) (q_669) (q_670) (q_671) (q_672) (q_673) (q_674) (q_688) (q_689) (q_690) (q_691) (q_692) (q_693) (q_694) (q_695) (q_696) (q_697) (q_698) (w1) (w2) (w3) H.size (hn9)) (cwV 3 hts gW_X10_mark rfl rfl rfl (by decide +kernel) ⟨Nat.le_of_ble_eq_true rfl, Nat.le_of_ble_eq_true rfl⟩) ⟨cP_fb, va_recv hK hPc (ci := 9) (q0 := 0) rfl rfl, fun U hU hW => cP_pre hPc hK hDc hN U hU hW⟩ rfl rfl hl.1 rfl (lv_room (Nat.le_of_ble_eq_true rfl)) dL_law_289 ⟨Nat.le_of_ble_eq_true rfl, Nat.le_of_ble_eq_true rfl⟩) hS (fun q _ h => hFc q h) hFc (fun r_868 u t H1 locs ht hvm hw hB hz1 hk1 hS => ?_)
  obtain ⟨hP1, hD1⟩ := hB
  rw [ht] at hP1
  obtain ⟨hP, hD⟩ := va_join (wr := [(q_714, .inr (10, fs_715)), (q_717, .inl (cI, 16, .inl f_718))]) (w1 := []) hP hD [0, 1, 2] [3, 4] rfl rfl (by decide) (by decide) hk1 hFc hP1 hD1
  generalize H1 = H at hP hS ⊢
  have hP : va_P (dC, dI) vwCl [(q_714, .inr (10, fs_715)), (q_717, .inl (cI, 16, .inl f_718))] H := hP
  have hD : va_D (fun q : Nat => s.heap.size ≤ q) [(q_714, .inr (10, fs_715)), (q_717, .inl (cI, 16, .inl f_718))] := hD
  obtain rfl : r_868 = (-1) := hw
  refine lv_aload_n hx hb dL_law_292 rfl (lv_at hl 1 rfl) ?_
  refine lv_aload_n hx hb dL_law_293 rfl (lv_at hl 3 rfl) ?_
  refine lv_iload_n hx hb dL_law_294 rfl (lv_at hl 0 rfl) ?_
  refine lv_iconst (v := 1) hx hb dL_law_295 (by decide) ?_
  refine lv_iadd hx hb dL_law_296 ?_
  refine lv_topi (fun y_869 ey_869 => ?_)
  obtain rfl : y_869 = 1 := ey_869.trans (by decide)
  refine va_sld hx hb hX hbl hbA hS (by unfold vp_in; decide) dL_law_297 ?_
  refine lv_topi (fun y_870 ey_870 => ?_)
  obtain rfl : w1 = y_870 := (ey_870.trans ((congrArg xs (by decide : (1 : Int32).toNatClampNeg = 1)).trans ew1.symm)).symm
  refine lv_aload_n hx hb dL_law_298 rfl (lv_at hl 3 rfl) ?_
  refine lv_iload_n hx hb dL_law_299 rfl (lv_at hl 0 rfl) ?_
  refine lv_iconst (v := 2) hx hb dL_law_300 (by decide) ?_
  refine lv_iadd hx hb dL_law_301 ?_
  refine lv_topi (fun y_871 ey_871 => ?_)
  obtain rfl : y_871 = 2 := ey_871.trans (by decide)
  refine va_sld hx hb hX hbl hbA hS (by unfold vp_in; decide) dL_law_302 ?_
  refine lv_topi (fun y_872 ey_872 => ?_)
  obtain rfl : w2 = y_872 := (ey_872.trans ((congrArg xs (by decide : (2 : Int32).toNatClampNeg = 2)).trans ew2.symm)).symm
  refine lv_aload_n hx hb dL_law_303 rfl (lv_at hl 3 rfl) ?_
  refine lv_iload_n hx hb dL_law_304 rfl (lv_at hl 0 rfl) ?_
  refine lv_iconst (v := 3) hx hb dL_law_305 (by decide) ?_
  refine lv_iadd hx hb dL_law_306 ?_
  refine lv_topi (fun y_873 ey_873 => ?_)
  obtain rfl : y_873 = 3 := ey_873.trans (by decide)
  refine va_sld hx hb hX hbl hbA hS (by unfold vp_in; decide) dL_law_307 ?_
  refine lv_topi (fun y_874 ey_874 => ?_)
  obtain rfl : w3 = y_874 := (ey_874.trans ((congrArg xs (by decide : (3 : Int32).toNatClampNeg = 3)).trans ew3.symm)).symm
  have hPc := hP.sub (ws' := [(q_714, .inr (10, fs_715)), (q_717, .inl (cI, 16, .inl f_718))]) [0, 1] rfl
  have hDc := hD.sub (ws' := [(q_714, .inr (10, fs_715)), (q_717, .inl (cI, 16, .inl f_718))]) [0, 1] (by decide) rfl
  have hFc := va_free (wc := [(q_714, .inr (10, fs_715)), (q_717, .inl (cI, 16, .inl f_718))]) hD hS hA [0, 1] rfl
  refine va_calli (va_runV (As := [.int w1, .int w2, .int w3]) (rest := [.int (-1)]) ⟨hx, hb, hml, hown, hts⟩ (m_markN l dC dI cI cB cL cZ (q_714) (q_717) (w1) (w2) (w3) (fs_715) (f_718) H.size hf_735 hf_737 (hf_760) (hn9)) (cwV 3 hts gW_X11_mark rfl rfl rfl (by decide +kernel) ⟨Nat.le_of_ble_eq_true rfl, Nat.le_of_ble_eq_true rfl⟩) ⟨cP_fb, va_recv hK hPc (ci := 10) (q0 := 0) rfl rfl, fun U hU hW => cP_pre hPc hK hDc hN U hU hW⟩ rfl rfl hl.1 rfl (lv_room (Nat.le_of_ble_eq_true rfl)) dL_law_308 ⟨Nat.le_of_ble_eq_true rfl, Nat.le_of_ble_eq_true rfl⟩) hS (fun q _ h => hFc q h) hFc (fun r_875 u t H1 locs ht hvm hw hB hz1 hk1 hS => ?_)
  obtain ⟨hP1, hD1⟩ := hB
  rw [ht] at hP1
  obtain ⟨hP, hD⟩ := va_join (wr := []) (w1 := []) hP hD [0, 1] [] rfl rfl (by decide) (by decide) hk1 hFc hP1 hD1
  generalize H1 = H at hP hS ⊢
  have hP : va_P (dC, dI) vwCl [] H := hP
  have hD : va_D (fun q : Nat => s.heap.size ≤ q) [] := hD
  obtain rfl : r_875 = (-1) := hw
  refine lv_icmp_eq (tgt := 553) hx hb dL_law_311 (by decide) (fun _ => ?_) (fun c9 => absurd (by decide) c9)
  refine lv_iinc (v := 6) (lv' := [(3, .int 6), (2, .ref q_714), (1, .ref q_664), (0, .ref b)]) hx hb dL_law_553 hl (k := 0) rfl (by decide) (by decide) rfl (fun ls hl => ?_)
  refine lv_goto (tgt := 18) hx hb dL_law_556 (by decide) ?_
  refine lv_iload_n hx hb dL_law_18 rfl (lv_at hl 0 rfl) ?_
  refine lv_aload_n hx hb dL_law_19 rfl (lv_at hl 3 rfl) ?_
  refine va_slen hx hb hX hbl hbA hS dL_law_20 ?_
  refine lv_topi (fun y_876 ey_876 => ?_)
  obtain rfl : y_876 = 6 := ey_876.trans (by decide)
  refine lv_bipush (v := 6) hx hb dL_law_21 (by decide) ?_
  refine lv_isub hx hb dL_law_23 ?_
  refine lv_topi (fun y_877 ey_877 => ?_)
  obtain rfl : y_877 = 0 := ey_877.trans (by decide)
  refine lv_icmp_gt (tgt := 559) hx hb dL_law_24 (by decide) (fun _ => ?_) (fun c9 => absurd (by decide) c9)
  refine lv_iconst (v := 1) hx hb dL_law_559 (by decide) ?_
  refine va_forget (fun q hq => hS.2.2 q hq) ?_
  exact lw_ret hx hb hr hlocks dL_law_560

set_option maxHeartbeats 4000000 in
set_option maxRecDepth 100000 in
theorem lw_use {p : Program} {l : Launch} {e : Env} {s : State} {m : MethodId} {below : List Frame} {meth : Method} {c : Code} {dC : Nat → ClassId} {dI : Nat → Nat → Nat} {cI cB cL cZ : ClassId} {b : Nat} {xs : Nat → Int32} (hx : p.tables.exec = Jvm.exec) (hb : c.code = cL_law) (hr : meth.sig.returnType = ret) (hml : c.maxLocals = 4) (hown : s.vm.findClass RL = some m.cls) (hts : ∀ w ∈ lw_tbl, w.before #[Value.ref b] s = true) (hX : va_X b 6 xs s s.heap) (hbl : b < s.heap.size) (hlocks : meth.locks = false) (hK : va_K (dC, dI) vwCl (kTy cI cB cL cZ) s) (hN : nN s) {q_664 : Nat} {q_665 : Nat} {q_666 : Nat} {q_667 : Nat} {q_668 : Nat} {q_669 : Nat} {q_670 : Nat} {q_671 : Nat} {q_672 : Nat} {q_673 : Nat} {q_674 : Nat} {q_688 : Nat} {q_689 : Nat} {q_690 : Nat} {q_691 : Nat} {q_692 : Nat} {q_693 : Nat} {q_694 : Nat} {q_695 : Nat} {q_696 : Nat} {q_697 : Nat} {q_698 : Nat} {q_714 : Nat} {fs_715 : List Value} {q_725 : Nat} {w1 : Int32} (ew1 : w1 = xs 1) {w2 : Int32} (ew2 : w2 = xs 2) {w3 : Int32} (ew3 : w3 = xs 3) {w4 : Int32} (ew4 : w4 = xs 4) {w5 : Int32} (ew5 : w5 = xs 5) {H : Heap} {locs : List Loc} (hP : va_P (dC, dI) vwCl [(q_664, .inr (9, [.ref q_665, .int 0, .ref q_666, .ref q_667, .ref q_668, .int 0, .int (-1), .ref q_669, .ref q_670, .ref q_671, .ref q_672, .ref q_673, .ref q_674])), (q_669, .inr (6, [.ref q_688, .int (-1), .ref q_689])), (q_688, .inr (3, [.ref q_690, .ref q_691, .ref q_692, .ref q_693, .ref q_694, .ref q_695, .ref q_696, .ref q_697, .ref q_698, .int 0, .int 0, .int 0, .int 0, .int (-1)])), (q_714, .inr (10, fs_715)), (q_725, .inl (cI, 2, .inl (fun _ => 0)))] H) (hD : va_D (fun q : Nat => s.heap.size ≤ q) [(q_664, .inr (9, [.ref q_665, .int 0, .ref q_666, .ref q_667, .ref q_668, .int 0, .int (-1), .ref q_669, .ref q_670, .ref q_671, .ref q_672, .ref q_673, .ref q_674])), (q_669, .inr (6, [.ref q_688, .int (-1), .ref q_689])), (q_688, .inr (3, [.ref q_690, .ref q_691, .ref q_692, .ref q_693, .ref q_694, .ref q_695, .ref q_696, .ref q_697, .ref q_698, .int 0, .int 0, .int 0, .int 0, .int (-1)])), (q_714, .inr (10, fs_715)), (q_725, .inl (cI, 2, .inl (fun _ => 0)))]) (hS : va_S (fun q : Nat => s.heap.size ≤ q) s.heap H locs) {ls : Array Slot} (hl : lv_has ls 4 [(3, .int 0), (2, .ref q_714), (1, .ref q_664), (0, .ref b)]) (hf_735 : fs_715.length = 68) (hf_744 : fs_715[26]? = some (.ref q_725)) : W p l e room_1 s m #[Value.ref b] below meth c H locs 84 30598 (lw_Z below #[Value.ref b] s) (F0 m 316 ls []) := by
  have hA : ∀ q : Nat, s.heap.size ≤ q → (fun q : Nat => s.heap.size ≤ q) q := fun _ h => h
  have hbA : ¬ (fun q : Nat => s.heap.size ≤ q) b := Nat.not_le.mpr hbl
  refine lv_aload_n hx hb dL_law_316 rfl (lv_at hl 2 rfl) ?_
  refine lv_aload_n hx hb dL_law_317 rfl (lv_at hl 3 rfl) ?_
  refine lv_iload_n hx hb dL_law_318 rfl (lv_at hl 0 rfl) ?_
  refine lv_iconst (v := 1) hx hb dL_law_319 (by decide) ?_
  refine lv_iadd hx hb dL_law_320 ?_
  refine lv_topi (fun y_878 ey_878 => ?_)
  obtain rfl : y_878 = 1 := ey_878.trans (by decide)
  refine va_sld hx hb hX hbl hbA hS (by unfold vp_in; decide) dL_law_321 ?_
  refine lv_topi (fun y_879 ey_879 => ?_)
  obtain rfl : w1 = y_879 := (ey_879.trans ((congrArg xs (by decide : (1 : Int32).toNatClampNeg = 1)).trans ew1.symm)).symm
  refine lv_aload_n hx hb dL_law_322 rfl (lv_at hl 3 rfl) ?_
  refine lv_iload_n hx hb dL_law_323 rfl (lv_at hl 0 rfl) ?_
  refine lv_iconst (v := 2) hx hb dL_law_324 (by decide) ?_
  refine lv_iadd hx hb dL_law_325 ?_
  refine lv_topi (fun y_880 ey_880 => ?_)
  obtain rfl : y_880 = 2 := ey_880.trans (by decide)
  refine va_sld hx hb hX hbl hbA hS (by unfold vp_in; decide) dL_law_326 ?_
  refine lv_topi (fun y_881 ey_881 => ?_)
  obtain rfl : w2 = y_881 := (ey_881.trans ((congrArg xs (by decide : (2 : Int32).toNatClampNeg = 2)).trans ew2.symm)).symm
  have hPc := hP.sub (ws' := [(q_664, .inr (9, [.ref q_665, .int 0, .ref q_666, .ref q_667, .ref q_668, .int 0, .int (-1), .ref q_669, .ref q_670, .ref q_671, .ref q_672, .ref q_673, .ref q_674])), (q_669, .inr (6, [.ref q_688, .int (-1), .ref q_689])), (q_688, .inr (3, [.ref q_690, .ref q_691, .ref q_692, .ref q_693, .ref q_694, .ref q_695, .ref q_696, .ref q_697, .ref q_698, .int 0, .int 0, .int 0, .int 0, .int (-1)]))]) [0, 1, 2] rfl
  have hDc := hD.sub (ws' := [(q_664, .inr (9, [.ref q_665, .int 0, .ref q_666, .ref q_667, .ref q_668, .int 0, .int (-1), .ref q_669, .ref q_670, .ref q_671, .ref q_672, .ref q_673, .ref q_674])), (q_669, .inr (6, [.ref q_688, .int (-1), .ref q_689])), (q_688, .inr (3, [.ref q_690, .ref q_691, .ref q_692, .ref q_693, .ref q_694, .ref q_695, .ref q_696, .ref q_697, .ref q_698, .int 0, .int 0, .int 0, .int 0, .int (-1)]))]) [0, 1, 2] (by decide) rfl
  have hFc := va_free (wc := [(q_664, .inr (9, [.ref q_665, .int 0, .ref q_666, .ref q_667, .ref q_668, .int 0, .int (-1), .ref q_669, .ref q_670, .ref q_671, .ref q_672, .ref q_673, .ref q_674])), (q_669, .inr (6, [.ref q_688, .int (-1), .ref q_689])), (q_688, .inr (3, [.ref q_690, .ref q_691, .ref q_692, .ref q_693, .ref q_694, .ref q_695, .ref q_696, .ref q_697, .ref q_698, .int 0, .int 0, .int 0, .int 0, .int (-1)]))]) hD hS hA [0, 1, 2] rfl
  refine va_calli (va_runV (As := [.int w1, .int w2]) (rest := []) ⟨hx, hb, hml, hown, hts⟩ (c_use l dC dI cI cB cL cZ (q_664) (q_665) (q_666) (q_667) (q_668) (q_669) (q_670) (q_671) (q_672) (q_673) (q_674) (q_688) (q_689) (q_690) (q_691) (q_692) (q_693) (q_694) (q_695) (q_696) (q_697) (q_698) (w1) (w2) H.size) (cwV 2 hts gW_X10_use rfl rfl rfl (by decide +kernel) ⟨Nat.le_of_ble_eq_true rfl, Nat.le_of_ble_eq_true rfl⟩) ⟨cP_fb, va_recv hK hPc (ci := 9) (q0 := 0) rfl rfl, fun U hU hW => cP_pre hPc hK hDc hN U hU hW⟩ rfl rfl hl.1 rfl (lv_room (Nat.le_of_ble_eq_true rfl)) dL_law_327 ⟨Nat.le_of_ble_eq_true rfl, Nat.le_of_ble_eq_true rfl⟩) hS (fun q _ h => hFc q h) hFc (fun r_882 u t H1 locs ht hvm hw hB hz1 hk1 hS => ?_)
  obtain ⟨hP1, hD1⟩ := hB
  rw [ht] at hP1
  obtain ⟨hP, hD⟩ := va_join (wr := [(q_714, .inr (10, fs_715)), (q_725, .inl (cI, 2, .inl (fun _ => 0)))]) (w1 := []) hP hD [0, 1, 2] [3, 4] rfl rfl (by decide) (by decide) hk1 hFc hP1 hD1
  generalize H1 = H at hP hS ⊢
  have hP : va_P (dC, dI) vwCl [(q_714, .inr (10, fs_715)), (q_725, .inl (cI, 2, .inl (fun _ => 0)))] H := hP
  have hD : va_D (fun q : Nat => s.heap.size ≤ q) [(q_714, .inr (10, fs_715)), (q_725, .inl (cI, 2, .inl (fun _ => 0)))] := hD
  obtain rfl : r_882 = (-1) := hw
  refine lv_aload_n hx hb dL_law_330 rfl (lv_at hl 1 rfl) ?_
  refine lv_aload_n hx hb dL_law_331 rfl (lv_at hl 3 rfl) ?_
  refine lv_iload_n hx hb dL_law_332 rfl (lv_at hl 0 rfl) ?_
  refine lv_iconst (v := 1) hx hb dL_law_333 (by decide) ?_
  refine lv_iadd hx hb dL_law_334 ?_
  refine lv_topi (fun y_883 ey_883 => ?_)
  obtain rfl : y_883 = 1 := ey_883.trans (by decide)
  refine va_sld hx hb hX hbl hbA hS (by unfold vp_in; decide) dL_law_335 ?_
  refine lv_topi (fun y_884 ey_884 => ?_)
  obtain rfl : w1 = y_884 := (ey_884.trans ((congrArg xs (by decide : (1 : Int32).toNatClampNeg = 1)).trans ew1.symm)).symm
  refine lv_aload_n hx hb dL_law_336 rfl (lv_at hl 3 rfl) ?_
  refine lv_iload_n hx hb dL_law_337 rfl (lv_at hl 0 rfl) ?_
  refine lv_iconst (v := 2) hx hb dL_law_338 (by decide) ?_
  refine lv_iadd hx hb dL_law_339 ?_
  refine lv_topi (fun y_885 ey_885 => ?_)
  obtain rfl : y_885 = 2 := ey_885.trans (by decide)
  refine va_sld hx hb hX hbl hbA hS (by unfold vp_in; decide) dL_law_340 ?_
  refine lv_topi (fun y_886 ey_886 => ?_)
  obtain rfl : w2 = y_886 := (ey_886.trans ((congrArg xs (by decide : (2 : Int32).toNatClampNeg = 2)).trans ew2.symm)).symm
  have hPc := hP.sub (ws' := [(q_714, .inr (10, fs_715)), (q_725, .inl (cI, 2, .inl (fun _ => 0)))]) [0, 1] rfl
  have hDc := hD.sub (ws' := [(q_714, .inr (10, fs_715)), (q_725, .inl (cI, 2, .inl (fun _ => 0)))]) [0, 1] (by decide) rfl
  have hFc := va_free (wc := [(q_714, .inr (10, fs_715)), (q_725, .inl (cI, 2, .inl (fun _ => 0)))]) hD hS hA [0, 1] rfl
  refine va_calli (va_runV (As := [.int w1, .int w2]) (rest := [.int (-1)]) ⟨hx, hb, hml, hown, hts⟩ (m_use l dC dI cI cB cL cZ (q_714) (q_725) (w1) (w2) (fs_715) ((fun _ => 0)) H.size hf_735 hf_744 (rfl)) (cwV 2 hts gW_X11_use rfl rfl rfl (by decide +kernel) ⟨Nat.le_of_ble_eq_true rfl, Nat.le_of_ble_eq_true rfl⟩) ⟨cP_fb, va_recv hK hPc (ci := 10) (q0 := 0) rfl rfl, fun U hU hW => cP_pre hPc hK hDc hN U hU hW⟩ rfl rfl hl.1 rfl (lv_room (Nat.le_of_ble_eq_true rfl)) dL_law_341 ⟨Nat.le_of_ble_eq_true rfl, Nat.le_of_ble_eq_true rfl⟩) hS (fun q _ h => hFc q h) hFc (fun r_887 u t H1 locs ht hvm hw hB hz1 hk1 hS => ?_)
  obtain ⟨hP1, hD1⟩ := hB
  rw [ht] at hP1
  obtain ⟨hP, hD⟩ := va_join (wr := []) (w1 := []) hP hD [0, 1] [] rfl rfl (by decide) (by decide) hk1 hFc hP1 hD1
  generalize H1 = H at hP hS ⊢
  have hP : va_P (dC, dI) vwCl [] H := hP
  have hD : va_D (fun q : Nat => s.heap.size ≤ q) [] := hD
  obtain rfl : r_887 = (-1) := hw
  refine lv_icmp_eq (tgt := 553) hx hb dL_law_344 (by decide) (fun _ => ?_) (fun c9 => absurd (by decide) c9)
  refine lv_iinc (v := 6) (lv' := [(3, .int 6), (2, .ref q_714), (1, .ref q_664), (0, .ref b)]) hx hb dL_law_553 hl (k := 0) rfl (by decide) (by decide) rfl (fun ls hl => ?_)
  refine lv_goto (tgt := 18) hx hb dL_law_556 (by decide) ?_
  refine lv_iload_n hx hb dL_law_18 rfl (lv_at hl 0 rfl) ?_
  refine lv_aload_n hx hb dL_law_19 rfl (lv_at hl 3 rfl) ?_
  refine va_slen hx hb hX hbl hbA hS dL_law_20 ?_
  refine lv_topi (fun y_888 ey_888 => ?_)
  obtain rfl : y_888 = 6 := ey_888.trans (by decide)
  refine lv_bipush (v := 6) hx hb dL_law_21 (by decide) ?_
  refine lv_isub hx hb dL_law_23 ?_
  refine lv_topi (fun y_889 ey_889 => ?_)
  obtain rfl : y_889 = 0 := ey_889.trans (by decide)
  refine lv_icmp_gt (tgt := 559) hx hb dL_law_24 (by decide) (fun _ => ?_) (fun c9 => absurd (by decide) c9)
  refine lv_iconst (v := 1) hx hb dL_law_559 (by decide) ?_
  refine va_forget (fun q hq => hS.2.2 q hq) ?_
  exact lw_ret hx hb hr hlocks dL_law_560

set_option maxHeartbeats 4000000 in
set_option maxRecDepth 100000 in
theorem lw_test {p : Program} {l : Launch} {e : Env} {s : State} {m : MethodId} {below : List Frame} {meth : Method} {c : Code} {dC : Nat → ClassId} {dI : Nat → Nat → Nat} {cI cB cL cZ : ClassId} {b : Nat} {xs : Nat → Int32} (hx : p.tables.exec = Jvm.exec) (hb : c.code = cL_law) (hr : meth.sig.returnType = ret) (hml : c.maxLocals = 4) (hown : s.vm.findClass RL = some m.cls) (hts : ∀ w ∈ lw_tbl, w.before #[Value.ref b] s = true) (hX : va_X b 6 xs s s.heap) (hbl : b < s.heap.size) (hlocks : meth.locks = false) (hK : va_K (dC, dI) vwCl (kTy cI cB cL cZ) s) (hN : nN s) {q_664 : Nat} {q_665 : Nat} {q_666 : Nat} {q_667 : Nat} {q_668 : Nat} {q_669 : Nat} {q_670 : Nat} {q_671 : Nat} {q_672 : Nat} {q_673 : Nat} {q_674 : Nat} {q_688 : Nat} {q_689 : Nat} {q_690 : Nat} {q_691 : Nat} {q_692 : Nat} {q_693 : Nat} {q_694 : Nat} {q_695 : Nat} {q_696 : Nat} {q_697 : Nat} {q_698 : Nat} {q_714 : Nat} {fs_715 : List Value} {q_728 : Nat} {w1 : Int32} (ew1 : w1 = xs 1) {w2 : Int32} (ew2 : w2 = xs 2) {w3 : Int32} (ew3 : w3 = xs 3) {w4 : Int32} (ew4 : w4 = xs 4) {w5 : Int32} (ew5 : w5 = xs 5) {H : Heap} {locs : List Loc} (hP : va_P (dC, dI) vwCl [(q_664, .inr (9, [.ref q_665, .int 0, .ref q_666, .ref q_667, .ref q_668, .int 0, .int (-1), .ref q_669, .ref q_670, .ref q_671, .ref q_672, .ref q_673, .ref q_674])), (q_669, .inr (6, [.ref q_688, .int (-1), .ref q_689])), (q_688, .inr (3, [.ref q_690, .ref q_691, .ref q_692, .ref q_693, .ref q_694, .ref q_695, .ref q_696, .ref q_697, .ref q_698, .int 0, .int 0, .int 0, .int 0, .int (-1)])), (q_714, .inr (10, fs_715)), (q_728, .inl (cI, 2, .inl (fun _ => 0)))] H) (hD : va_D (fun q : Nat => s.heap.size ≤ q) [(q_664, .inr (9, [.ref q_665, .int 0, .ref q_666, .ref q_667, .ref q_668, .int 0, .int (-1), .ref q_669, .ref q_670, .ref q_671, .ref q_672, .ref q_673, .ref q_674])), (q_669, .inr (6, [.ref q_688, .int (-1), .ref q_689])), (q_688, .inr (3, [.ref q_690, .ref q_691, .ref q_692, .ref q_693, .ref q_694, .ref q_695, .ref q_696, .ref q_697, .ref q_698, .int 0, .int 0, .int 0, .int 0, .int (-1)])), (q_714, .inr (10, fs_715)), (q_728, .inl (cI, 2, .inl (fun _ => 0)))]) (hS : va_S (fun q : Nat => s.heap.size ≤ q) s.heap H locs) {ls : Array Slot} (hl : lv_has ls 4 [(3, .int 0), (2, .ref q_714), (1, .ref q_664), (0, .ref b)]) (hf_735 : fs_715.length = 68) (hf_747 : fs_715[29]? = some (.ref q_728)) : W p l e room_1 s m #[Value.ref b] below meth c H locs 84 30598 (lw_Z below #[Value.ref b] s) (F0 m 349 ls []) := by
  have hA : ∀ q : Nat, s.heap.size ≤ q → (fun q : Nat => s.heap.size ≤ q) q := fun _ h => h
  have hbA : ¬ (fun q : Nat => s.heap.size ≤ q) b := Nat.not_le.mpr hbl
  refine lv_aload_n hx hb dL_law_349 rfl (lv_at hl 2 rfl) ?_
  refine lv_aload_n hx hb dL_law_350 rfl (lv_at hl 3 rfl) ?_
  refine lv_iload_n hx hb dL_law_351 rfl (lv_at hl 0 rfl) ?_
  refine lv_iconst (v := 1) hx hb dL_law_352 (by decide) ?_
  refine lv_iadd hx hb dL_law_353 ?_
  refine lv_topi (fun y_890 ey_890 => ?_)
  obtain rfl : y_890 = 1 := ey_890.trans (by decide)
  refine va_sld hx hb hX hbl hbA hS (by unfold vp_in; decide) dL_law_354 ?_
  refine lv_topi (fun y_891 ey_891 => ?_)
  obtain rfl : w1 = y_891 := (ey_891.trans ((congrArg xs (by decide : (1 : Int32).toNatClampNeg = 1)).trans ew1.symm)).symm
  refine lv_aload_n hx hb dL_law_355 rfl (lv_at hl 3 rfl) ?_
  refine lv_iload_n hx hb dL_law_356 rfl (lv_at hl 0 rfl) ?_
  refine lv_iconst (v := 2) hx hb dL_law_357 (by decide) ?_
  refine lv_iadd hx hb dL_law_358 ?_
  refine lv_topi (fun y_892 ey_892 => ?_)
  obtain rfl : y_892 = 2 := ey_892.trans (by decide)
  refine va_sld hx hb hX hbl hbA hS (by unfold vp_in; decide) dL_law_359 ?_
  refine lv_topi (fun y_893 ey_893 => ?_)
  obtain rfl : w2 = y_893 := (ey_893.trans ((congrArg xs (by decide : (2 : Int32).toNatClampNeg = 2)).trans ew2.symm)).symm
  have hPc := hP.sub (ws' := [(q_664, .inr (9, [.ref q_665, .int 0, .ref q_666, .ref q_667, .ref q_668, .int 0, .int (-1), .ref q_669, .ref q_670, .ref q_671, .ref q_672, .ref q_673, .ref q_674])), (q_669, .inr (6, [.ref q_688, .int (-1), .ref q_689])), (q_688, .inr (3, [.ref q_690, .ref q_691, .ref q_692, .ref q_693, .ref q_694, .ref q_695, .ref q_696, .ref q_697, .ref q_698, .int 0, .int 0, .int 0, .int 0, .int (-1)]))]) [0, 1, 2] rfl
  have hDc := hD.sub (ws' := [(q_664, .inr (9, [.ref q_665, .int 0, .ref q_666, .ref q_667, .ref q_668, .int 0, .int (-1), .ref q_669, .ref q_670, .ref q_671, .ref q_672, .ref q_673, .ref q_674])), (q_669, .inr (6, [.ref q_688, .int (-1), .ref q_689])), (q_688, .inr (3, [.ref q_690, .ref q_691, .ref q_692, .ref q_693, .ref q_694, .ref q_695, .ref q_696, .ref q_697, .ref q_698, .int 0, .int 0, .int 0, .int 0, .int (-1)]))]) [0, 1, 2] (by decide) rfl
  have hFc := va_free (wc := [(q_664, .inr (9, [.ref q_665, .int 0, .ref q_666, .ref q_667, .ref q_668, .int 0, .int (-1), .ref q_669, .ref q_670, .ref q_671, .ref q_672, .ref q_673, .ref q_674])), (q_669, .inr (6, [.ref q_688, .int (-1), .ref q_689])), (q_688, .inr (3, [.ref q_690, .ref q_691, .ref q_692, .ref q_693, .ref q_694, .ref q_695, .ref q_696, .ref q_697, .ref q_698, .int 0, .int 0, .int 0, .int 0, .int (-1)]))]) hD hS hA [0, 1, 2] rfl
  refine va_calli (va_runV (As := [.int w1, .int w2]) (rest := []) ⟨hx, hb, hml, hown, hts⟩ (c_test l dC dI cI cB cL cZ (q_664) (q_665) (q_666) (q_667) (q_668) (q_669) (q_670) (q_671) (q_672) (q_673) (q_674) (q_688) (q_689) (q_690) (q_691) (q_692) (q_693) (q_694) (q_695) (q_696) (q_697) (q_698) (w1) (w2) H.size) (cwV 2 hts gW_X10_test rfl rfl rfl (by decide +kernel) ⟨Nat.le_of_ble_eq_true rfl, Nat.le_of_ble_eq_true rfl⟩) ⟨cP_fb, va_recv hK hPc (ci := 9) (q0 := 0) rfl rfl, fun U hU hW => cP_pre hPc hK hDc hN U hU hW⟩ rfl rfl hl.1 rfl (lv_room (Nat.le_of_ble_eq_true rfl)) dL_law_360 ⟨Nat.le_of_ble_eq_true rfl, Nat.le_of_ble_eq_true rfl⟩) hS (fun q _ h => hFc q h) hFc (fun r_894 u t H1 locs ht hvm hw hB hz1 hk1 hS => ?_)
  obtain ⟨hP1, hD1⟩ := hB
  rw [ht] at hP1
  obtain ⟨hP, hD⟩ := va_join (wr := [(q_714, .inr (10, fs_715)), (q_728, .inl (cI, 2, .inl (fun _ => 0)))]) (w1 := []) hP hD [0, 1, 2] [3, 4] rfl rfl (by decide) (by decide) hk1 hFc hP1 hD1
  generalize H1 = H at hP hS ⊢
  have hP : va_P (dC, dI) vwCl [(q_714, .inr (10, fs_715)), (q_728, .inl (cI, 2, .inl (fun _ => 0)))] H := hP
  have hD : va_D (fun q : Nat => s.heap.size ≤ q) [(q_714, .inr (10, fs_715)), (q_728, .inl (cI, 2, .inl (fun _ => 0)))] := hD
  obtain rfl : r_894 = (-1) := hw
  refine lv_aload_n hx hb dL_law_363 rfl (lv_at hl 1 rfl) ?_
  refine lv_aload_n hx hb dL_law_364 rfl (lv_at hl 3 rfl) ?_
  refine lv_iload_n hx hb dL_law_365 rfl (lv_at hl 0 rfl) ?_
  refine lv_iconst (v := 1) hx hb dL_law_366 (by decide) ?_
  refine lv_iadd hx hb dL_law_367 ?_
  refine lv_topi (fun y_895 ey_895 => ?_)
  obtain rfl : y_895 = 1 := ey_895.trans (by decide)
  refine va_sld hx hb hX hbl hbA hS (by unfold vp_in; decide) dL_law_368 ?_
  refine lv_topi (fun y_896 ey_896 => ?_)
  obtain rfl : w1 = y_896 := (ey_896.trans ((congrArg xs (by decide : (1 : Int32).toNatClampNeg = 1)).trans ew1.symm)).symm
  refine lv_aload_n hx hb dL_law_369 rfl (lv_at hl 3 rfl) ?_
  refine lv_iload_n hx hb dL_law_370 rfl (lv_at hl 0 rfl) ?_
  refine lv_iconst (v := 2) hx hb dL_law_371 (by decide) ?_
  refine lv_iadd hx hb dL_law_372 ?_
  refine lv_topi (fun y_897 ey_897 => ?_)
  obtain rfl : y_897 = 2 := ey_897.trans (by decide)
  refine va_sld hx hb hX hbl hbA hS (by unfold vp_in; decide) dL_law_373 ?_
  refine lv_topi (fun y_898 ey_898 => ?_)
  obtain rfl : w2 = y_898 := (ey_898.trans ((congrArg xs (by decide : (2 : Int32).toNatClampNeg = 2)).trans ew2.symm)).symm
  have hPc := hP.sub (ws' := [(q_714, .inr (10, fs_715)), (q_728, .inl (cI, 2, .inl (fun _ => 0)))]) [0, 1] rfl
  have hDc := hD.sub (ws' := [(q_714, .inr (10, fs_715)), (q_728, .inl (cI, 2, .inl (fun _ => 0)))]) [0, 1] (by decide) rfl
  have hFc := va_free (wc := [(q_714, .inr (10, fs_715)), (q_728, .inl (cI, 2, .inl (fun _ => 0)))]) hD hS hA [0, 1] rfl
  refine va_calli (va_runV (As := [.int w1, .int w2]) (rest := [.int (-1)]) ⟨hx, hb, hml, hown, hts⟩ (m_test l dC dI cI cB cL cZ (q_714) (q_728) (w1) (w2) (fs_715) ((fun _ => 0)) H.size hf_735 hf_747 (rfl)) (cwV 2 hts gW_X11_test rfl rfl rfl (by decide +kernel) ⟨Nat.le_of_ble_eq_true rfl, Nat.le_of_ble_eq_true rfl⟩) ⟨cP_fb, va_recv hK hPc (ci := 10) (q0 := 0) rfl rfl, fun U hU hW => cP_pre hPc hK hDc hN U hU hW⟩ rfl rfl hl.1 rfl (lv_room (Nat.le_of_ble_eq_true rfl)) dL_law_374 ⟨Nat.le_of_ble_eq_true rfl, Nat.le_of_ble_eq_true rfl⟩) hS (fun q _ h => hFc q h) hFc (fun r_899 u t H1 locs ht hvm hw hB hz1 hk1 hS => ?_)
  obtain ⟨hP1, hD1⟩ := hB
  rw [ht] at hP1
  obtain ⟨hP, hD⟩ := va_join (wr := []) (w1 := []) hP hD [0, 1] [] rfl rfl (by decide) (by decide) hk1 hFc hP1 hD1
  generalize H1 = H at hP hS ⊢
  have hP : va_P (dC, dI) vwCl [] H := hP
  have hD : va_D (fun q : Nat => s.heap.size ≤ q) [] := hD
  obtain rfl : r_899 = (-1) := hw
  refine lv_icmp_eq (tgt := 553) hx hb dL_law_377 (by decide) (fun _ => ?_) (fun c9 => absurd (by decide) c9)
  refine lv_iinc (v := 6) (lv' := [(3, .int 6), (2, .ref q_714), (1, .ref q_664), (0, .ref b)]) hx hb dL_law_553 hl (k := 0) rfl (by decide) (by decide) rfl (fun ls hl => ?_)
  refine lv_goto (tgt := 18) hx hb dL_law_556 (by decide) ?_
  refine lv_iload_n hx hb dL_law_18 rfl (lv_at hl 0 rfl) ?_
  refine lv_aload_n hx hb dL_law_19 rfl (lv_at hl 3 rfl) ?_
  refine va_slen hx hb hX hbl hbA hS dL_law_20 ?_
  refine lv_topi (fun y_900 ey_900 => ?_)
  obtain rfl : y_900 = 6 := ey_900.trans (by decide)
  refine lv_bipush (v := 6) hx hb dL_law_21 (by decide) ?_
  refine lv_isub hx hb dL_law_23 ?_
  refine lv_topi (fun y_901 ey_901 => ?_)
  obtain rfl : y_901 = 0 := ey_901.trans (by decide)
  refine lv_icmp_gt (tgt := 559) hx hb dL_law_24 (by decide) (fun _ => ?_) (fun c9 => absurd (by decide) c9)
  refine lv_iconst (v := 1) hx hb dL_law_559 (by decide) ?_
  refine va_forget (fun q hq => hS.2.2 q hq) ?_
  exact lw_ret hx hb hr hlocks dL_law_560
