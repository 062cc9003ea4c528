set_option maxHeartbeats 4000000 in
set_option maxRecDepth 100000 in
theorem lw_feed {p : Program} {l : Launch} {e : Env} {s : State} {m : MethodId} {below : List Frame} {meth : Method} {c : Code} {dC : Nat → ClassId} {dI : Nat → Nat → Nat} {cI cB cL cZ : ClassId} {b : Nat} {xs : Nat → Int32} (hx : p.tables.exec = Jvm.exec) (hb : c.code = cL_law) (hr : meth.sig.returnType = ret) (hml : c.maxLocals = 4) (hown : s.vm.findClass RL = some m.cls) (hts : ∀ w ∈ lw_tbl, w.before #[Value.ref b] s = true) (hX : va_X b 6 xs s s.heap) (hbl : b < s.heap.size) (hlocks : meth.locks = false) (hK : va_K (dC, dI) vwCl (kTy cI cB cL cZ) s) (hN : nN s) {q_664 : Nat} {q_665 : Nat} {q_666 : Nat} {q_667 : Nat} {q_668 : Nat} {q_669 : Nat} {q_670 : Nat} {q_671 : Nat} {q_672 : Nat} {q_673 : Nat} {q_674 : Nat} {q_714 : Nat} {fs_715 : List Value} {q_716 : Nat} {w1 : Int32} (ew1 : w1 = xs 1) {w2 : Int32} (ew2 : w2 = xs 2) {w3 : Int32} (ew3 : w3 = xs 3) {w4 : Int32} (ew4 : w4 = xs 4) {w5 : Int32} (ew5 : w5 = xs 5) {H : Heap} {locs : List Loc} (hP : va_P (dC, dI) vwCl [(q_664, .inr (9, [.ref q_665, .int 0, .ref q_666, .ref q_667, .ref q_668, .int 0, .int (-1), .ref q_669, .ref q_670, .ref q_671, .ref q_672, .ref q_673, .ref q_674])), (q_665, .inl (cB, 1200, .inl (fun _ => 0))), (q_714, .inr (10, fs_715)), (q_716, .inl (cI, 1200, .inl (fun _ => 0)))] H) (hD : va_D (fun q : Nat => s.heap.size ≤ q) [(q_664, .inr (9, [.ref q_665, .int 0, .ref q_666, .ref q_667, .ref q_668, .int 0, .int (-1), .ref q_669, .ref q_670, .ref q_671, .ref q_672, .ref q_673, .ref q_674])), (q_665, .inl (cB, 1200, .inl (fun _ => 0))), (q_714, .inr (10, fs_715)), (q_716, .inl (cI, 1200, .inl (fun _ => 0)))]) (hS : va_S (fun q : Nat => s.heap.size ≤ q) s.heap H locs) {ls : Array Slot} (hl : lv_has ls 4 [(3, .int 0), (2, .ref q_714), (1, .ref q_664), (0, .ref b)]) (hf_735 : fs_715.length = 68) (hf_736 : fs_715[1]? = some (.ref q_716)) (hf_753 : fs_715[2]? = some (.int 0)) : W p l e room_1 s m #[Value.ref b] below meth c H locs 84 30598 (lw_Z below #[Value.ref b] s) (F0 m 108 ls []) := by
  have hA : ∀ q : Nat, s.heap.size ≤ q → (fun q : Nat => s.heap.size ≤ q) q := fun _ h => h
  have hbA : ¬ (fun q : Nat => s.heap.size ≤ q) b := Nat.not_le.mpr hbl
  refine lv_aload_n hx hb dL_law_108 rfl (lv_at hl 2 rfl) ?_
  refine lv_aload_n hx hb dL_law_109 rfl (lv_at hl 3 rfl) ?_
  refine lv_iload_n hx hb dL_law_110 rfl (lv_at hl 0 rfl) ?_
  refine lv_iconst (v := 1) hx hb dL_law_111 (by decide) ?_
  refine lv_iadd hx hb dL_law_112 ?_
  refine lv_topi (fun y_762 ey_762 => ?_)
  obtain rfl : y_762 = 1 := ey_762.trans (by decide)
  refine va_sld hx hb hX hbl hbA hS (by unfold vp_in; decide) dL_law_113 ?_
  refine lv_topi (fun y_763 ey_763 => ?_)
  obtain rfl : w1 = y_763 := (ey_763.trans ((congrArg xs (by decide : (1 : Int32).toNatClampNeg = 1)).trans ew1.symm)).symm
  refine lv_aload_n hx hb dL_law_114 rfl (lv_at hl 3 rfl) ?_
  refine lv_iload_n hx hb dL_law_115 rfl (lv_at hl 0 rfl) ?_
  refine lv_iconst (v := 2) hx hb dL_law_116 (by decide) ?_
  refine lv_iadd hx hb dL_law_117 ?_
  refine lv_topi (fun y_764 ey_764 => ?_)
  obtain rfl : y_764 = 2 := ey_764.trans (by decide)
  refine va_sld hx hb hX hbl hbA hS (by unfold vp_in; decide) dL_law_118 ?_
  refine lv_topi (fun y_765 ey_765 => ?_)
  obtain rfl : w2 = y_765 := (ey_765.trans ((congrArg xs (by decide : (2 : Int32).toNatClampNeg = 2)).trans ew2.symm)).symm
  refine lv_aload_n hx hb dL_law_119 rfl (lv_at hl 3 rfl) ?_
  refine lv_iload_n hx hb dL_law_120 rfl (lv_at hl 0 rfl) ?_
  refine lv_iconst (v := 3) hx hb dL_law_121 (by decide) ?_
  refine lv_iadd hx hb dL_law_122 ?_
  refine lv_topi (fun y_766 ey_766 => ?_)
  obtain rfl : y_766 = 3 := ey_766.trans (by decide)
  refine va_sld hx hb hX hbl hbA hS (by unfold vp_in; decide) dL_law_123 ?_
  refine lv_topi (fun y_767 ey_767 => ?_)
  obtain rfl : w3 = y_767 := (ey_767.trans ((congrArg xs (by decide : (3 : Int32).toNatClampNeg = 3)).trans ew3.symm)).symm
  refine lv_aload_n hx hb dL_law_124 rfl (lv_at hl 3 rfl) ?_
  refine lv_iload_n hx hb dL_law_125 rfl (lv_at hl 0 rfl) ?_
  refine lv_iconst (v := 4) hx hb dL_law_126 (by decide) ?_
  refine lv_iadd hx hb dL_law_127 ?_
  refine lv_topi (fun y_768 ey_768 => ?_)
  obtain rfl : y_768 = 4 := ey_768.trans (by decide)
  refine va_sld hx hb hX hbl hbA hS (by unfold vp_in; decide) dL_law_128 ?_
  refine lv_topi (fun y_769 ey_769 => ?_)
  obtain rfl : w4 = y_769 := (ey_769.trans ((congrArg xs (by decide : (4 : Int32).toNatClampNeg = 4)).trans ew4.symm)).symm
  refine lv_aload_n hx hb dL_law_129 rfl (lv_at hl 3 rfl) ?_
  refine lv_iload_n hx hb dL_law_130 rfl (lv_at hl 0 rfl) ?_
  refine lv_iconst (v := 5) hx hb dL_law_131 (by decide) ?_
  refine lv_iadd hx hb dL_law_132 ?_
  refine lv_topi (fun y_770 ey_770 => ?_)
  obtain rfl : y_770 = 5 := ey_770.trans (by decide)
  refine va_sld hx hb hX hbl hbA hS (by unfold vp_in; decide) dL_law_133 ?_
  refine lv_topi (fun y_771 ey_771 => ?_)
  obtain rfl : w5 = y_771 := (ey_771.trans ((congrArg xs (by decide : (5 : Int32).toNatClampNeg = 5)).trans ew5.symm)).symm
  have hPc := hP.sub (ws' := [(q_664, .inr (9, [.ref q_665, .int 0, .ref q_666, .ref q_667, .ref q_668, .int 0, .int (-1), .ref q_669, .ref q_670, .ref q_671, .ref q_672, .ref q_673, .ref q_674])), (q_665, .inl (cB, 1200, .inl (fun _ => 0)))]) [0, 1] rfl
  have hDc := hD.sub (ws' := [(q_664, .inr (9, [.ref q_665, .int 0, .ref q_666, .ref q_667, .ref q_668, .int 0, .int (-1), .ref q_669, .ref q_670, .ref q_671, .ref q_672, .ref q_673, .ref q_674])), (q_665, .inl (cB, 1200, .inl (fun _ => 0)))]) [0, 1] (by decide) rfl
  have hFc := va_free (wc := [(q_664, .inr (9, [.ref q_665, .int 0, .ref q_666, .ref q_667, .ref q_668, .int 0, .int (-1), .ref q_669, .ref q_670, .ref q_671, .ref q_672, .ref q_673, .ref q_674])), (q_665, .inl (cB, 1200, .inl (fun _ => 0)))]) hD hS hA [0, 1] rfl
  refine va_calli (va_runV (As := [.int w1, .int w2, .int w3, .int w4, .int w5]) (rest := []) ⟨hx, hb, hml, hown, hts⟩ (c_feed l dC dI cI cB cL cZ (q_664) (q_665) (q_666) (q_667) (q_668) (q_669) (q_670) (q_671) (q_672) (q_673) (q_674) (w1) (w2) (w3) (w4) (w5) ((fun _ => 0)) H.size) (cwV 5 hts gW_X10_feed rfl rfl rfl (by decide +kernel) ⟨Nat.le_of_ble_eq_true rfl, Nat.le_of_ble_eq_true rfl⟩) ⟨cP_fb, va_recv hK hPc (ci := 9) (q0 := 0) rfl rfl, fun U hU hW => cP_pre hPc hK hDc hN U hU hW⟩ rfl rfl hl.1 rfl (lv_room (Nat.le_of_ble_eq_true rfl)) dL_law_134 ⟨Nat.le_of_ble_eq_true rfl, Nat.le_of_ble_eq_true rfl⟩) hS (fun q _ h => hFc q h) hFc (fun r_772 u t H1 locs ht hvm hw hB hz1 hk1 hS => ?_)
  obtain ⟨hP1, hD1⟩ := hB
  rw [ht] at hP1
  obtain ⟨hP, hD⟩ := va_join (wr := [(q_714, .inr (10, fs_715)), (q_716, .inl (cI, 1200, .inl (fun _ => 0)))]) (w1 := []) hP hD [0, 1] [2, 3] rfl rfl (by decide) (by decide) hk1 hFc hP1 hD1
  generalize H1 = H at hP hS ⊢
  have hP : va_P (dC, dI) vwCl [(q_714, .inr (10, fs_715)), (q_716, .inl (cI, 1200, .inl (fun _ => 0)))] H := hP
  have hD : va_D (fun q : Nat => s.heap.size ≤ q) [(q_714, .inr (10, fs_715)), (q_716, .inl (cI, 1200, .inl (fun _ => 0)))] := hD
  obtain rfl : r_772 = 20 := hw
  refine lv_aload_n hx hb dL_law_137 rfl (lv_at hl 1 rfl) ?_
  refine lv_aload_n hx hb dL_law_138 rfl (lv_at hl 3 rfl) ?_
  refine lv_iload_n hx hb dL_law_139 rfl (lv_at hl 0 rfl) ?_
  refine lv_iconst (v := 1) hx hb dL_law_140 (by decide) ?_
  refine lv_iadd hx hb dL_law_141 ?_
  refine lv_topi (fun y_773 ey_773 => ?_)
  obtain rfl : y_773 = 1 := ey_773.trans (by decide)
  refine va_sld hx hb hX hbl hbA hS (by unfold vp_in; decide) dL_law_142 ?_
  refine lv_topi (fun y_774 ey_774 => ?_)
  obtain rfl : w1 = y_774 := (ey_774.trans ((congrArg xs (by decide : (1 : Int32).toNatClampNeg = 1)).trans ew1.symm)).symm
  refine lv_aload_n hx hb dL_law_143 rfl (lv_at hl 3 rfl) ?_
  refine lv_iload_n hx hb dL_law_144 rfl (lv_at hl 0 rfl) ?_
  refine lv_iconst (v := 2) hx hb dL_law_145 (by decide) ?_
  refine lv_iadd hx hb dL_law_146 ?_
  refine lv_topi (fun y_775 ey_775 => ?_)
  obtain rfl : y_775 = 2 := ey_775.trans (by decide)
  refine va_sld hx hb hX hbl hbA hS (by unfold vp_in; decide) dL_law_147 ?_
  refine lv_topi (fun y_776 ey_776 => ?_)
  obtain rfl : w2 = y_776 := (ey_776.trans ((congrArg xs (by decide : (2 : Int32).toNatClampNeg = 2)).trans ew2.symm)).symm
  refine lv_aload_n hx hb dL_law_148 rfl (lv_at hl 3 rfl) ?_
  refine lv_iload_n hx hb dL_law_149 rfl (lv_at hl 0 rfl) ?_
  refine lv_iconst (v := 3) hx hb dL_law_150 (by decide) ?_
  refine lv_iadd hx hb dL_law_151 ?_
  refine lv_topi (fun y_777 ey_777 => ?_)
  obtain rfl : y_777 = 3 := ey_777.trans (by decide)
  refine va_sld hx hb hX hbl hbA hS (by unfold vp_in; decide) dL_law_152 ?_
  refine lv_topi (fun y_778 ey_778 => ?_)
  obtain rfl : w3 = y_778 := (ey_778.trans ((congrArg xs (by decide : (3 : Int32).toNatClampNeg = 3)).trans ew3.symm)).symm
  refine lv_aload_n hx hb dL_law_153 rfl (lv_at hl 3 rfl) ?_
  refine lv_iload_n hx hb dL_law_154 rfl (lv_at hl 0 rfl) ?_
  refine lv_iconst (v := 4) hx hb dL_law_155 (by decide) ?_
  refine lv_iadd hx hb dL_law_156 ?_
  refine lv_topi (fun y_779 ey_779 => ?_)
  obtain rfl : y_779 = 4 := ey_779.trans (by decide)
  refine va_sld hx hb hX hbl hbA hS (by unfold vp_in; decide) dL_law_157 ?_
  refine lv_topi (fun y_780 ey_780 => ?_)
  obtain rfl : w4 = y_780 := (ey_780.trans ((congrArg xs (by decide : (4 : Int32).toNatClampNeg = 4)).trans ew4.symm)).symm
  refine lv_aload_n hx hb dL_law_158 rfl (lv_at hl 3 rfl) ?_
  refine lv_iload_n hx hb dL_law_159 rfl (lv_at hl 0 rfl) ?_
  refine lv_iconst (v := 5) hx hb dL_law_160 (by decide) ?_
  refine lv_iadd hx hb dL_law_161 ?_
  refine lv_topi (fun y_781 ey_781 => ?_)
  obtain rfl : y_781 = 5 := ey_781.trans (by decide)
  refine va_sld hx hb hX hbl hbA hS (by unfold vp_in; decide) dL_law_162 ?_
  refine lv_topi (fun y_782 ey_782 => ?_)
  obtain rfl : w5 = y_782 := (ey_782.trans ((congrArg xs (by decide : (5 : Int32).toNatClampNeg = 5)).trans ew5.symm)).symm
  have hPc := hP.sub (ws' := [(q_714, .inr (10, fs_715)), (q_716, .inl (cI, 1200, .inl (fun _ => 0)))]) [0, 1] rfl
  have hDc := hD.sub (ws' := [(q_714, .inr (10, fs_715)), (q_716, .inl (cI, 1200, .inl (fun _ => 0)))]) [0, 1] (by decide) rfl
  have hFc := va_free (wc := [(q_714, .inr (10, fs_715)), (q_716, .inl (cI, 1200, .inl (fun _ => 0)))]) hD hS hA [0, 1] rfl
  refine va_calli (va_runV (As := [.int w1, .int w2, .int w3, .int w4, .int w5]) (rest := [.int 20]) ⟨hx, hb, hml, hown, hts⟩ (m_feed l dC dI cI cB cL cZ (q_714) (q_716) (w1) (w2) (w3) (w4) (w5) (fs_715) ((fun _ => 0)) H.size hf_735 hf_736 hf_753) (cwV 5 hts gW_X11_feed rfl rfl rfl (by decide +kernel) ⟨Nat.le_of_ble_eq_true rfl, Nat.le_of_ble_eq_true rfl⟩) ⟨cP_fb, va_recv hK hPc (ci := 10) (q0 := 0) rfl rfl, fun U hU hW => cP_pre hPc hK hDc hN U hU hW⟩ rfl rfl hl.1 rfl (lv_room (Nat.le_of_ble_eq_true rfl)) dL_law_163 ⟨Nat.le_of_ble_eq_true rfl, Nat.le_of_ble_eq_true rfl⟩) hS (fun q _ h => hFc q h) hFc (fun r_783 u t H1 locs ht hvm hw hB hz1 hk1 hS => ?_)
  obtain ⟨hP1, hD1⟩ := hB
  rw [ht] at hP1
  obtain ⟨hP, hD⟩ := va_join (wr := []) (w1 := []) hP hD [0, 1] [] rfl rfl (by decide) (by decide) hk1 hFc hP1 hD1
  generalize H1 = H at hP hS ⊢
  have hP : va_P (dC, dI) vwCl [] H := hP
  have hD : va_D (fun q : Nat => s.heap.size ≤ q) [] := hD
  obtain rfl : r_783 = 20 := hw
  refine lv_icmp_eq (tgt := 553) hx hb dL_law_166 (by decide) (fun _ => ?_) (fun c9 => absurd (by decide) c9)
  refine lv_iinc (v := 6) (lv' := [(3, .int 6), (2, .ref q_714), (1, .ref q_664), (0, .ref b)]) hx hb dL_law_553 hl (k := 0) rfl (by decide) (by decide) rfl (fun ls hl => ?_)
  refine lv_goto (tgt := 18) hx hb dL_law_556 (by decide) ?_
  refine lv_iload_n hx hb dL_law_18 rfl (lv_at hl 0 rfl) ?_
  refine lv_aload_n hx hb dL_law_19 rfl (lv_at hl 3 rfl) ?_
  refine va_slen hx hb hX hbl hbA hS dL_law_20 ?_
  refine lv_topi (fun y_784 ey_784 => ?_)
  obtain rfl : y_784 = 6 := ey_784.trans (by decide)
  refine lv_bipush (v := 6) hx hb dL_law_21 (by decide) ?_
  refine lv_isub hx hb dL_law_23 ?_
  refine lv_topi (fun y_785 ey_785 => ?_)
  obtain rfl : y_785 = 0 := ey_785.trans (by decide)
  refine lv_icmp_gt (tgt := 559) hx hb dL_law_24 (by decide) (fun _ => ?_) (fun c9 => absurd (by decide) c9)
  refine lv_iconst (v := 1) hx hb dL_law_559 (by decide) ?_
  refine va_forget (fun q hq => hS.2.2 q hq) ?_
  exact lw_ret hx hb hr hlocks dL_law_560

set_option maxHeartbeats 4000000 in
set_option maxRecDepth 100000 in
theorem lw_text0 {p : Program} {l : Launch} {e : Env} {s : State} {m : MethodId} {below : List Frame} {meth : Method} {c : Code} {dC : Nat → ClassId} {dI : Nat → Nat → Nat} {cI cB cL cZ : ClassId} {b : Nat} {xs : Nat → Int32} (hx : p.tables.exec = Jvm.exec) (hb : c.code = cL_law) (hr : meth.sig.returnType = ret) (hml : c.maxLocals = 4) (hown : s.vm.findClass RL = some m.cls) (hts : ∀ w ∈ lw_tbl, w.before #[Value.ref b] s = true) (hX : va_X b 6 xs s s.heap) (hbl : b < s.heap.size) (hlocks : meth.locks = false) (hK : va_K (dC, dI) vwCl (kTy cI cB cL cZ) s) (hN : nN s) {q_664 : Nat} {q_665 : Nat} {q_666 : Nat} {q_667 : Nat} {q_668 : Nat} {q_669 : Nat} {q_670 : Nat} {q_671 : Nat} {q_672 : Nat} {q_673 : Nat} {q_674 : Nat} {q_675 : Nat} {q_686 : Nat} {q_687 : Nat} {q_676 : Nat} {q_677 : Nat} {q_678 : Nat} {q_679 : Nat} {q_680 : Nat} {q_681 : Nat} {q_682 : Nat} {q_683 : Nat} {q_684 : Nat} {q_685 : Nat} {q_688 : Nat} {q_689 : Nat} {q_690 : Nat} {q_691 : Nat} {q_692 : Nat} {q_693 : Nat} {q_694 : Nat} {q_695 : Nat} {q_696 : Nat} {q_697 : Nat} {q_698 : Nat} {q_700 : Nat} {q_701 : Nat} {q_702 : Nat} {q_703 : Nat} {q_704 : Nat} {q_705 : Nat} {q_706 : Nat} {q_707 : Nat} {q_708 : Nat} {q_709 : Nat} {q_714 : Nat} {fs_715 : List Value} {q_717 : Nat} {f_718 : Nat → Int32} {q_719 : Nat} {q_720 : Nat} {q_721 : Nat} {q_722 : Nat} {q_723 : Nat} {q_724 : Nat} {q_725 : Nat} {q_726 : Nat} {q_727 : Nat} {q_728 : Nat} {q_729 : Nat} (ew1 : (0 : Int32) = xs 1) {w2 : Int32} (ew2 : w2 = xs 2) {w3 : Int32} (ew3 : w3 = xs 3) {w4 : Int32} (ew4 : w4 = xs 4) {w5 : Int32} (ew5 : w5 = xs 5) {H : Heap} {locs : List Loc} (hP : va_P (dC, dI) vwCl [(q_664, .inr (9, [.ref q_665, .int 0, .ref q_666, .ref q_667, .ref q_668, .int 0, .int (-1), .ref q_669, .ref q_670, .ref q_671, .ref q_672, .ref q_673, .ref q_674])), (q_665, .inl (cB, 1200, .inl (fun _ => 0))), (q_666, .inr (7, [.ref q_675, .int 0, .int 0])), (q_668, .inr (4, [.ref q_666, .ref q_686, .ref q_687, .ref q_667, .ref q_676, .int 0, .int 0, .int 0, .int 0, .int (-1)])), (q_667, .inr (3, [.ref q_676, .ref q_677, .ref q_678, .ref q_679, .ref q_680, .ref q_681, .ref q_682, .ref q_683, .ref q_684, .int 0, .int 0, .int 0, .int 0, .int (-1)])), (q_676, .inr (0, [.ref q_685, .int 0])), (q_669, .inr (6, [.ref q_688, .int (-1), .ref q_689])), (q_688, .inr (3, [.ref q_690, .ref q_691, .ref q_692, .ref q_693, .ref q_694, .ref q_695, .ref q_696, .ref q_697, .ref q_698, .int 0, .int 0, .int 0, .int 0, .int (-1)])), (q_689, .inl (cI, 4, .inl (fun _ => 0))), (q_670, .inr (1, [.ref q_669, .ref q_700, .ref q_701, .ref q_702, .ref q_703, .ref q_704, .ref q_688, .ref q_690, .int 1, .int 0, .int 0, .int 0, .long 0, .long 0])), (q_672, .inr (8, [.ref q_669, .ref q_671, .ref q_705, .ref q_706, .int 1, .int 0])), (q_673, .inr (2, [.ref q_670, .ref q_707, .ref q_708, .ref q_709, .int 1, .int 0, .int 0, .int (-1), .int 0, .int 0])), (q_714, .inr (10, fs_715)), (q_717, .inl (cI, 16, .inl f_718)), (q_719, .inl (cI, 16, .inl (fun _ => 0))), (q_720, .inl (cI, 64, .inl (fun _ => 0))), (q_721, .inl (cI, 2, .inl (fun _ => 0))), (q_722, .inl (cI, 82, .inl (fun _ => 0))), (q_723, .inl (cI, 82, .inl (fun _ => 0))), (q_724, .inl (cI, 82, .inl (fun _ => 0))), (q_725, .inl (cI, 2, .inl (fun _ => 0))), (q_726, .inl (cI, 50, .inl (fun _ => 0))), (q_727, .inl (cI, 50, .inl (fun _ => 0))), (q_728, .inl (cI, 2, .inl (fun _ => 0))), (q_729, .inl (cI, 4, .inl (fun _ => 0)))] H) (hD : va_D (fun q : Nat => s.heap.size ≤ q) [(q_664, .inr (9, [.ref q_665, .int 0, .ref q_666, .ref q_667, .ref q_668, .int 0, .int (-1), .ref q_669, .ref q_670, .ref q_671, .ref q_672, .ref q_673, .ref q_674])), (q_665, .inl (cB, 1200, .inl (fun _ => 0))), (q_666, .inr (7, [.ref q_675, .int 0, .int 0])), (q_668, .inr (4, [.ref q_666, .ref q_686, .ref q_687, .ref q_667, .ref q_676, .int 0, .int 0, .int 0, .int 0, .int (-1)])), (q_667, .inr (3, [.ref q_676, .ref q_677, .ref q_678, .ref q_679, .ref q_680, .ref q_681, .ref q_682, .ref q_683, .ref q_684, .int 0, .int 0, .int 0, .int 0, .int (-1)])), (q_676, .inr (0, [.ref q_685, .int 0])), (q_669, .inr (6, [.ref q_688, .int (-1), .ref q_689])), (q_688, .inr (3, [.ref q_690, .ref q_691, .ref q_692, .ref q_693, .ref q_694, .ref q_695, .ref q_696, .ref q_697, .ref q_698, .int 0, .int 0, .int 0, .int 0, .int (-1)])), (q_689, .inl (cI, 4, .inl (fun _ => 0))), (q_670, .inr (1, [.ref q_669, .ref q_700, .ref q_701, .ref q_702, .ref q_703, .ref q_704, .ref q_688, .ref q_690, .int 1, .int 0, .int 0, .int 0, .long 0, .long 0])), (q_672, .inr (8, [.ref q_669, .ref q_671, .ref q_705, .ref q_706, .int 1, .int 0])), (q_673, .inr (2, [.ref q_670, .ref q_707, .ref q_708, .ref q_709, .int 1, .int 0, .int 0, .int (-1), .int 0, .int 0])), (q_714, .inr (10, fs_715)), (q_717, .inl (cI, 16, .inl f_718)), (q_719, .inl (cI, 16, .inl (fun _ => 0))), (q_720, .inl (cI, 64, .inl (fun _ => 0))), (q_721, .inl (cI, 2, .inl (fun _ => 0))), (q_722, .inl (cI, 82, .inl (fun _ => 0))), (q_723, .inl (cI, 82, .inl (fun _ => 0))), (q_724, .inl (cI, 82, .inl (fun _ => 0))), (q_725, .inl (cI, 2, .inl (fun _ => 0))), (q_726, .inl (cI, 50, .inl (fun _ => 0))), (q_727, .inl (cI, 50, .inl (fun _ => 0))), (q_728, .inl (cI, 2, .inl (fun _ => 0))), (q_729, .inl (cI, 4, .inl (fun _ => 0)))]) (hS : va_S (fun q : Nat => s.heap.size ≤ q) s.heap H locs) {ls : Array Slot} (hl : lv_has ls 4 [(3, .int 0), (2, .ref q_714), (1, .ref q_664), (0, .ref b)]) (hf_735 : fs_715.length = 68) (hf_737 : fs_715[19]? = some (.ref q_717)) (hf_738 : fs_715[20]? = some (.ref q_719)) (hf_739 : fs_715[21]? = some (.ref q_720)) (hf_740 : fs_715[22]? = some (.ref q_721)) (hf_741 : fs_715[23]? = some (.ref q_722)) (hf_742 : fs_715[24]? = some (.ref q_723)) (hf_743 : fs_715[25]? = some (.ref q_724)) (hf_744 : fs_715[26]? = some (.ref q_725)) (hf_745 : fs_715[27]? = some (.ref q_726)) (hf_746 : fs_715[28]? = some (.ref q_727)) (hf_747 : fs_715[29]? = some (.ref q_728)) (hf_748 : fs_715[40]? = some (.ref q_729)) (hf_753 : fs_715[2]? = some (.int 0)) (hf_760 : ∀ j, j < 16 → f_718 j = -1) : W p l e room_1 s m #[Value.ref b] below meth c H locs 84 30598 (lw_Z below #[Value.ref b] s) (F0 m 171 ls []) := by
  have hA : ∀ q : Nat, s.heap.size ≤ q → (fun q : Nat => s.heap.size ≤ q) q := fun _ h => h
  have hbA : ¬ (fun q : Nat => s.heap.size ≤ q) b := Nat.not_le.mpr hbl
  refine lv_aload_n hx hb dL_law_171 rfl (lv_at hl 2 rfl) ?_
  refine lv_aload_n hx hb dL_law_172 rfl (lv_at hl 3 rfl) ?_
  refine lv_iload_n hx hb dL_law_173 rfl (lv_at hl 0 rfl) ?_
  refine lv_iconst (v := 1) hx hb dL_law_174 (by decide) ?_
  refine lv_iadd hx hb dL_law_175 ?_
  refine lv_topi (fun y_786 ey_786 => ?_)
  obtain rfl : y_786 = 1 := ey_786.trans (by decide)
  refine va_sld hx hb hX hbl hbA hS (by unfold vp_in; decide) dL_law_176 ?_
  refine lv_topi (fun y_787 ey_787 => ?_)
  obtain rfl : y_787 = 0 := ey_787.trans ((congrArg xs (by decide : (1 : Int32).toNatClampNeg = 1)).trans ew1.symm)
  have hPc := hP.sub (ws' := [(q_664, .inr (9, [.ref q_665, .int 0, .ref q_666, .ref q_667, .ref q_668, .int 0, .int (-1), .ref q_669, .ref q_670, .ref q_671, .ref q_672, .ref q_673, .ref q_674])), (q_665, .inl (cB, 1200, .inl (fun _ => 0))), (q_666, .inr (7, [.ref q_675, .int 0, .int 0])), (q_668, .inr (4, [.ref q_666, .ref q_686, .ref q_687, .ref q_667, .ref q_676, .int 0, .int 0, .int 0, .int 0, .int (-1)])), (q_667, .inr (3, [.ref q_676, .ref q_677, .ref q_678, .ref q_679, .ref q_680, .ref q_681, .ref q_682, .ref q_683, .ref q_684, .int 0, .int 0, .int 0, .int 0, .int (-1)])), (q_676, .inr (0, [.ref q_685, .int 0])), (q_669, .inr (6, [.ref q_688, .int (-1), .ref q_689])), (q_688, .inr (3, [.ref q_690, .ref q_691, .ref q_692, .ref q_693, .ref q_694, .ref q_695, .ref q_696, .ref q_697, .ref q_698, .int 0, .int 0, .int 0, .int 0, .int (-1)])), (q_689, .inl (cI, 4, .inl (fun _ => 0))), (q_670, .inr (1, [.ref q_669, .ref q_700, .ref q_701, .ref q_702, .ref q_703, .ref q_704, .ref q_688, .ref q_690, .int 1, .int 0, .int 0, .int 0, .long 0, .long 0])), (q_672, .inr (8, [.ref q_669, .ref q_671, .ref q_705, .ref q_706, .int 1, .int 0])), (q_673, .inr (2, [.ref q_670, .ref q_707, .ref q_708, .ref q_709, .int 1, .int 0, .int 0, .int (-1), .int 0, .int 0]))]) [0, 1, 2, 3, 4, 5, 6, 7, 8, 9, 10, 11] rfl
  have hDc := hD.sub (ws' := [(q_664, .inr (9, [.ref q_665, .int 0, .ref q_666, .ref q_667, .ref q_668, .int 0, .int (-1), .ref q_669, .ref q_670, .ref q_671, .ref q_672, .ref q_673, .ref q_674])), (q_665, .inl (cB, 1200, .inl (fun _ => 0))), (q_666, .inr (7, [.ref q_675, .int 0, .int 0])), (q_668, .inr (4, [.ref q_666, .ref q_686, .ref q_687, .ref q_667, .ref q_676, .int 0, .int 0, .int 0, .int 0, .int (-1)])), (q_667, .inr (3, [.ref q_676, .ref q_677, .ref q_678, .ref q_679, .ref q_680, .ref q_681, .ref q_682, .ref q_683, .ref q_684, .int 0, .int 0, .int 0, .int 0, .int (-1)])), (q_676, .inr (0, [.ref q_685, .int 0])), (q_669, .inr (6, [.ref q_688, .int (-1), .ref q_689])), (q_688, .inr (3, [.ref q_690, .ref q_691, .ref q_692, .ref q_693, .ref q_694, .ref q_695, .ref q_696, .ref q_697, .ref q_698, .int 0, .int 0, .int 0, .int 0, .int (-1)])), (q_689, .inl (cI, 4, .inl (fun _ => 0))), (q_670, .inr (1, [.ref q_669, .ref q_700, .ref q_701, .ref q_702, .ref q_703, .ref q_704, .ref q_688, .ref q_690, .int 1, .int 0, .int 0, .int 0, .long 0, .long 0])), (q_672, .inr (8, [.ref q_669, .ref q_671, .ref q_705, .ref q_706, .int 1, .int 0])), (q_673, .inr (2, [.ref q_670, .ref q_707, .ref q_708, .ref q_709, .int 1, .int 0, .int 0, .int (-1), .int 0, .int 0]))]) [0, 1, 2, 3, 4, 5, 6, 7, 8, 9, 10, 11] (by decide) rfl
  have hFc := va_free (wc := [(q_664, .inr (9, [.ref q_665, .int 0, .ref q_666, .ref q_667, .ref q_668, .int 0, .int (-1), .ref q_669, .ref q_670, .ref q_671, .ref q_672, .ref q_673, .ref q_674])), (q_665, .inl (cB, 1200, .inl (fun _ => 0))), (q_666, .inr (7, [.ref q_675, .int 0, .int 0])), (q_668, .inr (4, [.ref q_666, .ref q_686, .ref q_687, .ref q_667, .ref q_676, .int 0, .int 0, .int 0, .int 0, .int (-1)])), (q_667, .inr (3, [.ref q_676, .ref q_677, .ref q_678, .ref q_679, .ref q_680, .ref q_681, .ref q_682, .ref q_683, .ref q_684, .int 0, .int 0, .int 0, .int 0, .int (-1)])), (q_676, .inr (0, [.ref q_685, .int 0])), (q_669, .inr (6, [.ref q_688, .int (-1), .ref q_689])), (q_688, .inr (3, [.ref q_690, .ref q_691, .ref q_692, .ref q_693, .ref q_694, .ref q_695, .ref q_696, .ref q_697, .ref q_698, .int 0, .int 0, .int 0, .int 0, .int (-1)])), (q_689, .inl (cI, 4, .inl (fun _ => 0))), (q_670, .inr (1, [.ref q_669, .ref q_700, .ref q_701, .ref q_702, .ref q_703, .ref q_704, .ref q_688, .ref q_690, .int 1, .int 0, .int 0, .int 0, .long 0, .long 0])), (q_672, .inr (8, [.ref q_669, .ref q_671, .ref q_705, .ref q_706, .int 1, .int 0])), (q_673, .inr (2, [.ref q_670, .ref q_707, .ref q_708, .ref q_709, .int 1, .int 0, .int 0, .int (-1), .int 0, .int 0]))]) hD hS hA [0, 1, 2, 3, 4, 5, 6, 7, 8, 9, 10, 11] rfl
  refine va_calli (va_runV (As := [.int 0]) (rest := []) ⟨hx, hb, hml, hown, hts⟩ (c_text0 l dC dI cI cB cL cZ (q_664) (q_665) (q_666) (q_667) (q_668) (q_669) (q_670) (q_671) (q_672) (q_673) (q_674) (q_688) (q_689) (q_690) (q_691) (q_692) (q_693) (q_694) (q_695) (q_696) (q_697) (q_698) (q_675) (q_686) (q_687) (q_676) (q_685) (q_677) (q_678) (q_679) (q_680) (q_681) (q_682) (q_683) (q_684) (q_669) (q_671) (q_705) (q_706) (q_670) (q_707) (q_708) (q_709) (q_700) (q_701) (q_702) (q_703) (q_704) ((fun _ => 0)) ((fun _ => 0)) H.size) (cwV 1 hts gW_X10_text rfl rfl rfl (by decide +kernel) ⟨Nat.le_of_ble_eq_true rfl, Nat.le_of_ble_eq_true rfl⟩) ⟨cP_fb, va_recv hK hPc (ci := 9) (q0 := 0) rfl rfl, fun U hU hW => cP_pre hPc hK hDc hN U hU hW⟩ rfl rfl hl.1 rfl (lv_room (Nat.le_of_ble_eq_true rfl)) dL_law_177 ⟨Nat.le_of_ble_eq_true rfl, Nat.le_of_ble_eq_true rfl⟩) hS (fun q _ h => hFc q h) hFc (fun r_788 u t H1 locs ht hvm hw hB hz1 hk1 hS => ?_)
  obtain ⟨hP1, hD1⟩ := hB
  rw [ht] at hP1
  obtain ⟨hP, hD⟩ := va_join (wr := [(q_714, .inr (10, fs_715)), (q_717, .inl (cI, 16, .inl f_718)), (q_719, .inl (cI, 16, .inl (fun _ => 0))), (q_720, .inl (cI, 64, .inl (fun _ => 0))), (q_721, .inl (cI, 2, .inl (fun _ => 0))), (q_722, .inl (cI, 82, .inl (fun _ => 0))), (q_723, .inl (cI, 82, .inl (fun _ => 0))), (q_724, .inl (cI, 82, .inl (fun _ => 0))), (q_725, .inl (cI, 2, .inl (fun _ => 0))), (q_726, .inl (cI, 50, .inl (fun _ => 0))), (q_727, .inl (cI, 50, .inl (fun _ => 0))), (q_728, .inl (cI, 2, .inl (fun _ => 0))), (q_729, .inl (cI, 4, .inl (fun _ => 0)))]) (w1 := []) hP hD [0, 1, 2, 3, 4, 5, 6, 7, 8, 9, 10, 11] [12, 13, 14, 15, 16, 17, 18, 19, 20, 21, 22, 23, 24] rfl rfl (by decide) (by decide) hk1 hFc hP1 hD1
  generalize H1 = H at hP hS ⊢
  have hP : va_P (dC, dI) vwCl [(q_714, .inr (10, fs_715)), (q_717, .inl (cI, 16, .inl f_718)), (q_719, .inl (cI, 16, .inl (fun _ => 0))), (q_720, .inl (cI, 64, .inl (fun _ => 0))), (q_721, .inl (cI, 2, .inl (fun _ => 0))), (q_722, .inl (cI, 82, .inl (fun _ => 0))), (q_723, .inl (cI, 82, .inl (fun _ => 0))), (q_724, .inl (cI, 82, .inl (fun _ => 0))), (q_725, .inl (cI, 2, .inl (fun _ => 0))), (q_726, .inl (cI, 50, .inl (fun _ => 0))), (q_727, .inl (cI, 50, .inl (fun _ => 0))), (q_728, .inl (cI, 2, .inl (fun _ => 0))), (q_729, .inl (cI, 4, .inl (fun _ => 0)))] H := hP
  have hD : va_D (fun q : Nat => s.heap.size ≤ q) [(q_714, .inr (10, fs_715)), (q_717, .inl (cI, 16, .inl f_718)), (q_719, .inl (cI, 16, .inl (fun _ => 0))), (q_720, .inl (cI, 64, .inl (fun _ => 0))), (q_721, .inl (cI, 2, .inl (fun _ => 0))), (q_722, .inl (cI, 82, .inl (fun _ => 0))), (q_723, .inl (cI, 82, .inl (fun _ => 0))), (q_724, .inl (cI, 82, .inl (fun _ => 0))), (q_725, .inl (cI, 2, .inl (fun _ => 0))), (q_726, .inl (cI, 50, .inl (fun _ => 0))), (q_727, .inl (cI, 50, .inl (fun _ => 0))), (q_728, .inl (cI, 2, .inl (fun _ => 0))), (q_729, .inl (cI, 4, .inl (fun _ => 0)))] := hD
  obtain rfl : r_788 = 0 := hw
  refine lv_aload_n hx hb dL_law_180 rfl (lv_at hl 1 rfl) ?_
  refine lv_aload_n hx hb dL_law_181 rfl (lv_at hl 3 rfl) ?_
  refine lv_iload_n hx hb dL_law_182 rfl (lv_at hl 0 rfl) ?_
  refine lv_iconst (v := 1) hx hb dL_law_183 (by decide) ?_
  refine lv_iadd hx hb dL_law_184 ?_
  refine lv_topi (fun y_789 ey_789 => ?_)
  obtain rfl : y_789 = 1 := ey_789.trans (by decide)
  refine va_sld hx hb hX hbl hbA hS (by unfold vp_in; decide) dL_law_185 ?_
  refine lv_topi (fun y_790 ey_790 => ?_)
  obtain rfl : y_790 = 0 := ey_790.trans ((congrArg xs (by decide : (1 : Int32).toNatClampNeg = 1)).trans ew1.symm)
  have hPc := hP.sub (ws' := [(q_714, .inr (10, fs_715)), (q_717, .inl (cI, 16, .inl f_718)), (q_719, .inl (cI, 16, .inl (fun _ => 0))), (q_720, .inl (cI, 64, .inl (fun _ => 0))), (q_721, .inl (cI, 2, .inl (fun _ => 0))), (q_722, .inl (cI, 82, .inl (fun _ => 0))), (q_723, .inl (cI, 82, .inl (fun _ => 0))), (q_724, .inl (cI, 82, .inl (fun _ => 0))), (q_725, .inl (cI, 2, .inl (fun _ => 0))), (q_726, .inl (cI, 50, .inl (fun _ => 0))), (q_727, .inl (cI, 50, .inl (fun _ => 0))), (q_728, .inl (cI, 2, .inl (fun _ => 0))), (q_729, .inl (cI, 4, .inl (fun _ => 0)))]) [0, 1, 2, 3, 4, 5, 6, 7, 8, 9, 10, 11, 12] rfl
  have hDc := hD.sub (ws' := [(q_714, .inr (10, fs_715)), (q_717, .inl (cI, 16, .inl f_718)), (q_719, .inl (cI, 16, .inl (fun _ => 0))), (q_720, .inl (cI, 64, .inl (fun _ => 0))), (q_721, .inl (cI, 2, .inl (fun _ => 0))), (q_722, .inl (cI, 82, .inl (fun _ => 0))), (q_723, .inl (cI, 82, .inl (fun _ => 0))), (q_724, .inl (cI, 82, .inl (fun _ => 0))), (q_725, .inl (cI, 2, .inl (fun _ => 0))), (q_726, .inl (cI, 50, .inl (fun _ => 0))), (q_727, .inl (cI, 50, .inl (fun _ => 0))), (q_728, .inl (cI, 2, .inl (fun _ => 0))), (q_729, .inl (cI, 4, .inl (fun _ => 0)))]) [0, 1, 2, 3, 4, 5, 6, 7, 8, 9, 10, 11, 12] (by decide) rfl
  have hFc := va_free (wc := [(q_714, .inr (10, fs_715)), (q_717, .inl (cI, 16, .inl f_718)), (q_719, .inl (cI, 16, .inl (fun _ => 0))), (q_720, .inl (cI, 64, .inl (fun _ => 0))), (q_721, .inl (cI, 2, .inl (fun _ => 0))), (q_722, .inl (cI, 82, .inl (fun _ => 0))), (q_723, .inl (cI, 82, .inl (fun _ => 0))), (q_724, .inl (cI, 82, .inl (fun _ => 0))), (q_725, .inl (cI, 2, .inl (fun _ => 0))), (q_726, .inl (cI, 50, .inl (fun _ => 0))), (q_727, .inl (cI, 50, .inl (fun _ => 0))), (q_728, .inl (cI, 2, .inl (fun _ => 0))), (q_729, .inl (cI, 4, .inl (fun _ => 0)))]) hD hS hA [0, 1, 2, 3, 4, 5, 6, 7, 8, 9, 10, 11, 12] rfl
  refine va_calli (va_runV (As := [.int 0]) (rest := [.int 0]) ⟨hx, hb, hml, hown, hts⟩ (m_text0 l dC dI cI cB cL cZ (q_714) (q_717) (q_719) (q_720) (q_721) (q_722) (q_723) (q_724) (q_725) (q_726) (q_727) (q_728) (q_729) (fs_715) (f_718) ((fun _ => 0)) ((fun _ => 0)) ((fun _ => 0)) ((fun _ => 0)) ((fun _ => 0)) ((fun _ => 0)) ((fun _ => 0)) ((fun _ => 0)) ((fun _ => 0)) ((fun _ => 0)) ((fun _ => 0)) H.size hf_735 hf_737 hf_738 hf_739 hf_740 hf_741 hf_742 hf_743 hf_744 hf_745 hf_746 hf_747 hf_748 hf_753 (hf_760)) (cwV 1 hts gW_X11_text rfl rfl rfl (by decide +kernel) ⟨Nat.le_of_ble_eq_true rfl, Nat.le_of_ble_eq_true rfl⟩) ⟨cP_fb, va_recv hK hPc (ci := 10) (q0 := 0) rfl rfl, fun U hU hW => cP_pre hPc hK hDc hN U hU hW⟩ rfl rfl hl.1 rfl (lv_room (Nat.le_of_ble_eq_true rfl)) dL_law_186 ⟨Nat.le_of_ble_eq_true rfl, Nat.le_of_ble_eq_true rfl⟩) hS (fun q _ h => hFc q h) hFc (fun r_791 u t H1 locs ht hvm hw hB hz1 hk1 hS => ?_)
  obtain ⟨hP1, hD1⟩ := hB
  rw [ht] at hP1
  obtain ⟨hP, hD⟩ := va_join (wr := []) (w1 := []) hP hD [0, 1, 2, 3, 4, 5, 6, 7, 8, 9, 10, 11, 12] [] rfl rfl (by decide) (by decide) hk1 hFc hP1 hD1
  generalize H1 = H at hP hS ⊢
  have hP : va_P (dC, dI) vwCl [] H := hP
  have hD : va_D (fun q : Nat => s.heap.size ≤ q) [] := hD
  obtain rfl : r_791 = 0 := hw
  refine lv_icmp_eq (tgt := 553) hx hb dL_law_189 (by decide) (fun _ => ?_) (fun c9 => absurd (by decide) c9)
  refine lv_iinc (v := 6) (lv' := [(3, .int 6), (2, .ref q_714), (1, .ref q_664), (0, .ref b)]) hx hb dL_law_553 hl (k := 0) rfl (by decide) (by decide) rfl (fun ls hl => ?_)
  refine lv_goto (tgt := 18) hx hb dL_law_556 (by decide) ?_
  refine lv_iload_n hx hb dL_law_18 rfl (lv_at hl 0 rfl) ?_
  refine lv_aload_n hx hb dL_law_19 rfl (lv_at hl 3 rfl) ?_
  refine va_slen hx hb hX hbl hbA hS dL_law_20 ?_
  refine lv_topi (fun y_792 ey_792 => ?_)
  obtain rfl : y_792 = 6 := ey_792.trans (by decide)
  refine lv_bipush (v := 6) hx hb dL_law_21 (by decide) ?_
  refine lv_isub hx hb dL_law_23 ?_
  refine lv_topi (fun y_793 ey_793 => ?_)
  obtain rfl : y_793 = 0 := ey_793.trans (by decide)
  refine lv_icmp_gt (tgt := 559) hx hb dL_law_24 (by decide) (fun _ => ?_) (fun c9 => absurd (by decide) c9)
  refine lv_iconst (v := 1) hx hb dL_law_559 (by decide) ?_
  refine va_forget (fun q hq => hS.2.2 q hq) ?_
  exact lw_ret hx hb hr hlocks dL_law_560

set_option maxHeartbeats 4000000 in
set_option maxRecDepth 100000 in
theorem lw_textN {p : Program} {l : Launch} {e : Env} {s : State} {m : MethodId} {below : List Frame} {meth : Method} {c : Code} {dC : Nat → ClassId} {dI : Nat → Nat → Nat} {cI cB cL cZ : ClassId} {b : Nat} {xs : Nat → Int32} (hx : p.tables.exec = Jvm.exec) (hb : c.code = cL_law) (hr : meth.sig.returnType = ret) (hml : c.maxLocals = 4) (hown : s.vm.findClass RL = some m.cls) (hts : ∀ w ∈ lw_tbl, w.before #[Value.ref b] s = true) (hX : va_X b 6 xs s s.heap) (hbl : b < s.heap.size) (hlocks : meth.locks = false) (hK : va_K (dC, dI) vwCl (kTy cI cB cL cZ) s) (hN : nN s) {q_664 : Nat} {q_665 : Nat} {q_666 : Nat} {q_667 : Nat} {q_668 : Nat} {q_669 : Nat} {q_670 : Nat} {q_671 : Nat} {q_672 : Nat} {q_673 : Nat} {q_674 : Nat} {q_714 : Nat} {fs_715 : List Value} {w1 : Int32} (ew1 : w1 = xs 1) {w2 : Int32} (ew2 : w2 = xs 2) {w3 : Int32} (ew3 : w3 = xs 3) {w4 : Int32} (ew4 : w4 = xs 4) {w5 : Int32} (ew5 : w5 = xs 5) {H : Heap} {locs : List Loc} (hP : va_P (dC, dI) vwCl [(q_664, .inr (9, [.ref q_665, .int 0, .ref q_666, .ref q_667, .ref q_668, .int 0, .int (-1), .ref q_669, .ref q_670, .ref q_671, .ref q_672, .ref q_673, .ref q_674])), (q_714, .inr (10, fs_715))] H) (hD : va_D (fun q : Nat => s.heap.size ≤ q) [(q_664, .inr (9, [.ref q_665, .int 0, .ref q_666, .ref q_667, .ref q_668, .int 0, .int (-1), .ref q_669, .ref q_670, .ref q_671, .ref q_672, .ref q_673, .ref q_674])), (q_714, .inr (10, fs_715))]) (hS : va_S (fun q : Nat => s.heap.size ≤ q) s.heap H locs) {ls : Array Slot} (hl : lv_has ls 4 [(3, .int 0), (2, .ref q_714), (1, .ref q_664), (0, .ref b)]) (hf_735 : fs_715.length = 68) (hf_753 : fs_715[2]? = some (.int 0)) (hn9 : w1 < 0 ∨ 0 < w1) : W p l e room_1 s m #[Value.ref b] below meth c H locs 84 30598 (lw_Z below #[Value.ref b] s) (F0 m 171 ls []) := by
  have hA : ∀ q : Nat, s.heap.size ≤ q → (fun q : Nat => s.heap.size ≤ q) q := fun _ h => h
  have hbA : ¬ (fun q : Nat => s.heap.size ≤ q) b := Nat.not_le.mpr hbl
  refine lv_aload_n hx hb dL_law_171 rfl (lv_at hl 2 rfl) ?_
  refine lv_aload_n hx hb dL_law_172 rfl (lv_at hl 3 rfl) ?_
  refine lv_iload_n hx hb dL_law_173 rfl (lv_at hl 0 rfl) ?_
  refine lv_iconst (v := 1) hx hb dL_law_174 (by decide) ?_
  refine lv_iadd hx hb dL_law_175 ?_
  refine lv_topi (fun y_794 ey_794 => ?_)
  obtain rfl : y_794 = 1 := ey_794.trans (by decide)
  refine va_sld hx hb hX hbl hbA hS (by unfold vp_in; decide) dL_law_176 ?_
  refine lv_topi (fun y_795 ey_795 => ?_)
  obtain rfl : w1 = y_795 := (ey_795.trans ((congrArg xs (by decide : (1 : Int32).toNatClampNeg = 1)).trans ew1.symm)).symm
  have hPc := hP.sub (ws' := [(q_664, .inr (9, [.ref q_665, .int 0, .ref q_666, .ref q_667, .ref q_668, .int 0, .int (-1), .ref q_669, .ref q_670, .ref q_671, .ref q_672, .ref q_673, .ref q_674]))]) [0] rfl
  have hDc := hD.sub (ws' := [(q_664, .inr (9, [.ref q_665, .int 0, .ref q_666, .ref q_667, .ref q_668, .int 0, .int (-1), .ref q_669, .ref q_670, .ref q_671, .ref q_672, .ref q_673, .ref q_674]))]) [0] (by decide) rfl
  have hFc := va_free (wc := [(q_664, .inr (9, [.ref q_665, .int 0, .ref q_666, .ref q_667, .ref q_668, .int 0, .int (-1), .ref q_669, .ref q_670, .ref q_671, .ref q_672, .ref q_673, .ref q_674]))]) hD hS hA [0] rfl
  refine va_calli (va_runV (As := [.int w1]) (rest := []) ⟨hx, hb, hml, hown, hts⟩ (c_textN l dC dI cI cB cL cZ (q_664) (q_665) (q_666) (q_667) (q_668) (q_669) (q_670) (q_671) (q_672) (q_673) (q_674) (w1) H.size (hn9)) (cwV 1 hts gW_X10_text rfl rfl rfl (by decide +kernel) ⟨Nat.le_of_ble_eq_true rfl, Nat.le_of_ble_eq_true rfl⟩) ⟨cP_fb, va_recv hK hPc (ci := 9) (q0 := 0) rfl rfl, fun U hU hW => cP_pre hPc hK hDc hN U hU hW⟩ rfl rfl hl.1 rfl (lv_room (Nat.le_of_ble_eq_true rfl)) dL_law_177 ⟨Nat.le_of_ble_eq_true rfl, Nat.le_of_ble_eq_true rfl⟩) hS (fun q _ h => hFc q h) hFc (fun r_796 u t H1 locs ht hvm hw hB hz1 hk1 hS => ?_)
  obtain ⟨hP1, hD1⟩ := hB
  rw [ht] at hP1
  obtain ⟨hP, hD⟩ := va_join (wr := [(q_714, .inr (10, fs_715))]) (w1 := []) hP hD [0] [1] rfl rfl (by decide) (by decide) hk1 hFc hP1 hD1
  generalize H1 = H at hP hS ⊢
  have hP : va_P (dC, dI) vwCl [(q_714, .inr (10, fs_715))] H := hP
  have hD : va_D (fun q : Nat => s.heap.size ≤ q) [(q_714, .inr (10, fs_715))] := hD
  obtain rfl : r_796 = (-2) := hw
  refine lv_aload_n hx hb dL_law_180 rfl (lv_at hl 1 rfl) ?_
  refine lv_aload_n hx hb dL_law_181 rfl (lv_at hl 3 rfl) ?_
  refine lv_iload_n hx hb dL_law_182 rfl (lv_at hl 0 rfl) ?_
  refine lv_iconst (v := 1) hx hb dL_law_183 (by decide) ?_
  refine lv_iadd hx hb dL_law_184 ?_
  refine lv_topi (fun y_797 ey_797 => ?_)
  obtain rfl : y_797 = 1 := ey_797.trans (by decide)
  refine va_sld hx hb hX hbl hbA hS (by unfold vp_in; decide) dL_law_185 ?_
  refine lv_topi (fun y_798 ey_798 => ?_)
  obtain rfl : w1 = y_798 := (ey_798.trans ((congrArg xs (by decide : (1 : Int32).toNatClampNeg = 1)).trans ew1.symm)).symm
  have hPc := hP.sub (ws' := [(q_714, .inr (10, fs_715))]) [0] rfl
  have hDc := hD.sub (ws' := [(q_714, .inr (10, fs_715))]) [0] (by decide) rfl
  have hFc := va_free (wc := [(q_714, .inr (10, fs_715))]) hD hS hA [0] rfl
  refine va_calli (va_runV (As := [.int w1]) (rest := [.int (-2)]) ⟨hx, hb, hml, hown, hts⟩ (m_textN l dC dI cI cB cL cZ (q_714) (w1) (fs_715) H.size hf_735 hf_753 (hn9)) (cwV 1 hts gW_X11_text rfl rfl rfl (by decide +kernel) ⟨Nat.le_of_ble_eq_true rfl, Nat.le_of_ble_eq_true rfl⟩) ⟨cP_fb, va_recv hK hPc (ci := 10) (q0 := 0) rfl rfl, fun U hU hW => cP_pre hPc hK hDc hN U hU hW⟩ rfl rfl hl.1 rfl (lv_room (Nat.le_of_ble_eq_true rfl)) dL_law_186 ⟨Nat.le_of_ble_eq_true rfl, Nat.le_of_ble_eq_true rfl⟩) hS (fun q _ h => hFc q h) hFc (fun r_799 u t H1 locs ht hvm hw hB hz1 hk1 hS => ?_)
  obtain ⟨hP1, hD1⟩ := hB
  rw [ht] at hP1
  obtain ⟨hP, hD⟩ := va_join (wr := []) (w1 := []) hP hD [0] [] rfl rfl (by decide) (by decide) hk1 hFc hP1 hD1
  generalize H1 = H at hP hS ⊢
  have hP : va_P (dC, dI) vwCl [] H := hP
  have hD : va_D (fun q : Nat => s.heap.size ≤ q) [] := hD
  obtain rfl : r_799 = (-2) := hw
  refine lv_icmp_eq (tgt := 553) hx hb dL_law_189 (by decide) (fun _ => ?_) (fun c9 => absurd (by decide) c9)
  refine lv_iinc (v := 6) (lv' := [(3, .int 6), (2, .ref q_714), (1, .ref q_664), (0, .ref b)]) hx hb dL_law_553 hl (k := 0) rfl (by decide) (by decide) rfl (fun ls hl => ?_)
  refine lv_goto (tgt := 18) hx hb dL_law_556 (by decide) ?_
  refine lv_iload_n hx hb dL_law_18 rfl (lv_at hl 0 rfl) ?_
  refine lv_aload_n hx hb dL_law_19 rfl (lv_at hl 3 rfl) ?_
  refine va_slen hx hb hX hbl hbA hS dL_law_20 ?_
  refine lv_topi (fun y_800 ey_800 => ?_)
  obtain rfl : y_800 = 6 := ey_800.trans (by decide)
  refine lv_bipush (v := 6) hx hb dL_law_21 (by decide) ?_
  refine lv_isub hx hb dL_law_23 ?_
  refine lv_topi (fun y_801 ey_801 => ?_)
  obtain rfl : y_801 = 0 := ey_801.trans (by decide)
  refine lv_icmp_gt (tgt := 559) hx hb dL_law_24 (by decide) (fun _ => ?_) (fun c9 => absurd (by decide) c9)
  refine lv_iconst (v := 1) hx hb dL_law_559 (by decide) ?_
  refine va_forget (fun q hq => hS.2.2 q hq) ?_
  exact lw_ret hx hb hr hlocks dL_law_560

set_option maxHeartbeats 4000000 in
set_option maxRecDepth 100000 in
theorem lw_fault {p : Program} {l : Launch} {e : Env} {s : State} {m : MethodId} {below : List Frame} {meth : Method} {c : Code} {dC : Nat → ClassId} {dI : Nat → Nat → Nat} {cI cB cL cZ : ClassId} {b : Nat} {xs : Nat → Int32} (hx : p.tables.exec = Jvm.exec) (hb : c.code = cL_law) (hr : meth.sig.returnType = ret) (hml : c.maxLocals = 4) (hown : s.vm.findClass RL = some m.cls) (hts : ∀ w ∈ lw_tbl, w.before #[Value.ref b] s = true) (hX : va_X b 6 xs s s.heap) (hbl : b < s.heap.size) (hlocks : meth.locks = false) (hK : va_K (dC, dI) vwCl (kTy cI cB cL cZ) s) (hN : nN s) {q_664 : Nat} {q_665 : Nat} {q_666 : Nat} {q_667 : Nat} {q_668 : Nat} {q_669 : Nat} {q_670 : Nat} {q_671 : Nat} {q_672 : Nat} {q_673 : Nat} {q_674 : Nat} {q_714 : Nat} {fs_715 : List Value} {w1 : Int32} (ew1 : w1 = xs 1) {w2 : Int32} (ew2 : w2 = xs 2) {w3 : Int32} (ew3 : w3 = xs 3) {w4 : Int32} (ew4 : w4 = xs 4) {w5 : Int32} (ew5 : w5 = xs 5) {H : Heap} {locs : List Loc} (hP : va_P (dC, dI) vwCl [(q_664, .inr (9, [.ref q_665, .int 0, .ref q_666, .ref q_667, .ref q_668, .int 0, .int (-1), .ref q_669, .ref q_670, .ref q_671, .ref q_672, .ref q_673, .ref q_674])), (q_714, .inr (10, fs_715))] H) (hD : va_D (fun q : Nat => s.heap.size ≤ q) [(q_664, .inr (9, [.ref q_665, .int 0, .ref q_666, .ref q_667, .ref q_668, .int 0, .int (-1), .ref q_669, .ref q_670, .ref q_671, .ref q_672, .ref q_673, .ref q_674])), (q_714, .inr (10, fs_715))]) (hS : va_S (fun q : Nat => s.heap.size ≤ q) s.heap H locs) {ls : Array Slot} (hl : lv_has ls 4 [(3, .int 0), (2, .ref q_714), (1, .ref q_664), (0, .ref b)]) (hf_735 : fs_715.length = 68) (hf_754 : fs_715[10]? = some (.int 0)) (hf_755 : fs_715[11]? = some (.int (-1))) : W p l e room_1 s m #[Value.ref b] below meth c H locs 84 30598 (lw_Z below #[Value.ref b] s) (F0 m 194 ls []) := by
  have hA : ∀ q : Nat, s.heap.size ≤ q → (fun q : Nat => s.heap.size ≤ q) q := fun _ h => h
  have hbA : ¬ (fun q : Nat => s.heap.size ≤ q) b := Nat.not_le.mpr hbl
  refine lv_aload_n hx hb dL_law_194 rfl (lv_at hl 2 rfl) ?_
  refine lv_aload_n hx hb dL_law_195 rfl (lv_at hl 3 rfl) ?_
  refine lv_iload_n hx hb dL_law_196 rfl (lv_at hl 0 rfl) ?_
  refine lv_iconst (v := 1) hx hb dL_law_197 (by decide) ?_
  refine lv_iadd hx hb dL_law_198 ?_
  refine lv_topi (fun y_802 ey_802 => ?_)
  obtain rfl : y_802 = 1 := ey_802.trans (by decide)
  refine va_sld hx hb hX hbl hbA hS (by unfold vp_in; decide) dL_law_199 ?_
  refine lv_topi (fun y_803 ey_803 => ?_)
  obtain rfl : w1 = y_803 := (ey_803.trans ((congrArg xs (by decide : (1 : Int32).toNatClampNeg = 1)).trans ew1.symm)).symm
  have hPc := hP.sub (ws' := [(q_664, .inr (9, [.ref q_665, .int 0, .ref q_666, .ref q_667, .ref q_668, .int 0, .int (-1), .ref q_669, .ref q_670, .ref q_671, .ref q_672, .ref q_673, .ref q_674]))]) [0] rfl
  have hDc := hD.sub (ws' := [(q_664, .inr (9, [.ref q_665, .int 0, .ref q_666, .ref q_667, .ref q_668, .int 0, .int (-1), .ref q_669, .ref q_670, .ref q_671, .ref q_672, .ref q_673, .ref q_674]))]) [0] (by decide) rfl
  have hFc := va_free (wc := [(q_664, .inr (9, [.ref q_665, .int 0, .ref q_666, .ref q_667, .ref q_668, .int 0, .int (-1), .ref q_669, .ref q_670, .ref q_671, .ref q_672, .ref q_673, .ref q_674]))]) hD hS hA [0] rfl
  refine va_calli (va_runV (As := [.int w1]) (rest := []) ⟨hx, hb, hml, hown, hts⟩ (c_fault l dC dI cI cB cL cZ (q_664) (q_665) (q_666) (q_667) (q_668) (q_669) (q_670) (q_671) (q_672) (q_673) (q_674) (w1) H.size) (cwV 1 hts gW_X10_fault rfl rfl rfl (by decide +kernel) ⟨Nat.le_of_ble_eq_true rfl, Nat.le_of_ble_eq_true rfl⟩) ⟨cP_fb, va_recv hK hPc (ci := 9) (q0 := 0) rfl rfl, fun U hU hW => cP_pre hPc hK hDc hN U hU hW⟩ rfl rfl hl.1 rfl (lv_room (Nat.le_of_ble_eq_true rfl)) dL_law_200 ⟨Nat.le_of_ble_eq_true rfl, Nat.le_of_ble_eq_true rfl⟩) hS (fun q _ h => hFc q h) hFc (fun r_804 u t H1 locs ht hvm hw hB hz1 hk1 hS => ?_)
  obtain ⟨hP1, hD1⟩ := hB
  rw [ht] at hP1
  obtain ⟨hP, hD⟩ := va_join (wr := [(q_714, .inr (10, fs_715))]) (w1 := []) hP hD [0] [1] rfl rfl (by decide) (by decide) hk1 hFc hP1 hD1
  generalize H1 = H at hP hS ⊢
  have hP : va_P (dC, dI) vwCl [(q_714, .inr (10, fs_715))] H := hP
  have hD : va_D (fun q : Nat => s.heap.size ≤ q) [(q_714, .inr (10, fs_715))] := hD
  obtain rfl : r_804 = ((if w1 = 0 then (0 : Int32) else -1)) := hw
  refine lv_aload_n hx hb dL_law_203 rfl (lv_at hl 1 rfl) ?_
  refine lv_aload_n hx hb dL_law_204 rfl (lv_at hl 3 rfl) ?_
  refine lv_iload_n hx hb dL_law_205 rfl (lv_at hl 0 rfl) ?_
  refine lv_iconst (v := 1) hx hb dL_law_206 (by decide) ?_
  refine lv_iadd hx hb dL_law_207 ?_
  refine lv_topi (fun y_805 ey_805 => ?_)
  obtain rfl : y_805 = 1 := ey_805.trans (by decide)
  refine va_sld hx hb hX hbl hbA hS (by unfold vp_in; decide) dL_law_208 ?_
  refine lv_topi (fun y_806 ey_806 => ?_)
  obtain rfl : w1 = y_806 := (ey_806.trans ((congrArg xs (by decide : (1 : Int32).toNatClampNeg = 1)).trans ew1.symm)).symm
  have hPc := hP.sub (ws' := [(q_714, .inr (10, fs_715))]) [0] rfl
  have hDc := hD.sub (ws' := [(q_714, .inr (10, fs_715))]) [0] (by decide) rfl
  have hFc := va_free (wc := [(q_714, .inr (10, fs_715))]) hD hS hA [0] rfl
  refine va_calli (va_runV (As := [.int w1]) (rest := [.int ((if w1 = 0 then (0 : Int32) else -1))]) ⟨hx, hb, hml, hown, hts⟩ (m_fault l dC dI cI cB cL cZ (q_714) (w1) (fs_715) H.size hf_735 hf_754 hf_755) (cwV 1 hts gW_X11_fault rfl rfl rfl (by decide +kernel) ⟨Nat.le_of_ble_eq_true rfl, Nat.le_of_ble_eq_true rfl⟩) ⟨cP_fb, va_recv hK hPc (ci := 10) (q0 := 0) rfl rfl, fun U hU hW => cP_pre hPc hK hDc hN U hU hW⟩ rfl rfl hl.1 rfl (lv_room (Nat.le_of_ble_eq_true rfl)) dL_law_209 ⟨Nat.le_of_ble_eq_true rfl, Nat.le_of_ble_eq_true rfl⟩) hS (fun q _ h => hFc q h) hFc (fun r_807 u t H1 locs ht hvm hw hB hz1 hk1 hS => ?_)
  obtain ⟨hP1, hD1⟩ := hB
  rw [ht] at hP1
  obtain ⟨hP, hD⟩ := va_join (wr := []) (w1 := []) hP hD [0] [] rfl rfl (by decide) (by decide) hk1 hFc hP1 hD1
  generalize H1 = H at hP hS ⊢
  have hP : va_P (dC, dI) vwCl [] H := hP
  have hD : va_D (fun q : Nat => s.heap.size ≤ q) [] := hD
  obtain rfl : r_807 = ((if w1 = 0 then (0 : Int32) else -1)) := hw
  refine lv_icmp_eq (tgt := 553) hx hb dL_law_212 (by decide) (fun _ => ?_) (fun c9 => absurd rfl c9)
  refine lv_iinc (v := 6) (lv' := [(3, .int 6), (2, .ref q_714), (1, .ref q_664), (0, .ref b)]) hx hb dL_law_553 hl (k := 0) rfl (by decide) (by decide) rfl (fun ls hl => ?_)
  refine lv_goto (tgt := 18) hx hb dL_law_556 (by decide) ?_
  refine lv_iload_n hx hb dL_law_18 rfl (lv_at hl 0 rfl) ?_
  refine lv_aload_n hx hb dL_law_19 rfl (lv_at hl 3 rfl) ?_
  refine va_slen hx hb hX hbl hbA hS dL_law_20 ?_
  refine lv_topi (fun y_808 ey_808 => ?_)
  obtain rfl : y_808 = 6 := ey_808.trans (by decide)
  refine lv_bipush (v := 6) hx hb dL_law_21 (by decide) ?_
  refine lv_isub hx hb dL_law_23 ?_
  refine lv_topi (fun y_809 ey_809 => ?_)
  obtain rfl : y_809 = 0 := ey_809.trans (by decide)
  refine lv_icmp_gt (tgt := 559) hx hb dL_law_24 (by decide) (fun _ => ?_) (fun c9 => absurd (by decide) c9)
  refine lv_iconst (v := 1) hx hb dL_law_559 (by decide) ?_
  refine va_forget (fun q hq => hS.2.2 q hq) ?_
  exact lw_ret hx hb hr hlocks dL_law_560

set_option maxHeartbeats 4000000 in
set_option maxRecDepth 100000 in
theorem lw_entry {p : Program} {l : Launch} {e : Env} {s : State} {m : MethodId} {below : List Frame} {meth : Method} {c : Code} {dC : Nat → ClassId} {dI : Nat → Nat → Nat} {cI cB cL cZ : ClassId} {b : Nat} {xs : Nat → Int32} (hx : p.tables.exec = Jvm.exec) (hb : c.code = cL_law) (hr : meth.sig.returnType = ret) (hml : c.maxLocals = 4) (hown : s.vm.findClass RL = some m.cls) (hts : ∀ w ∈ lw_tbl, w.before #[Value.ref b] s = true) (hX : va_X b 6 xs s s.heap) (hbl : b < s.heap.size) (hlocks : meth.locks = false) (hK : va_K (dC, dI) vwCl (kTy cI cB cL cZ) s) (hN : nN s) {q_664 : Nat} {q_665 : Nat} {q_666 : Nat} {q_667 : Nat} {q_668 : Nat} {q_669 : Nat} {q_670 : Nat} {q_671 : Nat} {q_672 : Nat} {q_673 : Nat} {q_674 : Nat} {q_688 : Nat} {q_689 : Nat} {q_690 : Nat} {q_691 : Nat} {q_692 : Nat} {q_693 : Nat} {q_694 : Nat} {q_695 : Nat} {q_696 : Nat} {q_697 : Nat} {q_698 : Nat} {q_714 : Nat} {fs_715 : List Value} {q_717 : Nat} {f_718 : Nat → Int32} {w1 : Int32} (ew1 : w1 = xs 1) {w2 : Int32} (ew2 : w2 = xs 2) {w3 : Int32} (ew3 : w3 = xs 3) {w4 : Int32} (ew4 : w4 = xs 4) {w5 : Int32} (ew5 : w5 = xs 5) {H : Heap} {locs : List Loc} (hP : va_P (dC, dI) vwCl [(q_664, .inr (9, [.ref q_665, .int 0, .ref q_666, .ref q_667, .ref q_668, .int 0, .int (-1), .ref q_669, .ref q_670, .ref q_671, .ref q_672, .ref q_673, .ref q_674])), (q_669, .inr (6, [.ref q_688, .int (-1), .ref q_689])), (q_688, .inr (3, [.ref q_690, .ref q_691, .ref q_692, .ref q_693, .ref q_694, .ref q_695, .ref q_696, .ref q_697, .ref q_698, .int 0, .int 0, .int 0, .int 0, .int (-1)])), (q_714, .inr (10, fs_715)), (q_717, .inl (cI, 16, .inl f_718))] H) (hD : va_D (fun q : Nat => s.heap.size ≤ q) [(q_664, .inr (9, [.ref q_665, .int 0, .ref q_666, .ref q_667, .ref q_668, .int 0, .int (-1), .ref q_669, .ref q_670, .ref q_671, .ref q_672, .ref q_673, .ref q_674])), (q_669, .inr (6, [.ref q_688, .int (-1), .ref q_689])), (q_688, .inr (3, [.ref q_690, .ref q_691, .ref q_692, .ref q_693, .ref q_694, .ref q_695, .ref q_696, .ref q_697, .ref q_698, .int 0, .int 0, .int 0, .int 0, .int (-1)])), (q_714, .inr (10, fs_715)), (q_717, .inl (cI, 16, .inl f_718))]) (hS : va_S (fun q : Nat => s.heap.size ≤ q) s.heap H locs) {ls : Array Slot} (hl : lv_has ls 4 [(3, .int 0), (2, .ref q_714), (1, .ref q_664), (0, .ref b)]) (hf_735 : fs_715.length = 68) (hf_737 : fs_715[19]? = some (.ref q_717)) (hf_760 : ∀ j, j < 16 → f_718 j = -1) : W p l e room_1 s m #[Value.ref b] below meth c H locs 84 30598 (lw_Z below #[Value.ref b] s) (F0 m 217 ls []) := by
  have hA : ∀ q : Nat, s.heap.size ≤ q → (fun q : Nat => s.heap.size ≤ q) q := fun _ h => h
  have hbA : ¬ (fun q : Nat => s.heap.size ≤ q) b := Nat.not_le.mpr hbl
  refine lv_aload_n hx hb dL_law_217 rfl (lv_at hl 2 rfl) ?_
  refine lv_aload_n hx hb dL_law_218 rfl (lv_at hl 3 rfl) ?_
  refine lv_iload_n hx hb dL_law_219 rfl (lv_at hl 0 rfl) ?_
  refine lv_iconst (v := 1) hx hb dL_law_220 (by decide) ?_
  refine lv_iadd hx hb dL_law_221 ?_
  refine lv_topi (fun y_810 ey_810 => ?_)
  obtain rfl : y_810 = 1 := ey_810.trans (by decide)
  refine va_sld hx hb hX hbl hbA hS (by unfold vp_in; decide) dL_law_222 ?_
  refine lv_topi (fun y_811 ey_811 => ?_)
  obtain rfl : w1 = y_811 := (ey_811.trans ((congrArg xs (by decide : (1 : Int32).toNatClampNeg = 1)).trans ew1.symm)).symm
  have hPc := hP.sub (ws' := [(q_664, .inr (9, [.ref q_665, .int 0, .ref q_666, .ref q_667, .ref q_668, .int 0, .int (-1), .ref q_669, .ref q_670, .ref q_671, .ref q_672, .ref q_673, .ref q_674])), (q_669, .inr (6, [.ref q_688, .int (-1), .ref q_689])), (q_688, .inr (3, [.ref q_690, .ref q_691, .ref q_692, .ref q_693, .ref q_694, .ref q_695, .ref q_696, .ref q_697, .ref q_698, .int 0, .int 0, .int 0, .int 0, .int (-1)]))]) [0, 1, 2] rfl
  have hDc := hD.sub (ws' := [(q_664, .inr (9, [.ref q_665, .int 0, .ref q_666, .ref q_667, .ref q_668, .int 0, .int (-1), .ref q_669, .ref q_670, .ref q_671, .ref q_672, .ref q_673, .ref q_674])), (q_669, .inr (6, [.ref q_688, .int (-1), .ref q_689])), (q_688, .inr (3, [.ref q_690, .ref q_691, .ref q_692, .ref q_693, .ref q_694, .ref q_695, .ref q_696, .ref q_697, .ref q_698, .int 0, .int 0, .int 0, .int 0, .int (-1)]))]) [0, 1, 2] (by decide) rfl
  have hFc := va_free (wc := [(q_664, .inr (9, [.ref q_665, .int 0, .ref q_666, .ref q_667, .ref q_668, .int 0, .int (-1), .ref q_669, .ref q_670, .ref q_671, .ref q_672, .ref q_673, .ref q_674])), (q_669, .inr (6, [.ref q_688, .int (-1), .ref q_689])), (q_688, .inr (3, [.ref q_690, .ref q_691, .ref q_692, .ref q_693, .ref q_694, .ref q_695, .ref q_696, .ref q_697, .ref q_698, .int 0, .int 0, .int 0, .int 0, .int (-1)]))]) hD hS hA [0, 1, 2] rfl
  refine va_calli (va_runV (As := [.int w1]) (rest := []) ⟨hx, hb, hml, hown, hts⟩ (c_entry l dC dI cI cB cL cZ (q_664) (q_665) (q_666) (q_667) (q_668) (q_669) (q_670) (q_671) (q_672) (q_673) (q_674) (q_688) (q_689) (q_690) (q_691) (q_692) (q_693) (q_694) (q_695) (q_696) (q_697) (q_698) (w1) H.size) (cwV 1 hts gW_X10_entry rfl rfl rfl (by decide +kernel) ⟨Nat.le_of_ble_eq_true rfl, Nat.le_of_ble_eq_true rfl⟩) ⟨cP_fb, va_recv hK hPc (ci := 9) (q0 := 0) rfl rfl, fun U hU hW => cP_pre hPc hK hDc hN U hU hW⟩ rfl rfl hl.1 rfl (lv_room (Nat.le_of_ble_eq_true rfl)) dL_law_223 ⟨Nat.le_of_ble_eq_true rfl, Nat.le_of_ble_eq_true rfl⟩) hS (fun q _ h => hFc q h) hFc (fun r_812 u t H1 locs ht hvm hw hB hz1 hk1 hS => ?_)
  obtain ⟨hP1, hD1⟩ := hB
  rw [ht] at hP1
  obtain ⟨hP, hD⟩ := va_join (wr := [(q_714, .inr (10, fs_715)), (q_717, .inl (cI, 16, .inl f_718))]) (w1 := []) hP hD [0, 1, 2] [3, 4] rfl rfl (by decide) (by decide) hk1 hFc hP1 hD1
  generalize H1 = H at hP hS ⊢
  have hP : va_P (dC, dI) vwCl [(q_714, .inr (10, fs_715)), (q_717, .inl (cI, 16, .inl f_718))] H := hP
  have hD : va_D (fun q : Nat => s.heap.size ≤ q) [(q_714, .inr (10, fs_715)), (q_717, .inl (cI, 16, .inl f_718))] := hD
  obtain rfl : r_812 = 0 := hw
  refine lv_aload_n hx hb dL_law_226 rfl (lv_at hl 1 rfl) ?_
  refine lv_aload_n hx hb dL_law_227 rfl (lv_at hl 3 rfl) ?_
  refine lv_iload_n hx hb dL_law_228 rfl (lv_at hl 0 rfl) ?_
  refine lv_iconst (v := 1) hx hb dL_law_229 (by decide) ?_
  refine lv_iadd hx hb dL_law_230 ?_
  refine lv_topi (fun y_813 ey_813 => ?_)
  obtain rfl : y_813 = 1 := ey_813.trans (by decide)
  refine va_sld hx hb hX hbl hbA hS (by unfold vp_in; decide) dL_law_231 ?_
  refine lv_topi (fun y_814 ey_814 => ?_)
  obtain rfl : w1 = y_814 := (ey_814.trans ((congrArg xs (by decide : (1 : Int32).toNatClampNeg = 1)).trans ew1.symm)).symm
  have hPc := hP.sub (ws' := [(q_714, .inr (10, fs_715)), (q_717, .inl (cI, 16, .inl f_718))]) [0, 1] rfl
  have hDc := hD.sub (ws' := [(q_714, .inr (10, fs_715)), (q_717, .inl (cI, 16, .inl f_718))]) [0, 1] (by decide) rfl
  have hFc := va_free (wc := [(q_714, .inr (10, fs_715)), (q_717, .inl (cI, 16, .inl f_718))]) hD hS hA [0, 1] rfl
  refine va_calli (va_runV (As := [.int w1]) (rest := [.int 0]) ⟨hx, hb, hml, hown, hts⟩ (m_entry l dC dI cI cB cL cZ (q_714) (q_717) (w1) (fs_715) (f_718) H.size hf_735 hf_737 (hf_760)) (cwV 1 hts gW_X11_entry rfl rfl rfl (by decide +kernel) ⟨Nat.le_of_ble_eq_true rfl, Nat.le_of_ble_eq_true rfl⟩) ⟨cP_fb, va_recv hK hPc (ci := 10) (q0 := 0) rfl rfl, fun U hU hW => cP_pre hPc hK hDc hN U hU hW⟩ rfl rfl hl.1 rfl (lv_room (Nat.le_of_ble_eq_true rfl)) dL_law_232 ⟨Nat.le_of_ble_eq_true rfl, Nat.le_of_ble_eq_true rfl⟩) hS (fun q _ h => hFc q h) hFc (fun r_815 u t H1 locs ht hvm hw hB hz1 hk1 hS => ?_)
  obtain ⟨hP1, hD1⟩ := hB
  rw [ht] at hP1
  obtain ⟨hP, hD⟩ := va_join (wr := []) (w1 := []) hP hD [0, 1] [] rfl rfl (by decide) (by decide) hk1 hFc hP1 hD1
  generalize H1 = H at hP hS ⊢
  have hP : va_P (dC, dI) vwCl [] H := hP
  have hD : va_D (fun q : Nat => s.heap.size ≤ q) [] := hD
  obtain rfl : r_815 = 0 := hw
  refine lv_icmp_eq (tgt := 553) hx hb dL_law_235 (by decide) (fun _ => ?_) (fun c9 => absurd (by decide) c9)
  refine lv_iinc (v := 6) (lv' := [(3, .int 6), (2, .ref q_714), (1, .ref q_664), (0, .ref b)]) hx hb dL_law_553 hl (k := 0) rfl (by decide) (by decide) rfl (fun ls hl => ?_)
  refine lv_goto (tgt := 18) hx hb dL_law_556 (by decide) ?_
  refine lv_iload_n hx hb dL_law_18 rfl (lv_at hl 0 rfl) ?_
  refine lv_aload_n hx hb dL_law_19 rfl (lv_at hl 3 rfl) ?_
  refine va_slen hx hb hX hbl hbA hS dL_law_20 ?_
  refine lv_topi (fun y_816 ey_816 => ?_)
  obtain rfl : y_816 = 6 := ey_816.trans (by decide)
  refine lv_bipush (v := 6) hx hb dL_law_21 (by decide) ?_
  refine lv_isub hx hb dL_law_23 ?_
  refine lv_topi (fun y_817 ey_817 => ?_)
  obtain rfl : y_817 = 0 := ey_817.trans (by decide)
  refine lv_icmp_gt (tgt := 559) hx hb dL_law_24 (by decide) (fun _ => ?_) (fun c9 => absurd (by decide) c9)
  refine lv_iconst (v := 1) hx hb dL_law_559 (by decide) ?_
  refine va_forget (fun q hq => hS.2.2 q hq) ?_
  exact lw_ret hx hb hr hlocks dL_law_560

set_option maxHeartbeats 4000000 in
set_option maxRecDepth 100000 in
theorem lw_outer {p : Program} {l : Launch} {e : Env} {s : State} {m : MethodId} {below : List Frame} {meth : Method} {c : Code} {dC : Nat → ClassId} {dI : Nat → Nat → Nat} {cI cB cL cZ : ClassId} {b : Nat} {xs : Nat → Int32} (hx : p.tables.exec = Jvm.exec) (hb : c.code = cL_law) (hr : meth.sig.returnType = ret) (hml : c.maxLocals = 4) (hown : s.vm.findClass RL = some m.cls) (hts : ∀ w ∈ lw_tbl, w.before #[Value.ref b] s = true) (hX : va_X b 6 xs s s.heap) (hbl : b < s.heap.size) (hlocks : meth.locks = false) (hK : va_K (dC, dI) vwCl (kTy cI cB cL cZ) s) (hN : nN s) {q_664 : Nat} {q_665 : Nat} {q_666 : Nat} {q_667 : Nat} {q_668 : Nat} {q_669 : Nat} {q_670 : Nat} {q_671 : Nat} {q_672 : Nat} {q_673 : Nat} {q_674 : Nat} {q_688 : Nat} {q_689 : Nat} {q_690 : Nat} {q_691 : Nat} {q_692 : Nat} {q_693 : Nat} {q_694 : Nat} {q_695 : Nat} {q_696 : Nat} {q_697 : Nat} {q_698 : Nat} {q_714 : Nat} {fs_715 : List Value} {w1 : Int32} (ew1 : w1 = xs 1) {w2 : Int32} (ew2 : w2 = xs 2) {w3 : Int32} (ew3 : w3 = xs 3) {w4 : Int32} (ew4 : w4 = xs 4) {w5 : Int32} (ew5 : w5 = xs 5) {H : Heap} {locs : List Loc} (hP : va_P (dC, dI) vwCl [(q_664, .inr (9, [.ref q_665, .int 0, .ref q_666, .ref q_667, .ref q_668, .int 0, .int (-1), .ref q_669, .ref q_670, .ref q_671, .ref q_672, .ref q_673, .ref q_674])), (q_669, .inr (6, [.ref q_688, .int (-1), .ref q_689])), (q_688, .inr (3, [.ref q_690, .ref q_691, .ref q_692, .ref q_693, .ref q_694, .ref q_695, .ref q_696, .ref q_697, .ref q_698, .int 0, .int 0, .int 0, .int 0, .int (-1)])), (q_714, .inr (10, fs_715))] H) (hD : va_D (fun q : Nat => s.heap.size ≤ q) [(q_664, .inr (9, [.ref q_665, .int 0, .ref q_666, .ref q_667, .ref q_668, .int 0, .int (-1), .ref q_669, .ref q_670, .ref q_671, .ref q_672, .ref q_673, .ref q_674])), (q_669, .inr (6, [.ref q_688, .int (-1), .ref q_689])), (q_688, .inr (3, [.ref q_690, .ref q_691, .ref q_692, .ref q_693, .ref q_694, .ref q_695, .ref q_696, .ref q_697, .ref q_698, .int 0, .int 0, .int 0, .int 0, .int (-1)])), (q_714, .inr (10, fs_715))]) (hS : va_S (fun q : Nat => s.heap.size ≤ q) s.heap H locs) {ls : Array Slot} (hl : lv_has ls 4 [(3, .int 0), (2, .ref q_714), (1, .ref q_664), (0, .ref b)]) (hf_735 : fs_715.length = 68) (hf_757 : fs_715[39]? = some (.int (-1))) : W p l e room_1 s m #[Value.ref b] below meth c H locs 84 30598 (lw_Z below #[Value.ref b] s) (F0 m 240 ls []) := by
  have hA : ∀ q : Nat, s.heap.size ≤ q → (fun q : Nat => s.heap.size ≤ q) q := fun _ h => h
  have hbA : ¬ (fun q : Nat => s.heap.size ≤ q) b := Nat.not_le.mpr hbl
  refine lv_aload_n hx hb dL_law_240 rfl (lv_at hl 2 rfl) ?_
  refine lv_aload_n hx hb dL_law_241 rfl (lv_at hl 3 rfl) ?_
  refine lv_iload_n hx hb dL_law_242 rfl (lv_at hl 0 rfl) ?_
  refine lv_iconst (v := 1) hx hb dL_law_243 (by decide) ?_
  refine lv_iadd hx hb dL_law_244 ?_
  refine lv_topi (fun y_818 ey_818 => ?_)
  obtain rfl : y_818 = 1 := ey_818.trans (by decide)
  refine va_sld hx hb hX hbl hbA hS (by unfold vp_in; decide) dL_law_245 ?_
  refine lv_topi (fun y_819 ey_819 => ?_)
  obtain rfl : w1 = y_819 := (ey_819.trans ((congrArg xs (by decide : (1 : Int32).toNatClampNeg = 1)).trans ew1.symm)).symm
  refine lv_aload_n hx hb dL_law_246 rfl (lv_at hl 3 rfl) ?_
  refine lv_iload_n hx hb dL_law_247 rfl (lv_at hl 0 rfl) ?_
  refine lv_iconst (v := 2) hx hb dL_law_248 (by decide) ?_
  refine lv_iadd hx hb dL_law_249 ?_
  refine lv_topi (fun y_820 ey_820 => ?_)
  obtain rfl : y_820 = 2 := ey_820.trans (by decide)
  refine va_sld hx hb hX hbl hbA hS (by unfold vp_in; decide) dL_law_250 ?_
  refine lv_topi (fun y_821 ey_821 => ?_)
  obtain rfl : w2 = y_821 := (ey_821.trans ((congrArg xs (by decide : (2 : Int32).toNatClampNeg = 2)).trans ew2.symm)).symm
  have hPc := hP.sub (ws' := [(q_664, .inr (9, [.ref q_665, .int 0, .ref q_666, .ref q_667, .ref q_668, .int 0, .int (-1), .ref q_669, .ref q_670, .ref q_671, .ref q_672, .ref q_673, .ref q_674])), (q_669, .inr (6, [.ref q_688, .int (-1), .ref q_689])), (q_688, .inr (3, [.ref q_690, .ref q_691, .ref q_692, .ref q_693, .ref q_694, .ref q_695, .ref q_696, .ref q_697, .ref q_698, .int 0, .int 0, .int 0, .int 0, .int (-1)]))]) [0, 1, 2] rfl
  have hDc := hD.sub (ws' := [(q_664, .inr (9, [.ref q_665, .int 0, .ref q_666, .ref q_667, .ref q_668, .int 0, .int (-1), .ref q_669, .ref q_670, .ref q_671, .ref q_672, .ref q_673, .ref q_674])), (q_669, .inr (6, [.ref q_688, .int (-1), .ref q_689])), (q_688, .inr (3, [.ref q_690, .ref q_691, .ref q_692, .ref q_693, .ref q_694, .ref q_695, .ref q_696, .ref q_697, .ref q_698, .int 0, .int 0, .int 0, .int 0, .int (-1)]))]) [0, 1, 2] (by decide) rfl
  have hFc := va_free (wc := [(q_664, .inr (9, [.ref q_665, .int 0, .ref q_666, .ref q_667, .ref q_668, .int 0, .int (-1), .ref q_669, .ref q_670, .ref q_671, .ref q_672, .ref q_673, .ref q_674])), (q_669, .inr (6, [.ref q_688, .int (-1), .ref q_689])), (q_688, .inr (3, [.ref q_690, .ref q_691, .ref q_692, .ref q_693, .ref q_694, .ref q_695, .ref q_696, .ref q_697, .ref q_698, .int 0, .int 0, .int 0, .int 0, .int (-1)]))]) hD hS hA [0, 1, 2] rfl
  refine va_calli (va_runV (As := [.int w1, .int w2]) (rest := []) ⟨hx, hb, hml, hown, hts⟩ (c_outer l dC dI cI cB cL cZ (q_664) (q_665) (q_666) (q_667) (q_668) (q_669) (q_670) (q_671) (q_672) (q_673) (q_674) (q_688) (q_689) (q_690) (q_691) (q_692) (q_693) (q_694) (q_695) (q_696) (q_697) (q_698) (w1) (w2) H.size) (cwV 2 hts gW_X10_outer rfl rfl rfl (by decide +kernel) ⟨Nat.le_of_ble_eq_true rfl, Nat.le_of_ble_eq_true rfl⟩) ⟨cP_fb, va_recv hK hPc (ci := 9) (q0 := 0) rfl rfl, fun U hU hW => cP_pre hPc hK hDc hN U hU hW⟩ rfl rfl hl.1 rfl (lv_room (Nat.le_of_ble_eq_true rfl)) dL_law_251 ⟨Nat.le_of_ble_eq_true rfl, Nat.le_of_ble_eq_true rfl⟩) hS (fun q _ h => hFc q h) hFc (fun r_822 u t H1 locs ht hvm hw hB hz1 hk1 hS => ?_)
  obtain ⟨hP1, hD1⟩ := hB
  rw [ht] at hP1
  obtain ⟨hP, hD⟩ := va_join (wr := [(q_714, .inr (10, fs_715))]) (w1 := []) hP hD [0, 1, 2] [3] rfl rfl (by decide) (by decide) hk1 hFc hP1 hD1
  generalize H1 = H at hP hS ⊢
  have hP : va_P (dC, dI) vwCl [(q_714, .inr (10, fs_715))] H := hP
  have hD : va_D (fun q : Nat => s.heap.size ≤ q) [(q_714, .inr (10, fs_715))] := hD
  obtain rfl : r_822 = 0 := hw
  refine lv_aload_n hx hb dL_law_254 rfl (lv_at hl 1 rfl) ?_
  refine lv_aload_n hx hb dL_law_255 rfl (lv_at hl 3 rfl) ?_
  refine lv_iload_n hx hb dL_law_256 rfl (lv_at hl 0 rfl) ?_
  refine lv_iconst (v := 1) hx hb dL_law_257 (by decide) ?_
  refine lv_iadd hx hb dL_law_258 ?_
  refine lv_topi (fun y_823 ey_823 => ?_)
  obtain rfl : y_823 = 1 := ey_823.trans (by decide)
  refine va_sld hx hb hX hbl hbA hS (by unfold vp_in; decide) dL_law_259 ?_
  refine lv_topi (fun y_824 ey_824 => ?_)
  obtain rfl : w1 = y_824 := (ey_824.trans ((congrArg xs (by decide : (1 : Int32).toNatClampNeg = 1)).trans ew1.symm)).symm
  refine lv_aload_n hx hb dL_law_260 rfl (lv_at hl 3 rfl) ?_
  refine lv_iload_n hx hb dL_law_261 rfl (lv_at hl 0 rfl) ?_
  refine lv_iconst (v := 2) hx hb dL_law_262 (by decide) ?_
  refine lv_iadd hx hb dL_law_263 ?_
  refine lv_topi (fun y_825 ey_825 => ?_)
  obtain rfl : y_825 = 2 := ey_825.trans (by decide)
  refine va_sld hx hb hX hbl hbA hS (by unfold vp_in; decide) dL_law_264 ?_
  refine lv_topi (fun y_826 ey_826 => ?_)
  obtain rfl : w2 = y_826 := (ey_826.trans ((congrArg xs (by decide : (2 : Int32).toNatClampNeg = 2)).trans ew2.symm)).symm
  have hPc := hP.sub (ws' := [(q_714, .inr (10, fs_715))]) [0] rfl
  have hDc := hD.sub (ws' := [(q_714, .inr (10, fs_715))]) [0] (by decide) rfl
  have hFc := va_free (wc := [(q_714, .inr (10, fs_715))]) hD hS hA [0] rfl
  refine va_calli (va_runV (As := [.int w1, .int w2]) (rest := [.int 0]) ⟨hx, hb, hml, hown, hts⟩ (m_outer l dC dI cI cB cL cZ (q_714) (w1) (w2) (fs_715) H.size hf_735 hf_757) (cwV 2 hts gW_X11_outer rfl rfl rfl (by decide +kernel) ⟨Nat.le_of_ble_eq_true rfl, Nat.le_of_ble_eq_true rfl⟩) ⟨cP_fb, va_recv hK hPc (ci := 10) (q0 := 0) rfl rfl, fun U hU hW => cP_pre hPc hK hDc hN U hU hW⟩ rfl rfl hl.1 rfl (lv_room (Nat.le_of_ble_eq_true rfl)) dL_law_265 ⟨Nat.le_of_ble_eq_true rfl, Nat.le_of_ble_eq_true rfl⟩) hS (fun q _ h => hFc q h) hFc (fun r_827 u t H1 locs ht hvm hw hB hz1 hk1 hS => ?_)
  obtain ⟨hP1, hD1⟩ := hB
  rw [ht] at hP1
  obtain ⟨hP, hD⟩ := va_join (wr := []) (w1 := []) hP hD [0] [] rfl rfl (by decide) (by decide) hk1 hFc hP1 hD1
  generalize H1 = H at hP hS ⊢
  have hP : va_P (dC, dI) vwCl [] H := hP
  have hD : va_D (fun q : Nat => s.heap.size ≤ q) [] := hD
  obtain rfl : r_827 = 0 := hw
  refine lv_icmp_eq (tgt := 553) hx hb dL_law_268 (by decide) (fun _ => ?_) (fun c9 => absurd (by decide) c9)
  refine lv_iinc (v := 6) (lv' := [(3, .int 6), (2, .ref q_714), (1, .ref q_664), (0, .ref b)]) hx hb dL_law_553 hl (k := 0) rfl (by decide) (by decide) rfl (fun ls hl => ?_)
  refine lv_goto (tgt := 18) hx hb dL_law_556 (by decide) ?_
  refine lv_iload_n hx hb dL_law_18 rfl (lv_at hl 0 rfl) ?_
  refine lv_aload_n hx hb dL_law_19 rfl (lv_at hl 3 rfl) ?_
  refine va_slen hx hb hX hbl hbA hS dL_law_20 ?_
  refine lv_topi (fun y_828 ey_828 => ?_)
  obtain rfl : y_828 = 6 := ey_828.trans (by decide)
  refine lv_bipush (v := 6) hx hb dL_law_21 (by decide) ?_
  refine lv_isub hx hb dL_law_23 ?_
  refine lv_topi (fun y_829 ey_829 => ?_)
  obtain rfl : y_829 = 0 := ey_829.trans (by decide)
  refine lv_icmp_gt (tgt := 559) hx hb dL_law_24 (by decide) (fun _ => ?_) (fun c9 => absurd (by decide) c9)
  refine lv_iconst (v := 1) hx hb dL_law_559 (by decide) ?_
  refine va_forget (fun q hq => hS.2.2 q hq) ?_
  exact lw_ret hx hb hr hlocks dL_law_560
