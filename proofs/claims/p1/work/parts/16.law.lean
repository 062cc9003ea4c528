set_option maxHeartbeats 4000000 in
set_option maxRecDepth 100000 in
theorem lw_feed {p : Program} {l : Launch} {e : Env} {s : State} {m : MethodId} {below : List Frame} {meth : Method} {c : Code} {dC : Nat → ClassId} {dI : Nat → Nat → Nat} {cI cB cL cZ : ClassId} {b : Nat} {xs : Nat → Int32} (hx : p.tables.exec = Jvm.exec) (hb : c.code = cL_law) (hr : meth.sig.returnType = ret) (hml : c.maxLocals = 4) (hown : s.vm.findClass RL = some m.cls) (hts : ∀ w ∈ wsL_law, w.before #[Value.ref b] s = true) (hX : va_X b 6 xs s s.heap) (hbl : b < s.heap.size) (hlocks : meth.locks = false) (hK : va_K (dC, dI) vwCl (kTy cI cB cL cZ) s) (hN : nN s) {q_663 : Nat} {q_664 : Nat} {q_665 : Nat} {q_666 : Nat} {q_667 : Nat} {q_668 : Nat} {q_669 : Nat} {q_670 : Nat} {q_671 : Nat} {q_672 : Nat} {q_673 : Nat} {q_713 : Nat} {fs_714 : List Value} {q_715 : Nat} {w1 : Int32} (ew1 : w1 = xs 1) {w2 : Int32} (ew2 : w2 = xs 2) {w3 : Int32} (ew3 : w3 = xs 3) {w4 : Int32} (ew4 : w4 = xs 4) {w5 : Int32} (ew5 : w5 = xs 5) {H : Heap} {locs : List Loc} (hP : va_P (dC, dI) vwCl [(q_663, .inr (9, [.ref q_664, .int 0, .ref q_665, .ref q_666, .ref q_667, .int 0, .int (-1), .ref q_668, .ref q_669, .ref q_670, .ref q_671, .ref q_672, .ref q_673])), (q_664, .inl (cB, 1200, .inl (fun _ => 0))), (q_713, .inr (10, fs_714)), (q_715, .inl (cI, 1200, .inl (fun _ => 0)))] H) (hD : va_D (fun q : Nat => s.heap.size ≤ q) [(q_663, .inr (9, [.ref q_664, .int 0, .ref q_665, .ref q_666, .ref q_667, .int 0, .int (-1), .ref q_668, .ref q_669, .ref q_670, .ref q_671, .ref q_672, .ref q_673])), (q_664, .inl (cB, 1200, .inl (fun _ => 0))), (q_713, .inr (10, fs_714)), (q_715, .inl (cI, 1200, .inl (fun _ => 0)))]) (hS : va_S (fun q : Nat => s.heap.size ≤ q) s.heap H locs) {ls : Array Slot} (hl : lv_has ls 4 [(3, .int 0), (2, .ref q_713), (1, .ref q_663), (0, .ref b)]) (hf_734 : fs_714.length = 68) (hf_735 : fs_714[1]? = some (.ref q_715)) (hf_752 : fs_714[2]? = some (.int 0)) : W p l e room_1 s m #[Value.ref b] below meth c H locs 84 30598 (lw_Z below #[Value.ref b] s) (F0 m 108 ls []) := by
  have hA : ∀ q : Nat, s.heap.size ≤ q → (fun q : Nat => s.heap.size ≤ q) q := fun _ h => h
  have hbA : ¬ (fun q : Nat => s.heap.size ≤ q) b := Nat.not_le.mpr hbl
  refine lv_aload_n hx hb dL_law_108 rfl (lv_at hl 2 rfl) ?_
  refine lv_aload_n hx hb dL_law_109 rfl (lv_at hl 3 rfl) ?_
  refine lv_iload_n hx hb dL_law_110 rfl (lv_at hl 0 rfl) ?_
  refine lv_iconst (v := 1) hx hb dL_law_111 (by decide) ?_
  refine lv_iadd hx hb dL_law_112 ?_
  refine lv_topi (fun y_761 ey_761 => ?_)
  obtain rfl : y_761 = 1 := ey_761.trans (by decide)
  refine va_sld hx hb hX hbl hbA hS (by unfold vp_in; decide) dL_law_113 ?_
  refine lv_topi (fun y_762 ey_762 => ?_)
  obtain rfl : y_762 = w1 := ey_762.trans ((congrArg xs (by decide : (1 : Int32).toNatClampNeg = 1)).trans ew1.symm)
  refine lv_aload_n hx hb dL_law_114 rfl (lv_at hl 3 rfl) ?_
  refine lv_iload_n hx hb dL_law_115 rfl (lv_at hl 0 rfl) ?_
  refine lv_iconst (v := 2) hx hb dL_law_116 (by decide) ?_
  refine lv_iadd hx hb dL_law_117 ?_
  refine lv_topi (fun y_763 ey_763 => ?_)
  obtain rfl : y_763 = 2 := ey_763.trans (by decide)
  refine va_sld hx hb hX hbl hbA hS (by unfold vp_in; decide) dL_law_118 ?_
  refine lv_topi (fun y_764 ey_764 => ?_)
  obtain rfl : y_764 = w2 := ey_764.trans ((congrArg xs (by decide : (2 : Int32).toNatClampNeg = 2)).trans ew2.symm)
  refine lv_aload_n hx hb dL_law_119 rfl (lv_at hl 3 rfl) ?_
  refine lv_iload_n hx hb dL_law_120 rfl (lv_at hl 0 rfl) ?_
  refine lv_iconst (v := 3) hx hb dL_law_121 (by decide) ?_
  refine lv_iadd hx hb dL_law_122 ?_
  refine lv_topi (fun y_765 ey_765 => ?_)
  obtain rfl : y_765 = 3 := ey_765.trans (by decide)
  refine va_sld hx hb hX hbl hbA hS (by unfold vp_in; decide) dL_law_123 ?_
  refine lv_topi (fun y_766 ey_766 => ?_)
  obtain rfl : y_766 = w3 := ey_766.trans ((congrArg xs (by decide : (3 : Int32).toNatClampNeg = 3)).trans ew3.symm)
  refine lv_aload_n hx hb dL_law_124 rfl (lv_at hl 3 rfl) ?_
  refine lv_iload_n hx hb dL_law_125 rfl (lv_at hl 0 rfl) ?_
  refine lv_iconst (v := 4) hx hb dL_law_126 (by decide) ?_
  refine lv_iadd hx hb dL_law_127 ?_
  refine lv_topi (fun y_767 ey_767 => ?_)
  obtain rfl : y_767 = 4 := ey_767.trans (by decide)
  refine va_sld hx hb hX hbl hbA hS (by unfold vp_in; decide) dL_law_128 ?_
  refine lv_topi (fun y_768 ey_768 => ?_)
  obtain rfl : y_768 = w4 := ey_768.trans ((congrArg xs (by decide : (4 : Int32).toNatClampNeg = 4)).trans ew4.symm)
  refine lv_aload_n hx hb dL_law_129 rfl (lv_at hl 3 rfl) ?_
  refine lv_iload_n hx hb dL_law_130 rfl (lv_at hl 0 rfl) ?_
  refine lv_iconst (v := 5) hx hb dL_law_131 (by decide) ?_
  refine lv_iadd hx hb dL_law_132 ?_
  refine lv_topi (fun y_769 ey_769 => ?_)
  obtain rfl : y_769 = 5 := ey_769.trans (by decide)
  refine va_sld hx hb hX hbl hbA hS (by unfold vp_in; decide) dL_law_133 ?_
  refine lv_topi (fun y_770 ey_770 => ?_)
  obtain rfl : y_770 = w5 := ey_770.trans ((congrArg xs (by decide : (5 : Int32).toNatClampNeg = 5)).trans ew5.symm)
  have hPc := hP.sub (ws' := [(q_663, .inr (9, [.ref q_664, .int 0, .ref q_665, .ref q_666, .ref q_667, .int 0, .int (-1), .ref q_668, .ref q_669, .ref q_670, .ref q_671, .ref q_672, .ref q_673])), (q_664, .inl (cB, 1200, .inl (fun _ => 0)))]) [0, 1] rfl
  have hDc := hD.sub (ws' := [(q_663, .inr (9, [.ref q_664, .int 0, .ref q_665, .ref q_666, .ref q_667, .int 0, .int (-1), .ref q_668, .ref q_669, .ref q_670, .ref q_671, .ref q_672, .ref q_673])), (q_664, .inl (cB, 1200, .inl (fun _ => 0)))]) [0, 1] (by decide) rfl
  have hFc := va_free (wc := [(q_663, .inr (9, [.ref q_664, .int 0, .ref q_665, .ref q_666, .ref q_667, .int 0, .int (-1), .ref q_668, .ref q_669, .ref q_670, .ref q_671, .ref q_672, .ref q_673])), (q_664, .inl (cB, 1200, .inl (fun _ => 0)))]) hD hS hA [0, 1] rfl
  refine va_calli (va_runV (As := [.int w1, .int w2, .int w3, .int w4, .int w5]) (rest := []) ⟨hx, hb, hml, hown, hts⟩ (c_feed l dC dI cI cB cL cZ (q_663) (q_664) (q_665) (q_666) (q_667) (q_668) (q_669) (q_670) (q_671) (q_672) (q_673) (w1) (w2) (w3) (w4) (w5) ((fun _ => 0)) H.size) (cwV 5 hts gL_law_X10_feed rfl rfl rfl (by decide +kernel) ⟨Nat.le_of_ble_eq_true rfl, Nat.le_of_ble_eq_true rfl⟩) ⟨cP_fb, va_recv hK hPc (ci := 9) (q0 := 0) rfl rfl, fun U hU hW => cP_pre hPc hK hDc hN U hU hW⟩ rfl rfl hl.1 rfl (lv_room (Nat.le_of_ble_eq_true rfl)) dL_law_134 ⟨Nat.le_of_ble_eq_true rfl, Nat.le_of_ble_eq_true rfl⟩) hS (fun q _ h => hFc q h) hFc (fun r_771 u t H1 locs ht hvm hw hB hz1 hk1 hS => ?_)
  obtain ⟨hP1, hD1⟩ := hB
  rw [ht] at hP1
  obtain ⟨hP, hD⟩ := va_join (wr := [(q_713, .inr (10, fs_714)), (q_715, .inl (cI, 1200, .inl (fun _ => 0)))]) (w1 := []) hP hD [0, 1] [2, 3] rfl rfl (by decide) (by decide) hk1 hFc hP1 hD1
  generalize H1 = H at hP hS ⊢
  have hP : va_P (dC, dI) vwCl [(q_713, .inr (10, fs_714)), (q_715, .inl (cI, 1200, .inl (fun _ => 0)))] H := hP
  have hD : va_D (fun q : Nat => s.heap.size ≤ q) [(q_713, .inr (10, fs_714)), (q_715, .inl (cI, 1200, .inl (fun _ => 0)))] := hD
  obtain rfl : r_771 = 20 := hw
  refine lv_aload_n hx hb dL_law_137 rfl (lv_at hl 1 rfl) ?_
  refine lv_aload_n hx hb dL_law_138 rfl (lv_at hl 3 rfl) ?_
  refine lv_iload_n hx hb dL_law_139 rfl (lv_at hl 0 rfl) ?_
  refine lv_iconst (v := 1) hx hb dL_law_140 (by decide) ?_
  refine lv_iadd hx hb dL_law_141 ?_
  refine lv_topi (fun y_772 ey_772 => ?_)
  obtain rfl : y_772 = 1 := ey_772.trans (by decide)
  refine va_sld hx hb hX hbl hbA hS (by unfold vp_in; decide) dL_law_142 ?_
  refine lv_topi (fun y_773 ey_773 => ?_)
  obtain rfl : y_773 = w1 := ey_773.trans ((congrArg xs (by decide : (1 : Int32).toNatClampNeg = 1)).trans ew1.symm)
  refine lv_aload_n hx hb dL_law_143 rfl (lv_at hl 3 rfl) ?_
  refine lv_iload_n hx hb dL_law_144 rfl (lv_at hl 0 rfl) ?_
  refine lv_iconst (v := 2) hx hb dL_law_145 (by decide) ?_
  refine lv_iadd hx hb dL_law_146 ?_
  refine lv_topi (fun y_774 ey_774 => ?_)
  obtain rfl : y_774 = 2 := ey_774.trans (by decide)
  refine va_sld hx hb hX hbl hbA hS (by unfold vp_in; decide) dL_law_147 ?_
  refine lv_topi (fun y_775 ey_775 => ?_)
  obtain rfl : y_775 = w2 := ey_775.trans ((congrArg xs (by decide : (2 : Int32).toNatClampNeg = 2)).trans ew2.symm)
  refine lv_aload_n hx hb dL_law_148 rfl (lv_at hl 3 rfl) ?_
  refine lv_iload_n hx hb dL_law_149 rfl (lv_at hl 0 rfl) ?_
  refine lv_iconst (v := 3) hx hb dL_law_150 (by decide) ?_
  refine lv_iadd hx hb dL_law_151 ?_
  refine lv_topi (fun y_776 ey_776 => ?_)
  obtain rfl : y_776 = 3 := ey_776.trans (by decide)
  refine va_sld hx hb hX hbl hbA hS (by unfold vp_in; decide) dL_law_152 ?_
  refine lv_topi (fun y_777 ey_777 => ?_)
  obtain rfl : y_777 = w3 := ey_777.trans ((congrArg xs (by decide : (3 : Int32).toNatClampNeg = 3)).trans ew3.symm)
  refine lv_aload_n hx hb dL_law_153 rfl (lv_at hl 3 rfl) ?_
  refine lv_iload_n hx hb dL_law_154 rfl (lv_at hl 0 rfl) ?_
  refine lv_iconst (v := 4) hx hb dL_law_155 (by decide) ?_
  refine lv_iadd hx hb dL_law_156 ?_
  refine lv_topi (fun y_778 ey_778 => ?_)
  obtain rfl : y_778 = 4 := ey_778.trans (by decide)
  refine va_sld hx hb hX hbl hbA hS (by unfold vp_in; decide) dL_law_157 ?_
  refine lv_topi (fun y_779 ey_779 => ?_)
  obtain rfl : y_779 = w4 := ey_779.trans ((congrArg xs (by decide : (4 : Int32).toNatClampNeg = 4)).trans ew4.symm)
  refine lv_aload_n hx hb dL_law_158 rfl (lv_at hl 3 rfl) ?_
  refine lv_iload_n hx hb dL_law_159 rfl (lv_at hl 0 rfl) ?_
  refine lv_iconst (v := 5) hx hb dL_law_160 (by decide) ?_
  refine lv_iadd hx hb dL_law_161 ?_
  refine lv_topi (fun y_780 ey_780 => ?_)
  obtain rfl : y_780 = 5 := ey_780.trans (by decide)
  refine va_sld hx hb hX hbl hbA hS (by unfold vp_in; decide) dL_law_162 ?_
  refine lv_topi (fun y_781 ey_781 => ?_)
  obtain rfl : y_781 = w5 := ey_781.trans ((congrArg xs (by decide : (5 : Int32).toNatClampNeg = 5)).trans ew5.symm)
  have hPc := hP.sub (ws' := [(q_713, .inr (10, fs_714)), (q_715, .inl (cI, 1200, .inl (fun _ => 0)))]) [0, 1] rfl
  have hDc := hD.sub (ws' := [(q_713, .inr (10, fs_714)), (q_715, .inl (cI, 1200, .inl (fun _ => 0)))]) [0, 1] (by decide) rfl
  have hFc := va_free (wc := [(q_713, .inr (10, fs_714)), (q_715, .inl (cI, 1200, .inl (fun _ => 0)))]) hD hS hA [0, 1] rfl
  refine va_calli (va_runV (As := [.int w1, .int w2, .int w3, .int w4, .int w5]) (rest := [.int 20]) ⟨hx, hb, hml, hown, hts⟩ (m_feed l dC dI cI cB cL cZ (q_713) (q_715) (w1) (w2) (w3) (w4) (w5) (fs_714) ((fun _ => 0)) H.size hf_734 hf_735 hf_752) (cwV 5 hts gL_law_X11_feed rfl rfl rfl (by decide +kernel) ⟨Nat.le_of_ble_eq_true rfl, Nat.le_of_ble_eq_true rfl⟩) ⟨cP_fb, va_recv hK hPc (ci := 10) (q0 := 0) rfl rfl, fun U hU hW => cP_pre hPc hK hDc hN U hU hW⟩ rfl rfl hl.1 rfl (lv_room (Nat.le_of_ble_eq_true rfl)) dL_law_163 ⟨Nat.le_of_ble_eq_true rfl, Nat.le_of_ble_eq_true rfl⟩) hS (fun q _ h => hFc q h) hFc (fun r_782 u t H1 locs ht hvm hw hB hz1 hk1 hS => ?_)
  obtain ⟨hP1, hD1⟩ := hB
  rw [ht] at hP1
  obtain ⟨hP, hD⟩ := va_join (wr := []) (w1 := []) hP hD [0, 1] [] rfl rfl (by decide) (by decide) hk1 hFc hP1 hD1
  generalize H1 = H at hP hS ⊢
  have hP : va_P (dC, dI) vwCl [] H := hP
  have hD : va_D (fun q : Nat => s.heap.size ≤ q) [] := hD
  obtain rfl : r_782 = 20 := hw
  refine lv_icmp_eq (tgt := 553) hx hb dL_law_166 (by decide) (fun _ => ?_) (fun c9 => absurd (by decide) c9)
  refine lv_iinc (v := 6) (lv' := [(3, .int 6), (2, .ref q_713), (1, .ref q_663), (0, .ref b)]) hx hb dL_law_553 hl (k := 0) rfl (by decide) (by decide) rfl (fun ls hl => ?_)
  refine lv_goto (tgt := 18) hx hb dL_law_556 (by decide) ?_
  refine lv_iload_n hx hb dL_law_18 rfl (lv_at hl 0 rfl) ?_
  refine lv_aload_n hx hb dL_law_19 rfl (lv_at hl 3 rfl) ?_
  refine va_slen hx hb hX hbl hbA hS dL_law_20 ?_
  refine lv_topi (fun y_783 ey_783 => ?_)
  obtain rfl : y_783 = 6 := ey_783.trans (by decide)
  refine lv_bipush (v := 6) hx hb dL_law_21 (by decide) ?_
  refine lv_isub hx hb dL_law_23 ?_
  refine lv_topi (fun y_784 ey_784 => ?_)
  obtain rfl : y_784 = 0 := ey_784.trans (by decide)
  refine lv_icmp_gt (tgt := 559) hx hb dL_law_24 (by decide) (fun _ => ?_) (fun c9 => absurd (by decide) c9)
  refine lv_iconst (v := 1) hx hb dL_law_559 (by decide) ?_
  refine va_forget (fun q hq => hS.2.2 q hq) ?_
  exact lw_ret hx hb hr hlocks dL_law_560

set_option maxHeartbeats 4000000 in
set_option maxRecDepth 100000 in
theorem lw_text0 {p : Program} {l : Launch} {e : Env} {s : State} {m : MethodId} {below : List Frame} {meth : Method} {c : Code} {dC : Nat → ClassId} {dI : Nat → Nat → Nat} {cI cB cL cZ : ClassId} {b : Nat} {xs : Nat → Int32} (hx : p.tables.exec = Jvm.exec) (hb : c.code = cL_law) (hr : meth.sig.returnType = ret) (hml : c.maxLocals = 4) (hown : s.vm.findClass RL = some m.cls) (hts : ∀ w ∈ wsL_law, w.before #[Value.ref b] s = true) (hX : va_X b 6 xs s s.heap) (hbl : b < s.heap.size) (hlocks : meth.locks = false) (hK : va_K (dC, dI) vwCl (kTy cI cB cL cZ) s) (hN : nN s) {q_663 : Nat} {q_664 : Nat} {q_665 : Nat} {q_666 : Nat} {q_667 : Nat} {q_668 : Nat} {q_669 : Nat} {q_670 : Nat} {q_671 : Nat} {q_672 : Nat} {q_673 : Nat} {q_674 : Nat} {q_685 : Nat} {q_686 : Nat} {q_675 : Nat} {q_676 : Nat} {q_677 : Nat} {q_678 : Nat} {q_679 : Nat} {q_680 : Nat} {q_681 : Nat} {q_682 : Nat} {q_683 : Nat} {q_684 : Nat} {q_687 : Nat} {q_688 : Nat} {q_689 : Nat} {q_690 : Nat} {q_691 : Nat} {q_692 : Nat} {q_693 : Nat} {q_694 : Nat} {q_695 : Nat} {q_696 : Nat} {q_697 : Nat} {q_699 : Nat} {q_700 : Nat} {q_701 : Nat} {q_702 : Nat} {q_703 : Nat} {q_704 : Nat} {q_705 : Nat} {q_706 : Nat} {q_707 : Nat} {q_708 : Nat} {q_713 : Nat} {fs_714 : List Value} {q_716 : Nat} {f_717 : Nat → Int32} {q_718 : Nat} {q_719 : Nat} {q_720 : Nat} {q_721 : Nat} {q_722 : Nat} {q_723 : Nat} {q_724 : Nat} {q_725 : Nat} {q_726 : Nat} {q_727 : Nat} {q_728 : Nat} (ew1 : (0 : Int32) = xs 1) {w2 : Int32} (ew2 : w2 = xs 2) {w3 : Int32} (ew3 : w3 = xs 3) {w4 : Int32} (ew4 : w4 = xs 4) {w5 : Int32} (ew5 : w5 = xs 5) {H : Heap} {locs : List Loc} (hP : va_P (dC, dI) vwCl [(q_663, .inr (9, [.ref q_664, .int 0, .ref q_665, .ref q_666, .ref q_667, .int 0, .int (-1), .ref q_668, .ref q_669, .ref q_670, .ref q_671, .ref q_672, .ref q_673])), (q_664, .inl (cB, 1200, .inl (fun _ => 0))), (q_665, .inr (7, [.ref q_674, .int 0, .int 0])), (q_667, .inr (4, [.ref q_665, .ref q_685, .ref q_686, .ref q_666, .ref q_675, .int 0, .int 0, .int 0, .int 0, .int (-1)])), (q_666, .inr (3, [.ref q_675, .ref q_676, .ref q_677, .ref q_678, .ref q_679, .ref q_680, .ref q_681, .ref q_682, .ref q_683, .int 0, .int 0, .int 0, .int 0, .int (-1)])), (q_675, .inr (0, [.ref q_684, .int 0])), (q_668, .inr (6, [.ref q_687, .int (-1), .ref q_688])), (q_687, .inr (3, [.ref q_689, .ref q_690, .ref q_691, .ref q_692, .ref q_693, .ref q_694, .ref q_695, .ref q_696, .ref q_697, .int 0, .int 0, .int 0, .int 0, .int (-1)])), (q_688, .inl (cI, 4, .inl (fun _ => 0))), (q_669, .inr (1, [.ref q_668, .ref q_699, .ref q_700, .ref q_701, .ref q_702, .ref q_703, .ref q_687, .ref q_689, .int 1, .int 0, .int 0, .int 0, .long 0, .long 0])), (q_671, .inr (8, [.ref q_668, .ref q_670, .ref q_704, .ref q_705, .int 1, .int 0])), (q_672, .inr (2, [.ref q_669, .ref q_706, .ref q_707, .ref q_708, .int 1, .int 0, .int 0, .int (-1), .int 0, .int 0])), (q_713, .inr (10, fs_714)), (q_716, .inl (cI, 16, .inl f_717)), (q_718, .inl (cI, 16, .inl (fun _ => 0))), (q_719, .inl (cI, 64, .inl (fun _ => 0))), (q_720, .inl (cI, 2, .inl (fun _ => 0))), (q_721, .inl (cI, 82, .inl (fun _ => 0))), (q_722, .inl (cI, 82, .inl (fun _ => 0))), (q_723, .inl (cI, 82, .inl (fun _ => 0))), (q_724, .inl (cI, 2, .inl (fun _ => 0))), (q_725, .inl (cI, 50, .inl (fun _ => 0))), (q_726, .inl (cI, 50, .inl (fun _ => 0))), (q_727, .inl (cI, 2, .inl (fun _ => 0))), (q_728, .inl (cI, 4, .inl (fun _ => 0)))] H) (hD : va_D (fun q : Nat => s.heap.size ≤ q) [(q_663, .inr (9, [.ref q_664, .int 0, .ref q_665, .ref q_666, .ref q_667, .int 0, .int (-1), .ref q_668, .ref q_669, .ref q_670, .ref q_671, .ref q_672, .ref q_673])), (q_664, .inl (cB, 1200, .inl (fun _ => 0))), (q_665, .inr (7, [.ref q_674, .int 0, .int 0])), (q_667, .inr (4, [.ref q_665, .ref q_685, .ref q_686, .ref q_666, .ref q_675, .int 0, .int 0, .int 0, .int 0, .int (-1)])), (q_666, .inr (3, [.ref q_675, .ref q_676, .ref q_677, .ref q_678, .ref q_679, .ref q_680, .ref q_681, .ref q_682, .ref q_683, .int 0, .int 0, .int 0, .int 0, .int (-1)])), (q_675, .inr (0, [.ref q_684, .int 0])), (q_668, .inr (6, [.ref q_687, .int (-1), .ref q_688])), (q_687, .inr (3, [.ref q_689, .ref q_690, .ref q_691, .ref q_692, .ref q_693, .ref q_694, .ref q_695, .ref q_696, .ref q_697, .int 0, .int 0, .int 0, .int 0, .int (-1)])), (q_688, .inl (cI, 4, .inl (fun _ => 0))), (q_669, .inr (1, [.ref q_668, .ref q_699, .ref q_700, .ref q_701, .ref q_702, .ref q_703, .ref q_687, .ref q_689, .int 1, .int 0, .int 0, .int 0, .long 0, .long 0])), (q_671, .inr (8, [.ref q_668, .ref q_670, .ref q_704, .ref q_705, .int 1, .int 0])), (q_672, .inr (2, [.ref q_669, .ref q_706, .ref q_707, .ref q_708, .int 1, .int 0, .int 0, .int (-1), .int 0, .int 0])), (q_713, .inr (10, fs_714)), (q_716, .inl (cI, 16, .inl f_717)), (q_718, .inl (cI, 16, .inl (fun _ => 0))), (q_719, .inl (cI, 64, .inl (fun _ => 0))), (q_720, .inl (cI, 2, .inl (fun _ => 0))), (q_721, .inl (cI, 82, .inl (fun _ => 0))), (q_722, .inl (cI, 82, .inl (fun _ => 0))), (q_723, .inl (cI, 82, .inl (fun _ => 0))), (q_724, .inl (cI, 2, .inl (fun _ => 0))), (q_725, .inl (cI, 50, .inl (fun _ => 0))), (q_726, .inl (cI, 50, .inl (fun _ => 0))), (q_727, .inl (cI, 2, .inl (fun _ => 0))), (q_728, .inl (cI, 4, .inl (fun _ => 0)))]) (hS : va_S (fun q : Nat => s.heap.size ≤ q) s.heap H locs) {ls : Array Slot} (hl : lv_has ls 4 [(3, .int 0), (2, .ref q_713), (1, .ref q_663), (0, .ref b)]) (hf_734 : fs_714.length = 68) (hf_736 : fs_714[19]? = some (.ref q_716)) (hf_737 : fs_714[20]? = some (.ref q_718)) (hf_738 : fs_714[21]? = some (.ref q_719)) (hf_739 : fs_714[22]? = some (.ref q_720)) (hf_740 : fs_714[23]? = some (.ref q_721)) (hf_741 : fs_714[24]? = some (.ref q_722)) (hf_742 : fs_714[25]? = some (.ref q_723)) (hf_743 : fs_714[26]? = some (.ref q_724)) (hf_744 : fs_714[27]? = some (.ref q_725)) (hf_745 : fs_714[28]? = some (.ref q_726)) (hf_746 : fs_714[29]? = some (.ref q_727)) (hf_747 : fs_714[40]? = some (.ref q_728)) (hf_752 : fs_714[2]? = some (.int 0)) (hf_759 : ∀ j, j < 16 → f_717 j = -1) : W p l e room_1 s m #[Value.ref b] below meth c H locs 84 30598 (lw_Z below #[Value.ref b] s) (F0 m 171 ls []) := by
  have hA : ∀ q : Nat, s.heap.size ≤ q → (fun q : Nat => s.heap.size ≤ q) q := fun _ h => h
  have hbA : ¬ (fun q : Nat => s.heap.size ≤ q) b := Nat.not_le.mpr hbl
  refine lv_aload_n hx hb dL_law_171 rfl (lv_at hl 2 rfl) ?_
  refine lv_aload_n hx hb dL_law_172 rfl (lv_at hl 3 rfl) ?_
  refine lv_iload_n hx hb dL_law_173 rfl (lv_at hl 0 rfl) ?_
  refine lv_iconst (v := 1) hx hb dL_law_174 (by decide) ?_
  refine lv_iadd hx hb dL_law_175 ?_
  refine lv_topi (fun y_785 ey_785 => ?_)
  obtain rfl : y_785 = 1 := ey_785.trans (by decide)
  refine va_sld hx hb hX hbl hbA hS (by unfold vp_in; decide) dL_law_176 ?_
  refine lv_topi (fun y_786 ey_786 => ?_)
  obtain rfl : y_786 = 0 := ey_786.trans ((congrArg xs (by decide : (1 : Int32).toNatClampNeg = 1)).trans ew1.symm)
  have hPc := hP.sub (ws' := [(q_663, .inr (9, [.ref q_664, .int 0, .ref q_665, .ref q_666, .ref q_667, .int 0, .int (-1), .ref q_668, .ref q_669, .ref q_670, .ref q_671, .ref q_672, .ref q_673])), (q_664, .inl (cB, 1200, .inl (fun _ => 0))), (q_665, .inr (7, [.ref q_674, .int 0, .int 0])), (q_667, .inr (4, [.ref q_665, .ref q_685, .ref q_686, .ref q_666, .ref q_675, .int 0, .int 0, .int 0, .int 0, .int (-1)])), (q_666, .inr (3, [.ref q_675, .ref q_676, .ref q_677, .ref q_678, .ref q_679, .ref q_680, .ref q_681, .ref q_682, .ref q_683, .int 0, .int 0, .int 0, .int 0, .int (-1)])), (q_675, .inr (0, [.ref q_684, .int 0])), (q_668, .inr (6, [.ref q_687, .int (-1), .ref q_688])), (q_687, .inr (3, [.ref q_689, .ref q_690, .ref q_691, .ref q_692, .ref q_693, .ref q_694, .ref q_695, .ref q_696, .ref q_697, .int 0, .int 0, .int 0, .int 0, .int (-1)])), (q_688, .inl (cI, 4, .inl (fun _ => 0))), (q_669, .inr (1, [.ref q_668, .ref q_699, .ref q_700, .ref q_701, .ref q_702, .ref q_703, .ref q_687, .ref q_689, .int 1, .int 0, .int 0, .int 0, .long 0, .long 0])), (q_671, .inr (8, [.ref q_668, .ref q_670, .ref q_704, .ref q_705, .int 1, .int 0])), (q_672, .inr (2, [.ref q_669, .ref q_706, .ref q_707, .ref q_708, .int 1, .int 0, .int 0, .int (-1), .int 0, .int 0]))]) [0, 1, 2, 3, 4, 5, 6, 7, 8, 9, 10, 11] rfl
  have hDc := hD.sub (ws' := [(q_663, .inr (9, [.ref q_664, .int 0, .ref q_665, .ref q_666, .ref q_667, .int 0, .int (-1), .ref q_668, .ref q_669, .ref q_670, .ref q_671, .ref q_672, .ref q_673])), (q_664, .inl (cB, 1200, .inl (fun _ => 0))), (q_665, .inr (7, [.ref q_674, .int 0, .int 0])), (q_667, .inr (4, [.ref q_665, .ref q_685, .ref q_686, .ref q_666, .ref q_675, .int 0, .int 0, .int 0, .int 0, .int (-1)])), (q_666, .inr (3, [.ref q_675, .ref q_676, .ref q_677, .ref q_678, .ref q_679, .ref q_680, .ref q_681, .ref q_682, .ref q_683, .int 0, .int 0, .int 0, .int 0, .int (-1)])), (q_675, .inr (0, [.ref q_684, .int 0])), (q_668, .inr (6, [.ref q_687, .int (-1), .ref q_688])), (q_687, .inr (3, [.ref q_689, .ref q_690, .ref q_691, .ref q_692, .ref q_693, .ref q_694, .ref q_695, .ref q_696, .ref q_697, .int 0, .int 0, .int 0, .int 0, .int (-1)])), (q_688, .inl (cI, 4, .inl (fun _ => 0))), (q_669, .inr (1, [.ref q_668, .ref q_699, .ref q_700, .ref q_701, .ref q_702, .ref q_703, .ref q_687, .ref q_689, .int 1, .int 0, .int 0, .int 0, .long 0, .long 0])), (q_671, .inr (8, [.ref q_668, .ref q_670, .ref q_704, .ref q_705, .int 1, .int 0])), (q_672, .inr (2, [.ref q_669, .ref q_706, .ref q_707, .ref q_708, .int 1, .int 0, .int 0, .int (-1), .int 0, .int 0]))]) [0, 1, 2, 3, 4, 5, 6, 7, 8, 9, 10, 11] (by decide) rfl
  have hFc := va_free (wc := [(q_663, .inr (9, [.ref q_664, .int 0, .ref q_665, .ref q_666, .ref q_667, .int 0, .int (-1), .ref q_668, .ref q_669, .ref q_670, .ref q_671, .ref q_672, .ref q_673])), (q_664, .inl (cB, 1200, .inl (fun _ => 0))), (q_665, .inr (7, [.ref q_674, .int 0, .int 0])), (q_667, .inr (4, [.ref q_665, .ref q_685, .ref q_686, .ref q_666, .ref q_675, .int 0, .int 0, .int 0, .int 0, .int (-1)])), (q_666, .inr (3, [.ref q_675, .ref q_676, .ref q_677, .ref q_678, .ref q_679, .ref q_680, .ref q_681, .ref q_682, .ref q_683, .int 0, .int 0, .int 0, .int 0, .int (-1)])), (q_675, .inr (0, [.ref q_684, .int 0])), (q_668, .inr (6, [.ref q_687, .int (-1), .ref q_688])), (q_687, .inr (3, [.ref q_689, .ref q_690, .ref q_691, .ref q_692, .ref q_693, .ref q_694, .ref q_695, .ref q_696, .ref q_697, .int 0, .int 0, .int 0, .int 0, .int (-1)])), (q_688, .inl (cI, 4, .inl (fun _ => 0))), (q_669, .inr (1, [.ref q_668, .ref q_699, .ref q_700, .ref q_701, .ref q_702, .ref q_703, .ref q_687, .ref q_689, .int 1, .int 0, .int 0, .int 0, .long 0, .long 0])), (q_671, .inr (8, [.ref q_668, .ref q_670, .ref q_704, .ref q_705, .int 1, .int 0])), (q_672, .inr (2, [.ref q_669, .ref q_706, .ref q_707, .ref q_708, .int 1, .int 0, .int 0, .int (-1), .int 0, .int 0]))]) hD hS hA [0, 1, 2, 3, 4, 5, 6, 7, 8, 9, 10, 11] rfl
  refine va_calli (va_runV (As := [.int 0]) (rest := []) ⟨hx, hb, hml, hown, hts⟩ (c_text0 l dC dI cI cB cL cZ (q_663) (q_664) (q_665) (q_666) (q_667) (q_668) (q_669) (q_670) (q_671) (q_672) (q_673) (q_687) (q_688) (q_689) (q_690) (q_691) (q_692) (q_693) (q_694) (q_695) (q_696) (q_697) (q_674) (q_685) (q_686) (q_675) (q_684) (q_676) (q_677) (q_678) (q_679) (q_680) (q_681) (q_682) (q_683) (q_668) (q_670) (q_704) (q_705) (q_669) (q_706) (q_707) (q_708) (q_699) (q_700) (q_701) (q_702) (q_703) ((fun _ => 0)) ((fun _ => 0)) H.size) (cwV 1 hts gL_law_X10_text rfl rfl rfl (by decide +kernel) ⟨Nat.le_of_ble_eq_true rfl, Nat.le_of_ble_eq_true rfl⟩) ⟨cP_fb, va_recv hK hPc (ci := 9) (q0 := 0) rfl rfl, fun U hU hW => cP_pre hPc hK hDc hN U hU hW⟩ rfl rfl hl.1 rfl (lv_room (Nat.le_of_ble_eq_true rfl)) dL_law_177 ⟨Nat.le_of_ble_eq_true rfl, Nat.le_of_ble_eq_true rfl⟩) hS (fun q _ h => hFc q h) hFc (fun r_787 u t H1 locs ht hvm hw hB hz1 hk1 hS => ?_)
  obtain ⟨hP1, hD1⟩ := hB
  rw [ht] at hP1
  obtain ⟨hP, hD⟩ := va_join (wr := [(q_713, .inr (10, fs_714)), (q_716, .inl (cI, 16, .inl f_717)), (q_718, .inl (cI, 16, .inl (fun _ => 0))), (q_719, .inl (cI, 64, .inl (fun _ => 0))), (q_720, .inl (cI, 2, .inl (fun _ => 0))), (q_721, .inl (cI, 82, .inl (fun _ => 0))), (q_722, .inl (cI, 82, .inl (fun _ => 0))), (q_723, .inl (cI, 82, .inl (fun _ => 0))), (q_724, .inl (cI, 2, .inl (fun _ => 0))), (q_725, .inl (cI, 50, .inl (fun _ => 0))), (q_726, .inl (cI, 50, .inl (fun _ => 0))), (q_727, .inl (cI, 2, .inl (fun _ => 0))), (q_728, .inl (cI, 4, .inl (fun _ => 0)))]) (w1 := []) hP hD [0, 1, 2, 3, 4, 5, 6, 7, 8, 9, 10, 11] [12, 13, 14, 15, 16, 17, 18, 19, 20, 21, 22, 23, 24] rfl rfl (by decide) (by decide) hk1 hFc hP1 hD1
  generalize H1 = H at hP hS ⊢
  have hP : va_P (dC, dI) vwCl [(q_713, .inr (10, fs_714)), (q_716, .inl (cI, 16, .inl f_717)), (q_718, .inl (cI, 16, .inl (fun _ => 0))), (q_719, .inl (cI, 64, .inl (fun _ => 0))), (q_720, .inl (cI, 2, .inl (fun _ => 0))), (q_721, .inl (cI, 82, .inl (fun _ => 0))), (q_722, .inl (cI, 82, .inl (fun _ => 0))), (q_723, .inl (cI, 82, .inl (fun _ => 0))), (q_724, .inl (cI, 2, .inl (fun _ => 0))), (q_725, .inl (cI, 50, .inl (fun _ => 0))), (q_726, .inl (cI, 50, .inl (fun _ => 0))), (q_727, .inl (cI, 2, .inl (fun _ => 0))), (q_728, .inl (cI, 4, .inl (fun _ => 0)))] H := hP
  have hD : va_D (fun q : Nat => s.heap.size ≤ q) [(q_713, .inr (10, fs_714)), (q_716, .inl (cI, 16, .inl f_717)), (q_718, .inl (cI, 16, .inl (fun _ => 0))), (q_719, .inl (cI, 64, .inl (fun _ => 0))), (q_720, .inl (cI, 2, .inl (fun _ => 0))), (q_721, .inl (cI, 82, .inl (fun _ => 0))), (q_722, .inl (cI, 82, .inl (fun _ => 0))), (q_723, .inl (cI, 82, .inl (fun _ => 0))), (q_724, .inl (cI, 2, .inl (fun _ => 0))), (q_725, .inl (cI, 50, .inl (fun _ => 0))), (q_726, .inl (cI, 50, .inl (fun _ => 0))), (q_727, .inl (cI, 2, .inl (fun _ => 0))), (q_728, .inl (cI, 4, .inl (fun _ => 0)))] := hD
  obtain rfl : r_787 = 0 := hw
  refine lv_aload_n hx hb dL_law_180 rfl (lv_at hl 1 rfl) ?_
  refine lv_aload_n hx hb dL_law_181 rfl (lv_at hl 3 rfl) ?_
  refine lv_iload_n hx hb dL_law_182 rfl (lv_at hl 0 rfl) ?_
  refine lv_iconst (v := 1) hx hb dL_law_183 (by decide) ?_
  refine lv_iadd hx hb dL_law_184 ?_
  refine lv_topi (fun y_788 ey_788 => ?_)
  obtain rfl : y_788 = 1 := ey_788.trans (by decide)
  refine va_sld hx hb hX hbl hbA hS (by unfold vp_in; decide) dL_law_185 ?_
  refine lv_topi (fun y_789 ey_789 => ?_)
  obtain rfl : y_789 = 0 := ey_789.trans ((congrArg xs (by decide : (1 : Int32).toNatClampNeg = 1)).trans ew1.symm)
  have hPc := hP.sub (ws' := [(q_713, .inr (10, fs_714)), (q_716, .inl (cI, 16, .inl f_717)), (q_718, .inl (cI, 16, .inl (fun _ => 0))), (q_719, .inl (cI, 64, .inl (fun _ => 0))), (q_720, .inl (cI, 2, .inl (fun _ => 0))), (q_721, .inl (cI, 82, .inl (fun _ => 0))), (q_722, .inl (cI, 82, .inl (fun _ => 0))), (q_723, .inl (cI, 82, .inl (fun _ => 0))), (q_724, .inl (cI, 2, .inl (fun _ => 0))), (q_725, .inl (cI, 50, .inl (fun _ => 0))), (q_726, .inl (cI, 50, .inl (fun _ => 0))), (q_727, .inl (cI, 2, .inl (fun _ => 0))), (q_728, .inl (cI, 4, .inl (fun _ => 0)))]) [0, 1, 2, 3, 4, 5, 6, 7, 8, 9, 10, 11, 12] rfl
  have hDc := hD.sub (ws' := [(q_713, .inr (10, fs_714)), (q_716, .inl (cI, 16, .inl f_717)), (q_718, .inl (cI, 16, .inl (fun _ => 0))), (q_719, .inl (cI, 64, .inl (fun _ => 0))), (q_720, .inl (cI, 2, .inl (fun _ => 0))), (q_721, .inl (cI, 82, .inl (fun _ => 0))), (q_722, .inl (cI, 82, .inl (fun _ => 0))), (q_723, .inl (cI, 82, .inl (fun _ => 0))), (q_724, .inl (cI, 2, .inl (fun _ => 0))), (q_725, .inl (cI, 50, .inl (fun _ => 0))), (q_726, .inl (cI, 50, .inl (fun _ => 0))), (q_727, .inl (cI, 2, .inl (fun _ => 0))), (q_728, .inl (cI, 4, .inl (fun _ => 0)))]) [0, 1, 2, 3, 4, 5, 6, 7, 8, 9, 10, 11, 12] (by decide) rfl
  have hFc := va_free (wc := [(q_713, .inr (10, fs_714)), (q_716, .inl (cI, 16, .inl f_717)), (q_718, .inl (cI, 16, .inl (fun _ => 0))), (q_719, .inl (cI, 64, .inl (fun _ => 0))), (q_720, .inl (cI, 2, .inl (fun _ => 0))), (q_721, .inl (cI, 82, .inl (fun _ => 0))), (q_722, .inl (cI, 82, .inl (fun _ => 0))), (q_723, .inl (cI, 82, .inl (fun _ => 0))), (q_724, .inl (cI, 2, .inl (fun _ => 0))), (q_725, .inl (cI, 50, .inl (fun _ => 0))), (q_726, .inl (cI, 50, .inl (fun _ => 0))), (q_727, .inl (cI, 2, .inl (fun _ => 0))), (q_728, .inl (cI, 4, .inl (fun _ => 0)))]) hD hS hA [0, 1, 2, 3, 4, 5, 6, 7, 8, 9, 10, 11, 12] rfl
  refine va_calli (va_runV (As := [.int 0]) (rest := [.int 0]) ⟨hx, hb, hml, hown, hts⟩ (m_text0 l dC dI cI cB cL cZ (q_713) (q_716) (q_718) (q_719) (q_720) (q_721) (q_722) (q_723) (q_724) (q_725) (q_726) (q_727) (q_728) (fs_714) (f_717) ((fun _ => 0)) ((fun _ => 0)) ((fun _ => 0)) ((fun _ => 0)) ((fun _ => 0)) ((fun _ => 0)) ((fun _ => 0)) ((fun _ => 0)) ((fun _ => 0)) ((fun _ => 0)) ((fun _ => 0)) H.size hf_734 hf_736 hf_737 hf_738 hf_739 hf_740 hf_741 hf_742 hf_743 hf_744 hf_745 hf_746 hf_747 hf_752 (hf_759)) (cwV 1 hts gL_law_X11_text rfl rfl rfl (by decide +kernel) ⟨Nat.le_of_ble_eq_true rfl, Nat.le_of_ble_eq_true rfl⟩) ⟨cP_fb, va_recv hK hPc (ci := 10) (q0 := 0) rfl rfl, fun U hU hW => cP_pre hPc hK hDc hN U hU hW⟩ rfl rfl hl.1 rfl (lv_room (Nat.le_of_ble_eq_true rfl)) dL_law_186 ⟨Nat.le_of_ble_eq_true rfl, Nat.le_of_ble_eq_true rfl⟩) hS (fun q _ h => hFc q h) hFc (fun r_790 u t H1 locs ht hvm hw hB hz1 hk1 hS => ?_)
  obtain ⟨hP1, hD1⟩ := hB
  rw [ht] at hP1
  obtain ⟨hP, hD⟩ := va_join (wr := []) (w1 := []) hP hD [0, 1, 2, 3, 4, 5, 6, 7, 8, 9, 10, 11, 12] [] rfl rfl (by decide) (by decide) hk1 hFc hP1 hD1
  generalize H1 = H at hP hS ⊢
  have hP : va_P (dC, dI) vwCl [] H := hP
  have hD : va_D (fun q : Nat => s.heap.size ≤ q) [] := hD
  obtain rfl : r_790 = 0 := hw
  refine lv_icmp_eq (tgt := 553) hx hb dL_law_189 (by decide) (fun _ => ?_) (fun c9 => absurd (by decide) c9)
  refine lv_iinc (v := 6) (lv' := [(3, .int 6), (2, .ref q_713), (1, .ref q_663), (0, .ref b)]) hx hb dL_law_553 hl (k := 0) rfl (by decide) (by decide) rfl (fun ls hl => ?_)
  refine lv_goto (tgt := 18) hx hb dL_law_556 (by decide) ?_
  refine lv_iload_n hx hb dL_law_18 rfl (lv_at hl 0 rfl) ?_
  refine lv_aload_n hx hb dL_law_19 rfl (lv_at hl 3 rfl) ?_
  refine va_slen hx hb hX hbl hbA hS dL_law_20 ?_
  refine lv_topi (fun y_791 ey_791 => ?_)
  obtain rfl : y_791 = 6 := ey_791.trans (by decide)
  refine lv_bipush (v := 6) hx hb dL_law_21 (by decide) ?_
  refine lv_isub hx hb dL_law_23 ?_
  refine lv_topi (fun y_792 ey_792 => ?_)
  obtain rfl : y_792 = 0 := ey_792.trans (by decide)
  refine lv_icmp_gt (tgt := 559) hx hb dL_law_24 (by decide) (fun _ => ?_) (fun c9 => absurd (by decide) c9)
  refine lv_iconst (v := 1) hx hb dL_law_559 (by decide) ?_
  refine va_forget (fun q hq => hS.2.2 q hq) ?_
  exact lw_ret hx hb hr hlocks dL_law_560

set_option maxHeartbeats 4000000 in
set_option maxRecDepth 100000 in
theorem lw_textN {p : Program} {l : Launch} {e : Env} {s : State} {m : MethodId} {below : List Frame} {meth : Method} {c : Code} {dC : Nat → ClassId} {dI : Nat → Nat → Nat} {cI cB cL cZ : ClassId} {b : Nat} {xs : Nat → Int32} (hx : p.tables.exec = Jvm.exec) (hb : c.code = cL_law) (hr : meth.sig.returnType = ret) (hml : c.maxLocals = 4) (hown : s.vm.findClass RL = some m.cls) (hts : ∀ w ∈ wsL_law, w.before #[Value.ref b] s = true) (hX : va_X b 6 xs s s.heap) (hbl : b < s.heap.size) (hlocks : meth.locks = false) (hK : va_K (dC, dI) vwCl (kTy cI cB cL cZ) s) (hN : nN s) {q_663 : Nat} {q_664 : Nat} {q_665 : Nat} {q_666 : Nat} {q_667 : Nat} {q_668 : Nat} {q_669 : Nat} {q_670 : Nat} {q_671 : Nat} {q_672 : Nat} {q_673 : Nat} {q_713 : Nat} {fs_714 : List Value} {w1 : Int32} (ew1 : w1 = xs 1) {w2 : Int32} (ew2 : w2 = xs 2) {w3 : Int32} (ew3 : w3 = xs 3) {w4 : Int32} (ew4 : w4 = xs 4) {w5 : Int32} (ew5 : w5 = xs 5) {H : Heap} {locs : List Loc} (hP : va_P (dC, dI) vwCl [(q_663, .inr (9, [.ref q_664, .int 0, .ref q_665, .ref q_666, .ref q_667, .int 0, .int (-1), .ref q_668, .ref q_669, .ref q_670, .ref q_671, .ref q_672, .ref q_673])), (q_713, .inr (10, fs_714))] H) (hD : va_D (fun q : Nat => s.heap.size ≤ q) [(q_663, .inr (9, [.ref q_664, .int 0, .ref q_665, .ref q_666, .ref q_667, .int 0, .int (-1), .ref q_668, .ref q_669, .ref q_670, .ref q_671, .ref q_672, .ref q_673])), (q_713, .inr (10, fs_714))]) (hS : va_S (fun q : Nat => s.heap.size ≤ q) s.heap H locs) {ls : Array Slot} (hl : lv_has ls 4 [(3, .int 0), (2, .ref q_713), (1, .ref q_663), (0, .ref b)]) (hf_734 : fs_714.length = 68) (hf_752 : fs_714[2]? = some (.int 0)) (hn9 : w1 < 0 ∨ 0 < w1) : W p l e room_1 s m #[Value.ref b] below meth c H locs 84 30598 (lw_Z below #[Value.ref b] s) (F0 m 171 ls []) := by
  have hA : ∀ q : Nat, s.heap.size ≤ q → (fun q : Nat => s.heap.size ≤ q) q := fun _ h => h
  have hbA : ¬ (fun q : Nat => s.heap.size ≤ q) b := Nat.not_le.mpr hbl
  refine lv_aload_n hx hb dL_law_171 rfl (lv_at hl 2 rfl) ?_
  refine lv_aload_n hx hb dL_law_172 rfl (lv_at hl 3 rfl) ?_
  refine lv_iload_n hx hb dL_law_173 rfl (lv_at hl 0 rfl) ?_
  refine lv_iconst (v := 1) hx hb dL_law_174 (by decide) ?_
  refine lv_iadd hx hb dL_law_175 ?_
  refine lv_topi (fun y_793 ey_793 => ?_)
  obtain rfl : y_793 = 1 := ey_793.trans (by decide)
  refine va_sld hx hb hX hbl hbA hS (by unfold vp_in; decide) dL_law_176 ?_
  refine lv_topi (fun y_794 ey_794 => ?_)
  obtain rfl : y_794 = w1 := ey_794.trans ((congrArg xs (by decide : (1 : Int32).toNatClampNeg = 1)).trans ew1.symm)
  have hPc := hP.sub (ws' := [(q_663, .inr (9, [.ref q_664, .int 0, .ref q_665, .ref q_666, .ref q_667, .int 0, .int (-1), .ref q_668, .ref q_669, .ref q_670, .ref q_671, .ref q_672, .ref q_673]))]) [0] rfl
  have hDc := hD.sub (ws' := [(q_663, .inr (9, [.ref q_664, .int 0, .ref q_665, .ref q_666, .ref q_667, .int 0, .int (-1), .ref q_668, .ref q_669, .ref q_670, .ref q_671, .ref q_672, .ref q_673]))]) [0] (by decide) rfl
  have hFc := va_free (wc := [(q_663, .inr (9, [.ref q_664, .int 0, .ref q_665, .ref q_666, .ref q_667, .int 0, .int (-1), .ref q_668, .ref q_669, .ref q_670, .ref q_671, .ref q_672, .ref q_673]))]) hD hS hA [0] rfl
  refine va_calli (va_runV (As := [.int w1]) (rest := []) ⟨hx, hb, hml, hown, hts⟩ (c_textN l dC dI cI cB cL cZ (q_663) (q_664) (q_665) (q_666) (q_667) (q_668) (q_669) (q_670) (q_671) (q_672) (q_673) (w1) H.size (hn9)) (cwV 1 hts gL_law_X10_text rfl rfl rfl (by decide +kernel) ⟨Nat.le_of_ble_eq_true rfl, Nat.le_of_ble_eq_true rfl⟩) ⟨cP_fb, va_recv hK hPc (ci := 9) (q0 := 0) rfl rfl, fun U hU hW => cP_pre hPc hK hDc hN U hU hW⟩ rfl rfl hl.1 rfl (lv_room (Nat.le_of_ble_eq_true rfl)) dL_law_177 ⟨Nat.le_of_ble_eq_true rfl, Nat.le_of_ble_eq_true rfl⟩) hS (fun q _ h => hFc q h) hFc (fun r_795 u t H1 locs ht hvm hw hB hz1 hk1 hS => ?_)
  obtain ⟨hP1, hD1⟩ := hB
  rw [ht] at hP1
  obtain ⟨hP, hD⟩ := va_join (wr := [(q_713, .inr (10, fs_714))]) (w1 := []) hP hD [0] [1] rfl rfl (by decide) (by decide) hk1 hFc hP1 hD1
  generalize H1 = H at hP hS ⊢
  have hP : va_P (dC, dI) vwCl [(q_713, .inr (10, fs_714))] H := hP
  have hD : va_D (fun q : Nat => s.heap.size ≤ q) [(q_713, .inr (10, fs_714))] := hD
  obtain rfl : r_795 = (-2) := hw
  refine lv_aload_n hx hb dL_law_180 rfl (lv_at hl 1 rfl) ?_
  refine lv_aload_n hx hb dL_law_181 rfl (lv_at hl 3 rfl) ?_
  refine lv_iload_n hx hb dL_law_182 rfl (lv_at hl 0 rfl) ?_
  refine lv_iconst (v := 1) hx hb dL_law_183 (by decide) ?_
  refine lv_iadd hx hb dL_law_184 ?_
  refine lv_topi (fun y_796 ey_796 => ?_)
  obtain rfl : y_796 = 1 := ey_796.trans (by decide)
  refine va_sld hx hb hX hbl hbA hS (by unfold vp_in; decide) dL_law_185 ?_
  refine lv_topi (fun y_797 ey_797 => ?_)
  obtain rfl : y_797 = w1 := ey_797.trans ((congrArg xs (by decide : (1 : Int32).toNatClampNeg = 1)).trans ew1.symm)
  have hPc := hP.sub (ws' := [(q_713, .inr (10, fs_714))]) [0] rfl
  have hDc := hD.sub (ws' := [(q_713, .inr (10, fs_714))]) [0] (by decide) rfl
  have hFc := va_free (wc := [(q_713, .inr (10, fs_714))]) hD hS hA [0] rfl
  refine va_calli (va_runV (As := [.int w1]) (rest := [.int (-2)]) ⟨hx, hb, hml, hown, hts⟩ (m_textN l dC dI cI cB cL cZ (q_713) (w1) (fs_714) H.size hf_734 hf_752 (hn9)) (cwV 1 hts gL_law_X11_text rfl rfl rfl (by decide +kernel) ⟨Nat.le_of_ble_eq_true rfl, Nat.le_of_ble_eq_true rfl⟩) ⟨cP_fb, va_recv hK hPc (ci := 10) (q0 := 0) rfl rfl, fun U hU hW => cP_pre hPc hK hDc hN U hU hW⟩ rfl rfl hl.1 rfl (lv_room (Nat.le_of_ble_eq_true rfl)) dL_law_186 ⟨Nat.le_of_ble_eq_true rfl, Nat.le_of_ble_eq_true rfl⟩) hS (fun q _ h => hFc q h) hFc (fun r_798 u t H1 locs ht hvm hw hB hz1 hk1 hS => ?_)
  obtain ⟨hP1, hD1⟩ := hB
  rw [ht] at hP1
  obtain ⟨hP, hD⟩ := va_join (wr := []) (w1 := []) hP hD [0] [] rfl rfl (by decide) (by decide) hk1 hFc hP1 hD1
  generalize H1 = H at hP hS ⊢
  have hP : va_P (dC, dI) vwCl [] H := hP
  have hD : va_D (fun q : Nat => s.heap.size ≤ q) [] := hD
  obtain rfl : r_798 = (-2) := hw
  refine lv_icmp_eq (tgt := 553) hx hb dL_law_189 (by decide) (fun _ => ?_) (fun c9 => absurd (by decide) c9)
  refine lv_iinc (v := 6) (lv' := [(3, .int 6), (2, .ref q_713), (1, .ref q_663), (0, .ref b)]) hx hb dL_law_553 hl (k := 0) rfl (by decide) (by decide) rfl (fun ls hl => ?_)
  refine lv_goto (tgt := 18) hx hb dL_law_556 (by decide) ?_
  refine lv_iload_n hx hb dL_law_18 rfl (lv_at hl 0 rfl) ?_
  refine lv_aload_n hx hb dL_law_19 rfl (lv_at hl 3 rfl) ?_
  refine va_slen hx hb hX hbl hbA hS dL_law_20 ?_
  refine lv_topi (fun y_799 ey_799 => ?_)
  obtain rfl : y_799 = 6 := ey_799.trans (by decide)
  refine lv_bipush (v := 6) hx hb dL_law_21 (by decide) ?_
  refine lv_isub hx hb dL_law_23 ?_
  refine lv_topi (fun y_800 ey_800 => ?_)
  obtain rfl : y_800 = 0 := ey_800.trans (by decide)
  refine lv_icmp_gt (tgt := 559) hx hb dL_law_24 (by decide) (fun _ => ?_) (fun c9 => absurd (by decide) c9)
  refine lv_iconst (v := 1) hx hb dL_law_559 (by decide) ?_
  refine va_forget (fun q hq => hS.2.2 q hq) ?_
  exact lw_ret hx hb hr hlocks dL_law_560

set_option maxHeartbeats 4000000 in
set_option maxRecDepth 100000 in
theorem lw_fault {p : Program} {l : Launch} {e : Env} {s : State} {m : MethodId} {below : List Frame} {meth : Method} {c : Code} {dC : Nat → ClassId} {dI : Nat → Nat → Nat} {cI cB cL cZ : ClassId} {b : Nat} {xs : Nat → Int32} (hx : p.tables.exec = Jvm.exec) (hb : c.code = cL_law) (hr : meth.sig.returnType = ret) (hml : c.maxLocals = 4) (hown : s.vm.findClass RL = some m.cls) (hts : ∀ w ∈ wsL_law, w.before #[Value.ref b] s = true) (hX : va_X b 6 xs s s.heap) (hbl : b < s.heap.size) (hlocks : meth.locks = false) (hK : va_K (dC, dI) vwCl (kTy cI cB cL cZ) s) (hN : nN s) {q_663 : Nat} {q_664 : Nat} {q_665 : Nat} {q_666 : Nat} {q_667 : Nat} {q_668 : Nat} {q_669 : Nat} {q_670 : Nat} {q_671 : Nat} {q_672 : Nat} {q_673 : Nat} {q_713 : Nat} {fs_714 : List Value} {w1 : Int32} (ew1 : w1 = xs 1) {w2 : Int32} (ew2 : w2 = xs 2) {w3 : Int32} (ew3 : w3 = xs 3) {w4 : Int32} (ew4 : w4 = xs 4) {w5 : Int32} (ew5 : w5 = xs 5) {H : Heap} {locs : List Loc} (hP : va_P (dC, dI) vwCl [(q_663, .inr (9, [.ref q_664, .int 0, .ref q_665, .ref q_666, .ref q_667, .int 0, .int (-1), .ref q_668, .ref q_669, .ref q_670, .ref q_671, .ref q_672, .ref q_673])), (q_713, .inr (10, fs_714))] H) (hD : va_D (fun q : Nat => s.heap.size ≤ q) [(q_663, .inr (9, [.ref q_664, .int 0, .ref q_665, .ref q_666, .ref q_667, .int 0, .int (-1), .ref q_668, .ref q_669, .ref q_670, .ref q_671, .ref q_672, .ref q_673])), (q_713, .inr (10, fs_714))]) (hS : va_S (fun q : Nat => s.heap.size ≤ q) s.heap H locs) {ls : Array Slot} (hl : lv_has ls 4 [(3, .int 0), (2, .ref q_713), (1, .ref q_663), (0, .ref b)]) (hf_734 : fs_714.length = 68) (hf_753 : fs_714[10]? = some (.int 0)) (hf_754 : fs_714[11]? = some (.int (-1))) : W p l e room_1 s m #[Value.ref b] below meth c H locs 84 30598 (lw_Z below #[Value.ref b] s) (F0 m 194 ls []) := by
  have hA : ∀ q : Nat, s.heap.size ≤ q → (fun q : Nat => s.heap.size ≤ q) q := fun _ h => h
  have hbA : ¬ (fun q : Nat => s.heap.size ≤ q) b := Nat.not_le.mpr hbl
  refine lv_aload_n hx hb dL_law_194 rfl (lv_at hl 2 rfl) ?_
  refine lv_aload_n hx hb dL_law_195 rfl (lv_at hl 3 rfl) ?_
  refine lv_iload_n hx hb dL_law_196 rfl (lv_at hl 0 rfl) ?_
  refine lv_iconst (v := 1) hx hb dL_law_197 (by decide) ?_
  refine lv_iadd hx hb dL_law_198 ?_
  refine lv_topi (fun y_801 ey_801 => ?_)
  obtain rfl : y_801 = 1 := ey_801.trans (by decide)
  refine va_sld hx hb hX hbl hbA hS (by unfold vp_in; decide) dL_law_199 ?_
  refine lv_topi (fun y_802 ey_802 => ?_)
  obtain rfl : y_802 = w1 := ey_802.trans ((congrArg xs (by decide : (1 : Int32).toNatClampNeg = 1)).trans ew1.symm)
  have hPc := hP.sub (ws' := [(q_663, .inr (9, [.ref q_664, .int 0, .ref q_665, .ref q_666, .ref q_667, .int 0, .int (-1), .ref q_668, .ref q_669, .ref q_670, .ref q_671, .ref q_672, .ref q_673]))]) [0] rfl
  have hDc := hD.sub (ws' := [(q_663, .inr (9, [.ref q_664, .int 0, .ref q_665, .ref q_666, .ref q_667, .int 0, .int (-1), .ref q_668, .ref q_669, .ref q_670, .ref q_671, .ref q_672, .ref q_673]))]) [0] (by decide) rfl
  have hFc := va_free (wc := [(q_663, .inr (9, [.ref q_664, .int 0, .ref q_665, .ref q_666, .ref q_667, .int 0, .int (-1), .ref q_668, .ref q_669, .ref q_670, .ref q_671, .ref q_672, .ref q_673]))]) hD hS hA [0] rfl
  refine va_calli (va_runV (As := [.int w1]) (rest := []) ⟨hx, hb, hml, hown, hts⟩ (c_fault l dC dI cI cB cL cZ (q_663) (q_664) (q_665) (q_666) (q_667) (q_668) (q_669) (q_670) (q_671) (q_672) (q_673) (w1) H.size) (cwV 1 hts gL_law_X10_fault rfl rfl rfl (by decide +kernel) ⟨Nat.le_of_ble_eq_true rfl, Nat.le_of_ble_eq_true rfl⟩) ⟨cP_fb, va_recv hK hPc (ci := 9) (q0 := 0) rfl rfl, fun U hU hW => cP_pre hPc hK hDc hN U hU hW⟩ rfl rfl hl.1 rfl (lv_room (Nat.le_of_ble_eq_true rfl)) dL_law_200 ⟨Nat.le_of_ble_eq_true rfl, Nat.le_of_ble_eq_true rfl⟩) hS (fun q _ h => hFc q h) hFc (fun r_803 u t H1 locs ht hvm hw hB hz1 hk1 hS => ?_)
  obtain ⟨hP1, hD1⟩ := hB
  rw [ht] at hP1
  obtain ⟨hP, hD⟩ := va_join (wr := [(q_713, .inr (10, fs_714))]) (w1 := []) hP hD [0] [1] rfl rfl (by decide) (by decide) hk1 hFc hP1 hD1
  generalize H1 = H at hP hS ⊢
  have hP : va_P (dC, dI) vwCl [(q_713, .inr (10, fs_714))] H := hP
  have hD : va_D (fun q : Nat => s.heap.size ≤ q) [(q_713, .inr (10, fs_714))] := hD
  obtain rfl : r_803 = ((if w1 = 0 then (0 : Int32) else -1)) := hw
  refine lv_aload_n hx hb dL_law_203 rfl (lv_at hl 1 rfl) ?_
  refine lv_aload_n hx hb dL_law_204 rfl (lv_at hl 3 rfl) ?_
  refine lv_iload_n hx hb dL_law_205 rfl (lv_at hl 0 rfl) ?_
  refine lv_iconst (v := 1) hx hb dL_law_206 (by decide) ?_
  refine lv_iadd hx hb dL_law_207 ?_
  refine lv_topi (fun y_804 ey_804 => ?_)
  obtain rfl : y_804 = 1 := ey_804.trans (by decide)
  refine va_sld hx hb hX hbl hbA hS (by unfold vp_in; decide) dL_law_208 ?_
  refine lv_topi (fun y_805 ey_805 => ?_)
  obtain rfl : y_805 = w1 := ey_805.trans ((congrArg xs (by decide : (1 : Int32).toNatClampNeg = 1)).trans ew1.symm)
  have hPc := hP.sub (ws' := [(q_713, .inr (10, fs_714))]) [0] rfl
  have hDc := hD.sub (ws' := [(q_713, .inr (10, fs_714))]) [0] (by decide) rfl
  have hFc := va_free (wc := [(q_713, .inr (10, fs_714))]) hD hS hA [0] rfl
  refine va_calli (va_runV (As := [.int w1]) (rest := [.int ((if w1 = 0 then (0 : Int32) else -1))]) ⟨hx, hb, hml, hown, hts⟩ (m_fault l dC dI cI cB cL cZ (q_713) (w1) (fs_714) H.size hf_734 hf_753 hf_754) (cwV 1 hts gL_law_X11_fault rfl rfl rfl (by decide +kernel) ⟨Nat.le_of_ble_eq_true rfl, Nat.le_of_ble_eq_true rfl⟩) ⟨cP_fb, va_recv hK hPc (ci := 10) (q0 := 0) rfl rfl, fun U hU hW => cP_pre hPc hK hDc hN U hU hW⟩ rfl rfl hl.1 rfl (lv_room (Nat.le_of_ble_eq_true rfl)) dL_law_209 ⟨Nat.le_of_ble_eq_true rfl, Nat.le_of_ble_eq_true rfl⟩) hS (fun q _ h => hFc q h) hFc (fun r_806 u t H1 locs ht hvm hw hB hz1 hk1 hS => ?_)
  obtain ⟨hP1, hD1⟩ := hB
  rw [ht] at hP1
  obtain ⟨hP, hD⟩ := va_join (wr := []) (w1 := []) hP hD [0] [] rfl rfl (by decide) (by decide) hk1 hFc hP1 hD1
  generalize H1 = H at hP hS ⊢
  have hP : va_P (dC, dI) vwCl [] H := hP
  have hD : va_D (fun q : Nat => s.heap.size ≤ q) [] := hD
  obtain rfl : r_806 = ((if w1 = 0 then (0 : Int32) else -1)) := hw
  refine lv_icmp_eq (tgt := 553) hx hb dL_law_212 (by decide) (fun _ => ?_) (fun c9 => absurd rfl c9)
  refine lv_iinc (v := 6) (lv' := [(3, .int 6), (2, .ref q_713), (1, .ref q_663), (0, .ref b)]) hx hb dL_law_553 hl (k := 0) rfl (by decide) (by decide) rfl (fun ls hl => ?_)
  refine lv_goto (tgt := 18) hx hb dL_law_556 (by decide) ?_
  refine lv_iload_n hx hb dL_law_18 rfl (lv_at hl 0 rfl) ?_
  refine lv_aload_n hx hb dL_law_19 rfl (lv_at hl 3 rfl) ?_
  refine va_slen hx hb hX hbl hbA hS dL_law_20 ?_
  refine lv_topi (fun y_807 ey_807 => ?_)
  obtain rfl : y_807 = 6 := ey_807.trans (by decide)
  refine lv_bipush (v := 6) hx hb dL_law_21 (by decide) ?_
  refine lv_isub hx hb dL_law_23 ?_
  refine lv_topi (fun y_808 ey_808 => ?_)
  obtain rfl : y_808 = 0 := ey_808.trans (by decide)
  refine lv_icmp_gt (tgt := 559) hx hb dL_law_24 (by decide) (fun _ => ?_) (fun c9 => absurd (by decide) c9)
  refine lv_iconst (v := 1) hx hb dL_law_559 (by decide) ?_
  refine va_forget (fun q hq => hS.2.2 q hq) ?_
  exact lw_ret hx hb hr hlocks dL_law_560

set_option maxHeartbeats 4000000 in
set_option maxRecDepth 100000 in
theorem lw_entry {p : Program} {l : Launch} {e : Env} {s : State} {m : MethodId} {below : List Frame} {meth : Method} {c : Code} {dC : Nat → ClassId} {dI : Nat → Nat → Nat} {cI cB cL cZ : ClassId} {b : Nat} {xs : Nat → Int32} (hx : p.tables.exec = Jvm.exec) (hb : c.code = cL_law) (hr : meth.sig.returnType = ret) (hml : c.maxLocals = 4) (hown : s.vm.findClass RL = some m.cls) (hts : ∀ w ∈ wsL_law, w.before #[Value.ref b] s = true) (hX : va_X b 6 xs s s.heap) (hbl : b < s.heap.size) (hlocks : meth.locks = false) (hK : va_K (dC, dI) vwCl (kTy cI cB cL cZ) s) (hN : nN s) {q_663 : Nat} {q_664 : Nat} {q_665 : Nat} {q_666 : Nat} {q_667 : Nat} {q_668 : Nat} {q_669 : Nat} {q_670 : Nat} {q_671 : Nat} {q_672 : Nat} {q_673 : Nat} {q_687 : Nat} {q_688 : Nat} {q_689 : Nat} {q_690 : Nat} {q_691 : Nat} {q_692 : Nat} {q_693 : Nat} {q_694 : Nat} {q_695 : Nat} {q_696 : Nat} {q_697 : Nat} {q_713 : Nat} {fs_714 : List Value} {q_716 : Nat} {f_717 : Nat → Int32} {w1 : Int32} (ew1 : w1 = xs 1) {w2 : Int32} (ew2 : w2 = xs 2) {w3 : Int32} (ew3 : w3 = xs 3) {w4 : Int32} (ew4 : w4 = xs 4) {w5 : Int32} (ew5 : w5 = xs 5) {H : Heap} {locs : List Loc} (hP : va_P (dC, dI) vwCl [(q_663, .inr (9, [.ref q_664, .int 0, .ref q_665, .ref q_666, .ref q_667, .int 0, .int (-1), .ref q_668, .ref q_669, .ref q_670, .ref q_671, .ref q_672, .ref q_673])), (q_668, .inr (6, [.ref q_687, .int (-1), .ref q_688])), (q_687, .inr (3, [.ref q_689, .ref q_690, .ref q_691, .ref q_692, .ref q_693, .ref q_694, .ref q_695, .ref q_696, .ref q_697, .int 0, .int 0, .int 0, .int 0, .int (-1)])), (q_713, .inr (10, fs_714)), (q_716, .inl (cI, 16, .inl f_717))] H) (hD : va_D (fun q : Nat => s.heap.size ≤ q) [(q_663, .inr (9, [.ref q_664, .int 0, .ref q_665, .ref q_666, .ref q_667, .int 0, .int (-1), .ref q_668, .ref q_669, .ref q_670, .ref q_671, .ref q_672, .ref q_673])), (q_668, .inr (6, [.ref q_687, .int (-1), .ref q_688])), (q_687, .inr (3, [.ref q_689, .ref q_690, .ref q_691, .ref q_692, .ref q_693, .ref q_694, .ref q_695, .ref q_696, .ref q_697, .int 0, .int 0, .int 0, .int 0, .int (-1)])), (q_713, .inr (10, fs_714)), (q_716, .inl (cI, 16, .inl f_717))]) (hS : va_S (fun q : Nat => s.heap.size ≤ q) s.heap H locs) {ls : Array Slot} (hl : lv_has ls 4 [(3, .int 0), (2, .ref q_713), (1, .ref q_663), (0, .ref b)]) (hf_734 : fs_714.length = 68) (hf_736 : fs_714[19]? = some (.ref q_716)) (hf_759 : ∀ j, j < 16 → f_717 j = -1) : W p l e room_1 s m #[Value.ref b] below meth c H locs 84 30598 (lw_Z below #[Value.ref b] s) (F0 m 217 ls []) := by
  have hA : ∀ q : Nat, s.heap.size ≤ q → (fun q : Nat => s.heap.size ≤ q) q := fun _ h => h
  have hbA : ¬ (fun q : Nat => s.heap.size ≤ q) b := Nat.not_le.mpr hbl
  refine lv_aload_n hx hb dL_law_217 rfl (lv_at hl 2 rfl) ?_
  refine lv_aload_n hx hb dL_law_218 rfl (lv_at hl 3 rfl) ?_
  refine lv_iload_n hx hb dL_law_219 rfl (lv_at hl 0 rfl) ?_
  refine lv_iconst (v := 1) hx hb dL_law_220 (by decide) ?_
  refine lv_iadd hx hb dL_law_221 ?_
  refine lv_topi (fun y_809 ey_809 => ?_)
  obtain rfl : y_809 = 1 := ey_809.trans (by decide)
  refine va_sld hx hb hX hbl hbA hS (by unfold vp_in; decide) dL_law_222 ?_
  refine lv_topi (fun y_810 ey_810 => ?_)
  obtain rfl : y_810 = w1 := ey_810.trans ((congrArg xs (by decide : (1 : Int32).toNatClampNeg = 1)).trans ew1.symm)
  have hPc := hP.sub (ws' := [(q_663, .inr (9, [.ref q_664, .int 0, .ref q_665, .ref q_666, .ref q_667, .int 0, .int (-1), .ref q_668, .ref q_669, .ref q_670, .ref q_671, .ref q_672, .ref q_673])), (q_668, .inr (6, [.ref q_687, .int (-1), .ref q_688])), (q_687, .inr (3, [.ref q_689, .ref q_690, .ref q_691, .ref q_692, .ref q_693, .ref q_694, .ref q_695, .ref q_696, .ref q_697, .int 0, .int 0, .int 0, .int 0, .int (-1)]))]) [0, 1, 2] rfl
  have hDc := hD.sub (ws' := [(q_663, .inr (9, [.ref q_664, .int 0, .ref q_665, .ref q_666, .ref q_667, .int 0, .int (-1), .ref q_668, .ref q_669, .ref q_670, .ref q_671, .ref q_672, .ref q_673])), (q_668, .inr (6, [.ref q_687, .int (-1), .ref q_688])), (q_687, .inr (3, [.ref q_689, .ref q_690, .ref q_691, .ref q_692, .ref q_693, .ref q_694, .ref q_695, .ref q_696, .ref q_697, .int 0, .int 0, .int 0, .int 0, .int (-1)]))]) [0, 1, 2] (by decide) rfl
  have hFc := va_free (wc := [(q_663, .inr (9, [.ref q_664, .int 0, .ref q_665, .ref q_666, .ref q_667, .int 0, .int (-1), .ref q_668, .ref q_669, .ref q_670, .ref q_671, .ref q_672, .ref q_673])), (q_668, .inr (6, [.ref q_687, .int (-1), .ref q_688])), (q_687, .inr (3, [.ref q_689, .ref q_690, .ref q_691, .ref q_692, .ref q_693, .ref q_694, .ref q_695, .ref q_696, .ref q_697, .int 0, .int 0, .int 0, .int 0, .int (-1)]))]) hD hS hA [0, 1, 2] rfl
  refine va_calli (va_runV (As := [.int w1]) (rest := []) ⟨hx, hb, hml, hown, hts⟩ (c_entry l dC dI cI cB cL cZ (q_663) (q_664) (q_665) (q_666) (q_667) (q_668) (q_669) (q_670) (q_671) (q_672) (q_673) (q_687) (q_688) (q_689) (q_690) (q_691) (q_692) (q_693) (q_694) (q_695) (q_696) (q_697) (w1) H.size) (cwV 1 hts gL_law_X10_entry rfl rfl rfl (by decide +kernel) ⟨Nat.le_of_ble_eq_true rfl, Nat.le_of_ble_eq_true rfl⟩) ⟨cP_fb, va_recv hK hPc (ci := 9) (q0 := 0) rfl rfl, fun U hU hW => cP_pre hPc hK hDc hN U hU hW⟩ rfl rfl hl.1 rfl (lv_room (Nat.le_of_ble_eq_true rfl)) dL_law_223 ⟨Nat.le_of_ble_eq_true rfl, Nat.le_of_ble_eq_true rfl⟩) hS (fun q _ h => hFc q h) hFc (fun r_811 u t H1 locs ht hvm hw hB hz1 hk1 hS => ?_)
  obtain ⟨hP1, hD1⟩ := hB
  rw [ht] at hP1
  obtain ⟨hP, hD⟩ := va_join (wr := [(q_713, .inr (10, fs_714)), (q_716, .inl (cI, 16, .inl f_717))]) (w1 := []) hP hD [0, 1, 2] [3, 4] rfl rfl (by decide) (by decide) hk1 hFc hP1 hD1
  generalize H1 = H at hP hS ⊢
  have hP : va_P (dC, dI) vwCl [(q_713, .inr (10, fs_714)), (q_716, .inl (cI, 16, .inl f_717))] H := hP
  have hD : va_D (fun q : Nat => s.heap.size ≤ q) [(q_713, .inr (10, fs_714)), (q_716, .inl (cI, 16, .inl f_717))] := hD
  obtain rfl : r_811 = 0 := hw
  refine lv_aload_n hx hb dL_law_226 rfl (lv_at hl 1 rfl) ?_
  refine lv_aload_n hx hb dL_law_227 rfl (lv_at hl 3 rfl) ?_
  refine lv_iload_n hx hb dL_law_228 rfl (lv_at hl 0 rfl) ?_
  refine lv_iconst (v := 1) hx hb dL_law_229 (by decide) ?_
  refine lv_iadd hx hb dL_law_230 ?_
  refine lv_topi (fun y_812 ey_812 => ?_)
  obtain rfl : y_812 = 1 := ey_812.trans (by decide)
  refine va_sld hx hb hX hbl hbA hS (by unfold vp_in; decide) dL_law_231 ?_
  refine lv_topi (fun y_813 ey_813 => ?_)
  obtain rfl : y_813 = w1 := ey_813.trans ((congrArg xs (by decide : (1 : Int32).toNatClampNeg = 1)).trans ew1.symm)
  have hPc := hP.sub (ws' := [(q_713, .inr (10, fs_714)), (q_716, .inl (cI, 16, .inl f_717))]) [0, 1] rfl
  have hDc := hD.sub (ws' := [(q_713, .inr (10, fs_714)), (q_716, .inl (cI, 16, .inl f_717))]) [0, 1] (by decide) rfl
  have hFc := va_free (wc := [(q_713, .inr (10, fs_714)), (q_716, .inl (cI, 16, .inl f_717))]) hD hS hA [0, 1] rfl
  refine va_calli (va_runV (As := [.int w1]) (rest := [.int 0]) ⟨hx, hb, hml, hown, hts⟩ (m_entry l dC dI cI cB cL cZ (q_713) (q_716) (w1) (fs_714) (f_717) H.size hf_734 hf_736 (hf_759)) (cwV 1 hts gL_law_X11_entry rfl rfl rfl (by decide +kernel) ⟨Nat.le_of_ble_eq_true rfl, Nat.le_of_ble_eq_true rfl⟩) ⟨cP_fb, va_recv hK hPc (ci := 10) (q0 := 0) rfl rfl, fun U hU hW => cP_pre hPc hK hDc hN U hU hW⟩ rfl rfl hl.1 rfl (lv_room (Nat.le_of_ble_eq_true rfl)) dL_law_232 ⟨Nat.le_of_ble_eq_true rfl, Nat.le_of_ble_eq_true rfl⟩) hS (fun q _ h => hFc q h) hFc (fun r_814 u t H1 locs ht hvm hw hB hz1 hk1 hS => ?_)
  obtain ⟨hP1, hD1⟩ := hB
  rw [ht] at hP1
  obtain ⟨hP, hD⟩ := va_join (wr := []) (w1 := []) hP hD [0, 1] [] rfl rfl (by decide) (by decide) hk1 hFc hP1 hD1
  generalize H1 = H at hP hS ⊢
  have hP : va_P (dC, dI) vwCl [] H := hP
  have hD : va_D (fun q : Nat => s.heap.size ≤ q) [] := hD
  obtain rfl : r_814 = 0 := hw
  refine lv_icmp_eq (tgt := 553) hx hb dL_law_235 (by decide) (fun _ => ?_) (fun c9 => absurd (by decide) c9)
  refine lv_iinc (v := 6) (lv' := [(3, .int 6), (2, .ref q_713), (1, .ref q_663), (0, .ref b)]) hx hb dL_law_553 hl (k := 0) rfl (by decide) (by decide) rfl (fun ls hl => ?_)
  refine lv_goto (tgt := 18) hx hb dL_law_556 (by decide) ?_
  refine lv_iload_n hx hb dL_law_18 rfl (lv_at hl 0 rfl) ?_
  refine lv_aload_n hx hb dL_law_19 rfl (lv_at hl 3 rfl) ?_
  refine va_slen hx hb hX hbl hbA hS dL_law_20 ?_
  refine lv_topi (fun y_815 ey_815 => ?_)
  obtain rfl : y_815 = 6 := ey_815.trans (by decide)
  refine lv_bipush (v := 6) hx hb dL_law_21 (by decide) ?_
  refine lv_isub hx hb dL_law_23 ?_
  refine lv_topi (fun y_816 ey_816 => ?_)
  obtain rfl : y_816 = 0 := ey_816.trans (by decide)
  refine lv_icmp_gt (tgt := 559) hx hb dL_law_24 (by decide) (fun _ => ?_) (fun c9 => absurd (by decide) c9)
  refine lv_iconst (v := 1) hx hb dL_law_559 (by decide) ?_
  refine va_forget (fun q hq => hS.2.2 q hq) ?_
  exact lw_ret hx hb hr hlocks dL_law_560

set_option maxHeartbeats 4000000 in
set_option maxRecDepth 100000 in
theorem lw_outer {p : Program} {l : Launch} {e : Env} {s : State} {m : MethodId} {below : List Frame} {meth : Method} {c : Code} {dC : Nat → ClassId} {dI : Nat → Nat → Nat} {cI cB cL cZ : ClassId} {b : Nat} {xs : Nat → Int32} (hx : p.tables.exec = Jvm.exec) (hb : c.code = cL_law) (hr : meth.sig.returnType = ret) (hml : c.maxLocals = 4) (hown : s.vm.findClass RL = some m.cls) (hts : ∀ w ∈ wsL_law, w.before #[Value.ref b] s = true) (hX : va_X b 6 xs s s.heap) (hbl : b < s.heap.size) (hlocks : meth.locks = false) (hK : va_K (dC, dI) vwCl (kTy cI cB cL cZ) s) (hN : nN s) {q_663 : Nat} {q_664 : Nat} {q_665 : Nat} {q_666 : Nat} {q_667 : Nat} {q_668 : Nat} {q_669 : Nat} {q_670 : Nat} {q_671 : Nat} {q_672 : Nat} {q_673 : Nat} {q_687 : Nat} {q_688 : Nat} {q_689 : Nat} {q_690 : Nat} {q_691 : Nat} {q_692 : Nat} {q_693 : Nat} {q_694 : Nat} {q_695 : Nat} {q_696 : Nat} {q_697 : Nat} {q_713 : Nat} {fs_714 : List Value} {w1 : Int32} (ew1 : w1 = xs 1) {w2 : Int32} (ew2 : w2 = xs 2) {w3 : Int32} (ew3 : w3 = xs 3) {w4 : Int32} (ew4 : w4 = xs 4) {w5 : Int32} (ew5 : w5 = xs 5) {H : Heap} {locs : List Loc} (hP : va_P (dC, dI) vwCl [(q_663, .inr (9, [.ref q_664, .int 0, .ref q_665, .ref q_666, .ref q_667, .int 0, .int (-1), .ref q_668, .ref q_669, .ref q_670, .ref q_671, .ref q_672, .ref q_673])), (q_668, .inr (6, [.ref q_687, .int (-1), .ref q_688])), (q_687, .inr (3, [.ref q_689, .ref q_690, .ref q_691, .ref q_692, .ref q_693, .ref q_694, .ref q_695, .ref q_696, .ref q_697, .int 0, .int 0, .int 0, .int 0, .int (-1)])), (q_713, .inr (10, fs_714))] H) (hD : va_D (fun q : Nat => s.heap.size ≤ q) [(q_663, .inr (9, [.ref q_664, .int 0, .ref q_665, .ref q_666, .ref q_667, .int 0, .int (-1), .ref q_668, .ref q_669, .ref q_670, .ref q_671, .ref q_672, .ref q_673])), (q_668, .inr (6, [.ref q_687, .int (-1), .ref q_688])), (q_687, .inr (3, [.ref q_689, .ref q_690, .ref q_691, .ref q_692, .ref q_693, .ref q_694, .ref q_695, .ref q_696, .ref q_697, .int 0, .int 0, .int 0, .int 0, .int (-1)])), (q_713, .inr (10, fs_714))]) (hS : va_S (fun q : Nat => s.heap.size ≤ q) s.heap H locs) {ls : Array Slot} (hl : lv_has ls 4 [(3, .int 0), (2, .ref q_713), (1, .ref q_663), (0, .ref b)]) (hf_734 : fs_714.length = 68) (hf_756 : fs_714[39]? = some (.int (-1))) : W p l e room_1 s m #[Value.ref b] below meth c H locs 84 30598 (lw_Z below #[Value.ref b] s) (F0 m 240 ls []) := by
  have hA : ∀ q : Nat, s.heap.size ≤ q → (fun q : Nat => s.heap.size ≤ q) q := fun _ h => h
  have hbA : ¬ (fun q : Nat => s.heap.size ≤ q) b := Nat.not_le.mpr hbl
  refine lv_aload_n hx hb dL_law_240 rfl (lv_at hl 2 rfl) ?_
  refine lv_aload_n hx hb dL_law_241 rfl (lv_at hl 3 rfl) ?_
  refine lv_iload_n hx hb dL_law_242 rfl (lv_at hl 0 rfl) ?_
  refine lv_iconst (v := 1) hx hb dL_law_243 (by decide) ?_
  refine lv_iadd hx hb dL_law_244 ?_
  refine lv_topi (fun y_817 ey_817 => ?_)
  obtain rfl : y_817 = 1 := ey_817.trans (by decide)
  refine va_sld hx hb hX hbl hbA hS (by unfold vp_in; decide) dL_law_245 ?_
  refine lv_topi (fun y_818 ey_818 => ?_)
  obtain rfl : y_818 = w1 := ey_818.trans ((congrArg xs (by decide : (1 : Int32).toNatClampNeg = 1)).trans ew1.symm)
  refine lv_aload_n hx hb dL_law_246 rfl (lv_at hl 3 rfl) ?_
  refine lv_iload_n hx hb dL_law_247 rfl (lv_at hl 0 rfl) ?_
  refine lv_iconst (v := 2) hx hb dL_law_248 (by decide) ?_
  refine lv_iadd hx hb dL_law_249 ?_
  refine lv_topi (fun y_819 ey_819 => ?_)
  obtain rfl : y_819 = 2 := ey_819.trans (by decide)
  refine va_sld hx hb hX hbl hbA hS (by unfold vp_in; decide) dL_law_250 ?_
  refine lv_topi (fun y_820 ey_820 => ?_)
  obtain rfl : y_820 = w2 := ey_820.trans ((congrArg xs (by decide : (2 : Int32).toNatClampNeg = 2)).trans ew2.symm)
  have hPc := hP.sub (ws' := [(q_663, .inr (9, [.ref q_664, .int 0, .ref q_665, .ref q_666, .ref q_667, .int 0, .int (-1), .ref q_668, .ref q_669, .ref q_670, .ref q_671, .ref q_672, .ref q_673])), (q_668, .inr (6, [.ref q_687, .int (-1), .ref q_688])), (q_687, .inr (3, [.ref q_689, .ref q_690, .ref q_691, .ref q_692, .ref q_693, .ref q_694, .ref q_695, .ref q_696, .ref q_697, .int 0, .int 0, .int 0, .int 0, .int (-1)]))]) [0, 1, 2] rfl
  have hDc := hD.sub (ws' := [(q_663, .inr (9, [.ref q_664, .int 0, .ref q_665, .ref q_666, .ref q_667, .int 0, .int (-1), .ref q_668, .ref q_669, .ref q_670, .ref q_671, .ref q_672, .ref q_673])), (q_668, .inr (6, [.ref q_687, .int (-1), .ref q_688])), (q_687, .inr (3, [.ref q_689, .ref q_690, .ref q_691, .ref q_692, .ref q_693, .ref q_694, .ref q_695, .ref q_696, .ref q_697, .int 0, .int 0, .int 0, .int 0, .int (-1)]))]) [0, 1, 2] (by decide) rfl
  have hFc := va_free (wc := [(q_663, .inr (9, [.ref q_664, .int 0, .ref q_665, .ref q_666, .ref q_667, .int 0, .int (-1), .ref q_668, .ref q_669, .ref q_670, .ref q_671, .ref q_672, .ref q_673])), (q_668, .inr (6, [.ref q_687, .int (-1), .ref q_688])), (q_687, .inr (3, [.ref q_689, .ref q_690, .ref q_691, .ref q_692, .ref q_693, .ref q_694, .ref q_695, .ref q_696, .ref q_697, .int 0, .int 0, .int 0, .int 0, .int (-1)]))]) hD hS hA [0, 1, 2] rfl
  refine va_calli (va_runV (As := [.int w1, .int w2]) (rest := []) ⟨hx, hb, hml, hown, hts⟩ (c_outer l dC dI cI cB cL cZ (q_663) (q_664) (q_665) (q_666) (q_667) (q_668) (q_669) (q_670) (q_671) (q_672) (q_673) (q_687) (q_688) (q_689) (q_690) (q_691) (q_692) (q_693) (q_694) (q_695) (q_696) (q_697) (w1) (w2) H.size) (cwV 2 hts gL_law_X10_outer rfl rfl rfl (by decide +kernel) ⟨Nat.le_of_ble_eq_true rfl, Nat.le_of_ble_eq_true rfl⟩) ⟨cP_fb, va_recv hK hPc (ci := 9) (q0 := 0) rfl rfl, fun U hU hW => cP_pre hPc hK hDc hN U hU hW⟩ rfl rfl hl.1 rfl (lv_room (Nat.le_of_ble_eq_true rfl)) dL_law_251 ⟨Nat.le_of_ble_eq_true rfl, Nat.le_of_ble_eq_true rfl⟩) hS (fun q _ h => hFc q h) hFc (fun r_821 u t H1 locs ht hvm hw hB hz1 hk1 hS => ?_)
  obtain ⟨hP1, hD1⟩ := hB
  rw [ht] at hP1
  obtain ⟨hP, hD⟩ := va_join (wr := [(q_713, .inr (10, fs_714))]) (w1 := []) hP hD [0, 1, 2] [3] rfl rfl (by decide) (by decide) hk1 hFc hP1 hD1
  generalize H1 = H at hP hS ⊢
  have hP : va_P (dC, dI) vwCl [(q_713, .inr (10, fs_714))] H := hP
  have hD : va_D (fun q : Nat => s.heap.size ≤ q) [(q_713, .inr (10, fs_714))] := hD
  obtain rfl : r_821 = 0 := hw
  refine lv_aload_n hx hb dL_law_254 rfl (lv_at hl 1 rfl) ?_
  refine lv_aload_n hx hb dL_law_255 rfl (lv_at hl 3 rfl) ?_
  refine lv_iload_n hx hb dL_law_256 rfl (lv_at hl 0 rfl) ?_
  refine lv_iconst (v := 1) hx hb dL_law_257 (by decide) ?_
  refine lv_iadd hx hb dL_law_258 ?_
  refine lv_topi (fun y_822 ey_822 => ?_)
  obtain rfl : y_822 = 1 := ey_822.trans (by decide)
  refine va_sld hx hb hX hbl hbA hS (by unfold vp_in; decide) dL_law_259 ?_
  refine lv_topi (fun y_823 ey_823 => ?_)
  obtain rfl : y_823 = w1 := ey_823.trans ((congrArg xs (by decide : (1 : Int32).toNatClampNeg = 1)).trans ew1.symm)
  refine lv_aload_n hx hb dL_law_260 rfl (lv_at hl 3 rfl) ?_
  refine lv_iload_n hx hb dL_law_261 rfl (lv_at hl 0 rfl) ?_
  refine lv_iconst (v := 2) hx hb dL_law_262 (by decide) ?_
  refine lv_iadd hx hb dL_law_263 ?_
  refine lv_topi (fun y_824 ey_824 => ?_)
  obtain rfl : y_824 = 2 := ey_824.trans (by decide)
  refine va_sld hx hb hX hbl hbA hS (by unfold vp_in; decide) dL_law_264 ?_
  refine lv_topi (fun y_825 ey_825 => ?_)
  obtain rfl : y_825 = w2 := ey_825.trans ((congrArg xs (by decide : (2 : Int32).toNatClampNeg = 2)).trans ew2.symm)
  have hPc := hP.sub (ws' := [(q_713, .inr (10, fs_714))]) [0] rfl
  have hDc := hD.sub (ws' := [(q_713, .inr (10, fs_714))]) [0] (by decide) rfl
  have hFc := va_free (wc := [(q_713, .inr (10, fs_714))]) hD hS hA [0] rfl
  refine va_calli (va_runV (As := [.int w1, .int w2]) (rest := [.int 0]) ⟨hx, hb, hml, hown, hts⟩ (m_outer l dC dI cI cB cL cZ (q_713) (w1) (w2) (fs_714) H.size hf_734 hf_756) (cwV 2 hts gL_law_X11_outer rfl rfl rfl (by decide +kernel) ⟨Nat.le_of_ble_eq_true rfl, Nat.le_of_ble_eq_true rfl⟩) ⟨cP_fb, va_recv hK hPc (ci := 10) (q0 := 0) rfl rfl, fun U hU hW => cP_pre hPc hK hDc hN U hU hW⟩ rfl rfl hl.1 rfl (lv_room (Nat.le_of_ble_eq_true rfl)) dL_law_265 ⟨Nat.le_of_ble_eq_true rfl, Nat.le_of_ble_eq_true rfl⟩) hS (fun q _ h => hFc q h) hFc (fun r_826 u t H1 locs ht hvm hw hB hz1 hk1 hS => ?_)
  obtain ⟨hP1, hD1⟩ := hB
  rw [ht] at hP1
  obtain ⟨hP, hD⟩ := va_join (wr := []) (w1 := []) hP hD [0] [] rfl rfl (by decide) (by decide) hk1 hFc hP1 hD1
  generalize H1 = H at hP hS ⊢
  have hP : va_P (dC, dI) vwCl [] H := hP
  have hD : va_D (fun q : Nat => s.heap.size ≤ q) [] := hD
  obtain rfl : r_826 = 0 := hw
  refine lv_icmp_eq (tgt := 553) hx hb dL_law_268 (by decide) (fun _ => ?_) (fun c9 => absurd (by decide) c9)
  refine lv_iinc (v := 6) (lv' := [(3, .int 6), (2, .ref q_713), (1, .ref q_663), (0, .ref b)]) hx hb dL_law_553 hl (k := 0) rfl (by decide) (by decide) rfl (fun ls hl => ?_)
  refine lv_goto (tgt := 18) hx hb dL_law_556 (by decide) ?_
  refine lv_iload_n hx hb dL_law_18 rfl (lv_at hl 0 rfl) ?_
  refine lv_aload_n hx hb dL_law_19 rfl (lv_at hl 3 rfl) ?_
  refine va_slen hx hb hX hbl hbA hS dL_law_20 ?_
  refine lv_topi (fun y_827 ey_827 => ?_)
  obtain rfl : y_827 = 6 := ey_827.trans (by decide)
  refine lv_bipush (v := 6) hx hb dL_law_21 (by decide) ?_
  refine lv_isub hx hb dL_law_23 ?_
  refine lv_topi (fun y_828 ey_828 => ?_)
  obtain rfl : y_828 = 0 := ey_828.trans (by decide)
  refine lv_icmp_gt (tgt := 559) hx hb dL_law_24 (by decide) (fun _ => ?_) (fun c9 => absurd (by decide) c9)
  refine lv_iconst (v := 1) hx hb dL_law_559 (by decide) ?_
  refine va_forget (fun q hq => hS.2.2 q hq) ?_
  exact lw_ret hx hb hr hlocks dL_law_560

set_option maxHeartbeats 4000000 in
set_option maxRecDepth 100000 in
theorem lw_mark0 {p : Program} {l : Launch} {e : Env} {s : State} {m : MethodId} {below : List Frame} {meth : Method} {c : Code} {dC : Nat → ClassId} {dI : Nat → Nat → Nat} {cI cB cL cZ : ClassId} {b : Nat} {xs : Nat → Int32} (hx : p.tables.exec = Jvm.exec) (hb : c.code = cL_law) (hr : meth.sig.returnType = ret) (hml : c.maxLocals = 4) (hown : s.vm.findClass RL = some m.cls) (hts : ∀ w ∈ wsL_law, w.before #[Value.ref b] s = true) (hX : va_X b 6 xs s s.heap) (hbl : b < s.heap.size) (hlocks : meth.locks = false) (hK : va_K (dC, dI) vwCl (kTy cI cB cL cZ) s) (hN : nN s) {q_663 : Nat} {q_664 : Nat} {q_665 : Nat} {q_666 : Nat} {q_667 : Nat} {q_668 : Nat} {q_669 : Nat} {q_670 : Nat} {q_671 : Nat} {q_672 : Nat} {q_673 : Nat} {q_699 : Nat} {q_700 : Nat} {q_701 : Nat} {q_702 : Nat} {q_703 : Nat} {q_687 : Nat} {q_689 : Nat} {q_688 : Nat} {q_690 : Nat} {q_691 : Nat} {q_692 : Nat} {q_693 : Nat} {q_694 : Nat} {q_695 : Nat} {q_696 : Nat} {q_697 : Nat} {q_698 : Nat} {q_713 : Nat} {fs_714 : List Value} {q_716 : Nat} {f_717 : Nat → Int32} {q_730 : Nat} {q_729 : Nat} {q_731 : Nat} (ew1 : (2 : Int32) = xs 1) {w2 : Int32} (ew2 : w2 = xs 2) (ew3 : (0 : Int32) = xs 3) {w4 : Int32} (ew4 : w4 = xs 4) {w5 : Int32} (ew5 : w5 = xs 5) {H : Heap} {locs : List Loc} (hP : va_P (dC, dI) vwCl [(q_663, .inr (9, [.ref q_664, .int 0, .ref q_665, .ref q_666, .ref q_667, .int 0, .int (-1), .ref q_668, .ref q_669, .ref q_670, .ref q_671, .ref q_672, .ref q_673])), (q_669, .inr (1, [.ref q_668, .ref q_699, .ref q_700, .ref q_701, .ref q_702, .ref q_703, .ref q_687, .ref q_689, .int 1, .int 0, .int 0, .int 0, .long 0, .long 0])), (q_668, .inr (6, [.ref q_687, .int (-1), .ref q_688])), (q_687, .inr (3, [.ref q_689, .ref q_690, .ref q_691, .ref q_692, .ref q_693, .ref q_694, .ref q_695, .ref q_696, .ref q_697, .int 0, .int 0, .int 0, .int 0, .int (-1)])), (q_689, .inr (0, [.ref q_698, .int 0])), (q_699, .inl (cL, 304, .inr (.inl (fun _ => 0)))), (q_700, .inl (cI, 304, .inl (fun _ => 0))), (q_701, .inl (cI, 42, .inl (fun _ => 0))), (q_702, .inl (cI, 40, .inl (fun _ => 0))), (q_703, .inl (cI, 24, .inl (fun _ => 0))), (q_713, .inr (10, fs_714)), (q_716, .inl (cI, 16, .inl f_717)), (q_730, .inl (cZ, 42, .inl (fun _ => 0))), (q_729, .inl (cI, 42, .inl (fun _ => 0))), (q_731, .inl (cI, 25, .inl (fun _ => 0)))] H) (hD : va_D (fun q : Nat => s.heap.size ≤ q) [(q_663, .inr (9, [.ref q_664, .int 0, .ref q_665, .ref q_666, .ref q_667, .int 0, .int (-1), .ref q_668, .ref q_669, .ref q_670, .ref q_671, .ref q_672, .ref q_673])), (q_669, .inr (1, [.ref q_668, .ref q_699, .ref q_700, .ref q_701, .ref q_702, .ref q_703, .ref q_687, .ref q_689, .int 1, .int 0, .int 0, .int 0, .long 0, .long 0])), (q_668, .inr (6, [.ref q_687, .int (-1), .ref q_688])), (q_687, .inr (3, [.ref q_689, .ref q_690, .ref q_691, .ref q_692, .ref q_693, .ref q_694, .ref q_695, .ref q_696, .ref q_697, .int 0, .int 0, .int 0, .int 0, .int (-1)])), (q_689, .inr (0, [.ref q_698, .int 0])), (q_699, .inl (cL, 304, .inr (.inl (fun _ => 0)))), (q_700, .inl (cI, 304, .inl (fun _ => 0))), (q_701, .inl (cI, 42, .inl (fun _ => 0))), (q_702, .inl (cI, 40, .inl (fun _ => 0))), (q_703, .inl (cI, 24, .inl (fun _ => 0))), (q_713, .inr (10, fs_714)), (q_716, .inl (cI, 16, .inl f_717)), (q_730, .inl (cZ, 42, .inl (fun _ => 0))), (q_729, .inl (cI, 42, .inl (fun _ => 0))), (q_731, .inl (cI, 25, .inl (fun _ => 0)))]) (hS : va_S (fun q : Nat => s.heap.size ≤ q) s.heap H locs) {ls : Array Slot} (hl : lv_has ls 4 [(3, .int 0), (2, .ref q_713), (1, .ref q_663), (0, .ref b)]) (hf_734 : fs_714.length = 68) (hf_736 : fs_714[19]? = some (.ref q_716)) (hf_749 : fs_714[43]? = some (.ref q_730)) (hf_748 : fs_714[42]? = some (.ref q_729)) (hf_750 : fs_714[44]? = some (.ref q_731)) (hf_755 : fs_714[18]? = some (.int 0)) (hf_756 : fs_714[39]? = some (.int (-1))) (hf_759 : ∀ j, j < 16 → f_717 j = -1) : W p l e room_1 s m #[Value.ref b] below meth c H locs 84 30598 (lw_Z below #[Value.ref b] s) (F0 m 273 ls []) := by
  have hA : ∀ q : Nat, s.heap.size ≤ q → (fun q : Nat => s.heap.size ≤ q) q := fun _ h => h
  have hbA : ¬ (fun q : Nat => s.heap.size ≤ q) b := Nat.not_le.mpr hbl
  refine lv_aload_n hx hb dL_law_273 rfl (lv_at hl 2 rfl) ?_
  refine lv_aload_n hx hb dL_law_274 rfl (lv_at hl 3 rfl) ?_
  refine lv_iload_n hx hb dL_law_275 rfl (lv_at hl 0 rfl) ?_
  refine lv_iconst (v := 1) hx hb dL_law_276 (by decide) ?_
  refine lv_iadd hx hb dL_law_277 ?_
  refine lv_topi (fun y_829 ey_829 => ?_)
  obtain rfl : y_829 = 1 := ey_829.trans (by decide)
  refine va_sld hx hb hX hbl hbA hS (by unfold vp_in; decide) dL_law_278 ?_
  refine lv_topi (fun y_830 ey_830 => ?_)
  obtain rfl : y_830 = 2 := ey_830.trans ((congrArg xs (by decide : (1 : Int32).toNatClampNeg = 1)).trans ew1.symm)
  refine lv_aload_n hx hb dL_law_279 rfl (lv_at hl 3 rfl) ?_
  refine lv_iload_n hx hb dL_law_280 rfl (lv_at hl 0 rfl) ?_
  refine lv_iconst (v := 2) hx hb dL_law_281 (by decide) ?_
  refine lv_iadd hx hb dL_law_282 ?_
  refine lv_topi (fun y_831 ey_831 => ?_)
  obtain rfl : y_831 = 2 := ey_831.trans (by decide)
  refine va_sld hx hb hX hbl hbA hS (by unfold vp_in; decide) dL_law_283 ?_
  refine lv_topi (fun y_832 ey_832 => ?_)
  obtain rfl : y_832 = w2 := ey_832.trans ((congrArg xs (by decide : (2 : Int32).toNatClampNeg = 2)).trans ew2.symm)
  refine lv_aload_n hx hb dL_law_284 rfl (lv_at hl 3 rfl) ?_
  refine lv_iload_n hx hb dL_law_285 rfl (lv_at hl 0 rfl) ?_
  refine lv_iconst (v := 3) hx hb dL_law_286 (by decide) ?_
  refine lv_iadd hx hb dL_law_287 ?_
  refine lv_topi (fun y_833 ey_833 => ?_)
  obtain rfl : y_833 = 3 := ey_833.trans (by decide)
  refine va_sld hx hb hX hbl hbA hS (by unfold vp_in; decide) dL_law_288 ?_
  refine lv_topi (fun y_834 ey_834 => ?_)
  obtain rfl : y_834 = 0 := ey_834.trans ((congrArg xs (by decide : (3 : Int32).toNatClampNeg = 3)).trans ew3.symm)
  have hPc := hP.sub (ws' := [(q_663, .inr (9, [.ref q_664, .int 0, .ref q_665, .ref q_666, .ref q_667, .int 0, .int (-1), .ref q_668, .ref q_669, .ref q_670, .ref q_671, .ref q_672, .ref q_673])), (q_669, .inr (1, [.ref q_668, .ref q_699, .ref q_700, .ref q_701, .ref q_702, .ref q_703, .ref q_687, .ref q_689, .int 1, .int 0, .int 0, .int 0, .long 0, .long 0])), (q_668, .inr (6, [.ref q_687, .int (-1), .ref q_688])), (q_687, .inr (3, [.ref q_689, .ref q_690, .ref q_691, .ref q_692, .ref q_693, .ref q_694, .ref q_695, .ref q_696, .ref q_697, .int 0, .int 0, .int 0, .int 0, .int (-1)])), (q_689, .inr (0, [.ref q_698, .int 0])), (q_699, .inl (cL, 304, .inr (.inl (fun _ => 0)))), (q_700, .inl (cI, 304, .inl (fun _ => 0))), (q_701, .inl (cI, 42, .inl (fun _ => 0))), (q_702, .inl (cI, 40, .inl (fun _ => 0))), (q_703, .inl (cI, 24, .inl (fun _ => 0)))]) [0, 1, 2, 3, 4, 5, 6, 7, 8, 9] rfl
  have hDc := hD.sub (ws' := [(q_663, .inr (9, [.ref q_664, .int 0, .ref q_665, .ref q_666, .ref q_667, .int 0, .int (-1), .ref q_668, .ref q_669, .ref q_670, .ref q_671, .ref q_672, .ref q_673])), (q_669, .inr (1, [.ref q_668, .ref q_699, .ref q_700, .ref q_701, .ref q_702, .ref q_703, .ref q_687, .ref q_689, .int 1, .int 0, .int 0, .int 0, .long 0, .long 0])), (q_668, .inr (6, [.ref q_687, .int (-1), .ref q_688])), (q_687, .inr (3, [.ref q_689, .ref q_690, .ref q_691, .ref q_692, .ref q_693, .ref q_694, .ref q_695, .ref q_696, .ref q_697, .int 0, .int 0, .int 0, .int 0, .int (-1)])), (q_689, .inr (0, [.ref q_698, .int 0])), (q_699, .inl (cL, 304, .inr (.inl (fun _ => 0)))), (q_700, .inl (cI, 304, .inl (fun _ => 0))), (q_701, .inl (cI, 42, .inl (fun _ => 0))), (q_702, .inl (cI, 40, .inl (fun _ => 0))), (q_703, .inl (cI, 24, .inl (fun _ => 0)))]) [0, 1, 2, 3, 4, 5, 6, 7, 8, 9] (by decide) rfl
  have hFc := va_free (wc := [(q_663, .inr (9, [.ref q_664, .int 0, .ref q_665, .ref q_666, .ref q_667, .int 0, .int (-1), .ref q_668, .ref q_669, .ref q_670, .ref q_671, .ref q_672, .ref q_673])), (q_669, .inr (1, [.ref q_668, .ref q_699, .ref q_700, .ref q_701, .ref q_702, .ref q_703, .ref q_687, .ref q_689, .int 1, .int 0, .int 0, .int 0, .long 0, .long 0])), (q_668, .inr (6, [.ref q_687, .int (-1), .ref q_688])), (q_687, .inr (3, [.ref q_689, .ref q_690, .ref q_691, .ref q_692, .ref q_693, .ref q_694, .ref q_695, .ref q_696, .ref q_697, .int 0, .int 0, .int 0, .int 0, .int (-1)])), (q_689, .inr (0, [.ref q_698, .int 0])), (q_699, .inl (cL, 304, .inr (.inl (fun _ => 0)))), (q_700, .inl (cI, 304, .inl (fun _ => 0))), (q_701, .inl (cI, 42, .inl (fun _ => 0))), (q_702, .inl (cI, 40, .inl (fun _ => 0))), (q_703, .inl (cI, 24, .inl (fun _ => 0)))]) hD hS hA [0, 1, 2, 3, 4, 5, 6, 7, 8, 9] rfl
  refine va_calli (va_runV (As := [.int 2, .int w2, .int 0]) (rest := []) ⟨hx, hb, hml, hown, hts⟩ (c_mark0 l dC dI cI cB cL cZ (q_663) (q_664) (q_665) (q_666) (q_667) (q_668) (q_669) (q_670) (q_671) (q_672) (q_673) (q_687) (q_688) (q_689) (q_690) (q_691) (q_692) (q_693) (q_694) (q_695) (q_696) (q_697) (q_698) (q_699) (q_700) (q_701) (q_702) (q_703) (w2) ((fun _ => 0)) ((fun _ => 0)) ((fun _ => 0)) ((fun _ => 0)) ((fun _ => 0)) H.size) (cwV 3 hts gL_law_X10_mark rfl rfl rfl (by decide +kernel) ⟨Nat.le_of_ble_eq_true rfl, Nat.le_of_ble_eq_true rfl⟩) ⟨cP_fb, va_recv hK hPc (ci := 9) (q0 := 0) rfl rfl, fun U hU hW => cP_pre hPc hK hDc hN U hU hW⟩ rfl rfl hl.1 rfl (lv_room (Nat.le_of_ble_eq_true rfl)) dL_law_289 ⟨Nat.le_of_ble_eq_true rfl, Nat.le_of_ble_eq_true rfl⟩) hS (fun q _ h => hFc q h) hFc (fun r_835 u t H1 locs ht hvm hw hB hz1 hk1 hS => ?_)
  obtain ⟨hP1, hD1⟩ := hB
  rw [ht] at hP1
  obtain ⟨hP, hD⟩ := va_join (wr := [(q_713, .inr (10, fs_714)), (q_716, .inl (cI, 16, .inl f_717)), (q_730, .inl (cZ, 42, .inl (fun _ => 0))), (q_729, .inl (cI, 42, .inl (fun _ => 0))), (q_731, .inl (cI, 25, .inl (fun _ => 0)))]) (w1 := []) hP hD [0, 1, 2, 3, 4, 5, 6, 7, 8, 9] [10, 11, 12, 13, 14] rfl rfl (by decide) (by decide) hk1 hFc hP1 hD1
  generalize H1 = H at hP hS ⊢
  have hP : va_P (dC, dI) vwCl [(q_713, .inr (10, fs_714)), (q_716, .inl (cI, 16, .inl f_717)), (q_730, .inl (cZ, 42, .inl (fun _ => 0))), (q_729, .inl (cI, 42, .inl (fun _ => 0))), (q_731, .inl (cI, 25, .inl (fun _ => 0)))] H := hP
  have hD : va_D (fun q : Nat => s.heap.size ≤ q) [(q_713, .inr (10, fs_714)), (q_716, .inl (cI, 16, .inl f_717)), (q_730, .inl (cZ, 42, .inl (fun _ => 0))), (q_729, .inl (cI, 42, .inl (fun _ => 0))), (q_731, .inl (cI, 25, .inl (fun _ => 0)))] := hD
  obtain rfl : r_835 = 0 := hw
  refine lv_aload_n hx hb dL_law_292 rfl (lv_at hl 1 rfl) ?_
  refine lv_aload_n hx hb dL_law_293 rfl (lv_at hl 3 rfl) ?_
  refine lv_iload_n hx hb dL_law_294 rfl (lv_at hl 0 rfl) ?_
  refine lv_iconst (v := 1) hx hb dL_law_295 (by decide) ?_
  refine lv_iadd hx hb dL_law_296 ?_
  refine lv_topi (fun y_836 ey_836 => ?_)
  obtain rfl : y_836 = 1 := ey_836.trans (by decide)
  refine va_sld hx hb hX hbl hbA hS (by unfold vp_in; decide) dL_law_297 ?_
  refine lv_topi (fun y_837 ey_837 => ?_)
  obtain rfl : y_837 = 2 := ey_837.trans ((congrArg xs (by decide : (1 : Int32).toNatClampNeg = 1)).trans ew1.symm)
  refine lv_aload_n hx hb dL_law_298 rfl (lv_at hl 3 rfl) ?_
  refine lv_iload_n hx hb dL_law_299 rfl (lv_at hl 0 rfl) ?_
  refine lv_iconst (v := 2) hx hb dL_law_300 (by decide) ?_
  refine lv_iadd hx hb dL_law_301 ?_
  refine lv_topi (fun y_838 ey_838 => ?_)
  obtain rfl : y_838 = 2 := ey_838.trans (by decide)
  refine va_sld hx hb hX hbl hbA hS (by unfold vp_in; decide) dL_law_302 ?_
  refine lv_topi (fun y_839 ey_839 => ?_)
  obtain rfl : y_839 = w2 := ey_839.trans ((congrArg xs (by decide : (2 : Int32).toNatClampNeg = 2)).trans ew2.symm)
  refine lv_aload_n hx hb dL_law_303 rfl (lv_at hl 3 rfl) ?_
  refine lv_iload_n hx hb dL_law_304 rfl (lv_at hl 0 rfl) ?_
  refine lv_iconst (v := 3) hx hb dL_law_305 (by decide) ?_
  refine lv_iadd hx hb dL_law_306 ?_
  refine lv_topi (fun y_840 ey_840 => ?_)
  obtain rfl : y_840 = 3 := ey_840.trans (by decide)
  refine va_sld hx hb hX hbl hbA hS (by unfold vp_in; decide) dL_law_307 ?_
  refine lv_topi (fun y_841 ey_841 => ?_)
  obtain rfl : y_841 = 0 := ey_841.trans ((congrArg xs (by decide : (3 : Int32).toNatClampNeg = 3)).trans ew3.symm)
  have hPc := hP.sub (ws' := [(q_713, .inr (10, fs_714)), (q_716, .inl (cI, 16, .inl f_717)), (q_730, .inl (cZ, 42, .inl (fun _ => 0))), (q_729, .inl (cI, 42, .inl (fun _ => 0))), (q_731, .inl (cI, 25, .inl (fun _ => 0)))]) [0, 1, 2, 3, 4] rfl
  have hDc := hD.sub (ws' := [(q_713, .inr (10, fs_714)), (q_716, .inl (cI, 16, .inl f_717)), (q_730, .inl (cZ, 42, .inl (fun _ => 0))), (q_729, .inl (cI, 42, .inl (fun _ => 0))), (q_731, .inl (cI, 25, .inl (fun _ => 0)))]) [0, 1, 2, 3, 4] (by decide) rfl
  have hFc := va_free (wc := [(q_713, .inr (10, fs_714)), (q_716, .inl (cI, 16, .inl f_717)), (q_730, .inl (cZ, 42, .inl (fun _ => 0))), (q_729, .inl (cI, 42, .inl (fun _ => 0))), (q_731, .inl (cI, 25, .inl (fun _ => 0)))]) hD hS hA [0, 1, 2, 3, 4] rfl
  refine va_calli (va_runV (As := [.int 2, .int w2, .int 0]) (rest := [.int 0]) ⟨hx, hb, hml, hown, hts⟩ (m_mark0 l dC dI cI cB cL cZ (q_713) (q_716) (q_730) (q_729) (q_731) (w2) (fs_714) (f_717) ((fun _ => 0)) ((fun _ => 0)) ((fun _ => 0)) H.size hf_734 hf_736 hf_749 hf_748 hf_750 hf_755 hf_756 (hf_759)) (cwV 3 hts gL_law_X11_mark rfl rfl rfl (by decide +kernel) ⟨Nat.le_of_ble_eq_true rfl, Nat.le_of_ble_eq_true rfl⟩) ⟨cP_fb, va_recv hK hPc (ci := 10) (q0 := 0) rfl rfl, fun U hU hW => cP_pre hPc hK hDc hN U hU hW⟩ rfl rfl hl.1 rfl (lv_room (Nat.le_of_ble_eq_true rfl)) dL_law_308 ⟨Nat.le_of_ble_eq_true rfl, Nat.le_of_ble_eq_true rfl⟩) hS (fun q _ h => hFc q h) hFc (fun r_842 u t H1 locs ht hvm hw hB hz1 hk1 hS => ?_)
  obtain ⟨hP1, hD1⟩ := hB
  rw [ht] at hP1
  obtain ⟨hP, hD⟩ := va_join (wr := []) (w1 := []) hP hD [0, 1, 2, 3, 4] [] rfl rfl (by decide) (by decide) hk1 hFc hP1 hD1
  generalize H1 = H at hP hS ⊢
  have hP : va_P (dC, dI) vwCl [] H := hP
  have hD : va_D (fun q : Nat => s.heap.size ≤ q) [] := hD
  obtain rfl : r_842 = 0 := hw
  refine lv_icmp_eq (tgt := 553) hx hb dL_law_311 (by decide) (fun _ => ?_) (fun c9 => absurd (by decide) c9)
  refine lv_iinc (v := 6) (lv' := [(3, .int 6), (2, .ref q_713), (1, .ref q_663), (0, .ref b)]) hx hb dL_law_553 hl (k := 0) rfl (by decide) (by decide) rfl (fun ls hl => ?_)
  refine lv_goto (tgt := 18) hx hb dL_law_556 (by decide) ?_
  refine lv_iload_n hx hb dL_law_18 rfl (lv_at hl 0 rfl) ?_
  refine lv_aload_n hx hb dL_law_19 rfl (lv_at hl 3 rfl) ?_
  refine va_slen hx hb hX hbl hbA hS dL_law_20 ?_
  refine lv_topi (fun y_843 ey_843 => ?_)
  obtain rfl : y_843 = 6 := ey_843.trans (by decide)
  refine lv_bipush (v := 6) hx hb dL_law_21 (by decide) ?_
  refine lv_isub hx hb dL_law_23 ?_
  refine lv_topi (fun y_844 ey_844 => ?_)
  obtain rfl : y_844 = 0 := ey_844.trans (by decide)
  refine lv_icmp_gt (tgt := 559) hx hb dL_law_24 (by decide) (fun _ => ?_) (fun c9 => absurd (by decide) c9)
  refine lv_iconst (v := 1) hx hb dL_law_559 (by decide) ?_
  refine va_forget (fun q hq => hS.2.2 q hq) ?_
  exact lw_ret hx hb hr hlocks dL_law_560

set_option maxHeartbeats 4000000 in
set_option maxRecDepth 100000 in
theorem lw_mark1 {p : Program} {l : Launch} {e : Env} {s : State} {m : MethodId} {below : List Frame} {meth : Method} {c : Code} {dC : Nat → ClassId} {dI : Nat → Nat → Nat} {cI cB cL cZ : ClassId} {b : Nat} {xs : Nat → Int32} (hx : p.tables.exec = Jvm.exec) (hb : c.code = cL_law) (hr : meth.sig.returnType = ret) (hml : c.maxLocals = 4) (hown : s.vm.findClass RL = some m.cls) (hts : ∀ w ∈ wsL_law, w.before #[Value.ref b] s = true) (hX : va_X b 6 xs s s.heap) (hbl : b < s.heap.size) (hlocks : meth.locks = false) (hK : va_K (dC, dI) vwCl (kTy cI cB cL cZ) s) (hN : nN s) {q_663 : Nat} {q_664 : Nat} {q_665 : Nat} {q_666 : Nat} {q_667 : Nat} {q_668 : Nat} {q_669 : Nat} {q_670 : Nat} {q_671 : Nat} {q_672 : Nat} {q_673 : Nat} {q_699 : Nat} {q_700 : Nat} {q_701 : Nat} {q_702 : Nat} {q_703 : Nat} {q_687 : Nat} {q_689 : Nat} {q_688 : Nat} {q_690 : Nat} {q_691 : Nat} {q_692 : Nat} {q_693 : Nat} {q_694 : Nat} {q_695 : Nat} {q_696 : Nat} {q_697 : Nat} {q_698 : Nat} {q_713 : Nat} {fs_714 : List Value} {q_716 : Nat} {f_717 : Nat → Int32} {q_730 : Nat} {q_729 : Nat} {q_731 : Nat} (ew1 : (2 : Int32) = xs 1) {w2 : Int32} (ew2 : w2 = xs 2) (ew3 : (1 : Int32) = xs 3) {w4 : Int32} (ew4 : w4 = xs 4) {w5 : Int32} (ew5 : w5 = xs 5) {H : Heap} {locs : List Loc} (hP : va_P (dC, dI) vwCl [(q_663, .inr (9, [.ref q_664, .int 0, .ref q_665, .ref q_666, .ref q_667, .int 0, .int (-1), .ref q_668, .ref q_669, .ref q_670, .ref q_671, .ref q_672, .ref q_673])), (q_669, .inr (1, [.ref q_668, .ref q_699, .ref q_700, .ref q_701, .ref q_702, .ref q_703, .ref q_687, .ref q_689, .int 1, .int 0, .int 0, .int 0, .long 0, .long 0])), (q_668, .inr (6, [.ref q_687, .int (-1), .ref q_688])), (q_687, .inr (3, [.ref q_689, .ref q_690, .ref q_691, .ref q_692, .ref q_693, .ref q_694, .ref q_695, .ref q_696, .ref q_697, .int 0, .int 0, .int 0, .int 0, .int (-1)])), (q_689, .inr (0, [.ref q_698, .int 0])), (q_699, .inl (cL, 304, .inr (.inl (fun _ => 0)))), (q_700, .inl (cI, 304, .inl (fun _ => 0))), (q_701, .inl (cI, 42, .inl (fun _ => 0))), (q_702, .inl (cI, 40, .inl (fun _ => 0))), (q_703, .inl (cI, 24, .inl (fun _ => 0))), (q_713, .inr (10, fs_714)), (q_716, .inl (cI, 16, .inl f_717)), (q_730, .inl (cZ, 42, .inl (fun _ => 0))), (q_729, .inl (cI, 42, .inl (fun _ => 0))), (q_731, .inl (cI, 25, .inl (fun _ => 0)))] H) (hD : va_D (fun q : Nat => s.heap.size ≤ q) [(q_663, .inr (9, [.ref q_664, .int 0, .ref q_665, .ref q_666, .ref q_667, .int 0, .int (-1), .ref q_668, .ref q_669, .ref q_670, .ref q_671, .ref q_672, .ref q_673])), (q_669, .inr (1, [.ref q_668, .ref q_699, .ref q_700, .ref q_701, .ref q_702, .ref q_703, .ref q_687, .ref q_689, .int 1, .int 0, .int 0, .int 0, .long 0, .long 0])), (q_668, .inr (6, [.ref q_687, .int (-1), .ref q_688])), (q_687, .inr (3, [.ref q_689, .ref q_690, .ref q_691, .ref q_692, .ref q_693, .ref q_694, .ref q_695, .ref q_696, .ref q_697, .int 0, .int 0, .int 0, .int 0, .int (-1)])), (q_689, .inr (0, [.ref q_698, .int 0])), (q_699, .inl (cL, 304, .inr (.inl (fun _ => 0)))), (q_700, .inl (cI, 304, .inl (fun _ => 0))), (q_701, .inl (cI, 42, .inl (fun _ => 0))), (q_702, .inl (cI, 40, .inl (fun _ => 0))), (q_703, .inl (cI, 24, .inl (fun _ => 0))), (q_713, .inr (10, fs_714)), (q_716, .inl (cI, 16, .inl f_717)), (q_730, .inl (cZ, 42, .inl (fun _ => 0))), (q_729, .inl (cI, 42, .inl (fun _ => 0))), (q_731, .inl (cI, 25, .inl (fun _ => 0)))]) (hS : va_S (fun q : Nat => s.heap.size ≤ q) s.heap H locs) {ls : Array Slot} (hl : lv_has ls 4 [(3, .int 0), (2, .ref q_713), (1, .ref q_663), (0, .ref b)]) (hf_734 : fs_714.length = 68) (hf_736 : fs_714[19]? = some (.ref q_716)) (hf_749 : fs_714[43]? = some (.ref q_730)) (hf_748 : fs_714[42]? = some (.ref q_729)) (hf_750 : fs_714[44]? = some (.ref q_731)) (hf_755 : fs_714[18]? = some (.int 0)) (hf_756 : fs_714[39]? = some (.int (-1))) (hf_759 : ∀ j, j < 16 → f_717 j = -1) : W p l e room_1 s m #[Value.ref b] below meth c H locs 84 30598 (lw_Z below #[Value.ref b] s) (F0 m 273 ls []) := by
  have hA : ∀ q : Nat, s.heap.size ≤ q → (fun q : Nat => s.heap.size ≤ q) q := fun _ h => h
  have hbA : ¬ (fun q : Nat => s.heap.size ≤ q) b := Nat.not_le.mpr hbl
  refine lv_aload_n hx hb dL_law_273 rfl (lv_at hl 2 rfl) ?_
  refine lv_aload_n hx hb dL_law_274 rfl (lv_at hl 3 rfl) ?_
  refine lv_iload_n hx hb dL_law_275 rfl (lv_at hl 0 rfl) ?_
  refine lv_iconst (v := 1) hx hb dL_law_276 (by decide) ?_
  refine lv_iadd hx hb dL_law_277 ?_
  refine lv_topi (fun y_845 ey_845 => ?_)
  obtain rfl : y_845 = 1 := ey_845.trans (by decide)
  refine va_sld hx hb hX hbl hbA hS (by unfold vp_in; decide) dL_law_278 ?_
  refine lv_topi (fun y_846 ey_846 => ?_)
  obtain rfl : y_846 = 2 := ey_846.trans ((congrArg xs (by decide : (1 : Int32).toNatClampNeg = 1)).trans ew1.symm)
  refine lv_aload_n hx hb dL_law_279 rfl (lv_at hl 3 rfl) ?_
  refine lv_iload_n hx hb dL_law_280 rfl (lv_at hl 0 rfl) ?_
  refine lv_iconst (v := 2) hx hb dL_law_281 (by decide) ?_
  refine lv_iadd hx hb dL_law_282 ?_
  refine lv_topi (fun y_847 ey_847 => ?_)
  obtain rfl : y_847 = 2 := ey_847.trans (by decide)
  refine va_sld hx hb hX hbl hbA hS (by unfold vp_in; decide) dL_law_283 ?_
  refine lv_topi (fun y_848 ey_848 => ?_)
  obtain rfl : y_848 = w2 := ey_848.trans ((congrArg xs (by decide : (2 : Int32).toNatClampNeg = 2)).trans ew2.symm)
  refine lv_aload_n hx hb dL_law_284 rfl (lv_at hl 3 rfl) ?_
  refine lv_iload_n hx hb dL_law_285 rfl (lv_at hl 0 rfl) ?_
  refine lv_iconst (v := 3) hx hb dL_law_286 (by decide) ?_
  refine lv_iadd hx hb dL_law_287 ?_
  refine lv_topi (fun y_849 ey_849 => ?_)
  obtain rfl : y_849 = 3 := ey_849.trans (by decide)
  refine va_sld hx hb hX hbl hbA hS (by unfold vp_in; decide) dL_law_288 ?_
  refine lv_topi (fun y_850 ey_850 => ?_)
  obtain rfl : y_850 = 1 := ey_850.trans ((congrArg xs (by decide : (3 : Int32).toNatClampNeg = 3)).trans ew3.symm)
  have hPc := hP.sub (ws' := [(q_663, .inr (9, [.ref q_664, .int 0, .ref q_665, .ref q_666, .ref q_667, .int 0, .int (-1), .ref q_668, .ref q_669, .ref q_670, .ref q_671, .ref q_672, .ref q_673])), (q_669, .inr (1, [.ref q_668, .ref q_699, .ref q_700, .ref q_701, .ref q_702, .ref q_703, .ref q_687, .ref q_689, .int 1, .int 0, .int 0, .int 0, .long 0, .long 0])), (q_668, .inr (6, [.ref q_687, .int (-1), .ref q_688])), (q_687, .inr (3, [.ref q_689, .ref q_690, .ref q_691, .ref q_692, .ref q_693, .ref q_694, .ref q_695, .ref q_696, .ref q_697, .int 0, .int 0, .int 0, .int 0, .int (-1)])), (q_689, .inr (0, [.ref q_698, .int 0])), (q_699, .inl (cL, 304, .inr (.inl (fun _ => 0)))), (q_700, .inl (cI, 304, .inl (fun _ => 0))), (q_701, .inl (cI, 42, .inl (fun _ => 0))), (q_702, .inl (cI, 40, .inl (fun _ => 0))), (q_703, .inl (cI, 24, .inl (fun _ => 0)))]) [0, 1, 2, 3, 4, 5, 6, 7, 8, 9] rfl
  have hDc := hD.sub (ws' := [(q_663, .inr (9, [.ref q_664, .int 0, .ref q_665, .ref q_666, .ref q_667, .int 0, .int (-1), .ref q_668, .ref q_669, .ref q_670, .ref q_671, .ref q_672, .ref q_673])), (q_669, .inr (1, [.ref q_668, .ref q_699, .ref q_700, .ref q_701, .ref q_702, .ref q_703, .ref q_687, .ref q_689, .int 1, .int 0, .int 0, .int 0, .long 0, .long 0])), (q_668, .inr (6, [.ref q_687, .int (-1), .ref q_688])), (q_687, .inr (3, [.ref q_689, .ref q_690, .ref q_691, .ref q_692, .ref q_693, .ref q_694, .ref q_695, .ref q_696, .ref q_697, .int 0, .int 0, .int 0, .int 0, .int (-1)])), (q_689, .inr (0, [.ref q_698, .int 0])), (q_699, .inl (cL, 304, .inr (.inl (fun _ => 0)))), (q_700, .inl (cI, 304, .inl (fun _ => 0))), (q_701, .inl (cI, 42, .inl (fun _ => 0))), (q_702, .inl (cI, 40, .inl (fun _ => 0))), (q_703, .inl (cI, 24, .inl (fun _ => 0)))]) [0, 1, 2, 3, 4, 5, 6, 7, 8, 9] (by decide) rfl
  have hFc := va_free (wc := [(q_663, .inr (9, [.ref q_664, .int 0, .ref q_665, .ref q_666, .ref q_667, .int 0, .int (-1), .ref q_668, .ref q_669, .ref q_670, .ref q_671, .ref q_672, .ref q_673])), (q_669, .inr (1, [.ref q_668, .ref q_699, .ref q_700, .ref q_701, .ref q_702, .ref q_703, .ref q_687, .ref q_689, .int 1, .int 0, .int 0, .int 0, .long 0, .long 0])), (q_668, .inr (6, [.ref q_687, .int (-1), .ref q_688])), (q_687, .inr (3, [.ref q_689, .ref q_690, .ref q_691, .ref q_692, .ref q_693, .ref q_694, .ref q_695, .ref q_696, .ref q_697, .int 0, .int 0, .int 0, .int 0, .int (-1)])), (q_689, .inr (0, [.ref q_698, .int 0])), (q_699, .inl (cL, 304, .inr (.inl (fun _ => 0)))), (q_700, .inl (cI, 304, .inl (fun _ => 0))), (q_701, .inl (cI, 42, .inl (fun _ => 0))), (q_702, .inl (cI, 40, .inl (fun _ => 0))), (q_703, .inl (cI, 24, .inl (fun _ => 0)))]) hD hS hA [0, 1, 2, 3, 4, 5, 6, 7, 8, 9] rfl
  refine va_calli (va_runV (As := [.int 2, .int w2, .int 1]) (rest := []) ⟨hx, hb, hml, hown, hts⟩ (c_mark1 l dC dI cI cB cL cZ (q_663) (q_664) (q_665) (q_666) (q_667) (q_668) (q_669) (q_670) (q_671) (q_672) (q_673) (q_687) (q_688) (q_689) (q_690) (q_691) (q_692) (q_693) (q_694) (q_695) (q_696) (q_697) (q_698) (q_699) (q_700) (q_701) (q_702) (q_703) (w2) ((fun _ => 0)) ((fun _ => 0)) ((fun _ => 0)) ((fun _ => 0)) ((fun _ => 0)) H.size) (cwV 3 hts gL_law_X10_mark rfl rfl rfl (by decide +kernel) ⟨Nat.le_of_ble_eq_true rfl, Nat.le_of_ble_eq_true rfl⟩) ⟨cP_fb, va_recv hK hPc (ci := 9) (q0 := 0) rfl rfl, fun U hU hW => cP_pre hPc hK hDc hN U hU hW⟩ rfl rfl hl.1 rfl (lv_room (Nat.le_of_ble_eq_true rfl)) dL_law_289 ⟨Nat.le_of_ble_eq_true rfl, Nat.le_of_ble_eq_true rfl⟩) hS (fun q _ h => hFc q h) hFc (fun r_851 u t H1 locs ht hvm hw hB hz1 hk1 hS => ?_)
  obtain ⟨hP1, hD1⟩ := hB
  rw [ht] at hP1
  obtain ⟨hP, hD⟩ := va_join (wr := [(q_713, .inr (10, fs_714)), (q_716, .inl (cI, 16, .inl f_717)), (q_730, .inl (cZ, 42, .inl (fun _ => 0))), (q_729, .inl (cI, 42, .inl (fun _ => 0))), (q_731, .inl (cI, 25, .inl (fun _ => 0)))]) (w1 := []) hP hD [0, 1, 2, 3, 4, 5, 6, 7, 8, 9] [10, 11, 12, 13, 14] rfl rfl (by decide) (by decide) hk1 hFc hP1 hD1
  generalize H1 = H at hP hS ⊢
  have hP : va_P (dC, dI) vwCl [(q_713, .inr (10, fs_714)), (q_716, .inl (cI, 16, .inl f_717)), (q_730, .inl (cZ, 42, .inl (fun _ => 0))), (q_729, .inl (cI, 42, .inl (fun _ => 0))), (q_731, .inl (cI, 25, .inl (fun _ => 0)))] H := hP
  have hD : va_D (fun q : Nat => s.heap.size ≤ q) [(q_713, .inr (10, fs_714)), (q_716, .inl (cI, 16, .inl f_717)), (q_730, .inl (cZ, 42, .inl (fun _ => 0))), (q_729, .inl (cI, 42, .inl (fun _ => 0))), (q_731, .inl (cI, 25, .inl (fun _ => 0)))] := hD
  obtain rfl : r_851 = 0 := hw
  refine lv_aload_n hx hb dL_law_292 rfl (lv_at hl 1 rfl) ?_
  refine lv_aload_n hx hb dL_law_293 rfl (lv_at hl 3 rfl) ?_
  refine lv_iload_n hx hb dL_law_294 rfl (lv_at hl 0 rfl) ?_
  refine lv_iconst (v := 1) hx hb dL_law_295 (by decide) ?_
  refine lv_iadd hx hb dL_law_296 ?_
  refine lv_topi (fun y_852 ey_852 => ?_)
  obtain rfl : y_852 = 1 := ey_852.trans (by decide)
  refine va_sld hx hb hX hbl hbA hS (by unfold vp_in; decide) dL_law_297 ?_
  refine lv_topi (fun y_853 ey_853 => ?_)
  obtain rfl : y_853 = 2 := ey_853.trans ((congrArg xs (by decide : (1 : Int32).toNatClampNeg = 1)).trans ew1.symm)
  refine lv_aload_n hx hb dL_law_298 rfl (lv_at hl 3 rfl) ?_
  refine lv_iload_n hx hb dL_law_299 rfl (lv_at hl 0 rfl) ?_
  refine lv_iconst (v := 2) hx hb dL_law_300 (by decide) ?_
  refine lv_iadd hx hb dL_law_301 ?_
  refine lv_topi (fun y_854 ey_854 => ?_)
  obtain rfl : y_854 = 2 := ey_854.trans (by decide)
  refine va_sld hx hb hX hbl hbA hS (by unfold vp_in; decide) dL_law_302 ?_
  refine lv_topi (fun y_855 ey_855 => ?_)
  obtain rfl : y_855 = w2 := ey_855.trans ((congrArg xs (by decide : (2 : Int32).toNatClampNeg = 2)).trans ew2.symm)
  refine lv_aload_n hx hb dL_law_303 rfl (lv_at hl 3 rfl) ?_
  refine lv_iload_n hx hb dL_law_304 rfl (lv_at hl 0 rfl) ?_
  refine lv_iconst (v := 3) hx hb dL_law_305 (by decide) ?_
  refine lv_iadd hx hb dL_law_306 ?_
  refine lv_topi (fun y_856 ey_856 => ?_)
  obtain rfl : y_856 = 3 := ey_856.trans (by decide)
  refine va_sld hx hb hX hbl hbA hS (by unfold vp_in; decide) dL_law_307 ?_
  refine lv_topi (fun y_857 ey_857 => ?_)
  obtain rfl : y_857 = 1 := ey_857.trans ((congrArg xs (by decide : (3 : Int32).toNatClampNeg = 3)).trans ew3.symm)
  have hPc := hP.sub (ws' := [(q_713, .inr (10, fs_714)), (q_716, .inl (cI, 16, .inl f_717)), (q_730, .inl (cZ, 42, .inl (fun _ => 0))), (q_729, .inl (cI, 42, .inl (fun _ => 0))), (q_731, .inl (cI, 25, .inl (fun _ => 0)))]) [0, 1, 2, 3, 4] rfl
  have hDc := hD.sub (ws' := [(q_713, .inr (10, fs_714)), (q_716, .inl (cI, 16, .inl f_717)), (q_730, .inl (cZ, 42, .inl (fun _ => 0))), (q_729, .inl (cI, 42, .inl (fun _ => 0))), (q_731, .inl (cI, 25, .inl (fun _ => 0)))]) [0, 1, 2, 3, 4] (by decide) rfl
  have hFc := va_free (wc := [(q_713, .inr (10, fs_714)), (q_716, .inl (cI, 16, .inl f_717)), (q_730, .inl (cZ, 42, .inl (fun _ => 0))), (q_729, .inl (cI, 42, .inl (fun _ => 0))), (q_731, .inl (cI, 25, .inl (fun _ => 0)))]) hD hS hA [0, 1, 2, 3, 4] rfl
  refine va_calli (va_runV (As := [.int 2, .int w2, .int 1]) (rest := [.int 0]) ⟨hx, hb, hml, hown, hts⟩ (m_mark1 l dC dI cI cB cL cZ (q_713) (q_716) (q_730) (q_729) (q_731) (w2) (fs_714) (f_717) ((fun _ => 0)) ((fun _ => 0)) ((fun _ => 0)) H.size hf_734 hf_736 hf_749 hf_748 hf_750 hf_755 hf_756 (hf_759)) (cwV 3 hts gL_law_X11_mark rfl rfl rfl (by decide +kernel) ⟨Nat.le_of_ble_eq_true rfl, Nat.le_of_ble_eq_true rfl⟩) ⟨cP_fb, va_recv hK hPc (ci := 10) (q0 := 0) rfl rfl, fun U hU hW => cP_pre hPc hK hDc hN U hU hW⟩ rfl rfl hl.1 rfl (lv_room (Nat.le_of_ble_eq_true rfl)) dL_law_308 ⟨Nat.le_of_ble_eq_true rfl, Nat.le_of_ble_eq_true rfl⟩) hS (fun q _ h => hFc q h) hFc (fun r_858 u t H1 locs ht hvm hw hB hz1 hk1 hS => ?_)
  obtain ⟨hP1, hD1⟩ := hB
  rw [ht] at hP1
  obtain ⟨hP, hD⟩ := va_join (wr := []) (w1 := []) hP hD [0, 1, 2, 3, 4] [] rfl rfl (by decide) (by decide) hk1 hFc hP1 hD1
  generalize H1 = H at hP hS ⊢
  have hP : va_P (dC, dI) vwCl [] H := hP
  have hD : va_D (fun q : Nat => s.heap.size ≤ q) [] := hD
  obtain rfl : r_858 = 0 := hw
  refine lv_icmp_eq (tgt := 553) hx hb dL_law_311 (by decide) (fun _ => ?_) (fun c9 => absurd (by decide) c9)
  refine lv_iinc (v := 6) (lv' := [(3, .int 6), (2, .ref q_713), (1, .ref q_663), (0, .ref b)]) hx hb dL_law_553 hl (k := 0) rfl (by decide) (by decide) rfl (fun ls hl => ?_)
  refine lv_goto (tgt := 18) hx hb dL_law_556 (by decide) ?_
  refine lv_iload_n hx hb dL_law_18 rfl (lv_at hl 0 rfl) ?_
  refine lv_aload_n hx hb dL_law_19 rfl (lv_at hl 3 rfl) ?_
  refine va_slen hx hb hX hbl hbA hS dL_law_20 ?_
  refine lv_topi (fun y_859 ey_859 => ?_)
  obtain rfl : y_859 = 6 := ey_859.trans (by decide)
  refine lv_bipush (v := 6) hx hb dL_law_21 (by decide) ?_
  refine lv_isub hx hb dL_law_23 ?_
  refine lv_topi (fun y_860 ey_860 => ?_)
  obtain rfl : y_860 = 0 := ey_860.trans (by decide)
  refine lv_icmp_gt (tgt := 559) hx hb dL_law_24 (by decide) (fun _ => ?_) (fun c9 => absurd (by decide) c9)
  refine lv_iconst (v := 1) hx hb dL_law_559 (by decide) ?_
  refine va_forget (fun q hq => hS.2.2 q hq) ?_
  exact lw_ret hx hb hr hlocks dL_law_560

set_option maxHeartbeats 4000000 in
set_option maxRecDepth 100000 in
theorem lw_markN {p : Program} {l : Launch} {e : Env} {s : State} {m : MethodId} {below : List Frame} {meth : Method} {c : Code} {dC : Nat → ClassId} {dI : Nat → Nat → Nat} {cI cB cL cZ : ClassId} {b : Nat} {xs : Nat → Int32} (hx : p.tables.exec = Jvm.exec) (hb : c.code = cL_law) (hr : meth.sig.returnType = ret) (hml : c.maxLocals = 4) (hown : s.vm.findClass RL = some m.cls) (hts : ∀ w ∈ wsL_law, w.before #[Value.ref b] s = true) (hX : va_X b 6 xs s s.heap) (hbl : b < s.heap.size) (hlocks : meth.locks = false) (hK : va_K (dC, dI) vwCl (kTy cI cB cL cZ) s) (hN : nN s) {q_663 : Nat} {q_664 : Nat} {q_665 : Nat} {q_666 : Nat} {q_667 : Nat} {q_668 : Nat} {q_669 : Nat} {q_670 : Nat} {q_671 : Nat} {q_672 : Nat} {q_673 : Nat} {q_687 : Nat} {q_688 : Nat} {q_689 : Nat} {q_690 : Nat} {q_691 : Nat} {q_692 : Nat} {q_693 : Nat} {q_694 : Nat} {q_695 : Nat} {q_696 : Nat} {q_697 : Nat} {q_713 : Nat} {fs_714 : List Value} {q_716 : Nat} {f_717 : Nat → Int32} {w1 : Int32} (ew1 : w1 = xs 1) {w2 : Int32} (ew2 : w2 = xs 2) {w3 : Int32} (ew3 : w3 = xs 3) {w4 : Int32} (ew4 : w4 = xs 4) {w5 : Int32} (ew5 : w5 = xs 5) {H : Heap} {locs : List Loc} (hP : va_P (dC, dI) vwCl [(q_663, .inr (9, [.ref q_664, .int 0, .ref q_665, .ref q_666, .ref q_667, .int 0, .int (-1), .ref q_668, .ref q_669, .ref q_670, .ref q_671, .ref q_672, .ref q_673])), (q_668, .inr (6, [.ref q_687, .int (-1), .ref q_688])), (q_687, .inr (3, [.ref q_689, .ref q_690, .ref q_691, .ref q_692, .ref q_693, .ref q_694, .ref q_695, .ref q_696, .ref q_697, .int 0, .int 0, .int 0, .int 0, .int (-1)])), (q_713, .inr (10, fs_714)), (q_716, .inl (cI, 16, .inl f_717))] H) (hD : va_D (fun q : Nat => s.heap.size ≤ q) [(q_663, .inr (9, [.ref q_664, .int 0, .ref q_665, .ref q_666, .ref q_667, .int 0, .int (-1), .ref q_668, .ref q_669, .ref q_670, .ref q_671, .ref q_672, .ref q_673])), (q_668, .inr (6, [.ref q_687, .int (-1), .ref q_688])), (q_687, .inr (3, [.ref q_689, .ref q_690, .ref q_691, .ref q_692, .ref q_693, .ref q_694, .ref q_695, .ref q_696, .ref q_697, .int 0, .int 0, .int 0, .int 0, .int (-1)])), (q_713, .inr (10, fs_714)), (q_716, .inl (cI, 16, .inl f_717))]) (hS : va_S (fun q : Nat => s.heap.size ≤ q) s.heap H locs) {ls : Array Slot} (hl : lv_has ls 4 [(3, .int 0), (2, .ref q_713), (1, .ref q_663), (0, .ref b)]) (hf_734 : fs_714.length = 68) (hf_736 : fs_714[19]? = some (.ref q_716)) (hf_759 : ∀ j, j < 16 → f_717 j = -1) (hn9 : ¬ (w1 = 2 ∧ (w3 = 0 ∨ w3 = 1))) : W p l e room_1 s m #[Value.ref b] below meth c H locs 84 30598 (lw_Z below #[Value.ref b] s) (F0 m 273 ls []) := by
  have hA : ∀ q : Nat, s.heap.size ≤ q → (fun q : Nat => s.heap.size ≤ q) q := fun _ h => h
  have hbA : ¬ (fun q : Nat => s.heap.size ≤ q) b := Nat.not_le.mpr hbl
  refine lv_aload_n hx hb dL_law_273 rfl (lv_at hl 2 rfl) ?_
  refine lv_aload_n hx hb dL_law_274 rfl (lv_at hl 3 rfl) ?_
  refine lv_iload_n hx hb dL_law_275 rfl (lv_at hl 0 rfl) ?_
  refine lv_iconst (v := 1) hx hb dL_law_276 (by decide) ?_
  refine lv_iadd hx hb dL_law_277 ?_
  refine lv_topi (fun y_861 ey_861 => ?_)
  obtain rfl : y_861 = 1 := ey_861.trans (by decide)
  refine va_sld hx hb hX hbl hbA hS (by unfold vp_in; decide) dL_law_278 ?_
  refine lv_topi (fun y_862 ey_862 => ?_)
  obtain rfl : y_862 = w1 := ey_862.trans ((congrArg xs (by decide : (1 : Int32).toNatClampNeg = 1)).trans ew1.symm)
  refine lv_aload_n hx hb dL_law_279 rfl (lv_at hl 3 rfl) ?_
  refine lv_iload_n hx hb dL_law_280 rfl (lv_at hl 0 rfl) ?_
  refine lv_iconst (v := 2) hx hb dL_law_281 (by decide) ?_
  refine lv_iadd hx hb dL_law_282 ?_
  refine lv_topi (fun y_863 ey_863 => ?_)
  obtain rfl : y_863 = 2 := ey_863.trans (by decide)
  refine va_sld hx hb hX hbl hbA hS (by unfold vp_in; decide) dL_law_283 ?_
  refine lv_topi (fun y_864 ey_864 => ?_)
  obtain rfl : y_864 = w2 := ey_864.trans ((congrArg xs (by decide : (2 : Int32).toNatClampNeg = 2)).trans ew2.symm)
  refine lv_aload_n hx hb dL_law_284 rfl (lv_at hl 3 rfl) ?_
  refine lv_iload_n hx hb dL_law_285 rfl (lv_at hl 0 rfl) ?_
  refine lv_iconst (v := 3) hx hb dL_law_286 (by decide) ?_
  refine lv_iadd hx hb dL_law_287 ?_
  refine lv_topi (fun y_865 ey_865 => ?_)
  obtain rfl : y_865 = 3 := ey_865.trans (by decide)
  refine va_sld hx hb hX hbl hbA hS (by unfold vp_in; decide) dL_law_288 ?_
  refine lv_topi (fun y_866 ey_866 => ?_)
  obtain rfl : y_866 = w3 := ey_866.trans ((congrArg xs (by decide : (3 : Int32).toNatClampNeg = 3)).trans ew3.symm)
  have hPc := hP.sub (ws' := [(q_663, .inr (9, [.ref q_664, .int 0, .ref q_665, .ref q_666, .ref q_667, .int 0, .int (-1), .ref q_668, .ref q_669, .ref q_670, .ref q_671, .ref q_672, .ref q_673])), (q_668, .inr (6, [.ref q_687, .int (-1), .ref q_688])), (q_687, .inr (3, [.ref q_689, .ref q_690, .ref q_691, .ref q_692, .ref q_693, .ref q_694, .ref q_695, .ref q_696, .ref q_697, .int 0, .int 0, .int 0, .int 0, .int (-1)]))]) [0, 1, 2] rfl
  have hDc := hD.sub (ws' := [(q_663, .inr (9, [.ref q_664, .int 0, .ref q_665, .ref q_666, .ref q_667, .int 0, .int (-1), .ref q_668, .ref q_669, .ref q_670, .ref q_671, .ref q_672, .ref q_673])), (q_668, .inr (6, [.ref q_687, .int (-1), .ref q_688])), (q_687, .inr (3, [.ref q_689, .ref q_690, .ref q_691, .ref q_692, .ref q_693, .ref q_694, .ref q_695, .ref q_696, .ref q_697, .int 0, .int 0, .int 0, .int 0, .int (-1)]))]) [0, 1, 2] (by decide) rfl
  have hFc := va_free (wc := [(q_663, .inr (9, [.ref q_664, .int 0, .ref q_665, .ref q_666, .ref q_667, .int 0, .int (-1), .ref q_668, .ref q_669, .ref q_670, .ref q_671, .ref q_672, .ref q_673])), (q_668, .inr (6, [.ref q_687, .int (-1), .ref q_688])), (q_687, .inr (3, [.ref q_689, .ref q_690, .ref q_691, .ref q_692, .ref q_693, .ref q_694, .ref q_695, .ref q_696, .ref q_697, .int 0, .int 0, .int 0, .int 0, .int (-1)]))]) hD hS hA [0, 1, 2] rfl
  refine va_calli (va_runV (As := [.int w1, .int w2, .int w3]) (rest := []) ⟨hx, hb, hml, hown, hts⟩ (c_markN l dC dI cI cB cL cZ (q_663) (q_664) (q_665) (q_666) (q_667) (q_668) (q_669) (q_670) (q_671) (q_672) (q_673) (q_687) (q_688) (q_689) (q_690) (q_691) (q_692) (q_693) (q_694) (q_695) (q_696) (q_697) (w1) (w2) (w3) H.size (hn9)) (cwV 3 hts gL_law_X10_mark rfl rfl rfl (by decide +kernel) ⟨Nat.le_of_ble_eq_true rfl, Nat.le_of_ble_eq_true rfl⟩) ⟨cP_fb, va_recv hK hPc (ci := 9) (q0 := 0) rfl rfl, fun U hU hW => cP_pre hPc hK hDc hN U hU hW⟩ rfl rfl hl.1 rfl (lv_room (Nat.le_of_ble_eq_true rfl)) dL_law_289 ⟨Nat.le_of_ble_eq_true rfl, Nat.le_of_ble_eq_true rfl⟩) hS (fun q _ h => hFc q h) hFc (fun r_867 u t H1 locs ht hvm hw hB hz1 hk1 hS => ?_)
  obtain ⟨hP1, hD1⟩ := hB
  rw [ht] at hP1
  obtain ⟨hP, hD⟩ := va_join (wr := [(q_713, .inr (10, fs_714)), (q_716, .inl (cI, 16, .inl f_717))]) (w1 := []) hP hD [0, 1, 2] [3, 4] rfl rfl (by decide) (by decide) hk1 hFc hP1 hD1
  generalize H1 = H at hP hS ⊢
  have hP : va_P (dC, dI) vwCl [(q_713, .inr (10, fs_714)), (q_716, .inl (cI, 16, .inl f_717))] H := hP
  have hD : va_D (fun q : Nat => s.heap.size ≤ q) [(q_713, .inr (10, fs_714)), (q_716, .inl (cI, 16, .inl f_717))] := hD
  obtain rfl : r_867 = (-1) := hw
  refine lv_aload_n hx hb dL_law_292 rfl (lv_at hl 1 rfl) ?_
  refine lv_aload_n hx hb dL_law_293 rfl (lv_at hl 3 rfl) ?_
  refine lv_iload_n hx hb dL_law_294 rfl (lv_at hl 0 rfl) ?_
  refine lv_iconst (v := 1) hx hb dL_law_295 (by decide) ?_
  refine lv_iadd hx hb dL_law_296 ?_
  refine lv_topi (fun y_868 ey_868 => ?_)
  obtain rfl : y_868 = 1 := ey_868.trans (by decide)
  refine va_sld hx hb hX hbl hbA hS (by unfold vp_in; decide) dL_law_297 ?_
  refine lv_topi (fun y_869 ey_869 => ?_)
  obtain rfl : y_869 = w1 := ey_869.trans ((congrArg xs (by decide : (1 : Int32).toNatClampNeg = 1)).trans ew1.symm)
  refine lv_aload_n hx hb dL_law_298 rfl (lv_at hl 3 rfl) ?_
  refine lv_iload_n hx hb dL_law_299 rfl (lv_at hl 0 rfl) ?_
  refine lv_iconst (v := 2) hx hb dL_law_300 (by decide) ?_
  refine lv_iadd hx hb dL_law_301 ?_
  refine lv_topi (fun y_870 ey_870 => ?_)
  obtain rfl : y_870 = 2 := ey_870.trans (by decide)
  refine va_sld hx hb hX hbl hbA hS (by unfold vp_in; decide) dL_law_302 ?_
  refine lv_topi (fun y_871 ey_871 => ?_)
  obtain rfl : y_871 = w2 := ey_871.trans ((congrArg xs (by decide : (2 : Int32).toNatClampNeg = 2)).trans ew2.symm)
  refine lv_aload_n hx hb dL_law_303 rfl (lv_at hl 3 rfl) ?_
  refine lv_iload_n hx hb dL_law_304 rfl (lv_at hl 0 rfl) ?_
  refine lv_iconst (v := 3) hx hb dL_law_305 (by decide) ?_
  refine lv_iadd hx hb dL_law_306 ?_
  refine lv_topi (fun y_872 ey_872 => ?_)
  obtain rfl : y_872 = 3 := ey_872.trans (by decide)
  refine va_sld hx hb hX hbl hbA hS (by unfold vp_in; decide) dL_law_307 ?_
  refine lv_topi (fun y_873 ey_873 => ?_)
  obtain rfl : y_873 = w3 := ey_873.trans ((congrArg xs (by decide : (3 : Int32).toNatClampNeg = 3)).trans ew3.symm)
  have hPc := hP.sub (ws' := [(q_713, .inr (10, fs_714)), (q_716, .inl (cI, 16, .inl f_717))]) [0, 1] rfl
  have hDc := hD.sub (ws' := [(q_713, .inr (10, fs_714)), (q_716, .inl (cI, 16, .inl f_717))]) [0, 1] (by decide) rfl
  have hFc := va_free (wc := [(q_713, .inr (10, fs_714)), (q_716, .inl (cI, 16, .inl f_717))]) hD hS hA [0, 1] rfl
  refine va_calli (va_runV (As := [.int w1, .int w2, .int w3]) (rest := [.int (-1)]) ⟨hx, hb, hml, hown, hts⟩ (m_markN l dC dI cI cB cL cZ (q_713) (q_716) (w1) (w2) (w3) (fs_714) (f_717) H.size hf_734 hf_736 (hf_759) (hn9)) (cwV 3 hts gL_law_X11_mark rfl rfl rfl (by decide +kernel) ⟨Nat.le_of_ble_eq_true rfl, Nat.le_of_ble_eq_true rfl⟩) ⟨cP_fb, va_recv hK hPc (ci := 10) (q0 := 0) rfl rfl, fun U hU hW => cP_pre hPc hK hDc hN U hU hW⟩ rfl rfl hl.1 rfl (lv_room (Nat.le_of_ble_eq_true rfl)) dL_law_308 ⟨Nat.le_of_ble_eq_true rfl, Nat.le_of_ble_eq_true rfl⟩) hS (fun q _ h => hFc q h) hFc (fun r_874 u t H1 locs ht hvm hw hB hz1 hk1 hS => ?_)
  obtain ⟨hP1, hD1⟩ := hB
  rw [ht] at hP1
  obtain ⟨hP, hD⟩ := va_join (wr := []) (w1 := []) hP hD [0, 1] [] rfl rfl (by decide) (by decide) hk1 hFc hP1 hD1
  generalize H1 = H at hP hS ⊢
  have hP : va_P (dC, dI) vwCl [] H := hP
  have hD : va_D (fun q : Nat => s.heap.size ≤ q) [] := hD
  obtain rfl : r_874 = (-1) := hw
  refine lv_icmp_eq (tgt := 553) hx hb dL_law_311 (by decide) (fun _ => ?_) (fun c9 => absurd (by decide) c9)
  refine lv_iinc (v := 6) (lv' := [(3, .int 6), (2, .ref q_713), (1, .ref q_663), (0, .ref b)]) hx hb dL_law_553 hl (k := 0) rfl (by decide) (by decide) rfl (fun ls hl => ?_)
  refine lv_goto (tgt := 18) hx hb dL_law_556 (by decide) ?_
  refine lv_iload_n hx hb dL_law_18 rfl (lv_at hl 0 rfl) ?_
  refine lv_aload_n hx hb dL_law_19 rfl (lv_at hl 3 rfl) ?_
  refine va_slen hx hb hX hbl hbA hS dL_law_20 ?_
  refine lv_topi (fun y_875 ey_875 => ?_)
  obtain rfl : y_875 = 6 := ey_875.trans (by decide)
  refine lv_bipush (v := 6) hx hb dL_law_21 (by decide) ?_
  refine lv_isub hx hb dL_law_23 ?_
  refine lv_topi (fun y_876 ey_876 => ?_)
  obtain rfl : y_876 = 0 := ey_876.trans (by decide)
  refine lv_icmp_gt (tgt := 559) hx hb dL_law_24 (by decide) (fun _ => ?_) (fun c9 => absurd (by decide) c9)
  refine lv_iconst (v := 1) hx hb dL_law_559 (by decide) ?_
  refine va_forget (fun q hq => hS.2.2 q hq) ?_
  exact lw_ret hx hb hr hlocks dL_law_560

set_option maxHeartbeats 4000000 in
set_option maxRecDepth 100000 in
theorem lw_use {p : Program} {l : Launch} {e : Env} {s : State} {m : MethodId} {below : List Frame} {meth : Method} {c : Code} {dC : Nat → ClassId} {dI : Nat → Nat → Nat} {cI cB cL cZ : ClassId} {b : Nat} {xs : Nat → Int32} (hx : p.tables.exec = Jvm.exec) (hb : c.code = cL_law) (hr : meth.sig.returnType = ret) (hml : c.maxLocals = 4) (hown : s.vm.findClass RL = some m.cls) (hts : ∀ w ∈ wsL_law, w.before #[Value.ref b] s = true) (hX : va_X b 6 xs s s.heap) (hbl : b < s.heap.size) (hlocks : meth.locks = false) (hK : va_K (dC, dI) vwCl (kTy cI cB cL cZ) s) (hN : nN s) {q_663 : Nat} {q_664 : Nat} {q_665 : Nat} {q_666 : Nat} {q_667 : Nat} {q_668 : Nat} {q_669 : Nat} {q_670 : Nat} {q_671 : Nat} {q_672 : Nat} {q_673 : Nat} {q_687 : Nat} {q_688 : Nat} {q_689 : Nat} {q_690 : Nat} {q_691 : Nat} {q_692 : Nat} {q_693 : Nat} {q_694 : Nat} {q_695 : Nat} {q_696 : Nat} {q_697 : Nat} {q_713 : Nat} {fs_714 : List Value} {q_724 : Nat} {w1 : Int32} (ew1 : w1 = xs 1) {w2 : Int32} (ew2 : w2 = xs 2) {w3 : Int32} (ew3 : w3 = xs 3) {w4 : Int32} (ew4 : w4 = xs 4) {w5 : Int32} (ew5 : w5 = xs 5) {H : Heap} {locs : List Loc} (hP : va_P (dC, dI) vwCl [(q_663, .inr (9, [.ref q_664, .int 0, .ref q_665, .ref q_666, .ref q_667, .int 0, .int (-1), .ref q_668, .ref q_669, .ref q_670, .ref q_671, .ref q_672, .ref q_673])), (q_668, .inr (6, [.ref q_687, .int (-1), .ref q_688])), (q_687, .inr (3, [.ref q_689, .ref q_690, .ref q_691, .ref q_692, .ref q_693, .ref q_694, .ref q_695, .ref q_696, .ref q_697, .int 0, .int 0, .int 0, .int 0, .int (-1)])), (q_713, .inr (10, fs_714)), (q_724, .inl (cI, 2, .inl (fun _ => 0)))] H) (hD : va_D (fun q : Nat => s.heap.size ≤ q) [(q_663, .inr (9, [.ref q_664, .int 0, .ref q_665, .ref q_666, .ref q_667, .int 0, .int (-1), .ref q_668, .ref q_669, .ref q_670, .ref q_671, .ref q_672, .ref q_673])), (q_668, .inr (6, [.ref q_687, .int (-1), .ref q_688])), (q_687, .inr (3, [.ref q_689, .ref q_690, .ref q_691, .ref q_692, .ref q_693, .ref q_694, .ref q_695, .ref q_696, .ref q_697, .int 0, .int 0, .int 0, .int 0, .int (-1)])), (q_713, .inr (10, fs_714)), (q_724, .inl (cI, 2, .inl (fun _ => 0)))]) (hS : va_S (fun q : Nat => s.heap.size ≤ q) s.heap H locs) {ls : Array Slot} (hl : lv_has ls 4 [(3, .int 0), (2, .ref q_713), (1, .ref q_663), (0, .ref b)]) (hf_734 : fs_714.length = 68) (hf_743 : fs_714[26]? = some (.ref q_724)) : W p l e room_1 s m #[Value.ref b] below meth c H locs 84 30598 (lw_Z below #[Value.ref b] s) (F0 m 316 ls []) := by
  have hA : ∀ q : Nat, s.heap.size ≤ q → (fun q : Nat => s.heap.size ≤ q) q := fun _ h => h
  have hbA : ¬ (fun q : Nat => s.heap.size ≤ q) b := Nat.not_le.mpr hbl
  refine lv_aload_n hx hb dL_law_316 rfl (lv_at hl 2 rfl) ?_
  refine lv_aload_n hx hb dL_law_317 rfl (lv_at hl 3 rfl) ?_
  refine lv_iload_n hx hb dL_law_318 rfl (lv_at hl 0 rfl) ?_
  refine lv_iconst (v := 1) hx hb dL_law_319 (by decide) ?_
  refine lv_iadd hx hb dL_law_320 ?_
  refine lv_topi (fun y_877 ey_877 => ?_)
  obtain rfl : y_877 = 1 := ey_877.trans (by decide)
  refine va_sld hx hb hX hbl hbA hS (by unfold vp_in; decide) dL_law_321 ?_
  refine lv_topi (fun y_878 ey_878 => ?_)
  obtain rfl : y_878 = w1 := ey_878.trans ((congrArg xs (by decide : (1 : Int32).toNatClampNeg = 1)).trans ew1.symm)
  refine lv_aload_n hx hb dL_law_322 rfl (lv_at hl 3 rfl) ?_
  refine lv_iload_n hx hb dL_law_323 rfl (lv_at hl 0 rfl) ?_
  refine lv_iconst (v := 2) hx hb dL_law_324 (by decide) ?_
  refine lv_iadd hx hb dL_law_325 ?_
  refine lv_topi (fun y_879 ey_879 => ?_)
  obtain rfl : y_879 = 2 := ey_879.trans (by decide)
  refine va_sld hx hb hX hbl hbA hS (by unfold vp_in; decide) dL_law_326 ?_
  refine lv_topi (fun y_880 ey_880 => ?_)
  obtain rfl : y_880 = w2 := ey_880.trans ((congrArg xs (by decide : (2 : Int32).toNatClampNeg = 2)).trans ew2.symm)
  have hPc := hP.sub (ws' := [(q_663, .inr (9, [.ref q_664, .int 0, .ref q_665, .ref q_666, .ref q_667, .int 0, .int (-1), .ref q_668, .ref q_669, .ref q_670, .ref q_671, .ref q_672, .ref q_673])), (q_668, .inr (6, [.ref q_687, .int (-1), .ref q_688])), (q_687, .inr (3, [.ref q_689, .ref q_690, .ref q_691, .ref q_692, .ref q_693, .ref q_694, .ref q_695, .ref q_696, .ref q_697, .int 0, .int 0, .int 0, .int 0, .int (-1)]))]) [0, 1, 2] rfl
  have hDc := hD.sub (ws' := [(q_663, .inr (9, [.ref q_664, .int 0, .ref q_665, .ref q_666, .ref q_667, .int 0, .int (-1), .ref q_668, .ref q_669, .ref q_670, .ref q_671, .ref q_672, .ref q_673])), (q_668, .inr (6, [.ref q_687, .int (-1), .ref q_688])), (q_687, .inr (3, [.ref q_689, .ref q_690, .ref q_691, .ref q_692, .ref q_693, .ref q_694, .ref q_695, .ref q_696, .ref q_697, .int 0, .int 0, .int 0, .int 0, .int (-1)]))]) [0, 1, 2] (by decide) rfl
  have hFc := va_free (wc := [(q_663, .inr (9, [.ref q_664, .int 0, .ref q_665, .ref q_666, .ref q_667, .int 0, .int (-1), .ref q_668, .ref q_669, .ref q_670, .ref q_671, .ref q_672, .ref q_673])), (q_668, .inr (6, [.ref q_687, .int (-1), .ref q_688])), (q_687, .inr (3, [.ref q_689, .ref q_690, .ref q_691, .ref q_692, .ref q_693, .ref q_694, .ref q_695, .ref q_696, .ref q_697, .int 0, .int 0, .int 0, .int 0, .int (-1)]))]) hD hS hA [0, 1, 2] rfl
  refine va_calli (va_runV (As := [.int w1, .int w2]) (rest := []) ⟨hx, hb, hml, hown, hts⟩ (c_use l dC dI cI cB cL cZ (q_663) (q_664) (q_665) (q_666) (q_667) (q_668) (q_669) (q_670) (q_671) (q_672) (q_673) (q_687) (q_688) (q_689) (q_690) (q_691) (q_692) (q_693) (q_694) (q_695) (q_696) (q_697) (w1) (w2) H.size) (cwV 2 hts gL_law_X10_use rfl rfl rfl (by decide +kernel) ⟨Nat.le_of_ble_eq_true rfl, Nat.le_of_ble_eq_true rfl⟩) ⟨cP_fb, va_recv hK hPc (ci := 9) (q0 := 0) rfl rfl, fun U hU hW => cP_pre hPc hK hDc hN U hU hW⟩ rfl rfl hl.1 rfl (lv_room (Nat.le_of_ble_eq_true rfl)) dL_law_327 ⟨Nat.le_of_ble_eq_true rfl, Nat.le_of_ble_eq_true rfl⟩) hS (fun q _ h => hFc q h) hFc (fun r_881 u t H1 locs ht hvm hw hB hz1 hk1 hS => ?_)
  obtain ⟨hP1, hD1⟩ := hB
  rw [ht] at hP1
  obtain ⟨hP, hD⟩ := va_join (wr := [(q_713, .inr (10, fs_714)), (q_724, .inl (cI, 2, .inl (fun _ => 0)))]) (w1 := []) hP hD [0, 1, 2] [3, 4] rfl rfl (by decide) (by decide) hk1 hFc hP1 hD1
  generalize H1 = H at hP hS ⊢
  have hP : va_P (dC, dI) vwCl [(q_713, .inr (10, fs_714)), (q_724, .inl (cI, 2, .inl (fun _ => 0)))] H := hP
  have hD : va_D (fun q : Nat => s.heap.size ≤ q) [(q_713, .inr (10, fs_714)), (q_724, .inl (cI, 2, .inl (fun _ => 0)))] := hD
  obtain rfl : r_881 = (-1) := hw
  refine lv_aload_n hx hb dL_law_330 rfl (lv_at hl 1 rfl) ?_
  refine lv_aload_n hx hb dL_law_331 rfl (lv_at hl 3 rfl) ?_
  refine lv_iload_n hx hb dL_law_332 rfl (lv_at hl 0 rfl) ?_
  refine lv_iconst (v := 1) hx hb dL_law_333 (by decide) ?_
  refine lv_iadd hx hb dL_law_334 ?_
  refine lv_topi (fun y_882 ey_882 => ?_)
  obtain rfl : y_882 = 1 := ey_882.trans (by decide)
  refine va_sld hx hb hX hbl hbA hS (by unfold vp_in; decide) dL_law_335 ?_
  refine lv_topi (fun y_883 ey_883 => ?_)
  obtain rfl : y_883 = w1 := ey_883.trans ((congrArg xs (by decide : (1 : Int32).toNatClampNeg = 1)).trans ew1.symm)
  refine lv_aload_n hx hb dL_law_336 rfl (lv_at hl 3 rfl) ?_
  refine lv_iload_n hx hb dL_law_337 rfl (lv_at hl 0 rfl) ?_
  refine lv_iconst (v := 2) hx hb dL_law_338 (by decide) ?_
  refine lv_iadd hx hb dL_law_339 ?_
  refine lv_topi (fun y_884 ey_884 => ?_)
  obtain rfl : y_884 = 2 := ey_884.trans (by decide)
  refine va_sld hx hb hX hbl hbA hS (by unfold vp_in; decide) dL_law_340 ?_
  refine lv_topi (fun y_885 ey_885 => ?_)
  obtain rfl : y_885 = w2 := ey_885.trans ((congrArg xs (by decide : (2 : Int32).toNatClampNeg = 2)).trans ew2.symm)
  have hPc := hP.sub (ws' := [(q_713, .inr (10, fs_714)), (q_724, .inl (cI, 2, .inl (fun _ => 0)))]) [0, 1] rfl
  have hDc := hD.sub (ws' := [(q_713, .inr (10, fs_714)), (q_724, .inl (cI, 2, .inl (fun _ => 0)))]) [0, 1] (by decide) rfl
  have hFc := va_free (wc := [(q_713, .inr (10, fs_714)), (q_724, .inl (cI, 2, .inl (fun _ => 0)))]) hD hS hA [0, 1] rfl
  refine va_calli (va_runV (As := [.int w1, .int w2]) (rest := [.int (-1)]) ⟨hx, hb, hml, hown, hts⟩ (m_use l dC dI cI cB cL cZ (q_713) (q_724) (w1) (w2) (fs_714) ((fun _ => 0)) H.size hf_734 hf_743 (rfl)) (cwV 2 hts gL_law_X11_use rfl rfl rfl (by decide +kernel) ⟨Nat.le_of_ble_eq_true rfl, Nat.le_of_ble_eq_true rfl⟩) ⟨cP_fb, va_recv hK hPc (ci := 10) (q0 := 0) rfl rfl, fun U hU hW => cP_pre hPc hK hDc hN U hU hW⟩ rfl rfl hl.1 rfl (lv_room (Nat.le_of_ble_eq_true rfl)) dL_law_341 ⟨Nat.le_of_ble_eq_true rfl, Nat.le_of_ble_eq_true rfl⟩) hS (fun q _ h => hFc q h) hFc (fun r_886 u t H1 locs ht hvm hw hB hz1 hk1 hS => ?_)
  obtain ⟨hP1, hD1⟩ := hB
  rw [ht] at hP1
  obtain ⟨hP, hD⟩ := va_join (wr := []) (w1 := []) hP hD [0, 1] [] rfl rfl (by decide) (by decide) hk1 hFc hP1 hD1
  generalize H1 = H at hP hS ⊢
  have hP : va_P (dC, dI) vwCl [] H := hP
  have hD : va_D (fun q : Nat => s.heap.size ≤ q) [] := hD
  obtain rfl : r_886 = (-1) := hw
  refine lv_icmp_eq (tgt := 553) hx hb dL_law_344 (by decide) (fun _ => ?_) (fun c9 => absurd (by decide) c9)
  refine lv_iinc (v := 6) (lv' := [(3, .int 6), (2, .ref q_713), (1, .ref q_663), (0, .ref b)]) hx hb dL_law_553 hl (k := 0) rfl (by decide) (by decide) rfl (fun ls hl => ?_)
  refine lv_goto (tgt := 18) hx hb dL_law_556 (by decide) ?_
  refine lv_iload_n hx hb dL_law_18 rfl (lv_at hl 0 rfl) ?_
  refine lv_aload_n hx hb dL_law_19 rfl (lv_at hl 3 rfl) ?_
  refine va_slen hx hb hX hbl hbA hS dL_law_20 ?_
  refine lv_topi (fun y_887 ey_887 => ?_)
  obtain rfl : y_887 = 6 := ey_887.trans (by decide)
  refine lv_bipush (v := 6) hx hb dL_law_21 (by decide) ?_
  refine lv_isub hx hb dL_law_23 ?_
  refine lv_topi (fun y_888 ey_888 => ?_)
  obtain rfl : y_888 = 0 := ey_888.trans (by decide)
  refine lv_icmp_gt (tgt := 559) hx hb dL_law_24 (by decide) (fun _ => ?_) (fun c9 => absurd (by decide) c9)
  refine lv_iconst (v := 1) hx hb dL_law_559 (by decide) ?_
  refine va_forget (fun q hq => hS.2.2 q hq) ?_
  exact lw_ret hx hb hr hlocks dL_law_560

set_option maxHeartbeats 4000000 in
set_option maxRecDepth 100000 in
theorem lw_test {p : Program} {l : Launch} {e : Env} {s : State} {m : MethodId} {below : List Frame} {meth : Method} {c : Code} {dC : Nat → ClassId} {dI : Nat → Nat → Nat} {cI cB cL cZ : ClassId} {b : Nat} {xs : Nat → Int32} (hx : p.tables.exec = Jvm.exec) (hb : c.code = cL_law) (hr : meth.sig.returnType = ret) (hml : c.maxLocals = 4) (hown : s.vm.findClass RL = some m.cls) (hts : ∀ w ∈ wsL_law, w.before #[Value.ref b] s = true) (hX : va_X b 6 xs s s.heap) (hbl : b < s.heap.size) (hlocks : meth.locks = false) (hK : va_K (dC, dI) vwCl (kTy cI cB cL cZ) s) (hN : nN s) {q_663 : Nat} {q_664 : Nat} {q_665 : Nat} {q_666 : Nat} {q_667 : Nat} {q_668 : Nat} {q_669 : Nat} {q_670 : Nat} {q_671 : Nat} {q_672 : Nat} {q_673 : Nat} {q_687 : Nat} {q_688 : Nat} {q_689 : Nat} {q_690 : Nat} {q_691 : Nat} {q_692 : Nat} {q_693 : Nat} {q_694 : Nat} {q_695 : Nat} {q_696 : Nat} {q_697 : Nat} {q_713 : Nat} {fs_714 : List Value} {q_727 : Nat} {w1 : Int32} (ew1 : w1 = xs 1) {w2 : Int32} (ew2 : w2 = xs 2) {w3 : Int32} (ew3 : w3 = xs 3) {w4 : Int32} (ew4 : w4 = xs 4) {w5 : Int32} (ew5 : w5 = xs 5) {H : Heap} {locs : List Loc} (hP : va_P (dC, dI) vwCl [(q_663, .inr (9, [.ref q_664, .int 0, .ref q_665, .ref q_666, .ref q_667, .int 0, .int (-1), .ref q_668, .ref q_669, .ref q_670, .ref q_671, .ref q_672, .ref q_673])), (q_668, .inr (6, [.ref q_687, .int (-1), .ref q_688])), (q_687, .inr (3, [.ref q_689, .ref q_690, .ref q_691, .ref q_692, .ref q_693, .ref q_694, .ref q_695, .ref q_696, .ref q_697, .int 0, .int 0, .int 0, .int 0, .int (-1)])), (q_713, .inr (10, fs_714)), (q_727, .inl (cI, 2, .inl (fun _ => 0)))] H) (hD : va_D (fun q : Nat => s.heap.size ≤ q) [(q_663, .inr (9, [.ref q_664, .int 0, .ref q_665, .ref q_666, .ref q_667, .int 0, .int (-1), .ref q_668, .ref q_669, .ref q_670, .ref q_671, .ref q_672, .ref q_673])), (q_668, .inr (6, [.ref q_687, .int (-1), .ref q_688])), (q_687, .inr (3, [.ref q_689, .ref q_690, .ref q_691, .ref q_692, .ref q_693, .ref q_694, .ref q_695, .ref q_696, .ref q_697, .int 0, .int 0, .int 0, .int 0, .int (-1)])), (q_713, .inr (10, fs_714)), (q_727, .inl (cI, 2, .inl (fun _ => 0)))]) (hS : va_S (fun q : Nat => s.heap.size ≤ q) s.heap H locs) {ls : Array Slot} (hl : lv_has ls 4 [(3, .int 0), (2, .ref q_713), (1, .ref q_663), (0, .ref b)]) (hf_734 : fs_714.length = 68) (hf_746 : fs_714[29]? = some (.ref q_727)) : W p l e room_1 s m #[Value.ref b] below meth c H locs 84 30598 (lw_Z below #[Value.ref b] s) (F0 m 349 ls []) := by
  have hA : ∀ q : Nat, s.heap.size ≤ q → (fun q : Nat => s.heap.size ≤ q) q := fun _ h => h
  have hbA : ¬ (fun q : Nat => s.heap.size ≤ q) b := Nat.not_le.mpr hbl
  refine lv_aload_n hx hb dL_law_349 rfl (lv_at hl 2 rfl) ?_
  refine lv_aload_n hx hb dL_law_350 rfl (lv_at hl 3 rfl) ?_
  refine lv_iload_n hx hb dL_law_351 rfl (lv_at hl 0 rfl) ?_
  refine lv_iconst (v := 1) hx hb dL_law_352 (by decide) ?_
  refine lv_iadd hx hb dL_law_353 ?_
  refine lv_topi (fun y_889 ey_889 => ?_)
  obtain rfl : y_889 = 1 := ey_889.trans (by decide)
  refine va_sld hx hb hX hbl hbA hS (by unfold vp_in; decide) dL_law_354 ?_
  refine lv_topi (fun y_890 ey_890 => ?_)
  obtain rfl : y_890 = w1 := ey_890.trans ((congrArg xs (by decide : (1 : Int32).toNatClampNeg = 1)).trans ew1.symm)
  refine lv_aload_n hx hb dL_law_355 rfl (lv_at hl 3 rfl) ?_
  refine lv_iload_n hx hb dL_law_356 rfl (lv_at hl 0 rfl) ?_
  refine lv_iconst (v := 2) hx hb dL_law_357 (by decide) ?_
  refine lv_iadd hx hb dL_law_358 ?_
  refine lv_topi (fun y_891 ey_891 => ?_)
  obtain rfl : y_891 = 2 := ey_891.trans (by decide)
  refine va_sld hx hb hX hbl hbA hS (by unfold vp_in; decide) dL_law_359 ?_
  refine lv_topi (fun y_892 ey_892 => ?_)
  obtain rfl : y_892 = w2 := ey_892.trans ((congrArg xs (by decide : (2 : Int32).toNatClampNeg = 2)).trans ew2.symm)
  have hPc := hP.sub (ws' := [(q_663, .inr (9, [.ref q_664, .int 0, .ref q_665, .ref q_666, .ref q_667, .int 0, .int (-1), .ref q_668, .ref q_669, .ref q_670, .ref q_671, .ref q_672, .ref q_673])), (q_668, .inr (6, [.ref q_687, .int (-1), .ref q_688])), (q_687, .inr (3, [.ref q_689, .ref q_690, .ref q_691, .ref q_692, .ref q_693, .ref q_694, .ref q_695, .ref q_696, .ref q_697, .int 0, .int 0, .int 0, .int 0, .int (-1)]))]) [0, 1, 2] rfl
  have hDc := hD.sub (ws' := [(q_663, .inr (9, [.ref q_664, .int 0, .ref q_665, .ref q_666, .ref q_667, .int 0, .int (-1), .ref q_668, .ref q_669, .ref q_670, .ref q_671, .ref q_672, .ref q_673])), (q_668, .inr (6, [.ref q_687, .int (-1), .ref q_688])), (q_687, .inr (3, [.ref q_689, .ref q_690, .ref q_691, .ref q_692, .ref q_693, .ref q_694, .ref q_695, .ref q_696, .ref q_697, .int 0, .int 0, .int 0, .int 0, .int (-1)]))]) [0, 1, 2] (by decide) rfl
  have hFc := va_free (wc := [(q_663, .inr (9, [.ref q_664, .int 0, .ref q_665, .ref q_666, .ref q_667, .int 0, .int (-1), .ref q_668, .ref q_669, .ref q_670, .ref q_671, .ref q_672, .ref q_673])), (q_668, .inr (6, [.ref q_687, .int (-1), .ref q_688])), (q_687, .inr (3, [.ref q_689, .ref q_690, .ref q_691, .ref q_692, .ref q_693, .ref q_694, .ref q_695, .ref q_696, .ref q_697, .int 0, .int 0, .int 0, .int 0, .int (-1)]))]) hD hS hA [0, 1, 2] rfl
  refine va_calli (va_runV (As := [.int w1, .int w2]) (rest := []) ⟨hx, hb, hml, hown, hts⟩ (c_test l dC dI cI cB cL cZ (q_663) (q_664) (q_665) (q_666) (q_667) (q_668) (q_669) (q_670) (q_671) (q_672) (q_673) (q_687) (q_688) (q_689) (q_690) (q_691) (q_692) (q_693) (q_694) (q_695) (q_696) (q_697) (w1) (w2) H.size) (cwV 2 hts gL_law_X10_test rfl rfl rfl (by decide +kernel) ⟨Nat.le_of_ble_eq_true rfl, Nat.le_of_ble_eq_true rfl⟩) ⟨cP_fb, va_recv hK hPc (ci := 9) (q0 := 0) rfl rfl, fun U hU hW => cP_pre hPc hK hDc hN U hU hW⟩ rfl rfl hl.1 rfl (lv_room (Nat.le_of_ble_eq_true rfl)) dL_law_360 ⟨Nat.le_of_ble_eq_true rfl, Nat.le_of_ble_eq_true rfl⟩) hS (fun q _ h => hFc q h) hFc (fun r_893 u t H1 locs ht hvm hw hB hz1 hk1 hS => ?_)
  obtain ⟨hP1, hD1⟩ := hB
  rw [ht] at hP1
  obtain ⟨hP, hD⟩ := va_join (wr := [(q_713, .inr (10, fs_714)), (q_727, .inl (cI, 2, .inl (fun _ => 0)))]) (w1 := []) hP hD [0, 1, 2] [3, 4] rfl rfl (by decide) (by decide) hk1 hFc hP1 hD1
  generalize H1 = H at hP hS ⊢
  have hP : va_P (dC, dI) vwCl [(q_713, .inr (10, fs_714)), (q_727, .inl (cI, 2, .inl (fun _ => 0)))] H := hP
  have hD : va_D (fun q : Nat => s.heap.size ≤ q) [(q_713, .inr (10, fs_714)), (q_727, .inl (cI, 2, .inl (fun _ => 0)))] := hD
  obtain rfl : r_893 = (-1) := hw
  refine lv_aload_n hx hb dL_law_363 rfl (lv_at hl 1 rfl) ?_
  refine lv_aload_n hx hb dL_law_364 rfl (lv_at hl 3 rfl) ?_
  refine lv_iload_n hx hb dL_law_365 rfl (lv_at hl 0 rfl) ?_
  refine lv_iconst (v := 1) hx hb dL_law_366 (by decide) ?_
  refine lv_iadd hx hb dL_law_367 ?_
  refine lv_topi (fun y_894 ey_894 => ?_)
  obtain rfl : y_894 = 1 := ey_894.trans (by decide)
  refine va_sld hx hb hX hbl hbA hS (by unfold vp_in; decide) dL_law_368 ?_
  refine lv_topi (fun y_895 ey_895 => ?_)
  obtain rfl : y_895 = w1 := ey_895.trans ((congrArg xs (by decide : (1 : Int32).toNatClampNeg = 1)).trans ew1.symm)
  refine lv_aload_n hx hb dL_law_369 rfl (lv_at hl 3 rfl) ?_
  refine lv_iload_n hx hb dL_law_370 rfl (lv_at hl 0 rfl) ?_
  refine lv_iconst (v := 2) hx hb dL_law_371 (by decide) ?_
  refine lv_iadd hx hb dL_law_372 ?_
  refine lv_topi (fun y_896 ey_896 => ?_)
  obtain rfl : y_896 = 2 := ey_896.trans (by decide)
  refine va_sld hx hb hX hbl hbA hS (by unfold vp_in; decide) dL_law_373 ?_
  refine lv_topi (fun y_897 ey_897 => ?_)
  obtain rfl : y_897 = w2 := ey_897.trans ((congrArg xs (by decide : (2 : Int32).toNatClampNeg = 2)).trans ew2.symm)
  have hPc := hP.sub (ws' := [(q_713, .inr (10, fs_714)), (q_727, .inl (cI, 2, .inl (fun _ => 0)))]) [0, 1] rfl
  have hDc := hD.sub (ws' := [(q_713, .inr (10, fs_714)), (q_727, .inl (cI, 2, .inl (fun _ => 0)))]) [0, 1] (by decide) rfl
  have hFc := va_free (wc := [(q_713, .inr (10, fs_714)), (q_727, .inl (cI, 2, .inl (fun _ => 0)))]) hD hS hA [0, 1] rfl
  refine va_calli (va_runV (As := [.int w1, .int w2]) (rest := [.int (-1)]) ⟨hx, hb, hml, hown, hts⟩ (m_test l dC dI cI cB cL cZ (q_713) (q_727) (w1) (w2) (fs_714) ((fun _ => 0)) H.size hf_734 hf_746 (rfl)) (cwV 2 hts gL_law_X11_test rfl rfl rfl (by decide +kernel) ⟨Nat.le_of_ble_eq_true rfl, Nat.le_of_ble_eq_true rfl⟩) ⟨cP_fb, va_recv hK hPc (ci := 10) (q0 := 0) rfl rfl, fun U hU hW => cP_pre hPc hK hDc hN U hU hW⟩ rfl rfl hl.1 rfl (lv_room (Nat.le_of_ble_eq_true rfl)) dL_law_374 ⟨Nat.le_of_ble_eq_true rfl, Nat.le_of_ble_eq_true rfl⟩) hS (fun q _ h => hFc q h) hFc (fun r_898 u t H1 locs ht hvm hw hB hz1 hk1 hS => ?_)
  obtain ⟨hP1, hD1⟩ := hB
  rw [ht] at hP1
  obtain ⟨hP, hD⟩ := va_join (wr := []) (w1 := []) hP hD [0, 1] [] rfl rfl (by decide) (by decide) hk1 hFc hP1 hD1
  generalize H1 = H at hP hS ⊢
  have hP : va_P (dC, dI) vwCl [] H := hP
  have hD : va_D (fun q : Nat => s.heap.size ≤ q) [] := hD
  obtain rfl : r_898 = (-1) := hw
  refine lv_icmp_eq (tgt := 553) hx hb dL_law_377 (by decide) (fun _ => ?_) (fun c9 => absurd (by decide) c9)
  refine lv_iinc (v := 6) (lv' := [(3, .int 6), (2, .ref q_713), (1, .ref q_663), (0, .ref b)]) hx hb dL_law_553 hl (k := 0) rfl (by decide) (by decide) rfl (fun ls hl => ?_)
  refine lv_goto (tgt := 18) hx hb dL_law_556 (by decide) ?_
  refine lv_iload_n hx hb dL_law_18 rfl (lv_at hl 0 rfl) ?_
  refine lv_aload_n hx hb dL_law_19 rfl (lv_at hl 3 rfl) ?_
  refine va_slen hx hb hX hbl hbA hS dL_law_20 ?_
  refine lv_topi (fun y_899 ey_899 => ?_)
  obtain rfl : y_899 = 6 := ey_899.trans (by decide)
  refine lv_bipush (v := 6) hx hb dL_law_21 (by decide) ?_
  refine lv_isub hx hb dL_law_23 ?_
  refine lv_topi (fun y_900 ey_900 => ?_)
  obtain rfl : y_900 = 0 := ey_900.trans (by decide)
  refine lv_icmp_gt (tgt := 559) hx hb dL_law_24 (by decide) (fun _ => ?_) (fun c9 => absurd (by decide) c9)
  refine lv_iconst (v := 1) hx hb dL_law_559 (by decide) ?_
  refine va_forget (fun q hq => hS.2.2 q hq) ?_
  exact lw_ret hx hb hr hlocks dL_law_560

set_option maxHeartbeats 4000000 in
set_option maxRecDepth 100000 in
theorem lw_run {p : Program} {l : Launch} {e : Env} {s : State} {m : MethodId} {below : List Frame} {meth : Method} {c : Code} {dC : Nat → ClassId} {dI : Nat → Nat → Nat} {cI cB cL cZ : ClassId} {b : Nat} {xs : Nat → Int32} (hx : p.tables.exec = Jvm.exec) (hb : c.code = cL_law) (hr : meth.sig.returnType = ret) (hml : c.maxLocals = 4) (hown : s.vm.findClass RL = some m.cls) (hts : ∀ w ∈ wsL_law, w.before #[Value.ref b] s = true) (hX : va_X b 6 xs s s.heap) (hbl : b < s.heap.size) (hlocks : meth.locks = false) (hK : va_K (dC, dI) vwCl (kTy cI cB cL cZ) s) (hN : nN s) {q_663 : Nat} {q_664 : Nat} {q_665 : Nat} {q_666 : Nat} {q_667 : Nat} {q_668 : Nat} {q_669 : Nat} {q_670 : Nat} {q_671 : Nat} {q_672 : Nat} {q_673 : Nat} {q_687 : Nat} {q_688 : Nat} {q_689 : Nat} {q_690 : Nat} {q_691 : Nat} {q_692 : Nat} {q_693 : Nat} {q_694 : Nat} {q_695 : Nat} {q_696 : Nat} {q_697 : Nat} {q_713 : Nat} {fs_714 : List Value} {w1 : Int32} (ew1 : w1 = xs 1) {w2 : Int32} (ew2 : w2 = xs 2) {w3 : Int32} (ew3 : w3 = xs 3) {w4 : Int32} (ew4 : w4 = xs 4) {w5 : Int32} (ew5 : w5 = xs 5) {H : Heap} {locs : List Loc} (hP : va_P (dC, dI) vwCl [(q_663, .inr (9, [.ref q_664, .int 0, .ref q_665, .ref q_666, .ref q_667, .int 0, .int (-1), .ref q_668, .ref q_669, .ref q_670, .ref q_671, .ref q_672, .ref q_673])), (q_668, .inr (6, [.ref q_687, .int (-1), .ref q_688])), (q_687, .inr (3, [.ref q_689, .ref q_690, .ref q_691, .ref q_692, .ref q_693, .ref q_694, .ref q_695, .ref q_696, .ref q_697, .int 0, .int 0, .int 0, .int 0, .int (-1)])), (q_713, .inr (10, fs_714))] H) (hD : va_D (fun q : Nat => s.heap.size ≤ q) [(q_663, .inr (9, [.ref q_664, .int 0, .ref q_665, .ref q_666, .ref q_667, .int 0, .int (-1), .ref q_668, .ref q_669, .ref q_670, .ref q_671, .ref q_672, .ref q_673])), (q_668, .inr (6, [.ref q_687, .int (-1), .ref q_688])), (q_687, .inr (3, [.ref q_689, .ref q_690, .ref q_691, .ref q_692, .ref q_693, .ref q_694, .ref q_695, .ref q_696, .ref q_697, .int 0, .int 0, .int 0, .int 0, .int (-1)])), (q_713, .inr (10, fs_714))]) (hS : va_S (fun q : Nat => s.heap.size ≤ q) s.heap H locs) {ls : Array Slot} (hl : lv_has ls 4 [(3, .int 0), (2, .ref q_713), (1, .ref q_663), (0, .ref b)]) (hf_734 : fs_714.length = 68) (hf_756 : fs_714[39]? = some (.int (-1))) : W p l e room_1 s m #[Value.ref b] below meth c H locs 84 30598 (lw_Z below #[Value.ref b] s) (F0 m 382 ls []) := by
  have hA : ∀ q : Nat, s.heap.size ≤ q → (fun q : Nat => s.heap.size ≤ q) q := fun _ h => h
  have hbA : ¬ (fun q : Nat => s.heap.size ≤ q) b := Nat.not_le.mpr hbl
  refine lv_aload_n hx hb dL_law_382 rfl (lv_at hl 2 rfl) ?_
  refine lv_aload_n hx hb dL_law_383 rfl (lv_at hl 3 rfl) ?_
  refine lv_iload_n hx hb dL_law_384 rfl (lv_at hl 0 rfl) ?_
  refine lv_iconst (v := 1) hx hb dL_law_385 (by decide) ?_
  refine lv_iadd hx hb dL_law_386 ?_
  refine lv_topi (fun y_901 ey_901 => ?_)
  obtain rfl : y_901 = 1 := ey_901.trans (by decide)
  refine va_sld hx hb hX hbl hbA hS (by unfold vp_in; decide) dL_law_387 ?_
  refine lv_topi (fun y_902 ey_902 => ?_)
  obtain rfl : y_902 = w1 := ey_902.trans ((congrArg xs (by decide : (1 : Int32).toNatClampNeg = 1)).trans ew1.symm)
  refine lv_aload_n hx hb dL_law_388 rfl (lv_at hl 3 rfl) ?_
  refine lv_iload_n hx hb dL_law_389 rfl (lv_at hl 0 rfl) ?_
  refine lv_iconst (v := 2) hx hb dL_law_390 (by decide) ?_
  refine lv_iadd hx hb dL_law_391 ?_
  refine lv_topi (fun y_903 ey_903 => ?_)
  obtain rfl : y_903 = 2 := ey_903.trans (by decide)
  refine va_sld hx hb hX hbl hbA hS (by unfold vp_in; decide) dL_law_392 ?_
  refine lv_topi (fun y_904 ey_904 => ?_)
  obtain rfl : y_904 = w2 := ey_904.trans ((congrArg xs (by decide : (2 : Int32).toNatClampNeg = 2)).trans ew2.symm)
  have hPc := hP.sub (ws' := [(q_663, .inr (9, [.ref q_664, .int 0, .ref q_665, .ref q_666, .ref q_667, .int 0, .int (-1), .ref q_668, .ref q_669, .ref q_670, .ref q_671, .ref q_672, .ref q_673])), (q_668, .inr (6, [.ref q_687, .int (-1), .ref q_688])), (q_687, .inr (3, [.ref q_689, .ref q_690, .ref q_691, .ref q_692, .ref q_693, .ref q_694, .ref q_695, .ref q_696, .ref q_697, .int 0, .int 0, .int 0, .int 0, .int (-1)]))]) [0, 1, 2] rfl
  have hDc := hD.sub (ws' := [(q_663, .inr (9, [.ref q_664, .int 0, .ref q_665, .ref q_666, .ref q_667, .int 0, .int (-1), .ref q_668, .ref q_669, .ref q_670, .ref q_671, .ref q_672, .ref q_673])), (q_668, .inr (6, [.ref q_687, .int (-1), .ref q_688])), (q_687, .inr (3, [.ref q_689, .ref q_690, .ref q_691, .ref q_692, .ref q_693, .ref q_694, .ref q_695, .ref q_696, .ref q_697, .int 0, .int 0, .int 0, .int 0, .int (-1)]))]) [0, 1, 2] (by decide) rfl
  have hFc := va_free (wc := [(q_663, .inr (9, [.ref q_664, .int 0, .ref q_665, .ref q_666, .ref q_667, .int 0, .int (-1), .ref q_668, .ref q_669, .ref q_670, .ref q_671, .ref q_672, .ref q_673])), (q_668, .inr (6, [.ref q_687, .int (-1), .ref q_688])), (q_687, .inr (3, [.ref q_689, .ref q_690, .ref q_691, .ref q_692, .ref q_693, .ref q_694, .ref q_695, .ref q_696, .ref q_697, .int 0, .int 0, .int 0, .int 0, .int (-1)]))]) hD hS hA [0, 1, 2] rfl
  refine va_calli (va_runV (As := [.int w1, .int w2]) (rest := []) ⟨hx, hb, hml, hown, hts⟩ (c_run l dC dI cI cB cL cZ (q_663) (q_664) (q_665) (q_666) (q_667) (q_668) (q_669) (q_670) (q_671) (q_672) (q_673) (q_687) (q_688) (q_689) (q_690) (q_691) (q_692) (q_693) (q_694) (q_695) (q_696) (q_697) (w1) (w2) H.size) (cwV 2 hts gL_law_X10_run rfl rfl rfl (by decide +kernel) ⟨Nat.le_of_ble_eq_true rfl, Nat.le_of_ble_eq_true rfl⟩) ⟨cP_fb, va_recv hK hPc (ci := 9) (q0 := 0) rfl rfl, fun U hU hW => cP_pre hPc hK hDc hN U hU hW⟩ rfl rfl hl.1 rfl (lv_room (Nat.le_of_ble_eq_true rfl)) dL_law_393 ⟨Nat.le_of_ble_eq_true rfl, Nat.le_of_ble_eq_true rfl⟩) hS (fun q _ h => hFc q h) hFc (fun r_905 u t H1 locs ht hvm hw hB hz1 hk1 hS => ?_)
  obtain ⟨hP1, hD1⟩ := hB
  rw [ht] at hP1
  obtain ⟨hP, hD⟩ := va_join (wr := [(q_713, .inr (10, fs_714))]) (w1 := []) hP hD [0, 1, 2] [3] rfl rfl (by decide) (by decide) hk1 hFc hP1 hD1
  generalize H1 = H at hP hS ⊢
  have hP : va_P (dC, dI) vwCl [(q_713, .inr (10, fs_714))] H := hP
  have hD : va_D (fun q : Nat => s.heap.size ≤ q) [(q_713, .inr (10, fs_714))] := hD
  obtain rfl : r_905 = (-1) := hw
  refine lv_aload_n hx hb dL_law_396 rfl (lv_at hl 1 rfl) ?_
  refine lv_aload_n hx hb dL_law_397 rfl (lv_at hl 3 rfl) ?_
  refine lv_iload_n hx hb dL_law_398 rfl (lv_at hl 0 rfl) ?_
  refine lv_iconst (v := 1) hx hb dL_law_399 (by decide) ?_
  refine lv_iadd hx hb dL_law_400 ?_
  refine lv_topi (fun y_906 ey_906 => ?_)
  obtain rfl : y_906 = 1 := ey_906.trans (by decide)
  refine va_sld hx hb hX hbl hbA hS (by unfold vp_in; decide) dL_law_401 ?_
  refine lv_topi (fun y_907 ey_907 => ?_)
  obtain rfl : y_907 = w1 := ey_907.trans ((congrArg xs (by decide : (1 : Int32).toNatClampNeg = 1)).trans ew1.symm)
  refine lv_aload_n hx hb dL_law_402 rfl (lv_at hl 3 rfl) ?_
  refine lv_iload_n hx hb dL_law_403 rfl (lv_at hl 0 rfl) ?_
  refine lv_iconst (v := 2) hx hb dL_law_404 (by decide) ?_
  refine lv_iadd hx hb dL_law_405 ?_
  refine lv_topi (fun y_908 ey_908 => ?_)
  obtain rfl : y_908 = 2 := ey_908.trans (by decide)
  refine va_sld hx hb hX hbl hbA hS (by unfold vp_in; decide) dL_law_406 ?_
  refine lv_topi (fun y_909 ey_909 => ?_)
  obtain rfl : y_909 = w2 := ey_909.trans ((congrArg xs (by decide : (2 : Int32).toNatClampNeg = 2)).trans ew2.symm)
  have hPc := hP.sub (ws' := [(q_713, .inr (10, fs_714))]) [0] rfl
  have hDc := hD.sub (ws' := [(q_713, .inr (10, fs_714))]) [0] (by decide) rfl
  have hFc := va_free (wc := [(q_713, .inr (10, fs_714))]) hD hS hA [0] rfl
  refine va_calli (va_runV (As := [.int w1, .int w2]) (rest := [.int (-1)]) ⟨hx, hb, hml, hown, hts⟩ (m_run l dC dI cI cB cL cZ (q_713) (w1) (w2) (fs_714) H.size hf_734 hf_756) (cwV 2 hts gL_law_X11_run rfl rfl rfl (by decide +kernel) ⟨Nat.le_of_ble_eq_true rfl, Nat.le_of_ble_eq_true rfl⟩) ⟨cP_fb, va_recv hK hPc (ci := 10) (q0 := 0) rfl rfl, fun U hU hW => cP_pre hPc hK hDc hN U hU hW⟩ rfl rfl hl.1 rfl (lv_room (Nat.le_of_ble_eq_true rfl)) dL_law_407 ⟨Nat.le_of_ble_eq_true rfl, Nat.le_of_ble_eq_true rfl⟩) hS (fun q _ h => hFc q h) hFc (fun r_910 u t H1 locs ht hvm hw hB hz1 hk1 hS => ?_)
  obtain ⟨hP1, hD1⟩ := hB
  rw [ht] at hP1
  obtain ⟨hP, hD⟩ := va_join (wr := []) (w1 := []) hP hD [0] [] rfl rfl (by decide) (by decide) hk1 hFc hP1 hD1
  generalize H1 = H at hP hS ⊢
  have hP : va_P (dC, dI) vwCl [] H := hP
  have hD : va_D (fun q : Nat => s.heap.size ≤ q) [] := hD
  obtain rfl : r_910 = (-1) := hw
  refine lv_icmp_eq (tgt := 553) hx hb dL_law_410 (by decide) (fun _ => ?_) (fun c9 => absurd (by decide) c9)
  refine lv_iinc (v := 6) (lv' := [(3, .int 6), (2, .ref q_713), (1, .ref q_663), (0, .ref b)]) hx hb dL_law_553 hl (k := 0) rfl (by decide) (by decide) rfl (fun ls hl => ?_)
  refine lv_goto (tgt := 18) hx hb dL_law_556 (by decide) ?_
  refine lv_iload_n hx hb dL_law_18 rfl (lv_at hl 0 rfl) ?_
  refine lv_aload_n hx hb dL_law_19 rfl (lv_at hl 3 rfl) ?_
  refine va_slen hx hb hX hbl hbA hS dL_law_20 ?_
  refine lv_topi (fun y_911 ey_911 => ?_)
  obtain rfl : y_911 = 6 := ey_911.trans (by decide)
  refine lv_bipush (v := 6) hx hb dL_law_21 (by decide) ?_
  refine lv_isub hx hb dL_law_23 ?_
  refine lv_topi (fun y_912 ey_912 => ?_)
  obtain rfl : y_912 = 0 := ey_912.trans (by decide)
  refine lv_icmp_gt (tgt := 559) hx hb dL_law_24 (by decide) (fun _ => ?_) (fun c9 => absurd (by decide) c9)
  refine lv_iconst (v := 1) hx hb dL_law_559 (by decide) ?_
  refine va_forget (fun q hq => hS.2.2 q hq) ?_
  exact lw_ret hx hb hr hlocks dL_law_560

set_option maxHeartbeats 4000000 in
set_option maxRecDepth 100000 in
theorem lw_ran {p : Program} {l : Launch} {e : Env} {s : State} {m : MethodId} {below : List Frame} {meth : Method} {c : Code} {dC : Nat → ClassId} {dI : Nat → Nat → Nat} {cI cB cL cZ : ClassId} {b : Nat} {xs : Nat → Int32} (hx : p.tables.exec = Jvm.exec) (hb : c.code = cL_law) (hr : meth.sig.returnType = ret) (hml : c.maxLocals = 4) (hown : s.vm.findClass RL = some m.cls) (hts : ∀ w ∈ wsL_law, w.before #[Value.ref b] s = true) (hX : va_X b 6 xs s s.heap) (hbl : b < s.heap.size) (hlocks : meth.locks = false) (hK : va_K (dC, dI) vwCl (kTy cI cB cL cZ) s) (hN : nN s) {q_663 : Nat} {q_664 : Nat} {q_665 : Nat} {q_666 : Nat} {q_667 : Nat} {q_668 : Nat} {q_669 : Nat} {q_670 : Nat} {q_671 : Nat} {q_672 : Nat} {q_673 : Nat} {f_710 : Nat → Int32} {q_713 : Nat} {fs_714 : List Value} {w1 : Int32} (ew1 : w1 = xs 1) {w2 : Int32} (ew2 : w2 = xs 2) {w3 : Int32} (ew3 : w3 = xs 3) {w4 : Int32} (ew4 : w4 = xs 4) {w5 : Int32} (ew5 : w5 = xs 5) {H : Heap} {locs : List Loc} (hP : va_P (dC, dI) vwCl [(q_663, .inr (9, [.ref q_664, .int 0, .ref q_665, .ref q_666, .ref q_667, .int 0, .int (-1), .ref q_668, .ref q_669, .ref q_670, .ref q_671, .ref q_672, .ref q_673])), (q_673, .inl (cI, 4, .inl f_710)), (q_713, .inr (10, fs_714))] H) (hD : va_D (fun q : Nat => s.heap.size ≤ q) [(q_663, .inr (9, [.ref q_664, .int 0, .ref q_665, .ref q_666, .ref q_667, .int 0, .int (-1), .ref q_668, .ref q_669, .ref q_670, .ref q_671, .ref q_672, .ref q_673])), (q_673, .inl (cI, 4, .inl f_710)), (q_713, .inr (10, fs_714))]) (hS : va_S (fun q : Nat => s.heap.size ≤ q) s.heap H locs) {ls : Array Slot} (hl : lv_has ls 4 [(3, .int 0), (2, .ref q_713), (1, .ref q_663), (0, .ref b)]) (hf_734 : fs_714.length = 68) (hf_757 : fs_714[56]? = some (.int 0)) (hf_711 : ∀ j, j < 4 → f_710 j = -1) : W p l e room_1 s m #[Value.ref b] below meth c H locs 84 30598 (lw_Z below #[Value.ref b] s) (F0 m 415 ls []) := by
  have hA : ∀ q : Nat, s.heap.size ≤ q → (fun q : Nat => s.heap.size ≤ q) q := fun _ h => h
  have hbA : ¬ (fun q : Nat => s.heap.size ≤ q) b := Nat.not_le.mpr hbl
  refine lv_aload_n hx hb dL_law_415 rfl (lv_at hl 2 rfl) ?_
  refine lv_aload_n hx hb dL_law_416 rfl (lv_at hl 3 rfl) ?_
  refine lv_iload_n hx hb dL_law_417 rfl (lv_at hl 0 rfl) ?_
  refine lv_iconst (v := 1) hx hb dL_law_418 (by decide) ?_
  refine lv_iadd hx hb dL_law_419 ?_
  refine lv_topi (fun y_913 ey_913 => ?_)
  obtain rfl : y_913 = 1 := ey_913.trans (by decide)
  refine va_sld hx hb hX hbl hbA hS (by unfold vp_in; decide) dL_law_420 ?_
  refine lv_topi (fun y_914 ey_914 => ?_)
  obtain rfl : y_914 = w1 := ey_914.trans ((congrArg xs (by decide : (1 : Int32).toNatClampNeg = 1)).trans ew1.symm)
  have hPc := hP.sub (ws' := [(q_663, .inr (9, [.ref q_664, .int 0, .ref q_665, .ref q_666, .ref q_667, .int 0, .int (-1), .ref q_668, .ref q_669, .ref q_670, .ref q_671, .ref q_672, .ref q_673])), (q_673, .inl (cI, 4, .inl f_710))]) [0, 1] rfl
  have hDc := hD.sub (ws' := [(q_663, .inr (9, [.ref q_664, .int 0, .ref q_665, .ref q_666, .ref q_667, .int 0, .int (-1), .ref q_668, .ref q_669, .ref q_670, .ref q_671, .ref q_672, .ref q_673])), (q_673, .inl (cI, 4, .inl f_710))]) [0, 1] (by decide) rfl
  have hFc := va_free (wc := [(q_663, .inr (9, [.ref q_664, .int 0, .ref q_665, .ref q_666, .ref q_667, .int 0, .int (-1), .ref q_668, .ref q_669, .ref q_670, .ref q_671, .ref q_672, .ref q_673])), (q_673, .inl (cI, 4, .inl f_710))]) hD hS hA [0, 1] rfl
  refine va_calli (va_runV (As := [.int w1]) (rest := []) ⟨hx, hb, hml, hown, hts⟩ (c_ran l dC dI cI cB cL cZ (q_663) (q_664) (q_665) (q_666) (q_667) (q_668) (q_669) (q_670) (q_671) (q_672) (q_673) (w1) (f_710) H.size (hf_711)) (cwV 1 hts gL_law_X10_ran rfl rfl rfl (by decide +kernel) ⟨Nat.le_of_ble_eq_true rfl, Nat.le_of_ble_eq_true rfl⟩) ⟨cP_fb, va_recv hK hPc (ci := 9) (q0 := 0) rfl rfl, fun U hU hW => cP_pre hPc hK hDc hN U hU hW⟩ rfl rfl hl.1 rfl (lv_room (Nat.le_of_ble_eq_true rfl)) dL_law_421 ⟨Nat.le_of_ble_eq_true rfl, Nat.le_of_ble_eq_true rfl⟩) hS (fun q _ h => hFc q h) hFc (fun r_915 u t H1 locs ht hvm hw hB hz1 hk1 hS => ?_)
  obtain ⟨hP1, hD1⟩ := hB
  rw [ht] at hP1
  obtain ⟨hP, hD⟩ := va_join (wr := [(q_713, .inr (10, fs_714))]) (w1 := []) hP hD [0, 1] [2] rfl rfl (by decide) (by decide) hk1 hFc hP1 hD1
  generalize H1 = H at hP hS ⊢
  have hP : va_P (dC, dI) vwCl [(q_713, .inr (10, fs_714))] H := hP
  have hD : va_D (fun q : Nat => s.heap.size ≤ q) [(q_713, .inr (10, fs_714))] := hD
  obtain rfl : r_915 = (-1) := hw
  refine lv_aload_n hx hb dL_law_424 rfl (lv_at hl 1 rfl) ?_
  refine lv_aload_n hx hb dL_law_425 rfl (lv_at hl 3 rfl) ?_
  refine lv_iload_n hx hb dL_law_426 rfl (lv_at hl 0 rfl) ?_
  refine lv_iconst (v := 1) hx hb dL_law_427 (by decide) ?_
  refine lv_iadd hx hb dL_law_428 ?_
  refine lv_topi (fun y_916 ey_916 => ?_)
  obtain rfl : y_916 = 1 := ey_916.trans (by decide)
  refine va_sld hx hb hX hbl hbA hS (by unfold vp_in; decide) dL_law_429 ?_
  refine lv_topi (fun y_917 ey_917 => ?_)
  obtain rfl : y_917 = w1 := ey_917.trans ((congrArg xs (by decide : (1 : Int32).toNatClampNeg = 1)).trans ew1.symm)
  have hPc := hP.sub (ws' := [(q_713, .inr (10, fs_714))]) [0] rfl
  have hDc := hD.sub (ws' := [(q_713, .inr (10, fs_714))]) [0] (by decide) rfl
  have hFc := va_free (wc := [(q_713, .inr (10, fs_714))]) hD hS hA [0] rfl
  refine va_calli (va_runV (As := [.int w1]) (rest := [.int (-1)]) ⟨hx, hb, hml, hown, hts⟩ (m_ran l dC dI cI cB cL cZ (q_713) (w1) (fs_714) H.size hf_734 hf_757) (cwV 1 hts gL_law_X11_ran rfl rfl rfl (by decide +kernel) ⟨Nat.le_of_ble_eq_true rfl, Nat.le_of_ble_eq_true rfl⟩) ⟨cP_fb, va_recv hK hPc (ci := 10) (q0 := 0) rfl rfl, fun U hU hW => cP_pre hPc hK hDc hN U hU hW⟩ rfl rfl hl.1 rfl (lv_room (Nat.le_of_ble_eq_true rfl)) dL_law_430 ⟨Nat.le_of_ble_eq_true rfl, Nat.le_of_ble_eq_true rfl⟩) hS (fun q _ h => hFc q h) hFc (fun r_918 u t H1 locs ht hvm hw hB hz1 hk1 hS => ?_)
  obtain ⟨hP1, hD1⟩ := hB
  rw [ht] at hP1
  obtain ⟨hP, hD⟩ := va_join (wr := []) (w1 := []) hP hD [0] [] rfl rfl (by decide) (by decide) hk1 hFc hP1 hD1
  generalize H1 = H at hP hS ⊢
  have hP : va_P (dC, dI) vwCl [] H := hP
  have hD : va_D (fun q : Nat => s.heap.size ≤ q) [] := hD
  obtain rfl : r_918 = (-1) := hw
  refine lv_icmp_eq (tgt := 553) hx hb dL_law_433 (by decide) (fun _ => ?_) (fun c9 => absurd (by decide) c9)
  refine lv_iinc (v := 6) (lv' := [(3, .int 6), (2, .ref q_713), (1, .ref q_663), (0, .ref b)]) hx hb dL_law_553 hl (k := 0) rfl (by decide) (by decide) rfl (fun ls hl => ?_)
  refine lv_goto (tgt := 18) hx hb dL_law_556 (by decide) ?_
  refine lv_iload_n hx hb dL_law_18 rfl (lv_at hl 0 rfl) ?_
  refine lv_aload_n hx hb dL_law_19 rfl (lv_at hl 3 rfl) ?_
  refine va_slen hx hb hX hbl hbA hS dL_law_20 ?_
  refine lv_topi (fun y_919 ey_919 => ?_)
  obtain rfl : y_919 = 6 := ey_919.trans (by decide)
  refine lv_bipush (v := 6) hx hb dL_law_21 (by decide) ?_
  refine lv_isub hx hb dL_law_23 ?_
  refine lv_topi (fun y_920 ey_920 => ?_)
  obtain rfl : y_920 = 0 := ey_920.trans (by decide)
  refine lv_icmp_gt (tgt := 559) hx hb dL_law_24 (by decide) (fun _ => ?_) (fun c9 => absurd (by decide) c9)
  refine lv_iconst (v := 1) hx hb dL_law_559 (by decide) ?_
  refine va_forget (fun q hq => hS.2.2 q hq) ?_
  exact lw_ret hx hb hr hlocks dL_law_560

set_option maxHeartbeats 4000000 in
set_option maxRecDepth 100000 in
theorem lw_tries {p : Program} {l : Launch} {e : Env} {s : State} {m : MethodId} {below : List Frame} {meth : Method} {c : Code} {dC : Nat → ClassId} {dI : Nat → Nat → Nat} {cI cB cL cZ : ClassId} {b : Nat} {xs : Nat → Int32} (hx : p.tables.exec = Jvm.exec) (hb : c.code = cL_law) (hr : meth.sig.returnType = ret) (hml : c.maxLocals = 4) (hown : s.vm.findClass RL = some m.cls) (hts : ∀ w ∈ wsL_law, w.before #[Value.ref b] s = true) (hX : va_X b 6 xs s s.heap) (hbl : b < s.heap.size) (hlocks : meth.locks = false) (hK : va_K (dC, dI) vwCl (kTy cI cB cL cZ) s) (hN : nN s) {q_663 : Nat} {q_664 : Nat} {q_665 : Nat} {q_666 : Nat} {q_667 : Nat} {q_668 : Nat} {q_669 : Nat} {q_670 : Nat} {q_671 : Nat} {q_672 : Nat} {q_673 : Nat} {q_687 : Nat} {q_688 : Nat} {q_689 : Nat} {q_690 : Nat} {q_691 : Nat} {q_692 : Nat} {q_693 : Nat} {q_694 : Nat} {q_695 : Nat} {q_696 : Nat} {q_697 : Nat} {q_713 : Nat} {fs_714 : List Value} {q_724 : Nat} {w1 : Int32} (ew1 : w1 = xs 1) {w2 : Int32} (ew2 : w2 = xs 2) {w3 : Int32} (ew3 : w3 = xs 3) {w4 : Int32} (ew4 : w4 = xs 4) {w5 : Int32} (ew5 : w5 = xs 5) {H : Heap} {locs : List Loc} (hP : va_P (dC, dI) vwCl [(q_663, .inr (9, [.ref q_664, .int 0, .ref q_665, .ref q_666, .ref q_667, .int 0, .int (-1), .ref q_668, .ref q_669, .ref q_670, .ref q_671, .ref q_672, .ref q_673])), (q_668, .inr (6, [.ref q_687, .int (-1), .ref q_688])), (q_687, .inr (3, [.ref q_689, .ref q_690, .ref q_691, .ref q_692, .ref q_693, .ref q_694, .ref q_695, .ref q_696, .ref q_697, .int 0, .int 0, .int 0, .int 0, .int (-1)])), (q_713, .inr (10, fs_714)), (q_724, .inl (cI, 2, .inl (fun _ => 0)))] H) (hD : va_D (fun q : Nat => s.heap.size ≤ q) [(q_663, .inr (9, [.ref q_664, .int 0, .ref q_665, .ref q_666, .ref q_667, .int 0, .int (-1), .ref q_668, .ref q_669, .ref q_670, .ref q_671, .ref q_672, .ref q_673])), (q_668, .inr (6, [.ref q_687, .int (-1), .ref q_688])), (q_687, .inr (3, [.ref q_689, .ref q_690, .ref q_691, .ref q_692, .ref q_693, .ref q_694, .ref q_695, .ref q_696, .ref q_697, .int 0, .int 0, .int 0, .int 0, .int (-1)])), (q_713, .inr (10, fs_714)), (q_724, .inl (cI, 2, .inl (fun _ => 0)))]) (hS : va_S (fun q : Nat => s.heap.size ≤ q) s.heap H locs) {ls : Array Slot} (hl : lv_has ls 4 [(3, .int 0), (2, .ref q_713), (1, .ref q_663), (0, .ref b)]) (hf_734 : fs_714.length = 68) (hf_743 : fs_714[26]? = some (.ref q_724)) : W p l e room_1 s m #[Value.ref b] below meth c H locs 84 30598 (lw_Z below #[Value.ref b] s) (F0 m 438 ls []) := by
  have hA : ∀ q : Nat, s.heap.size ≤ q → (fun q : Nat => s.heap.size ≤ q) q := fun _ h => h
  have hbA : ¬ (fun q : Nat => s.heap.size ≤ q) b := Nat.not_le.mpr hbl
  refine lv_aload_n hx hb dL_law_438 rfl (lv_at hl 2 rfl) ?_
  refine lv_aload_n hx hb dL_law_439 rfl (lv_at hl 3 rfl) ?_
  refine lv_iload_n hx hb dL_law_440 rfl (lv_at hl 0 rfl) ?_
  refine lv_iconst (v := 1) hx hb dL_law_441 (by decide) ?_
  refine lv_iadd hx hb dL_law_442 ?_
  refine lv_topi (fun y_921 ey_921 => ?_)
  obtain rfl : y_921 = 1 := ey_921.trans (by decide)
  refine va_sld hx hb hX hbl hbA hS (by unfold vp_in; decide) dL_law_443 ?_
  refine lv_topi (fun y_922 ey_922 => ?_)
  obtain rfl : y_922 = w1 := ey_922.trans ((congrArg xs (by decide : (1 : Int32).toNatClampNeg = 1)).trans ew1.symm)
  have hPc := hP.sub (ws' := [(q_663, .inr (9, [.ref q_664, .int 0, .ref q_665, .ref q_666, .ref q_667, .int 0, .int (-1), .ref q_668, .ref q_669, .ref q_670, .ref q_671, .ref q_672, .ref q_673])), (q_668, .inr (6, [.ref q_687, .int (-1), .ref q_688])), (q_687, .inr (3, [.ref q_689, .ref q_690, .ref q_691, .ref q_692, .ref q_693, .ref q_694, .ref q_695, .ref q_696, .ref q_697, .int 0, .int 0, .int 0, .int 0, .int (-1)]))]) [0, 1, 2] rfl
  have hDc := hD.sub (ws' := [(q_663, .inr (9, [.ref q_664, .int 0, .ref q_665, .ref q_666, .ref q_667, .int 0, .int (-1), .ref q_668, .ref q_669, .ref q_670, .ref q_671, .ref q_672, .ref q_673])), (q_668, .inr (6, [.ref q_687, .int (-1), .ref q_688])), (q_687, .inr (3, [.ref q_689, .ref q_690, .ref q_691, .ref q_692, .ref q_693, .ref q_694, .ref q_695, .ref q_696, .ref q_697, .int 0, .int 0, .int 0, .int 0, .int (-1)]))]) [0, 1, 2] (by decide) rfl
  have hFc := va_free (wc := [(q_663, .inr (9, [.ref q_664, .int 0, .ref q_665, .ref q_666, .ref q_667, .int 0, .int (-1), .ref q_668, .ref q_669, .ref q_670, .ref q_671, .ref q_672, .ref q_673])), (q_668, .inr (6, [.ref q_687, .int (-1), .ref q_688])), (q_687, .inr (3, [.ref q_689, .ref q_690, .ref q_691, .ref q_692, .ref q_693, .ref q_694, .ref q_695, .ref q_696, .ref q_697, .int 0, .int 0, .int 0, .int 0, .int (-1)]))]) hD hS hA [0, 1, 2] rfl
  refine va_calli (va_runV (As := [.int w1]) (rest := []) ⟨hx, hb, hml, hown, hts⟩ (c_tries l dC dI cI cB cL cZ (q_663) (q_664) (q_665) (q_666) (q_667) (q_668) (q_669) (q_670) (q_671) (q_672) (q_673) (q_687) (q_688) (q_689) (q_690) (q_691) (q_692) (q_693) (q_694) (q_695) (q_696) (q_697) (w1) H.size) (cwV 1 hts gL_law_X10_tries rfl rfl rfl (by decide +kernel) ⟨Nat.le_of_ble_eq_true rfl, Nat.le_of_ble_eq_true rfl⟩) ⟨cP_fb, va_recv hK hPc (ci := 9) (q0 := 0) rfl rfl, fun U hU hW => cP_pre hPc hK hDc hN U hU hW⟩ rfl rfl hl.1 rfl (lv_room (Nat.le_of_ble_eq_true rfl)) dL_law_444 ⟨Nat.le_of_ble_eq_true rfl, Nat.le_of_ble_eq_true rfl⟩) hS (fun q _ h => hFc q h) hFc (fun r_923 u t H1 locs ht hvm hw hB hz1 hk1 hS => ?_)
  obtain ⟨hP1, hD1⟩ := hB
  rw [ht] at hP1
  obtain ⟨hP, hD⟩ := va_join (wr := [(q_713, .inr (10, fs_714)), (q_724, .inl (cI, 2, .inl (fun _ => 0)))]) (w1 := []) hP hD [0, 1, 2] [3, 4] rfl rfl (by decide) (by decide) hk1 hFc hP1 hD1
  generalize H1 = H at hP hS ⊢
  have hP : va_P (dC, dI) vwCl [(q_713, .inr (10, fs_714)), (q_724, .inl (cI, 2, .inl (fun _ => 0)))] H := hP
  have hD : va_D (fun q : Nat => s.heap.size ≤ q) [(q_713, .inr (10, fs_714)), (q_724, .inl (cI, 2, .inl (fun _ => 0)))] := hD
  obtain rfl : r_923 = (-1) := hw
  refine lv_aload_n hx hb dL_law_447 rfl (lv_at hl 1 rfl) ?_
  refine lv_aload_n hx hb dL_law_448 rfl (lv_at hl 3 rfl) ?_
  refine lv_iload_n hx hb dL_law_449 rfl (lv_at hl 0 rfl) ?_
  refine lv_iconst (v := 1) hx hb dL_law_450 (by decide) ?_
  refine lv_iadd hx hb dL_law_451 ?_
  refine lv_topi (fun y_924 ey_924 => ?_)
  obtain rfl : y_924 = 1 := ey_924.trans (by decide)
  refine va_sld hx hb hX hbl hbA hS (by unfold vp_in; decide) dL_law_452 ?_
  refine lv_topi (fun y_925 ey_925 => ?_)
  obtain rfl : y_925 = w1 := ey_925.trans ((congrArg xs (by decide : (1 : Int32).toNatClampNeg = 1)).trans ew1.symm)
  have hPc := hP.sub (ws' := [(q_713, .inr (10, fs_714)), (q_724, .inl (cI, 2, .inl (fun _ => 0)))]) [0, 1] rfl
  have hDc := hD.sub (ws' := [(q_713, .inr (10, fs_714)), (q_724, .inl (cI, 2, .inl (fun _ => 0)))]) [0, 1] (by decide) rfl
  have hFc := va_free (wc := [(q_713, .inr (10, fs_714)), (q_724, .inl (cI, 2, .inl (fun _ => 0)))]) hD hS hA [0, 1] rfl
  refine va_calli (va_runV (As := [.int w1]) (rest := [.int (-1)]) ⟨hx, hb, hml, hown, hts⟩ (m_tries l dC dI cI cB cL cZ (q_713) (q_724) (w1) (fs_714) ((fun _ => 0)) H.size hf_734 hf_743 (rfl)) (cwV 1 hts gL_law_X11_tries rfl rfl rfl (by decide +kernel) ⟨Nat.le_of_ble_eq_true rfl, Nat.le_of_ble_eq_true rfl⟩) ⟨cP_fb, va_recv hK hPc (ci := 10) (q0 := 0) rfl rfl, fun U hU hW => cP_pre hPc hK hDc hN U hU hW⟩ rfl rfl hl.1 rfl (lv_room (Nat.le_of_ble_eq_true rfl)) dL_law_453 ⟨Nat.le_of_ble_eq_true rfl, Nat.le_of_ble_eq_true rfl⟩) hS (fun q _ h => hFc q h) hFc (fun r_926 u t H1 locs ht hvm hw hB hz1 hk1 hS => ?_)
  obtain ⟨hP1, hD1⟩ := hB
  rw [ht] at hP1
  obtain ⟨hP, hD⟩ := va_join (wr := []) (w1 := []) hP hD [0, 1] [] rfl rfl (by decide) (by decide) hk1 hFc hP1 hD1
  generalize H1 = H at hP hS ⊢
  have hP : va_P (dC, dI) vwCl [] H := hP
  have hD : va_D (fun q : Nat => s.heap.size ≤ q) [] := hD
  obtain rfl : r_926 = (-1) := hw
  refine lv_icmp_eq (tgt := 553) hx hb dL_law_456 (by decide) (fun _ => ?_) (fun c9 => absurd (by decide) c9)
  refine lv_iinc (v := 6) (lv' := [(3, .int 6), (2, .ref q_713), (1, .ref q_663), (0, .ref b)]) hx hb dL_law_553 hl (k := 0) rfl (by decide) (by decide) rfl (fun ls hl => ?_)
  refine lv_goto (tgt := 18) hx hb dL_law_556 (by decide) ?_
  refine lv_iload_n hx hb dL_law_18 rfl (lv_at hl 0 rfl) ?_
  refine lv_aload_n hx hb dL_law_19 rfl (lv_at hl 3 rfl) ?_
  refine va_slen hx hb hX hbl hbA hS dL_law_20 ?_
  refine lv_topi (fun y_927 ey_927 => ?_)
  obtain rfl : y_927 = 6 := ey_927.trans (by decide)
  refine lv_bipush (v := 6) hx hb dL_law_21 (by decide) ?_
  refine lv_isub hx hb dL_law_23 ?_
  refine lv_topi (fun y_928 ey_928 => ?_)
  obtain rfl : y_928 = 0 := ey_928.trans (by decide)
  refine lv_icmp_gt (tgt := 559) hx hb dL_law_24 (by decide) (fun _ => ?_) (fun c9 => absurd (by decide) c9)
  refine lv_iconst (v := 1) hx hb dL_law_559 (by decide) ?_
  refine va_forget (fun q hq => hS.2.2 q hq) ?_
  exact lw_ret hx hb hr hlocks dL_law_560

set_option maxHeartbeats 4000000 in
set_option maxRecDepth 100000 in
theorem lw_priceY {p : Program} {l : Launch} {e : Env} {s : State} {m : MethodId} {below : List Frame} {meth : Method} {c : Code} {dC : Nat → ClassId} {dI : Nat → Nat → Nat} {cI cB cL cZ : ClassId} {b : Nat} {xs : Nat → Int32} (hx : p.tables.exec = Jvm.exec) (hb : c.code = cL_law) (hr : meth.sig.returnType = ret) (hml : c.maxLocals = 4) (hown : s.vm.findClass RL = some m.cls) (hts : ∀ w ∈ wsL_law, w.before #[Value.ref b] s = true) (hX : va_X b 6 xs s s.heap) (hbl : b < s.heap.size) (hlocks : meth.locks = false) (hK : va_K (dC, dI) vwCl (kTy cI cB cL cZ) s) (hN : nN s) {q_663 : Nat} {q_664 : Nat} {q_665 : Nat} {q_666 : Nat} {q_667 : Nat} {q_668 : Nat} {q_669 : Nat} {q_670 : Nat} {q_671 : Nat} {q_672 : Nat} {q_673 : Nat} {q_706 : Nat} {q_707 : Nat} {q_708 : Nat} {f_709 : Nat → Int32} {q_713 : Nat} {fs_714 : List Value} {q_732 : Nat} {f_733 : Nat → Int32} {w1 : Int32} (ew1 : w1 = xs 1) {w2 : Int32} (ew2 : w2 = xs 2) {w3 : Int32} (ew3 : w3 = xs 3) {w4 : Int32} (ew4 : w4 = xs 4) {w5 : Int32} (ew5 : w5 = xs 5) {H : Heap} {locs : List Loc} (hP : va_P (dC, dI) vwCl [(q_663, .inr (9, [.ref q_664, .int 0, .ref q_665, .ref q_666, .ref q_667, .int 0, .int (-1), .ref q_668, .ref q_669, .ref q_670, .ref q_671, .ref q_672, .ref q_673])), (q_672, .inr (2, [.ref q_669, .ref q_706, .ref q_707, .ref q_708, .int 1, .int 0, .int 0, .int (-1), .int 0, .int 0])), (q_706, .inl (cI, 4, .inl f_709)), (q_713, .inr (10, fs_714)), (q_732, .inl (cI, 4, .inl f_733))] H) (hD : va_D (fun q : Nat => s.heap.size ≤ q) [(q_663, .inr (9, [.ref q_664, .int 0, .ref q_665, .ref q_666, .ref q_667, .int 0, .int (-1), .ref q_668, .ref q_669, .ref q_670, .ref q_671, .ref q_672, .ref q_673])), (q_672, .inr (2, [.ref q_669, .ref q_706, .ref q_707, .ref q_708, .int 1, .int 0, .int 0, .int (-1), .int 0, .int 0])), (q_706, .inl (cI, 4, .inl f_709)), (q_713, .inr (10, fs_714)), (q_732, .inl (cI, 4, .inl f_733))]) (hS : va_S (fun q : Nat => s.heap.size ≤ q) s.heap H locs) {ls : Array Slot} (hl : lv_has ls 4 [(3, .int 0), (2, .ref q_713), (1, .ref q_663), (0, .ref b)]) (hf_734 : fs_714.length = 68) (hf_751 : fs_714[61]? = some (.ref q_732)) (h1 : ¬ w1 < 0) (h2 : ¬ 3 < w1) (h3 : ¬ w2 < 1) (h4 : w2 ≤ 99) : W p l e room_1 s m #[Value.ref b] below meth c H locs 84 30598 (lw_Z below #[Value.ref b] s) (F0 m 461 ls []) := by
  have hA : ∀ q : Nat, s.heap.size ≤ q → (fun q : Nat => s.heap.size ≤ q) q := fun _ h => h
  have hbA : ¬ (fun q : Nat => s.heap.size ≤ q) b := Nat.not_le.mpr hbl
  refine lv_aload_n hx hb dL_law_461 rfl (lv_at hl 2 rfl) ?_
  refine lv_aload_n hx hb dL_law_462 rfl (lv_at hl 3 rfl) ?_
  refine lv_iload_n hx hb dL_law_463 rfl (lv_at hl 0 rfl) ?_
  refine lv_iconst (v := 1) hx hb dL_law_464 (by decide) ?_
  refine lv_iadd hx hb dL_law_465 ?_
  refine lv_topi (fun y_929 ey_929 => ?_)
  obtain rfl : y_929 = 1 := ey_929.trans (by decide)
  refine va_sld hx hb hX hbl hbA hS (by unfold vp_in; decide) dL_law_466 ?_
  refine lv_topi (fun y_930 ey_930 => ?_)
  obtain rfl : y_930 = w1 := ey_930.trans ((congrArg xs (by decide : (1 : Int32).toNatClampNeg = 1)).trans ew1.symm)
  refine lv_aload_n hx hb dL_law_467 rfl (lv_at hl 3 rfl) ?_
  refine lv_iload_n hx hb dL_law_468 rfl (lv_at hl 0 rfl) ?_
  refine lv_iconst (v := 2) hx hb dL_law_469 (by decide) ?_
  refine lv_iadd hx hb dL_law_470 ?_
  refine lv_topi (fun y_931 ey_931 => ?_)
  obtain rfl : y_931 = 2 := ey_931.trans (by decide)
  refine va_sld hx hb hX hbl hbA hS (by unfold vp_in; decide) dL_law_471 ?_
  refine lv_topi (fun y_932 ey_932 => ?_)
  obtain rfl : y_932 = w2 := ey_932.trans ((congrArg xs (by decide : (2 : Int32).toNatClampNeg = 2)).trans ew2.symm)
  have hPc := hP.sub (ws' := [(q_663, .inr (9, [.ref q_664, .int 0, .ref q_665, .ref q_666, .ref q_667, .int 0, .int (-1), .ref q_668, .ref q_669, .ref q_670, .ref q_671, .ref q_672, .ref q_673])), (q_672, .inr (2, [.ref q_669, .ref q_706, .ref q_707, .ref q_708, .int 1, .int 0, .int 0, .int (-1), .int 0, .int 0])), (q_706, .inl (cI, 4, .inl f_709))]) [0, 1, 2] rfl
  have hDc := hD.sub (ws' := [(q_663, .inr (9, [.ref q_664, .int 0, .ref q_665, .ref q_666, .ref q_667, .int 0, .int (-1), .ref q_668, .ref q_669, .ref q_670, .ref q_671, .ref q_672, .ref q_673])), (q_672, .inr (2, [.ref q_669, .ref q_706, .ref q_707, .ref q_708, .int 1, .int 0, .int 0, .int (-1), .int 0, .int 0])), (q_706, .inl (cI, 4, .inl f_709))]) [0, 1, 2] (by decide) rfl
  have hFc := va_free (wc := [(q_663, .inr (9, [.ref q_664, .int 0, .ref q_665, .ref q_666, .ref q_667, .int 0, .int (-1), .ref q_668, .ref q_669, .ref q_670, .ref q_671, .ref q_672, .ref q_673])), (q_672, .inr (2, [.ref q_669, .ref q_706, .ref q_707, .ref q_708, .int 1, .int 0, .int 0, .int (-1), .int 0, .int 0])), (q_706, .inl (cI, 4, .inl f_709))]) hD hS hA [0, 1, 2] rfl
  refine va_calli (va_runV (As := [.int w1, .int w2]) (rest := []) ⟨hx, hb, hml, hown, hts⟩ (c_priceY l dC dI cI cB cL cZ (q_663) (q_664) (q_665) (q_666) (q_667) (q_668) (q_669) (q_670) (q_671) (q_672) (q_673) (q_669) (q_706) (q_707) (q_708) (w1) (w2) (f_709) H.size (h1) (h2) (h3) (h4)) (cwV 2 hts gL_law_X10_price rfl rfl rfl (by decide +kernel) ⟨Nat.le_of_ble_eq_true rfl, Nat.le_of_ble_eq_true rfl⟩) ⟨cP_fb, va_recv hK hPc (ci := 9) (q0 := 0) rfl rfl, fun U hU hW => cP_pre hPc hK hDc hN U hU hW⟩ rfl rfl hl.1 rfl (lv_room (Nat.le_of_ble_eq_true rfl)) dL_law_472 ⟨Nat.le_of_ble_eq_true rfl, Nat.le_of_ble_eq_true rfl⟩) hS (fun q _ h => hFc q h) hFc (fun r_933 u t H1 locs ht hvm hw hB hz1 hk1 hS => ?_)
  obtain ⟨hP1, hD1⟩ := hB
  rw [ht] at hP1
  obtain ⟨hP, hD⟩ := va_join (wr := [(q_713, .inr (10, fs_714)), (q_732, .inl (cI, 4, .inl f_733))]) (w1 := []) hP hD [0, 1, 2] [3, 4] rfl rfl (by decide) (by decide) hk1 hFc hP1 hD1
  generalize H1 = H at hP hS ⊢
  have hP : va_P (dC, dI) vwCl [(q_713, .inr (10, fs_714)), (q_732, .inl (cI, 4, .inl f_733))] H := hP
  have hD : va_D (fun q : Nat => s.heap.size ≤ q) [(q_713, .inr (10, fs_714)), (q_732, .inl (cI, 4, .inl f_733))] := hD
  obtain rfl : r_933 = 1 := hw
  refine lv_aload_n hx hb dL_law_475 rfl (lv_at hl 1 rfl) ?_
  refine lv_aload_n hx hb dL_law_476 rfl (lv_at hl 3 rfl) ?_
  refine lv_iload_n hx hb dL_law_477 rfl (lv_at hl 0 rfl) ?_
  refine lv_iconst (v := 1) hx hb dL_law_478 (by decide) ?_
  refine lv_iadd hx hb dL_law_479 ?_
  refine lv_topi (fun y_934 ey_934 => ?_)
  obtain rfl : y_934 = 1 := ey_934.trans (by decide)
  refine va_sld hx hb hX hbl hbA hS (by unfold vp_in; decide) dL_law_480 ?_
  refine lv_topi (fun y_935 ey_935 => ?_)
  obtain rfl : y_935 = w1 := ey_935.trans ((congrArg xs (by decide : (1 : Int32).toNatClampNeg = 1)).trans ew1.symm)
  refine lv_aload_n hx hb dL_law_481 rfl (lv_at hl 3 rfl) ?_
  refine lv_iload_n hx hb dL_law_482 rfl (lv_at hl 0 rfl) ?_
  refine lv_iconst (v := 2) hx hb dL_law_483 (by decide) ?_
  refine lv_iadd hx hb dL_law_484 ?_
  refine lv_topi (fun y_936 ey_936 => ?_)
  obtain rfl : y_936 = 2 := ey_936.trans (by decide)
  refine va_sld hx hb hX hbl hbA hS (by unfold vp_in; decide) dL_law_485 ?_
  refine lv_topi (fun y_937 ey_937 => ?_)
  obtain rfl : y_937 = w2 := ey_937.trans ((congrArg xs (by decide : (2 : Int32).toNatClampNeg = 2)).trans ew2.symm)
  have hPc := hP.sub (ws' := [(q_713, .inr (10, fs_714)), (q_732, .inl (cI, 4, .inl f_733))]) [0, 1] rfl
  have hDc := hD.sub (ws' := [(q_713, .inr (10, fs_714)), (q_732, .inl (cI, 4, .inl f_733))]) [0, 1] (by decide) rfl
  have hFc := va_free (wc := [(q_713, .inr (10, fs_714)), (q_732, .inl (cI, 4, .inl f_733))]) hD hS hA [0, 1] rfl
  refine va_calli (va_runV (As := [.int w1, .int w2]) (rest := [.int 1]) ⟨hx, hb, hml, hown, hts⟩ (m_priceY l dC dI cI cB cL cZ (q_713) (q_732) (w1) (w2) (fs_714) (f_733) H.size hf_734 hf_751 (h1) (h2) (h3) (h4)) (cwV 2 hts gL_law_X11_price rfl rfl rfl (by decide +kernel) ⟨Nat.le_of_ble_eq_true rfl, Nat.le_of_ble_eq_true rfl⟩) ⟨cP_fb, va_recv hK hPc (ci := 10) (q0 := 0) rfl rfl, fun U hU hW => cP_pre hPc hK hDc hN U hU hW⟩ rfl rfl hl.1 rfl (lv_room (Nat.le_of_ble_eq_true rfl)) dL_law_486 ⟨Nat.le_of_ble_eq_true rfl, Nat.le_of_ble_eq_true rfl⟩) hS (fun q _ h => hFc q h) hFc (fun r_938 u t H1 locs ht hvm hw hB hz1 hk1 hS => ?_)
  obtain ⟨hP1, hD1⟩ := hB
  rw [ht] at hP1
  obtain ⟨hP, hD⟩ := va_join (wr := []) (w1 := []) hP hD [0, 1] [] rfl rfl (by decide) (by decide) hk1 hFc hP1 hD1
  generalize H1 = H at hP hS ⊢
  have hP : va_P (dC, dI) vwCl [] H := hP
  have hD : va_D (fun q : Nat => s.heap.size ≤ q) [] := hD
  obtain rfl : r_938 = 1 := hw
  refine lv_icmp_eq (tgt := 553) hx hb dL_law_489 (by decide) (fun _ => ?_) (fun c9 => absurd (by decide) c9)
  refine lv_iinc (v := 6) (lv' := [(3, .int 6), (2, .ref q_713), (1, .ref q_663), (0, .ref b)]) hx hb dL_law_553 hl (k := 0) rfl (by decide) (by decide) rfl (fun ls hl => ?_)
  refine lv_goto (tgt := 18) hx hb dL_law_556 (by decide) ?_
  refine lv_iload_n hx hb dL_law_18 rfl (lv_at hl 0 rfl) ?_
  refine lv_aload_n hx hb dL_law_19 rfl (lv_at hl 3 rfl) ?_
  refine va_slen hx hb hX hbl hbA hS dL_law_20 ?_
  refine lv_topi (fun y_939 ey_939 => ?_)
  obtain rfl : y_939 = 6 := ey_939.trans (by decide)
  refine lv_bipush (v := 6) hx hb dL_law_21 (by decide) ?_
  refine lv_isub hx hb dL_law_23 ?_
  refine lv_topi (fun y_940 ey_940 => ?_)
  obtain rfl : y_940 = 0 := ey_940.trans (by decide)
  refine lv_icmp_gt (tgt := 559) hx hb dL_law_24 (by decide) (fun _ => ?_) (fun c9 => absurd (by decide) c9)
  refine lv_iconst (v := 1) hx hb dL_law_559 (by decide) ?_
  refine va_forget (fun q hq => hS.2.2 q hq) ?_
  exact lw_ret hx hb hr hlocks dL_law_560

set_option maxHeartbeats 4000000 in
set_option maxRecDepth 100000 in
theorem lw_priceN {p : Program} {l : Launch} {e : Env} {s : State} {m : MethodId} {below : List Frame} {meth : Method} {c : Code} {dC : Nat → ClassId} {dI : Nat → Nat → Nat} {cI cB cL cZ : ClassId} {b : Nat} {xs : Nat → Int32} (hx : p.tables.exec = Jvm.exec) (hb : c.code = cL_law) (hr : meth.sig.returnType = ret) (hml : c.maxLocals = 4) (hown : s.vm.findClass RL = some m.cls) (hts : ∀ w ∈ wsL_law, w.before #[Value.ref b] s = true) (hX : va_X b 6 xs s s.heap) (hbl : b < s.heap.size) (hlocks : meth.locks = false) (hK : va_K (dC, dI) vwCl (kTy cI cB cL cZ) s) (hN : nN s) {q_663 : Nat} {q_664 : Nat} {q_665 : Nat} {q_666 : Nat} {q_667 : Nat} {q_668 : Nat} {q_669 : Nat} {q_670 : Nat} {q_671 : Nat} {q_672 : Nat} {q_673 : Nat} {q_713 : Nat} {fs_714 : List Value} {w1 : Int32} (ew1 : w1 = xs 1) {w2 : Int32} (ew2 : w2 = xs 2) {w3 : Int32} (ew3 : w3 = xs 3) {w4 : Int32} (ew4 : w4 = xs 4) {w5 : Int32} (ew5 : w5 = xs 5) {H : Heap} {locs : List Loc} (hP : va_P (dC, dI) vwCl [(q_663, .inr (9, [.ref q_664, .int 0, .ref q_665, .ref q_666, .ref q_667, .int 0, .int (-1), .ref q_668, .ref q_669, .ref q_670, .ref q_671, .ref q_672, .ref q_673])), (q_713, .inr (10, fs_714))] H) (hD : va_D (fun q : Nat => s.heap.size ≤ q) [(q_663, .inr (9, [.ref q_664, .int 0, .ref q_665, .ref q_666, .ref q_667, .int 0, .int (-1), .ref q_668, .ref q_669, .ref q_670, .ref q_671, .ref q_672, .ref q_673])), (q_713, .inr (10, fs_714))]) (hS : va_S (fun q : Nat => s.heap.size ≤ q) s.heap H locs) {ls : Array Slot} (hl : lv_has ls 4 [(3, .int 0), (2, .ref q_713), (1, .ref q_663), (0, .ref b)]) (hf_734 : fs_714.length = 68) (hb9 : w1 < 0 ∨ 3 < w1 ∨ w2 < 1 ∨ ¬ w2 ≤ 99) : W p l e room_1 s m #[Value.ref b] below meth c H locs 84 30598 (lw_Z below #[Value.ref b] s) (F0 m 461 ls []) := by
  have hA : ∀ q : Nat, s.heap.size ≤ q → (fun q : Nat => s.heap.size ≤ q) q := fun _ h => h
  have hbA : ¬ (fun q : Nat => s.heap.size ≤ q) b := Nat.not_le.mpr hbl
  refine lv_aload_n hx hb dL_law_461 rfl (lv_at hl 2 rfl) ?_
  refine lv_aload_n hx hb dL_law_462 rfl (lv_at hl 3 rfl) ?_
  refine lv_iload_n hx hb dL_law_463 rfl (lv_at hl 0 rfl) ?_
  refine lv_iconst (v := 1) hx hb dL_law_464 (by decide) ?_
  refine lv_iadd hx hb dL_law_465 ?_
  refine lv_topi (fun y_941 ey_941 => ?_)
  obtain rfl : y_941 = 1 := ey_941.trans (by decide)
  refine va_sld hx hb hX hbl hbA hS (by unfold vp_in; decide) dL_law_466 ?_
  refine lv_topi (fun y_942 ey_942 => ?_)
  obtain rfl : y_942 = w1 := ey_942.trans ((congrArg xs (by decide : (1 : Int32).toNatClampNeg = 1)).trans ew1.symm)
  refine lv_aload_n hx hb dL_law_467 rfl (lv_at hl 3 rfl) ?_
  refine lv_iload_n hx hb dL_law_468 rfl (lv_at hl 0 rfl) ?_
  refine lv_iconst (v := 2) hx hb dL_law_469 (by decide) ?_
  refine lv_iadd hx hb dL_law_470 ?_
  refine lv_topi (fun y_943 ey_943 => ?_)
  obtain rfl : y_943 = 2 := ey_943.trans (by decide)
  refine va_sld hx hb hX hbl hbA hS (by unfold vp_in; decide) dL_law_471 ?_
  refine lv_topi (fun y_944 ey_944 => ?_)
  obtain rfl : y_944 = w2 := ey_944.trans ((congrArg xs (by decide : (2 : Int32).toNatClampNeg = 2)).trans ew2.symm)
  have hPc := hP.sub (ws' := [(q_663, .inr (9, [.ref q_664, .int 0, .ref q_665, .ref q_666, .ref q_667, .int 0, .int (-1), .ref q_668, .ref q_669, .ref q_670, .ref q_671, .ref q_672, .ref q_673]))]) [0] rfl
  have hDc := hD.sub (ws' := [(q_663, .inr (9, [.ref q_664, .int 0, .ref q_665, .ref q_666, .ref q_667, .int 0, .int (-1), .ref q_668, .ref q_669, .ref q_670, .ref q_671, .ref q_672, .ref q_673]))]) [0] (by decide) rfl
  have hFc := va_free (wc := [(q_663, .inr (9, [.ref q_664, .int 0, .ref q_665, .ref q_666, .ref q_667, .int 0, .int (-1), .ref q_668, .ref q_669, .ref q_670, .ref q_671, .ref q_672, .ref q_673]))]) hD hS hA [0] rfl
  refine va_calli (va_runV (As := [.int w1, .int w2]) (rest := []) ⟨hx, hb, hml, hown, hts⟩ (c_priceN l dC dI cI cB cL cZ (q_663) (q_664) (q_665) (q_666) (q_667) (q_668) (q_669) (q_670) (q_671) (q_672) (q_673) (w1) (w2) H.size (hb9)) (cwV 2 hts gL_law_X10_price rfl rfl rfl (by decide +kernel) ⟨Nat.le_of_ble_eq_true rfl, Nat.le_of_ble_eq_true rfl⟩) ⟨cP_fb, va_recv hK hPc (ci := 9) (q0 := 0) rfl rfl, fun U hU hW => cP_pre hPc hK hDc hN U hU hW⟩ rfl rfl hl.1 rfl (lv_room (Nat.le_of_ble_eq_true rfl)) dL_law_472 ⟨Nat.le_of_ble_eq_true rfl, Nat.le_of_ble_eq_true rfl⟩) hS (fun q _ h => hFc q h) hFc (fun r_945 u t H1 locs ht hvm hw hB hz1 hk1 hS => ?_)
  obtain ⟨hP1, hD1⟩ := hB
  rw [ht] at hP1
  obtain ⟨hP, hD⟩ := va_join (wr := [(q_713, .inr (10, fs_714))]) (w1 := []) hP hD [0] [1] rfl rfl (by decide) (by decide) hk1 hFc hP1 hD1
  generalize H1 = H at hP hS ⊢
  have hP : va_P (dC, dI) vwCl [(q_713, .inr (10, fs_714))] H := hP
  have hD : va_D (fun q : Nat => s.heap.size ≤ q) [(q_713, .inr (10, fs_714))] := hD
  obtain rfl : r_945 = 0 := hw
  refine lv_aload_n hx hb dL_law_475 rfl (lv_at hl 1 rfl) ?_
  refine lv_aload_n hx hb dL_law_476 rfl (lv_at hl 3 rfl) ?_
  refine lv_iload_n hx hb dL_law_477 rfl (lv_at hl 0 rfl) ?_
  refine lv_iconst (v := 1) hx hb dL_law_478 (by decide) ?_
  refine lv_iadd hx hb dL_law_479 ?_
  refine lv_topi (fun y_946 ey_946 => ?_)
  obtain rfl : y_946 = 1 := ey_946.trans (by decide)
  refine va_sld hx hb hX hbl hbA hS (by unfold vp_in; decide) dL_law_480 ?_
  refine lv_topi (fun y_947 ey_947 => ?_)
  obtain rfl : y_947 = w1 := ey_947.trans ((congrArg xs (by decide : (1 : Int32).toNatClampNeg = 1)).trans ew1.symm)
  refine lv_aload_n hx hb dL_law_481 rfl (lv_at hl 3 rfl) ?_
  refine lv_iload_n hx hb dL_law_482 rfl (lv_at hl 0 rfl) ?_
  refine lv_iconst (v := 2) hx hb dL_law_483 (by decide) ?_
  refine lv_iadd hx hb dL_law_484 ?_
  refine lv_topi (fun y_948 ey_948 => ?_)
  obtain rfl : y_948 = 2 := ey_948.trans (by decide)
  refine va_sld hx hb hX hbl hbA hS (by unfold vp_in; decide) dL_law_485 ?_
  refine lv_topi (fun y_949 ey_949 => ?_)
  obtain rfl : y_949 = w2 := ey_949.trans ((congrArg xs (by decide : (2 : Int32).toNatClampNeg = 2)).trans ew2.symm)
  have hPc := hP.sub (ws' := [(q_713, .inr (10, fs_714))]) [0] rfl
  have hDc := hD.sub (ws' := [(q_713, .inr (10, fs_714))]) [0] (by decide) rfl
  have hFc := va_free (wc := [(q_713, .inr (10, fs_714))]) hD hS hA [0] rfl
  refine va_calli (va_runV (As := [.int w1, .int w2]) (rest := [.int 0]) ⟨hx, hb, hml, hown, hts⟩ (m_priceN l dC dI cI cB cL cZ (q_713) (w1) (w2) (fs_714) H.size hf_734 (hb9)) (cwV 2 hts gL_law_X11_price rfl rfl rfl (by decide +kernel) ⟨Nat.le_of_ble_eq_true rfl, Nat.le_of_ble_eq_true rfl⟩) ⟨cP_fb, va_recv hK hPc (ci := 10) (q0 := 0) rfl rfl, fun U hU hW => cP_pre hPc hK hDc hN U hU hW⟩ rfl rfl hl.1 rfl (lv_room (Nat.le_of_ble_eq_true rfl)) dL_law_486 ⟨Nat.le_of_ble_eq_true rfl, Nat.le_of_ble_eq_true rfl⟩) hS (fun q _ h => hFc q h) hFc (fun r_950 u t H1 locs ht hvm hw hB hz1 hk1 hS => ?_)
  obtain ⟨hP1, hD1⟩ := hB
  rw [ht] at hP1
  obtain ⟨hP, hD⟩ := va_join (wr := []) (w1 := []) hP hD [0] [] rfl rfl (by decide) (by decide) hk1 hFc hP1 hD1
  generalize H1 = H at hP hS ⊢
  have hP : va_P (dC, dI) vwCl [] H := hP
  have hD : va_D (fun q : Nat => s.heap.size ≤ q) [] := hD
  obtain rfl : r_950 = 0 := hw
  refine lv_icmp_eq (tgt := 553) hx hb dL_law_489 (by decide) (fun _ => ?_) (fun c9 => absurd (by decide) c9)
  refine lv_iinc (v := 6) (lv' := [(3, .int 6), (2, .ref q_713), (1, .ref q_663), (0, .ref b)]) hx hb dL_law_553 hl (k := 0) rfl (by decide) (by decide) rfl (fun ls hl => ?_)
  refine lv_goto (tgt := 18) hx hb dL_law_556 (by decide) ?_
  refine lv_iload_n hx hb dL_law_18 rfl (lv_at hl 0 rfl) ?_
  refine lv_aload_n hx hb dL_law_19 rfl (lv_at hl 3 rfl) ?_
  refine va_slen hx hb hX hbl hbA hS dL_law_20 ?_
  refine lv_topi (fun y_951 ey_951 => ?_)
  obtain rfl : y_951 = 6 := ey_951.trans (by decide)
  refine lv_bipush (v := 6) hx hb dL_law_21 (by decide) ?_
  refine lv_isub hx hb dL_law_23 ?_
  refine lv_topi (fun y_952 ey_952 => ?_)
  obtain rfl : y_952 = 0 := ey_952.trans (by decide)
  refine lv_icmp_gt (tgt := 559) hx hb dL_law_24 (by decide) (fun _ => ?_) (fun c9 => absurd (by decide) c9)
  refine lv_iconst (v := 1) hx hb dL_law_559 (by decide) ?_
  refine va_forget (fun q hq => hS.2.2 q hq) ?_
  exact lw_ret hx hb hr hlocks dL_law_560

set_option maxHeartbeats 4000000 in
set_option maxRecDepth 100000 in
theorem lw_mend {p : Program} {l : Launch} {e : Env} {s : State} {m : MethodId} {below : List Frame} {meth : Method} {c : Code} {dC : Nat → ClassId} {dI : Nat → Nat → Nat} {cI cB cL cZ : ClassId} {b : Nat} {xs : Nat → Int32} (hx : p.tables.exec = Jvm.exec) (hb : c.code = cL_law) (hr : meth.sig.returnType = ret) (hml : c.maxLocals = 4) (hown : s.vm.findClass RL = some m.cls) (hts : ∀ w ∈ wsL_law, w.before #[Value.ref b] s = true) (hX : va_X b 6 xs s s.heap) (hbl : b < s.heap.size) (hlocks : meth.locks = false) (hK : va_K (dC, dI) vwCl (kTy cI cB cL cZ) s) (hN : nN s) {q_663 : Nat} {q_664 : Nat} {q_665 : Nat} {q_666 : Nat} {q_667 : Nat} {q_668 : Nat} {q_669 : Nat} {q_670 : Nat} {q_671 : Nat} {q_672 : Nat} {q_673 : Nat} {q_687 : Nat} {q_688 : Nat} {q_689 : Nat} {q_690 : Nat} {q_691 : Nat} {q_692 : Nat} {q_693 : Nat} {q_694 : Nat} {q_695 : Nat} {q_696 : Nat} {q_697 : Nat} {q_713 : Nat} {fs_714 : List Value} {w1 : Int32} (ew1 : w1 = xs 1) {w2 : Int32} (ew2 : w2 = xs 2) {w3 : Int32} (ew3 : w3 = xs 3) {w4 : Int32} (ew4 : w4 = xs 4) {w5 : Int32} (ew5 : w5 = xs 5) {H : Heap} {locs : List Loc} (hP : va_P (dC, dI) vwCl [(q_663, .inr (9, [.ref q_664, .int 0, .ref q_665, .ref q_666, .ref q_667, .int 0, .int (-1), .ref q_668, .ref q_669, .ref q_670, .ref q_671, .ref q_672, .ref q_673])), (q_668, .inr (6, [.ref q_687, .int (-1), .ref q_688])), (q_687, .inr (3, [.ref q_689, .ref q_690, .ref q_691, .ref q_692, .ref q_693, .ref q_694, .ref q_695, .ref q_696, .ref q_697, .int 0, .int 0, .int 0, .int 0, .int (-1)])), (q_713, .inr (10, fs_714))] H) (hD : va_D (fun q : Nat => s.heap.size ≤ q) [(q_663, .inr (9, [.ref q_664, .int 0, .ref q_665, .ref q_666, .ref q_667, .int 0, .int (-1), .ref q_668, .ref q_669, .ref q_670, .ref q_671, .ref q_672, .ref q_673])), (q_668, .inr (6, [.ref q_687, .int (-1), .ref q_688])), (q_687, .inr (3, [.ref q_689, .ref q_690, .ref q_691, .ref q_692, .ref q_693, .ref q_694, .ref q_695, .ref q_696, .ref q_697, .int 0, .int 0, .int 0, .int 0, .int (-1)])), (q_713, .inr (10, fs_714))]) (hS : va_S (fun q : Nat => s.heap.size ≤ q) s.heap H locs) {ls : Array Slot} (hl : lv_has ls 4 [(3, .int 0), (2, .ref q_713), (1, .ref q_663), (0, .ref b)]) (hf_734 : fs_714.length = 68) (hf_756 : fs_714[39]? = some (.int (-1))) : W p l e room_1 s m #[Value.ref b] below meth c H locs 84 30598 (lw_Z below #[Value.ref b] s) (F0 m 494 ls []) := by
  have hA : ∀ q : Nat, s.heap.size ≤ q → (fun q : Nat => s.heap.size ≤ q) q := fun _ h => h
  have hbA : ¬ (fun q : Nat => s.heap.size ≤ q) b := Nat.not_le.mpr hbl
  refine lv_aload_n hx hb dL_law_494 rfl (lv_at hl 2 rfl) ?_
  have hPc := hP.sub (ws' := [(q_663, .inr (9, [.ref q_664, .int 0, .ref q_665, .ref q_666, .ref q_667, .int 0, .int (-1), .ref q_668, .ref q_669, .ref q_670, .ref q_671, .ref q_672, .ref q_673])), (q_668, .inr (6, [.ref q_687, .int (-1), .ref q_688])), (q_687, .inr (3, [.ref q_689, .ref q_690, .ref q_691, .ref q_692, .ref q_693, .ref q_694, .ref q_695, .ref q_696, .ref q_697, .int 0, .int 0, .int 0, .int 0, .int (-1)]))]) [0, 1, 2] rfl
  have hDc := hD.sub (ws' := [(q_663, .inr (9, [.ref q_664, .int 0, .ref q_665, .ref q_666, .ref q_667, .int 0, .int (-1), .ref q_668, .ref q_669, .ref q_670, .ref q_671, .ref q_672, .ref q_673])), (q_668, .inr (6, [.ref q_687, .int (-1), .ref q_688])), (q_687, .inr (3, [.ref q_689, .ref q_690, .ref q_691, .ref q_692, .ref q_693, .ref q_694, .ref q_695, .ref q_696, .ref q_697, .int 0, .int 0, .int 0, .int 0, .int (-1)]))]) [0, 1, 2] (by decide) rfl
  have hFc := va_free (wc := [(q_663, .inr (9, [.ref q_664, .int 0, .ref q_665, .ref q_666, .ref q_667, .int 0, .int (-1), .ref q_668, .ref q_669, .ref q_670, .ref q_671, .ref q_672, .ref q_673])), (q_668, .inr (6, [.ref q_687, .int (-1), .ref q_688])), (q_687, .inr (3, [.ref q_689, .ref q_690, .ref q_691, .ref q_692, .ref q_693, .ref q_694, .ref q_695, .ref q_696, .ref q_697, .int 0, .int 0, .int 0, .int 0, .int (-1)]))]) hD hS hA [0, 1, 2] rfl
  refine va_calli (va_runV (As := []) (rest := []) ⟨hx, hb, hml, hown, hts⟩ (c_mend l dC dI cI cB cL cZ (q_663) (q_664) (q_665) (q_666) (q_667) (q_668) (q_669) (q_670) (q_671) (q_672) (q_673) (q_687) (q_688) (q_689) (q_690) (q_691) (q_692) (q_693) (q_694) (q_695) (q_696) (q_697) H.size) (cwV 0 hts gL_law_X10_mend rfl rfl rfl (by decide +kernel) ⟨Nat.le_of_ble_eq_true rfl, Nat.le_of_ble_eq_true rfl⟩) ⟨cP_fb, va_recv hK hPc (ci := 9) (q0 := 0) rfl rfl, fun U hU hW => cP_pre hPc hK hDc hN U hU hW⟩ rfl rfl hl.1 rfl (lv_room (Nat.le_of_ble_eq_true rfl)) dL_law_495 ⟨Nat.le_of_ble_eq_true rfl, Nat.le_of_ble_eq_true rfl⟩) hS (fun q _ h => hFc q h) hFc (fun r_953 u t H1 locs ht hvm hw hB hz1 hk1 hS => ?_)
  obtain ⟨hP1, hD1⟩ := hB
  rw [ht] at hP1
  obtain ⟨hP, hD⟩ := va_join (wr := [(q_713, .inr (10, fs_714))]) (w1 := []) hP hD [0, 1, 2] [3] rfl rfl (by decide) (by decide) hk1 hFc hP1 hD1
  generalize H1 = H at hP hS ⊢
  have hP : va_P (dC, dI) vwCl [(q_713, .inr (10, fs_714))] H := hP
  have hD : va_D (fun q : Nat => s.heap.size ≤ q) [(q_713, .inr (10, fs_714))] := hD
  obtain rfl : r_953 = (-1) := hw
  refine lv_aload_n hx hb dL_law_498 rfl (lv_at hl 1 rfl) ?_
  have hPc := hP.sub (ws' := [(q_713, .inr (10, fs_714))]) [0] rfl
  have hDc := hD.sub (ws' := [(q_713, .inr (10, fs_714))]) [0] (by decide) rfl
  have hFc := va_free (wc := [(q_713, .inr (10, fs_714))]) hD hS hA [0] rfl
  refine va_calli (va_runV (As := []) (rest := [.int (-1)]) ⟨hx, hb, hml, hown, hts⟩ (m_mend l dC dI cI cB cL cZ (q_713) (fs_714) H.size hf_734 hf_756) (cwV 0 hts gL_law_X11_mend rfl rfl rfl (by decide +kernel) ⟨Nat.le_of_ble_eq_true rfl, Nat.le_of_ble_eq_true rfl⟩) ⟨cP_fb, va_recv hK hPc (ci := 10) (q0 := 0) rfl rfl, fun U hU hW => cP_pre hPc hK hDc hN U hU hW⟩ rfl rfl hl.1 rfl (lv_room (Nat.le_of_ble_eq_true rfl)) dL_law_499 ⟨Nat.le_of_ble_eq_true rfl, Nat.le_of_ble_eq_true rfl⟩) hS (fun q _ h => hFc q h) hFc (fun r_954 u t H1 locs ht hvm hw hB hz1 hk1 hS => ?_)
  obtain ⟨hP1, hD1⟩ := hB
  rw [ht] at hP1
  obtain ⟨hP, hD⟩ := va_join (wr := []) (w1 := []) hP hD [0] [] rfl rfl (by decide) (by decide) hk1 hFc hP1 hD1
  generalize H1 = H at hP hS ⊢
  have hP : va_P (dC, dI) vwCl [] H := hP
  have hD : va_D (fun q : Nat => s.heap.size ≤ q) [] := hD
  obtain rfl : r_954 = (-1) := hw
  refine lv_icmp_eq (tgt := 553) hx hb dL_law_502 (by decide) (fun _ => ?_) (fun c9 => absurd (by decide) c9)
  refine lv_iinc (v := 6) (lv' := [(3, .int 6), (2, .ref q_713), (1, .ref q_663), (0, .ref b)]) hx hb dL_law_553 hl (k := 0) rfl (by decide) (by decide) rfl (fun ls hl => ?_)
  refine lv_goto (tgt := 18) hx hb dL_law_556 (by decide) ?_
  refine lv_iload_n hx hb dL_law_18 rfl (lv_at hl 0 rfl) ?_
  refine lv_aload_n hx hb dL_law_19 rfl (lv_at hl 3 rfl) ?_
  refine va_slen hx hb hX hbl hbA hS dL_law_20 ?_
  refine lv_topi (fun y_955 ey_955 => ?_)
  obtain rfl : y_955 = 6 := ey_955.trans (by decide)
  refine lv_bipush (v := 6) hx hb dL_law_21 (by decide) ?_
  refine lv_isub hx hb dL_law_23 ?_
  refine lv_topi (fun y_956 ey_956 => ?_)
  obtain rfl : y_956 = 0 := ey_956.trans (by decide)
  refine lv_icmp_gt (tgt := 559) hx hb dL_law_24 (by decide) (fun _ => ?_) (fun c9 => absurd (by decide) c9)
  refine lv_iconst (v := 1) hx hb dL_law_559 (by decide) ?_
  refine va_forget (fun q hq => hS.2.2 q hq) ?_
  exact lw_ret hx hb hr hlocks dL_law_560

set_option maxHeartbeats 4000000 in
set_option maxRecDepth 100000 in
theorem lw_mended {p : Program} {l : Launch} {e : Env} {s : State} {m : MethodId} {below : List Frame} {meth : Method} {c : Code} {dC : Nat → ClassId} {dI : Nat → Nat → Nat} {cI cB cL cZ : ClassId} {b : Nat} {xs : Nat → Int32} (hx : p.tables.exec = Jvm.exec) (hb : c.code = cL_law) (hr : meth.sig.returnType = ret) (hml : c.maxLocals = 4) (hown : s.vm.findClass RL = some m.cls) (hts : ∀ w ∈ wsL_law, w.before #[Value.ref b] s = true) (hX : va_X b 6 xs s s.heap) (hbl : b < s.heap.size) (hlocks : meth.locks = false) (hK : va_K (dC, dI) vwCl (kTy cI cB cL cZ) s) (hN : nN s) {q_663 : Nat} {q_664 : Nat} {q_665 : Nat} {q_666 : Nat} {q_667 : Nat} {q_668 : Nat} {q_669 : Nat} {q_670 : Nat} {q_671 : Nat} {q_672 : Nat} {q_673 : Nat} {q_706 : Nat} {q_707 : Nat} {q_708 : Nat} {q_713 : Nat} {fs_714 : List Value} {w1 : Int32} (ew1 : w1 = xs 1) {w2 : Int32} (ew2 : w2 = xs 2) {w3 : Int32} (ew3 : w3 = xs 3) {w4 : Int32} (ew4 : w4 = xs 4) {w5 : Int32} (ew5 : w5 = xs 5) {H : Heap} {locs : List Loc} (hP : va_P (dC, dI) vwCl [(q_663, .inr (9, [.ref q_664, .int 0, .ref q_665, .ref q_666, .ref q_667, .int 0, .int (-1), .ref q_668, .ref q_669, .ref q_670, .ref q_671, .ref q_672, .ref q_673])), (q_672, .inr (2, [.ref q_669, .ref q_706, .ref q_707, .ref q_708, .int 1, .int 0, .int 0, .int (-1), .int 0, .int 0])), (q_713, .inr (10, fs_714))] H) (hD : va_D (fun q : Nat => s.heap.size ≤ q) [(q_663, .inr (9, [.ref q_664, .int 0, .ref q_665, .ref q_666, .ref q_667, .int 0, .int (-1), .ref q_668, .ref q_669, .ref q_670, .ref q_671, .ref q_672, .ref q_673])), (q_672, .inr (2, [.ref q_669, .ref q_706, .ref q_707, .ref q_708, .int 1, .int 0, .int 0, .int (-1), .int 0, .int 0])), (q_713, .inr (10, fs_714))]) (hS : va_S (fun q : Nat => s.heap.size ≤ q) s.heap H locs) {ls : Array Slot} (hl : lv_has ls 4 [(3, .int 0), (2, .ref q_713), (1, .ref q_663), (0, .ref b)]) (hf_734 : fs_714.length = 68) (hf_758 : fs_714[67]? = some (.int 0)) : W p l e room_1 s m #[Value.ref b] below meth c H locs 84 30598 (lw_Z below #[Value.ref b] s) (F0 m 507 ls []) := by
  have hA : ∀ q : Nat, s.heap.size ≤ q → (fun q : Nat => s.heap.size ≤ q) q := fun _ h => h
  have hbA : ¬ (fun q : Nat => s.heap.size ≤ q) b := Nat.not_le.mpr hbl
  refine lv_aload_n hx hb dL_law_507 rfl (lv_at hl 2 rfl) ?_
  refine lv_aload_n hx hb dL_law_508 rfl (lv_at hl 3 rfl) ?_
  refine lv_iload_n hx hb dL_law_509 rfl (lv_at hl 0 rfl) ?_
  refine lv_iconst (v := 1) hx hb dL_law_510 (by decide) ?_
  refine lv_iadd hx hb dL_law_511 ?_
  refine lv_topi (fun y_957 ey_957 => ?_)
  obtain rfl : y_957 = 1 := ey_957.trans (by decide)
  refine va_sld hx hb hX hbl hbA hS (by unfold vp_in; decide) dL_law_512 ?_
  refine lv_topi (fun y_958 ey_958 => ?_)
  obtain rfl : y_958 = w1 := ey_958.trans ((congrArg xs (by decide : (1 : Int32).toNatClampNeg = 1)).trans ew1.symm)
  have hPc := hP.sub (ws' := [(q_663, .inr (9, [.ref q_664, .int 0, .ref q_665, .ref q_666, .ref q_667, .int 0, .int (-1), .ref q_668, .ref q_669, .ref q_670, .ref q_671, .ref q_672, .ref q_673])), (q_672, .inr (2, [.ref q_669, .ref q_706, .ref q_707, .ref q_708, .int 1, .int 0, .int 0, .int (-1), .int 0, .int 0]))]) [0, 1] rfl
  have hDc := hD.sub (ws' := [(q_663, .inr (9, [.ref q_664, .int 0, .ref q_665, .ref q_666, .ref q_667, .int 0, .int (-1), .ref q_668, .ref q_669, .ref q_670, .ref q_671, .ref q_672, .ref q_673])), (q_672, .inr (2, [.ref q_669, .ref q_706, .ref q_707, .ref q_708, .int 1, .int 0, .int 0, .int (-1), .int 0, .int 0]))]) [0, 1] (by decide) rfl
  have hFc := va_free (wc := [(q_663, .inr (9, [.ref q_664, .int 0, .ref q_665, .ref q_666, .ref q_667, .int 0, .int (-1), .ref q_668, .ref q_669, .ref q_670, .ref q_671, .ref q_672, .ref q_673])), (q_672, .inr (2, [.ref q_669, .ref q_706, .ref q_707, .ref q_708, .int 1, .int 0, .int 0, .int (-1), .int 0, .int 0]))]) hD hS hA [0, 1] rfl
  refine va_calli (va_runV (As := [.int w1]) (rest := []) ⟨hx, hb, hml, hown, hts⟩ (c_mended l dC dI cI cB cL cZ (q_663) (q_664) (q_665) (q_666) (q_667) (q_668) (q_669) (q_670) (q_671) (q_672) (q_673) (q_669) (q_706) (q_707) (q_708) (w1) H.size) (cwV 1 hts gL_law_X10_mended rfl rfl rfl (by decide +kernel) ⟨Nat.le_of_ble_eq_true rfl, Nat.le_of_ble_eq_true rfl⟩) ⟨cP_fb, va_recv hK hPc (ci := 9) (q0 := 0) rfl rfl, fun U hU hW => cP_pre hPc hK hDc hN U hU hW⟩ rfl rfl hl.1 rfl (lv_room (Nat.le_of_ble_eq_true rfl)) dL_law_513 ⟨Nat.le_of_ble_eq_true rfl, Nat.le_of_ble_eq_true rfl⟩) hS (fun q _ h => hFc q h) hFc (fun r_959 u t H1 locs ht hvm hw hB hz1 hk1 hS => ?_)
  obtain ⟨hP1, hD1⟩ := hB
  rw [ht] at hP1
  obtain ⟨hP, hD⟩ := va_join (wr := [(q_713, .inr (10, fs_714))]) (w1 := []) hP hD [0, 1] [2] rfl rfl (by decide) (by decide) hk1 hFc hP1 hD1
  generalize H1 = H at hP hS ⊢
  have hP : va_P (dC, dI) vwCl [(q_713, .inr (10, fs_714))] H := hP
  have hD : va_D (fun q : Nat => s.heap.size ≤ q) [(q_713, .inr (10, fs_714))] := hD
  obtain rfl : r_959 = (-1) := hw
  refine lv_aload_n hx hb dL_law_516 rfl (lv_at hl 1 rfl) ?_
  refine lv_aload_n hx hb dL_law_517 rfl (lv_at hl 3 rfl) ?_
  refine lv_iload_n hx hb dL_law_518 rfl (lv_at hl 0 rfl) ?_
  refine lv_iconst (v := 1) hx hb dL_law_519 (by decide) ?_
  refine lv_iadd hx hb dL_law_520 ?_
  refine lv_topi (fun y_960 ey_960 => ?_)
  obtain rfl : y_960 = 1 := ey_960.trans (by decide)
  refine va_sld hx hb hX hbl hbA hS (by unfold vp_in; decide) dL_law_521 ?_
  refine lv_topi (fun y_961 ey_961 => ?_)
  obtain rfl : y_961 = w1 := ey_961.trans ((congrArg xs (by decide : (1 : Int32).toNatClampNeg = 1)).trans ew1.symm)
  have hPc := hP.sub (ws' := [(q_713, .inr (10, fs_714))]) [0] rfl
  have hDc := hD.sub (ws' := [(q_713, .inr (10, fs_714))]) [0] (by decide) rfl
  have hFc := va_free (wc := [(q_713, .inr (10, fs_714))]) hD hS hA [0] rfl
  refine va_calli (va_runV (As := [.int w1]) (rest := [.int (-1)]) ⟨hx, hb, hml, hown, hts⟩ (m_mended l dC dI cI cB cL cZ (q_713) (w1) (fs_714) H.size hf_734 hf_758) (cwV 1 hts gL_law_X11_mended rfl rfl rfl (by decide +kernel) ⟨Nat.le_of_ble_eq_true rfl, Nat.le_of_ble_eq_true rfl⟩) ⟨cP_fb, va_recv hK hPc (ci := 10) (q0 := 0) rfl rfl, fun U hU hW => cP_pre hPc hK hDc hN U hU hW⟩ rfl rfl hl.1 rfl (lv_room (Nat.le_of_ble_eq_true rfl)) dL_law_522 ⟨Nat.le_of_ble_eq_true rfl, Nat.le_of_ble_eq_true rfl⟩) hS (fun q _ h => hFc q h) hFc (fun r_962 u t H1 locs ht hvm hw hB hz1 hk1 hS => ?_)
  obtain ⟨hP1, hD1⟩ := hB
  rw [ht] at hP1
  obtain ⟨hP, hD⟩ := va_join (wr := []) (w1 := []) hP hD [0] [] rfl rfl (by decide) (by decide) hk1 hFc hP1 hD1
  generalize H1 = H at hP hS ⊢
  have hP : va_P (dC, dI) vwCl [] H := hP
  have hD : va_D (fun q : Nat => s.heap.size ≤ q) [] := hD
  obtain rfl : r_962 = (-1) := hw
  refine lv_icmp_eq (tgt := 553) hx hb dL_law_525 (by decide) (fun _ => ?_) (fun c9 => absurd (by decide) c9)
  refine lv_iinc (v := 6) (lv' := [(3, .int 6), (2, .ref q_713), (1, .ref q_663), (0, .ref b)]) hx hb dL_law_553 hl (k := 0) rfl (by decide) (by decide) rfl (fun ls hl => ?_)
  refine lv_goto (tgt := 18) hx hb dL_law_556 (by decide) ?_
  refine lv_iload_n hx hb dL_law_18 rfl (lv_at hl 0 rfl) ?_
  refine lv_aload_n hx hb dL_law_19 rfl (lv_at hl 3 rfl) ?_
  refine va_slen hx hb hX hbl hbA hS dL_law_20 ?_
  refine lv_topi (fun y_963 ey_963 => ?_)
  obtain rfl : y_963 = 6 := ey_963.trans (by decide)
  refine lv_bipush (v := 6) hx hb dL_law_21 (by decide) ?_
  refine lv_isub hx hb dL_law_23 ?_
  refine lv_topi (fun y_964 ey_964 => ?_)
  obtain rfl : y_964 = 0 := ey_964.trans (by decide)
  refine lv_icmp_gt (tgt := 559) hx hb dL_law_24 (by decide) (fun _ => ?_) (fun c9 => absurd (by decide) c9)
  refine lv_iconst (v := 1) hx hb dL_law_559 (by decide) ?_
  refine va_forget (fun q hq => hS.2.2 q hq) ?_
  exact lw_ret hx hb hr hlocks dL_law_560

set_option maxHeartbeats 4000000 in
set_option maxRecDepth 100000 in
theorem lw_count0 {p : Program} {l : Launch} {e : Env} {s : State} {m : MethodId} {below : List Frame} {meth : Method} {c : Code} {dC : Nat → ClassId} {dI : Nat → Nat → Nat} {cI cB cL cZ : ClassId} {b : Nat} {xs : Nat → Int32} (hx : p.tables.exec = Jvm.exec) (hb : c.code = cL_law) (hr : meth.sig.returnType = ret) (hml : c.maxLocals = 4) (hown : s.vm.findClass RL = some m.cls) (hts : ∀ w ∈ wsL_law, w.before #[Value.ref b] s = true) (hX : va_X b 6 xs s s.heap) (hbl : b < s.heap.size) (hlocks : meth.locks = false) (hK : va_K (dC, dI) vwCl (kTy cI cB cL cZ) s) (hN : nN s) {q_663 : Nat} {q_664 : Nat} {q_665 : Nat} {q_666 : Nat} {q_667 : Nat} {q_668 : Nat} {q_669 : Nat} {q_670 : Nat} {q_671 : Nat} {q_672 : Nat} {q_673 : Nat} {q_687 : Nat} {q_688 : Nat} {q_689 : Nat} {q_690 : Nat} {q_691 : Nat} {q_692 : Nat} {q_693 : Nat} {q_694 : Nat} {q_695 : Nat} {q_696 : Nat} {q_697 : Nat} {q_713 : Nat} {fs_714 : List Value} {q_716 : Nat} {f_717 : Nat → Int32} {q_724 : Nat} {q_727 : Nat} (ew1 : (0 : Int32) = xs 1) {w2 : Int32} (ew2 : w2 = xs 2) {w3 : Int32} (ew3 : w3 = xs 3) {w4 : Int32} (ew4 : w4 = xs 4) {w5 : Int32} (ew5 : w5 = xs 5) {H : Heap} {locs : List Loc} (hP : va_P (dC, dI) vwCl [(q_663, .inr (9, [.ref q_664, .int 0, .ref q_665, .ref q_666, .ref q_667, .int 0, .int (-1), .ref q_668, .ref q_669, .ref q_670, .ref q_671, .ref q_672, .ref q_673])), (q_668, .inr (6, [.ref q_687, .int (-1), .ref q_688])), (q_687, .inr (3, [.ref q_689, .ref q_690, .ref q_691, .ref q_692, .ref q_693, .ref q_694, .ref q_695, .ref q_696, .ref q_697, .int 0, .int 0, .int 0, .int 0, .int (-1)])), (q_713, .inr (10, fs_714)), (q_716, .inl (cI, 16, .inl f_717)), (q_724, .inl (cI, 2, .inl (fun _ => 0))), (q_727, .inl (cI, 2, .inl (fun _ => 0)))] H) (hD : va_D (fun q : Nat => s.heap.size ≤ q) [(q_663, .inr (9, [.ref q_664, .int 0, .ref q_665, .ref q_666, .ref q_667, .int 0, .int (-1), .ref q_668, .ref q_669, .ref q_670, .ref q_671, .ref q_672, .ref q_673])), (q_668, .inr (6, [.ref q_687, .int (-1), .ref q_688])), (q_687, .inr (3, [.ref q_689, .ref q_690, .ref q_691, .ref q_692, .ref q_693, .ref q_694, .ref q_695, .ref q_696, .ref q_697, .int 0, .int 0, .int 0, .int 0, .int (-1)])), (q_713, .inr (10, fs_714)), (q_716, .inl (cI, 16, .inl f_717)), (q_724, .inl (cI, 2, .inl (fun _ => 0))), (q_727, .inl (cI, 2, .inl (fun _ => 0)))]) (hS : va_S (fun q : Nat => s.heap.size ≤ q) s.heap H locs) {ls : Array Slot} (hl : lv_has ls 4 [(3, .int 0), (2, .ref q_713), (1, .ref q_663), (0, .ref b)]) (hf_734 : fs_714.length = 68) (hf_736 : fs_714[19]? = some (.ref q_716)) (hf_743 : fs_714[26]? = some (.ref q_724)) (hf_746 : fs_714[29]? = some (.ref q_727)) (hf_756 : fs_714[39]? = some (.int (-1))) (hf_759 : ∀ j, j < 16 → f_717 j = -1) : W p l e room_1 s m #[Value.ref b] below meth c H locs 84 30598 (lw_Z below #[Value.ref b] s) (F0 m 530 ls []) := by
  have hA : ∀ q : Nat, s.heap.size ≤ q → (fun q : Nat => s.heap.size ≤ q) q := fun _ h => h
  have hbA : ¬ (fun q : Nat => s.heap.size ≤ q) b := Nat.not_le.mpr hbl
  refine lv_aload_n hx hb dL_law_530 rfl (lv_at hl 2 rfl) ?_
  refine lv_aload_n hx hb dL_law_531 rfl (lv_at hl 3 rfl) ?_
  refine lv_iload_n hx hb dL_law_532 rfl (lv_at hl 0 rfl) ?_
  refine lv_iconst (v := 1) hx hb dL_law_533 (by decide) ?_
  refine lv_iadd hx hb dL_law_534 ?_
  refine lv_topi (fun y_965 ey_965 => ?_)
  obtain rfl : y_965 = 1 := ey_965.trans (by decide)
  refine va_sld hx hb hX hbl hbA hS (by unfold vp_in; decide) dL_law_535 ?_
  refine lv_topi (fun y_966 ey_966 => ?_)
  obtain rfl : y_966 = 0 := ey_966.trans ((congrArg xs (by decide : (1 : Int32).toNatClampNeg = 1)).trans ew1.symm)
  have hPc := hP.sub (ws' := [(q_663, .inr (9, [.ref q_664, .int 0, .ref q_665, .ref q_666, .ref q_667, .int 0, .int (-1), .ref q_668, .ref q_669, .ref q_670, .ref q_671, .ref q_672, .ref q_673])), (q_668, .inr (6, [.ref q_687, .int (-1), .ref q_688])), (q_687, .inr (3, [.ref q_689, .ref q_690, .ref q_691, .ref q_692, .ref q_693, .ref q_694, .ref q_695, .ref q_696, .ref q_697, .int 0, .int 0, .int 0, .int 0, .int (-1)]))]) [0, 1, 2] rfl
  have hDc := hD.sub (ws' := [(q_663, .inr (9, [.ref q_664, .int 0, .ref q_665, .ref q_666, .ref q_667, .int 0, .int (-1), .ref q_668, .ref q_669, .ref q_670, .ref q_671, .ref q_672, .ref q_673])), (q_668, .inr (6, [.ref q_687, .int (-1), .ref q_688])), (q_687, .inr (3, [.ref q_689, .ref q_690, .ref q_691, .ref q_692, .ref q_693, .ref q_694, .ref q_695, .ref q_696, .ref q_697, .int 0, .int 0, .int 0, .int 0, .int (-1)]))]) [0, 1, 2] (by decide) rfl
  have hFc := va_free (wc := [(q_663, .inr (9, [.ref q_664, .int 0, .ref q_665, .ref q_666, .ref q_667, .int 0, .int (-1), .ref q_668, .ref q_669, .ref q_670, .ref q_671, .ref q_672, .ref q_673])), (q_668, .inr (6, [.ref q_687, .int (-1), .ref q_688])), (q_687, .inr (3, [.ref q_689, .ref q_690, .ref q_691, .ref q_692, .ref q_693, .ref q_694, .ref q_695, .ref q_696, .ref q_697, .int 0, .int 0, .int 0, .int 0, .int (-1)]))]) hD hS hA [0, 1, 2] rfl
  refine va_calli (va_runV (As := [.int 0]) (rest := []) ⟨hx, hb, hml, hown, hts⟩ (c_count0 l dC dI cI cB cL cZ (q_663) (q_664) (q_665) (q_666) (q_667) (q_668) (q_669) (q_670) (q_671) (q_672) (q_673) (q_687) (q_688) (q_689) (q_690) (q_691) (q_692) (q_693) (q_694) (q_695) (q_696) (q_697) H.size) (cwV 1 hts gL_law_X10_count rfl rfl rfl (by decide +kernel) ⟨Nat.le_of_ble_eq_true rfl, Nat.le_of_ble_eq_true rfl⟩) ⟨cP_fb, va_recv hK hPc (ci := 9) (q0 := 0) rfl rfl, fun U hU hW => cP_pre hPc hK hDc hN U hU hW⟩ rfl rfl hl.1 rfl (lv_room (Nat.le_of_ble_eq_true rfl)) dL_law_536 ⟨Nat.le_of_ble_eq_true rfl, Nat.le_of_ble_eq_true rfl⟩) hS (fun q _ h => hFc q h) hFc (fun r_967 u t H1 locs ht hvm hw hB hz1 hk1 hS => ?_)
  obtain ⟨hP1, hD1⟩ := hB
  rw [ht] at hP1
  obtain ⟨hP, hD⟩ := va_join (wr := [(q_713, .inr (10, fs_714)), (q_716, .inl (cI, 16, .inl f_717)), (q_724, .inl (cI, 2, .inl (fun _ => 0))), (q_727, .inl (cI, 2, .inl (fun _ => 0)))]) (w1 := []) hP hD [0, 1, 2] [3, 4, 5, 6] rfl rfl (by decide) (by decide) hk1 hFc hP1 hD1
  generalize H1 = H at hP hS ⊢
  have hP : va_P (dC, dI) vwCl [(q_713, .inr (10, fs_714)), (q_716, .inl (cI, 16, .inl f_717)), (q_724, .inl (cI, 2, .inl (fun _ => 0))), (q_727, .inl (cI, 2, .inl (fun _ => 0)))] H := hP
  have hD : va_D (fun q : Nat => s.heap.size ≤ q) [(q_713, .inr (10, fs_714)), (q_716, .inl (cI, 16, .inl f_717)), (q_724, .inl (cI, 2, .inl (fun _ => 0))), (q_727, .inl (cI, 2, .inl (fun _ => 0)))] := hD
  obtain rfl : r_967 = 0 := hw
  refine lv_aload_n hx hb dL_law_539 rfl (lv_at hl 1 rfl) ?_
  refine lv_aload_n hx hb dL_law_540 rfl (lv_at hl 3 rfl) ?_
  refine lv_iload_n hx hb dL_law_541 rfl (lv_at hl 0 rfl) ?_
  refine lv_iconst (v := 1) hx hb dL_law_542 (by decide) ?_
  refine lv_iadd hx hb dL_law_543 ?_
  refine lv_topi (fun y_968 ey_968 => ?_)
  obtain rfl : y_968 = 1 := ey_968.trans (by decide)
  refine va_sld hx hb hX hbl hbA hS (by unfold vp_in; decide) dL_law_544 ?_
  refine lv_topi (fun y_969 ey_969 => ?_)
  obtain rfl : y_969 = 0 := ey_969.trans ((congrArg xs (by decide : (1 : Int32).toNatClampNeg = 1)).trans ew1.symm)
  have hPc := hP.sub (ws' := [(q_713, .inr (10, fs_714)), (q_716, .inl (cI, 16, .inl f_717)), (q_724, .inl (cI, 2, .inl (fun _ => 0))), (q_727, .inl (cI, 2, .inl (fun _ => 0)))]) [0, 1, 2, 3] rfl
  have hDc := hD.sub (ws' := [(q_713, .inr (10, fs_714)), (q_716, .inl (cI, 16, .inl f_717)), (q_724, .inl (cI, 2, .inl (fun _ => 0))), (q_727, .inl (cI, 2, .inl (fun _ => 0)))]) [0, 1, 2, 3] (by decide) rfl
  have hFc := va_free (wc := [(q_713, .inr (10, fs_714)), (q_716, .inl (cI, 16, .inl f_717)), (q_724, .inl (cI, 2, .inl (fun _ => 0))), (q_727, .inl (cI, 2, .inl (fun _ => 0)))]) hD hS hA [0, 1, 2, 3] rfl
  refine va_calli (va_runV (As := [.int 0]) (rest := [.int 0]) ⟨hx, hb, hml, hown, hts⟩ (m_count0 l dC dI cI cB cL cZ (q_713) (q_716) (q_724) (q_727) (fs_714) (f_717) ((fun _ => 0)) ((fun _ => 0)) H.size hf_734 hf_736 hf_743 hf_746 hf_756 (hf_759) (rfl) (rfl)) (cwV 1 hts gL_law_X11_count rfl rfl rfl (by decide +kernel) ⟨Nat.le_of_ble_eq_true rfl, Nat.le_of_ble_eq_true rfl⟩) ⟨cP_fb, va_recv hK hPc (ci := 10) (q0 := 0) rfl rfl, fun U hU hW => cP_pre hPc hK hDc hN U hU hW⟩ rfl rfl hl.1 rfl (lv_room (Nat.le_of_ble_eq_true rfl)) dL_law_545 ⟨Nat.le_of_ble_eq_true rfl, Nat.le_of_ble_eq_true rfl⟩) hS (fun q _ h => hFc q h) hFc (fun r_970 u t H1 locs ht hvm hw hB hz1 hk1 hS => ?_)
  obtain ⟨hP1, hD1⟩ := hB
  rw [ht] at hP1
  obtain ⟨hP, hD⟩ := va_join (wr := []) (w1 := []) hP hD [0, 1, 2, 3] [] rfl rfl (by decide) (by decide) hk1 hFc hP1 hD1
  generalize H1 = H at hP hS ⊢
  have hP : va_P (dC, dI) vwCl [] H := hP
  have hD : va_D (fun q : Nat => s.heap.size ≤ q) [] := hD
  obtain rfl : r_970 = 0 := hw
  refine lv_icmp_eq (tgt := 553) hx hb dL_law_548 (by decide) (fun _ => ?_) (fun c9 => absurd (by decide) c9)
  refine lv_iinc (v := 6) (lv' := [(3, .int 6), (2, .ref q_713), (1, .ref q_663), (0, .ref b)]) hx hb dL_law_553 hl (k := 0) rfl (by decide) (by decide) rfl (fun ls hl => ?_)
  refine lv_goto (tgt := 18) hx hb dL_law_556 (by decide) ?_
  refine lv_iload_n hx hb dL_law_18 rfl (lv_at hl 0 rfl) ?_
  refine lv_aload_n hx hb dL_law_19 rfl (lv_at hl 3 rfl) ?_
  refine va_slen hx hb hX hbl hbA hS dL_law_20 ?_
  refine lv_topi (fun y_971 ey_971 => ?_)
  obtain rfl : y_971 = 6 := ey_971.trans (by decide)
  refine lv_bipush (v := 6) hx hb dL_law_21 (by decide) ?_
  refine lv_isub hx hb dL_law_23 ?_
  refine lv_topi (fun y_972 ey_972 => ?_)
  obtain rfl : y_972 = 0 := ey_972.trans (by decide)
  refine lv_icmp_gt (tgt := 559) hx hb dL_law_24 (by decide) (fun _ => ?_) (fun c9 => absurd (by decide) c9)
  refine lv_iconst (v := 1) hx hb dL_law_559 (by decide) ?_
  refine va_forget (fun q hq => hS.2.2 q hq) ?_
  exact lw_ret hx hb hr hlocks dL_law_560

set_option maxHeartbeats 4000000 in
set_option maxRecDepth 100000 in
theorem lw_count1 {p : Program} {l : Launch} {e : Env} {s : State} {m : MethodId} {below : List Frame} {meth : Method} {c : Code} {dC : Nat → ClassId} {dI : Nat → Nat → Nat} {cI cB cL cZ : ClassId} {b : Nat} {xs : Nat → Int32} (hx : p.tables.exec = Jvm.exec) (hb : c.code = cL_law) (hr : meth.sig.returnType = ret) (hml : c.maxLocals = 4) (hown : s.vm.findClass RL = some m.cls) (hts : ∀ w ∈ wsL_law, w.before #[Value.ref b] s = true) (hX : va_X b 6 xs s s.heap) (hbl : b < s.heap.size) (hlocks : meth.locks = false) (hK : va_K (dC, dI) vwCl (kTy cI cB cL cZ) s) (hN : nN s) {q_663 : Nat} {q_664 : Nat} {q_665 : Nat} {q_666 : Nat} {q_667 : Nat} {q_668 : Nat} {q_669 : Nat} {q_670 : Nat} {q_671 : Nat} {q_672 : Nat} {q_673 : Nat} {q_687 : Nat} {q_688 : Nat} {q_689 : Nat} {q_690 : Nat} {q_691 : Nat} {q_692 : Nat} {q_693 : Nat} {q_694 : Nat} {q_695 : Nat} {q_696 : Nat} {q_697 : Nat} {q_713 : Nat} {fs_714 : List Value} {q_716 : Nat} {f_717 : Nat → Int32} {q_724 : Nat} {q_727 : Nat} (ew1 : (1 : Int32) = xs 1) {w2 : Int32} (ew2 : w2 = xs 2) {w3 : Int32} (ew3 : w3 = xs 3) {w4 : Int32} (ew4 : w4 = xs 4) {w5 : Int32} (ew5 : w5 = xs 5) {H : Heap} {locs : List Loc} (hP : va_P (dC, dI) vwCl [(q_663, .inr (9, [.ref q_664, .int 0, .ref q_665, .ref q_666, .ref q_667, .int 0, .int (-1), .ref q_668, .ref q_669, .ref q_670, .ref q_671, .ref q_672, .ref q_673])), (q_668, .inr (6, [.ref q_687, .int (-1), .ref q_688])), (q_687, .inr (3, [.ref q_689, .ref q_690, .ref q_691, .ref q_692, .ref q_693, .ref q_694, .ref q_695, .ref q_696, .ref q_697, .int 0, .int 0, .int 0, .int 0, .int (-1)])), (q_713, .inr (10, fs_714)), (q_716, .inl (cI, 16, .inl f_717)), (q_724, .inl (cI, 2, .inl (fun _ => 0))), (q_727, .inl (cI, 2, .inl (fun _ => 0)))] H) (hD : va_D (fun q : Nat => s.heap.size ≤ q) [(q_663, .inr (9, [.ref q_664, .int 0, .ref q_665, .ref q_666, .ref q_667, .int 0, .int (-1), .ref q_668, .ref q_669, .ref q_670, .ref q_671, .ref q_672, .ref q_673])), (q_668, .inr (6, [.ref q_687, .int (-1), .ref q_688])), (q_687, .inr (3, [.ref q_689, .ref q_690, .ref q_691, .ref q_692, .ref q_693, .ref q_694, .ref q_695, .ref q_696, .ref q_697, .int 0, .int 0, .int 0, .int 0, .int (-1)])), (q_713, .inr (10, fs_714)), (q_716, .inl (cI, 16, .inl f_717)), (q_724, .inl (cI, 2, .inl (fun _ => 0))), (q_727, .inl (cI, 2, .inl (fun _ => 0)))]) (hS : va_S (fun q : Nat => s.heap.size ≤ q) s.heap H locs) {ls : Array Slot} (hl : lv_has ls 4 [(3, .int 0), (2, .ref q_713), (1, .ref q_663), (0, .ref b)]) (hf_734 : fs_714.length = 68) (hf_736 : fs_714[19]? = some (.ref q_716)) (hf_743 : fs_714[26]? = some (.ref q_724)) (hf_746 : fs_714[29]? = some (.ref q_727)) (hf_756 : fs_714[39]? = some (.int (-1))) (hf_759 : ∀ j, j < 16 → f_717 j = -1) : W p l e room_1 s m #[Value.ref b] below meth c H locs 84 30598 (lw_Z below #[Value.ref b] s) (F0 m 530 ls []) := by
  have hA : ∀ q : Nat, s.heap.size ≤ q → (fun q : Nat => s.heap.size ≤ q) q := fun _ h => h
  have hbA : ¬ (fun q : Nat => s.heap.size ≤ q) b := Nat.not_le.mpr hbl
  refine lv_aload_n hx hb dL_law_530 rfl (lv_at hl 2 rfl) ?_
  refine lv_aload_n hx hb dL_law_531 rfl (lv_at hl 3 rfl) ?_
  refine lv_iload_n hx hb dL_law_532 rfl (lv_at hl 0 rfl) ?_
  refine lv_iconst (v := 1) hx hb dL_law_533 (by decide) ?_
  refine lv_iadd hx hb dL_law_534 ?_
  refine lv_topi (fun y_973 ey_973 => ?_)
  obtain rfl : y_973 = 1 := ey_973.trans (by decide)
  refine va_sld hx hb hX hbl hbA hS (by unfold vp_in; decide) dL_law_535 ?_
  refine lv_topi (fun y_974 ey_974 => ?_)
  obtain rfl : y_974 = 1 := ey_974.trans ((congrArg xs (by decide : (1 : Int32).toNatClampNeg = 1)).trans ew1.symm)
  have hPc := hP.sub (ws' := [(q_663, .inr (9, [.ref q_664, .int 0, .ref q_665, .ref q_666, .ref q_667, .int 0, .int (-1), .ref q_668, .ref q_669, .ref q_670, .ref q_671, .ref q_672, .ref q_673])), (q_668, .inr (6, [.ref q_687, .int (-1), .ref q_688])), (q_687, .inr (3, [.ref q_689, .ref q_690, .ref q_691, .ref q_692, .ref q_693, .ref q_694, .ref q_695, .ref q_696, .ref q_697, .int 0, .int 0, .int 0, .int 0, .int (-1)]))]) [0, 1, 2] rfl
  have hDc := hD.sub (ws' := [(q_663, .inr (9, [.ref q_664, .int 0, .ref q_665, .ref q_666, .ref q_667, .int 0, .int (-1), .ref q_668, .ref q_669, .ref q_670, .ref q_671, .ref q_672, .ref q_673])), (q_668, .inr (6, [.ref q_687, .int (-1), .ref q_688])), (q_687, .inr (3, [.ref q_689, .ref q_690, .ref q_691, .ref q_692, .ref q_693, .ref q_694, .ref q_695, .ref q_696, .ref q_697, .int 0, .int 0, .int 0, .int 0, .int (-1)]))]) [0, 1, 2] (by decide) rfl
  have hFc := va_free (wc := [(q_663, .inr (9, [.ref q_664, .int 0, .ref q_665, .ref q_666, .ref q_667, .int 0, .int (-1), .ref q_668, .ref q_669, .ref q_670, .ref q_671, .ref q_672, .ref q_673])), (q_668, .inr (6, [.ref q_687, .int (-1), .ref q_688])), (q_687, .inr (3, [.ref q_689, .ref q_690, .ref q_691, .ref q_692, .ref q_693, .ref q_694, .ref q_695, .ref q_696, .ref q_697, .int 0, .int 0, .int 0, .int 0, .int (-1)]))]) hD hS hA [0, 1, 2] rfl
  refine va_calli (va_runV (As := [.int 1]) (rest := []) ⟨hx, hb, hml, hown, hts⟩ (c_count1 l dC dI cI cB cL cZ (q_663) (q_664) (q_665) (q_666) (q_667) (q_668) (q_669) (q_670) (q_671) (q_672) (q_673) (q_687) (q_688) (q_689) (q_690) (q_691) (q_692) (q_693) (q_694) (q_695) (q_696) (q_697) H.size) (cwV 1 hts gL_law_X10_count rfl rfl rfl (by decide +kernel) ⟨Nat.le_of_ble_eq_true rfl, Nat.le_of_ble_eq_true rfl⟩) ⟨cP_fb, va_recv hK hPc (ci := 9) (q0 := 0) rfl rfl, fun U hU hW => cP_pre hPc hK hDc hN U hU hW⟩ rfl rfl hl.1 rfl (lv_room (Nat.le_of_ble_eq_true rfl)) dL_law_536 ⟨Nat.le_of_ble_eq_true rfl, Nat.le_of_ble_eq_true rfl⟩) hS (fun q _ h => hFc q h) hFc (fun r_975 u t H1 locs ht hvm hw hB hz1 hk1 hS => ?_)
  obtain ⟨hP1, hD1⟩ := hB
  rw [ht] at hP1
  obtain ⟨hP, hD⟩ := va_join (wr := [(q_713, .inr (10, fs_714)), (q_716, .inl (cI, 16, .inl f_717)), (q_724, .inl (cI, 2, .inl (fun _ => 0))), (q_727, .inl (cI, 2, .inl (fun _ => 0)))]) (w1 := []) hP hD [0, 1, 2] [3, 4, 5, 6] rfl rfl (by decide) (by decide) hk1 hFc hP1 hD1
  generalize H1 = H at hP hS ⊢
  have hP : va_P (dC, dI) vwCl [(q_713, .inr (10, fs_714)), (q_716, .inl (cI, 16, .inl f_717)), (q_724, .inl (cI, 2, .inl (fun _ => 0))), (q_727, .inl (cI, 2, .inl (fun _ => 0)))] H := hP
  have hD : va_D (fun q : Nat => s.heap.size ≤ q) [(q_713, .inr (10, fs_714)), (q_716, .inl (cI, 16, .inl f_717)), (q_724, .inl (cI, 2, .inl (fun _ => 0))), (q_727, .inl (cI, 2, .inl (fun _ => 0)))] := hD
  obtain rfl : r_975 = 0 := hw
  refine lv_aload_n hx hb dL_law_539 rfl (lv_at hl 1 rfl) ?_
  refine lv_aload_n hx hb dL_law_540 rfl (lv_at hl 3 rfl) ?_
  refine lv_iload_n hx hb dL_law_541 rfl (lv_at hl 0 rfl) ?_
  refine lv_iconst (v := 1) hx hb dL_law_542 (by decide) ?_
  refine lv_iadd hx hb dL_law_543 ?_
  refine lv_topi (fun y_976 ey_976 => ?_)
  obtain rfl : y_976 = 1 := ey_976.trans (by decide)
  refine va_sld hx hb hX hbl hbA hS (by unfold vp_in; decide) dL_law_544 ?_
  refine lv_topi (fun y_977 ey_977 => ?_)
  obtain rfl : y_977 = 1 := ey_977.trans ((congrArg xs (by decide : (1 : Int32).toNatClampNeg = 1)).trans ew1.symm)
  have hPc := hP.sub (ws' := [(q_713, .inr (10, fs_714)), (q_716, .inl (cI, 16, .inl f_717)), (q_724, .inl (cI, 2, .inl (fun _ => 0))), (q_727, .inl (cI, 2, .inl (fun _ => 0)))]) [0, 1, 2, 3] rfl
  have hDc := hD.sub (ws' := [(q_713, .inr (10, fs_714)), (q_716, .inl (cI, 16, .inl f_717)), (q_724, .inl (cI, 2, .inl (fun _ => 0))), (q_727, .inl (cI, 2, .inl (fun _ => 0)))]) [0, 1, 2, 3] (by decide) rfl
  have hFc := va_free (wc := [(q_713, .inr (10, fs_714)), (q_716, .inl (cI, 16, .inl f_717)), (q_724, .inl (cI, 2, .inl (fun _ => 0))), (q_727, .inl (cI, 2, .inl (fun _ => 0)))]) hD hS hA [0, 1, 2, 3] rfl
  refine va_calli (va_runV (As := [.int 1]) (rest := [.int 0]) ⟨hx, hb, hml, hown, hts⟩ (m_count1 l dC dI cI cB cL cZ (q_713) (q_716) (q_724) (q_727) (fs_714) (f_717) ((fun _ => 0)) ((fun _ => 0)) H.size hf_734 hf_736 hf_743 hf_746 hf_756 (hf_759) (rfl) (rfl)) (cwV 1 hts gL_law_X11_count rfl rfl rfl (by decide +kernel) ⟨Nat.le_of_ble_eq_true rfl, Nat.le_of_ble_eq_true rfl⟩) ⟨cP_fb, va_recv hK hPc (ci := 10) (q0 := 0) rfl rfl, fun U hU hW => cP_pre hPc hK hDc hN U hU hW⟩ rfl rfl hl.1 rfl (lv_room (Nat.le_of_ble_eq_true rfl)) dL_law_545 ⟨Nat.le_of_ble_eq_true rfl, Nat.le_of_ble_eq_true rfl⟩) hS (fun q _ h => hFc q h) hFc (fun r_978 u t H1 locs ht hvm hw hB hz1 hk1 hS => ?_)
  obtain ⟨hP1, hD1⟩ := hB
  rw [ht] at hP1
  obtain ⟨hP, hD⟩ := va_join (wr := []) (w1 := []) hP hD [0, 1, 2, 3] [] rfl rfl (by decide) (by decide) hk1 hFc hP1 hD1
  generalize H1 = H at hP hS ⊢
  have hP : va_P (dC, dI) vwCl [] H := hP
  have hD : va_D (fun q : Nat => s.heap.size ≤ q) [] := hD
  obtain rfl : r_978 = 0 := hw
  refine lv_icmp_eq (tgt := 553) hx hb dL_law_548 (by decide) (fun _ => ?_) (fun c9 => absurd (by decide) c9)
  refine lv_iinc (v := 6) (lv' := [(3, .int 6), (2, .ref q_713), (1, .ref q_663), (0, .ref b)]) hx hb dL_law_553 hl (k := 0) rfl (by decide) (by decide) rfl (fun ls hl => ?_)
  refine lv_goto (tgt := 18) hx hb dL_law_556 (by decide) ?_
  refine lv_iload_n hx hb dL_law_18 rfl (lv_at hl 0 rfl) ?_
  refine lv_aload_n hx hb dL_law_19 rfl (lv_at hl 3 rfl) ?_
  refine va_slen hx hb hX hbl hbA hS dL_law_20 ?_
  refine lv_topi (fun y_979 ey_979 => ?_)
  obtain rfl : y_979 = 6 := ey_979.trans (by decide)
  refine lv_bipush (v := 6) hx hb dL_law_21 (by decide) ?_
  refine lv_isub hx hb dL_law_23 ?_
  refine lv_topi (fun y_980 ey_980 => ?_)
  obtain rfl : y_980 = 0 := ey_980.trans (by decide)
  refine lv_icmp_gt (tgt := 559) hx hb dL_law_24 (by decide) (fun _ => ?_) (fun c9 => absurd (by decide) c9)
  refine lv_iconst (v := 1) hx hb dL_law_559 (by decide) ?_
  refine va_forget (fun q hq => hS.2.2 q hq) ?_
  exact lw_ret hx hb hr hlocks dL_law_560

set_option maxHeartbeats 4000000 in
set_option maxRecDepth 100000 in
theorem lw_count2 {p : Program} {l : Launch} {e : Env} {s : State} {m : MethodId} {below : List Frame} {meth : Method} {c : Code} {dC : Nat → ClassId} {dI : Nat → Nat → Nat} {cI cB cL cZ : ClassId} {b : Nat} {xs : Nat → Int32} (hx : p.tables.exec = Jvm.exec) (hb : c.code = cL_law) (hr : meth.sig.returnType = ret) (hml : c.maxLocals = 4) (hown : s.vm.findClass RL = some m.cls) (hts : ∀ w ∈ wsL_law, w.before #[Value.ref b] s = true) (hX : va_X b 6 xs s s.heap) (hbl : b < s.heap.size) (hlocks : meth.locks = false) (hK : va_K (dC, dI) vwCl (kTy cI cB cL cZ) s) (hN : nN s) {q_663 : Nat} {q_664 : Nat} {q_665 : Nat} {q_666 : Nat} {q_667 : Nat} {q_668 : Nat} {q_669 : Nat} {q_670 : Nat} {q_671 : Nat} {q_672 : Nat} {q_673 : Nat} {q_687 : Nat} {q_688 : Nat} {q_689 : Nat} {q_690 : Nat} {q_691 : Nat} {q_692 : Nat} {q_693 : Nat} {q_694 : Nat} {q_695 : Nat} {q_696 : Nat} {q_697 : Nat} {q_713 : Nat} {fs_714 : List Value} {q_716 : Nat} {f_717 : Nat → Int32} {q_724 : Nat} {q_727 : Nat} (ew1 : (2 : Int32) = xs 1) {w2 : Int32} (ew2 : w2 = xs 2) {w3 : Int32} (ew3 : w3 = xs 3) {w4 : Int32} (ew4 : w4 = xs 4) {w5 : Int32} (ew5 : w5 = xs 5) {H : Heap} {locs : List Loc} (hP : va_P (dC, dI) vwCl [(q_663, .inr (9, [.ref q_664, .int 0, .ref q_665, .ref q_666, .ref q_667, .int 0, .int (-1), .ref q_668, .ref q_669, .ref q_670, .ref q_671, .ref q_672, .ref q_673])), (q_668, .inr (6, [.ref q_687, .int (-1), .ref q_688])), (q_687, .inr (3, [.ref q_689, .ref q_690, .ref q_691, .ref q_692, .ref q_693, .ref q_694, .ref q_695, .ref q_696, .ref q_697, .int 0, .int 0, .int 0, .int 0, .int (-1)])), (q_713, .inr (10, fs_714)), (q_716, .inl (cI, 16, .inl f_717)), (q_724, .inl (cI, 2, .inl (fun _ => 0))), (q_727, .inl (cI, 2, .inl (fun _ => 0)))] H) (hD : va_D (fun q : Nat => s.heap.size ≤ q) [(q_663, .inr (9, [.ref q_664, .int 0, .ref q_665, .ref q_666, .ref q_667, .int 0, .int (-1), .ref q_668, .ref q_669, .ref q_670, .ref q_671, .ref q_672, .ref q_673])), (q_668, .inr (6, [.ref q_687, .int (-1), .ref q_688])), (q_687, .inr (3, [.ref q_689, .ref q_690, .ref q_691, .ref q_692, .ref q_693, .ref q_694, .ref q_695, .ref q_696, .ref q_697, .int 0, .int 0, .int 0, .int 0, .int (-1)])), (q_713, .inr (10, fs_714)), (q_716, .inl (cI, 16, .inl f_717)), (q_724, .inl (cI, 2, .inl (fun _ => 0))), (q_727, .inl (cI, 2, .inl (fun _ => 0)))]) (hS : va_S (fun q : Nat => s.heap.size ≤ q) s.heap H locs) {ls : Array Slot} (hl : lv_has ls 4 [(3, .int 0), (2, .ref q_713), (1, .ref q_663), (0, .ref b)]) (hf_734 : fs_714.length = 68) (hf_736 : fs_714[19]? = some (.ref q_716)) (hf_743 : fs_714[26]? = some (.ref q_724)) (hf_746 : fs_714[29]? = some (.ref q_727)) (hf_756 : fs_714[39]? = some (.int (-1))) (hf_759 : ∀ j, j < 16 → f_717 j = -1) : W p l e room_1 s m #[Value.ref b] below meth c H locs 84 30598 (lw_Z below #[Value.ref b] s) (F0 m 530 ls []) := by
  have hA : ∀ q : Nat, s.heap.size ≤ q → (fun q : Nat => s.heap.size ≤ q) q := fun _ h => h
  have hbA : ¬ (fun q : Nat => s.heap.size ≤ q) b := Nat.not_le.mpr hbl
  refine lv_aload_n hx hb dL_law_530 rfl (lv_at hl 2 rfl) ?_
  refine lv_aload_n hx hb dL_law_531 rfl (lv_at hl 3 rfl) ?_
  refine lv_iload_n hx hb dL_law_532 rfl (lv_at hl 0 rfl) ?_
  refine lv_iconst (v := 1) hx hb dL_law_533 (by decide) ?_
  refine lv_iadd hx hb dL_law_534 ?_
  refine lv_topi (fun y_981 ey_981 => ?_)
  obtain rfl : y_981 = 1 := ey_981.trans (by decide)
  refine va_sld hx hb hX hbl hbA hS (by unfold vp_in; decide) dL_law_535 ?_
  refine lv_topi (fun y_982 ey_982 => ?_)
  obtain rfl : y_982 = 2 := ey_982.trans ((congrArg xs (by decide : (1 : Int32).toNatClampNeg = 1)).trans ew1.symm)
  have hPc := hP.sub (ws' := [(q_663, .inr (9, [.ref q_664, .int 0, .ref q_665, .ref q_666, .ref q_667, .int 0, .int (-1), .ref q_668, .ref q_669, .ref q_670, .ref q_671, .ref q_672, .ref q_673])), (q_668, .inr (6, [.ref q_687, .int (-1), .ref q_688])), (q_687, .inr (3, [.ref q_689, .ref q_690, .ref q_691, .ref q_692, .ref q_693, .ref q_694, .ref q_695, .ref q_696, .ref q_697, .int 0, .int 0, .int 0, .int 0, .int (-1)]))]) [0, 1, 2] rfl
  have hDc := hD.sub (ws' := [(q_663, .inr (9, [.ref q_664, .int 0, .ref q_665, .ref q_666, .ref q_667, .int 0, .int (-1), .ref q_668, .ref q_669, .ref q_670, .ref q_671, .ref q_672, .ref q_673])), (q_668, .inr (6, [.ref q_687, .int (-1), .ref q_688])), (q_687, .inr (3, [.ref q_689, .ref q_690, .ref q_691, .ref q_692, .ref q_693, .ref q_694, .ref q_695, .ref q_696, .ref q_697, .int 0, .int 0, .int 0, .int 0, .int (-1)]))]) [0, 1, 2] (by decide) rfl
  have hFc := va_free (wc := [(q_663, .inr (9, [.ref q_664, .int 0, .ref q_665, .ref q_666, .ref q_667, .int 0, .int (-1), .ref q_668, .ref q_669, .ref q_670, .ref q_671, .ref q_672, .ref q_673])), (q_668, .inr (6, [.ref q_687, .int (-1), .ref q_688])), (q_687, .inr (3, [.ref q_689, .ref q_690, .ref q_691, .ref q_692, .ref q_693, .ref q_694, .ref q_695, .ref q_696, .ref q_697, .int 0, .int 0, .int 0, .int 0, .int (-1)]))]) hD hS hA [0, 1, 2] rfl
  refine va_calli (va_runV (As := [.int 2]) (rest := []) ⟨hx, hb, hml, hown, hts⟩ (c_count2 l dC dI cI cB cL cZ (q_663) (q_664) (q_665) (q_666) (q_667) (q_668) (q_669) (q_670) (q_671) (q_672) (q_673) (q_687) (q_688) (q_689) (q_690) (q_691) (q_692) (q_693) (q_694) (q_695) (q_696) (q_697) H.size) (cwV 1 hts gL_law_X10_count rfl rfl rfl (by decide +kernel) ⟨Nat.le_of_ble_eq_true rfl, Nat.le_of_ble_eq_true rfl⟩) ⟨cP_fb, va_recv hK hPc (ci := 9) (q0 := 0) rfl rfl, fun U hU hW => cP_pre hPc hK hDc hN U hU hW⟩ rfl rfl hl.1 rfl (lv_room (Nat.le_of_ble_eq_true rfl)) dL_law_536 ⟨Nat.le_of_ble_eq_true rfl, Nat.le_of_ble_eq_true rfl⟩) hS (fun q _ h => hFc q h) hFc (fun r_983 u t H1 locs ht hvm hw hB hz1 hk1 hS => ?_)
  obtain ⟨hP1, hD1⟩ := hB
  rw [ht] at hP1
  obtain ⟨hP, hD⟩ := va_join (wr := [(q_713, .inr (10, fs_714)), (q_716, .inl (cI, 16, .inl f_717)), (q_724, .inl (cI, 2, .inl (fun _ => 0))), (q_727, .inl (cI, 2, .inl (fun _ => 0)))]) (w1 := []) hP hD [0, 1, 2] [3, 4, 5, 6] rfl rfl (by decide) (by decide) hk1 hFc hP1 hD1
  generalize H1 = H at hP hS ⊢
  have hP : va_P (dC, dI) vwCl [(q_713, .inr (10, fs_714)), (q_716, .inl (cI, 16, .inl f_717)), (q_724, .inl (cI, 2, .inl (fun _ => 0))), (q_727, .inl (cI, 2, .inl (fun _ => 0)))] H := hP
  have hD : va_D (fun q : Nat => s.heap.size ≤ q) [(q_713, .inr (10, fs_714)), (q_716, .inl (cI, 16, .inl f_717)), (q_724, .inl (cI, 2, .inl (fun _ => 0))), (q_727, .inl (cI, 2, .inl (fun _ => 0)))] := hD
  obtain rfl : r_983 = 0 := hw
  refine lv_aload_n hx hb dL_law_539 rfl (lv_at hl 1 rfl) ?_
  refine lv_aload_n hx hb dL_law_540 rfl (lv_at hl 3 rfl) ?_
  refine lv_iload_n hx hb dL_law_541 rfl (lv_at hl 0 rfl) ?_
  refine lv_iconst (v := 1) hx hb dL_law_542 (by decide) ?_
  refine lv_iadd hx hb dL_law_543 ?_
  refine lv_topi (fun y_984 ey_984 => ?_)
  obtain rfl : y_984 = 1 := ey_984.trans (by decide)
  refine va_sld hx hb hX hbl hbA hS (by unfold vp_in; decide) dL_law_544 ?_
  refine lv_topi (fun y_985 ey_985 => ?_)
  obtain rfl : y_985 = 2 := ey_985.trans ((congrArg xs (by decide : (1 : Int32).toNatClampNeg = 1)).trans ew1.symm)
  have hPc := hP.sub (ws' := [(q_713, .inr (10, fs_714)), (q_716, .inl (cI, 16, .inl f_717)), (q_724, .inl (cI, 2, .inl (fun _ => 0))), (q_727, .inl (cI, 2, .inl (fun _ => 0)))]) [0, 1, 2, 3] rfl
  have hDc := hD.sub (ws' := [(q_713, .inr (10, fs_714)), (q_716, .inl (cI, 16, .inl f_717)), (q_724, .inl (cI, 2, .inl (fun _ => 0))), (q_727, .inl (cI, 2, .inl (fun _ => 0)))]) [0, 1, 2, 3] (by decide) rfl
  have hFc := va_free (wc := [(q_713, .inr (10, fs_714)), (q_716, .inl (cI, 16, .inl f_717)), (q_724, .inl (cI, 2, .inl (fun _ => 0))), (q_727, .inl (cI, 2, .inl (fun _ => 0)))]) hD hS hA [0, 1, 2, 3] rfl
  refine va_calli (va_runV (As := [.int 2]) (rest := [.int 0]) ⟨hx, hb, hml, hown, hts⟩ (m_count2 l dC dI cI cB cL cZ (q_713) (q_716) (q_724) (q_727) (fs_714) (f_717) ((fun _ => 0)) ((fun _ => 0)) H.size hf_734 hf_736 hf_743 hf_746 hf_756 (hf_759) (rfl) (rfl)) (cwV 1 hts gL_law_X11_count rfl rfl rfl (by decide +kernel) ⟨Nat.le_of_ble_eq_true rfl, Nat.le_of_ble_eq_true rfl⟩) ⟨cP_fb, va_recv hK hPc (ci := 10) (q0 := 0) rfl rfl, fun U hU hW => cP_pre hPc hK hDc hN U hU hW⟩ rfl rfl hl.1 rfl (lv_room (Nat.le_of_ble_eq_true rfl)) dL_law_545 ⟨Nat.le_of_ble_eq_true rfl, Nat.le_of_ble_eq_true rfl⟩) hS (fun q _ h => hFc q h) hFc (fun r_986 u t H1 locs ht hvm hw hB hz1 hk1 hS => ?_)
  obtain ⟨hP1, hD1⟩ := hB
  rw [ht] at hP1
  obtain ⟨hP, hD⟩ := va_join (wr := []) (w1 := []) hP hD [0, 1, 2, 3] [] rfl rfl (by decide) (by decide) hk1 hFc hP1 hD1
  generalize H1 = H at hP hS ⊢
  have hP : va_P (dC, dI) vwCl [] H := hP
  have hD : va_D (fun q : Nat => s.heap.size ≤ q) [] := hD
  obtain rfl : r_986 = 0 := hw
  refine lv_icmp_eq (tgt := 553) hx hb dL_law_548 (by decide) (fun _ => ?_) (fun c9 => absurd (by decide) c9)
  refine lv_iinc (v := 6) (lv' := [(3, .int 6), (2, .ref q_713), (1, .ref q_663), (0, .ref b)]) hx hb dL_law_553 hl (k := 0) rfl (by decide) (by decide) rfl (fun ls hl => ?_)
  refine lv_goto (tgt := 18) hx hb dL_law_556 (by decide) ?_
  refine lv_iload_n hx hb dL_law_18 rfl (lv_at hl 0 rfl) ?_
  refine lv_aload_n hx hb dL_law_19 rfl (lv_at hl 3 rfl) ?_
  refine va_slen hx hb hX hbl hbA hS dL_law_20 ?_
  refine lv_topi (fun y_987 ey_987 => ?_)
  obtain rfl : y_987 = 6 := ey_987.trans (by decide)
  refine lv_bipush (v := 6) hx hb dL_law_21 (by decide) ?_
  refine lv_isub hx hb dL_law_23 ?_
  refine lv_topi (fun y_988 ey_988 => ?_)
  obtain rfl : y_988 = 0 := ey_988.trans (by decide)
  refine lv_icmp_gt (tgt := 559) hx hb dL_law_24 (by decide) (fun _ => ?_) (fun c9 => absurd (by decide) c9)
  refine lv_iconst (v := 1) hx hb dL_law_559 (by decide) ?_
  refine va_forget (fun q hq => hS.2.2 q hq) ?_
  exact lw_ret hx hb hr hlocks dL_law_560

set_option maxHeartbeats 4000000 in
set_option maxRecDepth 100000 in
theorem lw_count3 {p : Program} {l : Launch} {e : Env} {s : State} {m : MethodId} {below : List Frame} {meth : Method} {c : Code} {dC : Nat → ClassId} {dI : Nat → Nat → Nat} {cI cB cL cZ : ClassId} {b : Nat} {xs : Nat → Int32} (hx : p.tables.exec = Jvm.exec) (hb : c.code = cL_law) (hr : meth.sig.returnType = ret) (hml : c.maxLocals = 4) (hown : s.vm.findClass RL = some m.cls) (hts : ∀ w ∈ wsL_law, w.before #[Value.ref b] s = true) (hX : va_X b 6 xs s s.heap) (hbl : b < s.heap.size) (hlocks : meth.locks = false) (hK : va_K (dC, dI) vwCl (kTy cI cB cL cZ) s) (hN : nN s) {q_663 : Nat} {q_664 : Nat} {q_665 : Nat} {q_666 : Nat} {q_667 : Nat} {q_668 : Nat} {q_669 : Nat} {q_670 : Nat} {q_671 : Nat} {q_672 : Nat} {q_673 : Nat} {q_687 : Nat} {q_688 : Nat} {q_689 : Nat} {q_690 : Nat} {q_691 : Nat} {q_692 : Nat} {q_693 : Nat} {q_694 : Nat} {q_695 : Nat} {q_696 : Nat} {q_697 : Nat} {q_713 : Nat} {fs_714 : List Value} {q_716 : Nat} {f_717 : Nat → Int32} {q_724 : Nat} {q_727 : Nat} (ew1 : (3 : Int32) = xs 1) {w2 : Int32} (ew2 : w2 = xs 2) {w3 : Int32} (ew3 : w3 = xs 3) {w4 : Int32} (ew4 : w4 = xs 4) {w5 : Int32} (ew5 : w5 = xs 5) {H : Heap} {locs : List Loc} (hP : va_P (dC, dI) vwCl [(q_663, .inr (9, [.ref q_664, .int 0, .ref q_665, .ref q_666, .ref q_667, .int 0, .int (-1), .ref q_668, .ref q_669, .ref q_670, .ref q_671, .ref q_672, .ref q_673])), (q_668, .inr (6, [.ref q_687, .int (-1), .ref q_688])), (q_687, .inr (3, [.ref q_689, .ref q_690, .ref q_691, .ref q_692, .ref q_693, .ref q_694, .ref q_695, .ref q_696, .ref q_697, .int 0, .int 0, .int 0, .int 0, .int (-1)])), (q_713, .inr (10, fs_714)), (q_716, .inl (cI, 16, .inl f_717)), (q_724, .inl (cI, 2, .inl (fun _ => 0))), (q_727, .inl (cI, 2, .inl (fun _ => 0)))] H) (hD : va_D (fun q : Nat => s.heap.size ≤ q) [(q_663, .inr (9, [.ref q_664, .int 0, .ref q_665, .ref q_666, .ref q_667, .int 0, .int (-1), .ref q_668, .ref q_669, .ref q_670, .ref q_671, .ref q_672, .ref q_673])), (q_668, .inr (6, [.ref q_687, .int (-1), .ref q_688])), (q_687, .inr (3, [.ref q_689, .ref q_690, .ref q_691, .ref q_692, .ref q_693, .ref q_694, .ref q_695, .ref q_696, .ref q_697, .int 0, .int 0, .int 0, .int 0, .int (-1)])), (q_713, .inr (10, fs_714)), (q_716, .inl (cI, 16, .inl f_717)), (q_724, .inl (cI, 2, .inl (fun _ => 0))), (q_727, .inl (cI, 2, .inl (fun _ => 0)))]) (hS : va_S (fun q : Nat => s.heap.size ≤ q) s.heap H locs) {ls : Array Slot} (hl : lv_has ls 4 [(3, .int 0), (2, .ref q_713), (1, .ref q_663), (0, .ref b)]) (hf_734 : fs_714.length = 68) (hf_736 : fs_714[19]? = some (.ref q_716)) (hf_743 : fs_714[26]? = some (.ref q_724)) (hf_746 : fs_714[29]? = some (.ref q_727)) (hf_756 : fs_714[39]? = some (.int (-1))) (hf_759 : ∀ j, j < 16 → f_717 j = -1) : W p l e room_1 s m #[Value.ref b] below meth c H locs 84 30598 (lw_Z below #[Value.ref b] s) (F0 m 530 ls []) := by
  have hA : ∀ q : Nat, s.heap.size ≤ q → (fun q : Nat => s.heap.size ≤ q) q := fun _ h => h
  have hbA : ¬ (fun q : Nat => s.heap.size ≤ q) b := Nat.not_le.mpr hbl
  refine lv_aload_n hx hb dL_law_530 rfl (lv_at hl 2 rfl) ?_
  refine lv_aload_n hx hb dL_law_531 rfl (lv_at hl 3 rfl) ?_
  refine lv_iload_n hx hb dL_law_532 rfl (lv_at hl 0 rfl) ?_
  refine lv_iconst (v := 1) hx hb dL_law_533 (by decide) ?_
  refine lv_iadd hx hb dL_law_534 ?_
  refine lv_topi (fun y_989 ey_989 => ?_)
  obtain rfl : y_989 = 1 := ey_989.trans (by decide)
  refine va_sld hx hb hX hbl hbA hS (by unfold vp_in; decide) dL_law_535 ?_
  refine lv_topi (fun y_990 ey_990 => ?_)
  obtain rfl : y_990 = 3 := ey_990.trans ((congrArg xs (by decide : (1 : Int32).toNatClampNeg = 1)).trans ew1.symm)
  have hPc := hP.sub (ws' := [(q_663, .inr (9, [.ref q_664, .int 0, .ref q_665, .ref q_666, .ref q_667, .int 0, .int (-1), .ref q_668, .ref q_669, .ref q_670, .ref q_671, .ref q_672, .ref q_673])), (q_668, .inr (6, [.ref q_687, .int (-1), .ref q_688])), (q_687, .inr (3, [.ref q_689, .ref q_690, .ref q_691, .ref q_692, .ref q_693, .ref q_694, .ref q_695, .ref q_696, .ref q_697, .int 0, .int 0, .int 0, .int 0, .int (-1)]))]) [0, 1, 2] rfl
  have hDc := hD.sub (ws' := [(q_663, .inr (9, [.ref q_664, .int 0, .ref q_665, .ref q_666, .ref q_667, .int 0, .int (-1), .ref q_668, .ref q_669, .ref q_670, .ref q_671, .ref q_672, .ref q_673])), (q_668, .inr (6, [.ref q_687, .int (-1), .ref q_688])), (q_687, .inr (3, [.ref q_689, .ref q_690, .ref q_691, .ref q_692, .ref q_693, .ref q_694, .ref q_695, .ref q_696, .ref q_697, .int 0, .int 0, .int 0, .int 0, .int (-1)]))]) [0, 1, 2] (by decide) rfl
  have hFc := va_free (wc := [(q_663, .inr (9, [.ref q_664, .int 0, .ref q_665, .ref q_666, .ref q_667, .int 0, .int (-1), .ref q_668, .ref q_669, .ref q_670, .ref q_671, .ref q_672, .ref q_673])), (q_668, .inr (6, [.ref q_687, .int (-1), .ref q_688])), (q_687, .inr (3, [.ref q_689, .ref q_690, .ref q_691, .ref q_692, .ref q_693, .ref q_694, .ref q_695, .ref q_696, .ref q_697, .int 0, .int 0, .int 0, .int 0, .int (-1)]))]) hD hS hA [0, 1, 2] rfl
  refine va_calli (va_runV (As := [.int 3]) (rest := []) ⟨hx, hb, hml, hown, hts⟩ (c_count3 l dC dI cI cB cL cZ (q_663) (q_664) (q_665) (q_666) (q_667) (q_668) (q_669) (q_670) (q_671) (q_672) (q_673) (q_687) (q_688) (q_689) (q_690) (q_691) (q_692) (q_693) (q_694) (q_695) (q_696) (q_697) H.size) (cwV 1 hts gL_law_X10_count rfl rfl rfl (by decide +kernel) ⟨Nat.le_of_ble_eq_true rfl, Nat.le_of_ble_eq_true rfl⟩) ⟨cP_fb, va_recv hK hPc (ci := 9) (q0 := 0) rfl rfl, fun U hU hW => cP_pre hPc hK hDc hN U hU hW⟩ rfl rfl hl.1 rfl (lv_room (Nat.le_of_ble_eq_true rfl)) dL_law_536 ⟨Nat.le_of_ble_eq_true rfl, Nat.le_of_ble_eq_true rfl⟩) hS (fun q _ h => hFc q h) hFc (fun r_991 u t H1 locs ht hvm hw hB hz1 hk1 hS => ?_)
  obtain ⟨hP1, hD1⟩ := hB
  rw [ht] at hP1
  obtain ⟨hP, hD⟩ := va_join (wr := [(q_713, .inr (10, fs_714)), (q_716, .inl (cI, 16, .inl f_717)), (q_724, .inl (cI, 2, .inl (fun _ => 0))), (q_727, .inl (cI, 2, .inl (fun _ => 0)))]) (w1 := []) hP hD [0, 1, 2] [3, 4, 5, 6] rfl rfl (by decide) (by decide) hk1 hFc hP1 hD1
  generalize H1 = H at hP hS ⊢
  have hP : va_P (dC, dI) vwCl [(q_713, .inr (10, fs_714)), (q_716, .inl (cI, 16, .inl f_717)), (q_724, .inl (cI, 2, .inl (fun _ => 0))), (q_727, .inl (cI, 2, .inl (fun _ => 0)))] H := hP
  have hD : va_D (fun q : Nat => s.heap.size ≤ q) [(q_713, .inr (10, fs_714)), (q_716, .inl (cI, 16, .inl f_717)), (q_724, .inl (cI, 2, .inl (fun _ => 0))), (q_727, .inl (cI, 2, .inl (fun _ => 0)))] := hD
  obtain rfl : r_991 = (-1) := hw
  refine lv_aload_n hx hb dL_law_539 rfl (lv_at hl 1 rfl) ?_
  refine lv_aload_n hx hb dL_law_540 rfl (lv_at hl 3 rfl) ?_
  refine lv_iload_n hx hb dL_law_541 rfl (lv_at hl 0 rfl) ?_
  refine lv_iconst (v := 1) hx hb dL_law_542 (by decide) ?_
  refine lv_iadd hx hb dL_law_543 ?_
  refine lv_topi (fun y_992 ey_992 => ?_)
  obtain rfl : y_992 = 1 := ey_992.trans (by decide)
  refine va_sld hx hb hX hbl hbA hS (by unfold vp_in; decide) dL_law_544 ?_
  refine lv_topi (fun y_993 ey_993 => ?_)
  obtain rfl : y_993 = 3 := ey_993.trans ((congrArg xs (by decide : (1 : Int32).toNatClampNeg = 1)).trans ew1.symm)
  have hPc := hP.sub (ws' := [(q_713, .inr (10, fs_714)), (q_716, .inl (cI, 16, .inl f_717)), (q_724, .inl (cI, 2, .inl (fun _ => 0))), (q_727, .inl (cI, 2, .inl (fun _ => 0)))]) [0, 1, 2, 3] rfl
  have hDc := hD.sub (ws' := [(q_713, .inr (10, fs_714)), (q_716, .inl (cI, 16, .inl f_717)), (q_724, .inl (cI, 2, .inl (fun _ => 0))), (q_727, .inl (cI, 2, .inl (fun _ => 0)))]) [0, 1, 2, 3] (by decide) rfl
  have hFc := va_free (wc := [(q_713, .inr (10, fs_714)), (q_716, .inl (cI, 16, .inl f_717)), (q_724, .inl (cI, 2, .inl (fun _ => 0))), (q_727, .inl (cI, 2, .inl (fun _ => 0)))]) hD hS hA [0, 1, 2, 3] rfl
  refine va_calli (va_runV (As := [.int 3]) (rest := [.int (-1)]) ⟨hx, hb, hml, hown, hts⟩ (m_count3 l dC dI cI cB cL cZ (q_713) (q_716) (q_724) (q_727) (fs_714) (f_717) ((fun _ => 0)) ((fun _ => 0)) H.size hf_734 hf_736 hf_743 hf_746 hf_756 (hf_759) (rfl) (rfl)) (cwV 1 hts gL_law_X11_count rfl rfl rfl (by decide +kernel) ⟨Nat.le_of_ble_eq_true rfl, Nat.le_of_ble_eq_true rfl⟩) ⟨cP_fb, va_recv hK hPc (ci := 10) (q0 := 0) rfl rfl, fun U hU hW => cP_pre hPc hK hDc hN U hU hW⟩ rfl rfl hl.1 rfl (lv_room (Nat.le_of_ble_eq_true rfl)) dL_law_545 ⟨Nat.le_of_ble_eq_true rfl, Nat.le_of_ble_eq_true rfl⟩) hS (fun q _ h => hFc q h) hFc (fun r_994 u t H1 locs ht hvm hw hB hz1 hk1 hS => ?_)
  obtain ⟨hP1, hD1⟩ := hB
  rw [ht] at hP1
  obtain ⟨hP, hD⟩ := va_join (wr := []) (w1 := []) hP hD [0, 1, 2, 3] [] rfl rfl (by decide) (by decide) hk1 hFc hP1 hD1
  generalize H1 = H at hP hS ⊢
  have hP : va_P (dC, dI) vwCl [] H := hP
  have hD : va_D (fun q : Nat => s.heap.size ≤ q) [] := hD
  obtain rfl : r_994 = (-1) := hw
  refine lv_icmp_eq (tgt := 553) hx hb dL_law_548 (by decide) (fun _ => ?_) (fun c9 => absurd (by decide) c9)
  refine lv_iinc (v := 6) (lv' := [(3, .int 6), (2, .ref q_713), (1, .ref q_663), (0, .ref b)]) hx hb dL_law_553 hl (k := 0) rfl (by decide) (by decide) rfl (fun ls hl => ?_)
  refine lv_goto (tgt := 18) hx hb dL_law_556 (by decide) ?_
  refine lv_iload_n hx hb dL_law_18 rfl (lv_at hl 0 rfl) ?_
  refine lv_aload_n hx hb dL_law_19 rfl (lv_at hl 3 rfl) ?_
  refine va_slen hx hb hX hbl hbA hS dL_law_20 ?_
  refine lv_topi (fun y_995 ey_995 => ?_)
  obtain rfl : y_995 = 6 := ey_995.trans (by decide)
  refine lv_bipush (v := 6) hx hb dL_law_21 (by decide) ?_
  refine lv_isub hx hb dL_law_23 ?_
  refine lv_topi (fun y_996 ey_996 => ?_)
  obtain rfl : y_996 = 0 := ey_996.trans (by decide)
  refine lv_icmp_gt (tgt := 559) hx hb dL_law_24 (by decide) (fun _ => ?_) (fun c9 => absurd (by decide) c9)
  refine lv_iconst (v := 1) hx hb dL_law_559 (by decide) ?_
  refine va_forget (fun q hq => hS.2.2 q hq) ?_
  exact lw_ret hx hb hr hlocks dL_law_560

set_option maxHeartbeats 4000000 in
set_option maxRecDepth 100000 in
theorem lw_count4 {p : Program} {l : Launch} {e : Env} {s : State} {m : MethodId} {below : List Frame} {meth : Method} {c : Code} {dC : Nat → ClassId} {dI : Nat → Nat → Nat} {cI cB cL cZ : ClassId} {b : Nat} {xs : Nat → Int32} (hx : p.tables.exec = Jvm.exec) (hb : c.code = cL_law) (hr : meth.sig.returnType = ret) (hml : c.maxLocals = 4) (hown : s.vm.findClass RL = some m.cls) (hts : ∀ w ∈ wsL_law, w.before #[Value.ref b] s = true) (hX : va_X b 6 xs s s.heap) (hbl : b < s.heap.size) (hlocks : meth.locks = false) (hK : va_K (dC, dI) vwCl (kTy cI cB cL cZ) s) (hN : nN s) {q_663 : Nat} {q_664 : Nat} {q_665 : Nat} {q_666 : Nat} {q_667 : Nat} {q_668 : Nat} {q_669 : Nat} {q_670 : Nat} {q_671 : Nat} {q_672 : Nat} {q_673 : Nat} {q_699 : Nat} {q_700 : Nat} {q_701 : Nat} {q_702 : Nat} {q_703 : Nat} {q_687 : Nat} {q_689 : Nat} {q_688 : Nat} {q_690 : Nat} {q_691 : Nat} {q_692 : Nat} {q_693 : Nat} {q_694 : Nat} {q_695 : Nat} {q_696 : Nat} {q_697 : Nat} {q_698 : Nat} {q_713 : Nat} {fs_714 : List Value} {q_724 : Nat} {q_730 : Nat} {q_729 : Nat} {q_731 : Nat} (ew1 : (4 : Int32) = xs 1) {w2 : Int32} (ew2 : w2 = xs 2) {w3 : Int32} (ew3 : w3 = xs 3) {w4 : Int32} (ew4 : w4 = xs 4) {w5 : Int32} (ew5 : w5 = xs 5) {H : Heap} {locs : List Loc} (hP : va_P (dC, dI) vwCl [(q_663, .inr (9, [.ref q_664, .int 0, .ref q_665, .ref q_666, .ref q_667, .int 0, .int (-1), .ref q_668, .ref q_669, .ref q_670, .ref q_671, .ref q_672, .ref q_673])), (q_669, .inr (1, [.ref q_668, .ref q_699, .ref q_700, .ref q_701, .ref q_702, .ref q_703, .ref q_687, .ref q_689, .int 1, .int 0, .int 0, .int 0, .long 0, .long 0])), (q_668, .inr (6, [.ref q_687, .int (-1), .ref q_688])), (q_687, .inr (3, [.ref q_689, .ref q_690, .ref q_691, .ref q_692, .ref q_693, .ref q_694, .ref q_695, .ref q_696, .ref q_697, .int 0, .int 0, .int 0, .int 0, .int (-1)])), (q_689, .inr (0, [.ref q_698, .int 0])), (q_699, .inl (cL, 304, .inr (.inl (fun _ => 0)))), (q_700, .inl (cI, 304, .inl (fun _ => 0))), (q_701, .inl (cI, 42, .inl (fun _ => 0))), (q_702, .inl (cI, 40, .inl (fun _ => 0))), (q_703, .inl (cI, 24, .inl (fun _ => 0))), (q_713, .inr (10, fs_714)), (q_724, .inl (cI, 2, .inl (fun _ => 0))), (q_730, .inl (cZ, 42, .inl (fun _ => 0))), (q_729, .inl (cI, 42, .inl (fun _ => 0))), (q_731, .inl (cI, 25, .inl (fun _ => 0)))] H) (hD : va_D (fun q : Nat => s.heap.size ≤ q) [(q_663, .inr (9, [.ref q_664, .int 0, .ref q_665, .ref q_666, .ref q_667, .int 0, .int (-1), .ref q_668, .ref q_669, .ref q_670, .ref q_671, .ref q_672, .ref q_673])), (q_669, .inr (1, [.ref q_668, .ref q_699, .ref q_700, .ref q_701, .ref q_702, .ref q_703, .ref q_687, .ref q_689, .int 1, .int 0, .int 0, .int 0, .long 0, .long 0])), (q_668, .inr (6, [.ref q_687, .int (-1), .ref q_688])), (q_687, .inr (3, [.ref q_689, .ref q_690, .ref q_691, .ref q_692, .ref q_693, .ref q_694, .ref q_695, .ref q_696, .ref q_697, .int 0, .int 0, .int 0, .int 0, .int (-1)])), (q_689, .inr (0, [.ref q_698, .int 0])), (q_699, .inl (cL, 304, .inr (.inl (fun _ => 0)))), (q_700, .inl (cI, 304, .inl (fun _ => 0))), (q_701, .inl (cI, 42, .inl (fun _ => 0))), (q_702, .inl (cI, 40, .inl (fun _ => 0))), (q_703, .inl (cI, 24, .inl (fun _ => 0))), (q_713, .inr (10, fs_714)), (q_724, .inl (cI, 2, .inl (fun _ => 0))), (q_730, .inl (cZ, 42, .inl (fun _ => 0))), (q_729, .inl (cI, 42, .inl (fun _ => 0))), (q_731, .inl (cI, 25, .inl (fun _ => 0)))]) (hS : va_S (fun q : Nat => s.heap.size ≤ q) s.heap H locs) {ls : Array Slot} (hl : lv_has ls 4 [(3, .int 0), (2, .ref q_713), (1, .ref q_663), (0, .ref b)]) (hf_734 : fs_714.length = 68) (hf_743 : fs_714[26]? = some (.ref q_724)) (hf_749 : fs_714[43]? = some (.ref q_730)) (hf_748 : fs_714[42]? = some (.ref q_729)) (hf_750 : fs_714[44]? = some (.ref q_731)) (hf_755 : fs_714[18]? = some (.int 0)) (hf_756 : fs_714[39]? = some (.int (-1))) : W p l e room_1 s m #[Value.ref b] below meth c H locs 84 30598 (lw_Z below #[Value.ref b] s) (F0 m 530 ls []) := by
  have hA : ∀ q : Nat, s.heap.size ≤ q → (fun q : Nat => s.heap.size ≤ q) q := fun _ h => h
  have hbA : ¬ (fun q : Nat => s.heap.size ≤ q) b := Nat.not_le.mpr hbl
  refine lv_aload_n hx hb dL_law_530 rfl (lv_at hl 2 rfl) ?_
  refine lv_aload_n hx hb dL_law_531 rfl (lv_at hl 3 rfl) ?_
  refine lv_iload_n hx hb dL_law_532 rfl (lv_at hl 0 rfl) ?_
  refine lv_iconst (v := 1) hx hb dL_law_533 (by decide) ?_
  refine lv_iadd hx hb dL_law_534 ?_
  refine lv_topi (fun y_997 ey_997 => ?_)
  obtain rfl : y_997 = 1 := ey_997.trans (by decide)
  refine va_sld hx hb hX hbl hbA hS (by unfold vp_in; decide) dL_law_535 ?_
  refine lv_topi (fun y_998 ey_998 => ?_)
  obtain rfl : y_998 = 4 := ey_998.trans ((congrArg xs (by decide : (1 : Int32).toNatClampNeg = 1)).trans ew1.symm)
  have hPc := hP.sub (ws' := [(q_663, .inr (9, [.ref q_664, .int 0, .ref q_665, .ref q_666, .ref q_667, .int 0, .int (-1), .ref q_668, .ref q_669, .ref q_670, .ref q_671, .ref q_672, .ref q_673])), (q_669, .inr (1, [.ref q_668, .ref q_699, .ref q_700, .ref q_701, .ref q_702, .ref q_703, .ref q_687, .ref q_689, .int 1, .int 0, .int 0, .int 0, .long 0, .long 0])), (q_668, .inr (6, [.ref q_687, .int (-1), .ref q_688])), (q_687, .inr (3, [.ref q_689, .ref q_690, .ref q_691, .ref q_692, .ref q_693, .ref q_694, .ref q_695, .ref q_696, .ref q_697, .int 0, .int 0, .int 0, .int 0, .int (-1)])), (q_689, .inr (0, [.ref q_698, .int 0])), (q_699, .inl (cL, 304, .inr (.inl (fun _ => 0)))), (q_700, .inl (cI, 304, .inl (fun _ => 0))), (q_701, .inl (cI, 42, .inl (fun _ => 0))), (q_702, .inl (cI, 40, .inl (fun _ => 0))), (q_703, .inl (cI, 24, .inl (fun _ => 0)))]) [0, 1, 2, 3, 4, 5, 6, 7, 8, 9] rfl
  have hDc := hD.sub (ws' := [(q_663, .inr (9, [.ref q_664, .int 0, .ref q_665, .ref q_666, .ref q_667, .int 0, .int (-1), .ref q_668, .ref q_669, .ref q_670, .ref q_671, .ref q_672, .ref q_673])), (q_669, .inr (1, [.ref q_668, .ref q_699, .ref q_700, .ref q_701, .ref q_702, .ref q_703, .ref q_687, .ref q_689, .int 1, .int 0, .int 0, .int 0, .long 0, .long 0])), (q_668, .inr (6, [.ref q_687, .int (-1), .ref q_688])), (q_687, .inr (3, [.ref q_689, .ref q_690, .ref q_691, .ref q_692, .ref q_693, .ref q_694, .ref q_695, .ref q_696, .ref q_697, .int 0, .int 0, .int 0, .int 0, .int (-1)])), (q_689, .inr (0, [.ref q_698, .int 0])), (q_699, .inl (cL, 304, .inr (.inl (fun _ => 0)))), (q_700, .inl (cI, 304, .inl (fun _ => 0))), (q_701, .inl (cI, 42, .inl (fun _ => 0))), (q_702, .inl (cI, 40, .inl (fun _ => 0))), (q_703, .inl (cI, 24, .inl (fun _ => 0)))]) [0, 1, 2, 3, 4, 5, 6, 7, 8, 9] (by decide) rfl
  have hFc := va_free (wc := [(q_663, .inr (9, [.ref q_664, .int 0, .ref q_665, .ref q_666, .ref q_667, .int 0, .int (-1), .ref q_668, .ref q_669, .ref q_670, .ref q_671, .ref q_672, .ref q_673])), (q_669, .inr (1, [.ref q_668, .ref q_699, .ref q_700, .ref q_701, .ref q_702, .ref q_703, .ref q_687, .ref q_689, .int 1, .int 0, .int 0, .int 0, .long 0, .long 0])), (q_668, .inr (6, [.ref q_687, .int (-1), .ref q_688])), (q_687, .inr (3, [.ref q_689, .ref q_690, .ref q_691, .ref q_692, .ref q_693, .ref q_694, .ref q_695, .ref q_696, .ref q_697, .int 0, .int 0, .int 0, .int 0, .int (-1)])), (q_689, .inr (0, [.ref q_698, .int 0])), (q_699, .inl (cL, 304, .inr (.inl (fun _ => 0)))), (q_700, .inl (cI, 304, .inl (fun _ => 0))), (q_701, .inl (cI, 42, .inl (fun _ => 0))), (q_702, .inl (cI, 40, .inl (fun _ => 0))), (q_703, .inl (cI, 24, .inl (fun _ => 0)))]) hD hS hA [0, 1, 2, 3, 4, 5, 6, 7, 8, 9] rfl
  refine va_calli (va_runV (As := [.int 4]) (rest := []) ⟨hx, hb, hml, hown, hts⟩ (c_count4 l dC dI cI cB cL cZ (q_663) (q_664) (q_665) (q_666) (q_667) (q_668) (q_669) (q_670) (q_671) (q_672) (q_673) (q_687) (q_688) (q_689) (q_690) (q_691) (q_692) (q_693) (q_694) (q_695) (q_696) (q_697) (q_698) (q_699) (q_700) (q_701) (q_702) (q_703) ((fun _ => 0)) ((fun _ => 0)) ((fun _ => 0)) ((fun _ => 0)) ((fun _ => 0)) H.size) (cwV 1 hts gL_law_X10_count rfl rfl rfl (by decide +kernel) ⟨Nat.le_of_ble_eq_true rfl, Nat.le_of_ble_eq_true rfl⟩) ⟨cP_fb, va_recv hK hPc (ci := 9) (q0 := 0) rfl rfl, fun U hU hW => cP_pre hPc hK hDc hN U hU hW⟩ rfl rfl hl.1 rfl (lv_room (Nat.le_of_ble_eq_true rfl)) dL_law_536 ⟨Nat.le_of_ble_eq_true rfl, Nat.le_of_ble_eq_true rfl⟩) hS (fun q _ h => hFc q h) hFc (fun r_999 u t H1 locs ht hvm hw hB hz1 hk1 hS => ?_)
  obtain ⟨hP1, hD1⟩ := hB
  rw [ht] at hP1
  obtain ⟨hP, hD⟩ := va_join (wr := [(q_713, .inr (10, fs_714)), (q_724, .inl (cI, 2, .inl (fun _ => 0))), (q_730, .inl (cZ, 42, .inl (fun _ => 0))), (q_729, .inl (cI, 42, .inl (fun _ => 0))), (q_731, .inl (cI, 25, .inl (fun _ => 0)))]) (w1 := []) hP hD [0, 1, 2, 3, 4, 5, 6, 7, 8, 9] [10, 11, 12, 13, 14] rfl rfl (by decide) (by decide) hk1 hFc hP1 hD1
  generalize H1 = H at hP hS ⊢
  have hP : va_P (dC, dI) vwCl [(q_713, .inr (10, fs_714)), (q_724, .inl (cI, 2, .inl (fun _ => 0))), (q_730, .inl (cZ, 42, .inl (fun _ => 0))), (q_729, .inl (cI, 42, .inl (fun _ => 0))), (q_731, .inl (cI, 25, .inl (fun _ => 0)))] H := hP
  have hD : va_D (fun q : Nat => s.heap.size ≤ q) [(q_713, .inr (10, fs_714)), (q_724, .inl (cI, 2, .inl (fun _ => 0))), (q_730, .inl (cZ, 42, .inl (fun _ => 0))), (q_729, .inl (cI, 42, .inl (fun _ => 0))), (q_731, .inl (cI, 25, .inl (fun _ => 0)))] := hD
  obtain rfl : r_999 = 0 := hw
  refine lv_aload_n hx hb dL_law_539 rfl (lv_at hl 1 rfl) ?_
  refine lv_aload_n hx hb dL_law_540 rfl (lv_at hl 3 rfl) ?_
  refine lv_iload_n hx hb dL_law_541 rfl (lv_at hl 0 rfl) ?_
  refine lv_iconst (v := 1) hx hb dL_law_542 (by decide) ?_
  refine lv_iadd hx hb dL_law_543 ?_
  refine lv_topi (fun y_1000 ey_1000 => ?_)
  obtain rfl : y_1000 = 1 := ey_1000.trans (by decide)
  refine va_sld hx hb hX hbl hbA hS (by unfold vp_in; decide) dL_law_544 ?_
  refine lv_topi (fun y_1001 ey_1001 => ?_)
  obtain rfl : y_1001 = 4 := ey_1001.trans ((congrArg xs (by decide : (1 : Int32).toNatClampNeg = 1)).trans ew1.symm)
  have hPc := hP.sub (ws' := [(q_713, .inr (10, fs_714)), (q_724, .inl (cI, 2, .inl (fun _ => 0))), (q_730, .inl (cZ, 42, .inl (fun _ => 0))), (q_729, .inl (cI, 42, .inl (fun _ => 0))), (q_731, .inl (cI, 25, .inl (fun _ => 0)))]) [0, 1, 2, 3, 4] rfl
  have hDc := hD.sub (ws' := [(q_713, .inr (10, fs_714)), (q_724, .inl (cI, 2, .inl (fun _ => 0))), (q_730, .inl (cZ, 42, .inl (fun _ => 0))), (q_729, .inl (cI, 42, .inl (fun _ => 0))), (q_731, .inl (cI, 25, .inl (fun _ => 0)))]) [0, 1, 2, 3, 4] (by decide) rfl
  have hFc := va_free (wc := [(q_713, .inr (10, fs_714)), (q_724, .inl (cI, 2, .inl (fun _ => 0))), (q_730, .inl (cZ, 42, .inl (fun _ => 0))), (q_729, .inl (cI, 42, .inl (fun _ => 0))), (q_731, .inl (cI, 25, .inl (fun _ => 0)))]) hD hS hA [0, 1, 2, 3, 4] rfl
  refine va_calli (va_runV (As := [.int 4]) (rest := [.int 0]) ⟨hx, hb, hml, hown, hts⟩ (m_count4 l dC dI cI cB cL cZ (q_713) (q_724) (q_730) (q_729) (q_731) (fs_714) ((fun _ => 0)) ((fun _ => 0)) ((fun _ => 0)) ((fun _ => 0)) H.size hf_734 hf_743 hf_749 hf_748 hf_750 hf_755 hf_756 (rfl)) (cwV 1 hts gL_law_X11_count rfl rfl rfl (by decide +kernel) ⟨Nat.le_of_ble_eq_true rfl, Nat.le_of_ble_eq_true rfl⟩) ⟨cP_fb, va_recv hK hPc (ci := 10) (q0 := 0) rfl rfl, fun U hU hW => cP_pre hPc hK hDc hN U hU hW⟩ rfl rfl hl.1 rfl (lv_room (Nat.le_of_ble_eq_true rfl)) dL_law_545 ⟨Nat.le_of_ble_eq_true rfl, Nat.le_of_ble_eq_true rfl⟩) hS (fun q _ h => hFc q h) hFc (fun r_1002 u t H1 locs ht hvm hw hB hz1 hk1 hS => ?_)
  obtain ⟨hP1, hD1⟩ := hB
  rw [ht] at hP1
  obtain ⟨hP, hD⟩ := va_join (wr := []) (w1 := []) hP hD [0, 1, 2, 3, 4] [] rfl rfl (by decide) (by decide) hk1 hFc hP1 hD1
  generalize H1 = H at hP hS ⊢
  have hP : va_P (dC, dI) vwCl [] H := hP
  have hD : va_D (fun q : Nat => s.heap.size ≤ q) [] := hD
  obtain rfl : r_1002 = 0 := hw
  refine lv_icmp_eq (tgt := 553) hx hb dL_law_548 (by decide) (fun _ => ?_) (fun c9 => absurd (by decide) c9)
  refine lv_iinc (v := 6) (lv' := [(3, .int 6), (2, .ref q_713), (1, .ref q_663), (0, .ref b)]) hx hb dL_law_553 hl (k := 0) rfl (by decide) (by decide) rfl (fun ls hl => ?_)
  refine lv_goto (tgt := 18) hx hb dL_law_556 (by decide) ?_
  refine lv_iload_n hx hb dL_law_18 rfl (lv_at hl 0 rfl) ?_
  refine lv_aload_n hx hb dL_law_19 rfl (lv_at hl 3 rfl) ?_
  refine va_slen hx hb hX hbl hbA hS dL_law_20 ?_
  refine lv_topi (fun y_1003 ey_1003 => ?_)
  obtain rfl : y_1003 = 6 := ey_1003.trans (by decide)
  refine lv_bipush (v := 6) hx hb dL_law_21 (by decide) ?_
  refine lv_isub hx hb dL_law_23 ?_
  refine lv_topi (fun y_1004 ey_1004 => ?_)
  obtain rfl : y_1004 = 0 := ey_1004.trans (by decide)
  refine lv_icmp_gt (tgt := 559) hx hb dL_law_24 (by decide) (fun _ => ?_) (fun c9 => absurd (by decide) c9)
  refine lv_iconst (v := 1) hx hb dL_law_559 (by decide) ?_
  refine va_forget (fun q hq => hS.2.2 q hq) ?_
  exact lw_ret hx hb hr hlocks dL_law_560

set_option maxHeartbeats 4000000 in
set_option maxRecDepth 100000 in
theorem lw_count5 {p : Program} {l : Launch} {e : Env} {s : State} {m : MethodId} {below : List Frame} {meth : Method} {c : Code} {dC : Nat → ClassId} {dI : Nat → Nat → Nat} {cI cB cL cZ : ClassId} {b : Nat} {xs : Nat → Int32} (hx : p.tables.exec = Jvm.exec) (hb : c.code = cL_law) (hr : meth.sig.returnType = ret) (hml : c.maxLocals = 4) (hown : s.vm.findClass RL = some m.cls) (hts : ∀ w ∈ wsL_law, w.before #[Value.ref b] s = true) (hX : va_X b 6 xs s s.heap) (hbl : b < s.heap.size) (hlocks : meth.locks = false) (hK : va_K (dC, dI) vwCl (kTy cI cB cL cZ) s) (hN : nN s) {q_663 : Nat} {q_664 : Nat} {q_665 : Nat} {q_666 : Nat} {q_667 : Nat} {q_668 : Nat} {q_669 : Nat} {q_670 : Nat} {q_671 : Nat} {q_672 : Nat} {q_673 : Nat} {q_699 : Nat} {q_700 : Nat} {q_701 : Nat} {q_702 : Nat} {q_703 : Nat} {q_687 : Nat} {q_689 : Nat} {q_688 : Nat} {q_690 : Nat} {q_691 : Nat} {q_692 : Nat} {q_693 : Nat} {q_694 : Nat} {q_695 : Nat} {q_696 : Nat} {q_697 : Nat} {q_698 : Nat} {q_713 : Nat} {fs_714 : List Value} {q_724 : Nat} {q_730 : Nat} {q_729 : Nat} {q_731 : Nat} (ew1 : (5 : Int32) = xs 1) {w2 : Int32} (ew2 : w2 = xs 2) {w3 : Int32} (ew3 : w3 = xs 3) {w4 : Int32} (ew4 : w4 = xs 4) {w5 : Int32} (ew5 : w5 = xs 5) {H : Heap} {locs : List Loc} (hP : va_P (dC, dI) vwCl [(q_663, .inr (9, [.ref q_664, .int 0, .ref q_665, .ref q_666, .ref q_667, .int 0, .int (-1), .ref q_668, .ref q_669, .ref q_670, .ref q_671, .ref q_672, .ref q_673])), (q_669, .inr (1, [.ref q_668, .ref q_699, .ref q_700, .ref q_701, .ref q_702, .ref q_703, .ref q_687, .ref q_689, .int 1, .int 0, .int 0, .int 0, .long 0, .long 0])), (q_668, .inr (6, [.ref q_687, .int (-1), .ref q_688])), (q_687, .inr (3, [.ref q_689, .ref q_690, .ref q_691, .ref q_692, .ref q_693, .ref q_694, .ref q_695, .ref q_696, .ref q_697, .int 0, .int 0, .int 0, .int 0, .int (-1)])), (q_689, .inr (0, [.ref q_698, .int 0])), (q_699, .inl (cL, 304, .inr (.inl (fun _ => 0)))), (q_700, .inl (cI, 304, .inl (fun _ => 0))), (q_701, .inl (cI, 42, .inl (fun _ => 0))), (q_702, .inl (cI, 40, .inl (fun _ => 0))), (q_703, .inl (cI, 24, .inl (fun _ => 0))), (q_713, .inr (10, fs_714)), (q_724, .inl (cI, 2, .inl (fun _ => 0))), (q_730, .inl (cZ, 42, .inl (fun _ => 0))), (q_729, .inl (cI, 42, .inl (fun _ => 0))), (q_731, .inl (cI, 25, .inl (fun _ => 0)))] H) (hD : va_D (fun q : Nat => s.heap.size ≤ q) [(q_663, .inr (9, [.ref q_664, .int 0, .ref q_665, .ref q_666, .ref q_667, .int 0, .int (-1), .ref q_668, .ref q_669, .ref q_670, .ref q_671, .ref q_672, .ref q_673])), (q_669, .inr (1, [.ref q_668, .ref q_699, .ref q_700, .ref q_701, .ref q_702, .ref q_703, .ref q_687, .ref q_689, .int 1, .int 0, .int 0, .int 0, .long 0, .long 0])), (q_668, .inr (6, [.ref q_687, .int (-1), .ref q_688])), (q_687, .inr (3, [.ref q_689, .ref q_690, .ref q_691, .ref q_692, .ref q_693, .ref q_694, .ref q_695, .ref q_696, .ref q_697, .int 0, .int 0, .int 0, .int 0, .int (-1)])), (q_689, .inr (0, [.ref q_698, .int 0])), (q_699, .inl (cL, 304, .inr (.inl (fun _ => 0)))), (q_700, .inl (cI, 304, .inl (fun _ => 0))), (q_701, .inl (cI, 42, .inl (fun _ => 0))), (q_702, .inl (cI, 40, .inl (fun _ => 0))), (q_703, .inl (cI, 24, .inl (fun _ => 0))), (q_713, .inr (10, fs_714)), (q_724, .inl (cI, 2, .inl (fun _ => 0))), (q_730, .inl (cZ, 42, .inl (fun _ => 0))), (q_729, .inl (cI, 42, .inl (fun _ => 0))), (q_731, .inl (cI, 25, .inl (fun _ => 0)))]) (hS : va_S (fun q : Nat => s.heap.size ≤ q) s.heap H locs) {ls : Array Slot} (hl : lv_has ls 4 [(3, .int 0), (2, .ref q_713), (1, .ref q_663), (0, .ref b)]) (hf_734 : fs_714.length = 68) (hf_743 : fs_714[26]? = some (.ref q_724)) (hf_749 : fs_714[43]? = some (.ref q_730)) (hf_748 : fs_714[42]? = some (.ref q_729)) (hf_750 : fs_714[44]? = some (.ref q_731)) (hf_755 : fs_714[18]? = some (.int 0)) (hf_756 : fs_714[39]? = some (.int (-1))) : W p l e room_1 s m #[Value.ref b] below meth c H locs 84 30598 (lw_Z below #[Value.ref b] s) (F0 m 530 ls []) := by
  have hA : ∀ q : Nat, s.heap.size ≤ q → (fun q : Nat => s.heap.size ≤ q) q := fun _ h => h
  have hbA : ¬ (fun q : Nat => s.heap.size ≤ q) b := Nat.not_le.mpr hbl
  refine lv_aload_n hx hb dL_law_530 rfl (lv_at hl 2 rfl) ?_
  refine lv_aload_n hx hb dL_law_531 rfl (lv_at hl 3 rfl) ?_
  refine lv_iload_n hx hb dL_law_532 rfl (lv_at hl 0 rfl) ?_
  refine lv_iconst (v := 1) hx hb dL_law_533 (by decide) ?_
  refine lv_iadd hx hb dL_law_534 ?_
  refine lv_topi (fun y_1005 ey_1005 => ?_)
  obtain rfl : y_1005 = 1 := ey_1005.trans (by decide)
  refine va_sld hx hb hX hbl hbA hS (by unfold vp_in; decide) dL_law_535 ?_
  refine lv_topi (fun y_1006 ey_1006 => ?_)
  obtain rfl : y_1006 = 5 := ey_1006.trans ((congrArg xs (by decide : (1 : Int32).toNatClampNeg = 1)).trans ew1.symm)
  have hPc := hP.sub (ws' := [(q_663, .inr (9, [.ref q_664, .int 0, .ref q_665, .ref q_666, .ref q_667, .int 0, .int (-1), .ref q_668, .ref q_669, .ref q_670, .ref q_671, .ref q_672, .ref q_673])), (q_669, .inr (1, [.ref q_668, .ref q_699, .ref q_700, .ref q_701, .ref q_702, .ref q_703, .ref q_687, .ref q_689, .int 1, .int 0, .int 0, .int 0, .long 0, .long 0])), (q_668, .inr (6, [.ref q_687, .int (-1), .ref q_688])), (q_687, .inr (3, [.ref q_689, .ref q_690, .ref q_691, .ref q_692, .ref q_693, .ref q_694, .ref q_695, .ref q_696, .ref q_697, .int 0, .int 0, .int 0, .int 0, .int (-1)])), (q_689, .inr (0, [.ref q_698, .int 0])), (q_699, .inl (cL, 304, .inr (.inl (fun _ => 0)))), (q_700, .inl (cI, 304, .inl (fun _ => 0))), (q_701, .inl (cI, 42, .inl (fun _ => 0))), (q_702, .inl (cI, 40, .inl (fun _ => 0))), (q_703, .inl (cI, 24, .inl (fun _ => 0)))]) [0, 1, 2, 3, 4, 5, 6, 7, 8, 9] rfl
  have hDc := hD.sub (ws' := [(q_663, .inr (9, [.ref q_664, .int 0, .ref q_665, .ref q_666, .ref q_667, .int 0, .int (-1), .ref q_668, .ref q_669, .ref q_670, .ref q_671, .ref q_672, .ref q_673])), (q_669, .inr (1, [.ref q_668, .ref q_699, .ref q_700, .ref q_701, .ref q_702, .ref q_703, .ref q_687, .ref q_689, .int 1, .int 0, .int 0, .int 0, .long 0, .long 0])), (q_668, .inr (6, [.ref q_687, .int (-1), .ref q_688])), (q_687, .inr (3, [.ref q_689, .ref q_690, .ref q_691, .ref q_692, .ref q_693, .ref q_694, .ref q_695, .ref q_696, .ref q_697, .int 0, .int 0, .int 0, .int 0, .int (-1)])), (q_689, .inr (0, [.ref q_698, .int 0])), (q_699, .inl (cL, 304, .inr (.inl (fun _ => 0)))), (q_700, .inl (cI, 304, .inl (fun _ => 0))), (q_701, .inl (cI, 42, .inl (fun _ => 0))), (q_702, .inl (cI, 40, .inl (fun _ => 0))), (q_703, .inl (cI, 24, .inl (fun _ => 0)))]) [0, 1, 2, 3, 4, 5, 6, 7, 8, 9] (by decide) rfl
  have hFc := va_free (wc := [(q_663, .inr (9, [.ref q_664, .int 0, .ref q_665, .ref q_666, .ref q_667, .int 0, .int (-1), .ref q_668, .ref q_669, .ref q_670, .ref q_671, .ref q_672, .ref q_673])), (q_669, .inr (1, [.ref q_668, .ref q_699, .ref q_700, .ref q_701, .ref q_702, .ref q_703, .ref q_687, .ref q_689, .int 1, .int 0, .int 0, .int 0, .long 0, .long 0])), (q_668, .inr (6, [.ref q_687, .int (-1), .ref q_688])), (q_687, .inr (3, [.ref q_689, .ref q_690, .ref q_691, .ref q_692, .ref q_693, .ref q_694, .ref q_695, .ref q_696, .ref q_697, .int 0, .int 0, .int 0, .int 0, .int (-1)])), (q_689, .inr (0, [.ref q_698, .int 0])), (q_699, .inl (cL, 304, .inr (.inl (fun _ => 0)))), (q_700, .inl (cI, 304, .inl (fun _ => 0))), (q_701, .inl (cI, 42, .inl (fun _ => 0))), (q_702, .inl (cI, 40, .inl (fun _ => 0))), (q_703, .inl (cI, 24, .inl (fun _ => 0)))]) hD hS hA [0, 1, 2, 3, 4, 5, 6, 7, 8, 9] rfl
  refine va_calli (va_runV (As := [.int 5]) (rest := []) ⟨hx, hb, hml, hown, hts⟩ (c_count5 l dC dI cI cB cL cZ (q_663) (q_664) (q_665) (q_666) (q_667) (q_668) (q_669) (q_670) (q_671) (q_672) (q_673) (q_687) (q_688) (q_689) (q_690) (q_691) (q_692) (q_693) (q_694) (q_695) (q_696) (q_697) (q_698) (q_699) (q_700) (q_701) (q_702) (q_703) ((fun _ => 0)) ((fun _ => 0)) ((fun _ => 0)) ((fun _ => 0)) ((fun _ => 0)) H.size) (cwV 1 hts gL_law_X10_count rfl rfl rfl (by decide +kernel) ⟨Nat.le_of_ble_eq_true rfl, Nat.le_of_ble_eq_true rfl⟩) ⟨cP_fb, va_recv hK hPc (ci := 9) (q0 := 0) rfl rfl, fun U hU hW => cP_pre hPc hK hDc hN U hU hW⟩ rfl rfl hl.1 rfl (lv_room (Nat.le_of_ble_eq_true rfl)) dL_law_536 ⟨Nat.le_of_ble_eq_true rfl, Nat.le_of_ble_eq_true rfl⟩) hS (fun q _ h => hFc q h) hFc (fun r_1007 u t H1 locs ht hvm hw hB hz1 hk1 hS => ?_)
  obtain ⟨hP1, hD1⟩ := hB
  rw [ht] at hP1
  obtain ⟨hP, hD⟩ := va_join (wr := [(q_713, .inr (10, fs_714)), (q_724, .inl (cI, 2, .inl (fun _ => 0))), (q_730, .inl (cZ, 42, .inl (fun _ => 0))), (q_729, .inl (cI, 42, .inl (fun _ => 0))), (q_731, .inl (cI, 25, .inl (fun _ => 0)))]) (w1 := []) hP hD [0, 1, 2, 3, 4, 5, 6, 7, 8, 9] [10, 11, 12, 13, 14] rfl rfl (by decide) (by decide) hk1 hFc hP1 hD1
  generalize H1 = H at hP hS ⊢
  have hP : va_P (dC, dI) vwCl [(q_713, .inr (10, fs_714)), (q_724, .inl (cI, 2, .inl (fun _ => 0))), (q_730, .inl (cZ, 42, .inl (fun _ => 0))), (q_729, .inl (cI, 42, .inl (fun _ => 0))), (q_731, .inl (cI, 25, .inl (fun _ => 0)))] H := hP
  have hD : va_D (fun q : Nat => s.heap.size ≤ q) [(q_713, .inr (10, fs_714)), (q_724, .inl (cI, 2, .inl (fun _ => 0))), (q_730, .inl (cZ, 42, .inl (fun _ => 0))), (q_729, .inl (cI, 42, .inl (fun _ => 0))), (q_731, .inl (cI, 25, .inl (fun _ => 0)))] := hD
  obtain rfl : r_1007 = 0 := hw
  refine lv_aload_n hx hb dL_law_539 rfl (lv_at hl 1 rfl) ?_
  refine lv_aload_n hx hb dL_law_540 rfl (lv_at hl 3 rfl) ?_
  refine lv_iload_n hx hb dL_law_541 rfl (lv_at hl 0 rfl) ?_
  refine lv_iconst (v := 1) hx hb dL_law_542 (by decide) ?_
  refine lv_iadd hx hb dL_law_543 ?_
  refine lv_topi (fun y_1008 ey_1008 => ?_)
  obtain rfl : y_1008 = 1 := ey_1008.trans (by decide)
  refine va_sld hx hb hX hbl hbA hS (by unfold vp_in; decide) dL_law_544 ?_
  refine lv_topi (fun y_1009 ey_1009 => ?_)
  obtain rfl : y_1009 = 5 := ey_1009.trans ((congrArg xs (by decide : (1 : Int32).toNatClampNeg = 1)).trans ew1.symm)
  have hPc := hP.sub (ws' := [(q_713, .inr (10, fs_714)), (q_724, .inl (cI, 2, .inl (fun _ => 0))), (q_730, .inl (cZ, 42, .inl (fun _ => 0))), (q_729, .inl (cI, 42, .inl (fun _ => 0))), (q_731, .inl (cI, 25, .inl (fun _ => 0)))]) [0, 1, 2, 3, 4] rfl
  have hDc := hD.sub (ws' := [(q_713, .inr (10, fs_714)), (q_724, .inl (cI, 2, .inl (fun _ => 0))), (q_730, .inl (cZ, 42, .inl (fun _ => 0))), (q_729, .inl (cI, 42, .inl (fun _ => 0))), (q_731, .inl (cI, 25, .inl (fun _ => 0)))]) [0, 1, 2, 3, 4] (by decide) rfl
  have hFc := va_free (wc := [(q_713, .inr (10, fs_714)), (q_724, .inl (cI, 2, .inl (fun _ => 0))), (q_730, .inl (cZ, 42, .inl (fun _ => 0))), (q_729, .inl (cI, 42, .inl (fun _ => 0))), (q_731, .inl (cI, 25, .inl (fun _ => 0)))]) hD hS hA [0, 1, 2, 3, 4] rfl
  refine va_calli (va_runV (As := [.int 5]) (rest := [.int 0]) ⟨hx, hb, hml, hown, hts⟩ (m_count5 l dC dI cI cB cL cZ (q_713) (q_724) (q_730) (q_729) (q_731) (fs_714) ((fun _ => 0)) ((fun _ => 0)) ((fun _ => 0)) ((fun _ => 0)) H.size hf_734 hf_743 hf_749 hf_748 hf_750 hf_755 hf_756 (rfl)) (cwV 1 hts gL_law_X11_count rfl rfl rfl (by decide +kernel) ⟨Nat.le_of_ble_eq_true rfl, Nat.le_of_ble_eq_true rfl⟩) ⟨cP_fb, va_recv hK hPc (ci := 10) (q0 := 0) rfl rfl, fun U hU hW => cP_pre hPc hK hDc hN U hU hW⟩ rfl rfl hl.1 rfl (lv_room (Nat.le_of_ble_eq_true rfl)) dL_law_545 ⟨Nat.le_of_ble_eq_true rfl, Nat.le_of_ble_eq_true rfl⟩) hS (fun q _ h => hFc q h) hFc (fun r_1010 u t H1 locs ht hvm hw hB hz1 hk1 hS => ?_)
  obtain ⟨hP1, hD1⟩ := hB
  rw [ht] at hP1
  obtain ⟨hP, hD⟩ := va_join (wr := []) (w1 := []) hP hD [0, 1, 2, 3, 4] [] rfl rfl (by decide) (by decide) hk1 hFc hP1 hD1
  generalize H1 = H at hP hS ⊢
  have hP : va_P (dC, dI) vwCl [] H := hP
  have hD : va_D (fun q : Nat => s.heap.size ≤ q) [] := hD
  obtain rfl : r_1010 = 0 := hw
  refine lv_icmp_eq (tgt := 553) hx hb dL_law_548 (by decide) (fun _ => ?_) (fun c9 => absurd (by decide) c9)
  refine lv_iinc (v := 6) (lv' := [(3, .int 6), (2, .ref q_713), (1, .ref q_663), (0, .ref b)]) hx hb dL_law_553 hl (k := 0) rfl (by decide) (by decide) rfl (fun ls hl => ?_)
  refine lv_goto (tgt := 18) hx hb dL_law_556 (by decide) ?_
  refine lv_iload_n hx hb dL_law_18 rfl (lv_at hl 0 rfl) ?_
  refine lv_aload_n hx hb dL_law_19 rfl (lv_at hl 3 rfl) ?_
  refine va_slen hx hb hX hbl hbA hS dL_law_20 ?_
  refine lv_topi (fun y_1011 ey_1011 => ?_)
  obtain rfl : y_1011 = 6 := ey_1011.trans (by decide)
  refine lv_bipush (v := 6) hx hb dL_law_21 (by decide) ?_
  refine lv_isub hx hb dL_law_23 ?_
  refine lv_topi (fun y_1012 ey_1012 => ?_)
  obtain rfl : y_1012 = 0 := ey_1012.trans (by decide)
  refine lv_icmp_gt (tgt := 559) hx hb dL_law_24 (by decide) (fun _ => ?_) (fun c9 => absurd (by decide) c9)
  refine lv_iconst (v := 1) hx hb dL_law_559 (by decide) ?_
  refine va_forget (fun q hq => hS.2.2 q hq) ?_
  exact lw_ret hx hb hr hlocks dL_law_560

set_option maxHeartbeats 4000000 in
set_option maxRecDepth 100000 in
theorem lw_countN {p : Program} {l : Launch} {e : Env} {s : State} {m : MethodId} {below : List Frame} {meth : Method} {c : Code} {dC : Nat → ClassId} {dI : Nat → Nat → Nat} {cI cB cL cZ : ClassId} {b : Nat} {xs : Nat → Int32} (hx : p.tables.exec = Jvm.exec) (hb : c.code = cL_law) (hr : meth.sig.returnType = ret) (hml : c.maxLocals = 4) (hown : s.vm.findClass RL = some m.cls) (hts : ∀ w ∈ wsL_law, w.before #[Value.ref b] s = true) (hX : va_X b 6 xs s s.heap) (hbl : b < s.heap.size) (hlocks : meth.locks = false) (hK : va_K (dC, dI) vwCl (kTy cI cB cL cZ) s) (hN : nN s) {q_663 : Nat} {q_664 : Nat} {q_665 : Nat} {q_666 : Nat} {q_667 : Nat} {q_668 : Nat} {q_669 : Nat} {q_670 : Nat} {q_671 : Nat} {q_672 : Nat} {q_673 : Nat} {q_713 : Nat} {fs_714 : List Value} {w1 : Int32} (ew1 : w1 = xs 1) {w2 : Int32} (ew2 : w2 = xs 2) {w3 : Int32} (ew3 : w3 = xs 3) {w4 : Int32} (ew4 : w4 = xs 4) {w5 : Int32} (ew5 : w5 = xs 5) {H : Heap} {locs : List Loc} (hP : va_P (dC, dI) vwCl [(q_663, .inr (9, [.ref q_664, .int 0, .ref q_665, .ref q_666, .ref q_667, .int 0, .int (-1), .ref q_668, .ref q_669, .ref q_670, .ref q_671, .ref q_672, .ref q_673])), (q_713, .inr (10, fs_714))] H) (hD : va_D (fun q : Nat => s.heap.size ≤ q) [(q_663, .inr (9, [.ref q_664, .int 0, .ref q_665, .ref q_666, .ref q_667, .int 0, .int (-1), .ref q_668, .ref q_669, .ref q_670, .ref q_671, .ref q_672, .ref q_673])), (q_713, .inr (10, fs_714))]) (hS : va_S (fun q : Nat => s.heap.size ≤ q) s.heap H locs) {ls : Array Slot} (hl : lv_has ls 4 [(3, .int 0), (2, .ref q_713), (1, .ref q_663), (0, .ref b)]) (hf_734 : fs_714.length = 68) (hw9 : w1.toInt < 0 ∨ 5 < w1.toInt) : W p l e room_1 s m #[Value.ref b] below meth c H locs 84 30598 (lw_Z below #[Value.ref b] s) (F0 m 530 ls []) := by
  have hA : ∀ q : Nat, s.heap.size ≤ q → (fun q : Nat => s.heap.size ≤ q) q := fun _ h => h
  have hbA : ¬ (fun q : Nat => s.heap.size ≤ q) b := Nat.not_le.mpr hbl
  refine lv_aload_n hx hb dL_law_530 rfl (lv_at hl 2 rfl) ?_
  refine lv_aload_n hx hb dL_law_531 rfl (lv_at hl 3 rfl) ?_
  refine lv_iload_n hx hb dL_law_532 rfl (lv_at hl 0 rfl) ?_
  refine lv_iconst (v := 1) hx hb dL_law_533 (by decide) ?_
  refine lv_iadd hx hb dL_law_534 ?_
  refine lv_topi (fun y_1013 ey_1013 => ?_)
  obtain rfl : y_1013 = 1 := ey_1013.trans (by decide)
  refine va_sld hx hb hX hbl hbA hS (by unfold vp_in; decide) dL_law_535 ?_
  refine lv_topi (fun y_1014 ey_1014 => ?_)
  obtain rfl : y_1014 = w1 := ey_1014.trans ((congrArg xs (by decide : (1 : Int32).toNatClampNeg = 1)).trans ew1.symm)
  have hPc := hP.sub (ws' := [(q_663, .inr (9, [.ref q_664, .int 0, .ref q_665, .ref q_666, .ref q_667, .int 0, .int (-1), .ref q_668, .ref q_669, .ref q_670, .ref q_671, .ref q_672, .ref q_673]))]) [0] rfl
  have hDc := hD.sub (ws' := [(q_663, .inr (9, [.ref q_664, .int 0, .ref q_665, .ref q_666, .ref q_667, .int 0, .int (-1), .ref q_668, .ref q_669, .ref q_670, .ref q_671, .ref q_672, .ref q_673]))]) [0] (by decide) rfl
  have hFc := va_free (wc := [(q_663, .inr (9, [.ref q_664, .int 0, .ref q_665, .ref q_666, .ref q_667, .int 0, .int (-1), .ref q_668, .ref q_669, .ref q_670, .ref q_671, .ref q_672, .ref q_673]))]) hD hS hA [0] rfl
  refine va_calli (va_runV (As := [.int w1]) (rest := []) ⟨hx, hb, hml, hown, hts⟩ (c_countN l dC dI cI cB cL cZ (q_663) (q_664) (q_665) (q_666) (q_667) (q_668) (q_669) (q_670) (q_671) (q_672) (q_673) (w1) H.size (hw9)) (cwV 1 hts gL_law_X10_count rfl rfl rfl (by decide +kernel) ⟨Nat.le_of_ble_eq_true rfl, Nat.le_of_ble_eq_true rfl⟩) ⟨cP_fb, va_recv hK hPc (ci := 9) (q0 := 0) rfl rfl, fun U hU hW => cP_pre hPc hK hDc hN U hU hW⟩ rfl rfl hl.1 rfl (lv_room (Nat.le_of_ble_eq_true rfl)) dL_law_536 ⟨Nat.le_of_ble_eq_true rfl, Nat.le_of_ble_eq_true rfl⟩) hS (fun q _ h => hFc q h) hFc (fun r_1015 u t H1 locs ht hvm hw hB hz1 hk1 hS => ?_)
  obtain ⟨hP1, hD1⟩ := hB
  rw [ht] at hP1
  obtain ⟨hP, hD⟩ := va_join (wr := [(q_713, .inr (10, fs_714))]) (w1 := []) hP hD [0] [1] rfl rfl (by decide) (by decide) hk1 hFc hP1 hD1
  generalize H1 = H at hP hS ⊢
  have hP : va_P (dC, dI) vwCl [(q_713, .inr (10, fs_714))] H := hP
  have hD : va_D (fun q : Nat => s.heap.size ≤ q) [(q_713, .inr (10, fs_714))] := hD
  obtain rfl : r_1015 = (-1) := hw
  refine lv_aload_n hx hb dL_law_539 rfl (lv_at hl 1 rfl) ?_
  refine lv_aload_n hx hb dL_law_540 rfl (lv_at hl 3 rfl) ?_
  refine lv_iload_n hx hb dL_law_541 rfl (lv_at hl 0 rfl) ?_
  refine lv_iconst (v := 1) hx hb dL_law_542 (by decide) ?_
  refine lv_iadd hx hb dL_law_543 ?_
  refine lv_topi (fun y_1016 ey_1016 => ?_)
  obtain rfl : y_1016 = 1 := ey_1016.trans (by decide)
  refine va_sld hx hb hX hbl hbA hS (by unfold vp_in; decide) dL_law_544 ?_
  refine lv_topi (fun y_1017 ey_1017 => ?_)
  obtain rfl : y_1017 = w1 := ey_1017.trans ((congrArg xs (by decide : (1 : Int32).toNatClampNeg = 1)).trans ew1.symm)
  have hPc := hP.sub (ws' := [(q_713, .inr (10, fs_714))]) [0] rfl
  have hDc := hD.sub (ws' := [(q_713, .inr (10, fs_714))]) [0] (by decide) rfl
  have hFc := va_free (wc := [(q_713, .inr (10, fs_714))]) hD hS hA [0] rfl
  refine va_calli (va_runV (As := [.int w1]) (rest := [.int (-1)]) ⟨hx, hb, hml, hown, hts⟩ (m_countN l dC dI cI cB cL cZ (q_713) (w1) (fs_714) H.size hf_734 (hw9)) (cwV 1 hts gL_law_X11_count rfl rfl rfl (by decide +kernel) ⟨Nat.le_of_ble_eq_true rfl, Nat.le_of_ble_eq_true rfl⟩) ⟨cP_fb, va_recv hK hPc (ci := 10) (q0 := 0) rfl rfl, fun U hU hW => cP_pre hPc hK hDc hN U hU hW⟩ rfl rfl hl.1 rfl (lv_room (Nat.le_of_ble_eq_true rfl)) dL_law_545 ⟨Nat.le_of_ble_eq_true rfl, Nat.le_of_ble_eq_true rfl⟩) hS (fun q _ h => hFc q h) hFc (fun r_1018 u t H1 locs ht hvm hw hB hz1 hk1 hS => ?_)
  obtain ⟨hP1, hD1⟩ := hB
  rw [ht] at hP1
  obtain ⟨hP, hD⟩ := va_join (wr := []) (w1 := []) hP hD [0] [] rfl rfl (by decide) (by decide) hk1 hFc hP1 hD1
  generalize H1 = H at hP hS ⊢
  have hP : va_P (dC, dI) vwCl [] H := hP
  have hD : va_D (fun q : Nat => s.heap.size ≤ q) [] := hD
  obtain rfl : r_1018 = (-1) := hw
  refine lv_icmp_eq (tgt := 553) hx hb dL_law_548 (by decide) (fun _ => ?_) (fun c9 => absurd (by decide) c9)
  refine lv_iinc (v := 6) (lv' := [(3, .int 6), (2, .ref q_713), (1, .ref q_663), (0, .ref b)]) hx hb dL_law_553 hl (k := 0) rfl (by decide) (by decide) rfl (fun ls hl => ?_)
  refine lv_goto (tgt := 18) hx hb dL_law_556 (by decide) ?_
  refine lv_iload_n hx hb dL_law_18 rfl (lv_at hl 0 rfl) ?_
  refine lv_aload_n hx hb dL_law_19 rfl (lv_at hl 3 rfl) ?_
  refine va_slen hx hb hX hbl hbA hS dL_law_20 ?_
  refine lv_topi (fun y_1019 ey_1019 => ?_)
  obtain rfl : y_1019 = 6 := ey_1019.trans (by decide)
  refine lv_bipush (v := 6) hx hb dL_law_21 (by decide) ?_
  refine lv_isub hx hb dL_law_23 ?_
  refine lv_topi (fun y_1020 ey_1020 => ?_)
  obtain rfl : y_1020 = 0 := ey_1020.trans (by decide)
  refine lv_icmp_gt (tgt := 559) hx hb dL_law_24 (by decide) (fun _ => ?_) (fun c9 => absurd (by decide) c9)
  refine lv_iconst (v := 1) hx hb dL_law_559 (by decide) ?_
  refine va_forget (fun q hq => hS.2.2 q hq) ?_
  exact lw_ret hx hb hr hlocks dL_law_560
