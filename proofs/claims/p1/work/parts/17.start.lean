set_option maxHeartbeats 8000000 in
set_option maxRecDepth 100000 in
/-- THE LAW, from its entry -/
theorem whole_start {p : Program} {e : Env} {s : State} {m : MethodId} {below : List Frame} {meth : Method} {c : Code} (l : Launch) {b L : Nat} {xs : Nat → Int32} (hL : L ≤ 6) (C0 : lw_At p s m meth c b L xs) : W p l e room_1 s m #[Value.ref b] below meth c s.heap [] 0 0 (lw_Z below #[Value.ref b] s) (entryFrame m ([Value.ref b] : List Value).toArray 4) := by
  obtain ⟨hx, hb, hr, hml, hown, hts, hX, hbl, hlocks, hgv⟩ := C0
  have hA : ∀ q : Nat, s.heap.size ≤ q → (fun q : Nat => s.heap.size ≤ q) q := fun _ h => h
  have hbA : ¬ (fun q : Nat => s.heap.size ≤ q) b := Nat.not_le.mpr hbl
  obtain ⟨c0, iS0, hKn0⟩ := u_known (C := RX0) (T := TX0) (N := 2) (n := 2) hts wL_wsX00 (hts (.instantiable RX0 2) pw_250)
  obtain ⟨c1, iS1, hKn1⟩ := u_known (C := RX1) (T := TX1) (N := 14) (n := 14) hts wL_wsX10 (hts (.instantiable RX1 14) pw_191)
  obtain ⟨c2, iS2, hKn2⟩ := u_known (C := RX2) (T := TX2) (N := 10) (n := 10) hts wL_wsX20 (hts (.instantiable RX2 10) pw_221)
  obtain ⟨c3, iS3, hKn3⟩ := u_known (C := RX3) (T := TX3) (N := 14) (n := 14) hts wL_wsX30 (hts (.instantiable RX3 14) pw_200)
  obtain ⟨c4, iS4, hKn4⟩ := u_known (C := RX4) (T := TX4) (N := 10) (n := 10) hts wL_wsX40 (hts (.instantiable RX4 10) pw_197)
  obtain ⟨c6, iS6, hKn6⟩ := u_known (C := RX6) (T := TX6) (N := 16) (n := 16) hts wL_wsX60 (hts (.instantiable RX6 16) pw_228)
  obtain ⟨c7, iS7, hKn7⟩ := u_known (C := RX7) (T := TX7) (N := 3) (n := 3) hts wL_wsX70 (hts (.instantiable RX7 3) pw_193)
  obtain ⟨c8, iS8, hKn8⟩ := u_known (C := RX8) (T := TX8) (N := 3) (n := 3) hts wL_wsX80 (hts (.instantiable RX8 3) pw_204)
  obtain ⟨c9, iS9, hKn9⟩ := u_known (C := RX9) (T := TX9) (N := 6) (n := 6) hts wL_wsX90 (hts (.instantiable RX9 6) pw_224)
  obtain ⟨c10, iS10, hKn10⟩ := u_known (C := RX10) (T := TX10) (N := 13) (n := 13) hts wL_wsX100 (hts (.instantiable RX10 13) pw_1105)
  obtain ⟨c11, iS11, hKn11⟩ := u_known (C := RX11) (T := TX11) (N := 68) (n := 68) hts wL_wsX110 (hts (.instantiable RX11 68) pw_1106)
  obtain ⟨dC, dI, hKc⟩ : ∃ (dC : Nat → ClassId) (dI : Nat → Nat → Nat), ∀ (k : Nat) (q : vw_C), vwCl[k]? = some q → u_Kn s q.1 q.2.1 q.2.2 (dC k) (dI k) := by
    refine ⟨fun k => match k with | 0 => c0 | 1 => c1 | 2 => c2 | 3 => c3 | 4 => c4 | 5 => c6 | 6 => c7 | 7 => c8 | 8 => c9 | 9 => c10 | _ => c11, fun k => match k with | 0 => iS0 | 1 => iS1 | 2 => iS2 | 3 => iS3 | 4 => iS4 | 5 => iS6 | 6 => iS7 | 7 => iS8 | 8 => iS9 | 9 => iS10 | _ => iS11, ?_⟩
    intro k q hq
    match k, hq with
    | 0, hq => cases hq; exact hKn0
    | 1, hq => cases hq; exact hKn1
    | 2, hq => cases hq; exact hKn2
    | 3, hq => cases hq; exact hKn3
    | 4, hq => cases hq; exact hKn4
    | 5, hq => cases hq; exact hKn6
    | 6, hq => cases hq; exact hKn7
    | 7, hq => cases hq; exact hKn8
    | 8, hq => cases hq; exact hKn9
    | 9, hq => cases hq; exact hKn10
    | 10, hq => cases hq; exact hKn11
    | k + 11, hq => simp [vwCl] at hq
  obtain ⟨cI, arcI, fdcI⟩ := k_arr (hts (.arrayClass .int) pw_219)
  obtain ⟨cB, arcB, fdcB⟩ := k_arr (hts (.arrayClass .byte) pw_206)
  obtain ⟨cL, arcL, fdcL⟩ := k_arr (hts (.arrayClass .long) pw_251)
  obtain ⟨cZ, arcZ, fdcZ⟩ := k_arr (hts (.arrayClass .boolean) pw_889)
  have hK : va_K (dC, dI) vwCl (kTy cI cB cL cZ) s := ⟨hKc, fun k q h => by
    match k, h with
    | 0, h => cases h; exact ⟨arcI, fdcI⟩
    | 1, h => cases h; exact ⟨arcB, fdcB⟩
    | 2, h => cases h; exact ⟨arcL, fdcL⟩
    | 3, h => cases h; exact ⟨arcZ, fdcZ⟩
    | k + 4, h => simp [kTy] at h⟩
  have hN : nN s := ⟨(va_Nw.of rfl (hts (.methodLinkNest RX10 15 yX8_init "NothingJudge") pw_1107)), (va_Nw.of rfl (hts (.methodLinkNest RX10 22 yX3_init "NothingJudge") pw_1108)), (va_Nw.of rfl (hts (.methodLinkNest RX3 11 yX0_init "NothingJudge") pw_1109))⟩
  have hP : va_P (dC, dI) vwCl [] s.heap := fun k q h => by simp at h
  have hD : va_D (fun q : Nat => s.heap.size ≤ q) [] := ⟨fun i j p q h => by simp at h, fun k q h => by simp at h⟩
  have hl := lv_entry ([.ref b]) (n := 4) (Nat.le_of_ble_eq_true rfl)
  rw [lg_entry_eq]
  generalize (lg_sl ([.ref b]) ++ List.replicate (4 - (lg_sl ([.ref b])).length) Slot.unset).toArray = ls at hl ⊢
  have hl : lv_has ls 4 [(0, .ref b)] := hl
  refine k_H (A := (fun q : Nat => s.heap.size ≤ q)) hP (fun H hP hS => ?_)
  refine va_new (D := (dC, dI)) (ci := 9) (fs := [.null, .int 0, .null, .null, .null, .int 0, .int 0, .null, .null, .null, .null, .null, .null]) (C := RX10) (T := TX10) (N := 13) hx hb hts wL_wsX100 tyX10 tyX10_ok hown (hts (.classLink RL 7 RX10) pw_1110) (hts (.instantiable RX10 13) pw_1105) (hts (.initialized RX10) pw_14) hK hP hD hS hA rfl dfX10 (Nat.le_of_ble_eq_true rfl) (Nat.le_of_ble_eq_true rfl) dL_law_0 (fun q_664 H hP hD hS => ?_)
  have hP : va_P (dC, dI) vwCl [(q_664, .inr (9, [.null, .int 0, .null, .null, .null, .int 0, .int 0, .null, .null, .null, .null, .null, .null]))] H := hP
  have hD : va_D (fun q : Nat => s.heap.size ≤ q) [(q_664, .inr (9, [.null, .int 0, .null, .null, .null, .int 0, .int 0, .null, .null, .null, .null, .null, .null]))] := hD
  refine W.widen (k := 1) (n := 13) (Nat.le_of_ble_eq_true rfl) (Nat.le_of_ble_eq_true rfl) ?_
  refine lv_dup hx hb dL_law_3 rfl ?_
  have hPc := hP.sub (ws' := [(q_664, .inr (9, [.null, .int 0, .null, .null, .null, .int 0, .int 0, .null, .null, .null, .null, .null, .null]))]) [0] rfl
  have hDc := hD.sub (ws' := [(q_664, .inr (9, [.null, .int 0, .null, .null, .null, .int 0, .int 0, .null, .null, .null, .null, .null, .null]))]) [0] (by decide) rfl
  have hFc := va_free (wc := [(q_664, .inr (9, [.null, .int 0, .null, .null, .null, .int 0, .int 0, .null, .null, .null, .null, .null, .null]))]) hD hS hA [0] rfl
  refine va_callv (va_runI (As := []) (rest := [.ref q_664]) ⟨hx, hb, hml, hown, hts⟩ (c_X10_init l dC dI cI cB cL cZ (q_664) H.size) (cwI 0 hts gW_X10_init rfl rfl rfl (hts (.initialized RX10) pw_14) (hts (.methodLink RL 9 yX10_init) pw_1112) (hts (.instanceMethod yX10_init) pw_1111) rfl (by decide +kernel) ⟨Nat.le_of_ble_eq_true rfl, Nat.le_of_ble_eq_true rfl⟩) ⟨cP_fb, fun U hU hW => cP_pre hPc hK hDc hN U hU hW⟩ rfl rfl hl.1 rfl (lv_room (Nat.le_of_ble_eq_true rfl)) dL_law_4 ⟨Nat.le_of_ble_eq_true rfl, Nat.le_of_ble_eq_true rfl⟩) hS (fun q _ h => hFc q h) hFc (fun u t H1 locs ht hvm hw hB hz1 hk1 hS => ?_)
  obtain ⟨q_665, q_666, q_667, q_668, q_669, q_670, q_671, q_672, q_673, q_674, q_675, q_676, q_677, q_678, q_679, q_680, q_681, q_682, q_683, q_684, q_685, q_686, q_687, q_688, q_689, q_690, q_691, q_692, q_693, q_694, q_695, q_696, q_697, q_698, q_699, q_700, q_701, q_702, q_703, q_704, q_705, q_706, q_707, q_708, q_709, f_710, f_711, hf_712, hP1, hD1⟩ := hB
  rw [ht] at hP1
  obtain ⟨hP, hD⟩ := va_join (wr := []) (w1 := [(q_664, .inr (9, [.ref q_665, .int 0, .ref q_666, .ref q_667, .ref q_668, .int 0, .int (-1), .ref q_669, .ref q_670, .ref q_671, .ref q_672, .ref q_673, .ref q_674])), (q_665, .inl (cB, 1200, .inl (fun _ => 0))), (q_666, .inr (7, [.ref q_675, .int 0, .int 0])), (q_667, .inr (3, [.ref q_676, .ref q_677, .ref q_678, .ref q_679, .ref q_680, .ref q_681, .ref q_682, .ref q_683, .ref q_684, .int 0, .int 0, .int 0, .int 0, .int (-1)])), (q_676, .inr (0, [.ref q_685, .int 0])), (q_668, .inr (4, [.ref q_666, .ref q_686, .ref q_687, .ref q_667, .ref q_676, .int 0, .int 0, .int 0, .int 0, .int (-1)])), (q_669, .inr (6, [.ref q_688, .int (-1), .ref q_689])), (q_688, .inr (3, [.ref q_690, .ref q_691, .ref q_692, .ref q_693, .ref q_694, .ref q_695, .ref q_696, .ref q_697, .ref q_698, .int 0, .int 0, .int 0, .int 0, .int (-1)])), (q_690, .inr (0, [.ref q_699, .int 0])), (q_689, .inl (cI, 4, .inl (fun _ => 0))), (q_670, .inr (1, [.ref q_669, .ref q_700, .ref q_701, .ref q_702, .ref q_703, .ref q_704, .ref q_688, .ref q_690, .int 1, .int 0, .int 0, .int 0, .long 0, .long 0])), (q_700, .inl (cL, 304, .inr (.inl (fun _ => 0)))), (q_701, .inl (cI, 304, .inl (fun _ => 0))), (q_702, .inl (cI, 42, .inl (fun _ => 0))), (q_703, .inl (cI, 40, .inl (fun _ => 0))), (q_704, .inl (cI, 24, .inl (fun _ => 0))), (q_672, .inr (8, [.ref q_669, .ref q_671, .ref q_705, .ref q_706, .int 1, .int 0])), (q_673, .inr (2, [.ref q_670, .ref q_707, .ref q_708, .ref q_709, .int 1, .int 0, .int 0, .int (-1), .int 0, .int 0])), (q_707, .inl (cI, 4, .inl f_710)), (q_674, .inl (cI, 4, .inl f_711))]) hP hD [0] [] rfl rfl (by decide) (by decide) hk1 hFc hP1 hD1
  generalize H1 = H at hP hS ⊢
  have hP : va_P (dC, dI) vwCl [(q_664, .inr (9, [.ref q_665, .int 0, .ref q_666, .ref q_667, .ref q_668, .int 0, .int (-1), .ref q_669, .ref q_670, .ref q_671, .ref q_672, .ref q_673, .ref q_674])), (q_665, .inl (cB, 1200, .inl (fun _ => 0))), (q_666, .inr (7, [.ref q_675, .int 0, .int 0])), (q_667, .inr (3, [.ref q_676, .ref q_677, .ref q_678, .ref q_679, .ref q_680, .ref q_681, .ref q_682, .ref q_683, .ref q_684, .int 0, .int 0, .int 0, .int 0, .int (-1)])), (q_676, .inr (0, [.ref q_685, .int 0])), (q_668, .inr (4, [.ref q_666, .ref q_686, .ref q_687, .ref q_667, .ref q_676, .int 0, .int 0, .int 0, .int 0, .int (-1)])), (q_669, .inr (6, [.ref q_688, .int (-1), .ref q_689])), (q_688, .inr (3, [.ref q_690, .ref q_691, .ref q_692, .ref q_693, .ref q_694, .ref q_695, .ref q_696, .ref q_697, .ref q_698, .int 0, .int 0, .int 0, .int 0, .int (-1)])), (q_690, .inr (0, [.ref q_699, .int 0])), (q_689, .inl (cI, 4, .inl (fun _ => 0))), (q_670, .inr (1, [.ref q_669, .ref q_700, .ref q_701, .ref q_702, .ref q_703, .ref q_704, .ref q_688, .ref q_690, .int 1, .int 0, .int 0, .int 0, .long 0, .long 0])), (q_700, .inl (cL, 304, .inr (.inl (fun _ => 0)))), (q_701, .inl (cI, 304, .inl (fun _ => 0))), (q_702, .inl (cI, 42, .inl (fun _ => 0))), (q_703, .inl (cI, 40, .inl (fun _ => 0))), (q_704, .inl (cI, 24, .inl (fun _ => 0))), (q_672, .inr (8, [.ref q_669, .ref q_671, .ref q_705, .ref q_706, .int 1, .int 0])), (q_673, .inr (2, [.ref q_670, .ref q_707, .ref q_708, .ref q_709, .int 1, .int 0, .int 0, .int (-1), .int 0, .int 0])), (q_707, .inl (cI, 4, .inl f_710)), (q_674, .inl (cI, 4, .inl f_711))] H := hP
  have hD : va_D (fun q : Nat => s.heap.size ≤ q) [(q_664, .inr (9, [.ref q_665, .int 0, .ref q_666, .ref q_667, .ref q_668, .int 0, .int (-1), .ref q_669, .ref q_670, .ref q_671, .ref q_672, .ref q_673, .ref q_674])), (q_665, .inl (cB, 1200, .inl (fun _ => 0))), (q_666, .inr (7, [.ref q_675, .int 0, .int 0])), (q_667, .inr (3, [.ref q_676, .ref q_677, .ref q_678, .ref q_679, .ref q_680, .ref q_681, .ref q_682, .ref q_683, .ref q_684, .int 0, .int 0, .int 0, .int 0, .int (-1)])), (q_676, .inr (0, [.ref q_685, .int 0])), (q_668, .inr (4, [.ref q_666, .ref q_686, .ref q_687, .ref q_667, .ref q_676, .int 0, .int 0, .int 0, .int 0, .int (-1)])), (q_669, .inr (6, [.ref q_688, .int (-1), .ref q_689])), (q_688, .inr (3, [.ref q_690, .ref q_691, .ref q_692, .ref q_693, .ref q_694, .ref q_695, .ref q_696, .ref q_697, .ref q_698, .int 0, .int 0, .int 0, .int 0, .int (-1)])), (q_690, .inr (0, [.ref q_699, .int 0])), (q_689, .inl (cI, 4, .inl (fun _ => 0))), (q_670, .inr (1, [.ref q_669, .ref q_700, .ref q_701, .ref q_702, .ref q_703, .ref q_704, .ref q_688, .ref q_690, .int 1, .int 0, .int 0, .int 0, .long 0, .long 0])), (q_700, .inl (cL, 304, .inr (.inl (fun _ => 0)))), (q_701, .inl (cI, 304, .inl (fun _ => 0))), (q_702, .inl (cI, 42, .inl (fun _ => 0))), (q_703, .inl (cI, 40, .inl (fun _ => 0))), (q_704, .inl (cI, 24, .inl (fun _ => 0))), (q_672, .inr (8, [.ref q_669, .ref q_671, .ref q_705, .ref q_706, .int 1, .int 0])), (q_673, .inr (2, [.ref q_670, .ref q_707, .ref q_708, .ref q_709, .int 1, .int 0, .int 0, .int (-1), .int 0, .int 0])), (q_707, .inl (cI, 4, .inl f_710)), (q_674, .inl (cI, 4, .inl f_711))] := hD
  refine W.widen (k := 49) (n := 12241) (Nat.le_of_ble_eq_true rfl) (Nat.le_of_ble_eq_true rfl) ?_
  refine lv_astore_n (lv' := [(1, .ref q_664), (0, .ref b)]) hx hb dL_law_7 rfl hl (by decide) rfl (fun ls hl => ?_)
  refine va_new (D := (dC, dI)) (ci := 10) (fs := fs0X11) (C := RX11) (T := TX11) (N := 68) hx hb hts wL_wsX110 tyX11 tyX11_ok hown (hts (.classLink RL 10 RX11) pw_1113) (hts (.instantiable RX11 68) pw_1106) (hts (.initialized RX11) pw_789) hK hP hD hS hA rfl dfX11 (Nat.le_of_ble_eq_true rfl) (Nat.le_of_ble_eq_true rfl) dL_law_8 (fun q_714 H hP hD hS => ?_)
  have hP : va_P (dC, dI) vwCl [(q_664, .inr (9, [.ref q_665, .int 0, .ref q_666, .ref q_667, .ref q_668, .int 0, .int (-1), .ref q_669, .ref q_670, .ref q_671, .ref q_672, .ref q_673, .ref q_674])), (q_665, .inl (cB, 1200, .inl (fun _ => 0))), (q_666, .inr (7, [.ref q_675, .int 0, .int 0])), (q_667, .inr (3, [.ref q_676, .ref q_677, .ref q_678, .ref q_679, .ref q_680, .ref q_681, .ref q_682, .ref q_683, .ref q_684, .int 0, .int 0, .int 0, .int 0, .int (-1)])), (q_676, .inr (0, [.ref q_685, .int 0])), (q_668, .inr (4, [.ref q_666, .ref q_686, .ref q_687, .ref q_667, .ref q_676, .int 0, .int 0, .int 0, .int 0, .int (-1)])), (q_669, .inr (6, [.ref q_688, .int (-1), .ref q_689])), (q_688, .inr (3, [.ref q_690, .ref q_691, .ref q_692, .ref q_693, .ref q_694, .ref q_695, .ref q_696, .ref q_697, .ref q_698, .int 0, .int 0, .int 0, .int 0, .int (-1)])), (q_690, .inr (0, [.ref q_699, .int 0])), (q_689, .inl (cI, 4, .inl (fun _ => 0))), (q_670, .inr (1, [.ref q_669, .ref q_700, .ref q_701, .ref q_702, .ref q_703, .ref q_704, .ref q_688, .ref q_690, .int 1, .int 0, .int 0, .int 0, .long 0, .long 0])), (q_700, .inl (cL, 304, .inr (.inl (fun _ => 0)))), (q_701, .inl (cI, 304, .inl (fun _ => 0))), (q_702, .inl (cI, 42, .inl (fun _ => 0))), (q_703, .inl (cI, 40, .inl (fun _ => 0))), (q_704, .inl (cI, 24, .inl (fun _ => 0))), (q_672, .inr (8, [.ref q_669, .ref q_671, .ref q_705, .ref q_706, .int 1, .int 0])), (q_673, .inr (2, [.ref q_670, .ref q_707, .ref q_708, .ref q_709, .int 1, .int 0, .int 0, .int (-1), .int 0, .int 0])), (q_707, .inl (cI, 4, .inl f_710)), (q_674, .inl (cI, 4, .inl f_711)), (q_714, .inr (10, fs0X11))] H := hP
  have hD : va_D (fun q : Nat => s.heap.size ≤ q) [(q_664, .inr (9, [.ref q_665, .int 0, .ref q_666, .ref q_667, .ref q_668, .int 0, .int (-1), .ref q_669, .ref q_670, .ref q_671, .ref q_672, .ref q_673, .ref q_674])), (q_665, .inl (cB, 1200, .inl (fun _ => 0))), (q_666, .inr (7, [.ref q_675, .int 0, .int 0])), (q_667, .inr (3, [.ref q_676, .ref q_677, .ref q_678, .ref q_679, .ref q_680, .ref q_681, .ref q_682, .ref q_683, .ref q_684, .int 0, .int 0, .int 0, .int 0, .int (-1)])), (q_676, .inr (0, [.ref q_685, .int 0])), (q_668, .inr (4, [.ref q_666, .ref q_686, .ref q_687, .ref q_667, .ref q_676, .int 0, .int 0, .int 0, .int 0, .int (-1)])), (q_669, .inr (6, [.ref q_688, .int (-1), .ref q_689])), (q_688, .inr (3, [.ref q_690, .ref q_691, .ref q_692, .ref q_693, .ref q_694, .ref q_695, .ref q_696, .ref q_697, .ref q_698, .int 0, .int 0, .int 0, .int 0, .int (-1)])), (q_690, .inr (0, [.ref q_699, .int 0])), (q_689, .inl (cI, 4, .inl (fun _ => 0))), (q_670, .inr (1, [.ref q_669, .ref q_700, .ref q_701, .ref q_702, .ref q_703, .ref q_704, .ref q_688, .ref q_690, .int 1, .int 0, .int 0, .int 0, .long 0, .long 0])), (q_700, .inl (cL, 304, .inr (.inl (fun _ => 0)))), (q_701, .inl (cI, 304, .inl (fun _ => 0))), (q_702, .inl (cI, 42, .inl (fun _ => 0))), (q_703, .inl (cI, 40, .inl (fun _ => 0))), (q_704, .inl (cI, 24, .inl (fun _ => 0))), (q_672, .inr (8, [.ref q_669, .ref q_671, .ref q_705, .ref q_706, .int 1, .int 0])), (q_673, .inr (2, [.ref q_670, .ref q_707, .ref q_708, .ref q_709, .int 1, .int 0, .int 0, .int (-1), .int 0, .int 0])), (q_707, .inl (cI, 4, .inl f_710)), (q_674, .inl (cI, 4, .inl f_711)), (q_714, .inr (10, fs0X11))] := hD
  refine W.widen (k := 50) (n := 12309) (Nat.le_of_ble_eq_true rfl) (Nat.le_of_ble_eq_true rfl) ?_
  refine lv_dup hx hb dL_law_11 rfl ?_
  have hPc := hP.sub (ws' := [(q_714, .inr (10, fs0X11))]) [20] rfl
  have hDc := hD.sub (ws' := [(q_714, .inr (10, fs0X11))]) [20] (by decide) rfl
  have hFc := va_free (wc := [(q_714, .inr (10, fs0X11))]) hD hS hA [20] rfl
  refine va_callv (va_runI (As := []) (rest := [.ref q_714]) ⟨hx, hb, hml, hown, hts⟩ (m_init l dC dI cI cB cL cZ (q_714) H.size) (cwI 0 hts gW_X11_init rfl rfl rfl (hts (.initialized RX11) pw_789) (hts (.methodLink RL 12 yX11_init) pw_1115) (hts (.instanceMethod yX11_init) pw_1114) rfl (by decide +kernel) ⟨Nat.le_of_ble_eq_true rfl, Nat.le_of_ble_eq_true rfl⟩) ⟨cP_fb, fun U hU hW => cP_pre hPc hK hDc hN U hU hW⟩ rfl rfl hl.1 rfl (lv_room (Nat.le_of_ble_eq_true rfl)) dL_law_12 ⟨Nat.le_of_ble_eq_true rfl, Nat.le_of_ble_eq_true rfl⟩) hS (fun q _ h => hFc q h) hFc (fun u t H1 locs ht hvm hw hB hz1 hk1 hS => ?_)
  obtain ⟨fs_715, q_716, q_717, f_718, q_719, q_720, q_721, q_722, q_723, q_724, q_725, q_726, q_727, q_728, q_729, q_730, q_731, q_732, q_733, f_734, hf_735, hf_736, hf_737, hf_738, hf_739, hf_740, hf_741, hf_742, hf_743, hf_744, hf_745, hf_746, hf_747, hf_748, hf_749, hf_750, hf_751, hf_752, hf_753, hf_754, hf_755, hf_756, hf_757, hf_758, hf_759, hf_760, hP1, hD1⟩ := hB
  rw [ht] at hP1
  obtain ⟨hP, hD⟩ := va_join (wr := [(q_664, .inr (9, [.ref q_665, .int 0, .ref q_666, .ref q_667, .ref q_668, .int 0, .int (-1), .ref q_669, .ref q_670, .ref q_671, .ref q_672, .ref q_673, .ref q_674])), (q_665, .inl (cB, 1200, .inl (fun _ => 0))), (q_666, .inr (7, [.ref q_675, .int 0, .int 0])), (q_667, .inr (3, [.ref q_676, .ref q_677, .ref q_678, .ref q_679, .ref q_680, .ref q_681, .ref q_682, .ref q_683, .ref q_684, .int 0, .int 0, .int 0, .int 0, .int (-1)])), (q_676, .inr (0, [.ref q_685, .int 0])), (q_668, .inr (4, [.ref q_666, .ref q_686, .ref q_687, .ref q_667, .ref q_676, .int 0, .int 0, .int 0, .int 0, .int (-1)])), (q_669, .inr (6, [.ref q_688, .int (-1), .ref q_689])), (q_688, .inr (3, [.ref q_690, .ref q_691, .ref q_692, .ref q_693, .ref q_694, .ref q_695, .ref q_696, .ref q_697, .ref q_698, .int 0, .int 0, .int 0, .int 0, .int (-1)])), (q_690, .inr (0, [.ref q_699, .int 0])), (q_689, .inl (cI, 4, .inl (fun _ => 0))), (q_670, .inr (1, [.ref q_669, .ref q_700, .ref q_701, .ref q_702, .ref q_703, .ref q_704, .ref q_688, .ref q_690, .int 1, .int 0, .int 0, .int 0, .long 0, .long 0])), (q_700, .inl (cL, 304, .inr (.inl (fun _ => 0)))), (q_701, .inl (cI, 304, .inl (fun _ => 0))), (q_702, .inl (cI, 42, .inl (fun _ => 0))), (q_703, .inl (cI, 40, .inl (fun _ => 0))), (q_704, .inl (cI, 24, .inl (fun _ => 0))), (q_672, .inr (8, [.ref q_669, .ref q_671, .ref q_705, .ref q_706, .int 1, .int 0])), (q_673, .inr (2, [.ref q_670, .ref q_707, .ref q_708, .ref q_709, .int 1, .int 0, .int 0, .int (-1), .int 0, .int 0])), (q_707, .inl (cI, 4, .inl f_710)), (q_674, .inl (cI, 4, .inl f_711))]) (w1 := [(q_714, .inr (10, fs_715)), (q_716, .inl (cI, 1200, .inl (fun _ => 0))), (q_717, .inl (cI, 16, .inl f_718)), (q_719, .inl (cI, 16, .inl (fun _ => 0))), (q_720, .inl (cI, 64, .inl (fun _ => 0))), (q_721, .inl (cI, 2, .inl (fun _ => 0))), (q_722, .inl (cI, 82, .inl (fun _ => 0))), (q_723, .inl (cI, 82, .inl (fun _ => 0))), (q_724, .inl (cI, 82, .inl (fun _ => 0))), (q_725, .inl (cI, 2, .inl (fun _ => 0))), (q_726, .inl (cI, 50, .inl (fun _ => 0))), (q_727, .inl (cI, 50, .inl (fun _ => 0))), (q_728, .inl (cI, 2, .inl (fun _ => 0))), (q_729, .inl (cI, 4, .inl (fun _ => 0))), (q_730, .inl (cI, 42, .inl (fun _ => 0))), (q_731, .inl (cZ, 42, .inl (fun _ => 0))), (q_732, .inl (cI, 25, .inl (fun _ => 0))), (q_733, .inl (cI, 4, .inl f_734))]) hP hD [20] [0, 1, 2, 3, 4, 5, 6, 7, 8, 9, 10, 11, 12, 13, 14, 15, 16, 17, 18, 19] rfl rfl (by decide) (by decide) hk1 hFc hP1 hD1
  generalize H1 = H at hP hS ⊢
  have hP : va_P (dC, dI) vwCl [(q_664, .inr (9, [.ref q_665, .int 0, .ref q_666, .ref q_667, .ref q_668, .int 0, .int (-1), .ref q_669, .ref q_670, .ref q_671, .ref q_672, .ref q_673, .ref q_674])), (q_665, .inl (cB, 1200, .inl (fun _ => 0))), (q_666, .inr (7, [.ref q_675, .int 0, .int 0])), (q_667, .inr (3, [.ref q_676, .ref q_677, .ref q_678, .ref q_679, .ref q_680, .ref q_681, .ref q_682, .ref q_683, .ref q_684, .int 0, .int 0, .int 0, .int 0, .int (-1)])), (q_676, .inr (0, [.ref q_685, .int 0])), (q_668, .inr (4, [.ref q_666, .ref q_686, .ref q_687, .ref q_667, .ref q_676, .int 0, .int 0, .int 0, .int 0, .int (-1)])), (q_669, .inr (6, [.ref q_688, .int (-1), .ref q_689])), (q_688, .inr (3, [.ref q_690, .ref q_691, .ref q_692, .ref q_693, .ref q_694, .ref q_695, .ref q_696, .ref q_697, .ref q_698, .int 0, .int 0, .int 0, .int 0, .int (-1)])), (q_690, .inr (0, [.ref q_699, .int 0])), (q_689, .inl (cI, 4, .inl (fun _ => 0))), (q_670, .inr (1, [.ref q_669, .ref q_700, .ref q_701, .ref q_702, .ref q_703, .ref q_704, .ref q_688, .ref q_690, .int 1, .int 0, .int 0, .int 0, .long 0, .long 0])), (q_700, .inl (cL, 304, .inr (.inl (fun _ => 0)))), (q_701, .inl (cI, 304, .inl (fun _ => 0))), (q_702, .inl (cI, 42, .inl (fun _ => 0))), (q_703, .inl (cI, 40, .inl (fun _ => 0))), (q_704, .inl (cI, 24, .inl (fun _ => 0))), (q_672, .inr (8, [.ref q_669, .ref q_671, .ref q_705, .ref q_706, .int 1, .int 0])), (q_673, .inr (2, [.ref q_670, .ref q_707, .ref q_708, .ref q_709, .int 1, .int 0, .int 0, .int (-1), .int 0, .int 0])), (q_707, .inl (cI, 4, .inl f_710)), (q_674, .inl (cI, 4, .inl f_711)), (q_714, .inr (10, fs_715)), (q_716, .inl (cI, 1200, .inl (fun _ => 0))), (q_717, .inl (cI, 16, .inl f_718)), (q_719, .inl (cI, 16, .inl (fun _ => 0))), (q_720, .inl (cI, 64, .inl (fun _ => 0))), (q_721, .inl (cI, 2, .inl (fun _ => 0))), (q_722, .inl (cI, 82, .inl (fun _ => 0))), (q_723, .inl (cI, 82, .inl (fun _ => 0))), (q_724, .inl (cI, 82, .inl (fun _ => 0))), (q_725, .inl (cI, 2, .inl (fun _ => 0))), (q_726, .inl (cI, 50, .inl (fun _ => 0))), (q_727, .inl (cI, 50, .inl (fun _ => 0))), (q_728, .inl (cI, 2, .inl (fun _ => 0))), (q_729, .inl (cI, 4, .inl (fun _ => 0))), (q_730, .inl (cI, 42, .inl (fun _ => 0))), (q_731, .inl (cZ, 42, .inl (fun _ => 0))), (q_732, .inl (cI, 25, .inl (fun _ => 0))), (q_733, .inl (cI, 4, .inl f_734))] H := hP
  have hD : va_D (fun q : Nat => s.heap.size ≤ q) [(q_664, .inr (9, [.ref q_665, .int 0, .ref q_666, .ref q_667, .ref q_668, .int 0, .int (-1), .ref q_669, .ref q_670, .ref q_671, .ref q_672, .ref q_673, .ref q_674])), (q_665, .inl (cB, 1200, .inl (fun _ => 0))), (q_666, .inr (7, [.ref q_675, .int 0, .int 0])), (q_667, .inr (3, [.ref q_676, .ref q_677, .ref q_678, .ref q_679, .ref q_680, .ref q_681, .ref q_682, .ref q_683, .ref q_684, .int 0, .int 0, .int 0, .int 0, .int (-1)])), (q_676, .inr (0, [.ref q_685, .int 0])), (q_668, .inr (4, [.ref q_666, .ref q_686, .ref q_687, .ref q_667, .ref q_676, .int 0, .int 0, .int 0, .int 0, .int (-1)])), (q_669, .inr (6, [.ref q_688, .int (-1), .ref q_689])), (q_688, .inr (3, [.ref q_690, .ref q_691, .ref q_692, .ref q_693, .ref q_694, .ref q_695, .ref q_696, .ref q_697, .ref q_698, .int 0, .int 0, .int 0, .int 0, .int (-1)])), (q_690, .inr (0, [.ref q_699, .int 0])), (q_689, .inl (cI, 4, .inl (fun _ => 0))), (q_670, .inr (1, [.ref q_669, .ref q_700, .ref q_701, .ref q_702, .ref q_703, .ref q_704, .ref q_688, .ref q_690, .int 1, .int 0, .int 0, .int 0, .long 0, .long 0])), (q_700, .inl (cL, 304, .inr (.inl (fun _ => 0)))), (q_701, .inl (cI, 304, .inl (fun _ => 0))), (q_702, .inl (cI, 42, .inl (fun _ => 0))), (q_703, .inl (cI, 40, .inl (fun _ => 0))), (q_704, .inl (cI, 24, .inl (fun _ => 0))), (q_672, .inr (8, [.ref q_669, .ref q_671, .ref q_705, .ref q_706, .int 1, .int 0])), (q_673, .inr (2, [.ref q_670, .ref q_707, .ref q_708, .ref q_709, .int 1, .int 0, .int 0, .int (-1), .int 0, .int 0])), (q_707, .inl (cI, 4, .inl f_710)), (q_674, .inl (cI, 4, .inl f_711)), (q_714, .inr (10, fs_715)), (q_716, .inl (cI, 1200, .inl (fun _ => 0))), (q_717, .inl (cI, 16, .inl f_718)), (q_719, .inl (cI, 16, .inl (fun _ => 0))), (q_720, .inl (cI, 64, .inl (fun _ => 0))), (q_721, .inl (cI, 2, .inl (fun _ => 0))), (q_722, .inl (cI, 82, .inl (fun _ => 0))), (q_723, .inl (cI, 82, .inl (fun _ => 0))), (q_724, .inl (cI, 82, .inl (fun _ => 0))), (q_725, .inl (cI, 2, .inl (fun _ => 0))), (q_726, .inl (cI, 50, .inl (fun _ => 0))), (q_727, .inl (cI, 50, .inl (fun _ => 0))), (q_728, .inl (cI, 2, .inl (fun _ => 0))), (q_729, .inl (cI, 4, .inl (fun _ => 0))), (q_730, .inl (cI, 42, .inl (fun _ => 0))), (q_731, .inl (cZ, 42, .inl (fun _ => 0))), (q_732, .inl (cI, 25, .inl (fun _ => 0))), (q_733, .inl (cI, 4, .inl f_734))] := hD
  refine W.widen (k := 84) (n := 30598) (Nat.le_of_ble_eq_true rfl) (Nat.le_of_ble_eq_true rfl) ?_
  refine lv_astore_n (lv' := [(2, .ref q_714), (1, .ref q_664), (0, .ref b)]) hx hb dL_law_15 rfl hl (by decide) rfl (fun ls hl => ?_)
  refine lv_iconst (v := 0) hx hb dL_law_16 (by decide) ?_
  refine lv_istore_n (lv' := [(3, .int 0), (2, .ref q_714), (1, .ref q_664), (0, .ref b)]) hx hb dL_law_17 rfl hl (by decide) rfl (fun ls hl => ?_)
  rcases Nat.lt_or_ge L 6 with h6 | h6
  · refine lv_iload_n hx hb dL_law_18 rfl (lv_at hl 0 rfl) ?_
    refine lv_aload_n hx hb dL_law_19 rfl (lv_at hl 3 rfl) ?_
    refine va_slen hx hb hX hbl hbA hS dL_law_20 ?_
    refine lv_bipush (v := 6) hx hb dL_law_21 (by decide) ?_
    refine lv_isub hx hb dL_law_23 ?_
    refine lv_icmp_gt (tgt := 559) hx hb dL_law_24 (by decide) (fun _ => ?_) (fun c9 => absurd (k_short h6) c9)
    refine lv_iconst (v := 1) hx hb dL_law_559 (by decide) ?_
    refine va_forget (fun q hq => hS.2.2 q hq) ?_
    exact lw_ret hx hb hr hlocks dL_law_560
  obtain rfl : L = 6 := Nat.le_antisymm hL h6
  obtain ⟨w0, ew0⟩ : ∃ z : Int32, z = xs 0 := ⟨_, rfl⟩
  obtain ⟨w1, ew1⟩ : ∃ z : Int32, z = xs 1 := ⟨_, rfl⟩
  obtain ⟨w2, ew2⟩ : ∃ z : Int32, z = xs 2 := ⟨_, rfl⟩
  obtain ⟨w3, ew3⟩ : ∃ z : Int32, z = xs 3 := ⟨_, rfl⟩
  obtain ⟨w4, ew4⟩ : ∃ z : Int32, z = xs 4 := ⟨_, rfl⟩
  obtain ⟨w5, ew5⟩ : ∃ z : Int32, z = xs 5 := ⟨_, rfl⟩
  refine lv_iload_n hx hb dL_law_18 rfl (lv_at hl 0 rfl) ?_
  refine lv_aload_n hx hb dL_law_19 rfl (lv_at hl 3 rfl) ?_
  refine va_slen hx hb hX hbl hbA hS dL_law_20 ?_
  refine lv_topi (fun y_1022 ey_1022 => ?_)
  obtain rfl : y_1022 = 6 := ey_1022.trans (by decide)
  refine lv_bipush (v := 6) hx hb dL_law_21 (by decide) ?_
  refine lv_isub hx hb dL_law_23 ?_
  refine lv_topi (fun y_1023 ey_1023 => ?_)
  obtain rfl : y_1023 = 0 := ey_1023.trans (by decide)
  refine lv_icmp_gt (tgt := 559) hx hb dL_law_24 (by decide) (fun c9 => absurd c9 (by decide)) (fun _ => ?_)
  refine lv_aload_n hx hb dL_law_27 rfl (lv_at hl 3 rfl) ?_
  refine lv_iload_n hx hb dL_law_28 rfl (lv_at hl 0 rfl) ?_
  refine va_sld hx hb hX hbl hbA hS (by unfold vp_in; decide) dL_law_29 ?_
  refine lv_topi (fun y_1024 ey_1024 => ?_)
  obtain rfl : w0 = y_1024 := (ey_1024.trans ((congrArg xs (by decide : (0 : Int32).toNatClampNeg = 0)).trans ew0.symm)).symm
  refine lv_bipush (v := 15) hx hb dL_law_30 (by decide) ?_
  refine lv_iand hx hb dL_law_32 ?_
  refine lv_topi (fun z9 ez9 => ?_)
  obtain ⟨j, hj, ej⟩ := pk_andE w0 (m := 15) 4 (by decide)
  rw [ej] at ez9
  rcases (show j = 0 ∨ j = 1 ∨ j = 2 ∨ j = 3 ∨ j = 4 ∨ j = 5 ∨ j = 6 ∨ j = 7 ∨ j = 8 ∨ j = 9 ∨ j = 10 ∨ j = 11 ∨ j = 12 ∨ j = 13 ∨ j = 14 ∨ j = 15 by omega) with rfl | rfl | rfl | rfl | rfl | rfl | rfl | rfl | rfl | rfl | rfl | rfl | rfl | rfl | rfl | rfl
  · obtain rfl : z9 = 0 := ez9.trans (by decide)
    refine lv_tableIn (off := 75) (tgt := 108) hx hb dL_law_33 (by decide) (by decide) (by decide) (by decide) ?_
    exact lw_feed hx hb hr hml hown hts hX hbl hlocks hK hN ew1 ew2 ew3 ew4 ew5 (hP.sub [0, 1, 20, 21] rfl) (hD.sub [0, 1, 20, 21] (by decide) rfl) hS (lv_sub hl [0, 1, 2, 3] rfl) hf_735 hf_736 hf_753
  · obtain rfl : z9 = 1 := ez9.trans (by decide)
    refine lv_tableIn (off := 138) (tgt := 171) hx hb dL_law_33 (by decide) (by decide) (by decide) (by decide) ?_
    rcases k_cmp0 w1 with rfl | hn9
    · exact lw_text0 hx hb hr hml hown hts hX hbl hlocks hK hN ew1 ew2 ew3 ew4 ew5 (hP.sub [0, 1, 2, 5, 3, 4, 6, 7, 9, 10, 16, 17, 20, 22, 23, 24, 25, 26, 27, 28, 29, 30, 31, 32, 33] rfl) (hD.sub [0, 1, 2, 5, 3, 4, 6, 7, 9, 10, 16, 17, 20, 22, 23, 24, 25, 26, 27, 28, 29, 30, 31, 32, 33] (by decide) rfl) hS (lv_sub hl [0, 1, 2, 3] rfl) hf_735 hf_737 hf_738 hf_739 hf_740 hf_741 hf_742 hf_743 hf_744 hf_745 hf_746 hf_747 hf_748 hf_753 hf_760
    · exact lw_textN hx hb hr hml hown hts hX hbl hlocks hK hN ew1 ew2 ew3 ew4 ew5 (hP.sub [0, 20] rfl) (hD.sub [0, 20] (by decide) rfl) hS (lv_sub hl [0, 1, 2, 3] rfl) hf_735 hf_753 hn9
  · obtain rfl : z9 = 2 := ez9.trans (by decide)
    refine lv_tableIn (off := 161) (tgt := 194) hx hb dL_law_33 (by decide) (by decide) (by decide) (by decide) ?_
    exact lw_fault hx hb hr hml hown hts hX hbl hlocks hK hN ew1 ew2 ew3 ew4 ew5 (hP.sub [0, 20] rfl) (hD.sub [0, 20] (by decide) rfl) hS (lv_sub hl [0, 1, 2, 3] rfl) hf_735 hf_754 hf_755
  · obtain rfl : z9 = 3 := ez9.trans (by decide)
    refine lv_tableIn (off := 184) (tgt := 217) hx hb dL_law_33 (by decide) (by decide) (by decide) (by decide) ?_
    exact lw_entry hx hb hr hml hown hts hX hbl hlocks hK hN ew1 ew2 ew3 ew4 ew5 (hP.sub [0, 6, 7, 20, 22] rfl) (hD.sub [0, 6, 7, 20, 22] (by decide) rfl) hS (lv_sub hl [0, 1, 2, 3] rfl) hf_735 hf_737 hf_760
  · obtain rfl : z9 = 4 := ez9.trans (by decide)
    refine lv_tableIn (off := 207) (tgt := 240) hx hb dL_law_33 (by decide) (by decide) (by decide) (by decide) ?_
    exact lw_outer hx hb hr hml hown hts hX hbl hlocks hK hN ew1 ew2 ew3 ew4 ew5 (hP.sub [0, 6, 7, 20] rfl) (hD.sub [0, 6, 7, 20] (by decide) rfl) hS (lv_sub hl [0, 1, 2, 3] rfl) hf_735 hf_757
  · obtain rfl : z9 = 5 := ez9.trans (by decide)
    refine lv_tableIn (off := 240) (tgt := 273) hx hb dL_law_33 (by decide) (by decide) (by decide) (by decide) ?_
    by_cases hn9 : w1 = 2 ∧ (w3 = 0 ∨ w3 = 1)
    · obtain ⟨rfl, rfl | rfl⟩ := hn9
      · exact lw_mark0 hx hb hr hml hown hts hX hbl hlocks hK hN ew1 ew2 ew3 ew4 ew5 (hP.sub [0, 10, 6, 7, 8, 11, 12, 13, 14, 15, 20, 22, 35, 34, 36] rfl) (hD.sub [0, 10, 6, 7, 8, 11, 12, 13, 14, 15, 20, 22, 35, 34, 36] (by decide) rfl) hS (lv_sub hl [0, 1, 2, 3] rfl) hf_735 hf_737 hf_750 hf_749 hf_751 hf_756 hf_757 hf_760
      · exact lw_mark1 hx hb hr hml hown hts hX hbl hlocks hK hN ew1 ew2 ew3 ew4 ew5 (hP.sub [0, 10, 6, 7, 8, 11, 12, 13, 14, 15, 20, 22, 35, 34, 36] rfl) (hD.sub [0, 10, 6, 7, 8, 11, 12, 13, 14, 15, 20, 22, 35, 34, 36] (by decide) rfl) hS (lv_sub hl [0, 1, 2, 3] rfl) hf_735 hf_737 hf_750 hf_749 hf_751 hf_756 hf_757 hf_760
    · exact lw_markN hx hb hr hml hown hts hX hbl hlocks hK hN ew1 ew2 ew3 ew4 ew5 (hP.sub [0, 6, 7, 20, 22] rfl) (hD.sub [0, 6, 7, 20, 22] (by decide) rfl) hS (lv_sub hl [0, 1, 2, 3] rfl) hf_735 hf_737 hf_760 hn9
  · obtain rfl : z9 = 6 := ez9.trans (by decide)
    refine lv_tableIn (off := 283) (tgt := 316) hx hb dL_law_33 (by decide) (by decide) (by decide) (by decide) ?_
    exact lw_use hx hb hr hml hown hts hX hbl hlocks hK hN ew1 ew2 ew3 ew4 ew5 (hP.sub [0, 6, 7, 20, 29] rfl) (hD.sub [0, 6, 7, 20, 29] (by decide) rfl) hS (lv_sub hl [0, 1, 2, 3] rfl) hf_735 hf_744
  · obtain rfl : z9 = 7 := ez9.trans (by decide)
    refine lv_tableIn (off := 316) (tgt := 349) hx hb dL_law_33 (by decide) (by decide) (by decide) (by decide) ?_
    exact lw_test hx hb hr hml hown hts hX hbl hlocks hK hN ew1 ew2 ew3 ew4 ew5 (hP.sub [0, 6, 7, 20, 32] rfl) (hD.sub [0, 6, 7, 20, 32] (by decide) rfl) hS (lv_sub hl [0, 1, 2, 3] rfl) hf_735 hf_747
  · obtain rfl : z9 = 8 := ez9.trans (by decide)
    refine lv_tableIn (off := 349) (tgt := 382) hx hb dL_law_33 (by decide) (by decide) (by decide) (by decide) ?_
    exact lw_run hx hb hr hml hown hts hX hbl hlocks hK hN ew1 ew2 ew3 ew4 ew5 (hP.sub [0, 6, 7, 20] rfl) (hD.sub [0, 6, 7, 20] (by decide) rfl) hS (lv_sub hl [0, 1, 2, 3] rfl) hf_735 hf_757
  · obtain rfl : z9 = 9 := ez9.trans (by decide)
    refine lv_tableIn (off := 382) (tgt := 415) hx hb dL_law_33 (by decide) (by decide) (by decide) (by decide) ?_
    exact lw_ran hx hb hr hml hown hts hX hbl hlocks hK hN ew1 ew2 ew3 ew4 ew5 (hP.sub [0, 19, 20] rfl) (hD.sub [0, 19, 20] (by decide) rfl) hS (lv_sub hl [0, 1, 2, 3] rfl) hf_735 hf_758 hf_712
  · obtain rfl : z9 = 10 := ez9.trans (by decide)
    refine lv_tableIn (off := 405) (tgt := 438) hx hb dL_law_33 (by decide) (by decide) (by decide) (by decide) ?_
    exact lw_tries hx hb hr hml hown hts hX hbl hlocks hK hN ew1 ew2 ew3 ew4 ew5 (hP.sub [0, 6, 7, 20, 29] rfl) (hD.sub [0, 6, 7, 20, 29] (by decide) rfl) hS (lv_sub hl [0, 1, 2, 3] rfl) hf_735 hf_744
  · obtain rfl : z9 = 11 := ez9.trans (by decide)
    refine lv_tableIn (off := 428) (tgt := 461) hx hb dL_law_33 (by decide) (by decide) (by decide) (by decide) ?_
    by_cases hb9 : w1 < 0 ∨ 3 < w1 ∨ w2 < 1 ∨ ¬ w2 ≤ 99
    · exact lw_priceN hx hb hr hml hown hts hX hbl hlocks hK hN ew1 ew2 ew3 ew4 ew5 (hP.sub [0, 20] rfl) (hD.sub [0, 20] (by decide) rfl) hS (lv_sub hl [0, 1, 2, 3] rfl) hf_735 hb9
    · have h1 : ¬ w1 < 0 := fun h => hb9 (Or.inl h)
      have h2 : ¬ 3 < w1 := fun h => hb9 (Or.inr (Or.inl h))
      have h3 : ¬ w2 < 1 := fun h => hb9 (Or.inr (Or.inr (Or.inl h)))
      have h4 : w2 ≤ 99 := Decidable.not_not.mp (fun h => hb9 (Or.inr (Or.inr (Or.inr h))))
      exact lw_priceY hx hb hr hml hown hts hX hbl hlocks hK hN ew1 ew2 ew3 ew4 ew5 (hP.sub [0, 17, 18, 20, 37] rfl) (hD.sub [0, 17, 18, 20, 37] (by decide) rfl) hS (lv_sub hl [0, 1, 2, 3] rfl) hf_735 hf_752 h1 h2 h3 h4
  · obtain rfl : z9 = 12 := ez9.trans (by decide)
    refine lv_tableIn (off := 461) (tgt := 494) hx hb dL_law_33 (by decide) (by decide) (by decide) (by decide) ?_
    exact lw_mend hx hb hr hml hown hts hX hbl hlocks hK hN ew1 ew2 ew3 ew4 ew5 (hP.sub [0, 6, 7, 20] rfl) (hD.sub [0, 6, 7, 20] (by decide) rfl) hS (lv_sub hl [0, 1, 2, 3] rfl) hf_735 hf_757
  · obtain rfl : z9 = 13 := ez9.trans (by decide)
    refine lv_tableIn (off := 474) (tgt := 507) hx hb dL_law_33 (by decide) (by decide) (by decide) (by decide) ?_
    exact lw_mended hx hb hr hml hown hts hX hbl hlocks hK hN ew1 ew2 ew3 ew4 ew5 (hP.sub [0, 17, 20] rfl) (hD.sub [0, 17, 20] (by decide) rfl) hS (lv_sub hl [0, 1, 2, 3] rfl) hf_735 hf_759
  · obtain rfl : z9 = 14 := ez9.trans (by decide)
    refine lv_tableIn (off := 497) (tgt := 530) hx hb dL_law_33 (by decide) (by decide) (by decide) (by decide) ?_
    rcases k_sw6 w1 with rfl | rfl | rfl | rfl | rfl | rfl | hw9
    · exact lw_count0 hx hb hr hml hown hts hX hbl hlocks hK hN ew1 ew2 ew3 ew4 ew5 (hP.sub [0, 6, 7, 20, 22, 29, 32] rfl) (hD.sub [0, 6, 7, 20, 22, 29, 32] (by decide) rfl) hS (lv_sub hl [0, 1, 2, 3] rfl) hf_735 hf_737 hf_744 hf_747 hf_757 hf_760
    · exact lw_count1 hx hb hr hml hown hts hX hbl hlocks hK hN ew1 ew2 ew3 ew4 ew5 (hP.sub [0, 6, 7, 20, 22, 29, 32] rfl) (hD.sub [0, 6, 7, 20, 22, 29, 32] (by decide) rfl) hS (lv_sub hl [0, 1, 2, 3] rfl) hf_735 hf_737 hf_744 hf_747 hf_757 hf_760
    · exact lw_count2 hx hb hr hml hown hts hX hbl hlocks hK hN ew1 ew2 ew3 ew4 ew5 (hP.sub [0, 6, 7, 20, 22, 29, 32] rfl) (hD.sub [0, 6, 7, 20, 22, 29, 32] (by decide) rfl) hS (lv_sub hl [0, 1, 2, 3] rfl) hf_735 hf_737 hf_744 hf_747 hf_757 hf_760
    · exact lw_count3 hx hb hr hml hown hts hX hbl hlocks hK hN ew1 ew2 ew3 ew4 ew5 (hP.sub [0, 6, 7, 20, 22, 29, 32] rfl) (hD.sub [0, 6, 7, 20, 22, 29, 32] (by decide) rfl) hS (lv_sub hl [0, 1, 2, 3] rfl) hf_735 hf_737 hf_744 hf_747 hf_757 hf_760
    · exact lw_count4 hx hb hr hml hown hts hX hbl hlocks hK hN ew1 ew2 ew3 ew4 ew5 (hP.sub [0, 10, 6, 7, 8, 11, 12, 13, 14, 15, 20, 29, 35, 34, 36] rfl) (hD.sub [0, 10, 6, 7, 8, 11, 12, 13, 14, 15, 20, 29, 35, 34, 36] (by decide) rfl) hS (lv_sub hl [0, 1, 2, 3] rfl) hf_735 hf_744 hf_750 hf_749 hf_751 hf_756 hf_757
    · exact lw_count5 hx hb hr hml hown hts hX hbl hlocks hK hN ew1 ew2 ew3 ew4 ew5 (hP.sub [0, 10, 6, 7, 8, 11, 12, 13, 14, 15, 20, 29, 35, 34, 36] rfl) (hD.sub [0, 10, 6, 7, 8, 11, 12, 13, 14, 15, 20, 29, 35, 34, 36] (by decide) rfl) hS (lv_sub hl [0, 1, 2, 3] rfl) hf_735 hf_744 hf_750 hf_749 hf_751 hf_756 hf_757
    · exact lw_countN hx hb hr hml hown hts hX hbl hlocks hK hN ew1 ew2 ew3 ew4 ew5 (hP.sub [0, 20] rfl) (hD.sub [0, 20] (by decide) rfl) hS (lv_sub hl [0, 1, 2, 3] rfl) hf_735 hw9
  · obtain rfl : z9 = 15 := ez9.trans (by decide)
    refine lv_tableOut (tgt := 553) hx hb dL_law_33 (by decide) (by decide) ?_
    refine lv_iinc (v := 6) (lv' := [(3, .int 6), (2, .ref q_714), (1, .ref q_664), (0, .ref b)]) hx hb dL_law_553 hl (k := 0) rfl (by decide) (by decide) rfl (fun ls hl => ?_)
    refine lv_goto (tgt := 18) hx hb dL_law_556 (by decide) ?_
    refine lv_iload_n hx hb dL_law_18 rfl (lv_at hl 0 rfl) ?_
    refine lv_aload_n hx hb dL_law_19 rfl (lv_at hl 3 rfl) ?_
    refine va_slen hx hb hX hbl hbA hS dL_law_20 ?_
    refine lv_topi (fun y_1025 ey_1025 => ?_)
    obtain rfl : y_1025 = 6 := ey_1025.trans (by decide)
    refine lv_bipush (v := 6) hx hb dL_law_21 (by decide) ?_
    refine lv_isub hx hb dL_law_23 ?_
    refine lv_topi (fun y_1026 ey_1026 => ?_)
    obtain rfl : y_1026 = 0 := ey_1026.trans (by decide)
    refine lv_icmp_gt (tgt := 559) hx hb dL_law_24 (by decide) (fun _ => ?_) (fun c9 => absurd (by decide) c9)
    refine lv_iconst (v := 1) hx hb dL_law_559 (by decide) ?_
    refine va_forget (fun q hq => hS.2.2 q hq) ?_
    exact lw_ret hx hb hr hlocks dL_law_560
