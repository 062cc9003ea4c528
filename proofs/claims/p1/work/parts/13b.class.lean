set_option maxHeartbeats 4000000 in
set_option maxRecDepth 100000 in
theorem c_putNumber8 (l : Launch) (dC : Nat → ClassId) (dI : Nat → Nat → Nat) (cI cB cL cZ : ClassId) (h0 : Nat) (tp : Nat) (tok : Nat) (sp : Nat) (rdr : Nat) (scn : Nat) (fct : Nat) (rnr : Nat) (trl : Nat) (mnd : Nat) (rrw : Nat) (n : Int32) (f : Nat → Int32) (sz : Nat)  : Met l yX10_putNumber wsX10_putNumber ({ frames := 0, cells := 0, slots := 0, locals := 0 }) (cP (dC, dI) (kTy cI cB cL cZ) [.ref h0, .int n] [(h0, .inr (9, [.ref tp, .int 8, .ref tok, .ref sp, .ref rdr, .int 0, .int (-1), .ref scn, .ref fct, .ref rnr, .ref trl, .ref mnd, .ref rrw])), (tp, .inl (cB, 1200, .inl f))] sz) (va_Qv (fun _ : Unit => True) (fun (_ : Unit) (t : State) => ∃ fz0 : Nat → Int32, va_P (dC, dI) vwCl [(h0, .inr (9, [.ref tp, .int 12, .ref tok, .ref sp, .ref rdr, .int 0, .int (-1), .ref scn, .ref fct, .ref rnr, .ref trl, .ref mnd, .ref rrw])), (tp, .inl (cB, 1200, .inl fz0))] t.heap ∧ va_D (va_A [(h0, .inr (9, [.ref tp, .int 8, .ref tok, .ref sp, .ref rdr, .int 0, .int (-1), .ref scn, .ref fct, .ref rnr, .ref trl, .ref mnd, .ref rrw])), (tp, .inl (cB, 1200, .inl f))] sz) [(h0, .inr (9, [.ref tp, .int 12, .ref tok, .ref sp, .ref rdr, .int 0, .int (-1), .ref scn, .ref fct, .ref rnr, .ref trl, .ref mnd, .ref rrw])), (tp, .inl (cB, 1200, .inl fz0))]) (va_A [(h0, .inr (9, [.ref tp, .int 8, .ref tok, .ref sp, .ref rdr, .int 0, .int (-1), .ref scn, .ref fct, .ref rnr, .ref trl, .ref mnd, .ref rrw])), (tp, .inl (cB, 1200, .inl f))] sz)) 0 0 (va_A [(h0, .inr (9, [.ref tp, .int 8, .ref tok, .ref sp, .ref rdr, .int 0, .int (-1), .ref scn, .ref fct, .ref rnr, .ref trl, .ref mnd, .ref rrw])), (tp, .inl (cB, 1200, .inl f))] sz) := by
  refine Met.ofW (cc := cX10_putNumber) (maxL := 3) (ret := none) (by decide) rfl ?_
  intro p e s m args below meth c s₁ B hml hv
  obtain ⟨rfl, hsz, hP, hK, hD0, hN⟩ := hv
  have hx := B.exec
  have hb := B.bytes
  have hr := B.returns
  have hts := atoms_spec (ws := wsX10_putNumber) B.pre
  have hown : s.vm.findClass RX10 = some m.cls := findClass_of_methodNamed B.named
  have hlocks := B.notSynchronized
  subst hsz
  have hD := hD0.self (sz := s.heap.size)
  generalize hAe : va_A [(h0, .inr (9, [.ref tp, .int 8, .ref tok, .ref sp, .ref rdr, .int 0, .int (-1), .ref scn, .ref fct, .ref rnr, .ref trl, .ref mnd, .ref rrw])), (tp, .inl (cB, 1200, .inl f))] s.heap.size = A at hD ⊢
  have hA : ∀ q : Nat, s.heap.size ≤ q → A q := fun q h => by rw [← hAe]; exact Or.inr h
  have hl := lv_entry ([.ref h0, .int n]) (n := 3) (Nat.le_of_ble_eq_true rfl)
  rw [lg_entry_eq]
  generalize (lg_sl ([.ref h0, .int n]) ++ List.replicate (3 - (lg_sl ([.ref h0, .int n])).length) Slot.unset).toArray = ls at hl ⊢
  have hl : lv_has ls 3 [(0, .ref h0), (1, .int n)] := hl
  refine k_H (A := A) hP (fun H hP hS => ?_)
  have hP : va_P (dC, dI) vwCl [(h0, .inr (9, [.ref tp, .int 8, .ref tok, .ref sp, .ref rdr, .int 0, .int (-1), .ref scn, .ref fct, .ref rnr, .ref trl, .ref mnd, .ref rrw])), (tp, .inl (cB, 1200, .inl f))] H := hP
  have hD : va_D A [(h0, .inr (9, [.ref tp, .int 8, .ref tok, .ref sp, .ref rdr, .int 0, .int (-1), .ref scn, .ref fct, .ref rnr, .ref trl, .ref mnd, .ref rrw])), (tp, .inl (cB, 1200, .inl f))] := hD
  refine lv_bipush (v := 24) hx hb dX10_putNumber_0 (by decide) ?_
  refine lv_istore_n (lv' := [(2, .int 24), (0, .ref h0), (1, .int n)]) hx hb dX10_putNumber_2 rfl hl (by decide) rfl (fun ls hl => ?_)
  refine lv_iload_n hx hb dX10_putNumber_3 rfl (lv_at hl 0 rfl) ?_
  refine lv_if_lt (tgt := 55) hx hb dX10_putNumber_4 (by decide) (fun c9 => absurd c9 (by decide)) (fun _ => ?_)
  refine lv_aload_n hx hb dX10_putNumber_7 rfl (lv_at hl 1 rfl) ?_
  refine va_get (D := (dC, dI)) (ci := 9) (v := .int 8) (C := RX10) (T := TX10) (N := 13) hx hb hts iwwsX10_putNumber_10 hown hK hP 0 rfl rfl 1 (by decide) (hts (.fieldLink RX10 87 "NothingJudge" "taped" "I") fwwsX10_putNumber_87) (fun _ h9 => h9) rfl dX10_putNumber_8 ?_
  refine lv_if_lt (tgt := 49) hx hb dX10_putNumber_11 (by decide) (fun c9 => absurd c9 (by decide)) (fun _ => ?_)
  refine lv_aload_n hx hb dX10_putNumber_14 rfl (lv_at hl 1 rfl) ?_
  refine va_get (D := (dC, dI)) (ci := 9) (v := .int 8) (C := RX10) (T := TX10) (N := 13) hx hb hts iwwsX10_putNumber_10 hown hK hP 0 rfl rfl 1 (by decide) (hts (.fieldLink RX10 87 "NothingJudge" "taped" "I") fwwsX10_putNumber_87) (fun _ h9 => h9) rfl dX10_putNumber_15 ?_
  refine lv_aload_n hx hb dX10_putNumber_18 rfl (lv_at hl 1 rfl) ?_
  refine va_get (D := (dC, dI)) (ci := 9) (v := .ref tp) (C := RX10) (T := TX10) (N := 13) hx hb hts iwwsX10_putNumber_10 hown hK hP 0 rfl rfl 0 (by decide) (hts (.fieldLink RX10 9 "NothingJudge" "tape" "[B") fwwsX10_putNumber_9) (fun _ h9 => h9) rfl dX10_putNumber_19 ?_
  refine va_alen hx hb hK hP 1 1 rfl rfl (v := 1200) (by show Int32.ofNat 1200 = 1200; decide) dX10_putNumber_22 ?_
  refine lv_icmp_ge (tgt := 49) hx hb dX10_putNumber_23 (by decide) (fun c9 => absurd c9 (by decide)) (fun _ => ?_)
  refine lv_aload_n hx hb dX10_putNumber_26 rfl (lv_at hl 1 rfl) ?_
  refine va_get (D := (dC, dI)) (ci := 9) (v := .ref tp) (C := RX10) (T := TX10) (N := 13) hx hb hts iwwsX10_putNumber_10 hown hK hP 0 rfl rfl 0 (by decide) (hts (.fieldLink RX10 9 "NothingJudge" "tape" "[B") fwwsX10_putNumber_9) (fun _ h9 => h9) rfl dX10_putNumber_27 ?_
  refine lv_aload_n hx hb dX10_putNumber_30 rfl (lv_at hl 1 rfl) ?_
  refine va_get (D := (dC, dI)) (ci := 9) (v := .int 8) (C := RX10) (T := TX10) (N := 13) hx hb hts iwwsX10_putNumber_10 hown hK hP 0 rfl rfl 1 (by decide) (hts (.fieldLink RX10 87 "NothingJudge" "taped" "I") fwwsX10_putNumber_87) (fun _ h9 => h9) rfl dX10_putNumber_31 ?_
  refine lv_iload_n hx hb dX10_putNumber_34 rfl (lv_at hl 2 rfl) ?_
  refine lv_iload_n hx hb dX10_putNumber_35 rfl (lv_at hl 0 rfl) ?_
  refine lv_ishr hx hb dX10_putNumber_36 ?_
  refine lv_topi (fun v_149 ev_149 => ?_)
  refine lv_i2b (v := v_149.toInt8.toInt32) hx hb dX10_putNumber_37 rfl ?_
  refine lv_topi (fun v_150 ev_150 => ?_)
  refine va_bast hx hb hK hP hD hS 1 1 rfl rfl (by unfold vp_in; decide) dX10_putNumber_38 (fun H locs hP hD hS => ?_)
  obtain ⟨f_151, ef_151⟩ : ∃ z, z = upd f (8 : Int32).toNatClampNeg (vp_nar .byte v_150) := ⟨_, rfl⟩
  have hP : va_P (dC, dI) vwCl [(h0, .inr (9, [.ref tp, .int 8, .ref tok, .ref sp, .ref rdr, .int 0, .int (-1), .ref scn, .ref fct, .ref rnr, .ref trl, .ref mnd, .ref rrw])), (tp, .inl (cB, 1200, .inl f_151))] H := by rw [ef_151]; exact hP
  have hD : va_D A [(h0, .inr (9, [.ref tp, .int 8, .ref tok, .ref sp, .ref rdr, .int 0, .int (-1), .ref scn, .ref fct, .ref rnr, .ref trl, .ref mnd, .ref rrw])), (tp, .inl (cB, 1200, .inl f_151))] := by rw [ef_151]; exact hD
  refine lv_aload_n hx hb dX10_putNumber_39 rfl (lv_at hl 1 rfl) ?_
  refine lv_dup hx hb dX10_putNumber_40 rfl ?_
  refine va_get (D := (dC, dI)) (ci := 9) (v := .int 8) (C := RX10) (T := TX10) (N := 13) hx hb hts iwwsX10_putNumber_10 hown hK hP 0 rfl rfl 1 (by decide) (hts (.fieldLink RX10 87 "NothingJudge" "taped" "I") fwwsX10_putNumber_87) (fun _ h9 => h9) rfl dX10_putNumber_41 ?_
  refine lv_iconst (v := 1) hx hb dX10_putNumber_44 (by decide) ?_
  refine lv_iadd hx hb dX10_putNumber_45 ?_
  refine lv_topi (fun y_152 ey_152 => ?_)
  obtain rfl : y_152 = 9 := ey_152.trans (by decide)
  refine va_put (D := (dC, dI)) (ci := 9) (v := .int 9) (ty := .int) (C := RX10) (T := TX10) (N := 13) hx hb hts iwwsX10_putNumber_10 tyX10 tyX10_ok nmX10 hown hK hP hD hS 0 rfl rfl 1 (by decide) (hts (.fieldLink RX10 87 "NothingJudge" "taped" "I") fwwsX10_putNumber_87) (fun _ h9 => h9) rfl (by decide +kernel) rfl rfl (Nat.le_of_ble_eq_true rfl) dX10_putNumber_46 (fun H locs hP hD hS => ?_)
  have hP : va_P (dC, dI) vwCl [(h0, .inr (9, [.ref tp, .int 9, .ref tok, .ref sp, .ref rdr, .int 0, .int (-1), .ref scn, .ref fct, .ref rnr, .ref trl, .ref mnd, .ref rrw])), (tp, .inl (cB, 1200, .inl f_151))] H := hP
  have hD : va_D A [(h0, .inr (9, [.ref tp, .int 9, .ref tok, .ref sp, .ref rdr, .int 0, .int (-1), .ref scn, .ref fct, .ref rnr, .ref trl, .ref mnd, .ref rrw])), (tp, .inl (cB, 1200, .inl f_151))] := hD
  refine lv_iinc (v := 16) (lv' := [(2, .int 16), (0, .ref h0), (1, .int n)]) hx hb dX10_putNumber_49 hl (k := 0) rfl (by decide) (by decide) rfl (fun ls hl => ?_)
  refine lv_goto (tgt := 3) hx hb dX10_putNumber_52 (by decide) ?_
  refine lv_iload_n hx hb dX10_putNumber_3 rfl (lv_at hl 0 rfl) ?_
  refine lv_if_lt (tgt := 55) hx hb dX10_putNumber_4 (by decide) (fun c9 => absurd c9 (by decide)) (fun _ => ?_)
  refine lv_aload_n hx hb dX10_putNumber_7 rfl (lv_at hl 1 rfl) ?_
  refine va_get (D := (dC, dI)) (ci := 9) (v := .int 9) (C := RX10) (T := TX10) (N := 13) hx hb hts iwwsX10_putNumber_10 hown hK hP 0 rfl rfl 1 (by decide) (hts (.fieldLink RX10 87 "NothingJudge" "taped" "I") fwwsX10_putNumber_87) (fun _ h9 => h9) rfl dX10_putNumber_8 ?_
  refine lv_if_lt (tgt := 49) hx hb dX10_putNumber_11 (by decide) (fun c9 => absurd c9 (by decide)) (fun _ => ?_)
  refine lv_aload_n hx hb dX10_putNumber_14 rfl (lv_at hl 1 rfl) ?_
  refine va_get (D := (dC, dI)) (ci := 9) (v := .int 9) (C := RX10) (T := TX10) (N := 13) hx hb hts iwwsX10_putNumber_10 hown hK hP 0 rfl rfl 1 (by decide) (hts (.fieldLink RX10 87 "NothingJudge" "taped" "I") fwwsX10_putNumber_87) (fun _ h9 => h9) rfl dX10_putNumber_15 ?_
  refine lv_aload_n hx hb dX10_putNumber_18 rfl (lv_at hl 1 rfl) ?_
  refine va_get (D := (dC, dI)) (ci := 9) (v := .ref tp) (C := RX10) (T := TX10) (N := 13) hx hb hts iwwsX10_putNumber_10 hown hK hP 0 rfl rfl 0 (by decide) (hts (.fieldLink RX10 9 "NothingJudge" "tape" "[B") fwwsX10_putNumber_9) (fun _ h9 => h9) rfl dX10_putNumber_19 ?_
  refine va_alen hx hb hK hP 1 1 rfl rfl (v := 1200) (by show Int32.ofNat 1200 = 1200; decide) dX10_putNumber_22 ?_
  refine lv_icmp_ge (tgt := 49) hx hb dX10_putNumber_23 (by decide) (fun c9 => absurd c9 (by decide)) (fun _ => ?_)
  refine lv_aload_n hx hb dX10_putNumber_26 rfl (lv_at hl 1 rfl) ?_
  refine va_get (D := (dC, dI)) (ci := 9) (v := .ref tp) (C := RX10) (T := TX10) (N := 13) hx hb hts iwwsX10_putNumber_10 hown hK hP 0 rfl rfl 0 (by decide) (hts (.fieldLink RX10 9 "NothingJudge" "tape" "[B") fwwsX10_putNumber_9) (fun _ h9 => h9) rfl dX10_putNumber_27 ?_
  refine lv_aload_n hx hb dX10_putNumber_30 rfl (lv_at hl 1 rfl) ?_
  refine va_get (D := (dC, dI)) (ci := 9) (v := .int 9) (C := RX10) (T := TX10) (N := 13) hx hb hts iwwsX10_putNumber_10 hown hK hP 0 rfl rfl 1 (by decide) (hts (.fieldLink RX10 87 "NothingJudge" "taped" "I") fwwsX10_putNumber_87) (fun _ h9 => h9) rfl dX10_putNumber_31 ?_
  refine lv_iload_n hx hb dX10_putNumber_34 rfl (lv_at hl 2 rfl) ?_
  refine lv_iload_n hx hb dX10_putNumber_35 rfl (lv_at hl 0 rfl) ?_
  refine lv_ishr hx hb dX10_putNumber_36 ?_
  refine lv_topi (fun v_153 ev_153 => ?_)
  refine lv_i2b (v := v_153.toInt8.toInt32) hx hb dX10_putNumber_37 rfl ?_
  refine lv_topi (fun v_154 ev_154 => ?_)
  refine va_bast hx hb hK hP hD hS 1 1 rfl rfl (by unfold vp_in; decide) dX10_putNumber_38 (fun H locs hP hD hS => ?_)
  obtain ⟨f_155, ef_155⟩ : ∃ z, z = upd f_151 (9 : Int32).toNatClampNeg (vp_nar .byte v_154) := ⟨_, rfl⟩
  have hP : va_P (dC, dI) vwCl [(h0, .inr (9, [.ref tp, .int 9, .ref tok, .ref sp, .ref rdr, .int 0, .int (-1), .ref scn, .ref fct, .ref rnr, .ref trl, .ref mnd, .ref rrw])), (tp, .inl (cB, 1200, .inl f_155))] H := by rw [ef_155]; exact hP
  have hD : va_D A [(h0, .inr (9, [.ref tp, .int 9, .ref tok, .ref sp, .ref rdr, .int 0, .int (-1), .ref scn, .ref fct, .ref rnr, .ref trl, .ref mnd, .ref rrw])), (tp, .inl (cB, 1200, .inl f_155))] := by rw [ef_155]; exact hD
  refine lv_aload_n hx hb dX10_putNumber_39 rfl (lv_at hl 1 rfl) ?_
  refine lv_dup hx hb dX10_putNumber_40 rfl ?_
  refine va_get (D := (dC, dI)) (ci := 9) (v := .int 9) (C := RX10) (T := TX10) (N := 13) hx hb hts iwwsX10_putNumber_10 hown hK hP 0 rfl rfl 1 (by decide) (hts (.fieldLink RX10 87 "NothingJudge" "taped" "I") fwwsX10_putNumber_87) (fun _ h9 => h9) rfl dX10_putNumber_41 ?_
  refine lv_iconst (v := 1) hx hb dX10_putNumber_44 (by decide) ?_
  refine lv_iadd hx hb dX10_putNumber_45 ?_
  refine lv_topi (fun y_156 ey_156 => ?_)
  obtain rfl : y_156 = 10 := ey_156.trans (by decide)
  refine va_put (D := (dC, dI)) (ci := 9) (v := .int 10) (ty := .int) (C := RX10) (T := TX10) (N := 13) hx hb hts iwwsX10_putNumber_10 tyX10 tyX10_ok nmX10 hown hK hP hD hS 0 rfl rfl 1 (by decide) (hts (.fieldLink RX10 87 "NothingJudge" "taped" "I") fwwsX10_putNumber_87) (fun _ h9 => h9) rfl (by decide +kernel) rfl rfl (Nat.le_of_ble_eq_true rfl) dX10_putNumber_46 (fun H locs hP hD hS => ?_)
  have hP : va_P (dC, dI) vwCl [(h0, .inr (9, [.ref tp, .int 10, .ref tok, .ref sp, .ref rdr, .int 0, .int (-1), .ref scn, .ref fct, .ref rnr, .ref trl, .ref mnd, .ref rrw])), (tp, .inl (cB, 1200, .inl f_155))] H := hP
  have hD : va_D A [(h0, .inr (9, [.ref tp, .int 10, .ref tok, .ref sp, .ref rdr, .int 0, .int (-1), .ref scn, .ref fct, .ref rnr, .ref trl, .ref mnd, .ref rrw])), (tp, .inl (cB, 1200, .inl f_155))] := hD
  refine lv_iinc (v := 8) (lv' := [(2, .int 8), (0, .ref h0), (1, .int n)]) hx hb dX10_putNumber_49 hl (k := 0) rfl (by decide) (by decide) rfl (fun ls hl => ?_)
  refine lv_goto (tgt := 3) hx hb dX10_putNumber_52 (by decide) ?_
  refine lv_iload_n hx hb dX10_putNumber_3 rfl (lv_at hl 0 rfl) ?_
  refine lv_if_lt (tgt := 55) hx hb dX10_putNumber_4 (by decide) (fun c9 => absurd c9 (by decide)) (fun _ => ?_)
  refine lv_aload_n hx hb dX10_putNumber_7 rfl (lv_at hl 1 rfl) ?_
  refine va_get (D := (dC, dI)) (ci := 9) (v := .int 10) (C := RX10) (T := TX10) (N := 13) hx hb hts iwwsX10_putNumber_10 hown hK hP 0 rfl rfl 1 (by decide) (hts (.fieldLink RX10 87 "NothingJudge" "taped" "I") fwwsX10_putNumber_87) (fun _ h9 => h9) rfl dX10_putNumber_8 ?_
  refine lv_if_lt (tgt := 49) hx hb dX10_putNumber_11 (by decide) (fun c9 => absurd c9 (by decide)) (fun _ => ?_)
  refine lv_aload_n hx hb dX10_putNumber_14 rfl (lv_at hl 1 rfl) ?_
  refine va_get (D := (dC, dI)) (ci := 9) (v := .int 10) (C := RX10) (T := TX10) (N := 13) hx hb hts iwwsX10_putNumber_10 hown hK hP 0 rfl rfl 1 (by decide) (hts (.fieldLink RX10 87 "NothingJudge" "taped" "I") fwwsX10_putNumber_87) (fun _ h9 => h9) rfl dX10_putNumber_15 ?_
  refine lv_aload_n hx hb dX10_putNumber_18 rfl (lv_at hl 1 rfl) ?_
  refine va_get (D := (dC, dI)) (ci := 9) (v := .ref tp) (C := RX10) (T := TX10) (N := 13) hx hb hts iwwsX10_putNumber_10 hown hK hP 0 rfl rfl 0 (by decide) (hts (.fieldLink RX10 9 "NothingJudge" "tape" "[B") fwwsX10_putNumber_9) (fun _ h9 => h9) rfl dX10_putNumber_19 ?_
  refine va_alen hx hb hK hP 1 1 rfl rfl (v := 1200) (by show Int32.ofNat 1200 = 1200; decide) dX10_putNumber_22 ?_
  refine lv_icmp_ge (tgt := 49) hx hb dX10_putNumber_23 (by decide) (fun c9 => absurd c9 (by decide)) (fun _ => ?_)
  refine lv_aload_n hx hb dX10_putNumber_26 rfl (lv_at hl 1 rfl) ?_
  refine va_get (D := (dC, dI)) (ci := 9) (v := .ref tp) (C := RX10) (T := TX10) (N := 13) hx hb hts iwwsX10_putNumber_10 hown hK hP 0 rfl rfl 0 (by decide) (hts (.fieldLink RX10 9 "NothingJudge" "tape" "[B") fwwsX10_putNumber_9) (fun _ h9 => h9) rfl dX10_putNumber_27 ?_
  refine lv_aload_n hx hb dX10_putNumber_30 rfl (lv_at hl 1 rfl) ?_
  refine va_get (D := (dC, dI)) (ci := 9) (v := .int 10) (C := RX10) (T := TX10) (N := 13) hx hb hts iwwsX10_putNumber_10 hown hK hP 0 rfl rfl 1 (by decide) (hts (.fieldLink RX10 87 "NothingJudge" "taped" "I") fwwsX10_putNumber_87) (fun _ h9 => h9) rfl dX10_putNumber_31 ?_
  refine lv_iload_n hx hb dX10_putNumber_34 rfl (lv_at hl 2 rfl) ?_
  refine lv_iload_n hx hb dX10_putNumber_35 rfl (lv_at hl 0 rfl) ?_
  refine lv_ishr hx hb dX10_putNumber_36 ?_
  refine lv_topi (fun v_157 ev_157 => ?_)
  refine lv_i2b (v := v_157.toInt8.toInt32) hx hb dX10_putNumber_37 rfl ?_
  refine lv_topi (fun v_158 ev_158 => ?_)
  refine va_bast hx hb hK hP hD hS 1 1 rfl rfl (by unfold vp_in; decide) dX10_putNumber_38 (fun H locs hP hD hS => ?_)
  obtain ⟨f_159, ef_159⟩ : ∃ z, z = upd f_155 (10 : Int32).toNatClampNeg (vp_nar .byte v_158) := ⟨_, rfl⟩
  have hP : va_P (dC, dI) vwCl [(h0, .inr (9, [.ref tp, .int 10, .ref tok, .ref sp, .ref rdr, .int 0, .int (-1), .ref scn, .ref fct, .ref rnr, .ref trl, .ref mnd, .ref rrw])), (tp, .inl (cB, 1200, .inl f_159))] H := by rw [ef_159]; exact hP
  have hD : va_D A [(h0, .inr (9, [.ref tp, .int 10, .ref tok, .ref sp, .ref rdr, .int 0, .int (-1), .ref scn, .ref fct, .ref rnr, .ref trl, .ref mnd, .ref rrw])), (tp, .inl (cB, 1200, .inl f_159))] := by rw [ef_159]; exact hD
  refine lv_aload_n hx hb dX10_putNumber_39 rfl (lv_at hl 1 rfl) ?_
  refine lv_dup hx hb dX10_putNumber_40 rfl ?_
  refine va_get (D := (dC, dI)) (ci := 9) (v := .int 10) (C := RX10) (T := TX10) (N := 13) hx hb hts iwwsX10_putNumber_10 hown hK hP 0 rfl rfl 1 (by decide) (hts (.fieldLink RX10 87 "NothingJudge" "taped" "I") fwwsX10_putNumber_87) (fun _ h9 => h9) rfl dX10_putNumber_41 ?_
  refine lv_iconst (v := 1) hx hb dX10_putNumber_44 (by decide) ?_
  refine lv_iadd hx hb dX10_putNumber_45 ?_
  refine lv_topi (fun y_160 ey_160 => ?_)
  obtain rfl : y_160 = 11 := ey_160.trans (by decide)
  refine va_put (D := (dC, dI)) (ci := 9) (v := .int 11) (ty := .int) (C := RX10) (T := TX10) (N := 13) hx hb hts iwwsX10_putNumber_10 tyX10 tyX10_ok nmX10 hown hK hP hD hS 0 rfl rfl 1 (by decide) (hts (.fieldLink RX10 87 "NothingJudge" "taped" "I") fwwsX10_putNumber_87) (fun _ h9 => h9) rfl (by decide +kernel) rfl rfl (Nat.le_of_ble_eq_true rfl) dX10_putNumber_46 (fun H locs hP hD hS => ?_)
  have hP : va_P (dC, dI) vwCl [(h0, .inr (9, [.ref tp, .int 11, .ref tok, .ref sp, .ref rdr, .int 0, .int (-1), .ref scn, .ref fct, .ref rnr, .ref trl, .ref mnd, .ref rrw])), (tp, .inl (cB, 1200, .inl f_159))] H := hP
  have hD : va_D A [(h0, .inr (9, [.ref tp, .int 11, .ref tok, .ref sp, .ref rdr, .int 0, .int (-1), .ref scn, .ref fct, .ref rnr, .ref trl, .ref mnd, .ref rrw])), (tp, .inl (cB, 1200, .inl f_159))] := hD
  refine lv_iinc (v := 0) (lv' := [(2, .int 0), (0, .ref h0), (1, .int n)]) hx hb dX10_putNumber_49 hl (k := 0) rfl (by decide) (by decide) rfl (fun ls hl => ?_)
  refine lv_goto (tgt := 3) hx hb dX10_putNumber_52 (by decide) ?_
  refine lv_iload_n hx hb dX10_putNumber_3 rfl (lv_at hl 0 rfl) ?_
  refine lv_if_lt (tgt := 55) hx hb dX10_putNumber_4 (by decide) (fun c9 => absurd c9 (by decide)) (fun _ => ?_)
  refine lv_aload_n hx hb dX10_putNumber_7 rfl (lv_at hl 1 rfl) ?_
  refine va_get (D := (dC, dI)) (ci := 9) (v := .int 11) (C := RX10) (T := TX10) (N := 13) hx hb hts iwwsX10_putNumber_10 hown hK hP 0 rfl rfl 1 (by decide) (hts (.fieldLink RX10 87 "NothingJudge" "taped" "I") fwwsX10_putNumber_87) (fun _ h9 => h9) rfl dX10_putNumber_8 ?_
  refine lv_if_lt (tgt := 49) hx hb dX10_putNumber_11 (by decide) (fun c9 => absurd c9 (by decide)) (fun _ => ?_)
  refine lv_aload_n hx hb dX10_putNumber_14 rfl (lv_at hl 1 rfl) ?_
  refine va_get (D := (dC, dI)) (ci := 9) (v := .int 11) (C := RX10) (T := TX10) (N := 13) hx hb hts iwwsX10_putNumber_10 hown hK hP 0 rfl rfl 1 (by decide) (hts (.fieldLink RX10 87 "NothingJudge" "taped" "I") fwwsX10_putNumber_87) (fun _ h9 => h9) rfl dX10_putNumber_15 ?_
  refine lv_aload_n hx hb dX10_putNumber_18 rfl (lv_at hl 1 rfl) ?_
  refine va_get (D := (dC, dI)) (ci := 9) (v := .ref tp) (C := RX10) (T := TX10) (N := 13) hx hb hts iwwsX10_putNumber_10 hown hK hP 0 rfl rfl 0 (by decide) (hts (.fieldLink RX10 9 "NothingJudge" "tape" "[B") fwwsX10_putNumber_9) (fun _ h9 => h9) rfl dX10_putNumber_19 ?_
  refine va_alen hx hb hK hP 1 1 rfl rfl (v := 1200) (by show Int32.ofNat 1200 = 1200; decide) dX10_putNumber_22 ?_
  refine lv_icmp_ge (tgt := 49) hx hb dX10_putNumber_23 (by decide) (fun c9 => absurd c9 (by decide)) (fun _ => ?_)
  refine lv_aload_n hx hb dX10_putNumber_26 rfl (lv_at hl 1 rfl) ?_
  refine va_get (D := (dC, dI)) (ci := 9) (v := .ref tp) (C := RX10) (T := TX10) (N := 13) hx hb hts iwwsX10_putNumber_10 hown hK hP 0 rfl rfl 0 (by decide) (hts (.fieldLink RX10 9 "NothingJudge" "tape" "[B") fwwsX10_putNumber_9) (fun _ h9 => h9) rfl dX10_putNumber_27 ?_
  refine lv_aload_n hx hb dX10_putNumber_30 rfl (lv_at hl 1 rfl) ?_
  refine va_get (D := (dC, dI)) (ci := 9) (v := .int 11) (C := RX10) (T := TX10) (N := 13) hx hb hts iwwsX10_putNumber_10 hown hK hP 0 rfl rfl 1 (by decide) (hts (.fieldLink RX10 87 "NothingJudge" "taped" "I") fwwsX10_putNumber_87) (fun _ h9 => h9) rfl dX10_putNumber_31 ?_
  refine lv_iload_n hx hb dX10_putNumber_34 rfl (lv_at hl 2 rfl) ?_
  refine lv_iload_n hx hb dX10_putNumber_35 rfl (lv_at hl 0 rfl) ?_
  refine lv_ishr hx hb dX10_putNumber_36 ?_
  refine lv_topi (fun v_161 ev_161 => ?_)
  refine lv_i2b (v := v_161.toInt8.toInt32) hx hb dX10_putNumber_37 rfl ?_
  refine lv_topi (fun v_162 ev_162 => ?_)
  refine va_bast hx hb hK hP hD hS 1 1 rfl rfl (by unfold vp_in; decide) dX10_putNumber_38 (fun H locs hP hD hS => ?_)
  obtain ⟨f_163, ef_163⟩ : ∃ z, z = upd f_159 (11 : Int32).toNatClampNeg (vp_nar .byte v_162) := ⟨_, rfl⟩
  have hP : va_P (dC, dI) vwCl [(h0, .inr (9, [.ref tp, .int 11, .ref tok, .ref sp, .ref rdr, .int 0, .int (-1), .ref scn, .ref fct, .ref rnr, .ref trl, .ref mnd, .ref rrw])), (tp, .inl (cB, 1200, .inl f_163))] H := by rw [ef_163]; exact hP
  have hD : va_D A [(h0, .inr (9, [.ref tp, .int 11, .ref tok, .ref sp, .ref rdr, .int 0, .int (-1), .ref scn, .ref fct, .ref rnr, .ref trl, .ref mnd, .ref rrw])), (tp, .inl (cB, 1200, .inl f_163))] := by rw [ef_163]; exact hD
  refine lv_aload_n hx hb dX10_putNumber_39 rfl (lv_at hl 1 rfl) ?_
  refine lv_dup hx hb dX10_putNumber_40 rfl ?_
  refine va_get (D := (dC, dI)) (ci := 9) (v := .int 11) (C := RX10) (T := TX10) (N := 13) hx hb hts iwwsX10_putNumber_10 hown hK hP 0 rfl rfl 1 (by decide) (hts (.fieldLink RX10 87 "NothingJudge" "taped" "I") fwwsX10_putNumber_87) (fun _ h9 => h9) rfl dX10_putNumber_41 ?_
  refine lv_iconst (v := 1) hx hb dX10_putNumber_44 (by decide) ?_
  refine lv_iadd hx hb dX10_putNumber_45 ?_
  refine lv_topi (fun y_164 ey_164 => ?_)
  obtain rfl : y_164 = 12 := ey_164.trans (by decide)
  refine va_put (D := (dC, dI)) (ci := 9) (v := .int 12) (ty := .int) (C := RX10) (T := TX10) (N := 13) hx hb hts iwwsX10_putNumber_10 tyX10 tyX10_ok nmX10 hown hK hP hD hS 0 rfl rfl 1 (by decide) (hts (.fieldLink RX10 87 "NothingJudge" "taped" "I") fwwsX10_putNumber_87) (fun _ h9 => h9) rfl (by decide +kernel) rfl rfl (Nat.le_of_ble_eq_true rfl) dX10_putNumber_46 (fun H locs hP hD hS => ?_)
  have hP : va_P (dC, dI) vwCl [(h0, .inr (9, [.ref tp, .int 12, .ref tok, .ref sp, .ref rdr, .int 0, .int (-1), .ref scn, .ref fct, .ref rnr, .ref trl, .ref mnd, .ref rrw])), (tp, .inl (cB, 1200, .inl f_163))] H := hP
  have hD : va_D A [(h0, .inr (9, [.ref tp, .int 12, .ref tok, .ref sp, .ref rdr, .int 0, .int (-1), .ref scn, .ref fct, .ref rnr, .ref trl, .ref mnd, .ref rrw])), (tp, .inl (cB, 1200, .inl f_163))] := hD
  refine lv_iinc (v := (-8)) (lv' := [(2, .int (-8)), (0, .ref h0), (1, .int n)]) hx hb dX10_putNumber_49 hl (k := 0) rfl (by decide) (by decide) rfl (fun ls hl => ?_)
  refine lv_goto (tgt := 3) hx hb dX10_putNumber_52 (by decide) ?_
  refine lv_iload_n hx hb dX10_putNumber_3 rfl (lv_at hl 0 rfl) ?_
  refine lv_if_lt (tgt := 55) hx hb dX10_putNumber_4 (by decide) (fun _ => ?_) (fun c9 => absurd (by decide) c9)
  have hP9 := hP.sub (ws' := [(h0, .inr (9, [.ref tp, .int 12, .ref tok, .ref sp, .ref rdr, .int 0, .int (-1), .ref scn, .ref fct, .ref rnr, .ref trl, .ref mnd, .ref rrw])), (tp, .inl (cB, 1200, .inl f_163))]) [0, 1] rfl
  have hD9 := hD.sub (ws' := [(h0, .inr (9, [.ref tp, .int 12, .ref tok, .ref sp, .ref rdr, .int 0, .int (-1), .ref scn, .ref fct, .ref rnr, .ref trl, .ref mnd, .ref rrw])), (tp, .inl (cB, 1200, .inl f_163))]) [0, 1] (by decide) rfl
  exact W.vret hx hb hr (fun t ht hW => ⟨⟨(), rfl, trivial, f_163, by rw [ht]; exact hP9, hD9⟩, hS.F ht⟩) hS.2.2 dX10_putNumber_55

set_option maxHeartbeats 4000000 in
set_option maxRecDepth 100000 in
theorem c_putNumber12 (l : Launch) (dC : Nat → ClassId) (dI : Nat → Nat → Nat) (cI cB cL cZ : ClassId) (h0 : Nat) (tp : Nat) (tok : Nat) (sp : Nat) (rdr : Nat) (scn : Nat) (fct : Nat) (rnr : Nat) (trl : Nat) (mnd : Nat) (rrw : Nat) (n : Int32) (f : Nat → Int32) (sz : Nat)  : Met l yX10_putNumber wsX10_putNumber ({ frames := 0, cells := 0, slots := 0, locals := 0 }) (cP (dC, dI) (kTy cI cB cL cZ) [.ref h0, .int n] [(h0, .inr (9, [.ref tp, .int 12, .ref tok, .ref sp, .ref rdr, .int 0, .int (-1), .ref scn, .ref fct, .ref rnr, .ref trl, .ref mnd, .ref rrw])), (tp, .inl (cB, 1200, .inl f))] sz) (va_Qv (fun _ : Unit => True) (fun (_ : Unit) (t : State) => ∃ fz0 : Nat → Int32, va_P (dC, dI) vwCl [(h0, .inr (9, [.ref tp, .int 16, .ref tok, .ref sp, .ref rdr, .int 0, .int (-1), .ref scn, .ref fct, .ref rnr, .ref trl, .ref mnd, .ref rrw])), (tp, .inl (cB, 1200, .inl fz0))] t.heap ∧ va_D (va_A [(h0, .inr (9, [.ref tp, .int 12, .ref tok, .ref sp, .ref rdr, .int 0, .int (-1), .ref scn, .ref fct, .ref rnr, .ref trl, .ref mnd, .ref rrw])), (tp, .inl (cB, 1200, .inl f))] sz) [(h0, .inr (9, [.ref tp, .int 16, .ref tok, .ref sp, .ref rdr, .int 0, .int (-1), .ref scn, .ref fct, .ref rnr, .ref trl, .ref mnd, .ref rrw])), (tp, .inl (cB, 1200, .inl fz0))]) (va_A [(h0, .inr (9, [.ref tp, .int 12, .ref tok, .ref sp, .ref rdr, .int 0, .int (-1), .ref scn, .ref fct, .ref rnr, .ref trl, .ref mnd, .ref rrw])), (tp, .inl (cB, 1200, .inl f))] sz)) 0 0 (va_A [(h0, .inr (9, [.ref tp, .int 12, .ref tok, .ref sp, .ref rdr, .int 0, .int (-1), .ref scn, .ref fct, .ref rnr, .ref trl, .ref mnd, .ref rrw])), (tp, .inl (cB, 1200, .inl f))] sz) := by
  refine Met.ofW (cc := cX10_putNumber) (maxL := 3) (ret := none) (by decide) rfl ?_
  intro p e s m args below meth c s₁ B hml hv
  obtain ⟨rfl, hsz, hP, hK, hD0, hN⟩ := hv
  have hx := B.exec
  have hb := B.bytes
  have hr := B.returns
  have hts := atoms_spec (ws := wsX10_putNumber) B.pre
  have hown : s.vm.findClass RX10 = some m.cls := findClass_of_methodNamed B.named
  have hlocks := B.notSynchronized
  subst hsz
  have hD := hD0.self (sz := s.heap.size)
  generalize hAe : va_A [(h0, .inr (9, [.ref tp, .int 12, .ref tok, .ref sp, .ref rdr, .int 0, .int (-1), .ref scn, .ref fct, .ref rnr, .ref trl, .ref mnd, .ref rrw])), (tp, .inl (cB, 1200, .inl f))] s.heap.size = A at hD ⊢
  have hA : ∀ q : Nat, s.heap.size ≤ q → A q := fun q h => by rw [← hAe]; exact Or.inr h
  have hl := lv_entry ([.ref h0, .int n]) (n := 3) (Nat.le_of_ble_eq_true rfl)
  rw [lg_entry_eq]
  generalize (lg_sl ([.ref h0, .int n]) ++ List.replicate (3 - (lg_sl ([.ref h0, .int n])).length) Slot.unset).toArray = ls at hl ⊢
  have hl : lv_has ls 3 [(0, .ref h0), (1, .int n)] := hl
  refine k_H (A := A) hP (fun H hP hS => ?_)
  have hP : va_P (dC, dI) vwCl [(h0, .inr (9, [.ref tp, .int 12, .ref tok, .ref sp, .ref rdr, .int 0, .int (-1), .ref scn, .ref fct, .ref rnr, .ref trl, .ref mnd, .ref rrw])), (tp, .inl (cB, 1200, .inl f))] H := hP
  have hD : va_D A [(h0, .inr (9, [.ref tp, .int 12, .ref tok, .ref sp, .ref rdr, .int 0, .int (-1), .ref scn, .ref fct, .ref rnr, .ref trl, .ref mnd, .ref rrw])), (tp, .inl (cB, 1200, .inl f))] := hD
  refine lv_bipush (v := 24) hx hb dX10_putNumber_0 (by decide) ?_
  refine lv_istore_n (lv' := [(2, .int 24), (0, .ref h0), (1, .int n)]) hx hb dX10_putNumber_2 rfl hl (by decide) rfl (fun ls hl => ?_)
  refine lv_iload_n hx hb dX10_putNumber_3 rfl (lv_at hl 0 rfl) ?_
  refine lv_if_lt (tgt := 55) hx hb dX10_putNumber_4 (by decide) (fun c9 => absurd c9 (by decide)) (fun _ => ?_)
  refine lv_aload_n hx hb dX10_putNumber_7 rfl (lv_at hl 1 rfl) ?_
  refine va_get (D := (dC, dI)) (ci := 9) (v := .int 12) (C := RX10) (T := TX10) (N := 13) hx hb hts iwwsX10_putNumber_10 hown hK hP 0 rfl rfl 1 (by decide) (hts (.fieldLink RX10 87 "NothingJudge" "taped" "I") fwwsX10_putNumber_87) (fun _ h9 => h9) rfl dX10_putNumber_8 ?_
  refine lv_if_lt (tgt := 49) hx hb dX10_putNumber_11 (by decide) (fun c9 => absurd c9 (by decide)) (fun _ => ?_)
  refine lv_aload_n hx hb dX10_putNumber_14 rfl (lv_at hl 1 rfl) ?_
  refine va_get (D := (dC, dI)) (ci := 9) (v := .int 12) (C := RX10) (T := TX10) (N := 13) hx hb hts iwwsX10_putNumber_10 hown hK hP 0 rfl rfl 1 (by decide) (hts (.fieldLink RX10 87 "NothingJudge" "taped" "I") fwwsX10_putNumber_87) (fun _ h9 => h9) rfl dX10_putNumber_15 ?_
  refine lv_aload_n hx hb dX10_putNumber_18 rfl (lv_at hl 1 rfl) ?_
  refine va_get (D := (dC, dI)) (ci := 9) (v := .ref tp) (C := RX10) (T := TX10) (N := 13) hx hb hts iwwsX10_putNumber_10 hown hK hP 0 rfl rfl 0 (by decide) (hts (.fieldLink RX10 9 "NothingJudge" "tape" "[B") fwwsX10_putNumber_9) (fun _ h9 => h9) rfl dX10_putNumber_19 ?_
  refine va_alen hx hb hK hP 1 1 rfl rfl (v := 1200) (by show Int32.ofNat 1200 = 1200; decide) dX10_putNumber_22 ?_
  refine lv_icmp_ge (tgt := 49) hx hb dX10_putNumber_23 (by decide) (fun c9 => absurd c9 (by decide)) (fun _ => ?_)
  refine lv_aload_n hx hb dX10_putNumber_26 rfl (lv_at hl 1 rfl) ?_
  refine va_get (D := (dC, dI)) (ci := 9) (v := .ref tp) (C := RX10) (T := TX10) (N := 13) hx hb hts iwwsX10_putNumber_10 hown hK hP 0 rfl rfl 0 (by decide) (hts (.fieldLink RX10 9 "NothingJudge" "tape" "[B") fwwsX10_putNumber_9) (fun _ h9 => h9) rfl dX10_putNumber_27 ?_
  refine lv_aload_n hx hb dX10_putNumber_30 rfl (lv_at hl 1 rfl) ?_
  refine va_get (D := (dC, dI)) (ci := 9) (v := .int 12) (C := RX10) (T := TX10) (N := 13) hx hb hts iwwsX10_putNumber_10 hown hK hP 0 rfl rfl 1 (by decide) (hts (.fieldLink RX10 87 "NothingJudge" "taped" "I") fwwsX10_putNumber_87) (fun _ h9 => h9) rfl dX10_putNumber_31 ?_
  refine lv_iload_n hx hb dX10_putNumber_34 rfl (lv_at hl 2 rfl) ?_
  refine lv_iload_n hx hb dX10_putNumber_35 rfl (lv_at hl 0 rfl) ?_
  refine lv_ishr hx hb dX10_putNumber_36 ?_
  refine lv_topi (fun v_165 ev_165 => ?_)
  refine lv_i2b (v := v_165.toInt8.toInt32) hx hb dX10_putNumber_37 rfl ?_
  refine lv_topi (fun v_166 ev_166 => ?_)
  refine va_bast hx hb hK hP hD hS 1 1 rfl rfl (by unfold vp_in; decide) dX10_putNumber_38 (fun H locs hP hD hS => ?_)
  obtain ⟨f_167, ef_167⟩ : ∃ z, z = upd f (12 : Int32).toNatClampNeg (vp_nar .byte v_166) := ⟨_, rfl⟩
  have hP : va_P (dC, dI) vwCl [(h0, .inr (9, [.ref tp, .int 12, .ref tok, .ref sp, .ref rdr, .int 0, .int (-1), .ref scn, .ref fct, .ref rnr, .ref trl, .ref mnd, .ref rrw])), (tp, .inl (cB, 1200, .inl f_167))] H := by rw [ef_167]; exact hP
  have hD : va_D A [(h0, .inr (9, [.ref tp, .int 12, .ref tok, .ref sp, .ref rdr, .int 0, .int (-1), .ref scn, .ref fct, .ref rnr, .ref trl, .ref mnd, .ref rrw])), (tp, .inl (cB, 1200, .inl f_167))] := by rw [ef_167]; exact hD
  refine lv_aload_n hx hb dX10_putNumber_39 rfl (lv_at hl 1 rfl) ?_
  refine lv_dup hx hb dX10_putNumber_40 rfl ?_
  refine va_get (D := (dC, dI)) (ci := 9) (v := .int 12) (C := RX10) (T := TX10) (N := 13) hx hb hts iwwsX10_putNumber_10 hown hK hP 0 rfl rfl 1 (by decide) (hts (.fieldLink RX10 87 "NothingJudge" "taped" "I") fwwsX10_putNumber_87) (fun _ h9 => h9) rfl dX10_putNumber_41 ?_
  refine lv_iconst (v := 1) hx hb dX10_putNumber_44 (by decide) ?_
  refine lv_iadd hx hb dX10_putNumber_45 ?_
  refine lv_topi (fun y_168 ey_168 => ?_)
  obtain rfl : y_168 = 13 := ey_168.trans (by decide)
  refine va_put (D := (dC, dI)) (ci := 9) (v := .int 13) (ty := .int) (C := RX10) (T := TX10) (N := 13) hx hb hts iwwsX10_putNumber_10 tyX10 tyX10_ok nmX10 hown hK hP hD hS 0 rfl rfl 1 (by decide) (hts (.fieldLink RX10 87 "NothingJudge" "taped" "I") fwwsX10_putNumber_87) (fun _ h9 => h9) rfl (by decide +kernel) rfl rfl (Nat.le_of_ble_eq_true rfl) dX10_putNumber_46 (fun H locs hP hD hS => ?_)
  have hP : va_P (dC, dI) vwCl [(h0, .inr (9, [.ref tp, .int 13, .ref tok, .ref sp, .ref rdr, .int 0, .int (-1), .ref scn, .ref fct, .ref rnr, .ref trl, .ref mnd, .ref rrw])), (tp, .inl (cB, 1200, .inl f_167))] H := hP
  have hD : va_D A [(h0, .inr (9, [.ref tp, .int 13, .ref tok, .ref sp, .ref rdr, .int 0, .int (-1), .ref scn, .ref fct, .ref rnr, .ref trl, .ref mnd, .ref rrw])), (tp, .inl (cB, 1200, .inl f_167))] := hD
  refine lv_iinc (v := 16) (lv' := [(2, .int 16), (0, .ref h0), (1, .int n)]) hx hb dX10_putNumber_49 hl (k := 0) rfl (by decide) (by decide) rfl (fun ls hl => ?_)
  refine lv_goto (tgt := 3) hx hb dX10_putNumber_52 (by decide) ?_
  refine lv_iload_n hx hb dX10_putNumber_3 rfl (lv_at hl 0 rfl) ?_
  refine lv_if_lt (tgt := 55) hx hb dX10_putNumber_4 (by decide) (fun c9 => absurd c9 (by decide)) (fun _ => ?_)
  refine lv_aload_n hx hb dX10_putNumber_7 rfl (lv_at hl 1 rfl) ?_
  refine va_get (D := (dC, dI)) (ci := 9) (v := .int 13) (C := RX10) (T := TX10) (N := 13) hx hb hts iwwsX10_putNumber_10 hown hK hP 0 rfl rfl 1 (by decide) (hts (.fieldLink RX10 87 "NothingJudge" "taped" "I") fwwsX10_putNumber_87) (fun _ h9 => h9) rfl dX10_putNumber_8 ?_
  refine lv_if_lt (tgt := 49) hx hb dX10_putNumber_11 (by decide) (fun c9 => absurd c9 (by decide)) (fun _ => ?_)
  refine lv_aload_n hx hb dX10_putNumber_14 rfl (lv_at hl 1 rfl) ?_
  refine va_get (D := (dC, dI)) (ci := 9) (v := .int 13) (C := RX10) (T := TX10) (N := 13) hx hb hts iwwsX10_putNumber_10 hown hK hP 0 rfl rfl 1 (by decide) (hts (.fieldLink RX10 87 "NothingJudge" "taped" "I") fwwsX10_putNumber_87) (fun _ h9 => h9) rfl dX10_putNumber_15 ?_
  refine lv_aload_n hx hb dX10_putNumber_18 rfl (lv_at hl 1 rfl) ?_
  refine va_get (D := (dC, dI)) (ci := 9) (v := .ref tp) (C := RX10) (T := TX10) (N := 13) hx hb hts iwwsX10_putNumber_10 hown hK hP 0 rfl rfl 0 (by decide) (hts (.fieldLink RX10 9 "NothingJudge" "tape" "[B") fwwsX10_putNumber_9) (fun _ h9 => h9) rfl dX10_putNumber_19 ?_
  refine va_alen hx hb hK hP 1 1 rfl rfl (v := 1200) (by show Int32.ofNat 1200 = 1200; decide) dX10_putNumber_22 ?_
  refine lv_icmp_ge (tgt := 49) hx hb dX10_putNumber_23 (by decide) (fun c9 => absurd c9 (by decide)) (fun _ => ?_)
  refine lv_aload_n hx hb dX10_putNumber_26 rfl (lv_at hl 1 rfl) ?_
  refine va_get (D := (dC, dI)) (ci := 9) (v := .ref tp) (C := RX10) (T := TX10) (N := 13) hx hb hts iwwsX10_putNumber_10 hown hK hP 0 rfl rfl 0 (by decide) (hts (.fieldLink RX10 9 "NothingJudge" "tape" "[B") fwwsX10_putNumber_9) (fun _ h9 => h9) rfl dX10_putNumber_27 ?_
  refine lv_aload_n hx hb dX10_putNumber_30 rfl (lv_at hl 1 rfl) ?_
  refine va_get (D := (dC, dI)) (ci := 9) (v := .int 13) (C := RX10) (T := TX10) (N := 13) hx hb hts iwwsX10_putNumber_10 hown hK hP 0 rfl rfl 1 (by decide) (hts (.fieldLink RX10 87 "NothingJudge" "taped" "I") fwwsX10_putNumber_87) (fun _ h9 => h9) rfl dX10_putNumber_31 ?_
  refine lv_iload_n hx hb dX10_putNumber_34 rfl (lv_at hl 2 rfl) ?_
  refine lv_iload_n hx hb dX10_putNumber_35 rfl (lv_at hl 0 rfl) ?_
  refine lv_ishr hx hb dX10_putNumber_36 ?_
  refine lv_topi (fun v_169 ev_169 => ?_)
  refine lv_i2b (v := v_169.toInt8.toInt32) hx hb dX10_putNumber_37 rfl ?_
  refine lv_topi (fun v_170 ev_170 => ?_)
  refine va_bast hx hb hK hP hD hS 1 1 rfl rfl (by unfold vp_in; decide) dX10_putNumber_38 (fun H locs hP hD hS => ?_)
  obtain ⟨f_171, ef_171⟩ : ∃ z, z = upd f_167 (13 : Int32).toNatClampNeg (vp_nar .byte v_170) := ⟨_, rfl⟩
  have hP : va_P (dC, dI) vwCl [(h0, .inr (9, [.ref tp, .int 13, .ref tok, .ref sp, .ref rdr, .int 0, .int (-1), .ref scn, .ref fct, .ref rnr, .ref trl, .ref mnd, .ref rrw])), (tp, .inl (cB, 1200, .inl f_171))] H := by rw [ef_171]; exact hP
  have hD : va_D A [(h0, .inr (9, [.ref tp, .int 13, .ref tok, .ref sp, .ref rdr, .int 0, .int (-1), .ref scn, .ref fct, .ref rnr, .ref trl, .ref mnd, .ref rrw])), (tp, .inl (cB, 1200, .inl f_171))] := by rw [ef_171]; exact hD
  refine lv_aload_n hx hb dX10_putNumber_39 rfl (lv_at hl 1 rfl) ?_
  refine lv_dup hx hb dX10_putNumber_40 rfl ?_
  refine va_get (D := (dC, dI)) (ci := 9) (v := .int 13) (C := RX10) (T := TX10) (N := 13) hx hb hts iwwsX10_putNumber_10 hown hK hP 0 rfl rfl 1 (by decide) (hts (.fieldLink RX10 87 "NothingJudge" "taped" "I") fwwsX10_putNumber_87) (fun _ h9 => h9) rfl dX10_putNumber_41 ?_
  refine lv_iconst (v := 1) hx hb dX10_putNumber_44 (by decide) ?_
  refine lv_iadd hx hb dX10_putNumber_45 ?_
  refine lv_topi (fun y_172 ey_172 => ?_)
  obtain rfl : y_172 = 14 := ey_172.trans (by decide)
  refine va_put (D := (dC, dI)) (ci := 9) (v := .int 14) (ty := .int) (C := RX10) (T := TX10) (N := 13) hx hb hts iwwsX10_putNumber_10 tyX10 tyX10_ok nmX10 hown hK hP hD hS 0 rfl rfl 1 (by decide) (hts (.fieldLink RX10 87 "NothingJudge" "taped" "I") fwwsX10_putNumber_87) (fun _ h9 => h9) rfl (by decide +kernel) rfl rfl (Nat.le_of_ble_eq_true rfl) dX10_putNumber_46 (fun H locs hP hD hS => ?_)
  have hP : va_P (dC, dI) vwCl [(h0, .inr (9, [.ref tp, .int 14, .ref tok, .ref sp, .ref rdr, .int 0, .int (-1), .ref scn, .ref fct, .ref rnr, .ref trl, .ref mnd, .ref rrw])), (tp, .inl (cB, 1200, .inl f_171))] H := hP
  have hD : va_D A [(h0, .inr (9, [.ref tp, .int 14, .ref tok, .ref sp, .ref rdr, .int 0, .int (-1), .ref scn, .ref fct, .ref rnr, .ref trl, .ref mnd, .ref rrw])), (tp, .inl (cB, 1200, .inl f_171))] := hD
  refine lv_iinc (v := 8) (lv' := [(2, .int 8), (0, .ref h0), (1, .int n)]) hx hb dX10_putNumber_49 hl (k := 0) rfl (by decide) (by decide) rfl (fun ls hl => ?_)
  refine lv_goto (tgt := 3) hx hb dX10_putNumber_52 (by decide) ?_
  refine lv_iload_n hx hb dX10_putNumber_3 rfl (lv_at hl 0 rfl) ?_
  refine lv_if_lt (tgt := 55) hx hb dX10_putNumber_4 (by decide) (fun c9 => absurd c9 (by decide)) (fun _ => ?_)
  refine lv_aload_n hx hb dX10_putNumber_7 rfl (lv_at hl 1 rfl) ?_
  refine va_get (D := (dC, dI)) (ci := 9) (v := .int 14) (C := RX10) (T := TX10) (N := 13) hx hb hts iwwsX10_putNumber_10 hown hK hP 0 rfl rfl 1 (by decide) (hts (.fieldLink RX10 87 "NothingJudge" "taped" "I") fwwsX10_putNumber_87) (fun _ h9 => h9) rfl dX10_putNumber_8 ?_
  refine lv_if_lt (tgt := 49) hx hb dX10_putNumber_11 (by decide) (fun c9 => absurd c9 (by decide)) (fun _ => ?_)
  refine lv_aload_n hx hb dX10_putNumber_14 rfl (lv_at hl 1 rfl) ?_
  refine va_get (D := (dC, dI)) (ci := 9) (v := .int 14) (C := RX10) (T := TX10) (N := 13) hx hb hts iwwsX10_putNumber_10 hown hK hP 0 rfl rfl 1 (by decide) (hts (.fieldLink RX10 87 "NothingJudge" "taped" "I") fwwsX10_putNumber_87) (fun _ h9 => h9) rfl dX10_putNumber_15 ?_
  refine lv_aload_n hx hb dX10_putNumber_18 rfl (lv_at hl 1 rfl) ?_
  refine va_get (D := (dC, dI)) (ci := 9) (v := .ref tp) (C := RX10) (T := TX10) (N := 13) hx hb hts iwwsX10_putNumber_10 hown hK hP 0 rfl rfl 0 (by decide) (hts (.fieldLink RX10 9 "NothingJudge" "tape" "[B") fwwsX10_putNumber_9) (fun _ h9 => h9) rfl dX10_putNumber_19 ?_
  refine va_alen hx hb hK hP 1 1 rfl rfl (v := 1200) (by show Int32.ofNat 1200 = 1200; decide) dX10_putNumber_22 ?_
  refine lv_icmp_ge (tgt := 49) hx hb dX10_putNumber_23 (by decide) (fun c9 => absurd c9 (by decide)) (fun _ => ?_)
  refine lv_aload_n hx hb dX10_putNumber_26 rfl (lv_at hl 1 rfl) ?_
  refine va_get (D := (dC, dI)) (ci := 9) (v := .ref tp) (C := RX10) (T := TX10) (N := 13) hx hb hts iwwsX10_putNumber_10 hown hK hP 0 rfl rfl 0 (by decide) (hts (.fieldLink RX10 9 "NothingJudge" "tape" "[B") fwwsX10_putNumber_9) (fun _ h9 => h9) rfl dX10_putNumber_27 ?_
  refine lv_aload_n hx hb dX10_putNumber_30 rfl (lv_at hl 1 rfl) ?_
  refine va_get (D := (dC, dI)) (ci := 9) (v := .int 14) (C := RX10) (T := TX10) (N := 13) hx hb hts iwwsX10_putNumber_10 hown hK hP 0 rfl rfl 1 (by decide) (hts (.fieldLink RX10 87 "NothingJudge" "taped" "I") fwwsX10_putNumber_87) (fun _ h9 => h9) rfl dX10_putNumber_31 ?_
  refine lv_iload_n hx hb dX10_putNumber_34 rfl (lv_at hl 2 rfl) ?_
  refine lv_iload_n hx hb dX10_putNumber_35 rfl (lv_at hl 0 rfl) ?_
  refine lv_ishr hx hb dX10_putNumber_36 ?_
  refine lv_topi (fun v_173 ev_173 => ?_)
  refine lv_i2b (v := v_173.toInt8.toInt32) hx hb dX10_putNumber_37 rfl ?_
  refine lv_topi (fun v_174 ev_174 => ?_)
  refine va_bast hx hb hK hP hD hS 1 1 rfl rfl (by unfold vp_in; decide) dX10_putNumber_38 (fun H locs hP hD hS => ?_)
  obtain ⟨f_175, ef_175⟩ : ∃ z, z = upd f_171 (14 : Int32).toNatClampNeg (vp_nar .byte v_174) := ⟨_, rfl⟩
  have hP : va_P (dC, dI) vwCl [(h0, .inr (9, [.ref tp, .int 14, .ref tok, .ref sp, .ref rdr, .int 0, .int (-1), .ref scn, .ref fct, .ref rnr, .ref trl, .ref mnd, .ref rrw])), (tp, .inl (cB, 1200, .inl f_175))] H := by rw [ef_175]; exact hP
  have hD : va_D A [(h0, .inr (9, [.ref tp, .int 14, .ref tok, .ref sp, .ref rdr, .int 0, .int (-1), .ref scn, .ref fct, .ref rnr, .ref trl, .ref mnd, .ref rrw])), (tp, .inl (cB, 1200, .inl f_175))] := by rw [ef_175]; exact hD
  refine lv_aload_n hx hb dX10_putNumber_39 rfl (lv_at hl 1 rfl) ?_
  refine lv_dup hx hb dX10_putNumber_40 rfl ?_
  refine va_get (D := (dC, dI)) (ci := 9) (v := .int 14) (C := RX10) (T := TX10) (N := 13) hx hb hts iwwsX10_putNumber_10 hown hK hP 0 rfl rfl 1 (by decide) (hts (.fieldLink RX10 87 "NothingJudge" "taped" "I") fwwsX10_putNumber_87) (fun _ h9 => h9) rfl dX10_putNumber_41 ?_
  refine lv_iconst (v := 1) hx hb dX10_putNumber_44 (by decide) ?_
  refine lv_iadd hx hb dX10_putNumber_45 ?_
  refine lv_topi (fun y_176 ey_176 => ?_)
  obtain rfl : y_176 = 15 := ey_176.trans (by decide)
  refine va_put (D := (dC, dI)) (ci := 9) (v := .int 15) (ty := .int) (C := RX10) (T := TX10) (N := 13) hx hb hts iwwsX10_putNumber_10 tyX10 tyX10_ok nmX10 hown hK hP hD hS 0 rfl rfl 1 (by decide) (hts (.fieldLink RX10 87 "NothingJudge" "taped" "I") fwwsX10_putNumber_87) (fun _ h9 => h9) rfl (by decide +kernel) rfl rfl (Nat.le_of_ble_eq_true rfl) dX10_putNumber_46 (fun H locs hP hD hS => ?_)
  have hP : va_P (dC, dI) vwCl [(h0, .inr (9, [.ref tp, .int 15, .ref tok, .ref sp, .ref rdr, .int 0, .int (-1), .ref scn, .ref fct, .ref rnr, .ref trl, .ref mnd, .ref rrw])), (tp, .inl (cB, 1200, .inl f_175))] H := hP
  have hD : va_D A [(h0, .inr (9, [.ref tp, .int 15, .ref tok, .ref sp, .ref rdr, .int 0, .int (-1), .ref scn, .ref fct, .ref rnr, .ref trl, .ref mnd, .ref rrw])), (tp, .inl (cB, 1200, .inl f_175))] := hD
  refine lv_iinc (v := 0) (lv' := [(2, .int 0), (0, .ref h0), (1, .int n)]) hx hb dX10_putNumber_49 hl (k := 0) rfl (by decide) (by decide) rfl (fun ls hl => ?_)
  refine lv_goto (tgt := 3) hx hb dX10_putNumber_52 (by decide) ?_
  refine lv_iload_n hx hb dX10_putNumber_3 rfl (lv_at hl 0 rfl) ?_
  refine lv_if_lt (tgt := 55) hx hb dX10_putNumber_4 (by decide) (fun c9 => absurd c9 (by decide)) (fun _ => ?_)
  refine lv_aload_n hx hb dX10_putNumber_7 rfl (lv_at hl 1 rfl) ?_
  refine va_get (D := (dC, dI)) (ci := 9) (v := .int 15) (C := RX10) (T := TX10) (N := 13) hx hb hts iwwsX10_putNumber_10 hown hK hP 0 rfl rfl 1 (by decide) (hts (.fieldLink RX10 87 "NothingJudge" "taped" "I") fwwsX10_putNumber_87) (fun _ h9 => h9) rfl dX10_putNumber_8 ?_
  refine lv_if_lt (tgt := 49) hx hb dX10_putNumber_11 (by decide) (fun c9 => absurd c9 (by decide)) (fun _ => ?_)
  refine lv_aload_n hx hb dX10_putNumber_14 rfl (lv_at hl 1 rfl) ?_
  refine va_get (D := (dC, dI)) (ci := 9) (v := .int 15) (C := RX10) (T := TX10) (N := 13) hx hb hts iwwsX10_putNumber_10 hown hK hP 0 rfl rfl 1 (by decide) (hts (.fieldLink RX10 87 "NothingJudge" "taped" "I") fwwsX10_putNumber_87) (fun _ h9 => h9) rfl dX10_putNumber_15 ?_
  refine lv_aload_n hx hb dX10_putNumber_18 rfl (lv_at hl 1 rfl) ?_
  refine va_get (D := (dC, dI)) (ci := 9) (v := .ref tp) (C := RX10) (T := TX10) (N := 13) hx hb hts iwwsX10_putNumber_10 hown hK hP 0 rfl rfl 0 (by decide) (hts (.fieldLink RX10 9 "NothingJudge" "tape" "[B") fwwsX10_putNumber_9) (fun _ h9 => h9) rfl dX10_putNumber_19 ?_
  refine va_alen hx hb hK hP 1 1 rfl rfl (v := 1200) (by show Int32.ofNat 1200 = 1200; decide) dX10_putNumber_22 ?_
  refine lv_icmp_ge (tgt := 49) hx hb dX10_putNumber_23 (by decide) (fun c9 => absurd c9 (by decide)) (fun _ => ?_)
  refine lv_aload_n hx hb dX10_putNumber_26 rfl (lv_at hl 1 rfl) ?_
  refine va_get (D := (dC, dI)) (ci := 9) (v := .ref tp) (C := RX10) (T := TX10) (N := 13) hx hb hts iwwsX10_putNumber_10 hown hK hP 0 rfl rfl 0 (by decide) (hts (.fieldLink RX10 9 "NothingJudge" "tape" "[B") fwwsX10_putNumber_9) (fun _ h9 => h9) rfl dX10_putNumber_27 ?_
  refine lv_aload_n hx hb dX10_putNumber_30 rfl (lv_at hl 1 rfl) ?_
  refine va_get (D := (dC, dI)) (ci := 9) (v := .int 15) (C := RX10) (T := TX10) (N := 13) hx hb hts iwwsX10_putNumber_10 hown hK hP 0 rfl rfl 1 (by decide) (hts (.fieldLink RX10 87 "NothingJudge" "taped" "I") fwwsX10_putNumber_87) (fun _ h9 => h9) rfl dX10_putNumber_31 ?_
  refine lv_iload_n hx hb dX10_putNumber_34 rfl (lv_at hl 2 rfl) ?_
  refine lv_iload_n hx hb dX10_putNumber_35 rfl (lv_at hl 0 rfl) ?_
  refine lv_ishr hx hb dX10_putNumber_36 ?_
  refine lv_topi (fun v_177 ev_177 => ?_)
  refine lv_i2b (v := v_177.toInt8.toInt32) hx hb dX10_putNumber_37 rfl ?_
  refine lv_topi (fun v_178 ev_178 => ?_)
  refine va_bast hx hb hK hP hD hS 1 1 rfl rfl (by unfold vp_in; decide) dX10_putNumber_38 (fun H locs hP hD hS => ?_)
  obtain ⟨f_179, ef_179⟩ : ∃ z, z = upd f_175 (15 : Int32).toNatClampNeg (vp_nar .byte v_178) := ⟨_, rfl⟩
  have hP : va_P (dC, dI) vwCl [(h0, .inr (9, [.ref tp, .int 15, .ref tok, .ref sp, .ref rdr, .int 0, .int (-1), .ref scn, .ref fct, .ref rnr, .ref trl, .ref mnd, .ref rrw])), (tp, .inl (cB, 1200, .inl f_179))] H := by rw [ef_179]; exact hP
  have hD : va_D A [(h0, .inr (9, [.ref tp, .int 15, .ref tok, .ref sp, .ref rdr, .int 0, .int (-1), .ref scn, .ref fct, .ref rnr, .ref trl, .ref mnd, .ref rrw])), (tp, .inl (cB, 1200, .inl f_179))] := by rw [ef_179]; exact hD
  refine lv_aload_n hx hb dX10_putNumber_39 rfl (lv_at hl 1 rfl) ?_
  refine lv_dup hx hb dX10_putNumber_40 rfl ?_
  refine va_get (D := (dC, dI)) (ci := 9) (v := .int 15) (C := RX10) (T := TX10) (N := 13) hx hb hts iwwsX10_putNumber_10 hown hK hP 0 rfl rfl 1 (by decide) (hts (.fieldLink RX10 87 "NothingJudge" "taped" "I") fwwsX10_putNumber_87) (fun _ h9 => h9) rfl dX10_putNumber_41 ?_
  refine lv_iconst (v := 1) hx hb dX10_putNumber_44 (by decide) ?_
  refine lv_iadd hx hb dX10_putNumber_45 ?_
  refine lv_topi (fun y_180 ey_180 => ?_)
  obtain rfl : y_180 = 16 := ey_180.trans (by decide)
  refine va_put (D := (dC, dI)) (ci := 9) (v := .int 16) (ty := .int) (C := RX10) (T := TX10) (N := 13) hx hb hts iwwsX10_putNumber_10 tyX10 tyX10_ok nmX10 hown hK hP hD hS 0 rfl rfl 1 (by decide) (hts (.fieldLink RX10 87 "NothingJudge" "taped" "I") fwwsX10_putNumber_87) (fun _ h9 => h9) rfl (by decide +kernel) rfl rfl (Nat.le_of_ble_eq_true rfl) dX10_putNumber_46 (fun H locs hP hD hS => ?_)
  have hP : va_P (dC, dI) vwCl [(h0, .inr (9, [.ref tp, .int 16, .ref tok, .ref sp, .ref rdr, .int 0, .int (-1), .ref scn, .ref fct, .ref rnr, .ref trl, .ref mnd, .ref rrw])), (tp, .inl (cB, 1200, .inl f_179))] H := hP
  have hD : va_D A [(h0, .inr (9, [.ref tp, .int 16, .ref tok, .ref sp, .ref rdr, .int 0, .int (-1), .ref scn, .ref fct, .ref rnr, .ref trl, .ref mnd, .ref rrw])), (tp, .inl (cB, 1200, .inl f_179))] := hD
  refine lv_iinc (v := (-8)) (lv' := [(2, .int (-8)), (0, .ref h0), (1, .int n)]) hx hb dX10_putNumber_49 hl (k := 0) rfl (by decide) (by decide) rfl (fun ls hl => ?_)
  refine lv_goto (tgt := 3) hx hb dX10_putNumber_52 (by decide) ?_
  refine lv_iload_n hx hb dX10_putNumber_3 rfl (lv_at hl 0 rfl) ?_
  refine lv_if_lt (tgt := 55) hx hb dX10_putNumber_4 (by decide) (fun _ => ?_) (fun c9 => absurd (by decide) c9)
  have hP9 := hP.sub (ws' := [(h0, .inr (9, [.ref tp, .int 16, .ref tok, .ref sp, .ref rdr, .int 0, .int (-1), .ref scn, .ref fct, .ref rnr, .ref trl, .ref mnd, .ref rrw])), (tp, .inl (cB, 1200, .inl f_179))]) [0, 1] rfl
  have hD9 := hD.sub (ws' := [(h0, .inr (9, [.ref tp, .int 16, .ref tok, .ref sp, .ref rdr, .int 0, .int (-1), .ref scn, .ref fct, .ref rnr, .ref trl, .ref mnd, .ref rrw])), (tp, .inl (cB, 1200, .inl f_179))]) [0, 1] (by decide) rfl
  exact W.vret hx hb hr (fun t ht hW => ⟨⟨(), rfl, trivial, f_179, by rw [ht]; exact hP9, hD9⟩, hS.F ht⟩) hS.2.2 dX10_putNumber_55
