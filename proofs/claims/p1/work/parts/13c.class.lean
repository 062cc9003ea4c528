set_option maxHeartbeats 4000000 in
set_option maxRecDepth 100000 in
theorem c_putNumber16 (l : Launch) (dC : Nat → ClassId) (dI : Nat → Nat → Nat) (cI cB cL cZ : ClassId) (h0 : Nat) (tp : Nat) (tok : Nat) (sp : Nat) (rdr : Nat) (scn : Nat) (fct : Nat) (rnr : Nat) (trl : Nat) (mnd : Nat) (rrw : Nat) (n : Int32) (f : Nat → Int32) (sz : Nat)  : Met l yX10_putNumber wsX10_putNumber ({ frames := 0, cells := 0, slots := 0, locals := 0 }) (cP (dC, dI) (kTy cI cB cL cZ) [.ref h0, .int n] [(h0, .inr (9, [.ref tp, .int 16, .ref tok, .ref sp, .ref rdr, .int 0, .int (-1), .ref scn, .ref fct, .ref rnr, .ref trl, .ref mnd, .ref rrw])), (tp, .inl (cB, 1200, .inl f))] sz) (va_Qv (fun _ : Unit => True) (fun (_ : Unit) (t : State) => ∃ fz0 : Nat → Int32, va_P (dC, dI) vwCl [(h0, .inr (9, [.ref tp, .int 20, .ref tok, .ref sp, .ref rdr, .int 0, .int (-1), .ref scn, .ref fct, .ref rnr, .ref trl, .ref mnd, .ref rrw])), (tp, .inl (cB, 1200, .inl fz0))] t.heap ∧ va_D (va_A [(h0, .inr (9, [.ref tp, .int 16, .ref tok, .ref sp, .ref rdr, .int 0, .int (-1), .ref scn, .ref fct, .ref rnr, .ref trl, .ref mnd, .ref rrw])), (tp, .inl (cB, 1200, .inl f))] sz) [(h0, .inr (9, [.ref tp, .int 20, .ref tok, .ref sp, .ref rdr, .int 0, .int (-1), .ref scn, .ref fct, .ref rnr, .ref trl, .ref mnd, .ref rrw])), (tp, .inl (cB, 1200, .inl fz0))]) (va_A [(h0, .inr (9, [.ref tp, .int 16, .ref tok, .ref sp, .ref rdr, .int 0, .int (-1), .ref scn, .ref fct, .ref rnr, .ref trl, .ref mnd, .ref rrw])), (tp, .inl (cB, 1200, .inl f))] sz)) 0 0 (va_A [(h0, .inr (9, [.ref tp, .int 16, .ref tok, .ref sp, .ref rdr, .int 0, .int (-1), .ref scn, .ref fct, .ref rnr, .ref trl, .ref mnd, .ref rrw])), (tp, .inl (cB, 1200, .inl f))] sz) := by
  refine Met.ofW (cc := cX10_putNumber) (maxL := 3) (ret := none) (by decide) rfl ?_
  intro p e s m args below meth c s₁ B hml hv
  obtain ⟨rfl, hsz, hP, hK, hD0, hN⟩ := hv
  have hx := B.exec
  have hb := B.bytes
  have hr := B.returns
  have hts := atoms_spec (ws := wsX10_putNumber) B.pre
  have hown : s.vm.findClass RX10 = some m.cls := findClass_of_methodNamed B.named
  have hlocks := B.notSynchronized
  subst hsz
  have hD := hD0.self (sz := s.heap.size)
  generalize hAe : va_A [(h0, .inr (9, [.ref tp, .int 16, .ref tok, .ref sp, .ref rdr, .int 0, .int (-1), .ref scn, .ref fct, .ref rnr, .ref trl, .ref mnd, .ref rrw])), (tp, .inl (cB, 1200, .inl f))] s.heap.size = A at hD ⊢
  have hA : ∀ q : Nat, s.heap.size ≤ q → A q := fun q h => by rw [← hAe]; exact Or.inr h
  have hl := lv_entry ([.ref h0, .int n]) (n := 3) (Nat.le_of_ble_eq_true rfl)
  rw [lg_entry_eq]
  generalize (lg_sl ([.ref h0, .int n]) ++ List.replicate (3 - (lg_sl ([.ref h0, .int n])).length) Slot.unset).toArray = ls at hl ⊢
  have hl : lv_has ls 3 [(0, .ref h0), (1, .int n)] := hl
  refine k_H (A := A) hP (fun H hP hS => ?_)
  have hP : va_P (dC, dI) vwCl [(h0, .inr (9, [.ref tp, .int 16, .ref tok, .ref sp, .ref rdr, .int 0, .int (-1), .ref scn, .ref fct, .ref rnr, .ref trl, .ref mnd, .ref rrw])), (tp, .inl (cB, 1200, .inl f))] H := hP
  have hD : va_D A [(h0, .inr (9, [.ref tp, .int 16, .ref tok, .ref sp, .ref rdr, .int 0, .int (-1), .ref scn, .ref fct, .ref rnr, .ref trl, .ref mnd, .ref rrw])), (tp, .inl (cB, 1200, .inl f))] := hD
  refine lv_bipush (v := 24) hx hb dX10_putNumber_0 (by decide) ?_
  refine lv_istore_n (lv' := [(2, .int 24), (0, .ref h0), (1, .int n)]) hx hb dX10_putNumber_2 rfl hl (by decide) rfl (fun ls hl => ?_)
  refine lv_iload_n hx hb dX10_putNumber_3 rfl (lv_at hl 0 rfl) ?_
  refine lv_if_lt (tgt := 55) hx hb dX10_putNumber_4 (by decide) (fun c9 => absurd c9 (by decide)) (fun _ => ?_)
  refine lv_aload_n hx hb dX10_putNumber_7 rfl (lv_at hl 1 rfl) ?_
  refine va_get (D := (dC, dI)) (ci := 9) (v := .int 16) (C := RX10) (T := TX10) (N := 13) hx hb hts iwwsX10_putNumber_10 hown hK hP 0 rfl rfl 1 (by decide) (hts (.fieldLink RX10 87 "NothingJudge" "taped" "I") fwwsX10_putNumber_87) (fun _ h9 => h9) rfl dX10_putNumber_8 ?_
  refine lv_if_lt (tgt := 49) hx hb dX10_putNumber_11 (by decide) (fun c9 => absurd c9 (by decide)) (fun _ => ?_)
  refine lv_aload_n hx hb dX10_putNumber_14 rfl (lv_at hl 1 rfl) ?_
  refine va_get (D := (dC, dI)) (ci := 9) (v := .int 16) (C := RX10) (T := TX10) (N := 13) hx hb hts iwwsX10_putNumber_10 hown hK hP 0 rfl rfl 1 (by decide) (hts (.fieldLink RX10 87 "NothingJudge" "taped" "I") fwwsX10_putNumber_87) (fun _ h9 => h9) rfl dX10_putNumber_15 ?_
  refine lv_aload_n hx hb dX10_putNumber_18 rfl (lv_at hl 1 rfl) ?_
  refine va_get (D := (dC, dI)) (ci := 9) (v := .ref tp) (C := RX10) (T := TX10) (N := 13) hx hb hts iwwsX10_putNumber_10 hown hK hP 0 rfl rfl 0 (by decide) (hts (.fieldLink RX10 9 "NothingJudge" "tape" "[B") fwwsX10_putNumber_9) (fun _ h9 => h9) rfl dX10_putNumber_19 ?_
  refine va_alen hx hb hK hP 1 1 rfl rfl (v := 1200) (by show Int32.ofNat 1200 = 1200; decide) dX10_putNumber_22 ?_
  refine lv_icmp_ge (tgt := 49) hx hb dX10_putNumber_23 (by decide) (fun c9 => absurd c9 (by decide)) (fun _ => ?_)
  refine lv_aload_n hx hb dX10_putNumber_26 rfl (lv_at hl 1 rfl) ?_
  refine va_get (D := (dC, dI)) (ci := 9) (v := .ref tp) (C := RX10) (T := TX10) (N := 13) hx hb hts iwwsX10_putNumber_10 hown hK hP 0 rfl rfl 0 (by decide) (hts (.fieldLink RX10 9 "NothingJudge" "tape" "[B") fwwsX10_putNumber_9) (fun _ h9 => h9) rfl dX10_putNumber_27 ?_
  refine lv_aload_n hx hb dX10_putNumber_30 rfl (lv_at hl 1 rfl) ?_
  refine va_get (D := (dC, dI)) (ci := 9) (v := .int 16) (C := RX10) (T := TX10) (N := 13) hx hb hts iwwsX10_putNumber_10 hown hK hP 0 rfl rfl 1 (by decide) (hts (.fieldLink RX10 87 "NothingJudge" "taped" "I") fwwsX10_putNumber_87) (fun _ h9 => h9) rfl dX10_putNumber_31 ?_
  refine lv_iload_n hx hb dX10_putNumber_34 rfl (lv_at hl 2 rfl) ?_
  refine lv_iload_n hx hb dX10_putNumber_35 rfl (lv_at hl 0 rfl) ?_
  refine lv_ishr hx hb dX10_putNumber_36 ?_
  refine lv_topi (fun v_181 ev_181 => ?_)
  refine lv_i2b (v := v_181.toInt8.toInt32) hx hb dX10_putNumber_37 rfl ?_
  refine lv_topi (fun v_182 ev_182 => ?_)
  refine va_bast hx hb hK hP hD hS 1 1 rfl rfl (by unfold vp_in; decide) dX10_putNumber_38 (fun H locs hP hD hS => ?_)
  obtain ⟨f_183, ef_183⟩ : ∃ z, z = upd f (16 : Int32).toNatClampNeg (vp_nar .byte v_182) := ⟨_, rfl⟩
  have hP : va_P (dC, dI) vwCl [(h0, .inr (9, [.ref tp, .int 16, .ref tok, .ref sp, .ref rdr, .int 0, .int (-1), .ref scn, .ref fct, .ref rnr, .ref trl, .ref mnd, .ref rrw])), (tp, .inl (cB, 1200, .inl f_183))] H := by rw [ef_183]; exact hP
  have hD : va_D A [(h0, .inr (9, [.ref tp, .int 16, .ref tok, .ref sp, .ref rdr, .int 0, .int (-1), .ref scn, .ref fct, .ref rnr, .ref trl, .ref mnd, .ref rrw])), (tp, .inl (cB, 1200, .inl f_183))] := by rw [ef_183]; exact hD
  refine lv_aload_n hx hb dX10_putNumber_39 rfl (lv_at hl 1 rfl) ?_
  refine lv_dup hx hb dX10_putNumber_40 rfl ?_
  refine va_get (D := (dC, dI)) (ci := 9) (v := .int 16) (C := RX10) (T := TX10) (N := 13) hx hb hts iwwsX10_putNumber_10 hown hK hP 0 rfl rfl 1 (by decide) (hts (.fieldLink RX10 87 "NothingJudge" "taped" "I") fwwsX10_putNumber_87) (fun _ h9 => h9) rfl dX10_putNumber_41 ?_
  refine lv_iconst (v := 1) hx hb dX10_putNumber_44 (by decide) ?_
  refine lv_iadd hx hb dX10_putNumber_45 ?_
  refine lv_topi (fun y_184 ey_184 => ?_)
  obtain rfl : y_184 = 17 := ey_184.trans (by decide)
  refine va_put (D := (dC, dI)) (ci := 9) (v := .int 17) (ty := .int) (C := RX10) (T := TX10) (N := 13) hx hb hts iwwsX10_putNumber_10 tyX10 tyX10_ok nmX10 hown hK hP hD hS 0 rfl rfl 1 (by decide) (hts (.fieldLink RX10 87 "NothingJudge" "taped" "I") fwwsX10_putNumber_87) (fun _ h9 => h9) rfl (by decide +kernel) rfl rfl (Nat.le_of_ble_eq_true rfl) dX10_putNumber_46 (fun H locs hP hD hS => ?_)
  have hP : va_P (dC, dI) vwCl [(h0, .inr (9, [.ref tp, .int 17, .ref tok, .ref sp, .ref rdr, .int 0, .int (-1), .ref scn, .ref fct, .ref rnr, .ref trl, .ref mnd, .ref rrw])), (tp, .inl (cB, 1200, .inl f_183))] H := hP
  have hD : va_D A [(h0, .inr (9, [.ref tp, .int 17, .ref tok, .ref sp, .ref rdr, .int 0, .int (-1), .ref scn, .ref fct, .ref rnr, .ref trl, .ref mnd, .ref rrw])), (tp, .inl (cB, 1200, .inl f_183))] := hD
  refine lv_iinc (v := 16) (lv' := [(2, .int 16), (0, .ref h0), (1, .int n)]) hx hb dX10_putNumber_49 hl (k := 0) rfl (by decide) (by decide) rfl (fun ls hl => ?_)
  refine lv_goto (tgt := 3) hx hb dX10_putNumber_52 (by decide) ?_
  refine lv_iload_n hx hb dX10_putNumber_3 rfl (lv_at hl 0 rfl) ?_
  refine lv_if_lt (tgt := 55) hx hb dX10_putNumber_4 (by decide) (fun c9 => absurd c9 (by decide)) (fun _ => ?_)
  refine lv_aload_n hx hb dX10_putNumber_7 rfl (lv_at hl 1 rfl) ?_
  refine va_get (D := (dC, dI)) (ci := 9) (v := .int 17) (C := RX10) (T := TX10) (N := 13) hx hb hts iwwsX10_putNumber_10 hown hK hP 0 rfl rfl 1 (by decide) (hts (.fieldLink RX10 87 "NothingJudge" "taped" "I") fwwsX10_putNumber_87) (fun _ h9 => h9) rfl dX10_putNumber_8 ?_
  refine lv_if_lt (tgt := 49) hx hb dX10_putNumber_11 (by decide) (fun c9 => absurd c9 (by decide)) (fun _ => ?_)
  refine lv_aload_n hx hb dX10_putNumber_14 rfl (lv_at hl 1 rfl) ?_
  refine va_get (D := (dC, dI)) (ci := 9) (v := .int 17) (C := RX10) (T := TX10) (N := 13) hx hb hts iwwsX10_putNumber_10 hown hK hP 0 rfl rfl 1 (by decide) (hts (.fieldLink RX10 87 "NothingJudge" "taped" "I") fwwsX10_putNumber_87) (fun _ h9 => h9) rfl dX10_putNumber_15 ?_
  refine lv_aload_n hx hb dX10_putNumber_18 rfl (lv_at hl 1 rfl) ?_
  refine va_get (D := (dC, dI)) (ci := 9) (v := .ref tp) (C := RX10) (T := TX10) (N := 13) hx hb hts iwwsX10_putNumber_10 hown hK hP 0 rfl rfl 0 (by decide) (hts (.fieldLink RX10 9 "NothingJudge" "tape" "[B") fwwsX10_putNumber_9) (fun _ h9 => h9) rfl dX10_putNumber_19 ?_
  refine va_alen hx hb hK hP 1 1 rfl rfl (v := 1200) (by show Int32.ofNat 1200 = 1200; decide) dX10_putNumber_22 ?_
  refine lv_icmp_ge (tgt := 49) hx hb dX10_putNumber_23 (by decide) (fun c9 => absurd c9 (by decide)) (fun _ => ?_)
  refine lv_aload_n hx hb dX10_putNumber_26 rfl (lv_at hl 1 rfl) ?_
  refine va_get (D := (dC, dI)) (ci := 9) (v := .ref tp) (C := RX10) (T := TX10) (N := 13) hx hb hts iwwsX10_putNumber_10 hown hK hP 0 rfl rfl 0 (by decide) (hts (.fieldLink RX10 9 "NothingJudge" "tape" "[B") fwwsX10_putNumber_9) (fun _ h9 => h9) rfl dX10_putNumber_27 ?_
  refine lv_aload_n hx hb dX10_putNumber_30 rfl (lv_at hl 1 rfl) ?_
  refine va_get (D := (dC, dI)) (ci := 9) (v := .int 17) (C := RX10) (T := TX10) (N := 13) hx hb hts iwwsX10_putNumber_10 hown hK hP 0 rfl rfl 1 (by decide) (hts (.fieldLink RX10 87 "NothingJudge" "taped" "I") fwwsX10_putNumber_87) (fun _ h9 => h9) rfl dX10_putNumber_31 ?_
  refine lv_iload_n hx hb dX10_putNumber_34 rfl (lv_at hl 2 rfl) ?_
  refine lv_iload_n hx hb dX10_putNumber_35 rfl (lv_at hl 0 rfl) ?_
  refine lv_ishr hx hb dX10_putNumber_36 ?_
  refine lv_topi (fun v_185 ev_185 => ?_)
  refine lv_i2b (v := v_185.toInt8.toInt32) hx hb dX10_putNumber_37 rfl ?_
  refine lv_topi (fun v_186 ev_186 => ?_)
  refine va_bast hx hb hK hP hD hS 1 1 rfl rfl (by unfold vp_in; decide) dX10_putNumber_38 (fun H locs hP hD hS => ?_)
  obtain ⟨f_187, ef_187⟩ : ∃ z, z = upd f_183 (17 : Int32).toNatClampNeg (vp_nar .byte v_186) := ⟨_, rfl⟩
  have hP : va_P (dC, dI) vwCl [(h0, .inr (9, [.ref tp, .int 17, .ref tok, .ref sp, .ref rdr, .int 0, .int (-1), .ref scn, .ref fct, .ref rnr, .ref trl, .ref mnd, .ref rrw])), (tp, .inl (cB, 1200, .inl f_187))] H := by rw [ef_187]; exact hP
  have hD : va_D A [(h0, .inr (9, [.ref tp, .int 17, .ref tok, .ref sp, .ref rdr, .int 0, .int (-1), .ref scn, .ref fct, .ref rnr, .ref trl, .ref mnd, .ref rrw])), (tp, .inl (cB, 1200, .inl f_187))] := by rw [ef_187]; exact hD
  refine lv_aload_n hx hb dX10_putNumber_39 rfl (lv_at hl 1 rfl) ?_
  refine lv_dup hx hb dX10_putNumber_40 rfl ?_
  refine va_get (D := (dC, dI)) (ci := 9) (v := .int 17) (C := RX10) (T := TX10) (N := 13) hx hb hts iwwsX10_putNumber_10 hown hK hP 0 rfl rfl 1 (by decide) (hts (.fieldLink RX10 87 "NothingJudge" "taped" "I") fwwsX10_putNumber_87) (fun _ h9 => h9) rfl dX10_putNumber_41 ?_
  refine lv_iconst (v := 1) hx hb dX10_putNumber_44 (by decide) ?_
  refine lv_iadd hx hb dX10_putNumber_45 ?_
  refine lv_topi (fun y_188 ey_188 => ?_)
  obtain rfl : y_188 = 18 := ey_188.trans (by decide)
  refine va_put (D := (dC, dI)) (ci := 9) (v := .int 18) (ty := .int) (C := RX10) (T := TX10) (N := 13) hx hb hts iwwsX10_putNumber_10 tyX10 tyX10_ok nmX10 hown hK hP hD hS 0 rfl rfl 1 (by decide) (hts (.fieldLink RX10 87 "NothingJudge" "taped" "I") fwwsX10_putNumber_87) (fun _ h9 => h9) rfl (by decide +kernel) rfl rfl (Nat.le_of_ble_eq_true rfl) dX10_putNumber_46 (fun H locs hP hD hS => ?_)
  have hP : va_P (dC, dI) vwCl [(h0, .inr (9, [.ref tp, .int 18, .ref tok, .ref sp, .ref rdr, .int 0, .int (-1), .ref scn, .ref fct, .ref rnr, .ref trl, .ref mnd, .ref rrw])), (tp, .inl (cB, 1200, .inl f_187))] H := hP
  have hD : va_D A [(h0, .inr (9, [.ref tp, .int 18, .ref tok, .ref sp, .ref rdr, .int 0, .int (-1), .ref scn, .ref fct, .ref rnr, .ref trl, .ref mnd, .ref rrw])), (tp, .inl (cB, 1200, .inl f_187))] := hD
  refine lv_iinc (v := 8) (lv' := [(2, .int 8), (0, .ref h0), (1, .int n)]) hx hb dX10_putNumber_49 hl (k := 0) rfl (by decide) (by decide) rfl (fun ls hl => ?_)
  refine lv_goto (tgt := 3) hx hb dX10_putNumber_52 (by decide) ?_
  refine lv_iload_n hx hb dX10_putNumber_3 rfl (lv_at hl 0 rfl) ?_
  refine lv_if_lt (tgt := 55) hx hb dX10_putNumber_4 (by decide) (fun c9 => absurd c9 (by decide)) (fun _ => ?_)
  refine lv_aload_n hx hb dX10_putNumber_7 rfl (lv_at hl 1 rfl) ?_
  refine va_get (D := (dC, dI)) (ci := 9) (v := .int 18) (C := RX10) (T := TX10) (N := 13) hx hb hts iwwsX10_putNumber_10 hown hK hP 0 rfl rfl 1 (by decide) (hts (.fieldLink RX10 87 "NothingJudge" "taped" "I") fwwsX10_putNumber_87) (fun _ h9 => h9) rfl dX10_putNumber_8 ?_
  refine lv_if_lt (tgt := 49) hx hb dX10_putNumber_11 (by decide) (fun c9 => absurd c9 (by decide)) (fun _ => ?_)
  refine lv_aload_n hx hb dX10_putNumber_14 rfl (lv_at hl 1 rfl) ?_
  refine va_get (D := (dC, dI)) (ci := 9) (v := .int 18) (C := RX10) (T := TX10) (N := 13) hx hb hts iwwsX10_putNumber_10 hown hK hP 0 rfl rfl 1 (by decide) (hts (.fieldLink RX10 87 "NothingJudge" "taped" "I") fwwsX10_putNumber_87) (fun _ h9 => h9) rfl dX10_putNumber_15 ?_
  refine lv_aload_n hx hb dX10_putNumber_18 rfl (lv_at hl 1 rfl) ?_
  refine va_get (D := (dC, dI)) (ci := 9) (v := .ref tp) (C := RX10) (T := TX10) (N := 13) hx hb hts iwwsX10_putNumber_10 hown hK hP 0 rfl rfl 0 (by decide) (hts (.fieldLink RX10 9 "NothingJudge" "tape" "[B") fwwsX10_putNumber_9) (fun _ h9 => h9) rfl dX10_putNumber_19 ?_
  refine va_alen hx hb hK hP 1 1 rfl rfl (v := 1200) (by show Int32.ofNat 1200 = 1200; decide) dX10_putNumber_22 ?_
  refine lv_icmp_ge (tgt := 49) hx hb dX10_putNumber_23 (by decide) (fun c9 => absurd c9 (by decide)) (fun _ => ?_)
  refine lv_aload_n hx hb dX10_putNumber_26 rfl (lv_at hl 1 rfl) ?_
  refine va_get (D := (dC, dI)) (ci := 9) (v := .ref tp) (C := RX10) (T := TX10) (N := 13) hx hb hts iwwsX10_putNumber_10 hown hK hP 0 rfl rfl 0 (by decide) (hts (.fieldLink RX10 9 "NothingJudge" "tape" "[B") fwwsX10_putNumber_9) (fun _ h9 => h9) rfl dX10_putNumber_27 ?_
  refine lv_aload_n hx hb dX10_putNumber_30 rfl (lv_at hl 1 rfl) ?_
  refine va_get (D := (dC, dI)) (ci := 9) (v := .int 18) (C := RX10) (T := TX10) (N := 13) hx hb hts iwwsX10_putNumber_10 hown hK hP 0 rfl rfl 1 (by decide) (hts (.fieldLink RX10 87 "NothingJudge" "taped" "I") fwwsX10_putNumber_87) (fun _ h9 => h9) rfl dX10_putNumber_31 ?_
  refine lv_iload_n hx hb dX10_putNumber_34 rfl (lv_at hl 2 rfl) ?_
  refine lv_iload_n hx hb dX10_putNumber_35 rfl (lv_at hl 0 rfl) ?_
  refine lv_ishr hx hb dX10_putNumber_36 ?_
  refine lv_topi (fun v_189 ev_189 => ?_)
  refine lv_i2b (v := v_189.toInt8.toInt32) hx hb dX10_putNumber_37 rfl ?_
  refine lv_topi (fun v_190 ev_190 => ?_)
  refine va_bast hx hb hK hP hD hS 1 1 rfl rfl (by unfold vp_in; decide) dX10_putNumber_38 (fun H locs hP hD hS => ?_)
  obtain ⟨f_191, ef_191⟩ : ∃ z, z = upd f_187 (18 : Int32).toNatClampNeg (vp_nar .byte v_190) := ⟨_, rfl⟩
  have hP : va_P (dC, dI) vwCl [(h0, .inr (9, [.ref tp, .int 18, .ref tok, .ref sp, .ref rdr, .int 0, .int (-1), .ref scn, .ref fct, .ref rnr, .ref trl, .ref mnd, .ref rrw])), (tp, .inl (cB, 1200, .inl f_191))] H := by rw [ef_191]; exact hP
  have hD : va_D A [(h0, .inr (9, [.ref tp, .int 18, .ref tok, .ref sp, .ref rdr, .int 0, .int (-1), .ref scn, .ref fct, .ref rnr, .ref trl, .ref mnd, .ref rrw])), (tp, .inl (cB, 1200, .inl f_191))] := by rw [ef_191]; exact hD
  refine lv_aload_n hx hb dX10_putNumber_39 rfl (lv_at hl 1 rfl) ?_
  refine lv_dup hx hb dX10_putNumber_40 rfl ?_
  refine va_get (D := (dC, dI)) (ci := 9) (v := .int 18) (C := RX10) (T := TX10) (N := 13) hx hb hts iwwsX10_putNumber_10 hown hK hP 0 rfl rfl 1 (by decide) (hts (.fieldLink RX10 87 "NothingJudge" "taped" "I") fwwsX10_putNumber_87) (fun _ h9 => h9) rfl dX10_putNumber_41 ?_
  refine lv_iconst (v := 1) hx hb dX10_putNumber_44 (by decide) ?_
  refine lv_iadd hx hb dX10_putNumber_45 ?_
  refine lv_topi (fun y_192 ey_192 => ?_)
  obtain rfl : y_192 = 19 := ey_192.trans (by decide)
  refine va_put (D := (dC, dI)) (ci := 9) (v := .int 19) (ty := .int) (C := RX10) (T := TX10) (N := 13) hx hb hts iwwsX10_putNumber_10 tyX10 tyX10_ok nmX10 hown hK hP hD hS 0 rfl rfl 1 (by decide) (hts (.fieldLink RX10 87 "NothingJudge" "taped" "I") fwwsX10_putNumber_87) (fun _ h9 => h9) rfl (by decide +kernel) rfl rfl (Nat.le_of_ble_eq_true rfl) dX10_putNumber_46 (fun H locs hP hD hS => ?_)
  have hP : va_P (dC, dI) vwCl [(h0, .inr (9, [.ref tp, .int 19, .ref tok, .ref sp, .ref rdr, .int 0, .int (-1), .ref scn, .ref fct, .ref rnr, .ref trl, .ref mnd, .ref rrw])), (tp, .inl (cB, 1200, .inl f_191))] H := hP
  have hD : va_D A [(h0, .inr (9, [.ref tp, .int 19, .ref tok, .ref sp, .ref rdr, .int 0, .int (-1), .ref scn, .ref fct, .ref rnr, .ref trl, .ref mnd, .ref rrw])), (tp, .inl (cB, 1200, .inl f_191))] := hD
  refine lv_iinc (v := 0) (lv' := [(2, .int 0), (0, .ref h0), (1, .int n)]) hx hb dX10_putNumber_49 hl (k := 0) rfl (by decide) (by decide) rfl (fun ls hl => ?_)
  refine lv_goto (tgt := 3) hx hb dX10_putNumber_52 (by decide) ?_
  refine lv_iload_n hx hb dX10_putNumber_3 rfl (lv_at hl 0 rfl) ?_
  refine lv_if_lt (tgt := 55) hx hb dX10_putNumber_4 (by decide) (fun c9 => absurd c9 (by decide)) (fun _ => ?_)
  refine lv_aload_n hx hb dX10_putNumber_7 rfl (lv_at hl 1 rfl) ?_
  refine va_get (D := (dC, dI)) (ci := 9) (v := .int 19) (C := RX10) (T := TX10) (N := 13) hx hb hts iwwsX10_putNumber_10 hown hK hP 0 rfl rfl 1 (by decide) (hts (.fieldLink RX10 87 "NothingJudge" "taped" "I") fwwsX10_putNumber_87) (fun _ h9 => h9) rfl dX10_putNumber_8 ?_
  refine lv_if_lt (tgt := 49) hx hb dX10_putNumber_11 (by decide) (fun c9 => absurd c9 (by decide)) (fun _ => ?_)
  refine lv_aload_n hx hb dX10_putNumber_14 rfl (lv_at hl 1 rfl) ?_
  refine va_get (D := (dC, dI)) (ci := 9) (v := .int 19) (C := RX10) (T := TX10) (N := 13) hx hb hts iwwsX10_putNumber_10 hown hK hP 0 rfl rfl 1 (by decide) (hts (.fieldLink RX10 87 "NothingJudge" "taped" "I") fwwsX10_putNumber_87) (fun _ h9 => h9) rfl dX10_putNumber_15 ?_
  refine lv_aload_n hx hb dX10_putNumber_18 rfl (lv_at hl 1 rfl) ?_
  refine va_get (D := (dC, dI)) (ci := 9) (v := .ref tp) (C := RX10) (T := TX10) (N := 13) hx hb hts iwwsX10_putNumber_10 hown hK hP 0 rfl rfl 0 (by decide) (hts (.fieldLink RX10 9 "NothingJudge" "tape" "[B") fwwsX10_putNumber_9) (fun _ h9 => h9) rfl dX10_putNumber_19 ?_
  refine va_alen hx hb hK hP 1 1 rfl rfl (v := 1200) (by show Int32.ofNat 1200 = 1200; decide) dX10_putNumber_22 ?_
  refine lv_icmp_ge (tgt := 49) hx hb dX10_putNumber_23 (by decide) (fun c9 => absurd c9 (by decide)) (fun _ => ?_)
  refine lv_aload_n hx hb dX10_putNumber_26 rfl (lv_at hl 1 rfl) ?_
  refine va_get (D := (dC, dI)) (ci := 9) (v := .ref tp) (C := RX10) (T := TX10) (N := 13) hx hb hts iwwsX10_putNumber_10 hown hK hP 0 rfl rfl 0 (by decide) (hts (.fieldLink RX10 9 "NothingJudge" "tape" "[B") fwwsX10_putNumber_9) (fun _ h9 => h9) rfl dX10_putNumber_27 ?_
  refine lv_aload_n hx hb dX10_putNumber_30 rfl (lv_at hl 1 rfl) ?_
  refine va_get (D := (dC, dI)) (ci := 9) (v := .int 19) (C := RX10) (T := TX10) (N := 13) hx hb hts iwwsX10_putNumber_10 hown hK hP 0 rfl rfl 1 (by decide) (hts (.fieldLink RX10 87 "NothingJudge" "taped" "I") fwwsX10_putNumber_87) (fun _ h9 => h9) rfl dX10_putNumber_31 ?_
  refine lv_iload_n hx hb dX10_putNumber_34 rfl (lv_at hl 2 rfl) ?_
  refine lv_iload_n hx hb dX10_putNumber_35 rfl (lv_at hl 0 rfl) ?_
  refine lv_ishr hx hb dX10_putNumber_36 ?_
  refine lv_topi (fun v_193 ev_193 => ?_)
  refine lv_i2b (v := v_193.toInt8.toInt32) hx hb dX10_putNumber_37 rfl ?_
  refine lv_topi (fun v_194 ev_194 => ?_)
  refine va_bast hx hb hK hP hD hS 1 1 rfl rfl (by unfold vp_in; decide) dX10_putNumber_38 (fun H locs hP hD hS => ?_)
  obtain ⟨f_195, ef_195⟩ : ∃ z, z = upd f_191 (19 : Int32).toNatClampNeg (vp_nar .byte v_194) := ⟨_, rfl⟩
  have hP : va_P (dC, dI) vwCl [(h0, .inr (9, [.ref tp, .int 19, .ref tok, .ref sp, .ref rdr, .int 0, .int (-1), .ref scn, .ref fct, .ref rnr, .ref trl, .ref mnd, .ref rrw])), (tp, .inl (cB, 1200, .inl f_195))] H := by rw [ef_195]; exact hP
  have hD : va_D A [(h0, .inr (9, [.ref tp, .int 19, .ref tok, .ref sp, .ref rdr, .int 0, .int (-1), .ref scn, .ref fct, .ref rnr, .ref trl, .ref mnd, .ref rrw])), (tp, .inl (cB, 1200, .inl f_195))] := by rw [ef_195]; exact hD
  refine lv_aload_n hx hb dX10_putNumber_39 rfl (lv_at hl 1 rfl) ?_
  refine lv_dup hx hb dX10_putNumber_40 rfl ?_
  refine va_get (D := (dC, dI)) (ci := 9) (v := .int 19) (C := RX10) (T := TX10) (N := 13) hx hb hts iwwsX10_putNumber_10 hown hK hP 0 rfl rfl 1 (by decide) (hts (.fieldLink RX10 87 "NothingJudge" "taped" "I") fwwsX10_putNumber_87) (fun _ h9 => h9) rfl dX10_putNumber_41 ?_
  refine lv_iconst (v := 1) hx hb dX10_putNumber_44 (by decide) ?_
  refine lv_iadd hx hb dX10_putNumber_45 ?_
  refine lv_topi (fun y_196 ey_196 => ?_)
  obtain rfl : y_196 = 20 := ey_196.trans (by decide)
  refine va_put (D := (dC, dI)) (ci := 9) (v := .int 20) (ty := .int) (C := RX10) (T := TX10) (N := 13) hx hb hts iwwsX10_putNumber_10 tyX10 tyX10_ok nmX10 hown hK hP hD hS 0 rfl rfl 1 (by decide) (hts (.fieldLink RX10 87 "NothingJudge" "taped" "I") fwwsX10_putNumber_87) (fun _ h9 => h9) rfl (by decide +kernel) rfl rfl (Nat.le_of_ble_eq_true rfl) dX10_putNumber_46 (fun H locs hP hD hS => ?_)
  have hP : va_P (dC, dI) vwCl [(h0, .inr (9, [.ref tp, .int 20, .ref tok, .ref sp, .ref rdr, .int 0, .int (-1), .ref scn, .ref fct, .ref rnr, .ref trl, .ref mnd, .ref rrw])), (tp, .inl (cB, 1200, .inl f_195))] H := hP
  have hD : va_D A [(h0, .inr (9, [.ref tp, .int 20, .ref tok, .ref sp, .ref rdr, .int 0, .int (-1), .ref scn, .ref fct, .ref rnr, .ref trl, .ref mnd, .ref rrw])), (tp, .inl (cB, 1200, .inl f_195))] := hD
  refine lv_iinc (v := (-8)) (lv' := [(2, .int (-8)), (0, .ref h0), (1, .int n)]) hx hb dX10_putNumber_49 hl (k := 0) rfl (by decide) (by decide) rfl (fun ls hl => ?_)
  refine lv_goto (tgt := 3) hx hb dX10_putNumber_52 (by decide) ?_
  refine lv_iload_n hx hb dX10_putNumber_3 rfl (lv_at hl 0 rfl) ?_
  refine lv_if_lt (tgt := 55) hx hb dX10_putNumber_4 (by decide) (fun _ => ?_) (fun c9 => absurd (by decide) c9)
  have hP9 := hP.sub (ws' := [(h0, .inr (9, [.ref tp, .int 20, .ref tok, .ref sp, .ref rdr, .int 0, .int (-1), .ref scn, .ref fct, .ref rnr, .ref trl, .ref mnd, .ref rrw])), (tp, .inl (cB, 1200, .inl f_195))]) [0, 1] rfl
  have hD9 := hD.sub (ws' := [(h0, .inr (9, [.ref tp, .int 20, .ref tok, .ref sp, .ref rdr, .int 0, .int (-1), .ref scn, .ref fct, .ref rnr, .ref trl, .ref mnd, .ref rrw])), (tp, .inl (cB, 1200, .inl f_195))]) [0, 1] (by decide) rfl
  exact W.vret hx hb hr (fun t ht hW => ⟨⟨(), rfl, trivial, f_195, by rw [ht]; exact hP9, hD9⟩, hS.F ht⟩) hS.2.2 dX10_putNumber_55

set_option maxHeartbeats 4000000 in
set_option maxRecDepth 100000 in
theorem c_feed (l : Launch) (dC : Nat → ClassId) (dI : Nat → Nat → Nat) (cI cB cL cZ : ClassId) (h0 : Nat) (tp : Nat) (tok : Nat) (sp : Nat) (rdr : Nat) (scn : Nat) (fct : Nat) (rnr : Nat) (trl : Nat) (mnd : Nat) (rrw : Nat) (n1 : Int32) (n2 : Int32) (n3 : Int32) (n4 : Int32) (n5 : Int32) (f : Nat → Int32) (sz : Nat)  : Met l yX10_feed wsX10_feed ({ frames := 1, cells := 0, slots := 0, locals := 22 }) (cP (dC, dI) (kTy cI cB cL cZ) [.ref h0, .int n1, .int n2, .int n3, .int n4, .int n5] [(h0, .inr (9, [.ref tp, .int 0, .ref tok, .ref sp, .ref rdr, .int 0, .int (-1), .ref scn, .ref fct, .ref rnr, .ref trl, .ref mnd, .ref rrw])), (tp, .inl (cB, 1200, .inl f))] sz) (va_Qi (fun (r : Int32) (_ : Unit) => r = 20) (fun (_ : Unit) (t : State) => va_P (dC, dI) vwCl [] t.heap ∧ va_D (va_A [(h0, .inr (9, [.ref tp, .int 0, .ref tok, .ref sp, .ref rdr, .int 0, .int (-1), .ref scn, .ref fct, .ref rnr, .ref trl, .ref mnd, .ref rrw])), (tp, .inl (cB, 1200, .inl f))] sz) []) (va_A [(h0, .inr (9, [.ref tp, .int 0, .ref tok, .ref sp, .ref rdr, .int 0, .int (-1), .ref scn, .ref fct, .ref rnr, .ref trl, .ref mnd, .ref rrw])), (tp, .inl (cB, 1200, .inl f))] sz)) 0 0 (va_A [(h0, .inr (9, [.ref tp, .int 0, .ref tok, .ref sp, .ref rdr, .int 0, .int (-1), .ref scn, .ref fct, .ref rnr, .ref trl, .ref mnd, .ref rrw])), (tp, .inl (cB, 1200, .inl f))] sz) := by
  refine Met.ofW (cc := cX10_feed) (maxL := 6) (ret := (some .int)) (by decide) rfl ?_
  intro p e s m args below meth c s₁ B hml hv
  obtain ⟨rfl, hsz, hP, hK, hD0, hN⟩ := hv
  have hx := B.exec
  have hb := B.bytes
  have hr := B.returns
  have hts := atoms_spec (ws := wsX10_feed) B.pre
  have hown : s.vm.findClass RX10 = some m.cls := findClass_of_methodNamed B.named
  have hlocks := B.notSynchronized
  subst hsz
  have hD := hD0.self (sz := s.heap.size)
  generalize hAe : va_A [(h0, .inr (9, [.ref tp, .int 0, .ref tok, .ref sp, .ref rdr, .int 0, .int (-1), .ref scn, .ref fct, .ref rnr, .ref trl, .ref mnd, .ref rrw])), (tp, .inl (cB, 1200, .inl f))] s.heap.size = A at hD ⊢
  have hA : ∀ q : Nat, s.heap.size ≤ q → A q := fun q h => by rw [← hAe]; exact Or.inr h
  have hl := lv_entry ([.ref h0, .int n1, .int n2, .int n3, .int n4, .int n5]) (n := 6) (Nat.le_of_ble_eq_true rfl)
  rw [lg_entry_eq]
  generalize (lg_sl ([.ref h0, .int n1, .int n2, .int n3, .int n4, .int n5]) ++ List.replicate (6 - (lg_sl ([.ref h0, .int n1, .int n2, .int n3, .int n4, .int n5])).length) Slot.unset).toArray = ls at hl ⊢
  have hl : lv_has ls 6 [(0, .ref h0), (1, .int n1), (2, .int n2), (3, .int n3), (4, .int n4), (5, .int n5)] := hl
  refine k_H (A := A) hP (fun H hP hS => ?_)
  have hP : va_P (dC, dI) vwCl [(h0, .inr (9, [.ref tp, .int 0, .ref tok, .ref sp, .ref rdr, .int 0, .int (-1), .ref scn, .ref fct, .ref rnr, .ref trl, .ref mnd, .ref rrw])), (tp, .inl (cB, 1200, .inl f))] H := hP
  have hD : va_D A [(h0, .inr (9, [.ref tp, .int 0, .ref tok, .ref sp, .ref rdr, .int 0, .int (-1), .ref scn, .ref fct, .ref rnr, .ref trl, .ref mnd, .ref rrw])), (tp, .inl (cB, 1200, .inl f))] := hD
  refine lv_aload_n hx hb dX10_feed_0 rfl (lv_at hl 0 rfl) ?_
  refine va_get (D := (dC, dI)) (ci := 9) (v := .int 0) (C := RX10) (T := TX10) (N := 13) hx hb hts iwwsX10_feed_10 hown hK hP 0 rfl rfl 1 (by decide) (hts (.fieldLink RX10 87 "NothingJudge" "taped" "I") fwwsX10_feed_87) (fun _ h9 => h9) rfl dX10_feed_1 ?_
  refine lv_bipush (v := 20) hx hb dX10_feed_4 (by decide) ?_
  refine lv_iadd hx hb dX10_feed_6 ?_
  refine lv_topi (fun y_197 ey_197 => ?_)
  obtain rfl : y_197 = 20 := ey_197.trans (by decide)
  refine lv_sipush (v := 1200) hx hb dX10_feed_7 (by decide) ?_
  refine lv_icmp_le (tgt := 15) hx hb dX10_feed_10 (by decide) (fun _ => ?_) (fun c9 => absurd (by decide) c9)
  refine lv_aload_n hx hb dX10_feed_15 rfl (lv_at hl 0 rfl) ?_
  refine lv_iload_n hx hb dX10_feed_16 rfl (lv_at hl 1 rfl) ?_
  have hPc := hP.sub (ws' := [(h0, .inr (9, [.ref tp, .int 0, .ref tok, .ref sp, .ref rdr, .int 0, .int (-1), .ref scn, .ref fct, .ref rnr, .ref trl, .ref mnd, .ref rrw])), (tp, .inl (cB, 1200, .inl f))]) [0, 1] rfl
  have hDc := hD.sub (ws' := [(h0, .inr (9, [.ref tp, .int 0, .ref tok, .ref sp, .ref rdr, .int 0, .int (-1), .ref scn, .ref fct, .ref rnr, .ref trl, .ref mnd, .ref rrw])), (tp, .inl (cB, 1200, .inl f))]) [0, 1] (by decide) rfl
  have hFc := va_free (wc := [(h0, .inr (9, [.ref tp, .int 0, .ref tok, .ref sp, .ref rdr, .int 0, .int (-1), .ref scn, .ref fct, .ref rnr, .ref trl, .ref mnd, .ref rrw])), (tp, .inl (cB, 1200, .inl f))]) hD hS hA [0, 1] rfl
  refine va_callv (va_runV (As := [.int n1]) (rest := []) ⟨hx, hb, hml, hown, hts⟩ (c_putNumber0 l dC dI cI cB cL cZ (h0) (tp) (tok) (sp) (rdr) (scn) (fct) (rnr) (trl) (mnd) (rrw) (n1) (f) H.size) (cwV 1 hts gX10_feed_X10_putNumber rfl rfl rfl (by decide +kernel) ⟨Nat.le_of_ble_eq_true rfl, Nat.le_of_ble_eq_true rfl⟩) ⟨cP_fb, va_recv hK hPc (ci := 9) (q0 := 0) rfl rfl, fun U hU hW => cP_pre hPc hK hDc hN U hU hW⟩ rfl rfl hl.1 rfl (lv_room (Nat.le_of_ble_eq_true rfl)) dX10_feed_17 ⟨Nat.le_of_ble_eq_true rfl, Nat.le_of_ble_eq_true rfl⟩) hS (fun q _ h => hFc q h) hFc (fun u t H1 locs ht hvm hw hB hz1 hk1 hS => ?_)
  obtain ⟨f_198, hP1, hD1⟩ := hB
  rw [ht] at hP1
  obtain ⟨hP, hD⟩ := va_join (wr := []) (w1 := [(h0, .inr (9, [.ref tp, .int 4, .ref tok, .ref sp, .ref rdr, .int 0, .int (-1), .ref scn, .ref fct, .ref rnr, .ref trl, .ref mnd, .ref rrw])), (tp, .inl (cB, 1200, .inl f_198))]) hP hD [0, 1] [] rfl rfl (by decide) (by decide) hk1 hFc hP1 hD1
  generalize H1 = H at hP hS ⊢
  have hP : va_P (dC, dI) vwCl [(h0, .inr (9, [.ref tp, .int 4, .ref tok, .ref sp, .ref rdr, .int 0, .int (-1), .ref scn, .ref fct, .ref rnr, .ref trl, .ref mnd, .ref rrw])), (tp, .inl (cB, 1200, .inl f_198))] H := hP
  have hD : va_D A [(h0, .inr (9, [.ref tp, .int 4, .ref tok, .ref sp, .ref rdr, .int 0, .int (-1), .ref scn, .ref fct, .ref rnr, .ref trl, .ref mnd, .ref rrw])), (tp, .inl (cB, 1200, .inl f_198))] := hD
  refine lv_aload_n hx hb dX10_feed_20 rfl (lv_at hl 0 rfl) ?_
  refine lv_iload_n hx hb dX10_feed_21 rfl (lv_at hl 2 rfl) ?_
  have hPc := hP.sub (ws' := [(h0, .inr (9, [.ref tp, .int 4, .ref tok, .ref sp, .ref rdr, .int 0, .int (-1), .ref scn, .ref fct, .ref rnr, .ref trl, .ref mnd, .ref rrw])), (tp, .inl (cB, 1200, .inl f_198))]) [0, 1] rfl
  have hDc := hD.sub (ws' := [(h0, .inr (9, [.ref tp, .int 4, .ref tok, .ref sp, .ref rdr, .int 0, .int (-1), .ref scn, .ref fct, .ref rnr, .ref trl, .ref mnd, .ref rrw])), (tp, .inl (cB, 1200, .inl f_198))]) [0, 1] (by decide) rfl
  have hFc := va_free (wc := [(h0, .inr (9, [.ref tp, .int 4, .ref tok, .ref sp, .ref rdr, .int 0, .int (-1), .ref scn, .ref fct, .ref rnr, .ref trl, .ref mnd, .ref rrw])), (tp, .inl (cB, 1200, .inl f_198))]) hD hS hA [0, 1] rfl
  refine va_callv (va_runV (As := [.int n2]) (rest := []) ⟨hx, hb, hml, hown, hts⟩ (c_putNumber4 l dC dI cI cB cL cZ (h0) (tp) (tok) (sp) (rdr) (scn) (fct) (rnr) (trl) (mnd) (rrw) (n2) (f_198) H.size) (cwV 1 hts gX10_feed_X10_putNumber rfl rfl rfl (by decide +kernel) ⟨Nat.le_of_ble_eq_true rfl, Nat.le_of_ble_eq_true rfl⟩) ⟨cP_fb, va_recv hK hPc (ci := 9) (q0 := 0) rfl rfl, fun U hU hW => cP_pre hPc hK hDc hN U hU hW⟩ rfl rfl hl.1 rfl (lv_room (Nat.le_of_ble_eq_true rfl)) dX10_feed_22 ⟨Nat.le_of_ble_eq_true rfl, Nat.le_of_ble_eq_true rfl⟩) hS (fun q _ h => hFc q h) hFc (fun u t H1 locs ht hvm hw hB hz1 hk1 hS => ?_)
  obtain ⟨f_200, hP1, hD1⟩ := hB
  rw [ht] at hP1
  obtain ⟨hP, hD⟩ := va_join (wr := []) (w1 := [(h0, .inr (9, [.ref tp, .int 8, .ref tok, .ref sp, .ref rdr, .int 0, .int (-1), .ref scn, .ref fct, .ref rnr, .ref trl, .ref mnd, .ref rrw])), (tp, .inl (cB, 1200, .inl f_200))]) hP hD [0, 1] [] rfl rfl (by decide) (by decide) hk1 hFc hP1 hD1
  generalize H1 = H at hP hS ⊢
  have hP : va_P (dC, dI) vwCl [(h0, .inr (9, [.ref tp, .int 8, .ref tok, .ref sp, .ref rdr, .int 0, .int (-1), .ref scn, .ref fct, .ref rnr, .ref trl, .ref mnd, .ref rrw])), (tp, .inl (cB, 1200, .inl f_200))] H := hP
  have hD : va_D A [(h0, .inr (9, [.ref tp, .int 8, .ref tok, .ref sp, .ref rdr, .int 0, .int (-1), .ref scn, .ref fct, .ref rnr, .ref trl, .ref mnd, .ref rrw])), (tp, .inl (cB, 1200, .inl f_200))] := hD
  refine lv_aload_n hx hb dX10_feed_25 rfl (lv_at hl 0 rfl) ?_
  refine lv_iload_n hx hb dX10_feed_26 rfl (lv_at hl 3 rfl) ?_
  have hPc := hP.sub (ws' := [(h0, .inr (9, [.ref tp, .int 8, .ref tok, .ref sp, .ref rdr, .int 0, .int (-1), .ref scn, .ref fct, .ref rnr, .ref trl, .ref mnd, .ref rrw])), (tp, .inl (cB, 1200, .inl f_200))]) [0, 1] rfl
  have hDc := hD.sub (ws' := [(h0, .inr (9, [.ref tp, .int 8, .ref tok, .ref sp, .ref rdr, .int 0, .int (-1), .ref scn, .ref fct, .ref rnr, .ref trl, .ref mnd, .ref rrw])), (tp, .inl (cB, 1200, .inl f_200))]) [0, 1] (by decide) rfl
  have hFc := va_free (wc := [(h0, .inr (9, [.ref tp, .int 8, .ref tok, .ref sp, .ref rdr, .int 0, .int (-1), .ref scn, .ref fct, .ref rnr, .ref trl, .ref mnd, .ref rrw])), (tp, .inl (cB, 1200, .inl f_200))]) hD hS hA [0, 1] rfl
  refine va_callv (va_runV (As := [.int n3]) (rest := []) ⟨hx, hb, hml, hown, hts⟩ (c_putNumber8 l dC dI cI cB cL cZ (h0) (tp) (tok) (sp) (rdr) (scn) (fct) (rnr) (trl) (mnd) (rrw) (n3) (f_200) H.size) (cwV 1 hts gX10_feed_X10_putNumber rfl rfl rfl (by decide +kernel) ⟨Nat.le_of_ble_eq_true rfl, Nat.le_of_ble_eq_true rfl⟩) ⟨cP_fb, va_recv hK hPc (ci := 9) (q0 := 0) rfl rfl, fun U hU hW => cP_pre hPc hK hDc hN U hU hW⟩ rfl rfl hl.1 rfl (lv_room (Nat.le_of_ble_eq_true rfl)) dX10_feed_27 ⟨Nat.le_of_ble_eq_true rfl, Nat.le_of_ble_eq_true rfl⟩) hS (fun q _ h => hFc q h) hFc (fun u t H1 locs ht hvm hw hB hz1 hk1 hS => ?_)
  obtain ⟨f_202, hP1, hD1⟩ := hB
  rw [ht] at hP1
  obtain ⟨hP, hD⟩ := va_join (wr := []) (w1 := [(h0, .inr (9, [.ref tp, .int 12, .ref tok, .ref sp, .ref rdr, .int 0, .int (-1), .ref scn, .ref fct, .ref rnr, .ref trl, .ref mnd, .ref rrw])), (tp, .inl (cB, 1200, .inl f_202))]) hP hD [0, 1] [] rfl rfl (by decide) (by decide) hk1 hFc hP1 hD1
  generalize H1 = H at hP hS ⊢
  have hP : va_P (dC, dI) vwCl [(h0, .inr (9, [.ref tp, .int 12, .ref tok, .ref sp, .ref rdr, .int 0, .int (-1), .ref scn, .ref fct, .ref rnr, .ref trl, .ref mnd, .ref rrw])), (tp, .inl (cB, 1200, .inl f_202))] H := hP
  have hD : va_D A [(h0, .inr (9, [.ref tp, .int 12, .ref tok, .ref sp, .ref rdr, .int 0, .int (-1), .ref scn, .ref fct, .ref rnr, .ref trl, .ref mnd, .ref rrw])), (tp, .inl (cB, 1200, .inl f_202))] := hD
  refine lv_aload_n hx hb dX10_feed_30 rfl (lv_at hl 0 rfl) ?_
  refine lv_iload hx hb dX10_feed_31 (lv_at hl 4 rfl) ?_
  have hPc := hP.sub (ws' := [(h0, .inr (9, [.ref tp, .int 12, .ref tok, .ref sp, .ref rdr, .int 0, .int (-1), .ref scn, .ref fct, .ref rnr, .ref trl, .ref mnd, .ref rrw])), (tp, .inl (cB, 1200, .inl f_202))]) [0, 1] rfl
  have hDc := hD.sub (ws' := [(h0, .inr (9, [.ref tp, .int 12, .ref tok, .ref sp, .ref rdr, .int 0, .int (-1), .ref scn, .ref fct, .ref rnr, .ref trl, .ref mnd, .ref rrw])), (tp, .inl (cB, 1200, .inl f_202))]) [0, 1] (by decide) rfl
  have hFc := va_free (wc := [(h0, .inr (9, [.ref tp, .int 12, .ref tok, .ref sp, .ref rdr, .int 0, .int (-1), .ref scn, .ref fct, .ref rnr, .ref trl, .ref mnd, .ref rrw])), (tp, .inl (cB, 1200, .inl f_202))]) hD hS hA [0, 1] rfl
  refine va_callv (va_runV (As := [.int n4]) (rest := []) ⟨hx, hb, hml, hown, hts⟩ (c_putNumber12 l dC dI cI cB cL cZ (h0) (tp) (tok) (sp) (rdr) (scn) (fct) (rnr) (trl) (mnd) (rrw) (n4) (f_202) H.size) (cwV 1 hts gX10_feed_X10_putNumber rfl rfl rfl (by decide +kernel) ⟨Nat.le_of_ble_eq_true rfl, Nat.le_of_ble_eq_true rfl⟩) ⟨cP_fb, va_recv hK hPc (ci := 9) (q0 := 0) rfl rfl, fun U hU hW => cP_pre hPc hK hDc hN U hU hW⟩ rfl rfl hl.1 rfl (lv_room (Nat.le_of_ble_eq_true rfl)) dX10_feed_33 ⟨Nat.le_of_ble_eq_true rfl, Nat.le_of_ble_eq_true rfl⟩) hS (fun q _ h => hFc q h) hFc (fun u t H1 locs ht hvm hw hB hz1 hk1 hS => ?_)
  obtain ⟨f_204, hP1, hD1⟩ := hB
  rw [ht] at hP1
  obtain ⟨hP, hD⟩ := va_join (wr := []) (w1 := [(h0, .inr (9, [.ref tp, .int 16, .ref tok, .ref sp, .ref rdr, .int 0, .int (-1), .ref scn, .ref fct, .ref rnr, .ref trl, .ref mnd, .ref rrw])), (tp, .inl (cB, 1200, .inl f_204))]) hP hD [0, 1] [] rfl rfl (by decide) (by decide) hk1 hFc hP1 hD1
  generalize H1 = H at hP hS ⊢
  have hP : va_P (dC, dI) vwCl [(h0, .inr (9, [.ref tp, .int 16, .ref tok, .ref sp, .ref rdr, .int 0, .int (-1), .ref scn, .ref fct, .ref rnr, .ref trl, .ref mnd, .ref rrw])), (tp, .inl (cB, 1200, .inl f_204))] H := hP
  have hD : va_D A [(h0, .inr (9, [.ref tp, .int 16, .ref tok, .ref sp, .ref rdr, .int 0, .int (-1), .ref scn, .ref fct, .ref rnr, .ref trl, .ref mnd, .ref rrw])), (tp, .inl (cB, 1200, .inl f_204))] := hD
  refine lv_aload_n hx hb dX10_feed_36 rfl (lv_at hl 0 rfl) ?_
  refine lv_iload hx hb dX10_feed_37 (lv_at hl 5 rfl) ?_
  have hPc := hP.sub (ws' := [(h0, .inr (9, [.ref tp, .int 16, .ref tok, .ref sp, .ref rdr, .int 0, .int (-1), .ref scn, .ref fct, .ref rnr, .ref trl, .ref mnd, .ref rrw])), (tp, .inl (cB, 1200, .inl f_204))]) [0, 1] rfl
  have hDc := hD.sub (ws' := [(h0, .inr (9, [.ref tp, .int 16, .ref tok, .ref sp, .ref rdr, .int 0, .int (-1), .ref scn, .ref fct, .ref rnr, .ref trl, .ref mnd, .ref rrw])), (tp, .inl (cB, 1200, .inl f_204))]) [0, 1] (by decide) rfl
  have hFc := va_free (wc := [(h0, .inr (9, [.ref tp, .int 16, .ref tok, .ref sp, .ref rdr, .int 0, .int (-1), .ref scn, .ref fct, .ref rnr, .ref trl, .ref mnd, .ref rrw])), (tp, .inl (cB, 1200, .inl f_204))]) hD hS hA [0, 1] rfl
  refine va_callv (va_runV (As := [.int n5]) (rest := []) ⟨hx, hb, hml, hown, hts⟩ (c_putNumber16 l dC dI cI cB cL cZ (h0) (tp) (tok) (sp) (rdr) (scn) (fct) (rnr) (trl) (mnd) (rrw) (n5) (f_204) H.size) (cwV 1 hts gX10_feed_X10_putNumber rfl rfl rfl (by decide +kernel) ⟨Nat.le_of_ble_eq_true rfl, Nat.le_of_ble_eq_true rfl⟩) ⟨cP_fb, va_recv hK hPc (ci := 9) (q0 := 0) rfl rfl, fun U hU hW => cP_pre hPc hK hDc hN U hU hW⟩ rfl rfl hl.1 rfl (lv_room (Nat.le_of_ble_eq_true rfl)) dX10_feed_39 ⟨Nat.le_of_ble_eq_true rfl, Nat.le_of_ble_eq_true rfl⟩) hS (fun q _ h => hFc q h) hFc (fun u t H1 locs ht hvm hw hB hz1 hk1 hS => ?_)
  obtain ⟨f_206, hP1, hD1⟩ := hB
  rw [ht] at hP1
  obtain ⟨hP, hD⟩ := va_join (wr := []) (w1 := [(h0, .inr (9, [.ref tp, .int 20, .ref tok, .ref sp, .ref rdr, .int 0, .int (-1), .ref scn, .ref fct, .ref rnr, .ref trl, .ref mnd, .ref rrw])), (tp, .inl (cB, 1200, .inl f_206))]) hP hD [0, 1] [] rfl rfl (by decide) (by decide) hk1 hFc hP1 hD1
  generalize H1 = H at hP hS ⊢
  have hP : va_P (dC, dI) vwCl [(h0, .inr (9, [.ref tp, .int 20, .ref tok, .ref sp, .ref rdr, .int 0, .int (-1), .ref scn, .ref fct, .ref rnr, .ref trl, .ref mnd, .ref rrw])), (tp, .inl (cB, 1200, .inl f_206))] H := hP
  have hD : va_D A [(h0, .inr (9, [.ref tp, .int 20, .ref tok, .ref sp, .ref rdr, .int 0, .int (-1), .ref scn, .ref fct, .ref rnr, .ref trl, .ref mnd, .ref rrw])), (tp, .inl (cB, 1200, .inl f_206))] := hD
  refine lv_aload_n hx hb dX10_feed_42 rfl (lv_at hl 0 rfl) ?_
  refine va_get (D := (dC, dI)) (ci := 9) (v := .int 20) (C := RX10) (T := TX10) (N := 13) hx hb hts iwwsX10_feed_10 hown hK hP 0 rfl rfl 1 (by decide) (hts (.fieldLink RX10 87 "NothingJudge" "taped" "I") fwwsX10_feed_87) (fun _ h9 => h9) rfl dX10_feed_43 ?_
  have hP9 := hP.sub (ws' := []) [] rfl
  have hD9 := hD.sub (ws' := []) [] (by decide) rfl
  exact W.iret (v := 20) hx hb hr (fun t ht hW => ⟨⟨20, (), rfl, rfl, by rw [ht]; exact hP9, hD9⟩, hS.F ht⟩) hS.2.2 dX10_feed_46

set_option maxHeartbeats 4000000 in
set_option maxRecDepth 100000 in
theorem c_fault (l : Launch) (dC : Nat → ClassId) (dI : Nat → Nat → Nat) (cI cB cL cZ : ClassId) (h0 : Nat) (tp : Nat) (tok : Nat) (sp : Nat) (rdr : Nat) (scn : Nat) (fct : Nat) (rnr : Nat) (trl : Nat) (mnd : Nat) (rrw : Nat) (w : Int32) (sz : Nat)  : Met l yX10_fault wsX10_fault ({ frames := 0, cells := 0, slots := 0, locals := 0 }) (cP (dC, dI) (kTy cI cB cL cZ) [.ref h0, .int w] [(h0, .inr (9, [.ref tp, .int 0, .ref tok, .ref sp, .ref rdr, .int 0, .int (-1), .ref scn, .ref fct, .ref rnr, .ref trl, .ref mnd, .ref rrw]))] sz) (va_Qi (fun (r : Int32) (_ : Unit) => r = (if w = 0 then (0 : Int32) else -1)) (fun (_ : Unit) (t : State) => va_P (dC, dI) vwCl [] t.heap ∧ va_D (va_A [(h0, .inr (9, [.ref tp, .int 0, .ref tok, .ref sp, .ref rdr, .int 0, .int (-1), .ref scn, .ref fct, .ref rnr, .ref trl, .ref mnd, .ref rrw]))] sz) []) (va_A [(h0, .inr (9, [.ref tp, .int 0, .ref tok, .ref sp, .ref rdr, .int 0, .int (-1), .ref scn, .ref fct, .ref rnr, .ref trl, .ref mnd, .ref rrw]))] sz)) 0 0 (va_A [(h0, .inr (9, [.ref tp, .int 0, .ref tok, .ref sp, .ref rdr, .int 0, .int (-1), .ref scn, .ref fct, .ref rnr, .ref trl, .ref mnd, .ref rrw]))] sz) := by
  refine Met.ofW (cc := cX10_fault) (maxL := 2) (ret := (some .int)) (by decide) rfl ?_
  intro p e s m args below meth c s₁ B hml hv
  obtain ⟨rfl, hsz, hP, hK, hD0, hN⟩ := hv
  have hx := B.exec
  have hb := B.bytes
  have hr := B.returns
  have hts := atoms_spec (ws := wsX10_fault) B.pre
  have hown : s.vm.findClass RX10 = some m.cls := findClass_of_methodNamed B.named
  have hlocks := B.notSynchronized
  subst hsz
  have hD := hD0.self (sz := s.heap.size)
  generalize hAe : va_A [(h0, .inr (9, [.ref tp, .int 0, .ref tok, .ref sp, .ref rdr, .int 0, .int (-1), .ref scn, .ref fct, .ref rnr, .ref trl, .ref mnd, .ref rrw]))] s.heap.size = A at hD ⊢
  have hA : ∀ q : Nat, s.heap.size ≤ q → A q := fun q h => by rw [← hAe]; exact Or.inr h
  have hl := lv_entry ([.ref h0, .int w]) (n := 2) (Nat.le_of_ble_eq_true rfl)
  rw [lg_entry_eq]
  generalize (lg_sl ([.ref h0, .int w]) ++ List.replicate (2 - (lg_sl ([.ref h0, .int w])).length) Slot.unset).toArray = ls at hl ⊢
  have hl : lv_has ls 2 [(0, .ref h0), (1, .int w)] := hl
  refine k_H (A := A) hP (fun H hP hS => ?_)
  have hP : va_P (dC, dI) vwCl [(h0, .inr (9, [.ref tp, .int 0, .ref tok, .ref sp, .ref rdr, .int 0, .int (-1), .ref scn, .ref fct, .ref rnr, .ref trl, .ref mnd, .ref rrw]))] H := hP
  have hD : va_D A [(h0, .inr (9, [.ref tp, .int 0, .ref tok, .ref sp, .ref rdr, .int 0, .int (-1), .ref scn, .ref fct, .ref rnr, .ref trl, .ref mnd, .ref rrw]))] := hD
  refine lv_iload_n hx hb dX10_fault_0 rfl (lv_at hl 1 rfl) ?_
  refine lv_if_ne (tgt := 9) hx hb dX10_fault_1 (by decide) (fun c_208 => ?_) (fun c_208 => ?_)
  · refine lv_iload_n hx hb dX10_fault_9 rfl (lv_at hl 1 rfl) ?_
    refine lv_iconst (v := 1) hx hb dX10_fault_10 (by decide) ?_
    refine lv_icmp_ne (tgt := 21) hx hb dX10_fault_11 (by decide) (fun c_209 => ?_) (fun c_209 => ?_)
    · refine lv_iconst (v := (-1)) hx hb dX10_fault_21 (by decide) ?_
      have hP9 := hP.sub (ws' := []) [] rfl
      have hD9 := hD.sub (ws' := []) [] (by decide) rfl
      exact W.iret (v := (-1)) hx hb hr (fun t ht hW => ⟨⟨(-1), (), rfl, (by first | (rw [if_pos (by assumption)]) | (rw [if_neg (by assumption)])), by rw [ht]; exact hP9, hD9⟩, hS.F ht⟩) hS.2.2 dX10_fault_22
    · refine lv_aload_n hx hb dX10_fault_14 rfl (lv_at hl 0 rfl) ?_
      refine va_get (D := (dC, dI)) (ci := 9) (v := .int (-1)) (C := RX10) (T := TX10) (N := 13) hx hb hts iwwsX10_fault_10 hown hK hP 0 rfl rfl 6 (by decide) (hts (.fieldLink RX10 36 "NothingJudge" "faultPlace" "I") fwwsX10_fault_36) (fun _ h9 => h9) rfl dX10_fault_15 ?_
      refine lv_goto (tgt := 22) hx hb dX10_fault_18 (by decide) ?_
      have hP9 := hP.sub (ws' := []) [] rfl
      have hD9 := hD.sub (ws' := []) [] (by decide) rfl
      exact W.iret (v := (-1)) hx hb hr (fun t ht hW => ⟨⟨(-1), (), rfl, (by first | (rw [if_pos (by assumption)]) | (rw [if_neg (by assumption)])), by rw [ht]; exact hP9, hD9⟩, hS.F ht⟩) hS.2.2 dX10_fault_22
  · refine lv_aload_n hx hb dX10_fault_4 rfl (lv_at hl 0 rfl) ?_
    refine va_get (D := (dC, dI)) (ci := 9) (v := .int 0) (C := RX10) (T := TX10) (N := 13) hx hb hts iwwsX10_fault_10 hown hK hP 0 rfl rfl 5 (by decide) (hts (.fieldLink RX10 104 "NothingJudge" "faultKind" "I") fwwsX10_fault_104) (fun _ h9 => h9) rfl dX10_fault_5 ?_
    have hP9 := hP.sub (ws' := []) [] rfl
    have hD9 := hD.sub (ws' := []) [] (by decide) rfl
    exact W.iret (v := 0) hx hb hr (fun t ht hW => ⟨⟨0, (), rfl, (by first | (rw [if_pos (by assumption)]) | (rw [if_neg (by assumption)])), by rw [ht]; exact hP9, hD9⟩, hS.F ht⟩) hS.2.2 dX10_fault_8

set_option maxHeartbeats 4000000 in
set_option maxRecDepth 100000 in
theorem c_entry (l : Launch) (dC : Nat → ClassId) (dI : Nat → Nat → Nat) (cI cB cL cZ : ClassId) (h0 : Nat) (tp : Nat) (tok : Nat) (sp : Nat) (rdr : Nat) (scn : Nat) (fct : Nat) (rnr : Nat) (trl : Nat) (mnd : Nat) (rrw : Nat) (g : Nat) (td : Nat) (gc : Nat) (ga1 : Nat) (ga2 : Nat) (ga3 : Nat) (ga4 : Nat) (ga5 : Nat) (ga6 : Nat) (ga7 : Nat) (ga8 : Nat) (r : Int32) (sz : Nat)  : Met l yX10_entry wsX10_entry ({ frames := 1, cells := 0, slots := 0, locals := 21 }) (cP (dC, dI) (kTy cI cB cL cZ) [.ref h0, .int r] [(h0, .inr (9, [.ref tp, .int 0, .ref tok, .ref sp, .ref rdr, .int 0, .int (-1), .ref scn, .ref fct, .ref rnr, .ref trl, .ref mnd, .ref rrw])), (scn, .inr (6, [.ref g, .int (-1), .ref td])), (g, .inr (3, [.ref gc, .ref ga1, .ref ga2, .ref ga3, .ref ga4, .ref ga5, .ref ga6, .ref ga7, .ref ga8, .int 0, .int 0, .int 0, .int 0, .int (-1)]))] sz) (va_Qi (fun (r : Int32) (_ : Unit) => r = 0) (fun (_ : Unit) (t : State) => va_P (dC, dI) vwCl [] t.heap ∧ va_D (va_A [(h0, .inr (9, [.ref tp, .int 0, .ref tok, .ref sp, .ref rdr, .int 0, .int (-1), .ref scn, .ref fct, .ref rnr, .ref trl, .ref mnd, .ref rrw])), (scn, .inr (6, [.ref g, .int (-1), .ref td])), (g, .inr (3, [.ref gc, .ref ga1, .ref ga2, .ref ga3, .ref ga4, .ref ga5, .ref ga6, .ref ga7, .ref ga8, .int 0, .int 0, .int 0, .int 0, .int (-1)]))] sz) []) (va_A [(h0, .inr (9, [.ref tp, .int 0, .ref tok, .ref sp, .ref rdr, .int 0, .int (-1), .ref scn, .ref fct, .ref rnr, .ref trl, .ref mnd, .ref rrw])), (scn, .inr (6, [.ref g, .int (-1), .ref td])), (g, .inr (3, [.ref gc, .ref ga1, .ref ga2, .ref ga3, .ref ga4, .ref ga5, .ref ga6, .ref ga7, .ref ga8, .int 0, .int 0, .int 0, .int 0, .int (-1)]))] sz)) 0 0 (va_A [(h0, .inr (9, [.ref tp, .int 0, .ref tok, .ref sp, .ref rdr, .int 0, .int (-1), .ref scn, .ref fct, .ref rnr, .ref trl, .ref mnd, .ref rrw])), (scn, .inr (6, [.ref g, .int (-1), .ref td])), (g, .inr (3, [.ref gc, .ref ga1, .ref ga2, .ref ga3, .ref ga4, .ref ga5, .ref ga6, .ref ga7, .ref ga8, .int 0, .int 0, .int 0, .int 0, .int (-1)]))] sz) := by
  refine Met.ofW (cc := cX10_entry) (maxL := 2) (ret := (some .boolean)) (by decide) rfl ?_
  intro p e s m args below meth c s₁ B hml hv
  obtain ⟨rfl, hsz, hP, hK, hD0, hN⟩ := hv
  have hx := B.exec
  have hb := B.bytes
  have hr := B.returns
  have hts := atoms_spec (ws := wsX10_entry) B.pre
  have hown : s.vm.findClass RX10 = some m.cls := findClass_of_methodNamed B.named
  have hlocks := B.notSynchronized
  subst hsz
  have hD := hD0.self (sz := s.heap.size)
  generalize hAe : va_A [(h0, .inr (9, [.ref tp, .int 0, .ref tok, .ref sp, .ref rdr, .int 0, .int (-1), .ref scn, .ref fct, .ref rnr, .ref trl, .ref mnd, .ref rrw])), (scn, .inr (6, [.ref g, .int (-1), .ref td])), (g, .inr (3, [.ref gc, .ref ga1, .ref ga2, .ref ga3, .ref ga4, .ref ga5, .ref ga6, .ref ga7, .ref ga8, .int 0, .int 0, .int 0, .int 0, .int (-1)]))] s.heap.size = A at hD ⊢
  have hA : ∀ q : Nat, s.heap.size ≤ q → A q := fun q h => by rw [← hAe]; exact Or.inr h
  have hl := lv_entry ([.ref h0, .int r]) (n := 2) (Nat.le_of_ble_eq_true rfl)
  rw [lg_entry_eq]
  generalize (lg_sl ([.ref h0, .int r]) ++ List.replicate (2 - (lg_sl ([.ref h0, .int r])).length) Slot.unset).toArray = ls at hl ⊢
  have hl : lv_has ls 2 [(0, .ref h0), (1, .int r)] := hl
  refine k_H (A := A) hP (fun H hP hS => ?_)
  have hP : va_P (dC, dI) vwCl [(h0, .inr (9, [.ref tp, .int 0, .ref tok, .ref sp, .ref rdr, .int 0, .int (-1), .ref scn, .ref fct, .ref rnr, .ref trl, .ref mnd, .ref rrw])), (scn, .inr (6, [.ref g, .int (-1), .ref td])), (g, .inr (3, [.ref gc, .ref ga1, .ref ga2, .ref ga3, .ref ga4, .ref ga5, .ref ga6, .ref ga7, .ref ga8, .int 0, .int 0, .int 0, .int 0, .int (-1)]))] H := hP
  have hD : va_D A [(h0, .inr (9, [.ref tp, .int 0, .ref tok, .ref sp, .ref rdr, .int 0, .int (-1), .ref scn, .ref fct, .ref rnr, .ref trl, .ref mnd, .ref rrw])), (scn, .inr (6, [.ref g, .int (-1), .ref td])), (g, .inr (3, [.ref gc, .ref ga1, .ref ga2, .ref ga3, .ref ga4, .ref ga5, .ref ga6, .ref ga7, .ref ga8, .int 0, .int 0, .int 0, .int 0, .int (-1)]))] := hD
  refine lv_aload_n hx hb dX10_entry_0 rfl (lv_at hl 0 rfl) ?_
  refine va_get (D := (dC, dI)) (ci := 9) (v := .ref scn) (C := RX10) (T := TX10) (N := 13) hx hb hts iwwsX10_entry_10 hown hK hP 0 rfl rfl 7 (by decide) (hts (.fieldLink RX10 45 "NothingJudge" "scene" "LNothingJudge$Scene;") fwwsX10_entry_45) (fun _ h9 => h9) rfl dX10_entry_1 ?_
  refine va_get (D := (dC, dI)) (ci := 6) (v := .ref g) (C := RX7) (T := TX7) (N := 3) hx hb hts iwwsX10_entry_7 hown hK hP 1 rfl rfl 0 (by decide) (hts (.fieldLink RX10 110 "NothingJudge$Scene" "program" "LNothingJudge$Program;") fwwsX10_entry_110) (fun _ h9 => h9) rfl dX10_entry_4 ?_
  refine lv_iload_n hx hb dX10_entry_7 rfl (lv_at hl 1 rfl) ?_
  have hPc := hP.sub (ws' := [(g, .inr (3, [.ref gc, .ref ga1, .ref ga2, .ref ga3, .ref ga4, .ref ga5, .ref ga6, .ref ga7, .ref ga8, .int 0, .int 0, .int 0, .int 0, .int (-1)]))]) [2] rfl
  have hDc := hD.sub (ws' := [(g, .inr (3, [.ref gc, .ref ga1, .ref ga2, .ref ga3, .ref ga4, .ref ga5, .ref ga6, .ref ga7, .ref ga8, .int 0, .int 0, .int 0, .int 0, .int (-1)]))]) [2] (by decide) rfl
  have hFc := va_free (wc := [(g, .inr (3, [.ref gc, .ref ga1, .ref ga2, .ref ga3, .ref ga4, .ref ga5, .ref ga6, .ref ga7, .ref ga8, .int 0, .int 0, .int 0, .int 0, .int (-1)]))]) hD hS hA [2] rfl
  refine va_calli (va_runV (As := [.int r]) (rest := []) ⟨hx, hb, hml, hown, hts⟩ (c_has l dC dI cI cB cL cZ (g) (gc) (ga1) (ga2) (ga3) (ga4) (ga5) (ga6) (ga7) (ga8) (r) H.size) (cwV 1 hts gX10_entry_X3_has rfl rfl rfl (by decide +kernel) ⟨Nat.le_of_ble_eq_true rfl, Nat.le_of_ble_eq_true rfl⟩) ⟨cP_fb, va_recv hK hPc (ci := 3) (q0 := 0) rfl rfl, fun U hU hW => cP_pre hPc hK hDc hN U hU hW⟩ rfl rfl hl.1 rfl (lv_room (Nat.le_of_ble_eq_true rfl)) dX10_entry_8 ⟨Nat.le_of_ble_eq_true rfl, Nat.le_of_ble_eq_true rfl⟩) hS (fun q _ h => hFc q h) hFc (fun r_210 u t H1 locs ht hvm hw hB hz1 hk1 hS => ?_)
  obtain ⟨hP1, hD1⟩ := hB
  rw [ht] at hP1
  obtain ⟨hP, hD⟩ := va_join (wr := [(h0, .inr (9, [.ref tp, .int 0, .ref tok, .ref sp, .ref rdr, .int 0, .int (-1), .ref scn, .ref fct, .ref rnr, .ref trl, .ref mnd, .ref rrw])), (scn, .inr (6, [.ref g, .int (-1), .ref td]))]) (w1 := [(g, .inr (3, [.ref gc, .ref ga1, .ref ga2, .ref ga3, .ref ga4, .ref ga5, .ref ga6, .ref ga7, .ref ga8, .int 0, .int 0, .int 0, .int 0, .int (-1)]))]) hP hD [2] [0, 1] rfl rfl (by decide) (by decide) hk1 hFc hP1 hD1
  generalize H1 = H at hP hS ⊢
  have hP : va_P (dC, dI) vwCl [(h0, .inr (9, [.ref tp, .int 0, .ref tok, .ref sp, .ref rdr, .int 0, .int (-1), .ref scn, .ref fct, .ref rnr, .ref trl, .ref mnd, .ref rrw])), (scn, .inr (6, [.ref g, .int (-1), .ref td])), (g, .inr (3, [.ref gc, .ref ga1, .ref ga2, .ref ga3, .ref ga4, .ref ga5, .ref ga6, .ref ga7, .ref ga8, .int 0, .int 0, .int 0, .int 0, .int (-1)]))] H := hP
  have hD : va_D A [(h0, .inr (9, [.ref tp, .int 0, .ref tok, .ref sp, .ref rdr, .int 0, .int (-1), .ref scn, .ref fct, .ref rnr, .ref trl, .ref mnd, .ref rrw])), (scn, .inr (6, [.ref g, .int (-1), .ref td])), (g, .inr (3, [.ref gc, .ref ga1, .ref ga2, .ref ga3, .ref ga4, .ref ga5, .ref ga6, .ref ga7, .ref ga8, .int 0, .int 0, .int 0, .int 0, .int (-1)]))] := hD
  obtain rfl : r_210 = 0 := hw
  refine lv_if_ne (tgt := 16) hx hb dX10_entry_11 (by decide) (fun c9 => absurd c9 (by decide)) (fun _ => ?_)
  refine lv_iconst (v := 0) hx hb dX10_entry_14 (by decide) ?_
  have hP9 := hP.sub (ws' := []) [] rfl
  have hD9 := hD.sub (ws' := []) [] (by decide) rfl
  exact W.zret (v := 0) (ty := .boolean) hx hb hr rfl (fun t ht hW => ⟨⟨0, (), rfl, rfl, by rw [ht]; exact hP9, hD9⟩, hS.F ht⟩) hS.2.2 dX10_entry_15

set_option maxHeartbeats 4000000 in
set_option maxRecDepth 100000 in
theorem c_outer (l : Launch) (dC : Nat → ClassId) (dI : Nat → Nat → Nat) (cI cB cL cZ : ClassId) (h0 : Nat) (tp : Nat) (tok : Nat) (sp : Nat) (rdr : Nat) (scn : Nat) (fct : Nat) (rnr : Nat) (trl : Nat) (mnd : Nat) (rrw : Nat) (g : Nat) (td : Nat) (gc : Nat) (ga1 : Nat) (ga2 : Nat) (ga3 : Nat) (ga4 : Nat) (ga5 : Nat) (ga6 : Nat) (ga7 : Nat) (ga8 : Nat) (a : Int32) (b : Int32) (sz : Nat)  : Met l yX10_outer wsX10_outer ({ frames := 2, cells := 0, slots := 0, locals := 41 }) (cP (dC, dI) (kTy cI cB cL cZ) [.ref h0, .int a, .int b] [(h0, .inr (9, [.ref tp, .int 0, .ref tok, .ref sp, .ref rdr, .int 0, .int (-1), .ref scn, .ref fct, .ref rnr, .ref trl, .ref mnd, .ref rrw])), (scn, .inr (6, [.ref g, .int (-1), .ref td])), (g, .inr (3, [.ref gc, .ref ga1, .ref ga2, .ref ga3, .ref ga4, .ref ga5, .ref ga6, .ref ga7, .ref ga8, .int 0, .int 0, .int 0, .int 0, .int (-1)]))] sz) (va_Qi (fun (r : Int32) (_ : Unit) => r = 0) (fun (_ : Unit) (t : State) => va_P (dC, dI) vwCl [] t.heap ∧ va_D (va_A [(h0, .inr (9, [.ref tp, .int 0, .ref tok, .ref sp, .ref rdr, .int 0, .int (-1), .ref scn, .ref fct, .ref rnr, .ref trl, .ref mnd, .ref rrw])), (scn, .inr (6, [.ref g, .int (-1), .ref td])), (g, .inr (3, [.ref gc, .ref ga1, .ref ga2, .ref ga3, .ref ga4, .ref ga5, .ref ga6, .ref ga7, .ref ga8, .int 0, .int 0, .int 0, .int 0, .int (-1)]))] sz) []) (va_A [(h0, .inr (9, [.ref tp, .int 0, .ref tok, .ref sp, .ref rdr, .int 0, .int (-1), .ref scn, .ref fct, .ref rnr, .ref trl, .ref mnd, .ref rrw])), (scn, .inr (6, [.ref g, .int (-1), .ref td])), (g, .inr (3, [.ref gc, .ref ga1, .ref ga2, .ref ga3, .ref ga4, .ref ga5, .ref ga6, .ref ga7, .ref ga8, .int 0, .int 0, .int 0, .int 0, .int (-1)]))] sz)) 0 0 (va_A [(h0, .inr (9, [.ref tp, .int 0, .ref tok, .ref sp, .ref rdr, .int 0, .int (-1), .ref scn, .ref fct, .ref rnr, .ref trl, .ref mnd, .ref rrw])), (scn, .inr (6, [.ref g, .int (-1), .ref td])), (g, .inr (3, [.ref gc, .ref ga1, .ref ga2, .ref ga3, .ref ga4, .ref ga5, .ref ga6, .ref ga7, .ref ga8, .int 0, .int 0, .int 0, .int 0, .int (-1)]))] sz) := by
  refine Met.ofW (cc := cX10_outer) (maxL := 3) (ret := (some .boolean)) (by decide) rfl ?_
  intro p e s m args below meth c s₁ B hml hv
  obtain ⟨rfl, hsz, hP, hK, hD0, hN⟩ := hv
  have hx := B.exec
  have hb := B.bytes
  have hr := B.returns
  have hts := atoms_spec (ws := wsX10_outer) B.pre
  have hown : s.vm.findClass RX10 = some m.cls := findClass_of_methodNamed B.named
  have hlocks := B.notSynchronized
  subst hsz
  have hD := hD0.self (sz := s.heap.size)
  generalize hAe : va_A [(h0, .inr (9, [.ref tp, .int 0, .ref tok, .ref sp, .ref rdr, .int 0, .int (-1), .ref scn, .ref fct, .ref rnr, .ref trl, .ref mnd, .ref rrw])), (scn, .inr (6, [.ref g, .int (-1), .ref td])), (g, .inr (3, [.ref gc, .ref ga1, .ref ga2, .ref ga3, .ref ga4, .ref ga5, .ref ga6, .ref ga7, .ref ga8, .int 0, .int 0, .int 0, .int 0, .int (-1)]))] s.heap.size = A at hD ⊢
  have hA : ∀ q : Nat, s.heap.size ≤ q → A q := fun q h => by rw [← hAe]; exact Or.inr h
  have hl := lv_entry ([.ref h0, .int a, .int b]) (n := 3) (Nat.le_of_ble_eq_true rfl)
  rw [lg_entry_eq]
  generalize (lg_sl ([.ref h0, .int a, .int b]) ++ List.replicate (3 - (lg_sl ([.ref h0, .int a, .int b])).length) Slot.unset).toArray = ls at hl ⊢
  have hl : lv_has ls 3 [(0, .ref h0), (1, .int a), (2, .int b)] := hl
  refine k_H (A := A) hP (fun H hP hS => ?_)
  have hP : va_P (dC, dI) vwCl [(h0, .inr (9, [.ref tp, .int 0, .ref tok, .ref sp, .ref rdr, .int 0, .int (-1), .ref scn, .ref fct, .ref rnr, .ref trl, .ref mnd, .ref rrw])), (scn, .inr (6, [.ref g, .int (-1), .ref td])), (g, .inr (3, [.ref gc, .ref ga1, .ref ga2, .ref ga3, .ref ga4, .ref ga5, .ref ga6, .ref ga7, .ref ga8, .int 0, .int 0, .int 0, .int 0, .int (-1)]))] H := hP
  have hD : va_D A [(h0, .inr (9, [.ref tp, .int 0, .ref tok, .ref sp, .ref rdr, .int 0, .int (-1), .ref scn, .ref fct, .ref rnr, .ref trl, .ref mnd, .ref rrw])), (scn, .inr (6, [.ref g, .int (-1), .ref td])), (g, .inr (3, [.ref gc, .ref ga1, .ref ga2, .ref ga3, .ref ga4, .ref ga5, .ref ga6, .ref ga7, .ref ga8, .int 0, .int 0, .int 0, .int 0, .int (-1)]))] := hD
  refine lv_iload_n hx hb dX10_outer_0 rfl (lv_at hl 1 rfl) ?_
  refine lv_if_lt (tgt := 25) hx hb dX10_outer_1 (by decide) (fun c_211 => ?_) (fun c_211 => ?_)
  · refine lv_iconst (v := 0) hx hb dX10_outer_25 (by decide) ?_
    have hP9 := hP.sub (ws' := []) [] rfl
    have hD9 := hD.sub (ws' := []) [] (by decide) rfl
    exact W.zret (v := 0) (ty := .boolean) hx hb hr rfl (fun t ht hW => ⟨⟨0, (), rfl, rfl, by rw [ht]; exact hP9, hD9⟩, hS.F ht⟩) hS.2.2 dX10_outer_26
  · refine lv_iload_n hx hb dX10_outer_4 rfl (lv_at hl 1 rfl) ?_
    refine lv_aload_n hx hb dX10_outer_5 rfl (lv_at hl 0 rfl) ?_
    refine va_get (D := (dC, dI)) (ci := 9) (v := .ref scn) (C := RX10) (T := TX10) (N := 13) hx hb hts iwwsX10_outer_10 hown hK hP 0 rfl rfl 7 (by decide) (hts (.fieldLink RX10 45 "NothingJudge" "scene" "LNothingJudge$Scene;") fwwsX10_outer_45) (fun _ h9 => h9) rfl dX10_outer_6 ?_
    have hPc := hP.sub (ws' := [(scn, .inr (6, [.ref g, .int (-1), .ref td])), (g, .inr (3, [.ref gc, .ref ga1, .ref ga2, .ref ga3, .ref ga4, .ref ga5, .ref ga6, .ref ga7, .ref ga8, .int 0, .int 0, .int 0, .int 0, .int (-1)]))]) [1, 2] rfl
    have hDc := hD.sub (ws' := [(scn, .inr (6, [.ref g, .int (-1), .ref td])), (g, .inr (3, [.ref gc, .ref ga1, .ref ga2, .ref ga3, .ref ga4, .ref ga5, .ref ga6, .ref ga7, .ref ga8, .int 0, .int 0, .int 0, .int 0, .int (-1)]))]) [1, 2] (by decide) rfl
    have hFc := va_free (wc := [(scn, .inr (6, [.ref g, .int (-1), .ref td])), (g, .inr (3, [.ref gc, .ref ga1, .ref ga2, .ref ga3, .ref ga4, .ref ga5, .ref ga6, .ref ga7, .ref ga8, .int 0, .int 0, .int 0, .int 0, .int (-1)]))]) hD hS hA [1, 2] rfl
    refine va_calli (va_runV (As := []) (rest := [.int a]) ⟨hx, hb, hml, hown, hts⟩ (c_outers l dC dI cI cB cL cZ (scn) (g) (td) (gc) (ga1) (ga2) (ga3) (ga4) (ga5) (ga6) (ga7) (ga8) H.size) (cwV 0 hts gX10_outer_X7_outers rfl rfl rfl (by decide +kernel) ⟨Nat.le_of_ble_eq_true rfl, Nat.le_of_ble_eq_true rfl⟩) ⟨cP_fb, va_recv hK hPc (ci := 6) (q0 := 0) rfl rfl, fun U hU hW => cP_pre hPc hK hDc hN U hU hW⟩ rfl rfl hl.1 rfl (lv_room (Nat.le_of_ble_eq_true rfl)) dX10_outer_9 ⟨Nat.le_of_ble_eq_true rfl, Nat.le_of_ble_eq_true rfl⟩) hS (fun q _ h => hFc q h) hFc (fun r_212 u t H1 locs ht hvm hw hB hz1 hk1 hS => ?_)
    obtain ⟨hP1, hD1⟩ := hB
    rw [ht] at hP1
    obtain ⟨hP, hD⟩ := va_join (wr := [(h0, .inr (9, [.ref tp, .int 0, .ref tok, .ref sp, .ref rdr, .int 0, .int (-1), .ref scn, .ref fct, .ref rnr, .ref trl, .ref mnd, .ref rrw]))]) (w1 := [(scn, .inr (6, [.ref g, .int (-1), .ref td])), (g, .inr (3, [.ref gc, .ref ga1, .ref ga2, .ref ga3, .ref ga4, .ref ga5, .ref ga6, .ref ga7, .ref ga8, .int 0, .int 0, .int 0, .int 0, .int (-1)]))]) hP hD [1, 2] [0] rfl rfl (by decide) (by decide) hk1 hFc hP1 hD1
    generalize H1 = H at hP hS ⊢
    have hP : va_P (dC, dI) vwCl [(h0, .inr (9, [.ref tp, .int 0, .ref tok, .ref sp, .ref rdr, .int 0, .int (-1), .ref scn, .ref fct, .ref rnr, .ref trl, .ref mnd, .ref rrw])), (scn, .inr (6, [.ref g, .int (-1), .ref td])), (g, .inr (3, [.ref gc, .ref ga1, .ref ga2, .ref ga3, .ref ga4, .ref ga5, .ref ga6, .ref ga7, .ref ga8, .int 0, .int 0, .int 0, .int 0, .int (-1)]))] H := hP
    have hD : va_D A [(h0, .inr (9, [.ref tp, .int 0, .ref tok, .ref sp, .ref rdr, .int 0, .int (-1), .ref scn, .ref fct, .ref rnr, .ref trl, .ref mnd, .ref rrw])), (scn, .inr (6, [.ref g, .int (-1), .ref td])), (g, .inr (3, [.ref gc, .ref ga1, .ref ga2, .ref ga3, .ref ga4, .ref ga5, .ref ga6, .ref ga7, .ref ga8, .int 0, .int 0, .int 0, .int 0, .int (-1)]))] := hD
    obtain rfl : r_212 = 0 := hw
    refine lv_icmp_ge (tgt := 25) hx hb dX10_outer_12 (by decide) (fun _ => ?_) (fun c9 => absurd (Int32.not_lt.mp c_211) c9)
    refine lv_iconst (v := 0) hx hb dX10_outer_25 (by decide) ?_
    have hP9 := hP.sub (ws' := []) [] rfl
    have hD9 := hD.sub (ws' := []) [] (by decide) rfl
    exact W.zret (v := 0) (ty := .boolean) hx hb hr rfl (fun t ht hW => ⟨⟨0, (), rfl, rfl, by rw [ht]; exact hP9, hD9⟩, hS.F ht⟩) hS.2.2 dX10_outer_26

set_option maxHeartbeats 4000000 in
set_option maxRecDepth 100000 in
theorem c_use (l : Launch) (dC : Nat → ClassId) (dI : Nat → Nat → Nat) (cI cB cL cZ : ClassId) (h0 : Nat) (tp : Nat) (tok : Nat) (sp : Nat) (rdr : Nat) (scn : Nat) (fct : Nat) (rnr : Nat) (trl : Nat) (mnd : Nat) (rrw : Nat) (g : Nat) (td : Nat) (gc : Nat) (ga1 : Nat) (ga2 : Nat) (ga3 : Nat) (ga4 : Nat) (ga5 : Nat) (ga6 : Nat) (ga7 : Nat) (ga8 : Nat) (a : Int32) (b : Int32) (sz : Nat)  : Met l yX10_use wsX10_use ({ frames := 0, cells := 0, slots := 0, locals := 0 }) (cP (dC, dI) (kTy cI cB cL cZ) [.ref h0, .int a, .int b] [(h0, .inr (9, [.ref tp, .int 0, .ref tok, .ref sp, .ref rdr, .int 0, .int (-1), .ref scn, .ref fct, .ref rnr, .ref trl, .ref mnd, .ref rrw])), (scn, .inr (6, [.ref g, .int (-1), .ref td])), (g, .inr (3, [.ref gc, .ref ga1, .ref ga2, .ref ga3, .ref ga4, .ref ga5, .ref ga6, .ref ga7, .ref ga8, .int 0, .int 0, .int 0, .int 0, .int (-1)]))] sz) (va_Qi (fun (r : Int32) (_ : Unit) => r = -1) (fun (_ : Unit) (t : State) => va_P (dC, dI) vwCl [] t.heap ∧ va_D (va_A [(h0, .inr (9, [.ref tp, .int 0, .ref tok, .ref sp, .ref rdr, .int 0, .int (-1), .ref scn, .ref fct, .ref rnr, .ref trl, .ref mnd, .ref rrw])), (scn, .inr (6, [.ref g, .int (-1), .ref td])), (g, .inr (3, [.ref gc, .ref ga1, .ref ga2, .ref ga3, .ref ga4, .ref ga5, .ref ga6, .ref ga7, .ref ga8, .int 0, .int 0, .int 0, .int 0, .int (-1)]))] sz) []) (va_A [(h0, .inr (9, [.ref tp, .int 0, .ref tok, .ref sp, .ref rdr, .int 0, .int (-1), .ref scn, .ref fct, .ref rnr, .ref trl, .ref mnd, .ref rrw])), (scn, .inr (6, [.ref g, .int (-1), .ref td])), (g, .inr (3, [.ref gc, .ref ga1, .ref ga2, .ref ga3, .ref ga4, .ref ga5, .ref ga6, .ref ga7, .ref ga8, .int 0, .int 0, .int 0, .int 0, .int (-1)]))] sz)) 0 0 (va_A [(h0, .inr (9, [.ref tp, .int 0, .ref tok, .ref sp, .ref rdr, .int 0, .int (-1), .ref scn, .ref fct, .ref rnr, .ref trl, .ref mnd, .ref rrw])), (scn, .inr (6, [.ref g, .int (-1), .ref td])), (g, .inr (3, [.ref gc, .ref ga1, .ref ga2, .ref ga3, .ref ga4, .ref ga5, .ref ga6, .ref ga7, .ref ga8, .int 0, .int 0, .int 0, .int 0, .int (-1)]))] sz) := by
  refine Met.ofW (cc := cX10_use) (maxL := 4) (ret := (some .int)) (by decide) rfl ?_
  intro p e s m args below meth c s₁ B hml hv
  obtain ⟨rfl, hsz, hP, hK, hD0, hN⟩ := hv
  have hx := B.exec
  have hb := B.bytes
  have hr := B.returns
  have hts := atoms_spec (ws := wsX10_use) B.pre
  have hown : s.vm.findClass RX10 = some m.cls := findClass_of_methodNamed B.named
  have hlocks := B.notSynchronized
  subst hsz
  have hD := hD0.self (sz := s.heap.size)
  generalize hAe : va_A [(h0, .inr (9, [.ref tp, .int 0, .ref tok, .ref sp, .ref rdr, .int 0, .int (-1), .ref scn, .ref fct, .ref rnr, .ref trl, .ref mnd, .ref rrw])), (scn, .inr (6, [.ref g, .int (-1), .ref td])), (g, .inr (3, [.ref gc, .ref ga1, .ref ga2, .ref ga3, .ref ga4, .ref ga5, .ref ga6, .ref ga7, .ref ga8, .int 0, .int 0, .int 0, .int 0, .int (-1)]))] s.heap.size = A at hD ⊢
  have hA : ∀ q : Nat, s.heap.size ≤ q → A q := fun q h => by rw [← hAe]; exact Or.inr h
  have hl := lv_entry ([.ref h0, .int a, .int b]) (n := 4) (Nat.le_of_ble_eq_true rfl)
  rw [lg_entry_eq]
  generalize (lg_sl ([.ref h0, .int a, .int b]) ++ List.replicate (4 - (lg_sl ([.ref h0, .int a, .int b])).length) Slot.unset).toArray = ls at hl ⊢
  have hl : lv_has ls 4 [(0, .ref h0), (1, .int a), (2, .int b)] := hl
  refine k_H (A := A) hP (fun H hP hS => ?_)
  have hP : va_P (dC, dI) vwCl [(h0, .inr (9, [.ref tp, .int 0, .ref tok, .ref sp, .ref rdr, .int 0, .int (-1), .ref scn, .ref fct, .ref rnr, .ref trl, .ref mnd, .ref rrw])), (scn, .inr (6, [.ref g, .int (-1), .ref td])), (g, .inr (3, [.ref gc, .ref ga1, .ref ga2, .ref ga3, .ref ga4, .ref ga5, .ref ga6, .ref ga7, .ref ga8, .int 0, .int 0, .int 0, .int 0, .int (-1)]))] H := hP
  have hD : va_D A [(h0, .inr (9, [.ref tp, .int 0, .ref tok, .ref sp, .ref rdr, .int 0, .int (-1), .ref scn, .ref fct, .ref rnr, .ref trl, .ref mnd, .ref rrw])), (scn, .inr (6, [.ref g, .int (-1), .ref td])), (g, .inr (3, [.ref gc, .ref ga1, .ref ga2, .ref ga3, .ref ga4, .ref ga5, .ref ga6, .ref ga7, .ref ga8, .int 0, .int 0, .int 0, .int 0, .int (-1)]))] := hD
  refine lv_aload_n hx hb dX10_use_0 rfl (lv_at hl 0 rfl) ?_
  refine va_get (D := (dC, dI)) (ci := 9) (v := .ref scn) (C := RX10) (T := TX10) (N := 13) hx hb hts iwwsX10_use_10 hown hK hP 0 rfl rfl 7 (by decide) (hts (.fieldLink RX10 45 "NothingJudge" "scene" "LNothingJudge$Scene;") fwwsX10_use_45) (fun _ h9 => h9) rfl dX10_use_1 ?_
  refine va_get (D := (dC, dI)) (ci := 6) (v := .ref g) (C := RX7) (T := TX7) (N := 3) hx hb hts iwwsX10_use_7 hown hK hP 1 rfl rfl 0 (by decide) (hts (.fieldLink RX10 110 "NothingJudge$Scene" "program" "LNothingJudge$Program;") fwwsX10_use_110) (fun _ h9 => h9) rfl dX10_use_4 ?_
  refine lv_astore_n (lv' := [(3, .ref g), (0, .ref h0), (1, .int a), (2, .int b)]) hx hb dX10_use_7 rfl hl (by decide) rfl (fun ls hl => ?_)
  refine lv_iload_n hx hb dX10_use_8 rfl (lv_at hl 2 rfl) ?_
  refine lv_if_lt (tgt := 20) hx hb dX10_use_9 (by decide) (fun c_213 => ?_) (fun c_213 => ?_)
  · refine lv_iconst (v := (-1)) hx hb dX10_use_20 (by decide) ?_
    have hP9 := hP.sub (ws' := []) [] rfl
    have hD9 := hD.sub (ws' := []) [] (by decide) rfl
    exact W.iret (v := (-1)) hx hb hr (fun t ht hW => ⟨⟨(-1), (), rfl, rfl, by rw [ht]; exact hP9, hD9⟩, hS.F ht⟩) hS.2.2 dX10_use_21
  · refine lv_iload_n hx hb dX10_use_12 rfl (lv_at hl 2 rfl) ?_
    refine lv_aload_n hx hb dX10_use_13 rfl (lv_at hl 0 rfl) ?_
    refine va_get (D := (dC, dI)) (ci := 3) (v := .int 0) (C := RX3) (T := TX3) (N := 14) hx hb hts iwwsX10_use_3 hown hK hP 2 rfl rfl 11 (by decide) (hts (.fieldLink RX10 157 "NothingJudge$Program" "uses" "I") fwwsX10_use_157) (fun _ h9 => h9) rfl dX10_use_14 ?_
    refine lv_icmp_lt (tgt := 22) hx hb dX10_use_17 (by decide) (fun c9 => absurd c9 c_213) (fun _ => ?_)
    refine lv_iconst (v := (-1)) hx hb dX10_use_20 (by decide) ?_
    have hP9 := hP.sub (ws' := []) [] rfl
    have hD9 := hD.sub (ws' := []) [] (by decide) rfl
    exact W.iret (v := (-1)) hx hb hr (fun t ht hW => ⟨⟨(-1), (), rfl, rfl, by rw [ht]; exact hP9, hD9⟩, hS.F ht⟩) hS.2.2 dX10_use_21
