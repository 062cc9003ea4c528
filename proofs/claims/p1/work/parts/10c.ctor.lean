set_option maxHeartbeats 4000000 in
set_option maxRecDepth 100000 in
theorem c_X2_init (l : Launch) (dC : Nat → ClassId) (dI : Nat → Nat → Nat) (cI cB cL cZ : ClassId) (h0 : Nat) (fc : Nat) (sz : Nat)  : Met l yX2_init wsX2_init ({ frames := 1, cells := 3, slots := 24, locals := 12 }) (cP (dC, dI) (kTy cI cB cL cZ) [.ref h0, .ref fc] [(h0, .inr (2, [.null, .null, .null, .null, .int 0, .int 0, .int 0, .int 0, .int 0, .int 0]))] sz) (va_Qv (fun _ : Unit => True) (fun (_ : Unit) (t : State) => ∃ qz0 : Nat, ∃ qz1 : Nat, ∃ qz2 : Nat, ∃ fz3 : Nat → Int32, va_P (dC, dI) vwCl [(h0, .inr (2, [.ref fc, .ref qz0, .ref qz1, .ref qz2, .int 1, .int 0, .int 0, .int (-1), .int 0, .int 0])), (qz0, .inl (cI, 4, .inl fz3))] t.heap ∧ va_D (va_A [(h0, .inr (2, [.null, .null, .null, .null, .int 0, .int 0, .int 0, .int 0, .int 0, .int 0]))] sz) [(h0, .inr (2, [.ref fc, .ref qz0, .ref qz1, .ref qz2, .int 1, .int 0, .int 0, .int (-1), .int 0, .int 0])), (qz0, .inl (cI, 4, .inl fz3))]) (va_A [(h0, .inr (2, [.null, .null, .null, .null, .int 0, .int 0, .int 0, .int 0, .int 0, .int 0]))] sz)) 3 24 (va_A [(h0, .inr (2, [.null, .null, .null, .null, .int 0, .int 0, .int 0, .int 0, .int 0, .int 0]))] sz) := by
  refine Met.ofW (cc := cX2_init) (maxL := 2) (ret := none) (by decide) rfl ?_
  intro p e s m args below meth c s₁ B hml hv
  obtain ⟨rfl, hsz, hP, hK, hD0, hN⟩ := hv
  have hx := B.exec
  have hb := B.bytes
  have hr := B.returns
  have hts := atoms_spec (ws := wsX2_init) B.pre
  have hown : s.vm.findClass RX2 = some m.cls := findClass_of_methodNamed B.named
  have hlocks := B.notSynchronized
  have hin : meth.name = "<init>" := (name_of_methodNamed B.named B.method).1
  subst hsz
  have hD := hD0.self (sz := s.heap.size)
  generalize hAe : va_A [(h0, .inr (2, [.null, .null, .null, .null, .int 0, .int 0, .int 0, .int 0, .int 0, .int 0]))] s.heap.size = A at hD ⊢
  have hA : ∀ q : Nat, s.heap.size ≤ q → A q := fun q h => by rw [← hAe]; exact Or.inr h
  have hl := lv_entry ([.ref h0, .ref fc]) (n := 2) (Nat.le_of_ble_eq_true rfl)
  rw [lg_entry_eq]
  generalize (lg_sl ([.ref h0, .ref fc]) ++ List.replicate (2 - (lg_sl ([.ref h0, .ref fc])).length) Slot.unset).toArray = ls at hl ⊢
  have hl : lv_has ls 2 [(0, .ref h0), (1, .ref fc)] := hl
  refine k_H (A := A) hP (fun H hP hS => ?_)
  have hP : va_P (dC, dI) vwCl [(h0, .inr (2, [.null, .null, .null, .null, .int 0, .int 0, .int 0, .int 0, .int 0, .int 0]))] H := hP
  have hD : va_D A [(h0, .inr (2, [.null, .null, .null, .null, .int 0, .int 0, .int 0, .int 0, .int 0, .int 0]))] := hD
  refine lv_aload_n hx hb dX2_init_0 rfl (lv_at hl 0 rfl) ?_
  refine W.objInit hx hb hown (hts (.methodLink RX2 3 objectInit) ol_wsX2_init) (hts (.instanceMethod objectInit) oi_wsX2_init) (hts (.code objectInit ⟨#[0xb1]⟩ 1 none) oc_wsX2_init) rfl (by rw [hml]; exact hl.1) rfl dX2_init_1 (Nat.le_of_ble_eq_true rfl) (Nat.le_of_ble_eq_true rfl) ?_
  refine W.eq (g2 := F0 m 4 ls []) rfl ?_
  refine lv_aload_n hx hb dX2_init_4 rfl (lv_at hl 0 rfl) ?_
  refine lv_iconst (v := 4) hx hb dX2_init_5 (by decide) ?_
  refine k_newa (atype := .int) hx hb (hts (.arrayClass .int) ac_int_wsX2_init) rfl hK 0 rfl (fun _ h9 => h9) (a0 := (4, .inl (fun _ => 0))) (N' := 4) hP hD hS hA (fun _ => rfl) (by decide) (by decide) (by decide) (Nat.le_of_ble_eq_true rfl) (Nat.le_of_ble_eq_true rfl) dX2_init_6 (fun q_27 H hP hD hS => ?_)
  have hP : va_P (dC, dI) vwCl [(h0, .inr (2, [.null, .null, .null, .null, .int 0, .int 0, .int 0, .int 0, .int 0, .int 0])), (q_27, .inl (cI, 4, .inl (fun _ => 0)))] H := hP
  have hD : va_D A [(h0, .inr (2, [.null, .null, .null, .null, .int 0, .int 0, .int 0, .int 0, .int 0, .int 0])), (q_27, .inl (cI, 4, .inl (fun _ => 0)))] := hD
  refine W.widen (k := 1) (n := 4) (Nat.le_of_ble_eq_true rfl) (Nat.le_of_ble_eq_true rfl) ?_
  refine lv_dup hx hb dX2_init_8 rfl ?_
  refine lv_iconst (v := 0) hx hb dX2_init_9 (by decide) ?_
  refine lv_iconst (v := 3) hx hb dX2_init_10 (by decide) ?_
  refine va_iast hx hb hK hP hD hS 1 0 rfl rfl (by unfold vp_in; decide) dX2_init_11 (fun H locs hP hD hS => ?_)
  obtain ⟨f_28, ef_28⟩ : ∃ z, z = upd (fun _ => 0) (0 : Int32).toNatClampNeg 3 := ⟨_, rfl⟩
  have hP : va_P (dC, dI) vwCl [(h0, .inr (2, [.null, .null, .null, .null, .int 0, .int 0, .int 0, .int 0, .int 0, .int 0])), (q_27, .inl (cI, 4, .inl f_28))] H := by rw [ef_28]; exact hP
  have hD : va_D A [(h0, .inr (2, [.null, .null, .null, .null, .int 0, .int 0, .int 0, .int 0, .int 0, .int 0])), (q_27, .inl (cI, 4, .inl f_28))] := by rw [ef_28]; exact hD
  refine lv_dup hx hb dX2_init_12 rfl ?_
  refine lv_iconst (v := 1) hx hb dX2_init_13 (by decide) ?_
  refine lv_iconst (v := 2) hx hb dX2_init_14 (by decide) ?_
  refine va_iast hx hb hK hP hD hS 1 0 rfl rfl (by unfold vp_in; decide) dX2_init_15 (fun H locs hP hD hS => ?_)
  obtain ⟨f_29, ef_29⟩ : ∃ z, z = upd f_28 (1 : Int32).toNatClampNeg 2 := ⟨_, rfl⟩
  have hP : va_P (dC, dI) vwCl [(h0, .inr (2, [.null, .null, .null, .null, .int 0, .int 0, .int 0, .int 0, .int 0, .int 0])), (q_27, .inl (cI, 4, .inl f_29))] H := by rw [ef_29]; exact hP
  have hD : va_D A [(h0, .inr (2, [.null, .null, .null, .null, .int 0, .int 0, .int 0, .int 0, .int 0, .int 0])), (q_27, .inl (cI, 4, .inl f_29))] := by rw [ef_29]; exact hD
  refine lv_dup hx hb dX2_init_16 rfl ?_
  refine lv_iconst (v := 2) hx hb dX2_init_17 (by decide) ?_
  refine lv_iconst (v := 5) hx hb dX2_init_18 (by decide) ?_
  refine va_iast hx hb hK hP hD hS 1 0 rfl rfl (by unfold vp_in; decide) dX2_init_19 (fun H locs hP hD hS => ?_)
  obtain ⟨f_30, ef_30⟩ : ∃ z, z = upd f_29 (2 : Int32).toNatClampNeg 5 := ⟨_, rfl⟩
  have hP : va_P (dC, dI) vwCl [(h0, .inr (2, [.null, .null, .null, .null, .int 0, .int 0, .int 0, .int 0, .int 0, .int 0])), (q_27, .inl (cI, 4, .inl f_30))] H := by rw [ef_30]; exact hP
  have hD : va_D A [(h0, .inr (2, [.null, .null, .null, .null, .int 0, .int 0, .int 0, .int 0, .int 0, .int 0])), (q_27, .inl (cI, 4, .inl f_30))] := by rw [ef_30]; exact hD
  refine lv_dup hx hb dX2_init_20 rfl ?_
  refine lv_iconst (v := 3) hx hb dX2_init_21 (by decide) ?_
  refine lv_iconst (v := 4) hx hb dX2_init_22 (by decide) ?_
  refine va_iast hx hb hK hP hD hS 1 0 rfl rfl (by unfold vp_in; decide) dX2_init_23 (fun H locs hP hD hS => ?_)
  obtain ⟨f_31, ef_31⟩ : ∃ z, z = upd f_30 (3 : Int32).toNatClampNeg 4 := ⟨_, rfl⟩
  have hP : va_P (dC, dI) vwCl [(h0, .inr (2, [.null, .null, .null, .null, .int 0, .int 0, .int 0, .int 0, .int 0, .int 0])), (q_27, .inl (cI, 4, .inl f_31))] H := by rw [ef_31]; exact hP
  have hD : va_D A [(h0, .inr (2, [.null, .null, .null, .null, .int 0, .int 0, .int 0, .int 0, .int 0, .int 0])), (q_27, .inl (cI, 4, .inl f_31))] := by rw [ef_31]; exact hD
  refine va_putF (D := (dC, dI)) (ci := 2) (v := .ref q_27) (ty := .array .int) (C := RX2) (T := TX2) (N := 10) hx hb hts iwwsX2_init_2 tyX2 tyX2_ok nmX2 hown hK hP hD hS 0 rfl rfl 1 (by decide) (hts (.fieldLink RX2 9 "NothingJudge$Mender" "prices" "[I") fwwsX2_init_9) (fun _ h9 => h9) rfl hin rfl (by decide +kernel) rfl rfl (Nat.le_of_ble_eq_true rfl) dX2_init_24 (fun H locs hP hD hS => ?_)
  have hP : va_P (dC, dI) vwCl [(h0, .inr (2, [.null, .ref q_27, .null, .null, .int 0, .int 0, .int 0, .int 0, .int 0, .int 0])), (q_27, .inl (cI, 4, .inl f_31))] H := hP
  have hD : va_D A [(h0, .inr (2, [.null, .ref q_27, .null, .null, .int 0, .int 0, .int 0, .int 0, .int 0, .int 0])), (q_27, .inl (cI, 4, .inl f_31))] := hD
  refine lv_aload_n hx hb dX2_init_27 rfl (lv_at hl 0 rfl) ?_
  refine lv_bipush (v := 10) hx hb dX2_init_28 (by decide) ?_
  refine k_newa (atype := .int) hx hb (hts (.arrayClass .int) ac_int_wsX2_init) rfl hK 0 rfl (fun _ h9 => h9) (a0 := (10, .inl (fun _ => 0))) (N' := 10) hP hD hS hA (fun _ => rfl) (by decide) (by decide) (by decide) (Nat.le_of_ble_eq_true rfl) (Nat.le_of_ble_eq_true rfl) dX2_init_30 (fun q_32 H hP hD hS => ?_)
  have hP : va_P (dC, dI) vwCl [(h0, .inr (2, [.null, .ref q_27, .null, .null, .int 0, .int 0, .int 0, .int 0, .int 0, .int 0])), (q_27, .inl (cI, 4, .inl f_31)), (q_32, .inl (cI, 10, .inl (fun _ => 0)))] H := hP
  have hD : va_D A [(h0, .inr (2, [.null, .ref q_27, .null, .null, .int 0, .int 0, .int 0, .int 0, .int 0, .int 0])), (q_27, .inl (cI, 4, .inl f_31)), (q_32, .inl (cI, 10, .inl (fun _ => 0)))] := hD
  refine W.widen (k := 2) (n := 14) (Nat.le_of_ble_eq_true rfl) (Nat.le_of_ble_eq_true rfl) ?_
  refine va_putF (D := (dC, dI)) (ci := 2) (v := .ref q_32) (ty := .array .int) (C := RX2) (T := TX2) (N := 10) hx hb hts iwwsX2_init_2 tyX2 tyX2_ok nmX2 hown hK hP hD hS 0 rfl rfl 2 (by decide) (hts (.fieldLink RX2 15 "NothingJudge$Mender" "candidates" "[I") fwwsX2_init_15) (fun _ h9 => h9) rfl hin rfl (by decide +kernel) rfl rfl (Nat.le_of_ble_eq_true rfl) dX2_init_32 (fun H locs hP hD hS => ?_)
  have hP : va_P (dC, dI) vwCl [(h0, .inr (2, [.null, .ref q_27, .ref q_32, .null, .int 0, .int 0, .int 0, .int 0, .int 0, .int 0])), (q_27, .inl (cI, 4, .inl f_31)), (q_32, .inl (cI, 10, .inl (fun _ => 0)))] H := hP
  have hD : va_D A [(h0, .inr (2, [.null, .ref q_27, .ref q_32, .null, .int 0, .int 0, .int 0, .int 0, .int 0, .int 0])), (q_27, .inl (cI, 4, .inl f_31)), (q_32, .inl (cI, 10, .inl (fun _ => 0)))] := hD
  refine lv_aload_n hx hb dX2_init_35 rfl (lv_at hl 0 rfl) ?_
  refine lv_bipush (v := 10) hx hb dX2_init_36 (by decide) ?_
  refine k_newa (atype := .int) hx hb (hts (.arrayClass .int) ac_int_wsX2_init) rfl hK 0 rfl (fun _ h9 => h9) (a0 := (10, .inl (fun _ => 0))) (N' := 10) hP hD hS hA (fun _ => rfl) (by decide) (by decide) (by decide) (Nat.le_of_ble_eq_true rfl) (Nat.le_of_ble_eq_true rfl) dX2_init_38 (fun q_33 H hP hD hS => ?_)
  have hP : va_P (dC, dI) vwCl [(h0, .inr (2, [.null, .ref q_27, .ref q_32, .null, .int 0, .int 0, .int 0, .int 0, .int 0, .int 0])), (q_27, .inl (cI, 4, .inl f_31)), (q_32, .inl (cI, 10, .inl (fun _ => 0))), (q_33, .inl (cI, 10, .inl (fun _ => 0)))] H := hP
  have hD : va_D A [(h0, .inr (2, [.null, .ref q_27, .ref q_32, .null, .int 0, .int 0, .int 0, .int 0, .int 0, .int 0])), (q_27, .inl (cI, 4, .inl f_31)), (q_32, .inl (cI, 10, .inl (fun _ => 0))), (q_33, .inl (cI, 10, .inl (fun _ => 0)))] := hD
  refine W.widen (k := 3) (n := 24) (Nat.le_of_ble_eq_true rfl) (Nat.le_of_ble_eq_true rfl) ?_
  refine va_putF (D := (dC, dI)) (ci := 2) (v := .ref q_33) (ty := .array .int) (C := RX2) (T := TX2) (N := 10) hx hb hts iwwsX2_init_2 tyX2 tyX2_ok nmX2 hown hK hP hD hS 0 rfl rfl 3 (by decide) (hts (.fieldLink RX2 18 "NothingJudge$Mender" "heldNames" "[I") fwwsX2_init_18) (fun _ h9 => h9) rfl hin rfl (by decide +kernel) rfl rfl (Nat.le_of_ble_eq_true rfl) dX2_init_40 (fun H locs hP hD hS => ?_)
  have hP : va_P (dC, dI) vwCl [(h0, .inr (2, [.null, .ref q_27, .ref q_32, .ref q_33, .int 0, .int 0, .int 0, .int 0, .int 0, .int 0])), (q_27, .inl (cI, 4, .inl f_31)), (q_32, .inl (cI, 10, .inl (fun _ => 0))), (q_33, .inl (cI, 10, .inl (fun _ => 0)))] H := hP
  have hD : va_D A [(h0, .inr (2, [.null, .ref q_27, .ref q_32, .ref q_33, .int 0, .int 0, .int 0, .int 0, .int 0, .int 0])), (q_27, .inl (cI, 4, .inl f_31)), (q_32, .inl (cI, 10, .inl (fun _ => 0))), (q_33, .inl (cI, 10, .inl (fun _ => 0)))] := hD
  refine lv_aload_n hx hb dX2_init_43 rfl (lv_at hl 0 rfl) ?_
  refine lv_iconst (v := 1) hx hb dX2_init_44 (by decide) ?_
  refine va_put (D := (dC, dI)) (ci := 2) (v := .int 1) (ty := .boolean) (C := RX2) (T := TX2) (N := 10) hx hb hts iwwsX2_init_2 tyX2 tyX2_ok nmX2 hown hK hP hD hS 0 rfl rfl 4 (by decide) (hts (.fieldLink RX2 21 "NothingJudge$Mender" "stale" "Z") fwwsX2_init_21) (fun _ h9 => h9) rfl (by decide +kernel) rfl rfl (Nat.le_of_ble_eq_true rfl) dX2_init_45 (fun H locs hP hD hS => ?_)
  have hP : va_P (dC, dI) vwCl [(h0, .inr (2, [.null, .ref q_27, .ref q_32, .ref q_33, .int 1, .int 0, .int 0, .int 0, .int 0, .int 0])), (q_27, .inl (cI, 4, .inl f_31)), (q_32, .inl (cI, 10, .inl (fun _ => 0))), (q_33, .inl (cI, 10, .inl (fun _ => 0)))] H := hP
  have hD : va_D A [(h0, .inr (2, [.null, .ref q_27, .ref q_32, .ref q_33, .int 1, .int 0, .int 0, .int 0, .int 0, .int 0])), (q_27, .inl (cI, 4, .inl f_31)), (q_32, .inl (cI, 10, .inl (fun _ => 0))), (q_33, .inl (cI, 10, .inl (fun _ => 0)))] := hD
  refine lv_aload_n hx hb dX2_init_48 rfl (lv_at hl 0 rfl) ?_
  refine lv_iconst (v := (-1)) hx hb dX2_init_49 (by decide) ?_
  refine va_put (D := (dC, dI)) (ci := 2) (v := .int (-1)) (ty := .int) (C := RX2) (T := TX2) (N := 10) hx hb hts iwwsX2_init_2 tyX2 tyX2_ok nmX2 hown hK hP hD hS 0 rfl rfl 7 (by decide) (hts (.fieldLink RX2 25 "NothingJudge$Mender" "cost" "I") fwwsX2_init_25) (fun _ h9 => h9) rfl (by decide +kernel) rfl rfl (Nat.le_of_ble_eq_true rfl) dX2_init_50 (fun H locs hP hD hS => ?_)
  have hP : va_P (dC, dI) vwCl [(h0, .inr (2, [.null, .ref q_27, .ref q_32, .ref q_33, .int 1, .int 0, .int 0, .int (-1), .int 0, .int 0])), (q_27, .inl (cI, 4, .inl f_31)), (q_32, .inl (cI, 10, .inl (fun _ => 0))), (q_33, .inl (cI, 10, .inl (fun _ => 0)))] H := hP
  have hD : va_D A [(h0, .inr (2, [.null, .ref q_27, .ref q_32, .ref q_33, .int 1, .int 0, .int 0, .int (-1), .int 0, .int 0])), (q_27, .inl (cI, 4, .inl f_31)), (q_32, .inl (cI, 10, .inl (fun _ => 0))), (q_33, .inl (cI, 10, .inl (fun _ => 0)))] := hD
  refine lv_aload_n hx hb dX2_init_53 rfl (lv_at hl 0 rfl) ?_
  refine lv_aload_n hx hb dX2_init_54 rfl (lv_at hl 1 rfl) ?_
  refine va_putF (D := (dC, dI)) (ci := 2) (v := .ref fc) (ty := .object "NothingJudge$Facts") (C := RX2) (T := TX2) (N := 10) hx hb hts iwwsX2_init_2 tyX2 tyX2_ok nmX2 hown hK hP hD hS 0 rfl rfl 0 (by decide) (hts (.fieldLink RX2 29 "NothingJudge$Mender" "facts" "LNothingJudge$Facts;") fwwsX2_init_29) (fun _ h9 => h9) rfl hin rfl (by decide +kernel) rfl rfl (Nat.le_of_ble_eq_true rfl) dX2_init_55 (fun H locs hP hD hS => ?_)
  have hP : va_P (dC, dI) vwCl [(h0, .inr (2, [.ref fc, .ref q_27, .ref q_32, .ref q_33, .int 1, .int 0, .int 0, .int (-1), .int 0, .int 0])), (q_27, .inl (cI, 4, .inl f_31)), (q_32, .inl (cI, 10, .inl (fun _ => 0))), (q_33, .inl (cI, 10, .inl (fun _ => 0)))] H := hP
  have hD : va_D A [(h0, .inr (2, [.ref fc, .ref q_27, .ref q_32, .ref q_33, .int 1, .int 0, .int 0, .int (-1), .int 0, .int 0])), (q_27, .inl (cI, 4, .inl f_31)), (q_32, .inl (cI, 10, .inl (fun _ => 0))), (q_33, .inl (cI, 10, .inl (fun _ => 0)))] := hD
  have hP9 := hP.sub (ws' := [(h0, .inr (2, [.ref fc, .ref q_27, .ref q_32, .ref q_33, .int 1, .int 0, .int 0, .int (-1), .int 0, .int 0])), (q_27, .inl (cI, 4, .inl f_31))]) [0, 1] rfl
  have hD9 := hD.sub (ws' := [(h0, .inr (2, [.ref fc, .ref q_27, .ref q_32, .ref q_33, .int 1, .int 0, .int 0, .int (-1), .int 0, .int 0])), (q_27, .inl (cI, 4, .inl f_31))]) [0, 1] (by decide) rfl
  exact W.vret hx hb hr (fun t ht hW => ⟨⟨(), rfl, trivial, q_27, q_32, q_33, f_31, by rw [ht]; exact hP9, hD9⟩, hS.F ht⟩) hS.2.2 dX2_init_58
