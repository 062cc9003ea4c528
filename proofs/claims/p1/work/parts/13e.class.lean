set_option maxHeartbeats 4000000 in
set_option maxRecDepth 100000 in
theorem c_clear (l : Launch) (dC : Nat → ClassId) (dI : Nat → Nat → Nat) (cI cB cL cZ : ClassId) (h0 : Nat) (sc : Nat) (g : Nat) (td : Nat) (gc : Nat) (st : Nat) (se : Nat) (mk : Nat) (us : Nat) (te : Nat) (ga1 : Nat) (ga2 : Nat) (ga3 : Nat) (ga4 : Nat) (ga5 : Nat) (ga6 : Nat) (ga7 : Nat) (ga8 : Nat) (f1 : Nat → Int64) (f2 : Nat → Int32) (f3 : Nat → Int32) (f4 : Nat → Int32) (f5 : Nat → Int32) (sz : Nat)  : Met l yX1_clear wsX1_clear ({ frames := 1, cells := 0, slots := 0, locals := 24 }) (cP (dC, dI) (kTy cI cB cL cZ) [.ref h0] [(h0, .inr (1, [.ref sc, .ref st, .ref se, .ref mk, .ref us, .ref te, .ref g, .ref gc, .int 1, .int 0, .int 0, .int 0, .long 0, .long 0])), (sc, .inr (6, [.ref g, .int (-1), .ref td])), (g, .inr (3, [.ref gc, .ref ga1, .ref ga2, .ref ga3, .ref ga4, .ref ga5, .ref ga6, .ref ga7, .ref ga8, .int 0, .int 0, .int 0, .int 0, .int (-1)])), (st, .inl (cL, 304, .inr (.inl f1))), (se, .inl (cI, 304, .inl f2)), (mk, .inl (cI, 42, .inl f3)), (us, .inl (cI, 40, .inl f4)), (te, .inl (cI, 24, .inl f5))] sz) (va_Qv (fun _ : Unit => True) (fun (_ : Unit) (t : State) => ∃ fz0 : Nat → Int32, (∀ j, j < 42 → fz0 j = 0) ∧ va_P (dC, dI) vwCl [(h0, .inr (1, [.ref sc, .ref st, .ref se, .ref mk, .ref us, .ref te, .ref g, .ref gc, .int 1, .int 0, .int 0, .int 1, .long 0, .long 0])), (sc, .inr (6, [.ref g, .int (-1), .ref td])), (g, .inr (3, [.ref gc, .ref ga1, .ref ga2, .ref ga3, .ref ga4, .ref ga5, .ref ga6, .ref ga7, .ref ga8, .int 0, .int 0, .int 0, .int 0, .int (-1)])), (mk, .inl (cI, 42, .inl fz0))] t.heap ∧ va_D (va_A [(h0, .inr (1, [.ref sc, .ref st, .ref se, .ref mk, .ref us, .ref te, .ref g, .ref gc, .int 1, .int 0, .int 0, .int 0, .long 0, .long 0])), (sc, .inr (6, [.ref g, .int (-1), .ref td])), (g, .inr (3, [.ref gc, .ref ga1, .ref ga2, .ref ga3, .ref ga4, .ref ga5, .ref ga6, .ref ga7, .ref ga8, .int 0, .int 0, .int 0, .int 0, .int (-1)])), (st, .inl (cL, 304, .inr (.inl f1))), (se, .inl (cI, 304, .inl f2)), (mk, .inl (cI, 42, .inl f3)), (us, .inl (cI, 40, .inl f4)), (te, .inl (cI, 24, .inl f5))] sz) [(h0, .inr (1, [.ref sc, .ref st, .ref se, .ref mk, .ref us, .ref te, .ref g, .ref gc, .int 1, .int 0, .int 0, .int 1, .long 0, .long 0])), (sc, .inr (6, [.ref g, .int (-1), .ref td])), (g, .inr (3, [.ref gc, .ref ga1, .ref ga2, .ref ga3, .ref ga4, .ref ga5, .ref ga6, .ref ga7, .ref ga8, .int 0, .int 0, .int 0, .int 0, .int (-1)])), (mk, .inl (cI, 42, .inl fz0))]) (va_A [(h0, .inr (1, [.ref sc, .ref st, .ref se, .ref mk, .ref us, .ref te, .ref g, .ref gc, .int 1, .int 0, .int 0, .int 0, .long 0, .long 0])), (sc, .inr (6, [.ref g, .int (-1), .ref td])), (g, .inr (3, [.ref gc, .ref ga1, .ref ga2, .ref ga3, .ref ga4, .ref ga5, .ref ga6, .ref ga7, .ref ga8, .int 0, .int 0, .int 0, .int 0, .int (-1)])), (st, .inl (cL, 304, .inr (.inl f1))), (se, .inl (cI, 304, .inl f2)), (mk, .inl (cI, 42, .inl f3)), (us, .inl (cI, 40, .inl f4)), (te, .inl (cI, 24, .inl f5))] sz)) 0 0 (va_A [(h0, .inr (1, [.ref sc, .ref st, .ref se, .ref mk, .ref us, .ref te, .ref g, .ref gc, .int 1, .int 0, .int 0, .int 0, .long 0, .long 0])), (sc, .inr (6, [.ref g, .int (-1), .ref td])), (g, .inr (3, [.ref gc, .ref ga1, .ref ga2, .ref ga3, .ref ga4, .ref ga5, .ref ga6, .ref ga7, .ref ga8, .int 0, .int 0, .int 0, .int 0, .int (-1)])), (st, .inl (cL, 304, .inr (.inl f1))), (se, .inl (cI, 304, .inl f2)), (mk, .inl (cI, 42, .inl f3)), (us, .inl (cI, 40, .inl f4)), (te, .inl (cI, 24, .inl f5))] sz) := by
  refine Met.ofW (cc := cX1_clear) (maxL := 1) (ret := none) (by decide) rfl ?_
  intro p e s m args below meth c s₁ B hml hv
  obtain ⟨rfl, hsz, hP, hK, hD0, hN⟩ := hv
  have hx := B.exec
  have hb := B.bytes
  have hr := B.returns
  have hts := atoms_spec (ws := wsX1_clear) B.pre
  have hown : s.vm.findClass RX1 = some m.cls := findClass_of_methodNamed B.named
  have hlocks := B.notSynchronized
  subst hsz
  have hD := hD0.self (sz := s.heap.size)
  generalize hAe : va_A [(h0, .inr (1, [.ref sc, .ref st, .ref se, .ref mk, .ref us, .ref te, .ref g, .ref gc, .int 1, .int 0, .int 0, .int 0, .long 0, .long 0])), (sc, .inr (6, [.ref g, .int (-1), .ref td])), (g, .inr (3, [.ref gc, .ref ga1, .ref ga2, .ref ga3, .ref ga4, .ref ga5, .ref ga6, .ref ga7, .ref ga8, .int 0, .int 0, .int 0, .int 0, .int (-1)])), (st, .inl (cL, 304, .inr (.inl f1))), (se, .inl (cI, 304, .inl f2)), (mk, .inl (cI, 42, .inl f3)), (us, .inl (cI, 40, .inl f4)), (te, .inl (cI, 24, .inl f5))] s.heap.size = A at hD ⊢
  have hA : ∀ q : Nat, s.heap.size ≤ q → A q := fun q h => by rw [← hAe]; exact Or.inr h
  have hl := lv_entry ([.ref h0]) (n := 1) (Nat.le_of_ble_eq_true rfl)
  rw [lg_entry_eq]
  generalize (lg_sl ([.ref h0]) ++ List.replicate (1 - (lg_sl ([.ref h0])).length) Slot.unset).toArray = ls at hl ⊢
  have hl : lv_has ls 1 [(0, .ref h0)] := hl
  refine k_H (A := A) hP (fun H hP hS => ?_)
  have hP : va_P (dC, dI) vwCl [(h0, .inr (1, [.ref sc, .ref st, .ref se, .ref mk, .ref us, .ref te, .ref g, .ref gc, .int 1, .int 0, .int 0, .int 0, .long 0, .long 0])), (sc, .inr (6, [.ref g, .int (-1), .ref td])), (g, .inr (3, [.ref gc, .ref ga1, .ref ga2, .ref ga3, .ref ga4, .ref ga5, .ref ga6, .ref ga7, .ref ga8, .int 0, .int 0, .int 0, .int 0, .int (-1)])), (st, .inl (cL, 304, .inr (.inl f1))), (se, .inl (cI, 304, .inl f2)), (mk, .inl (cI, 42, .inl f3)), (us, .inl (cI, 40, .inl f4)), (te, .inl (cI, 24, .inl f5))] H := hP
  have hD : va_D A [(h0, .inr (1, [.ref sc, .ref st, .ref se, .ref mk, .ref us, .ref te, .ref g, .ref gc, .int 1, .int 0, .int 0, .int 0, .long 0, .long 0])), (sc, .inr (6, [.ref g, .int (-1), .ref td])), (g, .inr (3, [.ref gc, .ref ga1, .ref ga2, .ref ga3, .ref ga4, .ref ga5, .ref ga6, .ref ga7, .ref ga8, .int 0, .int 0, .int 0, .int 0, .int (-1)])), (st, .inl (cL, 304, .inr (.inl f1))), (se, .inl (cI, 304, .inl f2)), (mk, .inl (cI, 42, .inl f3)), (us, .inl (cI, 40, .inl f4)), (te, .inl (cI, 24, .inl f5))] := hD
  refine lv_aload_n hx hb dX1_clear_0 rfl (lv_at hl 0 rfl) ?_
  refine lv_aload_n hx hb dX1_clear_1 rfl (lv_at hl 0 rfl) ?_
  refine va_get (D := (dC, dI)) (ci := 1) (v := .ref sc) (C := RX1) (T := TX1) (N := 14) hx hb hts iwwsX1_clear_1 hown hK hP 0 rfl rfl 0 (by decide) (hts (.fieldLink RX1 32 "NothingJudge$Facts" "scene" "LNothingJudge$Scene;") fwwsX1_clear_32) (fun _ h9 => h9) rfl dX1_clear_2 ?_
  refine va_get (D := (dC, dI)) (ci := 6) (v := .ref g) (C := RX7) (T := TX7) (N := 3) hx hb hts iwwsX1_clear_7 hown hK hP 1 rfl rfl 0 (by decide) (hts (.fieldLink RX1 36 "NothingJudge$Scene" "program" "LNothingJudge$Program;") fwwsX1_clear_36) (fun _ h9 => h9) rfl dX1_clear_5 ?_
  refine va_put (D := (dC, dI)) (ci := 1) (v := .ref g) (ty := .object "NothingJudge$Program") (C := RX1) (T := TX1) (N := 14) hx hb hts iwwsX1_clear_1 tyX1 tyX1_ok nmX1 hown hK hP hD hS 0 rfl rfl 6 (by decide) (hts (.fieldLink RX1 42 "NothingJudge$Facts" "program" "LNothingJudge$Program;") fwwsX1_clear_42) (fun _ h9 => h9) rfl (by decide +kernel) rfl rfl (Nat.le_of_ble_eq_true rfl) dX1_clear_8 (fun H locs hP hD hS => ?_)
  have hP : va_P (dC, dI) vwCl [(h0, .inr (1, [.ref sc, .ref st, .ref se, .ref mk, .ref us, .ref te, .ref g, .ref gc, .int 1, .int 0, .int 0, .int 0, .long 0, .long 0])), (sc, .inr (6, [.ref g, .int (-1), .ref td])), (g, .inr (3, [.ref gc, .ref ga1, .ref ga2, .ref ga3, .ref ga4, .ref ga5, .ref ga6, .ref ga7, .ref ga8, .int 0, .int 0, .int 0, .int 0, .int (-1)])), (st, .inl (cL, 304, .inr (.inl f1))), (se, .inl (cI, 304, .inl f2)), (mk, .inl (cI, 42, .inl f3)), (us, .inl (cI, 40, .inl f4)), (te, .inl (cI, 24, .inl f5))] H := hP
  have hD : va_D A [(h0, .inr (1, [.ref sc, .ref st, .ref se, .ref mk, .ref us, .ref te, .ref g, .ref gc, .int 1, .int 0, .int 0, .int 0, .long 0, .long 0])), (sc, .inr (6, [.ref g, .int (-1), .ref td])), (g, .inr (3, [.ref gc, .ref ga1, .ref ga2, .ref ga3, .ref ga4, .ref ga5, .ref ga6, .ref ga7, .ref ga8, .int 0, .int 0, .int 0, .int 0, .int (-1)])), (st, .inl (cL, 304, .inr (.inl f1))), (se, .inl (cI, 304, .inl f2)), (mk, .inl (cI, 42, .inl f3)), (us, .inl (cI, 40, .inl f4)), (te, .inl (cI, 24, .inl f5))] := hD
  refine lv_aload_n hx hb dX1_clear_11 rfl (lv_at hl 0 rfl) ?_
  refine lv_aload_n hx hb dX1_clear_12 rfl (lv_at hl 0 rfl) ?_
  refine va_get (D := (dC, dI)) (ci := 1) (v := .ref g) (C := RX1) (T := TX1) (N := 14) hx hb hts iwwsX1_clear_1 hown hK hP 0 rfl rfl 6 (by decide) (hts (.fieldLink RX1 42 "NothingJudge$Facts" "program" "LNothingJudge$Program;") fwwsX1_clear_42) (fun _ h9 => h9) rfl dX1_clear_13 ?_
  refine va_get (D := (dC, dI)) (ci := 3) (v := .ref gc) (C := RX3) (T := TX3) (N := 14) hx hb hts iwwsX1_clear_3 hown hK hP 2 rfl rfl 0 (by decide) (hts (.fieldLink RX1 43 "NothingJudge$Program" "code" "LNothingJudge$Code;") fwwsX1_clear_43) (fun _ h9 => h9) rfl dX1_clear_16 ?_
  refine va_put (D := (dC, dI)) (ci := 1) (v := .ref gc) (ty := .object "NothingJudge$Code") (C := RX1) (T := TX1) (N := 14) hx hb hts iwwsX1_clear_1 tyX1 tyX1_ok nmX1 hown hK hP hD hS 0 rfl rfl 7 (by decide) (hts (.fieldLink RX1 49 "NothingJudge$Facts" "code" "LNothingJudge$Code;") fwwsX1_clear_49) (fun _ h9 => h9) rfl (by decide +kernel) rfl rfl (Nat.le_of_ble_eq_true rfl) dX1_clear_19 (fun H locs hP hD hS => ?_)
  have hP : va_P (dC, dI) vwCl [(h0, .inr (1, [.ref sc, .ref st, .ref se, .ref mk, .ref us, .ref te, .ref g, .ref gc, .int 1, .int 0, .int 0, .int 0, .long 0, .long 0])), (sc, .inr (6, [.ref g, .int (-1), .ref td])), (g, .inr (3, [.ref gc, .ref ga1, .ref ga2, .ref ga3, .ref ga4, .ref ga5, .ref ga6, .ref ga7, .ref ga8, .int 0, .int 0, .int 0, .int 0, .int (-1)])), (st, .inl (cL, 304, .inr (.inl f1))), (se, .inl (cI, 304, .inl f2)), (mk, .inl (cI, 42, .inl f3)), (us, .inl (cI, 40, .inl f4)), (te, .inl (cI, 24, .inl f5))] H := hP
  have hD : va_D A [(h0, .inr (1, [.ref sc, .ref st, .ref se, .ref mk, .ref us, .ref te, .ref g, .ref gc, .int 1, .int 0, .int 0, .int 0, .long 0, .long 0])), (sc, .inr (6, [.ref g, .int (-1), .ref td])), (g, .inr (3, [.ref gc, .ref ga1, .ref ga2, .ref ga3, .ref ga4, .ref ga5, .ref ga6, .ref ga7, .ref ga8, .int 0, .int 0, .int 0, .int 0, .int (-1)])), (st, .inl (cL, 304, .inr (.inl f1))), (se, .inl (cI, 304, .inl f2)), (mk, .inl (cI, 42, .inl f3)), (us, .inl (cI, 40, .inl f4)), (te, .inl (cI, 24, .inl f5))] := hD
  refine lv_aload_n hx hb dX1_clear_22 rfl (lv_at hl 0 rfl) ?_
  refine lv_iconst (v := 0) hx hb dX1_clear_23 (by decide) ?_
  refine va_put (D := (dC, dI)) (ci := 1) (v := .int 0) (ty := .int) (C := RX1) (T := TX1) (N := 14) hx hb hts iwwsX1_clear_1 tyX1 tyX1_ok nmX1 hown hK hP hD hS 0 rfl rfl 10 (by decide) (hts (.fieldLink RX1 92 "NothingJudge$Facts" "reached" "I") fwwsX1_clear_92) (fun _ h9 => h9) rfl (by decide +kernel) rfl rfl (Nat.le_of_ble_eq_true rfl) dX1_clear_24 (fun H locs hP hD hS => ?_)
  have hP : va_P (dC, dI) vwCl [(h0, .inr (1, [.ref sc, .ref st, .ref se, .ref mk, .ref us, .ref te, .ref g, .ref gc, .int 1, .int 0, .int 0, .int 0, .long 0, .long 0])), (sc, .inr (6, [.ref g, .int (-1), .ref td])), (g, .inr (3, [.ref gc, .ref ga1, .ref ga2, .ref ga3, .ref ga4, .ref ga5, .ref ga6, .ref ga7, .ref ga8, .int 0, .int 0, .int 0, .int 0, .int (-1)])), (st, .inl (cL, 304, .inr (.inl f1))), (se, .inl (cI, 304, .inl f2)), (mk, .inl (cI, 42, .inl f3)), (us, .inl (cI, 40, .inl f4)), (te, .inl (cI, 24, .inl f5))] H := hP
  have hD : va_D A [(h0, .inr (1, [.ref sc, .ref st, .ref se, .ref mk, .ref us, .ref te, .ref g, .ref gc, .int 1, .int 0, .int 0, .int 0, .long 0, .long 0])), (sc, .inr (6, [.ref g, .int (-1), .ref td])), (g, .inr (3, [.ref gc, .ref ga1, .ref ga2, .ref ga3, .ref ga4, .ref ga5, .ref ga6, .ref ga7, .ref ga8, .int 0, .int 0, .int 0, .int 0, .int (-1)])), (st, .inl (cL, 304, .inr (.inl f1))), (se, .inl (cI, 304, .inl f2)), (mk, .inl (cI, 42, .inl f3)), (us, .inl (cI, 40, .inl f4)), (te, .inl (cI, 24, .inl f5))] := hD
  refine lv_aload_n hx hb dX1_clear_27 rfl (lv_at hl 0 rfl) ?_
  refine lv_iconst (v := 1) hx hb dX1_clear_28 (by decide) ?_
  refine va_put (D := (dC, dI)) (ci := 1) (v := .int 1) (ty := .int) (C := RX1) (T := TX1) (N := 14) hx hb hts iwwsX1_clear_1 tyX1 tyX1_ok nmX1 hown hK hP hD hS 0 rfl rfl 11 (by decide) (hts (.fieldLink RX1 78 "NothingJudge$Facts" "version" "I") fwwsX1_clear_78) (fun _ h9 => h9) rfl (by decide +kernel) rfl rfl (Nat.le_of_ble_eq_true rfl) dX1_clear_29 (fun H locs hP hD hS => ?_)
  have hP : va_P (dC, dI) vwCl [(h0, .inr (1, [.ref sc, .ref st, .ref se, .ref mk, .ref us, .ref te, .ref g, .ref gc, .int 1, .int 0, .int 0, .int 1, .long 0, .long 0])), (sc, .inr (6, [.ref g, .int (-1), .ref td])), (g, .inr (3, [.ref gc, .ref ga1, .ref ga2, .ref ga3, .ref ga4, .ref ga5, .ref ga6, .ref ga7, .ref ga8, .int 0, .int 0, .int 0, .int 0, .int (-1)])), (st, .inl (cL, 304, .inr (.inl f1))), (se, .inl (cI, 304, .inl f2)), (mk, .inl (cI, 42, .inl f3)), (us, .inl (cI, 40, .inl f4)), (te, .inl (cI, 24, .inl f5))] H := hP
  have hD : va_D A [(h0, .inr (1, [.ref sc, .ref st, .ref se, .ref mk, .ref us, .ref te, .ref g, .ref gc, .int 1, .int 0, .int 0, .int 1, .long 0, .long 0])), (sc, .inr (6, [.ref g, .int (-1), .ref td])), (g, .inr (3, [.ref gc, .ref ga1, .ref ga2, .ref ga3, .ref ga4, .ref ga5, .ref ga6, .ref ga7, .ref ga8, .int 0, .int 0, .int 0, .int 0, .int (-1)])), (st, .inl (cL, 304, .inr (.inl f1))), (se, .inl (cI, 304, .inl f2)), (mk, .inl (cI, 42, .inl f3)), (us, .inl (cI, 40, .inl f4)), (te, .inl (cI, 24, .inl f5))] := hD
  refine lv_aload_n hx hb dX1_clear_32 rfl (lv_at hl 0 rfl) ?_
  refine va_get (D := (dC, dI)) (ci := 1) (v := .ref st) (C := RX1) (T := TX1) (N := 14) hx hb hts iwwsX1_clear_1 hown hK hP 0 rfl rfl 1 (by decide) (hts (.fieldLink RX1 9 "NothingJudge$Facts" "state" "[J") fwwsX1_clear_9) (fun _ h9 => h9) rfl dX1_clear_33 ?_
  refine lv_lconst (v := 0) hx hb dX1_clear_36 (by decide) ?_
  have hPc := hP.sub (ws' := [(st, .inl (cL, 304, .inr (.inl f1)))]) [3] rfl
  have hDc := hD.sub (ws' := [(st, .inl (cL, 304, .inr (.inl f1)))]) [3] (by decide) rfl
  have hFc := va_free (wc := [(st, .inl (cL, 304, .inr (.inl f1)))]) hD hS hA [3] rfl
  refine va_callv (va_runS (As := [.ref st, .long 0]) (rest := []) ⟨hx, hb, hml, hown, hts⟩ (c_fillL l dC dI cI cB cL cZ (st) (0) (f1) (304) H.size (by decide)) (va_cwS 2 hts gX1_clear_J7_fill_d0a16 rfl rfl rfl (by decide +kernel) ⟨Nat.le_of_ble_eq_true rfl, Nat.le_of_ble_eq_true rfl⟩) ⟨cP_fb, fun U hU hW => cP_pre hPc hK hDc hN U hU hW⟩ rfl rfl hl.1 rfl (lv_room (Nat.le_of_ble_eq_true rfl)) dX1_clear_37 ⟨Nat.le_of_ble_eq_true rfl, Nat.le_of_ble_eq_true rfl⟩) hS (fun q _ h => hFc q h) hFc (fun u t H1 locs ht hvm hw hB hz1 hk1 hS => ?_)
  obtain ⟨fl_226, hP1, hD1⟩ := hB
  rw [ht] at hP1
  obtain ⟨hP, hD⟩ := va_join (wr := [(h0, .inr (1, [.ref sc, .ref st, .ref se, .ref mk, .ref us, .ref te, .ref g, .ref gc, .int 1, .int 0, .int 0, .int 1, .long 0, .long 0])), (sc, .inr (6, [.ref g, .int (-1), .ref td])), (g, .inr (3, [.ref gc, .ref ga1, .ref ga2, .ref ga3, .ref ga4, .ref ga5, .ref ga6, .ref ga7, .ref ga8, .int 0, .int 0, .int 0, .int 0, .int (-1)])), (se, .inl (cI, 304, .inl f2)), (mk, .inl (cI, 42, .inl f3)), (us, .inl (cI, 40, .inl f4)), (te, .inl (cI, 24, .inl f5))]) (w1 := [(st, .inl (cL, 304, .inr (.inl fl_226)))]) hP hD [3] [0, 1, 2, 4, 5, 6, 7] rfl rfl (by decide) (by decide) hk1 hFc hP1 hD1
  generalize H1 = H at hP hS ⊢
  have hP : va_P (dC, dI) vwCl [(h0, .inr (1, [.ref sc, .ref st, .ref se, .ref mk, .ref us, .ref te, .ref g, .ref gc, .int 1, .int 0, .int 0, .int 1, .long 0, .long 0])), (sc, .inr (6, [.ref g, .int (-1), .ref td])), (g, .inr (3, [.ref gc, .ref ga1, .ref ga2, .ref ga3, .ref ga4, .ref ga5, .ref ga6, .ref ga7, .ref ga8, .int 0, .int 0, .int 0, .int 0, .int (-1)])), (se, .inl (cI, 304, .inl f2)), (mk, .inl (cI, 42, .inl f3)), (us, .inl (cI, 40, .inl f4)), (te, .inl (cI, 24, .inl f5)), (st, .inl (cL, 304, .inr (.inl fl_226)))] H := hP
  have hD : va_D A [(h0, .inr (1, [.ref sc, .ref st, .ref se, .ref mk, .ref us, .ref te, .ref g, .ref gc, .int 1, .int 0, .int 0, .int 1, .long 0, .long 0])), (sc, .inr (6, [.ref g, .int (-1), .ref td])), (g, .inr (3, [.ref gc, .ref ga1, .ref ga2, .ref ga3, .ref ga4, .ref ga5, .ref ga6, .ref ga7, .ref ga8, .int 0, .int 0, .int 0, .int 0, .int (-1)])), (se, .inl (cI, 304, .inl f2)), (mk, .inl (cI, 42, .inl f3)), (us, .inl (cI, 40, .inl f4)), (te, .inl (cI, 24, .inl f5)), (st, .inl (cL, 304, .inr (.inl fl_226)))] := hD
  refine lv_aload_n hx hb dX1_clear_40 rfl (lv_at hl 0 rfl) ?_
  refine va_get (D := (dC, dI)) (ci := 1) (v := .ref se) (C := RX1) (T := TX1) (N := 14) hx hb hts iwwsX1_clear_1 hown hK hP 0 rfl rfl 2 (by decide) (hts (.fieldLink RX1 15 "NothingJudge$Facts" "seenAt" "[I") fwwsX1_clear_15) (fun _ h9 => h9) rfl dX1_clear_41 ?_
  refine lv_iconst (v := 0) hx hb dX1_clear_44 (by decide) ?_
  have hPc := hP.sub (ws' := [(se, .inl (cI, 304, .inl f2))]) [3] rfl
  have hDc := hD.sub (ws' := [(se, .inl (cI, 304, .inl f2))]) [3] (by decide) rfl
  have hFc := va_free (wc := [(se, .inl (cI, 304, .inl f2))]) hD hS hA [3] rfl
  refine va_callv (va_runS (As := [.ref se, .int 0]) (rest := []) ⟨hx, hb, hml, hown, hts⟩ (c_fillI l dC dI cI cB cL cZ (se) (0) (f2) (304) H.size (by decide)) (va_cwS 2 hts gX1_clear_J7_fill_53178 rfl rfl rfl (by decide +kernel) ⟨Nat.le_of_ble_eq_true rfl, Nat.le_of_ble_eq_true rfl⟩) ⟨cP_fb, fun U hU hW => cP_pre hPc hK hDc hN U hU hW⟩ rfl rfl hl.1 rfl (lv_room (Nat.le_of_ble_eq_true rfl)) dX1_clear_45 ⟨Nat.le_of_ble_eq_true rfl, Nat.le_of_ble_eq_true rfl⟩) hS (fun q _ h => hFc q h) hFc (fun u t H1 locs ht hvm hw hB hz1 hk1 hS => ?_)
  obtain ⟨f_228, hf_229, hP1, hD1⟩ := hB
  rw [ht] at hP1
  obtain ⟨hP, hD⟩ := va_join (wr := [(h0, .inr (1, [.ref sc, .ref st, .ref se, .ref mk, .ref us, .ref te, .ref g, .ref gc, .int 1, .int 0, .int 0, .int 1, .long 0, .long 0])), (sc, .inr (6, [.ref g, .int (-1), .ref td])), (g, .inr (3, [.ref gc, .ref ga1, .ref ga2, .ref ga3, .ref ga4, .ref ga5, .ref ga6, .ref ga7, .ref ga8, .int 0, .int 0, .int 0, .int 0, .int (-1)])), (mk, .inl (cI, 42, .inl f3)), (us, .inl (cI, 40, .inl f4)), (te, .inl (cI, 24, .inl f5)), (st, .inl (cL, 304, .inr (.inl fl_226)))]) (w1 := [(se, .inl (cI, 304, .inl f_228))]) hP hD [3] [0, 1, 2, 4, 5, 6, 7] rfl rfl (by decide) (by decide) hk1 hFc hP1 hD1
  generalize H1 = H at hP hS ⊢
  have hP : va_P (dC, dI) vwCl [(h0, .inr (1, [.ref sc, .ref st, .ref se, .ref mk, .ref us, .ref te, .ref g, .ref gc, .int 1, .int 0, .int 0, .int 1, .long 0, .long 0])), (sc, .inr (6, [.ref g, .int (-1), .ref td])), (g, .inr (3, [.ref gc, .ref ga1, .ref ga2, .ref ga3, .ref ga4, .ref ga5, .ref ga6, .ref ga7, .ref ga8, .int 0, .int 0, .int 0, .int 0, .int (-1)])), (mk, .inl (cI, 42, .inl f3)), (us, .inl (cI, 40, .inl f4)), (te, .inl (cI, 24, .inl f5)), (st, .inl (cL, 304, .inr (.inl fl_226))), (se, .inl (cI, 304, .inl f_228))] H := hP
  have hD : va_D A [(h0, .inr (1, [.ref sc, .ref st, .ref se, .ref mk, .ref us, .ref te, .ref g, .ref gc, .int 1, .int 0, .int 0, .int 1, .long 0, .long 0])), (sc, .inr (6, [.ref g, .int (-1), .ref td])), (g, .inr (3, [.ref gc, .ref ga1, .ref ga2, .ref ga3, .ref ga4, .ref ga5, .ref ga6, .ref ga7, .ref ga8, .int 0, .int 0, .int 0, .int 0, .int (-1)])), (mk, .inl (cI, 42, .inl f3)), (us, .inl (cI, 40, .inl f4)), (te, .inl (cI, 24, .inl f5)), (st, .inl (cL, 304, .inr (.inl fl_226))), (se, .inl (cI, 304, .inl f_228))] := hD
  refine lv_aload_n hx hb dX1_clear_48 rfl (lv_at hl 0 rfl) ?_
  refine va_get (D := (dC, dI)) (ci := 1) (v := .ref mk) (C := RX1) (T := TX1) (N := 14) hx hb hts iwwsX1_clear_1 hown hK hP 0 rfl rfl 3 (by decide) (hts (.fieldLink RX1 19 "NothingJudge$Facts" "marks" "[I") fwwsX1_clear_19) (fun _ h9 => h9) rfl dX1_clear_49 ?_
  refine lv_iconst (v := 0) hx hb dX1_clear_52 (by decide) ?_
  have hPc := hP.sub (ws' := [(mk, .inl (cI, 42, .inl f3))]) [3] rfl
  have hDc := hD.sub (ws' := [(mk, .inl (cI, 42, .inl f3))]) [3] (by decide) rfl
  have hFc := va_free (wc := [(mk, .inl (cI, 42, .inl f3))]) hD hS hA [3] rfl
  refine va_callv (va_runS (As := [.ref mk, .int 0]) (rest := []) ⟨hx, hb, hml, hown, hts⟩ (c_fillI l dC dI cI cB cL cZ (mk) (0) (f3) (42) H.size (by decide)) (va_cwS 2 hts gX1_clear_J7_fill_53178 rfl rfl rfl (by decide +kernel) ⟨Nat.le_of_ble_eq_true rfl, Nat.le_of_ble_eq_true rfl⟩) ⟨cP_fb, fun U hU hW => cP_pre hPc hK hDc hN U hU hW⟩ rfl rfl hl.1 rfl (lv_room (Nat.le_of_ble_eq_true rfl)) dX1_clear_53 ⟨Nat.le_of_ble_eq_true rfl, Nat.le_of_ble_eq_true rfl⟩) hS (fun q _ h => hFc q h) hFc (fun u t H1 locs ht hvm hw hB hz1 hk1 hS => ?_)
  obtain ⟨f_231, hf_232, hP1, hD1⟩ := hB
  rw [ht] at hP1
  obtain ⟨hP, hD⟩ := va_join (wr := [(h0, .inr (1, [.ref sc, .ref st, .ref se, .ref mk, .ref us, .ref te, .ref g, .ref gc, .int 1, .int 0, .int 0, .int 1, .long 0, .long 0])), (sc, .inr (6, [.ref g, .int (-1), .ref td])), (g, .inr (3, [.ref gc, .ref ga1, .ref ga2, .ref ga3, .ref ga4, .ref ga5, .ref ga6, .ref ga7, .ref ga8, .int 0, .int 0, .int 0, .int 0, .int (-1)])), (us, .inl (cI, 40, .inl f4)), (te, .inl (cI, 24, .inl f5)), (st, .inl (cL, 304, .inr (.inl fl_226))), (se, .inl (cI, 304, .inl f_228))]) (w1 := [(mk, .inl (cI, 42, .inl f_231))]) hP hD [3] [0, 1, 2, 4, 5, 6, 7] rfl rfl (by decide) (by decide) hk1 hFc hP1 hD1
  generalize H1 = H at hP hS ⊢
  have hP : va_P (dC, dI) vwCl [(h0, .inr (1, [.ref sc, .ref st, .ref se, .ref mk, .ref us, .ref te, .ref g, .ref gc, .int 1, .int 0, .int 0, .int 1, .long 0, .long 0])), (sc, .inr (6, [.ref g, .int (-1), .ref td])), (g, .inr (3, [.ref gc, .ref ga1, .ref ga2, .ref ga3, .ref ga4, .ref ga5, .ref ga6, .ref ga7, .ref ga8, .int 0, .int 0, .int 0, .int 0, .int (-1)])), (us, .inl (cI, 40, .inl f4)), (te, .inl (cI, 24, .inl f5)), (st, .inl (cL, 304, .inr (.inl fl_226))), (se, .inl (cI, 304, .inl f_228)), (mk, .inl (cI, 42, .inl f_231))] H := hP
  have hD : va_D A [(h0, .inr (1, [.ref sc, .ref st, .ref se, .ref mk, .ref us, .ref te, .ref g, .ref gc, .int 1, .int 0, .int 0, .int 1, .long 0, .long 0])), (sc, .inr (6, [.ref g, .int (-1), .ref td])), (g, .inr (3, [.ref gc, .ref ga1, .ref ga2, .ref ga3, .ref ga4, .ref ga5, .ref ga6, .ref ga7, .ref ga8, .int 0, .int 0, .int 0, .int 0, .int (-1)])), (us, .inl (cI, 40, .inl f4)), (te, .inl (cI, 24, .inl f5)), (st, .inl (cL, 304, .inr (.inl fl_226))), (se, .inl (cI, 304, .inl f_228)), (mk, .inl (cI, 42, .inl f_231))] := hD
  refine lv_aload_n hx hb dX1_clear_56 rfl (lv_at hl 0 rfl) ?_
  refine va_get (D := (dC, dI)) (ci := 1) (v := .ref us) (C := RX1) (T := TX1) (N := 14) hx hb hts iwwsX1_clear_1 hown hK hP 0 rfl rfl 4 (by decide) (hts (.fieldLink RX1 22 "NothingJudge$Facts" "used" "[I") fwwsX1_clear_22) (fun _ h9 => h9) rfl dX1_clear_57 ?_
  refine lv_iconst (v := 0) hx hb dX1_clear_60 (by decide) ?_
  have hPc := hP.sub (ws' := [(us, .inl (cI, 40, .inl f4))]) [3] rfl
  have hDc := hD.sub (ws' := [(us, .inl (cI, 40, .inl f4))]) [3] (by decide) rfl
  have hFc := va_free (wc := [(us, .inl (cI, 40, .inl f4))]) hD hS hA [3] rfl
  refine va_callv (va_runS (As := [.ref us, .int 0]) (rest := []) ⟨hx, hb, hml, hown, hts⟩ (c_fillI l dC dI cI cB cL cZ (us) (0) (f4) (40) H.size (by decide)) (va_cwS 2 hts gX1_clear_J7_fill_53178 rfl rfl rfl (by decide +kernel) ⟨Nat.le_of_ble_eq_true rfl, Nat.le_of_ble_eq_true rfl⟩) ⟨cP_fb, fun U hU hW => cP_pre hPc hK hDc hN U hU hW⟩ rfl rfl hl.1 rfl (lv_room (Nat.le_of_ble_eq_true rfl)) dX1_clear_61 ⟨Nat.le_of_ble_eq_true rfl, Nat.le_of_ble_eq_true rfl⟩) hS (fun q _ h => hFc q h) hFc (fun u t H1 locs ht hvm hw hB hz1 hk1 hS => ?_)
  obtain ⟨f_234, hf_235, hP1, hD1⟩ := hB
  rw [ht] at hP1
  obtain ⟨hP, hD⟩ := va_join (wr := [(h0, .inr (1, [.ref sc, .ref st, .ref se, .ref mk, .ref us, .ref te, .ref g, .ref gc, .int 1, .int 0, .int 0, .int 1, .long 0, .long 0])), (sc, .inr (6, [.ref g, .int (-1), .ref td])), (g, .inr (3, [.ref gc, .ref ga1, .ref ga2, .ref ga3, .ref ga4, .ref ga5, .ref ga6, .ref ga7, .ref ga8, .int 0, .int 0, .int 0, .int 0, .int (-1)])), (te, .inl (cI, 24, .inl f5)), (st, .inl (cL, 304, .inr (.inl fl_226))), (se, .inl (cI, 304, .inl f_228)), (mk, .inl (cI, 42, .inl f_231))]) (w1 := [(us, .inl (cI, 40, .inl f_234))]) hP hD [3] [0, 1, 2, 4, 5, 6, 7] rfl rfl (by decide) (by decide) hk1 hFc hP1 hD1
  generalize H1 = H at hP hS ⊢
  have hP : va_P (dC, dI) vwCl [(h0, .inr (1, [.ref sc, .ref st, .ref se, .ref mk, .ref us, .ref te, .ref g, .ref gc, .int 1, .int 0, .int 0, .int 1, .long 0, .long 0])), (sc, .inr (6, [.ref g, .int (-1), .ref td])), (g, .inr (3, [.ref gc, .ref ga1, .ref ga2, .ref ga3, .ref ga4, .ref ga5, .ref ga6, .ref ga7, .ref ga8, .int 0, .int 0, .int 0, .int 0, .int (-1)])), (te, .inl (cI, 24, .inl f5)), (st, .inl (cL, 304, .inr (.inl fl_226))), (se, .inl (cI, 304, .inl f_228)), (mk, .inl (cI, 42, .inl f_231)), (us, .inl (cI, 40, .inl f_234))] H := hP
  have hD : va_D A [(h0, .inr (1, [.ref sc, .ref st, .ref se, .ref mk, .ref us, .ref te, .ref g, .ref gc, .int 1, .int 0, .int 0, .int 1, .long 0, .long 0])), (sc, .inr (6, [.ref g, .int (-1), .ref td])), (g, .inr (3, [.ref gc, .ref ga1, .ref ga2, .ref ga3, .ref ga4, .ref ga5, .ref ga6, .ref ga7, .ref ga8, .int 0, .int 0, .int 0, .int 0, .int (-1)])), (te, .inl (cI, 24, .inl f5)), (st, .inl (cL, 304, .inr (.inl fl_226))), (se, .inl (cI, 304, .inl f_228)), (mk, .inl (cI, 42, .inl f_231)), (us, .inl (cI, 40, .inl f_234))] := hD
  refine lv_aload_n hx hb dX1_clear_64 rfl (lv_at hl 0 rfl) ?_
  refine va_get (D := (dC, dI)) (ci := 1) (v := .ref te) (C := RX1) (T := TX1) (N := 14) hx hb hts iwwsX1_clear_1 hown hK hP 0 rfl rfl 5 (by decide) (hts (.fieldLink RX1 25 "NothingJudge$Facts" "tested" "[I") fwwsX1_clear_25) (fun _ h9 => h9) rfl dX1_clear_65 ?_
  refine lv_iconst (v := 0) hx hb dX1_clear_68 (by decide) ?_
  have hPc := hP.sub (ws' := [(te, .inl (cI, 24, .inl f5))]) [3] rfl
  have hDc := hD.sub (ws' := [(te, .inl (cI, 24, .inl f5))]) [3] (by decide) rfl
  have hFc := va_free (wc := [(te, .inl (cI, 24, .inl f5))]) hD hS hA [3] rfl
  refine va_callv (va_runS (As := [.ref te, .int 0]) (rest := []) ⟨hx, hb, hml, hown, hts⟩ (c_fillI l dC dI cI cB cL cZ (te) (0) (f5) (24) H.size (by decide)) (va_cwS 2 hts gX1_clear_J7_fill_53178 rfl rfl rfl (by decide +kernel) ⟨Nat.le_of_ble_eq_true rfl, Nat.le_of_ble_eq_true rfl⟩) ⟨cP_fb, fun U hU hW => cP_pre hPc hK hDc hN U hU hW⟩ rfl rfl hl.1 rfl (lv_room (Nat.le_of_ble_eq_true rfl)) dX1_clear_69 ⟨Nat.le_of_ble_eq_true rfl, Nat.le_of_ble_eq_true rfl⟩) hS (fun q _ h => hFc q h) hFc (fun u t H1 locs ht hvm hw hB hz1 hk1 hS => ?_)
  obtain ⟨f_237, hf_238, hP1, hD1⟩ := hB
  rw [ht] at hP1
  obtain ⟨hP, hD⟩ := va_join (wr := [(h0, .inr (1, [.ref sc, .ref st, .ref se, .ref mk, .ref us, .ref te, .ref g, .ref gc, .int 1, .int 0, .int 0, .int 1, .long 0, .long 0])), (sc, .inr (6, [.ref g, .int (-1), .ref td])), (g, .inr (3, [.ref gc, .ref ga1, .ref ga2, .ref ga3, .ref ga4, .ref ga5, .ref ga6, .ref ga7, .ref ga8, .int 0, .int 0, .int 0, .int 0, .int (-1)])), (st, .inl (cL, 304, .inr (.inl fl_226))), (se, .inl (cI, 304, .inl f_228)), (mk, .inl (cI, 42, .inl f_231)), (us, .inl (cI, 40, .inl f_234))]) (w1 := [(te, .inl (cI, 24, .inl f_237))]) hP hD [3] [0, 1, 2, 4, 5, 6, 7] rfl rfl (by decide) (by decide) hk1 hFc hP1 hD1
  generalize H1 = H at hP hS ⊢
  have hP : va_P (dC, dI) vwCl [(h0, .inr (1, [.ref sc, .ref st, .ref se, .ref mk, .ref us, .ref te, .ref g, .ref gc, .int 1, .int 0, .int 0, .int 1, .long 0, .long 0])), (sc, .inr (6, [.ref g, .int (-1), .ref td])), (g, .inr (3, [.ref gc, .ref ga1, .ref ga2, .ref ga3, .ref ga4, .ref ga5, .ref ga6, .ref ga7, .ref ga8, .int 0, .int 0, .int 0, .int 0, .int (-1)])), (st, .inl (cL, 304, .inr (.inl fl_226))), (se, .inl (cI, 304, .inl f_228)), (mk, .inl (cI, 42, .inl f_231)), (us, .inl (cI, 40, .inl f_234)), (te, .inl (cI, 24, .inl f_237))] H := hP
  have hD : va_D A [(h0, .inr (1, [.ref sc, .ref st, .ref se, .ref mk, .ref us, .ref te, .ref g, .ref gc, .int 1, .int 0, .int 0, .int 1, .long 0, .long 0])), (sc, .inr (6, [.ref g, .int (-1), .ref td])), (g, .inr (3, [.ref gc, .ref ga1, .ref ga2, .ref ga3, .ref ga4, .ref ga5, .ref ga6, .ref ga7, .ref ga8, .int 0, .int 0, .int 0, .int 0, .int (-1)])), (st, .inl (cL, 304, .inr (.inl fl_226))), (se, .inl (cI, 304, .inl f_228)), (mk, .inl (cI, 42, .inl f_231)), (us, .inl (cI, 40, .inl f_234)), (te, .inl (cI, 24, .inl f_237))] := hD
  have hP9 := hP.sub (ws' := [(h0, .inr (1, [.ref sc, .ref st, .ref se, .ref mk, .ref us, .ref te, .ref g, .ref gc, .int 1, .int 0, .int 0, .int 1, .long 0, .long 0])), (sc, .inr (6, [.ref g, .int (-1), .ref td])), (g, .inr (3, [.ref gc, .ref ga1, .ref ga2, .ref ga3, .ref ga4, .ref ga5, .ref ga6, .ref ga7, .ref ga8, .int 0, .int 0, .int 0, .int 0, .int (-1)])), (mk, .inl (cI, 42, .inl f_231))]) [0, 1, 2, 5] rfl
  have hD9 := hD.sub (ws' := [(h0, .inr (1, [.ref sc, .ref st, .ref se, .ref mk, .ref us, .ref te, .ref g, .ref gc, .int 1, .int 0, .int 0, .int 1, .long 0, .long 0])), (sc, .inr (6, [.ref g, .int (-1), .ref td])), (g, .inr (3, [.ref gc, .ref ga1, .ref ga2, .ref ga3, .ref ga4, .ref ga5, .ref ga6, .ref ga7, .ref ga8, .int 0, .int 0, .int 0, .int 0, .int (-1)])), (mk, .inl (cI, 42, .inl f_231))]) [0, 1, 2, 5] (by decide) rfl
  exact W.vret hx hb hr (fun t ht hW => ⟨⟨(), rfl, trivial, f_231, hf_232, by rw [ht]; exact hP9, hD9⟩, hS.F ht⟩) hS.2.2 dX1_clear_72

set_option maxHeartbeats 4000000 in
set_option maxRecDepth 100000 in
theorem c_reach (l : Launch) (dC : Nat → ClassId) (dI : Nat → Nat → Nat) (cI cB cL cZ : ClassId) (h0 : Nat) (sc : Nat) (g : Nat) (td : Nat) (gc : Nat) (st : Nat) (se : Nat) (mk : Nat) (us : Nat) (te : Nat) (ga1 : Nat) (ga2 : Nat) (ga3 : Nat) (ga4 : Nat) (ga5 : Nat) (ga6 : Nat) (ga7 : Nat) (ga8 : Nat) (sz : Nat)  : Met l yX1_reachEntry wsX1_reachEntry ({ frames := 1, cells := 0, slots := 0, locals := 21 }) (cP (dC, dI) (kTy cI cB cL cZ) [.ref h0] [(h0, .inr (1, [.ref sc, .ref st, .ref se, .ref mk, .ref us, .ref te, .ref g, .ref gc, .int 1, .int 0, .int 0, .int 1, .long 0, .long 0])), (sc, .inr (6, [.ref g, .int (-1), .ref td])), (g, .inr (3, [.ref gc, .ref ga1, .ref ga2, .ref ga3, .ref ga4, .ref ga5, .ref ga6, .ref ga7, .ref ga8, .int 0, .int 0, .int 0, .int 0, .int (-1)]))] sz) (va_Qv (fun _ : Unit => True) (fun (_ : Unit) (t : State) => va_P (dC, dI) vwCl [(h0, .inr (1, [.ref sc, .ref st, .ref se, .ref mk, .ref us, .ref te, .ref g, .ref gc, .int 1, .int 0, .int 0, .int 1, .long 0, .long 0])), (sc, .inr (6, [.ref g, .int (-1), .ref td])), (g, .inr (3, [.ref gc, .ref ga1, .ref ga2, .ref ga3, .ref ga4, .ref ga5, .ref ga6, .ref ga7, .ref ga8, .int 0, .int 0, .int 0, .int 0, .int (-1)]))] t.heap ∧ va_D (va_A [(h0, .inr (1, [.ref sc, .ref st, .ref se, .ref mk, .ref us, .ref te, .ref g, .ref gc, .int 1, .int 0, .int 0, .int 1, .long 0, .long 0])), (sc, .inr (6, [.ref g, .int (-1), .ref td])), (g, .inr (3, [.ref gc, .ref ga1, .ref ga2, .ref ga3, .ref ga4, .ref ga5, .ref ga6, .ref ga7, .ref ga8, .int 0, .int 0, .int 0, .int 0, .int (-1)]))] sz) [(h0, .inr (1, [.ref sc, .ref st, .ref se, .ref mk, .ref us, .ref te, .ref g, .ref gc, .int 1, .int 0, .int 0, .int 1, .long 0, .long 0])), (sc, .inr (6, [.ref g, .int (-1), .ref td])), (g, .inr (3, [.ref gc, .ref ga1, .ref ga2, .ref ga3, .ref ga4, .ref ga5, .ref ga6, .ref ga7, .ref ga8, .int 0, .int 0, .int 0, .int 0, .int (-1)]))]) (va_A [(h0, .inr (1, [.ref sc, .ref st, .ref se, .ref mk, .ref us, .ref te, .ref g, .ref gc, .int 1, .int 0, .int 0, .int 1, .long 0, .long 0])), (sc, .inr (6, [.ref g, .int (-1), .ref td])), (g, .inr (3, [.ref gc, .ref ga1, .ref ga2, .ref ga3, .ref ga4, .ref ga5, .ref ga6, .ref ga7, .ref ga8, .int 0, .int 0, .int 0, .int 0, .int (-1)]))] sz)) 0 0 (va_A [(h0, .inr (1, [.ref sc, .ref st, .ref se, .ref mk, .ref us, .ref te, .ref g, .ref gc, .int 1, .int 0, .int 0, .int 1, .long 0, .long 0])), (sc, .inr (6, [.ref g, .int (-1), .ref td])), (g, .inr (3, [.ref gc, .ref ga1, .ref ga2, .ref ga3, .ref ga4, .ref ga5, .ref ga6, .ref ga7, .ref ga8, .int 0, .int 0, .int 0, .int 0, .int (-1)]))] sz) := by
  refine Met.ofW (cc := cX1_reachEntry) (maxL := 3) (ret := none) (by decide) rfl ?_
  intro p e s m args below meth c s₁ B hml hv
  obtain ⟨rfl, hsz, hP, hK, hD0, hN⟩ := hv
  have hx := B.exec
  have hb := B.bytes
  have hr := B.returns
  have hts := atoms_spec (ws := wsX1_reachEntry) B.pre
  have hown : s.vm.findClass RX1 = some m.cls := findClass_of_methodNamed B.named
  have hlocks := B.notSynchronized
  subst hsz
  have hD := hD0.self (sz := s.heap.size)
  generalize hAe : va_A [(h0, .inr (1, [.ref sc, .ref st, .ref se, .ref mk, .ref us, .ref te, .ref g, .ref gc, .int 1, .int 0, .int 0, .int 1, .long 0, .long 0])), (sc, .inr (6, [.ref g, .int (-1), .ref td])), (g, .inr (3, [.ref gc, .ref ga1, .ref ga2, .ref ga3, .ref ga4, .ref ga5, .ref ga6, .ref ga7, .ref ga8, .int 0, .int 0, .int 0, .int 0, .int (-1)]))] s.heap.size = A at hD ⊢
  have hA : ∀ q : Nat, s.heap.size ≤ q → A q := fun q h => by rw [← hAe]; exact Or.inr h
  have hl := lv_entry ([.ref h0]) (n := 3) (Nat.le_of_ble_eq_true rfl)
  rw [lg_entry_eq]
  generalize (lg_sl ([.ref h0]) ++ List.replicate (3 - (lg_sl ([.ref h0])).length) Slot.unset).toArray = ls at hl ⊢
  have hl : lv_has ls 3 [(0, .ref h0)] := hl
  refine k_H (A := A) hP (fun H hP hS => ?_)
  have hP : va_P (dC, dI) vwCl [(h0, .inr (1, [.ref sc, .ref st, .ref se, .ref mk, .ref us, .ref te, .ref g, .ref gc, .int 1, .int 0, .int 0, .int 1, .long 0, .long 0])), (sc, .inr (6, [.ref g, .int (-1), .ref td])), (g, .inr (3, [.ref gc, .ref ga1, .ref ga2, .ref ga3, .ref ga4, .ref ga5, .ref ga6, .ref ga7, .ref ga8, .int 0, .int 0, .int 0, .int 0, .int (-1)]))] H := hP
  have hD : va_D A [(h0, .inr (1, [.ref sc, .ref st, .ref se, .ref mk, .ref us, .ref te, .ref g, .ref gc, .int 1, .int 0, .int 0, .int 1, .long 0, .long 0])), (sc, .inr (6, [.ref g, .int (-1), .ref td])), (g, .inr (3, [.ref gc, .ref ga1, .ref ga2, .ref ga3, .ref ga4, .ref ga5, .ref ga6, .ref ga7, .ref ga8, .int 0, .int 0, .int 0, .int 0, .int (-1)]))] := hD
  refine lv_aload_n hx hb dX1_reachEntry_0 rfl (lv_at hl 0 rfl) ?_
  refine va_get (D := (dC, dI)) (ci := 1) (v := .ref g) (C := RX1) (T := TX1) (N := 14) hx hb hts iwwsX1_reachEntry_1 hown hK hP 0 rfl rfl 6 (by decide) (hts (.fieldLink RX1 42 "NothingJudge$Facts" "program" "LNothingJudge$Program;") fwwsX1_reachEntry_42) (fun _ h9 => h9) rfl dX1_reachEntry_1 ?_
  refine lv_aload_n hx hb dX1_reachEntry_4 rfl (lv_at hl 0 rfl) ?_
  refine va_get (D := (dC, dI)) (ci := 1) (v := .ref sc) (C := RX1) (T := TX1) (N := 14) hx hb hts iwwsX1_reachEntry_1 hown hK hP 0 rfl rfl 0 (by decide) (hts (.fieldLink RX1 32 "NothingJudge$Facts" "scene" "LNothingJudge$Scene;") fwwsX1_reachEntry_32) (fun _ h9 => h9) rfl dX1_reachEntry_5 ?_
  refine va_get (D := (dC, dI)) (ci := 6) (v := .int (-1)) (C := RX7) (T := TX7) (N := 3) hx hb hts iwwsX1_reachEntry_7 hown hK hP 1 rfl rfl 1 (by decide) (hts (.fieldLink RX1 104 "NothingJudge$Scene" "start" "I") fwwsX1_reachEntry_104) (fun _ h9 => h9) rfl dX1_reachEntry_8 ?_
  have hPc := hP.sub (ws' := [(g, .inr (3, [.ref gc, .ref ga1, .ref ga2, .ref ga3, .ref ga4, .ref ga5, .ref ga6, .ref ga7, .ref ga8, .int 0, .int 0, .int 0, .int 0, .int (-1)]))]) [2] rfl
  have hDc := hD.sub (ws' := [(g, .inr (3, [.ref gc, .ref ga1, .ref ga2, .ref ga3, .ref ga4, .ref ga5, .ref ga6, .ref ga7, .ref ga8, .int 0, .int 0, .int 0, .int 0, .int (-1)]))]) [2] (by decide) rfl
  have hFc := va_free (wc := [(g, .inr (3, [.ref gc, .ref ga1, .ref ga2, .ref ga3, .ref ga4, .ref ga5, .ref ga6, .ref ga7, .ref ga8, .int 0, .int 0, .int 0, .int 0, .int (-1)]))]) hD hS hA [2] rfl
  refine va_calli (va_runV (As := [.int (-1)]) (rest := []) ⟨hx, hb, hml, hown, hts⟩ (c_has l dC dI cI cB cL cZ (g) (gc) (ga1) (ga2) (ga3) (ga4) (ga5) (ga6) (ga7) (ga8) ((-1)) H.size) (cwV 1 hts gX1_reachEntry_X3_has rfl rfl rfl (by decide +kernel) ⟨Nat.le_of_ble_eq_true rfl, Nat.le_of_ble_eq_true rfl⟩) ⟨cP_fb, va_recv hK hPc (ci := 3) (q0 := 0) rfl rfl, fun U hU hW => cP_pre hPc hK hDc hN U hU hW⟩ rfl rfl hl.1 rfl (lv_room (Nat.le_of_ble_eq_true rfl)) dX1_reachEntry_11 ⟨Nat.le_of_ble_eq_true rfl, Nat.le_of_ble_eq_true rfl⟩) hS (fun q _ h => hFc q h) hFc (fun r_240 u t H1 locs ht hvm hw hB hz1 hk1 hS => ?_)
  obtain ⟨hP1, hD1⟩ := hB
  rw [ht] at hP1
  obtain ⟨hP, hD⟩ := va_join (wr := [(h0, .inr (1, [.ref sc, .ref st, .ref se, .ref mk, .ref us, .ref te, .ref g, .ref gc, .int 1, .int 0, .int 0, .int 1, .long 0, .long 0])), (sc, .inr (6, [.ref g, .int (-1), .ref td]))]) (w1 := [(g, .inr (3, [.ref gc, .ref ga1, .ref ga2, .ref ga3, .ref ga4, .ref ga5, .ref ga6, .ref ga7, .ref ga8, .int 0, .int 0, .int 0, .int 0, .int (-1)]))]) hP hD [2] [0, 1] rfl rfl (by decide) (by decide) hk1 hFc hP1 hD1
  generalize H1 = H at hP hS ⊢
  have hP : va_P (dC, dI) vwCl [(h0, .inr (1, [.ref sc, .ref st, .ref se, .ref mk, .ref us, .ref te, .ref g, .ref gc, .int 1, .int 0, .int 0, .int 1, .long 0, .long 0])), (sc, .inr (6, [.ref g, .int (-1), .ref td])), (g, .inr (3, [.ref gc, .ref ga1, .ref ga2, .ref ga3, .ref ga4, .ref ga5, .ref ga6, .ref ga7, .ref ga8, .int 0, .int 0, .int 0, .int 0, .int (-1)]))] H := hP
  have hD : va_D A [(h0, .inr (1, [.ref sc, .ref st, .ref se, .ref mk, .ref us, .ref te, .ref g, .ref gc, .int 1, .int 0, .int 0, .int 1, .long 0, .long 0])), (sc, .inr (6, [.ref g, .int (-1), .ref td])), (g, .inr (3, [.ref gc, .ref ga1, .ref ga2, .ref ga3, .ref ga4, .ref ga5, .ref ga6, .ref ga7, .ref ga8, .int 0, .int 0, .int 0, .int 0, .int (-1)]))] := hD
  obtain rfl : r_240 = 0 := hw
  refine lv_if_ne (tgt := 18) hx hb dX1_reachEntry_14 (by decide) (fun c9 => absurd c9 (by decide)) (fun _ => ?_)
  have hP9 := hP.sub (ws' := [(h0, .inr (1, [.ref sc, .ref st, .ref se, .ref mk, .ref us, .ref te, .ref g, .ref gc, .int 1, .int 0, .int 0, .int 1, .long 0, .long 0])), (sc, .inr (6, [.ref g, .int (-1), .ref td])), (g, .inr (3, [.ref gc, .ref ga1, .ref ga2, .ref ga3, .ref ga4, .ref ga5, .ref ga6, .ref ga7, .ref ga8, .int 0, .int 0, .int 0, .int 0, .int (-1)]))]) [0, 1, 2] rfl
  have hD9 := hD.sub (ws' := [(h0, .inr (1, [.ref sc, .ref st, .ref se, .ref mk, .ref us, .ref te, .ref g, .ref gc, .int 1, .int 0, .int 0, .int 1, .long 0, .long 0])), (sc, .inr (6, [.ref g, .int (-1), .ref td])), (g, .inr (3, [.ref gc, .ref ga1, .ref ga2, .ref ga3, .ref ga4, .ref ga5, .ref ga6, .ref ga7, .ref ga8, .int 0, .int 0, .int 0, .int 0, .int (-1)]))]) [0, 1, 2] (by decide) rfl
  exact W.vret hx hb hr (fun t ht hW => ⟨⟨(), rfl, trivial, by rw [ht]; exact hP9, hD9⟩, hS.F ht⟩) hS.2.2 dX1_reachEntry_17

set_option maxHeartbeats 4000000 in
set_option maxRecDepth 100000 in
theorem c_openR (l : Launch) (dC : Nat → ClassId) (dI : Nat → Nat → Nat) (cI cB cL cZ : ClassId) (h0 : Nat) (sc : Nat) (g : Nat) (gc : Nat) (st : Nat) (se : Nat) (mk : Nat) (us : Nat) (te : Nat) (sz : Nat)  : Met l yX1_openRoutines wsX1_openRoutines ({ frames := 0, cells := 0, slots := 0, locals := 0 }) (cP (dC, dI) (kTy cI cB cL cZ) [.ref h0] [(h0, .inr (1, [.ref sc, .ref st, .ref se, .ref mk, .ref us, .ref te, .ref g, .ref gc, .int 1, .int 0, .int 0, .int 1, .long 0, .long 0]))] sz) (va_Qv (fun _ : Unit => True) (fun (_ : Unit) (t : State) => va_P (dC, dI) vwCl [(h0, .inr (1, [.ref sc, .ref st, .ref se, .ref mk, .ref us, .ref te, .ref g, .ref gc, .int 1, .int 0, .int 0, .int 1, .long 0, .long 0]))] t.heap ∧ va_D (va_A [(h0, .inr (1, [.ref sc, .ref st, .ref se, .ref mk, .ref us, .ref te, .ref g, .ref gc, .int 1, .int 0, .int 0, .int 1, .long 0, .long 0]))] sz) [(h0, .inr (1, [.ref sc, .ref st, .ref se, .ref mk, .ref us, .ref te, .ref g, .ref gc, .int 1, .int 0, .int 0, .int 1, .long 0, .long 0]))]) (va_A [(h0, .inr (1, [.ref sc, .ref st, .ref se, .ref mk, .ref us, .ref te, .ref g, .ref gc, .int 1, .int 0, .int 0, .int 1, .long 0, .long 0]))] sz)) 0 0 (va_A [(h0, .inr (1, [.ref sc, .ref st, .ref se, .ref mk, .ref us, .ref te, .ref g, .ref gc, .int 1, .int 0, .int 0, .int 1, .long 0, .long 0]))] sz) := by
  refine Met.ofW (cc := cX1_openRoutines) (maxL := 6) (ret := none) (by decide) rfl ?_
  intro p e s m args below meth c s₁ B hml hv
  obtain ⟨rfl, hsz, hP, hK, hD0, hN⟩ := hv
  have hx := B.exec
  have hb := B.bytes
  have hr := B.returns
  have hts := atoms_spec (ws := wsX1_openRoutines) B.pre
  have hown : s.vm.findClass RX1 = some m.cls := findClass_of_methodNamed B.named
  have hlocks := B.notSynchronized
  subst hsz
  have hD := hD0.self (sz := s.heap.size)
  generalize hAe : va_A [(h0, .inr (1, [.ref sc, .ref st, .ref se, .ref mk, .ref us, .ref te, .ref g, .ref gc, .int 1, .int 0, .int 0, .int 1, .long 0, .long 0]))] s.heap.size = A at hD ⊢
  have hA : ∀ q : Nat, s.heap.size ≤ q → A q := fun q h => by rw [← hAe]; exact Or.inr h
  have hl := lv_entry ([.ref h0]) (n := 6) (Nat.le_of_ble_eq_true rfl)
  rw [lg_entry_eq]
  generalize (lg_sl ([.ref h0]) ++ List.replicate (6 - (lg_sl ([.ref h0])).length) Slot.unset).toArray = ls at hl ⊢
  have hl : lv_has ls 6 [(0, .ref h0)] := hl
  refine k_H (A := A) hP (fun H hP hS => ?_)
  have hP : va_P (dC, dI) vwCl [(h0, .inr (1, [.ref sc, .ref st, .ref se, .ref mk, .ref us, .ref te, .ref g, .ref gc, .int 1, .int 0, .int 0, .int 1, .long 0, .long 0]))] H := hP
  have hD : va_D A [(h0, .inr (1, [.ref sc, .ref st, .ref se, .ref mk, .ref us, .ref te, .ref g, .ref gc, .int 1, .int 0, .int 0, .int 1, .long 0, .long 0]))] := hD
  refine lv_iconst (v := 0) hx hb dX1_openRoutines_0 (by decide) ?_
  refine lv_istore_n (lv' := [(1, .int 0), (0, .ref h0)]) hx hb dX1_openRoutines_1 rfl hl (by decide) rfl (fun ls hl => ?_)
  refine lv_iload_n hx hb dX1_openRoutines_2 rfl (lv_at hl 0 rfl) ?_
  refine lv_bipush (v := 8) hx hb dX1_openRoutines_3 (by decide) ?_
  refine lv_icmp_ge (tgt := 102) hx hb dX1_openRoutines_5 (by decide) (fun c9 => absurd c9 (by decide)) (fun _ => ?_)
  refine lv_aload_n hx hb dX1_openRoutines_8 rfl (lv_at hl 1 rfl) ?_
  refine va_get (D := (dC, dI)) (ci := 1) (v := .int 0) (C := RX1) (T := TX1) (N := 14) hx hb hts iwwsX1_openRoutines_1 hown hK hP 0 rfl rfl 10 (by decide) (hts (.fieldLink RX1 92 "NothingJudge$Facts" "reached" "I") fwwsX1_openRoutines_92) (fun _ h9 => h9) rfl dX1_openRoutines_9 ?_
  refine lv_iload_n hx hb dX1_openRoutines_12 rfl (lv_at hl 0 rfl) ?_
  refine lv_ishr hx hb dX1_openRoutines_13 ?_
  refine lv_topi (fun y_241 ey_241 => ?_)
  obtain rfl : y_241 = 0 := ey_241.trans (by decide)
  refine lv_iconst (v := 1) hx hb dX1_openRoutines_14 (by decide) ?_
  refine lv_iand hx hb dX1_openRoutines_15 ?_
  refine lv_topi (fun y_242 ey_242 => ?_)
  obtain rfl : y_242 = 0 := ey_242.trans (by decide)
  refine lv_if_eq (tgt := 96) hx hb dX1_openRoutines_16 (by decide) (fun _ => ?_) (fun c9 => absurd (by decide) c9)
  refine lv_iinc (v := 1) (lv' := [(1, .int 1), (0, .ref h0)]) hx hb dX1_openRoutines_96 hl (k := 0) rfl (by decide) (by decide) rfl (fun ls hl => ?_)
  refine lv_goto (tgt := 2) hx hb dX1_openRoutines_99 (by decide) ?_
  refine lv_iload_n hx hb dX1_openRoutines_2 rfl (lv_at hl 0 rfl) ?_
  refine lv_bipush (v := 8) hx hb dX1_openRoutines_3 (by decide) ?_
  refine lv_icmp_ge (tgt := 102) hx hb dX1_openRoutines_5 (by decide) (fun c9 => absurd c9 (by decide)) (fun _ => ?_)
  refine lv_aload_n hx hb dX1_openRoutines_8 rfl (lv_at hl 1 rfl) ?_
  refine va_get (D := (dC, dI)) (ci := 1) (v := .int 0) (C := RX1) (T := TX1) (N := 14) hx hb hts iwwsX1_openRoutines_1 hown hK hP 0 rfl rfl 10 (by decide) (hts (.fieldLink RX1 92 "NothingJudge$Facts" "reached" "I") fwwsX1_openRoutines_92) (fun _ h9 => h9) rfl dX1_openRoutines_9 ?_
  refine lv_iload_n hx hb dX1_openRoutines_12 rfl (lv_at hl 0 rfl) ?_
  refine lv_ishr hx hb dX1_openRoutines_13 ?_
  refine lv_topi (fun y_243 ey_243 => ?_)
  obtain rfl : y_243 = 0 := ey_243.trans (by decide)
  refine lv_iconst (v := 1) hx hb dX1_openRoutines_14 (by decide) ?_
  refine lv_iand hx hb dX1_openRoutines_15 ?_
  refine lv_topi (fun y_244 ey_244 => ?_)
  obtain rfl : y_244 = 0 := ey_244.trans (by decide)
  refine lv_if_eq (tgt := 96) hx hb dX1_openRoutines_16 (by decide) (fun _ => ?_) (fun c9 => absurd (by decide) c9)
  refine lv_iinc (v := 2) (lv' := [(1, .int 2), (0, .ref h0)]) hx hb dX1_openRoutines_96 hl (k := 0) rfl (by decide) (by decide) rfl (fun ls hl => ?_)
  refine lv_goto (tgt := 2) hx hb dX1_openRoutines_99 (by decide) ?_
  refine lv_iload_n hx hb dX1_openRoutines_2 rfl (lv_at hl 0 rfl) ?_
  refine lv_bipush (v := 8) hx hb dX1_openRoutines_3 (by decide) ?_
  refine lv_icmp_ge (tgt := 102) hx hb dX1_openRoutines_5 (by decide) (fun c9 => absurd c9 (by decide)) (fun _ => ?_)
  refine lv_aload_n hx hb dX1_openRoutines_8 rfl (lv_at hl 1 rfl) ?_
  refine va_get (D := (dC, dI)) (ci := 1) (v := .int 0) (C := RX1) (T := TX1) (N := 14) hx hb hts iwwsX1_openRoutines_1 hown hK hP 0 rfl rfl 10 (by decide) (hts (.fieldLink RX1 92 "NothingJudge$Facts" "reached" "I") fwwsX1_openRoutines_92) (fun _ h9 => h9) rfl dX1_openRoutines_9 ?_
  refine lv_iload_n hx hb dX1_openRoutines_12 rfl (lv_at hl 0 rfl) ?_
  refine lv_ishr hx hb dX1_openRoutines_13 ?_
  refine lv_topi (fun y_245 ey_245 => ?_)
  obtain rfl : y_245 = 0 := ey_245.trans (by decide)
  refine lv_iconst (v := 1) hx hb dX1_openRoutines_14 (by decide) ?_
  refine lv_iand hx hb dX1_openRoutines_15 ?_
  refine lv_topi (fun y_246 ey_246 => ?_)
  obtain rfl : y_246 = 0 := ey_246.trans (by decide)
  refine lv_if_eq (tgt := 96) hx hb dX1_openRoutines_16 (by decide) (fun _ => ?_) (fun c9 => absurd (by decide) c9)
  refine lv_iinc (v := 3) (lv' := [(1, .int 3), (0, .ref h0)]) hx hb dX1_openRoutines_96 hl (k := 0) rfl (by decide) (by decide) rfl (fun ls hl => ?_)
  refine lv_goto (tgt := 2) hx hb dX1_openRoutines_99 (by decide) ?_
  refine lv_iload_n hx hb dX1_openRoutines_2 rfl (lv_at hl 0 rfl) ?_
  refine lv_bipush (v := 8) hx hb dX1_openRoutines_3 (by decide) ?_
  refine lv_icmp_ge (tgt := 102) hx hb dX1_openRoutines_5 (by decide) (fun c9 => absurd c9 (by decide)) (fun _ => ?_)
  refine lv_aload_n hx hb dX1_openRoutines_8 rfl (lv_at hl 1 rfl) ?_
  refine va_get (D := (dC, dI)) (ci := 1) (v := .int 0) (C := RX1) (T := TX1) (N := 14) hx hb hts iwwsX1_openRoutines_1 hown hK hP 0 rfl rfl 10 (by decide) (hts (.fieldLink RX1 92 "NothingJudge$Facts" "reached" "I") fwwsX1_openRoutines_92) (fun _ h9 => h9) rfl dX1_openRoutines_9 ?_
  refine lv_iload_n hx hb dX1_openRoutines_12 rfl (lv_at hl 0 rfl) ?_
  refine lv_ishr hx hb dX1_openRoutines_13 ?_
  refine lv_topi (fun y_247 ey_247 => ?_)
  obtain rfl : y_247 = 0 := ey_247.trans (by decide)
  refine lv_iconst (v := 1) hx hb dX1_openRoutines_14 (by decide) ?_
  refine lv_iand hx hb dX1_openRoutines_15 ?_
  refine lv_topi (fun y_248 ey_248 => ?_)
  obtain rfl : y_248 = 0 := ey_248.trans (by decide)
  refine lv_if_eq (tgt := 96) hx hb dX1_openRoutines_16 (by decide) (fun _ => ?_) (fun c9 => absurd (by decide) c9)
  refine lv_iinc (v := 4) (lv' := [(1, .int 4), (0, .ref h0)]) hx hb dX1_openRoutines_96 hl (k := 0) rfl (by decide) (by decide) rfl (fun ls hl => ?_)
  refine lv_goto (tgt := 2) hx hb dX1_openRoutines_99 (by decide) ?_
  refine lv_iload_n hx hb dX1_openRoutines_2 rfl (lv_at hl 0 rfl) ?_
  refine lv_bipush (v := 8) hx hb dX1_openRoutines_3 (by decide) ?_
  refine lv_icmp_ge (tgt := 102) hx hb dX1_openRoutines_5 (by decide) (fun c9 => absurd c9 (by decide)) (fun _ => ?_)
  refine lv_aload_n hx hb dX1_openRoutines_8 rfl (lv_at hl 1 rfl) ?_
  refine va_get (D := (dC, dI)) (ci := 1) (v := .int 0) (C := RX1) (T := TX1) (N := 14) hx hb hts iwwsX1_openRoutines_1 hown hK hP 0 rfl rfl 10 (by decide) (hts (.fieldLink RX1 92 "NothingJudge$Facts" "reached" "I") fwwsX1_openRoutines_92) (fun _ h9 => h9) rfl dX1_openRoutines_9 ?_
  refine lv_iload_n hx hb dX1_openRoutines_12 rfl (lv_at hl 0 rfl) ?_
  refine lv_ishr hx hb dX1_openRoutines_13 ?_
  refine lv_topi (fun y_249 ey_249 => ?_)
  obtain rfl : y_249 = 0 := ey_249.trans (by decide)
  refine lv_iconst (v := 1) hx hb dX1_openRoutines_14 (by decide) ?_
  refine lv_iand hx hb dX1_openRoutines_15 ?_
  refine lv_topi (fun y_250 ey_250 => ?_)
  obtain rfl : y_250 = 0 := ey_250.trans (by decide)
  refine lv_if_eq (tgt := 96) hx hb dX1_openRoutines_16 (by decide) (fun _ => ?_) (fun c9 => absurd (by decide) c9)
  refine lv_iinc (v := 5) (lv' := [(1, .int 5), (0, .ref h0)]) hx hb dX1_openRoutines_96 hl (k := 0) rfl (by decide) (by decide) rfl (fun ls hl => ?_)
  refine lv_goto (tgt := 2) hx hb dX1_openRoutines_99 (by decide) ?_
  refine lv_iload_n hx hb dX1_openRoutines_2 rfl (lv_at hl 0 rfl) ?_
  refine lv_bipush (v := 8) hx hb dX1_openRoutines_3 (by decide) ?_
  refine lv_icmp_ge (tgt := 102) hx hb dX1_openRoutines_5 (by decide) (fun c9 => absurd c9 (by decide)) (fun _ => ?_)
  refine lv_aload_n hx hb dX1_openRoutines_8 rfl (lv_at hl 1 rfl) ?_
  refine va_get (D := (dC, dI)) (ci := 1) (v := .int 0) (C := RX1) (T := TX1) (N := 14) hx hb hts iwwsX1_openRoutines_1 hown hK hP 0 rfl rfl 10 (by decide) (hts (.fieldLink RX1 92 "NothingJudge$Facts" "reached" "I") fwwsX1_openRoutines_92) (fun _ h9 => h9) rfl dX1_openRoutines_9 ?_
  refine lv_iload_n hx hb dX1_openRoutines_12 rfl (lv_at hl 0 rfl) ?_
  refine lv_ishr hx hb dX1_openRoutines_13 ?_
  refine lv_topi (fun y_251 ey_251 => ?_)
  obtain rfl : y_251 = 0 := ey_251.trans (by decide)
  refine lv_iconst (v := 1) hx hb dX1_openRoutines_14 (by decide) ?_
  refine lv_iand hx hb dX1_openRoutines_15 ?_
  refine lv_topi (fun y_252 ey_252 => ?_)
  obtain rfl : y_252 = 0 := ey_252.trans (by decide)
  refine lv_if_eq (tgt := 96) hx hb dX1_openRoutines_16 (by decide) (fun _ => ?_) (fun c9 => absurd (by decide) c9)
  refine lv_iinc (v := 6) (lv' := [(1, .int 6), (0, .ref h0)]) hx hb dX1_openRoutines_96 hl (k := 0) rfl (by decide) (by decide) rfl (fun ls hl => ?_)
  refine lv_goto (tgt := 2) hx hb dX1_openRoutines_99 (by decide) ?_
  refine lv_iload_n hx hb dX1_openRoutines_2 rfl (lv_at hl 0 rfl) ?_
  refine lv_bipush (v := 8) hx hb dX1_openRoutines_3 (by decide) ?_
  refine lv_icmp_ge (tgt := 102) hx hb dX1_openRoutines_5 (by decide) (fun c9 => absurd c9 (by decide)) (fun _ => ?_)
  refine lv_aload_n hx hb dX1_openRoutines_8 rfl (lv_at hl 1 rfl) ?_
  refine va_get (D := (dC, dI)) (ci := 1) (v := .int 0) (C := RX1) (T := TX1) (N := 14) hx hb hts iwwsX1_openRoutines_1 hown hK hP 0 rfl rfl 10 (by decide) (hts (.fieldLink RX1 92 "NothingJudge$Facts" "reached" "I") fwwsX1_openRoutines_92) (fun _ h9 => h9) rfl dX1_openRoutines_9 ?_
  refine lv_iload_n hx hb dX1_openRoutines_12 rfl (lv_at hl 0 rfl) ?_
  refine lv_ishr hx hb dX1_openRoutines_13 ?_
  refine lv_topi (fun y_253 ey_253 => ?_)
  obtain rfl : y_253 = 0 := ey_253.trans (by decide)
  refine lv_iconst (v := 1) hx hb dX1_openRoutines_14 (by decide) ?_
  refine lv_iand hx hb dX1_openRoutines_15 ?_
  refine lv_topi (fun y_254 ey_254 => ?_)
  obtain rfl : y_254 = 0 := ey_254.trans (by decide)
  refine lv_if_eq (tgt := 96) hx hb dX1_openRoutines_16 (by decide) (fun _ => ?_) (fun c9 => absurd (by decide) c9)
  refine lv_iinc (v := 7) (lv' := [(1, .int 7), (0, .ref h0)]) hx hb dX1_openRoutines_96 hl (k := 0) rfl (by decide) (by decide) rfl (fun ls hl => ?_)
  refine lv_goto (tgt := 2) hx hb dX1_openRoutines_99 (by decide) ?_
  refine lv_iload_n hx hb dX1_openRoutines_2 rfl (lv_at hl 0 rfl) ?_
  refine lv_bipush (v := 8) hx hb dX1_openRoutines_3 (by decide) ?_
  refine lv_icmp_ge (tgt := 102) hx hb dX1_openRoutines_5 (by decide) (fun c9 => absurd c9 (by decide)) (fun _ => ?_)
  refine lv_aload_n hx hb dX1_openRoutines_8 rfl (lv_at hl 1 rfl) ?_
  refine va_get (D := (dC, dI)) (ci := 1) (v := .int 0) (C := RX1) (T := TX1) (N := 14) hx hb hts iwwsX1_openRoutines_1 hown hK hP 0 rfl rfl 10 (by decide) (hts (.fieldLink RX1 92 "NothingJudge$Facts" "reached" "I") fwwsX1_openRoutines_92) (fun _ h9 => h9) rfl dX1_openRoutines_9 ?_
  refine lv_iload_n hx hb dX1_openRoutines_12 rfl (lv_at hl 0 rfl) ?_
  refine lv_ishr hx hb dX1_openRoutines_13 ?_
  refine lv_topi (fun y_255 ey_255 => ?_)
  obtain rfl : y_255 = 0 := ey_255.trans (by decide)
  refine lv_iconst (v := 1) hx hb dX1_openRoutines_14 (by decide) ?_
  refine lv_iand hx hb dX1_openRoutines_15 ?_
  refine lv_topi (fun y_256 ey_256 => ?_)
  obtain rfl : y_256 = 0 := ey_256.trans (by decide)
  refine lv_if_eq (tgt := 96) hx hb dX1_openRoutines_16 (by decide) (fun _ => ?_) (fun c9 => absurd (by decide) c9)
  refine lv_iinc (v := 8) (lv' := [(1, .int 8), (0, .ref h0)]) hx hb dX1_openRoutines_96 hl (k := 0) rfl (by decide) (by decide) rfl (fun ls hl => ?_)
  refine lv_goto (tgt := 2) hx hb dX1_openRoutines_99 (by decide) ?_
  refine lv_iload_n hx hb dX1_openRoutines_2 rfl (lv_at hl 0 rfl) ?_
  refine lv_bipush (v := 8) hx hb dX1_openRoutines_3 (by decide) ?_
  refine lv_icmp_ge (tgt := 102) hx hb dX1_openRoutines_5 (by decide) (fun _ => ?_) (fun c9 => absurd (by decide) c9)
  have hP9 := hP.sub (ws' := [(h0, .inr (1, [.ref sc, .ref st, .ref se, .ref mk, .ref us, .ref te, .ref g, .ref gc, .int 1, .int 0, .int 0, .int 1, .long 0, .long 0]))]) [0] rfl
  have hD9 := hD.sub (ws' := [(h0, .inr (1, [.ref sc, .ref st, .ref se, .ref mk, .ref us, .ref te, .ref g, .ref gc, .int 1, .int 0, .int 0, .int 1, .long 0, .long 0]))]) [0] (by decide) rfl
  exact W.vret hx hb hr (fun t ht hW => ⟨⟨(), rfl, trivial, by rw [ht]; exact hP9, hD9⟩, hS.F ht⟩) hS.2.2 dX1_openRoutines_102
