set_option maxHeartbeats 4000000 in
set_option maxRecDepth 100000 in
theorem c_outers (l : Launch) (dC : Nat → ClassId) (dI : Nat → Nat → Nat) (cI cB cL cZ : ClassId) (h0 : Nat) (g : Nat) (td : Nat) (gc : Nat) (ga1 : Nat) (ga2 : Nat) (ga3 : Nat) (ga4 : Nat) (ga5 : Nat) (ga6 : Nat) (ga7 : Nat) (ga8 : Nat) (sz : Nat)  : Met l yX7_outers wsX7_outers ({ frames := 1, cells := 0, slots := 0, locals := 21 }) (cP (dC, dI) (kTy cI cB cL cZ) [.ref h0] [(h0, .inr (6, [.ref g, .int (-1), .ref td])), (g, .inr (3, [.ref gc, .ref ga1, .ref ga2, .ref ga3, .ref ga4, .ref ga5, .ref ga6, .ref ga7, .ref ga8, .int 0, .int 0, .int 0, .int 0, .int (-1)]))] sz) (va_Qi (fun (r : Int32) (_ : Unit) => r = 0) (fun (_ : Unit) (t : State) => va_P (dC, dI) vwCl [(h0, .inr (6, [.ref g, .int (-1), .ref td])), (g, .inr (3, [.ref gc, .ref ga1, .ref ga2, .ref ga3, .ref ga4, .ref ga5, .ref ga6, .ref ga7, .ref ga8, .int 0, .int 0, .int 0, .int 0, .int (-1)]))] t.heap ∧ va_D (va_A [(h0, .inr (6, [.ref g, .int (-1), .ref td])), (g, .inr (3, [.ref gc, .ref ga1, .ref ga2, .ref ga3, .ref ga4, .ref ga5, .ref ga6, .ref ga7, .ref ga8, .int 0, .int 0, .int 0, .int 0, .int (-1)]))] sz) [(h0, .inr (6, [.ref g, .int (-1), .ref td])), (g, .inr (3, [.ref gc, .ref ga1, .ref ga2, .ref ga3, .ref ga4, .ref ga5, .ref ga6, .ref ga7, .ref ga8, .int 0, .int 0, .int 0, .int 0, .int (-1)]))]) (va_A [(h0, .inr (6, [.ref g, .int (-1), .ref td])), (g, .inr (3, [.ref gc, .ref ga1, .ref ga2, .ref ga3, .ref ga4, .ref ga5, .ref ga6, .ref ga7, .ref ga8, .int 0, .int 0, .int 0, .int 0, .int (-1)]))] sz)) 0 0 (va_A [(h0, .inr (6, [.ref g, .int (-1), .ref td])), (g, .inr (3, [.ref gc, .ref ga1, .ref ga2, .ref ga3, .ref ga4, .ref ga5, .ref ga6, .ref ga7, .ref ga8, .int 0, .int 0, .int 0, .int 0, .int (-1)]))] sz) := by
  refine Met.ofW (cc := cX7_outers) (maxL := 1) (ret := (some .int)) (by decide) rfl ?_
  intro p e s m args below meth c s₁ B hml hv
  obtain ⟨rfl, hsz, hP, hK, hD0, hN⟩ := hv
  have hx := B.exec
  have hb := B.bytes
  have hr := B.returns
  have hts := atoms_spec (ws := wsX7_outers) B.pre
  have hown : s.vm.findClass RX7 = some m.cls := findClass_of_methodNamed B.named
  have hlocks := B.notSynchronized
  subst hsz
  have hD := hD0.self (sz := s.heap.size)
  generalize hAe : va_A [(h0, .inr (6, [.ref g, .int (-1), .ref td])), (g, .inr (3, [.ref gc, .ref ga1, .ref ga2, .ref ga3, .ref ga4, .ref ga5, .ref ga6, .ref ga7, .ref ga8, .int 0, .int 0, .int 0, .int 0, .int (-1)]))] s.heap.size = A at hD ⊢
  have hA : ∀ q : Nat, s.heap.size ≤ q → A q := fun q h => by rw [← hAe]; exact Or.inr h
  have hl := lv_entry ([.ref h0]) (n := 1) (Nat.le_of_ble_eq_true rfl)
  rw [lg_entry_eq]
  generalize (lg_sl ([.ref h0]) ++ List.replicate (1 - (lg_sl ([.ref h0])).length) Slot.unset).toArray = ls at hl ⊢
  have hl : lv_has ls 1 [(0, .ref h0)] := hl
  refine k_H (A := A) hP (fun H hP hS => ?_)
  have hP : va_P (dC, dI) vwCl [(h0, .inr (6, [.ref g, .int (-1), .ref td])), (g, .inr (3, [.ref gc, .ref ga1, .ref ga2, .ref ga3, .ref ga4, .ref ga5, .ref ga6, .ref ga7, .ref ga8, .int 0, .int 0, .int 0, .int 0, .int (-1)]))] H := hP
  have hD : va_D A [(h0, .inr (6, [.ref g, .int (-1), .ref td])), (g, .inr (3, [.ref gc, .ref ga1, .ref ga2, .ref ga3, .ref ga4, .ref ga5, .ref ga6, .ref ga7, .ref ga8, .int 0, .int 0, .int 0, .int 0, .int (-1)]))] := hD
  refine lv_aload_n hx hb dX7_outers_0 rfl (lv_at hl 0 rfl) ?_
  refine va_get (D := (dC, dI)) (ci := 6) (v := .ref g) (C := RX7) (T := TX7) (N := 3) hx hb hts iwwsX7_outers_7 hown hK hP 0 rfl rfl 0 (by decide) (hts (.fieldLink RX7 19 "NothingJudge$Scene" "program" "LNothingJudge$Program;") fwwsX7_outers_19) (fun _ h9 => h9) rfl dX7_outers_1 ?_
  refine va_get (D := (dC, dI)) (ci := 3) (v := .ref ga2) (C := RX3) (T := TX3) (N := 14) hx hb hts iwwsX7_outers_3 hown hK hP 1 rfl rfl 2 (by decide) (hts (.fieldLink RX7 29 "NothingJudge$Program" "arity" "[I") fwwsX7_outers_29) (fun _ h9 => h9) rfl dX7_outers_4 ?_
  refine lv_aload_n hx hb dX7_outers_7 rfl (lv_at hl 0 rfl) ?_
  refine va_get (D := (dC, dI)) (ci := 6) (v := .int (-1)) (C := RX7) (T := TX7) (N := 3) hx hb hts iwwsX7_outers_7 hown hK hP 0 rfl rfl 1 (by decide) (hts (.fieldLink RX7 9 "NothingJudge$Scene" "start" "I") fwwsX7_outers_9) (fun _ h9 => h9) rfl dX7_outers_8 ?_
  have hPc := hP.sub (ws' := []) [] rfl
  have hDc := hD.sub (ws' := []) [] (by decide) rfl
  have hFc := va_free (wc := []) hD hS hA [] rfl
  refine va_calli (va_runS (As := [.ref ga2, .int (-1)]) (rest := []) ⟨hx, hb, hml, hown, hts⟩ (c_at_neg l dC dI cI cB cL cZ (ga2) ((-1)) H.size (by decide)) (va_cwS 2 hts gX7_outers_X5_at rfl rfl rfl (by decide +kernel) ⟨Nat.le_of_ble_eq_true rfl, Nat.le_of_ble_eq_true rfl⟩) ⟨cP_fb, fun U hU hW => cP_pre hPc hK hDc hN U hU hW⟩ rfl rfl hl.1 rfl (lv_room (Nat.le_of_ble_eq_true rfl)) dX7_outers_11 ⟨Nat.le_of_ble_eq_true rfl, Nat.le_of_ble_eq_true rfl⟩) hS (fun q _ h => hFc q h) hFc (fun r_110 u t H1 locs ht hvm hw hB hz1 hk1 hS => ?_)
  obtain ⟨hP1, hD1⟩ := hB
  rw [ht] at hP1
  obtain ⟨hP, hD⟩ := va_join (wr := [(h0, .inr (6, [.ref g, .int (-1), .ref td])), (g, .inr (3, [.ref gc, .ref ga1, .ref ga2, .ref ga3, .ref ga4, .ref ga5, .ref ga6, .ref ga7, .ref ga8, .int 0, .int 0, .int 0, .int 0, .int (-1)]))]) (w1 := []) hP hD [] [0, 1] rfl rfl (by decide) (by decide) hk1 hFc hP1 hD1
  generalize H1 = H at hP hS ⊢
  have hP : va_P (dC, dI) vwCl [(h0, .inr (6, [.ref g, .int (-1), .ref td])), (g, .inr (3, [.ref gc, .ref ga1, .ref ga2, .ref ga3, .ref ga4, .ref ga5, .ref ga6, .ref ga7, .ref ga8, .int 0, .int 0, .int 0, .int 0, .int (-1)]))] H := hP
  have hD : va_D A [(h0, .inr (6, [.ref g, .int (-1), .ref td])), (g, .inr (3, [.ref gc, .ref ga1, .ref ga2, .ref ga3, .ref ga4, .ref ga5, .ref ga6, .ref ga7, .ref ga8, .int 0, .int 0, .int 0, .int 0, .int (-1)]))] := hD
  obtain rfl : r_110 = 0 := hw
  refine lv_aload_n hx hb dX7_outers_14 rfl (lv_at hl 0 rfl) ?_
  refine va_get (D := (dC, dI)) (ci := 6) (v := .ref g) (C := RX7) (T := TX7) (N := 3) hx hb hts iwwsX7_outers_7 hown hK hP 0 rfl rfl 0 (by decide) (hts (.fieldLink RX7 19 "NothingJudge$Scene" "program" "LNothingJudge$Program;") fwwsX7_outers_19) (fun _ h9 => h9) rfl dX7_outers_15 ?_
  refine lv_aload_n hx hb dX7_outers_18 rfl (lv_at hl 0 rfl) ?_
  refine va_get (D := (dC, dI)) (ci := 6) (v := .int (-1)) (C := RX7) (T := TX7) (N := 3) hx hb hts iwwsX7_outers_7 hown hK hP 0 rfl rfl 1 (by decide) (hts (.fieldLink RX7 9 "NothingJudge$Scene" "start" "I") fwwsX7_outers_9) (fun _ h9 => h9) rfl dX7_outers_19 ?_
  have hPc := hP.sub (ws' := [(g, .inr (3, [.ref gc, .ref ga1, .ref ga2, .ref ga3, .ref ga4, .ref ga5, .ref ga6, .ref ga7, .ref ga8, .int 0, .int 0, .int 0, .int 0, .int (-1)]))]) [1] rfl
  have hDc := hD.sub (ws' := [(g, .inr (3, [.ref gc, .ref ga1, .ref ga2, .ref ga3, .ref ga4, .ref ga5, .ref ga6, .ref ga7, .ref ga8, .int 0, .int 0, .int 0, .int 0, .int (-1)]))]) [1] (by decide) rfl
  have hFc := va_free (wc := [(g, .inr (3, [.ref gc, .ref ga1, .ref ga2, .ref ga3, .ref ga4, .ref ga5, .ref ga6, .ref ga7, .ref ga8, .int 0, .int 0, .int 0, .int 0, .int (-1)]))]) hD hS hA [1] rfl
  refine va_calli (va_runV (As := [.int (-1)]) (rest := [.int 0]) ⟨hx, hb, hml, hown, hts⟩ (c_has l dC dI cI cB cL cZ (g) (gc) (ga1) (ga2) (ga3) (ga4) (ga5) (ga6) (ga7) (ga8) ((-1)) H.size) (cwV 1 hts gX7_outers_X3_has rfl rfl rfl (by decide +kernel) ⟨Nat.le_of_ble_eq_true rfl, Nat.le_of_ble_eq_true rfl⟩) ⟨cP_fb, va_recv hK hPc (ci := 3) (q0 := 0) rfl rfl, fun U hU hW => cP_pre hPc hK hDc hN U hU hW⟩ rfl rfl hl.1 rfl (lv_room (Nat.le_of_ble_eq_true rfl)) dX7_outers_22 ⟨Nat.le_of_ble_eq_true rfl, Nat.le_of_ble_eq_true rfl⟩) hS (fun q _ h => hFc q h) hFc (fun r_111 u t H1 locs ht hvm hw hB hz1 hk1 hS => ?_)
  obtain ⟨hP1, hD1⟩ := hB
  rw [ht] at hP1
  obtain ⟨hP, hD⟩ := va_join (wr := [(h0, .inr (6, [.ref g, .int (-1), .ref td]))]) (w1 := [(g, .inr (3, [.ref gc, .ref ga1, .ref ga2, .ref ga3, .ref ga4, .ref ga5, .ref ga6, .ref ga7, .ref ga8, .int 0, .int 0, .int 0, .int 0, .int (-1)]))]) hP hD [1] [0] rfl rfl (by decide) (by decide) hk1 hFc hP1 hD1
  generalize H1 = H at hP hS ⊢
  have hP : va_P (dC, dI) vwCl [(h0, .inr (6, [.ref g, .int (-1), .ref td])), (g, .inr (3, [.ref gc, .ref ga1, .ref ga2, .ref ga3, .ref ga4, .ref ga5, .ref ga6, .ref ga7, .ref ga8, .int 0, .int 0, .int 0, .int 0, .int (-1)]))] H := hP
  have hD : va_D A [(h0, .inr (6, [.ref g, .int (-1), .ref td])), (g, .inr (3, [.ref gc, .ref ga1, .ref ga2, .ref ga3, .ref ga4, .ref ga5, .ref ga6, .ref ga7, .ref ga8, .int 0, .int 0, .int 0, .int 0, .int (-1)]))] := hD
  obtain rfl : r_111 = 0 := hw
  refine lv_if_eq (tgt := 32) hx hb dX7_outers_25 (by decide) (fun _ => ?_) (fun c9 => absurd (by decide) c9)
  refine lv_iconst (v := 0) hx hb dX7_outers_32 (by decide) ?_
  refine va_mmin hx hb (by rw [hml]; exact hl.1.symm) hown (hts (.methodLink RX7 44 Lib.Math.min.name) ml_wsX7_outers) (hts (.static Lib.Math.min.name) ms_wsX7_outers) (hts (.initialized "java/lang/Math") mi_wsX7_outers) (hts (.code Lib.Math.min.name Lib.Math.min.code 2 (some .int)) mc_wsX7_outers) (Nat.le_of_ble_eq_true rfl) (Nat.le_of_ble_eq_true rfl) (Nat.le_of_ble_eq_true rfl) (Nat.le_of_ble_eq_true rfl) dX7_outers_33 ?_
  refine lv_topi (fun y_112 ey_112 => ?_)
  obtain rfl : y_112 = 0 := ey_112.trans (by decide)
  have hP9 := hP.sub (ws' := [(h0, .inr (6, [.ref g, .int (-1), .ref td])), (g, .inr (3, [.ref gc, .ref ga1, .ref ga2, .ref ga3, .ref ga4, .ref ga5, .ref ga6, .ref ga7, .ref ga8, .int 0, .int 0, .int 0, .int 0, .int (-1)]))]) [0, 1] rfl
  have hD9 := hD.sub (ws' := [(h0, .inr (6, [.ref g, .int (-1), .ref td])), (g, .inr (3, [.ref gc, .ref ga1, .ref ga2, .ref ga3, .ref ga4, .ref ga5, .ref ga6, .ref ga7, .ref ga8, .int 0, .int 0, .int 0, .int 0, .int (-1)]))]) [0, 1] (by decide) rfl
  exact W.iret (v := 0) hx hb hr (fun t ht hW => ⟨⟨0, (), rfl, rfl, by rw [ht]; exact hP9, hD9⟩, hS.F ht⟩) hS.2.2 dX7_outers_36

set_option maxHeartbeats 4000000 in
set_option maxRecDepth 100000 in
theorem c_allows (l : Launch) (dC : Nat → ClassId) (dI : Nat → Nat → Nat) (cI cB cL cZ : ClassId) (h0 : Nat) (g : Nat) (td : Nat) (gc : Nat) (ga1 : Nat) (ga2 : Nat) (ga3 : Nat) (ga4 : Nat) (ga5 : Nat) (ga6 : Nat) (ga7 : Nat) (ga8 : Nat) (bits : Int32) (sz : Nat)  : Met l yX7_allows wsX7_allows ({ frames := 1, cells := 0, slots := 0, locals := 21 }) (cP (dC, dI) (kTy cI cB cL cZ) [.ref h0, .int bits] [(h0, .inr (6, [.ref g, .int (-1), .ref td])), (g, .inr (3, [.ref gc, .ref ga1, .ref ga2, .ref ga3, .ref ga4, .ref ga5, .ref ga6, .ref ga7, .ref ga8, .int 0, .int 0, .int 0, .int 0, .int (-1)]))] sz) (va_Qi (fun (r : Int32) (_ : Unit) => r = 0) (fun (_ : Unit) (t : State) => va_P (dC, dI) vwCl [] t.heap ∧ va_D (va_A [(h0, .inr (6, [.ref g, .int (-1), .ref td])), (g, .inr (3, [.ref gc, .ref ga1, .ref ga2, .ref ga3, .ref ga4, .ref ga5, .ref ga6, .ref ga7, .ref ga8, .int 0, .int 0, .int 0, .int 0, .int (-1)]))] sz) []) (va_A [(h0, .inr (6, [.ref g, .int (-1), .ref td])), (g, .inr (3, [.ref gc, .ref ga1, .ref ga2, .ref ga3, .ref ga4, .ref ga5, .ref ga6, .ref ga7, .ref ga8, .int 0, .int 0, .int 0, .int 0, .int (-1)]))] sz)) 0 0 (va_A [(h0, .inr (6, [.ref g, .int (-1), .ref td])), (g, .inr (3, [.ref gc, .ref ga1, .ref ga2, .ref ga3, .ref ga4, .ref ga5, .ref ga6, .ref ga7, .ref ga8, .int 0, .int 0, .int 0, .int 0, .int (-1)]))] sz) := by
  refine Met.ofW (cc := cX7_allows) (maxL := 4) (ret := (some .boolean)) (by decide) rfl ?_
  intro p e s m args below meth c s₁ B hml hv
  obtain ⟨rfl, hsz, hP, hK, hD0, hN⟩ := hv
  have hx := B.exec
  have hb := B.bytes
  have hr := B.returns
  have hts := atoms_spec (ws := wsX7_allows) B.pre
  have hown : s.vm.findClass RX7 = some m.cls := findClass_of_methodNamed B.named
  have hlocks := B.notSynchronized
  subst hsz
  have hD := hD0.self (sz := s.heap.size)
  generalize hAe : va_A [(h0, .inr (6, [.ref g, .int (-1), .ref td])), (g, .inr (3, [.ref gc, .ref ga1, .ref ga2, .ref ga3, .ref ga4, .ref ga5, .ref ga6, .ref ga7, .ref ga8, .int 0, .int 0, .int 0, .int 0, .int (-1)]))] s.heap.size = A at hD ⊢
  have hA : ∀ q : Nat, s.heap.size ≤ q → A q := fun q h => by rw [← hAe]; exact Or.inr h
  have hl := lv_entry ([.ref h0, .int bits]) (n := 4) (Nat.le_of_ble_eq_true rfl)
  rw [lg_entry_eq]
  generalize (lg_sl ([.ref h0, .int bits]) ++ List.replicate (4 - (lg_sl ([.ref h0, .int bits])).length) Slot.unset).toArray = ls at hl ⊢
  have hl : lv_has ls 4 [(0, .ref h0), (1, .int bits)] := hl
  refine k_H (A := A) hP (fun H hP hS => ?_)
  have hP : va_P (dC, dI) vwCl [(h0, .inr (6, [.ref g, .int (-1), .ref td])), (g, .inr (3, [.ref gc, .ref ga1, .ref ga2, .ref ga3, .ref ga4, .ref ga5, .ref ga6, .ref ga7, .ref ga8, .int 0, .int 0, .int 0, .int 0, .int (-1)]))] H := hP
  have hD : va_D A [(h0, .inr (6, [.ref g, .int (-1), .ref td])), (g, .inr (3, [.ref gc, .ref ga1, .ref ga2, .ref ga3, .ref ga4, .ref ga5, .ref ga6, .ref ga7, .ref ga8, .int 0, .int 0, .int 0, .int 0, .int (-1)]))] := hD
  refine lv_aload_n hx hb dX7_allows_0 rfl (lv_at hl 0 rfl) ?_
  refine va_get (D := (dC, dI)) (ci := 6) (v := .ref g) (C := RX7) (T := TX7) (N := 3) hx hb hts iwwsX7_allows_7 hown hK hP 0 rfl rfl 0 (by decide) (hts (.fieldLink RX7 19 "NothingJudge$Scene" "program" "LNothingJudge$Program;") fwwsX7_allows_19) (fun _ h9 => h9) rfl dX7_allows_1 ?_
  refine lv_aload_n hx hb dX7_allows_4 rfl (lv_at hl 0 rfl) ?_
  refine va_get (D := (dC, dI)) (ci := 6) (v := .int (-1)) (C := RX7) (T := TX7) (N := 3) hx hb hts iwwsX7_allows_7 hown hK hP 0 rfl rfl 1 (by decide) (hts (.fieldLink RX7 9 "NothingJudge$Scene" "start" "I") fwwsX7_allows_9) (fun _ h9 => h9) rfl dX7_allows_5 ?_
  have hPc := hP.sub (ws' := [(g, .inr (3, [.ref gc, .ref ga1, .ref ga2, .ref ga3, .ref ga4, .ref ga5, .ref ga6, .ref ga7, .ref ga8, .int 0, .int 0, .int 0, .int 0, .int (-1)]))]) [1] rfl
  have hDc := hD.sub (ws' := [(g, .inr (3, [.ref gc, .ref ga1, .ref ga2, .ref ga3, .ref ga4, .ref ga5, .ref ga6, .ref ga7, .ref ga8, .int 0, .int 0, .int 0, .int 0, .int (-1)]))]) [1] (by decide) rfl
  have hFc := va_free (wc := [(g, .inr (3, [.ref gc, .ref ga1, .ref ga2, .ref ga3, .ref ga4, .ref ga5, .ref ga6, .ref ga7, .ref ga8, .int 0, .int 0, .int 0, .int 0, .int (-1)]))]) hD hS hA [1] rfl
  refine va_calli (va_runV (As := [.int (-1)]) (rest := []) ⟨hx, hb, hml, hown, hts⟩ (c_has l dC dI cI cB cL cZ (g) (gc) (ga1) (ga2) (ga3) (ga4) (ga5) (ga6) (ga7) (ga8) ((-1)) H.size) (cwV 1 hts gX7_allows_X3_has rfl rfl rfl (by decide +kernel) ⟨Nat.le_of_ble_eq_true rfl, Nat.le_of_ble_eq_true rfl⟩) ⟨cP_fb, va_recv hK hPc (ci := 3) (q0 := 0) rfl rfl, fun U hU hW => cP_pre hPc hK hDc hN U hU hW⟩ rfl rfl hl.1 rfl (lv_room (Nat.le_of_ble_eq_true rfl)) dX7_allows_8 ⟨Nat.le_of_ble_eq_true rfl, Nat.le_of_ble_eq_true rfl⟩) hS (fun q _ h => hFc q h) hFc (fun r_113 u t H1 locs ht hvm hw hB hz1 hk1 hS => ?_)
  obtain ⟨hP1, hD1⟩ := hB
  rw [ht] at hP1
  obtain ⟨hP, hD⟩ := va_join (wr := [(h0, .inr (6, [.ref g, .int (-1), .ref td]))]) (w1 := [(g, .inr (3, [.ref gc, .ref ga1, .ref ga2, .ref ga3, .ref ga4, .ref ga5, .ref ga6, .ref ga7, .ref ga8, .int 0, .int 0, .int 0, .int 0, .int (-1)]))]) hP hD [1] [0] rfl rfl (by decide) (by decide) hk1 hFc hP1 hD1
  generalize H1 = H at hP hS ⊢
  have hP : va_P (dC, dI) vwCl [(h0, .inr (6, [.ref g, .int (-1), .ref td])), (g, .inr (3, [.ref gc, .ref ga1, .ref ga2, .ref ga3, .ref ga4, .ref ga5, .ref ga6, .ref ga7, .ref ga8, .int 0, .int 0, .int 0, .int 0, .int (-1)]))] H := hP
  have hD : va_D A [(h0, .inr (6, [.ref g, .int (-1), .ref td])), (g, .inr (3, [.ref gc, .ref ga1, .ref ga2, .ref ga3, .ref ga4, .ref ga5, .ref ga6, .ref ga7, .ref ga8, .int 0, .int 0, .int 0, .int 0, .int (-1)]))] := hD
  obtain rfl : r_113 = 0 := hw
  refine lv_if_eq (tgt := 28) hx hb dX7_allows_11 (by decide) (fun _ => ?_) (fun c9 => absurd (by decide) c9)
  refine lv_iconst (v := 0) hx hb dX7_allows_28 (by decide) ?_
  have hP9 := hP.sub (ws' := []) [] rfl
  have hD9 := hD.sub (ws' := []) [] (by decide) rfl
  exact W.zret (v := 0) (ty := .boolean) hx hb hr rfl (fun t ht hW => ⟨⟨0, (), rfl, rfl, by rw [ht]; exact hP9, hD9⟩, hS.F ht⟩) hS.2.2 dX7_allows_29

set_option maxHeartbeats 4000000 in
set_option maxRecDepth 100000 in
theorem c_startAt (l : Launch) (dC : Nat → ClassId) (dI : Nat → Nat → Nat) (cI cB cL cZ : ClassId) (h0 : Nat) (g : Nat) (td : Nat) (f : Nat → Int32) (sz : Nat)  : Met l yX7_startAt wsX7_startAt ({ frames := 1, cells := 0, slots := 0, locals := 23 }) (cP (dC, dI) (kTy cI cB cL cZ) [.ref h0, .int (-1)] [(h0, .inr (6, [.ref g, .int (-1), .ref td])), (td, .inl (cI, 4, .inl f))] sz) (va_Qv (fun _ : Unit => True) (fun (_ : Unit) (t : State) => va_P (dC, dI) vwCl [(h0, .inr (6, [.ref g, .int (-1), .ref td]))] t.heap ∧ va_D (va_A [(h0, .inr (6, [.ref g, .int (-1), .ref td])), (td, .inl (cI, 4, .inl f))] sz) [(h0, .inr (6, [.ref g, .int (-1), .ref td]))]) (va_A [(h0, .inr (6, [.ref g, .int (-1), .ref td])), (td, .inl (cI, 4, .inl f))] sz)) 0 0 (va_A [(h0, .inr (6, [.ref g, .int (-1), .ref td])), (td, .inl (cI, 4, .inl f))] sz) := by
  refine Met.ofW (cc := cX7_startAt) (maxL := 2) (ret := none) (by decide) rfl ?_
  intro p e s m args below meth c s₁ B hml hv
  obtain ⟨rfl, hsz, hP, hK, hD0, hN⟩ := hv
  have hx := B.exec
  have hb := B.bytes
  have hr := B.returns
  have hts := atoms_spec (ws := wsX7_startAt) B.pre
  have hown : s.vm.findClass RX7 = some m.cls := findClass_of_methodNamed B.named
  have hlocks := B.notSynchronized
  subst hsz
  have hD := hD0.self (sz := s.heap.size)
  generalize hAe : va_A [(h0, .inr (6, [.ref g, .int (-1), .ref td])), (td, .inl (cI, 4, .inl f))] s.heap.size = A at hD ⊢
  have hA : ∀ q : Nat, s.heap.size ≤ q → A q := fun q h => by rw [← hAe]; exact Or.inr h
  have hl := lv_entry ([.ref h0, .int (-1)]) (n := 2) (Nat.le_of_ble_eq_true rfl)
  rw [lg_entry_eq]
  generalize (lg_sl ([.ref h0, .int (-1)]) ++ List.replicate (2 - (lg_sl ([.ref h0, .int (-1)])).length) Slot.unset).toArray = ls at hl ⊢
  have hl : lv_has ls 2 [(0, .ref h0), (1, .int (-1))] := hl
  refine k_H (A := A) hP (fun H hP hS => ?_)
  have hP : va_P (dC, dI) vwCl [(h0, .inr (6, [.ref g, .int (-1), .ref td])), (td, .inl (cI, 4, .inl f))] H := hP
  have hD : va_D A [(h0, .inr (6, [.ref g, .int (-1), .ref td])), (td, .inl (cI, 4, .inl f))] := hD
  refine lv_aload_n hx hb dX7_startAt_0 rfl (lv_at hl 0 rfl) ?_
  refine lv_iload_n hx hb dX7_startAt_1 rfl (lv_at hl 1 rfl) ?_
  refine va_put (D := (dC, dI)) (ci := 6) (v := .int (-1)) (ty := .int) (C := RX7) (T := TX7) (N := 3) hx hb hts iwwsX7_startAt_7 tyX7 tyX7_ok nmX7 hown hK hP hD hS 0 rfl rfl 1 (by decide) (hts (.fieldLink RX7 9 "NothingJudge$Scene" "start" "I") fwwsX7_startAt_9) (fun _ h9 => h9) rfl (by decide +kernel) rfl rfl (Nat.le_of_ble_eq_true rfl) dX7_startAt_2 (fun H locs hP hD hS => ?_)
  have hP : va_P (dC, dI) vwCl [(h0, .inr (6, [.ref g, .int (-1), .ref td])), (td, .inl (cI, 4, .inl f))] H := hP
  have hD : va_D A [(h0, .inr (6, [.ref g, .int (-1), .ref td])), (td, .inl (cI, 4, .inl f))] := hD
  refine lv_aload_n hx hb dX7_startAt_5 rfl (lv_at hl 0 rfl) ?_
  refine va_get (D := (dC, dI)) (ci := 6) (v := .ref td) (C := RX7) (T := TX7) (N := 3) hx hb hts iwwsX7_startAt_7 hown hK hP 0 rfl rfl 2 (by decide) (hts (.fieldLink RX7 15 "NothingJudge$Scene" "told" "[I") fwwsX7_startAt_15) (fun _ h9 => h9) rfl dX7_startAt_6 ?_
  refine lv_iconst (v := 3) hx hb dX7_startAt_9 (by decide) ?_
  have hPc := hP.sub (ws' := [(td, .inl (cI, 4, .inl f))]) [1] rfl
  have hDc := hD.sub (ws' := [(td, .inl (cI, 4, .inl f))]) [1] (by decide) rfl
  have hFc := va_free (wc := [(td, .inl (cI, 4, .inl f))]) hD hS hA [1] rfl
  refine va_callv (va_runS (As := [.ref td, .int 3]) (rest := []) ⟨hx, hb, hml, hown, hts⟩ (c_fillI l dC dI cI cB cL cZ (td) (3) (f) (4) H.size (by decide)) (va_cwS 2 hts gX7_startAt_J7_fill_53178 rfl rfl rfl (by decide +kernel) ⟨Nat.le_of_ble_eq_true rfl, Nat.le_of_ble_eq_true rfl⟩) ⟨cP_fb, fun U hU hW => cP_pre hPc hK hDc hN U hU hW⟩ rfl rfl hl.1 rfl (lv_room (Nat.le_of_ble_eq_true rfl)) dX7_startAt_10 ⟨Nat.le_of_ble_eq_true rfl, Nat.le_of_ble_eq_true rfl⟩) hS (fun q _ h => hFc q h) hFc (fun u t H1 locs ht hvm hw hB hz1 hk1 hS => ?_)
  obtain ⟨f_114, hf_115, hP1, hD1⟩ := hB
  rw [ht] at hP1
  obtain ⟨hP, hD⟩ := va_join (wr := [(h0, .inr (6, [.ref g, .int (-1), .ref td]))]) (w1 := [(td, .inl (cI, N, .inl f_114))]) hP hD [1] [0] rfl rfl (by decide) (by decide) hk1 hFc hP1 hD1
  generalize H1 = H at hP hS ⊢
  have hP : va_P (dC, dI) vwCl [(h0, .inr (6, [.ref g, .int (-1), .ref td])), (td, .inl (cI, N, .inl f_114))] H := hP
  have hD : va_D A [(h0, .inr (6, [.ref g, .int (-1), .ref td])), (td, .inl (cI, N, .inl f_114))] := hD
  have hP9 := hP.sub (ws' := [(h0, .inr (6, [.ref g, .int (-1), .ref td]))]) [0] rfl
  have hD9 := hD.sub (ws' := [(h0, .inr (6, [.ref g, .int (-1), .ref td]))]) [0] (by decide) rfl
  exact W.vret hx hb hr (fun t ht hW => ⟨⟨(), rfl, trivial, by rw [ht]; exact hP9, hD9⟩, hS.F ht⟩) hS.2.2 dX7_startAt_13

set_option maxHeartbeats 4000000 in
set_option maxRecDepth 100000 in
theorem c_putNumber0 (l : Launch) (dC : Nat → ClassId) (dI : Nat → Nat → Nat) (cI cB cL cZ : ClassId) (h0 : Nat) (tp : Nat) (tok : Nat) (sp : Nat) (rdr : Nat) (scn : Nat) (fct : Nat) (rnr : Nat) (trl : Nat) (mnd : Nat) (rrw : Nat) (n : Int32) (f : Nat → Int32) (sz : Nat)  : Met l yX10_putNumber wsX10_putNumber ({ frames := 0, cells := 0, slots := 0, locals := 0 }) (cP (dC, dI) (kTy cI cB cL cZ) [.ref h0, .int n] [(h0, .inr (9, [.ref tp, .int 0, .ref tok, .ref sp, .ref rdr, .int 0, .int (-1), .ref scn, .ref fct, .ref rnr, .ref trl, .ref mnd, .ref rrw])), (tp, .inl (cB, 1200, .inl f))] sz) (va_Qv (fun _ : Unit => True) (fun (_ : Unit) (t : State) => ∃ fz0 : Nat → Int32, va_P (dC, dI) vwCl [(h0, .inr (9, [.ref tp, .int 4, .ref tok, .ref sp, .ref rdr, .int 0, .int (-1), .ref scn, .ref fct, .ref rnr, .ref trl, .ref mnd, .ref rrw])), (tp, .inl (cB, 1200, .inl fz0))] t.heap ∧ va_D (va_A [(h0, .inr (9, [.ref tp, .int 0, .ref tok, .ref sp, .ref rdr, .int 0, .int (-1), .ref scn, .ref fct, .ref rnr, .ref trl, .ref mnd, .ref rrw])), (tp, .inl (cB, 1200, .inl f))] sz) [(h0, .inr (9, [.ref tp, .int 4, .ref tok, .ref sp, .ref rdr, .int 0, .int (-1), .ref scn, .ref fct, .ref rnr, .ref trl, .ref mnd, .ref rrw])), (tp, .inl (cB, 1200, .inl fz0))]) (va_A [(h0, .inr (9, [.ref tp, .int 0, .ref tok, .ref sp, .ref rdr, .int 0, .int (-1), .ref scn, .ref fct, .ref rnr, .ref trl, .ref mnd, .ref rrw])), (tp, .inl (cB, 1200, .inl f))] sz)) 0 0 (va_A [(h0, .inr (9, [.ref tp, .int 0, .ref tok, .ref sp, .ref rdr, .int 0, .int (-1), .ref scn, .ref fct, .ref rnr, .ref trl, .ref mnd, .ref rrw])), (tp, .inl (cB, 1200, .inl f))] sz) := by
  refine Met.ofW (cc := cX10_putNumber) (maxL := 3) (ret := none) (by decide) rfl ?_
  intro p e s m args below meth c s₁ B hml hv
  obtain ⟨rfl, hsz, hP, hK, hD0, hN⟩ := hv
  have hx := B.exec
  have hb := B.bytes
  have hr := B.returns
  have hts := atoms_spec (ws := wsX10_putNumber) B.pre
  have hown : s.vm.findClass RX10 = some m.cls := findClass_of_methodNamed B.named
  have hlocks := B.notSynchronized
  subst hsz
  have hD := hD0.self (sz := s.heap.size)
  generalize hAe : va_A [(h0, .inr (9, [.ref tp, .int 0, .ref tok, .ref sp, .ref rdr, .int 0, .int (-1), .ref scn, .ref fct, .ref rnr, .ref trl, .ref mnd, .ref rrw])), (tp, .inl (cB, 1200, .inl f))] s.heap.size = A at hD ⊢
  have hA : ∀ q : Nat, s.heap.size ≤ q → A q := fun q h => by rw [← hAe]; exact Or.inr h
  have hl := lv_entry ([.ref h0, .int n]) (n := 3) (Nat.le_of_ble_eq_true rfl)
  rw [lg_entry_eq]
  generalize (lg_sl ([.ref h0, .int n]) ++ List.replicate (3 - (lg_sl ([.ref h0, .int n])).length) Slot.unset).toArray = ls at hl ⊢
  have hl : lv_has ls 3 [(0, .ref h0), (1, .int n)] := hl
  refine k_H (A := A) hP (fun H hP hS => ?_)
  have hP : va_P (dC, dI) vwCl [(h0, .inr (9, [.ref tp, .int 0, .ref tok, .ref sp, .ref rdr, .int 0, .int (-1), .ref scn, .ref fct, .ref rnr, .ref trl, .ref mnd, .ref rrw])), (tp, .inl (cB, 1200, .inl f))] H := hP
  have hD : va_D A [(h0, .inr (9, [.ref tp, .int 0, .ref tok, .ref sp, .ref rdr, .int 0, .int (-1), .ref scn, .ref fct, .ref rnr, .ref trl, .ref mnd, .ref rrw])), (tp, .inl (cB, 1200, .inl f))] := hD
  refine lv_bipush (v := 24) hx hb dX10_putNumber_0 (by decide) ?_
  refine lv_istore_n (lv' := [(2, .int 24), (0, .ref h0), (1, .int n)]) hx hb dX10_putNumber_2 rfl hl (by decide) rfl (fun ls hl => ?_)
  refine lv_iload_n hx hb dX10_putNumber_3 rfl (lv_at hl 0 rfl) ?_
  refine lv_if_lt (tgt := 55) hx hb dX10_putNumber_4 (by decide) (fun c9 => absurd c9 (by decide)) (fun _ => ?_)
  refine lv_aload_n hx hb dX10_putNumber_7 rfl (lv_at hl 1 rfl) ?_
  refine va_get (D := (dC, dI)) (ci := 9) (v := .int 0) (C := RX10) (T := TX10) (N := 13) hx hb hts iwwsX10_putNumber_10 hown hK hP 0 rfl rfl 1 (by decide) (hts (.fieldLink RX10 87 "NothingJudge" "taped" "I") fwwsX10_putNumber_87) (fun _ h9 => h9) rfl dX10_putNumber_8 ?_
  refine lv_if_lt (tgt := 49) hx hb dX10_putNumber_11 (by decide) (fun c9 => absurd c9 (by decide)) (fun _ => ?_)
  refine lv_aload_n hx hb dX10_putNumber_14 rfl (lv_at hl 1 rfl) ?_
  refine va_get (D := (dC, dI)) (ci := 9) (v := .int 0) (C := RX10) (T := TX10) (N := 13) hx hb hts iwwsX10_putNumber_10 hown hK hP 0 rfl rfl 1 (by decide) (hts (.fieldLink RX10 87 "NothingJudge" "taped" "I") fwwsX10_putNumber_87) (fun _ h9 => h9) rfl dX10_putNumber_15 ?_
  refine lv_aload_n hx hb dX10_putNumber_18 rfl (lv_at hl 1 rfl) ?_
  refine va_get (D := (dC, dI)) (ci := 9) (v := .ref tp) (C := RX10) (T := TX10) (N := 13) hx hb hts iwwsX10_putNumber_10 hown hK hP 0 rfl rfl 0 (by decide) (hts (.fieldLink RX10 9 "NothingJudge" "tape" "[B") fwwsX10_putNumber_9) (fun _ h9 => h9) rfl dX10_putNumber_19 ?_
  refine va_alen hx hb hK hP 1 1 rfl rfl (v := 1200) (by decide) dX10_putNumber_22 ?_
  refine lv_icmp_ge (tgt := 49) hx hb dX10_putNumber_23 (by decide) (fun c9 => absurd c9 (by decide)) (fun _ => ?_)
  refine lv_aload_n hx hb dX10_putNumber_26 rfl (lv_at hl 1 rfl) ?_
  refine va_get (D := (dC, dI)) (ci := 9) (v := .ref tp) (C := RX10) (T := TX10) (N := 13) hx hb hts iwwsX10_putNumber_10 hown hK hP 0 rfl rfl 0 (by decide) (hts (.fieldLink RX10 9 "NothingJudge" "tape" "[B") fwwsX10_putNumber_9) (fun _ h9 => h9) rfl dX10_putNumber_27 ?_
  refine lv_aload_n hx hb dX10_putNumber_30 rfl (lv_at hl 1 rfl) ?_
  refine va_get (D := (dC, dI)) (ci := 9) (v := .int 0) (C := RX10) (T := TX10) (N := 13) hx hb hts iwwsX10_putNumber_10 hown hK hP 0 rfl rfl 1 (by decide) (hts (.fieldLink RX10 87 "NothingJudge" "taped" "I") fwwsX10_putNumber_87) (fun _ h9 => h9) rfl dX10_putNumber_31 ?_
  refine lv_iload_n hx hb dX10_putNumber_34 rfl (lv_at hl 2 rfl) ?_
  refine lv_iload_n hx hb dX10_putNumber_35 rfl (lv_at hl 0 rfl) ?_
  refine lv_ishr hx hb dX10_putNumber_36 ?_
  refine lv_topi (fun v_117 ev_117 => ?_)
  refine lv_i2b (v := v_117.toInt8.toInt32) hx hb dX10_putNumber_37 rfl ?_
  refine lv_topi (fun v_118 ev_118 => ?_)
  refine va_bast hx hb hK hP hD hS 1 1 rfl rfl (by unfold vp_in; decide) dX10_putNumber_38 (fun H locs hP hD hS => ?_)
  obtain ⟨f_119, ef_119⟩ : ∃ z, z = upd f (0 : Int32).toNatClampNeg (vp_nar .byte v_118) := ⟨_, rfl⟩
  have hP : va_P (dC, dI) vwCl [(h0, .inr (9, [.ref tp, .int 0, .ref tok, .ref sp, .ref rdr, .int 0, .int (-1), .ref scn, .ref fct, .ref rnr, .ref trl, .ref mnd, .ref rrw])), (tp, .inl (cB, 1200, .inl f_119))] H := by rw [ef_119]; exact hP
  have hD : va_D A [(h0, .inr (9, [.ref tp, .int 0, .ref tok, .ref sp, .ref rdr, .int 0, .int (-1), .ref scn, .ref fct, .ref rnr, .ref trl, .ref mnd, .ref rrw])), (tp, .inl (cB, 1200, .inl f_119))] := by rw [ef_119]; exact hD
  refine lv_aload_n hx hb dX10_putNumber_39 rfl (lv_at hl 1 rfl) ?_
  refine lv_dup hx hb dX10_putNumber_40 rfl ?_
  refine va_get (D := (dC, dI)) (ci := 9) (v := .int 0) (C := RX10) (T := TX10) (N := 13) hx hb hts iwwsX10_putNumber_10 hown hK hP 0 rfl rfl 1 (by decide) (hts (.fieldLink RX10 87 "NothingJudge" "taped" "I") fwwsX10_putNumber_87) (fun _ h9 => h9) rfl dX10_putNumber_41 ?_
  refine lv_iconst (v := 1) hx hb dX10_putNumber_44 (by decide) ?_
  refine lv_iadd hx hb dX10_putNumber_45 ?_
  refine lv_topi (fun y_120 ey_120 => ?_)
  obtain rfl : y_120 = 1 := ey_120.trans (by decide)
  refine va_put (D := (dC, dI)) (ci := 9) (v := .int 1) (ty := .int) (C := RX10) (T := TX10) (N := 13) hx hb hts iwwsX10_putNumber_10 tyX10 tyX10_ok nmX10 hown hK hP hD hS 0 rfl rfl 1 (by decide) (hts (.fieldLink RX10 87 "NothingJudge" "taped" "I") fwwsX10_putNumber_87) (fun _ h9 => h9) rfl (by decide +kernel) rfl rfl (Nat.le_of_ble_eq_true rfl) dX10_putNumber_46 (fun H locs hP hD hS => ?_)
  have hP : va_P (dC, dI) vwCl [(h0, .inr (9, [.ref tp, .int 1, .ref tok, .ref sp, .ref rdr, .int 0, .int (-1), .ref scn, .ref fct, .ref rnr, .ref trl, .ref mnd, .ref rrw])), (tp, .inl (cB, 1200, .inl f_119))] H := hP
  have hD : va_D A [(h0, .inr (9, [.ref tp, .int 1, .ref tok, .ref sp, .ref rdr, .int 0, .int (-1), .ref scn, .ref fct, .ref rnr, .ref trl, .ref mnd, .ref rrw])), (tp, .inl (cB, 1200, .inl f_119))] := hD
  refine lv_iinc (v := 16) (lv' := [(2, .int 16), (0, .ref h0), (1, .int n)]) hx hb dX10_putNumber_49 hl (k := 0) rfl (by decide) (by decide) rfl (fun ls hl => ?_)
  refine lv_goto (tgt := 3) hx hb dX10_putNumber_52 (by decide) ?_
  refine lv_iload_n hx hb dX10_putNumber_3 rfl (lv_at hl 0 rfl) ?_
  refine lv_if_lt (tgt := 55) hx hb dX10_putNumber_4 (by decide) (fun c9 => absurd c9 (by decide)) (fun _ => ?_)
  refine lv_aload_n hx hb dX10_putNumber_7 rfl (lv_at hl 1 rfl) ?_
  refine va_get (D := (dC, dI)) (ci := 9) (v := .int 1) (C := RX10) (T := TX10) (N := 13) hx hb hts iwwsX10_putNumber_10 hown hK hP 0 rfl rfl 1 (by decide) (hts (.fieldLink RX10 87 "NothingJudge" "taped" "I") fwwsX10_putNumber_87) (fun _ h9 => h9) rfl dX10_putNumber_8 ?_
  refine lv_if_lt (tgt := 49) hx hb dX10_putNumber_11 (by decide) (fun c9 => absurd c9 (by decide)) (fun _ => ?_)
  refine lv_aload_n hx hb dX10_putNumber_14 rfl (lv_at hl 1 rfl) ?_
  refine va_get (D := (dC, dI)) (ci := 9) (v := .int 1) (C := RX10) (T := TX10) (N := 13) hx hb hts iwwsX10_putNumber_10 hown hK hP 0 rfl rfl 1 (by decide) (hts (.fieldLink RX10 87 "NothingJudge" "taped" "I") fwwsX10_putNumber_87) (fun _ h9 => h9) rfl dX10_putNumber_15 ?_
  refine lv_aload_n hx hb dX10_putNumber_18 rfl (lv_at hl 1 rfl) ?_
  refine va_get (D := (dC, dI)) (ci := 9) (v := .ref tp) (C := RX10) (T := TX10) (N := 13) hx hb hts iwwsX10_putNumber_10 hown hK hP 0 rfl rfl 0 (by decide) (hts (.fieldLink RX10 9 "NothingJudge" "tape" "[B") fwwsX10_putNumber_9) (fun _ h9 => h9) rfl dX10_putNumber_19 ?_
  refine va_alen hx hb hK hP 1 1 rfl rfl (v := 1200) (by decide) dX10_putNumber_22 ?_
  refine lv_icmp_ge (tgt := 49) hx hb dX10_putNumber_23 (by decide) (fun c9 => absurd c9 (by decide)) (fun _ => ?_)
  refine lv_aload_n hx hb dX10_putNumber_26 rfl (lv_at hl 1 rfl) ?_
  refine va_get (D := (dC, dI)) (ci := 9) (v := .ref tp) (C := RX10) (T := TX10) (N := 13) hx hb hts iwwsX10_putNumber_10 hown hK hP 0 rfl rfl 0 (by decide) (hts (.fieldLink RX10 9 "NothingJudge" "tape" "[B") fwwsX10_putNumber_9) (fun _ h9 => h9) rfl dX10_putNumber_27 ?_
  refine lv_aload_n hx hb dX10_putNumber_30 rfl (lv_at hl 1 rfl) ?_
  refine va_get (D := (dC, dI)) (ci := 9) (v := .int 1) (C := RX10) (T := TX10) (N := 13) hx hb hts iwwsX10_putNumber_10 hown hK hP 0 rfl rfl 1 (by decide) (hts (.fieldLink RX10 87 "NothingJudge" "taped" "I") fwwsX10_putNumber_87) (fun _ h9 => h9) rfl dX10_putNumber_31 ?_
  refine lv_iload_n hx hb dX10_putNumber_34 rfl (lv_at hl 2 rfl) ?_
  refine lv_iload_n hx hb dX10_putNumber_35 rfl (lv_at hl 0 rfl) ?_
  refine lv_ishr hx hb dX10_putNumber_36 ?_
  refine lv_topi (fun v_121 ev_121 => ?_)
  refine lv_i2b (v := v_121.toInt8.toInt32) hx hb dX10_putNumber_37 rfl ?_
  refine lv_topi (fun v_122 ev_122 => ?_)
  refine va_bast hx hb hK hP hD hS 1 1 rfl rfl (by unfold vp_in; decide) dX10_putNumber_38 (fun H locs hP hD hS => ?_)
  obtain ⟨f_123, ef_123⟩ : ∃ z, z = upd f_119 (1 : Int32).toNatClampNeg (vp_nar .byte v_122) := ⟨_, rfl⟩
  have hP : va_P (dC, dI) vwCl [(h0, .inr (9, [.ref tp, .int 1, .ref tok, .ref sp, .ref rdr, .int 0, .int (-1), .ref scn, .ref fct, .ref rnr, .ref trl, .ref mnd, .ref rrw])), (tp, .inl (cB, 1200, .inl f_123))] H := by rw [ef_123]; exact hP
  have hD : va_D A [(h0, .inr (9, [.ref tp, .int 1, .ref tok, .ref sp, .ref rdr, .int 0, .int (-1), .ref scn, .ref fct, .ref rnr, .ref trl, .ref mnd, .ref rrw])), (tp, .inl (cB, 1200, .inl f_123))] := by rw [ef_123]; exact hD
  refine lv_aload_n hx hb dX10_putNumber_39 rfl (lv_at hl 1 rfl) ?_
  refine lv_dup hx hb dX10_putNumber_40 rfl ?_
  refine va_get (D := (dC, dI)) (ci := 9) (v := .int 1) (C := RX10) (T := TX10) (N := 13) hx hb hts iwwsX10_putNumber_10 hown hK hP 0 rfl rfl 1 (by decide) (hts (.fieldLink RX10 87 "NothingJudge" "taped" "I") fwwsX10_putNumber_87) (fun _ h9 => h9) rfl dX10_putNumber_41 ?_
  refine lv_iconst (v := 1) hx hb dX10_putNumber_44 (by decide) ?_
  refine lv_iadd hx hb dX10_putNumber_45 ?_
  refine lv_topi (fun y_124 ey_124 => ?_)
  obtain rfl : y_124 = 2 := ey_124.trans (by decide)
  refine va_put (D := (dC, dI)) (ci := 9) (v := .int 2) (ty := .int) (C := RX10) (T := TX10) (N := 13) hx hb hts iwwsX10_putNumber_10 tyX10 tyX10_ok nmX10 hown hK hP hD hS 0 rfl rfl 1 (by decide) (hts (.fieldLink RX10 87 "NothingJudge" "taped" "I") fwwsX10_putNumber_87) (fun _ h9 => h9) rfl (by decide +kernel) rfl rfl (Nat.le_of_ble_eq_true rfl) dX10_putNumber_46 (fun H locs hP hD hS => ?_)
  have hP : va_P (dC, dI) vwCl [(h0, .inr (9, [.ref tp, .int 2, .ref tok, .ref sp, .ref rdr, .int 0, .int (-1), .ref scn, .ref fct, .ref rnr, .ref trl, .ref mnd, .ref rrw])), (tp, .inl (cB, 1200, .inl f_123))] H := hP
  have hD : va_D A [(h0, .inr (9, [.ref tp, .int 2, .ref tok, .ref sp, .ref rdr, .int 0, .int (-1), .ref scn, .ref fct, .ref rnr, .ref trl, .ref mnd, .ref rrw])), (tp, .inl (cB, 1200, .inl f_123))] := hD
  refine lv_iinc (v := 8) (lv' := [(2, .int 8), (0, .ref h0), (1, .int n)]) hx hb dX10_putNumber_49 hl (k := 0) rfl (by decide) (by decide) rfl (fun ls hl => ?_)
  refine lv_goto (tgt := 3) hx hb dX10_putNumber_52 (by decide) ?_
  refine lv_iload_n hx hb dX10_putNumber_3 rfl (lv_at hl 0 rfl) ?_
  refine lv_if_lt (tgt := 55) hx hb dX10_putNumber_4 (by decide) (fun c9 => absurd c9 (by decide)) (fun _ => ?_)
  refine lv_aload_n hx hb dX10_putNumber_7 rfl (lv_at hl 1 rfl) ?_
  refine va_get (D := (dC, dI)) (ci := 9) (v := .int 2) (C := RX10) (T := TX10) (N := 13) hx hb hts iwwsX10_putNumber_10 hown hK hP 0 rfl rfl 1 (by decide) (hts (.fieldLink RX10 87 "NothingJudge" "taped" "I") fwwsX10_putNumber_87) (fun _ h9 => h9) rfl dX10_putNumber_8 ?_
  refine lv_if_lt (tgt := 49) hx hb dX10_putNumber_11 (by decide) (fun c9 => absurd c9 (by decide)) (fun _ => ?_)
  refine lv_aload_n hx hb dX10_putNumber_14 rfl (lv_at hl 1 rfl) ?_
  refine va_get (D := (dC, dI)) (ci := 9) (v := .int 2) (C := RX10) (T := TX10) (N := 13) hx hb hts iwwsX10_putNumber_10 hown hK hP 0 rfl rfl 1 (by decide) (hts (.fieldLink RX10 87 "NothingJudge" "taped" "I") fwwsX10_putNumber_87) (fun _ h9 => h9) rfl dX10_putNumber_15 ?_
  refine lv_aload_n hx hb dX10_putNumber_18 rfl (lv_at hl 1 rfl) ?_
  refine va_get (D := (dC, dI)) (ci := 9) (v := .ref tp) (C := RX10) (T := TX10) (N := 13) hx hb hts iwwsX10_putNumber_10 hown hK hP 0 rfl rfl 0 (by decide) (hts (.fieldLink RX10 9 "NothingJudge" "tape" "[B") fwwsX10_putNumber_9) (fun _ h9 => h9) rfl dX10_putNumber_19 ?_
  refine va_alen hx hb hK hP 1 1 rfl rfl (v := 1200) (by decide) dX10_putNumber_22 ?_
  refine lv_icmp_ge (tgt := 49) hx hb dX10_putNumber_23 (by decide) (fun c9 => absurd c9 (by decide)) (fun _ => ?_)
  refine lv_aload_n hx hb dX10_putNumber_26 rfl (lv_at hl 1 rfl) ?_
  refine va_get (D := (dC, dI)) (ci := 9) (v := .ref tp) (C := RX10) (T := TX10) (N := 13) hx hb hts iwwsX10_putNumber_10 hown hK hP 0 rfl rfl 0 (by decide) (hts (.fieldLink RX10 9 "NothingJudge" "tape" "[B") fwwsX10_putNumber_9) (fun _ h9 => h9) rfl dX10_putNumber_27 ?_
  refine lv_aload_n hx hb dX10_putNumber_30 rfl (lv_at hl 1 rfl) ?_
  refine va_get (D := (dC, dI)) (ci := 9) (v := .int 2) (C := RX10) (T := TX10) (N := 13) hx hb hts iwwsX10_putNumber_10 hown hK hP 0 rfl rfl 1 (by decide) (hts (.fieldLink RX10 87 "NothingJudge" "taped" "I") fwwsX10_putNumber_87) (fun _ h9 => h9) rfl dX10_putNumber_31 ?_
  refine lv_iload_n hx hb dX10_putNumber_34 rfl (lv_at hl 2 rfl) ?_
  refine lv_iload_n hx hb dX10_putNumber_35 rfl (lv_at hl 0 rfl) ?_
  refine lv_ishr hx hb dX10_putNumber_36 ?_
  refine lv_topi (fun v_125 ev_125 => ?_)
  refine lv_i2b (v := v_125.toInt8.toInt32) hx hb dX10_putNumber_37 rfl ?_
  refine lv_topi (fun v_126 ev_126 => ?_)
  refine va_bast hx hb hK hP hD hS 1 1 rfl rfl (by unfold vp_in; decide) dX10_putNumber_38 (fun H locs hP hD hS => ?_)
  obtain ⟨f_127, ef_127⟩ : ∃ z, z = upd f_123 (2 : Int32).toNatClampNeg (vp_nar .byte v_126) := ⟨_, rfl⟩
  have hP : va_P (dC, dI) vwCl [(h0, .inr (9, [.ref tp, .int 2, .ref tok, .ref sp, .ref rdr, .int 0, .int (-1), .ref scn, .ref fct, .ref rnr, .ref trl, .ref mnd, .ref rrw])), (tp, .inl (cB, 1200, .inl f_127))] H := by rw [ef_127]; exact hP
  have hD : va_D A [(h0, .inr (9, [.ref tp, .int 2, .ref tok, .ref sp, .ref rdr, .int 0, .int (-1), .ref scn, .ref fct, .ref rnr, .ref trl, .ref mnd, .ref rrw])), (tp, .inl (cB, 1200, .inl f_127))] := by rw [ef_127]; exact hD
  refine lv_aload_n hx hb dX10_putNumber_39 rfl (lv_at hl 1 rfl) ?_
  refine lv_dup hx hb dX10_putNumber_40 rfl ?_
  refine va_get (D := (dC, dI)) (ci := 9) (v := .int 2) (C := RX10) (T := TX10) (N := 13) hx hb hts iwwsX10_putNumber_10 hown hK hP 0 rfl rfl 1 (by decide) (hts (.fieldLink RX10 87 "NothingJudge" "taped" "I") fwwsX10_putNumber_87) (fun _ h9 => h9) rfl dX10_putNumber_41 ?_
  refine lv_iconst (v := 1) hx hb dX10_putNumber_44 (by decide) ?_
  refine lv_iadd hx hb dX10_putNumber_45 ?_
  refine lv_topi (fun y_128 ey_128 => ?_)
  obtain rfl : y_128 = 3 := ey_128.trans (by decide)
  refine va_put (D := (dC, dI)) (ci := 9) (v := .int 3) (ty := .int) (C := RX10) (T := TX10) (N := 13) hx hb hts iwwsX10_putNumber_10 tyX10 tyX10_ok nmX10 hown hK hP hD hS 0 rfl rfl 1 (by decide) (hts (.fieldLink RX10 87 "NothingJudge" "taped" "I") fwwsX10_putNumber_87) (fun _ h9 => h9) rfl (by decide +kernel) rfl rfl (Nat.le_of_ble_eq_true rfl) dX10_putNumber_46 (fun H locs hP hD hS => ?_)
  have hP : va_P (dC, dI) vwCl [(h0, .inr (9, [.ref tp, .int 3, .ref tok, .ref sp, .ref rdr, .int 0, .int (-1), .ref scn, .ref fct, .ref rnr, .ref trl, .ref mnd, .ref rrw])), (tp, .inl (cB, 1200, .inl f_127))] H := hP
  have hD : va_D A [(h0, .inr (9, [.ref tp, .int 3, .ref tok, .ref sp, .ref rdr, .int 0, .int (-1), .ref scn, .ref fct, .ref rnr, .ref trl, .ref mnd, .ref rrw])), (tp, .inl (cB, 1200, .inl f_127))] := hD
  refine lv_iinc (v := 0) (lv' := [(2, .int 0), (0, .ref h0), (1, .int n)]) hx hb dX10_putNumber_49 hl (k := 0) rfl (by decide) (by decide) rfl (fun ls hl => ?_)
  refine lv_goto (tgt := 3) hx hb dX10_putNumber_52 (by decide) ?_
  refine lv_iload_n hx hb dX10_putNumber_3 rfl (lv_at hl 0 rfl) ?_
  refine lv_if_lt (tgt := 55) hx hb dX10_putNumber_4 (by decide) (fun c9 => absurd c9 (by decide)) (fun _ => ?_)
  refine lv_aload_n hx hb dX10_putNumber_7 rfl (lv_at hl 1 rfl) ?_
  refine va_get (D := (dC, dI)) (ci := 9) (v := .int 3) (C := RX10) (T := TX10) (N := 13) hx hb hts iwwsX10_putNumber_10 hown hK hP 0 rfl rfl 1 (by decide) (hts (.fieldLink RX10 87 "NothingJudge" "taped" "I") fwwsX10_putNumber_87) (fun _ h9 => h9) rfl dX10_putNumber_8 ?_
  refine lv_if_lt (tgt := 49) hx hb dX10_putNumber_11 (by decide) (fun c9 => absurd c9 (by decide)) (fun _ => ?_)
  refine lv_aload_n hx hb dX10_putNumber_14 rfl (lv_at hl 1 rfl) ?_
  refine va_get (D := (dC, dI)) (ci := 9) (v := .int 3) (C := RX10) (T := TX10) (N := 13) hx hb hts iwwsX10_putNumber_10 hown hK hP 0 rfl rfl 1 (by decide) (hts (.fieldLink RX10 87 "NothingJudge" "taped" "I") fwwsX10_putNumber_87) (fun _ h9 => h9) rfl dX10_putNumber_15 ?_
  refine lv_aload_n hx hb dX10_putNumber_18 rfl (lv_at hl 1 rfl) ?_
  refine va_get (D := (dC, dI)) (ci := 9) (v := .ref tp) (C := RX10) (T := TX10) (N := 13) hx hb hts iwwsX10_putNumber_10 hown hK hP 0 rfl rfl 0 (by decide) (hts (.fieldLink RX10 9 "NothingJudge" "tape" "[B") fwwsX10_putNumber_9) (fun _ h9 => h9) rfl dX10_putNumber_19 ?_
  refine va_alen hx hb hK hP 1 1 rfl rfl (v := 1200) (by decide) dX10_putNumber_22 ?_
  refine lv_icmp_ge (tgt := 49) hx hb dX10_putNumber_23 (by decide) (fun c9 => absurd c9 (by decide)) (fun _ => ?_)
  refine lv_aload_n hx hb dX10_putNumber_26 rfl (lv_at hl 1 rfl) ?_
  refine va_get (D := (dC, dI)) (ci := 9) (v := .ref tp) (C := RX10) (T := TX10) (N := 13) hx hb hts iwwsX10_putNumber_10 hown hK hP 0 rfl rfl 0 (by decide) (hts (.fieldLink RX10 9 "NothingJudge" "tape" "[B") fwwsX10_putNumber_9) (fun _ h9 => h9) rfl dX10_putNumber_27 ?_
  refine lv_aload_n hx hb dX10_putNumber_30 rfl (lv_at hl 1 rfl) ?_
  refine va_get (D := (dC, dI)) (ci := 9) (v := .int 3) (C := RX10) (T := TX10) (N := 13) hx hb hts iwwsX10_putNumber_10 hown hK hP 0 rfl rfl 1 (by decide) (hts (.fieldLink RX10 87 "NothingJudge" "taped" "I") fwwsX10_putNumber_87) (fun _ h9 => h9) rfl dX10_putNumber_31 ?_
  refine lv_iload_n hx hb dX10_putNumber_34 rfl (lv_at hl 2 rfl) ?_
  refine lv_iload_n hx hb dX10_putNumber_35 rfl (lv_at hl 0 rfl) ?_
  refine lv_ishr hx hb dX10_putNumber_36 ?_
  refine lv_topi (fun v_129 ev_129 => ?_)
  refine lv_i2b (v := v_129.toInt8.toInt32) hx hb dX10_putNumber_37 rfl ?_
  refine lv_topi (fun v_130 ev_130 => ?_)
  refine va_bast hx hb hK hP hD hS 1 1 rfl rfl (by unfold vp_in; decide) dX10_putNumber_38 (fun H locs hP hD hS => ?_)
  obtain ⟨f_131, ef_131⟩ : ∃ z, z = upd f_127 (3 : Int32).toNatClampNeg (vp_nar .byte v_130) := ⟨_, rfl⟩
  have hP : va_P (dC, dI) vwCl [(h0, .inr (9, [.ref tp, .int 3, .ref tok, .ref sp, .ref rdr, .int 0, .int (-1), .ref scn, .ref fct, .ref rnr, .ref trl, .ref mnd, .ref rrw])), (tp, .inl (cB, 1200, .inl f_131))] H := by rw [ef_131]; exact hP
  have hD : va_D A [(h0, .inr (9, [.ref tp, .int 3, .ref tok, .ref sp, .ref rdr, .int 0, .int (-1), .ref scn, .ref fct, .ref rnr, .ref trl, .ref mnd, .ref rrw])), (tp, .inl (cB, 1200, .inl f_131))] := by rw [ef_131]; exact hD
  refine lv_aload_n hx hb dX10_putNumber_39 rfl (lv_at hl 1 rfl) ?_
  refine lv_dup hx hb dX10_putNumber_40 rfl ?_
  refine va_get (D := (dC, dI)) (ci := 9) (v := .int 3) (C := RX10) (T := TX10) (N := 13) hx hb hts iwwsX10_putNumber_10 hown hK hP 0 rfl rfl 1 (by decide) (hts (.fieldLink RX10 87 "NothingJudge" "taped" "I") fwwsX10_putNumber_87) (fun _ h9 => h9) rfl dX10_putNumber_41 ?_
  refine lv_iconst (v := 1) hx hb dX10_putNumber_44 (by decide) ?_
  refine lv_iadd hx hb dX10_putNumber_45 ?_
  refine lv_topi (fun y_132 ey_132 => ?_)
  obtain rfl : y_132 = 4 := ey_132.trans (by decide)
  refine va_put (D := (dC, dI)) (ci := 9) (v := .int 4) (ty := .int) (C := RX10) (T := TX10) (N := 13) hx hb hts iwwsX10_putNumber_10 tyX10 tyX10_ok nmX10 hown hK hP hD hS 0 rfl rfl 1 (by decide) (hts (.fieldLink RX10 87 "NothingJudge" "taped" "I") fwwsX10_putNumber_87) (fun _ h9 => h9) rfl (by decide +kernel) rfl rfl (Nat.le_of_ble_eq_true rfl) dX10_putNumber_46 (fun H locs hP hD hS => ?_)
  have hP : va_P (dC, dI) vwCl [(h0, .inr (9, [.ref tp, .int 4, .ref tok, .ref sp, .ref rdr, .int 0, .int (-1), .ref scn, .ref fct, .ref rnr, .ref trl, .ref mnd, .ref rrw])), (tp, .inl (cB, 1200, .inl f_131))] H := hP
  have hD : va_D A [(h0, .inr (9, [.ref tp, .int 4, .ref tok, .ref sp, .ref rdr, .int 0, .int (-1), .ref scn, .ref fct, .ref rnr, .ref trl, .ref mnd, .ref rrw])), (tp, .inl (cB, 1200, .inl f_131))] := hD
  refine lv_iinc (v := (-8)) (lv' := [(2, .int (-8)), (0, .ref h0), (1, .int n)]) hx hb dX10_putNumber_49 hl (k := 0) rfl (by decide) (by decide) rfl (fun ls hl => ?_)
  refine lv_goto (tgt := 3) hx hb dX10_putNumber_52 (by decide) ?_
  refine lv_iload_n hx hb dX10_putNumber_3 rfl (lv_at hl 0 rfl) ?_
  refine lv_if_lt (tgt := 55) hx hb dX10_putNumber_4 (by decide) (fun _ => ?_) (fun c9 => absurd (by decide) c9)
  have hP9 := hP.sub (ws' := [(h0, .inr (9, [.ref tp, .int 4, .ref tok, .ref sp, .ref rdr, .int 0, .int (-1), .ref scn, .ref fct, .ref rnr, .ref trl, .ref mnd, .ref rrw])), (tp, .inl (cB, 1200, .inl f_131))]) [0, 1] rfl
  have hD9 := hD.sub (ws' := [(h0, .inr (9, [.ref tp, .int 4, .ref tok, .ref sp, .ref rdr, .int 0, .int (-1), .ref scn, .ref fct, .ref rnr, .ref trl, .ref mnd, .ref rrw])), (tp, .inl (cB, 1200, .inl f_131))]) [0, 1] (by decide) rfl
  exact W.vret hx hb hr (fun t ht hW => ⟨⟨(), rfl, trivial, f_131, by rw [ht]; exact hP9, hD9⟩, hS.F ht⟩) hS.2.2 dX10_putNumber_55

set_option maxHeartbeats 4000000 in
set_option maxRecDepth 100000 in
theorem c_putNumber4 (l : Launch) (dC : Nat → ClassId) (dI : Nat → Nat → Nat) (cI cB cL cZ : ClassId) (h0 : Nat) (tp : Nat) (tok : Nat) (sp : Nat) (rdr : Nat) (scn : Nat) (fct : Nat) (rnr : Nat) (trl : Nat) (mnd : Nat) (rrw : Nat) (n : Int32) (f : Nat → Int32) (sz : Nat)  : Met l yX10_putNumber wsX10_putNumber ({ frames := 0, cells := 0, slots := 0, locals := 0 }) (cP (dC, dI) (kTy cI cB cL cZ) [.ref h0, .int n] [(h0, .inr (9, [.ref tp, .int 4, .ref tok, .ref sp, .ref rdr, .int 0, .int (-1), .ref scn, .ref fct, .ref rnr, .ref trl, .ref mnd, .ref rrw])), (tp, .inl (cB, 1200, .inl f))] sz) (va_Qv (fun _ : Unit => True) (fun (_ : Unit) (t : State) => ∃ fz0 : Nat → Int32, va_P (dC, dI) vwCl [(h0, .inr (9, [.ref tp, .int 8, .ref tok, .ref sp, .ref rdr, .int 0, .int (-1), .ref scn, .ref fct, .ref rnr, .ref trl, .ref mnd, .ref rrw])), (tp, .inl (cB, 1200, .inl fz0))] t.heap ∧ va_D (va_A [(h0, .inr (9, [.ref tp, .int 4, .ref tok, .ref sp, .ref rdr, .int 0, .int (-1), .ref scn, .ref fct, .ref rnr, .ref trl, .ref mnd, .ref rrw])), (tp, .inl (cB, 1200, .inl f))] sz) [(h0, .inr (9, [.ref tp, .int 8, .ref tok, .ref sp, .ref rdr, .int 0, .int (-1), .ref scn, .ref fct, .ref rnr, .ref trl, .ref mnd, .ref rrw])), (tp, .inl (cB, 1200, .inl fz0))]) (va_A [(h0, .inr (9, [.ref tp, .int 4, .ref tok, .ref sp, .ref rdr, .int 0, .int (-1), .ref scn, .ref fct, .ref rnr, .ref trl, .ref mnd, .ref rrw])), (tp, .inl (cB, 1200, .inl f))] sz)) 0 0 (va_A [(h0, .inr (9, [.ref tp, .int 4, .ref tok, .ref sp, .ref rdr, .int 0, .int (-1), .ref scn, .ref fct, .ref rnr, .ref trl, .ref mnd, .ref rrw])), (tp, .inl (cB, 1200, .inl f))] sz) := by
  refine Met.ofW (cc := cX10_putNumber) (maxL := 3) (ret := none) (by decide) rfl ?_
  intro p e s m args below meth c s₁ B hml hv
  obtain ⟨rfl, hsz, hP, hK, hD0, hN⟩ := hv
  have hx := B.exec
  have hb := B.bytes
  have hr := B.returns
  have hts := atoms_spec (ws := wsX10_putNumber) B.pre
  have hown : s.vm.findClass RX10 = some m.cls := findClass_of_methodNamed B.named
  have hlocks := B.notSynchronized
  subst hsz
  have hD := hD0.self (sz := s.heap.size)
  generalize hAe : va_A [(h0, .inr (9, [.ref tp, .int 4, .ref tok, .ref sp, .ref rdr, .int 0, .int (-1), .ref scn, .ref fct, .ref rnr, .ref trl, .ref mnd, .ref rrw])), (tp, .inl (cB, 1200, .inl f))] s.heap.size = A at hD ⊢
  have hA : ∀ q : Nat, s.heap.size ≤ q → A q := fun q h => by rw [← hAe]; exact Or.inr h
  have hl := lv_entry ([.ref h0, .int n]) (n := 3) (Nat.le_of_ble_eq_true rfl)
  rw [lg_entry_eq]
  generalize (lg_sl ([.ref h0, .int n]) ++ List.replicate (3 - (lg_sl ([.ref h0, .int n])).length) Slot.unset).toArray = ls at hl ⊢
  have hl : lv_has ls 3 [(0, .ref h0), (1, .int n)] := hl
  refine k_H (A := A) hP (fun H hP hS => ?_)
  have hP : va_P (dC, dI) vwCl [(h0, .inr (9, [.ref tp, .int 4, .ref tok, .ref sp, .ref rdr, .int 0, .int (-1), .ref scn, .ref fct, .ref rnr, .ref trl, .ref mnd, .ref rrw])), (tp, .inl (cB, 1200, .inl f))] H := hP
  have hD : va_D A [(h0, .inr (9, [.ref tp, .int 4, .ref tok, .ref sp, .ref rdr, .int 0, .int (-1), .ref scn, .ref fct, .ref rnr, .ref trl, .ref mnd, .ref rrw])), (tp, .inl (cB, 1200, .inl f))] := hD
  refine lv_bipush (v := 24) hx hb dX10_putNumber_0 (by decide) ?_
  refine lv_istore_n (lv' := [(2, .int 24), (0, .ref h0), (1, .int n)]) hx hb dX10_putNumber_2 rfl hl (by decide) rfl (fun ls hl => ?_)
  refine lv_iload_n hx hb dX10_putNumber_3 rfl (lv_at hl 0 rfl) ?_
  refine lv_if_lt (tgt := 55) hx hb dX10_putNumber_4 (by decide) (fun c9 => absurd c9 (by decide)) (fun _ => ?_)
  refine lv_aload_n hx hb dX10_putNumber_7 rfl (lv_at hl 1 rfl) ?_
  refine va_get (D := (dC, dI)) (ci := 9) (v := .int 4) (C := RX10) (T := TX10) (N := 13) hx hb hts iwwsX10_putNumber_10 hown hK hP 0 rfl rfl 1 (by decide) (hts (.fieldLink RX10 87 "NothingJudge" "taped" "I") fwwsX10_putNumber_87) (fun _ h9 => h9) rfl dX10_putNumber_8 ?_
  refine lv_if_lt (tgt := 49) hx hb dX10_putNumber_11 (by decide) (fun c9 => absurd c9 (by decide)) (fun _ => ?_)
  refine lv_aload_n hx hb dX10_putNumber_14 rfl (lv_at hl 1 rfl) ?_
  refine va_get (D := (dC, dI)) (ci := 9) (v := .int 4) (C := RX10) (T := TX10) (N := 13) hx hb hts iwwsX10_putNumber_10 hown hK hP 0 rfl rfl 1 (by decide) (hts (.fieldLink RX10 87 "NothingJudge" "taped" "I") fwwsX10_putNumber_87) (fun _ h9 => h9) rfl dX10_putNumber_15 ?_
  refine lv_aload_n hx hb dX10_putNumber_18 rfl (lv_at hl 1 rfl) ?_
  refine va_get (D := (dC, dI)) (ci := 9) (v := .ref tp) (C := RX10) (T := TX10) (N := 13) hx hb hts iwwsX10_putNumber_10 hown hK hP 0 rfl rfl 0 (by decide) (hts (.fieldLink RX10 9 "NothingJudge" "tape" "[B") fwwsX10_putNumber_9) (fun _ h9 => h9) rfl dX10_putNumber_19 ?_
  refine va_alen hx hb hK hP 1 1 rfl rfl (v := 1200) (by decide) dX10_putNumber_22 ?_
  refine lv_icmp_ge (tgt := 49) hx hb dX10_putNumber_23 (by decide) (fun c9 => absurd c9 (by decide)) (fun _ => ?_)
  refine lv_aload_n hx hb dX10_putNumber_26 rfl (lv_at hl 1 rfl) ?_
  refine va_get (D := (dC, dI)) (ci := 9) (v := .ref tp) (C := RX10) (T := TX10) (N := 13) hx hb hts iwwsX10_putNumber_10 hown hK hP 0 rfl rfl 0 (by decide) (hts (.fieldLink RX10 9 "NothingJudge" "tape" "[B") fwwsX10_putNumber_9) (fun _ h9 => h9) rfl dX10_putNumber_27 ?_
  refine lv_aload_n hx hb dX10_putNumber_30 rfl (lv_at hl 1 rfl) ?_
  refine va_get (D := (dC, dI)) (ci := 9) (v := .int 4) (C := RX10) (T := TX10) (N := 13) hx hb hts iwwsX10_putNumber_10 hown hK hP 0 rfl rfl 1 (by decide) (hts (.fieldLink RX10 87 "NothingJudge" "taped" "I") fwwsX10_putNumber_87) (fun _ h9 => h9) rfl dX10_putNumber_31 ?_
  refine lv_iload_n hx hb dX10_putNumber_34 rfl (lv_at hl 2 rfl) ?_
  refine lv_iload_n hx hb dX10_putNumber_35 rfl (lv_at hl 0 rfl) ?_
  refine lv_ishr hx hb dX10_putNumber_36 ?_
  refine lv_topi (fun v_133 ev_133 => ?_)
  refine lv_i2b (v := v_133.toInt8.toInt32) hx hb dX10_putNumber_37 rfl ?_
  refine lv_topi (fun v_134 ev_134 => ?_)
  refine va_bast hx hb hK hP hD hS 1 1 rfl rfl (by unfold vp_in; decide) dX10_putNumber_38 (fun H locs hP hD hS => ?_)
  obtain ⟨f_135, ef_135⟩ : ∃ z, z = upd f (4 : Int32).toNatClampNeg (vp_nar .byte v_134) := ⟨_, rfl⟩
  have hP : va_P (dC, dI) vwCl [(h0, .inr (9, [.ref tp, .int 4, .ref tok, .ref sp, .ref rdr, .int 0, .int (-1), .ref scn, .ref fct, .ref rnr, .ref trl, .ref mnd, .ref rrw])), (tp, .inl (cB, 1200, .inl f_135))] H := by rw [ef_135]; exact hP
  have hD : va_D A [(h0, .inr (9, [.ref tp, .int 4, .ref tok, .ref sp, .ref rdr, .int 0, .int (-1), .ref scn, .ref fct, .ref rnr, .ref trl, .ref mnd, .ref rrw])), (tp, .inl (cB, 1200, .inl f_135))] := by rw [ef_135]; exact hD
  refine lv_aload_n hx hb dX10_putNumber_39 rfl (lv_at hl 1 rfl) ?_
  refine lv_dup hx hb dX10_putNumber_40 rfl ?_
  refine va_get (D := (dC, dI)) (ci := 9) (v := .int 4) (C := RX10) (T := TX10) (N := 13) hx hb hts iwwsX10_putNumber_10 hown hK hP 0 rfl rfl 1 (by decide) (hts (.fieldLink RX10 87 "NothingJudge" "taped" "I") fwwsX10_putNumber_87) (fun _ h9 => h9) rfl dX10_putNumber_41 ?_
  refine lv_iconst (v := 1) hx hb dX10_putNumber_44 (by decide) ?_
  refine lv_iadd hx hb dX10_putNumber_45 ?_
  refine lv_topi (fun y_136 ey_136 => ?_)
  obtain rfl : y_136 = 5 := ey_136.trans (by decide)
  refine va_put (D := (dC, dI)) (ci := 9) (v := .int 5) (ty := .int) (C := RX10) (T := TX10) (N := 13) hx hb hts iwwsX10_putNumber_10 tyX10 tyX10_ok nmX10 hown hK hP hD hS 0 rfl rfl 1 (by decide) (hts (.fieldLink RX10 87 "NothingJudge" "taped" "I") fwwsX10_putNumber_87) (fun _ h9 => h9) rfl (by decide +kernel) rfl rfl (Nat.le_of_ble_eq_true rfl) dX10_putNumber_46 (fun H locs hP hD hS => ?_)
  have hP : va_P (dC, dI) vwCl [(h0, .inr (9, [.ref tp, .int 5, .ref tok, .ref sp, .ref rdr, .int 0, .int (-1), .ref scn, .ref fct, .ref rnr, .ref trl, .ref mnd, .ref rrw])), (tp, .inl (cB, 1200, .inl f_135))] H := hP
  have hD : va_D A [(h0, .inr (9, [.ref tp, .int 5, .ref tok, .ref sp, .ref rdr, .int 0, .int (-1), .ref scn, .ref fct, .ref rnr, .ref trl, .ref mnd, .ref rrw])), (tp, .inl (cB, 1200, .inl f_135))] := hD
  refine lv_iinc (v := 16) (lv' := [(2, .int 16), (0, .ref h0), (1, .int n)]) hx hb dX10_putNumber_49 hl (k := 0) rfl (by decide) (by decide) rfl (fun ls hl => ?_)
  refine lv_goto (tgt := 3) hx hb dX10_putNumber_52 (by decide) ?_
  refine lv_iload_n hx hb dX10_putNumber_3 rfl (lv_at hl 0 rfl) ?_
  refine lv_if_lt (tgt := 55) hx hb dX10_putNumber_4 (by decide) (fun c9 => absurd c9 (by decide)) (fun _ => ?_)
  refine lv_aload_n hx hb dX10_putNumber_7 rfl (lv_at hl 1 rfl) ?_
  refine va_get (D := (dC, dI)) (ci := 9) (v := .int 5) (C := RX10) (T := TX10) (N := 13) hx hb hts iwwsX10_putNumber_10 hown hK hP 0 rfl rfl 1 (by decide) (hts (.fieldLink RX10 87 "NothingJudge" "taped" "I") fwwsX10_putNumber_87) (fun _ h9 => h9) rfl dX10_putNumber_8 ?_
  refine lv_if_lt (tgt := 49) hx hb dX10_putNumber_11 (by decide) (fun c9 => absurd c9 (by decide)) (fun _ => ?_)
  refine lv_aload_n hx hb dX10_putNumber_14 rfl (lv_at hl 1 rfl) ?_
  refine va_get (D := (dC, dI)) (ci := 9) (v := .int 5) (C := RX10) (T := TX10) (N := 13) hx hb hts iwwsX10_putNumber_10 hown hK hP 0 rfl rfl 1 (by decide) (hts (.fieldLink RX10 87 "NothingJudge" "taped" "I") fwwsX10_putNumber_87) (fun _ h9 => h9) rfl dX10_putNumber_15 ?_
  refine lv_aload_n hx hb dX10_putNumber_18 rfl (lv_at hl 1 rfl) ?_
  refine va_get (D := (dC, dI)) (ci := 9) (v := .ref tp) (C := RX10) (T := TX10) (N := 13) hx hb hts iwwsX10_putNumber_10 hown hK hP 0 rfl rfl 0 (by decide) (hts (.fieldLink RX10 9 "NothingJudge" "tape" "[B") fwwsX10_putNumber_9) (fun _ h9 => h9) rfl dX10_putNumber_19 ?_
  refine va_alen hx hb hK hP 1 1 rfl rfl (v := 1200) (by decide) dX10_putNumber_22 ?_
  refine lv_icmp_ge (tgt := 49) hx hb dX10_putNumber_23 (by decide) (fun c9 => absurd c9 (by decide)) (fun _ => ?_)
  refine lv_aload_n hx hb dX10_putNumber_26 rfl (lv_at hl 1 rfl) ?_
  refine va_get (D := (dC, dI)) (ci := 9) (v := .ref tp) (C := RX10) (T := TX10) (N := 13) hx hb hts iwwsX10_putNumber_10 hown hK hP 0 rfl rfl 0 (by decide) (hts (.fieldLink RX10 9 "NothingJudge" "tape" "[B") fwwsX10_putNumber_9) (fun _ h9 => h9) rfl dX10_putNumber_27 ?_
  refine lv_aload_n hx hb dX10_putNumber_30 rfl (lv_at hl 1 rfl) ?_
  refine va_get (D := (dC, dI)) (ci := 9) (v := .int 5) (C := RX10) (T := TX10) (N := 13) hx hb hts iwwsX10_putNumber_10 hown hK hP 0 rfl rfl 1 (by decide) (hts (.fieldLink RX10 87 "NothingJudge" "taped" "I") fwwsX10_putNumber_87) (fun _ h9 => h9) rfl dX10_putNumber_31 ?_
  refine lv_iload_n hx hb dX10_putNumber_34 rfl (lv_at hl 2 rfl) ?_
  refine lv_iload_n hx hb dX10_putNumber_35 rfl (lv_at hl 0 rfl) ?_
  refine lv_ishr hx hb dX10_putNumber_36 ?_
  refine lv_topi (fun v_137 ev_137 => ?_)
  refine lv_i2b (v := v_137.toInt8.toInt32) hx hb dX10_putNumber_37 rfl ?_
  refine lv_topi (fun v_138 ev_138 => ?_)
  refine va_bast hx hb hK hP hD hS 1 1 rfl rfl (by unfold vp_in; decide) dX10_putNumber_38 (fun H locs hP hD hS => ?_)
  obtain ⟨f_139, ef_139⟩ : ∃ z, z = upd f_135 (5 : Int32).toNatClampNeg (vp_nar .byte v_138) := ⟨_, rfl⟩
  have hP : va_P (dC, dI) vwCl [(h0, .inr (9, [.ref tp, .int 5, .ref tok, .ref sp, .ref rdr, .int 0, .int (-1), .ref scn, .ref fct, .ref rnr, .ref trl, .ref mnd, .ref rrw])), (tp, .inl (cB, 1200, .inl f_139))] H := by rw [ef_139]; exact hP
  have hD : va_D A [(h0, .inr (9, [.ref tp, .int 5, .ref tok, .ref sp, .ref rdr, .int 0, .int (-1), .ref scn, .ref fct, .ref rnr, .ref trl, .ref mnd, .ref rrw])), (tp, .inl (cB, 1200, .inl f_139))] := by rw [ef_139]; exact hD
  refine lv_aload_n hx hb dX10_putNumber_39 rfl (lv_at hl 1 rfl) ?_
  refine lv_dup hx hb dX10_putNumber_40 rfl ?_
  refine va_get (D := (dC, dI)) (ci := 9) (v := .int 5) (C := RX10) (T := TX10) (N := 13) hx hb hts iwwsX10_putNumber_10 hown hK hP 0 rfl rfl 1 (by decide) (hts (.fieldLink RX10 87 "NothingJudge" "taped" "I") fwwsX10_putNumber_87) (fun _ h9 => h9) rfl dX10_putNumber_41 ?_
  refine lv_iconst (v := 1) hx hb dX10_putNumber_44 (by decide) ?_
  refine lv_iadd hx hb dX10_putNumber_45 ?_
  refine lv_topi (fun y_140 ey_140 => ?_)
  obtain rfl : y_140 = 6 := ey_140.trans (by decide)
  refine va_put (D := (dC, dI)) (ci := 9) (v := .int 6) (ty := .int) (C := RX10) (T := TX10) (N := 13) hx hb hts iwwsX10_putNumber_10 tyX10 tyX10_ok nmX10 hown hK hP hD hS 0 rfl rfl 1 (by decide) (hts (.fieldLink RX10 87 "NothingJudge" "taped" "I") fwwsX10_putNumber_87) (fun _ h9 => h9) rfl (by decide +kernel) rfl rfl (Nat.le_of_ble_eq_true rfl) dX10_putNumber_46 (fun H locs hP hD hS => ?_)
  have hP : va_P (dC, dI) vwCl [(h0, .inr (9, [.ref tp, .int 6, .ref tok, .ref sp, .ref rdr, .int 0, .int (-1), .ref scn, .ref fct, .ref rnr, .ref trl, .ref mnd, .ref rrw])), (tp, .inl (cB, 1200, .inl f_139))] H := hP
  have hD : va_D A [(h0, .inr (9, [.ref tp, .int 6, .ref tok, .ref sp, .ref rdr, .int 0, .int (-1), .ref scn, .ref fct, .ref rnr, .ref trl, .ref mnd, .ref rrw])), (tp, .inl (cB, 1200, .inl f_139))] := hD
  refine lv_iinc (v := 8) (lv' := [(2, .int 8), (0, .ref h0), (1, .int n)]) hx hb dX10_putNumber_49 hl (k := 0) rfl (by decide) (by decide) rfl (fun ls hl => ?_)
  refine lv_goto (tgt := 3) hx hb dX10_putNumber_52 (by decide) ?_
  refine lv_iload_n hx hb dX10_putNumber_3 rfl (lv_at hl 0 rfl) ?_
  refine lv_if_lt (tgt := 55) hx hb dX10_putNumber_4 (by decide) (fun c9 => absurd c9 (by decide)) (fun _ => ?_)
  refine lv_aload_n hx hb dX10_putNumber_7 rfl (lv_at hl 1 rfl) ?_
  refine va_get (D := (dC, dI)) (ci := 9) (v := .int 6) (C := RX10) (T := TX10) (N := 13) hx hb hts iwwsX10_putNumber_10 hown hK hP 0 rfl rfl 1 (by decide) (hts (.fieldLink RX10 87 "NothingJudge" "taped" "I") fwwsX10_putNumber_87) (fun _ h9 => h9) rfl dX10_putNumber_8 ?_
  refine lv_if_lt (tgt := 49) hx hb dX10_putNumber_11 (by decide) (fun c9 => absurd c9 (by decide)) (fun _ => ?_)
  refine lv_aload_n hx hb dX10_putNumber_14 rfl (lv_at hl 1 rfl) ?_
  refine va_get (D := (dC, dI)) (ci := 9) (v := .int 6) (C := RX10) (T := TX10) (N := 13) hx hb hts iwwsX10_putNumber_10 hown hK hP 0 rfl rfl 1 (by decide) (hts (.fieldLink RX10 87 "NothingJudge" "taped" "I") fwwsX10_putNumber_87) (fun _ h9 => h9) rfl dX10_putNumber_15 ?_
  refine lv_aload_n hx hb dX10_putNumber_18 rfl (lv_at hl 1 rfl) ?_
  refine va_get (D := (dC, dI)) (ci := 9) (v := .ref tp) (C := RX10) (T := TX10) (N := 13) hx hb hts iwwsX10_putNumber_10 hown hK hP 0 rfl rfl 0 (by decide) (hts (.fieldLink RX10 9 "NothingJudge" "tape" "[B") fwwsX10_putNumber_9) (fun _ h9 => h9) rfl dX10_putNumber_19 ?_
  refine va_alen hx hb hK hP 1 1 rfl rfl (v := 1200) (by decide) dX10_putNumber_22 ?_
  refine lv_icmp_ge (tgt := 49) hx hb dX10_putNumber_23 (by decide) (fun c9 => absurd c9 (by decide)) (fun _ => ?_)
  refine lv_aload_n hx hb dX10_putNumber_26 rfl (lv_at hl 1 rfl) ?_
  refine va_get (D := (dC, dI)) (ci := 9) (v := .ref tp) (C := RX10) (T := TX10) (N := 13) hx hb hts iwwsX10_putNumber_10 hown hK hP 0 rfl rfl 0 (by decide) (hts (.fieldLink RX10 9 "NothingJudge" "tape" "[B") fwwsX10_putNumber_9) (fun _ h9 => h9) rfl dX10_putNumber_27 ?_
  refine lv_aload_n hx hb dX10_putNumber_30 rfl (lv_at hl 1 rfl) ?_
  refine va_get (D := (dC, dI)) (ci := 9) (v := .int 6) (C := RX10) (T := TX10) (N := 13) hx hb hts iwwsX10_putNumber_10 hown hK hP 0 rfl rfl 1 (by decide) (hts (.fieldLink RX10 87 "NothingJudge" "taped" "I") fwwsX10_putNumber_87) (fun _ h9 => h9) rfl dX10_putNumber_31 ?_
  refine lv_iload_n hx hb dX10_putNumber_34 rfl (lv_at hl 2 rfl) ?_
  refine lv_iload_n hx hb dX10_putNumber_35 rfl (lv_at hl 0 rfl) ?_
  refine lv_ishr hx hb dX10_putNumber_36 ?_
  refine lv_topi (fun v_141 ev_141 => ?_)
  refine lv_i2b (v := v_141.toInt8.toInt32) hx hb dX10_putNumber_37 rfl ?_
  refine lv_topi (fun v_142 ev_142 => ?_)
  refine va_bast hx hb hK hP hD hS 1 1 rfl rfl (by unfold vp_in; decide) dX10_putNumber_38 (fun H locs hP hD hS => ?_)
  obtain ⟨f_143, ef_143⟩ : ∃ z, z = upd f_139 (6 : Int32).toNatClampNeg (vp_nar .byte v_142) := ⟨_, rfl⟩
  have hP : va_P (dC, dI) vwCl [(h0, .inr (9, [.ref tp, .int 6, .ref tok, .ref sp, .ref rdr, .int 0, .int (-1), .ref scn, .ref fct, .ref rnr, .ref trl, .ref mnd, .ref rrw])), (tp, .inl (cB, 1200, .inl f_143))] H := by rw [ef_143]; exact hP
  have hD : va_D A [(h0, .inr (9, [.ref tp, .int 6, .ref tok, .ref sp, .ref rdr, .int 0, .int (-1), .ref scn, .ref fct, .ref rnr, .ref trl, .ref mnd, .ref rrw])), (tp, .inl (cB, 1200, .inl f_143))] := by rw [ef_143]; exact hD
  refine lv_aload_n hx hb dX10_putNumber_39 rfl (lv_at hl 1 rfl) ?_
  refine lv_dup hx hb dX10_putNumber_40 rfl ?_
  refine va_get (D := (dC, dI)) (ci := 9) (v := .int 6) (C := RX10) (T := TX10) (N := 13) hx hb hts iwwsX10_putNumber_10 hown hK hP 0 rfl rfl 1 (by decide) (hts (.fieldLink RX10 87 "NothingJudge" "taped" "I") fwwsX10_putNumber_87) (fun _ h9 => h9) rfl dX10_putNumber_41 ?_
  refine lv_iconst (v := 1) hx hb dX10_putNumber_44 (by decide) ?_
  refine lv_iadd hx hb dX10_putNumber_45 ?_
  refine lv_topi (fun y_144 ey_144 => ?_)
  obtain rfl : y_144 = 7 := ey_144.trans (by decide)
  refine va_put (D := (dC, dI)) (ci := 9) (v := .int 7) (ty := .int) (C := RX10) (T := TX10) (N := 13) hx hb hts iwwsX10_putNumber_10 tyX10 tyX10_ok nmX10 hown hK hP hD hS 0 rfl rfl 1 (by decide) (hts (.fieldLink RX10 87 "NothingJudge" "taped" "I") fwwsX10_putNumber_87) (fun _ h9 => h9) rfl (by decide +kernel) rfl rfl (Nat.le_of_ble_eq_true rfl) dX10_putNumber_46 (fun H locs hP hD hS => ?_)
  have hP : va_P (dC, dI) vwCl [(h0, .inr (9, [.ref tp, .int 7, .ref tok, .ref sp, .ref rdr, .int 0, .int (-1), .ref scn, .ref fct, .ref rnr, .ref trl, .ref mnd, .ref rrw])), (tp, .inl (cB, 1200, .inl f_143))] H := hP
  have hD : va_D A [(h0, .inr (9, [.ref tp, .int 7, .ref tok, .ref sp, .ref rdr, .int 0, .int (-1), .ref scn, .ref fct, .ref rnr, .ref trl, .ref mnd, .ref rrw])), (tp, .inl (cB, 1200, .inl f_143))] := hD
  refine lv_iinc (v := 0) (lv' := [(2, .int 0), (0, .ref h0), (1, .int n)]) hx hb dX10_putNumber_49 hl (k := 0) rfl (by decide) (by decide) rfl (fun ls hl => ?_)
  refine lv_goto (tgt := 3) hx hb dX10_putNumber_52 (by decide) ?_
  refine lv_iload_n hx hb dX10_putNumber_3 rfl (lv_at hl 0 rfl) ?_
  refine lv_if_lt (tgt := 55) hx hb dX10_putNumber_4 (by decide) (fun c9 => absurd c9 (by decide)) (fun _ => ?_)
  refine lv_aload_n hx hb dX10_putNumber_7 rfl (lv_at hl 1 rfl) ?_
  refine va_get (D := (dC, dI)) (ci := 9) (v := .int 7) (C := RX10) (T := TX10) (N := 13) hx hb hts iwwsX10_putNumber_10 hown hK hP 0 rfl rfl 1 (by decide) (hts (.fieldLink RX10 87 "NothingJudge" "taped" "I") fwwsX10_putNumber_87) (fun _ h9 => h9) rfl dX10_putNumber_8 ?_
  refine lv_if_lt (tgt := 49) hx hb dX10_putNumber_11 (by decide) (fun c9 => absurd c9 (by decide)) (fun _ => ?_)
  refine lv_aload_n hx hb dX10_putNumber_14 rfl (lv_at hl 1 rfl) ?_
  refine va_get (D := (dC, dI)) (ci := 9) (v := .int 7) (C := RX10) (T := TX10) (N := 13) hx hb hts iwwsX10_putNumber_10 hown hK hP 0 rfl rfl 1 (by decide) (hts (.fieldLink RX10 87 "NothingJudge" "taped" "I") fwwsX10_putNumber_87) (fun _ h9 => h9) rfl dX10_putNumber_15 ?_
  refine lv_aload_n hx hb dX10_putNumber_18 rfl (lv_at hl 1 rfl) ?_
  refine va_get (D := (dC, dI)) (ci := 9) (v := .ref tp) (C := RX10) (T := TX10) (N := 13) hx hb hts iwwsX10_putNumber_10 hown hK hP 0 rfl rfl 0 (by decide) (hts (.fieldLink RX10 9 "NothingJudge" "tape" "[B") fwwsX10_putNumber_9) (fun _ h9 => h9) rfl dX10_putNumber_19 ?_
  refine va_alen hx hb hK hP 1 1 rfl rfl (v := 1200) (by decide) dX10_putNumber_22 ?_
  refine lv_icmp_ge (tgt := 49) hx hb dX10_putNumber_23 (by decide) (fun c9 => absurd c9 (by decide)) (fun _ => ?_)
  refine lv_aload_n hx hb dX10_putNumber_26 rfl (lv_at hl 1 rfl) ?_
  refine va_get (D := (dC, dI)) (ci := 9) (v := .ref tp) (C := RX10) (T := TX10) (N := 13) hx hb hts iwwsX10_putNumber_10 hown hK hP 0 rfl rfl 0 (by decide) (hts (.fieldLink RX10 9 "NothingJudge" "tape" "[B") fwwsX10_putNumber_9) (fun _ h9 => h9) rfl dX10_putNumber_27 ?_
  refine lv_aload_n hx hb dX10_putNumber_30 rfl (lv_at hl 1 rfl) ?_
  refine va_get (D := (dC, dI)) (ci := 9) (v := .int 7) (C := RX10) (T := TX10) (N := 13) hx hb hts iwwsX10_putNumber_10 hown hK hP 0 rfl rfl 1 (by decide) (hts (.fieldLink RX10 87 "NothingJudge" "taped" "I") fwwsX10_putNumber_87) (fun _ h9 => h9) rfl dX10_putNumber_31 ?_
  refine lv_iload_n hx hb dX10_putNumber_34 rfl (lv_at hl 2 rfl) ?_
  refine lv_iload_n hx hb dX10_putNumber_35 rfl (lv_at hl 0 rfl) ?_
  refine lv_ishr hx hb dX10_putNumber_36 ?_
  refine lv_topi (fun v_145 ev_145 => ?_)
  refine lv_i2b (v := v_145.toInt8.toInt32) hx hb dX10_putNumber_37 rfl ?_
  refine lv_topi (fun v_146 ev_146 => ?_)
  refine va_bast hx hb hK hP hD hS 1 1 rfl rfl (by unfold vp_in; decide) dX10_putNumber_38 (fun H locs hP hD hS => ?_)
  obtain ⟨f_147, ef_147⟩ : ∃ z, z = upd f_143 (7 : Int32).toNatClampNeg (vp_nar .byte v_146) := ⟨_, rfl⟩
  have hP : va_P (dC, dI) vwCl [(h0, .inr (9, [.ref tp, .int 7, .ref tok, .ref sp, .ref rdr, .int 0, .int (-1), .ref scn, .ref fct, .ref rnr, .ref trl, .ref mnd, .ref rrw])), (tp, .inl (cB, 1200, .inl f_147))] H := by rw [ef_147]; exact hP
  have hD : va_D A [(h0, .inr (9, [.ref tp, .int 7, .ref tok, .ref sp, .ref rdr, .int 0, .int (-1), .ref scn, .ref fct, .ref rnr, .ref trl, .ref mnd, .ref rrw])), (tp, .inl (cB, 1200, .inl f_147))] := by rw [ef_147]; exact hD
  refine lv_aload_n hx hb dX10_putNumber_39 rfl (lv_at hl 1 rfl) ?_
  refine lv_dup hx hb dX10_putNumber_40 rfl ?_
  refine va_get (D := (dC, dI)) (ci := 9) (v := .int 7) (C := RX10) (T := TX10) (N := 13) hx hb hts iwwsX10_putNumber_10 hown hK hP 0 rfl rfl 1 (by decide) (hts (.fieldLink RX10 87 "NothingJudge" "taped" "I") fwwsX10_putNumber_87) (fun _ h9 => h9) rfl dX10_putNumber_41 ?_
  refine lv_iconst (v := 1) hx hb dX10_putNumber_44 (by decide) ?_
  refine lv_iadd hx hb dX10_putNumber_45 ?_
  refine lv_topi (fun y_148 ey_148 => ?_)
  obtain rfl : y_148 = 8 := ey_148.trans (by decide)
  refine va_put (D := (dC, dI)) (ci := 9) (v := .int 8) (ty := .int) (C := RX10) (T := TX10) (N := 13) hx hb hts iwwsX10_putNumber_10 tyX10 tyX10_ok nmX10 hown hK hP hD hS 0 rfl rfl 1 (by decide) (hts (.fieldLink RX10 87 "NothingJudge" "taped" "I") fwwsX10_putNumber_87) (fun _ h9 => h9) rfl (by decide +kernel) rfl rfl (Nat.le_of_ble_eq_true rfl) dX10_putNumber_46 (fun H locs hP hD hS => ?_)
  have hP : va_P (dC, dI) vwCl [(h0, .inr (9, [.ref tp, .int 8, .ref tok, .ref sp, .ref rdr, .int 0, .int (-1), .ref scn, .ref fct, .ref rnr, .ref trl, .ref mnd, .ref rrw])), (tp, .inl (cB, 1200, .inl f_147))] H := hP
  have hD : va_D A [(h0, .inr (9, [.ref tp, .int 8, .ref tok, .ref sp, .ref rdr, .int 0, .int (-1), .ref scn, .ref fct, .ref rnr, .ref trl, .ref mnd, .ref rrw])), (tp, .inl (cB, 1200, .inl f_147))] := hD
  refine lv_iinc (v := (-8)) (lv' := [(2, .int (-8)), (0, .ref h0), (1, .int n)]) hx hb dX10_putNumber_49 hl (k := 0) rfl (by decide) (by decide) rfl (fun ls hl => ?_)
  refine lv_goto (tgt := 3) hx hb dX10_putNumber_52 (by decide) ?_
  refine lv_iload_n hx hb dX10_putNumber_3 rfl (lv_at hl 0 rfl) ?_
  refine lv_if_lt (tgt := 55) hx hb dX10_putNumber_4 (by decide) (fun _ => ?_) (fun c9 => absurd (by decide) c9)
  have hP9 := hP.sub (ws' := [(h0, .inr (9, [.ref tp, .int 8, .ref tok, .ref sp, .ref rdr, .int 0, .int (-1), .ref scn, .ref fct, .ref rnr, .ref trl, .ref mnd, .ref rrw])), (tp, .inl (cB, 1200, .inl f_147))]) [0, 1] rfl
  have hD9 := hD.sub (ws' := [(h0, .inr (9, [.ref tp, .int 8, .ref tok, .ref sp, .ref rdr, .int 0, .int (-1), .ref scn, .ref fct, .ref rnr, .ref trl, .ref mnd, .ref rrw])), (tp, .inl (cB, 1200, .inl f_147))]) [0, 1] (by decide) rfl
  exact W.vret hx hb hr (fun t ht hW => ⟨⟨(), rfl, trivial, f_147, by rw [ht]; exact hP9, hD9⟩, hS.F ht⟩) hS.2.2 dX10_putNumber_55

set_option maxHeartbeats 4000000 in
set_option maxRecDepth 100000 in
theorem c_putNumber8 (l : Launch) (dC : Nat → ClassId) (dI : Nat → Nat → Nat) (cI cB cL cZ : ClassId) (h0 : Nat) (tp : Nat) (tok : Nat) (sp : Nat) (rdr : Nat) (scn : Nat) (fct : Nat) (rnr : Nat) (trl : Nat) (mnd : Nat) (rrw : Nat) (n : Int32) (f : Nat → Int32) (sz : Nat)  : Met l yX10_putNumber wsX10_putNumber ({ frames := 0, cells := 0, slots := 0, locals := 0 }) (cP (dC, dI) (kTy cI cB cL cZ) [.ref h0, .int n] [(h0, .inr (9, [.ref tp, .int 8, .ref tok, .ref sp, .ref rdr, .int 0, .int (-1), .ref scn, .ref fct, .ref rnr, .ref trl, .ref mnd, .ref rrw])), (tp, .inl (cB, 1200, .inl f))] sz) (va_Qv (fun _ : Unit => True) (fun (_ : Unit) (t : State) => ∃ fz0 : Nat → Int32, va_P (dC, dI) vwCl [(h0, .inr (9, [.ref tp, .int 12, .ref tok, .ref sp, .ref rdr, .int 0, .int (-1), .ref scn, .ref fct, .ref rnr, .ref trl, .ref mnd, .ref rrw])), (tp, .inl (cB, 1200, .inl fz0))] t.heap ∧ va_D (va_A [(h0, .inr (9, [.ref tp, .int 8, .ref tok, .ref sp, .ref rdr, .int 0, .int (-1), .ref scn, .ref fct, .ref rnr, .ref trl, .ref mnd, .ref rrw])), (tp, .inl (cB, 1200, .inl f))] sz) [(h0, .inr (9, [.ref tp, .int 12, .ref tok, .ref sp, .ref rdr, .int 0, .int (-1), .ref scn, .ref fct, .ref rnr, .ref trl, .ref mnd, .ref rrw])), (tp, .inl (cB, 1200, .inl fz0))]) (va_A [(h0, .inr (9, [.ref tp, .int 8, .ref tok, .ref sp, .ref rdr, .int 0, .int (-1), .ref scn, .ref fct, .ref rnr, .ref trl, .ref mnd, .ref rrw])), (tp, .inl (cB, 1200, .inl f))] sz)) 0 0 (va_A [(h0, .inr (9, [.ref tp, .int 8, .ref tok, .ref sp, .ref rdr, .int 0, .int (-1), .ref scn, .ref fct, .ref rnr, .ref trl, .ref mnd, .ref rrw])), (tp, .inl (cB, 1200, .inl f))] sz) := by
  refine Met.ofW (cc := cX10_putNumber) (maxL := 3) (ret := none) (by decide) rfl ?_
  intro p e s m args below meth c s₁ B hml hv
  obtain ⟨rfl, hsz, hP, hK, hD0, hN⟩ := hv
  have hx := B.exec
  have hb := B.bytes
  have hr := B.returns
  have hts := atoms_spec (ws := wsX10_putNumber) B.pre
  have hown : s.vm.findClass RX10 = some m.cls := findClass_of_methodNamed B.named
  have hlocks := B.notSynchronized
  subst hsz
  have hD := hD0.self (sz := s.heap.size)
  generalize hAe : va_A [(h0, .inr (9, [.ref tp, .int 8, .ref tok, .ref sp, .ref rdr, .int 0, .int (-1), .ref scn, .ref fct, .ref rnr, .ref trl, .ref mnd, .ref rrw])), (tp, .inl (cB, 1200, .inl f))] s.heap.size = A at hD ⊢
  have hA : ∀ q : Nat, s.heap.size ≤ q → A q := fun q h => by rw [← hAe]; exact Or.inr h
  have hl := lv_entry ([.ref h0, .int n]) (n := 3) (Nat.le_of_ble_eq_true rfl)
  rw [lg_entry_eq]
  generalize (lg_sl ([.ref h0, .int n]) ++ List.replicate (3 - (lg_sl ([.ref h0, .int n])).length) Slot.unset).toArray = ls at hl ⊢
  have hl : lv_has ls 3 [(0, .ref h0), (1, .int n)] := hl
  refine k_H (A := A) hP (fun H hP hS => ?_)
  have hP : va_P (dC, dI) vwCl [(h0, .inr (9, [.ref tp, .int 8, .ref tok, .ref sp, .ref rdr, .int 0, .int (-1), .ref scn, .ref fct, .ref rnr, .ref trl, .ref mnd, .ref rrw])), (tp, .inl (cB, 1200, .inl f))] H := hP
  have hD : va_D A [(h0, .inr (9, [.ref tp, .int 8, .ref tok, .ref sp, .ref rdr, .int 0, .int (-1), .ref scn, .ref fct, .ref rnr, .ref trl, .ref mnd, .ref rrw])), (tp, .inl (cB, 1200, .inl f))] := hD
  refine lv_bipush (v := 24) hx hb dX10_putNumber_0 (by decide) ?_
  refine lv_istore_n (lv' := [(2, .int 24), (0, .ref h0), (1, .int n)]) hx hb dX10_putNumber_2 rfl hl (by decide) rfl (fun ls hl => ?_)
  refine lv_iload_n hx hb dX10_putNumber_3 rfl (lv_at hl 0 rfl) ?_
  refine lv_if_lt (tgt := 55) hx hb dX10_putNumber_4 (by decide) (fun c9 => absurd c9 (by decide)) (fun _ => ?_)
  refine lv_aload_n hx hb dX10_putNumber_7 rfl (lv_at hl 1 rfl) ?_
  refine va_get (D := (dC, dI)) (ci := 9) (v := .int 8) (C := RX10) (T := TX10) (N := 13) hx hb hts iwwsX10_putNumber_10 hown hK hP 0 rfl rfl 1 (by decide) (hts (.fieldLink RX10 87 "NothingJudge" "taped" "I") fwwsX10_putNumber_87) (fun _ h9 => h9) rfl dX10_putNumber_8 ?_
  refine lv_if_lt (tgt := 49) hx hb dX10_putNumber_11 (by decide) (fun c9 => absurd c9 (by decide)) (fun _ => ?_)
  refine lv_aload_n hx hb dX10_putNumber_14 rfl (lv_at hl 1 rfl) ?_
  refine va_get (D := (dC, dI)) (ci := 9) (v := .int 8) (C := RX10) (T := TX10) (N := 13) hx hb hts iwwsX10_putNumber_10 hown hK hP 0 rfl rfl 1 (by decide) (hts (.fieldLink RX10 87 "NothingJudge" "taped" "I") fwwsX10_putNumber_87) (fun _ h9 => h9) rfl dX10_putNumber_15 ?_
  refine lv_aload_n hx hb dX10_putNumber_18 rfl (lv_at hl 1 rfl) ?_
  refine va_get (D := (dC, dI)) (ci := 9) (v := .ref tp) (C := RX10) (T := TX10) (N := 13) hx hb hts iwwsX10_putNumber_10 hown hK hP 0 rfl rfl 0 (by decide) (hts (.fieldLink RX10 9 "NothingJudge" "tape" "[B") fwwsX10_putNumber_9) (fun _ h9 => h9) rfl dX10_putNumber_19 ?_
  refine va_alen hx hb hK hP 1 1 rfl rfl (v := 1200) (by decide) dX10_putNumber_22 ?_
  refine lv_icmp_ge (tgt := 49) hx hb dX10_putNumber_23 (by decide) (fun c9 => absurd c9 (by decide)) (fun _ => ?_)
  refine lv_aload_n hx hb dX10_putNumber_26 rfl (lv_at hl 1 rfl) ?_
  refine va_get (D := (dC, dI)) (ci := 9) (v := .ref tp) (C := RX10) (T := TX10) (N := 13) hx hb hts iwwsX10_putNumber_10 hown hK hP 0 rfl rfl 0 (by decide) (hts (.fieldLink RX10 9 "NothingJudge" "tape" "[B") fwwsX10_putNumber_9) (fun _ h9 => h9) rfl dX10_putNumber_27 ?_
  refine lv_aload_n hx hb dX10_putNumber_30 rfl (lv_at hl 1 rfl) ?_
  refine va_get (D := (dC, dI)) (ci := 9) (v := .int 8) (C := RX10) (T := TX10) (N := 13) hx hb hts iwwsX10_putNumber_10 hown hK hP 0 rfl rfl 1 (by decide) (hts (.fieldLink RX10 87 "NothingJudge" "taped" "I") fwwsX10_putNumber_87) (fun _ h9 => h9) rfl dX10_putNumber_31 ?_
  refine lv_iload_n hx hb dX10_putNumber_34 rfl (lv_at hl 2 rfl) ?_
  refine lv_iload_n hx hb dX10_putNumber_35 rfl (lv_at hl 0 rfl) ?_
  refine lv_ishr hx hb dX10_putNumber_36 ?_
  refine lv_topi (fun v_149 ev_149 => ?_)
  refine lv_i2b (v := v_149.toInt8.toInt32) hx hb dX10_putNumber_37 rfl ?_
  refine lv_topi (fun v_150 ev_150 => ?_)
  refine va_bast hx hb hK hP hD hS 1 1 rfl rfl (by unfold vp_in; decide) dX10_putNumber_38 (fun H locs hP hD hS => ?_)
  obtain ⟨f_151, ef_151⟩ : ∃ z, z = upd f (8 : Int32).toNatClampNeg (vp_nar .byte v_150) := ⟨_, rfl⟩
  have hP : va_P (dC, dI) vwCl [(h0, .inr (9, [.ref tp, .int 8, .ref tok, .ref sp, .ref rdr, .int 0, .int (-1), .ref scn, .ref fct, .ref rnr, .ref trl, .ref mnd, .ref rrw])), (tp, .inl (cB, 1200, .inl f_151))] H := by rw [ef_151]; exact hP
  have hD : va_D A [(h0, .inr (9, [.ref tp, .int 8, .ref tok, .ref sp, .ref rdr, .int 0, .int (-1), .ref scn, .ref fct, .ref rnr, .ref trl, .ref mnd, .ref rrw])), (tp, .inl (cB, 1200, .inl f_151))] := by rw [ef_151]; exact hD
  refine lv_aload_n hx hb dX10_putNumber_39 rfl (lv_at hl 1 rfl) ?_
  refine lv_dup hx hb dX10_putNumber_40 rfl ?_
  refine va_get (D := (dC, dI)) (ci := 9) (v := .int 8) (C := RX10) (T := TX10) (N := 13) hx hb hts iwwsX10_putNumber_10 hown hK hP 0 rfl rfl 1 (by decide) (hts (.fieldLink RX10 87 "NothingJudge" "taped" "I") fwwsX10_putNumber_87) (fun _ h9 => h9) rfl dX10_putNumber_41 ?_
  refine lv_iconst (v := 1) hx hb dX10_putNumber_44 (by decide) ?_
  refine lv_iadd hx hb dX10_putNumber_45 ?_
  refine lv_topi (fun y_152 ey_152 => ?_)
  obtain rfl : y_152 = 9 := ey_152.trans (by decide)
  refine va_put (D := (dC, dI)) (ci := 9) (v := .int 9) (ty := .int) (C := RX10) (T := TX10) (N := 13) hx hb hts iwwsX10_putNumber_10 tyX10 tyX10_ok nmX10 hown hK hP hD hS 0 rfl rfl 1 (by decide) (hts (.fieldLink RX10 87 "NothingJudge" "taped" "I") fwwsX10_putNumber_87) (fun _ h9 => h9) rfl (by decide +kernel) rfl rfl (Nat.le_of_ble_eq_true rfl) dX10_putNumber_46 (fun H locs hP hD hS => ?_)
  have hP : va_P (dC, dI) vwCl [(h0, .inr (9, [.ref tp, .int 9, .ref tok, .ref sp, .ref rdr, .int 0, .int (-1), .ref scn, .ref fct, .ref rnr, .ref trl, .ref mnd, .ref rrw])), (tp, .inl (cB, 1200, .inl f_151))] H := hP
  have hD : va_D A [(h0, .inr (9, [.ref tp, .int 9, .ref tok, .ref sp, .ref rdr, .int 0, .int (-1), .ref scn, .ref fct, .ref rnr, .ref trl, .ref mnd, .ref rrw])), (tp, .inl (cB, 1200, .inl f_151))] := hD
  refine lv_iinc (v := 16) (lv' := [(2, .int 16), (0, .ref h0), (1, .int n)]) hx hb dX10_putNumber_49 hl (k := 0) rfl (by decide) (by decide) rfl (fun ls hl => ?_)
  refine lv_goto (tgt := 3) hx hb dX10_putNumber_52 (by decide) ?_
  refine lv_iload_n hx hb dX10_putNumber_3 rfl (lv_at hl 0 rfl) ?_
  refine lv_if_lt (tgt := 55) hx hb dX10_putNumber_4 (by decide) (fun c9 => absurd c9 (by decide)) (fun _ => ?_)
  refine lv_aload_n hx hb dX10_putNumber_7 rfl (lv_at hl 1 rfl) ?_
  refine va_get (D := (dC, dI)) (ci := 9) (v := .int 9) (C := RX10) (T := TX10) (N := 13) hx hb hts iwwsX10_putNumber_10 hown hK hP 0 rfl rfl 1 (by decide) (hts (.fieldLink RX10 87 "NothingJudge" "taped" "I") fwwsX10_putNumber_87) (fun _ h9 => h9) rfl dX10_putNumber_8 ?_
  refine lv_if_lt (tgt := 49) hx hb dX10_putNumber_11 (by decide) (fun c9 => absurd c9 (by decide)) (fun _ => ?_)
  refine lv_aload_n hx hb dX10_putNumber_14 rfl (lv_at hl 1 rfl) ?_
  refine va_get (D := (dC, dI)) (ci := 9) (v := .int 9) (C := RX10) (T := TX10) (N := 13) hx hb hts iwwsX10_putNumber_10 hown hK hP 0 rfl rfl 1 (by decide) (hts (.fieldLink RX10 87 "NothingJudge" "taped" "I") fwwsX10_putNumber_87) (fun _ h9 => h9) rfl dX10_putNumber_15 ?_
  refine lv_aload_n hx hb dX10_putNumber_18 rfl (lv_at hl 1 rfl) ?_
  refine va_get (D := (dC, dI)) (ci := 9) (v := .ref tp) (C := RX10) (T := TX10) (N := 13) hx hb hts iwwsX10_putNumber_10 hown hK hP 0 rfl rfl 0 (by decide) (hts (.fieldLink RX10 9 "NothingJudge" "tape" "[B") fwwsX10_putNumber_9) (fun _ h9 => h9) rfl dX10_putNumber_19 ?_
  refine va_alen hx hb hK hP 1 1 rfl rfl (v := 1200) (by decide) dX10_putNumber_22 ?_
  refine lv_icmp_ge (tgt := 49) hx hb dX10_putNumber_23 (by decide) (fun c9 => absurd c9 (by decide)) (fun _ => ?_)
  refine lv_aload_n hx hb dX10_putNumber_26 rfl (lv_at hl 1 rfl) ?_
  refine va_get (D := (dC, dI)) (ci := 9) (v := .ref tp) (C := RX10) (T := TX10) (N := 13) hx hb hts iwwsX10_putNumber_10 hown hK hP 0 rfl rfl 0 (by decide) (hts (.fieldLink RX10 9 "NothingJudge" "tape" "[B") fwwsX10_putNumber_9) (fun _ h9 => h9) rfl dX10_putNumber_27 ?_
  refine lv_aload_n hx hb dX10_putNumber_30 rfl (lv_at hl 1 rfl) ?_
  refine va_get (D := (dC, dI)) (ci := 9) (v := .int 9) (C := RX10) (T := TX10) (N := 13) hx hb hts iwwsX10_putNumber_10 hown hK hP 0 rfl rfl 1 (by decide) (hts (.fieldLink RX10 87 "NothingJudge" "taped" "I") fwwsX10_putNumber_87) (fun _ h9 => h9) rfl dX10_putNumber_31 ?_
  refine lv_iload_n hx hb dX10_putNumber_34 rfl (lv_at hl 2 rfl) ?_
  refine lv_iload_n hx hb dX10_putNumber_35 rfl (lv_at hl 0 rfl) ?_
  refine lv_ishr hx hb dX10_putNumber_36 ?_
  refine lv_topi (fun v_153 ev_153 => ?_)
  refine lv_i2b (v := v_153.toInt8.toInt32) hx hb dX10_putNumber_37 rfl ?_
  refine lv_topi (fun v_154 ev_154 => ?_)
  refine va_bast hx hb hK hP hD hS 1 1 rfl rfl (by unfold vp_in; decide) dX10_putNumber_38 (fun H locs hP hD hS => ?_)
  obtain ⟨f_155, ef_155⟩ : ∃ z, z = upd f_151 (9 : Int32).toNatClampNeg (vp_nar .byte v_154) := ⟨_, rfl⟩
  have hP : va_P (dC, dI) vwCl [(h0, .inr (9, [.ref tp, .int 9, .ref tok, .ref sp, .ref rdr, .int 0, .int (-1), .ref scn, .ref fct, .ref rnr, .ref trl, .ref mnd, .ref rrw])), (tp, .inl (cB, 1200, .inl f_155))] H := by rw [ef_155]; exact hP
  have hD : va_D A [(h0, .inr (9, [.ref tp, .int 9, .ref tok, .ref sp, .ref rdr, .int 0, .int (-1), .ref scn, .ref fct, .ref rnr, .ref trl, .ref mnd, .ref rrw])), (tp, .inl (cB, 1200, .inl f_155))] := by rw [ef_155]; exact hD
  refine lv_aload_n hx hb dX10_putNumber_39 rfl (lv_at hl 1 rfl) ?_
  refine lv_dup hx hb dX10_putNumber_40 rfl ?_
  refine va_get (D := (dC, dI)) (ci := 9) (v := .int 9) (C := RX10) (T := TX10) (N := 13) hx hb hts iwwsX10_putNumber_10 hown hK hP 0 rfl rfl 1 (by decide) (hts (.fieldLink RX10 87 "NothingJudge" "taped" "I") fwwsX10_putNumber_87) (fun _ h9 => h9) rfl dX10_putNumber_41 ?_
  refine lv_iconst (v := 1) hx hb dX10_putNumber_44 (by decide) ?_
  refine lv_iadd hx hb dX10_putNumber_45 ?_
  refine lv_topi (fun y_156 ey_156 => ?_)
  obtain rfl : y_156 = 10 := ey_156.trans (by decide)
  refine va_put (D := (dC, dI)) (ci := 9) (v := .int 10) (ty := .int) (C := RX10) (T := TX10) (N := 13) hx hb hts iwwsX10_putNumber_10 tyX10 tyX10_ok nmX10 hown hK hP hD hS 0 rfl rfl 1 (by decide) (hts (.fieldLink RX10 87 "NothingJudge" "taped" "I") fwwsX10_putNumber_87) (fun _ h9 => h9) rfl (by decide +kernel) rfl rfl (Nat.le_of_ble_eq_true rfl) dX10_putNumber_46 (fun H locs hP hD hS => ?_)
  have hP : va_P (dC, dI) vwCl [(h0, .inr (9, [.ref tp, .int 10, .ref tok, .ref sp, .ref rdr, .int 0, .int (-1), .ref scn, .ref fct, .ref rnr, .ref trl, .ref mnd, .ref rrw])), (tp, .inl (cB, 1200, .inl f_155))] H := hP
  have hD : va_D A [(h0, .inr (9, [.ref tp, .int 10, .ref tok, .ref sp, .ref rdr, .int 0, .int (-1), .ref scn, .ref fct, .ref rnr, .ref trl, .ref mnd, .ref rrw])), (tp, .inl (cB, 1200, .inl f_155))] := hD
  refine lv_iinc (v := 8) (lv' := [(2, .int 8), (0, .ref h0), (1, .int n)]) hx hb dX10_putNumber_49 hl (k := 0) rfl (by decide) (by decide) rfl (fun ls hl => ?_)
  refine lv_goto (tgt := 3) hx hb dX10_putNumber_52 (by decide) ?_
  refine lv_iload_n hx hb dX10_putNumber_3 rfl (lv_at hl 0 rfl) ?_
  refine lv_if_lt (tgt := 55) hx hb dX10_putNumber_4 (by decide) (fun c9 => absurd c9 (by decide)) (fun _ => ?_)
  refine lv_aload_n hx hb dX10_putNumber_7 rfl (lv_at hl 1 rfl) ?_
  refine va_get (D := (dC, dI)) (ci := 9) (v := .int 10) (C := RX10) (T := TX10) (N := 13) hx hb hts iwwsX10_putNumber_10 hown hK hP 0 rfl rfl 1 (by decide) (hts (.fieldLink RX10 87 "NothingJudge" "taped" "I") fwwsX10_putNumber_87) (fun _ h9 => h9) rfl dX10_putNumber_8 ?_
  refine lv_if_lt (tgt := 49) hx hb dX10_putNumber_11 (by decide) (fun c9 => absurd c9 (by decide)) (fun _ => ?_)
  refine lv_aload_n hx hb dX10_putNumber_14 rfl (lv_at hl 1 rfl) ?_
  refine va_get (D := (dC, dI)) (ci := 9) (v := .int 10) (C := RX10) (T := TX10) (N := 13) hx hb hts iwwsX10_putNumber_10 hown hK hP 0 rfl rfl 1 (by decide) (hts (.fieldLink RX10 87 "NothingJudge" "taped" "I") fwwsX10_putNumber_87) (fun _ h9 => h9) rfl dX10_putNumber_15 ?_
  refine lv_aload_n hx hb dX10_putNumber_18 rfl (lv_at hl 1 rfl) ?_
  refine va_get (D := (dC, dI)) (ci := 9) (v := .ref tp) (C := RX10) (T := TX10) (N := 13) hx hb hts iwwsX10_putNumber_10 hown hK hP 0 rfl rfl 0 (by decide) (hts (.fieldLink RX10 9 "NothingJudge" "tape" "[B") fwwsX10_putNumber_9) (fun _ h9 => h9) rfl dX10_putNumber_19 ?_
  refine va_alen hx hb hK hP 1 1 rfl rfl (v := 1200) (by decide) dX10_putNumber_22 ?_
  refine lv_icmp_ge (tgt := 49) hx hb dX10_putNumber_23 (by decide) (fun c9 => absurd c9 (by decide)) (fun _ => ?_)
  refine lv_aload_n hx hb dX10_putNumber_26 rfl (lv_at hl 1 rfl) ?_
  refine va_get (D := (dC, dI)) (ci := 9) (v := .ref tp) (C := RX10) (T := TX10) (N := 13) hx hb hts iwwsX10_putNumber_10 hown hK hP 0 rfl rfl 0 (by decide) (hts (.fieldLink RX10 9 "NothingJudge" "tape" "[B") fwwsX10_putNumber_9) (fun _ h9 => h9) rfl dX10_putNumber_27 ?_
  refine lv_aload_n hx hb dX10_putNumber_30 rfl (lv_at hl 1 rfl) ?_
  refine va_get (D := (dC, dI)) (ci := 9) (v := .int 10) (C := RX10) (T := TX10) (N := 13) hx hb hts iwwsX10_putNumber_10 hown hK hP 0 rfl rfl 1 (by decide) (hts (.fieldLink RX10 87 "NothingJudge" "taped" "I") fwwsX10_putNumber_87) (fun _ h9 => h9) rfl dX10_putNumber_31 ?_
  refine lv_iload_n hx hb dX10_putNumber_34 rfl (lv_at hl 2 rfl) ?_
  refine lv_iload_n hx hb dX10_putNumber_35 rfl (lv_at hl 0 rfl) ?_
  refine lv_ishr hx hb dX10_putNumber_36 ?_
  refine lv_topi (fun v_157 ev_157 => ?_)
  refine lv_i2b (v := v_157.toInt8.toInt32) hx hb dX10_putNumber_37 rfl ?_
  refine lv_topi (fun v_158 ev_158 => ?_)
  refine va_bast hx hb hK hP hD hS 1 1 rfl rfl (by unfold vp_in; decide) dX10_putNumber_38 (fun H locs hP hD hS => ?_)
  obtain ⟨f_159, ef_159⟩ : ∃ z, z = upd f_155 (10 : Int32).toNatClampNeg (vp_nar .byte v_158) := ⟨_, rfl⟩
  have hP : va_P (dC, dI) vwCl [(h0, .inr (9, [.ref tp, .int 10, .ref tok, .ref sp, .ref rdr, .int 0, .int (-1), .ref scn, .ref fct, .ref rnr, .ref trl, .ref mnd, .ref rrw])), (tp, .inl (cB, 1200, .inl f_159))] H := by rw [ef_159]; exact hP
  have hD : va_D A [(h0, .inr (9, [.ref tp, .int 10, .ref tok, .ref sp, .ref rdr, .int 0, .int (-1), .ref scn, .ref fct, .ref rnr, .ref trl, .ref mnd, .ref rrw])), (tp, .inl (cB, 1200, .inl f_159))] := by rw [ef_159]; exact hD
  refine lv_aload_n hx hb dX10_putNumber_39 rfl (lv_at hl 1 rfl) ?_
  refine lv_dup hx hb dX10_putNumber_40 rfl ?_
  refine va_get (D := (dC, dI)) (ci := 9) (v := .int 10) (C := RX10) (T := TX10) (N := 13) hx hb hts iwwsX10_putNumber_10 hown hK hP 0 rfl rfl 1 (by decide) (hts (.fieldLink RX10 87 "NothingJudge" "taped" "I") fwwsX10_putNumber_87) (fun _ h9 => h9) rfl dX10_putNumber_41 ?_
  refine lv_iconst (v := 1) hx hb dX10_putNumber_44 (by decide) ?_
  refine lv_iadd hx hb dX10_putNumber_45 ?_
  refine lv_topi (fun y_160 ey_160 => ?_)
  obtain rfl : y_160 = 11 := ey_160.trans (by decide)
  refine va_put (D := (dC, dI)) (ci := 9) (v := .int 11) (ty := .int) (C := RX10) (T := TX10) (N := 13) hx hb hts iwwsX10_putNumber_10 tyX10 tyX10_ok nmX10 hown hK hP hD hS 0 rfl rfl 1 (by decide) (hts (.fieldLink RX10 87 "NothingJudge" "taped" "I") fwwsX10_putNumber_87) (fun _ h9 => h9) rfl (by decide +kernel) rfl rfl (Nat.le_of_ble_eq_true rfl) dX10_putNumber_46 (fun H locs hP hD hS => ?_)
  have hP : va_P (dC, dI) vwCl [(h0, .inr (9, [.ref tp, .int 11, .ref tok, .ref sp, .ref rdr, .int 0, .int (-1), .ref scn, .ref fct, .ref rnr, .ref trl, .ref mnd, .ref rrw])), (tp, .inl (cB, 1200, .inl f_159))] H := hP
  have hD : va_D A [(h0, .inr (9, [.ref tp, .int 11, .ref tok, .ref sp, .ref rdr, .int 0, .int (-1), .ref scn, .ref fct, .ref rnr, .ref trl, .ref mnd, .ref rrw])), (tp, .inl (cB, 1200, .inl f_159))] := hD
  refine lv_iinc (v := 0) (lv' := [(2, .int 0), (0, .ref h0), (1, .int n)]) hx hb dX10_putNumber_49 hl (k := 0) rfl (by decide) (by decide) rfl (fun ls hl => ?_)
  refine lv_goto (tgt := 3) hx hb dX10_putNumber_52 (by decide) ?_
  refine lv_iload_n hx hb dX10_putNumber_3 rfl (lv_at hl 0 rfl) ?_
  refine lv_if_lt (tgt := 55) hx hb dX10_putNumber_4 (by decide) (fun c9 => absurd c9 (by decide)) (fun _ => ?_)
  refine lv_aload_n hx hb dX10_putNumber_7 rfl (lv_at hl 1 rfl) ?_
  refine va_get (D := (dC, dI)) (ci := 9) (v := .int 11) (C := RX10) (T := TX10) (N := 13) hx hb hts iwwsX10_putNumber_10 hown hK hP 0 rfl rfl 1 (by decide) (hts (.fieldLink RX10 87 "NothingJudge" "taped" "I") fwwsX10_putNumber_87) (fun _ h9 => h9) rfl dX10_putNumber_8 ?_
  refine lv_if_lt (tgt := 49) hx hb dX10_putNumber_11 (by decide) (fun c9 => absurd c9 (by decide)) (fun _ => ?_)
  refine lv_aload_n hx hb dX10_putNumber_14 rfl (lv_at hl 1 rfl) ?_
  refine va_get (D := (dC, dI)) (ci := 9) (v := .int 11) (C := RX10) (T := TX10) (N := 13) hx hb hts iwwsX10_putNumber_10 hown hK hP 0 rfl rfl 1 (by decide) (hts (.fieldLink RX10 87 "NothingJudge" "taped" "I") fwwsX10_putNumber_87) (fun _ h9 => h9) rfl dX10_putNumber_15 ?_
  refine lv_aload_n hx hb dX10_putNumber_18 rfl (lv_at hl 1 rfl) ?_
  refine va_get (D := (dC, dI)) (ci := 9) (v := .ref tp) (C := RX10) (T := TX10) (N := 13) hx hb hts iwwsX10_putNumber_10 hown hK hP 0 rfl rfl 0 (by decide) (hts (.fieldLink RX10 9 "NothingJudge" "tape" "[B") fwwsX10_putNumber_9) (fun _ h9 => h9) rfl dX10_putNumber_19 ?_
  refine va_alen hx hb hK hP 1 1 rfl rfl (v := 1200) (by decide) dX10_putNumber_22 ?_
  refine lv_icmp_ge (tgt := 49) hx hb dX10_putNumber_23 (by decide) (fun c9 => absurd c9 (by decide)) (fun _ => ?_)
  refine lv_aload_n hx hb dX10_putNumber_26 rfl (lv_at hl 1 rfl) ?_
  refine va_get (D := (dC, dI)) (ci := 9) (v := .ref tp) (C := RX10) (T := TX10) (N := 13) hx hb hts iwwsX10_putNumber_10 hown hK hP 0 rfl rfl 0 (by decide) (hts (.fieldLink RX10 9 "NothingJudge" "tape" "[B") fwwsX10_putNumber_9) (fun _ h9 => h9) rfl dX10_putNumber_27 ?_
  refine lv_aload_n hx hb dX10_putNumber_30 rfl (lv_at hl 1 rfl) ?_
  refine va_get (D := (dC, dI)) (ci := 9) (v := .int 11) (C := RX10) (T := TX10) (N := 13) hx hb hts iwwsX10_putNumber_10 hown hK hP 0 rfl rfl 1 (by decide) (hts (.fieldLink RX10 87 "NothingJudge" "taped" "I") fwwsX10_putNumber_87) (fun _ h9 => h9) rfl dX10_putNumber_31 ?_
  refine lv_iload_n hx hb dX10_putNumber_34 rfl (lv_at hl 2 rfl) ?_
  refine lv_iload_n hx hb dX10_putNumber_35 rfl (lv_at hl 0 rfl) ?_
  refine lv_ishr hx hb dX10_putNumber_36 ?_
  refine lv_topi (fun v_161 ev_161 => ?_)
  refine lv_i2b (v := v_161.toInt8.toInt32) hx hb dX10_putNumber_37 rfl ?_
  refine lv_topi (fun v_162 ev_162 => ?_)
  refine va_bast hx hb hK hP hD hS 1 1 rfl rfl (by unfold vp_in; decide) dX10_putNumber_38 (fun H locs hP hD hS => ?_)
  obtain ⟨f_163, ef_163⟩ : ∃ z, z = upd f_159 (11 : Int32).toNatClampNeg (vp_nar .byte v_162) := ⟨_, rfl⟩
  have hP : va_P (dC, dI) vwCl [(h0, .inr (9, [.ref tp, .int 11, .ref tok, .ref sp, .ref rdr, .int 0, .int (-1), .ref scn, .ref fct, .ref rnr, .ref trl, .ref mnd, .ref rrw])), (tp, .inl (cB, 1200, .inl f_163))] H := by rw [ef_163]; exact hP
  have hD : va_D A [(h0, .inr (9, [.ref tp, .int 11, .ref tok, .ref sp, .ref rdr, .int 0, .int (-1), .ref scn, .ref fct, .ref rnr, .ref trl, .ref mnd, .ref rrw])), (tp, .inl (cB, 1200, .inl f_163))] := by rw [ef_163]; exact hD
  refine lv_aload_n hx hb dX10_putNumber_39 rfl (lv_at hl 1 rfl) ?_
  refine lv_dup hx hb dX10_putNumber_40 rfl ?_
  refine va_get (D := (dC, dI)) (ci := 9) (v := .int 11) (C := RX10) (T := TX10) (N := 13) hx hb hts iwwsX10_putNumber_10 hown hK hP 0 rfl rfl 1 (by decide) (hts (.fieldLink RX10 87 "NothingJudge" "taped" "I") fwwsX10_putNumber_87) (fun _ h9 => h9) rfl dX10_putNumber_41 ?_
  refine lv_iconst (v := 1) hx hb dX10_putNumber_44 (by decide) ?_
  refine lv_iadd hx hb dX10_putNumber_45 ?_
  refine lv_topi (fun y_164 ey_164 => ?_)
  obtain rfl : y_164 = 12 := ey_164.trans (by decide)
  refine va_put (D := (dC, dI)) (ci := 9) (v := .int 12) (ty := .int) (C := RX10) (T := TX10) (N := 13) hx hb hts iwwsX10_putNumber_10 tyX10 tyX10_ok nmX10 hown hK hP hD hS 0 rfl rfl 1 (by decide) (hts (.fieldLink RX10 87 "NothingJudge" "taped" "I") fwwsX10_putNumber_87) (fun _ h9 => h9) rfl (by decide +kernel) rfl rfl (Nat.le_of_ble_eq_true rfl) dX10_putNumber_46 (fun H locs hP hD hS => ?_)
  have hP : va_P (dC, dI) vwCl [(h0, .inr (9, [.ref tp, .int 12, .ref tok, .ref sp, .ref rdr, .int 0, .int (-1), .ref scn, .ref fct, .ref rnr, .ref trl, .ref mnd, .ref rrw])), (tp, .inl (cB, 1200, .inl f_163))] H := hP
  have hD : va_D A [(h0, .inr (9, [.ref tp, .int 12, .ref tok, .ref sp, .ref rdr, .int 0, .int (-1), .ref scn, .ref fct, .ref rnr, .ref trl, .ref mnd, .ref rrw])), (tp, .inl (cB, 1200, .inl f_163))] := hD
  refine lv_iinc (v := (-8)) (lv' := [(2, .int (-8)), (0, .ref h0), (1, .int n)]) hx hb dX10_putNumber_49 hl (k := 0) rfl (by decide) (by decide) rfl (fun ls hl => ?_)
  refine lv_goto (tgt := 3) hx hb dX10_putNumber_52 (by decide) ?_
  refine lv_iload_n hx hb dX10_putNumber_3 rfl (lv_at hl 0 rfl) ?_
  refine lv_if_lt (tgt := 55) hx hb dX10_putNumber_4 (by decide) (fun _ => ?_) (fun c9 => absurd (by decide) c9)
  have hP9 := hP.sub (ws' := [(h0, .inr (9, [.ref tp, .int 12, .ref tok, .ref sp, .ref rdr, .int 0, .int (-1), .ref scn, .ref fct, .ref rnr, .ref trl, .ref mnd, .ref rrw])), (tp, .inl (cB, 1200, .inl f_163))]) [0, 1] rfl
  have hD9 := hD.sub (ws' := [(h0, .inr (9, [.ref tp, .int 12, .ref tok, .ref sp, .ref rdr, .int 0, .int (-1), .ref scn, .ref fct, .ref rnr, .ref trl, .ref mnd, .ref rrw])), (tp, .inl (cB, 1200, .inl f_163))]) [0, 1] (by decide) rfl
  exact W.vret hx hb hr (fun t ht hW => ⟨⟨(), rfl, trivial, f_163, by rw [ht]; exact hP9, hD9⟩, hS.F ht⟩) hS.2.2 dX10_putNumber_55

set_option maxHeartbeats 4000000 in
set_option maxRecDepth 100000 in
theorem c_putNumber12 (l : Launch) (dC : Nat → ClassId) (dI : Nat → Nat → Nat) (cI cB cL cZ : ClassId) (h0 : Nat) (tp : Nat) (tok : Nat) (sp : Nat) (rdr : Nat) (scn : Nat) (fct : Nat) (rnr : Nat) (trl : Nat) (mnd : Nat) (rrw : Nat) (n : Int32) (f : Nat → Int32) (sz : Nat)  : Met l yX10_putNumber wsX10_putNumber ({ frames := 0, cells := 0, slots := 0, locals := 0 }) (cP (dC, dI) (kTy cI cB cL cZ) [.ref h0, .int n] [(h0, .inr (9, [.ref tp, .int 12, .ref tok, .ref sp, .ref rdr, .int 0, .int (-1), .ref scn, .ref fct, .ref rnr, .ref trl, .ref mnd, .ref rrw])), (tp, .inl (cB, 1200, .inl f))] sz) (va_Qv (fun _ : Unit => True) (fun (_ : Unit) (t : State) => ∃ fz0 : Nat → Int32, va_P (dC, dI) vwCl [(h0, .inr (9, [.ref tp, .int 16, .ref tok, .ref sp, .ref rdr, .int 0, .int (-1), .ref scn, .ref fct, .ref rnr, .ref trl, .ref mnd, .ref rrw])), (tp, .inl (cB, 1200, .inl fz0))] t.heap ∧ va_D (va_A [(h0, .inr (9, [.ref tp, .int 12, .ref tok, .ref sp, .ref rdr, .int 0, .int (-1), .ref scn, .ref fct, .ref rnr, .ref trl, .ref mnd, .ref rrw])), (tp, .inl (cB, 1200, .inl f))] sz) [(h0, .inr (9, [.ref tp, .int 16, .ref tok, .ref sp, .ref rdr, .int 0, .int (-1), .ref scn, .ref fct, .ref rnr, .ref trl, .ref mnd, .ref rrw])), (tp, .inl (cB, 1200, .inl fz0))]) (va_A [(h0, .inr (9, [.ref tp, .int 12, .ref tok, .ref sp, .ref rdr, .int 0, .int (-1), .ref scn, .ref fct, .ref rnr, .ref trl, .ref mnd, .ref rrw])), (tp, .inl (cB, 1200, .inl f))] sz)) 0 0 (va_A [(h0, .inr (9, [.ref tp, .int 12, .ref tok, .ref sp, .ref rdr, .int 0, .int (-1), .ref scn, .ref fct, .ref rnr, .ref trl, .ref mnd, .ref rrw])), (tp, .inl (cB, 1200, .inl f))] sz) := by
  refine Met.ofW (cc := cX10_putNumber) (maxL := 3) (ret := none) (by decide) rfl ?_
  intro p e s m args below meth c s₁ B hml hv
  obtain ⟨rfl, hsz, hP, hK, hD0, hN⟩ := hv
  have hx := B.exec
  have hb := B.bytes
  have hr := B.returns
  have hts := atoms_spec (ws := wsX10_putNumber) B.pre
  have hown : s.vm.findClass RX10 = some m.cls := findClass_of_methodNamed B.named
  have hlocks := B.notSynchronized
  subst hsz
  have hD := hD0.self (sz := s.heap.size)
  generalize hAe : va_A [(h0, .inr (9, [.ref tp, .int 12, .ref tok, .ref sp, .ref rdr, .int 0, .int (-1), .ref scn, .ref fct, .ref rnr, .ref trl, .ref mnd, .ref rrw])), (tp, .inl (cB, 1200, .inl f))] s.heap.size = A at hD ⊢
  have hA : ∀ q : Nat, s.heap.size ≤ q → A q := fun q h => by rw [← hAe]; exact Or.inr h
  have hl := lv_entry ([.ref h0, .int n]) (n := 3) (Nat.le_of_ble_eq_true rfl)
  rw [lg_entry_eq]
  generalize (lg_sl ([.ref h0, .int n]) ++ List.replicate (3 - (lg_sl ([.ref h0, .int n])).length) Slot.unset).toArray = ls at hl ⊢
  have hl : lv_has ls 3 [(0, .ref h0), (1, .int n)] := hl
  refine k_H (A := A) hP (fun H hP hS => ?_)
  have hP : va_P (dC, dI) vwCl [(h0, .inr (9, [.ref tp, .int 12, .ref tok, .ref sp, .ref rdr, .int 0, .int (-1), .ref scn, .ref fct, .ref rnr, .ref trl, .ref mnd, .ref rrw])), (tp, .inl (cB, 1200, .inl f))] H := hP
  have hD : va_D A [(h0, .inr (9, [.ref tp, .int 12, .ref tok, .ref sp, .ref rdr, .int 0, .int (-1), .ref scn, .ref fct, .ref rnr, .ref trl, .ref mnd, .ref rrw])), (tp, .inl (cB, 1200, .inl f))] := hD
  refine lv_bipush (v := 24) hx hb dX10_putNumber_0 (by decide) ?_
  refine lv_istore_n (lv' := [(2, .int 24), (0, .ref h0), (1, .int n)]) hx hb dX10_putNumber_2 rfl hl (by decide) rfl (fun ls hl => ?_)
  refine lv_iload_n hx hb dX10_putNumber_3 rfl (lv_at hl 0 rfl) ?_
  refine lv_if_lt (tgt := 55) hx hb dX10_putNumber_4 (by decide) (fun c9 => absurd c9 (by decide)) (fun _ => ?_)
  refine lv_aload_n hx hb dX10_putNumber_7 rfl (lv_at hl 1 rfl) ?_
  refine va_get (D := (dC, dI)) (ci := 9) (v := .int 12) (C := RX10) (T := TX10) (N := 13) hx hb hts iwwsX10_putNumber_10 hown hK hP 0 rfl rfl 1 (by decide) (hts (.fieldLink RX10 87 "NothingJudge" "taped" "I") fwwsX10_putNumber_87) (fun _ h9 => h9) rfl dX10_putNumber_8 ?_
  refine lv_if_lt (tgt := 49) hx hb dX10_putNumber_11 (by decide) (fun c9 => absurd c9 (by decide)) (fun _ => ?_)
  refine lv_aload_n hx hb dX10_putNumber_14 rfl (lv_at hl 1 rfl) ?_
  refine va_get (D := (dC, dI)) (ci := 9) (v := .int 12) (C := RX10) (T := TX10) (N := 13) hx hb hts iwwsX10_putNumber_10 hown hK hP 0 rfl rfl 1 (by decide) (hts (.fieldLink RX10 87 "NothingJudge" "taped" "I") fwwsX10_putNumber_87) (fun _ h9 => h9) rfl dX10_putNumber_15 ?_
  refine lv_aload_n hx hb dX10_putNumber_18 rfl (lv_at hl 1 rfl) ?_
  refine va_get (D := (dC, dI)) (ci := 9) (v := .ref tp) (C := RX10) (T := TX10) (N := 13) hx hb hts iwwsX10_putNumber_10 hown hK hP 0 rfl rfl 0 (by decide) (hts (.fieldLink RX10 9 "NothingJudge" "tape" "[B") fwwsX10_putNumber_9) (fun _ h9 => h9) rfl dX10_putNumber_19 ?_
  refine va_alen hx hb hK hP 1 1 rfl rfl (v := 1200) (by decide) dX10_putNumber_22 ?_
  refine lv_icmp_ge (tgt := 49) hx hb dX10_putNumber_23 (by decide) (fun c9 => absurd c9 (by decide)) (fun _ => ?_)
  refine lv_aload_n hx hb dX10_putNumber_26 rfl (lv_at hl 1 rfl) ?_
  refine va_get (D := (dC, dI)) (ci := 9) (v := .ref tp) (C := RX10) (T := TX10) (N := 13) hx hb hts iwwsX10_putNumber_10 hown hK hP 0 rfl rfl 0 (by decide) (hts (.fieldLink RX10 9 "NothingJudge" "tape" "[B") fwwsX10_putNumber_9) (fun _ h9 => h9) rfl dX10_putNumber_27 ?_
  refine lv_aload_n hx hb dX10_putNumber_30 rfl (lv_at hl 1 rfl) ?_
  refine va_get (D := (dC, dI)) (ci := 9) (v := .int 12) (C := RX10) (T := TX10) (N := 13) hx hb hts iwwsX10_putNumber_10 hown hK hP 0 rfl rfl 1 (by decide) (hts (.fieldLink RX10 87 "NothingJudge" "taped" "I") fwwsX10_putNumber_87) (fun _ h9 => h9) rfl dX10_putNumber_31 ?_
  refine lv_iload_n hx hb dX10_putNumber_34 rfl (lv_at hl 2 rfl) ?_
  refine lv_iload_n hx hb dX10_putNumber_35 rfl (lv_at hl 0 rfl) ?_
  refine lv_ishr hx hb dX10_putNumber_36 ?_
  refine lv_topi (fun v_165 ev_165 => ?_)
  refine lv_i2b (v := v_165.toInt8.toInt32) hx hb dX10_putNumber_37 rfl ?_
  refine lv_topi (fun v_166 ev_166 => ?_)
  refine va_bast hx hb hK hP hD hS 1 1 rfl rfl (by unfold vp_in; decide) dX10_putNumber_38 (fun H locs hP hD hS => ?_)
  obtain ⟨f_167, ef_167⟩ : ∃ z, z = upd f (12 : Int32).toNatClampNeg (vp_nar .byte v_166) := ⟨_, rfl⟩
  have hP : va_P (dC, dI) vwCl [(h0, .inr (9, [.ref tp, .int 12, .ref tok, .ref sp, .ref rdr, .int 0, .int (-1), .ref scn, .ref fct, .ref rnr, .ref trl, .ref mnd, .ref rrw])), (tp, .inl (cB, 1200, .inl f_167))] H := by rw [ef_167]; exact hP
  have hD : va_D A [(h0, .inr (9, [.ref tp, .int 12, .ref tok, .ref sp, .ref rdr, .int 0, .int (-1), .ref scn, .ref fct, .ref rnr, .ref trl, .ref mnd, .ref rrw])), (tp, .inl (cB, 1200, .inl f_167))] := by rw [ef_167]; exact hD
  refine lv_aload_n hx hb dX10_putNumber_39 rfl (lv_at hl 1 rfl) ?_
  refine lv_dup hx hb dX10_putNumber_40 rfl ?_
  refine va_get (D := (dC, dI)) (ci := 9) (v := .int 12) (C := RX10) (T := TX10) (N := 13) hx hb hts iwwsX10_putNumber_10 hown hK hP 0 rfl rfl 1 (by decide) (hts (.fieldLink RX10 87 "NothingJudge" "taped" "I") fwwsX10_putNumber_87) (fun _ h9 => h9) rfl dX10_putNumber_41 ?_
  refine lv_iconst (v := 1) hx hb dX10_putNumber_44 (by decide) ?_
  refine lv_iadd hx hb dX10_putNumber_45 ?_
  refine lv_topi (fun y_168 ey_168 => ?_)
  obtain rfl : y_168 = 13 := ey_168.trans (by decide)
  refine va_put (D := (dC, dI)) (ci := 9) (v := .int 13) (ty := .int) (C := RX10) (T := TX10) (N := 13) hx hb hts iwwsX10_putNumber_10 tyX10 tyX10_ok nmX10 hown hK hP hD hS 0 rfl rfl 1 (by decide) (hts (.fieldLink RX10 87 "NothingJudge" "taped" "I") fwwsX10_putNumber_87) (fun _ h9 => h9) rfl (by decide +kernel) rfl rfl (Nat.le_of_ble_eq_true rfl) dX10_putNumber_46 (fun H locs hP hD hS => ?_)
  have hP : va_P (dC, dI) vwCl [(h0, .inr (9, [.ref tp, .int 13, .ref tok, .ref sp, .ref rdr, .int 0, .int (-1), .ref scn, .ref fct, .ref rnr, .ref trl, .ref mnd, .ref rrw])), (tp, .inl (cB, 1200, .inl f_167))] H := hP
  have hD : va_D A [(h0, .inr (9, [.ref tp, .int 13, .ref tok, .ref sp, .ref rdr, .int 0, .int (-1), .ref scn, .ref fct, .ref rnr, .ref trl, .ref mnd, .ref rrw])), (tp, .inl (cB, 1200, .inl f_167))] := hD
  refine lv_iinc (v := 16) (lv' := [(2, .int 16), (0, .ref h0), (1, .int n)]) hx hb dX10_putNumber_49 hl (k := 0) rfl (by decide) (by decide) rfl (fun ls hl => ?_)
  refine lv_goto (tgt := 3) hx hb dX10_putNumber_52 (by decide) ?_
  refine lv_iload_n hx hb dX10_putNumber_3 rfl (lv_at hl 0 rfl) ?_
  refine lv_if_lt (tgt := 55) hx hb dX10_putNumber_4 (by decide) (fun c9 => absurd c9 (by decide)) (fun _ => ?_)
  refine lv_aload_n hx hb dX10_putNumber_7 rfl (lv_at hl 1 rfl) ?_
  refine va_get (D := (dC, dI)) (ci := 9) (v := .int 13) (C := RX10) (T := TX10) (N := 13) hx hb hts iwwsX10_putNumber_10 hown hK hP 0 rfl rfl 1 (by decide) (hts (.fieldLink RX10 87 "NothingJudge" "taped" "I") fwwsX10_putNumber_87) (fun _ h9 => h9) rfl dX10_putNumber_8 ?_
  refine lv_if_lt (tgt := 49) hx hb dX10_putNumber_11 (by decide) (fun c9 => absurd c9 (by decide)) (fun _ => ?_)
  refine lv_aload_n hx hb dX10_putNumber_14 rfl (lv_at hl 1 rfl) ?_
  refine va_get (D := (dC, dI)) (ci := 9) (v := .int 13) (C := RX10) (T := TX10) (N := 13) hx hb hts iwwsX10_putNumber_10 hown hK hP 0 rfl rfl 1 (by decide) (hts (.fieldLink RX10 87 "NothingJudge" "taped" "I") fwwsX10_putNumber_87) (fun _ h9 => h9) rfl dX10_putNumber_15 ?_
  refine lv_aload_n hx hb dX10_putNumber_18 rfl (lv_at hl 1 rfl) ?_
  refine va_get (D := (dC, dI)) (ci := 9) (v := .ref tp) (C := RX10) (T := TX10) (N := 13) hx hb hts iwwsX10_putNumber_10 hown hK hP 0 rfl rfl 0 (by decide) (hts (.fieldLink RX10 9 "NothingJudge" "tape" "[B") fwwsX10_putNumber_9) (fun _ h9 => h9) rfl dX10_putNumber_19 ?_
  refine va_alen hx hb hK hP 1 1 rfl rfl (v := 1200) (by decide) dX10_putNumber_22 ?_
  refine lv_icmp_ge (tgt := 49) hx hb dX10_putNumber_23 (by decide) (fun c9 => absurd c9 (by decide)) (fun _ => ?_)
  refine lv_aload_n hx hb dX10_putNumber_26 rfl (lv_at hl 1 rfl) ?_
  refine va_get (D := (dC, dI)) (ci := 9) (v := .ref tp) (C := RX10) (T := TX10) (N := 13) hx hb hts iwwsX10_putNumber_10 hown hK hP 0 rfl rfl 0 (by decide) (hts (.fieldLink RX10 9 "NothingJudge" "tape" "[B") fwwsX10_putNumber_9) (fun _ h9 => h9) rfl dX10_putNumber_27 ?_
  refine lv_aload_n hx hb dX10_putNumber_30 rfl (lv_at hl 1 rfl) ?_
  refine va_get (D := (dC, dI)) (ci := 9) (v := .int 13) (C := RX10) (T := TX10) (N := 13) hx hb hts iwwsX10_putNumber_10 hown hK hP 0 rfl rfl 1 (by decide) (hts (.fieldLink RX10 87 "NothingJudge" "taped" "I") fwwsX10_putNumber_87) (fun _ h9 => h9) rfl dX10_putNumber_31 ?_
  refine lv_iload_n hx hb dX10_putNumber_34 rfl (lv_at hl 2 rfl) ?_
  refine lv_iload_n hx hb dX10_putNumber_35 rfl (lv_at hl 0 rfl) ?_
  refine lv_ishr hx hb dX10_putNumber_36 ?_
  refine lv_topi (fun v_169 ev_169 => ?_)
  refine lv_i2b (v := v_169.toInt8.toInt32) hx hb dX10_putNumber_37 rfl ?_
  refine lv_topi (fun v_170 ev_170 => ?_)
  refine va_bast hx hb hK hP hD hS 1 1 rfl rfl (by unfold vp_in; decide) dX10_putNumber_38 (fun H locs hP hD hS => ?_)
  obtain ⟨f_171, ef_171⟩ : ∃ z, z = upd f_167 (13 : Int32).toNatClampNeg (vp_nar .byte v_170) := ⟨_, rfl⟩
  have hP : va_P (dC, dI) vwCl [(h0, .inr (9, [.ref tp, .int 13, .ref tok, .ref sp, .ref rdr, .int 0, .int (-1), .ref scn, .ref fct, .ref rnr, .ref trl, .ref mnd, .ref rrw])), (tp, .inl (cB, 1200, .inl f_171))] H := by rw [ef_171]; exact hP
  have hD : va_D A [(h0, .inr (9, [.ref tp, .int 13, .ref tok, .ref sp, .ref rdr, .int 0, .int (-1), .ref scn, .ref fct, .ref rnr, .ref trl, .ref mnd, .ref rrw])), (tp, .inl (cB, 1200, .inl f_171))] := by rw [ef_171]; exact hD
  refine lv_aload_n hx hb dX10_putNumber_39 rfl (lv_at hl 1 rfl) ?_
  refine lv_dup hx hb dX10_putNumber_40 rfl ?_
  refine va_get (D := (dC, dI)) (ci := 9) (v := .int 13) (C := RX10) (T := TX10) (N := 13) hx hb hts iwwsX10_putNumber_10 hown hK hP 0 rfl rfl 1 (by decide) (hts (.fieldLink RX10 87 "NothingJudge" "taped" "I") fwwsX10_putNumber_87) (fun _ h9 => h9) rfl dX10_putNumber_41 ?_
  refine lv_iconst (v := 1) hx hb dX10_putNumber_44 (by decide) ?_
  refine lv_iadd hx hb dX10_putNumber_45 ?_
  refine lv_topi (fun y_172 ey_172 => ?_)
  obtain rfl : y_172 = 14 := ey_172.trans (by decide)
  refine va_put (D := (dC, dI)) (ci := 9) (v := .int 14) (ty := .int) (C := RX10) (T := TX10) (N := 13) hx hb hts iwwsX10_putNumber_10 tyX10 tyX10_ok nmX10 hown hK hP hD hS 0 rfl rfl 1 (by decide) (hts (.fieldLink RX10 87 "NothingJudge" "taped" "I") fwwsX10_putNumber_87) (fun _ h9 => h9) rfl (by decide +kernel) rfl rfl (Nat.le_of_ble_eq_true rfl) dX10_putNumber_46 (fun H locs hP hD hS => ?_)
  have hP : va_P (dC, dI) vwCl [(h0, .inr (9, [.ref tp, .int 14, .ref tok, .ref sp, .ref rdr, .int 0, .int (-1), .ref scn, .ref fct, .ref rnr, .ref trl, .ref mnd, .ref rrw])), (tp, .inl (cB, 1200, .inl f_171))] H := hP
  have hD : va_D A [(h0, .inr (9, [.ref tp, .int 14, .ref tok, .ref sp, .ref rdr, .int 0, .int (-1), .ref scn, .ref fct, .ref rnr, .ref trl, .ref mnd, .ref rrw])), (tp, .inl (cB, 1200, .inl f_171))] := hD
  refine lv_iinc (v := 8) (lv' := [(2, .int 8), (0, .ref h0), (1, .int n)]) hx hb dX10_putNumber_49 hl (k := 0) rfl (by decide) (by decide) rfl (fun ls hl => ?_)
  refine lv_goto (tgt := 3) hx hb dX10_putNumber_52 (by decide) ?_
  refine lv_iload_n hx hb dX10_putNumber_3 rfl (lv_at hl 0 rfl) ?_
  refine lv_if_lt (tgt := 55) hx hb dX10_putNumber_4 (by decide) (fun c9 => absurd c9 (by decide)) (fun _ => ?_)
  refine lv_aload_n hx hb dX10_putNumber_7 rfl (lv_at hl 1 rfl) ?_
  refine va_get (D := (dC, dI)) (ci := 9) (v := .int 14) (C := RX10) (T := TX10) (N := 13) hx hb hts iwwsX10_putNumber_10 hown hK hP 0 rfl rfl 1 (by decide) (hts (.fieldLink RX10 87 "NothingJudge" "taped" "I") fwwsX10_putNumber_87) (fun _ h9 => h9) rfl dX10_putNumber_8 ?_
  refine lv_if_lt (tgt := 49) hx hb dX10_putNumber_11 (by decide) (fun c9 => absurd c9 (by decide)) (fun _ => ?_)
  refine lv_aload_n hx hb dX10_putNumber_14 rfl (lv_at hl 1 rfl) ?_
  refine va_get (D := (dC, dI)) (ci := 9) (v := .int 14) (C := RX10) (T := TX10) (N := 13) hx hb hts iwwsX10_putNumber_10 hown hK hP 0 rfl rfl 1 (by decide) (hts (.fieldLink RX10 87 "NothingJudge" "taped" "I") fwwsX10_putNumber_87) (fun _ h9 => h9) rfl dX10_putNumber_15 ?_
  refine lv_aload_n hx hb dX10_putNumber_18 rfl (lv_at hl 1 rfl) ?_
  refine va_get (D := (dC, dI)) (ci := 9) (v := .ref tp) (C := RX10) (T := TX10) (N := 13) hx hb hts iwwsX10_putNumber_10 hown hK hP 0 rfl rfl 0 (by decide) (hts (.fieldLink RX10 9 "NothingJudge" "tape" "[B") fwwsX10_putNumber_9) (fun _ h9 => h9) rfl dX10_putNumber_19 ?_
  refine va_alen hx hb hK hP 1 1 rfl rfl (v := 1200) (by decide) dX10_putNumber_22 ?_
  refine lv_icmp_ge (tgt := 49) hx hb dX10_putNumber_23 (by decide) (fun c9 => absurd c9 (by decide)) (fun _ => ?_)
  refine lv_aload_n hx hb dX10_putNumber_26 rfl (lv_at hl 1 rfl) ?_
  refine va_get (D := (dC, dI)) (ci := 9) (v := .ref tp) (C := RX10) (T := TX10) (N := 13) hx hb hts iwwsX10_putNumber_10 hown hK hP 0 rfl rfl 0 (by decide) (hts (.fieldLink RX10 9 "NothingJudge" "tape" "[B") fwwsX10_putNumber_9) (fun _ h9 => h9) rfl dX10_putNumber_27 ?_
  refine lv_aload_n hx hb dX10_putNumber_30 rfl (lv_at hl 1 rfl) ?_
  refine va_get (D := (dC, dI)) (ci := 9) (v := .int 14) (C := RX10) (T := TX10) (N := 13) hx hb hts iwwsX10_putNumber_10 hown hK hP 0 rfl rfl 1 (by decide) (hts (.fieldLink RX10 87 "NothingJudge" "taped" "I") fwwsX10_putNumber_87) (fun _ h9 => h9) rfl dX10_putNumber_31 ?_
  refine lv_iload_n hx hb dX10_putNumber_34 rfl (lv_at hl 2 rfl) ?_
  refine lv_iload_n hx hb dX10_putNumber_35 rfl (lv_at hl 0 rfl) ?_
  refine lv_ishr hx hb dX10_putNumber_36 ?_
  refine lv_topi (fun v_173 ev_173 => ?_)
  refine lv_i2b (v := v_173.toInt8.toInt32) hx hb dX10_putNumber_37 rfl ?_
  refine lv_topi (fun v_174 ev_174 => ?_)
  refine va_bast hx hb hK hP hD hS 1 1 rfl rfl (by unfold vp_in; decide) dX10_putNumber_38 (fun H locs hP hD hS => ?_)
  obtain ⟨f_175, ef_175⟩ : ∃ z, z = upd f_171 (14 : Int32).toNatClampNeg (vp_nar .byte v_174) := ⟨_, rfl⟩
  have hP : va_P (dC, dI) vwCl [(h0, .inr (9, [.ref tp, .int 14, .ref tok, .ref sp, .ref rdr, .int 0, .int (-1), .ref scn, .ref fct, .ref rnr, .ref trl, .ref mnd, .ref rrw])), (tp, .inl (cB, 1200, .inl f_175))] H := by rw [ef_175]; exact hP
  have hD : va_D A [(h0, .inr (9, [.ref tp, .int 14, .ref tok, .ref sp, .ref rdr, .int 0, .int (-1), .ref scn, .ref fct, .ref rnr, .ref trl, .ref mnd, .ref rrw])), (tp, .inl (cB, 1200, .inl f_175))] := by rw [ef_175]; exact hD
  refine lv_aload_n hx hb dX10_putNumber_39 rfl (lv_at hl 1 rfl) ?_
  refine lv_dup hx hb dX10_putNumber_40 rfl ?_
  refine va_get (D := (dC, dI)) (ci := 9) (v := .int 14) (C := RX10) (T := TX10) (N := 13) hx hb hts iwwsX10_putNumber_10 hown hK hP 0 rfl rfl 1 (by decide) (hts (.fieldLink RX10 87 "NothingJudge" "taped" "I") fwwsX10_putNumber_87) (fun _ h9 => h9) rfl dX10_putNumber_41 ?_
  refine lv_iconst (v := 1) hx hb dX10_putNumber_44 (by decide) ?_
  refine lv_iadd hx hb dX10_putNumber_45 ?_
  refine lv_topi (fun y_176 ey_176 => ?_)
  obtain rfl : y_176 = 15 := ey_176.trans (by decide)
  refine va_put (D := (dC, dI)) (ci := 9) (v := .int 15) (ty := .int) (C := RX10) (T := TX10) (N := 13) hx hb hts iwwsX10_putNumber_10 tyX10 tyX10_ok nmX10 hown hK hP hD hS 0 rfl rfl 1 (by decide) (hts (.fieldLink RX10 87 "NothingJudge" "taped" "I") fwwsX10_putNumber_87) (fun _ h9 => h9) rfl (by decide +kernel) rfl rfl (Nat.le_of_ble_eq_true rfl) dX10_putNumber_46 (fun H locs hP hD hS => ?_)
  have hP : va_P (dC, dI) vwCl [(h0, .inr (9, [.ref tp, .int 15, .ref tok, .ref sp, .ref rdr, .int 0, .int (-1), .ref scn, .ref fct, .ref rnr, .ref trl, .ref mnd, .ref rrw])), (tp, .inl (cB, 1200, .inl f_175))] H := hP
  have hD : va_D A [(h0, .inr (9, [.ref tp, .int 15, .ref tok, .ref sp, .ref rdr, .int 0, .int (-1), .ref scn, .ref fct, .ref rnr, .ref trl, .ref mnd, .ref rrw])), (tp, .inl (cB, 1200, .inl f_175))] := hD
  refine lv_iinc (v := 0) (lv' := [(2, .int 0), (0, .ref h0), (1, .int n)]) hx hb dX10_putNumber_49 hl (k := 0) rfl (by decide) (by decide) rfl (fun ls hl => ?_)
  refine lv_goto (tgt := 3) hx hb dX10_putNumber_52 (by decide) ?_
  refine lv_iload_n hx hb dX10_putNumber_3 rfl (lv_at hl 0 rfl) ?_
  refine lv_if_lt (tgt := 55) hx hb dX10_putNumber_4 (by decide) (fun c9 => absurd c9 (by decide)) (fun _ => ?_)
  refine lv_aload_n hx hb dX10_putNumber_7 rfl (lv_at hl 1 rfl) ?_
  refine va_get (D := (dC, dI)) (ci := 9) (v := .int 15) (C := RX10) (T := TX10) (N := 13) hx hb hts iwwsX10_putNumber_10 hown hK hP 0 rfl rfl 1 (by decide) (hts (.fieldLink RX10 87 "NothingJudge" "taped" "I") fwwsX10_putNumber_87) (fun _ h9 => h9) rfl dX10_putNumber_8 ?_
  refine lv_if_lt (tgt := 49) hx hb dX10_putNumber_11 (by decide) (fun c9 => absurd c9 (by decide)) (fun _ => ?_)
  refine lv_aload_n hx hb dX10_putNumber_14 rfl (lv_at hl 1 rfl) ?_
  refine va_get (D := (dC, dI)) (ci := 9) (v := .int 15) (C := RX10) (T := TX10) (N := 13) hx hb hts iwwsX10_putNumber_10 hown hK hP 0 rfl rfl 1 (by decide) (hts (.fieldLink RX10 87 "NothingJudge" "taped" "I") fwwsX10_putNumber_87) (fun _ h9 => h9) rfl dX10_putNumber_15 ?_
  refine lv_aload_n hx hb dX10_putNumber_18 rfl (lv_at hl 1 rfl) ?_
  refine va_get (D := (dC, dI)) (ci := 9) (v := .ref tp) (C := RX10) (T := TX10) (N := 13) hx hb hts iwwsX10_putNumber_10 hown hK hP 0 rfl rfl 0 (by decide) (hts (.fieldLink RX10 9 "NothingJudge" "tape" "[B") fwwsX10_putNumber_9) (fun _ h9 => h9) rfl dX10_putNumber_19 ?_
  refine va_alen hx hb hK hP 1 1 rfl rfl (v := 1200) (by decide) dX10_putNumber_22 ?_
  refine lv_icmp_ge (tgt := 49) hx hb dX10_putNumber_23 (by decide) (fun c9 => absurd c9 (by decide)) (fun _ => ?_)
  refine lv_aload_n hx hb dX10_putNumber_26 rfl (lv_at hl 1 rfl) ?_
  refine va_get (D := (dC, dI)) (ci := 9) (v := .ref tp) (C := RX10) (T := TX10) (N := 13) hx hb hts iwwsX10_putNumber_10 hown hK hP 0 rfl rfl 0 (by decide) (hts (.fieldLink RX10 9 "NothingJudge" "tape" "[B") fwwsX10_putNumber_9) (fun _ h9 => h9) rfl dX10_putNumber_27 ?_
  refine lv_aload_n hx hb dX10_putNumber_30 rfl (lv_at hl 1 rfl) ?_
  refine va_get (D := (dC, dI)) (ci := 9) (v := .int 15) (C := RX10) (T := TX10) (N := 13) hx hb hts iwwsX10_putNumber_10 hown hK hP 0 rfl rfl 1 (by decide) (hts (.fieldLink RX10 87 "NothingJudge" "taped" "I") fwwsX10_putNumber_87) (fun _ h9 => h9) rfl dX10_putNumber_31 ?_
  refine lv_iload_n hx hb dX10_putNumber_34 rfl (lv_at hl 2 rfl) ?_
  refine lv_iload_n hx hb dX10_putNumber_35 rfl (lv_at hl 0 rfl) ?_
  refine lv_ishr hx hb dX10_putNumber_36 ?_
  refine lv_topi (fun v_177 ev_177 => ?_)
  refine lv_i2b (v := v_177.toInt8.toInt32) hx hb dX10_putNumber_37 rfl ?_
  refine lv_topi (fun v_178 ev_178 => ?_)
  refine va_bast hx hb hK hP hD hS 1 1 rfl rfl (by unfold vp_in; decide) dX10_putNumber_38 (fun H locs hP hD hS => ?_)
  obtain ⟨f_179, ef_179⟩ : ∃ z, z = upd f_175 (15 : Int32).toNatClampNeg (vp_nar .byte v_178) := ⟨_, rfl⟩
  have hP : va_P (dC, dI) vwCl [(h0, .inr (9, [.ref tp, .int 15, .ref tok, .ref sp, .ref rdr, .int 0, .int (-1), .ref scn, .ref fct, .ref rnr, .ref trl, .ref mnd, .ref rrw])), (tp, .inl (cB, 1200, .inl f_179))] H := by rw [ef_179]; exact hP
  have hD : va_D A [(h0, .inr (9, [.ref tp, .int 15, .ref tok, .ref sp, .ref rdr, .int 0, .int (-1), .ref scn, .ref fct, .ref rnr, .ref trl, .ref mnd, .ref rrw])), (tp, .inl (cB, 1200, .inl f_179))] := by rw [ef_179]; exact hD
  refine lv_aload_n hx hb dX10_putNumber_39 rfl (lv_at hl 1 rfl) ?_
  refine lv_dup hx hb dX10_putNumber_40 rfl ?_
  refine va_get (D := (dC, dI)) (ci := 9) (v := .int 15) (C := RX10) (T := TX10) (N := 13) hx hb hts iwwsX10_putNumber_10 hown hK hP 0 rfl rfl 1 (by decide) (hts (.fieldLink RX10 87 "NothingJudge" "taped" "I") fwwsX10_putNumber_87) (fun _ h9 => h9) rfl dX10_putNumber_41 ?_
  refine lv_iconst (v := 1) hx hb dX10_putNumber_44 (by decide) ?_
  refine lv_iadd hx hb dX10_putNumber_45 ?_
  refine lv_topi (fun y_180 ey_180 => ?_)
  obtain rfl : y_180 = 16 := ey_180.trans (by decide)
  refine va_put (D := (dC, dI)) (ci := 9) (v := .int 16) (ty := .int) (C := RX10) (T := TX10) (N := 13) hx hb hts iwwsX10_putNumber_10 tyX10 tyX10_ok nmX10 hown hK hP hD hS 0 rfl rfl 1 (by decide) (hts (.fieldLink RX10 87 "NothingJudge" "taped" "I") fwwsX10_putNumber_87) (fun _ h9 => h9) rfl (by decide +kernel) rfl rfl (Nat.le_of_ble_eq_true rfl) dX10_putNumber_46 (fun H locs hP hD hS => ?_)
  have hP : va_P (dC, dI) vwCl [(h0, .inr (9, [.ref tp, .int 16, .ref tok, .ref sp, .ref rdr, .int 0, .int (-1), .ref scn, .ref fct, .ref rnr, .ref trl, .ref mnd, .ref rrw])), (tp, .inl (cB, 1200, .inl f_179))] H := hP
  have hD : va_D A [(h0, .inr (9, [.ref tp, .int 16, .ref tok, .ref sp, .ref rdr, .int 0, .int (-1), .ref scn, .ref fct, .ref rnr, .ref trl, .ref mnd, .ref rrw])), (tp, .inl (cB, 1200, .inl f_179))] := hD
  refine lv_iinc (v := (-8)) (lv' := [(2, .int (-8)), (0, .ref h0), (1, .int n)]) hx hb dX10_putNumber_49 hl (k := 0) rfl (by decide) (by decide) rfl (fun ls hl => ?_)
  refine lv_goto (tgt := 3) hx hb dX10_putNumber_52 (by decide) ?_
  refine lv_iload_n hx hb dX10_putNumber_3 rfl (lv_at hl 0 rfl) ?_
  refine lv_if_lt (tgt := 55) hx hb dX10_putNumber_4 (by decide) (fun _ => ?_) (fun c9 => absurd (by decide) c9)
  have hP9 := hP.sub (ws' := [(h0, .inr (9, [.ref tp, .int 16, .ref tok, .ref sp, .ref rdr, .int 0, .int (-1), .ref scn, .ref fct, .ref rnr, .ref trl, .ref mnd, .ref rrw])), (tp, .inl (cB, 1200, .inl f_179))]) [0, 1] rfl
  have hD9 := hD.sub (ws' := [(h0, .inr (9, [.ref tp, .int 16, .ref tok, .ref sp, .ref rdr, .int 0, .int (-1), .ref scn, .ref fct, .ref rnr, .ref trl, .ref mnd, .ref rrw])), (tp, .inl (cB, 1200, .inl f_179))]) [0, 1] (by decide) rfl
  exact W.vret hx hb hr (fun t ht hW => ⟨⟨(), rfl, trivial, f_179, by rw [ht]; exact hP9, hD9⟩, hS.F ht⟩) hS.2.2 dX10_putNumber_55

set_option maxHeartbeats 4000000 in
set_option maxRecDepth 100000 in
theorem c_putNumber16 (l : Launch) (dC : Nat → ClassId) (dI : Nat → Nat → Nat) (cI cB cL cZ : ClassId) (h0 : Nat) (tp : Nat) (tok : Nat) (sp : Nat) (rdr : Nat) (scn : Nat) (fct : Nat) (rnr : Nat) (trl : Nat) (mnd : Nat) (rrw : Nat) (n : Int32) (f : Nat → Int32) (sz : Nat)  : Met l yX10_putNumber wsX10_putNumber ({ frames := 0, cells := 0, slots := 0, locals := 0 }) (cP (dC, dI) (kTy cI cB cL cZ) [.ref h0, .int n] [(h0, .inr (9, [.ref tp, .int 16, .ref tok, .ref sp, .ref rdr, .int 0, .int (-1), .ref scn, .ref fct, .ref rnr, .ref trl, .ref mnd, .ref rrw])), (tp, .inl (cB, 1200, .inl f))] sz) (va_Qv (fun _ : Unit => True) (fun (_ : Unit) (t : State) => ∃ fz0 : Nat → Int32, va_P (dC, dI) vwCl [(h0, .inr (9, [.ref tp, .int 20, .ref tok, .ref sp, .ref rdr, .int 0, .int (-1), .ref scn, .ref fct, .ref rnr, .ref trl, .ref mnd, .ref rrw])), (tp, .inl (cB, 1200, .inl fz0))] t.heap ∧ va_D (va_A [(h0, .inr (9, [.ref tp, .int 16, .ref tok, .ref sp, .ref rdr, .int 0, .int (-1), .ref scn, .ref fct, .ref rnr, .ref trl, .ref mnd, .ref rrw])), (tp, .inl (cB, 1200, .inl f))] sz) [(h0, .inr (9, [.ref tp, .int 20, .ref tok, .ref sp, .ref rdr, .int 0, .int (-1), .ref scn, .ref fct, .ref rnr, .ref trl, .ref mnd, .ref rrw])), (tp, .inl (cB, 1200, .inl fz0))]) (va_A [(h0, .inr (9, [.ref tp, .int 16, .ref tok, .ref sp, .ref rdr, .int 0, .int (-1), .ref scn, .ref fct, .ref rnr, .ref trl, .ref mnd, .ref rrw])), (tp, .inl (cB, 1200, .inl f))] sz)) 0 0 (va_A [(h0, .inr (9, [.ref tp, .int 16, .ref tok, .ref sp, .ref rdr, .int 0, .int (-1), .ref scn, .ref fct, .ref rnr, .ref trl, .ref mnd, .ref rrw])), (tp, .inl (cB, 1200, .inl f))] sz) := by
  refine Met.ofW (cc := cX10_putNumber) (maxL := 3) (ret := none) (by decide) rfl ?_
  intro p e s m args below meth c s₁ B hml hv
  obtain ⟨rfl, hsz, hP, hK, hD0, hN⟩ := hv
  have hx := B.exec
  have hb := B.bytes
  have hr := B.returns
  have hts := atoms_spec (ws := wsX10_putNumber) B.pre
  have hown : s.vm.findClass RX10 = some m.cls := findClass_of_methodNamed B.named
  have hlocks := B.notSynchronized
  subst hsz
  have hD := hD0.self (sz := s.heap.size)
  generalize hAe : va_A [(h0, .inr (9, [.ref tp, .int 16, .ref tok, .ref sp, .ref rdr, .int 0, .int (-1), .ref scn, .ref fct, .ref rnr, .ref trl, .ref mnd, .ref rrw])), (tp, .inl (cB, 1200, .inl f))] s.heap.size = A at hD ⊢
  have hA : ∀ q : Nat, s.heap.size ≤ q → A q := fun q h => by rw [← hAe]; exact Or.inr h
  have hl := lv_entry ([.ref h0, .int n]) (n := 3) (Nat.le_of_ble_eq_true rfl)
  rw [lg_entry_eq]
  generalize (lg_sl ([.ref h0, .int n]) ++ List.replicate (3 - (lg_sl ([.ref h0, .int n])).length) Slot.unset).toArray = ls at hl ⊢
  have hl : lv_has ls 3 [(0, .ref h0), (1, .int n)] := hl
  refine k_H (A := A) hP (fun H hP hS => ?_)
  have hP : va_P (dC, dI) vwCl [(h0, .inr (9, [.ref tp, .int 16, .ref tok, .ref sp, .ref rdr, .int 0, .int (-1), .ref scn, .ref fct, .ref rnr, .ref trl, .ref mnd, .ref rrw])), (tp, .inl (cB, 1200, .inl f))] H := hP
  have hD : va_D A [(h0, .inr (9, [.ref tp, .int 16, .ref tok, .ref sp, .ref rdr, .int 0, .int (-1), .ref scn, .ref fct, .ref rnr, .ref trl, .ref mnd, .ref rrw])), (tp, .inl (cB, 1200, .inl f))] := hD
  refine lv_bipush (v := 24) hx hb dX10_putNumber_0 (by decide) ?_
  refine lv_istore_n (lv' := [(2, .int 24), (0, .ref h0), (1, .int n)]) hx hb dX10_putNumber_2 rfl hl (by decide) rfl (fun ls hl => ?_)
  refine lv_iload_n hx hb dX10_putNumber_3 rfl (lv_at hl 0 rfl) ?_
  refine lv_if_lt (tgt := 55) hx hb dX10_putNumber_4 (by decide) (fun c9 => absurd c9 (by decide)) (fun _ => ?_)
  refine lv_aload_n hx hb dX10_putNumber_7 rfl (lv_at hl 1 rfl) ?_
  refine va_get (D := (dC, dI)) (ci := 9) (v := .int 16) (C := RX10) (T := TX10) (N := 13) hx hb hts iwwsX10_putNumber_10 hown hK hP 0 rfl rfl 1 (by decide) (hts (.fieldLink RX10 87 "NothingJudge" "taped" "I") fwwsX10_putNumber_87) (fun _ h9 => h9) rfl dX10_putNumber_8 ?_
  refine lv_if_lt (tgt := 49) hx hb dX10_putNumber_11 (by decide) (fun c9 => absurd c9 (by decide)) (fun _ => ?_)
  refine lv_aload_n hx hb dX10_putNumber_14 rfl (lv_at hl 1 rfl) ?_
  refine va_get (D := (dC, dI)) (ci := 9) (v := .int 16) (C := RX10) (T := TX10) (N := 13) hx hb hts iwwsX10_putNumber_10 hown hK hP 0 rfl rfl 1 (by decide) (hts (.fieldLink RX10 87 "NothingJudge" "taped" "I") fwwsX10_putNumber_87) (fun _ h9 => h9) rfl dX10_putNumber_15 ?_
  refine lv_aload_n hx hb dX10_putNumber_18 rfl (lv_at hl 1 rfl) ?_
  refine va_get (D := (dC, dI)) (ci := 9) (v := .ref tp) (C := RX10) (T := TX10) (N := 13) hx hb hts iwwsX10_putNumber_10 hown hK hP 0 rfl rfl 0 (by decide) (hts (.fieldLink RX10 9 "NothingJudge" "tape" "[B") fwwsX10_putNumber_9) (fun _ h9 => h9) rfl dX10_putNumber_19 ?_
  refine va_alen hx hb hK hP 1 1 rfl rfl (v := 1200) (by decide) dX10_putNumber_22 ?_
  refine lv_icmp_ge (tgt := 49) hx hb dX10_putNumber_23 (by decide) (fun c9 => absurd c9 (by decide)) (fun _ => ?_)
  refine lv_aload_n hx hb dX10_putNumber_26 rfl (lv_at hl 1 rfl) ?_
  refine va_get (D := (dC, dI)) (ci := 9) (v := .ref tp) (C := RX10) (T := TX10) (N := 13) hx hb hts iwwsX10_putNumber_10 hown hK hP 0 rfl rfl 0 (by decide) (hts (.fieldLink RX10 9 "NothingJudge" "tape" "[B") fwwsX10_putNumber_9) (fun _ h9 => h9) rfl dX10_putNumber_27 ?_
  refine lv_aload_n hx hb dX10_putNumber_30 rfl (lv_at hl 1 rfl) ?_
  refine va_get (D := (dC, dI)) (ci := 9) (v := .int 16) (C := RX10) (T := TX10) (N := 13) hx hb hts iwwsX10_putNumber_10 hown hK hP 0 rfl rfl 1 (by decide) (hts (.fieldLink RX10 87 "NothingJudge" "taped" "I") fwwsX10_putNumber_87) (fun _ h9 => h9) rfl dX10_putNumber_31 ?_
  refine lv_iload_n hx hb dX10_putNumber_34 rfl (lv_at hl 2 rfl) ?_
  refine lv_iload_n hx hb dX10_putNumber_35 rfl (lv_at hl 0 rfl) ?_
  refine lv_ishr hx hb dX10_putNumber_36 ?_
  refine lv_topi (fun v_181 ev_181 => ?_)
  refine lv_i2b (v := v_181.toInt8.toInt32) hx hb dX10_putNumber_37 rfl ?_
  refine lv_topi (fun v_182 ev_182 => ?_)
  refine va_bast hx hb hK hP hD hS 1 1 rfl rfl (by unfold vp_in; decide) dX10_putNumber_38 (fun H locs hP hD hS => ?_)
  obtain ⟨f_183, ef_183⟩ : ∃ z, z = upd f (16 : Int32).toNatClampNeg (vp_nar .byte v_182) := ⟨_, rfl⟩
  have hP : va_P (dC, dI) vwCl [(h0, .inr (9, [.ref tp, .int 16, .ref tok, .ref sp, .ref rdr, .int 0, .int (-1), .ref scn, .ref fct, .ref rnr, .ref trl, .ref mnd, .ref rrw])), (tp, .inl (cB, 1200, .inl f_183))] H := by rw [ef_183]; exact hP
  have hD : va_D A [(h0, .inr (9, [.ref tp, .int 16, .ref tok, .ref sp, .ref rdr, .int 0, .int (-1), .ref scn, .ref fct, .ref rnr, .ref trl, .ref mnd, .ref rrw])), (tp, .inl (cB, 1200, .inl f_183))] := by rw [ef_183]; exact hD
  refine lv_aload_n hx hb dX10_putNumber_39 rfl (lv_at hl 1 rfl) ?_
  refine lv_dup hx hb dX10_putNumber_40 rfl ?_
  refine va_get (D := (dC, dI)) (ci := 9) (v := .int 16) (C := RX10) (T := TX10) (N := 13) hx hb hts iwwsX10_putNumber_10 hown hK hP 0 rfl rfl 1 (by decide) (hts (.fieldLink RX10 87 "NothingJudge" "taped" "I") fwwsX10_putNumber_87) (fun _ h9 => h9) rfl dX10_putNumber_41 ?_
  refine lv_iconst (v := 1) hx hb dX10_putNumber_44 (by decide) ?_
  refine lv_iadd hx hb dX10_putNumber_45 ?_
  refine lv_topi (fun y_184 ey_184 => ?_)
  obtain rfl : y_184 = 17 := ey_184.trans (by decide)
  refine va_put (D := (dC, dI)) (ci := 9) (v := .int 17) (ty := .int) (C := RX10) (T := TX10) (N := 13) hx hb hts iwwsX10_putNumber_10 tyX10 tyX10_ok nmX10 hown hK hP hD hS 0 rfl rfl 1 (by decide) (hts (.fieldLink RX10 87 "NothingJudge" "taped" "I") fwwsX10_putNumber_87) (fun _ h9 => h9) rfl (by decide +kernel) rfl rfl (Nat.le_of_ble_eq_true rfl) dX10_putNumber_46 (fun H locs hP hD hS => ?_)
  have hP : va_P (dC, dI) vwCl [(h0, .inr (9, [.ref tp, .int 17, .ref tok, .ref sp, .ref rdr, .int 0, .int (-1), .ref scn, .ref fct, .ref rnr, .ref trl, .ref mnd, .ref rrw])), (tp, .inl (cB, 1200, .inl f_183))] H := hP
  have hD : va_D A [(h0, .inr (9, [.ref tp, .int 17, .ref tok, .ref sp, .ref rdr, .int 0, .int (-1), .ref scn, .ref fct, .ref rnr, .ref trl, .ref mnd, .ref rrw])), (tp, .inl (cB, 1200, .inl f_183))] := hD
  refine lv_iinc (v := 16) (lv' := [(2, .int 16), (0, .ref h0), (1, .int n)]) hx hb dX10_putNumber_49 hl (k := 0) rfl (by decide) (by decide) rfl (fun ls hl => ?_)
  refine lv_goto (tgt := 3) hx hb dX10_putNumber_52 (by decide) ?_
  refine lv_iload_n hx hb dX10_putNumber_3 rfl (lv_at hl 0 rfl) ?_
  refine lv_if_lt (tgt := 55) hx hb dX10_putNumber_4 (by decide) (fun c9 => absurd c9 (by decide)) (fun _ => ?_)
  refine lv_aload_n hx hb dX10_putNumber_7 rfl (lv_at hl 1 rfl) ?_
  refine va_get (D := (dC, dI)) (ci := 9) (v := .int 17) (C := RX10) (T := TX10) (N := 13) hx hb hts iwwsX10_putNumber_10 hown hK hP 0 rfl rfl 1 (by decide) (hts (.fieldLink RX10 87 "NothingJudge" "taped" "I") fwwsX10_putNumber_87) (fun _ h9 => h9) rfl dX10_putNumber_8 ?_
  refine lv_if_lt (tgt := 49) hx hb dX10_putNumber_11 (by decide) (fun c9 => absurd c9 (by decide)) (fun _ => ?_)
  refine lv_aload_n hx hb dX10_putNumber_14 rfl (lv_at hl 1 rfl) ?_
  refine va_get (D := (dC, dI)) (ci := 9) (v := .int 17) (C := RX10) (T := TX10) (N := 13) hx hb hts iwwsX10_putNumber_10 hown hK hP 0 rfl rfl 1 (by decide) (hts (.fieldLink RX10 87 "NothingJudge" "taped" "I") fwwsX10_putNumber_87) (fun _ h9 => h9) rfl dX10_putNumber_15 ?_
  refine lv_aload_n hx hb dX10_putNumber_18 rfl (lv_at hl 1 rfl) ?_
  refine va_get (D := (dC, dI)) (ci := 9) (v := .ref tp) (C := RX10) (T := TX10) (N := 13) hx hb hts iwwsX10_putNumber_10 hown hK hP 0 rfl rfl 0 (by decide) (hts (.fieldLink RX10 9 "NothingJudge" "tape" "[B") fwwsX10_putNumber_9) (fun _ h9 => h9) rfl dX10_putNumber_19 ?_
  refine va_alen hx hb hK hP 1 1 rfl rfl (v := 1200) (by decide) dX10_putNumber_22 ?_
  refine lv_icmp_ge (tgt := 49) hx hb dX10_putNumber_23 (by decide) (fun c9 => absurd c9 (by decide)) (fun _ => ?_)
  refine lv_aload_n hx hb dX10_putNumber_26 rfl (lv_at hl 1 rfl) ?_
  refine va_get (D := (dC, dI)) (ci := 9) (v := .ref tp) (C := RX10) (T := TX10) (N := 13) hx hb hts iwwsX10_putNumber_10 hown hK hP 0 rfl rfl 0 (by decide) (hts (.fieldLink RX10 9 "NothingJudge" "tape" "[B") fwwsX10_putNumber_9) (fun _ h9 => h9) rfl dX10_putNumber_27 ?_
  refine lv_aload_n hx hb dX10_putNumber_30 rfl (lv_at hl 1 rfl) ?_
  refine va_get (D := (dC, dI)) (ci := 9) (v := .int 17) (C := RX10) (T := TX10) (N := 13) hx hb hts iwwsX10_putNumber_10 hown hK hP 0 rfl rfl 1 (by decide) (hts (.fieldLink RX10 87 "NothingJudge" "taped" "I") fwwsX10_putNumber_87) (fun _ h9 => h9) rfl dX10_putNumber_31 ?_
  refine lv_iload_n hx hb dX10_putNumber_34 rfl (lv_at hl 2 rfl) ?_
  refine lv_iload_n hx hb dX10_putNumber_35 rfl (lv_at hl 0 rfl) ?_
  refine lv_ishr hx hb dX10_putNumber_36 ?_
  refine lv_topi (fun v_185 ev_185 => ?_)
  refine lv_i2b (v := v_185.toInt8.toInt32) hx hb dX10_putNumber_37 rfl ?_
  refine lv_topi (fun v_186 ev_186 => ?_)
  refine va_bast hx hb hK hP hD hS 1 1 rfl rfl (by unfold vp_in; decide) dX10_putNumber_38 (fun H locs hP hD hS => ?_)
  obtain ⟨f_187, ef_187⟩ : ∃ z, z = upd f_183 (17 : Int32).toNatClampNeg (vp_nar .byte v_186) := ⟨_, rfl⟩
  have hP : va_P (dC, dI) vwCl [(h0, .inr (9, [.ref tp, .int 17, .ref tok, .ref sp, .ref rdr, .int 0, .int (-1), .ref scn, .ref fct, .ref rnr, .ref trl, .ref mnd, .ref rrw])), (tp, .inl (cB, 1200, .inl f_187))] H := by rw [ef_187]; exact hP
  have hD : va_D A [(h0, .inr (9, [.ref tp, .int 17, .ref tok, .ref sp, .ref rdr, .int 0, .int (-1), .ref scn, .ref fct, .ref rnr, .ref trl, .ref mnd, .ref rrw])), (tp, .inl (cB, 1200, .inl f_187))] := by rw [ef_187]; exact hD
  refine lv_aload_n hx hb dX10_putNumber_39 rfl (lv_at hl 1 rfl) ?_
  refine lv_dup hx hb dX10_putNumber_40 rfl ?_
  refine va_get (D := (dC, dI)) (ci := 9) (v := .int 17) (C := RX10) (T := TX10) (N := 13) hx hb hts iwwsX10_putNumber_10 hown hK hP 0 rfl rfl 1 (by decide) (hts (.fieldLink RX10 87 "NothingJudge" "taped" "I") fwwsX10_putNumber_87) (fun _ h9 => h9) rfl dX10_putNumber_41 ?_
  refine lv_iconst (v := 1) hx hb dX10_putNumber_44 (by decide) ?_
  refine lv_iadd hx hb dX10_putNumber_45 ?_
  refine lv_topi (fun y_188 ey_188 => ?_)
  obtain rfl : y_188 = 18 := ey_188.trans (by decide)
  refine va_put (D := (dC, dI)) (ci := 9) (v := .int 18) (ty := .int) (C := RX10) (T := TX10) (N := 13) hx hb hts iwwsX10_putNumber_10 tyX10 tyX10_ok nmX10 hown hK hP hD hS 0 rfl rfl 1 (by decide) (hts (.fieldLink RX10 87 "NothingJudge" "taped" "I") fwwsX10_putNumber_87) (fun _ h9 => h9) rfl (by decide +kernel) rfl rfl (Nat.le_of_ble_eq_true rfl) dX10_putNumber_46 (fun H locs hP hD hS => ?_)
  have hP : va_P (dC, dI) vwCl [(h0, .inr (9, [.ref tp, .int 18, .ref tok, .ref sp, .ref rdr, .int 0, .int (-1), .ref scn, .ref fct, .ref rnr, .ref trl, .ref mnd, .ref rrw])), (tp, .inl (cB, 1200, .inl f_187))] H := hP
  have hD : va_D A [(h0, .inr (9, [.ref tp, .int 18, .ref tok, .ref sp, .ref rdr, .int 0, .int (-1), .ref scn, .ref fct, .ref rnr, .ref trl, .ref mnd, .ref rrw])), (tp, .inl (cB, 1200, .inl f_187))] := hD
  refine lv_iinc (v := 8) (lv' := [(2, .int 8), (0, .ref h0), (1, .int n)]) hx hb dX10_putNumber_49 hl (k := 0) rfl (by decide) (by decide) rfl (fun ls hl => ?_)
  refine lv_goto (tgt := 3) hx hb dX10_putNumber_52 (by decide) ?_
  refine lv_iload_n hx hb dX10_putNumber_3 rfl (lv_at hl 0 rfl) ?_
  refine lv_if_lt (tgt := 55) hx hb dX10_putNumber_4 (by decide) (fun c9 => absurd c9 (by decide)) (fun _ => ?_)
  refine lv_aload_n hx hb dX10_putNumber_7 rfl (lv_at hl 1 rfl) ?_
  refine va_get (D := (dC, dI)) (ci := 9) (v := .int 18) (C := RX10) (T := TX10) (N := 13) hx hb hts iwwsX10_putNumber_10 hown hK hP 0 rfl rfl 1 (by decide) (hts (.fieldLink RX10 87 "NothingJudge" "taped" "I") fwwsX10_putNumber_87) (fun _ h9 => h9) rfl dX10_putNumber_8 ?_
  refine lv_if_lt (tgt := 49) hx hb dX10_putNumber_11 (by decide) (fun c9 => absurd c9 (by decide)) (fun _ => ?_)
  refine lv_aload_n hx hb dX10_putNumber_14 rfl (lv_at hl 1 rfl) ?_
  refine va_get (D := (dC, dI)) (ci := 9) (v := .int 18) (C := RX10) (T := TX10) (N := 13) hx hb hts iwwsX10_putNumber_10 hown hK hP 0 rfl rfl 1 (by decide) (hts (.fieldLink RX10 87 "NothingJudge" "taped" "I") fwwsX10_putNumber_87) (fun _ h9 => h9) rfl dX10_putNumber_15 ?_
  refine lv_aload_n hx hb dX10_putNumber_18 rfl (lv_at hl 1 rfl) ?_
  refine va_get (D := (dC, dI)) (ci := 9) (v := .ref tp) (C := RX10) (T := TX10) (N := 13) hx hb hts iwwsX10_putNumber_10 hown hK hP 0 rfl rfl 0 (by decide) (hts (.fieldLink RX10 9 "NothingJudge" "tape" "[B") fwwsX10_putNumber_9) (fun _ h9 => h9) rfl dX10_putNumber_19 ?_
  refine va_alen hx hb hK hP 1 1 rfl rfl (v := 1200) (by decide) dX10_putNumber_22 ?_
  refine lv_icmp_ge (tgt := 49) hx hb dX10_putNumber_23 (by decide) (fun c9 => absurd c9 (by decide)) (fun _ => ?_)
  refine lv_aload_n hx hb dX10_putNumber_26 rfl (lv_at hl 1 rfl) ?_
  refine va_get (D := (dC, dI)) (ci := 9) (v := .ref tp) (C := RX10) (T := TX10) (N := 13) hx hb hts iwwsX10_putNumber_10 hown hK hP 0 rfl rfl 0 (by decide) (hts (.fieldLink RX10 9 "NothingJudge" "tape" "[B") fwwsX10_putNumber_9) (fun _ h9 => h9) rfl dX10_putNumber_27 ?_
  refine lv_aload_n hx hb dX10_putNumber_30 rfl (lv_at hl 1 rfl) ?_
  refine va_get (D := (dC, dI)) (ci := 9) (v := .int 18) (C := RX10) (T := TX10) (N := 13) hx hb hts iwwsX10_putNumber_10 hown hK hP 0 rfl rfl 1 (by decide) (hts (.fieldLink RX10 87 "NothingJudge" "taped" "I") fwwsX10_putNumber_87) (fun _ h9 => h9) rfl dX10_putNumber_31 ?_
  refine lv_iload_n hx hb dX10_putNumber_34 rfl (lv_at hl 2 rfl) ?_
  refine lv_iload_n hx hb dX10_putNumber_35 rfl (lv_at hl 0 rfl) ?_
  refine lv_ishr hx hb dX10_putNumber_36 ?_
  refine lv_topi (fun v_189 ev_189 => ?_)
  refine lv_i2b (v := v_189.toInt8.toInt32) hx hb dX10_putNumber_37 rfl ?_
  refine lv_topi (fun v_190 ev_190 => ?_)
  refine va_bast hx hb hK hP hD hS 1 1 rfl rfl (by unfold vp_in; decide) dX10_putNumber_38 (fun H locs hP hD hS => ?_)
  obtain ⟨f_191, ef_191⟩ : ∃ z, z = upd f_187 (18 : Int32).toNatClampNeg (vp_nar .byte v_190) := ⟨_, rfl⟩
  have hP : va_P (dC, dI) vwCl [(h0, .inr (9, [.ref tp, .int 18, .ref tok, .ref sp, .ref rdr, .int 0, .int (-1), .ref scn, .ref fct, .ref rnr, .ref trl, .ref mnd, .ref rrw])), (tp, .inl (cB, 1200, .inl f_191))] H := by rw [ef_191]; exact hP
  have hD : va_D A [(h0, .inr (9, [.ref tp, .int 18, .ref tok, .ref sp, .ref rdr, .int 0, .int (-1), .ref scn, .ref fct, .ref rnr, .ref trl, .ref mnd, .ref rrw])), (tp, .inl (cB, 1200, .inl f_191))] := by rw [ef_191]; exact hD
  refine lv_aload_n hx hb dX10_putNumber_39 rfl (lv_at hl 1 rfl) ?_
  refine lv_dup hx hb dX10_putNumber_40 rfl ?_
  refine va_get (D := (dC, dI)) (ci := 9) (v := .int 18) (C := RX10) (T := TX10) (N := 13) hx hb hts iwwsX10_putNumber_10 hown hK hP 0 rfl rfl 1 (by decide) (hts (.fieldLink RX10 87 "NothingJudge" "taped" "I") fwwsX10_putNumber_87) (fun _ h9 => h9) rfl dX10_putNumber_41 ?_
  refine lv_iconst (v := 1) hx hb dX10_putNumber_44 (by decide) ?_
  refine lv_iadd hx hb dX10_putNumber_45 ?_
  refine lv_topi (fun y_192 ey_192 => ?_)
  obtain rfl : y_192 = 19 := ey_192.trans (by decide)
  refine va_put (D := (dC, dI)) (ci := 9) (v := .int 19) (ty := .int) (C := RX10) (T := TX10) (N := 13) hx hb hts iwwsX10_putNumber_10 tyX10 tyX10_ok nmX10 hown hK hP hD hS 0 rfl rfl 1 (by decide) (hts (.fieldLink RX10 87 "NothingJudge" "taped" "I") fwwsX10_putNumber_87) (fun _ h9 => h9) rfl (by decide +kernel) rfl rfl (Nat.le_of_ble_eq_true rfl) dX10_putNumber_46 (fun H locs hP hD hS => ?_)
  have hP : va_P (dC, dI) vwCl [(h0, .inr (9, [.ref tp, .int 19, .ref tok, .ref sp, .ref rdr, .int 0, .int (-1), .ref scn, .ref fct, .ref rnr, .ref trl, .ref mnd, .ref rrw])), (tp, .inl (cB, 1200, .inl f_191))] H := hP
  have hD : va_D A [(h0, .inr (9, [.ref tp, .int 19, .ref tok, .ref sp, .ref rdr, .int 0, .int (-1), .ref scn, .ref fct, .ref rnr, .ref trl, .ref mnd, .ref rrw])), (tp, .inl (cB, 1200, .inl f_191))] := hD
  refine lv_iinc (v := 0) (lv' := [(2, .int 0), (0, .ref h0), (1, .int n)]) hx hb dX10_putNumber_49 hl (k := 0) rfl (by decide) (by decide) rfl (fun ls hl => ?_)
  refine lv_goto (tgt := 3) hx hb dX10_putNumber_52 (by decide) ?_
  refine lv_iload_n hx hb dX10_putNumber_3 rfl (lv_at hl 0 rfl) ?_
  refine lv_if_lt (tgt := 55) hx hb dX10_putNumber_4 (by decide) (fun c9 => absurd c9 (by decide)) (fun _ => ?_)
  refine lv_aload_n hx hb dX10_putNumber_7 rfl (lv_at hl 1 rfl) ?_
  refine va_get (D := (dC, dI)) (ci := 9) (v := .int 19) (C := RX10) (T := TX10) (N := 13) hx hb hts iwwsX10_putNumber_10 hown hK hP 0 rfl rfl 1 (by decide) (hts (.fieldLink RX10 87 "NothingJudge" "taped" "I") fwwsX10_putNumber_87) (fun _ h9 => h9) rfl dX10_putNumber_8 ?_
  refine lv_if_lt (tgt := 49) hx hb dX10_putNumber_11 (by decide) (fun c9 => absurd c9 (by decide)) (fun _ => ?_)
  refine lv_aload_n hx hb dX10_putNumber_14 rfl (lv_at hl 1 rfl) ?_
  refine va_get (D := (dC, dI)) (ci := 9) (v := .int 19) (C := RX10) (T := TX10) (N := 13) hx hb hts iwwsX10_putNumber_10 hown hK hP 0 rfl rfl 1 (by decide) (hts (.fieldLink RX10 87 "NothingJudge" "taped" "I") fwwsX10_putNumber_87) (fun _ h9 => h9) rfl dX10_putNumber_15 ?_
  refine lv_aload_n hx hb dX10_putNumber_18 rfl (lv_at hl 1 rfl) ?_
  refine va_get (D := (dC, dI)) (ci := 9) (v := .ref tp) (C := RX10) (T := TX10) (N := 13) hx hb hts iwwsX10_putNumber_10 hown hK hP 0 rfl rfl 0 (by decide) (hts (.fieldLink RX10 9 "NothingJudge" "tape" "[B") fwwsX10_putNumber_9) (fun _ h9 => h9) rfl dX10_putNumber_19 ?_
  refine va_alen hx hb hK hP 1 1 rfl rfl (v := 1200) (by decide) dX10_putNumber_22 ?_
  refine lv_icmp_ge (tgt := 49) hx hb dX10_putNumber_23 (by decide) (fun c9 => absurd c9 (by decide)) (fun _ => ?_)
  refine lv_aload_n hx hb dX10_putNumber_26 rfl (lv_at hl 1 rfl) ?_
  refine va_get (D := (dC, dI)) (ci := 9) (v := .ref tp) (C := RX10) (T := TX10) (N := 13) hx hb hts iwwsX10_putNumber_10 hown hK hP 0 rfl rfl 0 (by decide) (hts (.fieldLink RX10 9 "NothingJudge" "tape" "[B") fwwsX10_putNumber_9) (fun _ h9 => h9) rfl dX10_putNumber_27 ?_
  refine lv_aload_n hx hb dX10_putNumber_30 rfl (lv_at hl 1 rfl) ?_
  refine va_get (D := (dC, dI)) (ci := 9) (v := .int 19) (C := RX10) (T := TX10) (N := 13) hx hb hts iwwsX10_putNumber_10 hown hK hP 0 rfl rfl 1 (by decide) (hts (.fieldLink RX10 87 "NothingJudge" "taped" "I") fwwsX10_putNumber_87) (fun _ h9 => h9) rfl dX10_putNumber_31 ?_
  refine lv_iload_n hx hb dX10_putNumber_34 rfl (lv_at hl 2 rfl) ?_
  refine lv_iload_n hx hb dX10_putNumber_35 rfl (lv_at hl 0 rfl) ?_
  refine lv_ishr hx hb dX10_putNumber_36 ?_
  refine lv_topi (fun v_193 ev_193 => ?_)
  refine lv_i2b (v := v_193.toInt8.toInt32) hx hb dX10_putNumber_37 rfl ?_
  refine lv_topi (fun v_194 ev_194 => ?_)
  refine va_bast hx hb hK hP hD hS 1 1 rfl rfl (by unfold vp_in; decide) dX10_putNumber_38 (fun H locs hP hD hS => ?_)
  obtain ⟨f_195, ef_195⟩ : ∃ z, z = upd f_191 (19 : Int32).toNatClampNeg (vp_nar .byte v_194) := ⟨_, rfl⟩
  have hP : va_P (dC, dI) vwCl [(h0, .inr (9, [.ref tp, .int 19, .ref tok, .ref sp, .ref rdr, .int 0, .int (-1), .ref scn, .ref fct, .ref rnr, .ref trl, .ref mnd, .ref rrw])), (tp, .inl (cB, 1200, .inl f_195))] H := by rw [ef_195]; exact hP
  have hD : va_D A [(h0, .inr (9, [.ref tp, .int 19, .ref tok, .ref sp, .ref rdr, .int 0, .int (-1), .ref scn, .ref fct, .ref rnr, .ref trl, .ref mnd, .ref rrw])), (tp, .inl (cB, 1200, .inl f_195))] := by rw [ef_195]; exact hD
  refine lv_aload_n hx hb dX10_putNumber_39 rfl (lv_at hl 1 rfl) ?_
  refine lv_dup hx hb dX10_putNumber_40 rfl ?_
  refine va_get (D := (dC, dI)) (ci := 9) (v := .int 19) (C := RX10) (T := TX10) (N := 13) hx hb hts iwwsX10_putNumber_10 hown hK hP 0 rfl rfl 1 (by decide) (hts (.fieldLink RX10 87 "NothingJudge" "taped" "I") fwwsX10_putNumber_87) (fun _ h9 => h9) rfl dX10_putNumber_41 ?_
  refine lv_iconst (v := 1) hx hb dX10_putNumber_44 (by decide) ?_
  refine lv_iadd hx hb dX10_putNumber_45 ?_
  refine lv_topi (fun y_196 ey_196 => ?_)
  obtain rfl : y_196 = 20 := ey_196.trans (by decide)
  refine va_put (D := (dC, dI)) (ci := 9) (v := .int 20) (ty := .int) (C := RX10) (T := TX10) (N := 13) hx hb hts iwwsX10_putNumber_10 tyX10 tyX10_ok nmX10 hown hK hP hD hS 0 rfl rfl 1 (by decide) (hts (.fieldLink RX10 87 "NothingJudge" "taped" "I") fwwsX10_putNumber_87) (fun _ h9 => h9) rfl (by decide +kernel) rfl rfl (Nat.le_of_ble_eq_true rfl) dX10_putNumber_46 (fun H locs hP hD hS => ?_)
  have hP : va_P (dC, dI) vwCl [(h0, .inr (9, [.ref tp, .int 20, .ref tok, .ref sp, .ref rdr, .int 0, .int (-1), .ref scn, .ref fct, .ref rnr, .ref trl, .ref mnd, .ref rrw])), (tp, .inl (cB, 1200, .inl f_195))] H := hP
  have hD : va_D A [(h0, .inr (9, [.ref tp, .int 20, .ref tok, .ref sp, .ref rdr, .int 0, .int (-1), .ref scn, .ref fct, .ref rnr, .ref trl, .ref mnd, .ref rrw])), (tp, .inl (cB, 1200, .inl f_195))] := hD
  refine lv_iinc (v := (-8)) (lv' := [(2, .int (-8)), (0, .ref h0), (1, .int n)]) hx hb dX10_putNumber_49 hl (k := 0) rfl (by decide) (by decide) rfl (fun ls hl => ?_)
  refine lv_goto (tgt := 3) hx hb dX10_putNumber_52 (by decide) ?_
  refine lv_iload_n hx hb dX10_putNumber_3 rfl (lv_at hl 0 rfl) ?_
  refine lv_if_lt (tgt := 55) hx hb dX10_putNumber_4 (by decide) (fun _ => ?_) (fun c9 => absurd (by decide) c9)
  have hP9 := hP.sub (ws' := [(h0, .inr (9, [.ref tp, .int 20, .ref tok, .ref sp, .ref rdr, .int 0, .int (-1), .ref scn, .ref fct, .ref rnr, .ref trl, .ref mnd, .ref rrw])), (tp, .inl (cB, 1200, .inl f_195))]) [0, 1] rfl
  have hD9 := hD.sub (ws' := [(h0, .inr (9, [.ref tp, .int 20, .ref tok, .ref sp, .ref rdr, .int 0, .int (-1), .ref scn, .ref fct, .ref rnr, .ref trl, .ref mnd, .ref rrw])), (tp, .inl (cB, 1200, .inl f_195))]) [0, 1] (by decide) rfl
  exact W.vret hx hb hr (fun t ht hW => ⟨⟨(), rfl, trivial, f_195, by rw [ht]; exact hP9, hD9⟩, hS.F ht⟩) hS.2.2 dX10_putNumber_55

set_option maxHeartbeats 4000000 in
set_option maxRecDepth 100000 in
theorem c_feed (l : Launch) (dC : Nat → ClassId) (dI : Nat → Nat → Nat) (cI cB cL cZ : ClassId) (h0 : Nat) (tp : Nat) (tok : Nat) (sp : Nat) (rdr : Nat) (scn : Nat) (fct : Nat) (rnr : Nat) (trl : Nat) (mnd : Nat) (rrw : Nat) (n1 : Int32) (n2 : Int32) (n3 : Int32) (n4 : Int32) (n5 : Int32) (f : Nat → Int32) (sz : Nat)  : Met l yX10_feed wsX10_feed ({ frames := 1, cells := 0, slots := 0, locals := 22 }) (cP (dC, dI) (kTy cI cB cL cZ) [.ref h0, .int n1, .int n2, .int n3, .int n4, .int n5] [(h0, .inr (9, [.ref tp, .int 0, .ref tok, .ref sp, .ref rdr, .int 0, .int (-1), .ref scn, .ref fct, .ref rnr, .ref trl, .ref mnd, .ref rrw])), (tp, .inl (cB, 1200, .inl f))] sz) (va_Qi (fun (r : Int32) (_ : Unit) => r = 20) (fun (_ : Unit) (t : State) => va_P (dC, dI) vwCl [] t.heap ∧ va_D (va_A [(h0, .inr (9, [.ref tp, .int 0, .ref tok, .ref sp, .ref rdr, .int 0, .int (-1), .ref scn, .ref fct, .ref rnr, .ref trl, .ref mnd, .ref rrw])), (tp, .inl (cB, 1200, .inl f))] sz) []) (va_A [(h0, .inr (9, [.ref tp, .int 0, .ref tok, .ref sp, .ref rdr, .int 0, .int (-1), .ref scn, .ref fct, .ref rnr, .ref trl, .ref mnd, .ref rrw])), (tp, .inl (cB, 1200, .inl f))] sz)) 0 0 (va_A [(h0, .inr (9, [.ref tp, .int 0, .ref tok, .ref sp, .ref rdr, .int 0, .int (-1), .ref scn, .ref fct, .ref rnr, .ref trl, .ref mnd, .ref rrw])), (tp, .inl (cB, 1200, .inl f))] sz) := by
  refine Met.ofW (cc := cX10_feed) (maxL := 6) (ret := (some .int)) (by decide) rfl ?_
  intro p e s m args below meth c s₁ B hml hv
  obtain ⟨rfl, hsz, hP, hK, hD0, hN⟩ := hv
  have hx := B.exec
  have hb := B.bytes
  have hr := B.returns
  have hts := atoms_spec (ws := wsX10_feed) B.pre
  have hown : s.vm.findClass RX10 = some m.cls := findClass_of_methodNamed B.named
  have hlocks := B.notSynchronized
  subst hsz
  have hD := hD0.self (sz := s.heap.size)
  generalize hAe : va_A [(h0, .inr (9, [.ref tp, .int 0, .ref tok, .ref sp, .ref rdr, .int 0, .int (-1), .ref scn, .ref fct, .ref rnr, .ref trl, .ref mnd, .ref rrw])), (tp, .inl (cB, 1200, .inl f))] s.heap.size = A at hD ⊢
  have hA : ∀ q : Nat, s.heap.size ≤ q → A q := fun q h => by rw [← hAe]; exact Or.inr h
  have hl := lv_entry ([.ref h0, .int n1, .int n2, .int n3, .int n4, .int n5]) (n := 6) (Nat.le_of_ble_eq_true rfl)
  rw [lg_entry_eq]
  generalize (lg_sl ([.ref h0, .int n1, .int n2, .int n3, .int n4, .int n5]) ++ List.replicate (6 - (lg_sl ([.ref h0, .int n1, .int n2, .int n3, .int n4, .int n5])).length) Slot.unset).toArray = ls at hl ⊢
  have hl : lv_has ls 6 [(0, .ref h0), (1, .int n1), (2, .int n2), (3, .int n3), (4, .int n4), (5, .int n5)] := hl
  refine k_H (A := A) hP (fun H hP hS => ?_)
  have hP : va_P (dC, dI) vwCl [(h0, .inr (9, [.ref tp, .int 0, .ref tok, .ref sp, .ref rdr, .int 0, .int (-1), .ref scn, .ref fct, .ref rnr, .ref trl, .ref mnd, .ref rrw])), (tp, .inl (cB, 1200, .inl f))] H := hP
  have hD : va_D A [(h0, .inr (9, [.ref tp, .int 0, .ref tok, .ref sp, .ref rdr, .int 0, .int (-1), .ref scn, .ref fct, .ref rnr, .ref trl, .ref mnd, .ref rrw])), (tp, .inl (cB, 1200, .inl f))] := hD
  refine lv_aload_n hx hb dX10_feed_0 rfl (lv_at hl 0 rfl) ?_
  refine va_get (D := (dC, dI)) (ci := 9) (v := .int 0) (C := RX10) (T := TX10) (N := 13) hx hb hts iwwsX10_feed_10 hown hK hP 0 rfl rfl 1 (by decide) (hts (.fieldLink RX10 87 "NothingJudge" "taped" "I") fwwsX10_feed_87) (fun _ h9 => h9) rfl dX10_feed_1 ?_
  refine lv_bipush (v := 20) hx hb dX10_feed_4 (by decide) ?_
  refine lv_iadd hx hb dX10_feed_6 ?_
  refine lv_topi (fun y_197 ey_197 => ?_)
  obtain rfl : y_197 = 20 := ey_197.trans (by decide)
  refine lv_sipush (v := 1200) hx hb dX10_feed_7 (by decide) ?_
  refine lv_icmp_le (tgt := 15) hx hb dX10_feed_10 (by decide) (fun _ => ?_) (fun c9 => absurd (by decide) c9)
  refine lv_aload_n hx hb dX10_feed_15 rfl (lv_at hl 0 rfl) ?_
  refine lv_iload_n hx hb dX10_feed_16 rfl (lv_at hl 1 rfl) ?_
  have hPc := hP.sub (ws' := [(h0, .inr (9, [.ref tp, .int 0, .ref tok, .ref sp, .ref rdr, .int 0, .int (-1), .ref scn, .ref fct, .ref rnr, .ref trl, .ref mnd, .ref rrw])), (tp, .inl (cB, 1200, .inl f))]) [0, 1] rfl
  have hDc := hD.sub (ws' := [(h0, .inr (9, [.ref tp, .int 0, .ref tok, .ref sp, .ref rdr, .int 0, .int (-1), .ref scn, .ref fct, .ref rnr, .ref trl, .ref mnd, .ref rrw])), (tp, .inl (cB, 1200, .inl f))]) [0, 1] (by decide) rfl
  have hFc := va_free (wc := [(h0, .inr (9, [.ref tp, .int 0, .ref tok, .ref sp, .ref rdr, .int 0, .int (-1), .ref scn, .ref fct, .ref rnr, .ref trl, .ref mnd, .ref rrw])), (tp, .inl (cB, 1200, .inl f))]) hD hS hA [0, 1] rfl
  refine va_callv (va_runV (As := [.int n1]) (rest := []) ⟨hx, hb, hml, hown, hts⟩ (c_putNumber0 l dC dI cI cB cL cZ (h0) (tp) (tok) (sp) (rdr) (scn) (fct) (rnr) (trl) (mnd) (rrw) (n1) (f) H.size) (cwV 1 hts gX10_feed_X10_putNumber rfl rfl rfl (by decide +kernel) ⟨Nat.le_of_ble_eq_true rfl, Nat.le_of_ble_eq_true rfl⟩) ⟨cP_fb, va_recv hK hPc (ci := 9) (q0 := 0) rfl rfl, fun U hU hW => cP_pre hPc hK hDc hN U hU hW⟩ rfl rfl hl.1 rfl (lv_room (Nat.le_of_ble_eq_true rfl)) dX10_feed_17 ⟨Nat.le_of_ble_eq_true rfl, Nat.le_of_ble_eq_true rfl⟩) hS (fun q _ h => hFc q h) hFc (fun u t H1 locs ht hvm hw hB hz1 hk1 hS => ?_)
  obtain ⟨f_198, hP1, hD1⟩ := hB
  rw [ht] at hP1
  obtain ⟨hP, hD⟩ := va_join (wr := []) (w1 := [(h0, .inr (9, [.ref tp, .int 4, .ref tok, .ref sp, .ref rdr, .int 0, .int (-1), .ref scn, .ref fct, .ref rnr, .ref trl, .ref mnd, .ref rrw])), (tp, .inl (cB, 1200, .inl f_198))]) hP hD [0, 1] [] rfl rfl (by decide) (by decide) hk1 hFc hP1 hD1
  generalize H1 = H at hP hS ⊢
  have hP : va_P (dC, dI) vwCl [(h0, .inr (9, [.ref tp, .int 4, .ref tok, .ref sp, .ref rdr, .int 0, .int (-1), .ref scn, .ref fct, .ref rnr, .ref trl, .ref mnd, .ref rrw])), (tp, .inl (cB, 1200, .inl f_198))] H := hP
  have hD : va_D A [(h0, .inr (9, [.ref tp, .int 4, .ref tok, .ref sp, .ref rdr, .int 0, .int (-1), .ref scn, .ref fct, .ref rnr, .ref trl, .ref mnd, .ref rrw])), (tp, .inl (cB, 1200, .inl f_198))] := hD
  refine lv_aload_n hx hb dX10_feed_20 rfl (lv_at hl 0 rfl) ?_
  refine lv_iload_n hx hb dX10_feed_21 rfl (lv_at hl 2 rfl) ?_
  have hPc := hP.sub (ws' := [(h0, .inr (9, [.ref tp, .int 4, .ref tok, .ref sp, .ref rdr, .int 0, .int (-1), .ref scn, .ref fct, .ref rnr, .ref trl, .ref mnd, .ref rrw])), (tp, .inl (cB, 1200, .inl f_198))]) [0, 1] rfl
  have hDc := hD.sub (ws' := [(h0, .inr (9, [.ref tp, .int 4, .ref tok, .ref sp, .ref rdr, .int 0, .int (-1), .ref scn, .ref fct, .ref rnr, .ref trl, .ref mnd, .ref rrw])), (tp, .inl (cB, 1200, .inl f_198))]) [0, 1] (by decide) rfl
  have hFc := va_free (wc := [(h0, .inr (9, [.ref tp, .int 4, .ref tok, .ref sp, .ref rdr, .int 0, .int (-1), .ref scn, .ref fct, .ref rnr, .ref trl, .ref mnd, .ref rrw])), (tp, .inl (cB, 1200, .inl f_198))]) hD hS hA [0, 1] rfl
  refine va_callv (va_runV (As := [.int n2]) (rest := []) ⟨hx, hb, hml, hown, hts⟩ (c_putNumber4 l dC dI cI cB cL cZ (h0) (tp) (tok) (sp) (rdr) (scn) (fct) (rnr) (trl) (mnd) (rrw) (n2) (f_198) H.size) (cwV 1 hts gX10_feed_X10_putNumber rfl rfl rfl (by decide +kernel) ⟨Nat.le_of_ble_eq_true rfl, Nat.le_of_ble_eq_true rfl⟩) ⟨cP_fb, va_recv hK hPc (ci := 9) (q0 := 0) rfl rfl, fun U hU hW => cP_pre hPc hK hDc hN U hU hW⟩ rfl rfl hl.1 rfl (lv_room (Nat.le_of_ble_eq_true rfl)) dX10_feed_22 ⟨Nat.le_of_ble_eq_true rfl, Nat.le_of_ble_eq_true rfl⟩) hS (fun q _ h => hFc q h) hFc (fun u t H1 locs ht hvm hw hB hz1 hk1 hS => ?_)
  obtain ⟨f_200, hP1, hD1⟩ := hB
  rw [ht] at hP1
  obtain ⟨hP, hD⟩ := va_join (wr := []) (w1 := [(h0, .inr (9, [.ref tp, .int 8, .ref tok, .ref sp, .ref rdr, .int 0, .int (-1), .ref scn, .ref fct, .ref rnr, .ref trl, .ref mnd, .ref rrw])), (tp, .inl (cB, 1200, .inl f_200))]) hP hD [0, 1] [] rfl rfl (by decide) (by decide) hk1 hFc hP1 hD1
  generalize H1 = H at hP hS ⊢
  have hP : va_P (dC, dI) vwCl [(h0, .inr (9, [.ref tp, .int 8, .ref tok, .ref sp, .ref rdr, .int 0, .int (-1), .ref scn, .ref fct, .ref rnr, .ref trl, .ref mnd, .ref rrw])), (tp, .inl (cB, 1200, .inl f_200))] H := hP
  have hD : va_D A [(h0, .inr (9, [.ref tp, .int 8, .ref tok, .ref sp, .ref rdr, .int 0, .int (-1), .ref scn, .ref fct, .ref rnr, .ref trl, .ref mnd, .ref rrw])), (tp, .inl (cB, 1200, .inl f_200))] := hD
  refine lv_aload_n hx hb dX10_feed_25 rfl (lv_at hl 0 rfl) ?_
  refine lv_iload_n hx hb dX10_feed_26 rfl (lv_at hl 3 rfl) ?_
  have hPc := hP.sub (ws' := [(h0, .inr (9, [.ref tp, .int 8, .ref tok, .ref sp, .ref rdr, .int 0, .int (-1), .ref scn, .ref fct, .ref rnr, .ref trl, .ref mnd, .ref rrw])), (tp, .inl (cB, 1200, .inl f_200))]) [0, 1] rfl
  have hDc := hD.sub (ws' := [(h0, .inr (9, [.ref tp, .int 8, .ref tok, .ref sp, .ref rdr, .int 0, .int (-1), .ref scn, .ref fct, .ref rnr, .ref trl, .ref mnd, .ref rrw])), (tp, .inl (cB, 1200, .inl f_200))]) [0, 1] (by decide) rfl
  have hFc := va_free (wc := [(h0, .inr (9, [.ref tp, .int 8, .ref tok, .ref sp, .ref rdr, .int 0, .int (-1), .ref scn, .ref fct, .ref rnr, .ref trl, .ref mnd, .ref rrw])), (tp, .inl (cB, 1200, .inl f_200))]) hD hS hA [0, 1] rfl
  refine va_callv (va_runV (As := [.int n3]) (rest := []) ⟨hx, hb, hml, hown, hts⟩ (c_putNumber8 l dC dI cI cB cL cZ (h0) (tp) (tok) (sp) (rdr) (scn) (fct) (rnr) (trl) (mnd) (rrw) (n3) (f_200) H.size) (cwV 1 hts gX10_feed_X10_putNumber rfl rfl rfl (by decide +kernel) ⟨Nat.le_of_ble_eq_true rfl, Nat.le_of_ble_eq_true rfl⟩) ⟨cP_fb, va_recv hK hPc (ci := 9) (q0 := 0) rfl rfl, fun U hU hW => cP_pre hPc hK hDc hN U hU hW⟩ rfl rfl hl.1 rfl (lv_room (Nat.le_of_ble_eq_true rfl)) dX10_feed_27 ⟨Nat.le_of_ble_eq_true rfl, Nat.le_of_ble_eq_true rfl⟩) hS (fun q _ h => hFc q h) hFc (fun u t H1 locs ht hvm hw hB hz1 hk1 hS => ?_)
  obtain ⟨f_202, hP1, hD1⟩ := hB
  rw [ht] at hP1
  obtain ⟨hP, hD⟩ := va_join (wr := []) (w1 := [(h0, .inr (9, [.ref tp, .int 12, .ref tok, .ref sp, .ref rdr, .int 0, .int (-1), .ref scn, .ref fct, .ref rnr, .ref trl, .ref mnd, .ref rrw])), (tp, .inl (cB, 1200, .inl f_202))]) hP hD [0, 1] [] rfl rfl (by decide) (by decide) hk1 hFc hP1 hD1
  generalize H1 = H at hP hS ⊢
  have hP : va_P (dC, dI) vwCl [(h0, .inr (9, [.ref tp, .int 12, .ref tok, .ref sp, .ref rdr, .int 0, .int (-1), .ref scn, .ref fct, .ref rnr, .ref trl, .ref mnd, .ref rrw])), (tp, .inl (cB, 1200, .inl f_202))] H := hP
  have hD : va_D A [(h0, .inr (9, [.ref tp, .int 12, .ref tok, .ref sp, .ref rdr, .int 0, .int (-1), .ref scn, .ref fct, .ref rnr, .ref trl, .ref mnd, .ref rrw])), (tp, .inl (cB, 1200, .inl f_202))] := hD
  refine lv_aload_n hx hb dX10_feed_30 rfl (lv_at hl 0 rfl) ?_
  refine lv_iload hx hb dX10_feed_31 (lv_at hl 4 rfl) ?_
  have hPc := hP.sub (ws' := [(h0, .inr (9, [.ref tp, .int 12, .ref tok, .ref sp, .ref rdr, .int 0, .int (-1), .ref scn, .ref fct, .ref rnr, .ref trl, .ref mnd, .ref rrw])), (tp, .inl (cB, 1200, .inl f_202))]) [0, 1] rfl
  have hDc := hD.sub (ws' := [(h0, .inr (9, [.ref tp, .int 12, .ref tok, .ref sp, .ref rdr, .int 0, .int (-1), .ref scn, .ref fct, .ref rnr, .ref trl, .ref mnd, .ref rrw])), (tp, .inl (cB, 1200, .inl f_202))]) [0, 1] (by decide) rfl
  have hFc := va_free (wc := [(h0, .inr (9, [.ref tp, .int 12, .ref tok, .ref sp, .ref rdr, .int 0, .int (-1), .ref scn, .ref fct, .ref rnr, .ref trl, .ref mnd, .ref rrw])), (tp, .inl (cB, 1200, .inl f_202))]) hD hS hA [0, 1] rfl
  refine va_callv (va_runV (As := [.int n4]) (rest := []) ⟨hx, hb, hml, hown, hts⟩ (c_putNumber12 l dC dI cI cB cL cZ (h0) (tp) (tok) (sp) (rdr) (scn) (fct) (rnr) (trl) (mnd) (rrw) (n4) (f_202) H.size) (cwV 1 hts gX10_feed_X10_putNumber rfl rfl rfl (by decide +kernel) ⟨Nat.le_of_ble_eq_true rfl, Nat.le_of_ble_eq_true rfl⟩) ⟨cP_fb, va_recv hK hPc (ci := 9) (q0 := 0) rfl rfl, fun U hU hW => cP_pre hPc hK hDc hN U hU hW⟩ rfl rfl hl.1 rfl (lv_room (Nat.le_of_ble_eq_true rfl)) dX10_feed_33 ⟨Nat.le_of_ble_eq_true rfl, Nat.le_of_ble_eq_true rfl⟩) hS (fun q _ h => hFc q h) hFc (fun u t H1 locs ht hvm hw hB hz1 hk1 hS => ?_)
  obtain ⟨f_204, hP1, hD1⟩ := hB
  rw [ht] at hP1
  obtain ⟨hP, hD⟩ := va_join (wr := []) (w1 := [(h0, .inr (9, [.ref tp, .int 16, .ref tok, .ref sp, .ref rdr, .int 0, .int (-1), .ref scn, .ref fct, .ref rnr, .ref trl, .ref mnd, .ref rrw])), (tp, .inl (cB, 1200, .inl f_204))]) hP hD [0, 1] [] rfl rfl (by decide) (by decide) hk1 hFc hP1 hD1
  generalize H1 = H at hP hS ⊢
  have hP : va_P (dC, dI) vwCl [(h0, .inr (9, [.ref tp, .int 16, .ref tok, .ref sp, .ref rdr, .int 0, .int (-1), .ref scn, .ref fct, .ref rnr, .ref trl, .ref mnd, .ref rrw])), (tp, .inl (cB, 1200, .inl f_204))] H := hP
  have hD : va_D A [(h0, .inr (9, [.ref tp, .int 16, .ref tok, .ref sp, .ref rdr, .int 0, .int (-1), .ref scn, .ref fct, .ref rnr, .ref trl, .ref mnd, .ref rrw])), (tp, .inl (cB, 1200, .inl f_204))] := hD
  refine lv_aload_n hx hb dX10_feed_36 rfl (lv_at hl 0 rfl) ?_
  refine lv_iload hx hb dX10_feed_37 (lv_at hl 5 rfl) ?_
  have hPc := hP.sub (ws' := [(h0, .inr (9, [.ref tp, .int 16, .ref tok, .ref sp, .ref rdr, .int 0, .int (-1), .ref scn, .ref fct, .ref rnr, .ref trl, .ref mnd, .ref rrw])), (tp, .inl (cB, 1200, .inl f_204))]) [0, 1] rfl
  have hDc := hD.sub (ws' := [(h0, .inr (9, [.ref tp, .int 16, .ref tok, .ref sp, .ref rdr, .int 0, .int (-1), .ref scn, .ref fct, .ref rnr, .ref trl, .ref mnd, .ref rrw])), (tp, .inl (cB, 1200, .inl f_204))]) [0, 1] (by decide) rfl
  have hFc := va_free (wc := [(h0, .inr (9, [.ref tp, .int 16, .ref tok, .ref sp, .ref rdr, .int 0, .int (-1), .ref scn, .ref fct, .ref rnr, .ref trl, .ref mnd, .ref rrw])), (tp, .inl (cB, 1200, .inl f_204))]) hD hS hA [0, 1] rfl
  refine va_callv (va_runV (As := [.int n5]) (rest := []) ⟨hx, hb, hml, hown, hts⟩ (c_putNumber16 l dC dI cI cB cL cZ (h0) (tp) (tok) (sp) (rdr) (scn) (fct) (rnr) (trl) (mnd) (rrw) (n5) (f_204) H.size) (cwV 1 hts gX10_feed_X10_putNumber rfl rfl rfl (by decide +kernel) ⟨Nat.le_of_ble_eq_true rfl, Nat.le_of_ble_eq_true rfl⟩) ⟨cP_fb, va_recv hK hPc (ci := 9) (q0 := 0) rfl rfl, fun U hU hW => cP_pre hPc hK hDc hN U hU hW⟩ rfl rfl hl.1 rfl (lv_room (Nat.le_of_ble_eq_true rfl)) dX10_feed_39 ⟨Nat.le_of_ble_eq_true rfl, Nat.le_of_ble_eq_true rfl⟩) hS (fun q _ h => hFc q h) hFc (fun u t H1 locs ht hvm hw hB hz1 hk1 hS => ?_)
  obtain ⟨f_206, hP1, hD1⟩ := hB
  rw [ht] at hP1
  obtain ⟨hP, hD⟩ := va_join (wr := []) (w1 := [(h0, .inr (9, [.ref tp, .int 20, .ref tok, .ref sp, .ref rdr, .int 0, .int (-1), .ref scn, .ref fct, .ref rnr, .ref trl, .ref mnd, .ref rrw])), (tp, .inl (cB, 1200, .inl f_206))]) hP hD [0, 1] [] rfl rfl (by decide) (by decide) hk1 hFc hP1 hD1
  generalize H1 = H at hP hS ⊢
  have hP : va_P (dC, dI) vwCl [(h0, .inr (9, [.ref tp, .int 20, .ref tok, .ref sp, .ref rdr, .int 0, .int (-1), .ref scn, .ref fct, .ref rnr, .ref trl, .ref mnd, .ref rrw])), (tp, .inl (cB, 1200, .inl f_206))] H := hP
  have hD : va_D A [(h0, .inr (9, [.ref tp, .int 20, .ref tok, .ref sp, .ref rdr, .int 0, .int (-1), .ref scn, .ref fct, .ref rnr, .ref trl, .ref mnd, .ref rrw])), (tp, .inl (cB, 1200, .inl f_206))] := hD
  refine lv_aload_n hx hb dX10_feed_42 rfl (lv_at hl 0 rfl) ?_
  refine va_get (D := (dC, dI)) (ci := 9) (v := .int 20) (C := RX10) (T := TX10) (N := 13) hx hb hts iwwsX10_feed_10 hown hK hP 0 rfl rfl 1 (by decide) (hts (.fieldLink RX10 87 "NothingJudge" "taped" "I") fwwsX10_feed_87) (fun _ h9 => h9) rfl dX10_feed_43 ?_
  have hP9 := hP.sub (ws' := []) [] rfl
  have hD9 := hD.sub (ws' := []) [] (by decide) rfl
  exact W.iret (v := 20) hx hb hr (fun t ht hW => ⟨⟨20, (), rfl, rfl, by rw [ht]; exact hP9, hD9⟩, hS.F ht⟩) hS.2.2 dX10_feed_46

set_option maxHeartbeats 4000000 in
set_option maxRecDepth 100000 in
theorem c_fault (l : Launch) (dC : Nat → ClassId) (dI : Nat → Nat → Nat) (cI cB cL cZ : ClassId) (h0 : Nat) (tp : Nat) (tok : Nat) (sp : Nat) (rdr : Nat) (scn : Nat) (fct : Nat) (rnr : Nat) (trl : Nat) (mnd : Nat) (rrw : Nat) (w : Int32) (sz : Nat)  : Met l yX10_fault wsX10_fault ({ frames := 0, cells := 0, slots := 0, locals := 0 }) (cP (dC, dI) (kTy cI cB cL cZ) [.ref h0, .int w] [(h0, .inr (9, [.ref tp, .int 0, .ref tok, .ref sp, .ref rdr, .int 0, .int (-1), .ref scn, .ref fct, .ref rnr, .ref trl, .ref mnd, .ref rrw]))] sz) (va_Qi (fun (r : Int32) (_ : Unit) => r = (if w = 0 then (0 : Int32) else -1)) (fun (_ : Unit) (t : State) => va_P (dC, dI) vwCl [] t.heap ∧ va_D (va_A [(h0, .inr (9, [.ref tp, .int 0, .ref tok, .ref sp, .ref rdr, .int 0, .int (-1), .ref scn, .ref fct, .ref rnr, .ref trl, .ref mnd, .ref rrw]))] sz) []) (va_A [(h0, .inr (9, [.ref tp, .int 0, .ref tok, .ref sp, .ref rdr, .int 0, .int (-1), .ref scn, .ref fct, .ref rnr, .ref trl, .ref mnd, .ref rrw]))] sz)) 0 0 (va_A [(h0, .inr (9, [.ref tp, .int 0, .ref tok, .ref sp, .ref rdr, .int 0, .int (-1), .ref scn, .ref fct, .ref rnr, .ref trl, .ref mnd, .ref rrw]))] sz) := by
  refine Met.ofW (cc := cX10_fault) (maxL := 2) (ret := (some .int)) (by decide) rfl ?_
  intro p e s m args below meth c s₁ B hml hv
  obtain ⟨rfl, hsz, hP, hK, hD0, hN⟩ := hv
  have hx := B.exec
  have hb := B.bytes
  have hr := B.returns
  have hts := atoms_spec (ws := wsX10_fault) B.pre
  have hown : s.vm.findClass RX10 = some m.cls := findClass_of_methodNamed B.named
  have hlocks := B.notSynchronized
  subst hsz
  have hD := hD0.self (sz := s.heap.size)
  generalize hAe : va_A [(h0, .inr (9, [.ref tp, .int 0, .ref tok, .ref sp, .ref rdr, .int 0, .int (-1), .ref scn, .ref fct, .ref rnr, .ref trl, .ref mnd, .ref rrw]))] s.heap.size = A at hD ⊢
  have hA : ∀ q : Nat, s.heap.size ≤ q → A q := fun q h => by rw [← hAe]; exact Or.inr h
  have hl := lv_entry ([.ref h0, .int w]) (n := 2) (Nat.le_of_ble_eq_true rfl)
  rw [lg_entry_eq]
  generalize (lg_sl ([.ref h0, .int w]) ++ List.replicate (2 - (lg_sl ([.ref h0, .int w])).length) Slot.unset).toArray = ls at hl ⊢
  have hl : lv_has ls 2 [(0, .ref h0), (1, .int w)] := hl
  refine k_H (A := A) hP (fun H hP hS => ?_)
  have hP : va_P (dC, dI) vwCl [(h0, .inr (9, [.ref tp, .int 0, .ref tok, .ref sp, .ref rdr, .int 0, .int (-1), .ref scn, .ref fct, .ref rnr, .ref trl, .ref mnd, .ref rrw]))] H := hP
  have hD : va_D A [(h0, .inr (9, [.ref tp, .int 0, .ref tok, .ref sp, .ref rdr, .int 0, .int (-1), .ref scn, .ref fct, .ref rnr, .ref trl, .ref mnd, .ref rrw]))] := hD
  refine lv_iload_n hx hb dX10_fault_0 rfl (lv_at hl 1 rfl) ?_
  refine lv_if_ne (tgt := 9) hx hb dX10_fault_1 (by decide) (fun c_208 => ?_) (fun c_208 => ?_)
  · refine lv_iload_n hx hb dX10_fault_9 rfl (lv_at hl 1 rfl) ?_
    refine lv_iconst (v := 1) hx hb dX10_fault_10 (by decide) ?_
    refine lv_icmp_ne (tgt := 21) hx hb dX10_fault_11 (by decide) (fun c_209 => ?_) (fun c_209 => ?_)
    · refine lv_iconst (v := (-1)) hx hb dX10_fault_21 (by decide) ?_
      have hP9 := hP.sub (ws' := []) [] rfl
      have hD9 := hD.sub (ws' := []) [] (by decide) rfl
      exact W.iret (v := (-1)) hx hb hr (fun t ht hW => ⟨⟨(-1), (), rfl, (by first | (rw [if_pos (by assumption)]) | (rw [if_neg (by assumption)])), by rw [ht]; exact hP9, hD9⟩, hS.F ht⟩) hS.2.2 dX10_fault_22
    · refine lv_aload_n hx hb dX10_fault_14 rfl (lv_at hl 0 rfl) ?_
      refine va_get (D := (dC, dI)) (ci := 9) (v := .int (-1)) (C := RX10) (T := TX10) (N := 13) hx hb hts iwwsX10_fault_10 hown hK hP 0 rfl rfl 6 (by decide) (hts (.fieldLink RX10 36 "NothingJudge" "faultPlace" "I") fwwsX10_fault_36) (fun _ h9 => h9) rfl dX10_fault_15 ?_
      refine lv_goto (tgt := 22) hx hb dX10_fault_18 (by decide) ?_
      have hP9 := hP.sub (ws' := []) [] rfl
      have hD9 := hD.sub (ws' := []) [] (by decide) rfl
      exact W.iret (v := (-1)) hx hb hr (fun t ht hW => ⟨⟨(-1), (), rfl, (by first | (rw [if_pos (by assumption)]) | (rw [if_neg (by assumption)])), by rw [ht]; exact hP9, hD9⟩, hS.F ht⟩) hS.2.2 dX10_fault_22
  · refine lv_aload_n hx hb dX10_fault_4 rfl (lv_at hl 0 rfl) ?_
    refine va_get (D := (dC, dI)) (ci := 9) (v := .int 0) (C := RX10) (T := TX10) (N := 13) hx hb hts iwwsX10_fault_10 hown hK hP 0 rfl rfl 5 (by decide) (hts (.fieldLink RX10 104 "NothingJudge" "faultKind" "I") fwwsX10_fault_104) (fun _ h9 => h9) rfl dX10_fault_5 ?_
    have hP9 := hP.sub (ws' := []) [] rfl
    have hD9 := hD.sub (ws' := []) [] (by decide) rfl
    exact W.iret (v := 0) hx hb hr (fun t ht hW => ⟨⟨0, (), rfl, (by first | (rw [if_pos (by assumption)]) | (rw [if_neg (by assumption)])), by rw [ht]; exact hP9, hD9⟩, hS.F ht⟩) hS.2.2 dX10_fault_8

set_option maxHeartbeats 4000000 in
set_option maxRecDepth 100000 in
theorem c_entry (l : Launch) (dC : Nat → ClassId) (dI : Nat → Nat → Nat) (cI cB cL cZ : ClassId) (h0 : Nat) (tp : Nat) (tok : Nat) (sp : Nat) (rdr : Nat) (scn : Nat) (fct : Nat) (rnr : Nat) (trl : Nat) (mnd : Nat) (rrw : Nat) (g : Nat) (td : Nat) (gc : Nat) (ga1 : Nat) (ga2 : Nat) (ga3 : Nat) (ga4 : Nat) (ga5 : Nat) (ga6 : Nat) (ga7 : Nat) (ga8 : Nat) (r : Int32) (sz : Nat)  : Met l yX10_entry wsX10_entry ({ frames := 1, cells := 0, slots := 0, locals := 21 }) (cP (dC, dI) (kTy cI cB cL cZ) [.ref h0, .int r] [(h0, .inr (9, [.ref tp, .int 0, .ref tok, .ref sp, .ref rdr, .int 0, .int (-1), .ref scn, .ref fct, .ref rnr, .ref trl, .ref mnd, .ref rrw])), (scn, .inr (6, [.ref g, .int (-1), .ref td])), (g, .inr (3, [.ref gc, .ref ga1, .ref ga2, .ref ga3, .ref ga4, .ref ga5, .ref ga6, .ref ga7, .ref ga8, .int 0, .int 0, .int 0, .int 0, .int (-1)]))] sz) (va_Qi (fun (r : Int32) (_ : Unit) => r = 0) (fun (_ : Unit) (t : State) => va_P (dC, dI) vwCl [] t.heap ∧ va_D (va_A [(h0, .inr (9, [.ref tp, .int 0, .ref tok, .ref sp, .ref rdr, .int 0, .int (-1), .ref scn, .ref fct, .ref rnr, .ref trl, .ref mnd, .ref rrw])), (scn, .inr (6, [.ref g, .int (-1), .ref td])), (g, .inr (3, [.ref gc, .ref ga1, .ref ga2, .ref ga3, .ref ga4, .ref ga5, .ref ga6, .ref ga7, .ref ga8, .int 0, .int 0, .int 0, .int 0, .int (-1)]))] sz) []) (va_A [(h0, .inr (9, [.ref tp, .int 0, .ref tok, .ref sp, .ref rdr, .int 0, .int (-1), .ref scn, .ref fct, .ref rnr, .ref trl, .ref mnd, .ref rrw])), (scn, .inr (6, [.ref g, .int (-1), .ref td])), (g, .inr (3, [.ref gc, .ref ga1, .ref ga2, .ref ga3, .ref ga4, .ref ga5, .ref ga6, .ref ga7, .ref ga8, .int 0, .int 0, .int 0, .int 0, .int (-1)]))] sz)) 0 0 (va_A [(h0, .inr (9, [.ref tp, .int 0, .ref tok, .ref sp, .ref rdr, .int 0, .int (-1), .ref scn, .ref fct, .ref rnr, .ref trl, .ref mnd, .ref rrw])), (scn, .inr (6, [.ref g, .int (-1), .ref td])), (g, .inr (3, [.ref gc, .ref ga1, .ref ga2, .ref ga3, .ref ga4, .ref ga5, .ref ga6, .ref ga7, .ref ga8, .int 0, .int 0, .int 0, .int 0, .int (-1)]))] sz) := by
  refine Met.ofW (cc := cX10_entry) (maxL := 2) (ret := (some .boolean)) (by decide) rfl ?_
  intro p e s m args below meth c s₁ B hml hv
  obtain ⟨rfl, hsz, hP, hK, hD0, hN⟩ := hv
  have hx := B.exec
  have hb := B.bytes
  have hr := B.returns
  have hts := atoms_spec (ws := wsX10_entry) B.pre
  have hown : s.vm.findClass RX10 = some m.cls := findClass_of_methodNamed B.named
  have hlocks := B.notSynchronized
  subst hsz
  have hD := hD0.self (sz := s.heap.size)
  generalize hAe : va_A [(h0, .inr (9, [.ref tp, .int 0, .ref tok, .ref sp, .ref rdr, .int 0, .int (-1), .ref scn, .ref fct, .ref rnr, .ref trl, .ref mnd, .ref rrw])), (scn, .inr (6, [.ref g, .int (-1), .ref td])), (g, .inr (3, [.ref gc, .ref ga1, .ref ga2, .ref ga3, .ref ga4, .ref ga5, .ref ga6, .ref ga7, .ref ga8, .int 0, .int 0, .int 0, .int 0, .int (-1)]))] s.heap.size = A at hD ⊢
  have hA : ∀ q : Nat, s.heap.size ≤ q → A q := fun q h => by rw [← hAe]; exact Or.inr h
  have hl := lv_entry ([.ref h0, .int r]) (n := 2) (Nat.le_of_ble_eq_true rfl)
  rw [lg_entry_eq]
  generalize (lg_sl ([.ref h0, .int r]) ++ List.replicate (2 - (lg_sl ([.ref h0, .int r])).length) Slot.unset).toArray = ls at hl ⊢
  have hl : lv_has ls 2 [(0, .ref h0), (1, .int r)] := hl
  refine k_H (A := A) hP (fun H hP hS => ?_)
  have hP : va_P (dC, dI) vwCl [(h0, .inr (9, [.ref tp, .int 0, .ref tok, .ref sp, .ref rdr, .int 0, .int (-1), .ref scn, .ref fct, .ref rnr, .ref trl, .ref mnd, .ref rrw])), (scn, .inr (6, [.ref g, .int (-1), .ref td])), (g, .inr (3, [.ref gc, .ref ga1, .ref ga2, .ref ga3, .ref ga4, .ref ga5, .ref ga6, .ref ga7, .ref ga8, .int 0, .int 0, .int 0, .int 0, .int (-1)]))] H := hP
  have hD : va_D A [(h0, .inr (9, [.ref tp, .int 0, .ref tok, .ref sp, .ref rdr, .int 0, .int (-1), .ref scn, .ref fct, .ref rnr, .ref trl, .ref mnd, .ref rrw])), (scn, .inr (6, [.ref g, .int (-1), .ref td])), (g, .inr (3, [.ref gc, .ref ga1, .ref ga2, .ref ga3, .ref ga4, .ref ga5, .ref ga6, .ref ga7, .ref ga8, .int 0, .int 0, .int 0, .int 0, .int (-1)]))] := hD
  refine lv_aload_n hx hb dX10_entry_0 rfl (lv_at hl 0 rfl) ?_
  refine va_get (D := (dC, dI)) (ci := 9) (v := .ref scn) (C := RX10) (T := TX10) (N := 13) hx hb hts iwwsX10_entry_10 hown hK hP 0 rfl rfl 7 (by decide) (hts (.fieldLink RX10 45 "NothingJudge" "scene" "LNothingJudge$Scene;") fwwsX10_entry_45) (fun _ h9 => h9) rfl dX10_entry_1 ?_
  refine va_get (D := (dC, dI)) (ci := 6) (v := .ref g) (C := RX7) (T := TX7) (N := 3) hx hb hts iwwsX10_entry_7 hown hK hP 1 rfl rfl 0 (by decide) (hts (.fieldLink RX10 110 "NothingJudge$Scene" "program" "LNothingJudge$Program;") fwwsX10_entry_110) (fun _ h9 => h9) rfl dX10_entry_4 ?_
  refine lv_iload_n hx hb dX10_entry_7 rfl (lv_at hl 1 rfl) ?_
  have hPc := hP.sub (ws' := [(g, .inr (3, [.ref gc, .ref ga1, .ref ga2, .ref ga3, .ref ga4, .ref ga5, .ref ga6, .ref ga7, .ref ga8, .int 0, .int 0, .int 0, .int 0, .int (-1)]))]) [2] rfl
  have hDc := hD.sub (ws' := [(g, .inr (3, [.ref gc, .ref ga1, .ref ga2, .ref ga3, .ref ga4, .ref ga5, .ref ga6, .ref ga7, .ref ga8, .int 0, .int 0, .int 0, .int 0, .int (-1)]))]) [2] (by decide) rfl
  have hFc := va_free (wc := [(g, .inr (3, [.ref gc, .ref ga1, .ref ga2, .ref ga3, .ref ga4, .ref ga5, .ref ga6, .ref ga7, .ref ga8, .int 0, .int 0, .int 0, .int 0, .int (-1)]))]) hD hS hA [2] rfl
  refine va_calli (va_runV (As := [.int r]) (rest := []) ⟨hx, hb, hml, hown, hts⟩ (c_has l dC dI cI cB cL cZ (g) (gc) (ga1) (ga2) (ga3) (ga4) (ga5) (ga6) (ga7) (ga8) (r) H.size) (cwV 1 hts gX10_entry_X3_has rfl rfl rfl (by decide +kernel) ⟨Nat.le_of_ble_eq_true rfl, Nat.le_of_ble_eq_true rfl⟩) ⟨cP_fb, va_recv hK hPc (ci := 3) (q0 := 0) rfl rfl, fun U hU hW => cP_pre hPc hK hDc hN U hU hW⟩ rfl rfl hl.1 rfl (lv_room (Nat.le_of_ble_eq_true rfl)) dX10_entry_8 ⟨Nat.le_of_ble_eq_true rfl, Nat.le_of_ble_eq_true rfl⟩) hS (fun q _ h => hFc q h) hFc (fun r_210 u t H1 locs ht hvm hw hB hz1 hk1 hS => ?_)
  obtain ⟨hP1, hD1⟩ := hB
  rw [ht] at hP1
  obtain ⟨hP, hD⟩ := va_join (wr := [(h0, .inr (9, [.ref tp, .int 0, .ref tok, .ref sp, .ref rdr, .int 0, .int (-1), .ref scn, .ref fct, .ref rnr, .ref trl, .ref mnd, .ref rrw])), (scn, .inr (6, [.ref g, .int (-1), .ref td]))]) (w1 := [(g, .inr (3, [.ref gc, .ref ga1, .ref ga2, .ref ga3, .ref ga4, .ref ga5, .ref ga6, .ref ga7, .ref ga8, .int 0, .int 0, .int 0, .int 0, .int (-1)]))]) hP hD [2] [0, 1] rfl rfl (by decide) (by decide) hk1 hFc hP1 hD1
  generalize H1 = H at hP hS ⊢
  have hP : va_P (dC, dI) vwCl [(h0, .inr (9, [.ref tp, .int 0, .ref tok, .ref sp, .ref rdr, .int 0, .int (-1), .ref scn, .ref fct, .ref rnr, .ref trl, .ref mnd, .ref rrw])), (scn, .inr (6, [.ref g, .int (-1), .ref td])), (g, .inr (3, [.ref gc, .ref ga1, .ref ga2, .ref ga3, .ref ga4, .ref ga5, .ref ga6, .ref ga7, .ref ga8, .int 0, .int 0, .int 0, .int 0, .int (-1)]))] H := hP
  have hD : va_D A [(h0, .inr (9, [.ref tp, .int 0, .ref tok, .ref sp, .ref rdr, .int 0, .int (-1), .ref scn, .ref fct, .ref rnr, .ref trl, .ref mnd, .ref rrw])), (scn, .inr (6, [.ref g, .int (-1), .ref td])), (g, .inr (3, [.ref gc, .ref ga1, .ref ga2, .ref ga3, .ref ga4, .ref ga5, .ref ga6, .ref ga7, .ref ga8, .int 0, .int 0, .int 0, .int 0, .int (-1)]))] := hD
  obtain rfl : r_210 = 0 := hw
  refine lv_if_ne (tgt := 16) hx hb dX10_entry_11 (by decide) (fun c9 => absurd c9 (by decide)) (fun _ => ?_)
  refine lv_iconst (v := 0) hx hb dX10_entry_14 (by decide) ?_
  have hP9 := hP.sub (ws' := []) [] rfl
  have hD9 := hD.sub (ws' := []) [] (by decide) rfl
  exact W.zret (v := 0) (ty := .boolean) hx hb hr rfl (fun t ht hW => ⟨⟨0, (), rfl, rfl, by rw [ht]; exact hP9, hD9⟩, hS.F ht⟩) hS.2.2 dX10_entry_15

set_option maxHeartbeats 4000000 in
set_option maxRecDepth 100000 in
theorem c_outer (l : Launch) (dC : Nat → ClassId) (dI : Nat → Nat → Nat) (cI cB cL cZ : ClassId) (h0 : Nat) (tp : Nat) (tok : Nat) (sp : Nat) (rdr : Nat) (scn : Nat) (fct : Nat) (rnr : Nat) (trl : Nat) (mnd : Nat) (rrw : Nat) (g : Nat) (td : Nat) (gc : Nat) (ga1 : Nat) (ga2 : Nat) (ga3 : Nat) (ga4 : Nat) (ga5 : Nat) (ga6 : Nat) (ga7 : Nat) (ga8 : Nat) (a : Int32) (b : Int32) (sz : Nat)  : Met l yX10_outer wsX10_outer ({ frames := 2, cells := 0, slots := 0, locals := 41 }) (cP (dC, dI) (kTy cI cB cL cZ) [.ref h0, .int a, .int b] [(h0, .inr (9, [.ref tp, .int 0, .ref tok, .ref sp, .ref rdr, .int 0, .int (-1), .ref scn, .ref fct, .ref rnr, .ref trl, .ref mnd, .ref rrw])), (scn, .inr (6, [.ref g, .int (-1), .ref td])), (g, .inr (3, [.ref gc, .ref ga1, .ref ga2, .ref ga3, .ref ga4, .ref ga5, .ref ga6, .ref ga7, .ref ga8, .int 0, .int 0, .int 0, .int 0, .int (-1)]))] sz) (va_Qi (fun (r : Int32) (_ : Unit) => r = 0) (fun (_ : Unit) (t : State) => va_P (dC, dI) vwCl [] t.heap ∧ va_D (va_A [(h0, .inr (9, [.ref tp, .int 0, .ref tok, .ref sp, .ref rdr, .int 0, .int (-1), .ref scn, .ref fct, .ref rnr, .ref trl, .ref mnd, .ref rrw])), (scn, .inr (6, [.ref g, .int (-1), .ref td])), (g, .inr (3, [.ref gc, .ref ga1, .ref ga2, .ref ga3, .ref ga4, .ref ga5, .ref ga6, .ref ga7, .ref ga8, .int 0, .int 0, .int 0, .int 0, .int (-1)]))] sz) []) (va_A [(h0, .inr (9, [.ref tp, .int 0, .ref tok, .ref sp, .ref rdr, .int 0, .int (-1), .ref scn, .ref fct, .ref rnr, .ref trl, .ref mnd, .ref rrw])), (scn, .inr (6, [.ref g, .int (-1), .ref td])), (g, .inr (3, [.ref gc, .ref ga1, .ref ga2, .ref ga3, .ref ga4, .ref ga5, .ref ga6, .ref ga7, .ref ga8, .int 0, .int 0, .int 0, .int 0, .int (-1)]))] sz)) 0 0 (va_A [(h0, .inr (9, [.ref tp, .int 0, .ref tok, .ref sp, .ref rdr, .int 0, .int (-1), .ref scn, .ref fct, .ref rnr, .ref trl, .ref mnd, .ref rrw])), (scn, .inr (6, [.ref g, .int (-1), .ref td])), (g, .inr (3, [.ref gc, .ref ga1, .ref ga2, .ref ga3, .ref ga4, .ref ga5, .ref ga6, .ref ga7, .ref ga8, .int 0, .int 0, .int 0, .int 0, .int (-1)]))] sz) := by
  refine Met.ofW (cc := cX10_outer) (maxL := 3) (ret := (some .boolean)) (by decide) rfl ?_
  intro p e s m args below meth c s₁ B hml hv
  obtain ⟨rfl, hsz, hP, hK, hD0, hN⟩ := hv
  have hx := B.exec
  have hb := B.bytes
  have hr := B.returns
  have hts := atoms_spec (ws := wsX10_outer) B.pre
  have hown : s.vm.findClass RX10 = some m.cls := findClass_of_methodNamed B.named
  have hlocks := B.notSynchronized
  subst hsz
  have hD := hD0.self (sz := s.heap.size)
  generalize hAe : va_A [(h0, .inr (9, [.ref tp, .int 0, .ref tok, .ref sp, .ref rdr, .int 0, .int (-1), .ref scn, .ref fct, .ref rnr, .ref trl, .ref mnd, .ref rrw])), (scn, .inr (6, [.ref g, .int (-1), .ref td])), (g, .inr (3, [.ref gc, .ref ga1, .ref ga2, .ref ga3, .ref ga4, .ref ga5, .ref ga6, .ref ga7, .ref ga8, .int 0, .int 0, .int 0, .int 0, .int (-1)]))] s.heap.size = A at hD ⊢
  have hA : ∀ q : Nat, s.heap.size ≤ q → A q := fun q h => by rw [← hAe]; exact Or.inr h
  have hl := lv_entry ([.ref h0, .int a, .int b]) (n := 3) (Nat.le_of_ble_eq_true rfl)
  rw [lg_entry_eq]
  generalize (lg_sl ([.ref h0, .int a, .int b]) ++ List.replicate (3 - (lg_sl ([.ref h0, .int a, .int b])).length) Slot.unset).toArray = ls at hl ⊢
  have hl : lv_has ls 3 [(0, .ref h0), (1, .int a), (2, .int b)] := hl
  refine k_H (A := A) hP (fun H hP hS => ?_)
  have hP : va_P (dC, dI) vwCl [(h0, .inr (9, [.ref tp, .int 0, .ref tok, .ref sp, .ref rdr, .int 0, .int (-1), .ref scn, .ref fct, .ref rnr, .ref trl, .ref mnd, .ref rrw])), (scn, .inr (6, [.ref g, .int (-1), .ref td])), (g, .inr (3, [.ref gc, .ref ga1, .ref ga2, .ref ga3, .ref ga4, .ref ga5, .ref ga6, .ref ga7, .ref ga8, .int 0, .int 0, .int 0, .int 0, .int (-1)]))] H := hP
  have hD : va_D A [(h0, .inr (9, [.ref tp, .int 0, .ref tok, .ref sp, .ref rdr, .int 0, .int (-1), .ref scn, .ref fct, .ref rnr, .ref trl, .ref mnd, .ref rrw])), (scn, .inr (6, [.ref g, .int (-1), .ref td])), (g, .inr (3, [.ref gc, .ref ga1, .ref ga2, .ref ga3, .ref ga4, .ref ga5, .ref ga6, .ref ga7, .ref ga8, .int 0, .int 0, .int 0, .int 0, .int (-1)]))] := hD
  refine lv_iload_n hx hb dX10_outer_0 rfl (lv_at hl 1 rfl) ?_
  refine lv_if_lt (tgt := 25) hx hb dX10_outer_1 (by decide) (fun c_211 => ?_) (fun c_211 => ?_)
  · refine lv_iconst (v := 0) hx hb dX10_outer_25 (by decide) ?_
    have hP9 := hP.sub (ws' := []) [] rfl
    have hD9 := hD.sub (ws' := []) [] (by decide) rfl
    exact W.zret (v := 0) (ty := .boolean) hx hb hr rfl (fun t ht hW => ⟨⟨0, (), rfl, rfl, by rw [ht]; exact hP9, hD9⟩, hS.F ht⟩) hS.2.2 dX10_outer_26
  · refine lv_iload_n hx hb dX10_outer_4 rfl (lv_at hl 1 rfl) ?_
    refine lv_aload_n hx hb dX10_outer_5 rfl (lv_at hl 0 rfl) ?_
    refine va_get (D := (dC, dI)) (ci := 9) (v := .ref scn) (C := RX10) (T := TX10) (N := 13) hx hb hts iwwsX10_outer_10 hown hK hP 0 rfl rfl 7 (by decide) (hts (.fieldLink RX10 45 "NothingJudge" "scene" "LNothingJudge$Scene;") fwwsX10_outer_45) (fun _ h9 => h9) rfl dX10_outer_6 ?_
    have hPc := hP.sub (ws' := [(scn, .inr (6, [.ref g, .int (-1), .ref td])), (g, .inr (3, [.ref gc, .ref ga1, .ref ga2, .ref ga3, .ref ga4, .ref ga5, .ref ga6, .ref ga7, .ref ga8, .int 0, .int 0, .int 0, .int 0, .int (-1)]))]) [1, 2] rfl
    have hDc := hD.sub (ws' := [(scn, .inr (6, [.ref g, .int (-1), .ref td])), (g, .inr (3, [.ref gc, .ref ga1, .ref ga2, .ref ga3, .ref ga4, .ref ga5, .ref ga6, .ref ga7, .ref ga8, .int 0, .int 0, .int 0, .int 0, .int (-1)]))]) [1, 2] (by decide) rfl
    have hFc := va_free (wc := [(scn, .inr (6, [.ref g, .int (-1), .ref td])), (g, .inr (3, [.ref gc, .ref ga1, .ref ga2, .ref ga3, .ref ga4, .ref ga5, .ref ga6, .ref ga7, .ref ga8, .int 0, .int 0, .int 0, .int 0, .int (-1)]))]) hD hS hA [1, 2] rfl
    refine va_calli (va_runV (As := []) (rest := [.int a]) ⟨hx, hb, hml, hown, hts⟩ (c_outers l dC dI cI cB cL cZ (scn) (g) (td) (gc) (ga1) (ga2) (ga3) (ga4) (ga5) (ga6) (ga7) (ga8) H.size) (cwV 0 hts gX10_outer_X7_outers rfl rfl rfl (by decide +kernel) ⟨Nat.le_of_ble_eq_true rfl, Nat.le_of_ble_eq_true rfl⟩) ⟨cP_fb, va_recv hK hPc (ci := 6) (q0 := 0) rfl rfl, fun U hU hW => cP_pre hPc hK hDc hN U hU hW⟩ rfl rfl hl.1 rfl (lv_room (Nat.le_of_ble_eq_true rfl)) dX10_outer_9 ⟨Nat.le_of_ble_eq_true rfl, Nat.le_of_ble_eq_true rfl⟩) hS (fun q _ h => hFc q h) hFc (fun r_212 u t H1 locs ht hvm hw hB hz1 hk1 hS => ?_)
    obtain ⟨hP1, hD1⟩ := hB
    rw [ht] at hP1
    obtain ⟨hP, hD⟩ := va_join (wr := [(h0, .inr (9, [.ref tp, .int 0, .ref tok, .ref sp, .ref rdr, .int 0, .int (-1), .ref scn, .ref fct, .ref rnr, .ref trl, .ref mnd, .ref rrw]))]) (w1 := [(scn, .inr (6, [.ref g, .int (-1), .ref td])), (g, .inr (3, [.ref gc, .ref ga1, .ref ga2, .ref ga3, .ref ga4, .ref ga5, .ref ga6, .ref ga7, .ref ga8, .int 0, .int 0, .int 0, .int 0, .int (-1)]))]) hP hD [1, 2] [0] rfl rfl (by decide) (by decide) hk1 hFc hP1 hD1
    generalize H1 = H at hP hS ⊢
    have hP : va_P (dC, dI) vwCl [(h0, .inr (9, [.ref tp, .int 0, .ref tok, .ref sp, .ref rdr, .int 0, .int (-1), .ref scn, .ref fct, .ref rnr, .ref trl, .ref mnd, .ref rrw])), (scn, .inr (6, [.ref g, .int (-1), .ref td])), (g, .inr (3, [.ref gc, .ref ga1, .ref ga2, .ref ga3, .ref ga4, .ref ga5, .ref ga6, .ref ga7, .ref ga8, .int 0, .int 0, .int 0, .int 0, .int (-1)]))] H := hP
    have hD : va_D A [(h0, .inr (9, [.ref tp, .int 0, .ref tok, .ref sp, .ref rdr, .int 0, .int (-1), .ref scn, .ref fct, .ref rnr, .ref trl, .ref mnd, .ref rrw])), (scn, .inr (6, [.ref g, .int (-1), .ref td])), (g, .inr (3, [.ref gc, .ref ga1, .ref ga2, .ref ga3, .ref ga4, .ref ga5, .ref ga6, .ref ga7, .ref ga8, .int 0, .int 0, .int 0, .int 0, .int (-1)]))] := hD
    obtain rfl : r_212 = 0 := hw
    refine lv_icmp_ge (tgt := 25) hx hb dX10_outer_12 (by decide) (fun _ => ?_) (fun c9 => absurd (Int32.not_lt.mp c_211) c9)
    refine lv_iconst (v := 0) hx hb dX10_outer_25 (by decide) ?_
    have hP9 := hP.sub (ws' := []) [] rfl
    have hD9 := hD.sub (ws' := []) [] (by decide) rfl
    exact W.zret (v := 0) (ty := .boolean) hx hb hr rfl (fun t ht hW => ⟨⟨0, (), rfl, rfl, by rw [ht]; exact hP9, hD9⟩, hS.F ht⟩) hS.2.2 dX10_outer_26

set_option maxHeartbeats 4000000 in
set_option maxRecDepth 100000 in
theorem c_use (l : Launch) (dC : Nat → ClassId) (dI : Nat → Nat → Nat) (cI cB cL cZ : ClassId) (h0 : Nat) (tp : Nat) (tok : Nat) (sp : Nat) (rdr : Nat) (scn : Nat) (fct : Nat) (rnr : Nat) (trl : Nat) (mnd : Nat) (rrw : Nat) (g : Nat) (td : Nat) (gc : Nat) (ga1 : Nat) (ga2 : Nat) (ga3 : Nat) (ga4 : Nat) (ga5 : Nat) (ga6 : Nat) (ga7 : Nat) (ga8 : Nat) (a : Int32) (b : Int32) (sz : Nat)  : Met l yX10_use wsX10_use ({ frames := 0, cells := 0, slots := 0, locals := 0 }) (cP (dC, dI) (kTy cI cB cL cZ) [.ref h0, .int a, .int b] [(h0, .inr (9, [.ref tp, .int 0, .ref tok, .ref sp, .ref rdr, .int 0, .int (-1), .ref scn, .ref fct, .ref rnr, .ref trl, .ref mnd, .ref rrw])), (scn, .inr (6, [.ref g, .int (-1), .ref td])), (g, .inr (3, [.ref gc, .ref ga1, .ref ga2, .ref ga3, .ref ga4, .ref ga5, .ref ga6, .ref ga7, .ref ga8, .int 0, .int 0, .int 0, .int 0, .int (-1)]))] sz) (va_Qi (fun (r : Int32) (_ : Unit) => r = -1) (fun (_ : Unit) (t : State) => va_P (dC, dI) vwCl [] t.heap ∧ va_D (va_A [(h0, .inr (9, [.ref tp, .int 0, .ref tok, .ref sp, .ref rdr, .int 0, .int (-1), .ref scn, .ref fct, .ref rnr, .ref trl, .ref mnd, .ref rrw])), (scn, .inr (6, [.ref g, .int (-1), .ref td])), (g, .inr (3, [.ref gc, .ref ga1, .ref ga2, .ref ga3, .ref ga4, .ref ga5, .ref ga6, .ref ga7, .ref ga8, .int 0, .int 0, .int 0, .int 0, .int (-1)]))] sz) []) (va_A [(h0, .inr (9, [.ref tp, .int 0, .ref tok, .ref sp, .ref rdr, .int 0, .int (-1), .ref scn, .ref fct, .ref rnr, .ref trl, .ref mnd, .ref rrw])), (scn, .inr (6, [.ref g, .int (-1), .ref td])), (g, .inr (3, [.ref gc, .ref ga1, .ref ga2, .ref ga3, .ref ga4, .ref ga5, .ref ga6, .ref ga7, .ref ga8, .int 0, .int 0, .int 0, .int 0, .int (-1)]))] sz)) 0 0 (va_A [(h0, .inr (9, [.ref tp, .int 0, .ref tok, .ref sp, .ref rdr, .int 0, .int (-1), .ref scn, .ref fct, .ref rnr, .ref trl, .ref mnd, .ref rrw])), (scn, .inr (6, [.ref g, .int (-1), .ref td])), (g, .inr (3, [.ref gc, .ref ga1, .ref ga2, .ref ga3, .ref ga4, .ref ga5, .ref ga6, .ref ga7, .ref ga8, .int 0, .int 0, .int 0, .int 0, .int (-1)]))] sz) := by
  refine Met.ofW (cc := cX10_use) (maxL := 4) (ret := (some .int)) (by decide) rfl ?_
  intro p e s m args below meth c s₁ B hml hv
  obtain ⟨rfl, hsz, hP, hK, hD0, hN⟩ := hv
  have hx := B.exec
  have hb := B.bytes
  have hr := B.returns
  have hts := atoms_spec (ws := wsX10_use) B.pre
  have hown : s.vm.findClass RX10 = some m.cls := findClass_of_methodNamed B.named
  have hlocks := B.notSynchronized
  subst hsz
  have hD := hD0.self (sz := s.heap.size)
  generalize hAe : va_A [(h0, .inr (9, [.ref tp, .int 0, .ref tok, .ref sp, .ref rdr, .int 0, .int (-1), .ref scn, .ref fct, .ref rnr, .ref trl, .ref mnd, .ref rrw])), (scn, .inr (6, [.ref g, .int (-1), .ref td])), (g, .inr (3, [.ref gc, .ref ga1, .ref ga2, .ref ga3, .ref ga4, .ref ga5, .ref ga6, .ref ga7, .ref ga8, .int 0, .int 0, .int 0, .int 0, .int (-1)]))] s.heap.size = A at hD ⊢
  have hA : ∀ q : Nat, s.heap.size ≤ q → A q := fun q h => by rw [← hAe]; exact Or.inr h
  have hl := lv_entry ([.ref h0, .int a, .int b]) (n := 4) (Nat.le_of_ble_eq_true rfl)
  rw [lg_entry_eq]
  generalize (lg_sl ([.ref h0, .int a, .int b]) ++ List.replicate (4 - (lg_sl ([.ref h0, .int a, .int b])).length) Slot.unset).toArray = ls at hl ⊢
  have hl : lv_has ls 4 [(0, .ref h0), (1, .int a), (2, .int b)] := hl
  refine k_H (A := A) hP (fun H hP hS => ?_)
  have hP : va_P (dC, dI) vwCl [(h0, .inr (9, [.ref tp, .int 0, .ref tok, .ref sp, .ref rdr, .int 0, .int (-1), .ref scn, .ref fct, .ref rnr, .ref trl, .ref mnd, .ref rrw])), (scn, .inr (6, [.ref g, .int (-1), .ref td])), (g, .inr (3, [.ref gc, .ref ga1, .ref ga2, .ref ga3, .ref ga4, .ref ga5, .ref ga6, .ref ga7, .ref ga8, .int 0, .int 0, .int 0, .int 0, .int (-1)]))] H := hP
  have hD : va_D A [(h0, .inr (9, [.ref tp, .int 0, .ref tok, .ref sp, .ref rdr, .int 0, .int (-1), .ref scn, .ref fct, .ref rnr, .ref trl, .ref mnd, .ref rrw])), (scn, .inr (6, [.ref g, .int (-1), .ref td])), (g, .inr (3, [.ref gc, .ref ga1, .ref ga2, .ref ga3, .ref ga4, .ref ga5, .ref ga6, .ref ga7, .ref ga8, .int 0, .int 0, .int 0, .int 0, .int (-1)]))] := hD
  refine lv_aload_n hx hb dX10_use_0 rfl (lv_at hl 0 rfl) ?_
  refine va_get (D := (dC, dI)) (ci := 9) (v := .ref scn) (C := RX10) (T := TX10) (N := 13) hx hb hts iwwsX10_use_10 hown hK hP 0 rfl rfl 7 (by decide) (hts (.fieldLink RX10 45 "NothingJudge" "scene" "LNothingJudge$Scene;") fwwsX10_use_45) (fun _ h9 => h9) rfl dX10_use_1 ?_
  refine va_get (D := (dC, dI)) (ci := 6) (v := .ref g) (C := RX7) (T := TX7) (N := 3) hx hb hts iwwsX10_use_7 hown hK hP 1 rfl rfl 0 (by decide) (hts (.fieldLink RX10 110 "NothingJudge$Scene" "program" "LNothingJudge$Program;") fwwsX10_use_110) (fun _ h9 => h9) rfl dX10_use_4 ?_
  refine lv_astore_n (lv' := [(3, .ref g), (0, .ref h0), (1, .int a), (2, .int b)]) hx hb dX10_use_7 rfl hl (by decide) rfl (fun ls hl => ?_)
  refine lv_iload_n hx hb dX10_use_8 rfl (lv_at hl 2 rfl) ?_
  refine lv_if_lt (tgt := 20) hx hb dX10_use_9 (by decide) (fun c_213 => ?_) (fun c_213 => ?_)
  · refine lv_iconst (v := (-1)) hx hb dX10_use_20 (by decide) ?_
    have hP9 := hP.sub (ws' := []) [] rfl
    have hD9 := hD.sub (ws' := []) [] (by decide) rfl
    exact W.iret (v := (-1)) hx hb hr (fun t ht hW => ⟨⟨(-1), (), rfl, rfl, by rw [ht]; exact hP9, hD9⟩, hS.F ht⟩) hS.2.2 dX10_use_21
  · refine lv_iload_n hx hb dX10_use_12 rfl (lv_at hl 2 rfl) ?_
    refine lv_aload_n hx hb dX10_use_13 rfl (lv_at hl 0 rfl) ?_
    refine va_get (D := (dC, dI)) (ci := 3) (v := .int 0) (C := RX3) (T := TX3) (N := 14) hx hb hts iwwsX10_use_3 hown hK hP 2 rfl rfl 11 (by decide) (hts (.fieldLink RX10 157 "NothingJudge$Program" "uses" "I") fwwsX10_use_157) (fun _ h9 => h9) rfl dX10_use_14 ?_
    refine lv_icmp_lt (tgt := 22) hx hb dX10_use_17 (by decide) (fun c9 => absurd c9 c_213) (fun _ => ?_)
    refine lv_iconst (v := (-1)) hx hb dX10_use_20 (by decide) ?_
    have hP9 := hP.sub (ws' := []) [] rfl
    have hD9 := hD.sub (ws' := []) [] (by decide) rfl
    exact W.iret (v := (-1)) hx hb hr (fun t ht hW => ⟨⟨(-1), (), rfl, rfl, by rw [ht]; exact hP9, hD9⟩, hS.F ht⟩) hS.2.2 dX10_use_21

set_option maxHeartbeats 4000000 in
set_option maxRecDepth 100000 in
theorem c_test (l : Launch) (dC : Nat → ClassId) (dI : Nat → Nat → Nat) (cI cB cL cZ : ClassId) (h0 : Nat) (tp : Nat) (tok : Nat) (sp : Nat) (rdr : Nat) (scn : Nat) (fct : Nat) (rnr : Nat) (trl : Nat) (mnd : Nat) (rrw : Nat) (g : Nat) (td : Nat) (gc : Nat) (ga1 : Nat) (ga2 : Nat) (ga3 : Nat) (ga4 : Nat) (ga5 : Nat) (ga6 : Nat) (ga7 : Nat) (ga8 : Nat) (a : Int32) (b : Int32) (sz : Nat)  : Met l yX10_test wsX10_test ({ frames := 0, cells := 0, slots := 0, locals := 0 }) (cP (dC, dI) (kTy cI cB cL cZ) [.ref h0, .int a, .int b] [(h0, .inr (9, [.ref tp, .int 0, .ref tok, .ref sp, .ref rdr, .int 0, .int (-1), .ref scn, .ref fct, .ref rnr, .ref trl, .ref mnd, .ref rrw])), (scn, .inr (6, [.ref g, .int (-1), .ref td])), (g, .inr (3, [.ref gc, .ref ga1, .ref ga2, .ref ga3, .ref ga4, .ref ga5, .ref ga6, .ref ga7, .ref ga8, .int 0, .int 0, .int 0, .int 0, .int (-1)]))] sz) (va_Qi (fun (r : Int32) (_ : Unit) => r = -1) (fun (_ : Unit) (t : State) => va_P (dC, dI) vwCl [] t.heap ∧ va_D (va_A [(h0, .inr (9, [.ref tp, .int 0, .ref tok, .ref sp, .ref rdr, .int 0, .int (-1), .ref scn, .ref fct, .ref rnr, .ref trl, .ref mnd, .ref rrw])), (scn, .inr (6, [.ref g, .int (-1), .ref td])), (g, .inr (3, [.ref gc, .ref ga1, .ref ga2, .ref ga3, .ref ga4, .ref ga5, .ref ga6, .ref ga7, .ref ga8, .int 0, .int 0, .int 0, .int 0, .int (-1)]))] sz) []) (va_A [(h0, .inr (9, [.ref tp, .int 0, .ref tok, .ref sp, .ref rdr, .int 0, .int (-1), .ref scn, .ref fct, .ref rnr, .ref trl, .ref mnd, .ref rrw])), (scn, .inr (6, [.ref g, .int (-1), .ref td])), (g, .inr (3, [.ref gc, .ref ga1, .ref ga2, .ref ga3, .ref ga4, .ref ga5, .ref ga6, .ref ga7, .ref ga8, .int 0, .int 0, .int 0, .int 0, .int (-1)]))] sz)) 0 0 (va_A [(h0, .inr (9, [.ref tp, .int 0, .ref tok, .ref sp, .ref rdr, .int 0, .int (-1), .ref scn, .ref fct, .ref rnr, .ref trl, .ref mnd, .ref rrw])), (scn, .inr (6, [.ref g, .int (-1), .ref td])), (g, .inr (3, [.ref gc, .ref ga1, .ref ga2, .ref ga3, .ref ga4, .ref ga5, .ref ga6, .ref ga7, .ref ga8, .int 0, .int 0, .int 0, .int 0, .int (-1)]))] sz) := by
  refine Met.ofW (cc := cX10_test) (maxL := 4) (ret := (some .int)) (by decide) rfl ?_
  intro p e s m args below meth c s₁ B hml hv
  obtain ⟨rfl, hsz, hP, hK, hD0, hN⟩ := hv
  have hx := B.exec
  have hb := B.bytes
  have hr := B.returns
  have hts := atoms_spec (ws := wsX10_test) B.pre
  have hown : s.vm.findClass RX10 = some m.cls := findClass_of_methodNamed B.named
  have hlocks := B.notSynchronized
  subst hsz
  have hD := hD0.self (sz := s.heap.size)
  generalize hAe : va_A [(h0, .inr (9, [.ref tp, .int 0, .ref tok, .ref sp, .ref rdr, .int 0, .int (-1), .ref scn, .ref fct, .ref rnr, .ref trl, .ref mnd, .ref rrw])), (scn, .inr (6, [.ref g, .int (-1), .ref td])), (g, .inr (3, [.ref gc, .ref ga1, .ref ga2, .ref ga3, .ref ga4, .ref ga5, .ref ga6, .ref ga7, .ref ga8, .int 0, .int 0, .int 0, .int 0, .int (-1)]))] s.heap.size = A at hD ⊢
  have hA : ∀ q : Nat, s.heap.size ≤ q → A q := fun q h => by rw [← hAe]; exact Or.inr h
  have hl := lv_entry ([.ref h0, .int a, .int b]) (n := 4) (Nat.le_of_ble_eq_true rfl)
  rw [lg_entry_eq]
  generalize (lg_sl ([.ref h0, .int a, .int b]) ++ List.replicate (4 - (lg_sl ([.ref h0, .int a, .int b])).length) Slot.unset).toArray = ls at hl ⊢
  have hl : lv_has ls 4 [(0, .ref h0), (1, .int a), (2, .int b)] := hl
  refine k_H (A := A) hP (fun H hP hS => ?_)
  have hP : va_P (dC, dI) vwCl [(h0, .inr (9, [.ref tp, .int 0, .ref tok, .ref sp, .ref rdr, .int 0, .int (-1), .ref scn, .ref fct, .ref rnr, .ref trl, .ref mnd, .ref rrw])), (scn, .inr (6, [.ref g, .int (-1), .ref td])), (g, .inr (3, [.ref gc, .ref ga1, .ref ga2, .ref ga3, .ref ga4, .ref ga5, .ref ga6, .ref ga7, .ref ga8, .int 0, .int 0, .int 0, .int 0, .int (-1)]))] H := hP
  have hD : va_D A [(h0, .inr (9, [.ref tp, .int 0, .ref tok, .ref sp, .ref rdr, .int 0, .int (-1), .ref scn, .ref fct, .ref rnr, .ref trl, .ref mnd, .ref rrw])), (scn, .inr (6, [.ref g, .int (-1), .ref td])), (g, .inr (3, [.ref gc, .ref ga1, .ref ga2, .ref ga3, .ref ga4, .ref ga5, .ref ga6, .ref ga7, .ref ga8, .int 0, .int 0, .int 0, .int 0, .int (-1)]))] := hD
  refine lv_aload_n hx hb dX10_test_0 rfl (lv_at hl 0 rfl) ?_
  refine va_get (D := (dC, dI)) (ci := 9) (v := .ref scn) (C := RX10) (T := TX10) (N := 13) hx hb hts iwwsX10_test_10 hown hK hP 0 rfl rfl 7 (by decide) (hts (.fieldLink RX10 45 "NothingJudge" "scene" "LNothingJudge$Scene;") fwwsX10_test_45) (fun _ h9 => h9) rfl dX10_test_1 ?_
  refine va_get (D := (dC, dI)) (ci := 6) (v := .ref g) (C := RX7) (T := TX7) (N := 3) hx hb hts iwwsX10_test_7 hown hK hP 1 rfl rfl 0 (by decide) (hts (.fieldLink RX10 110 "NothingJudge$Scene" "program" "LNothingJudge$Program;") fwwsX10_test_110) (fun _ h9 => h9) rfl dX10_test_4 ?_
  refine lv_astore_n (lv' := [(3, .ref g), (0, .ref h0), (1, .int a), (2, .int b)]) hx hb dX10_test_7 rfl hl (by decide) rfl (fun ls hl => ?_)
  refine lv_iload_n hx hb dX10_test_8 rfl (lv_at hl 2 rfl) ?_
  refine lv_if_lt (tgt := 20) hx hb dX10_test_9 (by decide) (fun c_214 => ?_) (fun c_214 => ?_)
  · refine lv_iconst (v := (-1)) hx hb dX10_test_20 (by decide) ?_
    have hP9 := hP.sub (ws' := []) [] rfl
    have hD9 := hD.sub (ws' := []) [] (by decide) rfl
    exact W.iret (v := (-1)) hx hb hr (fun t ht hW => ⟨⟨(-1), (), rfl, rfl, by rw [ht]; exact hP9, hD9⟩, hS.F ht⟩) hS.2.2 dX10_test_21
  · refine lv_iload_n hx hb dX10_test_12 rfl (lv_at hl 2 rfl) ?_
    refine lv_aload_n hx hb dX10_test_13 rfl (lv_at hl 0 rfl) ?_
    refine va_get (D := (dC, dI)) (ci := 3) (v := .int 0) (C := RX3) (T := TX3) (N := 14) hx hb hts iwwsX10_test_3 hown hK hP 2 rfl rfl 12 (by decide) (hts (.fieldLink RX10 176 "NothingJudge$Program" "tests" "I") fwwsX10_test_176) (fun _ h9 => h9) rfl dX10_test_14 ?_
    refine lv_icmp_lt (tgt := 22) hx hb dX10_test_17 (by decide) (fun c9 => absurd c9 c_214) (fun _ => ?_)
    refine lv_iconst (v := (-1)) hx hb dX10_test_20 (by decide) ?_
    have hP9 := hP.sub (ws' := []) [] rfl
    have hD9 := hD.sub (ws' := []) [] (by decide) rfl
    exact W.iret (v := (-1)) hx hb hr (fun t ht hW => ⟨⟨(-1), (), rfl, rfl, by rw [ht]; exact hP9, hD9⟩, hS.F ht⟩) hS.2.2 dX10_test_21

set_option maxHeartbeats 4000000 in
set_option maxRecDepth 100000 in
theorem c_tries (l : Launch) (dC : Nat → ClassId) (dI : Nat → Nat → Nat) (cI cB cL cZ : ClassId) (h0 : Nat) (tp : Nat) (tok : Nat) (sp : Nat) (rdr : Nat) (scn : Nat) (fct : Nat) (rnr : Nat) (trl : Nat) (mnd : Nat) (rrw : Nat) (g : Nat) (td : Nat) (gc : Nat) (ga1 : Nat) (ga2 : Nat) (ga3 : Nat) (ga4 : Nat) (ga5 : Nat) (ga6 : Nat) (ga7 : Nat) (ga8 : Nat) (a : Int32) (sz : Nat)  : Met l yX10_tries wsX10_tries ({ frames := 0, cells := 0, slots := 0, locals := 0 }) (cP (dC, dI) (kTy cI cB cL cZ) [.ref h0, .int a] [(h0, .inr (9, [.ref tp, .int 0, .ref tok, .ref sp, .ref rdr, .int 0, .int (-1), .ref scn, .ref fct, .ref rnr, .ref trl, .ref mnd, .ref rrw])), (scn, .inr (6, [.ref g, .int (-1), .ref td])), (g, .inr (3, [.ref gc, .ref ga1, .ref ga2, .ref ga3, .ref ga4, .ref ga5, .ref ga6, .ref ga7, .ref ga8, .int 0, .int 0, .int 0, .int 0, .int (-1)]))] sz) (va_Qi (fun (r : Int32) (_ : Unit) => r = -1) (fun (_ : Unit) (t : State) => va_P (dC, dI) vwCl [] t.heap ∧ va_D (va_A [(h0, .inr (9, [.ref tp, .int 0, .ref tok, .ref sp, .ref rdr, .int 0, .int (-1), .ref scn, .ref fct, .ref rnr, .ref trl, .ref mnd, .ref rrw])), (scn, .inr (6, [.ref g, .int (-1), .ref td])), (g, .inr (3, [.ref gc, .ref ga1, .ref ga2, .ref ga3, .ref ga4, .ref ga5, .ref ga6, .ref ga7, .ref ga8, .int 0, .int 0, .int 0, .int 0, .int (-1)]))] sz) []) (va_A [(h0, .inr (9, [.ref tp, .int 0, .ref tok, .ref sp, .ref rdr, .int 0, .int (-1), .ref scn, .ref fct, .ref rnr, .ref trl, .ref mnd, .ref rrw])), (scn, .inr (6, [.ref g, .int (-1), .ref td])), (g, .inr (3, [.ref gc, .ref ga1, .ref ga2, .ref ga3, .ref ga4, .ref ga5, .ref ga6, .ref ga7, .ref ga8, .int 0, .int 0, .int 0, .int 0, .int (-1)]))] sz)) 0 0 (va_A [(h0, .inr (9, [.ref tp, .int 0, .ref tok, .ref sp, .ref rdr, .int 0, .int (-1), .ref scn, .ref fct, .ref rnr, .ref trl, .ref mnd, .ref rrw])), (scn, .inr (6, [.ref g, .int (-1), .ref td])), (g, .inr (3, [.ref gc, .ref ga1, .ref ga2, .ref ga3, .ref ga4, .ref ga5, .ref ga6, .ref ga7, .ref ga8, .int 0, .int 0, .int 0, .int 0, .int (-1)]))] sz) := by
  refine Met.ofW (cc := cX10_tries) (maxL := 2) (ret := (some .int)) (by decide) rfl ?_
  intro p e s m args below meth c s₁ B hml hv
  obtain ⟨rfl, hsz, hP, hK, hD0, hN⟩ := hv
  have hx := B.exec
  have hb := B.bytes
  have hr := B.returns
  have hts := atoms_spec (ws := wsX10_tries) B.pre
  have hown : s.vm.findClass RX10 = some m.cls := findClass_of_methodNamed B.named
  have hlocks := B.notSynchronized
  subst hsz
  have hD := hD0.self (sz := s.heap.size)
  generalize hAe : va_A [(h0, .inr (9, [.ref tp, .int 0, .ref tok, .ref sp, .ref rdr, .int 0, .int (-1), .ref scn, .ref fct, .ref rnr, .ref trl, .ref mnd, .ref rrw])), (scn, .inr (6, [.ref g, .int (-1), .ref td])), (g, .inr (3, [.ref gc, .ref ga1, .ref ga2, .ref ga3, .ref ga4, .ref ga5, .ref ga6, .ref ga7, .ref ga8, .int 0, .int 0, .int 0, .int 0, .int (-1)]))] s.heap.size = A at hD ⊢
  have hA : ∀ q : Nat, s.heap.size ≤ q → A q := fun q h => by rw [← hAe]; exact Or.inr h
  have hl := lv_entry ([.ref h0, .int a]) (n := 2) (Nat.le_of_ble_eq_true rfl)
  rw [lg_entry_eq]
  generalize (lg_sl ([.ref h0, .int a]) ++ List.replicate (2 - (lg_sl ([.ref h0, .int a])).length) Slot.unset).toArray = ls at hl ⊢
  have hl : lv_has ls 2 [(0, .ref h0), (1, .int a)] := hl
  refine k_H (A := A) hP (fun H hP hS => ?_)
  have hP : va_P (dC, dI) vwCl [(h0, .inr (9, [.ref tp, .int 0, .ref tok, .ref sp, .ref rdr, .int 0, .int (-1), .ref scn, .ref fct, .ref rnr, .ref trl, .ref mnd, .ref rrw])), (scn, .inr (6, [.ref g, .int (-1), .ref td])), (g, .inr (3, [.ref gc, .ref ga1, .ref ga2, .ref ga3, .ref ga4, .ref ga5, .ref ga6, .ref ga7, .ref ga8, .int 0, .int 0, .int 0, .int 0, .int (-1)]))] H := hP
  have hD : va_D A [(h0, .inr (9, [.ref tp, .int 0, .ref tok, .ref sp, .ref rdr, .int 0, .int (-1), .ref scn, .ref fct, .ref rnr, .ref trl, .ref mnd, .ref rrw])), (scn, .inr (6, [.ref g, .int (-1), .ref td])), (g, .inr (3, [.ref gc, .ref ga1, .ref ga2, .ref ga3, .ref ga4, .ref ga5, .ref ga6, .ref ga7, .ref ga8, .int 0, .int 0, .int 0, .int 0, .int (-1)]))] := hD
  refine lv_iload_n hx hb dX10_tries_0 rfl (lv_at hl 1 rfl) ?_
  refine lv_if_lt (tgt := 18) hx hb dX10_tries_1 (by decide) (fun c_215 => ?_) (fun c_215 => ?_)
  · refine lv_iconst (v := (-1)) hx hb dX10_tries_18 (by decide) ?_
    have hP9 := hP.sub (ws' := []) [] rfl
    have hD9 := hD.sub (ws' := []) [] (by decide) rfl
    exact W.iret (v := (-1)) hx hb hr (fun t ht hW => ⟨⟨(-1), (), rfl, rfl, by rw [ht]; exact hP9, hD9⟩, hS.F ht⟩) hS.2.2 dX10_tries_19
  · refine lv_iload_n hx hb dX10_tries_4 rfl (lv_at hl 1 rfl) ?_
    refine lv_aload_n hx hb dX10_tries_5 rfl (lv_at hl 0 rfl) ?_
    refine va_get (D := (dC, dI)) (ci := 9) (v := .ref scn) (C := RX10) (T := TX10) (N := 13) hx hb hts iwwsX10_tries_10 hown hK hP 0 rfl rfl 7 (by decide) (hts (.fieldLink RX10 45 "NothingJudge" "scene" "LNothingJudge$Scene;") fwwsX10_tries_45) (fun _ h9 => h9) rfl dX10_tries_6 ?_
    refine va_get (D := (dC, dI)) (ci := 6) (v := .ref g) (C := RX7) (T := TX7) (N := 3) hx hb hts iwwsX10_tries_7 hown hK hP 1 rfl rfl 0 (by decide) (hts (.fieldLink RX10 110 "NothingJudge$Scene" "program" "LNothingJudge$Program;") fwwsX10_tries_110) (fun _ h9 => h9) rfl dX10_tries_9 ?_
    refine va_get (D := (dC, dI)) (ci := 3) (v := .int 0) (C := RX3) (T := TX3) (N := 14) hx hb hts iwwsX10_tries_3 hown hK hP 2 rfl rfl 11 (by decide) (hts (.fieldLink RX10 157 "NothingJudge$Program" "uses" "I") fwwsX10_tries_157) (fun _ h9 => h9) rfl dX10_tries_12 ?_
    refine lv_icmp_lt (tgt := 20) hx hb dX10_tries_15 (by decide) (fun c9 => absurd c9 c_215) (fun _ => ?_)
    refine lv_iconst (v := (-1)) hx hb dX10_tries_18 (by decide) ?_
    have hP9 := hP.sub (ws' := []) [] rfl
    have hD9 := hD.sub (ws' := []) [] (by decide) rfl
    exact W.iret (v := (-1)) hx hb hr (fun t ht hW => ⟨⟨(-1), (), rfl, rfl, by rw [ht]; exact hP9, hD9⟩, hS.F ht⟩) hS.2.2 dX10_tries_19

set_option maxHeartbeats 4000000 in
set_option maxRecDepth 100000 in
theorem c_run (l : Launch) (dC : Nat → ClassId) (dI : Nat → Nat → Nat) (cI cB cL cZ : ClassId) (h0 : Nat) (tp : Nat) (tok : Nat) (sp : Nat) (rdr : Nat) (scn : Nat) (fct : Nat) (rnr : Nat) (trl : Nat) (mnd : Nat) (rrw : Nat) (g : Nat) (td : Nat) (gc : Nat) (ga1 : Nat) (ga2 : Nat) (ga3 : Nat) (ga4 : Nat) (ga5 : Nat) (ga6 : Nat) (ga7 : Nat) (ga8 : Nat) (a : Int32) (b : Int32) (sz : Nat)  : Met l yX10_run wsX10_run ({ frames := 2, cells := 0, slots := 0, locals := 44 }) (cP (dC, dI) (kTy cI cB cL cZ) [.ref h0, .int a, .int b] [(h0, .inr (9, [.ref tp, .int 0, .ref tok, .ref sp, .ref rdr, .int 0, .int (-1), .ref scn, .ref fct, .ref rnr, .ref trl, .ref mnd, .ref rrw])), (scn, .inr (6, [.ref g, .int (-1), .ref td])), (g, .inr (3, [.ref gc, .ref ga1, .ref ga2, .ref ga3, .ref ga4, .ref ga5, .ref ga6, .ref ga7, .ref ga8, .int 0, .int 0, .int 0, .int 0, .int (-1)]))] sz) (va_Qi (fun (r : Int32) (_ : Unit) => r = -1) (fun (_ : Unit) (t : State) => va_P (dC, dI) vwCl [] t.heap ∧ va_D (va_A [(h0, .inr (9, [.ref tp, .int 0, .ref tok, .ref sp, .ref rdr, .int 0, .int (-1), .ref scn, .ref fct, .ref rnr, .ref trl, .ref mnd, .ref rrw])), (scn, .inr (6, [.ref g, .int (-1), .ref td])), (g, .inr (3, [.ref gc, .ref ga1, .ref ga2, .ref ga3, .ref ga4, .ref ga5, .ref ga6, .ref ga7, .ref ga8, .int 0, .int 0, .int 0, .int 0, .int (-1)]))] sz) []) (va_A [(h0, .inr (9, [.ref tp, .int 0, .ref tok, .ref sp, .ref rdr, .int 0, .int (-1), .ref scn, .ref fct, .ref rnr, .ref trl, .ref mnd, .ref rrw])), (scn, .inr (6, [.ref g, .int (-1), .ref td])), (g, .inr (3, [.ref gc, .ref ga1, .ref ga2, .ref ga3, .ref ga4, .ref ga5, .ref ga6, .ref ga7, .ref ga8, .int 0, .int 0, .int 0, .int 0, .int (-1)]))] sz)) 0 0 (va_A [(h0, .inr (9, [.ref tp, .int 0, .ref tok, .ref sp, .ref rdr, .int 0, .int (-1), .ref scn, .ref fct, .ref rnr, .ref trl, .ref mnd, .ref rrw])), (scn, .inr (6, [.ref g, .int (-1), .ref td])), (g, .inr (3, [.ref gc, .ref ga1, .ref ga2, .ref ga3, .ref ga4, .ref ga5, .ref ga6, .ref ga7, .ref ga8, .int 0, .int 0, .int 0, .int 0, .int (-1)]))] sz) := by
  refine Met.ofW (cc := cX10_run) (maxL := 4) (ret := (some .int)) (by decide) rfl ?_
  intro p e s m args below meth c s₁ B hml hv
  obtain ⟨rfl, hsz, hP, hK, hD0, hN⟩ := hv
  have hx := B.exec
  have hb := B.bytes
  have hr := B.returns
  have hts := atoms_spec (ws := wsX10_run) B.pre
  have hown : s.vm.findClass RX10 = some m.cls := findClass_of_methodNamed B.named
  have hlocks := B.notSynchronized
  subst hsz
  have hD := hD0.self (sz := s.heap.size)
  generalize hAe : va_A [(h0, .inr (9, [.ref tp, .int 0, .ref tok, .ref sp, .ref rdr, .int 0, .int (-1), .ref scn, .ref fct, .ref rnr, .ref trl, .ref mnd, .ref rrw])), (scn, .inr (6, [.ref g, .int (-1), .ref td])), (g, .inr (3, [.ref gc, .ref ga1, .ref ga2, .ref ga3, .ref ga4, .ref ga5, .ref ga6, .ref ga7, .ref ga8, .int 0, .int 0, .int 0, .int 0, .int (-1)]))] s.heap.size = A at hD ⊢
  have hA : ∀ q : Nat, s.heap.size ≤ q → A q := fun q h => by rw [← hAe]; exact Or.inr h
  have hl := lv_entry ([.ref h0, .int a, .int b]) (n := 4) (Nat.le_of_ble_eq_true rfl)
  rw [lg_entry_eq]
  generalize (lg_sl ([.ref h0, .int a, .int b]) ++ List.replicate (4 - (lg_sl ([.ref h0, .int a, .int b])).length) Slot.unset).toArray = ls at hl ⊢
  have hl : lv_has ls 4 [(0, .ref h0), (1, .int a), (2, .int b)] := hl
  refine k_H (A := A) hP (fun H hP hS => ?_)
  have hP : va_P (dC, dI) vwCl [(h0, .inr (9, [.ref tp, .int 0, .ref tok, .ref sp, .ref rdr, .int 0, .int (-1), .ref scn, .ref fct, .ref rnr, .ref trl, .ref mnd, .ref rrw])), (scn, .inr (6, [.ref g, .int (-1), .ref td])), (g, .inr (3, [.ref gc, .ref ga1, .ref ga2, .ref ga3, .ref ga4, .ref ga5, .ref ga6, .ref ga7, .ref ga8, .int 0, .int 0, .int 0, .int 0, .int (-1)]))] H := hP
  have hD : va_D A [(h0, .inr (9, [.ref tp, .int 0, .ref tok, .ref sp, .ref rdr, .int 0, .int (-1), .ref scn, .ref fct, .ref rnr, .ref trl, .ref mnd, .ref rrw])), (scn, .inr (6, [.ref g, .int (-1), .ref td])), (g, .inr (3, [.ref gc, .ref ga1, .ref ga2, .ref ga3, .ref ga4, .ref ga5, .ref ga6, .ref ga7, .ref ga8, .int 0, .int 0, .int 0, .int 0, .int (-1)]))] := hD
  refine lv_iload_n hx hb dX10_run_0 rfl (lv_at hl 2 rfl) ?_
  refine lv_if_lt (tgt := 22) hx hb dX10_run_1 (by decide) (fun c_216 => ?_) (fun c_216 => ?_)
  · refine lv_iconst (v := (-1)) hx hb dX10_run_22 (by decide) ?_
    have hP9 := hP.sub (ws' := []) [] rfl
    have hD9 := hD.sub (ws' := []) [] (by decide) rfl
    exact W.iret (v := (-1)) hx hb hr (fun t ht hW => ⟨⟨(-1), (), rfl, rfl, by rw [ht]; exact hP9, hD9⟩, hS.F ht⟩) hS.2.2 dX10_run_23
  · refine lv_iload_n hx hb dX10_run_4 rfl (lv_at hl 2 rfl) ?_
    refine lv_sipush (v := 256) hx hb dX10_run_5 (by decide) ?_
    refine lv_icmp_ge (tgt := 22) hx hb dX10_run_8 (by decide) (fun c_217 => ?_) (fun c_217 => ?_)
    · refine lv_iconst (v := (-1)) hx hb dX10_run_22 (by decide) ?_
      have hP9 := hP.sub (ws' := []) [] rfl
      have hD9 := hD.sub (ws' := []) [] (by decide) rfl
      exact W.iret (v := (-1)) hx hb hr (fun t ht hW => ⟨⟨(-1), (), rfl, rfl, by rw [ht]; exact hP9, hD9⟩, hS.F ht⟩) hS.2.2 dX10_run_23
    · refine lv_aload_n hx hb dX10_run_11 rfl (lv_at hl 0 rfl) ?_
      refine va_get (D := (dC, dI)) (ci := 9) (v := .ref scn) (C := RX10) (T := TX10) (N := 13) hx hb hts iwwsX10_run_10 hown hK hP 0 rfl rfl 7 (by decide) (hts (.fieldLink RX10 45 "NothingJudge" "scene" "LNothingJudge$Scene;") fwwsX10_run_45) (fun _ h9 => h9) rfl dX10_run_12 ?_
      refine lv_iload_n hx hb dX10_run_15 rfl (lv_at hl 1 rfl) ?_
      have hPc := hP.sub (ws' := [(scn, .inr (6, [.ref g, .int (-1), .ref td])), (g, .inr (3, [.ref gc, .ref ga1, .ref ga2, .ref ga3, .ref ga4, .ref ga5, .ref ga6, .ref ga7, .ref ga8, .int 0, .int 0, .int 0, .int 0, .int (-1)]))]) [1, 2] rfl
      have hDc := hD.sub (ws' := [(scn, .inr (6, [.ref g, .int (-1), .ref td])), (g, .inr (3, [.ref gc, .ref ga1, .ref ga2, .ref ga3, .ref ga4, .ref ga5, .ref ga6, .ref ga7, .ref ga8, .int 0, .int 0, .int 0, .int 0, .int (-1)]))]) [1, 2] (by decide) rfl
      have hFc := va_free (wc := [(scn, .inr (6, [.ref g, .int (-1), .ref td])), (g, .inr (3, [.ref gc, .ref ga1, .ref ga2, .ref ga3, .ref ga4, .ref ga5, .ref ga6, .ref ga7, .ref ga8, .int 0, .int 0, .int 0, .int 0, .int (-1)]))]) hD hS hA [1, 2] rfl
      refine va_calli (va_runV (As := [.int a]) (rest := []) ⟨hx, hb, hml, hown, hts⟩ (c_allows l dC dI cI cB cL cZ (scn) (g) (td) (gc) (ga1) (ga2) (ga3) (ga4) (ga5) (ga6) (ga7) (ga8) (a) H.size) (cwV 1 hts gX10_run_X7_allows rfl rfl rfl (by decide +kernel) ⟨Nat.le_of_ble_eq_true rfl, Nat.le_of_ble_eq_true rfl⟩) ⟨cP_fb, va_recv hK hPc (ci := 6) (q0 := 0) rfl rfl, fun U hU hW => cP_pre hPc hK hDc hN U hU hW⟩ rfl rfl hl.1 rfl (lv_room (Nat.le_of_ble_eq_true rfl)) dX10_run_16 ⟨Nat.le_of_ble_eq_true rfl, Nat.le_of_ble_eq_true rfl⟩) hS (fun q _ h => hFc q h) hFc (fun r_218 u t H1 locs ht hvm hw hB hz1 hk1 hS => ?_)
      obtain ⟨hP1, hD1⟩ := hB
      rw [ht] at hP1
      obtain ⟨hP, hD⟩ := va_join (wr := [(h0, .inr (9, [.ref tp, .int 0, .ref tok, .ref sp, .ref rdr, .int 0, .int (-1), .ref scn, .ref fct, .ref rnr, .ref trl, .ref mnd, .ref rrw]))]) (w1 := []) hP hD [1, 2] [0] rfl rfl (by decide) (by decide) hk1 hFc hP1 hD1
      generalize H1 = H at hP hS ⊢
      have hP : va_P (dC, dI) vwCl [(h0, .inr (9, [.ref tp, .int 0, .ref tok, .ref sp, .ref rdr, .int 0, .int (-1), .ref scn, .ref fct, .ref rnr, .ref trl, .ref mnd, .ref rrw]))] H := hP
      have hD : va_D A [(h0, .inr (9, [.ref tp, .int 0, .ref tok, .ref sp, .ref rdr, .int 0, .int (-1), .ref scn, .ref fct, .ref rnr, .ref trl, .ref mnd, .ref rrw]))] := hD
      obtain rfl : r_218 = 0 := hw
      refine lv_if_ne (tgt := 24) hx hb dX10_run_19 (by decide) (fun c9 => absurd c9 (by decide)) (fun _ => ?_)
      refine lv_iconst (v := (-1)) hx hb dX10_run_22 (by decide) ?_
      have hP9 := hP.sub (ws' := []) [] rfl
      have hD9 := hD.sub (ws' := []) [] (by decide) rfl
      exact W.iret (v := (-1)) hx hb hr (fun t ht hW => ⟨⟨(-1), (), rfl, rfl, by rw [ht]; exact hP9, hD9⟩, hS.F ht⟩) hS.2.2 dX10_run_23

set_option maxHeartbeats 4000000 in
set_option maxRecDepth 100000 in
theorem c_mend (l : Launch) (dC : Nat → ClassId) (dI : Nat → Nat → Nat) (cI cB cL cZ : ClassId) (h0 : Nat) (tp : Nat) (tok : Nat) (sp : Nat) (rdr : Nat) (scn : Nat) (fct : Nat) (rnr : Nat) (trl : Nat) (mnd : Nat) (rrw : Nat) (g : Nat) (td : Nat) (gc : Nat) (ga1 : Nat) (ga2 : Nat) (ga3 : Nat) (ga4 : Nat) (ga5 : Nat) (ga6 : Nat) (ga7 : Nat) (ga8 : Nat) (sz : Nat)  : Met l yX10_mend wsX10_mend ({ frames := 0, cells := 0, slots := 0, locals := 0 }) (cP (dC, dI) (kTy cI cB cL cZ) [.ref h0] [(h0, .inr (9, [.ref tp, .int 0, .ref tok, .ref sp, .ref rdr, .int 0, .int (-1), .ref scn, .ref fct, .ref rnr, .ref trl, .ref mnd, .ref rrw])), (scn, .inr (6, [.ref g, .int (-1), .ref td])), (g, .inr (3, [.ref gc, .ref ga1, .ref ga2, .ref ga3, .ref ga4, .ref ga5, .ref ga6, .ref ga7, .ref ga8, .int 0, .int 0, .int 0, .int 0, .int (-1)]))] sz) (va_Qi (fun (r : Int32) (_ : Unit) => r = -1) (fun (_ : Unit) (t : State) => va_P (dC, dI) vwCl [] t.heap ∧ va_D (va_A [(h0, .inr (9, [.ref tp, .int 0, .ref tok, .ref sp, .ref rdr, .int 0, .int (-1), .ref scn, .ref fct, .ref rnr, .ref trl, .ref mnd, .ref rrw])), (scn, .inr (6, [.ref g, .int (-1), .ref td])), (g, .inr (3, [.ref gc, .ref ga1, .ref ga2, .ref ga3, .ref ga4, .ref ga5, .ref ga6, .ref ga7, .ref ga8, .int 0, .int 0, .int 0, .int 0, .int (-1)]))] sz) []) (va_A [(h0, .inr (9, [.ref tp, .int 0, .ref tok, .ref sp, .ref rdr, .int 0, .int (-1), .ref scn, .ref fct, .ref rnr, .ref trl, .ref mnd, .ref rrw])), (scn, .inr (6, [.ref g, .int (-1), .ref td])), (g, .inr (3, [.ref gc, .ref ga1, .ref ga2, .ref ga3, .ref ga4, .ref ga5, .ref ga6, .ref ga7, .ref ga8, .int 0, .int 0, .int 0, .int 0, .int (-1)]))] sz)) 0 0 (va_A [(h0, .inr (9, [.ref tp, .int 0, .ref tok, .ref sp, .ref rdr, .int 0, .int (-1), .ref scn, .ref fct, .ref rnr, .ref trl, .ref mnd, .ref rrw])), (scn, .inr (6, [.ref g, .int (-1), .ref td])), (g, .inr (3, [.ref gc, .ref ga1, .ref ga2, .ref ga3, .ref ga4, .ref ga5, .ref ga6, .ref ga7, .ref ga8, .int 0, .int 0, .int 0, .int 0, .int (-1)]))] sz) := by
  refine Met.ofW (cc := cX10_mend) (maxL := 1) (ret := (some .int)) (by decide) rfl ?_
  intro p e s m args below meth c s₁ B hml hv
  obtain ⟨rfl, hsz, hP, hK, hD0, hN⟩ := hv
  have hx := B.exec
  have hb := B.bytes
  have hr := B.returns
  have hts := atoms_spec (ws := wsX10_mend) B.pre
  have hown : s.vm.findClass RX10 = some m.cls := findClass_of_methodNamed B.named
  have hlocks := B.notSynchronized
  subst hsz
  have hD := hD0.self (sz := s.heap.size)
  generalize hAe : va_A [(h0, .inr (9, [.ref tp, .int 0, .ref tok, .ref sp, .ref rdr, .int 0, .int (-1), .ref scn, .ref fct, .ref rnr, .ref trl, .ref mnd, .ref rrw])), (scn, .inr (6, [.ref g, .int (-1), .ref td])), (g, .inr (3, [.ref gc, .ref ga1, .ref ga2, .ref ga3, .ref ga4, .ref ga5, .ref ga6, .ref ga7, .ref ga8, .int 0, .int 0, .int 0, .int 0, .int (-1)]))] s.heap.size = A at hD ⊢
  have hA : ∀ q : Nat, s.heap.size ≤ q → A q := fun q h => by rw [← hAe]; exact Or.inr h
  have hl := lv_entry ([.ref h0]) (n := 1) (Nat.le_of_ble_eq_true rfl)
  rw [lg_entry_eq]
  generalize (lg_sl ([.ref h0]) ++ List.replicate (1 - (lg_sl ([.ref h0])).length) Slot.unset).toArray = ls at hl ⊢
  have hl : lv_has ls 1 [(0, .ref h0)] := hl
  refine k_H (A := A) hP (fun H hP hS => ?_)
  have hP : va_P (dC, dI) vwCl [(h0, .inr (9, [.ref tp, .int 0, .ref tok, .ref sp, .ref rdr, .int 0, .int (-1), .ref scn, .ref fct, .ref rnr, .ref trl, .ref mnd, .ref rrw])), (scn, .inr (6, [.ref g, .int (-1), .ref td])), (g, .inr (3, [.ref gc, .ref ga1, .ref ga2, .ref ga3, .ref ga4, .ref ga5, .ref ga6, .ref ga7, .ref ga8, .int 0, .int 0, .int 0, .int 0, .int (-1)]))] H := hP
  have hD : va_D A [(h0, .inr (9, [.ref tp, .int 0, .ref tok, .ref sp, .ref rdr, .int 0, .int (-1), .ref scn, .ref fct, .ref rnr, .ref trl, .ref mnd, .ref rrw])), (scn, .inr (6, [.ref g, .int (-1), .ref td])), (g, .inr (3, [.ref gc, .ref ga1, .ref ga2, .ref ga3, .ref ga4, .ref ga5, .ref ga6, .ref ga7, .ref ga8, .int 0, .int 0, .int 0, .int 0, .int (-1)]))] := hD
  refine lv_aload_n hx hb dX10_mend_0 rfl (lv_at hl 0 rfl) ?_
  refine va_get (D := (dC, dI)) (ci := 9) (v := .ref scn) (C := RX10) (T := TX10) (N := 13) hx hb hts iwwsX10_mend_10 hown hK hP 0 rfl rfl 7 (by decide) (hts (.fieldLink RX10 45 "NothingJudge" "scene" "LNothingJudge$Scene;") fwwsX10_mend_45) (fun _ h9 => h9) rfl dX10_mend_1 ?_
  refine va_get (D := (dC, dI)) (ci := 6) (v := .ref g) (C := RX7) (T := TX7) (N := 3) hx hb hts iwwsX10_mend_7 hown hK hP 1 rfl rfl 0 (by decide) (hts (.fieldLink RX10 110 "NothingJudge$Scene" "program" "LNothingJudge$Program;") fwwsX10_mend_110) (fun _ h9 => h9) rfl dX10_mend_4 ?_
  refine va_get (D := (dC, dI)) (ci := 3) (v := .int 0) (C := RX3) (T := TX3) (N := 14) hx hb hts iwwsX10_mend_3 hown hK hP 2 rfl rfl 10 (by decide) (hts (.fieldLink RX10 122 "NothingJudge$Program" "routines" "I") fwwsX10_mend_122) (fun _ h9 => h9) rfl dX10_mend_7 ?_
  refine lv_if_ne (tgt := 15) hx hb dX10_mend_10 (by decide) (fun c9 => absurd c9 (by decide)) (fun _ => ?_)
  refine lv_iconst (v := (-1)) hx hb dX10_mend_13 (by decide) ?_
  have hP9 := hP.sub (ws' := []) [] rfl
  have hD9 := hD.sub (ws' := []) [] (by decide) rfl
  exact W.iret (v := (-1)) hx hb hr (fun t ht hW => ⟨⟨(-1), (), rfl, rfl, by rw [ht]; exact hP9, hD9⟩, hS.F ht⟩) hS.2.2 dX10_mend_14

set_option maxHeartbeats 4000000 in
set_option maxRecDepth 100000 in
theorem c_mended (l : Launch) (dC : Nat → ClassId) (dI : Nat → Nat → Nat) (cI cB cL cZ : ClassId) (h0 : Nat) (tp : Nat) (tok : Nat) (sp : Nat) (rdr : Nat) (scn : Nat) (fct : Nat) (rnr : Nat) (trl : Nat) (mnd : Nat) (rrw : Nat) (md0 : Nat) (mpr : Nat) (md2 : Nat) (md3 : Nat) (a : Int32) (sz : Nat)  : Met l yX10_mended wsX10_mended ({ frames := 0, cells := 0, slots := 0, locals := 0 }) (cP (dC, dI) (kTy cI cB cL cZ) [.ref h0, .int a] [(h0, .inr (9, [.ref tp, .int 0, .ref tok, .ref sp, .ref rdr, .int 0, .int (-1), .ref scn, .ref fct, .ref rnr, .ref trl, .ref mnd, .ref rrw])), (mnd, .inr (2, [.ref md0, .ref mpr, .ref md2, .ref md3, .int 1, .int 0, .int 0, .int (-1), .int 0, .int 0]))] sz) (va_Qi (fun (r : Int32) (_ : Unit) => r = -1) (fun (_ : Unit) (t : State) => va_P (dC, dI) vwCl [] t.heap ∧ va_D (va_A [(h0, .inr (9, [.ref tp, .int 0, .ref tok, .ref sp, .ref rdr, .int 0, .int (-1), .ref scn, .ref fct, .ref rnr, .ref trl, .ref mnd, .ref rrw])), (mnd, .inr (2, [.ref md0, .ref mpr, .ref md2, .ref md3, .int 1, .int 0, .int 0, .int (-1), .int 0, .int 0]))] sz) []) (va_A [(h0, .inr (9, [.ref tp, .int 0, .ref tok, .ref sp, .ref rdr, .int 0, .int (-1), .ref scn, .ref fct, .ref rnr, .ref trl, .ref mnd, .ref rrw])), (mnd, .inr (2, [.ref md0, .ref mpr, .ref md2, .ref md3, .int 1, .int 0, .int 0, .int (-1), .int 0, .int 0]))] sz)) 0 0 (va_A [(h0, .inr (9, [.ref tp, .int 0, .ref tok, .ref sp, .ref rdr, .int 0, .int (-1), .ref scn, .ref fct, .ref rnr, .ref trl, .ref mnd, .ref rrw])), (mnd, .inr (2, [.ref md0, .ref mpr, .ref md2, .ref md3, .int 1, .int 0, .int 0, .int (-1), .int 0, .int 0]))] sz) := by
  refine Met.ofW (cc := cX10_mended) (maxL := 2) (ret := (some .int)) (by decide) rfl ?_
  intro p e s m args below meth c s₁ B hml hv
  obtain ⟨rfl, hsz, hP, hK, hD0, hN⟩ := hv
  have hx := B.exec
  have hb := B.bytes
  have hr := B.returns
  have hts := atoms_spec (ws := wsX10_mended) B.pre
  have hown : s.vm.findClass RX10 = some m.cls := findClass_of_methodNamed B.named
  have hlocks := B.notSynchronized
  subst hsz
  have hD := hD0.self (sz := s.heap.size)
  generalize hAe : va_A [(h0, .inr (9, [.ref tp, .int 0, .ref tok, .ref sp, .ref rdr, .int 0, .int (-1), .ref scn, .ref fct, .ref rnr, .ref trl, .ref mnd, .ref rrw])), (mnd, .inr (2, [.ref md0, .ref mpr, .ref md2, .ref md3, .int 1, .int 0, .int 0, .int (-1), .int 0, .int 0]))] s.heap.size = A at hD ⊢
  have hA : ∀ q : Nat, s.heap.size ≤ q → A q := fun q h => by rw [← hAe]; exact Or.inr h
  have hl := lv_entry ([.ref h0, .int a]) (n := 2) (Nat.le_of_ble_eq_true rfl)
  rw [lg_entry_eq]
  generalize (lg_sl ([.ref h0, .int a]) ++ List.replicate (2 - (lg_sl ([.ref h0, .int a])).length) Slot.unset).toArray = ls at hl ⊢
  have hl : lv_has ls 2 [(0, .ref h0), (1, .int a)] := hl
  refine k_H (A := A) hP (fun H hP hS => ?_)
  have hP : va_P (dC, dI) vwCl [(h0, .inr (9, [.ref tp, .int 0, .ref tok, .ref sp, .ref rdr, .int 0, .int (-1), .ref scn, .ref fct, .ref rnr, .ref trl, .ref mnd, .ref rrw])), (mnd, .inr (2, [.ref md0, .ref mpr, .ref md2, .ref md3, .int 1, .int 0, .int 0, .int (-1), .int 0, .int 0]))] H := hP
  have hD : va_D A [(h0, .inr (9, [.ref tp, .int 0, .ref tok, .ref sp, .ref rdr, .int 0, .int (-1), .ref scn, .ref fct, .ref rnr, .ref trl, .ref mnd, .ref rrw])), (mnd, .inr (2, [.ref md0, .ref mpr, .ref md2, .ref md3, .int 1, .int 0, .int 0, .int (-1), .int 0, .int 0]))] := hD
  refine lv_aload_n hx hb dX10_mended_0 rfl (lv_at hl 0 rfl) ?_
  refine va_get (D := (dC, dI)) (ci := 9) (v := .ref mnd) (C := RX10) (T := TX10) (N := 13) hx hb hts iwwsX10_mended_10 hown hK hP 0 rfl rfl 11 (by decide) (hts (.fieldLink RX10 79 "NothingJudge" "mender" "LNothingJudge$Mender;") fwwsX10_mended_79) (fun _ h9 => h9) rfl dX10_mended_1 ?_
  refine va_get (D := (dC, dI)) (ci := 2) (v := .int (-1)) (C := RX2) (T := TX2) (N := 10) hx hb hts iwwsX10_mended_2 hown hK hP 1 rfl rfl 7 (by decide) (hts (.fieldLink RX10 228 "NothingJudge$Mender" "cost" "I") fwwsX10_mended_228) (fun _ h9 => h9) rfl dX10_mended_4 ?_
  refine lv_iconst (v := (-1)) hx hb dX10_mended_7 (by decide) ?_
  refine lv_icmp_ne (tgt := 13) hx hb dX10_mended_8 (by decide) (fun c9 => absurd c9 (by decide)) (fun _ => ?_)
  refine lv_iconst (v := (-1)) hx hb dX10_mended_11 (by decide) ?_
  have hP9 := hP.sub (ws' := []) [] rfl
  have hD9 := hD.sub (ws' := []) [] (by decide) rfl
  exact W.iret (v := (-1)) hx hb hr (fun t ht hW => ⟨⟨(-1), (), rfl, rfl, by rw [ht]; exact hP9, hD9⟩, hS.F ht⟩) hS.2.2 dX10_mended_12

set_option maxHeartbeats 4000000 in
set_option maxRecDepth 100000 in
theorem c_ran (l : Launch) (dC : Nat → ClassId) (dI : Nat → Nat → Nat) (cI cB cL cZ : ClassId) (h0 : Nat) (tp : Nat) (tok : Nat) (sp : Nat) (rdr : Nat) (scn : Nat) (fct : Nat) (rnr : Nat) (trl : Nat) (mnd : Nat) (rrw : Nat) (a : Int32) (f : Nat → Int32) (sz : Nat) (hf : ∀ j, j < 4 → f j = -1) : Met l yX10_ran wsX10_ran ({ frames := 0, cells := 0, slots := 0, locals := 0 }) (cP (dC, dI) (kTy cI cB cL cZ) [.ref h0, .int a] [(h0, .inr (9, [.ref tp, .int 0, .ref tok, .ref sp, .ref rdr, .int 0, .int (-1), .ref scn, .ref fct, .ref rnr, .ref trl, .ref mnd, .ref rrw])), (rrw, .inl (cI, 4, .inl f))] sz) (va_Qi (fun (r : Int32) (_ : Unit) => r = -1) (fun (_ : Unit) (t : State) => va_P (dC, dI) vwCl [] t.heap ∧ va_D (va_A [(h0, .inr (9, [.ref tp, .int 0, .ref tok, .ref sp, .ref rdr, .int 0, .int (-1), .ref scn, .ref fct, .ref rnr, .ref trl, .ref mnd, .ref rrw])), (rrw, .inl (cI, 4, .inl f))] sz) []) (va_A [(h0, .inr (9, [.ref tp, .int 0, .ref tok, .ref sp, .ref rdr, .int 0, .int (-1), .ref scn, .ref fct, .ref rnr, .ref trl, .ref mnd, .ref rrw])), (rrw, .inl (cI, 4, .inl f))] sz)) 0 0 (va_A [(h0, .inr (9, [.ref tp, .int 0, .ref tok, .ref sp, .ref rdr, .int 0, .int (-1), .ref scn, .ref fct, .ref rnr, .ref trl, .ref mnd, .ref rrw])), (rrw, .inl (cI, 4, .inl f))] sz) := by
  refine Met.ofW (cc := cX10_ran) (maxL := 2) (ret := (some .int)) (by decide) rfl ?_
  intro p e s m args below meth c s₁ B hml hv
  obtain ⟨rfl, hsz, hP, hK, hD0, hN⟩ := hv
  have hx := B.exec
  have hb := B.bytes
  have hr := B.returns
  have hts := atoms_spec (ws := wsX10_ran) B.pre
  have hown : s.vm.findClass RX10 = some m.cls := findClass_of_methodNamed B.named
  have hlocks := B.notSynchronized
  subst hsz
  have hD := hD0.self (sz := s.heap.size)
  generalize hAe : va_A [(h0, .inr (9, [.ref tp, .int 0, .ref tok, .ref sp, .ref rdr, .int 0, .int (-1), .ref scn, .ref fct, .ref rnr, .ref trl, .ref mnd, .ref rrw])), (rrw, .inl (cI, 4, .inl f))] s.heap.size = A at hD ⊢
  have hA : ∀ q : Nat, s.heap.size ≤ q → A q := fun q h => by rw [← hAe]; exact Or.inr h
  have hl := lv_entry ([.ref h0, .int a]) (n := 2) (Nat.le_of_ble_eq_true rfl)
  rw [lg_entry_eq]
  generalize (lg_sl ([.ref h0, .int a]) ++ List.replicate (2 - (lg_sl ([.ref h0, .int a])).length) Slot.unset).toArray = ls at hl ⊢
  have hl : lv_has ls 2 [(0, .ref h0), (1, .int a)] := hl
  refine k_H (A := A) hP (fun H hP hS => ?_)
  have hP : va_P (dC, dI) vwCl [(h0, .inr (9, [.ref tp, .int 0, .ref tok, .ref sp, .ref rdr, .int 0, .int (-1), .ref scn, .ref fct, .ref rnr, .ref trl, .ref mnd, .ref rrw])), (rrw, .inl (cI, 4, .inl f))] H := hP
  have hD : va_D A [(h0, .inr (9, [.ref tp, .int 0, .ref tok, .ref sp, .ref rdr, .int 0, .int (-1), .ref scn, .ref fct, .ref rnr, .ref trl, .ref mnd, .ref rrw])), (rrw, .inl (cI, 4, .inl f))] := hD
  refine lv_iload_n hx hb dX10_ran_0 rfl (lv_at hl 1 rfl) ?_
  refine lv_if_lt (tgt := 13) hx hb dX10_ran_1 (by decide) (fun c_219 => ?_) (fun c_219 => ?_)
  · refine lv_iconst (v := (-1)) hx hb dX10_ran_13 (by decide) ?_
    refine lv_goto (tgt := 23) hx hb dX10_ran_14 (by decide) ?_
    have hP9 := hP.sub (ws' := []) [] rfl
    have hD9 := hD.sub (ws' := []) [] (by decide) rfl
    exact W.iret (v := (-1)) hx hb hr (fun t ht hW => ⟨⟨(-1), (), rfl, rfl, by rw [ht]; exact hP9, hD9⟩, hS.F ht⟩) hS.2.2 dX10_ran_23
  · refine lv_iload_n hx hb dX10_ran_4 rfl (lv_at hl 1 rfl) ?_
    refine lv_aload_n hx hb dX10_ran_5 rfl (lv_at hl 0 rfl) ?_
    refine va_get (D := (dC, dI)) (ci := 9) (v := .ref rrw) (C := RX10) (T := TX10) (N := 13) hx hb hts iwwsX10_ran_10 hown hK hP 0 rfl rfl 12 (by decide) (hts (.fieldLink RX10 83 "NothingJudge" "ranRow" "[I") fwwsX10_ran_83) (fun _ h9 => h9) rfl dX10_ran_6 ?_
    refine va_alen hx hb hK hP 1 0 rfl rfl (v := 4) (by decide) dX10_ran_9 ?_
    refine lv_icmp_lt (tgt := 17) hx hb dX10_ran_10 (by decide) (fun c_220 => ?_) (fun c_220 => ?_)
    · refine lv_aload_n hx hb dX10_ran_17 rfl (lv_at hl 0 rfl) ?_
      refine va_get (D := (dC, dI)) (ci := 9) (v := .ref rrw) (C := RX10) (T := TX10) (N := 13) hx hb hts iwwsX10_ran_10 hown hK hP 0 rfl rfl 12 (by decide) (hts (.fieldLink RX10 83 "NothingJudge" "ranRow" "[I") fwwsX10_ran_83) (fun _ h9 => h9) rfl dX10_ran_18 ?_
      refine lv_iload_n hx hb dX10_ran_21 rfl (lv_at hl 1 rfl) ?_
      refine va_iald hx hb hK hP 1 0 rfl rfl (in_of (y := 4) (by decide) c_219 (Int32.not_le.mpr c_220) (by decide)) dX10_ran_22 ?_
      refine lv_topi (fun y_221 ey_221 => ?_)
      obtain rfl : y_221 = (-1) := ey_221.trans (hf _ (cl_of (y := 4) (by decide) c_219 (Int32.not_le.mpr c_220)))
      have hP9 := hP.sub (ws' := []) [] rfl
      have hD9 := hD.sub (ws' := []) [] (by decide) rfl
      exact W.iret (v := (-1)) hx hb hr (fun t ht hW => ⟨⟨(-1), (), rfl, rfl, by rw [ht]; exact hP9, hD9⟩, hS.F ht⟩) hS.2.2 dX10_ran_23
    · refine lv_iconst (v := (-1)) hx hb dX10_ran_13 (by decide) ?_
      refine lv_goto (tgt := 23) hx hb dX10_ran_14 (by decide) ?_
      have hP9 := hP.sub (ws' := []) [] rfl
      have hD9 := hD.sub (ws' := []) [] (by decide) rfl
      exact W.iret (v := (-1)) hx hb hr (fun t ht hW => ⟨⟨(-1), (), rfl, rfl, by rw [ht]; exact hP9, hD9⟩, hS.F ht⟩) hS.2.2 dX10_ran_23

set_option maxHeartbeats 4000000 in
set_option maxRecDepth 100000 in
theorem c_priceY (l : Launch) (dC : Nat → ClassId) (dI : Nat → Nat → Nat) (cI cB cL cZ : ClassId) (h0 : Nat) (tp : Nat) (tok : Nat) (sp : Nat) (rdr : Nat) (scn : Nat) (fct : Nat) (rnr : Nat) (trl : Nat) (mnd : Nat) (rrw : Nat) (md0 : Nat) (mpr : Nat) (md2 : Nat) (md3 : Nat) (a : Int32) (b : Int32) (f : Nat → Int32) (sz : Nat) (h1 : ¬ a < 0) (h2 : ¬ 3 < a) (h3 : ¬ b < 1) (h4 : b ≤ 99) : Met l yX10_price wsX10_price ({ frames := 1, cells := 0, slots := 0, locals := 22 }) (cP (dC, dI) (kTy cI cB cL cZ) [.ref h0, .int a, .int b] [(h0, .inr (9, [.ref tp, .int 0, .ref tok, .ref sp, .ref rdr, .int 0, .int (-1), .ref scn, .ref fct, .ref rnr, .ref trl, .ref mnd, .ref rrw])), (mnd, .inr (2, [.ref md0, .ref mpr, .ref md2, .ref md3, .int 1, .int 0, .int 0, .int (-1), .int 0, .int 0])), (mpr, .inl (cI, 4, .inl f))] sz) (va_Qi (fun (r : Int32) (_ : Unit) => r = 1) (fun (_ : Unit) (t : State) => va_P (dC, dI) vwCl [] t.heap ∧ va_D (va_A [(h0, .inr (9, [.ref tp, .int 0, .ref tok, .ref sp, .ref rdr, .int 0, .int (-1), .ref scn, .ref fct, .ref rnr, .ref trl, .ref mnd, .ref rrw])), (mnd, .inr (2, [.ref md0, .ref mpr, .ref md2, .ref md3, .int 1, .int 0, .int 0, .int (-1), .int 0, .int 0])), (mpr, .inl (cI, 4, .inl f))] sz) []) (va_A [(h0, .inr (9, [.ref tp, .int 0, .ref tok, .ref sp, .ref rdr, .int 0, .int (-1), .ref scn, .ref fct, .ref rnr, .ref trl, .ref mnd, .ref rrw])), (mnd, .inr (2, [.ref md0, .ref mpr, .ref md2, .ref md3, .int 1, .int 0, .int 0, .int (-1), .int 0, .int 0])), (mpr, .inl (cI, 4, .inl f))] sz)) 0 0 (va_A [(h0, .inr (9, [.ref tp, .int 0, .ref tok, .ref sp, .ref rdr, .int 0, .int (-1), .ref scn, .ref fct, .ref rnr, .ref trl, .ref mnd, .ref rrw])), (mnd, .inr (2, [.ref md0, .ref mpr, .ref md2, .ref md3, .int 1, .int 0, .int 0, .int (-1), .int 0, .int 0])), (mpr, .inl (cI, 4, .inl f))] sz) := by
  refine Met.ofW (cc := cX10_price) (maxL := 3) (ret := (some .boolean)) (by decide) rfl ?_
  intro p e s m args below meth c s₁ B hml hv
  obtain ⟨rfl, hsz, hP, hK, hD0, hN⟩ := hv
  have hx := B.exec
  have hb := B.bytes
  have hr := B.returns
  have hts := atoms_spec (ws := wsX10_price) B.pre
  have hown : s.vm.findClass RX10 = some m.cls := findClass_of_methodNamed B.named
  have hlocks := B.notSynchronized
  subst hsz
  have hD := hD0.self (sz := s.heap.size)
  generalize hAe : va_A [(h0, .inr (9, [.ref tp, .int 0, .ref tok, .ref sp, .ref rdr, .int 0, .int (-1), .ref scn, .ref fct, .ref rnr, .ref trl, .ref mnd, .ref rrw])), (mnd, .inr (2, [.ref md0, .ref mpr, .ref md2, .ref md3, .int 1, .int 0, .int 0, .int (-1), .int 0, .int 0])), (mpr, .inl (cI, 4, .inl f))] s.heap.size = A at hD ⊢
  have hA : ∀ q : Nat, s.heap.size ≤ q → A q := fun q h => by rw [← hAe]; exact Or.inr h
  have hl := lv_entry ([.ref h0, .int a, .int b]) (n := 3) (Nat.le_of_ble_eq_true rfl)
  rw [lg_entry_eq]
  generalize (lg_sl ([.ref h0, .int a, .int b]) ++ List.replicate (3 - (lg_sl ([.ref h0, .int a, .int b])).length) Slot.unset).toArray = ls at hl ⊢
  have hl : lv_has ls 3 [(0, .ref h0), (1, .int a), (2, .int b)] := hl
  refine k_H (A := A) hP (fun H hP hS => ?_)
  have hP : va_P (dC, dI) vwCl [(h0, .inr (9, [.ref tp, .int 0, .ref tok, .ref sp, .ref rdr, .int 0, .int (-1), .ref scn, .ref fct, .ref rnr, .ref trl, .ref mnd, .ref rrw])), (mnd, .inr (2, [.ref md0, .ref mpr, .ref md2, .ref md3, .int 1, .int 0, .int 0, .int (-1), .int 0, .int 0])), (mpr, .inl (cI, 4, .inl f))] H := hP
  have hD : va_D A [(h0, .inr (9, [.ref tp, .int 0, .ref tok, .ref sp, .ref rdr, .int 0, .int (-1), .ref scn, .ref fct, .ref rnr, .ref trl, .ref mnd, .ref rrw])), (mnd, .inr (2, [.ref md0, .ref mpr, .ref md2, .ref md3, .int 1, .int 0, .int 0, .int (-1), .int 0, .int 0])), (mpr, .inl (cI, 4, .inl f))] := hD
  refine lv_iload_n hx hb dX10_price_0 rfl (lv_at hl 1 rfl) ?_
  refine lv_if_lt (tgt := 20) hx hb dX10_price_1 (by decide) (fun c9 => absurd c9 h1) (fun _ => ?_)
  refine lv_iload_n hx hb dX10_price_4 rfl (lv_at hl 1 rfl) ?_
  refine lv_iconst (v := 3) hx hb dX10_price_5 (by decide) ?_
  refine lv_icmp_gt (tgt := 20) hx hb dX10_price_6 (by decide) (fun c9 => absurd c9 h2) (fun _ => ?_)
  refine lv_iload_n hx hb dX10_price_9 rfl (lv_at hl 2 rfl) ?_
  refine lv_iconst (v := 1) hx hb dX10_price_10 (by decide) ?_
  refine lv_icmp_lt (tgt := 20) hx hb dX10_price_11 (by decide) (fun c9 => absurd c9 h3) (fun _ => ?_)
  refine lv_iload_n hx hb dX10_price_14 rfl (lv_at hl 2 rfl) ?_
  refine lv_bipush (v := 99) hx hb dX10_price_15 (by decide) ?_
  refine lv_icmp_le (tgt := 22) hx hb dX10_price_17 (by decide) (fun _ => ?_) (fun c9 => absurd h4 c9)
  refine lv_aload_n hx hb dX10_price_22 rfl (lv_at hl 0 rfl) ?_
  refine va_get (D := (dC, dI)) (ci := 9) (v := .ref mnd) (C := RX10) (T := TX10) (N := 13) hx hb hts iwwsX10_price_10 hown hK hP 0 rfl rfl 11 (by decide) (hts (.fieldLink RX10 79 "NothingJudge" "mender" "LNothingJudge$Mender;") fwwsX10_price_79) (fun _ h9 => h9) rfl dX10_price_23 ?_
  refine va_get (D := (dC, dI)) (ci := 2) (v := .ref mpr) (C := RX2) (T := TX2) (N := 10) hx hb hts iwwsX10_price_2 hown hK hP 1 rfl rfl 1 (by decide) (hts (.fieldLink RX10 218 "NothingJudge$Mender" "prices" "[I") fwwsX10_price_218) (fun _ h9 => h9) rfl dX10_price_26 ?_
  refine lv_iload_n hx hb dX10_price_29 rfl (lv_at hl 1 rfl) ?_
  refine lv_iload_n hx hb dX10_price_30 rfl (lv_at hl 2 rfl) ?_
  have hPc := hP.sub (ws' := [(mpr, .inl (cI, 4, .inl f))]) [2] rfl
  have hDc := hD.sub (ws' := [(mpr, .inl (cI, 4, .inl f))]) [2] (by decide) rfl
  have hFc := va_free (wc := [(mpr, .inl (cI, 4, .inl f))]) hD hS hA [2] rfl
  refine va_callv (va_runS (As := [.ref mpr, .int a, .int b]) (rest := []) ⟨hx, hb, hml, hown, hts⟩ (c_put l dC dI cI cB cL cZ (mpr) (a) (b) (f) H.size) (va_cwS 3 hts gX10_price_X5_put rfl rfl rfl (by decide +kernel) ⟨Nat.le_of_ble_eq_true rfl, Nat.le_of_ble_eq_true rfl⟩) ⟨cP_fb, fun U hU hW => cP_pre hPc hK hDc hN U hU hW⟩ rfl rfl hl.1 rfl (lv_room (Nat.le_of_ble_eq_true rfl)) dX10_price_31 ⟨Nat.le_of_ble_eq_true rfl, Nat.le_of_ble_eq_true rfl⟩) hS (fun q _ h => hFc q h) hFc (fun u t H1 locs ht hvm hw hB hz1 hk1 hS => ?_)
  obtain ⟨hP1, hD1⟩ := hB
  rw [ht] at hP1
  obtain ⟨hP, hD⟩ := va_join (wr := [(h0, .inr (9, [.ref tp, .int 0, .ref tok, .ref sp, .ref rdr, .int 0, .int (-1), .ref scn, .ref fct, .ref rnr, .ref trl, .ref mnd, .ref rrw])), (mnd, .inr (2, [.ref md0, .ref mpr, .ref md2, .ref md3, .int 1, .int 0, .int 0, .int (-1), .int 0, .int 0]))]) (w1 := []) hP hD [2] [0, 1] rfl rfl (by decide) (by decide) hk1 hFc hP1 hD1
  generalize H1 = H at hP hS ⊢
  have hP : va_P (dC, dI) vwCl [(h0, .inr (9, [.ref tp, .int 0, .ref tok, .ref sp, .ref rdr, .int 0, .int (-1), .ref scn, .ref fct, .ref rnr, .ref trl, .ref mnd, .ref rrw])), (mnd, .inr (2, [.ref md0, .ref mpr, .ref md2, .ref md3, .int 1, .int 0, .int 0, .int (-1), .int 0, .int 0]))] H := hP
  have hD : va_D A [(h0, .inr (9, [.ref tp, .int 0, .ref tok, .ref sp, .ref rdr, .int 0, .int (-1), .ref scn, .ref fct, .ref rnr, .ref trl, .ref mnd, .ref rrw])), (mnd, .inr (2, [.ref md0, .ref mpr, .ref md2, .ref md3, .int 1, .int 0, .int 0, .int (-1), .int 0, .int 0]))] := hD
  refine lv_aload_n hx hb dX10_price_34 rfl (lv_at hl 0 rfl) ?_
  refine va_get (D := (dC, dI)) (ci := 9) (v := .ref mnd) (C := RX10) (T := TX10) (N := 13) hx hb hts iwwsX10_price_10 hown hK hP 0 rfl rfl 11 (by decide) (hts (.fieldLink RX10 79 "NothingJudge" "mender" "LNothingJudge$Mender;") fwwsX10_price_79) (fun _ h9 => h9) rfl dX10_price_35 ?_
  refine lv_iconst (v := 1) hx hb dX10_price_38 (by decide) ?_
  refine va_put (D := (dC, dI)) (ci := 2) (v := .int 1) (ty := .boolean) (C := RX2) (T := TX2) (N := 10) hx hb hts iwwsX10_price_2 tyX2 tyX2_ok nmX2 hown hK hP hD hS 1 rfl rfl 4 (by decide) (hts (.fieldLink RX10 221 "NothingJudge$Mender" "stale" "Z") fwwsX10_price_221) (fun _ h9 => h9) rfl (by decide +kernel) rfl rfl (Nat.le_of_ble_eq_true rfl) dX10_price_39 (fun H locs hP hD hS => ?_)
  have hP : va_P (dC, dI) vwCl [(h0, .inr (9, [.ref tp, .int 0, .ref tok, .ref sp, .ref rdr, .int 0, .int (-1), .ref scn, .ref fct, .ref rnr, .ref trl, .ref mnd, .ref rrw])), (mnd, .inr (2, [.ref md0, .ref mpr, .ref md2, .ref md3, .int 1, .int 0, .int 0, .int (-1), .int 0, .int 0]))] H := hP
  have hD : va_D A [(h0, .inr (9, [.ref tp, .int 0, .ref tok, .ref sp, .ref rdr, .int 0, .int (-1), .ref scn, .ref fct, .ref rnr, .ref trl, .ref mnd, .ref rrw])), (mnd, .inr (2, [.ref md0, .ref mpr, .ref md2, .ref md3, .int 1, .int 0, .int 0, .int (-1), .int 0, .int 0]))] := hD
  refine lv_iconst (v := 1) hx hb dX10_price_42 (by decide) ?_
  have hP9 := hP.sub (ws' := []) [] rfl
  have hD9 := hD.sub (ws' := []) [] (by decide) rfl
  exact W.zret (v := 1) (ty := .boolean) hx hb hr rfl (fun t ht hW => ⟨⟨1, (), rfl, rfl, by rw [ht]; exact hP9, hD9⟩, hS.F ht⟩) hS.2.2 dX10_price_43

set_option maxHeartbeats 4000000 in
set_option maxRecDepth 100000 in
theorem c_priceN (l : Launch) (dC : Nat → ClassId) (dI : Nat → Nat → Nat) (cI cB cL cZ : ClassId) (h0 : Nat) (tp : Nat) (tok : Nat) (sp : Nat) (rdr : Nat) (scn : Nat) (fct : Nat) (rnr : Nat) (trl : Nat) (mnd : Nat) (rrw : Nat) (a : Int32) (b : Int32) (sz : Nat) (hb9 : a < 0 ∨ 3 < a ∨ b < 1 ∨ ¬ b ≤ 99) : Met l yX10_price wsX10_price ({ frames := 0, cells := 0, slots := 0, locals := 0 }) (cP (dC, dI) (kTy cI cB cL cZ) [.ref h0, .int a, .int b] [(h0, .inr (9, [.ref tp, .int 0, .ref tok, .ref sp, .ref rdr, .int 0, .int (-1), .ref scn, .ref fct, .ref rnr, .ref trl, .ref mnd, .ref rrw]))] sz) (va_Qi (fun (r : Int32) (_ : Unit) => r = 0) (fun (_ : Unit) (t : State) => va_P (dC, dI) vwCl [] t.heap ∧ va_D (va_A [(h0, .inr (9, [.ref tp, .int 0, .ref tok, .ref sp, .ref rdr, .int 0, .int (-1), .ref scn, .ref fct, .ref rnr, .ref trl, .ref mnd, .ref rrw]))] sz) []) (va_A [(h0, .inr (9, [.ref tp, .int 0, .ref tok, .ref sp, .ref rdr, .int 0, .int (-1), .ref scn, .ref fct, .ref rnr, .ref trl, .ref mnd, .ref rrw]))] sz)) 0 0 (va_A [(h0, .inr (9, [.ref tp, .int 0, .ref tok, .ref sp, .ref rdr, .int 0, .int (-1), .ref scn, .ref fct, .ref rnr, .ref trl, .ref mnd, .ref rrw]))] sz) := by
  refine Met.ofW (cc := cX10_price) (maxL := 3) (ret := (some .boolean)) (by decide) rfl ?_
  intro p e s m args below meth c s₁ B hml hv
  obtain ⟨rfl, hsz, hP, hK, hD0, hN⟩ := hv
  have hx := B.exec
  have hb := B.bytes
  have hr := B.returns
  have hts := atoms_spec (ws := wsX10_price) B.pre
  have hown : s.vm.findClass RX10 = some m.cls := findClass_of_methodNamed B.named
  have hlocks := B.notSynchronized
  subst hsz
  have hD := hD0.self (sz := s.heap.size)
  generalize hAe : va_A [(h0, .inr (9, [.ref tp, .int 0, .ref tok, .ref sp, .ref rdr, .int 0, .int (-1), .ref scn, .ref fct, .ref rnr, .ref trl, .ref mnd, .ref rrw]))] s.heap.size = A at hD ⊢
  have hA : ∀ q : Nat, s.heap.size ≤ q → A q := fun q h => by rw [← hAe]; exact Or.inr h
  have hl := lv_entry ([.ref h0, .int a, .int b]) (n := 3) (Nat.le_of_ble_eq_true rfl)
  rw [lg_entry_eq]
  generalize (lg_sl ([.ref h0, .int a, .int b]) ++ List.replicate (3 - (lg_sl ([.ref h0, .int a, .int b])).length) Slot.unset).toArray = ls at hl ⊢
  have hl : lv_has ls 3 [(0, .ref h0), (1, .int a), (2, .int b)] := hl
  refine k_H (A := A) hP (fun H hP hS => ?_)
  have hP : va_P (dC, dI) vwCl [(h0, .inr (9, [.ref tp, .int 0, .ref tok, .ref sp, .ref rdr, .int 0, .int (-1), .ref scn, .ref fct, .ref rnr, .ref trl, .ref mnd, .ref rrw]))] H := hP
  have hD : va_D A [(h0, .inr (9, [.ref tp, .int 0, .ref tok, .ref sp, .ref rdr, .int 0, .int (-1), .ref scn, .ref fct, .ref rnr, .ref trl, .ref mnd, .ref rrw]))] := hD
  refine lv_iload_n hx hb dX10_price_0 rfl (lv_at hl 1 rfl) ?_
  refine lv_if_lt (tgt := 20) hx hb dX10_price_1 (by decide) (fun c_223 => ?_) (fun c_223 => ?_)
  · refine lv_iconst (v := 0) hx hb dX10_price_20 (by decide) ?_
    have hP9 := hP.sub (ws' := []) [] rfl
    have hD9 := hD.sub (ws' := []) [] (by decide) rfl
    exact W.zret (v := 0) (ty := .boolean) hx hb hr rfl (fun t ht hW => ⟨⟨0, (), rfl, rfl, by rw [ht]; exact hP9, hD9⟩, hS.F ht⟩) hS.2.2 dX10_price_21
  · refine lv_iload_n hx hb dX10_price_4 rfl (lv_at hl 1 rfl) ?_
    refine lv_iconst (v := 3) hx hb dX10_price_5 (by decide) ?_
    refine lv_icmp_gt (tgt := 20) hx hb dX10_price_6 (by decide) (fun c_224 => ?_) (fun c_224 => ?_)
    · refine lv_iconst (v := 0) hx hb dX10_price_20 (by decide) ?_
      have hP9 := hP.sub (ws' := []) [] rfl
      have hD9 := hD.sub (ws' := []) [] (by decide) rfl
      exact W.zret (v := 0) (ty := .boolean) hx hb hr rfl (fun t ht hW => ⟨⟨0, (), rfl, rfl, by rw [ht]; exact hP9, hD9⟩, hS.F ht⟩) hS.2.2 dX10_price_21
    · refine lv_iload_n hx hb dX10_price_9 rfl (lv_at hl 2 rfl) ?_
      refine lv_iconst (v := 1) hx hb dX10_price_10 (by decide) ?_
      refine lv_icmp_lt (tgt := 20) hx hb dX10_price_11 (by decide) (fun c_225 => ?_) (fun c_225 => ?_)
      · refine lv_iconst (v := 0) hx hb dX10_price_20 (by decide) ?_
        have hP9 := hP.sub (ws' := []) [] rfl
        have hD9 := hD.sub (ws' := []) [] (by decide) rfl
        exact W.zret (v := 0) (ty := .boolean) hx hb hr rfl (fun t ht hW => ⟨⟨0, (), rfl, rfl, by rw [ht]; exact hP9, hD9⟩, hS.F ht⟩) hS.2.2 dX10_price_21
      · refine lv_iload_n hx hb dX10_price_14 rfl (lv_at hl 2 rfl) ?_
        refine lv_bipush (v := 99) hx hb dX10_price_15 (by decide) ?_
        refine lv_icmp_le (tgt := 22) hx hb dX10_price_17 (by decide) (fun c9 => absurd c9 (((hb9.resolve_left c_223).resolve_left c_224).resolve_left c_225)) (fun _ => ?_)
        refine lv_iconst (v := 0) hx hb dX10_price_20 (by decide) ?_
        have hP9 := hP.sub (ws' := []) [] rfl
        have hD9 := hD.sub (ws' := []) [] (by decide) rfl
        exact W.zret (v := 0) (ty := .boolean) hx hb hr rfl (fun t ht hW => ⟨⟨0, (), rfl, rfl, by rw [ht]; exact hP9, hD9⟩, hS.F ht⟩) hS.2.2 dX10_price_21

set_option maxHeartbeats 4000000 in
set_option maxRecDepth 100000 in
theorem c_clear (l : Launch) (dC : Nat → ClassId) (dI : Nat → Nat → Nat) (cI cB cL cZ : ClassId) (h0 : Nat) (sc : Nat) (g : Nat) (td : Nat) (gc : Nat) (st : Nat) (se : Nat) (mk : Nat) (us : Nat) (te : Nat) (ga1 : Nat) (ga2 : Nat) (ga3 : Nat) (ga4 : Nat) (ga5 : Nat) (ga6 : Nat) (ga7 : Nat) (ga8 : Nat) (f1 : Nat → Int64) (f2 : Nat → Int32) (f3 : Nat → Int32) (f4 : Nat → Int32) (f5 : Nat → Int32) (sz : Nat)  : Met l yX1_clear wsX1_clear ({ frames := 1, cells := 0, slots := 0, locals := 24 }) (cP (dC, dI) (kTy cI cB cL cZ) [.ref h0] [(h0, .inr (1, [.ref sc, .ref st, .ref se, .ref mk, .ref us, .ref te, .ref g, .ref gc, .int 1, .int 0, .int 0, .int 0, .long 0, .long 0])), (sc, .inr (6, [.ref g, .int (-1), .ref td])), (g, .inr (3, [.ref gc, .ref ga1, .ref ga2, .ref ga3, .ref ga4, .ref ga5, .ref ga6, .ref ga7, .ref ga8, .int 0, .int 0, .int 0, .int 0, .int (-1)])), (st, .inl (cL, 304, .inr (.inl f1))), (se, .inl (cI, 304, .inl f2)), (mk, .inl (cI, 42, .inl f3)), (us, .inl (cI, 40, .inl f4)), (te, .inl (cI, 24, .inl f5))] sz) (va_Qv (fun _ : Unit => True) (fun (_ : Unit) (t : State) => ∃ fz0 : Nat → Int32, (∀ j, j < 42 → fz0 j = 0) ∧ va_P (dC, dI) vwCl [(h0, .inr (1, [.ref sc, .ref st, .ref se, .ref mk, .ref us, .ref te, .ref g, .ref gc, .int 1, .int 0, .int 0, .int 1, .long 0, .long 0])), (sc, .inr (6, [.ref g, .int (-1), .ref td])), (g, .inr (3, [.ref gc, .ref ga1, .ref ga2, .ref ga3, .ref ga4, .ref ga5, .ref ga6, .ref ga7, .ref ga8, .int 0, .int 0, .int 0, .int 0, .int (-1)])), (mk, .inl (cI, N, .inl fz0))] t.heap ∧ va_D (va_A [(h0, .inr (1, [.ref sc, .ref st, .ref se, .ref mk, .ref us, .ref te, .ref g, .ref gc, .int 1, .int 0, .int 0, .int 0, .long 0, .long 0])), (sc, .inr (6, [.ref g, .int (-1), .ref td])), (g, .inr (3, [.ref gc, .ref ga1, .ref ga2, .ref ga3, .ref ga4, .ref ga5, .ref ga6, .ref ga7, .ref ga8, .int 0, .int 0, .int 0, .int 0, .int (-1)])), (st, .inl (cL, 304, .inr (.inl f1))), (se, .inl (cI, 304, .inl f2)), (mk, .inl (cI, 42, .inl f3)), (us, .inl (cI, 40, .inl f4)), (te, .inl (cI, 24, .inl f5))] sz) [(h0, .inr (1, [.ref sc, .ref st, .ref se, .ref mk, .ref us, .ref te, .ref g, .ref gc, .int 1, .int 0, .int 0, .int 1, .long 0, .long 0])), (sc, .inr (6, [.ref g, .int (-1), .ref td])), (g, .inr (3, [.ref gc, .ref ga1, .ref ga2, .ref ga3, .ref ga4, .ref ga5, .ref ga6, .ref ga7, .ref ga8, .int 0, .int 0, .int 0, .int 0, .int (-1)])), (mk, .inl (cI, N, .inl fz0))]) (va_A [(h0, .inr (1, [.ref sc, .ref st, .ref se, .ref mk, .ref us, .ref te, .ref g, .ref gc, .int 1, .int 0, .int 0, .int 0, .long 0, .long 0])), (sc, .inr (6, [.ref g, .int (-1), .ref td])), (g, .inr (3, [.ref gc, .ref ga1, .ref ga2, .ref ga3, .ref ga4, .ref ga5, .ref ga6, .ref ga7, .ref ga8, .int 0, .int 0, .int 0, .int 0, .int (-1)])), (st, .inl (cL, 304, .inr (.inl f1))), (se, .inl (cI, 304, .inl f2)), (mk, .inl (cI, 42, .inl f3)), (us, .inl (cI, 40, .inl f4)), (te, .inl (cI, 24, .inl f5))] sz)) 0 0 (va_A [(h0, .inr (1, [.ref sc, .ref st, .ref se, .ref mk, .ref us, .ref te, .ref g, .ref gc, .int 1, .int 0, .int 0, .int 0, .long 0, .long 0])), (sc, .inr (6, [.ref g, .int (-1), .ref td])), (g, .inr (3, [.ref gc, .ref ga1, .ref ga2, .ref ga3, .ref ga4, .ref ga5, .ref ga6, .ref ga7, .ref ga8, .int 0, .int 0, .int 0, .int 0, .int (-1)])), (st, .inl (cL, 304, .inr (.inl f1))), (se, .inl (cI, 304, .inl f2)), (mk, .inl (cI, 42, .inl f3)), (us, .inl (cI, 40, .inl f4)), (te, .inl (cI, 24, .inl f5))] sz) := by
  refine Met.ofW (cc := cX1_clear) (maxL := 1) (ret := none) (by decide) rfl ?_
  intro p e s m args below meth c s₁ B hml hv
  obtain ⟨rfl, hsz, hP, hK, hD0, hN⟩ := hv
  have hx := B.exec
  have hb := B.bytes
  have hr := B.returns
  have hts := atoms_spec (ws := wsX1_clear) B.pre
  have hown : s.vm.findClass RX1 = some m.cls := findClass_of_methodNamed B.named
  have hlocks := B.notSynchronized
  subst hsz
  have hD := hD0.self (sz := s.heap.size)
  generalize hAe : va_A [(h0, .inr (1, [.ref sc, .ref st, .ref se, .ref mk, .ref us, .ref te, .ref g, .ref gc, .int 1, .int 0, .int 0, .int 0, .long 0, .long 0])), (sc, .inr (6, [.ref g, .int (-1), .ref td])), (g, .inr (3, [.ref gc, .ref ga1, .ref ga2, .ref ga3, .ref ga4, .ref ga5, .ref ga6, .ref ga7, .ref ga8, .int 0, .int 0, .int 0, .int 0, .int (-1)])), (st, .inl (cL, 304, .inr (.inl f1))), (se, .inl (cI, 304, .inl f2)), (mk, .inl (cI, 42, .inl f3)), (us, .inl (cI, 40, .inl f4)), (te, .inl (cI, 24, .inl f5))] s.heap.size = A at hD ⊢
  have hA : ∀ q : Nat, s.heap.size ≤ q → A q := fun q h => by rw [← hAe]; exact Or.inr h
  have hl := lv_entry ([.ref h0]) (n := 1) (Nat.le_of_ble_eq_true rfl)
  rw [lg_entry_eq]
  generalize (lg_sl ([.ref h0]) ++ List.replicate (1 - (lg_sl ([.ref h0])).length) Slot.unset).toArray = ls at hl ⊢
  have hl : lv_has ls 1 [(0, .ref h0)] := hl
  refine k_H (A := A) hP (fun H hP hS => ?_)
  have hP : va_P (dC, dI) vwCl [(h0, .inr (1, [.ref sc, .ref st, .ref se, .ref mk, .ref us, .ref te, .ref g, .ref gc, .int 1, .int 0, .int 0, .int 0, .long 0, .long 0])), (sc, .inr (6, [.ref g, .int (-1), .ref td])), (g, .inr (3, [.ref gc, .ref ga1, .ref ga2, .ref ga3, .ref ga4, .ref ga5, .ref ga6, .ref ga7, .ref ga8, .int 0, .int 0, .int 0, .int 0, .int (-1)])), (st, .inl (cL, 304, .inr (.inl f1))), (se, .inl (cI, 304, .inl f2)), (mk, .inl (cI, 42, .inl f3)), (us, .inl (cI, 40, .inl f4)), (te, .inl (cI, 24, .inl f5))] H := hP
  have hD : va_D A [(h0, .inr (1, [.ref sc, .ref st, .ref se, .ref mk, .ref us, .ref te, .ref g, .ref gc, .int 1, .int 0, .int 0, .int 0, .long 0, .long 0])), (sc, .inr (6, [.ref g, .int (-1), .ref td])), (g, .inr (3, [.ref gc, .ref ga1, .ref ga2, .ref ga3, .ref ga4, .ref ga5, .ref ga6, .ref ga7, .ref ga8, .int 0, .int 0, .int 0, .int 0, .int (-1)])), (st, .inl (cL, 304, .inr (.inl f1))), (se, .inl (cI, 304, .inl f2)), (mk, .inl (cI, 42, .inl f3)), (us, .inl (cI, 40, .inl f4)), (te, .inl (cI, 24, .inl f5))] := hD
  refine lv_aload_n hx hb dX1_clear_0 rfl (lv_at hl 0 rfl) ?_
  refine lv_aload_n hx hb dX1_clear_1 rfl (lv_at hl 0 rfl) ?_
  refine va_get (D := (dC, dI)) (ci := 1) (v := .ref sc) (C := RX1) (T := TX1) (N := 14) hx hb hts iwwsX1_clear_1 hown hK hP 0 rfl rfl 0 (by decide) (hts (.fieldLink RX1 32 "NothingJudge$Facts" "scene" "LNothingJudge$Scene;") fwwsX1_clear_32) (fun _ h9 => h9) rfl dX1_clear_2 ?_
  refine va_get (D := (dC, dI)) (ci := 6) (v := .ref g) (C := RX7) (T := TX7) (N := 3) hx hb hts iwwsX1_clear_7 hown hK hP 1 rfl rfl 0 (by decide) (hts (.fieldLink RX1 36 "NothingJudge$Scene" "program" "LNothingJudge$Program;") fwwsX1_clear_36) (fun _ h9 => h9) rfl dX1_clear_5 ?_
  refine va_put (D := (dC, dI)) (ci := 1) (v := .ref g) (ty := .object "NothingJudge$Program") (C := RX1) (T := TX1) (N := 14) hx hb hts iwwsX1_clear_1 tyX1 tyX1_ok nmX1 hown hK hP hD hS 0 rfl rfl 6 (by decide) (hts (.fieldLink RX1 42 "NothingJudge$Facts" "program" "LNothingJudge$Program;") fwwsX1_clear_42) (fun _ h9 => h9) rfl (by decide +kernel) rfl rfl (Nat.le_of_ble_eq_true rfl) dX1_clear_8 (fun H locs hP hD hS => ?_)
  have hP : va_P (dC, dI) vwCl [(h0, .inr (1, [.ref sc, .ref st, .ref se, .ref mk, .ref us, .ref te, .ref g, .ref gc, .int 1, .int 0, .int 0, .int 0, .long 0, .long 0])), (sc, .inr (6, [.ref g, .int (-1), .ref td])), (g, .inr (3, [.ref gc, .ref ga1, .ref ga2, .ref ga3, .ref ga4, .ref ga5, .ref ga6, .ref ga7, .ref ga8, .int 0, .int 0, .int 0, .int 0, .int (-1)])), (st, .inl (cL, 304, .inr (.inl f1))), (se, .inl (cI, 304, .inl f2)), (mk, .inl (cI, 42, .inl f3)), (us, .inl (cI, 40, .inl f4)), (te, .inl (cI, 24, .inl f5))] H := hP
  have hD : va_D A [(h0, .inr (1, [.ref sc, .ref st, .ref se, .ref mk, .ref us, .ref te, .ref g, .ref gc, .int 1, .int 0, .int 0, .int 0, .long 0, .long 0])), (sc, .inr (6, [.ref g, .int (-1), .ref td])), (g, .inr (3, [.ref gc, .ref ga1, .ref ga2, .ref ga3, .ref ga4, .ref ga5, .ref ga6, .ref ga7, .ref ga8, .int 0, .int 0, .int 0, .int 0, .int (-1)])), (st, .inl (cL, 304, .inr (.inl f1))), (se, .inl (cI, 304, .inl f2)), (mk, .inl (cI, 42, .inl f3)), (us, .inl (cI, 40, .inl f4)), (te, .inl (cI, 24, .inl f5))] := hD
  refine lv_aload_n hx hb dX1_clear_11 rfl (lv_at hl 0 rfl) ?_
  refine lv_aload_n hx hb dX1_clear_12 rfl (lv_at hl 0 rfl) ?_
  refine va_get (D := (dC, dI)) (ci := 1) (v := .ref g) (C := RX1) (T := TX1) (N := 14) hx hb hts iwwsX1_clear_1 hown hK hP 0 rfl rfl 6 (by decide) (hts (.fieldLink RX1 42 "NothingJudge$Facts" "program" "LNothingJudge$Program;") fwwsX1_clear_42) (fun _ h9 => h9) rfl dX1_clear_13 ?_
  refine va_get (D := (dC, dI)) (ci := 3) (v := .ref gc) (C := RX3) (T := TX3) (N := 14) hx hb hts iwwsX1_clear_3 hown hK hP 2 rfl rfl 0 (by decide) (hts (.fieldLink RX1 43 "NothingJudge$Program" "code" "LNothingJudge$Code;") fwwsX1_clear_43) (fun _ h9 => h9) rfl dX1_clear_16 ?_
  refine va_put (D := (dC, dI)) (ci := 1) (v := .ref gc) (ty := .object "NothingJudge$Code") (C := RX1) (T := TX1) (N := 14) hx hb hts iwwsX1_clear_1 tyX1 tyX1_ok nmX1 hown hK hP hD hS 0 rfl rfl 7 (by decide) (hts (.fieldLink RX1 49 "NothingJudge$Facts" "code" "LNothingJudge$Code;") fwwsX1_clear_49) (fun _ h9 => h9) rfl (by decide +kernel) rfl rfl (Nat.le_of_ble_eq_true rfl) dX1_clear_19 (fun H locs hP hD hS => ?_)
  have hP : va_P (dC, dI) vwCl [(h0, .inr (1, [.ref sc, .ref st, .ref se, .ref mk, .ref us, .ref te, .ref g, .ref gc, .int 1, .int 0, .int 0, .int 0, .long 0, .long 0])), (sc, .inr (6, [.ref g, .int (-1), .ref td])), (g, .inr (3, [.ref gc, .ref ga1, .ref ga2, .ref ga3, .ref ga4, .ref ga5, .ref ga6, .ref ga7, .ref ga8, .int 0, .int 0, .int 0, .int 0, .int (-1)])), (st, .inl (cL, 304, .inr (.inl f1))), (se, .inl (cI, 304, .inl f2)), (mk, .inl (cI, 42, .inl f3)), (us, .inl (cI, 40, .inl f4)), (te, .inl (cI, 24, .inl f5))] H := hP
  have hD : va_D A [(h0, .inr (1, [.ref sc, .ref st, .ref se, .ref mk, .ref us, .ref te, .ref g, .ref gc, .int 1, .int 0, .int 0, .int 0, .long 0, .long 0])), (sc, .inr (6, [.ref g, .int (-1), .ref td])), (g, .inr (3, [.ref gc, .ref ga1, .ref ga2, .ref ga3, .ref ga4, .ref ga5, .ref ga6, .ref ga7, .ref ga8, .int 0, .int 0, .int 0, .int 0, .int (-1)])), (st, .inl (cL, 304, .inr (.inl f1))), (se, .inl (cI, 304, .inl f2)), (mk, .inl (cI, 42, .inl f3)), (us, .inl (cI, 40, .inl f4)), (te, .inl (cI, 24, .inl f5))] := hD
  refine lv_aload_n hx hb dX1_clear_22 rfl (lv_at hl 0 rfl) ?_
  refine lv_iconst (v := 0) hx hb dX1_clear_23 (by decide) ?_
  refine va_put (D := (dC, dI)) (ci := 1) (v := .int 0) (ty := .int) (C := RX1) (T := TX1) (N := 14) hx hb hts iwwsX1_clear_1 tyX1 tyX1_ok nmX1 hown hK hP hD hS 0 rfl rfl 10 (by decide) (hts (.fieldLink RX1 92 "NothingJudge$Facts" "reached" "I") fwwsX1_clear_92) (fun _ h9 => h9) rfl (by decide +kernel) rfl rfl (Nat.le_of_ble_eq_true rfl) dX1_clear_24 (fun H locs hP hD hS => ?_)
  have hP : va_P (dC, dI) vwCl [(h0, .inr (1, [.ref sc, .ref st, .ref se, .ref mk, .ref us, .ref te, .ref g, .ref gc, .int 1, .int 0, .int 0, .int 0, .long 0, .long 0])), (sc, .inr (6, [.ref g, .int (-1), .ref td])), (g, .inr (3, [.ref gc, .ref ga1, .ref ga2, .ref ga3, .ref ga4, .ref ga5, .ref ga6, .ref ga7, .ref ga8, .int 0, .int 0, .int 0, .int 0, .int (-1)])), (st, .inl (cL, 304, .inr (.inl f1))), (se, .inl (cI, 304, .inl f2)), (mk, .inl (cI, 42, .inl f3)), (us, .inl (cI, 40, .inl f4)), (te, .inl (cI, 24, .inl f5))] H := hP
  have hD : va_D A [(h0, .inr (1, [.ref sc, .ref st, .ref se, .ref mk, .ref us, .ref te, .ref g, .ref gc, .int 1, .int 0, .int 0, .int 0, .long 0, .long 0])), (sc, .inr (6, [.ref g, .int (-1), .ref td])), (g, .inr (3, [.ref gc, .ref ga1, .ref ga2, .ref ga3, .ref ga4, .ref ga5, .ref ga6, .ref ga7, .ref ga8, .int 0, .int 0, .int 0, .int 0, .int (-1)])), (st, .inl (cL, 304, .inr (.inl f1))), (se, .inl (cI, 304, .inl f2)), (mk, .inl (cI, 42, .inl f3)), (us, .inl (cI, 40, .inl f4)), (te, .inl (cI, 24, .inl f5))] := hD
  refine lv_aload_n hx hb dX1_clear_27 rfl (lv_at hl 0 rfl) ?_
  refine lv_iconst (v := 1) hx hb dX1_clear_28 (by decide) ?_
  refine va_put (D := (dC, dI)) (ci := 1) (v := .int 1) (ty := .int) (C := RX1) (T := TX1) (N := 14) hx hb hts iwwsX1_clear_1 tyX1 tyX1_ok nmX1 hown hK hP hD hS 0 rfl rfl 11 (by decide) (hts (.fieldLink RX1 78 "NothingJudge$Facts" "version" "I") fwwsX1_clear_78) (fun _ h9 => h9) rfl (by decide +kernel) rfl rfl (Nat.le_of_ble_eq_true rfl) dX1_clear_29 (fun H locs hP hD hS => ?_)
  have hP : va_P (dC, dI) vwCl [(h0, .inr (1, [.ref sc, .ref st, .ref se, .ref mk, .ref us, .ref te, .ref g, .ref gc, .int 1, .int 0, .int 0, .int 1, .long 0, .long 0])), (sc, .inr (6, [.ref g, .int (-1), .ref td])), (g, .inr (3, [.ref gc, .ref ga1, .ref ga2, .ref ga3, .ref ga4, .ref ga5, .ref ga6, .ref ga7, .ref ga8, .int 0, .int 0, .int 0, .int 0, .int (-1)])), (st, .inl (cL, 304, .inr (.inl f1))), (se, .inl (cI, 304, .inl f2)), (mk, .inl (cI, 42, .inl f3)), (us, .inl (cI, 40, .inl f4)), (te, .inl (cI, 24, .inl f5))] H := hP
  have hD : va_D A [(h0, .inr (1, [.ref sc, .ref st, .ref se, .ref mk, .ref us, .ref te, .ref g, .ref gc, .int 1, .int 0, .int 0, .int 1, .long 0, .long 0])), (sc, .inr (6, [.ref g, .int (-1), .ref td])), (g, .inr (3, [.ref gc, .ref ga1, .ref ga2, .ref ga3, .ref ga4, .ref ga5, .ref ga6, .ref ga7, .ref ga8, .int 0, .int 0, .int 0, .int 0, .int (-1)])), (st, .inl (cL, 304, .inr (.inl f1))), (se, .inl (cI, 304, .inl f2)), (mk, .inl (cI, 42, .inl f3)), (us, .inl (cI, 40, .inl f4)), (te, .inl (cI, 24, .inl f5))] := hD
  refine lv_aload_n hx hb dX1_clear_32 rfl (lv_at hl 0 rfl) ?_
  refine va_get (D := (dC, dI)) (ci := 1) (v := .ref st) (C := RX1) (T := TX1) (N := 14) hx hb hts iwwsX1_clear_1 hown hK hP 0 rfl rfl 1 (by decide) (hts (.fieldLink RX1 9 "NothingJudge$Facts" "state" "[J") fwwsX1_clear_9) (fun _ h9 => h9) rfl dX1_clear_33 ?_
  refine lv_lconst (v := 0) hx hb dX1_clear_36 (by decide) ?_
  have hPc := hP.sub (ws' := [(st, .inl (cL, 304, .inr (.inl f1)))]) [3] rfl
  have hDc := hD.sub (ws' := [(st, .inl (cL, 304, .inr (.inl f1)))]) [3] (by decide) rfl
  have hFc := va_free (wc := [(st, .inl (cL, 304, .inr (.inl f1)))]) hD hS hA [3] rfl
  refine va_callv (va_runS (As := [.ref st, .long 0]) (rest := []) ⟨hx, hb, hml, hown, hts⟩ (c_fillL l dC dI cI cB cL cZ (st) (0) (f1) (304) H.size (by decide)) (va_cwS 2 hts gX1_clear_J7_fill_d0a16 rfl rfl rfl (by decide +kernel) ⟨Nat.le_of_ble_eq_true rfl, Nat.le_of_ble_eq_true rfl⟩) ⟨cP_fb, fun U hU hW => cP_pre hPc hK hDc hN U hU hW⟩ rfl rfl hl.1 rfl (lv_room (Nat.le_of_ble_eq_true rfl)) dX1_clear_37 ⟨Nat.le_of_ble_eq_true rfl, Nat.le_of_ble_eq_true rfl⟩) hS (fun q _ h => hFc q h) hFc (fun u t H1 locs ht hvm hw hB hz1 hk1 hS => ?_)
  obtain ⟨fl_226, hP1, hD1⟩ := hB
  rw [ht] at hP1
  obtain ⟨hP, hD⟩ := va_join (wr := [(h0, .inr (1, [.ref sc, .ref st, .ref se, .ref mk, .ref us, .ref te, .ref g, .ref gc, .int 1, .int 0, .int 0, .int 1, .long 0, .long 0])), (sc, .inr (6, [.ref g, .int (-1), .ref td])), (g, .inr (3, [.ref gc, .ref ga1, .ref ga2, .ref ga3, .ref ga4, .ref ga5, .ref ga6, .ref ga7, .ref ga8, .int 0, .int 0, .int 0, .int 0, .int (-1)])), (se, .inl (cI, 304, .inl f2)), (mk, .inl (cI, 42, .inl f3)), (us, .inl (cI, 40, .inl f4)), (te, .inl (cI, 24, .inl f5))]) (w1 := [(st, .inl (cL, N, .inr (.inl fl_226)))]) hP hD [3] [0, 1, 2, 4, 5, 6, 7] rfl rfl (by decide) (by decide) hk1 hFc hP1 hD1
  generalize H1 = H at hP hS ⊢
  have hP : va_P (dC, dI) vwCl [(h0, .inr (1, [.ref sc, .ref st, .ref se, .ref mk, .ref us, .ref te, .ref g, .ref gc, .int 1, .int 0, .int 0, .int 1, .long 0, .long 0])), (sc, .inr (6, [.ref g, .int (-1), .ref td])), (g, .inr (3, [.ref gc, .ref ga1, .ref ga2, .ref ga3, .ref ga4, .ref ga5, .ref ga6, .ref ga7, .ref ga8, .int 0, .int 0, .int 0, .int 0, .int (-1)])), (se, .inl (cI, 304, .inl f2)), (mk, .inl (cI, 42, .inl f3)), (us, .inl (cI, 40, .inl f4)), (te, .inl (cI, 24, .inl f5)), (st, .inl (cL, N, .inr (.inl fl_226)))] H := hP
  have hD : va_D A [(h0, .inr (1, [.ref sc, .ref st, .ref se, .ref mk, .ref us, .ref te, .ref g, .ref gc, .int 1, .int 0, .int 0, .int 1, .long 0, .long 0])), (sc, .inr (6, [.ref g, .int (-1), .ref td])), (g, .inr (3, [.ref gc, .ref ga1, .ref ga2, .ref ga3, .ref ga4, .ref ga5, .ref ga6, .ref ga7, .ref ga8, .int 0, .int 0, .int 0, .int 0, .int (-1)])), (se, .inl (cI, 304, .inl f2)), (mk, .inl (cI, 42, .inl f3)), (us, .inl (cI, 40, .inl f4)), (te, .inl (cI, 24, .inl f5)), (st, .inl (cL, N, .inr (.inl fl_226)))] := hD
  refine lv_aload_n hx hb dX1_clear_40 rfl (lv_at hl 0 rfl) ?_
  refine va_get (D := (dC, dI)) (ci := 1) (v := .ref se) (C := RX1) (T := TX1) (N := 14) hx hb hts iwwsX1_clear_1 hown hK hP 0 rfl rfl 2 (by decide) (hts (.fieldLink RX1 15 "NothingJudge$Facts" "seenAt" "[I") fwwsX1_clear_15) (fun _ h9 => h9) rfl dX1_clear_41 ?_
  refine lv_iconst (v := 0) hx hb dX1_clear_44 (by decide) ?_
  have hPc := hP.sub (ws' := [(se, .inl (cI, 304, .inl f2))]) [3] rfl
  have hDc := hD.sub (ws' := [(se, .inl (cI, 304, .inl f2))]) [3] (by decide) rfl
  have hFc := va_free (wc := [(se, .inl (cI, 304, .inl f2))]) hD hS hA [3] rfl
  refine va_callv (va_runS (As := [.ref se, .int 0]) (rest := []) ⟨hx, hb, hml, hown, hts⟩ (c_fillI l dC dI cI cB cL cZ (se) (0) (f2) (304) H.size (by decide)) (va_cwS 2 hts gX1_clear_J7_fill_53178 rfl rfl rfl (by decide +kernel) ⟨Nat.le_of_ble_eq_true rfl, Nat.le_of_ble_eq_true rfl⟩) ⟨cP_fb, fun U hU hW => cP_pre hPc hK hDc hN U hU hW⟩ rfl rfl hl.1 rfl (lv_room (Nat.le_of_ble_eq_true rfl)) dX1_clear_45 ⟨Nat.le_of_ble_eq_true rfl, Nat.le_of_ble_eq_true rfl⟩) hS (fun q _ h => hFc q h) hFc (fun u t H1 locs ht hvm hw hB hz1 hk1 hS => ?_)
  obtain ⟨f_228, hf_229, hP1, hD1⟩ := hB
  rw [ht] at hP1
  obtain ⟨hP, hD⟩ := va_join (wr := [(h0, .inr (1, [.ref sc, .ref st, .ref se, .ref mk, .ref us, .ref te, .ref g, .ref gc, .int 1, .int 0, .int 0, .int 1, .long 0, .long 0])), (sc, .inr (6, [.ref g, .int (-1), .ref td])), (g, .inr (3, [.ref gc, .ref ga1, .ref ga2, .ref ga3, .ref ga4, .ref ga5, .ref ga6, .ref ga7, .ref ga8, .int 0, .int 0, .int 0, .int 0, .int (-1)])), (mk, .inl (cI, 42, .inl f3)), (us, .inl (cI, 40, .inl f4)), (te, .inl (cI, 24, .inl f5)), (st, .inl (cL, N, .inr (.inl fl_226)))]) (w1 := [(se, .inl (cI, N, .inl f_228))]) hP hD [3] [0, 1, 2, 4, 5, 6, 7] rfl rfl (by decide) (by decide) hk1 hFc hP1 hD1
  generalize H1 = H at hP hS ⊢
  have hP : va_P (dC, dI) vwCl [(h0, .inr (1, [.ref sc, .ref st, .ref se, .ref mk, .ref us, .ref te, .ref g, .ref gc, .int 1, .int 0, .int 0, .int 1, .long 0, .long 0])), (sc, .inr (6, [.ref g, .int (-1), .ref td])), (g, .inr (3, [.ref gc, .ref ga1, .ref ga2, .ref ga3, .ref ga4, .ref ga5, .ref ga6, .ref ga7, .ref ga8, .int 0, .int 0, .int 0, .int 0, .int (-1)])), (mk, .inl (cI, 42, .inl f3)), (us, .inl (cI, 40, .inl f4)), (te, .inl (cI, 24, .inl f5)), (st, .inl (cL, N, .inr (.inl fl_226))), (se, .inl (cI, N, .inl f_228))] H := hP
  have hD : va_D A [(h0, .inr (1, [.ref sc, .ref st, .ref se, .ref mk, .ref us, .ref te, .ref g, .ref gc, .int 1, .int 0, .int 0, .int 1, .long 0, .long 0])), (sc, .inr (6, [.ref g, .int (-1), .ref td])), (g, .inr (3, [.ref gc, .ref ga1, .ref ga2, .ref ga3, .ref ga4, .ref ga5, .ref ga6, .ref ga7, .ref ga8, .int 0, .int 0, .int 0, .int 0, .int (-1)])), (mk, .inl (cI, 42, .inl f3)), (us, .inl (cI, 40, .inl f4)), (te, .inl (cI, 24, .inl f5)), (st, .inl (cL, N, .inr (.inl fl_226))), (se, .inl (cI, N, .inl f_228))] := hD
  refine lv_aload_n hx hb dX1_clear_48 rfl (lv_at hl 0 rfl) ?_
  refine va_get (D := (dC, dI)) (ci := 1) (v := .ref mk) (C := RX1) (T := TX1) (N := 14) hx hb hts iwwsX1_clear_1 hown hK hP 0 rfl rfl 3 (by decide) (hts (.fieldLink RX1 19 "NothingJudge$Facts" "marks" "[I") fwwsX1_clear_19) (fun _ h9 => h9) rfl dX1_clear_49 ?_
  refine lv_iconst (v := 0) hx hb dX1_clear_52 (by decide) ?_
  have hPc := hP.sub (ws' := [(mk, .inl (cI, 42, .inl f3))]) [3] rfl
  have hDc := hD.sub (ws' := [(mk, .inl (cI, 42, .inl f3))]) [3] (by decide) rfl
  have hFc := va_free (wc := [(mk, .inl (cI, 42, .inl f3))]) hD hS hA [3] rfl
  refine va_callv (va_runS (As := [.ref mk, .int 0]) (rest := []) ⟨hx, hb, hml, hown, hts⟩ (c_fillI l dC dI cI cB cL cZ (mk) (0) (f3) (42) H.size (by decide)) (va_cwS 2 hts gX1_clear_J7_fill_53178 rfl rfl rfl (by decide +kernel) ⟨Nat.le_of_ble_eq_true rfl, Nat.le_of_ble_eq_true rfl⟩) ⟨cP_fb, fun U hU hW => cP_pre hPc hK hDc hN U hU hW⟩ rfl rfl hl.1 rfl (lv_room (Nat.le_of_ble_eq_true rfl)) dX1_clear_53 ⟨Nat.le_of_ble_eq_true rfl, Nat.le_of_ble_eq_true rfl⟩) hS (fun q _ h => hFc q h) hFc (fun u t H1 locs ht hvm hw hB hz1 hk1 hS => ?_)
  obtain ⟨f_231, hf_232, hP1, hD1⟩ := hB
  rw [ht] at hP1
  obtain ⟨hP, hD⟩ := va_join (wr := [(h0, .inr (1, [.ref sc, .ref st, .ref se, .ref mk, .ref us, .ref te, .ref g, .ref gc, .int 1, .int 0, .int 0, .int 1, .long 0, .long 0])), (sc, .inr (6, [.ref g, .int (-1), .ref td])), (g, .inr (3, [.ref gc, .ref ga1, .ref ga2, .ref ga3, .ref ga4, .ref ga5, .ref ga6, .ref ga7, .ref ga8, .int 0, .int 0, .int 0, .int 0, .int (-1)])), (us, .inl (cI, 40, .inl f4)), (te, .inl (cI, 24, .inl f5)), (st, .inl (cL, N, .inr (.inl fl_226))), (se, .inl (cI, N, .inl f_228))]) (w1 := [(mk, .inl (cI, N, .inl f_231))]) hP hD [3] [0, 1, 2, 4, 5, 6, 7] rfl rfl (by decide) (by decide) hk1 hFc hP1 hD1
  generalize H1 = H at hP hS ⊢
  have hP : va_P (dC, dI) vwCl [(h0, .inr (1, [.ref sc, .ref st, .ref se, .ref mk, .ref us, .ref te, .ref g, .ref gc, .int 1, .int 0, .int 0, .int 1, .long 0, .long 0])), (sc, .inr (6, [.ref g, .int (-1), .ref td])), (g, .inr (3, [.ref gc, .ref ga1, .ref ga2, .ref ga3, .ref ga4, .ref ga5, .ref ga6, .ref ga7, .ref ga8, .int 0, .int 0, .int 0, .int 0, .int (-1)])), (us, .inl (cI, 40, .inl f4)), (te, .inl (cI, 24, .inl f5)), (st, .inl (cL, N, .inr (.inl fl_226))), (se, .inl (cI, N, .inl f_228)), (mk, .inl (cI, N, .inl f_231))] H := hP
  have hD : va_D A [(h0, .inr (1, [.ref sc, .ref st, .ref se, .ref mk, .ref us, .ref te, .ref g, .ref gc, .int 1, .int 0, .int 0, .int 1, .long 0, .long 0])), (sc, .inr (6, [.ref g, .int (-1), .ref td])), (g, .inr (3, [.ref gc, .ref ga1, .ref ga2, .ref ga3, .ref ga4, .ref ga5, .ref ga6, .ref ga7, .ref ga8, .int 0, .int 0, .int 0, .int 0, .int (-1)])), (us, .inl (cI, 40, .inl f4)), (te, .inl (cI, 24, .inl f5)), (st, .inl (cL, N, .inr (.inl fl_226))), (se, .inl (cI, N, .inl f_228)), (mk, .inl (cI, N, .inl f_231))] := hD
  refine lv_aload_n hx hb dX1_clear_56 rfl (lv_at hl 0 rfl) ?_
  refine va_get (D := (dC, dI)) (ci := 1) (v := .ref us) (C := RX1) (T := TX1) (N := 14) hx hb hts iwwsX1_clear_1 hown hK hP 0 rfl rfl 4 (by decide) (hts (.fieldLink RX1 22 "NothingJudge$Facts" "used" "[I") fwwsX1_clear_22) (fun _ h9 => h9) rfl dX1_clear_57 ?_
  refine lv_iconst (v := 0) hx hb dX1_clear_60 (by decide) ?_
  have hPc := hP.sub (ws' := [(us, .inl (cI, 40, .inl f4))]) [3] rfl
  have hDc := hD.sub (ws' := [(us, .inl (cI, 40, .inl f4))]) [3] (by decide) rfl
  have hFc := va_free (wc := [(us, .inl (cI, 40, .inl f4))]) hD hS hA [3] rfl
  refine va_callv (va_runS (As := [.ref us, .int 0]) (rest := []) ⟨hx, hb, hml, hown, hts⟩ (c_fillI l dC dI cI cB cL cZ (us) (0) (f4) (40) H.size (by decide)) (va_cwS 2 hts gX1_clear_J7_fill_53178 rfl rfl rfl (by decide +kernel) ⟨Nat.le_of_ble_eq_true rfl, Nat.le_of_ble_eq_true rfl⟩) ⟨cP_fb, fun U hU hW => cP_pre hPc hK hDc hN U hU hW⟩ rfl rfl hl.1 rfl (lv_room (Nat.le_of_ble_eq_true rfl)) dX1_clear_61 ⟨Nat.le_of_ble_eq_true rfl, Nat.le_of_ble_eq_true rfl⟩) hS (fun q _ h => hFc q h) hFc (fun u t H1 locs ht hvm hw hB hz1 hk1 hS => ?_)
  obtain ⟨f_234, hf_235, hP1, hD1⟩ := hB
  rw [ht] at hP1
  obtain ⟨hP, hD⟩ := va_join (wr := [(h0, .inr (1, [.ref sc, .ref st, .ref se, .ref mk, .ref us, .ref te, .ref g, .ref gc, .int 1, .int 0, .int 0, .int 1, .long 0, .long 0])), (sc, .inr (6, [.ref g, .int (-1), .ref td])), (g, .inr (3, [.ref gc, .ref ga1, .ref ga2, .ref ga3, .ref ga4, .ref ga5, .ref ga6, .ref ga7, .ref ga8, .int 0, .int 0, .int 0, .int 0, .int (-1)])), (te, .inl (cI, 24, .inl f5)), (st, .inl (cL, N, .inr (.inl fl_226))), (se, .inl (cI, N, .inl f_228)), (mk, .inl (cI, N, .inl f_231))]) (w1 := [(us, .inl (cI, N, .inl f_234))]) hP hD [3] [0, 1, 2, 4, 5, 6, 7] rfl rfl (by decide) (by decide) hk1 hFc hP1 hD1
  generalize H1 = H at hP hS ⊢
  have hP : va_P (dC, dI) vwCl [(h0, .inr (1, [.ref sc, .ref st, .ref se, .ref mk, .ref us, .ref te, .ref g, .ref gc, .int 1, .int 0, .int 0, .int 1, .long 0, .long 0])), (sc, .inr (6, [.ref g, .int (-1), .ref td])), (g, .inr (3, [.ref gc, .ref ga1, .ref ga2, .ref ga3, .ref ga4, .ref ga5, .ref ga6, .ref ga7, .ref ga8, .int 0, .int 0, .int 0, .int 0, .int (-1)])), (te, .inl (cI, 24, .inl f5)), (st, .inl (cL, N, .inr (.inl fl_226))), (se, .inl (cI, N, .inl f_228)), (mk, .inl (cI, N, .inl f_231)), (us, .inl (cI, N, .inl f_234))] H := hP
  have hD : va_D A [(h0, .inr (1, [.ref sc, .ref st, .ref se, .ref mk, .ref us, .ref te, .ref g, .ref gc, .int 1, .int 0, .int 0, .int 1, .long 0, .long 0])), (sc, .inr (6, [.ref g, .int (-1), .ref td])), (g, .inr (3, [.ref gc, .ref ga1, .ref ga2, .ref ga3, .ref ga4, .ref ga5, .ref ga6, .ref ga7, .ref ga8, .int 0, .int 0, .int 0, .int 0, .int (-1)])), (te, .inl (cI, 24, .inl f5)), (st, .inl (cL, N, .inr (.inl fl_226))), (se, .inl (cI, N, .inl f_228)), (mk, .inl (cI, N, .inl f_231)), (us, .inl (cI, N, .inl f_234))] := hD
  refine lv_aload_n hx hb dX1_clear_64 rfl (lv_at hl 0 rfl) ?_
  refine va_get (D := (dC, dI)) (ci := 1) (v := .ref te) (C := RX1) (T := TX1) (N := 14) hx hb hts iwwsX1_clear_1 hown hK hP 0 rfl rfl 5 (by decide) (hts (.fieldLink RX1 25 "NothingJudge$Facts" "tested" "[I") fwwsX1_clear_25) (fun _ h9 => h9) rfl dX1_clear_65 ?_
  refine lv_iconst (v := 0) hx hb dX1_clear_68 (by decide) ?_
  have hPc := hP.sub (ws' := [(te, .inl (cI, 24, .inl f5))]) [3] rfl
  have hDc := hD.sub (ws' := [(te, .inl (cI, 24, .inl f5))]) [3] (by decide) rfl
  have hFc := va_free (wc := [(te, .inl (cI, 24, .inl f5))]) hD hS hA [3] rfl
  refine va_callv (va_runS (As := [.ref te, .int 0]) (rest := []) ⟨hx, hb, hml, hown, hts⟩ (c_fillI l dC dI cI cB cL cZ (te) (0) (f5) (24) H.size (by decide)) (va_cwS 2 hts gX1_clear_J7_fill_53178 rfl rfl rfl (by decide +kernel) ⟨Nat.le_of_ble_eq_true rfl, Nat.le_of_ble_eq_true rfl⟩) ⟨cP_fb, fun U hU hW => cP_pre hPc hK hDc hN U hU hW⟩ rfl rfl hl.1 rfl (lv_room (Nat.le_of_ble_eq_true rfl)) dX1_clear_69 ⟨Nat.le_of_ble_eq_true rfl, Nat.le_of_ble_eq_true rfl⟩) hS (fun q _ h => hFc q h) hFc (fun u t H1 locs ht hvm hw hB hz1 hk1 hS => ?_)
  obtain ⟨f_237, hf_238, hP1, hD1⟩ := hB
  rw [ht] at hP1
  obtain ⟨hP, hD⟩ := va_join (wr := [(h0, .inr (1, [.ref sc, .ref st, .ref se, .ref mk, .ref us, .ref te, .ref g, .ref gc, .int 1, .int 0, .int 0, .int 1, .long 0, .long 0])), (sc, .inr (6, [.ref g, .int (-1), .ref td])), (g, .inr (3, [.ref gc, .ref ga1, .ref ga2, .ref ga3, .ref ga4, .ref ga5, .ref ga6, .ref ga7, .ref ga8, .int 0, .int 0, .int 0, .int 0, .int (-1)])), (st, .inl (cL, N, .inr (.inl fl_226))), (se, .inl (cI, N, .inl f_228)), (mk, .inl (cI, N, .inl f_231)), (us, .inl (cI, N, .inl f_234))]) (w1 := [(te, .inl (cI, N, .inl f_237))]) hP hD [3] [0, 1, 2, 4, 5, 6, 7] rfl rfl (by decide) (by decide) hk1 hFc hP1 hD1
  generalize H1 = H at hP hS ⊢
  have hP : va_P (dC, dI) vwCl [(h0, .inr (1, [.ref sc, .ref st, .ref se, .ref mk, .ref us, .ref te, .ref g, .ref gc, .int 1, .int 0, .int 0, .int 1, .long 0, .long 0])), (sc, .inr (6, [.ref g, .int (-1), .ref td])), (g, .inr (3, [.ref gc, .ref ga1, .ref ga2, .ref ga3, .ref ga4, .ref ga5, .ref ga6, .ref ga7, .ref ga8, .int 0, .int 0, .int 0, .int 0, .int (-1)])), (st, .inl (cL, N, .inr (.inl fl_226))), (se, .inl (cI, N, .inl f_228)), (mk, .inl (cI, N, .inl f_231)), (us, .inl (cI, N, .inl f_234)), (te, .inl (cI, N, .inl f_237))] H := hP
  have hD : va_D A [(h0, .inr (1, [.ref sc, .ref st, .ref se, .ref mk, .ref us, .ref te, .ref g, .ref gc, .int 1, .int 0, .int 0, .int 1, .long 0, .long 0])), (sc, .inr (6, [.ref g, .int (-1), .ref td])), (g, .inr (3, [.ref gc, .ref ga1, .ref ga2, .ref ga3, .ref ga4, .ref ga5, .ref ga6, .ref ga7, .ref ga8, .int 0, .int 0, .int 0, .int 0, .int (-1)])), (st, .inl (cL, N, .inr (.inl fl_226))), (se, .inl (cI, N, .inl f_228)), (mk, .inl (cI, N, .inl f_231)), (us, .inl (cI, N, .inl f_234)), (te, .inl (cI, N, .inl f_237))] := hD
  have hP9 := hP.sub (ws' := [(h0, .inr (1, [.ref sc, .ref st, .ref se, .ref mk, .ref us, .ref te, .ref g, .ref gc, .int 1, .int 0, .int 0, .int 1, .long 0, .long 0])), (sc, .inr (6, [.ref g, .int (-1), .ref td])), (g, .inr (3, [.ref gc, .ref ga1, .ref ga2, .ref ga3, .ref ga4, .ref ga5, .ref ga6, .ref ga7, .ref ga8, .int 0, .int 0, .int 0, .int 0, .int (-1)])), (mk, .inl (cI, N, .inl f_231))]) [0, 1, 2, 5] rfl
  have hD9 := hD.sub (ws' := [(h0, .inr (1, [.ref sc, .ref st, .ref se, .ref mk, .ref us, .ref te, .ref g, .ref gc, .int 1, .int 0, .int 0, .int 1, .long 0, .long 0])), (sc, .inr (6, [.ref g, .int (-1), .ref td])), (g, .inr (3, [.ref gc, .ref ga1, .ref ga2, .ref ga3, .ref ga4, .ref ga5, .ref ga6, .ref ga7, .ref ga8, .int 0, .int 0, .int 0, .int 0, .int (-1)])), (mk, .inl (cI, N, .inl f_231))]) [0, 1, 2, 5] (by decide) rfl
  exact W.vret hx hb hr (fun t ht hW => ⟨⟨(), rfl, trivial, f_231, hf_232, by rw [ht]; exact hP9, hD9⟩, hS.F ht⟩) hS.2.2 dX1_clear_72

set_option maxHeartbeats 4000000 in
set_option maxRecDepth 100000 in
theorem c_reach (l : Launch) (dC : Nat → ClassId) (dI : Nat → Nat → Nat) (cI cB cL cZ : ClassId) (h0 : Nat) (sc : Nat) (g : Nat) (td : Nat) (gc : Nat) (st : Nat) (se : Nat) (mk : Nat) (us : Nat) (te : Nat) (ga1 : Nat) (ga2 : Nat) (ga3 : Nat) (ga4 : Nat) (ga5 : Nat) (ga6 : Nat) (ga7 : Nat) (ga8 : Nat) (sz : Nat)  : Met l yX1_reachEntry wsX1_reachEntry ({ frames := 1, cells := 0, slots := 0, locals := 21 }) (cP (dC, dI) (kTy cI cB cL cZ) [.ref h0] [(h0, .inr (1, [.ref sc, .ref st, .ref se, .ref mk, .ref us, .ref te, .ref g, .ref gc, .int 1, .int 0, .int 0, .int 1, .long 0, .long 0])), (sc, .inr (6, [.ref g, .int (-1), .ref td])), (g, .inr (3, [.ref gc, .ref ga1, .ref ga2, .ref ga3, .ref ga4, .ref ga5, .ref ga6, .ref ga7, .ref ga8, .int 0, .int 0, .int 0, .int 0, .int (-1)]))] sz) (va_Qv (fun _ : Unit => True) (fun (_ : Unit) (t : State) => va_P (dC, dI) vwCl [(h0, .inr (1, [.ref sc, .ref st, .ref se, .ref mk, .ref us, .ref te, .ref g, .ref gc, .int 1, .int 0, .int 0, .int 1, .long 0, .long 0])), (sc, .inr (6, [.ref g, .int (-1), .ref td])), (g, .inr (3, [.ref gc, .ref ga1, .ref ga2, .ref ga3, .ref ga4, .ref ga5, .ref ga6, .ref ga7, .ref ga8, .int 0, .int 0, .int 0, .int 0, .int (-1)]))] t.heap ∧ va_D (va_A [(h0, .inr (1, [.ref sc, .ref st, .ref se, .ref mk, .ref us, .ref te, .ref g, .ref gc, .int 1, .int 0, .int 0, .int 1, .long 0, .long 0])), (sc, .inr (6, [.ref g, .int (-1), .ref td])), (g, .inr (3, [.ref gc, .ref ga1, .ref ga2, .ref ga3, .ref ga4, .ref ga5, .ref ga6, .ref ga7, .ref ga8, .int 0, .int 0, .int 0, .int 0, .int (-1)]))] sz) [(h0, .inr (1, [.ref sc, .ref st, .ref se, .ref mk, .ref us, .ref te, .ref g, .ref gc, .int 1, .int 0, .int 0, .int 1, .long 0, .long 0])), (sc, .inr (6, [.ref g, .int (-1), .ref td])), (g, .inr (3, [.ref gc, .ref ga1, .ref ga2, .ref ga3, .ref ga4, .ref ga5, .ref ga6, .ref ga7, .ref ga8, .int 0, .int 0, .int 0, .int 0, .int (-1)]))]) (va_A [(h0, .inr (1, [.ref sc, .ref st, .ref se, .ref mk, .ref us, .ref te, .ref g, .ref gc, .int 1, .int 0, .int 0, .int 1, .long 0, .long 0])), (sc, .inr (6, [.ref g, .int (-1), .ref td])), (g, .inr (3, [.ref gc, .ref ga1, .ref ga2, .ref ga3, .ref ga4, .ref ga5, .ref ga6, .ref ga7, .ref ga8, .int 0, .int 0, .int 0, .int 0, .int (-1)]))] sz)) 0 0 (va_A [(h0, .inr (1, [.ref sc, .ref st, .ref se, .ref mk, .ref us, .ref te, .ref g, .ref gc, .int 1, .int 0, .int 0, .int 1, .long 0, .long 0])), (sc, .inr (6, [.ref g, .int (-1), .ref td])), (g, .inr (3, [.ref gc, .ref ga1, .ref ga2, .ref ga3, .ref ga4, .ref ga5, .ref ga6, .ref ga7, .ref ga8, .int 0, .int 0, .int 0, .int 0, .int (-1)]))] sz) := by
  refine Met.ofW (cc := cX1_reachEntry) (maxL := 3) (ret := none) (by decide) rfl ?_
  intro p e s m args below meth c s₁ B hml hv
  obtain ⟨rfl, hsz, hP, hK, hD0, hN⟩ := hv
  have hx := B.exec
  have hb := B.bytes
  have hr := B.returns
  have hts := atoms_spec (ws := wsX1_reachEntry) B.pre
  have hown : s.vm.findClass RX1 = some m.cls := findClass_of_methodNamed B.named
  have hlocks := B.notSynchronized
  subst hsz
  have hD := hD0.self (sz := s.heap.size)
  generalize hAe : va_A [(h0, .inr (1, [.ref sc, .ref st, .ref se, .ref mk, .ref us, .ref te, .ref g, .ref gc, .int 1, .int 0, .int 0, .int 1, .long 0, .long 0])), (sc, .inr (6, [.ref g, .int (-1), .ref td])), (g, .inr (3, [.ref gc, .ref ga1, .ref ga2, .ref ga3, .ref ga4, .ref ga5, .ref ga6, .ref ga7, .ref ga8, .int 0, .int 0, .int 0, .int 0, .int (-1)]))] s.heap.size = A at hD ⊢
  have hA : ∀ q : Nat, s.heap.size ≤ q → A q := fun q h => by rw [← hAe]; exact Or.inr h
  have hl := lv_entry ([.ref h0]) (n := 3) (Nat.le_of_ble_eq_true rfl)
  rw [lg_entry_eq]
  generalize (lg_sl ([.ref h0]) ++ List.replicate (3 - (lg_sl ([.ref h0])).length) Slot.unset).toArray = ls at hl ⊢
  have hl : lv_has ls 3 [(0, .ref h0)] := hl
  refine k_H (A := A) hP (fun H hP hS => ?_)
  have hP : va_P (dC, dI) vwCl [(h0, .inr (1, [.ref sc, .ref st, .ref se, .ref mk, .ref us, .ref te, .ref g, .ref gc, .int 1, .int 0, .int 0, .int 1, .long 0, .long 0])), (sc, .inr (6, [.ref g, .int (-1), .ref td])), (g, .inr (3, [.ref gc, .ref ga1, .ref ga2, .ref ga3, .ref ga4, .ref ga5, .ref ga6, .ref ga7, .ref ga8, .int 0, .int 0, .int 0, .int 0, .int (-1)]))] H := hP
  have hD : va_D A [(h0, .inr (1, [.ref sc, .ref st, .ref se, .ref mk, .ref us, .ref te, .ref g, .ref gc, .int 1, .int 0, .int 0, .int 1, .long 0, .long 0])), (sc, .inr (6, [.ref g, .int (-1), .ref td])), (g, .inr (3, [.ref gc, .ref ga1, .ref ga2, .ref ga3, .ref ga4, .ref ga5, .ref ga6, .ref ga7, .ref ga8, .int 0, .int 0, .int 0, .int 0, .int (-1)]))] := hD
  refine lv_aload_n hx hb dX1_reachEntry_0 rfl (lv_at hl 0 rfl) ?_
  refine va_get (D := (dC, dI)) (ci := 1) (v := .ref g) (C := RX1) (T := TX1) (N := 14) hx hb hts iwwsX1_reachEntry_1 hown hK hP 0 rfl rfl 6 (by decide) (hts (.fieldLink RX1 42 "NothingJudge$Facts" "program" "LNothingJudge$Program;") fwwsX1_reachEntry_42) (fun _ h9 => h9) rfl dX1_reachEntry_1 ?_
  refine lv_aload_n hx hb dX1_reachEntry_4 rfl (lv_at hl 0 rfl) ?_
  refine va_get (D := (dC, dI)) (ci := 1) (v := .ref sc) (C := RX1) (T := TX1) (N := 14) hx hb hts iwwsX1_reachEntry_1 hown hK hP 0 rfl rfl 0 (by decide) (hts (.fieldLink RX1 32 "NothingJudge$Facts" "scene" "LNothingJudge$Scene;") fwwsX1_reachEntry_32) (fun _ h9 => h9) rfl dX1_reachEntry_5 ?_
  refine va_get (D := (dC, dI)) (ci := 6) (v := .int (-1)) (C := RX7) (T := TX7) (N := 3) hx hb hts iwwsX1_reachEntry_7 hown hK hP 1 rfl rfl 1 (by decide) (hts (.fieldLink RX1 104 "NothingJudge$Scene" "start" "I") fwwsX1_reachEntry_104) (fun _ h9 => h9) rfl dX1_reachEntry_8 ?_
  have hPc := hP.sub (ws' := [(g, .inr (3, [.ref gc, .ref ga1, .ref ga2, .ref ga3, .ref ga4, .ref ga5, .ref ga6, .ref ga7, .ref ga8, .int 0, .int 0, .int 0, .int 0, .int (-1)]))]) [2] rfl
  have hDc := hD.sub (ws' := [(g, .inr (3, [.ref gc, .ref ga1, .ref ga2, .ref ga3, .ref ga4, .ref ga5, .ref ga6, .ref ga7, .ref ga8, .int 0, .int 0, .int 0, .int 0, .int (-1)]))]) [2] (by decide) rfl
  have hFc := va_free (wc := [(g, .inr (3, [.ref gc, .ref ga1, .ref ga2, .ref ga3, .ref ga4, .ref ga5, .ref ga6, .ref ga7, .ref ga8, .int 0, .int 0, .int 0, .int 0, .int (-1)]))]) hD hS hA [2] rfl
  refine va_calli (va_runV (As := [.int (-1)]) (rest := []) ⟨hx, hb, hml, hown, hts⟩ (c_has l dC dI cI cB cL cZ (g) (gc) (ga1) (ga2) (ga3) (ga4) (ga5) (ga6) (ga7) (ga8) ((-1)) H.size) (cwV 1 hts gX1_reachEntry_X3_has rfl rfl rfl (by decide +kernel) ⟨Nat.le_of_ble_eq_true rfl, Nat.le_of_ble_eq_true rfl⟩) ⟨cP_fb, va_recv hK hPc (ci := 3) (q0 := 0) rfl rfl, fun U hU hW => cP_pre hPc hK hDc hN U hU hW⟩ rfl rfl hl.1 rfl (lv_room (Nat.le_of_ble_eq_true rfl)) dX1_reachEntry_11 ⟨Nat.le_of_ble_eq_true rfl, Nat.le_of_ble_eq_true rfl⟩) hS (fun q _ h => hFc q h) hFc (fun r_240 u t H1 locs ht hvm hw hB hz1 hk1 hS => ?_)
  obtain ⟨hP1, hD1⟩ := hB
  rw [ht] at hP1
  obtain ⟨hP, hD⟩ := va_join (wr := [(h0, .inr (1, [.ref sc, .ref st, .ref se, .ref mk, .ref us, .ref te, .ref g, .ref gc, .int 1, .int 0, .int 0, .int 1, .long 0, .long 0])), (sc, .inr (6, [.ref g, .int (-1), .ref td]))]) (w1 := [(g, .inr (3, [.ref gc, .ref ga1, .ref ga2, .ref ga3, .ref ga4, .ref ga5, .ref ga6, .ref ga7, .ref ga8, .int 0, .int 0, .int 0, .int 0, .int (-1)]))]) hP hD [2] [0, 1] rfl rfl (by decide) (by decide) hk1 hFc hP1 hD1
  generalize H1 = H at hP hS ⊢
  have hP : va_P (dC, dI) vwCl [(h0, .inr (1, [.ref sc, .ref st, .ref se, .ref mk, .ref us, .ref te, .ref g, .ref gc, .int 1, .int 0, .int 0, .int 1, .long 0, .long 0])), (sc, .inr (6, [.ref g, .int (-1), .ref td])), (g, .inr (3, [.ref gc, .ref ga1, .ref ga2, .ref ga3, .ref ga4, .ref ga5, .ref ga6, .ref ga7, .ref ga8, .int 0, .int 0, .int 0, .int 0, .int (-1)]))] H := hP
  have hD : va_D A [(h0, .inr (1, [.ref sc, .ref st, .ref se, .ref mk, .ref us, .ref te, .ref g, .ref gc, .int 1, .int 0, .int 0, .int 1, .long 0, .long 0])), (sc, .inr (6, [.ref g, .int (-1), .ref td])), (g, .inr (3, [.ref gc, .ref ga1, .ref ga2, .ref ga3, .ref ga4, .ref ga5, .ref ga6, .ref ga7, .ref ga8, .int 0, .int 0, .int 0, .int 0, .int (-1)]))] := hD
  obtain rfl : r_240 = 0 := hw
  refine lv_if_ne (tgt := 18) hx hb dX1_reachEntry_14 (by decide) (fun c9 => absurd c9 (by decide)) (fun _ => ?_)
  have hP9 := hP.sub (ws' := [(h0, .inr (1, [.ref sc, .ref st, .ref se, .ref mk, .ref us, .ref te, .ref g, .ref gc, .int 1, .int 0, .int 0, .int 1, .long 0, .long 0])), (sc, .inr (6, [.ref g, .int (-1), .ref td])), (g, .inr (3, [.ref gc, .ref ga1, .ref ga2, .ref ga3, .ref ga4, .ref ga5, .ref ga6, .ref ga7, .ref ga8, .int 0, .int 0, .int 0, .int 0, .int (-1)]))]) [0, 1, 2] rfl
  have hD9 := hD.sub (ws' := [(h0, .inr (1, [.ref sc, .ref st, .ref se, .ref mk, .ref us, .ref te, .ref g, .ref gc, .int 1, .int 0, .int 0, .int 1, .long 0, .long 0])), (sc, .inr (6, [.ref g, .int (-1), .ref td])), (g, .inr (3, [.ref gc, .ref ga1, .ref ga2, .ref ga3, .ref ga4, .ref ga5, .ref ga6, .ref ga7, .ref ga8, .int 0, .int 0, .int 0, .int 0, .int (-1)]))]) [0, 1, 2] (by decide) rfl
  exact W.vret hx hb hr (fun t ht hW => ⟨⟨(), rfl, trivial, by rw [ht]; exact hP9, hD9⟩, hS.F ht⟩) hS.2.2 dX1_reachEntry_17

set_option maxHeartbeats 4000000 in
set_option maxRecDepth 100000 in
theorem c_openR (l : Launch) (dC : Nat → ClassId) (dI : Nat → Nat → Nat) (cI cB cL cZ : ClassId) (h0 : Nat) (sc : Nat) (g : Nat) (td : Nat) (gc : Nat) (st : Nat) (se : Nat) (mk : Nat) (us : Nat) (te : Nat) (ga1 : Nat) (ga2 : Nat) (ga3 : Nat) (ga4 : Nat) (ga5 : Nat) (ga6 : Nat) (ga7 : Nat) (ga8 : Nat) (sz : Nat)  : Met l yX1_openRoutines wsX1_openRoutines ({ frames := 0, cells := 0, slots := 0, locals := 0 }) (cP (dC, dI) (kTy cI cB cL cZ) [.ref h0] [(h0, .inr (1, [.ref sc, .ref st, .ref se, .ref mk, .ref us, .ref te, .ref g, .ref gc, .int 1, .int 0, .int 0, .int 1, .long 0, .long 0]))] sz) (va_Qv (fun _ : Unit => True) (fun (_ : Unit) (t : State) => va_P (dC, dI) vwCl [(h0, .inr (1, [.ref sc, .ref st, .ref se, .ref mk, .ref us, .ref te, .ref g, .ref gc, .int 1, .int 0, .int 0, .int 1, .long 0, .long 0]))] t.heap ∧ va_D (va_A [(h0, .inr (1, [.ref sc, .ref st, .ref se, .ref mk, .ref us, .ref te, .ref g, .ref gc, .int 1, .int 0, .int 0, .int 1, .long 0, .long 0]))] sz) [(h0, .inr (1, [.ref sc, .ref st, .ref se, .ref mk, .ref us, .ref te, .ref g, .ref gc, .int 1, .int 0, .int 0, .int 1, .long 0, .long 0]))]) (va_A [(h0, .inr (1, [.ref sc, .ref st, .ref se, .ref mk, .ref us, .ref te, .ref g, .ref gc, .int 1, .int 0, .int 0, .int 1, .long 0, .long 0]))] sz)) 0 0 (va_A [(h0, .inr (1, [.ref sc, .ref st, .ref se, .ref mk, .ref us, .ref te, .ref g, .ref gc, .int 1, .int 0, .int 0, .int 1, .long 0, .long 0]))] sz) := by
  refine Met.ofW (cc := cX1_openRoutines) (maxL := 6) (ret := none) (by decide) rfl ?_
  intro p e s m args below meth c s₁ B hml hv
  obtain ⟨rfl, hsz, hP, hK, hD0, hN⟩ := hv
  have hx := B.exec
  have hb := B.bytes
  have hr := B.returns
  have hts := atoms_spec (ws := wsX1_openRoutines) B.pre
  have hown : s.vm.findClass RX1 = some m.cls := findClass_of_methodNamed B.named
  have hlocks := B.notSynchronized
  subst hsz
  have hD := hD0.self (sz := s.heap.size)
  generalize hAe : va_A [(h0, .inr (1, [.ref sc, .ref st, .ref se, .ref mk, .ref us, .ref te, .ref g, .ref gc, .int 1, .int 0, .int 0, .int 1, .long 0, .long 0]))] s.heap.size = A at hD ⊢
  have hA : ∀ q : Nat, s.heap.size ≤ q → A q := fun q h => by rw [← hAe]; exact Or.inr h
  have hl := lv_entry ([.ref h0]) (n := 6) (Nat.le_of_ble_eq_true rfl)
  rw [lg_entry_eq]
  generalize (lg_sl ([.ref h0]) ++ List.replicate (6 - (lg_sl ([.ref h0])).length) Slot.unset).toArray = ls at hl ⊢
  have hl : lv_has ls 6 [(0, .ref h0)] := hl
  refine k_H (A := A) hP (fun H hP hS => ?_)
  have hP : va_P (dC, dI) vwCl [(h0, .inr (1, [.ref sc, .ref st, .ref se, .ref mk, .ref us, .ref te, .ref g, .ref gc, .int 1, .int 0, .int 0, .int 1, .long 0, .long 0]))] H := hP
  have hD : va_D A [(h0, .inr (1, [.ref sc, .ref st, .ref se, .ref mk, .ref us, .ref te, .ref g, .ref gc, .int 1, .int 0, .int 0, .int 1, .long 0, .long 0]))] := hD
  refine lv_iconst (v := 0) hx hb dX1_openRoutines_0 (by decide) ?_
  refine lv_istore_n (lv' := [(1, .int 0), (0, .ref h0)]) hx hb dX1_openRoutines_1 rfl hl (by decide) rfl (fun ls hl => ?_)
  refine lv_iload_n hx hb dX1_openRoutines_2 rfl (lv_at hl 0 rfl) ?_
  refine lv_bipush (v := 8) hx hb dX1_openRoutines_3 (by decide) ?_
  refine lv_icmp_ge (tgt := 102) hx hb dX1_openRoutines_5 (by decide) (fun c9 => absurd c9 (by decide)) (fun _ => ?_)
  refine lv_aload_n hx hb dX1_openRoutines_8 rfl (lv_at hl 1 rfl) ?_
  refine va_get (D := (dC, dI)) (ci := 1) (v := .int 0) (C := RX1) (T := TX1) (N := 14) hx hb hts iwwsX1_openRoutines_1 hown hK hP 0 rfl rfl 10 (by decide) (hts (.fieldLink RX1 92 "NothingJudge$Facts" "reached" "I") fwwsX1_openRoutines_92) (fun _ h9 => h9) rfl dX1_openRoutines_9 ?_
  refine lv_iload_n hx hb dX1_openRoutines_12 rfl (lv_at hl 0 rfl) ?_
  refine lv_ishr hx hb dX1_openRoutines_13 ?_
  refine lv_topi (fun y_241 ey_241 => ?_)
  obtain rfl : y_241 = 0 := ey_241.trans (by decide)
  refine lv_iconst (v := 1) hx hb dX1_openRoutines_14 (by decide) ?_
  refine lv_iand hx hb dX1_openRoutines_15 ?_
  refine lv_topi (fun y_242 ey_242 => ?_)
  obtain rfl : y_242 = 0 := ey_242.trans (by decide)
  refine lv_if_eq (tgt := 96) hx hb dX1_openRoutines_16 (by decide) (fun _ => ?_) (fun c9 => absurd (by decide) c9)
  refine lv_iinc (v := 1) (lv' := [(1, .int 1), (0, .ref h0)]) hx hb dX1_openRoutines_96 hl (k := 0) rfl (by decide) (by decide) rfl (fun ls hl => ?_)
  refine lv_goto (tgt := 2) hx hb dX1_openRoutines_99 (by decide) ?_
  refine lv_iload_n hx hb dX1_openRoutines_2 rfl (lv_at hl 0 rfl) ?_
  refine lv_bipush (v := 8) hx hb dX1_openRoutines_3 (by decide) ?_
  refine lv_icmp_ge (tgt := 102) hx hb dX1_openRoutines_5 (by decide) (fun c9 => absurd c9 (by decide)) (fun _ => ?_)
  refine lv_aload_n hx hb dX1_openRoutines_8 rfl (lv_at hl 1 rfl) ?_
  refine va_get (D := (dC, dI)) (ci := 1) (v := .int 0) (C := RX1) (T := TX1) (N := 14) hx hb hts iwwsX1_openRoutines_1 hown hK hP 0 rfl rfl 10 (by decide) (hts (.fieldLink RX1 92 "NothingJudge$Facts" "reached" "I") fwwsX1_openRoutines_92) (fun _ h9 => h9) rfl dX1_openRoutines_9 ?_
  refine lv_iload_n hx hb dX1_openRoutines_12 rfl (lv_at hl 0 rfl) ?_
  refine lv_ishr hx hb dX1_openRoutines_13 ?_
  refine lv_topi (fun y_243 ey_243 => ?_)
  obtain rfl : y_243 = 0 := ey_243.trans (by decide)
  refine lv_iconst (v := 1) hx hb dX1_openRoutines_14 (by decide) ?_
  refine lv_iand hx hb dX1_openRoutines_15 ?_
  refine lv_topi (fun y_244 ey_244 => ?_)
  obtain rfl : y_244 = 0 := ey_244.trans (by decide)
  refine lv_if_eq (tgt := 96) hx hb dX1_openRoutines_16 (by decide) (fun _ => ?_) (fun c9 => absurd (by decide) c9)
  refine lv_iinc (v := 2) (lv' := [(1, .int 2), (0, .ref h0)]) hx hb dX1_openRoutines_96 hl (k := 0) rfl (by decide) (by decide) rfl (fun ls hl => ?_)
  refine lv_goto (tgt := 2) hx hb dX1_openRoutines_99 (by decide) ?_
  refine lv_iload_n hx hb dX1_openRoutines_2 rfl (lv_at hl 0 rfl) ?_
  refine lv_bipush (v := 8) hx hb dX1_openRoutines_3 (by decide) ?_
  refine lv_icmp_ge (tgt := 102) hx hb dX1_openRoutines_5 (by decide) (fun c9 => absurd c9 (by decide)) (fun _ => ?_)
  refine lv_aload_n hx hb dX1_openRoutines_8 rfl (lv_at hl 1 rfl) ?_
  refine va_get (D := (dC, dI)) (ci := 1) (v := .int 0) (C := RX1) (T := TX1) (N := 14) hx hb hts iwwsX1_openRoutines_1 hown hK hP 0 rfl rfl 10 (by decide) (hts (.fieldLink RX1 92 "NothingJudge$Facts" "reached" "I") fwwsX1_openRoutines_92) (fun _ h9 => h9) rfl dX1_openRoutines_9 ?_
  refine lv_iload_n hx hb dX1_openRoutines_12 rfl (lv_at hl 0 rfl) ?_
  refine lv_ishr hx hb dX1_openRoutines_13 ?_
  refine lv_topi (fun y_245 ey_245 => ?_)
  obtain rfl : y_245 = 0 := ey_245.trans (by decide)
  refine lv_iconst (v := 1) hx hb dX1_openRoutines_14 (by decide) ?_
  refine lv_iand hx hb dX1_openRoutines_15 ?_
  refine lv_topi (fun y_246 ey_246 => ?_)
  obtain rfl : y_246 = 0 := ey_246.trans (by decide)
  refine lv_if_eq (tgt := 96) hx hb dX1_openRoutines_16 (by decide) (fun _ => ?_) (fun c9 => absurd (by decide) c9)
  refine lv_iinc (v := 3) (lv' := [(1, .int 3), (0, .ref h0)]) hx hb dX1_openRoutines_96 hl (k := 0) rfl (by decide) (by decide) rfl (fun ls hl => ?_)
  refine lv_goto (tgt := 2) hx hb dX1_openRoutines_99 (by decide) ?_
  refine lv_iload_n hx hb dX1_openRoutines_2 rfl (lv_at hl 0 rfl) ?_
  refine lv_bipush (v := 8) hx hb dX1_openRoutines_3 (by decide) ?_
  refine lv_icmp_ge (tgt := 102) hx hb dX1_openRoutines_5 (by decide) (fun c9 => absurd c9 (by decide)) (fun _ => ?_)
  refine lv_aload_n hx hb dX1_openRoutines_8 rfl (lv_at hl 1 rfl) ?_
  refine va_get (D := (dC, dI)) (ci := 1) (v := .int 0) (C := RX1) (T := TX1) (N := 14) hx hb hts iwwsX1_openRoutines_1 hown hK hP 0 rfl rfl 10 (by decide) (hts (.fieldLink RX1 92 "NothingJudge$Facts" "reached" "I") fwwsX1_openRoutines_92) (fun _ h9 => h9) rfl dX1_openRoutines_9 ?_
  refine lv_iload_n hx hb dX1_openRoutines_12 rfl (lv_at hl 0 rfl) ?_
  refine lv_ishr hx hb dX1_openRoutines_13 ?_
  refine lv_topi (fun y_247 ey_247 => ?_)
  obtain rfl : y_247 = 0 := ey_247.trans (by decide)
  refine lv_iconst (v := 1) hx hb dX1_openRoutines_14 (by decide) ?_
  refine lv_iand hx hb dX1_openRoutines_15 ?_
  refine lv_topi (fun y_248 ey_248 => ?_)
  obtain rfl : y_248 = 0 := ey_248.trans (by decide)
  refine lv_if_eq (tgt := 96) hx hb dX1_openRoutines_16 (by decide) (fun _ => ?_) (fun c9 => absurd (by decide) c9)
  refine lv_iinc (v := 4) (lv' := [(1, .int 4), (0, .ref h0)]) hx hb dX1_openRoutines_96 hl (k := 0) rfl (by decide) (by decide) rfl (fun ls hl => ?_)
  refine lv_goto (tgt := 2) hx hb dX1_openRoutines_99 (by decide) ?_
  refine lv_iload_n hx hb dX1_openRoutines_2 rfl (lv_at hl 0 rfl) ?_
  refine lv_bipush (v := 8) hx hb dX1_openRoutines_3 (by decide) ?_
  refine lv_icmp_ge (tgt := 102) hx hb dX1_openRoutines_5 (by decide) (fun c9 => absurd c9 (by decide)) (fun _ => ?_)
  refine lv_aload_n hx hb dX1_openRoutines_8 rfl (lv_at hl 1 rfl) ?_
  refine va_get (D := (dC, dI)) (ci := 1) (v := .int 0) (C := RX1) (T := TX1) (N := 14) hx hb hts iwwsX1_openRoutines_1 hown hK hP 0 rfl rfl 10 (by decide) (hts (.fieldLink RX1 92 "NothingJudge$Facts" "reached" "I") fwwsX1_openRoutines_92) (fun _ h9 => h9) rfl dX1_openRoutines_9 ?_
  refine lv_iload_n hx hb dX1_openRoutines_12 rfl (lv_at hl 0 rfl) ?_
  refine lv_ishr hx hb dX1_openRoutines_13 ?_
  refine lv_topi (fun y_249 ey_249 => ?_)
  obtain rfl : y_249 = 0 := ey_249.trans (by decide)
  refine lv_iconst (v := 1) hx hb dX1_openRoutines_14 (by decide) ?_
  refine lv_iand hx hb dX1_openRoutines_15 ?_
  refine lv_topi (fun y_250 ey_250 => ?_)
  obtain rfl : y_250 = 0 := ey_250.trans (by decide)
  refine lv_if_eq (tgt := 96) hx hb dX1_openRoutines_16 (by decide) (fun _ => ?_) (fun c9 => absurd (by decide) c9)
  refine lv_iinc (v := 5) (lv' := [(1, .int 5), (0, .ref h0)]) hx hb dX1_openRoutines_96 hl (k := 0) rfl (by decide) (by decide) rfl (fun ls hl => ?_)
  refine lv_goto (tgt := 2) hx hb dX1_openRoutines_99 (by decide) ?_
  refine lv_iload_n hx hb dX1_openRoutines_2 rfl (lv_at hl 0 rfl) ?_
  refine lv_bipush (v := 8) hx hb dX1_openRoutines_3 (by decide) ?_
  refine lv_icmp_ge (tgt := 102) hx hb dX1_openRoutines_5 (by decide) (fun c9 => absurd c9 (by decide)) (fun _ => ?_)
  refine lv_aload_n hx hb dX1_openRoutines_8 rfl (lv_at hl 1 rfl) ?_
  refine va_get (D := (dC, dI)) (ci := 1) (v := .int 0) (C := RX1) (T := TX1) (N := 14) hx hb hts iwwsX1_openRoutines_1 hown hK hP 0 rfl rfl 10 (by decide) (hts (.fieldLink RX1 92 "NothingJudge$Facts" "reached" "I") fwwsX1_openRoutines_92) (fun _ h9 => h9) rfl dX1_openRoutines_9 ?_
  refine lv_iload_n hx hb dX1_openRoutines_12 rfl (lv_at hl 0 rfl) ?_
  refine lv_ishr hx hb dX1_openRoutines_13 ?_
  refine lv_topi (fun y_251 ey_251 => ?_)
  obtain rfl : y_251 = 0 := ey_251.trans (by decide)
  refine lv_iconst (v := 1) hx hb dX1_openRoutines_14 (by decide) ?_
  refine lv_iand hx hb dX1_openRoutines_15 ?_
  refine lv_topi (fun y_252 ey_252 => ?_)
  obtain rfl : y_252 = 0 := ey_252.trans (by decide)
  refine lv_if_eq (tgt := 96) hx hb dX1_openRoutines_16 (by decide) (fun _ => ?_) (fun c9 => absurd (by decide) c9)
  refine lv_iinc (v := 6) (lv' := [(1, .int 6), (0, .ref h0)]) hx hb dX1_openRoutines_96 hl (k := 0) rfl (by decide) (by decide) rfl (fun ls hl => ?_)
  refine lv_goto (tgt := 2) hx hb dX1_openRoutines_99 (by decide) ?_
  refine lv_iload_n hx hb dX1_openRoutines_2 rfl (lv_at hl 0 rfl) ?_
  refine lv_bipush (v := 8) hx hb dX1_openRoutines_3 (by decide) ?_
  refine lv_icmp_ge (tgt := 102) hx hb dX1_openRoutines_5 (by decide) (fun c9 => absurd c9 (by decide)) (fun _ => ?_)
  refine lv_aload_n hx hb dX1_openRoutines_8 rfl (lv_at hl 1 rfl) ?_
  refine va_get (D := (dC, dI)) (ci := 1) (v := .int 0) (C := RX1) (T := TX1) (N := 14) hx hb hts iwwsX1_openRoutines_1 hown hK hP 0 rfl rfl 10 (by decide) (hts (.fieldLink RX1 92 "NothingJudge$Facts" "reached" "I") fwwsX1_openRoutines_92) (fun _ h9 => h9) rfl dX1_openRoutines_9 ?_
  refine lv_iload_n hx hb dX1_openRoutines_12 rfl (lv_at hl 0 rfl) ?_
  refine lv_ishr hx hb dX1_openRoutines_13 ?_
  refine lv_topi (fun y_253 ey_253 => ?_)
  obtain rfl : y_253 = 0 := ey_253.trans (by decide)
  refine lv_iconst (v := 1) hx hb dX1_openRoutines_14 (by decide) ?_
  refine lv_iand hx hb dX1_openRoutines_15 ?_
  refine lv_topi (fun y_254 ey_254 => ?_)
  obtain rfl : y_254 = 0 := ey_254.trans (by decide)
  refine lv_if_eq (tgt := 96) hx hb dX1_openRoutines_16 (by decide) (fun _ => ?_) (fun c9 => absurd (by decide) c9)
  refine lv_iinc (v := 7) (lv' := [(1, .int 7), (0, .ref h0)]) hx hb dX1_openRoutines_96 hl (k := 0) rfl (by decide) (by decide) rfl (fun ls hl => ?_)
  refine lv_goto (tgt := 2) hx hb dX1_openRoutines_99 (by decide) ?_
  refine lv_iload_n hx hb dX1_openRoutines_2 rfl (lv_at hl 0 rfl) ?_
  refine lv_bipush (v := 8) hx hb dX1_openRoutines_3 (by decide) ?_
  refine lv_icmp_ge (tgt := 102) hx hb dX1_openRoutines_5 (by decide) (fun c9 => absurd c9 (by decide)) (fun _ => ?_)
  refine lv_aload_n hx hb dX1_openRoutines_8 rfl (lv_at hl 1 rfl) ?_
  refine va_get (D := (dC, dI)) (ci := 1) (v := .int 0) (C := RX1) (T := TX1) (N := 14) hx hb hts iwwsX1_openRoutines_1 hown hK hP 0 rfl rfl 10 (by decide) (hts (.fieldLink RX1 92 "NothingJudge$Facts" "reached" "I") fwwsX1_openRoutines_92) (fun _ h9 => h9) rfl dX1_openRoutines_9 ?_
  refine lv_iload_n hx hb dX1_openRoutines_12 rfl (lv_at hl 0 rfl) ?_
  refine lv_ishr hx hb dX1_openRoutines_13 ?_
  refine lv_topi (fun y_255 ey_255 => ?_)
  obtain rfl : y_255 = 0 := ey_255.trans (by decide)
  refine lv_iconst (v := 1) hx hb dX1_openRoutines_14 (by decide) ?_
  refine lv_iand hx hb dX1_openRoutines_15 ?_
  refine lv_topi (fun y_256 ey_256 => ?_)
  obtain rfl : y_256 = 0 := ey_256.trans (by decide)
  refine lv_if_eq (tgt := 96) hx hb dX1_openRoutines_16 (by decide) (fun _ => ?_) (fun c9 => absurd (by decide) c9)
  refine lv_iinc (v := 8) (lv' := [(1, .int 8), (0, .ref h0)]) hx hb dX1_openRoutines_96 hl (k := 0) rfl (by decide) (by decide) rfl (fun ls hl => ?_)
  refine lv_goto (tgt := 2) hx hb dX1_openRoutines_99 (by decide) ?_
  refine lv_iload_n hx hb dX1_openRoutines_2 rfl (lv_at hl 0 rfl) ?_
  refine lv_bipush (v := 8) hx hb dX1_openRoutines_3 (by decide) ?_
  refine lv_icmp_ge (tgt := 102) hx hb dX1_openRoutines_5 (by decide) (fun _ => ?_) (fun c9 => absurd (by decide) c9)
  have hP9 := hP.sub (ws' := [(h0, .inr (1, [.ref sc, .ref st, .ref se, .ref mk, .ref us, .ref te, .ref g, .ref gc, .int 1, .int 0, .int 0, .int 1, .long 0, .long 0]))]) [0] rfl
  have hD9 := hD.sub (ws' := [(h0, .inr (1, [.ref sc, .ref st, .ref se, .ref mk, .ref us, .ref te, .ref g, .ref gc, .int 1, .int 0, .int 0, .int 1, .long 0, .long 0]))]) [0] (by decide) rfl
  exact W.vret hx hb hr (fun t ht hW => ⟨⟨(), rfl, trivial, by rw [ht]; exact hP9, hD9⟩, hS.F ht⟩) hS.2.2 dX1_openRoutines_102

set_option maxHeartbeats 4000000 in
set_option maxRecDepth 100000 in
theorem c_settle (l : Launch) (dC : Nat → ClassId) (dI : Nat → Nat → Nat) (cI cB cL cZ : ClassId) (h0 : Nat) (sc : Nat) (g : Nat) (td : Nat) (gc : Nat) (st : Nat) (se : Nat) (mk : Nat) (us : Nat) (te : Nat) (ga1 : Nat) (ga2 : Nat) (ga3 : Nat) (ga4 : Nat) (ga5 : Nat) (ga6 : Nat) (ga7 : Nat) (ga8 : Nat) (gcc : Nat) (f1 : Nat → Int64) (f2 : Nat → Int32) (f3 : Nat → Int32) (f4 : Nat → Int32) (f5 : Nat → Int32) (sz : Nat)  : Met l yX1_settle wsX1_settle ({ frames := 2, cells := 0, slots := 0, locals := 44 }) (cP (dC, dI) (kTy cI cB cL cZ) [.ref h0, .long 0] [(h0, .inr (1, [.ref sc, .ref st, .ref se, .ref mk, .ref us, .ref te, .ref g, .ref gc, .int 1, .int 0, .int 0, .int 0, .long 0, .long 0])), (sc, .inr (6, [.ref g, .int (-1), .ref td])), (g, .inr (3, [.ref gc, .ref ga1, .ref ga2, .ref ga3, .ref ga4, .ref ga5, .ref ga6, .ref ga7, .ref ga8, .int 0, .int 0, .int 0, .int 0, .int (-1)])), (gc, .inr (0, [.ref gcc, .int 0])), (st, .inl (cL, 304, .inr (.inl f1))), (se, .inl (cI, 304, .inl f2)), (mk, .inl (cI, 42, .inl f3)), (us, .inl (cI, 40, .inl f4)), (te, .inl (cI, 24, .inl f5))] sz) (va_Qv (fun _ : Unit => True) (fun (_ : Unit) (t : State) => ∃ fz0 : Nat → Int32, (∀ j, j < 42 → fz0 j = 0) ∧ va_P (dC, dI) vwCl [(h0, .inr (1, [.ref sc, .ref st, .ref se, .ref mk, .ref us, .ref te, .ref g, .ref gc, .int 0, .int 0, .int 0, .int 1, .long 0, .long 0])), (sc, .inr (6, [.ref g, .int (-1), .ref td])), (g, .inr (3, [.ref gc, .ref ga1, .ref ga2, .ref ga3, .ref ga4, .ref ga5, .ref ga6, .ref ga7, .ref ga8, .int 0, .int 0, .int 0, .int 0, .int (-1)])), (mk, .inl (cI, N, .inl fz0))] t.heap ∧ va_D (va_A [(h0, .inr (1, [.ref sc, .ref st, .ref se, .ref mk, .ref us, .ref te, .ref g, .ref gc, .int 1, .int 0, .int 0, .int 0, .long 0, .long 0])), (sc, .inr (6, [.ref g, .int (-1), .ref td])), (g, .inr (3, [.ref gc, .ref ga1, .ref ga2, .ref ga3, .ref ga4, .ref ga5, .ref ga6, .ref ga7, .ref ga8, .int 0, .int 0, .int 0, .int 0, .int (-1)])), (gc, .inr (0, [.ref gcc, .int 0])), (st, .inl (cL, 304, .inr (.inl f1))), (se, .inl (cI, 304, .inl f2)), (mk, .inl (cI, 42, .inl f3)), (us, .inl (cI, 40, .inl f4)), (te, .inl (cI, 24, .inl f5))] sz) [(h0, .inr (1, [.ref sc, .ref st, .ref se, .ref mk, .ref us, .ref te, .ref g, .ref gc, .int 0, .int 0, .int 0, .int 1, .long 0, .long 0])), (sc, .inr (6, [.ref g, .int (-1), .ref td])), (g, .inr (3, [.ref gc, .ref ga1, .ref ga2, .ref ga3, .ref ga4, .ref ga5, .ref ga6, .ref ga7, .ref ga8, .int 0, .int 0, .int 0, .int 0, .int (-1)])), (mk, .inl (cI, N, .inl fz0))]) (va_A [(h0, .inr (1, [.ref sc, .ref st, .ref se, .ref mk, .ref us, .ref te, .ref g, .ref gc, .int 1, .int 0, .int 0, .int 0, .long 0, .long 0])), (sc, .inr (6, [.ref g, .int (-1), .ref td])), (g, .inr (3, [.ref gc, .ref ga1, .ref ga2, .ref ga3, .ref ga4, .ref ga5, .ref ga6, .ref ga7, .ref ga8, .int 0, .int 0, .int 0, .int 0, .int (-1)])), (gc, .inr (0, [.ref gcc, .int 0])), (st, .inl (cL, 304, .inr (.inl f1))), (se, .inl (cI, 304, .inl f2)), (mk, .inl (cI, 42, .inl f3)), (us, .inl (cI, 40, .inl f4)), (te, .inl (cI, 24, .inl f5))] sz)) 0 0 (va_A [(h0, .inr (1, [.ref sc, .ref st, .ref se, .ref mk, .ref us, .ref te, .ref g, .ref gc, .int 1, .int 0, .int 0, .int 0, .long 0, .long 0])), (sc, .inr (6, [.ref g, .int (-1), .ref td])), (g, .inr (3, [.ref gc, .ref ga1, .ref ga2, .ref ga3, .ref ga4, .ref ga5, .ref ga6, .ref ga7, .ref ga8, .int 0, .int 0, .int 0, .int 0, .int (-1)])), (gc, .inr (0, [.ref gcc, .int 0])), (st, .inl (cL, 304, .inr (.inl f1))), (se, .inl (cI, 304, .inl f2)), (mk, .inl (cI, 42, .inl f3)), (us, .inl (cI, 40, .inl f4)), (te, .inl (cI, 24, .inl f5))] sz) := by
  refine Met.ofW (cc := cX1_settle) (maxL := 5) (ret := none) (by decide) rfl ?_
  intro p e s m args below meth c s₁ B hml hv
  obtain ⟨rfl, hsz, hP, hK, hD0, hN⟩ := hv
  have hx := B.exec
  have hb := B.bytes
  have hr := B.returns
  have hts := atoms_spec (ws := wsX1_settle) B.pre
  have hown : s.vm.findClass RX1 = some m.cls := findClass_of_methodNamed B.named
  have hlocks := B.notSynchronized
  subst hsz
  have hD := hD0.self (sz := s.heap.size)
  generalize hAe : va_A [(h0, .inr (1, [.ref sc, .ref st, .ref se, .ref mk, .ref us, .ref te, .ref g, .ref gc, .int 1, .int 0, .int 0, .int 0, .long 0, .long 0])), (sc, .inr (6, [.ref g, .int (-1), .ref td])), (g, .inr (3, [.ref gc, .ref ga1, .ref ga2, .ref ga3, .ref ga4, .ref ga5, .ref ga6, .ref ga7, .ref ga8, .int 0, .int 0, .int 0, .int 0, .int (-1)])), (gc, .inr (0, [.ref gcc, .int 0])), (st, .inl (cL, 304, .inr (.inl f1))), (se, .inl (cI, 304, .inl f2)), (mk, .inl (cI, 42, .inl f3)), (us, .inl (cI, 40, .inl f4)), (te, .inl (cI, 24, .inl f5))] s.heap.size = A at hD ⊢
  have hA : ∀ q : Nat, s.heap.size ≤ q → A q := fun q h => by rw [← hAe]; exact Or.inr h
  have hl := lv_entry ([.ref h0, .long 0]) (n := 5) (Nat.le_of_ble_eq_true rfl)
  rw [lg_entry_eq]
  generalize (lg_sl ([.ref h0, .long 0]) ++ List.replicate (5 - (lg_sl ([.ref h0, .long 0])).length) Slot.unset).toArray = ls at hl ⊢
  have hl : lv_has ls 5 [(0, .ref h0), (1, .long 0)] := hl
  refine k_H (A := A) hP (fun H hP hS => ?_)
  have hP : va_P (dC, dI) vwCl [(h0, .inr (1, [.ref sc, .ref st, .ref se, .ref mk, .ref us, .ref te, .ref g, .ref gc, .int 1, .int 0, .int 0, .int 0, .long 0, .long 0])), (sc, .inr (6, [.ref g, .int (-1), .ref td])), (g, .inr (3, [.ref gc, .ref ga1, .ref ga2, .ref ga3, .ref ga4, .ref ga5, .ref ga6, .ref ga7, .ref ga8, .int 0, .int 0, .int 0, .int 0, .int (-1)])), (gc, .inr (0, [.ref gcc, .int 0])), (st, .inl (cL, 304, .inr (.inl f1))), (se, .inl (cI, 304, .inl f2)), (mk, .inl (cI, 42, .inl f3)), (us, .inl (cI, 40, .inl f4)), (te, .inl (cI, 24, .inl f5))] H := hP
  have hD : va_D A [(h0, .inr (1, [.ref sc, .ref st, .ref se, .ref mk, .ref us, .ref te, .ref g, .ref gc, .int 1, .int 0, .int 0, .int 0, .long 0, .long 0])), (sc, .inr (6, [.ref g, .int (-1), .ref td])), (g, .inr (3, [.ref gc, .ref ga1, .ref ga2, .ref ga3, .ref ga4, .ref ga5, .ref ga6, .ref ga7, .ref ga8, .int 0, .int 0, .int 0, .int 0, .int (-1)])), (gc, .inr (0, [.ref gcc, .int 0])), (st, .inl (cL, 304, .inr (.inl f1))), (se, .inl (cI, 304, .inl f2)), (mk, .inl (cI, 42, .inl f3)), (us, .inl (cI, 40, .inl f4)), (te, .inl (cI, 24, .inl f5))] := hD
  refine lv_aload_n hx hb dX1_settle_0 rfl (lv_at hl 0 rfl) ?_
  refine va_get (D := (dC, dI)) (ci := 1) (v := .int 1) (C := RX1) (T := TX1) (N := 14) hx hb hts iwwsX1_settle_1 hown hK hP 0 rfl rfl 8 (by decide) (hts (.fieldLink RX1 28 "NothingJudge$Facts" "stale" "Z") fwwsX1_settle_28) (fun _ h9 => h9) rfl dX1_settle_1 ?_
  refine lv_if_ne (tgt := 17) hx hb dX1_settle_4 (by decide) (fun _ => ?_) (fun c9 => absurd (by decide) c9)
  refine lv_aload_n hx hb dX1_settle_17 rfl (lv_at hl 0 rfl) ?_
  have hPc := hP.sub (ws' := [(h0, .inr (1, [.ref sc, .ref st, .ref se, .ref mk, .ref us, .ref te, .ref g, .ref gc, .int 1, .int 0, .int 0, .int 0, .long 0, .long 0])), (sc, .inr (6, [.ref g, .int (-1), .ref td])), (g, .inr (3, [.ref gc, .ref ga1, .ref ga2, .ref ga3, .ref ga4, .ref ga5, .ref ga6, .ref ga7, .ref ga8, .int 0, .int 0, .int 0, .int 0, .int (-1)])), (st, .inl (cL, 304, .inr (.inl f1))), (se, .inl (cI, 304, .inl f2)), (mk, .inl (cI, 42, .inl f3)), (us, .inl (cI, 40, .inl f4)), (te, .inl (cI, 24, .inl f5))]) [0, 1, 2, 4, 5, 6, 7, 8] rfl
  have hDc := hD.sub (ws' := [(h0, .inr (1, [.ref sc, .ref st, .ref se, .ref mk, .ref us, .ref te, .ref g, .ref gc, .int 1, .int 0, .int 0, .int 0, .long 0, .long 0])), (sc, .inr (6, [.ref g, .int (-1), .ref td])), (g, .inr (3, [.ref gc, .ref ga1, .ref ga2, .ref ga3, .ref ga4, .ref ga5, .ref ga6, .ref ga7, .ref ga8, .int 0, .int 0, .int 0, .int 0, .int (-1)])), (st, .inl (cL, 304, .inr (.inl f1))), (se, .inl (cI, 304, .inl f2)), (mk, .inl (cI, 42, .inl f3)), (us, .inl (cI, 40, .inl f4)), (te, .inl (cI, 24, .inl f5))]) [0, 1, 2, 4, 5, 6, 7, 8] (by decide) rfl
  have hFc := va_free (wc := [(h0, .inr (1, [.ref sc, .ref st, .ref se, .ref mk, .ref us, .ref te, .ref g, .ref gc, .int 1, .int 0, .int 0, .int 0, .long 0, .long 0])), (sc, .inr (6, [.ref g, .int (-1), .ref td])), (g, .inr (3, [.ref gc, .ref ga1, .ref ga2, .ref ga3, .ref ga4, .ref ga5, .ref ga6, .ref ga7, .ref ga8, .int 0, .int 0, .int 0, .int 0, .int (-1)])), (st, .inl (cL, 304, .inr (.inl f1))), (se, .inl (cI, 304, .inl f2)), (mk, .inl (cI, 42, .inl f3)), (us, .inl (cI, 40, .inl f4)), (te, .inl (cI, 24, .inl f5))]) hD hS hA [0, 1, 2, 4, 5, 6, 7, 8] rfl
  refine va_callv (va_runV (As := []) (rest := []) ⟨hx, hb, hml, hown, hts⟩ (c_clear l dC dI cI cB cL cZ (h0) (sc) (g) (td) (gc) (st) (se) (mk) (us) (te) (ga1) (ga2) (ga3) (ga4) (ga5) (ga6) (ga7) (ga8) (f1) (f2) (f3) (f4) (f5) H.size) (cwV 0 hts gX1_settle_X1_clear rfl rfl rfl (by decide +kernel) ⟨Nat.le_of_ble_eq_true rfl, Nat.le_of_ble_eq_true rfl⟩) ⟨cP_fb, va_recv hK hPc (ci := 1) (q0 := 0) rfl rfl, fun U hU hW => cP_pre hPc hK hDc hN U hU hW⟩ rfl rfl hl.1 rfl (lv_room (Nat.le_of_ble_eq_true rfl)) dX1_settle_18 ⟨Nat.le_of_ble_eq_true rfl, Nat.le_of_ble_eq_true rfl⟩) hS (fun q _ h => hFc q h) hFc (fun u t H1 locs ht hvm hw hB hz1 hk1 hS => ?_)
  obtain ⟨f_257, hf_258, hP1, hD1⟩ := hB
  rw [ht] at hP1
  obtain ⟨hP, hD⟩ := va_join (wr := [(gc, .inr (0, [.ref gcc, .int 0]))]) (w1 := [(h0, .inr (1, [.ref sc, .ref st, .ref se, .ref mk, .ref us, .ref te, .ref g, .ref gc, .int 1, .int 0, .int 0, .int 1, .long 0, .long 0])), (sc, .inr (6, [.ref g, .int (-1), .ref td])), (g, .inr (3, [.ref gc, .ref ga1, .ref ga2, .ref ga3, .ref ga4, .ref ga5, .ref ga6, .ref ga7, .ref ga8, .int 0, .int 0, .int 0, .int 0, .int (-1)])), (mk, .inl (cI, N, .inl f_257))]) hP hD [0, 1, 2, 4, 5, 6, 7, 8] [3] rfl rfl (by decide) (by decide) hk1 hFc hP1 hD1
  generalize H1 = H at hP hS ⊢
  have hP : va_P (dC, dI) vwCl [(gc, .inr (0, [.ref gcc, .int 0])), (h0, .inr (1, [.ref sc, .ref st, .ref se, .ref mk, .ref us, .ref te, .ref g, .ref gc, .int 1, .int 0, .int 0, .int 1, .long 0, .long 0])), (sc, .inr (6, [.ref g, .int (-1), .ref td])), (g, .inr (3, [.ref gc, .ref ga1, .ref ga2, .ref ga3, .ref ga4, .ref ga5, .ref ga6, .ref ga7, .ref ga8, .int 0, .int 0, .int 0, .int 0, .int (-1)])), (mk, .inl (cI, N, .inl f_257))] H := hP
  have hD : va_D A [(gc, .inr (0, [.ref gcc, .int 0])), (h0, .inr (1, [.ref sc, .ref st, .ref se, .ref mk, .ref us, .ref te, .ref g, .ref gc, .int 1, .int 0, .int 0, .int 1, .long 0, .long 0])), (sc, .inr (6, [.ref g, .int (-1), .ref td])), (g, .inr (3, [.ref gc, .ref ga1, .ref ga2, .ref ga3, .ref ga4, .ref ga5, .ref ga6, .ref ga7, .ref ga8, .int 0, .int 0, .int 0, .int 0, .int (-1)])), (mk, .inl (cI, N, .inl f_257))] := hD
  refine lv_aload_n hx hb dX1_settle_21 rfl (lv_at hl 0 rfl) ?_
  refine lv_lload_n hx hb dX1_settle_22 rfl (lv_at hl 1 rfl) ?_
  refine va_put (D := (dC, dI)) (ci := 1) (v := .long 0) (ty := .long) (C := RX1) (T := TX1) (N := 14) hx hb hts iwwsX1_settle_1 tyX1 tyX1_ok nmX1 hown hK hP hD hS 1 rfl rfl 12 (by decide) (hts (.fieldLink RX1 50 "NothingJudge$Facts" "held" "J") fwwsX1_settle_50) (fun _ h9 => h9) rfl (by decide +kernel) rfl rfl (Nat.le_of_ble_eq_true rfl) dX1_settle_23 (fun H locs hP hD hS => ?_)
  have hP : va_P (dC, dI) vwCl [(gc, .inr (0, [.ref gcc, .int 0])), (h0, .inr (1, [.ref sc, .ref st, .ref se, .ref mk, .ref us, .ref te, .ref g, .ref gc, .int 1, .int 0, .int 0, .int 1, .long 0, .long 0])), (sc, .inr (6, [.ref g, .int (-1), .ref td])), (g, .inr (3, [.ref gc, .ref ga1, .ref ga2, .ref ga3, .ref ga4, .ref ga5, .ref ga6, .ref ga7, .ref ga8, .int 0, .int 0, .int 0, .int 0, .int (-1)])), (mk, .inl (cI, N, .inl f_257))] H := hP
  have hD : va_D A [(gc, .inr (0, [.ref gcc, .int 0])), (h0, .inr (1, [.ref sc, .ref st, .ref se, .ref mk, .ref us, .ref te, .ref g, .ref gc, .int 1, .int 0, .int 0, .int 1, .long 0, .long 0])), (sc, .inr (6, [.ref g, .int (-1), .ref td])), (g, .inr (3, [.ref gc, .ref ga1, .ref ga2, .ref ga3, .ref ga4, .ref ga5, .ref ga6, .ref ga7, .ref ga8, .int 0, .int 0, .int 0, .int 0, .int (-1)])), (mk, .inl (cI, N, .inl f_257))] := hD
  refine lv_aload_n hx hb dX1_settle_26 rfl (lv_at hl 0 rfl) ?_
  have hPc := hP.sub (ws' := [(h0, .inr (1, [.ref sc, .ref st, .ref se, .ref mk, .ref us, .ref te, .ref g, .ref gc, .int 1, .int 0, .int 0, .int 1, .long 0, .long 0])), (sc, .inr (6, [.ref g, .int (-1), .ref td])), (g, .inr (3, [.ref gc, .ref ga1, .ref ga2, .ref ga3, .ref ga4, .ref ga5, .ref ga6, .ref ga7, .ref ga8, .int 0, .int 0, .int 0, .int 0, .int (-1)]))]) [1, 2, 3] rfl
  have hDc := hD.sub (ws' := [(h0, .inr (1, [.ref sc, .ref st, .ref se, .ref mk, .ref us, .ref te, .ref g, .ref gc, .int 1, .int 0, .int 0, .int 1, .long 0, .long 0])), (sc, .inr (6, [.ref g, .int (-1), .ref td])), (g, .inr (3, [.ref gc, .ref ga1, .ref ga2, .ref ga3, .ref ga4, .ref ga5, .ref ga6, .ref ga7, .ref ga8, .int 0, .int 0, .int 0, .int 0, .int (-1)]))]) [1, 2, 3] (by decide) rfl
  have hFc := va_free (wc := [(h0, .inr (1, [.ref sc, .ref st, .ref se, .ref mk, .ref us, .ref te, .ref g, .ref gc, .int 1, .int 0, .int 0, .int 1, .long 0, .long 0])), (sc, .inr (6, [.ref g, .int (-1), .ref td])), (g, .inr (3, [.ref gc, .ref ga1, .ref ga2, .ref ga3, .ref ga4, .ref ga5, .ref ga6, .ref ga7, .ref ga8, .int 0, .int 0, .int 0, .int 0, .int (-1)]))]) hD hS hA [1, 2, 3] rfl
  refine va_callv (va_runV (As := []) (rest := []) ⟨hx, hb, hml, hown, hts⟩ (c_reach l dC dI cI cB cL cZ (h0) (sc) (g) (td) (gc) (st) (se) (mk) (us) (te) (ga1) (ga2) (ga3) (ga4) (ga5) (ga6) (ga7) (ga8) H.size) (cwV 0 hts gX1_settle_X1_reachEntry rfl rfl rfl (by decide +kernel) ⟨Nat.le_of_ble_eq_true rfl, Nat.le_of_ble_eq_true rfl⟩) ⟨cP_fb, va_recv hK hPc (ci := 1) (q0 := 0) rfl rfl, fun U hU hW => cP_pre hPc hK hDc hN U hU hW⟩ rfl rfl hl.1 rfl (lv_room (Nat.le_of_ble_eq_true rfl)) dX1_settle_27 ⟨Nat.le_of_ble_eq_true rfl, Nat.le_of_ble_eq_true rfl⟩) hS (fun q _ h => hFc q h) hFc (fun u t H1 locs ht hvm hw hB hz1 hk1 hS => ?_)
  obtain ⟨hP1, hD1⟩ := hB
  rw [ht] at hP1
  obtain ⟨hP, hD⟩ := va_join (wr := [(gc, .inr (0, [.ref gcc, .int 0])), (mk, .inl (cI, N, .inl f_257))]) (w1 := [(h0, .inr (1, [.ref sc, .ref st, .ref se, .ref mk, .ref us, .ref te, .ref g, .ref gc, .int 1, .int 0, .int 0, .int 1, .long 0, .long 0])), (sc, .inr (6, [.ref g, .int (-1), .ref td])), (g, .inr (3, [.ref gc, .ref ga1, .ref ga2, .ref ga3, .ref ga4, .ref ga5, .ref ga6, .ref ga7, .ref ga8, .int 0, .int 0, .int 0, .int 0, .int (-1)]))]) hP hD [1, 2, 3] [0, 4] rfl rfl (by decide) (by decide) hk1 hFc hP1 hD1
  generalize H1 = H at hP hS ⊢
  have hP : va_P (dC, dI) vwCl [(gc, .inr (0, [.ref gcc, .int 0])), (mk, .inl (cI, N, .inl f_257)), (h0, .inr (1, [.ref sc, .ref st, .ref se, .ref mk, .ref us, .ref te, .ref g, .ref gc, .int 1, .int 0, .int 0, .int 1, .long 0, .long 0])), (sc, .inr (6, [.ref g, .int (-1), .ref td])), (g, .inr (3, [.ref gc, .ref ga1, .ref ga2, .ref ga3, .ref ga4, .ref ga5, .ref ga6, .ref ga7, .ref ga8, .int 0, .int 0, .int 0, .int 0, .int (-1)]))] H := hP
  have hD : va_D A [(gc, .inr (0, [.ref gcc, .int 0])), (mk, .inl (cI, N, .inl f_257)), (h0, .inr (1, [.ref sc, .ref st, .ref se, .ref mk, .ref us, .ref te, .ref g, .ref gc, .int 1, .int 0, .int 0, .int 1, .long 0, .long 0])), (sc, .inr (6, [.ref g, .int (-1), .ref td])), (g, .inr (3, [.ref gc, .ref ga1, .ref ga2, .ref ga3, .ref ga4, .ref ga5, .ref ga6, .ref ga7, .ref ga8, .int 0, .int 0, .int 0, .int 0, .int (-1)]))] := hD
  refine lv_aload_n hx hb dX1_settle_30 rfl (lv_at hl 0 rfl) ?_
  refine lv_iconst (v := 1) hx hb dX1_settle_31 (by decide) ?_
  refine va_put (D := (dC, dI)) (ci := 1) (v := .int 1) (ty := .boolean) (C := RX1) (T := TX1) (N := 14) hx hb hts iwwsX1_settle_1 tyX1 tyX1_ok nmX1 hown hK hP hD hS 2 rfl rfl 9 (by decide) (hts (.fieldLink RX1 60 "NothingJudge$Facts" "changed" "Z") fwwsX1_settle_60) (fun _ h9 => h9) rfl (by decide +kernel) rfl rfl (Nat.le_of_ble_eq_true rfl) dX1_settle_32 (fun H locs hP hD hS => ?_)
  have hP : va_P (dC, dI) vwCl [(gc, .inr (0, [.ref gcc, .int 0])), (mk, .inl (cI, N, .inl f_257)), (h0, .inr (1, [.ref sc, .ref st, .ref se, .ref mk, .ref us, .ref te, .ref g, .ref gc, .int 1, .int 1, .int 0, .int 1, .long 0, .long 0])), (sc, .inr (6, [.ref g, .int (-1), .ref td])), (g, .inr (3, [.ref gc, .ref ga1, .ref ga2, .ref ga3, .ref ga4, .ref ga5, .ref ga6, .ref ga7, .ref ga8, .int 0, .int 0, .int 0, .int 0, .int (-1)]))] H := hP
  have hD : va_D A [(gc, .inr (0, [.ref gcc, .int 0])), (mk, .inl (cI, N, .inl f_257)), (h0, .inr (1, [.ref sc, .ref st, .ref se, .ref mk, .ref us, .ref te, .ref g, .ref gc, .int 1, .int 1, .int 0, .int 1, .long 0, .long 0])), (sc, .inr (6, [.ref g, .int (-1), .ref td])), (g, .inr (3, [.ref gc, .ref ga1, .ref ga2, .ref ga3, .ref ga4, .ref ga5, .ref ga6, .ref ga7, .ref ga8, .int 0, .int 0, .int 0, .int 0, .int (-1)]))] := hD
  refine lv_iconst (v := 0) hx hb dX1_settle_35 (by decide) ?_
  refine lv_istore_n (lv' := [(3, .int 0), (0, .ref h0), (1, .long 0)]) hx hb dX1_settle_36 rfl hl (by decide) rfl (fun ls hl => ?_)
  refine lv_iload_n hx hb dX1_settle_37 rfl (lv_at hl 0 rfl) ?_
  refine lv_sipush (v := 15902) hx hb dX1_settle_38 (by decide) ?_
  refine lv_icmp_ge (tgt := 151) hx hb dX1_settle_41 (by decide) (fun c9 => absurd c9 (by decide)) (fun _ => ?_)
  refine lv_aload_n hx hb dX1_settle_44 rfl (lv_at hl 1 rfl) ?_
  refine va_get (D := (dC, dI)) (ci := 1) (v := .int 1) (C := RX1) (T := TX1) (N := 14) hx hb hts iwwsX1_settle_1 hown hK hP 2 rfl rfl 9 (by decide) (hts (.fieldLink RX1 60 "NothingJudge$Facts" "changed" "Z") fwwsX1_settle_60) (fun _ h9 => h9) rfl dX1_settle_45 ?_
  refine lv_if_eq (tgt := 151) hx hb dX1_settle_48 (by decide) (fun c9 => absurd c9 (by decide)) (fun _ => ?_)
  refine lv_aload_n hx hb dX1_settle_51 rfl (lv_at hl 1 rfl) ?_
  refine lv_iconst (v := 0) hx hb dX1_settle_52 (by decide) ?_
  refine va_put (D := (dC, dI)) (ci := 1) (v := .int 0) (ty := .boolean) (C := RX1) (T := TX1) (N := 14) hx hb hts iwwsX1_settle_1 tyX1 tyX1_ok nmX1 hown hK hP hD hS 2 rfl rfl 9 (by decide) (hts (.fieldLink RX1 60 "NothingJudge$Facts" "changed" "Z") fwwsX1_settle_60) (fun _ h9 => h9) rfl (by decide +kernel) rfl rfl (Nat.le_of_ble_eq_true rfl) dX1_settle_53 (fun H locs hP hD hS => ?_)
  have hP : va_P (dC, dI) vwCl [(gc, .inr (0, [.ref gcc, .int 0])), (mk, .inl (cI, N, .inl f_257)), (h0, .inr (1, [.ref sc, .ref st, .ref se, .ref mk, .ref us, .ref te, .ref g, .ref gc, .int 1, .int 0, .int 0, .int 1, .long 0, .long 0])), (sc, .inr (6, [.ref g, .int (-1), .ref td])), (g, .inr (3, [.ref gc, .ref ga1, .ref ga2, .ref ga3, .ref ga4, .ref ga5, .ref ga6, .ref ga7, .ref ga8, .int 0, .int 0, .int 0, .int 0, .int (-1)]))] H := hP
  have hD : va_D A [(gc, .inr (0, [.ref gcc, .int 0])), (mk, .inl (cI, N, .inl f_257)), (h0, .inr (1, [.ref sc, .ref st, .ref se, .ref mk, .ref us, .ref te, .ref g, .ref gc, .int 1, .int 0, .int 0, .int 1, .long 0, .long 0])), (sc, .inr (6, [.ref g, .int (-1), .ref td])), (g, .inr (3, [.ref gc, .ref ga1, .ref ga2, .ref ga3, .ref ga4, .ref ga5, .ref ga6, .ref ga7, .ref ga8, .int 0, .int 0, .int 0, .int 0, .int (-1)]))] := hD
  refine lv_aload_n hx hb dX1_settle_56 rfl (lv_at hl 1 rfl) ?_
  have hPc := hP.sub (ws' := [(h0, .inr (1, [.ref sc, .ref st, .ref se, .ref mk, .ref us, .ref te, .ref g, .ref gc, .int 1, .int 0, .int 0, .int 1, .long 0, .long 0]))]) [2] rfl
  have hDc := hD.sub (ws' := [(h0, .inr (1, [.ref sc, .ref st, .ref se, .ref mk, .ref us, .ref te, .ref g, .ref gc, .int 1, .int 0, .int 0, .int 1, .long 0, .long 0]))]) [2] (by decide) rfl
  have hFc := va_free (wc := [(h0, .inr (1, [.ref sc, .ref st, .ref se, .ref mk, .ref us, .ref te, .ref g, .ref gc, .int 1, .int 0, .int 0, .int 1, .long 0, .long 0]))]) hD hS hA [2] rfl
  refine va_callv (va_runV (As := []) (rest := []) ⟨hx, hb, hml, hown, hts⟩ (c_openR l dC dI cI cB cL cZ (h0) (sc) (g) ??td (gc) (st) (se) (mk) (us) (te) ??ga1 ??ga2 ??ga3 ??ga4 ??ga5 ??ga6 ??ga7 ??ga8 H.size) (cwV 0 hts gX1_settle_X1_openRoutines rfl rfl rfl (by decide +kernel) ⟨Nat.le_of_ble_eq_true rfl, Nat.le_of_ble_eq_true rfl⟩) ⟨cP_fb, va_recv hK hPc (ci := 1) (q0 := 0) rfl rfl, fun U hU hW => cP_pre hPc hK hDc hN U hU hW⟩ rfl rfl hl.1 rfl (lv_room (Nat.le_of_ble_eq_true rfl)) dX1_settle_57 ⟨Nat.le_of_ble_eq_true rfl, Nat.le_of_ble_eq_true rfl⟩) hS (fun q _ h => hFc q h) hFc (fun u t H1 locs ht hvm hw hB hz1 hk1 hS => ?_)
  obtain ⟨hP1, hD1⟩ := hB
  rw [ht] at hP1
  obtain ⟨hP, hD⟩ := va_join (wr := [(gc, .inr (0, [.ref gcc, .int 0])), (mk, .inl (cI, N, .inl f_257)), (sc, .inr (6, [.ref g, .int (-1), .ref td])), (g, .inr (3, [.ref gc, .ref ga1, .ref ga2, .ref ga3, .ref ga4, .ref ga5, .ref ga6, .ref ga7, .ref ga8, .int 0, .int 0, .int 0, .int 0, .int (-1)]))]) (w1 := [(h0, .inr (1, [.ref sc, .ref st, .ref se, .ref mk, .ref us, .ref te, .ref g, .ref gc, .int 1, .int 0, .int 0, .int 1, .long 0, .long 0]))]) hP hD [2] [0, 1, 3, 4] rfl rfl (by decide) (by decide) hk1 hFc hP1 hD1
  generalize H1 = H at hP hS ⊢
  have hP : va_P (dC, dI) vwCl [(gc, .inr (0, [.ref gcc, .int 0])), (mk, .inl (cI, N, .inl f_257)), (sc, .inr (6, [.ref g, .int (-1), .ref td])), (g, .inr (3, [.ref gc, .ref ga1, .ref ga2, .ref ga3, .ref ga4, .ref ga5, .ref ga6, .ref ga7, .ref ga8, .int 0, .int 0, .int 0, .int 0, .int (-1)])), (h0, .inr (1, [.ref sc, .ref st, .ref se, .ref mk, .ref us, .ref te, .ref g, .ref gc, .int 1, .int 0, .int 0, .int 1, .long 0, .long 0]))] H := hP
  have hD : va_D A [(gc, .inr (0, [.ref gcc, .int 0])), (mk, .inl (cI, N, .inl f_257)), (sc, .inr (6, [.ref g, .int (-1), .ref td])), (g, .inr (3, [.ref gc, .ref ga1, .ref ga2, .ref ga3, .ref ga4, .ref ga5, .ref ga6, .ref ga7, .ref ga8, .int 0, .int 0, .int 0, .int 0, .int (-1)])), (h0, .inr (1, [.ref sc, .ref st, .ref se, .ref mk, .ref us, .ref te, .ref g, .ref gc, .int 1, .int 0, .int 0, .int 1, .long 0, .long 0]))] := hD
  refine lv_iconst (v := 0) hx hb dX1_settle_60 (by decide) ?_
  refine lv_istore (lv' := [(4, .int 0), (3, .int 0), (0, .ref h0), (1, .long 0)]) hx hb dX1_settle_61 hl (by decide) rfl (fun ls hl => ?_)
  refine lv_iload hx hb dX1_settle_63 (lv_at hl 0 rfl) ?_
  refine lv_aload_n hx hb dX1_settle_65 rfl (lv_at hl 2 rfl) ?_
  refine va_get (D := (dC, dI)) (ci := 1) (v := .ref gc) (C := RX1) (T := TX1) (N := 14) hx hb hts iwwsX1_settle_1 hown hK hP 4 rfl rfl 7 (by decide) (hts (.fieldLink RX1 49 "NothingJudge$Facts" "code" "LNothingJudge$Code;") fwwsX1_settle_49) (fun _ h9 => h9) rfl dX1_settle_66 ?_
  refine va_get (D := (dC, dI)) (ci := 0) (v := .int 0) (C := RX0) (T := TX0) (N := 2) hx hb hts iwwsX1_settle_0 hown hK hP 0 rfl rfl 1 (by decide) (hts (.fieldLink RX1 66 "NothingJudge$Code" "size" "I") fwwsX1_settle_66) (fun _ h9 => h9) rfl dX1_settle_69 ?_
  refine lv_icmp_ge (tgt := 145) hx hb dX1_settle_72 (by decide) (fun _ => ?_) (fun c9 => absurd (by decide) c9)
  refine lv_iinc (v := 1) (lv' := [(3, .int 1), (4, .int 0), (0, .ref h0), (1, .long 0)]) hx hb dX1_settle_145 hl (k := 1) rfl (by decide) (by decide) rfl (fun ls hl => ?_)
  refine lv_goto (tgt := 37) hx hb dX1_settle_148 (by decide) ?_
  refine lv_iload_n hx hb dX1_settle_37 rfl (lv_at hl 0 rfl) ?_
  refine lv_sipush (v := 15902) hx hb dX1_settle_38 (by decide) ?_
  refine lv_icmp_ge (tgt := 151) hx hb dX1_settle_41 (by decide) (fun c9 => absurd c9 (by decide)) (fun _ => ?_)
  refine lv_aload_n hx hb dX1_settle_44 rfl (lv_at hl 2 rfl) ?_
  refine va_get (D := (dC, dI)) (ci := 1) (v := .int 0) (C := RX1) (T := TX1) (N := 14) hx hb hts iwwsX1_settle_1 hown hK hP 4 rfl rfl 9 (by decide) (hts (.fieldLink RX1 60 "NothingJudge$Facts" "changed" "Z") fwwsX1_settle_60) (fun _ h9 => h9) rfl dX1_settle_45 ?_
  refine lv_if_eq (tgt := 151) hx hb dX1_settle_48 (by decide) (fun _ => ?_) (fun c9 => absurd (by decide) c9)
  refine lv_aload_n hx hb dX1_settle_151 rfl (lv_at hl 2 rfl) ?_
  refine lv_iconst (v := 0) hx hb dX1_settle_152 (by decide) ?_
  refine va_put (D := (dC, dI)) (ci := 1) (v := .int 0) (ty := .boolean) (C := RX1) (T := TX1) (N := 14) hx hb hts iwwsX1_settle_1 tyX1 tyX1_ok nmX1 hown hK hP hD hS 4 rfl rfl 8 (by decide) (hts (.fieldLink RX1 28 "NothingJudge$Facts" "stale" "Z") fwwsX1_settle_28) (fun _ h9 => h9) rfl (by decide +kernel) rfl rfl (Nat.le_of_ble_eq_true rfl) dX1_settle_153 (fun H locs hP hD hS => ?_)
  have hP : va_P (dC, dI) vwCl [(gc, .inr (0, [.ref gcc, .int 0])), (mk, .inl (cI, N, .inl f_257)), (sc, .inr (6, [.ref g, .int (-1), .ref td])), (g, .inr (3, [.ref gc, .ref ga1, .ref ga2, .ref ga3, .ref ga4, .ref ga5, .ref ga6, .ref ga7, .ref ga8, .int 0, .int 0, .int 0, .int 0, .int (-1)])), (h0, .inr (1, [.ref sc, .ref st, .ref se, .ref mk, .ref us, .ref te, .ref g, .ref gc, .int 0, .int 0, .int 0, .int 1, .long 0, .long 0]))] H := hP
  have hD : va_D A [(gc, .inr (0, [.ref gcc, .int 0])), (mk, .inl (cI, N, .inl f_257)), (sc, .inr (6, [.ref g, .int (-1), .ref td])), (g, .inr (3, [.ref gc, .ref ga1, .ref ga2, .ref ga3, .ref ga4, .ref ga5, .ref ga6, .ref ga7, .ref ga8, .int 0, .int 0, .int 0, .int 0, .int (-1)])), (h0, .inr (1, [.ref sc, .ref st, .ref se, .ref mk, .ref us, .ref te, .ref g, .ref gc, .int 0, .int 0, .int 0, .int 1, .long 0, .long 0]))] := hD
  have hP9 := hP.sub (ws' := [(h0, .inr (1, [.ref sc, .ref st, .ref se, .ref mk, .ref us, .ref te, .ref g, .ref gc, .int 0, .int 0, .int 0, .int 1, .long 0, .long 0])), (sc, .inr (6, [.ref g, .int (-1), .ref td])), (g, .inr (3, [.ref gc, .ref ga1, .ref ga2, .ref ga3, .ref ga4, .ref ga5, .ref ga6, .ref ga7, .ref ga8, .int 0, .int 0, .int 0, .int 0, .int (-1)])), (mk, .inl (cI, N, .inl f_257))]) [4, 2, 3, 1] rfl
  have hD9 := hD.sub (ws' := [(h0, .inr (1, [.ref sc, .ref st, .ref se, .ref mk, .ref us, .ref te, .ref g, .ref gc, .int 0, .int 0, .int 0, .int 1, .long 0, .long 0])), (sc, .inr (6, [.ref g, .int (-1), .ref td])), (g, .inr (3, [.ref gc, .ref ga1, .ref ga2, .ref ga3, .ref ga4, .ref ga5, .ref ga6, .ref ga7, .ref ga8, .int 0, .int 0, .int 0, .int 0, .int (-1)])), (mk, .inl (cI, N, .inl f_257))]) [4, 2, 3, 1] (by decide) rfl
  exact W.vret hx hb hr (fun t ht hW => ⟨⟨(), rfl, trivial, f_257, hf_258, by rw [ht]; exact hP9, hD9⟩, hS.F ht⟩) hS.2.2 dX1_settle_156

set_option maxHeartbeats 4000000 in
set_option maxRecDepth 100000 in
theorem c_mi0 (l : Launch) (dC : Nat → ClassId) (dI : Nat → Nat → Nat) (cI cB cL cZ : ClassId) (h0 : Nat) (tp : Nat) (tok : Nat) (sp : Nat) (rdr : Nat) (scn : Nat) (fct : Nat) (rnr : Nat) (trl : Nat) (mnd : Nat) (rrw : Nat) (r : Int32) (sz : Nat)  : Met l yX10_markIndex wsX10_markIndex ({ frames := 0, cells := 0, slots := 0, locals := 0 }) (cP (dC, dI) (kTy cI cB cL cZ) [.ref h0, .int 2, .int r, .int 0] [(h0, .inr (9, [.ref tp, .int 0, .ref tok, .ref sp, .ref rdr, .int 0, .int (-1), .ref scn, .ref fct, .ref rnr, .ref trl, .ref mnd, .ref rrw]))] sz) (va_Qi (fun (r : Int32) (_ : Unit) => r = 40) (fun (_ : Unit) (t : State) => va_P (dC, dI) vwCl [(h0, .inr (9, [.ref tp, .int 0, .ref tok, .ref sp, .ref rdr, .int 0, .int (-1), .ref scn, .ref fct, .ref rnr, .ref trl, .ref mnd, .ref rrw]))] t.heap ∧ va_D (va_A [(h0, .inr (9, [.ref tp, .int 0, .ref tok, .ref sp, .ref rdr, .int 0, .int (-1), .ref scn, .ref fct, .ref rnr, .ref trl, .ref mnd, .ref rrw]))] sz) [(h0, .inr (9, [.ref tp, .int 0, .ref tok, .ref sp, .ref rdr, .int 0, .int (-1), .ref scn, .ref fct, .ref rnr, .ref trl, .ref mnd, .ref rrw]))]) (va_A [(h0, .inr (9, [.ref tp, .int 0, .ref tok, .ref sp, .ref rdr, .int 0, .int (-1), .ref scn, .ref fct, .ref rnr, .ref trl, .ref mnd, .ref rrw]))] sz)) 0 0 (va_A [(h0, .inr (9, [.ref tp, .int 0, .ref tok, .ref sp, .ref rdr, .int 0, .int (-1), .ref scn, .ref fct, .ref rnr, .ref trl, .ref mnd, .ref rrw]))] sz) := by
  refine Met.ofW (cc := cX10_markIndex) (maxL := 5) (ret := (some .int)) (by decide) rfl ?_
  intro p e s m args below meth c s₁ B hml hv
  obtain ⟨rfl, hsz, hP, hK, hD0, hN⟩ := hv
  have hx := B.exec
  have hb := B.bytes
  have hr := B.returns
  have hts := atoms_spec (ws := wsX10_markIndex) B.pre
  have hown : s.vm.findClass RX10 = some m.cls := findClass_of_methodNamed B.named
  have hlocks := B.notSynchronized
  subst hsz
  have hD := hD0.self (sz := s.heap.size)
  generalize hAe : va_A [(h0, .inr (9, [.ref tp, .int 0, .ref tok, .ref sp, .ref rdr, .int 0, .int (-1), .ref scn, .ref fct, .ref rnr, .ref trl, .ref mnd, .ref rrw]))] s.heap.size = A at hD ⊢
  have hA : ∀ q : Nat, s.heap.size ≤ q → A q := fun q h => by rw [← hAe]; exact Or.inr h
  have hl := lv_entry ([.ref h0, .int 2, .int r, .int 0]) (n := 5) (Nat.le_of_ble_eq_true rfl)
  rw [lg_entry_eq]
  generalize (lg_sl ([.ref h0, .int 2, .int r, .int 0]) ++ List.replicate (5 - (lg_sl ([.ref h0, .int 2, .int r, .int 0])).length) Slot.unset).toArray = ls at hl ⊢
  have hl : lv_has ls 5 [(0, .ref h0), (1, .int 2), (2, .int r), (3, .int 0)] := hl
  refine k_H (A := A) hP (fun H hP hS => ?_)
  have hP : va_P (dC, dI) vwCl [(h0, .inr (9, [.ref tp, .int 0, .ref tok, .ref sp, .ref rdr, .int 0, .int (-1), .ref scn, .ref fct, .ref rnr, .ref trl, .ref mnd, .ref rrw]))] H := hP
  have hD : va_D A [(h0, .inr (9, [.ref tp, .int 0, .ref tok, .ref sp, .ref rdr, .int 0, .int (-1), .ref scn, .ref fct, .ref rnr, .ref trl, .ref mnd, .ref rrw]))] := hD
  refine lv_iload_n hx hb dX10_markIndex_0 rfl (lv_at hl 1 rfl) ?_
  refine lv_iconst (v := 2) hx hb dX10_markIndex_1 (by decide) ?_
  refine lv_icmp_ne (tgt := 23) hx hb dX10_markIndex_2 (by decide) (fun c9 => absurd c9 (by decide)) (fun _ => ?_)
  refine lv_iload_n hx hb dX10_markIndex_5 rfl (lv_at hl 3 rfl) ?_
  refine lv_if_eq (tgt := 14) hx hb dX10_markIndex_6 (by decide) (fun _ => ?_) (fun c9 => absurd (by decide) c9)
  refine lv_bipush (v := 40) hx hb dX10_markIndex_14 (by decide) ?_
  refine lv_iload_n hx hb dX10_markIndex_16 rfl (lv_at hl 3 rfl) ?_
  refine lv_iadd hx hb dX10_markIndex_17 ?_
  refine lv_topi (fun y_262 ey_262 => ?_)
  obtain rfl : y_262 = 40 := ey_262.trans (by decide)
  refine lv_goto (tgt := 22) hx hb dX10_markIndex_18 (by decide) ?_
  have hP9 := hP.sub (ws' := [(h0, .inr (9, [.ref tp, .int 0, .ref tok, .ref sp, .ref rdr, .int 0, .int (-1), .ref scn, .ref fct, .ref rnr, .ref trl, .ref mnd, .ref rrw]))]) [0] rfl
  have hD9 := hD.sub (ws' := [(h0, .inr (9, [.ref tp, .int 0, .ref tok, .ref sp, .ref rdr, .int 0, .int (-1), .ref scn, .ref fct, .ref rnr, .ref trl, .ref mnd, .ref rrw]))]) [0] (by decide) rfl
  exact W.iret (v := 40) hx hb hr (fun t ht hW => ⟨⟨40, (), rfl, rfl, by rw [ht]; exact hP9, hD9⟩, hS.F ht⟩) hS.2.2 dX10_markIndex_22

set_option maxHeartbeats 4000000 in
set_option maxRecDepth 100000 in
theorem c_mi1 (l : Launch) (dC : Nat → ClassId) (dI : Nat → Nat → Nat) (cI cB cL cZ : ClassId) (h0 : Nat) (tp : Nat) (tok : Nat) (sp : Nat) (rdr : Nat) (scn : Nat) (fct : Nat) (rnr : Nat) (trl : Nat) (mnd : Nat) (rrw : Nat) (r : Int32) (sz : Nat)  : Met l yX10_markIndex wsX10_markIndex ({ frames := 0, cells := 0, slots := 0, locals := 0 }) (cP (dC, dI) (kTy cI cB cL cZ) [.ref h0, .int 2, .int r, .int 1] [(h0, .inr (9, [.ref tp, .int 0, .ref tok, .ref sp, .ref rdr, .int 0, .int (-1), .ref scn, .ref fct, .ref rnr, .ref trl, .ref mnd, .ref rrw]))] sz) (va_Qi (fun (r : Int32) (_ : Unit) => r = 41) (fun (_ : Unit) (t : State) => va_P (dC, dI) vwCl [(h0, .inr (9, [.ref tp, .int 0, .ref tok, .ref sp, .ref rdr, .int 0, .int (-1), .ref scn, .ref fct, .ref rnr, .ref trl, .ref mnd, .ref rrw]))] t.heap ∧ va_D (va_A [(h0, .inr (9, [.ref tp, .int 0, .ref tok, .ref sp, .ref rdr, .int 0, .int (-1), .ref scn, .ref fct, .ref rnr, .ref trl, .ref mnd, .ref rrw]))] sz) [(h0, .inr (9, [.ref tp, .int 0, .ref tok, .ref sp, .ref rdr, .int 0, .int (-1), .ref scn, .ref fct, .ref rnr, .ref trl, .ref mnd, .ref rrw]))]) (va_A [(h0, .inr (9, [.ref tp, .int 0, .ref tok, .ref sp, .ref rdr, .int 0, .int (-1), .ref scn, .ref fct, .ref rnr, .ref trl, .ref mnd, .ref rrw]))] sz)) 0 0 (va_A [(h0, .inr (9, [.ref tp, .int 0, .ref tok, .ref sp, .ref rdr, .int 0, .int (-1), .ref scn, .ref fct, .ref rnr, .ref trl, .ref mnd, .ref rrw]))] sz) := by
  refine Met.ofW (cc := cX10_markIndex) (maxL := 5) (ret := (some .int)) (by decide) rfl ?_
  intro p e s m args below meth c s₁ B hml hv
  obtain ⟨rfl, hsz, hP, hK, hD0, hN⟩ := hv
  have hx := B.exec
  have hb := B.bytes
  have hr := B.returns
  have hts := atoms_spec (ws := wsX10_markIndex) B.pre
  have hown : s.vm.findClass RX10 = some m.cls := findClass_of_methodNamed B.named
  have hlocks := B.notSynchronized
  subst hsz
  have hD := hD0.self (sz := s.heap.size)
  generalize hAe : va_A [(h0, .inr (9, [.ref tp, .int 0, .ref tok, .ref sp, .ref rdr, .int 0, .int (-1), .ref scn, .ref fct, .ref rnr, .ref trl, .ref mnd, .ref rrw]))] s.heap.size = A at hD ⊢
  have hA : ∀ q : Nat, s.heap.size ≤ q → A q := fun q h => by rw [← hAe]; exact Or.inr h
  have hl := lv_entry ([.ref h0, .int 2, .int r, .int 1]) (n := 5) (Nat.le_of_ble_eq_true rfl)
  rw [lg_entry_eq]
  generalize (lg_sl ([.ref h0, .int 2, .int r, .int 1]) ++ List.replicate (5 - (lg_sl ([.ref h0, .int 2, .int r, .int 1])).length) Slot.unset).toArray = ls at hl ⊢
  have hl : lv_has ls 5 [(0, .ref h0), (1, .int 2), (2, .int r), (3, .int 1)] := hl
  refine k_H (A := A) hP (fun H hP hS => ?_)
  have hP : va_P (dC, dI) vwCl [(h0, .inr (9, [.ref tp, .int 0, .ref tok, .ref sp, .ref rdr, .int 0, .int (-1), .ref scn, .ref fct, .ref rnr, .ref trl, .ref mnd, .ref rrw]))] H := hP
  have hD : va_D A [(h0, .inr (9, [.ref tp, .int 0, .ref tok, .ref sp, .ref rdr, .int 0, .int (-1), .ref scn, .ref fct, .ref rnr, .ref trl, .ref mnd, .ref rrw]))] := hD
  refine lv_iload_n hx hb dX10_markIndex_0 rfl (lv_at hl 1 rfl) ?_
  refine lv_iconst (v := 2) hx hb dX10_markIndex_1 (by decide) ?_
  refine lv_icmp_ne (tgt := 23) hx hb dX10_markIndex_2 (by decide) (fun c9 => absurd c9 (by decide)) (fun _ => ?_)
  refine lv_iload_n hx hb dX10_markIndex_5 rfl (lv_at hl 3 rfl) ?_
  refine lv_if_eq (tgt := 14) hx hb dX10_markIndex_6 (by decide) (fun c9 => absurd c9 (by decide)) (fun _ => ?_)
  refine lv_iload_n hx hb dX10_markIndex_9 rfl (lv_at hl 3 rfl) ?_
  refine lv_iconst (v := 1) hx hb dX10_markIndex_10 (by decide) ?_
  refine lv_icmp_ne (tgt := 21) hx hb dX10_markIndex_11 (by decide) (fun c9 => absurd c9 (by decide)) (fun _ => ?_)
  refine lv_bipush (v := 40) hx hb dX10_markIndex_14 (by decide) ?_
  refine lv_iload_n hx hb dX10_markIndex_16 rfl (lv_at hl 3 rfl) ?_
  refine lv_iadd hx hb dX10_markIndex_17 ?_
  refine lv_topi (fun y_263 ey_263 => ?_)
  obtain rfl : y_263 = 41 := ey_263.trans (by decide)
  refine lv_goto (tgt := 22) hx hb dX10_markIndex_18 (by decide) ?_
  have hP9 := hP.sub (ws' := [(h0, .inr (9, [.ref tp, .int 0, .ref tok, .ref sp, .ref rdr, .int 0, .int (-1), .ref scn, .ref fct, .ref rnr, .ref trl, .ref mnd, .ref rrw]))]) [0] rfl
  have hD9 := hD.sub (ws' := [(h0, .inr (9, [.ref tp, .int 0, .ref tok, .ref sp, .ref rdr, .int 0, .int (-1), .ref scn, .ref fct, .ref rnr, .ref trl, .ref mnd, .ref rrw]))]) [0] (by decide) rfl
  exact W.iret (v := 41) hx hb hr (fun t ht hW => ⟨⟨41, (), rfl, rfl, by rw [ht]; exact hP9, hD9⟩, hS.F ht⟩) hS.2.2 dX10_markIndex_22

set_option maxHeartbeats 4000000 in
set_option maxRecDepth 100000 in
theorem c_min (l : Launch) (dC : Nat → ClassId) (dI : Nat → Nat → Nat) (cI cB cL cZ : ClassId) (h0 : Nat) (tp : Nat) (tok : Nat) (sp : Nat) (rdr : Nat) (scn : Nat) (fct : Nat) (rnr : Nat) (trl : Nat) (mnd : Nat) (rrw : Nat) (g : Nat) (td : Nat) (gc : Nat) (ga1 : Nat) (ga2 : Nat) (ga3 : Nat) (ga4 : Nat) (ga5 : Nat) (ga6 : Nat) (ga7 : Nat) (ga8 : Nat) (kd : Int32) (r : Int32) (k : Int32) (sz : Nat) (hn9 : ¬ (kd = 2 ∧ (k = 0 ∨ k = 1))) : Met l yX10_markIndex wsX10_markIndex ({ frames := 1, cells := 0, slots := 0, locals := 21 }) (cP (dC, dI) (kTy cI cB cL cZ) [.ref h0, .int kd, .int r, .int k] [(h0, .inr (9, [.ref tp, .int 0, .ref tok, .ref sp, .ref rdr, .int 0, .int (-1), .ref scn, .ref fct, .ref rnr, .ref trl, .ref mnd, .ref rrw])), (scn, .inr (6, [.ref g, .int (-1), .ref td])), (g, .inr (3, [.ref gc, .ref ga1, .ref ga2, .ref ga3, .ref ga4, .ref ga5, .ref ga6, .ref ga7, .ref ga8, .int 0, .int 0, .int 0, .int 0, .int (-1)]))] sz) (va_Qi (fun (r : Int32) (_ : Unit) => r = -1) (fun (_ : Unit) (t : State) => va_P (dC, dI) vwCl [(h0, .inr (9, [.ref tp, .int 0, .ref tok, .ref sp, .ref rdr, .int 0, .int (-1), .ref scn, .ref fct, .ref rnr, .ref trl, .ref mnd, .ref rrw]))] t.heap ∧ va_D (va_A [(h0, .inr (9, [.ref tp, .int 0, .ref tok, .ref sp, .ref rdr, .int 0, .int (-1), .ref scn, .ref fct, .ref rnr, .ref trl, .ref mnd, .ref rrw])), (scn, .inr (6, [.ref g, .int (-1), .ref td])), (g, .inr (3, [.ref gc, .ref ga1, .ref ga2, .ref ga3, .ref ga4, .ref ga5, .ref ga6, .ref ga7, .ref ga8, .int 0, .int 0, .int 0, .int 0, .int (-1)]))] sz) [(h0, .inr (9, [.ref tp, .int 0, .ref tok, .ref sp, .ref rdr, .int 0, .int (-1), .ref scn, .ref fct, .ref rnr, .ref trl, .ref mnd, .ref rrw]))]) (va_A [(h0, .inr (9, [.ref tp, .int 0, .ref tok, .ref sp, .ref rdr, .int 0, .int (-1), .ref scn, .ref fct, .ref rnr, .ref trl, .ref mnd, .ref rrw])), (scn, .inr (6, [.ref g, .int (-1), .ref td])), (g, .inr (3, [.ref gc, .ref ga1, .ref ga2, .ref ga3, .ref ga4, .ref ga5, .ref ga6, .ref ga7, .ref ga8, .int 0, .int 0, .int 0, .int 0, .int (-1)]))] sz)) 0 0 (va_A [(h0, .inr (9, [.ref tp, .int 0, .ref tok, .ref sp, .ref rdr, .int 0, .int (-1), .ref scn, .ref fct, .ref rnr, .ref trl, .ref mnd, .ref rrw])), (scn, .inr (6, [.ref g, .int (-1), .ref td])), (g, .inr (3, [.ref gc, .ref ga1, .ref ga2, .ref ga3, .ref ga4, .ref ga5, .ref ga6, .ref ga7, .ref ga8, .int 0, .int 0, .int 0, .int 0, .int (-1)]))] sz) := by
  refine Met.ofW (cc := cX10_markIndex) (maxL := 5) (ret := (some .int)) (by decide) rfl ?_
  intro p e s m args below meth c s₁ B hml hv
  obtain ⟨rfl, hsz, hP, hK, hD0, hN⟩ := hv
  have hx := B.exec
  have hb := B.bytes
  have hr := B.returns
  have hts := atoms_spec (ws := wsX10_markIndex) B.pre
  have hown : s.vm.findClass RX10 = some m.cls := findClass_of_methodNamed B.named
  have hlocks := B.notSynchronized
  subst hsz
  have hD := hD0.self (sz := s.heap.size)
  generalize hAe : va_A [(h0, .inr (9, [.ref tp, .int 0, .ref tok, .ref sp, .ref rdr, .int 0, .int (-1), .ref scn, .ref fct, .ref rnr, .ref trl, .ref mnd, .ref rrw])), (scn, .inr (6, [.ref g, .int (-1), .ref td])), (g, .inr (3, [.ref gc, .ref ga1, .ref ga2, .ref ga3, .ref ga4, .ref ga5, .ref ga6, .ref ga7, .ref ga8, .int 0, .int 0, .int 0, .int 0, .int (-1)]))] s.heap.size = A at hD ⊢
  have hA : ∀ q : Nat, s.heap.size ≤ q → A q := fun q h => by rw [← hAe]; exact Or.inr h
  have hl := lv_entry ([.ref h0, .int kd, .int r, .int k]) (n := 5) (Nat.le_of_ble_eq_true rfl)
  rw [lg_entry_eq]
  generalize (lg_sl ([.ref h0, .int kd, .int r, .int k]) ++ List.replicate (5 - (lg_sl ([.ref h0, .int kd, .int r, .int k])).length) Slot.unset).toArray = ls at hl ⊢
  have hl : lv_has ls 5 [(0, .ref h0), (1, .int kd), (2, .int r), (3, .int k)] := hl
  refine k_H (A := A) hP (fun H hP hS => ?_)
  have hP : va_P (dC, dI) vwCl [(h0, .inr (9, [.ref tp, .int 0, .ref tok, .ref sp, .ref rdr, .int 0, .int (-1), .ref scn, .ref fct, .ref rnr, .ref trl, .ref mnd, .ref rrw])), (scn, .inr (6, [.ref g, .int (-1), .ref td])), (g, .inr (3, [.ref gc, .ref ga1, .ref ga2, .ref ga3, .ref ga4, .ref ga5, .ref ga6, .ref ga7, .ref ga8, .int 0, .int 0, .int 0, .int 0, .int (-1)]))] H := hP
  have hD : va_D A [(h0, .inr (9, [.ref tp, .int 0, .ref tok, .ref sp, .ref rdr, .int 0, .int (-1), .ref scn, .ref fct, .ref rnr, .ref trl, .ref mnd, .ref rrw])), (scn, .inr (6, [.ref g, .int (-1), .ref td])), (g, .inr (3, [.ref gc, .ref ga1, .ref ga2, .ref ga3, .ref ga4, .ref ga5, .ref ga6, .ref ga7, .ref ga8, .int 0, .int 0, .int 0, .int 0, .int (-1)]))] := hD
  refine lv_iload_n hx hb dX10_markIndex_0 rfl (lv_at hl 1 rfl) ?_
  refine lv_iconst (v := 2) hx hb dX10_markIndex_1 (by decide) ?_
  refine lv_icmp_ne (tgt := 23) hx hb dX10_markIndex_2 (by decide) (fun c_264 => ?_) (fun c_264 => ?_)
  · refine lv_aload_n hx hb dX10_markIndex_23 rfl (lv_at hl 0 rfl) ?_
    refine va_get (D := (dC, dI)) (ci := 9) (v := .ref scn) (C := RX10) (T := TX10) (N := 13) hx hb hts iwwsX10_markIndex_10 hown hK hP 0 rfl rfl 7 (by decide) (hts (.fieldLink RX10 45 "NothingJudge" "scene" "LNothingJudge$Scene;") fwwsX10_markIndex_45) (fun _ h9 => h9) rfl dX10_markIndex_24 ?_
    refine va_get (D := (dC, dI)) (ci := 6) (v := .ref g) (C := RX7) (T := TX7) (N := 3) hx hb hts iwwsX10_markIndex_7 hown hK hP 1 rfl rfl 0 (by decide) (hts (.fieldLink RX10 110 "NothingJudge$Scene" "program" "LNothingJudge$Program;") fwwsX10_markIndex_110) (fun _ h9 => h9) rfl dX10_markIndex_27 ?_
    refine lv_iload_n hx hb dX10_markIndex_30 rfl (lv_at hl 2 rfl) ?_
    have hPc := hP.sub (ws' := [(g, .inr (3, [.ref gc, .ref ga1, .ref ga2, .ref ga3, .ref ga4, .ref ga5, .ref ga6, .ref ga7, .ref ga8, .int 0, .int 0, .int 0, .int 0, .int (-1)]))]) [2] rfl
    have hDc := hD.sub (ws' := [(g, .inr (3, [.ref gc, .ref ga1, .ref ga2, .ref ga3, .ref ga4, .ref ga5, .ref ga6, .ref ga7, .ref ga8, .int 0, .int 0, .int 0, .int 0, .int (-1)]))]) [2] (by decide) rfl
    have hFc := va_free (wc := [(g, .inr (3, [.ref gc, .ref ga1, .ref ga2, .ref ga3, .ref ga4, .ref ga5, .ref ga6, .ref ga7, .ref ga8, .int 0, .int 0, .int 0, .int 0, .int (-1)]))]) hD hS hA [2] rfl
    refine va_calli (va_runV (As := [.int r]) (rest := []) ⟨hx, hb, hml, hown, hts⟩ (c_has l dC dI cI cB cL cZ (g) (gc) (ga1) (ga2) (ga3) (ga4) (ga5) (ga6) (ga7) (ga8) (r) H.size) (cwV 1 hts gX10_markIndex_X3_has rfl rfl rfl (by decide +kernel) ⟨Nat.le_of_ble_eq_true rfl, Nat.le_of_ble_eq_true rfl⟩) ⟨cP_fb, va_recv hK hPc (ci := 3) (q0 := 0) rfl rfl, fun U hU hW => cP_pre hPc hK hDc hN U hU hW⟩ rfl rfl hl.1 rfl (lv_room (Nat.le_of_ble_eq_true rfl)) dX10_markIndex_31 ⟨Nat.le_of_ble_eq_true rfl, Nat.le_of_ble_eq_true rfl⟩) hS (fun q _ h => hFc q h) hFc (fun r_265 u t H1 locs ht hvm hw hB hz1 hk1 hS => ?_)
    obtain ⟨hP1, hD1⟩ := hB
    rw [ht] at hP1
    obtain ⟨hP, hD⟩ := va_join (wr := [(h0, .inr (9, [.ref tp, .int 0, .ref tok, .ref sp, .ref rdr, .int 0, .int (-1), .ref scn, .ref fct, .ref rnr, .ref trl, .ref mnd, .ref rrw])), (scn, .inr (6, [.ref g, .int (-1), .ref td]))]) (w1 := [(g, .inr (3, [.ref gc, .ref ga1, .ref ga2, .ref ga3, .ref ga4, .ref ga5, .ref ga6, .ref ga7, .ref ga8, .int 0, .int 0, .int 0, .int 0, .int (-1)]))]) hP hD [2] [0, 1] rfl rfl (by decide) (by decide) hk1 hFc hP1 hD1
    generalize H1 = H at hP hS ⊢
    have hP : va_P (dC, dI) vwCl [(h0, .inr (9, [.ref tp, .int 0, .ref tok, .ref sp, .ref rdr, .int 0, .int (-1), .ref scn, .ref fct, .ref rnr, .ref trl, .ref mnd, .ref rrw])), (scn, .inr (6, [.ref g, .int (-1), .ref td])), (g, .inr (3, [.ref gc, .ref ga1, .ref ga2, .ref ga3, .ref ga4, .ref ga5, .ref ga6, .ref ga7, .ref ga8, .int 0, .int 0, .int 0, .int 0, .int (-1)]))] H := hP
    have hD : va_D A [(h0, .inr (9, [.ref tp, .int 0, .ref tok, .ref sp, .ref rdr, .int 0, .int (-1), .ref scn, .ref fct, .ref rnr, .ref trl, .ref mnd, .ref rrw])), (scn, .inr (6, [.ref g, .int (-1), .ref td])), (g, .inr (3, [.ref gc, .ref ga1, .ref ga2, .ref ga3, .ref ga4, .ref ga5, .ref ga6, .ref ga7, .ref ga8, .int 0, .int 0, .int 0, .int 0, .int (-1)]))] := hD
    obtain rfl : r_265 = 0 := hw
    refine lv_if_ne (tgt := 39) hx hb dX10_markIndex_34 (by decide) (fun c9 => absurd c9 (by decide)) (fun _ => ?_)
    refine lv_iconst (v := (-1)) hx hb dX10_markIndex_37 (by decide) ?_
    have hP9 := hP.sub (ws' := [(h0, .inr (9, [.ref tp, .int 0, .ref tok, .ref sp, .ref rdr, .int 0, .int (-1), .ref scn, .ref fct, .ref rnr, .ref trl, .ref mnd, .ref rrw]))]) [0] rfl
    have hD9 := hD.sub (ws' := [(h0, .inr (9, [.ref tp, .int 0, .ref tok, .ref sp, .ref rdr, .int 0, .int (-1), .ref scn, .ref fct, .ref rnr, .ref trl, .ref mnd, .ref rrw]))]) [0] (by decide) rfl
    exact W.iret (v := (-1)) hx hb hr (fun t ht hW => ⟨⟨(-1), (), rfl, rfl, by rw [ht]; exact hP9, hD9⟩, hS.F ht⟩) hS.2.2 dX10_markIndex_38
  · refine lv_iload_n hx hb dX10_markIndex_5 rfl (lv_at hl 3 rfl) ?_
    refine lv_if_eq (tgt := 14) hx hb dX10_markIndex_6 (by decide) (fun c9 => absurd c9 (fun h9 => hn9 ⟨c_264, Or.inl h9⟩)) (fun _ => ?_)
    refine lv_iload_n hx hb dX10_markIndex_9 rfl (lv_at hl 3 rfl) ?_
    refine lv_iconst (v := 1) hx hb dX10_markIndex_10 (by decide) ?_
    refine lv_icmp_ne (tgt := 21) hx hb dX10_markIndex_11 (by decide) (fun _ => ?_) (fun c9 => absurd (fun h9 => hn9 ⟨c_264, Or.inr h9⟩) c9)
    refine lv_iconst (v := (-1)) hx hb dX10_markIndex_21 (by decide) ?_
    have hP9 := hP.sub (ws' := [(h0, .inr (9, [.ref tp, .int 0, .ref tok, .ref sp, .ref rdr, .int 0, .int (-1), .ref scn, .ref fct, .ref rnr, .ref trl, .ref mnd, .ref rrw]))]) [0] rfl
    have hD9 := hD.sub (ws' := [(h0, .inr (9, [.ref tp, .int 0, .ref tok, .ref sp, .ref rdr, .int 0, .int (-1), .ref scn, .ref fct, .ref rnr, .ref trl, .ref mnd, .ref rrw]))]) [0] (by decide) rfl
    exact W.iret (v := (-1)) hx hb hr (fun t ht hW => ⟨⟨(-1), (), rfl, rfl, by rw [ht]; exact hP9, hD9⟩, hS.F ht⟩) hS.2.2 dX10_markIndex_22

set_option maxHeartbeats 4000000 in
set_option maxRecDepth 100000 in
theorem c_mark0 (l : Launch) (dC : Nat → ClassId) (dI : Nat → Nat → Nat) (cI cB cL cZ : ClassId) (h0 : Nat) (tp : Nat) (tok : Nat) (sp : Nat) (rdr : Nat) (scn : Nat) (fct : Nat) (rnr : Nat) (trl : Nat) (mnd : Nat) (rrw : Nat) (g : Nat) (td : Nat) (gc : Nat) (ga1 : Nat) (ga2 : Nat) (ga3 : Nat) (ga4 : Nat) (ga5 : Nat) (ga6 : Nat) (ga7 : Nat) (ga8 : Nat) (gcc : Nat) (st : Nat) (se : Nat) (mk : Nat) (us : Nat) (te : Nat) (r : Int32) (f1 : Nat → Int64) (f2 : Nat → Int32) (f3 : Nat → Int32) (f4 : Nat → Int32) (f5 : Nat → Int32) (sz : Nat)  : Met l yX10_mark wsX10_mark ({ frames := 3, cells := 0, slots := 0, locals := 68 }) (cP (dC, dI) (kTy cI cB cL cZ) [.ref h0, .int 2, .int r, .int 0] [(h0, .inr (9, [.ref tp, .int 0, .ref tok, .ref sp, .ref rdr, .int 0, .int (-1), .ref scn, .ref fct, .ref rnr, .ref trl, .ref mnd, .ref rrw])), (fct, .inr (1, [.ref scn, .ref st, .ref se, .ref mk, .ref us, .ref te, .ref g, .ref gc, .int 1, .int 0, .int 0, .int 0, .long 0, .long 0])), (scn, .inr (6, [.ref g, .int (-1), .ref td])), (g, .inr (3, [.ref gc, .ref ga1, .ref ga2, .ref ga3, .ref ga4, .ref ga5, .ref ga6, .ref ga7, .ref ga8, .int 0, .int 0, .int 0, .int 0, .int (-1)])), (gc, .inr (0, [.ref gcc, .int 0])), (st, .inl (cL, 304, .inr (.inl f1))), (se, .inl (cI, 304, .inl f2)), (mk, .inl (cI, 42, .inl f3)), (us, .inl (cI, 40, .inl f4)), (te, .inl (cI, 24, .inl f5))] sz) (va_Qi (fun (r : Int32) (_ : Unit) => r = 0) (fun (_ : Unit) (t : State) => va_P (dC, dI) vwCl [] t.heap ∧ va_D (va_A [(h0, .inr (9, [.ref tp, .int 0, .ref tok, .ref sp, .ref rdr, .int 0, .int (-1), .ref scn, .ref fct, .ref rnr, .ref trl, .ref mnd, .ref rrw])), (fct, .inr (1, [.ref scn, .ref st, .ref se, .ref mk, .ref us, .ref te, .ref g, .ref gc, .int 1, .int 0, .int 0, .int 0, .long 0, .long 0])), (scn, .inr (6, [.ref g, .int (-1), .ref td])), (g, .inr (3, [.ref gc, .ref ga1, .ref ga2, .ref ga3, .ref ga4, .ref ga5, .ref ga6, .ref ga7, .ref ga8, .int 0, .int 0, .int 0, .int 0, .int (-1)])), (gc, .inr (0, [.ref gcc, .int 0])), (st, .inl (cL, 304, .inr (.inl f1))), (se, .inl (cI, 304, .inl f2)), (mk, .inl (cI, 42, .inl f3)), (us, .inl (cI, 40, .inl f4)), (te, .inl (cI, 24, .inl f5))] sz) []) (va_A [(h0, .inr (9, [.ref tp, .int 0, .ref tok, .ref sp, .ref rdr, .int 0, .int (-1), .ref scn, .ref fct, .ref rnr, .ref trl, .ref mnd, .ref rrw])), (fct, .inr (1, [.ref scn, .ref st, .ref se, .ref mk, .ref us, .ref te, .ref g, .ref gc, .int 1, .int 0, .int 0, .int 0, .long 0, .long 0])), (scn, .inr (6, [.ref g, .int (-1), .ref td])), (g, .inr (3, [.ref gc, .ref ga1, .ref ga2, .ref ga3, .ref ga4, .ref ga5, .ref ga6, .ref ga7, .ref ga8, .int 0, .int 0, .int 0, .int 0, .int (-1)])), (gc, .inr (0, [.ref gcc, .int 0])), (st, .inl (cL, 304, .inr (.inl f1))), (se, .inl (cI, 304, .inl f2)), (mk, .inl (cI, 42, .inl f3)), (us, .inl (cI, 40, .inl f4)), (te, .inl (cI, 24, .inl f5))] sz)) 0 0 (va_A [(h0, .inr (9, [.ref tp, .int 0, .ref tok, .ref sp, .ref rdr, .int 0, .int (-1), .ref scn, .ref fct, .ref rnr, .ref trl, .ref mnd, .ref rrw])), (fct, .inr (1, [.ref scn, .ref st, .ref se, .ref mk, .ref us, .ref te, .ref g, .ref gc, .int 1, .int 0, .int 0, .int 0, .long 0, .long 0])), (scn, .inr (6, [.ref g, .int (-1), .ref td])), (g, .inr (3, [.ref gc, .ref ga1, .ref ga2, .ref ga3, .ref ga4, .ref ga5, .ref ga6, .ref ga7, .ref ga8, .int 0, .int 0, .int 0, .int 0, .int (-1)])), (gc, .inr (0, [.ref gcc, .int 0])), (st, .inl (cL, 304, .inr (.inl f1))), (se, .inl (cI, 304, .inl f2)), (mk, .inl (cI, 42, .inl f3)), (us, .inl (cI, 40, .inl f4)), (te, .inl (cI, 24, .inl f5))] sz) := by
  refine Met.ofW (cc := cX10_mark) (maxL := 5) (ret := (some .int)) (by decide) rfl ?_
  intro p e s m args below meth c s₁ B hml hv
  obtain ⟨rfl, hsz, hP, hK, hD0, hN⟩ := hv
  have hx := B.exec
  have hb := B.bytes
  have hr := B.returns
  have hts := atoms_spec (ws := wsX10_mark) B.pre
  have hown : s.vm.findClass RX10 = some m.cls := findClass_of_methodNamed B.named
  have hlocks := B.notSynchronized
  subst hsz
  have hD := hD0.self (sz := s.heap.size)
  generalize hAe : va_A [(h0, .inr (9, [.ref tp, .int 0, .ref tok, .ref sp, .ref rdr, .int 0, .int (-1), .ref scn, .ref fct, .ref rnr, .ref trl, .ref mnd, .ref rrw])), (fct, .inr (1, [.ref scn, .ref st, .ref se, .ref mk, .ref us, .ref te, .ref g, .ref gc, .int 1, .int 0, .int 0, .int 0, .long 0, .long 0])), (scn, .inr (6, [.ref g, .int (-1), .ref td])), (g, .inr (3, [.ref gc, .ref ga1, .ref ga2, .ref ga3, .ref ga4, .ref ga5, .ref ga6, .ref ga7, .ref ga8, .int 0, .int 0, .int 0, .int 0, .int (-1)])), (gc, .inr (0, [.ref gcc, .int 0])), (st, .inl (cL, 304, .inr (.inl f1))), (se, .inl (cI, 304, .inl f2)), (mk, .inl (cI, 42, .inl f3)), (us, .inl (cI, 40, .inl f4)), (te, .inl (cI, 24, .inl f5))] s.heap.size = A at hD ⊢
  have hA : ∀ q : Nat, s.heap.size ≤ q → A q := fun q h => by rw [← hAe]; exact Or.inr h
  have hl := lv_entry ([.ref h0, .int 2, .int r, .int 0]) (n := 5) (Nat.le_of_ble_eq_true rfl)
  rw [lg_entry_eq]
  generalize (lg_sl ([.ref h0, .int 2, .int r, .int 0]) ++ List.replicate (5 - (lg_sl ([.ref h0, .int 2, .int r, .int 0])).length) Slot.unset).toArray = ls at hl ⊢
  have hl : lv_has ls 5 [(0, .ref h0), (1, .int 2), (2, .int r), (3, .int 0)] := hl
  refine k_H (A := A) hP (fun H hP hS => ?_)
  have hP : va_P (dC, dI) vwCl [(h0, .inr (9, [.ref tp, .int 0, .ref tok, .ref sp, .ref rdr, .int 0, .int (-1), .ref scn, .ref fct, .ref rnr, .ref trl, .ref mnd, .ref rrw])), (fct, .inr (1, [.ref scn, .ref st, .ref se, .ref mk, .ref us, .ref te, .ref g, .ref gc, .int 1, .int 0, .int 0, .int 0, .long 0, .long 0])), (scn, .inr (6, [.ref g, .int (-1), .ref td])), (g, .inr (3, [.ref gc, .ref ga1, .ref ga2, .ref ga3, .ref ga4, .ref ga5, .ref ga6, .ref ga7, .ref ga8, .int 0, .int 0, .int 0, .int 0, .int (-1)])), (gc, .inr (0, [.ref gcc, .int 0])), (st, .inl (cL, 304, .inr (.inl f1))), (se, .inl (cI, 304, .inl f2)), (mk, .inl (cI, 42, .inl f3)), (us, .inl (cI, 40, .inl f4)), (te, .inl (cI, 24, .inl f5))] H := hP
  have hD : va_D A [(h0, .inr (9, [.ref tp, .int 0, .ref tok, .ref sp, .ref rdr, .int 0, .int (-1), .ref scn, .ref fct, .ref rnr, .ref trl, .ref mnd, .ref rrw])), (fct, .inr (1, [.ref scn, .ref st, .ref se, .ref mk, .ref us, .ref te, .ref g, .ref gc, .int 1, .int 0, .int 0, .int 0, .long 0, .long 0])), (scn, .inr (6, [.ref g, .int (-1), .ref td])), (g, .inr (3, [.ref gc, .ref ga1, .ref ga2, .ref ga3, .ref ga4, .ref ga5, .ref ga6, .ref ga7, .ref ga8, .int 0, .int 0, .int 0, .int 0, .int (-1)])), (gc, .inr (0, [.ref gcc, .int 0])), (st, .inl (cL, 304, .inr (.inl f1))), (se, .inl (cI, 304, .inl f2)), (mk, .inl (cI, 42, .inl f3)), (us, .inl (cI, 40, .inl f4)), (te, .inl (cI, 24, .inl f5))] := hD
  refine lv_aload_n hx hb dX10_mark_0 rfl (lv_at hl 0 rfl) ?_
  refine lv_iload_n hx hb dX10_mark_1 rfl (lv_at hl 1 rfl) ?_
  refine lv_iload_n hx hb dX10_mark_2 rfl (lv_at hl 2 rfl) ?_
  refine lv_iload_n hx hb dX10_mark_3 rfl (lv_at hl 3 rfl) ?_
  have hPc := hP.sub (ws' := [(h0, .inr (9, [.ref tp, .int 0, .ref tok, .ref sp, .ref rdr, .int 0, .int (-1), .ref scn, .ref fct, .ref rnr, .ref trl, .ref mnd, .ref rrw]))]) [0] rfl
  have hDc := hD.sub (ws' := [(h0, .inr (9, [.ref tp, .int 0, .ref tok, .ref sp, .ref rdr, .int 0, .int (-1), .ref scn, .ref fct, .ref rnr, .ref trl, .ref mnd, .ref rrw]))]) [0] (by decide) rfl
  have hFc := va_free (wc := [(h0, .inr (9, [.ref tp, .int 0, .ref tok, .ref sp, .ref rdr, .int 0, .int (-1), .ref scn, .ref fct, .ref rnr, .ref trl, .ref mnd, .ref rrw]))]) hD hS hA [0] rfl
  refine va_calli (va_runV (As := [.int 2, .int r, .int 0]) (rest := []) ⟨hx, hb, hml, hown, hts⟩ (c_mi0 l dC dI cI cB cL cZ (h0) (tp) (tok) (sp) (rdr) (scn) (fct) (rnr) (trl) (mnd) (rrw) (r) H.size) (cwV 3 hts gX10_mark_X10_markIndex rfl rfl rfl (by decide +kernel) ⟨Nat.le_of_ble_eq_true rfl, Nat.le_of_ble_eq_true rfl⟩) ⟨cP_fb, va_recv hK hPc (ci := 9) (q0 := 0) rfl rfl, fun U hU hW => cP_pre hPc hK hDc hN U hU hW⟩ rfl rfl hl.1 rfl (lv_room (Nat.le_of_ble_eq_true rfl)) dX10_mark_4 ⟨Nat.le_of_ble_eq_true rfl, Nat.le_of_ble_eq_true rfl⟩) hS (fun q _ h => hFc q h) hFc (fun r_266 u t H1 locs ht hvm hw hB hz1 hk1 hS => ?_)
  obtain ⟨hP1, hD1⟩ := hB
  rw [ht] at hP1
  obtain ⟨hP, hD⟩ := va_join (wr := [(fct, .inr (1, [.ref scn, .ref st, .ref se, .ref mk, .ref us, .ref te, .ref g, .ref gc, .int 1, .int 0, .int 0, .int 0, .long 0, .long 0])), (scn, .inr (6, [.ref g, .int (-1), .ref td])), (g, .inr (3, [.ref gc, .ref ga1, .ref ga2, .ref ga3, .ref ga4, .ref ga5, .ref ga6, .ref ga7, .ref ga8, .int 0, .int 0, .int 0, .int 0, .int (-1)])), (gc, .inr (0, [.ref gcc, .int 0])), (st, .inl (cL, 304, .inr (.inl f1))), (se, .inl (cI, 304, .inl f2)), (mk, .inl (cI, 42, .inl f3)), (us, .inl (cI, 40, .inl f4)), (te, .inl (cI, 24, .inl f5))]) (w1 := [(h0, .inr (9, [.ref tp, .int 0, .ref tok, .ref sp, .ref rdr, .int 0, .int (-1), .ref scn, .ref fct, .ref rnr, .ref trl, .ref mnd, .ref rrw]))]) hP hD [0] [1, 2, 3, 4, 5, 6, 7, 8, 9] rfl rfl (by decide) (by decide) hk1 hFc hP1 hD1
  generalize H1 = H at hP hS ⊢
  have hP : va_P (dC, dI) vwCl [(fct, .inr (1, [.ref scn, .ref st, .ref se, .ref mk, .ref us, .ref te, .ref g, .ref gc, .int 1, .int 0, .int 0, .int 0, .long 0, .long 0])), (scn, .inr (6, [.ref g, .int (-1), .ref td])), (g, .inr (3, [.ref gc, .ref ga1, .ref ga2, .ref ga3, .ref ga4, .ref ga5, .ref ga6, .ref ga7, .ref ga8, .int 0, .int 0, .int 0, .int 0, .int (-1)])), (gc, .inr (0, [.ref gcc, .int 0])), (st, .inl (cL, 304, .inr (.inl f1))), (se, .inl (cI, 304, .inl f2)), (mk, .inl (cI, 42, .inl f3)), (us, .inl (cI, 40, .inl f4)), (te, .inl (cI, 24, .inl f5)), (h0, .inr (9, [.ref tp, .int 0, .ref tok, .ref sp, .ref rdr, .int 0, .int (-1), .ref scn, .ref fct, .ref rnr, .ref trl, .ref mnd, .ref rrw]))] H := hP
  have hD : va_D A [(fct, .inr (1, [.ref scn, .ref st, .ref se, .ref mk, .ref us, .ref te, .ref g, .ref gc, .int 1, .int 0, .int 0, .int 0, .long 0, .long 0])), (scn, .inr (6, [.ref g, .int (-1), .ref td])), (g, .inr (3, [.ref gc, .ref ga1, .ref ga2, .ref ga3, .ref ga4, .ref ga5, .ref ga6, .ref ga7, .ref ga8, .int 0, .int 0, .int 0, .int 0, .int (-1)])), (gc, .inr (0, [.ref gcc, .int 0])), (st, .inl (cL, 304, .inr (.inl f1))), (se, .inl (cI, 304, .inl f2)), (mk, .inl (cI, 42, .inl f3)), (us, .inl (cI, 40, .inl f4)), (te, .inl (cI, 24, .inl f5)), (h0, .inr (9, [.ref tp, .int 0, .ref tok, .ref sp, .ref rdr, .int 0, .int (-1), .ref scn, .ref fct, .ref rnr, .ref trl, .ref mnd, .ref rrw]))] := hD
  obtain rfl : r_266 = 40 := hw
  refine lv_istore (lv' := [(4, .int 40), (0, .ref h0), (1, .int 2), (2, .int r), (3, .int 0)]) hx hb dX10_mark_7 hl (by decide) rfl (fun ls hl => ?_)
  refine lv_iload hx hb dX10_mark_9 (lv_at hl 0 rfl) ?_
  refine lv_iconst (v := (-1)) hx hb dX10_mark_11 (by decide) ?_
  refine lv_icmp_ne (tgt := 17) hx hb dX10_mark_12 (by decide) (fun _ => ?_) (fun c9 => absurd (by decide) c9)
  refine lv_aload_n hx hb dX10_mark_17 rfl (lv_at hl 1 rfl) ?_
  refine va_get (D := (dC, dI)) (ci := 9) (v := .ref fct) (C := RX10) (T := TX10) (N := 13) hx hb hts iwwsX10_mark_10 hown hK hP 9 rfl rfl 8 (by decide) (hts (.fieldLink RX10 54 "NothingJudge" "facts" "LNothingJudge$Facts;") fwwsX10_mark_54) (fun _ h9 => h9) rfl dX10_mark_18 ?_
  refine lv_lconst (v := 0) hx hb dX10_mark_21 (by decide) ?_
  have hPc := hP.sub (ws' := [(fct, .inr (1, [.ref scn, .ref st, .ref se, .ref mk, .ref us, .ref te, .ref g, .ref gc, .int 1, .int 0, .int 0, .int 0, .long 0, .long 0])), (scn, .inr (6, [.ref g, .int (-1), .ref td])), (g, .inr (3, [.ref gc, .ref ga1, .ref ga2, .ref ga3, .ref ga4, .ref ga5, .ref ga6, .ref ga7, .ref ga8, .int 0, .int 0, .int 0, .int 0, .int (-1)])), (gc, .inr (0, [.ref gcc, .int 0])), (st, .inl (cL, 304, .inr (.inl f1))), (se, .inl (cI, 304, .inl f2)), (mk, .inl (cI, 42, .inl f3)), (us, .inl (cI, 40, .inl f4)), (te, .inl (cI, 24, .inl f5))]) [0, 1, 2, 3, 4, 5, 6, 7, 8] rfl
  have hDc := hD.sub (ws' := [(fct, .inr (1, [.ref scn, .ref st, .ref se, .ref mk, .ref us, .ref te, .ref g, .ref gc, .int 1, .int 0, .int 0, .int 0, .long 0, .long 0])), (scn, .inr (6, [.ref g, .int (-1), .ref td])), (g, .inr (3, [.ref gc, .ref ga1, .ref ga2, .ref ga3, .ref ga4, .ref ga5, .ref ga6, .ref ga7, .ref ga8, .int 0, .int 0, .int 0, .int 0, .int (-1)])), (gc, .inr (0, [.ref gcc, .int 0])), (st, .inl (cL, 304, .inr (.inl f1))), (se, .inl (cI, 304, .inl f2)), (mk, .inl (cI, 42, .inl f3)), (us, .inl (cI, 40, .inl f4)), (te, .inl (cI, 24, .inl f5))]) [0, 1, 2, 3, 4, 5, 6, 7, 8] (by decide) rfl
  have hFc := va_free (wc := [(fct, .inr (1, [.ref scn, .ref st, .ref se, .ref mk, .ref us, .ref te, .ref g, .ref gc, .int 1, .int 0, .int 0, .int 0, .long 0, .long 0])), (scn, .inr (6, [.ref g, .int (-1), .ref td])), (g, .inr (3, [.ref gc, .ref ga1, .ref ga2, .ref ga3, .ref ga4, .ref ga5, .ref ga6, .ref ga7, .ref ga8, .int 0, .int 0, .int 0, .int 0, .int (-1)])), (gc, .inr (0, [.ref gcc, .int 0])), (st, .inl (cL, 304, .inr (.inl f1))), (se, .inl (cI, 304, .inl f2)), (mk, .inl (cI, 42, .inl f3)), (us, .inl (cI, 40, .inl f4)), (te, .inl (cI, 24, .inl f5))]) hD hS hA [0, 1, 2, 3, 4, 5, 6, 7, 8] rfl
  refine va_callv (va_runV (As := [.long 0]) (rest := []) ⟨hx, hb, hml, hown, hts⟩ (c_settle l dC dI cI cB cL cZ (fct) (scn) (g) (td) (gc) (st) (se) (mk) (us) (te) (ga1) (ga2) (ga3) (ga4) (ga5) (ga6) (ga7) (ga8) (gcc) (f1) (f2) (f3) (f4) (f5) H.size) (cwV 1 hts gX10_mark_X1_settle rfl rfl rfl (by decide +kernel) ⟨Nat.le_of_ble_eq_true rfl, Nat.le_of_ble_eq_true rfl⟩) ⟨cP_fb, va_recv hK hPc (ci := 1) (q0 := 0) rfl rfl, fun U hU hW => cP_pre hPc hK hDc hN U hU hW⟩ rfl rfl hl.1 rfl (lv_room (Nat.le_of_ble_eq_true rfl)) dX10_mark_22 ⟨Nat.le_of_ble_eq_true rfl, Nat.le_of_ble_eq_true rfl⟩) hS (fun q _ h => hFc q h) hFc (fun u t H1 locs ht hvm hw hB hz1 hk1 hS => ?_)
  obtain ⟨f_267, hf_268, hP1, hD1⟩ := hB
  rw [ht] at hP1
  obtain ⟨hP, hD⟩ := va_join (wr := [(h0, .inr (9, [.ref tp, .int 0, .ref tok, .ref sp, .ref rdr, .int 0, .int (-1), .ref scn, .ref fct, .ref rnr, .ref trl, .ref mnd, .ref rrw]))]) (w1 := [(fct, .inr (1, [.ref scn, .ref st, .ref se, .ref mk, .ref us, .ref te, .ref g, .ref gc, .int 0, .int 0, .int 0, .int 1, .long 0, .long 0])), (scn, .inr (6, [.ref g, .int (-1), .ref td])), (g, .inr (3, [.ref gc, .ref ga1, .ref ga2, .ref ga3, .ref ga4, .ref ga5, .ref ga6, .ref ga7, .ref ga8, .int 0, .int 0, .int 0, .int 0, .int (-1)])), (mk, .inl (cI, N, .inl f_267))]) hP hD [0, 1, 2, 3, 4, 5, 6, 7, 8] [9] rfl rfl (by decide) (by decide) hk1 hFc hP1 hD1
  generalize H1 = H at hP hS ⊢
  have hP : va_P (dC, dI) vwCl [(h0, .inr (9, [.ref tp, .int 0, .ref tok, .ref sp, .ref rdr, .int 0, .int (-1), .ref scn, .ref fct, .ref rnr, .ref trl, .ref mnd, .ref rrw])), (fct, .inr (1, [.ref scn, .ref st, .ref se, .ref mk, .ref us, .ref te, .ref g, .ref gc, .int 0, .int 0, .int 0, .int 1, .long 0, .long 0])), (scn, .inr (6, [.ref g, .int (-1), .ref td])), (g, .inr (3, [.ref gc, .ref ga1, .ref ga2, .ref ga3, .ref ga4, .ref ga5, .ref ga6, .ref ga7, .ref ga8, .int 0, .int 0, .int 0, .int 0, .int (-1)])), (mk, .inl (cI, N, .inl f_267))] H := hP
  have hD : va_D A [(h0, .inr (9, [.ref tp, .int 0, .ref tok, .ref sp, .ref rdr, .int 0, .int (-1), .ref scn, .ref fct, .ref rnr, .ref trl, .ref mnd, .ref rrw])), (fct, .inr (1, [.ref scn, .ref st, .ref se, .ref mk, .ref us, .ref te, .ref g, .ref gc, .int 0, .int 0, .int 0, .int 1, .long 0, .long 0])), (scn, .inr (6, [.ref g, .int (-1), .ref td])), (g, .inr (3, [.ref gc, .ref ga1, .ref ga2, .ref ga3, .ref ga4, .ref ga5, .ref ga6, .ref ga7, .ref ga8, .int 0, .int 0, .int 0, .int 0, .int (-1)])), (mk, .inl (cI, N, .inl f_267))] := hD
  refine lv_aload_n hx hb dX10_mark_25 rfl (lv_at hl 1 rfl) ?_
  refine va_get (D := (dC, dI)) (ci := 9) (v := .ref fct) (C := RX10) (T := TX10) (N := 13) hx hb hts iwwsX10_mark_10 hown hK hP 0 rfl rfl 8 (by decide) (hts (.fieldLink RX10 54 "NothingJudge" "facts" "LNothingJudge$Facts;") fwwsX10_mark_54) (fun _ h9 => h9) rfl dX10_mark_26 ?_
  refine va_get (D := (dC, dI)) (ci := 1) (v := .ref mk) (C := RX1) (T := TX1) (N := 14) hx hb hts iwwsX10_mark_1 hown hK hP 1 rfl rfl 3 (by decide) (hts (.fieldLink RX10 150 "NothingJudge$Facts" "marks" "[I") fwwsX10_mark_150) (fun _ h9 => h9) rfl dX10_mark_29 ?_
  refine lv_iload hx hb dX10_mark_32 (lv_at hl 0 rfl) ?_
  have hPc := hP.sub (ws' := [(mk, .inl (cI, N, .inl f_267))]) [4] rfl
  have hDc := hD.sub (ws' := [(mk, .inl (cI, N, .inl f_267))]) [4] (by decide) rfl
  have hFc := va_free (wc := [(mk, .inl (cI, N, .inl f_267))]) hD hS hA [4] rfl
  refine va_calli (va_runS (As := [.ref mk, .int 40]) (rest := []) ⟨hx, hb, hml, hown, hts⟩ (c_at_40 l dC dI cI cB cL cZ (mk) (f_267) H.size (hf_268)) (va_cwS 2 hts gX10_mark_X5_at rfl rfl rfl (by decide +kernel) ⟨Nat.le_of_ble_eq_true rfl, Nat.le_of_ble_eq_true rfl⟩) ⟨cP_fb, fun U hU hW => cP_pre hPc hK hDc hN U hU hW⟩ rfl rfl hl.1 rfl (lv_room (Nat.le_of_ble_eq_true rfl)) dX10_mark_34 ⟨Nat.le_of_ble_eq_true rfl, Nat.le_of_ble_eq_true rfl⟩) hS (fun q _ h => hFc q h) hFc (fun r_270 u t H1 locs ht hvm hw hB hz1 hk1 hS => ?_)
  obtain ⟨hP1, hD1⟩ := hB
  rw [ht] at hP1
  obtain ⟨hP, hD⟩ := va_join (wr := [(h0, .inr (9, [.ref tp, .int 0, .ref tok, .ref sp, .ref rdr, .int 0, .int (-1), .ref scn, .ref fct, .ref rnr, .ref trl, .ref mnd, .ref rrw])), (fct, .inr (1, [.ref scn, .ref st, .ref se, .ref mk, .ref us, .ref te, .ref g, .ref gc, .int 0, .int 0, .int 0, .int 1, .long 0, .long 0])), (scn, .inr (6, [.ref g, .int (-1), .ref td])), (g, .inr (3, [.ref gc, .ref ga1, .ref ga2, .ref ga3, .ref ga4, .ref ga5, .ref ga6, .ref ga7, .ref ga8, .int 0, .int 0, .int 0, .int 0, .int (-1)]))]) (w1 := []) hP hD [4] [0, 1, 2, 3] rfl rfl (by decide) (by decide) hk1 hFc hP1 hD1
  generalize H1 = H at hP hS ⊢
  have hP : va_P (dC, dI) vwCl [(h0, .inr (9, [.ref tp, .int 0, .ref tok, .ref sp, .ref rdr, .int 0, .int (-1), .ref scn, .ref fct, .ref rnr, .ref trl, .ref mnd, .ref rrw])), (fct, .inr (1, [.ref scn, .ref st, .ref se, .ref mk, .ref us, .ref te, .ref g, .ref gc, .int 0, .int 0, .int 0, .int 1, .long 0, .long 0])), (scn, .inr (6, [.ref g, .int (-1), .ref td])), (g, .inr (3, [.ref gc, .ref ga1, .ref ga2, .ref ga3, .ref ga4, .ref ga5, .ref ga6, .ref ga7, .ref ga8, .int 0, .int 0, .int 0, .int 0, .int (-1)]))] H := hP
  have hD : va_D A [(h0, .inr (9, [.ref tp, .int 0, .ref tok, .ref sp, .ref rdr, .int 0, .int (-1), .ref scn, .ref fct, .ref rnr, .ref trl, .ref mnd, .ref rrw])), (fct, .inr (1, [.ref scn, .ref st, .ref se, .ref mk, .ref us, .ref te, .ref g, .ref gc, .int 0, .int 0, .int 0, .int 1, .long 0, .long 0])), (scn, .inr (6, [.ref g, .int (-1), .ref td])), (g, .inr (3, [.ref gc, .ref ga1, .ref ga2, .ref ga3, .ref ga4, .ref ga5, .ref ga6, .ref ga7, .ref ga8, .int 0, .int 0, .int 0, .int 0, .int (-1)]))] := hD
  obtain rfl : r_270 = 0 := hw
  have hP9 := hP.sub (ws' := []) [] rfl
  have hD9 := hD.sub (ws' := []) [] (by decide) rfl
  exact W.iret (v := 0) hx hb hr (fun t ht hW => ⟨⟨0, (), rfl, rfl, by rw [ht]; exact hP9, hD9⟩, hS.F ht⟩) hS.2.2 dX10_mark_37

set_option maxHeartbeats 4000000 in
set_option maxRecDepth 100000 in
theorem c_mark1 (l : Launch) (dC : Nat → ClassId) (dI : Nat → Nat → Nat) (cI cB cL cZ : ClassId) (h0 : Nat) (tp : Nat) (tok : Nat) (sp : Nat) (rdr : Nat) (scn : Nat) (fct : Nat) (rnr : Nat) (trl : Nat) (mnd : Nat) (rrw : Nat) (g : Nat) (td : Nat) (gc : Nat) (ga1 : Nat) (ga2 : Nat) (ga3 : Nat) (ga4 : Nat) (ga5 : Nat) (ga6 : Nat) (ga7 : Nat) (ga8 : Nat) (gcc : Nat) (st : Nat) (se : Nat) (mk : Nat) (us : Nat) (te : Nat) (r : Int32) (f1 : Nat → Int64) (f2 : Nat → Int32) (f3 : Nat → Int32) (f4 : Nat → Int32) (f5 : Nat → Int32) (sz : Nat)  : Met l yX10_mark wsX10_mark ({ frames := 3, cells := 0, slots := 0, locals := 68 }) (cP (dC, dI) (kTy cI cB cL cZ) [.ref h0, .int 2, .int r, .int 1] [(h0, .inr (9, [.ref tp, .int 0, .ref tok, .ref sp, .ref rdr, .int 0, .int (-1), .ref scn, .ref fct, .ref rnr, .ref trl, .ref mnd, .ref rrw])), (fct, .inr (1, [.ref scn, .ref st, .ref se, .ref mk, .ref us, .ref te, .ref g, .ref gc, .int 1, .int 0, .int 0, .int 0, .long 0, .long 0])), (scn, .inr (6, [.ref g, .int (-1), .ref td])), (g, .inr (3, [.ref gc, .ref ga1, .ref ga2, .ref ga3, .ref ga4, .ref ga5, .ref ga6, .ref ga7, .ref ga8, .int 0, .int 0, .int 0, .int 0, .int (-1)])), (gc, .inr (0, [.ref gcc, .int 0])), (st, .inl (cL, 304, .inr (.inl f1))), (se, .inl (cI, 304, .inl f2)), (mk, .inl (cI, 42, .inl f3)), (us, .inl (cI, 40, .inl f4)), (te, .inl (cI, 24, .inl f5))] sz) (va_Qi (fun (r : Int32) (_ : Unit) => r = 0) (fun (_ : Unit) (t : State) => va_P (dC, dI) vwCl [] t.heap ∧ va_D (va_A [(h0, .inr (9, [.ref tp, .int 0, .ref tok, .ref sp, .ref rdr, .int 0, .int (-1), .ref scn, .ref fct, .ref rnr, .ref trl, .ref mnd, .ref rrw])), (fct, .inr (1, [.ref scn, .ref st, .ref se, .ref mk, .ref us, .ref te, .ref g, .ref gc, .int 1, .int 0, .int 0, .int 0, .long 0, .long 0])), (scn, .inr (6, [.ref g, .int (-1), .ref td])), (g, .inr (3, [.ref gc, .ref ga1, .ref ga2, .ref ga3, .ref ga4, .ref ga5, .ref ga6, .ref ga7, .ref ga8, .int 0, .int 0, .int 0, .int 0, .int (-1)])), (gc, .inr (0, [.ref gcc, .int 0])), (st, .inl (cL, 304, .inr (.inl f1))), (se, .inl (cI, 304, .inl f2)), (mk, .inl (cI, 42, .inl f3)), (us, .inl (cI, 40, .inl f4)), (te, .inl (cI, 24, .inl f5))] sz) []) (va_A [(h0, .inr (9, [.ref tp, .int 0, .ref tok, .ref sp, .ref rdr, .int 0, .int (-1), .ref scn, .ref fct, .ref rnr, .ref trl, .ref mnd, .ref rrw])), (fct, .inr (1, [.ref scn, .ref st, .ref se, .ref mk, .ref us, .ref te, .ref g, .ref gc, .int 1, .int 0, .int 0, .int 0, .long 0, .long 0])), (scn, .inr (6, [.ref g, .int (-1), .ref td])), (g, .inr (3, [.ref gc, .ref ga1, .ref ga2, .ref ga3, .ref ga4, .ref ga5, .ref ga6, .ref ga7, .ref ga8, .int 0, .int 0, .int 0, .int 0, .int (-1)])), (gc, .inr (0, [.ref gcc, .int 0])), (st, .inl (cL, 304, .inr (.inl f1))), (se, .inl (cI, 304, .inl f2)), (mk, .inl (cI, 42, .inl f3)), (us, .inl (cI, 40, .inl f4)), (te, .inl (cI, 24, .inl f5))] sz)) 0 0 (va_A [(h0, .inr (9, [.ref tp, .int 0, .ref tok, .ref sp, .ref rdr, .int 0, .int (-1), .ref scn, .ref fct, .ref rnr, .ref trl, .ref mnd, .ref rrw])), (fct, .inr (1, [.ref scn, .ref st, .ref se, .ref mk, .ref us, .ref te, .ref g, .ref gc, .int 1, .int 0, .int 0, .int 0, .long 0, .long 0])), (scn, .inr (6, [.ref g, .int (-1), .ref td])), (g, .inr (3, [.ref gc, .ref ga1, .ref ga2, .ref ga3, .ref ga4, .ref ga5, .ref ga6, .ref ga7, .ref ga8, .int 0, .int 0, .int 0, .int 0, .int (-1)])), (gc, .inr (0, [.ref gcc, .int 0])), (st, .inl (cL, 304, .inr (.inl f1))), (se, .inl (cI, 304, .inl f2)), (mk, .inl (cI, 42, .inl f3)), (us, .inl (cI, 40, .inl f4)), (te, .inl (cI, 24, .inl f5))] sz) := by
  refine Met.ofW (cc := cX10_mark) (maxL := 5) (ret := (some .int)) (by decide) rfl ?_
  intro p e s m args below meth c s₁ B hml hv
  obtain ⟨rfl, hsz, hP, hK, hD0, hN⟩ := hv
  have hx := B.exec
  have hb := B.bytes
  have hr := B.returns
  have hts := atoms_spec (ws := wsX10_mark) B.pre
  have hown : s.vm.findClass RX10 = some m.cls := findClass_of_methodNamed B.named
  have hlocks := B.notSynchronized
  subst hsz
  have hD := hD0.self (sz := s.heap.size)
  generalize hAe : va_A [(h0, .inr (9, [.ref tp, .int 0, .ref tok, .ref sp, .ref rdr, .int 0, .int (-1), .ref scn, .ref fct, .ref rnr, .ref trl, .ref mnd, .ref rrw])), (fct, .inr (1, [.ref scn, .ref st, .ref se, .ref mk, .ref us, .ref te, .ref g, .ref gc, .int 1, .int 0, .int 0, .int 0, .long 0, .long 0])), (scn, .inr (6, [.ref g, .int (-1), .ref td])), (g, .inr (3, [.ref gc, .ref ga1, .ref ga2, .ref ga3, .ref ga4, .ref ga5, .ref ga6, .ref ga7, .ref ga8, .int 0, .int 0, .int 0, .int 0, .int (-1)])), (gc, .inr (0, [.ref gcc, .int 0])), (st, .inl (cL, 304, .inr (.inl f1))), (se, .inl (cI, 304, .inl f2)), (mk, .inl (cI, 42, .inl f3)), (us, .inl (cI, 40, .inl f4)), (te, .inl (cI, 24, .inl f5))] s.heap.size = A at hD ⊢
  have hA : ∀ q : Nat, s.heap.size ≤ q → A q := fun q h => by rw [← hAe]; exact Or.inr h
  have hl := lv_entry ([.ref h0, .int 2, .int r, .int 1]) (n := 5) (Nat.le_of_ble_eq_true rfl)
  rw [lg_entry_eq]
  generalize (lg_sl ([.ref h0, .int 2, .int r, .int 1]) ++ List.replicate (5 - (lg_sl ([.ref h0, .int 2, .int r, .int 1])).length) Slot.unset).toArray = ls at hl ⊢
  have hl : lv_has ls 5 [(0, .ref h0), (1, .int 2), (2, .int r), (3, .int 1)] := hl
  refine k_H (A := A) hP (fun H hP hS => ?_)
  have hP : va_P (dC, dI) vwCl [(h0, .inr (9, [.ref tp, .int 0, .ref tok, .ref sp, .ref rdr, .int 0, .int (-1), .ref scn, .ref fct, .ref rnr, .ref trl, .ref mnd, .ref rrw])), (fct, .inr (1, [.ref scn, .ref st, .ref se, .ref mk, .ref us, .ref te, .ref g, .ref gc, .int 1, .int 0, .int 0, .int 0, .long 0, .long 0])), (scn, .inr (6, [.ref g, .int (-1), .ref td])), (g, .inr (3, [.ref gc, .ref ga1, .ref ga2, .ref ga3, .ref ga4, .ref ga5, .ref ga6, .ref ga7, .ref ga8, .int 0, .int 0, .int 0, .int 0, .int (-1)])), (gc, .inr (0, [.ref gcc, .int 0])), (st, .inl (cL, 304, .inr (.inl f1))), (se, .inl (cI, 304, .inl f2)), (mk, .inl (cI, 42, .inl f3)), (us, .inl (cI, 40, .inl f4)), (te, .inl (cI, 24, .inl f5))] H := hP
  have hD : va_D A [(h0, .inr (9, [.ref tp, .int 0, .ref tok, .ref sp, .ref rdr, .int 0, .int (-1), .ref scn, .ref fct, .ref rnr, .ref trl, .ref mnd, .ref rrw])), (fct, .inr (1, [.ref scn, .ref st, .ref se, .ref mk, .ref us, .ref te, .ref g, .ref gc, .int 1, .int 0, .int 0, .int 0, .long 0, .long 0])), (scn, .inr (6, [.ref g, .int (-1), .ref td])), (g, .inr (3, [.ref gc, .ref ga1, .ref ga2, .ref ga3, .ref ga4, .ref ga5, .ref ga6, .ref ga7, .ref ga8, .int 0, .int 0, .int 0, .int 0, .int (-1)])), (gc, .inr (0, [.ref gcc, .int 0])), (st, .inl (cL, 304, .inr (.inl f1))), (se, .inl (cI, 304, .inl f2)), (mk, .inl (cI, 42, .inl f3)), (us, .inl (cI, 40, .inl f4)), (te, .inl (cI, 24, .inl f5))] := hD
  refine lv_aload_n hx hb dX10_mark_0 rfl (lv_at hl 0 rfl) ?_
  refine lv_iload_n hx hb dX10_mark_1 rfl (lv_at hl 1 rfl) ?_
  refine lv_iload_n hx hb dX10_mark_2 rfl (lv_at hl 2 rfl) ?_
  refine lv_iload_n hx hb dX10_mark_3 rfl (lv_at hl 3 rfl) ?_
  have hPc := hP.sub (ws' := [(h0, .inr (9, [.ref tp, .int 0, .ref tok, .ref sp, .ref rdr, .int 0, .int (-1), .ref scn, .ref fct, .ref rnr, .ref trl, .ref mnd, .ref rrw]))]) [0] rfl
  have hDc := hD.sub (ws' := [(h0, .inr (9, [.ref tp, .int 0, .ref tok, .ref sp, .ref rdr, .int 0, .int (-1), .ref scn, .ref fct, .ref rnr, .ref trl, .ref mnd, .ref rrw]))]) [0] (by decide) rfl
  have hFc := va_free (wc := [(h0, .inr (9, [.ref tp, .int 0, .ref tok, .ref sp, .ref rdr, .int 0, .int (-1), .ref scn, .ref fct, .ref rnr, .ref trl, .ref mnd, .ref rrw]))]) hD hS hA [0] rfl
  refine va_calli (va_runV (As := [.int 2, .int r, .int 1]) (rest := []) ⟨hx, hb, hml, hown, hts⟩ (c_mi1 l dC dI cI cB cL cZ (h0) (tp) (tok) (sp) (rdr) (scn) (fct) (rnr) (trl) (mnd) (rrw) (r) H.size) (cwV 3 hts gX10_mark_X10_markIndex rfl rfl rfl (by decide +kernel) ⟨Nat.le_of_ble_eq_true rfl, Nat.le_of_ble_eq_true rfl⟩) ⟨cP_fb, va_recv hK hPc (ci := 9) (q0 := 0) rfl rfl, fun U hU hW => cP_pre hPc hK hDc hN U hU hW⟩ rfl rfl hl.1 rfl (lv_room (Nat.le_of_ble_eq_true rfl)) dX10_mark_4 ⟨Nat.le_of_ble_eq_true rfl, Nat.le_of_ble_eq_true rfl⟩) hS (fun q _ h => hFc q h) hFc (fun r_271 u t H1 locs ht hvm hw hB hz1 hk1 hS => ?_)
  obtain ⟨hP1, hD1⟩ := hB
  rw [ht] at hP1
  obtain ⟨hP, hD⟩ := va_join (wr := [(fct, .inr (1, [.ref scn, .ref st, .ref se, .ref mk, .ref us, .ref te, .ref g, .ref gc, .int 1, .int 0, .int 0, .int 0, .long 0, .long 0])), (scn, .inr (6, [.ref g, .int (-1), .ref td])), (g, .inr (3, [.ref gc, .ref ga1, .ref ga2, .ref ga3, .ref ga4, .ref ga5, .ref ga6, .ref ga7, .ref ga8, .int 0, .int 0, .int 0, .int 0, .int (-1)])), (gc, .inr (0, [.ref gcc, .int 0])), (st, .inl (cL, 304, .inr (.inl f1))), (se, .inl (cI, 304, .inl f2)), (mk, .inl (cI, 42, .inl f3)), (us, .inl (cI, 40, .inl f4)), (te, .inl (cI, 24, .inl f5))]) (w1 := [(h0, .inr (9, [.ref tp, .int 0, .ref tok, .ref sp, .ref rdr, .int 0, .int (-1), .ref scn, .ref fct, .ref rnr, .ref trl, .ref mnd, .ref rrw]))]) hP hD [0] [1, 2, 3, 4, 5, 6, 7, 8, 9] rfl rfl (by decide) (by decide) hk1 hFc hP1 hD1
  generalize H1 = H at hP hS ⊢
  have hP : va_P (dC, dI) vwCl [(fct, .inr (1, [.ref scn, .ref st, .ref se, .ref mk, .ref us, .ref te, .ref g, .ref gc, .int 1, .int 0, .int 0, .int 0, .long 0, .long 0])), (scn, .inr (6, [.ref g, .int (-1), .ref td])), (g, .inr (3, [.ref gc, .ref ga1, .ref ga2, .ref ga3, .ref ga4, .ref ga5, .ref ga6, .ref ga7, .ref ga8, .int 0, .int 0, .int 0, .int 0, .int (-1)])), (gc, .inr (0, [.ref gcc, .int 0])), (st, .inl (cL, 304, .inr (.inl f1))), (se, .inl (cI, 304, .inl f2)), (mk, .inl (cI, 42, .inl f3)), (us, .inl (cI, 40, .inl f4)), (te, .inl (cI, 24, .inl f5)), (h0, .inr (9, [.ref tp, .int 0, .ref tok, .ref sp, .ref rdr, .int 0, .int (-1), .ref scn, .ref fct, .ref rnr, .ref trl, .ref mnd, .ref rrw]))] H := hP
  have hD : va_D A [(fct, .inr (1, [.ref scn, .ref st, .ref se, .ref mk, .ref us, .ref te, .ref g, .ref gc, .int 1, .int 0, .int 0, .int 0, .long 0, .long 0])), (scn, .inr (6, [.ref g, .int (-1), .ref td])), (g, .inr (3, [.ref gc, .ref ga1, .ref ga2, .ref ga3, .ref ga4, .ref ga5, .ref ga6, .ref ga7, .ref ga8, .int 0, .int 0, .int 0, .int 0, .int (-1)])), (gc, .inr (0, [.ref gcc, .int 0])), (st, .inl (cL, 304, .inr (.inl f1))), (se, .inl (cI, 304, .inl f2)), (mk, .inl (cI, 42, .inl f3)), (us, .inl (cI, 40, .inl f4)), (te, .inl (cI, 24, .inl f5)), (h0, .inr (9, [.ref tp, .int 0, .ref tok, .ref sp, .ref rdr, .int 0, .int (-1), .ref scn, .ref fct, .ref rnr, .ref trl, .ref mnd, .ref rrw]))] := hD
  obtain rfl : r_271 = 41 := hw
  refine lv_istore (lv' := [(4, .int 41), (0, .ref h0), (1, .int 2), (2, .int r), (3, .int 1)]) hx hb dX10_mark_7 hl (by decide) rfl (fun ls hl => ?_)
  refine lv_iload hx hb dX10_mark_9 (lv_at hl 0 rfl) ?_
  refine lv_iconst (v := (-1)) hx hb dX10_mark_11 (by decide) ?_
  refine lv_icmp_ne (tgt := 17) hx hb dX10_mark_12 (by decide) (fun _ => ?_) (fun c9 => absurd (by decide) c9)
  refine lv_aload_n hx hb dX10_mark_17 rfl (lv_at hl 1 rfl) ?_
  refine va_get (D := (dC, dI)) (ci := 9) (v := .ref fct) (C := RX10) (T := TX10) (N := 13) hx hb hts iwwsX10_mark_10 hown hK hP 9 rfl rfl 8 (by decide) (hts (.fieldLink RX10 54 "NothingJudge" "facts" "LNothingJudge$Facts;") fwwsX10_mark_54) (fun _ h9 => h9) rfl dX10_mark_18 ?_
  refine lv_lconst (v := 0) hx hb dX10_mark_21 (by decide) ?_
  have hPc := hP.sub (ws' := [(fct, .inr (1, [.ref scn, .ref st, .ref se, .ref mk, .ref us, .ref te, .ref g, .ref gc, .int 1, .int 0, .int 0, .int 0, .long 0, .long 0])), (scn, .inr (6, [.ref g, .int (-1), .ref td])), (g, .inr (3, [.ref gc, .ref ga1, .ref ga2, .ref ga3, .ref ga4, .ref ga5, .ref ga6, .ref ga7, .ref ga8, .int 0, .int 0, .int 0, .int 0, .int (-1)])), (gc, .inr (0, [.ref gcc, .int 0])), (st, .inl (cL, 304, .inr (.inl f1))), (se, .inl (cI, 304, .inl f2)), (mk, .inl (cI, 42, .inl f3)), (us, .inl (cI, 40, .inl f4)), (te, .inl (cI, 24, .inl f5))]) [0, 1, 2, 3, 4, 5, 6, 7, 8] rfl
  have hDc := hD.sub (ws' := [(fct, .inr (1, [.ref scn, .ref st, .ref se, .ref mk, .ref us, .ref te, .ref g, .ref gc, .int 1, .int 0, .int 0, .int 0, .long 0, .long 0])), (scn, .inr (6, [.ref g, .int (-1), .ref td])), (g, .inr (3, [.ref gc, .ref ga1, .ref ga2, .ref ga3, .ref ga4, .ref ga5, .ref ga6, .ref ga7, .ref ga8, .int 0, .int 0, .int 0, .int 0, .int (-1)])), (gc, .inr (0, [.ref gcc, .int 0])), (st, .inl (cL, 304, .inr (.inl f1))), (se, .inl (cI, 304, .inl f2)), (mk, .inl (cI, 42, .inl f3)), (us, .inl (cI, 40, .inl f4)), (te, .inl (cI, 24, .inl f5))]) [0, 1, 2, 3, 4, 5, 6, 7, 8] (by decide) rfl
  have hFc := va_free (wc := [(fct, .inr (1, [.ref scn, .ref st, .ref se, .ref mk, .ref us, .ref te, .ref g, .ref gc, .int 1, .int 0, .int 0, .int 0, .long 0, .long 0])), (scn, .inr (6, [.ref g, .int (-1), .ref td])), (g, .inr (3, [.ref gc, .ref ga1, .ref ga2, .ref ga3, .ref ga4, .ref ga5, .ref ga6, .ref ga7, .ref ga8, .int 0, .int 0, .int 0, .int 0, .int (-1)])), (gc, .inr (0, [.ref gcc, .int 0])), (st, .inl (cL, 304, .inr (.inl f1))), (se, .inl (cI, 304, .inl f2)), (mk, .inl (cI, 42, .inl f3)), (us, .inl (cI, 40, .inl f4)), (te, .inl (cI, 24, .inl f5))]) hD hS hA [0, 1, 2, 3, 4, 5, 6, 7, 8] rfl
  refine va_callv (va_runV (As := [.long 0]) (rest := []) ⟨hx, hb, hml, hown, hts⟩ (c_settle l dC dI cI cB cL cZ (fct) (scn) (g) (td) (gc) (st) (se) (mk) (us) (te) (ga1) (ga2) (ga3) (ga4) (ga5) (ga6) (ga7) (ga8) (gcc) (f1) (f2) (f3) (f4) (f5) H.size) (cwV 1 hts gX10_mark_X1_settle rfl rfl rfl (by decide +kernel) ⟨Nat.le_of_ble_eq_true rfl, Nat.le_of_ble_eq_true rfl⟩) ⟨cP_fb, va_recv hK hPc (ci := 1) (q0 := 0) rfl rfl, fun U hU hW => cP_pre hPc hK hDc hN U hU hW⟩ rfl rfl hl.1 rfl (lv_room (Nat.le_of_ble_eq_true rfl)) dX10_mark_22 ⟨Nat.le_of_ble_eq_true rfl, Nat.le_of_ble_eq_true rfl⟩) hS (fun q _ h => hFc q h) hFc (fun u t H1 locs ht hvm hw hB hz1 hk1 hS => ?_)
  obtain ⟨f_272, hf_273, hP1, hD1⟩ := hB
  rw [ht] at hP1
  obtain ⟨hP, hD⟩ := va_join (wr := [(h0, .inr (9, [.ref tp, .int 0, .ref tok, .ref sp, .ref rdr, .int 0, .int (-1), .ref scn, .ref fct, .ref rnr, .ref trl, .ref mnd, .ref rrw]))]) (w1 := [(fct, .inr (1, [.ref scn, .ref st, .ref se, .ref mk, .ref us, .ref te, .ref g, .ref gc, .int 0, .int 0, .int 0, .int 1, .long 0, .long 0])), (scn, .inr (6, [.ref g, .int (-1), .ref td])), (g, .inr (3, [.ref gc, .ref ga1, .ref ga2, .ref ga3, .ref ga4, .ref ga5, .ref ga6, .ref ga7, .ref ga8, .int 0, .int 0, .int 0, .int 0, .int (-1)])), (mk, .inl (cI, N, .inl f_272))]) hP hD [0, 1, 2, 3, 4, 5, 6, 7, 8] [9] rfl rfl (by decide) (by decide) hk1 hFc hP1 hD1
  generalize H1 = H at hP hS ⊢
  have hP : va_P (dC, dI) vwCl [(h0, .inr (9, [.ref tp, .int 0, .ref tok, .ref sp, .ref rdr, .int 0, .int (-1), .ref scn, .ref fct, .ref rnr, .ref trl, .ref mnd, .ref rrw])), (fct, .inr (1, [.ref scn, .ref st, .ref se, .ref mk, .ref us, .ref te, .ref g, .ref gc, .int 0, .int 0, .int 0, .int 1, .long 0, .long 0])), (scn, .inr (6, [.ref g, .int (-1), .ref td])), (g, .inr (3, [.ref gc, .ref ga1, .ref ga2, .ref ga3, .ref ga4, .ref ga5, .ref ga6, .ref ga7, .ref ga8, .int 0, .int 0, .int 0, .int 0, .int (-1)])), (mk, .inl (cI, N, .inl f_272))] H := hP
  have hD : va_D A [(h0, .inr (9, [.ref tp, .int 0, .ref tok, .ref sp, .ref rdr, .int 0, .int (-1), .ref scn, .ref fct, .ref rnr, .ref trl, .ref mnd, .ref rrw])), (fct, .inr (1, [.ref scn, .ref st, .ref se, .ref mk, .ref us, .ref te, .ref g, .ref gc, .int 0, .int 0, .int 0, .int 1, .long 0, .long 0])), (scn, .inr (6, [.ref g, .int (-1), .ref td])), (g, .inr (3, [.ref gc, .ref ga1, .ref ga2, .ref ga3, .ref ga4, .ref ga5, .ref ga6, .ref ga7, .ref ga8, .int 0, .int 0, .int 0, .int 0, .int (-1)])), (mk, .inl (cI, N, .inl f_272))] := hD
  refine lv_aload_n hx hb dX10_mark_25 rfl (lv_at hl 1 rfl) ?_
  refine va_get (D := (dC, dI)) (ci := 9) (v := .ref fct) (C := RX10) (T := TX10) (N := 13) hx hb hts iwwsX10_mark_10 hown hK hP 0 rfl rfl 8 (by decide) (hts (.fieldLink RX10 54 "NothingJudge" "facts" "LNothingJudge$Facts;") fwwsX10_mark_54) (fun _ h9 => h9) rfl dX10_mark_26 ?_
  refine va_get (D := (dC, dI)) (ci := 1) (v := .ref mk) (C := RX1) (T := TX1) (N := 14) hx hb hts iwwsX10_mark_1 hown hK hP 1 rfl rfl 3 (by decide) (hts (.fieldLink RX10 150 "NothingJudge$Facts" "marks" "[I") fwwsX10_mark_150) (fun _ h9 => h9) rfl dX10_mark_29 ?_
  refine lv_iload hx hb dX10_mark_32 (lv_at hl 0 rfl) ?_
  have hPc := hP.sub (ws' := [(mk, .inl (cI, N, .inl f_272))]) [4] rfl
  have hDc := hD.sub (ws' := [(mk, .inl (cI, N, .inl f_272))]) [4] (by decide) rfl
  have hFc := va_free (wc := [(mk, .inl (cI, N, .inl f_272))]) hD hS hA [4] rfl
  refine va_calli (va_runS (As := [.ref mk, .int 41]) (rest := []) ⟨hx, hb, hml, hown, hts⟩ (c_at_41 l dC dI cI cB cL cZ (mk) (f_272) H.size (hf_273)) (va_cwS 2 hts gX10_mark_X5_at rfl rfl rfl (by decide +kernel) ⟨Nat.le_of_ble_eq_true rfl, Nat.le_of_ble_eq_true rfl⟩) ⟨cP_fb, fun U hU hW => cP_pre hPc hK hDc hN U hU hW⟩ rfl rfl hl.1 rfl (lv_room (Nat.le_of_ble_eq_true rfl)) dX10_mark_34 ⟨Nat.le_of_ble_eq_true rfl, Nat.le_of_ble_eq_true rfl⟩) hS (fun q _ h => hFc q h) hFc (fun r_275 u t H1 locs ht hvm hw hB hz1 hk1 hS => ?_)
  obtain ⟨hP1, hD1⟩ := hB
  rw [ht] at hP1
  obtain ⟨hP, hD⟩ := va_join (wr := [(h0, .inr (9, [.ref tp, .int 0, .ref tok, .ref sp, .ref rdr, .int 0, .int (-1), .ref scn, .ref fct, .ref rnr, .ref trl, .ref mnd, .ref rrw])), (fct, .inr (1, [.ref scn, .ref st, .ref se, .ref mk, .ref us, .ref te, .ref g, .ref gc, .int 0, .int 0, .int 0, .int 1, .long 0, .long 0])), (scn, .inr (6, [.ref g, .int (-1), .ref td])), (g, .inr (3, [.ref gc, .ref ga1, .ref ga2, .ref ga3, .ref ga4, .ref ga5, .ref ga6, .ref ga7, .ref ga8, .int 0, .int 0, .int 0, .int 0, .int (-1)]))]) (w1 := []) hP hD [4] [0, 1, 2, 3] rfl rfl (by decide) (by decide) hk1 hFc hP1 hD1
  generalize H1 = H at hP hS ⊢
  have hP : va_P (dC, dI) vwCl [(h0, .inr (9, [.ref tp, .int 0, .ref tok, .ref sp, .ref rdr, .int 0, .int (-1), .ref scn, .ref fct, .ref rnr, .ref trl, .ref mnd, .ref rrw])), (fct, .inr (1, [.ref scn, .ref st, .ref se, .ref mk, .ref us, .ref te, .ref g, .ref gc, .int 0, .int 0, .int 0, .int 1, .long 0, .long 0])), (scn, .inr (6, [.ref g, .int (-1), .ref td])), (g, .inr (3, [.ref gc, .ref ga1, .ref ga2, .ref ga3, .ref ga4, .ref ga5, .ref ga6, .ref ga7, .ref ga8, .int 0, .int 0, .int 0, .int 0, .int (-1)]))] H := hP
  have hD : va_D A [(h0, .inr (9, [.ref tp, .int 0, .ref tok, .ref sp, .ref rdr, .int 0, .int (-1), .ref scn, .ref fct, .ref rnr, .ref trl, .ref mnd, .ref rrw])), (fct, .inr (1, [.ref scn, .ref st, .ref se, .ref mk, .ref us, .ref te, .ref g, .ref gc, .int 0, .int 0, .int 0, .int 1, .long 0, .long 0])), (scn, .inr (6, [.ref g, .int (-1), .ref td])), (g, .inr (3, [.ref gc, .ref ga1, .ref ga2, .ref ga3, .ref ga4, .ref ga5, .ref ga6, .ref ga7, .ref ga8, .int 0, .int 0, .int 0, .int 0, .int (-1)]))] := hD
  obtain rfl : r_275 = 0 := hw
  have hP9 := hP.sub (ws' := []) [] rfl
  have hD9 := hD.sub (ws' := []) [] (by decide) rfl
  exact W.iret (v := 0) hx hb hr (fun t ht hW => ⟨⟨0, (), rfl, rfl, by rw [ht]; exact hP9, hD9⟩, hS.F ht⟩) hS.2.2 dX10_mark_37

set_option maxHeartbeats 4000000 in
set_option maxRecDepth 100000 in
theorem c_markN (l : Launch) (dC : Nat → ClassId) (dI : Nat → Nat → Nat) (cI cB cL cZ : ClassId) (h0 : Nat) (tp : Nat) (tok : Nat) (sp : Nat) (rdr : Nat) (scn : Nat) (fct : Nat) (rnr : Nat) (trl : Nat) (mnd : Nat) (rrw : Nat) (g : Nat) (td : Nat) (gc : Nat) (ga1 : Nat) (ga2 : Nat) (ga3 : Nat) (ga4 : Nat) (ga5 : Nat) (ga6 : Nat) (ga7 : Nat) (ga8 : Nat) (kd : Int32) (r : Int32) (k : Int32) (sz : Nat) (hn9 : ¬ (kd = 2 ∧ (k = 0 ∨ k = 1))) : Met l yX10_mark wsX10_mark ({ frames := 2, cells := 0, slots := 0, locals := 45 }) (cP (dC, dI) (kTy cI cB cL cZ) [.ref h0, .int kd, .int r, .int k] [(h0, .inr (9, [.ref tp, .int 0, .ref tok, .ref sp, .ref rdr, .int 0, .int (-1), .ref scn, .ref fct, .ref rnr, .ref trl, .ref mnd, .ref rrw])), (scn, .inr (6, [.ref g, .int (-1), .ref td])), (g, .inr (3, [.ref gc, .ref ga1, .ref ga2, .ref ga3, .ref ga4, .ref ga5, .ref ga6, .ref ga7, .ref ga8, .int 0, .int 0, .int 0, .int 0, .int (-1)]))] sz) (va_Qi (fun (r : Int32) (_ : Unit) => r = -1) (fun (_ : Unit) (t : State) => va_P (dC, dI) vwCl [] t.heap ∧ va_D (va_A [(h0, .inr (9, [.ref tp, .int 0, .ref tok, .ref sp, .ref rdr, .int 0, .int (-1), .ref scn, .ref fct, .ref rnr, .ref trl, .ref mnd, .ref rrw])), (scn, .inr (6, [.ref g, .int (-1), .ref td])), (g, .inr (3, [.ref gc, .ref ga1, .ref ga2, .ref ga3, .ref ga4, .ref ga5, .ref ga6, .ref ga7, .ref ga8, .int 0, .int 0, .int 0, .int 0, .int (-1)]))] sz) []) (va_A [(h0, .inr (9, [.ref tp, .int 0, .ref tok, .ref sp, .ref rdr, .int 0, .int (-1), .ref scn, .ref fct, .ref rnr, .ref trl, .ref mnd, .ref rrw])), (scn, .inr (6, [.ref g, .int (-1), .ref td])), (g, .inr (3, [.ref gc, .ref ga1, .ref ga2, .ref ga3, .ref ga4, .ref ga5, .ref ga6, .ref ga7, .ref ga8, .int 0, .int 0, .int 0, .int 0, .int (-1)]))] sz)) 0 0 (va_A [(h0, .inr (9, [.ref tp, .int 0, .ref tok, .ref sp, .ref rdr, .int 0, .int (-1), .ref scn, .ref fct, .ref rnr, .ref trl, .ref mnd, .ref rrw])), (scn, .inr (6, [.ref g, .int (-1), .ref td])), (g, .inr (3, [.ref gc, .ref ga1, .ref ga2, .ref ga3, .ref ga4, .ref ga5, .ref ga6, .ref ga7, .ref ga8, .int 0, .int 0, .int 0, .int 0, .int (-1)]))] sz) := by
  refine Met.ofW (cc := cX10_mark) (maxL := 5) (ret := (some .int)) (by decide) rfl ?_
  intro p e s m args below meth c s₁ B hml hv
  obtain ⟨rfl, hsz, hP, hK, hD0, hN⟩ := hv
  have hx := B.exec
  have hb := B.bytes
  have hr := B.returns
  have hts := atoms_spec (ws := wsX10_mark) B.pre
  have hown : s.vm.findClass RX10 = some m.cls := findClass_of_methodNamed B.named
  have hlocks := B.notSynchronized
  subst hsz
  have hD := hD0.self (sz := s.heap.size)
  generalize hAe : va_A [(h0, .inr (9, [.ref tp, .int 0, .ref tok, .ref sp, .ref rdr, .int 0, .int (-1), .ref scn, .ref fct, .ref rnr, .ref trl, .ref mnd, .ref rrw])), (scn, .inr (6, [.ref g, .int (-1), .ref td])), (g, .inr (3, [.ref gc, .ref ga1, .ref ga2, .ref ga3, .ref ga4, .ref ga5, .ref ga6, .ref ga7, .ref ga8, .int 0, .int 0, .int 0, .int 0, .int (-1)]))] s.heap.size = A at hD ⊢
  have hA : ∀ q : Nat, s.heap.size ≤ q → A q := fun q h => by rw [← hAe]; exact Or.inr h
  have hl := lv_entry ([.ref h0, .int kd, .int r, .int k]) (n := 5) (Nat.le_of_ble_eq_true rfl)
  rw [lg_entry_eq]
  generalize (lg_sl ([.ref h0, .int kd, .int r, .int k]) ++ List.replicate (5 - (lg_sl ([.ref h0, .int kd, .int r, .int k])).length) Slot.unset).toArray = ls at hl ⊢
  have hl : lv_has ls 5 [(0, .ref h0), (1, .int kd), (2, .int r), (3, .int k)] := hl
  refine k_H (A := A) hP (fun H hP hS => ?_)
  have hP : va_P (dC, dI) vwCl [(h0, .inr (9, [.ref tp, .int 0, .ref tok, .ref sp, .ref rdr, .int 0, .int (-1), .ref scn, .ref fct, .ref rnr, .ref trl, .ref mnd, .ref rrw])), (scn, .inr (6, [.ref g, .int (-1), .ref td])), (g, .inr (3, [.ref gc, .ref ga1, .ref ga2, .ref ga3, .ref ga4, .ref ga5, .ref ga6, .ref ga7, .ref ga8, .int 0, .int 0, .int 0, .int 0, .int (-1)]))] H := hP
  have hD : va_D A [(h0, .inr (9, [.ref tp, .int 0, .ref tok, .ref sp, .ref rdr, .int 0, .int (-1), .ref scn, .ref fct, .ref rnr, .ref trl, .ref mnd, .ref rrw])), (scn, .inr (6, [.ref g, .int (-1), .ref td])), (g, .inr (3, [.ref gc, .ref ga1, .ref ga2, .ref ga3, .ref ga4, .ref ga5, .ref ga6, .ref ga7, .ref ga8, .int 0, .int 0, .int 0, .int 0, .int (-1)]))] := hD
  refine lv_aload_n hx hb dX10_mark_0 rfl (lv_at hl 0 rfl) ?_
  refine lv_iload_n hx hb dX10_mark_1 rfl (lv_at hl 1 rfl) ?_
  refine lv_iload_n hx hb dX10_mark_2 rfl (lv_at hl 2 rfl) ?_
  refine lv_iload_n hx hb dX10_mark_3 rfl (lv_at hl 3 rfl) ?_
  have hPc := hP.sub (ws' := [(h0, .inr (9, [.ref tp, .int 0, .ref tok, .ref sp, .ref rdr, .int 0, .int (-1), .ref scn, .ref fct, .ref rnr, .ref trl, .ref mnd, .ref rrw])), (scn, .inr (6, [.ref g, .int (-1), .ref td])), (g, .inr (3, [.ref gc, .ref ga1, .ref ga2, .ref ga3, .ref ga4, .ref ga5, .ref ga6, .ref ga7, .ref ga8, .int 0, .int 0, .int 0, .int 0, .int (-1)]))]) [0, 1, 2] rfl
  have hDc := hD.sub (ws' := [(h0, .inr (9, [.ref tp, .int 0, .ref tok, .ref sp, .ref rdr, .int 0, .int (-1), .ref scn, .ref fct, .ref rnr, .ref trl, .ref mnd, .ref rrw])), (scn, .inr (6, [.ref g, .int (-1), .ref td])), (g, .inr (3, [.ref gc, .ref ga1, .ref ga2, .ref ga3, .ref ga4, .ref ga5, .ref ga6, .ref ga7, .ref ga8, .int 0, .int 0, .int 0, .int 0, .int (-1)]))]) [0, 1, 2] (by decide) rfl
  have hFc := va_free (wc := [(h0, .inr (9, [.ref tp, .int 0, .ref tok, .ref sp, .ref rdr, .int 0, .int (-1), .ref scn, .ref fct, .ref rnr, .ref trl, .ref mnd, .ref rrw])), (scn, .inr (6, [.ref g, .int (-1), .ref td])), (g, .inr (3, [.ref gc, .ref ga1, .ref ga2, .ref ga3, .ref ga4, .ref ga5, .ref ga6, .ref ga7, .ref ga8, .int 0, .int 0, .int 0, .int 0, .int (-1)]))]) hD hS hA [0, 1, 2] rfl
  refine va_calli (va_runV (As := [.int kd, .int r, .int k]) (rest := []) ⟨hx, hb, hml, hown, hts⟩ (c_min l dC dI cI cB cL cZ (h0) (tp) (tok) (sp) (rdr) (scn) (fct) (rnr) (trl) (mnd) (rrw) (g) (td) (gc) (ga1) (ga2) (ga3) (ga4) (ga5) (ga6) (ga7) (ga8) (kd) (r) (k) H.size (hn9)) (cwV 3 hts gX10_mark_X10_markIndex rfl rfl rfl (by decide +kernel) ⟨Nat.le_of_ble_eq_true rfl, Nat.le_of_ble_eq_true rfl⟩) ⟨cP_fb, va_recv hK hPc (ci := 9) (q0 := 0) rfl rfl, fun U hU hW => cP_pre hPc hK hDc hN U hU hW⟩ rfl rfl hl.1 rfl (lv_room (Nat.le_of_ble_eq_true rfl)) dX10_mark_4 ⟨Nat.le_of_ble_eq_true rfl, Nat.le_of_ble_eq_true rfl⟩) hS (fun q _ h => hFc q h) hFc (fun r_276 u t H1 locs ht hvm hw hB hz1 hk1 hS => ?_)
  obtain ⟨hP1, hD1⟩ := hB
  rw [ht] at hP1
  obtain ⟨hP, hD⟩ := va_join (wr := []) (w1 := [(h0, .inr (9, [.ref tp, .int 0, .ref tok, .ref sp, .ref rdr, .int 0, .int (-1), .ref scn, .ref fct, .ref rnr, .ref trl, .ref mnd, .ref rrw]))]) hP hD [0, 1, 2] [] rfl rfl (by decide) (by decide) hk1 hFc hP1 hD1
  generalize H1 = H at hP hS ⊢
  have hP : va_P (dC, dI) vwCl [(h0, .inr (9, [.ref tp, .int 0, .ref tok, .ref sp, .ref rdr, .int 0, .int (-1), .ref scn, .ref fct, .ref rnr, .ref trl, .ref mnd, .ref rrw]))] H := hP
  have hD : va_D A [(h0, .inr (9, [.ref tp, .int 0, .ref tok, .ref sp, .ref rdr, .int 0, .int (-1), .ref scn, .ref fct, .ref rnr, .ref trl, .ref mnd, .ref rrw]))] := hD
  obtain rfl : r_276 = (-1) := hw
  refine lv_istore (lv' := [(4, .int (-1)), (0, .ref h0), (1, .int kd), (2, .int r), (3, .int k)]) hx hb dX10_mark_7 hl (by decide) rfl (fun ls hl => ?_)
  refine lv_iload hx hb dX10_mark_9 (lv_at hl 0 rfl) ?_
  refine lv_iconst (v := (-1)) hx hb dX10_mark_11 (by decide) ?_
  refine lv_icmp_ne (tgt := 17) hx hb dX10_mark_12 (by decide) (fun c9 => absurd c9 (by decide)) (fun _ => ?_)
  refine lv_iconst (v := (-1)) hx hb dX10_mark_15 (by decide) ?_
  have hP9 := hP.sub (ws' := []) [] rfl
  have hD9 := hD.sub (ws' := []) [] (by decide) rfl
  exact W.iret (v := (-1)) hx hb hr (fun t ht hW => ⟨⟨(-1), (), rfl, rfl, by rw [ht]; exact hP9, hD9⟩, hS.F ht⟩) hS.2.2 dX10_mark_16

set_option maxHeartbeats 4000000 in
set_option maxRecDepth 100000 in
theorem c_uof3 (l : Launch) (dC : Nat → ClassId) (dI : Nat → Nat → Nat) (cI cB cL cZ : ClassId) (h0 : Nat) (tp : Nat) (tok : Nat) (sp : Nat) (rdr : Nat) (scn : Nat) (fct : Nat) (rnr : Nat) (trl : Nat) (mnd : Nat) (rrw : Nat) (g : Nat) (td : Nat) (gc : Nat) (ga1 : Nat) (ga2 : Nat) (ga3 : Nat) (ga4 : Nat) (ga5 : Nat) (ga6 : Nat) (ga7 : Nat) (ga8 : Nat) (gcc : Nat) (st : Nat) (se : Nat) (mk : Nat) (us : Nat) (te : Nat) (f1 : Nat → Int64) (f2 : Nat → Int32) (f3 : Nat → Int32) (f4 : Nat → Int32) (f5 : Nat → Int32) (sz : Nat)  : Met l yX10_usesOfFact wsX10_usesOfFact ({ frames := 3, cells := 0, slots := 0, locals := 68 }) (cP (dC, dI) (kTy cI cB cL cZ) [.ref h0, .int 3] [(h0, .inr (9, [.ref tp, .int 0, .ref tok, .ref sp, .ref rdr, .int 0, .int (-1), .ref scn, .ref fct, .ref rnr, .ref trl, .ref mnd, .ref rrw])), (fct, .inr (1, [.ref scn, .ref st, .ref se, .ref mk, .ref us, .ref te, .ref g, .ref gc, .int 1, .int 0, .int 0, .int 0, .long 0, .long 0])), (scn, .inr (6, [.ref g, .int (-1), .ref td])), (g, .inr (3, [.ref gc, .ref ga1, .ref ga2, .ref ga3, .ref ga4, .ref ga5, .ref ga6, .ref ga7, .ref ga8, .int 0, .int 0, .int 0, .int 0, .int (-1)])), (gc, .inr (0, [.ref gcc, .int 0])), (st, .inl (cL, 304, .inr (.inl f1))), (se, .inl (cI, 304, .inl f2)), (mk, .inl (cI, 42, .inl f3)), (us, .inl (cI, 40, .inl f4)), (te, .inl (cI, 24, .inl f5))] sz) (va_Qi (fun (r : Int32) (_ : Unit) => r = 0) (fun (_ : Unit) (t : State) => va_P (dC, dI) vwCl [] t.heap ∧ va_D (va_A [(h0, .inr (9, [.ref tp, .int 0, .ref tok, .ref sp, .ref rdr, .int 0, .int (-1), .ref scn, .ref fct, .ref rnr, .ref trl, .ref mnd, .ref rrw])), (fct, .inr (1, [.ref scn, .ref st, .ref se, .ref mk, .ref us, .ref te, .ref g, .ref gc, .int 1, .int 0, .int 0, .int 0, .long 0, .long 0])), (scn, .inr (6, [.ref g, .int (-1), .ref td])), (g, .inr (3, [.ref gc, .ref ga1, .ref ga2, .ref ga3, .ref ga4, .ref ga5, .ref ga6, .ref ga7, .ref ga8, .int 0, .int 0, .int 0, .int 0, .int (-1)])), (gc, .inr (0, [.ref gcc, .int 0])), (st, .inl (cL, 304, .inr (.inl f1))), (se, .inl (cI, 304, .inl f2)), (mk, .inl (cI, 42, .inl f3)), (us, .inl (cI, 40, .inl f4)), (te, .inl (cI, 24, .inl f5))] sz) []) (va_A [(h0, .inr (9, [.ref tp, .int 0, .ref tok, .ref sp, .ref rdr, .int 0, .int (-1), .ref scn, .ref fct, .ref rnr, .ref trl, .ref mnd, .ref rrw])), (fct, .inr (1, [.ref scn, .ref st, .ref se, .ref mk, .ref us, .ref te, .ref g, .ref gc, .int 1, .int 0, .int 0, .int 0, .long 0, .long 0])), (scn, .inr (6, [.ref g, .int (-1), .ref td])), (g, .inr (3, [.ref gc, .ref ga1, .ref ga2, .ref ga3, .ref ga4, .ref ga5, .ref ga6, .ref ga7, .ref ga8, .int 0, .int 0, .int 0, .int 0, .int (-1)])), (gc, .inr (0, [.ref gcc, .int 0])), (st, .inl (cL, 304, .inr (.inl f1))), (se, .inl (cI, 304, .inl f2)), (mk, .inl (cI, 42, .inl f3)), (us, .inl (cI, 40, .inl f4)), (te, .inl (cI, 24, .inl f5))] sz)) 0 0 (va_A [(h0, .inr (9, [.ref tp, .int 0, .ref tok, .ref sp, .ref rdr, .int 0, .int (-1), .ref scn, .ref fct, .ref rnr, .ref trl, .ref mnd, .ref rrw])), (fct, .inr (1, [.ref scn, .ref st, .ref se, .ref mk, .ref us, .ref te, .ref g, .ref gc, .int 1, .int 0, .int 0, .int 0, .long 0, .long 0])), (scn, .inr (6, [.ref g, .int (-1), .ref td])), (g, .inr (3, [.ref gc, .ref ga1, .ref ga2, .ref ga3, .ref ga4, .ref ga5, .ref ga6, .ref ga7, .ref ga8, .int 0, .int 0, .int 0, .int 0, .int (-1)])), (gc, .inr (0, [.ref gcc, .int 0])), (st, .inl (cL, 304, .inr (.inl f1))), (se, .inl (cI, 304, .inl f2)), (mk, .inl (cI, 42, .inl f3)), (us, .inl (cI, 40, .inl f4)), (te, .inl (cI, 24, .inl f5))] sz) := by
  refine Met.ofW (cc := cX10_usesOfFact) (maxL := 4) (ret := (some .int)) (by decide) rfl ?_
  intro p e s m args below meth c s₁ B hml hv
  obtain ⟨rfl, hsz, hP, hK, hD0, hN⟩ := hv
  have hx := B.exec
  have hb := B.bytes
  have hr := B.returns
  have hts := atoms_spec (ws := wsX10_usesOfFact) B.pre
  have hown : s.vm.findClass RX10 = some m.cls := findClass_of_methodNamed B.named
  have hlocks := B.notSynchronized
  subst hsz
  have hD := hD0.self (sz := s.heap.size)
  generalize hAe : va_A [(h0, .inr (9, [.ref tp, .int 0, .ref tok, .ref sp, .ref rdr, .int 0, .int (-1), .ref scn, .ref fct, .ref rnr, .ref trl, .ref mnd, .ref rrw])), (fct, .inr (1, [.ref scn, .ref st, .ref se, .ref mk, .ref us, .ref te, .ref g, .ref gc, .int 1, .int 0, .int 0, .int 0, .long 0, .long 0])), (scn, .inr (6, [.ref g, .int (-1), .ref td])), (g, .inr (3, [.ref gc, .ref ga1, .ref ga2, .ref ga3, .ref ga4, .ref ga5, .ref ga6, .ref ga7, .ref ga8, .int 0, .int 0, .int 0, .int 0, .int (-1)])), (gc, .inr (0, [.ref gcc, .int 0])), (st, .inl (cL, 304, .inr (.inl f1))), (se, .inl (cI, 304, .inl f2)), (mk, .inl (cI, 42, .inl f3)), (us, .inl (cI, 40, .inl f4)), (te, .inl (cI, 24, .inl f5))] s.heap.size = A at hD ⊢
  have hA : ∀ q : Nat, s.heap.size ≤ q → A q := fun q h => by rw [← hAe]; exact Or.inr h
  have hl := lv_entry ([.ref h0, .int 3]) (n := 4) (Nat.le_of_ble_eq_true rfl)
  rw [lg_entry_eq]
  generalize (lg_sl ([.ref h0, .int 3]) ++ List.replicate (4 - (lg_sl ([.ref h0, .int 3])).length) Slot.unset).toArray = ls at hl ⊢
  have hl : lv_has ls 4 [(0, .ref h0), (1, .int 3)] := hl
  refine k_H (A := A) hP (fun H hP hS => ?_)
  have hP : va_P (dC, dI) vwCl [(h0, .inr (9, [.ref tp, .int 0, .ref tok, .ref sp, .ref rdr, .int 0, .int (-1), .ref scn, .ref fct, .ref rnr, .ref trl, .ref mnd, .ref rrw])), (fct, .inr (1, [.ref scn, .ref st, .ref se, .ref mk, .ref us, .ref te, .ref g, .ref gc, .int 1, .int 0, .int 0, .int 0, .long 0, .long 0])), (scn, .inr (6, [.ref g, .int (-1), .ref td])), (g, .inr (3, [.ref gc, .ref ga1, .ref ga2, .ref ga3, .ref ga4, .ref ga5, .ref ga6, .ref ga7, .ref ga8, .int 0, .int 0, .int 0, .int 0, .int (-1)])), (gc, .inr (0, [.ref gcc, .int 0])), (st, .inl (cL, 304, .inr (.inl f1))), (se, .inl (cI, 304, .inl f2)), (mk, .inl (cI, 42, .inl f3)), (us, .inl (cI, 40, .inl f4)), (te, .inl (cI, 24, .inl f5))] H := hP
  have hD : va_D A [(h0, .inr (9, [.ref tp, .int 0, .ref tok, .ref sp, .ref rdr, .int 0, .int (-1), .ref scn, .ref fct, .ref rnr, .ref trl, .ref mnd, .ref rrw])), (fct, .inr (1, [.ref scn, .ref st, .ref se, .ref mk, .ref us, .ref te, .ref g, .ref gc, .int 1, .int 0, .int 0, .int 0, .long 0, .long 0])), (scn, .inr (6, [.ref g, .int (-1), .ref td])), (g, .inr (3, [.ref gc, .ref ga1, .ref ga2, .ref ga3, .ref ga4, .ref ga5, .ref ga6, .ref ga7, .ref ga8, .int 0, .int 0, .int 0, .int 0, .int (-1)])), (gc, .inr (0, [.ref gcc, .int 0])), (st, .inl (cL, 304, .inr (.inl f1))), (se, .inl (cI, 304, .inl f2)), (mk, .inl (cI, 42, .inl f3)), (us, .inl (cI, 40, .inl f4)), (te, .inl (cI, 24, .inl f5))] := hD
  refine lv_aload_n hx hb dX10_usesOfFact_0 rfl (lv_at hl 0 rfl) ?_
  refine va_get (D := (dC, dI)) (ci := 9) (v := .ref fct) (C := RX10) (T := TX10) (N := 13) hx hb hts iwwsX10_usesOfFact_10 hown hK hP 0 rfl rfl 8 (by decide) (hts (.fieldLink RX10 54 "NothingJudge" "facts" "LNothingJudge$Facts;") fwwsX10_usesOfFact_54) (fun _ h9 => h9) rfl dX10_usesOfFact_1 ?_
  refine lv_lconst (v := 0) hx hb dX10_usesOfFact_4 (by decide) ?_
  have hPc := hP.sub (ws' := [(fct, .inr (1, [.ref scn, .ref st, .ref se, .ref mk, .ref us, .ref te, .ref g, .ref gc, .int 1, .int 0, .int 0, .int 0, .long 0, .long 0])), (scn, .inr (6, [.ref g, .int (-1), .ref td])), (g, .inr (3, [.ref gc, .ref ga1, .ref ga2, .ref ga3, .ref ga4, .ref ga5, .ref ga6, .ref ga7, .ref ga8, .int 0, .int 0, .int 0, .int 0, .int (-1)])), (gc, .inr (0, [.ref gcc, .int 0])), (st, .inl (cL, 304, .inr (.inl f1))), (se, .inl (cI, 304, .inl f2)), (mk, .inl (cI, 42, .inl f3)), (us, .inl (cI, 40, .inl f4)), (te, .inl (cI, 24, .inl f5))]) [1, 2, 3, 4, 5, 6, 7, 8, 9] rfl
  have hDc := hD.sub (ws' := [(fct, .inr (1, [.ref scn, .ref st, .ref se, .ref mk, .ref us, .ref te, .ref g, .ref gc, .int 1, .int 0, .int 0, .int 0, .long 0, .long 0])), (scn, .inr (6, [.ref g, .int (-1), .ref td])), (g, .inr (3, [.ref gc, .ref ga1, .ref ga2, .ref ga3, .ref ga4, .ref ga5, .ref ga6, .ref ga7, .ref ga8, .int 0, .int 0, .int 0, .int 0, .int (-1)])), (gc, .inr (0, [.ref gcc, .int 0])), (st, .inl (cL, 304, .inr (.inl f1))), (se, .inl (cI, 304, .inl f2)), (mk, .inl (cI, 42, .inl f3)), (us, .inl (cI, 40, .inl f4)), (te, .inl (cI, 24, .inl f5))]) [1, 2, 3, 4, 5, 6, 7, 8, 9] (by decide) rfl
  have hFc := va_free (wc := [(fct, .inr (1, [.ref scn, .ref st, .ref se, .ref mk, .ref us, .ref te, .ref g, .ref gc, .int 1, .int 0, .int 0, .int 0, .long 0, .long 0])), (scn, .inr (6, [.ref g, .int (-1), .ref td])), (g, .inr (3, [.ref gc, .ref ga1, .ref ga2, .ref ga3, .ref ga4, .ref ga5, .ref ga6, .ref ga7, .ref ga8, .int 0, .int 0, .int 0, .int 0, .int (-1)])), (gc, .inr (0, [.ref gcc, .int 0])), (st, .inl (cL, 304, .inr (.inl f1))), (se, .inl (cI, 304, .inl f2)), (mk, .inl (cI, 42, .inl f3)), (us, .inl (cI, 40, .inl f4)), (te, .inl (cI, 24, .inl f5))]) hD hS hA [1, 2, 3, 4, 5, 6, 7, 8, 9] rfl
  refine va_callv (va_runV (As := [.long 0]) (rest := []) ⟨hx, hb, hml, hown, hts⟩ (c_settle l dC dI cI cB cL cZ (fct) (scn) (g) (td) (gc) (st) (se) (mk) (us) (te) (ga1) (ga2) (ga3) (ga4) (ga5) (ga6) (ga7) (ga8) (gcc) (f1) (f2) (f3) (f4) (f5) H.size) (cwV 1 hts gX10_usesOfFact_X1_settle rfl rfl rfl (by decide +kernel) ⟨Nat.le_of_ble_eq_true rfl, Nat.le_of_ble_eq_true rfl⟩) ⟨cP_fb, va_recv hK hPc (ci := 1) (q0 := 0) rfl rfl, fun U hU hW => cP_pre hPc hK hDc hN U hU hW⟩ rfl rfl hl.1 rfl (lv_room (Nat.le_of_ble_eq_true rfl)) dX10_usesOfFact_5 ⟨Nat.le_of_ble_eq_true rfl, Nat.le_of_ble_eq_true rfl⟩) hS (fun q _ h => hFc q h) hFc (fun u t H1 locs ht hvm hw hB hz1 hk1 hS => ?_)
  obtain ⟨f_277, hf_278, hP1, hD1⟩ := hB
  rw [ht] at hP1
  obtain ⟨hP, hD⟩ := va_join (wr := [(h0, .inr (9, [.ref tp, .int 0, .ref tok, .ref sp, .ref rdr, .int 0, .int (-1), .ref scn, .ref fct, .ref rnr, .ref trl, .ref mnd, .ref rrw]))]) (w1 := [(fct, .inr (1, [.ref scn, .ref st, .ref se, .ref mk, .ref us, .ref te, .ref g, .ref gc, .int 0, .int 0, .int 0, .int 1, .long 0, .long 0])), (scn, .inr (6, [.ref g, .int (-1), .ref td])), (g, .inr (3, [.ref gc, .ref ga1, .ref ga2, .ref ga3, .ref ga4, .ref ga5, .ref ga6, .ref ga7, .ref ga8, .int 0, .int 0, .int 0, .int 0, .int (-1)])), (mk, .inl (cI, N, .inl f_277))]) hP hD [1, 2, 3, 4, 5, 6, 7, 8, 9] [0] rfl rfl (by decide) (by decide) hk1 hFc hP1 hD1
  generalize H1 = H at hP hS ⊢
  have hP : va_P (dC, dI) vwCl [(h0, .inr (9, [.ref tp, .int 0, .ref tok, .ref sp, .ref rdr, .int 0, .int (-1), .ref scn, .ref fct, .ref rnr, .ref trl, .ref mnd, .ref rrw])), (fct, .inr (1, [.ref scn, .ref st, .ref se, .ref mk, .ref us, .ref te, .ref g, .ref gc, .int 0, .int 0, .int 0, .int 1, .long 0, .long 0])), (scn, .inr (6, [.ref g, .int (-1), .ref td])), (g, .inr (3, [.ref gc, .ref ga1, .ref ga2, .ref ga3, .ref ga4, .ref ga5, .ref ga6, .ref ga7, .ref ga8, .int 0, .int 0, .int 0, .int 0, .int (-1)])), (mk, .inl (cI, N, .inl f_277))] H := hP
  have hD : va_D A [(h0, .inr (9, [.ref tp, .int 0, .ref tok, .ref sp, .ref rdr, .int 0, .int (-1), .ref scn, .ref fct, .ref rnr, .ref trl, .ref mnd, .ref rrw])), (fct, .inr (1, [.ref scn, .ref st, .ref se, .ref mk, .ref us, .ref te, .ref g, .ref gc, .int 0, .int 0, .int 0, .int 1, .long 0, .long 0])), (scn, .inr (6, [.ref g, .int (-1), .ref td])), (g, .inr (3, [.ref gc, .ref ga1, .ref ga2, .ref ga3, .ref ga4, .ref ga5, .ref ga6, .ref ga7, .ref ga8, .int 0, .int 0, .int 0, .int 0, .int (-1)])), (mk, .inl (cI, N, .inl f_277))] := hD
  refine lv_iconst (v := 0) hx hb dX10_usesOfFact_8 (by decide) ?_
  refine lv_istore_n (lv' := [(2, .int 0), (0, .ref h0), (1, .int 3)]) hx hb dX10_usesOfFact_9 rfl hl (by decide) rfl (fun ls hl => ?_)
  refine lv_iconst (v := 0) hx hb dX10_usesOfFact_10 (by decide) ?_
  refine lv_istore_n (lv' := [(3, .int 0), (2, .int 0), (0, .ref h0), (1, .int 3)]) hx hb dX10_usesOfFact_11 rfl hl (by decide) rfl (fun ls hl => ?_)
  refine lv_iload_n hx hb dX10_usesOfFact_12 rfl (lv_at hl 0 rfl) ?_
  refine lv_aload_n hx hb dX10_usesOfFact_13 rfl (lv_at hl 2 rfl) ?_
  refine va_get (D := (dC, dI)) (ci := 9) (v := .ref scn) (C := RX10) (T := TX10) (N := 13) hx hb hts iwwsX10_usesOfFact_10 hown hK hP 0 rfl rfl 7 (by decide) (hts (.fieldLink RX10 45 "NothingJudge" "scene" "LNothingJudge$Scene;") fwwsX10_usesOfFact_45) (fun _ h9 => h9) rfl dX10_usesOfFact_14 ?_
  refine va_get (D := (dC, dI)) (ci := 6) (v := .ref g) (C := RX7) (T := TX7) (N := 3) hx hb hts iwwsX10_usesOfFact_7 hown hK hP 2 rfl rfl 0 (by decide) (hts (.fieldLink RX10 110 "NothingJudge$Scene" "program" "LNothingJudge$Program;") fwwsX10_usesOfFact_110) (fun _ h9 => h9) rfl dX10_usesOfFact_17 ?_
  refine va_get (D := (dC, dI)) (ci := 3) (v := .int 0) (C := RX3) (T := TX3) (N := 14) hx hb hts iwwsX10_usesOfFact_3 hown hK hP 3 rfl rfl 11 (by decide) (hts (.fieldLink RX10 157 "NothingJudge$Program" "uses" "I") fwwsX10_usesOfFact_157) (fun _ h9 => h9) rfl dX10_usesOfFact_20 ?_
  refine lv_icmp_ge (tgt := 50) hx hb dX10_usesOfFact_23 (by decide) (fun _ => ?_) (fun c9 => absurd (by decide) c9)
  refine lv_iload_n hx hb dX10_usesOfFact_50 rfl (lv_at hl 1 rfl) ?_
  have hP9 := hP.sub (ws' := []) [] rfl
  have hD9 := hD.sub (ws' := []) [] (by decide) rfl
  exact W.iret (v := 0) hx hb hr (fun t ht hW => ⟨⟨0, (), rfl, rfl, by rw [ht]; exact hP9, hD9⟩, hS.F ht⟩) hS.2.2 dX10_usesOfFact_51

set_option maxHeartbeats 4000000 in
set_option maxRecDepth 100000 in
theorem c_uof1 (l : Launch) (dC : Nat → ClassId) (dI : Nat → Nat → Nat) (cI cB cL cZ : ClassId) (h0 : Nat) (tp : Nat) (tok : Nat) (sp : Nat) (rdr : Nat) (scn : Nat) (fct : Nat) (rnr : Nat) (trl : Nat) (mnd : Nat) (rrw : Nat) (g : Nat) (td : Nat) (gc : Nat) (ga1 : Nat) (ga2 : Nat) (ga3 : Nat) (ga4 : Nat) (ga5 : Nat) (ga6 : Nat) (ga7 : Nat) (ga8 : Nat) (gcc : Nat) (st : Nat) (se : Nat) (mk : Nat) (us : Nat) (te : Nat) (f1 : Nat → Int64) (f2 : Nat → Int32) (f3 : Nat → Int32) (f4 : Nat → Int32) (f5 : Nat → Int32) (sz : Nat)  : Met l yX10_usesOfFact wsX10_usesOfFact ({ frames := 3, cells := 0, slots := 0, locals := 68 }) (cP (dC, dI) (kTy cI cB cL cZ) [.ref h0, .int 1] [(h0, .inr (9, [.ref tp, .int 0, .ref tok, .ref sp, .ref rdr, .int 0, .int (-1), .ref scn, .ref fct, .ref rnr, .ref trl, .ref mnd, .ref rrw])), (fct, .inr (1, [.ref scn, .ref st, .ref se, .ref mk, .ref us, .ref te, .ref g, .ref gc, .int 1, .int 0, .int 0, .int 0, .long 0, .long 0])), (scn, .inr (6, [.ref g, .int (-1), .ref td])), (g, .inr (3, [.ref gc, .ref ga1, .ref ga2, .ref ga3, .ref ga4, .ref ga5, .ref ga6, .ref ga7, .ref ga8, .int 0, .int 0, .int 0, .int 0, .int (-1)])), (gc, .inr (0, [.ref gcc, .int 0])), (st, .inl (cL, 304, .inr (.inl f1))), (se, .inl (cI, 304, .inl f2)), (mk, .inl (cI, 42, .inl f3)), (us, .inl (cI, 40, .inl f4)), (te, .inl (cI, 24, .inl f5))] sz) (va_Qi (fun (r : Int32) (_ : Unit) => r = 0) (fun (_ : Unit) (t : State) => va_P (dC, dI) vwCl [] t.heap ∧ va_D (va_A [(h0, .inr (9, [.ref tp, .int 0, .ref tok, .ref sp, .ref rdr, .int 0, .int (-1), .ref scn, .ref fct, .ref rnr, .ref trl, .ref mnd, .ref rrw])), (fct, .inr (1, [.ref scn, .ref st, .ref se, .ref mk, .ref us, .ref te, .ref g, .ref gc, .int 1, .int 0, .int 0, .int 0, .long 0, .long 0])), (scn, .inr (6, [.ref g, .int (-1), .ref td])), (g, .inr (3, [.ref gc, .ref ga1, .ref ga2, .ref ga3, .ref ga4, .ref ga5, .ref ga6, .ref ga7, .ref ga8, .int 0, .int 0, .int 0, .int 0, .int (-1)])), (gc, .inr (0, [.ref gcc, .int 0])), (st, .inl (cL, 304, .inr (.inl f1))), (se, .inl (cI, 304, .inl f2)), (mk, .inl (cI, 42, .inl f3)), (us, .inl (cI, 40, .inl f4)), (te, .inl (cI, 24, .inl f5))] sz) []) (va_A [(h0, .inr (9, [.ref tp, .int 0, .ref tok, .ref sp, .ref rdr, .int 0, .int (-1), .ref scn, .ref fct, .ref rnr, .ref trl, .ref mnd, .ref rrw])), (fct, .inr (1, [.ref scn, .ref st, .ref se, .ref mk, .ref us, .ref te, .ref g, .ref gc, .int 1, .int 0, .int 0, .int 0, .long 0, .long 0])), (scn, .inr (6, [.ref g, .int (-1), .ref td])), (g, .inr (3, [.ref gc, .ref ga1, .ref ga2, .ref ga3, .ref ga4, .ref ga5, .ref ga6, .ref ga7, .ref ga8, .int 0, .int 0, .int 0, .int 0, .int (-1)])), (gc, .inr (0, [.ref gcc, .int 0])), (st, .inl (cL, 304, .inr (.inl f1))), (se, .inl (cI, 304, .inl f2)), (mk, .inl (cI, 42, .inl f3)), (us, .inl (cI, 40, .inl f4)), (te, .inl (cI, 24, .inl f5))] sz)) 0 0 (va_A [(h0, .inr (9, [.ref tp, .int 0, .ref tok, .ref sp, .ref rdr, .int 0, .int (-1), .ref scn, .ref fct, .ref rnr, .ref trl, .ref mnd, .ref rrw])), (fct, .inr (1, [.ref scn, .ref st, .ref se, .ref mk, .ref us, .ref te, .ref g, .ref gc, .int 1, .int 0, .int 0, .int 0, .long 0, .long 0])), (scn, .inr (6, [.ref g, .int (-1), .ref td])), (g, .inr (3, [.ref gc, .ref ga1, .ref ga2, .ref ga3, .ref ga4, .ref ga5, .ref ga6, .ref ga7, .ref ga8, .int 0, .int 0, .int 0, .int 0, .int (-1)])), (gc, .inr (0, [.ref gcc, .int 0])), (st, .inl (cL, 304, .inr (.inl f1))), (se, .inl (cI, 304, .inl f2)), (mk, .inl (cI, 42, .inl f3)), (us, .inl (cI, 40, .inl f4)), (te, .inl (cI, 24, .inl f5))] sz) := by
  refine Met.ofW (cc := cX10_usesOfFact) (maxL := 4) (ret := (some .int)) (by decide) rfl ?_
  intro p e s m args below meth c s₁ B hml hv
  obtain ⟨rfl, hsz, hP, hK, hD0, hN⟩ := hv
  have hx := B.exec
  have hb := B.bytes
  have hr := B.returns
  have hts := atoms_spec (ws := wsX10_usesOfFact) B.pre
  have hown : s.vm.findClass RX10 = some m.cls := findClass_of_methodNamed B.named
  have hlocks := B.notSynchronized
  subst hsz
  have hD := hD0.self (sz := s.heap.size)
  generalize hAe : va_A [(h0, .inr (9, [.ref tp, .int 0, .ref tok, .ref sp, .ref rdr, .int 0, .int (-1), .ref scn, .ref fct, .ref rnr, .ref trl, .ref mnd, .ref rrw])), (fct, .inr (1, [.ref scn, .ref st, .ref se, .ref mk, .ref us, .ref te, .ref g, .ref gc, .int 1, .int 0, .int 0, .int 0, .long 0, .long 0])), (scn, .inr (6, [.ref g, .int (-1), .ref td])), (g, .inr (3, [.ref gc, .ref ga1, .ref ga2, .ref ga3, .ref ga4, .ref ga5, .ref ga6, .ref ga7, .ref ga8, .int 0, .int 0, .int 0, .int 0, .int (-1)])), (gc, .inr (0, [.ref gcc, .int 0])), (st, .inl (cL, 304, .inr (.inl f1))), (se, .inl (cI, 304, .inl f2)), (mk, .inl (cI, 42, .inl f3)), (us, .inl (cI, 40, .inl f4)), (te, .inl (cI, 24, .inl f5))] s.heap.size = A at hD ⊢
  have hA : ∀ q : Nat, s.heap.size ≤ q → A q := fun q h => by rw [← hAe]; exact Or.inr h
  have hl := lv_entry ([.ref h0, .int 1]) (n := 4) (Nat.le_of_ble_eq_true rfl)
  rw [lg_entry_eq]
  generalize (lg_sl ([.ref h0, .int 1]) ++ List.replicate (4 - (lg_sl ([.ref h0, .int 1])).length) Slot.unset).toArray = ls at hl ⊢
  have hl : lv_has ls 4 [(0, .ref h0), (1, .int 1)] := hl
  refine k_H (A := A) hP (fun H hP hS => ?_)
  have hP : va_P (dC, dI) vwCl [(h0, .inr (9, [.ref tp, .int 0, .ref tok, .ref sp, .ref rdr, .int 0, .int (-1), .ref scn, .ref fct, .ref rnr, .ref trl, .ref mnd, .ref rrw])), (fct, .inr (1, [.ref scn, .ref st, .ref se, .ref mk, .ref us, .ref te, .ref g, .ref gc, .int 1, .int 0, .int 0, .int 0, .long 0, .long 0])), (scn, .inr (6, [.ref g, .int (-1), .ref td])), (g, .inr (3, [.ref gc, .ref ga1, .ref ga2, .ref ga3, .ref ga4, .ref ga5, .ref ga6, .ref ga7, .ref ga8, .int 0, .int 0, .int 0, .int 0, .int (-1)])), (gc, .inr (0, [.ref gcc, .int 0])), (st, .inl (cL, 304, .inr (.inl f1))), (se, .inl (cI, 304, .inl f2)), (mk, .inl (cI, 42, .inl f3)), (us, .inl (cI, 40, .inl f4)), (te, .inl (cI, 24, .inl f5))] H := hP
  have hD : va_D A [(h0, .inr (9, [.ref tp, .int 0, .ref tok, .ref sp, .ref rdr, .int 0, .int (-1), .ref scn, .ref fct, .ref rnr, .ref trl, .ref mnd, .ref rrw])), (fct, .inr (1, [.ref scn, .ref st, .ref se, .ref mk, .ref us, .ref te, .ref g, .ref gc, .int 1, .int 0, .int 0, .int 0, .long 0, .long 0])), (scn, .inr (6, [.ref g, .int (-1), .ref td])), (g, .inr (3, [.ref gc, .ref ga1, .ref ga2, .ref ga3, .ref ga4, .ref ga5, .ref ga6, .ref ga7, .ref ga8, .int 0, .int 0, .int 0, .int 0, .int (-1)])), (gc, .inr (0, [.ref gcc, .int 0])), (st, .inl (cL, 304, .inr (.inl f1))), (se, .inl (cI, 304, .inl f2)), (mk, .inl (cI, 42, .inl f3)), (us, .inl (cI, 40, .inl f4)), (te, .inl (cI, 24, .inl f5))] := hD
  refine lv_aload_n hx hb dX10_usesOfFact_0 rfl (lv_at hl 0 rfl) ?_
  refine va_get (D := (dC, dI)) (ci := 9) (v := .ref fct) (C := RX10) (T := TX10) (N := 13) hx hb hts iwwsX10_usesOfFact_10 hown hK hP 0 rfl rfl 8 (by decide) (hts (.fieldLink RX10 54 "NothingJudge" "facts" "LNothingJudge$Facts;") fwwsX10_usesOfFact_54) (fun _ h9 => h9) rfl dX10_usesOfFact_1 ?_
  refine lv_lconst (v := 0) hx hb dX10_usesOfFact_4 (by decide) ?_
  have hPc := hP.sub (ws' := [(fct, .inr (1, [.ref scn, .ref st, .ref se, .ref mk, .ref us, .ref te, .ref g, .ref gc, .int 1, .int 0, .int 0, .int 0, .long 0, .long 0])), (scn, .inr (6, [.ref g, .int (-1), .ref td])), (g, .inr (3, [.ref gc, .ref ga1, .ref ga2, .ref ga3, .ref ga4, .ref ga5, .ref ga6, .ref ga7, .ref ga8, .int 0, .int 0, .int 0, .int 0, .int (-1)])), (gc, .inr (0, [.ref gcc, .int 0])), (st, .inl (cL, 304, .inr (.inl f1))), (se, .inl (cI, 304, .inl f2)), (mk, .inl (cI, 42, .inl f3)), (us, .inl (cI, 40, .inl f4)), (te, .inl (cI, 24, .inl f5))]) [1, 2, 3, 4, 5, 6, 7, 8, 9] rfl
  have hDc := hD.sub (ws' := [(fct, .inr (1, [.ref scn, .ref st, .ref se, .ref mk, .ref us, .ref te, .ref g, .ref gc, .int 1, .int 0, .int 0, .int 0, .long 0, .long 0])), (scn, .inr (6, [.ref g, .int (-1), .ref td])), (g, .inr (3, [.ref gc, .ref ga1, .ref ga2, .ref ga3, .ref ga4, .ref ga5, .ref ga6, .ref ga7, .ref ga8, .int 0, .int 0, .int 0, .int 0, .int (-1)])), (gc, .inr (0, [.ref gcc, .int 0])), (st, .inl (cL, 304, .inr (.inl f1))), (se, .inl (cI, 304, .inl f2)), (mk, .inl (cI, 42, .inl f3)), (us, .inl (cI, 40, .inl f4)), (te, .inl (cI, 24, .inl f5))]) [1, 2, 3, 4, 5, 6, 7, 8, 9] (by decide) rfl
  have hFc := va_free (wc := [(fct, .inr (1, [.ref scn, .ref st, .ref se, .ref mk, .ref us, .ref te, .ref g, .ref gc, .int 1, .int 0, .int 0, .int 0, .long 0, .long 0])), (scn, .inr (6, [.ref g, .int (-1), .ref td])), (g, .inr (3, [.ref gc, .ref ga1, .ref ga2, .ref ga3, .ref ga4, .ref ga5, .ref ga6, .ref ga7, .ref ga8, .int 0, .int 0, .int 0, .int 0, .int (-1)])), (gc, .inr (0, [.ref gcc, .int 0])), (st, .inl (cL, 304, .inr (.inl f1))), (se, .inl (cI, 304, .inl f2)), (mk, .inl (cI, 42, .inl f3)), (us, .inl (cI, 40, .inl f4)), (te, .inl (cI, 24, .inl f5))]) hD hS hA [1, 2, 3, 4, 5, 6, 7, 8, 9] rfl
  refine va_callv (va_runV (As := [.long 0]) (rest := []) ⟨hx, hb, hml, hown, hts⟩ (c_settle l dC dI cI cB cL cZ (fct) (scn) (g) (td) (gc) (st) (se) (mk) (us) (te) (ga1) (ga2) (ga3) (ga4) (ga5) (ga6) (ga7) (ga8) (gcc) (f1) (f2) (f3) (f4) (f5) H.size) (cwV 1 hts gX10_usesOfFact_X1_settle rfl rfl rfl (by decide +kernel) ⟨Nat.le_of_ble_eq_true rfl, Nat.le_of_ble_eq_true rfl⟩) ⟨cP_fb, va_recv hK hPc (ci := 1) (q0 := 0) rfl rfl, fun U hU hW => cP_pre hPc hK hDc hN U hU hW⟩ rfl rfl hl.1 rfl (lv_room (Nat.le_of_ble_eq_true rfl)) dX10_usesOfFact_5 ⟨Nat.le_of_ble_eq_true rfl, Nat.le_of_ble_eq_true rfl⟩) hS (fun q _ h => hFc q h) hFc (fun u t H1 locs ht hvm hw hB hz1 hk1 hS => ?_)
  obtain ⟨f_280, hf_281, hP1, hD1⟩ := hB
  rw [ht] at hP1
  obtain ⟨hP, hD⟩ := va_join (wr := [(h0, .inr (9, [.ref tp, .int 0, .ref tok, .ref sp, .ref rdr, .int 0, .int (-1), .ref scn, .ref fct, .ref rnr, .ref trl, .ref mnd, .ref rrw]))]) (w1 := [(fct, .inr (1, [.ref scn, .ref st, .ref se, .ref mk, .ref us, .ref te, .ref g, .ref gc, .int 0, .int 0, .int 0, .int 1, .long 0, .long 0])), (scn, .inr (6, [.ref g, .int (-1), .ref td])), (g, .inr (3, [.ref gc, .ref ga1, .ref ga2, .ref ga3, .ref ga4, .ref ga5, .ref ga6, .ref ga7, .ref ga8, .int 0, .int 0, .int 0, .int 0, .int (-1)])), (mk, .inl (cI, N, .inl f_280))]) hP hD [1, 2, 3, 4, 5, 6, 7, 8, 9] [0] rfl rfl (by decide) (by decide) hk1 hFc hP1 hD1
  generalize H1 = H at hP hS ⊢
  have hP : va_P (dC, dI) vwCl [(h0, .inr (9, [.ref tp, .int 0, .ref tok, .ref sp, .ref rdr, .int 0, .int (-1), .ref scn, .ref fct, .ref rnr, .ref trl, .ref mnd, .ref rrw])), (fct, .inr (1, [.ref scn, .ref st, .ref se, .ref mk, .ref us, .ref te, .ref g, .ref gc, .int 0, .int 0, .int 0, .int 1, .long 0, .long 0])), (scn, .inr (6, [.ref g, .int (-1), .ref td])), (g, .inr (3, [.ref gc, .ref ga1, .ref ga2, .ref ga3, .ref ga4, .ref ga5, .ref ga6, .ref ga7, .ref ga8, .int 0, .int 0, .int 0, .int 0, .int (-1)])), (mk, .inl (cI, N, .inl f_280))] H := hP
  have hD : va_D A [(h0, .inr (9, [.ref tp, .int 0, .ref tok, .ref sp, .ref rdr, .int 0, .int (-1), .ref scn, .ref fct, .ref rnr, .ref trl, .ref mnd, .ref rrw])), (fct, .inr (1, [.ref scn, .ref st, .ref se, .ref mk, .ref us, .ref te, .ref g, .ref gc, .int 0, .int 0, .int 0, .int 1, .long 0, .long 0])), (scn, .inr (6, [.ref g, .int (-1), .ref td])), (g, .inr (3, [.ref gc, .ref ga1, .ref ga2, .ref ga3, .ref ga4, .ref ga5, .ref ga6, .ref ga7, .ref ga8, .int 0, .int 0, .int 0, .int 0, .int (-1)])), (mk, .inl (cI, N, .inl f_280))] := hD
  refine lv_iconst (v := 0) hx hb dX10_usesOfFact_8 (by decide) ?_
  refine lv_istore_n (lv' := [(2, .int 0), (0, .ref h0), (1, .int 1)]) hx hb dX10_usesOfFact_9 rfl hl (by decide) rfl (fun ls hl => ?_)
  refine lv_iconst (v := 0) hx hb dX10_usesOfFact_10 (by decide) ?_
  refine lv_istore_n (lv' := [(3, .int 0), (2, .int 0), (0, .ref h0), (1, .int 1)]) hx hb dX10_usesOfFact_11 rfl hl (by decide) rfl (fun ls hl => ?_)
  refine lv_iload_n hx hb dX10_usesOfFact_12 rfl (lv_at hl 0 rfl) ?_
  refine lv_aload_n hx hb dX10_usesOfFact_13 rfl (lv_at hl 2 rfl) ?_
  refine va_get (D := (dC, dI)) (ci := 9) (v := .ref scn) (C := RX10) (T := TX10) (N := 13) hx hb hts iwwsX10_usesOfFact_10 hown hK hP 0 rfl rfl 7 (by decide) (hts (.fieldLink RX10 45 "NothingJudge" "scene" "LNothingJudge$Scene;") fwwsX10_usesOfFact_45) (fun _ h9 => h9) rfl dX10_usesOfFact_14 ?_
  refine va_get (D := (dC, dI)) (ci := 6) (v := .ref g) (C := RX7) (T := TX7) (N := 3) hx hb hts iwwsX10_usesOfFact_7 hown hK hP 2 rfl rfl 0 (by decide) (hts (.fieldLink RX10 110 "NothingJudge$Scene" "program" "LNothingJudge$Program;") fwwsX10_usesOfFact_110) (fun _ h9 => h9) rfl dX10_usesOfFact_17 ?_
  refine va_get (D := (dC, dI)) (ci := 3) (v := .int 0) (C := RX3) (T := TX3) (N := 14) hx hb hts iwwsX10_usesOfFact_3 hown hK hP 3 rfl rfl 11 (by decide) (hts (.fieldLink RX10 157 "NothingJudge$Program" "uses" "I") fwwsX10_usesOfFact_157) (fun _ h9 => h9) rfl dX10_usesOfFact_20 ?_
  refine lv_icmp_ge (tgt := 50) hx hb dX10_usesOfFact_23 (by decide) (fun _ => ?_) (fun c9 => absurd (by decide) c9)
  refine lv_iload_n hx hb dX10_usesOfFact_50 rfl (lv_at hl 1 rfl) ?_
  have hP9 := hP.sub (ws' := []) [] rfl
  have hD9 := hD.sub (ws' := []) [] (by decide) rfl
  exact W.iret (v := 0) hx hb hr (fun t ht hW => ⟨⟨0, (), rfl, rfl, by rw [ht]; exact hP9, hD9⟩, hS.F ht⟩) hS.2.2 dX10_usesOfFact_51

set_option maxHeartbeats 4000000 in
set_option maxRecDepth 100000 in
theorem c_count0 (l : Launch) (dC : Nat → ClassId) (dI : Nat → Nat → Nat) (cI cB cL cZ : ClassId) (h0 : Nat) (tp : Nat) (tok : Nat) (sp : Nat) (rdr : Nat) (scn : Nat) (fct : Nat) (rnr : Nat) (trl : Nat) (mnd : Nat) (rrw : Nat) (g : Nat) (td : Nat) (gc : Nat) (ga1 : Nat) (ga2 : Nat) (ga3 : Nat) (ga4 : Nat) (ga5 : Nat) (ga6 : Nat) (ga7 : Nat) (ga8 : Nat) (sz : Nat)  : Met l yX10_count wsX10_count ({ frames := 0, cells := 0, slots := 0, locals := 0 }) (cP (dC, dI) (kTy cI cB cL cZ) [.ref h0, .int 0] [(h0, .inr (9, [.ref tp, .int 0, .ref tok, .ref sp, .ref rdr, .int 0, .int (-1), .ref scn, .ref fct, .ref rnr, .ref trl, .ref mnd, .ref rrw])), (scn, .inr (6, [.ref g, .int (-1), .ref td])), (g, .inr (3, [.ref gc, .ref ga1, .ref ga2, .ref ga3, .ref ga4, .ref ga5, .ref ga6, .ref ga7, .ref ga8, .int 0, .int 0, .int 0, .int 0, .int (-1)]))] sz) (va_Qi (fun (r : Int32) (_ : Unit) => r = 0) (fun (_ : Unit) (t : State) => va_P (dC, dI) vwCl [] t.heap ∧ va_D (va_A [(h0, .inr (9, [.ref tp, .int 0, .ref tok, .ref sp, .ref rdr, .int 0, .int (-1), .ref scn, .ref fct, .ref rnr, .ref trl, .ref mnd, .ref rrw])), (scn, .inr (6, [.ref g, .int (-1), .ref td])), (g, .inr (3, [.ref gc, .ref ga1, .ref ga2, .ref ga3, .ref ga4, .ref ga5, .ref ga6, .ref ga7, .ref ga8, .int 0, .int 0, .int 0, .int 0, .int (-1)]))] sz) []) (va_A [(h0, .inr (9, [.ref tp, .int 0, .ref tok, .ref sp, .ref rdr, .int 0, .int (-1), .ref scn, .ref fct, .ref rnr, .ref trl, .ref mnd, .ref rrw])), (scn, .inr (6, [.ref g, .int (-1), .ref td])), (g, .inr (3, [.ref gc, .ref ga1, .ref ga2, .ref ga3, .ref ga4, .ref ga5, .ref ga6, .ref ga7, .ref ga8, .int 0, .int 0, .int 0, .int 0, .int (-1)]))] sz)) 0 0 (va_A [(h0, .inr (9, [.ref tp, .int 0, .ref tok, .ref sp, .ref rdr, .int 0, .int (-1), .ref scn, .ref fct, .ref rnr, .ref trl, .ref mnd, .ref rrw])), (scn, .inr (6, [.ref g, .int (-1), .ref td])), (g, .inr (3, [.ref gc, .ref ga1, .ref ga2, .ref ga3, .ref ga4, .ref ga5, .ref ga6, .ref ga7, .ref ga8, .int 0, .int 0, .int 0, .int 0, .int (-1)]))] sz) := by
  refine Met.ofW (cc := cX10_count) (maxL := 2) (ret := (some .int)) (by decide) rfl ?_
  intro p e s m args below meth c s₁ B hml hv
  obtain ⟨rfl, hsz, hP, hK, hD0, hN⟩ := hv
  have hx := B.exec
  have hb := B.bytes
  have hr := B.returns
  have hts := atoms_spec (ws := wsX10_count) B.pre
  have hown : s.vm.findClass RX10 = some m.cls := findClass_of_methodNamed B.named
  have hlocks := B.notSynchronized
  subst hsz
  have hD := hD0.self (sz := s.heap.size)
  generalize hAe : va_A [(h0, .inr (9, [.ref tp, .int 0, .ref tok, .ref sp, .ref rdr, .int 0, .int (-1), .ref scn, .ref fct, .ref rnr, .ref trl, .ref mnd, .ref rrw])), (scn, .inr (6, [.ref g, .int (-1), .ref td])), (g, .inr (3, [.ref gc, .ref ga1, .ref ga2, .ref ga3, .ref ga4, .ref ga5, .ref ga6, .ref ga7, .ref ga8, .int 0, .int 0, .int 0, .int 0, .int (-1)]))] s.heap.size = A at hD ⊢
  have hA : ∀ q : Nat, s.heap.size ≤ q → A q := fun q h => by rw [← hAe]; exact Or.inr h
  have hl := lv_entry ([.ref h0, .int 0]) (n := 2) (Nat.le_of_ble_eq_true rfl)
  rw [lg_entry_eq]
  generalize (lg_sl ([.ref h0, .int 0]) ++ List.replicate (2 - (lg_sl ([.ref h0, .int 0])).length) Slot.unset).toArray = ls at hl ⊢
  have hl : lv_has ls 2 [(0, .ref h0), (1, .int 0)] := hl
  refine k_H (A := A) hP (fun H hP hS => ?_)
  have hP : va_P (dC, dI) vwCl [(h0, .inr (9, [.ref tp, .int 0, .ref tok, .ref sp, .ref rdr, .int 0, .int (-1), .ref scn, .ref fct, .ref rnr, .ref trl, .ref mnd, .ref rrw])), (scn, .inr (6, [.ref g, .int (-1), .ref td])), (g, .inr (3, [.ref gc, .ref ga1, .ref ga2, .ref ga3, .ref ga4, .ref ga5, .ref ga6, .ref ga7, .ref ga8, .int 0, .int 0, .int 0, .int 0, .int (-1)]))] H := hP
  have hD : va_D A [(h0, .inr (9, [.ref tp, .int 0, .ref tok, .ref sp, .ref rdr, .int 0, .int (-1), .ref scn, .ref fct, .ref rnr, .ref trl, .ref mnd, .ref rrw])), (scn, .inr (6, [.ref g, .int (-1), .ref td])), (g, .inr (3, [.ref gc, .ref ga1, .ref ga2, .ref ga3, .ref ga4, .ref ga5, .ref ga6, .ref ga7, .ref ga8, .int 0, .int 0, .int 0, .int 0, .int (-1)]))] := hD
  refine lv_iload_n hx hb dX10_count_0 rfl (lv_at hl 1 rfl) ?_
  refine lv_tableIn (off := 39) (tgt := 40) hx hb dX10_count_1 (by decide) (by decide) (by decide) (by decide) ?_
  refine lv_aload_n hx hb dX10_count_40 rfl (lv_at hl 0 rfl) ?_
  refine va_get (D := (dC, dI)) (ci := 9) (v := .ref scn) (C := RX10) (T := TX10) (N := 13) hx hb hts iwwsX10_count_10 hown hK hP 0 rfl rfl 7 (by decide) (hts (.fieldLink RX10 45 "NothingJudge" "scene" "LNothingJudge$Scene;") fwwsX10_count_45) (fun _ h9 => h9) rfl dX10_count_41 ?_
  refine va_get (D := (dC, dI)) (ci := 6) (v := .ref g) (C := RX7) (T := TX7) (N := 3) hx hb hts iwwsX10_count_7 hown hK hP 1 rfl rfl 0 (by decide) (hts (.fieldLink RX10 110 "NothingJudge$Scene" "program" "LNothingJudge$Program;") fwwsX10_count_110) (fun _ h9 => h9) rfl dX10_count_44 ?_
  refine va_get (D := (dC, dI)) (ci := 3) (v := .int 0) (C := RX3) (T := TX3) (N := 14) hx hb hts iwwsX10_count_3 hown hK hP 2 rfl rfl 10 (by decide) (hts (.fieldLink RX10 122 "NothingJudge$Program" "routines" "I") fwwsX10_count_122) (fun _ h9 => h9) rfl dX10_count_47 ?_
  have hP9 := hP.sub (ws' := []) [] rfl
  have hD9 := hD.sub (ws' := []) [] (by decide) rfl
  exact W.iret (v := 0) hx hb hr (fun t ht hW => ⟨⟨0, (), rfl, rfl, by rw [ht]; exact hP9, hD9⟩, hS.F ht⟩) hS.2.2 dX10_count_50

set_option maxHeartbeats 4000000 in
set_option maxRecDepth 100000 in
theorem c_count1 (l : Launch) (dC : Nat → ClassId) (dI : Nat → Nat → Nat) (cI cB cL cZ : ClassId) (h0 : Nat) (tp : Nat) (tok : Nat) (sp : Nat) (rdr : Nat) (scn : Nat) (fct : Nat) (rnr : Nat) (trl : Nat) (mnd : Nat) (rrw : Nat) (g : Nat) (td : Nat) (gc : Nat) (ga1 : Nat) (ga2 : Nat) (ga3 : Nat) (ga4 : Nat) (ga5 : Nat) (ga6 : Nat) (ga7 : Nat) (ga8 : Nat) (sz : Nat)  : Met l yX10_count wsX10_count ({ frames := 0, cells := 0, slots := 0, locals := 0 }) (cP (dC, dI) (kTy cI cB cL cZ) [.ref h0, .int 1] [(h0, .inr (9, [.ref tp, .int 0, .ref tok, .ref sp, .ref rdr, .int 0, .int (-1), .ref scn, .ref fct, .ref rnr, .ref trl, .ref mnd, .ref rrw])), (scn, .inr (6, [.ref g, .int (-1), .ref td])), (g, .inr (3, [.ref gc, .ref ga1, .ref ga2, .ref ga3, .ref ga4, .ref ga5, .ref ga6, .ref ga7, .ref ga8, .int 0, .int 0, .int 0, .int 0, .int (-1)]))] sz) (va_Qi (fun (r : Int32) (_ : Unit) => r = 0) (fun (_ : Unit) (t : State) => va_P (dC, dI) vwCl [] t.heap ∧ va_D (va_A [(h0, .inr (9, [.ref tp, .int 0, .ref tok, .ref sp, .ref rdr, .int 0, .int (-1), .ref scn, .ref fct, .ref rnr, .ref trl, .ref mnd, .ref rrw])), (scn, .inr (6, [.ref g, .int (-1), .ref td])), (g, .inr (3, [.ref gc, .ref ga1, .ref ga2, .ref ga3, .ref ga4, .ref ga5, .ref ga6, .ref ga7, .ref ga8, .int 0, .int 0, .int 0, .int 0, .int (-1)]))] sz) []) (va_A [(h0, .inr (9, [.ref tp, .int 0, .ref tok, .ref sp, .ref rdr, .int 0, .int (-1), .ref scn, .ref fct, .ref rnr, .ref trl, .ref mnd, .ref rrw])), (scn, .inr (6, [.ref g, .int (-1), .ref td])), (g, .inr (3, [.ref gc, .ref ga1, .ref ga2, .ref ga3, .ref ga4, .ref ga5, .ref ga6, .ref ga7, .ref ga8, .int 0, .int 0, .int 0, .int 0, .int (-1)]))] sz)) 0 0 (va_A [(h0, .inr (9, [.ref tp, .int 0, .ref tok, .ref sp, .ref rdr, .int 0, .int (-1), .ref scn, .ref fct, .ref rnr, .ref trl, .ref mnd, .ref rrw])), (scn, .inr (6, [.ref g, .int (-1), .ref td])), (g, .inr (3, [.ref gc, .ref ga1, .ref ga2, .ref ga3, .ref ga4, .ref ga5, .ref ga6, .ref ga7, .ref ga8, .int 0, .int 0, .int 0, .int 0, .int (-1)]))] sz) := by
  refine Met.ofW (cc := cX10_count) (maxL := 2) (ret := (some .int)) (by decide) rfl ?_
  intro p e s m args below meth c s₁ B hml hv
  obtain ⟨rfl, hsz, hP, hK, hD0, hN⟩ := hv
  have hx := B.exec
  have hb := B.bytes
  have hr := B.returns
  have hts := atoms_spec (ws := wsX10_count) B.pre
  have hown : s.vm.findClass RX10 = some m.cls := findClass_of_methodNamed B.named
  have hlocks := B.notSynchronized
  subst hsz
  have hD := hD0.self (sz := s.heap.size)
  generalize hAe : va_A [(h0, .inr (9, [.ref tp, .int 0, .ref tok, .ref sp, .ref rdr, .int 0, .int (-1), .ref scn, .ref fct, .ref rnr, .ref trl, .ref mnd, .ref rrw])), (scn, .inr (6, [.ref g, .int (-1), .ref td])), (g, .inr (3, [.ref gc, .ref ga1, .ref ga2, .ref ga3, .ref ga4, .ref ga5, .ref ga6, .ref ga7, .ref ga8, .int 0, .int 0, .int 0, .int 0, .int (-1)]))] s.heap.size = A at hD ⊢
  have hA : ∀ q : Nat, s.heap.size ≤ q → A q := fun q h => by rw [← hAe]; exact Or.inr h
  have hl := lv_entry ([.ref h0, .int 1]) (n := 2) (Nat.le_of_ble_eq_true rfl)
  rw [lg_entry_eq]
  generalize (lg_sl ([.ref h0, .int 1]) ++ List.replicate (2 - (lg_sl ([.ref h0, .int 1])).length) Slot.unset).toArray = ls at hl ⊢
  have hl : lv_has ls 2 [(0, .ref h0), (1, .int 1)] := hl
  refine k_H (A := A) hP (fun H hP hS => ?_)
  have hP : va_P (dC, dI) vwCl [(h0, .inr (9, [.ref tp, .int 0, .ref tok, .ref sp, .ref rdr, .int 0, .int (-1), .ref scn, .ref fct, .ref rnr, .ref trl, .ref mnd, .ref rrw])), (scn, .inr (6, [.ref g, .int (-1), .ref td])), (g, .inr (3, [.ref gc, .ref ga1, .ref ga2, .ref ga3, .ref ga4, .ref ga5, .ref ga6, .ref ga7, .ref ga8, .int 0, .int 0, .int 0, .int 0, .int (-1)]))] H := hP
  have hD : va_D A [(h0, .inr (9, [.ref tp, .int 0, .ref tok, .ref sp, .ref rdr, .int 0, .int (-1), .ref scn, .ref fct, .ref rnr, .ref trl, .ref mnd, .ref rrw])), (scn, .inr (6, [.ref g, .int (-1), .ref td])), (g, .inr (3, [.ref gc, .ref ga1, .ref ga2, .ref ga3, .ref ga4, .ref ga5, .ref ga6, .ref ga7, .ref ga8, .int 0, .int 0, .int 0, .int 0, .int (-1)]))] := hD
  refine lv_iload_n hx hb dX10_count_0 rfl (lv_at hl 1 rfl) ?_
  refine lv_tableIn (off := 50) (tgt := 51) hx hb dX10_count_1 (by decide) (by decide) (by decide) (by decide) ?_
  refine lv_aload_n hx hb dX10_count_51 rfl (lv_at hl 0 rfl) ?_
  refine va_get (D := (dC, dI)) (ci := 9) (v := .ref scn) (C := RX10) (T := TX10) (N := 13) hx hb hts iwwsX10_count_10 hown hK hP 0 rfl rfl 7 (by decide) (hts (.fieldLink RX10 45 "NothingJudge" "scene" "LNothingJudge$Scene;") fwwsX10_count_45) (fun _ h9 => h9) rfl dX10_count_52 ?_
  refine va_get (D := (dC, dI)) (ci := 6) (v := .ref g) (C := RX7) (T := TX7) (N := 3) hx hb hts iwwsX10_count_7 hown hK hP 1 rfl rfl 0 (by decide) (hts (.fieldLink RX10 110 "NothingJudge$Scene" "program" "LNothingJudge$Program;") fwwsX10_count_110) (fun _ h9 => h9) rfl dX10_count_55 ?_
  refine va_get (D := (dC, dI)) (ci := 3) (v := .int 0) (C := RX3) (T := TX3) (N := 14) hx hb hts iwwsX10_count_3 hown hK hP 2 rfl rfl 11 (by decide) (hts (.fieldLink RX10 157 "NothingJudge$Program" "uses" "I") fwwsX10_count_157) (fun _ h9 => h9) rfl dX10_count_58 ?_
  have hP9 := hP.sub (ws' := []) [] rfl
  have hD9 := hD.sub (ws' := []) [] (by decide) rfl
  exact W.iret (v := 0) hx hb hr (fun t ht hW => ⟨⟨0, (), rfl, rfl, by rw [ht]; exact hP9, hD9⟩, hS.F ht⟩) hS.2.2 dX10_count_61

set_option maxHeartbeats 4000000 in
set_option maxRecDepth 100000 in
theorem c_count2 (l : Launch) (dC : Nat → ClassId) (dI : Nat → Nat → Nat) (cI cB cL cZ : ClassId) (h0 : Nat) (tp : Nat) (tok : Nat) (sp : Nat) (rdr : Nat) (scn : Nat) (fct : Nat) (rnr : Nat) (trl : Nat) (mnd : Nat) (rrw : Nat) (g : Nat) (td : Nat) (gc : Nat) (ga1 : Nat) (ga2 : Nat) (ga3 : Nat) (ga4 : Nat) (ga5 : Nat) (ga6 : Nat) (ga7 : Nat) (ga8 : Nat) (sz : Nat)  : Met l yX10_count wsX10_count ({ frames := 0, cells := 0, slots := 0, locals := 0 }) (cP (dC, dI) (kTy cI cB cL cZ) [.ref h0, .int 2] [(h0, .inr (9, [.ref tp, .int 0, .ref tok, .ref sp, .ref rdr, .int 0, .int (-1), .ref scn, .ref fct, .ref rnr, .ref trl, .ref mnd, .ref rrw])), (scn, .inr (6, [.ref g, .int (-1), .ref td])), (g, .inr (3, [.ref gc, .ref ga1, .ref ga2, .ref ga3, .ref ga4, .ref ga5, .ref ga6, .ref ga7, .ref ga8, .int 0, .int 0, .int 0, .int 0, .int (-1)]))] sz) (va_Qi (fun (r : Int32) (_ : Unit) => r = 0) (fun (_ : Unit) (t : State) => va_P (dC, dI) vwCl [] t.heap ∧ va_D (va_A [(h0, .inr (9, [.ref tp, .int 0, .ref tok, .ref sp, .ref rdr, .int 0, .int (-1), .ref scn, .ref fct, .ref rnr, .ref trl, .ref mnd, .ref rrw])), (scn, .inr (6, [.ref g, .int (-1), .ref td])), (g, .inr (3, [.ref gc, .ref ga1, .ref ga2, .ref ga3, .ref ga4, .ref ga5, .ref ga6, .ref ga7, .ref ga8, .int 0, .int 0, .int 0, .int 0, .int (-1)]))] sz) []) (va_A [(h0, .inr (9, [.ref tp, .int 0, .ref tok, .ref sp, .ref rdr, .int 0, .int (-1), .ref scn, .ref fct, .ref rnr, .ref trl, .ref mnd, .ref rrw])), (scn, .inr (6, [.ref g, .int (-1), .ref td])), (g, .inr (3, [.ref gc, .ref ga1, .ref ga2, .ref ga3, .ref ga4, .ref ga5, .ref ga6, .ref ga7, .ref ga8, .int 0, .int 0, .int 0, .int 0, .int (-1)]))] sz)) 0 0 (va_A [(h0, .inr (9, [.ref tp, .int 0, .ref tok, .ref sp, .ref rdr, .int 0, .int (-1), .ref scn, .ref fct, .ref rnr, .ref trl, .ref mnd, .ref rrw])), (scn, .inr (6, [.ref g, .int (-1), .ref td])), (g, .inr (3, [.ref gc, .ref ga1, .ref ga2, .ref ga3, .ref ga4, .ref ga5, .ref ga6, .ref ga7, .ref ga8, .int 0, .int 0, .int 0, .int 0, .int (-1)]))] sz) := by
  refine Met.ofW (cc := cX10_count) (maxL := 2) (ret := (some .int)) (by decide) rfl ?_
  intro p e s m args below meth c s₁ B hml hv
  obtain ⟨rfl, hsz, hP, hK, hD0, hN⟩ := hv
  have hx := B.exec
  have hb := B.bytes
  have hr := B.returns
  have hts := atoms_spec (ws := wsX10_count) B.pre
  have hown : s.vm.findClass RX10 = some m.cls := findClass_of_methodNamed B.named
  have hlocks := B.notSynchronized
  subst hsz
  have hD := hD0.self (sz := s.heap.size)
  generalize hAe : va_A [(h0, .inr (9, [.ref tp, .int 0, .ref tok, .ref sp, .ref rdr, .int 0, .int (-1), .ref scn, .ref fct, .ref rnr, .ref trl, .ref mnd, .ref rrw])), (scn, .inr (6, [.ref g, .int (-1), .ref td])), (g, .inr (3, [.ref gc, .ref ga1, .ref ga2, .ref ga3, .ref ga4, .ref ga5, .ref ga6, .ref ga7, .ref ga8, .int 0, .int 0, .int 0, .int 0, .int (-1)]))] s.heap.size = A at hD ⊢
  have hA : ∀ q : Nat, s.heap.size ≤ q → A q := fun q h => by rw [← hAe]; exact Or.inr h
  have hl := lv_entry ([.ref h0, .int 2]) (n := 2) (Nat.le_of_ble_eq_true rfl)
  rw [lg_entry_eq]
  generalize (lg_sl ([.ref h0, .int 2]) ++ List.replicate (2 - (lg_sl ([.ref h0, .int 2])).length) Slot.unset).toArray = ls at hl ⊢
  have hl : lv_has ls 2 [(0, .ref h0), (1, .int 2)] := hl
  refine k_H (A := A) hP (fun H hP hS => ?_)
  have hP : va_P (dC, dI) vwCl [(h0, .inr (9, [.ref tp, .int 0, .ref tok, .ref sp, .ref rdr, .int 0, .int (-1), .ref scn, .ref fct, .ref rnr, .ref trl, .ref mnd, .ref rrw])), (scn, .inr (6, [.ref g, .int (-1), .ref td])), (g, .inr (3, [.ref gc, .ref ga1, .ref ga2, .ref ga3, .ref ga4, .ref ga5, .ref ga6, .ref ga7, .ref ga8, .int 0, .int 0, .int 0, .int 0, .int (-1)]))] H := hP
  have hD : va_D A [(h0, .inr (9, [.ref tp, .int 0, .ref tok, .ref sp, .ref rdr, .int 0, .int (-1), .ref scn, .ref fct, .ref rnr, .ref trl, .ref mnd, .ref rrw])), (scn, .inr (6, [.ref g, .int (-1), .ref td])), (g, .inr (3, [.ref gc, .ref ga1, .ref ga2, .ref ga3, .ref ga4, .ref ga5, .ref ga6, .ref ga7, .ref ga8, .int 0, .int 0, .int 0, .int 0, .int (-1)]))] := hD
  refine lv_iload_n hx hb dX10_count_0 rfl (lv_at hl 1 rfl) ?_
  refine lv_tableIn (off := 61) (tgt := 62) hx hb dX10_count_1 (by decide) (by decide) (by decide) (by decide) ?_
  refine lv_aload_n hx hb dX10_count_62 rfl (lv_at hl 0 rfl) ?_
  refine va_get (D := (dC, dI)) (ci := 9) (v := .ref scn) (C := RX10) (T := TX10) (N := 13) hx hb hts iwwsX10_count_10 hown hK hP 0 rfl rfl 7 (by decide) (hts (.fieldLink RX10 45 "NothingJudge" "scene" "LNothingJudge$Scene;") fwwsX10_count_45) (fun _ h9 => h9) rfl dX10_count_63 ?_
  refine va_get (D := (dC, dI)) (ci := 6) (v := .ref g) (C := RX7) (T := TX7) (N := 3) hx hb hts iwwsX10_count_7 hown hK hP 1 rfl rfl 0 (by decide) (hts (.fieldLink RX10 110 "NothingJudge$Scene" "program" "LNothingJudge$Program;") fwwsX10_count_110) (fun _ h9 => h9) rfl dX10_count_66 ?_
  refine va_get (D := (dC, dI)) (ci := 3) (v := .int 0) (C := RX3) (T := TX3) (N := 14) hx hb hts iwwsX10_count_3 hown hK hP 2 rfl rfl 12 (by decide) (hts (.fieldLink RX10 176 "NothingJudge$Program" "tests" "I") fwwsX10_count_176) (fun _ h9 => h9) rfl dX10_count_69 ?_
  have hP9 := hP.sub (ws' := []) [] rfl
  have hD9 := hD.sub (ws' := []) [] (by decide) rfl
  exact W.iret (v := 0) hx hb hr (fun t ht hW => ⟨⟨0, (), rfl, rfl, by rw [ht]; exact hP9, hD9⟩, hS.F ht⟩) hS.2.2 dX10_count_72

set_option maxHeartbeats 4000000 in
set_option maxRecDepth 100000 in
theorem c_count3 (l : Launch) (dC : Nat → ClassId) (dI : Nat → Nat → Nat) (cI cB cL cZ : ClassId) (h0 : Nat) (tp : Nat) (tok : Nat) (sp : Nat) (rdr : Nat) (scn : Nat) (fct : Nat) (rnr : Nat) (trl : Nat) (mnd : Nat) (rrw : Nat) (g : Nat) (td : Nat) (gc : Nat) (ga1 : Nat) (ga2 : Nat) (ga3 : Nat) (ga4 : Nat) (ga5 : Nat) (ga6 : Nat) (ga7 : Nat) (ga8 : Nat) (sz : Nat)  : Met l yX10_count wsX10_count ({ frames := 0, cells := 0, slots := 0, locals := 0 }) (cP (dC, dI) (kTy cI cB cL cZ) [.ref h0, .int 3] [(h0, .inr (9, [.ref tp, .int 0, .ref tok, .ref sp, .ref rdr, .int 0, .int (-1), .ref scn, .ref fct, .ref rnr, .ref trl, .ref mnd, .ref rrw])), (scn, .inr (6, [.ref g, .int (-1), .ref td])), (g, .inr (3, [.ref gc, .ref ga1, .ref ga2, .ref ga3, .ref ga4, .ref ga5, .ref ga6, .ref ga7, .ref ga8, .int 0, .int 0, .int 0, .int 0, .int (-1)]))] sz) (va_Qi (fun (r : Int32) (_ : Unit) => r = (-1)) (fun (_ : Unit) (t : State) => va_P (dC, dI) vwCl [] t.heap ∧ va_D (va_A [(h0, .inr (9, [.ref tp, .int 0, .ref tok, .ref sp, .ref rdr, .int 0, .int (-1), .ref scn, .ref fct, .ref rnr, .ref trl, .ref mnd, .ref rrw])), (scn, .inr (6, [.ref g, .int (-1), .ref td])), (g, .inr (3, [.ref gc, .ref ga1, .ref ga2, .ref ga3, .ref ga4, .ref ga5, .ref ga6, .ref ga7, .ref ga8, .int 0, .int 0, .int 0, .int 0, .int (-1)]))] sz) []) (va_A [(h0, .inr (9, [.ref tp, .int 0, .ref tok, .ref sp, .ref rdr, .int 0, .int (-1), .ref scn, .ref fct, .ref rnr, .ref trl, .ref mnd, .ref rrw])), (scn, .inr (6, [.ref g, .int (-1), .ref td])), (g, .inr (3, [.ref gc, .ref ga1, .ref ga2, .ref ga3, .ref ga4, .ref ga5, .ref ga6, .ref ga7, .ref ga8, .int 0, .int 0, .int 0, .int 0, .int (-1)]))] sz)) 0 0 (va_A [(h0, .inr (9, [.ref tp, .int 0, .ref tok, .ref sp, .ref rdr, .int 0, .int (-1), .ref scn, .ref fct, .ref rnr, .ref trl, .ref mnd, .ref rrw])), (scn, .inr (6, [.ref g, .int (-1), .ref td])), (g, .inr (3, [.ref gc, .ref ga1, .ref ga2, .ref ga3, .ref ga4, .ref ga5, .ref ga6, .ref ga7, .ref ga8, .int 0, .int 0, .int 0, .int 0, .int (-1)]))] sz) := by
  refine Met.ofW (cc := cX10_count) (maxL := 2) (ret := (some .int)) (by decide) rfl ?_
  intro p e s m args below meth c s₁ B hml hv
  obtain ⟨rfl, hsz, hP, hK, hD0, hN⟩ := hv
  have hx := B.exec
  have hb := B.bytes
  have hr := B.returns
  have hts := atoms_spec (ws := wsX10_count) B.pre
  have hown : s.vm.findClass RX10 = some m.cls := findClass_of_methodNamed B.named
  have hlocks := B.notSynchronized
  subst hsz
  have hD := hD0.self (sz := s.heap.size)
  generalize hAe : va_A [(h0, .inr (9, [.ref tp, .int 0, .ref tok, .ref sp, .ref rdr, .int 0, .int (-1), .ref scn, .ref fct, .ref rnr, .ref trl, .ref mnd, .ref rrw])), (scn, .inr (6, [.ref g, .int (-1), .ref td])), (g, .inr (3, [.ref gc, .ref ga1, .ref ga2, .ref ga3, .ref ga4, .ref ga5, .ref ga6, .ref ga7, .ref ga8, .int 0, .int 0, .int 0, .int 0, .int (-1)]))] s.heap.size = A at hD ⊢
  have hA : ∀ q : Nat, s.heap.size ≤ q → A q := fun q h => by rw [← hAe]; exact Or.inr h
  have hl := lv_entry ([.ref h0, .int 3]) (n := 2) (Nat.le_of_ble_eq_true rfl)
  rw [lg_entry_eq]
  generalize (lg_sl ([.ref h0, .int 3]) ++ List.replicate (2 - (lg_sl ([.ref h0, .int 3])).length) Slot.unset).toArray = ls at hl ⊢
  have hl : lv_has ls 2 [(0, .ref h0), (1, .int 3)] := hl
  refine k_H (A := A) hP (fun H hP hS => ?_)
  have hP : va_P (dC, dI) vwCl [(h0, .inr (9, [.ref tp, .int 0, .ref tok, .ref sp, .ref rdr, .int 0, .int (-1), .ref scn, .ref fct, .ref rnr, .ref trl, .ref mnd, .ref rrw])), (scn, .inr (6, [.ref g, .int (-1), .ref td])), (g, .inr (3, [.ref gc, .ref ga1, .ref ga2, .ref ga3, .ref ga4, .ref ga5, .ref ga6, .ref ga7, .ref ga8, .int 0, .int 0, .int 0, .int 0, .int (-1)]))] H := hP
  have hD : va_D A [(h0, .inr (9, [.ref tp, .int 0, .ref tok, .ref sp, .ref rdr, .int 0, .int (-1), .ref scn, .ref fct, .ref rnr, .ref trl, .ref mnd, .ref rrw])), (scn, .inr (6, [.ref g, .int (-1), .ref td])), (g, .inr (3, [.ref gc, .ref ga1, .ref ga2, .ref ga3, .ref ga4, .ref ga5, .ref ga6, .ref ga7, .ref ga8, .int 0, .int 0, .int 0, .int 0, .int (-1)]))] := hD
  refine lv_iload_n hx hb dX10_count_0 rfl (lv_at hl 1 rfl) ?_
  refine lv_tableIn (off := 72) (tgt := 73) hx hb dX10_count_1 (by decide) (by decide) (by decide) (by decide) ?_
  refine lv_aload_n hx hb dX10_count_73 rfl (lv_at hl 0 rfl) ?_
  refine va_get (D := (dC, dI)) (ci := 9) (v := .ref scn) (C := RX10) (T := TX10) (N := 13) hx hb hts iwwsX10_count_10 hown hK hP 0 rfl rfl 7 (by decide) (hts (.fieldLink RX10 45 "NothingJudge" "scene" "LNothingJudge$Scene;") fwwsX10_count_45) (fun _ h9 => h9) rfl dX10_count_74 ?_
  refine va_get (D := (dC, dI)) (ci := 6) (v := .int (-1)) (C := RX7) (T := TX7) (N := 3) hx hb hts iwwsX10_count_7 hown hK hP 1 rfl rfl 1 (by decide) (hts (.fieldLink RX10 240 "NothingJudge$Scene" "start" "I") fwwsX10_count_240) (fun _ h9 => h9) rfl dX10_count_77 ?_
  have hP9 := hP.sub (ws' := []) [] rfl
  have hD9 := hD.sub (ws' := []) [] (by decide) rfl
  exact W.iret (v := (-1)) hx hb hr (fun t ht hW => ⟨⟨(-1), (), rfl, rfl, by rw [ht]; exact hP9, hD9⟩, hS.F ht⟩) hS.2.2 dX10_count_80

set_option maxHeartbeats 4000000 in
set_option maxRecDepth 100000 in
theorem c_count4 (l : Launch) (dC : Nat → ClassId) (dI : Nat → Nat → Nat) (cI cB cL cZ : ClassId) (h0 : Nat) (tp : Nat) (tok : Nat) (sp : Nat) (rdr : Nat) (scn : Nat) (fct : Nat) (rnr : Nat) (trl : Nat) (mnd : Nat) (rrw : Nat) (g : Nat) (td : Nat) (gc : Nat) (ga1 : Nat) (ga2 : Nat) (ga3 : Nat) (ga4 : Nat) (ga5 : Nat) (ga6 : Nat) (ga7 : Nat) (ga8 : Nat) (gcc : Nat) (st : Nat) (se : Nat) (mk : Nat) (us : Nat) (te : Nat) (f1 : Nat → Int64) (f2 : Nat → Int32) (f3 : Nat → Int32) (f4 : Nat → Int32) (f5 : Nat → Int32) (sz : Nat)  : Met l yX10_count wsX10_count ({ frames := 4, cells := 0, slots := 0, locals := 91 }) (cP (dC, dI) (kTy cI cB cL cZ) [.ref h0, .int 4] [(h0, .inr (9, [.ref tp, .int 0, .ref tok, .ref sp, .ref rdr, .int 0, .int (-1), .ref scn, .ref fct, .ref rnr, .ref trl, .ref mnd, .ref rrw])), (fct, .inr (1, [.ref scn, .ref st, .ref se, .ref mk, .ref us, .ref te, .ref g, .ref gc, .int 1, .int 0, .int 0, .int 0, .long 0, .long 0])), (scn, .inr (6, [.ref g, .int (-1), .ref td])), (g, .inr (3, [.ref gc, .ref ga1, .ref ga2, .ref ga3, .ref ga4, .ref ga5, .ref ga6, .ref ga7, .ref ga8, .int 0, .int 0, .int 0, .int 0, .int (-1)])), (gc, .inr (0, [.ref gcc, .int 0])), (st, .inl (cL, 304, .inr (.inl f1))), (se, .inl (cI, 304, .inl f2)), (mk, .inl (cI, 42, .inl f3)), (us, .inl (cI, 40, .inl f4)), (te, .inl (cI, 24, .inl f5))] sz) (va_Qi (fun (r : Int32) (_ : Unit) => r = 0) (fun (_ : Unit) (t : State) => va_P (dC, dI) vwCl [] t.heap ∧ va_D (va_A [(h0, .inr (9, [.ref tp, .int 0, .ref tok, .ref sp, .ref rdr, .int 0, .int (-1), .ref scn, .ref fct, .ref rnr, .ref trl, .ref mnd, .ref rrw])), (fct, .inr (1, [.ref scn, .ref st, .ref se, .ref mk, .ref us, .ref te, .ref g, .ref gc, .int 1, .int 0, .int 0, .int 0, .long 0, .long 0])), (scn, .inr (6, [.ref g, .int (-1), .ref td])), (g, .inr (3, [.ref gc, .ref ga1, .ref ga2, .ref ga3, .ref ga4, .ref ga5, .ref ga6, .ref ga7, .ref ga8, .int 0, .int 0, .int 0, .int 0, .int (-1)])), (gc, .inr (0, [.ref gcc, .int 0])), (st, .inl (cL, 304, .inr (.inl f1))), (se, .inl (cI, 304, .inl f2)), (mk, .inl (cI, 42, .inl f3)), (us, .inl (cI, 40, .inl f4)), (te, .inl (cI, 24, .inl f5))] sz) []) (va_A [(h0, .inr (9, [.ref tp, .int 0, .ref tok, .ref sp, .ref rdr, .int 0, .int (-1), .ref scn, .ref fct, .ref rnr, .ref trl, .ref mnd, .ref rrw])), (fct, .inr (1, [.ref scn, .ref st, .ref se, .ref mk, .ref us, .ref te, .ref g, .ref gc, .int 1, .int 0, .int 0, .int 0, .long 0, .long 0])), (scn, .inr (6, [.ref g, .int (-1), .ref td])), (g, .inr (3, [.ref gc, .ref ga1, .ref ga2, .ref ga3, .ref ga4, .ref ga5, .ref ga6, .ref ga7, .ref ga8, .int 0, .int 0, .int 0, .int 0, .int (-1)])), (gc, .inr (0, [.ref gcc, .int 0])), (st, .inl (cL, 304, .inr (.inl f1))), (se, .inl (cI, 304, .inl f2)), (mk, .inl (cI, 42, .inl f3)), (us, .inl (cI, 40, .inl f4)), (te, .inl (cI, 24, .inl f5))] sz)) 0 0 (va_A [(h0, .inr (9, [.ref tp, .int 0, .ref tok, .ref sp, .ref rdr, .int 0, .int (-1), .ref scn, .ref fct, .ref rnr, .ref trl, .ref mnd, .ref rrw])), (fct, .inr (1, [.ref scn, .ref st, .ref se, .ref mk, .ref us, .ref te, .ref g, .ref gc, .int 1, .int 0, .int 0, .int 0, .long 0, .long 0])), (scn, .inr (6, [.ref g, .int (-1), .ref td])), (g, .inr (3, [.ref gc, .ref ga1, .ref ga2, .ref ga3, .ref ga4, .ref ga5, .ref ga6, .ref ga7, .ref ga8, .int 0, .int 0, .int 0, .int 0, .int (-1)])), (gc, .inr (0, [.ref gcc, .int 0])), (st, .inl (cL, 304, .inr (.inl f1))), (se, .inl (cI, 304, .inl f2)), (mk, .inl (cI, 42, .inl f3)), (us, .inl (cI, 40, .inl f4)), (te, .inl (cI, 24, .inl f5))] sz) := by
  refine Met.ofW (cc := cX10_count) (maxL := 2) (ret := (some .int)) (by decide) rfl ?_
  intro p e s m args below meth c s₁ B hml hv
  obtain ⟨rfl, hsz, hP, hK, hD0, hN⟩ := hv
  have hx := B.exec
  have hb := B.bytes
  have hr := B.returns
  have hts := atoms_spec (ws := wsX10_count) B.pre
  have hown : s.vm.findClass RX10 = some m.cls := findClass_of_methodNamed B.named
  have hlocks := B.notSynchronized
  subst hsz
  have hD := hD0.self (sz := s.heap.size)
  generalize hAe : va_A [(h0, .inr (9, [.ref tp, .int 0, .ref tok, .ref sp, .ref rdr, .int 0, .int (-1), .ref scn, .ref fct, .ref rnr, .ref trl, .ref mnd, .ref rrw])), (fct, .inr (1, [.ref scn, .ref st, .ref se, .ref mk, .ref us, .ref te, .ref g, .ref gc, .int 1, .int 0, .int 0, .int 0, .long 0, .long 0])), (scn, .inr (6, [.ref g, .int (-1), .ref td])), (g, .inr (3, [.ref gc, .ref ga1, .ref ga2, .ref ga3, .ref ga4, .ref ga5, .ref ga6, .ref ga7, .ref ga8, .int 0, .int 0, .int 0, .int 0, .int (-1)])), (gc, .inr (0, [.ref gcc, .int 0])), (st, .inl (cL, 304, .inr (.inl f1))), (se, .inl (cI, 304, .inl f2)), (mk, .inl (cI, 42, .inl f3)), (us, .inl (cI, 40, .inl f4)), (te, .inl (cI, 24, .inl f5))] s.heap.size = A at hD ⊢
  have hA : ∀ q : Nat, s.heap.size ≤ q → A q := fun q h => by rw [← hAe]; exact Or.inr h
  have hl := lv_entry ([.ref h0, .int 4]) (n := 2) (Nat.le_of_ble_eq_true rfl)
  rw [lg_entry_eq]
  generalize (lg_sl ([.ref h0, .int 4]) ++ List.replicate (2 - (lg_sl ([.ref h0, .int 4])).length) Slot.unset).toArray = ls at hl ⊢
  have hl : lv_has ls 2 [(0, .ref h0), (1, .int 4)] := hl
  refine k_H (A := A) hP (fun H hP hS => ?_)
  have hP : va_P (dC, dI) vwCl [(h0, .inr (9, [.ref tp, .int 0, .ref tok, .ref sp, .ref rdr, .int 0, .int (-1), .ref scn, .ref fct, .ref rnr, .ref trl, .ref mnd, .ref rrw])), (fct, .inr (1, [.ref scn, .ref st, .ref se, .ref mk, .ref us, .ref te, .ref g, .ref gc, .int 1, .int 0, .int 0, .int 0, .long 0, .long 0])), (scn, .inr (6, [.ref g, .int (-1), .ref td])), (g, .inr (3, [.ref gc, .ref ga1, .ref ga2, .ref ga3, .ref ga4, .ref ga5, .ref ga6, .ref ga7, .ref ga8, .int 0, .int 0, .int 0, .int 0, .int (-1)])), (gc, .inr (0, [.ref gcc, .int 0])), (st, .inl (cL, 304, .inr (.inl f1))), (se, .inl (cI, 304, .inl f2)), (mk, .inl (cI, 42, .inl f3)), (us, .inl (cI, 40, .inl f4)), (te, .inl (cI, 24, .inl f5))] H := hP
  have hD : va_D A [(h0, .inr (9, [.ref tp, .int 0, .ref tok, .ref sp, .ref rdr, .int 0, .int (-1), .ref scn, .ref fct, .ref rnr, .ref trl, .ref mnd, .ref rrw])), (fct, .inr (1, [.ref scn, .ref st, .ref se, .ref mk, .ref us, .ref te, .ref g, .ref gc, .int 1, .int 0, .int 0, .int 0, .long 0, .long 0])), (scn, .inr (6, [.ref g, .int (-1), .ref td])), (g, .inr (3, [.ref gc, .ref ga1, .ref ga2, .ref ga3, .ref ga4, .ref ga5, .ref ga6, .ref ga7, .ref ga8, .int 0, .int 0, .int 0, .int 0, .int (-1)])), (gc, .inr (0, [.ref gcc, .int 0])), (st, .inl (cL, 304, .inr (.inl f1))), (se, .inl (cI, 304, .inl f2)), (mk, .inl (cI, 42, .inl f3)), (us, .inl (cI, 40, .inl f4)), (te, .inl (cI, 24, .inl f5))] := hD
  refine lv_iload_n hx hb dX10_count_0 rfl (lv_at hl 1 rfl) ?_
  refine lv_tableIn (off := 80) (tgt := 81) hx hb dX10_count_1 (by decide) (by decide) (by decide) (by decide) ?_
  refine lv_aload_n hx hb dX10_count_81 rfl (lv_at hl 0 rfl) ?_
  refine lv_iconst (v := 3) hx hb dX10_count_82 (by decide) ?_
  have hPc := hP.sub (ws' := [(h0, .inr (9, [.ref tp, .int 0, .ref tok, .ref sp, .ref rdr, .int 0, .int (-1), .ref scn, .ref fct, .ref rnr, .ref trl, .ref mnd, .ref rrw])), (fct, .inr (1, [.ref scn, .ref st, .ref se, .ref mk, .ref us, .ref te, .ref g, .ref gc, .int 1, .int 0, .int 0, .int 0, .long 0, .long 0])), (scn, .inr (6, [.ref g, .int (-1), .ref td])), (g, .inr (3, [.ref gc, .ref ga1, .ref ga2, .ref ga3, .ref ga4, .ref ga5, .ref ga6, .ref ga7, .ref ga8, .int 0, .int 0, .int 0, .int 0, .int (-1)])), (gc, .inr (0, [.ref gcc, .int 0])), (st, .inl (cL, 304, .inr (.inl f1))), (se, .inl (cI, 304, .inl f2)), (mk, .inl (cI, 42, .inl f3)), (us, .inl (cI, 40, .inl f4)), (te, .inl (cI, 24, .inl f5))]) [0, 1, 2, 3, 4, 5, 6, 7, 8, 9] rfl
  have hDc := hD.sub (ws' := [(h0, .inr (9, [.ref tp, .int 0, .ref tok, .ref sp, .ref rdr, .int 0, .int (-1), .ref scn, .ref fct, .ref rnr, .ref trl, .ref mnd, .ref rrw])), (fct, .inr (1, [.ref scn, .ref st, .ref se, .ref mk, .ref us, .ref te, .ref g, .ref gc, .int 1, .int 0, .int 0, .int 0, .long 0, .long 0])), (scn, .inr (6, [.ref g, .int (-1), .ref td])), (g, .inr (3, [.ref gc, .ref ga1, .ref ga2, .ref ga3, .ref ga4, .ref ga5, .ref ga6, .ref ga7, .ref ga8, .int 0, .int 0, .int 0, .int 0, .int (-1)])), (gc, .inr (0, [.ref gcc, .int 0])), (st, .inl (cL, 304, .inr (.inl f1))), (se, .inl (cI, 304, .inl f2)), (mk, .inl (cI, 42, .inl f3)), (us, .inl (cI, 40, .inl f4)), (te, .inl (cI, 24, .inl f5))]) [0, 1, 2, 3, 4, 5, 6, 7, 8, 9] (by decide) rfl
  have hFc := va_free (wc := [(h0, .inr (9, [.ref tp, .int 0, .ref tok, .ref sp, .ref rdr, .int 0, .int (-1), .ref scn, .ref fct, .ref rnr, .ref trl, .ref mnd, .ref rrw])), (fct, .inr (1, [.ref scn, .ref st, .ref se, .ref mk, .ref us, .ref te, .ref g, .ref gc, .int 1, .int 0, .int 0, .int 0, .long 0, .long 0])), (scn, .inr (6, [.ref g, .int (-1), .ref td])), (g, .inr (3, [.ref gc, .ref ga1, .ref ga2, .ref ga3, .ref ga4, .ref ga5, .ref ga6, .ref ga7, .ref ga8, .int 0, .int 0, .int 0, .int 0, .int (-1)])), (gc, .inr (0, [.ref gcc, .int 0])), (st, .inl (cL, 304, .inr (.inl f1))), (se, .inl (cI, 304, .inl f2)), (mk, .inl (cI, 42, .inl f3)), (us, .inl (cI, 40, .inl f4)), (te, .inl (cI, 24, .inl f5))]) hD hS hA [0, 1, 2, 3, 4, 5, 6, 7, 8, 9] rfl
  refine va_calli (va_runV (As := [.int 3]) (rest := []) ⟨hx, hb, hml, hown, hts⟩ (c_uof3 l dC dI cI cB cL cZ (h0) (tp) (tok) (sp) (rdr) (scn) (fct) (rnr) (trl) (mnd) (rrw) (g) (td) (gc) (ga1) (ga2) (ga3) (ga4) (ga5) (ga6) (ga7) (ga8) (gcc) (st) (se) (mk) (us) (te) (f1) (f2) (f3) (f4) (f5) H.size) (cwV 1 hts gX10_count_X10_usesOfFact rfl rfl rfl (by decide +kernel) ⟨Nat.le_of_ble_eq_true rfl, Nat.le_of_ble_eq_true rfl⟩) ⟨cP_fb, va_recv hK hPc (ci := 9) (q0 := 0) rfl rfl, fun U hU hW => cP_pre hPc hK hDc hN U hU hW⟩ rfl rfl hl.1 rfl (lv_room (Nat.le_of_ble_eq_true rfl)) dX10_count_83 ⟨Nat.le_of_ble_eq_true rfl, Nat.le_of_ble_eq_true rfl⟩) hS (fun q _ h => hFc q h) hFc (fun r_283 u t H1 locs ht hvm hw hB hz1 hk1 hS => ?_)
  obtain ⟨hP1, hD1⟩ := hB
  rw [ht] at hP1
  obtain ⟨hP, hD⟩ := va_join (wr := []) (w1 := []) hP hD [0, 1, 2, 3, 4, 5, 6, 7, 8, 9] [] rfl rfl (by decide) (by decide) hk1 hFc hP1 hD1
  generalize H1 = H at hP hS ⊢
  have hP : va_P (dC, dI) vwCl [] H := hP
  have hD : va_D A [] := hD
  obtain rfl : r_283 = 0 := hw
  have hP9 := hP.sub (ws' := []) [] rfl
  have hD9 := hD.sub (ws' := []) [] (by decide) rfl
  exact W.iret (v := 0) hx hb hr (fun t ht hW => ⟨⟨0, (), rfl, rfl, by rw [ht]; exact hP9, hD9⟩, hS.F ht⟩) hS.2.2 dX10_count_86

set_option maxHeartbeats 4000000 in
set_option maxRecDepth 100000 in
theorem c_count5 (l : Launch) (dC : Nat → ClassId) (dI : Nat → Nat → Nat) (cI cB cL cZ : ClassId) (h0 : Nat) (tp : Nat) (tok : Nat) (sp : Nat) (rdr : Nat) (scn : Nat) (fct : Nat) (rnr : Nat) (trl : Nat) (mnd : Nat) (rrw : Nat) (g : Nat) (td : Nat) (gc : Nat) (ga1 : Nat) (ga2 : Nat) (ga3 : Nat) (ga4 : Nat) (ga5 : Nat) (ga6 : Nat) (ga7 : Nat) (ga8 : Nat) (gcc : Nat) (st : Nat) (se : Nat) (mk : Nat) (us : Nat) (te : Nat) (f1 : Nat → Int64) (f2 : Nat → Int32) (f3 : Nat → Int32) (f4 : Nat → Int32) (f5 : Nat → Int32) (sz : Nat)  : Met l yX10_count wsX10_count ({ frames := 4, cells := 0, slots := 0, locals := 91 }) (cP (dC, dI) (kTy cI cB cL cZ) [.ref h0, .int 5] [(h0, .inr (9, [.ref tp, .int 0, .ref tok, .ref sp, .ref rdr, .int 0, .int (-1), .ref scn, .ref fct, .ref rnr, .ref trl, .ref mnd, .ref rrw])), (fct, .inr (1, [.ref scn, .ref st, .ref se, .ref mk, .ref us, .ref te, .ref g, .ref gc, .int 1, .int 0, .int 0, .int 0, .long 0, .long 0])), (scn, .inr (6, [.ref g, .int (-1), .ref td])), (g, .inr (3, [.ref gc, .ref ga1, .ref ga2, .ref ga3, .ref ga4, .ref ga5, .ref ga6, .ref ga7, .ref ga8, .int 0, .int 0, .int 0, .int 0, .int (-1)])), (gc, .inr (0, [.ref gcc, .int 0])), (st, .inl (cL, 304, .inr (.inl f1))), (se, .inl (cI, 304, .inl f2)), (mk, .inl (cI, 42, .inl f3)), (us, .inl (cI, 40, .inl f4)), (te, .inl (cI, 24, .inl f5))] sz) (va_Qi (fun (r : Int32) (_ : Unit) => r = 0) (fun (_ : Unit) (t : State) => va_P (dC, dI) vwCl [] t.heap ∧ va_D (va_A [(h0, .inr (9, [.ref tp, .int 0, .ref tok, .ref sp, .ref rdr, .int 0, .int (-1), .ref scn, .ref fct, .ref rnr, .ref trl, .ref mnd, .ref rrw])), (fct, .inr (1, [.ref scn, .ref st, .ref se, .ref mk, .ref us, .ref te, .ref g, .ref gc, .int 1, .int 0, .int 0, .int 0, .long 0, .long 0])), (scn, .inr (6, [.ref g, .int (-1), .ref td])), (g, .inr (3, [.ref gc, .ref ga1, .ref ga2, .ref ga3, .ref ga4, .ref ga5, .ref ga6, .ref ga7, .ref ga8, .int 0, .int 0, .int 0, .int 0, .int (-1)])), (gc, .inr (0, [.ref gcc, .int 0])), (st, .inl (cL, 304, .inr (.inl f1))), (se, .inl (cI, 304, .inl f2)), (mk, .inl (cI, 42, .inl f3)), (us, .inl (cI, 40, .inl f4)), (te, .inl (cI, 24, .inl f5))] sz) []) (va_A [(h0, .inr (9, [.ref tp, .int 0, .ref tok, .ref sp, .ref rdr, .int 0, .int (-1), .ref scn, .ref fct, .ref rnr, .ref trl, .ref mnd, .ref rrw])), (fct, .inr (1, [.ref scn, .ref st, .ref se, .ref mk, .ref us, .ref te, .ref g, .ref gc, .int 1, .int 0, .int 0, .int 0, .long 0, .long 0])), (scn, .inr (6, [.ref g, .int (-1), .ref td])), (g, .inr (3, [.ref gc, .ref ga1, .ref ga2, .ref ga3, .ref ga4, .ref ga5, .ref ga6, .ref ga7, .ref ga8, .int 0, .int 0, .int 0, .int 0, .int (-1)])), (gc, .inr (0, [.ref gcc, .int 0])), (st, .inl (cL, 304, .inr (.inl f1))), (se, .inl (cI, 304, .inl f2)), (mk, .inl (cI, 42, .inl f3)), (us, .inl (cI, 40, .inl f4)), (te, .inl (cI, 24, .inl f5))] sz)) 0 0 (va_A [(h0, .inr (9, [.ref tp, .int 0, .ref tok, .ref sp, .ref rdr, .int 0, .int (-1), .ref scn, .ref fct, .ref rnr, .ref trl, .ref mnd, .ref rrw])), (fct, .inr (1, [.ref scn, .ref st, .ref se, .ref mk, .ref us, .ref te, .ref g, .ref gc, .int 1, .int 0, .int 0, .int 0, .long 0, .long 0])), (scn, .inr (6, [.ref g, .int (-1), .ref td])), (g, .inr (3, [.ref gc, .ref ga1, .ref ga2, .ref ga3, .ref ga4, .ref ga5, .ref ga6, .ref ga7, .ref ga8, .int 0, .int 0, .int 0, .int 0, .int (-1)])), (gc, .inr (0, [.ref gcc, .int 0])), (st, .inl (cL, 304, .inr (.inl f1))), (se, .inl (cI, 304, .inl f2)), (mk, .inl (cI, 42, .inl f3)), (us, .inl (cI, 40, .inl f4)), (te, .inl (cI, 24, .inl f5))] sz) := by
  refine Met.ofW (cc := cX10_count) (maxL := 2) (ret := (some .int)) (by decide) rfl ?_
  intro p e s m args below meth c s₁ B hml hv
  obtain ⟨rfl, hsz, hP, hK, hD0, hN⟩ := hv
  have hx := B.exec
  have hb := B.bytes
  have hr := B.returns
  have hts := atoms_spec (ws := wsX10_count) B.pre
  have hown : s.vm.findClass RX10 = some m.cls := findClass_of_methodNamed B.named
  have hlocks := B.notSynchronized
  subst hsz
  have hD := hD0.self (sz := s.heap.size)
  generalize hAe : va_A [(h0, .inr (9, [.ref tp, .int 0, .ref tok, .ref sp, .ref rdr, .int 0, .int (-1), .ref scn, .ref fct, .ref rnr, .ref trl, .ref mnd, .ref rrw])), (fct, .inr (1, [.ref scn, .ref st, .ref se, .ref mk, .ref us, .ref te, .ref g, .ref gc, .int 1, .int 0, .int 0, .int 0, .long 0, .long 0])), (scn, .inr (6, [.ref g, .int (-1), .ref td])), (g, .inr (3, [.ref gc, .ref ga1, .ref ga2, .ref ga3, .ref ga4, .ref ga5, .ref ga6, .ref ga7, .ref ga8, .int 0, .int 0, .int 0, .int 0, .int (-1)])), (gc, .inr (0, [.ref gcc, .int 0])), (st, .inl (cL, 304, .inr (.inl f1))), (se, .inl (cI, 304, .inl f2)), (mk, .inl (cI, 42, .inl f3)), (us, .inl (cI, 40, .inl f4)), (te, .inl (cI, 24, .inl f5))] s.heap.size = A at hD ⊢
  have hA : ∀ q : Nat, s.heap.size ≤ q → A q := fun q h => by rw [← hAe]; exact Or.inr h
  have hl := lv_entry ([.ref h0, .int 5]) (n := 2) (Nat.le_of_ble_eq_true rfl)
  rw [lg_entry_eq]
  generalize (lg_sl ([.ref h0, .int 5]) ++ List.replicate (2 - (lg_sl ([.ref h0, .int 5])).length) Slot.unset).toArray = ls at hl ⊢
  have hl : lv_has ls 2 [(0, .ref h0), (1, .int 5)] := hl
  refine k_H (A := A) hP (fun H hP hS => ?_)
  have hP : va_P (dC, dI) vwCl [(h0, .inr (9, [.ref tp, .int 0, .ref tok, .ref sp, .ref rdr, .int 0, .int (-1), .ref scn, .ref fct, .ref rnr, .ref trl, .ref mnd, .ref rrw])), (fct, .inr (1, [.ref scn, .ref st, .ref se, .ref mk, .ref us, .ref te, .ref g, .ref gc, .int 1, .int 0, .int 0, .int 0, .long 0, .long 0])), (scn, .inr (6, [.ref g, .int (-1), .ref td])), (g, .inr (3, [.ref gc, .ref ga1, .ref ga2, .ref ga3, .ref ga4, .ref ga5, .ref ga6, .ref ga7, .ref ga8, .int 0, .int 0, .int 0, .int 0, .int (-1)])), (gc, .inr (0, [.ref gcc, .int 0])), (st, .inl (cL, 304, .inr (.inl f1))), (se, .inl (cI, 304, .inl f2)), (mk, .inl (cI, 42, .inl f3)), (us, .inl (cI, 40, .inl f4)), (te, .inl (cI, 24, .inl f5))] H := hP
  have hD : va_D A [(h0, .inr (9, [.ref tp, .int 0, .ref tok, .ref sp, .ref rdr, .int 0, .int (-1), .ref scn, .ref fct, .ref rnr, .ref trl, .ref mnd, .ref rrw])), (fct, .inr (1, [.ref scn, .ref st, .ref se, .ref mk, .ref us, .ref te, .ref g, .ref gc, .int 1, .int 0, .int 0, .int 0, .long 0, .long 0])), (scn, .inr (6, [.ref g, .int (-1), .ref td])), (g, .inr (3, [.ref gc, .ref ga1, .ref ga2, .ref ga3, .ref ga4, .ref ga5, .ref ga6, .ref ga7, .ref ga8, .int 0, .int 0, .int 0, .int 0, .int (-1)])), (gc, .inr (0, [.ref gcc, .int 0])), (st, .inl (cL, 304, .inr (.inl f1))), (se, .inl (cI, 304, .inl f2)), (mk, .inl (cI, 42, .inl f3)), (us, .inl (cI, 40, .inl f4)), (te, .inl (cI, 24, .inl f5))] := hD
  refine lv_iload_n hx hb dX10_count_0 rfl (lv_at hl 1 rfl) ?_
  refine lv_tableIn (off := 86) (tgt := 87) hx hb dX10_count_1 (by decide) (by decide) (by decide) (by decide) ?_
  refine lv_aload_n hx hb dX10_count_87 rfl (lv_at hl 0 rfl) ?_
  refine lv_iconst (v := 1) hx hb dX10_count_88 (by decide) ?_
  have hPc := hP.sub (ws' := [(h0, .inr (9, [.ref tp, .int 0, .ref tok, .ref sp, .ref rdr, .int 0, .int (-1), .ref scn, .ref fct, .ref rnr, .ref trl, .ref mnd, .ref rrw])), (fct, .inr (1, [.ref scn, .ref st, .ref se, .ref mk, .ref us, .ref te, .ref g, .ref gc, .int 1, .int 0, .int 0, .int 0, .long 0, .long 0])), (scn, .inr (6, [.ref g, .int (-1), .ref td])), (g, .inr (3, [.ref gc, .ref ga1, .ref ga2, .ref ga3, .ref ga4, .ref ga5, .ref ga6, .ref ga7, .ref ga8, .int 0, .int 0, .int 0, .int 0, .int (-1)])), (gc, .inr (0, [.ref gcc, .int 0])), (st, .inl (cL, 304, .inr (.inl f1))), (se, .inl (cI, 304, .inl f2)), (mk, .inl (cI, 42, .inl f3)), (us, .inl (cI, 40, .inl f4)), (te, .inl (cI, 24, .inl f5))]) [0, 1, 2, 3, 4, 5, 6, 7, 8, 9] rfl
  have hDc := hD.sub (ws' := [(h0, .inr (9, [.ref tp, .int 0, .ref tok, .ref sp, .ref rdr, .int 0, .int (-1), .ref scn, .ref fct, .ref rnr, .ref trl, .ref mnd, .ref rrw])), (fct, .inr (1, [.ref scn, .ref st, .ref se, .ref mk, .ref us, .ref te, .ref g, .ref gc, .int 1, .int 0, .int 0, .int 0, .long 0, .long 0])), (scn, .inr (6, [.ref g, .int (-1), .ref td])), (g, .inr (3, [.ref gc, .ref ga1, .ref ga2, .ref ga3, .ref ga4, .ref ga5, .ref ga6, .ref ga7, .ref ga8, .int 0, .int 0, .int 0, .int 0, .int (-1)])), (gc, .inr (0, [.ref gcc, .int 0])), (st, .inl (cL, 304, .inr (.inl f1))), (se, .inl (cI, 304, .inl f2)), (mk, .inl (cI, 42, .inl f3)), (us, .inl (cI, 40, .inl f4)), (te, .inl (cI, 24, .inl f5))]) [0, 1, 2, 3, 4, 5, 6, 7, 8, 9] (by decide) rfl
  have hFc := va_free (wc := [(h0, .inr (9, [.ref tp, .int 0, .ref tok, .ref sp, .ref rdr, .int 0, .int (-1), .ref scn, .ref fct, .ref rnr, .ref trl, .ref mnd, .ref rrw])), (fct, .inr (1, [.ref scn, .ref st, .ref se, .ref mk, .ref us, .ref te, .ref g, .ref gc, .int 1, .int 0, .int 0, .int 0, .long 0, .long 0])), (scn, .inr (6, [.ref g, .int (-1), .ref td])), (g, .inr (3, [.ref gc, .ref ga1, .ref ga2, .ref ga3, .ref ga4, .ref ga5, .ref ga6, .ref ga7, .ref ga8, .int 0, .int 0, .int 0, .int 0, .int (-1)])), (gc, .inr (0, [.ref gcc, .int 0])), (st, .inl (cL, 304, .inr (.inl f1))), (se, .inl (cI, 304, .inl f2)), (mk, .inl (cI, 42, .inl f3)), (us, .inl (cI, 40, .inl f4)), (te, .inl (cI, 24, .inl f5))]) hD hS hA [0, 1, 2, 3, 4, 5, 6, 7, 8, 9] rfl
  refine va_calli (va_runV (As := [.int 1]) (rest := []) ⟨hx, hb, hml, hown, hts⟩ (c_uof1 l dC dI cI cB cL cZ (h0) (tp) (tok) (sp) (rdr) (scn) (fct) (rnr) (trl) (mnd) (rrw) (g) (td) (gc) (ga1) (ga2) (ga3) (ga4) (ga5) (ga6) (ga7) (ga8) (gcc) (st) (se) (mk) (us) (te) (f1) (f2) (f3) (f4) (f5) H.size) (cwV 1 hts gX10_count_X10_usesOfFact rfl rfl rfl (by decide +kernel) ⟨Nat.le_of_ble_eq_true rfl, Nat.le_of_ble_eq_true rfl⟩) ⟨cP_fb, va_recv hK hPc (ci := 9) (q0 := 0) rfl rfl, fun U hU hW => cP_pre hPc hK hDc hN U hU hW⟩ rfl rfl hl.1 rfl (lv_room (Nat.le_of_ble_eq_true rfl)) dX10_count_89 ⟨Nat.le_of_ble_eq_true rfl, Nat.le_of_ble_eq_true rfl⟩) hS (fun q _ h => hFc q h) hFc (fun r_284 u t H1 locs ht hvm hw hB hz1 hk1 hS => ?_)
  obtain ⟨hP1, hD1⟩ := hB
  rw [ht] at hP1
  obtain ⟨hP, hD⟩ := va_join (wr := []) (w1 := []) hP hD [0, 1, 2, 3, 4, 5, 6, 7, 8, 9] [] rfl rfl (by decide) (by decide) hk1 hFc hP1 hD1
  generalize H1 = H at hP hS ⊢
  have hP : va_P (dC, dI) vwCl [] H := hP
  have hD : va_D A [] := hD
  obtain rfl : r_284 = 0 := hw
  have hP9 := hP.sub (ws' := []) [] rfl
  have hD9 := hD.sub (ws' := []) [] (by decide) rfl
  exact W.iret (v := 0) hx hb hr (fun t ht hW => ⟨⟨0, (), rfl, rfl, by rw [ht]; exact hP9, hD9⟩, hS.F ht⟩) hS.2.2 dX10_count_92

set_option maxHeartbeats 4000000 in
set_option maxRecDepth 100000 in
theorem c_countN (l : Launch) (dC : Nat → ClassId) (dI : Nat → Nat → Nat) (cI cB cL cZ : ClassId) (h0 : Nat) (tp : Nat) (tok : Nat) (sp : Nat) (rdr : Nat) (scn : Nat) (fct : Nat) (rnr : Nat) (trl : Nat) (mnd : Nat) (rrw : Nat) (w : Int32) (sz : Nat) (hw9 : w.toInt < 0 ∨ 5 < w.toInt) : Met l yX10_count wsX10_count ({ frames := 0, cells := 0, slots := 0, locals := 0 }) (cP (dC, dI) (kTy cI cB cL cZ) [.ref h0, .int w] [(h0, .inr (9, [.ref tp, .int 0, .ref tok, .ref sp, .ref rdr, .int 0, .int (-1), .ref scn, .ref fct, .ref rnr, .ref trl, .ref mnd, .ref rrw]))] sz) (va_Qi (fun (r : Int32) (_ : Unit) => r = -1) (fun (_ : Unit) (t : State) => va_P (dC, dI) vwCl [] t.heap ∧ va_D (va_A [(h0, .inr (9, [.ref tp, .int 0, .ref tok, .ref sp, .ref rdr, .int 0, .int (-1), .ref scn, .ref fct, .ref rnr, .ref trl, .ref mnd, .ref rrw]))] sz) []) (va_A [(h0, .inr (9, [.ref tp, .int 0, .ref tok, .ref sp, .ref rdr, .int 0, .int (-1), .ref scn, .ref fct, .ref rnr, .ref trl, .ref mnd, .ref rrw]))] sz)) 0 0 (va_A [(h0, .inr (9, [.ref tp, .int 0, .ref tok, .ref sp, .ref rdr, .int 0, .int (-1), .ref scn, .ref fct, .ref rnr, .ref trl, .ref mnd, .ref rrw]))] sz) := by
  refine Met.ofW (cc := cX10_count) (maxL := 2) (ret := (some .int)) (by decide) rfl ?_
  intro p e s m args below meth c s₁ B hml hv
  obtain ⟨rfl, hsz, hP, hK, hD0, hN⟩ := hv
  have hx := B.exec
  have hb := B.bytes
  have hr := B.returns
  have hts := atoms_spec (ws := wsX10_count) B.pre
  have hown : s.vm.findClass RX10 = some m.cls := findClass_of_methodNamed B.named
  have hlocks := B.notSynchronized
  subst hsz
  have hD := hD0.self (sz := s.heap.size)
  generalize hAe : va_A [(h0, .inr (9, [.ref tp, .int 0, .ref tok, .ref sp, .ref rdr, .int 0, .int (-1), .ref scn, .ref fct, .ref rnr, .ref trl, .ref mnd, .ref rrw]))] s.heap.size = A at hD ⊢
  have hA : ∀ q : Nat, s.heap.size ≤ q → A q := fun q h => by rw [← hAe]; exact Or.inr h
  have hl := lv_entry ([.ref h0, .int w]) (n := 2) (Nat.le_of_ble_eq_true rfl)
  rw [lg_entry_eq]
  generalize (lg_sl ([.ref h0, .int w]) ++ List.replicate (2 - (lg_sl ([.ref h0, .int w])).length) Slot.unset).toArray = ls at hl ⊢
  have hl : lv_has ls 2 [(0, .ref h0), (1, .int w)] := hl
  refine k_H (A := A) hP (fun H hP hS => ?_)
  have hP : va_P (dC, dI) vwCl [(h0, .inr (9, [.ref tp, .int 0, .ref tok, .ref sp, .ref rdr, .int 0, .int (-1), .ref scn, .ref fct, .ref rnr, .ref trl, .ref mnd, .ref rrw]))] H := hP
  have hD : va_D A [(h0, .inr (9, [.ref tp, .int 0, .ref tok, .ref sp, .ref rdr, .int 0, .int (-1), .ref scn, .ref fct, .ref rnr, .ref trl, .ref mnd, .ref rrw]))] := hD
  refine lv_iload_n hx hb dX10_count_0 rfl (lv_at hl 1 rfl) ?_
  refine lv_tableOut (tgt := 93) hx hb dX10_count_1 hw9 (by decide) ?_
  refine lv_iconst (v := (-1)) hx hb dX10_count_93 (by decide) ?_
  have hP9 := hP.sub (ws' := []) [] rfl
  have hD9 := hD.sub (ws' := []) [] (by decide) rfl
  exact W.iret (v := (-1)) hx hb hr (fun t ht hW => ⟨⟨(-1), (), rfl, rfl, by rw [ht]; exact hP9, hD9⟩, hS.F ht⟩) hS.2.2 dX10_count_94

set_option maxHeartbeats 4000000 in
set_option maxRecDepth 100000 in
theorem c_scan (l : Launch) (dC : Nat → ClassId) (dI : Nat → Nat → Nat) (cI cB cL cZ : ClassId) (h0 : Nat) (tp : Nat) (tk0 : Nat) (f : Nat → Int32) (sz : Nat)  : Met l yX8_scan wsX8_scan ({ frames := 1, cells := 0, slots := 0, locals := 14 }) (cP (dC, dI) (kTy cI cB cL cZ) [.ref h0, .ref tp, .int 0] [(h0, .inr (7, [.ref tk0, .int 0, .int 0])), (tp, .inl (cB, 1200, .inl f))] sz) (va_Qv (fun _ : Unit => True) (fun (_ : Unit) (t : State) => va_P (dC, dI) vwCl [(h0, .inr (7, [.ref tk0, .int 0, .int 0]))] t.heap ∧ va_D (va_A [(h0, .inr (7, [.ref tk0, .int 0, .int 0])), (tp, .inl (cB, 1200, .inl f))] sz) [(h0, .inr (7, [.ref tk0, .int 0, .int 0]))]) (va_A [(h0, .inr (7, [.ref tk0, .int 0, .int 0])), (tp, .inl (cB, 1200, .inl f))] sz)) 0 0 (va_A [(h0, .inr (7, [.ref tk0, .int 0, .int 0])), (tp, .inl (cB, 1200, .inl f))] sz) := by
  refine Met.ofW (cc := cX8_scan) (maxL := 6) (ret := none) (by decide) rfl ?_
  intro p e s m args below meth c s₁ B hml hv
  obtain ⟨rfl, hsz, hP, hK, hD0, hN⟩ := hv
  have hx := B.exec
  have hb := B.bytes
  have hr := B.returns
  have hts := atoms_spec (ws := wsX8_scan) B.pre
  have hown : s.vm.findClass RX8 = some m.cls := findClass_of_methodNamed B.named
  have hlocks := B.notSynchronized
  subst hsz
  have hD := hD0.self (sz := s.heap.size)
  generalize hAe : va_A [(h0, .inr (7, [.ref tk0, .int 0, .int 0])), (tp, .inl (cB, 1200, .inl f))] s.heap.size = A at hD ⊢
  have hA : ∀ q : Nat, s.heap.size ≤ q → A q := fun q h => by rw [← hAe]; exact Or.inr h
  have hl := lv_entry ([.ref h0, .ref tp, .int 0]) (n := 6) (Nat.le_of_ble_eq_true rfl)
  rw [lg_entry_eq]
  generalize (lg_sl ([.ref h0, .ref tp, .int 0]) ++ List.replicate (6 - (lg_sl ([.ref h0, .ref tp, .int 0])).length) Slot.unset).toArray = ls at hl ⊢
  have hl : lv_has ls 6 [(0, .ref h0), (1, .ref tp), (2, .int 0)] := hl
  refine k_H (A := A) hP (fun H hP hS => ?_)
  have hP : va_P (dC, dI) vwCl [(h0, .inr (7, [.ref tk0, .int 0, .int 0])), (tp, .inl (cB, 1200, .inl f))] H := hP
  have hD : va_D A [(h0, .inr (7, [.ref tk0, .int 0, .int 0])), (tp, .inl (cB, 1200, .inl f))] := hD
  refine lv_aload_n hx hb dX8_scan_0 rfl (lv_at hl 0 rfl) ?_
  refine lv_iconst (v := 0) hx hb dX8_scan_1 (by decide) ?_
  refine va_put (D := (dC, dI)) (ci := 7) (v := .int 0) (ty := .int) (C := RX8) (T := TX8) (N := 3) hx hb hts iwwsX8_scan_8 tyX8 tyX8_ok nmX8 hown hK hP hD hS 0 rfl rfl 1 (by decide) (hts (.fieldLink RX8 15 "NothingJudge$Tokens" "size" "I") fwwsX8_scan_15) (fun _ h9 => h9) rfl (by decide +kernel) rfl rfl (Nat.le_of_ble_eq_true rfl) dX8_scan_2 (fun H locs hP hD hS => ?_)
  have hP : va_P (dC, dI) vwCl [(h0, .inr (7, [.ref tk0, .int 0, .int 0])), (tp, .inl (cB, 1200, .inl f))] H := hP
  have hD : va_D A [(h0, .inr (7, [.ref tk0, .int 0, .int 0])), (tp, .inl (cB, 1200, .inl f))] := hD
  refine lv_aload_n hx hb dX8_scan_5 rfl (lv_at hl 0 rfl) ?_
  refine lv_iload_n hx hb dX8_scan_6 rfl (lv_at hl 2 rfl) ?_
  refine lv_aload_n hx hb dX8_scan_7 rfl (lv_at hl 1 rfl) ?_
  refine va_alen hx hb hK hP 1 1 rfl rfl (v := 1200) (by decide) dX8_scan_8 ?_
  refine va_mmin hx hb (by rw [hml]; exact hl.1.symm) hown (hts (.methodLink RX8 19 Lib.Math.min.name) ml_wsX8_scan) (hts (.static Lib.Math.min.name) ms_wsX8_scan) (hts (.initialized "java/lang/Math") mi_wsX8_scan) (hts (.code Lib.Math.min.name Lib.Math.min.code 2 (some .int)) mc_wsX8_scan) (Nat.le_of_ble_eq_true rfl) (Nat.le_of_ble_eq_true rfl) (Nat.le_of_ble_eq_true rfl) (Nat.le_of_ble_eq_true rfl) dX8_scan_9 ?_
  refine lv_topi (fun y_285 ey_285 => ?_)
  obtain rfl : y_285 = 0 := ey_285.trans (by decide)
  refine va_put (D := (dC, dI)) (ci := 7) (v := .int 0) (ty := .int) (C := RX8) (T := TX8) (N := 3) hx hb hts iwwsX8_scan_8 tyX8 tyX8_ok nmX8 hown hK hP hD hS 0 rfl rfl 2 (by decide) (hts (.fieldLink RX8 25 "NothingJudge$Tokens" "length" "I") fwwsX8_scan_25) (fun _ h9 => h9) rfl (by decide +kernel) rfl rfl (Nat.le_of_ble_eq_true rfl) dX8_scan_12 (fun H locs hP hD hS => ?_)
  have hP : va_P (dC, dI) vwCl [(h0, .inr (7, [.ref tk0, .int 0, .int 0])), (tp, .inl (cB, 1200, .inl f))] H := hP
  have hD : va_D A [(h0, .inr (7, [.ref tk0, .int 0, .int 0])), (tp, .inl (cB, 1200, .inl f))] := hD
  refine lv_iconst (v := 0) hx hb dX8_scan_15 (by decide) ?_
  refine lv_istore_n (lv' := [(3, .int 0), (0, .ref h0), (1, .ref tp), (2, .int 0)]) hx hb dX8_scan_16 rfl hl (by decide) rfl (fun ls hl => ?_)
  refine lv_iload_n hx hb dX8_scan_17 rfl (lv_at hl 0 rfl) ?_
  refine lv_aload_n hx hb dX8_scan_18 rfl (lv_at hl 1 rfl) ?_
  refine va_get (D := (dC, dI)) (ci := 7) (v := .int 0) (C := RX8) (T := TX8) (N := 3) hx hb hts iwwsX8_scan_8 hown hK hP 0 rfl rfl 2 (by decide) (hts (.fieldLink RX8 25 "NothingJudge$Tokens" "length" "I") fwwsX8_scan_25) (fun _ h9 => h9) rfl dX8_scan_19 ?_
  refine lv_icmp_ge (tgt := 136) hx hb dX8_scan_22 (by decide) (fun _ => ?_) (fun c9 => absurd (by decide) c9)
  have hP9 := hP.sub (ws' := [(h0, .inr (7, [.ref tk0, .int 0, .int 0]))]) [0] rfl
  have hD9 := hD.sub (ws' := [(h0, .inr (7, [.ref tk0, .int 0, .int 0]))]) [0] (by decide) rfl
  exact W.vret hx hb hr (fun t ht hW => ⟨⟨(), rfl, trivial, by rw [ht]; exact hP9, hD9⟩, hS.F ht⟩) hS.2.2 dX8_scan_136

set_option maxHeartbeats 4000000 in
set_option maxRecDepth 100000 in
theorem c_kindAt (l : Launch) (dC : Nat → ClassId) (dI : Nat → Nat → Nat) (cI cB cL cZ : ClassId) (h0 : Nat) (tk0 : Nat) (sz : Nat)  : Met l yX8_kindAt wsX8_kindAt ({ frames := 0, cells := 0, slots := 0, locals := 0 }) (cP (dC, dI) (kTy cI cB cL cZ) [.ref h0, .int 0] [(h0, .inr (7, [.ref tk0, .int 0, .int 0]))] sz) (va_Qi (fun (r : Int32) (_ : Unit) => r = 0) (fun (_ : Unit) (t : State) => va_P (dC, dI) vwCl [(h0, .inr (7, [.ref tk0, .int 0, .int 0]))] t.heap ∧ va_D (va_A [(h0, .inr (7, [.ref tk0, .int 0, .int 0]))] sz) [(h0, .inr (7, [.ref tk0, .int 0, .int 0]))]) (va_A [(h0, .inr (7, [.ref tk0, .int 0, .int 0]))] sz)) 0 0 (va_A [(h0, .inr (7, [.ref tk0, .int 0, .int 0]))] sz) := by
  refine Met.ofW (cc := cX8_kindAt) (maxL := 2) (ret := (some .int)) (by decide) rfl ?_
  intro p e s m args below meth c s₁ B hml hv
  obtain ⟨rfl, hsz, hP, hK, hD0, hN⟩ := hv
  have hx := B.exec
  have hb := B.bytes
  have hr := B.returns
  have hts := atoms_spec (ws := wsX8_kindAt) B.pre
  have hown : s.vm.findClass RX8 = some m.cls := findClass_of_methodNamed B.named
  have hlocks := B.notSynchronized
  subst hsz
  have hD := hD0.self (sz := s.heap.size)
  generalize hAe : va_A [(h0, .inr (7, [.ref tk0, .int 0, .int 0]))] s.heap.size = A at hD ⊢
  have hA : ∀ q : Nat, s.heap.size ≤ q → A q := fun q h => by rw [← hAe]; exact Or.inr h
  have hl := lv_entry ([.ref h0, .int 0]) (n := 2) (Nat.le_of_ble_eq_true rfl)
  rw [lg_entry_eq]
  generalize (lg_sl ([.ref h0, .int 0]) ++ List.replicate (2 - (lg_sl ([.ref h0, .int 0])).length) Slot.unset).toArray = ls at hl ⊢
  have hl : lv_has ls 2 [(0, .ref h0), (1, .int 0)] := hl
  refine k_H (A := A) hP (fun H hP hS => ?_)
  have hP : va_P (dC, dI) vwCl [(h0, .inr (7, [.ref tk0, .int 0, .int 0]))] H := hP
  have hD : va_D A [(h0, .inr (7, [.ref tk0, .int 0, .int 0]))] := hD
  refine lv_iload_n hx hb dX8_kindAt_0 rfl (lv_at hl 1 rfl) ?_
  refine lv_if_lt (tgt := 35) hx hb dX8_kindAt_1 (by decide) (fun c9 => absurd c9 (by decide)) (fun _ => ?_)
  refine lv_iload_n hx hb dX8_kindAt_4 rfl (lv_at hl 1 rfl) ?_
  refine lv_aload_n hx hb dX8_kindAt_5 rfl (lv_at hl 0 rfl) ?_
  refine va_get (D := (dC, dI)) (ci := 7) (v := .int 0) (C := RX8) (T := TX8) (N := 3) hx hb hts iwwsX8_kindAt_8 hown hK hP 0 rfl rfl 1 (by decide) (hts (.fieldLink RX8 15 "NothingJudge$Tokens" "size" "I") fwwsX8_kindAt_15) (fun _ h9 => h9) rfl dX8_kindAt_6 ?_
  refine lv_icmp_ge (tgt := 35) hx hb dX8_kindAt_9 (by decide) (fun _ => ?_) (fun c9 => absurd (by decide) c9)
  refine lv_iconst (v := 0) hx hb dX8_kindAt_35 (by decide) ?_
  have hP9 := hP.sub (ws' := [(h0, .inr (7, [.ref tk0, .int 0, .int 0]))]) [0] rfl
  have hD9 := hD.sub (ws' := [(h0, .inr (7, [.ref tk0, .int 0, .int 0]))]) [0] (by decide) rfl
  exact W.iret (v := 0) hx hb hr (fun t ht hW => ⟨⟨0, (), rfl, rfl, by rw [ht]; exact hP9, hD9⟩, hS.F ht⟩) hS.2.2 dX8_kindAt_36

set_option maxHeartbeats 4000000 in
set_option maxRecDepth 100000 in
theorem c_seen (l : Launch) (dC : Nat → ClassId) (dI : Nat → Nat → Nat) (cI cB cL cZ : ClassId) (h0 : Nat) (tok : Nat) (rd1 : Nat) (rd2 : Nat) (g : Nat) (gc : Nat) (tk0 : Nat) (sz : Nat)  : Met l yX4_seen wsX4_seen ({ frames := 1, cells := 0, slots := 0, locals := 21 }) (cP (dC, dI) (kTy cI cB cL cZ) [.ref h0, .int 0] [(h0, .inr (4, [.ref tok, .ref rd1, .ref rd2, .ref g, .ref gc, .int 0, .int 0, .int 0, .int 0, .int (-1)])), (tok, .inr (7, [.ref tk0, .int 0, .int 0]))] sz) (va_Qi (fun (r : Int32) (_ : Unit) => r = 1) (fun (_ : Unit) (t : State) => va_P (dC, dI) vwCl [(h0, .inr (4, [.ref tok, .ref rd1, .ref rd2, .ref g, .ref gc, .int 0, .int 0, .int 0, .int 0, .int (-1)])), (tok, .inr (7, [.ref tk0, .int 0, .int 0]))] t.heap ∧ va_D (va_A [(h0, .inr (4, [.ref tok, .ref rd1, .ref rd2, .ref g, .ref gc, .int 0, .int 0, .int 0, .int 0, .int (-1)])), (tok, .inr (7, [.ref tk0, .int 0, .int 0]))] sz) [(h0, .inr (4, [.ref tok, .ref rd1, .ref rd2, .ref g, .ref gc, .int 0, .int 0, .int 0, .int 0, .int (-1)])), (tok, .inr (7, [.ref tk0, .int 0, .int 0]))]) (va_A [(h0, .inr (4, [.ref tok, .ref rd1, .ref rd2, .ref g, .ref gc, .int 0, .int 0, .int 0, .int 0, .int (-1)])), (tok, .inr (7, [.ref tk0, .int 0, .int 0]))] sz)) 0 0 (va_A [(h0, .inr (4, [.ref tok, .ref rd1, .ref rd2, .ref g, .ref gc, .int 0, .int 0, .int 0, .int 0, .int (-1)])), (tok, .inr (7, [.ref tk0, .int 0, .int 0]))] sz) := by
  refine Met.ofW (cc := cX4_seen) (maxL := 2) (ret := (some .boolean)) (by decide) rfl ?_
  intro p e s m args below meth c s₁ B hml hv
  obtain ⟨rfl, hsz, hP, hK, hD0, hN⟩ := hv
  have hx := B.exec
  have hb := B.bytes
  have hr := B.returns
  have hts := atoms_spec (ws := wsX4_seen) B.pre
  have hown : s.vm.findClass RX4 = some m.cls := findClass_of_methodNamed B.named
  have hlocks := B.notSynchronized
  subst hsz
  have hD := hD0.self (sz := s.heap.size)
  generalize hAe : va_A [(h0, .inr (4, [.ref tok, .ref rd1, .ref rd2, .ref g, .ref gc, .int 0, .int 0, .int 0, .int 0, .int (-1)])), (tok, .inr (7, [.ref tk0, .int 0, .int 0]))] s.heap.size = A at hD ⊢
  have hA : ∀ q : Nat, s.heap.size ≤ q → A q := fun q h => by rw [← hAe]; exact Or.inr h
  have hl := lv_entry ([.ref h0, .int 0]) (n := 2) (Nat.le_of_ble_eq_true rfl)
  rw [lg_entry_eq]
  generalize (lg_sl ([.ref h0, .int 0]) ++ List.replicate (2 - (lg_sl ([.ref h0, .int 0])).length) Slot.unset).toArray = ls at hl ⊢
  have hl : lv_has ls 2 [(0, .ref h0), (1, .int 0)] := hl
  refine k_H (A := A) hP (fun H hP hS => ?_)
  have hP : va_P (dC, dI) vwCl [(h0, .inr (4, [.ref tok, .ref rd1, .ref rd2, .ref g, .ref gc, .int 0, .int 0, .int 0, .int 0, .int (-1)])), (tok, .inr (7, [.ref tk0, .int 0, .int 0]))] H := hP
  have hD : va_D A [(h0, .inr (4, [.ref tok, .ref rd1, .ref rd2, .ref g, .ref gc, .int 0, .int 0, .int 0, .int 0, .int (-1)])), (tok, .inr (7, [.ref tk0, .int 0, .int 0]))] := hD
  refine lv_aload_n hx hb dX4_seen_0 rfl (lv_at hl 0 rfl) ?_
  refine va_get (D := (dC, dI)) (ci := 4) (v := .ref tok) (C := RX4) (T := TX4) (N := 10) hx hb hts iwwsX4_seen_4 hown hK hP 0 rfl rfl 0 (by decide) (hts (.fieldLink RX4 22 "NothingJudge$Reader" "tokens" "LNothingJudge$Tokens;") fwwsX4_seen_22) (fun _ h9 => h9) rfl dX4_seen_1 ?_
  refine lv_aload_n hx hb dX4_seen_4 rfl (lv_at hl 0 rfl) ?_
  refine va_get (D := (dC, dI)) (ci := 4) (v := .int 0) (C := RX4) (T := TX4) (N := 10) hx hb hts iwwsX4_seen_4 hown hK hP 0 rfl rfl 5 (by decide) (hts (.fieldLink RX4 40 "NothingJudge$Reader" "next" "I") fwwsX4_seen_40) (fun _ h9 => h9) rfl dX4_seen_5 ?_
  have hPc := hP.sub (ws' := [(tok, .inr (7, [.ref tk0, .int 0, .int 0]))]) [1] rfl
  have hDc := hD.sub (ws' := [(tok, .inr (7, [.ref tk0, .int 0, .int 0]))]) [1] (by decide) rfl
  have hFc := va_free (wc := [(tok, .inr (7, [.ref tk0, .int 0, .int 0]))]) hD hS hA [1] rfl
  refine va_calli (va_runV (As := [.int 0]) (rest := []) ⟨hx, hb, hml, hown, hts⟩ (c_kindAt l dC dI cI cB cL cZ (tok) (tk0) H.size) (cwV 1 hts gX4_seen_X8_kindAt rfl rfl rfl (by decide +kernel) ⟨Nat.le_of_ble_eq_true rfl, Nat.le_of_ble_eq_true rfl⟩) ⟨cP_fb, va_recv hK hPc (ci := 7) (q0 := 0) rfl rfl, fun U hU hW => cP_pre hPc hK hDc hN U hU hW⟩ rfl rfl hl.1 rfl (lv_room (Nat.le_of_ble_eq_true rfl)) dX4_seen_8 ⟨Nat.le_of_ble_eq_true rfl, Nat.le_of_ble_eq_true rfl⟩) hS (fun q _ h => hFc q h) hFc (fun r_286 u t H1 locs ht hvm hw hB hz1 hk1 hS => ?_)
  obtain ⟨hP1, hD1⟩ := hB
  rw [ht] at hP1
  obtain ⟨hP, hD⟩ := va_join (wr := [(h0, .inr (4, [.ref tok, .ref rd1, .ref rd2, .ref g, .ref gc, .int 0, .int 0, .int 0, .int 0, .int (-1)]))]) (w1 := [(tok, .inr (7, [.ref tk0, .int 0, .int 0]))]) hP hD [1] [0] rfl rfl (by decide) (by decide) hk1 hFc hP1 hD1
  generalize H1 = H at hP hS ⊢
  have hP : va_P (dC, dI) vwCl [(h0, .inr (4, [.ref tok, .ref rd1, .ref rd2, .ref g, .ref gc, .int 0, .int 0, .int 0, .int 0, .int (-1)])), (tok, .inr (7, [.ref tk0, .int 0, .int 0]))] H := hP
  have hD : va_D A [(h0, .inr (4, [.ref tok, .ref rd1, .ref rd2, .ref g, .ref gc, .int 0, .int 0, .int 0, .int 0, .int (-1)])), (tok, .inr (7, [.ref tk0, .int 0, .int 0]))] := hD
  obtain rfl : r_286 = 0 := hw
  refine lv_iload_n hx hb dX4_seen_11 rfl (lv_at hl 1 rfl) ?_
  refine lv_icmp_ne (tgt := 19) hx hb dX4_seen_12 (by decide) (fun c9 => absurd c9 (by decide)) (fun _ => ?_)
  refine lv_iconst (v := 1) hx hb dX4_seen_15 (by decide) ?_
  refine lv_goto (tgt := 20) hx hb dX4_seen_16 (by decide) ?_
  have hP9 := hP.sub (ws' := [(h0, .inr (4, [.ref tok, .ref rd1, .ref rd2, .ref g, .ref gc, .int 0, .int 0, .int 0, .int 0, .int (-1)])), (tok, .inr (7, [.ref tk0, .int 0, .int 0]))]) [0, 1] rfl
  have hD9 := hD.sub (ws' := [(h0, .inr (4, [.ref tok, .ref rd1, .ref rd2, .ref g, .ref gc, .int 0, .int 0, .int 0, .int 0, .int (-1)])), (tok, .inr (7, [.ref tk0, .int 0, .int 0]))]) [0, 1] (by decide) rfl
  exact W.zret (v := 1) (ty := .boolean) hx hb hr rfl (fun t ht hW => ⟨⟨1, (), rfl, rfl, by rw [ht]; exact hP9, hD9⟩, hS.F ht⟩) hS.2.2 dX4_seen_20

set_option maxHeartbeats 4000000 in
set_option maxRecDepth 100000 in
theorem c_checkCalls (l : Launch) (dC : Nat → ClassId) (dI : Nat → Nat → Nat) (cI cB cL cZ : ClassId) (h0 : Nat) (tok : Nat) (rd1 : Nat) (rd2 : Nat) (g : Nat) (gc : Nat) (gcc : Nat) (sz : Nat)  : Met l yX4_checkCalls wsX4_checkCalls ({ frames := 0, cells := 0, slots := 0, locals := 0 }) (cP (dC, dI) (kTy cI cB cL cZ) [.ref h0] [(h0, .inr (4, [.ref tok, .ref rd1, .ref rd2, .ref g, .ref gc, .int 0, .int 0, .int 0, .int 0, .int (-1)])), (gc, .inr (0, [.ref gcc, .int 0]))] sz) (va_Qv (fun _ : Unit => True) (fun (_ : Unit) (t : State) => va_P (dC, dI) vwCl [(h0, .inr (4, [.ref tok, .ref rd1, .ref rd2, .ref g, .ref gc, .int 0, .int 0, .int 0, .int 0, .int (-1)])), (gc, .inr (0, [.ref gcc, .int 0]))] t.heap ∧ va_D (va_A [(h0, .inr (4, [.ref tok, .ref rd1, .ref rd2, .ref g, .ref gc, .int 0, .int 0, .int 0, .int 0, .int (-1)])), (gc, .inr (0, [.ref gcc, .int 0]))] sz) [(h0, .inr (4, [.ref tok, .ref rd1, .ref rd2, .ref g, .ref gc, .int 0, .int 0, .int 0, .int 0, .int (-1)])), (gc, .inr (0, [.ref gcc, .int 0]))]) (va_A [(h0, .inr (4, [.ref tok, .ref rd1, .ref rd2, .ref g, .ref gc, .int 0, .int 0, .int 0, .int 0, .int (-1)])), (gc, .inr (0, [.ref gcc, .int 0]))] sz)) 0 0 (va_A [(h0, .inr (4, [.ref tok, .ref rd1, .ref rd2, .ref g, .ref gc, .int 0, .int 0, .int 0, .int 0, .int (-1)])), (gc, .inr (0, [.ref gcc, .int 0]))] sz) := by
  refine Met.ofW (cc := cX4_checkCalls) (maxL := 3) (ret := none) (by decide) rfl ?_
  intro p e s m args below meth c s₁ B hml hv
  obtain ⟨rfl, hsz, hP, hK, hD0, hN⟩ := hv
  have hx := B.exec
  have hb := B.bytes
  have hr := B.returns
  have hts := atoms_spec (ws := wsX4_checkCalls) B.pre
  have hown : s.vm.findClass RX4 = some m.cls := findClass_of_methodNamed B.named
  have hlocks := B.notSynchronized
  subst hsz
  have hD := hD0.self (sz := s.heap.size)
  generalize hAe : va_A [(h0, .inr (4, [.ref tok, .ref rd1, .ref rd2, .ref g, .ref gc, .int 0, .int 0, .int 0, .int 0, .int (-1)])), (gc, .inr (0, [.ref gcc, .int 0]))] s.heap.size = A at hD ⊢
  have hA : ∀ q : Nat, s.heap.size ≤ q → A q := fun q h => by rw [← hAe]; exact Or.inr h
  have hl := lv_entry ([.ref h0]) (n := 3) (Nat.le_of_ble_eq_true rfl)
  rw [lg_entry_eq]
  generalize (lg_sl ([.ref h0]) ++ List.replicate (3 - (lg_sl ([.ref h0])).length) Slot.unset).toArray = ls at hl ⊢
  have hl : lv_has ls 3 [(0, .ref h0)] := hl
  refine k_H (A := A) hP (fun H hP hS => ?_)
  have hP : va_P (dC, dI) vwCl [(h0, .inr (4, [.ref tok, .ref rd1, .ref rd2, .ref g, .ref gc, .int 0, .int 0, .int 0, .int 0, .int (-1)])), (gc, .inr (0, [.ref gcc, .int 0]))] H := hP
  have hD : va_D A [(h0, .inr (4, [.ref tok, .ref rd1, .ref rd2, .ref g, .ref gc, .int 0, .int 0, .int 0, .int 0, .int (-1)])), (gc, .inr (0, [.ref gcc, .int 0]))] := hD
  refine lv_iconst (v := 0) hx hb dX4_checkCalls_0 (by decide) ?_
  refine lv_istore_n (lv' := [(1, .int 0), (0, .ref h0)]) hx hb dX4_checkCalls_1 rfl hl (by decide) rfl (fun ls hl => ?_)
  refine lv_iload_n hx hb dX4_checkCalls_2 rfl (lv_at hl 0 rfl) ?_
  refine lv_aload_n hx hb dX4_checkCalls_3 rfl (lv_at hl 1 rfl) ?_
  refine va_get (D := (dC, dI)) (ci := 4) (v := .ref gc) (C := RX4) (T := TX4) (N := 10) hx hb hts iwwsX4_checkCalls_4 hown hK hP 0 rfl rfl 4 (by decide) (hts (.fieldLink RX4 36 "NothingJudge$Reader" "code" "LNothingJudge$Code;") fwwsX4_checkCalls_36) (fun _ h9 => h9) rfl dX4_checkCalls_4 ?_
  refine va_get (D := (dC, dI)) (ci := 0) (v := .int 0) (C := RX0) (T := TX0) (N := 2) hx hb hts iwwsX4_checkCalls_0 hown hK hP 1 rfl rfl 1 (by decide) (hts (.fieldLink RX4 128 "NothingJudge$Code" "size" "I") fwwsX4_checkCalls_128) (fun _ h9 => h9) rfl dX4_checkCalls_7 ?_
  refine lv_icmp_ge (tgt := 99) hx hb dX4_checkCalls_10 (by decide) (fun _ => ?_) (fun c9 => absurd (by decide) c9)
  have hP9 := hP.sub (ws' := [(h0, .inr (4, [.ref tok, .ref rd1, .ref rd2, .ref g, .ref gc, .int 0, .int 0, .int 0, .int 0, .int (-1)])), (gc, .inr (0, [.ref gcc, .int 0]))]) [0, 1] rfl
  have hD9 := hD.sub (ws' := [(h0, .inr (4, [.ref tok, .ref rd1, .ref rd2, .ref g, .ref gc, .int 0, .int 0, .int 0, .int 0, .int (-1)])), (gc, .inr (0, [.ref gcc, .int 0]))]) [0, 1] (by decide) rfl
  exact W.vret hx hb hr (fun t ht hW => ⟨⟨(), rfl, trivial, by rw [ht]; exact hP9, hD9⟩, hS.F ht⟩) hS.2.2 dX4_checkCalls_99

set_option maxHeartbeats 4000000 in
set_option maxRecDepth 100000 in
theorem c_pclear (l : Launch) (dC : Nat → ClassId) (dI : Nat → Nat → Nat) (cI cB cL cZ : ClassId) (h0 : Nat) (gc : Nat) (gcc : Nat) (ga1 : Nat) (ga2 : Nat) (ga3 : Nat) (ga4 : Nat) (ga5 : Nat) (ga6 : Nat) (ga7 : Nat) (ga8 : Nat) (sz : Nat)  : Met l yX3_clear wsX3_clear ({ frames := 0, cells := 0, slots := 0, locals := 0 }) (cP (dC, dI) (kTy cI cB cL cZ) [.ref h0] [(h0, .inr (3, [.ref gc, .ref ga1, .ref ga2, .ref ga3, .ref ga4, .ref ga5, .ref ga6, .ref ga7, .ref ga8, .int 0, .int 0, .int 0, .int 0, .int (-1)])), (gc, .inr (0, [.ref gcc, .int 0]))] sz) (va_Qv (fun _ : Unit => True) (fun (_ : Unit) (t : State) => va_P (dC, dI) vwCl [(h0, .inr (3, [.ref gc, .ref ga1, .ref ga2, .ref ga3, .ref ga4, .ref ga5, .ref ga6, .ref ga7, .ref ga8, .int 0, .int 0, .int 0, .int 0, .int (-1)])), (gc, .inr (0, [.ref gcc, .int 0]))] t.heap ∧ va_D (va_A [(h0, .inr (3, [.ref gc, .ref ga1, .ref ga2, .ref ga3, .ref ga4, .ref ga5, .ref ga6, .ref ga7, .ref ga8, .int 0, .int 0, .int 0, .int 0, .int (-1)])), (gc, .inr (0, [.ref gcc, .int 0]))] sz) [(h0, .inr (3, [.ref gc, .ref ga1, .ref ga2, .ref ga3, .ref ga4, .ref ga5, .ref ga6, .ref ga7, .ref ga8, .int 0, .int 0, .int 0, .int 0, .int (-1)])), (gc, .inr (0, [.ref gcc, .int 0]))]) (va_A [(h0, .inr (3, [.ref gc, .ref ga1, .ref ga2, .ref ga3, .ref ga4, .ref ga5, .ref ga6, .ref ga7, .ref ga8, .int 0, .int 0, .int 0, .int 0, .int (-1)])), (gc, .inr (0, [.ref gcc, .int 0]))] sz)) 0 0 (va_A [(h0, .inr (3, [.ref gc, .ref ga1, .ref ga2, .ref ga3, .ref ga4, .ref ga5, .ref ga6, .ref ga7, .ref ga8, .int 0, .int 0, .int 0, .int 0, .int (-1)])), (gc, .inr (0, [.ref gcc, .int 0]))] sz) := by
  refine Met.ofW (cc := cX3_clear) (maxL := 1) (ret := none) (by decide) rfl ?_
  intro p e s m args below meth c s₁ B hml hv
  obtain ⟨rfl, hsz, hP, hK, hD0, hN⟩ := hv
  have hx := B.exec
  have hb := B.bytes
  have hr := B.returns
  have hts := atoms_spec (ws := wsX3_clear) B.pre
  have hown : s.vm.findClass RX3 = some m.cls := findClass_of_methodNamed B.named
  have hlocks := B.notSynchronized
  subst hsz
  have hD := hD0.self (sz := s.heap.size)
  generalize hAe : va_A [(h0, .inr (3, [.ref gc, .ref ga1, .ref ga2, .ref ga3, .ref ga4, .ref ga5, .ref ga6, .ref ga7, .ref ga8, .int 0, .int 0, .int 0, .int 0, .int (-1)])), (gc, .inr (0, [.ref gcc, .int 0]))] s.heap.size = A at hD ⊢
  have hA : ∀ q : Nat, s.heap.size ≤ q → A q := fun q h => by rw [← hAe]; exact Or.inr h
  have hl := lv_entry ([.ref h0]) (n := 1) (Nat.le_of_ble_eq_true rfl)
  rw [lg_entry_eq]
  generalize (lg_sl ([.ref h0]) ++ List.replicate (1 - (lg_sl ([.ref h0])).length) Slot.unset).toArray = ls at hl ⊢
  have hl : lv_has ls 1 [(0, .ref h0)] := hl
  refine k_H (A := A) hP (fun H hP hS => ?_)
  have hP : va_P (dC, dI) vwCl [(h0, .inr (3, [.ref gc, .ref ga1, .ref ga2, .ref ga3, .ref ga4, .ref ga5, .ref ga6, .ref ga7, .ref ga8, .int 0, .int 0, .int 0, .int 0, .int (-1)])), (gc, .inr (0, [.ref gcc, .int 0]))] H := hP
  have hD : va_D A [(h0, .inr (3, [.ref gc, .ref ga1, .ref ga2, .ref ga3, .ref ga4, .ref ga5, .ref ga6, .ref ga7, .ref ga8, .int 0, .int 0, .int 0, .int 0, .int (-1)])), (gc, .inr (0, [.ref gcc, .int 0]))] := hD
  refine lv_aload_n hx hb dX3_clear_0 rfl (lv_at hl 0 rfl) ?_
  refine va_get (D := (dC, dI)) (ci := 3) (v := .ref gc) (C := RX3) (T := TX3) (N := 14) hx hb hts iwwsX3_clear_3 hown hK hP 0 rfl rfl 0 (by decide) (hts (.fieldLink RX3 12 "NothingJudge$Program" "code" "LNothingJudge$Code;") fwwsX3_clear_12) (fun _ h9 => h9) rfl dX3_clear_1 ?_
  refine lv_iconst (v := 0) hx hb dX3_clear_4 (by decide) ?_
  refine va_put (D := (dC, dI)) (ci := 0) (v := .int 0) (ty := .int) (C := RX0) (T := TX0) (N := 2) hx hb hts iwwsX3_clear_0 tyX0 tyX0_ok nmX0 hown hK hP hD hS 1 rfl rfl 1 (by decide) (hts (.fieldLink RX3 47 "NothingJudge$Code" "size" "I") fwwsX3_clear_47) (fun _ h9 => h9) rfl (by decide +kernel) rfl rfl (Nat.le_of_ble_eq_true rfl) dX3_clear_5 (fun H locs hP hD hS => ?_)
  have hP : va_P (dC, dI) vwCl [(h0, .inr (3, [.ref gc, .ref ga1, .ref ga2, .ref ga3, .ref ga4, .ref ga5, .ref ga6, .ref ga7, .ref ga8, .int 0, .int 0, .int 0, .int 0, .int (-1)])), (gc, .inr (0, [.ref gcc, .int 0]))] H := hP
  have hD : va_D A [(h0, .inr (3, [.ref gc, .ref ga1, .ref ga2, .ref ga3, .ref ga4, .ref ga5, .ref ga6, .ref ga7, .ref ga8, .int 0, .int 0, .int 0, .int 0, .int (-1)])), (gc, .inr (0, [.ref gcc, .int 0]))] := hD
  refine lv_aload_n hx hb dX3_clear_8 rfl (lv_at hl 0 rfl) ?_
  refine lv_iconst (v := 0) hx hb dX3_clear_9 (by decide) ?_
  refine va_put (D := (dC, dI)) (ci := 3) (v := .int 0) (ty := .int) (C := RX3) (T := TX3) (N := 14) hx hb hts iwwsX3_clear_3 tyX3 tyX3_ok nmX3 hown hK hP hD hS 0 rfl rfl 9 (by decide) (hts (.fieldLink RX3 50 "NothingJudge$Program" "told" "I") fwwsX3_clear_50) (fun _ h9 => h9) rfl (by decide +kernel) rfl rfl (Nat.le_of_ble_eq_true rfl) dX3_clear_10 (fun H locs hP hD hS => ?_)
  have hP : va_P (dC, dI) vwCl [(h0, .inr (3, [.ref gc, .ref ga1, .ref ga2, .ref ga3, .ref ga4, .ref ga5, .ref ga6, .ref ga7, .ref ga8, .int 0, .int 0, .int 0, .int 0, .int (-1)])), (gc, .inr (0, [.ref gcc, .int 0]))] H := hP
  have hD : va_D A [(h0, .inr (3, [.ref gc, .ref ga1, .ref ga2, .ref ga3, .ref ga4, .ref ga5, .ref ga6, .ref ga7, .ref ga8, .int 0, .int 0, .int 0, .int 0, .int (-1)])), (gc, .inr (0, [.ref gcc, .int 0]))] := hD
  refine lv_aload_n hx hb dX3_clear_13 rfl (lv_at hl 0 rfl) ?_
  refine lv_iconst (v := 0) hx hb dX3_clear_14 (by decide) ?_
  refine va_put (D := (dC, dI)) (ci := 3) (v := .int 0) (ty := .int) (C := RX3) (T := TX3) (N := 14) hx hb hts iwwsX3_clear_3 tyX3 tyX3_ok nmX3 hown hK hP hD hS 0 rfl rfl 10 (by decide) (hts (.fieldLink RX3 53 "NothingJudge$Program" "routines" "I") fwwsX3_clear_53) (fun _ h9 => h9) rfl (by decide +kernel) rfl rfl (Nat.le_of_ble_eq_true rfl) dX3_clear_15 (fun H locs hP hD hS => ?_)
  have hP : va_P (dC, dI) vwCl [(h0, .inr (3, [.ref gc, .ref ga1, .ref ga2, .ref ga3, .ref ga4, .ref ga5, .ref ga6, .ref ga7, .ref ga8, .int 0, .int 0, .int 0, .int 0, .int (-1)])), (gc, .inr (0, [.ref gcc, .int 0]))] H := hP
  have hD : va_D A [(h0, .inr (3, [.ref gc, .ref ga1, .ref ga2, .ref ga3, .ref ga4, .ref ga5, .ref ga6, .ref ga7, .ref ga8, .int 0, .int 0, .int 0, .int 0, .int (-1)])), (gc, .inr (0, [.ref gcc, .int 0]))] := hD
  refine lv_aload_n hx hb dX3_clear_18 rfl (lv_at hl 0 rfl) ?_
  refine lv_iconst (v := 0) hx hb dX3_clear_19 (by decide) ?_
  refine va_put (D := (dC, dI)) (ci := 3) (v := .int 0) (ty := .int) (C := RX3) (T := TX3) (N := 14) hx hb hts iwwsX3_clear_3 tyX3 tyX3_ok nmX3 hown hK hP hD hS 0 rfl rfl 11 (by decide) (hts (.fieldLink RX3 56 "NothingJudge$Program" "uses" "I") fwwsX3_clear_56) (fun _ h9 => h9) rfl (by decide +kernel) rfl rfl (Nat.le_of_ble_eq_true rfl) dX3_clear_20 (fun H locs hP hD hS => ?_)
  have hP : va_P (dC, dI) vwCl [(h0, .inr (3, [.ref gc, .ref ga1, .ref ga2, .ref ga3, .ref ga4, .ref ga5, .ref ga6, .ref ga7, .ref ga8, .int 0, .int 0, .int 0, .int 0, .int (-1)])), (gc, .inr (0, [.ref gcc, .int 0]))] H := hP
  have hD : va_D A [(h0, .inr (3, [.ref gc, .ref ga1, .ref ga2, .ref ga3, .ref ga4, .ref ga5, .ref ga6, .ref ga7, .ref ga8, .int 0, .int 0, .int 0, .int 0, .int (-1)])), (gc, .inr (0, [.ref gcc, .int 0]))] := hD
  refine lv_aload_n hx hb dX3_clear_23 rfl (lv_at hl 0 rfl) ?_
  refine lv_iconst (v := 0) hx hb dX3_clear_24 (by decide) ?_
  refine va_put (D := (dC, dI)) (ci := 3) (v := .int 0) (ty := .int) (C := RX3) (T := TX3) (N := 14) hx hb hts iwwsX3_clear_3 tyX3 tyX3_ok nmX3 hown hK hP hD hS 0 rfl rfl 12 (by decide) (hts (.fieldLink RX3 59 "NothingJudge$Program" "tests" "I") fwwsX3_clear_59) (fun _ h9 => h9) rfl (by decide +kernel) rfl rfl (Nat.le_of_ble_eq_true rfl) dX3_clear_25 (fun H locs hP hD hS => ?_)
  have hP : va_P (dC, dI) vwCl [(h0, .inr (3, [.ref gc, .ref ga1, .ref ga2, .ref ga3, .ref ga4, .ref ga5, .ref ga6, .ref ga7, .ref ga8, .int 0, .int 0, .int 0, .int 0, .int (-1)])), (gc, .inr (0, [.ref gcc, .int 0]))] H := hP
  have hD : va_D A [(h0, .inr (3, [.ref gc, .ref ga1, .ref ga2, .ref ga3, .ref ga4, .ref ga5, .ref ga6, .ref ga7, .ref ga8, .int 0, .int 0, .int 0, .int 0, .int (-1)])), (gc, .inr (0, [.ref gcc, .int 0]))] := hD
  refine lv_aload_n hx hb dX3_clear_28 rfl (lv_at hl 0 rfl) ?_
  refine lv_iconst (v := (-1)) hx hb dX3_clear_29 (by decide) ?_
  refine va_put (D := (dC, dI)) (ci := 3) (v := .int (-1)) (ty := .int) (C := RX3) (T := TX3) (N := 14) hx hb hts iwwsX3_clear_3 tyX3 tyX3_ok nmX3 hown hK hP hD hS 0 rfl rfl 13 (by decide) (hts (.fieldLink RX3 43 "NothingJudge$Program" "first" "I") fwwsX3_clear_43) (fun _ h9 => h9) rfl (by decide +kernel) rfl rfl (Nat.le_of_ble_eq_true rfl) dX3_clear_30 (fun H locs hP hD hS => ?_)
  have hP : va_P (dC, dI) vwCl [(h0, .inr (3, [.ref gc, .ref ga1, .ref ga2, .ref ga3, .ref ga4, .ref ga5, .ref ga6, .ref ga7, .ref ga8, .int 0, .int 0, .int 0, .int 0, .int (-1)])), (gc, .inr (0, [.ref gcc, .int 0]))] H := hP
  have hD : va_D A [(h0, .inr (3, [.ref gc, .ref ga1, .ref ga2, .ref ga3, .ref ga4, .ref ga5, .ref ga6, .ref ga7, .ref ga8, .int 0, .int 0, .int 0, .int 0, .int (-1)])), (gc, .inr (0, [.ref gcc, .int 0]))] := hD
  have hP9 := hP.sub (ws' := [(h0, .inr (3, [.ref gc, .ref ga1, .ref ga2, .ref ga3, .ref ga4, .ref ga5, .ref ga6, .ref ga7, .ref ga8, .int 0, .int 0, .int 0, .int 0, .int (-1)])), (gc, .inr (0, [.ref gcc, .int 0]))]) [0, 1] rfl
  have hD9 := hD.sub (ws' := [(h0, .inr (3, [.ref gc, .ref ga1, .ref ga2, .ref ga3, .ref ga4, .ref ga5, .ref ga6, .ref ga7, .ref ga8, .int 0, .int 0, .int 0, .int 0, .int (-1)])), (gc, .inr (0, [.ref gcc, .int 0]))]) [0, 1] (by decide) rfl
  exact W.vret hx hb hr (fun t ht hW => ⟨⟨(), rfl, trivial, by rw [ht]; exact hP9, hD9⟩, hS.F ht⟩) hS.2.2 dX3_clear_33

set_option maxHeartbeats 4000000 in
set_option maxRecDepth 100000 in
theorem c_readInto (l : Launch) (dC : Nat → ClassId) (dI : Nat → Nat → Nat) (cI cB cL cZ : ClassId) (h0 : Nat) (tok : Nat) (rd1 : Nat) (rd2 : Nat) (g : Nat) (gc : Nat) (gcc : Nat) (tk0 : Nat) (ga1 : Nat) (ga2 : Nat) (ga3 : Nat) (ga4 : Nat) (ga5 : Nat) (ga6 : Nat) (ga7 : Nat) (ga8 : Nat) (sz : Nat)  : Met l yX4_readInto wsX4_readInto ({ frames := 2, cells := 0, slots := 0, locals := 42 }) (cP (dC, dI) (kTy cI cB cL cZ) [.ref h0, .ref g] [(h0, .inr (4, [.ref tok, .ref rd1, .ref rd2, .ref g, .ref gc, .int 0, .int 0, .int 0, .int 0, .int (-1)])), (g, .inr (3, [.ref gc, .ref ga1, .ref ga2, .ref ga3, .ref ga4, .ref ga5, .ref ga6, .ref ga7, .ref ga8, .int 0, .int 0, .int 0, .int 0, .int (-1)])), (gc, .inr (0, [.ref gcc, .int 0])), (tok, .inr (7, [.ref tk0, .int 0, .int 0]))] sz) (va_Qv (fun _ : Unit => True) (fun (_ : Unit) (t : State) => va_P (dC, dI) vwCl [(h0, .inr (4, [.ref tok, .ref rd1, .ref rd2, .ref g, .ref gc, .int 0, .int 0, .int 0, .int 0, .int (-1)])), (g, .inr (3, [.ref gc, .ref ga1, .ref ga2, .ref ga3, .ref ga4, .ref ga5, .ref ga6, .ref ga7, .ref ga8, .int 0, .int 0, .int 0, .int 0, .int (-1)]))] t.heap ∧ va_D (va_A [(h0, .inr (4, [.ref tok, .ref rd1, .ref rd2, .ref g, .ref gc, .int 0, .int 0, .int 0, .int 0, .int (-1)])), (g, .inr (3, [.ref gc, .ref ga1, .ref ga2, .ref ga3, .ref ga4, .ref ga5, .ref ga6, .ref ga7, .ref ga8, .int 0, .int 0, .int 0, .int 0, .int (-1)])), (gc, .inr (0, [.ref gcc, .int 0])), (tok, .inr (7, [.ref tk0, .int 0, .int 0]))] sz) [(h0, .inr (4, [.ref tok, .ref rd1, .ref rd2, .ref g, .ref gc, .int 0, .int 0, .int 0, .int 0, .int (-1)])), (g, .inr (3, [.ref gc, .ref ga1, .ref ga2, .ref ga3, .ref ga4, .ref ga5, .ref ga6, .ref ga7, .ref ga8, .int 0, .int 0, .int 0, .int 0, .int (-1)]))]) (va_A [(h0, .inr (4, [.ref tok, .ref rd1, .ref rd2, .ref g, .ref gc, .int 0, .int 0, .int 0, .int 0, .int (-1)])), (g, .inr (3, [.ref gc, .ref ga1, .ref ga2, .ref ga3, .ref ga4, .ref ga5, .ref ga6, .ref ga7, .ref ga8, .int 0, .int 0, .int 0, .int 0, .int (-1)])), (gc, .inr (0, [.ref gcc, .int 0])), (tok, .inr (7, [.ref tk0, .int 0, .int 0]))] sz)) 0 0 (va_A [(h0, .inr (4, [.ref tok, .ref rd1, .ref rd2, .ref g, .ref gc, .int 0, .int 0, .int 0, .int 0, .int (-1)])), (g, .inr (3, [.ref gc, .ref ga1, .ref ga2, .ref ga3, .ref ga4, .ref ga5, .ref ga6, .ref ga7, .ref ga8, .int 0, .int 0, .int 0, .int 0, .int (-1)])), (gc, .inr (0, [.ref gcc, .int 0])), (tok, .inr (7, [.ref tk0, .int 0, .int 0]))] sz) := by
  refine Met.ofW (cc := cX4_readInto) (maxL := 3) (ret := none) (by decide) rfl ?_
  intro p e s m args below meth c s₁ B hml hv
  obtain ⟨rfl, hsz, hP, hK, hD0, hN⟩ := hv
  have hx := B.exec
  have hb := B.bytes
  have hr := B.returns
  have hts := atoms_spec (ws := wsX4_readInto) B.pre
  have hown : s.vm.findClass RX4 = some m.cls := findClass_of_methodNamed B.named
  have hlocks := B.notSynchronized
  subst hsz
  have hD := hD0.self (sz := s.heap.size)
  generalize hAe : va_A [(h0, .inr (4, [.ref tok, .ref rd1, .ref rd2, .ref g, .ref gc, .int 0, .int 0, .int 0, .int 0, .int (-1)])), (g, .inr (3, [.ref gc, .ref ga1, .ref ga2, .ref ga3, .ref ga4, .ref ga5, .ref ga6, .ref ga7, .ref ga8, .int 0, .int 0, .int 0, .int 0, .int (-1)])), (gc, .inr (0, [.ref gcc, .int 0])), (tok, .inr (7, [.ref tk0, .int 0, .int 0]))] s.heap.size = A at hD ⊢
  have hA : ∀ q : Nat, s.heap.size ≤ q → A q := fun q h => by rw [← hAe]; exact Or.inr h
  have hl := lv_entry ([.ref h0, .ref g]) (n := 3) (Nat.le_of_ble_eq_true rfl)
  rw [lg_entry_eq]
  generalize (lg_sl ([.ref h0, .ref g]) ++ List.replicate (3 - (lg_sl ([.ref h0, .ref g])).length) Slot.unset).toArray = ls at hl ⊢
  have hl : lv_has ls 3 [(0, .ref h0), (1, .ref g)] := hl
  refine k_H (A := A) hP (fun H hP hS => ?_)
  have hP : va_P (dC, dI) vwCl [(h0, .inr (4, [.ref tok, .ref rd1, .ref rd2, .ref g, .ref gc, .int 0, .int 0, .int 0, .int 0, .int (-1)])), (g, .inr (3, [.ref gc, .ref ga1, .ref ga2, .ref ga3, .ref ga4, .ref ga5, .ref ga6, .ref ga7, .ref ga8, .int 0, .int 0, .int 0, .int 0, .int (-1)])), (gc, .inr (0, [.ref gcc, .int 0])), (tok, .inr (7, [.ref tk0, .int 0, .int 0]))] H := hP
  have hD : va_D A [(h0, .inr (4, [.ref tok, .ref rd1, .ref rd2, .ref g, .ref gc, .int 0, .int 0, .int 0, .int 0, .int (-1)])), (g, .inr (3, [.ref gc, .ref ga1, .ref ga2, .ref ga3, .ref ga4, .ref ga5, .ref ga6, .ref ga7, .ref ga8, .int 0, .int 0, .int 0, .int 0, .int (-1)])), (gc, .inr (0, [.ref gcc, .int 0])), (tok, .inr (7, [.ref tk0, .int 0, .int 0]))] := hD
  refine lv_aload_n hx hb dX4_readInto_0 rfl (lv_at hl 0 rfl) ?_
  refine lv_aload_n hx hb dX4_readInto_1 rfl (lv_at hl 1 rfl) ?_
  refine va_put (D := (dC, dI)) (ci := 4) (v := .ref g) (ty := .object "NothingJudge$Program") (C := RX4) (T := TX4) (N := 10) hx hb hts iwwsX4_readInto_4 tyX4 tyX4_ok nmX4 hown hK hP hD hS 0 rfl rfl 3 (by decide) (hts (.fieldLink RX4 26 "NothingJudge$Reader" "program" "LNothingJudge$Program;") fwwsX4_readInto_26) (fun _ h9 => h9) rfl (by decide +kernel) rfl rfl (Nat.le_of_ble_eq_true rfl) dX4_readInto_2 (fun H locs hP hD hS => ?_)
  have hP : va_P (dC, dI) vwCl [(h0, .inr (4, [.ref tok, .ref rd1, .ref rd2, .ref g, .ref gc, .int 0, .int 0, .int 0, .int 0, .int (-1)])), (g, .inr (3, [.ref gc, .ref ga1, .ref ga2, .ref ga3, .ref ga4, .ref ga5, .ref ga6, .ref ga7, .ref ga8, .int 0, .int 0, .int 0, .int 0, .int (-1)])), (gc, .inr (0, [.ref gcc, .int 0])), (tok, .inr (7, [.ref tk0, .int 0, .int 0]))] H := hP
  have hD : va_D A [(h0, .inr (4, [.ref tok, .ref rd1, .ref rd2, .ref g, .ref gc, .int 0, .int 0, .int 0, .int 0, .int (-1)])), (g, .inr (3, [.ref gc, .ref ga1, .ref ga2, .ref ga3, .ref ga4, .ref ga5, .ref ga6, .ref ga7, .ref ga8, .int 0, .int 0, .int 0, .int 0, .int (-1)])), (gc, .inr (0, [.ref gcc, .int 0])), (tok, .inr (7, [.ref tk0, .int 0, .int 0]))] := hD
  refine lv_aload_n hx hb dX4_readInto_5 rfl (lv_at hl 0 rfl) ?_
  refine lv_aload_n hx hb dX4_readInto_6 rfl (lv_at hl 1 rfl) ?_
  refine va_get (D := (dC, dI)) (ci := 3) (v := .ref gc) (C := RX3) (T := TX3) (N := 14) hx hb hts iwwsX4_readInto_3 hown hK hP 1 rfl rfl 0 (by decide) (hts (.fieldLink RX4 30 "NothingJudge$Program" "code" "LNothingJudge$Code;") fwwsX4_readInto_30) (fun _ h9 => h9) rfl dX4_readInto_7 ?_
  refine va_put (D := (dC, dI)) (ci := 4) (v := .ref gc) (ty := .object "NothingJudge$Code") (C := RX4) (T := TX4) (N := 10) hx hb hts iwwsX4_readInto_4 tyX4 tyX4_ok nmX4 hown hK hP hD hS 0 rfl rfl 4 (by decide) (hts (.fieldLink RX4 36 "NothingJudge$Reader" "code" "LNothingJudge$Code;") fwwsX4_readInto_36) (fun _ h9 => h9) rfl (by decide +kernel) rfl rfl (Nat.le_of_ble_eq_true rfl) dX4_readInto_10 (fun H locs hP hD hS => ?_)
  have hP : va_P (dC, dI) vwCl [(h0, .inr (4, [.ref tok, .ref rd1, .ref rd2, .ref g, .ref gc, .int 0, .int 0, .int 0, .int 0, .int (-1)])), (g, .inr (3, [.ref gc, .ref ga1, .ref ga2, .ref ga3, .ref ga4, .ref ga5, .ref ga6, .ref ga7, .ref ga8, .int 0, .int 0, .int 0, .int 0, .int (-1)])), (gc, .inr (0, [.ref gcc, .int 0])), (tok, .inr (7, [.ref tk0, .int 0, .int 0]))] H := hP
  have hD : va_D A [(h0, .inr (4, [.ref tok, .ref rd1, .ref rd2, .ref g, .ref gc, .int 0, .int 0, .int 0, .int 0, .int (-1)])), (g, .inr (3, [.ref gc, .ref ga1, .ref ga2, .ref ga3, .ref ga4, .ref ga5, .ref ga6, .ref ga7, .ref ga8, .int 0, .int 0, .int 0, .int 0, .int (-1)])), (gc, .inr (0, [.ref gcc, .int 0])), (tok, .inr (7, [.ref tk0, .int 0, .int 0]))] := hD
  refine lv_aload_n hx hb dX4_readInto_13 rfl (lv_at hl 1 rfl) ?_
  have hPc := hP.sub (ws' := [(g, .inr (3, [.ref gc, .ref ga1, .ref ga2, .ref ga3, .ref ga4, .ref ga5, .ref ga6, .ref ga7, .ref ga8, .int 0, .int 0, .int 0, .int 0, .int (-1)])), (gc, .inr (0, [.ref gcc, .int 0]))]) [1, 2] rfl
  have hDc := hD.sub (ws' := [(g, .inr (3, [.ref gc, .ref ga1, .ref ga2, .ref ga3, .ref ga4, .ref ga5, .ref ga6, .ref ga7, .ref ga8, .int 0, .int 0, .int 0, .int 0, .int (-1)])), (gc, .inr (0, [.ref gcc, .int 0]))]) [1, 2] (by decide) rfl
  have hFc := va_free (wc := [(g, .inr (3, [.ref gc, .ref ga1, .ref ga2, .ref ga3, .ref ga4, .ref ga5, .ref ga6, .ref ga7, .ref ga8, .int 0, .int 0, .int 0, .int 0, .int (-1)])), (gc, .inr (0, [.ref gcc, .int 0]))]) hD hS hA [1, 2] rfl
  refine va_callv (va_runV (As := []) (rest := []) ⟨hx, hb, hml, hown, hts⟩ (c_pclear l dC dI cI cB cL cZ (g) (gc) (gcc) (ga1) (ga2) (ga3) (ga4) (ga5) (ga6) (ga7) (ga8) H.size) (cwV 0 hts gX4_readInto_X3_clear rfl rfl rfl (by decide +kernel) ⟨Nat.le_of_ble_eq_true rfl, Nat.le_of_ble_eq_true rfl⟩) ⟨cP_fb, va_recv hK hPc (ci := 3) (q0 := 0) rfl rfl, fun U hU hW => cP_pre hPc hK hDc hN U hU hW⟩ rfl rfl hl.1 rfl (lv_room (Nat.le_of_ble_eq_true rfl)) dX4_readInto_14 ⟨Nat.le_of_ble_eq_true rfl, Nat.le_of_ble_eq_true rfl⟩) hS (fun q _ h => hFc q h) hFc (fun u t H1 locs ht hvm hw hB hz1 hk1 hS => ?_)
  obtain ⟨hP1, hD1⟩ := hB
  rw [ht] at hP1
  obtain ⟨hP, hD⟩ := va_join (wr := [(h0, .inr (4, [.ref tok, .ref rd1, .ref rd2, .ref g, .ref gc, .int 0, .int 0, .int 0, .int 0, .int (-1)])), (tok, .inr (7, [.ref tk0, .int 0, .int 0]))]) (w1 := [(g, .inr (3, [.ref gc, .ref ga1, .ref ga2, .ref ga3, .ref ga4, .ref ga5, .ref ga6, .ref ga7, .ref ga8, .int 0, .int 0, .int 0, .int 0, .int (-1)])), (gc, .inr (0, [.ref gcc, .int 0]))]) hP hD [1, 2] [0, 3] rfl rfl (by decide) (by decide) hk1 hFc hP1 hD1
  generalize H1 = H at hP hS ⊢
  have hP : va_P (dC, dI) vwCl [(h0, .inr (4, [.ref tok, .ref rd1, .ref rd2, .ref g, .ref gc, .int 0, .int 0, .int 0, .int 0, .int (-1)])), (tok, .inr (7, [.ref tk0, .int 0, .int 0])), (g, .inr (3, [.ref gc, .ref ga1, .ref ga2, .ref ga3, .ref ga4, .ref ga5, .ref ga6, .ref ga7, .ref ga8, .int 0, .int 0, .int 0, .int 0, .int (-1)])), (gc, .inr (0, [.ref gcc, .int 0]))] H := hP
  have hD : va_D A [(h0, .inr (4, [.ref tok, .ref rd1, .ref rd2, .ref g, .ref gc, .int 0, .int 0, .int 0, .int 0, .int (-1)])), (tok, .inr (7, [.ref tk0, .int 0, .int 0])), (g, .inr (3, [.ref gc, .ref ga1, .ref ga2, .ref ga3, .ref ga4, .ref ga5, .ref ga6, .ref ga7, .ref ga8, .int 0, .int 0, .int 0, .int 0, .int (-1)])), (gc, .inr (0, [.ref gcc, .int 0]))] := hD
  refine lv_aload_n hx hb dX4_readInto_17 rfl (lv_at hl 0 rfl) ?_
  refine lv_iconst (v := 0) hx hb dX4_readInto_18 (by decide) ?_
  refine va_put (D := (dC, dI)) (ci := 4) (v := .int 0) (ty := .int) (C := RX4) (T := TX4) (N := 10) hx hb hts iwwsX4_readInto_4 tyX4 tyX4_ok nmX4 hown hK hP hD hS 0 rfl rfl 5 (by decide) (hts (.fieldLink RX4 40 "NothingJudge$Reader" "next" "I") fwwsX4_readInto_40) (fun _ h9 => h9) rfl (by decide +kernel) rfl rfl (Nat.le_of_ble_eq_true rfl) dX4_readInto_19 (fun H locs hP hD hS => ?_)
  have hP : va_P (dC, dI) vwCl [(h0, .inr (4, [.ref tok, .ref rd1, .ref rd2, .ref g, .ref gc, .int 0, .int 0, .int 0, .int 0, .int (-1)])), (tok, .inr (7, [.ref tk0, .int 0, .int 0])), (g, .inr (3, [.ref gc, .ref ga1, .ref ga2, .ref ga3, .ref ga4, .ref ga5, .ref ga6, .ref ga7, .ref ga8, .int 0, .int 0, .int 0, .int 0, .int (-1)])), (gc, .inr (0, [.ref gcc, .int 0]))] H := hP
  have hD : va_D A [(h0, .inr (4, [.ref tok, .ref rd1, .ref rd2, .ref g, .ref gc, .int 0, .int 0, .int 0, .int 0, .int (-1)])), (tok, .inr (7, [.ref tk0, .int 0, .int 0])), (g, .inr (3, [.ref gc, .ref ga1, .ref ga2, .ref ga3, .ref ga4, .ref ga5, .ref ga6, .ref ga7, .ref ga8, .int 0, .int 0, .int 0, .int 0, .int (-1)])), (gc, .inr (0, [.ref gcc, .int 0]))] := hD
  refine lv_aload_n hx hb dX4_readInto_22 rfl (lv_at hl 0 rfl) ?_
  refine lv_iconst (v := 0) hx hb dX4_readInto_23 (by decide) ?_
  refine va_put (D := (dC, dI)) (ci := 4) (v := .int 0) (ty := .int) (C := RX4) (T := TX4) (N := 10) hx hb hts iwwsX4_readInto_4 tyX4 tyX4_ok nmX4 hown hK hP hD hS 0 rfl rfl 6 (by decide) (hts (.fieldLink RX4 43 "NothingJudge$Reader" "open" "I") fwwsX4_readInto_43) (fun _ h9 => h9) rfl (by decide +kernel) rfl rfl (Nat.le_of_ble_eq_true rfl) dX4_readInto_24 (fun H locs hP hD hS => ?_)
  have hP : va_P (dC, dI) vwCl [(h0, .inr (4, [.ref tok, .ref rd1, .ref rd2, .ref g, .ref gc, .int 0, .int 0, .int 0, .int 0, .int (-1)])), (tok, .inr (7, [.ref tk0, .int 0, .int 0])), (g, .inr (3, [.ref gc, .ref ga1, .ref ga2, .ref ga3, .ref ga4, .ref ga5, .ref ga6, .ref ga7, .ref ga8, .int 0, .int 0, .int 0, .int 0, .int (-1)])), (gc, .inr (0, [.ref gcc, .int 0]))] H := hP
  have hD : va_D A [(h0, .inr (4, [.ref tok, .ref rd1, .ref rd2, .ref g, .ref gc, .int 0, .int 0, .int 0, .int 0, .int (-1)])), (tok, .inr (7, [.ref tk0, .int 0, .int 0])), (g, .inr (3, [.ref gc, .ref ga1, .ref ga2, .ref ga3, .ref ga4, .ref ga5, .ref ga6, .ref ga7, .ref ga8, .int 0, .int 0, .int 0, .int 0, .int (-1)])), (gc, .inr (0, [.ref gcc, .int 0]))] := hD
  refine lv_aload_n hx hb dX4_readInto_27 rfl (lv_at hl 0 rfl) ?_
  refine lv_iconst (v := 0) hx hb dX4_readInto_28 (by decide) ?_
  refine va_put (D := (dC, dI)) (ci := 4) (v := .int 0) (ty := .int) (C := RX4) (T := TX4) (N := 10) hx hb hts iwwsX4_readInto_4 tyX4 tyX4_ok nmX4 hown hK hP hD hS 0 rfl rfl 8 (by decide) (hts (.fieldLink RX4 46 "NothingJudge$Reader" "wrong" "I") fwwsX4_readInto_46) (fun _ h9 => h9) rfl (by decide +kernel) rfl rfl (Nat.le_of_ble_eq_true rfl) dX4_readInto_29 (fun H locs hP hD hS => ?_)
  have hP : va_P (dC, dI) vwCl [(h0, .inr (4, [.ref tok, .ref rd1, .ref rd2, .ref g, .ref gc, .int 0, .int 0, .int 0, .int 0, .int (-1)])), (tok, .inr (7, [.ref tk0, .int 0, .int 0])), (g, .inr (3, [.ref gc, .ref ga1, .ref ga2, .ref ga3, .ref ga4, .ref ga5, .ref ga6, .ref ga7, .ref ga8, .int 0, .int 0, .int 0, .int 0, .int (-1)])), (gc, .inr (0, [.ref gcc, .int 0]))] H := hP
  have hD : va_D A [(h0, .inr (4, [.ref tok, .ref rd1, .ref rd2, .ref g, .ref gc, .int 0, .int 0, .int 0, .int 0, .int (-1)])), (tok, .inr (7, [.ref tk0, .int 0, .int 0])), (g, .inr (3, [.ref gc, .ref ga1, .ref ga2, .ref ga3, .ref ga4, .ref ga5, .ref ga6, .ref ga7, .ref ga8, .int 0, .int 0, .int 0, .int 0, .int (-1)])), (gc, .inr (0, [.ref gcc, .int 0]))] := hD
  refine lv_aload_n hx hb dX4_readInto_32 rfl (lv_at hl 0 rfl) ?_
  refine lv_iconst (v := (-1)) hx hb dX4_readInto_33 (by decide) ?_
  refine va_put (D := (dC, dI)) (ci := 4) (v := .int (-1)) (ty := .int) (C := RX4) (T := TX4) (N := 10) hx hb hts iwwsX4_readInto_4 tyX4 tyX4_ok nmX4 hown hK hP hD hS 0 rfl rfl 9 (by decide) (hts (.fieldLink RX4 18 "NothingJudge$Reader" "wrongPlace" "I") fwwsX4_readInto_18) (fun _ h9 => h9) rfl (by decide +kernel) rfl rfl (Nat.le_of_ble_eq_true rfl) dX4_readInto_34 (fun H locs hP hD hS => ?_)
  have hP : va_P (dC, dI) vwCl [(h0, .inr (4, [.ref tok, .ref rd1, .ref rd2, .ref g, .ref gc, .int 0, .int 0, .int 0, .int 0, .int (-1)])), (tok, .inr (7, [.ref tk0, .int 0, .int 0])), (g, .inr (3, [.ref gc, .ref ga1, .ref ga2, .ref ga3, .ref ga4, .ref ga5, .ref ga6, .ref ga7, .ref ga8, .int 0, .int 0, .int 0, .int 0, .int (-1)])), (gc, .inr (0, [.ref gcc, .int 0]))] H := hP
  have hD : va_D A [(h0, .inr (4, [.ref tok, .ref rd1, .ref rd2, .ref g, .ref gc, .int 0, .int 0, .int 0, .int 0, .int (-1)])), (tok, .inr (7, [.ref tk0, .int 0, .int 0])), (g, .inr (3, [.ref gc, .ref ga1, .ref ga2, .ref ga3, .ref ga4, .ref ga5, .ref ga6, .ref ga7, .ref ga8, .int 0, .int 0, .int 0, .int 0, .int (-1)])), (gc, .inr (0, [.ref gcc, .int 0]))] := hD
  refine lv_iconst (v := 0) hx hb dX4_readInto_37 (by decide) ?_
  refine lv_istore_n (lv' := [(2, .int 0), (0, .ref h0), (1, .ref g)]) hx hb dX4_readInto_38 rfl hl (by decide) rfl (fun ls hl => ?_)
  refine lv_iload_n hx hb dX4_readInto_39 rfl (lv_at hl 0 rfl) ?_
  refine lv_sipush (v := 1200) hx hb dX4_readInto_40 (by decide) ?_
  refine lv_icmp_gt (tgt := 110) hx hb dX4_readInto_43 (by decide) (fun c9 => absurd c9 (by decide)) (fun _ => ?_)
  refine lv_aload_n hx hb dX4_readInto_46 rfl (lv_at hl 1 rfl) ?_
  refine va_get (D := (dC, dI)) (ci := 4) (v := .int 0) (C := RX4) (T := TX4) (N := 10) hx hb hts iwwsX4_readInto_4 hown hK hP 0 rfl rfl 8 (by decide) (hts (.fieldLink RX4 46 "NothingJudge$Reader" "wrong" "I") fwwsX4_readInto_46) (fun _ h9 => h9) rfl dX4_readInto_47 ?_
  refine lv_if_ne (tgt := 110) hx hb dX4_readInto_50 (by decide) (fun c9 => absurd c9 (by decide)) (fun _ => ?_)
  refine lv_aload_n hx hb dX4_readInto_53 rfl (lv_at hl 1 rfl) ?_
  refine va_get (D := (dC, dI)) (ci := 4) (v := .int 0) (C := RX4) (T := TX4) (N := 10) hx hb hts iwwsX4_readInto_4 hown hK hP 0 rfl rfl 6 (by decide) (hts (.fieldLink RX4 43 "NothingJudge$Reader" "open" "I") fwwsX4_readInto_43) (fun _ h9 => h9) rfl dX4_readInto_54 ?_
  refine lv_if_gt (tgt := 68) hx hb dX4_readInto_57 (by decide) (fun c9 => absurd c9 (by decide)) (fun _ => ?_)
  refine lv_aload_n hx hb dX4_readInto_60 rfl (lv_at hl 1 rfl) ?_
  refine lv_iconst (v := 0) hx hb dX4_readInto_61 (by decide) ?_
  have hPc := hP.sub (ws' := [(h0, .inr (4, [.ref tok, .ref rd1, .ref rd2, .ref g, .ref gc, .int 0, .int 0, .int 0, .int 0, .int (-1)])), (tok, .inr (7, [.ref tk0, .int 0, .int 0]))]) [0, 1] rfl
  have hDc := hD.sub (ws' := [(h0, .inr (4, [.ref tok, .ref rd1, .ref rd2, .ref g, .ref gc, .int 0, .int 0, .int 0, .int 0, .int (-1)])), (tok, .inr (7, [.ref tk0, .int 0, .int 0]))]) [0, 1] (by decide) rfl
  have hFc := va_free (wc := [(h0, .inr (4, [.ref tok, .ref rd1, .ref rd2, .ref g, .ref gc, .int 0, .int 0, .int 0, .int 0, .int (-1)])), (tok, .inr (7, [.ref tk0, .int 0, .int 0]))]) hD hS hA [0, 1] rfl
  refine va_calli (va_runV (As := [.int 0]) (rest := []) ⟨hx, hb, hml, hown, hts⟩ (c_seen l dC dI cI cB cL cZ (h0) (tok) (rd1) (rd2) (g) (gc) (tk0) H.size) (cwV 1 hts gX4_readInto_X4_seen rfl rfl rfl (by decide +kernel) ⟨Nat.le_of_ble_eq_true rfl, Nat.le_of_ble_eq_true rfl⟩) ⟨cP_fb, va_recv hK hPc (ci := 4) (q0 := 0) rfl rfl, fun U hU hW => cP_pre hPc hK hDc hN U hU hW⟩ rfl rfl hl.1 rfl (lv_room (Nat.le_of_ble_eq_true rfl)) dX4_readInto_62 ⟨Nat.le_of_ble_eq_true rfl, Nat.le_of_ble_eq_true rfl⟩) hS (fun q _ h => hFc q h) hFc (fun r_288 u t H1 locs ht hvm hw hB hz1 hk1 hS => ?_)
  obtain ⟨hP1, hD1⟩ := hB
  rw [ht] at hP1
  obtain ⟨hP, hD⟩ := va_join (wr := [(g, .inr (3, [.ref gc, .ref ga1, .ref ga2, .ref ga3, .ref ga4, .ref ga5, .ref ga6, .ref ga7, .ref ga8, .int 0, .int 0, .int 0, .int 0, .int (-1)])), (gc, .inr (0, [.ref gcc, .int 0]))]) (w1 := [(h0, .inr (4, [.ref tok, .ref rd1, .ref rd2, .ref g, .ref gc, .int 0, .int 0, .int 0, .int 0, .int (-1)])), (tok, .inr (7, [.ref tk0, .int 0, .int 0]))]) hP hD [0, 1] [2, 3] rfl rfl (by decide) (by decide) hk1 hFc hP1 hD1
  generalize H1 = H at hP hS ⊢
  have hP : va_P (dC, dI) vwCl [(g, .inr (3, [.ref gc, .ref ga1, .ref ga2, .ref ga3, .ref ga4, .ref ga5, .ref ga6, .ref ga7, .ref ga8, .int 0, .int 0, .int 0, .int 0, .int (-1)])), (gc, .inr (0, [.ref gcc, .int 0])), (h0, .inr (4, [.ref tok, .ref rd1, .ref rd2, .ref g, .ref gc, .int 0, .int 0, .int 0, .int 0, .int (-1)])), (tok, .inr (7, [.ref tk0, .int 0, .int 0]))] H := hP
  have hD : va_D A [(g, .inr (3, [.ref gc, .ref ga1, .ref ga2, .ref ga3, .ref ga4, .ref ga5, .ref ga6, .ref ga7, .ref ga8, .int 0, .int 0, .int 0, .int 0, .int (-1)])), (gc, .inr (0, [.ref gcc, .int 0])), (h0, .inr (4, [.ref tok, .ref rd1, .ref rd2, .ref g, .ref gc, .int 0, .int 0, .int 0, .int 0, .int (-1)])), (tok, .inr (7, [.ref tk0, .int 0, .int 0]))] := hD
  obtain rfl : r_288 = 1 := hw
  refine lv_if_ne (tgt := 110) hx hb dX4_readInto_65 (by decide) (fun _ => ?_) (fun c9 => absurd (by decide) c9)
  refine lv_aload_n hx hb dX4_readInto_110 rfl (lv_at hl 1 rfl) ?_
  refine va_get (D := (dC, dI)) (ci := 4) (v := .int 0) (C := RX4) (T := TX4) (N := 10) hx hb hts iwwsX4_readInto_4 hown hK hP 2 rfl rfl 8 (by decide) (hts (.fieldLink RX4 46 "NothingJudge$Reader" "wrong" "I") fwwsX4_readInto_46) (fun _ h9 => h9) rfl dX4_readInto_111 ?_
  refine lv_if_ne (tgt := 121) hx hb dX4_readInto_114 (by decide) (fun c9 => absurd c9 (by decide)) (fun _ => ?_)
  refine lv_aload_n hx hb dX4_readInto_117 rfl (lv_at hl 1 rfl) ?_
  have hPc := hP.sub (ws' := [(h0, .inr (4, [.ref tok, .ref rd1, .ref rd2, .ref g, .ref gc, .int 0, .int 0, .int 0, .int 0, .int (-1)])), (gc, .inr (0, [.ref gcc, .int 0]))]) [2, 1] rfl
  have hDc := hD.sub (ws' := [(h0, .inr (4, [.ref tok, .ref rd1, .ref rd2, .ref g, .ref gc, .int 0, .int 0, .int 0, .int 0, .int (-1)])), (gc, .inr (0, [.ref gcc, .int 0]))]) [2, 1] (by decide) rfl
  have hFc := va_free (wc := [(h0, .inr (4, [.ref tok, .ref rd1, .ref rd2, .ref g, .ref gc, .int 0, .int 0, .int 0, .int 0, .int (-1)])), (gc, .inr (0, [.ref gcc, .int 0]))]) hD hS hA [2, 1] rfl
  refine va_callv (va_runV (As := []) (rest := []) ⟨hx, hb, hml, hown, hts⟩ (c_checkCalls l dC dI cI cB cL cZ (h0) (tok) (rd1) (rd2) (g) (gc) (gcc) H.size) (cwV 0 hts gX4_readInto_X4_checkCalls rfl rfl rfl (by decide +kernel) ⟨Nat.le_of_ble_eq_true rfl, Nat.le_of_ble_eq_true rfl⟩) ⟨cP_fb, va_recv hK hPc (ci := 4) (q0 := 0) rfl rfl, fun U hU hW => cP_pre hPc hK hDc hN U hU hW⟩ rfl rfl hl.1 rfl (lv_room (Nat.le_of_ble_eq_true rfl)) dX4_readInto_118 ⟨Nat.le_of_ble_eq_true rfl, Nat.le_of_ble_eq_true rfl⟩) hS (fun q _ h => hFc q h) hFc (fun u t H1 locs ht hvm hw hB hz1 hk1 hS => ?_)
  obtain ⟨hP1, hD1⟩ := hB
  rw [ht] at hP1
  obtain ⟨hP, hD⟩ := va_join (wr := [(g, .inr (3, [.ref gc, .ref ga1, .ref ga2, .ref ga3, .ref ga4, .ref ga5, .ref ga6, .ref ga7, .ref ga8, .int 0, .int 0, .int 0, .int 0, .int (-1)])), (tok, .inr (7, [.ref tk0, .int 0, .int 0]))]) (w1 := [(h0, .inr (4, [.ref tok, .ref rd1, .ref rd2, .ref g, .ref gc, .int 0, .int 0, .int 0, .int 0, .int (-1)])), (gc, .inr (0, [.ref gcc, .int 0]))]) hP hD [2, 1] [0, 3] rfl rfl (by decide) (by decide) hk1 hFc hP1 hD1
  generalize H1 = H at hP hS ⊢
  have hP : va_P (dC, dI) vwCl [(g, .inr (3, [.ref gc, .ref ga1, .ref ga2, .ref ga3, .ref ga4, .ref ga5, .ref ga6, .ref ga7, .ref ga8, .int 0, .int 0, .int 0, .int 0, .int (-1)])), (tok, .inr (7, [.ref tk0, .int 0, .int 0])), (h0, .inr (4, [.ref tok, .ref rd1, .ref rd2, .ref g, .ref gc, .int 0, .int 0, .int 0, .int 0, .int (-1)])), (gc, .inr (0, [.ref gcc, .int 0]))] H := hP
  have hD : va_D A [(g, .inr (3, [.ref gc, .ref ga1, .ref ga2, .ref ga3, .ref ga4, .ref ga5, .ref ga6, .ref ga7, .ref ga8, .int 0, .int 0, .int 0, .int 0, .int (-1)])), (tok, .inr (7, [.ref tk0, .int 0, .int 0])), (h0, .inr (4, [.ref tok, .ref rd1, .ref rd2, .ref g, .ref gc, .int 0, .int 0, .int 0, .int 0, .int (-1)])), (gc, .inr (0, [.ref gcc, .int 0]))] := hD
  have hP9 := hP.sub (ws' := [(h0, .inr (4, [.ref tok, .ref rd1, .ref rd2, .ref g, .ref gc, .int 0, .int 0, .int 0, .int 0, .int (-1)])), (g, .inr (3, [.ref gc, .ref ga1, .ref ga2, .ref ga3, .ref ga4, .ref ga5, .ref ga6, .ref ga7, .ref ga8, .int 0, .int 0, .int 0, .int 0, .int (-1)]))]) [2, 0] rfl
  have hD9 := hD.sub (ws' := [(h0, .inr (4, [.ref tok, .ref rd1, .ref rd2, .ref g, .ref gc, .int 0, .int 0, .int 0, .int 0, .int (-1)])), (g, .inr (3, [.ref gc, .ref ga1, .ref ga2, .ref ga3, .ref ga4, .ref ga5, .ref ga6, .ref ga7, .ref ga8, .int 0, .int 0, .int 0, .int 0, .int (-1)]))]) [2, 0] (by decide) rfl
  exact W.vret hx hb hr (fun t ht hW => ⟨⟨(), rfl, trivial, by rw [ht]; exact hP9, hD9⟩, hS.F ht⟩) hS.2.2 dX4_readInto_121

set_option maxHeartbeats 4000000 in
set_option maxRecDepth 100000 in
theorem c_forget (l : Launch) (dC : Nat → ClassId) (dI : Nat → Nat → Nat) (cI cB cL cZ : ClassId) (h0 : Nat) (tp : Nat) (tok : Nat) (sp : Nat) (rdr : Nat) (scn : Nat) (fct : Nat) (rnr : Nat) (trl : Nat) (mnd : Nat) (rrw : Nat) (tr0 : Nat) (tr1 : Nat) (tr2 : Nat) (tr3 : Nat) (md0 : Nat) (mpr : Nat) (md2 : Nat) (md3 : Nat) (sc : Nat) (g : Nat) (gc : Nat) (st : Nat) (se : Nat) (mk : Nat) (us : Nat) (te : Nat) (sz : Nat)  : Met l yX10_forget wsX10_forget ({ frames := 0, cells := 0, slots := 0, locals := 0 }) (cP (dC, dI) (kTy cI cB cL cZ) [.ref h0] [(h0, .inr (9, [.ref tp, .int 0, .ref tok, .ref sp, .ref rdr, .int 0, .int (-1), .ref scn, .ref fct, .ref rnr, .ref trl, .ref mnd, .ref rrw])), (fct, .inr (1, [.ref sc, .ref st, .ref se, .ref mk, .ref us, .ref te, .ref g, .ref gc, .int 1, .int 0, .int 0, .int 0, .long 0, .long 0])), (trl, .inr (8, [.ref tr0, .ref tr1, .ref tr2, .ref tr3, .int 1, .int 0])), (mnd, .inr (2, [.ref md0, .ref mpr, .ref md2, .ref md3, .int 1, .int 0, .int 0, .int (-1), .int 0, .int 0]))] sz) (va_Qv (fun _ : Unit => True) (fun (_ : Unit) (t : State) => va_P (dC, dI) vwCl [(h0, .inr (9, [.ref tp, .int 0, .ref tok, .ref sp, .ref rdr, .int 0, .int (-1), .ref scn, .ref fct, .ref rnr, .ref trl, .ref mnd, .ref rrw]))] t.heap ∧ va_D (va_A [(h0, .inr (9, [.ref tp, .int 0, .ref tok, .ref sp, .ref rdr, .int 0, .int (-1), .ref scn, .ref fct, .ref rnr, .ref trl, .ref mnd, .ref rrw])), (fct, .inr (1, [.ref sc, .ref st, .ref se, .ref mk, .ref us, .ref te, .ref g, .ref gc, .int 1, .int 0, .int 0, .int 0, .long 0, .long 0])), (trl, .inr (8, [.ref tr0, .ref tr1, .ref tr2, .ref tr3, .int 1, .int 0])), (mnd, .inr (2, [.ref md0, .ref mpr, .ref md2, .ref md3, .int 1, .int 0, .int 0, .int (-1), .int 0, .int 0]))] sz) [(h0, .inr (9, [.ref tp, .int 0, .ref tok, .ref sp, .ref rdr, .int 0, .int (-1), .ref scn, .ref fct, .ref rnr, .ref trl, .ref mnd, .ref rrw]))]) (va_A [(h0, .inr (9, [.ref tp, .int 0, .ref tok, .ref sp, .ref rdr, .int 0, .int (-1), .ref scn, .ref fct, .ref rnr, .ref trl, .ref mnd, .ref rrw])), (fct, .inr (1, [.ref sc, .ref st, .ref se, .ref mk, .ref us, .ref te, .ref g, .ref gc, .int 1, .int 0, .int 0, .int 0, .long 0, .long 0])), (trl, .inr (8, [.ref tr0, .ref tr1, .ref tr2, .ref tr3, .int 1, .int 0])), (mnd, .inr (2, [.ref md0, .ref mpr, .ref md2, .ref md3, .int 1, .int 0, .int 0, .int (-1), .int 0, .int 0]))] sz)) 0 0 (va_A [(h0, .inr (9, [.ref tp, .int 0, .ref tok, .ref sp, .ref rdr, .int 0, .int (-1), .ref scn, .ref fct, .ref rnr, .ref trl, .ref mnd, .ref rrw])), (fct, .inr (1, [.ref sc, .ref st, .ref se, .ref mk, .ref us, .ref te, .ref g, .ref gc, .int 1, .int 0, .int 0, .int 0, .long 0, .long 0])), (trl, .inr (8, [.ref tr0, .ref tr1, .ref tr2, .ref tr3, .int 1, .int 0])), (mnd, .inr (2, [.ref md0, .ref mpr, .ref md2, .ref md3, .int 1, .int 0, .int 0, .int (-1), .int 0, .int 0]))] sz) := by
  refine Met.ofW (cc := cX10_forget) (maxL := 1) (ret := none) (by decide) rfl ?_
  intro p e s m args below meth c s₁ B hml hv
  obtain ⟨rfl, hsz, hP, hK, hD0, hN⟩ := hv
  have hx := B.exec
  have hb := B.bytes
  have hr := B.returns
  have hts := atoms_spec (ws := wsX10_forget) B.pre
  have hown : s.vm.findClass RX10 = some m.cls := findClass_of_methodNamed B.named
  have hlocks := B.notSynchronized
  subst hsz
  have hD := hD0.self (sz := s.heap.size)
  generalize hAe : va_A [(h0, .inr (9, [.ref tp, .int 0, .ref tok, .ref sp, .ref rdr, .int 0, .int (-1), .ref scn, .ref fct, .ref rnr, .ref trl, .ref mnd, .ref rrw])), (fct, .inr (1, [.ref sc, .ref st, .ref se, .ref mk, .ref us, .ref te, .ref g, .ref gc, .int 1, .int 0, .int 0, .int 0, .long 0, .long 0])), (trl, .inr (8, [.ref tr0, .ref tr1, .ref tr2, .ref tr3, .int 1, .int 0])), (mnd, .inr (2, [.ref md0, .ref mpr, .ref md2, .ref md3, .int 1, .int 0, .int 0, .int (-1), .int 0, .int 0]))] s.heap.size = A at hD ⊢
  have hA : ∀ q : Nat, s.heap.size ≤ q → A q := fun q h => by rw [← hAe]; exact Or.inr h
  have hl := lv_entry ([.ref h0]) (n := 1) (Nat.le_of_ble_eq_true rfl)
  rw [lg_entry_eq]
  generalize (lg_sl ([.ref h0]) ++ List.replicate (1 - (lg_sl ([.ref h0])).length) Slot.unset).toArray = ls at hl ⊢
  have hl : lv_has ls 1 [(0, .ref h0)] := hl
  refine k_H (A := A) hP (fun H hP hS => ?_)
  have hP : va_P (dC, dI) vwCl [(h0, .inr (9, [.ref tp, .int 0, .ref tok, .ref sp, .ref rdr, .int 0, .int (-1), .ref scn, .ref fct, .ref rnr, .ref trl, .ref mnd, .ref rrw])), (fct, .inr (1, [.ref sc, .ref st, .ref se, .ref mk, .ref us, .ref te, .ref g, .ref gc, .int 1, .int 0, .int 0, .int 0, .long 0, .long 0])), (trl, .inr (8, [.ref tr0, .ref tr1, .ref tr2, .ref tr3, .int 1, .int 0])), (mnd, .inr (2, [.ref md0, .ref mpr, .ref md2, .ref md3, .int 1, .int 0, .int 0, .int (-1), .int 0, .int 0]))] H := hP
  have hD : va_D A [(h0, .inr (9, [.ref tp, .int 0, .ref tok, .ref sp, .ref rdr, .int 0, .int (-1), .ref scn, .ref fct, .ref rnr, .ref trl, .ref mnd, .ref rrw])), (fct, .inr (1, [.ref sc, .ref st, .ref se, .ref mk, .ref us, .ref te, .ref g, .ref gc, .int 1, .int 0, .int 0, .int 0, .long 0, .long 0])), (trl, .inr (8, [.ref tr0, .ref tr1, .ref tr2, .ref tr3, .int 1, .int 0])), (mnd, .inr (2, [.ref md0, .ref mpr, .ref md2, .ref md3, .int 1, .int 0, .int 0, .int (-1), .int 0, .int 0]))] := hD
  refine lv_aload_n hx hb dX10_forget_0 rfl (lv_at hl 0 rfl) ?_
  refine va_get (D := (dC, dI)) (ci := 9) (v := .ref fct) (C := RX10) (T := TX10) (N := 13) hx hb hts iwwsX10_forget_10 hown hK hP 0 rfl rfl 8 (by decide) (hts (.fieldLink RX10 54 "NothingJudge" "facts" "LNothingJudge$Facts;") fwwsX10_forget_54) (fun _ h9 => h9) rfl dX10_forget_1 ?_
  refine lv_iconst (v := 1) hx hb dX10_forget_4 (by decide) ?_
  refine va_put (D := (dC, dI)) (ci := 1) (v := .int 1) (ty := .boolean) (C := RX1) (T := TX1) (N := 14) hx hb hts iwwsX10_forget_1 tyX1 tyX1_ok nmX1 hown hK hP hD hS 1 rfl rfl 8 (by decide) (hts (.fieldLink RX10 246 "NothingJudge$Facts" "stale" "Z") fwwsX10_forget_246) (fun _ h9 => h9) rfl (by decide +kernel) rfl rfl (Nat.le_of_ble_eq_true rfl) dX10_forget_5 (fun H locs hP hD hS => ?_)
  have hP : va_P (dC, dI) vwCl [(h0, .inr (9, [.ref tp, .int 0, .ref tok, .ref sp, .ref rdr, .int 0, .int (-1), .ref scn, .ref fct, .ref rnr, .ref trl, .ref mnd, .ref rrw])), (fct, .inr (1, [.ref sc, .ref st, .ref se, .ref mk, .ref us, .ref te, .ref g, .ref gc, .int 1, .int 0, .int 0, .int 0, .long 0, .long 0])), (trl, .inr (8, [.ref tr0, .ref tr1, .ref tr2, .ref tr3, .int 1, .int 0])), (mnd, .inr (2, [.ref md0, .ref mpr, .ref md2, .ref md3, .int 1, .int 0, .int 0, .int (-1), .int 0, .int 0]))] H := hP
  have hD : va_D A [(h0, .inr (9, [.ref tp, .int 0, .ref tok, .ref sp, .ref rdr, .int 0, .int (-1), .ref scn, .ref fct, .ref rnr, .ref trl, .ref mnd, .ref rrw])), (fct, .inr (1, [.ref sc, .ref st, .ref se, .ref mk, .ref us, .ref te, .ref g, .ref gc, .int 1, .int 0, .int 0, .int 0, .long 0, .long 0])), (trl, .inr (8, [.ref tr0, .ref tr1, .ref tr2, .ref tr3, .int 1, .int 0])), (mnd, .inr (2, [.ref md0, .ref mpr, .ref md2, .ref md3, .int 1, .int 0, .int 0, .int (-1), .int 0, .int 0]))] := hD
  refine lv_aload_n hx hb dX10_forget_8 rfl (lv_at hl 0 rfl) ?_
  refine va_get (D := (dC, dI)) (ci := 9) (v := .ref trl) (C := RX10) (T := TX10) (N := 13) hx hb hts iwwsX10_forget_10 hown hK hP 0 rfl rfl 10 (by decide) (hts (.fieldLink RX10 70 "NothingJudge" "trials" "LNothingJudge$Trials;") fwwsX10_forget_70) (fun _ h9 => h9) rfl dX10_forget_9 ?_
  refine lv_iconst (v := 1) hx hb dX10_forget_12 (by decide) ?_
  refine va_put (D := (dC, dI)) (ci := 8) (v := .int 1) (ty := .boolean) (C := RX9) (T := TX9) (N := 6) hx hb hts iwwsX10_forget_9 tyX9 tyX9_ok nmX9 hown hK hP hD hS 2 rfl rfl 4 (by decide) (hts (.fieldLink RX10 247 "NothingJudge$Trials" "stale" "Z") fwwsX10_forget_247) (fun _ h9 => h9) rfl (by decide +kernel) rfl rfl (Nat.le_of_ble_eq_true rfl) dX10_forget_13 (fun H locs hP hD hS => ?_)
  have hP : va_P (dC, dI) vwCl [(h0, .inr (9, [.ref tp, .int 0, .ref tok, .ref sp, .ref rdr, .int 0, .int (-1), .ref scn, .ref fct, .ref rnr, .ref trl, .ref mnd, .ref rrw])), (fct, .inr (1, [.ref sc, .ref st, .ref se, .ref mk, .ref us, .ref te, .ref g, .ref gc, .int 1, .int 0, .int 0, .int 0, .long 0, .long 0])), (trl, .inr (8, [.ref tr0, .ref tr1, .ref tr2, .ref tr3, .int 1, .int 0])), (mnd, .inr (2, [.ref md0, .ref mpr, .ref md2, .ref md3, .int 1, .int 0, .int 0, .int (-1), .int 0, .int 0]))] H := hP
  have hD : va_D A [(h0, .inr (9, [.ref tp, .int 0, .ref tok, .ref sp, .ref rdr, .int 0, .int (-1), .ref scn, .ref fct, .ref rnr, .ref trl, .ref mnd, .ref rrw])), (fct, .inr (1, [.ref sc, .ref st, .ref se, .ref mk, .ref us, .ref te, .ref g, .ref gc, .int 1, .int 0, .int 0, .int 0, .long 0, .long 0])), (trl, .inr (8, [.ref tr0, .ref tr1, .ref tr2, .ref tr3, .int 1, .int 0])), (mnd, .inr (2, [.ref md0, .ref mpr, .ref md2, .ref md3, .int 1, .int 0, .int 0, .int (-1), .int 0, .int 0]))] := hD
  refine lv_aload_n hx hb dX10_forget_16 rfl (lv_at hl 0 rfl) ?_
  refine va_get (D := (dC, dI)) (ci := 9) (v := .ref mnd) (C := RX10) (T := TX10) (N := 13) hx hb hts iwwsX10_forget_10 hown hK hP 0 rfl rfl 11 (by decide) (hts (.fieldLink RX10 79 "NothingJudge" "mender" "LNothingJudge$Mender;") fwwsX10_forget_79) (fun _ h9 => h9) rfl dX10_forget_17 ?_
  refine lv_iconst (v := 1) hx hb dX10_forget_20 (by decide) ?_
  refine va_put (D := (dC, dI)) (ci := 2) (v := .int 1) (ty := .boolean) (C := RX2) (T := TX2) (N := 10) hx hb hts iwwsX10_forget_2 tyX2 tyX2_ok nmX2 hown hK hP hD hS 3 rfl rfl 4 (by decide) (hts (.fieldLink RX10 221 "NothingJudge$Mender" "stale" "Z") fwwsX10_forget_221) (fun _ h9 => h9) rfl (by decide +kernel) rfl rfl (Nat.le_of_ble_eq_true rfl) dX10_forget_21 (fun H locs hP hD hS => ?_)
  have hP : va_P (dC, dI) vwCl [(h0, .inr (9, [.ref tp, .int 0, .ref tok, .ref sp, .ref rdr, .int 0, .int (-1), .ref scn, .ref fct, .ref rnr, .ref trl, .ref mnd, .ref rrw])), (fct, .inr (1, [.ref sc, .ref st, .ref se, .ref mk, .ref us, .ref te, .ref g, .ref gc, .int 1, .int 0, .int 0, .int 0, .long 0, .long 0])), (trl, .inr (8, [.ref tr0, .ref tr1, .ref tr2, .ref tr3, .int 1, .int 0])), (mnd, .inr (2, [.ref md0, .ref mpr, .ref md2, .ref md3, .int 1, .int 0, .int 0, .int (-1), .int 0, .int 0]))] H := hP
  have hD : va_D A [(h0, .inr (9, [.ref tp, .int 0, .ref tok, .ref sp, .ref rdr, .int 0, .int (-1), .ref scn, .ref fct, .ref rnr, .ref trl, .ref mnd, .ref rrw])), (fct, .inr (1, [.ref sc, .ref st, .ref se, .ref mk, .ref us, .ref te, .ref g, .ref gc, .int 1, .int 0, .int 0, .int 0, .long 0, .long 0])), (trl, .inr (8, [.ref tr0, .ref tr1, .ref tr2, .ref tr3, .int 1, .int 0])), (mnd, .inr (2, [.ref md0, .ref mpr, .ref md2, .ref md3, .int 1, .int 0, .int 0, .int (-1), .int 0, .int 0]))] := hD
  have hP9 := hP.sub (ws' := [(h0, .inr (9, [.ref tp, .int 0, .ref tok, .ref sp, .ref rdr, .int 0, .int (-1), .ref scn, .ref fct, .ref rnr, .ref trl, .ref mnd, .ref rrw]))]) [0] rfl
  have hD9 := hD.sub (ws' := [(h0, .inr (9, [.ref tp, .int 0, .ref tok, .ref sp, .ref rdr, .int 0, .int (-1), .ref scn, .ref fct, .ref rnr, .ref trl, .ref mnd, .ref rrw]))]) [0] (by decide) rfl
  exact W.vret hx hb hr (fun t ht hW => ⟨⟨(), rfl, trivial, by rw [ht]; exact hP9, hD9⟩, hS.F ht⟩) hS.2.2 dX10_forget_24

set_option maxHeartbeats 4000000 in
set_option maxRecDepth 100000 in
theorem c_text0 (l : Launch) (dC : Nat → ClassId) (dI : Nat → Nat → Nat) (cI cB cL cZ : ClassId) (h0 : Nat) (tp : Nat) (tok : Nat) (sp : Nat) (rdr : Nat) (scn : Nat) (fct : Nat) (rnr : Nat) (trl : Nat) (mnd : Nat) (rrw : Nat) (g : Nat) (td : Nat) (gc : Nat) (ga1 : Nat) (ga2 : Nat) (ga3 : Nat) (ga4 : Nat) (ga5 : Nat) (ga6 : Nat) (ga7 : Nat) (ga8 : Nat) (tk0 : Nat) (rd1 : Nat) (rd2 : Nat) (spc : Nat) (spcc : Nat) (sa1 : Nat) (sa2 : Nat) (sa3 : Nat) (sa4 : Nat) (sa5 : Nat) (sa6 : Nat) (sa7 : Nat) (sa8 : Nat) (tr0 : Nat) (tr1 : Nat) (tr2 : Nat) (tr3 : Nat) (md0 : Nat) (mpr : Nat) (md2 : Nat) (md3 : Nat) (st : Nat) (se : Nat) (mk : Nat) (us : Nat) (te : Nat) (f : Nat → Int32) (f2 : Nat → Int32) (sz : Nat)  : Met l yX10_text wsX10_text ({ frames := 3, cells := 0, slots := 0, locals := 64 }) (cP (dC, dI) (kTy cI cB cL cZ) [.ref h0, .int 0] [(h0, .inr (9, [.ref tp, .int 0, .ref tok, .ref sp, .ref rdr, .int 0, .int (-1), .ref scn, .ref fct, .ref rnr, .ref trl, .ref mnd, .ref rrw])), (tp, .inl (cB, 1200, .inl f)), (tok, .inr (7, [.ref tk0, .int 0, .int 0])), (rdr, .inr (4, [.ref tok, .ref rd1, .ref rd2, .ref sp, .ref spc, .int 0, .int 0, .int 0, .int 0, .int (-1)])), (sp, .inr (3, [.ref spc, .ref sa1, .ref sa2, .ref sa3, .ref sa4, .ref sa5, .ref sa6, .ref sa7, .ref sa8, .int 0, .int 0, .int 0, .int 0, .int (-1)])), (spc, .inr (0, [.ref spcc, .int 0])), (scn, .inr (6, [.ref g, .int (-1), .ref td])), (g, .inr (3, [.ref gc, .ref ga1, .ref ga2, .ref ga3, .ref ga4, .ref ga5, .ref ga6, .ref ga7, .ref ga8, .int 0, .int 0, .int 0, .int 0, .int (-1)])), (td, .inl (cI, 4, .inl f2)), (fct, .inr (1, [.ref scn, .ref st, .ref se, .ref mk, .ref us, .ref te, .ref g, .ref gc, .int 1, .int 0, .int 0, .int 0, .long 0, .long 0])), (trl, .inr (8, [.ref tr0, .ref tr1, .ref tr2, .ref tr3, .int 1, .int 0])), (mnd, .inr (2, [.ref md0, .ref mpr, .ref md2, .ref md3, .int 1, .int 0, .int 0, .int (-1), .int 0, .int 0]))] sz) (va_Qi (fun (r : Int32) (_ : Unit) => r = 0) (fun (_ : Unit) (t : State) => va_P (dC, dI) vwCl [] t.heap ∧ va_D (va_A [(h0, .inr (9, [.ref tp, .int 0, .ref tok, .ref sp, .ref rdr, .int 0, .int (-1), .ref scn, .ref fct, .ref rnr, .ref trl, .ref mnd, .ref rrw])), (tp, .inl (cB, 1200, .inl f)), (tok, .inr (7, [.ref tk0, .int 0, .int 0])), (rdr, .inr (4, [.ref tok, .ref rd1, .ref rd2, .ref sp, .ref spc, .int 0, .int 0, .int 0, .int 0, .int (-1)])), (sp, .inr (3, [.ref spc, .ref sa1, .ref sa2, .ref sa3, .ref sa4, .ref sa5, .ref sa6, .ref sa7, .ref sa8, .int 0, .int 0, .int 0, .int 0, .int (-1)])), (spc, .inr (0, [.ref spcc, .int 0])), (scn, .inr (6, [.ref g, .int (-1), .ref td])), (g, .inr (3, [.ref gc, .ref ga1, .ref ga2, .ref ga3, .ref ga4, .ref ga5, .ref ga6, .ref ga7, .ref ga8, .int 0, .int 0, .int 0, .int 0, .int (-1)])), (td, .inl (cI, 4, .inl f2)), (fct, .inr (1, [.ref scn, .ref st, .ref se, .ref mk, .ref us, .ref te, .ref g, .ref gc, .int 1, .int 0, .int 0, .int 0, .long 0, .long 0])), (trl, .inr (8, [.ref tr0, .ref tr1, .ref tr2, .ref tr3, .int 1, .int 0])), (mnd, .inr (2, [.ref md0, .ref mpr, .ref md2, .ref md3, .int 1, .int 0, .int 0, .int (-1), .int 0, .int 0]))] sz) []) (va_A [(h0, .inr (9, [.ref tp, .int 0, .ref tok, .ref sp, .ref rdr, .int 0, .int (-1), .ref scn, .ref fct, .ref rnr, .ref trl, .ref mnd, .ref rrw])), (tp, .inl (cB, 1200, .inl f)), (tok, .inr (7, [.ref tk0, .int 0, .int 0])), (rdr, .inr (4, [.ref tok, .ref rd1, .ref rd2, .ref sp, .ref spc, .int 0, .int 0, .int 0, .int 0, .int (-1)])), (sp, .inr (3, [.ref spc, .ref sa1, .ref sa2, .ref sa3, .ref sa4, .ref sa5, .ref sa6, .ref sa7, .ref sa8, .int 0, .int 0, .int 0, .int 0, .int (-1)])), (spc, .inr (0, [.ref spcc, .int 0])), (scn, .inr (6, [.ref g, .int (-1), .ref td])), (g, .inr (3, [.ref gc, .ref ga1, .ref ga2, .ref ga3, .ref ga4, .ref ga5, .ref ga6, .ref ga7, .ref ga8, .int 0, .int 0, .int 0, .int 0, .int (-1)])), (td, .inl (cI, 4, .inl f2)), (fct, .inr (1, [.ref scn, .ref st, .ref se, .ref mk, .ref us, .ref te, .ref g, .ref gc, .int 1, .int 0, .int 0, .int 0, .long 0, .long 0])), (trl, .inr (8, [.ref tr0, .ref tr1, .ref tr2, .ref tr3, .int 1, .int 0])), (mnd, .inr (2, [.ref md0, .ref mpr, .ref md2, .ref md3, .int 1, .int 0, .int 0, .int (-1), .int 0, .int 0]))] sz)) 0 0 (va_A [(h0, .inr (9, [.ref tp, .int 0, .ref tok, .ref sp, .ref rdr, .int 0, .int (-1), .ref scn, .ref fct, .ref rnr, .ref trl, .ref mnd, .ref rrw])), (tp, .inl (cB, 1200, .inl f)), (tok, .inr (7, [.ref tk0, .int 0, .int 0])), (rdr, .inr (4, [.ref tok, .ref rd1, .ref rd2, .ref sp, .ref spc, .int 0, .int 0, .int 0, .int 0, .int (-1)])), (sp, .inr (3, [.ref spc, .ref sa1, .ref sa2, .ref sa3, .ref sa4, .ref sa5, .ref sa6, .ref sa7, .ref sa8, .int 0, .int 0, .int 0, .int 0, .int (-1)])), (spc, .inr (0, [.ref spcc, .int 0])), (scn, .inr (6, [.ref g, .int (-1), .ref td])), (g, .inr (3, [.ref gc, .ref ga1, .ref ga2, .ref ga3, .ref ga4, .ref ga5, .ref ga6, .ref ga7, .ref ga8, .int 0, .int 0, .int 0, .int 0, .int (-1)])), (td, .inl (cI, 4, .inl f2)), (fct, .inr (1, [.ref scn, .ref st, .ref se, .ref mk, .ref us, .ref te, .ref g, .ref gc, .int 1, .int 0, .int 0, .int 0, .long 0, .long 0])), (trl, .inr (8, [.ref tr0, .ref tr1, .ref tr2, .ref tr3, .int 1, .int 0])), (mnd, .inr (2, [.ref md0, .ref mpr, .ref md2, .ref md3, .int 1, .int 0, .int 0, .int (-1), .int 0, .int 0]))] sz) := by
  refine Met.ofW (cc := cX10_text) (maxL := 3) (ret := (some .int)) (by decide) rfl ?_
  intro p e s m args below meth c s₁ B hml hv
  obtain ⟨rfl, hsz, hP, hK, hD0, hN⟩ := hv
  have hx := B.exec
  have hb := B.bytes
  have hr := B.returns
  have hts := atoms_spec (ws := wsX10_text) B.pre
  have hown : s.vm.findClass RX10 = some m.cls := findClass_of_methodNamed B.named
  have hlocks := B.notSynchronized
  subst hsz
  have hD := hD0.self (sz := s.heap.size)
  generalize hAe : va_A [(h0, .inr (9, [.ref tp, .int 0, .ref tok, .ref sp, .ref rdr, .int 0, .int (-1), .ref scn, .ref fct, .ref rnr, .ref trl, .ref mnd, .ref rrw])), (tp, .inl (cB, 1200, .inl f)), (tok, .inr (7, [.ref tk0, .int 0, .int 0])), (rdr, .inr (4, [.ref tok, .ref rd1, .ref rd2, .ref sp, .ref spc, .int 0, .int 0, .int 0, .int 0, .int (-1)])), (sp, .inr (3, [.ref spc, .ref sa1, .ref sa2, .ref sa3, .ref sa4, .ref sa5, .ref sa6, .ref sa7, .ref sa8, .int 0, .int 0, .int 0, .int 0, .int (-1)])), (spc, .inr (0, [.ref spcc, .int 0])), (scn, .inr (6, [.ref g, .int (-1), .ref td])), (g, .inr (3, [.ref gc, .ref ga1, .ref ga2, .ref ga3, .ref ga4, .ref ga5, .ref ga6, .ref ga7, .ref ga8, .int 0, .int 0, .int 0, .int 0, .int (-1)])), (td, .inl (cI, 4, .inl f2)), (fct, .inr (1, [.ref scn, .ref st, .ref se, .ref mk, .ref us, .ref te, .ref g, .ref gc, .int 1, .int 0, .int 0, .int 0, .long 0, .long 0])), (trl, .inr (8, [.ref tr0, .ref tr1, .ref tr2, .ref tr3, .int 1, .int 0])), (mnd, .inr (2, [.ref md0, .ref mpr, .ref md2, .ref md3, .int 1, .int 0, .int 0, .int (-1), .int 0, .int 0]))] s.heap.size = A at hD ⊢
  have hA : ∀ q : Nat, s.heap.size ≤ q → A q := fun q h => by rw [← hAe]; exact Or.inr h
  have hl := lv_entry ([.ref h0, .int 0]) (n := 3) (Nat.le_of_ble_eq_true rfl)
  rw [lg_entry_eq]
  generalize (lg_sl ([.ref h0, .int 0]) ++ List.replicate (3 - (lg_sl ([.ref h0, .int 0])).length) Slot.unset).toArray = ls at hl ⊢
  have hl : lv_has ls 3 [(0, .ref h0), (1, .int 0)] := hl
  refine k_H (A := A) hP (fun H hP hS => ?_)
  have hP : va_P (dC, dI) vwCl [(h0, .inr (9, [.ref tp, .int 0, .ref tok, .ref sp, .ref rdr, .int 0, .int (-1), .ref scn, .ref fct, .ref rnr, .ref trl, .ref mnd, .ref rrw])), (tp, .inl (cB, 1200, .inl f)), (tok, .inr (7, [.ref tk0, .int 0, .int 0])), (rdr, .inr (4, [.ref tok, .ref rd1, .ref rd2, .ref sp, .ref spc, .int 0, .int 0, .int 0, .int 0, .int (-1)])), (sp, .inr (3, [.ref spc, .ref sa1, .ref sa2, .ref sa3, .ref sa4, .ref sa5, .ref sa6, .ref sa7, .ref sa8, .int 0, .int 0, .int 0, .int 0, .int (-1)])), (spc, .inr (0, [.ref spcc, .int 0])), (scn, .inr (6, [.ref g, .int (-1), .ref td])), (g, .inr (3, [.ref gc, .ref ga1, .ref ga2, .ref ga3, .ref ga4, .ref ga5, .ref ga6, .ref ga7, .ref ga8, .int 0, .int 0, .int 0, .int 0, .int (-1)])), (td, .inl (cI, 4, .inl f2)), (fct, .inr (1, [.ref scn, .ref st, .ref se, .ref mk, .ref us, .ref te, .ref g, .ref gc, .int 1, .int 0, .int 0, .int 0, .long 0, .long 0])), (trl, .inr (8, [.ref tr0, .ref tr1, .ref tr2, .ref tr3, .int 1, .int 0])), (mnd, .inr (2, [.ref md0, .ref mpr, .ref md2, .ref md3, .int 1, .int 0, .int 0, .int (-1), .int 0, .int 0]))] H := hP
  have hD : va_D A [(h0, .inr (9, [.ref tp, .int 0, .ref tok, .ref sp, .ref rdr, .int 0, .int (-1), .ref scn, .ref fct, .ref rnr, .ref trl, .ref mnd, .ref rrw])), (tp, .inl (cB, 1200, .inl f)), (tok, .inr (7, [.ref tk0, .int 0, .int 0])), (rdr, .inr (4, [.ref tok, .ref rd1, .ref rd2, .ref sp, .ref spc, .int 0, .int 0, .int 0, .int 0, .int (-1)])), (sp, .inr (3, [.ref spc, .ref sa1, .ref sa2, .ref sa3, .ref sa4, .ref sa5, .ref sa6, .ref sa7, .ref sa8, .int 0, .int 0, .int 0, .int 0, .int (-1)])), (spc, .inr (0, [.ref spcc, .int 0])), (scn, .inr (6, [.ref g, .int (-1), .ref td])), (g, .inr (3, [.ref gc, .ref ga1, .ref ga2, .ref ga3, .ref ga4, .ref ga5, .ref ga6, .ref ga7, .ref ga8, .int 0, .int 0, .int 0, .int 0, .int (-1)])), (td, .inl (cI, 4, .inl f2)), (fct, .inr (1, [.ref scn, .ref st, .ref se, .ref mk, .ref us, .ref te, .ref g, .ref gc, .int 1, .int 0, .int 0, .int 0, .long 0, .long 0])), (trl, .inr (8, [.ref tr0, .ref tr1, .ref tr2, .ref tr3, .int 1, .int 0])), (mnd, .inr (2, [.ref md0, .ref mpr, .ref md2, .ref md3, .int 1, .int 0, .int 0, .int (-1), .int 0, .int 0]))] := hD
  refine lv_iload_n hx hb dX10_text_0 rfl (lv_at hl 1 rfl) ?_
  refine lv_if_lt (tgt := 12) hx hb dX10_text_1 (by decide) (fun c9 => absurd c9 (by decide)) (fun _ => ?_)
  refine lv_iload_n hx hb dX10_text_4 rfl (lv_at hl 1 rfl) ?_
  refine lv_aload_n hx hb dX10_text_5 rfl (lv_at hl 0 rfl) ?_
  refine va_get (D := (dC, dI)) (ci := 9) (v := .int 0) (C := RX10) (T := TX10) (N := 13) hx hb hts iwwsX10_text_10 hown hK hP 0 rfl rfl 1 (by decide) (hts (.fieldLink RX10 87 "NothingJudge" "taped" "I") fwwsX10_text_87) (fun _ h9 => h9) rfl dX10_text_6 ?_
  refine lv_icmp_le (tgt := 15) hx hb dX10_text_9 (by decide) (fun _ => ?_) (fun c9 => absurd (by decide) c9)
  refine lv_aload_n hx hb dX10_text_15 rfl (lv_at hl 0 rfl) ?_
  refine lv_iconst (v := 0) hx hb dX10_text_16 (by decide) ?_
  refine va_put (D := (dC, dI)) (ci := 9) (v := .int 0) (ty := .int) (C := RX10) (T := TX10) (N := 13) hx hb hts iwwsX10_text_10 tyX10 tyX10_ok nmX10 hown hK hP hD hS 0 rfl rfl 1 (by decide) (hts (.fieldLink RX10 87 "NothingJudge" "taped" "I") fwwsX10_text_87) (fun _ h9 => h9) rfl (by decide +kernel) rfl rfl (Nat.le_of_ble_eq_true rfl) dX10_text_17 (fun H locs hP hD hS => ?_)
  have hP : va_P (dC, dI) vwCl [(h0, .inr (9, [.ref tp, .int 0, .ref tok, .ref sp, .ref rdr, .int 0, .int (-1), .ref scn, .ref fct, .ref rnr, .ref trl, .ref mnd, .ref rrw])), (tp, .inl (cB, 1200, .inl f)), (tok, .inr (7, [.ref tk0, .int 0, .int 0])), (rdr, .inr (4, [.ref tok, .ref rd1, .ref rd2, .ref sp, .ref spc, .int 0, .int 0, .int 0, .int 0, .int (-1)])), (sp, .inr (3, [.ref spc, .ref sa1, .ref sa2, .ref sa3, .ref sa4, .ref sa5, .ref sa6, .ref sa7, .ref sa8, .int 0, .int 0, .int 0, .int 0, .int (-1)])), (spc, .inr (0, [.ref spcc, .int 0])), (scn, .inr (6, [.ref g, .int (-1), .ref td])), (g, .inr (3, [.ref gc, .ref ga1, .ref ga2, .ref ga3, .ref ga4, .ref ga5, .ref ga6, .ref ga7, .ref ga8, .int 0, .int 0, .int 0, .int 0, .int (-1)])), (td, .inl (cI, 4, .inl f2)), (fct, .inr (1, [.ref scn, .ref st, .ref se, .ref mk, .ref us, .ref te, .ref g, .ref gc, .int 1, .int 0, .int 0, .int 0, .long 0, .long 0])), (trl, .inr (8, [.ref tr0, .ref tr1, .ref tr2, .ref tr3, .int 1, .int 0])), (mnd, .inr (2, [.ref md0, .ref mpr, .ref md2, .ref md3, .int 1, .int 0, .int 0, .int (-1), .int 0, .int 0]))] H := hP
  have hD : va_D A [(h0, .inr (9, [.ref tp, .int 0, .ref tok, .ref sp, .ref rdr, .int 0, .int (-1), .ref scn, .ref fct, .ref rnr, .ref trl, .ref mnd, .ref rrw])), (tp, .inl (cB, 1200, .inl f)), (tok, .inr (7, [.ref tk0, .int 0, .int 0])), (rdr, .inr (4, [.ref tok, .ref rd1, .ref rd2, .ref sp, .ref spc, .int 0, .int 0, .int 0, .int 0, .int (-1)])), (sp, .inr (3, [.ref spc, .ref sa1, .ref sa2, .ref sa3, .ref sa4, .ref sa5, .ref sa6, .ref sa7, .ref sa8, .int 0, .int 0, .int 0, .int 0, .int (-1)])), (spc, .inr (0, [.ref spcc, .int 0])), (scn, .inr (6, [.ref g, .int (-1), .ref td])), (g, .inr (3, [.ref gc, .ref ga1, .ref ga2, .ref ga3, .ref ga4, .ref ga5, .ref ga6, .ref ga7, .ref ga8, .int 0, .int 0, .int 0, .int 0, .int (-1)])), (td, .inl (cI, 4, .inl f2)), (fct, .inr (1, [.ref scn, .ref st, .ref se, .ref mk, .ref us, .ref te, .ref g, .ref gc, .int 1, .int 0, .int 0, .int 0, .long 0, .long 0])), (trl, .inr (8, [.ref tr0, .ref tr1, .ref tr2, .ref tr3, .int 1, .int 0])), (mnd, .inr (2, [.ref md0, .ref mpr, .ref md2, .ref md3, .int 1, .int 0, .int 0, .int (-1), .int 0, .int 0]))] := hD
  refine lv_aload_n hx hb dX10_text_20 rfl (lv_at hl 0 rfl) ?_
  refine va_get (D := (dC, dI)) (ci := 9) (v := .ref tok) (C := RX10) (T := TX10) (N := 13) hx hb hts iwwsX10_text_10 hown hK hP 0 rfl rfl 2 (by decide) (hts (.fieldLink RX10 16 "NothingJudge" "tokens" "LNothingJudge$Tokens;") fwwsX10_text_16) (fun _ h9 => h9) rfl dX10_text_21 ?_
  refine lv_aload_n hx hb dX10_text_24 rfl (lv_at hl 0 rfl) ?_
  refine va_get (D := (dC, dI)) (ci := 9) (v := .ref tp) (C := RX10) (T := TX10) (N := 13) hx hb hts iwwsX10_text_10 hown hK hP 0 rfl rfl 0 (by decide) (hts (.fieldLink RX10 9 "NothingJudge" "tape" "[B") fwwsX10_text_9) (fun _ h9 => h9) rfl dX10_text_25 ?_
  refine lv_iload_n hx hb dX10_text_28 rfl (lv_at hl 1 rfl) ?_
  have hPc := hP.sub (ws' := [(tok, .inr (7, [.ref tk0, .int 0, .int 0])), (tp, .inl (cB, 1200, .inl f))]) [2, 1] rfl
  have hDc := hD.sub (ws' := [(tok, .inr (7, [.ref tk0, .int 0, .int 0])), (tp, .inl (cB, 1200, .inl f))]) [2, 1] (by decide) rfl
  have hFc := va_free (wc := [(tok, .inr (7, [.ref tk0, .int 0, .int 0])), (tp, .inl (cB, 1200, .inl f))]) hD hS hA [2, 1] rfl
  refine va_callv (va_runV (As := [.ref tp, .int 0]) (rest := []) ⟨hx, hb, hml, hown, hts⟩ (c_scan l dC dI cI cB cL cZ (tok) (tp) (tk0) (f) H.size) (cwV 2 hts gX10_text_X8_scan rfl rfl rfl (by decide +kernel) ⟨Nat.le_of_ble_eq_true rfl, Nat.le_of_ble_eq_true rfl⟩) ⟨cP_fb, va_recv hK hPc (ci := 7) (q0 := 0) rfl rfl, fun U hU hW => cP_pre hPc hK hDc hN U hU hW⟩ rfl rfl hl.1 rfl (lv_room (Nat.le_of_ble_eq_true rfl)) dX10_text_29 ⟨Nat.le_of_ble_eq_true rfl, Nat.le_of_ble_eq_true rfl⟩) hS (fun q _ h => hFc q h) hFc (fun u t H1 locs ht hvm hw hB hz1 hk1 hS => ?_)
  obtain ⟨hP1, hD1⟩ := hB
  rw [ht] at hP1
  obtain ⟨hP, hD⟩ := va_join (wr := [(h0, .inr (9, [.ref tp, .int 0, .ref tok, .ref sp, .ref rdr, .int 0, .int (-1), .ref scn, .ref fct, .ref rnr, .ref trl, .ref mnd, .ref rrw])), (rdr, .inr (4, [.ref tok, .ref rd1, .ref rd2, .ref sp, .ref spc, .int 0, .int 0, .int 0, .int 0, .int (-1)])), (sp, .inr (3, [.ref spc, .ref sa1, .ref sa2, .ref sa3, .ref sa4, .ref sa5, .ref sa6, .ref sa7, .ref sa8, .int 0, .int 0, .int 0, .int 0, .int (-1)])), (spc, .inr (0, [.ref spcc, .int 0])), (scn, .inr (6, [.ref g, .int (-1), .ref td])), (g, .inr (3, [.ref gc, .ref ga1, .ref ga2, .ref ga3, .ref ga4, .ref ga5, .ref ga6, .ref ga7, .ref ga8, .int 0, .int 0, .int 0, .int 0, .int (-1)])), (td, .inl (cI, 4, .inl f2)), (fct, .inr (1, [.ref scn, .ref st, .ref se, .ref mk, .ref us, .ref te, .ref g, .ref gc, .int 1, .int 0, .int 0, .int 0, .long 0, .long 0])), (trl, .inr (8, [.ref tr0, .ref tr1, .ref tr2, .ref tr3, .int 1, .int 0])), (mnd, .inr (2, [.ref md0, .ref mpr, .ref md2, .ref md3, .int 1, .int 0, .int 0, .int (-1), .int 0, .int 0]))]) (w1 := [(tok, .inr (7, [.ref tk0, .int 0, .int 0]))]) hP hD [2, 1] [0, 3, 4, 5, 6, 7, 8, 9, 10, 11] rfl rfl (by decide) (by decide) hk1 hFc hP1 hD1
  generalize H1 = H at hP hS ⊢
  have hP : va_P (dC, dI) vwCl [(h0, .inr (9, [.ref tp, .int 0, .ref tok, .ref sp, .ref rdr, .int 0, .int (-1), .ref scn, .ref fct, .ref rnr, .ref trl, .ref mnd, .ref rrw])), (rdr, .inr (4, [.ref tok, .ref rd1, .ref rd2, .ref sp, .ref spc, .int 0, .int 0, .int 0, .int 0, .int (-1)])), (sp, .inr (3, [.ref spc, .ref sa1, .ref sa2, .ref sa3, .ref sa4, .ref sa5, .ref sa6, .ref sa7, .ref sa8, .int 0, .int 0, .int 0, .int 0, .int (-1)])), (spc, .inr (0, [.ref spcc, .int 0])), (scn, .inr (6, [.ref g, .int (-1), .ref td])), (g, .inr (3, [.ref gc, .ref ga1, .ref ga2, .ref ga3, .ref ga4, .ref ga5, .ref ga6, .ref ga7, .ref ga8, .int 0, .int 0, .int 0, .int 0, .int (-1)])), (td, .inl (cI, 4, .inl f2)), (fct, .inr (1, [.ref scn, .ref st, .ref se, .ref mk, .ref us, .ref te, .ref g, .ref gc, .int 1, .int 0, .int 0, .int 0, .long 0, .long 0])), (trl, .inr (8, [.ref tr0, .ref tr1, .ref tr2, .ref tr3, .int 1, .int 0])), (mnd, .inr (2, [.ref md0, .ref mpr, .ref md2, .ref md3, .int 1, .int 0, .int 0, .int (-1), .int 0, .int 0])), (tok, .inr (7, [.ref tk0, .int 0, .int 0]))] H := hP
  have hD : va_D A [(h0, .inr (9, [.ref tp, .int 0, .ref tok, .ref sp, .ref rdr, .int 0, .int (-1), .ref scn, .ref fct, .ref rnr, .ref trl, .ref mnd, .ref rrw])), (rdr, .inr (4, [.ref tok, .ref rd1, .ref rd2, .ref sp, .ref spc, .int 0, .int 0, .int 0, .int 0, .int (-1)])), (sp, .inr (3, [.ref spc, .ref sa1, .ref sa2, .ref sa3, .ref sa4, .ref sa5, .ref sa6, .ref sa7, .ref sa8, .int 0, .int 0, .int 0, .int 0, .int (-1)])), (spc, .inr (0, [.ref spcc, .int 0])), (scn, .inr (6, [.ref g, .int (-1), .ref td])), (g, .inr (3, [.ref gc, .ref ga1, .ref ga2, .ref ga3, .ref ga4, .ref ga5, .ref ga6, .ref ga7, .ref ga8, .int 0, .int 0, .int 0, .int 0, .int (-1)])), (td, .inl (cI, 4, .inl f2)), (fct, .inr (1, [.ref scn, .ref st, .ref se, .ref mk, .ref us, .ref te, .ref g, .ref gc, .int 1, .int 0, .int 0, .int 0, .long 0, .long 0])), (trl, .inr (8, [.ref tr0, .ref tr1, .ref tr2, .ref tr3, .int 1, .int 0])), (mnd, .inr (2, [.ref md0, .ref mpr, .ref md2, .ref md3, .int 1, .int 0, .int 0, .int (-1), .int 0, .int 0])), (tok, .inr (7, [.ref tk0, .int 0, .int 0]))] := hD
  refine lv_aload_n hx hb dX10_text_32 rfl (lv_at hl 0 rfl) ?_
  refine va_get (D := (dC, dI)) (ci := 9) (v := .ref rdr) (C := RX10) (T := TX10) (N := 13) hx hb hts iwwsX10_text_10 hown hK hP 0 rfl rfl 4 (by decide) (hts (.fieldLink RX10 32 "NothingJudge" "reader" "LNothingJudge$Reader;") fwwsX10_text_32) (fun _ h9 => h9) rfl dX10_text_33 ?_
  refine lv_aload_n hx hb dX10_text_36 rfl (lv_at hl 0 rfl) ?_
  refine va_get (D := (dC, dI)) (ci := 9) (v := .ref sp) (C := RX10) (T := TX10) (N := 13) hx hb hts iwwsX10_text_10 hown hK hP 0 rfl rfl 3 (by decide) (hts (.fieldLink RX10 23 "NothingJudge" "spare" "LNothingJudge$Program;") fwwsX10_text_23) (fun _ h9 => h9) rfl dX10_text_37 ?_
  have hPc := hP.sub (ws' := [(rdr, .inr (4, [.ref tok, .ref rd1, .ref rd2, .ref sp, .ref spc, .int 0, .int 0, .int 0, .int 0, .int (-1)])), (sp, .inr (3, [.ref spc, .ref sa1, .ref sa2, .ref sa3, .ref sa4, .ref sa5, .ref sa6, .ref sa7, .ref sa8, .int 0, .int 0, .int 0, .int 0, .int (-1)])), (spc, .inr (0, [.ref spcc, .int 0])), (tok, .inr (7, [.ref tk0, .int 0, .int 0]))]) [1, 2, 3, 10] rfl
  have hDc := hD.sub (ws' := [(rdr, .inr (4, [.ref tok, .ref rd1, .ref rd2, .ref sp, .ref spc, .int 0, .int 0, .int 0, .int 0, .int (-1)])), (sp, .inr (3, [.ref spc, .ref sa1, .ref sa2, .ref sa3, .ref sa4, .ref sa5, .ref sa6, .ref sa7, .ref sa8, .int 0, .int 0, .int 0, .int 0, .int (-1)])), (spc, .inr (0, [.ref spcc, .int 0])), (tok, .inr (7, [.ref tk0, .int 0, .int 0]))]) [1, 2, 3, 10] (by decide) rfl
  have hFc := va_free (wc := [(rdr, .inr (4, [.ref tok, .ref rd1, .ref rd2, .ref sp, .ref spc, .int 0, .int 0, .int 0, .int 0, .int (-1)])), (sp, .inr (3, [.ref spc, .ref sa1, .ref sa2, .ref sa3, .ref sa4, .ref sa5, .ref sa6, .ref sa7, .ref sa8, .int 0, .int 0, .int 0, .int 0, .int (-1)])), (spc, .inr (0, [.ref spcc, .int 0])), (tok, .inr (7, [.ref tk0, .int 0, .int 0]))]) hD hS hA [1, 2, 3, 10] rfl
  refine va_callv (va_runV (As := [.ref sp]) (rest := []) ⟨hx, hb, hml, hown, hts⟩ (c_readInto l dC dI cI cB cL cZ (rdr) (tok) (rd1) (rd2) (sp) (spc) (spcc) (tk0) (sa1) (sa2) (sa3) (sa4) (sa5) (sa6) (sa7) (sa8) H.size) (cwV 1 hts gX10_text_X4_readInto rfl rfl rfl (by decide +kernel) ⟨Nat.le_of_ble_eq_true rfl, Nat.le_of_ble_eq_true rfl⟩) ⟨cP_fb, va_recv hK hPc (ci := 4) (q0 := 0) rfl rfl, fun U hU hW => cP_pre hPc hK hDc hN U hU hW⟩ rfl rfl hl.1 rfl (lv_room (Nat.le_of_ble_eq_true rfl)) dX10_text_40 ⟨Nat.le_of_ble_eq_true rfl, Nat.le_of_ble_eq_true rfl⟩) hS (fun q _ h => hFc q h) hFc (fun u t H1 locs ht hvm hw hB hz1 hk1 hS => ?_)
  obtain ⟨hP1, hD1⟩ := hB
  rw [ht] at hP1
  obtain ⟨hP, hD⟩ := va_join (wr := [(h0, .inr (9, [.ref tp, .int 0, .ref tok, .ref sp, .ref rdr, .int 0, .int (-1), .ref scn, .ref fct, .ref rnr, .ref trl, .ref mnd, .ref rrw])), (scn, .inr (6, [.ref g, .int (-1), .ref td])), (g, .inr (3, [.ref gc, .ref ga1, .ref ga2, .ref ga3, .ref ga4, .ref ga5, .ref ga6, .ref ga7, .ref ga8, .int 0, .int 0, .int 0, .int 0, .int (-1)])), (td, .inl (cI, 4, .inl f2)), (fct, .inr (1, [.ref scn, .ref st, .ref se, .ref mk, .ref us, .ref te, .ref g, .ref gc, .int 1, .int 0, .int 0, .int 0, .long 0, .long 0])), (trl, .inr (8, [.ref tr0, .ref tr1, .ref tr2, .ref tr3, .int 1, .int 0])), (mnd, .inr (2, [.ref md0, .ref mpr, .ref md2, .ref md3, .int 1, .int 0, .int 0, .int (-1), .int 0, .int 0]))]) (w1 := [(rdr, .inr (4, [.ref tok, .ref rd1, .ref rd2, .ref sp, .ref spc, .int 0, .int 0, .int 0, .int 0, .int (-1)])), (sp, .inr (3, [.ref spc, .ref sa1, .ref sa2, .ref sa3, .ref sa4, .ref sa5, .ref sa6, .ref sa7, .ref sa8, .int 0, .int 0, .int 0, .int 0, .int (-1)]))]) hP hD [1, 2, 3, 10] [0, 4, 5, 6, 7, 8, 9] rfl rfl (by decide) (by decide) hk1 hFc hP1 hD1
  generalize H1 = H at hP hS ⊢
  have hP : va_P (dC, dI) vwCl [(h0, .inr (9, [.ref tp, .int 0, .ref tok, .ref sp, .ref rdr, .int 0, .int (-1), .ref scn, .ref fct, .ref rnr, .ref trl, .ref mnd, .ref rrw])), (scn, .inr (6, [.ref g, .int (-1), .ref td])), (g, .inr (3, [.ref gc, .ref ga1, .ref ga2, .ref ga3, .ref ga4, .ref ga5, .ref ga6, .ref ga7, .ref ga8, .int 0, .int 0, .int 0, .int 0, .int (-1)])), (td, .inl (cI, 4, .inl f2)), (fct, .inr (1, [.ref scn, .ref st, .ref se, .ref mk, .ref us, .ref te, .ref g, .ref gc, .int 1, .int 0, .int 0, .int 0, .long 0, .long 0])), (trl, .inr (8, [.ref tr0, .ref tr1, .ref tr2, .ref tr3, .int 1, .int 0])), (mnd, .inr (2, [.ref md0, .ref mpr, .ref md2, .ref md3, .int 1, .int 0, .int 0, .int (-1), .int 0, .int 0])), (rdr, .inr (4, [.ref tok, .ref rd1, .ref rd2, .ref sp, .ref spc, .int 0, .int 0, .int 0, .int 0, .int (-1)])), (sp, .inr (3, [.ref spc, .ref sa1, .ref sa2, .ref sa3, .ref sa4, .ref sa5, .ref sa6, .ref sa7, .ref sa8, .int 0, .int 0, .int 0, .int 0, .int (-1)]))] H := hP
  have hD : va_D A [(h0, .inr (9, [.ref tp, .int 0, .ref tok, .ref sp, .ref rdr, .int 0, .int (-1), .ref scn, .ref fct, .ref rnr, .ref trl, .ref mnd, .ref rrw])), (scn, .inr (6, [.ref g, .int (-1), .ref td])), (g, .inr (3, [.ref gc, .ref ga1, .ref ga2, .ref ga3, .ref ga4, .ref ga5, .ref ga6, .ref ga7, .ref ga8, .int 0, .int 0, .int 0, .int 0, .int (-1)])), (td, .inl (cI, 4, .inl f2)), (fct, .inr (1, [.ref scn, .ref st, .ref se, .ref mk, .ref us, .ref te, .ref g, .ref gc, .int 1, .int 0, .int 0, .int 0, .long 0, .long 0])), (trl, .inr (8, [.ref tr0, .ref tr1, .ref tr2, .ref tr3, .int 1, .int 0])), (mnd, .inr (2, [.ref md0, .ref mpr, .ref md2, .ref md3, .int 1, .int 0, .int 0, .int (-1), .int 0, .int 0])), (rdr, .inr (4, [.ref tok, .ref rd1, .ref rd2, .ref sp, .ref spc, .int 0, .int 0, .int 0, .int 0, .int (-1)])), (sp, .inr (3, [.ref spc, .ref sa1, .ref sa2, .ref sa3, .ref sa4, .ref sa5, .ref sa6, .ref sa7, .ref sa8, .int 0, .int 0, .int 0, .int 0, .int (-1)]))] := hD
  refine lv_aload_n hx hb dX10_text_43 rfl (lv_at hl 0 rfl) ?_
  refine lv_aload_n hx hb dX10_text_44 rfl (lv_at hl 0 rfl) ?_
  refine va_get (D := (dC, dI)) (ci := 9) (v := .ref rdr) (C := RX10) (T := TX10) (N := 13) hx hb hts iwwsX10_text_10 hown hK hP 0 rfl rfl 4 (by decide) (hts (.fieldLink RX10 32 "NothingJudge" "reader" "LNothingJudge$Reader;") fwwsX10_text_32) (fun _ h9 => h9) rfl dX10_text_45 ?_
  refine va_get (D := (dC, dI)) (ci := 4) (v := .int 0) (C := RX4) (T := TX4) (N := 10) hx hb hts iwwsX10_text_4 hown hK hP 7 rfl rfl 8 (by decide) (hts (.fieldLink RX10 101 "NothingJudge$Reader" "wrong" "I") fwwsX10_text_101) (fun _ h9 => h9) rfl dX10_text_48 ?_
  refine va_put (D := (dC, dI)) (ci := 9) (v := .int 0) (ty := .int) (C := RX10) (T := TX10) (N := 13) hx hb hts iwwsX10_text_10 tyX10 tyX10_ok nmX10 hown hK hP hD hS 0 rfl rfl 5 (by decide) (hts (.fieldLink RX10 104 "NothingJudge" "faultKind" "I") fwwsX10_text_104) (fun _ h9 => h9) rfl (by decide +kernel) rfl rfl (Nat.le_of_ble_eq_true rfl) dX10_text_51 (fun H locs hP hD hS => ?_)
  have hP : va_P (dC, dI) vwCl [(h0, .inr (9, [.ref tp, .int 0, .ref tok, .ref sp, .ref rdr, .int 0, .int (-1), .ref scn, .ref fct, .ref rnr, .ref trl, .ref mnd, .ref rrw])), (scn, .inr (6, [.ref g, .int (-1), .ref td])), (g, .inr (3, [.ref gc, .ref ga1, .ref ga2, .ref ga3, .ref ga4, .ref ga5, .ref ga6, .ref ga7, .ref ga8, .int 0, .int 0, .int 0, .int 0, .int (-1)])), (td, .inl (cI, 4, .inl f2)), (fct, .inr (1, [.ref scn, .ref st, .ref se, .ref mk, .ref us, .ref te, .ref g, .ref gc, .int 1, .int 0, .int 0, .int 0, .long 0, .long 0])), (trl, .inr (8, [.ref tr0, .ref tr1, .ref tr2, .ref tr3, .int 1, .int 0])), (mnd, .inr (2, [.ref md0, .ref mpr, .ref md2, .ref md3, .int 1, .int 0, .int 0, .int (-1), .int 0, .int 0])), (rdr, .inr (4, [.ref tok, .ref rd1, .ref rd2, .ref sp, .ref spc, .int 0, .int 0, .int 0, .int 0, .int (-1)])), (sp, .inr (3, [.ref spc, .ref sa1, .ref sa2, .ref sa3, .ref sa4, .ref sa5, .ref sa6, .ref sa7, .ref sa8, .int 0, .int 0, .int 0, .int 0, .int (-1)]))] H := hP
  have hD : va_D A [(h0, .inr (9, [.ref tp, .int 0, .ref tok, .ref sp, .ref rdr, .int 0, .int (-1), .ref scn, .ref fct, .ref rnr, .ref trl, .ref mnd, .ref rrw])), (scn, .inr (6, [.ref g, .int (-1), .ref td])), (g, .inr (3, [.ref gc, .ref ga1, .ref ga2, .ref ga3, .ref ga4, .ref ga5, .ref ga6, .ref ga7, .ref ga8, .int 0, .int 0, .int 0, .int 0, .int (-1)])), (td, .inl (cI, 4, .inl f2)), (fct, .inr (1, [.ref scn, .ref st, .ref se, .ref mk, .ref us, .ref te, .ref g, .ref gc, .int 1, .int 0, .int 0, .int 0, .long 0, .long 0])), (trl, .inr (8, [.ref tr0, .ref tr1, .ref tr2, .ref tr3, .int 1, .int 0])), (mnd, .inr (2, [.ref md0, .ref mpr, .ref md2, .ref md3, .int 1, .int 0, .int 0, .int (-1), .int 0, .int 0])), (rdr, .inr (4, [.ref tok, .ref rd1, .ref rd2, .ref sp, .ref spc, .int 0, .int 0, .int 0, .int 0, .int (-1)])), (sp, .inr (3, [.ref spc, .ref sa1, .ref sa2, .ref sa3, .ref sa4, .ref sa5, .ref sa6, .ref sa7, .ref sa8, .int 0, .int 0, .int 0, .int 0, .int (-1)]))] := hD
  refine lv_aload_n hx hb dX10_text_54 rfl (lv_at hl 0 rfl) ?_
  refine lv_aload_n hx hb dX10_text_55 rfl (lv_at hl 0 rfl) ?_
  refine va_get (D := (dC, dI)) (ci := 9) (v := .ref rdr) (C := RX10) (T := TX10) (N := 13) hx hb hts iwwsX10_text_10 hown hK hP 0 rfl rfl 4 (by decide) (hts (.fieldLink RX10 32 "NothingJudge" "reader" "LNothingJudge$Reader;") fwwsX10_text_32) (fun _ h9 => h9) rfl dX10_text_56 ?_
  refine va_get (D := (dC, dI)) (ci := 4) (v := .int (-1)) (C := RX4) (T := TX4) (N := 10) hx hb hts iwwsX10_text_4 hown hK hP 7 rfl rfl 9 (by decide) (hts (.fieldLink RX10 107 "NothingJudge$Reader" "wrongPlace" "I") fwwsX10_text_107) (fun _ h9 => h9) rfl dX10_text_59 ?_
  refine va_put (D := (dC, dI)) (ci := 9) (v := .int (-1)) (ty := .int) (C := RX10) (T := TX10) (N := 13) hx hb hts iwwsX10_text_10 tyX10 tyX10_ok nmX10 hown hK hP hD hS 0 rfl rfl 6 (by decide) (hts (.fieldLink RX10 36 "NothingJudge" "faultPlace" "I") fwwsX10_text_36) (fun _ h9 => h9) rfl (by decide +kernel) rfl rfl (Nat.le_of_ble_eq_true rfl) dX10_text_62 (fun H locs hP hD hS => ?_)
  have hP : va_P (dC, dI) vwCl [(h0, .inr (9, [.ref tp, .int 0, .ref tok, .ref sp, .ref rdr, .int 0, .int (-1), .ref scn, .ref fct, .ref rnr, .ref trl, .ref mnd, .ref rrw])), (scn, .inr (6, [.ref g, .int (-1), .ref td])), (g, .inr (3, [.ref gc, .ref ga1, .ref ga2, .ref ga3, .ref ga4, .ref ga5, .ref ga6, .ref ga7, .ref ga8, .int 0, .int 0, .int 0, .int 0, .int (-1)])), (td, .inl (cI, 4, .inl f2)), (fct, .inr (1, [.ref scn, .ref st, .ref se, .ref mk, .ref us, .ref te, .ref g, .ref gc, .int 1, .int 0, .int 0, .int 0, .long 0, .long 0])), (trl, .inr (8, [.ref tr0, .ref tr1, .ref tr2, .ref tr3, .int 1, .int 0])), (mnd, .inr (2, [.ref md0, .ref mpr, .ref md2, .ref md3, .int 1, .int 0, .int 0, .int (-1), .int 0, .int 0])), (rdr, .inr (4, [.ref tok, .ref rd1, .ref rd2, .ref sp, .ref spc, .int 0, .int 0, .int 0, .int 0, .int (-1)])), (sp, .inr (3, [.ref spc, .ref sa1, .ref sa2, .ref sa3, .ref sa4, .ref sa5, .ref sa6, .ref sa7, .ref sa8, .int 0, .int 0, .int 0, .int 0, .int (-1)]))] H := hP
  have hD : va_D A [(h0, .inr (9, [.ref tp, .int 0, .ref tok, .ref sp, .ref rdr, .int 0, .int (-1), .ref scn, .ref fct, .ref rnr, .ref trl, .ref mnd, .ref rrw])), (scn, .inr (6, [.ref g, .int (-1), .ref td])), (g, .inr (3, [.ref gc, .ref ga1, .ref ga2, .ref ga3, .ref ga4, .ref ga5, .ref ga6, .ref ga7, .ref ga8, .int 0, .int 0, .int 0, .int 0, .int (-1)])), (td, .inl (cI, 4, .inl f2)), (fct, .inr (1, [.ref scn, .ref st, .ref se, .ref mk, .ref us, .ref te, .ref g, .ref gc, .int 1, .int 0, .int 0, .int 0, .long 0, .long 0])), (trl, .inr (8, [.ref tr0, .ref tr1, .ref tr2, .ref tr3, .int 1, .int 0])), (mnd, .inr (2, [.ref md0, .ref mpr, .ref md2, .ref md3, .int 1, .int 0, .int 0, .int (-1), .int 0, .int 0])), (rdr, .inr (4, [.ref tok, .ref rd1, .ref rd2, .ref sp, .ref spc, .int 0, .int 0, .int 0, .int 0, .int (-1)])), (sp, .inr (3, [.ref spc, .ref sa1, .ref sa2, .ref sa3, .ref sa4, .ref sa5, .ref sa6, .ref sa7, .ref sa8, .int 0, .int 0, .int 0, .int 0, .int (-1)]))] := hD
  refine lv_aload_n hx hb dX10_text_65 rfl (lv_at hl 0 rfl) ?_
  refine va_get (D := (dC, dI)) (ci := 9) (v := .int 0) (C := RX10) (T := TX10) (N := 13) hx hb hts iwwsX10_text_10 hown hK hP 0 rfl rfl 5 (by decide) (hts (.fieldLink RX10 104 "NothingJudge" "faultKind" "I") fwwsX10_text_104) (fun _ h9 => h9) rfl dX10_text_66 ?_
  refine lv_if_eq (tgt := 74) hx hb dX10_text_69 (by decide) (fun _ => ?_) (fun c9 => absurd (by decide) c9)
  refine lv_aload_n hx hb dX10_text_74 rfl (lv_at hl 0 rfl) ?_
  refine va_get (D := (dC, dI)) (ci := 9) (v := .ref scn) (C := RX10) (T := TX10) (N := 13) hx hb hts iwwsX10_text_10 hown hK hP 0 rfl rfl 7 (by decide) (hts (.fieldLink RX10 45 "NothingJudge" "scene" "LNothingJudge$Scene;") fwwsX10_text_45) (fun _ h9 => h9) rfl dX10_text_75 ?_
  refine va_get (D := (dC, dI)) (ci := 6) (v := .ref g) (C := RX7) (T := TX7) (N := 3) hx hb hts iwwsX10_text_7 hown hK hP 1 rfl rfl 0 (by decide) (hts (.fieldLink RX10 110 "NothingJudge$Scene" "program" "LNothingJudge$Program;") fwwsX10_text_110) (fun _ h9 => h9) rfl dX10_text_78 ?_
  refine lv_astore_n (lv' := [(2, .ref g), (0, .ref h0), (1, .int 0)]) hx hb dX10_text_81 rfl hl (by decide) rfl (fun ls hl => ?_)
  refine lv_aload_n hx hb dX10_text_82 rfl (lv_at hl 1 rfl) ?_
  refine va_get (D := (dC, dI)) (ci := 9) (v := .ref scn) (C := RX10) (T := TX10) (N := 13) hx hb hts iwwsX10_text_10 hown hK hP 0 rfl rfl 7 (by decide) (hts (.fieldLink RX10 45 "NothingJudge" "scene" "LNothingJudge$Scene;") fwwsX10_text_45) (fun _ h9 => h9) rfl dX10_text_83 ?_
  refine lv_aload_n hx hb dX10_text_86 rfl (lv_at hl 1 rfl) ?_
  refine va_get (D := (dC, dI)) (ci := 9) (v := .ref sp) (C := RX10) (T := TX10) (N := 13) hx hb hts iwwsX10_text_10 hown hK hP 0 rfl rfl 3 (by decide) (hts (.fieldLink RX10 23 "NothingJudge" "spare" "LNothingJudge$Program;") fwwsX10_text_23) (fun _ h9 => h9) rfl dX10_text_87 ?_
  refine va_put (D := (dC, dI)) (ci := 6) (v := .ref sp) (ty := .object "NothingJudge$Program") (C := RX7) (T := TX7) (N := 3) hx hb hts iwwsX10_text_7 tyX7 tyX7_ok nmX7 hown hK hP hD hS 1 rfl rfl 0 (by decide) (hts (.fieldLink RX10 110 "NothingJudge$Scene" "program" "LNothingJudge$Program;") fwwsX10_text_110) (fun _ h9 => h9) rfl (by decide +kernel) rfl rfl (Nat.le_of_ble_eq_true rfl) dX10_text_90 (fun H locs hP hD hS => ?_)
  have hP : va_P (dC, dI) vwCl [(h0, .inr (9, [.ref tp, .int 0, .ref tok, .ref sp, .ref rdr, .int 0, .int (-1), .ref scn, .ref fct, .ref rnr, .ref trl, .ref mnd, .ref rrw])), (scn, .inr (6, [.ref sp, .int (-1), .ref td])), (g, .inr (3, [.ref gc, .ref ga1, .ref ga2, .ref ga3, .ref ga4, .ref ga5, .ref ga6, .ref ga7, .ref ga8, .int 0, .int 0, .int 0, .int 0, .int (-1)])), (td, .inl (cI, 4, .inl f2)), (fct, .inr (1, [.ref scn, .ref st, .ref se, .ref mk, .ref us, .ref te, .ref g, .ref gc, .int 1, .int 0, .int 0, .int 0, .long 0, .long 0])), (trl, .inr (8, [.ref tr0, .ref tr1, .ref tr2, .ref tr3, .int 1, .int 0])), (mnd, .inr (2, [.ref md0, .ref mpr, .ref md2, .ref md3, .int 1, .int 0, .int 0, .int (-1), .int 0, .int 0])), (rdr, .inr (4, [.ref tok, .ref rd1, .ref rd2, .ref sp, .ref spc, .int 0, .int 0, .int 0, .int 0, .int (-1)])), (sp, .inr (3, [.ref spc, .ref sa1, .ref sa2, .ref sa3, .ref sa4, .ref sa5, .ref sa6, .ref sa7, .ref sa8, .int 0, .int 0, .int 0, .int 0, .int (-1)]))] H := hP
  have hD : va_D A [(h0, .inr (9, [.ref tp, .int 0, .ref tok, .ref sp, .ref rdr, .int 0, .int (-1), .ref scn, .ref fct, .ref rnr, .ref trl, .ref mnd, .ref rrw])), (scn, .inr (6, [.ref sp, .int (-1), .ref td])), (g, .inr (3, [.ref gc, .ref ga1, .ref ga2, .ref ga3, .ref ga4, .ref ga5, .ref ga6, .ref ga7, .ref ga8, .int 0, .int 0, .int 0, .int 0, .int (-1)])), (td, .inl (cI, 4, .inl f2)), (fct, .inr (1, [.ref scn, .ref st, .ref se, .ref mk, .ref us, .ref te, .ref g, .ref gc, .int 1, .int 0, .int 0, .int 0, .long 0, .long 0])), (trl, .inr (8, [.ref tr0, .ref tr1, .ref tr2, .ref tr3, .int 1, .int 0])), (mnd, .inr (2, [.ref md0, .ref mpr, .ref md2, .ref md3, .int 1, .int 0, .int 0, .int (-1), .int 0, .int 0])), (rdr, .inr (4, [.ref tok, .ref rd1, .ref rd2, .ref sp, .ref spc, .int 0, .int 0, .int 0, .int 0, .int (-1)])), (sp, .inr (3, [.ref spc, .ref sa1, .ref sa2, .ref sa3, .ref sa4, .ref sa5, .ref sa6, .ref sa7, .ref sa8, .int 0, .int 0, .int 0, .int 0, .int (-1)]))] := hD
  refine lv_aload_n hx hb dX10_text_93 rfl (lv_at hl 1 rfl) ?_
  refine lv_aload_n hx hb dX10_text_94 rfl (lv_at hl 0 rfl) ?_
  refine va_put (D := (dC, dI)) (ci := 9) (v := .ref g) (ty := .object "NothingJudge$Program") (C := RX10) (T := TX10) (N := 13) hx hb hts iwwsX10_text_10 tyX10 tyX10_ok nmX10 hown hK hP hD hS 0 rfl rfl 3 (by decide) (hts (.fieldLink RX10 23 "NothingJudge" "spare" "LNothingJudge$Program;") fwwsX10_text_23) (fun _ h9 => h9) rfl (by decide +kernel) rfl rfl (Nat.le_of_ble_eq_true rfl) dX10_text_95 (fun H locs hP hD hS => ?_)
  have hP : va_P (dC, dI) vwCl [(h0, .inr (9, [.ref tp, .int 0, .ref tok, .ref g, .ref rdr, .int 0, .int (-1), .ref scn, .ref fct, .ref rnr, .ref trl, .ref mnd, .ref rrw])), (scn, .inr (6, [.ref sp, .int (-1), .ref td])), (g, .inr (3, [.ref gc, .ref ga1, .ref ga2, .ref ga3, .ref ga4, .ref ga5, .ref ga6, .ref ga7, .ref ga8, .int 0, .int 0, .int 0, .int 0, .int (-1)])), (td, .inl (cI, 4, .inl f2)), (fct, .inr (1, [.ref scn, .ref st, .ref se, .ref mk, .ref us, .ref te, .ref g, .ref gc, .int 1, .int 0, .int 0, .int 0, .long 0, .long 0])), (trl, .inr (8, [.ref tr0, .ref tr1, .ref tr2, .ref tr3, .int 1, .int 0])), (mnd, .inr (2, [.ref md0, .ref mpr, .ref md2, .ref md3, .int 1, .int 0, .int 0, .int (-1), .int 0, .int 0])), (rdr, .inr (4, [.ref tok, .ref rd1, .ref rd2, .ref sp, .ref spc, .int 0, .int 0, .int 0, .int 0, .int (-1)])), (sp, .inr (3, [.ref spc, .ref sa1, .ref sa2, .ref sa3, .ref sa4, .ref sa5, .ref sa6, .ref sa7, .ref sa8, .int 0, .int 0, .int 0, .int 0, .int (-1)]))] H := hP
  have hD : va_D A [(h0, .inr (9, [.ref tp, .int 0, .ref tok, .ref g, .ref rdr, .int 0, .int (-1), .ref scn, .ref fct, .ref rnr, .ref trl, .ref mnd, .ref rrw])), (scn, .inr (6, [.ref sp, .int (-1), .ref td])), (g, .inr (3, [.ref gc, .ref ga1, .ref ga2, .ref ga3, .ref ga4, .ref ga5, .ref ga6, .ref ga7, .ref ga8, .int 0, .int 0, .int 0, .int 0, .int (-1)])), (td, .inl (cI, 4, .inl f2)), (fct, .inr (1, [.ref scn, .ref st, .ref se, .ref mk, .ref us, .ref te, .ref g, .ref gc, .int 1, .int 0, .int 0, .int 0, .long 0, .long 0])), (trl, .inr (8, [.ref tr0, .ref tr1, .ref tr2, .ref tr3, .int 1, .int 0])), (mnd, .inr (2, [.ref md0, .ref mpr, .ref md2, .ref md3, .int 1, .int 0, .int 0, .int (-1), .int 0, .int 0])), (rdr, .inr (4, [.ref tok, .ref rd1, .ref rd2, .ref sp, .ref spc, .int 0, .int 0, .int 0, .int 0, .int (-1)])), (sp, .inr (3, [.ref spc, .ref sa1, .ref sa2, .ref sa3, .ref sa4, .ref sa5, .ref sa6, .ref sa7, .ref sa8, .int 0, .int 0, .int 0, .int 0, .int (-1)]))] := hD
  refine lv_aload_n hx hb dX10_text_98 rfl (lv_at hl 1 rfl) ?_
  refine va_get (D := (dC, dI)) (ci := 9) (v := .ref scn) (C := RX10) (T := TX10) (N := 13) hx hb hts iwwsX10_text_10 hown hK hP 0 rfl rfl 7 (by decide) (hts (.fieldLink RX10 45 "NothingJudge" "scene" "LNothingJudge$Scene;") fwwsX10_text_45) (fun _ h9 => h9) rfl dX10_text_99 ?_
  refine lv_aload_n hx hb dX10_text_102 rfl (lv_at hl 1 rfl) ?_
  refine va_get (D := (dC, dI)) (ci := 9) (v := .ref scn) (C := RX10) (T := TX10) (N := 13) hx hb hts iwwsX10_text_10 hown hK hP 0 rfl rfl 7 (by decide) (hts (.fieldLink RX10 45 "NothingJudge" "scene" "LNothingJudge$Scene;") fwwsX10_text_45) (fun _ h9 => h9) rfl dX10_text_103 ?_
  refine va_get (D := (dC, dI)) (ci := 6) (v := .ref sp) (C := RX7) (T := TX7) (N := 3) hx hb hts iwwsX10_text_7 hown hK hP 1 rfl rfl 0 (by decide) (hts (.fieldLink RX10 110 "NothingJudge$Scene" "program" "LNothingJudge$Program;") fwwsX10_text_110) (fun _ h9 => h9) rfl dX10_text_106 ?_
  refine va_get (D := (dC, dI)) (ci := 3) (v := .int (-1)) (C := RX3) (T := TX3) (N := 14) hx hb hts iwwsX10_text_3 hown hK hP 8 rfl rfl 13 (by decide) (hts (.fieldLink RX10 113 "NothingJudge$Program" "first" "I") fwwsX10_text_113) (fun _ h9 => h9) rfl dX10_text_109 ?_
  have hPc := hP.sub (ws' := [(scn, .inr (6, [.ref sp, .int (-1), .ref td])), (td, .inl (cI, 4, .inl f2))]) [1, 3] rfl
  have hDc := hD.sub (ws' := [(scn, .inr (6, [.ref sp, .int (-1), .ref td])), (td, .inl (cI, 4, .inl f2))]) [1, 3] (by decide) rfl
  have hFc := va_free (wc := [(scn, .inr (6, [.ref sp, .int (-1), .ref td])), (td, .inl (cI, 4, .inl f2))]) hD hS hA [1, 3] rfl
  refine va_callv (va_runV (As := [.int (-1)]) (rest := []) ⟨hx, hb, hml, hown, hts⟩ (c_startAt l dC dI cI cB cL cZ (scn) (sp) (td) (f2) H.size) (cwV 1 hts gX10_text_X7_startAt rfl rfl rfl (by decide +kernel) ⟨Nat.le_of_ble_eq_true rfl, Nat.le_of_ble_eq_true rfl⟩) ⟨cP_fb, va_recv hK hPc (ci := 6) (q0 := 0) rfl rfl, fun U hU hW => cP_pre hPc hK hDc hN U hU hW⟩ rfl rfl hl.1 rfl (lv_room (Nat.le_of_ble_eq_true rfl)) dX10_text_112 ⟨Nat.le_of_ble_eq_true rfl, Nat.le_of_ble_eq_true rfl⟩) hS (fun q _ h => hFc q h) hFc (fun u t H1 locs ht hvm hw hB hz1 hk1 hS => ?_)
  obtain ⟨hP1, hD1⟩ := hB
  rw [ht] at hP1
  obtain ⟨hP, hD⟩ := va_join (wr := [(h0, .inr (9, [.ref tp, .int 0, .ref tok, .ref g, .ref rdr, .int 0, .int (-1), .ref scn, .ref fct, .ref rnr, .ref trl, .ref mnd, .ref rrw])), (g, .inr (3, [.ref gc, .ref ga1, .ref ga2, .ref ga3, .ref ga4, .ref ga5, .ref ga6, .ref ga7, .ref ga8, .int 0, .int 0, .int 0, .int 0, .int (-1)])), (fct, .inr (1, [.ref scn, .ref st, .ref se, .ref mk, .ref us, .ref te, .ref g, .ref gc, .int 1, .int 0, .int 0, .int 0, .long 0, .long 0])), (trl, .inr (8, [.ref tr0, .ref tr1, .ref tr2, .ref tr3, .int 1, .int 0])), (mnd, .inr (2, [.ref md0, .ref mpr, .ref md2, .ref md3, .int 1, .int 0, .int 0, .int (-1), .int 0, .int 0])), (rdr, .inr (4, [.ref tok, .ref rd1, .ref rd2, .ref sp, .ref spc, .int 0, .int 0, .int 0, .int 0, .int (-1)])), (sp, .inr (3, [.ref spc, .ref sa1, .ref sa2, .ref sa3, .ref sa4, .ref sa5, .ref sa6, .ref sa7, .ref sa8, .int 0, .int 0, .int 0, .int 0, .int (-1)]))]) (w1 := [(scn, .inr (6, [.ref sp, .int (-1), .ref td]))]) hP hD [1, 3] [0, 2, 4, 5, 6, 7, 8] rfl rfl (by decide) (by decide) hk1 hFc hP1 hD1
  generalize H1 = H at hP hS ⊢
  have hP : va_P (dC, dI) vwCl [(h0, .inr (9, [.ref tp, .int 0, .ref tok, .ref g, .ref rdr, .int 0, .int (-1), .ref scn, .ref fct, .ref rnr, .ref trl, .ref mnd, .ref rrw])), (g, .inr (3, [.ref gc, .ref ga1, .ref ga2, .ref ga3, .ref ga4, .ref ga5, .ref ga6, .ref ga7, .ref ga8, .int 0, .int 0, .int 0, .int 0, .int (-1)])), (fct, .inr (1, [.ref scn, .ref st, .ref se, .ref mk, .ref us, .ref te, .ref g, .ref gc, .int 1, .int 0, .int 0, .int 0, .long 0, .long 0])), (trl, .inr (8, [.ref tr0, .ref tr1, .ref tr2, .ref tr3, .int 1, .int 0])), (mnd, .inr (2, [.ref md0, .ref mpr, .ref md2, .ref md3, .int 1, .int 0, .int 0, .int (-1), .int 0, .int 0])), (rdr, .inr (4, [.ref tok, .ref rd1, .ref rd2, .ref sp, .ref spc, .int 0, .int 0, .int 0, .int 0, .int (-1)])), (sp, .inr (3, [.ref spc, .ref sa1, .ref sa2, .ref sa3, .ref sa4, .ref sa5, .ref sa6, .ref sa7, .ref sa8, .int 0, .int 0, .int 0, .int 0, .int (-1)])), (scn, .inr (6, [.ref sp, .int (-1), .ref td]))] H := hP
  have hD : va_D A [(h0, .inr (9, [.ref tp, .int 0, .ref tok, .ref g, .ref rdr, .int 0, .int (-1), .ref scn, .ref fct, .ref rnr, .ref trl, .ref mnd, .ref rrw])), (g, .inr (3, [.ref gc, .ref ga1, .ref ga2, .ref ga3, .ref ga4, .ref ga5, .ref ga6, .ref ga7, .ref ga8, .int 0, .int 0, .int 0, .int 0, .int (-1)])), (fct, .inr (1, [.ref scn, .ref st, .ref se, .ref mk, .ref us, .ref te, .ref g, .ref gc, .int 1, .int 0, .int 0, .int 0, .long 0, .long 0])), (trl, .inr (8, [.ref tr0, .ref tr1, .ref tr2, .ref tr3, .int 1, .int 0])), (mnd, .inr (2, [.ref md0, .ref mpr, .ref md2, .ref md3, .int 1, .int 0, .int 0, .int (-1), .int 0, .int 0])), (rdr, .inr (4, [.ref tok, .ref rd1, .ref rd2, .ref sp, .ref spc, .int 0, .int 0, .int 0, .int 0, .int (-1)])), (sp, .inr (3, [.ref spc, .ref sa1, .ref sa2, .ref sa3, .ref sa4, .ref sa5, .ref sa6, .ref sa7, .ref sa8, .int 0, .int 0, .int 0, .int 0, .int (-1)])), (scn, .inr (6, [.ref sp, .int (-1), .ref td]))] := hD
  refine lv_aload_n hx hb dX10_text_115 rfl (lv_at hl 1 rfl) ?_
  have hPc := hP.sub (ws' := [(h0, .inr (9, [.ref tp, .int 0, .ref tok, .ref g, .ref rdr, .int 0, .int (-1), .ref scn, .ref fct, .ref rnr, .ref trl, .ref mnd, .ref rrw])), (fct, .inr (1, [.ref scn, .ref st, .ref se, .ref mk, .ref us, .ref te, .ref g, .ref gc, .int 1, .int 0, .int 0, .int 0, .long 0, .long 0])), (trl, .inr (8, [.ref tr0, .ref tr1, .ref tr2, .ref tr3, .int 1, .int 0])), (mnd, .inr (2, [.ref md0, .ref mpr, .ref md2, .ref md3, .int 1, .int 0, .int 0, .int (-1), .int 0, .int 0]))]) [0, 2, 3, 4] rfl
  have hDc := hD.sub (ws' := [(h0, .inr (9, [.ref tp, .int 0, .ref tok, .ref g, .ref rdr, .int 0, .int (-1), .ref scn, .ref fct, .ref rnr, .ref trl, .ref mnd, .ref rrw])), (fct, .inr (1, [.ref scn, .ref st, .ref se, .ref mk, .ref us, .ref te, .ref g, .ref gc, .int 1, .int 0, .int 0, .int 0, .long 0, .long 0])), (trl, .inr (8, [.ref tr0, .ref tr1, .ref tr2, .ref tr3, .int 1, .int 0])), (mnd, .inr (2, [.ref md0, .ref mpr, .ref md2, .ref md3, .int 1, .int 0, .int 0, .int (-1), .int 0, .int 0]))]) [0, 2, 3, 4] (by decide) rfl
  have hFc := va_free (wc := [(h0, .inr (9, [.ref tp, .int 0, .ref tok, .ref g, .ref rdr, .int 0, .int (-1), .ref scn, .ref fct, .ref rnr, .ref trl, .ref mnd, .ref rrw])), (fct, .inr (1, [.ref scn, .ref st, .ref se, .ref mk, .ref us, .ref te, .ref g, .ref gc, .int 1, .int 0, .int 0, .int 0, .long 0, .long 0])), (trl, .inr (8, [.ref tr0, .ref tr1, .ref tr2, .ref tr3, .int 1, .int 0])), (mnd, .inr (2, [.ref md0, .ref mpr, .ref md2, .ref md3, .int 1, .int 0, .int 0, .int (-1), .int 0, .int 0]))]) hD hS hA [0, 2, 3, 4] rfl
  refine va_callv (va_runV (As := []) (rest := []) ⟨hx, hb, hml, hown, hts⟩ (c_forget l dC dI cI cB cL cZ (h0) (tp) (tok) (g) (rdr) (scn) (fct) (rnr) (trl) (mnd) (rrw) (tr0) (tr1) (tr2) (tr3) (md0) (mpr) (md2) (md3) (scn) (g) (gc) (st) (se) (mk) (us) (te) H.size) (cwV 0 hts gX10_text_X10_forget rfl rfl rfl (by decide +kernel) ⟨Nat.le_of_ble_eq_true rfl, Nat.le_of_ble_eq_true rfl⟩) ⟨cP_fb, va_recv hK hPc (ci := 9) (q0 := 0) rfl rfl, fun U hU hW => cP_pre hPc hK hDc hN U hU hW⟩ rfl rfl hl.1 rfl (lv_room (Nat.le_of_ble_eq_true rfl)) dX10_text_116 ⟨Nat.le_of_ble_eq_true rfl, Nat.le_of_ble_eq_true rfl⟩) hS (fun q _ h => hFc q h) hFc (fun u t H1 locs ht hvm hw hB hz1 hk1 hS => ?_)
  obtain ⟨hP1, hD1⟩ := hB
  rw [ht] at hP1
  obtain ⟨hP, hD⟩ := va_join (wr := [(g, .inr (3, [.ref gc, .ref ga1, .ref ga2, .ref ga3, .ref ga4, .ref ga5, .ref ga6, .ref ga7, .ref ga8, .int 0, .int 0, .int 0, .int 0, .int (-1)])), (rdr, .inr (4, [.ref tok, .ref rd1, .ref rd2, .ref sp, .ref spc, .int 0, .int 0, .int 0, .int 0, .int (-1)])), (sp, .inr (3, [.ref spc, .ref sa1, .ref sa2, .ref sa3, .ref sa4, .ref sa5, .ref sa6, .ref sa7, .ref sa8, .int 0, .int 0, .int 0, .int 0, .int (-1)])), (scn, .inr (6, [.ref sp, .int (-1), .ref td]))]) (w1 := [(h0, .inr (9, [.ref tp, .int 0, .ref tok, .ref g, .ref rdr, .int 0, .int (-1), .ref scn, .ref fct, .ref rnr, .ref trl, .ref mnd, .ref rrw]))]) hP hD [0, 2, 3, 4] [1, 5, 6, 7] rfl rfl (by decide) (by decide) hk1 hFc hP1 hD1
  generalize H1 = H at hP hS ⊢
  have hP : va_P (dC, dI) vwCl [(g, .inr (3, [.ref gc, .ref ga1, .ref ga2, .ref ga3, .ref ga4, .ref ga5, .ref ga6, .ref ga7, .ref ga8, .int 0, .int 0, .int 0, .int 0, .int (-1)])), (rdr, .inr (4, [.ref tok, .ref rd1, .ref rd2, .ref sp, .ref spc, .int 0, .int 0, .int 0, .int 0, .int (-1)])), (sp, .inr (3, [.ref spc, .ref sa1, .ref sa2, .ref sa3, .ref sa4, .ref sa5, .ref sa6, .ref sa7, .ref sa8, .int 0, .int 0, .int 0, .int 0, .int (-1)])), (scn, .inr (6, [.ref sp, .int (-1), .ref td])), (h0, .inr (9, [.ref tp, .int 0, .ref tok, .ref g, .ref rdr, .int 0, .int (-1), .ref scn, .ref fct, .ref rnr, .ref trl, .ref mnd, .ref rrw]))] H := hP
  have hD : va_D A [(g, .inr (3, [.ref gc, .ref ga1, .ref ga2, .ref ga3, .ref ga4, .ref ga5, .ref ga6, .ref ga7, .ref ga8, .int 0, .int 0, .int 0, .int 0, .int (-1)])), (rdr, .inr (4, [.ref tok, .ref rd1, .ref rd2, .ref sp, .ref spc, .int 0, .int 0, .int 0, .int 0, .int (-1)])), (sp, .inr (3, [.ref spc, .ref sa1, .ref sa2, .ref sa3, .ref sa4, .ref sa5, .ref sa6, .ref sa7, .ref sa8, .int 0, .int 0, .int 0, .int 0, .int (-1)])), (scn, .inr (6, [.ref sp, .int (-1), .ref td])), (h0, .inr (9, [.ref tp, .int 0, .ref tok, .ref g, .ref rdr, .int 0, .int (-1), .ref scn, .ref fct, .ref rnr, .ref trl, .ref mnd, .ref rrw]))] := hD
  refine lv_aload_n hx hb dX10_text_119 rfl (lv_at hl 1 rfl) ?_
  refine va_get (D := (dC, dI)) (ci := 9) (v := .ref scn) (C := RX10) (T := TX10) (N := 13) hx hb hts iwwsX10_text_10 hown hK hP 4 rfl rfl 7 (by decide) (hts (.fieldLink RX10 45 "NothingJudge" "scene" "LNothingJudge$Scene;") fwwsX10_text_45) (fun _ h9 => h9) rfl dX10_text_120 ?_
  refine va_get (D := (dC, dI)) (ci := 6) (v := .ref sp) (C := RX7) (T := TX7) (N := 3) hx hb hts iwwsX10_text_7 hown hK hP 3 rfl rfl 0 (by decide) (hts (.fieldLink RX10 110 "NothingJudge$Scene" "program" "LNothingJudge$Program;") fwwsX10_text_110) (fun _ h9 => h9) rfl dX10_text_123 ?_
  refine va_get (D := (dC, dI)) (ci := 3) (v := .int 0) (C := RX3) (T := TX3) (N := 14) hx hb hts iwwsX10_text_3 hown hK hP 2 rfl rfl 10 (by decide) (hts (.fieldLink RX10 122 "NothingJudge$Program" "routines" "I") fwwsX10_text_122) (fun _ h9 => h9) rfl dX10_text_126 ?_
  have hP9 := hP.sub (ws' := []) [] rfl
  have hD9 := hD.sub (ws' := []) [] (by decide) rfl
  exact W.iret (v := 0) hx hb hr (fun t ht hW => ⟨⟨0, (), rfl, rfl, by rw [ht]; exact hP9, hD9⟩, hS.F ht⟩) hS.2.2 dX10_text_129

set_option maxHeartbeats 4000000 in
set_option maxRecDepth 100000 in
theorem c_textN (l : Launch) (dC : Nat → ClassId) (dI : Nat → Nat → Nat) (cI cB cL cZ : ClassId) (h0 : Nat) (tp : Nat) (tok : Nat) (sp : Nat) (rdr : Nat) (scn : Nat) (fct : Nat) (rnr : Nat) (trl : Nat) (mnd : Nat) (rrw : Nat) (n : Int32) (sz : Nat) (hn9 : n < 0 ∨ 0 < n) : Met l yX10_text wsX10_text ({ frames := 0, cells := 0, slots := 0, locals := 0 }) (cP (dC, dI) (kTy cI cB cL cZ) [.ref h0, .int n] [(h0, .inr (9, [.ref tp, .int 0, .ref tok, .ref sp, .ref rdr, .int 0, .int (-1), .ref scn, .ref fct, .ref rnr, .ref trl, .ref mnd, .ref rrw]))] sz) (va_Qi (fun (r : Int32) (_ : Unit) => r = -2) (fun (_ : Unit) (t : State) => va_P (dC, dI) vwCl [] t.heap ∧ va_D (va_A [(h0, .inr (9, [.ref tp, .int 0, .ref tok, .ref sp, .ref rdr, .int 0, .int (-1), .ref scn, .ref fct, .ref rnr, .ref trl, .ref mnd, .ref rrw]))] sz) []) (va_A [(h0, .inr (9, [.ref tp, .int 0, .ref tok, .ref sp, .ref rdr, .int 0, .int (-1), .ref scn, .ref fct, .ref rnr, .ref trl, .ref mnd, .ref rrw]))] sz)) 0 0 (va_A [(h0, .inr (9, [.ref tp, .int 0, .ref tok, .ref sp, .ref rdr, .int 0, .int (-1), .ref scn, .ref fct, .ref rnr, .ref trl, .ref mnd, .ref rrw]))] sz) := by
  refine Met.ofW (cc := cX10_text) (maxL := 3) (ret := (some .int)) (by decide) rfl ?_
  intro p e s m args below meth c s₁ B hml hv
  obtain ⟨rfl, hsz, hP, hK, hD0, hN⟩ := hv
  have hx := B.exec
  have hb := B.bytes
  have hr := B.returns
  have hts := atoms_spec (ws := wsX10_text) B.pre
  have hown : s.vm.findClass RX10 = some m.cls := findClass_of_methodNamed B.named
  have hlocks := B.notSynchronized
  subst hsz
  have hD := hD0.self (sz := s.heap.size)
  generalize hAe : va_A [(h0, .inr (9, [.ref tp, .int 0, .ref tok, .ref sp, .ref rdr, .int 0, .int (-1), .ref scn, .ref fct, .ref rnr, .ref trl, .ref mnd, .ref rrw]))] s.heap.size = A at hD ⊢
  have hA : ∀ q : Nat, s.heap.size ≤ q → A q := fun q h => by rw [← hAe]; exact Or.inr h
  have hl := lv_entry ([.ref h0, .int n]) (n := 3) (Nat.le_of_ble_eq_true rfl)
  rw [lg_entry_eq]
  generalize (lg_sl ([.ref h0, .int n]) ++ List.replicate (3 - (lg_sl ([.ref h0, .int n])).length) Slot.unset).toArray = ls at hl ⊢
  have hl : lv_has ls 3 [(0, .ref h0), (1, .int n)] := hl
  refine k_H (A := A) hP (fun H hP hS => ?_)
  have hP : va_P (dC, dI) vwCl [(h0, .inr (9, [.ref tp, .int 0, .ref tok, .ref sp, .ref rdr, .int 0, .int (-1), .ref scn, .ref fct, .ref rnr, .ref trl, .ref mnd, .ref rrw]))] H := hP
  have hD : va_D A [(h0, .inr (9, [.ref tp, .int 0, .ref tok, .ref sp, .ref rdr, .int 0, .int (-1), .ref scn, .ref fct, .ref rnr, .ref trl, .ref mnd, .ref rrw]))] := hD
  refine lv_iload_n hx hb dX10_text_0 rfl (lv_at hl 1 rfl) ?_
  refine lv_if_lt (tgt := 12) hx hb dX10_text_1 (by decide) (fun c_294 => ?_) (fun c_294 => ?_)
  · refine lv_bipush (v := (-2)) hx hb dX10_text_12 (by decide) ?_
    have hP9 := hP.sub (ws' := []) [] rfl
    have hD9 := hD.sub (ws' := []) [] (by decide) rfl
    exact W.iret (v := (-2)) hx hb hr (fun t ht hW => ⟨⟨(-2), (), rfl, rfl, by rw [ht]; exact hP9, hD9⟩, hS.F ht⟩) hS.2.2 dX10_text_14
  · refine lv_iload_n hx hb dX10_text_4 rfl (lv_at hl 1 rfl) ?_
    refine lv_aload_n hx hb dX10_text_5 rfl (lv_at hl 0 rfl) ?_
    refine va_get (D := (dC, dI)) (ci := 9) (v := .int 0) (C := RX10) (T := TX10) (N := 13) hx hb hts iwwsX10_text_10 hown hK hP 0 rfl rfl 1 (by decide) (hts (.fieldLink RX10 87 "NothingJudge" "taped" "I") fwwsX10_text_87) (fun _ h9 => h9) rfl dX10_text_6 ?_
    refine lv_icmp_le (tgt := 15) hx hb dX10_text_9 (by decide) (fun c9 => absurd c9 (Int32.not_le.mpr (hn9.resolve_left c_294))) (fun _ => ?_)
    refine lv_bipush (v := (-2)) hx hb dX10_text_12 (by decide) ?_
    have hP9 := hP.sub (ws' := []) [] rfl
    have hD9 := hD.sub (ws' := []) [] (by decide) rfl
    exact W.iret (v := (-2)) hx hb hr (fun t ht hW => ⟨⟨(-2), (), rfl, rfl, by rw [ht]; exact hP9, hD9⟩, hS.F ht⟩) hS.2.2 dX10_text_14
