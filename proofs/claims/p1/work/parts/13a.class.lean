set_option maxHeartbeats 4000000 in
set_option maxRecDepth 100000 in
theorem c_outers (l : Launch) (dC : Nat → ClassId) (dI : Nat → Nat → Nat) (cI cB cL cZ : ClassId) (h0 : Nat) (g : Nat) (td : Nat) (gc : Nat) (ga1 : Nat) (ga2 : Nat) (ga3 : Nat) (ga4 : Nat) (ga5 : Nat) (ga6 : Nat) (ga7 : Nat) (ga8 : Nat) (sz : Nat)  : Met l yX7_outers wsX7_outers ({ frames := 1, cells := 0, slots := 0, locals := 21 }) (cP (dC, dI) (kTy cI cB cL cZ) [.ref h0] [(h0, .inr (6, [.ref g, .int (-1), .ref td])), (g, .inr (3, [.ref gc, .ref ga1, .ref ga2, .ref ga3, .ref ga4, .ref ga5, .ref ga6, .ref ga7, .ref ga8, .int 0, .int 0, .int 0, .int 0, .int (-1)]))] sz) (va_Qi (fun (r : Int32) (_ : Unit) => r = 0) (fun (_ : Unit) (t : State) => va_P (dC, dI) vwCl [(h0, .inr (6, [.ref g, .int (-1), .ref td])), (g, .inr (3, [.ref gc, .ref ga1, .ref ga2, .ref ga3, .ref ga4, .ref ga5, .ref ga6, .ref ga7, .ref ga8, .int 0, .int 0, .int 0, .int 0, .int (-1)]))] t.heap ∧ va_D (va_A [(h0, .inr (6, [.ref g, .int (-1), .ref td])), (g, .inr (3, [.ref gc, .ref ga1, .ref ga2, .ref ga3, .ref ga4, .ref ga5, .ref ga6, .ref ga7, .ref ga8, .int 0, .int 0, .int 0, .int 0, .int (-1)]))] sz) [(h0, .inr (6, [.ref g, .int (-1), .ref td])), (g, .inr (3, [.ref gc, .ref ga1, .ref ga2, .ref ga3, .ref ga4, .ref ga5, .ref ga6, .ref ga7, .ref ga8, .int 0, .int 0, .int 0, .int 0, .int (-1)]))]) (va_A [(h0, .inr (6, [.ref g, .int (-1), .ref td])), (g, .inr (3, [.ref gc, .ref ga1, .ref ga2, .ref ga3, .ref ga4, .ref ga5, .ref ga6, .ref ga7, .ref ga8, .int 0, .int 0, .int 0, .int 0, .int (-1)]))] sz)) 0 0 (va_A [(h0, .inr (6, [.ref g, .int (-1), .ref td])), (g, .inr (3, [.ref gc, .ref ga1, .ref ga2, .ref ga3, .ref ga4, .ref ga5, .ref ga6, .ref ga7, .ref ga8, .int 0, .int 0, .int 0, .int 0, .int (-1)]))] sz) := by
  refine Met.ofW (cc := cX7_outers) (maxL := 1) (ret := (some .int)) (by decide) rfl ?_
  intro p e s m args below meth c s₁ B hml hv
  obtain ⟨rfl, hsz, hP, hK, hD0, hN⟩ := hv
  have hx := B.exec
  have hb := B.bytes
  have hr := B.returns
  have hts := atoms_spec (ws := wsX7_outers) B.pre
  have hown : s.vm.findClass RX7 = some m.cls := findClass_of_methodNamed B.named
  have hlocks := B.notSynchronized
  subst hsz
  have hD := hD0.self (sz := s.heap.size)
  generalize hAe : va_A [(h0, .inr (6, [.ref g, .int (-1), .ref td])), (g, .inr (3, [.ref gc, .ref ga1, .ref ga2, .ref ga3, .ref ga4, .ref ga5, .ref ga6, .ref ga7, .ref ga8, .int 0, .int 0, .int 0, .int 0, .int (-1)]))] s.heap.size = A at hD ⊢
  have hA : ∀ q : Nat, s.heap.size ≤ q → A q := fun q h => by rw [← hAe]; exact Or.inr h
  have hl := lv_entry ([.ref h0]) (n := 1) (Nat.le_of_ble_eq_true rfl)
  rw [lg_entry_eq]
  generalize (lg_sl ([.ref h0]) ++ List.replicate (1 - (lg_sl ([.ref h0])).length) Slot.unset).toArray = ls at hl ⊢
  have hl : lv_has ls 1 [(0, .ref h0)] := hl
  refine k_H (A := A) hP (fun H hP hS => ?_)
  have hP : va_P (dC, dI) vwCl [(h0, .inr (6, [.ref g, .int (-1), .ref td])), (g, .inr (3, [.ref gc, .ref ga1, .ref ga2, .ref ga3, .ref ga4, .ref ga5, .ref ga6, .ref ga7, .ref ga8, .int 0, .int 0, .int 0, .int 0, .int (-1)]))] H := hP
  have hD : va_D A [(h0, .inr (6, [.ref g, .int (-1), .ref td])), (g, .inr (3, [.ref gc, .ref ga1, .ref ga2, .ref ga3, .ref ga4, .ref ga5, .ref ga6, .ref ga7, .ref ga8, .int 0, .int 0, .int 0, .int 0, .int (-1)]))] := hD
  refine lv_aload_n hx hb dX7_outers_0 rfl (lv_at hl 0 rfl) ?_
  refine va_get (D := (dC, dI)) (ci := 6) (v := .ref g) (C := RX7) (T := TX7) (N := 3) hx hb hts iwwsX7_outers_7 hown hK hP 0 rfl rfl 0 (by decide) (hts (.fieldLink RX7 19 "NothingJudge$Scene" "program" "LNothingJudge$Program;") fwwsX7_outers_19) (fun _ h9 => h9) rfl dX7_outers_1 ?_
  refine va_get (D := (dC, dI)) (ci := 3) (v := .ref ga2) (C := RX3) (T := TX3) (N := 14) hx hb hts iwwsX7_outers_3 hown hK hP 1 rfl rfl 2 (by decide) (hts (.fieldLink RX7 29 "NothingJudge$Program" "arity" "[I") fwwsX7_outers_29) (fun _ h9 => h9) rfl dX7_outers_4 ?_
  refine lv_aload_n hx hb dX7_outers_7 rfl (lv_at hl 0 rfl) ?_
  refine va_get (D := (dC, dI)) (ci := 6) (v := .int (-1)) (C := RX7) (T := TX7) (N := 3) hx hb hts iwwsX7_outers_7 hown hK hP 0 rfl rfl 1 (by decide) (hts (.fieldLink RX7 9 "NothingJudge$Scene" "start" "I") fwwsX7_outers_9) (fun _ h9 => h9) rfl dX7_outers_8 ?_
  have hPc := hP.sub (ws' := []) [] rfl
  have hDc := hD.sub (ws' := []) [] (by decide) rfl
  have hFc := va_free (wc := []) hD hS hA [] rfl
  refine va_calli (va_runS (As := [.ref ga2, .int (-1)]) (rest := []) ⟨hx, hb, hml, hown, hts⟩ (c_at_neg l dC dI cI cB cL cZ (ga2) ((-1)) H.size (by decide)) (va_cwS 2 hts gX7_outers_X5_at rfl rfl rfl (by decide +kernel) ⟨Nat.le_of_ble_eq_true rfl, Nat.le_of_ble_eq_true rfl⟩) ⟨cP_fb, fun U hU hW => cP_pre hPc hK hDc hN U hU hW⟩ rfl rfl hl.1 rfl (lv_room (Nat.le_of_ble_eq_true rfl)) dX7_outers_11 ⟨Nat.le_of_ble_eq_true rfl, Nat.le_of_ble_eq_true rfl⟩) hS (fun q _ h => hFc q h) hFc (fun r_110 u t H1 locs ht hvm hw hB hz1 hk1 hS => ?_)
  obtain ⟨hP1, hD1⟩ := hB
  rw [ht] at hP1
  obtain ⟨hP, hD⟩ := va_join (wr := [(h0, .inr (6, [.ref g, .int (-1), .ref td])), (g, .inr (3, [.ref gc, .ref ga1, .ref ga2, .ref ga3, .ref ga4, .ref ga5, .ref ga6, .ref ga7, .ref ga8, .int 0, .int 0, .int 0, .int 0, .int (-1)]))]) (w1 := []) hP hD [] [0, 1] rfl rfl (by decide) (by decide) hk1 hFc hP1 hD1
  generalize H1 = H at hP hS ⊢
  have hP : va_P (dC, dI) vwCl [(h0, .inr (6, [.ref g, .int (-1), .ref td])), (g, .inr (3, [.ref gc, .ref ga1, .ref ga2, .ref ga3, .ref ga4, .ref ga5, .ref ga6, .ref ga7, .ref ga8, .int 0, .int 0, .int 0, .int 0, .int (-1)]))] H := hP
  have hD : va_D A [(h0, .inr (6, [.ref g, .int (-1), .ref td])), (g, .inr (3, [.ref gc, .ref ga1, .ref ga2, .ref ga3, .ref ga4, .ref ga5, .ref ga6, .ref ga7, .ref ga8, .int 0, .int 0, .int 0, .int 0, .int (-1)]))] := hD
  obtain rfl : r_110 = 0 := hw
  refine lv_aload_n hx hb dX7_outers_14 rfl (lv_at hl 0 rfl) ?_
  refine va_get (D := (dC, dI)) (ci := 6) (v := .ref g) (C := RX7) (T := TX7) (N := 3) hx hb hts iwwsX7_outers_7 hown hK hP 0 rfl rfl 0 (by decide) (hts (.fieldLink RX7 19 "NothingJudge$Scene" "program" "LNothingJudge$Program;") fwwsX7_outers_19) (fun _ h9 => h9) rfl dX7_outers_15 ?_
  refine lv_aload_n hx hb dX7_outers_18 rfl (lv_at hl 0 rfl) ?_
  refine va_get (D := (dC, dI)) (ci := 6) (v := .int (-1)) (C := RX7) (T := TX7) (N := 3) hx hb hts iwwsX7_outers_7 hown hK hP 0 rfl rfl 1 (by decide) (hts (.fieldLink RX7 9 "NothingJudge$Scene" "start" "I") fwwsX7_outers_9) (fun _ h9 => h9) rfl dX7_outers_19 ?_
  have hPc := hP.sub (ws' := [(g, .inr (3, [.ref gc, .ref ga1, .ref ga2, .ref ga3, .ref ga4, .ref ga5, .ref ga6, .ref ga7, .ref ga8, .int 0, .int 0, .int 0, .int 0, .int (-1)]))]) [1] rfl
  have hDc := hD.sub (ws' := [(g, .inr (3, [.ref gc, .ref ga1, .ref ga2, .ref ga3, .ref ga4, .ref ga5, .ref ga6, .ref ga7, .ref ga8, .int 0, .int 0, .int 0, .int 0, .int (-1)]))]) [1] (by decide) rfl
  have hFc := va_free (wc := [(g, .inr (3, [.ref gc, .ref ga1, .ref ga2, .ref ga3, .ref ga4, .ref ga5, .ref ga6, .ref ga7, .ref ga8, .int 0, .int 0, .int 0, .int 0, .int (-1)]))]) hD hS hA [1] rfl
  refine va_calli (va_runV (As := [.int (-1)]) (rest := [.int 0]) ⟨hx, hb, hml, hown, hts⟩ (c_has l dC dI cI cB cL cZ (g) (gc) (ga1) (ga2) (ga3) (ga4) (ga5) (ga6) (ga7) (ga8) ((-1)) H.size) (cwV 1 hts gX7_outers_X3_has rfl rfl rfl (by decide +kernel) ⟨Nat.le_of_ble_eq_true rfl, Nat.le_of_ble_eq_true rfl⟩) ⟨cP_fb, va_recv hK hPc (ci := 3) (q0 := 0) rfl rfl, fun U hU hW => cP_pre hPc hK hDc hN U hU hW⟩ rfl rfl hl.1 rfl (lv_room (Nat.le_of_ble_eq_true rfl)) dX7_outers_22 ⟨Nat.le_of_ble_eq_true rfl, Nat.le_of_ble_eq_true rfl⟩) hS (fun q _ h => hFc q h) hFc (fun r_111 u t H1 locs ht hvm hw hB hz1 hk1 hS => ?_)
  obtain ⟨hP1, hD1⟩ := hB
  rw [ht] at hP1
  obtain ⟨hP, hD⟩ := va_join (wr := [(h0, .inr (6, [.ref g, .int (-1), .ref td]))]) (w1 := [(g, .inr (3, [.ref gc, .ref ga1, .ref ga2, .ref ga3, .ref ga4, .ref ga5, .ref ga6, .ref ga7, .ref ga8, .int 0, .int 0, .int 0, .int 0, .int (-1)]))]) hP hD [1] [0] rfl rfl (by decide) (by decide) hk1 hFc hP1 hD1
  generalize H1 = H at hP hS ⊢
  have hP : va_P (dC, dI) vwCl [(h0, .inr (6, [.ref g, .int (-1), .ref td])), (g, .inr (3, [.ref gc, .ref ga1, .ref ga2, .ref ga3, .ref ga4, .ref ga5, .ref ga6, .ref ga7, .ref ga8, .int 0, .int 0, .int 0, .int 0, .int (-1)]))] H := hP
  have hD : va_D A [(h0, .inr (6, [.ref g, .int (-1), .ref td])), (g, .inr (3, [.ref gc, .ref ga1, .ref ga2, .ref ga3, .ref ga4, .ref ga5, .ref ga6, .ref ga7, .ref ga8, .int 0, .int 0, .int 0, .int 0, .int (-1)]))] := hD
  obtain rfl : r_111 = 0 := hw
  refine lv_if_eq (tgt := 32) hx hb dX7_outers_25 (by decide) (fun _ => ?_) (fun c9 => absurd (by decide) c9)
  refine lv_iconst (v := 0) hx hb dX7_outers_32 (by decide) ?_
  refine va_mmin hx hb (by rw [hml]; exact hl.1.symm) hown (hts (.methodLink RX7 44 Lib.Math.min.name) ml_wsX7_outers) (hts (.static Lib.Math.min.name) ms_wsX7_outers) (hts (.initialized "java/lang/Math") mi_wsX7_outers) (hts (.code Lib.Math.min.name Lib.Math.min.code 2 (some .int)) mc_wsX7_outers) (Nat.le_of_ble_eq_true rfl) (Nat.le_of_ble_eq_true rfl) (Nat.le_of_ble_eq_true rfl) (Nat.le_of_ble_eq_true rfl) dX7_outers_33 ?_
  refine lv_topi (fun y_112 ey_112 => ?_)
  obtain rfl : y_112 = 0 := ey_112.trans (by decide)
  have hP9 := hP.sub (ws' := [(h0, .inr (6, [.ref g, .int (-1), .ref td])), (g, .inr (3, [.ref gc, .ref ga1, .ref ga2, .ref ga3, .ref ga4, .ref ga5, .ref ga6, .ref ga7, .ref ga8, .int 0, .int 0, .int 0, .int 0, .int (-1)]))]) [0, 1] rfl
  have hD9 := hD.sub (ws' := [(h0, .inr (6, [.ref g, .int (-1), .ref td])), (g, .inr (3, [.ref gc, .ref ga1, .ref ga2, .ref ga3, .ref ga4, .ref ga5, .ref ga6, .ref ga7, .ref ga8, .int 0, .int 0, .int 0, .int 0, .int (-1)]))]) [0, 1] (by decide) rfl
  exact W.iret (v := 0) hx hb hr (fun t ht hW => ⟨⟨0, (), rfl, rfl, by rw [ht]; exact hP9, hD9⟩, hS.F ht⟩) hS.2.2 dX7_outers_36

set_option maxHeartbeats 4000000 in
set_option maxRecDepth 100000 in
theorem c_allows (l : Launch) (dC : Nat → ClassId) (dI : Nat → Nat → Nat) (cI cB cL cZ : ClassId) (h0 : Nat) (g : Nat) (td : Nat) (gc : Nat) (ga1 : Nat) (ga2 : Nat) (ga3 : Nat) (ga4 : Nat) (ga5 : Nat) (ga6 : Nat) (ga7 : Nat) (ga8 : Nat) (bits : Int32) (sz : Nat)  : Met l yX7_allows wsX7_allows ({ frames := 1, cells := 0, slots := 0, locals := 21 }) (cP (dC, dI) (kTy cI cB cL cZ) [.ref h0, .int bits] [(h0, .inr (6, [.ref g, .int (-1), .ref td])), (g, .inr (3, [.ref gc, .ref ga1, .ref ga2, .ref ga3, .ref ga4, .ref ga5, .ref ga6, .ref ga7, .ref ga8, .int 0, .int 0, .int 0, .int 0, .int (-1)]))] sz) (va_Qi (fun (r : Int32) (_ : Unit) => r = 0) (fun (_ : Unit) (t : State) => va_P (dC, dI) vwCl [] t.heap ∧ va_D (va_A [(h0, .inr (6, [.ref g, .int (-1), .ref td])), (g, .inr (3, [.ref gc, .ref ga1, .ref ga2, .ref ga3, .ref ga4, .ref ga5, .ref ga6, .ref ga7, .ref ga8, .int 0, .int 0, .int 0, .int 0, .int (-1)]))] sz) []) (va_A [(h0, .inr (6, [.ref g, .int (-1), .ref td])), (g, .inr (3, [.ref gc, .ref ga1, .ref ga2, .ref ga3, .ref ga4, .ref ga5, .ref ga6, .ref ga7, .ref ga8, .int 0, .int 0, .int 0, .int 0, .int (-1)]))] sz)) 0 0 (va_A [(h0, .inr (6, [.ref g, .int (-1), .ref td])), (g, .inr (3, [.ref gc, .ref ga1, .ref ga2, .ref ga3, .ref ga4, .ref ga5, .ref ga6, .ref ga7, .ref ga8, .int 0, .int 0, .int 0, .int 0, .int (-1)]))] sz) := by
  refine Met.ofW (cc := cX7_allows) (maxL := 4) (ret := (some .boolean)) (by decide) rfl ?_
  intro p e s m args below meth c s₁ B hml hv
  obtain ⟨rfl, hsz, hP, hK, hD0, hN⟩ := hv
  have hx := B.exec
  have hb := B.bytes
  have hr := B.returns
  have hts := atoms_spec (ws := wsX7_allows) B.pre
  have hown : s.vm.findClass RX7 = some m.cls := findClass_of_methodNamed B.named
  have hlocks := B.notSynchronized
  subst hsz
  have hD := hD0.self (sz := s.heap.size)
  generalize hAe : va_A [(h0, .inr (6, [.ref g, .int (-1), .ref td])), (g, .inr (3, [.ref gc, .ref ga1, .ref ga2, .ref ga3, .ref ga4, .ref ga5, .ref ga6, .ref ga7, .ref ga8, .int 0, .int 0, .int 0, .int 0, .int (-1)]))] s.heap.size = A at hD ⊢
  have hA : ∀ q : Nat, s.heap.size ≤ q → A q := fun q h => by rw [← hAe]; exact Or.inr h
  have hl := lv_entry ([.ref h0, .int bits]) (n := 4) (Nat.le_of_ble_eq_true rfl)
  rw [lg_entry_eq]
  generalize (lg_sl ([.ref h0, .int bits]) ++ List.replicate (4 - (lg_sl ([.ref h0, .int bits])).length) Slot.unset).toArray = ls at hl ⊢
  have hl : lv_has ls 4 [(0, .ref h0), (1, .int bits)] := hl
  refine k_H (A := A) hP (fun H hP hS => ?_)
  have hP : va_P (dC, dI) vwCl [(h0, .inr (6, [.ref g, .int (-1), .ref td])), (g, .inr (3, [.ref gc, .ref ga1, .ref ga2, .ref ga3, .ref ga4, .ref ga5, .ref ga6, .ref ga7, .ref ga8, .int 0, .int 0, .int 0, .int 0, .int (-1)]))] H := hP
  have hD : va_D A [(h0, .inr (6, [.ref g, .int (-1), .ref td])), (g, .inr (3, [.ref gc, .ref ga1, .ref ga2, .ref ga3, .ref ga4, .ref ga5, .ref ga6, .ref ga7, .ref ga8, .int 0, .int 0, .int 0, .int 0, .int (-1)]))] := hD
  refine lv_aload_n hx hb dX7_allows_0 rfl (lv_at hl 0 rfl) ?_
  refine va_get (D := (dC, dI)) (ci := 6) (v := .ref g) (C := RX7) (T := TX7) (N := 3) hx hb hts iwwsX7_allows_7 hown hK hP 0 rfl rfl 0 (by decide) (hts (.fieldLink RX7 19 "NothingJudge$Scene" "program" "LNothingJudge$Program;") fwwsX7_allows_19) (fun _ h9 => h9) rfl dX7_allows_1 ?_
  refine lv_aload_n hx hb dX7_allows_4 rfl (lv_at hl 0 rfl) ?_
  refine va_get (D := (dC, dI)) (ci := 6) (v := .int (-1)) (C := RX7) (T := TX7) (N := 3) hx hb hts iwwsX7_allows_7 hown hK hP 0 rfl rfl 1 (by decide) (hts (.fieldLink RX7 9 "NothingJudge$Scene" "start" "I") fwwsX7_allows_9) (fun _ h9 => h9) rfl dX7_allows_5 ?_
  have hPc := hP.sub (ws' := [(g, .inr (3, [.ref gc, .ref ga1, .ref ga2, .ref ga3, .ref ga4, .ref ga5, .ref ga6, .ref ga7, .ref ga8, .int 0, .int 0, .int 0, .int 0, .int (-1)]))]) [1] rfl
  have hDc := hD.sub (ws' := [(g, .inr (3, [.ref gc, .ref ga1, .ref ga2, .ref ga3, .ref ga4, .ref ga5, .ref ga6, .ref ga7, .ref ga8, .int 0, .int 0, .int 0, .int 0, .int (-1)]))]) [1] (by decide) rfl
  have hFc := va_free (wc := [(g, .inr (3, [.ref gc, .ref ga1, .ref ga2, .ref ga3, .ref ga4, .ref ga5, .ref ga6, .ref ga7, .ref ga8, .int 0, .int 0, .int 0, .int 0, .int (-1)]))]) hD hS hA [1] rfl
  refine va_calli (va_runV (As := [.int (-1)]) (rest := []) ⟨hx, hb, hml, hown, hts⟩ (c_has l dC dI cI cB cL cZ (g) (gc) (ga1) (ga2) (ga3) (ga4) (ga5) (ga6) (ga7) (ga8) ((-1)) H.size) (cwV 1 hts gX7_allows_X3_has rfl rfl rfl (by decide +kernel) ⟨Nat.le_of_ble_eq_true rfl, Nat.le_of_ble_eq_true rfl⟩) ⟨cP_fb, va_recv hK hPc (ci := 3) (q0 := 0) rfl rfl, fun U hU hW => cP_pre hPc hK hDc hN U hU hW⟩ rfl rfl hl.1 rfl (lv_room (Nat.le_of_ble_eq_true rfl)) dX7_allows_8 ⟨Nat.le_of_ble_eq_true rfl, Nat.le_of_ble_eq_true rfl⟩) hS (fun q _ h => hFc q h) hFc (fun r_113 u t H1 locs ht hvm hw hB hz1 hk1 hS => ?_)
  obtain ⟨hP1, hD1⟩ := hB
  rw [ht] at hP1
  obtain ⟨hP, hD⟩ := va_join (wr := [(h0, .inr (6, [.ref g, .int (-1), .ref td]))]) (w1 := [(g, .inr (3, [.ref gc, .ref ga1, .ref ga2, .ref ga3, .ref ga4, .ref ga5, .ref ga6, .ref ga7, .ref ga8, .int 0, .int 0, .int 0, .int 0, .int (-1)]))]) hP hD [1] [0] rfl rfl (by decide) (by decide) hk1 hFc hP1 hD1
  generalize H1 = H at hP hS ⊢
  have hP : va_P (dC, dI) vwCl [(h0, .inr (6, [.ref g, .int (-1), .ref td])), (g, .inr (3, [.ref gc, .ref ga1, .ref ga2, .ref ga3, .ref ga4, .ref ga5, .ref ga6, .ref ga7, .ref ga8, .int 0, .int 0, .int 0, .int 0, .int (-1)]))] H := hP
  have hD : va_D A [(h0, .inr (6, [.ref g, .int (-1), .ref td])), (g, .inr (3, [.ref gc, .ref ga1, .ref ga2, .ref ga3, .ref ga4, .ref ga5, .ref ga6, .ref ga7, .ref ga8, .int 0, .int 0, .int 0, .int 0, .int (-1)]))] := hD
  obtain rfl : r_113 = 0 := hw
  refine lv_if_eq (tgt := 28) hx hb dX7_allows_11 (by decide) (fun _ => ?_) (fun c9 => absurd (by decide) c9)
  refine lv_iconst (v := 0) hx hb dX7_allows_28 (by decide) ?_
  have hP9 := hP.sub (ws' := []) [] rfl
  have hD9 := hD.sub (ws' := []) [] (by decide) rfl
  exact W.zret (v := 0) (ty := .boolean) hx hb hr rfl (fun t ht hW => ⟨⟨0, (), rfl, rfl, by rw [ht]; exact hP9, hD9⟩, hS.F ht⟩) hS.2.2 dX7_allows_29

set_option maxHeartbeats 4000000 in
set_option maxRecDepth 100000 in
theorem c_startAt (l : Launch) (dC : Nat → ClassId) (dI : Nat → Nat → Nat) (cI cB cL cZ : ClassId) (h0 : Nat) (g : Nat) (td : Nat) (f : Nat → Int32) (sz : Nat)  : Met l yX7_startAt wsX7_startAt ({ frames := 1, cells := 0, slots := 0, locals := 23 }) (cP (dC, dI) (kTy cI cB cL cZ) [.ref h0, .int (-1)] [(h0, .inr (6, [.ref g, .int (-1), .ref td])), (td, .inl (cI, 4, .inl f))] sz) (va_Qv (fun _ : Unit => True) (fun (_ : Unit) (t : State) => va_P (dC, dI) vwCl [(h0, .inr (6, [.ref g, .int (-1), .ref td]))] t.heap ∧ va_D (va_A [(h0, .inr (6, [.ref g, .int (-1), .ref td])), (td, .inl (cI, 4, .inl f))] sz) [(h0, .inr (6, [.ref g, .int (-1), .ref td]))]) (va_A [(h0, .inr (6, [.ref g, .int (-1), .ref td])), (td, .inl (cI, 4, .inl f))] sz)) 0 0 (va_A [(h0, .inr (6, [.ref g, .int (-1), .ref td])), (td, .inl (cI, 4, .inl f))] sz) := by
  refine Met.ofW (cc := cX7_startAt) (maxL := 2) (ret := none) (by decide) rfl ?_
  intro p e s m args below meth c s₁ B hml hv
  obtain ⟨rfl, hsz, hP, hK, hD0, hN⟩ := hv
  have hx := B.exec
  have hb := B.bytes
  have hr := B.returns
  have hts := atoms_spec (ws := wsX7_startAt) B.pre
  have hown : s.vm.findClass RX7 = some m.cls := findClass_of_methodNamed B.named
  have hlocks := B.notSynchronized
  subst hsz
  have hD := hD0.self (sz := s.heap.size)
  generalize hAe : va_A [(h0, .inr (6, [.ref g, .int (-1), .ref td])), (td, .inl (cI, 4, .inl f))] s.heap.size = A at hD ⊢
  have hA : ∀ q : Nat, s.heap.size ≤ q → A q := fun q h => by rw [← hAe]; exact Or.inr h
  have hl := lv_entry ([.ref h0, .int (-1)]) (n := 2) (Nat.le_of_ble_eq_true rfl)
  rw [lg_entry_eq]
  generalize (lg_sl ([.ref h0, .int (-1)]) ++ List.replicate (2 - (lg_sl ([.ref h0, .int (-1)])).length) Slot.unset).toArray = ls at hl ⊢
  have hl : lv_has ls 2 [(0, .ref h0), (1, .int (-1))] := hl
  refine k_H (A := A) hP (fun H hP hS => ?_)
  have hP : va_P (dC, dI) vwCl [(h0, .inr (6, [.ref g, .int (-1), .ref td])), (td, .inl (cI, 4, .inl f))] H := hP
  have hD : va_D A [(h0, .inr (6, [.ref g, .int (-1), .ref td])), (td, .inl (cI, 4, .inl f))] := hD
  refine lv_aload_n hx hb dX7_startAt_0 rfl (lv_at hl 0 rfl) ?_
  refine lv_iload_n hx hb dX7_startAt_1 rfl (lv_at hl 1 rfl) ?_
  refine va_put (D := (dC, dI)) (ci := 6) (v := .int (-1)) (ty := .int) (C := RX7) (T := TX7) (N := 3) hx hb hts iwwsX7_startAt_7 tyX7 tyX7_ok nmX7 hown hK hP hD hS 0 rfl rfl 1 (by decide) (hts (.fieldLink RX7 9 "NothingJudge$Scene" "start" "I") fwwsX7_startAt_9) (fun _ h9 => h9) rfl (by decide +kernel) rfl rfl (Nat.le_of_ble_eq_true rfl) dX7_startAt_2 (fun H locs hP hD hS => ?_)
  have hP : va_P (dC, dI) vwCl [(h0, .inr (6, [.ref g, .int (-1), .ref td])), (td, .inl (cI, 4, .inl f))] H := hP
  have hD : va_D A [(h0, .inr (6, [.ref g, .int (-1), .ref td])), (td, .inl (cI, 4, .inl f))] := hD
  refine lv_aload_n hx hb dX7_startAt_5 rfl (lv_at hl 0 rfl) ?_
  refine va_get (D := (dC, dI)) (ci := 6) (v := .ref td) (C := RX7) (T := TX7) (N := 3) hx hb hts iwwsX7_startAt_7 hown hK hP 0 rfl rfl 2 (by decide) (hts (.fieldLink RX7 15 "NothingJudge$Scene" "told" "[I") fwwsX7_startAt_15) (fun _ h9 => h9) rfl dX7_startAt_6 ?_
  refine lv_iconst (v := 3) hx hb dX7_startAt_9 (by decide) ?_
  have hPc := hP.sub (ws' := [(td, .inl (cI, 4, .inl f))]) [1] rfl
  have hDc := hD.sub (ws' := [(td, .inl (cI, 4, .inl f))]) [1] (by decide) rfl
  have hFc := va_free (wc := [(td, .inl (cI, 4, .inl f))]) hD hS hA [1] rfl
  refine va_callv (va_runS (As := [.ref td, .int 3]) (rest := []) ⟨hx, hb, hml, hown, hts⟩ (c_fillI l dC dI cI cB cL cZ (td) (3) (f) (4) H.size (by decide)) (va_cwS 2 hts gX7_startAt_J7_fill_53178 rfl rfl rfl (by decide +kernel) ⟨Nat.le_of_ble_eq_true rfl, Nat.le_of_ble_eq_true rfl⟩) ⟨cP_fb, fun U hU hW => cP_pre hPc hK hDc hN U hU hW⟩ rfl rfl hl.1 rfl (lv_room (Nat.le_of_ble_eq_true rfl)) dX7_startAt_10 ⟨Nat.le_of_ble_eq_true rfl, Nat.le_of_ble_eq_true rfl⟩) hS (fun q _ h => hFc q h) hFc (fun u t H1 locs ht hvm hw hB hz1 hk1 hS => ?_)
  obtain ⟨f_114, hf_115, hP1, hD1⟩ := hB
  rw [ht] at hP1
  obtain ⟨hP, hD⟩ := va_join (wr := [(h0, .inr (6, [.ref g, .int (-1), .ref td]))]) (w1 := [(td, .inl (cI, 4, .inl f_114))]) hP hD [1] [0] rfl rfl (by decide) (by decide) hk1 hFc hP1 hD1
  generalize H1 = H at hP hS ⊢
  have hP : va_P (dC, dI) vwCl [(h0, .inr (6, [.ref g, .int (-1), .ref td])), (td, .inl (cI, 4, .inl f_114))] H := hP
  have hD : va_D A [(h0, .inr (6, [.ref g, .int (-1), .ref td])), (td, .inl (cI, 4, .inl f_114))] := hD
  have hP9 := hP.sub (ws' := [(h0, .inr (6, [.ref g, .int (-1), .ref td]))]) [0] rfl
  have hD9 := hD.sub (ws' := [(h0, .inr (6, [.ref g, .int (-1), .ref td]))]) [0] (by decide) rfl
  exact W.vret hx hb hr (fun t ht hW => ⟨⟨(), rfl, trivial, by rw [ht]; exact hP9, hD9⟩, hS.F ht⟩) hS.2.2 dX7_startAt_13

set_option maxHeartbeats 4000000 in
set_option maxRecDepth 100000 in
theorem c_putNumber0 (l : Launch) (dC : Nat → ClassId) (dI : Nat → Nat → Nat) (cI cB cL cZ : ClassId) (h0 : Nat) (tp : Nat) (tok : Nat) (sp : Nat) (rdr : Nat) (scn : Nat) (fct : Nat) (rnr : Nat) (trl : Nat) (mnd : Nat) (rrw : Nat) (n : Int32) (f : Nat → Int32) (sz : Nat)  : Met l yX10_putNumber wsX10_putNumber ({ frames := 0, cells := 0, slots := 0, locals := 0 }) (cP (dC, dI) (kTy cI cB cL cZ) [.ref h0, .int n] [(h0, .inr (9, [.ref tp, .int 0, .ref tok, .ref sp, .ref rdr, .int 0, .int (-1), .ref scn, .ref fct, .ref rnr, .ref trl, .ref mnd, .ref rrw])), (tp, .inl (cB, 1200, .inl f))] sz) (va_Qv (fun _ : Unit => True) (fun (_ : Unit) (t : State) => ∃ fz0 : Nat → Int32, va_P (dC, dI) vwCl [(h0, .inr (9, [.ref tp, .int 4, .ref tok, .ref sp, .ref rdr, .int 0, .int (-1), .ref scn, .ref fct, .ref rnr, .ref trl, .ref mnd, .ref rrw])), (tp, .inl (cB, 1200, .inl fz0))] t.heap ∧ va_D (va_A [(h0, .inr (9, [.ref tp, .int 0, .ref tok, .ref sp, .ref rdr, .int 0, .int (-1), .ref scn, .ref fct, .ref rnr, .ref trl, .ref mnd, .ref rrw])), (tp, .inl (cB, 1200, .inl f))] sz) [(h0, .inr (9, [.ref tp, .int 4, .ref tok, .ref sp, .ref rdr, .int 0, .int (-1), .ref scn, .ref fct, .ref rnr, .ref trl, .ref mnd, .ref rrw])), (tp, .inl (cB, 1200, .inl fz0))]) (va_A [(h0, .inr (9, [.ref tp, .int 0, .ref tok, .ref sp, .ref rdr, .int 0, .int (-1), .ref scn, .ref fct, .ref rnr, .ref trl, .ref mnd, .ref rrw])), (tp, .inl (cB, 1200, .inl f))] sz)) 0 0 (va_A [(h0, .inr (9, [.ref tp, .int 0, .ref tok, .ref sp, .ref rdr, .int 0, .int (-1), .ref scn, .ref fct, .ref rnr, .ref trl, .ref mnd, .ref rrw])), (tp, .inl (cB, 1200, .inl f))] sz) := by
  refine Met.ofW (cc := cX10_putNumber) (maxL := 3) (ret := none) (by decide) rfl ?_
  intro p e s m args below meth c s₁ B hml hv
  obtain ⟨rfl, hsz, hP, hK, hD0, hN⟩ := hv
  have hx := B.exec
  have hb := B.bytes
  have hr := B.returns
  have hts := atoms_spec (ws := wsX10_putNumber) B.pre
  have hown : s.vm.findClass RX10 = some m.cls := findClass_of_methodNamed B.named
  have hlocks := B.notSynchronized
  subst hsz
  have hD := hD0.self (sz := s.heap.size)
  generalize hAe : va_A [(h0, .inr (9, [.ref tp, .int 0, .ref tok, .ref sp, .ref rdr, .int 0, .int (-1), .ref scn, .ref fct, .ref rnr, .ref trl, .ref mnd, .ref rrw])), (tp, .inl (cB, 1200, .inl f))] s.heap.size = A at hD ⊢
  have hA : ∀ q : Nat, s.heap.size ≤ q → A q := fun q h => by rw [← hAe]; exact Or.inr h
  have hl := lv_entry ([.ref h0, .int n]) (n := 3) (Nat.le_of_ble_eq_true rfl)
  rw [lg_entry_eq]
  generalize (lg_sl ([.ref h0, .int n]) ++ List.replicate (3 - (lg_sl ([.ref h0, .int n])).length) Slot.unset).toArray = ls at hl ⊢
  have hl : lv_has ls 3 [(0, .ref h0), (1, .int n)] := hl
  refine k_H (A := A) hP (fun H hP hS => ?_)
  have hP : va_P (dC, dI) vwCl [(h0, .inr (9, [.ref tp, .int 0, .ref tok, .ref sp, .ref rdr, .int 0, .int (-1), .ref scn, .ref fct, .ref rnr, .ref trl, .ref mnd, .ref rrw])), (tp, .inl (cB, 1200, .inl f))] H := hP
  have hD : va_D A [(h0, .inr (9, [.ref tp, .int 0, .ref tok, .ref sp, .ref rdr, .int 0, .int (-1), .ref scn, .ref fct, .ref rnr, .ref trl, .ref mnd, .ref rrw])), (tp, .inl (cB, 1200, .inl f))] := hD
  refine lv_bipush (v := 24) hx hb dX10_putNumber_0 (by decide) ?_
  refine lv_istore_n (lv' := [(2, .int 24), (0, .ref h0), (1, .int n)]) hx hb dX10_putNumber_2 rfl hl (by decide) rfl (fun ls hl => ?_)
  refine lv_iload_n hx hb dX10_putNumber_3 rfl (lv_at hl 0 rfl) ?_
  refine lv_if_lt (tgt := 55) hx hb dX10_putNumber_4 (by decide) (fun c9 => absurd c9 (by decide)) (fun _ => ?_)
  refine lv_aload_n hx hb dX10_putNumber_7 rfl (lv_at hl 1 rfl) ?_
  refine va_get (D := (dC, dI)) (ci := 9) (v := .int 0) (C := RX10) (T := TX10) (N := 13) hx hb hts iwwsX10_putNumber_10 hown hK hP 0 rfl rfl 1 (by decide) (hts (.fieldLink RX10 87 "NothingJudge" "taped" "I") fwwsX10_putNumber_87) (fun _ h9 => h9) rfl dX10_putNumber_8 ?_
  refine lv_if_lt (tgt := 49) hx hb dX10_putNumber_11 (by decide) (fun c9 => absurd c9 (by decide)) (fun _ => ?_)
  refine lv_aload_n hx hb dX10_putNumber_14 rfl (lv_at hl 1 rfl) ?_
  refine va_get (D := (dC, dI)) (ci := 9) (v := .int 0) (C := RX10) (T := TX10) (N := 13) hx hb hts iwwsX10_putNumber_10 hown hK hP 0 rfl rfl 1 (by decide) (hts (.fieldLink RX10 87 "NothingJudge" "taped" "I") fwwsX10_putNumber_87) (fun _ h9 => h9) rfl dX10_putNumber_15 ?_
  refine lv_aload_n hx hb dX10_putNumber_18 rfl (lv_at hl 1 rfl) ?_
  refine va_get (D := (dC, dI)) (ci := 9) (v := .ref tp) (C := RX10) (T := TX10) (N := 13) hx hb hts iwwsX10_putNumber_10 hown hK hP 0 rfl rfl 0 (by decide) (hts (.fieldLink RX10 9 "NothingJudge" "tape" "[B") fwwsX10_putNumber_9) (fun _ h9 => h9) rfl dX10_putNumber_19 ?_
  refine va_alen hx hb hK hP 1 1 rfl rfl (v := 1200) (by show Int32.ofNat 1200 = 1200; decide) dX10_putNumber_22 ?_
  refine lv_icmp_ge (tgt := 49) hx hb dX10_putNumber_23 (by decide) (fun c9 => absurd c9 (by decide)) (fun _ => ?_)
  refine lv_aload_n hx hb dX10_putNumber_26 rfl (lv_at hl 1 rfl) ?_
  refine va_get (D := (dC, dI)) (ci := 9) (v := .ref tp) (C := RX10) (T := TX10) (N := 13) hx hb hts iwwsX10_putNumber_10 hown hK hP 0 rfl rfl 0 (by decide) (hts (.fieldLink RX10 9 "NothingJudge" "tape" "[B") fwwsX10_putNumber_9) (fun _ h9 => h9) rfl dX10_putNumber_27 ?_
  refine lv_aload_n hx hb dX10_putNumber_30 rfl (lv_at hl 1 rfl) ?_
  refine va_get (D := (dC, dI)) (ci := 9) (v := .int 0) (C := RX10) (T := TX10) (N := 13) hx hb hts iwwsX10_putNumber_10 hown hK hP 0 rfl rfl 1 (by decide) (hts (.fieldLink RX10 87 "NothingJudge" "taped" "I") fwwsX10_putNumber_87) (fun _ h9 => h9) rfl dX10_putNumber_31 ?_
  refine lv_iload_n hx hb dX10_putNumber_34 rfl (lv_at hl 2 rfl) ?_
  refine lv_iload_n hx hb dX10_putNumber_35 rfl (lv_at hl 0 rfl) ?_
  refine lv_ishr hx hb dX10_putNumber_36 ?_
  refine lv_topi (fun v_117 ev_117 => ?_)
  refine lv_i2b (v := v_117.toInt8.toInt32) hx hb dX10_putNumber_37 rfl ?_
  refine lv_topi (fun v_118 ev_118 => ?_)
  refine va_bast hx hb hK hP hD hS 1 1 rfl rfl (by unfold vp_in; decide) dX10_putNumber_38 (fun H locs hP hD hS => ?_)
  obtain ⟨f_119, ef_119⟩ : ∃ z, z = upd f (0 : Int32).toNatClampNeg (vp_nar .byte v_118) := ⟨_, rfl⟩
  have hP : va_P (dC, dI) vwCl [(h0, .inr (9, [.ref tp, .int 0, .ref tok, .ref sp, .ref rdr, .int 0, .int (-1), .ref scn, .ref fct, .ref rnr, .ref trl, .ref mnd, .ref rrw])), (tp, .inl (cB, 1200, .inl f_119))] H := by rw [ef_119]; exact hP
  have hD : va_D A [(h0, .inr (9, [.ref tp, .int 0, .ref tok, .ref sp, .ref rdr, .int 0, .int (-1), .ref scn, .ref fct, .ref rnr, .ref trl, .ref mnd, .ref rrw])), (tp, .inl (cB, 1200, .inl f_119))] := by rw [ef_119]; exact hD
  refine lv_aload_n hx hb dX10_putNumber_39 rfl (lv_at hl 1 rfl) ?_
  refine lv_dup hx hb dX10_putNumber_40 rfl ?_
  refine va_get (D := (dC, dI)) (ci := 9) (v := .int 0) (C := RX10) (T := TX10) (N := 13) hx hb hts iwwsX10_putNumber_10 hown hK hP 0 rfl rfl 1 (by decide) (hts (.fieldLink RX10 87 "NothingJudge" "taped" "I") fwwsX10_putNumber_87) (fun _ h9 => h9) rfl dX10_putNumber_41 ?_
  refine lv_iconst (v := 1) hx hb dX10_putNumber_44 (by decide) ?_
  refine lv_iadd hx hb dX10_putNumber_45 ?_
  refine lv_topi (fun y_120 ey_120 => ?_)
  obtain rfl : y_120 = 1 := ey_120.trans (by decide)
  refine va_put (D := (dC, dI)) (ci := 9) (v := .int 1) (ty := .int) (C := RX10) (T := TX10) (N := 13) hx hb hts iwwsX10_putNumber_10 tyX10 tyX10_ok nmX10 hown hK hP hD hS 0 rfl rfl 1 (by decide) (hts (.fieldLink RX10 87 "NothingJudge" "taped" "I") fwwsX10_putNumber_87) (fun _ h9 => h9) rfl (by decide +kernel) rfl rfl (Nat.le_of_ble_eq_true rfl) dX10_putNumber_46 (fun H locs hP hD hS => ?_)
  have hP : va_P (dC, dI) vwCl [(h0, .inr (9, [.ref tp, .int 1, .ref tok, .ref sp, .ref rdr, .int 0, .int (-1), .ref scn, .ref fct, .ref rnr, .ref trl, .ref mnd, .ref rrw])), (tp, .inl (cB, 1200, .inl f_119))] H := hP
  have hD : va_D A [(h0, .inr (9, [.ref tp, .int 1, .ref tok, .ref sp, .ref rdr, .int 0, .int (-1), .ref scn, .ref fct, .ref rnr, .ref trl, .ref mnd, .ref rrw])), (tp, .inl (cB, 1200, .inl f_119))] := hD
  refine lv_iinc (v := 16) (lv' := [(2, .int 16), (0, .ref h0), (1, .int n)]) hx hb dX10_putNumber_49 hl (k := 0) rfl (by decide) (by decide) rfl (fun ls hl => ?_)
  refine lv_goto (tgt := 3) hx hb dX10_putNumber_52 (by decide) ?_
  refine lv_iload_n hx hb dX10_putNumber_3 rfl (lv_at hl 0 rfl) ?_
  refine lv_if_lt (tgt := 55) hx hb dX10_putNumber_4 (by decide) (fun c9 => absurd c9 (by decide)) (fun _ => ?_)
  refine lv_aload_n hx hb dX10_putNumber_7 rfl (lv_at hl 1 rfl) ?_
  refine va_get (D := (dC, dI)) (ci := 9) (v := .int 1) (C := RX10) (T := TX10) (N := 13) hx hb hts iwwsX10_putNumber_10 hown hK hP 0 rfl rfl 1 (by decide) (hts (.fieldLink RX10 87 "NothingJudge" "taped" "I") fwwsX10_putNumber_87) (fun _ h9 => h9) rfl dX10_putNumber_8 ?_
  refine lv_if_lt (tgt := 49) hx hb dX10_putNumber_11 (by decide) (fun c9 => absurd c9 (by decide)) (fun _ => ?_)
  refine lv_aload_n hx hb dX10_putNumber_14 rfl (lv_at hl 1 rfl) ?_
  refine va_get (D := (dC, dI)) (ci := 9) (v := .int 1) (C := RX10) (T := TX10) (N := 13) hx hb hts iwwsX10_putNumber_10 hown hK hP 0 rfl rfl 1 (by decide) (hts (.fieldLink RX10 87 "NothingJudge" "taped" "I") fwwsX10_putNumber_87) (fun _ h9 => h9) rfl dX10_putNumber_15 ?_
  refine lv_aload_n hx hb dX10_putNumber_18 rfl (lv_at hl 1 rfl) ?_
  refine va_get (D := (dC, dI)) (ci := 9) (v := .ref tp) (C := RX10) (T := TX10) (N := 13) hx hb hts iwwsX10_putNumber_10 hown hK hP 0 rfl rfl 0 (by decide) (hts (.fieldLink RX10 9 "NothingJudge" "tape" "[B") fwwsX10_putNumber_9) (fun _ h9 => h9) rfl dX10_putNumber_19 ?_
  refine va_alen hx hb hK hP 1 1 rfl rfl (v := 1200) (by show Int32.ofNat 1200 = 1200; decide) dX10_putNumber_22 ?_
  refine lv_icmp_ge (tgt := 49) hx hb dX10_putNumber_23 (by decide) (fun c9 => absurd c9 (by decide)) (fun _ => ?_)
  refine lv_aload_n hx hb dX10_putNumber_26 rfl (lv_at hl 1 rfl) ?_
  refine va_get (D := (dC, dI)) (ci := 9) (v := .ref tp) (C := RX10) (T := TX10) (N := 13) hx hb hts iwwsX10_putNumber_10 hown hK hP 0 rfl rfl 0 (by decide) (hts (.fieldLink RX10 9 "NothingJudge" "tape" "[B") fwwsX10_putNumber_9) (fun _ h9 => h9) rfl dX10_putNumber_27 ?_
  refine lv_aload_n hx hb dX10_putNumber_30 rfl (lv_at hl 1 rfl) ?_
  refine va_get (D := (dC, dI)) (ci := 9) (v := .int 1) (C := RX10) (T := TX10) (N := 13) hx hb hts iwwsX10_putNumber_10 hown hK hP 0 rfl rfl 1 (by decide) (hts (.fieldLink RX10 87 "NothingJudge" "taped" "I") fwwsX10_putNumber_87) (fun _ h9 => h9) rfl dX10_putNumber_31 ?_
  refine lv_iload_n hx hb dX10_putNumber_34 rfl (lv_at hl 2 rfl) ?_
  refine lv_iload_n hx hb dX10_putNumber_35 rfl (lv_at hl 0 rfl) ?_
  refine lv_ishr hx hb dX10_putNumber_36 ?_
  refine lv_topi (fun v_121 ev_121 => ?_)
  refine lv_i2b (v := v_121.toInt8.toInt32) hx hb dX10_putNumber_37 rfl ?_
  refine lv_topi (fun v_122 ev_122 => ?_)
  refine va_bast hx hb hK hP hD hS 1 1 rfl rfl (by unfold vp_in; decide) dX10_putNumber_38 (fun H locs hP hD hS => ?_)
  obtain ⟨f_123, ef_123⟩ : ∃ z, z = upd f_119 (1 : Int32).toNatClampNeg (vp_nar .byte v_122) := ⟨_, rfl⟩
  have hP : va_P (dC, dI) vwCl [(h0, .inr (9, [.ref tp, .int 1, .ref tok, .ref sp, .ref rdr, .int 0, .int (-1), .ref scn, .ref fct, .ref rnr, .ref trl, .ref mnd, .ref rrw])), (tp, .inl (cB, 1200, .inl f_123))] H := by rw [ef_123]; exact hP
  have hD : va_D A [(h0, .inr (9, [.ref tp, .int 1, .ref tok, .ref sp, .ref rdr, .int 0, .int (-1), .ref scn, .ref fct, .ref rnr, .ref trl, .ref mnd, .ref rrw])), (tp, .inl (cB, 1200, .inl f_123))] := by rw [ef_123]; exact hD
  refine lv_aload_n hx hb dX10_putNumber_39 rfl (lv_at hl 1 rfl) ?_
  refine lv_dup hx hb dX10_putNumber_40 rfl ?_
  refine va_get (D := (dC, dI)) (ci := 9) (v := .int 1) (C := RX10) (T := TX10) (N := 13) hx hb hts iwwsX10_putNumber_10 hown hK hP 0 rfl rfl 1 (by decide) (hts (.fieldLink RX10 87 "NothingJudge" "taped" "I") fwwsX10_putNumber_87) (fun _ h9 => h9) rfl dX10_putNumber_41 ?_
  refine lv_iconst (v := 1) hx hb dX10_putNumber_44 (by decide) ?_
  refine lv_iadd hx hb dX10_putNumber_45 ?_
  refine lv_topi (fun y_124 ey_124 => ?_)
  obtain rfl : y_124 = 2 := ey_124.trans (by decide)
  refine va_put (D := (dC, dI)) (ci := 9) (v := .int 2) (ty := .int) (C := RX10) (T := TX10) (N := 13) hx hb hts iwwsX10_putNumber_10 tyX10 tyX10_ok nmX10 hown hK hP hD hS 0 rfl rfl 1 (by decide) (hts (.fieldLink RX10 87 "NothingJudge" "taped" "I") fwwsX10_putNumber_87) (fun _ h9 => h9) rfl (by decide +kernel) rfl rfl (Nat.le_of_ble_eq_true rfl) dX10_putNumber_46 (fun H locs hP hD hS => ?_)
  have hP : va_P (dC, dI) vwCl [(h0, .inr (9, [.ref tp, .int 2, .ref tok, .ref sp, .ref rdr, .int 0, .int (-1), .ref scn, .ref fct, .ref rnr, .ref trl, .ref mnd, .ref rrw])), (tp, .inl (cB, 1200, .inl f_123))] H := hP
  have hD : va_D A [(h0, .inr (9, [.ref tp, .int 2, .ref tok, .ref sp, .ref rdr, .int 0, .int (-1), .ref scn, .ref fct, .ref rnr, .ref trl, .ref mnd, .ref rrw])), (tp, .inl (cB, 1200, .inl f_123))] := hD
  refine lv_iinc (v := 8) (lv' := [(2, .int 8), (0, .ref h0), (1, .int n)]) hx hb dX10_putNumber_49 hl (k := 0) rfl (by decide) (by decide) rfl (fun ls hl => ?_)
  refine lv_goto (tgt := 3) hx hb dX10_putNumber_52 (by decide) ?_
  refine lv_iload_n hx hb dX10_putNumber_3 rfl (lv_at hl 0 rfl) ?_
  refine lv_if_lt (tgt := 55) hx hb dX10_putNumber_4 (by decide) (fun c9 => absurd c9 (by decide)) (fun _ => ?_)
  refine lv_aload_n hx hb dX10_putNumber_7 rfl (lv_at hl 1 rfl) ?_
  refine va_get (D := (dC, dI)) (ci := 9) (v := .int 2) (C := RX10) (T := TX10) (N := 13) hx hb hts iwwsX10_putNumber_10 hown hK hP 0 rfl rfl 1 (by decide) (hts (.fieldLink RX10 87 "NothingJudge" "taped" "I") fwwsX10_putNumber_87) (fun _ h9 => h9) rfl dX10_putNumber_8 ?_
  refine lv_if_lt (tgt := 49) hx hb dX10_putNumber_11 (by decide) (fun c9 => absurd c9 (by decide)) (fun _ => ?_)
  refine lv_aload_n hx hb dX10_putNumber_14 rfl (lv_at hl 1 rfl) ?_
  refine va_get (D := (dC, dI)) (ci := 9) (v := .int 2) (C := RX10) (T := TX10) (N := 13) hx hb hts iwwsX10_putNumber_10 hown hK hP 0 rfl rfl 1 (by decide) (hts (.fieldLink RX10 87 "NothingJudge" "taped" "I") fwwsX10_putNumber_87) (fun _ h9 => h9) rfl dX10_putNumber_15 ?_
  refine lv_aload_n hx hb dX10_putNumber_18 rfl (lv_at hl 1 rfl) ?_
  refine va_get (D := (dC, dI)) (ci := 9) (v := .ref tp) (C := RX10) (T := TX10) (N := 13) hx hb hts iwwsX10_putNumber_10 hown hK hP 0 rfl rfl 0 (by decide) (hts (.fieldLink RX10 9 "NothingJudge" "tape" "[B") fwwsX10_putNumber_9) (fun _ h9 => h9) rfl dX10_putNumber_19 ?_
  refine va_alen hx hb hK hP 1 1 rfl rfl (v := 1200) (by show Int32.ofNat 1200 = 1200; decide) dX10_putNumber_22 ?_
  refine lv_icmp_ge (tgt := 49) hx hb dX10_putNumber_23 (by decide) (fun c9 => absurd c9 (by decide)) (fun _ => ?_)
  refine lv_aload_n hx hb dX10_putNumber_26 rfl (lv_at hl 1 rfl) ?_
  refine va_get (D := (dC, dI)) (ci := 9) (v := .ref tp) (C := RX10) (T := TX10) (N := 13) hx hb hts iwwsX10_putNumber_10 hown hK hP 0 rfl rfl 0 (by decide) (hts (.fieldLink RX10 9 "NothingJudge" "tape" "[B") fwwsX10_putNumber_9) (fun _ h9 => h9) rfl dX10_putNumber_27 ?_
  refine lv_aload_n hx hb dX10_putNumber_30 rfl (lv_at hl 1 rfl) ?_
  refine va_get (D := (dC, dI)) (ci := 9) (v := .int 2) (C := RX10) (T := TX10) (N := 13) hx hb hts iwwsX10_putNumber_10 hown hK hP 0 rfl rfl 1 (by decide) (hts (.fieldLink RX10 87 "NothingJudge" "taped" "I") fwwsX10_putNumber_87) (fun _ h9 => h9) rfl dX10_putNumber_31 ?_
  refine lv_iload_n hx hb dX10_putNumber_34 rfl (lv_at hl 2 rfl) ?_
  refine lv_iload_n hx hb dX10_putNumber_35 rfl (lv_at hl 0 rfl) ?_
  refine lv_ishr hx hb dX10_putNumber_36 ?_
  refine lv_topi (fun v_125 ev_125 => ?_)
  refine lv_i2b (v := v_125.toInt8.toInt32) hx hb dX10_putNumber_37 rfl ?_
  refine lv_topi (fun v_126 ev_126 => ?_)
  refine va_bast hx hb hK hP hD hS 1 1 rfl rfl (by unfold vp_in; decide) dX10_putNumber_38 (fun H locs hP hD hS => ?_)
  obtain ⟨f_127, ef_127⟩ : ∃ z, z = upd f_123 (2 : Int32).toNatClampNeg (vp_nar .byte v_126) := ⟨_, rfl⟩
  have hP : va_P (dC, dI) vwCl [(h0, .inr (9, [.ref tp, .int 2, .ref tok, .ref sp, .ref rdr, .int 0, .int (-1), .ref scn, .ref fct, .ref rnr, .ref trl, .ref mnd, .ref rrw])), (tp, .inl (cB, 1200, .inl f_127))] H := by rw [ef_127]; exact hP
  have hD : va_D A [(h0, .inr (9, [.ref tp, .int 2, .ref tok, .ref sp, .ref rdr, .int 0, .int (-1), .ref scn, .ref fct, .ref rnr, .ref trl, .ref mnd, .ref rrw])), (tp, .inl (cB, 1200, .inl f_127))] := by rw [ef_127]; exact hD
  refine lv_aload_n hx hb dX10_putNumber_39 rfl (lv_at hl 1 rfl) ?_
  refine lv_dup hx hb dX10_putNumber_40 rfl ?_
  refine va_get (D := (dC, dI)) (ci := 9) (v := .int 2) (C := RX10) (T := TX10) (N := 13) hx hb hts iwwsX10_putNumber_10 hown hK hP 0 rfl rfl 1 (by decide) (hts (.fieldLink RX10 87 "NothingJudge" "taped" "I") fwwsX10_putNumber_87) (fun _ h9 => h9) rfl dX10_putNumber_41 ?_
  refine lv_iconst (v := 1) hx hb dX10_putNumber_44 (by decide) ?_
  refine lv_iadd hx hb dX10_putNumber_45 ?_
  refine lv_topi (fun y_128 ey_128 => ?_)
  obtain rfl : y_128 = 3 := ey_128.trans (by decide)
  refine va_put (D := (dC, dI)) (ci := 9) (v := .int 3) (ty := .int) (C := RX10) (T := TX10) (N := 13) hx hb hts iwwsX10_putNumber_10 tyX10 tyX10_ok nmX10 hown hK hP hD hS 0 rfl rfl 1 (by decide) (hts (.fieldLink RX10 87 "NothingJudge" "taped" "I") fwwsX10_putNumber_87) (fun _ h9 => h9) rfl (by decide +kernel) rfl rfl (Nat.le_of_ble_eq_true rfl) dX10_putNumber_46 (fun H locs hP hD hS => ?_)
  have hP : va_P (dC, dI) vwCl [(h0, .inr (9, [.ref tp, .int 3, .ref tok, .ref sp, .ref rdr, .int 0, .int (-1), .ref scn, .ref fct, .ref rnr, .ref trl, .ref mnd, .ref rrw])), (tp, .inl (cB, 1200, .inl f_127))] H := hP
  have hD : va_D A [(h0, .inr (9, [.ref tp, .int 3, .ref tok, .ref sp, .ref rdr, .int 0, .int (-1), .ref scn, .ref fct, .ref rnr, .ref trl, .ref mnd, .ref rrw])), (tp, .inl (cB, 1200, .inl f_127))] := hD
  refine lv_iinc (v := 0) (lv' := [(2, .int 0), (0, .ref h0), (1, .int n)]) hx hb dX10_putNumber_49 hl (k := 0) rfl (by decide) (by decide) rfl (fun ls hl => ?_)
  refine lv_goto (tgt := 3) hx hb dX10_putNumber_52 (by decide) ?_
  refine lv_iload_n hx hb dX10_putNumber_3 rfl (lv_at hl 0 rfl) ?_
  refine lv_if_lt (tgt := 55) hx hb dX10_putNumber_4 (by decide) (fun c9 => absurd c9 (by decide)) (fun _ => ?_)
  refine lv_aload_n hx hb dX10_putNumber_7 rfl (lv_at hl 1 rfl) ?_
  refine va_get (D := (dC, dI)) (ci := 9) (v := .int 3) (C := RX10) (T := TX10) (N := 13) hx hb hts iwwsX10_putNumber_10 hown hK hP 0 rfl rfl 1 (by decide) (hts (.fieldLink RX10 87 "NothingJudge" "taped" "I") fwwsX10_putNumber_87) (fun _ h9 => h9) rfl dX10_putNumber_8 ?_
  refine lv_if_lt (tgt := 49) hx hb dX10_putNumber_11 (by decide) (fun c9 => absurd c9 (by decide)) (fun _ => ?_)
  refine lv_aload_n hx hb dX10_putNumber_14 rfl (lv_at hl 1 rfl) ?_
  refine va_get (D := (dC, dI)) (ci := 9) (v := .int 3) (C := RX10) (T := TX10) (N := 13) hx hb hts iwwsX10_putNumber_10 hown hK hP 0 rfl rfl 1 (by decide) (hts (.fieldLink RX10 87 "NothingJudge" "taped" "I") fwwsX10_putNumber_87) (fun _ h9 => h9) rfl dX10_putNumber_15 ?_
  refine lv_aload_n hx hb dX10_putNumber_18 rfl (lv_at hl 1 rfl) ?_
  refine va_get (D := (dC, dI)) (ci := 9) (v := .ref tp) (C := RX10) (T := TX10) (N := 13) hx hb hts iwwsX10_putNumber_10 hown hK hP 0 rfl rfl 0 (by decide) (hts (.fieldLink RX10 9 "NothingJudge" "tape" "[B") fwwsX10_putNumber_9) (fun _ h9 => h9) rfl dX10_putNumber_19 ?_
  refine va_alen hx hb hK hP 1 1 rfl rfl (v := 1200) (by show Int32.ofNat 1200 = 1200; decide) dX10_putNumber_22 ?_
  refine lv_icmp_ge (tgt := 49) hx hb dX10_putNumber_23 (by decide) (fun c9 => absurd c9 (by decide)) (fun _ => ?_)
  refine lv_aload_n hx hb dX10_putNumber_26 rfl (lv_at hl 1 rfl) ?_
  refine va_get (D := (dC, dI)) (ci := 9) (v := .ref tp) (C := RX10) (T := TX10) (N := 13) hx hb hts iwwsX10_putNumber_10 hown hK hP 0 rfl rfl 0 (by decide) (hts (.fieldLink RX10 9 "NothingJudge" "tape" "[B") fwwsX10_putNumber_9) (fun _ h9 => h9) rfl dX10_putNumber_27 ?_
  refine lv_aload_n hx hb dX10_putNumber_30 rfl (lv_at hl 1 rfl) ?_
  refine va_get (D := (dC, dI)) (ci := 9) (v := .int 3) (C := RX10) (T := TX10) (N := 13) hx hb hts iwwsX10_putNumber_10 hown hK hP 0 rfl rfl 1 (by decide) (hts (.fieldLink RX10 87 "NothingJudge" "taped" "I") fwwsX10_putNumber_87) (fun _ h9 => h9) rfl dX10_putNumber_31 ?_
  refine lv_iload_n hx hb dX10_putNumber_34 rfl (lv_at hl 2 rfl) ?_
  refine lv_iload_n hx hb dX10_putNumber_35 rfl (lv_at hl 0 rfl) ?_
  refine lv_ishr hx hb dX10_putNumber_36 ?_
  refine lv_topi (fun v_129 ev_129 => ?_)
  refine lv_i2b (v := v_129.toInt8.toInt32) hx hb dX10_putNumber_37 rfl ?_
  refine lv_topi (fun v_130 ev_130 => ?_)
  refine va_bast hx hb hK hP hD hS 1 1 rfl rfl (by unfold vp_in; decide) dX10_putNumber_38 (fun H locs hP hD hS => ?_)
  obtain ⟨f_131, ef_131⟩ : ∃ z, z = upd f_127 (3 : Int32).toNatClampNeg (vp_nar .byte v_130) := ⟨_, rfl⟩
  have hP : va_P (dC, dI) vwCl [(h0, .inr (9, [.ref tp, .int 3, .ref tok, .ref sp, .ref rdr, .int 0, .int (-1), .ref scn, .ref fct, .ref rnr, .ref trl, .ref mnd, .ref rrw])), (tp, .inl (cB, 1200, .inl f_131))] H := by rw [ef_131]; exact hP
  have hD : va_D A [(h0, .inr (9, [.ref tp, .int 3, .ref tok, .ref sp, .ref rdr, .int 0, .int (-1), .ref scn, .ref fct, .ref rnr, .ref trl, .ref mnd, .ref rrw])), (tp, .inl (cB, 1200, .inl f_131))] := by rw [ef_131]; exact hD
  refine lv_aload_n hx hb dX10_putNumber_39 rfl (lv_at hl 1 rfl) ?_
  refine lv_dup hx hb dX10_putNumber_40 rfl ?_
  refine va_get (D := (dC, dI)) (ci := 9) (v := .int 3) (C := RX10) (T := TX10) (N := 13) hx hb hts iwwsX10_putNumber_10 hown hK hP 0 rfl rfl 1 (by decide) (hts (.fieldLink RX10 87 "NothingJudge" "taped" "I") fwwsX10_putNumber_87) (fun _ h9 => h9) rfl dX10_putNumber_41 ?_
  refine lv_iconst (v := 1) hx hb dX10_putNumber_44 (by decide) ?_
  refine lv_iadd hx hb dX10_putNumber_45 ?_
  refine lv_topi (fun y_132 ey_132 => ?_)
  obtain rfl : y_132 = 4 := ey_132.trans (by decide)
  refine va_put (D := (dC, dI)) (ci := 9) (v := .int 4) (ty := .int) (C := RX10) (T := TX10) (N := 13) hx hb hts iwwsX10_putNumber_10 tyX10 tyX10_ok nmX10 hown hK hP hD hS 0 rfl rfl 1 (by decide) (hts (.fieldLink RX10 87 "NothingJudge" "taped" "I") fwwsX10_putNumber_87) (fun _ h9 => h9) rfl (by decide +kernel) rfl rfl (Nat.le_of_ble_eq_true rfl) dX10_putNumber_46 (fun H locs hP hD hS => ?_)
  have hP : va_P (dC, dI) vwCl [(h0, .inr (9, [.ref tp, .int 4, .ref tok, .ref sp, .ref rdr, .int 0, .int (-1), .ref scn, .ref fct, .ref rnr, .ref trl, .ref mnd, .ref rrw])), (tp, .inl (cB, 1200, .inl f_131))] H := hP
  have hD : va_D A [(h0, .inr (9, [.ref tp, .int 4, .ref tok, .ref sp, .ref rdr, .int 0, .int (-1), .ref scn, .ref fct, .ref rnr, .ref trl, .ref mnd, .ref rrw])), (tp, .inl (cB, 1200, .inl f_131))] := hD
  refine lv_iinc (v := (-8)) (lv' := [(2, .int (-8)), (0, .ref h0), (1, .int n)]) hx hb dX10_putNumber_49 hl (k := 0) rfl (by decide) (by decide) rfl (fun ls hl => ?_)
  refine lv_goto (tgt := 3) hx hb dX10_putNumber_52 (by decide) ?_
  refine lv_iload_n hx hb dX10_putNumber_3 rfl (lv_at hl 0 rfl) ?_
  refine lv_if_lt (tgt := 55) hx hb dX10_putNumber_4 (by decide) (fun _ => ?_) (fun c9 => absurd (by decide) c9)
  have hP9 := hP.sub (ws' := [(h0, .inr (9, [.ref tp, .int 4, .ref tok, .ref sp, .ref rdr, .int 0, .int (-1), .ref scn, .ref fct, .ref rnr, .ref trl, .ref mnd, .ref rrw])), (tp, .inl (cB, 1200, .inl f_131))]) [0, 1] rfl
  have hD9 := hD.sub (ws' := [(h0, .inr (9, [.ref tp, .int 4, .ref tok, .ref sp, .ref rdr, .int 0, .int (-1), .ref scn, .ref fct, .ref rnr, .ref trl, .ref mnd, .ref rrw])), (tp, .inl (cB, 1200, .inl f_131))]) [0, 1] (by decide) rfl
  exact W.vret hx hb hr (fun t ht hW => ⟨⟨(), rfl, trivial, f_131, by rw [ht]; exact hP9, hD9⟩, hS.F ht⟩) hS.2.2 dX10_putNumber_55

set_option maxHeartbeats 4000000 in
set_option maxRecDepth 100000 in
theorem c_putNumber4 (l : Launch) (dC : Nat → ClassId) (dI : Nat → Nat → Nat) (cI cB cL cZ : ClassId) (h0 : Nat) (tp : Nat) (tok : Nat) (sp : Nat) (rdr : Nat) (scn : Nat) (fct : Nat) (rnr : Nat) (trl : Nat) (mnd : Nat) (rrw : Nat) (n : Int32) (f : Nat → Int32) (sz : Nat)  : Met l yX10_putNumber wsX10_putNumber ({ frames := 0, cells := 0, slots := 0, locals := 0 }) (cP (dC, dI) (kTy cI cB cL cZ) [.ref h0, .int n] [(h0, .inr (9, [.ref tp, .int 4, .ref tok, .ref sp, .ref rdr, .int 0, .int (-1), .ref scn, .ref fct, .ref rnr, .ref trl, .ref mnd, .ref rrw])), (tp, .inl (cB, 1200, .inl f))] sz) (va_Qv (fun _ : Unit => True) (fun (_ : Unit) (t : State) => ∃ fz0 : Nat → Int32, va_P (dC, dI) vwCl [(h0, .inr (9, [.ref tp, .int 8, .ref tok, .ref sp, .ref rdr, .int 0, .int (-1), .ref scn, .ref fct, .ref rnr, .ref trl, .ref mnd, .ref rrw])), (tp, .inl (cB, 1200, .inl fz0))] t.heap ∧ va_D (va_A [(h0, .inr (9, [.ref tp, .int 4, .ref tok, .ref sp, .ref rdr, .int 0, .int (-1), .ref scn, .ref fct, .ref rnr, .ref trl, .ref mnd, .ref rrw])), (tp, .inl (cB, 1200, .inl f))] sz) [(h0, .inr (9, [.ref tp, .int 8, .ref tok, .ref sp, .ref rdr, .int 0, .int (-1), .ref scn, .ref fct, .ref rnr, .ref trl, .ref mnd, .ref rrw])), (tp, .inl (cB, 1200, .inl fz0))]) (va_A [(h0, .inr (9, [.ref tp, .int 4, .ref tok, .ref sp, .ref rdr, .int 0, .int (-1), .ref scn, .ref fct, .ref rnr, .ref trl, .ref mnd, .ref rrw])), (tp, .inl (cB, 1200, .inl f))] sz)) 0 0 (va_A [(h0, .inr (9, [.ref tp, .int 4, .ref tok, .ref sp, .ref rdr, .int 0, .int (-1), .ref scn, .ref fct, .ref rnr, .ref trl, .ref mnd, .ref rrw])), (tp, .inl (cB, 1200, .inl f))] sz) := by
  refine Met.ofW (cc := cX10_putNumber) (maxL := 3) (ret := none) (by decide) rfl ?_
  intro p e s m args below meth c s₁ B hml hv
  obtain ⟨rfl, hsz, hP, hK, hD0, hN⟩ := hv
  have hx := B.exec
  have hb := B.bytes
  have hr := B.returns
  have hts := atoms_spec (ws := wsX10_putNumber) B.pre
  have hown : s.vm.findClass RX10 = some m.cls := findClass_of_methodNamed B.named
  have hlocks := B.notSynchronized
  subst hsz
  have hD := hD0.self (sz := s.heap.size)
  generalize hAe : va_A [(h0, .inr (9, [.ref tp, .int 4, .ref tok, .ref sp, .ref rdr, .int 0, .int (-1), .ref scn, .ref fct, .ref rnr, .ref trl, .ref mnd, .ref rrw])), (tp, .inl (cB, 1200, .inl f))] s.heap.size = A at hD ⊢
  have hA : ∀ q : Nat, s.heap.size ≤ q → A q := fun q h => by rw [← hAe]; exact Or.inr h
  have hl := lv_entry ([.ref h0, .int n]) (n := 3) (Nat.le_of_ble_eq_true rfl)
  rw [lg_entry_eq]
  generalize (lg_sl ([.ref h0, .int n]) ++ List.replicate (3 - (lg_sl ([.ref h0, .int n])).length) Slot.unset).toArray = ls at hl ⊢
  have hl : lv_has ls 3 [(0, .ref h0), (1, .int n)] := hl
  refine k_H (A := A) hP (fun H hP hS => ?_)
  have hP : va_P (dC, dI) vwCl [(h0, .inr (9, [.ref tp, .int 4, .ref tok, .ref sp, .ref rdr, .int 0, .int (-1), .ref scn, .ref fct, .ref rnr, .ref trl, .ref mnd, .ref rrw])), (tp, .inl (cB, 1200, .inl f))] H := hP
  have hD : va_D A [(h0, .inr (9, [.ref tp, .int 4, .ref tok, .ref sp, .ref rdr, .int 0, .int (-1), .ref scn, .ref fct, .ref rnr, .ref trl, .ref mnd, .ref rrw])), (tp, .inl (cB, 1200, .inl f))] := hD
  refine lv_bipush (v := 24) hx hb dX10_putNumber_0 (by decide) ?_
  refine lv_istore_n (lv' := [(2, .int 24), (0, .ref h0), (1, .int n)]) hx hb dX10_putNumber_2 rfl hl (by decide) rfl (fun ls hl => ?_)
  refine lv_iload_n hx hb dX10_putNumber_3 rfl (lv_at hl 0 rfl) ?_
  refine lv_if_lt (tgt := 55) hx hb dX10_putNumber_4 (by decide) (fun c9 => absurd c9 (by decide)) (fun _ => ?_)
  refine lv_aload_n hx hb dX10_putNumber_7 rfl (lv_at hl 1 rfl) ?_
  refine va_get (D := (dC, dI)) (ci := 9) (v := .int 4) (C := RX10) (T := TX10) (N := 13) hx hb hts iwwsX10_putNumber_10 hown hK hP 0 rfl rfl 1 (by decide) (hts (.fieldLink RX10 87 "NothingJudge" "taped" "I") fwwsX10_putNumber_87) (fun _ h9 => h9) rfl dX10_putNumber_8 ?_
  refine lv_if_lt (tgt := 49) hx hb dX10_putNumber_11 (by decide) (fun c9 => absurd c9 (by decide)) (fun _ => ?_)
  refine lv_aload_n hx hb dX10_putNumber_14 rfl (lv_at hl 1 rfl) ?_
  refine va_get (D := (dC, dI)) (ci := 9) (v := .int 4) (C := RX10) (T := TX10) (N := 13) hx hb hts iwwsX10_putNumber_10 hown hK hP 0 rfl rfl 1 (by decide) (hts (.fieldLink RX10 87 "NothingJudge" "taped" "I") fwwsX10_putNumber_87) (fun _ h9 => h9) rfl dX10_putNumber_15 ?_
  refine lv_aload_n hx hb dX10_putNumber_18 rfl (lv_at hl 1 rfl) ?_
  refine va_get (D := (dC, dI)) (ci := 9) (v := .ref tp) (C := RX10) (T := TX10) (N := 13) hx hb hts iwwsX10_putNumber_10 hown hK hP 0 rfl rfl 0 (by decide) (hts (.fieldLink RX10 9 "NothingJudge" "tape" "[B") fwwsX10_putNumber_9) (fun _ h9 => h9) rfl dX10_putNumber_19 ?_
  refine va_alen hx hb hK hP 1 1 rfl rfl (v := 1200) (by show Int32.ofNat 1200 = 1200; decide) dX10_putNumber_22 ?_
  refine lv_icmp_ge (tgt := 49) hx hb dX10_putNumber_23 (by decide) (fun c9 => absurd c9 (by decide)) (fun _ => ?_)
  refine lv_aload_n hx hb dX10_putNumber_26 rfl (lv_at hl 1 rfl) ?_
  refine va_get (D := (dC, dI)) (ci := 9) (v := .ref tp) (C := RX10) (T := TX10) (N := 13) hx hb hts iwwsX10_putNumber_10 hown hK hP 0 rfl rfl 0 (by decide) (hts (.fieldLink RX10 9 "NothingJudge" "tape" "[B") fwwsX10_putNumber_9) (fun _ h9 => h9) rfl dX10_putNumber_27 ?_
  refine lv_aload_n hx hb dX10_putNumber_30 rfl (lv_at hl 1 rfl) ?_
  refine va_get (D := (dC, dI)) (ci := 9) (v := .int 4) (C := RX10) (T := TX10) (N := 13) hx hb hts iwwsX10_putNumber_10 hown hK hP 0 rfl rfl 1 (by decide) (hts (.fieldLink RX10 87 "NothingJudge" "taped" "I") fwwsX10_putNumber_87) (fun _ h9 => h9) rfl dX10_putNumber_31 ?_
  refine lv_iload_n hx hb dX10_putNumber_34 rfl (lv_at hl 2 rfl) ?_
  refine lv_iload_n hx hb dX10_putNumber_35 rfl (lv_at hl 0 rfl) ?_
  refine lv_ishr hx hb dX10_putNumber_36 ?_
  refine lv_topi (fun v_133 ev_133 => ?_)
  refine lv_i2b (v := v_133.toInt8.toInt32) hx hb dX10_putNumber_37 rfl ?_
  refine lv_topi (fun v_134 ev_134 => ?_)
  refine va_bast hx hb hK hP hD hS 1 1 rfl rfl (by unfold vp_in; decide) dX10_putNumber_38 (fun H locs hP hD hS => ?_)
  obtain ⟨f_135, ef_135⟩ : ∃ z, z = upd f (4 : Int32).toNatClampNeg (vp_nar .byte v_134) := ⟨_, rfl⟩
  have hP : va_P (dC, dI) vwCl [(h0, .inr (9, [.ref tp, .int 4, .ref tok, .ref sp, .ref rdr, .int 0, .int (-1), .ref scn, .ref fct, .ref rnr, .ref trl, .ref mnd, .ref rrw])), (tp, .inl (cB, 1200, .inl f_135))] H := by rw [ef_135]; exact hP
  have hD : va_D A [(h0, .inr (9, [.ref tp, .int 4, .ref tok, .ref sp, .ref rdr, .int 0, .int (-1), .ref scn, .ref fct, .ref rnr, .ref trl, .ref mnd, .ref rrw])), (tp, .inl (cB, 1200, .inl f_135))] := by rw [ef_135]; exact hD
  refine lv_aload_n hx hb dX10_putNumber_39 rfl (lv_at hl 1 rfl) ?_
  refine lv_dup hx hb dX10_putNumber_40 rfl ?_
  refine va_get (D := (dC, dI)) (ci := 9) (v := .int 4) (C := RX10) (T := TX10) (N := 13) hx hb hts iwwsX10_putNumber_10 hown hK hP 0 rfl rfl 1 (by decide) (hts (.fieldLink RX10 87 "NothingJudge" "taped" "I") fwwsX10_putNumber_87) (fun _ h9 => h9) rfl dX10_putNumber_41 ?_
  refine lv_iconst (v := 1) hx hb dX10_putNumber_44 (by decide) ?_
  refine lv_iadd hx hb dX10_putNumber_45 ?_
  refine lv_topi (fun y_136 ey_136 => ?_)
  obtain rfl : y_136 = 5 := ey_136.trans (by decide)
  refine va_put (D := (dC, dI)) (ci := 9) (v := .int 5) (ty := .int) (C := RX10) (T := TX10) (N := 13) hx hb hts iwwsX10_putNumber_10 tyX10 tyX10_ok nmX10 hown hK hP hD hS 0 rfl rfl 1 (by decide) (hts (.fieldLink RX10 87 "NothingJudge" "taped" "I") fwwsX10_putNumber_87) (fun _ h9 => h9) rfl (by decide +kernel) rfl rfl (Nat.le_of_ble_eq_true rfl) dX10_putNumber_46 (fun H locs hP hD hS => ?_)
  have hP : va_P (dC, dI) vwCl [(h0, .inr (9, [.ref tp, .int 5, .ref tok, .ref sp, .ref rdr, .int 0, .int (-1), .ref scn, .ref fct, .ref rnr, .ref trl, .ref mnd, .ref rrw])), (tp, .inl (cB, 1200, .inl f_135))] H := hP
  have hD : va_D A [(h0, .inr (9, [.ref tp, .int 5, .ref tok, .ref sp, .ref rdr, .int 0, .int (-1), .ref scn, .ref fct, .ref rnr, .ref trl, .ref mnd, .ref rrw])), (tp, .inl (cB, 1200, .inl f_135))] := hD
  refine lv_iinc (v := 16) (lv' := [(2, .int 16), (0, .ref h0), (1, .int n)]) hx hb dX10_putNumber_49 hl (k := 0) rfl (by decide) (by decide) rfl (fun ls hl => ?_)
  refine lv_goto (tgt := 3) hx hb dX10_putNumber_52 (by decide) ?_
  refine lv_iload_n hx hb dX10_putNumber_3 rfl (lv_at hl 0 rfl) ?_
  refine lv_if_lt (tgt := 55) hx hb dX10_putNumber_4 (by decide) (fun c9 => absurd c9 (by decide)) (fun _ => ?_)
  refine lv_aload_n hx hb dX10_putNumber_7 rfl (lv_at hl 1 rfl) ?_
  refine va_get (D := (dC, dI)) (ci := 9) (v := .int 5) (C := RX10) (T := TX10) (N := 13) hx hb hts iwwsX10_putNumber_10 hown hK hP 0 rfl rfl 1 (by decide) (hts (.fieldLink RX10 87 "NothingJudge" "taped" "I") fwwsX10_putNumber_87) (fun _ h9 => h9) rfl dX10_putNumber_8 ?_
  refine lv_if_lt (tgt := 49) hx hb dX10_putNumber_11 (by decide) (fun c9 => absurd c9 (by decide)) (fun _ => ?_)
  refine lv_aload_n hx hb dX10_putNumber_14 rfl (lv_at hl 1 rfl) ?_
  refine va_get (D := (dC, dI)) (ci := 9) (v := .int 5) (C := RX10) (T := TX10) (N := 13) hx hb hts iwwsX10_putNumber_10 hown hK hP 0 rfl rfl 1 (by decide) (hts (.fieldLink RX10 87 "NothingJudge" "taped" "I") fwwsX10_putNumber_87) (fun _ h9 => h9) rfl dX10_putNumber_15 ?_
  refine lv_aload_n hx hb dX10_putNumber_18 rfl (lv_at hl 1 rfl) ?_
  refine va_get (D := (dC, dI)) (ci := 9) (v := .ref tp) (C := RX10) (T := TX10) (N := 13) hx hb hts iwwsX10_putNumber_10 hown hK hP 0 rfl rfl 0 (by decide) (hts (.fieldLink RX10 9 "NothingJudge" "tape" "[B") fwwsX10_putNumber_9) (fun _ h9 => h9) rfl dX10_putNumber_19 ?_
  refine va_alen hx hb hK hP 1 1 rfl rfl (v := 1200) (by show Int32.ofNat 1200 = 1200; decide) dX10_putNumber_22 ?_
  refine lv_icmp_ge (tgt := 49) hx hb dX10_putNumber_23 (by decide) (fun c9 => absurd c9 (by decide)) (fun _ => ?_)
  refine lv_aload_n hx hb dX10_putNumber_26 rfl (lv_at hl 1 rfl) ?_
  refine va_get (D := (dC, dI)) (ci := 9) (v := .ref tp) (C := RX10) (T := TX10) (N := 13) hx hb hts iwwsX10_putNumber_10 hown hK hP 0 rfl rfl 0 (by decide) (hts (.fieldLink RX10 9 "NothingJudge" "tape" "[B") fwwsX10_putNumber_9) (fun _ h9 => h9) rfl dX10_putNumber_27 ?_
  refine lv_aload_n hx hb dX10_putNumber_30 rfl (lv_at hl 1 rfl) ?_
  refine va_get (D := (dC, dI)) (ci := 9) (v := .int 5) (C := RX10) (T := TX10) (N := 13) hx hb hts iwwsX10_putNumber_10 hown hK hP 0 rfl rfl 1 (by decide) (hts (.fieldLink RX10 87 "NothingJudge" "taped" "I") fwwsX10_putNumber_87) (fun _ h9 => h9) rfl dX10_putNumber_31 ?_
  refine lv_iload_n hx hb dX10_putNumber_34 rfl (lv_at hl 2 rfl) ?_
  refine lv_iload_n hx hb dX10_putNumber_35 rfl (lv_at hl 0 rfl) ?_
  refine lv_ishr hx hb dX10_putNumber_36 ?_
  refine lv_topi (fun v_137 ev_137 => ?_)
  refine lv_i2b (v := v_137.toInt8.toInt32) hx hb dX10_putNumber_37 rfl ?_
  refine lv_topi (fun v_138 ev_138 => ?_)
  refine va_bast hx hb hK hP hD hS 1 1 rfl rfl (by unfold vp_in; decide) dX10_putNumber_38 (fun H locs hP hD hS => ?_)
  obtain ⟨f_139, ef_139⟩ : ∃ z, z = upd f_135 (5 : Int32).toNatClampNeg (vp_nar .byte v_138) := ⟨_, rfl⟩
  have hP : va_P (dC, dI) vwCl [(h0, .inr (9, [.ref tp, .int 5, .ref tok, .ref sp, .ref rdr, .int 0, .int (-1), .ref scn, .ref fct, .ref rnr, .ref trl, .ref mnd, .ref rrw])), (tp, .inl (cB, 1200, .inl f_139))] H := by rw [ef_139]; exact hP
  have hD : va_D A [(h0, .inr (9, [.ref tp, .int 5, .ref tok, .ref sp, .ref rdr, .int 0, .int (-1), .ref scn, .ref fct, .ref rnr, .ref trl, .ref mnd, .ref rrw])), (tp, .inl (cB, 1200, .inl f_139))] := by rw [ef_139]; exact hD
  refine lv_aload_n hx hb dX10_putNumber_39 rfl (lv_at hl 1 rfl) ?_
  refine lv_dup hx hb dX10_putNumber_40 rfl ?_
  refine va_get (D := (dC, dI)) (ci := 9) (v := .int 5) (C := RX10) (T := TX10) (N := 13) hx hb hts iwwsX10_putNumber_10 hown hK hP 0 rfl rfl 1 (by decide) (hts (.fieldLink RX10 87 "NothingJudge" "taped" "I") fwwsX10_putNumber_87) (fun _ h9 => h9) rfl dX10_putNumber_41 ?_
  refine lv_iconst (v := 1) hx hb dX10_putNumber_44 (by decide) ?_
  refine lv_iadd hx hb dX10_putNumber_45 ?_
  refine lv_topi (fun y_140 ey_140 => ?_)
  obtain rfl : y_140 = 6 := ey_140.trans (by decide)
  refine va_put (D := (dC, dI)) (ci := 9) (v := .int 6) (ty := .int) (C := RX10) (T := TX10) (N := 13) hx hb hts iwwsX10_putNumber_10 tyX10 tyX10_ok nmX10 hown hK hP hD hS 0 rfl rfl 1 (by decide) (hts (.fieldLink RX10 87 "NothingJudge" "taped" "I") fwwsX10_putNumber_87) (fun _ h9 => h9) rfl (by decide +kernel) rfl rfl (Nat.le_of_ble_eq_true rfl) dX10_putNumber_46 (fun H locs hP hD hS => ?_)
  have hP : va_P (dC, dI) vwCl [(h0, .inr (9, [.ref tp, .int 6, .ref tok, .ref sp, .ref rdr, .int 0, .int (-1), .ref scn, .ref fct, .ref rnr, .ref trl, .ref mnd, .ref rrw])), (tp, .inl (cB, 1200, .inl f_139))] H := hP
  have hD : va_D A [(h0, .inr (9, [.ref tp, .int 6, .ref tok, .ref sp, .ref rdr, .int 0, .int (-1), .ref scn, .ref fct, .ref rnr, .ref trl, .ref mnd, .ref rrw])), (tp, .inl (cB, 1200, .inl f_139))] := hD
  refine lv_iinc (v := 8) (lv' := [(2, .int 8), (0, .ref h0), (1, .int n)]) hx hb dX10_putNumber_49 hl (k := 0) rfl (by decide) (by decide) rfl (fun ls hl => ?_)
  refine lv_goto (tgt := 3) hx hb dX10_putNumber_52 (by decide) ?_
  refine lv_iload_n hx hb dX10_putNumber_3 rfl (lv_at hl 0 rfl) ?_
  refine lv_if_lt (tgt := 55) hx hb dX10_putNumber_4 (by decide) (fun c9 => absurd c9 (by decide)) (fun _ => ?_)
  refine lv_aload_n hx hb dX10_putNumber_7 rfl (lv_at hl 1 rfl) ?_
  refine va_get (D := (dC, dI)) (ci := 9) (v := .int 6) (C := RX10) (T := TX10) (N := 13) hx hb hts iwwsX10_putNumber_10 hown hK hP 0 rfl rfl 1 (by decide) (hts (.fieldLink RX10 87 "NothingJudge" "taped" "I") fwwsX10_putNumber_87) (fun _ h9 => h9) rfl dX10_putNumber_8 ?_
  refine lv_if_lt (tgt := 49) hx hb dX10_putNumber_11 (by decide) (fun c9 => absurd c9 (by decide)) (fun _ => ?_)
  refine lv_aload_n hx hb dX10_putNumber_14 rfl (lv_at hl 1 rfl) ?_
  refine va_get (D := (dC, dI)) (ci := 9) (v := .int 6) (C := RX10) (T := TX10) (N := 13) hx hb hts iwwsX10_putNumber_10 hown hK hP 0 rfl rfl 1 (by decide) (hts (.fieldLink RX10 87 "NothingJudge" "taped" "I") fwwsX10_putNumber_87) (fun _ h9 => h9) rfl dX10_putNumber_15 ?_
  refine lv_aload_n hx hb dX10_putNumber_18 rfl (lv_at hl 1 rfl) ?_
  refine va_get (D := (dC, dI)) (ci := 9) (v := .ref tp) (C := RX10) (T := TX10) (N := 13) hx hb hts iwwsX10_putNumber_10 hown hK hP 0 rfl rfl 0 (by decide) (hts (.fieldLink RX10 9 "NothingJudge" "tape" "[B") fwwsX10_putNumber_9) (fun _ h9 => h9) rfl dX10_putNumber_19 ?_
  refine va_alen hx hb hK hP 1 1 rfl rfl (v := 1200) (by show Int32.ofNat 1200 = 1200; decide) dX10_putNumber_22 ?_
  refine lv_icmp_ge (tgt := 49) hx hb dX10_putNumber_23 (by decide) (fun c9 => absurd c9 (by decide)) (fun _ => ?_)
  refine lv_aload_n hx hb dX10_putNumber_26 rfl (lv_at hl 1 rfl) ?_
  refine va_get (D := (dC, dI)) (ci := 9) (v := .ref tp) (C := RX10) (T := TX10) (N := 13) hx hb hts iwwsX10_putNumber_10 hown hK hP 0 rfl rfl 0 (by decide) (hts (.fieldLink RX10 9 "NothingJudge" "tape" "[B") fwwsX10_putNumber_9) (fun _ h9 => h9) rfl dX10_putNumber_27 ?_
  refine lv_aload_n hx hb dX10_putNumber_30 rfl (lv_at hl 1 rfl) ?_
  refine va_get (D := (dC, dI)) (ci := 9) (v := .int 6) (C := RX10) (T := TX10) (N := 13) hx hb hts iwwsX10_putNumber_10 hown hK hP 0 rfl rfl 1 (by decide) (hts (.fieldLink RX10 87 "NothingJudge" "taped" "I") fwwsX10_putNumber_87) (fun _ h9 => h9) rfl dX10_putNumber_31 ?_
  refine lv_iload_n hx hb dX10_putNumber_34 rfl (lv_at hl 2 rfl) ?_
  refine lv_iload_n hx hb dX10_putNumber_35 rfl (lv_at hl 0 rfl) ?_
  refine lv_ishr hx hb dX10_putNumber_36 ?_
  refine lv_topi (fun v_141 ev_141 => ?_)
  refine lv_i2b (v := v_141.toInt8.toInt32) hx hb dX10_putNumber_37 rfl ?_
  refine lv_topi (fun v_142 ev_142 => ?_)
  refine va_bast hx hb hK hP hD hS 1 1 rfl rfl (by unfold vp_in; decide) dX10_putNumber_38 (fun H locs hP hD hS => ?_)
  obtain ⟨f_143, ef_143⟩ : ∃ z, z = upd f_139 (6 : Int32).toNatClampNeg (vp_nar .byte v_142) := ⟨_, rfl⟩
  have hP : va_P (dC, dI) vwCl [(h0, .inr (9, [.ref tp, .int 6, .ref tok, .ref sp, .ref rdr, .int 0, .int (-1), .ref scn, .ref fct, .ref rnr, .ref trl, .ref mnd, .ref rrw])), (tp, .inl (cB, 1200, .inl f_143))] H := by rw [ef_143]; exact hP
  have hD : va_D A [(h0, .inr (9, [.ref tp, .int 6, .ref tok, .ref sp, .ref rdr, .int 0, .int (-1), .ref scn, .ref fct, .ref rnr, .ref trl, .ref mnd, .ref rrw])), (tp, .inl (cB, 1200, .inl f_143))] := by rw [ef_143]; exact hD
  refine lv_aload_n hx hb dX10_putNumber_39 rfl (lv_at hl 1 rfl) ?_
  refine lv_dup hx hb dX10_putNumber_40 rfl ?_
  refine va_get (D := (dC, dI)) (ci := 9) (v := .int 6) (C := RX10) (T := TX10) (N := 13) hx hb hts iwwsX10_putNumber_10 hown hK hP 0 rfl rfl 1 (by decide) (hts (.fieldLink RX10 87 "NothingJudge" "taped" "I") fwwsX10_putNumber_87) (fun _ h9 => h9) rfl dX10_putNumber_41 ?_
  refine lv_iconst (v := 1) hx hb dX10_putNumber_44 (by decide) ?_
  refine lv_iadd hx hb dX10_putNumber_45 ?_
  refine lv_topi (fun y_144 ey_144 => ?_)
  obtain rfl : y_144 = 7 := ey_144.trans (by decide)
  refine va_put (D := (dC, dI)) (ci := 9) (v := .int 7) (ty := .int) (C := RX10) (T := TX10) (N := 13) hx hb hts iwwsX10_putNumber_10 tyX10 tyX10_ok nmX10 hown hK hP hD hS 0 rfl rfl 1 (by decide) (hts (.fieldLink RX10 87 "NothingJudge" "taped" "I") fwwsX10_putNumber_87) (fun _ h9 => h9) rfl (by decide +kernel) rfl rfl (Nat.le_of_ble_eq_true rfl) dX10_putNumber_46 (fun H locs hP hD hS => ?_)
  have hP : va_P (dC, dI) vwCl [(h0, .inr (9, [.ref tp, .int 7, .ref tok, .ref sp, .ref rdr, .int 0, .int (-1), .ref scn, .ref fct, .ref rnr, .ref trl, .ref mnd, .ref rrw])), (tp, .inl (cB, 1200, .inl f_143))] H := hP
  have hD : va_D A [(h0, .inr (9, [.ref tp, .int 7, .ref tok, .ref sp, .ref rdr, .int 0, .int (-1), .ref scn, .ref fct, .ref rnr, .ref trl, .ref mnd, .ref rrw])), (tp, .inl (cB, 1200, .inl f_143))] := hD
  refine lv_iinc (v := 0) (lv' := [(2, .int 0), (0, .ref h0), (1, .int n)]) hx hb dX10_putNumber_49 hl (k := 0) rfl (by decide) (by decide) rfl (fun ls hl => ?_)
  refine lv_goto (tgt := 3) hx hb dX10_putNumber_52 (by decide) ?_
  refine lv_iload_n hx hb dX10_putNumber_3 rfl (lv_at hl 0 rfl) ?_
  refine lv_if_lt (tgt := 55) hx hb dX10_putNumber_4 (by decide) (fun c9 => absurd c9 (by decide)) (fun _ => ?_)
  refine lv_aload_n hx hb dX10_putNumber_7 rfl (lv_at hl 1 rfl) ?_
  refine va_get (D := (dC, dI)) (ci := 9) (v := .int 7) (C := RX10) (T := TX10) (N := 13) hx hb hts iwwsX10_putNumber_10 hown hK hP 0 rfl rfl 1 (by decide) (hts (.fieldLink RX10 87 "NothingJudge" "taped" "I") fwwsX10_putNumber_87) (fun _ h9 => h9) rfl dX10_putNumber_8 ?_
  refine lv_if_lt (tgt := 49) hx hb dX10_putNumber_11 (by decide) (fun c9 => absurd c9 (by decide)) (fun _ => ?_)
  refine lv_aload_n hx hb dX10_putNumber_14 rfl (lv_at hl 1 rfl) ?_
  refine va_get (D := (dC, dI)) (ci := 9) (v := .int 7) (C := RX10) (T := TX10) (N := 13) hx hb hts iwwsX10_putNumber_10 hown hK hP 0 rfl rfl 1 (by decide) (hts (.fieldLink RX10 87 "NothingJudge" "taped" "I") fwwsX10_putNumber_87) (fun _ h9 => h9) rfl dX10_putNumber_15 ?_
  refine lv_aload_n hx hb dX10_putNumber_18 rfl (lv_at hl 1 rfl) ?_
  refine va_get (D := (dC, dI)) (ci := 9) (v := .ref tp) (C := RX10) (T := TX10) (N := 13) hx hb hts iwwsX10_putNumber_10 hown hK hP 0 rfl rfl 0 (by decide) (hts (.fieldLink RX10 9 "NothingJudge" "tape" "[B") fwwsX10_putNumber_9) (fun _ h9 => h9) rfl dX10_putNumber_19 ?_
  refine va_alen hx hb hK hP 1 1 rfl rfl (v := 1200) (by show Int32.ofNat 1200 = 1200; decide) dX10_putNumber_22 ?_
  refine lv_icmp_ge (tgt := 49) hx hb dX10_putNumber_23 (by decide) (fun c9 => absurd c9 (by decide)) (fun _ => ?_)
  refine lv_aload_n hx hb dX10_putNumber_26 rfl (lv_at hl 1 rfl) ?_
  refine va_get (D := (dC, dI)) (ci := 9) (v := .ref tp) (C := RX10) (T := TX10) (N := 13) hx hb hts iwwsX10_putNumber_10 hown hK hP 0 rfl rfl 0 (by decide) (hts (.fieldLink RX10 9 "NothingJudge" "tape" "[B") fwwsX10_putNumber_9) (fun _ h9 => h9) rfl dX10_putNumber_27 ?_
  refine lv_aload_n hx hb dX10_putNumber_30 rfl (lv_at hl 1 rfl) ?_
  refine va_get (D := (dC, dI)) (ci := 9) (v := .int 7) (C := RX10) (T := TX10) (N := 13) hx hb hts iwwsX10_putNumber_10 hown hK hP 0 rfl rfl 1 (by decide) (hts (.fieldLink RX10 87 "NothingJudge" "taped" "I") fwwsX10_putNumber_87) (fun _ h9 => h9) rfl dX10_putNumber_31 ?_
  refine lv_iload_n hx hb dX10_putNumber_34 rfl (lv_at hl 2 rfl) ?_
  refine lv_iload_n hx hb dX10_putNumber_35 rfl (lv_at hl 0 rfl) ?_
  refine lv_ishr hx hb dX10_putNumber_36 ?_
  refine lv_topi (fun v_145 ev_145 => ?_)
  refine lv_i2b (v := v_145.toInt8.toInt32) hx hb dX10_putNumber_37 rfl ?_
  refine lv_topi (fun v_146 ev_146 => ?_)
  refine va_bast hx hb hK hP hD hS 1 1 rfl rfl (by unfold vp_in; decide) dX10_putNumber_38 (fun H locs hP hD hS => ?_)
  obtain ⟨f_147, ef_147⟩ : ∃ z, z = upd f_143 (7 : Int32).toNatClampNeg (vp_nar .byte v_146) := ⟨_, rfl⟩
  have hP : va_P (dC, dI) vwCl [(h0, .inr (9, [.ref tp, .int 7, .ref tok, .ref sp, .ref rdr, .int 0, .int (-1), .ref scn, .ref fct, .ref rnr, .ref trl, .ref mnd, .ref rrw])), (tp, .inl (cB, 1200, .inl f_147))] H := by rw [ef_147]; exact hP
  have hD : va_D A [(h0, .inr (9, [.ref tp, .int 7, .ref tok, .ref sp, .ref rdr, .int 0, .int (-1), .ref scn, .ref fct, .ref rnr, .ref trl, .ref mnd, .ref rrw])), (tp, .inl (cB, 1200, .inl f_147))] := by rw [ef_147]; exact hD
  refine lv_aload_n hx hb dX10_putNumber_39 rfl (lv_at hl 1 rfl) ?_
  refine lv_dup hx hb dX10_putNumber_40 rfl ?_
  refine va_get (D := (dC, dI)) (ci := 9) (v := .int 7) (C := RX10) (T := TX10) (N := 13) hx hb hts iwwsX10_putNumber_10 hown hK hP 0 rfl rfl 1 (by decide) (hts (.fieldLink RX10 87 "NothingJudge" "taped" "I") fwwsX10_putNumber_87) (fun _ h9 => h9) rfl dX10_putNumber_41 ?_
  refine lv_iconst (v := 1) hx hb dX10_putNumber_44 (by decide) ?_
  refine lv_iadd hx hb dX10_putNumber_45 ?_
  refine lv_topi (fun y_148 ey_148 => ?_)
  obtain rfl : y_148 = 8 := ey_148.trans (by decide)
  refine va_put (D := (dC, dI)) (ci := 9) (v := .int 8) (ty := .int) (C := RX10) (T := TX10) (N := 13) hx hb hts iwwsX10_putNumber_10 tyX10 tyX10_ok nmX10 hown hK hP hD hS 0 rfl rfl 1 (by decide) (hts (.fieldLink RX10 87 "NothingJudge" "taped" "I") fwwsX10_putNumber_87) (fun _ h9 => h9) rfl (by decide +kernel) rfl rfl (Nat.le_of_ble_eq_true rfl) dX10_putNumber_46 (fun H locs hP hD hS => ?_)
  have hP : va_P (dC, dI) vwCl [(h0, .inr (9, [.ref tp, .int 8, .ref tok, .ref sp, .ref rdr, .int 0, .int (-1), .ref scn, .ref fct, .ref rnr, .ref trl, .ref mnd, .ref rrw])), (tp, .inl (cB, 1200, .inl f_147))] H := hP
  have hD : va_D A [(h0, .inr (9, [.ref tp, .int 8, .ref tok, .ref sp, .ref rdr, .int 0, .int (-1), .ref scn, .ref fct, .ref rnr, .ref trl, .ref mnd, .ref rrw])), (tp, .inl (cB, 1200, .inl f_147))] := hD
  refine lv_iinc (v := (-8)) (lv' := [(2, .int (-8)), (0, .ref h0), (1, .int n)]) hx hb dX10_putNumber_49 hl (k := 0) rfl (by decide) (by decide) rfl (fun ls hl => ?_)
  refine lv_goto (tgt := 3) hx hb dX10_putNumber_52 (by decide) ?_
  refine lv_iload_n hx hb dX10_putNumber_3 rfl (lv_at hl 0 rfl) ?_
  refine lv_if_lt (tgt := 55) hx hb dX10_putNumber_4 (by decide) (fun _ => ?_) (fun c9 => absurd (by decide) c9)
  have hP9 := hP.sub (ws' := [(h0, .inr (9, [.ref tp, .int 8, .ref tok, .ref sp, .ref rdr, .int 0, .int (-1), .ref scn, .ref fct, .ref rnr, .ref trl, .ref mnd, .ref rrw])), (tp, .inl (cB, 1200, .inl f_147))]) [0, 1] rfl
  have hD9 := hD.sub (ws' := [(h0, .inr (9, [.ref tp, .int 8, .ref tok, .ref sp, .ref rdr, .int 0, .int (-1), .ref scn, .ref fct, .ref rnr, .ref trl, .ref mnd, .ref rrw])), (tp, .inl (cB, 1200, .inl f_147))]) [0, 1] (by decide) rfl
  exact W.vret hx hb hr (fun t ht hW => ⟨⟨(), rfl, trivial, f_147, by rw [ht]; exact hP9, hD9⟩, hS.F ht⟩) hS.2.2 dX10_putNumber_55
