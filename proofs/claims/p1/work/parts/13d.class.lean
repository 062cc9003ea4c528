set_option maxHeartbeats 4000000 in
set_option maxRecDepth 100000 in
theorem c_test (l : Launch) (dC : Nat → ClassId) (dI : Nat → Nat → Nat) (cI cB cL cZ : ClassId) (h0 : Nat) (tp : Nat) (tok : Nat) (sp : Nat) (rdr : Nat) (scn : Nat) (fct : Nat) (rnr : Nat) (trl : Nat) (mnd : Nat) (rrw : Nat) (g : Nat) (td : Nat) (gc : Nat) (ga1 : Nat) (ga2 : Nat) (ga3 : Nat) (ga4 : Nat) (ga5 : Nat) (ga6 : Nat) (ga7 : Nat) (ga8 : Nat) (a : Int32) (b : Int32) (sz : Nat)  : Met l yX10_test wsX10_test ({ frames := 0, cells := 0, slots := 0, locals := 0 }) (cP (dC, dI) (kTy cI cB cL cZ) [.ref h0, .int a, .int b] [(h0, .inr (9, [.ref tp, .int 0, .ref tok, .ref sp, .ref rdr, .int 0, .int (-1), .ref scn, .ref fct, .ref rnr, .ref trl, .ref mnd, .ref rrw])), (scn, .inr (6, [.ref g, .int (-1), .ref td])), (g, .inr (3, [.ref gc, .ref ga1, .ref ga2, .ref ga3, .ref ga4, .ref ga5, .ref ga6, .ref ga7, .ref ga8, .int 0, .int 0, .int 0, .int 0, .int (-1)]))] sz) (va_Qi (fun (r : Int32) (_ : Unit) => r = -1) (fun (_ : Unit) (t : State) => va_P (dC, dI) vwCl [] t.heap ∧ va_D (va_A [(h0, .inr (9, [.ref tp, .int 0, .ref tok, .ref sp, .ref rdr, .int 0, .int (-1), .ref scn, .ref fct, .ref rnr, .ref trl, .ref mnd, .ref rrw])), (scn, .inr (6, [.ref g, .int (-1), .ref td])), (g, .inr (3, [.ref gc, .ref ga1, .ref ga2, .ref ga3, .ref ga4, .ref ga5, .ref ga6, .ref ga7, .ref ga8, .int 0, .int 0, .int 0, .int 0, .int (-1)]))] sz) []) (va_A [(h0, .inr (9, [.ref tp, .int 0, .ref tok, .ref sp, .ref rdr, .int 0, .int (-1), .ref scn, .ref fct, .ref rnr, .ref trl, .ref mnd, .ref rrw])), (scn, .inr (6, [.ref g, .int (-1), .ref td])), (g, .inr (3, [.ref gc, .ref ga1, .ref ga2, .ref ga3, .ref ga4, .ref ga5, .ref ga6, .ref ga7, .ref ga8, .int 0, .int 0, .int 0, .int 0, .int (-1)]))] sz)) 0 0 (va_A [(h0, .inr (9, [.ref tp, .int 0, .ref tok, .ref sp, .ref rdr, .int 0, .int (-1), .ref scn, .ref fct, .ref rnr, .ref trl, .ref mnd, .ref rrw])), (scn, .inr (6, [.ref g, .int (-1), .ref td])), (g, .inr (3, [.ref gc, .ref ga1, .ref ga2, .ref ga3, .ref ga4, .ref ga5, .ref ga6, .ref ga7, .ref ga8, .int 0, .int 0, .int 0, .int 0, .int (-1)]))] sz) := by
  refine Met.ofW (cc := cX10_test) (maxL := 4) (ret := (some .int)) (by decide) rfl ?_
  intro p e s m args below meth c s₁ B hml hv
  obtain ⟨rfl, hsz, hP, hK, hD0, hN⟩ := hv
  have hx := B.exec
  have hb := B.bytes
  have hr := B.returns
  have hts := atoms_spec (ws := wsX10_test) B.pre
  have hown : s.vm.findClass RX10 = some m.cls := findClass_of_methodNamed B.named
  have hlocks := B.notSynchronized
  subst hsz
  have hD := hD0.self (sz := s.heap.size)
  generalize hAe : va_A [(h0, .inr (9, [.ref tp, .int 0, .ref tok, .ref sp, .ref rdr, .int 0, .int (-1), .ref scn, .ref fct, .ref rnr, .ref trl, .ref mnd, .ref rrw])), (scn, .inr (6, [.ref g, .int (-1), .ref td])), (g, .inr (3, [.ref gc, .ref ga1, .ref ga2, .ref ga3, .ref ga4, .ref ga5, .ref ga6, .ref ga7, .ref ga8, .int 0, .int 0, .int 0, .int 0, .int (-1)]))] s.heap.size = A at hD ⊢
  have hA : ∀ q : Nat, s.heap.size ≤ q → A q := fun q h => by rw [← hAe]; exact Or.inr h
  have hl := lv_entry ([.ref h0, .int a, .int b]) (n := 4) (Nat.le_of_ble_eq_true rfl)
  rw [lg_entry_eq]
  generalize (lg_sl ([.ref h0, .int a, .int b]) ++ List.replicate (4 - (lg_sl ([.ref h0, .int a, .int b])).length) Slot.unset).toArray = ls at hl ⊢
  have hl : lv_has ls 4 [(0, .ref h0), (1, .int a), (2, .int b)] := hl
  refine k_H (A := A) hP (fun H hP hS => ?_)
  have hP : va_P (dC, dI) vwCl [(h0, .inr (9, [.ref tp, .int 0, .ref tok, .ref sp, .ref rdr, .int 0, .int (-1), .ref scn, .ref fct, .ref rnr, .ref trl, .ref mnd, .ref rrw])), (scn, .inr (6, [.ref g, .int (-1), .ref td])), (g, .inr (3, [.ref gc, .ref ga1, .ref ga2, .ref ga3, .ref ga4, .ref ga5, .ref ga6, .ref ga7, .ref ga8, .int 0, .int 0, .int 0, .int 0, .int (-1)]))] H := hP
  have hD : va_D A [(h0, .inr (9, [.ref tp, .int 0, .ref tok, .ref sp, .ref rdr, .int 0, .int (-1), .ref scn, .ref fct, .ref rnr, .ref trl, .ref mnd, .ref rrw])), (scn, .inr (6, [.ref g, .int (-1), .ref td])), (g, .inr (3, [.ref gc, .ref ga1, .ref ga2, .ref ga3, .ref ga4, .ref ga5, .ref ga6, .ref ga7, .ref ga8, .int 0, .int 0, .int 0, .int 0, .int (-1)]))] := hD
  refine lv_aload_n hx hb dX10_test_0 rfl (lv_at hl 0 rfl) ?_
  refine va_get (D := (dC, dI)) (ci := 9) (v := .ref scn) (C := RX10) (T := TX10) (N := 13) hx hb hts iwwsX10_test_10 hown hK hP 0 rfl rfl 7 (by decide) (hts (.fieldLink RX10 45 "NothingJudge" "scene" "LNothingJudge$Scene;") fwwsX10_test_45) (fun _ h9 => h9) rfl dX10_test_1 ?_
  refine va_get (D := (dC, dI)) (ci := 6) (v := .ref g) (C := RX7) (T := TX7) (N := 3) hx hb hts iwwsX10_test_7 hown hK hP 1 rfl rfl 0 (by decide) (hts (.fieldLink RX10 110 "NothingJudge$Scene" "program" "LNothingJudge$Program;") fwwsX10_test_110) (fun _ h9 => h9) rfl dX10_test_4 ?_
  refine lv_astore_n (lv' := [(3, .ref g), (0, .ref h0), (1, .int a), (2, .int b)]) hx hb dX10_test_7 rfl hl (by decide) rfl (fun ls hl => ?_)
  refine lv_iload_n hx hb dX10_test_8 rfl (lv_at hl 2 rfl) ?_
  refine lv_if_lt (tgt := 20) hx hb dX10_test_9 (by decide) (fun c_214 => ?_) (fun c_214 => ?_)
  · refine lv_iconst (v := (-1)) hx hb dX10_test_20 (by decide) ?_
    have hP9 := hP.sub (ws' := []) [] rfl
    have hD9 := hD.sub (ws' := []) [] (by decide) rfl
    exact W.iret (v := (-1)) hx hb hr (fun t ht hW => ⟨⟨(-1), (), rfl, rfl, by rw [ht]; exact hP9, hD9⟩, hS.F ht⟩) hS.2.2 dX10_test_21
  · refine lv_iload_n hx hb dX10_test_12 rfl (lv_at hl 2 rfl) ?_
    refine lv_aload_n hx hb dX10_test_13 rfl (lv_at hl 0 rfl) ?_
    refine va_get (D := (dC, dI)) (ci := 3) (v := .int 0) (C := RX3) (T := TX3) (N := 14) hx hb hts iwwsX10_test_3 hown hK hP 2 rfl rfl 12 (by decide) (hts (.fieldLink RX10 176 "NothingJudge$Program" "tests" "I") fwwsX10_test_176) (fun _ h9 => h9) rfl dX10_test_14 ?_
    refine lv_icmp_lt (tgt := 22) hx hb dX10_test_17 (by decide) (fun c9 => absurd c9 c_214) (fun _ => ?_)
    refine lv_iconst (v := (-1)) hx hb dX10_test_20 (by decide) ?_
    have hP9 := hP.sub (ws' := []) [] rfl
    have hD9 := hD.sub (ws' := []) [] (by decide) rfl
    exact W.iret (v := (-1)) hx hb hr (fun t ht hW => ⟨⟨(-1), (), rfl, rfl, by rw [ht]; exact hP9, hD9⟩, hS.F ht⟩) hS.2.2 dX10_test_21

set_option maxHeartbeats 4000000 in
set_option maxRecDepth 100000 in
theorem c_tries (l : Launch) (dC : Nat → ClassId) (dI : Nat → Nat → Nat) (cI cB cL cZ : ClassId) (h0 : Nat) (tp : Nat) (tok : Nat) (sp : Nat) (rdr : Nat) (scn : Nat) (fct : Nat) (rnr : Nat) (trl : Nat) (mnd : Nat) (rrw : Nat) (g : Nat) (td : Nat) (gc : Nat) (ga1 : Nat) (ga2 : Nat) (ga3 : Nat) (ga4 : Nat) (ga5 : Nat) (ga6 : Nat) (ga7 : Nat) (ga8 : Nat) (a : Int32) (sz : Nat)  : Met l yX10_tries wsX10_tries ({ frames := 0, cells := 0, slots := 0, locals := 0 }) (cP (dC, dI) (kTy cI cB cL cZ) [.ref h0, .int a] [(h0, .inr (9, [.ref tp, .int 0, .ref tok, .ref sp, .ref rdr, .int 0, .int (-1), .ref scn, .ref fct, .ref rnr, .ref trl, .ref mnd, .ref rrw])), (scn, .inr (6, [.ref g, .int (-1), .ref td])), (g, .inr (3, [.ref gc, .ref ga1, .ref ga2, .ref ga3, .ref ga4, .ref ga5, .ref ga6, .ref ga7, .ref ga8, .int 0, .int 0, .int 0, .int 0, .int (-1)]))] sz) (va_Qi (fun (r : Int32) (_ : Unit) => r = -1) (fun (_ : Unit) (t : State) => va_P (dC, dI) vwCl [] t.heap ∧ va_D (va_A [(h0, .inr (9, [.ref tp, .int 0, .ref tok, .ref sp, .ref rdr, .int 0, .int (-1), .ref scn, .ref fct, .ref rnr, .ref trl, .ref mnd, .ref rrw])), (scn, .inr (6, [.ref g, .int (-1), .ref td])), (g, .inr (3, [.ref gc, .ref ga1, .ref ga2, .ref ga3, .ref ga4, .ref ga5, .ref ga6, .ref ga7, .ref ga8, .int 0, .int 0, .int 0, .int 0, .int (-1)]))] sz) []) (va_A [(h0, .inr (9, [.ref tp, .int 0, .ref tok, .ref sp, .ref rdr, .int 0, .int (-1), .ref scn, .ref fct, .ref rnr, .ref trl, .ref mnd, .ref rrw])), (scn, .inr (6, [.ref g, .int (-1), .ref td])), (g, .inr (3, [.ref gc, .ref ga1, .ref ga2, .ref ga3, .ref ga4, .ref ga5, .ref ga6, .ref ga7, .ref ga8, .int 0, .int 0, .int 0, .int 0, .int (-1)]))] sz)) 0 0 (va_A [(h0, .inr (9, [.ref tp, .int 0, .ref tok, .ref sp, .ref rdr, .int 0, .int (-1), .ref scn, .ref fct, .ref rnr, .ref trl, .ref mnd, .ref rrw])), (scn, .inr (6, [.ref g, .int (-1), .ref td])), (g, .inr (3, [.ref gc, .ref ga1, .ref ga2, .ref ga3, .ref ga4, .ref ga5, .ref ga6, .ref ga7, .ref ga8, .int 0, .int 0, .int 0, .int 0, .int (-1)]))] sz) := by
  refine Met.ofW (cc := cX10_tries) (maxL := 2) (ret := (some .int)) (by decide) rfl ?_
  intro p e s m args below meth c s₁ B hml hv
  obtain ⟨rfl, hsz, hP, hK, hD0, hN⟩ := hv
  have hx := B.exec
  have hb := B.bytes
  have hr := B.returns
  have hts := atoms_spec (ws := wsX10_tries) B.pre
  have hown : s.vm.findClass RX10 = some m.cls := findClass_of_methodNamed B.named
  have hlocks := B.notSynchronized
  subst hsz
  have hD := hD0.self (sz := s.heap.size)
  generalize hAe : va_A [(h0, .inr (9, [.ref tp, .int 0, .ref tok, .ref sp, .ref rdr, .int 0, .int (-1), .ref scn, .ref fct, .ref rnr, .ref trl, .ref mnd, .ref rrw])), (scn, .inr (6, [.ref g, .int (-1), .ref td])), (g, .inr (3, [.ref gc, .ref ga1, .ref ga2, .ref ga3, .ref ga4, .ref ga5, .ref ga6, .ref ga7, .ref ga8, .int 0, .int 0, .int 0, .int 0, .int (-1)]))] s.heap.size = A at hD ⊢
  have hA : ∀ q : Nat, s.heap.size ≤ q → A q := fun q h => by rw [← hAe]; exact Or.inr h
  have hl := lv_entry ([.ref h0, .int a]) (n := 2) (Nat.le_of_ble_eq_true rfl)
  rw [lg_entry_eq]
  generalize (lg_sl ([.ref h0, .int a]) ++ List.replicate (2 - (lg_sl ([.ref h0, .int a])).length) Slot.unset).toArray = ls at hl ⊢
  have hl : lv_has ls 2 [(0, .ref h0), (1, .int a)] := hl
  refine k_H (A := A) hP (fun H hP hS => ?_)
  have hP : va_P (dC, dI) vwCl [(h0, .inr (9, [.ref tp, .int 0, .ref tok, .ref sp, .ref rdr, .int 0, .int (-1), .ref scn, .ref fct, .ref rnr, .ref trl, .ref mnd, .ref rrw])), (scn, .inr (6, [.ref g, .int (-1), .ref td])), (g, .inr (3, [.ref gc, .ref ga1, .ref ga2, .ref ga3, .ref ga4, .ref ga5, .ref ga6, .ref ga7, .ref ga8, .int 0, .int 0, .int 0, .int 0, .int (-1)]))] H := hP
  have hD : va_D A [(h0, .inr (9, [.ref tp, .int 0, .ref tok, .ref sp, .ref rdr, .int 0, .int (-1), .ref scn, .ref fct, .ref rnr, .ref trl, .ref mnd, .ref rrw])), (scn, .inr (6, [.ref g, .int (-1), .ref td])), (g, .inr (3, [.ref gc, .ref ga1, .ref ga2, .ref ga3, .ref ga4, .ref ga5, .ref ga6, .ref ga7, .ref ga8, .int 0, .int 0, .int 0, .int 0, .int (-1)]))] := hD
  refine lv_iload_n hx hb dX10_tries_0 rfl (lv_at hl 1 rfl) ?_
  refine lv_if_lt (tgt := 18) hx hb dX10_tries_1 (by decide) (fun c_215 => ?_) (fun c_215 => ?_)
  · refine lv_iconst (v := (-1)) hx hb dX10_tries_18 (by decide) ?_
    have hP9 := hP.sub (ws' := []) [] rfl
    have hD9 := hD.sub (ws' := []) [] (by decide) rfl
    exact W.iret (v := (-1)) hx hb hr (fun t ht hW => ⟨⟨(-1), (), rfl, rfl, by rw [ht]; exact hP9, hD9⟩, hS.F ht⟩) hS.2.2 dX10_tries_19
  · refine lv_iload_n hx hb dX10_tries_4 rfl (lv_at hl 1 rfl) ?_
    refine lv_aload_n hx hb dX10_tries_5 rfl (lv_at hl 0 rfl) ?_
    refine va_get (D := (dC, dI)) (ci := 9) (v := .ref scn) (C := RX10) (T := TX10) (N := 13) hx hb hts iwwsX10_tries_10 hown hK hP 0 rfl rfl 7 (by decide) (hts (.fieldLink RX10 45 "NothingJudge" "scene" "LNothingJudge$Scene;") fwwsX10_tries_45) (fun _ h9 => h9) rfl dX10_tries_6 ?_
    refine va_get (D := (dC, dI)) (ci := 6) (v := .ref g) (C := RX7) (T := TX7) (N := 3) hx hb hts iwwsX10_tries_7 hown hK hP 1 rfl rfl 0 (by decide) (hts (.fieldLink RX10 110 "NothingJudge$Scene" "program" "LNothingJudge$Program;") fwwsX10_tries_110) (fun _ h9 => h9) rfl dX10_tries_9 ?_
    refine va_get (D := (dC, dI)) (ci := 3) (v := .int 0) (C := RX3) (T := TX3) (N := 14) hx hb hts iwwsX10_tries_3 hown hK hP 2 rfl rfl 11 (by decide) (hts (.fieldLink RX10 157 "NothingJudge$Program" "uses" "I") fwwsX10_tries_157) (fun _ h9 => h9) rfl dX10_tries_12 ?_
    refine lv_icmp_lt (tgt := 20) hx hb dX10_tries_15 (by decide) (fun c9 => absurd c9 c_215) (fun _ => ?_)
    refine lv_iconst (v := (-1)) hx hb dX10_tries_18 (by decide) ?_
    have hP9 := hP.sub (ws' := []) [] rfl
    have hD9 := hD.sub (ws' := []) [] (by decide) rfl
    exact W.iret (v := (-1)) hx hb hr (fun t ht hW => ⟨⟨(-1), (), rfl, rfl, by rw [ht]; exact hP9, hD9⟩, hS.F ht⟩) hS.2.2 dX10_tries_19

set_option maxHeartbeats 4000000 in
set_option maxRecDepth 100000 in
theorem c_run (l : Launch) (dC : Nat → ClassId) (dI : Nat → Nat → Nat) (cI cB cL cZ : ClassId) (h0 : Nat) (tp : Nat) (tok : Nat) (sp : Nat) (rdr : Nat) (scn : Nat) (fct : Nat) (rnr : Nat) (trl : Nat) (mnd : Nat) (rrw : Nat) (g : Nat) (td : Nat) (gc : Nat) (ga1 : Nat) (ga2 : Nat) (ga3 : Nat) (ga4 : Nat) (ga5 : Nat) (ga6 : Nat) (ga7 : Nat) (ga8 : Nat) (a : Int32) (b : Int32) (sz : Nat)  : Met l yX10_run wsX10_run ({ frames := 2, cells := 0, slots := 0, locals := 44 }) (cP (dC, dI) (kTy cI cB cL cZ) [.ref h0, .int a, .int b] [(h0, .inr (9, [.ref tp, .int 0, .ref tok, .ref sp, .ref rdr, .int 0, .int (-1), .ref scn, .ref fct, .ref rnr, .ref trl, .ref mnd, .ref rrw])), (scn, .inr (6, [.ref g, .int (-1), .ref td])), (g, .inr (3, [.ref gc, .ref ga1, .ref ga2, .ref ga3, .ref ga4, .ref ga5, .ref ga6, .ref ga7, .ref ga8, .int 0, .int 0, .int 0, .int 0, .int (-1)]))] sz) (va_Qi (fun (r : Int32) (_ : Unit) => r = -1) (fun (_ : Unit) (t : State) => va_P (dC, dI) vwCl [] t.heap ∧ va_D (va_A [(h0, .inr (9, [.ref tp, .int 0, .ref tok, .ref sp, .ref rdr, .int 0, .int (-1), .ref scn, .ref fct, .ref rnr, .ref trl, .ref mnd, .ref rrw])), (scn, .inr (6, [.ref g, .int (-1), .ref td])), (g, .inr (3, [.ref gc, .ref ga1, .ref ga2, .ref ga3, .ref ga4, .ref ga5, .ref ga6, .ref ga7, .ref ga8, .int 0, .int 0, .int 0, .int 0, .int (-1)]))] sz) []) (va_A [(h0, .inr (9, [.ref tp, .int 0, .ref tok, .ref sp, .ref rdr, .int 0, .int (-1), .ref scn, .ref fct, .ref rnr, .ref trl, .ref mnd, .ref rrw])), (scn, .inr (6, [.ref g, .int (-1), .ref td])), (g, .inr (3, [.ref gc, .ref ga1, .ref ga2, .ref ga3, .ref ga4, .ref ga5, .ref ga6, .ref ga7, .ref ga8, .int 0, .int 0, .int 0, .int 0, .int (-1)]))] sz)) 0 0 (va_A [(h0, .inr (9, [.ref tp, .int 0, .ref tok, .ref sp, .ref rdr, .int 0, .int (-1), .ref scn, .ref fct, .ref rnr, .ref trl, .ref mnd, .ref rrw])), (scn, .inr (6, [.ref g, .int (-1), .ref td])), (g, .inr (3, [.ref gc, .ref ga1, .ref ga2, .ref ga3, .ref ga4, .ref ga5, .ref ga6, .ref ga7, .ref ga8, .int 0, .int 0, .int 0, .int 0, .int (-1)]))] sz) := by
  refine Met.ofW (cc := cX10_run) (maxL := 4) (ret := (some .int)) (by decide) rfl ?_
  intro p e s m args below meth c s₁ B hml hv
  obtain ⟨rfl, hsz, hP, hK, hD0, hN⟩ := hv
  have hx := B.exec
  have hb := B.bytes
  have hr := B.returns
  have hts := atoms_spec (ws := wsX10_run) B.pre
  have hown : s.vm.findClass RX10 = some m.cls := findClass_of_methodNamed B.named
  have hlocks := B.notSynchronized
  subst hsz
  have hD := hD0.self (sz := s.heap.size)
  generalize hAe : va_A [(h0, .inr (9, [.ref tp, .int 0, .ref tok, .ref sp, .ref rdr, .int 0, .int (-1), .ref scn, .ref fct, .ref rnr, .ref trl, .ref mnd, .ref rrw])), (scn, .inr (6, [.ref g, .int (-1), .ref td])), (g, .inr (3, [.ref gc, .ref ga1, .ref ga2, .ref ga3, .ref ga4, .ref ga5, .ref ga6, .ref ga7, .ref ga8, .int 0, .int 0, .int 0, .int 0, .int (-1)]))] s.heap.size = A at hD ⊢
  have hA : ∀ q : Nat, s.heap.size ≤ q → A q := fun q h => by rw [← hAe]; exact Or.inr h
  have hl := lv_entry ([.ref h0, .int a, .int b]) (n := 4) (Nat.le_of_ble_eq_true rfl)
  rw [lg_entry_eq]
  generalize (lg_sl ([.ref h0, .int a, .int b]) ++ List.replicate (4 - (lg_sl ([.ref h0, .int a, .int b])).length) Slot.unset).toArray = ls at hl ⊢
  have hl : lv_has ls 4 [(0, .ref h0), (1, .int a), (2, .int b)] := hl
  refine k_H (A := A) hP (fun H hP hS => ?_)
  have hP : va_P (dC, dI) vwCl [(h0, .inr (9, [.ref tp, .int 0, .ref tok, .ref sp, .ref rdr, .int 0, .int (-1), .ref scn, .ref fct, .ref rnr, .ref trl, .ref mnd, .ref rrw])), (scn, .inr (6, [.ref g, .int (-1), .ref td])), (g, .inr (3, [.ref gc, .ref ga1, .ref ga2, .ref ga3, .ref ga4, .ref ga5, .ref ga6, .ref ga7, .ref ga8, .int 0, .int 0, .int 0, .int 0, .int (-1)]))] H := hP
  have hD : va_D A [(h0, .inr (9, [.ref tp, .int 0, .ref tok, .ref sp, .ref rdr, .int 0, .int (-1), .ref scn, .ref fct, .ref rnr, .ref trl, .ref mnd, .ref rrw])), (scn, .inr (6, [.ref g, .int (-1), .ref td])), (g, .inr (3, [.ref gc, .ref ga1, .ref ga2, .ref ga3, .ref ga4, .ref ga5, .ref ga6, .ref ga7, .ref ga8, .int 0, .int 0, .int 0, .int 0, .int (-1)]))] := hD
  refine lv_iload_n hx hb dX10_run_0 rfl (lv_at hl 2 rfl) ?_
  refine lv_if_lt (tgt := 22) hx hb dX10_run_1 (by decide) (fun c_216 => ?_) (fun c_216 => ?_)
  · refine lv_iconst (v := (-1)) hx hb dX10_run_22 (by decide) ?_
    have hP9 := hP.sub (ws' := []) [] rfl
    have hD9 := hD.sub (ws' := []) [] (by decide) rfl
    exact W.iret (v := (-1)) hx hb hr (fun t ht hW => ⟨⟨(-1), (), rfl, rfl, by rw [ht]; exact hP9, hD9⟩, hS.F ht⟩) hS.2.2 dX10_run_23
  · refine lv_iload_n hx hb dX10_run_4 rfl (lv_at hl 2 rfl) ?_
    refine lv_sipush (v := 256) hx hb dX10_run_5 (by decide) ?_
    refine lv_icmp_ge (tgt := 22) hx hb dX10_run_8 (by decide) (fun c_217 => ?_) (fun c_217 => ?_)
    · refine lv_iconst (v := (-1)) hx hb dX10_run_22 (by decide) ?_
      have hP9 := hP.sub (ws' := []) [] rfl
      have hD9 := hD.sub (ws' := []) [] (by decide) rfl
      exact W.iret (v := (-1)) hx hb hr (fun t ht hW => ⟨⟨(-1), (), rfl, rfl, by rw [ht]; exact hP9, hD9⟩, hS.F ht⟩) hS.2.2 dX10_run_23
    · refine lv_aload_n hx hb dX10_run_11 rfl (lv_at hl 0 rfl) ?_
      refine va_get (D := (dC, dI)) (ci := 9) (v := .ref scn) (C := RX10) (T := TX10) (N := 13) hx hb hts iwwsX10_run_10 hown hK hP 0 rfl rfl 7 (by decide) (hts (.fieldLink RX10 45 "NothingJudge" "scene" "LNothingJudge$Scene;") fwwsX10_run_45) (fun _ h9 => h9) rfl dX10_run_12 ?_
      refine lv_iload_n hx hb dX10_run_15 rfl (lv_at hl 1 rfl) ?_
      have hPc := hP.sub (ws' := [(scn, .inr (6, [.ref g, .int (-1), .ref td])), (g, .inr (3, [.ref gc, .ref ga1, .ref ga2, .ref ga3, .ref ga4, .ref ga5, .ref ga6, .ref ga7, .ref ga8, .int 0, .int 0, .int 0, .int 0, .int (-1)]))]) [1, 2] rfl
      have hDc := hD.sub (ws' := [(scn, .inr (6, [.ref g, .int (-1), .ref td])), (g, .inr (3, [.ref gc, .ref ga1, .ref ga2, .ref ga3, .ref ga4, .ref ga5, .ref ga6, .ref ga7, .ref ga8, .int 0, .int 0, .int 0, .int 0, .int (-1)]))]) [1, 2] (by decide) rfl
      have hFc := va_free (wc := [(scn, .inr (6, [.ref g, .int (-1), .ref td])), (g, .inr (3, [.ref gc, .ref ga1, .ref ga2, .ref ga3, .ref ga4, .ref ga5, .ref ga6, .ref ga7, .ref ga8, .int 0, .int 0, .int 0, .int 0, .int (-1)]))]) hD hS hA [1, 2] rfl
      refine va_calli (va_runV (As := [.int a]) (rest := []) ⟨hx, hb, hml, hown, hts⟩ (c_allows l dC dI cI cB cL cZ (scn) (g) (td) (gc) (ga1) (ga2) (ga3) (ga4) (ga5) (ga6) (ga7) (ga8) (a) H.size) (cwV 1 hts gX10_run_X7_allows rfl rfl rfl (by decide +kernel) ⟨Nat.le_of_ble_eq_true rfl, Nat.le_of_ble_eq_true rfl⟩) ⟨cP_fb, va_recv hK hPc (ci := 6) (q0 := 0) rfl rfl, fun U hU hW => cP_pre hPc hK hDc hN U hU hW⟩ rfl rfl hl.1 rfl (lv_room (Nat.le_of_ble_eq_true rfl)) dX10_run_16 ⟨Nat.le_of_ble_eq_true rfl, Nat.le_of_ble_eq_true rfl⟩) hS (fun q _ h => hFc q h) hFc (fun r_218 u t H1 locs ht hvm hw hB hz1 hk1 hS => ?_)
      obtain ⟨hP1, hD1⟩ := hB
      rw [ht] at hP1
      obtain ⟨hP, hD⟩ := va_join (wr := [(h0, .inr (9, [.ref tp, .int 0, .ref tok, .ref sp, .ref rdr, .int 0, .int (-1), .ref scn, .ref fct, .ref rnr, .ref trl, .ref mnd, .ref rrw]))]) (w1 := []) hP hD [1, 2] [0] rfl rfl (by decide) (by decide) hk1 hFc hP1 hD1
      generalize H1 = H at hP hS ⊢
      have hP : va_P (dC, dI) vwCl [(h0, .inr (9, [.ref tp, .int 0, .ref tok, .ref sp, .ref rdr, .int 0, .int (-1), .ref scn, .ref fct, .ref rnr, .ref trl, .ref mnd, .ref rrw]))] H := hP
      have hD : va_D A [(h0, .inr (9, [.ref tp, .int 0, .ref tok, .ref sp, .ref rdr, .int 0, .int (-1), .ref scn, .ref fct, .ref rnr, .ref trl, .ref mnd, .ref rrw]))] := hD
      obtain rfl : r_218 = 0 := hw
      refine lv_if_ne (tgt := 24) hx hb dX10_run_19 (by decide) (fun c9 => absurd c9 (by decide)) (fun _ => ?_)
      refine lv_iconst (v := (-1)) hx hb dX10_run_22 (by decide) ?_
      have hP9 := hP.sub (ws' := []) [] rfl
      have hD9 := hD.sub (ws' := []) [] (by decide) rfl
      exact W.iret (v := (-1)) hx hb hr (fun t ht hW => ⟨⟨(-1), (), rfl, rfl, by rw [ht]; exact hP9, hD9⟩, hS.F ht⟩) hS.2.2 dX10_run_23

set_option maxHeartbeats 4000000 in
set_option maxRecDepth 100000 in
theorem c_mend (l : Launch) (dC : Nat → ClassId) (dI : Nat → Nat → Nat) (cI cB cL cZ : ClassId) (h0 : Nat) (tp : Nat) (tok : Nat) (sp : Nat) (rdr : Nat) (scn : Nat) (fct : Nat) (rnr : Nat) (trl : Nat) (mnd : Nat) (rrw : Nat) (g : Nat) (td : Nat) (gc : Nat) (ga1 : Nat) (ga2 : Nat) (ga3 : Nat) (ga4 : Nat) (ga5 : Nat) (ga6 : Nat) (ga7 : Nat) (ga8 : Nat) (sz : Nat)  : Met l yX10_mend wsX10_mend ({ frames := 0, cells := 0, slots := 0, locals := 0 }) (cP (dC, dI) (kTy cI cB cL cZ) [.ref h0] [(h0, .inr (9, [.ref tp, .int 0, .ref tok, .ref sp, .ref rdr, .int 0, .int (-1), .ref scn, .ref fct, .ref rnr, .ref trl, .ref mnd, .ref rrw])), (scn, .inr (6, [.ref g, .int (-1), .ref td])), (g, .inr (3, [.ref gc, .ref ga1, .ref ga2, .ref ga3, .ref ga4, .ref ga5, .ref ga6, .ref ga7, .ref ga8, .int 0, .int 0, .int 0, .int 0, .int (-1)]))] sz) (va_Qi (fun (r : Int32) (_ : Unit) => r = -1) (fun (_ : Unit) (t : State) => va_P (dC, dI) vwCl [] t.heap ∧ va_D (va_A [(h0, .inr (9, [.ref tp, .int 0, .ref tok, .ref sp, .ref rdr, .int 0, .int (-1), .ref scn, .ref fct, .ref rnr, .ref trl, .ref mnd, .ref rrw])), (scn, .inr (6, [.ref g, .int (-1), .ref td])), (g, .inr (3, [.ref gc, .ref ga1, .ref ga2, .ref ga3, .ref ga4, .ref ga5, .ref ga6, .ref ga7, .ref ga8, .int 0, .int 0, .int 0, .int 0, .int (-1)]))] sz) []) (va_A [(h0, .inr (9, [.ref tp, .int 0, .ref tok, .ref sp, .ref rdr, .int 0, .int (-1), .ref scn, .ref fct, .ref rnr, .ref trl, .ref mnd, .ref rrw])), (scn, .inr (6, [.ref g, .int (-1), .ref td])), (g, .inr (3, [.ref gc, .ref ga1, .ref ga2, .ref ga3, .ref ga4, .ref ga5, .ref ga6, .ref ga7, .ref ga8, .int 0, .int 0, .int 0, .int 0, .int (-1)]))] sz)) 0 0 (va_A [(h0, .inr (9, [.ref tp, .int 0, .ref tok, .ref sp, .ref rdr, .int 0, .int (-1), .ref scn, .ref fct, .ref rnr, .ref trl, .ref mnd, .ref rrw])), (scn, .inr (6, [.ref g, .int (-1), .ref td])), (g, .inr (3, [.ref gc, .ref ga1, .ref ga2, .ref ga3, .ref ga4, .ref ga5, .ref ga6, .ref ga7, .ref ga8, .int 0, .int 0, .int 0, .int 0, .int (-1)]))] sz) := by
  refine Met.ofW (cc := cX10_mend) (maxL := 1) (ret := (some .int)) (by decide) rfl ?_
  intro p e s m args below meth c s₁ B hml hv
  obtain ⟨rfl, hsz, hP, hK, hD0, hN⟩ := hv
  have hx := B.exec
  have hb := B.bytes
  have hr := B.returns
  have hts := atoms_spec (ws := wsX10_mend) B.pre
  have hown : s.vm.findClass RX10 = some m.cls := findClass_of_methodNamed B.named
  have hlocks := B.notSynchronized
  subst hsz
  have hD := hD0.self (sz := s.heap.size)
  generalize hAe : va_A [(h0, .inr (9, [.ref tp, .int 0, .ref tok, .ref sp, .ref rdr, .int 0, .int (-1), .ref scn, .ref fct, .ref rnr, .ref trl, .ref mnd, .ref rrw])), (scn, .inr (6, [.ref g, .int (-1), .ref td])), (g, .inr (3, [.ref gc, .ref ga1, .ref ga2, .ref ga3, .ref ga4, .ref ga5, .ref ga6, .ref ga7, .ref ga8, .int 0, .int 0, .int 0, .int 0, .int (-1)]))] s.heap.size = A at hD ⊢
  have hA : ∀ q : Nat, s.heap.size ≤ q → A q := fun q h => by rw [← hAe]; exact Or.inr h
  have hl := lv_entry ([.ref h0]) (n := 1) (Nat.le_of_ble_eq_true rfl)
  rw [lg_entry_eq]
  generalize (lg_sl ([.ref h0]) ++ List.replicate (1 - (lg_sl ([.ref h0])).length) Slot.unset).toArray = ls at hl ⊢
  have hl : lv_has ls 1 [(0, .ref h0)] := hl
  refine k_H (A := A) hP (fun H hP hS => ?_)
  have hP : va_P (dC, dI) vwCl [(h0, .inr (9, [.ref tp, .int 0, .ref tok, .ref sp, .ref rdr, .int 0, .int (-1), .ref scn, .ref fct, .ref rnr, .ref trl, .ref mnd, .ref rrw])), (scn, .inr (6, [.ref g, .int (-1), .ref td])), (g, .inr (3, [.ref gc, .ref ga1, .ref ga2, .ref ga3, .ref ga4, .ref ga5, .ref ga6, .ref ga7, .ref ga8, .int 0, .int 0, .int 0, .int 0, .int (-1)]))] H := hP
  have hD : va_D A [(h0, .inr (9, [.ref tp, .int 0, .ref tok, .ref sp, .ref rdr, .int 0, .int (-1), .ref scn, .ref fct, .ref rnr, .ref trl, .ref mnd, .ref rrw])), (scn, .inr (6, [.ref g, .int (-1), .ref td])), (g, .inr (3, [.ref gc, .ref ga1, .ref ga2, .ref ga3, .ref ga4, .ref ga5, .ref ga6, .ref ga7, .ref ga8, .int 0, .int 0, .int 0, .int 0, .int (-1)]))] := hD
  refine lv_aload_n hx hb dX10_mend_0 rfl (lv_at hl 0 rfl) ?_
  refine va_get (D := (dC, dI)) (ci := 9) (v := .ref scn) (C := RX10) (T := TX10) (N := 13) hx hb hts iwwsX10_mend_10 hown hK hP 0 rfl rfl 7 (by decide) (hts (.fieldLink RX10 45 "NothingJudge" "scene" "LNothingJudge$Scene;") fwwsX10_mend_45) (fun _ h9 => h9) rfl dX10_mend_1 ?_
  refine va_get (D := (dC, dI)) (ci := 6) (v := .ref g) (C := RX7) (T := TX7) (N := 3) hx hb hts iwwsX10_mend_7 hown hK hP 1 rfl rfl 0 (by decide) (hts (.fieldLink RX10 110 "NothingJudge$Scene" "program" "LNothingJudge$Program;") fwwsX10_mend_110) (fun _ h9 => h9) rfl dX10_mend_4 ?_
  refine va_get (D := (dC, dI)) (ci := 3) (v := .int 0) (C := RX3) (T := TX3) (N := 14) hx hb hts iwwsX10_mend_3 hown hK hP 2 rfl rfl 10 (by decide) (hts (.fieldLink RX10 122 "NothingJudge$Program" "routines" "I") fwwsX10_mend_122) (fun _ h9 => h9) rfl dX10_mend_7 ?_
  refine lv_if_ne (tgt := 15) hx hb dX10_mend_10 (by decide) (fun c9 => absurd c9 (by decide)) (fun _ => ?_)
  refine lv_iconst (v := (-1)) hx hb dX10_mend_13 (by decide) ?_
  have hP9 := hP.sub (ws' := []) [] rfl
  have hD9 := hD.sub (ws' := []) [] (by decide) rfl
  exact W.iret (v := (-1)) hx hb hr (fun t ht hW => ⟨⟨(-1), (), rfl, rfl, by rw [ht]; exact hP9, hD9⟩, hS.F ht⟩) hS.2.2 dX10_mend_14

set_option maxHeartbeats 4000000 in
set_option maxRecDepth 100000 in
theorem c_mended (l : Launch) (dC : Nat → ClassId) (dI : Nat → Nat → Nat) (cI cB cL cZ : ClassId) (h0 : Nat) (tp : Nat) (tok : Nat) (sp : Nat) (rdr : Nat) (scn : Nat) (fct : Nat) (rnr : Nat) (trl : Nat) (mnd : Nat) (rrw : Nat) (md0 : Nat) (mpr : Nat) (md2 : Nat) (md3 : Nat) (a : Int32) (sz : Nat)  : Met l yX10_mended wsX10_mended ({ frames := 0, cells := 0, slots := 0, locals := 0 }) (cP (dC, dI) (kTy cI cB cL cZ) [.ref h0, .int a] [(h0, .inr (9, [.ref tp, .int 0, .ref tok, .ref sp, .ref rdr, .int 0, .int (-1), .ref scn, .ref fct, .ref rnr, .ref trl, .ref mnd, .ref rrw])), (mnd, .inr (2, [.ref md0, .ref mpr, .ref md2, .ref md3, .int 1, .int 0, .int 0, .int (-1), .int 0, .int 0]))] sz) (va_Qi (fun (r : Int32) (_ : Unit) => r = -1) (fun (_ : Unit) (t : State) => va_P (dC, dI) vwCl [] t.heap ∧ va_D (va_A [(h0, .inr (9, [.ref tp, .int 0, .ref tok, .ref sp, .ref rdr, .int 0, .int (-1), .ref scn, .ref fct, .ref rnr, .ref trl, .ref mnd, .ref rrw])), (mnd, .inr (2, [.ref md0, .ref mpr, .ref md2, .ref md3, .int 1, .int 0, .int 0, .int (-1), .int 0, .int 0]))] sz) []) (va_A [(h0, .inr (9, [.ref tp, .int 0, .ref tok, .ref sp, .ref rdr, .int 0, .int (-1), .ref scn, .ref fct, .ref rnr, .ref trl, .ref mnd, .ref rrw])), (mnd, .inr (2, [.ref md0, .ref mpr, .ref md2, .ref md3, .int 1, .int 0, .int 0, .int (-1), .int 0, .int 0]))] sz)) 0 0 (va_A [(h0, .inr (9, [.ref tp, .int 0, .ref tok, .ref sp, .ref rdr, .int 0, .int (-1), .ref scn, .ref fct, .ref rnr, .ref trl, .ref mnd, .ref rrw])), (mnd, .inr (2, [.ref md0, .ref mpr, .ref md2, .ref md3, .int 1, .int 0, .int 0, .int (-1), .int 0, .int 0]))] sz) := by
  refine Met.ofW (cc := cX10_mended) (maxL := 2) (ret := (some .int)) (by decide) rfl ?_
  intro p e s m args below meth c s₁ B hml hv
  obtain ⟨rfl, hsz, hP, hK, hD0, hN⟩ := hv
  have hx := B.exec
  have hb := B.bytes
  have hr := B.returns
  have hts := atoms_spec (ws := wsX10_mended) B.pre
  have hown : s.vm.findClass RX10 = some m.cls := findClass_of_methodNamed B.named
  have hlocks := B.notSynchronized
  subst hsz
  have hD := hD0.self (sz := s.heap.size)
  generalize hAe : va_A [(h0, .inr (9, [.ref tp, .int 0, .ref tok, .ref sp, .ref rdr, .int 0, .int (-1), .ref scn, .ref fct, .ref rnr, .ref trl, .ref mnd, .ref rrw])), (mnd, .inr (2, [.ref md0, .ref mpr, .ref md2, .ref md3, .int 1, .int 0, .int 0, .int (-1), .int 0, .int 0]))] s.heap.size = A at hD ⊢
  have hA : ∀ q : Nat, s.heap.size ≤ q → A q := fun q h => by rw [← hAe]; exact Or.inr h
  have hl := lv_entry ([.ref h0, .int a]) (n := 2) (Nat.le_of_ble_eq_true rfl)
  rw [lg_entry_eq]
  generalize (lg_sl ([.ref h0, .int a]) ++ List.replicate (2 - (lg_sl ([.ref h0, .int a])).length) Slot.unset).toArray = ls at hl ⊢
  have hl : lv_has ls 2 [(0, .ref h0), (1, .int a)] := hl
  refine k_H (A := A) hP (fun H hP hS => ?_)
  have hP : va_P (dC, dI) vwCl [(h0, .inr (9, [.ref tp, .int 0, .ref tok, .ref sp, .ref rdr, .int 0, .int (-1), .ref scn, .ref fct, .ref rnr, .ref trl, .ref mnd, .ref rrw])), (mnd, .inr (2, [.ref md0, .ref mpr, .ref md2, .ref md3, .int 1, .int 0, .int 0, .int (-1), .int 0, .int 0]))] H := hP
  have hD : va_D A [(h0, .inr (9, [.ref tp, .int 0, .ref tok, .ref sp, .ref rdr, .int 0, .int (-1), .ref scn, .ref fct, .ref rnr, .ref trl, .ref mnd, .ref rrw])), (mnd, .inr (2, [.ref md0, .ref mpr, .ref md2, .ref md3, .int 1, .int 0, .int 0, .int (-1), .int 0, .int 0]))] := hD
  refine lv_aload_n hx hb dX10_mended_0 rfl (lv_at hl 0 rfl) ?_
  refine va_get (D := (dC, dI)) (ci := 9) (v := .ref mnd) (C := RX10) (T := TX10) (N := 13) hx hb hts iwwsX10_mended_10 hown hK hP 0 rfl rfl 11 (by decide) (hts (.fieldLink RX10 79 "NothingJudge" "mender" "LNothingJudge$Mender;") fwwsX10_mended_79) (fun _ h9 => h9) rfl dX10_mended_1 ?_
  refine va_get (D := (dC, dI)) (ci := 2) (v := .int (-1)) (C := RX2) (T := TX2) (N := 10) hx hb hts iwwsX10_mended_2 hown hK hP 1 rfl rfl 7 (by decide) (hts (.fieldLink RX10 228 "NothingJudge$Mender" "cost" "I") fwwsX10_mended_228) (fun _ h9 => h9) rfl dX10_mended_4 ?_
  refine lv_iconst (v := (-1)) hx hb dX10_mended_7 (by decide) ?_
  refine lv_icmp_ne (tgt := 13) hx hb dX10_mended_8 (by decide) (fun c9 => absurd c9 (by decide)) (fun _ => ?_)
  refine lv_iconst (v := (-1)) hx hb dX10_mended_11 (by decide) ?_
  have hP9 := hP.sub (ws' := []) [] rfl
  have hD9 := hD.sub (ws' := []) [] (by decide) rfl
  exact W.iret (v := (-1)) hx hb hr (fun t ht hW => ⟨⟨(-1), (), rfl, rfl, by rw [ht]; exact hP9, hD9⟩, hS.F ht⟩) hS.2.2 dX10_mended_12

set_option maxHeartbeats 4000000 in
set_option maxRecDepth 100000 in
theorem c_ran (l : Launch) (dC : Nat → ClassId) (dI : Nat → Nat → Nat) (cI cB cL cZ : ClassId) (h0 : Nat) (tp : Nat) (tok : Nat) (sp : Nat) (rdr : Nat) (scn : Nat) (fct : Nat) (rnr : Nat) (trl : Nat) (mnd : Nat) (rrw : Nat) (a : Int32) (f : Nat → Int32) (sz : Nat) (hf : ∀ j, j < 4 → f j = -1) : Met l yX10_ran wsX10_ran ({ frames := 0, cells := 0, slots := 0, locals := 0 }) (cP (dC, dI) (kTy cI cB cL cZ) [.ref h0, .int a] [(h0, .inr (9, [.ref tp, .int 0, .ref tok, .ref sp, .ref rdr, .int 0, .int (-1), .ref scn, .ref fct, .ref rnr, .ref trl, .ref mnd, .ref rrw])), (rrw, .inl (cI, 4, .inl f))] sz) (va_Qi (fun (r : Int32) (_ : Unit) => r = -1) (fun (_ : Unit) (t : State) => va_P (dC, dI) vwCl [] t.heap ∧ va_D (va_A [(h0, .inr (9, [.ref tp, .int 0, .ref tok, .ref sp, .ref rdr, .int 0, .int (-1), .ref scn, .ref fct, .ref rnr, .ref trl, .ref mnd, .ref rrw])), (rrw, .inl (cI, 4, .inl f))] sz) []) (va_A [(h0, .inr (9, [.ref tp, .int 0, .ref tok, .ref sp, .ref rdr, .int 0, .int (-1), .ref scn, .ref fct, .ref rnr, .ref trl, .ref mnd, .ref rrw])), (rrw, .inl (cI, 4, .inl f))] sz)) 0 0 (va_A [(h0, .inr (9, [.ref tp, .int 0, .ref tok, .ref sp, .ref rdr, .int 0, .int (-1), .ref scn, .ref fct, .ref rnr, .ref trl, .ref mnd, .ref rrw])), (rrw, .inl (cI, 4, .inl f))] sz) := by
  refine Met.ofW (cc := cX10_ran) (maxL := 2) (ret := (some .int)) (by decide) rfl ?_
  intro p e s m args below meth c s₁ B hml hv
  obtain ⟨rfl, hsz, hP, hK, hD0, hN⟩ := hv
  have hx := B.exec
  have hb := B.bytes
  have hr := B.returns
  have hts := atoms_spec (ws := wsX10_ran) B.pre
  have hown : s.vm.findClass RX10 = some m.cls := findClass_of_methodNamed B.named
  have hlocks := B.notSynchronized
  subst hsz
  have hD := hD0.self (sz := s.heap.size)
  generalize hAe : va_A [(h0, .inr (9, [.ref tp, .int 0, .ref tok, .ref sp, .ref rdr, .int 0, .int (-1), .ref scn, .ref fct, .ref rnr, .ref trl, .ref mnd, .ref rrw])), (rrw, .inl (cI, 4, .inl f))] s.heap.size = A at hD ⊢
  have hA : ∀ q : Nat, s.heap.size ≤ q → A q := fun q h => by rw [← hAe]; exact Or.inr h
  have hl := lv_entry ([.ref h0, .int a]) (n := 2) (Nat.le_of_ble_eq_true rfl)
  rw [lg_entry_eq]
  generalize (lg_sl ([.ref h0, .int a]) ++ List.replicate (2 - (lg_sl ([.ref h0, .int a])).length) Slot.unset).toArray = ls at hl ⊢
  have hl : lv_has ls 2 [(0, .ref h0), (1, .int a)] := hl
  refine k_H (A := A) hP (fun H hP hS => ?_)
  have hP : va_P (dC, dI) vwCl [(h0, .inr (9, [.ref tp, .int 0, .ref tok, .ref sp, .ref rdr, .int 0, .int (-1), .ref scn, .ref fct, .ref rnr, .ref trl, .ref mnd, .ref rrw])), (rrw, .inl (cI, 4, .inl f))] H := hP
  have hD : va_D A [(h0, .inr (9, [.ref tp, .int 0, .ref tok, .ref sp, .ref rdr, .int 0, .int (-1), .ref scn, .ref fct, .ref rnr, .ref trl, .ref mnd, .ref rrw])), (rrw, .inl (cI, 4, .inl f))] := hD
  refine lv_iload_n hx hb dX10_ran_0 rfl (lv_at hl 1 rfl) ?_
  refine lv_if_lt (tgt := 13) hx hb dX10_ran_1 (by decide) (fun c_219 => ?_) (fun c_219 => ?_)
  · refine lv_iconst (v := (-1)) hx hb dX10_ran_13 (by decide) ?_
    refine lv_goto (tgt := 23) hx hb dX10_ran_14 (by decide) ?_
    have hP9 := hP.sub (ws' := []) [] rfl
    have hD9 := hD.sub (ws' := []) [] (by decide) rfl
    exact W.iret (v := (-1)) hx hb hr (fun t ht hW => ⟨⟨(-1), (), rfl, rfl, by rw [ht]; exact hP9, hD9⟩, hS.F ht⟩) hS.2.2 dX10_ran_23
  · refine lv_iload_n hx hb dX10_ran_4 rfl (lv_at hl 1 rfl) ?_
    refine lv_aload_n hx hb dX10_ran_5 rfl (lv_at hl 0 rfl) ?_
    refine va_get (D := (dC, dI)) (ci := 9) (v := .ref rrw) (C := RX10) (T := TX10) (N := 13) hx hb hts iwwsX10_ran_10 hown hK hP 0 rfl rfl 12 (by decide) (hts (.fieldLink RX10 83 "NothingJudge" "ranRow" "[I") fwwsX10_ran_83) (fun _ h9 => h9) rfl dX10_ran_6 ?_
    refine va_alen hx hb hK hP 1 0 rfl rfl (v := 4) (by show Int32.ofNat 4 = 4; decide) dX10_ran_9 ?_
    refine lv_icmp_lt (tgt := 17) hx hb dX10_ran_10 (by decide) (fun c_220 => ?_) (fun c_220 => ?_)
    · refine lv_aload_n hx hb dX10_ran_17 rfl (lv_at hl 0 rfl) ?_
      refine va_get (D := (dC, dI)) (ci := 9) (v := .ref rrw) (C := RX10) (T := TX10) (N := 13) hx hb hts iwwsX10_ran_10 hown hK hP 0 rfl rfl 12 (by decide) (hts (.fieldLink RX10 83 "NothingJudge" "ranRow" "[I") fwwsX10_ran_83) (fun _ h9 => h9) rfl dX10_ran_18 ?_
      refine lv_iload_n hx hb dX10_ran_21 rfl (lv_at hl 1 rfl) ?_
      refine va_iald hx hb hK hP 1 0 rfl rfl (in_of (y := 4) (by decide) c_219 (Int32.not_le.mpr c_220) (by decide)) dX10_ran_22 ?_
      refine lv_topi (fun y_221 ey_221 => ?_)
      obtain rfl : y_221 = (-1) := ey_221.trans (hf _ (cl_of (y := 4) (by decide) c_219 (Int32.not_le.mpr c_220)))
      have hP9 := hP.sub (ws' := []) [] rfl
      have hD9 := hD.sub (ws' := []) [] (by decide) rfl
      exact W.iret (v := (-1)) hx hb hr (fun t ht hW => ⟨⟨(-1), (), rfl, rfl, by rw [ht]; exact hP9, hD9⟩, hS.F ht⟩) hS.2.2 dX10_ran_23
    · refine lv_iconst (v := (-1)) hx hb dX10_ran_13 (by decide) ?_
      refine lv_goto (tgt := 23) hx hb dX10_ran_14 (by decide) ?_
      have hP9 := hP.sub (ws' := []) [] rfl
      have hD9 := hD.sub (ws' := []) [] (by decide) rfl
      exact W.iret (v := (-1)) hx hb hr (fun t ht hW => ⟨⟨(-1), (), rfl, rfl, by rw [ht]; exact hP9, hD9⟩, hS.F ht⟩) hS.2.2 dX10_ran_23

set_option maxHeartbeats 4000000 in
set_option maxRecDepth 100000 in
theorem c_priceY (l : Launch) (dC : Nat → ClassId) (dI : Nat → Nat → Nat) (cI cB cL cZ : ClassId) (h0 : Nat) (tp : Nat) (tok : Nat) (sp : Nat) (rdr : Nat) (scn : Nat) (fct : Nat) (rnr : Nat) (trl : Nat) (mnd : Nat) (rrw : Nat) (md0 : Nat) (mpr : Nat) (md2 : Nat) (md3 : Nat) (a : Int32) (b : Int32) (f : Nat → Int32) (sz : Nat) (h1 : ¬ a < 0) (h2 : ¬ 3 < a) (h3 : ¬ b < 1) (h4 : b ≤ 99) : Met l yX10_price wsX10_price ({ frames := 1, cells := 0, slots := 0, locals := 22 }) (cP (dC, dI) (kTy cI cB cL cZ) [.ref h0, .int a, .int b] [(h0, .inr (9, [.ref tp, .int 0, .ref tok, .ref sp, .ref rdr, .int 0, .int (-1), .ref scn, .ref fct, .ref rnr, .ref trl, .ref mnd, .ref rrw])), (mnd, .inr (2, [.ref md0, .ref mpr, .ref md2, .ref md3, .int 1, .int 0, .int 0, .int (-1), .int 0, .int 0])), (mpr, .inl (cI, 4, .inl f))] sz) (va_Qi (fun (r : Int32) (_ : Unit) => r = 1) (fun (_ : Unit) (t : State) => va_P (dC, dI) vwCl [] t.heap ∧ va_D (va_A [(h0, .inr (9, [.ref tp, .int 0, .ref tok, .ref sp, .ref rdr, .int 0, .int (-1), .ref scn, .ref fct, .ref rnr, .ref trl, .ref mnd, .ref rrw])), (mnd, .inr (2, [.ref md0, .ref mpr, .ref md2, .ref md3, .int 1, .int 0, .int 0, .int (-1), .int 0, .int 0])), (mpr, .inl (cI, 4, .inl f))] sz) []) (va_A [(h0, .inr (9, [.ref tp, .int 0, .ref tok, .ref sp, .ref rdr, .int 0, .int (-1), .ref scn, .ref fct, .ref rnr, .ref trl, .ref mnd, .ref rrw])), (mnd, .inr (2, [.ref md0, .ref mpr, .ref md2, .ref md3, .int 1, .int 0, .int 0, .int (-1), .int 0, .int 0])), (mpr, .inl (cI, 4, .inl f))] sz)) 0 0 (va_A [(h0, .inr (9, [.ref tp, .int 0, .ref tok, .ref sp, .ref rdr, .int 0, .int (-1), .ref scn, .ref fct, .ref rnr, .ref trl, .ref mnd, .ref rrw])), (mnd, .inr (2, [.ref md0, .ref mpr, .ref md2, .ref md3, .int 1, .int 0, .int 0, .int (-1), .int 0, .int 0])), (mpr, .inl (cI, 4, .inl f))] sz) := by
  refine Met.ofW (cc := cX10_price) (maxL := 3) (ret := (some .boolean)) (by decide) rfl ?_
  intro p e s m args below meth c s₁ B hml hv
  obtain ⟨rfl, hsz, hP, hK, hD0, hN⟩ := hv
  have hx := B.exec
  have hb := B.bytes
  have hr := B.returns
  have hts := atoms_spec (ws := wsX10_price) B.pre
  have hown : s.vm.findClass RX10 = some m.cls := findClass_of_methodNamed B.named
  have hlocks := B.notSynchronized
  subst hsz
  have hD := hD0.self (sz := s.heap.size)
  generalize hAe : va_A [(h0, .inr (9, [.ref tp, .int 0, .ref tok, .ref sp, .ref rdr, .int 0, .int (-1), .ref scn, .ref fct, .ref rnr, .ref trl, .ref mnd, .ref rrw])), (mnd, .inr (2, [.ref md0, .ref mpr, .ref md2, .ref md3, .int 1, .int 0, .int 0, .int (-1), .int 0, .int 0])), (mpr, .inl (cI, 4, .inl f))] s.heap.size = A at hD ⊢
  have hA : ∀ q : Nat, s.heap.size ≤ q → A q := fun q h => by rw [← hAe]; exact Or.inr h
  have hl := lv_entry ([.ref h0, .int a, .int b]) (n := 3) (Nat.le_of_ble_eq_true rfl)
  rw [lg_entry_eq]
  generalize (lg_sl ([.ref h0, .int a, .int b]) ++ List.replicate (3 - (lg_sl ([.ref h0, .int a, .int b])).length) Slot.unset).toArray = ls at hl ⊢
  have hl : lv_has ls 3 [(0, .ref h0), (1, .int a), (2, .int b)] := hl
  refine k_H (A := A) hP (fun H hP hS => ?_)
  have hP : va_P (dC, dI) vwCl [(h0, .inr (9, [.ref tp, .int 0, .ref tok, .ref sp, .ref rdr, .int 0, .int (-1), .ref scn, .ref fct, .ref rnr, .ref trl, .ref mnd, .ref rrw])), (mnd, .inr (2, [.ref md0, .ref mpr, .ref md2, .ref md3, .int 1, .int 0, .int 0, .int (-1), .int 0, .int 0])), (mpr, .inl (cI, 4, .inl f))] H := hP
  have hD : va_D A [(h0, .inr (9, [.ref tp, .int 0, .ref tok, .ref sp, .ref rdr, .int 0, .int (-1), .ref scn, .ref fct, .ref rnr, .ref trl, .ref mnd, .ref rrw])), (mnd, .inr (2, [.ref md0, .ref mpr, .ref md2, .ref md3, .int 1, .int 0, .int 0, .int (-1), .int 0, .int 0])), (mpr, .inl (cI, 4, .inl f))] := hD
  refine lv_iload_n hx hb dX10_price_0 rfl (lv_at hl 1 rfl) ?_
  refine lv_if_lt (tgt := 20) hx hb dX10_price_1 (by decide) (fun c9 => absurd c9 h1) (fun _ => ?_)
  refine lv_iload_n hx hb dX10_price_4 rfl (lv_at hl 1 rfl) ?_
  refine lv_iconst (v := 3) hx hb dX10_price_5 (by decide) ?_
  refine lv_icmp_gt (tgt := 20) hx hb dX10_price_6 (by decide) (fun c9 => absurd c9 h2) (fun _ => ?_)
  refine lv_iload_n hx hb dX10_price_9 rfl (lv_at hl 2 rfl) ?_
  refine lv_iconst (v := 1) hx hb dX10_price_10 (by decide) ?_
  refine lv_icmp_lt (tgt := 20) hx hb dX10_price_11 (by decide) (fun c9 => absurd c9 h3) (fun _ => ?_)
  refine lv_iload_n hx hb dX10_price_14 rfl (lv_at hl 2 rfl) ?_
  refine lv_bipush (v := 99) hx hb dX10_price_15 (by decide) ?_
  refine lv_icmp_le (tgt := 22) hx hb dX10_price_17 (by decide) (fun _ => ?_) (fun c9 => absurd h4 c9)
  refine lv_aload_n hx hb dX10_price_22 rfl (lv_at hl 0 rfl) ?_
  refine va_get (D := (dC, dI)) (ci := 9) (v := .ref mnd) (C := RX10) (T := TX10) (N := 13) hx hb hts iwwsX10_price_10 hown hK hP 0 rfl rfl 11 (by decide) (hts (.fieldLink RX10 79 "NothingJudge" "mender" "LNothingJudge$Mender;") fwwsX10_price_79) (fun _ h9 => h9) rfl dX10_price_23 ?_
  refine va_get (D := (dC, dI)) (ci := 2) (v := .ref mpr) (C := RX2) (T := TX2) (N := 10) hx hb hts iwwsX10_price_2 hown hK hP 1 rfl rfl 1 (by decide) (hts (.fieldLink RX10 218 "NothingJudge$Mender" "prices" "[I") fwwsX10_price_218) (fun _ h9 => h9) rfl dX10_price_26 ?_
  refine lv_iload_n hx hb dX10_price_29 rfl (lv_at hl 1 rfl) ?_
  refine lv_iload_n hx hb dX10_price_30 rfl (lv_at hl 2 rfl) ?_
  have hPc := hP.sub (ws' := [(mpr, .inl (cI, 4, .inl f))]) [2] rfl
  have hDc := hD.sub (ws' := [(mpr, .inl (cI, 4, .inl f))]) [2] (by decide) rfl
  have hFc := va_free (wc := [(mpr, .inl (cI, 4, .inl f))]) hD hS hA [2] rfl
  refine va_callv (va_runS (As := [.ref mpr, .int a, .int b]) (rest := []) ⟨hx, hb, hml, hown, hts⟩ (c_put l dC dI cI cB cL cZ (mpr) (a) (b) (f) H.size) (va_cwS 3 hts gX10_price_X5_put rfl rfl rfl (by decide +kernel) ⟨Nat.le_of_ble_eq_true rfl, Nat.le_of_ble_eq_true rfl⟩) ⟨cP_fb, fun U hU hW => cP_pre hPc hK hDc hN U hU hW⟩ rfl rfl hl.1 rfl (lv_room (Nat.le_of_ble_eq_true rfl)) dX10_price_31 ⟨Nat.le_of_ble_eq_true rfl, Nat.le_of_ble_eq_true rfl⟩) hS (fun q _ h => hFc q h) hFc (fun u t H1 locs ht hvm hw hB hz1 hk1 hS => ?_)
  obtain ⟨hP1, hD1⟩ := hB
  rw [ht] at hP1
  obtain ⟨hP, hD⟩ := va_join (wr := [(h0, .inr (9, [.ref tp, .int 0, .ref tok, .ref sp, .ref rdr, .int 0, .int (-1), .ref scn, .ref fct, .ref rnr, .ref trl, .ref mnd, .ref rrw])), (mnd, .inr (2, [.ref md0, .ref mpr, .ref md2, .ref md3, .int 1, .int 0, .int 0, .int (-1), .int 0, .int 0]))]) (w1 := []) hP hD [2] [0, 1] rfl rfl (by decide) (by decide) hk1 hFc hP1 hD1
  generalize H1 = H at hP hS ⊢
  have hP : va_P (dC, dI) vwCl [(h0, .inr (9, [.ref tp, .int 0, .ref tok, .ref sp, .ref rdr, .int 0, .int (-1), .ref scn, .ref fct, .ref rnr, .ref trl, .ref mnd, .ref rrw])), (mnd, .inr (2, [.ref md0, .ref mpr, .ref md2, .ref md3, .int 1, .int 0, .int 0, .int (-1), .int 0, .int 0]))] H := hP
  have hD : va_D A [(h0, .inr (9, [.ref tp, .int 0, .ref tok, .ref sp, .ref rdr, .int 0, .int (-1), .ref scn, .ref fct, .ref rnr, .ref trl, .ref mnd, .ref rrw])), (mnd, .inr (2, [.ref md0, .ref mpr, .ref md2, .ref md3, .int 1, .int 0, .int 0, .int (-1), .int 0, .int 0]))] := hD
  refine lv_aload_n hx hb dX10_price_34 rfl (lv_at hl 0 rfl) ?_
  refine va_get (D := (dC, dI)) (ci := 9) (v := .ref mnd) (C := RX10) (T := TX10) (N := 13) hx hb hts iwwsX10_price_10 hown hK hP 0 rfl rfl 11 (by decide) (hts (.fieldLink RX10 79 "NothingJudge" "mender" "LNothingJudge$Mender;") fwwsX10_price_79) (fun _ h9 => h9) rfl dX10_price_35 ?_
  refine lv_iconst (v := 1) hx hb dX10_price_38 (by decide) ?_
  refine va_put (D := (dC, dI)) (ci := 2) (v := .int 1) (ty := .boolean) (C := RX2) (T := TX2) (N := 10) hx hb hts iwwsX10_price_2 tyX2 tyX2_ok nmX2 hown hK hP hD hS 1 rfl rfl 4 (by decide) (hts (.fieldLink RX10 221 "NothingJudge$Mender" "stale" "Z") fwwsX10_price_221) (fun _ h9 => h9) rfl (by decide +kernel) rfl rfl (Nat.le_of_ble_eq_true rfl) dX10_price_39 (fun H locs hP hD hS => ?_)
  have hP : va_P (dC, dI) vwCl [(h0, .inr (9, [.ref tp, .int 0, .ref tok, .ref sp, .ref rdr, .int 0, .int (-1), .ref scn, .ref fct, .ref rnr, .ref trl, .ref mnd, .ref rrw])), (mnd, .inr (2, [.ref md0, .ref mpr, .ref md2, .ref md3, .int 1, .int 0, .int 0, .int (-1), .int 0, .int 0]))] H := hP
  have hD : va_D A [(h0, .inr (9, [.ref tp, .int 0, .ref tok, .ref sp, .ref rdr, .int 0, .int (-1), .ref scn, .ref fct, .ref rnr, .ref trl, .ref mnd, .ref rrw])), (mnd, .inr (2, [.ref md0, .ref mpr, .ref md2, .ref md3, .int 1, .int 0, .int 0, .int (-1), .int 0, .int 0]))] := hD
  refine lv_iconst (v := 1) hx hb dX10_price_42 (by decide) ?_
  have hP9 := hP.sub (ws' := []) [] rfl
  have hD9 := hD.sub (ws' := []) [] (by decide) rfl
  exact W.zret (v := 1) (ty := .boolean) hx hb hr rfl (fun t ht hW => ⟨⟨1, (), rfl, rfl, by rw [ht]; exact hP9, hD9⟩, hS.F ht⟩) hS.2.2 dX10_price_43

set_option maxHeartbeats 4000000 in
set_option maxRecDepth 100000 in
theorem c_priceN (l : Launch) (dC : Nat → ClassId) (dI : Nat → Nat → Nat) (cI cB cL cZ : ClassId) (h0 : Nat) (tp : Nat) (tok : Nat) (sp : Nat) (rdr : Nat) (scn : Nat) (fct : Nat) (rnr : Nat) (trl : Nat) (mnd : Nat) (rrw : Nat) (a : Int32) (b : Int32) (sz : Nat) (hb9 : a < 0 ∨ 3 < a ∨ b < 1 ∨ ¬ b ≤ 99) : Met l yX10_price wsX10_price ({ frames := 0, cells := 0, slots := 0, locals := 0 }) (cP (dC, dI) (kTy cI cB cL cZ) [.ref h0, .int a, .int b] [(h0, .inr (9, [.ref tp, .int 0, .ref tok, .ref sp, .ref rdr, .int 0, .int (-1), .ref scn, .ref fct, .ref rnr, .ref trl, .ref mnd, .ref rrw]))] sz) (va_Qi (fun (r : Int32) (_ : Unit) => r = 0) (fun (_ : Unit) (t : State) => va_P (dC, dI) vwCl [] t.heap ∧ va_D (va_A [(h0, .inr (9, [.ref tp, .int 0, .ref tok, .ref sp, .ref rdr, .int 0, .int (-1), .ref scn, .ref fct, .ref rnr, .ref trl, .ref mnd, .ref rrw]))] sz) []) (va_A [(h0, .inr (9, [.ref tp, .int 0, .ref tok, .ref sp, .ref rdr, .int 0, .int (-1), .ref scn, .ref fct, .ref rnr, .ref trl, .ref mnd, .ref rrw]))] sz)) 0 0 (va_A [(h0, .inr (9, [.ref tp, .int 0, .ref tok, .ref sp, .ref rdr, .int 0, .int (-1), .ref scn, .ref fct, .ref rnr, .ref trl, .ref mnd, .ref rrw]))] sz) := by
  refine Met.ofW (cc := cX10_price) (maxL := 3) (ret := (some .boolean)) (by decide) rfl ?_
  intro p e s m args below meth c s₁ B hml hv
  obtain ⟨rfl, hsz, hP, hK, hD0, hN⟩ := hv
  have hx := B.exec
  have hb := B.bytes
  have hr := B.returns
  have hts := atoms_spec (ws := wsX10_price) B.pre
  have hown : s.vm.findClass RX10 = some m.cls := findClass_of_methodNamed B.named
  have hlocks := B.notSynchronized
  subst hsz
  have hD := hD0.self (sz := s.heap.size)
  generalize hAe : va_A [(h0, .inr (9, [.ref tp, .int 0, .ref tok, .ref sp, .ref rdr, .int 0, .int (-1), .ref scn, .ref fct, .ref rnr, .ref trl, .ref mnd, .ref rrw]))] s.heap.size = A at hD ⊢
  have hA : ∀ q : Nat, s.heap.size ≤ q → A q := fun q h => by rw [← hAe]; exact Or.inr h
  have hl := lv_entry ([.ref h0, .int a, .int b]) (n := 3) (Nat.le_of_ble_eq_true rfl)
  rw [lg_entry_eq]
  generalize (lg_sl ([.ref h0, .int a, .int b]) ++ List.replicate (3 - (lg_sl ([.ref h0, .int a, .int b])).length) Slot.unset).toArray = ls at hl ⊢
  have hl : lv_has ls 3 [(0, .ref h0), (1, .int a), (2, .int b)] := hl
  refine k_H (A := A) hP (fun H hP hS => ?_)
  have hP : va_P (dC, dI) vwCl [(h0, .inr (9, [.ref tp, .int 0, .ref tok, .ref sp, .ref rdr, .int 0, .int (-1), .ref scn, .ref fct, .ref rnr, .ref trl, .ref mnd, .ref rrw]))] H := hP
  have hD : va_D A [(h0, .inr (9, [.ref tp, .int 0, .ref tok, .ref sp, .ref rdr, .int 0, .int (-1), .ref scn, .ref fct, .ref rnr, .ref trl, .ref mnd, .ref rrw]))] := hD
  refine lv_iload_n hx hb dX10_price_0 rfl (lv_at hl 1 rfl) ?_
  refine lv_if_lt (tgt := 20) hx hb dX10_price_1 (by decide) (fun c_223 => ?_) (fun c_223 => ?_)
  · refine lv_iconst (v := 0) hx hb dX10_price_20 (by decide) ?_
    have hP9 := hP.sub (ws' := []) [] rfl
    have hD9 := hD.sub (ws' := []) [] (by decide) rfl
    exact W.zret (v := 0) (ty := .boolean) hx hb hr rfl (fun t ht hW => ⟨⟨0, (), rfl, rfl, by rw [ht]; exact hP9, hD9⟩, hS.F ht⟩) hS.2.2 dX10_price_21
  · refine lv_iload_n hx hb dX10_price_4 rfl (lv_at hl 1 rfl) ?_
    refine lv_iconst (v := 3) hx hb dX10_price_5 (by decide) ?_
    refine lv_icmp_gt (tgt := 20) hx hb dX10_price_6 (by decide) (fun c_224 => ?_) (fun c_224 => ?_)
    · refine lv_iconst (v := 0) hx hb dX10_price_20 (by decide) ?_
      have hP9 := hP.sub (ws' := []) [] rfl
      have hD9 := hD.sub (ws' := []) [] (by decide) rfl
      exact W.zret (v := 0) (ty := .boolean) hx hb hr rfl (fun t ht hW => ⟨⟨0, (), rfl, rfl, by rw [ht]; exact hP9, hD9⟩, hS.F ht⟩) hS.2.2 dX10_price_21
    · refine lv_iload_n hx hb dX10_price_9 rfl (lv_at hl 2 rfl) ?_
      refine lv_iconst (v := 1) hx hb dX10_price_10 (by decide) ?_
      refine lv_icmp_lt (tgt := 20) hx hb dX10_price_11 (by decide) (fun c_225 => ?_) (fun c_225 => ?_)
      · refine lv_iconst (v := 0) hx hb dX10_price_20 (by decide) ?_
        have hP9 := hP.sub (ws' := []) [] rfl
        have hD9 := hD.sub (ws' := []) [] (by decide) rfl
        exact W.zret (v := 0) (ty := .boolean) hx hb hr rfl (fun t ht hW => ⟨⟨0, (), rfl, rfl, by rw [ht]; exact hP9, hD9⟩, hS.F ht⟩) hS.2.2 dX10_price_21
      · refine lv_iload_n hx hb dX10_price_14 rfl (lv_at hl 2 rfl) ?_
        refine lv_bipush (v := 99) hx hb dX10_price_15 (by decide) ?_
        refine lv_icmp_le (tgt := 22) hx hb dX10_price_17 (by decide) (fun c9 => absurd c9 (((hb9.resolve_left c_223).resolve_left c_224).resolve_left c_225)) (fun _ => ?_)
        refine lv_iconst (v := 0) hx hb dX10_price_20 (by decide) ?_
        have hP9 := hP.sub (ws' := []) [] rfl
        have hD9 := hD.sub (ws' := []) [] (by decide) rfl
        exact W.zret (v := 0) (ty := .boolean) hx hb hr rfl (fun t ht hW => ⟨⟨0, (), rfl, rfl, by rw [ht]; exact hP9, hD9⟩, hS.F ht⟩) hS.2.2 dX10_price_21
