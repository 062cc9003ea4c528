set_option maxHeartbeats 4000000 in
set_option maxRecDepth 100000 in
theorem c_count3 (l : Launch) (dC : Nat → ClassId) (dI : Nat → Nat → Nat) (cI cB cL cZ : ClassId) (h0 : Nat) (tp : Nat) (tok : Nat) (sp : Nat) (rdr : Nat) (scn : Nat) (fct : Nat) (rnr : Nat) (trl : Nat) (mnd : Nat) (rrw : Nat) (g : Nat) (td : Nat) (gc : Nat) (ga1 : Nat) (ga2 : Nat) (ga3 : Nat) (ga4 : Nat) (ga5 : Nat) (ga6 : Nat) (ga7 : Nat) (ga8 : Nat) (sz : Nat)  : Met l yX10_count wsX10_count ({ frames := 0, cells := 0, slots := 0, locals := 0 }) (cP (dC, dI) (kTy cI cB cL cZ) [.ref h0, .int 3] [(h0, .inr (9, [.ref tp, .int 0, .ref tok, .ref sp, .ref rdr, .int 0, .int (-1), .ref scn, .ref fct, .ref rnr, .ref trl, .ref mnd, .ref rrw])), (scn, .inr (6, [.ref g, .int (-1), .ref td])), (g, .inr (3, [.ref gc, .ref ga1, .ref ga2, .ref ga3, .ref ga4, .ref ga5, .ref ga6, .ref ga7, .ref ga8, .int 0, .int 0, .int 0, .int 0, .int (-1)]))] sz) (va_Qi (fun (r : Int32) (_ : Unit) => r = (-1)) (fun (_ : Unit) (t : State) => va_P (dC, dI) vwCl [] t.heap ∧ va_D (va_A [(h0, .inr (9, [.ref tp, .int 0, .ref tok, .ref sp, .ref rdr, .int 0, .int (-1), .ref scn, .ref fct, .ref rnr, .ref trl, .ref mnd, .ref rrw])), (scn, .inr (6, [.ref g, .int (-1), .ref td])), (g, .inr (3, [.ref gc, .ref ga1, .ref ga2, .ref ga3, .ref ga4, .ref ga5, .ref ga6, .ref ga7, .ref ga8, .int 0, .int 0, .int 0, .int 0, .int (-1)]))] sz) []) (va_A [(h0, .inr (9, [.ref tp, .int 0, .ref tok, .ref sp, .ref rdr, .int 0, .int (-1), .ref scn, .ref fct, .ref rnr, .ref trl, .ref mnd, .ref rrw])), (scn, .inr (6, [.ref g, .int (-1), .ref td])), (g, .inr (3, [.ref gc, .ref ga1, .ref ga2, .ref ga3, .ref ga4, .ref ga5, .ref ga6, .ref ga7, .ref ga8, .int 0, .int 0, .int 0, .int 0, .int (-1)]))] sz)) 0 0 (va_A [(h0, .inr (9, [.ref tp, .int 0, .ref tok, .ref sp, .ref rdr, .int 0, .int (-1), .ref scn, .ref fct, .ref rnr, .ref trl, .ref mnd, .ref rrw])), (scn, .inr (6, [.ref g, .int (-1), .ref td])), (g, .inr (3, [.ref gc, .ref ga1, .ref ga2, .ref ga3, .ref ga4, .ref ga5, .ref ga6, .ref ga7, .ref ga8, .int 0, .int 0, .int 0, .int 0, .int (-1)]))] sz) := by
  refine Met.ofW (cc := cX10_count) (maxL := 2) (ret := (some .int)) (by decide) rfl ?_
  intro p e s m args below meth c s₁ B hml hv
  obtain ⟨rfl, hsz, hP, hK, hD0, hN⟩ := hv
  have hx := B.exec
  have hb := B.bytes
  have hr := B.returns
  have hts := atoms_spec (ws := wsX10_count) B.pre
  have hown : s.vm.findClass RX10 = some m.cls := findClass_of_methodNamed B.named
  have hlocks := B.notSynchronized
  subst hsz
  have hD := hD0.self (sz := s.heap.size)
  generalize hAe : va_A [(h0, .inr (9, [.ref tp, .int 0, .ref tok, .ref sp, .ref rdr, .int 0, .int (-1), .ref scn, .ref fct, .ref rnr, .ref trl, .ref mnd, .ref rrw])), (scn, .inr (6, [.ref g, .int (-1), .ref td])), (g, .inr (3, [.ref gc, .ref ga1, .ref ga2, .ref ga3, .ref ga4, .ref ga5, .ref ga6, .ref ga7, .ref ga8, .int 0, .int 0, .int 0, .int 0, .int (-1)]))] s.heap.size = A at hD ⊢
  have hA : ∀ q : Nat, s.heap.size ≤ q → A q := fun q h => by rw [← hAe]; exact Or.inr h
  have hl := lv_entry ([.ref h0, .int 3]) (n := 2) (Nat.le_of_ble_eq_true rfl)
  rw [lg_entry_eq]
  generalize (lg_sl ([.ref h0, .int 3]) ++ List.replicate (2 - (lg_sl ([.ref h0, .int 3])).length) Slot.unset).toArray = ls at hl ⊢
  have hl : lv_has ls 2 [(0, .ref h0), (1, .int 3)] := hl
  refine k_H (A := A) hP (fun H hP hS => ?_)
  have hP : va_P (dC, dI) vwCl [(h0, .inr (9, [.ref tp, .int 0, .ref tok, .ref sp, .ref rdr, .int 0, .int (-1), .ref scn, .ref fct, .ref rnr, .ref trl, .ref mnd, .ref rrw])), (scn, .inr (6, [.ref g, .int (-1), .ref td])), (g, .inr (3, [.ref gc, .ref ga1, .ref ga2, .ref ga3, .ref ga4, .ref ga5, .ref ga6, .ref ga7, .ref ga8, .int 0, .int 0, .int 0, .int 0, .int (-1)]))] H := hP
  have hD : va_D A [(h0, .inr (9, [.ref tp, .int 0, .ref tok, .ref sp, .ref rdr, .int 0, .int (-1), .ref scn, .ref fct, .ref rnr, .ref trl, .ref mnd, .ref rrw])), (scn, .inr (6, [.ref g, .int (-1), .ref td])), (g, .inr (3, [.ref gc, .ref ga1, .ref ga2, .ref ga3, .ref ga4, .ref ga5, .ref ga6, .ref ga7, .ref ga8, .int 0, .int 0, .int 0, .int 0, .int (-1)]))] := hD
  refine lv_iload_n hx hb dX10_count_0 rfl (lv_at hl 1 rfl) ?_
  refine lv_tableIn (off := 72) (tgt := 73) hx hb dX10_count_1 (by decide) (by decide) (by decide) (by decide) ?_
  refine lv_aload_n hx hb dX10_count_73 rfl (lv_at hl 0 rfl) ?_
  refine va_get (D := (dC, dI)) (ci := 9) (v := .ref scn) (C := RX10) (T := TX10) (N := 13) hx hb hts iwwsX10_count_10 hown hK hP 0 rfl rfl 7 (by decide) (hts (.fieldLink RX10 45 "NothingJudge" "scene" "LNothingJudge$Scene;") fwwsX10_count_45) (fun _ h9 => h9) rfl dX10_count_74 ?_
  refine va_get (D := (dC, dI)) (ci := 6) (v := .int (-1)) (C := RX7) (T := TX7) (N := 3) hx hb hts iwwsX10_count_7 hown hK hP 1 rfl rfl 1 (by decide) (hts (.fieldLink RX10 240 "NothingJudge$Scene" "start" "I") fwwsX10_count_240) (fun _ h9 => h9) rfl dX10_count_77 ?_
  have hP9 := hP.sub (ws' := []) [] rfl
  have hD9 := hD.sub (ws' := []) [] (by decide) rfl
  exact W.iret (v := (-1)) hx hb hr (fun t ht hW => ⟨⟨(-1), (), rfl, rfl, by rw [ht]; exact hP9, hD9⟩, hS.F ht⟩) hS.2.2 dX10_count_80

set_option maxHeartbeats 4000000 in
set_option maxRecDepth 100000 in
theorem c_count4 (l : Launch) (dC : Nat → ClassId) (dI : Nat → Nat → Nat) (cI cB cL cZ : ClassId) (h0 : Nat) (tp : Nat) (tok : Nat) (sp : Nat) (rdr : Nat) (scn : Nat) (fct : Nat) (rnr : Nat) (trl : Nat) (mnd : Nat) (rrw : Nat) (g : Nat) (td : Nat) (gc : Nat) (ga1 : Nat) (ga2 : Nat) (ga3 : Nat) (ga4 : Nat) (ga5 : Nat) (ga6 : Nat) (ga7 : Nat) (ga8 : Nat) (gcc : Nat) (st : Nat) (se : Nat) (mk : Nat) (us : Nat) (te : Nat) (f1 : Nat → Int64) (f2 : Nat → Int32) (f3 : Nat → Int32) (f4 : Nat → Int32) (f5 : Nat → Int32) (sz : Nat)  : Met l yX10_count wsX10_count ({ frames := 4, cells := 0, slots := 0, locals := 91 }) (cP (dC, dI) (kTy cI cB cL cZ) [.ref h0, .int 4] [(h0, .inr (9, [.ref tp, .int 0, .ref tok, .ref sp, .ref rdr, .int 0, .int (-1), .ref scn, .ref fct, .ref rnr, .ref trl, .ref mnd, .ref rrw])), (fct, .inr (1, [.ref scn, .ref st, .ref se, .ref mk, .ref us, .ref te, .ref g, .ref gc, .int 1, .int 0, .int 0, .int 0, .long 0, .long 0])), (scn, .inr (6, [.ref g, .int (-1), .ref td])), (g, .inr (3, [.ref gc, .ref ga1, .ref ga2, .ref ga3, .ref ga4, .ref ga5, .ref ga6, .ref ga7, .ref ga8, .int 0, .int 0, .int 0, .int 0, .int (-1)])), (gc, .inr (0, [.ref gcc, .int 0])), (st, .inl (cL, 304, .inr (.inl f1))), (se, .inl (cI, 304, .inl f2)), (mk, .inl (cI, 42, .inl f3)), (us, .inl (cI, 40, .inl f4)), (te, .inl (cI, 24, .inl f5))] sz) (va_Qi (fun (r : Int32) (_ : Unit) => r = 0) (fun (_ : Unit) (t : State) => va_P (dC, dI) vwCl [] t.heap ∧ va_D (va_A [(h0, .inr (9, [.ref tp, .int 0, .ref tok, .ref sp, .ref rdr, .int 0, .int (-1), .ref scn, .ref fct, .ref rnr, .ref trl, .ref mnd, .ref rrw])), (fct, .inr (1, [.ref scn, .ref st, .ref se, .ref mk, .ref us, .ref te, .ref g, .ref gc, .int 1, .int 0, .int 0, .int 0, .long 0, .long 0])), (scn, .inr (6, [.ref g, .int (-1), .ref td])), (g, .inr (3, [.ref gc, .ref ga1, .ref ga2, .ref ga3, .ref ga4, .ref ga5, .ref ga6, .ref ga7, .ref ga8, .int 0, .int 0, .int 0, .int 0, .int (-1)])), (gc, .inr (0, [.ref gcc, .int 0])), (st, .inl (cL, 304, .inr (.inl f1))), (se, .inl (cI, 304, .inl f2)), (mk, .inl (cI, 42, .inl f3)), (us, .inl (cI, 40, .inl f4)), (te, .inl (cI, 24, .inl f5))] sz) []) (va_A [(h0, .inr (9, [.ref tp, .int 0, .ref tok, .ref sp, .ref rdr, .int 0, .int (-1), .ref scn, .ref fct, .ref rnr, .ref trl, .ref mnd, .ref rrw])), (fct, .inr (1, [.ref scn, .ref st, .ref se, .ref mk, .ref us, .ref te, .ref g, .ref gc, .int 1, .int 0, .int 0, .int 0, .long 0, .long 0])), (scn, .inr (6, [.ref g, .int (-1), .ref td])), (g, .inr (3, [.ref gc, .ref ga1, .ref ga2, .ref ga3, .ref ga4, .ref ga5, .ref ga6, .ref ga7, .ref ga8, .int 0, .int 0, .int 0, .int 0, .int (-1)])), (gc, .inr (0, [.ref gcc, .int 0])), (st, .inl (cL, 304, .inr (.inl f1))), (se, .inl (cI, 304, .inl f2)), (mk, .inl (cI, 42, .inl f3)), (us, .inl (cI, 40, .inl f4)), (te, .inl (cI, 24, .inl f5))] sz)) 0 0 (va_A [(h0, .inr (9, [.ref tp, .int 0, .ref tok, .ref sp, .ref rdr, .int 0, .int (-1), .ref scn, .ref fct, .ref rnr, .ref trl, .ref mnd, .ref rrw])), (fct, .inr (1, [.ref scn, .ref st, .ref se, .ref mk, .ref us, .ref te, .ref g, .ref gc, .int 1, .int 0, .int 0, .int 0, .long 0, .long 0])), (scn, .inr (6, [.ref g, .int (-1), .ref td])), (g, .inr (3, [.ref gc, .ref ga1, .ref ga2, .ref ga3, .ref ga4, .ref ga5, .ref ga6, .ref ga7, .ref ga8, .int 0, .int 0, .int 0, .int 0, .int (-1)])), (gc, .inr (0, [.ref gcc, .int 0])), (st, .inl (cL, 304, .inr (.inl f1))), (se, .inl (cI, 304, .inl f2)), (mk, .inl (cI, 42, .inl f3)), (us, .inl (cI, 40, .inl f4)), (te, .inl (cI, 24, .inl f5))] sz) := by
  refine Met.ofW (cc := cX10_count) (maxL := 2) (ret := (some .int)) (by decide) rfl ?_
  intro p e s m args below meth c s₁ B hml hv
  obtain ⟨rfl, hsz, hP, hK, hD0, hN⟩ := hv
  have hx := B.exec
  have hb := B.bytes
  have hr := B.returns
  have hts := atoms_spec (ws := wsX10_count) B.pre
  have hown : s.vm.findClass RX10 = some m.cls := findClass_of_methodNamed B.named
  have hlocks := B.notSynchronized
  subst hsz
  have hD := hD0.self (sz := s.heap.size)
  generalize hAe : va_A [(h0, .inr (9, [.ref tp, .int 0, .ref tok, .ref sp, .ref rdr, .int 0, .int (-1), .ref scn, .ref fct, .ref rnr, .ref trl, .ref mnd, .ref rrw])), (fct, .inr (1, [.ref scn, .ref st, .ref se, .ref mk, .ref us, .ref te, .ref g, .ref gc, .int 1, .int 0, .int 0, .int 0, .long 0, .long 0])), (scn, .inr (6, [.ref g, .int (-1), .ref td])), (g, .inr (3, [.ref gc, .ref ga1, .ref ga2, .ref ga3, .ref ga4, .ref ga5, .ref ga6, .ref ga7, .ref ga8, .int 0, .int 0, .int 0, .int 0, .int (-1)])), (gc, .inr (0, [.ref gcc, .int 0])), (st, .inl (cL, 304, .inr (.inl f1))), (se, .inl (cI, 304, .inl f2)), (mk, .inl (cI, 42, .inl f3)), (us, .inl (cI, 40, .inl f4)), (te, .inl (cI, 24, .inl f5))] s.heap.size = A at hD ⊢
  have hA : ∀ q : Nat, s.heap.size ≤ q → A q := fun q h => by rw [← hAe]; exact Or.inr h
  have hl := lv_entry ([.ref h0, .int 4]) (n := 2) (Nat.le_of_ble_eq_true rfl)
  rw [lg_entry_eq]
  generalize (lg_sl ([.ref h0, .int 4]) ++ List.replicate (2 - (lg_sl ([.ref h0, .int 4])).length) Slot.unset).toArray = ls at hl ⊢
  have hl : lv_has ls 2 [(0, .ref h0), (1, .int 4)] := hl
  refine k_H (A := A) hP (fun H hP hS => ?_)
  have hP : va_P (dC, dI) vwCl [(h0, .inr (9, [.ref tp, .int 0, .ref tok, .ref sp, .ref rdr, .int 0, .int (-1), .ref scn, .ref fct, .ref rnr, .ref trl, .ref mnd, .ref rrw])), (fct, .inr (1, [.ref scn, .ref st, .ref se, .ref mk, .ref us, .ref te, .ref g, .ref gc, .int 1, .int 0, .int 0, .int 0, .long 0, .long 0])), (scn, .inr (6, [.ref g, .int (-1), .ref td])), (g, .inr (3, [.ref gc, .ref ga1, .ref ga2, .ref ga3, .ref ga4, .ref ga5, .ref ga6, .ref ga7, .ref ga8, .int 0, .int 0, .int 0, .int 0, .int (-1)])), (gc, .inr (0, [.ref gcc, .int 0])), (st, .inl (cL, 304, .inr (.inl f1))), (se, .inl (cI, 304, .inl f2)), (mk, .inl (cI, 42, .inl f3)), (us, .inl (cI, 40, .inl f4)), (te, .inl (cI, 24, .inl f5))] H := hP
  have hD : va_D A [(h0, .inr (9, [.ref tp, .int 0, .ref tok, .ref sp, .ref rdr, .int 0, .int (-1), .ref scn, .ref fct, .ref rnr, .ref trl, .ref mnd, .ref rrw])), (fct, .inr (1, [.ref scn, .ref st, .ref se, .ref mk, .ref us, .ref te, .ref g, .ref gc, .int 1, .int 0, .int 0, .int 0, .long 0, .long 0])), (scn, .inr (6, [.ref g, .int (-1), .ref td])), (g, .inr (3, [.ref gc, .ref ga1, .ref ga2, .ref ga3, .ref ga4, .ref ga5, .ref ga6, .ref ga7, .ref ga8, .int 0, .int 0, .int 0, .int 0, .int (-1)])), (gc, .inr (0, [.ref gcc, .int 0])), (st, .inl (cL, 304, .inr (.inl f1))), (se, .inl (cI, 304, .inl f2)), (mk, .inl (cI, 42, .inl f3)), (us, .inl (cI, 40, .inl f4)), (te, .inl (cI, 24, .inl f5))] := hD
  refine lv_iload_n hx hb dX10_count_0 rfl (lv_at hl 1 rfl) ?_
  refine lv_tableIn (off := 80) (tgt := 81) hx hb dX10_count_1 (by decide) (by decide) (by decide) (by decide) ?_
  refine lv_aload_n hx hb dX10_count_81 rfl (lv_at hl 0 rfl) ?_
  refine lv_iconst (v := 3) hx hb dX10_count_82 (by decide) ?_
  have hPc := hP.sub (ws' := [(h0, .inr (9, [.ref tp, .int 0, .ref tok, .ref sp, .ref rdr, .int 0, .int (-1), .ref scn, .ref fct, .ref rnr, .ref trl, .ref mnd, .ref rrw])), (fct, .inr (1, [.ref scn, .ref st, .ref se, .ref mk, .ref us, .ref te, .ref g, .ref gc, .int 1, .int 0, .int 0, .int 0, .long 0, .long 0])), (scn, .inr (6, [.ref g, .int (-1), .ref td])), (g, .inr (3, [.ref gc, .ref ga1, .ref ga2, .ref ga3, .ref ga4, .ref ga5, .ref ga6, .ref ga7, .ref ga8, .int 0, .int 0, .int 0, .int 0, .int (-1)])), (gc, .inr (0, [.ref gcc, .int 0])), (st, .inl (cL, 304, .inr (.inl f1))), (se, .inl (cI, 304, .inl f2)), (mk, .inl (cI, 42, .inl f3)), (us, .inl (cI, 40, .inl f4)), (te, .inl (cI, 24, .inl f5))]) [0, 1, 2, 3, 4, 5, 6, 7, 8, 9] rfl
  have hDc := hD.sub (ws' := [(h0, .inr (9, [.ref tp, .int 0, .ref tok, .ref sp, .ref rdr, .int 0, .int (-1), .ref scn, .ref fct, .ref rnr, .ref trl, .ref mnd, .ref rrw])), (fct, .inr (1, [.ref scn, .ref st, .ref se, .ref mk, .ref us, .ref te, .ref g, .ref gc, .int 1, .int 0, .int 0, .int 0, .long 0, .long 0])), (scn, .inr (6, [.ref g, .int (-1), .ref td])), (g, .inr (3, [.ref gc, .ref ga1, .ref ga2, .ref ga3, .ref ga4, .ref ga5, .ref ga6, .ref ga7, .ref ga8, .int 0, .int 0, .int 0, .int 0, .int (-1)])), (gc, .inr (0, [.ref gcc, .int 0])), (st, .inl (cL, 304, .inr (.inl f1))), (se, .inl (cI, 304, .inl f2)), (mk, .inl (cI, 42, .inl f3)), (us, .inl (cI, 40, .inl f4)), (te, .inl (cI, 24, .inl f5))]) [0, 1, 2, 3, 4, 5, 6, 7, 8, 9] (by decide) rfl
  have hFc := va_free (wc := [(h0, .inr (9, [.ref tp, .int 0, .ref tok, .ref sp, .ref rdr, .int 0, .int (-1), .ref scn, .ref fct, .ref rnr, .ref trl, .ref mnd, .ref rrw])), (fct, .inr (1, [.ref scn, .ref st, .ref se, .ref mk, .ref us, .ref te, .ref g, .ref gc, .int 1, .int 0, .int 0, .int 0, .long 0, .long 0])), (scn, .inr (6, [.ref g, .int (-1), .ref td])), (g, .inr (3, [.ref gc, .ref ga1, .ref ga2, .ref ga3, .ref ga4, .ref ga5, .ref ga6, .ref ga7, .ref ga8, .int 0, .int 0, .int 0, .int 0, .int (-1)])), (gc, .inr (0, [.ref gcc, .int 0])), (st, .inl (cL, 304, .inr (.inl f1))), (se, .inl (cI, 304, .inl f2)), (mk, .inl (cI, 42, .inl f3)), (us, .inl (cI, 40, .inl f4)), (te, .inl (cI, 24, .inl f5))]) hD hS hA [0, 1, 2, 3, 4, 5, 6, 7, 8, 9] rfl
  refine va_calli (va_runV (As := [.int 3]) (rest := []) ⟨hx, hb, hml, hown, hts⟩ (c_uof3 l dC dI cI cB cL cZ (h0) (tp) (tok) (sp) (rdr) (scn) (fct) (rnr) (trl) (mnd) (rrw) (g) (td) (gc) (ga1) (ga2) (ga3) (ga4) (ga5) (ga6) (ga7) (ga8) (gcc) (st) (se) (mk) (us) (te) (f1) (f2) (f3) (f4) (f5) H.size) (cwV 1 hts gX10_count_X10_usesOfFact rfl rfl rfl (by decide +kernel) ⟨Nat.le_of_ble_eq_true rfl, Nat.le_of_ble_eq_true rfl⟩) ⟨cP_fb, va_recv hK hPc (ci := 9) (q0 := 0) rfl rfl, fun U hU hW => cP_pre hPc hK hDc hN U hU hW⟩ rfl rfl hl.1 rfl (lv_room (Nat.le_of_ble_eq_true rfl)) dX10_count_83 ⟨Nat.le_of_ble_eq_true rfl, Nat.le_of_ble_eq_true rfl⟩) hS (fun q _ h => hFc q h) hFc (fun r_283 u t H1 locs ht hvm hw hB hz1 hk1 hS => ?_)
  obtain ⟨hP1, hD1⟩ := hB
  rw [ht] at hP1
  obtain ⟨hP, hD⟩ := va_join (wr := []) (w1 := []) hP hD [0, 1, 2, 3, 4, 5, 6, 7, 8, 9] [] rfl rfl (by decide) (by decide) hk1 hFc hP1 hD1
  generalize H1 = H at hP hS ⊢
  have hP : va_P (dC, dI) vwCl [] H := hP
  have hD : va_D A [] := hD
  obtain rfl : r_283 = 0 := hw
  have hP9 := hP.sub (ws' := []) [] rfl
  have hD9 := hD.sub (ws' := []) [] (by decide) rfl
  exact W.iret (v := 0) hx hb hr (fun t ht hW => ⟨⟨0, (), rfl, rfl, by rw [ht]; exact hP9, hD9⟩, hS.F ht⟩) hS.2.2 dX10_count_86

set_option maxHeartbeats 4000000 in
set_option maxRecDepth 100000 in
theorem c_count5 (l : Launch) (dC : Nat → ClassId) (dI : Nat → Nat → Nat) (cI cB cL cZ : ClassId) (h0 : Nat) (tp : Nat) (tok : Nat) (sp : Nat) (rdr : Nat) (scn : Nat) (fct : Nat) (rnr : Nat) (trl : Nat) (mnd : Nat) (rrw : Nat) (g : Nat) (td : Nat) (gc : Nat) (ga1 : Nat) (ga2 : Nat) (ga3 : Nat) (ga4 : Nat) (ga5 : Nat) (ga6 : Nat) (ga7 : Nat) (ga8 : Nat) (gcc : Nat) (st : Nat) (se : Nat) (mk : Nat) (us : Nat) (te : Nat) (f1 : Nat → Int64) (f2 : Nat → Int32) (f3 : Nat → Int32) (f4 : Nat → Int32) (f5 : Nat → Int32) (sz : Nat)  : Met l yX10_count wsX10_count ({ frames := 4, cells := 0, slots := 0, locals := 91 }) (cP (dC, dI) (kTy cI cB cL cZ) [.ref h0, .int 5] [(h0, .inr (9, [.ref tp, .int 0, .ref tok, .ref sp, .ref rdr, .int 0, .int (-1), .ref scn, .ref fct, .ref rnr, .ref trl, .ref mnd, .ref rrw])), (fct, .inr (1, [.ref scn, .ref st, .ref se, .ref mk, .ref us, .ref te, .ref g, .ref gc, .int 1, .int 0, .int 0, .int 0, .long 0, .long 0])), (scn, .inr (6, [.ref g, .int (-1), .ref td])), (g, .inr (3, [.ref gc, .ref ga1, .ref ga2, .ref ga3, .ref ga4, .ref ga5, .ref ga6, .ref ga7, .ref ga8, .int 0, .int 0, .int 0, .int 0, .int (-1)])), (gc, .inr (0, [.ref gcc, .int 0])), (st, .inl (cL, 304, .inr (.inl f1))), (se, .inl (cI, 304, .inl f2)), (mk, .inl (cI, 42, .inl f3)), (us, .inl (cI, 40, .inl f4)), (te, .inl (cI, 24, .inl f5))] sz) (va_Qi (fun (r : Int32) (_ : Unit) => r = 0) (fun (_ : Unit) (t : State) => va_P (dC, dI) vwCl [] t.heap ∧ va_D (va_A [(h0, .inr (9, [.ref tp, .int 0, .ref tok, .ref sp, .ref rdr, .int 0, .int (-1), .ref scn, .ref fct, .ref rnr, .ref trl, .ref mnd, .ref rrw])), (fct, .inr (1, [.ref scn, .ref st, .ref se, .ref mk, .ref us, .ref te, .ref g, .ref gc, .int 1, .int 0, .int 0, .int 0, .long 0, .long 0])), (scn, .inr (6, [.ref g, .int (-1), .ref td])), (g, .inr (3, [.ref gc, .ref ga1, .ref ga2, .ref ga3, .ref ga4, .ref ga5, .ref ga6, .ref ga7, .ref ga8, .int 0, .int 0, .int 0, .int 0, .int (-1)])), (gc, .inr (0, [.ref gcc, .int 0])), (st, .inl (cL, 304, .inr (.inl f1))), (se, .inl (cI, 304, .inl f2)), (mk, .inl (cI, 42, .inl f3)), (us, .inl (cI, 40, .inl f4)), (te, .inl (cI, 24, .inl f5))] sz) []) (va_A [(h0, .inr (9, [.ref tp, .int 0, .ref tok, .ref sp, .ref rdr, .int 0, .int (-1), .ref scn, .ref fct, .ref rnr, .ref trl, .ref mnd, .ref rrw])), (fct, .inr (1, [.ref scn, .ref st, .ref se, .ref mk, .ref us, .ref te, .ref g, .ref gc, .int 1, .int 0, .int 0, .int 0, .long 0, .long 0])), (scn, .inr (6, [.ref g, .int (-1), .ref td])), (g, .inr (3, [.ref gc, .ref ga1, .ref ga2, .ref ga3, .ref ga4, .ref ga5, .ref ga6, .ref ga7, .ref ga8, .int 0, .int 0, .int 0, .int 0, .int (-1)])), (gc, .inr (0, [.ref gcc, .int 0])), (st, .inl (cL, 304, .inr (.inl f1))), (se, .inl (cI, 304, .inl f2)), (mk, .inl (cI, 42, .inl f3)), (us, .inl (cI, 40, .inl f4)), (te, .inl (cI, 24, .inl f5))] sz)) 0 0 (va_A [(h0, .inr (9, [.ref tp, .int 0, .ref tok, .ref sp, .ref rdr, .int 0, .int (-1), .ref scn, .ref fct, .ref rnr, .ref trl, .ref mnd, .ref rrw])), (fct, .inr (1, [.ref scn, .ref st, .ref se, .ref mk, .ref us, .ref te, .ref g, .ref gc, .int 1, .int 0, .int 0, .int 0, .long 0, .long 0])), (scn, .inr (6, [.ref g, .int (-1), .ref td])), (g, .inr (3, [.ref gc, .ref ga1, .ref ga2, .ref ga3, .ref ga4, .ref ga5, .ref ga6, .ref ga7, .ref ga8, .int 0, .int 0, .int 0, .int 0, .int (-1)])), (gc, .inr (0, [.ref gcc, .int 0])), (st, .inl (cL, 304, .inr (.inl f1))), (se, .inl (cI, 304, .inl f2)), (mk, .inl (cI, 42, .inl f3)), (us, .inl (cI, 40, .inl f4)), (te, .inl (cI, 24, .inl f5))] sz) := by
  refine Met.ofW (cc := cX10_count) (maxL := 2) (ret := (some .int)) (by decide) rfl ?_
  intro p e s m args below meth c s₁ B hml hv
  obtain ⟨rfl, hsz, hP, hK, hD0, hN⟩ := hv
  have hx := B.exec
  have hb := B.bytes
  have hr := B.returns
  have hts := atoms_spec (ws := wsX10_count) B.pre
  have hown : s.vm.findClass RX10 = some m.cls := findClass_of_methodNamed B.named
  have hlocks := B.notSynchronized
  subst hsz
  have hD := hD0.self (sz := s.heap.size)
  generalize hAe : va_A [(h0, .inr (9, [.ref tp, .int 0, .ref tok, .ref sp, .ref rdr, .int 0, .int (-1), .ref scn, .ref fct, .ref rnr, .ref trl, .ref mnd, .ref rrw])), (fct, .inr (1, [.ref scn, .ref st, .ref se, .ref mk, .ref us, .ref te, .ref g, .ref gc, .int 1, .int 0, .int 0, .int 0, .long 0, .long 0])), (scn, .inr (6, [.ref g, .int (-1), .ref td])), (g, .inr (3, [.ref gc, .ref ga1, .ref ga2, .ref ga3, .ref ga4, .ref ga5, .ref ga6, .ref ga7, .ref ga8, .int 0, .int 0, .int 0, .int 0, .int (-1)])), (gc, .inr (0, [.ref gcc, .int 0])), (st, .inl (cL, 304, .inr (.inl f1))), (se, .inl (cI, 304, .inl f2)), (mk, .inl (cI, 42, .inl f3)), (us, .inl (cI, 40, .inl f4)), (te, .inl (cI, 24, .inl f5))] s.heap.size = A at hD ⊢
  have hA : ∀ q : Nat, s.heap.size ≤ q → A q := fun q h => by rw [← hAe]; exact Or.inr h
  have hl := lv_entry ([.ref h0, .int 5]) (n := 2) (Nat.le_of_ble_eq_true rfl)
  rw [lg_entry_eq]
  generalize (lg_sl ([.ref h0, .int 5]) ++ List.replicate (2 - (lg_sl ([.ref h0, .int 5])).length) Slot.unset).toArray = ls at hl ⊢
  have hl : lv_has ls 2 [(0, .ref h0), (1, .int 5)] := hl
  refine k_H (A := A) hP (fun H hP hS => ?_)
  have hP : va_P (dC, dI) vwCl [(h0, .inr (9, [.ref tp, .int 0, .ref tok, .ref sp, .ref rdr, .int 0, .int (-1), .ref scn, .ref fct, .ref rnr, .ref trl, .ref mnd, .ref rrw])), (fct, .inr (1, [.ref scn, .ref st, .ref se, .ref mk, .ref us, .ref te, .ref g, .ref gc, .int 1, .int 0, .int 0, .int 0, .long 0, .long 0])), (scn, .inr (6, [.ref g, .int (-1), .ref td])), (g, .inr (3, [.ref gc, .ref ga1, .ref ga2, .ref ga3, .ref ga4, .ref ga5, .ref ga6, .ref ga7, .ref ga8, .int 0, .int 0, .int 0, .int 0, .int (-1)])), (gc, .inr (0, [.ref gcc, .int 0])), (st, .inl (cL, 304, .inr (.inl f1))), (se, .inl (cI, 304, .inl f2)), (mk, .inl (cI, 42, .inl f3)), (us, .inl (cI, 40, .inl f4)), (te, .inl (cI, 24, .inl f5))] H := hP
  have hD : va_D A [(h0, .inr (9, [.ref tp, .int 0, .ref tok, .ref sp, .ref rdr, .int 0, .int (-1), .ref scn, .ref fct, .ref rnr, .ref trl, .ref mnd, .ref rrw])), (fct, .inr (1, [.ref scn, .ref st, .ref se, .ref mk, .ref us, .ref te, .ref g, .ref gc, .int 1, .int 0, .int 0, .int 0, .long 0, .long 0])), (scn, .inr (6, [.ref g, .int (-1), .ref td])), (g, .inr (3, [.ref gc, .ref ga1, .ref ga2, .ref ga3, .ref ga4, .ref ga5, .ref ga6, .ref ga7, .ref ga8, .int 0, .int 0, .int 0, .int 0, .int (-1)])), (gc, .inr (0, [.ref gcc, .int 0])), (st, .inl (cL, 304, .inr (.inl f1))), (se, .inl (cI, 304, .inl f2)), (mk, .inl (cI, 42, .inl f3)), (us, .inl (cI, 40, .inl f4)), (te, .inl (cI, 24, .inl f5))] := hD
  refine lv_iload_n hx hb dX10_count_0 rfl (lv_at hl 1 rfl) ?_
  refine lv_tableIn (off := 86) (tgt := 87) hx hb dX10_count_1 (by decide) (by decide) (by decide) (by decide) ?_
  refine lv_aload_n hx hb dX10_count_87 rfl (lv_at hl 0 rfl) ?_
  refine lv_iconst (v := 1) hx hb dX10_count_88 (by decide) ?_
  have hPc := hP.sub (ws' := [(h0, .inr (9, [.ref tp, .int 0, .ref tok, .ref sp, .ref rdr, .int 0, .int (-1), .ref scn, .ref fct, .ref rnr, .ref trl, .ref mnd, .ref rrw])), (fct, .inr (1, [.ref scn, .ref st, .ref se, .ref mk, .ref us, .ref te, .ref g, .ref gc, .int 1, .int 0, .int 0, .int 0, .long 0, .long 0])), (scn, .inr (6, [.ref g, .int (-1), .ref td])), (g, .inr (3, [.ref gc, .ref ga1, .ref ga2, .ref ga3, .ref ga4, .ref ga5, .ref ga6, .ref ga7, .ref ga8, .int 0, .int 0, .int 0, .int 0, .int (-1)])), (gc, .inr (0, [.ref gcc, .int 0])), (st, .inl (cL, 304, .inr (.inl f1))), (se, .inl (cI, 304, .inl f2)), (mk, .inl (cI, 42, .inl f3)), (us, .inl (cI, 40, .inl f4)), (te, .inl (cI, 24, .inl f5))]) [0, 1, 2, 3, 4, 5, 6, 7, 8, 9] rfl
  have hDc := hD.sub (ws' := [(h0, .inr (9, [.ref tp, .int 0, .ref tok, .ref sp, .ref rdr, .int 0, .int (-1), .ref scn, .ref fct, .ref rnr, .ref trl, .ref mnd, .ref rrw])), (fct, .inr (1, [.ref scn, .ref st, .ref se, .ref mk, .ref us, .ref te, .ref g, .ref gc, .int 1, .int 0, .int 0, .int 0, .long 0, .long 0])), (scn, .inr (6, [.ref g, .int (-1), .ref td])), (g, .inr (3, [.ref gc, .ref ga1, .ref ga2, .ref ga3, .ref ga4, .ref ga5, .ref ga6, .ref ga7, .ref ga8, .int 0, .int 0, .int 0, .int 0, .int (-1)])), (gc, .inr (0, [.ref gcc, .int 0])), (st, .inl (cL, 304, .inr (.inl f1))), (se, .inl (cI, 304, .inl f2)), (mk, .inl (cI, 42, .inl f3)), (us, .inl (cI, 40, .inl f4)), (te, .inl (cI, 24, .inl f5))]) [0, 1, 2, 3, 4, 5, 6, 7, 8, 9] (by decide) rfl
  have hFc := va_free (wc := [(h0, .inr (9, [.ref tp, .int 0, .ref tok, .ref sp, .ref rdr, .int 0, .int (-1), .ref scn, .ref fct, .ref rnr, .ref trl, .ref mnd, .ref rrw])), (fct, .inr (1, [.ref scn, .ref st, .ref se, .ref mk, .ref us, .ref te, .ref g, .ref gc, .int 1, .int 0, .int 0, .int 0, .long 0, .long 0])), (scn, .inr (6, [.ref g, .int (-1), .ref td])), (g, .inr (3, [.ref gc, .ref ga1, .ref ga2, .ref ga3, .ref ga4, .ref ga5, .ref ga6, .ref ga7, .ref ga8, .int 0, .int 0, .int 0, .int 0, .int (-1)])), (gc, .inr (0, [.ref gcc, .int 0])), (st, .inl (cL, 304, .inr (.inl f1))), (se, .inl (cI, 304, .inl f2)), (mk, .inl (cI, 42, .inl f3)), (us, .inl (cI, 40, .inl f4)), (te, .inl (cI, 24, .inl f5))]) hD hS hA [0, 1, 2, 3, 4, 5, 6, 7, 8, 9] rfl
  refine va_calli (va_runV (As := [.int 1]) (rest := []) ⟨hx, hb, hml, hown, hts⟩ (c_uof1 l dC dI cI cB cL cZ (h0) (tp) (tok) (sp) (rdr) (scn) (fct) (rnr) (trl) (mnd) (rrw) (g) (td) (gc) (ga1) (ga2) (ga3) (ga4) (ga5) (ga6) (ga7) (ga8) (gcc) (st) (se) (mk) (us) (te) (f1) (f2) (f3) (f4) (f5) H.size) (cwV 1 hts gX10_count_X10_usesOfFact rfl rfl rfl (by decide +kernel) ⟨Nat.le_of_ble_eq_true rfl, Nat.le_of_ble_eq_true rfl⟩) ⟨cP_fb, va_recv hK hPc (ci := 9) (q0 := 0) rfl rfl, fun U hU hW => cP_pre hPc hK hDc hN U hU hW⟩ rfl rfl hl.1 rfl (lv_room (Nat.le_of_ble_eq_true rfl)) dX10_count_89 ⟨Nat.le_of_ble_eq_true rfl, Nat.le_of_ble_eq_true rfl⟩) hS (fun q _ h => hFc q h) hFc (fun r_284 u t H1 locs ht hvm hw hB hz1 hk1 hS => ?_)
  obtain ⟨hP1, hD1⟩ := hB
  rw [ht] at hP1
  obtain ⟨hP, hD⟩ := va_join (wr := []) (w1 := []) hP hD [0, 1, 2, 3, 4, 5, 6, 7, 8, 9] [] rfl rfl (by decide) (by decide) hk1 hFc hP1 hD1
  generalize H1 = H at hP hS ⊢
  have hP : va_P (dC, dI) vwCl [] H := hP
  have hD : va_D A [] := hD
  obtain rfl : r_284 = 0 := hw
  have hP9 := hP.sub (ws' := []) [] rfl
  have hD9 := hD.sub (ws' := []) [] (by decide) rfl
  exact W.iret (v := 0) hx hb hr (fun t ht hW => ⟨⟨0, (), rfl, rfl, by rw [ht]; exact hP9, hD9⟩, hS.F ht⟩) hS.2.2 dX10_count_92

set_option maxHeartbeats 4000000 in
set_option maxRecDepth 100000 in
theorem c_countN (l : Launch) (dC : Nat → ClassId) (dI : Nat → Nat → Nat) (cI cB cL cZ : ClassId) (h0 : Nat) (tp : Nat) (tok : Nat) (sp : Nat) (rdr : Nat) (scn : Nat) (fct : Nat) (rnr : Nat) (trl : Nat) (mnd : Nat) (rrw : Nat) (w : Int32) (sz : Nat) (hw9 : w.toInt < 0 ∨ 5 < w.toInt) : Met l yX10_count wsX10_count ({ frames := 0, cells := 0, slots := 0, locals := 0 }) (cP (dC, dI) (kTy cI cB cL cZ) [.ref h0, .int w] [(h0, .inr (9, [.ref tp, .int 0, .ref tok, .ref sp, .ref rdr, .int 0, .int (-1), .ref scn, .ref fct, .ref rnr, .ref trl, .ref mnd, .ref rrw]))] sz) (va_Qi (fun (r : Int32) (_ : Unit) => r = -1) (fun (_ : Unit) (t : State) => va_P (dC, dI) vwCl [] t.heap ∧ va_D (va_A [(h0, .inr (9, [.ref tp, .int 0, .ref tok, .ref sp, .ref rdr, .int 0, .int (-1), .ref scn, .ref fct, .ref rnr, .ref trl, .ref mnd, .ref rrw]))] sz) []) (va_A [(h0, .inr (9, [.ref tp, .int 0, .ref tok, .ref sp, .ref rdr, .int 0, .int (-1), .ref scn, .ref fct, .ref rnr, .ref trl, .ref mnd, .ref rrw]))] sz)) 0 0 (va_A [(h0, .inr (9, [.ref tp, .int 0, .ref tok, .ref sp, .ref rdr, .int 0, .int (-1), .ref scn, .ref fct, .ref rnr, .ref trl, .ref mnd, .ref rrw]))] sz) := by
  refine Met.ofW (cc := cX10_count) (maxL := 2) (ret := (some .int)) (by decide) rfl ?_
  intro p e s m args below meth c s₁ B hml hv
  obtain ⟨rfl, hsz, hP, hK, hD0, hN⟩ := hv
  have hx := B.exec
  have hb := B.bytes
  have hr := B.returns
  have hts := atoms_spec (ws := wsX10_count) B.pre
  have hown : s.vm.findClass RX10 = some m.cls := findClass_of_methodNamed B.named
  have hlocks := B.notSynchronized
  subst hsz
  have hD := hD0.self (sz := s.heap.size)
  generalize hAe : va_A [(h0, .inr (9, [.ref tp, .int 0, .ref tok, .ref sp, .ref rdr, .int 0, .int (-1), .ref scn, .ref fct, .ref rnr, .ref trl, .ref mnd, .ref rrw]))] s.heap.size = A at hD ⊢
  have hA : ∀ q : Nat, s.heap.size ≤ q → A q := fun q h => by rw [← hAe]; exact Or.inr h
  have hl := lv_entry ([.ref h0, .int w]) (n := 2) (Nat.le_of_ble_eq_true rfl)
  rw [lg_entry_eq]
  generalize (lg_sl ([.ref h0, .int w]) ++ List.replicate (2 - (lg_sl ([.ref h0, .int w])).length) Slot.unset).toArray = ls at hl ⊢
  have hl : lv_has ls 2 [(0, .ref h0), (1, .int w)] := hl
  refine k_H (A := A) hP (fun H hP hS => ?_)
  have hP : va_P (dC, dI) vwCl [(h0, .inr (9, [.ref tp, .int 0, .ref tok, .ref sp, .ref rdr, .int 0, .int (-1), .ref scn, .ref fct, .ref rnr, .ref trl, .ref mnd, .ref rrw]))] H := hP
  have hD : va_D A [(h0, .inr (9, [.ref tp, .int 0, .ref tok, .ref sp, .ref rdr, .int 0, .int (-1), .ref scn, .ref fct, .ref rnr, .ref trl, .ref mnd, .ref rrw]))] := hD
  refine lv_iload_n hx hb dX10_count_0 rfl (lv_at hl 1 rfl) ?_
  refine lv_tableOut (tgt := 93) hx hb dX10_count_1 hw9 (by decide) ?_
  refine lv_iconst (v := (-1)) hx hb dX10_count_93 (by decide) ?_
  have hP9 := hP.sub (ws' := []) [] rfl
  have hD9 := hD.sub (ws' := []) [] (by decide) rfl
  exact W.iret (v := (-1)) hx hb hr (fun t ht hW => ⟨⟨(-1), (), rfl, rfl, by rw [ht]; exact hP9, hD9⟩, hS.F ht⟩) hS.2.2 dX10_count_94

set_option maxHeartbeats 4000000 in
set_option maxRecDepth 100000 in
theorem c_scan (l : Launch) (dC : Nat → ClassId) (dI : Nat → Nat → Nat) (cI cB cL cZ : ClassId) (h0 : Nat) (tp : Nat) (tk0 : Nat) (f : Nat → Int32) (sz : Nat)  : Met l yX8_scan wsX8_scan ({ frames := 1, cells := 0, slots := 0, locals := 14 }) (cP (dC, dI) (kTy cI cB cL cZ) [.ref h0, .ref tp, .int 0] [(h0, .inr (7, [.ref tk0, .int 0, .int 0])), (tp, .inl (cB, 1200, .inl f))] sz) (va_Qv (fun _ : Unit => True) (fun (_ : Unit) (t : State) => va_P (dC, dI) vwCl [(h0, .inr (7, [.ref tk0, .int 0, .int 0]))] t.heap ∧ va_D (va_A [(h0, .inr (7, [.ref tk0, .int 0, .int 0])), (tp, .inl (cB, 1200, .inl f))] sz) [(h0, .inr (7, [.ref tk0, .int 0, .int 0]))]) (va_A [(h0, .inr (7, [.ref tk0, .int 0, .int 0])), (tp, .inl (cB, 1200, .inl f))] sz)) 0 0 (va_A [(h0, .inr (7, [.ref tk0, .int 0, .int 0])), (tp, .inl (cB, 1200, .inl f))] sz) := by
  refine Met.ofW (cc := cX8_scan) (maxL := 6) (ret := none) (by decide) rfl ?_
  intro p e s m args below meth c s₁ B hml hv
  obtain ⟨rfl, hsz, hP, hK, hD0, hN⟩ := hv
  have hx := B.exec
  have hb := B.bytes
  have hr := B.returns
  have hts := atoms_spec (ws := wsX8_scan) B.pre
  have hown : s.vm.findClass RX8 = some m.cls := findClass_of_methodNamed B.named
  have hlocks := B.notSynchronized
  subst hsz
  have hD := hD0.self (sz := s.heap.size)
  generalize hAe : va_A [(h0, .inr (7, [.ref tk0, .int 0, .int 0])), (tp, .inl (cB, 1200, .inl f))] s.heap.size = A at hD ⊢
  have hA : ∀ q : Nat, s.heap.size ≤ q → A q := fun q h => by rw [← hAe]; exact Or.inr h
  have hl := lv_entry ([.ref h0, .ref tp, .int 0]) (n := 6) (Nat.le_of_ble_eq_true rfl)
  rw [lg_entry_eq]
  generalize (lg_sl ([.ref h0, .ref tp, .int 0]) ++ List.replicate (6 - (lg_sl ([.ref h0, .ref tp, .int 0])).length) Slot.unset).toArray = ls at hl ⊢
  have hl : lv_has ls 6 [(0, .ref h0), (1, .ref tp), (2, .int 0)] := hl
  refine k_H (A := A) hP (fun H hP hS => ?_)
  have hP : va_P (dC, dI) vwCl [(h0, .inr (7, [.ref tk0, .int 0, .int 0])), (tp, .inl (cB, 1200, .inl f))] H := hP
  have hD : va_D A [(h0, .inr (7, [.ref tk0, .int 0, .int 0])), (tp, .inl (cB, 1200, .inl f))] := hD
  refine lv_aload_n hx hb dX8_scan_0 rfl (lv_at hl 0 rfl) ?_
  refine lv_iconst (v := 0) hx hb dX8_scan_1 (by decide) ?_
  refine va_put (D := (dC, dI)) (ci := 7) (v := .int 0) (ty := .int) (C := RX8) (T := TX8) (N := 3) hx hb hts iwwsX8_scan_8 tyX8 tyX8_ok nmX8 hown hK hP hD hS 0 rfl rfl 1 (by decide) (hts (.fieldLink RX8 15 "NothingJudge$Tokens" "size" "I") fwwsX8_scan_15) (fun _ h9 => h9) rfl (by decide +kernel) rfl rfl (Nat.le_of_ble_eq_true rfl) dX8_scan_2 (fun H locs hP hD hS => ?_)
  have hP : va_P (dC, dI) vwCl [(h0, .inr (7, [.ref tk0, .int 0, .int 0])), (tp, .inl (cB, 1200, .inl f))] H := hP
  have hD : va_D A [(h0, .inr (7, [.ref tk0, .int 0, .int 0])), (tp, .inl (cB, 1200, .inl f))] := hD
  refine lv_aload_n hx hb dX8_scan_5 rfl (lv_at hl 0 rfl) ?_
  refine lv_iload_n hx hb dX8_scan_6 rfl (lv_at hl 2 rfl) ?_
  refine lv_aload_n hx hb dX8_scan_7 rfl (lv_at hl 1 rfl) ?_
  refine va_alen hx hb hK hP 1 1 rfl rfl (v := 1200) (by show Int32.ofNat 1200 = 1200; decide) dX8_scan_8 ?_
  refine va_mmin hx hb (by rw [hml]; exact hl.1.symm) hown (hts (.methodLink RX8 19 Lib.Math.min.name) ml_wsX8_scan) (hts (.static Lib.Math.min.name) ms_wsX8_scan) (hts (.initialized "java/lang/Math") mi_wsX8_scan) (hts (.code Lib.Math.min.name Lib.Math.min.code 2 (some .int)) mc_wsX8_scan) (Nat.le_of_ble_eq_true rfl) (Nat.le_of_ble_eq_true rfl) (Nat.le_of_ble_eq_true rfl) (Nat.le_of_ble_eq_true rfl) dX8_scan_9 ?_
  refine lv_topi (fun y_285 ey_285 => ?_)
  obtain rfl : y_285 = 0 := ey_285.trans (by decide)
  refine va_put (D := (dC, dI)) (ci := 7) (v := .int 0) (ty := .int) (C := RX8) (T := TX8) (N := 3) hx hb hts iwwsX8_scan_8 tyX8 tyX8_ok nmX8 hown hK hP hD hS 0 rfl rfl 2 (by decide) (hts (.fieldLink RX8 25 "NothingJudge$Tokens" "length" "I") fwwsX8_scan_25) (fun _ h9 => h9) rfl (by decide +kernel) rfl rfl (Nat.le_of_ble_eq_true rfl) dX8_scan_12 (fun H locs hP hD hS => ?_)
  have hP : va_P (dC, dI) vwCl [(h0, .inr (7, [.ref tk0, .int 0, .int 0])), (tp, .inl (cB, 1200, .inl f))] H := hP
  have hD : va_D A [(h0, .inr (7, [.ref tk0, .int 0, .int 0])), (tp, .inl (cB, 1200, .inl f))] := hD
  refine lv_iconst (v := 0) hx hb dX8_scan_15 (by decide) ?_
  refine lv_istore_n (lv' := [(3, .int 0), (0, .ref h0), (1, .ref tp), (2, .int 0)]) hx hb dX8_scan_16 rfl hl (by decide) rfl (fun ls hl => ?_)
  refine lv_iload_n hx hb dX8_scan_17 rfl (lv_at hl 0 rfl) ?_
  refine lv_aload_n hx hb dX8_scan_18 rfl (lv_at hl 1 rfl) ?_
  refine va_get (D := (dC, dI)) (ci := 7) (v := .int 0) (C := RX8) (T := TX8) (N := 3) hx hb hts iwwsX8_scan_8 hown hK hP 0 rfl rfl 2 (by decide) (hts (.fieldLink RX8 25 "NothingJudge$Tokens" "length" "I") fwwsX8_scan_25) (fun _ h9 => h9) rfl dX8_scan_19 ?_
  refine lv_icmp_ge (tgt := 136) hx hb dX8_scan_22 (by decide) (fun _ => ?_) (fun c9 => absurd (by decide) c9)
  have hP9 := hP.sub (ws' := [(h0, .inr (7, [.ref tk0, .int 0, .int 0]))]) [0] rfl
  have hD9 := hD.sub (ws' := [(h0, .inr (7, [.ref tk0, .int 0, .int 0]))]) [0] (by decide) rfl
  exact W.vret hx hb hr (fun t ht hW => ⟨⟨(), rfl, trivial, by rw [ht]; exact hP9, hD9⟩, hS.F ht⟩) hS.2.2 dX8_scan_136

set_option maxHeartbeats 4000000 in
set_option maxRecDepth 100000 in
theorem c_kindAt (l : Launch) (dC : Nat → ClassId) (dI : Nat → Nat → Nat) (cI cB cL cZ : ClassId) (h0 : Nat) (tk0 : Nat) (sz : Nat)  : Met l yX8_kindAt wsX8_kindAt ({ frames := 0, cells := 0, slots := 0, locals := 0 }) (cP (dC, dI) (kTy cI cB cL cZ) [.ref h0, .int 0] [(h0, .inr (7, [.ref tk0, .int 0, .int 0]))] sz) (va_Qi (fun (r : Int32) (_ : Unit) => r = 0) (fun (_ : Unit) (t : State) => va_P (dC, dI) vwCl [(h0, .inr (7, [.ref tk0, .int 0, .int 0]))] t.heap ∧ va_D (va_A [(h0, .inr (7, [.ref tk0, .int 0, .int 0]))] sz) [(h0, .inr (7, [.ref tk0, .int 0, .int 0]))]) (va_A [(h0, .inr (7, [.ref tk0, .int 0, .int 0]))] sz)) 0 0 (va_A [(h0, .inr (7, [.ref tk0, .int 0, .int 0]))] sz) := by
  refine Met.ofW (cc := cX8_kindAt) (maxL := 2) (ret := (some .int)) (by decide) rfl ?_
  intro p e s m args below meth c s₁ B hml hv
  obtain ⟨rfl, hsz, hP, hK, hD0, hN⟩ := hv
  have hx := B.exec
  have hb := B.bytes
  have hr := B.returns
  have hts := atoms_spec (ws := wsX8_kindAt) B.pre
  have hown : s.vm.findClass RX8 = some m.cls := findClass_of_methodNamed B.named
  have hlocks := B.notSynchronized
  subst hsz
  have hD := hD0.self (sz := s.heap.size)
  generalize hAe : va_A [(h0, .inr (7, [.ref tk0, .int 0, .int 0]))] s.heap.size = A at hD ⊢
  have hA : ∀ q : Nat, s.heap.size ≤ q → A q := fun q h => by rw [← hAe]; exact Or.inr h
  have hl := lv_entry ([.ref h0, .int 0]) (n := 2) (Nat.le_of_ble_eq_true rfl)
  rw [lg_entry_eq]
  generalize (lg_sl ([.ref h0, .int 0]) ++ List.replicate (2 - (lg_sl ([.ref h0, .int 0])).length) Slot.unset).toArray = ls at hl ⊢
  have hl : lv_has ls 2 [(0, .ref h0), (1, .int 0)] := hl
  refine k_H (A := A) hP (fun H hP hS => ?_)
  have hP : va_P (dC, dI) vwCl [(h0, .inr (7, [.ref tk0, .int 0, .int 0]))] H := hP
  have hD : va_D A [(h0, .inr (7, [.ref tk0, .int 0, .int 0]))] := hD
  refine lv_iload_n hx hb dX8_kindAt_0 rfl (lv_at hl 1 rfl) ?_
  refine lv_if_lt (tgt := 35) hx hb dX8_kindAt_1 (by decide) (fun c9 => absurd c9 (by decide)) (fun _ => ?_)
  refine lv_iload_n hx hb dX8_kindAt_4 rfl (lv_at hl 1 rfl) ?_
  refine lv_aload_n hx hb dX8_kindAt_5 rfl (lv_at hl 0 rfl) ?_
  refine va_get (D := (dC, dI)) (ci := 7) (v := .int 0) (C := RX8) (T := TX8) (N := 3) hx hb hts iwwsX8_kindAt_8 hown hK hP 0 rfl rfl 1 (by decide) (hts (.fieldLink RX8 15 "NothingJudge$Tokens" "size" "I") fwwsX8_kindAt_15) (fun _ h9 => h9) rfl dX8_kindAt_6 ?_
  refine lv_icmp_ge (tgt := 35) hx hb dX8_kindAt_9 (by decide) (fun _ => ?_) (fun c9 => absurd (by decide) c9)
  refine lv_iconst (v := 0) hx hb dX8_kindAt_35 (by decide) ?_
  have hP9 := hP.sub (ws' := [(h0, .inr (7, [.ref tk0, .int 0, .int 0]))]) [0] rfl
  have hD9 := hD.sub (ws' := [(h0, .inr (7, [.ref tk0, .int 0, .int 0]))]) [0] (by decide) rfl
  exact W.iret (v := 0) hx hb hr (fun t ht hW => ⟨⟨0, (), rfl, rfl, by rw [ht]; exact hP9, hD9⟩, hS.F ht⟩) hS.2.2 dX8_kindAt_36

set_option maxHeartbeats 4000000 in
set_option maxRecDepth 100000 in
theorem c_seen (l : Launch) (dC : Nat → ClassId) (dI : Nat → Nat → Nat) (cI cB cL cZ : ClassId) (h0 : Nat) (tok : Nat) (rd1 : Nat) (rd2 : Nat) (g : Nat) (gc : Nat) (tk0 : Nat) (sz : Nat)  : Met l yX4_seen wsX4_seen ({ frames := 1, cells := 0, slots := 0, locals := 21 }) (cP (dC, dI) (kTy cI cB cL cZ) [.ref h0, .int 0] [(h0, .inr (4, [.ref tok, .ref rd1, .ref rd2, .ref g, .ref gc, .int 0, .int 0, .int 0, .int 0, .int (-1)])), (tok, .inr (7, [.ref tk0, .int 0, .int 0]))] sz) (va_Qi (fun (r : Int32) (_ : Unit) => r = 1) (fun (_ : Unit) (t : State) => va_P (dC, dI) vwCl [(h0, .inr (4, [.ref tok, .ref rd1, .ref rd2, .ref g, .ref gc, .int 0, .int 0, .int 0, .int 0, .int (-1)])), (tok, .inr (7, [.ref tk0, .int 0, .int 0]))] t.heap ∧ va_D (va_A [(h0, .inr (4, [.ref tok, .ref rd1, .ref rd2, .ref g, .ref gc, .int 0, .int 0, .int 0, .int 0, .int (-1)])), (tok, .inr (7, [.ref tk0, .int 0, .int 0]))] sz) [(h0, .inr (4, [.ref tok, .ref rd1, .ref rd2, .ref g, .ref gc, .int 0, .int 0, .int 0, .int 0, .int (-1)])), (tok, .inr (7, [.ref tk0, .int 0, .int 0]))]) (va_A [(h0, .inr (4, [.ref tok, .ref rd1, .ref rd2, .ref g, .ref gc, .int 0, .int 0, .int 0, .int 0, .int (-1)])), (tok, .inr (7, [.ref tk0, .int 0, .int 0]))] sz)) 0 0 (va_A [(h0, .inr (4, [.ref tok, .ref rd1, .ref rd2, .ref g, .ref gc, .int 0, .int 0, .int 0, .int 0, .int (-1)])), (tok, .inr (7, [.ref tk0, .int 0, .int 0]))] sz) := by
  refine Met.ofW (cc := cX4_seen) (maxL := 2) (ret := (some .boolean)) (by decide) rfl ?_
  intro p e s m args below meth c s₁ B hml hv
  obtain ⟨rfl, hsz, hP, hK, hD0, hN⟩ := hv
  have hx := B.exec
  have hb := B.bytes
  have hr := B.returns
  have hts := atoms_spec (ws := wsX4_seen) B.pre
  have hown : s.vm.findClass RX4 = some m.cls := findClass_of_methodNamed B.named
  have hlocks := B.notSynchronized
  subst hsz
  have hD := hD0.self (sz := s.heap.size)
  generalize hAe : va_A [(h0, .inr (4, [.ref tok, .ref rd1, .ref rd2, .ref g, .ref gc, .int 0, .int 0, .int 0, .int 0, .int (-1)])), (tok, .inr (7, [.ref tk0, .int 0, .int 0]))] s.heap.size = A at hD ⊢
  have hA : ∀ q : Nat, s.heap.size ≤ q → A q := fun q h => by rw [← hAe]; exact Or.inr h
  have hl := lv_entry ([.ref h0, .int 0]) (n := 2) (Nat.le_of_ble_eq_true rfl)
  rw [lg_entry_eq]
  generalize (lg_sl ([.ref h0, .int 0]) ++ List.replicate (2 - (lg_sl ([.ref h0, .int 0])).length) Slot.unset).toArray = ls at hl ⊢
  have hl : lv_has ls 2 [(0, .ref h0), (1, .int 0)] := hl
  refine k_H (A := A) hP (fun H hP hS => ?_)
  have hP : va_P (dC, dI) vwCl [(h0, .inr (4, [.ref tok, .ref rd1, .ref rd2, .ref g, .ref gc, .int 0, .int 0, .int 0, .int 0, .int (-1)])), (tok, .inr (7, [.ref tk0, .int 0, .int 0]))] H := hP
  have hD : va_D A [(h0, .inr (4, [.ref tok, .ref rd1, .ref rd2, .ref g, .ref gc, .int 0, .int 0, .int 0, .int 0, .int (-1)])), (tok, .inr (7, [.ref tk0, .int 0, .int 0]))] := hD
  refine lv_aload_n hx hb dX4_seen_0 rfl (lv_at hl 0 rfl) ?_
  refine va_get (D := (dC, dI)) (ci := 4) (v := .ref tok) (C := RX4) (T := TX4) (N := 10) hx hb hts iwwsX4_seen_4 hown hK hP 0 rfl rfl 0 (by decide) (hts (.fieldLink RX4 22 "NothingJudge$Reader" "tokens" "LNothingJudge$Tokens;") fwwsX4_seen_22) (fun _ h9 => h9) rfl dX4_seen_1 ?_
  refine lv_aload_n hx hb dX4_seen_4 rfl (lv_at hl 0 rfl) ?_
  refine va_get (D := (dC, dI)) (ci := 4) (v := .int 0) (C := RX4) (T := TX4) (N := 10) hx hb hts iwwsX4_seen_4 hown hK hP 0 rfl rfl 5 (by decide) (hts (.fieldLink RX4 40 "NothingJudge$Reader" "next" "I") fwwsX4_seen_40) (fun _ h9 => h9) rfl dX4_seen_5 ?_
  have hPc := hP.sub (ws' := [(tok, .inr (7, [.ref tk0, .int 0, .int 0]))]) [1] rfl
  have hDc := hD.sub (ws' := [(tok, .inr (7, [.ref tk0, .int 0, .int 0]))]) [1] (by decide) rfl
  have hFc := va_free (wc := [(tok, .inr (7, [.ref tk0, .int 0, .int 0]))]) hD hS hA [1] rfl
  refine va_calli (va_runV (As := [.int 0]) (rest := []) ⟨hx, hb, hml, hown, hts⟩ (c_kindAt l dC dI cI cB cL cZ (tok) (tk0) H.size) (cwV 1 hts gX4_seen_X8_kindAt rfl rfl rfl (by decide +kernel) ⟨Nat.le_of_ble_eq_true rfl, Nat.le_of_ble_eq_true rfl⟩) ⟨cP_fb, va_recv hK hPc (ci := 7) (q0 := 0) rfl rfl, fun U hU hW => cP_pre hPc hK hDc hN U hU hW⟩ rfl rfl hl.1 rfl (lv_room (Nat.le_of_ble_eq_true rfl)) dX4_seen_8 ⟨Nat.le_of_ble_eq_true rfl, Nat.le_of_ble_eq_true rfl⟩) hS (fun q _ h => hFc q h) hFc (fun r_286 u t H1 locs ht hvm hw hB hz1 hk1 hS => ?_)
  obtain ⟨hP1, hD1⟩ := hB
  rw [ht] at hP1
  obtain ⟨hP, hD⟩ := va_join (wr := [(h0, .inr (4, [.ref tok, .ref rd1, .ref rd2, .ref g, .ref gc, .int 0, .int 0, .int 0, .int 0, .int (-1)]))]) (w1 := [(tok, .inr (7, [.ref tk0, .int 0, .int 0]))]) hP hD [1] [0] rfl rfl (by decide) (by decide) hk1 hFc hP1 hD1
  generalize H1 = H at hP hS ⊢
  have hP : va_P (dC, dI) vwCl [(h0, .inr (4, [.ref tok, .ref rd1, .ref rd2, .ref g, .ref gc, .int 0, .int 0, .int 0, .int 0, .int (-1)])), (tok, .inr (7, [.ref tk0, .int 0, .int 0]))] H := hP
  have hD : va_D A [(h0, .inr (4, [.ref tok, .ref rd1, .ref rd2, .ref g, .ref gc, .int 0, .int 0, .int 0, .int 0, .int (-1)])), (tok, .inr (7, [.ref tk0, .int 0, .int 0]))] := hD
  obtain rfl : r_286 = 0 := hw
  refine lv_iload_n hx hb dX4_seen_11 rfl (lv_at hl 1 rfl) ?_
  refine lv_icmp_ne (tgt := 19) hx hb dX4_seen_12 (by decide) (fun c9 => absurd c9 (by decide)) (fun _ => ?_)
  refine lv_iconst (v := 1) hx hb dX4_seen_15 (by decide) ?_
  refine lv_goto (tgt := 20) hx hb dX4_seen_16 (by decide) ?_
  have hP9 := hP.sub (ws' := [(h0, .inr (4, [.ref tok, .ref rd1, .ref rd2, .ref g, .ref gc, .int 0, .int 0, .int 0, .int 0, .int (-1)])), (tok, .inr (7, [.ref tk0, .int 0, .int 0]))]) [0, 1] rfl
  have hD9 := hD.sub (ws' := [(h0, .inr (4, [.ref tok, .ref rd1, .ref rd2, .ref g, .ref gc, .int 0, .int 0, .int 0, .int 0, .int (-1)])), (tok, .inr (7, [.ref tk0, .int 0, .int 0]))]) [0, 1] (by decide) rfl
  exact W.zret (v := 1) (ty := .boolean) hx hb hr rfl (fun t ht hW => ⟨⟨1, (), rfl, rfl, by rw [ht]; exact hP9, hD9⟩, hS.F ht⟩) hS.2.2 dX4_seen_20

set_option maxHeartbeats 4000000 in
set_option maxRecDepth 100000 in
theorem c_checkCalls (l : Launch) (dC : Nat → ClassId) (dI : Nat → Nat → Nat) (cI cB cL cZ : ClassId) (h0 : Nat) (tok : Nat) (rd1 : Nat) (rd2 : Nat) (g : Nat) (gc : Nat) (gcc : Nat) (sz : Nat)  : Met l yX4_checkCalls wsX4_checkCalls ({ frames := 0, cells := 0, slots := 0, locals := 0 }) (cP (dC, dI) (kTy cI cB cL cZ) [.ref h0] [(h0, .inr (4, [.ref tok, .ref rd1, .ref rd2, .ref g, .ref gc, .int 0, .int 0, .int 0, .int 0, .int (-1)])), (gc, .inr (0, [.ref gcc, .int 0]))] sz) (va_Qv (fun _ : Unit => True) (fun (_ : Unit) (t : State) => va_P (dC, dI) vwCl [(h0, .inr (4, [.ref tok, .ref rd1, .ref rd2, .ref g, .ref gc, .int 0, .int 0, .int 0, .int 0, .int (-1)])), (gc, .inr (0, [.ref gcc, .int 0]))] t.heap ∧ va_D (va_A [(h0, .inr (4, [.ref tok, .ref rd1, .ref rd2, .ref g, .ref gc, .int 0, .int 0, .int 0, .int 0, .int (-1)])), (gc, .inr (0, [.ref gcc, .int 0]))] sz) [(h0, .inr (4, [.ref tok, .ref rd1, .ref rd2, .ref g, .ref gc, .int 0, .int 0, .int 0, .int 0, .int (-1)])), (gc, .inr (0, [.ref gcc, .int 0]))]) (va_A [(h0, .inr (4, [.ref tok, .ref rd1, .ref rd2, .ref g, .ref gc, .int 0, .int 0, .int 0, .int 0, .int (-1)])), (gc, .inr (0, [.ref gcc, .int 0]))] sz)) 0 0 (va_A [(h0, .inr (4, [.ref tok, .ref rd1, .ref rd2, .ref g, .ref gc, .int 0, .int 0, .int 0, .int 0, .int (-1)])), (gc, .inr (0, [.ref gcc, .int 0]))] sz) := by
  refine Met.ofW (cc := cX4_checkCalls) (maxL := 3) (ret := none) (by decide) rfl ?_
  intro p e s m args below meth c s₁ B hml hv
  obtain ⟨rfl, hsz, hP, hK, hD0, hN⟩ := hv
  have hx := B.exec
  have hb := B.bytes
  have hr := B.returns
  have hts := atoms_spec (ws := wsX4_checkCalls) B.pre
  have hown : s.vm.findClass RX4 = some m.cls := findClass_of_methodNamed B.named
  have hlocks := B.notSynchronized
  subst hsz
  have hD := hD0.self (sz := s.heap.size)
  generalize hAe : va_A [(h0, .inr (4, [.ref tok, .ref rd1, .ref rd2, .ref g, .ref gc, .int 0, .int 0, .int 0, .int 0, .int (-1)])), (gc, .inr (0, [.ref gcc, .int 0]))] s.heap.size = A at hD ⊢
  have hA : ∀ q : Nat, s.heap.size ≤ q → A q := fun q h => by rw [← hAe]; exact Or.inr h
  have hl := lv_entry ([.ref h0]) (n := 3) (Nat.le_of_ble_eq_true rfl)
  rw [lg_entry_eq]
  generalize (lg_sl ([.ref h0]) ++ List.replicate (3 - (lg_sl ([.ref h0])).length) Slot.unset).toArray = ls at hl ⊢
  have hl : lv_has ls 3 [(0, .ref h0)] := hl
  refine k_H (A := A) hP (fun H hP hS => ?_)
  have hP : va_P (dC, dI) vwCl [(h0, .inr (4, [.ref tok, .ref rd1, .ref rd2, .ref g, .ref gc, .int 0, .int 0, .int 0, .int 0, .int (-1)])), (gc, .inr (0, [.ref gcc, .int 0]))] H := hP
  have hD : va_D A [(h0, .inr (4, [.ref tok, .ref rd1, .ref rd2, .ref g, .ref gc, .int 0, .int 0, .int 0, .int 0, .int (-1)])), (gc, .inr (0, [.ref gcc, .int 0]))] := hD
  refine lv_iconst (v := 0) hx hb dX4_checkCalls_0 (by decide) ?_
  refine lv_istore_n (lv' := [(1, .int 0), (0, .ref h0)]) hx hb dX4_checkCalls_1 rfl hl (by decide) rfl (fun ls hl => ?_)
  refine lv_iload_n hx hb dX4_checkCalls_2 rfl (lv_at hl 0 rfl) ?_
  refine lv_aload_n hx hb dX4_checkCalls_3 rfl (lv_at hl 1 rfl) ?_
  refine va_get (D := (dC, dI)) (ci := 4) (v := .ref gc) (C := RX4) (T := TX4) (N := 10) hx hb hts iwwsX4_checkCalls_4 hown hK hP 0 rfl rfl 4 (by decide) (hts (.fieldLink RX4 36 "NothingJudge$Reader" "code" "LNothingJudge$Code;") fwwsX4_checkCalls_36) (fun _ h9 => h9) rfl dX4_checkCalls_4 ?_
  refine va_get (D := (dC, dI)) (ci := 0) (v := .int 0) (C := RX0) (T := TX0) (N := 2) hx hb hts iwwsX4_checkCalls_0 hown hK hP 1 rfl rfl 1 (by decide) (hts (.fieldLink RX4 128 "NothingJudge$Code" "size" "I") fwwsX4_checkCalls_128) (fun _ h9 => h9) rfl dX4_checkCalls_7 ?_
  refine lv_icmp_ge (tgt := 99) hx hb dX4_checkCalls_10 (by decide) (fun _ => ?_) (fun c9 => absurd (by decide) c9)
  have hP9 := hP.sub (ws' := [(h0, .inr (4, [.ref tok, .ref rd1, .ref rd2, .ref g, .ref gc, .int 0, .int 0, .int 0, .int 0, .int (-1)])), (gc, .inr (0, [.ref gcc, .int 0]))]) [0, 1] rfl
  have hD9 := hD.sub (ws' := [(h0, .inr (4, [.ref tok, .ref rd1, .ref rd2, .ref g, .ref gc, .int 0, .int 0, .int 0, .int 0, .int (-1)])), (gc, .inr (0, [.ref gcc, .int 0]))]) [0, 1] (by decide) rfl
  exact W.vret hx hb hr (fun t ht hW => ⟨⟨(), rfl, trivial, by rw [ht]; exact hP9, hD9⟩, hS.F ht⟩) hS.2.2 dX4_checkCalls_99

set_option maxHeartbeats 4000000 in
set_option maxRecDepth 100000 in
theorem c_pclear (l : Launch) (dC : Nat → ClassId) (dI : Nat → Nat → Nat) (cI cB cL cZ : ClassId) (h0 : Nat) (gc : Nat) (gcc : Nat) (ga1 : Nat) (ga2 : Nat) (ga3 : Nat) (ga4 : Nat) (ga5 : Nat) (ga6 : Nat) (ga7 : Nat) (ga8 : Nat) (sz : Nat)  : Met l yX3_clear wsX3_clear ({ frames := 0, cells := 0, slots := 0, locals := 0 }) (cP (dC, dI) (kTy cI cB cL cZ) [.ref h0] [(h0, .inr (3, [.ref gc, .ref ga1, .ref ga2, .ref ga3, .ref ga4, .ref ga5, .ref ga6, .ref ga7, .ref ga8, .int 0, .int 0, .int 0, .int 0, .int (-1)])), (gc, .inr (0, [.ref gcc, .int 0]))] sz) (va_Qv (fun _ : Unit => True) (fun (_ : Unit) (t : State) => va_P (dC, dI) vwCl [(h0, .inr (3, [.ref gc, .ref ga1, .ref ga2, .ref ga3, .ref ga4, .ref ga5, .ref ga6, .ref ga7, .ref ga8, .int 0, .int 0, .int 0, .int 0, .int (-1)])), (gc, .inr (0, [.ref gcc, .int 0]))] t.heap ∧ va_D (va_A [(h0, .inr (3, [.ref gc, .ref ga1, .ref ga2, .ref ga3, .ref ga4, .ref ga5, .ref ga6, .ref ga7, .ref ga8, .int 0, .int 0, .int 0, .int 0, .int (-1)])), (gc, .inr (0, [.ref gcc, .int 0]))] sz) [(h0, .inr (3, [.ref gc, .ref ga1, .ref ga2, .ref ga3, .ref ga4, .ref ga5, .ref ga6, .ref ga7, .ref ga8, .int 0, .int 0, .int 0, .int 0, .int (-1)])), (gc, .inr (0, [.ref gcc, .int 0]))]) (va_A [(h0, .inr (3, [.ref gc, .ref ga1, .ref ga2, .ref ga3, .ref ga4, .ref ga5, .ref ga6, .ref ga7, .ref ga8, .int 0, .int 0, .int 0, .int 0, .int (-1)])), (gc, .inr (0, [.ref gcc, .int 0]))] sz)) 0 0 (va_A [(h0, .inr (3, [.ref gc, .ref ga1, .ref ga2, .ref ga3, .ref ga4, .ref ga5, .ref ga6, .ref ga7, .ref ga8, .int 0, .int 0, .int 0, .int 0, .int (-1)])), (gc, .inr (0, [.ref gcc, .int 0]))] sz) := by
  refine Met.ofW (cc := cX3_clear) (maxL := 1) (ret := none) (by decide) rfl ?_
  intro p e s m args below meth c s₁ B hml hv
  obtain ⟨rfl, hsz, hP, hK, hD0, hN⟩ := hv
  have hx := B.exec
  have hb := B.bytes
  have hr := B.returns
  have hts := atoms_spec (ws := wsX3_clear) B.pre
  have hown : s.vm.findClass RX3 = some m.cls := findClass_of_methodNamed B.named
  have hlocks := B.notSynchronized
  subst hsz
  have hD := hD0.self (sz := s.heap.size)
  generalize hAe : va_A [(h0, .inr (3, [.ref gc, .ref ga1, .ref ga2, .ref ga3, .ref ga4, .ref ga5, .ref ga6, .ref ga7, .ref ga8, .int 0, .int 0, .int 0, .int 0, .int (-1)])), (gc, .inr (0, [.ref gcc, .int 0]))] s.heap.size = A at hD ⊢
  have hA : ∀ q : Nat, s.heap.size ≤ q → A q := fun q h => by rw [← hAe]; exact Or.inr h
  have hl := lv_entry ([.ref h0]) (n := 1) (Nat.le_of_ble_eq_true rfl)
  rw [lg_entry_eq]
  generalize (lg_sl ([.ref h0]) ++ List.replicate (1 - (lg_sl ([.ref h0])).length) Slot.unset).toArray = ls at hl ⊢
  have hl : lv_has ls 1 [(0, .ref h0)] := hl
  refine k_H (A := A) hP (fun H hP hS => ?_)
  have hP : va_P (dC, dI) vwCl [(h0, .inr (3, [.ref gc, .ref ga1, .ref ga2, .ref ga3, .ref ga4, .ref ga5, .ref ga6, .ref ga7, .ref ga8, .int 0, .int 0, .int 0, .int 0, .int (-1)])), (gc, .inr (0, [.ref gcc, .int 0]))] H := hP
  have hD : va_D A [(h0, .inr (3, [.ref gc, .ref ga1, .ref ga2, .ref ga3, .ref ga4, .ref ga5, .ref ga6, .ref ga7, .ref ga8, .int 0, .int 0, .int 0, .int 0, .int (-1)])), (gc, .inr (0, [.ref gcc, .int 0]))] := hD
  refine lv_aload_n hx hb dX3_clear_0 rfl (lv_at hl 0 rfl) ?_
  refine va_get (D := (dC, dI)) (ci := 3) (v := .ref gc) (C := RX3) (T := TX3) (N := 14) hx hb hts iwwsX3_clear_3 hown hK hP 0 rfl rfl 0 (by decide) (hts (.fieldLink RX3 12 "NothingJudge$Program" "code" "LNothingJudge$Code;") fwwsX3_clear_12) (fun _ h9 => h9) rfl dX3_clear_1 ?_
  refine lv_iconst (v := 0) hx hb dX3_clear_4 (by decide) ?_
  refine va_put (D := (dC, dI)) (ci := 0) (v := .int 0) (ty := .int) (C := RX0) (T := TX0) (N := 2) hx hb hts iwwsX3_clear_0 tyX0 tyX0_ok nmX0 hown hK hP hD hS 1 rfl rfl 1 (by decide) (hts (.fieldLink RX3 47 "NothingJudge$Code" "size" "I") fwwsX3_clear_47) (fun _ h9 => h9) rfl (by decide +kernel) rfl rfl (Nat.le_of_ble_eq_true rfl) dX3_clear_5 (fun H locs hP hD hS => ?_)
  have hP : va_P (dC, dI) vwCl [(h0, .inr (3, [.ref gc, .ref ga1, .ref ga2, .ref ga3, .ref ga4, .ref ga5, .ref ga6, .ref ga7, .ref ga8, .int 0, .int 0, .int 0, .int 0, .int (-1)])), (gc, .inr (0, [.ref gcc, .int 0]))] H := hP
  have hD : va_D A [(h0, .inr (3, [.ref gc, .ref ga1, .ref ga2, .ref ga3, .ref ga4, .ref ga5, .ref ga6, .ref ga7, .ref ga8, .int 0, .int 0, .int 0, .int 0, .int (-1)])), (gc, .inr (0, [.ref gcc, .int 0]))] := hD
  refine lv_aload_n hx hb dX3_clear_8 rfl (lv_at hl 0 rfl) ?_
  refine lv_iconst (v := 0) hx hb dX3_clear_9 (by decide) ?_
  refine va_put (D := (dC, dI)) (ci := 3) (v := .int 0) (ty := .int) (C := RX3) (T := TX3) (N := 14) hx hb hts iwwsX3_clear_3 tyX3 tyX3_ok nmX3 hown hK hP hD hS 0 rfl rfl 9 (by decide) (hts (.fieldLink RX3 50 "NothingJudge$Program" "told" "I") fwwsX3_clear_50) (fun _ h9 => h9) rfl (by decide +kernel) rfl rfl (Nat.le_of_ble_eq_true rfl) dX3_clear_10 (fun H locs hP hD hS => ?_)
  have hP : va_P (dC, dI) vwCl [(h0, .inr (3, [.ref gc, .ref ga1, .ref ga2, .ref ga3, .ref ga4, .ref ga5, .ref ga6, .ref ga7, .ref ga8, .int 0, .int 0, .int 0, .int 0, .int (-1)])), (gc, .inr (0, [.ref gcc, .int 0]))] H := hP
  have hD : va_D A [(h0, .inr (3, [.ref gc, .ref ga1, .ref ga2, .ref ga3, .ref ga4, .ref ga5, .ref ga6, .ref ga7, .ref ga8, .int 0, .int 0, .int 0, .int 0, .int (-1)])), (gc, .inr (0, [.ref gcc, .int 0]))] := hD
  refine lv_aload_n hx hb dX3_clear_13 rfl (lv_at hl 0 rfl) ?_
  refine lv_iconst (v := 0) hx hb dX3_clear_14 (by decide) ?_
  refine va_put (D := (dC, dI)) (ci := 3) (v := .int 0) (ty := .int) (C := RX3) (T := TX3) (N := 14) hx hb hts iwwsX3_clear_3 tyX3 tyX3_ok nmX3 hown hK hP hD hS 0 rfl rfl 10 (by decide) (hts (.fieldLink RX3 53 "NothingJudge$Program" "routines" "I") fwwsX3_clear_53) (fun _ h9 => h9) rfl (by decide +kernel) rfl rfl (Nat.le_of_ble_eq_true rfl) dX3_clear_15 (fun H locs hP hD hS => ?_)
  have hP : va_P (dC, dI) vwCl [(h0, .inr (3, [.ref gc, .ref ga1, .ref ga2, .ref ga3, .ref ga4, .ref ga5, .ref ga6, .ref ga7, .ref ga8, .int 0, .int 0, .int 0, .int 0, .int (-1)])), (gc, .inr (0, [.ref gcc, .int 0]))] H := hP
  have hD : va_D A [(h0, .inr (3, [.ref gc, .ref ga1, .ref ga2, .ref ga3, .ref ga4, .ref ga5, .ref ga6, .ref ga7, .ref ga8, .int 0, .int 0, .int 0, .int 0, .int (-1)])), (gc, .inr (0, [.ref gcc, .int 0]))] := hD
  refine lv_aload_n hx hb dX3_clear_18 rfl (lv_at hl 0 rfl) ?_
  refine lv_iconst (v := 0) hx hb dX3_clear_19 (by decide) ?_
  refine va_put (D := (dC, dI)) (ci := 3) (v := .int 0) (ty := .int) (C := RX3) (T := TX3) (N := 14) hx hb hts iwwsX3_clear_3 tyX3 tyX3_ok nmX3 hown hK hP hD hS 0 rfl rfl 11 (by decide) (hts (.fieldLink RX3 56 "NothingJudge$Program" "uses" "I") fwwsX3_clear_56) (fun _ h9 => h9) rfl (by decide +kernel) rfl rfl (Nat.le_of_ble_eq_true rfl) dX3_clear_20 (fun H locs hP hD hS => ?_)
  have hP : va_P (dC, dI) vwCl [(h0, .inr (3, [.ref gc, .ref ga1, .ref ga2, .ref ga3, .ref ga4, .ref ga5, .ref ga6, .ref ga7, .ref ga8, .int 0, .int 0, .int 0, .int 0, .int (-1)])), (gc, .inr (0, [.ref gcc, .int 0]))] H := hP
  have hD : va_D A [(h0, .inr (3, [.ref gc, .ref ga1, .ref ga2, .ref ga3, .ref ga4, .ref ga5, .ref ga6, .ref ga7, .ref ga8, .int 0, .int 0, .int 0, .int 0, .int (-1)])), (gc, .inr (0, [.ref gcc, .int 0]))] := hD
  refine lv_aload_n hx hb dX3_clear_23 rfl (lv_at hl 0 rfl) ?_
  refine lv_iconst (v := 0) hx hb dX3_clear_24 (by decide) ?_
  refine va_put (D := (dC, dI)) (ci := 3) (v := .int 0) (ty := .int) (C := RX3) (T := TX3) (N := 14) hx hb hts iwwsX3_clear_3 tyX3 tyX3_ok nmX3 hown hK hP hD hS 0 rfl rfl 12 (by decide) (hts (.fieldLink RX3 59 "NothingJudge$Program" "tests" "I") fwwsX3_clear_59) (fun _ h9 => h9) rfl (by decide +kernel) rfl rfl (Nat.le_of_ble_eq_true rfl) dX3_clear_25 (fun H locs hP hD hS => ?_)
  have hP : va_P (dC, dI) vwCl [(h0, .inr (3, [.ref gc, .ref ga1, .ref ga2, .ref ga3, .ref ga4, .ref ga5, .ref ga6, .ref ga7, .ref ga8, .int 0, .int 0, .int 0, .int 0, .int (-1)])), (gc, .inr (0, [.ref gcc, .int 0]))] H := hP
  have hD : va_D A [(h0, .inr (3, [.ref gc, .ref ga1, .ref ga2, .ref ga3, .ref ga4, .ref ga5, .ref ga6, .ref ga7, .ref ga8, .int 0, .int 0, .int 0, .int 0, .int (-1)])), (gc, .inr (0, [.ref gcc, .int 0]))] := hD
  refine lv_aload_n hx hb dX3_clear_28 rfl (lv_at hl 0 rfl) ?_
  refine lv_iconst (v := (-1)) hx hb dX3_clear_29 (by decide) ?_
  refine va_put (D := (dC, dI)) (ci := 3) (v := .int (-1)) (ty := .int) (C := RX3) (T := TX3) (N := 14) hx hb hts iwwsX3_clear_3 tyX3 tyX3_ok nmX3 hown hK hP hD hS 0 rfl rfl 13 (by decide) (hts (.fieldLink RX3 43 "NothingJudge$Program" "first" "I") fwwsX3_clear_43) (fun _ h9 => h9) rfl (by decide +kernel) rfl rfl (Nat.le_of_ble_eq_true rfl) dX3_clear_30 (fun H locs hP hD hS => ?_)
  have hP : va_P (dC, dI) vwCl [(h0, .inr (3, [.ref gc, .ref ga1, .ref ga2, .ref ga3, .ref ga4, .ref ga5, .ref ga6, .ref ga7, .ref ga8, .int 0, .int 0, .int 0, .int 0, .int (-1)])), (gc, .inr (0, [.ref gcc, .int 0]))] H := hP
  have hD : va_D A [(h0, .inr (3, [.ref gc, .ref ga1, .ref ga2, .ref ga3, .ref ga4, .ref ga5, .ref ga6, .ref ga7, .ref ga8, .int 0, .int 0, .int 0, .int 0, .int (-1)])), (gc, .inr (0, [.ref gcc, .int 0]))] := hD
  have hP9 := hP.sub (ws' := [(h0, .inr (3, [.ref gc, .ref ga1, .ref ga2, .ref ga3, .ref ga4, .ref ga5, .ref ga6, .ref ga7, .ref ga8, .int 0, .int 0, .int 0, .int 0, .int (-1)])), (gc, .inr (0, [.ref gcc, .int 0]))]) [0, 1] rfl
  have hD9 := hD.sub (ws' := [(h0, .inr (3, [.ref gc, .ref ga1, .ref ga2, .ref ga3, .ref ga4, .ref ga5, .ref ga6, .ref ga7, .ref ga8, .int 0, .int 0, .int 0, .int 0, .int (-1)])), (gc, .inr (0, [.ref gcc, .int 0]))]) [0, 1] (by decide) rfl
  exact W.vret hx hb hr (fun t ht hW => ⟨⟨(), rfl, trivial, by rw [ht]; exact hP9, hD9⟩, hS.F ht⟩) hS.2.2 dX3_clear_33
