/-! the law's calls: of two worlds one changes, the other stays -/
theorem wd_ap {sc sc2 : Sc} {c4 : C4} {ad ad2 : Nat → Nat} {σ σ2 : St} (h : ∀ j ∈ sc.1, ∀ k ∈ sc2.1, ad j ≠ ad2 k) (i j : Nat) (x y : Nat × va_E) (hx : (wdS sc c4 ad σ)[i]? = some x) (hy : (wdS sc2 c4 ad2 σ2)[j]? = some y) : x.1 ≠ y.1 := by
  unfold wdS at hx hy
  rw [List.getElem?_map] at hx hy
  cases h1 : sc.1[i]? with
  | none => rw [h1] at hx; cases hx
  | some a =>
    cases h2 : sc2.1[j]? with
    | none => rw [h2] at hy; cases hy
    | some b =>
      rw [h1] at hx
      rw [h2] at hy
      cases hx
      cases hy
      exact h a (List.mem_of_getElem? h1) b (List.mem_of_getElem? h2)
theorem l_callV {p : Program} {e : Env} {R : Room} {s : State} {m : MethodId} {args : Array Value} {below : List Frame} {meth : Method} {c : Code} {Y : Yx} {A : Nat → Prop} {cc : ByteArray} {own : String} {nL ce sl pc : Nat} {Q : State → Prop} {sc sc2 : Sc} {ad ad2 : Nat → Nat} {σ σ2 σ' : St} {H : Heap} {locs : List Loc} {ls : Array Slot} {lv : List (Nat × Value)} {st0 : List Value}
    (hx : p.tables.exec = Jvm.exec) (hb : c.code = cc) (hml : c.maxLocals = nL) (hown : s.vm.findClass own = some m.cls) (hts : ∀ w ∈ lw_gt, w.before args s = true) (hK : va_K Y.2.1 vwCl (kTy Y.2.2.1) s) (hA : ∀ q, s.heap.size ≤ q → A q) (hM : Amb Y.2.2.2.1 Y.2.2.2.2 A s)
    {y : MethodName} {bytes : ByteArray} {maxL index fr1 lo1 : Nat} {ret1 : Option FieldType} {o ci n : Nat} {q9 : vw_C} {As rest : List Value} {out : Option Value} (hw : wV own index y bytes maxL ret1) (hc : callee y n = true) (hR : fr1 + 1 ≤ R.frames ∧ 8 + (maxL + 11) + lo1 ≤ R.locals) (ho : o ∈ sc.1) (hk : sc.2.1 o = ci + 4) (hcl : vwCl[ci]? = some q9) (hq9 : q9.1 = y.cls) (hcon : Con Y sc ad y bytes maxL ret1 fr1 lo1 (.ref (ad o) :: As) σ out σ') (hn : As.length = n) (hst : st0 = As.reverse ++ .ref (ad o) :: rest) (hcat : (rest.map fun v => v.category).sum ≤ 8) (hdg : decode cc pc = .ok (.invokevirtual index, 3)) (hce : ce ≤ R.cells ∧ sl ≤ R.slots)
    (hP : va_P Y.2.1 vwCl (wdS sc Y.2.2.1 ad σ) H) (hP2 : va_P Y.2.1 vwCl (wdS sc2 Y.2.2.1 ad2 σ2) H) (hD : va_D A (wdS sc Y.2.2.1 ad σ)) (hap : ∀ j ∈ sc.1, ∀ k ∈ sc2.1, ad j ≠ ad2 k) (hS : va_S A s.heap H locs) (hl : lv_has ls nL lv)
    (kk : ∀ (H1 : Heap) (locs1 : List Loc), va_P Y.2.1 vwCl (wdS sc Y.2.2.1 ad σ') H1 → va_P Y.2.1 vwCl (wdS sc2 Y.2.2.1 ad2 σ2) H1 → va_D A (wdS sc Y.2.2.1 ad σ') → va_S A s.heap H1 locs1 → W p Y.1 e R s m args below meth c H1 locs1 ce sl Q (F0 m (pc + 3) ls (out.toList ++ rest))) : W p Y.1 e R s m args below meth c H locs ce sl Q (F0 m pc ls st0) := by
  intro T hT X
  obtain ⟨q, hq⟩ := id_pl ho
  have hw2 := wd_at (c4 := Y.2.2.1) (ad := ad) (σ := σ) hq
  rw [show fcell sc Y.2.2.1 ad σ o = .inr (ci, flist ad σ o 0 (sc.2.2.2 o)) from by unfold fcell; rw [hk]] at hw2
  have hrc := va_recv hK hP hcl hw2
  rw [hq9] at hrc
  obtain ⟨d1, d2, d3⟩ := callee_spec hc
  have hF := wd_free hD hS hA
  have hr := va_runV (e := e) (meth := meth) (below := below) (locs := locs) (rm := rmO fr1 lo1) (mc := 0) (ms := 0) (As := As) (rest := rest) (C := y.cls) (b := ad o) ⟨hx, hb, hml, hown, hts⟩ (hcon H.size) (cwV n hts (wV_good hw) rfl rfl rfl ⟨rfl, d1, d2, d3⟩ hR) ⟨cQ_fb, hrc, fun U hU hW => cQ_pre hP hK hD hS hA hM U hU hW⟩ rfl hn hl.1 hst (lv_room hcat) hdg hce
  obtain ⟨v, st₀, t, T', L, h0, X', hL, e1, e2, ⟨⟨hv, hp, hb'⟩, hz, hk'⟩, st⟩ := hr T hT X
  cases hv
  rw [h0] at hz hk'
  have hP2' : va_P Y.2.1 vwCl (wdS sc2 Y.2.2.1 ad2 σ2) T'.heap := by
    intro k x hx
    have h1 := hP2 k x hx
    refine h1.kept ?_
    rw [e1]
    refine hk' x.1 h1.lt (fun z => ?_)
    rcases z with ⟨k2, e2, z⟩ | z
    · exact wd_ap hap k2 k _ _ z hx rfl
    · exact absurd z (Nat.not_le.mpr h1.lt)
  obtain ⟨t2, a1, b1⟩ := kk T'.heap (locs ++ L) (by rw [e1]; exact hp) hP2' (hb'.weaken (fun _ q _ h => hF q.1 h))
    ⟨Nat.le_trans hS.1 (by rw [e1]; exact hz), fun q h1 h2 => by rw [e1, hk' q (Nat.lt_of_lt_of_le h1 hS.1) (fun z => h2 (hF q z))]; exact hS.2.1 q h1 h2, fun q hq => by
      rcases List.mem_append.mp hq with h | h
      · exact hS.2.2 q h
      · exact hF _ (hL q h)⟩ T' rfl X'
  exact ⟨t2, st t2 a1, b1⟩
