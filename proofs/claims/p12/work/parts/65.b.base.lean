/-- the three nest words that the constructors rest on -/
def nN (U : State) : Prop := va_Nw (.methodLinkNest RX10 15 yX8_init "NothingJudge") U ∧ va_Nw (.methodLinkNest RX10 22 yX3_init "NothingJudge") U ∧ va_Nw (.methodLinkNest RX3 11 yX0_init "NothingJudge") U
/-- a contract's start: its cells, the tables, the nest words -/
def cP (G : va_G) (tys : List (ClassId × FieldType)) (av : List Value) (ws : va_W) (sz : Nat) : Array Value → State → Prop := va_Pc av (fun U => U.heap.size = sz ∧ va_P G vwCl ws U.heap ∧ va_K G vwCl tys U ∧ va_D (fun _ => True) ws ∧ nN U)
theorem cP_fb {G : va_G} {tys : List (ClassId × FieldType)} {av : List Value} {ws : va_W} {sz : Nat} : FrameBlind (cP G tys av ws sz) := fun a U g mk q => by
  obtain ⟨q0, q1, qP, qK, qD, n1, n2, n3⟩ := q
  exact ⟨q0, q1, qP, va_K.moved (u := U) (U := U.calling g mk a) (Vm.Alike.refl U.vm) qK, qD, va_Nw.same (u := U) rfl rfl n1, va_Nw.same (u := U) rfl rfl n2, va_Nw.same (u := U) rfl rfl n3⟩
theorem cP_pre {G : va_G} {tys : List (ClassId × FieldType)} {av : List Value} {ws : va_W} {A : Nat → Prop} {s : State} {H : Heap} (hP : va_P G vwCl ws H) (hK : va_K G vwCl tys s) (hD : va_D A ws) (hN : nN s) (U : State) (hU : U.heap = H) (hW : s.WarmedH U.vm) : cP G tys av ws H.size av.toArray U :=
  ⟨rfl, by rw [hU], by rw [hU]; exact hP, va_K.moved hW.alike hK, hD.weaken (fun _ _ _ _ => trivial), va_Nw.warmM hW hN.1, va_Nw.warmM hW hN.2.1, va_Nw.warmM hW hN.2.2⟩
theorem fs_ne {l l2 : List Value} {i k : Nat} {v x : Value} (e : l2 = l.set i v) (hne : i ≠ k) (h : l[k]? = some x) : l2[k]? = some x := by
  rw [e, List.getElem?_set_ne hne]
  exact h
theorem fs_eq {l l2 : List Value} {k : Nat} {v : Value} (e : l2 = l.set k v) (h : k < l.length) : l2[k]? = some v := by
  rw [e, List.getElem?_set_self h]
theorem fs_len {l l2 : List Value} {i n : Nat} {v : Value} (e : l2 = l.set i v) (h : l.length = n) : l2.length = n := by
  rw [e, List.length_set]
  exact h
theorem ge_no {k N : Nat} {y : Int32} (hy : y = nI N) (h : k < N) (hN : N < 2 ^ 31) : ¬ y ≤ nI k := by
  rw [hy]
  exact nI_ge h hN
theorem up_fill {f f2 : Nat → Int32} {k : Nat} {v : Int32} (e : f2 = upd f (nI k).toNatClampNeg v) (hk : k < 2 ^ 31) (h : ∀ j, j < k → f j = v) : ∀ j, j < k + 1 → f2 j = v := by
  intro j hj
  rw [e, nI_clamp hk]
  unfold upd
  split
  · rfl
  · exact h j (by omega)
theorem up_keep {f f2 : Nat → Int32} {k N : Nat} {v : Int32} (e : f2 = upd f k v) (h : ∀ j, j < N → f j = v) : ∀ j, j < N → f2 j = v := by
  intro j hj
  rw [e]
  unfold upd
  split
  · rfl
  · exact h j hj
section KN
variable {p : Program} {l : Launch} {e : Env} {R : Room} {s : State} {m : MethodId} {args : Array Value} {below : List Frame} {meth : Method} {c : Code} {H H0 : Heap} {locs : List Loc} {cells slots : Nat} {Q : State → Prop} {D : va_G} {cl : List vw_C} {tys : List (ClassId × FieldType)} {ws : va_W} {A : Nat → Prop} {cc : ByteArray} {pc : Nat} {ls : Array Slot} {rest : List Value}
/-- a new array, its class the one that the tables have -/
theorem k_newa (hexec : p.tables.exec = Jvm.exec) (hb : c.code = cc) {atype : ArrayType} (harr : (Cond.arrayClass (newarray.typeOf atype)).before args s = true) {ty : FieldType} (hty : newarray.typeOf atype = ty) (hK : va_K D cl tys s) (t0 : Nat) {cA0 : ClassId} (ht0 : tys[t0]? = some (cA0, ty)) (hra : ∀ cA : ClassId, va_RA s cA ty → s.vm.findClass ("[" ++ ty.toString) = some cA) (hP : va_P D cl ws H) (hD : va_D A ws) (hS : va_S A H0 H locs) (hA : ∀ q, H0.size ≤ q → A q)
    {n : Int32} {N' : Nat} {a0 : vp_A} (ha : ∀ cA : ClassId, vp_cell cA a0 = arrV cA N' (fun _ => defaultValue ty)) (hn : ¬ n < 0) (hN : n.toNatClampNeg = N') (hbytes : N' * componentBytes ty ≤ 536870912) (hcells : cells + 1 ≤ R.cells) (hslots : slots + N' ≤ R.slots) (hdg : decode cc pc = .ok (.newarray atype, 2))
    (kk : ∀ (q : Nat) (H1 : Heap), va_P D cl (ws ++ [(q, .inl (cA0, a0))]) H1 → va_D A (ws ++ [(q, .inl (cA0, a0))]) → va_S A H0 H1 locs →
      W p l e R s m args below meth c H1 locs (cells + 1) (slots + N') Q (F0 m (pc + 2) ls (.ref q :: rest))) : W p l e R s m args below meth c H locs cells slots Q (F0 m pc ls (.int n :: rest)) := by
  refine va_newa hexec hb harr hty hK hP hD hS hA ha hn hN hbytes hcells hslots hdg (fun q cA H1 hK1 hP1 hD1 hS1 => ?_)
  have h1 := hra _ (hK.2 t0 _ ht0).2
  have h2 := hra _ (hK1.2 tys.length _ (by rw [List.getElem?_append_right (Nat.le_refl _), Nat.sub_self]; rfl)).2
  rw [h1] at h2
  cases h2
  exact kk q H1 hP1 hD1 hS1
theorem k_H {g : JFrame} (hP : va_P D cl ws s.heap) (k : ∀ H : Heap, va_P D cl ws H → va_S A s.heap H [] → W p l e R s m args below meth c H [] cells slots Q g) : W p l e R s m args below meth c s.heap [] cells slots Q g := k s.heap hP va_S.rf
/-- a loop that counts up: what holds at its head, its end, its step -/
theorem lp_up {nL : Nat} (S : Type) (J : Nat → S → Prop) (CE : S → va_W) (LV : Nat → S → List (Nat × Value)) (head N : Nat)
    (hexit : ∀ st : S, J N st → ∀ (H : Heap) (locs : List Loc), va_P D cl (CE st) H → va_D A (CE st) → va_S A H0 H locs → ∀ ls : Array Slot, lv_has ls nL (LV N st) → W p l e R s m args below meth c H locs cells slots Q (F0 m head ls []))
    (hstep : ∀ (k : Nat) (st : S), k < N → J k st → (∀ st2 : S, J (k + 1) st2 → ∀ (H : Heap) (locs : List Loc), va_P D cl (CE st2) H → va_D A (CE st2) → va_S A H0 H locs → ∀ ls : Array Slot, lv_has ls nL (LV (k + 1) st2) → W p l e R s m args below meth c H locs cells slots Q (F0 m head ls [])) →
      ∀ (H : Heap) (locs : List Loc), va_P D cl (CE st) H → va_D A (CE st) → va_S A H0 H locs → ∀ ls : Array Slot, lv_has ls nL (LV k st) → W p l e R s m args below meth c H locs cells slots Q (F0 m head ls []))
    (a : Nat) (haN : a ≤ N) (st0 : S) (h0 : J a st0) (hP : va_P D cl (CE st0) H) (hD : va_D A (CE st0)) (hS : va_S A H0 H locs) (hl : lv_has ls nL (LV a st0)) : W p l e R s m args below meth c H locs cells slots Q (F0 m head ls []) := by
  have key : ∀ (n k : Nat), k + n = N → ∀ st : S, J k st → ∀ (H : Heap) (locs : List Loc), va_P D cl (CE st) H → va_D A (CE st) → va_S A H0 H locs → ∀ ls : Array Slot, lv_has ls nL (LV k st) → W p l e R s m args below meth c H locs cells slots Q (F0 m head ls []) := by
    intro n
    induction n with
    | zero =>
      intro k hk st hJ
      obtain rfl : k = N := by omega
      exact hexit st hJ
    | succ n ih =>
      intro k hk st hJ
      exact hstep k st (by omega) hJ (fun st2 h2 => ih (k + 1) (by omega) st2 h2)
  exact key (N - a) a (by omega) st0 h0 H locs hP hD hS ls hl
end KN
theorem in_of {k y : Int32} {n : Nat} (hy : y = nI n) (h1 : ¬ k < 0) (h2 : ¬ y ≤ k) (hn : n < 2 ^ 31) : vp_in k n := by
  obtain ⟨j, hj, rfl⟩ := nI_of h1
  rw [hy] at h2
  exact vp_in_nI (Nat.not_le.mp fun q => h2 (nI_le q hj)) hn
theorem cl_of {k y : Int32} {n : Nat} (hy : y = nI n) (h1 : ¬ k < 0) (h2 : ¬ y ≤ k) : k.toNatClampNeg < n := by
  obtain ⟨j, hj, rfl⟩ := nI_of h1
  rw [hy] at h2
  rw [nI_clamp hj]
  exact Nat.not_le.mp fun q => h2 (nI_le q hj)
theorem z_sh (x : Int32) : ((0 : Int32) >>> x) &&& 1 = 0 := by
  have h : (0 : Int32) >>> x = 0 := by
    apply Int32.toBitVec_inj.mp
    simp
  rw [h]
  decide
theorem k_no {k : Int32} (h : ¬ (k = 0 ∨ k = 1)) (h0 : ¬ k < 0) : ¬ k ≤ 1 := by
  intro h1
  obtain ⟨j, hj, rfl⟩ := nI_of2 (M := 1) (n := 1) (by decide) h0 h1
  rcases (show j = 0 ∨ j = 1 by omega) with rfl | rfl
  · exact h (Or.inl (by decide))
  · exact h (Or.inr (by decide))
theorem in_add {v y : Int32} {c k n : Nat} (e : v = y + nI k) (h : c + k < n) (hn : n < 2 ^ 31) (hy : y = nI c) : vp_in v n := by
  rw [e, hy, nI_add]
  exact vp_in_nI h hn
theorem cl_add {v y : Int32} {c k n : Nat} (e : v = y + nI k) (h : c + k < n) (hy : y = nI c) (hn : n < 2 ^ 31 := by decide) : v.toNatClampNeg < n := by
  rw [e, hy, nI_add, nI_clamp (by omega)]
  exact h
theorem k_arr {s : State} {args : Array Value} {ty : FieldType} (h : (Cond.arrayClass ty).before args s = true) : ∃ cA : ClassId, ArrOfT s cA ty ∧ s.vm.findClass ("[" ++ ty.toString) = some cA := by
  obtain ⟨cA, kA, comp, h1, h2, h3⟩ := Cond.arrayClass_spec h
  exact ⟨cA, fun n z => ⟨fun k h => (by cases h), kA, h2, comp, h3⟩, h1⟩
theorem k_cmp0 (x : Int32) : x = 0 ∨ (x < 0 ∨ 0 < x) := by
  by_cases h : x < 0
  · exact Or.inr (Or.inl h)
  · by_cases h2 : 0 < x
    · exact Or.inr (Or.inr h2)
    · exact Or.inl (Int32.le_antisymm (Int32.not_lt.mp h2) (Int32.not_lt.mp h))
theorem k_sw6 (x : Int32) : x = 0 ∨ x = 1 ∨ x = 2 ∨ x = 3 ∨ x = 4 ∨ x = 5 ∨ (x.toInt < 0 ∨ 5 < x.toInt) := by
  by_cases h : x.toInt < 0 ∨ 5 < x.toInt
  · exact Or.inr (Or.inr (Or.inr (Or.inr (Or.inr (Or.inr h)))))
  · have h0 : x.toInt = 0 ∨ x.toInt = 1 ∨ x.toInt = 2 ∨ x.toInt = 3 ∨ x.toInt = 4 ∨ x.toInt = 5 := by omega
    rcases h0 with e | e | e | e | e | e
    · exact Or.inl (Int32.toInt_inj.mp e)
    · exact Or.inr (Or.inl (Int32.toInt_inj.mp e))
    · exact Or.inr (Or.inr (Or.inl (Int32.toInt_inj.mp e)))
    · exact Or.inr (Or.inr (Or.inr (Or.inl (Int32.toInt_inj.mp e))))
    · exact Or.inr (Or.inr (Or.inr (Or.inr (Or.inl (Int32.toInt_inj.mp e)))))
    · exact Or.inr (Or.inr (Or.inr (Or.inr (Or.inr (Or.inl (Int32.toInt_inj.mp e))))))
theorem k_short {L : Nat} (h : L < 6) : Int32.ofNat L - 6 < 0 := by
  rcases (show L = 0 ∨ L = 1 ∨ L = 2 ∨ L = 3 ∨ L = 4 ∨ L = 5 by omega) with rfl | rfl | rfl | rfl | rfl | rfl <;> decide
set_option maxRecDepth 20000 in
theorem dfX0 : ∀ j, j < 2 → defaultValue (tyX0 j) = vp_V [.null, .int 0] j := fun j hj => match j, hj with
  | 0, _ => rfl
  | 1, _ => rfl
  | n + 2, h => absurd h (by omega)
set_option maxRecDepth 20000 in
theorem dfX1 : ∀ j, j < 14 → defaultValue (tyX1 j) = vp_V [.null, .null, .null, .null, .null, .null, .null, .null, .int 0, .int 0, .int 0, .int 0, .long 0, .long 0] j := fun j hj => match j, hj with
  | 0, _ => rfl
  | 1, _ => rfl
  | 2, _ => rfl
  | 3, _ => rfl
  | 4, _ => rfl
  | 5, _ => rfl
  | 6, _ => rfl
  | 7, _ => rfl
  | 8, _ => rfl
  | 9, _ => rfl
  | 10, _ => rfl
  | 11, _ => rfl
  | 12, _ => rfl
  | 13, _ => rfl
  | n + 14, h => absurd h (by omega)
set_option maxRecDepth 20000 in
theorem dfX2 : ∀ j, j < 10 → defaultValue (tyX2 j) = vp_V [.null, .null, .null, .null, .int 0, .int 0, .int 0, .int 0, .int 0, .int 0] j := fun j hj => match j, hj with
  | 0, _ => rfl
  | 1, _ => rfl
  | 2, _ => rfl
  | 3, _ => rfl
  | 4, _ => rfl
  | 5, _ => rfl
  | 6, _ => rfl
  | 7, _ => rfl
  | 8, _ => rfl
  | 9, _ => rfl
  | n + 10, h => absurd h (by omega)
set_option maxRecDepth 20000 in
theorem dfX3 : ∀ j, j < 14 → defaultValue (tyX3 j) = vp_V [.null, .null, .null, .null, .null, .null, .null, .null, .null, .int 0, .int 0, .int 0, .int 0, .int 0] j := fun j hj => match j, hj with
  | 0, _ => rfl
  | 1, _ => rfl
  | 2, _ => rfl
  | 3, _ => rfl
  | 4, _ => rfl
  | 5, _ => rfl
  | 6, _ => rfl
  | 7, _ => rfl
  | 8, _ => rfl
  | 9, _ => rfl
  | 10, _ => rfl
  | 11, _ => rfl
  | 12, _ => rfl
  | 13, _ => rfl
  | n + 14, h => absurd h (by omega)
set_option maxRecDepth 20000 in
theorem dfX4 : ∀ j, j < 10 → defaultValue (tyX4 j) = vp_V [.null, .null, .null, .null, .null, .int 0, .int 0, .int 0, .int 0, .int 0] j := fun j hj => match j, hj with
  | 0, _ => rfl
  | 1, _ => rfl
  | 2, _ => rfl
  | 3, _ => rfl
  | 4, _ => rfl
  | 5, _ => rfl
  | 6, _ => rfl
  | 7, _ => rfl
  | 8, _ => rfl
  | 9, _ => rfl
  | n + 10, h => absurd h (by omega)
set_option maxRecDepth 20000 in
theorem dfX6 : ∀ j, j < 16 → defaultValue (tyX6 j) = vp_V [.null, .null, .null, .null, .null, .null, .int 0, .int 0, .int 0, .int 0, .int 0, .int 0, .int 0, .int 0, .int 0, .int 0] j := fun j hj => match j, hj with
  | 0, _ => rfl
  | 1, _ => rfl
  | 2, _ => rfl
  | 3, _ => rfl
  | 4, _ => rfl
  | 5, _ => rfl
  | 6, _ => rfl
  | 7, _ => rfl
  | 8, _ => rfl
  | 9, _ => rfl
  | 10, _ => rfl
  | 11, _ => rfl
  | 12, _ => rfl
  | 13, _ => rfl
  | 14, _ => rfl
  | 15, _ => rfl
  | n + 16, h => absurd h (by omega)
set_option maxRecDepth 20000 in
theorem dfX7 : ∀ j, j < 3 → defaultValue (tyX7 j) = vp_V [.null, .int 0, .null] j := fun j hj => match j, hj with
  | 0, _ => rfl
  | 1, _ => rfl
  | 2, _ => rfl
  | n + 3, h => absurd h (by omega)
set_option maxRecDepth 20000 in
theorem dfX8 : ∀ j, j < 3 → defaultValue (tyX8 j) = vp_V [.null, .int 0, .int 0] j := fun j hj => match j, hj with
  | 0, _ => rfl
  | 1, _ => rfl
  | 2, _ => rfl
  | n + 3, h => absurd h (by omega)
set_option maxRecDepth 20000 in
theorem dfX9 : ∀ j, j < 6 → defaultValue (tyX9 j) = vp_V [.null, .null, .null, .null, .int 0, .int 0] j := fun j hj => match j, hj with
  | 0, _ => rfl
  | 1, _ => rfl
  | 2, _ => rfl
  | 3, _ => rfl
  | 4, _ => rfl
  | 5, _ => rfl
  | n + 6, h => absurd h (by omega)
set_option maxRecDepth 20000 in
theorem dfX10 : ∀ j, j < 13 → defaultValue (tyX10 j) = vp_V [.null, .int 0, .null, .null, .null, .int 0, .int 0, .null, .null, .null, .null, .null, .null] j := fun j hj => match j, hj with
  | 0, _ => rfl
  | 1, _ => rfl
  | 2, _ => rfl
  | 3, _ => rfl
  | 4, _ => rfl
  | 5, _ => rfl
  | 6, _ => rfl
  | 7, _ => rfl
  | 8, _ => rfl
  | 9, _ => rfl
  | 10, _ => rfl
  | 11, _ => rfl
  | 12, _ => rfl
  | n + 13, h => absurd h (by omega)
def fs0X11 : List Value := [.int 0, .null, .int 0, .int 0, .int 0, .int 0, .int 0, .int 0, .int 0, .int 0, .int 0, .int 0, .null, .null, .null, .null, .null, .int 0, .int 0, .null, .null, .null, .null, .null, .null, .null, .null, .null, .null, .null, .null, .null, .null, .int 0, .int 0, .null, .null, .null, .int 0, .int 0, .null, .null, .null, .null, .null, .int 0, .null, .int 0, .null, .null, .int 0, .int 0, .int 0, .int 0, .int 0, .int 0, .int 0, .int 0, .int 0, .int 0, .int 0, .null, .null, .int 0, .int 0, .int 0, .null, .int 0]
theorem fs0X11_len : fs0X11.length = 68 := by decide +kernel
set_option maxRecDepth 20000 in
theorem dfX11 : ∀ j, j < 68 → defaultValue (tyX11 j) = vp_V fs0X11 j := fun j hj => match j, hj with
  | 0, _ => rfl
  | 1, _ => rfl
  | 2, _ => rfl
  | 3, _ => rfl
  | 4, _ => rfl
  | 5, _ => rfl
  | 6, _ => rfl
  | 7, _ => rfl
  | 8, _ => rfl
  | 9, _ => rfl
  | 10, _ => rfl
  | 11, _ => rfl
  | 12, _ => rfl
  | 13, _ => rfl
  | 14, _ => rfl
  | 15, _ => rfl
  | 16, _ => rfl
  | 17, _ => rfl
  | 18, _ => rfl
  | 19, _ => rfl
  | 20, _ => rfl
  | 21, _ => rfl
  | 22, _ => rfl
  | 23, _ => rfl
  | 24, _ => rfl
  | 25, _ => rfl
  | 26, _ => rfl
  | 27, _ => rfl
  | 28, _ => rfl
  | 29, _ => rfl
  | 30, _ => rfl
  | 31, _ => rfl
  | 32, _ => rfl
  | 33, _ => rfl
  | 34, _ => rfl
  | 35, _ => rfl
  | 36, _ => rfl
  | 37, _ => rfl
  | 38, _ => rfl
  | 39, _ => rfl
  | 40, _ => rfl
  | 41, _ => rfl
  | 42, _ => rfl
  | 43, _ => rfl
  | 44, _ => rfl
  | 45, _ => rfl
  | 46, _ => rfl
  | 47, _ => rfl
  | 48, _ => rfl
  | 49, _ => rfl
  | 50, _ => rfl
  | 51, _ => rfl
  | 52, _ => rfl
  | 53, _ => rfl
  | 54, _ => rfl
  | 55, _ => rfl
  | 56, _ => rfl
  | 57, _ => rfl
  | 58, _ => rfl
  | 59, _ => rfl
  | 60, _ => rfl
  | 61, _ => rfl
  | 62, _ => rfl
  | 63, _ => rfl
  | 64, _ => rfl
  | 65, _ => rfl
  | 66, _ => rfl
  | 67, _ => rfl
  | n + 68, h => absurd h (by omega)
