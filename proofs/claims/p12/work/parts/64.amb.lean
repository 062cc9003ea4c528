/-! strings and statics at the law's entry -/
def tmS (i : Nat) : Term := match keyS[i]? with
  | some q => .string q.1 q.2.1
  | none => .arg 0
def plS : List Nat := [557, 609, 610, 611, 612, 613, 614, 615, 616, 1331]
def fcC : List Cond := flatC (Jvm.Cond.and given_1 narrow_1)
set_option maxRecDepth 100000 in
theorem fm_ex : ∀ i : Nat, i < 10 → (Cond.exactly (tmS i) "java/lang/String") ∈ fcC := by decide +kernel
set_option maxRecDepth 100000 in
theorem fm_co : ∀ i : Nat, i < 10 → (Cond.eq (.field (tmS i) "java/lang/String" "coder" "B") (.int 0)) ∈ fcC := by decide +kernel
set_option maxRecDepth 100000 in
theorem fm_ar : ∀ i : Nat, i < 10 → (Cond.arrayOf (.field (tmS i) "java/lang/String" "value" "[B") .byte) ∈ fcC := by decide +kernel
set_option maxRecDepth 100000 in
theorem fm_le : ∀ i : Nat, i < 10 → (Cond.eq (.length (.field (tmS i) "java/lang/String" "value" "[B")) (.int (Int32.ofNat (lenS.getD i 0)))) ∈ fcC := by decide +kernel
set_option maxRecDepth 100000 in
theorem fm_el : ∀ i : Nat, i < 10 → ∀ j : Nat, j < lenS.getD i 0 → (Cond.eq (.elem (.field (tmS i) "java/lang/String" "value" "[B") (.int (Int32.ofNat j))) (.int ((bytS.getD i []).getD j 0))) ∈ fcC := by decide +kernel
set_option maxRecDepth 100000 in
theorem fm_ne : ∀ i : Nat, i < 10 → ∀ j : Nat, j < 10 → i ≠ j → (Cond.not (Cond.eq (tmS i) (tmS j))) ∈ fcC ∨ (Cond.not (Cond.eq (tmS j) (tmS i))) ∈ fcC := by decide +kernel
set_option maxRecDepth 100000 in
theorem fm_cs : (Cond.eq (.static "java/lang/String" "COMPACT_STRINGS" "Z") (.int 1)) ∈ fcC ∧ (Cond.isRef (.static "jdk/internal/util/Preconditions" "SIOOBE_FORMATTER" "Ljava/util/function/BiFunction;")) ∈ fcC := by decide +kernel
set_option maxRecDepth 100000 in
theorem tb_st : lw_tbl[570]? = some (.laysStatic "java/lang/String" "COMPACT_STRINGS" "Z") ∧ lw_tbl[586]? = some (.laysStatic "jdk/internal/util/Preconditions" "SIOOBE_FORMATTER" "Ljava/util/function/BiFunction;") ∧ lw_tbl[119]? = some (.initialized "java/lang/String") ∧ lw_tbl[121]? = some (.initialized "jdk/internal/util/Preconditions") := by decide +kernel
set_option maxRecDepth 100000 in
theorem tb_sr : ∀ i : Nat, i < 10 → lw_tbl[plS.getD i 0]? = (keyS[i]?).map (fun q => Cond.stringRef q.1 q.2.1 q.2.2) := by decide +kernel
theorem amb_of {s : State} {b : Nat} (hts : ∀ w ∈ lw_tbl, w.before #[Value.ref b] s = true) (hgv : (Jvm.Cond.and given_1 narrow_1).before #[Value.ref b] s = true) : ∃ adK adV : Nat → Nat, Amb adK adV (AL s) s := by
  have hs : ∀ w ∈ fcC, w.before #[Value.ref b] s = true := flat_of_before _ hgv
  have hA : ∀ a : Nat, a < s.heap.size → ¬ AL s a := fun a h => Nat.not_le.mpr h
  obtain ⟨adK, adV, h1, h2⟩ := vk_Sof (args := #[Value.ref b]) (s := s) (N := 10) (tm := tmS) (len := lenS) (byt := bytS) (A := AL s) (by decide) (fun i hi => hs _ (fm_ex i hi)) (fun i hi => hs _ (fm_co i hi)) (fun i hi => hs _ (fm_ar i hi)) (fun i hi => hs _ (fm_le i hi)) (fun i hi j hj => hs _ (fm_el i hi j hj)) (fun i j hi hj hij => (fm_ne i hi j hj hij).imp (hs _) (hs _)) hA
  refine ⟨adK, adV, h1, fun i q hq => ?_, ?_, ?_⟩
  · have hi : i < 10 := (List.getElem?_eq_some_iff.mp hq).1
    have e := tb_sr i hi
    rw [hq] at e
    have e2 := h2 i hi
    rw [show tmS i = .string q.1 q.2.1 from by unfold tmS; rw [hq]] at e2
    exact vk_R.of (A := #[Value.ref b]) (hts _ (List.mem_of_getElem? e)) e2
  · exact va_Zof (hts _ (List.mem_of_getElem? tb_st.1)) (hts _ (List.mem_of_getElem? tb_st.2.2.1)) (va_eqt (hs _ fm_cs.1)) hA
  · have h := hs _ fm_cs.2
    have hv : ∃ v, (Term.static "jdk/internal/util/Preconditions" "SIOOBE_FORMATTER" "Ljava/util/function/BiFunction;").eval #[Value.ref b] s none [] s = some v ∧ v.isRef = true := by
      cases e : (Term.static "jdk/internal/util/Preconditions" "SIOOBE_FORMATTER" "Ljava/util/function/BiFunction;").eval #[Value.ref b] s none [] s with
      | none => simp [Cond.before, Cond.holds, Cond.value, e] at h
      | some v =>
        refine ⟨v, rfl, ?_⟩
        simp [Cond.before, Cond.holds, Cond.value, e] at h
        cases v <;> first | rfl | exact h
    obtain ⟨v, v1, v2⟩ := hv
    exact ⟨v, va_Zof (hts _ (List.mem_of_getElem? tb_st.2.1)) (hts _ (List.mem_of_getElem? tb_st.2.2.2)) v1 hA, v2⟩
