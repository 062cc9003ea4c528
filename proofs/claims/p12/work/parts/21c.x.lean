def x3_addParameter (N : Nat) (σ : St) (a0 : Nat) (a1 : Int32) (a2 : Int32) : Option (Unit × St) :=
  gd (isPr a0) (bd (x5_at N σ (a0 + 4) a1) (fun r2 σ3 => bd (x5_put N σ3 (a0 + 5) ((a1 * 4) + r2) a2) (fun _ σ5 => bd (x5_put N σ5 (a0 + 4) a1 (r2 + 1)) (fun _ σ7 => some ((), σ7)))))
set_option maxHeartbeats 4000000 in
set_option maxRecDepth 100000 in
theorem s_x3_addParameter {X : Cx} {ad : Nat → Nat} (C : Ok X cX3_addParameter RX3 4 none 1 22) (N : Nat) (σ : St) (a0 : Nat) (a1 : Int32) (a2 : Int32) : Sim X scC ad 4 outV 0 [(0, .ref (ad a0)), (1, .int a1), (2, .int a2)] [] σ (x3_addParameter N σ a0 a1 a2) := by
  unfold x3_addParameter
  refine g_aload_n C 0 dX3_addParameter_0 rfl rfl ?_
  refine g_gd (fun hp1 => ?_)
  refine gf_RX3_22 C hp1 dX3_addParameter_1 ?_
  refine g_iload_n C 1 dX3_addParameter_4 rfl rfl ?_
  refine v_x5_at_RX3 C ⟨by decide, by decide⟩ (Nat.le_of_ble_eq_true rfl) dX3_addParameter_5 (fun r2 σ3 _ => ?_)
  refine g_istore_n C [(3, .int r2), (0, .ref (ad a0)), (1, .int a1), (2, .int a2)] dX3_addParameter_8 rfl (by decide) rfl ?_
  refine g_aload_n C 1 dX3_addParameter_9 rfl rfl ?_
  refine gf_RX3_25 C hp1 dX3_addParameter_10 ?_
  refine g_iload_n C 2 dX3_addParameter_13 rfl rfl ?_
  refine g_iconst C 4 dX3_addParameter_14 (by decide) ?_
  refine g_imul C dX3_addParameter_15 ?_
  refine g_iload_n C 0 dX3_addParameter_16 rfl rfl ?_
  refine g_iadd C dX3_addParameter_17 ?_
  refine g_iload_n C 3 dX3_addParameter_18 rfl rfl ?_
  refine v_x5_put_RX3 C ⟨by decide, by decide⟩ (Nat.le_of_ble_eq_true rfl) dX3_addParameter_19 (fun r4 σ5 _ => ?_)
  refine g_aload_n C 1 dX3_addParameter_22 rfl rfl ?_
  refine gf_RX3_22 C hp1 dX3_addParameter_23 ?_
  refine g_iload_n C 2 dX3_addParameter_26 rfl rfl ?_
  refine g_iload_n C 0 dX3_addParameter_27 rfl rfl ?_
  refine g_iconst C 1 dX3_addParameter_28 (by decide) ?_
  refine g_iadd C dX3_addParameter_29 ?_
  refine v_x5_put_RX3 C ⟨by decide, by decide⟩ (Nat.le_of_ble_eq_true rfl) dX3_addParameter_30 (fun r6 σ7 _ => ?_)
  exact g_vret C dX3_addParameter_33
theorem c_x3_addParameter {Y : Yx} {ad : Nat → Nat} {N : Nat} {σ : St} {a0 : Nat} {a1 : Int32} {a2 : Int32} {r : Unit} {σ' : St} (h : x3_addParameter N σ a0 a1 a2 = some (r, σ')) : Con Y scC ad yX3_addParameter cX3_addParameter 4 none 1 22 [.ref (ad a0), .int a1, .int a2] σ (outV r) σ' := con_of (by decide) rfl (Nat.le_of_ble_eq_true rfl) rfl (fun X hX C => s_x3_addParameter C N σ a0 a1 a2) h
set_option maxRecDepth 20000 in
theorem v_x3_addParameter_RX4 {X : Cx} {cc : ByteArray} {nL : Nat} {ret : Option FieldType} {fr lo : Nat} {ad : Nat → Nat} {ρ : Type} {out : ρ → Option Value} {pc : Nat} {lv : List (Nat × Value)} {rest : List Value} {σ : St} {N : Nat} {K : Unit → St → Option (ρ × St)} {a0 : Nat} {a1 : Int32} {a2 : Int32} (C : Ok X cc RX4 nL ret fr lo) (hp : isPr a0 = true) (hR : 1 + 1 ≤ fr ∧ 8 + (4 + 11) + 22 ≤ lo) (hcat : (rest.map fun v => v.category).sum ≤ 8) (hdg : decode cc pc = .ok (.invokevirtual 104, 3)) (k : ∀ (r : Unit) (σ' : St), x3_addParameter N σ a0 a1 a2 = some (r, σ') → Sim X scC ad nL out (pc + 3) lv rest σ' (K r σ')) : Sim X scC ad nL out pc lv (.int a2 :: .int a1 :: .ref (ad a0) :: rest) σ (bd (x3_addParameter N σ a0 a1 a2) K) := g_callV C (out1 := outV) (y := yX3_addParameter) (n := 2) ⟨gw_690, gw_691, gw_692, gw_109, gw_693⟩ (by decide +kernel) hR (o := a0) (ci := 3) (q9 := (RX3, TX3, 14)) (pr_in hp) (pr_kd hp) rfl rfl (fun r σ' h => c_x3_addParameter h) rfl rfl hcat hdg k

def x3_hasParameter_2_b (N : Nat) (rec2 : St → Nat → Int32 → Int32 → Int32 → Option (Int32 × St)) (σ : St) (x0 : Nat) (x1 : Int32) (x2 : Int32) (x3 : Int32) : Option (Int32 × St) :=
  gd (isPr x0) (bd (x5_at N σ (x0 + 4) x1) (fun r2 σ3 => (if r2 ≤ x3 then some (0, σ3) else (if 4 ≤ x3 then some (0, σ3) else bd (x3_parameter N σ3 x0 x1 x3) (fun r4 σ5 => (if r4 = x2 then some (1, σ5) else rec2 σ5 x0 x1 x2 (x3 + 1)))))))
def x3_hasParameter_2 (N : Nat) : Nat → St → Nat → Int32 → Int32 → Int32 → Option (Int32 × St)
  | 0 => fun _ _ _ _ _ => none
  | n + 1 => fun σ x0 x1 x2 x3 => x3_hasParameter_2_b N (x3_hasParameter_2 N n) σ x0 x1 x2 x3
def x3_hasParameter (N : Nat) (σ : St) (a0 : Nat) (a1 : Int32) (a2 : Int32) : Option (Int32 × St) :=
  x3_hasParameter_2 N N σ a0 a1 a2 0
set_option maxHeartbeats 4000000 in
set_option maxRecDepth 100000 in
theorem s_x3_hasParameter_2_b {X : Cx} {ad : Nat → Nat} (C : Ok X cX3_hasParameter RX3 4 (some .boolean) 2 43) (N : Nat) {rec2 : St → Nat → Int32 → Int32 → Int32 → Option (Int32 × St)} (hrec2 : ∀ (σ : St) (x0 : Nat) (x1 : Int32) (x2 : Int32) (x3 : Int32), Sim X scC ad 4 outI 2 [(0, .ref (ad x0)), (1, .int x1), (2, .int x2), (3, .int x3)] [] σ (rec2 σ x0 x1 x2 x3)) (σ : St) (x0 : Nat) (x1 : Int32) (x2 : Int32) (x3 : Int32) : Sim X scC ad 4 outI 2 [(0, .ref (ad x0)), (1, .int x1), (2, .int x2), (3, .int x3)] [] σ (x3_hasParameter_2_b N rec2 σ x0 x1 x2 x3) := by
  unfold x3_hasParameter_2_b
  refine g_iload_n C 3 dX3_hasParameter_2 rfl rfl ?_
  refine g_aload_n C 0 dX3_hasParameter_3 rfl rfl ?_
  refine g_gd (fun hp1 => ?_)
  refine gf_RX3_22 C hp1 dX3_hasParameter_4 ?_
  refine g_iload_n C 1 dX3_hasParameter_7 rfl rfl ?_
  refine v_x5_at_RX3 C ⟨by decide, by decide⟩ (Nat.le_of_ble_eq_true rfl) dX3_hasParameter_8 (fun r2 σ3 _ => ?_)
  refine g_icmp_ge C 37 dX3_hasParameter_11 (by decide) ?_ ?_
  · refine g_iconst C 0 dX3_hasParameter_37 (by decide) ?_
    exact g_zret C rfl dX3_hasParameter_38
  · refine g_iload_n C 3 dX3_hasParameter_14 rfl rfl ?_
    refine g_iconst C 4 dX3_hasParameter_15 (by decide) ?_
    refine g_icmp_ge C 37 dX3_hasParameter_16 (by decide) ?_ ?_
    · refine g_iconst C 0 dX3_hasParameter_37 (by decide) ?_
      exact g_zret C rfl dX3_hasParameter_38
    · refine g_aload_n C 0 dX3_hasParameter_19 rfl rfl ?_
      refine g_iload_n C 1 dX3_hasParameter_20 rfl rfl ?_
      refine g_iload_n C 3 dX3_hasParameter_21 rfl rfl ?_
      refine v_x3_parameter_RX3 C hp1 ⟨by decide, by decide⟩ (Nat.le_of_ble_eq_true rfl) dX3_hasParameter_22 (fun r4 σ5 _ => ?_)
      refine g_iload_n C 2 dX3_hasParameter_25 rfl rfl ?_
      refine g_icmp_ne C 31 dX3_hasParameter_26 (by decide) ?_ ?_
      · refine g_iinc C (x3 + 1) 3 [(3, .int (x3 + 1)), (0, .ref (ad x0)), (1, .int x1), (2, .int x2)] dX3_hasParameter_31 rfl rfl (by decide) rfl ?_
        refine g_goto C 2 dX3_hasParameter_34 (by decide) ?_
        exact g_sub [1, 2, 3, 0] rfl (hrec2 σ5 x0 x1 x2 (x3 + 1))
      · refine g_iconst C 1 dX3_hasParameter_29 (by decide) ?_
        exact g_zret C rfl dX3_hasParameter_30
set_option maxHeartbeats 4000000 in
set_option maxRecDepth 100000 in
theorem s_x3_hasParameter_2 {X : Cx} {ad : Nat → Nat} (C : Ok X cX3_hasParameter RX3 4 (some .boolean) 2 43) (N : Nat) : ∀ (n : Nat) (σ : St) (x0 : Nat) (x1 : Int32) (x2 : Int32) (x3 : Int32), Sim X scC ad 4 outI 2 [(0, .ref (ad x0)), (1, .int x1), (2, .int x2), (3, .int x3)] [] σ (x3_hasParameter_2 N n σ x0 x1 x2 x3) := by
  intro n
  induction n with
  | zero => intro σ x0 x1 x2 x3; exact g_none
  | succ n ih => intro σ x0 x1 x2 x3; exact s_x3_hasParameter_2_b C N ih σ x0 x1 x2 x3
set_option maxHeartbeats 4000000 in
set_option maxRecDepth 100000 in
theorem s_x3_hasParameter {X : Cx} {ad : Nat → Nat} (C : Ok X cX3_hasParameter RX3 4 (some .boolean) 2 43) (N : Nat) (σ : St) (a0 : Nat) (a1 : Int32) (a2 : Int32) : Sim X scC ad 4 outI 0 [(0, .ref (ad a0)), (1, .int a1), (2, .int a2)] [] σ (x3_hasParameter N σ a0 a1 a2) := by
  unfold x3_hasParameter
  refine g_iconst C 0 dX3_hasParameter_0 (by decide) ?_
  refine g_istore_n C [(3, .int 0), (0, .ref (ad a0)), (1, .int a1), (2, .int a2)] dX3_hasParameter_1 rfl (by decide) rfl ?_
  exact g_sub [1, 2, 3, 0] rfl (s_x3_hasParameter_2 C N N σ a0 a1 a2 0)
theorem c_x3_hasParameter {Y : Yx} {ad : Nat → Nat} {N : Nat} {σ : St} {a0 : Nat} {a1 : Int32} {a2 : Int32} {r : Int32} {σ' : St} (h : x3_hasParameter N σ a0 a1 a2 = some (r, σ')) : Con Y scC ad yX3_hasParameter cX3_hasParameter 4 (some .boolean) 2 43 [.ref (ad a0), .int a1, .int a2] σ (outI r) σ' := con_of (by decide) rfl (Nat.le_of_ble_eq_true rfl) rfl (fun X hX C => s_x3_hasParameter C N σ a0 a1 a2) h
set_option maxRecDepth 20000 in
theorem v_x3_hasParameter_RX4 {X : Cx} {cc : ByteArray} {nL : Nat} {ret : Option FieldType} {fr lo : Nat} {ad : Nat → Nat} {ρ : Type} {out : ρ → Option Value} {pc : Nat} {lv : List (Nat × Value)} {rest : List Value} {σ : St} {N : Nat} {K : Int32 → St → Option (ρ × St)} {a0 : Nat} {a1 : Int32} {a2 : Int32} (C : Ok X cc RX4 nL ret fr lo) (hp : isPr a0 = true) (hR : 2 + 1 ≤ fr ∧ 8 + (4 + 11) + 43 ≤ lo) (hcat : (rest.map fun v => v.category).sum ≤ 8) (hdg : decode cc pc = .ok (.invokevirtual 101, 3)) (k : ∀ (r : Int32) (σ' : St), x3_hasParameter N σ a0 a1 a2 = some (r, σ') → Sim X scC ad nL out (pc + 3) lv (.int r :: rest) σ' (K r σ')) : Sim X scC ad nL out pc lv (.int a2 :: .int a1 :: .ref (ad a0) :: rest) σ (bd (x3_hasParameter N σ a0 a1 a2) K) := g_callV C (out1 := outI) (y := yX3_hasParameter) (n := 2) ⟨gw_679, gw_680, gw_681, gw_109, gw_682⟩ (by decide +kernel) hR (o := a0) (ci := 3) (q9 := (RX3, TX3, 14)) (pr_in hp) (pr_kd hp) rfl rfl (fun r σ' h => c_x3_hasParameter h) rfl rfl hcat hdg k

def x3_addUse (N : Nat) (σ : St) (a0 : Nat) (a1 : Int32) (a2 : Int32) (a3 : Int32) : Option (Int32 × St) :=
  gd (isPr a0) ((if (gI σ (100 * a0 + 11)) < 0 then some ((-1), σ) else (if (gI σ (100 * a0 + 11)) < 40 then gd (ib (gI σ (100 * a0 + 11)) 40) (gd (ib (gI σ (100 * a0 + 11)) 40) (gd (ib (gI σ (100 * a0 + 11)) 40) (some (gI σ (100 * a0 + 11), (sI (sA (sA (sA σ (a0 + 6) ((gI σ (100 * a0 + 11)).toNatClampNeg) a1) (a0 + 7) ((gI σ (100 * a0 + 11)).toNatClampNeg) a2) (a0 + 8) ((gI σ (100 * a0 + 11)).toNatClampNeg) a3) (100 * a0 + 11) ((gI σ (100 * a0 + 11)) + 1)))))) else some ((-1), σ))))
set_option maxHeartbeats 4000000 in
set_option maxRecDepth 100000 in
theorem s_x3_addUse {X : Cx} {ad : Nat → Nat} (C : Ok X cX3_addUse RX3 5 (some .int) 0 0) (N : Nat) (σ : St) (a0 : Nat) (a1 : Int32) (a2 : Int32) (a3 : Int32) : Sim X scC ad 5 outI 0 [(0, .ref (ad a0)), (1, .int a1), (2, .int a2), (3, .int a3)] [] σ (x3_addUse N σ a0 a1 a2 a3) := by
  unfold x3_addUse
  refine g_aload_n C 0 dX3_addUse_0 rfl rfl ?_
  refine g_gd (fun hp1 => ?_)
  refine gf_RX3_56 C hp1 (v := gI σ (100 * a0 + 11)) dX3_addUse_1 rfl ?_
  refine g_istore C [(4, .int (gI σ (100 * a0 + 11))), (0, .ref (ad a0)), (1, .int a1), (2, .int a2), (3, .int a3)] dX3_addUse_4 (by decide) rfl ?_
  refine g_iload C 0 dX3_addUse_6 rfl ?_
  refine g_if_lt C 18 dX3_addUse_8 (by decide) ?_ ?_
  · refine g_iconst C (-1) dX3_addUse_18 (by decide) ?_
    exact g_iret C dX3_addUse_19
  · refine g_iload C 0 dX3_addUse_11 rfl ?_
    refine g_bipush C 40 dX3_addUse_13 (by decide) ?_
    refine g_icmp_lt C 20 dX3_addUse_15 (by decide) ?_ ?_
    · refine g_aload_n C 1 dX3_addUse_20 rfl rfl ?_
      refine gf_RX3_28 C hp1 dX3_addUse_21 ?_
      refine g_iload C 0 dX3_addUse_24 rfl ?_
      refine g_iload_n C 2 dX3_addUse_26 rfl rfl ?_
      refine ca_stI C (j := a0 + 6) (pr_ia4 hp1) (pr_il4 hp1) dX3_addUse_27 ?_
      refine g_aload_n C 1 dX3_addUse_28 rfl rfl ?_
      refine gf_RX3_31 C hp1 dX3_addUse_29 ?_
      refine g_iload C 0 dX3_addUse_32 rfl ?_
      refine g_iload_n C 3 dX3_addUse_34 rfl rfl ?_
      refine ca_stI C (j := a0 + 7) (pr_ia5 hp1) (pr_il5 hp1) dX3_addUse_35 ?_
      refine g_aload_n C 1 dX3_addUse_36 rfl rfl ?_
      refine gf_RX3_34 C hp1 dX3_addUse_37 ?_
      refine g_iload C 0 dX3_addUse_40 rfl ?_
      refine g_iload_n C 4 dX3_addUse_42 rfl rfl ?_
      refine ca_stI C (j := a0 + 8) (pr_ia6 hp1) (pr_il6 hp1) dX3_addUse_43 ?_
      refine g_aload_n C 1 dX3_addUse_44 rfl rfl ?_
      refine g_dup C dX3_addUse_45 rfl ?_
      refine gf_RX3_56 C hp1 (v := gI σ (100 * a0 + 11)) dX3_addUse_46 rfl ?_
      refine g_iconst C 1 dX3_addUse_49 (by decide) ?_
      refine g_iadd C dX3_addUse_50 ?_
      refine pf_RX3_56 C hp1 dX3_addUse_51 ?_
      refine g_iload C 0 dX3_addUse_54 rfl ?_
      exact g_iret C dX3_addUse_56
    · refine g_iconst C (-1) dX3_addUse_18 (by decide) ?_
      exact g_iret C dX3_addUse_19
theorem c_x3_addUse {Y : Yx} {ad : Nat → Nat} {N : Nat} {σ : St} {a0 : Nat} {a1 : Int32} {a2 : Int32} {a3 : Int32} {r : Int32} {σ' : St} (h : x3_addUse N σ a0 a1 a2 a3 = some (r, σ')) : Con Y scC ad yX3_addUse cX3_addUse 5 (some .int) 0 0 [.ref (ad a0), .int a1, .int a2, .int a3] σ (outI r) σ' := con_of (by decide) rfl (Nat.le_of_ble_eq_true rfl) rfl (fun X hX C => s_x3_addUse C N σ a0 a1 a2 a3) h
set_option maxRecDepth 20000 in
theorem v_x3_addUse_RX4 {X : Cx} {cc : ByteArray} {nL : Nat} {ret : Option FieldType} {fr lo : Nat} {ad : Nat → Nat} {ρ : Type} {out : ρ → Option Value} {pc : Nat} {lv : List (Nat × Value)} {rest : List Value} {σ : St} {N : Nat} {K : Int32 → St → Option (ρ × St)} {a0 : Nat} {a1 : Int32} {a2 : Int32} {a3 : Int32} (C : Ok X cc RX4 nL ret fr lo) (hp : isPr a0 = true) (hR : 0 + 1 ≤ fr ∧ 8 + (5 + 11) + 0 ≤ lo) (hcat : (rest.map fun v => v.category).sum ≤ 8) (hdg : decode cc pc = .ok (.invokevirtual 159, 3)) (k : ∀ (r : Int32) (σ' : St), x3_addUse N σ a0 a1 a2 a3 = some (r, σ') → Sim X scC ad nL out (pc + 3) lv (.int r :: rest) σ' (K r σ')) : Sim X scC ad nL out pc lv (.int a3 :: .int a2 :: .int a1 :: .ref (ad a0) :: rest) σ (bd (x3_addUse N σ a0 a1 a2 a3) K) := g_callV C (out1 := outI) (y := yX3_addUse) (n := 3) ⟨gw_729, gw_730, gw_731, gw_109, gw_732⟩ (by decide +kernel) hR (o := a0) (ci := 3) (q9 := (RX3, TX3, 14)) (pr_in hp) (pr_kd hp) rfl rfl (fun r σ' h => c_x3_addUse h) rfl rfl hcat hdg k

def x3_addTest (N : Nat) (σ : St) (a0 : Nat) (a1 : Int32) (a2 : Int32) : Option (Int32 × St) :=
  gd (isPr a0) ((if (gI σ (100 * a0 + 12)) < 0 then some ((-1), σ) else (if (gI σ (100 * a0 + 12)) < 24 then gd (ib (gI σ (100 * a0 + 12)) 24) (gd (ib (gI σ (100 * a0 + 12)) 24) (some (gI σ (100 * a0 + 12), (sI (sA (sA σ (a0 + 9) ((gI σ (100 * a0 + 12)).toNatClampNeg) a1) (a0 + 10) ((gI σ (100 * a0 + 12)).toNatClampNeg) a2) (100 * a0 + 12) ((gI σ (100 * a0 + 12)) + 1))))) else some ((-1), σ))))
set_option maxHeartbeats 4000000 in
set_option maxRecDepth 100000 in
theorem s_x3_addTest {X : Cx} {ad : Nat → Nat} (C : Ok X cX3_addTest RX3 4 (some .int) 0 0) (N : Nat) (σ : St) (a0 : Nat) (a1 : Int32) (a2 : Int32) : Sim X scC ad 4 outI 0 [(0, .ref (ad a0)), (1, .int a1), (2, .int a2)] [] σ (x3_addTest N σ a0 a1 a2) := by
  unfold x3_addTest
  refine g_aload_n C 0 dX3_addTest_0 rfl rfl ?_
  refine g_gd (fun hp1 => ?_)
  refine gf_RX3_59 C hp1 (v := gI σ (100 * a0 + 12)) dX3_addTest_1 rfl ?_
  refine g_istore_n C [(3, .int (gI σ (100 * a0 + 12))), (0, .ref (ad a0)), (1, .int a1), (2, .int a2)] dX3_addTest_4 rfl (by decide) rfl ?_
  refine g_iload_n C 0 dX3_addTest_5 rfl rfl ?_
  refine g_if_lt C 15 dX3_addTest_6 (by decide) ?_ ?_
  · refine g_iconst C (-1) dX3_addTest_15 (by decide) ?_
    exact g_iret C dX3_addTest_16
  · refine g_iload_n C 0 dX3_addTest_9 rfl rfl ?_
    refine g_bipush C 24 dX3_addTest_10 (by decide) ?_
    refine g_icmp_lt C 17 dX3_addTest_12 (by decide) ?_ ?_
    · refine g_aload_n C 1 dX3_addTest_17 rfl rfl ?_
      refine gf_RX3_37 C hp1 dX3_addTest_18 ?_
      refine g_iload_n C 0 dX3_addTest_21 rfl rfl ?_
      refine g_iload_n C 2 dX3_addTest_22 rfl rfl ?_
      refine ca_stI C (j := a0 + 9) (pr_ia7 hp1) (pr_il7 hp1) dX3_addTest_23 ?_
      refine g_aload_n C 1 dX3_addTest_24 rfl rfl ?_
      refine gf_RX3_40 C hp1 dX3_addTest_25 ?_
      refine g_iload_n C 0 dX3_addTest_28 rfl rfl ?_
      refine g_iload_n C 3 dX3_addTest_29 rfl rfl ?_
      refine ca_stI C (j := a0 + 10) (pr_ia8 hp1) (pr_il8 hp1) dX3_addTest_30 ?_
      refine g_aload_n C 1 dX3_addTest_31 rfl rfl ?_
      refine g_dup C dX3_addTest_32 rfl ?_
      refine gf_RX3_59 C hp1 (v := gI σ (100 * a0 + 12)) dX3_addTest_33 rfl ?_
      refine g_iconst C 1 dX3_addTest_36 (by decide) ?_
      refine g_iadd C dX3_addTest_37 ?_
      refine pf_RX3_59 C hp1 dX3_addTest_38 ?_
      refine g_iload_n C 0 dX3_addTest_41 rfl rfl ?_
      exact g_iret C dX3_addTest_42
    · refine g_iconst C (-1) dX3_addTest_15 (by decide) ?_
      exact g_iret C dX3_addTest_16
theorem c_x3_addTest {Y : Yx} {ad : Nat → Nat} {N : Nat} {σ : St} {a0 : Nat} {a1 : Int32} {a2 : Int32} {r : Int32} {σ' : St} (h : x3_addTest N σ a0 a1 a2 = some (r, σ')) : Con Y scC ad yX3_addTest cX3_addTest 4 (some .int) 0 0 [.ref (ad a0), .int a1, .int a2] σ (outI r) σ' := con_of (by decide) rfl (Nat.le_of_ble_eq_true rfl) rfl (fun X hX C => s_x3_addTest C N σ a0 a1 a2) h
set_option maxRecDepth 20000 in
theorem v_x3_addTest_RX4 {X : Cx} {cc : ByteArray} {nL : Nat} {ret : Option FieldType} {fr lo : Nat} {ad : Nat → Nat} {ρ : Type} {out : ρ → Option Value} {pc : Nat} {lv : List (Nat × Value)} {rest : List Value} {σ : St} {N : Nat} {K : Int32 → St → Option (ρ × St)} {a0 : Nat} {a1 : Int32} {a2 : Int32} (C : Ok X cc RX4 nL ret fr lo) (hp : isPr a0 = true) (hR : 0 + 1 ≤ fr ∧ 8 + (4 + 11) + 0 ≤ lo) (hcat : (rest.map fun v => v.category).sum ≤ 8) (hdg : decode cc pc = .ok (.invokevirtual 166, 3)) (k : ∀ (r : Int32) (σ' : St), x3_addTest N σ a0 a1 a2 = some (r, σ') → Sim X scC ad nL out (pc + 3) lv (.int r :: rest) σ' (K r σ')) : Sim X scC ad nL out pc lv (.int a2 :: .int a1 :: .ref (ad a0) :: rest) σ (bd (x3_addTest N σ a0 a1 a2) K) := g_callV C (out1 := outI) (y := yX3_addTest) (n := 2) ⟨gw_770, gw_771, gw_772, gw_109, gw_773⟩ (by decide +kernel) hR (o := a0) (ci := 3) (q9 := (RX3, TX3, 14)) (pr_in hp) (pr_kd hp) rfl rfl (fun r σ' h => c_x3_addTest h) rfl rfl hcat hdg k

def x8_kindAt (N : Nat) (σ : St) (a1 : Int32) : Option (Int32 × St) :=
  (if a1 < 0 then some (0, σ) else (if (gI σ 201) ≤ a1 then some (0, σ) else (if 1200 ≤ a1 then some (0, σ) else gd (ib a1 1200) (some (((gA σ 3 a1.toNatClampNeg) >>> ((5 : Int32) &&& 31)) &&& 31, σ)))))
set_option maxHeartbeats 4000000 in
set_option maxRecDepth 100000 in
theorem s_x8_kindAt {X : Cx} {ad : Nat → Nat} (C : Ok X cX8_kindAt RX8 2 (some .int) 0 0) (N : Nat) (σ : St) (a1 : Int32) : Sim X scC ad 2 outI 0 [(0, .ref (ad 2)), (1, .int a1)] [] σ (x8_kindAt N σ a1) := by
  unfold x8_kindAt
  refine g_iload_n C 1 dX8_kindAt_0 rfl rfl ?_
  refine g_if_lt C 35 dX8_kindAt_1 (by decide) ?_ ?_
  · refine g_iconst C 0 dX8_kindAt_35 (by decide) ?_
    exact g_iret C dX8_kindAt_36
  · refine g_iload_n C 1 dX8_kindAt_4 rfl rfl ?_
    refine g_aload_n C 0 dX8_kindAt_5 rfl rfl ?_
    refine gf_RX8_15 C  (v := gI σ 201) dX8_kindAt_6 rfl ?_
    refine g_icmp_ge C 35 dX8_kindAt_9 (by decide) ?_ ?_
    · refine g_iconst C 0 dX8_kindAt_35 (by decide) ?_
      exact g_iret C dX8_kindAt_36
    · refine g_iload_n C 1 dX8_kindAt_12 rfl rfl ?_
      refine g_aload_n C 0 dX8_kindAt_13 rfl rfl ?_
      refine gf_RX8_9 C  dX8_kindAt_14 ?_
      refine ca_lenI C (j := 3) 1200 ia_3 (by rw [il_3]; decide) dX8_kindAt_17 ?_
      refine g_icmp_ge C 35 dX8_kindAt_18 (by decide) ?_ ?_
      · refine g_iconst C 0 dX8_kindAt_35 (by decide) ?_
        exact g_iret C dX8_kindAt_36
      · refine g_aload_n C 0 dX8_kindAt_21 rfl rfl ?_
        refine gf_RX8_9 C  dX8_kindAt_22 ?_
        refine g_iload_n C 1 dX8_kindAt_25 rfl rfl ?_
        refine ca_ldI C (j := 3) (v := gA σ 3 a1.toNatClampNeg) ia_3 il_3 dX8_kindAt_26 rfl ?_
        refine g_iconst C 5 dX8_kindAt_27 (by decide) ?_
        refine g_ishr C dX8_kindAt_28 ?_
        refine g_bipush C 31 dX8_kindAt_29 (by decide) ?_
        refine g_iand C dX8_kindAt_31 ?_
        refine g_goto C 36 dX8_kindAt_32 (by decide) ?_
        exact g_iret C dX8_kindAt_36
theorem c_x8_kindAt {Y : Yx} {ad : Nat → Nat} {N : Nat} {σ : St} {a1 : Int32} {r : Int32} {σ' : St} (h : x8_kindAt N σ a1 = some (r, σ')) : Con Y scC ad yX8_kindAt cX8_kindAt 2 (some .int) 0 0 [.ref (ad 2), .int a1] σ (outI r) σ' := con_of (by decide) rfl (Nat.le_of_ble_eq_true rfl) rfl (fun X hX C => s_x8_kindAt C N σ a1) h
set_option maxRecDepth 20000 in
theorem v_x8_kindAt_RX4 {X : Cx} {cc : ByteArray} {nL : Nat} {ret : Option FieldType} {fr lo : Nat} {ad : Nat → Nat} {ρ : Type} {out : ρ → Option Value} {pc : Nat} {lv : List (Nat × Value)} {rest : List Value} {σ : St} {N : Nat} {K : Int32 → St → Option (ρ × St)} {a1 : Int32} (C : Ok X cc RX4 nL ret fr lo) (hR : 0 + 1 ≤ fr ∧ 8 + (2 + 11) + 0 ≤ lo) (hcat : (rest.map fun v => v.category).sum ≤ 8) (hdg : decode cc pc = .ok (.invokevirtual 68, 3)) (k : ∀ (r : Int32) (σ' : St), x8_kindAt N σ a1 = some (r, σ') → Sim X scC ad nL out (pc + 3) lv (.int r :: rest) σ' (K r σ')) : Sim X scC ad nL out pc lv (.int a1 :: .ref (ad 2) :: rest) σ (bd (x8_kindAt N σ a1) K) := g_callV C (out1 := outI) (y := yX8_kindAt) (n := 1) ⟨gw_642, gw_643, gw_644, gw_108, gw_645⟩ (by decide +kernel) hR (o := 2) (ci := 7) (q9 := (RX8, TX8, 3)) im_2 rfl rfl rfl (fun r σ' h => c_x8_kindAt h) rfl rfl hcat hdg k

def x4_seen (N : Nat) (σ : St) (a1 : Int32) : Option (Int32 × St) :=
  bd (x8_kindAt N σ (gI σ 405)) (fun r1 σ2 => (if r1 = a1 then some (1, σ2) else some (0, σ2)))
set_option maxHeartbeats 4000000 in
set_option maxRecDepth 100000 in
theorem s_x4_seen {X : Cx} {ad : Nat → Nat} (C : Ok X cX4_seen RX4 2 (some .boolean) 1 21) (N : Nat) (σ : St) (a1 : Int32) : Sim X scC ad 2 outI 0 [(0, .ref (ad 4)), (1, .int a1)] [] σ (x4_seen N σ a1) := by
  unfold x4_seen
  refine g_aload_n C 0 dX4_seen_0 rfl rfl ?_
  refine gf_RX4_22 C  dX4_seen_1 ?_
  refine g_aload_n C 0 dX4_seen_4 rfl rfl ?_
  refine gf_RX4_40 C  (v := gI σ 405) dX4_seen_5 rfl ?_
  refine v_x8_kindAt_RX4 C ⟨by decide, by decide⟩ (Nat.le_of_ble_eq_true rfl) dX4_seen_8 (fun r1 σ2 _ => ?_)
  refine g_iload_n C 1 dX4_seen_11 rfl rfl ?_
  refine g_icmp_ne C 19 dX4_seen_12 (by decide) ?_ ?_
  · refine g_iconst C 0 dX4_seen_19 (by decide) ?_
    exact g_zret C rfl dX4_seen_20
  · refine g_iconst C 1 dX4_seen_15 (by decide) ?_
    refine g_goto C 20 dX4_seen_16 (by decide) ?_
    exact g_zret C rfl dX4_seen_20
theorem c_x4_seen {Y : Yx} {ad : Nat → Nat} {N : Nat} {σ : St} {a1 : Int32} {r : Int32} {σ' : St} (h : x4_seen N σ a1 = some (r, σ')) : Con Y scC ad yX4_seen cX4_seen 2 (some .boolean) 1 21 [.ref (ad 4), .int a1] σ (outI r) σ' := con_of (by decide) rfl (Nat.le_of_ble_eq_true rfl) rfl (fun X hX C => s_x4_seen C N σ a1) h
set_option maxRecDepth 20000 in
theorem v_x4_seen_RX4 {X : Cx} {cc : ByteArray} {nL : Nat} {ret : Option FieldType} {fr lo : Nat} {ad : Nat → Nat} {ρ : Type} {out : ρ → Option Value} {pc : Nat} {lv : List (Nat × Value)} {rest : List Value} {σ : St} {N : Nat} {K : Int32 → St → Option (ρ × St)} {a1 : Int32} (C : Ok X cc RX4 nL ret fr lo) (hR : 1 + 1 ≤ fr ∧ 8 + (2 + 11) + 21 ≤ lo) (hcat : (rest.map fun v => v.category).sum ≤ 8) (hdg : decode cc pc = .ok (.invokevirtual 51, 3)) (k : ∀ (r : Int32) (σ' : St), x4_seen N σ a1 = some (r, σ') → Sim X scC ad nL out (pc + 3) lv (.int r :: rest) σ' (K r σ')) : Sim X scC ad nL out pc lv (.int a1 :: .ref (ad 4) :: rest) σ (bd (x4_seen N σ a1) K) := g_callV C (out1 := outI) (y := yX4_seen) (n := 1) ⟨gw_638, gw_640, gw_3, gw_111, gw_641⟩ (by decide +kernel) hR (o := 4) (ci := 4) (q9 := (RX4, TX4, 10)) im_4 rfl rfl rfl (fun r σ' h => c_x4_seen h) rfl rfl hcat hdg k

def x8_placeAt (N : Nat) (σ : St) (a1 : Int32) : Option (Int32 × St) :=
  (if a1 < 0 then some (gI σ 202, σ) else (if (gI σ 201) ≤ a1 then some (gI σ 202, σ) else (if 1200 ≤ a1 then some (gI σ 202, σ) else gd (ib a1 1200) (some ((gA σ 3 a1.toNatClampNeg) >>> ((10 : Int32) &&& 31), σ)))))
set_option maxHeartbeats 4000000 in
set_option maxRecDepth 100000 in
theorem s_x8_placeAt {X : Cx} {ad : Nat → Nat} (C : Ok X cX8_placeAt RX8 2 (some .int) 0 0) (N : Nat) (σ : St) (a1 : Int32) : Sim X scC ad 2 outI 0 [(0, .ref (ad 2)), (1, .int a1)] [] σ (x8_placeAt N σ a1) := by
  unfold x8_placeAt
  refine g_iload_n C 1 dX8_placeAt_0 rfl rfl ?_
  refine g_if_lt C 33 dX8_placeAt_1 (by decide) ?_ ?_
  · refine g_aload_n C 0 dX8_placeAt_33 rfl rfl ?_
    refine gf_RX8_25 C  (v := gI σ 202) dX8_placeAt_34 rfl ?_
    exact g_iret C dX8_placeAt_37
  · refine g_iload_n C 1 dX8_placeAt_4 rfl rfl ?_
    refine g_aload_n C 0 dX8_placeAt_5 rfl rfl ?_
    refine gf_RX8_15 C  (v := gI σ 201) dX8_placeAt_6 rfl ?_
    refine g_icmp_ge C 33 dX8_placeAt_9 (by decide) ?_ ?_
    · refine g_aload_n C 0 dX8_placeAt_33 rfl rfl ?_
      refine gf_RX8_25 C  (v := gI σ 202) dX8_placeAt_34 rfl ?_
      exact g_iret C dX8_placeAt_37
    · refine g_iload_n C 1 dX8_placeAt_12 rfl rfl ?_
      refine g_aload_n C 0 dX8_placeAt_13 rfl rfl ?_
      refine gf_RX8_9 C  dX8_placeAt_14 ?_
      refine ca_lenI C (j := 3) 1200 ia_3 (by rw [il_3]; decide) dX8_placeAt_17 ?_
      refine g_icmp_ge C 33 dX8_placeAt_18 (by decide) ?_ ?_
      · refine g_aload_n C 0 dX8_placeAt_33 rfl rfl ?_
        refine gf_RX8_25 C  (v := gI σ 202) dX8_placeAt_34 rfl ?_
        exact g_iret C dX8_placeAt_37
      · refine g_aload_n C 0 dX8_placeAt_21 rfl rfl ?_
        refine gf_RX8_9 C  dX8_placeAt_22 ?_
        refine g_iload_n C 1 dX8_placeAt_25 rfl rfl ?_
        refine ca_ldI C (j := 3) (v := gA σ 3 a1.toNatClampNeg) ia_3 il_3 dX8_placeAt_26 rfl ?_
        refine g_bipush C 10 dX8_placeAt_27 (by decide) ?_
        refine g_ishr C dX8_placeAt_29 ?_
        refine g_goto C 37 dX8_placeAt_30 (by decide) ?_
        exact g_iret C dX8_placeAt_37
theorem c_x8_placeAt {Y : Yx} {ad : Nat → Nat} {N : Nat} {σ : St} {a1 : Int32} {r : Int32} {σ' : St} (h : x8_placeAt N σ a1 = some (r, σ')) : Con Y scC ad yX8_placeAt cX8_placeAt 2 (some .int) 0 0 [.ref (ad 2), .int a1] σ (outI r) σ' := con_of (by decide) rfl (Nat.le_of_ble_eq_true rfl) rfl (fun X hX C => s_x8_placeAt C N σ a1) h
set_option maxRecDepth 20000 in
theorem v_x8_placeAt_RX4 {X : Cx} {cc : ByteArray} {nL : Nat} {ret : Option FieldType} {fr lo : Nat} {ad : Nat → Nat} {ρ : Type} {out : ρ → Option Value} {pc : Nat} {lv : List (Nat × Value)} {rest : List Value} {σ : St} {N : Nat} {K : Int32 → St → Option (ρ × St)} {a1 : Int32} (C : Ok X cc RX4 nL ret fr lo) (hR : 0 + 1 ≤ fr ∧ 8 + (2 + 11) + 0 ≤ lo) (hcat : (rest.map fun v => v.category).sum ≤ 8) (hdg : decode cc pc = .ok (.invokevirtual 72, 3)) (k : ∀ (r : Int32) (σ' : St), x8_placeAt N σ a1 = some (r, σ') → Sim X scC ad nL out (pc + 3) lv (.int r :: rest) σ' (K r σ')) : Sim X scC ad nL out pc lv (.int a1 :: .ref (ad 2) :: rest) σ (bd (x8_placeAt N σ a1) K) := g_callV C (out1 := outI) (y := yX8_placeAt) (n := 1) ⟨gw_654, gw_655, gw_656, gw_108, gw_657⟩ (by decide +kernel) hR (o := 2) (ci := 7) (q9 := (RX8, TX8, 3)) im_2 rfl rfl rfl (fun r σ' h => c_x8_placeAt h) rfl rfl hcat hdg k

def x4_refuse (N : Nat) (σ : St) (a1 : Int32) (a2 : Int32) : Option (Int32 × St) :=
  some (0, (sI (sI σ 408 a1) 409 a2))
set_option maxHeartbeats 4000000 in
set_option maxRecDepth 100000 in
theorem s_x4_refuse {X : Cx} {ad : Nat → Nat} (C : Ok X cX4_refuse RX4 3 (some .boolean) 0 0) (N : Nat) (σ : St) (a1 : Int32) (a2 : Int32) : Sim X scC ad 3 outI 0 [(0, .ref (ad 4)), (1, .int a1), (2, .int a2)] [] σ (x4_refuse N σ a1 a2) := by
  unfold x4_refuse
  refine g_aload_n C 0 dX4_refuse_0 rfl rfl ?_
  refine g_iload_n C 1 dX4_refuse_1 rfl rfl ?_
  refine pf_RX4_46 C dX4_refuse_2 ?_
  refine g_aload_n C 0 dX4_refuse_5 rfl rfl ?_
  refine g_iload_n C 2 dX4_refuse_6 rfl rfl ?_
  refine pf_RX4_18 C dX4_refuse_7 ?_
  refine g_iconst C 0 dX4_refuse_10 (by decide) ?_
  exact g_zret C rfl dX4_refuse_11
theorem c_x4_refuse {Y : Yx} {ad : Nat → Nat} {N : Nat} {σ : St} {a1 : Int32} {a2 : Int32} {r : Int32} {σ' : St} (h : x4_refuse N σ a1 a2 = some (r, σ')) : Con Y scC ad yX4_refuse cX4_refuse 3 (some .boolean) 0 0 [.ref (ad 4), .int a1, .int a2] σ (outI r) σ' := con_of (by decide) rfl (Nat.le_of_ble_eq_true rfl) rfl (fun X hX C => s_x4_refuse C N σ a1 a2) h
set_option maxRecDepth 20000 in
theorem v_x4_refuse_RX4 {X : Cx} {cc : ByteArray} {nL : Nat} {ret : Option FieldType} {fr lo : Nat} {ad : Nat → Nat} {ρ : Type} {out : ρ → Option Value} {pc : Nat} {lv : List (Nat × Value)} {rest : List Value} {σ : St} {N : Nat} {K : Int32 → St → Option (ρ × St)} {a1 : Int32} {a2 : Int32} (C : Ok X cc RX4 nL ret fr lo) (hR : 0 + 1 ≤ fr ∧ 8 + (3 + 11) + 0 ≤ lo) (hcat : (rest.map fun v => v.category).sum ≤ 8) (hdg : decode cc pc = .ok (.invokevirtual 75, 3)) (k : ∀ (r : Int32) (σ' : St), x4_refuse N σ a1 a2 = some (r, σ') → Sim X scC ad nL out (pc + 3) lv (.int r :: rest) σ' (K r σ')) : Sim X scC ad nL out pc lv (.int a2 :: .int a1 :: .ref (ad 4) :: rest) σ (bd (x4_refuse N σ a1 a2) K) := g_callV C (out1 := outI) (y := yX4_refuse) (n := 2) ⟨gw_658, gw_660, gw_6, gw_111, gw_661⟩ (by decide +kernel) hR (o := 4) (ci := 4) (q9 := (RX4, TX4, 10)) im_4 rfl rfl rfl (fun r σ' h => c_x4_refuse h) rfl rfl hcat hdg k

def x4_take (N : Nat) (σ : St) (a1 : Int32) : Option (Int32 × St) :=
  bd (x8_kindAt N σ (gI σ 405)) (fun r1 σ2 => (if r1 = a1 then some (1, (sI σ2 405 ((gI σ2 405) + 1))) else bd (x8_placeAt N σ2 (gI σ2 405)) (fun r3 σ4 => bd (x4_refuse N σ4 1 r3) (fun r5 σ6 => gd (isb r5) (some (r5, σ6))))))
set_option maxHeartbeats 4000000 in
set_option maxRecDepth 100000 in
theorem s_x4_take {X : Cx} {ad : Nat → Nat} (C : Ok X cX4_take RX4 2 (some .boolean) 1 22) (N : Nat) (σ : St) (a1 : Int32) : Sim X scC ad 2 outI 0 [(0, .ref (ad 4)), (1, .int a1)] [] σ (x4_take N σ a1) := by
  unfold x4_take
  refine g_aload_n C 0 dX4_take_0 rfl rfl ?_
  refine gf_RX4_22 C  dX4_take_1 ?_
  refine g_aload_n C 0 dX4_take_4 rfl rfl ?_
  refine gf_RX4_40 C  (v := gI σ 405) dX4_take_5 rfl ?_
  refine v_x8_kindAt_RX4 C ⟨by decide, by decide⟩ (Nat.le_of_ble_eq_true rfl) dX4_take_8 (fun r1 σ2 _ => ?_)
  refine g_iload_n C 1 dX4_take_11 rfl rfl ?_
  refine g_icmp_eq C 32 dX4_take_12 (by decide) ?_ ?_
  · refine g_aload_n C 0 dX4_take_32 rfl rfl ?_
    refine g_dup C dX4_take_33 rfl ?_
    refine gf_RX4_40 C  (v := gI σ2 405) dX4_take_34 rfl ?_
    refine g_iconst C 1 dX4_take_37 (by decide) ?_
    refine g_iadd C dX4_take_38 ?_
    refine pf_RX4_40 C dX4_take_39 ?_
    refine g_iconst C 1 dX4_take_42 (by decide) ?_
    exact g_zret C rfl dX4_take_43
  · refine g_aload_n C 0 dX4_take_15 rfl rfl ?_
    refine g_iconst C 1 dX4_take_16 (by decide) ?_
    refine g_aload_n C 0 dX4_take_17 rfl rfl ?_
    refine gf_RX4_22 C  dX4_take_18 ?_
    refine g_aload_n C 0 dX4_take_21 rfl rfl ?_
    refine gf_RX4_40 C  (v := gI σ2 405) dX4_take_22 rfl ?_
    refine v_x8_placeAt_RX4 C ⟨by decide, by decide⟩ (Nat.le_of_ble_eq_true rfl) dX4_take_25 (fun r3 σ4 _ => ?_)
    refine v_x4_refuse_RX4 C ⟨by decide, by decide⟩ (Nat.le_of_ble_eq_true rfl) dX4_take_28 (fun r5 σ6 _ => ?_)
    refine g_gd (fun hb9 => ?_)
    exact g_zret C (isb_nar hb9) dX4_take_31
theorem c_x4_take {Y : Yx} {ad : Nat → Nat} {N : Nat} {σ : St} {a1 : Int32} {r : Int32} {σ' : St} (h : x4_take N σ a1 = some (r, σ')) : Con Y scC ad yX4_take cX4_take 2 (some .boolean) 1 22 [.ref (ad 4), .int a1] σ (outI r) σ' := con_of (by decide) rfl (Nat.le_of_ble_eq_true rfl) rfl (fun X hX C => s_x4_take C N σ a1) h
set_option maxRecDepth 20000 in
theorem v_x4_take_RX4 {X : Cx} {cc : ByteArray} {nL : Nat} {ret : Option FieldType} {fr lo : Nat} {ad : Nat → Nat} {ρ : Type} {out : ρ → Option Value} {pc : Nat} {lv : List (Nat × Value)} {rest : List Value} {σ : St} {N : Nat} {K : Int32 → St → Option (ρ × St)} {a1 : Int32} (C : Ok X cc RX4 nL ret fr lo) (hR : 1 + 1 ≤ fr ∧ 8 + (2 + 11) + 22 ≤ lo) (hcat : (rest.map fun v => v.category).sum ≤ 8) (hdg : decode cc pc = .ok (.invokevirtual 79, 3)) (k : ∀ (r : Int32) (σ' : St), x4_take N σ a1 = some (r, σ') → Sim X scC ad nL out (pc + 3) lv (.int r :: rest) σ' (K r σ')) : Sim X scC ad nL out pc lv (.int a1 :: .ref (ad 4) :: rest) σ (bd (x4_take N σ a1) K) := g_callV C (out1 := outI) (y := yX4_take) (n := 1) ⟨gw_650, gw_652, gw_5, gw_111, gw_653⟩ (by decide +kernel) hR (o := 4) (ci := 4) (q9 := (RX4, TX4, 10)) im_4 rfl rfl rfl (fun r σ' h => c_x4_take h) rfl rfl hcat hdg k

def x8_letterAt (N : Nat) (σ : St) (a1 : Int32) : Option (Int32 × St) :=
  (if a1 < 0 then some (0, σ) else (if (gI σ 201) ≤ a1 then some (0, σ) else (if 1200 ≤ a1 then some (0, σ) else gd (ib a1 1200) (some ((gA σ 3 a1.toNatClampNeg) &&& 31, σ)))))
set_option maxHeartbeats 4000000 in
set_option maxRecDepth 100000 in
theorem s_x8_letterAt {X : Cx} {ad : Nat → Nat} (C : Ok X cX8_letterAt RX8 2 (some .int) 0 0) (N : Nat) (σ : St) (a1 : Int32) : Sim X scC ad 2 outI 0 [(0, .ref (ad 2)), (1, .int a1)] [] σ (x8_letterAt N σ a1) := by
  unfold x8_letterAt
  refine g_iload_n C 1 dX8_letterAt_0 rfl rfl ?_
  refine g_if_lt C 33 dX8_letterAt_1 (by decide) ?_ ?_
  · refine g_iconst C 0 dX8_letterAt_33 (by decide) ?_
    exact g_iret C dX8_letterAt_34
  · refine g_iload_n C 1 dX8_letterAt_4 rfl rfl ?_
    refine g_aload_n C 0 dX8_letterAt_5 rfl rfl ?_
    refine gf_RX8_15 C  (v := gI σ 201) dX8_letterAt_6 rfl ?_
    refine g_icmp_ge C 33 dX8_letterAt_9 (by decide) ?_ ?_
    · refine g_iconst C 0 dX8_letterAt_33 (by decide) ?_
      exact g_iret C dX8_letterAt_34
    · refine g_iload_n C 1 dX8_letterAt_12 rfl rfl ?_
      refine g_aload_n C 0 dX8_letterAt_13 rfl rfl ?_
      refine gf_RX8_9 C  dX8_letterAt_14 ?_
      refine ca_lenI C (j := 3) 1200 ia_3 (by rw [il_3]; decide) dX8_letterAt_17 ?_
      refine g_icmp_ge C 33 dX8_letterAt_18 (by decide) ?_ ?_
      · refine g_iconst C 0 dX8_letterAt_33 (by decide) ?_
        exact g_iret C dX8_letterAt_34
      · refine g_aload_n C 0 dX8_letterAt_21 rfl rfl ?_
        refine gf_RX8_9 C  dX8_letterAt_22 ?_
        refine g_iload_n C 1 dX8_letterAt_25 rfl rfl ?_
        refine ca_ldI C (j := 3) (v := gA σ 3 a1.toNatClampNeg) ia_3 il_3 dX8_letterAt_26 rfl ?_
        refine g_bipush C 31 dX8_letterAt_27 (by decide) ?_
        refine g_iand C dX8_letterAt_29 ?_
        refine g_goto C 34 dX8_letterAt_30 (by decide) ?_
        exact g_iret C dX8_letterAt_34
theorem c_x8_letterAt {Y : Yx} {ad : Nat → Nat} {N : Nat} {σ : St} {a1 : Int32} {r : Int32} {σ' : St} (h : x8_letterAt N σ a1 = some (r, σ')) : Con Y scC ad yX8_letterAt cX8_letterAt 2 (some .int) 0 0 [.ref (ad 2), .int a1] σ (outI r) σ' := con_of (by decide) rfl (Nat.le_of_ble_eq_true rfl) rfl (fun X hX C => s_x8_letterAt C N σ a1) h
set_option maxRecDepth 20000 in
theorem v_x8_letterAt_RX4 {X : Cx} {cc : ByteArray} {nL : Nat} {ret : Option FieldType} {fr lo : Nat} {ad : Nat → Nat} {ρ : Type} {out : ρ → Option Value} {pc : Nat} {lv : List (Nat × Value)} {rest : List Value} {σ : St} {N : Nat} {K : Int32 → St → Option (ρ × St)} {a1 : Int32} (C : Ok X cc RX4 nL ret fr lo) (hR : 0 + 1 ≤ fr ∧ 8 + (2 + 11) + 0 ≤ lo) (hcat : (rest.map fun v => v.category).sum ≤ 8) (hdg : decode cc pc = .ok (.invokevirtual 82, 3)) (k : ∀ (r : Int32) (σ' : St), x8_letterAt N σ a1 = some (r, σ') → Sim X scC ad nL out (pc + 3) lv (.int r :: rest) σ' (K r σ')) : Sim X scC ad nL out pc lv (.int a1 :: .ref (ad 2) :: rest) σ (bd (x8_letterAt N σ a1) K) := g_callV C (out1 := outI) (y := yX8_letterAt) (n := 1) ⟨gw_662, gw_663, gw_664, gw_108, gw_665⟩ (by decide +kernel) hR (o := 2) (ci := 7) (q9 := (RX8, TX8, 3)) im_2 rfl rfl rfl (fun r σ' h => c_x8_letterAt h) rfl rfl hcat hdg k

def x4_readParameters_133 (N : Nat) (σ : St) : Option (Int32 × St) :=
  bd (x4_take N σ 5) (fun r3 σ4 => gd (isb r3) (some (r3, σ4)))
def x4_readParameters_114 (N : Nat) (σ : St) : Option (Int32 × St) :=
  x4_readParameters_133 N σ
def x4_readParameters_79 (N : Nat) (σ : St) (x2 : Int32) : Option (Int32 × St) :=
  bd (x8_placeAt N σ x2) (fun r17 σ18 => bd (x4_refuse N σ18 3 r17) (fun r19 σ20 => gd (isb r19) (some (r19, σ20))))
def x4_readParameters_50 (N : Nat) (σ : St) (x2 : Int32) : Option (Int32 × St) :=
  bd (x8_placeAt N σ x2) (fun r21 σ22 => bd (x4_refuse N σ22 2 r21) (fun r23 σ24 => gd (isb r23) (some (r23, σ24))))
def x4_readParameters_16_b (N : Nat) (rec16 : St → Int32 → Option (Int32 × St)) (σ : St) (x1 : Int32) : Option (Int32 × St) :=
  (if 4 < x1 then x4_readParameters_133 N σ else bd (x4_take N σ 2) (fun r5 σ6 => (if r5 = 0 then some (0, σ6) else bd (x8_letterAt N σ6 (gI σ 405)) (fun r7 σ8 => (if x1 = 4 then x4_readParameters_50 N σ8 (gI σ 405) else gd (isPr (gP σ8 403)) (bd (x3_hasParameter N σ8 (gP σ8 403) (gI σ8 407) r7) (fun r10 σ11 => (if r10 = 0 then gd (isPr (gP σ11 403)) (bd (x3_addParameter N σ11 (gP σ11 403) (gI σ11 407) r7) (fun _ σ14 => bd (x4_seen N σ14 8) (fun r15 σ16 => (if r15 = 0 then x4_readParameters_114 N σ16 else rec16 (sI σ16 405 ((gI σ16 405) + 1)) (x1 + 1))))) else x4_readParameters_79 N σ11 (gI σ 405)))))))))
def x4_readParameters_16 (N : Nat) : Nat → St → Int32 → Option (Int32 × St)
  | 0 => fun _ _ => none
  | n + 1 => fun σ x1 => x4_readParameters_16_b N (x4_readParameters_16 N n) σ x1
def x4_readParameters (N : Nat) (σ : St) : Option (Int32 × St) :=
  bd (x4_seen N σ 5) (fun r1 σ2 => (if r1 = 0 then x4_readParameters_16 N N σ2 0 else bd (x4_take N σ2 5) (fun r25 σ26 => gd (isb r25) (some (r25, σ26)))))
set_option maxHeartbeats 4000000 in
set_option maxRecDepth 100000 in
theorem s_x4_readParameters_133 {X : Cx} {ad : Nat → Nat} (C : Ok X cX4_readParameters RX4 4 (some .boolean) 3 66) (N : Nat) (σ : St) : Sim X scC ad 4 outI 133 [(0, .ref (ad 4))] [] σ (x4_readParameters_133 N σ) := by
  unfold x4_readParameters_133
  refine g_aload_n C 0 dX4_readParameters_133 rfl rfl ?_
  refine g_iconst C 5 dX4_readParameters_134 (by decide) ?_
  refine v_x4_take_RX4 C ⟨by decide, by decide⟩ (Nat.le_of_ble_eq_true rfl) dX4_readParameters_135 (fun r3 σ4 _ => ?_)
  refine g_gd (fun hb9 => ?_)
  exact g_zret C (isb_nar hb9) dX4_readParameters_138
set_option maxHeartbeats 4000000 in
set_option maxRecDepth 100000 in
theorem s_x4_readParameters_114 {X : Cx} {ad : Nat → Nat} (C : Ok X cX4_readParameters RX4 4 (some .boolean) 3 66) (N : Nat) (σ : St) : Sim X scC ad 4 outI 114 [(0, .ref (ad 4))] [] σ (x4_readParameters_114 N σ) := by
  unfold x4_readParameters_114
  refine g_goto C 133 dX4_readParameters_114 (by decide) ?_
  exact g_sub [0] rfl (s_x4_readParameters_133 C N σ)
set_option maxHeartbeats 4000000 in
set_option maxRecDepth 100000 in
theorem s_x4_readParameters_79 {X : Cx} {ad : Nat → Nat} (C : Ok X cX4_readParameters RX4 4 (some .boolean) 3 66) (N : Nat) (σ : St) (x2 : Int32) : Sim X scC ad 4 outI 79 [(0, .ref (ad 4)), (2, .int x2)] [] σ (x4_readParameters_79 N σ x2) := by
  unfold x4_readParameters_79
  refine g_aload_n C 0 dX4_readParameters_79 rfl rfl ?_
  refine g_iconst C 3 dX4_readParameters_80 (by decide) ?_
  refine g_aload_n C 0 dX4_readParameters_81 rfl rfl ?_
  refine gf_RX4_22 C  dX4_readParameters_82 ?_
  refine g_iload_n C 1 dX4_readParameters_85 rfl rfl ?_
  refine v_x8_placeAt_RX4 C ⟨by decide, by decide⟩ (Nat.le_of_ble_eq_true rfl) dX4_readParameters_86 (fun r17 σ18 _ => ?_)
  refine v_x4_refuse_RX4 C ⟨by decide, by decide⟩ (Nat.le_of_ble_eq_true rfl) dX4_readParameters_89 (fun r19 σ20 _ => ?_)
  refine g_gd (fun hb9 => ?_)
  exact g_zret C (isb_nar hb9) dX4_readParameters_92
set_option maxHeartbeats 4000000 in
set_option maxRecDepth 100000 in
theorem s_x4_readParameters_50 {X : Cx} {ad : Nat → Nat} (C : Ok X cX4_readParameters RX4 4 (some .boolean) 3 66) (N : Nat) (σ : St) (x2 : Int32) : Sim X scC ad 4 outI 50 [(0, .ref (ad 4)), (2, .int x2)] [] σ (x4_readParameters_50 N σ x2) := by
  unfold x4_readParameters_50
  refine g_aload_n C 0 dX4_readParameters_50 rfl rfl ?_
  refine g_iconst C 2 dX4_readParameters_51 (by decide) ?_
  refine g_aload_n C 0 dX4_readParameters_52 rfl rfl ?_
  refine gf_RX4_22 C  dX4_readParameters_53 ?_
  refine g_iload_n C 1 dX4_readParameters_56 rfl rfl ?_
  refine v_x8_placeAt_RX4 C ⟨by decide, by decide⟩ (Nat.le_of_ble_eq_true rfl) dX4_readParameters_57 (fun r21 σ22 _ => ?_)
  refine v_x4_refuse_RX4 C ⟨by decide, by decide⟩ (Nat.le_of_ble_eq_true rfl) dX4_readParameters_60 (fun r23 σ24 _ => ?_)
  refine g_gd (fun hb9 => ?_)
  exact g_zret C (isb_nar hb9) dX4_readParameters_63
set_option maxHeartbeats 4000000 in
set_option maxRecDepth 100000 in
theorem s_x4_readParameters_16_b {X : Cx} {ad : Nat → Nat} (C : Ok X cX4_readParameters RX4 4 (some .boolean) 3 66) (N : Nat) {rec16 : St → Int32 → Option (Int32 × St)} (hrec16 : ∀ (σ : St) (x1 : Int32), Sim X scC ad 4 outI 16 [(0, .ref (ad 4)), (1, .int x1)] [] σ (rec16 σ x1)) (σ : St) (x1 : Int32) : Sim X scC ad 4 outI 16 [(0, .ref (ad 4)), (1, .int x1)] [] σ (x4_readParameters_16_b N rec16 σ x1) := by
  unfold x4_readParameters_16_b
  refine g_iload_n C 1 dX4_readParameters_16 rfl rfl ?_
  refine g_iconst C 4 dX4_readParameters_17 (by decide) ?_
  refine g_icmp_gt C 133 dX4_readParameters_18 (by decide) ?_ ?_
  · exact g_sub [0] rfl (s_x4_readParameters_133 C N σ)
  · refine g_aload_n C 0 dX4_readParameters_21 rfl rfl ?_
    refine gf_RX4_40 C  (v := gI σ 405) dX4_readParameters_22 rfl ?_
    refine g_istore_n C [(2, .int (gI σ 405)), (0, .ref (ad 4)), (1, .int x1)] dX4_readParameters_25 rfl (by decide) rfl ?_
    refine g_aload_n C 1 dX4_readParameters_26 rfl rfl ?_
    refine g_iconst C 2 dX4_readParameters_27 (by decide) ?_
    refine v_x4_take_RX4 C ⟨by decide, by decide⟩ (Nat.le_of_ble_eq_true rfl) dX4_readParameters_28 (fun r5 σ6 _ => ?_)
    refine g_if_ne C 36 dX4_readParameters_31 (by decide) ?_ ?_
    · refine g_aload_n C 1 dX4_readParameters_36 rfl rfl ?_
      refine gf_RX4_22 C  dX4_readParameters_37 ?_
      refine g_iload_n C 0 dX4_readParameters_40 rfl rfl ?_
      refine v_x8_letterAt_RX4 C ⟨by decide, by decide⟩ (Nat.le_of_ble_eq_true rfl) dX4_readParameters_41 (fun r7 σ8 _ => ?_)
      refine g_istore_n C [(3, .int r7), (2, .int (gI σ 405)), (0, .ref (ad 4)), (1, .int x1)] dX4_readParameters_44 rfl (by decide) rfl ?_
      refine g_iload_n C 3 dX4_readParameters_45 rfl rfl ?_
      refine g_iconst C 4 dX4_readParameters_46 (by decide) ?_
      refine g_icmp_ne C 64 dX4_readParameters_47 (by decide) ?_ ?_
      · refine g_aload_n C 2 dX4_readParameters_64 rfl rfl ?_
        refine gf_RX4_26 C  (v := gP σ8 403) dX4_readParameters_65 rfl ?_
        refine g_aload_n C 2 dX4_readParameters_68 rfl rfl ?_
        refine gf_RX4_85 C  (v := gI σ8 407) dX4_readParameters_69 rfl ?_
        refine g_iload_n C 0 dX4_readParameters_72 rfl rfl ?_
        refine g_gd (fun hp9 => ?_)
        refine v_x3_hasParameter_RX4 C hp9 ⟨by decide, by decide⟩ (Nat.le_of_ble_eq_true rfl) dX4_readParameters_73 (fun r10 σ11 _ => ?_)
        refine g_if_eq C 93 dX4_readParameters_76 (by decide) ?_ ?_
        · refine g_aload_n C 2 dX4_readParameters_93 rfl rfl ?_
          refine gf_RX4_26 C  (v := gP σ11 403) dX4_readParameters_94 rfl ?_
          refine g_aload_n C 2 dX4_readParameters_97 rfl rfl ?_
          refine gf_RX4_85 C  (v := gI σ11 407) dX4_readParameters_98 rfl ?_
          refine g_iload_n C 0 dX4_readParameters_101 rfl rfl ?_
          refine g_gd (fun hp12 => ?_)
          refine v_x3_addParameter_RX4 C hp12 ⟨by decide, by decide⟩ (Nat.le_of_ble_eq_true rfl) dX4_readParameters_102 (fun r13 σ14 _ => ?_)
          refine g_aload_n C 2 dX4_readParameters_105 rfl rfl ?_
          refine g_bipush C 8 dX4_readParameters_106 (by decide) ?_
          refine v_x4_seen_RX4 C ⟨by decide, by decide⟩ (Nat.le_of_ble_eq_true rfl) dX4_readParameters_108 (fun r15 σ16 _ => ?_)
          refine g_if_ne C 117 dX4_readParameters_111 (by decide) ?_ ?_
          · refine g_aload_n C 2 dX4_readParameters_117 rfl rfl ?_
            refine g_dup C dX4_readParameters_118 rfl ?_
            refine gf_RX4_40 C  (v := gI σ16 405) dX4_readParameters_119 rfl ?_
            refine g_iconst C 1 dX4_readParameters_122 (by decide) ?_
            refine g_iadd C dX4_readParameters_123 ?_
            refine pf_RX4_40 C dX4_readParameters_124 ?_
            refine g_iinc C (x1 + 1) 3 [(1, .int (x1 + 1)), (3, .int r7), (2, .int (gI σ 405)), (0, .ref (ad 4))] dX4_readParameters_127 rfl rfl (by decide) rfl ?_
            refine g_goto C 16 dX4_readParameters_130 (by decide) ?_
            exact g_sub [3, 0] rfl (hrec16 (sI σ16 405 ((gI σ16 405) + 1)) (x1 + 1))
          · exact g_sub [2] rfl (s_x4_readParameters_114 C N σ16)
        · exact g_sub [2, 1] rfl (s_x4_readParameters_79 C N σ11 (gI σ 405))
      · exact g_sub [2, 1] rfl (s_x4_readParameters_50 C N σ8 (gI σ 405))
    · refine g_iconst C 0 dX4_readParameters_34 (by decide) ?_
      exact g_zret C rfl dX4_readParameters_35
set_option maxHeartbeats 4000000 in
set_option maxRecDepth 100000 in
theorem s_x4_readParameters_16 {X : Cx} {ad : Nat → Nat} (C : Ok X cX4_readParameters RX4 4 (some .boolean) 3 66) (N : Nat) : ∀ (n : Nat) (σ : St) (x1 : Int32), Sim X scC ad 4 outI 16 [(0, .ref (ad 4)), (1, .int x1)] [] σ (x4_readParameters_16 N n σ x1) := by
  intro n
  induction n with
  | zero => intro σ x1; exact g_none
  | succ n ih => intro σ x1; exact s_x4_readParameters_16_b C N ih σ x1
set_option maxHeartbeats 4000000 in
set_option maxRecDepth 100000 in
theorem s_x4_readParameters {X : Cx} {ad : Nat → Nat} (C : Ok X cX4_readParameters RX4 4 (some .boolean) 3 66) (N : Nat) (σ : St) : Sim X scC ad 4 outI 0 [(0, .ref (ad 4))] [] σ (x4_readParameters N σ) := by
  unfold x4_readParameters
  refine g_aload_n C 0 dX4_readParameters_0 rfl rfl ?_
  refine g_iconst C 5 dX4_readParameters_1 (by decide) ?_
  refine v_x4_seen_RX4 C ⟨by decide, by decide⟩ (Nat.le_of_ble_eq_true rfl) dX4_readParameters_2 (fun r1 σ2 _ => ?_)
  refine g_if_eq C 14 dX4_readParameters_5 (by decide) ?_ ?_
  · refine g_iconst C 0 dX4_readParameters_14 (by decide) ?_
    refine g_istore_n C [(1, .int 0), (0, .ref (ad 4))] dX4_readParameters_15 rfl (by decide) rfl ?_
    exact g_sub [1, 0] rfl (s_x4_readParameters_16 C N N σ2 0)
  · refine g_aload_n C 0 dX4_readParameters_8 rfl rfl ?_
    refine g_iconst C 5 dX4_readParameters_9 (by decide) ?_
    refine v_x4_take_RX4 C ⟨by decide, by decide⟩ (Nat.le_of_ble_eq_true rfl) dX4_readParameters_10 (fun r25 σ26 _ => ?_)
    refine g_gd (fun hb9 => ?_)
    exact g_zret C (isb_nar hb9) dX4_readParameters_13
theorem c_x4_readParameters {Y : Yx} {ad : Nat → Nat} {N : Nat} {σ : St} {r : Int32} {σ' : St} (h : x4_readParameters N σ = some (r, σ')) : Con Y scC ad yX4_readParameters cX4_readParameters 4 (some .boolean) 3 66 [.ref (ad 4)] σ (outI r) σ' := con_of (by decide) rfl (Nat.le_of_ble_eq_true rfl) rfl (fun X hX C => s_x4_readParameters C N σ) h
set_option maxRecDepth 20000 in
theorem v_x4_readParameters_RX4 {X : Cx} {cc : ByteArray} {nL : Nat} {ret : Option FieldType} {fr lo : Nat} {ad : Nat → Nat} {ρ : Type} {out : ρ → Option Value} {pc : Nat} {lv : List (Nat × Value)} {rest : List Value} {σ : St} {N : Nat} {K : Int32 → St → Option (ρ × St)} (C : Ok X cc RX4 nL ret fr lo) (hR : 3 + 1 ≤ fr ∧ 8 + (4 + 11) + 66 ≤ lo) (hcat : (rest.map fun v => v.category).sum ≤ 8) (hdg : decode cc pc = .ok (.invokevirtual 95, 3)) (k : ∀ (r : Int32) (σ' : St), x4_readParameters N σ = some (r, σ') → Sim X scC ad nL out (pc + 3) lv (.int r :: rest) σ' (K r σ')) : Sim X scC ad nL out pc lv (.ref (ad 4) :: rest) σ (bd (x4_readParameters N σ) K) := g_callV C (out1 := outI) (y := yX4_readParameters) (n := 0) ⟨gw_675, gw_677, gw_7, gw_111, gw_678⟩ (by decide +kernel) hR (o := 4) (ci := 4) (q9 := (RX4, TX4, 10)) im_4 rfl rfl rfl (fun r σ' h => c_x4_readParameters h) rfl rfl hcat hdg k

def x4_openBlock (N : Nat) (σ : St) (a1 : Int32) (a2 : Int32) : Option (Int32 × St) :=
  bd (x4_take N σ 6) (fun r1 σ2 => (if r1 = 0 then some (0, σ2) else (if (gI σ2 406) < 6 then bd (x5_put N σ2 5 (gI σ2 406) a1) (fun _ σ4 => bd (x5_put N σ4 6 (gI σ4 406) a2) (fun _ σ6 => some (1, (sI σ6 406 ((gI σ6 406) + 1))))) else bd (x8_placeAt N σ2 (gI σ 405)) (fun r7 σ8 => bd (x4_refuse N σ8 2 r7) (fun r9 σ10 => gd (isb r9) (some (r9, σ10)))))))
set_option maxHeartbeats 4000000 in
set_option maxRecDepth 100000 in
theorem s_x4_openBlock {X : Cx} {ad : Nat → Nat} (C : Ok X cX4_openBlock RX4 4 (some .boolean) 2 43) (N : Nat) (σ : St) (a1 : Int32) (a2 : Int32) : Sim X scC ad 4 outI 0 [(0, .ref (ad 4)), (1, .int a1), (2, .int a2)] [] σ (x4_openBlock N σ a1 a2) := by
  unfold x4_openBlock
  refine g_aload_n C 0 dX4_openBlock_0 rfl rfl ?_
  refine gf_RX4_40 C  (v := gI σ 405) dX4_openBlock_1 rfl ?_
  refine g_istore_n C [(3, .int (gI σ 405)), (0, .ref (ad 4)), (1, .int a1), (2, .int a2)] dX4_openBlock_4 rfl (by decide) rfl ?_
  refine g_aload_n C 1 dX4_openBlock_5 rfl rfl ?_
  refine g_bipush C 6 dX4_openBlock_6 (by decide) ?_
  refine v_x4_take_RX4 C ⟨by decide, by decide⟩ (Nat.le_of_ble_eq_true rfl) dX4_openBlock_8 (fun r1 σ2 _ => ?_)
  refine g_if_ne C 16 dX4_openBlock_11 (by decide) ?_ ?_
  · refine g_aload_n C 1 dX4_openBlock_16 rfl rfl ?_
    refine gf_RX4_43 C  (v := gI σ2 406) dX4_openBlock_17 rfl ?_
    refine g_bipush C 6 dX4_openBlock_20 (by decide) ?_
    refine g_icmp_lt C 39 dX4_openBlock_22 (by decide) ?_ ?_
    · refine g_aload_n C 1 dX4_openBlock_39 rfl rfl ?_
      refine gf_RX4_9 C  dX4_openBlock_40 ?_
      refine g_aload_n C 1 dX4_openBlock_43 rfl rfl ?_
      refine gf_RX4_43 C  (v := gI σ2 406) dX4_openBlock_44 rfl ?_
      refine g_iload_n C 2 dX4_openBlock_47 rfl rfl ?_
      refine v_x5_put_RX4 C ⟨by decide, by decide⟩ (Nat.le_of_ble_eq_true rfl) dX4_openBlock_48 (fun r3 σ4 _ => ?_)
      refine g_aload_n C 1 dX4_openBlock_51 rfl rfl ?_
      refine gf_RX4_15 C  dX4_openBlock_52 ?_
      refine g_aload_n C 1 dX4_openBlock_55 rfl rfl ?_
      refine gf_RX4_43 C  (v := gI σ4 406) dX4_openBlock_56 rfl ?_
      refine g_iload_n C 3 dX4_openBlock_59 rfl rfl ?_
      refine v_x5_put_RX4 C ⟨by decide, by decide⟩ (Nat.le_of_ble_eq_true rfl) dX4_openBlock_60 (fun r5 σ6 _ => ?_)
      refine g_aload_n C 1 dX4_openBlock_63 rfl rfl ?_
      refine g_dup C dX4_openBlock_64 rfl ?_
      refine gf_RX4_43 C  (v := gI σ6 406) dX4_openBlock_65 rfl ?_
      refine g_iconst C 1 dX4_openBlock_68 (by decide) ?_
      refine g_iadd C dX4_openBlock_69 ?_
      refine pf_RX4_43 C dX4_openBlock_70 ?_
      refine g_iconst C 1 dX4_openBlock_73 (by decide) ?_
      exact g_zret C rfl dX4_openBlock_74
    · refine g_aload_n C 1 dX4_openBlock_25 rfl rfl ?_
      refine g_iconst C 2 dX4_openBlock_26 (by decide) ?_
      refine g_aload_n C 1 dX4_openBlock_27 rfl rfl ?_
      refine gf_RX4_22 C  dX4_openBlock_28 ?_
      refine g_iload_n C 0 dX4_openBlock_31 rfl rfl ?_
      refine v_x8_placeAt_RX4 C ⟨by decide, by decide⟩ (Nat.le_of_ble_eq_true rfl) dX4_openBlock_32 (fun r7 σ8 _ => ?_)
      refine v_x4_refuse_RX4 C ⟨by decide, by decide⟩ (Nat.le_of_ble_eq_true rfl) dX4_openBlock_35 (fun r9 σ10 _ => ?_)
      refine g_gd (fun hb9 => ?_)
      exact g_zret C (isb_nar hb9) dX4_openBlock_38
  · refine g_iconst C 0 dX4_openBlock_14 (by decide) ?_
    exact g_zret C rfl dX4_openBlock_15
theorem c_x4_openBlock {Y : Yx} {ad : Nat → Nat} {N : Nat} {σ : St} {a1 : Int32} {a2 : Int32} {r : Int32} {σ' : St} (h : x4_openBlock N σ a1 a2 = some (r, σ')) : Con Y scC ad yX4_openBlock cX4_openBlock 4 (some .boolean) 2 43 [.ref (ad 4), .int a1, .int a2] σ (outI r) σ' := con_of (by decide) rfl (Nat.le_of_ble_eq_true rfl) rfl (fun X hX C => s_x4_openBlock C N σ a1 a2) h
set_option maxRecDepth 20000 in
theorem v_x4_openBlock_RX4 {X : Cx} {cc : ByteArray} {nL : Nat} {ret : Option FieldType} {fr lo : Nat} {ad : Nat → Nat} {ρ : Type} {out : ρ → Option Value} {pc : Nat} {lv : List (Nat × Value)} {rest : List Value} {σ : St} {N : Nat} {K : Int32 → St → Option (ρ × St)} {a1 : Int32} {a2 : Int32} (C : Ok X cc RX4 nL ret fr lo) (hR : 2 + 1 ≤ fr ∧ 8 + (4 + 11) + 43 ≤ lo) (hcat : (rest.map fun v => v.category).sum ≤ 8) (hdg : decode cc pc = .ok (.invokevirtual 98, 3)) (k : ∀ (r : Int32) (σ' : St), x4_openBlock N σ a1 a2 = some (r, σ') → Sim X scC ad nL out (pc + 3) lv (.int r :: rest) σ' (K r σ')) : Sim X scC ad nL out pc lv (.int a2 :: .int a1 :: .ref (ad 4) :: rest) σ (bd (x4_openBlock N σ a1 a2) K) := g_callV C (out1 := outI) (y := yX4_openBlock) (n := 2) ⟨gw_694, gw_696, gw_8, gw_111, gw_697⟩ (by decide +kernel) hR (o := 4) (ci := 4) (q9 := (RX4, TX4, 10)) im_4 rfl rfl rfl (fun r σ' h => c_x4_openBlock h) rfl rfl hcat hdg k

def x4_readHead (N : Nat) (σ : St) : Option (Int32 × St) :=
  bd (x4_take N σ 3) (fun r1 σ2 => (if r1 = 0 then some (0, σ2) else bd (x8_letterAt N σ2 (gI σ 405)) (fun r3 σ4 => gd (isPr (gP σ4 403)) (bd (x3_has N (sI σ4 407 r3) (gP σ4 403) r3) (fun r6 σ7 => (if r6 = 0 then gd (isPr (gP σ7 403)) (bd (x3_addRoutine N σ7 (gP σ7 403) (gI σ7 407)) (fun _ σ10 => bd (x4_take N σ10 4) (fun r11 σ12 => (if r11 = 0 then some (0, σ12) else bd (x4_readParameters N σ12) (fun r13 σ14 => (if r13 = 0 then some (0, σ14) else bd (x4_openBlock N σ14 0 (-1)) (fun r15 σ16 => (if r15 = 0 then some (0, σ16) else some (1, σ16))))))))) else bd (x8_placeAt N σ7 (gI σ 405)) (fun r17 σ18 => bd (x4_refuse N σ18 3 r17) (fun r19 σ20 => gd (isb r19) (some (r19, σ20))))))))))
set_option maxHeartbeats 4000000 in
set_option maxRecDepth 100000 in
theorem s_x4_readHead {X : Cx} {ad : Nat → Nat} (C : Ok X cX4_readHead RX4 2 (some .boolean) 4 89) (N : Nat) (σ : St) : Sim X scC ad 2 outI 0 [(0, .ref (ad 4))] [] σ (x4_readHead N σ) := by
  unfold x4_readHead
  refine g_aload_n C 0 dX4_readHead_0 rfl rfl ?_
  refine gf_RX4_40 C  (v := gI σ 405) dX4_readHead_1 rfl ?_
  refine g_istore_n C [(1, .int (gI σ 405)), (0, .ref (ad 4))] dX4_readHead_4 rfl (by decide) rfl ?_
  refine g_aload_n C 1 dX4_readHead_5 rfl rfl ?_
  refine g_iconst C 3 dX4_readHead_6 (by decide) ?_
  refine v_x4_take_RX4 C ⟨by decide, by decide⟩ (Nat.le_of_ble_eq_true rfl) dX4_readHead_7 (fun r1 σ2 _ => ?_)
  refine g_if_ne C 15 dX4_readHead_10 (by decide) ?_ ?_
  · refine g_aload_n C 1 dX4_readHead_15 rfl rfl ?_
    refine g_aload_n C 1 dX4_readHead_16 rfl rfl ?_
    refine gf_RX4_22 C  dX4_readHead_17 ?_
    refine g_iload_n C 0 dX4_readHead_20 rfl rfl ?_
    refine v_x8_letterAt_RX4 C ⟨by decide, by decide⟩ (Nat.le_of_ble_eq_true rfl) dX4_readHead_21 (fun r3 σ4 _ => ?_)
    refine pf_RX4_85 C dX4_readHead_24 ?_
    refine g_aload_n C 1 dX4_readHead_27 rfl rfl ?_
    refine gf_RX4_26 C  (v := gP σ4 403) dX4_readHead_28 rfl ?_
    refine g_aload_n C 1 dX4_readHead_31 rfl rfl ?_
    refine gf_RX4_85 C  (v := r3) dX4_readHead_32 rfl ?_
    refine g_gd (fun hp5 => ?_)
    refine v_x3_has_RX4 C hp5 ⟨by decide, by decide⟩ (Nat.le_of_ble_eq_true rfl) dX4_readHead_35 (fun r6 σ7 _ => ?_)
    refine g_if_eq C 55 dX4_readHead_38 (by decide) ?_ ?_
    · refine g_aload_n C 1 dX4_readHead_55 rfl rfl ?_
      refine gf_RX4_26 C  (v := gP σ7 403) dX4_readHead_56 rfl ?_
      refine g_aload_n C 1 dX4_readHead_59 rfl rfl ?_
      refine gf_RX4_85 C  (v := gI σ7 407) dX4_readHead_60 rfl ?_
      refine g_gd (fun hp8 => ?_)
      refine v_x3_addRoutine_RX4 C hp8 ⟨by decide, by decide⟩ (Nat.le_of_ble_eq_true rfl) dX4_readHead_63 (fun r9 σ10 _ => ?_)
      refine g_aload_n C 1 dX4_readHead_66 rfl rfl ?_
      refine g_iconst C 4 dX4_readHead_67 (by decide) ?_
      refine v_x4_take_RX4 C ⟨by decide, by decide⟩ (Nat.le_of_ble_eq_true rfl) dX4_readHead_68 (fun r11 σ12 _ => ?_)
      refine g_if_eq C 94 dX4_readHead_71 (by decide) ?_ ?_
      · refine g_iconst C 0 dX4_readHead_94 (by decide) ?_
        exact g_zret C rfl dX4_readHead_95
      · refine g_aload_n C 1 dX4_readHead_74 rfl rfl ?_
        refine v_x4_readParameters_RX4 C ⟨by decide, by decide⟩ (Nat.le_of_ble_eq_true rfl) dX4_readHead_75 (fun r13 σ14 _ => ?_)
        refine g_if_eq C 94 dX4_readHead_78 (by decide) ?_ ?_
        · refine g_iconst C 0 dX4_readHead_94 (by decide) ?_
          exact g_zret C rfl dX4_readHead_95
        · refine g_aload_n C 1 dX4_readHead_81 rfl rfl ?_
          refine g_iconst C 0 dX4_readHead_82 (by decide) ?_
          refine g_iconst C (-1) dX4_readHead_83 (by decide) ?_
          refine v_x4_openBlock_RX4 C ⟨by decide, by decide⟩ (Nat.le_of_ble_eq_true rfl) dX4_readHead_84 (fun r15 σ16 _ => ?_)
          refine g_if_eq C 94 dX4_readHead_87 (by decide) ?_ ?_
          · refine g_iconst C 0 dX4_readHead_94 (by decide) ?_
            exact g_zret C rfl dX4_readHead_95
          · refine g_iconst C 1 dX4_readHead_90 (by decide) ?_
            refine g_goto C 95 dX4_readHead_91 (by decide) ?_
            exact g_zret C rfl dX4_readHead_95
    · refine g_aload_n C 1 dX4_readHead_41 rfl rfl ?_
      refine g_iconst C 3 dX4_readHead_42 (by decide) ?_
      refine g_aload_n C 1 dX4_readHead_43 rfl rfl ?_
      refine gf_RX4_22 C  dX4_readHead_44 ?_
      refine g_iload_n C 0 dX4_readHead_47 rfl rfl ?_
      refine v_x8_placeAt_RX4 C ⟨by decide, by decide⟩ (Nat.le_of_ble_eq_true rfl) dX4_readHead_48 (fun r17 σ18 _ => ?_)
      refine v_x4_refuse_RX4 C ⟨by decide, by decide⟩ (Nat.le_of_ble_eq_true rfl) dX4_readHead_51 (fun r19 σ20 _ => ?_)
      refine g_gd (fun hb9 => ?_)
      exact g_zret C (isb_nar hb9) dX4_readHead_54
  · refine g_iconst C 0 dX4_readHead_13 (by decide) ?_
    exact g_zret C rfl dX4_readHead_14
theorem c_x4_readHead {Y : Yx} {ad : Nat → Nat} {N : Nat} {σ : St} {r : Int32} {σ' : St} (h : x4_readHead N σ = some (r, σ')) : Con Y scC ad yX4_readHead cX4_readHead 2 (some .boolean) 4 89 [.ref (ad 4)] σ (outI r) σ' := con_of (by decide) rfl (Nat.le_of_ble_eq_true rfl) rfl (fun X hX C => s_x4_readHead C N σ) h
set_option maxRecDepth 20000 in
theorem v_x4_readHead_RX4 {X : Cx} {cc : ByteArray} {nL : Nat} {ret : Option FieldType} {fr lo : Nat} {ad : Nat → Nat} {ρ : Type} {out : ρ → Option Value} {pc : Nat} {lv : List (Nat × Value)} {rest : List Value} {σ : St} {N : Nat} {K : Int32 → St → Option (ρ × St)} (C : Ok X cc RX4 nL ret fr lo) (hR : 4 + 1 ≤ fr ∧ 8 + (2 + 11) + 89 ≤ lo) (hcat : (rest.map fun v => v.category).sum ≤ 8) (hdg : decode cc pc = .ok (.invokevirtual 55, 3)) (k : ∀ (r : Int32) (σ' : St), x4_readHead N σ = some (r, σ') → Sim X scC ad nL out (pc + 3) lv (.int r :: rest) σ' (K r σ')) : Sim X scC ad nL out pc lv (.ref (ad 4) :: rest) σ (bd (x4_readHead N σ) K) := g_callV C (out1 := outI) (y := yX4_readHead) (n := 0) ⟨gw_646, gw_648, gw_4, gw_111, gw_649⟩ (by decide +kernel) hR (o := 4) (ci := 4) (q9 := (RX4, TX4, 10)) im_4 rfl rfl rfl (fun r σ' h => c_x4_readHead h) rfl rfl hcat hdg k

def x4_closeIf (N : Nat) (σ : St) (a1 : Int32) : Option (Unit × St) :=
  bd (x4_seen N σ 13) (fun r1 σ2 => (if r1 = 0 then gd (isCd (gP σ2 404)) (bd (x0_set N σ2 (gP σ2 404) a1 10 (gI σ2 (100 * (gP σ2 404) + 1))) (fun _ σ5 => some ((), σ5))) else gd (isCd (gP σ2 404)) (bd (x0_add N (sI σ2 405 ((gI σ2 405) + 1)) (gP σ2 404) 1 (gI σ2 407)) (fun r7 σ8 => gd (isCd (gP σ8 404)) (bd (x0_set N σ8 (gP σ8 404) a1 10 (gI σ8 (100 * (gP σ8 404) + 1))) (fun _ σ11 => bd (x4_openBlock N σ11 2 r7) (fun r12 σ13 => some ((), σ13))))))))
set_option maxHeartbeats 4000000 in
set_option maxRecDepth 100000 in
theorem s_x4_closeIf {X : Cx} {ad : Nat → Nat} (C : Ok X cX4_closeIf RX4 3 none 3 66) (N : Nat) (σ : St) (a1 : Int32) : Sim X scC ad 3 outV 0 [(0, .ref (ad 4)), (1, .int a1)] [] σ (x4_closeIf N σ a1) := by
  unfold x4_closeIf
  refine g_aload_n C 0 dX4_closeIf_0 rfl rfl ?_
  refine g_bipush C 13 dX4_closeIf_1 (by decide) ?_
  refine v_x4_seen_RX4 C ⟨by decide, by decide⟩ (Nat.le_of_ble_eq_true rfl) dX4_closeIf_3 (fun r1 σ2 _ => ?_)
  refine g_if_eq C 59 dX4_closeIf_6 (by decide) ?_ ?_
  · refine g_aload_n C 0 dX4_closeIf_59 rfl rfl ?_
    refine gf_RX4_36 C  (v := gP σ2 404) dX4_closeIf_60 rfl ?_
    refine g_iload_n C 1 dX4_closeIf_63 rfl rfl ?_
    refine g_bipush C 10 dX4_closeIf_64 (by decide) ?_
    refine g_aload_n C 0 dX4_closeIf_66 rfl rfl ?_
    refine gf_RX4_36 C  (v := gP σ2 404) dX4_closeIf_67 rfl ?_
    refine g_gd (fun hp3 => ?_)
    refine gf_RX4_128 C hp3 (v := gI σ2 (100 * (gP σ2 404) + 1)) dX4_closeIf_70 rfl ?_
    refine v_x0_set_RX4 C hp3 ⟨by decide, by decide⟩ (Nat.le_of_ble_eq_true rfl) dX4_closeIf_73 (fun r4 σ5 _ => ?_)
    exact g_vret C dX4_closeIf_76
  · refine g_aload_n C 0 dX4_closeIf_9 rfl rfl ?_
    refine g_dup C dX4_closeIf_10 rfl ?_
    refine gf_RX4_40 C  (v := gI σ2 405) dX4_closeIf_11 rfl ?_
    refine g_iconst C 1 dX4_closeIf_14 (by decide) ?_
    refine g_iadd C dX4_closeIf_15 ?_
    refine pf_RX4_40 C dX4_closeIf_16 ?_
    refine g_aload_n C 0 dX4_closeIf_19 rfl rfl ?_
    refine gf_RX4_36 C  (v := gP σ2 404) dX4_closeIf_20 rfl ?_
    refine g_iconst C 1 dX4_closeIf_23 (by decide) ?_
    refine g_aload_n C 0 dX4_closeIf_24 rfl rfl ?_
    refine gf_RX4_85 C  (v := gI σ2 407) dX4_closeIf_25 rfl ?_
    refine g_gd (fun hp6 => ?_)
    refine v_x0_add_RX4 C hp6 ⟨by decide, by decide⟩ (Nat.le_of_ble_eq_true rfl) dX4_closeIf_28 (fun r7 σ8 _ => ?_)
    refine g_istore_n C [(2, .int r7), (0, .ref (ad 4)), (1, .int a1)] dX4_closeIf_31 rfl (by decide) rfl ?_
    refine g_aload_n C 1 dX4_closeIf_32 rfl rfl ?_
    refine gf_RX4_36 C  (v := gP σ8 404) dX4_closeIf_33 rfl ?_
    refine g_iload_n C 2 dX4_closeIf_36 rfl rfl ?_
    refine g_bipush C 10 dX4_closeIf_37 (by decide) ?_
    refine g_aload_n C 1 dX4_closeIf_39 rfl rfl ?_
    refine gf_RX4_36 C  (v := gP σ8 404) dX4_closeIf_40 rfl ?_
    refine g_gd (fun hp9 => ?_)
    refine gf_RX4_128 C hp9 (v := gI σ8 (100 * (gP σ8 404) + 1)) dX4_closeIf_43 rfl ?_
    refine v_x0_set_RX4 C hp9 ⟨by decide, by decide⟩ (Nat.le_of_ble_eq_true rfl) dX4_closeIf_46 (fun r10 σ11 _ => ?_)
    refine g_aload_n C 1 dX4_closeIf_49 rfl rfl ?_
    refine g_iconst C 2 dX4_closeIf_50 (by decide) ?_
    refine g_iload_n C 0 dX4_closeIf_51 rfl rfl ?_
    refine v_x4_openBlock_RX4 C ⟨by decide, by decide⟩ (Nat.le_of_ble_eq_true rfl) dX4_closeIf_52 (fun r12 σ13 _ => ?_)
    refine g_pop C dX4_closeIf_55 rfl ?_
    refine g_goto C 76 dX4_closeIf_56 (by decide) ?_
    exact g_vret C dX4_closeIf_76
theorem c_x4_closeIf {Y : Yx} {ad : Nat → Nat} {N : Nat} {σ : St} {a1 : Int32} {r : Unit} {σ' : St} (h : x4_closeIf N σ a1 = some (r, σ')) : Con Y scC ad yX4_closeIf cX4_closeIf 3 none 3 66 [.ref (ad 4), .int a1] σ (outV r) σ' := con_of (by decide) rfl (Nat.le_of_ble_eq_true rfl) rfl (fun X hX C => s_x4_closeIf C N σ a1) h
set_option maxRecDepth 20000 in
theorem v_x4_closeIf_RX4 {X : Cx} {cc : ByteArray} {nL : Nat} {ret : Option FieldType} {fr lo : Nat} {ad : Nat → Nat} {ρ : Type} {out : ρ → Option Value} {pc : Nat} {lv : List (Nat × Value)} {rest : List Value} {σ : St} {N : Nat} {K : Unit → St → Option (ρ × St)} {a1 : Int32} (C : Ok X cc RX4 nL ret fr lo) (hR : 3 + 1 ≤ fr ∧ 8 + (3 + 11) + 66 ≤ lo) (hcat : (rest.map fun v => v.category).sum ≤ 8) (hdg : decode cc pc = .ok (.invokevirtual 131, 3)) (k : ∀ (r : Unit) (σ' : St), x4_closeIf N σ a1 = some (r, σ') → Sim X scC ad nL out (pc + 3) lv rest σ' (K r σ')) : Sim X scC ad nL out pc lv (.int a1 :: .ref (ad 4) :: rest) σ (bd (x4_closeIf N σ a1) K) := g_callV C (out1 := outV) (y := yX4_closeIf) (n := 1) ⟨gw_713, gw_715, gw_10, gw_111, gw_716⟩ (by decide +kernel) hR (o := 4) (ci := 4) (q9 := (RX4, TX4, 10)) im_4 rfl rfl rfl (fun r σ' h => c_x4_closeIf h) rfl rfl hcat hdg k

def x4_closeBlock (N : Nat) (σ : St) : Option (Unit × St) :=
  bd (x5_at N (sI (sI σ 405 ((gI σ 405) + 1)) 406 ((gI σ 406) - 1)) 6 ((gI σ 406) - 1)) (fun r1 σ2 => bd (x5_at N σ2 5 (gI σ2 406)) (fun r3 σ4 => (if r3 = 0 then gd (isCd (gP σ4 404)) (bd (x0_add N σ4 (gP σ4 404) 0 (gI σ4 407)) (fun r7 σ8 => some ((), σ8))) else (if r3 = 1 then bd (x4_closeIf N σ4 r1) (fun _ σ11 => some ((), σ11)) else (if r3 = 2 then gd (isCd (gP σ4 404)) (bd (x0_set N σ4 (gP σ4 404) r1 10 (gI σ4 (100 * (gP σ4 404) + 1))) (fun _ σ15 => some ((), σ15))) else (if r3 = 3 then gd (isCd (gP σ4 404)) (bd (x0_add N σ4 (gP σ4 404) 1 (gI σ4 407)) (fun r18 σ19 => bd (x0_set N σ19 (gP σ4 404) r18 10 r1) (fun _ σ21 => gd (isCd (gP σ21 404)) (bd (x0_set N σ21 (gP σ21 404) r1 10 (gI σ21 (100 * (gP σ21 404) + 1))) (fun _ σ24 => some ((), σ24)))))) else gd (isCd (gP σ4 404)) (bd (x0_set N σ4 (gP σ4 404) r1 10 (gI σ4 (100 * (gP σ4 404) + 1))) (fun _ σ27 => some ((), σ27)))))))))
set_option maxHeartbeats 4000000 in
set_option maxRecDepth 100000 in
theorem s_x4_closeBlock {X : Cx} {ad : Nat → Nat} (C : Ok X cX4_closeBlock RX4 2 none 4 88) (N : Nat) (σ : St) : Sim X scC ad 2 outV 0 [(0, .ref (ad 4))] [] σ (x4_closeBlock N σ) := by
  unfold x4_closeBlock
  refine g_aload_n C 0 dX4_closeBlock_0 rfl rfl ?_
  refine g_dup C dX4_closeBlock_1 rfl ?_
  refine gf_RX4_40 C  (v := gI σ 405) dX4_closeBlock_2 rfl ?_
  refine g_iconst C 1 dX4_closeBlock_5 (by decide) ?_
  refine g_iadd C dX4_closeBlock_6 ?_
  refine pf_RX4_40 C dX4_closeBlock_7 ?_
  refine g_aload_n C 0 dX4_closeBlock_10 rfl rfl ?_
  refine g_dup C dX4_closeBlock_11 rfl ?_
  refine gf_RX4_43 C  (v := gI σ 406) dX4_closeBlock_12 rfl ?_
  refine g_iconst C 1 dX4_closeBlock_15 (by decide) ?_
  refine g_isub C dX4_closeBlock_16 ?_
  refine pf_RX4_43 C dX4_closeBlock_17 ?_
  refine g_aload_n C 0 dX4_closeBlock_20 rfl rfl ?_
  refine gf_RX4_15 C  dX4_closeBlock_21 ?_
  refine g_aload_n C 0 dX4_closeBlock_24 rfl rfl ?_
  refine gf_RX4_43 C  (v := (gI σ 406) - 1) dX4_closeBlock_25 rfl ?_
  refine v_x5_at_RX4 C ⟨by decide, by decide⟩ (Nat.le_of_ble_eq_true rfl) dX4_closeBlock_28 (fun r1 σ2 _ => ?_)
  refine g_istore_n C [(1, .int r1), (0, .ref (ad 4))] dX4_closeBlock_31 rfl (by decide) rfl ?_
  refine g_aload_n C 1 dX4_closeBlock_32 rfl rfl ?_
  refine gf_RX4_9 C  dX4_closeBlock_33 ?_
  refine g_aload_n C 1 dX4_closeBlock_36 rfl rfl ?_
  refine gf_RX4_43 C  (v := gI σ2 406) dX4_closeBlock_37 rfl ?_
  refine v_x5_at_RX4 C ⟨by decide, by decide⟩ (Nat.le_of_ble_eq_true rfl) dX4_closeBlock_40 (fun r3 σ4 _ => ?_)
  refine g_cs (fun h5 => ?_) (fun h5 => ?_)
  · refine g_tabIn C (off := 29) 72 (0) (by rw [h5]; decide) dX4_closeBlock_43 (by decide) (by decide) (by decide) (by decide) ?_
    refine g_aload_n C 1 dX4_closeBlock_72 rfl rfl ?_
    refine gf_RX4_36 C  (v := gP σ4 404) dX4_closeBlock_73 rfl ?_
    refine g_iconst C 0 dX4_closeBlock_76 (by decide) ?_
    refine g_aload_n C 1 dX4_closeBlock_77 rfl rfl ?_
    refine gf_RX4_85 C  (v := gI σ4 407) dX4_closeBlock_78 rfl ?_
    refine g_gd (fun hp6 => ?_)
    refine v_x0_add_RX4 C hp6 ⟨by decide, by decide⟩ (Nat.le_of_ble_eq_true rfl) dX4_closeBlock_81 (fun r7 σ8 _ => ?_)
    refine g_pop C dX4_closeBlock_84 rfl ?_
    refine g_goto C 155 dX4_closeBlock_85 (by decide) ?_
    exact g_vret C dX4_closeBlock_155
  refine g_cs (fun h9 => ?_) (fun h9 => ?_)
  · refine g_tabIn C (off := 87) 130 (1) (by rw [h9]; decide) dX4_closeBlock_43 (by decide) (by decide) (by decide) (by decide) ?_
    refine g_aload_n C 1 dX4_closeBlock_130 rfl rfl ?_
    refine g_iload_n C 0 dX4_closeBlock_131 rfl rfl ?_
    refine v_x4_closeIf_RX4 C ⟨by decide, by decide⟩ (Nat.le_of_ble_eq_true rfl) dX4_closeBlock_132 (fun r10 σ11 _ => ?_)
    refine g_goto C 155 dX4_closeBlock_135 (by decide) ?_
    exact g_vret C dX4_closeBlock_155
  refine g_cs (fun h12 => ?_) (fun h12 => ?_)
  · refine g_tabIn C (off := 95) 138 (2) (by rw [h12]; decide) dX4_closeBlock_43 (by decide) (by decide) (by decide) (by decide) ?_
    refine g_aload_n C 1 dX4_closeBlock_138 rfl rfl ?_
    refine gf_RX4_36 C  (v := gP σ4 404) dX4_closeBlock_139 rfl ?_
    refine g_iload_n C 0 dX4_closeBlock_142 rfl rfl ?_
    refine g_bipush C 10 dX4_closeBlock_143 (by decide) ?_
    refine g_aload_n C 1 dX4_closeBlock_145 rfl rfl ?_
    refine gf_RX4_36 C  (v := gP σ4 404) dX4_closeBlock_146 rfl ?_
    refine g_gd (fun hp13 => ?_)
    refine gf_RX4_128 C hp13 (v := gI σ4 (100 * (gP σ4 404) + 1)) dX4_closeBlock_149 rfl ?_
    refine v_x0_set_RX4 C hp13 ⟨by decide, by decide⟩ (Nat.le_of_ble_eq_true rfl) dX4_closeBlock_152 (fun r14 σ15 _ => ?_)
    exact g_vret C dX4_closeBlock_155
  refine g_cs (fun h16 => ?_) (fun h16 => ?_)
  · refine g_tabIn C (off := 45) 88 (3) (by rw [h16]; decide) dX4_closeBlock_43 (by decide) (by decide) (by decide) (by decide) ?_
    refine g_aload_n C 1 dX4_closeBlock_88 rfl rfl ?_
    refine gf_RX4_36 C  (v := gP σ4 404) dX4_closeBlock_89 rfl ?_
    refine g_aload_n C 1 dX4_closeBlock_92 rfl rfl ?_
    refine gf_RX4_36 C  (v := gP σ4 404) dX4_closeBlock_93 rfl ?_
    refine g_iconst C 1 dX4_closeBlock_96 (by decide) ?_
    refine g_aload_n C 1 dX4_closeBlock_97 rfl rfl ?_
    refine gf_RX4_85 C  (v := gI σ4 407) dX4_closeBlock_98 rfl ?_
    refine g_gd (fun hp17 => ?_)
    refine v_x0_add_RX4 C hp17 ⟨by decide, by decide⟩ (Nat.le_of_ble_eq_true rfl) dX4_closeBlock_101 (fun r18 σ19 _ => ?_)
    refine g_bipush C 10 dX4_closeBlock_104 (by decide) ?_
    refine g_iload_n C 0 dX4_closeBlock_106 rfl rfl ?_
    refine v_x0_set_RX4 C hp17 ⟨by decide, by decide⟩ (Nat.le_of_ble_eq_true rfl) dX4_closeBlock_107 (fun r20 σ21 _ => ?_)
    refine g_aload_n C 1 dX4_closeBlock_110 rfl rfl ?_
    refine gf_RX4_36 C  (v := gP σ21 404) dX4_closeBlock_111 rfl ?_
    refine g_iload_n C 0 dX4_closeBlock_114 rfl rfl ?_
    refine g_bipush C 10 dX4_closeBlock_115 (by decide) ?_
    refine g_aload_n C 1 dX4_closeBlock_117 rfl rfl ?_
    refine gf_RX4_36 C  (v := gP σ21 404) dX4_closeBlock_118 rfl ?_
    refine g_gd (fun hp22 => ?_)
    refine gf_RX4_128 C hp22 (v := gI σ21 (100 * (gP σ21 404) + 1)) dX4_closeBlock_121 rfl ?_
    refine v_x0_set_RX4 C hp22 ⟨by decide, by decide⟩ (Nat.le_of_ble_eq_true rfl) dX4_closeBlock_124 (fun r23 σ24 _ => ?_)
    refine g_goto C 155 dX4_closeBlock_127 (by decide) ?_
    exact g_vret C dX4_closeBlock_155
  have ah5 : ¬ r3.toInt = 0 := k_ne h5 (by decide)
  have bh5 : ¬ (0 : Int) = r3.toInt := fun e9 => ah5 e9.symm
  have ah9 : ¬ r3.toInt = 1 := k_ne h9 (by decide)
  have bh9 : ¬ (1 : Int) = r3.toInt := fun e9 => ah9 e9.symm
  have ah12 : ¬ r3.toInt = 2 := k_ne h12 (by decide)
  have bh12 : ¬ (2 : Int) = r3.toInt := fun e9 => ah12 e9.symm
  have ah16 : ¬ r3.toInt = 3 := k_ne h16 (by decide)
  have bh16 : ¬ (3 : Int) = r3.toInt := fun e9 => ah16 e9.symm
  refine g_tabOut C 138 dX4_closeBlock_43 (by omega) (by decide) ?_
  refine g_aload_n C 1 dX4_closeBlock_138 rfl rfl ?_
  refine gf_RX4_36 C  (v := gP σ4 404) dX4_closeBlock_139 rfl ?_
  refine g_iload_n C 0 dX4_closeBlock_142 rfl rfl ?_
  refine g_bipush C 10 dX4_closeBlock_143 (by decide) ?_
  refine g_aload_n C 1 dX4_closeBlock_145 rfl rfl ?_
  refine gf_RX4_36 C  (v := gP σ4 404) dX4_closeBlock_146 rfl ?_
  refine g_gd (fun hp25 => ?_)
  refine gf_RX4_128 C hp25 (v := gI σ4 (100 * (gP σ4 404) + 1)) dX4_closeBlock_149 rfl ?_
  refine v_x0_set_RX4 C hp25 ⟨by decide, by decide⟩ (Nat.le_of_ble_eq_true rfl) dX4_closeBlock_152 (fun r26 σ27 _ => ?_)
  exact g_vret C dX4_closeBlock_155
theorem c_x4_closeBlock {Y : Yx} {ad : Nat → Nat} {N : Nat} {σ : St} {r : Unit} {σ' : St} (h : x4_closeBlock N σ = some (r, σ')) : Con Y scC ad yX4_closeBlock cX4_closeBlock 2 none 4 88 [.ref (ad 4)] σ (outV r) σ' := con_of (by decide) rfl (Nat.le_of_ble_eq_true rfl) rfl (fun X hX C => s_x4_closeBlock C N σ) h
set_option maxRecDepth 20000 in
theorem v_x4_closeBlock_RX4 {X : Cx} {cc : ByteArray} {nL : Nat} {ret : Option FieldType} {fr lo : Nat} {ad : Nat → Nat} {ρ : Type} {out : ρ → Option Value} {pc : Nat} {lv : List (Nat × Value)} {rest : List Value} {σ : St} {N : Nat} {K : Unit → St → Option (ρ × St)} (C : Ok X cc RX4 nL ret fr lo) (hR : 4 + 1 ≤ fr ∧ 8 + (2 + 11) + 88 ≤ lo) (hcat : (rest.map fun v => v.category).sum ≤ 8) (hdg : decode cc pc = .ok (.invokevirtual 59, 3)) (k : ∀ (r : Unit) (σ' : St), x4_closeBlock N σ = some (r, σ') → Sim X scC ad nL out (pc + 3) lv rest σ' (K r σ')) : Sim X scC ad nL out pc lv (.ref (ad 4) :: rest) σ (bd (x4_closeBlock N σ) K) := g_callV C (out1 := outV) (y := yX4_closeBlock) (n := 0) ⟨gw_699, gw_701, gw_9, gw_111, gw_702⟩ (by decide +kernel) hR (o := 4) (ci := 4) (q9 := (RX4, TX4, 10)) im_4 rfl rfl rfl (fun r σ' h => c_x4_closeBlock h) rfl rfl hcat hdg k

def x4_readUse (N : Nat) (σ : St) (a1 : Int32) (a2 : Int32) (a3 : Int32) : Option (Int32 × St) :=
  gd (isPr (gP σ 403)) ((if (gI σ (100 * (gP σ 403) + 11)) < 40 then bd (x8_placeAt N σ a1) (fun r2 σ3 => bd (x8_letterAt N σ3 a1) (fun r4 σ5 => bd (x3_addUse N σ5 (gP σ 403) (gI σ 407) r2 r4) (fun r6 σ7 => gd (isCd (gP σ 404)) (bd (x0_set N σ7 (gP σ 404) a2 a3 r6) (fun _ σ10 => some (1, (sI σ10 405 ((gI σ10 405) + 1)))))))) else bd (x8_placeAt N σ a1) (fun r11 σ12 => bd (x4_refuse N σ12 2 r11) (fun r13 σ14 => gd (isb r13) (some (r13, σ14))))))
set_option maxHeartbeats 4000000 in
set_option maxRecDepth 100000 in
theorem s_x4_readUse {X : Cx} {ad : Nat → Nat} (C : Ok X cX4_readUse RX4 4 (some .boolean) 1 24) (N : Nat) (σ : St) (a1 : Int32) (a2 : Int32) (a3 : Int32) : Sim X scC ad 4 outI 0 [(0, .ref (ad 4)), (1, .int a1), (2, .int a2), (3, .int a3)] [] σ (x4_readUse N σ a1 a2 a3) := by
  unfold x4_readUse
  refine g_aload_n C 0 dX4_readUse_0 rfl rfl ?_
  refine gf_RX4_26 C  (v := gP σ 403) dX4_readUse_1 rfl ?_
  refine g_gd (fun hp1 => ?_)
  refine gf_RX4_156 C hp1 (v := gI σ (100 * (gP σ 403) + 11)) dX4_readUse_4 rfl ?_
  refine g_bipush C 40 dX4_readUse_7 (by decide) ?_
  refine g_icmp_lt C 26 dX4_readUse_9 (by decide) ?_ ?_
  · refine g_aload_n C 0 dX4_readUse_26 rfl rfl ?_
    refine gf_RX4_36 C  (v := gP σ 404) dX4_readUse_27 rfl ?_
    refine g_iload_n C 2 dX4_readUse_30 rfl rfl ?_
    refine g_iload_n C 3 dX4_readUse_31 rfl rfl ?_
    refine g_aload_n C 0 dX4_readUse_32 rfl rfl ?_
    refine gf_RX4_26 C  (v := gP σ 403) dX4_readUse_33 rfl ?_
    refine g_aload_n C 0 dX4_readUse_36 rfl rfl ?_
    refine gf_RX4_85 C  (v := gI σ 407) dX4_readUse_37 rfl ?_
    refine g_aload_n C 0 dX4_readUse_40 rfl rfl ?_
    refine gf_RX4_22 C  dX4_readUse_41 ?_
    refine g_iload_n C 1 dX4_readUse_44 rfl rfl ?_
    refine v_x8_placeAt_RX4 C ⟨by decide, by decide⟩ (Nat.le_of_ble_eq_true rfl) dX4_readUse_45 (fun r2 σ3 _ => ?_)
    refine g_aload_n C 0 dX4_readUse_48 rfl rfl ?_
    refine gf_RX4_22 C  dX4_readUse_49 ?_
    refine g_iload_n C 1 dX4_readUse_52 rfl rfl ?_
    refine v_x8_letterAt_RX4 C ⟨by decide, by decide⟩ (Nat.le_of_ble_eq_true rfl) dX4_readUse_53 (fun r4 σ5 _ => ?_)
    refine v_x3_addUse_RX4 C hp1 ⟨by decide, by decide⟩ (Nat.le_of_ble_eq_true rfl) dX4_readUse_56 (fun r6 σ7 _ => ?_)
    refine g_gd (fun hp8 => ?_)
    refine v_x0_set_RX4 C hp8 ⟨by decide, by decide⟩ (Nat.le_of_ble_eq_true rfl) dX4_readUse_59 (fun r9 σ10 _ => ?_)
    refine g_aload_n C 0 dX4_readUse_62 rfl rfl ?_
    refine g_dup C dX4_readUse_63 rfl ?_
    refine gf_RX4_40 C  (v := gI σ10 405) dX4_readUse_64 rfl ?_
    refine g_iconst C 1 dX4_readUse_67 (by decide) ?_
    refine g_iadd C dX4_readUse_68 ?_
    refine pf_RX4_40 C dX4_readUse_69 ?_
    refine g_iconst C 1 dX4_readUse_72 (by decide) ?_
    exact g_zret C rfl dX4_readUse_73
  · refine g_aload_n C 0 dX4_readUse_12 rfl rfl ?_
    refine g_iconst C 2 dX4_readUse_13 (by decide) ?_
    refine g_aload_n C 0 dX4_readUse_14 rfl rfl ?_
    refine gf_RX4_22 C  dX4_readUse_15 ?_
    refine g_iload_n C 1 dX4_readUse_18 rfl rfl ?_
    refine v_x8_placeAt_RX4 C ⟨by decide, by decide⟩ (Nat.le_of_ble_eq_true rfl) dX4_readUse_19 (fun r11 σ12 _ => ?_)
    refine v_x4_refuse_RX4 C ⟨by decide, by decide⟩ (Nat.le_of_ble_eq_true rfl) dX4_readUse_22 (fun r13 σ14 _ => ?_)
    refine g_gd (fun hb9 => ?_)
    exact g_zret C (isb_nar hb9) dX4_readUse_25
theorem c_x4_readUse {Y : Yx} {ad : Nat → Nat} {N : Nat} {σ : St} {a1 : Int32} {a2 : Int32} {a3 : Int32} {r : Int32} {σ' : St} (h : x4_readUse N σ a1 a2 a3 = some (r, σ')) : Con Y scC ad yX4_readUse cX4_readUse 4 (some .boolean) 1 24 [.ref (ad 4), .int a1, .int a2, .int a3] σ (outI r) σ' := con_of (by decide) rfl (Nat.le_of_ble_eq_true rfl) rfl (fun X hX C => s_x4_readUse C N σ a1 a2 a3) h
set_option maxRecDepth 20000 in
theorem v_x4_readUse_RX4 {X : Cx} {cc : ByteArray} {nL : Nat} {ret : Option FieldType} {fr lo : Nat} {ad : Nat → Nat} {ρ : Type} {out : ρ → Option Value} {pc : Nat} {lv : List (Nat × Value)} {rest : List Value} {σ : St} {N : Nat} {K : Int32 → St → Option (ρ × St)} {a1 : Int32} {a2 : Int32} {a3 : Int32} (C : Ok X cc RX4 nL ret fr lo) (hR : 1 + 1 ≤ fr ∧ 8 + (4 + 11) + 24 ≤ lo) (hcat : (rest.map fun v => v.category).sum ≤ 8) (hdg : decode cc pc = .ok (.invokevirtual 146, 3)) (k : ∀ (r : Int32) (σ' : St), x4_readUse N σ a1 a2 a3 = some (r, σ') → Sim X scC ad nL out (pc + 3) lv (.int r :: rest) σ' (K r σ')) : Sim X scC ad nL out pc lv (.int a3 :: .int a2 :: .int a1 :: .ref (ad 4) :: rest) σ (bd (x4_readUse N σ a1 a2 a3) K) := g_callV C (out1 := outI) (y := yX4_readUse) (n := 3) ⟨gw_725, gw_727, gw_13, gw_111, gw_728⟩ (by decide +kernel) hR (o := 4) (ci := 4) (q9 := (RX4, TX4, 10)) im_4 rfl rfl rfl (fun r σ' h => c_x4_readUse h) rfl rfl hcat hdg k

def x4_readField_39 (N : Nat) (σ : St) : Option (Int32 × St) :=
  bd (x8_placeAt N σ (gI σ 405)) (fun r5 σ6 => bd (x4_refuse N σ6 1 r5) (fun r7 σ8 => gd (isb r7) (some (r7, σ8))))
def x4_readField_56 (N : Nat) (σ : St) (x1 : Int32) (x2 : Int32) (x3 : Int32) : Option (Int32 × St) :=
  gd (isCd (gP σ 404)) (bd (x0_set N σ (gP σ 404) x1 x2 (x3 - 15)) (fun _ σ11 => some (1, (sI σ11 405 ((gI σ11 405) + 1)))))
def x4_readField (N : Nat) (σ : St) (a1 : Int32) (a2 : Int32) : Option (Int32 × St) :=
  bd (x8_letterAt N σ (gI σ 405)) (fun r1 σ2 => bd (x8_kindAt N σ2 (gI σ2 405)) (fun r3 σ4 => (if r3 = 2 then (if r1 = 15 then x4_readField_56 N σ4 a1 a2 r1 else (if r1 = 16 then x4_readField_56 N σ4 a1 a2 r1 else x4_readField_39 N σ4)) else x4_readField_39 N σ4)))
set_option maxHeartbeats 4000000 in
set_option maxRecDepth 100000 in
theorem s_x4_readField_39 {X : Cx} {ad : Nat → Nat} (C : Ok X cX4_readField RX4 4 (some .boolean) 1 24) (N : Nat) (σ : St) : Sim X scC ad 4 outI 39 [(0, .ref (ad 4))] [] σ (x4_readField_39 N σ) := by
  unfold x4_readField_39
  refine g_aload_n C 0 dX4_readField_39 rfl rfl ?_
  refine g_iconst C 1 dX4_readField_40 (by decide) ?_
  refine g_aload_n C 0 dX4_readField_41 rfl rfl ?_
  refine gf_RX4_22 C  dX4_readField_42 ?_
  refine g_aload_n C 0 dX4_readField_45 rfl rfl ?_
  refine gf_RX4_40 C  (v := gI σ 405) dX4_readField_46 rfl ?_
  refine v_x8_placeAt_RX4 C ⟨by decide, by decide⟩ (Nat.le_of_ble_eq_true rfl) dX4_readField_49 (fun r5 σ6 _ => ?_)
  refine v_x4_refuse_RX4 C ⟨by decide, by decide⟩ (Nat.le_of_ble_eq_true rfl) dX4_readField_52 (fun r7 σ8 _ => ?_)
  refine g_gd (fun hb9 => ?_)
  exact g_zret C (isb_nar hb9) dX4_readField_55
set_option maxHeartbeats 4000000 in
set_option maxRecDepth 100000 in
theorem s_x4_readField_56 {X : Cx} {ad : Nat → Nat} (C : Ok X cX4_readField RX4 4 (some .boolean) 1 24) (N : Nat) (σ : St) (x1 : Int32) (x2 : Int32) (x3 : Int32) : Sim X scC ad 4 outI 56 [(0, .ref (ad 4)), (1, .int x1), (2, .int x2), (3, .int x3)] [] σ (x4_readField_56 N σ x1 x2 x3) := by
  unfold x4_readField_56
  refine g_aload_n C 0 dX4_readField_56 rfl rfl ?_
  refine gf_RX4_36 C  (v := gP σ 404) dX4_readField_57 rfl ?_
  refine g_iload_n C 1 dX4_readField_60 rfl rfl ?_
  refine g_iload_n C 2 dX4_readField_61 rfl rfl ?_
  refine g_iload_n C 3 dX4_readField_62 rfl rfl ?_
  refine g_bipush C 15 dX4_readField_63 (by decide) ?_
  refine g_isub C dX4_readField_65 ?_
  refine g_gd (fun hp9 => ?_)
  refine v_x0_set_RX4 C hp9 ⟨by decide, by decide⟩ (Nat.le_of_ble_eq_true rfl) dX4_readField_66 (fun r10 σ11 _ => ?_)
  refine g_aload_n C 0 dX4_readField_69 rfl rfl ?_
  refine g_dup C dX4_readField_70 rfl ?_
  refine gf_RX4_40 C  (v := gI σ11 405) dX4_readField_71 rfl ?_
  refine g_iconst C 1 dX4_readField_74 (by decide) ?_
  refine g_iadd C dX4_readField_75 ?_
  refine pf_RX4_40 C dX4_readField_76 ?_
  refine g_iconst C 1 dX4_readField_79 (by decide) ?_
  exact g_zret C rfl dX4_readField_80
set_option maxHeartbeats 4000000 in
set_option maxRecDepth 100000 in
theorem s_x4_readField {X : Cx} {ad : Nat → Nat} (C : Ok X cX4_readField RX4 4 (some .boolean) 1 24) (N : Nat) (σ : St) (a1 : Int32) (a2 : Int32) : Sim X scC ad 4 outI 0 [(0, .ref (ad 4)), (1, .int a1), (2, .int a2)] [] σ (x4_readField N σ a1 a2) := by
  unfold x4_readField
  refine g_aload_n C 0 dX4_readField_0 rfl rfl ?_
  refine gf_RX4_22 C  dX4_readField_1 ?_
  refine g_aload_n C 0 dX4_readField_4 rfl rfl ?_
  refine gf_RX4_40 C  (v := gI σ 405) dX4_readField_5 rfl ?_
  refine v_x8_letterAt_RX4 C ⟨by decide, by decide⟩ (Nat.le_of_ble_eq_true rfl) dX4_readField_8 (fun r1 σ2 _ => ?_)
  refine g_istore_n C [(3, .int r1), (0, .ref (ad 4)), (1, .int a1), (2, .int a2)] dX4_readField_11 rfl (by decide) rfl ?_
  refine g_aload_n C 1 dX4_readField_12 rfl rfl ?_
  refine gf_RX4_22 C  dX4_readField_13 ?_
  refine g_aload_n C 1 dX4_readField_16 rfl rfl ?_
  refine gf_RX4_40 C  (v := gI σ2 405) dX4_readField_17 rfl ?_
  refine v_x8_kindAt_RX4 C ⟨by decide, by decide⟩ (Nat.le_of_ble_eq_true rfl) dX4_readField_20 (fun r3 σ4 _ => ?_)
  refine g_iconst C 2 dX4_readField_23 (by decide) ?_
  refine g_icmp_ne C 39 dX4_readField_24 (by decide) ?_ ?_
  · exact g_sub [1] rfl (s_x4_readField_39 C N σ4)
  · refine g_iload_n C 0 dX4_readField_27 rfl rfl ?_
    refine g_bipush C 15 dX4_readField_28 (by decide) ?_
    refine g_icmp_eq C 56 dX4_readField_30 (by decide) ?_ ?_
    · exact g_sub [1, 2, 3, 0] rfl (s_x4_readField_56 C N σ4 a1 a2 r1)
    · refine g_iload_n C 0 dX4_readField_33 rfl rfl ?_
      refine g_bipush C 16 dX4_readField_34 (by decide) ?_
      refine g_icmp_eq C 56 dX4_readField_36 (by decide) ?_ ?_
      · exact g_sub [1, 2, 3, 0] rfl (s_x4_readField_56 C N σ4 a1 a2 r1)
      · exact g_sub [1] rfl (s_x4_readField_39 C N σ4)
theorem c_x4_readField {Y : Yx} {ad : Nat → Nat} {N : Nat} {σ : St} {a1 : Int32} {a2 : Int32} {r : Int32} {σ' : St} (h : x4_readField N σ a1 a2 = some (r, σ')) : Con Y scC ad yX4_readField cX4_readField 4 (some .boolean) 1 24 [.ref (ad 4), .int a1, .int a2] σ (outI r) σ' := con_of (by decide) rfl (Nat.le_of_ble_eq_true rfl) rfl (fun X hX C => s_x4_readField C N σ a1 a2) h
set_option maxRecDepth 20000 in
theorem v_x4_readField_RX4 {X : Cx} {cc : ByteArray} {nL : Nat} {ret : Option FieldType} {fr lo : Nat} {ad : Nat → Nat} {ρ : Type} {out : ρ → Option Value} {pc : Nat} {lv : List (Nat × Value)} {rest : List Value} {σ : St} {N : Nat} {K : Int32 → St → Option (ρ × St)} {a1 : Int32} {a2 : Int32} (C : Ok X cc RX4 nL ret fr lo) (hR : 1 + 1 ≤ fr ∧ 8 + (4 + 11) + 24 ≤ lo) (hcat : (rest.map fun v => v.category).sum ≤ 8) (hdg : decode cc pc = .ok (.invokevirtual 150, 3)) (k : ∀ (r : Int32) (σ' : St), x4_readField N σ a1 a2 = some (r, σ') → Sim X scC ad nL out (pc + 3) lv (.int r :: rest) σ' (K r σ')) : Sim X scC ad nL out pc lv (.int a2 :: .int a1 :: .ref (ad 4) :: rest) σ (bd (x4_readField N σ a1 a2) K) := g_callV C (out1 := outI) (y := yX4_readField) (n := 2) ⟨gw_733, gw_735, gw_14, gw_111, gw_736⟩ (by decide +kernel) hR (o := 4) (ci := 4) (q9 := (RX4, TX4, 10)) im_4 rfl rfl rfl (fun r σ' h => c_x4_readField h) rfl rfl hcat hdg k

def x4_readName (N : Nat) (σ : St) (a1 : Int32) (a2 : Int32) : Option (Int32 × St) :=
  bd (x8_letterAt N σ (gI σ 405)) (fun r1 σ2 => gd (isCd (gP σ 404)) (bd (x0_set N σ2 (gP σ 404) a1 a2 r1) (fun _ σ5 => bd (x4_take N σ5 2) (fun r6 σ7 => gd (isb r6) (some (r6, σ7))))))
set_option maxHeartbeats 4000000 in
set_option maxRecDepth 100000 in
theorem s_x4_readName {X : Cx} {ad : Nat → Nat} (C : Ok X cX4_readName RX4 3 (some .boolean) 2 43) (N : Nat) (σ : St) (a1 : Int32) (a2 : Int32) : Sim X scC ad 3 outI 0 [(0, .ref (ad 4)), (1, .int a1), (2, .int a2)] [] σ (x4_readName N σ a1 a2) := by
  unfold x4_readName
  refine g_aload_n C 0 dX4_readName_0 rfl rfl ?_
  refine gf_RX4_36 C  (v := gP σ 404) dX4_readName_1 rfl ?_
  refine g_iload_n C 1 dX4_readName_4 rfl rfl ?_
  refine g_iload_n C 2 dX4_readName_5 rfl rfl ?_
  refine g_aload_n C 0 dX4_readName_6 rfl rfl ?_
  refine gf_RX4_22 C  dX4_readName_7 ?_
  refine g_aload_n C 0 dX4_readName_10 rfl rfl ?_
  refine gf_RX4_40 C  (v := gI σ 405) dX4_readName_11 rfl ?_
  refine v_x8_letterAt_RX4 C ⟨by decide, by decide⟩ (Nat.le_of_ble_eq_true rfl) dX4_readName_14 (fun r1 σ2 _ => ?_)
  refine g_gd (fun hp3 => ?_)
  refine v_x0_set_RX4 C hp3 ⟨by decide, by decide⟩ (Nat.le_of_ble_eq_true rfl) dX4_readName_17 (fun r4 σ5 _ => ?_)
  refine g_aload_n C 0 dX4_readName_20 rfl rfl ?_
  refine g_iconst C 2 dX4_readName_21 (by decide) ?_
  refine v_x4_take_RX4 C ⟨by decide, by decide⟩ (Nat.le_of_ble_eq_true rfl) dX4_readName_22 (fun r6 σ7 _ => ?_)
  refine g_gd (fun hb9 => ?_)
  exact g_zret C (isb_nar hb9) dX4_readName_25
theorem c_x4_readName {Y : Yx} {ad : Nat → Nat} {N : Nat} {σ : St} {a1 : Int32} {a2 : Int32} {r : Int32} {σ' : St} (h : x4_readName N σ a1 a2 = some (r, σ')) : Con Y scC ad yX4_readName cX4_readName 3 (some .boolean) 2 43 [.ref (ad 4), .int a1, .int a2] σ (outI r) σ' := con_of (by decide) rfl (Nat.le_of_ble_eq_true rfl) rfl (fun X hX C => s_x4_readName C N σ a1 a2) h
set_option maxRecDepth 20000 in
theorem v_x4_readName_RX4 {X : Cx} {cc : ByteArray} {nL : Nat} {ret : Option FieldType} {fr lo : Nat} {ad : Nat → Nat} {ρ : Type} {out : ρ → Option Value} {pc : Nat} {lv : List (Nat × Value)} {rest : List Value} {σ : St} {N : Nat} {K : Int32 → St → Option (ρ × St)} {a1 : Int32} {a2 : Int32} (C : Ok X cc RX4 nL ret fr lo) (hR : 2 + 1 ≤ fr ∧ 8 + (3 + 11) + 43 ≤ lo) (hcat : (rest.map fun v => v.category).sum ≤ 8) (hdg : decode cc pc = .ok (.invokevirtual 172, 3)) (k : ∀ (r : Int32) (σ' : St), x4_readName N σ a1 a2 = some (r, σ') → Sim X scC ad nL out (pc + 3) lv (.int r :: rest) σ' (K r σ')) : Sim X scC ad nL out pc lv (.int a2 :: .int a1 :: .ref (ad 4) :: rest) σ (bd (x4_readName N σ a1 a2) K) := g_callV C (out1 := outI) (y := yX4_readName) (n := 2) ⟨gw_741, gw_743, gw_16, gw_111, gw_744⟩ (by decide +kernel) hR (o := 4) (ci := 4) (q9 := (RX4, TX4, 10)) im_4 rfl rfl rfl (fun r σ' h => c_x4_readName h) rfl rfl hcat hdg k

def x4_readNameOrField (N : Nat) (σ : St) (a1 : Int32) : Option (Int32 × St) :=
  bd (x8_letterAt N σ (gI σ 405)) (fun r1 σ2 => gd (isCd (gP σ 404)) (bd (x0_set N σ2 (gP σ 404) a1 5 r1) (fun _ σ5 => bd (x4_seen N (sI σ5 405 ((gI σ5 405) + 1)) 11) (fun r6 σ7 => (if r6 = 0 then gd (isCd (gP σ7 404)) (bd (x0_set N σ7 (gP σ7 404) a1 4 3) (fun _ σ17 => some (1, σ17))) else gd (isCd (gP σ7 404)) (bd (x0_set N σ7 (gP σ7 404) a1 4 4) (fun _ σ10 => bd (x4_readUse N σ10 (gI σ 405) a1 7) (fun r11 σ12 => (if r11 = 0 then some (0, σ12) else bd (x4_readField N σ12 a1 6) (fun r13 σ14 => (if r13 = 0 then some (0, σ14) else some (1, σ14))))))))))))
set_option maxHeartbeats 4000000 in
set_option maxRecDepth 100000 in
theorem s_x4_readNameOrField {X : Cx} {ad : Nat → Nat} (C : Ok X cX4_readNameOrField RX4 3 (some .boolean) 2 47) (N : Nat) (σ : St) (a1 : Int32) : Sim X scC ad 3 outI 0 [(0, .ref (ad 4)), (1, .int a1)] [] σ (x4_readNameOrField N σ a1) := by
  unfold x4_readNameOrField
  refine g_aload_n C 0 dX4_readNameOrField_0 rfl rfl ?_
  refine gf_RX4_40 C  (v := gI σ 405) dX4_readNameOrField_1 rfl ?_
  refine g_istore_n C [(2, .int (gI σ 405)), (0, .ref (ad 4)), (1, .int a1)] dX4_readNameOrField_4 rfl (by decide) rfl ?_
  refine g_aload_n C 1 dX4_readNameOrField_5 rfl rfl ?_
  refine gf_RX4_36 C  (v := gP σ 404) dX4_readNameOrField_6 rfl ?_
  refine g_iload_n C 2 dX4_readNameOrField_9 rfl rfl ?_
  refine g_iconst C 5 dX4_readNameOrField_10 (by decide) ?_
  refine g_aload_n C 1 dX4_readNameOrField_11 rfl rfl ?_
  refine gf_RX4_22 C  dX4_readNameOrField_12 ?_
  refine g_iload_n C 0 dX4_readNameOrField_15 rfl rfl ?_
  refine v_x8_letterAt_RX4 C ⟨by decide, by decide⟩ (Nat.le_of_ble_eq_true rfl) dX4_readNameOrField_16 (fun r1 σ2 _ => ?_)
  refine g_gd (fun hp3 => ?_)
  refine v_x0_set_RX4 C hp3 ⟨by decide, by decide⟩ (Nat.le_of_ble_eq_true rfl) dX4_readNameOrField_19 (fun r4 σ5 _ => ?_)
  refine g_aload_n C 1 dX4_readNameOrField_22 rfl rfl ?_
  refine g_dup C dX4_readNameOrField_23 rfl ?_
  refine gf_RX4_40 C  (v := gI σ5 405) dX4_readNameOrField_24 rfl ?_
  refine g_iconst C 1 dX4_readNameOrField_27 (by decide) ?_
  refine g_iadd C dX4_readNameOrField_28 ?_
  refine pf_RX4_40 C dX4_readNameOrField_29 ?_
  refine g_aload_n C 1 dX4_readNameOrField_32 rfl rfl ?_
  refine g_bipush C 11 dX4_readNameOrField_33 (by decide) ?_
  refine v_x4_seen_RX4 C ⟨by decide, by decide⟩ (Nat.le_of_ble_eq_true rfl) dX4_readNameOrField_35 (fun r6 σ7 _ => ?_)
  refine g_if_ne C 53 dX4_readNameOrField_38 (by decide) ?_ ?_
  · refine g_aload_n C 1 dX4_readNameOrField_53 rfl rfl ?_
    refine gf_RX4_36 C  (v := gP σ7 404) dX4_readNameOrField_54 rfl ?_
    refine g_iload_n C 2 dX4_readNameOrField_57 rfl rfl ?_
    refine g_iconst C 4 dX4_readNameOrField_58 (by decide) ?_
    refine g_iconst C 4 dX4_readNameOrField_59 (by decide) ?_
    refine g_gd (fun hp8 => ?_)
    refine v_x0_set_RX4 C hp8 ⟨by decide, by decide⟩ (Nat.le_of_ble_eq_true rfl) dX4_readNameOrField_60 (fun r9 σ10 _ => ?_)
    refine g_aload_n C 1 dX4_readNameOrField_63 rfl rfl ?_
    refine g_iload_n C 0 dX4_readNameOrField_64 rfl rfl ?_
    refine g_iload_n C 2 dX4_readNameOrField_65 rfl rfl ?_
    refine g_bipush C 7 dX4_readNameOrField_66 (by decide) ?_
    refine v_x4_readUse_RX4 C ⟨by decide, by decide⟩ (Nat.le_of_ble_eq_true rfl) dX4_readNameOrField_68 (fun r11 σ12 _ => ?_)
    refine g_if_eq C 88 dX4_readNameOrField_71 (by decide) ?_ ?_
    · refine g_iconst C 0 dX4_readNameOrField_88 (by decide) ?_
      exact g_zret C rfl dX4_readNameOrField_89
    · refine g_aload_n C 1 dX4_readNameOrField_74 rfl rfl ?_
      refine g_iload_n C 2 dX4_readNameOrField_75 rfl rfl ?_
      refine g_bipush C 6 dX4_readNameOrField_76 (by decide) ?_
      refine v_x4_readField_RX4 C ⟨by decide, by decide⟩ (Nat.le_of_ble_eq_true rfl) dX4_readNameOrField_78 (fun r13 σ14 _ => ?_)
      refine g_if_eq C 88 dX4_readNameOrField_81 (by decide) ?_ ?_
      · refine g_iconst C 0 dX4_readNameOrField_88 (by decide) ?_
        exact g_zret C rfl dX4_readNameOrField_89
      · refine g_iconst C 1 dX4_readNameOrField_84 (by decide) ?_
        refine g_goto C 89 dX4_readNameOrField_85 (by decide) ?_
        exact g_zret C rfl dX4_readNameOrField_89
  · refine g_aload_n C 1 dX4_readNameOrField_41 rfl rfl ?_
    refine gf_RX4_36 C  (v := gP σ7 404) dX4_readNameOrField_42 rfl ?_
    refine g_iload_n C 2 dX4_readNameOrField_45 rfl rfl ?_
    refine g_iconst C 4 dX4_readNameOrField_46 (by decide) ?_
    refine g_iconst C 3 dX4_readNameOrField_47 (by decide) ?_
    refine g_gd (fun hp15 => ?_)
    refine v_x0_set_RX4 C hp15 ⟨by decide, by decide⟩ (Nat.le_of_ble_eq_true rfl) dX4_readNameOrField_48 (fun r16 σ17 _ => ?_)
    refine g_iconst C 1 dX4_readNameOrField_51 (by decide) ?_
    exact g_zret C rfl dX4_readNameOrField_52
theorem c_x4_readNameOrField {Y : Yx} {ad : Nat → Nat} {N : Nat} {σ : St} {a1 : Int32} {r : Int32} {σ' : St} (h : x4_readNameOrField N σ a1 = some (r, σ')) : Con Y scC ad yX4_readNameOrField cX4_readNameOrField 3 (some .boolean) 2 47 [.ref (ad 4), .int a1] σ (outI r) σ' := con_of (by decide) rfl (Nat.le_of_ble_eq_true rfl) rfl (fun X hX C => s_x4_readNameOrField C N σ a1) h
set_option maxRecDepth 20000 in
theorem v_x4_readNameOrField_RX4 {X : Cx} {cc : ByteArray} {nL : Nat} {ret : Option FieldType} {fr lo : Nat} {ad : Nat → Nat} {ρ : Type} {out : ρ → Option Value} {pc : Nat} {lv : List (Nat × Value)} {rest : List Value} {σ : St} {N : Nat} {K : Int32 → St → Option (ρ × St)} {a1 : Int32} (C : Ok X cc RX4 nL ret fr lo) (hR : 2 + 1 ≤ fr ∧ 8 + (3 + 11) + 47 ≤ lo) (hcat : (rest.map fun v => v.category).sum ≤ 8) (hdg : decode cc pc = .ok (.invokevirtual 175, 3)) (k : ∀ (r : Int32) (σ' : St), x4_readNameOrField N σ a1 = some (r, σ') → Sim X scC ad nL out (pc + 3) lv (.int r :: rest) σ' (K r σ')) : Sim X scC ad nL out pc lv (.int a1 :: .ref (ad 4) :: rest) σ (bd (x4_readNameOrField N σ a1) K) := g_callV C (out1 := outI) (y := yX4_readNameOrField) (n := 1) ⟨gw_745, gw_747, gw_17, gw_111, gw_748⟩ (by decide +kernel) hR (o := 4) (ci := 4) (q9 := (RX4, TX4, 10)) im_4 rfl rfl rfl (fun r σ' h => c_x4_readNameOrField h) rfl rfl hcat hdg k

def x4_readCall_171 (N : Nat) (σ : St) : Option (Int32 × St) :=
  bd (x4_take N σ 5) (fun r18 σ19 => gd (isb r18) (some (r18, σ19)))
def x4_readCall_152 (N : Nat) (σ : St) : Option (Int32 × St) :=
  x4_readCall_171 N σ
def x4_readCall_113 (N : Nat) (σ : St) (x3 : Int32) : Option (Int32 × St) :=
  bd (x8_placeAt N σ x3) (fun r29 σ30 => bd (x4_refuse N σ30 2 r29) (fun r31 σ32 => gd (isb r31) (some (r31, σ32))))
def x4_readCall_88_b (N : Nat) (rec88 : St → Int32 → Int32 → Option (Int32 × St)) (σ : St) (x1 : Int32) (x2 : Int32) : Option (Int32 × St) :=
  (if 4 < x2 then x4_readCall_171 N σ else bd (x4_take N σ 2) (fun r20 σ21 => (if r20 = 0 then some (0, σ21) else (if x2 = 4 then x4_readCall_113 N σ21 (gI σ 405) else bd (x8_letterAt N σ21 (gI σ 405)) (fun r22 σ23 => gd (isCd (gP σ21 404)) (bd (x0_addArgument N σ23 (gP σ21 404) x1 r22) (fun _ σ26 => bd (x4_seen N σ26 8) (fun r27 σ28 => (if r27 = 0 then x4_readCall_152 N σ28 else rec88 (sI σ28 405 ((gI σ28 405) + 1)) x1 (x2 + 1))))))))))
def x4_readCall_88 (N : Nat) : Nat → St → Int32 → Int32 → Option (Int32 × St)
  | 0 => fun _ _ _ => none
  | n + 1 => fun σ x1 x2 => x4_readCall_88_b N (x4_readCall_88 N n) σ x1 x2
def x4_readCall (N : Nat) (σ : St) (a1 : Int32) : Option (Int32 × St) :=
  gd (isCd (gP σ 404)) (bd (x0_set N σ (gP σ 404) a1 4 5) (fun _ σ3 => bd (x8_letterAt N σ3 (gI σ3 405)) (fun r4 σ5 => gd (isCd (gP σ3 404)) (bd (x0_set N σ5 (gP σ3 404) a1 6 r4) (fun _ σ8 => bd (x8_placeAt N σ8 (gI σ8 405)) (fun r9 σ10 => gd (isCd (gP σ8 404)) (bd (x0_set N σ10 (gP σ8 404) a1 9 r9) (fun _ σ13 => bd (x4_take N (sI σ13 405 ((gI σ13 405) + 1)) 4) (fun r14 σ15 => (if r14 = 0 then some (0, σ15) else bd (x4_seen N σ15 5) (fun r16 σ17 => (if r16 = 0 then x4_readCall_88 N N σ17 a1 0 else bd (x4_take N σ17 5) (fun r33 σ34 => gd (isb r33) (some (r33, σ34)))))))))))))))
set_option maxHeartbeats 4000000 in
set_option maxRecDepth 100000 in
theorem s_x4_readCall_171 {X : Cx} {ad : Nat → Nat} (C : Ok X cX4_readCall RX4 4 (some .boolean) 2 48) (N : Nat) (σ : St) : Sim X scC ad 4 outI 171 [(0, .ref (ad 4))] [] σ (x4_readCall_171 N σ) := by
  unfold x4_readCall_171
  refine g_aload_n C 0 dX4_readCall_171 rfl rfl ?_
  refine g_iconst C 5 dX4_readCall_172 (by decide) ?_
  refine v_x4_take_RX4 C ⟨by decide, by decide⟩ (Nat.le_of_ble_eq_true rfl) dX4_readCall_173 (fun r18 σ19 _ => ?_)
  refine g_gd (fun hb9 => ?_)
  exact g_zret C (isb_nar hb9) dX4_readCall_176
set_option maxHeartbeats 4000000 in
set_option maxRecDepth 100000 in
theorem s_x4_readCall_152 {X : Cx} {ad : Nat → Nat} (C : Ok X cX4_readCall RX4 4 (some .boolean) 2 48) (N : Nat) (σ : St) : Sim X scC ad 4 outI 152 [(0, .ref (ad 4))] [] σ (x4_readCall_152 N σ) := by
  unfold x4_readCall_152
  refine g_goto C 171 dX4_readCall_152 (by decide) ?_
  exact g_sub [0] rfl (s_x4_readCall_171 C N σ)
set_option maxHeartbeats 4000000 in
set_option maxRecDepth 100000 in
theorem s_x4_readCall_113 {X : Cx} {ad : Nat → Nat} (C : Ok X cX4_readCall RX4 4 (some .boolean) 2 48) (N : Nat) (σ : St) (x3 : Int32) : Sim X scC ad 4 outI 113 [(0, .ref (ad 4)), (3, .int x3)] [] σ (x4_readCall_113 N σ x3) := by
  unfold x4_readCall_113
  refine g_aload_n C 0 dX4_readCall_113 rfl rfl ?_
  refine g_iconst C 2 dX4_readCall_114 (by decide) ?_
  refine g_aload_n C 0 dX4_readCall_115 rfl rfl ?_
  refine gf_RX4_22 C  dX4_readCall_116 ?_
  refine g_iload_n C 1 dX4_readCall_119 rfl rfl ?_
  refine v_x8_placeAt_RX4 C ⟨by decide, by decide⟩ (Nat.le_of_ble_eq_true rfl) dX4_readCall_120 (fun r29 σ30 _ => ?_)
  refine v_x4_refuse_RX4 C ⟨by decide, by decide⟩ (Nat.le_of_ble_eq_true rfl) dX4_readCall_123 (fun r31 σ32 _ => ?_)
  refine g_gd (fun hb9 => ?_)
  exact g_zret C (isb_nar hb9) dX4_readCall_126
set_option maxHeartbeats 4000000 in
set_option maxRecDepth 100000 in
theorem s_x4_readCall_88_b {X : Cx} {ad : Nat → Nat} (C : Ok X cX4_readCall RX4 4 (some .boolean) 2 48) (N : Nat) {rec88 : St → Int32 → Int32 → Option (Int32 × St)} (hrec88 : ∀ (σ : St) (x1 : Int32) (x2 : Int32), Sim X scC ad 4 outI 88 [(0, .ref (ad 4)), (1, .int x1), (2, .int x2)] [] σ (rec88 σ x1 x2)) (σ : St) (x1 : Int32) (x2 : Int32) : Sim X scC ad 4 outI 88 [(0, .ref (ad 4)), (1, .int x1), (2, .int x2)] [] σ (x4_readCall_88_b N rec88 σ x1 x2) := by
  unfold x4_readCall_88_b
  refine g_iload_n C 2 dX4_readCall_88 rfl rfl ?_
  refine g_iconst C 4 dX4_readCall_89 (by decide) ?_
  refine g_icmp_gt C 171 dX4_readCall_90 (by decide) ?_ ?_
  · exact g_sub [0] rfl (s_x4_readCall_171 C N σ)
  · refine g_aload_n C 0 dX4_readCall_93 rfl rfl ?_
    refine gf_RX4_40 C  (v := gI σ 405) dX4_readCall_94 rfl ?_
    refine g_istore_n C [(3, .int (gI σ 405)), (0, .ref (ad 4)), (1, .int x1), (2, .int x2)] dX4_readCall_97 rfl (by decide) rfl ?_
    refine g_aload_n C 1 dX4_readCall_98 rfl rfl ?_
    refine g_iconst C 2 dX4_readCall_99 (by decide) ?_
    refine v_x4_take_RX4 C ⟨by decide, by decide⟩ (Nat.le_of_ble_eq_true rfl) dX4_readCall_100 (fun r20 σ21 _ => ?_)
    refine g_if_ne C 108 dX4_readCall_103 (by decide) ?_ ?_
    · refine g_iload_n C 3 dX4_readCall_108 rfl rfl ?_
      refine g_iconst C 4 dX4_readCall_109 (by decide) ?_
      refine g_icmp_ne C 127 dX4_readCall_110 (by decide) ?_ ?_
      · refine g_aload_n C 1 dX4_readCall_127 rfl rfl ?_
        refine gf_RX4_36 C  (v := gP σ21 404) dX4_readCall_128 rfl ?_
        refine g_iload_n C 2 dX4_readCall_131 rfl rfl ?_
        refine g_aload_n C 1 dX4_readCall_132 rfl rfl ?_
        refine gf_RX4_22 C  dX4_readCall_133 ?_
        refine g_iload_n C 0 dX4_readCall_136 rfl rfl ?_
        refine v_x8_letterAt_RX4 C ⟨by decide, by decide⟩ (Nat.le_of_ble_eq_true rfl) dX4_readCall_137 (fun r22 σ23 _ => ?_)
        refine g_gd (fun hp24 => ?_)
        refine v_x0_addArgument_RX4 C hp24 ⟨by decide, by decide⟩ (Nat.le_of_ble_eq_true rfl) dX4_readCall_140 (fun r25 σ26 _ => ?_)
        refine g_aload_n C 1 dX4_readCall_143 rfl rfl ?_
        refine g_bipush C 8 dX4_readCall_144 (by decide) ?_
        refine v_x4_seen_RX4 C ⟨by decide, by decide⟩ (Nat.le_of_ble_eq_true rfl) dX4_readCall_146 (fun r27 σ28 _ => ?_)
        refine g_if_ne C 155 dX4_readCall_149 (by decide) ?_ ?_
        · refine g_aload_n C 1 dX4_readCall_155 rfl rfl ?_
          refine g_dup C dX4_readCall_156 rfl ?_
          refine gf_RX4_40 C  (v := gI σ28 405) dX4_readCall_157 rfl ?_
          refine g_iconst C 1 dX4_readCall_160 (by decide) ?_
          refine g_iadd C dX4_readCall_161 ?_
          refine pf_RX4_40 C dX4_readCall_162 ?_
          refine g_iinc C (x2 + 1) 3 [(2, .int (x2 + 1)), (3, .int (gI σ 405)), (0, .ref (ad 4)), (1, .int x1)] dX4_readCall_165 rfl rfl (by decide) rfl ?_
          refine g_goto C 88 dX4_readCall_168 (by decide) ?_
          exact g_sub [2, 3, 0] rfl (hrec88 (sI σ28 405 ((gI σ28 405) + 1)) x1 (x2 + 1))
        · exact g_sub [1] rfl (s_x4_readCall_152 C N σ28)
      · exact g_sub [1, 0] rfl (s_x4_readCall_113 C N σ21 (gI σ 405))
    · refine g_iconst C 0 dX4_readCall_106 (by decide) ?_
      exact g_zret C rfl dX4_readCall_107
set_option maxHeartbeats 4000000 in
set_option maxRecDepth 100000 in
theorem s_x4_readCall_88 {X : Cx} {ad : Nat → Nat} (C : Ok X cX4_readCall RX4 4 (some .boolean) 2 48) (N : Nat) : ∀ (n : Nat) (σ : St) (x1 : Int32) (x2 : Int32), Sim X scC ad 4 outI 88 [(0, .ref (ad 4)), (1, .int x1), (2, .int x2)] [] σ (x4_readCall_88 N n σ x1 x2) := by
  intro n
  induction n with
  | zero => intro σ x1 x2; exact g_none
  | succ n ih => intro σ x1 x2; exact s_x4_readCall_88_b C N ih σ x1 x2
set_option maxHeartbeats 4000000 in
set_option maxRecDepth 100000 in
theorem s_x4_readCall {X : Cx} {ad : Nat → Nat} (C : Ok X cX4_readCall RX4 4 (some .boolean) 2 48) (N : Nat) (σ : St) (a1 : Int32) : Sim X scC ad 4 outI 0 [(0, .ref (ad 4)), (1, .int a1)] [] σ (x4_readCall N σ a1) := by
  unfold x4_readCall
  refine g_aload_n C 0 dX4_readCall_0 rfl rfl ?_
  refine gf_RX4_36 C  (v := gP σ 404) dX4_readCall_1 rfl ?_
  refine g_iload_n C 1 dX4_readCall_4 rfl rfl ?_
  refine g_iconst C 4 dX4_readCall_5 (by decide) ?_
  refine g_iconst C 5 dX4_readCall_6 (by decide) ?_
  refine g_gd (fun hp1 => ?_)
  refine v_x0_set_RX4 C hp1 ⟨by decide, by decide⟩ (Nat.le_of_ble_eq_true rfl) dX4_readCall_7 (fun r2 σ3 _ => ?_)
  refine g_aload_n C 0 dX4_readCall_10 rfl rfl ?_
  refine gf_RX4_36 C  (v := gP σ3 404) dX4_readCall_11 rfl ?_
  refine g_iload_n C 1 dX4_readCall_14 rfl rfl ?_
  refine g_bipush C 6 dX4_readCall_15 (by decide) ?_
  refine g_aload_n C 0 dX4_readCall_17 rfl rfl ?_
  refine gf_RX4_22 C  dX4_readCall_18 ?_
  refine g_aload_n C 0 dX4_readCall_21 rfl rfl ?_
  refine gf_RX4_40 C  (v := gI σ3 405) dX4_readCall_22 rfl ?_
  refine v_x8_letterAt_RX4 C ⟨by decide, by decide⟩ (Nat.le_of_ble_eq_true rfl) dX4_readCall_25 (fun r4 σ5 _ => ?_)
  refine g_gd (fun hp6 => ?_)
  refine v_x0_set_RX4 C hp6 ⟨by decide, by decide⟩ (Nat.le_of_ble_eq_true rfl) dX4_readCall_28 (fun r7 σ8 _ => ?_)
  refine g_aload_n C 0 dX4_readCall_31 rfl rfl ?_
  refine gf_RX4_36 C  (v := gP σ8 404) dX4_readCall_32 rfl ?_
  refine g_iload_n C 1 dX4_readCall_35 rfl rfl ?_
  refine g_bipush C 9 dX4_readCall_36 (by decide) ?_
  refine g_aload_n C 0 dX4_readCall_38 rfl rfl ?_
  refine gf_RX4_22 C  dX4_readCall_39 ?_
  refine g_aload_n C 0 dX4_readCall_42 rfl rfl ?_
  refine gf_RX4_40 C  (v := gI σ8 405) dX4_readCall_43 rfl ?_
  refine v_x8_placeAt_RX4 C ⟨by decide, by decide⟩ (Nat.le_of_ble_eq_true rfl) dX4_readCall_46 (fun r9 σ10 _ => ?_)
  refine g_gd (fun hp11 => ?_)
  refine v_x0_set_RX4 C hp11 ⟨by decide, by decide⟩ (Nat.le_of_ble_eq_true rfl) dX4_readCall_49 (fun r12 σ13 _ => ?_)
  refine g_aload_n C 0 dX4_readCall_52 rfl rfl ?_
  refine g_dup C dX4_readCall_53 rfl ?_
  refine gf_RX4_40 C  (v := gI σ13 405) dX4_readCall_54 rfl ?_
  refine g_iconst C 1 dX4_readCall_57 (by decide) ?_
  refine g_iadd C dX4_readCall_58 ?_
  refine pf_RX4_40 C dX4_readCall_59 ?_
  refine g_aload_n C 0 dX4_readCall_62 rfl rfl ?_
  refine g_iconst C 4 dX4_readCall_63 (by decide) ?_
  refine v_x4_take_RX4 C ⟨by decide, by decide⟩ (Nat.le_of_ble_eq_true rfl) dX4_readCall_64 (fun r14 σ15 _ => ?_)
  refine g_if_ne C 72 dX4_readCall_67 (by decide) ?_ ?_
  · refine g_aload_n C 0 dX4_readCall_72 rfl rfl ?_
    refine g_iconst C 5 dX4_readCall_73 (by decide) ?_
    refine v_x4_seen_RX4 C ⟨by decide, by decide⟩ (Nat.le_of_ble_eq_true rfl) dX4_readCall_74 (fun r16 σ17 _ => ?_)
    refine g_if_eq C 86 dX4_readCall_77 (by decide) ?_ ?_
    · refine g_iconst C 0 dX4_readCall_86 (by decide) ?_
      refine g_istore_n C [(2, .int 0), (0, .ref (ad 4)), (1, .int a1)] dX4_readCall_87 rfl (by decide) rfl ?_
      exact g_sub [1, 2, 0] rfl (s_x4_readCall_88 C N N σ17 a1 0)
    · refine g_aload_n C 0 dX4_readCall_80 rfl rfl ?_
      refine g_iconst C 5 dX4_readCall_81 (by decide) ?_
      refine v_x4_take_RX4 C ⟨by decide, by decide⟩ (Nat.le_of_ble_eq_true rfl) dX4_readCall_82 (fun r33 σ34 _ => ?_)
      refine g_gd (fun hb9 => ?_)
      exact g_zret C (isb_nar hb9) dX4_readCall_85
  · refine g_iconst C 0 dX4_readCall_70 (by decide) ?_
    exact g_zret C rfl dX4_readCall_71
theorem c_x4_readCall {Y : Yx} {ad : Nat → Nat} {N : Nat} {σ : St} {a1 : Int32} {r : Int32} {σ' : St} (h : x4_readCall N σ a1 = some (r, σ')) : Con Y scC ad yX4_readCall cX4_readCall 4 (some .boolean) 2 48 [.ref (ad 4), .int a1] σ (outI r) σ' := con_of (by decide) rfl (Nat.le_of_ble_eq_true rfl) rfl (fun X hX C => s_x4_readCall C N σ a1) h
set_option maxRecDepth 20000 in
theorem v_x4_readCall_RX4 {X : Cx} {cc : ByteArray} {nL : Nat} {ret : Option FieldType} {fr lo : Nat} {ad : Nat → Nat} {ρ : Type} {out : ρ → Option Value} {pc : Nat} {lv : List (Nat × Value)} {rest : List Value} {σ : St} {N : Nat} {K : Int32 → St → Option (ρ × St)} {a1 : Int32} (C : Ok X cc RX4 nL ret fr lo) (hR : 2 + 1 ≤ fr ∧ 8 + (4 + 11) + 48 ≤ lo) (hcat : (rest.map fun v => v.category).sum ≤ 8) (hdg : decode cc pc = .ok (.invokevirtual 137, 3)) (k : ∀ (r : Int32) (σ' : St), x4_readCall N σ a1 = some (r, σ') → Sim X scC ad nL out (pc + 3) lv (.int r :: rest) σ' (K r σ')) : Sim X scC ad nL out pc lv (.int a1 :: .ref (ad 4) :: rest) σ (bd (x4_readCall N σ a1) K) := g_callV C (out1 := outI) (y := yX4_readCall) (n := 1) ⟨gw_749, gw_751, gw_18, gw_111, gw_752⟩ (by decide +kernel) hR (o := 4) (ci := 4) (q9 := (RX4, TX4, 10)) im_4 rfl rfl rfl (fun r σ' h => c_x4_readCall h) rfl rfl hcat hdg k

def x4_readValue (N : Nat) (σ : St) (a1 : Int32) : Option (Int32 × St) :=
  bd (x8_kindAt N σ (gI σ 405)) (fun r1 σ2 => (if r1 = 2 then bd (x4_readNameOrField N σ2 a1) (fun r4 σ5 => gd (isb r4) (some (r4, σ5))) else (if r1 = 3 then bd (x4_readCall N σ2 a1) (fun r7 σ8 => gd (isb r7) (some (r7, σ8))) else (if r1 = 17 then gd (isCd (gP σ2 404)) (bd (x0_set N σ2 (gP σ2 404) a1 4 0) (fun _ σ12 => some (1, (sI σ12 405 ((gI σ12 405) + 1))))) else (if r1 = 18 then gd (isCd (gP σ2 404)) (bd (x0_set N σ2 (gP σ2 404) a1 4 2) (fun _ σ16 => bd (x4_readName N (sI σ16 405 ((gI σ16 405) + 1)) a1 5) (fun r17 σ18 => (if r17 = 0 then some (0, σ18) else bd (x4_readName N σ18 a1 6) (fun r19 σ20 => (if r19 = 0 then some (0, σ20) else some (1, σ20))))))) else (if r1 = 19 then gd (isCd (gP σ2 404)) (bd (x0_set N σ2 (gP σ2 404) a1 4 1) (fun _ σ24 => some (1, (sI σ24 405 ((gI σ24 405) + 1))))) else bd (x8_placeAt N σ2 (gI σ2 405)) (fun r25 σ26 => bd (x4_refuse N σ26 1 r25) (fun r27 σ28 => gd (isb r27) (some (r27, σ28))))))))))
set_option maxHeartbeats 4000000 in
set_option maxRecDepth 100000 in
theorem s_x4_readValue {X : Cx} {ad : Nat → Nat} (C : Ok X cX4_readValue RX4 2 (some .boolean) 3 71) (N : Nat) (σ : St) (a1 : Int32) : Sim X scC ad 2 outI 0 [(0, .ref (ad 4)), (1, .int a1)] [] σ (x4_readValue N σ a1) := by
  unfold x4_readValue
  refine g_aload_n C 0 dX4_readValue_0 rfl rfl ?_
  refine gf_RX4_22 C  dX4_readValue_1 ?_
  refine g_aload_n C 0 dX4_readValue_4 rfl rfl ?_
  refine gf_RX4_40 C  (v := gI σ 405) dX4_readValue_5 rfl ?_
  refine v_x8_kindAt_RX4 C ⟨by decide, by decide⟩ (Nat.le_of_ble_eq_true rfl) dX4_readValue_8 (fun r1 σ2 _ => ?_)
  refine g_cs (fun h3 => ?_) (fun h3 => ?_)
  · refine g_lookup C (off := 138) 149 dX4_readValue_11 (by decide) (by rw [h3]; decide) (by decide) ?_
    refine g_aload_n C 0 dX4_readValue_149 rfl rfl ?_
    refine g_iload_n C 1 dX4_readValue_150 rfl rfl ?_
    refine v_x4_readNameOrField_RX4 C ⟨by decide, by decide⟩ (Nat.le_of_ble_eq_true rfl) dX4_readValue_151 (fun r4 σ5 _ => ?_)
    refine g_gd (fun hb9 => ?_)
    exact g_zret C (isb_nar hb9) dX4_readValue_154
  refine g_cs (fun h6 => ?_) (fun h6 => ?_)
  · refine g_lookup C (off := 144) 155 dX4_readValue_11 (by decide) (by rw [h6]; decide) (by decide) ?_
    refine g_aload_n C 0 dX4_readValue_155 rfl rfl ?_
    refine g_iload_n C 1 dX4_readValue_156 rfl rfl ?_
    refine v_x4_readCall_RX4 C ⟨by decide, by decide⟩ (Nat.le_of_ble_eq_true rfl) dX4_readValue_157 (fun r7 σ8 _ => ?_)
    refine g_gd (fun hb9 => ?_)
    exact g_zret C (isb_nar hb9) dX4_readValue_160
  refine g_cs (fun h9 => ?_) (fun h9 => ?_)
  · refine g_lookup C (off := 49) 60 dX4_readValue_11 (by decide) (by rw [h9]; decide) (by decide) ?_
    refine g_aload_n C 0 dX4_readValue_60 rfl rfl ?_
    refine gf_RX4_36 C  (v := gP σ2 404) dX4_readValue_61 rfl ?_
    refine g_iload_n C 1 dX4_readValue_64 rfl rfl ?_
    refine g_iconst C 4 dX4_readValue_65 (by decide) ?_
    refine g_iconst C 0 dX4_readValue_66 (by decide) ?_
    refine g_gd (fun hp10 => ?_)
    refine v_x0_set_RX4 C hp10 ⟨by decide, by decide⟩ (Nat.le_of_ble_eq_true rfl) dX4_readValue_67 (fun r11 σ12 _ => ?_)
    refine g_aload_n C 0 dX4_readValue_70 rfl rfl ?_
    refine g_dup C dX4_readValue_71 rfl ?_
    refine gf_RX4_40 C  (v := gI σ12 405) dX4_readValue_72 rfl ?_
    refine g_iconst C 1 dX4_readValue_75 (by decide) ?_
    refine g_iadd C dX4_readValue_76 ?_
    refine pf_RX4_40 C dX4_readValue_77 ?_
    refine g_iconst C 1 dX4_readValue_80 (by decide) ?_
    exact g_zret C rfl dX4_readValue_81
  refine g_cs (fun h13 => ?_) (fun h13 => ?_)
  · refine g_lookup C (off := 93) 104 dX4_readValue_11 (by decide) (by rw [h13]; decide) (by decide) ?_
    refine g_aload_n C 0 dX4_readValue_104 rfl rfl ?_
    refine gf_RX4_36 C  (v := gP σ2 404) dX4_readValue_105 rfl ?_
    refine g_iload_n C 1 dX4_readValue_108 rfl rfl ?_
    refine g_iconst C 4 dX4_readValue_109 (by decide) ?_
    refine g_iconst C 2 dX4_readValue_110 (by decide) ?_
    refine g_gd (fun hp14 => ?_)
    refine v_x0_set_RX4 C hp14 ⟨by decide, by decide⟩ (Nat.le_of_ble_eq_true rfl) dX4_readValue_111 (fun r15 σ16 _ => ?_)
    refine g_aload_n C 0 dX4_readValue_114 rfl rfl ?_
    refine g_dup C dX4_readValue_115 rfl ?_
    refine gf_RX4_40 C  (v := gI σ16 405) dX4_readValue_116 rfl ?_
    refine g_iconst C 1 dX4_readValue_119 (by decide) ?_
    refine g_iadd C dX4_readValue_120 ?_
    refine pf_RX4_40 C dX4_readValue_121 ?_
    refine g_aload_n C 0 dX4_readValue_124 rfl rfl ?_
    refine g_iload_n C 1 dX4_readValue_125 rfl rfl ?_
    refine g_iconst C 5 dX4_readValue_126 (by decide) ?_
    refine v_x4_readName_RX4 C ⟨by decide, by decide⟩ (Nat.le_of_ble_eq_true rfl) dX4_readValue_127 (fun r17 σ18 _ => ?_)
    refine g_if_eq C 147 dX4_readValue_130 (by decide) ?_ ?_
    · refine g_iconst C 0 dX4_readValue_147 (by decide) ?_
      exact g_zret C rfl dX4_readValue_148
    · refine g_aload_n C 0 dX4_readValue_133 rfl rfl ?_
      refine g_iload_n C 1 dX4_readValue_134 rfl rfl ?_
      refine g_bipush C 6 dX4_readValue_135 (by decide) ?_
      refine v_x4_readName_RX4 C ⟨by decide, by decide⟩ (Nat.le_of_ble_eq_true rfl) dX4_readValue_137 (fun r19 σ20 _ => ?_)
      refine g_if_eq C 147 dX4_readValue_140 (by decide) ?_ ?_
      · refine g_iconst C 0 dX4_readValue_147 (by decide) ?_
        exact g_zret C rfl dX4_readValue_148
      · refine g_iconst C 1 dX4_readValue_143 (by decide) ?_
        refine g_goto C 148 dX4_readValue_144 (by decide) ?_
        exact g_zret C rfl dX4_readValue_148
  refine g_cs (fun h21 => ?_) (fun h21 => ?_)
  · refine g_lookup C (off := 71) 82 dX4_readValue_11 (by decide) (by rw [h21]; decide) (by decide) ?_
    refine g_aload_n C 0 dX4_readValue_82 rfl rfl ?_
    refine gf_RX4_36 C  (v := gP σ2 404) dX4_readValue_83 rfl ?_
    refine g_iload_n C 1 dX4_readValue_86 rfl rfl ?_
    refine g_iconst C 4 dX4_readValue_87 (by decide) ?_
    refine g_iconst C 1 dX4_readValue_88 (by decide) ?_
    refine g_gd (fun hp22 => ?_)
    refine v_x0_set_RX4 C hp22 ⟨by decide, by decide⟩ (Nat.le_of_ble_eq_true rfl) dX4_readValue_89 (fun r23 σ24 _ => ?_)
    refine g_aload_n C 0 dX4_readValue_92 rfl rfl ?_
    refine g_dup C dX4_readValue_93 rfl ?_
    refine gf_RX4_40 C  (v := gI σ24 405) dX4_readValue_94 rfl ?_
    refine g_iconst C 1 dX4_readValue_97 (by decide) ?_
    refine g_iadd C dX4_readValue_98 ?_
    refine pf_RX4_40 C dX4_readValue_99 ?_
    refine g_iconst C 1 dX4_readValue_102 (by decide) ?_
    exact g_zret C rfl dX4_readValue_103
  have ah3 : ¬ r1.toInt = 2 := k_ne h3 (by decide)
  have bh3 : ¬ (2 : Int) = r1.toInt := fun e9 => ah3 e9.symm
  have ah6 : ¬ r1.toInt = 3 := k_ne h6 (by decide)
  have bh6 : ¬ (3 : Int) = r1.toInt := fun e9 => ah6 e9.symm
  have ah9 : ¬ r1.toInt = 17 := k_ne h9 (by decide)
  have bh9 : ¬ (17 : Int) = r1.toInt := fun e9 => ah9 e9.symm
  have ah13 : ¬ r1.toInt = 18 := k_ne h13 (by decide)
  have bh13 : ¬ (18 : Int) = r1.toInt := fun e9 => ah13 e9.symm
  have ah21 : ¬ r1.toInt = 19 := k_ne h21 (by decide)
  have bh21 : ¬ (19 : Int) = r1.toInt := fun e9 => ah21 e9.symm
  refine g_lookup C (off := 150) 161 dX4_readValue_11 (by decide) (by simp [Op.lookupswitch.offset, bh3, bh6, bh9, bh13, bh21]) (by decide) ?_
  refine g_aload_n C 0 dX4_readValue_161 rfl rfl ?_
  refine g_iconst C 1 dX4_readValue_162 (by decide) ?_
  refine g_aload_n C 0 dX4_readValue_163 rfl rfl ?_
  refine gf_RX4_22 C  dX4_readValue_164 ?_
  refine g_aload_n C 0 dX4_readValue_167 rfl rfl ?_
  refine gf_RX4_40 C  (v := gI σ2 405) dX4_readValue_168 rfl ?_
  refine v_x8_placeAt_RX4 C ⟨by decide, by decide⟩ (Nat.le_of_ble_eq_true rfl) dX4_readValue_171 (fun r25 σ26 _ => ?_)
  refine v_x4_refuse_RX4 C ⟨by decide, by decide⟩ (Nat.le_of_ble_eq_true rfl) dX4_readValue_174 (fun r27 σ28 _ => ?_)
  refine g_gd (fun hb9 => ?_)
  exact g_zret C (isb_nar hb9) dX4_readValue_177
theorem c_x4_readValue {Y : Yx} {ad : Nat → Nat} {N : Nat} {σ : St} {a1 : Int32} {r : Int32} {σ' : St} (h : x4_readValue N σ a1 = some (r, σ')) : Con Y scC ad yX4_readValue cX4_readValue 2 (some .boolean) 3 71 [.ref (ad 4), .int a1] σ (outI r) σ' := con_of (by decide) rfl (Nat.le_of_ble_eq_true rfl) rfl (fun X hX C => s_x4_readValue C N σ a1) h
set_option maxRecDepth 20000 in
theorem v_x4_readValue_RX4 {X : Cx} {cc : ByteArray} {nL : Nat} {ret : Option FieldType} {fr lo : Nat} {ad : Nat → Nat} {ρ : Type} {out : ρ → Option Value} {pc : Nat} {lv : List (Nat × Value)} {rest : List Value} {σ : St} {N : Nat} {K : Int32 → St → Option (ρ × St)} {a1 : Int32} (C : Ok X cc RX4 nL ret fr lo) (hR : 3 + 1 ≤ fr ∧ 8 + (2 + 11) + 71 ≤ lo) (hcat : (rest.map fun v => v.category).sum ≤ 8) (hdg : decode cc pc = .ok (.invokevirtual 153, 3)) (k : ∀ (r : Int32) (σ' : St), x4_readValue N σ a1 = some (r, σ') → Sim X scC ad nL out (pc + 3) lv (.int r :: rest) σ' (K r σ')) : Sim X scC ad nL out pc lv (.int a1 :: .ref (ad 4) :: rest) σ (bd (x4_readValue N σ a1) K) := g_callV C (out1 := outI) (y := yX4_readValue) (n := 1) ⟨gw_737, gw_739, gw_15, gw_111, gw_740⟩ (by decide +kernel) hR (o := 4) (ci := 4) (q9 := (RX4, TX4, 10)) im_4 rfl rfl rfl (fun r σ' h => c_x4_readValue h) rfl rfl hcat hdg k

def x4_readPut_88 (N : Nat) (σ : St) (x2 : Int32) : Option (Int32 × St) :=
  bd (x4_take N σ 10) (fun r13 σ14 => (if r13 = 0 then some (0, σ14) else bd (x4_readValue N σ14 x2) (fun r15 σ16 => (if r15 = 0 then some (0, σ16) else bd (x4_take N σ16 9) (fun r17 σ18 => (if r17 = 0 then some (0, σ18) else some (1, σ18)))))))
def x4_readPut_33 (N : Nat) (σ : St) (x1 : Int32) (t0 : Nat) (t1 : Int32) : Option (Int32 × St) :=
  gd (isCd t0) (bd (x0_add N σ t0 t1 (gI σ 407)) (fun r4 σ5 => bd (x8_letterAt N σ5 x1) (fun r6 σ7 => gd (isCd (gP σ5 404)) (bd (x0_set N σ7 (gP σ5 404) r4 1 r6) (fun _ σ10 => bd (x4_seen N σ10 11) (fun r11 σ12 => (if r11 = 0 then x4_readPut_88 N σ12 r4 else bd (x4_readUse N σ12 x1 r4 3) (fun r19 σ20 => (if r19 = 0 then some (0, σ20) else bd (x4_readField N σ20 r4 2) (fun r21 σ22 => (if r21 = 0 then some (0, σ22) else x4_readPut_88 N σ22 r4)))))))))))
def x4_readPut (N : Nat) (σ : St) : Option (Int32 × St) :=
  bd (x4_seen N (sI σ 405 ((gI σ 405) + 1)) 11) (fun r1 σ2 => (if r1 = 0 then x4_readPut_33 N σ2 (gI σ 405) (gP σ 404) 3 else x4_readPut_33 N σ2 (gI σ 405) (gP σ 404) 4))
set_option maxHeartbeats 4000000 in
set_option maxRecDepth 100000 in
theorem s_x4_readPut_88 {X : Cx} {ad : Nat → Nat} (C : Ok X cX4_readPut RX4 3 (some .boolean) 4 92) (N : Nat) (σ : St) (x2 : Int32) : Sim X scC ad 3 outI 88 [(0, .ref (ad 4)), (2, .int x2)] [] σ (x4_readPut_88 N σ x2) := by
  unfold x4_readPut_88
  refine g_aload_n C 0 dX4_readPut_88 rfl rfl ?_
  refine g_bipush C 10 dX4_readPut_89 (by decide) ?_
  refine v_x4_take_RX4 C ⟨by decide, by decide⟩ (Nat.le_of_ble_eq_true rfl) dX4_readPut_91 (fun r13 σ14 _ => ?_)
  refine g_if_eq C 118 dX4_readPut_94 (by decide) ?_ ?_
  · refine g_iconst C 0 dX4_readPut_118 (by decide) ?_
    exact g_zret C rfl dX4_readPut_119
  · refine g_aload_n C 0 dX4_readPut_97 rfl rfl ?_
    refine g_iload_n C 1 dX4_readPut_98 rfl rfl ?_
    refine v_x4_readValue_RX4 C ⟨by decide, by decide⟩ (Nat.le_of_ble_eq_true rfl) dX4_readPut_99 (fun r15 σ16 _ => ?_)
    refine g_if_eq C 118 dX4_readPut_102 (by decide) ?_ ?_
    · refine g_iconst C 0 dX4_readPut_118 (by decide) ?_
      exact g_zret C rfl dX4_readPut_119
    · refine g_aload_n C 0 dX4_readPut_105 rfl rfl ?_
      refine g_bipush C 9 dX4_readPut_106 (by decide) ?_
      refine v_x4_take_RX4 C ⟨by decide, by decide⟩ (Nat.le_of_ble_eq_true rfl) dX4_readPut_108 (fun r17 σ18 _ => ?_)
      refine g_if_eq C 118 dX4_readPut_111 (by decide) ?_ ?_
      · refine g_iconst C 0 dX4_readPut_118 (by decide) ?_
        exact g_zret C rfl dX4_readPut_119
      · refine g_iconst C 1 dX4_readPut_114 (by decide) ?_
        refine g_goto C 119 dX4_readPut_115 (by decide) ?_
        exact g_zret C rfl dX4_readPut_119
set_option maxHeartbeats 4000000 in
set_option maxRecDepth 100000 in
theorem s_x4_readPut_33 {X : Cx} {ad : Nat → Nat} (C : Ok X cX4_readPut RX4 3 (some .boolean) 4 92) (N : Nat) (σ : St) (x1 : Int32) (t0 : Nat) (t1 : Int32) : Sim X scC ad 3 outI 33 [(0, .ref (ad 4)), (1, .int x1)] [.int t1, .ref (ad t0)] σ (x4_readPut_33 N σ x1 t0 t1) := by
  unfold x4_readPut_33
  refine g_aload_n C 0 dX4_readPut_33 rfl rfl ?_
  refine gf_RX4_85 C  (v := gI σ 407) dX4_readPut_34 rfl ?_
  refine g_gd (fun hp3 => ?_)
  refine v_x0_add_RX4 C hp3 ⟨by decide, by decide⟩ (Nat.le_of_ble_eq_true rfl) dX4_readPut_37 (fun r4 σ5 _ => ?_)
  refine g_istore_n C [(2, .int r4), (0, .ref (ad 4)), (1, .int x1)] dX4_readPut_40 rfl (by decide) rfl ?_
  refine g_aload_n C 1 dX4_readPut_41 rfl rfl ?_
  refine gf_RX4_36 C  (v := gP σ5 404) dX4_readPut_42 rfl ?_
  refine g_iload_n C 0 dX4_readPut_45 rfl rfl ?_
  refine g_iconst C 1 dX4_readPut_46 (by decide) ?_
  refine g_aload_n C 1 dX4_readPut_47 rfl rfl ?_
  refine gf_RX4_22 C  dX4_readPut_48 ?_
  refine g_iload_n C 2 dX4_readPut_51 rfl rfl ?_
  refine v_x8_letterAt_RX4 C ⟨by decide, by decide⟩ (Nat.le_of_ble_eq_true rfl) dX4_readPut_52 (fun r6 σ7 _ => ?_)
  refine g_gd (fun hp8 => ?_)
  refine v_x0_set_RX4 C hp8 ⟨by decide, by decide⟩ (Nat.le_of_ble_eq_true rfl) dX4_readPut_55 (fun r9 σ10 _ => ?_)
  refine g_aload_n C 1 dX4_readPut_58 rfl rfl ?_
  refine g_bipush C 11 dX4_readPut_59 (by decide) ?_
  refine v_x4_seen_RX4 C ⟨by decide, by decide⟩ (Nat.le_of_ble_eq_true rfl) dX4_readPut_61 (fun r11 σ12 _ => ?_)
  refine g_if_eq C 88 dX4_readPut_64 (by decide) ?_ ?_
  · exact g_sub [1, 0] rfl (s_x4_readPut_88 C N σ12 r4)
  · refine g_aload_n C 1 dX4_readPut_67 rfl rfl ?_
    refine g_iload_n C 2 dX4_readPut_68 rfl rfl ?_
    refine g_iload_n C 0 dX4_readPut_69 rfl rfl ?_
    refine g_iconst C 3 dX4_readPut_70 (by decide) ?_
    refine v_x4_readUse_RX4 C ⟨by decide, by decide⟩ (Nat.le_of_ble_eq_true rfl) dX4_readPut_71 (fun r19 σ20 _ => ?_)
    refine g_if_eq C 86 dX4_readPut_74 (by decide) ?_ ?_
    · refine g_iconst C 0 dX4_readPut_86 (by decide) ?_
      exact g_zret C rfl dX4_readPut_87
    · refine g_aload_n C 1 dX4_readPut_77 rfl rfl ?_
      refine g_iload_n C 0 dX4_readPut_78 rfl rfl ?_
      refine g_iconst C 2 dX4_readPut_79 (by decide) ?_
      refine v_x4_readField_RX4 C ⟨by decide, by decide⟩ (Nat.le_of_ble_eq_true rfl) dX4_readPut_80 (fun r21 σ22 _ => ?_)
      refine g_if_ne C 88 dX4_readPut_83 (by decide) ?_ ?_
      · exact g_sub [1, 0] rfl (s_x4_readPut_88 C N σ22 r4)
      · refine g_iconst C 0 dX4_readPut_86 (by decide) ?_
        exact g_zret C rfl dX4_readPut_87
set_option maxHeartbeats 4000000 in
set_option maxRecDepth 100000 in
theorem s_x4_readPut {X : Cx} {ad : Nat → Nat} (C : Ok X cX4_readPut RX4 3 (some .boolean) 4 92) (N : Nat) (σ : St) : Sim X scC ad 3 outI 0 [(0, .ref (ad 4))] [] σ (x4_readPut N σ) := by
  unfold x4_readPut
  refine g_aload_n C 0 dX4_readPut_0 rfl rfl ?_
  refine gf_RX4_40 C  (v := gI σ 405) dX4_readPut_1 rfl ?_
  refine g_istore_n C [(1, .int (gI σ 405)), (0, .ref (ad 4))] dX4_readPut_4 rfl (by decide) rfl ?_
  refine g_aload_n C 1 dX4_readPut_5 rfl rfl ?_
  refine g_dup C dX4_readPut_6 rfl ?_
  refine gf_RX4_40 C  (v := gI σ 405) dX4_readPut_7 rfl ?_
  refine g_iconst C 1 dX4_readPut_10 (by decide) ?_
  refine g_iadd C dX4_readPut_11 ?_
  refine pf_RX4_40 C dX4_readPut_12 ?_
  refine g_aload_n C 1 dX4_readPut_15 rfl rfl ?_
  refine gf_RX4_36 C  (v := gP σ 404) dX4_readPut_16 rfl ?_
  refine g_aload_n C 1 dX4_readPut_19 rfl rfl ?_
  refine g_bipush C 11 dX4_readPut_20 (by decide) ?_
  refine v_x4_seen_RX4 C ⟨by decide, by decide⟩ (Nat.le_of_ble_eq_true rfl) dX4_readPut_22 (fun r1 σ2 _ => ?_)
  refine g_if_eq C 32 dX4_readPut_25 (by decide) ?_ ?_
  · refine g_iconst C 3 dX4_readPut_32 (by decide) ?_
    exact g_sub [1, 0] rfl (s_x4_readPut_33 C N σ2 (gI σ 405) (gP σ 404) 3)
  · refine g_iconst C 4 dX4_readPut_28 (by decide) ?_
    refine g_goto C 33 dX4_readPut_29 (by decide) ?_
    exact g_sub [1, 0] rfl (s_x4_readPut_33 C N σ2 (gI σ 405) (gP σ 404) 4)
theorem c_x4_readPut {Y : Yx} {ad : Nat → Nat} {N : Nat} {σ : St} {r : Int32} {σ' : St} (h : x4_readPut N σ = some (r, σ')) : Con Y scC ad yX4_readPut cX4_readPut 3 (some .boolean) 4 92 [.ref (ad 4)] σ (outI r) σ' := con_of (by decide) rfl (Nat.le_of_ble_eq_true rfl) rfl (fun X hX C => s_x4_readPut C N σ) h
set_option maxRecDepth 20000 in
theorem v_x4_readPut_RX4 {X : Cx} {cc : ByteArray} {nL : Nat} {ret : Option FieldType} {fr lo : Nat} {ad : Nat → Nat} {ρ : Type} {out : ρ → Option Value} {pc : Nat} {lv : List (Nat × Value)} {rest : List Value} {σ : St} {N : Nat} {K : Int32 → St → Option (ρ × St)} (C : Ok X cc RX4 nL ret fr lo) (hR : 4 + 1 ≤ fr ∧ 8 + (3 + 11) + 92 ≤ lo) (hcat : (rest.map fun v => v.category).sum ≤ 8) (hdg : decode cc pc = .ok (.invokevirtual 134, 3)) (k : ∀ (r : Int32) (σ' : St), x4_readPut N σ = some (r, σ') → Sim X scC ad nL out (pc + 3) lv (.int r :: rest) σ' (K r σ')) : Sim X scC ad nL out pc lv (.ref (ad 4) :: rest) σ (bd (x4_readPut N σ) K) := g_callV C (out1 := outI) (y := yX4_readPut) (n := 0) ⟨gw_721, gw_723, gw_12, gw_111, gw_724⟩ (by decide +kernel) hR (o := 4) (ci := 4) (q9 := (RX4, TX4, 10)) im_4 rfl rfl rfl (fun r σ' h => c_x4_readPut h) rfl rfl hcat hdg k
