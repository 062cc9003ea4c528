def x0_set (N : Nat) (σ : St) (a0 : Nat) (a1 : Int32) (a2 : Int32) (a3 : Int32) : Option (Unit × St) :=
  (if a1 < 0 then some ((), σ) else gd (isCd a0) ((if (gI σ (100 * a0 + 1)) ≤ a1 then some ((), σ) else (if ((a1 * 12) + a2) < 0 then some ((), σ) else (if 3648 ≤ ((a1 * 12) + a2) then some ((), σ) else gd (ib ((a1 * 12) + a2) 3648) (some ((), (sA σ (a0 + 1) (((a1 * 12) + a2).toNatClampNeg) a3))))))))
set_option maxHeartbeats 4000000 in
set_option maxRecDepth 100000 in
theorem s_x0_set {X : Cx} {ad : Nat → Nat} (C : Ok X cX0_set RX0 5 none 0 0) (N : Nat) (σ : St) (a0 : Nat) (a1 : Int32) (a2 : Int32) (a3 : Int32) : Sim X scC ad 5 outV 0 [(0, .ref (ad a0)), (1, .int a1), (2, .int a2), (3, .int a3)] [] σ (x0_set N σ a0 a1 a2 a3) := by
  unfold x0_set
  refine g_iload_n C 1 dX0_set_0 rfl rfl ?_
  refine g_bipush C 12 dX0_set_1 (by decide) ?_
  refine g_imul C dX0_set_3 ?_
  refine g_iload_n C 2 dX0_set_4 rfl rfl ?_
  refine g_iadd C dX0_set_5 ?_
  refine g_istore C [(4, .int ((a1 * 12) + a2)), (0, .ref (ad a0)), (1, .int a1), (2, .int a2), (3, .int a3)] dX0_set_6 (by decide) rfl ?_
  refine g_iload_n C 2 dX0_set_8 rfl rfl ?_
  refine g_if_lt C 43 dX0_set_9 (by decide) ?_ ?_
  · exact g_vret C dX0_set_43
  · refine g_iload_n C 2 dX0_set_12 rfl rfl ?_
    refine g_aload_n C 1 dX0_set_13 rfl rfl ?_
    refine g_gd (fun hp1 => ?_)
    refine gf_RX0_15 C hp1 (v := gI σ (100 * a0 + 1)) dX0_set_14 rfl ?_
    refine g_icmp_ge C 43 dX0_set_17 (by decide) ?_ ?_
    · exact g_vret C dX0_set_43
    · refine g_iload C 0 dX0_set_20 rfl ?_
      refine g_if_lt C 43 dX0_set_22 (by decide) ?_ ?_
      · exact g_vret C dX0_set_43
      · refine g_iload C 0 dX0_set_25 rfl ?_
        refine g_aload_n C 1 dX0_set_27 rfl rfl ?_
        refine gf_RX0_11 C hp1 dX0_set_28 ?_
        refine ca_lenI C (j := a0 + 1) 3648 (cd_ia hp1) (by rw [(cd_il hp1)]; decide) dX0_set_31 ?_
        refine g_icmp_ge C 43 dX0_set_32 (by decide) ?_ ?_
        · exact g_vret C dX0_set_43
        · refine g_aload_n C 1 dX0_set_35 rfl rfl ?_
          refine gf_RX0_11 C hp1 dX0_set_36 ?_
          refine g_iload C 0 dX0_set_39 rfl ?_
          refine g_iload_n C 4 dX0_set_41 rfl rfl ?_
          refine ca_stI C (j := a0 + 1) (cd_ia hp1) (cd_il hp1) dX0_set_42 ?_
          exact g_vret C dX0_set_43
theorem c_x0_set {Y : Yx} {ad : Nat → Nat} {N : Nat} {σ : St} {a0 : Nat} {a1 : Int32} {a2 : Int32} {a3 : Int32} {r : Unit} {σ' : St} (h : x0_set N σ a0 a1 a2 a3 = some (r, σ')) : Con Y scC ad yX0_set cX0_set 5 none 0 0 [.ref (ad a0), .int a1, .int a2, .int a3] σ (outV r) σ' := con_of (by decide) rfl (Nat.le_of_ble_eq_true rfl) rfl (fun X hX C => s_x0_set C N σ a0 a1 a2 a3) h
set_option maxRecDepth 20000 in
theorem v_x0_set_RX0 {X : Cx} {cc : ByteArray} {nL : Nat} {ret : Option FieldType} {fr lo : Nat} {ad : Nat → Nat} {ρ : Type} {out : ρ → Option Value} {pc : Nat} {lv : List (Nat × Value)} {rest : List Value} {σ : St} {N : Nat} {K : Unit → St → Option (ρ × St)} {a0 : Nat} {a1 : Int32} {a2 : Int32} {a3 : Int32} (C : Ok X cc RX0 nL ret fr lo) (hp : isCd a0 = true) (hR : 0 + 1 ≤ fr ∧ 8 + (5 + 11) + 0 ≤ lo) (hcat : (rest.map fun v => v.category).sum ≤ 8) (hdg : decode cc pc = .ok (.invokevirtual 19, 3)) (k : ∀ (r : Unit) (σ' : St), x0_set N σ a0 a1 a2 a3 = some (r, σ') → Sim X scC ad nL out (pc + 3) lv rest σ' (K r σ')) : Sim X scC ad nL out pc lv (.int a3 :: .int a2 :: .int a1 :: .ref (ad a0) :: rest) σ (bd (x0_set N σ a0 a1 a2 a3) K) := g_callV C (out1 := outV) (y := yX0_set) (n := 3) ⟨gw_708, gw_709, gw_710, gw_110, gw_711⟩ (by decide +kernel) hR (o := a0) (ci := 0) (q9 := (RX0, TX0, 2)) (cd_in hp) (cd_kd hp) rfl rfl (fun r σ' h => c_x0_set h) rfl rfl hcat hdg k
set_option maxRecDepth 20000 in
theorem v_x0_set_RX4 {X : Cx} {cc : ByteArray} {nL : Nat} {ret : Option FieldType} {fr lo : Nat} {ad : Nat → Nat} {ρ : Type} {out : ρ → Option Value} {pc : Nat} {lv : List (Nat × Value)} {rest : List Value} {σ : St} {N : Nat} {K : Unit → St → Option (ρ × St)} {a0 : Nat} {a1 : Int32} {a2 : Int32} {a3 : Int32} (C : Ok X cc RX4 nL ret fr lo) (hp : isCd a0 = true) (hR : 0 + 1 ≤ fr ∧ 8 + (5 + 11) + 0 ≤ lo) (hcat : (rest.map fun v => v.category).sum ≤ 8) (hdg : decode cc pc = .ok (.invokevirtual 124, 3)) (k : ∀ (r : Unit) (σ' : St), x0_set N σ a0 a1 a2 a3 = some (r, σ') → Sim X scC ad nL out (pc + 3) lv rest σ' (K r σ')) : Sim X scC ad nL out pc lv (.int a3 :: .int a2 :: .int a1 :: .ref (ad a0) :: rest) σ (bd (x0_set N σ a0 a1 a2 a3) K) := g_callV C (out1 := outV) (y := yX0_set) (n := 3) ⟨gw_712, gw_709, gw_710, gw_110, gw_711⟩ (by decide +kernel) hR (o := a0) (ci := 0) (q9 := (RX0, TX0, 2)) (cd_in hp) (cd_kd hp) rfl rfl (fun r σ' h => c_x0_set h) rfl rfl hcat hdg k

def x0_add_52 (N : Nat) (σ : St) (x0 : Nat) (x1 : Int32) (x2 : Int32) (x3 : Int32) : Option (Int32 × St) :=
  gd (isCd x0) (bd (x0_set N σ x0 x3 0 x1) (fun _ σ4 => bd (x0_set N σ4 x0 x3 11 x2) (fun _ σ6 => some (x3, σ6))))
def x0_add_31_b (N : Nat) (rec31 : St → Nat → Int32 → Int32 → Int32 → Int32 → Option (Int32 × St)) (σ : St) (x0 : Nat) (x1 : Int32) (x2 : Int32) (x3 : Int32) (x4 : Int32) : Option (Int32 × St) :=
  (if 12 ≤ x4 then x0_add_52 N σ x0 x1 x2 x3 else gd (isCd x0) (bd (x0_set N σ x0 x3 x4 0) (fun _ σ9 => rec31 σ9 x0 x1 x2 x3 (x4 + 1))))
def x0_add_31 (N : Nat) : Nat → St → Nat → Int32 → Int32 → Int32 → Int32 → Option (Int32 × St)
  | 0 => fun _ _ _ _ _ _ => none
  | n + 1 => fun σ x0 x1 x2 x3 x4 => x0_add_31_b N (x0_add_31 N n) σ x0 x1 x2 x3 x4
def x0_add (N : Nat) (σ : St) (a0 : Nat) (a1 : Int32) (a2 : Int32) : Option (Int32 × St) :=
  gd (isCd a0) ((if (gI σ (100 * a0 + 1)) < 0 then some ((-1), σ) else (if (gI σ (100 * a0 + 1)) < 304 then x0_add_31 N N (sI σ (100 * a0 + 1) ((gI σ (100 * a0 + 1)) + 1)) a0 a1 a2 (gI σ (100 * a0 + 1)) 0 else some ((-1), σ))))
set_option maxHeartbeats 4000000 in
set_option maxRecDepth 100000 in
theorem s_x0_add_52 {X : Cx} {ad : Nat → Nat} (C : Ok X cX0_add RX0 5 (some .int) 1 24) (N : Nat) (σ : St) (x0 : Nat) (x1 : Int32) (x2 : Int32) (x3 : Int32) : Sim X scC ad 5 outI 52 [(0, .ref (ad x0)), (1, .int x1), (2, .int x2), (3, .int x3)] [] σ (x0_add_52 N σ x0 x1 x2 x3) := by
  unfold x0_add_52
  refine g_aload_n C 0 dX0_add_52 rfl rfl ?_
  refine g_iload_n C 3 dX0_add_53 rfl rfl ?_
  refine g_iconst C 0 dX0_add_54 (by decide) ?_
  refine g_iload_n C 1 dX0_add_55 rfl rfl ?_
  refine g_gd (fun hp2 => ?_)
  refine v_x0_set_RX0 C hp2 ⟨by decide, by decide⟩ (Nat.le_of_ble_eq_true rfl) dX0_add_56 (fun r3 σ4 _ => ?_)
  refine g_aload_n C 0 dX0_add_59 rfl rfl ?_
  refine g_iload_n C 3 dX0_add_60 rfl rfl ?_
  refine g_bipush C 11 dX0_add_61 (by decide) ?_
  refine g_iload_n C 2 dX0_add_63 rfl rfl ?_
  refine v_x0_set_RX0 C hp2 ⟨by decide, by decide⟩ (Nat.le_of_ble_eq_true rfl) dX0_add_64 (fun r5 σ6 _ => ?_)
  refine g_iload_n C 3 dX0_add_67 rfl rfl ?_
  exact g_iret C dX0_add_68
set_option maxHeartbeats 4000000 in
set_option maxRecDepth 100000 in
theorem s_x0_add_31_b {X : Cx} {ad : Nat → Nat} (C : Ok X cX0_add RX0 5 (some .int) 1 24) (N : Nat) {rec31 : St → Nat → Int32 → Int32 → Int32 → Int32 → Option (Int32 × St)} (hrec31 : ∀ (σ : St) (x0 : Nat) (x1 : Int32) (x2 : Int32) (x3 : Int32) (x4 : Int32), Sim X scC ad 5 outI 31 [(0, .ref (ad x0)), (1, .int x1), (2, .int x2), (3, .int x3), (4, .int x4)] [] σ (rec31 σ x0 x1 x2 x3 x4)) (σ : St) (x0 : Nat) (x1 : Int32) (x2 : Int32) (x3 : Int32) (x4 : Int32) : Sim X scC ad 5 outI 31 [(0, .ref (ad x0)), (1, .int x1), (2, .int x2), (3, .int x3), (4, .int x4)] [] σ (x0_add_31_b N rec31 σ x0 x1 x2 x3 x4) := by
  unfold x0_add_31_b
  refine g_iload C 4 dX0_add_31 rfl ?_
  refine g_bipush C 12 dX0_add_33 (by decide) ?_
  refine g_icmp_ge C 52 dX0_add_35 (by decide) ?_ ?_
  · exact g_sub [0, 1, 2, 3] rfl (s_x0_add_52 C N σ x0 x1 x2 x3)
  · refine g_aload_n C 0 dX0_add_38 rfl rfl ?_
    refine g_iload_n C 3 dX0_add_39 rfl rfl ?_
    refine g_iload C 4 dX0_add_40 rfl ?_
    refine g_iconst C 0 dX0_add_42 (by decide) ?_
    refine g_gd (fun hp7 => ?_)
    refine v_x0_set_RX0 C hp7 ⟨by decide, by decide⟩ (Nat.le_of_ble_eq_true rfl) dX0_add_43 (fun r8 σ9 _ => ?_)
    refine g_iinc C (x4 + 1) 4 [(4, .int (x4 + 1)), (0, .ref (ad x0)), (1, .int x1), (2, .int x2), (3, .int x3)] dX0_add_46 rfl rfl (by decide) rfl ?_
    refine g_goto C 31 dX0_add_49 (by decide) ?_
    exact g_sub [1, 2, 3, 4, 0] rfl (hrec31 σ9 x0 x1 x2 x3 (x4 + 1))
set_option maxHeartbeats 4000000 in
set_option maxRecDepth 100000 in
theorem s_x0_add_31 {X : Cx} {ad : Nat → Nat} (C : Ok X cX0_add RX0 5 (some .int) 1 24) (N : Nat) : ∀ (n : Nat) (σ : St) (x0 : Nat) (x1 : Int32) (x2 : Int32) (x3 : Int32) (x4 : Int32), Sim X scC ad 5 outI 31 [(0, .ref (ad x0)), (1, .int x1), (2, .int x2), (3, .int x3), (4, .int x4)] [] σ (x0_add_31 N n σ x0 x1 x2 x3 x4) := by
  intro n
  induction n with
  | zero => intro σ x0 x1 x2 x3 x4; exact g_none
  | succ n ih => intro σ x0 x1 x2 x3 x4; exact s_x0_add_31_b C N ih σ x0 x1 x2 x3 x4
set_option maxHeartbeats 4000000 in
set_option maxRecDepth 100000 in
theorem s_x0_add {X : Cx} {ad : Nat → Nat} (C : Ok X cX0_add RX0 5 (some .int) 1 24) (N : Nat) (σ : St) (a0 : Nat) (a1 : Int32) (a2 : Int32) : Sim X scC ad 5 outI 0 [(0, .ref (ad a0)), (1, .int a1), (2, .int a2)] [] σ (x0_add N σ a0 a1 a2) := by
  unfold x0_add
  refine g_aload_n C 0 dX0_add_0 rfl rfl ?_
  refine g_gd (fun hp1 => ?_)
  refine gf_RX0_15 C hp1 (v := gI σ (100 * a0 + 1)) dX0_add_1 rfl ?_
  refine g_istore_n C [(3, .int (gI σ (100 * a0 + 1))), (0, .ref (ad a0)), (1, .int a1), (2, .int a2)] dX0_add_4 rfl (by decide) rfl ?_
  refine g_iload_n C 0 dX0_add_5 rfl rfl ?_
  refine g_if_lt C 16 dX0_add_6 (by decide) ?_ ?_
  · refine g_iconst C (-1) dX0_add_16 (by decide) ?_
    exact g_iret C dX0_add_17
  · refine g_iload_n C 0 dX0_add_9 rfl rfl ?_
    refine g_sipush C 304 dX0_add_10 (by decide) ?_
    refine g_icmp_lt C 18 dX0_add_13 (by decide) ?_ ?_
    · refine g_aload_n C 1 dX0_add_18 rfl rfl ?_
      refine g_dup C dX0_add_19 rfl ?_
      refine gf_RX0_15 C hp1 (v := gI σ (100 * a0 + 1)) dX0_add_20 rfl ?_
      refine g_iconst C 1 dX0_add_23 (by decide) ?_
      refine g_iadd C dX0_add_24 ?_
      refine pf_RX0_15 C hp1 dX0_add_25 ?_
      refine g_iconst C 0 dX0_add_28 (by decide) ?_
      refine g_istore C [(4, .int 0), (3, .int (gI σ (100 * a0 + 1))), (0, .ref (ad a0)), (1, .int a1), (2, .int a2)] dX0_add_29 (by decide) rfl ?_
      exact g_sub [2, 3, 4, 1, 0] rfl (s_x0_add_31 C N N (sI σ (100 * a0 + 1) ((gI σ (100 * a0 + 1)) + 1)) a0 a1 a2 (gI σ (100 * a0 + 1)) 0)
    · refine g_iconst C (-1) dX0_add_16 (by decide) ?_
      exact g_iret C dX0_add_17
theorem c_x0_add {Y : Yx} {ad : Nat → Nat} {N : Nat} {σ : St} {a0 : Nat} {a1 : Int32} {a2 : Int32} {r : Int32} {σ' : St} (h : x0_add N σ a0 a1 a2 = some (r, σ')) : Con Y scC ad yX0_add cX0_add 5 (some .int) 1 24 [.ref (ad a0), .int a1, .int a2] σ (outI r) σ' := con_of (by decide) rfl (Nat.le_of_ble_eq_true rfl) rfl (fun X hX C => s_x0_add C N σ a0 a1 a2) h
set_option maxRecDepth 20000 in
theorem v_x0_add_RX4 {X : Cx} {cc : ByteArray} {nL : Nat} {ret : Option FieldType} {fr lo : Nat} {ad : Nat → Nat} {ρ : Type} {out : ρ → Option Value} {pc : Nat} {lv : List (Nat × Value)} {rest : List Value} {σ : St} {N : Nat} {K : Int32 → St → Option (ρ × St)} {a0 : Nat} {a1 : Int32} {a2 : Int32} (C : Ok X cc RX4 nL ret fr lo) (hp : isCd a0 = true) (hR : 1 + 1 ≤ fr ∧ 8 + (5 + 11) + 24 ≤ lo) (hcat : (rest.map fun v => v.category).sum ≤ 8) (hdg : decode cc pc = .ok (.invokevirtual 120, 3)) (k : ∀ (r : Int32) (σ' : St), x0_add N σ a0 a1 a2 = some (r, σ') → Sim X scC ad nL out (pc + 3) lv (.int r :: rest) σ' (K r σ')) : Sim X scC ad nL out pc lv (.int a2 :: .int a1 :: .ref (ad a0) :: rest) σ (bd (x0_add N σ a0 a1 a2) K) := g_callV C (out1 := outI) (y := yX0_add) (n := 2) ⟨gw_704, gw_705, gw_706, gw_110, gw_707⟩ (by decide +kernel) hR (o := a0) (ci := 0) (q9 := (RX0, TX0, 2)) (cd_in hp) (cd_kd hp) rfl rfl (fun r σ' h => c_x0_add h) rfl rfl hcat hdg k

def x0_get (N : Nat) (σ : St) (a0 : Nat) (a1 : Int32) (a2 : Int32) : Option (Int32 × St) :=
  (if a1 < 0 then some (0, σ) else gd (isCd a0) ((if (gI σ (100 * a0 + 1)) ≤ a1 then some (0, σ) else (if ((a1 * 12) + a2) < 0 then some (0, σ) else (if 3648 ≤ ((a1 * 12) + a2) then some (0, σ) else gd (ib ((a1 * 12) + a2) 3648) (some (gA σ (a0 + 1) (((a1 * 12) + a2).toNatClampNeg), σ)))))))
set_option maxHeartbeats 4000000 in
set_option maxRecDepth 100000 in
theorem s_x0_get {X : Cx} {ad : Nat → Nat} (C : Ok X cX0_get RX0 4 (some .int) 0 0) (N : Nat) (σ : St) (a0 : Nat) (a1 : Int32) (a2 : Int32) : Sim X scC ad 4 outI 0 [(0, .ref (ad a0)), (1, .int a1), (2, .int a2)] [] σ (x0_get N σ a0 a1 a2) := by
  unfold x0_get
  refine g_iload_n C 1 dX0_get_0 rfl rfl ?_
  refine g_bipush C 12 dX0_get_1 (by decide) ?_
  refine g_imul C dX0_get_3 ?_
  refine g_iload_n C 2 dX0_get_4 rfl rfl ?_
  refine g_iadd C dX0_get_5 ?_
  refine g_istore_n C [(3, .int ((a1 * 12) + a2)), (0, .ref (ad a0)), (1, .int a1), (2, .int a2)] dX0_get_6 rfl (by decide) rfl ?_
  refine g_iload_n C 2 dX0_get_7 rfl rfl ?_
  refine g_if_lt C 41 dX0_get_8 (by decide) ?_ ?_
  · refine g_iconst C 0 dX0_get_41 (by decide) ?_
    exact g_iret C dX0_get_42
  · refine g_iload_n C 2 dX0_get_11 rfl rfl ?_
    refine g_aload_n C 1 dX0_get_12 rfl rfl ?_
    refine g_gd (fun hp1 => ?_)
    refine gf_RX0_15 C hp1 (v := gI σ (100 * a0 + 1)) dX0_get_13 rfl ?_
    refine g_icmp_ge C 41 dX0_get_16 (by decide) ?_ ?_
    · refine g_iconst C 0 dX0_get_41 (by decide) ?_
      exact g_iret C dX0_get_42
    · refine g_iload_n C 0 dX0_get_19 rfl rfl ?_
      refine g_if_lt C 41 dX0_get_20 (by decide) ?_ ?_
      · refine g_iconst C 0 dX0_get_41 (by decide) ?_
        exact g_iret C dX0_get_42
      · refine g_iload_n C 0 dX0_get_23 rfl rfl ?_
        refine g_aload_n C 1 dX0_get_24 rfl rfl ?_
        refine gf_RX0_11 C hp1 dX0_get_25 ?_
        refine ca_lenI C (j := a0 + 1) 3648 (cd_ia hp1) (by rw [(cd_il hp1)]; decide) dX0_get_28 ?_
        refine g_icmp_ge C 41 dX0_get_29 (by decide) ?_ ?_
        · refine g_iconst C 0 dX0_get_41 (by decide) ?_
          exact g_iret C dX0_get_42
        · refine g_aload_n C 1 dX0_get_32 rfl rfl ?_
          refine gf_RX0_11 C hp1 dX0_get_33 ?_
          refine g_iload_n C 0 dX0_get_36 rfl rfl ?_
          refine ca_ldI C (j := a0 + 1) (v := gA σ (a0 + 1) (((a1 * 12) + a2).toNatClampNeg)) (cd_ia hp1) (cd_il hp1) dX0_get_37 rfl ?_
          refine g_goto C 42 dX0_get_38 (by decide) ?_
          exact g_iret C dX0_get_42
theorem c_x0_get {Y : Yx} {ad : Nat → Nat} {N : Nat} {σ : St} {a0 : Nat} {a1 : Int32} {a2 : Int32} {r : Int32} {σ' : St} (h : x0_get N σ a0 a1 a2 = some (r, σ')) : Con Y scC ad yX0_get cX0_get 4 (some .int) 0 0 [.ref (ad a0), .int a1, .int a2] σ (outI r) σ' := con_of (by decide) rfl (Nat.le_of_ble_eq_true rfl) rfl (fun X hX C => s_x0_get C N σ a0 a1 a2) h
set_option maxRecDepth 20000 in
theorem v_x0_get_RX0 {X : Cx} {cc : ByteArray} {nL : Nat} {ret : Option FieldType} {fr lo : Nat} {ad : Nat → Nat} {ρ : Type} {out : ρ → Option Value} {pc : Nat} {lv : List (Nat × Value)} {rest : List Value} {σ : St} {N : Nat} {K : Int32 → St → Option (ρ × St)} {a0 : Nat} {a1 : Int32} {a2 : Int32} (C : Ok X cc RX0 nL ret fr lo) (hp : isCd a0 = true) (hR : 0 + 1 ≤ fr ∧ 8 + (4 + 11) + 0 ≤ lo) (hcat : (rest.map fun v => v.category).sum ≤ 8) (hdg : decode cc pc = .ok (.invokevirtual 23, 3)) (k : ∀ (r : Int32) (σ' : St), x0_get N σ a0 a1 a2 = some (r, σ') → Sim X scC ad nL out (pc + 3) lv (.int r :: rest) σ' (K r σ')) : Sim X scC ad nL out pc lv (.int a2 :: .int a1 :: .ref (ad a0) :: rest) σ (bd (x0_get N σ a0 a1 a2) K) := g_callV C (out1 := outI) (y := yX0_get) (n := 2) ⟨gw_757, gw_758, gw_759, gw_110, gw_760⟩ (by decide +kernel) hR (o := a0) (ci := 0) (q9 := (RX0, TX0, 2)) (cd_in hp) (cd_kd hp) rfl rfl (fun r σ' h => c_x0_get h) rfl rfl hcat hdg k
set_option maxRecDepth 20000 in
theorem v_x0_get_RX1 {X : Cx} {cc : ByteArray} {nL : Nat} {ret : Option FieldType} {fr lo : Nat} {ad : Nat → Nat} {ρ : Type} {out : ρ → Option Value} {pc : Nat} {lv : List (Nat × Value)} {rest : List Value} {σ : St} {N : Nat} {K : Int32 → St → Option (ρ × St)} {a0 : Nat} {a1 : Int32} {a2 : Int32} (C : Ok X cc RX1 nL ret fr lo) (hp : isCd a0 = true) (hR : 0 + 1 ≤ fr ∧ 8 + (4 + 11) + 0 ≤ lo) (hcat : (rest.map fun v => v.category).sum ≤ 8) (hdg : decode cc pc = .ok (.invokevirtual 141, 3)) (k : ∀ (r : Int32) (σ' : St), x0_get N σ a0 a1 a2 = some (r, σ') → Sim X scC ad nL out (pc + 3) lv (.int r :: rest) σ' (K r σ')) : Sim X scC ad nL out pc lv (.int a2 :: .int a1 :: .ref (ad a0) :: rest) σ (bd (x0_get N σ a0 a1 a2) K) := g_callV C (out1 := outI) (y := yX0_get) (n := 2) ⟨gw_870, gw_758, gw_759, gw_110, gw_760⟩ (by decide +kernel) hR (o := a0) (ci := 0) (q9 := (RX0, TX0, 2)) (cd_in hp) (cd_kd hp) rfl rfl (fun r σ' h => c_x0_get h) rfl rfl hcat hdg k
set_option maxRecDepth 20000 in
theorem v_x0_get_RX4 {X : Cx} {cc : ByteArray} {nL : Nat} {ret : Option FieldType} {fr lo : Nat} {ad : Nat → Nat} {ρ : Type} {out : ρ → Option Value} {pc : Nat} {lv : List (Nat × Value)} {rest : List Value} {σ : St} {N : Nat} {K : Int32 → St → Option (ρ × St)} {a0 : Nat} {a1 : Int32} {a2 : Int32} (C : Ok X cc RX4 nL ret fr lo) (hp : isCd a0 = true) (hR : 0 + 1 ≤ fr ∧ 8 + (4 + 11) + 0 ≤ lo) (hcat : (rest.map fun v => v.category).sum ≤ 8) (hdg : decode cc pc = .ok (.invokevirtual 181, 3)) (k : ∀ (r : Int32) (σ' : St), x0_get N σ a0 a1 a2 = some (r, σ') → Sim X scC ad nL out (pc + 3) lv (.int r :: rest) σ' (K r σ')) : Sim X scC ad nL out pc lv (.int a2 :: .int a1 :: .ref (ad a0) :: rest) σ (bd (x0_get N σ a0 a1 a2) K) := g_callV C (out1 := outI) (y := yX0_get) (n := 2) ⟨gw_782, gw_758, gw_759, gw_110, gw_760⟩ (by decide +kernel) hR (o := a0) (ci := 0) (q9 := (RX0, TX0, 2)) (cd_in hp) (cd_kd hp) rfl rfl (fun r σ' h => c_x0_get h) rfl rfl hcat hdg k
set_option maxRecDepth 20000 in
theorem v_x0_get_RX6 {X : Cx} {cc : ByteArray} {nL : Nat} {ret : Option FieldType} {fr lo : Nat} {ad : Nat → Nat} {ρ : Type} {out : ρ → Option Value} {pc : Nat} {lv : List (Nat × Value)} {rest : List Value} {σ : St} {N : Nat} {K : Int32 → St → Option (ρ × St)} {a0 : Nat} {a1 : Int32} {a2 : Int32} (C : Ok X cc RX6 nL ret fr lo) (hp : isCd a0 = true) (hR : 0 + 1 ≤ fr ∧ 8 + (4 + 11) + 0 ≤ lo) (hcat : (rest.map fun v => v.category).sum ≤ 8) (hdg : decode cc pc = .ok (.invokevirtual 110, 3)) (k : ∀ (r : Int32) (σ' : St), x0_get N σ a0 a1 a2 = some (r, σ') → Sim X scC ad nL out (pc + 3) lv (.int r :: rest) σ' (K r σ')) : Sim X scC ad nL out pc lv (.int a2 :: .int a1 :: .ref (ad a0) :: rest) σ (bd (x0_get N σ a0 a1 a2) K) := g_callV C (out1 := outI) (y := yX0_get) (n := 2) ⟨gw_958, gw_758, gw_759, gw_110, gw_760⟩ (by decide +kernel) hR (o := a0) (ci := 0) (q9 := (RX0, TX0, 2)) (cd_in hp) (cd_kd hp) rfl rfl (fun r σ' h => c_x0_get h) rfl rfl hcat hdg k

def x0_addArgument (N : Nat) (σ : St) (a0 : Nat) (a1 : Int32) (a2 : Int32) : Option (Unit × St) :=
  gd (isCd a0) (bd (x0_get N σ a0 a1 8) (fun r2 σ3 => bd (x0_set N σ3 a0 a1 8 ((r2 + 1048576) + (a2 <<< (((r2 >>> ((20 : Int32) &&& 31)) * 5) &&& 31)))) (fun _ σ5 => some ((), σ5))))
set_option maxHeartbeats 4000000 in
set_option maxRecDepth 100000 in
theorem s_x0_addArgument {X : Cx} {ad : Nat → Nat} (C : Ok X cX0_addArgument RX0 5 none 1 24) (N : Nat) (σ : St) (a0 : Nat) (a1 : Int32) (a2 : Int32) : Sim X scC ad 5 outV 0 [(0, .ref (ad a0)), (1, .int a1), (2, .int a2)] [] σ (x0_addArgument N σ a0 a1 a2) := by
  unfold x0_addArgument
  refine g_aload_n C 0 dX0_addArgument_0 rfl rfl ?_
  refine g_iload_n C 1 dX0_addArgument_1 rfl rfl ?_
  refine g_bipush C 8 dX0_addArgument_2 (by decide) ?_
  refine g_gd (fun hp1 => ?_)
  refine v_x0_get_RX0 C hp1 ⟨by decide, by decide⟩ (Nat.le_of_ble_eq_true rfl) dX0_addArgument_4 (fun r2 σ3 _ => ?_)
  refine g_istore_n C [(3, .int r2), (0, .ref (ad a0)), (1, .int a1), (2, .int a2)] dX0_addArgument_7 rfl (by decide) rfl ?_
  refine g_iload_n C 0 dX0_addArgument_8 rfl rfl ?_
  refine g_bipush C 20 dX0_addArgument_9 (by decide) ?_
  refine g_ishr C dX0_addArgument_11 ?_
  refine g_istore C [(4, .int (r2 >>> ((20 : Int32) &&& 31))), (3, .int r2), (0, .ref (ad a0)), (1, .int a1), (2, .int a2)] dX0_addArgument_12 (by decide) rfl ?_
  refine g_aload_n C 2 dX0_addArgument_14 rfl rfl ?_
  refine g_iload_n C 3 dX0_addArgument_15 rfl rfl ?_
  refine g_bipush C 8 dX0_addArgument_16 (by decide) ?_
  refine g_iload_n C 1 dX0_addArgument_18 rfl rfl ?_
  refine g_ldc C (v := 1048576) gw_761 dX0_addArgument_19 ?_
  refine g_iadd C dX0_addArgument_21 ?_
  refine g_iload_n C 4 dX0_addArgument_22 rfl rfl ?_
  refine g_iload C 0 dX0_addArgument_23 rfl ?_
  refine g_iconst C 5 dX0_addArgument_25 (by decide) ?_
  refine g_imul C dX0_addArgument_26 ?_
  refine g_ishl C dX0_addArgument_27 ?_
  refine g_iadd C dX0_addArgument_28 ?_
  refine v_x0_set_RX0 C hp1 ⟨by decide, by decide⟩ (Nat.le_of_ble_eq_true rfl) dX0_addArgument_29 (fun r4 σ5 _ => ?_)
  exact g_vret C dX0_addArgument_32
theorem c_x0_addArgument {Y : Yx} {ad : Nat → Nat} {N : Nat} {σ : St} {a0 : Nat} {a1 : Int32} {a2 : Int32} {r : Unit} {σ' : St} (h : x0_addArgument N σ a0 a1 a2 = some (r, σ')) : Con Y scC ad yX0_addArgument cX0_addArgument 5 none 1 24 [.ref (ad a0), .int a1, .int a2] σ (outV r) σ' := con_of (by decide) rfl (Nat.le_of_ble_eq_true rfl) rfl (fun X hX C => s_x0_addArgument C N σ a0 a1 a2) h
set_option maxRecDepth 20000 in
theorem v_x0_addArgument_RX4 {X : Cx} {cc : ByteArray} {nL : Nat} {ret : Option FieldType} {fr lo : Nat} {ad : Nat → Nat} {ρ : Type} {out : ρ → Option Value} {pc : Nat} {lv : List (Nat × Value)} {rest : List Value} {σ : St} {N : Nat} {K : Unit → St → Option (ρ × St)} {a0 : Nat} {a1 : Int32} {a2 : Int32} (C : Ok X cc RX4 nL ret fr lo) (hp : isCd a0 = true) (hR : 1 + 1 ≤ fr ∧ 8 + (5 + 11) + 24 ≤ lo) (hcat : (rest.map fun v => v.category).sum ≤ 8) (hdg : decode cc pc = .ok (.invokevirtual 178, 3)) (k : ∀ (r : Unit) (σ' : St), x0_addArgument N σ a0 a1 a2 = some (r, σ') → Sim X scC ad nL out (pc + 3) lv rest σ' (K r σ')) : Sim X scC ad nL out pc lv (.int a2 :: .int a1 :: .ref (ad a0) :: rest) σ (bd (x0_addArgument N σ a0 a1 a2) K) := g_callV C (out1 := outV) (y := yX0_addArgument) (n := 2) ⟨gw_753, gw_754, gw_755, gw_110, gw_756⟩ (by decide +kernel) hR (o := a0) (ci := 0) (q9 := (RX0, TX0, 2)) (cd_in hp) (cd_kd hp) rfl rfl (fun r σ' h => c_x0_addArgument h) rfl rfl hcat hdg k

def x0_arguments (N : Nat) (σ : St) (a0 : Nat) (a1 : Int32) : Option (Int32 × St) :=
  gd (isCd a0) (bd (x0_get N σ a0 a1 8) (fun r2 σ3 => some (r2 >>> ((20 : Int32) &&& 31), σ3)))
set_option maxHeartbeats 4000000 in
set_option maxRecDepth 100000 in
theorem s_x0_arguments {X : Cx} {ad : Nat → Nat} (C : Ok X cX0_arguments RX0 2 (some .int) 1 23) (N : Nat) (σ : St) (a0 : Nat) (a1 : Int32) : Sim X scC ad 2 outI 0 [(0, .ref (ad a0)), (1, .int a1)] [] σ (x0_arguments N σ a0 a1) := by
  unfold x0_arguments
  refine g_aload_n C 0 dX0_arguments_0 rfl rfl ?_
  refine g_iload_n C 1 dX0_arguments_1 rfl rfl ?_
  refine g_bipush C 8 dX0_arguments_2 (by decide) ?_
  refine g_gd (fun hp1 => ?_)
  refine v_x0_get_RX0 C hp1 ⟨by decide, by decide⟩ (Nat.le_of_ble_eq_true rfl) dX0_arguments_4 (fun r2 σ3 _ => ?_)
  refine g_bipush C 20 dX0_arguments_7 (by decide) ?_
  refine g_ishr C dX0_arguments_9 ?_
  exact g_iret C dX0_arguments_10
theorem c_x0_arguments {Y : Yx} {ad : Nat → Nat} {N : Nat} {σ : St} {a0 : Nat} {a1 : Int32} {r : Int32} {σ' : St} (h : x0_arguments N σ a0 a1 = some (r, σ')) : Con Y scC ad yX0_arguments cX0_arguments 2 (some .int) 1 23 [.ref (ad a0), .int a1] σ (outI r) σ' := con_of (by decide) rfl (Nat.le_of_ble_eq_true rfl) rfl (fun X hX C => s_x0_arguments C N σ a0 a1) h
set_option maxRecDepth 20000 in
theorem v_x0_arguments_RX1 {X : Cx} {cc : ByteArray} {nL : Nat} {ret : Option FieldType} {fr lo : Nat} {ad : Nat → Nat} {ρ : Type} {out : ρ → Option Value} {pc : Nat} {lv : List (Nat × Value)} {rest : List Value} {σ : St} {N : Nat} {K : Int32 → St → Option (ρ × St)} {a0 : Nat} {a1 : Int32} (C : Ok X cc RX1 nL ret fr lo) (hp : isCd a0 = true) (hR : 1 + 1 ≤ fr ∧ 8 + (2 + 11) + 23 ≤ lo) (hcat : (rest.map fun v => v.category).sum ≤ 8) (hdg : decode cc pc = .ok (.invokevirtual 172, 3)) (k : ∀ (r : Int32) (σ' : St), x0_arguments N σ a0 a1 = some (r, σ') → Sim X scC ad nL out (pc + 3) lv (.int r :: rest) σ' (K r σ')) : Sim X scC ad nL out pc lv (.int a1 :: .ref (ad a0) :: rest) σ (bd (x0_arguments N σ a0 a1) K) := g_callV C (out1 := outI) (y := yX0_arguments) (n := 1) ⟨gw_893, gw_784, gw_785, gw_110, gw_786⟩ (by decide +kernel) hR (o := a0) (ci := 0) (q9 := (RX0, TX0, 2)) (cd_in hp) (cd_kd hp) rfl rfl (fun r σ' h => c_x0_arguments h) rfl rfl hcat hdg k
set_option maxRecDepth 20000 in
theorem v_x0_arguments_RX4 {X : Cx} {cc : ByteArray} {nL : Nat} {ret : Option FieldType} {fr lo : Nat} {ad : Nat → Nat} {ρ : Type} {out : ρ → Option Value} {pc : Nat} {lv : List (Nat × Value)} {rest : List Value} {σ : St} {N : Nat} {K : Int32 → St → Option (ρ × St)} {a0 : Nat} {a1 : Int32} (C : Ok X cc RX4 nL ret fr lo) (hp : isCd a0 = true) (hR : 1 + 1 ≤ fr ∧ 8 + (2 + 11) + 23 ≤ lo) (hcat : (rest.map fun v => v.category).sum ≤ 8) (hdg : decode cc pc = .ok (.invokevirtual 187, 3)) (k : ∀ (r : Int32) (σ' : St), x0_arguments N σ a0 a1 = some (r, σ') → Sim X scC ad nL out (pc + 3) lv (.int r :: rest) σ' (K r σ')) : Sim X scC ad nL out pc lv (.int a1 :: .ref (ad a0) :: rest) σ (bd (x0_arguments N σ a0 a1) K) := g_callV C (out1 := outI) (y := yX0_arguments) (n := 1) ⟨gw_783, gw_784, gw_785, gw_110, gw_786⟩ (by decide +kernel) hR (o := a0) (ci := 0) (q9 := (RX0, TX0, 2)) (cd_in hp) (cd_kd hp) rfl rfl (fun r σ' h => c_x0_arguments h) rfl rfl hcat hdg k
set_option maxRecDepth 20000 in
theorem v_x0_arguments_RX6 {X : Cx} {cc : ByteArray} {nL : Nat} {ret : Option FieldType} {fr lo : Nat} {ad : Nat → Nat} {ρ : Type} {out : ρ → Option Value} {pc : Nat} {lv : List (Nat × Value)} {rest : List Value} {σ : St} {N : Nat} {K : Int32 → St → Option (ρ × St)} {a0 : Nat} {a1 : Int32} (C : Ok X cc RX6 nL ret fr lo) (hp : isCd a0 = true) (hR : 1 + 1 ≤ fr ∧ 8 + (2 + 11) + 23 ≤ lo) (hcat : (rest.map fun v => v.category).sum ≤ 8) (hdg : decode cc pc = .ok (.invokevirtual 155, 3)) (k : ∀ (r : Int32) (σ' : St), x0_arguments N σ a0 a1 = some (r, σ') → Sim X scC ad nL out (pc + 3) lv (.int r :: rest) σ' (K r σ')) : Sim X scC ad nL out pc lv (.int a1 :: .ref (ad a0) :: rest) σ (bd (x0_arguments N σ a0 a1) K) := g_callV C (out1 := outI) (y := yX0_arguments) (n := 1) ⟨gw_998, gw_784, gw_785, gw_110, gw_786⟩ (by decide +kernel) hR (o := a0) (ci := 0) (q9 := (RX0, TX0, 2)) (cd_in hp) (cd_kd hp) rfl rfl (fun r σ' h => c_x0_arguments h) rfl rfl hcat hdg k

def x0_argument (N : Nat) (σ : St) (a0 : Nat) (a1 : Int32) (a2 : Int32) : Option (Int32 × St) :=
  gd (isCd a0) (bd (x0_get N σ a0 a1 8) (fun r2 σ3 => some ((r2 >>> ((a2 * 5) &&& 31)) &&& 31, σ3)))
set_option maxHeartbeats 4000000 in
set_option maxRecDepth 100000 in
theorem s_x0_argument {X : Cx} {ad : Nat → Nat} (C : Ok X cX0_argument RX0 3 (some .int) 1 23) (N : Nat) (σ : St) (a0 : Nat) (a1 : Int32) (a2 : Int32) : Sim X scC ad 3 outI 0 [(0, .ref (ad a0)), (1, .int a1), (2, .int a2)] [] σ (x0_argument N σ a0 a1 a2) := by
  unfold x0_argument
  refine g_aload_n C 0 dX0_argument_0 rfl rfl ?_
  refine g_iload_n C 1 dX0_argument_1 rfl rfl ?_
  refine g_bipush C 8 dX0_argument_2 (by decide) ?_
  refine g_gd (fun hp1 => ?_)
  refine v_x0_get_RX0 C hp1 ⟨by decide, by decide⟩ (Nat.le_of_ble_eq_true rfl) dX0_argument_4 (fun r2 σ3 _ => ?_)
  refine g_iload_n C 2 dX0_argument_7 rfl rfl ?_
  refine g_iconst C 5 dX0_argument_8 (by decide) ?_
  refine g_imul C dX0_argument_9 ?_
  refine g_ishr C dX0_argument_10 ?_
  refine g_bipush C 31 dX0_argument_11 (by decide) ?_
  refine g_iand C dX0_argument_13 ?_
  exact g_iret C dX0_argument_14
theorem c_x0_argument {Y : Yx} {ad : Nat → Nat} {N : Nat} {σ : St} {a0 : Nat} {a1 : Int32} {a2 : Int32} {r : Int32} {σ' : St} (h : x0_argument N σ a0 a1 a2 = some (r, σ')) : Con Y scC ad yX0_argument cX0_argument 3 (some .int) 1 23 [.ref (ad a0), .int a1, .int a2] σ (outI r) σ' := con_of (by decide) rfl (Nat.le_of_ble_eq_true rfl) rfl (fun X hX C => s_x0_argument C N σ a0 a1 a2) h
set_option maxRecDepth 20000 in
theorem v_x0_argument_RX1 {X : Cx} {cc : ByteArray} {nL : Nat} {ret : Option FieldType} {fr lo : Nat} {ad : Nat → Nat} {ρ : Type} {out : ρ → Option Value} {pc : Nat} {lv : List (Nat × Value)} {rest : List Value} {σ : St} {N : Nat} {K : Int32 → St → Option (ρ × St)} {a0 : Nat} {a1 : Int32} {a2 : Int32} (C : Ok X cc RX1 nL ret fr lo) (hp : isCd a0 = true) (hR : 1 + 1 ≤ fr ∧ 8 + (3 + 11) + 23 ≤ lo) (hcat : (rest.map fun v => v.category).sum ≤ 8) (hdg : decode cc pc = .ok (.invokevirtual 176, 3)) (k : ∀ (r : Int32) (σ' : St), x0_argument N σ a0 a1 a2 = some (r, σ') → Sim X scC ad nL out (pc + 3) lv (.int r :: rest) σ' (K r σ')) : Sim X scC ad nL out pc lv (.int a2 :: .int a1 :: .ref (ad a0) :: rest) σ (bd (x0_argument N σ a0 a1 a2) K) := g_callV C (out1 := outI) (y := yX0_argument) (n := 2) ⟨gw_894, gw_895, gw_896, gw_110, gw_897⟩ (by decide +kernel) hR (o := a0) (ci := 0) (q9 := (RX0, TX0, 2)) (cd_in hp) (cd_kd hp) rfl rfl (fun r σ' h => c_x0_argument h) rfl rfl hcat hdg k
set_option maxRecDepth 20000 in
theorem v_x0_argument_RX6 {X : Cx} {cc : ByteArray} {nL : Nat} {ret : Option FieldType} {fr lo : Nat} {ad : Nat → Nat} {ρ : Type} {out : ρ → Option Value} {pc : Nat} {lv : List (Nat × Value)} {rest : List Value} {σ : St} {N : Nat} {K : Int32 → St → Option (ρ × St)} {a0 : Nat} {a1 : Int32} {a2 : Int32} (C : Ok X cc RX6 nL ret fr lo) (hp : isCd a0 = true) (hR : 1 + 1 ≤ fr ∧ 8 + (3 + 11) + 23 ≤ lo) (hcat : (rest.map fun v => v.category).sum ≤ 8) (hdg : decode cc pc = .ok (.invokevirtual 158, 3)) (k : ∀ (r : Int32) (σ' : St), x0_argument N σ a0 a1 a2 = some (r, σ') → Sim X scC ad nL out (pc + 3) lv (.int r :: rest) σ' (K r σ')) : Sim X scC ad nL out pc lv (.int a2 :: .int a1 :: .ref (ad a0) :: rest) σ (bd (x0_argument N σ a0 a1 a2) K) := g_callV C (out1 := outI) (y := yX0_argument) (n := 2) ⟨gw_999, gw_895, gw_896, gw_110, gw_897⟩ (by decide +kernel) hR (o := a0) (ci := 0) (q9 := (RX0, TX0, 2)) (cd_in hp) (cd_kd hp) rfl rfl (fun r σ' h => c_x0_argument h) rfl rfl hcat hdg k

def j_fillL_6_b (N : Nat) (rec6 : St → Nat → Int64 → Int32 → Int32 → Option (Unit × St)) (σ : St) (x0 : Nat) (x1 : Int64) (x3 : Int32) (x4 : Int32) : Option (Unit × St) :=
  (if x4 ≤ x3 then some ((), σ) else gd (isLA x0) (gd (ib x3 (lenC x0)) (rec6 (sZ σ x0 x3.toNatClampNeg x1) x0 x1 (x3 + 1) x4)))
def j_fillL_6 (N : Nat) : Nat → St → Nat → Int64 → Int32 → Int32 → Option (Unit × St)
  | 0 => fun _ _ _ _ _ => none
  | n + 1 => fun σ x0 x1 x3 x4 => j_fillL_6_b N (j_fillL_6 N n) σ x0 x1 x3 x4
def j_fillL (N : Nat) (σ : St) (a1 : Nat) (a2 : Int64) : Option (Unit × St) :=
  gd (isLA a1) (j_fillL_6 N N σ a1 a2 0 (Int32.ofNat (lenC a1)))
set_option maxHeartbeats 4000000 in
set_option maxRecDepth 100000 in
theorem s_j_fillL_6_b {X : Cx} {ad : Nat → Nat} (C : Ok X cJ7_fill_d0a16 RJ7 5 none 0 0) (N : Nat) {rec6 : St → Nat → Int64 → Int32 → Int32 → Option (Unit × St)} (hrec6 : ∀ (σ : St) (x0 : Nat) (x1 : Int64) (x3 : Int32) (x4 : Int32), Sim X scC ad 5 outV 6 [(0, .ref (ad x0)), (1, .long x1), (3, .int x3), (4, .int x4)] [] σ (rec6 σ x0 x1 x3 x4)) (σ : St) (x0 : Nat) (x1 : Int64) (x3 : Int32) (x4 : Int32) : Sim X scC ad 5 outV 6 [(0, .ref (ad x0)), (1, .long x1), (3, .int x3), (4, .int x4)] [] σ (j_fillL_6_b N rec6 σ x0 x1 x3 x4) := by
  unfold j_fillL_6_b
  refine g_iload_n C 2 dJ7_fill_d0a16_6 rfl rfl ?_
  refine g_iload C 3 dJ7_fill_d0a16_7 rfl ?_
  refine g_icmp_ge C 22 dJ7_fill_d0a16_9 (by decide) ?_ ?_
  · exact g_vret C dJ7_fill_d0a16_22
  · refine g_aload_n C 0 dJ7_fill_d0a16_12 rfl rfl ?_
    refine g_iload_n C 2 dJ7_fill_d0a16_13 rfl rfl ?_
    refine g_lload_n C 1 dJ7_fill_d0a16_14 rfl rfl ?_
    refine g_gd (fun hp2 => ?_)
    refine ca_stJ C (j := x0) hp2 rfl dJ7_fill_d0a16_15 ?_
    refine g_iinc C (x3 + 1) 2 [(3, .int (x3 + 1)), (0, .ref (ad x0)), (1, .long x1), (4, .int x4)] dJ7_fill_d0a16_16 rfl rfl (by decide) rfl ?_
    refine g_goto C 6 dJ7_fill_d0a16_19 (by decide) ?_
    exact g_sub [1, 2, 0, 3] rfl (hrec6 (sZ σ x0 x3.toNatClampNeg x1) x0 x1 (x3 + 1) x4)
set_option maxHeartbeats 4000000 in
set_option maxRecDepth 100000 in
theorem s_j_fillL_6 {X : Cx} {ad : Nat → Nat} (C : Ok X cJ7_fill_d0a16 RJ7 5 none 0 0) (N : Nat) : ∀ (n : Nat) (σ : St) (x0 : Nat) (x1 : Int64) (x3 : Int32) (x4 : Int32), Sim X scC ad 5 outV 6 [(0, .ref (ad x0)), (1, .long x1), (3, .int x3), (4, .int x4)] [] σ (j_fillL_6 N n σ x0 x1 x3 x4) := by
  intro n
  induction n with
  | zero => intro σ x0 x1 x3 x4; exact g_none
  | succ n ih => intro σ x0 x1 x3 x4; exact s_j_fillL_6_b C N ih σ x0 x1 x3 x4
set_option maxHeartbeats 4000000 in
set_option maxRecDepth 100000 in
theorem s_j_fillL {X : Cx} {ad : Nat → Nat} (C : Ok X cJ7_fill_d0a16 RJ7 5 none 0 0) (N : Nat) (σ : St) (a1 : Nat) (a2 : Int64) : Sim X scC ad 5 outV 0 [(0, .ref (ad a1)), (1, .long a2)] [] σ (j_fillL N σ a1 a2) := by
  unfold j_fillL
  refine g_iconst C 0 dJ7_fill_d0a16_0 (by decide) ?_
  refine g_istore_n C [(3, .int 0), (0, .ref (ad a1)), (1, .long a2)] dJ7_fill_d0a16_1 rfl (by decide) rfl ?_
  refine g_aload_n C 1 dJ7_fill_d0a16_2 rfl rfl ?_
  refine g_gd (fun hp1 => ?_)
  refine ca_lenJ C (j := a1) (Int32.ofNat (lenC a1)) hp1 rfl dJ7_fill_d0a16_3 ?_
  refine g_istore C [(4, .int (Int32.ofNat (lenC a1))), (3, .int 0), (0, .ref (ad a1)), (1, .long a2)] dJ7_fill_d0a16_4 (by decide) rfl ?_
  exact g_sub [2, 3, 1, 0] rfl (s_j_fillL_6 C N N σ a1 a2 0 (Int32.ofNat (lenC a1)))
theorem c_j_fillL {Y : Yx} {ad : Nat → Nat} {N : Nat} {σ : St} {a1 : Nat} {a2 : Int64} {r : Unit} {σ' : St} (h : j_fillL N σ a1 a2 = some (r, σ')) : Con Y scC ad yJ7_fill_d0a16 cJ7_fill_d0a16 5 none 0 0 [.ref (ad a1), .long a2] σ (outV r) σ' := con_of (by decide) rfl (Nat.le_of_ble_eq_true rfl) rfl (fun X hX C => s_j_fillL C N σ a1 a2) h
set_option maxRecDepth 20000 in
theorem v_j_fillL_RX1 {X : Cx} {cc : ByteArray} {nL : Nat} {ret : Option FieldType} {fr lo : Nat} {ad : Nat → Nat} {ρ : Type} {out : ρ → Option Value} {pc : Nat} {lv : List (Nat × Value)} {rest : List Value} {σ : St} {N : Nat} {K : Unit → St → Option (ρ × St)} {a1 : Nat} {a2 : Int64} (C : Ok X cc RX1 nL ret fr lo) (hR : 0 + 1 ≤ fr ∧ 8 + (5 + 11) + 0 ≤ lo) (hcat : (rest.map fun v => v.category).sum ≤ 8) (hdg : decode cc pc = .ok (.invokestatic 95, 3)) (k : ∀ (r : Unit) (σ' : St), j_fillL N σ a1 a2 = some (r, σ') → Sim X scC ad nL out (pc + 3) lv rest σ' (K r σ')) : Sim X scC ad nL out pc lv (.long a2 :: .ref (ad a1) :: rest) σ (bd (j_fillL N σ a1 a2) K) := g_callS C (out1 := outV) (y := yJ7_fill_d0a16) (n := 2) ⟨gw_836, gw_837, gw_124, gw_838⟩ (by decide +kernel) hR (fun r σ' h => c_j_fillL h) rfl rfl hcat hdg k

def j_fill_5_b (N : Nat) (rec5 : St → Nat → Int32 → Int32 → Int32 → Option (Unit × St)) (σ : St) (x0 : Nat) (x1 : Int32) (x2 : Int32) (x3 : Int32) : Option (Unit × St) :=
  (if x3 ≤ x2 then some ((), σ) else gd (isIA x0) (gd (ib x2 (lenC x0)) (rec5 (sA σ x0 x2.toNatClampNeg x1) x0 x1 (x2 + 1) x3)))
def j_fill_5 (N : Nat) : Nat → St → Nat → Int32 → Int32 → Int32 → Option (Unit × St)
  | 0 => fun _ _ _ _ _ => none
  | n + 1 => fun σ x0 x1 x2 x3 => j_fill_5_b N (j_fill_5 N n) σ x0 x1 x2 x3
def j_fill (N : Nat) (σ : St) (a1 : Nat) (a2 : Int32) : Option (Unit × St) :=
  gd (isIA a1) (j_fill_5 N N σ a1 a2 0 (Int32.ofNat (lenC a1)))
set_option maxHeartbeats 4000000 in
set_option maxRecDepth 100000 in
theorem s_j_fill_5_b {X : Cx} {ad : Nat → Nat} (C : Ok X cJ7_fill_53178 RJ7 4 none 0 0) (N : Nat) {rec5 : St → Nat → Int32 → Int32 → Int32 → Option (Unit × St)} (hrec5 : ∀ (σ : St) (x0 : Nat) (x1 : Int32) (x2 : Int32) (x3 : Int32), Sim X scC ad 4 outV 5 [(0, .ref (ad x0)), (1, .int x1), (2, .int x2), (3, .int x3)] [] σ (rec5 σ x0 x1 x2 x3)) (σ : St) (x0 : Nat) (x1 : Int32) (x2 : Int32) (x3 : Int32) : Sim X scC ad 4 outV 5 [(0, .ref (ad x0)), (1, .int x1), (2, .int x2), (3, .int x3)] [] σ (j_fill_5_b N rec5 σ x0 x1 x2 x3) := by
  unfold j_fill_5_b
  refine g_iload_n C 2 dJ7_fill_53178_5 rfl rfl ?_
  refine g_iload_n C 3 dJ7_fill_53178_6 rfl rfl ?_
  refine g_icmp_ge C 20 dJ7_fill_53178_7 (by decide) ?_ ?_
  · exact g_vret C dJ7_fill_53178_20
  · refine g_aload_n C 0 dJ7_fill_53178_10 rfl rfl ?_
    refine g_iload_n C 2 dJ7_fill_53178_11 rfl rfl ?_
    refine g_iload_n C 1 dJ7_fill_53178_12 rfl rfl ?_
    refine g_gd (fun hp2 => ?_)
    refine ca_stI C (j := x0) hp2 rfl dJ7_fill_53178_13 ?_
    refine g_iinc C (x2 + 1) 2 [(2, .int (x2 + 1)), (0, .ref (ad x0)), (1, .int x1), (3, .int x3)] dJ7_fill_53178_14 rfl rfl (by decide) rfl ?_
    refine g_goto C 5 dJ7_fill_53178_17 (by decide) ?_
    exact g_sub [1, 2, 0, 3] rfl (hrec5 (sA σ x0 x2.toNatClampNeg x1) x0 x1 (x2 + 1) x3)
set_option maxHeartbeats 4000000 in
set_option maxRecDepth 100000 in
theorem s_j_fill_5 {X : Cx} {ad : Nat → Nat} (C : Ok X cJ7_fill_53178 RJ7 4 none 0 0) (N : Nat) : ∀ (n : Nat) (σ : St) (x0 : Nat) (x1 : Int32) (x2 : Int32) (x3 : Int32), Sim X scC ad 4 outV 5 [(0, .ref (ad x0)), (1, .int x1), (2, .int x2), (3, .int x3)] [] σ (j_fill_5 N n σ x0 x1 x2 x3) := by
  intro n
  induction n with
  | zero => intro σ x0 x1 x2 x3; exact g_none
  | succ n ih => intro σ x0 x1 x2 x3; exact s_j_fill_5_b C N ih σ x0 x1 x2 x3
set_option maxHeartbeats 4000000 in
set_option maxRecDepth 100000 in
theorem s_j_fill {X : Cx} {ad : Nat → Nat} (C : Ok X cJ7_fill_53178 RJ7 4 none 0 0) (N : Nat) (σ : St) (a1 : Nat) (a2 : Int32) : Sim X scC ad 4 outV 0 [(0, .ref (ad a1)), (1, .int a2)] [] σ (j_fill N σ a1 a2) := by
  unfold j_fill
  refine g_iconst C 0 dJ7_fill_53178_0 (by decide) ?_
  refine g_istore_n C [(2, .int 0), (0, .ref (ad a1)), (1, .int a2)] dJ7_fill_53178_1 rfl (by decide) rfl ?_
  refine g_aload_n C 1 dJ7_fill_53178_2 rfl rfl ?_
  refine g_gd (fun hp1 => ?_)
  refine ca_lenI C (j := a1) (Int32.ofNat (lenC a1)) hp1 rfl dJ7_fill_53178_3 ?_
  refine g_istore_n C [(3, .int (Int32.ofNat (lenC a1))), (2, .int 0), (0, .ref (ad a1)), (1, .int a2)] dJ7_fill_53178_4 rfl (by decide) rfl ?_
  exact g_sub [2, 3, 1, 0] rfl (s_j_fill_5 C N N σ a1 a2 0 (Int32.ofNat (lenC a1)))
theorem c_j_fill {Y : Yx} {ad : Nat → Nat} {N : Nat} {σ : St} {a1 : Nat} {a2 : Int32} {r : Unit} {σ' : St} (h : j_fill N σ a1 a2 = some (r, σ')) : Con Y scC ad yJ7_fill_53178 cJ7_fill_53178 4 none 0 0 [.ref (ad a1), .int a2] σ (outV r) σ' := con_of (by decide) rfl (Nat.le_of_ble_eq_true rfl) rfl (fun X hX C => s_j_fill C N σ a1 a2) h
set_option maxRecDepth 20000 in
theorem v_j_fill_RX1 {X : Cx} {cc : ByteArray} {nL : Nat} {ret : Option FieldType} {fr lo : Nat} {ad : Nat → Nat} {ρ : Type} {out : ρ → Option Value} {pc : Nat} {lv : List (Nat × Value)} {rest : List Value} {σ : St} {N : Nat} {K : Unit → St → Option (ρ × St)} {a1 : Nat} {a2 : Int32} (C : Ok X cc RX1 nL ret fr lo) (hR : 0 + 1 ≤ fr ∧ 8 + (4 + 11) + 0 ≤ lo) (hcat : (rest.map fun v => v.category).sum ≤ 8) (hdg : decode cc pc = .ok (.invokestatic 101, 3)) (k : ∀ (r : Unit) (σ' : St), j_fill N σ a1 a2 = some (r, σ') → Sim X scC ad nL out (pc + 3) lv rest σ' (K r σ')) : Sim X scC ad nL out pc lv (.int a2 :: .ref (ad a1) :: rest) σ (bd (j_fill N σ a1 a2) K) := g_callS C (out1 := outV) (y := yJ7_fill_53178) (n := 2) ⟨gw_839, gw_792, gw_124, gw_793⟩ (by decide +kernel) hR (fun r σ' h => c_j_fill h) rfl rfl hcat hdg k
set_option maxRecDepth 20000 in
theorem v_j_fill_RX7 {X : Cx} {cc : ByteArray} {nL : Nat} {ret : Option FieldType} {fr lo : Nat} {ad : Nat → Nat} {ρ : Type} {out : ρ → Option Value} {pc : Nat} {lv : List (Nat × Value)} {rest : List Value} {σ : St} {N : Nat} {K : Unit → St → Option (ρ × St)} {a1 : Nat} {a2 : Int32} (C : Ok X cc RX7 nL ret fr lo) (hR : 0 + 1 ≤ fr ∧ 8 + (4 + 11) + 0 ≤ lo) (hcat : (rest.map fun v => v.category).sum ≤ 8) (hdg : decode cc pc = .ok (.invokestatic 23, 3)) (k : ∀ (r : Unit) (σ' : St), j_fill N σ a1 a2 = some (r, σ') → Sim X scC ad nL out (pc + 3) lv rest σ' (K r σ')) : Sim X scC ad nL out pc lv (.int a2 :: .ref (ad a1) :: rest) σ (bd (j_fill N σ a1 a2) K) := g_callS C (out1 := outV) (y := yJ7_fill_53178) (n := 2) ⟨gw_791, gw_792, gw_124, gw_793⟩ (by decide +kernel) hR (fun r σ' h => c_j_fill h) rfl rfl hcat hdg k
set_option maxRecDepth 20000 in
theorem v_j_fill_RX9 {X : Cx} {cc : ByteArray} {nL : Nat} {ret : Option FieldType} {fr lo : Nat} {ad : Nat → Nat} {ρ : Type} {out : ρ → Option Value} {pc : Nat} {lv : List (Nat × Value)} {rest : List Value} {σ : St} {N : Nat} {K : Unit → St → Option (ρ × St)} {a1 : Nat} {a2 : Int32} (C : Ok X cc RX9 nL ret fr lo) (hR : 0 + 1 ≤ fr ∧ 8 + (4 + 11) + 0 ≤ lo) (hcat : (rest.map fun v => v.category).sum ≤ 8) (hdg : decode cc pc = .ok (.invokestatic 34, 3)) (k : ∀ (r : Unit) (σ' : St), j_fill N σ a1 a2 = some (r, σ') → Sim X scC ad nL out (pc + 3) lv rest σ' (K r σ')) : Sim X scC ad nL out pc lv (.int a2 :: .ref (ad a1) :: rest) σ (bd (j_fill N σ a1 a2) K) := g_callS C (out1 := outV) (y := yJ7_fill_53178) (n := 2) ⟨gw_1016, gw_792, gw_124, gw_793⟩ (by decide +kernel) hR (fun r σ' h => c_j_fill h) rfl rfl hcat hdg k

def x1_clear (N : Nat) (σ : St) : Option (Unit × St) :=
  gd (isPr (gP σ 700)) (bd (j_fillL N (sI (sI (sP (sP σ 906 (gP σ 700)) 907 ((gP σ 700) + 1)) 910 0) 911 1) 10 0) (fun _ σ3 => bd (j_fill N σ3 11 0) (fun _ σ5 => bd (j_fill N σ5 12 0) (fun _ σ7 => bd (j_fill N σ7 13 0) (fun _ σ9 => bd (j_fill N σ9 14 0) (fun _ σ11 => some ((), σ11)))))))
set_option maxHeartbeats 4000000 in
set_option maxRecDepth 100000 in
theorem s_x1_clear {X : Cx} {ad : Nat → Nat} (C : Ok X cX1_clear RX1 1 none 1 24) (N : Nat) (σ : St) : Sim X scC ad 1 outV 0 [(0, .ref (ad 9))] [] σ (x1_clear N σ) := by
  unfold x1_clear
  refine g_aload_n C 0 dX1_clear_0 rfl rfl ?_
  refine g_aload_n C 0 dX1_clear_1 rfl rfl ?_
  refine gf_RX1_32 C  dX1_clear_2 ?_
  refine gf_RX1_36 C  (v := gP σ 700) dX1_clear_5 rfl ?_
  refine pf_RX1_42 C dX1_clear_8 ?_
  refine g_aload_n C 0 dX1_clear_11 rfl rfl ?_
  refine g_aload_n C 0 dX1_clear_12 rfl rfl ?_
  refine gf_RX1_42 C  (v := gP σ 700) dX1_clear_13 rfl ?_
  refine g_gd (fun hp1 => ?_)
  refine gf_RX1_43 C hp1 dX1_clear_16 ?_
  refine pf_RX1_49 C dX1_clear_19 ?_
  refine g_aload_n C 0 dX1_clear_22 rfl rfl ?_
  refine g_iconst C 0 dX1_clear_23 (by decide) ?_
  refine pf_RX1_92 C dX1_clear_24 ?_
  refine g_aload_n C 0 dX1_clear_27 rfl rfl ?_
  refine g_iconst C 1 dX1_clear_28 (by decide) ?_
  refine pf_RX1_78 C dX1_clear_29 ?_
  refine g_aload_n C 0 dX1_clear_32 rfl rfl ?_
  refine gf_RX1_9 C  dX1_clear_33 ?_
  refine g_lconst C 0 dX1_clear_36 (by decide) ?_
  refine v_j_fillL_RX1 C ⟨by decide, by decide⟩ (Nat.le_of_ble_eq_true rfl) dX1_clear_37 (fun r2 σ3 _ => ?_)
  refine g_aload_n C 0 dX1_clear_40 rfl rfl ?_
  refine gf_RX1_15 C  dX1_clear_41 ?_
  refine g_iconst C 0 dX1_clear_44 (by decide) ?_
  refine v_j_fill_RX1 C ⟨by decide, by decide⟩ (Nat.le_of_ble_eq_true rfl) dX1_clear_45 (fun r4 σ5 _ => ?_)
  refine g_aload_n C 0 dX1_clear_48 rfl rfl ?_
  refine gf_RX1_19 C  dX1_clear_49 ?_
  refine g_iconst C 0 dX1_clear_52 (by decide) ?_
  refine v_j_fill_RX1 C ⟨by decide, by decide⟩ (Nat.le_of_ble_eq_true rfl) dX1_clear_53 (fun r6 σ7 _ => ?_)
  refine g_aload_n C 0 dX1_clear_56 rfl rfl ?_
  refine gf_RX1_22 C  dX1_clear_57 ?_
  refine g_iconst C 0 dX1_clear_60 (by decide) ?_
  refine v_j_fill_RX1 C ⟨by decide, by decide⟩ (Nat.le_of_ble_eq_true rfl) dX1_clear_61 (fun r8 σ9 _ => ?_)
  refine g_aload_n C 0 dX1_clear_64 rfl rfl ?_
  refine gf_RX1_25 C  dX1_clear_65 ?_
  refine g_iconst C 0 dX1_clear_68 (by decide) ?_
  refine v_j_fill_RX1 C ⟨by decide, by decide⟩ (Nat.le_of_ble_eq_true rfl) dX1_clear_69 (fun r10 σ11 _ => ?_)
  exact g_vret C dX1_clear_72
theorem c_x1_clear {Y : Yx} {ad : Nat → Nat} {N : Nat} {σ : St} {r : Unit} {σ' : St} (h : x1_clear N σ = some (r, σ')) : Con Y scC ad yX1_clear cX1_clear 1 none 1 24 [.ref (ad 9)] σ (outV r) σ' := con_of (by decide) rfl (Nat.le_of_ble_eq_true rfl) rfl (fun X hX C => s_x1_clear C N σ) h
set_option maxRecDepth 20000 in
theorem v_x1_clear_RX1 {X : Cx} {cc : ByteArray} {nL : Nat} {ret : Option FieldType} {fr lo : Nat} {ad : Nat → Nat} {ρ : Type} {out : ρ → Option Value} {pc : Nat} {lv : List (Nat × Value)} {rest : List Value} {σ : St} {N : Nat} {K : Unit → St → Option (ρ × St)} (C : Ok X cc RX1 nL ret fr lo) (hR : 1 + 1 ≤ fr ∧ 8 + (1 + 11) + 24 ≤ lo) (hcat : (rest.map fun v => v.category).sum ≤ 8) (hdg : decode cc pc = .ok (.invokevirtual 54, 3)) (k : ∀ (r : Unit) (σ' : St), x1_clear N σ = some (r, σ') → Sim X scC ad nL out (pc + 3) lv rest σ' (K r σ')) : Sim X scC ad nL out pc lv (.ref (ad 9) :: rest) σ (bd (x1_clear N σ) K) := g_callV C (out1 := outV) (y := yX1_clear) (n := 0) ⟨gw_832, gw_834, gw_25, gw_113, gw_835⟩ (by decide +kernel) hR (o := 9) (ci := 1) (q9 := (RX1, TX1, 14)) im_9 rfl rfl rfl (fun r σ' h => c_x1_clear h) rfl rfl hcat hdg k

def x3_has (N : Nat) (σ : St) (a0 : Nat) (a1 : Int32) : Option (Int32 × St) :=
  (if a1 < 0 then some (0, σ) else (if 8 ≤ a1 then some (0, σ) else gd (isPr a0) ((if (((gI σ (100 * a0 + 9)) >>> (a1 &&& 31)) &&& 1) = 0 then some (0, σ) else some (1, σ)))))
set_option maxHeartbeats 4000000 in
set_option maxRecDepth 100000 in
theorem s_x3_has {X : Cx} {ad : Nat → Nat} (C : Ok X cX3_has RX3 2 (some .boolean) 0 0) (N : Nat) (σ : St) (a0 : Nat) (a1 : Int32) : Sim X scC ad 2 outI 0 [(0, .ref (ad a0)), (1, .int a1)] [] σ (x3_has N σ a0 a1) := by
  unfold x3_has
  refine g_iload_n C 1 dX3_has_0 rfl rfl ?_
  refine g_if_lt C 25 dX3_has_1 (by decide) ?_ ?_
  · refine g_iconst C 0 dX3_has_25 (by decide) ?_
    exact g_zret C rfl dX3_has_26
  · refine g_iload_n C 1 dX3_has_4 rfl rfl ?_
    refine g_bipush C 8 dX3_has_5 (by decide) ?_
    refine g_icmp_ge C 25 dX3_has_7 (by decide) ?_ ?_
    · refine g_iconst C 0 dX3_has_25 (by decide) ?_
      exact g_zret C rfl dX3_has_26
    · refine g_aload_n C 0 dX3_has_10 rfl rfl ?_
      refine g_gd (fun hp1 => ?_)
      refine gf_RX3_50 C hp1 (v := gI σ (100 * a0 + 9)) dX3_has_11 rfl ?_
      refine g_iload_n C 1 dX3_has_14 rfl rfl ?_
      refine g_ishr C dX3_has_15 ?_
      refine g_iconst C 1 dX3_has_16 (by decide) ?_
      refine g_iand C dX3_has_17 ?_
      refine g_if_eq C 25 dX3_has_18 (by decide) ?_ ?_
      · refine g_iconst C 0 dX3_has_25 (by decide) ?_
        exact g_zret C rfl dX3_has_26
      · refine g_iconst C 1 dX3_has_21 (by decide) ?_
        refine g_goto C 26 dX3_has_22 (by decide) ?_
        exact g_zret C rfl dX3_has_26
theorem c_x3_has {Y : Yx} {ad : Nat → Nat} {N : Nat} {σ : St} {a0 : Nat} {a1 : Int32} {r : Int32} {σ' : St} (h : x3_has N σ a0 a1 = some (r, σ')) : Con Y scC ad yX3_has cX3_has 2 (some .boolean) 0 0 [.ref (ad a0), .int a1] σ (outI r) σ' := con_of (by decide) rfl (Nat.le_of_ble_eq_true rfl) rfl (fun X hX C => s_x3_has C N σ a0 a1) h
set_option maxRecDepth 20000 in
theorem v_x3_has_RX1 {X : Cx} {cc : ByteArray} {nL : Nat} {ret : Option FieldType} {fr lo : Nat} {ad : Nat → Nat} {ρ : Type} {out : ρ → Option Value} {pc : Nat} {lv : List (Nat × Value)} {rest : List Value} {σ : St} {N : Nat} {K : Int32 → St → Option (ρ × St)} {a0 : Nat} {a1 : Int32} (C : Ok X cc RX1 nL ret fr lo) (hp : isPr a0 = true) (hR : 0 + 1 ≤ fr ∧ 8 + (2 + 11) + 0 ≤ lo) (hcat : (rest.map fun v => v.category).sum ≤ 8) (hdg : decode cc pc = .ok (.invokevirtual 107, 3)) (k : ∀ (r : Int32) (σ' : St), x3_has N σ a0 a1 = some (r, σ') → Sim X scC ad nL out (pc + 3) lv (.int r :: rest) σ' (K r σ')) : Sim X scC ad nL out pc lv (.int a1 :: .ref (ad a0) :: rest) σ (bd (x3_has N σ a0 a1) K) := g_callV C (out1 := outI) (y := yX3_has) (n := 1) ⟨gw_844, gw_667, gw_668, gw_109, gw_669⟩ (by decide +kernel) hR (o := a0) (ci := 3) (q9 := (RX3, TX3, 14)) (pr_in hp) (pr_kd hp) rfl rfl (fun r σ' h => c_x3_has h) rfl rfl hcat hdg k
set_option maxRecDepth 20000 in
theorem v_x3_has_RX10 {X : Cx} {cc : ByteArray} {nL : Nat} {ret : Option FieldType} {fr lo : Nat} {ad : Nat → Nat} {ρ : Type} {out : ρ → Option Value} {pc : Nat} {lv : List (Nat × Value)} {rest : List Value} {σ : St} {N : Nat} {K : Int32 → St → Option (ρ × St)} {a0 : Nat} {a1 : Int32} (C : Ok X cc RX10 nL ret fr lo) (hp : isPr a0 = true) (hR : 0 + 1 ≤ fr ∧ 8 + (2 + 11) + 0 ≤ lo) (hcat : (rest.map fun v => v.category).sum ≤ 8) (hdg : decode cc pc = .ok (.invokevirtual 125, 3)) (k : ∀ (r : Int32) (σ' : St), x3_has N σ a0 a1 = some (r, σ') → Sim X scC ad nL out (pc + 3) lv (.int r :: rest) σ' (K r σ')) : Sim X scC ad nL out pc lv (.int a1 :: .ref (ad a0) :: rest) σ (bd (x3_has N σ a0 a1) K) := g_callV C (out1 := outI) (y := yX3_has) (n := 1) ⟨gw_806, gw_667, gw_668, gw_109, gw_669⟩ (by decide +kernel) hR (o := a0) (ci := 3) (q9 := (RX3, TX3, 14)) (pr_in hp) (pr_kd hp) rfl rfl (fun r σ' h => c_x3_has h) rfl rfl hcat hdg k
set_option maxRecDepth 20000 in
theorem v_x3_has_RX4 {X : Cx} {cc : ByteArray} {nL : Nat} {ret : Option FieldType} {fr lo : Nat} {ad : Nat → Nat} {ρ : Type} {out : ρ → Option Value} {pc : Nat} {lv : List (Nat × Value)} {rest : List Value} {σ : St} {N : Nat} {K : Int32 → St → Option (ρ × St)} {a0 : Nat} {a1 : Int32} (C : Ok X cc RX4 nL ret fr lo) (hp : isPr a0 = true) (hR : 0 + 1 ≤ fr ∧ 8 + (2 + 11) + 0 ≤ lo) (hcat : (rest.map fun v => v.category).sum ≤ 8) (hdg : decode cc pc = .ok (.invokevirtual 88, 3)) (k : ∀ (r : Int32) (σ' : St), x3_has N σ a0 a1 = some (r, σ') → Sim X scC ad nL out (pc + 3) lv (.int r :: rest) σ' (K r σ')) : Sim X scC ad nL out pc lv (.int a1 :: .ref (ad a0) :: rest) σ (bd (x3_has N σ a0 a1) K) := g_callV C (out1 := outI) (y := yX3_has) (n := 1) ⟨gw_666, gw_667, gw_668, gw_109, gw_669⟩ (by decide +kernel) hR (o := a0) (ci := 3) (q9 := (RX3, TX3, 14)) (pr_in hp) (pr_kd hp) rfl rfl (fun r σ' h => c_x3_has h) rfl rfl hcat hdg k
set_option maxRecDepth 20000 in
theorem v_x3_has_RX7 {X : Cx} {cc : ByteArray} {nL : Nat} {ret : Option FieldType} {fr lo : Nat} {ad : Nat → Nat} {ρ : Type} {out : ρ → Option Value} {pc : Nat} {lv : List (Nat × Value)} {rest : List Value} {σ : St} {N : Nat} {K : Int32 → St → Option (ρ × St)} {a0 : Nat} {a1 : Int32} (C : Ok X cc RX7 nL ret fr lo) (hp : isPr a0 = true) (hR : 0 + 1 ≤ fr ∧ 8 + (2 + 11) + 0 ≤ lo) (hcat : (rest.map fun v => v.category).sum ≤ 8) (hdg : decode cc pc = .ok (.invokevirtual 40, 3)) (k : ∀ (r : Int32) (σ' : St), x3_has N σ a0 a1 = some (r, σ') → Sim X scC ad nL out (pc + 3) lv (.int r :: rest) σ' (K r σ')) : Sim X scC ad nL out pc lv (.int a1 :: .ref (ad a0) :: rest) σ (bd (x3_has N σ a0 a1) K) := g_callV C (out1 := outI) (y := yX3_has) (n := 1) ⟨gw_816, gw_667, gw_668, gw_109, gw_669⟩ (by decide +kernel) hR (o := a0) (ci := 3) (q9 := (RX3, TX3, 14)) (pr_in hp) (pr_kd hp) rfl rfl (fun r σ' h => c_x3_has h) rfl rfl hcat hdg k

def x5_at (N : Nat) (σ : St) (a1 : Nat) (a2 : Int32) : Option (Int32 × St) :=
  (if a2 < 0 then some (0, σ) else gd (isIA a1) ((if (Int32.ofNat (lenC a1)) ≤ a2 then some (0, σ) else gd (ib a2 (lenC a1)) (some (gA σ a1 a2.toNatClampNeg, σ)))))
set_option maxHeartbeats 4000000 in
set_option maxRecDepth 100000 in
theorem s_x5_at {X : Cx} {ad : Nat → Nat} (C : Ok X cX5_at RX5 2 (some .int) 0 0) (N : Nat) (σ : St) (a1 : Nat) (a2 : Int32) : Sim X scC ad 2 outI 0 [(0, .ref (ad a1)), (1, .int a2)] [] σ (x5_at N σ a1 a2) := by
  unfold x5_at
  refine g_iload_n C 1 dX5_at_0 rfl rfl ?_
  refine g_if_lt C 16 dX5_at_1 (by decide) ?_ ?_
  · refine g_iconst C 0 dX5_at_16 (by decide) ?_
    exact g_iret C dX5_at_17
  · refine g_iload_n C 1 dX5_at_4 rfl rfl ?_
    refine g_aload_n C 0 dX5_at_5 rfl rfl ?_
    refine g_gd (fun hp1 => ?_)
    refine ca_lenI C (j := a1) (Int32.ofNat (lenC a1)) hp1 rfl dX5_at_6 ?_
    refine g_icmp_ge C 16 dX5_at_7 (by decide) ?_ ?_
    · refine g_iconst C 0 dX5_at_16 (by decide) ?_
      exact g_iret C dX5_at_17
    · refine g_aload_n C 0 dX5_at_10 rfl rfl ?_
      refine g_iload_n C 1 dX5_at_11 rfl rfl ?_
      refine ca_ldI C (j := a1) (v := gA σ a1 a2.toNatClampNeg) hp1 rfl dX5_at_12 rfl ?_
      refine g_goto C 17 dX5_at_13 (by decide) ?_
      exact g_iret C dX5_at_17
theorem c_x5_at {Y : Yx} {ad : Nat → Nat} {N : Nat} {σ : St} {a1 : Nat} {a2 : Int32} {r : Int32} {σ' : St} (h : x5_at N σ a1 a2 = some (r, σ')) : Con Y scC ad yX5_at cX5_at 2 (some .int) 0 0 [.ref (ad a1), .int a2] σ (outI r) σ' := con_of (by decide) rfl (Nat.le_of_ble_eq_true rfl) rfl (fun X hX C => s_x5_at C N σ a1 a2) h
set_option maxRecDepth 20000 in
theorem v_x5_at_RX1 {X : Cx} {cc : ByteArray} {nL : Nat} {ret : Option FieldType} {fr lo : Nat} {ad : Nat → Nat} {ρ : Type} {out : ρ → Option Value} {pc : Nat} {lv : List (Nat × Value)} {rest : List Value} {σ : St} {N : Nat} {K : Int32 → St → Option (ρ × St)} {a1 : Nat} {a2 : Int32} (C : Ok X cc RX1 nL ret fr lo) (hR : 0 + 1 ≤ fr ∧ 8 + (2 + 11) + 0 ≤ lo) (hcat : (rest.map fun v => v.category).sum ≤ 8) (hdg : decode cc pc = .ok (.invokestatic 72, 3)) (k : ∀ (r : Int32) (σ' : St), x5_at N σ a1 a2 = some (r, σ') → Sim X scC ad nL out (pc + 3) lv (.int r :: rest) σ' (K r σ')) : Sim X scC ad nL out pc lv (.int a2 :: .ref (ad a1) :: rest) σ (bd (x5_at N σ a1 a2) K) := g_callS C (out1 := outI) (y := yX5_at) (n := 2) ⟨gw_846, gw_684, gw_123, gw_685⟩ (by decide +kernel) hR (fun r σ' h => c_x5_at h) rfl rfl hcat hdg k
set_option maxRecDepth 20000 in
theorem v_x5_at_RX10 {X : Cx} {cc : ByteArray} {nL : Nat} {ret : Option FieldType} {fr lo : Nat} {ad : Nat → Nat} {ρ : Type} {out : ρ → Option Value} {pc : Nat} {lv : List (Nat × Value)} {rest : List Value} {σ : St} {N : Nat} {K : Int32 → St → Option (ρ × St)} {a1 : Nat} {a2 : Int32} (C : Ok X cc RX10 nL ret fr lo) (hR : 0 + 1 ≤ fr ∧ 8 + (2 + 11) + 0 ≤ lo) (hcat : (rest.map fun v => v.category).sum ≤ 8) (hdg : decode cc pc = .ok (.invokestatic 153, 3)) (k : ∀ (r : Int32) (σ' : St), x5_at N σ a1 a2 = some (r, σ') → Sim X scC ad nL out (pc + 3) lv (.int r :: rest) σ' (K r σ')) : Sim X scC ad nL out pc lv (.int a2 :: .ref (ad a1) :: rest) σ (bd (x5_at N σ a1 a2) K) := g_callS C (out1 := outI) (y := yX5_at) (n := 2) ⟨gw_827, gw_684, gw_123, gw_685⟩ (by decide +kernel) hR (fun r σ' h => c_x5_at h) rfl rfl hcat hdg k
set_option maxRecDepth 20000 in
theorem v_x5_at_RX2 {X : Cx} {cc : ByteArray} {nL : Nat} {ret : Option FieldType} {fr lo : Nat} {ad : Nat → Nat} {ρ : Type} {out : ρ → Option Value} {pc : Nat} {lv : List (Nat × Value)} {rest : List Value} {σ : St} {N : Nat} {K : Int32 → St → Option (ρ × St)} {a1 : Nat} {a2 : Int32} (C : Ok X cc RX2 nL ret fr lo) (hR : 0 + 1 ≤ fr ∧ 8 + (2 + 11) + 0 ≤ lo) (hcat : (rest.map fun v => v.category).sum ≤ 8) (hdg : decode cc pc = .ok (.invokestatic 52, 3)) (k : ∀ (r : Int32) (σ' : St), x5_at N σ a1 a2 = some (r, σ') → Sim X scC ad nL out (pc + 3) lv (.int r :: rest) σ' (K r σ')) : Sim X scC ad nL out pc lv (.int a2 :: .ref (ad a1) :: rest) σ (bd (x5_at N σ a1 a2) K) := g_callS C (out1 := outI) (y := yX5_at) (n := 2) ⟨gw_1046, gw_684, gw_123, gw_685⟩ (by decide +kernel) hR (fun r σ' h => c_x5_at h) rfl rfl hcat hdg k
set_option maxRecDepth 20000 in
theorem v_x5_at_RX3 {X : Cx} {cc : ByteArray} {nL : Nat} {ret : Option FieldType} {fr lo : Nat} {ad : Nat → Nat} {ρ : Type} {out : ρ → Option Value} {pc : Nat} {lv : List (Nat × Value)} {rest : List Value} {σ : St} {N : Nat} {K : Int32 → St → Option (ρ × St)} {a1 : Nat} {a2 : Int32} (C : Ok X cc RX3 nL ret fr lo) (hR : 0 + 1 ≤ fr ∧ 8 + (2 + 11) + 0 ≤ lo) (hcat : (rest.map fun v => v.category).sum ≤ 8) (hdg : decode cc pc = .ok (.invokestatic 68, 3)) (k : ∀ (r : Int32) (σ' : St), x5_at N σ a1 a2 = some (r, σ') → Sim X scC ad nL out (pc + 3) lv (.int r :: rest) σ' (K r σ')) : Sim X scC ad nL out pc lv (.int a2 :: .ref (ad a1) :: rest) σ (bd (x5_at N σ a1 a2) K) := g_callS C (out1 := outI) (y := yX5_at) (n := 2) ⟨gw_683, gw_684, gw_123, gw_685⟩ (by decide +kernel) hR (fun r σ' h => c_x5_at h) rfl rfl hcat hdg k
set_option maxRecDepth 20000 in
theorem v_x5_at_RX4 {X : Cx} {cc : ByteArray} {nL : Nat} {ret : Option FieldType} {fr lo : Nat} {ad : Nat → Nat} {ρ : Type} {out : ρ → Option Value} {pc : Nat} {lv : List (Nat × Value)} {rest : List Value} {σ : St} {N : Nat} {K : Int32 → St → Option (ρ × St)} {a1 : Nat} {a2 : Int32} (C : Ok X cc RX4 nL ret fr lo) (hR : 0 + 1 ≤ fr ∧ 8 + (2 + 11) + 0 ≤ lo) (hcat : (rest.map fun v => v.category).sum ≤ 8) (hdg : decode cc pc = .ok (.invokestatic 114, 3)) (k : ∀ (r : Int32) (σ' : St), x5_at N σ a1 a2 = some (r, σ') → Sim X scC ad nL out (pc + 3) lv (.int r :: rest) σ' (K r σ')) : Sim X scC ad nL out pc lv (.int a2 :: .ref (ad a1) :: rest) σ (bd (x5_at N σ a1 a2) K) := g_callS C (out1 := outI) (y := yX5_at) (n := 2) ⟨gw_703, gw_684, gw_123, gw_685⟩ (by decide +kernel) hR (fun r σ' h => c_x5_at h) rfl rfl hcat hdg k
set_option maxRecDepth 20000 in
theorem v_x5_at_RX6 {X : Cx} {cc : ByteArray} {nL : Nat} {ret : Option FieldType} {fr lo : Nat} {ad : Nat → Nat} {ρ : Type} {out : ρ → Option Value} {pc : Nat} {lv : List (Nat × Value)} {rest : List Value} {σ : St} {N : Nat} {K : Int32 → St → Option (ρ × St)} {a1 : Nat} {a2 : Int32} (C : Ok X cc RX6 nL ret fr lo) (hR : 0 + 1 ≤ fr ∧ 8 + (2 + 11) + 0 ≤ lo) (hcat : (rest.map fun v => v.category).sum ≤ 8) (hdg : decode cc pc = .ok (.invokestatic 99, 3)) (k : ∀ (r : Int32) (σ' : St), x5_at N σ a1 a2 = some (r, σ') → Sim X scC ad nL out (pc + 3) lv (.int r :: rest) σ' (K r σ')) : Sim X scC ad nL out pc lv (.int a2 :: .ref (ad a1) :: rest) σ (bd (x5_at N σ a1 a2) K) := g_callS C (out1 := outI) (y := yX5_at) (n := 2) ⟨gw_952, gw_684, gw_123, gw_685⟩ (by decide +kernel) hR (fun r σ' h => c_x5_at h) rfl rfl hcat hdg k
set_option maxRecDepth 20000 in
theorem v_x5_at_RX7 {X : Cx} {cc : ByteArray} {nL : Nat} {ret : Option FieldType} {fr lo : Nat} {ad : Nat → Nat} {ρ : Type} {out : ρ → Option Value} {pc : Nat} {lv : List (Nat × Value)} {rest : List Value} {σ : St} {N : Nat} {K : Int32 → St → Option (ρ × St)} {a1 : Nat} {a2 : Int32} (C : Ok X cc RX7 nL ret fr lo) (hR : 0 + 1 ≤ fr ∧ 8 + (2 + 11) + 0 ≤ lo) (hcat : (rest.map fun v => v.category).sum ≤ 8) (hdg : decode cc pc = .ok (.invokestatic 34, 3)) (k : ∀ (r : Int32) (σ' : St), x5_at N σ a1 a2 = some (r, σ') → Sim X scC ad nL out (pc + 3) lv (.int r :: rest) σ' (K r σ')) : Sim X scC ad nL out pc lv (.int a2 :: .ref (ad a1) :: rest) σ (bd (x5_at N σ a1 a2) K) := g_callS C (out1 := outI) (y := yX5_at) (n := 2) ⟨gw_815, gw_684, gw_123, gw_685⟩ (by decide +kernel) hR (fun r σ' h => c_x5_at h) rfl rfl hcat hdg k
set_option maxRecDepth 20000 in
theorem v_x5_at_RX9 {X : Cx} {cc : ByteArray} {nL : Nat} {ret : Option FieldType} {fr lo : Nat} {ad : Nat → Nat} {ρ : Type} {out : ρ → Option Value} {pc : Nat} {lv : List (Nat × Value)} {rest : List Value} {σ : St} {N : Nat} {K : Int32 → St → Option (ρ × St)} {a1 : Nat} {a2 : Int32} (C : Ok X cc RX9 nL ret fr lo) (hR : 0 + 1 ≤ fr ∧ 8 + (2 + 11) + 0 ≤ lo) (hcat : (rest.map fun v => v.category).sum ≤ 8) (hdg : decode cc pc = .ok (.invokestatic 40, 3)) (k : ∀ (r : Int32) (σ' : St), x5_at N σ a1 a2 = some (r, σ') → Sim X scC ad nL out (pc + 3) lv (.int r :: rest) σ' (K r σ')) : Sim X scC ad nL out pc lv (.int a2 :: .ref (ad a1) :: rest) σ (bd (x5_at N σ a1 a2) K) := g_callS C (out1 := outI) (y := yX5_at) (n := 2) ⟨gw_1017, gw_684, gw_123, gw_685⟩ (by decide +kernel) hR (fun r σ' h => c_x5_at h) rfl rfl hcat hdg k

def x7_outers_33 (N : Nat) (σ : St) (t0 : Int32) (t1 : Int32) : Option (Int32 × St) :=
  some (if t1 < t0 then t1 else t0, σ)
def x7_outers (N : Nat) (σ : St) : Option (Int32 × St) :=
  gd (isPr (gP σ 700)) (bd (x5_at N σ ((gP σ 700) + 4) (gI σ 701)) (fun r2 σ3 => gd (isPr (gP σ3 700)) (bd (x3_has N σ3 (gP σ3 700) (gI σ3 701)) (fun r5 σ6 => (if r5 = 0 then x7_outers_33 N σ6 r2 0 else x7_outers_33 N σ6 r2 4)))))
set_option maxHeartbeats 4000000 in
set_option maxRecDepth 100000 in
theorem s_x7_outers_33 {X : Cx} {ad : Nat → Nat} (C : Ok X cX7_outers RX7 1 (some .int) 1 21) (N : Nat) (σ : St) (t0 : Int32) (t1 : Int32) : Sim X scC ad 1 outI 33 [] [.int t1, .int t0] σ (x7_outers_33 N σ t0 t1) := by
  unfold x7_outers_33
  refine g_mmin C gw_817 gw_545 gw_118 gw_546 ⟨by decide, by decide⟩ (Nat.le_of_ble_eq_true rfl) dX7_outers_33 ?_
  exact g_iret C dX7_outers_36
set_option maxHeartbeats 4000000 in
set_option maxRecDepth 100000 in
theorem s_x7_outers {X : Cx} {ad : Nat → Nat} (C : Ok X cX7_outers RX7 1 (some .int) 1 21) (N : Nat) (σ : St) : Sim X scC ad 1 outI 0 [(0, .ref (ad 7))] [] σ (x7_outers N σ) := by
  unfold x7_outers
  refine g_aload_n C 0 dX7_outers_0 rfl rfl ?_
  refine gf_RX7_19 C  (v := gP σ 700) dX7_outers_1 rfl ?_
  refine g_gd (fun hp1 => ?_)
  refine gf_RX7_29 C hp1 dX7_outers_4 ?_
  refine g_aload_n C 0 dX7_outers_7 rfl rfl ?_
  refine gf_RX7_9 C  (v := gI σ 701) dX7_outers_8 rfl ?_
  refine v_x5_at_RX7 C ⟨by decide, by decide⟩ (Nat.le_of_ble_eq_true rfl) dX7_outers_11 (fun r2 σ3 _ => ?_)
  refine g_aload_n C 0 dX7_outers_14 rfl rfl ?_
  refine gf_RX7_19 C  (v := gP σ3 700) dX7_outers_15 rfl ?_
  refine g_aload_n C 0 dX7_outers_18 rfl rfl ?_
  refine gf_RX7_9 C  (v := gI σ3 701) dX7_outers_19 rfl ?_
  refine g_gd (fun hp4 => ?_)
  refine v_x3_has_RX7 C hp4 ⟨by decide, by decide⟩ (Nat.le_of_ble_eq_true rfl) dX7_outers_22 (fun r5 σ6 _ => ?_)
  refine g_if_eq C 32 dX7_outers_25 (by decide) ?_ ?_
  · refine g_iconst C 0 dX7_outers_32 (by decide) ?_
    exact g_sub [] rfl (s_x7_outers_33 C N σ6 r2 0)
  · refine g_iconst C 4 dX7_outers_28 (by decide) ?_
    refine g_goto C 33 dX7_outers_29 (by decide) ?_
    exact g_sub [] rfl (s_x7_outers_33 C N σ6 r2 4)
theorem c_x7_outers {Y : Yx} {ad : Nat → Nat} {N : Nat} {σ : St} {r : Int32} {σ' : St} (h : x7_outers N σ = some (r, σ')) : Con Y scC ad yX7_outers cX7_outers 1 (some .int) 1 21 [.ref (ad 7)] σ (outI r) σ' := con_of (by decide) rfl (Nat.le_of_ble_eq_true rfl) rfl (fun X hX C => s_x7_outers C N σ) h
set_option maxRecDepth 20000 in
theorem v_x7_outers_RX1 {X : Cx} {cc : ByteArray} {nL : Nat} {ret : Option FieldType} {fr lo : Nat} {ad : Nat → Nat} {ρ : Type} {out : ρ → Option Value} {pc : Nat} {lv : List (Nat × Value)} {rest : List Value} {σ : St} {N : Nat} {K : Int32 → St → Option (ρ × St)} (C : Ok X cc RX1 nL ret fr lo) (hR : 1 + 1 ≤ fr ∧ 8 + (1 + 11) + 21 ≤ lo) (hcat : (rest.map fun v => v.category).sum ≤ 8) (hdg : decode cc pc = .ok (.invokevirtual 111, 3)) (k : ∀ (r : Int32) (σ' : St), x7_outers N σ = some (r, σ') → Sim X scC ad nL out (pc + 3) lv (.int r :: rest) σ' (K r σ')) : Sim X scC ad nL out pc lv (.ref (ad 7) :: rest) σ (bd (x7_outers N σ) K) := g_callV C (out1 := outI) (y := yX7_outers) (n := 0) ⟨gw_845, gw_812, gw_813, gw_112, gw_814⟩ (by decide +kernel) hR (o := 7) (ci := 6) (q9 := (RX7, TX7, 3)) im_7 rfl rfl rfl (fun r σ' h => c_x7_outers h) rfl rfl hcat hdg k
set_option maxRecDepth 20000 in
theorem v_x7_outers_RX10 {X : Cx} {cc : ByteArray} {nL : Nat} {ret : Option FieldType} {fr lo : Nat} {ad : Nat → Nat} {ρ : Type} {out : ρ → Option Value} {pc : Nat} {lv : List (Nat × Value)} {rest : List Value} {σ : St} {N : Nat} {K : Int32 → St → Option (ρ × St)} (C : Ok X cc RX10 nL ret fr lo) (hR : 1 + 1 ≤ fr ∧ 8 + (1 + 11) + 21 ≤ lo) (hcat : (rest.map fun v => v.category).sum ≤ 8) (hdg : decode cc pc = .ok (.invokevirtual 129, 3)) (k : ∀ (r : Int32) (σ' : St), x7_outers N σ = some (r, σ') → Sim X scC ad nL out (pc + 3) lv (.int r :: rest) σ' (K r σ')) : Sim X scC ad nL out pc lv (.ref (ad 7) :: rest) σ (bd (x7_outers N σ) K) := g_callV C (out1 := outI) (y := yX7_outers) (n := 0) ⟨gw_811, gw_812, gw_813, gw_112, gw_814⟩ (by decide +kernel) hR (o := 7) (ci := 6) (q9 := (RX7, TX7, 3)) im_7 rfl rfl rfl (fun r σ' h => c_x7_outers h) rfl rfl hcat hdg k
set_option maxRecDepth 20000 in
theorem v_x7_outers_RX6 {X : Cx} {cc : ByteArray} {nL : Nat} {ret : Option FieldType} {fr lo : Nat} {ad : Nat → Nat} {ρ : Type} {out : ρ → Option Value} {pc : Nat} {lv : List (Nat × Value)} {rest : List Value} {σ : St} {N : Nat} {K : Int32 → St → Option (ρ × St)} (C : Ok X cc RX6 nL ret fr lo) (hR : 1 + 1 ≤ fr ∧ 8 + (1 + 11) + 21 ≤ lo) (hcat : (rest.map fun v => v.category).sum ≤ 8) (hdg : decode cc pc = .ok (.invokevirtual 79, 3)) (k : ∀ (r : Int32) (σ' : St), x7_outers N σ = some (r, σ') → Sim X scC ad nL out (pc + 3) lv (.int r :: rest) σ' (K r σ')) : Sim X scC ad nL out pc lv (.ref (ad 7) :: rest) σ (bd (x7_outers N σ) K) := g_callV C (out1 := outI) (y := yX7_outers) (n := 0) ⟨gw_938, gw_812, gw_813, gw_112, gw_814⟩ (by decide +kernel) hR (o := 7) (ci := 6) (q9 := (RX7, TX7, 3)) im_7 rfl rfl rfl (fun r σ' h => c_x7_outers h) rfl rfl hcat hdg k
set_option maxRecDepth 20000 in
theorem v_x7_outers_RX7 {X : Cx} {cc : ByteArray} {nL : Nat} {ret : Option FieldType} {fr lo : Nat} {ad : Nat → Nat} {ρ : Type} {out : ρ → Option Value} {pc : Nat} {lv : List (Nat × Value)} {rest : List Value} {σ : St} {N : Nat} {K : Int32 → St → Option (ρ × St)} (C : Ok X cc RX7 nL ret fr lo) (hR : 1 + 1 ≤ fr ∧ 8 + (1 + 11) + 21 ≤ lo) (hcat : (rest.map fun v => v.category).sum ≤ 8) (hdg : decode cc pc = .ok (.invokevirtual 50, 3)) (k : ∀ (r : Int32) (σ' : St), x7_outers N σ = some (r, σ') → Sim X scC ad nL out (pc + 3) lv (.int r :: rest) σ' (K r σ')) : Sim X scC ad nL out pc lv (.ref (ad 7) :: rest) σ (bd (x7_outers N σ) K) := g_callV C (out1 := outI) (y := yX7_outers) (n := 0) ⟨gw_924, gw_812, gw_813, gw_112, gw_814⟩ (by decide +kernel) hR (o := 7) (ci := 6) (q9 := (RX7, TX7, 3)) im_7 rfl rfl rfl (fun r σ' h => c_x7_outers h) rfl rfl hcat hdg k

def x5_put (N : Nat) (σ : St) (a1 : Nat) (a2 : Int32) (a3 : Int32) : Option (Unit × St) :=
  (if a2 < 0 then some ((), σ) else gd (isIA a1) ((if (Int32.ofNat (lenC a1)) ≤ a2 then some ((), σ) else gd (ib a2 (lenC a1)) (some ((), (sA σ a1 a2.toNatClampNeg a3))))))
set_option maxHeartbeats 4000000 in
set_option maxRecDepth 100000 in
theorem s_x5_put {X : Cx} {ad : Nat → Nat} (C : Ok X cX5_put RX5 3 none 0 0) (N : Nat) (σ : St) (a1 : Nat) (a2 : Int32) (a3 : Int32) : Sim X scC ad 3 outV 0 [(0, .ref (ad a1)), (1, .int a2), (2, .int a3)] [] σ (x5_put N σ a1 a2 a3) := by
  unfold x5_put
  refine g_iload_n C 1 dX5_put_0 rfl rfl ?_
  refine g_if_lt C 14 dX5_put_1 (by decide) ?_ ?_
  · exact g_vret C dX5_put_14
  · refine g_iload_n C 1 dX5_put_4 rfl rfl ?_
    refine g_aload_n C 0 dX5_put_5 rfl rfl ?_
    refine g_gd (fun hp1 => ?_)
    refine ca_lenI C (j := a1) (Int32.ofNat (lenC a1)) hp1 rfl dX5_put_6 ?_
    refine g_icmp_ge C 14 dX5_put_7 (by decide) ?_ ?_
    · exact g_vret C dX5_put_14
    · refine g_aload_n C 0 dX5_put_10 rfl rfl ?_
      refine g_iload_n C 1 dX5_put_11 rfl rfl ?_
      refine g_iload_n C 2 dX5_put_12 rfl rfl ?_
      refine ca_stI C (j := a1) hp1 rfl dX5_put_13 ?_
      exact g_vret C dX5_put_14
theorem c_x5_put {Y : Yx} {ad : Nat → Nat} {N : Nat} {σ : St} {a1 : Nat} {a2 : Int32} {a3 : Int32} {r : Unit} {σ' : St} (h : x5_put N σ a1 a2 a3 = some (r, σ')) : Con Y scC ad yX5_put cX5_put 3 none 0 0 [.ref (ad a1), .int a2, .int a3] σ (outV r) σ' := con_of (by decide) rfl (Nat.le_of_ble_eq_true rfl) rfl (fun X hX C => s_x5_put C N σ a1 a2 a3) h
set_option maxRecDepth 20000 in
theorem v_x5_put_RX1 {X : Cx} {cc : ByteArray} {nL : Nat} {ret : Option FieldType} {fr lo : Nat} {ad : Nat → Nat} {ρ : Type} {out : ρ → Option Value} {pc : Nat} {lv : List (Nat × Value)} {rest : List Value} {σ : St} {N : Nat} {K : Unit → St → Option (ρ × St)} {a1 : Nat} {a2 : Int32} {a3 : Int32} (C : Ok X cc RX1 nL ret fr lo) (hR : 0 + 1 ≤ fr ∧ 8 + (3 + 11) + 0 ≤ lo) (hcat : (rest.map fun v => v.category).sum ≤ 8) (hdg : decode cc pc = .ok (.invokestatic 81, 3)) (k : ∀ (r : Unit) (σ' : St), x5_put N σ a1 a2 a3 = some (r, σ') → Sim X scC ad nL out (pc + 3) lv rest σ' (K r σ')) : Sim X scC ad nL out pc lv (.int a3 :: .int a2 :: .ref (ad a1) :: rest) σ (bd (x5_put N σ a1 a2 a3) K) := g_callS C (out1 := outV) (y := yX5_put) (n := 3) ⟨gw_851, gw_622, gw_123, gw_623⟩ (by decide +kernel) hR (fun r σ' h => c_x5_put h) rfl rfl hcat hdg k
set_option maxRecDepth 20000 in
theorem v_x5_put_RX10 {X : Cx} {cc : ByteArray} {nL : Nat} {ret : Option FieldType} {fr lo : Nat} {ad : Nat → Nat} {ρ : Type} {out : ρ → Option Value} {pc : Nat} {lv : List (Nat × Value)} {rest : List Value} {σ : St} {N : Nat} {K : Unit → St → Option (ρ × St)} {a1 : Nat} {a2 : Int32} {a3 : Int32} (C : Ok X cc RX10 nL ret fr lo) (hR : 0 + 1 ≤ fr ∧ 8 + (3 + 11) + 0 ≤ lo) (hcat : (rest.map fun v => v.category).sum ≤ 8) (hdg : decode cc pc = .ok (.invokestatic 136, 3)) (k : ∀ (r : Unit) (σ' : St), x5_put N σ a1 a2 a3 = some (r, σ') → Sim X scC ad nL out (pc + 3) lv rest σ' (K r σ')) : Sim X scC ad nL out pc lv (.int a3 :: .int a2 :: .ref (ad a1) :: rest) σ (bd (x5_put N σ a1 a2 a3) K) := g_callS C (out1 := outV) (y := yX5_put) (n := 3) ⟨gw_818, gw_622, gw_123, gw_623⟩ (by decide +kernel) hR (fun r σ' h => c_x5_put h) rfl rfl hcat hdg k
set_option maxRecDepth 20000 in
theorem v_x5_put_RX2 {X : Cx} {cc : ByteArray} {nL : Nat} {ret : Option FieldType} {fr lo : Nat} {ad : Nat → Nat} {ρ : Type} {out : ρ → Option Value} {pc : Nat} {lv : List (Nat × Value)} {rest : List Value} {σ : St} {N : Nat} {K : Unit → St → Option (ρ × St)} {a1 : Nat} {a2 : Int32} {a3 : Int32} (C : Ok X cc RX2 nL ret fr lo) (hR : 0 + 1 ≤ fr ∧ 8 + (3 + 11) + 0 ≤ lo) (hcat : (rest.map fun v => v.category).sum ≤ 8) (hdg : decode cc pc = .ok (.invokestatic 101, 3)) (k : ∀ (r : Unit) (σ' : St), x5_put N σ a1 a2 a3 = some (r, σ') → Sim X scC ad nL out (pc + 3) lv rest σ' (K r σ')) : Sim X scC ad nL out pc lv (.int a3 :: .int a2 :: .ref (ad a1) :: rest) σ (bd (x5_put N σ a1 a2 a3) K) := g_callS C (out1 := outV) (y := yX5_put) (n := 3) ⟨gw_1047, gw_622, gw_123, gw_623⟩ (by decide +kernel) hR (fun r σ' h => c_x5_put h) rfl rfl hcat hdg k
set_option maxRecDepth 20000 in
theorem v_x5_put_RX3 {X : Cx} {cc : ByteArray} {nL : Nat} {ret : Option FieldType} {fr lo : Nat} {ad : Nat → Nat} {ρ : Type} {out : ρ → Option Value} {pc : Nat} {lv : List (Nat × Value)} {rest : List Value} {σ : St} {N : Nat} {K : Unit → St → Option (ρ × St)} {a1 : Nat} {a2 : Int32} {a3 : Int32} (C : Ok X cc RX3 nL ret fr lo) (hR : 0 + 1 ≤ fr ∧ 8 + (3 + 11) + 0 ≤ lo) (hcat : (rest.map fun v => v.category).sum ≤ 8) (hdg : decode cc pc = .ok (.invokestatic 62, 3)) (k : ∀ (r : Unit) (σ' : St), x5_put N σ a1 a2 a3 = some (r, σ') → Sim X scC ad nL out (pc + 3) lv rest σ' (K r σ')) : Sim X scC ad nL out pc lv (.int a3 :: .int a2 :: .ref (ad a1) :: rest) σ (bd (x5_put N σ a1 a2 a3) K) := g_callS C (out1 := outV) (y := yX5_put) (n := 3) ⟨gw_674, gw_622, gw_123, gw_623⟩ (by decide +kernel) hR (fun r σ' h => c_x5_put h) rfl rfl hcat hdg k
set_option maxRecDepth 20000 in
theorem v_x5_put_RX4 {X : Cx} {cc : ByteArray} {nL : Nat} {ret : Option FieldType} {fr lo : Nat} {ad : Nat → Nat} {ρ : Type} {out : ρ → Option Value} {pc : Nat} {lv : List (Nat × Value)} {rest : List Value} {σ : St} {N : Nat} {K : Unit → St → Option (ρ × St)} {a1 : Nat} {a2 : Int32} {a3 : Int32} (C : Ok X cc RX4 nL ret fr lo) (hR : 0 + 1 ≤ fr ∧ 8 + (3 + 11) + 0 ≤ lo) (hcat : (rest.map fun v => v.category).sum ≤ 8) (hdg : decode cc pc = .ok (.invokestatic 108, 3)) (k : ∀ (r : Unit) (σ' : St), x5_put N σ a1 a2 a3 = some (r, σ') → Sim X scC ad nL out (pc + 3) lv rest σ' (K r σ')) : Sim X scC ad nL out pc lv (.int a3 :: .int a2 :: .ref (ad a1) :: rest) σ (bd (x5_put N σ a1 a2 a3) K) := g_callS C (out1 := outV) (y := yX5_put) (n := 3) ⟨gw_698, gw_622, gw_123, gw_623⟩ (by decide +kernel) hR (fun r σ' h => c_x5_put h) rfl rfl hcat hdg k
set_option maxRecDepth 20000 in
theorem v_x5_put_RX6 {X : Cx} {cc : ByteArray} {nL : Nat} {ret : Option FieldType} {fr lo : Nat} {ad : Nat → Nat} {ρ : Type} {out : ρ → Option Value} {pc : Nat} {lv : List (Nat × Value)} {rest : List Value} {σ : St} {N : Nat} {K : Unit → St → Option (ρ × St)} {a1 : Nat} {a2 : Int32} {a3 : Int32} (C : Ok X cc RX6 nL ret fr lo) (hR : 0 + 1 ≤ fr ∧ 8 + (3 + 11) + 0 ≤ lo) (hcat : (rest.map fun v => v.category).sum ≤ 8) (hdg : decode cc pc = .ok (.invokestatic 151, 3)) (k : ∀ (r : Unit) (σ' : St), x5_put N σ a1 a2 a3 = some (r, σ') → Sim X scC ad nL out (pc + 3) lv rest σ' (K r σ')) : Sim X scC ad nL out pc lv (.int a3 :: .int a2 :: .ref (ad a1) :: rest) σ (bd (x5_put N σ a1 a2 a3) K) := g_callS C (out1 := outV) (y := yX5_put) (n := 3) ⟨gw_937, gw_622, gw_123, gw_623⟩ (by decide +kernel) hR (fun r σ' h => c_x5_put h) rfl rfl hcat hdg k
set_option maxRecDepth 20000 in
theorem v_x5_put_RX8 {X : Cx} {cc : ByteArray} {nL : Nat} {ret : Option FieldType} {fr lo : Nat} {ad : Nat → Nat} {ρ : Type} {out : ρ → Option Value} {pc : Nat} {lv : List (Nat × Value)} {rest : List Value} {σ : St} {N : Nat} {K : Unit → St → Option (ρ × St)} {a1 : Nat} {a2 : Int32} {a3 : Int32} (C : Ok X cc RX8 nL ret fr lo) (hR : 0 + 1 ≤ fr ∧ 8 + (3 + 11) + 0 ≤ lo) (hcat : (rest.map fun v => v.category).sum ≤ 8) (hdg : decode cc pc = .ok (.invokestatic 51, 3)) (k : ∀ (r : Unit) (σ' : St), x5_put N σ a1 a2 a3 = some (r, σ') → Sim X scC ad nL out (pc + 3) lv rest σ' (K r σ')) : Sim X scC ad nL out pc lv (.int a3 :: .int a2 :: .ref (ad a1) :: rest) σ (bd (x5_put N σ a1 a2 a3) K) := g_callS C (out1 := outV) (y := yX5_put) (n := 3) ⟨gw_621, gw_622, gw_123, gw_623⟩ (by decide +kernel) hR (fun r σ' h => c_x5_put h) rfl rfl hcat hdg k
set_option maxRecDepth 20000 in
theorem v_x5_put_RX9 {X : Cx} {cc : ByteArray} {nL : Nat} {ret : Option FieldType} {fr lo : Nat} {ad : Nat → Nat} {ρ : Type} {out : ρ → Option Value} {pc : Nat} {lv : List (Nat × Value)} {rest : List Value} {σ : St} {N : Nat} {K : Unit → St → Option (ρ × St)} {a1 : Nat} {a2 : Int32} {a3 : Int32} (C : Ok X cc RX9 nL ret fr lo) (hR : 0 + 1 ≤ fr ∧ 8 + (3 + 11) + 0 ≤ lo) (hcat : (rest.map fun v => v.category).sum ≤ 8) (hdg : decode cc pc = .ok (.invokestatic 68, 3)) (k : ∀ (r : Unit) (σ' : St), x5_put N σ a1 a2 a3 = some (r, σ') → Sim X scC ad nL out (pc + 3) lv rest σ' (K r σ')) : Sim X scC ad nL out pc lv (.int a3 :: .int a2 :: .ref (ad a1) :: rest) σ (bd (x5_put N σ a1 a2 a3) K) := g_callS C (out1 := outV) (y := yX5_put) (n := 3) ⟨gw_1024, gw_622, gw_123, gw_623⟩ (by decide +kernel) hR (fun r σ' h => c_x5_put h) rfl rfl hcat hdg k

def x1_raise_20 (N : Nat) (σ : St) (x1 : Int32) (t0 : Int32) : Option (Unit × St) :=
  bd (x5_at N σ 12 x1) (fun r1 σ2 => (if (r1 ||| t0) = r1 then some ((), σ2) else bd (x5_put N σ2 12 x1 (r1 ||| t0)) (fun _ σ4 => some ((), (sI (sI σ4 911 ((gI σ4 911) + 1)) 909 1)))))
def x1_raise (N : Nat) (σ : St) (a1 : Int32) (a2 : Int32) : Option (Unit × St) :=
  (if (lg_cmp (((gL σ 912) >>> (a1.toInt64 &&& 63)) &&& 1) 0) = 0 then x1_raise_20 N σ a1 a2 else x1_raise_20 N σ a1 (a2 &&& 2))
set_option maxHeartbeats 4000000 in
set_option maxRecDepth 100000 in
theorem s_x1_raise_20 {X : Cx} {ad : Nat → Nat} (C : Ok X cX1_raise RX1 5 none 1 22) (N : Nat) (σ : St) (x1 : Int32) (t0 : Int32) : Sim X scC ad 5 outV 20 [(0, .ref (ad 9)), (1, .int x1)] [.int t0] σ (x1_raise_20 N σ x1 t0) := by
  unfold x1_raise_20
  refine g_istore_n C [(3, .int t0), (0, .ref (ad 9)), (1, .int x1)] dX1_raise_20 rfl (by decide) rfl ?_
  refine g_aload_n C 1 dX1_raise_21 rfl rfl ?_
  refine gf_RX1_19 C  dX1_raise_22 ?_
  refine g_iload_n C 2 dX1_raise_25 rfl rfl ?_
  refine v_x5_at_RX1 C ⟨by decide, by decide⟩ (Nat.le_of_ble_eq_true rfl) dX1_raise_26 (fun r1 σ2 _ => ?_)
  refine g_istore C [(4, .int r1), (3, .int t0), (0, .ref (ad 9)), (1, .int x1)] dX1_raise_29 (by decide) rfl ?_
  refine g_iload C 0 dX1_raise_31 rfl ?_
  refine g_iload_n C 1 dX1_raise_33 rfl rfl ?_
  refine g_ior C dX1_raise_34 ?_
  refine g_iload C 0 dX1_raise_35 rfl ?_
  refine g_icmp_eq C 67 dX1_raise_37 (by decide) ?_ ?_
  · exact g_vret C dX1_raise_67
  · refine g_aload_n C 2 dX1_raise_40 rfl rfl ?_
    refine gf_RX1_19 C  dX1_raise_41 ?_
    refine g_iload_n C 3 dX1_raise_44 rfl rfl ?_
    refine g_iload C 0 dX1_raise_45 rfl ?_
    refine g_iload_n C 1 dX1_raise_47 rfl rfl ?_
    refine g_ior C dX1_raise_48 ?_
    refine v_x5_put_RX1 C ⟨by decide, by decide⟩ (Nat.le_of_ble_eq_true rfl) dX1_raise_49 (fun r3 σ4 _ => ?_)
    refine g_aload_n C 2 dX1_raise_52 rfl rfl ?_
    refine g_dup C dX1_raise_53 rfl ?_
    refine gf_RX1_78 C  (v := gI σ4 911) dX1_raise_54 rfl ?_
    refine g_iconst C 1 dX1_raise_57 (by decide) ?_
    refine g_iadd C dX1_raise_58 ?_
    refine pf_RX1_78 C dX1_raise_59 ?_
    refine g_aload_n C 2 dX1_raise_62 rfl rfl ?_
    refine g_iconst C 1 dX1_raise_63 (by decide) ?_
    refine pf_RX1_60 C rfl dX1_raise_64 ?_
    exact g_vret C dX1_raise_67
set_option maxHeartbeats 4000000 in
set_option maxRecDepth 100000 in
theorem s_x1_raise {X : Cx} {ad : Nat → Nat} (C : Ok X cX1_raise RX1 5 none 1 22) (N : Nat) (σ : St) (a1 : Int32) (a2 : Int32) : Sim X scC ad 5 outV 0 [(0, .ref (ad 9)), (1, .int a1), (2, .int a2)] [] σ (x1_raise N σ a1 a2) := by
  unfold x1_raise
  refine g_aload_n C 0 dX1_raise_0 rfl rfl ?_
  refine gf_RX1_50 C  (v := gL σ 912) dX1_raise_1 rfl ?_
  refine g_iload_n C 1 dX1_raise_4 rfl rfl ?_
  refine g_lshr C dX1_raise_5 ?_
  refine g_lconst C 1 dX1_raise_6 (by decide) ?_
  refine g_land C dX1_raise_7 ?_
  refine g_lconst C 0 dX1_raise_8 (by decide) ?_
  refine g_lcmp C dX1_raise_9 ?_
  refine g_if_eq C 19 dX1_raise_10 (by decide) ?_ ?_
  · refine g_iload_n C 2 dX1_raise_19 rfl rfl ?_
    exact g_sub [0, 1] rfl (s_x1_raise_20 C N σ a1 a2)
  · refine g_iload_n C 2 dX1_raise_13 rfl rfl ?_
    refine g_iconst C 2 dX1_raise_14 (by decide) ?_
    refine g_iand C dX1_raise_15 ?_
    refine g_goto C 20 dX1_raise_16 (by decide) ?_
    exact g_sub [0, 1] rfl (s_x1_raise_20 C N σ a1 (a2 &&& 2))
theorem c_x1_raise {Y : Yx} {ad : Nat → Nat} {N : Nat} {σ : St} {a1 : Int32} {a2 : Int32} {r : Unit} {σ' : St} (h : x1_raise N σ a1 a2 = some (r, σ')) : Con Y scC ad yX1_raise cX1_raise 5 none 1 22 [.ref (ad 9), .int a1, .int a2] σ (outV r) σ' := con_of (by decide) rfl (Nat.le_of_ble_eq_true rfl) rfl (fun X hX C => s_x1_raise C N σ a1 a2) h
set_option maxRecDepth 20000 in
theorem v_x1_raise_RX1 {X : Cx} {cc : ByteArray} {nL : Nat} {ret : Option FieldType} {fr lo : Nat} {ad : Nat → Nat} {ρ : Type} {out : ρ → Option Value} {pc : Nat} {lv : List (Nat × Value)} {rest : List Value} {σ : St} {N : Nat} {K : Unit → St → Option (ρ × St)} {a1 : Int32} {a2 : Int32} (C : Ok X cc RX1 nL ret fr lo) (hR : 1 + 1 ≤ fr ∧ 8 + (5 + 11) + 22 ≤ lo) (hcat : (rest.map fun v => v.category).sum ≤ 8) (hdg : decode cc pc = .ok (.invokevirtual 118, 3)) (k : ∀ (r : Unit) (σ' : St), x1_raise N σ a1 a2 = some (r, σ') → Sim X scC ad nL out (pc + 3) lv rest σ' (K r σ')) : Sim X scC ad nL out pc lv (.int a2 :: .int a1 :: .ref (ad 9) :: rest) σ (bd (x1_raise N σ a1 a2) K) := g_callV C (out1 := outV) (y := yX1_raise) (n := 2) ⟨gw_847, gw_849, gw_27, gw_113, gw_850⟩ (by decide +kernel) hR (o := 9) (ci := 1) (q9 := (RX1, TX1, 14)) im_9 rfl rfl rfl (fun r σ' h => c_x1_raise h) rfl rfl hcat hdg k

def x1_reachEntry_33_b (N : Nat) (rec33 : St → Int32 → Option (Unit × St)) (σ : St) (x1 : Int32) : Option (Unit × St) :=
  bd (x7_outers N σ) (fun r4 σ5 => (if r4 ≤ x1 then some ((), σ5) else bd (x5_at N σ5 8 x1) (fun r6 σ7 => bd (x1_raise N σ7 (((gI σ7 701) * 4) + x1) r6) (fun _ σ9 => bd (x1_raise N σ9 40 (r6 &&& 2)) (fun _ σ11 => bd (x1_raise N σ11 41 (r6 &&& 2)) (fun _ σ13 => rec33 σ13 (x1 + 1)))))))
def x1_reachEntry_33 (N : Nat) : Nat → St → Int32 → Option (Unit × St)
  | 0 => fun _ _ => none
  | n + 1 => fun σ x1 => x1_reachEntry_33_b N (x1_reachEntry_33 N n) σ x1
def x1_reachEntry (N : Nat) (σ : St) : Option (Unit × St) :=
  gd (isPr (gP σ 906)) (bd (x3_has N σ (gP σ 906) (gI σ 701)) (fun r2 σ3 => (if r2 = 0 then some ((), σ3) else x1_reachEntry_33 N N (sI σ3 910 ((1 : Int32) <<< ((gI σ3 701) &&& 31))) 0)))
set_option maxHeartbeats 4000000 in
set_option maxRecDepth 100000 in
theorem s_x1_reachEntry_33_b {X : Cx} {ad : Nat → Nat} (C : Ok X cX1_reachEntry RX1 3 none 2 46) (N : Nat) {rec33 : St → Int32 → Option (Unit × St)} (hrec33 : ∀ (σ : St) (x1 : Int32), Sim X scC ad 3 outV 33 [(0, .ref (ad 9)), (1, .int x1)] [] σ (rec33 σ x1)) (σ : St) (x1 : Int32) : Sim X scC ad 3 outV 33 [(0, .ref (ad 9)), (1, .int x1)] [] σ (x1_reachEntry_33_b N rec33 σ x1) := by
  unfold x1_reachEntry_33_b
  refine g_iload_n C 1 dX1_reachEntry_33 rfl rfl ?_
  refine g_aload_n C 0 dX1_reachEntry_34 rfl rfl ?_
  refine gf_RX1_32 C  dX1_reachEntry_35 ?_
  refine v_x7_outers_RX1 C ⟨by decide, by decide⟩ (Nat.le_of_ble_eq_true rfl) dX1_reachEntry_38 (fun r4 σ5 _ => ?_)
  refine g_icmp_ge C 96 dX1_reachEntry_41 (by decide) ?_ ?_
  · exact g_vret C dX1_reachEntry_96
  · refine g_aload_n C 0 dX1_reachEntry_44 rfl rfl ?_
    refine gf_RX1_32 C  dX1_reachEntry_45 ?_
    refine gf_RX1_115 C  dX1_reachEntry_48 ?_
    refine g_iload_n C 1 dX1_reachEntry_51 rfl rfl ?_
    refine v_x5_at_RX1 C ⟨by decide, by decide⟩ (Nat.le_of_ble_eq_true rfl) dX1_reachEntry_52 (fun r6 σ7 _ => ?_)
    refine g_istore_n C [(2, .int r6), (0, .ref (ad 9)), (1, .int x1)] dX1_reachEntry_55 rfl (by decide) rfl ?_
    refine g_aload_n C 1 dX1_reachEntry_56 rfl rfl ?_
    refine g_aload_n C 1 dX1_reachEntry_57 rfl rfl ?_
    refine gf_RX1_32 C  dX1_reachEntry_58 ?_
    refine gf_RX1_104 C  (v := gI σ7 701) dX1_reachEntry_61 rfl ?_
    refine g_iconst C 4 dX1_reachEntry_64 (by decide) ?_
    refine g_imul C dX1_reachEntry_65 ?_
    refine g_iload_n C 2 dX1_reachEntry_66 rfl rfl ?_
    refine g_iadd C dX1_reachEntry_67 ?_
    refine g_iload_n C 0 dX1_reachEntry_68 rfl rfl ?_
    refine v_x1_raise_RX1 C ⟨by decide, by decide⟩ (Nat.le_of_ble_eq_true rfl) dX1_reachEntry_69 (fun r8 σ9 _ => ?_)
    refine g_aload_n C 1 dX1_reachEntry_72 rfl rfl ?_
    refine g_bipush C 40 dX1_reachEntry_73 (by decide) ?_
    refine g_iload_n C 0 dX1_reachEntry_75 rfl rfl ?_
    refine g_iconst C 2 dX1_reachEntry_76 (by decide) ?_
    refine g_iand C dX1_reachEntry_77 ?_
    refine v_x1_raise_RX1 C ⟨by decide, by decide⟩ (Nat.le_of_ble_eq_true rfl) dX1_reachEntry_78 (fun r10 σ11 _ => ?_)
    refine g_aload_n C 1 dX1_reachEntry_81 rfl rfl ?_
    refine g_bipush C 41 dX1_reachEntry_82 (by decide) ?_
    refine g_iload_n C 0 dX1_reachEntry_84 rfl rfl ?_
    refine g_iconst C 2 dX1_reachEntry_85 (by decide) ?_
    refine g_iand C dX1_reachEntry_86 ?_
    refine v_x1_raise_RX1 C ⟨by decide, by decide⟩ (Nat.le_of_ble_eq_true rfl) dX1_reachEntry_87 (fun r12 σ13 _ => ?_)
    refine g_iinc C (x1 + 1) 2 [(1, .int (x1 + 1)), (2, .int r6), (0, .ref (ad 9))] dX1_reachEntry_90 rfl rfl (by decide) rfl ?_
    refine g_goto C 33 dX1_reachEntry_93 (by decide) ?_
    exact g_sub [2, 0] rfl (hrec33 σ13 (x1 + 1))
set_option maxHeartbeats 4000000 in
set_option maxRecDepth 100000 in
theorem s_x1_reachEntry_33 {X : Cx} {ad : Nat → Nat} (C : Ok X cX1_reachEntry RX1 3 none 2 46) (N : Nat) : ∀ (n : Nat) (σ : St) (x1 : Int32), Sim X scC ad 3 outV 33 [(0, .ref (ad 9)), (1, .int x1)] [] σ (x1_reachEntry_33 N n σ x1) := by
  intro n
  induction n with
  | zero => intro σ x1; exact g_none
  | succ n ih => intro σ x1; exact s_x1_reachEntry_33_b C N ih σ x1
set_option maxHeartbeats 4000000 in
set_option maxRecDepth 100000 in
theorem s_x1_reachEntry {X : Cx} {ad : Nat → Nat} (C : Ok X cX1_reachEntry RX1 3 none 2 46) (N : Nat) (σ : St) : Sim X scC ad 3 outV 0 [(0, .ref (ad 9))] [] σ (x1_reachEntry N σ) := by
  unfold x1_reachEntry
  refine g_aload_n C 0 dX1_reachEntry_0 rfl rfl ?_
  refine gf_RX1_42 C  (v := gP σ 906) dX1_reachEntry_1 rfl ?_
  refine g_aload_n C 0 dX1_reachEntry_4 rfl rfl ?_
  refine gf_RX1_32 C  dX1_reachEntry_5 ?_
  refine gf_RX1_104 C  (v := gI σ 701) dX1_reachEntry_8 rfl ?_
  refine g_gd (fun hp1 => ?_)
  refine v_x3_has_RX1 C hp1 ⟨by decide, by decide⟩ (Nat.le_of_ble_eq_true rfl) dX1_reachEntry_11 (fun r2 σ3 _ => ?_)
  refine g_if_ne C 18 dX1_reachEntry_14 (by decide) ?_ ?_
  · refine g_aload_n C 0 dX1_reachEntry_18 rfl rfl ?_
    refine g_iconst C 1 dX1_reachEntry_19 (by decide) ?_
    refine g_aload_n C 0 dX1_reachEntry_20 rfl rfl ?_
    refine gf_RX1_32 C  dX1_reachEntry_21 ?_
    refine gf_RX1_104 C  (v := gI σ3 701) dX1_reachEntry_24 rfl ?_
    refine g_ishl C dX1_reachEntry_27 ?_
    refine pf_RX1_92 C dX1_reachEntry_28 ?_
    refine g_iconst C 0 dX1_reachEntry_31 (by decide) ?_
    refine g_istore_n C [(1, .int 0), (0, .ref (ad 9))] dX1_reachEntry_32 rfl (by decide) rfl ?_
    exact g_sub [1, 0] rfl (s_x1_reachEntry_33 C N N (sI σ3 910 ((1 : Int32) <<< ((gI σ3 701) &&& 31))) 0)
  · exact g_vret C dX1_reachEntry_17
theorem c_x1_reachEntry {Y : Yx} {ad : Nat → Nat} {N : Nat} {σ : St} {r : Unit} {σ' : St} (h : x1_reachEntry N σ = some (r, σ')) : Con Y scC ad yX1_reachEntry cX1_reachEntry 3 none 2 46 [.ref (ad 9)] σ (outV r) σ' := con_of (by decide) rfl (Nat.le_of_ble_eq_true rfl) rfl (fun X hX C => s_x1_reachEntry C N σ) h
set_option maxRecDepth 20000 in
theorem v_x1_reachEntry_RX1 {X : Cx} {cc : ByteArray} {nL : Nat} {ret : Option FieldType} {fr lo : Nat} {ad : Nat → Nat} {ρ : Type} {out : ρ → Option Value} {pc : Nat} {lv : List (Nat × Value)} {rest : List Value} {σ : St} {N : Nat} {K : Unit → St → Option (ρ × St)} (C : Ok X cc RX1 nL ret fr lo) (hR : 2 + 1 ≤ fr ∧ 8 + (3 + 11) + 46 ≤ lo) (hcat : (rest.map fun v => v.category).sum ≤ 8) (hdg : decode cc pc = .ok (.invokevirtual 57, 3)) (k : ∀ (r : Unit) (σ' : St), x1_reachEntry N σ = some (r, σ') → Sim X scC ad nL out (pc + 3) lv rest σ' (K r σ')) : Sim X scC ad nL out pc lv (.ref (ad 9) :: rest) σ (bd (x1_reachEntry N σ) K) := g_callV C (out1 := outV) (y := yX1_reachEntry) (n := 0) ⟨gw_840, gw_842, gw_26, gw_113, gw_843⟩ (by decide +kernel) hR (o := 9) (ci := 1) (q9 := (RX1, TX1, 14)) im_9 rfl rfl rfl (fun r σ' h => c_x1_reachEntry h) rfl rfl hcat hdg k

def x3_parameter (N : Nat) (σ : St) (a0 : Nat) (a1 : Int32) (a2 : Int32) : Option (Int32 × St) :=
  gd (isPr a0) (bd (x5_at N σ (a0 + 5) ((a1 * 4) + a2)) (fun r2 σ3 => some (r2, σ3)))
set_option maxHeartbeats 4000000 in
set_option maxRecDepth 100000 in
theorem s_x3_parameter {X : Cx} {ad : Nat → Nat} (C : Ok X cX3_parameter RX3 3 (some .int) 1 21) (N : Nat) (σ : St) (a0 : Nat) (a1 : Int32) (a2 : Int32) : Sim X scC ad 3 outI 0 [(0, .ref (ad a0)), (1, .int a1), (2, .int a2)] [] σ (x3_parameter N σ a0 a1 a2) := by
  unfold x3_parameter
  refine g_aload_n C 0 dX3_parameter_0 rfl rfl ?_
  refine g_gd (fun hp1 => ?_)
  refine gf_RX3_25 C hp1 dX3_parameter_1 ?_
  refine g_iload_n C 1 dX3_parameter_4 rfl rfl ?_
  refine g_iconst C 4 dX3_parameter_5 (by decide) ?_
  refine g_imul C dX3_parameter_6 ?_
  refine g_iload_n C 2 dX3_parameter_7 rfl rfl ?_
  refine g_iadd C dX3_parameter_8 ?_
  refine v_x5_at_RX3 C ⟨by decide, by decide⟩ (Nat.le_of_ble_eq_true rfl) dX3_parameter_9 (fun r2 σ3 _ => ?_)
  exact g_iret C dX3_parameter_12
theorem c_x3_parameter {Y : Yx} {ad : Nat → Nat} {N : Nat} {σ : St} {a0 : Nat} {a1 : Int32} {a2 : Int32} {r : Int32} {σ' : St} (h : x3_parameter N σ a0 a1 a2 = some (r, σ')) : Con Y scC ad yX3_parameter cX3_parameter 3 (some .int) 1 21 [.ref (ad a0), .int a1, .int a2] σ (outI r) σ' := con_of (by decide) rfl (Nat.le_of_ble_eq_true rfl) rfl (fun X hX C => s_x3_parameter C N σ a0 a1 a2) h
set_option maxRecDepth 20000 in
theorem v_x3_parameter_RX1 {X : Cx} {cc : ByteArray} {nL : Nat} {ret : Option FieldType} {fr lo : Nat} {ad : Nat → Nat} {ρ : Type} {out : ρ → Option Value} {pc : Nat} {lv : List (Nat × Value)} {rest : List Value} {σ : St} {N : Nat} {K : Int32 → St → Option (ρ × St)} {a0 : Nat} {a1 : Int32} {a2 : Int32} (C : Ok X cc RX1 nL ret fr lo) (hp : isPr a0 = true) (hR : 1 + 1 ≤ fr ∧ 8 + (3 + 11) + 21 ≤ lo) (hcat : (rest.map fun v => v.category).sum ≤ 8) (hdg : decode cc pc = .ok (.invokevirtual 127, 3)) (k : ∀ (r : Int32) (σ' : St), x3_parameter N σ a0 a1 a2 = some (r, σ') → Sim X scC ad nL out (pc + 3) lv (.int r :: rest) σ' (K r σ')) : Sim X scC ad nL out pc lv (.int a2 :: .int a1 :: .ref (ad a0) :: rest) σ (bd (x3_parameter N σ a0 a1 a2) K) := g_callV C (out1 := outI) (y := yX3_parameter) (n := 2) ⟨gw_857, gw_687, gw_688, gw_109, gw_689⟩ (by decide +kernel) hR (o := a0) (ci := 3) (q9 := (RX3, TX3, 14)) (pr_in hp) (pr_kd hp) rfl rfl (fun r σ' h => c_x3_parameter h) rfl rfl hcat hdg k
set_option maxRecDepth 20000 in
theorem v_x3_parameter_RX3 {X : Cx} {cc : ByteArray} {nL : Nat} {ret : Option FieldType} {fr lo : Nat} {ad : Nat → Nat} {ρ : Type} {out : ρ → Option Value} {pc : Nat} {lv : List (Nat × Value)} {rest : List Value} {σ : St} {N : Nat} {K : Int32 → St → Option (ρ × St)} {a0 : Nat} {a1 : Int32} {a2 : Int32} (C : Ok X cc RX3 nL ret fr lo) (hp : isPr a0 = true) (hR : 1 + 1 ≤ fr ∧ 8 + (3 + 11) + 21 ≤ lo) (hcat : (rest.map fun v => v.category).sum ≤ 8) (hdg : decode cc pc = .ok (.invokevirtual 72, 3)) (k : ∀ (r : Int32) (σ' : St), x3_parameter N σ a0 a1 a2 = some (r, σ') → Sim X scC ad nL out (pc + 3) lv (.int r :: rest) σ' (K r σ')) : Sim X scC ad nL out pc lv (.int a2 :: .int a1 :: .ref (ad a0) :: rest) σ (bd (x3_parameter N σ a0 a1 a2) K) := g_callV C (out1 := outI) (y := yX3_parameter) (n := 2) ⟨gw_686, gw_687, gw_688, gw_109, gw_689⟩ (by decide +kernel) hR (o := a0) (ci := 3) (q9 := (RX3, TX3, 14)) (pr_in hp) (pr_kd hp) rfl rfl (fun r σ' h => c_x3_parameter h) rfl rfl hcat hdg k
set_option maxRecDepth 20000 in
theorem v_x3_parameter_RX6 {X : Cx} {cc : ByteArray} {nL : Nat} {ret : Option FieldType} {fr lo : Nat} {ad : Nat → Nat} {ρ : Type} {out : ρ → Option Value} {pc : Nat} {lv : List (Nat × Value)} {rest : List Value} {σ : St} {N : Nat} {K : Int32 → St → Option (ρ × St)} {a0 : Nat} {a1 : Int32} {a2 : Int32} (C : Ok X cc RX6 nL ret fr lo) (hp : isPr a0 = true) (hR : 1 + 1 ≤ fr ∧ 8 + (3 + 11) + 21 ≤ lo) (hcat : (rest.map fun v => v.category).sum ≤ 8) (hdg : decode cc pc = .ok (.invokevirtual 86, 3)) (k : ∀ (r : Int32) (σ' : St), x3_parameter N σ a0 a1 a2 = some (r, σ') → Sim X scC ad nL out (pc + 3) lv (.int r :: rest) σ' (K r σ')) : Sim X scC ad nL out pc lv (.int a2 :: .int a1 :: .ref (ad a0) :: rest) σ (bd (x3_parameter N σ a0 a1 a2) K) := g_callV C (out1 := outI) (y := yX3_parameter) (n := 2) ⟨gw_939, gw_687, gw_688, gw_109, gw_689⟩ (by decide +kernel) hR (o := a0) (ci := 3) (q9 := (RX3, TX3, 14)) (pr_in hp) (pr_kd hp) rfl rfl (fun r σ' h => c_x3_parameter h) rfl rfl hcat hdg k

def x1_with_47 (N : Nat) (σ : St) (x2 : Int32) (x3 : Int32) (x4 : Int64) (t0 : Int64) : Option (Int64 × St) :=
  (if (x3 &&& 2) = 0 then some ((x4 ||| t0) ||| 0, σ) else some ((x4 ||| t0) ||| ((1 : Int64) <<< ((x2 + 26).toInt64 &&& 63)), σ))
def x1_with (N : Nat) (σ : St) (a1 : Int64) (a2 : Int32) (a3 : Int32) : Option (Int64 × St) :=
  (if (lg_cmp a1 0) = 0 then some (0, σ) else (if a3 = 0 then some (0, σ) else (if (a3 &&& 1) = 0 then x1_with_47 N σ a2 a3 ((a1 &&& (((1 : Int64) <<< (a2.toInt64 &&& 63)) ^^^ (-1))) &&& (((1 : Int64) <<< ((a2 + 26).toInt64 &&& 63)) ^^^ (-1))) 0 else x1_with_47 N σ a2 a3 ((a1 &&& (((1 : Int64) <<< (a2.toInt64 &&& 63)) ^^^ (-1))) &&& (((1 : Int64) <<< ((a2 + 26).toInt64 &&& 63)) ^^^ (-1))) ((1 : Int64) <<< (a2.toInt64 &&& 63)))))
set_option maxHeartbeats 4000000 in
set_option maxRecDepth 100000 in
theorem s_x1_with_47 {X : Cx} {ad : Nat → Nat} (C : Ok X cX1_with RX1 10 (some .long) 0 0) (N : Nat) (σ : St) (x2 : Int32) (x3 : Int32) (x4 : Int64) (t0 : Int64) : Sim X scC ad 10 outL 47 [(2, .int x2), (3, .int x3), (4, .long x4)] [.long t0] σ (x1_with_47 N σ x2 x3 x4 t0) := by
  unfold x1_with_47
  refine g_lstore C [(6, .long t0), (2, .int x2), (3, .int x3), (4, .long x4)] dX1_with_47 (by decide) rfl ?_
  refine g_iload_n C 2 dX1_with_49 rfl rfl ?_
  refine g_iconst C 2 dX1_with_50 (by decide) ?_
  refine g_iand C dX1_with_51 ?_
  refine g_if_eq C 64 dX1_with_52 (by decide) ?_ ?_
  · refine g_lconst C 0 dX1_with_64 (by decide) ?_
    refine g_lstore C [(8, .long 0), (6, .long t0), (2, .int x2), (3, .int x3), (4, .long x4)] dX1_with_65 (by decide) rfl ?_
    refine g_lload C 4 dX1_with_67 rfl ?_
    refine g_lload C 1 dX1_with_69 rfl ?_
    refine g_lor C dX1_with_71 ?_
    refine g_lload C 0 dX1_with_72 rfl ?_
    refine g_lor C dX1_with_74 ?_
    exact g_lret C dX1_with_75
  · refine g_lconst C 1 dX1_with_55 (by decide) ?_
    refine g_iload_n C 1 dX1_with_56 rfl rfl ?_
    refine g_bipush C 26 dX1_with_57 (by decide) ?_
    refine g_iadd C dX1_with_59 ?_
    refine g_lshl C dX1_with_60 ?_
    refine g_goto C 65 dX1_with_61 (by decide) ?_
    refine g_lstore C [(8, .long ((1 : Int64) <<< ((x2 + 26).toInt64 &&& 63))), (6, .long t0), (2, .int x2), (3, .int x3), (4, .long x4)] dX1_with_65 (by decide) rfl ?_
    refine g_lload C 4 dX1_with_67 rfl ?_
    refine g_lload C 1 dX1_with_69 rfl ?_
    refine g_lor C dX1_with_71 ?_
    refine g_lload C 0 dX1_with_72 rfl ?_
    refine g_lor C dX1_with_74 ?_
    exact g_lret C dX1_with_75
set_option maxHeartbeats 4000000 in
set_option maxRecDepth 100000 in
theorem s_x1_with {X : Cx} {ad : Nat → Nat} (C : Ok X cX1_with RX1 10 (some .long) 0 0) (N : Nat) (σ : St) (a1 : Int64) (a2 : Int32) (a3 : Int32) : Sim X scC ad 10 outL 0 [(0, .long a1), (2, .int a2), (3, .int a3)] [] σ (x1_with N σ a1 a2 a3) := by
  unfold x1_with
  refine g_lload_n C 0 dX1_with_0 rfl rfl ?_
  refine g_lconst C 0 dX1_with_1 (by decide) ?_
  refine g_lcmp C dX1_with_2 ?_
  refine g_if_eq C 10 dX1_with_3 (by decide) ?_ ?_
  · refine g_lconst C 0 dX1_with_10 (by decide) ?_
    exact g_lret C dX1_with_11
  · refine g_iload_n C 2 dX1_with_6 rfl rfl ?_
    refine g_if_ne C 12 dX1_with_7 (by decide) ?_ ?_
    · refine g_lload_n C 0 dX1_with_12 rfl rfl ?_
      refine g_lconst C 1 dX1_with_13 (by decide) ?_
      refine g_iload_n C 1 dX1_with_14 rfl rfl ?_
      refine g_lshl C dX1_with_15 ?_
      refine g_ldc2 C (v := (-1)) gw_861 dX1_with_16 ?_
      refine g_lxor C dX1_with_19 ?_
      refine g_land C dX1_with_20 ?_
      refine g_lconst C 1 dX1_with_21 (by decide) ?_
      refine g_iload_n C 1 dX1_with_22 rfl rfl ?_
      refine g_bipush C 26 dX1_with_23 (by decide) ?_
      refine g_iadd C dX1_with_25 ?_
      refine g_lshl C dX1_with_26 ?_
      refine g_ldc2 C (v := (-1)) gw_861 dX1_with_27 ?_
      refine g_lxor C dX1_with_30 ?_
      refine g_land C dX1_with_31 ?_
      refine g_lstore C [(4, .long ((a1 &&& (((1 : Int64) <<< (a2.toInt64 &&& 63)) ^^^ (-1))) &&& (((1 : Int64) <<< ((a2 + 26).toInt64 &&& 63)) ^^^ (-1)))), (0, .long a1), (2, .int a2), (3, .int a3)] dX1_with_32 (by decide) rfl ?_
      refine g_iload_n C 3 dX1_with_34 rfl rfl ?_
      refine g_iconst C 1 dX1_with_35 (by decide) ?_
      refine g_iand C dX1_with_36 ?_
      refine g_if_eq C 46 dX1_with_37 (by decide) ?_ ?_
      · refine g_lconst C 0 dX1_with_46 (by decide) ?_
        exact g_sub [2, 3, 0] rfl (s_x1_with_47 C N σ a2 a3 ((a1 &&& (((1 : Int64) <<< (a2.toInt64 &&& 63)) ^^^ (-1))) &&& (((1 : Int64) <<< ((a2 + 26).toInt64 &&& 63)) ^^^ (-1))) 0)
      · refine g_lconst C 1 dX1_with_40 (by decide) ?_
        refine g_iload_n C 2 dX1_with_41 rfl rfl ?_
        refine g_lshl C dX1_with_42 ?_
        refine g_goto C 47 dX1_with_43 (by decide) ?_
        exact g_sub [2, 3, 0] rfl (s_x1_with_47 C N σ a2 a3 ((a1 &&& (((1 : Int64) <<< (a2.toInt64 &&& 63)) ^^^ (-1))) &&& (((1 : Int64) <<< ((a2 + 26).toInt64 &&& 63)) ^^^ (-1))) ((1 : Int64) <<< (a2.toInt64 &&& 63)))
    · refine g_lconst C 0 dX1_with_10 (by decide) ?_
      exact g_lret C dX1_with_11
theorem c_x1_with {Y : Yx} {ad : Nat → Nat} {N : Nat} {σ : St} {a1 : Int64} {a2 : Int32} {a3 : Int32} {r : Int64} {σ' : St} (h : x1_with N σ a1 a2 a3 = some (r, σ')) : Con Y scC ad yX1_with cX1_with 10 (some .long) 0 0 [.long a1, .int a2, .int a3] σ (outL r) σ' := con_of (by decide) rfl (Nat.le_of_ble_eq_true rfl) rfl (fun X hX C => s_x1_with C N σ a1 a2 a3) h
set_option maxRecDepth 20000 in
theorem v_x1_with_RX1 {X : Cx} {cc : ByteArray} {nL : Nat} {ret : Option FieldType} {fr lo : Nat} {ad : Nat → Nat} {ρ : Type} {out : ρ → Option Value} {pc : Nat} {lv : List (Nat × Value)} {rest : List Value} {σ : St} {N : Nat} {K : Int64 → St → Option (ρ × St)} {a1 : Int64} {a2 : Int32} {a3 : Int32} (C : Ok X cc RX1 nL ret fr lo) (hR : 0 + 1 ≤ fr ∧ 8 + (10 + 11) + 0 ≤ lo) (hcat : (rest.map fun v => v.category).sum ≤ 8) (hdg : decode cc pc = .ok (.invokestatic 131, 3)) (k : ∀ (r : Int64) (σ' : St), x1_with N σ a1 a2 a3 = some (r, σ') → Sim X scC ad nL out (pc + 3) lv (.long r :: rest) σ' (K r σ')) : Sim X scC ad nL out pc lv (.int a3 :: .int a2 :: .long a1 :: rest) σ (bd (x1_with N σ a1 a2 a3) K) := g_callS C (out1 := outL) (y := yX1_with) (n := 3) ⟨gw_858, gw_859, gw_113, gw_860⟩ (by decide +kernel) hR (fun r σ' h => c_x1_with h) rfl rfl hcat hdg k

def x1_join (N : Nat) (σ : St) (a1 : Int32) (a2 : Int64) : Option (Unit × St) :=
  (if a1 < 0 then some ((), σ) else (if 304 ≤ a1 then some ((), σ) else gd (ib a1 304) (gd (ib a1 304) ((if (lg_cmp ((gZ σ 10 a1.toNatClampNeg) ||| a2) (gZ σ 10 a1.toNatClampNeg)) = 0 then some ((), σ) else gd (ib a1 304) (gd (ib a1 304) (bd (x5_put N (sZ σ 10 a1.toNatClampNeg ((gZ σ 10 a1.toNatClampNeg) ||| a2)) 11 a1 0) (fun _ σ2 => some ((), (sI σ2 909 1))))))))))
set_option maxHeartbeats 4000000 in
set_option maxRecDepth 100000 in
theorem s_x1_join {X : Cx} {ad : Nat → Nat} (C : Ok X cX1_join RX1 4 none 1 22) (N : Nat) (σ : St) (a1 : Int32) (a2 : Int64) : Sim X scC ad 4 outV 0 [(0, .ref (ad 9)), (1, .int a1), (2, .long a2)] [] σ (x1_join N σ a1 a2) := by
  unfold x1_join
  refine g_iload_n C 1 dX1_join_0 rfl rfl ?_
  refine g_if_lt C 55 dX1_join_1 (by decide) ?_ ?_
  · exact g_vret C dX1_join_55
  · refine g_iload_n C 1 dX1_join_4 rfl rfl ?_
    refine g_aload_n C 0 dX1_join_5 rfl rfl ?_
    refine gf_RX1_9 C  dX1_join_6 ?_
    refine ca_lenJ C (j := 10) 304 ia_10 (by rw [il_10]; decide) dX1_join_9 ?_
    refine g_icmp_ge C 55 dX1_join_10 (by decide) ?_ ?_
    · exact g_vret C dX1_join_55
    · refine g_aload_n C 0 dX1_join_13 rfl rfl ?_
      refine gf_RX1_9 C  dX1_join_14 ?_
      refine g_iload_n C 1 dX1_join_17 rfl rfl ?_
      refine ca_ldJ C (j := 10) (v := gZ σ 10 a1.toNatClampNeg) ia_10 il_10 dX1_join_18 rfl ?_
      refine g_lload_n C 2 dX1_join_19 rfl rfl ?_
      refine g_lor C dX1_join_20 ?_
      refine g_aload_n C 0 dX1_join_21 rfl rfl ?_
      refine gf_RX1_9 C  dX1_join_22 ?_
      refine g_iload_n C 1 dX1_join_25 rfl rfl ?_
      refine ca_ldJ C (j := 10) (v := gZ σ 10 a1.toNatClampNeg) ia_10 il_10 dX1_join_26 rfl ?_
      refine g_lcmp C dX1_join_27 ?_
      refine g_if_eq C 55 dX1_join_28 (by decide) ?_ ?_
      · exact g_vret C dX1_join_55
      · refine g_aload_n C 0 dX1_join_31 rfl rfl ?_
        refine gf_RX1_9 C  dX1_join_32 ?_
        refine g_iload_n C 1 dX1_join_35 rfl rfl ?_
        refine g_dup2 C dX1_join_36 rfl rfl ?_
        refine ca_ldJ C (j := 10) (v := gZ σ 10 a1.toNatClampNeg) ia_10 il_10 dX1_join_37 rfl ?_
        refine g_lload_n C 2 dX1_join_38 rfl rfl ?_
        refine g_lor C dX1_join_39 ?_
        refine ca_stJ C (j := 10) ia_10 il_10 dX1_join_40 ?_
        refine g_aload_n C 0 dX1_join_41 rfl rfl ?_
        refine gf_RX1_15 C  dX1_join_42 ?_
        refine g_iload_n C 1 dX1_join_45 rfl rfl ?_
        refine g_iconst C 0 dX1_join_46 (by decide) ?_
        refine v_x5_put_RX1 C ⟨by decide, by decide⟩ (Nat.le_of_ble_eq_true rfl) dX1_join_47 (fun r1 σ2 _ => ?_)
        refine g_aload_n C 0 dX1_join_50 rfl rfl ?_
        refine g_iconst C 1 dX1_join_51 (by decide) ?_
        refine pf_RX1_60 C rfl dX1_join_52 ?_
        exact g_vret C dX1_join_55
theorem c_x1_join {Y : Yx} {ad : Nat → Nat} {N : Nat} {σ : St} {a1 : Int32} {a2 : Int64} {r : Unit} {σ' : St} (h : x1_join N σ a1 a2 = some (r, σ')) : Con Y scC ad yX1_join cX1_join 4 none 1 22 [.ref (ad 9), .int a1, .long a2] σ (outV r) σ' := con_of (by decide) rfl (Nat.le_of_ble_eq_true rfl) rfl (fun X hX C => s_x1_join C N σ a1 a2) h
set_option maxRecDepth 20000 in
theorem v_x1_join_RX1 {X : Cx} {cc : ByteArray} {nL : Nat} {ret : Option FieldType} {fr lo : Nat} {ad : Nat → Nat} {ρ : Type} {out : ρ → Option Value} {pc : Nat} {lv : List (Nat × Value)} {rest : List Value} {σ : St} {N : Nat} {K : Unit → St → Option (ρ × St)} {a1 : Int32} {a2 : Int64} (C : Ok X cc RX1 nL ret fr lo) (hR : 1 + 1 ≤ fr ∧ 8 + (4 + 11) + 22 ≤ lo) (hcat : (rest.map fun v => v.category).sum ≤ 8) (hdg : decode cc pc = .ok (.invokevirtual 138, 3)) (k : ∀ (r : Unit) (σ' : St), x1_join N σ a1 a2 = some (r, σ') → Sim X scC ad nL out (pc + 3) lv rest σ' (K r σ')) : Sim X scC ad nL out pc lv (.long a2 :: .int a1 :: .ref (ad 9) :: rest) σ (bd (x1_join N σ a1 a2) K) := g_callV C (out1 := outV) (y := yX1_join) (n := 2) ⟨gw_862, gw_864, gw_29, gw_113, gw_865⟩ (by decide +kernel) hR (o := 9) (ci := 1) (q9 := (RX1, TX1, 14)) im_9 rfl rfl rfl (fun r σ' h => c_x1_join h) rfl rfl hcat hdg k

def x1_openRoutines_96 (N : Nat) (rec2 : St → Int32 → Option (Unit × St)) (σ : St) (x1 : Int32) : Option (Unit × St) :=
  rec2 σ (x1 + 1)
def x1_openRoutines_80 (N : Nat) (rec2 : St → Int32 → Option (Unit × St)) (σ : St) (x1 : Int32) (x2 : Int64) : Option (Unit × St) :=
  gd (isPr (gP σ 906)) (bd (x5_at N σ ((gP σ 906) + 3) x1) (fun r5 σ6 => bd (x1_join N σ6 r5 x2) (fun _ σ8 => x1_openRoutines_96 N rec2 σ8 x1)))
def x1_openRoutines_26_b (N : Nat) (rec2 : St → Int32 → Option (Unit × St)) (rec26 : St → Int32 → Int64 → Int32 → Option (Unit × St)) (σ : St) (x1 : Int32) (x2 : Int64) (x4 : Int32) : Option (Unit × St) :=
  gd (isPr (gP σ 906)) (bd (x5_at N σ ((gP σ 906) + 4) x1) (fun r2 σ3 => (if r2 ≤ x4 then x1_openRoutines_80 N rec2 σ3 x1 x2 else bd (x5_at N σ3 12 ((x1 * 4) + x4)) (fun r9 σ10 => gd (isPr (gP σ10 906)) (bd (x3_parameter N σ10 (gP σ10 906) x1 x4) (fun r12 σ13 => bd (x1_with N σ13 x2 r12 r9) (fun r14 σ15 => rec26 σ15 x1 r14 (x4 + 1))))))))
def x1_openRoutines_26 (N : Nat) (rec2 : St → Int32 → Option (Unit × St)) : Nat → St → Int32 → Int64 → Int32 → Option (Unit × St)
  | 0 => fun _ _ _ _ => none
  | n + 1 => fun σ x1 x2 x4 => x1_openRoutines_26_b N rec2 (x1_openRoutines_26 N rec2 n) σ x1 x2 x4
def x1_openRoutines_2_b (N : Nat) (rec2 : St → Int32 → Option (Unit × St)) (σ : St) (x1 : Int32) : Option (Unit × St) :=
  (if 8 ≤ x1 then some ((), σ) else (if (((gI σ 910) >>> (x1 &&& 31)) &&& 1) = 0 then x1_openRoutines_96 N rec2 σ x1 else x1_openRoutines_26 N rec2 N σ x1 67108863 0))
def x1_openRoutines_2 (N : Nat) : Nat → St → Int32 → Option (Unit × St)
  | 0 => fun _ _ => none
  | n + 1 => fun σ x1 => x1_openRoutines_2_b N (x1_openRoutines_2 N n) σ x1
def x1_openRoutines (N : Nat) (σ : St) : Option (Unit × St) :=
  x1_openRoutines_2 N N σ 0
set_option maxHeartbeats 4000000 in
set_option maxRecDepth 100000 in
theorem s_x1_openRoutines_96 {X : Cx} {ad : Nat → Nat} (C : Ok X cX1_openRoutines RX1 6 none 2 45) (N : Nat) {rec2 : St → Int32 → Option (Unit × St)} (hrec2 : ∀ (σ : St) (x1 : Int32), Sim X scC ad 6 outV 2 [(0, .ref (ad 9)), (1, .int x1)] [] σ (rec2 σ x1)) (σ : St) (x1 : Int32) : Sim X scC ad 6 outV 96 [(0, .ref (ad 9)), (1, .int x1)] [] σ (x1_openRoutines_96 N rec2 σ x1) := by
  unfold x1_openRoutines_96
  refine g_iinc C (x1 + 1) 1 [(1, .int (x1 + 1)), (0, .ref (ad 9))] dX1_openRoutines_96 rfl rfl (by decide) rfl ?_
  refine g_goto C 2 dX1_openRoutines_99 (by decide) ?_
  exact g_sub [1, 0] rfl (hrec2 σ (x1 + 1))
set_option maxHeartbeats 4000000 in
set_option maxRecDepth 100000 in
theorem s_x1_openRoutines_80 {X : Cx} {ad : Nat → Nat} (C : Ok X cX1_openRoutines RX1 6 none 2 45) (N : Nat) {rec2 : St → Int32 → Option (Unit × St)} (hrec2 : ∀ (σ : St) (x1 : Int32), Sim X scC ad 6 outV 2 [(0, .ref (ad 9)), (1, .int x1)] [] σ (rec2 σ x1)) (σ : St) (x1 : Int32) (x2 : Int64) : Sim X scC ad 6 outV 80 [(0, .ref (ad 9)), (1, .int x1), (2, .long x2)] [] σ (x1_openRoutines_80 N rec2 σ x1 x2) := by
  unfold x1_openRoutines_80
  refine g_aload_n C 0 dX1_openRoutines_80 rfl rfl ?_
  refine g_aload_n C 0 dX1_openRoutines_81 rfl rfl ?_
  refine gf_RX1_42 C  (v := gP σ 906) dX1_openRoutines_82 rfl ?_
  refine g_gd (fun hp4 => ?_)
  refine gf_RX1_135 C hp4 dX1_openRoutines_85 ?_
  refine g_iload_n C 1 dX1_openRoutines_88 rfl rfl ?_
  refine v_x5_at_RX1 C ⟨by decide, by decide⟩ (Nat.le_of_ble_eq_true rfl) dX1_openRoutines_89 (fun r5 σ6 _ => ?_)
  refine g_lload_n C 2 dX1_openRoutines_92 rfl rfl ?_
  refine v_x1_join_RX1 C ⟨by decide, by decide⟩ (Nat.le_of_ble_eq_true rfl) dX1_openRoutines_93 (fun r7 σ8 _ => ?_)
  exact g_sub [0, 1] rfl (s_x1_openRoutines_96 C N hrec2 σ8 x1)
set_option maxHeartbeats 4000000 in
set_option maxRecDepth 100000 in
theorem s_x1_openRoutines_26_b {X : Cx} {ad : Nat → Nat} (C : Ok X cX1_openRoutines RX1 6 none 2 45) (N : Nat) {rec2 : St → Int32 → Option (Unit × St)} (hrec2 : ∀ (σ : St) (x1 : Int32), Sim X scC ad 6 outV 2 [(0, .ref (ad 9)), (1, .int x1)] [] σ (rec2 σ x1)) {rec26 : St → Int32 → Int64 → Int32 → Option (Unit × St)} (hrec26 : ∀ (σ : St) (x1 : Int32) (x2 : Int64) (x4 : Int32), Sim X scC ad 6 outV 26 [(0, .ref (ad 9)), (1, .int x1), (2, .long x2), (4, .int x4)] [] σ (rec26 σ x1 x2 x4)) (σ : St) (x1 : Int32) (x2 : Int64) (x4 : Int32) : Sim X scC ad 6 outV 26 [(0, .ref (ad 9)), (1, .int x1), (2, .long x2), (4, .int x4)] [] σ (x1_openRoutines_26_b N rec2 rec26 σ x1 x2 x4) := by
  unfold x1_openRoutines_26_b
  refine g_iload C 3 dX1_openRoutines_26 rfl ?_
  refine g_aload_n C 0 dX1_openRoutines_28 rfl rfl ?_
  refine gf_RX1_42 C  (v := gP σ 906) dX1_openRoutines_29 rfl ?_
  refine g_gd (fun hp1 => ?_)
  refine gf_RX1_124 C hp1 dX1_openRoutines_32 ?_
  refine g_iload_n C 1 dX1_openRoutines_35 rfl rfl ?_
  refine v_x5_at_RX1 C ⟨by decide, by decide⟩ (Nat.le_of_ble_eq_true rfl) dX1_openRoutines_36 (fun r2 σ3 _ => ?_)
  refine g_icmp_ge C 80 dX1_openRoutines_39 (by decide) ?_ ?_
  · exact g_sub [0, 1, 2] rfl (s_x1_openRoutines_80 C N hrec2 σ3 x1 x2)
  · refine g_aload_n C 0 dX1_openRoutines_42 rfl rfl ?_
    refine gf_RX1_19 C  dX1_openRoutines_43 ?_
    refine g_iload_n C 1 dX1_openRoutines_46 rfl rfl ?_
    refine g_iconst C 4 dX1_openRoutines_47 (by decide) ?_
    refine g_imul C dX1_openRoutines_48 ?_
    refine g_iload C 3 dX1_openRoutines_49 rfl ?_
    refine g_iadd C dX1_openRoutines_51 ?_
    refine v_x5_at_RX1 C ⟨by decide, by decide⟩ (Nat.le_of_ble_eq_true rfl) dX1_openRoutines_52 (fun r9 σ10 _ => ?_)
    refine g_istore C [(5, .int r9), (0, .ref (ad 9)), (1, .int x1), (2, .long x2), (4, .int x4)] dX1_openRoutines_55 (by decide) rfl ?_
    refine g_lload_n C 3 dX1_openRoutines_57 rfl rfl ?_
    refine g_aload_n C 1 dX1_openRoutines_58 rfl rfl ?_
    refine gf_RX1_42 C  (v := gP σ10 906) dX1_openRoutines_59 rfl ?_
    refine g_iload_n C 2 dX1_openRoutines_62 rfl rfl ?_
    refine g_iload C 4 dX1_openRoutines_63 rfl ?_
    refine g_gd (fun hp11 => ?_)
    refine v_x3_parameter_RX1 C hp11 ⟨by decide, by decide⟩ (Nat.le_of_ble_eq_true rfl) dX1_openRoutines_65 (fun r12 σ13 _ => ?_)
    refine g_iload C 0 dX1_openRoutines_68 rfl ?_
    refine v_x1_with_RX1 C ⟨by decide, by decide⟩ (Nat.le_of_ble_eq_true rfl) dX1_openRoutines_70 (fun r14 σ15 _ => ?_)
    refine g_lstore_n C [(2, .long r14), (5, .int r9), (0, .ref (ad 9)), (1, .int x1), (4, .int x4)] dX1_openRoutines_73 rfl (by decide) rfl ?_
    refine g_iinc C (x4 + 1) 4 [(4, .int (x4 + 1)), (2, .long r14), (5, .int r9), (0, .ref (ad 9)), (1, .int x1)] dX1_openRoutines_74 rfl rfl (by decide) rfl ?_
    refine g_goto C 26 dX1_openRoutines_77 (by decide) ?_
    exact g_sub [3, 4, 1, 0] rfl (hrec26 σ15 x1 r14 (x4 + 1))
set_option maxHeartbeats 4000000 in
set_option maxRecDepth 100000 in
theorem s_x1_openRoutines_26 {X : Cx} {ad : Nat → Nat} (C : Ok X cX1_openRoutines RX1 6 none 2 45) (N : Nat) {rec2 : St → Int32 → Option (Unit × St)} (hrec2 : ∀ (σ : St) (x1 : Int32), Sim X scC ad 6 outV 2 [(0, .ref (ad 9)), (1, .int x1)] [] σ (rec2 σ x1)) : ∀ (n : Nat) (σ : St) (x1 : Int32) (x2 : Int64) (x4 : Int32), Sim X scC ad 6 outV 26 [(0, .ref (ad 9)), (1, .int x1), (2, .long x2), (4, .int x4)] [] σ (x1_openRoutines_26 N rec2 n σ x1 x2 x4) := by
  intro n
  induction n with
  | zero => intro σ x1 x2 x4; exact g_none
  | succ n ih => intro σ x1 x2 x4; exact s_x1_openRoutines_26_b C N hrec2 ih σ x1 x2 x4
set_option maxHeartbeats 4000000 in
set_option maxRecDepth 100000 in
theorem s_x1_openRoutines_2_b {X : Cx} {ad : Nat → Nat} (C : Ok X cX1_openRoutines RX1 6 none 2 45) (N : Nat) {rec2 : St → Int32 → Option (Unit × St)} (hrec2 : ∀ (σ : St) (x1 : Int32), Sim X scC ad 6 outV 2 [(0, .ref (ad 9)), (1, .int x1)] [] σ (rec2 σ x1)) (σ : St) (x1 : Int32) : Sim X scC ad 6 outV 2 [(0, .ref (ad 9)), (1, .int x1)] [] σ (x1_openRoutines_2_b N rec2 σ x1) := by
  unfold x1_openRoutines_2_b
  refine g_iload_n C 1 dX1_openRoutines_2 rfl rfl ?_
  refine g_bipush C 8 dX1_openRoutines_3 (by decide) ?_
  refine g_icmp_ge C 102 dX1_openRoutines_5 (by decide) ?_ ?_
  · exact g_vret C dX1_openRoutines_102
  · refine g_aload_n C 0 dX1_openRoutines_8 rfl rfl ?_
    refine gf_RX1_92 C  (v := gI σ 910) dX1_openRoutines_9 rfl ?_
    refine g_iload_n C 1 dX1_openRoutines_12 rfl rfl ?_
    refine g_ishr C dX1_openRoutines_13 ?_
    refine g_iconst C 1 dX1_openRoutines_14 (by decide) ?_
    refine g_iand C dX1_openRoutines_15 ?_
    refine g_if_eq C 96 dX1_openRoutines_16 (by decide) ?_ ?_
    · exact g_sub [0, 1] rfl (s_x1_openRoutines_96 C N hrec2 σ x1)
    · refine g_ldc2 C (v := 67108863) gw_856 dX1_openRoutines_19 ?_
      refine g_lstore_n C [(2, .long 67108863), (0, .ref (ad 9)), (1, .int x1)] dX1_openRoutines_22 rfl (by decide) rfl ?_
      refine g_iconst C 0 dX1_openRoutines_23 (by decide) ?_
      refine g_istore C [(4, .int 0), (2, .long 67108863), (0, .ref (ad 9)), (1, .int x1)] dX1_openRoutines_24 (by decide) rfl ?_
      exact g_sub [2, 3, 1, 0] rfl (s_x1_openRoutines_26 C N hrec2 N σ x1 67108863 0)
set_option maxHeartbeats 4000000 in
set_option maxRecDepth 100000 in
theorem s_x1_openRoutines_2 {X : Cx} {ad : Nat → Nat} (C : Ok X cX1_openRoutines RX1 6 none 2 45) (N : Nat) : ∀ (n : Nat) (σ : St) (x1 : Int32), Sim X scC ad 6 outV 2 [(0, .ref (ad 9)), (1, .int x1)] [] σ (x1_openRoutines_2 N n σ x1) := by
  intro n
  induction n with
  | zero => intro σ x1; exact g_none
  | succ n ih => intro σ x1; exact s_x1_openRoutines_2_b C N ih σ x1
set_option maxHeartbeats 4000000 in
set_option maxRecDepth 100000 in
theorem s_x1_openRoutines {X : Cx} {ad : Nat → Nat} (C : Ok X cX1_openRoutines RX1 6 none 2 45) (N : Nat) (σ : St) : Sim X scC ad 6 outV 0 [(0, .ref (ad 9))] [] σ (x1_openRoutines N σ) := by
  unfold x1_openRoutines
  refine g_iconst C 0 dX1_openRoutines_0 (by decide) ?_
  refine g_istore_n C [(1, .int 0), (0, .ref (ad 9))] dX1_openRoutines_1 rfl (by decide) rfl ?_
  exact g_sub [1, 0] rfl (s_x1_openRoutines_2 C N N σ 0)
theorem c_x1_openRoutines {Y : Yx} {ad : Nat → Nat} {N : Nat} {σ : St} {r : Unit} {σ' : St} (h : x1_openRoutines N σ = some (r, σ')) : Con Y scC ad yX1_openRoutines cX1_openRoutines 6 none 2 45 [.ref (ad 9)] σ (outV r) σ' := con_of (by decide) rfl (Nat.le_of_ble_eq_true rfl) rfl (fun X hX C => s_x1_openRoutines C N σ) h
set_option maxRecDepth 20000 in
theorem v_x1_openRoutines_RX1 {X : Cx} {cc : ByteArray} {nL : Nat} {ret : Option FieldType} {fr lo : Nat} {ad : Nat → Nat} {ρ : Type} {out : ρ → Option Value} {pc : Nat} {lv : List (Nat × Value)} {rest : List Value} {σ : St} {N : Nat} {K : Unit → St → Option (ρ × St)} (C : Ok X cc RX1 nL ret fr lo) (hR : 2 + 1 ≤ fr ∧ 8 + (6 + 11) + 45 ≤ lo) (hcat : (rest.map fun v => v.category).sum ≤ 8) (hdg : decode cc pc = .ok (.invokevirtual 63, 3)) (k : ∀ (r : Unit) (σ' : St), x1_openRoutines N σ = some (r, σ') → Sim X scC ad nL out (pc + 3) lv rest σ' (K r σ')) : Sim X scC ad nL out pc lv (.ref (ad 9) :: rest) σ (bd (x1_openRoutines N σ) K) := g_callV C (out1 := outV) (y := yX1_openRoutines) (n := 0) ⟨gw_852, gw_854, gw_28, gw_113, gw_855⟩ (by decide +kernel) hR (o := 9) (ci := 1) (q9 := (RX1, TX1, 14)) im_9 rfl rfl rfl (fun r σ' h => c_x1_openRoutines h) rfl rfl hcat hdg k

def x1_factOf (N : Nat) (σ : St) (a1 : Int64) (a2 : Int32) : Option (Int32 × St) :=
  some (((((a1 >>> (a2.toInt64 &&& 63)) &&& 1).toInt32) * 1) + ((((a1 >>> ((a2 + 26).toInt64 &&& 63)) &&& 1).toInt32) * 2), σ)
set_option maxHeartbeats 4000000 in
set_option maxRecDepth 100000 in
theorem s_x1_factOf {X : Cx} {ad : Nat → Nat} (C : Ok X cX1_factOf RX1 5 (some .int) 0 0) (N : Nat) (σ : St) (a1 : Int64) (a2 : Int32) : Sim X scC ad 5 outI 0 [(0, .long a1), (2, .int a2)] [] σ (x1_factOf N σ a1 a2) := by
  unfold x1_factOf
  refine g_lload_n C 0 dX1_factOf_0 rfl rfl ?_
  refine g_iload_n C 1 dX1_factOf_1 rfl rfl ?_
  refine g_lshr C dX1_factOf_2 ?_
  refine g_lconst C 1 dX1_factOf_3 (by decide) ?_
  refine g_land C dX1_factOf_4 ?_
  refine g_l2i C dX1_factOf_5 ?_
  refine g_istore_n C [(3, .int (((a1 >>> (a2.toInt64 &&& 63)) &&& 1).toInt32)), (0, .long a1), (2, .int a2)] dX1_factOf_6 rfl (by decide) rfl ?_
  refine g_lload_n C 1 dX1_factOf_7 rfl rfl ?_
  refine g_iload_n C 2 dX1_factOf_8 rfl rfl ?_
  refine g_bipush C 26 dX1_factOf_9 (by decide) ?_
  refine g_iadd C dX1_factOf_11 ?_
  refine g_lshr C dX1_factOf_12 ?_
  refine g_lconst C 1 dX1_factOf_13 (by decide) ?_
  refine g_land C dX1_factOf_14 ?_
  refine g_l2i C dX1_factOf_15 ?_
  refine g_istore C [(4, .int (((a1 >>> ((a2 + 26).toInt64 &&& 63)) &&& 1).toInt32)), (3, .int (((a1 >>> (a2.toInt64 &&& 63)) &&& 1).toInt32)), (0, .long a1), (2, .int a2)] dX1_factOf_16 (by decide) rfl ?_
  refine g_iload_n C 1 dX1_factOf_18 rfl rfl ?_
  refine g_iconst C 1 dX1_factOf_19 (by decide) ?_
  refine g_imul C dX1_factOf_20 ?_
  refine g_iload C 0 dX1_factOf_21 rfl ?_
  refine g_iconst C 2 dX1_factOf_23 (by decide) ?_
  refine g_imul C dX1_factOf_24 ?_
  refine g_iadd C dX1_factOf_25 ?_
  exact g_iret C dX1_factOf_26
theorem c_x1_factOf {Y : Yx} {ad : Nat → Nat} {N : Nat} {σ : St} {a1 : Int64} {a2 : Int32} {r : Int32} {σ' : St} (h : x1_factOf N σ a1 a2 = some (r, σ')) : Con Y scC ad yX1_factOf cX1_factOf 5 (some .int) 0 0 [.long a1, .int a2] σ (outI r) σ' := con_of (by decide) rfl (Nat.le_of_ble_eq_true rfl) rfl (fun X hX C => s_x1_factOf C N σ a1 a2) h
set_option maxRecDepth 20000 in
theorem v_x1_factOf_RX1 {X : Cx} {cc : ByteArray} {nL : Nat} {ret : Option FieldType} {fr lo : Nat} {ad : Nat → Nat} {ρ : Type} {out : ρ → Option Value} {pc : Nat} {lv : List (Nat × Value)} {rest : List Value} {σ : St} {N : Nat} {K : Int32 → St → Option (ρ × St)} {a1 : Int64} {a2 : Int32} (C : Ok X cc RX1 nL ret fr lo) (hR : 0 + 1 ≤ fr ∧ 8 + (5 + 11) + 0 ≤ lo) (hcat : (rest.map fun v => v.category).sum ≤ 8) (hdg : decode cc pc = .ok (.invokestatic 161, 3)) (k : ∀ (r : Int32) (σ' : St), x1_factOf N σ a1 a2 = some (r, σ') → Sim X scC ad nL out (pc + 3) lv (.int r :: rest) σ' (K r σ')) : Sim X scC ad nL out pc lv (.int a2 :: .long a1 :: rest) σ (bd (x1_factOf N σ a1 a2) K) := g_callS C (out1 := outI) (y := yX1_factOf) (n := 2) ⟨gw_878, gw_879, gw_113, gw_880⟩ (by decide +kernel) hR (fun r σ' h => c_x1_factOf h) rfl rfl hcat hdg k

def x1_narrow (N : Nat) (σ : St) (a1 : Int64) (a2 : Int32) (a3 : Int32) : Option (Int64 × St) :=
  bd (x1_factOf N σ a1 a2) (fun r1 σ2 => bd (x1_with N σ2 a1 a2 (r1 &&& a3)) (fun r3 σ4 => some (r3, σ4)))
set_option maxHeartbeats 4000000 in
set_option maxRecDepth 100000 in
theorem s_x1_narrow {X : Cx} {ad : Nat → Nat} (C : Ok X cX1_narrow RX1 4 (some .long) 1 29) (N : Nat) (σ : St) (a1 : Int64) (a2 : Int32) (a3 : Int32) : Sim X scC ad 4 outL 0 [(0, .long a1), (2, .int a2), (3, .int a3)] [] σ (x1_narrow N σ a1 a2 a3) := by
  unfold x1_narrow
  refine g_lload_n C 0 dX1_narrow_0 rfl rfl ?_
  refine g_iload_n C 1 dX1_narrow_1 rfl rfl ?_
  refine g_lload_n C 0 dX1_narrow_2 rfl rfl ?_
  refine g_iload_n C 1 dX1_narrow_3 rfl rfl ?_
  refine v_x1_factOf_RX1 C ⟨by decide, by decide⟩ (Nat.le_of_ble_eq_true rfl) dX1_narrow_4 (fun r1 σ2 _ => ?_)
  refine g_iload_n C 2 dX1_narrow_7 rfl rfl ?_
  refine g_iand C dX1_narrow_8 ?_
  refine v_x1_with_RX1 C ⟨by decide, by decide⟩ (Nat.le_of_ble_eq_true rfl) dX1_narrow_9 (fun r3 σ4 _ => ?_)
  exact g_lret C dX1_narrow_12
theorem c_x1_narrow {Y : Yx} {ad : Nat → Nat} {N : Nat} {σ : St} {a1 : Int64} {a2 : Int32} {a3 : Int32} {r : Int64} {σ' : St} (h : x1_narrow N σ a1 a2 a3 = some (r, σ')) : Con Y scC ad yX1_narrow cX1_narrow 4 (some .long) 1 29 [.long a1, .int a2, .int a3] σ (outL r) σ' := con_of (by decide) rfl (Nat.le_of_ble_eq_true rfl) rfl (fun X hX C => s_x1_narrow C N σ a1 a2 a3) h
set_option maxRecDepth 20000 in
theorem v_x1_narrow_RX1 {X : Cx} {cc : ByteArray} {nL : Nat} {ret : Option FieldType} {fr lo : Nat} {ad : Nat → Nat} {ρ : Type} {out : ρ → Option Value} {pc : Nat} {lv : List (Nat × Value)} {rest : List Value} {σ : St} {N : Nat} {K : Int64 → St → Option (ρ × St)} {a1 : Int64} {a2 : Int32} {a3 : Int32} (C : Ok X cc RX1 nL ret fr lo) (hR : 1 + 1 ≤ fr ∧ 8 + (4 + 11) + 29 ≤ lo) (hcat : (rest.map fun v => v.category).sum ≤ 8) (hdg : decode cc pc = .ok (.invokestatic 158, 3)) (k : ∀ (r : Int64) (σ' : St), x1_narrow N σ a1 a2 a3 = some (r, σ') → Sim X scC ad nL out (pc + 3) lv (.long r :: rest) σ' (K r σ')) : Sim X scC ad nL out pc lv (.int a3 :: .int a2 :: .long a1 :: rest) σ (bd (x1_narrow N σ a1 a2 a3) K) := g_callS C (out1 := outL) (y := yX1_narrow) (n := 3) ⟨gw_875, gw_876, gw_113, gw_877⟩ (by decide +kernel) hR (fun r σ' h => c_x1_narrow h) rfl rfl hcat hdg k

def x1_fork_94 (N : Nat) (σ : St) (x1 : Int32) (x6 : Int64) (x8 : Int64) (t0 : Int32) (t1 : Int32) : Option (Unit × St) :=
  gd (isCd (gP σ 907)) (bd (x0_get N σ (gP σ 907) x1 3) (fun r8 σ9 => bd (x5_at N σ9 14 r8) (fun r10 σ11 => bd (x5_put N σ11 14 r8 (r10 ||| (t0 ||| t1))) (fun _ σ13 => bd (x1_join N σ13 (x1 + 1) x6) (fun _ σ15 => gd (isCd (gP σ15 907)) (bd (x0_get N σ15 (gP σ15 907) x1 10) (fun r17 σ18 => bd (x1_join N σ18 r17 x8) (fun _ σ20 => some ((), σ20)))))))))
def x1_fork_82 (N : Nat) (σ : St) (x1 : Int32) (x6 : Int64) (x8 : Int64) (t0 : Int32) : Option (Unit × St) :=
  (if (lg_cmp x8 0) = 0 then x1_fork_94 N σ x1 x6 x8 t0 0 else x1_fork_94 N σ x1 x6 x8 t0 2)
def x1_fork_70 (N : Nat) (σ : St) (x1 : Int32) (x6 : Int64) (x8 : Int64) : Option (Unit × St) :=
  (if (lg_cmp x6 0) = 0 then x1_fork_82 N σ x1 x6 x8 0 else x1_fork_82 N σ x1 x6 x8 1)
def x1_fork_46 (N : Nat) (σ : St) (x1 : Int32) (x2 : Int64) (x5 : Int32) (t0 : Int32) : Option (Unit × St) :=
  bd (x1_narrow N σ x2 x5 t0) (fun r21 σ22 => bd (x1_narrow N σ22 x2 x5 (3 - t0)) (fun r23 σ24 => x1_fork_70 N σ24 x1 r21 r23))
def x1_fork (N : Nat) (σ : St) (a1 : Int32) (a2 : Int64) : Option (Unit × St) :=
  gd (isCd (gP σ 907)) (bd (x0_get N σ (gP σ 907) a1 4) (fun r2 σ3 => gd (isCd (gP σ3 907)) (bd (x0_get N σ3 (gP σ3 907) a1 1) (fun r5 σ6 => (if r2 = 1 then x1_fork_70 N σ6 a1 a2 a2 else (if r2 = 6 then x1_fork_46 N σ6 a1 a2 r5 1 else x1_fork_46 N σ6 a1 a2 r5 2))))))
set_option maxHeartbeats 4000000 in
set_option maxRecDepth 100000 in
theorem s_x1_fork_94 {X : Cx} {ad : Nat → Nat} (C : Ok X cX1_fork RX1 12 none 2 52) (N : Nat) (σ : St) (x1 : Int32) (x6 : Int64) (x8 : Int64) (t0 : Int32) (t1 : Int32) : Sim X scC ad 12 outV 94 [(0, .ref (ad 9)), (1, .int x1), (6, .long x6), (8, .long x8)] [.int t1, .int t0] σ (x1_fork_94 N σ x1 x6 x8 t0 t1) := by
  unfold x1_fork_94
  refine g_ior C dX1_fork_94 ?_
  refine g_istore C [(10, .int (t0 ||| t1)), (0, .ref (ad 9)), (1, .int x1), (6, .long x6), (8, .long x8)] dX1_fork_95 (by decide) rfl ?_
  refine g_aload_n C 1 dX1_fork_97 rfl rfl ?_
  refine gf_RX1_49 C  (v := gP σ 907) dX1_fork_98 rfl ?_
  refine g_iload_n C 2 dX1_fork_101 rfl rfl ?_
  refine g_iconst C 3 dX1_fork_102 (by decide) ?_
  refine g_gd (fun hp7 => ?_)
  refine v_x0_get_RX1 C hp7 ⟨by decide, by decide⟩ (Nat.le_of_ble_eq_true rfl) dX1_fork_103 (fun r8 σ9 _ => ?_)
  refine g_istore C [(11, .int r8), (10, .int (t0 ||| t1)), (0, .ref (ad 9)), (1, .int x1), (6, .long x6), (8, .long x8)] dX1_fork_106 (by decide) rfl ?_
  refine g_aload_n C 2 dX1_fork_108 rfl rfl ?_
  refine gf_RX1_25 C  dX1_fork_109 ?_
  refine g_iload C 0 dX1_fork_112 rfl ?_
  refine g_aload_n C 2 dX1_fork_114 rfl rfl ?_
  refine gf_RX1_25 C  dX1_fork_115 ?_
  refine g_iload C 0 dX1_fork_118 rfl ?_
  refine v_x5_at_RX1 C ⟨by decide, by decide⟩ (Nat.le_of_ble_eq_true rfl) dX1_fork_120 (fun r10 σ11 _ => ?_)
  refine g_iload C 1 dX1_fork_123 rfl ?_
  refine g_ior C dX1_fork_125 ?_
  refine v_x5_put_RX1 C ⟨by decide, by decide⟩ (Nat.le_of_ble_eq_true rfl) dX1_fork_126 (fun r12 σ13 _ => ?_)
  refine g_aload_n C 2 dX1_fork_129 rfl rfl ?_
  refine g_iload_n C 3 dX1_fork_130 rfl rfl ?_
  refine g_iconst C 1 dX1_fork_131 (by decide) ?_
  refine g_iadd C dX1_fork_132 ?_
  refine g_lload C 4 dX1_fork_133 rfl ?_
  refine v_x1_join_RX1 C ⟨by decide, by decide⟩ (Nat.le_of_ble_eq_true rfl) dX1_fork_135 (fun r14 σ15 _ => ?_)
  refine g_aload_n C 2 dX1_fork_138 rfl rfl ?_
  refine g_aload_n C 2 dX1_fork_139 rfl rfl ?_
  refine gf_RX1_49 C  (v := gP σ15 907) dX1_fork_140 rfl ?_
  refine g_iload_n C 3 dX1_fork_143 rfl rfl ?_
  refine g_bipush C 10 dX1_fork_144 (by decide) ?_
  refine g_gd (fun hp16 => ?_)
  refine v_x0_get_RX1 C hp16 ⟨by decide, by decide⟩ (Nat.le_of_ble_eq_true rfl) dX1_fork_146 (fun r17 σ18 _ => ?_)
  refine g_lload C 5 dX1_fork_149 rfl ?_
  refine v_x1_join_RX1 C ⟨by decide, by decide⟩ (Nat.le_of_ble_eq_true rfl) dX1_fork_151 (fun r19 σ20 _ => ?_)
  exact g_vret C dX1_fork_154
set_option maxHeartbeats 4000000 in
set_option maxRecDepth 100000 in
theorem s_x1_fork_82 {X : Cx} {ad : Nat → Nat} (C : Ok X cX1_fork RX1 12 none 2 52) (N : Nat) (σ : St) (x1 : Int32) (x6 : Int64) (x8 : Int64) (t0 : Int32) : Sim X scC ad 12 outV 82 [(0, .ref (ad 9)), (1, .int x1), (6, .long x6), (8, .long x8)] [.int t0] σ (x1_fork_82 N σ x1 x6 x8 t0) := by
  unfold x1_fork_82
  refine g_lload C 3 dX1_fork_82 rfl ?_
  refine g_lconst C 0 dX1_fork_84 (by decide) ?_
  refine g_lcmp C dX1_fork_85 ?_
  refine g_if_eq C 93 dX1_fork_86 (by decide) ?_ ?_
  · refine g_iconst C 0 dX1_fork_93 (by decide) ?_
    exact g_sub [0, 1, 2, 3] rfl (s_x1_fork_94 C N σ x1 x6 x8 t0 0)
  · refine g_iconst C 2 dX1_fork_89 (by decide) ?_
    refine g_goto C 94 dX1_fork_90 (by decide) ?_
    exact g_sub [0, 1, 2, 3] rfl (s_x1_fork_94 C N σ x1 x6 x8 t0 2)
set_option maxHeartbeats 4000000 in
set_option maxRecDepth 100000 in
theorem s_x1_fork_70 {X : Cx} {ad : Nat → Nat} (C : Ok X cX1_fork RX1 12 none 2 52) (N : Nat) (σ : St) (x1 : Int32) (x6 : Int64) (x8 : Int64) : Sim X scC ad 12 outV 70 [(0, .ref (ad 9)), (1, .int x1), (6, .long x6), (8, .long x8)] [] σ (x1_fork_70 N σ x1 x6 x8) := by
  unfold x1_fork_70
  refine g_lload C 2 dX1_fork_70 rfl ?_
  refine g_lconst C 0 dX1_fork_72 (by decide) ?_
  refine g_lcmp C dX1_fork_73 ?_
  refine g_if_eq C 81 dX1_fork_74 (by decide) ?_ ?_
  · refine g_iconst C 0 dX1_fork_81 (by decide) ?_
    exact g_sub [0, 1, 2, 3] rfl (s_x1_fork_82 C N σ x1 x6 x8 0)
  · refine g_iconst C 1 dX1_fork_77 (by decide) ?_
    refine g_goto C 82 dX1_fork_78 (by decide) ?_
    exact g_sub [0, 1, 2, 3] rfl (s_x1_fork_82 C N σ x1 x6 x8 1)
set_option maxHeartbeats 4000000 in
set_option maxRecDepth 100000 in
theorem s_x1_fork_46 {X : Cx} {ad : Nat → Nat} (C : Ok X cX1_fork RX1 12 none 2 52) (N : Nat) (σ : St) (x1 : Int32) (x2 : Int64) (x5 : Int32) (t0 : Int32) : Sim X scC ad 12 outV 46 [(0, .ref (ad 9)), (1, .int x1), (2, .long x2), (5, .int x5)] [.int t0] σ (x1_fork_46 N σ x1 x2 x5 t0) := by
  unfold x1_fork_46
  refine g_istore C [(10, .int t0), (0, .ref (ad 9)), (1, .int x1), (2, .long x2), (5, .int x5)] dX1_fork_46 (by decide) rfl ?_
  refine g_lload_n C 3 dX1_fork_48 rfl rfl ?_
  refine g_iload C 4 dX1_fork_49 rfl ?_
  refine g_iload C 0 dX1_fork_51 rfl ?_
  refine v_x1_narrow_RX1 C ⟨by decide, by decide⟩ (Nat.le_of_ble_eq_true rfl) dX1_fork_53 (fun r21 σ22 _ => ?_)
  refine g_lstore C [(6, .long r21), (10, .int t0), (0, .ref (ad 9)), (1, .int x1), (2, .long x2), (5, .int x5)] dX1_fork_56 (by decide) rfl ?_
  refine g_lload_n C 4 dX1_fork_58 rfl rfl ?_
  refine g_iload C 5 dX1_fork_59 rfl ?_
  refine g_iconst C 3 dX1_fork_61 (by decide) ?_
  refine g_iload C 1 dX1_fork_62 rfl ?_
  refine g_isub C dX1_fork_64 ?_
  refine v_x1_narrow_RX1 C ⟨by decide, by decide⟩ (Nat.le_of_ble_eq_true rfl) dX1_fork_65 (fun r23 σ24 _ => ?_)
  refine g_lstore C [(8, .long r23), (6, .long r21), (10, .int t0), (0, .ref (ad 9)), (1, .int x1), (2, .long x2), (5, .int x5)] dX1_fork_68 (by decide) rfl ?_
  exact g_sub [3, 4, 1, 0] rfl (s_x1_fork_70 C N σ24 x1 r21 r23)
set_option maxHeartbeats 4000000 in
set_option maxRecDepth 100000 in
theorem s_x1_fork {X : Cx} {ad : Nat → Nat} (C : Ok X cX1_fork RX1 12 none 2 52) (N : Nat) (σ : St) (a1 : Int32) (a2 : Int64) : Sim X scC ad 12 outV 0 [(0, .ref (ad 9)), (1, .int a1), (2, .long a2)] [] σ (x1_fork N σ a1 a2) := by
  unfold x1_fork
  refine g_aload_n C 0 dX1_fork_0 rfl rfl ?_
  refine gf_RX1_49 C  (v := gP σ 907) dX1_fork_1 rfl ?_
  refine g_iload_n C 1 dX1_fork_4 rfl rfl ?_
  refine g_iconst C 4 dX1_fork_5 (by decide) ?_
  refine g_gd (fun hp1 => ?_)
  refine v_x0_get_RX1 C hp1 ⟨by decide, by decide⟩ (Nat.le_of_ble_eq_true rfl) dX1_fork_6 (fun r2 σ3 _ => ?_)
  refine g_istore C [(4, .int r2), (0, .ref (ad 9)), (1, .int a1), (2, .long a2)] dX1_fork_9 (by decide) rfl ?_
  refine g_aload_n C 1 dX1_fork_11 rfl rfl ?_
  refine gf_RX1_49 C  (v := gP σ3 907) dX1_fork_12 rfl ?_
  refine g_iload_n C 2 dX1_fork_15 rfl rfl ?_
  refine g_iconst C 1 dX1_fork_16 (by decide) ?_
  refine g_gd (fun hp4 => ?_)
  refine v_x0_get_RX1 C hp4 ⟨by decide, by decide⟩ (Nat.le_of_ble_eq_true rfl) dX1_fork_17 (fun r5 σ6 _ => ?_)
  refine g_istore C [(5, .int r5), (4, .int r2), (0, .ref (ad 9)), (1, .int a1), (2, .long a2)] dX1_fork_20 (by decide) rfl ?_
  refine g_lload_n C 4 dX1_fork_22 rfl rfl ?_
  refine g_lstore C [(6, .long a2), (5, .int r5), (4, .int r2), (0, .ref (ad 9)), (1, .int a1), (2, .long a2)] dX1_fork_23 (by decide) rfl ?_
  refine g_lload_n C 5 dX1_fork_25 rfl rfl ?_
  refine g_lstore C [(8, .long a2), (6, .long a2), (5, .int r5), (4, .int r2), (0, .ref (ad 9)), (1, .int a1), (2, .long a2)] dX1_fork_26 (by decide) rfl ?_
  refine g_iload C 3 dX1_fork_28 rfl ?_
  refine g_iconst C 1 dX1_fork_30 (by decide) ?_
  refine g_icmp_eq C 70 dX1_fork_31 (by decide) ?_ ?_
  · exact g_sub [4, 5, 1, 0] rfl (s_x1_fork_70 C N σ6 a1 a2 a2)
  · refine g_iload C 3 dX1_fork_34 rfl ?_
    refine g_bipush C 6 dX1_fork_36 (by decide) ?_
    refine g_icmp_ne C 45 dX1_fork_38 (by decide) ?_ ?_
    · refine g_iconst C 2 dX1_fork_45 (by decide) ?_
      exact g_sub [4, 5, 6, 2] rfl (s_x1_fork_46 C N σ6 a1 a2 r5 2)
    · refine g_iconst C 1 dX1_fork_41 (by decide) ?_
      refine g_goto C 46 dX1_fork_42 (by decide) ?_
      exact g_sub [4, 5, 6, 2] rfl (s_x1_fork_46 C N σ6 a1 a2 r5 1)
theorem c_x1_fork {Y : Yx} {ad : Nat → Nat} {N : Nat} {σ : St} {a1 : Int32} {a2 : Int64} {r : Unit} {σ' : St} (h : x1_fork N σ a1 a2 = some (r, σ')) : Con Y scC ad yX1_fork cX1_fork 12 none 2 52 [.ref (ad 9), .int a1, .long a2] σ (outV r) σ' := con_of (by decide) rfl (Nat.le_of_ble_eq_true rfl) rfl (fun X hX C => s_x1_fork C N σ a1 a2) h
set_option maxRecDepth 20000 in
theorem v_x1_fork_RX1 {X : Cx} {cc : ByteArray} {nL : Nat} {ret : Option FieldType} {fr lo : Nat} {ad : Nat → Nat} {ρ : Type} {out : ρ → Option Value} {pc : Nat} {lv : List (Nat × Value)} {rest : List Value} {σ : St} {N : Nat} {K : Unit → St → Option (ρ × St)} {a1 : Int32} {a2 : Int64} (C : Ok X cc RX1 nL ret fr lo) (hR : 2 + 1 ≤ fr ∧ 8 + (12 + 11) + 52 ≤ lo) (hcat : (rest.map fun v => v.category).sum ≤ 8) (hdg : decode cc pc = .ok (.invokevirtual 144, 3)) (k : ∀ (r : Unit) (σ' : St), x1_fork N σ a1 a2 = some (r, σ') → Sim X scC ad nL out (pc + 3) lv rest σ' (K r σ')) : Sim X scC ad nL out pc lv (.long a2 :: .int a1 :: .ref (ad 9) :: rest) σ (bd (x1_fork N σ a1 a2) K) := g_callV C (out1 := outV) (y := yX1_fork) (n := 2) ⟨gw_871, gw_873, gw_31, gw_113, gw_874⟩ (by decide +kernel) hR (o := 9) (ci := 1) (q9 := (RX1, TX1, 14)) im_9 rfl rfl rfl (fun r σ' h => c_x1_fork h) rfl rfl hcat hdg k
