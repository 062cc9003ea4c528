def m_frame_29 (N : Nat) (σ : St) (x1 : Int32) : Option (Unit × St) :=
  gd (ib (gI σ 50) 14) (some ((), (sI (sA σ 49 ((gI σ 50).toNatClampNeg) x1) 50 ((gI σ 50) + 1))))
def m_frame_2_b (N : Nat) (rec2 : St → Int32 → Int32 → Option (Unit × St)) (σ : St) (x1 : Int32) (x2 : Int32) : Option (Unit × St) :=
  (if 26 ≤ x2 then m_frame_29 N σ x1 else gd (ib ((26 * (gI σ 50)) + x2) 364) (rec2 (sA σ 48 (((26 * (gI σ 50)) + x2).toNatClampNeg) 0) x1 (x2 + 1)))
def m_frame_2 (N : Nat) : Nat → St → Int32 → Int32 → Option (Unit × St)
  | 0 => fun _ _ _ => none
  | n + 1 => fun σ x1 x2 => m_frame_2_b N (m_frame_2 N n) σ x1 x2
def m_frame (N : Nat) (σ : St) (a1 : Int32) : Option (Unit × St) :=
  m_frame_2 N N σ a1 0
set_option maxHeartbeats 4000000 in
set_option maxRecDepth 100000 in
theorem s_m_frame_29 {X : Cx} {ad : Nat → Nat} (C : Ok X cX11_frame RX11 3 none 0 0) (N : Nat) (σ : St) (x1 : Int32) : Sim X scM ad 3 outV 29 [(0, .ref (ad 0)), (1, .int x1)] [] σ (m_frame_29 N σ x1) := by
  unfold m_frame_29
  refine g_aload_n C 0 dX11_frame_29 rfl rfl ?_
  refine mg49 C dX11_frame_30 ?_
  refine g_aload_n C 0 dX11_frame_33 rfl rfl ?_
  refine mg50 C (v := gI σ 50) dX11_frame_34 rfl ?_
  refine g_iload_n C 1 dX11_frame_37 rfl rfl ?_
  refine mw49 C dX11_frame_38 ?_
  refine g_aload_n C 0 dX11_frame_39 rfl rfl ?_
  refine g_dup C dX11_frame_40 rfl ?_
  refine mg50 C (v := gI σ 50) dX11_frame_41 rfl ?_
  refine g_iconst C 1 dX11_frame_44 (by decide) ?_
  refine g_iadd C dX11_frame_45 ?_
  refine mp50 C dX11_frame_46 ?_
  exact g_vret C dX11_frame_49
set_option maxHeartbeats 4000000 in
set_option maxRecDepth 100000 in
theorem s_m_frame_2_b {X : Cx} {ad : Nat → Nat} (C : Ok X cX11_frame RX11 3 none 0 0) (N : Nat) {rec2 : St → Int32 → Int32 → Option (Unit × St)} (hrec2 : ∀ (σ : St) (x1 : Int32) (x2 : Int32), Sim X scM ad 3 outV 2 [(0, .ref (ad 0)), (1, .int x1), (2, .int x2)] [] σ (rec2 σ x1 x2)) (σ : St) (x1 : Int32) (x2 : Int32) : Sim X scM ad 3 outV 2 [(0, .ref (ad 0)), (1, .int x1), (2, .int x2)] [] σ (m_frame_2_b N rec2 σ x1 x2) := by
  unfold m_frame_2_b
  refine g_iload_n C 2 dX11_frame_2 rfl rfl ?_
  refine g_bipush C 26 dX11_frame_3 (by decide) ?_
  refine g_icmp_ge C 29 dX11_frame_5 (by decide) ?_ ?_
  · exact g_sub [0, 1] rfl (s_m_frame_29 C N σ x1)
  · refine g_aload_n C 0 dX11_frame_8 rfl rfl ?_
    refine mg48 C dX11_frame_9 ?_
    refine g_bipush C 26 dX11_frame_12 (by decide) ?_
    refine g_aload_n C 0 dX11_frame_14 rfl rfl ?_
    refine mg50 C (v := gI σ 50) dX11_frame_15 rfl ?_
    refine g_imul C dX11_frame_18 ?_
    refine g_iload_n C 2 dX11_frame_19 rfl rfl ?_
    refine g_iadd C dX11_frame_20 ?_
    refine g_iconst C 0 dX11_frame_21 (by decide) ?_
    refine mw48 C dX11_frame_22 ?_
    refine g_iinc C (x2 + 1) 2 [(2, .int (x2 + 1)), (0, .ref (ad 0)), (1, .int x1)] dX11_frame_23 rfl rfl (by decide) rfl ?_
    refine g_goto C 2 dX11_frame_26 (by decide) ?_
    exact g_sub [1, 2, 0] rfl (hrec2 (sA σ 48 (((26 * (gI σ 50)) + x2).toNatClampNeg) 0) x1 (x2 + 1))
set_option maxHeartbeats 4000000 in
set_option maxRecDepth 100000 in
theorem s_m_frame_2 {X : Cx} {ad : Nat → Nat} (C : Ok X cX11_frame RX11 3 none 0 0) (N : Nat) : ∀ (n : Nat) (σ : St) (x1 : Int32) (x2 : Int32), Sim X scM ad 3 outV 2 [(0, .ref (ad 0)), (1, .int x1), (2, .int x2)] [] σ (m_frame_2 N n σ x1 x2) := by
  intro n
  induction n with
  | zero => intro σ x1 x2; exact g_none
  | succ n ih => intro σ x1 x2; exact s_m_frame_2_b C N ih σ x1 x2
set_option maxHeartbeats 4000000 in
set_option maxRecDepth 100000 in
theorem s_m_frame {X : Cx} {ad : Nat → Nat} (C : Ok X cX11_frame RX11 3 none 0 0) (N : Nat) (σ : St) (a1 : Int32) : Sim X scM ad 3 outV 0 [(0, .ref (ad 0)), (1, .int a1)] [] σ (m_frame N σ a1) := by
  unfold m_frame
  refine g_iconst C 0 dX11_frame_0 (by decide) ?_
  refine g_istore_n C [(2, .int 0), (0, .ref (ad 0)), (1, .int a1)] dX11_frame_1 rfl (by decide) rfl ?_
  exact g_sub [1, 2, 0] rfl (s_m_frame_2 C N N σ a1 0)
theorem c_m_frame {Y : Yx} {ad : Nat → Nat} {N : Nat} {σ : St} {a1 : Int32} {r : Unit} {σ' : St} (h : m_frame N σ a1 = some (r, σ')) : Con Y scM ad yX11_frame cX11_frame 3 none 0 0 [.ref (ad 0), .int a1] σ (outV r) σ' := con_of (by decide) rfl (Nat.le_of_ble_eq_true rfl) rfl (fun X hX C => s_m_frame C N σ a1) h
set_option maxRecDepth 20000 in
theorem v_m_frame {X : Cx} {cc : ByteArray} {nL : Nat} {ret : Option FieldType} {fr lo : Nat} {ad : Nat → Nat} {ρ : Type} {out : ρ → Option Value} {pc : Nat} {lv : List (Nat × Value)} {rest : List Value} {σ : St} {N : Nat} {K : Unit → St → Option (ρ × St)} {a1 : Int32} (C : Ok X cc RX11 nL ret fr lo) (hR : 0 + 1 ≤ fr ∧ 8 + (3 + 11) + 0 ≤ lo) (hcat : (rest.map fun v => v.category).sum ≤ 8) (hdg : decode cc pc = .ok (.invokevirtual 332, 3)) (k : ∀ (r : Unit) (σ' : St), m_frame N σ a1 = some (r, σ') → Sim X scM ad nL out (pc + 3) lv rest σ' (K r σ')) : Sim X scM ad nL out pc lv (.int a1 :: .ref (ad 0) :: rest) σ (bd (m_frame N σ a1) K) := g_callV C (out1 := outV) (y := yX11_frame) (n := 1) ⟨gw_1502, gw_1504, gw_97, gw_117, gw_1505⟩ (by decide +kernel) hR (o := 0) (ci := 10) (q9 := (RX11, TX11, 68)) imM0 rfl rfl rfl (fun r σ' h => c_m_frame h) rfl rfl hcat hdg k

def m_canRun_42_b (N : Nat) (rec42 : St → Int32 → Int32 → Option (Int32 × St)) (σ : St) (x1 : Int32) (x3 : Int32) : Option (Int32 × St) :=
  gd (ib (gI σ 39) 16) ((if (gA σ 20 ((gI σ 39).toNatClampNeg)) ≤ x3 then some (1, σ) else gd (ib x3 4) ((if (((gA σ 40 x3.toNatClampNeg) >>> (((x1 >>> (x3 &&& 31)) &&& 1) &&& 31)) &&& 1) = 0 then some (0, σ) else rec42 σ x1 (x3 + 1)))))
def m_canRun_42 (N : Nat) : Nat → St → Int32 → Int32 → Option (Int32 × St)
  | 0 => fun _ _ _ => none
  | n + 1 => fun σ x1 x3 => m_canRun_42_b N (m_canRun_42 N n) σ x1 x3
def m_canRun (N : Nat) (σ : St) (a1 : Int32) (a2 : Int32) : Option (Int32 × St) :=
  (if (gI σ 39) = (-1) then some (0, σ) else (if a2 < 0 then some (0, σ) else (if 255 < a2 then some (0, σ) else (if a1 < 0 then some (0, σ) else gd (ib (gI σ 39) 16) ((if a1 < ((1 : Int32) <<< ((gA σ 20 ((gI σ 39).toNatClampNeg)) &&& 31)) then m_canRun_42 N N σ a1 0 else some (0, σ)))))))
set_option maxHeartbeats 4000000 in
set_option maxRecDepth 100000 in
theorem s_m_canRun_42_b {X : Cx} {ad : Nat → Nat} (C : Ok X cX11_canRun RX11 4 (some .boolean) 0 0) (N : Nat) {rec42 : St → Int32 → Int32 → Option (Int32 × St)} (hrec42 : ∀ (σ : St) (x1 : Int32) (x3 : Int32), Sim X scM ad 4 outI 42 [(0, .ref (ad 0)), (1, .int x1), (3, .int x3)] [] σ (rec42 σ x1 x3)) (σ : St) (x1 : Int32) (x3 : Int32) : Sim X scM ad 4 outI 42 [(0, .ref (ad 0)), (1, .int x1), (3, .int x3)] [] σ (m_canRun_42_b N rec42 σ x1 x3) := by
  unfold m_canRun_42_b
  refine g_iload_n C 2 dX11_canRun_42 rfl rfl ?_
  refine g_aload_n C 0 dX11_canRun_43 rfl rfl ?_
  refine mg20 C dX11_canRun_44 ?_
  refine g_aload_n C 0 dX11_canRun_47 rfl rfl ?_
  refine mg39 C (v := gI σ 39) dX11_canRun_48 rfl ?_
  refine mr20 C (v := gA σ 20 ((gI σ 39).toNatClampNeg)) dX11_canRun_51 rfl ?_
  refine g_icmp_ge C 80 dX11_canRun_52 (by decide) ?_ ?_
  · refine g_iconst C 1 dX11_canRun_80 (by decide) ?_
    exact g_zret C rfl dX11_canRun_81
  · refine g_aload_n C 0 dX11_canRun_55 rfl rfl ?_
    refine mg40 C dX11_canRun_56 ?_
    refine g_iload_n C 2 dX11_canRun_59 rfl rfl ?_
    refine mr40 C (v := gA σ 40 x3.toNatClampNeg) dX11_canRun_60 rfl ?_
    refine g_iload_n C 1 dX11_canRun_61 rfl rfl ?_
    refine g_iload_n C 2 dX11_canRun_62 rfl rfl ?_
    refine g_ishr C dX11_canRun_63 ?_
    refine g_iconst C 1 dX11_canRun_64 (by decide) ?_
    refine g_iand C dX11_canRun_65 ?_
    refine g_ishr C dX11_canRun_66 ?_
    refine g_iconst C 1 dX11_canRun_67 (by decide) ?_
    refine g_iand C dX11_canRun_68 ?_
    refine g_if_ne C 74 dX11_canRun_69 (by decide) ?_ ?_
    · refine g_iinc C (x3 + 1) 2 [(3, .int (x3 + 1)), (0, .ref (ad 0)), (1, .int x1)] dX11_canRun_74 rfl rfl (by decide) rfl ?_
      refine g_goto C 42 dX11_canRun_77 (by decide) ?_
      exact g_sub [1, 2, 0] rfl (hrec42 σ x1 (x3 + 1))
    · refine g_iconst C 0 dX11_canRun_72 (by decide) ?_
      exact g_zret C rfl dX11_canRun_73
set_option maxHeartbeats 4000000 in
set_option maxRecDepth 100000 in
theorem s_m_canRun_42 {X : Cx} {ad : Nat → Nat} (C : Ok X cX11_canRun RX11 4 (some .boolean) 0 0) (N : Nat) : ∀ (n : Nat) (σ : St) (x1 : Int32) (x3 : Int32), Sim X scM ad 4 outI 42 [(0, .ref (ad 0)), (1, .int x1), (3, .int x3)] [] σ (m_canRun_42 N n σ x1 x3) := by
  intro n
  induction n with
  | zero => intro σ x1 x3; exact g_none
  | succ n ih => intro σ x1 x3; exact s_m_canRun_42_b C N ih σ x1 x3
set_option maxHeartbeats 4000000 in
set_option maxRecDepth 100000 in
theorem s_m_canRun {X : Cx} {ad : Nat → Nat} (C : Ok X cX11_canRun RX11 4 (some .boolean) 0 0) (N : Nat) (σ : St) (a1 : Int32) (a2 : Int32) : Sim X scM ad 4 outI 0 [(0, .ref (ad 0)), (1, .int a1), (2, .int a2)] [] σ (m_canRun N σ a1 a2) := by
  unfold m_canRun
  refine g_aload_n C 0 dX11_canRun_0 rfl rfl ?_
  refine mg39 C (v := gI σ 39) dX11_canRun_1 rfl ?_
  refine g_iconst C (-1) dX11_canRun_4 (by decide) ?_
  refine g_icmp_eq C 38 dX11_canRun_5 (by decide) ?_ ?_
  · refine g_iconst C 0 dX11_canRun_38 (by decide) ?_
    exact g_zret C rfl dX11_canRun_39
  · refine g_iload_n C 2 dX11_canRun_8 rfl rfl ?_
    refine g_if_lt C 38 dX11_canRun_9 (by decide) ?_ ?_
    · refine g_iconst C 0 dX11_canRun_38 (by decide) ?_
      exact g_zret C rfl dX11_canRun_39
    · refine g_iload_n C 2 dX11_canRun_12 rfl rfl ?_
      refine g_sipush C 255 dX11_canRun_13 (by decide) ?_
      refine g_icmp_gt C 38 dX11_canRun_16 (by decide) ?_ ?_
      · refine g_iconst C 0 dX11_canRun_38 (by decide) ?_
        exact g_zret C rfl dX11_canRun_39
      · refine g_iload_n C 1 dX11_canRun_19 rfl rfl ?_
        refine g_if_lt C 38 dX11_canRun_20 (by decide) ?_ ?_
        · refine g_iconst C 0 dX11_canRun_38 (by decide) ?_
          exact g_zret C rfl dX11_canRun_39
        · refine g_iload_n C 1 dX11_canRun_23 rfl rfl ?_
          refine g_iconst C 1 dX11_canRun_24 (by decide) ?_
          refine g_aload_n C 0 dX11_canRun_25 rfl rfl ?_
          refine mg20 C dX11_canRun_26 ?_
          refine g_aload_n C 0 dX11_canRun_29 rfl rfl ?_
          refine mg39 C (v := gI σ 39) dX11_canRun_30 rfl ?_
          refine mr20 C (v := gA σ 20 ((gI σ 39).toNatClampNeg)) dX11_canRun_33 rfl ?_
          refine g_ishl C dX11_canRun_34 ?_
          refine g_icmp_lt C 40 dX11_canRun_35 (by decide) ?_ ?_
          · refine g_iconst C 0 dX11_canRun_40 (by decide) ?_
            refine g_istore_n C [(3, .int 0), (0, .ref (ad 0)), (1, .int a1), (2, .int a2)] dX11_canRun_41 rfl (by decide) rfl ?_
            exact g_sub [1, 2, 0] rfl (s_m_canRun_42 C N N σ a1 0)
          · refine g_iconst C 0 dX11_canRun_38 (by decide) ?_
            exact g_zret C rfl dX11_canRun_39
theorem c_m_canRun {Y : Yx} {ad : Nat → Nat} {N : Nat} {σ : St} {a1 : Int32} {a2 : Int32} {r : Int32} {σ' : St} (h : m_canRun N σ a1 a2 = some (r, σ')) : Con Y scM ad yX11_canRun cX11_canRun 4 (some .boolean) 0 0 [.ref (ad 0), .int a1, .int a2] σ (outI r) σ' := con_of (by decide) rfl (Nat.le_of_ble_eq_true rfl) rfl (fun X hX C => s_m_canRun C N σ a1 a2) h
set_option maxRecDepth 20000 in
theorem v_m_canRun {X : Cx} {cc : ByteArray} {nL : Nat} {ret : Option FieldType} {fr lo : Nat} {ad : Nat → Nat} {ρ : Type} {out : ρ → Option Value} {pc : Nat} {lv : List (Nat × Value)} {rest : List Value} {σ : St} {N : Nat} {K : Int32 → St → Option (ρ × St)} {a1 : Int32} {a2 : Int32} (C : Ok X cc RX11 nL ret fr lo) (hR : 0 + 1 ≤ fr ∧ 8 + (4 + 11) + 0 ≤ lo) (hcat : (rest.map fun v => v.category).sum ≤ 8) (hdg : decode cc pc = .ok (.invokevirtual 356, 3)) (k : ∀ (r : Int32) (σ' : St), m_canRun N σ a1 a2 = some (r, σ') → Sim X scM ad nL out (pc + 3) lv (.int r :: rest) σ' (K r σ')) : Sim X scM ad nL out pc lv (.int a2 :: .int a1 :: .ref (ad 0) :: rest) σ (bd (m_canRun N σ a1 a2) K) := g_callV C (out1 := outI) (y := yX11_canRun) (n := 2) ⟨gw_1494, gw_1496, gw_95, gw_117, gw_1497⟩ (by decide +kernel) hR (o := 0) (ci := 10) (q9 := (RX11, TX11, 68)) imM0 rfl rfl rfl (fun r σ' h => c_m_canRun h) rfl rfl hcat hdg k

def m_step (N : Nat) (σ : St) : Option (Unit × St) :=
  (if (gI σ 52) = 400 then some ((), (sI σ 55 3)) else some ((), (sI σ 52 ((gI σ 52) + 1))))
set_option maxHeartbeats 4000000 in
set_option maxRecDepth 100000 in
theorem s_m_step {X : Cx} {ad : Nat → Nat} (C : Ok X cX11_step RX11 1 none 0 0) (N : Nat) (σ : St) : Sim X scM ad 1 outV 0 [(0, .ref (ad 0))] [] σ (m_step N σ) := by
  unfold m_step
  refine g_aload_n C 0 dX11_step_0 rfl rfl ?_
  refine mg52 C (v := gI σ 52) dX11_step_1 rfl ?_
  refine g_sipush C 400 dX11_step_4 (by decide) ?_
  refine g_icmp_ne C 18 dX11_step_7 (by decide) ?_ ?_
  · refine g_aload_n C 0 dX11_step_18 rfl rfl ?_
    refine g_dup C dX11_step_19 rfl ?_
    refine mg52 C (v := gI σ 52) dX11_step_20 rfl ?_
    refine g_iconst C 1 dX11_step_23 (by decide) ?_
    refine g_iadd C dX11_step_24 ?_
    refine mp52 C dX11_step_25 ?_
    exact g_vret C dX11_step_28
  · refine g_aload_n C 0 dX11_step_10 rfl rfl ?_
    refine g_iconst C 3 dX11_step_11 (by decide) ?_
    refine mp55 C dX11_step_12 ?_
    refine g_goto C 28 dX11_step_15 (by decide) ?_
    exact g_vret C dX11_step_28
theorem c_m_step {Y : Yx} {ad : Nat → Nat} {N : Nat} {σ : St} {r : Unit} {σ' : St} (h : m_step N σ = some (r, σ')) : Con Y scM ad yX11_step cX11_step 1 none 0 0 [.ref (ad 0)] σ (outV r) σ' := con_of (by decide) rfl (Nat.le_of_ble_eq_true rfl) rfl (fun X hX C => s_m_step C N σ) h
set_option maxRecDepth 20000 in
theorem v_m_step {X : Cx} {cc : ByteArray} {nL : Nat} {ret : Option FieldType} {fr lo : Nat} {ad : Nat → Nat} {ρ : Type} {out : ρ → Option Value} {pc : Nat} {lv : List (Nat × Value)} {rest : List Value} {σ : St} {N : Nat} {K : Unit → St → Option (ρ × St)} (C : Ok X cc RX11 nL ret fr lo) (hR : 0 + 1 ≤ fr ∧ 8 + (1 + 11) + 0 ≤ lo) (hcat : (rest.map fun v => v.category).sum ≤ 8) (hdg : decode cc pc = .ok (.invokevirtual 341, 3)) (k : ∀ (r : Unit) (σ' : St), m_step N σ = some (r, σ') → Sim X scM ad nL out (pc + 3) lv rest σ' (K r σ')) : Sim X scM ad nL out pc lv (.ref (ad 0) :: rest) σ (bd (m_step N σ) K) := g_callV C (out1 := outV) (y := yX11_step) (n := 0) ⟨gw_1514, gw_1516, gw_100, gw_117, gw_1517⟩ (by decide +kernel) hR (o := 0) (ci := 10) (q9 := (RX11, TX11, 68)) imM0 rfl rfl rfl (fun r σ' h => c_m_step h) rfl rfl hcat hdg k

def m_nameOf (N : Nat) (σ : St) (a1 : Int32) : Option (Int32 × St) :=
  gd (ib ((26 * ((gI σ 50) - 1)) + a1) 364) (some (gA σ 48 (((26 * ((gI σ 50) - 1)) + a1).toNatClampNeg), σ))
set_option maxHeartbeats 4000000 in
set_option maxRecDepth 100000 in
theorem s_m_nameOf {X : Cx} {ad : Nat → Nat} (C : Ok X cX11_nameOf RX11 2 (some .int) 0 0) (N : Nat) (σ : St) (a1 : Int32) : Sim X scM ad 2 outI 0 [(0, .ref (ad 0)), (1, .int a1)] [] σ (m_nameOf N σ a1) := by
  unfold m_nameOf
  refine g_aload_n C 0 dX11_nameOf_0 rfl rfl ?_
  refine mg48 C dX11_nameOf_1 ?_
  refine g_bipush C 26 dX11_nameOf_4 (by decide) ?_
  refine g_aload_n C 0 dX11_nameOf_6 rfl rfl ?_
  refine mg50 C (v := gI σ 50) dX11_nameOf_7 rfl ?_
  refine g_iconst C 1 dX11_nameOf_10 (by decide) ?_
  refine g_isub C dX11_nameOf_11 ?_
  refine g_imul C dX11_nameOf_12 ?_
  refine g_iload_n C 1 dX11_nameOf_13 rfl rfl ?_
  refine g_iadd C dX11_nameOf_14 ?_
  refine mr48 C (v := gA σ 48 (((26 * ((gI σ 50) - 1)) + a1).toNatClampNeg)) dX11_nameOf_15 rfl ?_
  exact g_iret C dX11_nameOf_16
theorem c_m_nameOf {Y : Yx} {ad : Nat → Nat} {N : Nat} {σ : St} {a1 : Int32} {r : Int32} {σ' : St} (h : m_nameOf N σ a1 = some (r, σ')) : Con Y scM ad yX11_nameOf cX11_nameOf 2 (some .int) 0 0 [.ref (ad 0), .int a1] σ (outI r) σ' := con_of (by decide) rfl (Nat.le_of_ble_eq_true rfl) rfl (fun X hX C => s_m_nameOf C N σ a1) h
set_option maxRecDepth 20000 in
theorem v_m_nameOf {X : Cx} {cc : ByteArray} {nL : Nat} {ret : Option FieldType} {fr lo : Nat} {ad : Nat → Nat} {ρ : Type} {out : ρ → Option Value} {pc : Nat} {lv : List (Nat × Value)} {rest : List Value} {σ : St} {N : Nat} {K : Int32 → St → Option (ρ × St)} {a1 : Int32} (C : Ok X cc RX11 nL ret fr lo) (hR : 0 + 1 ≤ fr ∧ 8 + (2 + 11) + 0 ≤ lo) (hcat : (rest.map fun v => v.category).sum ≤ 8) (hdg : decode cc pc = .ok (.invokevirtual 347, 3)) (k : ∀ (r : Int32) (σ' : St), m_nameOf N σ a1 = some (r, σ') → Sim X scM ad nL out (pc + 3) lv (.int r :: rest) σ' (K r σ')) : Sim X scM ad nL out pc lv (.int a1 :: .ref (ad 0) :: rest) σ (bd (m_nameOf N σ a1) K) := g_callV C (out1 := outI) (y := yX11_nameOf) (n := 1) ⟨gw_1522, gw_1524, gw_102, gw_117, gw_1525⟩ (by decide +kernel) hR (o := 0) (ci := 10) (q9 := (RX11, TX11, 68)) imM0 rfl rfl rfl (fun r σ' h => c_m_nameOf h) rfl rfl hcat hdg k

def m_fails (N : Nat) (σ : St) (a1 : Int32) : Option (Unit × St) :=
  some ((), (sI (sI σ 55 2) 54 a1))
set_option maxHeartbeats 4000000 in
set_option maxRecDepth 100000 in
theorem s_m_fails {X : Cx} {ad : Nat → Nat} (C : Ok X cX11_fails RX11 2 none 0 0) (N : Nat) (σ : St) (a1 : Int32) : Sim X scM ad 2 outV 0 [(0, .ref (ad 0)), (1, .int a1)] [] σ (m_fails N σ a1) := by
  unfold m_fails
  refine g_aload_n C 0 dX11_fails_0 rfl rfl ?_
  refine g_iconst C 2 dX11_fails_1 (by decide) ?_
  refine mp55 C dX11_fails_2 ?_
  refine g_aload_n C 0 dX11_fails_5 rfl rfl ?_
  refine g_iload_n C 1 dX11_fails_6 rfl rfl ?_
  refine mp54 C dX11_fails_7 ?_
  exact g_vret C dX11_fails_10
theorem c_m_fails {Y : Yx} {ad : Nat → Nat} {N : Nat} {σ : St} {a1 : Int32} {r : Unit} {σ' : St} (h : m_fails N σ a1 = some (r, σ')) : Con Y scM ad yX11_fails cX11_fails 2 none 0 0 [.ref (ad 0), .int a1] σ (outV r) σ' := con_of (by decide) rfl (Nat.le_of_ble_eq_true rfl) rfl (fun X hX C => s_m_fails C N σ a1) h
set_option maxRecDepth 20000 in
theorem v_m_fails {X : Cx} {cc : ByteArray} {nL : Nat} {ret : Option FieldType} {fr lo : Nat} {ad : Nat → Nat} {ρ : Type} {out : ρ → Option Value} {pc : Nat} {lv : List (Nat × Value)} {rest : List Value} {σ : St} {N : Nat} {K : Unit → St → Option (ρ × St)} {a1 : Int32} (C : Ok X cc RX11 nL ret fr lo) (hR : 0 + 1 ≤ fr ∧ 8 + (2 + 11) + 0 ≤ lo) (hcat : (rest.map fun v => v.category).sum ≤ 8) (hdg : decode cc pc = .ok (.invokevirtual 350, 3)) (k : ∀ (r : Unit) (σ' : St), m_fails N σ a1 = some (r, σ') → Sim X scM ad nL out (pc + 3) lv rest σ' (K r σ')) : Sim X scM ad nL out pc lv (.int a1 :: .ref (ad 0) :: rest) σ (bd (m_fails N σ a1) K) := g_callV C (out1 := outV) (y := yX11_fails) (n := 1) ⟨gw_1526, gw_1528, gw_103, gw_117, gw_1529⟩ (by decide +kernel) hR (o := 0) (ci := 10) (q9 := (RX11, TX11, 68)) imM0 rfl rfl rfl (fun r σ' h => c_m_fails h) rfl rfl hcat hdg k

def m_enter_43_b (N : Nat) (rec43 : St → Int32 → Int32 → Int32 → Int32 → Option (Int32 × St)) (σ : St) (x1 : Int32) (x2 : Int32) (x3 : Int32) (x4 : Int32) : Option (Int32 × St) :=
  gd (ib x1 2600) ((if (gA σ 14 x1.toNatClampNeg) ≤ x4 then gd (ib x3 16) (some (gA σ 19 x3.toNatClampNeg, σ)) else gd (ib ((4 * x3) + x4) 64) (gd (ib x1 2600) (gd (ib (x2 + (((gA σ 16 x1.toNatClampNeg) >>> ((5 * x4) &&& 31)) &&& 31)) 364) (gd (ib ((26 * ((gI σ 50) - 1)) + (gA σ 21 (((4 * x3) + x4).toNatClampNeg))) 364) (rec43 (sA σ 48 (((26 * ((gI σ 50) - 1)) + (gA σ 21 (((4 * x3) + x4).toNatClampNeg))).toNatClampNeg) (gA σ 48 ((x2 + (((gA σ 16 x1.toNatClampNeg) >>> ((5 * x4) &&& 31)) &&& 31)).toNatClampNeg))) x1 x2 x3 (x4 + 1)))))))
def m_enter_43 (N : Nat) : Nat → St → Int32 → Int32 → Int32 → Int32 → Option (Int32 × St)
  | 0 => fun _ _ _ _ _ => none
  | n + 1 => fun σ x1 x2 x3 x4 => m_enter_43_b N (m_enter_43 N n) σ x1 x2 x3 x4
def m_enter (N : Nat) (σ : St) (a1 : Int32) : Option (Int32 × St) :=
  (if (gI σ 50) = 13 then some (a1, (sI σ 55 3)) else gd (ib a1 2600) (bd (m_frame N σ (a1 + 1)) (fun _ σ2 => m_enter_43 N N σ2 a1 (26 * ((gI σ 50) - 1)) (gA σ 13 a1.toNatClampNeg) 0)))
set_option maxHeartbeats 4000000 in
set_option maxRecDepth 100000 in
theorem s_m_enter_43_b {X : Cx} {ad : Nat → Nat} (C : Ok X cX11_enter RX11 5 (some .int) 1 22) (N : Nat) {rec43 : St → Int32 → Int32 → Int32 → Int32 → Option (Int32 × St)} (hrec43 : ∀ (σ : St) (x1 : Int32) (x2 : Int32) (x3 : Int32) (x4 : Int32), Sim X scM ad 5 outI 43 [(0, .ref (ad 0)), (1, .int x1), (2, .int x2), (3, .int x3), (4, .int x4)] [] σ (rec43 σ x1 x2 x3 x4)) (σ : St) (x1 : Int32) (x2 : Int32) (x3 : Int32) (x4 : Int32) : Sim X scM ad 5 outI 43 [(0, .ref (ad 0)), (1, .int x1), (2, .int x2), (3, .int x3), (4, .int x4)] [] σ (m_enter_43_b N rec43 σ x1 x2 x3 x4) := by
  unfold m_enter_43_b
  refine g_iload C 4 dX11_enter_43 rfl ?_
  refine g_aload_n C 0 dX11_enter_45 rfl rfl ?_
  refine mg14 C dX11_enter_46 ?_
  refine g_iload_n C 1 dX11_enter_49 rfl rfl ?_
  refine mr14 C (v := gA σ 14 x1.toNatClampNeg) dX11_enter_50 rfl ?_
  refine g_icmp_ge C 107 dX11_enter_51 (by decide) ?_ ?_
  · refine g_aload_n C 0 dX11_enter_107 rfl rfl ?_
    refine mg19 C dX11_enter_108 ?_
    refine g_iload_n C 3 dX11_enter_111 rfl rfl ?_
    refine mr19 C (v := gA σ 19 x3.toNatClampNeg) dX11_enter_112 rfl ?_
    exact g_iret C dX11_enter_113
  · refine g_aload_n C 0 dX11_enter_54 rfl rfl ?_
    refine mg48 C dX11_enter_55 ?_
    refine g_bipush C 26 dX11_enter_58 (by decide) ?_
    refine g_aload_n C 0 dX11_enter_60 rfl rfl ?_
    refine mg50 C (v := gI σ 50) dX11_enter_61 rfl ?_
    refine g_iconst C 1 dX11_enter_64 (by decide) ?_
    refine g_isub C dX11_enter_65 ?_
    refine g_imul C dX11_enter_66 ?_
    refine g_aload_n C 0 dX11_enter_67 rfl rfl ?_
    refine mg21 C dX11_enter_68 ?_
    refine g_iconst C 4 dX11_enter_71 (by decide) ?_
    refine g_iload_n C 3 dX11_enter_72 rfl rfl ?_
    refine g_imul C dX11_enter_73 ?_
    refine g_iload C 4 dX11_enter_74 rfl ?_
    refine g_iadd C dX11_enter_76 ?_
    refine mr21 C (v := gA σ 21 (((4 * x3) + x4).toNatClampNeg)) dX11_enter_77 rfl ?_
    refine g_iadd C dX11_enter_78 ?_
    refine g_aload_n C 0 dX11_enter_79 rfl rfl ?_
    refine mg48 C dX11_enter_80 ?_
    refine g_iload_n C 2 dX11_enter_83 rfl rfl ?_
    refine g_aload_n C 0 dX11_enter_84 rfl rfl ?_
    refine mg16 C dX11_enter_85 ?_
    refine g_iload_n C 1 dX11_enter_88 rfl rfl ?_
    refine mr16 C (v := gA σ 16 x1.toNatClampNeg) dX11_enter_89 rfl ?_
    refine g_iconst C 5 dX11_enter_90 (by decide) ?_
    refine g_iload C 4 dX11_enter_91 rfl ?_
    refine g_imul C dX11_enter_93 ?_
    refine g_ishr C dX11_enter_94 ?_
    refine g_bipush C 31 dX11_enter_95 (by decide) ?_
    refine g_iand C dX11_enter_97 ?_
    refine g_iadd C dX11_enter_98 ?_
    refine mr48 C (v := gA σ 48 ((x2 + (((gA σ 16 x1.toNatClampNeg) >>> ((5 * x4) &&& 31)) &&& 31)).toNatClampNeg)) dX11_enter_99 rfl ?_
    refine mw48 C dX11_enter_100 ?_
    refine g_iinc C (x4 + 1) 4 [(4, .int (x4 + 1)), (0, .ref (ad 0)), (1, .int x1), (2, .int x2), (3, .int x3)] dX11_enter_101 rfl rfl (by decide) rfl ?_
    refine g_goto C 43 dX11_enter_104 (by decide) ?_
    exact g_sub [1, 2, 3, 4, 0] rfl (hrec43 (sA σ 48 (((26 * ((gI σ 50) - 1)) + (gA σ 21 (((4 * x3) + x4).toNatClampNeg))).toNatClampNeg) (gA σ 48 ((x2 + (((gA σ 16 x1.toNatClampNeg) >>> ((5 * x4) &&& 31)) &&& 31)).toNatClampNeg))) x1 x2 x3 (x4 + 1))
set_option maxHeartbeats 4000000 in
set_option maxRecDepth 100000 in
theorem s_m_enter_43 {X : Cx} {ad : Nat → Nat} (C : Ok X cX11_enter RX11 5 (some .int) 1 22) (N : Nat) : ∀ (n : Nat) (σ : St) (x1 : Int32) (x2 : Int32) (x3 : Int32) (x4 : Int32), Sim X scM ad 5 outI 43 [(0, .ref (ad 0)), (1, .int x1), (2, .int x2), (3, .int x3), (4, .int x4)] [] σ (m_enter_43 N n σ x1 x2 x3 x4) := by
  intro n
  induction n with
  | zero => intro σ x1 x2 x3 x4; exact g_none
  | succ n ih => intro σ x1 x2 x3 x4; exact s_m_enter_43_b C N ih σ x1 x2 x3 x4
set_option maxHeartbeats 4000000 in
set_option maxRecDepth 100000 in
theorem s_m_enter {X : Cx} {ad : Nat → Nat} (C : Ok X cX11_enter RX11 5 (some .int) 1 22) (N : Nat) (σ : St) (a1 : Int32) : Sim X scM ad 5 outI 0 [(0, .ref (ad 0)), (1, .int a1)] [] σ (m_enter N σ a1) := by
  unfold m_enter
  refine g_aload_n C 0 dX11_enter_0 rfl rfl ?_
  refine mg50 C (v := gI σ 50) dX11_enter_1 rfl ?_
  refine g_bipush C 13 dX11_enter_4 (by decide) ?_
  refine g_icmp_ne C 16 dX11_enter_6 (by decide) ?_ ?_
  · refine g_bipush C 26 dX11_enter_16 (by decide) ?_
    refine g_aload_n C 0 dX11_enter_18 rfl rfl ?_
    refine mg50 C (v := gI σ 50) dX11_enter_19 rfl ?_
    refine g_iconst C 1 dX11_enter_22 (by decide) ?_
    refine g_isub C dX11_enter_23 ?_
    refine g_imul C dX11_enter_24 ?_
    refine g_istore_n C [(2, .int (26 * ((gI σ 50) - 1))), (0, .ref (ad 0)), (1, .int a1)] dX11_enter_25 rfl (by decide) rfl ?_
    refine g_aload_n C 1 dX11_enter_26 rfl rfl ?_
    refine mg13 C dX11_enter_27 ?_
    refine g_iload_n C 2 dX11_enter_30 rfl rfl ?_
    refine mr13 C (v := gA σ 13 a1.toNatClampNeg) dX11_enter_31 rfl ?_
    refine g_istore_n C [(3, .int (gA σ 13 a1.toNatClampNeg)), (2, .int (26 * ((gI σ 50) - 1))), (0, .ref (ad 0)), (1, .int a1)] dX11_enter_32 rfl (by decide) rfl ?_
    refine g_aload_n C 2 dX11_enter_33 rfl rfl ?_
    refine g_iload_n C 3 dX11_enter_34 rfl rfl ?_
    refine g_iconst C 1 dX11_enter_35 (by decide) ?_
    refine g_iadd C dX11_enter_36 ?_
    refine v_m_frame C ⟨by decide, by decide⟩ (Nat.le_of_ble_eq_true rfl) dX11_enter_37 (fun r1 σ2 _ => ?_)
    refine g_iconst C 0 dX11_enter_40 (by decide) ?_
    refine g_istore C [(4, .int 0), (3, .int (gA σ 13 a1.toNatClampNeg)), (2, .int (26 * ((gI σ 50) - 1))), (0, .ref (ad 0)), (1, .int a1)] dX11_enter_41 (by decide) rfl ?_
    exact g_sub [3, 4, 2, 1, 0] rfl (s_m_enter_43 C N N σ2 a1 (26 * ((gI σ 50) - 1)) (gA σ 13 a1.toNatClampNeg) 0)
  · refine g_aload_n C 0 dX11_enter_9 rfl rfl ?_
    refine g_iconst C 3 dX11_enter_10 (by decide) ?_
    refine mp55 C dX11_enter_11 ?_
    refine g_iload_n C 1 dX11_enter_14 rfl rfl ?_
    exact g_iret C dX11_enter_15
theorem c_m_enter {Y : Yx} {ad : Nat → Nat} {N : Nat} {σ : St} {a1 : Int32} {r : Int32} {σ' : St} (h : m_enter N σ a1 = some (r, σ')) : Con Y scM ad yX11_enter cX11_enter 5 (some .int) 1 22 [.ref (ad 0), .int a1] σ (outI r) σ' := con_of (by decide) rfl (Nat.le_of_ble_eq_true rfl) rfl (fun X hX C => s_m_enter C N σ a1) h
set_option maxRecDepth 20000 in
theorem v_m_enter {X : Cx} {cc : ByteArray} {nL : Nat} {ret : Option FieldType} {fr lo : Nat} {ad : Nat → Nat} {ρ : Type} {out : ρ → Option Value} {pc : Nat} {lv : List (Nat × Value)} {rest : List Value} {σ : St} {N : Nat} {K : Int32 → St → Option (ρ × St)} {a1 : Int32} (C : Ok X cc RX11 nL ret fr lo) (hR : 1 + 1 ≤ fr ∧ 8 + (5 + 11) + 22 ≤ lo) (hcat : (rest.map fun v => v.category).sum ≤ 8) (hdg : decode cc pc = .ok (.invokevirtual 353, 3)) (k : ∀ (r : Int32) (σ' : St), m_enter N σ a1 = some (r, σ') → Sim X scM ad nL out (pc + 3) lv (.int r :: rest) σ' (K r σ')) : Sim X scM ad nL out pc lv (.int a1 :: .ref (ad 0) :: rest) σ (bd (m_enter N σ a1) K) := g_callV C (out1 := outI) (y := yX11_enter) (n := 1) ⟨gw_1530, gw_1532, gw_104, gw_117, gw_1533⟩ (by decide +kernel) hR (o := 0) (ci := 10) (q9 := (RX11, TX11, 68)) imM0 rfl rfl rfl (fun r σ' h => c_m_enter h) rfl rfl hcat hdg k

def m_does_110 (N : Nat) (σ : St) (x1 : Int32) (t1 : Int32) : Option (Int32 × St) :=
  some (x1 + 1, (sI σ 51 t1))
def m_does_437 (N : Nat) (σ : St) (x1 : Int32) (t0 : Int32) : Option (Int32 × St) :=
  (if t0 = 0 then gd (ib x1 2600) (some (gA σ 15 x1.toNatClampNeg, σ)) else some (x1 + 1, σ))
def m_does_429 (N : Nat) (σ : St) (x1 : Int32) (t0 : Int32) (t1 : Int32) : Option (Int32 × St) :=
  (if t0 = t1 then m_does_437 N σ x1 1 else m_does_437 N σ x1 0)
def m_does_413 (N : Nat) (σ : St) (x1 : Int32) (t0 : Int32) : Option (Int32 × St) :=
  gd (ib x1 2600) ((if (gA σ 12 x1.toNatClampNeg) = 10 then m_does_429 N σ x1 t0 1 else m_does_429 N σ x1 t0 0))
def m_does (N : Nat) (σ : St) (a1 : Int32) (a2 : Int32) : Option (Int32 × St) :=
  gd (ib a1 2600) ((if (gA σ 12 a1.toNatClampNeg) = 0 then bd (m_step N σ) (fun _ σ3 => some (a1 + 1, σ3)) else (if (gA σ 12 a1.toNatClampNeg) = 1 then some (a1 + 1, (sI σ 51 0)) else (if (gA σ 12 a1.toNatClampNeg) = 2 then bd (m_chooses N σ a2) (fun r6 σ7 => (if r6 = 0 then m_does_110 N σ7 a1 0 else bd (m_makes N σ7 (-1) (-1)) (fun r8 σ9 => m_does_110 N σ9 a1 r8))) else (if (gA σ 12 a1.toNatClampNeg) = 3 then gd (ib a1 2600) (bd (m_nameOf N σ (gA σ 13 a1.toNatClampNeg)) (fun r11 σ12 => gd (ib a1 2600) (bd (m_nameOf N σ12 (gA σ12 14 a1.toNatClampNeg)) (fun r13 σ14 => bd (m_makes N σ14 r11 r13) (fun r15 σ16 => some (a1 + 1, (sI σ16 51 r15))))))) else (if (gA σ 12 a1.toNatClampNeg) = 4 then gd (ib a1 2600) (bd (m_nameOf N σ (gA σ 13 a1.toNatClampNeg)) (fun r18 σ19 => some (a1 + 1, (sI σ19 51 r18)))) else (if (gA σ 12 a1.toNatClampNeg) = 5 then gd (ib a1 2600) (bd (m_nameOf N σ (gA σ 13 a1.toNatClampNeg)) (fun r21 σ22 => (if r21 = 0 then gd (ib a1 2600) (bd (m_fails N σ22 (gA σ22 15 a1.toNatClampNeg)) (fun _ σ26 => some (a1 + 1, σ26))) else gd (ib a1 2600) (bd (m_nameOf N σ22 (gA σ22 13 a1.toNatClampNeg)) (fun r23 σ24 => gd (ib a1 2600) (gd (ib ((2 * r23) + (gA σ24 14 a1.toNatClampNeg)) 602) (some (a1 + 1, (sI σ24 51 (gA σ24 46 (((2 * r23) + (gA σ24 14 a1.toNatClampNeg)).toNatClampNeg))))))))))) else (if (gA σ 12 a1.toNatClampNeg) = 6 then bd (m_enter N σ a1) (fun r28 σ29 => some (r28, σ29)) else (if (gA σ 12 a1.toNatClampNeg) = 7 then gd (ib a1 2600) (gd (ib ((26 * ((gI σ 50) - 1)) + (gA σ 13 a1.toNatClampNeg)) 364) (some (a1 + 1, (sA σ 48 (((26 * ((gI σ 50) - 1)) + (gA σ 13 a1.toNatClampNeg)).toNatClampNeg) (gI σ 51))))) else (if (gA σ 12 a1.toNatClampNeg) = 8 then gd (ib a1 2600) (bd (m_nameOf N σ (gA σ 13 a1.toNatClampNeg)) (fun r32 σ33 => (if r32 = 0 then gd (ib a1 2600) (bd (m_fails N σ33 (gA σ33 15 a1.toNatClampNeg)) (fun _ σ37 => some (a1 + 1, σ37))) else gd (ib a1 2600) (bd (m_nameOf N σ33 (gA σ33 13 a1.toNatClampNeg)) (fun r34 σ35 => gd (ib a1 2600) (gd (ib ((2 * r34) + (gA σ35 14 a1.toNatClampNeg)) 602) (some (a1 + 1, (sA σ35 46 (((2 * r34) + (gA σ35 14 a1.toNatClampNeg)).toNatClampNeg) (gI σ35 51)))))))))) else (if (gA σ 12 a1.toNatClampNeg) = 9 then (if ((gI σ 50) - 1) = 0 then (if (gI σ 51) = 0 then gd (ib ((gI σ 50) - 1) 14) (some (gA σ 49 (((gI σ 50) - 1).toNatClampNeg), (sI (sI σ 50 ((gI σ 50) - 1)) 55 0))) else gd (ib ((gI σ 50) - 1) 14) (some (gA σ 49 (((gI σ 50) - 1).toNatClampNeg), (sI (sI σ 50 ((gI σ 50) - 1)) 55 1)))) else gd (ib ((gI σ 50) - 1) 14) (some (gA σ 49 (((gI σ 50) - 1).toNatClampNeg), (sI σ 50 ((gI σ 50) - 1))))) else (if (gA σ 12 a1.toNatClampNeg) = 10 then gd (ib a1 2600) ((if (gA σ 12 a1.toNatClampNeg) = 12 then bd (m_chooses N σ a2) (fun r42 σ43 => m_does_437 N σ43 a1 r42) else gd (ib a1 2600) (bd (m_nameOf N σ (gA σ 13 a1.toNatClampNeg)) (fun r40 σ41 => (if r40 = 0 then m_does_413 N σ41 a1 1 else m_does_413 N σ41 a1 0))))) else (if (gA σ 12 a1.toNatClampNeg) = 11 then gd (ib a1 2600) ((if (gA σ 12 a1.toNatClampNeg) = 12 then bd (m_chooses N σ a2) (fun r47 σ48 => m_does_437 N σ48 a1 r47) else gd (ib a1 2600) (bd (m_nameOf N σ (gA σ 13 a1.toNatClampNeg)) (fun r45 σ46 => (if r45 = 0 then m_does_413 N σ46 a1 1 else m_does_413 N σ46 a1 0))))) else (if (gA σ 12 a1.toNatClampNeg) = 12 then gd (ib a1 2600) ((if (gA σ 12 a1.toNatClampNeg) = 12 then bd (m_chooses N σ a2) (fun r52 σ53 => m_does_437 N σ53 a1 r52) else gd (ib a1 2600) (bd (m_nameOf N σ (gA σ 13 a1.toNatClampNeg)) (fun r50 σ51 => (if r50 = 0 then m_does_413 N σ51 a1 1 else m_does_413 N σ51 a1 0))))) else (if (gA σ 12 a1.toNatClampNeg) = 13 then gd (ib a1 2600) ((if (gA σ 14 a1.toNatClampNeg) = 1 then bd (m_step N σ) (fun _ σ56 => gd (ib a1 2600) (some (gA σ56 13 a1.toNatClampNeg, σ56))) else gd (ib a1 2600) (some (gA σ 13 a1.toNatClampNeg, σ)))) else gd (ib a1 2600) ((if (gA σ 12 a1.toNatClampNeg) = 12 then bd (m_chooses N σ a2) (fun r59 σ60 => m_does_437 N σ60 a1 r59) else gd (ib a1 2600) (bd (m_nameOf N σ (gA σ 13 a1.toNatClampNeg)) (fun r57 σ58 => (if r57 = 0 then m_does_413 N σ58 a1 1 else m_does_413 N σ58 a1 0))))))))))))))))))))
set_option maxHeartbeats 4000000 in
set_option maxRecDepth 100000 in
theorem s_m_does_110 {X : Cx} {ad : Nat → Nat} (C : Ok X cX11_does RX11 4 (some .int) 2 46) (N : Nat) (σ : St) (x1 : Int32) (t1 : Int32) : Sim X scM ad 4 outI 110 [(1, .int x1)] [.int t1, .ref (ad 0)] σ (m_does_110 N σ x1 t1) := by
  unfold m_does_110
  refine mp51 C dX11_does_110 ?_
  refine g_goto C 455 dX11_does_113 (by decide) ?_
  refine g_iload_n C 0 dX11_does_455 rfl rfl ?_
  refine g_iconst C 1 dX11_does_456 (by decide) ?_
  refine g_iadd C dX11_does_457 ?_
  exact g_iret C dX11_does_458
set_option maxHeartbeats 4000000 in
set_option maxRecDepth 100000 in
theorem s_m_does_437 {X : Cx} {ad : Nat → Nat} (C : Ok X cX11_does RX11 4 (some .int) 2 46) (N : Nat) (σ : St) (x1 : Int32) (t0 : Int32) : Sim X scM ad 4 outI 437 [(0, .ref (ad 0)), (1, .int x1)] [.int t0] σ (m_does_437 N σ x1 t0) := by
  unfold m_does_437
  refine g_istore_n C [(3, .int t0), (0, .ref (ad 0)), (1, .int x1)] dX11_does_437 rfl (by decide) rfl ?_
  refine g_iload_n C 0 dX11_does_438 rfl rfl ?_
  refine g_if_eq C 448 dX11_does_439 (by decide) ?_ ?_
  · refine g_aload_n C 1 dX11_does_448 rfl rfl ?_
    refine mg15 C dX11_does_449 ?_
    refine g_iload_n C 2 dX11_does_452 rfl rfl ?_
    refine mr15 C (v := gA σ 15 x1.toNatClampNeg) dX11_does_453 rfl ?_
    exact g_iret C dX11_does_454
  · refine g_iload_n C 2 dX11_does_442 rfl rfl ?_
    refine g_iconst C 1 dX11_does_443 (by decide) ?_
    refine g_iadd C dX11_does_444 ?_
    refine g_goto C 454 dX11_does_445 (by decide) ?_
    exact g_iret C dX11_does_454
set_option maxHeartbeats 4000000 in
set_option maxRecDepth 100000 in
theorem s_m_does_429 {X : Cx} {ad : Nat → Nat} (C : Ok X cX11_does RX11 4 (some .int) 2 46) (N : Nat) (σ : St) (x1 : Int32) (t0 : Int32) (t1 : Int32) : Sim X scM ad 4 outI 429 [(0, .ref (ad 0)), (1, .int x1)] [.int t1, .int t0] σ (m_does_429 N σ x1 t0 t1) := by
  unfold m_does_429
  refine g_icmp_ne C 436 dX11_does_429 (by decide) ?_ ?_
  · refine g_iconst C 0 dX11_does_436 (by decide) ?_
    exact g_sub [0, 1] rfl (s_m_does_437 C N σ x1 0)
  · refine g_iconst C 1 dX11_does_432 (by decide) ?_
    refine g_goto C 437 dX11_does_433 (by decide) ?_
    exact g_sub [0, 1] rfl (s_m_does_437 C N σ x1 1)
set_option maxHeartbeats 4000000 in
set_option maxRecDepth 100000 in
theorem s_m_does_413 {X : Cx} {ad : Nat → Nat} (C : Ok X cX11_does RX11 4 (some .int) 2 46) (N : Nat) (σ : St) (x1 : Int32) (t0 : Int32) : Sim X scM ad 4 outI 413 [(0, .ref (ad 0)), (1, .int x1)] [.int t0] σ (m_does_413 N σ x1 t0) := by
  unfold m_does_413
  refine g_aload_n C 0 dX11_does_413 rfl rfl ?_
  refine mg12 C dX11_does_414 ?_
  refine g_iload_n C 1 dX11_does_417 rfl rfl ?_
  refine mr12 C (v := gA σ 12 x1.toNatClampNeg) dX11_does_418 rfl ?_
  refine g_bipush C 10 dX11_does_419 (by decide) ?_
  refine g_icmp_ne C 428 dX11_does_421 (by decide) ?_ ?_
  · refine g_iconst C 0 dX11_does_428 (by decide) ?_
    exact g_sub [0, 1] rfl (s_m_does_429 C N σ x1 t0 0)
  · refine g_iconst C 1 dX11_does_424 (by decide) ?_
    refine g_goto C 429 dX11_does_425 (by decide) ?_
    exact g_sub [0, 1] rfl (s_m_does_429 C N σ x1 t0 1)
set_option maxHeartbeats 4000000 in
set_option maxRecDepth 100000 in
theorem s_m_does {X : Cx} {ad : Nat → Nat} (C : Ok X cX11_does RX11 4 (some .int) 2 46) (N : Nat) (σ : St) (a1 : Int32) (a2 : Int32) : Sim X scM ad 4 outI 0 [(0, .ref (ad 0)), (1, .int a1), (2, .int a2)] [] σ (m_does N σ a1 a2) := by
  unfold m_does
  refine g_aload_n C 0 dX11_does_0 rfl rfl ?_
  refine mg12 C dX11_does_1 ?_
  refine g_iload_n C 1 dX11_does_4 rfl rfl ?_
  refine mr12 C (v := gA σ 12 a1.toNatClampNeg) dX11_does_5 rfl ?_
  refine g_cs (fun h1 => ?_) (fun h1 => ?_)
  · refine g_tabIn C (off := 70) 76 (0) (by rw [h1]; decide) dX11_does_6 (by decide) (by decide) (by decide) (by decide) ?_
    refine g_aload_n C 0 dX11_does_76 rfl rfl ?_
    refine v_m_step C ⟨by decide, by decide⟩ (Nat.le_of_ble_eq_true rfl) dX11_does_77 (fun r2 σ3 _ => ?_)
    refine g_goto C 455 dX11_does_80 (by decide) ?_
    refine g_iload_n C 1 dX11_does_455 rfl rfl ?_
    refine g_iconst C 1 dX11_does_456 (by decide) ?_
    refine g_iadd C dX11_does_457 ?_
    exact g_iret C dX11_does_458
  refine g_cs (fun h4 => ?_) (fun h4 => ?_)
  · refine g_tabIn C (off := 77) 83 (1) (by rw [h4]; decide) dX11_does_6 (by decide) (by decide) (by decide) (by decide) ?_
    refine g_aload_n C 0 dX11_does_83 rfl rfl ?_
    refine g_iconst C 0 dX11_does_84 (by decide) ?_
    refine mp51 C dX11_does_85 ?_
    refine g_goto C 455 dX11_does_88 (by decide) ?_
    refine g_iload_n C 1 dX11_does_455 rfl rfl ?_
    refine g_iconst C 1 dX11_does_456 (by decide) ?_
    refine g_iadd C dX11_does_457 ?_
    exact g_iret C dX11_does_458
  refine g_cs (fun h5 => ?_) (fun h5 => ?_)
  · refine g_tabIn C (off := 85) 91 (2) (by rw [h5]; decide) dX11_does_6 (by decide) (by decide) (by decide) (by decide) ?_
    refine g_aload_n C 0 dX11_does_91 rfl rfl ?_
    refine g_aload_n C 0 dX11_does_92 rfl rfl ?_
    refine g_iload_n C 2 dX11_does_93 rfl rfl ?_
    refine v_m_chooses C ⟨by decide, by decide⟩ (Nat.le_of_ble_eq_true rfl) dX11_does_94 (fun r6 σ7 _ => ?_)
    refine g_if_eq C 109 dX11_does_97 (by decide) ?_ ?_
    · refine g_iconst C 0 dX11_does_109 (by decide) ?_
      exact g_sub [1] rfl (s_m_does_110 C N σ7 a1 0)
    · refine g_aload_n C 0 dX11_does_100 rfl rfl ?_
      refine g_iconst C (-1) dX11_does_101 (by decide) ?_
      refine g_iconst C (-1) dX11_does_102 (by decide) ?_
      refine v_m_makes C ⟨by decide, by decide⟩ (Nat.le_of_ble_eq_true rfl) dX11_does_103 (fun r8 σ9 _ => ?_)
      refine g_goto C 110 dX11_does_106 (by decide) ?_
      exact g_sub [1] rfl (s_m_does_110 C N σ9 a1 r8)
  refine g_cs (fun h10 => ?_) (fun h10 => ?_)
  · refine g_tabIn C (off := 110) 116 (3) (by rw [h10]; decide) dX11_does_6 (by decide) (by decide) (by decide) (by decide) ?_
    refine g_aload_n C 0 dX11_does_116 rfl rfl ?_
    refine g_aload_n C 0 dX11_does_117 rfl rfl ?_
    refine g_aload_n C 0 dX11_does_118 rfl rfl ?_
    refine g_aload_n C 0 dX11_does_119 rfl rfl ?_
    refine mg13 C dX11_does_120 ?_
    refine g_iload_n C 1 dX11_does_123 rfl rfl ?_
    refine mr13 C (v := gA σ 13 a1.toNatClampNeg) dX11_does_124 rfl ?_
    refine v_m_nameOf C ⟨by decide, by decide⟩ (Nat.le_of_ble_eq_true rfl) dX11_does_125 (fun r11 σ12 _ => ?_)
    refine g_aload_n C 0 dX11_does_128 rfl rfl ?_
    refine g_aload_n C 0 dX11_does_129 rfl rfl ?_
    refine mg14 C dX11_does_130 ?_
    refine g_iload_n C 1 dX11_does_133 rfl rfl ?_
    refine mr14 C (v := gA σ12 14 a1.toNatClampNeg) dX11_does_134 rfl ?_
    refine v_m_nameOf C ⟨by decide, by decide⟩ (Nat.le_of_ble_eq_true rfl) dX11_does_135 (fun r13 σ14 _ => ?_)
    refine v_m_makes C ⟨by decide, by decide⟩ (Nat.le_of_ble_eq_true rfl) dX11_does_138 (fun r15 σ16 _ => ?_)
    refine mp51 C dX11_does_141 ?_
    refine g_goto C 455 dX11_does_144 (by decide) ?_
    refine g_iload_n C 1 dX11_does_455 rfl rfl ?_
    refine g_iconst C 1 dX11_does_456 (by decide) ?_
    refine g_iadd C dX11_does_457 ?_
    exact g_iret C dX11_does_458
  refine g_cs (fun h17 => ?_) (fun h17 => ?_)
  · refine g_tabIn C (off := 141) 147 (4) (by rw [h17]; decide) dX11_does_6 (by decide) (by decide) (by decide) (by decide) ?_
    refine g_aload_n C 0 dX11_does_147 rfl rfl ?_
    refine g_aload_n C 0 dX11_does_148 rfl rfl ?_
    refine g_aload_n C 0 dX11_does_149 rfl rfl ?_
    refine mg13 C dX11_does_150 ?_
    refine g_iload_n C 1 dX11_does_153 rfl rfl ?_
    refine mr13 C (v := gA σ 13 a1.toNatClampNeg) dX11_does_154 rfl ?_
    refine v_m_nameOf C ⟨by decide, by decide⟩ (Nat.le_of_ble_eq_true rfl) dX11_does_155 (fun r18 σ19 _ => ?_)
    refine mp51 C dX11_does_158 ?_
    refine g_goto C 455 dX11_does_161 (by decide) ?_
    refine g_iload_n C 1 dX11_does_455 rfl rfl ?_
    refine g_iconst C 1 dX11_does_456 (by decide) ?_
    refine g_iadd C dX11_does_457 ?_
    exact g_iret C dX11_does_458
  refine g_cs (fun h20 => ?_) (fun h20 => ?_)
  · refine g_tabIn C (off := 158) 164 (5) (by rw [h20]; decide) dX11_does_6 (by decide) (by decide) (by decide) (by decide) ?_
    refine g_aload_n C 0 dX11_does_164 rfl rfl ?_
    refine g_aload_n C 0 dX11_does_165 rfl rfl ?_
    refine mg13 C dX11_does_166 ?_
    refine g_iload_n C 1 dX11_does_169 rfl rfl ?_
    refine mr13 C (v := gA σ 13 a1.toNatClampNeg) dX11_does_170 rfl ?_
    refine v_m_nameOf C ⟨by decide, by decide⟩ (Nat.le_of_ble_eq_true rfl) dX11_does_171 (fun r21 σ22 _ => ?_)
    refine g_if_ne C 190 dX11_does_174 (by decide) ?_ ?_
    · refine g_aload_n C 0 dX11_does_190 rfl rfl ?_
      refine g_aload_n C 0 dX11_does_191 rfl rfl ?_
      refine mg46 C dX11_does_192 ?_
      refine g_iconst C 2 dX11_does_195 (by decide) ?_
      refine g_aload_n C 0 dX11_does_196 rfl rfl ?_
      refine g_aload_n C 0 dX11_does_197 rfl rfl ?_
      refine mg13 C dX11_does_198 ?_
      refine g_iload_n C 1 dX11_does_201 rfl rfl ?_
      refine mr13 C (v := gA σ22 13 a1.toNatClampNeg) dX11_does_202 rfl ?_
      refine v_m_nameOf C ⟨by decide, by decide⟩ (Nat.le_of_ble_eq_true rfl) dX11_does_203 (fun r23 σ24 _ => ?_)
      refine g_imul C dX11_does_206 ?_
      refine g_aload_n C 0 dX11_does_207 rfl rfl ?_
      refine mg14 C dX11_does_208 ?_
      refine g_iload_n C 1 dX11_does_211 rfl rfl ?_
      refine mr14 C (v := gA σ24 14 a1.toNatClampNeg) dX11_does_212 rfl ?_
      refine g_iadd C dX11_does_213 ?_
      refine mr46 C (v := gA σ24 46 (((2 * r23) + (gA σ24 14 a1.toNatClampNeg)).toNatClampNeg)) dX11_does_214 rfl ?_
      refine mp51 C dX11_does_215 ?_
      refine g_goto C 455 dX11_does_218 (by decide) ?_
      refine g_iload_n C 1 dX11_does_455 rfl rfl ?_
      refine g_iconst C 1 dX11_does_456 (by decide) ?_
      refine g_iadd C dX11_does_457 ?_
      exact g_iret C dX11_does_458
    · refine g_aload_n C 0 dX11_does_177 rfl rfl ?_
      refine g_aload_n C 0 dX11_does_178 rfl rfl ?_
      refine mg15 C dX11_does_179 ?_
      refine g_iload_n C 1 dX11_does_182 rfl rfl ?_
      refine mr15 C (v := gA σ22 15 a1.toNatClampNeg) dX11_does_183 rfl ?_
      refine v_m_fails C ⟨by decide, by decide⟩ (Nat.le_of_ble_eq_true rfl) dX11_does_184 (fun r25 σ26 _ => ?_)
      refine g_goto C 455 dX11_does_187 (by decide) ?_
      refine g_iload_n C 1 dX11_does_455 rfl rfl ?_
      refine g_iconst C 1 dX11_does_456 (by decide) ?_
      refine g_iadd C dX11_does_457 ?_
      exact g_iret C dX11_does_458
  refine g_cs (fun h27 => ?_) (fun h27 => ?_)
  · refine g_tabIn C (off := 215) 221 (6) (by rw [h27]; decide) dX11_does_6 (by decide) (by decide) (by decide) (by decide) ?_
    refine g_aload_n C 0 dX11_does_221 rfl rfl ?_
    refine g_iload_n C 1 dX11_does_222 rfl rfl ?_
    refine v_m_enter C ⟨by decide, by decide⟩ (Nat.le_of_ble_eq_true rfl) dX11_does_223 (fun r28 σ29 _ => ?_)
    exact g_iret C dX11_does_226
  refine g_cs (fun h30 => ?_) (fun h30 => ?_)
  · refine g_tabIn C (off := 221) 227 (7) (by rw [h30]; decide) dX11_does_6 (by decide) (by decide) (by decide) (by decide) ?_
    refine g_aload_n C 0 dX11_does_227 rfl rfl ?_
    refine mg48 C dX11_does_228 ?_
    refine g_bipush C 26 dX11_does_231 (by decide) ?_
    refine g_aload_n C 0 dX11_does_233 rfl rfl ?_
    refine mg50 C (v := gI σ 50) dX11_does_234 rfl ?_
    refine g_iconst C 1 dX11_does_237 (by decide) ?_
    refine g_isub C dX11_does_238 ?_
    refine g_imul C dX11_does_239 ?_
    refine g_aload_n C 0 dX11_does_240 rfl rfl ?_
    refine mg13 C dX11_does_241 ?_
    refine g_iload_n C 1 dX11_does_244 rfl rfl ?_
    refine mr13 C (v := gA σ 13 a1.toNatClampNeg) dX11_does_245 rfl ?_
    refine g_iadd C dX11_does_246 ?_
    refine g_aload_n C 0 dX11_does_247 rfl rfl ?_
    refine mg51 C (v := gI σ 51) dX11_does_248 rfl ?_
    refine mw48 C dX11_does_251 ?_
    refine g_goto C 455 dX11_does_252 (by decide) ?_
    refine g_iload_n C 1 dX11_does_455 rfl rfl ?_
    refine g_iconst C 1 dX11_does_456 (by decide) ?_
    refine g_iadd C dX11_does_457 ?_
    exact g_iret C dX11_does_458
  refine g_cs (fun h31 => ?_) (fun h31 => ?_)
  · refine g_tabIn C (off := 249) 255 (8) (by rw [h31]; decide) dX11_does_6 (by decide) (by decide) (by decide) (by decide) ?_
    refine g_aload_n C 0 dX11_does_255 rfl rfl ?_
    refine g_aload_n C 0 dX11_does_256 rfl rfl ?_
    refine mg13 C dX11_does_257 ?_
    refine g_iload_n C 1 dX11_does_260 rfl rfl ?_
    refine mr13 C (v := gA σ 13 a1.toNatClampNeg) dX11_does_261 rfl ?_
    refine v_m_nameOf C ⟨by decide, by decide⟩ (Nat.le_of_ble_eq_true rfl) dX11_does_262 (fun r32 σ33 _ => ?_)
    refine g_if_ne C 281 dX11_does_265 (by decide) ?_ ?_
    · refine g_aload_n C 0 dX11_does_281 rfl rfl ?_
      refine mg46 C dX11_does_282 ?_
      refine g_iconst C 2 dX11_does_285 (by decide) ?_
      refine g_aload_n C 0 dX11_does_286 rfl rfl ?_
      refine g_aload_n C 0 dX11_does_287 rfl rfl ?_
      refine mg13 C dX11_does_288 ?_
      refine g_iload_n C 1 dX11_does_291 rfl rfl ?_
      refine mr13 C (v := gA σ33 13 a1.toNatClampNeg) dX11_does_292 rfl ?_
      refine v_m_nameOf C ⟨by decide, by decide⟩ (Nat.le_of_ble_eq_true rfl) dX11_does_293 (fun r34 σ35 _ => ?_)
      refine g_imul C dX11_does_296 ?_
      refine g_aload_n C 0 dX11_does_297 rfl rfl ?_
      refine mg14 C dX11_does_298 ?_
      refine g_iload_n C 1 dX11_does_301 rfl rfl ?_
      refine mr14 C (v := gA σ35 14 a1.toNatClampNeg) dX11_does_302 rfl ?_
      refine g_iadd C dX11_does_303 ?_
      refine g_aload_n C 0 dX11_does_304 rfl rfl ?_
      refine mg51 C (v := gI σ35 51) dX11_does_305 rfl ?_
      refine mw46 C dX11_does_308 ?_
      refine g_goto C 455 dX11_does_309 (by decide) ?_
      refine g_iload_n C 1 dX11_does_455 rfl rfl ?_
      refine g_iconst C 1 dX11_does_456 (by decide) ?_
      refine g_iadd C dX11_does_457 ?_
      exact g_iret C dX11_does_458
    · refine g_aload_n C 0 dX11_does_268 rfl rfl ?_
      refine g_aload_n C 0 dX11_does_269 rfl rfl ?_
      refine mg15 C dX11_does_270 ?_
      refine g_iload_n C 1 dX11_does_273 rfl rfl ?_
      refine mr15 C (v := gA σ33 15 a1.toNatClampNeg) dX11_does_274 rfl ?_
      refine v_m_fails C ⟨by decide, by decide⟩ (Nat.le_of_ble_eq_true rfl) dX11_does_275 (fun r36 σ37 _ => ?_)
      refine g_goto C 455 dX11_does_278 (by decide) ?_
      refine g_iload_n C 1 dX11_does_455 rfl rfl ?_
      refine g_iconst C 1 dX11_does_456 (by decide) ?_
      refine g_iadd C dX11_does_457 ?_
      exact g_iret C dX11_does_458
  refine g_cs (fun h38 => ?_) (fun h38 => ?_)
  · refine g_tabIn C (off := 306) 312 (9) (by rw [h38]; decide) dX11_does_6 (by decide) (by decide) (by decide) (by decide) ?_
    refine g_aload_n C 0 dX11_does_312 rfl rfl ?_
    refine g_dup C dX11_does_313 rfl ?_
    refine mg50 C (v := gI σ 50) dX11_does_314 rfl ?_
    refine g_iconst C 1 dX11_does_317 (by decide) ?_
    refine g_isub C dX11_does_318 ?_
    refine mp50 C dX11_does_319 ?_
    refine g_aload_n C 0 dX11_does_322 rfl rfl ?_
    refine mg50 C (v := (gI σ 50) - 1) dX11_does_323 rfl ?_
    refine g_if_ne C 345 dX11_does_326 (by decide) ?_ ?_
    · refine g_aload_n C 0 dX11_does_345 rfl rfl ?_
      refine mg49 C dX11_does_346 ?_
      refine g_aload_n C 0 dX11_does_349 rfl rfl ?_
      refine mg50 C (v := (gI σ 50) - 1) dX11_does_350 rfl ?_
      refine mr49 C (v := gA σ 49 (((gI σ 50) - 1).toNatClampNeg)) dX11_does_353 rfl ?_
      exact g_iret C dX11_does_354
    · refine g_aload_n C 0 dX11_does_329 rfl rfl ?_
      refine g_aload_n C 0 dX11_does_330 rfl rfl ?_
      refine mg51 C (v := gI σ 51) dX11_does_331 rfl ?_
      refine g_if_ne C 341 dX11_does_334 (by decide) ?_ ?_
      · refine g_iconst C 1 dX11_does_341 (by decide) ?_
        refine mp55 C dX11_does_342 ?_
        refine g_aload_n C 0 dX11_does_345 rfl rfl ?_
        refine mg49 C dX11_does_346 ?_
        refine g_aload_n C 0 dX11_does_349 rfl rfl ?_
        refine mg50 C (v := (gI σ 50) - 1) dX11_does_350 rfl ?_
        refine mr49 C (v := gA σ 49 (((gI σ 50) - 1).toNatClampNeg)) dX11_does_353 rfl ?_
        exact g_iret C dX11_does_354
      · refine g_iconst C 0 dX11_does_337 (by decide) ?_
        refine g_goto C 342 dX11_does_338 (by decide) ?_
        refine mp55 C dX11_does_342 ?_
        refine g_aload_n C 0 dX11_does_345 rfl rfl ?_
        refine mg49 C dX11_does_346 ?_
        refine g_aload_n C 0 dX11_does_349 rfl rfl ?_
        refine mg50 C (v := (gI σ 50) - 1) dX11_does_350 rfl ?_
        refine mr49 C (v := gA σ 49 (((gI σ 50) - 1).toNatClampNeg)) dX11_does_353 rfl ?_
        exact g_iret C dX11_does_354
  refine g_cs (fun h39 => ?_) (fun h39 => ?_)
  · refine g_tabIn C (off := 370) 376 (10) (by rw [h39]; decide) dX11_does_6 (by decide) (by decide) (by decide) (by decide) ?_
    refine g_aload_n C 0 dX11_does_376 rfl rfl ?_
    refine mg12 C dX11_does_377 ?_
    refine g_iload_n C 1 dX11_does_380 rfl rfl ?_
    refine mr12 C (v := gA σ 12 a1.toNatClampNeg) dX11_does_381 rfl ?_
    refine g_bipush C 12 dX11_does_382 (by decide) ?_
    refine g_icmp_ne C 395 dX11_does_384 (by decide) ?_ ?_
    · refine g_aload_n C 0 dX11_does_395 rfl rfl ?_
      refine g_aload_n C 0 dX11_does_396 rfl rfl ?_
      refine mg13 C dX11_does_397 ?_
      refine g_iload_n C 1 dX11_does_400 rfl rfl ?_
      refine mr13 C (v := gA σ 13 a1.toNatClampNeg) dX11_does_401 rfl ?_
      refine v_m_nameOf C ⟨by decide, by decide⟩ (Nat.le_of_ble_eq_true rfl) dX11_does_402 (fun r40 σ41 _ => ?_)
      refine g_if_ne C 412 dX11_does_405 (by decide) ?_ ?_
      · refine g_iconst C 0 dX11_does_412 (by decide) ?_
        exact g_sub [0, 1] rfl (s_m_does_413 C N σ41 a1 0)
      · refine g_iconst C 1 dX11_does_408 (by decide) ?_
        refine g_goto C 413 dX11_does_409 (by decide) ?_
        exact g_sub [0, 1] rfl (s_m_does_413 C N σ41 a1 1)
    · refine g_aload_n C 0 dX11_does_387 rfl rfl ?_
      refine g_iload_n C 2 dX11_does_388 rfl rfl ?_
      refine v_m_chooses C ⟨by decide, by decide⟩ (Nat.le_of_ble_eq_true rfl) dX11_does_389 (fun r42 σ43 _ => ?_)
      refine g_goto C 437 dX11_does_392 (by decide) ?_
      exact g_sub [0, 1] rfl (s_m_does_437 C N σ43 a1 r42)
  refine g_cs (fun h44 => ?_) (fun h44 => ?_)
  · refine g_tabIn C (off := 370) 376 (11) (by rw [h44]; decide) dX11_does_6 (by decide) (by decide) (by decide) (by decide) ?_
    refine g_aload_n C 0 dX11_does_376 rfl rfl ?_
    refine mg12 C dX11_does_377 ?_
    refine g_iload_n C 1 dX11_does_380 rfl rfl ?_
    refine mr12 C (v := gA σ 12 a1.toNatClampNeg) dX11_does_381 rfl ?_
    refine g_bipush C 12 dX11_does_382 (by decide) ?_
    refine g_icmp_ne C 395 dX11_does_384 (by decide) ?_ ?_
    · refine g_aload_n C 0 dX11_does_395 rfl rfl ?_
      refine g_aload_n C 0 dX11_does_396 rfl rfl ?_
      refine mg13 C dX11_does_397 ?_
      refine g_iload_n C 1 dX11_does_400 rfl rfl ?_
      refine mr13 C (v := gA σ 13 a1.toNatClampNeg) dX11_does_401 rfl ?_
      refine v_m_nameOf C ⟨by decide, by decide⟩ (Nat.le_of_ble_eq_true rfl) dX11_does_402 (fun r45 σ46 _ => ?_)
      refine g_if_ne C 412 dX11_does_405 (by decide) ?_ ?_
      · refine g_iconst C 0 dX11_does_412 (by decide) ?_
        exact g_sub [0, 1] rfl (s_m_does_413 C N σ46 a1 0)
      · refine g_iconst C 1 dX11_does_408 (by decide) ?_
        refine g_goto C 413 dX11_does_409 (by decide) ?_
        exact g_sub [0, 1] rfl (s_m_does_413 C N σ46 a1 1)
    · refine g_aload_n C 0 dX11_does_387 rfl rfl ?_
      refine g_iload_n C 2 dX11_does_388 rfl rfl ?_
      refine v_m_chooses C ⟨by decide, by decide⟩ (Nat.le_of_ble_eq_true rfl) dX11_does_389 (fun r47 σ48 _ => ?_)
      refine g_goto C 437 dX11_does_392 (by decide) ?_
      exact g_sub [0, 1] rfl (s_m_does_437 C N σ48 a1 r47)
  refine g_cs (fun h49 => ?_) (fun h49 => ?_)
  · refine g_tabIn C (off := 370) 376 (12) (by rw [h49]; decide) dX11_does_6 (by decide) (by decide) (by decide) (by decide) ?_
    refine g_aload_n C 0 dX11_does_376 rfl rfl ?_
    refine mg12 C dX11_does_377 ?_
    refine g_iload_n C 1 dX11_does_380 rfl rfl ?_
    refine mr12 C (v := gA σ 12 a1.toNatClampNeg) dX11_does_381 rfl ?_
    refine g_bipush C 12 dX11_does_382 (by decide) ?_
    refine g_icmp_ne C 395 dX11_does_384 (by decide) ?_ ?_
    · refine g_aload_n C 0 dX11_does_395 rfl rfl ?_
      refine g_aload_n C 0 dX11_does_396 rfl rfl ?_
      refine mg13 C dX11_does_397 ?_
      refine g_iload_n C 1 dX11_does_400 rfl rfl ?_
      refine mr13 C (v := gA σ 13 a1.toNatClampNeg) dX11_does_401 rfl ?_
      refine v_m_nameOf C ⟨by decide, by decide⟩ (Nat.le_of_ble_eq_true rfl) dX11_does_402 (fun r50 σ51 _ => ?_)
      refine g_if_ne C 412 dX11_does_405 (by decide) ?_ ?_
      · refine g_iconst C 0 dX11_does_412 (by decide) ?_
        exact g_sub [0, 1] rfl (s_m_does_413 C N σ51 a1 0)
      · refine g_iconst C 1 dX11_does_408 (by decide) ?_
        refine g_goto C 413 dX11_does_409 (by decide) ?_
        exact g_sub [0, 1] rfl (s_m_does_413 C N σ51 a1 1)
    · refine g_aload_n C 0 dX11_does_387 rfl rfl ?_
      refine g_iload_n C 2 dX11_does_388 rfl rfl ?_
      refine v_m_chooses C ⟨by decide, by decide⟩ (Nat.le_of_ble_eq_true rfl) dX11_does_389 (fun r52 σ53 _ => ?_)
      refine g_goto C 437 dX11_does_392 (by decide) ?_
      exact g_sub [0, 1] rfl (s_m_does_437 C N σ53 a1 r52)
  refine g_cs (fun h54 => ?_) (fun h54 => ?_)
  · refine g_tabIn C (off := 349) 355 (13) (by rw [h54]; decide) dX11_does_6 (by decide) (by decide) (by decide) (by decide) ?_
    refine g_aload_n C 0 dX11_does_355 rfl rfl ?_
    refine mg14 C dX11_does_356 ?_
    refine g_iload_n C 1 dX11_does_359 rfl rfl ?_
    refine mr14 C (v := gA σ 14 a1.toNatClampNeg) dX11_does_360 rfl ?_
    refine g_iconst C 1 dX11_does_361 (by decide) ?_
    refine g_icmp_ne C 369 dX11_does_362 (by decide) ?_ ?_
    · refine g_aload_n C 0 dX11_does_369 rfl rfl ?_
      refine mg13 C dX11_does_370 ?_
      refine g_iload_n C 1 dX11_does_373 rfl rfl ?_
      refine mr13 C (v := gA σ 13 a1.toNatClampNeg) dX11_does_374 rfl ?_
      exact g_iret C dX11_does_375
    · refine g_aload_n C 0 dX11_does_365 rfl rfl ?_
      refine v_m_step C ⟨by decide, by decide⟩ (Nat.le_of_ble_eq_true rfl) dX11_does_366 (fun r55 σ56 _ => ?_)
      refine g_aload_n C 0 dX11_does_369 rfl rfl ?_
      refine mg13 C dX11_does_370 ?_
      refine g_iload_n C 1 dX11_does_373 rfl rfl ?_
      refine mr13 C (v := gA σ56 13 a1.toNatClampNeg) dX11_does_374 rfl ?_
      exact g_iret C dX11_does_375
  have ah1 : ¬ (gA σ 12 a1.toNatClampNeg).toInt = 0 := k_ne h1 (by decide)
  have bh1 : ¬ (0 : Int) = (gA σ 12 a1.toNatClampNeg).toInt := fun e9 => ah1 e9.symm
  have ah4 : ¬ (gA σ 12 a1.toNatClampNeg).toInt = 1 := k_ne h4 (by decide)
  have bh4 : ¬ (1 : Int) = (gA σ 12 a1.toNatClampNeg).toInt := fun e9 => ah4 e9.symm
  have ah5 : ¬ (gA σ 12 a1.toNatClampNeg).toInt = 2 := k_ne h5 (by decide)
  have bh5 : ¬ (2 : Int) = (gA σ 12 a1.toNatClampNeg).toInt := fun e9 => ah5 e9.symm
  have ah10 : ¬ (gA σ 12 a1.toNatClampNeg).toInt = 3 := k_ne h10 (by decide)
  have bh10 : ¬ (3 : Int) = (gA σ 12 a1.toNatClampNeg).toInt := fun e9 => ah10 e9.symm
  have ah17 : ¬ (gA σ 12 a1.toNatClampNeg).toInt = 4 := k_ne h17 (by decide)
  have bh17 : ¬ (4 : Int) = (gA σ 12 a1.toNatClampNeg).toInt := fun e9 => ah17 e9.symm
  have ah20 : ¬ (gA σ 12 a1.toNatClampNeg).toInt = 5 := k_ne h20 (by decide)
  have bh20 : ¬ (5 : Int) = (gA σ 12 a1.toNatClampNeg).toInt := fun e9 => ah20 e9.symm
  have ah27 : ¬ (gA σ 12 a1.toNatClampNeg).toInt = 6 := k_ne h27 (by decide)
  have bh27 : ¬ (6 : Int) = (gA σ 12 a1.toNatClampNeg).toInt := fun e9 => ah27 e9.symm
  have ah30 : ¬ (gA σ 12 a1.toNatClampNeg).toInt = 7 := k_ne h30 (by decide)
  have bh30 : ¬ (7 : Int) = (gA σ 12 a1.toNatClampNeg).toInt := fun e9 => ah30 e9.symm
  have ah31 : ¬ (gA σ 12 a1.toNatClampNeg).toInt = 8 := k_ne h31 (by decide)
  have bh31 : ¬ (8 : Int) = (gA σ 12 a1.toNatClampNeg).toInt := fun e9 => ah31 e9.symm
  have ah38 : ¬ (gA σ 12 a1.toNatClampNeg).toInt = 9 := k_ne h38 (by decide)
  have bh38 : ¬ (9 : Int) = (gA σ 12 a1.toNatClampNeg).toInt := fun e9 => ah38 e9.symm
  have ah39 : ¬ (gA σ 12 a1.toNatClampNeg).toInt = 10 := k_ne h39 (by decide)
  have bh39 : ¬ (10 : Int) = (gA σ 12 a1.toNatClampNeg).toInt := fun e9 => ah39 e9.symm
  have ah44 : ¬ (gA σ 12 a1.toNatClampNeg).toInt = 11 := k_ne h44 (by decide)
  have bh44 : ¬ (11 : Int) = (gA σ 12 a1.toNatClampNeg).toInt := fun e9 => ah44 e9.symm
  have ah49 : ¬ (gA σ 12 a1.toNatClampNeg).toInt = 12 := k_ne h49 (by decide)
  have bh49 : ¬ (12 : Int) = (gA σ 12 a1.toNatClampNeg).toInt := fun e9 => ah49 e9.symm
  have ah54 : ¬ (gA σ 12 a1.toNatClampNeg).toInt = 13 := k_ne h54 (by decide)
  have bh54 : ¬ (13 : Int) = (gA σ 12 a1.toNatClampNeg).toInt := fun e9 => ah54 e9.symm
  refine g_tabOut C 376 dX11_does_6 (by omega) (by decide) ?_
  refine g_aload_n C 0 dX11_does_376 rfl rfl ?_
  refine mg12 C dX11_does_377 ?_
  refine g_iload_n C 1 dX11_does_380 rfl rfl ?_
  refine mr12 C (v := gA σ 12 a1.toNatClampNeg) dX11_does_381 rfl ?_
  refine g_bipush C 12 dX11_does_382 (by decide) ?_
  refine g_icmp_ne C 395 dX11_does_384 (by decide) ?_ ?_
  · refine g_aload_n C 0 dX11_does_395 rfl rfl ?_
    refine g_aload_n C 0 dX11_does_396 rfl rfl ?_
    refine mg13 C dX11_does_397 ?_
    refine g_iload_n C 1 dX11_does_400 rfl rfl ?_
    refine mr13 C (v := gA σ 13 a1.toNatClampNeg) dX11_does_401 rfl ?_
    refine v_m_nameOf C ⟨by decide, by decide⟩ (Nat.le_of_ble_eq_true rfl) dX11_does_402 (fun r57 σ58 _ => ?_)
    refine g_if_ne C 412 dX11_does_405 (by decide) ?_ ?_
    · refine g_iconst C 0 dX11_does_412 (by decide) ?_
      exact g_sub [0, 1] rfl (s_m_does_413 C N σ58 a1 0)
    · refine g_iconst C 1 dX11_does_408 (by decide) ?_
      refine g_goto C 413 dX11_does_409 (by decide) ?_
      exact g_sub [0, 1] rfl (s_m_does_413 C N σ58 a1 1)
  · refine g_aload_n C 0 dX11_does_387 rfl rfl ?_
    refine g_iload_n C 2 dX11_does_388 rfl rfl ?_
    refine v_m_chooses C ⟨by decide, by decide⟩ (Nat.le_of_ble_eq_true rfl) dX11_does_389 (fun r59 σ60 _ => ?_)
    refine g_goto C 437 dX11_does_392 (by decide) ?_
    exact g_sub [0, 1] rfl (s_m_does_437 C N σ60 a1 r59)
theorem c_m_does {Y : Yx} {ad : Nat → Nat} {N : Nat} {σ : St} {a1 : Int32} {a2 : Int32} {r : Int32} {σ' : St} (h : m_does N σ a1 a2 = some (r, σ')) : Con Y scM ad yX11_does cX11_does 4 (some .int) 2 46 [.ref (ad 0), .int a1, .int a2] σ (outI r) σ' := con_of (by decide) rfl (Nat.le_of_ble_eq_true rfl) rfl (fun X hX C => s_m_does C N σ a1 a2) h
set_option maxRecDepth 20000 in
theorem v_m_does {X : Cx} {cc : ByteArray} {nL : Nat} {ret : Option FieldType} {fr lo : Nat} {ad : Nat → Nat} {ρ : Type} {out : ρ → Option Value} {pc : Nat} {lv : List (Nat × Value)} {rest : List Value} {σ : St} {N : Nat} {K : Int32 → St → Option (ρ × St)} {a1 : Int32} {a2 : Int32} (C : Ok X cc RX11 nL ret fr lo) (hR : 2 + 1 ≤ fr ∧ 8 + (4 + 11) + 46 ≤ lo) (hcat : (rest.map fun v => v.category).sum ≤ 8) (hdg : decode cc pc = .ok (.invokevirtual 338, 3)) (k : ∀ (r : Int32) (σ' : St), m_does N σ a1 a2 = some (r, σ') → Sim X scM ad nL out (pc + 3) lv (.int r :: rest) σ' (K r σ')) : Sim X scM ad nL out pc lv (.int a2 :: .int a1 :: .ref (ad 0) :: rest) σ (bd (m_does N σ a1 a2) K) := g_callV C (out1 := outI) (y := yX11_does) (n := 2) ⟨gw_1510, gw_1512, gw_99, gw_117, gw_1513⟩ (by decide +kernel) hR (o := 0) (ci := 10) (q9 := (RX11, TX11, 68)) imM0 rfl rfl rfl (fun r σ' h => c_m_does h) rfl rfl hcat hdg k

def m_runs_108_b (N : Nat) (rec108 : St → Int32 → Int32 → Option (Unit × St)) (σ : St) (x2 : Int32) (x3 : Int32) : Option (Unit × St) :=
  (if (gI σ 55) = (-1) then bd (m_does N σ x3 x2) (fun r3 σ4 => rec108 σ4 x2 r3) else some ((), σ))
def m_runs_108 (N : Nat) : Nat → St → Int32 → Int32 → Option (Unit × St)
  | 0 => fun _ _ _ => none
  | n + 1 => fun σ x2 x3 => m_runs_108_b N (m_runs_108 N n) σ x2 x3
def m_runs_98 (N : Nat) (σ : St) (x2 : Int32) : Option (Unit × St) :=
  gd (ib (gI σ 39) 16) (m_runs_108 N N σ x2 (gA σ 19 ((gI σ 39).toNatClampNeg)))
def m_runs_91 (N : Nat) (rec42 : St → Int32 → Int32 → Int32 → Option (Unit × St)) (σ : St) (x1 : Int32) (x2 : Int32) (x3 : Int32) (t1 : Int32) (t2 : Int32) : Option (Unit × St) :=
  gd (ib t1 364) (rec42 (sA σ 48 t1.toNatClampNeg t2) x1 x2 (x3 + 1))
def m_runs_42_b (N : Nat) (rec42 : St → Int32 → Int32 → Int32 → Option (Unit × St)) (σ : St) (x1 : Int32) (x2 : Int32) (x3 : Int32) : Option (Unit × St) :=
  gd (ib (gI σ 39) 16) ((if (gA σ 20 ((gI σ 39).toNatClampNeg)) ≤ x3 then m_runs_98 N σ x2 else gd (ib ((4 * (gI σ 39)) + x3) 64) ((if ((x1 >>> (x3 &&& 31)) &&& 1) = 1 then bd (m_makes N σ (-1) (-1)) (fun r5 σ6 => m_runs_91 N rec42 σ6 x1 x2 x3 (gA σ 21 (((4 * (gI σ 39)) + x3).toNatClampNeg)) r5) else m_runs_91 N rec42 σ x1 x2 x3 (gA σ 21 (((4 * (gI σ 39)) + x3).toNatClampNeg)) 0))))
def m_runs_42 (N : Nat) : Nat → St → Int32 → Int32 → Int32 → Option (Unit × St)
  | 0 => fun _ _ _ _ => none
  | n + 1 => fun σ x1 x2 x3 => m_runs_42_b N (m_runs_42 N n) σ x1 x2 x3
def m_runs (N : Nat) (σ : St) (a1 : Int32) (a2 : Int32) : Option (Unit × St) :=
  bd (m_frame N (sI (sI (sI (sI (sI (sI (sI σ 47 0) 50 0) 52 0) 53 0) 54 (-1)) 55 (-1)) 51 0) (-1)) (fun _ σ2 => m_runs_42 N N σ2 a1 a2 0)
set_option maxHeartbeats 4000000 in
set_option maxRecDepth 100000 in
theorem s_m_runs_108_b {X : Cx} {ad : Nat → Nat} (C : Ok X cX11_runs RX11 4 none 3 69) (N : Nat) {rec108 : St → Int32 → Int32 → Option (Unit × St)} (hrec108 : ∀ (σ : St) (x2 : Int32) (x3 : Int32), Sim X scM ad 4 outV 108 [(0, .ref (ad 0)), (2, .int x2), (3, .int x3)] [] σ (rec108 σ x2 x3)) (σ : St) (x2 : Int32) (x3 : Int32) : Sim X scM ad 4 outV 108 [(0, .ref (ad 0)), (2, .int x2), (3, .int x3)] [] σ (m_runs_108_b N rec108 σ x2 x3) := by
  unfold m_runs_108_b
  refine g_aload_n C 0 dX11_runs_108 rfl rfl ?_
  refine mg55 C (v := gI σ 55) dX11_runs_109 rfl ?_
  refine g_iconst C (-1) dX11_runs_112 (by decide) ?_
  refine g_icmp_ne C 126 dX11_runs_113 (by decide) ?_ ?_
  · exact g_vret C dX11_runs_126
  · refine g_aload_n C 0 dX11_runs_116 rfl rfl ?_
    refine g_iload_n C 2 dX11_runs_117 rfl rfl ?_
    refine g_iload_n C 1 dX11_runs_118 rfl rfl ?_
    refine v_m_does C ⟨by decide, by decide⟩ (Nat.le_of_ble_eq_true rfl) dX11_runs_119 (fun r3 σ4 _ => ?_)
    refine g_istore_n C [(3, .int r3), (0, .ref (ad 0)), (2, .int x2)] dX11_runs_122 rfl (by decide) rfl ?_
    refine g_goto C 108 dX11_runs_123 (by decide) ?_
    exact g_sub [1, 2, 0] rfl (hrec108 σ4 x2 r3)
set_option maxHeartbeats 4000000 in
set_option maxRecDepth 100000 in
theorem s_m_runs_108 {X : Cx} {ad : Nat → Nat} (C : Ok X cX11_runs RX11 4 none 3 69) (N : Nat) : ∀ (n : Nat) (σ : St) (x2 : Int32) (x3 : Int32), Sim X scM ad 4 outV 108 [(0, .ref (ad 0)), (2, .int x2), (3, .int x3)] [] σ (m_runs_108 N n σ x2 x3) := by
  intro n
  induction n with
  | zero => intro σ x2 x3; exact g_none
  | succ n ih => intro σ x2 x3; exact s_m_runs_108_b C N ih σ x2 x3
set_option maxHeartbeats 4000000 in
set_option maxRecDepth 100000 in
theorem s_m_runs_98 {X : Cx} {ad : Nat → Nat} (C : Ok X cX11_runs RX11 4 none 3 69) (N : Nat) (σ : St) (x2 : Int32) : Sim X scM ad 4 outV 98 [(0, .ref (ad 0)), (2, .int x2)] [] σ (m_runs_98 N σ x2) := by
  unfold m_runs_98
  refine g_aload_n C 0 dX11_runs_98 rfl rfl ?_
  refine mg19 C dX11_runs_99 ?_
  refine g_aload_n C 0 dX11_runs_102 rfl rfl ?_
  refine mg39 C (v := gI σ 39) dX11_runs_103 rfl ?_
  refine mr19 C (v := gA σ 19 ((gI σ 39).toNatClampNeg)) dX11_runs_106 rfl ?_
  refine g_istore_n C [(3, .int (gA σ 19 ((gI σ 39).toNatClampNeg))), (0, .ref (ad 0)), (2, .int x2)] dX11_runs_107 rfl (by decide) rfl ?_
  exact g_sub [1, 2, 0] rfl (s_m_runs_108 C N N σ x2 (gA σ 19 ((gI σ 39).toNatClampNeg)))
set_option maxHeartbeats 4000000 in
set_option maxRecDepth 100000 in
theorem s_m_runs_91 {X : Cx} {ad : Nat → Nat} (C : Ok X cX11_runs RX11 4 none 3 69) (N : Nat) {rec42 : St → Int32 → Int32 → Int32 → Option (Unit × St)} (hrec42 : ∀ (σ : St) (x1 : Int32) (x2 : Int32) (x3 : Int32), Sim X scM ad 4 outV 42 [(0, .ref (ad 0)), (1, .int x1), (2, .int x2), (3, .int x3)] [] σ (rec42 σ x1 x2 x3)) (σ : St) (x1 : Int32) (x2 : Int32) (x3 : Int32) (t1 : Int32) (t2 : Int32) : Sim X scM ad 4 outV 91 [(0, .ref (ad 0)), (1, .int x1), (2, .int x2), (3, .int x3)] [.int t2, .int t1, .ref (ad 48)] σ (m_runs_91 N rec42 σ x1 x2 x3 t1 t2) := by
  unfold m_runs_91
  refine mw48 C dX11_runs_91 ?_
  refine g_iinc C (x3 + 1) 3 [(3, .int (x3 + 1)), (0, .ref (ad 0)), (1, .int x1), (2, .int x2)] dX11_runs_92 rfl rfl (by decide) rfl ?_
  refine g_goto C 42 dX11_runs_95 (by decide) ?_
  exact g_sub [1, 2, 3, 0] rfl (hrec42 (sA σ 48 t1.toNatClampNeg t2) x1 x2 (x3 + 1))
set_option maxHeartbeats 4000000 in
set_option maxRecDepth 100000 in
theorem s_m_runs_42_b {X : Cx} {ad : Nat → Nat} (C : Ok X cX11_runs RX11 4 none 3 69) (N : Nat) {rec42 : St → Int32 → Int32 → Int32 → Option (Unit × St)} (hrec42 : ∀ (σ : St) (x1 : Int32) (x2 : Int32) (x3 : Int32), Sim X scM ad 4 outV 42 [(0, .ref (ad 0)), (1, .int x1), (2, .int x2), (3, .int x3)] [] σ (rec42 σ x1 x2 x3)) (σ : St) (x1 : Int32) (x2 : Int32) (x3 : Int32) : Sim X scM ad 4 outV 42 [(0, .ref (ad 0)), (1, .int x1), (2, .int x2), (3, .int x3)] [] σ (m_runs_42_b N rec42 σ x1 x2 x3) := by
  unfold m_runs_42_b
  refine g_iload_n C 3 dX11_runs_42 rfl rfl ?_
  refine g_aload_n C 0 dX11_runs_43 rfl rfl ?_
  refine mg20 C dX11_runs_44 ?_
  refine g_aload_n C 0 dX11_runs_47 rfl rfl ?_
  refine mg39 C (v := gI σ 39) dX11_runs_48 rfl ?_
  refine mr20 C (v := gA σ 20 ((gI σ 39).toNatClampNeg)) dX11_runs_51 rfl ?_
  refine g_icmp_ge C 98 dX11_runs_52 (by decide) ?_ ?_
  · exact g_sub [0, 2] rfl (s_m_runs_98 C N σ x2)
  · refine g_aload_n C 0 dX11_runs_55 rfl rfl ?_
    refine mg48 C dX11_runs_56 ?_
    refine g_aload_n C 0 dX11_runs_59 rfl rfl ?_
    refine mg21 C dX11_runs_60 ?_
    refine g_iconst C 4 dX11_runs_63 (by decide) ?_
    refine g_aload_n C 0 dX11_runs_64 rfl rfl ?_
    refine mg39 C (v := gI σ 39) dX11_runs_65 rfl ?_
    refine g_imul C dX11_runs_68 ?_
    refine g_iload_n C 3 dX11_runs_69 rfl rfl ?_
    refine g_iadd C dX11_runs_70 ?_
    refine mr21 C (v := gA σ 21 (((4 * (gI σ 39)) + x3).toNatClampNeg)) dX11_runs_71 rfl ?_
    refine g_iload_n C 1 dX11_runs_72 rfl rfl ?_
    refine g_iload_n C 3 dX11_runs_73 rfl rfl ?_
    refine g_ishr C dX11_runs_74 ?_
    refine g_iconst C 1 dX11_runs_75 (by decide) ?_
    refine g_iand C dX11_runs_76 ?_
    refine g_iconst C 1 dX11_runs_77 (by decide) ?_
    refine g_icmp_ne C 90 dX11_runs_78 (by decide) ?_ ?_
    · refine g_iconst C 0 dX11_runs_90 (by decide) ?_
      exact g_sub [0, 1, 2, 3] rfl (s_m_runs_91 C N hrec42 σ x1 x2 x3 (gA σ 21 (((4 * (gI σ 39)) + x3).toNatClampNeg)) 0)
    · refine g_aload_n C 0 dX11_runs_81 rfl rfl ?_
      refine g_iconst C (-1) dX11_runs_82 (by decide) ?_
      refine g_iconst C (-1) dX11_runs_83 (by decide) ?_
      refine v_m_makes C ⟨by decide, by decide⟩ (Nat.le_of_ble_eq_true rfl) dX11_runs_84 (fun r5 σ6 _ => ?_)
      refine g_goto C 91 dX11_runs_87 (by decide) ?_
      exact g_sub [0, 1, 2, 3] rfl (s_m_runs_91 C N hrec42 σ6 x1 x2 x3 (gA σ 21 (((4 * (gI σ 39)) + x3).toNatClampNeg)) r5)
set_option maxHeartbeats 4000000 in
set_option maxRecDepth 100000 in
theorem s_m_runs_42 {X : Cx} {ad : Nat → Nat} (C : Ok X cX11_runs RX11 4 none 3 69) (N : Nat) : ∀ (n : Nat) (σ : St) (x1 : Int32) (x2 : Int32) (x3 : Int32), Sim X scM ad 4 outV 42 [(0, .ref (ad 0)), (1, .int x1), (2, .int x2), (3, .int x3)] [] σ (m_runs_42 N n σ x1 x2 x3) := by
  intro n
  induction n with
  | zero => intro σ x1 x2 x3; exact g_none
  | succ n ih => intro σ x1 x2 x3; exact s_m_runs_42_b C N ih σ x1 x2 x3
set_option maxHeartbeats 4000000 in
set_option maxRecDepth 100000 in
theorem s_m_runs {X : Cx} {ad : Nat → Nat} (C : Ok X cX11_runs RX11 4 none 3 69) (N : Nat) (σ : St) (a1 : Int32) (a2 : Int32) : Sim X scM ad 4 outV 0 [(0, .ref (ad 0)), (1, .int a1), (2, .int a2)] [] σ (m_runs N σ a1 a2) := by
  unfold m_runs
  refine g_aload_n C 0 dX11_runs_0 rfl rfl ?_
  refine g_iconst C 0 dX11_runs_1 (by decide) ?_
  refine mp47 C dX11_runs_2 ?_
  refine g_aload_n C 0 dX11_runs_5 rfl rfl ?_
  refine g_iconst C 0 dX11_runs_6 (by decide) ?_
  refine mp50 C dX11_runs_7 ?_
  refine g_aload_n C 0 dX11_runs_10 rfl rfl ?_
  refine g_iconst C 0 dX11_runs_11 (by decide) ?_
  refine mp52 C dX11_runs_12 ?_
  refine g_aload_n C 0 dX11_runs_15 rfl rfl ?_
  refine g_iconst C 0 dX11_runs_16 (by decide) ?_
  refine mp53 C dX11_runs_17 ?_
  refine g_aload_n C 0 dX11_runs_20 rfl rfl ?_
  refine g_iconst C (-1) dX11_runs_21 (by decide) ?_
  refine mp54 C dX11_runs_22 ?_
  refine g_aload_n C 0 dX11_runs_25 rfl rfl ?_
  refine g_iconst C (-1) dX11_runs_26 (by decide) ?_
  refine mp55 C dX11_runs_27 ?_
  refine g_aload_n C 0 dX11_runs_30 rfl rfl ?_
  refine g_iconst C 0 dX11_runs_31 (by decide) ?_
  refine mp51 C dX11_runs_32 ?_
  refine g_aload_n C 0 dX11_runs_35 rfl rfl ?_
  refine g_iconst C (-1) dX11_runs_36 (by decide) ?_
  refine v_m_frame C ⟨by decide, by decide⟩ (Nat.le_of_ble_eq_true rfl) dX11_runs_37 (fun r1 σ2 _ => ?_)
  refine g_iconst C 0 dX11_runs_40 (by decide) ?_
  refine g_istore_n C [(3, .int 0), (0, .ref (ad 0)), (1, .int a1), (2, .int a2)] dX11_runs_41 rfl (by decide) rfl ?_
  exact g_sub [1, 2, 3, 0] rfl (s_m_runs_42 C N N σ2 a1 a2 0)
theorem c_m_runs {Y : Yx} {ad : Nat → Nat} {N : Nat} {σ : St} {a1 : Int32} {a2 : Int32} {r : Unit} {σ' : St} (h : m_runs N σ a1 a2 = some (r, σ')) : Con Y scM ad yX11_runs cX11_runs 4 none 3 69 [.ref (ad 0), .int a1, .int a2] σ (outV r) σ' := con_of (by decide) rfl (Nat.le_of_ble_eq_true rfl) rfl (fun X hX C => s_m_runs C N σ a1 a2) h
set_option maxRecDepth 20000 in
theorem v_m_runs {X : Cx} {cc : ByteArray} {nL : Nat} {ret : Option FieldType} {fr lo : Nat} {ad : Nat → Nat} {ρ : Type} {out : ρ → Option Value} {pc : Nat} {lv : List (Nat × Value)} {rest : List Value} {σ : St} {N : Nat} {K : Unit → St → Option (ρ × St)} {a1 : Int32} {a2 : Int32} (C : Ok X cc RX11 nL ret fr lo) (hR : 3 + 1 ≤ fr ∧ 8 + (4 + 11) + 69 ≤ lo) (hcat : (rest.map fun v => v.category).sum ≤ 8) (hdg : decode cc pc = .ok (.invokevirtual 360, 3)) (k : ∀ (r : Unit) (σ' : St), m_runs N σ a1 a2 = some (r, σ') → Sim X scM ad nL out (pc + 3) lv rest σ' (K r σ')) : Sim X scM ad nL out pc lv (.int a2 :: .int a1 :: .ref (ad 0) :: rest) σ (bd (m_runs N σ a1 a2) K) := g_callV C (out1 := outV) (y := yX11_runs) (n := 2) ⟨gw_1498, gw_1500, gw_96, gw_117, gw_1501⟩ (by decide +kernel) hR (o := 0) (ci := 10) (q9 := (RX11, TX11, 68)) imM0 rfl rfl rfl (fun r σ' h => c_m_runs h) rfl rfl hcat hdg k

def m_run (N : Nat) (σ : St) (a1 : Int32) (a2 : Int32) : Option (Int32 × St) :=
  bd (m_canRun N (sI σ 0 0) a1 a2) (fun r1 σ2 => (if r1 = 0 then some ((-1), σ2) else bd (m_runs N σ2 a1 a2) (fun _ σ4 => some (gI σ4 55, (sI (sI (sI (sI (sI σ4 56 1) 57 (gI σ4 52)) 58 (gI σ4 54)) 59 (gI σ4 47)) 60 (gI σ4 53))))))
set_option maxHeartbeats 4000000 in
set_option maxRecDepth 100000 in
theorem s_m_run {X : Cx} {ad : Nat → Nat} (C : Ok X cX11_run RX11 3 (some .int) 4 92) (N : Nat) (σ : St) (a1 : Int32) (a2 : Int32) : Sim X scM ad 3 outI 0 [(0, .ref (ad 0)), (1, .int a1), (2, .int a2)] [] σ (m_run N σ a1 a2) := by
  unfold m_run
  refine g_aload_n C 0 dX11_run_0 rfl rfl ?_
  refine g_iconst C 0 dX11_run_1 (by decide) ?_
  refine mp0 C dX11_run_2 ?_
  refine g_aload_n C 0 dX11_run_5 rfl rfl ?_
  refine g_iload_n C 1 dX11_run_6 rfl rfl ?_
  refine g_iload_n C 2 dX11_run_7 rfl rfl ?_
  refine v_m_canRun C ⟨by decide, by decide⟩ (Nat.le_of_ble_eq_true rfl) dX11_run_8 (fun r1 σ2 _ => ?_)
  refine g_if_ne C 16 dX11_run_11 (by decide) ?_ ?_
  · refine g_aload_n C 0 dX11_run_16 rfl rfl ?_
    refine g_iload_n C 1 dX11_run_17 rfl rfl ?_
    refine g_iload_n C 2 dX11_run_18 rfl rfl ?_
    refine v_m_runs C ⟨by decide, by decide⟩ (Nat.le_of_ble_eq_true rfl) dX11_run_19 (fun r3 σ4 _ => ?_)
    refine g_aload_n C 0 dX11_run_22 rfl rfl ?_
    refine g_iconst C 1 dX11_run_23 (by decide) ?_
    refine mp56 C rfl dX11_run_24 ?_
    refine g_aload_n C 0 dX11_run_27 rfl rfl ?_
    refine g_aload_n C 0 dX11_run_28 rfl rfl ?_
    refine mg52 C (v := gI σ4 52) dX11_run_29 rfl ?_
    refine mp57 C dX11_run_32 ?_
    refine g_aload_n C 0 dX11_run_35 rfl rfl ?_
    refine g_aload_n C 0 dX11_run_36 rfl rfl ?_
    refine mg54 C (v := gI σ4 54) dX11_run_37 rfl ?_
    refine mp58 C dX11_run_40 ?_
    refine g_aload_n C 0 dX11_run_43 rfl rfl ?_
    refine g_aload_n C 0 dX11_run_44 rfl rfl ?_
    refine mg47 C (v := gI σ4 47) dX11_run_45 rfl ?_
    refine mp59 C dX11_run_48 ?_
    refine g_aload_n C 0 dX11_run_51 rfl rfl ?_
    refine g_aload_n C 0 dX11_run_52 rfl rfl ?_
    refine mg53 C (v := gI σ4 53) dX11_run_53 rfl ?_
    refine mp60 C dX11_run_56 ?_
    refine g_aload_n C 0 dX11_run_59 rfl rfl ?_
    refine mg55 C (v := gI σ4 55) dX11_run_60 rfl ?_
    exact g_iret C dX11_run_63
  · refine g_iconst C (-1) dX11_run_14 (by decide) ?_
    exact g_iret C dX11_run_15
theorem c_m_run {Y : Yx} {ad : Nat → Nat} {N : Nat} {σ : St} {a1 : Int32} {a2 : Int32} {r : Int32} {σ' : St} (h : m_run N σ a1 a2 = some (r, σ')) : Con Y scM ad yX11_run cX11_run 3 (some .int) 4 92 [.ref (ad 0), .int a1, .int a2] σ (outI r) σ' := con_of (by decide) rfl (Nat.le_of_ble_eq_true rfl) rfl (fun X hX C => s_m_run C N σ a1 a2) h

def m_ran (N : Nat) (σ : St) (a1 : Int32) : Option (Int32 × St) :=
  (if (gI σ 56) = 0 then some ((-1), (sI σ 0 0)) else (if a1 = 0 then some (gI σ 57, (sI σ 0 0)) else (if a1 = 1 then some (gI σ 58, (sI σ 0 0)) else (if a1 = 2 then some (gI σ 59, (sI σ 0 0)) else (if a1 = 3 then some (gI σ 60, (sI σ 0 0)) else some ((-1), (sI σ 0 0)))))))
set_option maxHeartbeats 4000000 in
set_option maxRecDepth 100000 in
theorem s_m_ran {X : Cx} {ad : Nat → Nat} (C : Ok X cX11_ran RX11 2 (some .int) 0 0) (N : Nat) (σ : St) (a1 : Int32) : Sim X scM ad 2 outI 0 [(0, .ref (ad 0)), (1, .int a1)] [] σ (m_ran N σ a1) := by
  unfold m_ran
  refine g_aload_n C 0 dX11_ran_0 rfl rfl ?_
  refine g_iconst C 0 dX11_ran_1 (by decide) ?_
  refine mp0 C dX11_ran_2 ?_
  refine g_aload_n C 0 dX11_ran_5 rfl rfl ?_
  refine mg56 C (v := gI σ 56) dX11_ran_6 rfl ?_
  refine g_if_ne C 14 dX11_ran_9 (by decide) ?_ ?_
  · refine g_iload_n C 1 dX11_ran_14 rfl rfl ?_
    refine g_cs (fun h1 => ?_) (fun h1 => ?_)
    · refine g_tabIn C (off := 29) 44 (0) (by rw [h1]; decide) dX11_ran_15 (by decide) (by decide) (by decide) (by decide) ?_
      refine g_aload_n C 0 dX11_ran_44 rfl rfl ?_
      refine mg57 C (v := gI σ 57) dX11_ran_45 rfl ?_
      exact g_iret C dX11_ran_48
    refine g_cs (fun h2 => ?_) (fun h2 => ?_)
    · refine g_tabIn C (off := 34) 49 (1) (by rw [h2]; decide) dX11_ran_15 (by decide) (by decide) (by decide) (by decide) ?_
      refine g_aload_n C 0 dX11_ran_49 rfl rfl ?_
      refine mg58 C (v := gI σ 58) dX11_ran_50 rfl ?_
      exact g_iret C dX11_ran_53
    refine g_cs (fun h3 => ?_) (fun h3 => ?_)
    · refine g_tabIn C (off := 39) 54 (2) (by rw [h3]; decide) dX11_ran_15 (by decide) (by decide) (by decide) (by decide) ?_
      refine g_aload_n C 0 dX11_ran_54 rfl rfl ?_
      refine mg59 C (v := gI σ 59) dX11_ran_55 rfl ?_
      exact g_iret C dX11_ran_58
    refine g_cs (fun h4 => ?_) (fun h4 => ?_)
    · refine g_tabIn C (off := 44) 59 (3) (by rw [h4]; decide) dX11_ran_15 (by decide) (by decide) (by decide) (by decide) ?_
      refine g_aload_n C 0 dX11_ran_59 rfl rfl ?_
      refine mg60 C (v := gI σ 60) dX11_ran_60 rfl ?_
      exact g_iret C dX11_ran_63
    have ah1 : ¬ a1.toInt = 0 := k_ne h1 (by decide)
    have bh1 : ¬ (0 : Int) = a1.toInt := fun e9 => ah1 e9.symm
    have ah2 : ¬ a1.toInt = 1 := k_ne h2 (by decide)
    have bh2 : ¬ (1 : Int) = a1.toInt := fun e9 => ah2 e9.symm
    have ah3 : ¬ a1.toInt = 2 := k_ne h3 (by decide)
    have bh3 : ¬ (2 : Int) = a1.toInt := fun e9 => ah3 e9.symm
    have ah4 : ¬ a1.toInt = 3 := k_ne h4 (by decide)
    have bh4 : ¬ (3 : Int) = a1.toInt := fun e9 => ah4 e9.symm
    refine g_tabOut C 64 dX11_ran_15 (by omega) (by decide) ?_
    refine g_iconst C (-1) dX11_ran_64 (by decide) ?_
    exact g_iret C dX11_ran_65
  · refine g_iconst C (-1) dX11_ran_12 (by decide) ?_
    exact g_iret C dX11_ran_13
theorem c_m_ran {Y : Yx} {ad : Nat → Nat} {N : Nat} {σ : St} {a1 : Int32} {r : Int32} {σ' : St} (h : m_ran N σ a1 = some (r, σ')) : Con Y scM ad yX11_ran cX11_ran 2 (some .int) 0 0 [.ref (ad 0), .int a1] σ (outI r) σ' := con_of (by decide) rfl (Nat.le_of_ble_eq_true rfl) rfl (fun X hX C => s_m_ran C N σ a1) h

def m_tries_95 (N : Nat) (rec23 : St → Int32 → Int32 → Option (Int32 × St)) (σ : St) (x1 : Int32) (x2 : Int32) : Option (Int32 × St) :=
  rec23 σ x1 (x2 + 1)
def m_tries_89 (N : Nat) (rec23 : St → Int32 → Int32 → Option (Int32 × St)) (rec40 : St → Int32 → Int32 → Int32 → Option (Int32 × St)) (σ : St) (x1 : Int32) (x2 : Int32) (x3 : Int32) : Option (Int32 × St) :=
  rec40 σ x1 x2 (x3 + 1)
def m_tries_40_b (N : Nat) (rec23 : St → Int32 → Int32 → Option (Int32 × St)) (rec40 : St → Int32 → Int32 → Int32 → Option (Int32 × St)) (σ : St) (x1 : Int32) (x2 : Int32) (x3 : Int32) : Option (Int32 × St) :=
  (if 256 ≤ x3 then m_tries_95 N rec23 σ x1 x2 else bd (m_canRun N σ x2 x3) (fun r1 σ2 => (if r1 = 0 then m_tries_89 N rec23 rec40 σ2 x1 x2 x3 else bd (m_runs N σ2 x2 x3) (fun _ σ4 => (if (gI σ4 55) = 2 then (if (gI σ4 54) = x1 then some ((256 * x2) + x3, σ4) else m_tries_89 N rec23 rec40 σ4 x1 x2 x3) else m_tries_89 N rec23 rec40 σ4 x1 x2 x3)))))
def m_tries_40 (N : Nat) (rec23 : St → Int32 → Int32 → Option (Int32 × St)) : Nat → St → Int32 → Int32 → Int32 → Option (Int32 × St)
  | 0 => fun _ _ _ _ => none
  | n + 1 => fun σ x1 x2 x3 => m_tries_40_b N rec23 (m_tries_40 N rec23 n) σ x1 x2 x3
def m_tries_23_b (N : Nat) (rec23 : St → Int32 → Int32 → Option (Int32 × St)) (σ : St) (x1 : Int32) (x2 : Int32) : Option (Int32 × St) :=
  gd (ib (gI σ 39) 16) ((if ((1 : Int32) <<< ((gA σ 20 ((gI σ 39).toNatClampNeg)) &&& 31)) ≤ x2 then some ((-1), σ) else m_tries_40 N rec23 N σ x1 x2 0))
def m_tries_23 (N : Nat) : Nat → St → Int32 → Int32 → Option (Int32 × St)
  | 0 => fun _ _ _ => none
  | n + 1 => fun σ x1 x2 => m_tries_23_b N (m_tries_23 N n) σ x1 x2
def m_tries (N : Nat) (σ : St) (a1 : Int32) : Option (Int32 × St) :=
  (if a1 < 0 then some ((-1), (sI σ 0 0)) else gd (ib 0 2) ((if a1 < (gA σ 26 ((0 : Int32).toNatClampNeg)) then m_tries_23 N N (sI σ 0 0) a1 0 else some ((-1), (sI σ 0 0)))))
set_option maxHeartbeats 4000000 in
set_option maxRecDepth 100000 in
theorem s_m_tries_95 {X : Cx} {ad : Nat → Nat} (C : Ok X cX11_tries RX11 4 (some .int) 4 92) (N : Nat) {rec23 : St → Int32 → Int32 → Option (Int32 × St)} (hrec23 : ∀ (σ : St) (x1 : Int32) (x2 : Int32), Sim X scM ad 4 outI 23 [(0, .ref (ad 0)), (1, .int x1), (2, .int x2)] [] σ (rec23 σ x1 x2)) (σ : St) (x1 : Int32) (x2 : Int32) : Sim X scM ad 4 outI 95 [(0, .ref (ad 0)), (1, .int x1), (2, .int x2)] [] σ (m_tries_95 N rec23 σ x1 x2) := by
  unfold m_tries_95
  refine g_iinc C (x2 + 1) 2 [(2, .int (x2 + 1)), (0, .ref (ad 0)), (1, .int x1)] dX11_tries_95 rfl rfl (by decide) rfl ?_
  refine g_goto C 23 dX11_tries_98 (by decide) ?_
  exact g_sub [1, 2, 0] rfl (hrec23 σ x1 (x2 + 1))
set_option maxHeartbeats 4000000 in
set_option maxRecDepth 100000 in
theorem s_m_tries_89 {X : Cx} {ad : Nat → Nat} (C : Ok X cX11_tries RX11 4 (some .int) 4 92) (N : Nat) {rec23 : St → Int32 → Int32 → Option (Int32 × St)} (hrec23 : ∀ (σ : St) (x1 : Int32) (x2 : Int32), Sim X scM ad 4 outI 23 [(0, .ref (ad 0)), (1, .int x1), (2, .int x2)] [] σ (rec23 σ x1 x2)) {rec40 : St → Int32 → Int32 → Int32 → Option (Int32 × St)} (hrec40 : ∀ (σ : St) (x1 : Int32) (x2 : Int32) (x3 : Int32), Sim X scM ad 4 outI 40 [(0, .ref (ad 0)), (1, .int x1), (2, .int x2), (3, .int x3)] [] σ (rec40 σ x1 x2 x3)) (σ : St) (x1 : Int32) (x2 : Int32) (x3 : Int32) : Sim X scM ad 4 outI 89 [(0, .ref (ad 0)), (1, .int x1), (2, .int x2), (3, .int x3)] [] σ (m_tries_89 N rec23 rec40 σ x1 x2 x3) := by
  unfold m_tries_89
  refine g_iinc C (x3 + 1) 3 [(3, .int (x3 + 1)), (0, .ref (ad 0)), (1, .int x1), (2, .int x2)] dX11_tries_89 rfl rfl (by decide) rfl ?_
  refine g_goto C 40 dX11_tries_92 (by decide) ?_
  exact g_sub [1, 2, 3, 0] rfl (hrec40 σ x1 x2 (x3 + 1))
set_option maxHeartbeats 4000000 in
set_option maxRecDepth 100000 in
theorem s_m_tries_40_b {X : Cx} {ad : Nat → Nat} (C : Ok X cX11_tries RX11 4 (some .int) 4 92) (N : Nat) {rec23 : St → Int32 → Int32 → Option (Int32 × St)} (hrec23 : ∀ (σ : St) (x1 : Int32) (x2 : Int32), Sim X scM ad 4 outI 23 [(0, .ref (ad 0)), (1, .int x1), (2, .int x2)] [] σ (rec23 σ x1 x2)) {rec40 : St → Int32 → Int32 → Int32 → Option (Int32 × St)} (hrec40 : ∀ (σ : St) (x1 : Int32) (x2 : Int32) (x3 : Int32), Sim X scM ad 4 outI 40 [(0, .ref (ad 0)), (1, .int x1), (2, .int x2), (3, .int x3)] [] σ (rec40 σ x1 x2 x3)) (σ : St) (x1 : Int32) (x2 : Int32) (x3 : Int32) : Sim X scM ad 4 outI 40 [(0, .ref (ad 0)), (1, .int x1), (2, .int x2), (3, .int x3)] [] σ (m_tries_40_b N rec23 rec40 σ x1 x2 x3) := by
  unfold m_tries_40_b
  refine g_iload_n C 3 dX11_tries_40 rfl rfl ?_
  refine g_sipush C 256 dX11_tries_41 (by decide) ?_
  refine g_icmp_ge C 95 dX11_tries_44 (by decide) ?_ ?_
  · exact g_sub [0, 1, 2] rfl (s_m_tries_95 C N hrec23 σ x1 x2)
  · refine g_aload_n C 0 dX11_tries_47 rfl rfl ?_
    refine g_iload_n C 2 dX11_tries_48 rfl rfl ?_
    refine g_iload_n C 3 dX11_tries_49 rfl rfl ?_
    refine v_m_canRun C ⟨by decide, by decide⟩ (Nat.le_of_ble_eq_true rfl) dX11_tries_50 (fun r1 σ2 _ => ?_)
    refine g_if_ne C 59 dX11_tries_53 (by decide) ?_ ?_
    · refine g_aload_n C 0 dX11_tries_59 rfl rfl ?_
      refine g_iload_n C 2 dX11_tries_60 rfl rfl ?_
      refine g_iload_n C 3 dX11_tries_61 rfl rfl ?_
      refine v_m_runs C ⟨by decide, by decide⟩ (Nat.le_of_ble_eq_true rfl) dX11_tries_62 (fun r3 σ4 _ => ?_)
      refine g_aload_n C 0 dX11_tries_65 rfl rfl ?_
      refine mg55 C (v := gI σ4 55) dX11_tries_66 rfl ?_
      refine g_iconst C 2 dX11_tries_69 (by decide) ?_
      refine g_icmp_ne C 89 dX11_tries_70 (by decide) ?_ ?_
      · exact g_sub [0, 1, 2, 3] rfl (s_m_tries_89 C N hrec23 hrec40 σ4 x1 x2 x3)
      · refine g_aload_n C 0 dX11_tries_73 rfl rfl ?_
        refine mg54 C (v := gI σ4 54) dX11_tries_74 rfl ?_
        refine g_iload_n C 1 dX11_tries_77 rfl rfl ?_
        refine g_icmp_ne C 89 dX11_tries_78 (by decide) ?_ ?_
        · exact g_sub [0, 1, 2, 3] rfl (s_m_tries_89 C N hrec23 hrec40 σ4 x1 x2 x3)
        · refine g_sipush C 256 dX11_tries_81 (by decide) ?_
          refine g_iload_n C 2 dX11_tries_84 rfl rfl ?_
          refine g_imul C dX11_tries_85 ?_
          refine g_iload_n C 3 dX11_tries_86 rfl rfl ?_
          refine g_iadd C dX11_tries_87 ?_
          exact g_iret C dX11_tries_88
    · refine g_goto C 89 dX11_tries_56 (by decide) ?_
      exact g_sub [0, 1, 2, 3] rfl (s_m_tries_89 C N hrec23 hrec40 σ2 x1 x2 x3)
set_option maxHeartbeats 4000000 in
set_option maxRecDepth 100000 in
theorem s_m_tries_40 {X : Cx} {ad : Nat → Nat} (C : Ok X cX11_tries RX11 4 (some .int) 4 92) (N : Nat) {rec23 : St → Int32 → Int32 → Option (Int32 × St)} (hrec23 : ∀ (σ : St) (x1 : Int32) (x2 : Int32), Sim X scM ad 4 outI 23 [(0, .ref (ad 0)), (1, .int x1), (2, .int x2)] [] σ (rec23 σ x1 x2)) : ∀ (n : Nat) (σ : St) (x1 : Int32) (x2 : Int32) (x3 : Int32), Sim X scM ad 4 outI 40 [(0, .ref (ad 0)), (1, .int x1), (2, .int x2), (3, .int x3)] [] σ (m_tries_40 N rec23 n σ x1 x2 x3) := by
  intro n
  induction n with
  | zero => intro σ x1 x2 x3; exact g_none
  | succ n ih => intro σ x1 x2 x3; exact s_m_tries_40_b C N hrec23 ih σ x1 x2 x3
set_option maxHeartbeats 4000000 in
set_option maxRecDepth 100000 in
theorem s_m_tries_23_b {X : Cx} {ad : Nat → Nat} (C : Ok X cX11_tries RX11 4 (some .int) 4 92) (N : Nat) {rec23 : St → Int32 → Int32 → Option (Int32 × St)} (hrec23 : ∀ (σ : St) (x1 : Int32) (x2 : Int32), Sim X scM ad 4 outI 23 [(0, .ref (ad 0)), (1, .int x1), (2, .int x2)] [] σ (rec23 σ x1 x2)) (σ : St) (x1 : Int32) (x2 : Int32) : Sim X scM ad 4 outI 23 [(0, .ref (ad 0)), (1, .int x1), (2, .int x2)] [] σ (m_tries_23_b N rec23 σ x1 x2) := by
  unfold m_tries_23_b
  refine g_iload_n C 2 dX11_tries_23 rfl rfl ?_
  refine g_iconst C 1 dX11_tries_24 (by decide) ?_
  refine g_aload_n C 0 dX11_tries_25 rfl rfl ?_
  refine mg20 C dX11_tries_26 ?_
  refine g_aload_n C 0 dX11_tries_29 rfl rfl ?_
  refine mg39 C (v := gI σ 39) dX11_tries_30 rfl ?_
  refine mr20 C (v := gA σ 20 ((gI σ 39).toNatClampNeg)) dX11_tries_33 rfl ?_
  refine g_ishl C dX11_tries_34 ?_
  refine g_icmp_ge C 101 dX11_tries_35 (by decide) ?_ ?_
  · refine g_iconst C (-1) dX11_tries_101 (by decide) ?_
    exact g_iret C dX11_tries_102
  · refine g_iconst C 0 dX11_tries_38 (by decide) ?_
    refine g_istore_n C [(3, .int 0), (0, .ref (ad 0)), (1, .int x1), (2, .int x2)] dX11_tries_39 rfl (by decide) rfl ?_
    exact g_sub [1, 2, 3, 0] rfl (s_m_tries_40 C N hrec23 N σ x1 x2 0)
set_option maxHeartbeats 4000000 in
set_option maxRecDepth 100000 in
theorem s_m_tries_23 {X : Cx} {ad : Nat → Nat} (C : Ok X cX11_tries RX11 4 (some .int) 4 92) (N : Nat) : ∀ (n : Nat) (σ : St) (x1 : Int32) (x2 : Int32), Sim X scM ad 4 outI 23 [(0, .ref (ad 0)), (1, .int x1), (2, .int x2)] [] σ (m_tries_23 N n σ x1 x2) := by
  intro n
  induction n with
  | zero => intro σ x1 x2; exact g_none
  | succ n ih => intro σ x1 x2; exact s_m_tries_23_b C N ih σ x1 x2
set_option maxHeartbeats 4000000 in
set_option maxRecDepth 100000 in
theorem s_m_tries {X : Cx} {ad : Nat → Nat} (C : Ok X cX11_tries RX11 4 (some .int) 4 92) (N : Nat) (σ : St) (a1 : Int32) : Sim X scM ad 4 outI 0 [(0, .ref (ad 0)), (1, .int a1)] [] σ (m_tries N σ a1) := by
  unfold m_tries
  refine g_aload_n C 0 dX11_tries_0 rfl rfl ?_
  refine g_iconst C 0 dX11_tries_1 (by decide) ?_
  refine mp0 C dX11_tries_2 ?_
  refine g_iload_n C 1 dX11_tries_5 rfl rfl ?_
  refine g_if_lt C 19 dX11_tries_6 (by decide) ?_ ?_
  · refine g_iconst C (-1) dX11_tries_19 (by decide) ?_
    exact g_iret C dX11_tries_20
  · refine g_iload_n C 1 dX11_tries_9 rfl rfl ?_
    refine g_aload_n C 0 dX11_tries_10 rfl rfl ?_
    refine mg26 C dX11_tries_11 ?_
    refine g_iconst C 0 dX11_tries_14 (by decide) ?_
    refine mr26 C (v := gA σ 26 ((0 : Int32).toNatClampNeg)) dX11_tries_15 rfl ?_
    refine g_icmp_lt C 21 dX11_tries_16 (by decide) ?_ ?_
    · refine g_iconst C 0 dX11_tries_21 (by decide) ?_
      refine g_istore_n C [(2, .int 0), (0, .ref (ad 0)), (1, .int a1)] dX11_tries_22 rfl (by decide) rfl ?_
      exact g_sub [1, 2, 0] rfl (s_m_tries_23 C N N (sI σ 0 0) a1 0)
    · refine g_iconst C (-1) dX11_tries_19 (by decide) ?_
      exact g_iret C dX11_tries_20
theorem c_m_tries {Y : Yx} {ad : Nat → Nat} {N : Nat} {σ : St} {a1 : Int32} {r : Int32} {σ' : St} (h : m_tries N σ a1 = some (r, σ')) : Con Y scM ad yX11_tries cX11_tries 4 (some .int) 4 92 [.ref (ad 0), .int a1] σ (outI r) σ' := con_of (by decide) rfl (Nat.le_of_ble_eq_true rfl) rfl (fun X hX C => s_m_tries C N σ a1) h

def m_price (N : Nat) (σ : St) (a1 : Int32) (a2 : Int32) : Option (Int32 × St) :=
  (if a1 < 0 then some (0, (sI σ 0 0)) else (if 3 < a1 then some (0, (sI σ 0 0)) else (if a2 < 1 then some (0, (sI σ 0 0)) else (if a2 ≤ 99 then gd (ib a1 4) (some (1, (sA (sI σ 0 0) 61 a1.toNatClampNeg a2))) else some (0, (sI σ 0 0))))))
set_option maxHeartbeats 4000000 in
set_option maxRecDepth 100000 in
theorem s_m_price {X : Cx} {ad : Nat → Nat} (C : Ok X cX11_price RX11 3 (some .boolean) 0 0) (N : Nat) (σ : St) (a1 : Int32) (a2 : Int32) : Sim X scM ad 3 outI 0 [(0, .ref (ad 0)), (1, .int a1), (2, .int a2)] [] σ (m_price N σ a1 a2) := by
  unfold m_price
  refine g_aload_n C 0 dX11_price_0 rfl rfl ?_
  refine g_iconst C 0 dX11_price_1 (by decide) ?_
  refine mp0 C dX11_price_2 ?_
  refine g_iload_n C 1 dX11_price_5 rfl rfl ?_
  refine g_if_lt C 25 dX11_price_6 (by decide) ?_ ?_
  · refine g_iconst C 0 dX11_price_25 (by decide) ?_
    exact g_zret C rfl dX11_price_26
  · refine g_iload_n C 1 dX11_price_9 rfl rfl ?_
    refine g_iconst C 3 dX11_price_10 (by decide) ?_
    refine g_icmp_gt C 25 dX11_price_11 (by decide) ?_ ?_
    · refine g_iconst C 0 dX11_price_25 (by decide) ?_
      exact g_zret C rfl dX11_price_26
    · refine g_iload_n C 2 dX11_price_14 rfl rfl ?_
      refine g_iconst C 1 dX11_price_15 (by decide) ?_
      refine g_icmp_lt C 25 dX11_price_16 (by decide) ?_ ?_
      · refine g_iconst C 0 dX11_price_25 (by decide) ?_
        exact g_zret C rfl dX11_price_26
      · refine g_iload_n C 2 dX11_price_19 rfl rfl ?_
        refine g_bipush C 99 dX11_price_20 (by decide) ?_
        refine g_icmp_le C 27 dX11_price_22 (by decide) ?_ ?_
        · refine g_aload_n C 0 dX11_price_27 rfl rfl ?_
          refine mg61 C dX11_price_28 ?_
          refine g_iload_n C 1 dX11_price_31 rfl rfl ?_
          refine g_iload_n C 2 dX11_price_32 rfl rfl ?_
          refine mw61 C dX11_price_33 ?_
          refine g_iconst C 1 dX11_price_34 (by decide) ?_
          exact g_zret C rfl dX11_price_35
        · refine g_iconst C 0 dX11_price_25 (by decide) ?_
          exact g_zret C rfl dX11_price_26
theorem c_m_price {Y : Yx} {ad : Nat → Nat} {N : Nat} {σ : St} {a1 : Int32} {a2 : Int32} {r : Int32} {σ' : St} (h : m_price N σ a1 a2 = some (r, σ')) : Con Y scM ad yX11_price cX11_price 3 (some .boolean) 0 0 [.ref (ad 0), .int a1, .int a2] σ (outI r) σ' := con_of (by decide) rfl (Nat.le_of_ble_eq_true rfl) rfl (fun X hX C => s_m_price C N σ a1 a2) h

def m_guards_30 (N : Nat) (rec4 : St → Int32 → Int32 → Option (Int32 × St)) (σ : St) (x2 : Int32) (t0 : Int32) (t1 : Int32) : Option (Int32 × St) :=
  rec4 σ (t0 + t1) (x2 + 1)
def m_guards_4_b (N : Nat) (rec4 : St → Int32 → Int32 → Option (Int32 × St)) (σ : St) (x1 : Int32) (x2 : Int32) : Option (Int32 × St) :=
  gd (ib 0 2) ((if (gA σ 26 ((0 : Int32).toNatClampNeg)) ≤ x2 then some (x1, σ) else bd (m_useFact N σ x2) (fun r1 σ2 => (if (r1 &&& 1) = 0 then m_guards_30 N rec4 σ2 x2 x1 0 else m_guards_30 N rec4 σ2 x2 x1 1))))
def m_guards_4 (N : Nat) : Nat → St → Int32 → Int32 → Option (Int32 × St)
  | 0 => fun _ _ _ => none
  | n + 1 => fun σ x1 x2 => m_guards_4_b N (m_guards_4 N n) σ x1 x2
def m_guards (N : Nat) (σ : St) : Option (Int32 × St) :=
  m_guards_4 N N σ 0 0
set_option maxHeartbeats 4000000 in
set_option maxRecDepth 100000 in
theorem s_m_guards_30 {X : Cx} {ad : Nat → Nat} (C : Ok X cX11_guards RX11 3 (some .int) 2 44) (N : Nat) {rec4 : St → Int32 → Int32 → Option (Int32 × St)} (hrec4 : ∀ (σ : St) (x1 : Int32) (x2 : Int32), Sim X scM ad 3 outI 4 [(0, .ref (ad 0)), (1, .int x1), (2, .int x2)] [] σ (rec4 σ x1 x2)) (σ : St) (x2 : Int32) (t0 : Int32) (t1 : Int32) : Sim X scM ad 3 outI 30 [(0, .ref (ad 0)), (2, .int x2)] [.int t1, .int t0] σ (m_guards_30 N rec4 σ x2 t0 t1) := by
  unfold m_guards_30
  refine g_iadd C dX11_guards_30 ?_
  refine g_istore_n C [(1, .int (t0 + t1)), (0, .ref (ad 0)), (2, .int x2)] dX11_guards_31 rfl (by decide) rfl ?_
  refine g_iinc C (x2 + 1) 2 [(2, .int (x2 + 1)), (1, .int (t0 + t1)), (0, .ref (ad 0))] dX11_guards_32 rfl rfl (by decide) rfl ?_
  refine g_goto C 4 dX11_guards_35 (by decide) ?_
  exact g_sub [2, 1, 0] rfl (hrec4 σ (t0 + t1) (x2 + 1))
set_option maxHeartbeats 4000000 in
set_option maxRecDepth 100000 in
theorem s_m_guards_4_b {X : Cx} {ad : Nat → Nat} (C : Ok X cX11_guards RX11 3 (some .int) 2 44) (N : Nat) {rec4 : St → Int32 → Int32 → Option (Int32 × St)} (hrec4 : ∀ (σ : St) (x1 : Int32) (x2 : Int32), Sim X scM ad 3 outI 4 [(0, .ref (ad 0)), (1, .int x1), (2, .int x2)] [] σ (rec4 σ x1 x2)) (σ : St) (x1 : Int32) (x2 : Int32) : Sim X scM ad 3 outI 4 [(0, .ref (ad 0)), (1, .int x1), (2, .int x2)] [] σ (m_guards_4_b N rec4 σ x1 x2) := by
  unfold m_guards_4_b
  refine g_iload_n C 2 dX11_guards_4 rfl rfl ?_
  refine g_aload_n C 0 dX11_guards_5 rfl rfl ?_
  refine mg26 C dX11_guards_6 ?_
  refine g_iconst C 0 dX11_guards_9 (by decide) ?_
  refine mr26 C (v := gA σ 26 ((0 : Int32).toNatClampNeg)) dX11_guards_10 rfl ?_
  refine g_icmp_ge C 38 dX11_guards_11 (by decide) ?_ ?_
  · refine g_iload_n C 1 dX11_guards_38 rfl rfl ?_
    exact g_iret C dX11_guards_39
  · refine g_iload_n C 1 dX11_guards_14 rfl rfl ?_
    refine g_aload_n C 0 dX11_guards_15 rfl rfl ?_
    refine g_iload_n C 2 dX11_guards_16 rfl rfl ?_
    refine v_m_useFact C ⟨by decide, by decide⟩ (Nat.le_of_ble_eq_true rfl) dX11_guards_17 (fun r1 σ2 _ => ?_)
    refine g_iconst C 1 dX11_guards_20 (by decide) ?_
    refine g_iand C dX11_guards_21 ?_
    refine g_if_eq C 29 dX11_guards_22 (by decide) ?_ ?_
    · refine g_iconst C 0 dX11_guards_29 (by decide) ?_
      exact g_sub [0, 2] rfl (s_m_guards_30 C N hrec4 σ2 x2 x1 0)
    · refine g_iconst C 1 dX11_guards_25 (by decide) ?_
      refine g_goto C 30 dX11_guards_26 (by decide) ?_
      exact g_sub [0, 2] rfl (s_m_guards_30 C N hrec4 σ2 x2 x1 1)
set_option maxHeartbeats 4000000 in
set_option maxRecDepth 100000 in
theorem s_m_guards_4 {X : Cx} {ad : Nat → Nat} (C : Ok X cX11_guards RX11 3 (some .int) 2 44) (N : Nat) : ∀ (n : Nat) (σ : St) (x1 : Int32) (x2 : Int32), Sim X scM ad 3 outI 4 [(0, .ref (ad 0)), (1, .int x1), (2, .int x2)] [] σ (m_guards_4 N n σ x1 x2) := by
  intro n
  induction n with
  | zero => intro σ x1 x2; exact g_none
  | succ n ih => intro σ x1 x2; exact s_m_guards_4_b C N ih σ x1 x2
set_option maxHeartbeats 4000000 in
set_option maxRecDepth 100000 in
theorem s_m_guards {X : Cx} {ad : Nat → Nat} (C : Ok X cX11_guards RX11 3 (some .int) 2 44) (N : Nat) (σ : St) : Sim X scM ad 3 outI 0 [(0, .ref (ad 0))] [] σ (m_guards N σ) := by
  unfold m_guards
  refine g_iconst C 0 dX11_guards_0 (by decide) ?_
  refine g_istore_n C [(1, .int 0), (0, .ref (ad 0))] dX11_guards_1 rfl (by decide) rfl ?_
  refine g_iconst C 0 dX11_guards_2 (by decide) ?_
  refine g_istore_n C [(2, .int 0), (1, .int 0), (0, .ref (ad 0))] dX11_guards_3 rfl (by decide) rfl ?_
  exact g_sub [2, 1, 0] rfl (s_m_guards_4 C N N σ 0 0)
theorem c_m_guards {Y : Yx} {ad : Nat → Nat} {N : Nat} {σ : St} {r : Int32} {σ' : St} (h : m_guards N σ = some (r, σ')) : Con Y scM ad yX11_guards cX11_guards 3 (some .int) 2 44 [.ref (ad 0)] σ (outI r) σ' := con_of (by decide) rfl (Nat.le_of_ble_eq_true rfl) rfl (fun X hX C => s_m_guards C N σ) h
set_option maxRecDepth 20000 in
theorem v_m_guards {X : Cx} {cc : ByteArray} {nL : Nat} {ret : Option FieldType} {fr lo : Nat} {ad : Nat → Nat} {ρ : Type} {out : ρ → Option Value} {pc : Nat} {lv : List (Nat × Value)} {rest : List Value} {σ : St} {N : Nat} {K : Int32 → St → Option (ρ × St)} (C : Ok X cc RX11 nL ret fr lo) (hR : 2 + 1 ≤ fr ∧ 8 + (3 + 11) + 44 ≤ lo) (hcat : (rest.map fun v => v.category).sum ≤ 8) (hdg : decode cc pc = .ok (.invokevirtual 384, 3)) (k : ∀ (r : Int32) (σ' : St), m_guards N σ = some (r, σ') → Sim X scM ad nL out (pc + 3) lv (.int r :: rest) σ' (K r σ')) : Sim X scM ad nL out pc lv (.ref (ad 0) :: rest) σ (bd (m_guards N σ) K) := g_callV C (out1 := outI) (y := yX11_guards) (n := 0) ⟨gw_1553, gw_1555, gw_105, gw_117, gw_1556⟩ (by decide +kernel) hR (o := 0) (ci := 10) (q9 := (RX11, TX11, 68)) imM0 rfl rfl rfl (fun r σ' h => c_m_guards h) rfl rfl hcat hdg k

def m_kindOf (N : Nat) (σ : St) (a1 : Int32) : Option (Int32 × St) :=
  (if 32 ≤ a1 then (if 40 ≤ a1 then some (2, σ) else some (1, σ)) else some (0, σ))
set_option maxHeartbeats 4000000 in
set_option maxRecDepth 100000 in
theorem s_m_kindOf {X : Cx} {ad : Nat → Nat} (C : Ok X cX11_kindOf RX11 1 (some .int) 0 0) (N : Nat) (σ : St) (a1 : Int32) : Sim X scM ad 1 outI 0 [(0, .int a1)] [] σ (m_kindOf N σ a1) := by
  unfold m_kindOf
  refine g_iload_n C 0 dX11_kindOf_0 rfl rfl ?_
  refine g_bipush C 32 dX11_kindOf_1 (by decide) ?_
  refine g_icmp_ge C 10 dX11_kindOf_3 (by decide) ?_ ?_
  · refine g_iload_n C 0 dX11_kindOf_10 rfl rfl ?_
    refine g_bipush C 40 dX11_kindOf_11 (by decide) ?_
    refine g_icmp_ge C 20 dX11_kindOf_13 (by decide) ?_ ?_
    · refine g_iconst C 2 dX11_kindOf_20 (by decide) ?_
      exact g_iret C dX11_kindOf_21
    · refine g_iconst C 1 dX11_kindOf_16 (by decide) ?_
      refine g_goto C 21 dX11_kindOf_17 (by decide) ?_
      exact g_iret C dX11_kindOf_21
  · refine g_iconst C 0 dX11_kindOf_6 (by decide) ?_
    refine g_goto C 21 dX11_kindOf_7 (by decide) ?_
    exact g_iret C dX11_kindOf_21
theorem c_m_kindOf {Y : Yx} {ad : Nat → Nat} {N : Nat} {σ : St} {a1 : Int32} {r : Int32} {σ' : St} (h : m_kindOf N σ a1 = some (r, σ')) : Con Y scM ad yX11_kindOf cX11_kindOf 1 (some .int) 0 0 [.int a1] σ (outI r) σ' := con_of (by decide) rfl (Nat.le_of_ble_eq_true rfl) rfl (fun X hX C => s_m_kindOf C N σ a1) h
set_option maxRecDepth 20000 in
theorem v_m_kindOf {X : Cx} {cc : ByteArray} {nL : Nat} {ret : Option FieldType} {fr lo : Nat} {ad : Nat → Nat} {ρ : Type} {out : ρ → Option Value} {pc : Nat} {lv : List (Nat × Value)} {rest : List Value} {σ : St} {N : Nat} {K : Int32 → St → Option (ρ × St)} {a1 : Int32} (C : Ok X cc RX11 nL ret fr lo) (hR : 0 + 1 ≤ fr ∧ 8 + (1 + 11) + 0 ≤ lo) (hcat : (rest.map fun v => v.category).sum ≤ 8) (hdg : decode cc pc = .ok (.invokestatic 381, 3)) (k : ∀ (r : Int32) (σ' : St), m_kindOf N σ a1 = some (r, σ') → Sim X scM ad nL out (pc + 3) lv (.int r :: rest) σ' (K r σ')) : Sim X scM ad nL out pc lv (.int a1 :: rest) σ (bd (m_kindOf N σ a1) K) := g_callS C (out1 := outI) (y := yX11_kindOf) (n := 1) ⟨gw_1550, gw_1551, gw_117, gw_1552⟩ (by decide +kernel) hR (fun r σ' h => c_m_kindOf h) rfl rfl hcat hdg k

def m_mend_304 (N : Nat) (rec260 : St → Int32 → Int32 → Int32 → Option (Int32 × St)) (σ : St) (x1 : Int32) (x2 : Int32) (x3 : Int32) : Option (Int32 × St) :=
  rec260 σ x1 x2 (x3 + 1)
def m_mend_260_b (N : Nat) (rec260 : St → Int32 → Int32 → Int32 → Option (Int32 × St)) (σ : St) (x1 : Int32) (x2 : Int32) (x3 : Int32) : Option (Int32 × St) :=
  (if (gI σ 63) ≤ x3 then some (x1, (sI σ 67 1)) else (if ((x2 >>> (x3 &&& 31)) &&& 1) = 0 then m_mend_304 N rec260 σ x1 x2 x3 else gd (ib x3 10) (gd (ib (gI σ 64) 10) (m_mend_304 N rec260 (sI (sA σ 66 ((gI σ 64).toNatClampNeg) (gA σ 62 x3.toNatClampNeg)) 64 ((gI σ 64) + 1)) x1 x2 x3))))
def m_mend_260 (N : Nat) : Nat → St → Int32 → Int32 → Int32 → Option (Int32 × St)
  | 0 => fun _ _ _ _ => none
  | n + 1 => fun σ x1 x2 x3 => m_mend_260_b N (m_mend_260 N n) σ x1 x2 x3
def m_mend_253 (N : Nat) (σ : St) (x1 : Int32) (x2 : Int32) : Option (Int32 × St) :=
  m_mend_260 N N (sI σ 64 0) x1 x2 0
def m_mend_247 (N : Nat) (rec106 : St → Int32 → Int32 → Int32 → Option (Int32 × St)) (σ : St) (x1 : Int32) (x2 : Int32) (x3 : Int32) : Option (Int32 × St) :=
  rec106 σ x1 x2 (x3 + 1)
def m_mend_234 (N : Nat) (rec106 : St → Int32 → Int32 → Int32 → Option (Int32 × St)) (σ : St) (x3 : Int32) (x4 : Int32) : Option (Int32 × St) :=
  bd (m_guards N σ) (fun r11 σ12 => m_mend_247 N rec106 (sI σ12 65 r11) x4 x3 x3)
def m_mend_200 (N : Nat) (rec106 : St → Int32 → Int32 → Int32 → Option (Int32 × St)) (σ : St) (x1 : Int32) (x2 : Int32) (x3 : Int32) (x4 : Int32) : Option (Int32 × St) :=
  bd (m_reckons N σ) (fun _ σ8 => gd (ib 3 4) (bd (m_guards N σ8) (fun r9 σ10 => (if x1 = (-1) then m_mend_234 N rec106 σ10 x3 (x4 + ((gA σ8 61 ((3 : Int32).toNatClampNeg)) * r9)) else (if (x4 + ((gA σ8 61 ((3 : Int32).toNatClampNeg)) * r9)) < x1 then m_mend_234 N rec106 σ10 x3 (x4 + ((gA σ8 61 ((3 : Int32).toNatClampNeg)) * r9)) else m_mend_247 N rec106 σ10 x1 x2 x3)))))
def m_mend_186 (N : Nat) (rec106 : St → Int32 → Int32 → Int32 → Option (Int32 × St)) (σ : St) (x1 : Int32) (x2 : Int32) (x3 : Int32) (x4 : Int32) : Option (Int32 × St) :=
  (if x1 = (-1) then m_mend_200 N rec106 σ x1 x2 x3 x4 else (if x4 < x1 then m_mend_200 N rec106 σ x1 x2 x3 x4 else m_mend_247 N rec106 σ x1 x2 x3))
def m_mend_180 (N : Nat) (rec106 : St → Int32 → Int32 → Int32 → Option (Int32 × St)) (rec126 : St → Int32 → Int32 → Int32 → Int32 → Int32 → Option (Int32 × St)) (σ : St) (x1 : Int32) (x2 : Int32) (x3 : Int32) (x4 : Int32) (x5 : Int32) : Option (Int32 × St) :=
  rec126 σ x1 x2 x3 x4 (x5 + 1)
def m_mend_126_b (N : Nat) (rec106 : St → Int32 → Int32 → Int32 → Option (Int32 × St)) (rec126 : St → Int32 → Int32 → Int32 → Int32 → Int32 → Option (Int32 × St)) (σ : St) (x1 : Int32) (x2 : Int32) (x3 : Int32) (x4 : Int32) (x5 : Int32) : Option (Int32 × St) :=
  (if (gI σ 63) ≤ x5 then m_mend_186 N rec106 σ x1 x2 x3 x4 else (if ((x3 >>> (x5 &&& 31)) &&& 1) = 0 then m_mend_180 N rec106 rec126 σ x1 x2 x3 x4 x5 else gd (ib x5 10) (gd (ib (gA σ 62 x5.toNatClampNeg) 42) (gd (ib x5 10) (bd (m_kindOf N (sA σ 43 ((gA σ 62 x5.toNatClampNeg).toNatClampNeg) (vp_nar .boolean 1)) (gA σ 62 x5.toNatClampNeg)) (fun r13 σ14 => gd (ib r13 4) (m_mend_180 N rec106 rec126 σ14 x1 x2 x3 (x4 + (gA σ14 61 r13.toNatClampNeg)) x5)))))))
def m_mend_126 (N : Nat) (rec106 : St → Int32 → Int32 → Int32 → Option (Int32 × St)) : Nat → St → Int32 → Int32 → Int32 → Int32 → Int32 → Option (Int32 × St)
  | 0 => fun _ _ _ _ _ _ => none
  | n + 1 => fun σ x1 x2 x3 x4 x5 => m_mend_126_b N rec106 (m_mend_126 N rec106 n) σ x1 x2 x3 x4 x5
def m_mend_106_b (N : Nat) (rec106 : St → Int32 → Int32 → Int32 → Option (Int32 × St)) (σ : St) (x1 : Int32) (x2 : Int32) (x3 : Int32) : Option (Int32 × St) :=
  (if ((1 : Int32) <<< ((gI σ 63) &&& 31)) ≤ x3 then m_mend_253 N σ x1 x2 else bd (m_frees N σ) (fun _ σ6 => m_mend_126 N rec106 N σ6 x1 x2 x3 0 0))
def m_mend_106 (N : Nat) : Nat → St → Int32 → Int32 → Int32 → Option (Int32 × St)
  | 0 => fun _ _ _ _ => none
  | n + 1 => fun σ x1 x2 x3 => m_mend_106_b N (m_mend_106 N n) σ x1 x2 x3
def m_mend_100 (N : Nat) (σ : St) : Option (Int32 × St) :=
  m_mend_106 N N σ (-1) 0 0
def m_mend_94 (N : Nat) (rec30 : St → Int32 → Option (Int32 × St)) (σ : St) (x1 : Int32) : Option (Int32 × St) :=
  rec30 σ (x1 + 1)
def m_mend_74 (N : Nat) (rec30 : St → Int32 → Option (Int32 × St)) (σ : St) (x1 : Int32) : Option (Int32 × St) :=
  gd (ib (gI σ 63) 10) (m_mend_94 N rec30 (sI (sA σ 62 ((gI σ 63).toNatClampNeg) x1) 63 ((gI σ 63) + 1)) x1)
def m_mend_30_b (N : Nat) (rec30 : St → Int32 → Option (Int32 × St)) (σ : St) (x1 : Int32) : Option (Int32 × St) :=
  (if 42 ≤ x1 then m_mend_100 N σ else (if 10 ≤ (gI σ 63) then m_mend_100 N σ else gd (ib x1 42) ((if (gA σ 42 x1.toNatClampNeg) = 3 then (if 32 ≤ x1 then m_mend_74 N rec30 σ x1 else (if (x1 / 4) = (gI σ 39) then m_mend_94 N rec30 σ x1 else m_mend_74 N rec30 σ x1)) else m_mend_94 N rec30 σ x1))))
def m_mend_30 (N : Nat) : Nat → St → Int32 → Option (Int32 × St)
  | 0 => fun _ _ => none
  | n + 1 => fun σ x1 => m_mend_30_b N (m_mend_30 N n) σ x1
def m_mend (N : Nat) (σ : St) : Option (Int32 × St) :=
  (if (gI σ 39) = (-1) then some ((-1), (sI σ 0 0)) else bd (m_frees N (sI σ 0 0)) (fun _ σ2 => bd (m_reckons N σ2) (fun _ σ4 => m_mend_30 N N (sI σ4 63 0) 0)))
set_option maxHeartbeats 4000000 in
set_option maxRecDepth 100000 in
theorem s_m_mend_304 {X : Cx} {ad : Nat → Nat} (C : Ok X cX11_mend RX11 6 (some .int) 5 119) (N : Nat) {rec260 : St → Int32 → Int32 → Int32 → Option (Int32 × St)} (hrec260 : ∀ (σ : St) (x1 : Int32) (x2 : Int32) (x3 : Int32), Sim X scM ad 6 outI 260 [(0, .ref (ad 0)), (1, .int x1), (2, .int x2), (3, .int x3)] [] σ (rec260 σ x1 x2 x3)) (σ : St) (x1 : Int32) (x2 : Int32) (x3 : Int32) : Sim X scM ad 6 outI 304 [(0, .ref (ad 0)), (1, .int x1), (2, .int x2), (3, .int x3)] [] σ (m_mend_304 N rec260 σ x1 x2 x3) := by
  unfold m_mend_304
  refine g_iinc C (x3 + 1) 3 [(3, .int (x3 + 1)), (0, .ref (ad 0)), (1, .int x1), (2, .int x2)] dX11_mend_304 rfl rfl (by decide) rfl ?_
  refine g_goto C 260 dX11_mend_307 (by decide) ?_
  exact g_sub [1, 2, 3, 0] rfl (hrec260 σ x1 x2 (x3 + 1))
set_option maxHeartbeats 4000000 in
set_option maxRecDepth 100000 in
theorem s_m_mend_260_b {X : Cx} {ad : Nat → Nat} (C : Ok X cX11_mend RX11 6 (some .int) 5 119) (N : Nat) {rec260 : St → Int32 → Int32 → Int32 → Option (Int32 × St)} (hrec260 : ∀ (σ : St) (x1 : Int32) (x2 : Int32) (x3 : Int32), Sim X scM ad 6 outI 260 [(0, .ref (ad 0)), (1, .int x1), (2, .int x2), (3, .int x3)] [] σ (rec260 σ x1 x2 x3)) (σ : St) (x1 : Int32) (x2 : Int32) (x3 : Int32) : Sim X scM ad 6 outI 260 [(0, .ref (ad 0)), (1, .int x1), (2, .int x2), (3, .int x3)] [] σ (m_mend_260_b N rec260 σ x1 x2 x3) := by
  unfold m_mend_260_b
  refine g_iload_n C 3 dX11_mend_260 rfl rfl ?_
  refine g_aload_n C 0 dX11_mend_261 rfl rfl ?_
  refine mg63 C (v := gI σ 63) dX11_mend_262 rfl ?_
  refine g_icmp_ge C 310 dX11_mend_265 (by decide) ?_ ?_
  · refine g_aload_n C 0 dX11_mend_310 rfl rfl ?_
    refine g_iconst C 1 dX11_mend_311 (by decide) ?_
    refine mp67 C rfl dX11_mend_312 ?_
    refine g_iload_n C 1 dX11_mend_315 rfl rfl ?_
    exact g_iret C dX11_mend_316
  · refine g_iload_n C 2 dX11_mend_268 rfl rfl ?_
    refine g_iload_n C 3 dX11_mend_269 rfl rfl ?_
    refine g_ishr C dX11_mend_270 ?_
    refine g_iconst C 1 dX11_mend_271 (by decide) ?_
    refine g_iand C dX11_mend_272 ?_
    refine g_if_ne C 279 dX11_mend_273 (by decide) ?_ ?_
    · refine g_aload_n C 0 dX11_mend_279 rfl rfl ?_
      refine mg66 C dX11_mend_280 ?_
      refine g_aload_n C 0 dX11_mend_283 rfl rfl ?_
      refine mg64 C (v := gI σ 64) dX11_mend_284 rfl ?_
      refine g_aload_n C 0 dX11_mend_287 rfl rfl ?_
      refine mg62 C dX11_mend_288 ?_
      refine g_iload_n C 3 dX11_mend_291 rfl rfl ?_
      refine mr62 C (v := gA σ 62 x3.toNatClampNeg) dX11_mend_292 rfl ?_
      refine mw66 C dX11_mend_293 ?_
      refine g_aload_n C 0 dX11_mend_294 rfl rfl ?_
      refine g_dup C dX11_mend_295 rfl ?_
      refine mg64 C (v := gI σ 64) dX11_mend_296 rfl ?_
      refine g_iconst C 1 dX11_mend_299 (by decide) ?_
      refine g_iadd C dX11_mend_300 ?_
      refine mp64 C dX11_mend_301 ?_
      exact g_sub [0, 1, 2, 3] rfl (s_m_mend_304 C N hrec260 (sI (sA σ 66 ((gI σ 64).toNatClampNeg) (gA σ 62 x3.toNatClampNeg)) 64 ((gI σ 64) + 1)) x1 x2 x3)
    · refine g_goto C 304 dX11_mend_276 (by decide) ?_
      exact g_sub [0, 1, 2, 3] rfl (s_m_mend_304 C N hrec260 σ x1 x2 x3)
set_option maxHeartbeats 4000000 in
set_option maxRecDepth 100000 in
theorem s_m_mend_260 {X : Cx} {ad : Nat → Nat} (C : Ok X cX11_mend RX11 6 (some .int) 5 119) (N : Nat) : ∀ (n : Nat) (σ : St) (x1 : Int32) (x2 : Int32) (x3 : Int32), Sim X scM ad 6 outI 260 [(0, .ref (ad 0)), (1, .int x1), (2, .int x2), (3, .int x3)] [] σ (m_mend_260 N n σ x1 x2 x3) := by
  intro n
  induction n with
  | zero => intro σ x1 x2 x3; exact g_none
  | succ n ih => intro σ x1 x2 x3; exact s_m_mend_260_b C N ih σ x1 x2 x3
set_option maxHeartbeats 4000000 in
set_option maxRecDepth 100000 in
theorem s_m_mend_253 {X : Cx} {ad : Nat → Nat} (C : Ok X cX11_mend RX11 6 (some .int) 5 119) (N : Nat) (σ : St) (x1 : Int32) (x2 : Int32) : Sim X scM ad 6 outI 253 [(0, .ref (ad 0)), (1, .int x1), (2, .int x2)] [] σ (m_mend_253 N σ x1 x2) := by
  unfold m_mend_253
  refine g_aload_n C 0 dX11_mend_253 rfl rfl ?_
  refine g_iconst C 0 dX11_mend_254 (by decide) ?_
  refine mp64 C dX11_mend_255 ?_
  refine g_iconst C 0 dX11_mend_258 (by decide) ?_
  refine g_istore_n C [(3, .int 0), (0, .ref (ad 0)), (1, .int x1), (2, .int x2)] dX11_mend_259 rfl (by decide) rfl ?_
  exact g_sub [1, 2, 3, 0] rfl (s_m_mend_260 C N N (sI σ 64 0) x1 x2 0)
set_option maxHeartbeats 4000000 in
set_option maxRecDepth 100000 in
theorem s_m_mend_247 {X : Cx} {ad : Nat → Nat} (C : Ok X cX11_mend RX11 6 (some .int) 5 119) (N : Nat) {rec106 : St → Int32 → Int32 → Int32 → Option (Int32 × St)} (hrec106 : ∀ (σ : St) (x1 : Int32) (x2 : Int32) (x3 : Int32), Sim X scM ad 6 outI 106 [(0, .ref (ad 0)), (1, .int x1), (2, .int x2), (3, .int x3)] [] σ (rec106 σ x1 x2 x3)) (σ : St) (x1 : Int32) (x2 : Int32) (x3 : Int32) : Sim X scM ad 6 outI 247 [(0, .ref (ad 0)), (1, .int x1), (2, .int x2), (3, .int x3)] [] σ (m_mend_247 N rec106 σ x1 x2 x3) := by
  unfold m_mend_247
  refine g_iinc C (x3 + 1) 3 [(3, .int (x3 + 1)), (0, .ref (ad 0)), (1, .int x1), (2, .int x2)] dX11_mend_247 rfl rfl (by decide) rfl ?_
  refine g_goto C 106 dX11_mend_250 (by decide) ?_
  exact g_sub [1, 2, 3, 0] rfl (hrec106 σ x1 x2 (x3 + 1))
set_option maxHeartbeats 4000000 in
set_option maxRecDepth 100000 in
theorem s_m_mend_234 {X : Cx} {ad : Nat → Nat} (C : Ok X cX11_mend RX11 6 (some .int) 5 119) (N : Nat) {rec106 : St → Int32 → Int32 → Int32 → Option (Int32 × St)} (hrec106 : ∀ (σ : St) (x1 : Int32) (x2 : Int32) (x3 : Int32), Sim X scM ad 6 outI 106 [(0, .ref (ad 0)), (1, .int x1), (2, .int x2), (3, .int x3)] [] σ (rec106 σ x1 x2 x3)) (σ : St) (x3 : Int32) (x4 : Int32) : Sim X scM ad 6 outI 234 [(0, .ref (ad 0)), (3, .int x3), (4, .int x4)] [] σ (m_mend_234 N rec106 σ x3 x4) := by
  unfold m_mend_234
  refine g_iload C 2 dX11_mend_234 rfl ?_
  refine g_istore_n C [(1, .int x4), (0, .ref (ad 0)), (3, .int x3), (4, .int x4)] dX11_mend_236 rfl (by decide) rfl ?_
  refine g_iload_n C 2 dX11_mend_237 rfl rfl ?_
  refine g_istore_n C [(2, .int x3), (1, .int x4), (0, .ref (ad 0)), (3, .int x3), (4, .int x4)] dX11_mend_238 rfl (by decide) rfl ?_
  refine g_aload_n C 2 dX11_mend_239 rfl rfl ?_
  refine g_aload_n C 2 dX11_mend_240 rfl rfl ?_
  refine v_m_guards C ⟨by decide, by decide⟩ (Nat.le_of_ble_eq_true rfl) dX11_mend_241 (fun r11 σ12 _ => ?_)
  refine mp65 C dX11_mend_244 ?_
  exact g_sub [2, 1, 0, 3] rfl (s_m_mend_247 C N hrec106 (sI σ12 65 r11) x4 x3 x3)
set_option maxHeartbeats 4000000 in
set_option maxRecDepth 100000 in
theorem s_m_mend_200 {X : Cx} {ad : Nat → Nat} (C : Ok X cX11_mend RX11 6 (some .int) 5 119) (N : Nat) {rec106 : St → Int32 → Int32 → Int32 → Option (Int32 × St)} (hrec106 : ∀ (σ : St) (x1 : Int32) (x2 : Int32) (x3 : Int32), Sim X scM ad 6 outI 106 [(0, .ref (ad 0)), (1, .int x1), (2, .int x2), (3, .int x3)] [] σ (rec106 σ x1 x2 x3)) (σ : St) (x1 : Int32) (x2 : Int32) (x3 : Int32) (x4 : Int32) : Sim X scM ad 6 outI 200 [(0, .ref (ad 0)), (1, .int x1), (2, .int x2), (3, .int x3), (4, .int x4)] [] σ (m_mend_200 N rec106 σ x1 x2 x3 x4) := by
  unfold m_mend_200
  refine g_aload_n C 0 dX11_mend_200 rfl rfl ?_
  refine v_m_reckons C ⟨by decide, by decide⟩ (Nat.le_of_ble_eq_true rfl) dX11_mend_201 (fun r7 σ8 _ => ?_)
  refine g_iload C 4 dX11_mend_204 rfl ?_
  refine g_aload_n C 0 dX11_mend_206 rfl rfl ?_
  refine mg61 C dX11_mend_207 ?_
  refine g_iconst C 3 dX11_mend_210 (by decide) ?_
  refine mr61 C (v := gA σ8 61 ((3 : Int32).toNatClampNeg)) dX11_mend_211 rfl ?_
  refine g_aload_n C 0 dX11_mend_212 rfl rfl ?_
  refine v_m_guards C ⟨by decide, by decide⟩ (Nat.le_of_ble_eq_true rfl) dX11_mend_213 (fun r9 σ10 _ => ?_)
  refine g_imul C dX11_mend_216 ?_
  refine g_iadd C dX11_mend_217 ?_
  refine g_istore C [(4, .int (x4 + ((gA σ8 61 ((3 : Int32).toNatClampNeg)) * r9))), (0, .ref (ad 0)), (1, .int x1), (2, .int x2), (3, .int x3)] dX11_mend_218 (by decide) rfl ?_
  refine g_iload_n C 2 dX11_mend_220 rfl rfl ?_
  refine g_iconst C (-1) dX11_mend_221 (by decide) ?_
  refine g_icmp_eq C 234 dX11_mend_222 (by decide) ?_ ?_
  · exact g_sub [1, 4, 0] rfl (s_m_mend_234 C N hrec106 σ10 x3 (x4 + ((gA σ8 61 ((3 : Int32).toNatClampNeg)) * r9)))
  · refine g_iload C 0 dX11_mend_225 rfl ?_
    refine g_iload_n C 2 dX11_mend_227 rfl rfl ?_
    refine g_icmp_lt C 234 dX11_mend_228 (by decide) ?_ ?_
    · exact g_sub [1, 4, 0] rfl (s_m_mend_234 C N hrec106 σ10 x3 (x4 + ((gA σ8 61 ((3 : Int32).toNatClampNeg)) * r9)))
    · refine g_goto C 247 dX11_mend_231 (by decide) ?_
      exact g_sub [1, 2, 3, 4] rfl (s_m_mend_247 C N hrec106 σ10 x1 x2 x3)
set_option maxHeartbeats 4000000 in
set_option maxRecDepth 100000 in
theorem s_m_mend_186 {X : Cx} {ad : Nat → Nat} (C : Ok X cX11_mend RX11 6 (some .int) 5 119) (N : Nat) {rec106 : St → Int32 → Int32 → Int32 → Option (Int32 × St)} (hrec106 : ∀ (σ : St) (x1 : Int32) (x2 : Int32) (x3 : Int32), Sim X scM ad 6 outI 106 [(0, .ref (ad 0)), (1, .int x1), (2, .int x2), (3, .int x3)] [] σ (rec106 σ x1 x2 x3)) (σ : St) (x1 : Int32) (x2 : Int32) (x3 : Int32) (x4 : Int32) : Sim X scM ad 6 outI 186 [(0, .ref (ad 0)), (1, .int x1), (2, .int x2), (3, .int x3), (4, .int x4)] [] σ (m_mend_186 N rec106 σ x1 x2 x3 x4) := by
  unfold m_mend_186
  refine g_iload_n C 1 dX11_mend_186 rfl rfl ?_
  refine g_iconst C (-1) dX11_mend_187 (by decide) ?_
  refine g_icmp_eq C 200 dX11_mend_188 (by decide) ?_ ?_
  · exact g_sub [0, 1, 2, 3, 4] rfl (s_m_mend_200 C N hrec106 σ x1 x2 x3 x4)
  · refine g_iload C 4 dX11_mend_191 rfl ?_
    refine g_iload_n C 1 dX11_mend_193 rfl rfl ?_
    refine g_icmp_lt C 200 dX11_mend_194 (by decide) ?_ ?_
    · exact g_sub [0, 1, 2, 3, 4] rfl (s_m_mend_200 C N hrec106 σ x1 x2 x3 x4)
    · refine g_goto C 247 dX11_mend_197 (by decide) ?_
      exact g_sub [0, 1, 2, 3] rfl (s_m_mend_247 C N hrec106 σ x1 x2 x3)
set_option maxHeartbeats 4000000 in
set_option maxRecDepth 100000 in
theorem s_m_mend_180 {X : Cx} {ad : Nat → Nat} (C : Ok X cX11_mend RX11 6 (some .int) 5 119) (N : Nat) {rec106 : St → Int32 → Int32 → Int32 → Option (Int32 × St)} (hrec106 : ∀ (σ : St) (x1 : Int32) (x2 : Int32) (x3 : Int32), Sim X scM ad 6 outI 106 [(0, .ref (ad 0)), (1, .int x1), (2, .int x2), (3, .int x3)] [] σ (rec106 σ x1 x2 x3)) {rec126 : St → Int32 → Int32 → Int32 → Int32 → Int32 → Option (Int32 × St)} (hrec126 : ∀ (σ : St) (x1 : Int32) (x2 : Int32) (x3 : Int32) (x4 : Int32) (x5 : Int32), Sim X scM ad 6 outI 126 [(0, .ref (ad 0)), (1, .int x1), (2, .int x2), (3, .int x3), (4, .int x4), (5, .int x5)] [] σ (rec126 σ x1 x2 x3 x4 x5)) (σ : St) (x1 : Int32) (x2 : Int32) (x3 : Int32) (x4 : Int32) (x5 : Int32) : Sim X scM ad 6 outI 180 [(0, .ref (ad 0)), (1, .int x1), (2, .int x2), (3, .int x3), (4, .int x4), (5, .int x5)] [] σ (m_mend_180 N rec106 rec126 σ x1 x2 x3 x4 x5) := by
  unfold m_mend_180
  refine g_iinc C (x5 + 1) 5 [(5, .int (x5 + 1)), (0, .ref (ad 0)), (1, .int x1), (2, .int x2), (3, .int x3), (4, .int x4)] dX11_mend_180 rfl rfl (by decide) rfl ?_
  refine g_goto C 126 dX11_mend_183 (by decide) ?_
  exact g_sub [1, 2, 3, 4, 5, 0] rfl (hrec126 σ x1 x2 x3 x4 (x5 + 1))
set_option maxHeartbeats 4000000 in
set_option maxRecDepth 100000 in
theorem s_m_mend_126_b {X : Cx} {ad : Nat → Nat} (C : Ok X cX11_mend RX11 6 (some .int) 5 119) (N : Nat) {rec106 : St → Int32 → Int32 → Int32 → Option (Int32 × St)} (hrec106 : ∀ (σ : St) (x1 : Int32) (x2 : Int32) (x3 : Int32), Sim X scM ad 6 outI 106 [(0, .ref (ad 0)), (1, .int x1), (2, .int x2), (3, .int x3)] [] σ (rec106 σ x1 x2 x3)) {rec126 : St → Int32 → Int32 → Int32 → Int32 → Int32 → Option (Int32 × St)} (hrec126 : ∀ (σ : St) (x1 : Int32) (x2 : Int32) (x3 : Int32) (x4 : Int32) (x5 : Int32), Sim X scM ad 6 outI 126 [(0, .ref (ad 0)), (1, .int x1), (2, .int x2), (3, .int x3), (4, .int x4), (5, .int x5)] [] σ (rec126 σ x1 x2 x3 x4 x5)) (σ : St) (x1 : Int32) (x2 : Int32) (x3 : Int32) (x4 : Int32) (x5 : Int32) : Sim X scM ad 6 outI 126 [(0, .ref (ad 0)), (1, .int x1), (2, .int x2), (3, .int x3), (4, .int x4), (5, .int x5)] [] σ (m_mend_126_b N rec106 rec126 σ x1 x2 x3 x4 x5) := by
  unfold m_mend_126_b
  refine g_iload C 5 dX11_mend_126 rfl ?_
  refine g_aload_n C 0 dX11_mend_128 rfl rfl ?_
  refine mg63 C (v := gI σ 63) dX11_mend_129 rfl ?_
  refine g_icmp_ge C 186 dX11_mend_132 (by decide) ?_ ?_
  · exact g_sub [0, 1, 2, 3, 4] rfl (s_m_mend_186 C N hrec106 σ x1 x2 x3 x4)
  · refine g_iload_n C 3 dX11_mend_135 rfl rfl ?_
    refine g_iload C 5 dX11_mend_136 rfl ?_
    refine g_ishr C dX11_mend_138 ?_
    refine g_iconst C 1 dX11_mend_139 (by decide) ?_
    refine g_iand C dX11_mend_140 ?_
    refine g_if_ne C 147 dX11_mend_141 (by decide) ?_ ?_
    · refine g_aload_n C 0 dX11_mend_147 rfl rfl ?_
      refine mg43 C dX11_mend_148 ?_
      refine g_aload_n C 0 dX11_mend_151 rfl rfl ?_
      refine mg62 C dX11_mend_152 ?_
      refine g_iload C 5 dX11_mend_155 rfl ?_
      refine mr62 C (v := gA σ 62 x5.toNatClampNeg) dX11_mend_157 rfl ?_
      refine g_iconst C 1 dX11_mend_158 (by decide) ?_
      refine mw43 C dX11_mend_159 ?_
      refine g_iload C 4 dX11_mend_160 rfl ?_
      refine g_aload_n C 0 dX11_mend_162 rfl rfl ?_
      refine mg61 C dX11_mend_163 ?_
      refine g_aload_n C 0 dX11_mend_166 rfl rfl ?_
      refine mg62 C dX11_mend_167 ?_
      refine g_iload C 5 dX11_mend_170 rfl ?_
      refine mr62 C (v := gA σ 62 x5.toNatClampNeg) dX11_mend_172 rfl ?_
      refine v_m_kindOf C ⟨by decide, by decide⟩ (Nat.le_of_ble_eq_true rfl) dX11_mend_173 (fun r13 σ14 _ => ?_)
      refine mr61 C (v := gA σ14 61 r13.toNatClampNeg) dX11_mend_176 rfl ?_
      refine g_iadd C dX11_mend_177 ?_
      refine g_istore C [(4, .int (x4 + (gA σ14 61 r13.toNatClampNeg))), (0, .ref (ad 0)), (1, .int x1), (2, .int x2), (3, .int x3), (5, .int x5)] dX11_mend_178 (by decide) rfl ?_
      exact g_sub [1, 2, 3, 4, 0, 5] rfl (s_m_mend_180 C N hrec106 hrec126 σ14 x1 x2 x3 (x4 + (gA σ14 61 r13.toNatClampNeg)) x5)
    · refine g_goto C 180 dX11_mend_144 (by decide) ?_
      exact g_sub [0, 1, 2, 3, 4, 5] rfl (s_m_mend_180 C N hrec106 hrec126 σ x1 x2 x3 x4 x5)
set_option maxHeartbeats 4000000 in
set_option maxRecDepth 100000 in
theorem s_m_mend_126 {X : Cx} {ad : Nat → Nat} (C : Ok X cX11_mend RX11 6 (some .int) 5 119) (N : Nat) {rec106 : St → Int32 → Int32 → Int32 → Option (Int32 × St)} (hrec106 : ∀ (σ : St) (x1 : Int32) (x2 : Int32) (x3 : Int32), Sim X scM ad 6 outI 106 [(0, .ref (ad 0)), (1, .int x1), (2, .int x2), (3, .int x3)] [] σ (rec106 σ x1 x2 x3)) : ∀ (n : Nat) (σ : St) (x1 : Int32) (x2 : Int32) (x3 : Int32) (x4 : Int32) (x5 : Int32), Sim X scM ad 6 outI 126 [(0, .ref (ad 0)), (1, .int x1), (2, .int x2), (3, .int x3), (4, .int x4), (5, .int x5)] [] σ (m_mend_126 N rec106 n σ x1 x2 x3 x4 x5) := by
  intro n
  induction n with
  | zero => intro σ x1 x2 x3 x4 x5; exact g_none
  | succ n ih => intro σ x1 x2 x3 x4 x5; exact s_m_mend_126_b C N hrec106 ih σ x1 x2 x3 x4 x5
set_option maxHeartbeats 4000000 in
set_option maxRecDepth 100000 in
theorem s_m_mend_106_b {X : Cx} {ad : Nat → Nat} (C : Ok X cX11_mend RX11 6 (some .int) 5 119) (N : Nat) {rec106 : St → Int32 → Int32 → Int32 → Option (Int32 × St)} (hrec106 : ∀ (σ : St) (x1 : Int32) (x2 : Int32) (x3 : Int32), Sim X scM ad 6 outI 106 [(0, .ref (ad 0)), (1, .int x1), (2, .int x2), (3, .int x3)] [] σ (rec106 σ x1 x2 x3)) (σ : St) (x1 : Int32) (x2 : Int32) (x3 : Int32) : Sim X scM ad 6 outI 106 [(0, .ref (ad 0)), (1, .int x1), (2, .int x2), (3, .int x3)] [] σ (m_mend_106_b N rec106 σ x1 x2 x3) := by
  unfold m_mend_106_b
  refine g_iload_n C 3 dX11_mend_106 rfl rfl ?_
  refine g_iconst C 1 dX11_mend_107 (by decide) ?_
  refine g_aload_n C 0 dX11_mend_108 rfl rfl ?_
  refine mg63 C (v := gI σ 63) dX11_mend_109 rfl ?_
  refine g_ishl C dX11_mend_112 ?_
  refine g_icmp_ge C 253 dX11_mend_113 (by decide) ?_ ?_
  · exact g_sub [0, 1, 2] rfl (s_m_mend_253 C N σ x1 x2)
  · refine g_aload_n C 0 dX11_mend_116 rfl rfl ?_
    refine v_m_frees C ⟨by decide, by decide⟩ (Nat.le_of_ble_eq_true rfl) dX11_mend_117 (fun r5 σ6 _ => ?_)
    refine g_iconst C 0 dX11_mend_120 (by decide) ?_
    refine g_istore C [(4, .int 0), (0, .ref (ad 0)), (1, .int x1), (2, .int x2), (3, .int x3)] dX11_mend_121 (by decide) rfl ?_
    refine g_iconst C 0 dX11_mend_123 (by decide) ?_
    refine g_istore C [(5, .int 0), (4, .int 0), (0, .ref (ad 0)), (1, .int x1), (2, .int x2), (3, .int x3)] dX11_mend_124 (by decide) rfl ?_
    exact g_sub [2, 3, 4, 5, 1, 0] rfl (s_m_mend_126 C N hrec106 N σ6 x1 x2 x3 0 0)
set_option maxHeartbeats 4000000 in
set_option maxRecDepth 100000 in
theorem s_m_mend_106 {X : Cx} {ad : Nat → Nat} (C : Ok X cX11_mend RX11 6 (some .int) 5 119) (N : Nat) : ∀ (n : Nat) (σ : St) (x1 : Int32) (x2 : Int32) (x3 : Int32), Sim X scM ad 6 outI 106 [(0, .ref (ad 0)), (1, .int x1), (2, .int x2), (3, .int x3)] [] σ (m_mend_106 N n σ x1 x2 x3) := by
  intro n
  induction n with
  | zero => intro σ x1 x2 x3; exact g_none
  | succ n ih => intro σ x1 x2 x3; exact s_m_mend_106_b C N ih σ x1 x2 x3
set_option maxHeartbeats 4000000 in
set_option maxRecDepth 100000 in
theorem s_m_mend_100 {X : Cx} {ad : Nat → Nat} (C : Ok X cX11_mend RX11 6 (some .int) 5 119) (N : Nat) (σ : St) : Sim X scM ad 6 outI 100 [(0, .ref (ad 0))] [] σ (m_mend_100 N σ) := by
  unfold m_mend_100
  refine g_iconst C (-1) dX11_mend_100 (by decide) ?_
  refine g_istore_n C [(1, .int (-1)), (0, .ref (ad 0))] dX11_mend_101 rfl (by decide) rfl ?_
  refine g_iconst C 0 dX11_mend_102 (by decide) ?_
  refine g_istore_n C [(2, .int 0), (1, .int (-1)), (0, .ref (ad 0))] dX11_mend_103 rfl (by decide) rfl ?_
  refine g_iconst C 0 dX11_mend_104 (by decide) ?_
  refine g_istore_n C [(3, .int 0), (2, .int 0), (1, .int (-1)), (0, .ref (ad 0))] dX11_mend_105 rfl (by decide) rfl ?_
  exact g_sub [3, 2, 1, 0] rfl (s_m_mend_106 C N N σ (-1) 0 0)
set_option maxHeartbeats 4000000 in
set_option maxRecDepth 100000 in
theorem s_m_mend_94 {X : Cx} {ad : Nat → Nat} (C : Ok X cX11_mend RX11 6 (some .int) 5 119) (N : Nat) {rec30 : St → Int32 → Option (Int32 × St)} (hrec30 : ∀ (σ : St) (x1 : Int32), Sim X scM ad 6 outI 30 [(0, .ref (ad 0)), (1, .int x1)] [] σ (rec30 σ x1)) (σ : St) (x1 : Int32) : Sim X scM ad 6 outI 94 [(0, .ref (ad 0)), (1, .int x1)] [] σ (m_mend_94 N rec30 σ x1) := by
  unfold m_mend_94
  refine g_iinc C (x1 + 1) 1 [(1, .int (x1 + 1)), (0, .ref (ad 0))] dX11_mend_94 rfl rfl (by decide) rfl ?_
  refine g_goto C 30 dX11_mend_97 (by decide) ?_
  exact g_sub [1, 0] rfl (hrec30 σ (x1 + 1))
set_option maxHeartbeats 4000000 in
set_option maxRecDepth 100000 in
theorem s_m_mend_74 {X : Cx} {ad : Nat → Nat} (C : Ok X cX11_mend RX11 6 (some .int) 5 119) (N : Nat) {rec30 : St → Int32 → Option (Int32 × St)} (hrec30 : ∀ (σ : St) (x1 : Int32), Sim X scM ad 6 outI 30 [(0, .ref (ad 0)), (1, .int x1)] [] σ (rec30 σ x1)) (σ : St) (x1 : Int32) : Sim X scM ad 6 outI 74 [(0, .ref (ad 0)), (1, .int x1)] [] σ (m_mend_74 N rec30 σ x1) := by
  unfold m_mend_74
  refine g_aload_n C 0 dX11_mend_74 rfl rfl ?_
  refine mg62 C dX11_mend_75 ?_
  refine g_aload_n C 0 dX11_mend_78 rfl rfl ?_
  refine mg63 C (v := gI σ 63) dX11_mend_79 rfl ?_
  refine g_iload_n C 1 dX11_mend_82 rfl rfl ?_
  refine mw62 C dX11_mend_83 ?_
  refine g_aload_n C 0 dX11_mend_84 rfl rfl ?_
  refine g_dup C dX11_mend_85 rfl ?_
  refine mg63 C (v := gI σ 63) dX11_mend_86 rfl ?_
  refine g_iconst C 1 dX11_mend_89 (by decide) ?_
  refine g_iadd C dX11_mend_90 ?_
  refine mp63 C dX11_mend_91 ?_
  exact g_sub [0, 1] rfl (s_m_mend_94 C N hrec30 (sI (sA σ 62 ((gI σ 63).toNatClampNeg) x1) 63 ((gI σ 63) + 1)) x1)
set_option maxHeartbeats 4000000 in
set_option maxRecDepth 100000 in
theorem s_m_mend_30_b {X : Cx} {ad : Nat → Nat} (C : Ok X cX11_mend RX11 6 (some .int) 5 119) (N : Nat) {rec30 : St → Int32 → Option (Int32 × St)} (hrec30 : ∀ (σ : St) (x1 : Int32), Sim X scM ad 6 outI 30 [(0, .ref (ad 0)), (1, .int x1)] [] σ (rec30 σ x1)) (σ : St) (x1 : Int32) : Sim X scM ad 6 outI 30 [(0, .ref (ad 0)), (1, .int x1)] [] σ (m_mend_30_b N rec30 σ x1) := by
  unfold m_mend_30_b
  refine g_iload_n C 1 dX11_mend_30 rfl rfl ?_
  refine g_bipush C 42 dX11_mend_31 (by decide) ?_
  refine g_icmp_ge C 100 dX11_mend_33 (by decide) ?_ ?_
  · exact g_sub [0] rfl (s_m_mend_100 C N σ)
  · refine g_aload_n C 0 dX11_mend_36 rfl rfl ?_
    refine mg63 C (v := gI σ 63) dX11_mend_37 rfl ?_
    refine g_bipush C 10 dX11_mend_40 (by decide) ?_
    refine g_icmp_ge C 100 dX11_mend_42 (by decide) ?_ ?_
    · exact g_sub [0] rfl (s_m_mend_100 C N σ)
    · refine g_aload_n C 0 dX11_mend_45 rfl rfl ?_
      refine mg42 C dX11_mend_46 ?_
      refine g_iload_n C 1 dX11_mend_49 rfl rfl ?_
      refine mr42 C (v := gA σ 42 x1.toNatClampNeg) dX11_mend_50 rfl ?_
      refine g_iconst C 3 dX11_mend_51 (by decide) ?_
      refine g_icmp_ne C 94 dX11_mend_52 (by decide) ?_ ?_
      · exact g_sub [0, 1] rfl (s_m_mend_94 C N hrec30 σ x1)
      · refine g_iload_n C 1 dX11_mend_55 rfl rfl ?_
        refine g_bipush C 32 dX11_mend_56 (by decide) ?_
        refine g_icmp_ge C 74 dX11_mend_58 (by decide) ?_ ?_
        · exact g_sub [0, 1] rfl (s_m_mend_74 C N hrec30 σ x1)
        · refine g_iload_n C 1 dX11_mend_61 rfl rfl ?_
          refine g_iconst C 4 dX11_mend_62 (by decide) ?_
          refine g_idiv C dX11_mend_63 (by decide) ?_
          refine g_aload_n C 0 dX11_mend_64 rfl rfl ?_
          refine mg39 C (v := gI σ 39) dX11_mend_65 rfl ?_
          refine g_icmp_ne C 74 dX11_mend_68 (by decide) ?_ ?_
          · exact g_sub [0, 1] rfl (s_m_mend_74 C N hrec30 σ x1)
          · refine g_goto C 94 dX11_mend_71 (by decide) ?_
            exact g_sub [0, 1] rfl (s_m_mend_94 C N hrec30 σ x1)
set_option maxHeartbeats 4000000 in
set_option maxRecDepth 100000 in
theorem s_m_mend_30 {X : Cx} {ad : Nat → Nat} (C : Ok X cX11_mend RX11 6 (some .int) 5 119) (N : Nat) : ∀ (n : Nat) (σ : St) (x1 : Int32), Sim X scM ad 6 outI 30 [(0, .ref (ad 0)), (1, .int x1)] [] σ (m_mend_30 N n σ x1) := by
  intro n
  induction n with
  | zero => intro σ x1; exact g_none
  | succ n ih => intro σ x1; exact s_m_mend_30_b C N ih σ x1
set_option maxHeartbeats 4000000 in
set_option maxRecDepth 100000 in
theorem s_m_mend {X : Cx} {ad : Nat → Nat} (C : Ok X cX11_mend RX11 6 (some .int) 5 119) (N : Nat) (σ : St) : Sim X scM ad 6 outI 0 [(0, .ref (ad 0))] [] σ (m_mend N σ) := by
  unfold m_mend
  refine g_aload_n C 0 dX11_mend_0 rfl rfl ?_
  refine g_iconst C 0 dX11_mend_1 (by decide) ?_
  refine mp0 C dX11_mend_2 ?_
  refine g_aload_n C 0 dX11_mend_5 rfl rfl ?_
  refine mg39 C (v := gI σ 39) dX11_mend_6 rfl ?_
  refine g_iconst C (-1) dX11_mend_9 (by decide) ?_
  refine g_icmp_ne C 15 dX11_mend_10 (by decide) ?_ ?_
  · refine g_aload_n C 0 dX11_mend_15 rfl rfl ?_
    refine v_m_frees C ⟨by decide, by decide⟩ (Nat.le_of_ble_eq_true rfl) dX11_mend_16 (fun r1 σ2 _ => ?_)
    refine g_aload_n C 0 dX11_mend_19 rfl rfl ?_
    refine v_m_reckons C ⟨by decide, by decide⟩ (Nat.le_of_ble_eq_true rfl) dX11_mend_20 (fun r3 σ4 _ => ?_)
    refine g_aload_n C 0 dX11_mend_23 rfl rfl ?_
    refine g_iconst C 0 dX11_mend_24 (by decide) ?_
    refine mp63 C dX11_mend_25 ?_
    refine g_iconst C 0 dX11_mend_28 (by decide) ?_
    refine g_istore_n C [(1, .int 0), (0, .ref (ad 0))] dX11_mend_29 rfl (by decide) rfl ?_
    exact g_sub [1, 0] rfl (s_m_mend_30 C N N (sI σ4 63 0) 0)
  · refine g_iconst C (-1) dX11_mend_13 (by decide) ?_
    exact g_iret C dX11_mend_14
theorem c_m_mend {Y : Yx} {ad : Nat → Nat} {N : Nat} {σ : St} {r : Int32} {σ' : St} (h : m_mend N σ = some (r, σ')) : Con Y scM ad yX11_mend cX11_mend 6 (some .int) 5 119 [.ref (ad 0)] σ (outI r) σ' := con_of (by decide) rfl (Nat.le_of_ble_eq_true rfl) rfl (fun X hX C => s_m_mend C N σ) h
