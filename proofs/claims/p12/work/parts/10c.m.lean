def m_putsThings (N : Nat) (σ : St) : Option (Unit × St) :=
  bd (m_puts N σ 40 2) (fun _ σ2 => bd (m_puts N σ2 41 2) (fun _ σ4 => some ((), σ4)))
set_option maxHeartbeats 4000000 in
set_option maxRecDepth 100000 in
theorem s_m_putsThings {X : Cx} {ad : Nat → Nat} (C : Ok X cX11_putsThings RX11 1 none 1 23) (N : Nat) (σ : St) : Sim X scM ad 1 outV 0 [(0, .ref (ad 0))] [] σ (m_putsThings N σ) := by
  unfold m_putsThings
  refine g_aload_n C 0 dX11_putsThings_0 rfl rfl ?_
  refine g_bipush C 40 dX11_putsThings_1 (by decide) ?_
  refine g_iconst C 2 dX11_putsThings_3 (by decide) ?_
  refine v_m_puts C ⟨by decide, by decide⟩ (Nat.le_of_ble_eq_true rfl) dX11_putsThings_4 (fun r1 σ2 _ => ?_)
  refine g_aload_n C 0 dX11_putsThings_7 rfl rfl ?_
  refine g_bipush C 41 dX11_putsThings_8 (by decide) ?_
  refine g_iconst C 2 dX11_putsThings_10 (by decide) ?_
  refine v_m_puts C ⟨by decide, by decide⟩ (Nat.le_of_ble_eq_true rfl) dX11_putsThings_11 (fun r3 σ4 _ => ?_)
  exact g_vret C dX11_putsThings_14
theorem c_m_putsThings {Y : Yx} {ad : Nat → Nat} {N : Nat} {σ : St} {r : Unit} {σ' : St} (h : m_putsThings N σ = some (r, σ')) : Con Y scM ad yX11_putsThings cX11_putsThings 1 none 1 23 [.ref (ad 0)] σ (outV r) σ' := con_of (by decide) rfl (Nat.le_of_ble_eq_true rfl) rfl (fun X hX C => s_m_putsThings C N σ) h
set_option maxRecDepth 20000 in
theorem v_m_putsThings {X : Cx} {cc : ByteArray} {nL : Nat} {ret : Option FieldType} {fr lo : Nat} {ad : Nat → Nat} {ρ : Type} {out : ρ → Option Value} {pc : Nat} {lv : List (Nat × Value)} {rest : List Value} {σ : St} {N : Nat} {K : Unit → St → Option (ρ × St)} (C : Ok X cc RX11 nL ret fr lo) (hR : 1 + 1 ≤ fr ∧ 8 + (1 + 11) + 23 ≤ lo) (hcat : (rest.map fun v => v.category).sum ≤ 8) (hdg : decode cc pc = .ok (.invokevirtual 278, 3)) (k : ∀ (r : Unit) (σ' : St), m_putsThings N σ = some (r, σ') → Sim X scM ad nL out (pc + 3) lv rest σ' (K r σ')) : Sim X scM ad nL out pc lv (.ref (ad 0) :: rest) σ (bd (m_putsThings N σ) K) := g_callV C (out1 := outV) (y := yX11_putsThings) (n := 0) ⟨gw_1438, gw_1440, gw_87, gw_117, gw_1441⟩ (by decide +kernel) hR (o := 0) (ci := 10) (q9 := (RX11, TX11, 68)) imM0 rfl rfl rfl (fun r σ' h => c_m_putsThings h) rfl rfl hcat hdg k

def m_calls_57 (N : Nat) (σ : St) (x1 : Int32) (x2 : Int64) (x4 : Int32) : Option (Unit × St) :=
  bd (m_begins N σ x4) (fun _ σ2 => gd (ib (32 + x4) 42) ((if (gA σ2 42 ((32 + x4).toNatClampNeg)) = 0 then some ((), σ2) else gd (ib (32 + x4) 42) (bd (m_with N σ2 x2 26 (gA σ2 42 ((32 + x4).toNatClampNeg))) (fun r3 σ4 => bd (m_flows N σ4 (x1 + 1) r3) (fun _ σ6 => some ((), σ6)))))))
def m_calls_11_b (N : Nat) (rec11 : St → Int32 → Int64 → Int32 → Int32 → Option (Unit × St)) (σ : St) (x1 : Int32) (x2 : Int64) (x4 : Int32) (x5 : Int32) : Option (Unit × St) :=
  gd (ib x1 2600) ((if (gA σ 14 x1.toNatClampNeg) ≤ x5 then m_calls_57 N σ x1 x2 x4 else gd (ib x1 2600) (bd (m_factOf N σ x2 (((gA σ 16 x1.toNatClampNeg) >>> ((5 * x5) &&& 31)) &&& 31)) (fun r7 σ8 => bd (m_puts N σ8 ((4 * x4) + x5) r7) (fun _ σ10 => rec11 σ10 x1 x2 x4 (x5 + 1))))))
def m_calls_11 (N : Nat) : Nat → St → Int32 → Int64 → Int32 → Int32 → Option (Unit × St)
  | 0 => fun _ _ _ _ _ => none
  | n + 1 => fun σ x1 x2 x4 x5 => m_calls_11_b N (m_calls_11 N n) σ x1 x2 x4 x5
def m_calls (N : Nat) (σ : St) (a1 : Int32) (a2 : Int64) : Option (Unit × St) :=
  gd (ib a1 2600) (m_calls_11 N N σ a1 a2 (gA σ 13 a1.toNatClampNeg) 0)
set_option maxHeartbeats 4000000 in
set_option maxRecDepth 100000 in
theorem s_m_calls_57 {X : Cx} {ad : Nat → Nat} (C : Ok X cX11_calls RX11 6 none 2 50) (N : Nat) (σ : St) (x1 : Int32) (x2 : Int64) (x4 : Int32) : Sim X scM ad 6 outV 57 [(0, .ref (ad 0)), (1, .int x1), (2, .long x2), (4, .int x4)] [] σ (m_calls_57 N σ x1 x2 x4) := by
  unfold m_calls_57
  refine g_aload_n C 0 dX11_calls_57 rfl rfl ?_
  refine g_iload C 3 dX11_calls_58 rfl ?_
  refine v_m_begins C ⟨by decide, by decide⟩ (Nat.le_of_ble_eq_true rfl) dX11_calls_60 (fun r1 σ2 _ => ?_)
  refine g_aload_n C 0 dX11_calls_63 rfl rfl ?_
  refine mg42 C dX11_calls_64 ?_
  refine g_bipush C 32 dX11_calls_67 (by decide) ?_
  refine g_iload C 3 dX11_calls_69 rfl ?_
  refine g_iadd C dX11_calls_71 ?_
  refine mr42 C (v := gA σ2 42 ((32 + x4).toNatClampNeg)) dX11_calls_72 rfl ?_
  refine g_if_eq C 99 dX11_calls_73 (by decide) ?_ ?_
  · exact g_vret C dX11_calls_99
  · refine g_aload_n C 0 dX11_calls_76 rfl rfl ?_
    refine g_iload_n C 1 dX11_calls_77 rfl rfl ?_
    refine g_iconst C 1 dX11_calls_78 (by decide) ?_
    refine g_iadd C dX11_calls_79 ?_
    refine g_lload_n C 2 dX11_calls_80 rfl rfl ?_
    refine g_bipush C 26 dX11_calls_81 (by decide) ?_
    refine g_aload_n C 0 dX11_calls_83 rfl rfl ?_
    refine mg42 C dX11_calls_84 ?_
    refine g_bipush C 32 dX11_calls_87 (by decide) ?_
    refine g_iload C 3 dX11_calls_89 rfl ?_
    refine g_iadd C dX11_calls_91 ?_
    refine mr42 C (v := gA σ2 42 ((32 + x4).toNatClampNeg)) dX11_calls_92 rfl ?_
    refine v_m_with C ⟨by decide, by decide⟩ (Nat.le_of_ble_eq_true rfl) dX11_calls_93 (fun r3 σ4 _ => ?_)
    refine v_m_flows C ⟨by decide, by decide⟩ (Nat.le_of_ble_eq_true rfl) dX11_calls_96 (fun r5 σ6 _ => ?_)
    exact g_vret C dX11_calls_99
set_option maxHeartbeats 4000000 in
set_option maxRecDepth 100000 in
theorem s_m_calls_11_b {X : Cx} {ad : Nat → Nat} (C : Ok X cX11_calls RX11 6 none 2 50) (N : Nat) {rec11 : St → Int32 → Int64 → Int32 → Int32 → Option (Unit × St)} (hrec11 : ∀ (σ : St) (x1 : Int32) (x2 : Int64) (x4 : Int32) (x5 : Int32), Sim X scM ad 6 outV 11 [(0, .ref (ad 0)), (1, .int x1), (2, .long x2), (4, .int x4), (5, .int x5)] [] σ (rec11 σ x1 x2 x4 x5)) (σ : St) (x1 : Int32) (x2 : Int64) (x4 : Int32) (x5 : Int32) : Sim X scM ad 6 outV 11 [(0, .ref (ad 0)), (1, .int x1), (2, .long x2), (4, .int x4), (5, .int x5)] [] σ (m_calls_11_b N rec11 σ x1 x2 x4 x5) := by
  unfold m_calls_11_b
  refine g_iload C 4 dX11_calls_11 rfl ?_
  refine g_aload_n C 0 dX11_calls_13 rfl rfl ?_
  refine mg14 C dX11_calls_14 ?_
  refine g_iload_n C 1 dX11_calls_17 rfl rfl ?_
  refine mr14 C (v := gA σ 14 x1.toNatClampNeg) dX11_calls_18 rfl ?_
  refine g_icmp_ge C 57 dX11_calls_19 (by decide) ?_ ?_
  · exact g_sub [0, 1, 2, 3] rfl (s_m_calls_57 C N σ x1 x2 x4)
  · refine g_aload_n C 0 dX11_calls_22 rfl rfl ?_
    refine g_iconst C 4 dX11_calls_23 (by decide) ?_
    refine g_iload C 3 dX11_calls_24 rfl ?_
    refine g_imul C dX11_calls_26 ?_
    refine g_iload C 4 dX11_calls_27 rfl ?_
    refine g_iadd C dX11_calls_29 ?_
    refine g_lload_n C 2 dX11_calls_30 rfl rfl ?_
    refine g_aload_n C 0 dX11_calls_31 rfl rfl ?_
    refine mg16 C dX11_calls_32 ?_
    refine g_iload_n C 1 dX11_calls_35 rfl rfl ?_
    refine mr16 C (v := gA σ 16 x1.toNatClampNeg) dX11_calls_36 rfl ?_
    refine g_iconst C 5 dX11_calls_37 (by decide) ?_
    refine g_iload C 4 dX11_calls_38 rfl ?_
    refine g_imul C dX11_calls_40 ?_
    refine g_ishr C dX11_calls_41 ?_
    refine g_bipush C 31 dX11_calls_42 (by decide) ?_
    refine g_iand C dX11_calls_44 ?_
    refine v_m_factOf C ⟨by decide, by decide⟩ (Nat.le_of_ble_eq_true rfl) dX11_calls_45 (fun r7 σ8 _ => ?_)
    refine v_m_puts C ⟨by decide, by decide⟩ (Nat.le_of_ble_eq_true rfl) dX11_calls_48 (fun r9 σ10 _ => ?_)
    refine g_iinc C (x5 + 1) 4 [(5, .int (x5 + 1)), (0, .ref (ad 0)), (1, .int x1), (2, .long x2), (4, .int x4)] dX11_calls_51 rfl rfl (by decide) rfl ?_
    refine g_goto C 11 dX11_calls_54 (by decide) ?_
    exact g_sub [1, 2, 3, 4, 0] rfl (hrec11 σ10 x1 x2 x4 (x5 + 1))
set_option maxHeartbeats 4000000 in
set_option maxRecDepth 100000 in
theorem s_m_calls_11 {X : Cx} {ad : Nat → Nat} (C : Ok X cX11_calls RX11 6 none 2 50) (N : Nat) : ∀ (n : Nat) (σ : St) (x1 : Int32) (x2 : Int64) (x4 : Int32) (x5 : Int32), Sim X scM ad 6 outV 11 [(0, .ref (ad 0)), (1, .int x1), (2, .long x2), (4, .int x4), (5, .int x5)] [] σ (m_calls_11 N n σ x1 x2 x4 x5) := by
  intro n
  induction n with
  | zero => intro σ x1 x2 x4 x5; exact g_none
  | succ n ih => intro σ x1 x2 x4 x5; exact s_m_calls_11_b C N ih σ x1 x2 x4 x5
set_option maxHeartbeats 4000000 in
set_option maxRecDepth 100000 in
theorem s_m_calls {X : Cx} {ad : Nat → Nat} (C : Ok X cX11_calls RX11 6 none 2 50) (N : Nat) (σ : St) (a1 : Int32) (a2 : Int64) : Sim X scM ad 6 outV 0 [(0, .ref (ad 0)), (1, .int a1), (2, .long a2)] [] σ (m_calls N σ a1 a2) := by
  unfold m_calls
  refine g_aload_n C 0 dX11_calls_0 rfl rfl ?_
  refine mg13 C dX11_calls_1 ?_
  refine g_iload_n C 1 dX11_calls_4 rfl rfl ?_
  refine mr13 C (v := gA σ 13 a1.toNatClampNeg) dX11_calls_5 rfl ?_
  refine g_istore C [(4, .int (gA σ 13 a1.toNatClampNeg)), (0, .ref (ad 0)), (1, .int a1), (2, .long a2)] dX11_calls_6 (by decide) rfl ?_
  refine g_iconst C 0 dX11_calls_8 (by decide) ?_
  refine g_istore C [(5, .int 0), (4, .int (gA σ 13 a1.toNatClampNeg)), (0, .ref (ad 0)), (1, .int a1), (2, .long a2)] dX11_calls_9 (by decide) rfl ?_
  exact g_sub [2, 3, 4, 1, 0] rfl (s_m_calls_11 C N N σ a1 a2 (gA σ 13 a1.toNatClampNeg) 0)
theorem c_m_calls {Y : Yx} {ad : Nat → Nat} {N : Nat} {σ : St} {a1 : Int32} {a2 : Int64} {r : Unit} {σ' : St} (h : m_calls N σ a1 a2 = some (r, σ')) : Con Y scM ad yX11_calls cX11_calls 6 none 2 50 [.ref (ad 0), .int a1, .long a2] σ (outV r) σ' := con_of (by decide) rfl (Nat.le_of_ble_eq_true rfl) rfl (fun X hX C => s_m_calls C N σ a1 a2) h
set_option maxRecDepth 20000 in
theorem v_m_calls {X : Cx} {cc : ByteArray} {nL : Nat} {ret : Option FieldType} {fr lo : Nat} {ad : Nat → Nat} {ρ : Type} {out : ρ → Option Value} {pc : Nat} {lv : List (Nat × Value)} {rest : List Value} {σ : St} {N : Nat} {K : Unit → St → Option (ρ × St)} {a1 : Int32} {a2 : Int64} (C : Ok X cc RX11 nL ret fr lo) (hR : 2 + 1 ≤ fr ∧ 8 + (6 + 11) + 50 ≤ lo) (hcat : (rest.map fun v => v.category).sum ≤ 8) (hdg : decode cc pc = .ok (.invokevirtual 291, 3)) (k : ∀ (r : Unit) (σ' : St), m_calls N σ a1 a2 = some (r, σ') → Sim X scM ad nL out (pc + 3) lv rest σ' (K r σ')) : Sim X scM ad nL out pc lv (.long a2 :: .int a1 :: .ref (ad 0) :: rest) σ (bd (m_calls N σ a1 a2) K) := g_callV C (out1 := outV) (y := yX11_calls) (n := 2) ⟨gw_1463, gw_1465, gw_91, gw_117, gw_1466⟩ (by decide +kernel) hR (o := 0) (ci := 10) (q9 := (RX11, TX11, 68)) imM0 rfl rfl rfl (fun r σ' h => c_m_calls h) rfl rfl hcat hdg k

def m_routineAt_52 (N : Nat) (rec4 : St → Int32 → Int32 → Int32 → Option (Int32 × St)) (σ : St) (x1 : Int32) (x2 : Int32) (x3 : Int32) : Option (Int32 × St) :=
  rec4 σ x1 x2 (x3 + 1)
def m_routineAt_50 (N : Nat) (rec4 : St → Int32 → Int32 → Int32 → Option (Int32 × St)) (σ : St) (x1 : Int32) (x3 : Int32) : Option (Int32 × St) :=
  m_routineAt_52 N rec4 σ x1 x3 x3
def m_routineAt_4_b (N : Nat) (rec4 : St → Int32 → Int32 → Int32 → Option (Int32 × St)) (σ : St) (x1 : Int32) (x2 : Int32) (x3 : Int32) : Option (Int32 × St) :=
  (if 8 ≤ x3 then some (x2, σ) else gd (ib x3 16) ((if (gA σ 19 x3.toNatClampNeg) = (-1) then m_routineAt_52 N rec4 σ x1 x2 x3 else gd (ib x3 16) ((if x1 < (gA σ 19 x3.toNatClampNeg) then m_routineAt_52 N rec4 σ x1 x2 x3 else (if x2 = (-1) then m_routineAt_50 N rec4 σ x1 x3 else gd (ib x3 16) (gd (ib x2 16) ((if (gA σ 19 x3.toNatClampNeg) ≤ (gA σ 19 x2.toNatClampNeg) then m_routineAt_52 N rec4 σ x1 x2 x3 else m_routineAt_50 N rec4 σ x1 x3)))))))))
def m_routineAt_4 (N : Nat) : Nat → St → Int32 → Int32 → Int32 → Option (Int32 × St)
  | 0 => fun _ _ _ _ => none
  | n + 1 => fun σ x1 x2 x3 => m_routineAt_4_b N (m_routineAt_4 N n) σ x1 x2 x3
def m_routineAt (N : Nat) (σ : St) (a1 : Int32) : Option (Int32 × St) :=
  m_routineAt_4 N N σ a1 (-1) 0
set_option maxHeartbeats 4000000 in
set_option maxRecDepth 100000 in
theorem s_m_routineAt_52 {X : Cx} {ad : Nat → Nat} (C : Ok X cX11_routineAt RX11 4 (some .int) 0 0) (N : Nat) {rec4 : St → Int32 → Int32 → Int32 → Option (Int32 × St)} (hrec4 : ∀ (σ : St) (x1 : Int32) (x2 : Int32) (x3 : Int32), Sim X scM ad 4 outI 4 [(0, .ref (ad 0)), (1, .int x1), (2, .int x2), (3, .int x3)] [] σ (rec4 σ x1 x2 x3)) (σ : St) (x1 : Int32) (x2 : Int32) (x3 : Int32) : Sim X scM ad 4 outI 52 [(0, .ref (ad 0)), (1, .int x1), (2, .int x2), (3, .int x3)] [] σ (m_routineAt_52 N rec4 σ x1 x2 x3) := by
  unfold m_routineAt_52
  refine g_iinc C (x3 + 1) 3 [(3, .int (x3 + 1)), (0, .ref (ad 0)), (1, .int x1), (2, .int x2)] dX11_routineAt_52 rfl rfl (by decide) rfl ?_
  refine g_goto C 4 dX11_routineAt_55 (by decide) ?_
  exact g_sub [1, 2, 3, 0] rfl (hrec4 σ x1 x2 (x3 + 1))
set_option maxHeartbeats 4000000 in
set_option maxRecDepth 100000 in
theorem s_m_routineAt_50 {X : Cx} {ad : Nat → Nat} (C : Ok X cX11_routineAt RX11 4 (some .int) 0 0) (N : Nat) {rec4 : St → Int32 → Int32 → Int32 → Option (Int32 × St)} (hrec4 : ∀ (σ : St) (x1 : Int32) (x2 : Int32) (x3 : Int32), Sim X scM ad 4 outI 4 [(0, .ref (ad 0)), (1, .int x1), (2, .int x2), (3, .int x3)] [] σ (rec4 σ x1 x2 x3)) (σ : St) (x1 : Int32) (x3 : Int32) : Sim X scM ad 4 outI 50 [(0, .ref (ad 0)), (1, .int x1), (3, .int x3)] [] σ (m_routineAt_50 N rec4 σ x1 x3) := by
  unfold m_routineAt_50
  refine g_iload_n C 2 dX11_routineAt_50 rfl rfl ?_
  refine g_istore_n C [(2, .int x3), (0, .ref (ad 0)), (1, .int x1), (3, .int x3)] dX11_routineAt_51 rfl (by decide) rfl ?_
  exact g_sub [1, 2, 0, 3] rfl (s_m_routineAt_52 C N hrec4 σ x1 x3 x3)
set_option maxHeartbeats 4000000 in
set_option maxRecDepth 100000 in
theorem s_m_routineAt_4_b {X : Cx} {ad : Nat → Nat} (C : Ok X cX11_routineAt RX11 4 (some .int) 0 0) (N : Nat) {rec4 : St → Int32 → Int32 → Int32 → Option (Int32 × St)} (hrec4 : ∀ (σ : St) (x1 : Int32) (x2 : Int32) (x3 : Int32), Sim X scM ad 4 outI 4 [(0, .ref (ad 0)), (1, .int x1), (2, .int x2), (3, .int x3)] [] σ (rec4 σ x1 x2 x3)) (σ : St) (x1 : Int32) (x2 : Int32) (x3 : Int32) : Sim X scM ad 4 outI 4 [(0, .ref (ad 0)), (1, .int x1), (2, .int x2), (3, .int x3)] [] σ (m_routineAt_4_b N rec4 σ x1 x2 x3) := by
  unfold m_routineAt_4_b
  refine g_iload_n C 3 dX11_routineAt_4 rfl rfl ?_
  refine g_bipush C 8 dX11_routineAt_5 (by decide) ?_
  refine g_icmp_ge C 58 dX11_routineAt_7 (by decide) ?_ ?_
  · refine g_iload_n C 2 dX11_routineAt_58 rfl rfl ?_
    exact g_iret C dX11_routineAt_59
  · refine g_aload_n C 0 dX11_routineAt_10 rfl rfl ?_
    refine mg19 C dX11_routineAt_11 ?_
    refine g_iload_n C 3 dX11_routineAt_14 rfl rfl ?_
    refine mr19 C (v := gA σ 19 x3.toNatClampNeg) dX11_routineAt_15 rfl ?_
    refine g_iconst C (-1) dX11_routineAt_16 (by decide) ?_
    refine g_icmp_eq C 52 dX11_routineAt_17 (by decide) ?_ ?_
    · exact g_sub [0, 1, 2, 3] rfl (s_m_routineAt_52 C N hrec4 σ x1 x2 x3)
    · refine g_aload_n C 0 dX11_routineAt_20 rfl rfl ?_
      refine mg19 C dX11_routineAt_21 ?_
      refine g_iload_n C 3 dX11_routineAt_24 rfl rfl ?_
      refine mr19 C (v := gA σ 19 x3.toNatClampNeg) dX11_routineAt_25 rfl ?_
      refine g_iload_n C 1 dX11_routineAt_26 rfl rfl ?_
      refine g_icmp_gt C 52 dX11_routineAt_27 (by decide) ?_ ?_
      · exact g_sub [0, 1, 2, 3] rfl (s_m_routineAt_52 C N hrec4 σ x1 x2 x3)
      · refine g_iload_n C 2 dX11_routineAt_30 rfl rfl ?_
        refine g_iconst C (-1) dX11_routineAt_31 (by decide) ?_
        refine g_icmp_eq C 50 dX11_routineAt_32 (by decide) ?_ ?_
        · exact g_sub [0, 1, 3] rfl (s_m_routineAt_50 C N hrec4 σ x1 x3)
        · refine g_aload_n C 0 dX11_routineAt_35 rfl rfl ?_
          refine mg19 C dX11_routineAt_36 ?_
          refine g_iload_n C 3 dX11_routineAt_39 rfl rfl ?_
          refine mr19 C (v := gA σ 19 x3.toNatClampNeg) dX11_routineAt_40 rfl ?_
          refine g_aload_n C 0 dX11_routineAt_41 rfl rfl ?_
          refine mg19 C dX11_routineAt_42 ?_
          refine g_iload_n C 2 dX11_routineAt_45 rfl rfl ?_
          refine mr19 C (v := gA σ 19 x2.toNatClampNeg) dX11_routineAt_46 rfl ?_
          refine g_icmp_le C 52 dX11_routineAt_47 (by decide) ?_ ?_
          · exact g_sub [0, 1, 2, 3] rfl (s_m_routineAt_52 C N hrec4 σ x1 x2 x3)
          · exact g_sub [0, 1, 3] rfl (s_m_routineAt_50 C N hrec4 σ x1 x3)
set_option maxHeartbeats 4000000 in
set_option maxRecDepth 100000 in
theorem s_m_routineAt_4 {X : Cx} {ad : Nat → Nat} (C : Ok X cX11_routineAt RX11 4 (some .int) 0 0) (N : Nat) : ∀ (n : Nat) (σ : St) (x1 : Int32) (x2 : Int32) (x3 : Int32), Sim X scM ad 4 outI 4 [(0, .ref (ad 0)), (1, .int x1), (2, .int x2), (3, .int x3)] [] σ (m_routineAt_4 N n σ x1 x2 x3) := by
  intro n
  induction n with
  | zero => intro σ x1 x2 x3; exact g_none
  | succ n ih => intro σ x1 x2 x3; exact s_m_routineAt_4_b C N ih σ x1 x2 x3
set_option maxHeartbeats 4000000 in
set_option maxRecDepth 100000 in
theorem s_m_routineAt {X : Cx} {ad : Nat → Nat} (C : Ok X cX11_routineAt RX11 4 (some .int) 0 0) (N : Nat) (σ : St) (a1 : Int32) : Sim X scM ad 4 outI 0 [(0, .ref (ad 0)), (1, .int a1)] [] σ (m_routineAt N σ a1) := by
  unfold m_routineAt
  refine g_iconst C (-1) dX11_routineAt_0 (by decide) ?_
  refine g_istore_n C [(2, .int (-1)), (0, .ref (ad 0)), (1, .int a1)] dX11_routineAt_1 rfl (by decide) rfl ?_
  refine g_iconst C 0 dX11_routineAt_2 (by decide) ?_
  refine g_istore_n C [(3, .int 0), (2, .int (-1)), (0, .ref (ad 0)), (1, .int a1)] dX11_routineAt_3 rfl (by decide) rfl ?_
  exact g_sub [2, 3, 1, 0] rfl (s_m_routineAt_4 C N N σ a1 (-1) 0)
theorem c_m_routineAt {Y : Yx} {ad : Nat → Nat} {N : Nat} {σ : St} {a1 : Int32} {r : Int32} {σ' : St} (h : m_routineAt N σ a1 = some (r, σ')) : Con Y scM ad yX11_routineAt cX11_routineAt 4 (some .int) 0 0 [.ref (ad 0), .int a1] σ (outI r) σ' := con_of (by decide) rfl (Nat.le_of_ble_eq_true rfl) rfl (fun X hX C => s_m_routineAt C N σ a1) h
set_option maxRecDepth 20000 in
theorem v_m_routineAt {X : Cx} {cc : ByteArray} {nL : Nat} {ret : Option FieldType} {fr lo : Nat} {ad : Nat → Nat} {ρ : Type} {out : ρ → Option Value} {pc : Nat} {lv : List (Nat × Value)} {rest : List Value} {σ : St} {N : Nat} {K : Int32 → St → Option (ρ × St)} {a1 : Int32} (C : Ok X cc RX11 nL ret fr lo) (hR : 0 + 1 ≤ fr ∧ 8 + (4 + 11) + 0 ≤ lo) (hcat : (rest.map fun v => v.category).sum ≤ 8) (hdg : decode cc pc = .ok (.invokevirtual 293, 3)) (k : ∀ (r : Int32) (σ' : St), m_routineAt N σ a1 = some (r, σ') → Sim X scM ad nL out (pc + 3) lv (.int r :: rest) σ' (K r σ')) : Sim X scM ad nL out pc lv (.int a1 :: .ref (ad 0) :: rest) σ (bd (m_routineAt N σ a1) K) := g_callV C (out1 := outI) (y := yX11_routineAt) (n := 1) ⟨gw_1467, gw_1469, gw_92, gw_117, gw_1470⟩ (by decide +kernel) hR (o := 0) (ci := 10) (q9 := (RX11, TX11, 68)) imM0 rfl rfl rfl (fun r σ' h => c_m_routineAt h) rfl rfl hcat hdg k

def m_tests_201 (N : Nat) (σ : St) (t1 : Int32) (t2 : Int64) : Option (Unit × St) :=
  bd (m_flows N σ t1 t2) (fun _ σ6 => some ((), σ6))
def m_tests_141 (N : Nat) (σ : St) (x1 : Int32) (x2 : Int64) (x5 : Int32) (x6 : Int32) : Option (Unit × St) :=
  (if (x6 &&& x5) = 0 then some ((), σ) else gd (ib x1 2600) (gd (ib (gA σ 14 x1.toNatClampNeg) 25) (gd (ib (gA σ 14 x1.toNatClampNeg) 25) (gd (ib x1 2600) (gd (ib x1 2600) ((if (gA σ 12 x1.toNatClampNeg) = 12 then m_tests_201 N (sA σ 44 ((gA σ 14 x1.toNatClampNeg).toNatClampNeg) ((gA σ 44 ((gA σ 14 x1.toNatClampNeg).toNatClampNeg)) ||| 2)) (gA σ 15 x1.toNatClampNeg) x2 else gd (ib x1 2600) (bd (m_with N (sA σ 44 ((gA σ 14 x1.toNatClampNeg).toNatClampNeg) ((gA σ 44 ((gA σ 14 x1.toNatClampNeg).toNatClampNeg)) ||| 2)) x2 (gA σ 13 x1.toNatClampNeg) (x6 &&& x5)) (fun r3 σ4 => m_tests_201 N σ4 (gA σ 15 x1.toNatClampNeg) r3)))))))))
def m_tests_138 (N : Nat) (σ : St) (x1 : Int32) (x2 : Int64) (x5 : Int32) (x6 : Int32) (t1 : Int32) (t2 : Int64) : Option (Unit × St) :=
  bd (m_flows N σ t1 t2) (fun _ σ10 => m_tests_141 N σ10 x1 x2 x5 x6)
def m_tests_79 (N : Nat) (σ : St) (x1 : Int32) (x2 : Int64) (x4 : Int32) (x5 : Int32) (t0 : Int32) : Option (Unit × St) :=
  (if (t0 &&& x4) = 0 then m_tests_141 N σ x1 x2 x5 t0 else gd (ib x1 2600) (gd (ib (gA σ 14 x1.toNatClampNeg) 25) (gd (ib (gA σ 14 x1.toNatClampNeg) 25) (gd (ib x1 2600) ((if (gA σ 12 x1.toNatClampNeg) = 12 then m_tests_138 N (sA σ 44 ((gA σ 14 x1.toNatClampNeg).toNatClampNeg) ((gA σ 44 ((gA σ 14 x1.toNatClampNeg).toNatClampNeg)) ||| 1)) x1 x2 x5 t0 (x1 + 1) x2 else gd (ib x1 2600) (bd (m_with N (sA σ 44 ((gA σ 14 x1.toNatClampNeg).toNatClampNeg) ((gA σ 44 ((gA σ 14 x1.toNatClampNeg).toNatClampNeg)) ||| 1)) x2 (gA σ 13 x1.toNatClampNeg) (t0 &&& x4)) (fun r7 σ8 => m_tests_138 N σ8 x1 x2 x5 t0 (x1 + 1) r7))))))))
def m_tests_52 (N : Nat) (σ : St) (x1 : Int32) (x2 : Int64) (x4 : Int32) (t0 : Int32) : Option (Unit × St) :=
  gd (ib x1 2600) ((if (gA σ 12 x1.toNatClampNeg) = 12 then m_tests_79 N σ x1 x2 x4 t0 3 else gd (ib x1 2600) (bd (m_factOf N σ x2 (gA σ 13 x1.toNatClampNeg)) (fun r1 σ2 => m_tests_79 N σ2 x1 x2 x4 t0 r1))))
def m_tests_31 (N : Nat) (σ : St) (x1 : Int32) (x2 : Int64) (t0 : Int32) : Option (Unit × St) :=
  gd (ib x1 2600) ((if (gA σ 12 x1.toNatClampNeg) = 12 then m_tests_52 N σ x1 x2 t0 3 else m_tests_52 N σ x1 x2 t0 (3 - t0)))
def m_tests (N : Nat) (σ : St) (a1 : Int32) (a2 : Int64) : Option (Unit × St) :=
  gd (ib a1 2600) ((if (gA σ 12 a1.toNatClampNeg) = 10 then m_tests_31 N σ a1 a2 1 else gd (ib a1 2600) ((if (gA σ 12 a1.toNatClampNeg) = 11 then m_tests_31 N σ a1 a2 2 else m_tests_31 N σ a1 a2 3))))
set_option maxHeartbeats 4000000 in
set_option maxRecDepth 100000 in
theorem s_m_tests_201 {X : Cx} {ad : Nat → Nat} (C : Ok X cX11_tests RX11 7 none 1 25) (N : Nat) (σ : St) (t1 : Int32) (t2 : Int64) : Sim X scM ad 7 outV 201 [] [.long t2, .int t1, .ref (ad 0)] σ (m_tests_201 N σ t1 t2) := by
  unfold m_tests_201
  refine v_m_flows C ⟨by decide, by decide⟩ (Nat.le_of_ble_eq_true rfl) dX11_tests_201 (fun r5 σ6 _ => ?_)
  exact g_vret C dX11_tests_204
set_option maxHeartbeats 4000000 in
set_option maxRecDepth 100000 in
theorem s_m_tests_141 {X : Cx} {ad : Nat → Nat} (C : Ok X cX11_tests RX11 7 none 1 25) (N : Nat) (σ : St) (x1 : Int32) (x2 : Int64) (x5 : Int32) (x6 : Int32) : Sim X scM ad 7 outV 141 [(0, .ref (ad 0)), (1, .int x1), (2, .long x2), (5, .int x5), (6, .int x6)] [] σ (m_tests_141 N σ x1 x2 x5 x6) := by
  unfold m_tests_141
  refine g_iload C 4 dX11_tests_141 rfl ?_
  refine g_iload C 3 dX11_tests_143 rfl ?_
  refine g_iand C dX11_tests_145 ?_
  refine g_if_eq C 204 dX11_tests_146 (by decide) ?_ ?_
  · exact g_vret C dX11_tests_204
  · refine g_aload_n C 0 dX11_tests_149 rfl rfl ?_
    refine mg44 C dX11_tests_150 ?_
    refine g_aload_n C 0 dX11_tests_153 rfl rfl ?_
    refine mg14 C dX11_tests_154 ?_
    refine g_iload_n C 1 dX11_tests_157 rfl rfl ?_
    refine mr14 C (v := gA σ 14 x1.toNatClampNeg) dX11_tests_158 rfl ?_
    refine g_dup2 C dX11_tests_159 rfl rfl ?_
    refine mr44 C (v := gA σ 44 ((gA σ 14 x1.toNatClampNeg).toNatClampNeg)) dX11_tests_160 rfl ?_
    refine g_iconst C 2 dX11_tests_161 (by decide) ?_
    refine g_ior C dX11_tests_162 ?_
    refine mw44 C dX11_tests_163 ?_
    refine g_aload_n C 0 dX11_tests_164 rfl rfl ?_
    refine g_aload_n C 0 dX11_tests_165 rfl rfl ?_
    refine mg15 C dX11_tests_166 ?_
    refine g_iload_n C 1 dX11_tests_169 rfl rfl ?_
    refine mr15 C (v := gA σ 15 x1.toNatClampNeg) dX11_tests_170 rfl ?_
    refine g_aload_n C 0 dX11_tests_171 rfl rfl ?_
    refine mg12 C dX11_tests_172 ?_
    refine g_iload_n C 1 dX11_tests_175 rfl rfl ?_
    refine mr12 C (v := gA σ 12 x1.toNatClampNeg) dX11_tests_176 rfl ?_
    refine g_bipush C 12 dX11_tests_177 (by decide) ?_
    refine g_icmp_ne C 186 dX11_tests_179 (by decide) ?_ ?_
    · refine g_lload_n C 2 dX11_tests_186 rfl rfl ?_
      refine g_aload_n C 0 dX11_tests_187 rfl rfl ?_
      refine mg13 C dX11_tests_188 ?_
      refine g_iload_n C 1 dX11_tests_191 rfl rfl ?_
      refine mr13 C (v := gA σ 13 x1.toNatClampNeg) dX11_tests_192 rfl ?_
      refine g_iload C 4 dX11_tests_193 rfl ?_
      refine g_iload C 3 dX11_tests_195 rfl ?_
      refine g_iand C dX11_tests_197 ?_
      refine v_m_with C ⟨by decide, by decide⟩ (Nat.le_of_ble_eq_true rfl) dX11_tests_198 (fun r3 σ4 _ => ?_)
      exact g_sub [] rfl (s_m_tests_201 C N σ4 (gA σ 15 x1.toNatClampNeg) r3)
    · refine g_lload_n C 2 dX11_tests_182 rfl rfl ?_
      refine g_goto C 201 dX11_tests_183 (by decide) ?_
      exact g_sub [] rfl (s_m_tests_201 C N (sA σ 44 ((gA σ 14 x1.toNatClampNeg).toNatClampNeg) ((gA σ 44 ((gA σ 14 x1.toNatClampNeg).toNatClampNeg)) ||| 2)) (gA σ 15 x1.toNatClampNeg) x2)
set_option maxHeartbeats 4000000 in
set_option maxRecDepth 100000 in
theorem s_m_tests_138 {X : Cx} {ad : Nat → Nat} (C : Ok X cX11_tests RX11 7 none 1 25) (N : Nat) (σ : St) (x1 : Int32) (x2 : Int64) (x5 : Int32) (x6 : Int32) (t1 : Int32) (t2 : Int64) : Sim X scM ad 7 outV 138 [(0, .ref (ad 0)), (1, .int x1), (2, .long x2), (5, .int x5), (6, .int x6)] [.long t2, .int t1, .ref (ad 0)] σ (m_tests_138 N σ x1 x2 x5 x6 t1 t2) := by
  unfold m_tests_138
  refine v_m_flows C ⟨by decide, by decide⟩ (Nat.le_of_ble_eq_true rfl) dX11_tests_138 (fun r9 σ10 _ => ?_)
  exact g_sub [0, 1, 2, 3, 4] rfl (s_m_tests_141 C N σ10 x1 x2 x5 x6)
set_option maxHeartbeats 4000000 in
set_option maxRecDepth 100000 in
theorem s_m_tests_79 {X : Cx} {ad : Nat → Nat} (C : Ok X cX11_tests RX11 7 none 1 25) (N : Nat) (σ : St) (x1 : Int32) (x2 : Int64) (x4 : Int32) (x5 : Int32) (t0 : Int32) : Sim X scM ad 7 outV 79 [(0, .ref (ad 0)), (1, .int x1), (2, .long x2), (4, .int x4), (5, .int x5)] [.int t0] σ (m_tests_79 N σ x1 x2 x4 x5 t0) := by
  unfold m_tests_79
  refine g_istore C [(6, .int t0), (0, .ref (ad 0)), (1, .int x1), (2, .long x2), (4, .int x4), (5, .int x5)] dX11_tests_79 (by decide) rfl ?_
  refine g_iload C 0 dX11_tests_81 rfl ?_
  refine g_iload C 4 dX11_tests_83 rfl ?_
  refine g_iand C dX11_tests_85 ?_
  refine g_if_eq C 141 dX11_tests_86 (by decide) ?_ ?_
  · exact g_sub [1, 2, 3, 5, 0] rfl (s_m_tests_141 C N σ x1 x2 x5 t0)
  · refine g_aload_n C 1 dX11_tests_89 rfl rfl ?_
    refine mg44 C dX11_tests_90 ?_
    refine g_aload_n C 1 dX11_tests_93 rfl rfl ?_
    refine mg14 C dX11_tests_94 ?_
    refine g_iload_n C 2 dX11_tests_97 rfl rfl ?_
    refine mr14 C (v := gA σ 14 x1.toNatClampNeg) dX11_tests_98 rfl ?_
    refine g_dup2 C dX11_tests_99 rfl rfl ?_
    refine mr44 C (v := gA σ 44 ((gA σ 14 x1.toNatClampNeg).toNatClampNeg)) dX11_tests_100 rfl ?_
    refine g_iconst C 1 dX11_tests_101 (by decide) ?_
    refine g_ior C dX11_tests_102 ?_
    refine mw44 C dX11_tests_103 ?_
    refine g_aload_n C 1 dX11_tests_104 rfl rfl ?_
    refine g_iload_n C 2 dX11_tests_105 rfl rfl ?_
    refine g_iconst C 1 dX11_tests_106 (by decide) ?_
    refine g_iadd C dX11_tests_107 ?_
    refine g_aload_n C 1 dX11_tests_108 rfl rfl ?_
    refine mg12 C dX11_tests_109 ?_
    refine g_iload_n C 2 dX11_tests_112 rfl rfl ?_
    refine mr12 C (v := gA σ 12 x1.toNatClampNeg) dX11_tests_113 rfl ?_
    refine g_bipush C 12 dX11_tests_114 (by decide) ?_
    refine g_icmp_ne C 123 dX11_tests_116 (by decide) ?_ ?_
    · refine g_lload_n C 3 dX11_tests_123 rfl rfl ?_
      refine g_aload_n C 1 dX11_tests_124 rfl rfl ?_
      refine mg13 C dX11_tests_125 ?_
      refine g_iload_n C 2 dX11_tests_128 rfl rfl ?_
      refine mr13 C (v := gA σ 13 x1.toNatClampNeg) dX11_tests_129 rfl ?_
      refine g_iload C 0 dX11_tests_130 rfl ?_
      refine g_iload C 4 dX11_tests_132 rfl ?_
      refine g_iand C dX11_tests_134 ?_
      refine v_m_with C ⟨by decide, by decide⟩ (Nat.le_of_ble_eq_true rfl) dX11_tests_135 (fun r7 σ8 _ => ?_)
      exact g_sub [1, 2, 3, 5, 0] rfl (s_m_tests_138 C N σ8 x1 x2 x5 t0 (x1 + 1) r7)
    · refine g_lload_n C 3 dX11_tests_119 rfl rfl ?_
      refine g_goto C 138 dX11_tests_120 (by decide) ?_
      exact g_sub [1, 2, 3, 5, 0] rfl (s_m_tests_138 C N (sA σ 44 ((gA σ 14 x1.toNatClampNeg).toNatClampNeg) ((gA σ 44 ((gA σ 14 x1.toNatClampNeg).toNatClampNeg)) ||| 1)) x1 x2 x5 t0 (x1 + 1) x2)
set_option maxHeartbeats 4000000 in
set_option maxRecDepth 100000 in
theorem s_m_tests_52 {X : Cx} {ad : Nat → Nat} (C : Ok X cX11_tests RX11 7 none 1 25) (N : Nat) (σ : St) (x1 : Int32) (x2 : Int64) (x4 : Int32) (t0 : Int32) : Sim X scM ad 7 outV 52 [(0, .ref (ad 0)), (1, .int x1), (2, .long x2), (4, .int x4)] [.int t0] σ (m_tests_52 N σ x1 x2 x4 t0) := by
  unfold m_tests_52
  refine g_istore C [(5, .int t0), (0, .ref (ad 0)), (1, .int x1), (2, .long x2), (4, .int x4)] dX11_tests_52 (by decide) rfl ?_
  refine g_aload_n C 1 dX11_tests_54 rfl rfl ?_
  refine mg12 C dX11_tests_55 ?_
  refine g_iload_n C 2 dX11_tests_58 rfl rfl ?_
  refine mr12 C (v := gA σ 12 x1.toNatClampNeg) dX11_tests_59 rfl ?_
  refine g_bipush C 12 dX11_tests_60 (by decide) ?_
  refine g_icmp_ne C 69 dX11_tests_62 (by decide) ?_ ?_
  · refine g_lload_n C 3 dX11_tests_69 rfl rfl ?_
    refine g_aload_n C 1 dX11_tests_70 rfl rfl ?_
    refine mg13 C dX11_tests_71 ?_
    refine g_iload_n C 2 dX11_tests_74 rfl rfl ?_
    refine mr13 C (v := gA σ 13 x1.toNatClampNeg) dX11_tests_75 rfl ?_
    refine v_m_factOf C ⟨by decide, by decide⟩ (Nat.le_of_ble_eq_true rfl) dX11_tests_76 (fun r1 σ2 _ => ?_)
    exact g_sub [1, 2, 3, 4, 0] rfl (s_m_tests_79 C N σ2 x1 x2 x4 t0 r1)
  · refine g_iconst C 3 dX11_tests_65 (by decide) ?_
    refine g_goto C 79 dX11_tests_66 (by decide) ?_
    exact g_sub [1, 2, 3, 4, 0] rfl (s_m_tests_79 C N σ x1 x2 x4 t0 3)
set_option maxHeartbeats 4000000 in
set_option maxRecDepth 100000 in
theorem s_m_tests_31 {X : Cx} {ad : Nat → Nat} (C : Ok X cX11_tests RX11 7 none 1 25) (N : Nat) (σ : St) (x1 : Int32) (x2 : Int64) (t0 : Int32) : Sim X scM ad 7 outV 31 [(0, .ref (ad 0)), (1, .int x1), (2, .long x2)] [.int t0] σ (m_tests_31 N σ x1 x2 t0) := by
  unfold m_tests_31
  refine g_istore C [(4, .int t0), (0, .ref (ad 0)), (1, .int x1), (2, .long x2)] dX11_tests_31 (by decide) rfl ?_
  refine g_aload_n C 1 dX11_tests_33 rfl rfl ?_
  refine mg12 C dX11_tests_34 ?_
  refine g_iload_n C 2 dX11_tests_37 rfl rfl ?_
  refine mr12 C (v := gA σ 12 x1.toNatClampNeg) dX11_tests_38 rfl ?_
  refine g_bipush C 12 dX11_tests_39 (by decide) ?_
  refine g_icmp_ne C 48 dX11_tests_41 (by decide) ?_ ?_
  · refine g_iconst C 3 dX11_tests_48 (by decide) ?_
    refine g_iload C 0 dX11_tests_49 rfl ?_
    refine g_isub C dX11_tests_51 ?_
    exact g_sub [1, 2, 3, 0] rfl (s_m_tests_52 C N σ x1 x2 t0 (3 - t0))
  · refine g_iconst C 3 dX11_tests_44 (by decide) ?_
    refine g_goto C 52 dX11_tests_45 (by decide) ?_
    exact g_sub [1, 2, 3, 0] rfl (s_m_tests_52 C N σ x1 x2 t0 3)
set_option maxHeartbeats 4000000 in
set_option maxRecDepth 100000 in
theorem s_m_tests {X : Cx} {ad : Nat → Nat} (C : Ok X cX11_tests RX11 7 none 1 25) (N : Nat) (σ : St) (a1 : Int32) (a2 : Int64) : Sim X scM ad 7 outV 0 [(0, .ref (ad 0)), (1, .int a1), (2, .long a2)] [] σ (m_tests N σ a1 a2) := by
  unfold m_tests
  refine g_aload_n C 0 dX11_tests_0 rfl rfl ?_
  refine mg12 C dX11_tests_1 ?_
  refine g_iload_n C 1 dX11_tests_4 rfl rfl ?_
  refine mr12 C (v := gA σ 12 a1.toNatClampNeg) dX11_tests_5 rfl ?_
  refine g_bipush C 10 dX11_tests_6 (by decide) ?_
  refine g_icmp_ne C 15 dX11_tests_8 (by decide) ?_ ?_
  · refine g_aload_n C 0 dX11_tests_15 rfl rfl ?_
    refine mg12 C dX11_tests_16 ?_
    refine g_iload_n C 1 dX11_tests_19 rfl rfl ?_
    refine mr12 C (v := gA σ 12 a1.toNatClampNeg) dX11_tests_20 rfl ?_
    refine g_bipush C 11 dX11_tests_21 (by decide) ?_
    refine g_icmp_ne C 30 dX11_tests_23 (by decide) ?_ ?_
    · refine g_iconst C 3 dX11_tests_30 (by decide) ?_
      exact g_sub [0, 1, 2] rfl (s_m_tests_31 C N σ a1 a2 3)
    · refine g_iconst C 2 dX11_tests_26 (by decide) ?_
      refine g_goto C 31 dX11_tests_27 (by decide) ?_
      exact g_sub [0, 1, 2] rfl (s_m_tests_31 C N σ a1 a2 2)
  · refine g_iconst C 1 dX11_tests_11 (by decide) ?_
    refine g_goto C 31 dX11_tests_12 (by decide) ?_
    exact g_sub [0, 1, 2] rfl (s_m_tests_31 C N σ a1 a2 1)
theorem c_m_tests {Y : Yx} {ad : Nat → Nat} {N : Nat} {σ : St} {a1 : Int32} {a2 : Int64} {r : Unit} {σ' : St} (h : m_tests N σ a1 a2 = some (r, σ')) : Con Y scM ad yX11_tests cX11_tests 7 none 1 25 [.ref (ad 0), .int a1, .long a2] σ (outV r) σ' := con_of (by decide) rfl (Nat.le_of_ble_eq_true rfl) rfl (fun X hX C => s_m_tests C N σ a1 a2) h
set_option maxRecDepth 20000 in
theorem v_m_tests {X : Cx} {cc : ByteArray} {nL : Nat} {ret : Option FieldType} {fr lo : Nat} {ad : Nat → Nat} {ρ : Type} {out : ρ → Option Value} {pc : Nat} {lv : List (Nat × Value)} {rest : List Value} {σ : St} {N : Nat} {K : Unit → St → Option (ρ × St)} {a1 : Int32} {a2 : Int64} (C : Ok X cc RX11 nL ret fr lo) (hR : 1 + 1 ≤ fr ∧ 8 + (7 + 11) + 25 ≤ lo) (hcat : (rest.map fun v => v.category).sum ≤ 8) (hdg : decode cc pc = .ok (.invokevirtual 296, 3)) (k : ∀ (r : Unit) (σ' : St), m_tests N σ a1 a2 = some (r, σ') → Sim X scM ad nL out (pc + 3) lv rest σ' (K r σ')) : Sim X scM ad nL out pc lv (.long a2 :: .int a1 :: .ref (ad 0) :: rest) σ (bd (m_tests N σ a1 a2) K) := g_callV C (out1 := outV) (y := yX11_tests) (n := 2) ⟨gw_1471, gw_1473, gw_93, gw_117, gw_1474⟩ (by decide +kernel) hR (o := 0) (ci := 10) (q9 := (RX11, TX11, 68)) imM0 rfl rfl rfl (fun r σ' h => c_m_tests h) rfl rfl hcat hdg k

def m_goes (N : Nat) (σ : St) (a1 : Int32) (a2 : Int64) : Option (Unit × St) :=
  gd (ib a1 2600) ((if (gA σ 12 a1.toNatClampNeg) = 0 then bd (m_flows N σ (a1 + 1) a2) (fun _ σ3 => some ((), σ3)) else (if (gA σ 12 a1.toNatClampNeg) = 1 then bd (m_with N σ a2 26 1) (fun r5 σ6 => bd (m_flows N σ6 (a1 + 1) r5) (fun _ σ8 => some ((), σ8))) else (if (gA σ 12 a1.toNatClampNeg) = 2 then bd (m_putsThings N σ) (fun _ σ11 => bd (m_with N σ11 a2 26 3) (fun r12 σ13 => bd (m_flows N σ13 (a1 + 1) r12) (fun _ σ15 => some ((), σ15)))) else (if (gA σ 12 a1.toNatClampNeg) = 3 then gd (ib a1 2600) (bd (m_factOf N σ a2 (gA σ 13 a1.toNatClampNeg)) (fun r17 σ18 => bd (m_puts N σ18 40 r17) (fun _ σ20 => gd (ib a1 2600) (bd (m_factOf N σ20 a2 (gA σ20 14 a1.toNatClampNeg)) (fun r21 σ22 => bd (m_puts N σ22 41 r21) (fun _ σ24 => bd (m_with N σ24 a2 26 2) (fun r25 σ26 => bd (m_flows N σ26 (a1 + 1) r25) (fun _ σ28 => some ((), σ28))))))))) else (if (gA σ 12 a1.toNatClampNeg) = 4 then gd (ib a1 2600) (bd (m_factOf N σ a2 (gA σ 13 a1.toNatClampNeg)) (fun r30 σ31 => bd (m_with N σ31 a2 26 r30) (fun r32 σ33 => bd (m_flows N σ33 (a1 + 1) r32) (fun _ σ35 => some ((), σ35))))) else (if (gA σ 12 a1.toNatClampNeg) = 5 then gd (ib a1 2600) (bd (m_factOf N σ a2 (gA σ 13 a1.toNatClampNeg)) (fun r37 σ38 => (if (r37 &&& 2) = 0 then some ((), σ38) else gd (ib a1 2600) (gd (ib (40 + (gA σ38 14 a1.toNatClampNeg)) 42) ((if (gA σ38 42 ((40 + (gA σ38 14 a1.toNatClampNeg)).toNatClampNeg)) = 0 then some ((), σ38) else gd (ib a1 2600) (bd (m_with N σ38 a2 (gA σ38 13 a1.toNatClampNeg) 2) (fun r39 σ40 => gd (ib a1 2600) (gd (ib (40 + (gA σ40 14 a1.toNatClampNeg)) 42) (bd (m_with N σ40 r39 26 (gA σ40 42 ((40 + (gA σ40 14 a1.toNatClampNeg)).toNatClampNeg))) (fun r41 σ42 => bd (m_flows N σ42 (a1 + 1) r41) (fun _ σ44 => some ((), σ44))))))))))))) else (if (gA σ 12 a1.toNatClampNeg) = 6 then bd (m_calls N σ a1 a2) (fun _ σ47 => some ((), σ47)) else (if (gA σ 12 a1.toNatClampNeg) = 7 then gd (ib a1 2600) (bd (m_factOf N σ a2 26) (fun r49 σ50 => bd (m_with N σ50 a2 (gA σ 13 a1.toNatClampNeg) r49) (fun r51 σ52 => bd (m_flows N σ52 (a1 + 1) r51) (fun _ σ54 => some ((), σ54))))) else (if (gA σ 12 a1.toNatClampNeg) = 8 then gd (ib a1 2600) (bd (m_factOf N σ a2 (gA σ 13 a1.toNatClampNeg)) (fun r56 σ57 => (if (r56 &&& 2) = 0 then some ((), σ57) else gd (ib a1 2600) (bd (m_factOf N σ57 a2 26) (fun r58 σ59 => bd (m_puts N σ59 (40 + (gA σ57 14 a1.toNatClampNeg)) r58) (fun _ σ61 => gd (ib a1 2600) (bd (m_with N σ61 a2 (gA σ61 13 a1.toNatClampNeg) 2) (fun r62 σ63 => bd (m_flows N σ63 (a1 + 1) r62) (fun _ σ65 => some ((), σ65)))))))))) else (if (gA σ 12 a1.toNatClampNeg) = 9 then bd (m_routineAt N σ a1) (fun r67 σ68 => bd (m_factOf N σ68 a2 26) (fun r69 σ70 => bd (m_puts N σ70 (32 + r67) r69) (fun _ σ72 => some ((), σ72)))) else (if (gA σ 12 a1.toNatClampNeg) = 10 then bd (m_tests N σ a1 a2) (fun _ σ75 => some ((), σ75)) else (if (gA σ 12 a1.toNatClampNeg) = 11 then bd (m_tests N σ a1 a2) (fun _ σ78 => some ((), σ78)) else (if (gA σ 12 a1.toNatClampNeg) = 12 then bd (m_tests N σ a1 a2) (fun _ σ81 => some ((), σ81)) else (if (gA σ 12 a1.toNatClampNeg) = 13 then gd (ib a1 2600) (bd (m_flows N σ (gA σ 13 a1.toNatClampNeg) a2) (fun _ σ84 => some ((), σ84))) else bd (m_tests N σ a1 a2) (fun _ σ86 => some ((), σ86)))))))))))))))))
set_option maxHeartbeats 4000000 in
set_option maxRecDepth 100000 in
theorem s_m_goes {X : Cx} {ad : Nat → Nat} (C : Ok X cX11_goes RX11 4 none 3 75) (N : Nat) (σ : St) (a1 : Int32) (a2 : Int64) : Sim X scM ad 4 outV 0 [(0, .ref (ad 0)), (1, .int a1), (2, .long a2)] [] σ (m_goes N σ a1 a2) := by
  unfold m_goes
  refine g_aload_n C 0 dX11_goes_0 rfl rfl ?_
  refine mg12 C dX11_goes_1 ?_
  refine g_iload_n C 1 dX11_goes_4 rfl rfl ?_
  refine mr12 C (v := gA σ 12 a1.toNatClampNeg) dX11_goes_5 rfl ?_
  refine g_cs (fun h1 => ?_) (fun h1 => ?_)
  · refine g_tabIn C (off := 70) 76 (0) (by rw [h1]; decide) dX11_goes_6 (by decide) (by decide) (by decide) (by decide) ?_
    refine g_aload_n C 0 dX11_goes_76 rfl rfl ?_
    refine g_iload_n C 1 dX11_goes_77 rfl rfl ?_
    refine g_iconst C 1 dX11_goes_78 (by decide) ?_
    refine g_iadd C dX11_goes_79 ?_
    refine g_lload_n C 2 dX11_goes_80 rfl rfl ?_
    refine v_m_flows C ⟨by decide, by decide⟩ (Nat.le_of_ble_eq_true rfl) dX11_goes_81 (fun r2 σ3 _ => ?_)
    refine g_goto C 406 dX11_goes_84 (by decide) ?_
    exact g_vret C dX11_goes_406
  refine g_cs (fun h4 => ?_) (fun h4 => ?_)
  · refine g_tabIn C (off := 81) 87 (1) (by rw [h4]; decide) dX11_goes_6 (by decide) (by decide) (by decide) (by decide) ?_
    refine g_aload_n C 0 dX11_goes_87 rfl rfl ?_
    refine g_iload_n C 1 dX11_goes_88 rfl rfl ?_
    refine g_iconst C 1 dX11_goes_89 (by decide) ?_
    refine g_iadd C dX11_goes_90 ?_
    refine g_lload_n C 2 dX11_goes_91 rfl rfl ?_
    refine g_bipush C 26 dX11_goes_92 (by decide) ?_
    refine g_iconst C 1 dX11_goes_94 (by decide) ?_
    refine v_m_with C ⟨by decide, by decide⟩ (Nat.le_of_ble_eq_true rfl) dX11_goes_95 (fun r5 σ6 _ => ?_)
    refine v_m_flows C ⟨by decide, by decide⟩ (Nat.le_of_ble_eq_true rfl) dX11_goes_98 (fun r7 σ8 _ => ?_)
    refine g_goto C 406 dX11_goes_101 (by decide) ?_
    exact g_vret C dX11_goes_406
  refine g_cs (fun h9 => ?_) (fun h9 => ?_)
  · refine g_tabIn C (off := 98) 104 (2) (by rw [h9]; decide) dX11_goes_6 (by decide) (by decide) (by decide) (by decide) ?_
    refine g_aload_n C 0 dX11_goes_104 rfl rfl ?_
    refine v_m_putsThings C ⟨by decide, by decide⟩ (Nat.le_of_ble_eq_true rfl) dX11_goes_105 (fun r10 σ11 _ => ?_)
    refine g_aload_n C 0 dX11_goes_108 rfl rfl ?_
    refine g_iload_n C 1 dX11_goes_109 rfl rfl ?_
    refine g_iconst C 1 dX11_goes_110 (by decide) ?_
    refine g_iadd C dX11_goes_111 ?_
    refine g_lload_n C 2 dX11_goes_112 rfl rfl ?_
    refine g_bipush C 26 dX11_goes_113 (by decide) ?_
    refine g_iconst C 3 dX11_goes_115 (by decide) ?_
    refine v_m_with C ⟨by decide, by decide⟩ (Nat.le_of_ble_eq_true rfl) dX11_goes_116 (fun r12 σ13 _ => ?_)
    refine v_m_flows C ⟨by decide, by decide⟩ (Nat.le_of_ble_eq_true rfl) dX11_goes_119 (fun r14 σ15 _ => ?_)
    refine g_goto C 406 dX11_goes_122 (by decide) ?_
    exact g_vret C dX11_goes_406
  refine g_cs (fun h16 => ?_) (fun h16 => ?_)
  · refine g_tabIn C (off := 119) 125 (3) (by rw [h16]; decide) dX11_goes_6 (by decide) (by decide) (by decide) (by decide) ?_
    refine g_aload_n C 0 dX11_goes_125 rfl rfl ?_
    refine g_bipush C 40 dX11_goes_126 (by decide) ?_
    refine g_lload_n C 2 dX11_goes_128 rfl rfl ?_
    refine g_aload_n C 0 dX11_goes_129 rfl rfl ?_
    refine mg13 C dX11_goes_130 ?_
    refine g_iload_n C 1 dX11_goes_133 rfl rfl ?_
    refine mr13 C (v := gA σ 13 a1.toNatClampNeg) dX11_goes_134 rfl ?_
    refine v_m_factOf C ⟨by decide, by decide⟩ (Nat.le_of_ble_eq_true rfl) dX11_goes_135 (fun r17 σ18 _ => ?_)
    refine v_m_puts C ⟨by decide, by decide⟩ (Nat.le_of_ble_eq_true rfl) dX11_goes_138 (fun r19 σ20 _ => ?_)
    refine g_aload_n C 0 dX11_goes_141 rfl rfl ?_
    refine g_bipush C 41 dX11_goes_142 (by decide) ?_
    refine g_lload_n C 2 dX11_goes_144 rfl rfl ?_
    refine g_aload_n C 0 dX11_goes_145 rfl rfl ?_
    refine mg14 C dX11_goes_146 ?_
    refine g_iload_n C 1 dX11_goes_149 rfl rfl ?_
    refine mr14 C (v := gA σ20 14 a1.toNatClampNeg) dX11_goes_150 rfl ?_
    refine v_m_factOf C ⟨by decide, by decide⟩ (Nat.le_of_ble_eq_true rfl) dX11_goes_151 (fun r21 σ22 _ => ?_)
    refine v_m_puts C ⟨by decide, by decide⟩ (Nat.le_of_ble_eq_true rfl) dX11_goes_154 (fun r23 σ24 _ => ?_)
    refine g_aload_n C 0 dX11_goes_157 rfl rfl ?_
    refine g_iload_n C 1 dX11_goes_158 rfl rfl ?_
    refine g_iconst C 1 dX11_goes_159 (by decide) ?_
    refine g_iadd C dX11_goes_160 ?_
    refine g_lload_n C 2 dX11_goes_161 rfl rfl ?_
    refine g_bipush C 26 dX11_goes_162 (by decide) ?_
    refine g_iconst C 2 dX11_goes_164 (by decide) ?_
    refine v_m_with C ⟨by decide, by decide⟩ (Nat.le_of_ble_eq_true rfl) dX11_goes_165 (fun r25 σ26 _ => ?_)
    refine v_m_flows C ⟨by decide, by decide⟩ (Nat.le_of_ble_eq_true rfl) dX11_goes_168 (fun r27 σ28 _ => ?_)
    refine g_goto C 406 dX11_goes_171 (by decide) ?_
    exact g_vret C dX11_goes_406
  refine g_cs (fun h29 => ?_) (fun h29 => ?_)
  · refine g_tabIn C (off := 168) 174 (4) (by rw [h29]; decide) dX11_goes_6 (by decide) (by decide) (by decide) (by decide) ?_
    refine g_aload_n C 0 dX11_goes_174 rfl rfl ?_
    refine g_iload_n C 1 dX11_goes_175 rfl rfl ?_
    refine g_iconst C 1 dX11_goes_176 (by decide) ?_
    refine g_iadd C dX11_goes_177 ?_
    refine g_lload_n C 2 dX11_goes_178 rfl rfl ?_
    refine g_bipush C 26 dX11_goes_179 (by decide) ?_
    refine g_lload_n C 2 dX11_goes_181 rfl rfl ?_
    refine g_aload_n C 0 dX11_goes_182 rfl rfl ?_
    refine mg13 C dX11_goes_183 ?_
    refine g_iload_n C 1 dX11_goes_186 rfl rfl ?_
    refine mr13 C (v := gA σ 13 a1.toNatClampNeg) dX11_goes_187 rfl ?_
    refine v_m_factOf C ⟨by decide, by decide⟩ (Nat.le_of_ble_eq_true rfl) dX11_goes_188 (fun r30 σ31 _ => ?_)
    refine v_m_with C ⟨by decide, by decide⟩ (Nat.le_of_ble_eq_true rfl) dX11_goes_191 (fun r32 σ33 _ => ?_)
    refine v_m_flows C ⟨by decide, by decide⟩ (Nat.le_of_ble_eq_true rfl) dX11_goes_194 (fun r34 σ35 _ => ?_)
    refine g_goto C 406 dX11_goes_197 (by decide) ?_
    exact g_vret C dX11_goes_406
  refine g_cs (fun h36 => ?_) (fun h36 => ?_)
  · refine g_tabIn C (off := 194) 200 (5) (by rw [h36]; decide) dX11_goes_6 (by decide) (by decide) (by decide) (by decide) ?_
    refine g_lload_n C 2 dX11_goes_200 rfl rfl ?_
    refine g_aload_n C 0 dX11_goes_201 rfl rfl ?_
    refine mg13 C dX11_goes_202 ?_
    refine g_iload_n C 1 dX11_goes_205 rfl rfl ?_
    refine mr13 C (v := gA σ 13 a1.toNatClampNeg) dX11_goes_206 rfl ?_
    refine v_m_factOf C ⟨by decide, by decide⟩ (Nat.le_of_ble_eq_true rfl) dX11_goes_207 (fun r37 σ38 _ => ?_)
    refine g_iconst C 2 dX11_goes_210 (by decide) ?_
    refine g_iand C dX11_goes_211 ?_
    refine g_if_eq C 406 dX11_goes_212 (by decide) ?_ ?_
    · exact g_vret C dX11_goes_406
    · refine g_aload_n C 0 dX11_goes_215 rfl rfl ?_
      refine mg42 C dX11_goes_216 ?_
      refine g_bipush C 40 dX11_goes_219 (by decide) ?_
      refine g_aload_n C 0 dX11_goes_221 rfl rfl ?_
      refine mg14 C dX11_goes_222 ?_
      refine g_iload_n C 1 dX11_goes_225 rfl rfl ?_
      refine mr14 C (v := gA σ38 14 a1.toNatClampNeg) dX11_goes_226 rfl ?_
      refine g_iadd C dX11_goes_227 ?_
      refine mr42 C (v := gA σ38 42 ((40 + (gA σ38 14 a1.toNatClampNeg)).toNatClampNeg)) dX11_goes_228 rfl ?_
      refine g_if_eq C 406 dX11_goes_229 (by decide) ?_ ?_
      · exact g_vret C dX11_goes_406
      · refine g_aload_n C 0 dX11_goes_232 rfl rfl ?_
        refine g_iload_n C 1 dX11_goes_233 rfl rfl ?_
        refine g_iconst C 1 dX11_goes_234 (by decide) ?_
        refine g_iadd C dX11_goes_235 ?_
        refine g_lload_n C 2 dX11_goes_236 rfl rfl ?_
        refine g_aload_n C 0 dX11_goes_237 rfl rfl ?_
        refine mg13 C dX11_goes_238 ?_
        refine g_iload_n C 1 dX11_goes_241 rfl rfl ?_
        refine mr13 C (v := gA σ38 13 a1.toNatClampNeg) dX11_goes_242 rfl ?_
        refine g_iconst C 2 dX11_goes_243 (by decide) ?_
        refine v_m_with C ⟨by decide, by decide⟩ (Nat.le_of_ble_eq_true rfl) dX11_goes_244 (fun r39 σ40 _ => ?_)
        refine g_bipush C 26 dX11_goes_247 (by decide) ?_
        refine g_aload_n C 0 dX11_goes_249 rfl rfl ?_
        refine mg42 C dX11_goes_250 ?_
        refine g_bipush C 40 dX11_goes_253 (by decide) ?_
        refine g_aload_n C 0 dX11_goes_255 rfl rfl ?_
        refine mg14 C dX11_goes_256 ?_
        refine g_iload_n C 1 dX11_goes_259 rfl rfl ?_
        refine mr14 C (v := gA σ40 14 a1.toNatClampNeg) dX11_goes_260 rfl ?_
        refine g_iadd C dX11_goes_261 ?_
        refine mr42 C (v := gA σ40 42 ((40 + (gA σ40 14 a1.toNatClampNeg)).toNatClampNeg)) dX11_goes_262 rfl ?_
        refine v_m_with C ⟨by decide, by decide⟩ (Nat.le_of_ble_eq_true rfl) dX11_goes_263 (fun r41 σ42 _ => ?_)
        refine v_m_flows C ⟨by decide, by decide⟩ (Nat.le_of_ble_eq_true rfl) dX11_goes_266 (fun r43 σ44 _ => ?_)
        refine g_goto C 406 dX11_goes_269 (by decide) ?_
        exact g_vret C dX11_goes_406
  refine g_cs (fun h45 => ?_) (fun h45 => ?_)
  · refine g_tabIn C (off := 266) 272 (6) (by rw [h45]; decide) dX11_goes_6 (by decide) (by decide) (by decide) (by decide) ?_
    refine g_aload_n C 0 dX11_goes_272 rfl rfl ?_
    refine g_iload_n C 1 dX11_goes_273 rfl rfl ?_
    refine g_lload_n C 2 dX11_goes_274 rfl rfl ?_
    refine v_m_calls C ⟨by decide, by decide⟩ (Nat.le_of_ble_eq_true rfl) dX11_goes_275 (fun r46 σ47 _ => ?_)
    refine g_goto C 406 dX11_goes_278 (by decide) ?_
    exact g_vret C dX11_goes_406
  refine g_cs (fun h48 => ?_) (fun h48 => ?_)
  · refine g_tabIn C (off := 275) 281 (7) (by rw [h48]; decide) dX11_goes_6 (by decide) (by decide) (by decide) (by decide) ?_
    refine g_aload_n C 0 dX11_goes_281 rfl rfl ?_
    refine g_iload_n C 1 dX11_goes_282 rfl rfl ?_
    refine g_iconst C 1 dX11_goes_283 (by decide) ?_
    refine g_iadd C dX11_goes_284 ?_
    refine g_lload_n C 2 dX11_goes_285 rfl rfl ?_
    refine g_aload_n C 0 dX11_goes_286 rfl rfl ?_
    refine mg13 C dX11_goes_287 ?_
    refine g_iload_n C 1 dX11_goes_290 rfl rfl ?_
    refine mr13 C (v := gA σ 13 a1.toNatClampNeg) dX11_goes_291 rfl ?_
    refine g_lload_n C 2 dX11_goes_292 rfl rfl ?_
    refine g_bipush C 26 dX11_goes_293 (by decide) ?_
    refine v_m_factOf C ⟨by decide, by decide⟩ (Nat.le_of_ble_eq_true rfl) dX11_goes_295 (fun r49 σ50 _ => ?_)
    refine v_m_with C ⟨by decide, by decide⟩ (Nat.le_of_ble_eq_true rfl) dX11_goes_298 (fun r51 σ52 _ => ?_)
    refine v_m_flows C ⟨by decide, by decide⟩ (Nat.le_of_ble_eq_true rfl) dX11_goes_301 (fun r53 σ54 _ => ?_)
    refine g_goto C 406 dX11_goes_304 (by decide) ?_
    exact g_vret C dX11_goes_406
  refine g_cs (fun h55 => ?_) (fun h55 => ?_)
  · refine g_tabIn C (off := 301) 307 (8) (by rw [h55]; decide) dX11_goes_6 (by decide) (by decide) (by decide) (by decide) ?_
    refine g_lload_n C 2 dX11_goes_307 rfl rfl ?_
    refine g_aload_n C 0 dX11_goes_308 rfl rfl ?_
    refine mg13 C dX11_goes_309 ?_
    refine g_iload_n C 1 dX11_goes_312 rfl rfl ?_
    refine mr13 C (v := gA σ 13 a1.toNatClampNeg) dX11_goes_313 rfl ?_
    refine v_m_factOf C ⟨by decide, by decide⟩ (Nat.le_of_ble_eq_true rfl) dX11_goes_314 (fun r56 σ57 _ => ?_)
    refine g_iconst C 2 dX11_goes_317 (by decide) ?_
    refine g_iand C dX11_goes_318 ?_
    refine g_if_ne C 325 dX11_goes_319 (by decide) ?_ ?_
    · refine g_aload_n C 0 dX11_goes_325 rfl rfl ?_
      refine g_bipush C 40 dX11_goes_326 (by decide) ?_
      refine g_aload_n C 0 dX11_goes_328 rfl rfl ?_
      refine mg14 C dX11_goes_329 ?_
      refine g_iload_n C 1 dX11_goes_332 rfl rfl ?_
      refine mr14 C (v := gA σ57 14 a1.toNatClampNeg) dX11_goes_333 rfl ?_
      refine g_iadd C dX11_goes_334 ?_
      refine g_lload_n C 2 dX11_goes_335 rfl rfl ?_
      refine g_bipush C 26 dX11_goes_336 (by decide) ?_
      refine v_m_factOf C ⟨by decide, by decide⟩ (Nat.le_of_ble_eq_true rfl) dX11_goes_338 (fun r58 σ59 _ => ?_)
      refine v_m_puts C ⟨by decide, by decide⟩ (Nat.le_of_ble_eq_true rfl) dX11_goes_341 (fun r60 σ61 _ => ?_)
      refine g_aload_n C 0 dX11_goes_344 rfl rfl ?_
      refine g_iload_n C 1 dX11_goes_345 rfl rfl ?_
      refine g_iconst C 1 dX11_goes_346 (by decide) ?_
      refine g_iadd C dX11_goes_347 ?_
      refine g_lload_n C 2 dX11_goes_348 rfl rfl ?_
      refine g_aload_n C 0 dX11_goes_349 rfl rfl ?_
      refine mg13 C dX11_goes_350 ?_
      refine g_iload_n C 1 dX11_goes_353 rfl rfl ?_
      refine mr13 C (v := gA σ61 13 a1.toNatClampNeg) dX11_goes_354 rfl ?_
      refine g_iconst C 2 dX11_goes_355 (by decide) ?_
      refine v_m_with C ⟨by decide, by decide⟩ (Nat.le_of_ble_eq_true rfl) dX11_goes_356 (fun r62 σ63 _ => ?_)
      refine v_m_flows C ⟨by decide, by decide⟩ (Nat.le_of_ble_eq_true rfl) dX11_goes_359 (fun r64 σ65 _ => ?_)
      refine g_goto C 406 dX11_goes_362 (by decide) ?_
      exact g_vret C dX11_goes_406
    · refine g_goto C 406 dX11_goes_322 (by decide) ?_
      exact g_vret C dX11_goes_406
  refine g_cs (fun h66 => ?_) (fun h66 => ?_)
  · refine g_tabIn C (off := 359) 365 (9) (by rw [h66]; decide) dX11_goes_6 (by decide) (by decide) (by decide) (by decide) ?_
    refine g_aload_n C 0 dX11_goes_365 rfl rfl ?_
    refine g_bipush C 32 dX11_goes_366 (by decide) ?_
    refine g_aload_n C 0 dX11_goes_368 rfl rfl ?_
    refine g_iload_n C 1 dX11_goes_369 rfl rfl ?_
    refine v_m_routineAt C ⟨by decide, by decide⟩ (Nat.le_of_ble_eq_true rfl) dX11_goes_370 (fun r67 σ68 _ => ?_)
    refine g_iadd C dX11_goes_373 ?_
    refine g_lload_n C 2 dX11_goes_374 rfl rfl ?_
    refine g_bipush C 26 dX11_goes_375 (by decide) ?_
    refine v_m_factOf C ⟨by decide, by decide⟩ (Nat.le_of_ble_eq_true rfl) dX11_goes_377 (fun r69 σ70 _ => ?_)
    refine v_m_puts C ⟨by decide, by decide⟩ (Nat.le_of_ble_eq_true rfl) dX11_goes_380 (fun r71 σ72 _ => ?_)
    refine g_goto C 406 dX11_goes_383 (by decide) ?_
    exact g_vret C dX11_goes_406
  refine g_cs (fun h73 => ?_) (fun h73 => ?_)
  · refine g_tabIn C (off := 394) 400 (10) (by rw [h73]; decide) dX11_goes_6 (by decide) (by decide) (by decide) (by decide) ?_
    refine g_aload_n C 0 dX11_goes_400 rfl rfl ?_
    refine g_iload_n C 1 dX11_goes_401 rfl rfl ?_
    refine g_lload_n C 2 dX11_goes_402 rfl rfl ?_
    refine v_m_tests C ⟨by decide, by decide⟩ (Nat.le_of_ble_eq_true rfl) dX11_goes_403 (fun r74 σ75 _ => ?_)
    exact g_vret C dX11_goes_406
  refine g_cs (fun h76 => ?_) (fun h76 => ?_)
  · refine g_tabIn C (off := 394) 400 (11) (by rw [h76]; decide) dX11_goes_6 (by decide) (by decide) (by decide) (by decide) ?_
    refine g_aload_n C 0 dX11_goes_400 rfl rfl ?_
    refine g_iload_n C 1 dX11_goes_401 rfl rfl ?_
    refine g_lload_n C 2 dX11_goes_402 rfl rfl ?_
    refine v_m_tests C ⟨by decide, by decide⟩ (Nat.le_of_ble_eq_true rfl) dX11_goes_403 (fun r77 σ78 _ => ?_)
    exact g_vret C dX11_goes_406
  refine g_cs (fun h79 => ?_) (fun h79 => ?_)
  · refine g_tabIn C (off := 394) 400 (12) (by rw [h79]; decide) dX11_goes_6 (by decide) (by decide) (by decide) (by decide) ?_
    refine g_aload_n C 0 dX11_goes_400 rfl rfl ?_
    refine g_iload_n C 1 dX11_goes_401 rfl rfl ?_
    refine g_lload_n C 2 dX11_goes_402 rfl rfl ?_
    refine v_m_tests C ⟨by decide, by decide⟩ (Nat.le_of_ble_eq_true rfl) dX11_goes_403 (fun r80 σ81 _ => ?_)
    exact g_vret C dX11_goes_406
  refine g_cs (fun h82 => ?_) (fun h82 => ?_)
  · refine g_tabIn C (off := 380) 386 (13) (by rw [h82]; decide) dX11_goes_6 (by decide) (by decide) (by decide) (by decide) ?_
    refine g_aload_n C 0 dX11_goes_386 rfl rfl ?_
    refine g_aload_n C 0 dX11_goes_387 rfl rfl ?_
    refine mg13 C dX11_goes_388 ?_
    refine g_iload_n C 1 dX11_goes_391 rfl rfl ?_
    refine mr13 C (v := gA σ 13 a1.toNatClampNeg) dX11_goes_392 rfl ?_
    refine g_lload_n C 2 dX11_goes_393 rfl rfl ?_
    refine v_m_flows C ⟨by decide, by decide⟩ (Nat.le_of_ble_eq_true rfl) dX11_goes_394 (fun r83 σ84 _ => ?_)
    refine g_goto C 406 dX11_goes_397 (by decide) ?_
    exact g_vret C dX11_goes_406
  have ah1 : ¬ (gA σ 12 a1.toNatClampNeg).toInt = 0 := k_ne h1 (by decide)
  have bh1 : ¬ (0 : Int) = (gA σ 12 a1.toNatClampNeg).toInt := fun e9 => ah1 e9.symm
  have ah4 : ¬ (gA σ 12 a1.toNatClampNeg).toInt = 1 := k_ne h4 (by decide)
  have bh4 : ¬ (1 : Int) = (gA σ 12 a1.toNatClampNeg).toInt := fun e9 => ah4 e9.symm
  have ah9 : ¬ (gA σ 12 a1.toNatClampNeg).toInt = 2 := k_ne h9 (by decide)
  have bh9 : ¬ (2 : Int) = (gA σ 12 a1.toNatClampNeg).toInt := fun e9 => ah9 e9.symm
  have ah16 : ¬ (gA σ 12 a1.toNatClampNeg).toInt = 3 := k_ne h16 (by decide)
  have bh16 : ¬ (3 : Int) = (gA σ 12 a1.toNatClampNeg).toInt := fun e9 => ah16 e9.symm
  have ah29 : ¬ (gA σ 12 a1.toNatClampNeg).toInt = 4 := k_ne h29 (by decide)
  have bh29 : ¬ (4 : Int) = (gA σ 12 a1.toNatClampNeg).toInt := fun e9 => ah29 e9.symm
  have ah36 : ¬ (gA σ 12 a1.toNatClampNeg).toInt = 5 := k_ne h36 (by decide)
  have bh36 : ¬ (5 : Int) = (gA σ 12 a1.toNatClampNeg).toInt := fun e9 => ah36 e9.symm
  have ah45 : ¬ (gA σ 12 a1.toNatClampNeg).toInt = 6 := k_ne h45 (by decide)
  have bh45 : ¬ (6 : Int) = (gA σ 12 a1.toNatClampNeg).toInt := fun e9 => ah45 e9.symm
  have ah48 : ¬ (gA σ 12 a1.toNatClampNeg).toInt = 7 := k_ne h48 (by decide)
  have bh48 : ¬ (7 : Int) = (gA σ 12 a1.toNatClampNeg).toInt := fun e9 => ah48 e9.symm
  have ah55 : ¬ (gA σ 12 a1.toNatClampNeg).toInt = 8 := k_ne h55 (by decide)
  have bh55 : ¬ (8 : Int) = (gA σ 12 a1.toNatClampNeg).toInt := fun e9 => ah55 e9.symm
  have ah66 : ¬ (gA σ 12 a1.toNatClampNeg).toInt = 9 := k_ne h66 (by decide)
  have bh66 : ¬ (9 : Int) = (gA σ 12 a1.toNatClampNeg).toInt := fun e9 => ah66 e9.symm
  have ah73 : ¬ (gA σ 12 a1.toNatClampNeg).toInt = 10 := k_ne h73 (by decide)
  have bh73 : ¬ (10 : Int) = (gA σ 12 a1.toNatClampNeg).toInt := fun e9 => ah73 e9.symm
  have ah76 : ¬ (gA σ 12 a1.toNatClampNeg).toInt = 11 := k_ne h76 (by decide)
  have bh76 : ¬ (11 : Int) = (gA σ 12 a1.toNatClampNeg).toInt := fun e9 => ah76 e9.symm
  have ah79 : ¬ (gA σ 12 a1.toNatClampNeg).toInt = 12 := k_ne h79 (by decide)
  have bh79 : ¬ (12 : Int) = (gA σ 12 a1.toNatClampNeg).toInt := fun e9 => ah79 e9.symm
  have ah82 : ¬ (gA σ 12 a1.toNatClampNeg).toInt = 13 := k_ne h82 (by decide)
  have bh82 : ¬ (13 : Int) = (gA σ 12 a1.toNatClampNeg).toInt := fun e9 => ah82 e9.symm
  refine g_tabOut C 400 dX11_goes_6 (by omega) (by decide) ?_
  refine g_aload_n C 0 dX11_goes_400 rfl rfl ?_
  refine g_iload_n C 1 dX11_goes_401 rfl rfl ?_
  refine g_lload_n C 2 dX11_goes_402 rfl rfl ?_
  refine v_m_tests C ⟨by decide, by decide⟩ (Nat.le_of_ble_eq_true rfl) dX11_goes_403 (fun r85 σ86 _ => ?_)
  exact g_vret C dX11_goes_406
theorem c_m_goes {Y : Yx} {ad : Nat → Nat} {N : Nat} {σ : St} {a1 : Int32} {a2 : Int64} {r : Unit} {σ' : St} (h : m_goes N σ a1 a2 = some (r, σ')) : Con Y scM ad yX11_goes cX11_goes 4 none 3 75 [.ref (ad 0), .int a1, .long a2] σ (outV r) σ' := con_of (by decide) rfl (Nat.le_of_ble_eq_true rfl) rfl (fun X hX C => s_m_goes C N σ a1 a2) h
set_option maxRecDepth 20000 in
theorem v_m_goes {X : Cx} {cc : ByteArray} {nL : Nat} {ret : Option FieldType} {fr lo : Nat} {ad : Nat → Nat} {ρ : Type} {out : ρ → Option Value} {pc : Nat} {lv : List (Nat × Value)} {rest : List Value} {σ : St} {N : Nat} {K : Unit → St → Option (ρ × St)} {a1 : Int32} {a2 : Int64} (C : Ok X cc RX11 nL ret fr lo) (hR : 3 + 1 ≤ fr ∧ 8 + (4 + 11) + 75 ≤ lo) (hcat : (rest.map fun v => v.category).sum ≤ 8) (hdg : decode cc pc = .ok (.invokevirtual 284, 3)) (k : ∀ (r : Unit) (σ' : St), m_goes N σ a1 a2 = some (r, σ') → Sim X scM ad nL out (pc + 3) lv rest σ' (K r σ')) : Sim X scM ad nL out pc lv (.long a2 :: .int a1 :: .ref (ad 0) :: rest) σ (bd (m_goes N σ a1 a2) K) := g_callV C (out1 := outV) (y := yX11_goes) (n := 2) ⟨gw_1456, gw_1458, gw_90, gw_117, gw_1459⟩ (by decide +kernel) hR (o := 0) (ci := 10) (q9 := (RX11, TX11, 68)) imM0 rfl rfl rfl (fun r σ' h => c_m_goes h) rfl rfl hcat hdg k

def m_reckons_194 (N : Nat) (rec82 : St → Option (Unit × St)) (σ : St) : Option (Unit × St) :=
  rec82 σ
def m_reckons_188 (N : Nat) (rec82 : St → Option (Unit × St)) (rec158 : St → Int32 → Option (Unit × St)) (σ : St) (x1 : Int32) : Option (Unit × St) :=
  rec158 σ (x1 + 1)
def m_reckons_158_b (N : Nat) (rec82 : St → Option (Unit × St)) (rec158 : St → Int32 → Option (Unit × St)) (σ : St) (x1 : Int32) : Option (Unit × St) :=
  (if (gI σ 18) ≤ x1 then m_reckons_194 N rec82 σ else gd (ib x1 1300) ((if (lg_cmp (gZ σ 41 x1.toNatClampNeg) 0) = 0 then m_reckons_188 N rec82 rec158 σ x1 else gd (ib x1 1300) (bd (m_goes N σ x1 (gZ σ 41 x1.toNatClampNeg)) (fun _ σ4 => m_reckons_188 N rec82 rec158 σ4 x1)))))
def m_reckons_158 (N : Nat) (rec82 : St → Option (Unit × St)) : Nat → St → Int32 → Option (Unit × St)
  | 0 => fun _ _ => none
  | n + 1 => fun σ x1 => m_reckons_158_b N rec82 (m_reckons_158 N rec82 n) σ x1
def m_reckons_148 (N : Nat) (rec82 : St → Option (Unit × St)) (σ : St) : Option (Unit × St) :=
  bd (m_begins N σ (gI σ 39)) (fun _ σ2 => m_reckons_158 N rec82 N σ2 0)
def m_reckons_142 (N : Nat) (rec82 : St → Option (Unit × St)) (rec96 : St → Int32 → Option (Unit × St)) (σ : St) (x1 : Int32) : Option (Unit × St) :=
  rec96 σ (x1 + 1)
def m_reckons_96_b (N : Nat) (rec82 : St → Option (Unit × St)) (rec96 : St → Int32 → Option (Unit × St)) (σ : St) (x1 : Int32) : Option (Unit × St) :=
  gd (ib (gI σ 39) 16) ((if (gA σ 20 ((gI σ 39).toNatClampNeg)) ≤ x1 then m_reckons_148 N rec82 σ else gd (ib x1 4) (bd (m_puts N σ ((4 * (gI σ 39)) + x1) (gA σ 40 x1.toNatClampNeg)) (fun _ σ6 => gd (ib x1 4) ((if ((gA σ6 40 x1.toNatClampNeg) &&& 2) = 0 then m_reckons_142 N rec82 rec96 σ6 x1 else bd (m_putsThings N σ6) (fun _ σ8 => m_reckons_142 N rec82 rec96 σ8 x1)))))))
def m_reckons_96 (N : Nat) (rec82 : St → Option (Unit × St)) : Nat → St → Int32 → Option (Unit × St)
  | 0 => fun _ _ => none
  | n + 1 => fun σ x1 => m_reckons_96_b N rec82 (m_reckons_96 N rec82 n) σ x1
def m_reckons_82_b (N : Nat) (rec82 : St → Option (Unit × St)) (σ : St) : Option (Unit × St) :=
  (if (gI σ 45) = 0 then some ((), σ) else m_reckons_96 N rec82 N (sI σ 45 0) 0)
def m_reckons_82 (N : Nat) : Nat → St → Option (Unit × St)
  | 0 => fun _ => none
  | n + 1 => fun σ => m_reckons_82_b N (m_reckons_82 N n) σ
def m_reckons_65 (N : Nat) (σ : St) : Option (Unit × St) :=
  (if (gI σ 39) = (-1) then m_reckons_82 N N (sI σ 45 0) else m_reckons_82 N N (sI σ 45 1))
def m_reckons_46_b (N : Nat) (rec46 : St → Int32 → Option (Unit × St)) (σ : St) (x1 : Int32) : Option (Unit × St) :=
  (if 25 ≤ x1 then m_reckons_65 N σ else gd (ib x1 25) (rec46 (sA σ 44 x1.toNatClampNeg 0) (x1 + 1)))
def m_reckons_46 (N : Nat) : Nat → St → Int32 → Option (Unit × St)
  | 0 => fun _ _ => none
  | n + 1 => fun σ x1 => m_reckons_46_b N (m_reckons_46 N n) σ x1
def m_reckons_25_b (N : Nat) (rec25 : St → Int32 → Option (Unit × St)) (σ : St) (x1 : Int32) : Option (Unit × St) :=
  (if 42 ≤ x1 then m_reckons_46 N N σ 0 else gd (ib x1 42) (rec25 (sA σ 42 x1.toNatClampNeg 0) (x1 + 1)))
def m_reckons_25 (N : Nat) : Nat → St → Int32 → Option (Unit × St)
  | 0 => fun _ _ => none
  | n + 1 => fun σ x1 => m_reckons_25_b N (m_reckons_25 N n) σ x1
def m_reckons_2_b (N : Nat) (rec2 : St → Int32 → Option (Unit × St)) (σ : St) (x1 : Int32) : Option (Unit × St) :=
  (if (gI σ 18) ≤ x1 then m_reckons_25 N N σ 0 else gd (ib x1 1300) (rec2 (sZ σ 41 x1.toNatClampNeg 0) (x1 + 1)))
def m_reckons_2 (N : Nat) : Nat → St → Int32 → Option (Unit × St)
  | 0 => fun _ _ => none
  | n + 1 => fun σ x1 => m_reckons_2_b N (m_reckons_2 N n) σ x1
def m_reckons (N : Nat) (σ : St) : Option (Unit × St) :=
  m_reckons_2 N N σ 0
set_option maxHeartbeats 4000000 in
set_option maxRecDepth 100000 in
theorem s_m_reckons_194 {X : Cx} {ad : Nat → Nat} (C : Ok X cX11_reckons RX11 2 none 4 98) (N : Nat) {rec82 : St → Option (Unit × St)} (hrec82 : ∀ (σ : St), Sim X scM ad 2 outV 82 [(0, .ref (ad 0))] [] σ (rec82 σ)) (σ : St) : Sim X scM ad 2 outV 194 [(0, .ref (ad 0))] [] σ (m_reckons_194 N rec82 σ) := by
  unfold m_reckons_194
  refine g_goto C 82 dX11_reckons_194 (by decide) ?_
  exact g_sub [0] rfl (hrec82 σ)
set_option maxHeartbeats 4000000 in
set_option maxRecDepth 100000 in
theorem s_m_reckons_188 {X : Cx} {ad : Nat → Nat} (C : Ok X cX11_reckons RX11 2 none 4 98) (N : Nat) {rec82 : St → Option (Unit × St)} (hrec82 : ∀ (σ : St), Sim X scM ad 2 outV 82 [(0, .ref (ad 0))] [] σ (rec82 σ)) {rec158 : St → Int32 → Option (Unit × St)} (hrec158 : ∀ (σ : St) (x1 : Int32), Sim X scM ad 2 outV 158 [(0, .ref (ad 0)), (1, .int x1)] [] σ (rec158 σ x1)) (σ : St) (x1 : Int32) : Sim X scM ad 2 outV 188 [(0, .ref (ad 0)), (1, .int x1)] [] σ (m_reckons_188 N rec82 rec158 σ x1) := by
  unfold m_reckons_188
  refine g_iinc C (x1 + 1) 1 [(1, .int (x1 + 1)), (0, .ref (ad 0))] dX11_reckons_188 rfl rfl (by decide) rfl ?_
  refine g_goto C 158 dX11_reckons_191 (by decide) ?_
  exact g_sub [1, 0] rfl (hrec158 σ (x1 + 1))
set_option maxHeartbeats 4000000 in
set_option maxRecDepth 100000 in
theorem s_m_reckons_158_b {X : Cx} {ad : Nat → Nat} (C : Ok X cX11_reckons RX11 2 none 4 98) (N : Nat) {rec82 : St → Option (Unit × St)} (hrec82 : ∀ (σ : St), Sim X scM ad 2 outV 82 [(0, .ref (ad 0))] [] σ (rec82 σ)) {rec158 : St → Int32 → Option (Unit × St)} (hrec158 : ∀ (σ : St) (x1 : Int32), Sim X scM ad 2 outV 158 [(0, .ref (ad 0)), (1, .int x1)] [] σ (rec158 σ x1)) (σ : St) (x1 : Int32) : Sim X scM ad 2 outV 158 [(0, .ref (ad 0)), (1, .int x1)] [] σ (m_reckons_158_b N rec82 rec158 σ x1) := by
  unfold m_reckons_158_b
  refine g_iload_n C 1 dX11_reckons_158 rfl rfl ?_
  refine g_aload_n C 0 dX11_reckons_159 rfl rfl ?_
  refine mg18 C (v := gI σ 18) dX11_reckons_160 rfl ?_
  refine g_icmp_ge C 194 dX11_reckons_163 (by decide) ?_ ?_
  · exact g_sub [0] rfl (s_m_reckons_194 C N hrec82 σ)
  · refine g_aload_n C 0 dX11_reckons_166 rfl rfl ?_
    refine mg41 C dX11_reckons_167 ?_
    refine g_iload_n C 1 dX11_reckons_170 rfl rfl ?_
    refine mr41 C (v := gZ σ 41 x1.toNatClampNeg) dX11_reckons_171 rfl ?_
    refine g_lconst C 0 dX11_reckons_172 (by decide) ?_
    refine g_lcmp C dX11_reckons_173 ?_
    refine g_if_eq C 188 dX11_reckons_174 (by decide) ?_ ?_
    · exact g_sub [0, 1] rfl (s_m_reckons_188 C N hrec82 hrec158 σ x1)
    · refine g_aload_n C 0 dX11_reckons_177 rfl rfl ?_
      refine g_iload_n C 1 dX11_reckons_178 rfl rfl ?_
      refine g_aload_n C 0 dX11_reckons_179 rfl rfl ?_
      refine mg41 C dX11_reckons_180 ?_
      refine g_iload_n C 1 dX11_reckons_183 rfl rfl ?_
      refine mr41 C (v := gZ σ 41 x1.toNatClampNeg) dX11_reckons_184 rfl ?_
      refine v_m_goes C ⟨by decide, by decide⟩ (Nat.le_of_ble_eq_true rfl) dX11_reckons_185 (fun r3 σ4 _ => ?_)
      exact g_sub [0, 1] rfl (s_m_reckons_188 C N hrec82 hrec158 σ4 x1)
set_option maxHeartbeats 4000000 in
set_option maxRecDepth 100000 in
theorem s_m_reckons_158 {X : Cx} {ad : Nat → Nat} (C : Ok X cX11_reckons RX11 2 none 4 98) (N : Nat) {rec82 : St → Option (Unit × St)} (hrec82 : ∀ (σ : St), Sim X scM ad 2 outV 82 [(0, .ref (ad 0))] [] σ (rec82 σ)) : ∀ (n : Nat) (σ : St) (x1 : Int32), Sim X scM ad 2 outV 158 [(0, .ref (ad 0)), (1, .int x1)] [] σ (m_reckons_158 N rec82 n σ x1) := by
  intro n
  induction n with
  | zero => intro σ x1; exact g_none
  | succ n ih => intro σ x1; exact s_m_reckons_158_b C N hrec82 ih σ x1
set_option maxHeartbeats 4000000 in
set_option maxRecDepth 100000 in
theorem s_m_reckons_148 {X : Cx} {ad : Nat → Nat} (C : Ok X cX11_reckons RX11 2 none 4 98) (N : Nat) {rec82 : St → Option (Unit × St)} (hrec82 : ∀ (σ : St), Sim X scM ad 2 outV 82 [(0, .ref (ad 0))] [] σ (rec82 σ)) (σ : St) : Sim X scM ad 2 outV 148 [(0, .ref (ad 0))] [] σ (m_reckons_148 N rec82 σ) := by
  unfold m_reckons_148
  refine g_aload_n C 0 dX11_reckons_148 rfl rfl ?_
  refine g_aload_n C 0 dX11_reckons_149 rfl rfl ?_
  refine mg39 C (v := gI σ 39) dX11_reckons_150 rfl ?_
  refine v_m_begins C ⟨by decide, by decide⟩ (Nat.le_of_ble_eq_true rfl) dX11_reckons_153 (fun r1 σ2 _ => ?_)
  refine g_iconst C 0 dX11_reckons_156 (by decide) ?_
  refine g_istore_n C [(1, .int 0), (0, .ref (ad 0))] dX11_reckons_157 rfl (by decide) rfl ?_
  exact g_sub [1, 0] rfl (s_m_reckons_158 C N hrec82 N σ2 0)
set_option maxHeartbeats 4000000 in
set_option maxRecDepth 100000 in
theorem s_m_reckons_142 {X : Cx} {ad : Nat → Nat} (C : Ok X cX11_reckons RX11 2 none 4 98) (N : Nat) {rec82 : St → Option (Unit × St)} (hrec82 : ∀ (σ : St), Sim X scM ad 2 outV 82 [(0, .ref (ad 0))] [] σ (rec82 σ)) {rec96 : St → Int32 → Option (Unit × St)} (hrec96 : ∀ (σ : St) (x1 : Int32), Sim X scM ad 2 outV 96 [(0, .ref (ad 0)), (1, .int x1)] [] σ (rec96 σ x1)) (σ : St) (x1 : Int32) : Sim X scM ad 2 outV 142 [(0, .ref (ad 0)), (1, .int x1)] [] σ (m_reckons_142 N rec82 rec96 σ x1) := by
  unfold m_reckons_142
  refine g_iinc C (x1 + 1) 1 [(1, .int (x1 + 1)), (0, .ref (ad 0))] dX11_reckons_142 rfl rfl (by decide) rfl ?_
  refine g_goto C 96 dX11_reckons_145 (by decide) ?_
  exact g_sub [1, 0] rfl (hrec96 σ (x1 + 1))
set_option maxHeartbeats 4000000 in
set_option maxRecDepth 100000 in
theorem s_m_reckons_96_b {X : Cx} {ad : Nat → Nat} (C : Ok X cX11_reckons RX11 2 none 4 98) (N : Nat) {rec82 : St → Option (Unit × St)} (hrec82 : ∀ (σ : St), Sim X scM ad 2 outV 82 [(0, .ref (ad 0))] [] σ (rec82 σ)) {rec96 : St → Int32 → Option (Unit × St)} (hrec96 : ∀ (σ : St) (x1 : Int32), Sim X scM ad 2 outV 96 [(0, .ref (ad 0)), (1, .int x1)] [] σ (rec96 σ x1)) (σ : St) (x1 : Int32) : Sim X scM ad 2 outV 96 [(0, .ref (ad 0)), (1, .int x1)] [] σ (m_reckons_96_b N rec82 rec96 σ x1) := by
  unfold m_reckons_96_b
  refine g_iload_n C 1 dX11_reckons_96 rfl rfl ?_
  refine g_aload_n C 0 dX11_reckons_97 rfl rfl ?_
  refine mg20 C dX11_reckons_98 ?_
  refine g_aload_n C 0 dX11_reckons_101 rfl rfl ?_
  refine mg39 C (v := gI σ 39) dX11_reckons_102 rfl ?_
  refine mr20 C (v := gA σ 20 ((gI σ 39).toNatClampNeg)) dX11_reckons_105 rfl ?_
  refine g_icmp_ge C 148 dX11_reckons_106 (by decide) ?_ ?_
  · exact g_sub [0] rfl (s_m_reckons_148 C N hrec82 σ)
  · refine g_aload_n C 0 dX11_reckons_109 rfl rfl ?_
    refine g_iconst C 4 dX11_reckons_110 (by decide) ?_
    refine g_aload_n C 0 dX11_reckons_111 rfl rfl ?_
    refine mg39 C (v := gI σ 39) dX11_reckons_112 rfl ?_
    refine g_imul C dX11_reckons_115 ?_
    refine g_iload_n C 1 dX11_reckons_116 rfl rfl ?_
    refine g_iadd C dX11_reckons_117 ?_
    refine g_aload_n C 0 dX11_reckons_118 rfl rfl ?_
    refine mg40 C dX11_reckons_119 ?_
    refine g_iload_n C 1 dX11_reckons_122 rfl rfl ?_
    refine mr40 C (v := gA σ 40 x1.toNatClampNeg) dX11_reckons_123 rfl ?_
    refine v_m_puts C ⟨by decide, by decide⟩ (Nat.le_of_ble_eq_true rfl) dX11_reckons_124 (fun r5 σ6 _ => ?_)
    refine g_aload_n C 0 dX11_reckons_127 rfl rfl ?_
    refine mg40 C dX11_reckons_128 ?_
    refine g_iload_n C 1 dX11_reckons_131 rfl rfl ?_
    refine mr40 C (v := gA σ6 40 x1.toNatClampNeg) dX11_reckons_132 rfl ?_
    refine g_iconst C 2 dX11_reckons_133 (by decide) ?_
    refine g_iand C dX11_reckons_134 ?_
    refine g_if_eq C 142 dX11_reckons_135 (by decide) ?_ ?_
    · exact g_sub [0, 1] rfl (s_m_reckons_142 C N hrec82 hrec96 σ6 x1)
    · refine g_aload_n C 0 dX11_reckons_138 rfl rfl ?_
      refine v_m_putsThings C ⟨by decide, by decide⟩ (Nat.le_of_ble_eq_true rfl) dX11_reckons_139 (fun r7 σ8 _ => ?_)
      exact g_sub [0, 1] rfl (s_m_reckons_142 C N hrec82 hrec96 σ8 x1)
set_option maxHeartbeats 4000000 in
set_option maxRecDepth 100000 in
theorem s_m_reckons_96 {X : Cx} {ad : Nat → Nat} (C : Ok X cX11_reckons RX11 2 none 4 98) (N : Nat) {rec82 : St → Option (Unit × St)} (hrec82 : ∀ (σ : St), Sim X scM ad 2 outV 82 [(0, .ref (ad 0))] [] σ (rec82 σ)) : ∀ (n : Nat) (σ : St) (x1 : Int32), Sim X scM ad 2 outV 96 [(0, .ref (ad 0)), (1, .int x1)] [] σ (m_reckons_96 N rec82 n σ x1) := by
  intro n
  induction n with
  | zero => intro σ x1; exact g_none
  | succ n ih => intro σ x1; exact s_m_reckons_96_b C N hrec82 ih σ x1
set_option maxHeartbeats 4000000 in
set_option maxRecDepth 100000 in
theorem s_m_reckons_82_b {X : Cx} {ad : Nat → Nat} (C : Ok X cX11_reckons RX11 2 none 4 98) (N : Nat) {rec82 : St → Option (Unit × St)} (hrec82 : ∀ (σ : St), Sim X scM ad 2 outV 82 [(0, .ref (ad 0))] [] σ (rec82 σ)) (σ : St) : Sim X scM ad 2 outV 82 [(0, .ref (ad 0))] [] σ (m_reckons_82_b N rec82 σ) := by
  unfold m_reckons_82_b
  refine g_aload_n C 0 dX11_reckons_82 rfl rfl ?_
  refine mg45 C (v := gI σ 45) dX11_reckons_83 rfl ?_
  refine g_if_eq C 197 dX11_reckons_86 (by decide) ?_ ?_
  · exact g_vret C dX11_reckons_197
  · refine g_aload_n C 0 dX11_reckons_89 rfl rfl ?_
    refine g_iconst C 0 dX11_reckons_90 (by decide) ?_
    refine mp45 C rfl dX11_reckons_91 ?_
    refine g_iconst C 0 dX11_reckons_94 (by decide) ?_
    refine g_istore_n C [(1, .int 0), (0, .ref (ad 0))] dX11_reckons_95 rfl (by decide) rfl ?_
    exact g_sub [1, 0] rfl (s_m_reckons_96 C N hrec82 N (sI σ 45 0) 0)
set_option maxHeartbeats 4000000 in
set_option maxRecDepth 100000 in
theorem s_m_reckons_82 {X : Cx} {ad : Nat → Nat} (C : Ok X cX11_reckons RX11 2 none 4 98) (N : Nat) : ∀ (n : Nat) (σ : St), Sim X scM ad 2 outV 82 [(0, .ref (ad 0))] [] σ (m_reckons_82 N n σ) := by
  intro n
  induction n with
  | zero => intro σ; exact g_none
  | succ n ih => intro σ; exact s_m_reckons_82_b C N ih σ
set_option maxHeartbeats 4000000 in
set_option maxRecDepth 100000 in
theorem s_m_reckons_65 {X : Cx} {ad : Nat → Nat} (C : Ok X cX11_reckons RX11 2 none 4 98) (N : Nat) (σ : St) : Sim X scM ad 2 outV 65 [(0, .ref (ad 0))] [] σ (m_reckons_65 N σ) := by
  unfold m_reckons_65
  refine g_aload_n C 0 dX11_reckons_65 rfl rfl ?_
  refine g_aload_n C 0 dX11_reckons_66 rfl rfl ?_
  refine mg39 C (v := gI σ 39) dX11_reckons_67 rfl ?_
  refine g_iconst C (-1) dX11_reckons_70 (by decide) ?_
  refine g_icmp_eq C 78 dX11_reckons_71 (by decide) ?_ ?_
  · refine g_iconst C 0 dX11_reckons_78 (by decide) ?_
    refine mp45 C rfl dX11_reckons_79 ?_
    exact g_sub [0] rfl (s_m_reckons_82 C N N (sI σ 45 0))
  · refine g_iconst C 1 dX11_reckons_74 (by decide) ?_
    refine g_goto C 79 dX11_reckons_75 (by decide) ?_
    refine mp45 C rfl dX11_reckons_79 ?_
    exact g_sub [0] rfl (s_m_reckons_82 C N N (sI σ 45 1))
set_option maxHeartbeats 4000000 in
set_option maxRecDepth 100000 in
theorem s_m_reckons_46_b {X : Cx} {ad : Nat → Nat} (C : Ok X cX11_reckons RX11 2 none 4 98) (N : Nat) {rec46 : St → Int32 → Option (Unit × St)} (hrec46 : ∀ (σ : St) (x1 : Int32), Sim X scM ad 2 outV 46 [(0, .ref (ad 0)), (1, .int x1)] [] σ (rec46 σ x1)) (σ : St) (x1 : Int32) : Sim X scM ad 2 outV 46 [(0, .ref (ad 0)), (1, .int x1)] [] σ (m_reckons_46_b N rec46 σ x1) := by
  unfold m_reckons_46_b
  refine g_iload_n C 1 dX11_reckons_46 rfl rfl ?_
  refine g_bipush C 25 dX11_reckons_47 (by decide) ?_
  refine g_icmp_ge C 65 dX11_reckons_49 (by decide) ?_ ?_
  · exact g_sub [0] rfl (s_m_reckons_65 C N σ)
  · refine g_aload_n C 0 dX11_reckons_52 rfl rfl ?_
    refine mg44 C dX11_reckons_53 ?_
    refine g_iload_n C 1 dX11_reckons_56 rfl rfl ?_
    refine g_iconst C 0 dX11_reckons_57 (by decide) ?_
    refine mw44 C dX11_reckons_58 ?_
    refine g_iinc C (x1 + 1) 1 [(1, .int (x1 + 1)), (0, .ref (ad 0))] dX11_reckons_59 rfl rfl (by decide) rfl ?_
    refine g_goto C 46 dX11_reckons_62 (by decide) ?_
    exact g_sub [1, 0] rfl (hrec46 (sA σ 44 x1.toNatClampNeg 0) (x1 + 1))
set_option maxHeartbeats 4000000 in
set_option maxRecDepth 100000 in
theorem s_m_reckons_46 {X : Cx} {ad : Nat → Nat} (C : Ok X cX11_reckons RX11 2 none 4 98) (N : Nat) : ∀ (n : Nat) (σ : St) (x1 : Int32), Sim X scM ad 2 outV 46 [(0, .ref (ad 0)), (1, .int x1)] [] σ (m_reckons_46 N n σ x1) := by
  intro n
  induction n with
  | zero => intro σ x1; exact g_none
  | succ n ih => intro σ x1; exact s_m_reckons_46_b C N ih σ x1
set_option maxHeartbeats 4000000 in
set_option maxRecDepth 100000 in
theorem s_m_reckons_25_b {X : Cx} {ad : Nat → Nat} (C : Ok X cX11_reckons RX11 2 none 4 98) (N : Nat) {rec25 : St → Int32 → Option (Unit × St)} (hrec25 : ∀ (σ : St) (x1 : Int32), Sim X scM ad 2 outV 25 [(0, .ref (ad 0)), (1, .int x1)] [] σ (rec25 σ x1)) (σ : St) (x1 : Int32) : Sim X scM ad 2 outV 25 [(0, .ref (ad 0)), (1, .int x1)] [] σ (m_reckons_25_b N rec25 σ x1) := by
  unfold m_reckons_25_b
  refine g_iload_n C 1 dX11_reckons_25 rfl rfl ?_
  refine g_bipush C 42 dX11_reckons_26 (by decide) ?_
  refine g_icmp_ge C 44 dX11_reckons_28 (by decide) ?_ ?_
  · refine g_iconst C 0 dX11_reckons_44 (by decide) ?_
    refine g_istore_n C [(1, .int 0), (0, .ref (ad 0))] dX11_reckons_45 rfl (by decide) rfl ?_
    exact g_sub [1, 0] rfl (s_m_reckons_46 C N N σ 0)
  · refine g_aload_n C 0 dX11_reckons_31 rfl rfl ?_
    refine mg42 C dX11_reckons_32 ?_
    refine g_iload_n C 1 dX11_reckons_35 rfl rfl ?_
    refine g_iconst C 0 dX11_reckons_36 (by decide) ?_
    refine mw42 C dX11_reckons_37 ?_
    refine g_iinc C (x1 + 1) 1 [(1, .int (x1 + 1)), (0, .ref (ad 0))] dX11_reckons_38 rfl rfl (by decide) rfl ?_
    refine g_goto C 25 dX11_reckons_41 (by decide) ?_
    exact g_sub [1, 0] rfl (hrec25 (sA σ 42 x1.toNatClampNeg 0) (x1 + 1))
set_option maxHeartbeats 4000000 in
set_option maxRecDepth 100000 in
theorem s_m_reckons_25 {X : Cx} {ad : Nat → Nat} (C : Ok X cX11_reckons RX11 2 none 4 98) (N : Nat) : ∀ (n : Nat) (σ : St) (x1 : Int32), Sim X scM ad 2 outV 25 [(0, .ref (ad 0)), (1, .int x1)] [] σ (m_reckons_25 N n σ x1) := by
  intro n
  induction n with
  | zero => intro σ x1; exact g_none
  | succ n ih => intro σ x1; exact s_m_reckons_25_b C N ih σ x1
set_option maxHeartbeats 4000000 in
set_option maxRecDepth 100000 in
theorem s_m_reckons_2_b {X : Cx} {ad : Nat → Nat} (C : Ok X cX11_reckons RX11 2 none 4 98) (N : Nat) {rec2 : St → Int32 → Option (Unit × St)} (hrec2 : ∀ (σ : St) (x1 : Int32), Sim X scM ad 2 outV 2 [(0, .ref (ad 0)), (1, .int x1)] [] σ (rec2 σ x1)) (σ : St) (x1 : Int32) : Sim X scM ad 2 outV 2 [(0, .ref (ad 0)), (1, .int x1)] [] σ (m_reckons_2_b N rec2 σ x1) := by
  unfold m_reckons_2_b
  refine g_iload_n C 1 dX11_reckons_2 rfl rfl ?_
  refine g_aload_n C 0 dX11_reckons_3 rfl rfl ?_
  refine mg18 C (v := gI σ 18) dX11_reckons_4 rfl ?_
  refine g_icmp_ge C 23 dX11_reckons_7 (by decide) ?_ ?_
  · refine g_iconst C 0 dX11_reckons_23 (by decide) ?_
    refine g_istore_n C [(1, .int 0), (0, .ref (ad 0))] dX11_reckons_24 rfl (by decide) rfl ?_
    exact g_sub [1, 0] rfl (s_m_reckons_25 C N N σ 0)
  · refine g_aload_n C 0 dX11_reckons_10 rfl rfl ?_
    refine mg41 C dX11_reckons_11 ?_
    refine g_iload_n C 1 dX11_reckons_14 rfl rfl ?_
    refine g_lconst C 0 dX11_reckons_15 (by decide) ?_
    refine mw41 C dX11_reckons_16 ?_
    refine g_iinc C (x1 + 1) 1 [(1, .int (x1 + 1)), (0, .ref (ad 0))] dX11_reckons_17 rfl rfl (by decide) rfl ?_
    refine g_goto C 2 dX11_reckons_20 (by decide) ?_
    exact g_sub [1, 0] rfl (hrec2 (sZ σ 41 x1.toNatClampNeg 0) (x1 + 1))
set_option maxHeartbeats 4000000 in
set_option maxRecDepth 100000 in
theorem s_m_reckons_2 {X : Cx} {ad : Nat → Nat} (C : Ok X cX11_reckons RX11 2 none 4 98) (N : Nat) : ∀ (n : Nat) (σ : St) (x1 : Int32), Sim X scM ad 2 outV 2 [(0, .ref (ad 0)), (1, .int x1)] [] σ (m_reckons_2 N n σ x1) := by
  intro n
  induction n with
  | zero => intro σ x1; exact g_none
  | succ n ih => intro σ x1; exact s_m_reckons_2_b C N ih σ x1
set_option maxHeartbeats 4000000 in
set_option maxRecDepth 100000 in
theorem s_m_reckons {X : Cx} {ad : Nat → Nat} (C : Ok X cX11_reckons RX11 2 none 4 98) (N : Nat) (σ : St) : Sim X scM ad 2 outV 0 [(0, .ref (ad 0))] [] σ (m_reckons N σ) := by
  unfold m_reckons
  refine g_iconst C 0 dX11_reckons_0 (by decide) ?_
  refine g_istore_n C [(1, .int 0), (0, .ref (ad 0))] dX11_reckons_1 rfl (by decide) rfl ?_
  exact g_sub [1, 0] rfl (s_m_reckons_2 C N N σ 0)
theorem c_m_reckons {Y : Yx} {ad : Nat → Nat} {N : Nat} {σ : St} {r : Unit} {σ' : St} (h : m_reckons N σ = some (r, σ')) : Con Y scM ad yX11_reckons cX11_reckons 2 none 4 98 [.ref (ad 0)] σ (outV r) σ' := con_of (by decide) rfl (Nat.le_of_ble_eq_true rfl) rfl (fun X hX C => s_m_reckons C N σ) h
set_option maxRecDepth 20000 in
theorem v_m_reckons {X : Cx} {cc : ByteArray} {nL : Nat} {ret : Option FieldType} {fr lo : Nat} {ad : Nat → Nat} {ρ : Type} {out : ρ → Option Value} {pc : Nat} {lv : List (Nat × Value)} {rest : List Value} {σ : St} {N : Nat} {K : Unit → St → Option (ρ × St)} (C : Ok X cc RX11 nL ret fr lo) (hR : 4 + 1 ≤ fr ∧ 8 + (2 + 11) + 98 ≤ lo) (hcat : (rest.map fun v => v.category).sum ≤ 8) (hdg : decode cc pc = .ok (.invokevirtual 302, 3)) (k : ∀ (r : Unit) (σ' : St), m_reckons N σ = some (r, σ') → Sim X scM ad nL out (pc + 3) lv rest σ' (K r σ')) : Sim X scM ad nL out pc lv (.ref (ad 0) :: rest) σ (bd (m_reckons N σ) K) := g_callV C (out1 := outV) (y := yX11_reckons) (n := 0) ⟨gw_1430, gw_1432, gw_85, gw_117, gw_1433⟩ (by decide +kernel) hR (o := 0) (ci := 10) (q9 := (RX11, TX11, 68)) imM0 rfl rfl rfl (fun r σ' h => c_m_reckons h) rfl rfl hcat hdg k

def m_frees_2_b (N : Nat) (rec2 : St → Int32 → Option (Unit × St)) (σ : St) (x1 : Int32) : Option (Unit × St) :=
  (if 42 ≤ x1 then some ((), σ) else gd (ib x1 42) (rec2 (sA σ 43 x1.toNatClampNeg (vp_nar .boolean 0)) (x1 + 1)))
def m_frees_2 (N : Nat) : Nat → St → Int32 → Option (Unit × St)
  | 0 => fun _ _ => none
  | n + 1 => fun σ x1 => m_frees_2_b N (m_frees_2 N n) σ x1
def m_frees (N : Nat) (σ : St) : Option (Unit × St) :=
  m_frees_2 N N σ 0
set_option maxHeartbeats 4000000 in
set_option maxRecDepth 100000 in
theorem s_m_frees_2_b {X : Cx} {ad : Nat → Nat} (C : Ok X cX11_frees RX11 2 none 0 0) (N : Nat) {rec2 : St → Int32 → Option (Unit × St)} (hrec2 : ∀ (σ : St) (x1 : Int32), Sim X scM ad 2 outV 2 [(0, .ref (ad 0)), (1, .int x1)] [] σ (rec2 σ x1)) (σ : St) (x1 : Int32) : Sim X scM ad 2 outV 2 [(0, .ref (ad 0)), (1, .int x1)] [] σ (m_frees_2_b N rec2 σ x1) := by
  unfold m_frees_2_b
  refine g_iload_n C 1 dX11_frees_2 rfl rfl ?_
  refine g_bipush C 42 dX11_frees_3 (by decide) ?_
  refine g_icmp_ge C 21 dX11_frees_5 (by decide) ?_ ?_
  · exact g_vret C dX11_frees_21
  · refine g_aload_n C 0 dX11_frees_8 rfl rfl ?_
    refine mg43 C dX11_frees_9 ?_
    refine g_iload_n C 1 dX11_frees_12 rfl rfl ?_
    refine g_iconst C 0 dX11_frees_13 (by decide) ?_
    refine mw43 C dX11_frees_14 ?_
    refine g_iinc C (x1 + 1) 1 [(1, .int (x1 + 1)), (0, .ref (ad 0))] dX11_frees_15 rfl rfl (by decide) rfl ?_
    refine g_goto C 2 dX11_frees_18 (by decide) ?_
    exact g_sub [1, 0] rfl (hrec2 (sA σ 43 x1.toNatClampNeg (vp_nar .boolean 0)) (x1 + 1))
set_option maxHeartbeats 4000000 in
set_option maxRecDepth 100000 in
theorem s_m_frees_2 {X : Cx} {ad : Nat → Nat} (C : Ok X cX11_frees RX11 2 none 0 0) (N : Nat) : ∀ (n : Nat) (σ : St) (x1 : Int32), Sim X scM ad 2 outV 2 [(0, .ref (ad 0)), (1, .int x1)] [] σ (m_frees_2 N n σ x1) := by
  intro n
  induction n with
  | zero => intro σ x1; exact g_none
  | succ n ih => intro σ x1; exact s_m_frees_2_b C N ih σ x1
set_option maxHeartbeats 4000000 in
set_option maxRecDepth 100000 in
theorem s_m_frees {X : Cx} {ad : Nat → Nat} (C : Ok X cX11_frees RX11 2 none 0 0) (N : Nat) (σ : St) : Sim X scM ad 2 outV 0 [(0, .ref (ad 0))] [] σ (m_frees N σ) := by
  unfold m_frees
  refine g_iconst C 0 dX11_frees_0 (by decide) ?_
  refine g_istore_n C [(1, .int 0), (0, .ref (ad 0))] dX11_frees_1 rfl (by decide) rfl ?_
  exact g_sub [1, 0] rfl (s_m_frees_2 C N N σ 0)
theorem c_m_frees {Y : Yx} {ad : Nat → Nat} {N : Nat} {σ : St} {r : Unit} {σ' : St} (h : m_frees N σ = some (r, σ')) : Con Y scM ad yX11_frees cX11_frees 2 none 0 0 [.ref (ad 0)] σ (outV r) σ' := con_of (by decide) rfl (Nat.le_of_ble_eq_true rfl) rfl (fun X hX C => s_m_frees C N σ) h
set_option maxRecDepth 20000 in
theorem v_m_frees {X : Cx} {cc : ByteArray} {nL : Nat} {ret : Option FieldType} {fr lo : Nat} {ad : Nat → Nat} {ρ : Type} {out : ρ → Option Value} {pc : Nat} {lv : List (Nat × Value)} {rest : List Value} {σ : St} {N : Nat} {K : Unit → St → Option (ρ × St)} (C : Ok X cc RX11 nL ret fr lo) (hR : 0 + 1 ≤ fr ∧ 8 + (2 + 11) + 0 ≤ lo) (hcat : (rest.map fun v => v.category).sum ≤ 8) (hdg : decode cc pc = .ok (.invokevirtual 299, 3)) (k : ∀ (r : Unit) (σ' : St), m_frees N σ = some (r, σ') → Sim X scM ad nL out (pc + 3) lv rest σ' (K r σ')) : Sim X scM ad nL out pc lv (.ref (ad 0) :: rest) σ (bd (m_frees N σ) K) := g_callV C (out1 := outV) (y := yX11_frees) (n := 0) ⟨gw_1426, gw_1428, gw_84, gw_117, gw_1429⟩ (by decide +kernel) hR (o := 0) (ci := 10) (q9 := (RX11, TX11, 68)) imM0 rfl rfl rfl (fun r σ' h => c_m_frees h) rfl rfl hcat hdg k

def m_mark_85 (N : Nat) (σ : St) (x1 : Int32) (x2 : Int32) (x3 : Int32) : Option (Int32 × St) :=
  bd (m_frees N σ) (fun _ σ2 => bd (m_reckons N σ2) (fun _ σ4 => (if x1 = 0 then gd (ib ((4 * x2) + x3) 42) (some (gA σ4 42 (((4 * x2) + x3).toNatClampNeg), σ4)) else (if x1 = 1 then gd (ib (32 + x2) 42) (some (gA σ4 42 ((32 + x2).toNatClampNeg), σ4)) else gd (ib (40 + x3) 42) (some (gA σ4 42 ((40 + x3).toNatClampNeg), σ4))))))
def m_mark_69 (N : Nat) (σ : St) (x1 : Int32) (x2 : Int32) (x3 : Int32) : Option (Int32 × St) :=
  (if x1 = 2 then (if x3 < 0 then some ((-1), σ) else (if x3 ≤ 1 then m_mark_85 N σ x1 x2 x3 else some ((-1), σ))) else m_mark_85 N σ x1 x2 x3)
def m_mark_51 (N : Nat) (σ : St) (x1 : Int32) (x2 : Int32) (x3 : Int32) : Option (Int32 × St) :=
  (if x1 = 0 then (if x3 < 0 then some ((-1), σ) else gd (ib x2 16) ((if (gA σ 20 x2.toNatClampNeg) ≤ x3 then some ((-1), σ) else m_mark_69 N σ x1 x2 x3))) else m_mark_69 N σ x1 x2 x3)
def m_mark_30 (N : Nat) (σ : St) (x1 : Int32) (x2 : Int32) (x3 : Int32) (t0 : Int32) : Option (Int32 × St) :=
  (if x1 < 0 then some ((-1), σ) else (if 2 < x1 then some ((-1), σ) else (if 2 ≤ x1 then m_mark_51 N σ x1 x2 x3 else (if t0 = 0 then some ((-1), σ) else m_mark_51 N σ x1 x2 x3))))
def m_mark_29 (N : Nat) (σ : St) (x1 : Int32) (x2 : Int32) (x3 : Int32) : Option (Int32 × St) :=
  m_mark_30 N σ x1 x2 x3 0
def m_mark (N : Nat) (σ : St) (a1 : Int32) (a2 : Int32) (a3 : Int32) : Option (Int32 × St) :=
  (if a2 < 0 then m_mark_29 N (sI σ 0 0) a1 a2 a3 else (if 8 ≤ a2 then m_mark_29 N (sI σ 0 0) a1 a2 a3 else gd (ib a2 16) ((if (gA σ 19 a2.toNatClampNeg) = (-1) then m_mark_29 N (sI σ 0 0) a1 a2 a3 else m_mark_30 N (sI σ 0 0) a1 a2 a3 1))))
set_option maxHeartbeats 4000000 in
set_option maxRecDepth 100000 in
theorem s_m_mark_85 {X : Cx} {ad : Nat → Nat} (C : Ok X cX11_mark RX11 5 (some .int) 5 119) (N : Nat) (σ : St) (x1 : Int32) (x2 : Int32) (x3 : Int32) : Sim X scM ad 5 outI 85 [(0, .ref (ad 0)), (1, .int x1), (2, .int x2), (3, .int x3)] [] σ (m_mark_85 N σ x1 x2 x3) := by
  unfold m_mark_85
  refine g_aload_n C 0 dX11_mark_85 rfl rfl ?_
  refine v_m_frees C ⟨by decide, by decide⟩ (Nat.le_of_ble_eq_true rfl) dX11_mark_86 (fun r1 σ2 _ => ?_)
  refine g_aload_n C 0 dX11_mark_89 rfl rfl ?_
  refine v_m_reckons C ⟨by decide, by decide⟩ (Nat.le_of_ble_eq_true rfl) dX11_mark_90 (fun r3 σ4 _ => ?_)
  refine g_aload_n C 0 dX11_mark_93 rfl rfl ?_
  refine mg42 C dX11_mark_94 ?_
  refine g_iload_n C 1 dX11_mark_97 rfl rfl ?_
  refine g_if_ne C 109 dX11_mark_98 (by decide) ?_ ?_
  · refine g_iload_n C 1 dX11_mark_109 rfl rfl ?_
    refine g_iconst C 1 dX11_mark_110 (by decide) ?_
    refine g_icmp_ne C 121 dX11_mark_111 (by decide) ?_ ?_
    · refine g_bipush C 40 dX11_mark_121 (by decide) ?_
      refine g_iload_n C 3 dX11_mark_123 rfl rfl ?_
      refine g_iadd C dX11_mark_124 ?_
      refine mr42 C (v := gA σ4 42 ((40 + x3).toNatClampNeg)) dX11_mark_125 rfl ?_
      exact g_iret C dX11_mark_126
    · refine g_bipush C 32 dX11_mark_114 (by decide) ?_
      refine g_iload_n C 2 dX11_mark_116 rfl rfl ?_
      refine g_iadd C dX11_mark_117 ?_
      refine g_goto C 125 dX11_mark_118 (by decide) ?_
      refine mr42 C (v := gA σ4 42 ((32 + x2).toNatClampNeg)) dX11_mark_125 rfl ?_
      exact g_iret C dX11_mark_126
  · refine g_iconst C 4 dX11_mark_101 (by decide) ?_
    refine g_iload_n C 2 dX11_mark_102 rfl rfl ?_
    refine g_imul C dX11_mark_103 ?_
    refine g_iload_n C 3 dX11_mark_104 rfl rfl ?_
    refine g_iadd C dX11_mark_105 ?_
    refine g_goto C 125 dX11_mark_106 (by decide) ?_
    refine mr42 C (v := gA σ4 42 (((4 * x2) + x3).toNatClampNeg)) dX11_mark_125 rfl ?_
    exact g_iret C dX11_mark_126
set_option maxHeartbeats 4000000 in
set_option maxRecDepth 100000 in
theorem s_m_mark_69 {X : Cx} {ad : Nat → Nat} (C : Ok X cX11_mark RX11 5 (some .int) 5 119) (N : Nat) (σ : St) (x1 : Int32) (x2 : Int32) (x3 : Int32) : Sim X scM ad 5 outI 69 [(0, .ref (ad 0)), (1, .int x1), (2, .int x2), (3, .int x3)] [] σ (m_mark_69 N σ x1 x2 x3) := by
  unfold m_mark_69
  refine g_iload_n C 1 dX11_mark_69 rfl rfl ?_
  refine g_iconst C 2 dX11_mark_70 (by decide) ?_
  refine g_icmp_ne C 85 dX11_mark_71 (by decide) ?_ ?_
  · exact g_sub [0, 1, 2, 3] rfl (s_m_mark_85 C N σ x1 x2 x3)
  · refine g_iload_n C 3 dX11_mark_74 rfl rfl ?_
    refine g_if_lt C 83 dX11_mark_75 (by decide) ?_ ?_
    · refine g_iconst C (-1) dX11_mark_83 (by decide) ?_
      exact g_iret C dX11_mark_84
    · refine g_iload_n C 3 dX11_mark_78 rfl rfl ?_
      refine g_iconst C 1 dX11_mark_79 (by decide) ?_
      refine g_icmp_le C 85 dX11_mark_80 (by decide) ?_ ?_
      · exact g_sub [0, 1, 2, 3] rfl (s_m_mark_85 C N σ x1 x2 x3)
      · refine g_iconst C (-1) dX11_mark_83 (by decide) ?_
        exact g_iret C dX11_mark_84
set_option maxHeartbeats 4000000 in
set_option maxRecDepth 100000 in
theorem s_m_mark_51 {X : Cx} {ad : Nat → Nat} (C : Ok X cX11_mark RX11 5 (some .int) 5 119) (N : Nat) (σ : St) (x1 : Int32) (x2 : Int32) (x3 : Int32) : Sim X scM ad 5 outI 51 [(0, .ref (ad 0)), (1, .int x1), (2, .int x2), (3, .int x3)] [] σ (m_mark_51 N σ x1 x2 x3) := by
  unfold m_mark_51
  refine g_iload_n C 1 dX11_mark_51 rfl rfl ?_
  refine g_if_ne C 69 dX11_mark_52 (by decide) ?_ ?_
  · exact g_sub [0, 1, 2, 3] rfl (s_m_mark_69 C N σ x1 x2 x3)
  · refine g_iload_n C 3 dX11_mark_55 rfl rfl ?_
    refine g_if_lt C 83 dX11_mark_56 (by decide) ?_ ?_
    · refine g_iconst C (-1) dX11_mark_83 (by decide) ?_
      exact g_iret C dX11_mark_84
    · refine g_iload_n C 3 dX11_mark_59 rfl rfl ?_
      refine g_aload_n C 0 dX11_mark_60 rfl rfl ?_
      refine mg20 C dX11_mark_61 ?_
      refine g_iload_n C 2 dX11_mark_64 rfl rfl ?_
      refine mr20 C (v := gA σ 20 x2.toNatClampNeg) dX11_mark_65 rfl ?_
      refine g_icmp_ge C 83 dX11_mark_66 (by decide) ?_ ?_
      · refine g_iconst C (-1) dX11_mark_83 (by decide) ?_
        exact g_iret C dX11_mark_84
      · exact g_sub [0, 1, 2, 3] rfl (s_m_mark_69 C N σ x1 x2 x3)
set_option maxHeartbeats 4000000 in
set_option maxRecDepth 100000 in
theorem s_m_mark_30 {X : Cx} {ad : Nat → Nat} (C : Ok X cX11_mark RX11 5 (some .int) 5 119) (N : Nat) (σ : St) (x1 : Int32) (x2 : Int32) (x3 : Int32) (t0 : Int32) : Sim X scM ad 5 outI 30 [(0, .ref (ad 0)), (1, .int x1), (2, .int x2), (3, .int x3)] [.int t0] σ (m_mark_30 N σ x1 x2 x3 t0) := by
  unfold m_mark_30
  refine g_istore C [(4, .int t0), (0, .ref (ad 0)), (1, .int x1), (2, .int x2), (3, .int x3)] dX11_mark_30 (by decide) rfl ?_
  refine g_iload_n C 2 dX11_mark_32 rfl rfl ?_
  refine g_if_lt C 83 dX11_mark_33 (by decide) ?_ ?_
  · refine g_iconst C (-1) dX11_mark_83 (by decide) ?_
    exact g_iret C dX11_mark_84
  · refine g_iload_n C 2 dX11_mark_36 rfl rfl ?_
    refine g_iconst C 2 dX11_mark_37 (by decide) ?_
    refine g_icmp_gt C 83 dX11_mark_38 (by decide) ?_ ?_
    · refine g_iconst C (-1) dX11_mark_83 (by decide) ?_
      exact g_iret C dX11_mark_84
    · refine g_iload_n C 2 dX11_mark_41 rfl rfl ?_
      refine g_iconst C 2 dX11_mark_42 (by decide) ?_
      refine g_icmp_ge C 51 dX11_mark_43 (by decide) ?_ ?_
      · exact g_sub [1, 2, 3, 4] rfl (s_m_mark_51 C N σ x1 x2 x3)
      · refine g_iload C 0 dX11_mark_46 rfl ?_
        refine g_if_eq C 83 dX11_mark_48 (by decide) ?_ ?_
        · refine g_iconst C (-1) dX11_mark_83 (by decide) ?_
          exact g_iret C dX11_mark_84
        · exact g_sub [1, 2, 3, 4] rfl (s_m_mark_51 C N σ x1 x2 x3)
set_option maxHeartbeats 4000000 in
set_option maxRecDepth 100000 in
theorem s_m_mark_29 {X : Cx} {ad : Nat → Nat} (C : Ok X cX11_mark RX11 5 (some .int) 5 119) (N : Nat) (σ : St) (x1 : Int32) (x2 : Int32) (x3 : Int32) : Sim X scM ad 5 outI 29 [(0, .ref (ad 0)), (1, .int x1), (2, .int x2), (3, .int x3)] [] σ (m_mark_29 N σ x1 x2 x3) := by
  unfold m_mark_29
  refine g_iconst C 0 dX11_mark_29 (by decide) ?_
  exact g_sub [0, 1, 2, 3] rfl (s_m_mark_30 C N σ x1 x2 x3 0)
set_option maxHeartbeats 4000000 in
set_option maxRecDepth 100000 in
theorem s_m_mark {X : Cx} {ad : Nat → Nat} (C : Ok X cX11_mark RX11 5 (some .int) 5 119) (N : Nat) (σ : St) (a1 : Int32) (a2 : Int32) (a3 : Int32) : Sim X scM ad 5 outI 0 [(0, .ref (ad 0)), (1, .int a1), (2, .int a2), (3, .int a3)] [] σ (m_mark N σ a1 a2 a3) := by
  unfold m_mark
  refine g_aload_n C 0 dX11_mark_0 rfl rfl ?_
  refine g_iconst C 0 dX11_mark_1 (by decide) ?_
  refine mp0 C dX11_mark_2 ?_
  refine g_iload_n C 2 dX11_mark_5 rfl rfl ?_
  refine g_if_lt C 29 dX11_mark_6 (by decide) ?_ ?_
  · exact g_sub [0, 1, 2, 3] rfl (s_m_mark_29 C N (sI σ 0 0) a1 a2 a3)
  · refine g_iload_n C 2 dX11_mark_9 rfl rfl ?_
    refine g_bipush C 8 dX11_mark_10 (by decide) ?_
    refine g_icmp_ge C 29 dX11_mark_12 (by decide) ?_ ?_
    · exact g_sub [0, 1, 2, 3] rfl (s_m_mark_29 C N (sI σ 0 0) a1 a2 a3)
    · refine g_aload_n C 0 dX11_mark_15 rfl rfl ?_
      refine mg19 C dX11_mark_16 ?_
      refine g_iload_n C 2 dX11_mark_19 rfl rfl ?_
      refine mr19 C (v := gA σ 19 a2.toNatClampNeg) dX11_mark_20 rfl ?_
      refine g_iconst C (-1) dX11_mark_21 (by decide) ?_
      refine g_icmp_eq C 29 dX11_mark_22 (by decide) ?_ ?_
      · exact g_sub [0, 1, 2, 3] rfl (s_m_mark_29 C N (sI σ 0 0) a1 a2 a3)
      · refine g_iconst C 1 dX11_mark_25 (by decide) ?_
        refine g_goto C 30 dX11_mark_26 (by decide) ?_
        exact g_sub [0, 1, 2, 3] rfl (s_m_mark_30 C N (sI σ 0 0) a1 a2 a3 1)
theorem c_m_mark {Y : Yx} {ad : Nat → Nat} {N : Nat} {σ : St} {a1 : Int32} {a2 : Int32} {a3 : Int32} {r : Int32} {σ' : St} (h : m_mark N σ a1 a2 a3 = some (r, σ')) : Con Y scM ad yX11_mark cX11_mark 5 (some .int) 5 119 [.ref (ad 0), .int a1, .int a2, .int a3] σ (outI r) σ' := con_of (by decide) rfl (Nat.le_of_ble_eq_true rfl) rfl (fun X hX C => s_m_mark C N σ a1 a2 a3) h

def m_useFact_72 (N : Nat) (rec2 : St → Int32 → Int32 → Option (Int32 × St)) (σ : St) (x1 : Int32) (x2 : Int32) : Option (Int32 × St) :=
  rec2 σ x1 (x2 + 1)
def m_useFact_41 (N : Nat) (σ : St) (x2 : Int32) : Option (Int32 × St) :=
  gd (ib x2 1300) ((if (lg_cmp (gZ σ 41 x2.toNatClampNeg) 0) = 0 then some (0, σ) else gd (ib x2 1300) (gd (ib x2 2600) (bd (m_factOf N σ (gZ σ 41 x2.toNatClampNeg) (gA σ 13 x2.toNatClampNeg)) (fun r1 σ2 => some (r1, σ2))))))
def m_useFact_31 (N : Nat) (rec2 : St → Int32 → Int32 → Option (Int32 × St)) (σ : St) (x1 : Int32) (x2 : Int32) : Option (Int32 × St) :=
  gd (ib x2 2600) ((if (gA σ 15 x2.toNatClampNeg) = x1 then m_useFact_41 N σ x2 else m_useFact_72 N rec2 σ x1 x2))
def m_useFact_2_b (N : Nat) (rec2 : St → Int32 → Int32 → Option (Int32 × St)) (σ : St) (x1 : Int32) (x2 : Int32) : Option (Int32 × St) :=
  (if (gI σ 18) ≤ x2 then some (0, σ) else gd (ib x2 2600) ((if (gA σ 12 x2.toNatClampNeg) = 5 then m_useFact_31 N rec2 σ x1 x2 else gd (ib x2 2600) ((if (gA σ 12 x2.toNatClampNeg) = 8 then m_useFact_31 N rec2 σ x1 x2 else m_useFact_72 N rec2 σ x1 x2)))))
def m_useFact_2 (N : Nat) : Nat → St → Int32 → Int32 → Option (Int32 × St)
  | 0 => fun _ _ _ => none
  | n + 1 => fun σ x1 x2 => m_useFact_2_b N (m_useFact_2 N n) σ x1 x2
def m_useFact (N : Nat) (σ : St) (a1 : Int32) : Option (Int32 × St) :=
  m_useFact_2 N N σ a1 0
set_option maxHeartbeats 4000000 in
set_option maxRecDepth 100000 in
theorem s_m_useFact_72 {X : Cx} {ad : Nat → Nat} (C : Ok X cX11_useFact RX11 3 (some .int) 1 22) (N : Nat) {rec2 : St → Int32 → Int32 → Option (Int32 × St)} (hrec2 : ∀ (σ : St) (x1 : Int32) (x2 : Int32), Sim X scM ad 3 outI 2 [(0, .ref (ad 0)), (1, .int x1), (2, .int x2)] [] σ (rec2 σ x1 x2)) (σ : St) (x1 : Int32) (x2 : Int32) : Sim X scM ad 3 outI 72 [(0, .ref (ad 0)), (1, .int x1), (2, .int x2)] [] σ (m_useFact_72 N rec2 σ x1 x2) := by
  unfold m_useFact_72
  refine g_iinc C (x2 + 1) 2 [(2, .int (x2 + 1)), (0, .ref (ad 0)), (1, .int x1)] dX11_useFact_72 rfl rfl (by decide) rfl ?_
  refine g_goto C 2 dX11_useFact_75 (by decide) ?_
  exact g_sub [1, 2, 0] rfl (hrec2 σ x1 (x2 + 1))
set_option maxHeartbeats 4000000 in
set_option maxRecDepth 100000 in
theorem s_m_useFact_41 {X : Cx} {ad : Nat → Nat} (C : Ok X cX11_useFact RX11 3 (some .int) 1 22) (N : Nat) (σ : St) (x2 : Int32) : Sim X scM ad 3 outI 41 [(0, .ref (ad 0)), (2, .int x2)] [] σ (m_useFact_41 N σ x2) := by
  unfold m_useFact_41
  refine g_aload_n C 0 dX11_useFact_41 rfl rfl ?_
  refine mg41 C dX11_useFact_42 ?_
  refine g_iload_n C 1 dX11_useFact_45 rfl rfl ?_
  refine mr41 C (v := gZ σ 41 x2.toNatClampNeg) dX11_useFact_46 rfl ?_
  refine g_lconst C 0 dX11_useFact_47 (by decide) ?_
  refine g_lcmp C dX11_useFact_48 ?_
  refine g_if_ne C 56 dX11_useFact_49 (by decide) ?_ ?_
  · refine g_aload_n C 0 dX11_useFact_56 rfl rfl ?_
    refine mg41 C dX11_useFact_57 ?_
    refine g_iload_n C 1 dX11_useFact_60 rfl rfl ?_
    refine mr41 C (v := gZ σ 41 x2.toNatClampNeg) dX11_useFact_61 rfl ?_
    refine g_aload_n C 0 dX11_useFact_62 rfl rfl ?_
    refine mg13 C dX11_useFact_63 ?_
    refine g_iload_n C 1 dX11_useFact_66 rfl rfl ?_
    refine mr13 C (v := gA σ 13 x2.toNatClampNeg) dX11_useFact_67 rfl ?_
    refine v_m_factOf C ⟨by decide, by decide⟩ (Nat.le_of_ble_eq_true rfl) dX11_useFact_68 (fun r1 σ2 _ => ?_)
    exact g_iret C dX11_useFact_71
  · refine g_iconst C 0 dX11_useFact_52 (by decide) ?_
    refine g_goto C 71 dX11_useFact_53 (by decide) ?_
    exact g_iret C dX11_useFact_71
set_option maxHeartbeats 4000000 in
set_option maxRecDepth 100000 in
theorem s_m_useFact_31 {X : Cx} {ad : Nat → Nat} (C : Ok X cX11_useFact RX11 3 (some .int) 1 22) (N : Nat) {rec2 : St → Int32 → Int32 → Option (Int32 × St)} (hrec2 : ∀ (σ : St) (x1 : Int32) (x2 : Int32), Sim X scM ad 3 outI 2 [(0, .ref (ad 0)), (1, .int x1), (2, .int x2)] [] σ (rec2 σ x1 x2)) (σ : St) (x1 : Int32) (x2 : Int32) : Sim X scM ad 3 outI 31 [(0, .ref (ad 0)), (1, .int x1), (2, .int x2)] [] σ (m_useFact_31 N rec2 σ x1 x2) := by
  unfold m_useFact_31
  refine g_aload_n C 0 dX11_useFact_31 rfl rfl ?_
  refine mg15 C dX11_useFact_32 ?_
  refine g_iload_n C 2 dX11_useFact_35 rfl rfl ?_
  refine mr15 C (v := gA σ 15 x2.toNatClampNeg) dX11_useFact_36 rfl ?_
  refine g_iload_n C 1 dX11_useFact_37 rfl rfl ?_
  refine g_icmp_ne C 72 dX11_useFact_38 (by decide) ?_ ?_
  · exact g_sub [0, 1, 2] rfl (s_m_useFact_72 C N hrec2 σ x1 x2)
  · exact g_sub [0, 2] rfl (s_m_useFact_41 C N σ x2)
set_option maxHeartbeats 4000000 in
set_option maxRecDepth 100000 in
theorem s_m_useFact_2_b {X : Cx} {ad : Nat → Nat} (C : Ok X cX11_useFact RX11 3 (some .int) 1 22) (N : Nat) {rec2 : St → Int32 → Int32 → Option (Int32 × St)} (hrec2 : ∀ (σ : St) (x1 : Int32) (x2 : Int32), Sim X scM ad 3 outI 2 [(0, .ref (ad 0)), (1, .int x1), (2, .int x2)] [] σ (rec2 σ x1 x2)) (σ : St) (x1 : Int32) (x2 : Int32) : Sim X scM ad 3 outI 2 [(0, .ref (ad 0)), (1, .int x1), (2, .int x2)] [] σ (m_useFact_2_b N rec2 σ x1 x2) := by
  unfold m_useFact_2_b
  refine g_iload_n C 2 dX11_useFact_2 rfl rfl ?_
  refine g_aload_n C 0 dX11_useFact_3 rfl rfl ?_
  refine mg18 C (v := gI σ 18) dX11_useFact_4 rfl ?_
  refine g_icmp_ge C 78 dX11_useFact_7 (by decide) ?_ ?_
  · refine g_iconst C 0 dX11_useFact_78 (by decide) ?_
    exact g_iret C dX11_useFact_79
  · refine g_aload_n C 0 dX11_useFact_10 rfl rfl ?_
    refine mg12 C dX11_useFact_11 ?_
    refine g_iload_n C 2 dX11_useFact_14 rfl rfl ?_
    refine mr12 C (v := gA σ 12 x2.toNatClampNeg) dX11_useFact_15 rfl ?_
    refine g_iconst C 5 dX11_useFact_16 (by decide) ?_
    refine g_icmp_eq C 31 dX11_useFact_17 (by decide) ?_ ?_
    · exact g_sub [0, 1, 2] rfl (s_m_useFact_31 C N hrec2 σ x1 x2)
    · refine g_aload_n C 0 dX11_useFact_20 rfl rfl ?_
      refine mg12 C dX11_useFact_21 ?_
      refine g_iload_n C 2 dX11_useFact_24 rfl rfl ?_
      refine mr12 C (v := gA σ 12 x2.toNatClampNeg) dX11_useFact_25 rfl ?_
      refine g_bipush C 8 dX11_useFact_26 (by decide) ?_
      refine g_icmp_ne C 72 dX11_useFact_28 (by decide) ?_ ?_
      · exact g_sub [0, 1, 2] rfl (s_m_useFact_72 C N hrec2 σ x1 x2)
      · exact g_sub [0, 1, 2] rfl (s_m_useFact_31 C N hrec2 σ x1 x2)
set_option maxHeartbeats 4000000 in
set_option maxRecDepth 100000 in
theorem s_m_useFact_2 {X : Cx} {ad : Nat → Nat} (C : Ok X cX11_useFact RX11 3 (some .int) 1 22) (N : Nat) : ∀ (n : Nat) (σ : St) (x1 : Int32) (x2 : Int32), Sim X scM ad 3 outI 2 [(0, .ref (ad 0)), (1, .int x1), (2, .int x2)] [] σ (m_useFact_2 N n σ x1 x2) := by
  intro n
  induction n with
  | zero => intro σ x1 x2; exact g_none
  | succ n ih => intro σ x1 x2; exact s_m_useFact_2_b C N ih σ x1 x2
set_option maxHeartbeats 4000000 in
set_option maxRecDepth 100000 in
theorem s_m_useFact {X : Cx} {ad : Nat → Nat} (C : Ok X cX11_useFact RX11 3 (some .int) 1 22) (N : Nat) (σ : St) (a1 : Int32) : Sim X scM ad 3 outI 0 [(0, .ref (ad 0)), (1, .int a1)] [] σ (m_useFact N σ a1) := by
  unfold m_useFact
  refine g_iconst C 0 dX11_useFact_0 (by decide) ?_
  refine g_istore_n C [(2, .int 0), (0, .ref (ad 0)), (1, .int a1)] dX11_useFact_1 rfl (by decide) rfl ?_
  exact g_sub [1, 2, 0] rfl (s_m_useFact_2 C N N σ a1 0)
theorem c_m_useFact {Y : Yx} {ad : Nat → Nat} {N : Nat} {σ : St} {a1 : Int32} {r : Int32} {σ' : St} (h : m_useFact N σ a1 = some (r, σ')) : Con Y scM ad yX11_useFact cX11_useFact 3 (some .int) 1 22 [.ref (ad 0), .int a1] σ (outI r) σ' := con_of (by decide) rfl (Nat.le_of_ble_eq_true rfl) rfl (fun X hX C => s_m_useFact C N σ a1) h
set_option maxRecDepth 20000 in
theorem v_m_useFact {X : Cx} {cc : ByteArray} {nL : Nat} {ret : Option FieldType} {fr lo : Nat} {ad : Nat → Nat} {ρ : Type} {out : ρ → Option Value} {pc : Nat} {lv : List (Nat × Value)} {rest : List Value} {σ : St} {N : Nat} {K : Int32 → St → Option (ρ × St)} {a1 : Int32} (C : Ok X cc RX11 nL ret fr lo) (hR : 1 + 1 ≤ fr ∧ 8 + (3 + 11) + 22 ≤ lo) (hcat : (rest.map fun v => v.category).sum ≤ 8) (hdg : decode cc pc = .ok (.invokevirtual 305, 3)) (k : ∀ (r : Int32) (σ' : St), m_useFact N σ a1 = some (r, σ') → Sim X scM ad nL out (pc + 3) lv (.int r :: rest) σ' (K r σ')) : Sim X scM ad nL out pc lv (.int a1 :: .ref (ad 0) :: rest) σ (bd (m_useFact N σ a1) K) := g_callV C (out1 := outI) (y := yX11_useFact) (n := 1) ⟨gw_1479, gw_1481, gw_94, gw_117, gw_1482⟩ (by decide +kernel) hR (o := 0) (ci := 10) (q9 := (RX11, TX11, 68)) imM0 rfl rfl rfl (fun r σ' h => c_m_useFact h) rfl rfl hcat hdg k

def m_stateOf (N : Nat) (σ : St) (a1 : Int32) : Option (Int32 × St) :=
  (if a1 = 0 then some (0, σ) else (if a1 = 2 then some (1, σ) else (if a1 = 3 then some (2, σ) else some (3, σ))))
set_option maxHeartbeats 4000000 in
set_option maxRecDepth 100000 in
theorem s_m_stateOf {X : Cx} {ad : Nat → Nat} (C : Ok X cX11_stateOf RX11 1 (some .int) 0 0) (N : Nat) (σ : St) (a1 : Int32) : Sim X scM ad 1 outI 0 [(0, .int a1)] [] σ (m_stateOf N σ a1) := by
  unfold m_stateOf
  refine g_iload_n C 0 dX11_stateOf_0 rfl rfl ?_
  refine g_if_ne C 8 dX11_stateOf_1 (by decide) ?_ ?_
  · refine g_iload_n C 0 dX11_stateOf_8 rfl rfl ?_
    refine g_iconst C 2 dX11_stateOf_9 (by decide) ?_
    refine g_icmp_ne C 17 dX11_stateOf_10 (by decide) ?_ ?_
    · refine g_iload_n C 0 dX11_stateOf_17 rfl rfl ?_
      refine g_iconst C 3 dX11_stateOf_18 (by decide) ?_
      refine g_icmp_ne C 26 dX11_stateOf_19 (by decide) ?_ ?_
      · refine g_iconst C 3 dX11_stateOf_26 (by decide) ?_
        exact g_iret C dX11_stateOf_27
      · refine g_iconst C 2 dX11_stateOf_22 (by decide) ?_
        refine g_goto C 27 dX11_stateOf_23 (by decide) ?_
        exact g_iret C dX11_stateOf_27
    · refine g_iconst C 1 dX11_stateOf_13 (by decide) ?_
      refine g_goto C 27 dX11_stateOf_14 (by decide) ?_
      exact g_iret C dX11_stateOf_27
  · refine g_iconst C 0 dX11_stateOf_4 (by decide) ?_
    refine g_goto C 27 dX11_stateOf_5 (by decide) ?_
    exact g_iret C dX11_stateOf_27
theorem c_m_stateOf {Y : Yx} {ad : Nat → Nat} {N : Nat} {σ : St} {a1 : Int32} {r : Int32} {σ' : St} (h : m_stateOf N σ a1 = some (r, σ')) : Con Y scM ad yX11_stateOf cX11_stateOf 1 (some .int) 0 0 [.int a1] σ (outI r) σ' := con_of (by decide) rfl (Nat.le_of_ble_eq_true rfl) rfl (fun X hX C => s_m_stateOf C N σ a1) h
set_option maxRecDepth 20000 in
theorem v_m_stateOf {X : Cx} {cc : ByteArray} {nL : Nat} {ret : Option FieldType} {fr lo : Nat} {ad : Nat → Nat} {ρ : Type} {out : ρ → Option Value} {pc : Nat} {lv : List (Nat × Value)} {rest : List Value} {σ : St} {N : Nat} {K : Int32 → St → Option (ρ × St)} {a1 : Int32} (C : Ok X cc RX11 nL ret fr lo) (hR : 0 + 1 ≤ fr ∧ 8 + (1 + 11) + 0 ≤ lo) (hcat : (rest.map fun v => v.category).sum ≤ 8) (hdg : decode cc pc = .ok (.invokestatic 308, 3)) (k : ∀ (r : Int32) (σ' : St), m_stateOf N σ a1 = some (r, σ') → Sim X scM ad nL out (pc + 3) lv (.int r :: rest) σ' (K r σ')) : Sim X scM ad nL out pc lv (.int a1 :: rest) σ (bd (m_stateOf N σ a1) K) := g_callS C (out1 := outI) (y := yX11_stateOf) (n := 1) ⟨gw_1483, gw_1484, gw_117, gw_1485⟩ (by decide +kernel) hR (fun r σ' h => c_m_stateOf h) rfl rfl hcat hdg k

def m_use (N : Nat) (σ : St) (a1 : Int32) (a2 : Int32) : Option (Int32 × St) :=
  (if a1 < 0 then some ((-1), (sI σ 0 0)) else gd (ib 0 2) ((if a1 < (gA σ 26 ((0 : Int32).toNatClampNeg)) then (if a2 = 0 then bd (m_frees N (sI σ 0 0)) (fun _ σ3 => bd (m_reckons N σ3) (fun _ σ5 => bd (m_useFact N σ5 a1) (fun r6 σ7 => bd (m_stateOf N σ7 r6) (fun r8 σ9 => some (r8, σ9))))) else (if a2 = 1 then gd (ib a1 82) (some (gA σ 23 a1.toNatClampNeg, (sI σ 0 0))) else (if a2 = 2 then gd (ib a1 82) (some (gA σ 24 a1.toNatClampNeg, (sI σ 0 0))) else (if a2 = 3 then gd (ib a1 82) (some (gA σ 25 a1.toNatClampNeg, (sI σ 0 0))) else some ((-1), (sI σ 0 0)))))) else some ((-1), (sI σ 0 0)))))
set_option maxHeartbeats 4000000 in
set_option maxRecDepth 100000 in
theorem s_m_use {X : Cx} {ad : Nat → Nat} (C : Ok X cX11_use RX11 3 (some .int) 5 119) (N : Nat) (σ : St) (a1 : Int32) (a2 : Int32) : Sim X scM ad 3 outI 0 [(0, .ref (ad 0)), (1, .int a1), (2, .int a2)] [] σ (m_use N σ a1 a2) := by
  unfold m_use
  refine g_aload_n C 0 dX11_use_0 rfl rfl ?_
  refine g_iconst C 0 dX11_use_1 (by decide) ?_
  refine mp0 C dX11_use_2 ?_
  refine g_iload_n C 1 dX11_use_5 rfl rfl ?_
  refine g_if_lt C 19 dX11_use_6 (by decide) ?_ ?_
  · refine g_iconst C (-1) dX11_use_19 (by decide) ?_
    exact g_iret C dX11_use_20
  · refine g_iload_n C 1 dX11_use_9 rfl rfl ?_
    refine g_aload_n C 0 dX11_use_10 rfl rfl ?_
    refine mg26 C dX11_use_11 ?_
    refine g_iconst C 0 dX11_use_14 (by decide) ?_
    refine mr26 C (v := gA σ 26 ((0 : Int32).toNatClampNeg)) dX11_use_15 rfl ?_
    refine g_icmp_lt C 21 dX11_use_16 (by decide) ?_ ?_
    · refine g_iload_n C 2 dX11_use_21 rfl rfl ?_
      refine g_cs (fun h1 => ?_) (fun h1 => ?_)
      · refine g_tabIn C (off := 30) 52 (0) (by rw [h1]; decide) dX11_use_22 (by decide) (by decide) (by decide) (by decide) ?_
        refine g_aload_n C 0 dX11_use_52 rfl rfl ?_
        refine v_m_frees C ⟨by decide, by decide⟩ (Nat.le_of_ble_eq_true rfl) dX11_use_53 (fun r2 σ3 _ => ?_)
        refine g_aload_n C 0 dX11_use_56 rfl rfl ?_
        refine v_m_reckons C ⟨by decide, by decide⟩ (Nat.le_of_ble_eq_true rfl) dX11_use_57 (fun r4 σ5 _ => ?_)
        refine g_aload_n C 0 dX11_use_60 rfl rfl ?_
        refine g_iload_n C 1 dX11_use_61 rfl rfl ?_
        refine v_m_useFact C ⟨by decide, by decide⟩ (Nat.le_of_ble_eq_true rfl) dX11_use_62 (fun r6 σ7 _ => ?_)
        refine v_m_stateOf C ⟨by decide, by decide⟩ (Nat.le_of_ble_eq_true rfl) dX11_use_65 (fun r8 σ9 _ => ?_)
        exact g_iret C dX11_use_68
      refine g_cs (fun h10 => ?_) (fun h10 => ?_)
      · refine g_tabIn C (off := 47) 69 (1) (by rw [h10]; decide) dX11_use_22 (by decide) (by decide) (by decide) (by decide) ?_
        refine g_aload_n C 0 dX11_use_69 rfl rfl ?_
        refine mg23 C dX11_use_70 ?_
        refine g_iload_n C 1 dX11_use_73 rfl rfl ?_
        refine mr23 C (v := gA σ 23 a1.toNatClampNeg) dX11_use_74 rfl ?_
        exact g_iret C dX11_use_75
      refine g_cs (fun h11 => ?_) (fun h11 => ?_)
      · refine g_tabIn C (off := 54) 76 (2) (by rw [h11]; decide) dX11_use_22 (by decide) (by decide) (by decide) (by decide) ?_
        refine g_aload_n C 0 dX11_use_76 rfl rfl ?_
        refine mg24 C dX11_use_77 ?_
        refine g_iload_n C 1 dX11_use_80 rfl rfl ?_
        refine mr24 C (v := gA σ 24 a1.toNatClampNeg) dX11_use_81 rfl ?_
        exact g_iret C dX11_use_82
      refine g_cs (fun h12 => ?_) (fun h12 => ?_)
      · refine g_tabIn C (off := 61) 83 (3) (by rw [h12]; decide) dX11_use_22 (by decide) (by decide) (by decide) (by decide) ?_
        refine g_aload_n C 0 dX11_use_83 rfl rfl ?_
        refine mg25 C dX11_use_84 ?_
        refine g_iload_n C 1 dX11_use_87 rfl rfl ?_
        refine mr25 C (v := gA σ 25 a1.toNatClampNeg) dX11_use_88 rfl ?_
        exact g_iret C dX11_use_89
      have ah1 : ¬ a2.toInt = 0 := k_ne h1 (by decide)
      have bh1 : ¬ (0 : Int) = a2.toInt := fun e9 => ah1 e9.symm
      have ah10 : ¬ a2.toInt = 1 := k_ne h10 (by decide)
      have bh10 : ¬ (1 : Int) = a2.toInt := fun e9 => ah10 e9.symm
      have ah11 : ¬ a2.toInt = 2 := k_ne h11 (by decide)
      have bh11 : ¬ (2 : Int) = a2.toInt := fun e9 => ah11 e9.symm
      have ah12 : ¬ a2.toInt = 3 := k_ne h12 (by decide)
      have bh12 : ¬ (3 : Int) = a2.toInt := fun e9 => ah12 e9.symm
      refine g_tabOut C 90 dX11_use_22 (by omega) (by decide) ?_
      refine g_iconst C (-1) dX11_use_90 (by decide) ?_
      exact g_iret C dX11_use_91
    · refine g_iconst C (-1) dX11_use_19 (by decide) ?_
      exact g_iret C dX11_use_20
theorem c_m_use {Y : Yx} {ad : Nat → Nat} {N : Nat} {σ : St} {a1 : Int32} {a2 : Int32} {r : Int32} {σ' : St} (h : m_use N σ a1 a2 = some (r, σ')) : Con Y scM ad yX11_use cX11_use 3 (some .int) 5 119 [.ref (ad 0), .int a1, .int a2] σ (outI r) σ' := con_of (by decide) rfl (Nat.le_of_ble_eq_true rfl) rfl (fun X hX C => s_m_use C N σ a1 a2) h

def m_test (N : Nat) (σ : St) (a1 : Int32) (a2 : Int32) : Option (Int32 × St) :=
  (if a1 < 0 then some ((-1), (sI σ 0 0)) else gd (ib 0 2) ((if a1 < (gA σ 29 ((0 : Int32).toNatClampNeg)) then (if a2 = 0 then bd (m_frees N (sI σ 0 0)) (fun _ σ3 => bd (m_reckons N σ3) (fun _ σ5 => gd (ib a1 25) ((if (gA σ5 44 a1.toNatClampNeg) = 3 then some (0, σ5) else gd (ib a1 25) ((if (gA σ5 44 a1.toNatClampNeg) = 1 then some (1, σ5) else gd (ib a1 25) ((if (gA σ5 44 a1.toNatClampNeg) = 2 then some (2, σ5) else some (3, σ5))))))))) else (if a2 = 1 then gd (ib a1 50) (some (gA σ 27 a1.toNatClampNeg, (sI σ 0 0))) else (if a2 = 2 then gd (ib a1 50) (some (gA σ 28 a1.toNatClampNeg, (sI σ 0 0))) else some ((-1), (sI σ 0 0))))) else some ((-1), (sI σ 0 0)))))
set_option maxHeartbeats 4000000 in
set_option maxRecDepth 100000 in
theorem s_m_test {X : Cx} {ad : Nat → Nat} (C : Ok X cX11_test RX11 3 (some .int) 5 119) (N : Nat) (σ : St) (a1 : Int32) (a2 : Int32) : Sim X scM ad 3 outI 0 [(0, .ref (ad 0)), (1, .int a1), (2, .int a2)] [] σ (m_test N σ a1 a2) := by
  unfold m_test
  refine g_aload_n C 0 dX11_test_0 rfl rfl ?_
  refine g_iconst C 0 dX11_test_1 (by decide) ?_
  refine mp0 C dX11_test_2 ?_
  refine g_iload_n C 1 dX11_test_5 rfl rfl ?_
  refine g_if_lt C 19 dX11_test_6 (by decide) ?_ ?_
  · refine g_iconst C (-1) dX11_test_19 (by decide) ?_
    exact g_iret C dX11_test_20
  · refine g_iload_n C 1 dX11_test_9 rfl rfl ?_
    refine g_aload_n C 0 dX11_test_10 rfl rfl ?_
    refine mg29 C dX11_test_11 ?_
    refine g_iconst C 0 dX11_test_14 (by decide) ?_
    refine mr29 C (v := gA σ 29 ((0 : Int32).toNatClampNeg)) dX11_test_15 rfl ?_
    refine g_icmp_lt C 21 dX11_test_16 (by decide) ?_ ?_
    · refine g_iload_n C 2 dX11_test_21 rfl rfl ?_
      refine g_cs (fun h1 => ?_) (fun h1 => ?_)
      · refine g_tabIn C (off := 26) 48 (0) (by rw [h1]; decide) dX11_test_22 (by decide) (by decide) (by decide) (by decide) ?_
        refine g_aload_n C 0 dX11_test_48 rfl rfl ?_
        refine v_m_frees C ⟨by decide, by decide⟩ (Nat.le_of_ble_eq_true rfl) dX11_test_49 (fun r2 σ3 _ => ?_)
        refine g_aload_n C 0 dX11_test_52 rfl rfl ?_
        refine v_m_reckons C ⟨by decide, by decide⟩ (Nat.le_of_ble_eq_true rfl) dX11_test_53 (fun r4 σ5 _ => ?_)
        refine g_aload_n C 0 dX11_test_56 rfl rfl ?_
        refine mg44 C dX11_test_57 ?_
        refine g_iload_n C 1 dX11_test_60 rfl rfl ?_
        refine mr44 C (v := gA σ5 44 a1.toNatClampNeg) dX11_test_61 rfl ?_
        refine g_iconst C 3 dX11_test_62 (by decide) ?_
        refine g_icmp_ne C 70 dX11_test_63 (by decide) ?_ ?_
        · refine g_aload_n C 0 dX11_test_70 rfl rfl ?_
          refine mg44 C dX11_test_71 ?_
          refine g_iload_n C 1 dX11_test_74 rfl rfl ?_
          refine mr44 C (v := gA σ5 44 a1.toNatClampNeg) dX11_test_75 rfl ?_
          refine g_iconst C 1 dX11_test_76 (by decide) ?_
          refine g_icmp_ne C 84 dX11_test_77 (by decide) ?_ ?_
          · refine g_aload_n C 0 dX11_test_84 rfl rfl ?_
            refine mg44 C dX11_test_85 ?_
            refine g_iload_n C 1 dX11_test_88 rfl rfl ?_
            refine mr44 C (v := gA σ5 44 a1.toNatClampNeg) dX11_test_89 rfl ?_
            refine g_iconst C 2 dX11_test_90 (by decide) ?_
            refine g_icmp_ne C 98 dX11_test_91 (by decide) ?_ ?_
            · refine g_iconst C 3 dX11_test_98 (by decide) ?_
              exact g_iret C dX11_test_99
            · refine g_iconst C 2 dX11_test_94 (by decide) ?_
              refine g_goto C 99 dX11_test_95 (by decide) ?_
              exact g_iret C dX11_test_99
          · refine g_iconst C 1 dX11_test_80 (by decide) ?_
            refine g_goto C 99 dX11_test_81 (by decide) ?_
            exact g_iret C dX11_test_99
        · refine g_iconst C 0 dX11_test_66 (by decide) ?_
          refine g_goto C 99 dX11_test_67 (by decide) ?_
          exact g_iret C dX11_test_99
      refine g_cs (fun h6 => ?_) (fun h6 => ?_)
      · refine g_tabIn C (off := 78) 100 (1) (by rw [h6]; decide) dX11_test_22 (by decide) (by decide) (by decide) (by decide) ?_
        refine g_aload_n C 0 dX11_test_100 rfl rfl ?_
        refine mg27 C dX11_test_101 ?_
        refine g_iload_n C 1 dX11_test_104 rfl rfl ?_
        refine mr27 C (v := gA σ 27 a1.toNatClampNeg) dX11_test_105 rfl ?_
        exact g_iret C dX11_test_106
      refine g_cs (fun h7 => ?_) (fun h7 => ?_)
      · refine g_tabIn C (off := 85) 107 (2) (by rw [h7]; decide) dX11_test_22 (by decide) (by decide) (by decide) (by decide) ?_
        refine g_aload_n C 0 dX11_test_107 rfl rfl ?_
        refine mg28 C dX11_test_108 ?_
        refine g_iload_n C 1 dX11_test_111 rfl rfl ?_
        refine mr28 C (v := gA σ 28 a1.toNatClampNeg) dX11_test_112 rfl ?_
        exact g_iret C dX11_test_113
      have ah1 : ¬ a2.toInt = 0 := k_ne h1 (by decide)
      have bh1 : ¬ (0 : Int) = a2.toInt := fun e9 => ah1 e9.symm
      have ah6 : ¬ a2.toInt = 1 := k_ne h6 (by decide)
      have bh6 : ¬ (1 : Int) = a2.toInt := fun e9 => ah6 e9.symm
      have ah7 : ¬ a2.toInt = 2 := k_ne h7 (by decide)
      have bh7 : ¬ (2 : Int) = a2.toInt := fun e9 => ah7 e9.symm
      refine g_tabOut C 114 dX11_test_22 (by omega) (by decide) ?_
      refine g_iconst C (-1) dX11_test_114 (by decide) ?_
      exact g_iret C dX11_test_115
    · refine g_iconst C (-1) dX11_test_19 (by decide) ?_
      exact g_iret C dX11_test_20
theorem c_m_test {Y : Yx} {ad : Nat → Nat} {N : Nat} {σ : St} {a1 : Int32} {a2 : Int32} {r : Int32} {σ' : St} (h : m_test N σ a1 a2 = some (r, σ')) : Con Y scM ad yX11_test cX11_test 3 (some .int) 5 119 [.ref (ad 0), .int a1, .int a2] σ (outI r) σ' := con_of (by decide) rfl (Nat.le_of_ble_eq_true rfl) rfl (fun X hX C => s_m_test C N σ a1 a2) h

def m_makes_50 (N : Nat) (σ : St) (x2 : Int32) (t1 : Int32) (t2 : Int32) : Option (Int32 × St) :=
  gd (ib t1 602) ((if x2 = (-1) then gd (ib ((2 * (gI σ 47)) + 1) 602) (some (gI σ 47, (sA (sA σ 46 t1.toNatClampNeg t2) 46 (((2 * (gI σ 47)) + 1).toNatClampNeg) (gI σ 47)))) else gd (ib ((2 * (gI σ 47)) + 1) 602) (some (gI σ 47, (sA (sA σ 46 t1.toNatClampNeg t2) 46 (((2 * (gI σ 47)) + 1).toNatClampNeg) x2)))))
def m_makes (N : Nat) (σ : St) (a1 : Int32) (a2 : Int32) : Option (Int32 × St) :=
  (if (gI σ 47) = 300 then some (0, (sI σ 55 3)) else (if a1 = (-1) then m_makes_50 N (sI σ 47 ((gI σ 47) + 1)) a2 (2 * ((gI σ 47) + 1)) ((gI σ 47) + 1) else m_makes_50 N (sI σ 47 ((gI σ 47) + 1)) a2 (2 * ((gI σ 47) + 1)) a1))
set_option maxHeartbeats 4000000 in
set_option maxRecDepth 100000 in
theorem s_m_makes_50 {X : Cx} {ad : Nat → Nat} (C : Ok X cX11_makes RX11 3 (some .int) 0 0) (N : Nat) (σ : St) (x2 : Int32) (t1 : Int32) (t2 : Int32) : Sim X scM ad 3 outI 50 [(0, .ref (ad 0)), (2, .int x2)] [.int t2, .int t1, .ref (ad 46)] σ (m_makes_50 N σ x2 t1 t2) := by
  unfold m_makes_50
  refine mw46 C dX11_makes_50 ?_
  refine g_aload_n C 0 dX11_makes_51 rfl rfl ?_
  refine mg46 C dX11_makes_52 ?_
  refine g_iconst C 2 dX11_makes_55 (by decide) ?_
  refine g_aload_n C 0 dX11_makes_56 rfl rfl ?_
  refine mg47 C (v := gI σ 47) dX11_makes_57 rfl ?_
  refine g_imul C dX11_makes_60 ?_
  refine g_iconst C 1 dX11_makes_61 (by decide) ?_
  refine g_iadd C dX11_makes_62 ?_
  refine g_iload_n C 1 dX11_makes_63 rfl rfl ?_
  refine g_iconst C (-1) dX11_makes_64 (by decide) ?_
  refine g_icmp_ne C 75 dX11_makes_65 (by decide) ?_ ?_
  · refine g_iload_n C 1 dX11_makes_75 rfl rfl ?_
    refine mw46 C dX11_makes_76 ?_
    refine g_aload_n C 0 dX11_makes_77 rfl rfl ?_
    refine mg47 C (v := gI σ 47) dX11_makes_78 rfl ?_
    exact g_iret C dX11_makes_81
  · refine g_aload_n C 0 dX11_makes_68 rfl rfl ?_
    refine mg47 C (v := gI σ 47) dX11_makes_69 rfl ?_
    refine g_goto C 76 dX11_makes_72 (by decide) ?_
    refine mw46 C dX11_makes_76 ?_
    refine g_aload_n C 0 dX11_makes_77 rfl rfl ?_
    refine mg47 C (v := gI σ 47) dX11_makes_78 rfl ?_
    exact g_iret C dX11_makes_81
set_option maxHeartbeats 4000000 in
set_option maxRecDepth 100000 in
theorem s_m_makes {X : Cx} {ad : Nat → Nat} (C : Ok X cX11_makes RX11 3 (some .int) 0 0) (N : Nat) (σ : St) (a1 : Int32) (a2 : Int32) : Sim X scM ad 3 outI 0 [(0, .ref (ad 0)), (1, .int a1), (2, .int a2)] [] σ (m_makes N σ a1 a2) := by
  unfold m_makes
  refine g_aload_n C 0 dX11_makes_0 rfl rfl ?_
  refine mg47 C (v := gI σ 47) dX11_makes_1 rfl ?_
  refine g_sipush C 300 dX11_makes_4 (by decide) ?_
  refine g_icmp_ne C 17 dX11_makes_7 (by decide) ?_ ?_
  · refine g_aload_n C 0 dX11_makes_17 rfl rfl ?_
    refine g_dup C dX11_makes_18 rfl ?_
    refine mg47 C (v := gI σ 47) dX11_makes_19 rfl ?_
    refine g_iconst C 1 dX11_makes_22 (by decide) ?_
    refine g_iadd C dX11_makes_23 ?_
    refine mp47 C dX11_makes_24 ?_
    refine g_aload_n C 0 dX11_makes_27 rfl rfl ?_
    refine mg46 C dX11_makes_28 ?_
    refine g_iconst C 2 dX11_makes_31 (by decide) ?_
    refine g_aload_n C 0 dX11_makes_32 rfl rfl ?_
    refine mg47 C (v := (gI σ 47) + 1) dX11_makes_33 rfl ?_
    refine g_imul C dX11_makes_36 ?_
    refine g_iload_n C 1 dX11_makes_37 rfl rfl ?_
    refine g_iconst C (-1) dX11_makes_38 (by decide) ?_
    refine g_icmp_ne C 49 dX11_makes_39 (by decide) ?_ ?_
    · refine g_iload_n C 1 dX11_makes_49 rfl rfl ?_
      exact g_sub [0, 2] rfl (s_m_makes_50 C N (sI σ 47 ((gI σ 47) + 1)) a2 (2 * ((gI σ 47) + 1)) a1)
    · refine g_aload_n C 0 dX11_makes_42 rfl rfl ?_
      refine mg47 C (v := (gI σ 47) + 1) dX11_makes_43 rfl ?_
      refine g_goto C 50 dX11_makes_46 (by decide) ?_
      exact g_sub [0, 2] rfl (s_m_makes_50 C N (sI σ 47 ((gI σ 47) + 1)) a2 (2 * ((gI σ 47) + 1)) ((gI σ 47) + 1))
  · refine g_aload_n C 0 dX11_makes_10 rfl rfl ?_
    refine g_iconst C 3 dX11_makes_11 (by decide) ?_
    refine mp55 C dX11_makes_12 ?_
    refine g_iconst C 0 dX11_makes_15 (by decide) ?_
    exact g_iret C dX11_makes_16
theorem c_m_makes {Y : Yx} {ad : Nat → Nat} {N : Nat} {σ : St} {a1 : Int32} {a2 : Int32} {r : Int32} {σ' : St} (h : m_makes N σ a1 a2 = some (r, σ')) : Con Y scM ad yX11_makes cX11_makes 3 (some .int) 0 0 [.ref (ad 0), .int a1, .int a2] σ (outI r) σ' := con_of (by decide) rfl (Nat.le_of_ble_eq_true rfl) rfl (fun X hX C => s_m_makes C N σ a1 a2) h
set_option maxRecDepth 20000 in
theorem v_m_makes {X : Cx} {cc : ByteArray} {nL : Nat} {ret : Option FieldType} {fr lo : Nat} {ad : Nat → Nat} {ρ : Type} {out : ρ → Option Value} {pc : Nat} {lv : List (Nat × Value)} {rest : List Value} {σ : St} {N : Nat} {K : Int32 → St → Option (ρ × St)} {a1 : Int32} {a2 : Int32} (C : Ok X cc RX11 nL ret fr lo) (hR : 0 + 1 ≤ fr ∧ 8 + (3 + 11) + 0 ≤ lo) (hcat : (rest.map fun v => v.category).sum ≤ 8) (hdg : decode cc pc = .ok (.invokevirtual 335, 3)) (k : ∀ (r : Int32) (σ' : St), m_makes N σ a1 a2 = some (r, σ') → Sim X scM ad nL out (pc + 3) lv (.int r :: rest) σ' (K r σ')) : Sim X scM ad nL out pc lv (.int a2 :: .int a1 :: .ref (ad 0) :: rest) σ (bd (m_makes N σ a1 a2) K) := g_callV C (out1 := outI) (y := yX11_makes) (n := 2) ⟨gw_1506, gw_1508, gw_98, gw_117, gw_1509⟩ (by decide +kernel) hR (o := 0) (ci := 10) (q9 := (RX11, TX11, 68)) imM0 rfl rfl rfl (fun r σ' h => c_m_makes h) rfl rfl hcat hdg k

def m_chooses_20 (N : Nat) (σ : St) (t0 : Int32) : Option (Int32 × St) :=
  gd (isb t0) (some (t0, (sI σ 53 ((gI σ 53) + 1))))
def m_chooses (N : Nat) (σ : St) (a1 : Int32) : Option (Int32 × St) :=
  (if ((a1 >>> (((gI σ 53) - (gI σ 53) / 8 * 8) &&& 31)) &&& 1) = 1 then m_chooses_20 N σ 1 else m_chooses_20 N σ 0)
set_option maxHeartbeats 4000000 in
set_option maxRecDepth 100000 in
theorem s_m_chooses_20 {X : Cx} {ad : Nat → Nat} (C : Ok X cX11_chooses RX11 3 (some .boolean) 0 0) (N : Nat) (σ : St) (t0 : Int32) : Sim X scM ad 3 outI 20 [(0, .ref (ad 0))] [.int t0] σ (m_chooses_20 N σ t0) := by
  unfold m_chooses_20
  refine g_istore_n C [(2, .int t0), (0, .ref (ad 0))] dX11_chooses_20 rfl (by decide) rfl ?_
  refine g_aload_n C 1 dX11_chooses_21 rfl rfl ?_
  refine g_dup C dX11_chooses_22 rfl ?_
  refine mg53 C (v := gI σ 53) dX11_chooses_23 rfl ?_
  refine g_iconst C 1 dX11_chooses_26 (by decide) ?_
  refine g_iadd C dX11_chooses_27 ?_
  refine mp53 C dX11_chooses_28 ?_
  refine g_iload_n C 0 dX11_chooses_31 rfl rfl ?_
  refine g_gd (fun hb9 => ?_)
  exact g_zret C (isb_nar hb9) dX11_chooses_32
set_option maxHeartbeats 4000000 in
set_option maxRecDepth 100000 in
theorem s_m_chooses {X : Cx} {ad : Nat → Nat} (C : Ok X cX11_chooses RX11 3 (some .boolean) 0 0) (N : Nat) (σ : St) (a1 : Int32) : Sim X scM ad 3 outI 0 [(0, .ref (ad 0)), (1, .int a1)] [] σ (m_chooses N σ a1) := by
  unfold m_chooses
  refine g_iload_n C 1 dX11_chooses_0 rfl rfl ?_
  refine g_aload_n C 0 dX11_chooses_1 rfl rfl ?_
  refine mg53 C (v := gI σ 53) dX11_chooses_2 rfl ?_
  refine g_bipush C 8 dX11_chooses_5 (by decide) ?_
  refine g_irem C dX11_chooses_7 (by decide) ?_
  refine g_ishr C dX11_chooses_8 ?_
  refine g_iconst C 1 dX11_chooses_9 (by decide) ?_
  refine g_iand C dX11_chooses_10 ?_
  refine g_iconst C 1 dX11_chooses_11 (by decide) ?_
  refine g_icmp_ne C 19 dX11_chooses_12 (by decide) ?_ ?_
  · refine g_iconst C 0 dX11_chooses_19 (by decide) ?_
    exact g_sub [0] rfl (s_m_chooses_20 C N σ 0)
  · refine g_iconst C 1 dX11_chooses_15 (by decide) ?_
    refine g_goto C 20 dX11_chooses_16 (by decide) ?_
    exact g_sub [0] rfl (s_m_chooses_20 C N σ 1)
theorem c_m_chooses {Y : Yx} {ad : Nat → Nat} {N : Nat} {σ : St} {a1 : Int32} {r : Int32} {σ' : St} (h : m_chooses N σ a1 = some (r, σ')) : Con Y scM ad yX11_chooses cX11_chooses 3 (some .boolean) 0 0 [.ref (ad 0), .int a1] σ (outI r) σ' := con_of (by decide) rfl (Nat.le_of_ble_eq_true rfl) rfl (fun X hX C => s_m_chooses C N σ a1) h
set_option maxRecDepth 20000 in
theorem v_m_chooses {X : Cx} {cc : ByteArray} {nL : Nat} {ret : Option FieldType} {fr lo : Nat} {ad : Nat → Nat} {ρ : Type} {out : ρ → Option Value} {pc : Nat} {lv : List (Nat × Value)} {rest : List Value} {σ : St} {N : Nat} {K : Int32 → St → Option (ρ × St)} {a1 : Int32} (C : Ok X cc RX11 nL ret fr lo) (hR : 0 + 1 ≤ fr ∧ 8 + (3 + 11) + 0 ≤ lo) (hcat : (rest.map fun v => v.category).sum ≤ 8) (hdg : decode cc pc = .ok (.invokevirtual 344, 3)) (k : ∀ (r : Int32) (σ' : St), m_chooses N σ a1 = some (r, σ') → Sim X scM ad nL out (pc + 3) lv (.int r :: rest) σ' (K r σ')) : Sim X scM ad nL out pc lv (.int a1 :: .ref (ad 0) :: rest) σ (bd (m_chooses N σ a1) K) := g_callV C (out1 := outI) (y := yX11_chooses) (n := 1) ⟨gw_1518, gw_1520, gw_101, gw_117, gw_1521⟩ (by decide +kernel) hR (o := 0) (ci := 10) (q9 := (RX11, TX11, 68)) imM0 rfl rfl rfl (fun r σ' h => c_m_chooses h) rfl rfl hcat hdg k
