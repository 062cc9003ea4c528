def x1_noteUse (N : Nat) (σ : St) (a1 : Int32) (a2 : Int32) : Option (Unit × St) :=
  bd (x5_at N σ 13 a1) (fun r1 σ2 => bd (x5_put N σ2 13 a1 (r1 ||| a2)) (fun _ σ4 => some ((), σ4)))
set_option maxHeartbeats 4000000 in
set_option maxRecDepth 100000 in
theorem s_x1_noteUse {X : Cx} {ad : Nat → Nat} (C : Ok X cX1_noteUse RX1 3 none 1 22) (N : Nat) (σ : St) (a1 : Int32) (a2 : Int32) : Sim X scC ad 3 outV 0 [(0, .ref (ad 9)), (1, .int a1), (2, .int a2)] [] σ (x1_noteUse N σ a1 a2) := by
  unfold x1_noteUse
  refine g_aload_n C 0 dX1_noteUse_0 rfl rfl ?_
  refine gf_RX1_22 C  dX1_noteUse_1 ?_
  refine g_iload_n C 1 dX1_noteUse_4 rfl rfl ?_
  refine g_aload_n C 0 dX1_noteUse_5 rfl rfl ?_
  refine gf_RX1_22 C  dX1_noteUse_6 ?_
  refine g_iload_n C 1 dX1_noteUse_9 rfl rfl ?_
  refine v_x5_at_RX1 C ⟨by decide, by decide⟩ (Nat.le_of_ble_eq_true rfl) dX1_noteUse_10 (fun r1 σ2 _ => ?_)
  refine g_iload_n C 2 dX1_noteUse_13 rfl rfl ?_
  refine g_ior C dX1_noteUse_14 ?_
  refine v_x5_put_RX1 C ⟨by decide, by decide⟩ (Nat.le_of_ble_eq_true rfl) dX1_noteUse_15 (fun r3 σ4 _ => ?_)
  exact g_vret C dX1_noteUse_18
theorem c_x1_noteUse {Y : Yx} {ad : Nat → Nat} {N : Nat} {σ : St} {a1 : Int32} {a2 : Int32} {r : Unit} {σ' : St} (h : x1_noteUse N σ a1 a2 = some (r, σ')) : Con Y scC ad yX1_noteUse cX1_noteUse 3 none 1 22 [.ref (ad 9), .int a1, .int a2] σ (outV r) σ' := con_of (by decide) rfl (Nat.le_of_ble_eq_true rfl) rfl (fun X hX C => s_x1_noteUse C N σ a1 a2) h
set_option maxRecDepth 20000 in
theorem v_x1_noteUse_RX1 {X : Cx} {cc : ByteArray} {nL : Nat} {ret : Option FieldType} {fr lo : Nat} {ad : Nat → Nat} {ρ : Type} {out : ρ → Option Value} {pc : Nat} {lv : List (Nat × Value)} {rest : List Value} {σ : St} {N : Nat} {K : Unit → St → Option (ρ × St)} {a1 : Int32} {a2 : Int32} (C : Ok X cc RX1 nL ret fr lo) (hR : 1 + 1 ≤ fr ∧ 8 + (3 + 11) + 22 ≤ lo) (hcat : (rest.map fun v => v.category).sum ≤ 8) (hdg : decode cc pc = .ok (.invokevirtual 165, 3)) (k : ∀ (r : Unit) (σ' : St), x1_noteUse N σ a1 a2 = some (r, σ') → Sim X scC ad nL out (pc + 3) lv rest σ' (K r σ')) : Sim X scC ad nL out pc lv (.int a2 :: .int a1 :: .ref (ad 9) :: rest) σ (bd (x1_noteUse N σ a1 a2) K) := g_callV C (out1 := outV) (y := yX1_noteUse) (n := 2) ⟨gw_885, gw_887, gw_33, gw_113, gw_888⟩ (by decide +kernel) hR (o := 9) (ci := 1) (q9 := (RX1, TX1, 14)) im_9 rfl rfl rfl (fun r σ' h => c_x1_noteUse h) rfl rfl hcat hdg k

def x1_workCall_77 (N : Nat) (σ : St) (x4 : Int32) : Option (Int32 × St) :=
  bd (x5_at N σ 12 (32 + x4)) (fun r4 σ5 => (if r4 = 0 then some (r4, (sL σ5 913 0)) else some (r4, σ5)))
def x1_workCall_33_b (N : Nat) (rec33 : St → Int32 → Int64 → Int32 → Int32 → Option (Int32 × St)) (σ : St) (x1 : Int32) (x2 : Int64) (x4 : Int32) (x5 : Int32) : Option (Int32 × St) :=
  gd (isCd (gP σ 907)) (bd (x0_arguments N σ (gP σ 907) x1) (fun r2 σ3 => (if r2 ≤ x5 then x1_workCall_77 N σ3 x4 else gd (isCd (gP σ3 907)) (bd (x0_argument N σ3 (gP σ3 907) x1 x5) (fun r7 σ8 => bd (x1_factOf N σ8 x2 r7) (fun r9 σ10 => bd (x1_raise N σ10 ((x4 * 4) + x5) r9) (fun _ σ12 => rec33 σ12 x1 x2 x4 (x5 + 1))))))))
def x1_workCall_33 (N : Nat) : Nat → St → Int32 → Int64 → Int32 → Int32 → Option (Int32 × St)
  | 0 => fun _ _ _ _ _ => none
  | n + 1 => fun σ x1 x2 x4 x5 => x1_workCall_33_b N (x1_workCall_33 N n) σ x1 x2 x4 x5
def x1_workCall (N : Nat) (σ : St) (a1 : Int32) (a2 : Int64) (a3 : Int32) : Option (Int32 × St) :=
  (if (((gI σ 910) >>> (a3 &&& 31)) &&& 1) = 0 then x1_workCall_33 N N (sI (sI σ 910 ((gI σ 910) ||| ((1 : Int32) <<< (a3 &&& 31)))) 909 1) a1 a2 a3 0 else x1_workCall_33 N N σ a1 a2 a3 0)
set_option maxHeartbeats 4000000 in
set_option maxRecDepth 100000 in
theorem s_x1_workCall_77 {X : Cx} {ad : Nat → Nat} (C : Ok X cX1_workCall RX1 6 (some .int) 2 46) (N : Nat) (σ : St) (x4 : Int32) : Sim X scC ad 6 outI 77 [(0, .ref (ad 9)), (4, .int x4)] [] σ (x1_workCall_77 N σ x4) := by
  unfold x1_workCall_77
  refine g_aload_n C 0 dX1_workCall_77 rfl rfl ?_
  refine gf_RX1_19 C  dX1_workCall_78 ?_
  refine g_bipush C 32 dX1_workCall_81 (by decide) ?_
  refine g_iload C 1 dX1_workCall_83 rfl ?_
  refine g_iadd C dX1_workCall_85 ?_
  refine v_x5_at_RX1 C ⟨by decide, by decide⟩ (Nat.le_of_ble_eq_true rfl) dX1_workCall_86 (fun r4 σ5 _ => ?_)
  refine g_istore C [(5, .int r4), (0, .ref (ad 9)), (4, .int x4)] dX1_workCall_89 (by decide) rfl ?_
  refine g_iload C 0 dX1_workCall_91 rfl ?_
  refine g_if_ne C 101 dX1_workCall_93 (by decide) ?_ ?_
  · refine g_iload C 0 dX1_workCall_101 rfl ?_
    exact g_iret C dX1_workCall_103
  · refine g_aload_n C 1 dX1_workCall_96 rfl rfl ?_
    refine g_lconst C 0 dX1_workCall_97 (by decide) ?_
    refine pf_RX1_151 C dX1_workCall_98 ?_
    refine g_iload C 0 dX1_workCall_101 rfl ?_
    exact g_iret C dX1_workCall_103
set_option maxHeartbeats 4000000 in
set_option maxRecDepth 100000 in
theorem s_x1_workCall_33_b {X : Cx} {ad : Nat → Nat} (C : Ok X cX1_workCall RX1 6 (some .int) 2 46) (N : Nat) {rec33 : St → Int32 → Int64 → Int32 → Int32 → Option (Int32 × St)} (hrec33 : ∀ (σ : St) (x1 : Int32) (x2 : Int64) (x4 : Int32) (x5 : Int32), Sim X scC ad 6 outI 33 [(0, .ref (ad 9)), (1, .int x1), (2, .long x2), (4, .int x4), (5, .int x5)] [] σ (rec33 σ x1 x2 x4 x5)) (σ : St) (x1 : Int32) (x2 : Int64) (x4 : Int32) (x5 : Int32) : Sim X scC ad 6 outI 33 [(0, .ref (ad 9)), (1, .int x1), (2, .long x2), (4, .int x4), (5, .int x5)] [] σ (x1_workCall_33_b N rec33 σ x1 x2 x4 x5) := by
  unfold x1_workCall_33_b
  refine g_iload C 4 dX1_workCall_33 rfl ?_
  refine g_aload_n C 0 dX1_workCall_35 rfl rfl ?_
  refine gf_RX1_49 C  (v := gP σ 907) dX1_workCall_36 rfl ?_
  refine g_iload_n C 1 dX1_workCall_39 rfl rfl ?_
  refine g_gd (fun hp1 => ?_)
  refine v_x0_arguments_RX1 C hp1 ⟨by decide, by decide⟩ (Nat.le_of_ble_eq_true rfl) dX1_workCall_40 (fun r2 σ3 _ => ?_)
  refine g_icmp_ge C 77 dX1_workCall_43 (by decide) ?_ ?_
  · exact g_sub [0, 3] rfl (s_x1_workCall_77 C N σ3 x4)
  · refine g_aload_n C 0 dX1_workCall_46 rfl rfl ?_
    refine g_iload C 3 dX1_workCall_47 rfl ?_
    refine g_iconst C 4 dX1_workCall_49 (by decide) ?_
    refine g_imul C dX1_workCall_50 ?_
    refine g_iload C 4 dX1_workCall_51 rfl ?_
    refine g_iadd C dX1_workCall_53 ?_
    refine g_lload_n C 2 dX1_workCall_54 rfl rfl ?_
    refine g_aload_n C 0 dX1_workCall_55 rfl rfl ?_
    refine gf_RX1_49 C  (v := gP σ3 907) dX1_workCall_56 rfl ?_
    refine g_iload_n C 1 dX1_workCall_59 rfl rfl ?_
    refine g_iload C 4 dX1_workCall_60 rfl ?_
    refine g_gd (fun hp6 => ?_)
    refine v_x0_argument_RX1 C hp6 ⟨by decide, by decide⟩ (Nat.le_of_ble_eq_true rfl) dX1_workCall_62 (fun r7 σ8 _ => ?_)
    refine v_x1_factOf_RX1 C ⟨by decide, by decide⟩ (Nat.le_of_ble_eq_true rfl) dX1_workCall_65 (fun r9 σ10 _ => ?_)
    refine v_x1_raise_RX1 C ⟨by decide, by decide⟩ (Nat.le_of_ble_eq_true rfl) dX1_workCall_68 (fun r11 σ12 _ => ?_)
    refine g_iinc C (x5 + 1) 4 [(5, .int (x5 + 1)), (0, .ref (ad 9)), (1, .int x1), (2, .long x2), (4, .int x4)] dX1_workCall_71 rfl rfl (by decide) rfl ?_
    refine g_goto C 33 dX1_workCall_74 (by decide) ?_
    exact g_sub [1, 2, 3, 4, 0] rfl (hrec33 σ12 x1 x2 x4 (x5 + 1))
set_option maxHeartbeats 4000000 in
set_option maxRecDepth 100000 in
theorem s_x1_workCall_33 {X : Cx} {ad : Nat → Nat} (C : Ok X cX1_workCall RX1 6 (some .int) 2 46) (N : Nat) : ∀ (n : Nat) (σ : St) (x1 : Int32) (x2 : Int64) (x4 : Int32) (x5 : Int32), Sim X scC ad 6 outI 33 [(0, .ref (ad 9)), (1, .int x1), (2, .long x2), (4, .int x4), (5, .int x5)] [] σ (x1_workCall_33 N n σ x1 x2 x4 x5) := by
  intro n
  induction n with
  | zero => intro σ x1 x2 x4 x5; exact g_none
  | succ n ih => intro σ x1 x2 x4 x5; exact s_x1_workCall_33_b C N ih σ x1 x2 x4 x5
set_option maxHeartbeats 4000000 in
set_option maxRecDepth 100000 in
theorem s_x1_workCall {X : Cx} {ad : Nat → Nat} (C : Ok X cX1_workCall RX1 6 (some .int) 2 46) (N : Nat) (σ : St) (a1 : Int32) (a2 : Int64) (a3 : Int32) : Sim X scC ad 6 outI 0 [(0, .ref (ad 9)), (1, .int a1), (2, .long a2), (4, .int a3)] [] σ (x1_workCall N σ a1 a2 a3) := by
  unfold x1_workCall
  refine g_aload_n C 0 dX1_workCall_0 rfl rfl ?_
  refine gf_RX1_92 C  (v := gI σ 910) dX1_workCall_1 rfl ?_
  refine g_iload C 3 dX1_workCall_4 rfl ?_
  refine g_ishr C dX1_workCall_6 ?_
  refine g_iconst C 1 dX1_workCall_7 (by decide) ?_
  refine g_iand C dX1_workCall_8 ?_
  refine g_if_ne C 30 dX1_workCall_9 (by decide) ?_ ?_
  · refine g_iconst C 0 dX1_workCall_30 (by decide) ?_
    refine g_istore C [(5, .int 0), (0, .ref (ad 9)), (1, .int a1), (2, .long a2), (4, .int a3)] dX1_workCall_31 (by decide) rfl ?_
    exact g_sub [1, 2, 3, 4, 0] rfl (s_x1_workCall_33 C N N σ a1 a2 a3 0)
  · refine g_aload_n C 0 dX1_workCall_12 rfl rfl ?_
    refine g_dup C dX1_workCall_13 rfl ?_
    refine gf_RX1_92 C  (v := gI σ 910) dX1_workCall_14 rfl ?_
    refine g_iconst C 1 dX1_workCall_17 (by decide) ?_
    refine g_iload C 3 dX1_workCall_18 rfl ?_
    refine g_ishl C dX1_workCall_20 ?_
    refine g_ior C dX1_workCall_21 ?_
    refine pf_RX1_92 C dX1_workCall_22 ?_
    refine g_aload_n C 0 dX1_workCall_25 rfl rfl ?_
    refine g_iconst C 1 dX1_workCall_26 (by decide) ?_
    refine pf_RX1_60 C rfl dX1_workCall_27 ?_
    refine g_iconst C 0 dX1_workCall_30 (by decide) ?_
    refine g_istore C [(5, .int 0), (0, .ref (ad 9)), (1, .int a1), (2, .long a2), (4, .int a3)] dX1_workCall_31 (by decide) rfl ?_
    exact g_sub [1, 2, 3, 4, 0] rfl (s_x1_workCall_33 C N N (sI (sI σ 910 ((gI σ 910) ||| ((1 : Int32) <<< (a3 &&& 31)))) 909 1) a1 a2 a3 0)
theorem c_x1_workCall {Y : Yx} {ad : Nat → Nat} {N : Nat} {σ : St} {a1 : Int32} {a2 : Int64} {a3 : Int32} {r : Int32} {σ' : St} (h : x1_workCall N σ a1 a2 a3 = some (r, σ')) : Con Y scC ad yX1_workCall cX1_workCall 6 (some .int) 2 46 [.ref (ad 9), .int a1, .long a2, .int a3] σ (outI r) σ' := con_of (by decide) rfl (Nat.le_of_ble_eq_true rfl) rfl (fun X hX C => s_x1_workCall C N σ a1 a2 a3) h
set_option maxRecDepth 20000 in
theorem v_x1_workCall_RX1 {X : Cx} {cc : ByteArray} {nL : Nat} {ret : Option FieldType} {fr lo : Nat} {ad : Nat → Nat} {ρ : Type} {out : ρ → Option Value} {pc : Nat} {lv : List (Nat × Value)} {rest : List Value} {σ : St} {N : Nat} {K : Int32 → St → Option (ρ × St)} {a1 : Int32} {a2 : Int64} {a3 : Int32} (C : Ok X cc RX1 nL ret fr lo) (hR : 2 + 1 ≤ fr ∧ 8 + (6 + 11) + 46 ≤ lo) (hcat : (rest.map fun v => v.category).sum ≤ 8) (hdg : decode cc pc = .ok (.invokevirtual 168, 3)) (k : ∀ (r : Int32) (σ' : St), x1_workCall N σ a1 a2 a3 = some (r, σ') → Sim X scC ad nL out (pc + 3) lv (.int r :: rest) σ' (K r σ')) : Sim X scC ad nL out pc lv (.int a3 :: .long a2 :: .int a1 :: .ref (ad 9) :: rest) σ (bd (x1_workCall N σ a1 a2 a3) K) := g_callV C (out1 := outI) (y := yX1_workCall) (n := 3) ⟨gw_889, gw_891, gw_34, gw_113, gw_892⟩ (by decide +kernel) hR (o := 9) (ci := 1) (q9 := (RX1, TX1, 14)) im_9 rfl rfl rfl (fun r σ' h => c_x1_workCall h) rfl rfl hcat hdg k

def x1_work (N : Nat) (σ : St) (a1 : Int32) (a2 : Int64) : Option (Int32 × St) :=
  gd (isCd (gP σ 907)) (bd (x0_get N σ (gP σ 907) a1 5) (fun r2 σ3 => gd (isCd (gP σ3 907)) (bd (x0_get N σ3 (gP σ3 907) a1 6) (fun r5 σ6 => gd (isCd (gP σ6 907)) (bd (x0_get N (sL σ6 913 a2) (gP σ6 907) a1 4) (fun r8 σ9 => (if r8 = 1 then bd (x1_raise N σ9 40 2) (fun _ σ12 => bd (x1_raise N σ12 41 2) (fun _ σ14 => some (3, σ14))) else (if r8 = 2 then bd (x1_factOf N σ9 a2 r2) (fun r16 σ17 => bd (x1_raise N σ17 40 r16) (fun _ σ19 => bd (x1_factOf N σ19 a2 r5) (fun r20 σ21 => bd (x1_raise N σ21 41 r20) (fun _ σ23 => some (2, σ23))))) else (if r8 = 3 then bd (x1_factOf N σ9 a2 r2) (fun r25 σ26 => some (r25, σ26)) else (if r8 = 4 then gd (isCd (gP σ9 907)) (bd (x0_get N σ9 (gP σ9 907) a1 7) (fun r29 σ30 => bd (x1_factOf N σ30 a2 r2) (fun r31 σ32 => bd (x1_noteUse N σ32 r29 r31) (fun _ σ34 => bd (x1_narrow N σ34 a2 r2 2) (fun r35 σ36 => bd (x5_at N (sL σ36 913 r35) 12 (40 + r5)) (fun r37 σ38 => some (r37, σ38))))))) else (if r8 = 5 then bd (x1_workCall N σ9 a1 a2 r5) (fun r40 σ41 => some (r40, σ41)) else some (1, σ9))))))))))))
set_option maxHeartbeats 4000000 in
set_option maxRecDepth 100000 in
theorem s_x1_work {X : Cx} {ad : Nat → Nat} (C : Ok X cX1_work RX1 6 (some .int) 3 71) (N : Nat) (σ : St) (a1 : Int32) (a2 : Int64) : Sim X scC ad 6 outI 0 [(0, .ref (ad 9)), (1, .int a1), (2, .long a2)] [] σ (x1_work N σ a1 a2) := by
  unfold x1_work
  refine g_aload_n C 0 dX1_work_0 rfl rfl ?_
  refine gf_RX1_49 C  (v := gP σ 907) dX1_work_1 rfl ?_
  refine g_iload_n C 1 dX1_work_4 rfl rfl ?_
  refine g_iconst C 5 dX1_work_5 (by decide) ?_
  refine g_gd (fun hp1 => ?_)
  refine v_x0_get_RX1 C hp1 ⟨by decide, by decide⟩ (Nat.le_of_ble_eq_true rfl) dX1_work_6 (fun r2 σ3 _ => ?_)
  refine g_istore C [(4, .int r2), (0, .ref (ad 9)), (1, .int a1), (2, .long a2)] dX1_work_9 (by decide) rfl ?_
  refine g_aload_n C 1 dX1_work_11 rfl rfl ?_
  refine gf_RX1_49 C  (v := gP σ3 907) dX1_work_12 rfl ?_
  refine g_iload_n C 2 dX1_work_15 rfl rfl ?_
  refine g_bipush C 6 dX1_work_16 (by decide) ?_
  refine g_gd (fun hp4 => ?_)
  refine v_x0_get_RX1 C hp4 ⟨by decide, by decide⟩ (Nat.le_of_ble_eq_true rfl) dX1_work_18 (fun r5 σ6 _ => ?_)
  refine g_istore C [(5, .int r5), (4, .int r2), (0, .ref (ad 9)), (1, .int a1), (2, .long a2)] dX1_work_21 (by decide) rfl ?_
  refine g_aload_n C 2 dX1_work_23 rfl rfl ?_
  refine g_lload_n C 4 dX1_work_24 rfl rfl ?_
  refine pf_RX1_151 C dX1_work_25 ?_
  refine g_aload_n C 2 dX1_work_28 rfl rfl ?_
  refine gf_RX1_49 C  (v := gP σ6 907) dX1_work_29 rfl ?_
  refine g_iload_n C 3 dX1_work_32 rfl rfl ?_
  refine g_iconst C 4 dX1_work_33 (by decide) ?_
  refine g_gd (fun hp7 => ?_)
  refine v_x0_get_RX1 C hp7 ⟨by decide, by decide⟩ (Nat.le_of_ble_eq_true rfl) dX1_work_34 (fun r8 σ9 _ => ?_)
  refine g_cs (fun h10 => ?_) (fun h10 => ?_)
  · refine g_tabIn C (off := 35) 72 (1) (by rw [h10]; decide) dX1_work_37 (by decide) (by decide) (by decide) (by decide) ?_
    refine g_aload_n C 2 dX1_work_72 rfl rfl ?_
    refine g_bipush C 40 dX1_work_73 (by decide) ?_
    refine g_iconst C 2 dX1_work_75 (by decide) ?_
    refine v_x1_raise_RX1 C ⟨by decide, by decide⟩ (Nat.le_of_ble_eq_true rfl) dX1_work_76 (fun r11 σ12 _ => ?_)
    refine g_aload_n C 2 dX1_work_79 rfl rfl ?_
    refine g_bipush C 41 dX1_work_80 (by decide) ?_
    refine g_iconst C 2 dX1_work_82 (by decide) ?_
    refine v_x1_raise_RX1 C ⟨by decide, by decide⟩ (Nat.le_of_ble_eq_true rfl) dX1_work_83 (fun r13 σ14 _ => ?_)
    refine g_iconst C 3 dX1_work_86 (by decide) ?_
    exact g_iret C dX1_work_87
  refine g_cs (fun h15 => ?_) (fun h15 => ?_)
  · refine g_tabIn C (off := 51) 88 (2) (by rw [h15]; decide) dX1_work_37 (by decide) (by decide) (by decide) (by decide) ?_
    refine g_aload_n C 2 dX1_work_88 rfl rfl ?_
    refine g_bipush C 40 dX1_work_89 (by decide) ?_
    refine g_lload_n C 4 dX1_work_91 rfl rfl ?_
    refine g_iload C 1 dX1_work_92 rfl ?_
    refine v_x1_factOf_RX1 C ⟨by decide, by decide⟩ (Nat.le_of_ble_eq_true rfl) dX1_work_94 (fun r16 σ17 _ => ?_)
    refine v_x1_raise_RX1 C ⟨by decide, by decide⟩ (Nat.le_of_ble_eq_true rfl) dX1_work_97 (fun r18 σ19 _ => ?_)
    refine g_aload_n C 2 dX1_work_100 rfl rfl ?_
    refine g_bipush C 41 dX1_work_101 (by decide) ?_
    refine g_lload_n C 4 dX1_work_103 rfl rfl ?_
    refine g_iload C 0 dX1_work_104 rfl ?_
    refine v_x1_factOf_RX1 C ⟨by decide, by decide⟩ (Nat.le_of_ble_eq_true rfl) dX1_work_106 (fun r20 σ21 _ => ?_)
    refine v_x1_raise_RX1 C ⟨by decide, by decide⟩ (Nat.le_of_ble_eq_true rfl) dX1_work_109 (fun r22 σ23 _ => ?_)
    refine g_iconst C 2 dX1_work_112 (by decide) ?_
    exact g_iret C dX1_work_113
  refine g_cs (fun h24 => ?_) (fun h24 => ?_)
  · refine g_tabIn C (off := 77) 114 (3) (by rw [h24]; decide) dX1_work_37 (by decide) (by decide) (by decide) (by decide) ?_
    refine g_lload_n C 4 dX1_work_114 rfl rfl ?_
    refine g_iload C 1 dX1_work_115 rfl ?_
    refine v_x1_factOf_RX1 C ⟨by decide, by decide⟩ (Nat.le_of_ble_eq_true rfl) dX1_work_117 (fun r25 σ26 _ => ?_)
    exact g_iret C dX1_work_120
  refine g_cs (fun h27 => ?_) (fun h27 => ?_)
  · refine g_tabIn C (off := 84) 121 (4) (by rw [h27]; decide) dX1_work_37 (by decide) (by decide) (by decide) (by decide) ?_
    refine g_aload_n C 2 dX1_work_121 rfl rfl ?_
    refine g_aload_n C 2 dX1_work_122 rfl rfl ?_
    refine gf_RX1_49 C  (v := gP σ9 907) dX1_work_123 rfl ?_
    refine g_iload_n C 3 dX1_work_126 rfl rfl ?_
    refine g_bipush C 7 dX1_work_127 (by decide) ?_
    refine g_gd (fun hp28 => ?_)
    refine v_x0_get_RX1 C hp28 ⟨by decide, by decide⟩ (Nat.le_of_ble_eq_true rfl) dX1_work_129 (fun r29 σ30 _ => ?_)
    refine g_lload_n C 4 dX1_work_132 rfl rfl ?_
    refine g_iload C 1 dX1_work_133 rfl ?_
    refine v_x1_factOf_RX1 C ⟨by decide, by decide⟩ (Nat.le_of_ble_eq_true rfl) dX1_work_135 (fun r31 σ32 _ => ?_)
    refine v_x1_noteUse_RX1 C ⟨by decide, by decide⟩ (Nat.le_of_ble_eq_true rfl) dX1_work_138 (fun r33 σ34 _ => ?_)
    refine g_aload_n C 2 dX1_work_141 rfl rfl ?_
    refine g_lload_n C 4 dX1_work_142 rfl rfl ?_
    refine g_iload C 1 dX1_work_143 rfl ?_
    refine g_iconst C 2 dX1_work_145 (by decide) ?_
    refine v_x1_narrow_RX1 C ⟨by decide, by decide⟩ (Nat.le_of_ble_eq_true rfl) dX1_work_146 (fun r35 σ36 _ => ?_)
    refine pf_RX1_151 C dX1_work_149 ?_
    refine g_aload_n C 2 dX1_work_152 rfl rfl ?_
    refine gf_RX1_19 C  dX1_work_153 ?_
    refine g_bipush C 40 dX1_work_156 (by decide) ?_
    refine g_iload C 0 dX1_work_158 rfl ?_
    refine g_iadd C dX1_work_160 ?_
    refine v_x5_at_RX1 C ⟨by decide, by decide⟩ (Nat.le_of_ble_eq_true rfl) dX1_work_161 (fun r37 σ38 _ => ?_)
    exact g_iret C dX1_work_164
  refine g_cs (fun h39 => ?_) (fun h39 => ?_)
  · refine g_tabIn C (off := 128) 165 (5) (by rw [h39]; decide) dX1_work_37 (by decide) (by decide) (by decide) (by decide) ?_
    refine g_aload_n C 2 dX1_work_165 rfl rfl ?_
    refine g_iload_n C 3 dX1_work_166 rfl rfl ?_
    refine g_lload_n C 4 dX1_work_167 rfl rfl ?_
    refine g_iload C 0 dX1_work_168 rfl ?_
    refine v_x1_workCall_RX1 C ⟨by decide, by decide⟩ (Nat.le_of_ble_eq_true rfl) dX1_work_170 (fun r40 σ41 _ => ?_)
    exact g_iret C dX1_work_173
  have ah10 : ¬ r8.toInt = 1 := k_ne h10 (by decide)
  have bh10 : ¬ (1 : Int) = r8.toInt := fun e9 => ah10 e9.symm
  have ah15 : ¬ r8.toInt = 2 := k_ne h15 (by decide)
  have bh15 : ¬ (2 : Int) = r8.toInt := fun e9 => ah15 e9.symm
  have ah24 : ¬ r8.toInt = 3 := k_ne h24 (by decide)
  have bh24 : ¬ (3 : Int) = r8.toInt := fun e9 => ah24 e9.symm
  have ah27 : ¬ r8.toInt = 4 := k_ne h27 (by decide)
  have bh27 : ¬ (4 : Int) = r8.toInt := fun e9 => ah27 e9.symm
  have ah39 : ¬ r8.toInt = 5 := k_ne h39 (by decide)
  have bh39 : ¬ (5 : Int) = r8.toInt := fun e9 => ah39 e9.symm
  refine g_tabOut C 174 dX1_work_37 (by omega) (by decide) ?_
  refine g_iconst C 1 dX1_work_174 (by decide) ?_
  exact g_iret C dX1_work_175
theorem c_x1_work {Y : Yx} {ad : Nat → Nat} {N : Nat} {σ : St} {a1 : Int32} {a2 : Int64} {r : Int32} {σ' : St} (h : x1_work N σ a1 a2 = some (r, σ')) : Con Y scC ad yX1_work cX1_work 6 (some .int) 3 71 [.ref (ad 9), .int a1, .long a2] σ (outI r) σ' := con_of (by decide) rfl (Nat.le_of_ble_eq_true rfl) rfl (fun X hX C => s_x1_work C N σ a1 a2) h
set_option maxRecDepth 20000 in
theorem v_x1_work_RX1 {X : Cx} {cc : ByteArray} {nL : Nat} {ret : Option FieldType} {fr lo : Nat} {ad : Nat → Nat} {ρ : Type} {out : ρ → Option Value} {pc : Nat} {lv : List (Nat × Value)} {rest : List Value} {σ : St} {N : Nat} {K : Int32 → St → Option (ρ × St)} {a1 : Int32} {a2 : Int64} (C : Ok X cc RX1 nL ret fr lo) (hR : 3 + 1 ≤ fr ∧ 8 + (6 + 11) + 71 ≤ lo) (hcat : (rest.map fun v => v.category).sum ≤ 8) (hdg : decode cc pc = .ok (.invokevirtual 147, 3)) (k : ∀ (r : Int32) (σ' : St), x1_work N σ a1 a2 = some (r, σ') → Sim X scC ad nL out (pc + 3) lv (.int r :: rest) σ' (K r σ')) : Sim X scC ad nL out pc lv (.long a2 :: .int a1 :: .ref (ad 9) :: rest) σ (bd (x1_work N σ a1 a2) K) := g_callV C (out1 := outI) (y := yX1_work) (n := 2) ⟨gw_881, gw_883, gw_32, gw_113, gw_884⟩ (by decide +kernel) hR (o := 9) (ci := 1) (q9 := (RX1, TX1, 14)) im_9 rfl rfl rfl (fun r σ' h => c_x1_work h) rfl rfl hcat hdg k

def x1_finish (N : Nat) (σ : St) (a1 : Int32) (a2 : Int32) (a3 : Int32) : Option (Unit × St) :=
  gd (isCd (gP σ 907)) (bd (x0_get N σ (gP σ 907) a1 1) (fun r2 σ3 => (if a2 = 3 then bd (x1_with N σ3 (gL σ3 913) r2 a3) (fun r27 σ28 => bd (x1_join N σ28 (a1 + 1) r27) (fun _ σ30 => some ((), σ30))) else (if a2 = 4 then gd (isCd (gP σ3 907)) (bd (x0_get N σ3 (gP σ3 907) a1 3) (fun r12 σ13 => bd (x1_factOf N σ13 (gL σ13 913) r2) (fun r14 σ15 => bd (x1_noteUse N σ15 r12 r14) (fun _ σ17 => bd (x1_narrow N σ17 (gL σ17 913) r2 2) (fun r18 σ19 => (if (lg_cmp r18 0) = 0 then some ((), (sL σ19 913 r18)) else gd (isCd (gP σ19 907)) (bd (x0_get N (sL σ19 913 r18) (gP σ19 907) a1 2) (fun r21 σ22 => bd (x1_raise N σ22 (40 + r21) a3) (fun _ σ24 => bd (x1_join N σ24 (a1 + 1) (gL σ24 913)) (fun _ σ26 => some ((), σ26))))))))))) else (if a2 = 6 then gd (isCd (gP σ3 907)) (bd (x0_get N σ3 (gP σ3 907) a1 11) (fun r7 σ8 => bd (x1_raise N σ8 (32 + r7) a3) (fun _ σ10 => some ((), σ10)))) else bd (x1_join N σ3 (a1 + 1) (gL σ3 913)) (fun _ σ5 => some ((), σ5)))))))
set_option maxHeartbeats 4000000 in
set_option maxRecDepth 100000 in
theorem s_x1_finish {X : Cx} {ad : Nat → Nat} (C : Ok X cX1_finish RX1 5 none 2 52) (N : Nat) (σ : St) (a1 : Int32) (a2 : Int32) (a3 : Int32) : Sim X scC ad 5 outV 0 [(0, .ref (ad 9)), (1, .int a1), (2, .int a2), (3, .int a3)] [] σ (x1_finish N σ a1 a2 a3) := by
  unfold x1_finish
  refine g_aload_n C 0 dX1_finish_0 rfl rfl ?_
  refine gf_RX1_49 C  (v := gP σ 907) dX1_finish_1 rfl ?_
  refine g_iload_n C 1 dX1_finish_4 rfl rfl ?_
  refine g_iconst C 1 dX1_finish_5 (by decide) ?_
  refine g_gd (fun hp1 => ?_)
  refine v_x0_get_RX1 C hp1 ⟨by decide, by decide⟩ (Nat.le_of_ble_eq_true rfl) dX1_finish_6 (fun r2 σ3 _ => ?_)
  refine g_istore C [(4, .int r2), (0, .ref (ad 9)), (1, .int a1), (2, .int a2), (3, .int a3)] dX1_finish_9 (by decide) rfl ?_
  refine g_iload_n C 3 dX1_finish_11 rfl rfl ?_
  refine g_iconst C 3 dX1_finish_12 (by decide) ?_
  refine g_icmp_ne C 36 dX1_finish_13 (by decide) ?_ ?_
  · refine g_iload_n C 3 dX1_finish_36 rfl rfl ?_
    refine g_iconst C 4 dX1_finish_37 (by decide) ?_
    refine g_icmp_ne C 117 dX1_finish_38 (by decide) ?_ ?_
    · refine g_iload_n C 3 dX1_finish_117 rfl rfl ?_
      refine g_bipush C 6 dX1_finish_118 (by decide) ?_
      refine g_icmp_ne C 144 dX1_finish_120 (by decide) ?_ ?_
      · refine g_aload_n C 1 dX1_finish_144 rfl rfl ?_
        refine g_iload_n C 2 dX1_finish_145 rfl rfl ?_
        refine g_iconst C 1 dX1_finish_146 (by decide) ?_
        refine g_iadd C dX1_finish_147 ?_
        refine g_aload_n C 1 dX1_finish_148 rfl rfl ?_
        refine gf_RX1_151 C  (v := gL σ3 913) dX1_finish_149 rfl ?_
        refine v_x1_join_RX1 C ⟨by decide, by decide⟩ (Nat.le_of_ble_eq_true rfl) dX1_finish_152 (fun r4 σ5 _ => ?_)
        exact g_vret C dX1_finish_155
      · refine g_aload_n C 1 dX1_finish_123 rfl rfl ?_
        refine g_bipush C 32 dX1_finish_124 (by decide) ?_
        refine g_aload_n C 1 dX1_finish_126 rfl rfl ?_
        refine gf_RX1_49 C  (v := gP σ3 907) dX1_finish_127 rfl ?_
        refine g_iload_n C 2 dX1_finish_130 rfl rfl ?_
        refine g_bipush C 11 dX1_finish_131 (by decide) ?_
        refine g_gd (fun hp6 => ?_)
        refine v_x0_get_RX1 C hp6 ⟨by decide, by decide⟩ (Nat.le_of_ble_eq_true rfl) dX1_finish_133 (fun r7 σ8 _ => ?_)
        refine g_iadd C dX1_finish_136 ?_
        refine g_iload_n C 4 dX1_finish_137 rfl rfl ?_
        refine v_x1_raise_RX1 C ⟨by decide, by decide⟩ (Nat.le_of_ble_eq_true rfl) dX1_finish_138 (fun r9 σ10 _ => ?_)
        refine g_goto C 155 dX1_finish_141 (by decide) ?_
        exact g_vret C dX1_finish_155
    · refine g_aload_n C 1 dX1_finish_41 rfl rfl ?_
      refine g_aload_n C 1 dX1_finish_42 rfl rfl ?_
      refine gf_RX1_49 C  (v := gP σ3 907) dX1_finish_43 rfl ?_
      refine g_iload_n C 2 dX1_finish_46 rfl rfl ?_
      refine g_iconst C 3 dX1_finish_47 (by decide) ?_
      refine g_gd (fun hp11 => ?_)
      refine v_x0_get_RX1 C hp11 ⟨by decide, by decide⟩ (Nat.le_of_ble_eq_true rfl) dX1_finish_48 (fun r12 σ13 _ => ?_)
      refine g_aload_n C 1 dX1_finish_51 rfl rfl ?_
      refine gf_RX1_151 C  (v := gL σ13 913) dX1_finish_52 rfl ?_
      refine g_iload C 0 dX1_finish_55 rfl ?_
      refine v_x1_factOf_RX1 C ⟨by decide, by decide⟩ (Nat.le_of_ble_eq_true rfl) dX1_finish_57 (fun r14 σ15 _ => ?_)
      refine v_x1_noteUse_RX1 C ⟨by decide, by decide⟩ (Nat.le_of_ble_eq_true rfl) dX1_finish_60 (fun r16 σ17 _ => ?_)
      refine g_aload_n C 1 dX1_finish_63 rfl rfl ?_
      refine g_aload_n C 1 dX1_finish_64 rfl rfl ?_
      refine gf_RX1_151 C  (v := gL σ17 913) dX1_finish_65 rfl ?_
      refine g_iload C 0 dX1_finish_68 rfl ?_
      refine g_iconst C 2 dX1_finish_70 (by decide) ?_
      refine v_x1_narrow_RX1 C ⟨by decide, by decide⟩ (Nat.le_of_ble_eq_true rfl) dX1_finish_71 (fun r18 σ19 _ => ?_)
      refine pf_RX1_151 C dX1_finish_74 ?_
      refine g_aload_n C 1 dX1_finish_77 rfl rfl ?_
      refine gf_RX1_151 C  (v := r18) dX1_finish_78 rfl ?_
      refine g_lconst C 0 dX1_finish_81 (by decide) ?_
      refine g_lcmp C dX1_finish_82 ?_
      refine g_if_eq C 155 dX1_finish_83 (by decide) ?_ ?_
      · exact g_vret C dX1_finish_155
      · refine g_aload_n C 1 dX1_finish_86 rfl rfl ?_
        refine g_bipush C 40 dX1_finish_87 (by decide) ?_
        refine g_aload_n C 1 dX1_finish_89 rfl rfl ?_
        refine gf_RX1_49 C  (v := gP σ19 907) dX1_finish_90 rfl ?_
        refine g_iload_n C 2 dX1_finish_93 rfl rfl ?_
        refine g_iconst C 2 dX1_finish_94 (by decide) ?_
        refine g_gd (fun hp20 => ?_)
        refine v_x0_get_RX1 C hp20 ⟨by decide, by decide⟩ (Nat.le_of_ble_eq_true rfl) dX1_finish_95 (fun r21 σ22 _ => ?_)
        refine g_iadd C dX1_finish_98 ?_
        refine g_iload_n C 4 dX1_finish_99 rfl rfl ?_
        refine v_x1_raise_RX1 C ⟨by decide, by decide⟩ (Nat.le_of_ble_eq_true rfl) dX1_finish_100 (fun r23 σ24 _ => ?_)
        refine g_aload_n C 1 dX1_finish_103 rfl rfl ?_
        refine g_iload_n C 2 dX1_finish_104 rfl rfl ?_
        refine g_iconst C 1 dX1_finish_105 (by decide) ?_
        refine g_iadd C dX1_finish_106 ?_
        refine g_aload_n C 1 dX1_finish_107 rfl rfl ?_
        refine gf_RX1_151 C  (v := gL σ24 913) dX1_finish_108 rfl ?_
        refine v_x1_join_RX1 C ⟨by decide, by decide⟩ (Nat.le_of_ble_eq_true rfl) dX1_finish_111 (fun r25 σ26 _ => ?_)
        refine g_goto C 155 dX1_finish_114 (by decide) ?_
        exact g_vret C dX1_finish_155
  · refine g_aload_n C 1 dX1_finish_16 rfl rfl ?_
    refine g_iload_n C 2 dX1_finish_17 rfl rfl ?_
    refine g_iconst C 1 dX1_finish_18 (by decide) ?_
    refine g_iadd C dX1_finish_19 ?_
    refine g_aload_n C 1 dX1_finish_20 rfl rfl ?_
    refine gf_RX1_151 C  (v := gL σ3 913) dX1_finish_21 rfl ?_
    refine g_iload C 0 dX1_finish_24 rfl ?_
    refine g_iload_n C 4 dX1_finish_26 rfl rfl ?_
    refine v_x1_with_RX1 C ⟨by decide, by decide⟩ (Nat.le_of_ble_eq_true rfl) dX1_finish_27 (fun r27 σ28 _ => ?_)
    refine v_x1_join_RX1 C ⟨by decide, by decide⟩ (Nat.le_of_ble_eq_true rfl) dX1_finish_30 (fun r29 σ30 _ => ?_)
    refine g_goto C 155 dX1_finish_33 (by decide) ?_
    exact g_vret C dX1_finish_155
theorem c_x1_finish {Y : Yx} {ad : Nat → Nat} {N : Nat} {σ : St} {a1 : Int32} {a2 : Int32} {a3 : Int32} {r : Unit} {σ' : St} (h : x1_finish N σ a1 a2 a3 = some (r, σ')) : Con Y scC ad yX1_finish cX1_finish 5 none 2 52 [.ref (ad 9), .int a1, .int a2, .int a3] σ (outV r) σ' := con_of (by decide) rfl (Nat.le_of_ble_eq_true rfl) rfl (fun X hX C => s_x1_finish C N σ a1 a2 a3) h
set_option maxRecDepth 20000 in
theorem v_x1_finish_RX1 {X : Cx} {cc : ByteArray} {nL : Nat} {ret : Option FieldType} {fr lo : Nat} {ad : Nat → Nat} {ρ : Type} {out : ρ → Option Value} {pc : Nat} {lv : List (Nat × Value)} {rest : List Value} {σ : St} {N : Nat} {K : Unit → St → Option (ρ × St)} {a1 : Int32} {a2 : Int32} {a3 : Int32} (C : Ok X cc RX1 nL ret fr lo) (hR : 2 + 1 ≤ fr ∧ 8 + (5 + 11) + 52 ≤ lo) (hcat : (rest.map fun v => v.category).sum ≤ 8) (hdg : decode cc pc = .ok (.invokevirtual 154, 3)) (k : ∀ (r : Unit) (σ' : St), x1_finish N σ a1 a2 a3 = some (r, σ') → Sim X scC ad nL out (pc + 3) lv rest σ' (K r σ')) : Sim X scC ad nL out pc lv (.int a3 :: .int a2 :: .int a1 :: .ref (ad 9) :: rest) σ (bd (x1_finish N σ a1 a2 a3) K) := g_callV C (out1 := outV) (y := yX1_finish) (n := 3) ⟨gw_898, gw_900, gw_35, gw_113, gw_901⟩ (by decide +kernel) hR (o := 9) (ci := 1) (q9 := (RX1, TX1, 14)) im_9 rfl rfl rfl (fun r σ' h => c_x1_finish h) rfl rfl hcat hdg k

def x1_advance (N : Nat) (σ : St) (a1 : Int32) (a2 : Int64) : Option (Unit × St) :=
  gd (isCd (gP σ 907)) (bd (x0_get N σ (gP σ 907) a1 0) (fun r2 σ3 => (if r2 = 1 then gd (isCd (gP σ3 907)) (bd (x0_get N σ3 (gP σ3 907) a1 10) (fun r16 σ17 => bd (x1_join N σ17 r16 a2) (fun _ σ19 => some ((), σ19)))) else (if r2 = 0 then gd (isCd (gP σ3 907)) (bd (x0_get N σ3 (gP σ3 907) a1 11) (fun r11 σ12 => bd (x1_raise N σ12 (32 + r11) 1) (fun _ σ14 => some ((), σ14)))) else (if r2 = 2 then bd (x1_fork N σ3 a1 a2) (fun _ σ9 => some ((), σ9)) else bd (x1_work N σ3 a1 a2) (fun r4 σ5 => (if (lg_cmp (gL σ5 913) 0) = 0 then some ((), σ5) else bd (x1_finish N σ5 a1 r2 r4) (fun _ σ7 => some ((), σ7)))))))))
set_option maxHeartbeats 4000000 in
set_option maxRecDepth 100000 in
theorem s_x1_advance {X : Cx} {ad : Nat → Nat} (C : Ok X cX1_advance RX1 6 none 4 96) (N : Nat) (σ : St) (a1 : Int32) (a2 : Int64) : Sim X scC ad 6 outV 0 [(0, .ref (ad 9)), (1, .int a1), (2, .long a2)] [] σ (x1_advance N σ a1 a2) := by
  unfold x1_advance
  refine g_aload_n C 0 dX1_advance_0 rfl rfl ?_
  refine gf_RX1_49 C  (v := gP σ 907) dX1_advance_1 rfl ?_
  refine g_iload_n C 1 dX1_advance_4 rfl rfl ?_
  refine g_iconst C 0 dX1_advance_5 (by decide) ?_
  refine g_gd (fun hp1 => ?_)
  refine v_x0_get_RX1 C hp1 ⟨by decide, by decide⟩ (Nat.le_of_ble_eq_true rfl) dX1_advance_6 (fun r2 σ3 _ => ?_)
  refine g_istore C [(4, .int r2), (0, .ref (ad 9)), (1, .int a1), (2, .long a2)] dX1_advance_9 (by decide) rfl ?_
  refine g_iload C 0 dX1_advance_11 rfl ?_
  refine g_iconst C 1 dX1_advance_13 (by decide) ?_
  refine g_icmp_ne C 35 dX1_advance_14 (by decide) ?_ ?_
  · refine g_iload C 0 dX1_advance_35 rfl ?_
    refine g_if_ne C 61 dX1_advance_37 (by decide) ?_ ?_
    · refine g_iload C 0 dX1_advance_61 rfl ?_
      refine g_iconst C 2 dX1_advance_63 (by decide) ?_
      refine g_icmp_ne C 76 dX1_advance_64 (by decide) ?_ ?_
      · refine g_aload_n C 1 dX1_advance_76 rfl rfl ?_
        refine g_iload_n C 2 dX1_advance_77 rfl rfl ?_
        refine g_lload_n C 3 dX1_advance_78 rfl rfl ?_
        refine v_x1_work_RX1 C ⟨by decide, by decide⟩ (Nat.le_of_ble_eq_true rfl) dX1_advance_79 (fun r4 σ5 _ => ?_)
        refine g_istore C [(5, .int r4), (4, .int r2), (0, .ref (ad 9)), (1, .int a1), (2, .long a2)] dX1_advance_82 (by decide) rfl ?_
        refine g_aload_n C 2 dX1_advance_84 rfl rfl ?_
        refine gf_RX1_151 C  (v := gL σ5 913) dX1_advance_85 rfl ?_
        refine g_lconst C 0 dX1_advance_88 (by decide) ?_
        refine g_lcmp C dX1_advance_89 ?_
        refine g_if_eq C 102 dX1_advance_90 (by decide) ?_ ?_
        · exact g_vret C dX1_advance_102
        · refine g_aload_n C 2 dX1_advance_93 rfl rfl ?_
          refine g_iload_n C 3 dX1_advance_94 rfl rfl ?_
          refine g_iload C 1 dX1_advance_95 rfl ?_
          refine g_iload C 0 dX1_advance_97 rfl ?_
          refine v_x1_finish_RX1 C ⟨by decide, by decide⟩ (Nat.le_of_ble_eq_true rfl) dX1_advance_99 (fun r6 σ7 _ => ?_)
          exact g_vret C dX1_advance_102
      · refine g_aload_n C 1 dX1_advance_67 rfl rfl ?_
        refine g_iload_n C 2 dX1_advance_68 rfl rfl ?_
        refine g_lload_n C 3 dX1_advance_69 rfl rfl ?_
        refine v_x1_fork_RX1 C ⟨by decide, by decide⟩ (Nat.le_of_ble_eq_true rfl) dX1_advance_70 (fun r8 σ9 _ => ?_)
        refine g_goto C 102 dX1_advance_73 (by decide) ?_
        exact g_vret C dX1_advance_102
    · refine g_aload_n C 1 dX1_advance_40 rfl rfl ?_
      refine g_bipush C 32 dX1_advance_41 (by decide) ?_
      refine g_aload_n C 1 dX1_advance_43 rfl rfl ?_
      refine gf_RX1_49 C  (v := gP σ3 907) dX1_advance_44 rfl ?_
      refine g_iload_n C 2 dX1_advance_47 rfl rfl ?_
      refine g_bipush C 11 dX1_advance_48 (by decide) ?_
      refine g_gd (fun hp10 => ?_)
      refine v_x0_get_RX1 C hp10 ⟨by decide, by decide⟩ (Nat.le_of_ble_eq_true rfl) dX1_advance_50 (fun r11 σ12 _ => ?_)
      refine g_iadd C dX1_advance_53 ?_
      refine g_iconst C 1 dX1_advance_54 (by decide) ?_
      refine v_x1_raise_RX1 C ⟨by decide, by decide⟩ (Nat.le_of_ble_eq_true rfl) dX1_advance_55 (fun r13 σ14 _ => ?_)
      refine g_goto C 102 dX1_advance_58 (by decide) ?_
      exact g_vret C dX1_advance_102
  · refine g_aload_n C 1 dX1_advance_17 rfl rfl ?_
    refine g_aload_n C 1 dX1_advance_18 rfl rfl ?_
    refine gf_RX1_49 C  (v := gP σ3 907) dX1_advance_19 rfl ?_
    refine g_iload_n C 2 dX1_advance_22 rfl rfl ?_
    refine g_bipush C 10 dX1_advance_23 (by decide) ?_
    refine g_gd (fun hp15 => ?_)
    refine v_x0_get_RX1 C hp15 ⟨by decide, by decide⟩ (Nat.le_of_ble_eq_true rfl) dX1_advance_25 (fun r16 σ17 _ => ?_)
    refine g_lload_n C 3 dX1_advance_28 rfl rfl ?_
    refine v_x1_join_RX1 C ⟨by decide, by decide⟩ (Nat.le_of_ble_eq_true rfl) dX1_advance_29 (fun r18 σ19 _ => ?_)
    refine g_goto C 102 dX1_advance_32 (by decide) ?_
    exact g_vret C dX1_advance_102
theorem c_x1_advance {Y : Yx} {ad : Nat → Nat} {N : Nat} {σ : St} {a1 : Int32} {a2 : Int64} {r : Unit} {σ' : St} (h : x1_advance N σ a1 a2 = some (r, σ')) : Con Y scC ad yX1_advance cX1_advance 6 none 4 96 [.ref (ad 9), .int a1, .long a2] σ (outV r) σ' := con_of (by decide) rfl (Nat.le_of_ble_eq_true rfl) rfl (fun X hX C => s_x1_advance C N σ a1 a2) h
set_option maxRecDepth 20000 in
theorem v_x1_advance_RX1 {X : Cx} {cc : ByteArray} {nL : Nat} {ret : Option FieldType} {fr lo : Nat} {ad : Nat → Nat} {ρ : Type} {out : ρ → Option Value} {pc : Nat} {lv : List (Nat × Value)} {rest : List Value} {σ : St} {N : Nat} {K : Unit → St → Option (ρ × St)} {a1 : Int32} {a2 : Int64} (C : Ok X cc RX1 nL ret fr lo) (hR : 4 + 1 ≤ fr ∧ 8 + (6 + 11) + 96 ≤ lo) (hcat : (rest.map fun v => v.category).sum ≤ 8) (hdg : decode cc pc = .ok (.invokevirtual 85, 3)) (k : ∀ (r : Unit) (σ' : St), x1_advance N σ a1 a2 = some (r, σ') → Sim X scC ad nL out (pc + 3) lv rest σ' (K r σ')) : Sim X scC ad nL out pc lv (.long a2 :: .int a1 :: .ref (ad 9) :: rest) σ (bd (x1_advance N σ a1 a2) K) := g_callV C (out1 := outV) (y := yX1_advance) (n := 2) ⟨gw_866, gw_868, gw_30, gw_113, gw_869⟩ (by decide +kernel) hR (o := 9) (ci := 1) (q9 := (RX1, TX1, 14)) im_9 rfl rfl rfl (fun r σ' h => c_x1_advance h) rfl rfl hcat hdg k

def x1_settle_145 (N : Nat) (rec37 : St → Int32 → Option (Unit × St)) (σ : St) (x3 : Int32) : Option (Unit × St) :=
  rec37 σ (x3 + 1)
def x1_settle_139 (N : Nat) (rec37 : St → Int32 → Option (Unit × St)) (rec63 : St → Int32 → Int32 → Option (Unit × St)) (σ : St) (x3 : Int32) (x4 : Int32) : Option (Unit × St) :=
  rec63 σ x3 (x4 + 1)
def x1_settle_63_b (N : Nat) (rec37 : St → Int32 → Option (Unit × St)) (rec63 : St → Int32 → Int32 → Option (Unit × St)) (σ : St) (x3 : Int32) (x4 : Int32) : Option (Unit × St) :=
  gd (isCd (gP σ 907)) ((if (gI σ (100 * (gP σ 907) + 1)) ≤ x4 then x1_settle_145 N rec37 σ x3 else (if 304 ≤ x4 then x1_settle_145 N rec37 σ x3 else gd (ib x4 304) ((if (lg_cmp (gZ σ 10 x4.toNatClampNeg) 0) = 0 then x1_settle_139 N rec37 rec63 σ x3 x4 else bd (x5_at N σ 11 x4) (fun r8 σ9 => (if r8 = (gI σ9 911) then x1_settle_139 N rec37 rec63 σ9 x3 x4 else bd (x5_put N σ9 11 x4 (gI σ9 911)) (fun _ σ11 => gd (ib x4 304) (bd (x1_advance N σ11 x4 (gZ σ11 10 x4.toNatClampNeg)) (fun _ σ13 => x1_settle_139 N rec37 rec63 σ13 x3 x4))))))))))
def x1_settle_63 (N : Nat) (rec37 : St → Int32 → Option (Unit × St)) : Nat → St → Int32 → Int32 → Option (Unit × St)
  | 0 => fun _ _ _ => none
  | n + 1 => fun σ x3 x4 => x1_settle_63_b N rec37 (x1_settle_63 N rec37 n) σ x3 x4
def x1_settle_37_b (N : Nat) (rec37 : St → Int32 → Option (Unit × St)) (σ : St) (x3 : Int32) : Option (Unit × St) :=
  (if 15902 ≤ x3 then some ((), (sI σ 908 0)) else (if (gI σ 909) = 0 then some ((), (sI σ 908 0)) else bd (x1_openRoutines N (sI σ 909 0)) (fun _ σ6 => x1_settle_63 N rec37 N σ6 x3 0)))
def x1_settle_37 (N : Nat) : Nat → St → Int32 → Option (Unit × St)
  | 0 => fun _ _ => none
  | n + 1 => fun σ x3 => x1_settle_37_b N (x1_settle_37 N n) σ x3
def x1_settle_17 (N : Nat) (σ : St) (x1 : Int64) : Option (Unit × St) :=
  bd (x1_clear N σ) (fun _ σ2 => bd (x1_reachEntry N (sL σ2 912 x1)) (fun _ σ4 => x1_settle_37 N N (sI σ4 909 1) 0))
def x1_settle (N : Nat) (σ : St) (a1 : Int64) : Option (Unit × St) :=
  (if (gI σ 908) = 0 then (if (lg_cmp (gL σ 912) a1) = 0 then some ((), σ) else x1_settle_17 N σ a1) else x1_settle_17 N σ a1)
set_option maxHeartbeats 4000000 in
set_option maxRecDepth 100000 in
theorem s_x1_settle_145 {X : Cx} {ad : Nat → Nat} (C : Ok X cX1_settle RX1 5 none 5 121) (N : Nat) {rec37 : St → Int32 → Option (Unit × St)} (hrec37 : ∀ (σ : St) (x3 : Int32), Sim X scC ad 5 outV 37 [(0, .ref (ad 9)), (3, .int x3)] [] σ (rec37 σ x3)) (σ : St) (x3 : Int32) : Sim X scC ad 5 outV 145 [(0, .ref (ad 9)), (3, .int x3)] [] σ (x1_settle_145 N rec37 σ x3) := by
  unfold x1_settle_145
  refine g_iinc C (x3 + 1) 1 [(3, .int (x3 + 1)), (0, .ref (ad 9))] dX1_settle_145 rfl rfl (by decide) rfl ?_
  refine g_goto C 37 dX1_settle_148 (by decide) ?_
  exact g_sub [1, 0] rfl (hrec37 σ (x3 + 1))
set_option maxHeartbeats 4000000 in
set_option maxRecDepth 100000 in
theorem s_x1_settle_139 {X : Cx} {ad : Nat → Nat} (C : Ok X cX1_settle RX1 5 none 5 121) (N : Nat) {rec37 : St → Int32 → Option (Unit × St)} (hrec37 : ∀ (σ : St) (x3 : Int32), Sim X scC ad 5 outV 37 [(0, .ref (ad 9)), (3, .int x3)] [] σ (rec37 σ x3)) {rec63 : St → Int32 → Int32 → Option (Unit × St)} (hrec63 : ∀ (σ : St) (x3 : Int32) (x4 : Int32), Sim X scC ad 5 outV 63 [(0, .ref (ad 9)), (3, .int x3), (4, .int x4)] [] σ (rec63 σ x3 x4)) (σ : St) (x3 : Int32) (x4 : Int32) : Sim X scC ad 5 outV 139 [(0, .ref (ad 9)), (3, .int x3), (4, .int x4)] [] σ (x1_settle_139 N rec37 rec63 σ x3 x4) := by
  unfold x1_settle_139
  refine g_iinc C (x4 + 1) 2 [(4, .int (x4 + 1)), (0, .ref (ad 9)), (3, .int x3)] dX1_settle_139 rfl rfl (by decide) rfl ?_
  refine g_goto C 63 dX1_settle_142 (by decide) ?_
  exact g_sub [1, 2, 0] rfl (hrec63 σ x3 (x4 + 1))
set_option maxHeartbeats 4000000 in
set_option maxRecDepth 100000 in
theorem s_x1_settle_63_b {X : Cx} {ad : Nat → Nat} (C : Ok X cX1_settle RX1 5 none 5 121) (N : Nat) {rec37 : St → Int32 → Option (Unit × St)} (hrec37 : ∀ (σ : St) (x3 : Int32), Sim X scC ad 5 outV 37 [(0, .ref (ad 9)), (3, .int x3)] [] σ (rec37 σ x3)) {rec63 : St → Int32 → Int32 → Option (Unit × St)} (hrec63 : ∀ (σ : St) (x3 : Int32) (x4 : Int32), Sim X scC ad 5 outV 63 [(0, .ref (ad 9)), (3, .int x3), (4, .int x4)] [] σ (rec63 σ x3 x4)) (σ : St) (x3 : Int32) (x4 : Int32) : Sim X scC ad 5 outV 63 [(0, .ref (ad 9)), (3, .int x3), (4, .int x4)] [] σ (x1_settle_63_b N rec37 rec63 σ x3 x4) := by
  unfold x1_settle_63_b
  refine g_iload C 2 dX1_settle_63 rfl ?_
  refine g_aload_n C 0 dX1_settle_65 rfl rfl ?_
  refine gf_RX1_49 C  (v := gP σ 907) dX1_settle_66 rfl ?_
  refine g_gd (fun hp7 => ?_)
  refine gf_RX1_66 C hp7 (v := gI σ (100 * (gP σ 907) + 1)) dX1_settle_69 rfl ?_
  refine g_icmp_ge C 145 dX1_settle_72 (by decide) ?_ ?_
  · exact g_sub [0, 1] rfl (s_x1_settle_145 C N hrec37 σ x3)
  · refine g_iload C 2 dX1_settle_75 rfl ?_
    refine g_aload_n C 0 dX1_settle_77 rfl rfl ?_
    refine gf_RX1_9 C  dX1_settle_78 ?_
    refine ca_lenJ C (j := 10) 304 ia_10 (by rw [il_10]; decide) dX1_settle_81 ?_
    refine g_icmp_ge C 145 dX1_settle_82 (by decide) ?_ ?_
    · exact g_sub [0, 1] rfl (s_x1_settle_145 C N hrec37 σ x3)
    · refine g_aload_n C 0 dX1_settle_85 rfl rfl ?_
      refine gf_RX1_9 C  dX1_settle_86 ?_
      refine g_iload C 2 dX1_settle_89 rfl ?_
      refine ca_ldJ C (j := 10) (v := gZ σ 10 x4.toNatClampNeg) ia_10 il_10 dX1_settle_91 rfl ?_
      refine g_lconst C 0 dX1_settle_92 (by decide) ?_
      refine g_lcmp C dX1_settle_93 ?_
      refine g_if_eq C 139 dX1_settle_94 (by decide) ?_ ?_
      · exact g_sub [0, 1, 2] rfl (s_x1_settle_139 C N hrec37 hrec63 σ x3 x4)
      · refine g_aload_n C 0 dX1_settle_97 rfl rfl ?_
        refine gf_RX1_15 C  dX1_settle_98 ?_
        refine g_iload C 2 dX1_settle_101 rfl ?_
        refine v_x5_at_RX1 C ⟨by decide, by decide⟩ (Nat.le_of_ble_eq_true rfl) dX1_settle_103 (fun r8 σ9 _ => ?_)
        refine g_aload_n C 0 dX1_settle_106 rfl rfl ?_
        refine gf_RX1_78 C  (v := gI σ9 911) dX1_settle_107 rfl ?_
        refine g_icmp_eq C 139 dX1_settle_110 (by decide) ?_ ?_
        · exact g_sub [0, 1, 2] rfl (s_x1_settle_139 C N hrec37 hrec63 σ9 x3 x4)
        · refine g_aload_n C 0 dX1_settle_113 rfl rfl ?_
          refine gf_RX1_15 C  dX1_settle_114 ?_
          refine g_iload C 2 dX1_settle_117 rfl ?_
          refine g_aload_n C 0 dX1_settle_119 rfl rfl ?_
          refine gf_RX1_78 C  (v := gI σ9 911) dX1_settle_120 rfl ?_
          refine v_x5_put_RX1 C ⟨by decide, by decide⟩ (Nat.le_of_ble_eq_true rfl) dX1_settle_123 (fun r10 σ11 _ => ?_)
          refine g_aload_n C 0 dX1_settle_126 rfl rfl ?_
          refine g_iload C 2 dX1_settle_127 rfl ?_
          refine g_aload_n C 0 dX1_settle_129 rfl rfl ?_
          refine gf_RX1_9 C  dX1_settle_130 ?_
          refine g_iload C 2 dX1_settle_133 rfl ?_
          refine ca_ldJ C (j := 10) (v := gZ σ11 10 x4.toNatClampNeg) ia_10 il_10 dX1_settle_135 rfl ?_
          refine v_x1_advance_RX1 C ⟨by decide, by decide⟩ (Nat.le_of_ble_eq_true rfl) dX1_settle_136 (fun r12 σ13 _ => ?_)
          exact g_sub [0, 1, 2] rfl (s_x1_settle_139 C N hrec37 hrec63 σ13 x3 x4)
set_option maxHeartbeats 4000000 in
set_option maxRecDepth 100000 in
theorem s_x1_settle_63 {X : Cx} {ad : Nat → Nat} (C : Ok X cX1_settle RX1 5 none 5 121) (N : Nat) {rec37 : St → Int32 → Option (Unit × St)} (hrec37 : ∀ (σ : St) (x3 : Int32), Sim X scC ad 5 outV 37 [(0, .ref (ad 9)), (3, .int x3)] [] σ (rec37 σ x3)) : ∀ (n : Nat) (σ : St) (x3 : Int32) (x4 : Int32), Sim X scC ad 5 outV 63 [(0, .ref (ad 9)), (3, .int x3), (4, .int x4)] [] σ (x1_settle_63 N rec37 n σ x3 x4) := by
  intro n
  induction n with
  | zero => intro σ x3 x4; exact g_none
  | succ n ih => intro σ x3 x4; exact s_x1_settle_63_b C N hrec37 ih σ x3 x4
set_option maxHeartbeats 4000000 in
set_option maxRecDepth 100000 in
theorem s_x1_settle_37_b {X : Cx} {ad : Nat → Nat} (C : Ok X cX1_settle RX1 5 none 5 121) (N : Nat) {rec37 : St → Int32 → Option (Unit × St)} (hrec37 : ∀ (σ : St) (x3 : Int32), Sim X scC ad 5 outV 37 [(0, .ref (ad 9)), (3, .int x3)] [] σ (rec37 σ x3)) (σ : St) (x3 : Int32) : Sim X scC ad 5 outV 37 [(0, .ref (ad 9)), (3, .int x3)] [] σ (x1_settle_37_b N rec37 σ x3) := by
  unfold x1_settle_37_b
  refine g_iload_n C 1 dX1_settle_37 rfl rfl ?_
  refine g_sipush C 15902 dX1_settle_38 (by decide) ?_
  refine g_icmp_ge C 151 dX1_settle_41 (by decide) ?_ ?_
  · refine g_aload_n C 0 dX1_settle_151 rfl rfl ?_
    refine g_iconst C 0 dX1_settle_152 (by decide) ?_
    refine pf_RX1_28 C rfl dX1_settle_153 ?_
    exact g_vret C dX1_settle_156
  · refine g_aload_n C 0 dX1_settle_44 rfl rfl ?_
    refine gf_RX1_60 C  (v := gI σ 909) dX1_settle_45 rfl ?_
    refine g_if_eq C 151 dX1_settle_48 (by decide) ?_ ?_
    · refine g_aload_n C 0 dX1_settle_151 rfl rfl ?_
      refine g_iconst C 0 dX1_settle_152 (by decide) ?_
      refine pf_RX1_28 C rfl dX1_settle_153 ?_
      exact g_vret C dX1_settle_156
    · refine g_aload_n C 0 dX1_settle_51 rfl rfl ?_
      refine g_iconst C 0 dX1_settle_52 (by decide) ?_
      refine pf_RX1_60 C rfl dX1_settle_53 ?_
      refine g_aload_n C 0 dX1_settle_56 rfl rfl ?_
      refine v_x1_openRoutines_RX1 C ⟨by decide, by decide⟩ (Nat.le_of_ble_eq_true rfl) dX1_settle_57 (fun r5 σ6 _ => ?_)
      refine g_iconst C 0 dX1_settle_60 (by decide) ?_
      refine g_istore C [(4, .int 0), (0, .ref (ad 9)), (3, .int x3)] dX1_settle_61 (by decide) rfl ?_
      exact g_sub [1, 2, 0] rfl (s_x1_settle_63 C N hrec37 N σ6 x3 0)
set_option maxHeartbeats 4000000 in
set_option maxRecDepth 100000 in
theorem s_x1_settle_37 {X : Cx} {ad : Nat → Nat} (C : Ok X cX1_settle RX1 5 none 5 121) (N : Nat) : ∀ (n : Nat) (σ : St) (x3 : Int32), Sim X scC ad 5 outV 37 [(0, .ref (ad 9)), (3, .int x3)] [] σ (x1_settle_37 N n σ x3) := by
  intro n
  induction n with
  | zero => intro σ x3; exact g_none
  | succ n ih => intro σ x3; exact s_x1_settle_37_b C N ih σ x3
set_option maxHeartbeats 4000000 in
set_option maxRecDepth 100000 in
theorem s_x1_settle_17 {X : Cx} {ad : Nat → Nat} (C : Ok X cX1_settle RX1 5 none 5 121) (N : Nat) (σ : St) (x1 : Int64) : Sim X scC ad 5 outV 17 [(0, .ref (ad 9)), (1, .long x1)] [] σ (x1_settle_17 N σ x1) := by
  unfold x1_settle_17
  refine g_aload_n C 0 dX1_settle_17 rfl rfl ?_
  refine v_x1_clear_RX1 C ⟨by decide, by decide⟩ (Nat.le_of_ble_eq_true rfl) dX1_settle_18 (fun r1 σ2 _ => ?_)
  refine g_aload_n C 0 dX1_settle_21 rfl rfl ?_
  refine g_lload_n C 1 dX1_settle_22 rfl rfl ?_
  refine pf_RX1_50 C dX1_settle_23 ?_
  refine g_aload_n C 0 dX1_settle_26 rfl rfl ?_
  refine v_x1_reachEntry_RX1 C ⟨by decide, by decide⟩ (Nat.le_of_ble_eq_true rfl) dX1_settle_27 (fun r3 σ4 _ => ?_)
  refine g_aload_n C 0 dX1_settle_30 rfl rfl ?_
  refine g_iconst C 1 dX1_settle_31 (by decide) ?_
  refine pf_RX1_60 C rfl dX1_settle_32 ?_
  refine g_iconst C 0 dX1_settle_35 (by decide) ?_
  refine g_istore_n C [(3, .int 0), (0, .ref (ad 9)), (1, .long x1)] dX1_settle_36 rfl (by decide) rfl ?_
  exact g_sub [1, 0] rfl (s_x1_settle_37 C N N (sI σ4 909 1) 0)
set_option maxHeartbeats 4000000 in
set_option maxRecDepth 100000 in
theorem s_x1_settle {X : Cx} {ad : Nat → Nat} (C : Ok X cX1_settle RX1 5 none 5 121) (N : Nat) (σ : St) (a1 : Int64) : Sim X scC ad 5 outV 0 [(0, .ref (ad 9)), (1, .long a1)] [] σ (x1_settle N σ a1) := by
  unfold x1_settle
  refine g_aload_n C 0 dX1_settle_0 rfl rfl ?_
  refine gf_RX1_28 C  (v := gI σ 908) dX1_settle_1 rfl ?_
  refine g_if_ne C 17 dX1_settle_4 (by decide) ?_ ?_
  · exact g_sub [0, 1] rfl (s_x1_settle_17 C N σ a1)
  · refine g_aload_n C 0 dX1_settle_7 rfl rfl ?_
    refine gf_RX1_50 C  (v := gL σ 912) dX1_settle_8 rfl ?_
    refine g_lload_n C 1 dX1_settle_11 rfl rfl ?_
    refine g_lcmp C dX1_settle_12 ?_
    refine g_if_ne C 17 dX1_settle_13 (by decide) ?_ ?_
    · exact g_sub [0, 1] rfl (s_x1_settle_17 C N σ a1)
    · exact g_vret C dX1_settle_16
theorem c_x1_settle {Y : Yx} {ad : Nat → Nat} {N : Nat} {σ : St} {a1 : Int64} {r : Unit} {σ' : St} (h : x1_settle N σ a1 = some (r, σ')) : Con Y scC ad yX1_settle cX1_settle 5 none 5 121 [.ref (ad 9), .long a1] σ (outV r) σ' := con_of (by decide) rfl (Nat.le_of_ble_eq_true rfl) rfl (fun X hX C => s_x1_settle C N σ a1) h
set_option maxRecDepth 20000 in
theorem v_x1_settle_RX10 {X : Cx} {cc : ByteArray} {nL : Nat} {ret : Option FieldType} {fr lo : Nat} {ad : Nat → Nat} {ρ : Type} {out : ρ → Option Value} {pc : Nat} {lv : List (Nat × Value)} {rest : List Value} {σ : St} {N : Nat} {K : Unit → St → Option (ρ × St)} {a1 : Int64} (C : Ok X cc RX10 nL ret fr lo) (hR : 5 + 1 ≤ fr ∧ 8 + (5 + 11) + 121 ≤ lo) (hcat : (rest.map fun v => v.category).sum ≤ 8) (hdg : decode cc pc = .ok (.invokevirtual 146, 3)) (k : ∀ (r : Unit) (σ' : St), x1_settle N σ a1 = some (r, σ') → Sim X scC ad nL out (pc + 3) lv rest σ' (K r σ')) : Sim X scC ad nL out pc lv (.long a1 :: .ref (ad 9) :: rest) σ (bd (x1_settle N σ a1) K) := g_callV C (out1 := outV) (y := yX1_settle) (n := 1) ⟨gw_828, gw_829, gw_830, gw_113, gw_831⟩ (by decide +kernel) hR (o := 9) (ci := 1) (q9 := (RX1, TX1, 14)) im_9 rfl rfl rfl (fun r σ' h => c_x1_settle h) rfl rfl hcat hdg k
set_option maxRecDepth 20000 in
theorem v_x1_settle_RX2 {X : Cx} {cc : ByteArray} {nL : Nat} {ret : Option FieldType} {fr lo : Nat} {ad : Nat → Nat} {ρ : Type} {out : ρ → Option Value} {pc : Nat} {lv : List (Nat × Value)} {rest : List Value} {σ : St} {N : Nat} {K : Unit → St → Option (ρ × St)} {a1 : Int64} (C : Ok X cc RX2 nL ret fr lo) (hR : 5 + 1 ≤ fr ∧ 8 + (5 + 11) + 121 ≤ lo) (hcat : (rest.map fun v => v.category).sum ≤ 8) (hdg : decode cc pc = .ok (.invokevirtual 33, 3)) (k : ∀ (r : Unit) (σ' : St), x1_settle N σ a1 = some (r, σ') → Sim X scC ad nL out (pc + 3) lv rest σ' (K r σ')) : Sim X scC ad nL out pc lv (.long a1 :: .ref (ad 9) :: rest) σ (bd (x1_settle N σ a1) K) := g_callV C (out1 := outV) (y := yX1_settle) (n := 1) ⟨gw_1041, gw_829, gw_830, gw_113, gw_831⟩ (by decide +kernel) hR (o := 9) (ci := 1) (q9 := (RX1, TX1, 14)) im_9 rfl rfl rfl (fun r σ' h => c_x1_settle h) rfl rfl hcat hdg k

def x1_guardsNeeded_31 (N : Nat) (rec4 : St → Int32 → Int32 → Option (Int32 × St)) (σ : St) (x1 : Int32) (x2 : Int32) : Option (Int32 × St) :=
  rec4 σ x1 (x2 + 1)
def x1_guardsNeeded_4_b (N : Nat) (rec4 : St → Int32 → Int32 → Option (Int32 × St)) (σ : St) (x1 : Int32) (x2 : Int32) : Option (Int32 × St) :=
  gd (isPr (gP σ 906)) ((if (gI σ (100 * (gP σ 906) + 11)) ≤ x2 then some (x1, σ) else bd (x5_at N σ 13 x2) (fun r2 σ3 => (if (r2 &&& 1) = 0 then x1_guardsNeeded_31 N rec4 σ3 x1 x2 else x1_guardsNeeded_31 N rec4 σ3 (x1 + 1) x2))))
def x1_guardsNeeded_4 (N : Nat) : Nat → St → Int32 → Int32 → Option (Int32 × St)
  | 0 => fun _ _ _ => none
  | n + 1 => fun σ x1 x2 => x1_guardsNeeded_4_b N (x1_guardsNeeded_4 N n) σ x1 x2
def x1_guardsNeeded (N : Nat) (σ : St) : Option (Int32 × St) :=
  x1_guardsNeeded_4 N N σ 0 0
set_option maxHeartbeats 4000000 in
set_option maxRecDepth 100000 in
theorem s_x1_guardsNeeded_31 {X : Cx} {ad : Nat → Nat} (C : Ok X cX1_guardsNeeded RX1 3 (some .int) 1 21) (N : Nat) {rec4 : St → Int32 → Int32 → Option (Int32 × St)} (hrec4 : ∀ (σ : St) (x1 : Int32) (x2 : Int32), Sim X scC ad 3 outI 4 [(0, .ref (ad 9)), (1, .int x1), (2, .int x2)] [] σ (rec4 σ x1 x2)) (σ : St) (x1 : Int32) (x2 : Int32) : Sim X scC ad 3 outI 31 [(0, .ref (ad 9)), (1, .int x1), (2, .int x2)] [] σ (x1_guardsNeeded_31 N rec4 σ x1 x2) := by
  unfold x1_guardsNeeded_31
  refine g_iinc C (x2 + 1) 2 [(2, .int (x2 + 1)), (0, .ref (ad 9)), (1, .int x1)] dX1_guardsNeeded_31 rfl rfl (by decide) rfl ?_
  refine g_goto C 4 dX1_guardsNeeded_34 (by decide) ?_
  exact g_sub [1, 2, 0] rfl (hrec4 σ x1 (x2 + 1))
set_option maxHeartbeats 4000000 in
set_option maxRecDepth 100000 in
theorem s_x1_guardsNeeded_4_b {X : Cx} {ad : Nat → Nat} (C : Ok X cX1_guardsNeeded RX1 3 (some .int) 1 21) (N : Nat) {rec4 : St → Int32 → Int32 → Option (Int32 × St)} (hrec4 : ∀ (σ : St) (x1 : Int32) (x2 : Int32), Sim X scC ad 3 outI 4 [(0, .ref (ad 9)), (1, .int x1), (2, .int x2)] [] σ (rec4 σ x1 x2)) (σ : St) (x1 : Int32) (x2 : Int32) : Sim X scC ad 3 outI 4 [(0, .ref (ad 9)), (1, .int x1), (2, .int x2)] [] σ (x1_guardsNeeded_4_b N rec4 σ x1 x2) := by
  unfold x1_guardsNeeded_4_b
  refine g_iload_n C 2 dX1_guardsNeeded_4 rfl rfl ?_
  refine g_aload_n C 0 dX1_guardsNeeded_5 rfl rfl ?_
  refine gf_RX1_42 C  (v := gP σ 906) dX1_guardsNeeded_6 rfl ?_
  refine g_gd (fun hp1 => ?_)
  refine gf_RX1_89 C hp1 (v := gI σ (100 * (gP σ 906) + 11)) dX1_guardsNeeded_9 rfl ?_
  refine g_icmp_ge C 37 dX1_guardsNeeded_12 (by decide) ?_ ?_
  · refine g_iload_n C 1 dX1_guardsNeeded_37 rfl rfl ?_
    exact g_iret C dX1_guardsNeeded_38
  · refine g_aload_n C 0 dX1_guardsNeeded_15 rfl rfl ?_
    refine gf_RX1_22 C  dX1_guardsNeeded_16 ?_
    refine g_iload_n C 2 dX1_guardsNeeded_19 rfl rfl ?_
    refine v_x5_at_RX1 C ⟨by decide, by decide⟩ (Nat.le_of_ble_eq_true rfl) dX1_guardsNeeded_20 (fun r2 σ3 _ => ?_)
    refine g_iconst C 1 dX1_guardsNeeded_23 (by decide) ?_
    refine g_iand C dX1_guardsNeeded_24 ?_
    refine g_if_eq C 31 dX1_guardsNeeded_25 (by decide) ?_ ?_
    · exact g_sub [0, 1, 2] rfl (s_x1_guardsNeeded_31 C N hrec4 σ3 x1 x2)
    · refine g_iinc C (x1 + 1) 1 [(1, .int (x1 + 1)), (0, .ref (ad 9)), (2, .int x2)] dX1_guardsNeeded_28 rfl rfl (by decide) rfl ?_
      exact g_sub [1, 0, 2] rfl (s_x1_guardsNeeded_31 C N hrec4 σ3 (x1 + 1) x2)
set_option maxHeartbeats 4000000 in
set_option maxRecDepth 100000 in
theorem s_x1_guardsNeeded_4 {X : Cx} {ad : Nat → Nat} (C : Ok X cX1_guardsNeeded RX1 3 (some .int) 1 21) (N : Nat) : ∀ (n : Nat) (σ : St) (x1 : Int32) (x2 : Int32), Sim X scC ad 3 outI 4 [(0, .ref (ad 9)), (1, .int x1), (2, .int x2)] [] σ (x1_guardsNeeded_4 N n σ x1 x2) := by
  intro n
  induction n with
  | zero => intro σ x1 x2; exact g_none
  | succ n ih => intro σ x1 x2; exact s_x1_guardsNeeded_4_b C N ih σ x1 x2
set_option maxHeartbeats 4000000 in
set_option maxRecDepth 100000 in
theorem s_x1_guardsNeeded {X : Cx} {ad : Nat → Nat} (C : Ok X cX1_guardsNeeded RX1 3 (some .int) 1 21) (N : Nat) (σ : St) : Sim X scC ad 3 outI 0 [(0, .ref (ad 9))] [] σ (x1_guardsNeeded N σ) := by
  unfold x1_guardsNeeded
  refine g_iconst C 0 dX1_guardsNeeded_0 (by decide) ?_
  refine g_istore_n C [(1, .int 0), (0, .ref (ad 9))] dX1_guardsNeeded_1 rfl (by decide) rfl ?_
  refine g_iconst C 0 dX1_guardsNeeded_2 (by decide) ?_
  refine g_istore_n C [(2, .int 0), (1, .int 0), (0, .ref (ad 9))] dX1_guardsNeeded_3 rfl (by decide) rfl ?_
  exact g_sub [2, 1, 0] rfl (s_x1_guardsNeeded_4 C N N σ 0 0)
theorem c_x1_guardsNeeded {Y : Yx} {ad : Nat → Nat} {N : Nat} {σ : St} {r : Int32} {σ' : St} (h : x1_guardsNeeded N σ = some (r, σ')) : Con Y scC ad yX1_guardsNeeded cX1_guardsNeeded 3 (some .int) 1 21 [.ref (ad 9)] σ (outI r) σ' := con_of (by decide) rfl (Nat.le_of_ble_eq_true rfl) rfl (fun X hX C => s_x1_guardsNeeded C N σ) h
set_option maxRecDepth 20000 in
theorem v_x1_guardsNeeded_RX10 {X : Cx} {cc : ByteArray} {nL : Nat} {ret : Option FieldType} {fr lo : Nat} {ad : Nat → Nat} {ρ : Type} {out : ρ → Option Value} {pc : Nat} {lv : List (Nat × Value)} {rest : List Value} {σ : St} {N : Nat} {K : Int32 → St → Option (ρ × St)} (C : Ok X cc RX10 nL ret fr lo) (hR : 1 + 1 ≤ fr ∧ 8 + (3 + 11) + 21 ≤ lo) (hcat : (rest.map fun v => v.category).sum ≤ 8) (hdg : decode cc pc = .ok (.invokevirtual 210, 3)) (k : ∀ (r : Int32) (σ' : St), x1_guardsNeeded N σ = some (r, σ') → Sim X scC ad nL out (pc + 3) lv (.int r :: rest) σ' (K r σ')) : Sim X scC ad nL out pc lv (.ref (ad 9) :: rest) σ (bd (x1_guardsNeeded N σ) K) := g_callV C (out1 := outI) (y := yX1_guardsNeeded) (n := 0) ⟨gw_1008, gw_1009, gw_1010, gw_113, gw_1011⟩ (by decide +kernel) hR (o := 9) (ci := 1) (q9 := (RX1, TX1, 14)) im_9 rfl rfl rfl (fun r σ' h => c_x1_guardsNeeded h) rfl rfl hcat hdg k
set_option maxRecDepth 20000 in
theorem v_x1_guardsNeeded_RX2 {X : Cx} {cc : ByteArray} {nL : Nat} {ret : Option FieldType} {fr lo : Nat} {ad : Nat → Nat} {ρ : Type} {out : ρ → Option Value} {pc : Nat} {lv : List (Nat × Value)} {rest : List Value} {σ : St} {N : Nat} {K : Int32 → St → Option (ρ × St)} (C : Ok X cc RX2 nL ret fr lo) (hR : 1 + 1 ≤ fr ∧ 8 + (3 + 11) + 21 ≤ lo) (hcat : (rest.map fun v => v.category).sum ≤ 8) (hdg : decode cc pc = .ok (.invokevirtual 45, 3)) (k : ∀ (r : Int32) (σ' : St), x1_guardsNeeded N σ = some (r, σ') → Sim X scC ad nL out (pc + 3) lv (.int r :: rest) σ' (K r σ')) : Sim X scC ad nL out pc lv (.ref (ad 9) :: rest) σ (bd (x1_guardsNeeded N σ) K) := g_callV C (out1 := outI) (y := yX1_guardsNeeded) (n := 0) ⟨gw_1048, gw_1009, gw_1010, gw_113, gw_1011⟩ (by decide +kernel) hR (o := 9) (ci := 1) (q9 := (RX1, TX1, 14)) im_9 rfl rfl rfl (fun r σ' h => c_x1_guardsNeeded h) rfl rfl hcat hdg k

def x2_findCandidates_91 (N : Nat) (rec7 : St → Int32 → Option (Unit × St)) (σ : St) (x1 : Int32) : Option (Unit × St) :=
  rec7 σ (x1 + 1)
def x2_findCandidates_49 (N : Nat) (rec7 : St → Int32 → Option (Unit × St)) (σ : St) (x1 : Int32) (t0 : Int32) : Option (Unit × St) :=
  (if t0 = 0 then bd (x5_at N σ 12 x1) (fun r1 σ2 => (if r1 = 3 then bd (x5_put N σ2 24 (gI σ2 2205) x1) (fun _ σ4 => x2_findCandidates_91 N rec7 (sI σ4 2205 ((gI σ4 2205) + 1)) x1) else x2_findCandidates_91 N rec7 σ2 x1)) else x2_findCandidates_91 N rec7 σ x1)
def x2_findCandidates_48 (N : Nat) (rec7 : St → Int32 → Option (Unit × St)) (σ : St) (x1 : Int32) : Option (Unit × St) :=
  x2_findCandidates_49 N rec7 σ x1 0
def x2_findCandidates_7_b (N : Nat) (rec7 : St → Int32 → Option (Unit × St)) (σ : St) (x1 : Int32) : Option (Unit × St) :=
  (if 42 ≤ x1 then some ((), σ) else (if 10 ≤ (gI σ 2205) then some ((), σ) else (if 32 ≤ x1 then x2_findCandidates_48 N rec7 σ x1 else (if (x1 / 4) = (gI σ 701) then x2_findCandidates_49 N rec7 σ x1 1 else x2_findCandidates_48 N rec7 σ x1))))
def x2_findCandidates_7 (N : Nat) : Nat → St → Int32 → Option (Unit × St)
  | 0 => fun _ _ => none
  | n + 1 => fun σ x1 => x2_findCandidates_7_b N (x2_findCandidates_7 N n) σ x1
def x2_findCandidates (N : Nat) (σ : St) : Option (Unit × St) :=
  x2_findCandidates_7 N N (sI σ 2205 0) 0
set_option maxHeartbeats 4000000 in
set_option maxRecDepth 100000 in
theorem s_x2_findCandidates_91 {X : Cx} {ad : Nat → Nat} (C : Ok X cX2_findCandidates RX2 3 none 1 22) (N : Nat) {rec7 : St → Int32 → Option (Unit × St)} (hrec7 : ∀ (σ : St) (x1 : Int32), Sim X scC ad 3 outV 7 [(0, .ref (ad 22)), (1, .int x1)] [] σ (rec7 σ x1)) (σ : St) (x1 : Int32) : Sim X scC ad 3 outV 91 [(0, .ref (ad 22)), (1, .int x1)] [] σ (x2_findCandidates_91 N rec7 σ x1) := by
  unfold x2_findCandidates_91
  refine g_iinc C (x1 + 1) 1 [(1, .int (x1 + 1)), (0, .ref (ad 22))] dX2_findCandidates_91 rfl rfl (by decide) rfl ?_
  refine g_goto C 7 dX2_findCandidates_94 (by decide) ?_
  exact g_sub [1, 0] rfl (hrec7 σ (x1 + 1))
set_option maxHeartbeats 4000000 in
set_option maxRecDepth 100000 in
theorem s_x2_findCandidates_49 {X : Cx} {ad : Nat → Nat} (C : Ok X cX2_findCandidates RX2 3 none 1 22) (N : Nat) {rec7 : St → Int32 → Option (Unit × St)} (hrec7 : ∀ (σ : St) (x1 : Int32), Sim X scC ad 3 outV 7 [(0, .ref (ad 22)), (1, .int x1)] [] σ (rec7 σ x1)) (σ : St) (x1 : Int32) (t0 : Int32) : Sim X scC ad 3 outV 49 [(0, .ref (ad 22)), (1, .int x1)] [.int t0] σ (x2_findCandidates_49 N rec7 σ x1 t0) := by
  unfold x2_findCandidates_49
  refine g_istore_n C [(2, .int t0), (0, .ref (ad 22)), (1, .int x1)] dX2_findCandidates_49 rfl (by decide) rfl ?_
  refine g_iload_n C 0 dX2_findCandidates_50 rfl rfl ?_
  refine g_if_ne C 91 dX2_findCandidates_51 (by decide) ?_ ?_
  · exact g_sub [1, 2] rfl (s_x2_findCandidates_91 C N hrec7 σ x1)
  · refine g_aload_n C 1 dX2_findCandidates_54 rfl rfl ?_
    refine gf_RX2_29 C  dX2_findCandidates_55 ?_
    refine gf_RX2_98 C  dX2_findCandidates_58 ?_
    refine g_iload_n C 2 dX2_findCandidates_61 rfl rfl ?_
    refine v_x5_at_RX2 C ⟨by decide, by decide⟩ (Nat.le_of_ble_eq_true rfl) dX2_findCandidates_62 (fun r1 σ2 _ => ?_)
    refine g_iconst C 3 dX2_findCandidates_65 (by decide) ?_
    refine g_icmp_ne C 91 dX2_findCandidates_66 (by decide) ?_ ?_
    · exact g_sub [1, 2] rfl (s_x2_findCandidates_91 C N hrec7 σ2 x1)
    · refine g_aload_n C 1 dX2_findCandidates_69 rfl rfl ?_
      refine gf_RX2_15 C  dX2_findCandidates_70 ?_
      refine g_aload_n C 1 dX2_findCandidates_73 rfl rfl ?_
      refine gf_RX2_58 C  (v := gI σ2 2205) dX2_findCandidates_74 rfl ?_
      refine g_iload_n C 2 dX2_findCandidates_77 rfl rfl ?_
      refine v_x5_put_RX2 C ⟨by decide, by decide⟩ (Nat.le_of_ble_eq_true rfl) dX2_findCandidates_78 (fun r3 σ4 _ => ?_)
      refine g_aload_n C 1 dX2_findCandidates_81 rfl rfl ?_
      refine g_dup C dX2_findCandidates_82 rfl ?_
      refine gf_RX2_58 C  (v := gI σ4 2205) dX2_findCandidates_83 rfl ?_
      refine g_iconst C 1 dX2_findCandidates_86 (by decide) ?_
      refine g_iadd C dX2_findCandidates_87 ?_
      refine pf_RX2_58 C dX2_findCandidates_88 ?_
      exact g_sub [1, 2] rfl (s_x2_findCandidates_91 C N hrec7 (sI σ4 2205 ((gI σ4 2205) + 1)) x1)
set_option maxHeartbeats 4000000 in
set_option maxRecDepth 100000 in
theorem s_x2_findCandidates_48 {X : Cx} {ad : Nat → Nat} (C : Ok X cX2_findCandidates RX2 3 none 1 22) (N : Nat) {rec7 : St → Int32 → Option (Unit × St)} (hrec7 : ∀ (σ : St) (x1 : Int32), Sim X scC ad 3 outV 7 [(0, .ref (ad 22)), (1, .int x1)] [] σ (rec7 σ x1)) (σ : St) (x1 : Int32) : Sim X scC ad 3 outV 48 [(0, .ref (ad 22)), (1, .int x1)] [] σ (x2_findCandidates_48 N rec7 σ x1) := by
  unfold x2_findCandidates_48
  refine g_iconst C 0 dX2_findCandidates_48 (by decide) ?_
  exact g_sub [0, 1] rfl (s_x2_findCandidates_49 C N hrec7 σ x1 0)
set_option maxHeartbeats 4000000 in
set_option maxRecDepth 100000 in
theorem s_x2_findCandidates_7_b {X : Cx} {ad : Nat → Nat} (C : Ok X cX2_findCandidates RX2 3 none 1 22) (N : Nat) {rec7 : St → Int32 → Option (Unit × St)} (hrec7 : ∀ (σ : St) (x1 : Int32), Sim X scC ad 3 outV 7 [(0, .ref (ad 22)), (1, .int x1)] [] σ (rec7 σ x1)) (σ : St) (x1 : Int32) : Sim X scC ad 3 outV 7 [(0, .ref (ad 22)), (1, .int x1)] [] σ (x2_findCandidates_7_b N rec7 σ x1) := by
  unfold x2_findCandidates_7_b
  refine g_iload_n C 1 dX2_findCandidates_7 rfl rfl ?_
  refine g_bipush C 42 dX2_findCandidates_8 (by decide) ?_
  refine g_icmp_ge C 97 dX2_findCandidates_10 (by decide) ?_ ?_
  · exact g_vret C dX2_findCandidates_97
  · refine g_aload_n C 0 dX2_findCandidates_13 rfl rfl ?_
    refine gf_RX2_58 C  (v := gI σ 2205) dX2_findCandidates_14 rfl ?_
    refine g_bipush C 10 dX2_findCandidates_17 (by decide) ?_
    refine g_icmp_ge C 97 dX2_findCandidates_19 (by decide) ?_ ?_
    · exact g_vret C dX2_findCandidates_97
    · refine g_iload_n C 1 dX2_findCandidates_22 rfl rfl ?_
      refine g_bipush C 32 dX2_findCandidates_23 (by decide) ?_
      refine g_icmp_ge C 48 dX2_findCandidates_25 (by decide) ?_ ?_
      · exact g_sub [0, 1] rfl (s_x2_findCandidates_48 C N hrec7 σ x1)
      · refine g_iload_n C 1 dX2_findCandidates_28 rfl rfl ?_
        refine g_iconst C 4 dX2_findCandidates_29 (by decide) ?_
        refine g_idiv C dX2_findCandidates_30 (by decide) ?_
        refine g_aload_n C 0 dX2_findCandidates_31 rfl rfl ?_
        refine gf_RX2_29 C  dX2_findCandidates_32 ?_
        refine gf_RX2_89 C  dX2_findCandidates_35 ?_
        refine gf_RX2_93 C  (v := gI σ 701) dX2_findCandidates_38 rfl ?_
        refine g_icmp_ne C 48 dX2_findCandidates_41 (by decide) ?_ ?_
        · exact g_sub [0, 1] rfl (s_x2_findCandidates_48 C N hrec7 σ x1)
        · refine g_iconst C 1 dX2_findCandidates_44 (by decide) ?_
          refine g_goto C 49 dX2_findCandidates_45 (by decide) ?_
          exact g_sub [0, 1] rfl (s_x2_findCandidates_49 C N hrec7 σ x1 1)
set_option maxHeartbeats 4000000 in
set_option maxRecDepth 100000 in
theorem s_x2_findCandidates_7 {X : Cx} {ad : Nat → Nat} (C : Ok X cX2_findCandidates RX2 3 none 1 22) (N : Nat) : ∀ (n : Nat) (σ : St) (x1 : Int32), Sim X scC ad 3 outV 7 [(0, .ref (ad 22)), (1, .int x1)] [] σ (x2_findCandidates_7 N n σ x1) := by
  intro n
  induction n with
  | zero => intro σ x1; exact g_none
  | succ n ih => intro σ x1; exact s_x2_findCandidates_7_b C N ih σ x1
set_option maxHeartbeats 4000000 in
set_option maxRecDepth 100000 in
theorem s_x2_findCandidates {X : Cx} {ad : Nat → Nat} (C : Ok X cX2_findCandidates RX2 3 none 1 22) (N : Nat) (σ : St) : Sim X scC ad 3 outV 0 [(0, .ref (ad 22))] [] σ (x2_findCandidates N σ) := by
  unfold x2_findCandidates
  refine g_aload_n C 0 dX2_findCandidates_0 rfl rfl ?_
  refine g_iconst C 0 dX2_findCandidates_1 (by decide) ?_
  refine pf_RX2_58 C dX2_findCandidates_2 ?_
  refine g_iconst C 0 dX2_findCandidates_5 (by decide) ?_
  refine g_istore_n C [(1, .int 0), (0, .ref (ad 22))] dX2_findCandidates_6 rfl (by decide) rfl ?_
  exact g_sub [1, 0] rfl (s_x2_findCandidates_7 C N N (sI σ 2205 0) 0)
theorem c_x2_findCandidates {Y : Yx} {ad : Nat → Nat} {N : Nat} {σ : St} {r : Unit} {σ' : St} (h : x2_findCandidates N σ = some (r, σ')) : Con Y scC ad yX2_findCandidates cX2_findCandidates 3 none 1 22 [.ref (ad 22)] σ (outV r) σ' := con_of (by decide) rfl (Nat.le_of_ble_eq_true rfl) rfl (fun X hX C => s_x2_findCandidates C N σ) h
set_option maxRecDepth 20000 in
theorem v_x2_findCandidates_RX2 {X : Cx} {cc : ByteArray} {nL : Nat} {ret : Option FieldType} {fr lo : Nat} {ad : Nat → Nat} {ρ : Type} {out : ρ → Option Value} {pc : Nat} {lv : List (Nat × Value)} {rest : List Value} {σ : St} {N : Nat} {K : Unit → St → Option (ρ × St)} (C : Ok X cc RX2 nL ret fr lo) (hR : 1 + 1 ≤ fr ∧ 8 + (3 + 11) + 22 ≤ lo) (hcat : (rest.map fun v => v.category).sum ≤ 8) (hdg : decode cc pc = .ok (.invokevirtual 39, 3)) (k : ∀ (r : Unit) (σ' : St), x2_findCandidates N σ = some (r, σ') → Sim X scC ad nL out (pc + 3) lv rest σ' (K r σ')) : Sim X scC ad nL out pc lv (.ref (ad 22) :: rest) σ (bd (x2_findCandidates N σ) K) := g_callV C (out1 := outV) (y := yX2_findCandidates) (n := 0) ⟨gw_1042, gw_1044, gw_53, gw_116, gw_1045⟩ (by decide +kernel) hR (o := 22) (ci := 2) (q9 := (RX2, TX2, 10)) im_22 rfl rfl rfl (fun r σ' h => c_x2_findCandidates h) rfl rfl hcat hdg k

def x2_marksOf_37 (N : Nat) (rec5 : St → Int32 → Int64 → Int32 → Option (Int64 × St)) (σ : St) (x1 : Int32) (x2 : Int64) (x4 : Int32) : Option (Int64 × St) :=
  rec5 σ x1 x2 (x4 + 1)
def x2_marksOf_5_b (N : Nat) (rec5 : St → Int32 → Int64 → Int32 → Option (Int64 × St)) (σ : St) (x1 : Int32) (x2 : Int64) (x4 : Int32) : Option (Int64 × St) :=
  (if (gI σ 2205) ≤ x4 then some (x2, σ) else (if ((x1 >>> (x4 &&& 31)) &&& 1) = 0 then x2_marksOf_37 N rec5 σ x1 x2 x4 else bd (x5_at N σ 24 x4) (fun r1 σ2 => x2_marksOf_37 N rec5 σ2 x1 (x2 ||| ((1 : Int64) <<< (r1.toInt64 &&& 63))) x4)))
def x2_marksOf_5 (N : Nat) : Nat → St → Int32 → Int64 → Int32 → Option (Int64 × St)
  | 0 => fun _ _ _ _ => none
  | n + 1 => fun σ x1 x2 x4 => x2_marksOf_5_b N (x2_marksOf_5 N n) σ x1 x2 x4
def x2_marksOf (N : Nat) (σ : St) (a1 : Int32) : Option (Int64 × St) :=
  x2_marksOf_5 N N σ a1 0 0
set_option maxHeartbeats 4000000 in
set_option maxRecDepth 100000 in
theorem s_x2_marksOf_37 {X : Cx} {ad : Nat → Nat} (C : Ok X cX2_marksOf RX2 5 (some .long) 1 21) (N : Nat) {rec5 : St → Int32 → Int64 → Int32 → Option (Int64 × St)} (hrec5 : ∀ (σ : St) (x1 : Int32) (x2 : Int64) (x4 : Int32), Sim X scC ad 5 outL 5 [(0, .ref (ad 22)), (1, .int x1), (2, .long x2), (4, .int x4)] [] σ (rec5 σ x1 x2 x4)) (σ : St) (x1 : Int32) (x2 : Int64) (x4 : Int32) : Sim X scC ad 5 outL 37 [(0, .ref (ad 22)), (1, .int x1), (2, .long x2), (4, .int x4)] [] σ (x2_marksOf_37 N rec5 σ x1 x2 x4) := by
  unfold x2_marksOf_37
  refine g_iinc C (x4 + 1) 3 [(4, .int (x4 + 1)), (0, .ref (ad 22)), (1, .int x1), (2, .long x2)] dX2_marksOf_37 rfl rfl (by decide) rfl ?_
  refine g_goto C 5 dX2_marksOf_40 (by decide) ?_
  exact g_sub [1, 2, 3, 0] rfl (hrec5 σ x1 x2 (x4 + 1))
set_option maxHeartbeats 4000000 in
set_option maxRecDepth 100000 in
theorem s_x2_marksOf_5_b {X : Cx} {ad : Nat → Nat} (C : Ok X cX2_marksOf RX2 5 (some .long) 1 21) (N : Nat) {rec5 : St → Int32 → Int64 → Int32 → Option (Int64 × St)} (hrec5 : ∀ (σ : St) (x1 : Int32) (x2 : Int64) (x4 : Int32), Sim X scC ad 5 outL 5 [(0, .ref (ad 22)), (1, .int x1), (2, .long x2), (4, .int x4)] [] σ (rec5 σ x1 x2 x4)) (σ : St) (x1 : Int32) (x2 : Int64) (x4 : Int32) : Sim X scC ad 5 outL 5 [(0, .ref (ad 22)), (1, .int x1), (2, .long x2), (4, .int x4)] [] σ (x2_marksOf_5_b N rec5 σ x1 x2 x4) := by
  unfold x2_marksOf_5_b
  refine g_iload C 3 dX2_marksOf_5 rfl ?_
  refine g_aload_n C 0 dX2_marksOf_7 rfl rfl ?_
  refine gf_RX2_58 C  (v := gI σ 2205) dX2_marksOf_8 rfl ?_
  refine g_icmp_ge C 43 dX2_marksOf_11 (by decide) ?_ ?_
  · refine g_lload_n C 2 dX2_marksOf_43 rfl rfl ?_
    exact g_lret C dX2_marksOf_44
  · refine g_iload_n C 1 dX2_marksOf_14 rfl rfl ?_
    refine g_iload C 3 dX2_marksOf_15 rfl ?_
    refine g_ishr C dX2_marksOf_17 ?_
    refine g_iconst C 1 dX2_marksOf_18 (by decide) ?_
    refine g_iand C dX2_marksOf_19 ?_
    refine g_if_eq C 37 dX2_marksOf_20 (by decide) ?_ ?_
    · exact g_sub [0, 1, 2, 3] rfl (s_x2_marksOf_37 C N hrec5 σ x1 x2 x4)
    · refine g_lload_n C 2 dX2_marksOf_23 rfl rfl ?_
      refine g_lconst C 1 dX2_marksOf_24 (by decide) ?_
      refine g_aload_n C 0 dX2_marksOf_25 rfl rfl ?_
      refine gf_RX2_15 C  dX2_marksOf_26 ?_
      refine g_iload C 3 dX2_marksOf_29 rfl ?_
      refine v_x5_at_RX2 C ⟨by decide, by decide⟩ (Nat.le_of_ble_eq_true rfl) dX2_marksOf_31 (fun r1 σ2 _ => ?_)
      refine g_lshl C dX2_marksOf_34 ?_
      refine g_lor C dX2_marksOf_35 ?_
      refine g_lstore_n C [(2, .long (x2 ||| ((1 : Int64) <<< (r1.toInt64 &&& 63)))), (0, .ref (ad 22)), (1, .int x1), (4, .int x4)] dX2_marksOf_36 rfl (by decide) rfl ?_
      exact g_sub [1, 2, 0, 3] rfl (s_x2_marksOf_37 C N hrec5 σ2 x1 (x2 ||| ((1 : Int64) <<< (r1.toInt64 &&& 63))) x4)
set_option maxHeartbeats 4000000 in
set_option maxRecDepth 100000 in
theorem s_x2_marksOf_5 {X : Cx} {ad : Nat → Nat} (C : Ok X cX2_marksOf RX2 5 (some .long) 1 21) (N : Nat) : ∀ (n : Nat) (σ : St) (x1 : Int32) (x2 : Int64) (x4 : Int32), Sim X scC ad 5 outL 5 [(0, .ref (ad 22)), (1, .int x1), (2, .long x2), (4, .int x4)] [] σ (x2_marksOf_5 N n σ x1 x2 x4) := by
  intro n
  induction n with
  | zero => intro σ x1 x2 x4; exact g_none
  | succ n ih => intro σ x1 x2 x4; exact s_x2_marksOf_5_b C N ih σ x1 x2 x4
set_option maxHeartbeats 4000000 in
set_option maxRecDepth 100000 in
theorem s_x2_marksOf {X : Cx} {ad : Nat → Nat} (C : Ok X cX2_marksOf RX2 5 (some .long) 1 21) (N : Nat) (σ : St) (a1 : Int32) : Sim X scC ad 5 outL 0 [(0, .ref (ad 22)), (1, .int a1)] [] σ (x2_marksOf N σ a1) := by
  unfold x2_marksOf
  refine g_lconst C 0 dX2_marksOf_0 (by decide) ?_
  refine g_lstore_n C [(2, .long 0), (0, .ref (ad 22)), (1, .int a1)] dX2_marksOf_1 rfl (by decide) rfl ?_
  refine g_iconst C 0 dX2_marksOf_2 (by decide) ?_
  refine g_istore C [(4, .int 0), (2, .long 0), (0, .ref (ad 22)), (1, .int a1)] dX2_marksOf_3 (by decide) rfl ?_
  exact g_sub [2, 3, 1, 0] rfl (s_x2_marksOf_5 C N N σ a1 0 0)
theorem c_x2_marksOf {Y : Yx} {ad : Nat → Nat} {N : Nat} {σ : St} {a1 : Int32} {r : Int64} {σ' : St} (h : x2_marksOf N σ a1 = some (r, σ')) : Con Y scC ad yX2_marksOf cX2_marksOf 5 (some .long) 1 21 [.ref (ad 22), .int a1] σ (outL r) σ' := con_of (by decide) rfl (Nat.le_of_ble_eq_true rfl) rfl (fun X hX C => s_x2_marksOf C N σ a1) h
set_option maxRecDepth 20000 in
theorem v_x2_marksOf_RX2 {X : Cx} {cc : ByteArray} {nL : Nat} {ret : Option FieldType} {fr lo : Nat} {ad : Nat → Nat} {ρ : Type} {out : ρ → Option Value} {pc : Nat} {lv : List (Nat × Value)} {rest : List Value} {σ : St} {N : Nat} {K : Int64 → St → Option (ρ × St)} {a1 : Int32} (C : Ok X cc RX2 nL ret fr lo) (hR : 1 + 1 ≤ fr ∧ 8 + (5 + 11) + 21 ≤ lo) (hcat : (rest.map fun v => v.category).sum ≤ 8) (hdg : decode cc pc = .ok (.invokevirtual 61, 3)) (k : ∀ (r : Int64) (σ' : St), x2_marksOf N σ a1 = some (r, σ') → Sim X scC ad nL out (pc + 3) lv (.long r :: rest) σ' (K r σ')) : Sim X scC ad nL out pc lv (.int a1 :: .ref (ad 22) :: rest) σ (bd (x2_marksOf N σ a1) K) := g_callV C (out1 := outL) (y := yX2_marksOf) (n := 1) ⟨gw_1049, gw_1051, gw_54, gw_116, gw_1052⟩ (by decide +kernel) hR (o := 22) (ci := 2) (q9 := (RX2, TX2, 10)) im_22 rfl rfl rfl (fun r σ' h => c_x2_marksOf h) rfl rfl hcat hdg k

def x2_priceKind (N : Nat) (σ : St) (a1 : Int32) : Option (Int32 × St) :=
  (if a1 < 40 then (if a1 < 32 then some (0, σ) else some (1, σ)) else some (2, σ))
set_option maxHeartbeats 4000000 in
set_option maxRecDepth 100000 in
theorem s_x2_priceKind {X : Cx} {ad : Nat → Nat} (C : Ok X cX2_priceKind RX2 1 (some .int) 0 0) (N : Nat) (σ : St) (a1 : Int32) : Sim X scC ad 1 outI 0 [(0, .int a1)] [] σ (x2_priceKind N σ a1) := by
  unfold x2_priceKind
  refine g_iload_n C 0 dX2_priceKind_0 rfl rfl ?_
  refine g_bipush C 40 dX2_priceKind_1 (by decide) ?_
  refine g_icmp_lt C 8 dX2_priceKind_3 (by decide) ?_ ?_
  · refine g_iload_n C 0 dX2_priceKind_8 rfl rfl ?_
    refine g_bipush C 32 dX2_priceKind_9 (by decide) ?_
    refine g_icmp_lt C 18 dX2_priceKind_11 (by decide) ?_ ?_
    · refine g_iconst C 0 dX2_priceKind_18 (by decide) ?_
      exact g_iret C dX2_priceKind_19
    · refine g_iconst C 1 dX2_priceKind_14 (by decide) ?_
      refine g_goto C 19 dX2_priceKind_15 (by decide) ?_
      exact g_iret C dX2_priceKind_19
  · refine g_iconst C 2 dX2_priceKind_6 (by decide) ?_
    exact g_iret C dX2_priceKind_7
theorem c_x2_priceKind {Y : Yx} {ad : Nat → Nat} {N : Nat} {σ : St} {a1 : Int32} {r : Int32} {σ' : St} (h : x2_priceKind N σ a1 = some (r, σ')) : Con Y scC ad yX2_priceKind cX2_priceKind 1 (some .int) 0 0 [.int a1] σ (outI r) σ' := con_of (by decide) rfl (Nat.le_of_ble_eq_true rfl) rfl (fun X hX C => s_x2_priceKind C N σ a1) h
set_option maxRecDepth 20000 in
theorem v_x2_priceKind_RX2 {X : Cx} {cc : ByteArray} {nL : Nat} {ret : Option FieldType} {fr lo : Nat} {ad : Nat → Nat} {ρ : Type} {out : ρ → Option Value} {pc : Nat} {lv : List (Nat × Value)} {rest : List Value} {σ : St} {N : Nat} {K : Int32 → St → Option (ρ × St)} {a1 : Int32} (C : Ok X cc RX2 nL ret fr lo) (hR : 0 + 1 ≤ fr ∧ 8 + (1 + 11) + 0 ≤ lo) (hcat : (rest.map fun v => v.category).sum ≤ 8) (hdg : decode cc pc = .ok (.invokestatic 105, 3)) (k : ∀ (r : Int32) (σ' : St), x2_priceKind N σ a1 = some (r, σ') → Sim X scC ad nL out (pc + 3) lv (.int r :: rest) σ' (K r σ')) : Sim X scC ad nL out pc lv (.int a1 :: rest) σ (bd (x2_priceKind N σ a1) K) := g_callS C (out1 := outI) (y := yX2_priceKind) (n := 1) ⟨gw_1061, gw_1062, gw_116, gw_1063⟩ (by decide +kernel) hR (fun r σ' h => c_x2_priceKind h) rfl rfl hcat hdg k

def x2_priceOf_41 (N : Nat) (rec4 : St → Int32 → Int32 → Int32 → Option (Int32 × St)) (σ : St) (x1 : Int32) (x2 : Int32) (x3 : Int32) : Option (Int32 × St) :=
  rec4 σ x1 x2 (x3 + 1)
def x2_priceOf_4_b (N : Nat) (rec4 : St → Int32 → Int32 → Int32 → Option (Int32 × St)) (σ : St) (x1 : Int32) (x2 : Int32) (x3 : Int32) : Option (Int32 × St) :=
  (if (gI σ 2205) ≤ x3 then some (x2, σ) else (if ((x1 >>> (x3 &&& 31)) &&& 1) = 0 then x2_priceOf_41 N rec4 σ x1 x2 x3 else bd (x5_at N σ 24 x3) (fun r1 σ2 => bd (x2_priceKind N σ2 r1) (fun r3 σ4 => bd (x5_at N σ4 23 r3) (fun r5 σ6 => x2_priceOf_41 N rec4 σ6 x1 (x2 + r5) x3)))))
def x2_priceOf_4 (N : Nat) : Nat → St → Int32 → Int32 → Int32 → Option (Int32 × St)
  | 0 => fun _ _ _ _ => none
  | n + 1 => fun σ x1 x2 x3 => x2_priceOf_4_b N (x2_priceOf_4 N n) σ x1 x2 x3
def x2_priceOf (N : Nat) (σ : St) (a1 : Int32) : Option (Int32 × St) :=
  x2_priceOf_4 N N σ a1 0 0
set_option maxHeartbeats 4000000 in
set_option maxRecDepth 100000 in
theorem s_x2_priceOf_41 {X : Cx} {ad : Nat → Nat} (C : Ok X cX2_priceOf RX2 4 (some .int) 1 21) (N : Nat) {rec4 : St → Int32 → Int32 → Int32 → Option (Int32 × St)} (hrec4 : ∀ (σ : St) (x1 : Int32) (x2 : Int32) (x3 : Int32), Sim X scC ad 4 outI 4 [(0, .ref (ad 22)), (1, .int x1), (2, .int x2), (3, .int x3)] [] σ (rec4 σ x1 x2 x3)) (σ : St) (x1 : Int32) (x2 : Int32) (x3 : Int32) : Sim X scC ad 4 outI 41 [(0, .ref (ad 22)), (1, .int x1), (2, .int x2), (3, .int x3)] [] σ (x2_priceOf_41 N rec4 σ x1 x2 x3) := by
  unfold x2_priceOf_41
  refine g_iinc C (x3 + 1) 3 [(3, .int (x3 + 1)), (0, .ref (ad 22)), (1, .int x1), (2, .int x2)] dX2_priceOf_41 rfl rfl (by decide) rfl ?_
  refine g_goto C 4 dX2_priceOf_44 (by decide) ?_
  exact g_sub [1, 2, 3, 0] rfl (hrec4 σ x1 x2 (x3 + 1))
set_option maxHeartbeats 4000000 in
set_option maxRecDepth 100000 in
theorem s_x2_priceOf_4_b {X : Cx} {ad : Nat → Nat} (C : Ok X cX2_priceOf RX2 4 (some .int) 1 21) (N : Nat) {rec4 : St → Int32 → Int32 → Int32 → Option (Int32 × St)} (hrec4 : ∀ (σ : St) (x1 : Int32) (x2 : Int32) (x3 : Int32), Sim X scC ad 4 outI 4 [(0, .ref (ad 22)), (1, .int x1), (2, .int x2), (3, .int x3)] [] σ (rec4 σ x1 x2 x3)) (σ : St) (x1 : Int32) (x2 : Int32) (x3 : Int32) : Sim X scC ad 4 outI 4 [(0, .ref (ad 22)), (1, .int x1), (2, .int x2), (3, .int x3)] [] σ (x2_priceOf_4_b N rec4 σ x1 x2 x3) := by
  unfold x2_priceOf_4_b
  refine g_iload_n C 3 dX2_priceOf_4 rfl rfl ?_
  refine g_aload_n C 0 dX2_priceOf_5 rfl rfl ?_
  refine gf_RX2_58 C  (v := gI σ 2205) dX2_priceOf_6 rfl ?_
  refine g_icmp_ge C 47 dX2_priceOf_9 (by decide) ?_ ?_
  · refine g_iload_n C 2 dX2_priceOf_47 rfl rfl ?_
    exact g_iret C dX2_priceOf_48
  · refine g_iload_n C 1 dX2_priceOf_12 rfl rfl ?_
    refine g_iload_n C 3 dX2_priceOf_13 rfl rfl ?_
    refine g_ishr C dX2_priceOf_14 ?_
    refine g_iconst C 1 dX2_priceOf_15 (by decide) ?_
    refine g_iand C dX2_priceOf_16 ?_
    refine g_if_eq C 41 dX2_priceOf_17 (by decide) ?_ ?_
    · exact g_sub [0, 1, 2, 3] rfl (s_x2_priceOf_41 C N hrec4 σ x1 x2 x3)
    · refine g_iload_n C 2 dX2_priceOf_20 rfl rfl ?_
      refine g_aload_n C 0 dX2_priceOf_21 rfl rfl ?_
      refine gf_RX2_9 C  dX2_priceOf_22 ?_
      refine g_aload_n C 0 dX2_priceOf_25 rfl rfl ?_
      refine gf_RX2_15 C  dX2_priceOf_26 ?_
      refine g_iload_n C 3 dX2_priceOf_29 rfl rfl ?_
      refine v_x5_at_RX2 C ⟨by decide, by decide⟩ (Nat.le_of_ble_eq_true rfl) dX2_priceOf_30 (fun r1 σ2 _ => ?_)
      refine v_x2_priceKind_RX2 C ⟨by decide, by decide⟩ (Nat.le_of_ble_eq_true rfl) dX2_priceOf_33 (fun r3 σ4 _ => ?_)
      refine v_x5_at_RX2 C ⟨by decide, by decide⟩ (Nat.le_of_ble_eq_true rfl) dX2_priceOf_36 (fun r5 σ6 _ => ?_)
      refine g_iadd C dX2_priceOf_39 ?_
      refine g_istore_n C [(2, .int (x2 + r5)), (0, .ref (ad 22)), (1, .int x1), (3, .int x3)] dX2_priceOf_40 rfl (by decide) rfl ?_
      exact g_sub [1, 2, 0, 3] rfl (s_x2_priceOf_41 C N hrec4 σ6 x1 (x2 + r5) x3)
set_option maxHeartbeats 4000000 in
set_option maxRecDepth 100000 in
theorem s_x2_priceOf_4 {X : Cx} {ad : Nat → Nat} (C : Ok X cX2_priceOf RX2 4 (some .int) 1 21) (N : Nat) : ∀ (n : Nat) (σ : St) (x1 : Int32) (x2 : Int32) (x3 : Int32), Sim X scC ad 4 outI 4 [(0, .ref (ad 22)), (1, .int x1), (2, .int x2), (3, .int x3)] [] σ (x2_priceOf_4 N n σ x1 x2 x3) := by
  intro n
  induction n with
  | zero => intro σ x1 x2 x3; exact g_none
  | succ n ih => intro σ x1 x2 x3; exact s_x2_priceOf_4_b C N ih σ x1 x2 x3
set_option maxHeartbeats 4000000 in
set_option maxRecDepth 100000 in
theorem s_x2_priceOf {X : Cx} {ad : Nat → Nat} (C : Ok X cX2_priceOf RX2 4 (some .int) 1 21) (N : Nat) (σ : St) (a1 : Int32) : Sim X scC ad 4 outI 0 [(0, .ref (ad 22)), (1, .int a1)] [] σ (x2_priceOf N σ a1) := by
  unfold x2_priceOf
  refine g_iconst C 0 dX2_priceOf_0 (by decide) ?_
  refine g_istore_n C [(2, .int 0), (0, .ref (ad 22)), (1, .int a1)] dX2_priceOf_1 rfl (by decide) rfl ?_
  refine g_iconst C 0 dX2_priceOf_2 (by decide) ?_
  refine g_istore_n C [(3, .int 0), (2, .int 0), (0, .ref (ad 22)), (1, .int a1)] dX2_priceOf_3 rfl (by decide) rfl ?_
  exact g_sub [2, 3, 1, 0] rfl (s_x2_priceOf_4 C N N σ a1 0 0)
theorem c_x2_priceOf {Y : Yx} {ad : Nat → Nat} {N : Nat} {σ : St} {a1 : Int32} {r : Int32} {σ' : St} (h : x2_priceOf N σ a1 = some (r, σ')) : Con Y scC ad yX2_priceOf cX2_priceOf 4 (some .int) 1 21 [.ref (ad 22), .int a1] σ (outI r) σ' := con_of (by decide) rfl (Nat.le_of_ble_eq_true rfl) rfl (fun X hX C => s_x2_priceOf C N σ a1) h
set_option maxRecDepth 20000 in
theorem v_x2_priceOf_RX2 {X : Cx} {cc : ByteArray} {nL : Nat} {ret : Option FieldType} {fr lo : Nat} {ad : Nat → Nat} {ρ : Type} {out : ρ → Option Value} {pc : Nat} {lv : List (Nat × Value)} {rest : List Value} {σ : St} {N : Nat} {K : Int32 → St → Option (ρ × St)} {a1 : Int32} (C : Ok X cc RX2 nL ret fr lo) (hR : 1 + 1 ≤ fr ∧ 8 + (4 + 11) + 21 ≤ lo) (hcat : (rest.map fun v => v.category).sum ≤ 8) (hdg : decode cc pc = .ok (.invokevirtual 81, 3)) (k : ∀ (r : Int32) (σ' : St), x2_priceOf N σ a1 = some (r, σ') → Sim X scC ad nL out (pc + 3) lv (.int r :: rest) σ' (K r σ')) : Sim X scC ad nL out pc lv (.int a1 :: .ref (ad 22) :: rest) σ (bd (x2_priceOf N σ a1) K) := g_callV C (out1 := outI) (y := yX2_priceOf) (n := 1) ⟨gw_1057, gw_1059, gw_56, gw_116, gw_1060⟩ (by decide +kernel) hR (o := 22) (ci := 2) (q9 := (RX2, TX2, 10)) im_22 rfl rfl rfl (fun r σ' h => c_x2_priceOf h) rfl rfl hcat hdg k

def x2_consider_41 (N : Nat) (σ : St) (x1 : Int32) (x2 : Int32) (x3 : Int32) : Option (Unit × St) :=
  some ((), (sI (sI (sI σ 2206 x1) 2207 x3) 2208 x2))
def x2_consider (N : Nat) (σ : St) (a1 : Int32) (a2 : Int32) : Option (Unit × St) :=
  bd (x2_priceOf N σ a1) (fun r1 σ2 => bd (x5_at N σ2 23 3) (fun r3 σ4 => (if (r1 + (a2 * r3)) < (gI σ4 2207) then x2_consider_41 N σ4 a1 a2 (r1 + (a2 * r3)) else (if (r1 + (a2 * r3)) = (gI σ4 2207) then (if (gI σ4 2206) ≤ a1 then some ((), σ4) else x2_consider_41 N σ4 a1 a2 (r1 + (a2 * r3))) else some ((), σ4)))))
set_option maxHeartbeats 4000000 in
set_option maxRecDepth 100000 in
theorem s_x2_consider_41 {X : Cx} {ad : Nat → Nat} (C : Ok X cX2_consider RX2 4 none 2 44) (N : Nat) (σ : St) (x1 : Int32) (x2 : Int32) (x3 : Int32) : Sim X scC ad 4 outV 41 [(0, .ref (ad 22)), (1, .int x1), (2, .int x2), (3, .int x3)] [] σ (x2_consider_41 N σ x1 x2 x3) := by
  unfold x2_consider_41
  refine g_aload_n C 0 dX2_consider_41 rfl rfl ?_
  refine g_iload_n C 1 dX2_consider_42 rfl rfl ?_
  refine pf_RX2_42 C dX2_consider_43 ?_
  refine g_aload_n C 0 dX2_consider_46 rfl rfl ?_
  refine g_iload_n C 3 dX2_consider_47 rfl rfl ?_
  refine pf_RX2_25 C dX2_consider_48 ?_
  refine g_aload_n C 0 dX2_consider_51 rfl rfl ?_
  refine g_iload_n C 2 dX2_consider_52 rfl rfl ?_
  refine pf_RX2_49 C dX2_consider_53 ?_
  exact g_vret C dX2_consider_56
set_option maxHeartbeats 4000000 in
set_option maxRecDepth 100000 in
theorem s_x2_consider {X : Cx} {ad : Nat → Nat} (C : Ok X cX2_consider RX2 4 none 2 44) (N : Nat) (σ : St) (a1 : Int32) (a2 : Int32) : Sim X scC ad 4 outV 0 [(0, .ref (ad 22)), (1, .int a1), (2, .int a2)] [] σ (x2_consider N σ a1 a2) := by
  unfold x2_consider
  refine g_aload_n C 0 dX2_consider_0 rfl rfl ?_
  refine g_iload_n C 1 dX2_consider_1 rfl rfl ?_
  refine v_x2_priceOf_RX2 C ⟨by decide, by decide⟩ (Nat.le_of_ble_eq_true rfl) dX2_consider_2 (fun r1 σ2 _ => ?_)
  refine g_iload_n C 2 dX2_consider_5 rfl rfl ?_
  refine g_aload_n C 0 dX2_consider_6 rfl rfl ?_
  refine gf_RX2_9 C  dX2_consider_7 ?_
  refine g_iconst C 3 dX2_consider_10 (by decide) ?_
  refine v_x5_at_RX2 C ⟨by decide, by decide⟩ (Nat.le_of_ble_eq_true rfl) dX2_consider_11 (fun r3 σ4 _ => ?_)
  refine g_imul C dX2_consider_14 ?_
  refine g_iadd C dX2_consider_15 ?_
  refine g_istore_n C [(3, .int (r1 + (a2 * r3))), (0, .ref (ad 22)), (1, .int a1), (2, .int a2)] dX2_consider_16 rfl (by decide) rfl ?_
  refine g_iload_n C 0 dX2_consider_17 rfl rfl ?_
  refine g_aload_n C 1 dX2_consider_18 rfl rfl ?_
  refine gf_RX2_25 C  (v := gI σ4 2207) dX2_consider_19 rfl ?_
  refine g_icmp_lt C 41 dX2_consider_22 (by decide) ?_ ?_
  · exact g_sub [1, 2, 3, 0] rfl (s_x2_consider_41 C N σ4 a1 a2 (r1 + (a2 * r3)))
  · refine g_iload_n C 0 dX2_consider_25 rfl rfl ?_
    refine g_aload_n C 1 dX2_consider_26 rfl rfl ?_
    refine gf_RX2_25 C  (v := gI σ4 2207) dX2_consider_27 rfl ?_
    refine g_icmp_ne C 56 dX2_consider_30 (by decide) ?_ ?_
    · exact g_vret C dX2_consider_56
    · refine g_iload_n C 2 dX2_consider_33 rfl rfl ?_
      refine g_aload_n C 1 dX2_consider_34 rfl rfl ?_
      refine gf_RX2_42 C  (v := gI σ4 2206) dX2_consider_35 rfl ?_
      refine g_icmp_ge C 56 dX2_consider_38 (by decide) ?_ ?_
      · exact g_vret C dX2_consider_56
      · exact g_sub [1, 2, 3, 0] rfl (s_x2_consider_41 C N σ4 a1 a2 (r1 + (a2 * r3)))
theorem c_x2_consider {Y : Yx} {ad : Nat → Nat} {N : Nat} {σ : St} {a1 : Int32} {a2 : Int32} {r : Unit} {σ' : St} (h : x2_consider N σ a1 a2 = some (r, σ')) : Con Y scC ad yX2_consider cX2_consider 4 none 2 44 [.ref (ad 22), .int a1, .int a2] σ (outV r) σ' := con_of (by decide) rfl (Nat.le_of_ble_eq_true rfl) rfl (fun X hX C => s_x2_consider C N σ a1 a2) h
set_option maxRecDepth 20000 in
theorem v_x2_consider_RX2 {X : Cx} {cc : ByteArray} {nL : Nat} {ret : Option FieldType} {fr lo : Nat} {ad : Nat → Nat} {ρ : Type} {out : ρ → Option Value} {pc : Nat} {lv : List (Nat × Value)} {rest : List Value} {σ : St} {N : Nat} {K : Unit → St → Option (ρ × St)} {a1 : Int32} {a2 : Int32} (C : Ok X cc RX2 nL ret fr lo) (hR : 2 + 1 ≤ fr ∧ 8 + (4 + 11) + 44 ≤ lo) (hcat : (rest.map fun v => v.category).sum ≤ 8) (hdg : decode cc pc = .ok (.invokevirtual 65, 3)) (k : ∀ (r : Unit) (σ' : St), x2_consider N σ a1 a2 = some (r, σ') → Sim X scC ad nL out (pc + 3) lv rest σ' (K r σ')) : Sim X scC ad nL out pc lv (.int a2 :: .int a1 :: .ref (ad 22) :: rest) σ (bd (x2_consider N σ a1 a2) K) := g_callV C (out1 := outV) (y := yX2_consider) (n := 2) ⟨gw_1053, gw_1055, gw_55, gw_116, gw_1056⟩ (by decide +kernel) hR (o := 22) (ci := 2) (q9 := (RX2, TX2, 10)) im_22 rfl rfl rfl (fun r σ' h => c_x2_consider h) rfl rfl hcat hdg k

def x2_isTooDear_41 (N : Nat) (σ : St) : Option (Int32 × St) :=
  some (1, σ)
def x2_isTooDear (N : Nat) (σ : St) (a1 : Int32) (a2 : Int32) : Option (Int32 × St) :=
  bd (x2_priceOf N σ a1) (fun r1 σ2 => bd (x5_at N σ2 23 3) (fun r3 σ4 => (if (gI σ4 2207) < (r1 + (a2 * r3)) then x2_isTooDear_41 N σ4 else (if (r1 + (a2 * r3)) = (gI σ4 2207) then (if a1 < (gI σ4 2206) then some (0, σ4) else x2_isTooDear_41 N σ4) else some (0, σ4)))))
set_option maxHeartbeats 4000000 in
set_option maxRecDepth 100000 in
theorem s_x2_isTooDear_41 {X : Cx} {ad : Nat → Nat} (C : Ok X cX2_isTooDear RX2 4 (some .boolean) 2 44) (N : Nat) (σ : St) : Sim X scC ad 4 outI 41 [] [] σ (x2_isTooDear_41 N σ) := by
  unfold x2_isTooDear_41
  refine g_iconst C 1 dX2_isTooDear_41 (by decide) ?_
  refine g_goto C 46 dX2_isTooDear_42 (by decide) ?_
  exact g_zret C rfl dX2_isTooDear_46
set_option maxHeartbeats 4000000 in
set_option maxRecDepth 100000 in
theorem s_x2_isTooDear {X : Cx} {ad : Nat → Nat} (C : Ok X cX2_isTooDear RX2 4 (some .boolean) 2 44) (N : Nat) (σ : St) (a1 : Int32) (a2 : Int32) : Sim X scC ad 4 outI 0 [(0, .ref (ad 22)), (1, .int a1), (2, .int a2)] [] σ (x2_isTooDear N σ a1 a2) := by
  unfold x2_isTooDear
  refine g_aload_n C 0 dX2_isTooDear_0 rfl rfl ?_
  refine g_iload_n C 1 dX2_isTooDear_1 rfl rfl ?_
  refine v_x2_priceOf_RX2 C ⟨by decide, by decide⟩ (Nat.le_of_ble_eq_true rfl) dX2_isTooDear_2 (fun r1 σ2 _ => ?_)
  refine g_iload_n C 2 dX2_isTooDear_5 rfl rfl ?_
  refine g_aload_n C 0 dX2_isTooDear_6 rfl rfl ?_
  refine gf_RX2_9 C  dX2_isTooDear_7 ?_
  refine g_iconst C 3 dX2_isTooDear_10 (by decide) ?_
  refine v_x5_at_RX2 C ⟨by decide, by decide⟩ (Nat.le_of_ble_eq_true rfl) dX2_isTooDear_11 (fun r3 σ4 _ => ?_)
  refine g_imul C dX2_isTooDear_14 ?_
  refine g_iadd C dX2_isTooDear_15 ?_
  refine g_istore_n C [(3, .int (r1 + (a2 * r3))), (0, .ref (ad 22)), (1, .int a1), (2, .int a2)] dX2_isTooDear_16 rfl (by decide) rfl ?_
  refine g_iload_n C 0 dX2_isTooDear_17 rfl rfl ?_
  refine g_aload_n C 1 dX2_isTooDear_18 rfl rfl ?_
  refine gf_RX2_25 C  (v := gI σ4 2207) dX2_isTooDear_19 rfl ?_
  refine g_icmp_gt C 41 dX2_isTooDear_22 (by decide) ?_ ?_
  · exact g_sub [] rfl (s_x2_isTooDear_41 C N σ4)
  · refine g_iload_n C 0 dX2_isTooDear_25 rfl rfl ?_
    refine g_aload_n C 1 dX2_isTooDear_26 rfl rfl ?_
    refine gf_RX2_25 C  (v := gI σ4 2207) dX2_isTooDear_27 rfl ?_
    refine g_icmp_ne C 45 dX2_isTooDear_30 (by decide) ?_ ?_
    · refine g_iconst C 0 dX2_isTooDear_45 (by decide) ?_
      exact g_zret C rfl dX2_isTooDear_46
    · refine g_iload_n C 2 dX2_isTooDear_33 rfl rfl ?_
      refine g_aload_n C 1 dX2_isTooDear_34 rfl rfl ?_
      refine gf_RX2_42 C  (v := gI σ4 2206) dX2_isTooDear_35 rfl ?_
      refine g_icmp_lt C 45 dX2_isTooDear_38 (by decide) ?_ ?_
      · refine g_iconst C 0 dX2_isTooDear_45 (by decide) ?_
        exact g_zret C rfl dX2_isTooDear_46
      · exact g_sub [] rfl (s_x2_isTooDear_41 C N σ4)
theorem c_x2_isTooDear {Y : Yx} {ad : Nat → Nat} {N : Nat} {σ : St} {a1 : Int32} {a2 : Int32} {r : Int32} {σ' : St} (h : x2_isTooDear N σ a1 a2 = some (r, σ')) : Con Y scC ad yX2_isTooDear cX2_isTooDear 4 (some .boolean) 2 44 [.ref (ad 22), .int a1, .int a2] σ (outI r) σ' := con_of (by decide) rfl (Nat.le_of_ble_eq_true rfl) rfl (fun X hX C => s_x2_isTooDear C N σ a1 a2) h
set_option maxRecDepth 20000 in
theorem v_x2_isTooDear_RX2 {X : Cx} {cc : ByteArray} {nL : Nat} {ret : Option FieldType} {fr lo : Nat} {ad : Nat → Nat} {ρ : Type} {out : ρ → Option Value} {pc : Nat} {lv : List (Nat × Value)} {rest : List Value} {σ : St} {N : Nat} {K : Int32 → St → Option (ρ × St)} {a1 : Int32} {a2 : Int32} (C : Ok X cc RX2 nL ret fr lo) (hR : 2 + 1 ≤ fr ∧ 8 + (4 + 11) + 44 ≤ lo) (hcat : (rest.map fun v => v.category).sum ≤ 8) (hdg : decode cc pc = .ok (.invokevirtual 85, 3)) (k : ∀ (r : Int32) (σ' : St), x2_isTooDear N σ a1 a2 = some (r, σ') → Sim X scC ad nL out (pc + 3) lv (.int r :: rest) σ' (K r σ')) : Sim X scC ad nL out pc lv (.int a2 :: .int a1 :: .ref (ad 22) :: rest) σ (bd (x2_isTooDear N σ a1 a2) K) := g_callV C (out1 := outI) (y := yX2_isTooDear) (n := 2) ⟨gw_1068, gw_1070, gw_58, gw_116, gw_1071⟩ (by decide +kernel) hR (o := 22) (ci := 2) (q9 := (RX2, TX2, 10)) im_22 rfl rfl rfl (fun r σ' h => c_x2_isTooDear h) rfl rfl hcat hdg k

def x2_nextBelow_48 (N : Nat) (rec5 : St → Int32 → Int32 → Int32 → Option (Int32 × St)) (σ : St) (x1 : Int32) (x2 : Int32) (x3 : Int32) : Option (Int32 × St) :=
  rec5 σ x1 x2 (x3 + (-1))
def x2_nextBelow_5_b (N : Nat) (rec5 : St → Int32 → Int32 → Int32 → Option (Int32 × St)) (σ : St) (x1 : Int32) (x2 : Int32) (x3 : Int32) : Option (Int32 × St) :=
  (if x3 ≤ 0 then some (x1 - 1, σ) else (if (x1 &&& (((1 : Int32) <<< (x3 &&& 31)) - 1)) = (((1 : Int32) <<< (x3 &&& 31)) - 1) then bd (x2_isTooDear N σ (x1 &&& ((((1 : Int32) <<< (x3 &&& 31)) - 1) ^^^ (-1))) x2) (fun r1 σ2 => (if r1 = 0 then x2_nextBelow_48 N rec5 σ2 x1 x2 x3 else some ((x1 &&& ((((1 : Int32) <<< (x3 &&& 31)) - 1) ^^^ (-1))) - 1, σ2))) else x2_nextBelow_48 N rec5 σ x1 x2 x3))
def x2_nextBelow_5 (N : Nat) : Nat → St → Int32 → Int32 → Int32 → Option (Int32 × St)
  | 0 => fun _ _ _ _ => none
  | n + 1 => fun σ x1 x2 x3 => x2_nextBelow_5_b N (x2_nextBelow_5 N n) σ x1 x2 x3
def x2_nextBelow (N : Nat) (σ : St) (a1 : Int32) (a2 : Int32) : Option (Int32 × St) :=
  x2_nextBelow_5 N N σ a1 a2 (gI σ 2205)
set_option maxHeartbeats 4000000 in
set_option maxRecDepth 100000 in
theorem s_x2_nextBelow_48 {X : Cx} {ad : Nat → Nat} (C : Ok X cX2_nextBelow RX2 6 (some .int) 3 67) (N : Nat) {rec5 : St → Int32 → Int32 → Int32 → Option (Int32 × St)} (hrec5 : ∀ (σ : St) (x1 : Int32) (x2 : Int32) (x3 : Int32), Sim X scC ad 6 outI 5 [(0, .ref (ad 22)), (1, .int x1), (2, .int x2), (3, .int x3)] [] σ (rec5 σ x1 x2 x3)) (σ : St) (x1 : Int32) (x2 : Int32) (x3 : Int32) : Sim X scC ad 6 outI 48 [(0, .ref (ad 22)), (1, .int x1), (2, .int x2), (3, .int x3)] [] σ (x2_nextBelow_48 N rec5 σ x1 x2 x3) := by
  unfold x2_nextBelow_48
  refine g_iinc C (x3 + (-1)) 3 [(3, .int (x3 + (-1))), (0, .ref (ad 22)), (1, .int x1), (2, .int x2)] dX2_nextBelow_48 rfl rfl (by decide) rfl ?_
  refine g_goto C 5 dX2_nextBelow_51 (by decide) ?_
  exact g_sub [1, 2, 3, 0] rfl (hrec5 σ x1 x2 (x3 + (-1)))
set_option maxHeartbeats 4000000 in
set_option maxRecDepth 100000 in
theorem s_x2_nextBelow_5_b {X : Cx} {ad : Nat → Nat} (C : Ok X cX2_nextBelow RX2 6 (some .int) 3 67) (N : Nat) {rec5 : St → Int32 → Int32 → Int32 → Option (Int32 × St)} (hrec5 : ∀ (σ : St) (x1 : Int32) (x2 : Int32) (x3 : Int32), Sim X scC ad 6 outI 5 [(0, .ref (ad 22)), (1, .int x1), (2, .int x2), (3, .int x3)] [] σ (rec5 σ x1 x2 x3)) (σ : St) (x1 : Int32) (x2 : Int32) (x3 : Int32) : Sim X scC ad 6 outI 5 [(0, .ref (ad 22)), (1, .int x1), (2, .int x2), (3, .int x3)] [] σ (x2_nextBelow_5_b N rec5 σ x1 x2 x3) := by
  unfold x2_nextBelow_5_b
  refine g_iload_n C 3 dX2_nextBelow_5 rfl rfl ?_
  refine g_if_le C 54 dX2_nextBelow_6 (by decide) ?_ ?_
  · refine g_iload_n C 1 dX2_nextBelow_54 rfl rfl ?_
    refine g_iconst C 1 dX2_nextBelow_55 (by decide) ?_
    refine g_isub C dX2_nextBelow_56 ?_
    exact g_iret C dX2_nextBelow_57
  · refine g_iconst C 1 dX2_nextBelow_9 (by decide) ?_
    refine g_iload_n C 3 dX2_nextBelow_10 rfl rfl ?_
    refine g_ishl C dX2_nextBelow_11 ?_
    refine g_iconst C 1 dX2_nextBelow_12 (by decide) ?_
    refine g_isub C dX2_nextBelow_13 ?_
    refine g_istore C [(4, .int (((1 : Int32) <<< (x3 &&& 31)) - 1)), (0, .ref (ad 22)), (1, .int x1), (2, .int x2), (3, .int x3)] dX2_nextBelow_14 (by decide) rfl ?_
    refine g_iload_n C 2 dX2_nextBelow_16 rfl rfl ?_
    refine g_iload C 0 dX2_nextBelow_17 rfl ?_
    refine g_iconst C (-1) dX2_nextBelow_19 (by decide) ?_
    refine g_ixor C dX2_nextBelow_20 ?_
    refine g_iand C dX2_nextBelow_21 ?_
    refine g_istore C [(5, .int (x1 &&& ((((1 : Int32) <<< (x3 &&& 31)) - 1) ^^^ (-1)))), (4, .int (((1 : Int32) <<< (x3 &&& 31)) - 1)), (0, .ref (ad 22)), (1, .int x1), (2, .int x2), (3, .int x3)] dX2_nextBelow_22 (by decide) rfl ?_
    refine g_iload_n C 3 dX2_nextBelow_24 rfl rfl ?_
    refine g_iload C 1 dX2_nextBelow_25 rfl ?_
    refine g_iand C dX2_nextBelow_27 ?_
    refine g_iload C 1 dX2_nextBelow_28 rfl ?_
    refine g_icmp_ne C 48 dX2_nextBelow_30 (by decide) ?_ ?_
    · exact g_sub [2, 3, 4, 5] rfl (s_x2_nextBelow_48 C N hrec5 σ x1 x2 x3)
    · refine g_aload_n C 2 dX2_nextBelow_33 rfl rfl ?_
      refine g_iload C 0 dX2_nextBelow_34 rfl ?_
      refine g_iload_n C 4 dX2_nextBelow_36 rfl rfl ?_
      refine v_x2_isTooDear_RX2 C ⟨by decide, by decide⟩ (Nat.le_of_ble_eq_true rfl) dX2_nextBelow_37 (fun r1 σ2 _ => ?_)
      refine g_if_eq C 48 dX2_nextBelow_40 (by decide) ?_ ?_
      · exact g_sub [2, 3, 4, 5] rfl (s_x2_nextBelow_48 C N hrec5 σ2 x1 x2 x3)
      · refine g_iload C 0 dX2_nextBelow_43 rfl ?_
        refine g_iconst C 1 dX2_nextBelow_45 (by decide) ?_
        refine g_isub C dX2_nextBelow_46 ?_
        exact g_iret C dX2_nextBelow_47
set_option maxHeartbeats 4000000 in
set_option maxRecDepth 100000 in
theorem s_x2_nextBelow_5 {X : Cx} {ad : Nat → Nat} (C : Ok X cX2_nextBelow RX2 6 (some .int) 3 67) (N : Nat) : ∀ (n : Nat) (σ : St) (x1 : Int32) (x2 : Int32) (x3 : Int32), Sim X scC ad 6 outI 5 [(0, .ref (ad 22)), (1, .int x1), (2, .int x2), (3, .int x3)] [] σ (x2_nextBelow_5 N n σ x1 x2 x3) := by
  intro n
  induction n with
  | zero => intro σ x1 x2 x3; exact g_none
  | succ n ih => intro σ x1 x2 x3; exact s_x2_nextBelow_5_b C N ih σ x1 x2 x3
set_option maxHeartbeats 4000000 in
set_option maxRecDepth 100000 in
theorem s_x2_nextBelow {X : Cx} {ad : Nat → Nat} (C : Ok X cX2_nextBelow RX2 6 (some .int) 3 67) (N : Nat) (σ : St) (a1 : Int32) (a2 : Int32) : Sim X scC ad 6 outI 0 [(0, .ref (ad 22)), (1, .int a1), (2, .int a2)] [] σ (x2_nextBelow N σ a1 a2) := by
  unfold x2_nextBelow
  refine g_aload_n C 0 dX2_nextBelow_0 rfl rfl ?_
  refine gf_RX2_58 C  (v := gI σ 2205) dX2_nextBelow_1 rfl ?_
  refine g_istore_n C [(3, .int (gI σ 2205)), (0, .ref (ad 22)), (1, .int a1), (2, .int a2)] dX2_nextBelow_4 rfl (by decide) rfl ?_
  exact g_sub [1, 2, 3, 0] rfl (s_x2_nextBelow_5 C N N σ a1 a2 (gI σ 2205))
theorem c_x2_nextBelow {Y : Yx} {ad : Nat → Nat} {N : Nat} {σ : St} {a1 : Int32} {a2 : Int32} {r : Int32} {σ' : St} (h : x2_nextBelow N σ a1 a2 = some (r, σ')) : Con Y scC ad yX2_nextBelow cX2_nextBelow 6 (some .int) 3 67 [.ref (ad 22), .int a1, .int a2] σ (outI r) σ' := con_of (by decide) rfl (Nat.le_of_ble_eq_true rfl) rfl (fun X hX C => s_x2_nextBelow C N σ a1 a2) h
set_option maxRecDepth 20000 in
theorem v_x2_nextBelow_RX2 {X : Cx} {cc : ByteArray} {nL : Nat} {ret : Option FieldType} {fr lo : Nat} {ad : Nat → Nat} {ρ : Type} {out : ρ → Option Value} {pc : Nat} {lv : List (Nat × Value)} {rest : List Value} {σ : St} {N : Nat} {K : Int32 → St → Option (ρ × St)} {a1 : Int32} {a2 : Int32} (C : Ok X cc RX2 nL ret fr lo) (hR : 3 + 1 ≤ fr ∧ 8 + (6 + 11) + 67 ≤ lo) (hcat : (rest.map fun v => v.category).sum ≤ 8) (hdg : decode cc pc = .ok (.invokevirtual 69, 3)) (k : ∀ (r : Int32) (σ' : St), x2_nextBelow N σ a1 a2 = some (r, σ') → Sim X scC ad nL out (pc + 3) lv (.int r :: rest) σ' (K r σ')) : Sim X scC ad nL out pc lv (.int a2 :: .int a1 :: .ref (ad 22) :: rest) σ (bd (x2_nextBelow N σ a1 a2) K) := g_callV C (out1 := outI) (y := yX2_nextBelow) (n := 2) ⟨gw_1064, gw_1066, gw_57, gw_116, gw_1067⟩ (by decide +kernel) hR (o := 22) (ci := 2) (q9 := (RX2, TX2, 10)) im_22 rfl rfl rfl (fun r σ' h => c_x2_nextBelow h) rfl rfl hcat hdg k

def x2_nameOfMark (N : Nat) (σ : St) (a1 : Int32) : Option (Int32 × St) :=
  (if a1 < 40 then (if a1 < 32 then some (((a1 / 4) * 10) + (a1 - a1 / 4 * 4), σ) else some (100 + ((a1 - 32) * 10), σ)) else some ((200 + a1) - 40, σ))
set_option maxHeartbeats 4000000 in
set_option maxRecDepth 100000 in
theorem s_x2_nameOfMark {X : Cx} {ad : Nat → Nat} (C : Ok X cX2_nameOfMark RX2 1 (some .int) 0 0) (N : Nat) (σ : St) (a1 : Int32) : Sim X scC ad 1 outI 0 [(0, .int a1)] [] σ (x2_nameOfMark N σ a1) := by
  unfold x2_nameOfMark
  refine g_iload_n C 0 dX2_nameOfMark_0 rfl rfl ?_
  refine g_bipush C 40 dX2_nameOfMark_1 (by decide) ?_
  refine g_icmp_lt C 15 dX2_nameOfMark_3 (by decide) ?_ ?_
  · refine g_iload_n C 0 dX2_nameOfMark_15 rfl rfl ?_
    refine g_bipush C 32 dX2_nameOfMark_16 (by decide) ?_
    refine g_icmp_lt C 32 dX2_nameOfMark_18 (by decide) ?_ ?_
    · refine g_iload_n C 0 dX2_nameOfMark_32 rfl rfl ?_
      refine g_iconst C 4 dX2_nameOfMark_33 (by decide) ?_
      refine g_idiv C dX2_nameOfMark_34 (by decide) ?_
      refine g_bipush C 10 dX2_nameOfMark_35 (by decide) ?_
      refine g_imul C dX2_nameOfMark_37 ?_
      refine g_iload_n C 0 dX2_nameOfMark_38 rfl rfl ?_
      refine g_iconst C 4 dX2_nameOfMark_39 (by decide) ?_
      refine g_irem C dX2_nameOfMark_40 (by decide) ?_
      refine g_iadd C dX2_nameOfMark_41 ?_
      exact g_iret C dX2_nameOfMark_42
    · refine g_bipush C 100 dX2_nameOfMark_21 (by decide) ?_
      refine g_iload_n C 0 dX2_nameOfMark_23 rfl rfl ?_
      refine g_bipush C 32 dX2_nameOfMark_24 (by decide) ?_
      refine g_isub C dX2_nameOfMark_26 ?_
      refine g_bipush C 10 dX2_nameOfMark_27 (by decide) ?_
      refine g_imul C dX2_nameOfMark_29 ?_
      refine g_iadd C dX2_nameOfMark_30 ?_
      exact g_iret C dX2_nameOfMark_31
  · refine g_sipush C 200 dX2_nameOfMark_6 (by decide) ?_
    refine g_iload_n C 0 dX2_nameOfMark_9 rfl rfl ?_
    refine g_iadd C dX2_nameOfMark_10 ?_
    refine g_bipush C 40 dX2_nameOfMark_11 (by decide) ?_
    refine g_isub C dX2_nameOfMark_13 ?_
    exact g_iret C dX2_nameOfMark_14
theorem c_x2_nameOfMark {Y : Yx} {ad : Nat → Nat} {N : Nat} {σ : St} {a1 : Int32} {r : Int32} {σ' : St} (h : x2_nameOfMark N σ a1 = some (r, σ')) : Con Y scC ad yX2_nameOfMark cX2_nameOfMark 1 (some .int) 0 0 [.int a1] σ (outI r) σ' := con_of (by decide) rfl (Nat.le_of_ble_eq_true rfl) rfl (fun X hX C => s_x2_nameOfMark C N σ a1) h
set_option maxRecDepth 20000 in
theorem v_x2_nameOfMark_RX2 {X : Cx} {cc : ByteArray} {nL : Nat} {ret : Option FieldType} {fr lo : Nat} {ad : Nat → Nat} {ρ : Type} {out : ρ → Option Value} {pc : Nat} {lv : List (Nat × Value)} {rest : List Value} {σ : St} {N : Nat} {K : Int32 → St → Option (ρ × St)} {a1 : Int32} (C : Ok X cc RX2 nL ret fr lo) (hR : 0 + 1 ≤ fr ∧ 8 + (1 + 11) + 0 ≤ lo) (hcat : (rest.map fun v => v.category).sum ≤ 8) (hdg : decode cc pc = .ok (.invokestatic 111, 3)) (k : ∀ (r : Int32) (σ' : St), x2_nameOfMark N σ a1 = some (r, σ') → Sim X scC ad nL out (pc + 3) lv (.int r :: rest) σ' (K r σ')) : Sim X scC ad nL out pc lv (.int a1 :: rest) σ (bd (x2_nameOfMark N σ a1) K) := g_callS C (out1 := outI) (y := yX2_nameOfMark) (n := 1) ⟨gw_1077, gw_1078, gw_116, gw_1079⟩ (by decide +kernel) hR (fun r σ' h => c_x2_nameOfMark h) rfl rfl hcat hdg k

def x2_nameHeld_58 (N : Nat) (rec7 : St → Int32 → Option (Unit × St)) (σ : St) (x1 : Int32) : Option (Unit × St) :=
  rec7 σ (x1 + 1)
def x2_nameHeld_7_b (N : Nat) (rec7 : St → Int32 → Option (Unit × St)) (σ : St) (x1 : Int32) : Option (Unit × St) :=
  (if (gI σ 2205) ≤ x1 then some ((), σ) else (if (((gI σ 2206) >>> (x1 &&& 31)) &&& 1) = 0 then x2_nameHeld_58 N rec7 σ x1 else bd (x5_at N σ 24 x1) (fun r1 σ2 => bd (x2_nameOfMark N σ2 r1) (fun r3 σ4 => bd (x5_put N σ4 25 (gI σ 2209) r3) (fun _ σ6 => x2_nameHeld_58 N rec7 (sI σ6 2209 ((gI σ6 2209) + 1)) x1)))))
def x2_nameHeld_7 (N : Nat) : Nat → St → Int32 → Option (Unit × St)
  | 0 => fun _ _ => none
  | n + 1 => fun σ x1 => x2_nameHeld_7_b N (x2_nameHeld_7 N n) σ x1
def x2_nameHeld (N : Nat) (σ : St) : Option (Unit × St) :=
  x2_nameHeld_7 N N (sI σ 2209 0) 0
set_option maxHeartbeats 4000000 in
set_option maxRecDepth 100000 in
theorem s_x2_nameHeld_58 {X : Cx} {ad : Nat → Nat} (C : Ok X cX2_nameHeld RX2 2 none 1 22) (N : Nat) {rec7 : St → Int32 → Option (Unit × St)} (hrec7 : ∀ (σ : St) (x1 : Int32), Sim X scC ad 2 outV 7 [(0, .ref (ad 22)), (1, .int x1)] [] σ (rec7 σ x1)) (σ : St) (x1 : Int32) : Sim X scC ad 2 outV 58 [(0, .ref (ad 22)), (1, .int x1)] [] σ (x2_nameHeld_58 N rec7 σ x1) := by
  unfold x2_nameHeld_58
  refine g_iinc C (x1 + 1) 1 [(1, .int (x1 + 1)), (0, .ref (ad 22))] dX2_nameHeld_58 rfl rfl (by decide) rfl ?_
  refine g_goto C 7 dX2_nameHeld_61 (by decide) ?_
  exact g_sub [1, 0] rfl (hrec7 σ (x1 + 1))
set_option maxHeartbeats 4000000 in
set_option maxRecDepth 100000 in
theorem s_x2_nameHeld_7_b {X : Cx} {ad : Nat → Nat} (C : Ok X cX2_nameHeld RX2 2 none 1 22) (N : Nat) {rec7 : St → Int32 → Option (Unit × St)} (hrec7 : ∀ (σ : St) (x1 : Int32), Sim X scC ad 2 outV 7 [(0, .ref (ad 22)), (1, .int x1)] [] σ (rec7 σ x1)) (σ : St) (x1 : Int32) : Sim X scC ad 2 outV 7 [(0, .ref (ad 22)), (1, .int x1)] [] σ (x2_nameHeld_7_b N rec7 σ x1) := by
  unfold x2_nameHeld_7_b
  refine g_iload_n C 1 dX2_nameHeld_7 rfl rfl ?_
  refine g_aload_n C 0 dX2_nameHeld_8 rfl rfl ?_
  refine gf_RX2_58 C  (v := gI σ 2205) dX2_nameHeld_9 rfl ?_
  refine g_icmp_ge C 64 dX2_nameHeld_12 (by decide) ?_ ?_
  · exact g_vret C dX2_nameHeld_64
  · refine g_aload_n C 0 dX2_nameHeld_15 rfl rfl ?_
    refine gf_RX2_42 C  (v := gI σ 2206) dX2_nameHeld_16 rfl ?_
    refine g_iload_n C 1 dX2_nameHeld_19 rfl rfl ?_
    refine g_ishr C dX2_nameHeld_20 ?_
    refine g_iconst C 1 dX2_nameHeld_21 (by decide) ?_
    refine g_iand C dX2_nameHeld_22 ?_
    refine g_if_eq C 58 dX2_nameHeld_23 (by decide) ?_ ?_
    · exact g_sub [0, 1] rfl (s_x2_nameHeld_58 C N hrec7 σ x1)
    · refine g_aload_n C 0 dX2_nameHeld_26 rfl rfl ?_
      refine gf_RX2_18 C  dX2_nameHeld_27 ?_
      refine g_aload_n C 0 dX2_nameHeld_30 rfl rfl ?_
      refine gf_RX2_108 C  (v := gI σ 2209) dX2_nameHeld_31 rfl ?_
      refine g_aload_n C 0 dX2_nameHeld_34 rfl rfl ?_
      refine gf_RX2_15 C  dX2_nameHeld_35 ?_
      refine g_iload_n C 1 dX2_nameHeld_38 rfl rfl ?_
      refine v_x5_at_RX2 C ⟨by decide, by decide⟩ (Nat.le_of_ble_eq_true rfl) dX2_nameHeld_39 (fun r1 σ2 _ => ?_)
      refine v_x2_nameOfMark_RX2 C ⟨by decide, by decide⟩ (Nat.le_of_ble_eq_true rfl) dX2_nameHeld_42 (fun r3 σ4 _ => ?_)
      refine v_x5_put_RX2 C ⟨by decide, by decide⟩ (Nat.le_of_ble_eq_true rfl) dX2_nameHeld_45 (fun r5 σ6 _ => ?_)
      refine g_aload_n C 0 dX2_nameHeld_48 rfl rfl ?_
      refine g_dup C dX2_nameHeld_49 rfl ?_
      refine gf_RX2_108 C  (v := gI σ6 2209) dX2_nameHeld_50 rfl ?_
      refine g_iconst C 1 dX2_nameHeld_53 (by decide) ?_
      refine g_iadd C dX2_nameHeld_54 ?_
      refine pf_RX2_108 C dX2_nameHeld_55 ?_
      exact g_sub [0, 1] rfl (s_x2_nameHeld_58 C N hrec7 (sI σ6 2209 ((gI σ6 2209) + 1)) x1)
set_option maxHeartbeats 4000000 in
set_option maxRecDepth 100000 in
theorem s_x2_nameHeld_7 {X : Cx} {ad : Nat → Nat} (C : Ok X cX2_nameHeld RX2 2 none 1 22) (N : Nat) : ∀ (n : Nat) (σ : St) (x1 : Int32), Sim X scC ad 2 outV 7 [(0, .ref (ad 22)), (1, .int x1)] [] σ (x2_nameHeld_7 N n σ x1) := by
  intro n
  induction n with
  | zero => intro σ x1; exact g_none
  | succ n ih => intro σ x1; exact s_x2_nameHeld_7_b C N ih σ x1
set_option maxHeartbeats 4000000 in
set_option maxRecDepth 100000 in
theorem s_x2_nameHeld {X : Cx} {ad : Nat → Nat} (C : Ok X cX2_nameHeld RX2 2 none 1 22) (N : Nat) (σ : St) : Sim X scC ad 2 outV 0 [(0, .ref (ad 22))] [] σ (x2_nameHeld N σ) := by
  unfold x2_nameHeld
  refine g_aload_n C 0 dX2_nameHeld_0 rfl rfl ?_
  refine g_iconst C 0 dX2_nameHeld_1 (by decide) ?_
  refine pf_RX2_108 C dX2_nameHeld_2 ?_
  refine g_iconst C 0 dX2_nameHeld_5 (by decide) ?_
  refine g_istore_n C [(1, .int 0), (0, .ref (ad 22))] dX2_nameHeld_6 rfl (by decide) rfl ?_
  exact g_sub [1, 0] rfl (s_x2_nameHeld_7 C N N (sI σ 2209 0) 0)
theorem c_x2_nameHeld {Y : Yx} {ad : Nat → Nat} {N : Nat} {σ : St} {r : Unit} {σ' : St} (h : x2_nameHeld N σ = some (r, σ')) : Con Y scC ad yX2_nameHeld cX2_nameHeld 2 none 1 22 [.ref (ad 22)] σ (outV r) σ' := con_of (by decide) rfl (Nat.le_of_ble_eq_true rfl) rfl (fun X hX C => s_x2_nameHeld C N σ) h
set_option maxRecDepth 20000 in
theorem v_x2_nameHeld_RX2 {X : Cx} {cc : ByteArray} {nL : Nat} {ret : Option FieldType} {fr lo : Nat} {ad : Nat → Nat} {ρ : Type} {out : ρ → Option Value} {pc : Nat} {lv : List (Nat × Value)} {rest : List Value} {σ : St} {N : Nat} {K : Unit → St → Option (ρ × St)} (C : Ok X cc RX2 nL ret fr lo) (hR : 1 + 1 ≤ fr ∧ 8 + (2 + 11) + 22 ≤ lo) (hcat : (rest.map fun v => v.category).sum ≤ 8) (hdg : decode cc pc = .ok (.invokevirtual 78, 3)) (k : ∀ (r : Unit) (σ' : St), x2_nameHeld N σ = some (r, σ') → Sim X scC ad nL out (pc + 3) lv rest σ' (K r σ')) : Sim X scC ad nL out pc lv (.ref (ad 22) :: rest) σ (bd (x2_nameHeld N σ) K) := g_callV C (out1 := outV) (y := yX2_nameHeld) (n := 0) ⟨gw_1073, gw_1075, gw_59, gw_116, gw_1076⟩ (by decide +kernel) hR (o := 22) (ci := 2) (q9 := (RX2, TX2, 10)) im_22 rfl rfl rfl (fun r σ' h => c_x2_nameHeld h) rfl rfl hcat hdg k

def x2_search_108 (N : Nat) (σ : St) : Option (Unit × St) :=
  bd (x2_nameHeld N σ) (fun _ σ10 => some ((), (sI σ10 2204 0)))
def x2_search_62_b (N : Nat) (rec62 : St → Int32 → Option (Unit × St)) (σ : St) (x1 : Int32) : Option (Unit × St) :=
  (if x1 ≤ 0 then x2_search_108 N σ else bd (x2_marksOf N σ x1) (fun r11 σ12 => bd (x1_settle N σ12 r11) (fun _ σ14 => bd (x1_guardsNeeded N σ14) (fun r15 σ16 => bd (x2_consider N σ16 x1 r15) (fun _ σ18 => bd (x2_nextBelow N σ18 x1 r15) (fun r19 σ20 => rec62 σ20 (if r19 < (x1 - 1) then r19 else (x1 - 1))))))))
def x2_search_62 (N : Nat) : Nat → St → Int32 → Option (Unit × St)
  | 0 => fun _ _ => none
  | n + 1 => fun σ x1 => x2_search_62_b N (x2_search_62 N n) σ x1
def x2_search (N : Nat) (σ : St) : Option (Unit × St) :=
  (if (gI σ 2204) = 0 then some ((), σ) else bd (x1_settle N σ 0) (fun _ σ2 => bd (x2_findCandidates N σ2) (fun _ σ4 => bd (x1_guardsNeeded N (sI σ4 2206 0)) (fun r5 σ6 => bd (x5_at N (sI σ6 2208 r5) 23 3) (fun r7 σ8 => x2_search_62 N N (sI σ8 2207 (r5 * r7)) (((1 : Int32) <<< ((gI σ8 2205) &&& 31)) - 1))))))
set_option maxHeartbeats 4000000 in
set_option maxRecDepth 100000 in
theorem s_x2_search_108 {X : Cx} {ad : Nat → Nat} (C : Ok X cX2_search RX2 3 none 6 145) (N : Nat) (σ : St) : Sim X scC ad 3 outV 108 [(0, .ref (ad 22))] [] σ (x2_search_108 N σ) := by
  unfold x2_search_108
  refine g_aload_n C 0 dX2_search_108 rfl rfl ?_
  refine v_x2_nameHeld_RX2 C ⟨by decide, by decide⟩ (Nat.le_of_ble_eq_true rfl) dX2_search_109 (fun r9 σ10 _ => ?_)
  refine g_aload_n C 0 dX2_search_112 rfl rfl ?_
  refine g_iconst C 0 dX2_search_113 (by decide) ?_
  refine pf_RX2_21 C rfl dX2_search_114 ?_
  exact g_vret C dX2_search_117
set_option maxHeartbeats 4000000 in
set_option maxRecDepth 100000 in
theorem s_x2_search_62_b {X : Cx} {ad : Nat → Nat} (C : Ok X cX2_search RX2 3 none 6 145) (N : Nat) {rec62 : St → Int32 → Option (Unit × St)} (hrec62 : ∀ (σ : St) (x1 : Int32), Sim X scC ad 3 outV 62 [(0, .ref (ad 22)), (1, .int x1)] [] σ (rec62 σ x1)) (σ : St) (x1 : Int32) : Sim X scC ad 3 outV 62 [(0, .ref (ad 22)), (1, .int x1)] [] σ (x2_search_62_b N rec62 σ x1) := by
  unfold x2_search_62_b
  refine g_iload_n C 1 dX2_search_62 rfl rfl ?_
  refine g_if_le C 108 dX2_search_63 (by decide) ?_ ?_
  · exact g_sub [0] rfl (s_x2_search_108 C N σ)
  · refine g_aload_n C 0 dX2_search_66 rfl rfl ?_
    refine gf_RX2_29 C  dX2_search_67 ?_
    refine g_aload_n C 0 dX2_search_70 rfl rfl ?_
    refine g_iload_n C 1 dX2_search_71 rfl rfl ?_
    refine v_x2_marksOf_RX2 C ⟨by decide, by decide⟩ (Nat.le_of_ble_eq_true rfl) dX2_search_72 (fun r11 σ12 _ => ?_)
    refine v_x1_settle_RX2 C ⟨by decide, by decide⟩ (Nat.le_of_ble_eq_true rfl) dX2_search_75 (fun r13 σ14 _ => ?_)
    refine g_aload_n C 0 dX2_search_78 rfl rfl ?_
    refine gf_RX2_29 C  dX2_search_79 ?_
    refine v_x1_guardsNeeded_RX2 C ⟨by decide, by decide⟩ (Nat.le_of_ble_eq_true rfl) dX2_search_82 (fun r15 σ16 _ => ?_)
    refine g_istore_n C [(2, .int r15), (0, .ref (ad 22)), (1, .int x1)] dX2_search_85 rfl (by decide) rfl ?_
    refine g_aload_n C 1 dX2_search_86 rfl rfl ?_
    refine g_iload_n C 2 dX2_search_87 rfl rfl ?_
    refine g_iload_n C 0 dX2_search_88 rfl rfl ?_
    refine v_x2_consider_RX2 C ⟨by decide, by decide⟩ (Nat.le_of_ble_eq_true rfl) dX2_search_89 (fun r17 σ18 _ => ?_)
    refine g_iload_n C 2 dX2_search_92 rfl rfl ?_
    refine g_iconst C 1 dX2_search_93 (by decide) ?_
    refine g_isub C dX2_search_94 ?_
    refine g_aload_n C 1 dX2_search_95 rfl rfl ?_
    refine g_iload_n C 2 dX2_search_96 rfl rfl ?_
    refine g_iload_n C 0 dX2_search_97 rfl rfl ?_
    refine v_x2_nextBelow_RX2 C ⟨by decide, by decide⟩ (Nat.le_of_ble_eq_true rfl) dX2_search_98 (fun r19 σ20 _ => ?_)
    refine g_mmin C gw_1072 gw_545 gw_118 gw_546 ⟨by decide, by decide⟩ (Nat.le_of_ble_eq_true rfl) dX2_search_101 ?_
    refine g_istore_n C [(1, .int (if r19 < (x1 - 1) then r19 else (x1 - 1))), (2, .int r15), (0, .ref (ad 22))] dX2_search_104 rfl (by decide) rfl ?_
    refine g_goto C 62 dX2_search_105 (by decide) ?_
    exact g_sub [2, 0] rfl (hrec62 σ20 (if r19 < (x1 - 1) then r19 else (x1 - 1)))
set_option maxHeartbeats 4000000 in
set_option maxRecDepth 100000 in
theorem s_x2_search_62 {X : Cx} {ad : Nat → Nat} (C : Ok X cX2_search RX2 3 none 6 145) (N : Nat) : ∀ (n : Nat) (σ : St) (x1 : Int32), Sim X scC ad 3 outV 62 [(0, .ref (ad 22)), (1, .int x1)] [] σ (x2_search_62 N n σ x1) := by
  intro n
  induction n with
  | zero => intro σ x1; exact g_none
  | succ n ih => intro σ x1; exact s_x2_search_62_b C N ih σ x1
set_option maxHeartbeats 4000000 in
set_option maxRecDepth 100000 in
theorem s_x2_search {X : Cx} {ad : Nat → Nat} (C : Ok X cX2_search RX2 3 none 6 145) (N : Nat) (σ : St) : Sim X scC ad 3 outV 0 [(0, .ref (ad 22))] [] σ (x2_search N σ) := by
  unfold x2_search
  refine g_aload_n C 0 dX2_search_0 rfl rfl ?_
  refine gf_RX2_21 C  (v := gI σ 2204) dX2_search_1 rfl ?_
  refine g_if_ne C 8 dX2_search_4 (by decide) ?_ ?_
  · refine g_aload_n C 0 dX2_search_8 rfl rfl ?_
    refine gf_RX2_29 C  dX2_search_9 ?_
    refine g_lconst C 0 dX2_search_12 (by decide) ?_
    refine v_x1_settle_RX2 C ⟨by decide, by decide⟩ (Nat.le_of_ble_eq_true rfl) dX2_search_13 (fun r1 σ2 _ => ?_)
    refine g_aload_n C 0 dX2_search_16 rfl rfl ?_
    refine v_x2_findCandidates_RX2 C ⟨by decide, by decide⟩ (Nat.le_of_ble_eq_true rfl) dX2_search_17 (fun r3 σ4 _ => ?_)
    refine g_aload_n C 0 dX2_search_20 rfl rfl ?_
    refine g_iconst C 0 dX2_search_21 (by decide) ?_
    refine pf_RX2_42 C dX2_search_22 ?_
    refine g_aload_n C 0 dX2_search_25 rfl rfl ?_
    refine g_aload_n C 0 dX2_search_26 rfl rfl ?_
    refine gf_RX2_29 C  dX2_search_27 ?_
    refine v_x1_guardsNeeded_RX2 C ⟨by decide, by decide⟩ (Nat.le_of_ble_eq_true rfl) dX2_search_30 (fun r5 σ6 _ => ?_)
    refine pf_RX2_49 C dX2_search_33 ?_
    refine g_aload_n C 0 dX2_search_36 rfl rfl ?_
    refine g_aload_n C 0 dX2_search_37 rfl rfl ?_
    refine gf_RX2_49 C  (v := r5) dX2_search_38 rfl ?_
    refine g_aload_n C 0 dX2_search_41 rfl rfl ?_
    refine gf_RX2_9 C  dX2_search_42 ?_
    refine g_iconst C 3 dX2_search_45 (by decide) ?_
    refine v_x5_at_RX2 C ⟨by decide, by decide⟩ (Nat.le_of_ble_eq_true rfl) dX2_search_46 (fun r7 σ8 _ => ?_)
    refine g_imul C dX2_search_49 ?_
    refine pf_RX2_25 C dX2_search_50 ?_
    refine g_iconst C 1 dX2_search_53 (by decide) ?_
    refine g_aload_n C 0 dX2_search_54 rfl rfl ?_
    refine gf_RX2_58 C  (v := gI σ8 2205) dX2_search_55 rfl ?_
    refine g_ishl C dX2_search_58 ?_
    refine g_iconst C 1 dX2_search_59 (by decide) ?_
    refine g_isub C dX2_search_60 ?_
    refine g_istore_n C [(1, .int (((1 : Int32) <<< ((gI σ8 2205) &&& 31)) - 1)), (0, .ref (ad 22))] dX2_search_61 rfl (by decide) rfl ?_
    exact g_sub [1, 0] rfl (s_x2_search_62 C N N (sI σ8 2207 (r5 * r7)) (((1 : Int32) <<< ((gI σ8 2205) &&& 31)) - 1))
  · exact g_vret C dX2_search_7
theorem c_x2_search {Y : Yx} {ad : Nat → Nat} {N : Nat} {σ : St} {r : Unit} {σ' : St} (h : x2_search N σ = some (r, σ')) : Con Y scC ad yX2_search cX2_search 3 none 6 145 [.ref (ad 22)] σ (outV r) σ' := con_of (by decide) rfl (Nat.le_of_ble_eq_true rfl) rfl (fun X hX C => s_x2_search C N σ) h
set_option maxRecDepth 20000 in
theorem v_x2_search_RX10 {X : Cx} {cc : ByteArray} {nL : Nat} {ret : Option FieldType} {fr lo : Nat} {ad : Nat → Nat} {ρ : Type} {out : ρ → Option Value} {pc : Nat} {lv : List (Nat × Value)} {rest : List Value} {σ : St} {N : Nat} {K : Unit → St → Option (ρ × St)} (C : Ok X cc RX10 nL ret fr lo) (hR : 6 + 1 ≤ fr ∧ 8 + (3 + 11) + 145 ≤ lo) (hcat : (rest.map fun v => v.category).sum ≤ 8) (hdg : decode cc pc = .ok (.invokevirtual 225, 3)) (k : ∀ (r : Unit) (σ' : St), x2_search N σ = some (r, σ') → Sim X scC ad nL out (pc + 3) lv rest σ' (K r σ')) : Sim X scC ad nL out pc lv (.ref (ad 22) :: rest) σ (bd (x2_search N σ) K) := g_callV C (out1 := outV) (y := yX2_search) (n := 0) ⟨gw_1037, gw_1038, gw_1039, gw_116, gw_1040⟩ (by decide +kernel) hR (o := 22) (ci := 2) (q9 := (RX2, TX2, 10)) im_22 rfl rfl rfl (fun r σ' h => c_x2_search h) rfl rfl hcat hdg k

def x3_clear (N : Nat) (σ : St) (a0 : Nat) : Option (Unit × St) :=
  gd (isPr a0) (some ((), (sI (sI (sI (sI (sI (sI σ (100 * (a0 + 1) + 1) 0) (100 * a0 + 9) 0) (100 * a0 + 10) 0) (100 * a0 + 11) 0) (100 * a0 + 12) 0) (100 * a0 + 13) (-1))))
set_option maxHeartbeats 4000000 in
set_option maxRecDepth 100000 in
theorem s_x3_clear {X : Cx} {ad : Nat → Nat} (C : Ok X cX3_clear RX3 1 none 0 0) (N : Nat) (σ : St) (a0 : Nat) : Sim X scC ad 1 outV 0 [(0, .ref (ad a0))] [] σ (x3_clear N σ a0) := by
  unfold x3_clear
  refine g_aload_n C 0 dX3_clear_0 rfl rfl ?_
  refine g_gd (fun hp1 => ?_)
  refine gf_RX3_12 C hp1 dX3_clear_1 ?_
  refine g_iconst C 0 dX3_clear_4 (by decide) ?_
  refine pf_RX3_47 C (isCd_of hp1) dX3_clear_5 ?_
  refine g_aload_n C 0 dX3_clear_8 rfl rfl ?_
  refine g_iconst C 0 dX3_clear_9 (by decide) ?_
  refine pf_RX3_50 C hp1 dX3_clear_10 ?_
  refine g_aload_n C 0 dX3_clear_13 rfl rfl ?_
  refine g_iconst C 0 dX3_clear_14 (by decide) ?_
  refine pf_RX3_53 C hp1 dX3_clear_15 ?_
  refine g_aload_n C 0 dX3_clear_18 rfl rfl ?_
  refine g_iconst C 0 dX3_clear_19 (by decide) ?_
  refine pf_RX3_56 C hp1 dX3_clear_20 ?_
  refine g_aload_n C 0 dX3_clear_23 rfl rfl ?_
  refine g_iconst C 0 dX3_clear_24 (by decide) ?_
  refine pf_RX3_59 C hp1 dX3_clear_25 ?_
  refine g_aload_n C 0 dX3_clear_28 rfl rfl ?_
  refine g_iconst C (-1) dX3_clear_29 (by decide) ?_
  refine pf_RX3_43 C hp1 dX3_clear_30 ?_
  exact g_vret C dX3_clear_33
theorem c_x3_clear {Y : Yx} {ad : Nat → Nat} {N : Nat} {σ : St} {a0 : Nat} {r : Unit} {σ' : St} (h : x3_clear N σ a0 = some (r, σ')) : Con Y scC ad yX3_clear cX3_clear 1 none 0 0 [.ref (ad a0)] σ (outV r) σ' := con_of (by decide) rfl (Nat.le_of_ble_eq_true rfl) rfl (fun X hX C => s_x3_clear C N σ a0) h
set_option maxRecDepth 20000 in
theorem v_x3_clear_RX4 {X : Cx} {cc : ByteArray} {nL : Nat} {ret : Option FieldType} {fr lo : Nat} {ad : Nat → Nat} {ρ : Type} {out : ρ → Option Value} {pc : Nat} {lv : List (Nat × Value)} {rest : List Value} {σ : St} {N : Nat} {K : Unit → St → Option (ρ × St)} {a0 : Nat} (C : Ok X cc RX4 nL ret fr lo) (hp : isPr a0 = true) (hR : 0 + 1 ≤ fr ∧ 8 + (1 + 11) + 0 ≤ lo) (hcat : (rest.map fun v => v.category).sum ≤ 8) (hdg : decode cc pc = .ok (.invokevirtual 37, 3)) (k : ∀ (r : Unit) (σ' : St), x3_clear N σ a0 = some (r, σ') → Sim X scC ad nL out (pc + 3) lv rest σ' (K r σ')) : Sim X scC ad nL out pc lv (.ref (ad a0) :: rest) σ (bd (x3_clear N σ a0) K) := g_callV C (out1 := outV) (y := yX3_clear) (n := 0) ⟨gw_634, gw_635, gw_636, gw_109, gw_637⟩ (by decide +kernel) hR (o := a0) (ci := 3) (q9 := (RX3, TX3, 14)) (pr_in hp) (pr_kd hp) rfl rfl (fun r σ' h => c_x3_clear h) rfl rfl hcat hdg k

def x3_addRoutine_12 (N : Nat) (σ : St) (x0 : Nat) (x1 : Int32) : Option (Unit × St) :=
  gd (isPr x0) (bd (x5_put N (sI (sI σ (100 * x0 + 10) ((gI σ (100 * x0 + 10)) + 1)) (100 * x0 + 9) ((gI (sI σ (100 * x0 + 10) ((gI σ (100 * x0 + 10)) + 1)) (100 * x0 + 9)) ||| ((1 : Int32) <<< (x1 &&& 31)))) (x0 + 3) x1 (gI (sI (sI σ (100 * x0 + 10) ((gI σ (100 * x0 + 10)) + 1)) (100 * x0 + 9) ((gI (sI σ (100 * x0 + 10) ((gI σ (100 * x0 + 10)) + 1)) (100 * x0 + 9)) ||| ((1 : Int32) <<< (x1 &&& 31)))) (100 * (x0 + 1) + 1))) (fun _ σ4 => bd (x5_put N σ4 (x0 + 4) x1 0) (fun _ σ6 => some ((), σ6))))
def x3_addRoutine (N : Nat) (σ : St) (a0 : Nat) (a1 : Int32) : Option (Unit × St) :=
  gd (isPr a0) ((if (gI σ (100 * a0 + 10)) = 0 then x3_addRoutine_12 N (sI σ (100 * a0 + 13) a1) a0 a1 else x3_addRoutine_12 N σ a0 a1))
set_option maxHeartbeats 4000000 in
set_option maxRecDepth 100000 in
theorem s_x3_addRoutine_12 {X : Cx} {ad : Nat → Nat} (C : Ok X cX3_addRoutine RX3 2 none 1 22) (N : Nat) (σ : St) (x0 : Nat) (x1 : Int32) : Sim X scC ad 2 outV 12 [(0, .ref (ad x0)), (1, .int x1)] [] σ (x3_addRoutine_12 N σ x0 x1) := by
  unfold x3_addRoutine_12
  refine g_aload_n C 0 dX3_addRoutine_12 rfl rfl ?_
  refine g_dup C dX3_addRoutine_13 rfl ?_
  refine g_gd (fun hp2 => ?_)
  refine gf_RX3_53 C hp2 (v := gI σ (100 * x0 + 10)) dX3_addRoutine_14 rfl ?_
  refine g_iconst C 1 dX3_addRoutine_17 (by decide) ?_
  refine g_iadd C dX3_addRoutine_18 ?_
  refine pf_RX3_53 C hp2 dX3_addRoutine_19 ?_
  refine g_aload_n C 0 dX3_addRoutine_22 rfl rfl ?_
  refine g_dup C dX3_addRoutine_23 rfl ?_
  refine gf_RX3_50 C hp2 (v := gI (sI σ (100 * x0 + 10) ((gI σ (100 * x0 + 10)) + 1)) (100 * x0 + 9)) dX3_addRoutine_24 rfl ?_
  refine g_iconst C 1 dX3_addRoutine_27 (by decide) ?_
  refine g_iload_n C 1 dX3_addRoutine_28 rfl rfl ?_
  refine g_ishl C dX3_addRoutine_29 ?_
  refine g_ior C dX3_addRoutine_30 ?_
  refine pf_RX3_50 C hp2 dX3_addRoutine_31 ?_
  refine g_aload_n C 0 dX3_addRoutine_34 rfl rfl ?_
  refine gf_RX3_18 C hp2 dX3_addRoutine_35 ?_
  refine g_iload_n C 1 dX3_addRoutine_38 rfl rfl ?_
  refine g_aload_n C 0 dX3_addRoutine_39 rfl rfl ?_
  refine gf_RX3_12 C hp2 dX3_addRoutine_40 ?_
  refine gf_RX3_47 C (isCd_of hp2) (v := gI (sI (sI σ (100 * x0 + 10) ((gI σ (100 * x0 + 10)) + 1)) (100 * x0 + 9) ((gI (sI σ (100 * x0 + 10) ((gI σ (100 * x0 + 10)) + 1)) (100 * x0 + 9)) ||| ((1 : Int32) <<< (x1 &&& 31)))) (100 * (x0 + 1) + 1)) dX3_addRoutine_43 rfl ?_
  refine v_x5_put_RX3 C ⟨by decide, by decide⟩ (Nat.le_of_ble_eq_true rfl) dX3_addRoutine_46 (fun r3 σ4 _ => ?_)
  refine g_aload_n C 0 dX3_addRoutine_49 rfl rfl ?_
  refine gf_RX3_22 C hp2 dX3_addRoutine_50 ?_
  refine g_iload_n C 1 dX3_addRoutine_53 rfl rfl ?_
  refine g_iconst C 0 dX3_addRoutine_54 (by decide) ?_
  refine v_x5_put_RX3 C ⟨by decide, by decide⟩ (Nat.le_of_ble_eq_true rfl) dX3_addRoutine_55 (fun r5 σ6 _ => ?_)
  exact g_vret C dX3_addRoutine_58
set_option maxHeartbeats 4000000 in
set_option maxRecDepth 100000 in
theorem s_x3_addRoutine {X : Cx} {ad : Nat → Nat} (C : Ok X cX3_addRoutine RX3 2 none 1 22) (N : Nat) (σ : St) (a0 : Nat) (a1 : Int32) : Sim X scC ad 2 outV 0 [(0, .ref (ad a0)), (1, .int a1)] [] σ (x3_addRoutine N σ a0 a1) := by
  unfold x3_addRoutine
  refine g_aload_n C 0 dX3_addRoutine_0 rfl rfl ?_
  refine g_gd (fun hp1 => ?_)
  refine gf_RX3_53 C hp1 (v := gI σ (100 * a0 + 10)) dX3_addRoutine_1 rfl ?_
  refine g_if_ne C 12 dX3_addRoutine_4 (by decide) ?_ ?_
  · exact g_sub [0, 1] rfl (s_x3_addRoutine_12 C N σ a0 a1)
  · refine g_aload_n C 0 dX3_addRoutine_7 rfl rfl ?_
    refine g_iload_n C 1 dX3_addRoutine_8 rfl rfl ?_
    refine pf_RX3_43 C hp1 dX3_addRoutine_9 ?_
    exact g_sub [0, 1] rfl (s_x3_addRoutine_12 C N (sI σ (100 * a0 + 13) a1) a0 a1)
theorem c_x3_addRoutine {Y : Yx} {ad : Nat → Nat} {N : Nat} {σ : St} {a0 : Nat} {a1 : Int32} {r : Unit} {σ' : St} (h : x3_addRoutine N σ a0 a1 = some (r, σ')) : Con Y scC ad yX3_addRoutine cX3_addRoutine 2 none 1 22 [.ref (ad a0), .int a1] σ (outV r) σ' := con_of (by decide) rfl (Nat.le_of_ble_eq_true rfl) rfl (fun X hX C => s_x3_addRoutine C N σ a0 a1) h
set_option maxRecDepth 20000 in
theorem v_x3_addRoutine_RX4 {X : Cx} {cc : ByteArray} {nL : Nat} {ret : Option FieldType} {fr lo : Nat} {ad : Nat → Nat} {ρ : Type} {out : ρ → Option Value} {pc : Nat} {lv : List (Nat × Value)} {rest : List Value} {σ : St} {N : Nat} {K : Unit → St → Option (ρ × St)} {a0 : Nat} {a1 : Int32} (C : Ok X cc RX4 nL ret fr lo) (hp : isPr a0 = true) (hR : 1 + 1 ≤ fr ∧ 8 + (2 + 11) + 22 ≤ lo) (hcat : (rest.map fun v => v.category).sum ≤ 8) (hdg : decode cc pc = .ok (.invokevirtual 91, 3)) (k : ∀ (r : Unit) (σ' : St), x3_addRoutine N σ a0 a1 = some (r, σ') → Sim X scC ad nL out (pc + 3) lv rest σ' (K r σ')) : Sim X scC ad nL out pc lv (.int a1 :: .ref (ad a0) :: rest) σ (bd (x3_addRoutine N σ a0 a1) K) := g_callV C (out1 := outV) (y := yX3_addRoutine) (n := 1) ⟨gw_670, gw_671, gw_672, gw_109, gw_673⟩ (by decide +kernel) hR (o := a0) (ci := 3) (q9 := (RX3, TX3, 14)) (pr_in hp) (pr_kd hp) rfl rfl (fun r σ' h => c_x3_addRoutine h) rfl rfl hcat hdg k
