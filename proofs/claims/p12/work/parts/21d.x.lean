def x4_readReturn (N : Nat) (σ : St) : Option (Int32 × St) :=
  gd (isCd (gP σ 404)) (bd (x0_add N (sI σ 405 ((gI σ 405) + 1)) (gP σ 404) 6 (gI σ 407)) (fun r2 σ3 => bd (x4_seen N σ3 9) (fun r4 σ5 => (if r4 = 0 then bd (x4_readValue N σ5 r2) (fun r6 σ7 => (if r6 = 0 then some (0, σ7) else bd (x4_take N σ7 9) (fun r8 σ9 => (if r8 = 0 then some (0, σ9) else some (1, σ9))))) else gd (isCd (gP σ5 404)) (bd (x0_set N σ5 (gP σ5 404) r2 4 0) (fun _ σ12 => some (1, (sI σ12 405 ((gI σ12 405) + 1)))))))))
set_option maxHeartbeats 4000000 in
set_option maxRecDepth 100000 in
theorem s_x4_readReturn {X : Cx} {ad : Nat → Nat} (C : Ok X cX4_readReturn RX4 2 (some .boolean) 4 92) (N : Nat) (σ : St) : Sim X scC ad 2 outI 0 [(0, .ref (ad 4))] [] σ (x4_readReturn N σ) := by
  unfold x4_readReturn
  refine g_aload_n C 0 dX4_readReturn_0 rfl rfl ?_
  refine g_dup C dX4_readReturn_1 rfl ?_
  refine gf_RX4_40 C  (v := gI σ 405) dX4_readReturn_2 rfl ?_
  refine g_iconst C 1 dX4_readReturn_5 (by decide) ?_
  refine g_iadd C dX4_readReturn_6 ?_
  refine pf_RX4_40 C dX4_readReturn_7 ?_
  refine g_aload_n C 0 dX4_readReturn_10 rfl rfl ?_
  refine gf_RX4_36 C  (v := gP σ 404) dX4_readReturn_11 rfl ?_
  refine g_bipush C 6 dX4_readReturn_14 (by decide) ?_
  refine g_aload_n C 0 dX4_readReturn_16 rfl rfl ?_
  refine gf_RX4_85 C  (v := gI σ 407) dX4_readReturn_17 rfl ?_
  refine g_gd (fun hp1 => ?_)
  refine v_x0_add_RX4 C hp1 ⟨by decide, by decide⟩ (Nat.le_of_ble_eq_true rfl) dX4_readReturn_20 (fun r2 σ3 _ => ?_)
  refine g_istore_n C [(1, .int r2), (0, .ref (ad 4))] dX4_readReturn_23 rfl (by decide) rfl ?_
  refine g_aload_n C 1 dX4_readReturn_24 rfl rfl ?_
  refine g_bipush C 9 dX4_readReturn_25 (by decide) ?_
  refine v_x4_seen_RX4 C ⟨by decide, by decide⟩ (Nat.le_of_ble_eq_true rfl) dX4_readReturn_27 (fun r4 σ5 _ => ?_)
  refine g_if_eq C 55 dX4_readReturn_30 (by decide) ?_ ?_
  · refine g_aload_n C 1 dX4_readReturn_55 rfl rfl ?_
    refine g_iload_n C 0 dX4_readReturn_56 rfl rfl ?_
    refine v_x4_readValue_RX4 C ⟨by decide, by decide⟩ (Nat.le_of_ble_eq_true rfl) dX4_readReturn_57 (fun r6 σ7 _ => ?_)
    refine g_if_eq C 76 dX4_readReturn_60 (by decide) ?_ ?_
    · refine g_iconst C 0 dX4_readReturn_76 (by decide) ?_
      exact g_zret C rfl dX4_readReturn_77
    · refine g_aload_n C 1 dX4_readReturn_63 rfl rfl ?_
      refine g_bipush C 9 dX4_readReturn_64 (by decide) ?_
      refine v_x4_take_RX4 C ⟨by decide, by decide⟩ (Nat.le_of_ble_eq_true rfl) dX4_readReturn_66 (fun r8 σ9 _ => ?_)
      refine g_if_eq C 76 dX4_readReturn_69 (by decide) ?_ ?_
      · refine g_iconst C 0 dX4_readReturn_76 (by decide) ?_
        exact g_zret C rfl dX4_readReturn_77
      · refine g_iconst C 1 dX4_readReturn_72 (by decide) ?_
        refine g_goto C 77 dX4_readReturn_73 (by decide) ?_
        exact g_zret C rfl dX4_readReturn_77
  · refine g_aload_n C 1 dX4_readReturn_33 rfl rfl ?_
    refine gf_RX4_36 C  (v := gP σ5 404) dX4_readReturn_34 rfl ?_
    refine g_iload_n C 0 dX4_readReturn_37 rfl rfl ?_
    refine g_iconst C 4 dX4_readReturn_38 (by decide) ?_
    refine g_iconst C 0 dX4_readReturn_39 (by decide) ?_
    refine g_gd (fun hp10 => ?_)
    refine v_x0_set_RX4 C hp10 ⟨by decide, by decide⟩ (Nat.le_of_ble_eq_true rfl) dX4_readReturn_40 (fun r11 σ12 _ => ?_)
    refine g_aload_n C 1 dX4_readReturn_43 rfl rfl ?_
    refine g_dup C dX4_readReturn_44 rfl ?_
    refine gf_RX4_40 C  (v := gI σ12 405) dX4_readReturn_45 rfl ?_
    refine g_iconst C 1 dX4_readReturn_48 (by decide) ?_
    refine g_iadd C dX4_readReturn_49 ?_
    refine pf_RX4_40 C dX4_readReturn_50 ?_
    refine g_iconst C 1 dX4_readReturn_53 (by decide) ?_
    exact g_zret C rfl dX4_readReturn_54
theorem c_x4_readReturn {Y : Yx} {ad : Nat → Nat} {N : Nat} {σ : St} {r : Int32} {σ' : St} (h : x4_readReturn N σ = some (r, σ')) : Con Y scC ad yX4_readReturn cX4_readReturn 2 (some .boolean) 4 92 [.ref (ad 4)] σ (outI r) σ' := con_of (by decide) rfl (Nat.le_of_ble_eq_true rfl) rfl (fun X hX C => s_x4_readReturn C N σ) h
set_option maxRecDepth 20000 in
theorem v_x4_readReturn_RX4 {X : Cx} {cc : ByteArray} {nL : Nat} {ret : Option FieldType} {fr lo : Nat} {ad : Nat → Nat} {ρ : Type} {out : ρ → Option Value} {pc : Nat} {lv : List (Nat × Value)} {rest : List Value} {σ : St} {N : Nat} {K : Int32 → St → Option (ρ × St)} (C : Ok X cc RX4 nL ret fr lo) (hR : 4 + 1 ≤ fr ∧ 8 + (2 + 11) + 92 ≤ lo) (hcat : (rest.map fun v => v.category).sum ≤ 8) (hdg : decode cc pc = .ok (.invokevirtual 140, 3)) (k : ∀ (r : Int32) (σ' : St), x4_readReturn N σ = some (r, σ') → Sim X scC ad nL out (pc + 3) lv (.int r :: rest) σ' (K r σ')) : Sim X scC ad nL out pc lv (.ref (ad 4) :: rest) σ (bd (x4_readReturn N σ) K) := g_callV C (out1 := outI) (y := yX4_readReturn) (n := 0) ⟨gw_762, gw_764, gw_19, gw_111, gw_765⟩ (by decide +kernel) hR (o := 4) (ci := 4) (q9 := (RX4, TX4, 10)) im_4 rfl rfl rfl (fun r σ' h => c_x4_readReturn h) rfl rfl hcat hdg k

def x4_readComparison_39 (N : Nat) (σ : St) (t1 : Int32) : Option (Int32 × St) :=
  bd (x4_take N σ t1) (fun r6 σ7 => (if r6 = 0 then some (0, σ7) else bd (x4_take N σ7 17) (fun r8 σ9 => (if r8 = 0 then some (0, σ9) else some (1, σ9)))))
def x4_readComparison_24 (N : Nat) (σ : St) (x2 : Int32) (t0 : Nat) (t1 : Int32) (t2 : Int32) (t3 : Int32) : Option (Int32 × St) :=
  gd (isCd t0) (bd (x0_set N σ t0 t1 t2 t3) (fun _ σ5 => (if x2 = 0 then x4_readComparison_39 N σ5 15 else x4_readComparison_39 N σ5 16)))
def x4_readComparison (N : Nat) (σ : St) (a1 : Int32) : Option (Int32 × St) :=
  bd (x4_seen N σ 16) (fun r1 σ2 => (if r1 = 0 then x4_readComparison_24 N σ2 r1 (gP σ2 404) a1 4 6 else x4_readComparison_24 N σ2 r1 (gP σ2 404) a1 4 7))
set_option maxHeartbeats 4000000 in
set_option maxRecDepth 100000 in
theorem s_x4_readComparison_39 {X : Cx} {ad : Nat → Nat} (C : Ok X cX4_readComparison RX4 3 (some .boolean) 2 43) (N : Nat) (σ : St) (t1 : Int32) : Sim X scC ad 3 outI 39 [(0, .ref (ad 4))] [.int t1, .ref (ad 4)] σ (x4_readComparison_39 N σ t1) := by
  unfold x4_readComparison_39
  refine v_x4_take_RX4 C ⟨by decide, by decide⟩ (Nat.le_of_ble_eq_true rfl) dX4_readComparison_39 (fun r6 σ7 _ => ?_)
  refine g_if_eq C 58 dX4_readComparison_42 (by decide) ?_ ?_
  · refine g_iconst C 0 dX4_readComparison_58 (by decide) ?_
    exact g_zret C rfl dX4_readComparison_59
  · refine g_aload_n C 0 dX4_readComparison_45 rfl rfl ?_
    refine g_bipush C 17 dX4_readComparison_46 (by decide) ?_
    refine v_x4_take_RX4 C ⟨by decide, by decide⟩ (Nat.le_of_ble_eq_true rfl) dX4_readComparison_48 (fun r8 σ9 _ => ?_)
    refine g_if_eq C 58 dX4_readComparison_51 (by decide) ?_ ?_
    · refine g_iconst C 0 dX4_readComparison_58 (by decide) ?_
      exact g_zret C rfl dX4_readComparison_59
    · refine g_iconst C 1 dX4_readComparison_54 (by decide) ?_
      refine g_goto C 59 dX4_readComparison_55 (by decide) ?_
      exact g_zret C rfl dX4_readComparison_59
set_option maxHeartbeats 4000000 in
set_option maxRecDepth 100000 in
theorem s_x4_readComparison_24 {X : Cx} {ad : Nat → Nat} (C : Ok X cX4_readComparison RX4 3 (some .boolean) 2 43) (N : Nat) (σ : St) (x2 : Int32) (t0 : Nat) (t1 : Int32) (t2 : Int32) (t3 : Int32) : Sim X scC ad 3 outI 24 [(0, .ref (ad 4)), (2, .int x2)] [.int t3, .int t2, .int t1, .ref (ad t0)] σ (x4_readComparison_24 N σ x2 t0 t1 t2 t3) := by
  unfold x4_readComparison_24
  refine g_gd (fun hp3 => ?_)
  refine v_x0_set_RX4 C hp3 ⟨by decide, by decide⟩ (Nat.le_of_ble_eq_true rfl) dX4_readComparison_24 (fun r4 σ5 _ => ?_)
  refine g_aload_n C 0 dX4_readComparison_27 rfl rfl ?_
  refine g_iload_n C 1 dX4_readComparison_28 rfl rfl ?_
  refine g_if_eq C 37 dX4_readComparison_29 (by decide) ?_ ?_
  · refine g_bipush C 15 dX4_readComparison_37 (by decide) ?_
    exact g_sub [0] rfl (s_x4_readComparison_39 C N σ5 15)
  · refine g_bipush C 16 dX4_readComparison_32 (by decide) ?_
    refine g_goto C 39 dX4_readComparison_34 (by decide) ?_
    exact g_sub [0] rfl (s_x4_readComparison_39 C N σ5 16)
set_option maxHeartbeats 4000000 in
set_option maxRecDepth 100000 in
theorem s_x4_readComparison {X : Cx} {ad : Nat → Nat} (C : Ok X cX4_readComparison RX4 3 (some .boolean) 2 43) (N : Nat) (σ : St) (a1 : Int32) : Sim X scC ad 3 outI 0 [(0, .ref (ad 4)), (1, .int a1)] [] σ (x4_readComparison N σ a1) := by
  unfold x4_readComparison
  refine g_aload_n C 0 dX4_readComparison_0 rfl rfl ?_
  refine g_bipush C 16 dX4_readComparison_1 (by decide) ?_
  refine v_x4_seen_RX4 C ⟨by decide, by decide⟩ (Nat.le_of_ble_eq_true rfl) dX4_readComparison_3 (fun r1 σ2 _ => ?_)
  refine g_istore_n C [(2, .int r1), (0, .ref (ad 4)), (1, .int a1)] dX4_readComparison_6 rfl (by decide) rfl ?_
  refine g_aload_n C 1 dX4_readComparison_7 rfl rfl ?_
  refine gf_RX4_36 C  (v := gP σ2 404) dX4_readComparison_8 rfl ?_
  refine g_iload_n C 2 dX4_readComparison_11 rfl rfl ?_
  refine g_iconst C 4 dX4_readComparison_12 (by decide) ?_
  refine g_iload_n C 0 dX4_readComparison_13 rfl rfl ?_
  refine g_if_eq C 22 dX4_readComparison_14 (by decide) ?_ ?_
  · refine g_bipush C 6 dX4_readComparison_22 (by decide) ?_
    exact g_sub [1, 0] rfl (s_x4_readComparison_24 C N σ2 r1 (gP σ2 404) a1 4 6)
  · refine g_bipush C 7 dX4_readComparison_17 (by decide) ?_
    refine g_goto C 24 dX4_readComparison_19 (by decide) ?_
    exact g_sub [1, 0] rfl (s_x4_readComparison_24 C N σ2 r1 (gP σ2 404) a1 4 7)
theorem c_x4_readComparison {Y : Yx} {ad : Nat → Nat} {N : Nat} {σ : St} {a1 : Int32} {r : Int32} {σ' : St} (h : x4_readComparison N σ a1 = some (r, σ')) : Con Y scC ad yX4_readComparison cX4_readComparison 3 (some .boolean) 2 43 [.ref (ad 4), .int a1] σ (outI r) σ' := con_of (by decide) rfl (Nat.le_of_ble_eq_true rfl) rfl (fun X hX C => s_x4_readComparison C N σ a1) h
set_option maxRecDepth 20000 in
theorem v_x4_readComparison_RX4 {X : Cx} {cc : ByteArray} {nL : Nat} {ret : Option FieldType} {fr lo : Nat} {ad : Nat → Nat} {ρ : Type} {out : ρ → Option Value} {pc : Nat} {lv : List (Nat × Value)} {rest : List Value} {σ : St} {N : Nat} {K : Int32 → St → Option (ρ × St)} {a1 : Int32} (C : Ok X cc RX4 nL ret fr lo) (hR : 2 + 1 ≤ fr ∧ 8 + (3 + 11) + 43 ≤ lo) (hcat : (rest.map fun v => v.category).sum ≤ 8) (hdg : decode cc pc = .ok (.invokevirtual 169, 3)) (k : ∀ (r : Int32) (σ' : St), x4_readComparison N σ a1 = some (r, σ') → Sim X scC ad nL out (pc + 3) lv (.int r :: rest) σ' (K r σ')) : Sim X scC ad nL out pc lv (.int a1 :: .ref (ad 4) :: rest) σ (bd (x4_readComparison N σ a1) K) := g_callV C (out1 := outI) (y := yX4_readComparison) (n := 1) ⟨gw_774, gw_776, gw_21, gw_111, gw_777⟩ (by decide +kernel) hR (o := 4) (ci := 4) (q9 := (RX4, TX4, 10)) im_4 rfl rfl rfl (fun r σ' h => c_x4_readComparison h) rfl rfl hcat hdg k

def x4_readBranch_158 (N : Nat) (σ : St) (x1 : Int32) (x4 : Int32) : Option (Int32 × St) :=
  bd (x4_openBlock N σ x1 x4) (fun r23 σ24 => (if r23 = 0 then some (0, σ24) else some (1, σ24)))
def x4_readBranch_48 (N : Nat) (σ : St) (x1 : Int32) (x2 : Int32) (x3 : Int32) : Option (Int32 × St) :=
  gd (isPr (gP σ 403)) ((if (gI σ (100 * (gP σ 403) + 12)) < 24 then gd (isCd (gP σ 404)) (bd (x0_add N σ (gP σ 404) 2 (gI σ 407)) (fun r7 σ8 => gd (isPr (gP σ8 403)) (bd (x3_addTest N σ8 (gP σ8 403) (gI σ8 407) x3) (fun r10 σ11 => gd (isCd (gP σ8 404)) (bd (x0_set N σ11 (gP σ8 404) r7 3 r10) (fun _ σ14 => gd (isCd (gP σ14 404)) (bd (x0_set N σ14 (gP σ14 404) r7 4 1) (fun _ σ17 => bd (x8_letterAt N σ17 (gI σ17 405)) (fun r18 σ19 => gd (isCd (gP σ17 404)) (bd (x0_set N σ19 (gP σ17 404) r7 1 r18) (fun _ σ22 => (if x2 = 0 then bd (x4_readComparison N (sI σ22 405 ((gI σ22 405) + 1)) r7) (fun r25 σ26 => (if r25 = 0 then some (0, σ26) else x4_readBranch_158 N σ26 x1 r7)) else x4_readBranch_158 N (sI σ22 405 ((gI σ22 405) + 1)) x1 r7)))))))))))) else bd (x4_refuse N σ 2 x3) (fun r27 σ28 => gd (isb r27) (some (r27, σ28)))))
def x4_readBranch (N : Nat) (σ : St) (a1 : Int32) : Option (Int32 × St) :=
  bd (x4_seen N (sI σ 405 ((gI σ 405) + 1)) 19) (fun r1 σ2 => bd (x8_placeAt N σ2 (gI σ2 405)) (fun r3 σ4 => (if r1 = 0 then bd (x4_seen N σ4 2) (fun r29 σ30 => (if r29 = 0 then bd (x4_refuse N σ30 1 r3) (fun r31 σ32 => gd (isb r31) (some (r31, σ32))) else x4_readBranch_48 N σ30 a1 r1 r3)) else x4_readBranch_48 N σ4 a1 r1 r3)))
set_option maxHeartbeats 4000000 in
set_option maxRecDepth 100000 in
theorem s_x4_readBranch_158 {X : Cx} {ad : Nat → Nat} (C : Ok X cX4_readBranch RX4 5 (some .boolean) 3 66) (N : Nat) (σ : St) (x1 : Int32) (x4 : Int32) : Sim X scC ad 5 outI 158 [(0, .ref (ad 4)), (1, .int x1), (4, .int x4)] [] σ (x4_readBranch_158 N σ x1 x4) := by
  unfold x4_readBranch_158
  refine g_aload_n C 0 dX4_readBranch_158 rfl rfl ?_
  refine g_iload_n C 1 dX4_readBranch_159 rfl rfl ?_
  refine g_iload C 2 dX4_readBranch_160 rfl ?_
  refine v_x4_openBlock_RX4 C ⟨by decide, by decide⟩ (Nat.le_of_ble_eq_true rfl) dX4_readBranch_162 (fun r23 σ24 _ => ?_)
  refine g_if_eq C 172 dX4_readBranch_165 (by decide) ?_ ?_
  · refine g_iconst C 0 dX4_readBranch_172 (by decide) ?_
    exact g_zret C rfl dX4_readBranch_173
  · refine g_iconst C 1 dX4_readBranch_168 (by decide) ?_
    refine g_goto C 173 dX4_readBranch_169 (by decide) ?_
    exact g_zret C rfl dX4_readBranch_173
set_option maxHeartbeats 4000000 in
set_option maxRecDepth 100000 in
theorem s_x4_readBranch_48 {X : Cx} {ad : Nat → Nat} (C : Ok X cX4_readBranch RX4 5 (some .boolean) 3 66) (N : Nat) (σ : St) (x1 : Int32) (x2 : Int32) (x3 : Int32) : Sim X scC ad 5 outI 48 [(0, .ref (ad 4)), (1, .int x1), (2, .int x2), (3, .int x3)] [] σ (x4_readBranch_48 N σ x1 x2 x3) := by
  unfold x4_readBranch_48
  refine g_aload_n C 0 dX4_readBranch_48 rfl rfl ?_
  refine gf_RX4_26 C  (v := gP σ 403) dX4_readBranch_49 rfl ?_
  refine g_gd (fun hp5 => ?_)
  refine gf_RX4_163 C hp5 (v := gI σ (100 * (gP σ 403) + 12)) dX4_readBranch_52 rfl ?_
  refine g_bipush C 24 dX4_readBranch_55 (by decide) ?_
  refine g_icmp_lt C 67 dX4_readBranch_57 (by decide) ?_ ?_
  · refine g_aload_n C 0 dX4_readBranch_67 rfl rfl ?_
    refine gf_RX4_36 C  (v := gP σ 404) dX4_readBranch_68 rfl ?_
    refine g_iconst C 2 dX4_readBranch_71 (by decide) ?_
    refine g_aload_n C 0 dX4_readBranch_72 rfl rfl ?_
    refine gf_RX4_85 C  (v := gI σ 407) dX4_readBranch_73 rfl ?_
    refine g_gd (fun hp6 => ?_)
    refine v_x0_add_RX4 C hp6 ⟨by decide, by decide⟩ (Nat.le_of_ble_eq_true rfl) dX4_readBranch_76 (fun r7 σ8 _ => ?_)
    refine g_istore C [(4, .int r7), (0, .ref (ad 4)), (1, .int x1), (2, .int x2), (3, .int x3)] dX4_readBranch_79 (by decide) rfl ?_
    refine g_aload_n C 1 dX4_readBranch_81 rfl rfl ?_
    refine gf_RX4_36 C  (v := gP σ8 404) dX4_readBranch_82 rfl ?_
    refine g_iload C 0 dX4_readBranch_85 rfl ?_
    refine g_iconst C 3 dX4_readBranch_87 (by decide) ?_
    refine g_aload_n C 1 dX4_readBranch_88 rfl rfl ?_
    refine gf_RX4_26 C  (v := gP σ8 403) dX4_readBranch_89 rfl ?_
    refine g_aload_n C 1 dX4_readBranch_92 rfl rfl ?_
    refine gf_RX4_85 C  (v := gI σ8 407) dX4_readBranch_93 rfl ?_
    refine g_iload_n C 4 dX4_readBranch_96 rfl rfl ?_
    refine g_gd (fun hp9 => ?_)
    refine v_x3_addTest_RX4 C hp9 ⟨by decide, by decide⟩ (Nat.le_of_ble_eq_true rfl) dX4_readBranch_97 (fun r10 σ11 _ => ?_)
    refine g_gd (fun hp12 => ?_)
    refine v_x0_set_RX4 C hp12 ⟨by decide, by decide⟩ (Nat.le_of_ble_eq_true rfl) dX4_readBranch_100 (fun r13 σ14 _ => ?_)
    refine g_aload_n C 1 dX4_readBranch_103 rfl rfl ?_
    refine gf_RX4_36 C  (v := gP σ14 404) dX4_readBranch_104 rfl ?_
    refine g_iload C 0 dX4_readBranch_107 rfl ?_
    refine g_iconst C 4 dX4_readBranch_109 (by decide) ?_
    refine g_iconst C 1 dX4_readBranch_110 (by decide) ?_
    refine g_gd (fun hp15 => ?_)
    refine v_x0_set_RX4 C hp15 ⟨by decide, by decide⟩ (Nat.le_of_ble_eq_true rfl) dX4_readBranch_111 (fun r16 σ17 _ => ?_)
    refine g_aload_n C 1 dX4_readBranch_114 rfl rfl ?_
    refine gf_RX4_36 C  (v := gP σ17 404) dX4_readBranch_115 rfl ?_
    refine g_iload C 0 dX4_readBranch_118 rfl ?_
    refine g_iconst C 1 dX4_readBranch_120 (by decide) ?_
    refine g_aload_n C 1 dX4_readBranch_121 rfl rfl ?_
    refine gf_RX4_22 C  dX4_readBranch_122 ?_
    refine g_aload_n C 1 dX4_readBranch_125 rfl rfl ?_
    refine gf_RX4_40 C  (v := gI σ17 405) dX4_readBranch_126 rfl ?_
    refine v_x8_letterAt_RX4 C ⟨by decide, by decide⟩ (Nat.le_of_ble_eq_true rfl) dX4_readBranch_129 (fun r18 σ19 _ => ?_)
    refine g_gd (fun hp20 => ?_)
    refine v_x0_set_RX4 C hp20 ⟨by decide, by decide⟩ (Nat.le_of_ble_eq_true rfl) dX4_readBranch_132 (fun r21 σ22 _ => ?_)
    refine g_aload_n C 1 dX4_readBranch_135 rfl rfl ?_
    refine g_dup C dX4_readBranch_136 rfl ?_
    refine gf_RX4_40 C  (v := gI σ22 405) dX4_readBranch_137 rfl ?_
    refine g_iconst C 1 dX4_readBranch_140 (by decide) ?_
    refine g_iadd C dX4_readBranch_141 ?_
    refine pf_RX4_40 C dX4_readBranch_142 ?_
    refine g_iload_n C 3 dX4_readBranch_145 rfl rfl ?_
    refine g_if_ne C 158 dX4_readBranch_146 (by decide) ?_ ?_
    · exact g_sub [1, 2, 0] rfl (s_x4_readBranch_158 C N (sI σ22 405 ((gI σ22 405) + 1)) x1 r7)
    · refine g_aload_n C 1 dX4_readBranch_149 rfl rfl ?_
      refine g_iload C 0 dX4_readBranch_150 rfl ?_
      refine v_x4_readComparison_RX4 C ⟨by decide, by decide⟩ (Nat.le_of_ble_eq_true rfl) dX4_readBranch_152 (fun r25 σ26 _ => ?_)
      refine g_if_eq C 172 dX4_readBranch_155 (by decide) ?_ ?_
      · refine g_iconst C 0 dX4_readBranch_172 (by decide) ?_
        exact g_zret C rfl dX4_readBranch_173
      · exact g_sub [1, 2, 0] rfl (s_x4_readBranch_158 C N σ26 x1 r7)
  · refine g_aload_n C 0 dX4_readBranch_60 rfl rfl ?_
    refine g_iconst C 2 dX4_readBranch_61 (by decide) ?_
    refine g_iload_n C 3 dX4_readBranch_62 rfl rfl ?_
    refine v_x4_refuse_RX4 C ⟨by decide, by decide⟩ (Nat.le_of_ble_eq_true rfl) dX4_readBranch_63 (fun r27 σ28 _ => ?_)
    refine g_gd (fun hb9 => ?_)
    exact g_zret C (isb_nar hb9) dX4_readBranch_66
set_option maxHeartbeats 4000000 in
set_option maxRecDepth 100000 in
theorem s_x4_readBranch {X : Cx} {ad : Nat → Nat} (C : Ok X cX4_readBranch RX4 5 (some .boolean) 3 66) (N : Nat) (σ : St) (a1 : Int32) : Sim X scC ad 5 outI 0 [(0, .ref (ad 4)), (1, .int a1)] [] σ (x4_readBranch N σ a1) := by
  unfold x4_readBranch
  refine g_aload_n C 0 dX4_readBranch_0 rfl rfl ?_
  refine g_dup C dX4_readBranch_1 rfl ?_
  refine gf_RX4_40 C  (v := gI σ 405) dX4_readBranch_2 rfl ?_
  refine g_iconst C 1 dX4_readBranch_5 (by decide) ?_
  refine g_iadd C dX4_readBranch_6 ?_
  refine pf_RX4_40 C dX4_readBranch_7 ?_
  refine g_aload_n C 0 dX4_readBranch_10 rfl rfl ?_
  refine g_bipush C 19 dX4_readBranch_11 (by decide) ?_
  refine v_x4_seen_RX4 C ⟨by decide, by decide⟩ (Nat.le_of_ble_eq_true rfl) dX4_readBranch_13 (fun r1 σ2 _ => ?_)
  refine g_istore_n C [(2, .int r1), (0, .ref (ad 4)), (1, .int a1)] dX4_readBranch_16 rfl (by decide) rfl ?_
  refine g_aload_n C 1 dX4_readBranch_17 rfl rfl ?_
  refine gf_RX4_22 C  dX4_readBranch_18 ?_
  refine g_aload_n C 1 dX4_readBranch_21 rfl rfl ?_
  refine gf_RX4_40 C  (v := gI σ2 405) dX4_readBranch_22 rfl ?_
  refine v_x8_placeAt_RX4 C ⟨by decide, by decide⟩ (Nat.le_of_ble_eq_true rfl) dX4_readBranch_25 (fun r3 σ4 _ => ?_)
  refine g_istore_n C [(3, .int r3), (2, .int r1), (0, .ref (ad 4)), (1, .int a1)] dX4_readBranch_28 rfl (by decide) rfl ?_
  refine g_iload_n C 1 dX4_readBranch_29 rfl rfl ?_
  refine g_if_ne C 48 dX4_readBranch_30 (by decide) ?_ ?_
  · exact g_sub [2, 3, 1, 0] rfl (s_x4_readBranch_48 C N σ4 a1 r1 r3)
  · refine g_aload_n C 2 dX4_readBranch_33 rfl rfl ?_
    refine g_iconst C 2 dX4_readBranch_34 (by decide) ?_
    refine v_x4_seen_RX4 C ⟨by decide, by decide⟩ (Nat.le_of_ble_eq_true rfl) dX4_readBranch_35 (fun r29 σ30 _ => ?_)
    refine g_if_ne C 48 dX4_readBranch_38 (by decide) ?_ ?_
    · exact g_sub [2, 3, 1, 0] rfl (s_x4_readBranch_48 C N σ30 a1 r1 r3)
    · refine g_aload_n C 2 dX4_readBranch_41 rfl rfl ?_
      refine g_iconst C 1 dX4_readBranch_42 (by decide) ?_
      refine g_iload_n C 0 dX4_readBranch_43 rfl rfl ?_
      refine v_x4_refuse_RX4 C ⟨by decide, by decide⟩ (Nat.le_of_ble_eq_true rfl) dX4_readBranch_44 (fun r31 σ32 _ => ?_)
      refine g_gd (fun hb9 => ?_)
      exact g_zret C (isb_nar hb9) dX4_readBranch_47
theorem c_x4_readBranch {Y : Yx} {ad : Nat → Nat} {N : Nat} {σ : St} {a1 : Int32} {r : Int32} {σ' : St} (h : x4_readBranch N σ a1 = some (r, σ')) : Con Y scC ad yX4_readBranch cX4_readBranch 5 (some .boolean) 3 66 [.ref (ad 4), .int a1] σ (outI r) σ' := con_of (by decide) rfl (Nat.le_of_ble_eq_true rfl) rfl (fun X hX C => s_x4_readBranch C N σ a1) h
set_option maxRecDepth 20000 in
theorem v_x4_readBranch_RX4 {X : Cx} {cc : ByteArray} {nL : Nat} {ret : Option FieldType} {fr lo : Nat} {ad : Nat → Nat} {ρ : Type} {out : ρ → Option Value} {pc : Nat} {lv : List (Nat × Value)} {rest : List Value} {σ : St} {N : Nat} {K : Int32 → St → Option (ρ × St)} {a1 : Int32} (C : Ok X cc RX4 nL ret fr lo) (hR : 3 + 1 ≤ fr ∧ 8 + (5 + 11) + 66 ≤ lo) (hcat : (rest.map fun v => v.category).sum ≤ 8) (hdg : decode cc pc = .ok (.invokevirtual 143, 3)) (k : ∀ (r : Int32) (σ' : St), x4_readBranch N σ a1 = some (r, σ') → Sim X scC ad nL out (pc + 3) lv (.int r :: rest) σ' (K r σ')) : Sim X scC ad nL out pc lv (.int a1 :: .ref (ad 4) :: rest) σ (bd (x4_readBranch N σ a1) K) := g_callV C (out1 := outI) (y := yX4_readBranch) (n := 1) ⟨gw_766, gw_768, gw_20, gw_111, gw_769⟩ (by decide +kernel) hR (o := 4) (ci := 4) (q9 := (RX4, TX4, 10)) im_4 rfl rfl rfl (fun r σ' h => c_x4_readBranch h) rfl rfl hcat hdg k

def x4_readStatement (N : Nat) (σ : St) : Option (Int32 × St) :=
  bd (x8_kindAt N σ (gI σ 405)) (fun r1 σ2 => (if r1 = 2 then bd (x4_readPut N σ2) (fun r4 σ5 => gd (isb r4) (some (r4, σ5))) else (if r1 = 3 then gd (isCd (gP σ2 404)) (bd (x0_add N σ2 (gP σ2 404) 5 (gI σ2 407)) (fun r8 σ9 => bd (x4_readCall N σ9 r8) (fun r10 σ11 => (if r10 = 0 then some (0, σ11) else bd (x4_take N σ11 9) (fun r12 σ13 => (if r12 = 0 then some (0, σ13) else some (1, σ13))))))) else (if r1 = 12 then bd (x4_readBranch N σ2 1) (fun r15 σ16 => gd (isb r15) (some (r15, σ16))) else (if r1 = 14 then bd (x4_readBranch N σ2 3) (fun r18 σ19 => gd (isb r18) (some (r18, σ19))) else (if r1 = 20 then bd (x4_readReturn N σ2) (fun r21 σ22 => gd (isb r21) (some (r21, σ22))) else bd (x8_placeAt N σ2 (gI σ2 405)) (fun r23 σ24 => bd (x4_refuse N σ24 1 r23) (fun r25 σ26 => gd (isb r25) (some (r25, σ26))))))))))
set_option maxHeartbeats 4000000 in
set_option maxRecDepth 100000 in
theorem s_x4_readStatement {X : Cx} {ad : Nat → Nat} (C : Ok X cX4_readStatement RX4 1 (some .boolean) 5 114) (N : Nat) (σ : St) : Sim X scC ad 1 outI 0 [(0, .ref (ad 4))] [] σ (x4_readStatement N σ) := by
  unfold x4_readStatement
  refine g_aload_n C 0 dX4_readStatement_0 rfl rfl ?_
  refine gf_RX4_22 C  dX4_readStatement_1 ?_
  refine g_aload_n C 0 dX4_readStatement_4 rfl rfl ?_
  refine gf_RX4_40 C  (v := gI σ 405) dX4_readStatement_5 rfl ?_
  refine v_x8_kindAt_RX4 C ⟨by decide, by decide⟩ (Nat.le_of_ble_eq_true rfl) dX4_readStatement_8 (fun r1 σ2 _ => ?_)
  refine g_cs (fun h3 => ?_) (fun h3 => ?_)
  · refine g_lookup C (off := 49) 60 dX4_readStatement_11 (by decide) (by rw [h3]; decide) (by decide) ?_
    refine g_aload_n C 0 dX4_readStatement_60 rfl rfl ?_
    refine v_x4_readPut_RX4 C ⟨by decide, by decide⟩ (Nat.le_of_ble_eq_true rfl) dX4_readStatement_61 (fun r4 σ5 _ => ?_)
    refine g_gd (fun hb9 => ?_)
    exact g_zret C (isb_nar hb9) dX4_readStatement_64
  refine g_cs (fun h6 => ?_) (fun h6 => ?_)
  · refine g_lookup C (off := 54) 65 dX4_readStatement_11 (by decide) (by rw [h6]; decide) (by decide) ?_
    refine g_aload_n C 0 dX4_readStatement_65 rfl rfl ?_
    refine g_aload_n C 0 dX4_readStatement_66 rfl rfl ?_
    refine gf_RX4_36 C  (v := gP σ2 404) dX4_readStatement_67 rfl ?_
    refine g_iconst C 5 dX4_readStatement_70 (by decide) ?_
    refine g_aload_n C 0 dX4_readStatement_71 rfl rfl ?_
    refine gf_RX4_85 C  (v := gI σ2 407) dX4_readStatement_72 rfl ?_
    refine g_gd (fun hp7 => ?_)
    refine v_x0_add_RX4 C hp7 ⟨by decide, by decide⟩ (Nat.le_of_ble_eq_true rfl) dX4_readStatement_75 (fun r8 σ9 _ => ?_)
    refine v_x4_readCall_RX4 C ⟨by decide, by decide⟩ (Nat.le_of_ble_eq_true rfl) dX4_readStatement_78 (fun r10 σ11 _ => ?_)
    refine g_if_eq C 97 dX4_readStatement_81 (by decide) ?_ ?_
    · refine g_iconst C 0 dX4_readStatement_97 (by decide) ?_
      exact g_zret C rfl dX4_readStatement_98
    · refine g_aload_n C 0 dX4_readStatement_84 rfl rfl ?_
      refine g_bipush C 9 dX4_readStatement_85 (by decide) ?_
      refine v_x4_take_RX4 C ⟨by decide, by decide⟩ (Nat.le_of_ble_eq_true rfl) dX4_readStatement_87 (fun r12 σ13 _ => ?_)
      refine g_if_eq C 97 dX4_readStatement_90 (by decide) ?_ ?_
      · refine g_iconst C 0 dX4_readStatement_97 (by decide) ?_
        exact g_zret C rfl dX4_readStatement_98
      · refine g_iconst C 1 dX4_readStatement_93 (by decide) ?_
        refine g_goto C 98 dX4_readStatement_94 (by decide) ?_
        exact g_zret C rfl dX4_readStatement_98
  refine g_cs (fun h14 => ?_) (fun h14 => ?_)
  · refine g_lookup C (off := 93) 104 dX4_readStatement_11 (by decide) (by rw [h14]; decide) (by decide) ?_
    refine g_aload_n C 0 dX4_readStatement_104 rfl rfl ?_
    refine g_iconst C 1 dX4_readStatement_105 (by decide) ?_
    refine v_x4_readBranch_RX4 C ⟨by decide, by decide⟩ (Nat.le_of_ble_eq_true rfl) dX4_readStatement_106 (fun r15 σ16 _ => ?_)
    refine g_gd (fun hb9 => ?_)
    exact g_zret C (isb_nar hb9) dX4_readStatement_109
  refine g_cs (fun h17 => ?_) (fun h17 => ?_)
  · refine g_lookup C (off := 99) 110 dX4_readStatement_11 (by decide) (by rw [h17]; decide) (by decide) ?_
    refine g_aload_n C 0 dX4_readStatement_110 rfl rfl ?_
    refine g_iconst C 3 dX4_readStatement_111 (by decide) ?_
    refine v_x4_readBranch_RX4 C ⟨by decide, by decide⟩ (Nat.le_of_ble_eq_true rfl) dX4_readStatement_112 (fun r18 σ19 _ => ?_)
    refine g_gd (fun hb9 => ?_)
    exact g_zret C (isb_nar hb9) dX4_readStatement_115
  refine g_cs (fun h20 => ?_) (fun h20 => ?_)
  · refine g_lookup C (off := 88) 99 dX4_readStatement_11 (by decide) (by rw [h20]; decide) (by decide) ?_
    refine g_aload_n C 0 dX4_readStatement_99 rfl rfl ?_
    refine v_x4_readReturn_RX4 C ⟨by decide, by decide⟩ (Nat.le_of_ble_eq_true rfl) dX4_readStatement_100 (fun r21 σ22 _ => ?_)
    refine g_gd (fun hb9 => ?_)
    exact g_zret C (isb_nar hb9) dX4_readStatement_103
  have ah3 : ¬ r1.toInt = 2 := k_ne h3 (by decide)
  have bh3 : ¬ (2 : Int) = r1.toInt := fun e9 => ah3 e9.symm
  have ah6 : ¬ r1.toInt = 3 := k_ne h6 (by decide)
  have bh6 : ¬ (3 : Int) = r1.toInt := fun e9 => ah6 e9.symm
  have ah14 : ¬ r1.toInt = 12 := k_ne h14 (by decide)
  have bh14 : ¬ (12 : Int) = r1.toInt := fun e9 => ah14 e9.symm
  have ah17 : ¬ r1.toInt = 14 := k_ne h17 (by decide)
  have bh17 : ¬ (14 : Int) = r1.toInt := fun e9 => ah17 e9.symm
  have ah20 : ¬ r1.toInt = 20 := k_ne h20 (by decide)
  have bh20 : ¬ (20 : Int) = r1.toInt := fun e9 => ah20 e9.symm
  refine g_lookup C (off := 105) 116 dX4_readStatement_11 (by decide) (by simp [Op.lookupswitch.offset, bh3, bh6, bh14, bh17, bh20]) (by decide) ?_
  refine g_aload_n C 0 dX4_readStatement_116 rfl rfl ?_
  refine g_iconst C 1 dX4_readStatement_117 (by decide) ?_
  refine g_aload_n C 0 dX4_readStatement_118 rfl rfl ?_
  refine gf_RX4_22 C  dX4_readStatement_119 ?_
  refine g_aload_n C 0 dX4_readStatement_122 rfl rfl ?_
  refine gf_RX4_40 C  (v := gI σ2 405) dX4_readStatement_123 rfl ?_
  refine v_x8_placeAt_RX4 C ⟨by decide, by decide⟩ (Nat.le_of_ble_eq_true rfl) dX4_readStatement_126 (fun r23 σ24 _ => ?_)
  refine v_x4_refuse_RX4 C ⟨by decide, by decide⟩ (Nat.le_of_ble_eq_true rfl) dX4_readStatement_129 (fun r25 σ26 _ => ?_)
  refine g_gd (fun hb9 => ?_)
  exact g_zret C (isb_nar hb9) dX4_readStatement_132
theorem c_x4_readStatement {Y : Yx} {ad : Nat → Nat} {N : Nat} {σ : St} {r : Int32} {σ' : St} (h : x4_readStatement N σ = some (r, σ')) : Con Y scC ad yX4_readStatement cX4_readStatement 1 (some .boolean) 5 114 [.ref (ad 4)] σ (outI r) σ' := con_of (by decide) rfl (Nat.le_of_ble_eq_true rfl) rfl (fun X hX C => s_x4_readStatement C N σ) h
set_option maxRecDepth 20000 in
theorem v_x4_readStatement_RX4 {X : Cx} {cc : ByteArray} {nL : Nat} {ret : Option FieldType} {fr lo : Nat} {ad : Nat → Nat} {ρ : Type} {out : ρ → Option Value} {pc : Nat} {lv : List (Nat × Value)} {rest : List Value} {σ : St} {N : Nat} {K : Int32 → St → Option (ρ × St)} (C : Ok X cc RX4 nL ret fr lo) (hR : 5 + 1 ≤ fr ∧ 8 + (1 + 11) + 114 ≤ lo) (hcat : (rest.map fun v => v.category).sum ≤ 8) (hdg : decode cc pc = .ok (.invokevirtual 62, 3)) (k : ∀ (r : Int32) (σ' : St), x4_readStatement N σ = some (r, σ') → Sim X scC ad nL out (pc + 3) lv (.int r :: rest) σ' (K r σ')) : Sim X scC ad nL out pc lv (.ref (ad 4) :: rest) σ (bd (x4_readStatement N σ) K) := g_callV C (out1 := outI) (y := yX4_readStatement) (n := 0) ⟨gw_717, gw_719, gw_11, gw_111, gw_720⟩ (by decide +kernel) hR (o := 4) (ci := 4) (q9 := (RX4, TX4, 10)) im_4 rfl rfl rfl (fun r σ' h => c_x4_readStatement h) rfl rfl hcat hdg k

def x4_checkCalls_93 (N : Nat) (rec2 : St → Int32 → Option (Unit × St)) (σ : St) (x1 : Int32) : Option (Unit × St) :=
  rec2 σ (x1 + 1)
def x4_checkCalls_77 (N : Nat) (rec2 : St → Int32 → Option (Unit × St)) (σ : St) (x1 : Int32) : Option (Unit × St) :=
  gd (isCd (gP σ 404)) (bd (x0_get N σ (gP σ 404) x1 9) (fun r11 σ12 => bd (x4_refuse N σ12 4 r11) (fun r13 σ14 => x4_checkCalls_93 N rec2 σ14 x1)))
def x4_checkCalls_2_b (N : Nat) (rec2 : St → Int32 → Option (Unit × St)) (σ : St) (x1 : Int32) : Option (Unit × St) :=
  gd (isCd (gP σ 404)) ((if (gI σ (100 * (gP σ 404) + 1)) ≤ x1 then some ((), σ) else (if (gI σ 408) = 0 then bd (x0_get N σ (gP σ 404) x1 4) (fun r2 σ3 => (if r2 = 5 then gd (isCd (gP σ3 404)) (bd (x0_get N σ3 (gP σ3 404) x1 6) (fun r5 σ6 => gd (isPr (gP σ6 403)) (bd (x3_has N σ6 (gP σ6 403) r5) (fun r8 σ9 => (if r8 = 0 then x4_checkCalls_77 N rec2 σ9 x1 else gd (isPr (gP σ9 403)) (bd (x5_at N σ9 ((gP σ9 403) + 4) r5) (fun r16 σ17 => gd (isCd (gP σ17 404)) (bd (x0_arguments N σ17 (gP σ17 404) x1) (fun r19 σ20 => (if r16 = r19 then x4_checkCalls_93 N rec2 σ20 x1 else x4_checkCalls_77 N rec2 σ20 x1)))))))))) else x4_checkCalls_93 N rec2 σ3 x1)) else some ((), σ))))
def x4_checkCalls_2 (N : Nat) : Nat → St → Int32 → Option (Unit × St)
  | 0 => fun _ _ => none
  | n + 1 => fun σ x1 => x4_checkCalls_2_b N (x4_checkCalls_2 N n) σ x1
def x4_checkCalls (N : Nat) (σ : St) : Option (Unit × St) :=
  x4_checkCalls_2 N N σ 0
set_option maxHeartbeats 4000000 in
set_option maxRecDepth 100000 in
theorem s_x4_checkCalls_93 {X : Cx} {ad : Nat → Nat} (C : Ok X cX4_checkCalls RX4 3 none 2 44) (N : Nat) {rec2 : St → Int32 → Option (Unit × St)} (hrec2 : ∀ (σ : St) (x1 : Int32), Sim X scC ad 3 outV 2 [(0, .ref (ad 4)), (1, .int x1)] [] σ (rec2 σ x1)) (σ : St) (x1 : Int32) : Sim X scC ad 3 outV 93 [(0, .ref (ad 4)), (1, .int x1)] [] σ (x4_checkCalls_93 N rec2 σ x1) := by
  unfold x4_checkCalls_93
  refine g_iinc C (x1 + 1) 1 [(1, .int (x1 + 1)), (0, .ref (ad 4))] dX4_checkCalls_93 rfl rfl (by decide) rfl ?_
  refine g_goto C 2 dX4_checkCalls_96 (by decide) ?_
  exact g_sub [1, 0] rfl (hrec2 σ (x1 + 1))
set_option maxHeartbeats 4000000 in
set_option maxRecDepth 100000 in
theorem s_x4_checkCalls_77 {X : Cx} {ad : Nat → Nat} (C : Ok X cX4_checkCalls RX4 3 none 2 44) (N : Nat) {rec2 : St → Int32 → Option (Unit × St)} (hrec2 : ∀ (σ : St) (x1 : Int32), Sim X scC ad 3 outV 2 [(0, .ref (ad 4)), (1, .int x1)] [] σ (rec2 σ x1)) (σ : St) (x1 : Int32) : Sim X scC ad 3 outV 77 [(0, .ref (ad 4)), (1, .int x1)] [] σ (x4_checkCalls_77 N rec2 σ x1) := by
  unfold x4_checkCalls_77
  refine g_aload_n C 0 dX4_checkCalls_77 rfl rfl ?_
  refine g_iconst C 4 dX4_checkCalls_78 (by decide) ?_
  refine g_aload_n C 0 dX4_checkCalls_79 rfl rfl ?_
  refine gf_RX4_36 C  (v := gP σ 404) dX4_checkCalls_80 rfl ?_
  refine g_iload_n C 1 dX4_checkCalls_83 rfl rfl ?_
  refine g_bipush C 9 dX4_checkCalls_84 (by decide) ?_
  refine g_gd (fun hp10 => ?_)
  refine v_x0_get_RX4 C hp10 ⟨by decide, by decide⟩ (Nat.le_of_ble_eq_true rfl) dX4_checkCalls_86 (fun r11 σ12 _ => ?_)
  refine v_x4_refuse_RX4 C ⟨by decide, by decide⟩ (Nat.le_of_ble_eq_true rfl) dX4_checkCalls_89 (fun r13 σ14 _ => ?_)
  refine g_pop C dX4_checkCalls_92 rfl ?_
  exact g_sub [0, 1] rfl (s_x4_checkCalls_93 C N hrec2 σ14 x1)
set_option maxHeartbeats 4000000 in
set_option maxRecDepth 100000 in
theorem s_x4_checkCalls_2_b {X : Cx} {ad : Nat → Nat} (C : Ok X cX4_checkCalls RX4 3 none 2 44) (N : Nat) {rec2 : St → Int32 → Option (Unit × St)} (hrec2 : ∀ (σ : St) (x1 : Int32), Sim X scC ad 3 outV 2 [(0, .ref (ad 4)), (1, .int x1)] [] σ (rec2 σ x1)) (σ : St) (x1 : Int32) : Sim X scC ad 3 outV 2 [(0, .ref (ad 4)), (1, .int x1)] [] σ (x4_checkCalls_2_b N rec2 σ x1) := by
  unfold x4_checkCalls_2_b
  refine g_iload_n C 1 dX4_checkCalls_2 rfl rfl ?_
  refine g_aload_n C 0 dX4_checkCalls_3 rfl rfl ?_
  refine gf_RX4_36 C  (v := gP σ 404) dX4_checkCalls_4 rfl ?_
  refine g_gd (fun hp1 => ?_)
  refine gf_RX4_128 C hp1 (v := gI σ (100 * (gP σ 404) + 1)) dX4_checkCalls_7 rfl ?_
  refine g_icmp_ge C 99 dX4_checkCalls_10 (by decide) ?_ ?_
  · exact g_vret C dX4_checkCalls_99
  · refine g_aload_n C 0 dX4_checkCalls_13 rfl rfl ?_
    refine gf_RX4_46 C  (v := gI σ 408) dX4_checkCalls_14 rfl ?_
    refine g_if_ne C 99 dX4_checkCalls_17 (by decide) ?_ ?_
    · exact g_vret C dX4_checkCalls_99
    · refine g_aload_n C 0 dX4_checkCalls_20 rfl rfl ?_
      refine gf_RX4_36 C  (v := gP σ 404) dX4_checkCalls_21 rfl ?_
      refine g_iload_n C 1 dX4_checkCalls_24 rfl rfl ?_
      refine g_iconst C 4 dX4_checkCalls_25 (by decide) ?_
      refine v_x0_get_RX4 C hp1 ⟨by decide, by decide⟩ (Nat.le_of_ble_eq_true rfl) dX4_checkCalls_26 (fun r2 σ3 _ => ?_)
      refine g_iconst C 5 dX4_checkCalls_29 (by decide) ?_
      refine g_icmp_ne C 93 dX4_checkCalls_30 (by decide) ?_ ?_
      · exact g_sub [0, 1] rfl (s_x4_checkCalls_93 C N hrec2 σ3 x1)
      · refine g_aload_n C 0 dX4_checkCalls_33 rfl rfl ?_
        refine gf_RX4_36 C  (v := gP σ3 404) dX4_checkCalls_34 rfl ?_
        refine g_iload_n C 1 dX4_checkCalls_37 rfl rfl ?_
        refine g_bipush C 6 dX4_checkCalls_38 (by decide) ?_
        refine g_gd (fun hp4 => ?_)
        refine v_x0_get_RX4 C hp4 ⟨by decide, by decide⟩ (Nat.le_of_ble_eq_true rfl) dX4_checkCalls_40 (fun r5 σ6 _ => ?_)
        refine g_istore_n C [(2, .int r5), (0, .ref (ad 4)), (1, .int x1)] dX4_checkCalls_43 rfl (by decide) rfl ?_
        refine g_aload_n C 1 dX4_checkCalls_44 rfl rfl ?_
        refine gf_RX4_26 C  (v := gP σ6 403) dX4_checkCalls_45 rfl ?_
        refine g_iload_n C 0 dX4_checkCalls_48 rfl rfl ?_
        refine g_gd (fun hp7 => ?_)
        refine v_x3_has_RX4 C hp7 ⟨by decide, by decide⟩ (Nat.le_of_ble_eq_true rfl) dX4_checkCalls_49 (fun r8 σ9 _ => ?_)
        refine g_if_eq C 77 dX4_checkCalls_52 (by decide) ?_ ?_
        · exact g_sub [1, 2] rfl (s_x4_checkCalls_77 C N hrec2 σ9 x1)
        · refine g_aload_n C 1 dX4_checkCalls_55 rfl rfl ?_
          refine gf_RX4_26 C  (v := gP σ9 403) dX4_checkCalls_56 rfl ?_
          refine g_gd (fun hp15 => ?_)
          refine gf_RX4_184 C hp15 dX4_checkCalls_59 ?_
          refine g_iload_n C 0 dX4_checkCalls_62 rfl rfl ?_
          refine v_x5_at_RX4 C ⟨by decide, by decide⟩ (Nat.le_of_ble_eq_true rfl) dX4_checkCalls_63 (fun r16 σ17 _ => ?_)
          refine g_aload_n C 1 dX4_checkCalls_66 rfl rfl ?_
          refine gf_RX4_36 C  (v := gP σ17 404) dX4_checkCalls_67 rfl ?_
          refine g_iload_n C 2 dX4_checkCalls_70 rfl rfl ?_
          refine g_gd (fun hp18 => ?_)
          refine v_x0_arguments_RX4 C hp18 ⟨by decide, by decide⟩ (Nat.le_of_ble_eq_true rfl) dX4_checkCalls_71 (fun r19 σ20 _ => ?_)
          refine g_icmp_eq C 93 dX4_checkCalls_74 (by decide) ?_ ?_
          · exact g_sub [1, 2] rfl (s_x4_checkCalls_93 C N hrec2 σ20 x1)
          · exact g_sub [1, 2] rfl (s_x4_checkCalls_77 C N hrec2 σ20 x1)
set_option maxHeartbeats 4000000 in
set_option maxRecDepth 100000 in
theorem s_x4_checkCalls_2 {X : Cx} {ad : Nat → Nat} (C : Ok X cX4_checkCalls RX4 3 none 2 44) (N : Nat) : ∀ (n : Nat) (σ : St) (x1 : Int32), Sim X scC ad 3 outV 2 [(0, .ref (ad 4)), (1, .int x1)] [] σ (x4_checkCalls_2 N n σ x1) := by
  intro n
  induction n with
  | zero => intro σ x1; exact g_none
  | succ n ih => intro σ x1; exact s_x4_checkCalls_2_b C N ih σ x1
set_option maxHeartbeats 4000000 in
set_option maxRecDepth 100000 in
theorem s_x4_checkCalls {X : Cx} {ad : Nat → Nat} (C : Ok X cX4_checkCalls RX4 3 none 2 44) (N : Nat) (σ : St) : Sim X scC ad 3 outV 0 [(0, .ref (ad 4))] [] σ (x4_checkCalls N σ) := by
  unfold x4_checkCalls
  refine g_iconst C 0 dX4_checkCalls_0 (by decide) ?_
  refine g_istore_n C [(1, .int 0), (0, .ref (ad 4))] dX4_checkCalls_1 rfl (by decide) rfl ?_
  exact g_sub [1, 0] rfl (s_x4_checkCalls_2 C N N σ 0)
theorem c_x4_checkCalls {Y : Yx} {ad : Nat → Nat} {N : Nat} {σ : St} {r : Unit} {σ' : St} (h : x4_checkCalls N σ = some (r, σ')) : Con Y scC ad yX4_checkCalls cX4_checkCalls 3 none 2 44 [.ref (ad 4)] σ (outV r) σ' := con_of (by decide) rfl (Nat.le_of_ble_eq_true rfl) rfl (fun X hX C => s_x4_checkCalls C N σ) h
set_option maxRecDepth 20000 in
theorem v_x4_checkCalls_RX4 {X : Cx} {cc : ByteArray} {nL : Nat} {ret : Option FieldType} {fr lo : Nat} {ad : Nat → Nat} {ρ : Type} {out : ρ → Option Value} {pc : Nat} {lv : List (Nat × Value)} {rest : List Value} {σ : St} {N : Nat} {K : Unit → St → Option (ρ × St)} (C : Ok X cc RX4 nL ret fr lo) (hR : 2 + 1 ≤ fr ∧ 8 + (3 + 11) + 44 ≤ lo) (hcat : (rest.map fun v => v.category).sum ≤ 8) (hdg : decode cc pc = .ok (.invokevirtual 65, 3)) (k : ∀ (r : Unit) (σ' : St), x4_checkCalls N σ = some (r, σ') → Sim X scC ad nL out (pc + 3) lv rest σ' (K r σ')) : Sim X scC ad nL out pc lv (.ref (ad 4) :: rest) σ (bd (x4_checkCalls N σ) K) := g_callV C (out1 := outV) (y := yX4_checkCalls) (n := 0) ⟨gw_778, gw_780, gw_22, gw_111, gw_781⟩ (by decide +kernel) hR (o := 4) (ci := 4) (q9 := (RX4, TX4, 10)) im_4 rfl rfl rfl (fun r σ' h => c_x4_checkCalls h) rfl rfl hcat hdg k

def x4_readInto_110 (N : Nat) (σ : St) : Option (Unit × St) :=
  (if (gI σ 408) = 0 then bd (x4_checkCalls N σ) (fun _ σ5 => some ((), σ5)) else some ((), σ))
def x4_readInto_104 (N : Nat) (rec39 : St → Int32 → Option (Unit × St)) (σ : St) (x2 : Int32) : Option (Unit × St) :=
  rec39 σ (x2 + 1)
def x4_readInto_68 (N : Nat) (rec39 : St → Int32 → Option (Unit × St)) (σ : St) (x2 : Int32) : Option (Unit × St) :=
  (if (gI σ 406) = 0 then bd (x4_readHead N σ) (fun r12 σ13 => x4_readInto_104 N rec39 σ13 x2) else bd (x4_seen N σ 7) (fun r6 σ7 => (if r6 = 0 then bd (x4_readStatement N σ7) (fun r8 σ9 => x4_readInto_104 N rec39 σ9 x2) else bd (x4_closeBlock N σ7) (fun _ σ11 => x4_readInto_104 N rec39 σ11 x2))))
def x4_readInto_39_b (N : Nat) (rec39 : St → Int32 → Option (Unit × St)) (σ : St) (x2 : Int32) : Option (Unit × St) :=
  (if 1200 < x2 then x4_readInto_110 N σ else (if (gI σ 408) = 0 then (if 0 < (gI σ 406) then x4_readInto_68 N rec39 σ x2 else bd (x4_seen N σ 0) (fun r14 σ15 => (if r14 = 0 then x4_readInto_68 N rec39 σ15 x2 else x4_readInto_110 N σ15))) else x4_readInto_110 N σ))
def x4_readInto_39 (N : Nat) : Nat → St → Int32 → Option (Unit × St)
  | 0 => fun _ _ => none
  | n + 1 => fun σ x2 => x4_readInto_39_b N (x4_readInto_39 N n) σ x2
def x4_readInto (N : Nat) (σ : St) (a1 : Nat) : Option (Unit × St) :=
  gd (isPr a1) (bd (x3_clear N (sP (sP σ 403 a1) 404 (a1 + 1)) a1) (fun _ σ3 => x4_readInto_39 N N (sI (sI (sI (sI σ3 405 0) 406 0) 408 0) 409 (-1)) 0))
set_option maxHeartbeats 4000000 in
set_option maxRecDepth 100000 in
theorem s_x4_readInto_110 {X : Cx} {ad : Nat → Nat} (C : Ok X cX4_readInto RX4 3 none 6 134) (N : Nat) (σ : St) : Sim X scC ad 3 outV 110 [(0, .ref (ad 4))] [] σ (x4_readInto_110 N σ) := by
  unfold x4_readInto_110
  refine g_aload_n C 0 dX4_readInto_110 rfl rfl ?_
  refine gf_RX4_46 C  (v := gI σ 408) dX4_readInto_111 rfl ?_
  refine g_if_ne C 121 dX4_readInto_114 (by decide) ?_ ?_
  · exact g_vret C dX4_readInto_121
  · refine g_aload_n C 0 dX4_readInto_117 rfl rfl ?_
    refine v_x4_checkCalls_RX4 C ⟨by decide, by decide⟩ (Nat.le_of_ble_eq_true rfl) dX4_readInto_118 (fun r4 σ5 _ => ?_)
    exact g_vret C dX4_readInto_121
set_option maxHeartbeats 4000000 in
set_option maxRecDepth 100000 in
theorem s_x4_readInto_104 {X : Cx} {ad : Nat → Nat} (C : Ok X cX4_readInto RX4 3 none 6 134) (N : Nat) {rec39 : St → Int32 → Option (Unit × St)} (hrec39 : ∀ (σ : St) (x2 : Int32), Sim X scC ad 3 outV 39 [(0, .ref (ad 4)), (2, .int x2)] [] σ (rec39 σ x2)) (σ : St) (x2 : Int32) : Sim X scC ad 3 outV 104 [(0, .ref (ad 4)), (2, .int x2)] [] σ (x4_readInto_104 N rec39 σ x2) := by
  unfold x4_readInto_104
  refine g_iinc C (x2 + 1) 1 [(2, .int (x2 + 1)), (0, .ref (ad 4))] dX4_readInto_104 rfl rfl (by decide) rfl ?_
  refine g_goto C 39 dX4_readInto_107 (by decide) ?_
  exact g_sub [1, 0] rfl (hrec39 σ (x2 + 1))
set_option maxHeartbeats 4000000 in
set_option maxRecDepth 100000 in
theorem s_x4_readInto_68 {X : Cx} {ad : Nat → Nat} (C : Ok X cX4_readInto RX4 3 none 6 134) (N : Nat) {rec39 : St → Int32 → Option (Unit × St)} (hrec39 : ∀ (σ : St) (x2 : Int32), Sim X scC ad 3 outV 39 [(0, .ref (ad 4)), (2, .int x2)] [] σ (rec39 σ x2)) (σ : St) (x2 : Int32) : Sim X scC ad 3 outV 68 [(0, .ref (ad 4)), (2, .int x2)] [] σ (x4_readInto_68 N rec39 σ x2) := by
  unfold x4_readInto_68
  refine g_aload_n C 0 dX4_readInto_68 rfl rfl ?_
  refine gf_RX4_43 C  (v := gI σ 406) dX4_readInto_69 rfl ?_
  refine g_if_ne C 83 dX4_readInto_72 (by decide) ?_ ?_
  · refine g_aload_n C 0 dX4_readInto_83 rfl rfl ?_
    refine g_bipush C 7 dX4_readInto_84 (by decide) ?_
    refine v_x4_seen_RX4 C ⟨by decide, by decide⟩ (Nat.le_of_ble_eq_true rfl) dX4_readInto_86 (fun r6 σ7 _ => ?_)
    refine g_if_eq C 99 dX4_readInto_89 (by decide) ?_ ?_
    · refine g_aload_n C 0 dX4_readInto_99 rfl rfl ?_
      refine v_x4_readStatement_RX4 C ⟨by decide, by decide⟩ (Nat.le_of_ble_eq_true rfl) dX4_readInto_100 (fun r8 σ9 _ => ?_)
      refine g_pop C dX4_readInto_103 rfl ?_
      exact g_sub [0, 1] rfl (s_x4_readInto_104 C N hrec39 σ9 x2)
    · refine g_aload_n C 0 dX4_readInto_92 rfl rfl ?_
      refine v_x4_closeBlock_RX4 C ⟨by decide, by decide⟩ (Nat.le_of_ble_eq_true rfl) dX4_readInto_93 (fun r10 σ11 _ => ?_)
      refine g_goto C 104 dX4_readInto_96 (by decide) ?_
      exact g_sub [0, 1] rfl (s_x4_readInto_104 C N hrec39 σ11 x2)
  · refine g_aload_n C 0 dX4_readInto_75 rfl rfl ?_
    refine v_x4_readHead_RX4 C ⟨by decide, by decide⟩ (Nat.le_of_ble_eq_true rfl) dX4_readInto_76 (fun r12 σ13 _ => ?_)
    refine g_pop C dX4_readInto_79 rfl ?_
    refine g_goto C 104 dX4_readInto_80 (by decide) ?_
    exact g_sub [0, 1] rfl (s_x4_readInto_104 C N hrec39 σ13 x2)
set_option maxHeartbeats 4000000 in
set_option maxRecDepth 100000 in
theorem s_x4_readInto_39_b {X : Cx} {ad : Nat → Nat} (C : Ok X cX4_readInto RX4 3 none 6 134) (N : Nat) {rec39 : St → Int32 → Option (Unit × St)} (hrec39 : ∀ (σ : St) (x2 : Int32), Sim X scC ad 3 outV 39 [(0, .ref (ad 4)), (2, .int x2)] [] σ (rec39 σ x2)) (σ : St) (x2 : Int32) : Sim X scC ad 3 outV 39 [(0, .ref (ad 4)), (2, .int x2)] [] σ (x4_readInto_39_b N rec39 σ x2) := by
  unfold x4_readInto_39_b
  refine g_iload_n C 1 dX4_readInto_39 rfl rfl ?_
  refine g_sipush C 1200 dX4_readInto_40 (by decide) ?_
  refine g_icmp_gt C 110 dX4_readInto_43 (by decide) ?_ ?_
  · exact g_sub [0] rfl (s_x4_readInto_110 C N σ)
  · refine g_aload_n C 0 dX4_readInto_46 rfl rfl ?_
    refine gf_RX4_46 C  (v := gI σ 408) dX4_readInto_47 rfl ?_
    refine g_if_ne C 110 dX4_readInto_50 (by decide) ?_ ?_
    · exact g_sub [0] rfl (s_x4_readInto_110 C N σ)
    · refine g_aload_n C 0 dX4_readInto_53 rfl rfl ?_
      refine gf_RX4_43 C  (v := gI σ 406) dX4_readInto_54 rfl ?_
      refine g_if_gt C 68 dX4_readInto_57 (by decide) ?_ ?_
      · exact g_sub [0, 1] rfl (s_x4_readInto_68 C N hrec39 σ x2)
      · refine g_aload_n C 0 dX4_readInto_60 rfl rfl ?_
        refine g_iconst C 0 dX4_readInto_61 (by decide) ?_
        refine v_x4_seen_RX4 C ⟨by decide, by decide⟩ (Nat.le_of_ble_eq_true rfl) dX4_readInto_62 (fun r14 σ15 _ => ?_)
        refine g_if_ne C 110 dX4_readInto_65 (by decide) ?_ ?_
        · exact g_sub [0] rfl (s_x4_readInto_110 C N σ15)
        · exact g_sub [0, 1] rfl (s_x4_readInto_68 C N hrec39 σ15 x2)
set_option maxHeartbeats 4000000 in
set_option maxRecDepth 100000 in
theorem s_x4_readInto_39 {X : Cx} {ad : Nat → Nat} (C : Ok X cX4_readInto RX4 3 none 6 134) (N : Nat) : ∀ (n : Nat) (σ : St) (x2 : Int32), Sim X scC ad 3 outV 39 [(0, .ref (ad 4)), (2, .int x2)] [] σ (x4_readInto_39 N n σ x2) := by
  intro n
  induction n with
  | zero => intro σ x2; exact g_none
  | succ n ih => intro σ x2; exact s_x4_readInto_39_b C N ih σ x2
set_option maxHeartbeats 4000000 in
set_option maxRecDepth 100000 in
theorem s_x4_readInto {X : Cx} {ad : Nat → Nat} (C : Ok X cX4_readInto RX4 3 none 6 134) (N : Nat) (σ : St) (a1 : Nat) : Sim X scC ad 3 outV 0 [(0, .ref (ad 4)), (1, .ref (ad a1))] [] σ (x4_readInto N σ a1) := by
  unfold x4_readInto
  refine g_aload_n C 0 dX4_readInto_0 rfl rfl ?_
  refine g_aload_n C 1 dX4_readInto_1 rfl rfl ?_
  refine pf_RX4_26 C dX4_readInto_2 ?_
  refine g_aload_n C 0 dX4_readInto_5 rfl rfl ?_
  refine g_aload_n C 1 dX4_readInto_6 rfl rfl ?_
  refine g_gd (fun hp1 => ?_)
  refine gf_RX4_30 C hp1 dX4_readInto_7 ?_
  refine pf_RX4_36 C dX4_readInto_10 ?_
  refine g_aload_n C 1 dX4_readInto_13 rfl rfl ?_
  refine v_x3_clear_RX4 C hp1 ⟨by decide, by decide⟩ (Nat.le_of_ble_eq_true rfl) dX4_readInto_14 (fun r2 σ3 _ => ?_)
  refine g_aload_n C 0 dX4_readInto_17 rfl rfl ?_
  refine g_iconst C 0 dX4_readInto_18 (by decide) ?_
  refine pf_RX4_40 C dX4_readInto_19 ?_
  refine g_aload_n C 0 dX4_readInto_22 rfl rfl ?_
  refine g_iconst C 0 dX4_readInto_23 (by decide) ?_
  refine pf_RX4_43 C dX4_readInto_24 ?_
  refine g_aload_n C 0 dX4_readInto_27 rfl rfl ?_
  refine g_iconst C 0 dX4_readInto_28 (by decide) ?_
  refine pf_RX4_46 C dX4_readInto_29 ?_
  refine g_aload_n C 0 dX4_readInto_32 rfl rfl ?_
  refine g_iconst C (-1) dX4_readInto_33 (by decide) ?_
  refine pf_RX4_18 C dX4_readInto_34 ?_
  refine g_iconst C 0 dX4_readInto_37 (by decide) ?_
  refine g_istore_n C [(2, .int 0), (0, .ref (ad 4)), (1, .ref (ad a1))] dX4_readInto_38 rfl (by decide) rfl ?_
  exact g_sub [1, 0] rfl (s_x4_readInto_39 C N N (sI (sI (sI (sI σ3 405 0) 406 0) 408 0) 409 (-1)) 0)
theorem c_x4_readInto {Y : Yx} {ad : Nat → Nat} {N : Nat} {σ : St} {a1 : Nat} {r : Unit} {σ' : St} (h : x4_readInto N σ a1 = some (r, σ')) : Con Y scC ad yX4_readInto cX4_readInto 3 none 6 134 [.ref (ad 4), .ref (ad a1)] σ (outV r) σ' := con_of (by decide) rfl (Nat.le_of_ble_eq_true rfl) rfl (fun X hX C => s_x4_readInto C N σ a1) h
set_option maxRecDepth 20000 in
theorem v_x4_readInto_RX10 {X : Cx} {cc : ByteArray} {nL : Nat} {ret : Option FieldType} {fr lo : Nat} {ad : Nat → Nat} {ρ : Type} {out : ρ → Option Value} {pc : Nat} {lv : List (Nat × Value)} {rest : List Value} {σ : St} {N : Nat} {K : Unit → St → Option (ρ × St)} {a1 : Nat} (C : Ok X cc RX10 nL ret fr lo) (hR : 6 + 1 ≤ fr ∧ 8 + (3 + 11) + 134 ≤ lo) (hcat : (rest.map fun v => v.category).sum ≤ 8) (hdg : decode cc pc = .ok (.invokevirtual 98, 3)) (k : ∀ (r : Unit) (σ' : St), x4_readInto N σ a1 = some (r, σ') → Sim X scC ad nL out (pc + 3) lv rest σ' (K r σ')) : Sim X scC ad nL out pc lv (.ref (ad a1) :: .ref (ad 4) :: rest) σ (bd (x4_readInto N σ a1) K) := g_callV C (out1 := outV) (y := yX4_readInto) (n := 1) ⟨gw_630, gw_631, gw_632, gw_111, gw_633⟩ (by decide +kernel) hR (o := 4) (ci := 4) (q9 := (RX4, TX4, 10)) im_4 rfl rfl rfl (fun r σ' h => c_x4_readInto h) rfl rfl hcat hdg k

def x6_clearNames_2_b (N : Nat) (rec2 : St → Int32 → Option (Unit × St)) (σ : St) (x1 : Int32) : Option (Unit × St) :=
  (if 26 ≤ x1 then some ((), σ) else bd (x5_put N σ 16 (((gI σ 1513) * 26) + x1) 0) (fun _ σ2 => rec2 σ2 (x1 + 1)))
def x6_clearNames_2 (N : Nat) : Nat → St → Int32 → Option (Unit × St)
  | 0 => fun _ _ => none
  | n + 1 => fun σ x1 => x6_clearNames_2_b N (x6_clearNames_2 N n) σ x1
def x6_clearNames (N : Nat) (σ : St) : Option (Unit × St) :=
  x6_clearNames_2 N N σ 0
set_option maxHeartbeats 4000000 in
set_option maxRecDepth 100000 in
theorem s_x6_clearNames_2_b {X : Cx} {ad : Nat → Nat} (C : Ok X cX6_clearNames RX6 2 none 1 22) (N : Nat) {rec2 : St → Int32 → Option (Unit × St)} (hrec2 : ∀ (σ : St) (x1 : Int32), Sim X scC ad 2 outV 2 [(0, .ref (ad 15)), (1, .int x1)] [] σ (rec2 σ x1)) (σ : St) (x1 : Int32) : Sim X scC ad 2 outV 2 [(0, .ref (ad 15)), (1, .int x1)] [] σ (x6_clearNames_2_b N rec2 σ x1) := by
  unfold x6_clearNames_2_b
  refine g_iload_n C 1 dX6_clearNames_2 rfl rfl ?_
  refine g_bipush C 26 dX6_clearNames_3 (by decide) ?_
  refine g_icmp_ge C 31 dX6_clearNames_5 (by decide) ?_ ?_
  · exact g_vret C dX6_clearNames_31
  · refine g_aload_n C 0 dX6_clearNames_8 rfl rfl ?_
    refine gf_RX6_11 C  dX6_clearNames_9 ?_
    refine g_aload_n C 0 dX6_clearNames_12 rfl rfl ?_
    refine gf_RX6_73 C  (v := gI σ 1513) dX6_clearNames_13 rfl ?_
    refine g_bipush C 26 dX6_clearNames_16 (by decide) ?_
    refine g_imul C dX6_clearNames_18 ?_
    refine g_iload_n C 1 dX6_clearNames_19 rfl rfl ?_
    refine g_iadd C dX6_clearNames_20 ?_
    refine g_iconst C 0 dX6_clearNames_21 (by decide) ?_
    refine v_x5_put_RX6 C ⟨by decide, by decide⟩ (Nat.le_of_ble_eq_true rfl) dX6_clearNames_22 (fun r1 σ2 _ => ?_)
    refine g_iinc C (x1 + 1) 1 [(1, .int (x1 + 1)), (0, .ref (ad 15))] dX6_clearNames_25 rfl rfl (by decide) rfl ?_
    refine g_goto C 2 dX6_clearNames_28 (by decide) ?_
    exact g_sub [1, 0] rfl (hrec2 σ2 (x1 + 1))
set_option maxHeartbeats 4000000 in
set_option maxRecDepth 100000 in
theorem s_x6_clearNames_2 {X : Cx} {ad : Nat → Nat} (C : Ok X cX6_clearNames RX6 2 none 1 22) (N : Nat) : ∀ (n : Nat) (σ : St) (x1 : Int32), Sim X scC ad 2 outV 2 [(0, .ref (ad 15)), (1, .int x1)] [] σ (x6_clearNames_2 N n σ x1) := by
  intro n
  induction n with
  | zero => intro σ x1; exact g_none
  | succ n ih => intro σ x1; exact s_x6_clearNames_2_b C N ih σ x1
set_option maxHeartbeats 4000000 in
set_option maxRecDepth 100000 in
theorem s_x6_clearNames {X : Cx} {ad : Nat → Nat} (C : Ok X cX6_clearNames RX6 2 none 1 22) (N : Nat) (σ : St) : Sim X scC ad 2 outV 0 [(0, .ref (ad 15))] [] σ (x6_clearNames N σ) := by
  unfold x6_clearNames
  refine g_iconst C 0 dX6_clearNames_0 (by decide) ?_
  refine g_istore_n C [(1, .int 0), (0, .ref (ad 15))] dX6_clearNames_1 rfl (by decide) rfl ?_
  exact g_sub [1, 0] rfl (s_x6_clearNames_2 C N N σ 0)
theorem c_x6_clearNames {Y : Yx} {ad : Nat → Nat} {N : Nat} {σ : St} {r : Unit} {σ' : St} (h : x6_clearNames N σ = some (r, σ')) : Con Y scC ad yX6_clearNames cX6_clearNames 2 none 1 22 [.ref (ad 15)] σ (outV r) σ' := con_of (by decide) rfl (Nat.le_of_ble_eq_true rfl) rfl (fun X hX C => s_x6_clearNames C N σ) h
set_option maxRecDepth 20000 in
theorem v_x6_clearNames_RX6 {X : Cx} {cc : ByteArray} {nL : Nat} {ret : Option FieldType} {fr lo : Nat} {ad : Nat → Nat} {ρ : Type} {out : ρ → Option Value} {pc : Nat} {lv : List (Nat × Value)} {rest : List Value} {σ : St} {N : Nat} {K : Unit → St → Option (ρ × St)} (C : Ok X cc RX6 nL ret fr lo) (hR : 1 + 1 ≤ fr ∧ 8 + (2 + 11) + 22 ≤ lo) (hcat : (rest.map fun v => v.category).sum ≤ 8) (hdg : decode cc pc = .ok (.invokevirtual 76, 3)) (k : ∀ (r : Unit) (σ' : St), x6_clearNames N σ = some (r, σ') → Sim X scC ad nL out (pc + 3) lv rest σ' (K r σ')) : Sim X scC ad nL out pc lv (.ref (ad 15) :: rest) σ (bd (x6_clearNames N σ) K) := g_callV C (out1 := outV) (y := yX6_clearNames) (n := 0) ⟨gw_933, gw_935, gw_37, gw_114, gw_936⟩ (by decide +kernel) hR (o := 15) (ci := 5) (q9 := (RX6, TX6, 16)) im_15 rfl rfl rfl (fun r σ' h => c_x6_clearNames h) rfl rfl hcat hdg k

def x6_make (N : Nat) (σ : St) (a1 : Int32) (a2 : Int32) : Option (Int32 × St) :=
  (if (gI σ 1508) < 300 then bd (x5_put N (sI σ 1508 ((gI σ 1508) + 1)) 18 (((gI σ 1508) + 1) * 2) a1) (fun _ σ2 => bd (x5_put N σ2 18 (((gI σ2 1508) * 2) + 1) a2) (fun _ σ4 => some (gI σ4 1508, σ4))) else some (0, (sI σ 1511 3)))
set_option maxHeartbeats 4000000 in
set_option maxRecDepth 100000 in
theorem s_x6_make {X : Cx} {ad : Nat → Nat} (C : Ok X cX6_make RX6 3 (some .int) 1 22) (N : Nat) (σ : St) (a1 : Int32) (a2 : Int32) : Sim X scC ad 3 outI 0 [(0, .ref (ad 15)), (1, .int a1), (2, .int a2)] [] σ (x6_make N σ a1 a2) := by
  unfold x6_make
  refine g_aload_n C 0 dX6_make_0 rfl rfl ?_
  refine gf_RX6_64 C  (v := gI σ 1508) dX6_make_1 rfl ?_
  refine g_sipush C 300 dX6_make_4 (by decide) ?_
  refine g_icmp_lt C 17 dX6_make_7 (by decide) ?_ ?_
  · refine g_aload_n C 0 dX6_make_17 rfl rfl ?_
    refine g_dup C dX6_make_18 rfl ?_
    refine gf_RX6_64 C  (v := gI σ 1508) dX6_make_19 rfl ?_
    refine g_iconst C 1 dX6_make_22 (by decide) ?_
    refine g_iadd C dX6_make_23 ?_
    refine pf_RX6_64 C dX6_make_24 ?_
    refine g_aload_n C 0 dX6_make_27 rfl rfl ?_
    refine gf_RX6_18 C  dX6_make_28 ?_
    refine g_aload_n C 0 dX6_make_31 rfl rfl ?_
    refine gf_RX6_64 C  (v := (gI σ 1508) + 1) dX6_make_32 rfl ?_
    refine g_iconst C 2 dX6_make_35 (by decide) ?_
    refine g_imul C dX6_make_36 ?_
    refine g_iload_n C 1 dX6_make_37 rfl rfl ?_
    refine v_x5_put_RX6 C ⟨by decide, by decide⟩ (Nat.le_of_ble_eq_true rfl) dX6_make_38 (fun r1 σ2 _ => ?_)
    refine g_aload_n C 0 dX6_make_41 rfl rfl ?_
    refine gf_RX6_18 C  dX6_make_42 ?_
    refine g_aload_n C 0 dX6_make_45 rfl rfl ?_
    refine gf_RX6_64 C  (v := gI σ2 1508) dX6_make_46 rfl ?_
    refine g_iconst C 2 dX6_make_49 (by decide) ?_
    refine g_imul C dX6_make_50 ?_
    refine g_iconst C 1 dX6_make_51 (by decide) ?_
    refine g_iadd C dX6_make_52 ?_
    refine g_iload_n C 2 dX6_make_53 rfl rfl ?_
    refine v_x5_put_RX6 C ⟨by decide, by decide⟩ (Nat.le_of_ble_eq_true rfl) dX6_make_54 (fun r3 σ4 _ => ?_)
    refine g_aload_n C 0 dX6_make_57 rfl rfl ?_
    refine gf_RX6_64 C  (v := gI σ4 1508) dX6_make_58 rfl ?_
    exact g_iret C dX6_make_61
  · refine g_aload_n C 0 dX6_make_10 rfl rfl ?_
    refine g_iconst C 3 dX6_make_11 (by decide) ?_
    refine pf_RX6_44 C dX6_make_12 ?_
    refine g_iconst C 0 dX6_make_15 (by decide) ?_
    exact g_iret C dX6_make_16
theorem c_x6_make {Y : Yx} {ad : Nat → Nat} {N : Nat} {σ : St} {a1 : Int32} {a2 : Int32} {r : Int32} {σ' : St} (h : x6_make N σ a1 a2 = some (r, σ')) : Con Y scC ad yX6_make cX6_make 3 (some .int) 1 22 [.ref (ad 15), .int a1, .int a2] σ (outI r) σ' := con_of (by decide) rfl (Nat.le_of_ble_eq_true rfl) rfl (fun X hX C => s_x6_make C N σ a1 a2) h
set_option maxRecDepth 20000 in
theorem v_x6_make_RX6 {X : Cx} {cc : ByteArray} {nL : Nat} {ret : Option FieldType} {fr lo : Nat} {ad : Nat → Nat} {ρ : Type} {out : ρ → Option Value} {pc : Nat} {lv : List (Nat × Value)} {rest : List Value} {σ : St} {N : Nat} {K : Int32 → St → Option (ρ × St)} {a1 : Int32} {a2 : Int32} (C : Ok X cc RX6 nL ret fr lo) (hR : 1 + 1 ≤ fr ∧ 8 + (3 + 11) + 22 ≤ lo) (hcat : (rest.map fun v => v.category).sum ≤ 8) (hdg : decode cc pc = .ok (.invokevirtual 139, 3)) (k : ∀ (r : Int32) (σ' : St), x6_make N σ a1 a2 = some (r, σ') → Sim X scC ad nL out (pc + 3) lv (.int r :: rest) σ' (K r σ')) : Sim X scC ad nL out pc lv (.int a2 :: .int a1 :: .ref (ad 15) :: rest) σ (bd (x6_make N σ a1 a2) K) := g_callV C (out1 := outI) (y := yX6_make) (n := 2) ⟨gw_944, gw_946, gw_39, gw_114, gw_947⟩ (by decide +kernel) hR (o := 15) (ci := 5) (q9 := (RX6, TX6, 16)) im_15 rfl rfl rfl (fun r σ' h => c_x6_make h) rfl rfl hcat hdg k

def x6_makeLoop (N : Nat) (σ : St) : Option (Int32 × St) :=
  bd (x6_make N σ ((gI σ 1508) + 1) ((gI σ 1508) + 1)) (fun r1 σ2 => some (r1, σ2))
set_option maxHeartbeats 4000000 in
set_option maxRecDepth 100000 in
theorem s_x6_makeLoop {X : Cx} {ad : Nat → Nat} (C : Ok X cX6_makeLoop RX6 1 (some .int) 2 44) (N : Nat) (σ : St) : Sim X scC ad 1 outI 0 [(0, .ref (ad 15))] [] σ (x6_makeLoop N σ) := by
  unfold x6_makeLoop
  refine g_aload_n C 0 dX6_makeLoop_0 rfl rfl ?_
  refine g_aload_n C 0 dX6_makeLoop_1 rfl rfl ?_
  refine gf_RX6_64 C  (v := gI σ 1508) dX6_makeLoop_2 rfl ?_
  refine g_iconst C 1 dX6_makeLoop_5 (by decide) ?_
  refine g_iadd C dX6_makeLoop_6 ?_
  refine g_aload_n C 0 dX6_makeLoop_7 rfl rfl ?_
  refine gf_RX6_64 C  (v := gI σ 1508) dX6_makeLoop_8 rfl ?_
  refine g_iconst C 1 dX6_makeLoop_11 (by decide) ?_
  refine g_iadd C dX6_makeLoop_12 ?_
  refine v_x6_make_RX6 C ⟨by decide, by decide⟩ (Nat.le_of_ble_eq_true rfl) dX6_makeLoop_13 (fun r1 σ2 _ => ?_)
  exact g_iret C dX6_makeLoop_16
theorem c_x6_makeLoop {Y : Yx} {ad : Nat → Nat} {N : Nat} {σ : St} {r : Int32} {σ' : St} (h : x6_makeLoop N σ = some (r, σ')) : Con Y scC ad yX6_makeLoop cX6_makeLoop 1 (some .int) 2 44 [.ref (ad 15)] σ (outI r) σ' := con_of (by decide) rfl (Nat.le_of_ble_eq_true rfl) rfl (fun X hX C => s_x6_makeLoop C N σ) h
set_option maxRecDepth 20000 in
theorem v_x6_makeLoop_RX6 {X : Cx} {cc : ByteArray} {nL : Nat} {ret : Option FieldType} {fr lo : Nat} {ad : Nat → Nat} {ρ : Type} {out : ρ → Option Value} {pc : Nat} {lv : List (Nat × Value)} {rest : List Value} {σ : St} {N : Nat} {K : Int32 → St → Option (ρ × St)} (C : Ok X cc RX6 nL ret fr lo) (hR : 2 + 1 ≤ fr ∧ 8 + (1 + 11) + 44 ≤ lo) (hcat : (rest.map fun v => v.category).sum ≤ 8) (hdg : decode cc pc = .ok (.invokevirtual 90, 3)) (k : ∀ (r : Int32) (σ' : St), x6_makeLoop N σ = some (r, σ') → Sim X scC ad nL out (pc + 3) lv (.int r :: rest) σ' (K r σ')) : Sim X scC ad nL out pc lv (.ref (ad 15) :: rest) σ (bd (x6_makeLoop N σ) K) := g_callV C (out1 := outI) (y := yX6_makeLoop) (n := 0) ⟨gw_940, gw_942, gw_38, gw_114, gw_943⟩ (by decide +kernel) hR (o := 15) (ci := 5) (q9 := (RX6, TX6, 16)) im_15 rfl rfl rfl (fun r σ' h => c_x6_makeLoop h) rfl rfl hcat hdg k

def x6_setName (N : Nat) (σ : St) (a1 : Int32) (a2 : Int32) : Option (Unit × St) :=
  bd (x5_put N σ 16 (((gI σ 1513) * 26) + a1) a2) (fun _ σ2 => some ((), σ2))
set_option maxHeartbeats 4000000 in
set_option maxRecDepth 100000 in
theorem s_x6_setName {X : Cx} {ad : Nat → Nat} (C : Ok X cX6_setName RX6 3 none 1 22) (N : Nat) (σ : St) (a1 : Int32) (a2 : Int32) : Sim X scC ad 3 outV 0 [(0, .ref (ad 15)), (1, .int a1), (2, .int a2)] [] σ (x6_setName N σ a1 a2) := by
  unfold x6_setName
  refine g_aload_n C 0 dX6_setName_0 rfl rfl ?_
  refine gf_RX6_11 C  dX6_setName_1 ?_
  refine g_aload_n C 0 dX6_setName_4 rfl rfl ?_
  refine gf_RX6_73 C  (v := gI σ 1513) dX6_setName_5 rfl ?_
  refine g_bipush C 26 dX6_setName_8 (by decide) ?_
  refine g_imul C dX6_setName_10 ?_
  refine g_iload_n C 1 dX6_setName_11 rfl rfl ?_
  refine g_iadd C dX6_setName_12 ?_
  refine g_iload_n C 2 dX6_setName_13 rfl rfl ?_
  refine v_x5_put_RX6 C ⟨by decide, by decide⟩ (Nat.le_of_ble_eq_true rfl) dX6_setName_14 (fun r1 σ2 _ => ?_)
  exact g_vret C dX6_setName_17
theorem c_x6_setName {Y : Yx} {ad : Nat → Nat} {N : Nat} {σ : St} {a1 : Int32} {a2 : Int32} {r : Unit} {σ' : St} (h : x6_setName N σ a1 a2 = some (r, σ')) : Con Y scC ad yX6_setName cX6_setName 3 none 1 22 [.ref (ad 15), .int a1, .int a2] σ (outV r) σ' := con_of (by decide) rfl (Nat.le_of_ble_eq_true rfl) rfl (fun X hX C => s_x6_setName C N σ a1 a2) h
set_option maxRecDepth 20000 in
theorem v_x6_setName_RX6 {X : Cx} {cc : ByteArray} {nL : Nat} {ret : Option FieldType} {fr lo : Nat} {ad : Nat → Nat} {ρ : Type} {out : ρ → Option Value} {pc : Nat} {lv : List (Nat × Value)} {rest : List Value} {σ : St} {N : Nat} {K : Unit → St → Option (ρ × St)} {a1 : Int32} {a2 : Int32} (C : Ok X cc RX6 nL ret fr lo) (hR : 1 + 1 ≤ fr ∧ 8 + (3 + 11) + 22 ≤ lo) (hcat : (rest.map fun v => v.category).sum ≤ 8) (hdg : decode cc pc = .ok (.invokevirtual 93, 3)) (k : ∀ (r : Unit) (σ' : St), x6_setName N σ a1 a2 = some (r, σ') → Sim X scC ad nL out (pc + 3) lv rest σ' (K r σ')) : Sim X scC ad nL out pc lv (.int a2 :: .int a1 :: .ref (ad 15) :: rest) σ (bd (x6_setName N σ a1 a2) K) := g_callV C (out1 := outV) (y := yX6_setName) (n := 2) ⟨gw_948, gw_950, gw_40, gw_114, gw_951⟩ (by decide +kernel) hR (o := 15) (ci := 5) (q9 := (RX6, TX6, 16)) im_15 rfl rfl rfl (fun r σ' h => c_x6_setName h) rfl rfl hcat hdg k

def x6_begin_132 (N : Nat) (σ : St) : Option (Unit × St) :=
  gd (isPr (gP σ 1504)) (bd (x5_at N σ ((gP σ 1504) + 3) (gI σ 701)) (fun r7 σ8 => some ((), (sI σ8 1512 r7))))
def x6_begin_123 (N : Nat) (rec68 : St → Int32 → Int32 → Option (Unit × St)) (σ : St) (x1 : Int32) (x3 : Int32) (t1 : Int32) (t2 : Int32) : Option (Unit × St) :=
  bd (x6_setName N σ t1 t2) (fun _ σ13 => rec68 σ13 x1 (x3 + 1))
def x6_begin_92 (N : Nat) (rec68 : St → Int32 → Int32 → Option (Unit × St)) (σ : St) (x1 : Int32) (x3 : Int32) (t0 : Int32) : Option (Unit × St) :=
  gd (isPr (gP σ 1504)) (bd (x3_parameter N σ (gP σ 1504) (gI σ 701) x3) (fun r10 σ11 => (if t0 = 0 then x6_begin_123 N rec68 σ11 x1 x3 r10 0 else bd (x6_makeLoop N σ11) (fun r14 σ15 => x6_begin_123 N rec68 σ15 x1 x3 r10 r14))))
def x6_begin_68_b (N : Nat) (rec68 : St → Int32 → Int32 → Option (Unit × St)) (σ : St) (x1 : Int32) (x3 : Int32) : Option (Unit × St) :=
  bd (x7_outers N σ) (fun r4 σ5 => (if r4 ≤ x3 then x6_begin_132 N σ5 else (if ((x1 >>> (x3 &&& 31)) &&& 1) = 0 then x6_begin_92 N rec68 σ5 x1 x3 0 else x6_begin_92 N rec68 σ5 x1 x3 1)))
def x6_begin_68 (N : Nat) : Nat → St → Int32 → Int32 → Option (Unit × St)
  | 0 => fun _ _ _ => none
  | n + 1 => fun σ x1 x3 => x6_begin_68_b N (x6_begin_68 N n) σ x1 x3
def x6_begin (N : Nat) (σ : St) (a1 : Int32) (a2 : Int32) : Option (Unit × St) :=
  gd (isPr (gP σ 700)) (bd (x6_clearNames N (sI (sI (sI (sI (sI (sI (sI (sI (sP (sP σ 1504 (gP σ 700)) 1505 ((gP σ 700) + 1)) 1506 a2) 1507 0) 1508 0) 1509 0) 1510 (-1)) 1511 (-1)) 1513 0) 1515 0)) (fun _ σ3 => x6_begin_68 N N σ3 a1 0))
set_option maxHeartbeats 4000000 in
set_option maxRecDepth 100000 in
theorem s_x6_begin_132 {X : Cx} {ad : Nat → Nat} (C : Ok X cX6_begin RX6 5 none 3 64) (N : Nat) (σ : St) : Sim X scC ad 5 outV 132 [(0, .ref (ad 15))] [] σ (x6_begin_132 N σ) := by
  unfold x6_begin_132
  refine g_aload_n C 0 dX6_begin_132 rfl rfl ?_
  refine g_aload_n C 0 dX6_begin_133 rfl rfl ?_
  refine gf_RX6_31 C  (v := gP σ 1504) dX6_begin_134 rfl ?_
  refine g_gd (fun hp6 => ?_)
  refine gf_RX6_96 C hp6 dX6_begin_137 ?_
  refine g_aload_n C 0 dX6_begin_140 rfl rfl ?_
  refine gf_RX6_21 C  dX6_begin_141 ?_
  refine gf_RX6_83 C  (v := gI σ 701) dX6_begin_144 rfl ?_
  refine v_x5_at_RX6 C ⟨by decide, by decide⟩ (Nat.le_of_ble_eq_true rfl) dX6_begin_147 (fun r7 σ8 _ => ?_)
  refine pf_RX6_105 C dX6_begin_150 ?_
  exact g_vret C dX6_begin_153
set_option maxHeartbeats 4000000 in
set_option maxRecDepth 100000 in
theorem s_x6_begin_123 {X : Cx} {ad : Nat → Nat} (C : Ok X cX6_begin RX6 5 none 3 64) (N : Nat) {rec68 : St → Int32 → Int32 → Option (Unit × St)} (hrec68 : ∀ (σ : St) (x1 : Int32) (x3 : Int32), Sim X scC ad 5 outV 68 [(0, .ref (ad 15)), (1, .int x1), (3, .int x3)] [] σ (rec68 σ x1 x3)) (σ : St) (x1 : Int32) (x3 : Int32) (t1 : Int32) (t2 : Int32) : Sim X scC ad 5 outV 123 [(0, .ref (ad 15)), (1, .int x1), (3, .int x3)] [.int t2, .int t1, .ref (ad 15)] σ (x6_begin_123 N rec68 σ x1 x3 t1 t2) := by
  unfold x6_begin_123
  refine v_x6_setName_RX6 C ⟨by decide, by decide⟩ (Nat.le_of_ble_eq_true rfl) dX6_begin_123 (fun r12 σ13 _ => ?_)
  refine g_iinc C (x3 + 1) 2 [(3, .int (x3 + 1)), (0, .ref (ad 15)), (1, .int x1)] dX6_begin_126 rfl rfl (by decide) rfl ?_
  refine g_goto C 68 dX6_begin_129 (by decide) ?_
  exact g_sub [1, 2, 0] rfl (hrec68 σ13 x1 (x3 + 1))
set_option maxHeartbeats 4000000 in
set_option maxRecDepth 100000 in
theorem s_x6_begin_92 {X : Cx} {ad : Nat → Nat} (C : Ok X cX6_begin RX6 5 none 3 64) (N : Nat) {rec68 : St → Int32 → Int32 → Option (Unit × St)} (hrec68 : ∀ (σ : St) (x1 : Int32) (x3 : Int32), Sim X scC ad 5 outV 68 [(0, .ref (ad 15)), (1, .int x1), (3, .int x3)] [] σ (rec68 σ x1 x3)) (σ : St) (x1 : Int32) (x3 : Int32) (t0 : Int32) : Sim X scC ad 5 outV 92 [(0, .ref (ad 15)), (1, .int x1), (3, .int x3)] [.int t0] σ (x6_begin_92 N rec68 σ x1 x3 t0) := by
  unfold x6_begin_92
  refine g_istore C [(4, .int t0), (0, .ref (ad 15)), (1, .int x1), (3, .int x3)] dX6_begin_92 (by decide) rfl ?_
  refine g_aload_n C 1 dX6_begin_94 rfl rfl ?_
  refine g_aload_n C 1 dX6_begin_95 rfl rfl ?_
  refine gf_RX6_31 C  (v := gP σ 1504) dX6_begin_96 rfl ?_
  refine g_aload_n C 1 dX6_begin_99 rfl rfl ?_
  refine gf_RX6_21 C  dX6_begin_100 ?_
  refine gf_RX6_83 C  (v := gI σ 701) dX6_begin_103 rfl ?_
  refine g_iload_n C 3 dX6_begin_106 rfl rfl ?_
  refine g_gd (fun hp9 => ?_)
  refine v_x3_parameter_RX6 C hp9 ⟨by decide, by decide⟩ (Nat.le_of_ble_eq_true rfl) dX6_begin_107 (fun r10 σ11 _ => ?_)
  refine g_iload C 0 dX6_begin_110 rfl ?_
  refine g_if_eq C 122 dX6_begin_112 (by decide) ?_ ?_
  · refine g_iconst C 0 dX6_begin_122 (by decide) ?_
    exact g_sub [1, 2, 3] rfl (s_x6_begin_123 C N hrec68 σ11 x1 x3 r10 0)
  · refine g_aload_n C 1 dX6_begin_115 rfl rfl ?_
    refine v_x6_makeLoop_RX6 C ⟨by decide, by decide⟩ (Nat.le_of_ble_eq_true rfl) dX6_begin_116 (fun r14 σ15 _ => ?_)
    refine g_goto C 123 dX6_begin_119 (by decide) ?_
    exact g_sub [1, 2, 3] rfl (s_x6_begin_123 C N hrec68 σ15 x1 x3 r10 r14)
set_option maxHeartbeats 4000000 in
set_option maxRecDepth 100000 in
theorem s_x6_begin_68_b {X : Cx} {ad : Nat → Nat} (C : Ok X cX6_begin RX6 5 none 3 64) (N : Nat) {rec68 : St → Int32 → Int32 → Option (Unit × St)} (hrec68 : ∀ (σ : St) (x1 : Int32) (x3 : Int32), Sim X scC ad 5 outV 68 [(0, .ref (ad 15)), (1, .int x1), (3, .int x3)] [] σ (rec68 σ x1 x3)) (σ : St) (x1 : Int32) (x3 : Int32) : Sim X scC ad 5 outV 68 [(0, .ref (ad 15)), (1, .int x1), (3, .int x3)] [] σ (x6_begin_68_b N rec68 σ x1 x3) := by
  unfold x6_begin_68_b
  refine g_iload_n C 2 dX6_begin_68 rfl rfl ?_
  refine g_aload_n C 0 dX6_begin_69 rfl rfl ?_
  refine gf_RX6_21 C  dX6_begin_70 ?_
  refine v_x7_outers_RX6 C ⟨by decide, by decide⟩ (Nat.le_of_ble_eq_true rfl) dX6_begin_73 (fun r4 σ5 _ => ?_)
  refine g_icmp_ge C 132 dX6_begin_76 (by decide) ?_ ?_
  · exact g_sub [0] rfl (s_x6_begin_132 C N σ5)
  · refine g_iload_n C 1 dX6_begin_79 rfl rfl ?_
    refine g_iload_n C 2 dX6_begin_80 rfl rfl ?_
    refine g_ishr C dX6_begin_81 ?_
    refine g_iconst C 1 dX6_begin_82 (by decide) ?_
    refine g_iand C dX6_begin_83 ?_
    refine g_if_eq C 91 dX6_begin_84 (by decide) ?_ ?_
    · refine g_iconst C 0 dX6_begin_91 (by decide) ?_
      exact g_sub [0, 1, 2] rfl (s_x6_begin_92 C N hrec68 σ5 x1 x3 0)
    · refine g_iconst C 1 dX6_begin_87 (by decide) ?_
      refine g_goto C 92 dX6_begin_88 (by decide) ?_
      exact g_sub [0, 1, 2] rfl (s_x6_begin_92 C N hrec68 σ5 x1 x3 1)
set_option maxHeartbeats 4000000 in
set_option maxRecDepth 100000 in
theorem s_x6_begin_68 {X : Cx} {ad : Nat → Nat} (C : Ok X cX6_begin RX6 5 none 3 64) (N : Nat) : ∀ (n : Nat) (σ : St) (x1 : Int32) (x3 : Int32), Sim X scC ad 5 outV 68 [(0, .ref (ad 15)), (1, .int x1), (3, .int x3)] [] σ (x6_begin_68 N n σ x1 x3) := by
  intro n
  induction n with
  | zero => intro σ x1 x3; exact g_none
  | succ n ih => intro σ x1 x3; exact s_x6_begin_68_b C N ih σ x1 x3
set_option maxHeartbeats 4000000 in
set_option maxRecDepth 100000 in
theorem s_x6_begin {X : Cx} {ad : Nat → Nat} (C : Ok X cX6_begin RX6 5 none 3 64) (N : Nat) (σ : St) (a1 : Int32) (a2 : Int32) : Sim X scC ad 5 outV 0 [(0, .ref (ad 15)), (1, .int a1), (2, .int a2)] [] σ (x6_begin N σ a1 a2) := by
  unfold x6_begin
  refine g_aload_n C 0 dX6_begin_0 rfl rfl ?_
  refine g_aload_n C 0 dX6_begin_1 rfl rfl ?_
  refine gf_RX6_21 C  dX6_begin_2 ?_
  refine gf_RX6_25 C  (v := gP σ 700) dX6_begin_5 rfl ?_
  refine pf_RX6_31 C dX6_begin_8 ?_
  refine g_aload_n C 0 dX6_begin_11 rfl rfl ?_
  refine g_aload_n C 0 dX6_begin_12 rfl rfl ?_
  refine gf_RX6_31 C  (v := gP σ 700) dX6_begin_13 rfl ?_
  refine g_gd (fun hp1 => ?_)
  refine gf_RX6_32 C hp1 dX6_begin_16 ?_
  refine pf_RX6_38 C dX6_begin_19 ?_
  refine g_aload_n C 0 dX6_begin_22 rfl rfl ?_
  refine g_iload_n C 2 dX6_begin_23 rfl rfl ?_
  refine pf_RX6_58 C dX6_begin_24 ?_
  refine g_aload_n C 0 dX6_begin_27 rfl rfl ?_
  refine g_iconst C 0 dX6_begin_28 (by decide) ?_
  refine pf_RX6_61 C dX6_begin_29 ?_
  refine g_aload_n C 0 dX6_begin_32 rfl rfl ?_
  refine g_iconst C 0 dX6_begin_33 (by decide) ?_
  refine pf_RX6_64 C dX6_begin_34 ?_
  refine g_aload_n C 0 dX6_begin_37 rfl rfl ?_
  refine g_iconst C 0 dX6_begin_38 (by decide) ?_
  refine pf_RX6_67 C dX6_begin_39 ?_
  refine g_aload_n C 0 dX6_begin_42 rfl rfl ?_
  refine g_iconst C (-1) dX6_begin_43 (by decide) ?_
  refine pf_RX6_70 C dX6_begin_44 ?_
  refine g_aload_n C 0 dX6_begin_47 rfl rfl ?_
  refine g_iconst C (-1) dX6_begin_48 (by decide) ?_
  refine pf_RX6_44 C dX6_begin_49 ?_
  refine g_aload_n C 0 dX6_begin_52 rfl rfl ?_
  refine g_iconst C 0 dX6_begin_53 (by decide) ?_
  refine pf_RX6_73 C dX6_begin_54 ?_
  refine g_aload_n C 0 dX6_begin_57 rfl rfl ?_
  refine g_iconst C 0 dX6_begin_58 (by decide) ?_
  refine pf_RX6_48 C rfl dX6_begin_59 ?_
  refine g_aload_n C 0 dX6_begin_62 rfl rfl ?_
  refine v_x6_clearNames_RX6 C ⟨by decide, by decide⟩ (Nat.le_of_ble_eq_true rfl) dX6_begin_63 (fun r2 σ3 _ => ?_)
  refine g_iconst C 0 dX6_begin_66 (by decide) ?_
  refine g_istore_n C [(3, .int 0), (0, .ref (ad 15)), (1, .int a1), (2, .int a2)] dX6_begin_67 rfl (by decide) rfl ?_
  exact g_sub [1, 2, 0] rfl (s_x6_begin_68 C N N σ3 a1 0)
theorem c_x6_begin {Y : Yx} {ad : Nat → Nat} {N : Nat} {σ : St} {a1 : Int32} {a2 : Int32} {r : Unit} {σ' : St} (h : x6_begin N σ a1 a2 = some (r, σ')) : Con Y scC ad yX6_begin cX6_begin 5 none 3 64 [.ref (ad 15), .int a1, .int a2] σ (outV r) σ' := con_of (by decide) rfl (Nat.le_of_ble_eq_true rfl) rfl (fun X hX C => s_x6_begin C N σ a1 a2) h
set_option maxRecDepth 20000 in
theorem v_x6_begin_RX6 {X : Cx} {cc : ByteArray} {nL : Nat} {ret : Option FieldType} {fr lo : Nat} {ad : Nat → Nat} {ρ : Type} {out : ρ → Option Value} {pc : Nat} {lv : List (Nat × Value)} {rest : List Value} {σ : St} {N : Nat} {K : Unit → St → Option (ρ × St)} {a1 : Int32} {a2 : Int32} (C : Ok X cc RX6 nL ret fr lo) (hR : 3 + 1 ≤ fr ∧ 8 + (5 + 11) + 64 ≤ lo) (hcat : (rest.map fun v => v.category).sum ≤ 8) (hdg : decode cc pc = .ok (.invokevirtual 39, 3)) (k : ∀ (r : Unit) (σ' : St), x6_begin N σ a1 a2 = some (r, σ') → Sim X scC ad nL out (pc + 3) lv rest σ' (K r σ')) : Sim X scC ad nL out pc lv (.int a2 :: .int a1 :: .ref (ad 15) :: rest) σ (bd (x6_begin N σ a1 a2) K) := g_callV C (out1 := outV) (y := yX6_begin) (n := 2) ⟨gw_929, gw_931, gw_36, gw_114, gw_932⟩ (by decide +kernel) hR (o := 15) (ci := 5) (q9 := (RX6, TX6, 16)) im_15 rfl rfl rfl (fun r σ' h => c_x6_begin h) rfl rfl hcat hdg k

def x6_leave (N : Nat) (σ : St) (a1 : Int32) : Option (Unit × St) :=
  (if (gI σ 1513) = 0 then (if a1 = 0 then some ((), (sI σ 1511 0)) else some ((), (sI σ 1511 1))) else bd (x5_at N (sI σ 1513 ((gI σ 1513) - 1)) 17 ((gI σ 1513) - 1)) (fun r1 σ2 => some ((), (sI (sI (sI σ2 1512 r1) 1514 a1) 1515 1))))
set_option maxHeartbeats 4000000 in
set_option maxRecDepth 100000 in
theorem s_x6_leave {X : Cx} {ad : Nat → Nat} (C : Ok X cX6_leave RX6 2 none 1 21) (N : Nat) (σ : St) (a1 : Int32) : Sim X scC ad 2 outV 0 [(0, .ref (ad 15)), (1, .int a1)] [] σ (x6_leave N σ a1) := by
  unfold x6_leave
  refine g_aload_n C 0 dX6_leave_0 rfl rfl ?_
  refine gf_RX6_73 C  (v := gI σ 1513) dX6_leave_1 rfl ?_
  refine g_if_ne C 21 dX6_leave_4 (by decide) ?_ ?_
  · refine g_aload_n C 0 dX6_leave_21 rfl rfl ?_
    refine g_dup C dX6_leave_22 rfl ?_
    refine gf_RX6_73 C  (v := gI σ 1513) dX6_leave_23 rfl ?_
    refine g_iconst C 1 dX6_leave_26 (by decide) ?_
    refine g_isub C dX6_leave_27 ?_
    refine pf_RX6_73 C dX6_leave_28 ?_
    refine g_aload_n C 0 dX6_leave_31 rfl rfl ?_
    refine g_aload_n C 0 dX6_leave_32 rfl rfl ?_
    refine gf_RX6_15 C  dX6_leave_33 ?_
    refine g_aload_n C 0 dX6_leave_36 rfl rfl ?_
    refine gf_RX6_73 C  (v := (gI σ 1513) - 1) dX6_leave_37 rfl ?_
    refine v_x5_at_RX6 C ⟨by decide, by decide⟩ (Nat.le_of_ble_eq_true rfl) dX6_leave_40 (fun r1 σ2 _ => ?_)
    refine pf_RX6_105 C dX6_leave_43 ?_
    refine g_aload_n C 0 dX6_leave_46 rfl rfl ?_
    refine g_iload_n C 1 dX6_leave_47 rfl rfl ?_
    refine pf_RX6_136 C dX6_leave_48 ?_
    refine g_aload_n C 0 dX6_leave_51 rfl rfl ?_
    refine g_iconst C 1 dX6_leave_52 (by decide) ?_
    refine pf_RX6_48 C rfl dX6_leave_53 ?_
    exact g_vret C dX6_leave_56
  · refine g_aload_n C 0 dX6_leave_7 rfl rfl ?_
    refine g_iload_n C 1 dX6_leave_8 rfl rfl ?_
    refine g_if_ne C 16 dX6_leave_9 (by decide) ?_ ?_
    · refine g_iconst C 1 dX6_leave_16 (by decide) ?_
      refine pf_RX6_44 C dX6_leave_17 ?_
      exact g_vret C dX6_leave_20
    · refine g_iconst C 0 dX6_leave_12 (by decide) ?_
      refine g_goto C 17 dX6_leave_13 (by decide) ?_
      refine pf_RX6_44 C dX6_leave_17 ?_
      exact g_vret C dX6_leave_20
theorem c_x6_leave {Y : Yx} {ad : Nat → Nat} {N : Nat} {σ : St} {a1 : Int32} {r : Unit} {σ' : St} (h : x6_leave N σ a1 = some (r, σ')) : Con Y scC ad yX6_leave cX6_leave 2 none 1 21 [.ref (ad 15), .int a1] σ (outV r) σ' := con_of (by decide) rfl (Nat.le_of_ble_eq_true rfl) rfl (fun X hX C => s_x6_leave C N σ a1) h
set_option maxRecDepth 20000 in
theorem v_x6_leave_RX6 {X : Cx} {cc : ByteArray} {nL : Nat} {ret : Option FieldType} {fr lo : Nat} {ad : Nat → Nat} {ρ : Type} {out : ρ → Option Value} {pc : Nat} {lv : List (Nat × Value)} {rest : List Value} {σ : St} {N : Nat} {K : Unit → St → Option (ρ × St)} {a1 : Int32} (C : Ok X cc RX6 nL ret fr lo) (hR : 1 + 1 ≤ fr ∧ 8 + (2 + 11) + 21 ≤ lo) (hcat : (rest.map fun v => v.category).sum ≤ 8) (hdg : decode cc pc = .ok (.invokevirtual 113, 3)) (k : ∀ (r : Unit) (σ' : St), x6_leave N σ a1 = some (r, σ') → Sim X scC ad nL out (pc + 3) lv rest σ' (K r σ')) : Sim X scC ad nL out pc lv (.int a1 :: .ref (ad 15) :: rest) σ (bd (x6_leave N σ a1) K) := g_callV C (out1 := outV) (y := yX6_leave) (n := 1) ⟨gw_959, gw_961, gw_42, gw_114, gw_962⟩ (by decide +kernel) hR (o := 15) (ci := 5) (q9 := (RX6, TX6, 16)) im_15 rfl rfl rfl (fun r σ' h => c_x6_leave h) rfl rfl hcat hdg k

def x6_nameOf (N : Nat) (σ : St) (a1 : Int32) : Option (Int32 × St) :=
  bd (x5_at N σ 16 (((gI σ 1513) * 26) + a1)) (fun r1 σ2 => some (r1, σ2))
set_option maxHeartbeats 4000000 in
set_option maxRecDepth 100000 in
theorem s_x6_nameOf {X : Cx} {ad : Nat → Nat} (C : Ok X cX6_nameOf RX6 2 (some .int) 1 21) (N : Nat) (σ : St) (a1 : Int32) : Sim X scC ad 2 outI 0 [(0, .ref (ad 15)), (1, .int a1)] [] σ (x6_nameOf N σ a1) := by
  unfold x6_nameOf
  refine g_aload_n C 0 dX6_nameOf_0 rfl rfl ?_
  refine gf_RX6_11 C  dX6_nameOf_1 ?_
  refine g_aload_n C 0 dX6_nameOf_4 rfl rfl ?_
  refine gf_RX6_73 C  (v := gI σ 1513) dX6_nameOf_5 rfl ?_
  refine g_bipush C 26 dX6_nameOf_8 (by decide) ?_
  refine g_imul C dX6_nameOf_10 ?_
  refine g_iload_n C 1 dX6_nameOf_11 rfl rfl ?_
  refine g_iadd C dX6_nameOf_12 ?_
  refine v_x5_at_RX6 C ⟨by decide, by decide⟩ (Nat.le_of_ble_eq_true rfl) dX6_nameOf_13 (fun r1 σ2 _ => ?_)
  exact g_iret C dX6_nameOf_16
theorem c_x6_nameOf {Y : Yx} {ad : Nat → Nat} {N : Nat} {σ : St} {a1 : Int32} {r : Int32} {σ' : St} (h : x6_nameOf N σ a1 = some (r, σ')) : Con Y scC ad yX6_nameOf cX6_nameOf 2 (some .int) 1 21 [.ref (ad 15), .int a1] σ (outI r) σ' := con_of (by decide) rfl (Nat.le_of_ble_eq_true rfl) rfl (fun X hX C => s_x6_nameOf C N σ a1) h
set_option maxRecDepth 20000 in
theorem v_x6_nameOf_RX6 {X : Cx} {cc : ByteArray} {nL : Nat} {ret : Option FieldType} {fr lo : Nat} {ad : Nat → Nat} {ρ : Type} {out : ρ → Option Value} {pc : Nat} {lv : List (Nat × Value)} {rest : List Value} {σ : St} {N : Nat} {K : Int32 → St → Option (ρ × St)} {a1 : Int32} (C : Ok X cc RX6 nL ret fr lo) (hR : 1 + 1 ≤ fr ∧ 8 + (2 + 11) + 21 ≤ lo) (hcat : (rest.map fun v => v.category).sum ≤ 8) (hdg : decode cc pc = .ok (.invokevirtual 127, 3)) (k : ∀ (r : Int32) (σ' : St), x6_nameOf N σ a1 = some (r, σ') → Sim X scC ad nL out (pc + 3) lv (.int r :: rest) σ' (K r σ')) : Sim X scC ad nL out pc lv (.int a1 :: .ref (ad 15) :: rest) σ (bd (x6_nameOf N σ a1) K) := g_callV C (out1 := outI) (y := yX6_nameOf) (n := 1) ⟨gw_963, gw_965, gw_43, gw_114, gw_966⟩ (by decide +kernel) hR (o := 15) (ci := 5) (q9 := (RX6, TX6, 16)) im_15 rfl rfl rfl (fun r σ' h => c_x6_nameOf h) rfl rfl hcat hdg k

def x6_store (N : Nat) (σ : St) (a1 : Int32) : Option (Unit × St) :=
  (if a1 = 0 then gd (isCd (gP σ 1505)) (bd (x0_get N (sI σ 1511 2) (gP σ 1505) (gI σ 1512) 3) (fun r7 σ8 => some ((), (sI σ8 1510 r7)))) else gd (isCd (gP σ 1505)) (bd (x0_get N σ (gP σ 1505) (gI σ 1512) 2) (fun r2 σ3 => bd (x5_put N σ3 18 ((a1 * 2) + r2) (gI σ3 1514)) (fun _ σ5 => some ((), σ5)))))
set_option maxHeartbeats 4000000 in
set_option maxRecDepth 100000 in
theorem s_x6_store {X : Cx} {ad : Nat → Nat} (C : Ok X cX6_store RX6 2 none 1 23) (N : Nat) (σ : St) (a1 : Int32) : Sim X scC ad 2 outV 0 [(0, .ref (ad 15)), (1, .int a1)] [] σ (x6_store N σ a1) := by
  unfold x6_store
  refine g_iload_n C 1 dX6_store_0 rfl rfl ?_
  refine g_if_ne C 26 dX6_store_1 (by decide) ?_ ?_
  · refine g_aload_n C 0 dX6_store_26 rfl rfl ?_
    refine gf_RX6_18 C  dX6_store_27 ?_
    refine g_iload_n C 1 dX6_store_30 rfl rfl ?_
    refine g_iconst C 2 dX6_store_31 (by decide) ?_
    refine g_imul C dX6_store_32 ?_
    refine g_aload_n C 0 dX6_store_33 rfl rfl ?_
    refine gf_RX6_38 C  (v := gP σ 1505) dX6_store_34 rfl ?_
    refine g_aload_n C 0 dX6_store_37 rfl rfl ?_
    refine gf_RX6_105 C  (v := gI σ 1512) dX6_store_38 rfl ?_
    refine g_iconst C 2 dX6_store_41 (by decide) ?_
    refine g_gd (fun hp1 => ?_)
    refine v_x0_get_RX6 C hp1 ⟨by decide, by decide⟩ (Nat.le_of_ble_eq_true rfl) dX6_store_42 (fun r2 σ3 _ => ?_)
    refine g_iadd C dX6_store_45 ?_
    refine g_aload_n C 0 dX6_store_46 rfl rfl ?_
    refine gf_RX6_136 C  (v := gI σ3 1514) dX6_store_47 rfl ?_
    refine v_x5_put_RX6 C ⟨by decide, by decide⟩ (Nat.le_of_ble_eq_true rfl) dX6_store_50 (fun r4 σ5 _ => ?_)
    exact g_vret C dX6_store_53
  · refine g_aload_n C 0 dX6_store_4 rfl rfl ?_
    refine g_iconst C 2 dX6_store_5 (by decide) ?_
    refine pf_RX6_44 C dX6_store_6 ?_
    refine g_aload_n C 0 dX6_store_9 rfl rfl ?_
    refine g_aload_n C 0 dX6_store_10 rfl rfl ?_
    refine gf_RX6_38 C  (v := gP σ 1505) dX6_store_11 rfl ?_
    refine g_aload_n C 0 dX6_store_14 rfl rfl ?_
    refine gf_RX6_105 C  (v := gI σ 1512) dX6_store_15 rfl ?_
    refine g_iconst C 3 dX6_store_18 (by decide) ?_
    refine g_gd (fun hp6 => ?_)
    refine v_x0_get_RX6 C hp6 ⟨by decide, by decide⟩ (Nat.le_of_ble_eq_true rfl) dX6_store_19 (fun r7 σ8 _ => ?_)
    refine pf_RX6_70 C dX6_store_22 ?_
    exact g_vret C dX6_store_25
theorem c_x6_store {Y : Yx} {ad : Nat → Nat} {N : Nat} {σ : St} {a1 : Int32} {r : Unit} {σ' : St} (h : x6_store N σ a1 = some (r, σ')) : Con Y scC ad yX6_store cX6_store 2 none 1 23 [.ref (ad 15), .int a1] σ (outV r) σ' := con_of (by decide) rfl (Nat.le_of_ble_eq_true rfl) rfl (fun X hX C => s_x6_store C N σ a1) h
set_option maxRecDepth 20000 in
theorem v_x6_store_RX6 {X : Cx} {cc : ByteArray} {nL : Nat} {ret : Option FieldType} {fr lo : Nat} {ad : Nat → Nat} {ρ : Type} {out : ρ → Option Value} {pc : Nat} {lv : List (Nat × Value)} {rest : List Value} {σ : St} {N : Nat} {K : Unit → St → Option (ρ × St)} {a1 : Int32} (C : Ok X cc RX6 nL ret fr lo) (hR : 1 + 1 ≤ fr ∧ 8 + (2 + 11) + 23 ≤ lo) (hcat : (rest.map fun v => v.category).sum ≤ 8) (hdg : decode cc pc = .ok (.invokevirtual 148, 3)) (k : ∀ (r : Unit) (σ' : St), x6_store N σ a1 = some (r, σ') → Sim X scC ad nL out (pc + 3) lv rest σ' (K r σ')) : Sim X scC ad nL out pc lv (.int a1 :: .ref (ad 15) :: rest) σ (bd (x6_store N σ a1) K) := g_callV C (out1 := outV) (y := yX6_store) (n := 1) ⟨gw_967, gw_969, gw_44, gw_114, gw_970⟩ (by decide +kernel) hR (o := 15) (ci := 5) (q9 := (RX6, TX6, 16)) im_15 rfl rfl rfl (fun r σ' h => c_x6_store h) rfl rfl hcat hdg k

def x6_finish (N : Nat) (σ : St) : Option (Unit × St) :=
  gd (isCd (gP σ 1505)) (bd (x0_get N (sI σ 1515 0) (gP σ 1505) (gI σ 1512) 1) (fun r2 σ3 => gd (isCd (gP σ3 1505)) (bd (x0_get N σ3 (gP σ3 1505) (gI σ3 1512) 0) (fun r5 σ6 => (if r5 = 6 then bd (x6_leave N σ6 (gI σ6 1514)) (fun _ σ14 => some ((), σ14)) else (if r5 = 3 then bd (x6_setName N σ6 r2 (gI σ6 1514)) (fun _ σ12 => some ((), (sI σ12 1512 ((gI σ12 1512) + 1)))) else (if r5 = 4 then bd (x6_nameOf N σ6 r2) (fun r7 σ8 => bd (x6_store N σ8 r7) (fun _ σ10 => some ((), (sI σ10 1512 ((gI σ10 1512) + 1))))) else some ((), (sI σ6 1512 ((gI σ6 1512) + 1))))))))))
set_option maxHeartbeats 4000000 in
set_option maxRecDepth 100000 in
theorem s_x6_finish {X : Cx} {ad : Nat → Nat} (C : Ok X cX6_finish RX6 3 none 2 44) (N : Nat) (σ : St) : Sim X scC ad 3 outV 0 [(0, .ref (ad 15))] [] σ (x6_finish N σ) := by
  unfold x6_finish
  refine g_aload_n C 0 dX6_finish_0 rfl rfl ?_
  refine g_iconst C 0 dX6_finish_1 (by decide) ?_
  refine pf_RX6_48 C rfl dX6_finish_2 ?_
  refine g_aload_n C 0 dX6_finish_5 rfl rfl ?_
  refine gf_RX6_38 C  (v := gP σ 1505) dX6_finish_6 rfl ?_
  refine g_aload_n C 0 dX6_finish_9 rfl rfl ?_
  refine gf_RX6_105 C  (v := gI σ 1512) dX6_finish_10 rfl ?_
  refine g_iconst C 1 dX6_finish_13 (by decide) ?_
  refine g_gd (fun hp1 => ?_)
  refine v_x0_get_RX6 C hp1 ⟨by decide, by decide⟩ (Nat.le_of_ble_eq_true rfl) dX6_finish_14 (fun r2 σ3 _ => ?_)
  refine g_istore_n C [(1, .int r2), (0, .ref (ad 15))] dX6_finish_17 rfl (by decide) rfl ?_
  refine g_aload_n C 1 dX6_finish_18 rfl rfl ?_
  refine gf_RX6_38 C  (v := gP σ3 1505) dX6_finish_19 rfl ?_
  refine g_aload_n C 1 dX6_finish_22 rfl rfl ?_
  refine gf_RX6_105 C  (v := gI σ3 1512) dX6_finish_23 rfl ?_
  refine g_iconst C 0 dX6_finish_26 (by decide) ?_
  refine g_gd (fun hp4 => ?_)
  refine v_x0_get_RX6 C hp4 ⟨by decide, by decide⟩ (Nat.le_of_ble_eq_true rfl) dX6_finish_27 (fun r5 σ6 _ => ?_)
  refine g_istore_n C [(2, .int r5), (1, .int r2), (0, .ref (ad 15))] dX6_finish_30 rfl (by decide) rfl ?_
  refine g_iload_n C 0 dX6_finish_31 rfl rfl ?_
  refine g_bipush C 6 dX6_finish_32 (by decide) ?_
  refine g_icmp_ne C 46 dX6_finish_34 (by decide) ?_ ?_
  · refine g_iload_n C 0 dX6_finish_46 rfl rfl ?_
    refine g_iconst C 3 dX6_finish_47 (by decide) ?_
    refine g_icmp_ne C 63 dX6_finish_48 (by decide) ?_ ?_
    · refine g_iload_n C 0 dX6_finish_63 rfl rfl ?_
      refine g_iconst C 4 dX6_finish_64 (by decide) ?_
      refine g_icmp_ne C 77 dX6_finish_65 (by decide) ?_ ?_
      · refine g_aload_n C 2 dX6_finish_77 rfl rfl ?_
        refine g_dup C dX6_finish_78 rfl ?_
        refine gf_RX6_105 C  (v := gI σ6 1512) dX6_finish_79 rfl ?_
        refine g_iconst C 1 dX6_finish_82 (by decide) ?_
        refine g_iadd C dX6_finish_83 ?_
        refine pf_RX6_105 C dX6_finish_84 ?_
        exact g_vret C dX6_finish_87
      · refine g_aload_n C 2 dX6_finish_68 rfl rfl ?_
        refine g_aload_n C 2 dX6_finish_69 rfl rfl ?_
        refine g_iload_n C 1 dX6_finish_70 rfl rfl ?_
        refine v_x6_nameOf_RX6 C ⟨by decide, by decide⟩ (Nat.le_of_ble_eq_true rfl) dX6_finish_71 (fun r7 σ8 _ => ?_)
        refine v_x6_store_RX6 C ⟨by decide, by decide⟩ (Nat.le_of_ble_eq_true rfl) dX6_finish_74 (fun r9 σ10 _ => ?_)
        refine g_aload_n C 2 dX6_finish_77 rfl rfl ?_
        refine g_dup C dX6_finish_78 rfl ?_
        refine gf_RX6_105 C  (v := gI σ10 1512) dX6_finish_79 rfl ?_
        refine g_iconst C 1 dX6_finish_82 (by decide) ?_
        refine g_iadd C dX6_finish_83 ?_
        refine pf_RX6_105 C dX6_finish_84 ?_
        exact g_vret C dX6_finish_87
    · refine g_aload_n C 2 dX6_finish_51 rfl rfl ?_
      refine g_iload_n C 1 dX6_finish_52 rfl rfl ?_
      refine g_aload_n C 2 dX6_finish_53 rfl rfl ?_
      refine gf_RX6_136 C  (v := gI σ6 1514) dX6_finish_54 rfl ?_
      refine v_x6_setName_RX6 C ⟨by decide, by decide⟩ (Nat.le_of_ble_eq_true rfl) dX6_finish_57 (fun r11 σ12 _ => ?_)
      refine g_goto C 77 dX6_finish_60 (by decide) ?_
      refine g_aload_n C 2 dX6_finish_77 rfl rfl ?_
      refine g_dup C dX6_finish_78 rfl ?_
      refine gf_RX6_105 C  (v := gI σ12 1512) dX6_finish_79 rfl ?_
      refine g_iconst C 1 dX6_finish_82 (by decide) ?_
      refine g_iadd C dX6_finish_83 ?_
      refine pf_RX6_105 C dX6_finish_84 ?_
      exact g_vret C dX6_finish_87
  · refine g_aload_n C 2 dX6_finish_37 rfl rfl ?_
    refine g_aload_n C 2 dX6_finish_38 rfl rfl ?_
    refine gf_RX6_136 C  (v := gI σ6 1514) dX6_finish_39 rfl ?_
    refine v_x6_leave_RX6 C ⟨by decide, by decide⟩ (Nat.le_of_ble_eq_true rfl) dX6_finish_42 (fun r13 σ14 _ => ?_)
    exact g_vret C dX6_finish_45
theorem c_x6_finish {Y : Yx} {ad : Nat → Nat} {N : Nat} {σ : St} {r : Unit} {σ' : St} (h : x6_finish N σ = some (r, σ')) : Con Y scC ad yX6_finish cX6_finish 3 none 2 44 [.ref (ad 15)] σ (outV r) σ' := con_of (by decide) rfl (Nat.le_of_ble_eq_true rfl) rfl (fun X hX C => s_x6_finish C N σ) h
set_option maxRecDepth 20000 in
theorem v_x6_finish_RX6 {X : Cx} {cc : ByteArray} {nL : Nat} {ret : Option FieldType} {fr lo : Nat} {ad : Nat → Nat} {ρ : Type} {out : ρ → Option Value} {pc : Nat} {lv : List (Nat × Value)} {rest : List Value} {σ : St} {N : Nat} {K : Unit → St → Option (ρ × St)} (C : Ok X cc RX6 nL ret fr lo) (hR : 2 + 1 ≤ fr ∧ 8 + (3 + 11) + 44 ≤ lo) (hcat : (rest.map fun v => v.category).sum ≤ 8) (hdg : decode cc pc = .ok (.invokevirtual 52, 3)) (k : ∀ (r : Unit) (σ' : St), x6_finish N σ = some (r, σ') → Sim X scC ad nL out (pc + 3) lv rest σ' (K r σ')) : Sim X scC ad nL out pc lv (.ref (ad 15) :: rest) σ (bd (x6_finish N σ) K) := g_callV C (out1 := outV) (y := yX6_finish) (n := 0) ⟨gw_954, gw_956, gw_41, gw_114, gw_957⟩ (by decide +kernel) hR (o := 15) (ci := 5) (q9 := (RX6, TX6, 16)) im_15 rfl rfl rfl (fun r σ' h => c_x6_finish h) rfl rfl hcat hdg k

def j_floorMod (N : Nat) (σ : St) (a1 : Int32) (a2 : Int32) : Option (Int32 × St) :=
  gd (decide (¬ a2 = 0)) ((if 0 ≤ (a1 ^^^ a2) then some (a1 - a1 / a2 * a2, σ) else (if (a1 - a1 / a2 * a2) = 0 then some (a1 - a1 / a2 * a2, σ) else some ((a1 - a1 / a2 * a2) + a2, σ))))
set_option maxHeartbeats 4000000 in
set_option maxRecDepth 100000 in
theorem s_j_floorMod {X : Cx} {ad : Nat → Nat} (C : Ok X cJ9_floorMod_7cf53 RJ9 3 (some .int) 0 0) (N : Nat) (σ : St) (a1 : Int32) (a2 : Int32) : Sim X scC ad 3 outI 0 [(0, .int a1), (1, .int a2)] [] σ (j_floorMod N σ a1 a2) := by
  unfold j_floorMod
  refine g_iload_n C 0 dJ9_floorMod_7cf53_0 rfl rfl ?_
  refine g_iload_n C 1 dJ9_floorMod_7cf53_1 rfl rfl ?_
  refine g_gd (fun hz1 => ?_)
  refine g_irem C dJ9_floorMod_7cf53_2 (of_decide_eq_true hz1) ?_
  refine g_istore_n C [(2, .int (a1 - a1 / a2 * a2)), (0, .int a1), (1, .int a2)] dJ9_floorMod_7cf53_3 rfl (by decide) rfl ?_
  refine g_iload_n C 1 dJ9_floorMod_7cf53_4 rfl rfl ?_
  refine g_iload_n C 2 dJ9_floorMod_7cf53_5 rfl rfl ?_
  refine g_ixor C dJ9_floorMod_7cf53_6 ?_
  refine g_if_ge C 18 dJ9_floorMod_7cf53_7 (by decide) ?_ ?_
  · refine g_iload_n C 0 dJ9_floorMod_7cf53_18 rfl rfl ?_
    exact g_iret C dJ9_floorMod_7cf53_19
  · refine g_iload_n C 0 dJ9_floorMod_7cf53_10 rfl rfl ?_
    refine g_if_eq C 18 dJ9_floorMod_7cf53_11 (by decide) ?_ ?_
    · refine g_iload_n C 0 dJ9_floorMod_7cf53_18 rfl rfl ?_
      exact g_iret C dJ9_floorMod_7cf53_19
    · refine g_iload_n C 0 dJ9_floorMod_7cf53_14 rfl rfl ?_
      refine g_iload_n C 2 dJ9_floorMod_7cf53_15 rfl rfl ?_
      refine g_iadd C dJ9_floorMod_7cf53_16 ?_
      exact g_iret C dJ9_floorMod_7cf53_17
theorem c_j_floorMod {Y : Yx} {ad : Nat → Nat} {N : Nat} {σ : St} {a1 : Int32} {a2 : Int32} {r : Int32} {σ' : St} (h : j_floorMod N σ a1 a2 = some (r, σ')) : Con Y scC ad yJ9_floorMod_7cf53 cJ9_floorMod_7cf53 3 (some .int) 0 0 [.int a1, .int a2] σ (outI r) σ' := con_ofF (by decide +kernel) rfl (Nat.le_of_ble_eq_true rfl) rfl (fun X hX C => s_j_floorMod C N σ a1 a2) h
set_option maxRecDepth 20000 in
theorem v_j_floorMod_RX6 {X : Cx} {cc : ByteArray} {nL : Nat} {ret : Option FieldType} {fr lo : Nat} {ad : Nat → Nat} {ρ : Type} {out : ρ → Option Value} {pc : Nat} {lv : List (Nat × Value)} {rest : List Value} {σ : St} {N : Nat} {K : Int32 → St → Option (ρ × St)} {a1 : Int32} {a2 : Int32} (C : Ok X cc RX6 nL ret fr lo) (hR : 0 + 1 ≤ fr ∧ 8 + (3 + 11) + 0 ≤ lo) (hcat : (rest.map fun v => v.category).sum ≤ 8) (hdg : decode cc pc = .ok (.invokestatic 131, 3)) (k : ∀ (r : Int32) (σ' : St), j_floorMod N σ a1 a2 = some (r, σ') → Sim X scC ad nL out (pc + 3) lv (.int r :: rest) σ' (K r σ')) : Sim X scC ad nL out pc lv (.int a2 :: .int a1 :: rest) σ (bd (j_floorMod N σ a1 a2) K) := g_callS C (out1 := outI) (y := yJ9_floorMod_7cf53) (n := 2) ⟨gw_983, gw_984, gw_118, gw_985⟩ (by decide +kernel) hR (fun r σ' h => c_j_floorMod h) rfl rfl hcat hdg k

def x6_choose (N : Nat) (σ : St) : Option (Int32 × St) :=
  bd (j_floorMod N σ (gI σ 1509) 8) (fun r1 σ2 => (if (((gI σ2 1506) >>> (r1 &&& 31)) &&& 1) = 0 then some (0, (sI σ2 1509 ((gI σ2 1509) + 1))) else some (1, (sI σ2 1509 ((gI σ2 1509) + 1)))))
set_option maxHeartbeats 4000000 in
set_option maxRecDepth 100000 in
theorem s_x6_choose {X : Cx} {ad : Nat → Nat} (C : Ok X cX6_choose RX6 2 (some .boolean) 1 22) (N : Nat) (σ : St) : Sim X scC ad 2 outI 0 [(0, .ref (ad 15))] [] σ (x6_choose N σ) := by
  unfold x6_choose
  refine g_aload_n C 0 dX6_choose_0 rfl rfl ?_
  refine gf_RX6_67 C  (v := gI σ 1509) dX6_choose_1 rfl ?_
  refine g_bipush C 8 dX6_choose_4 (by decide) ?_
  refine v_j_floorMod_RX6 C ⟨by decide, by decide⟩ (Nat.le_of_ble_eq_true rfl) dX6_choose_6 (fun r1 σ2 _ => ?_)
  refine g_istore_n C [(1, .int r1), (0, .ref (ad 15))] dX6_choose_9 rfl (by decide) rfl ?_
  refine g_aload_n C 1 dX6_choose_10 rfl rfl ?_
  refine g_dup C dX6_choose_11 rfl ?_
  refine gf_RX6_67 C  (v := gI σ2 1509) dX6_choose_12 rfl ?_
  refine g_iconst C 1 dX6_choose_15 (by decide) ?_
  refine g_iadd C dX6_choose_16 ?_
  refine pf_RX6_67 C dX6_choose_17 ?_
  refine g_aload_n C 1 dX6_choose_20 rfl rfl ?_
  refine gf_RX6_58 C  (v := gI σ2 1506) dX6_choose_21 rfl ?_
  refine g_iload_n C 0 dX6_choose_24 rfl rfl ?_
  refine g_ishr C dX6_choose_25 ?_
  refine g_iconst C 1 dX6_choose_26 (by decide) ?_
  refine g_iand C dX6_choose_27 ?_
  refine g_if_eq C 35 dX6_choose_28 (by decide) ?_ ?_
  · refine g_iconst C 0 dX6_choose_35 (by decide) ?_
    exact g_zret C rfl dX6_choose_36
  · refine g_iconst C 1 dX6_choose_31 (by decide) ?_
    refine g_goto C 36 dX6_choose_32 (by decide) ?_
    exact g_zret C rfl dX6_choose_36
theorem c_x6_choose {Y : Yx} {ad : Nat → Nat} {N : Nat} {σ : St} {r : Int32} {σ' : St} (h : x6_choose N σ = some (r, σ')) : Con Y scC ad yX6_choose cX6_choose 2 (some .boolean) 1 22 [.ref (ad 15)] σ (outI r) σ' := con_of (by decide) rfl (Nat.le_of_ble_eq_true rfl) rfl (fun X hX C => s_x6_choose C N σ) h
set_option maxRecDepth 20000 in
theorem v_x6_choose_RX6 {X : Cx} {cc : ByteArray} {nL : Nat} {ret : Option FieldType} {fr lo : Nat} {ad : Nat → Nat} {ρ : Type} {out : ρ → Option Value} {pc : Nat} {lv : List (Nat × Value)} {rest : List Value} {σ : St} {N : Nat} {K : Int32 → St → Option (ρ × St)} (C : Ok X cc RX6 nL ret fr lo) (hR : 1 + 1 ≤ fr ∧ 8 + (2 + 11) + 22 ≤ lo) (hcat : (rest.map fun v => v.category).sum ≤ 8) (hdg : decode cc pc = .ok (.invokevirtual 124, 3)) (k : ∀ (r : Int32) (σ' : St), x6_choose N σ = some (r, σ') → Sim X scC ad nL out (pc + 3) lv (.int r :: rest) σ' (K r σ')) : Sim X scC ad nL out pc lv (.ref (ad 15) :: rest) σ (bd (x6_choose N σ) K) := g_callV C (out1 := outI) (y := yX6_choose) (n := 0) ⟨gw_979, gw_981, gw_47, gw_114, gw_982⟩ (by decide +kernel) hR (o := 15) (ci := 5) (q9 := (RX6, TX6, 16)) im_15 rfl rfl rfl (fun r σ' h => c_x6_choose h) rfl rfl hcat hdg k

def x6_holds_60 (N : Nat) (σ : St) (t0 : Int32) (t1 : Int32) : Option (Int32 × St) :=
  (if t0 = t1 then some (1, σ) else some (0, σ))
def x6_holds_47 (N : Nat) (σ : St) (x1 : Int32) (t0 : Int32) : Option (Int32 × St) :=
  (if x1 = 6 then x6_holds_60 N σ t0 1 else x6_holds_60 N σ t0 0)
def x6_holds (N : Nat) (σ : St) : Option (Int32 × St) :=
  gd (isCd (gP σ 1505)) (bd (x0_get N σ (gP σ 1505) (gI σ 1512) 4) (fun r2 σ3 => (if r2 = 1 then bd (x6_choose N σ3) (fun r9 σ10 => gd (isb r9) (some (r9, σ10))) else gd (isCd (gP σ3 1505)) (bd (x0_get N σ3 (gP σ3 1505) (gI σ3 1512) 1) (fun r5 σ6 => bd (x6_nameOf N σ6 r5) (fun r7 σ8 => (if r7 = 0 then x6_holds_47 N σ8 r2 1 else x6_holds_47 N σ8 r2 0)))))))
set_option maxHeartbeats 4000000 in
set_option maxRecDepth 100000 in
theorem s_x6_holds_60 {X : Cx} {ad : Nat → Nat} (C : Ok X cX6_holds RX6 3 (some .boolean) 2 43) (N : Nat) (σ : St) (t0 : Int32) (t1 : Int32) : Sim X scC ad 3 outI 60 [] [.int t1, .int t0] σ (x6_holds_60 N σ t0 t1) := by
  unfold x6_holds_60
  refine g_icmp_ne C 67 dX6_holds_60 (by decide) ?_ ?_
  · refine g_iconst C 0 dX6_holds_67 (by decide) ?_
    exact g_zret C rfl dX6_holds_68
  · refine g_iconst C 1 dX6_holds_63 (by decide) ?_
    refine g_goto C 68 dX6_holds_64 (by decide) ?_
    exact g_zret C rfl dX6_holds_68
set_option maxHeartbeats 4000000 in
set_option maxRecDepth 100000 in
theorem s_x6_holds_47 {X : Cx} {ad : Nat → Nat} (C : Ok X cX6_holds RX6 3 (some .boolean) 2 43) (N : Nat) (σ : St) (x1 : Int32) (t0 : Int32) : Sim X scC ad 3 outI 47 [(1, .int x1)] [.int t0] σ (x6_holds_47 N σ x1 t0) := by
  unfold x6_holds_47
  refine g_istore_n C [(2, .int t0), (1, .int x1)] dX6_holds_47 rfl (by decide) rfl ?_
  refine g_iload_n C 0 dX6_holds_48 rfl rfl ?_
  refine g_iload_n C 1 dX6_holds_49 rfl rfl ?_
  refine g_bipush C 6 dX6_holds_50 (by decide) ?_
  refine g_icmp_ne C 59 dX6_holds_52 (by decide) ?_ ?_
  · refine g_iconst C 0 dX6_holds_59 (by decide) ?_
    exact g_sub [] rfl (s_x6_holds_60 C N σ t0 0)
  · refine g_iconst C 1 dX6_holds_55 (by decide) ?_
    refine g_goto C 60 dX6_holds_56 (by decide) ?_
    exact g_sub [] rfl (s_x6_holds_60 C N σ t0 1)
set_option maxHeartbeats 4000000 in
set_option maxRecDepth 100000 in
theorem s_x6_holds {X : Cx} {ad : Nat → Nat} (C : Ok X cX6_holds RX6 3 (some .boolean) 2 43) (N : Nat) (σ : St) : Sim X scC ad 3 outI 0 [(0, .ref (ad 15))] [] σ (x6_holds N σ) := by
  unfold x6_holds
  refine g_aload_n C 0 dX6_holds_0 rfl rfl ?_
  refine gf_RX6_38 C  (v := gP σ 1505) dX6_holds_1 rfl ?_
  refine g_aload_n C 0 dX6_holds_4 rfl rfl ?_
  refine gf_RX6_105 C  (v := gI σ 1512) dX6_holds_5 rfl ?_
  refine g_iconst C 4 dX6_holds_8 (by decide) ?_
  refine g_gd (fun hp1 => ?_)
  refine v_x0_get_RX6 C hp1 ⟨by decide, by decide⟩ (Nat.le_of_ble_eq_true rfl) dX6_holds_9 (fun r2 σ3 _ => ?_)
  refine g_istore_n C [(1, .int r2), (0, .ref (ad 15))] dX6_holds_12 rfl (by decide) rfl ?_
  refine g_iload_n C 0 dX6_holds_13 rfl rfl ?_
  refine g_iconst C 1 dX6_holds_14 (by decide) ?_
  refine g_icmp_ne C 23 dX6_holds_15 (by decide) ?_ ?_
  · refine g_aload_n C 1 dX6_holds_23 rfl rfl ?_
    refine g_aload_n C 1 dX6_holds_24 rfl rfl ?_
    refine gf_RX6_38 C  (v := gP σ3 1505) dX6_holds_25 rfl ?_
    refine g_aload_n C 1 dX6_holds_28 rfl rfl ?_
    refine gf_RX6_105 C  (v := gI σ3 1512) dX6_holds_29 rfl ?_
    refine g_iconst C 1 dX6_holds_32 (by decide) ?_
    refine g_gd (fun hp4 => ?_)
    refine v_x0_get_RX6 C hp4 ⟨by decide, by decide⟩ (Nat.le_of_ble_eq_true rfl) dX6_holds_33 (fun r5 σ6 _ => ?_)
    refine v_x6_nameOf_RX6 C ⟨by decide, by decide⟩ (Nat.le_of_ble_eq_true rfl) dX6_holds_36 (fun r7 σ8 _ => ?_)
    refine g_if_ne C 46 dX6_holds_39 (by decide) ?_ ?_
    · refine g_iconst C 0 dX6_holds_46 (by decide) ?_
      exact g_sub [0] rfl (s_x6_holds_47 C N σ8 r2 0)
    · refine g_iconst C 1 dX6_holds_42 (by decide) ?_
      refine g_goto C 47 dX6_holds_43 (by decide) ?_
      exact g_sub [0] rfl (s_x6_holds_47 C N σ8 r2 1)
  · refine g_aload_n C 1 dX6_holds_18 rfl rfl ?_
    refine v_x6_choose_RX6 C ⟨by decide, by decide⟩ (Nat.le_of_ble_eq_true rfl) dX6_holds_19 (fun r9 σ10 _ => ?_)
    refine g_gd (fun hb9 => ?_)
    exact g_zret C (isb_nar hb9) dX6_holds_22
theorem c_x6_holds {Y : Yx} {ad : Nat → Nat} {N : Nat} {σ : St} {r : Int32} {σ' : St} (h : x6_holds N σ = some (r, σ')) : Con Y scC ad yX6_holds cX6_holds 3 (some .boolean) 2 43 [.ref (ad 15)] σ (outI r) σ' := con_of (by decide) rfl (Nat.le_of_ble_eq_true rfl) rfl (fun X hX C => s_x6_holds C N σ) h
set_option maxRecDepth 20000 in
theorem v_x6_holds_RX6 {X : Cx} {cc : ByteArray} {nL : Nat} {ret : Option FieldType} {fr lo : Nat} {ad : Nat → Nat} {ρ : Type} {out : ρ → Option Value} {pc : Nat} {lv : List (Nat × Value)} {rest : List Value} {σ : St} {N : Nat} {K : Int32 → St → Option (ρ × St)} (C : Ok X cc RX6 nL ret fr lo) (hR : 2 + 1 ≤ fr ∧ 8 + (3 + 11) + 43 ≤ lo) (hcat : (rest.map fun v => v.category).sum ≤ 8) (hdg : decode cc pc = .ok (.invokevirtual 117, 3)) (k : ∀ (r : Int32) (σ' : St), x6_holds N σ = some (r, σ') → Sim X scC ad nL out (pc + 3) lv (.int r :: rest) σ' (K r σ')) : Sim X scC ad nL out pc lv (.ref (ad 15) :: rest) σ (bd (x6_holds N σ) K) := g_callV C (out1 := outI) (y := yX6_holds) (n := 0) ⟨gw_975, gw_977, gw_46, gw_114, gw_978⟩ (by decide +kernel) hR (o := 15) (ci := 5) (q9 := (RX6, TX6, 16)) im_15 rfl rfl rfl (fun r σ' h => c_x6_holds h) rfl rfl hcat hdg k

def x6_fieldOf (N : Nat) (σ : St) (a1 : Int32) (a2 : Int32) : Option (Int32 × St) :=
  (if a1 = 0 then gd (isCd (gP σ 1505)) (bd (x0_get N (sI σ 1511 2) (gP σ 1505) (gI σ 1512) 7) (fun r4 σ5 => some (0, (sI σ5 1510 r4)))) else bd (x5_at N σ 18 ((a1 * 2) + a2)) (fun r1 σ2 => some (r1, σ2)))
set_option maxHeartbeats 4000000 in
set_option maxRecDepth 100000 in
theorem s_x6_fieldOf {X : Cx} {ad : Nat → Nat} (C : Ok X cX6_fieldOf RX6 3 (some .int) 1 23) (N : Nat) (σ : St) (a1 : Int32) (a2 : Int32) : Sim X scC ad 3 outI 0 [(0, .ref (ad 15)), (1, .int a1), (2, .int a2)] [] σ (x6_fieldOf N σ a1 a2) := by
  unfold x6_fieldOf
  refine g_iload_n C 1 dX6_fieldOf_0 rfl rfl ?_
  refine g_if_ne C 28 dX6_fieldOf_1 (by decide) ?_ ?_
  · refine g_aload_n C 0 dX6_fieldOf_28 rfl rfl ?_
    refine gf_RX6_18 C  dX6_fieldOf_29 ?_
    refine g_iload_n C 1 dX6_fieldOf_32 rfl rfl ?_
    refine g_iconst C 2 dX6_fieldOf_33 (by decide) ?_
    refine g_imul C dX6_fieldOf_34 ?_
    refine g_iload_n C 2 dX6_fieldOf_35 rfl rfl ?_
    refine g_iadd C dX6_fieldOf_36 ?_
    refine v_x5_at_RX6 C ⟨by decide, by decide⟩ (Nat.le_of_ble_eq_true rfl) dX6_fieldOf_37 (fun r1 σ2 _ => ?_)
    exact g_iret C dX6_fieldOf_40
  · refine g_aload_n C 0 dX6_fieldOf_4 rfl rfl ?_
    refine g_iconst C 2 dX6_fieldOf_5 (by decide) ?_
    refine pf_RX6_44 C dX6_fieldOf_6 ?_
    refine g_aload_n C 0 dX6_fieldOf_9 rfl rfl ?_
    refine g_aload_n C 0 dX6_fieldOf_10 rfl rfl ?_
    refine gf_RX6_38 C  (v := gP σ 1505) dX6_fieldOf_11 rfl ?_
    refine g_aload_n C 0 dX6_fieldOf_14 rfl rfl ?_
    refine gf_RX6_105 C  (v := gI σ 1512) dX6_fieldOf_15 rfl ?_
    refine g_bipush C 7 dX6_fieldOf_18 (by decide) ?_
    refine g_gd (fun hp3 => ?_)
    refine v_x0_get_RX6 C hp3 ⟨by decide, by decide⟩ (Nat.le_of_ble_eq_true rfl) dX6_fieldOf_20 (fun r4 σ5 _ => ?_)
    refine pf_RX6_70 C dX6_fieldOf_23 ?_
    refine g_iconst C 0 dX6_fieldOf_26 (by decide) ?_
    exact g_iret C dX6_fieldOf_27
theorem c_x6_fieldOf {Y : Yx} {ad : Nat → Nat} {N : Nat} {σ : St} {a1 : Int32} {a2 : Int32} {r : Int32} {σ' : St} (h : x6_fieldOf N σ a1 a2 = some (r, σ')) : Con Y scC ad yX6_fieldOf cX6_fieldOf 3 (some .int) 1 23 [.ref (ad 15), .int a1, .int a2] σ (outI r) σ' := con_of (by decide) rfl (Nat.le_of_ble_eq_true rfl) rfl (fun X hX C => s_x6_fieldOf C N σ a1 a2) h
set_option maxRecDepth 20000 in
theorem v_x6_fieldOf_RX6 {X : Cx} {cc : ByteArray} {nL : Nat} {ret : Option FieldType} {fr lo : Nat} {ad : Nat → Nat} {ρ : Type} {out : ρ → Option Value} {pc : Nat} {lv : List (Nat × Value)} {rest : List Value} {σ : St} {N : Nat} {K : Int32 → St → Option (ρ × St)} {a1 : Int32} {a2 : Int32} (C : Ok X cc RX6 nL ret fr lo) (hR : 1 + 1 ≤ fr ∧ 8 + (3 + 11) + 23 ≤ lo) (hcat : (rest.map fun v => v.category).sum ≤ 8) (hdg : decode cc pc = .ok (.invokevirtual 142, 3)) (k : ∀ (r : Int32) (σ' : St), x6_fieldOf N σ a1 a2 = some (r, σ') → Sim X scC ad nL out (pc + 3) lv (.int r :: rest) σ' (K r σ')) : Sim X scC ad nL out pc lv (.int a2 :: .int a1 :: .ref (ad 15) :: rest) σ (bd (x6_fieldOf N σ a1 a2) K) := g_callV C (out1 := outI) (y := yX6_fieldOf) (n := 2) ⟨gw_990, gw_992, gw_49, gw_114, gw_993⟩ (by decide +kernel) hR (o := 15) (ci := 5) (q9 := (RX6, TX6, 16)) im_15 rfl rfl rfl (fun r σ' h => c_x6_fieldOf h) rfl rfl hcat hdg k

def x6_enter_113 (N : Nat) (σ : St) (x1 : Int32) : Option (Unit × St) :=
  gd (isPr (gP σ 1504)) (bd (x5_at N σ ((gP σ 1504) + 3) x1) (fun r9 σ10 => some ((), (sI (sI σ10 1512 r9) 1515 0))))
def x6_enter_51_b (N : Nat) (rec51 : St → Int32 → Int32 → Int32 → Option (Unit × St)) (σ : St) (x1 : Int32) (x2 : Int32) (x3 : Int32) : Option (Unit × St) :=
  gd (isCd (gP σ 1505)) (bd (x0_arguments N σ (gP σ 1505) (gI σ 1512)) (fun r6 σ7 => (if r6 ≤ x3 then x6_enter_113 N σ7 x1 else gd (isCd (gP σ7 1505)) (bd (x0_argument N σ7 (gP σ7 1505) (gI σ7 1512) x3) (fun r12 σ13 => bd (x5_at N σ13 16 ((x2 * 26) + r12)) (fun r14 σ15 => gd (isPr (gP σ15 1504)) (bd (x3_parameter N σ15 (gP σ15 1504) x1 x3) (fun r17 σ18 => bd (x6_setName N σ18 r17 r14) (fun _ σ20 => rec51 σ20 x1 x2 (x3 + 1))))))))))
def x6_enter_51 (N : Nat) : Nat → St → Int32 → Int32 → Int32 → Option (Unit × St)
  | 0 => fun _ _ _ _ => none
  | n + 1 => fun σ x1 x2 x3 => x6_enter_51_b N (x6_enter_51 N n) σ x1 x2 x3
def x6_enter (N : Nat) (σ : St) (a1 : Int32) : Option (Unit × St) :=
  (if (gI σ 1513) < 12 then bd (x5_put N σ 17 (gI σ 1513) (gI σ 1512)) (fun _ σ2 => bd (x6_clearNames N (sI σ2 1513 ((gI σ2 1513) + 1))) (fun _ σ4 => x6_enter_51 N N σ4 a1 (gI σ 1513) 0)) else some ((), (sI σ 1511 3)))
set_option maxHeartbeats 4000000 in
set_option maxRecDepth 100000 in
theorem s_x6_enter_113 {X : Cx} {ad : Nat → Nat} (C : Ok X cX6_enter RX6 5 none 2 45) (N : Nat) (σ : St) (x1 : Int32) : Sim X scC ad 5 outV 113 [(0, .ref (ad 15)), (1, .int x1)] [] σ (x6_enter_113 N σ x1) := by
  unfold x6_enter_113
  refine g_aload_n C 0 dX6_enter_113 rfl rfl ?_
  refine g_aload_n C 0 dX6_enter_114 rfl rfl ?_
  refine gf_RX6_31 C  (v := gP σ 1504) dX6_enter_115 rfl ?_
  refine g_gd (fun hp8 => ?_)
  refine gf_RX6_96 C hp8 dX6_enter_118 ?_
  refine g_iload_n C 1 dX6_enter_121 rfl rfl ?_
  refine v_x5_at_RX6 C ⟨by decide, by decide⟩ (Nat.le_of_ble_eq_true rfl) dX6_enter_122 (fun r9 σ10 _ => ?_)
  refine pf_RX6_105 C dX6_enter_125 ?_
  refine g_aload_n C 0 dX6_enter_128 rfl rfl ?_
  refine g_iconst C 0 dX6_enter_129 (by decide) ?_
  refine pf_RX6_48 C rfl dX6_enter_130 ?_
  exact g_vret C dX6_enter_133
set_option maxHeartbeats 4000000 in
set_option maxRecDepth 100000 in
theorem s_x6_enter_51_b {X : Cx} {ad : Nat → Nat} (C : Ok X cX6_enter RX6 5 none 2 45) (N : Nat) {rec51 : St → Int32 → Int32 → Int32 → Option (Unit × St)} (hrec51 : ∀ (σ : St) (x1 : Int32) (x2 : Int32) (x3 : Int32), Sim X scC ad 5 outV 51 [(0, .ref (ad 15)), (1, .int x1), (2, .int x2), (3, .int x3)] [] σ (rec51 σ x1 x2 x3)) (σ : St) (x1 : Int32) (x2 : Int32) (x3 : Int32) : Sim X scC ad 5 outV 51 [(0, .ref (ad 15)), (1, .int x1), (2, .int x2), (3, .int x3)] [] σ (x6_enter_51_b N rec51 σ x1 x2 x3) := by
  unfold x6_enter_51_b
  refine g_iload_n C 3 dX6_enter_51 rfl rfl ?_
  refine g_aload_n C 0 dX6_enter_52 rfl rfl ?_
  refine gf_RX6_38 C  (v := gP σ 1505) dX6_enter_53 rfl ?_
  refine g_aload_n C 0 dX6_enter_56 rfl rfl ?_
  refine gf_RX6_105 C  (v := gI σ 1512) dX6_enter_57 rfl ?_
  refine g_gd (fun hp5 => ?_)
  refine v_x0_arguments_RX6 C hp5 ⟨by decide, by decide⟩ (Nat.le_of_ble_eq_true rfl) dX6_enter_60 (fun r6 σ7 _ => ?_)
  refine g_icmp_ge C 113 dX6_enter_63 (by decide) ?_ ?_
  · exact g_sub [0, 1] rfl (s_x6_enter_113 C N σ7 x1)
  · refine g_aload_n C 0 dX6_enter_66 rfl rfl ?_
    refine gf_RX6_11 C  dX6_enter_67 ?_
    refine g_iload_n C 2 dX6_enter_70 rfl rfl ?_
    refine g_bipush C 26 dX6_enter_71 (by decide) ?_
    refine g_imul C dX6_enter_73 ?_
    refine g_aload_n C 0 dX6_enter_74 rfl rfl ?_
    refine gf_RX6_38 C  (v := gP σ7 1505) dX6_enter_75 rfl ?_
    refine g_aload_n C 0 dX6_enter_78 rfl rfl ?_
    refine gf_RX6_105 C  (v := gI σ7 1512) dX6_enter_79 rfl ?_
    refine g_iload_n C 3 dX6_enter_82 rfl rfl ?_
    refine g_gd (fun hp11 => ?_)
    refine v_x0_argument_RX6 C hp11 ⟨by decide, by decide⟩ (Nat.le_of_ble_eq_true rfl) dX6_enter_83 (fun r12 σ13 _ => ?_)
    refine g_iadd C dX6_enter_86 ?_
    refine v_x5_at_RX6 C ⟨by decide, by decide⟩ (Nat.le_of_ble_eq_true rfl) dX6_enter_87 (fun r14 σ15 _ => ?_)
    refine g_istore C [(4, .int r14), (0, .ref (ad 15)), (1, .int x1), (2, .int x2), (3, .int x3)] dX6_enter_90 (by decide) rfl ?_
    refine g_aload_n C 1 dX6_enter_92 rfl rfl ?_
    refine g_aload_n C 1 dX6_enter_93 rfl rfl ?_
    refine gf_RX6_31 C  (v := gP σ15 1504) dX6_enter_94 rfl ?_
    refine g_iload_n C 2 dX6_enter_97 rfl rfl ?_
    refine g_iload_n C 4 dX6_enter_98 rfl rfl ?_
    refine g_gd (fun hp16 => ?_)
    refine v_x3_parameter_RX6 C hp16 ⟨by decide, by decide⟩ (Nat.le_of_ble_eq_true rfl) dX6_enter_99 (fun r17 σ18 _ => ?_)
    refine g_iload C 0 dX6_enter_102 rfl ?_
    refine v_x6_setName_RX6 C ⟨by decide, by decide⟩ (Nat.le_of_ble_eq_true rfl) dX6_enter_104 (fun r19 σ20 _ => ?_)
    refine g_iinc C (x3 + 1) 4 [(3, .int (x3 + 1)), (4, .int r14), (0, .ref (ad 15)), (1, .int x1), (2, .int x2)] dX6_enter_107 rfl rfl (by decide) rfl ?_
    refine g_goto C 51 dX6_enter_110 (by decide) ?_
    exact g_sub [2, 3, 4, 0] rfl (hrec51 σ20 x1 x2 (x3 + 1))
set_option maxHeartbeats 4000000 in
set_option maxRecDepth 100000 in
theorem s_x6_enter_51 {X : Cx} {ad : Nat → Nat} (C : Ok X cX6_enter RX6 5 none 2 45) (N : Nat) : ∀ (n : Nat) (σ : St) (x1 : Int32) (x2 : Int32) (x3 : Int32), Sim X scC ad 5 outV 51 [(0, .ref (ad 15)), (1, .int x1), (2, .int x2), (3, .int x3)] [] σ (x6_enter_51 N n σ x1 x2 x3) := by
  intro n
  induction n with
  | zero => intro σ x1 x2 x3; exact g_none
  | succ n ih => intro σ x1 x2 x3; exact s_x6_enter_51_b C N ih σ x1 x2 x3
set_option maxHeartbeats 4000000 in
set_option maxRecDepth 100000 in
theorem s_x6_enter {X : Cx} {ad : Nat → Nat} (C : Ok X cX6_enter RX6 5 none 2 45) (N : Nat) (σ : St) (a1 : Int32) : Sim X scC ad 5 outV 0 [(0, .ref (ad 15)), (1, .int a1)] [] σ (x6_enter N σ a1) := by
  unfold x6_enter
  refine g_aload_n C 0 dX6_enter_0 rfl rfl ?_
  refine gf_RX6_73 C  (v := gI σ 1513) dX6_enter_1 rfl ?_
  refine g_bipush C 12 dX6_enter_4 (by decide) ?_
  refine g_icmp_lt C 15 dX6_enter_6 (by decide) ?_ ?_
  · refine g_aload_n C 0 dX6_enter_15 rfl rfl ?_
    refine gf_RX6_73 C  (v := gI σ 1513) dX6_enter_16 rfl ?_
    refine g_istore_n C [(2, .int (gI σ 1513)), (0, .ref (ad 15)), (1, .int a1)] dX6_enter_19 rfl (by decide) rfl ?_
    refine g_aload_n C 1 dX6_enter_20 rfl rfl ?_
    refine gf_RX6_15 C  dX6_enter_21 ?_
    refine g_aload_n C 1 dX6_enter_24 rfl rfl ?_
    refine gf_RX6_73 C  (v := gI σ 1513) dX6_enter_25 rfl ?_
    refine g_aload_n C 1 dX6_enter_28 rfl rfl ?_
    refine gf_RX6_105 C  (v := gI σ 1512) dX6_enter_29 rfl ?_
    refine v_x5_put_RX6 C ⟨by decide, by decide⟩ (Nat.le_of_ble_eq_true rfl) dX6_enter_32 (fun r1 σ2 _ => ?_)
    refine g_aload_n C 1 dX6_enter_35 rfl rfl ?_
    refine g_dup C dX6_enter_36 rfl ?_
    refine gf_RX6_73 C  (v := gI σ2 1513) dX6_enter_37 rfl ?_
    refine g_iconst C 1 dX6_enter_40 (by decide) ?_
    refine g_iadd C dX6_enter_41 ?_
    refine pf_RX6_73 C dX6_enter_42 ?_
    refine g_aload_n C 1 dX6_enter_45 rfl rfl ?_
    refine v_x6_clearNames_RX6 C ⟨by decide, by decide⟩ (Nat.le_of_ble_eq_true rfl) dX6_enter_46 (fun r3 σ4 _ => ?_)
    refine g_iconst C 0 dX6_enter_49 (by decide) ?_
    refine g_istore_n C [(3, .int 0), (2, .int (gI σ 1513)), (0, .ref (ad 15)), (1, .int a1)] dX6_enter_50 rfl (by decide) rfl ?_
    exact g_sub [2, 3, 1, 0] rfl (s_x6_enter_51 C N N σ4 a1 (gI σ 1513) 0)
  · refine g_aload_n C 0 dX6_enter_9 rfl rfl ?_
    refine g_iconst C 3 dX6_enter_10 (by decide) ?_
    refine pf_RX6_44 C dX6_enter_11 ?_
    exact g_vret C dX6_enter_14
theorem c_x6_enter {Y : Yx} {ad : Nat → Nat} {N : Nat} {σ : St} {a1 : Int32} {r : Unit} {σ' : St} (h : x6_enter N σ a1 = some (r, σ')) : Con Y scC ad yX6_enter cX6_enter 5 none 2 45 [.ref (ad 15), .int a1] σ (outV r) σ' := con_of (by decide) rfl (Nat.le_of_ble_eq_true rfl) rfl (fun X hX C => s_x6_enter C N σ a1) h
set_option maxRecDepth 20000 in
theorem v_x6_enter_RX6 {X : Cx} {cc : ByteArray} {nL : Nat} {ret : Option FieldType} {fr lo : Nat} {ad : Nat → Nat} {ρ : Type} {out : ρ → Option Value} {pc : Nat} {lv : List (Nat × Value)} {rest : List Value} {σ : St} {N : Nat} {K : Unit → St → Option (ρ × St)} {a1 : Int32} (C : Ok X cc RX6 nL ret fr lo) (hR : 2 + 1 ≤ fr ∧ 8 + (5 + 11) + 45 ≤ lo) (hcat : (rest.map fun v => v.category).sum ≤ 8) (hdg : decode cc pc = .ok (.invokevirtual 145, 3)) (k : ∀ (r : Unit) (σ' : St), x6_enter N σ a1 = some (r, σ') → Sim X scC ad nL out (pc + 3) lv rest σ' (K r σ')) : Sim X scC ad nL out pc lv (.int a1 :: .ref (ad 15) :: rest) σ (bd (x6_enter N σ a1) K) := g_callV C (out1 := outV) (y := yX6_enter) (n := 1) ⟨gw_994, gw_996, gw_50, gw_114, gw_997⟩ (by decide +kernel) hR (o := 15) (ci := 5) (q9 := (RX6, TX6, 16)) im_15 rfl rfl rfl (fun r σ' h => c_x6_enter h) rfl rfl hcat hdg k

def x6_work_79 (N : Nat) (σ : St) (t1 : Int32) : Option (Unit × St) :=
  some ((), (sI σ 1514 t1))
def x6_work (N : Nat) (σ : St) : Option (Unit × St) :=
  gd (isCd (gP σ 1505)) (bd (x0_get N σ (gP σ 1505) (gI σ 1512) 5) (fun r2 σ3 => gd (isCd (gP σ3 1505)) (bd (x0_get N σ3 (gP σ3 1505) (gI σ3 1512) 6) (fun r5 σ6 => bd (x6_nameOf N σ6 r2) (fun r7 σ8 => gd (isCd (gP σ8 1505)) (bd (x0_get N σ8 (gP σ8 1505) (gI σ8 1512) 4) (fun r10 σ11 => (if r10 = 1 then bd (x6_choose N (sI (sI σ11 1514 0) 1515 1)) (fun r20 σ21 => (if r20 = 0 then x6_work_79 N σ21 0 else bd (x6_makeLoop N σ21) (fun r22 σ23 => x6_work_79 N σ23 r22))) else (if r10 = 2 then bd (x6_nameOf N (sI (sI σ11 1514 0) 1515 1) r5) (fun r16 σ17 => bd (x6_make N σ17 r7 r16) (fun r18 σ19 => some ((), (sI σ19 1514 r18)))) else (if r10 = 3 then some ((), (sI (sI (sI σ11 1514 0) 1515 1) 1514 r7)) else (if r10 = 4 then bd (x6_fieldOf N (sI (sI σ11 1514 0) 1515 1) r7 r5) (fun r14 σ15 => some ((), (sI σ15 1514 r14))) else (if r10 = 5 then bd (x6_enter N (sI (sI σ11 1514 0) 1515 1) r5) (fun _ σ13 => some ((), σ13)) else some ((), (sI (sI σ11 1514 0) 1515 1))))))))))))))
set_option maxHeartbeats 4000000 in
set_option maxRecDepth 100000 in
theorem s_x6_work_79 {X : Cx} {ad : Nat → Nat} (C : Ok X cX6_work RX6 5 none 3 69) (N : Nat) (σ : St) (t1 : Int32) : Sim X scC ad 5 outV 79 [] [.int t1, .ref (ad 15)] σ (x6_work_79 N σ t1) := by
  unfold x6_work_79
  refine pf_RX6_136 C dX6_work_79 ?_
  refine g_goto C 152 dX6_work_82 (by decide) ?_
  exact g_vret C dX6_work_152
set_option maxHeartbeats 4000000 in
set_option maxRecDepth 100000 in
theorem s_x6_work {X : Cx} {ad : Nat → Nat} (C : Ok X cX6_work RX6 5 none 3 69) (N : Nat) (σ : St) : Sim X scC ad 5 outV 0 [(0, .ref (ad 15))] [] σ (x6_work N σ) := by
  unfold x6_work
  refine g_aload_n C 0 dX6_work_0 rfl rfl ?_
  refine gf_RX6_38 C  (v := gP σ 1505) dX6_work_1 rfl ?_
  refine g_aload_n C 0 dX6_work_4 rfl rfl ?_
  refine gf_RX6_105 C  (v := gI σ 1512) dX6_work_5 rfl ?_
  refine g_iconst C 5 dX6_work_8 (by decide) ?_
  refine g_gd (fun hp1 => ?_)
  refine v_x0_get_RX6 C hp1 ⟨by decide, by decide⟩ (Nat.le_of_ble_eq_true rfl) dX6_work_9 (fun r2 σ3 _ => ?_)
  refine g_istore_n C [(1, .int r2), (0, .ref (ad 15))] dX6_work_12 rfl (by decide) rfl ?_
  refine g_aload_n C 1 dX6_work_13 rfl rfl ?_
  refine gf_RX6_38 C  (v := gP σ3 1505) dX6_work_14 rfl ?_
  refine g_aload_n C 1 dX6_work_17 rfl rfl ?_
  refine gf_RX6_105 C  (v := gI σ3 1512) dX6_work_18 rfl ?_
  refine g_bipush C 6 dX6_work_21 (by decide) ?_
  refine g_gd (fun hp4 => ?_)
  refine v_x0_get_RX6 C hp4 ⟨by decide, by decide⟩ (Nat.le_of_ble_eq_true rfl) dX6_work_23 (fun r5 σ6 _ => ?_)
  refine g_istore_n C [(2, .int r5), (1, .int r2), (0, .ref (ad 15))] dX6_work_26 rfl (by decide) rfl ?_
  refine g_aload_n C 2 dX6_work_27 rfl rfl ?_
  refine g_iload_n C 1 dX6_work_28 rfl rfl ?_
  refine v_x6_nameOf_RX6 C ⟨by decide, by decide⟩ (Nat.le_of_ble_eq_true rfl) dX6_work_29 (fun r7 σ8 _ => ?_)
  refine g_istore_n C [(3, .int r7), (2, .int r5), (1, .int r2), (0, .ref (ad 15))] dX6_work_32 rfl (by decide) rfl ?_
  refine g_aload_n C 3 dX6_work_33 rfl rfl ?_
  refine gf_RX6_38 C  (v := gP σ8 1505) dX6_work_34 rfl ?_
  refine g_aload_n C 3 dX6_work_37 rfl rfl ?_
  refine gf_RX6_105 C  (v := gI σ8 1512) dX6_work_38 rfl ?_
  refine g_iconst C 4 dX6_work_41 (by decide) ?_
  refine g_gd (fun hp9 => ?_)
  refine v_x0_get_RX6 C hp9 ⟨by decide, by decide⟩ (Nat.le_of_ble_eq_true rfl) dX6_work_42 (fun r10 σ11 _ => ?_)
  refine g_istore C [(4, .int r10), (3, .int r7), (2, .int r5), (1, .int r2), (0, .ref (ad 15))] dX6_work_45 (by decide) rfl ?_
  refine g_aload_n C 4 dX6_work_47 rfl rfl ?_
  refine g_iconst C 0 dX6_work_48 (by decide) ?_
  refine pf_RX6_136 C dX6_work_49 ?_
  refine g_aload_n C 4 dX6_work_52 rfl rfl ?_
  refine g_iconst C 1 dX6_work_53 (by decide) ?_
  refine pf_RX6_48 C rfl dX6_work_54 ?_
  refine g_iload C 0 dX6_work_57 rfl ?_
  refine g_iconst C 1 dX6_work_59 (by decide) ?_
  refine g_icmp_ne C 85 dX6_work_60 (by decide) ?_ ?_
  · refine g_iload C 0 dX6_work_85 rfl ?_
    refine g_iconst C 2 dX6_work_87 (by decide) ?_
    refine g_icmp_ne C 108 dX6_work_88 (by decide) ?_ ?_
    · refine g_iload C 0 dX6_work_108 rfl ?_
      refine g_iconst C 3 dX6_work_110 (by decide) ?_
      refine g_icmp_ne C 122 dX6_work_111 (by decide) ?_ ?_
      · refine g_iload C 0 dX6_work_122 rfl ?_
        refine g_iconst C 4 dX6_work_124 (by decide) ?_
        refine g_icmp_ne C 141 dX6_work_125 (by decide) ?_ ?_
        · refine g_iload C 0 dX6_work_141 rfl ?_
          refine g_iconst C 5 dX6_work_143 (by decide) ?_
          refine g_icmp_ne C 152 dX6_work_144 (by decide) ?_ ?_
          · exact g_vret C dX6_work_152
          · refine g_aload_n C 4 dX6_work_147 rfl rfl ?_
            refine g_iload_n C 2 dX6_work_148 rfl rfl ?_
            refine v_x6_enter_RX6 C ⟨by decide, by decide⟩ (Nat.le_of_ble_eq_true rfl) dX6_work_149 (fun r12 σ13 _ => ?_)
            exact g_vret C dX6_work_152
        · refine g_aload_n C 4 dX6_work_128 rfl rfl ?_
          refine g_aload_n C 4 dX6_work_129 rfl rfl ?_
          refine g_iload_n C 1 dX6_work_130 rfl rfl ?_
          refine g_iload_n C 2 dX6_work_131 rfl rfl ?_
          refine v_x6_fieldOf_RX6 C ⟨by decide, by decide⟩ (Nat.le_of_ble_eq_true rfl) dX6_work_132 (fun r14 σ15 _ => ?_)
          refine pf_RX6_136 C dX6_work_135 ?_
          refine g_goto C 152 dX6_work_138 (by decide) ?_
          exact g_vret C dX6_work_152
      · refine g_aload_n C 4 dX6_work_114 rfl rfl ?_
        refine g_iload_n C 1 dX6_work_115 rfl rfl ?_
        refine pf_RX6_136 C dX6_work_116 ?_
        refine g_goto C 152 dX6_work_119 (by decide) ?_
        exact g_vret C dX6_work_152
    · refine g_aload_n C 4 dX6_work_91 rfl rfl ?_
      refine g_aload_n C 4 dX6_work_92 rfl rfl ?_
      refine g_iload_n C 1 dX6_work_93 rfl rfl ?_
      refine g_aload_n C 4 dX6_work_94 rfl rfl ?_
      refine g_iload_n C 2 dX6_work_95 rfl rfl ?_
      refine v_x6_nameOf_RX6 C ⟨by decide, by decide⟩ (Nat.le_of_ble_eq_true rfl) dX6_work_96 (fun r16 σ17 _ => ?_)
      refine v_x6_make_RX6 C ⟨by decide, by decide⟩ (Nat.le_of_ble_eq_true rfl) dX6_work_99 (fun r18 σ19 _ => ?_)
      refine pf_RX6_136 C dX6_work_102 ?_
      refine g_goto C 152 dX6_work_105 (by decide) ?_
      exact g_vret C dX6_work_152
  · refine g_aload_n C 4 dX6_work_63 rfl rfl ?_
    refine g_aload_n C 4 dX6_work_64 rfl rfl ?_
    refine v_x6_choose_RX6 C ⟨by decide, by decide⟩ (Nat.le_of_ble_eq_true rfl) dX6_work_65 (fun r20 σ21 _ => ?_)
    refine g_if_eq C 78 dX6_work_68 (by decide) ?_ ?_
    · refine g_iconst C 0 dX6_work_78 (by decide) ?_
      exact g_sub [] rfl (s_x6_work_79 C N σ21 0)
    · refine g_aload_n C 4 dX6_work_71 rfl rfl ?_
      refine v_x6_makeLoop_RX6 C ⟨by decide, by decide⟩ (Nat.le_of_ble_eq_true rfl) dX6_work_72 (fun r22 σ23 _ => ?_)
      refine g_goto C 79 dX6_work_75 (by decide) ?_
      exact g_sub [] rfl (s_x6_work_79 C N σ23 r22)
theorem c_x6_work {Y : Yx} {ad : Nat → Nat} {N : Nat} {σ : St} {r : Unit} {σ' : St} (h : x6_work N σ = some (r, σ')) : Con Y scC ad yX6_work cX6_work 5 none 3 69 [.ref (ad 15)] σ (outV r) σ' := con_of (by decide) rfl (Nat.le_of_ble_eq_true rfl) rfl (fun X hX C => s_x6_work C N σ) h
set_option maxRecDepth 20000 in
theorem v_x6_work_RX6 {X : Cx} {cc : ByteArray} {nL : Nat} {ret : Option FieldType} {fr lo : Nat} {ad : Nat → Nat} {ρ : Type} {out : ρ → Option Value} {pc : Nat} {lv : List (Nat × Value)} {rest : List Value} {σ : St} {N : Nat} {K : Unit → St → Option (ρ × St)} (C : Ok X cc RX6 nL ret fr lo) (hR : 3 + 1 ≤ fr ∧ 8 + (5 + 11) + 69 ≤ lo) (hcat : (rest.map fun v => v.category).sum ≤ 8) (hdg : decode cc pc = .ok (.invokevirtual 121, 3)) (k : ∀ (r : Unit) (σ' : St), x6_work N σ = some (r, σ') → Sim X scC ad nL out (pc + 3) lv rest σ' (K r σ')) : Sim X scC ad nL out pc lv (.ref (ad 15) :: rest) σ (bd (x6_work N σ) K) := g_callV C (out1 := outV) (y := yX6_work) (n := 0) ⟨gw_986, gw_988, gw_48, gw_114, gw_989⟩ (by decide +kernel) hR (o := 15) (ci := 5) (q9 := (RX6, TX6, 16)) im_15 rfl rfl rfl (fun r σ' h => c_x6_work h) rfl rfl hcat hdg k

def x6_step_113 (N : Nat) (σ : St) (t1 : Int32) : Option (Unit × St) :=
  some ((), (sI σ 1512 t1))
def x6_step (N : Nat) (σ : St) : Option (Unit × St) :=
  gd (isCd (gP σ 1505)) (bd (x0_get N σ (gP σ 1505) (gI σ 1512) 0) (fun r2 σ3 => (if r2 = 1 then gd (isCd (gP σ3 1505)) (bd (x0_get N σ3 (gP σ3 1505) (gI σ3 1512) 10) (fun r14 σ15 => some ((), (sI σ15 1512 r14)))) else (if r2 = 0 then bd (x6_leave N σ3 0) (fun _ σ12 => some ((), σ12)) else (if (gI σ3 1507) < 400 then (if r2 = 2 then bd (x6_holds N (sI σ3 1507 ((gI σ3 1507) + 1))) (fun r6 σ7 => (if r6 = 0 then gd (isCd (gP σ7 1505)) (bd (x0_get N σ7 (gP σ7 1505) (gI σ7 1512) 10) (fun r9 σ10 => x6_step_113 N σ10 r9)) else x6_step_113 N σ7 ((gI σ7 1512) + 1))) else bd (x6_work N (sI σ3 1507 ((gI σ3 1507) + 1))) (fun _ σ5 => some ((), σ5))) else some ((), (sI σ3 1511 3)))))))
set_option maxHeartbeats 4000000 in
set_option maxRecDepth 100000 in
theorem s_x6_step_113 {X : Cx} {ad : Nat → Nat} (C : Ok X cX6_step RX6 2 none 4 93) (N : Nat) (σ : St) (t1 : Int32) : Sim X scC ad 2 outV 113 [] [.int t1, .ref (ad 15)] σ (x6_step_113 N σ t1) := by
  unfold x6_step_113
  refine pf_RX6_105 C dX6_step_113 ?_
  refine g_goto C 123 dX6_step_116 (by decide) ?_
  exact g_vret C dX6_step_123
set_option maxHeartbeats 4000000 in
set_option maxRecDepth 100000 in
theorem s_x6_step {X : Cx} {ad : Nat → Nat} (C : Ok X cX6_step RX6 2 none 4 93) (N : Nat) (σ : St) : Sim X scC ad 2 outV 0 [(0, .ref (ad 15))] [] σ (x6_step N σ) := by
  unfold x6_step
  refine g_aload_n C 0 dX6_step_0 rfl rfl ?_
  refine gf_RX6_38 C  (v := gP σ 1505) dX6_step_1 rfl ?_
  refine g_aload_n C 0 dX6_step_4 rfl rfl ?_
  refine gf_RX6_105 C  (v := gI σ 1512) dX6_step_5 rfl ?_
  refine g_iconst C 0 dX6_step_8 (by decide) ?_
  refine g_gd (fun hp1 => ?_)
  refine v_x0_get_RX6 C hp1 ⟨by decide, by decide⟩ (Nat.le_of_ble_eq_true rfl) dX6_step_9 (fun r2 σ3 _ => ?_)
  refine g_istore_n C [(1, .int r2), (0, .ref (ad 15))] dX6_step_12 rfl (by decide) rfl ?_
  refine g_iload_n C 0 dX6_step_13 rfl rfl ?_
  refine g_iconst C 1 dX6_step_14 (by decide) ?_
  refine g_icmp_ne C 38 dX6_step_15 (by decide) ?_ ?_
  · refine g_iload_n C 0 dX6_step_38 rfl rfl ?_
    refine g_if_ne C 50 dX6_step_39 (by decide) ?_ ?_
    · refine g_aload_n C 1 dX6_step_50 rfl rfl ?_
      refine gf_RX6_61 C  (v := gI σ3 1507) dX6_step_51 rfl ?_
      refine g_sipush C 400 dX6_step_54 (by decide) ?_
      refine g_icmp_lt C 68 dX6_step_57 (by decide) ?_ ?_
      · refine g_aload_n C 1 dX6_step_68 rfl rfl ?_
        refine g_dup C dX6_step_69 rfl ?_
        refine gf_RX6_61 C  (v := gI σ3 1507) dX6_step_70 rfl ?_
        refine g_iconst C 1 dX6_step_73 (by decide) ?_
        refine g_iadd C dX6_step_74 ?_
        refine pf_RX6_61 C dX6_step_75 ?_
        refine g_iload_n C 0 dX6_step_78 rfl rfl ?_
        refine g_iconst C 2 dX6_step_79 (by decide) ?_
        refine g_icmp_ne C 119 dX6_step_80 (by decide) ?_ ?_
        · refine g_aload_n C 1 dX6_step_119 rfl rfl ?_
          refine v_x6_work_RX6 C ⟨by decide, by decide⟩ (Nat.le_of_ble_eq_true rfl) dX6_step_120 (fun r4 σ5 _ => ?_)
          exact g_vret C dX6_step_123
        · refine g_aload_n C 1 dX6_step_83 rfl rfl ?_
          refine g_aload_n C 1 dX6_step_84 rfl rfl ?_
          refine v_x6_holds_RX6 C ⟨by decide, by decide⟩ (Nat.le_of_ble_eq_true rfl) dX6_step_85 (fun r6 σ7 _ => ?_)
          refine g_if_eq C 100 dX6_step_88 (by decide) ?_ ?_
          · refine g_aload_n C 1 dX6_step_100 rfl rfl ?_
            refine gf_RX6_38 C  (v := gP σ7 1505) dX6_step_101 rfl ?_
            refine g_aload_n C 1 dX6_step_104 rfl rfl ?_
            refine gf_RX6_105 C  (v := gI σ7 1512) dX6_step_105 rfl ?_
            refine g_bipush C 10 dX6_step_108 (by decide) ?_
            refine g_gd (fun hp8 => ?_)
            refine v_x0_get_RX6 C hp8 ⟨by decide, by decide⟩ (Nat.le_of_ble_eq_true rfl) dX6_step_110 (fun r9 σ10 _ => ?_)
            exact g_sub [] rfl (s_x6_step_113 C N σ10 r9)
          · refine g_aload_n C 1 dX6_step_91 rfl rfl ?_
            refine gf_RX6_105 C  (v := gI σ7 1512) dX6_step_92 rfl ?_
            refine g_iconst C 1 dX6_step_95 (by decide) ?_
            refine g_iadd C dX6_step_96 ?_
            refine g_goto C 113 dX6_step_97 (by decide) ?_
            exact g_sub [] rfl (s_x6_step_113 C N σ7 ((gI σ7 1512) + 1))
      · refine g_aload_n C 1 dX6_step_60 rfl rfl ?_
        refine g_iconst C 3 dX6_step_61 (by decide) ?_
        refine pf_RX6_44 C dX6_step_62 ?_
        refine g_goto C 123 dX6_step_65 (by decide) ?_
        exact g_vret C dX6_step_123
    · refine g_aload_n C 1 dX6_step_42 rfl rfl ?_
      refine g_iconst C 0 dX6_step_43 (by decide) ?_
      refine v_x6_leave_RX6 C ⟨by decide, by decide⟩ (Nat.le_of_ble_eq_true rfl) dX6_step_44 (fun r11 σ12 _ => ?_)
      refine g_goto C 123 dX6_step_47 (by decide) ?_
      exact g_vret C dX6_step_123
  · refine g_aload_n C 1 dX6_step_18 rfl rfl ?_
    refine g_aload_n C 1 dX6_step_19 rfl rfl ?_
    refine gf_RX6_38 C  (v := gP σ3 1505) dX6_step_20 rfl ?_
    refine g_aload_n C 1 dX6_step_23 rfl rfl ?_
    refine gf_RX6_105 C  (v := gI σ3 1512) dX6_step_24 rfl ?_
    refine g_bipush C 10 dX6_step_27 (by decide) ?_
    refine g_gd (fun hp13 => ?_)
    refine v_x0_get_RX6 C hp13 ⟨by decide, by decide⟩ (Nat.le_of_ble_eq_true rfl) dX6_step_29 (fun r14 σ15 _ => ?_)
    refine pf_RX6_105 C dX6_step_32 ?_
    refine g_goto C 123 dX6_step_35 (by decide) ?_
    exact g_vret C dX6_step_123
theorem c_x6_step {Y : Yx} {ad : Nat → Nat} {N : Nat} {σ : St} {r : Unit} {σ' : St} (h : x6_step N σ = some (r, σ')) : Con Y scC ad yX6_step cX6_step 2 none 4 93 [.ref (ad 15)] σ (outV r) σ' := con_of (by decide) rfl (Nat.le_of_ble_eq_true rfl) rfl (fun X hX C => s_x6_step C N σ) h
set_option maxRecDepth 20000 in
theorem v_x6_step_RX6 {X : Cx} {cc : ByteArray} {nL : Nat} {ret : Option FieldType} {fr lo : Nat} {ad : Nat → Nat} {ρ : Type} {out : ρ → Option Value} {pc : Nat} {lv : List (Nat × Value)} {rest : List Value} {σ : St} {N : Nat} {K : Unit → St → Option (ρ × St)} (C : Ok X cc RX6 nL ret fr lo) (hR : 4 + 1 ≤ fr ∧ 8 + (2 + 11) + 93 ≤ lo) (hcat : (rest.map fun v => v.category).sum ≤ 8) (hdg : decode cc pc = .ok (.invokevirtual 55, 3)) (k : ∀ (r : Unit) (σ' : St), x6_step N σ = some (r, σ') → Sim X scC ad nL out (pc + 3) lv rest σ' (K r σ')) : Sim X scC ad nL out pc lv (.ref (ad 15) :: rest) σ (bd (x6_step N σ) K) := g_callV C (out1 := outV) (y := yX6_step) (n := 0) ⟨gw_971, gw_973, gw_45, gw_114, gw_974⟩ (by decide +kernel) hR (o := 15) (ci := 5) (q9 := (RX6, TX6, 16)) im_15 rfl rfl rfl (fun r σ' h => c_x6_step h) rfl rfl hcat hdg k
