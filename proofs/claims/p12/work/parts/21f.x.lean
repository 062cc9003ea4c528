def x10_test (N : Nat) (σ : St) (a1 : Int32) (a2 : Int32) : Option (Int32 × St) :=
  (if a1 < 0 then some ((-1), σ) else gd (isPr (gP σ 700)) ((if a1 < (gI σ (100 * (gP σ 700) + 12)) then (if a2 = 0 then bd (x1_settle N σ 0) (fun _ σ4 => bd (x5_at N σ4 14 a1) (fun r5 σ6 => bd (x10_verdictOfTest N σ6 r5) (fun r7 σ8 => some (r7, σ8)))) else (if a2 = 1 then bd (x5_at N σ ((gP σ 700) + 9) a1) (fun r10 σ11 => some (r10, σ11)) else (if a2 = 2 then bd (x5_at N σ ((gP σ 700) + 10) a1) (fun r13 σ14 => some (r13, σ14)) else some ((-1), σ)))) else some ((-1), σ))))
set_option maxHeartbeats 4000000 in
set_option maxRecDepth 100000 in
theorem s_x10_test {X : Cx} {ad : Nat → Nat} (C : Ok X cX10_test RX10 4 (some .int) 6 145) (N : Nat) (σ : St) (a1 : Int32) (a2 : Int32) : Sim X scC ad 4 outI 0 [(0, .ref (ad 0)), (1, .int a1), (2, .int a2)] [] σ (x10_test N σ a1 a2) := by
  unfold x10_test
  refine g_aload_n C 0 dX10_test_0 rfl rfl ?_
  refine gf_RX10_45 C  dX10_test_1 ?_
  refine gf_RX10_110 C  (v := gP σ 700) dX10_test_4 rfl ?_
  refine g_astore_n C [(3, .ref (ad (gP σ 700))), (0, .ref (ad 0)), (1, .int a1), (2, .int a2)] dX10_test_7 rfl (by decide) rfl ?_
  refine g_iload_n C 2 dX10_test_8 rfl rfl ?_
  refine g_if_lt C 20 dX10_test_9 (by decide) ?_ ?_
  · refine g_iconst C (-1) dX10_test_20 (by decide) ?_
    exact g_iret C dX10_test_21
  · refine g_iload_n C 2 dX10_test_12 rfl rfl ?_
    refine g_aload_n C 0 dX10_test_13 rfl rfl ?_
    refine g_gd (fun hp1 => ?_)
    refine gf_RX10_176 C hp1 (v := gI σ (100 * (gP σ 700) + 12)) dX10_test_14 rfl ?_
    refine g_icmp_lt C 22 dX10_test_17 (by decide) ?_ ?_
    · refine g_iload_n C 3 dX10_test_22 rfl rfl ?_
      refine g_cs (fun h2 => ?_) (fun h2 => ?_)
      · refine g_tabIn C (off := 25) 48 (0) (by rw [h2]; decide) dX10_test_23 (by decide) (by decide) (by decide) (by decide) ?_
        refine g_aload_n C 1 dX10_test_48 rfl rfl ?_
        refine gf_RX10_54 C  dX10_test_49 ?_
        refine g_lconst C 0 dX10_test_52 (by decide) ?_
        refine v_x1_settle_RX10 C ⟨by decide, by decide⟩ (Nat.le_of_ble_eq_true rfl) dX10_test_53 (fun r3 σ4 _ => ?_)
        refine g_aload_n C 1 dX10_test_56 rfl rfl ?_
        refine gf_RX10_54 C  dX10_test_57 ?_
        refine gf_RX10_179 C  dX10_test_60 ?_
        refine g_iload_n C 2 dX10_test_63 rfl rfl ?_
        refine v_x5_at_RX10 C ⟨by decide, by decide⟩ (Nat.le_of_ble_eq_true rfl) dX10_test_64 (fun r5 σ6 _ => ?_)
        refine v_x10_verdictOfTest_RX10 C ⟨by decide, by decide⟩ (Nat.le_of_ble_eq_true rfl) dX10_test_67 (fun r7 σ8 _ => ?_)
        exact g_iret C dX10_test_70
      refine g_cs (fun h9 => ?_) (fun h9 => ?_)
      · refine g_tabIn C (off := 48) 71 (1) (by rw [h9]; decide) dX10_test_23 (by decide) (by decide) (by decide) (by decide) ?_
        refine g_aload_n C 0 dX10_test_71 rfl rfl ?_
        refine gf_RX10_185 C hp1 dX10_test_72 ?_
        refine g_iload_n C 2 dX10_test_75 rfl rfl ?_
        refine v_x5_at_RX10 C ⟨by decide, by decide⟩ (Nat.le_of_ble_eq_true rfl) dX10_test_76 (fun r10 σ11 _ => ?_)
        exact g_iret C dX10_test_79
      refine g_cs (fun h12 => ?_) (fun h12 => ?_)
      · refine g_tabIn C (off := 57) 80 (2) (by rw [h12]; decide) dX10_test_23 (by decide) (by decide) (by decide) (by decide) ?_
        refine g_aload_n C 0 dX10_test_80 rfl rfl ?_
        refine gf_RX10_188 C hp1 dX10_test_81 ?_
        refine g_iload_n C 2 dX10_test_84 rfl rfl ?_
        refine v_x5_at_RX10 C ⟨by decide, by decide⟩ (Nat.le_of_ble_eq_true rfl) dX10_test_85 (fun r13 σ14 _ => ?_)
        exact g_iret C dX10_test_88
      have ah2 : ¬ a2.toInt = 0 := k_ne h2 (by decide)
      have bh2 : ¬ (0 : Int) = a2.toInt := fun e9 => ah2 e9.symm
      have ah9 : ¬ a2.toInt = 1 := k_ne h9 (by decide)
      have bh9 : ¬ (1 : Int) = a2.toInt := fun e9 => ah9 e9.symm
      have ah12 : ¬ a2.toInt = 2 := k_ne h12 (by decide)
      have bh12 : ¬ (2 : Int) = a2.toInt := fun e9 => ah12 e9.symm
      refine g_tabOut C 89 dX10_test_23 (by omega) (by decide) ?_
      refine g_iconst C (-1) dX10_test_89 (by decide) ?_
      exact g_iret C dX10_test_90
    · refine g_iconst C (-1) dX10_test_20 (by decide) ?_
      exact g_iret C dX10_test_21
theorem c_x10_test {Y : Yx} {ad : Nat → Nat} {N : Nat} {σ : St} {a1 : Int32} {a2 : Int32} {r : Int32} {σ' : St} (h : x10_test N σ a1 a2 = some (r, σ')) : Con Y scC ad yX10_test cX10_test 4 (some .int) 6 145 [.ref (ad 0), .int a1, .int a2] σ (outI r) σ' := con_of (by decide) rfl (Nat.le_of_ble_eq_true rfl) rfl (fun X hX C => s_x10_test C N σ a1 a2) h


def x10_run (N : Nat) (σ : St) (a1 : Int32) (a2 : Int32) : Option (Int32 × St) :=
  (if a2 < 0 then some ((-1), σ) else (if 256 ≤ a2 then some ((-1), σ) else bd (x7_allows N σ a1) (fun r1 σ2 => (if r1 = 0 then some ((-1), σ2) else bd (x6_go N σ2 a1 a2) (fun r3 σ4 => bd (x5_put N σ4 26 0 (gI σ4 1507)) (fun _ σ6 => bd (x5_put N σ6 26 1 (gI σ6 1510)) (fun _ σ8 => bd (x5_put N σ8 26 2 (gI σ8 1508)) (fun _ σ10 => bd (x5_put N σ10 26 3 (gI σ10 1509)) (fun _ σ12 => some (r3, σ12))))))))))
set_option maxHeartbeats 4000000 in
set_option maxRecDepth 100000 in
theorem s_x10_run {X : Cx} {ad : Nat → Nat} (C : Ok X cX10_run RX10 4 (some .int) 6 137) (N : Nat) (σ : St) (a1 : Int32) (a2 : Int32) : Sim X scC ad 4 outI 0 [(0, .ref (ad 0)), (1, .int a1), (2, .int a2)] [] σ (x10_run N σ a1 a2) := by
  unfold x10_run
  refine g_iload_n C 2 dX10_run_0 rfl rfl ?_
  refine g_if_lt C 22 dX10_run_1 (by decide) ?_ ?_
  · refine g_iconst C (-1) dX10_run_22 (by decide) ?_
    exact g_iret C dX10_run_23
  · refine g_iload_n C 2 dX10_run_4 rfl rfl ?_
    refine g_sipush C 256 dX10_run_5 (by decide) ?_
    refine g_icmp_ge C 22 dX10_run_8 (by decide) ?_ ?_
    · refine g_iconst C (-1) dX10_run_22 (by decide) ?_
      exact g_iret C dX10_run_23
    · refine g_aload_n C 0 dX10_run_11 rfl rfl ?_
      refine gf_RX10_45 C  dX10_run_12 ?_
      refine g_iload_n C 1 dX10_run_15 rfl rfl ?_
      refine v_x7_allows_RX10 C ⟨by decide, by decide⟩ (Nat.le_of_ble_eq_true rfl) dX10_run_16 (fun r1 σ2 _ => ?_)
      refine g_if_ne C 24 dX10_run_19 (by decide) ?_ ?_
      · refine g_aload_n C 0 dX10_run_24 rfl rfl ?_
        refine gf_RX10_61 C  dX10_run_25 ?_
        refine g_iload_n C 1 dX10_run_28 rfl rfl ?_
        refine g_iload_n C 2 dX10_run_29 rfl rfl ?_
        refine v_x6_go_RX10 C ⟨by decide, by decide⟩ (Nat.le_of_ble_eq_true rfl) dX10_run_30 (fun r3 σ4 _ => ?_)
        refine g_istore_n C [(3, .int r3), (0, .ref (ad 0)), (1, .int a1), (2, .int a2)] dX10_run_33 rfl (by decide) rfl ?_
        refine g_aload_n C 1 dX10_run_34 rfl rfl ?_
        refine gf_RX10_83 C  dX10_run_35 ?_
        refine g_iconst C 0 dX10_run_38 (by decide) ?_
        refine g_aload_n C 1 dX10_run_39 rfl rfl ?_
        refine gf_RX10_61 C  dX10_run_40 ?_
        refine gf_RX10_198 C  (v := gI σ4 1507) dX10_run_43 rfl ?_
        refine v_x5_put_RX10 C ⟨by decide, by decide⟩ (Nat.le_of_ble_eq_true rfl) dX10_run_46 (fun r5 σ6 _ => ?_)
        refine g_aload_n C 1 dX10_run_49 rfl rfl ?_
        refine gf_RX10_83 C  dX10_run_50 ?_
        refine g_iconst C 1 dX10_run_53 (by decide) ?_
        refine g_aload_n C 1 dX10_run_54 rfl rfl ?_
        refine gf_RX10_61 C  dX10_run_55 ?_
        refine gf_RX10_201 C  (v := gI σ6 1510) dX10_run_58 rfl ?_
        refine v_x5_put_RX10 C ⟨by decide, by decide⟩ (Nat.le_of_ble_eq_true rfl) dX10_run_61 (fun r7 σ8 _ => ?_)
        refine g_aload_n C 1 dX10_run_64 rfl rfl ?_
        refine gf_RX10_83 C  dX10_run_65 ?_
        refine g_iconst C 2 dX10_run_68 (by decide) ?_
        refine g_aload_n C 1 dX10_run_69 rfl rfl ?_
        refine gf_RX10_61 C  dX10_run_70 ?_
        refine gf_RX10_204 C  (v := gI σ8 1508) dX10_run_73 rfl ?_
        refine v_x5_put_RX10 C ⟨by decide, by decide⟩ (Nat.le_of_ble_eq_true rfl) dX10_run_76 (fun r9 σ10 _ => ?_)
        refine g_aload_n C 1 dX10_run_79 rfl rfl ?_
        refine gf_RX10_83 C  dX10_run_80 ?_
        refine g_iconst C 3 dX10_run_83 (by decide) ?_
        refine g_aload_n C 1 dX10_run_84 rfl rfl ?_
        refine gf_RX10_61 C  dX10_run_85 ?_
        refine gf_RX10_207 C  (v := gI σ10 1509) dX10_run_88 rfl ?_
        refine v_x5_put_RX10 C ⟨by decide, by decide⟩ (Nat.le_of_ble_eq_true rfl) dX10_run_91 (fun r11 σ12 _ => ?_)
        refine g_iload_n C 0 dX10_run_94 rfl rfl ?_
        exact g_iret C dX10_run_95
      · refine g_iconst C (-1) dX10_run_22 (by decide) ?_
        exact g_iret C dX10_run_23
theorem c_x10_run {Y : Yx} {ad : Nat → Nat} {N : Nat} {σ : St} {a1 : Int32} {a2 : Int32} {r : Int32} {σ' : St} (h : x10_run N σ a1 a2 = some (r, σ')) : Con Y scC ad yX10_run cX10_run 4 (some .int) 6 137 [.ref (ad 0), .int a1, .int a2] σ (outI r) σ' := con_of (by decide) rfl (Nat.le_of_ble_eq_true rfl) rfl (fun X hX C => s_x10_run C N σ a1 a2) h


def x10_ran_13 (N : Nat) (σ : St) : Option (Int32 × St) :=
  some ((-1), σ)
def x10_ran (N : Nat) (σ : St) (a1 : Int32) : Option (Int32 × St) :=
  (if a1 < 0 then x10_ran_13 N σ else (if a1 < 4 then gd (ib a1 4) (some (gA σ 26 a1.toNatClampNeg, σ)) else x10_ran_13 N σ))
set_option maxHeartbeats 4000000 in
set_option maxRecDepth 100000 in
theorem s_x10_ran_13 {X : Cx} {ad : Nat → Nat} (C : Ok X cX10_ran RX10 2 (some .int) 0 0) (N : Nat) (σ : St) : Sim X scC ad 2 outI 13 [] [] σ (x10_ran_13 N σ) := by
  unfold x10_ran_13
  refine g_iconst C (-1) dX10_ran_13 (by decide) ?_
  refine g_goto C 23 dX10_ran_14 (by decide) ?_
  exact g_iret C dX10_ran_23
set_option maxHeartbeats 4000000 in
set_option maxRecDepth 100000 in
theorem s_x10_ran {X : Cx} {ad : Nat → Nat} (C : Ok X cX10_ran RX10 2 (some .int) 0 0) (N : Nat) (σ : St) (a1 : Int32) : Sim X scC ad 2 outI 0 [(0, .ref (ad 0)), (1, .int a1)] [] σ (x10_ran N σ a1) := by
  unfold x10_ran
  refine g_iload_n C 1 dX10_ran_0 rfl rfl ?_
  refine g_if_lt C 13 dX10_ran_1 (by decide) ?_ ?_
  · exact g_sub [] rfl (s_x10_ran_13 C N σ)
  · refine g_iload_n C 1 dX10_ran_4 rfl rfl ?_
    refine g_aload_n C 0 dX10_ran_5 rfl rfl ?_
    refine gf_RX10_83 C  dX10_ran_6 ?_
    refine ca_lenI C (j := 26) 4 ia_26 (by rw [il_26]; decide) dX10_ran_9 ?_
    refine g_icmp_lt C 17 dX10_ran_10 (by decide) ?_ ?_
    · refine g_aload_n C 0 dX10_ran_17 rfl rfl ?_
      refine gf_RX10_83 C  dX10_ran_18 ?_
      refine g_iload_n C 1 dX10_ran_21 rfl rfl ?_
      refine ca_ldI C (j := 26) (v := gA σ 26 a1.toNatClampNeg) ia_26 il_26 dX10_ran_22 rfl ?_
      exact g_iret C dX10_ran_23
    · exact g_sub [] rfl (s_x10_ran_13 C N σ)
theorem c_x10_ran {Y : Yx} {ad : Nat → Nat} {N : Nat} {σ : St} {a1 : Int32} {r : Int32} {σ' : St} (h : x10_ran N σ a1 = some (r, σ')) : Con Y scC ad yX10_ran cX10_ran 2 (some .int) 0 0 [.ref (ad 0), .int a1] σ (outI r) σ' := con_of (by decide) rfl (Nat.le_of_ble_eq_true rfl) rfl (fun X hX C => s_x10_ran C N σ a1) h


def x10_tries (N : Nat) (σ : St) (a1 : Int32) : Option (Int32 × St) :=
  (if a1 < 0 then some ((-1), σ) else gd (isPr (gP σ 700)) ((if a1 < (gI σ (100 * (gP σ 700) + 11)) then bd (x1_settle N σ 0) (fun _ σ3 => bd (x1_guardsNeeded N σ3) (fun r4 σ5 => bd (x9_fill N σ5 r4) (fun _ σ7 => bd (x5_at N σ7 20 a1) (fun r8 σ9 => some (r8, σ9))))) else some ((-1), σ))))
set_option maxHeartbeats 4000000 in
set_option maxRecDepth 100000 in
theorem s_x10_tries {X : Cx} {ad : Nat → Nat} (C : Ok X cX10_tries RX10 2 (some .int) 7 161) (N : Nat) (σ : St) (a1 : Int32) : Sim X scC ad 2 outI 0 [(0, .ref (ad 0)), (1, .int a1)] [] σ (x10_tries N σ a1) := by
  unfold x10_tries
  refine g_iload_n C 1 dX10_tries_0 rfl rfl ?_
  refine g_if_lt C 18 dX10_tries_1 (by decide) ?_ ?_
  · refine g_iconst C (-1) dX10_tries_18 (by decide) ?_
    exact g_iret C dX10_tries_19
  · refine g_iload_n C 1 dX10_tries_4 rfl rfl ?_
    refine g_aload_n C 0 dX10_tries_5 rfl rfl ?_
    refine gf_RX10_45 C  dX10_tries_6 ?_
    refine gf_RX10_110 C  (v := gP σ 700) dX10_tries_9 rfl ?_
    refine g_gd (fun hp1 => ?_)
    refine gf_RX10_157 C hp1 (v := gI σ (100 * (gP σ 700) + 11)) dX10_tries_12 rfl ?_
    refine g_icmp_lt C 20 dX10_tries_15 (by decide) ?_ ?_
    · refine g_aload_n C 0 dX10_tries_20 rfl rfl ?_
      refine gf_RX10_54 C  dX10_tries_21 ?_
      refine g_lconst C 0 dX10_tries_24 (by decide) ?_
      refine v_x1_settle_RX10 C ⟨by decide, by decide⟩ (Nat.le_of_ble_eq_true rfl) dX10_tries_25 (fun r2 σ3 _ => ?_)
      refine g_aload_n C 0 dX10_tries_28 rfl rfl ?_
      refine gf_RX10_70 C  dX10_tries_29 ?_
      refine g_aload_n C 0 dX10_tries_32 rfl rfl ?_
      refine gf_RX10_54 C  dX10_tries_33 ?_
      refine v_x1_guardsNeeded_RX10 C ⟨by decide, by decide⟩ (Nat.le_of_ble_eq_true rfl) dX10_tries_36 (fun r4 σ5 _ => ?_)
      refine v_x9_fill_RX10 C ⟨by decide, by decide⟩ (Nat.le_of_ble_eq_true rfl) dX10_tries_39 (fun r6 σ7 _ => ?_)
      refine g_aload_n C 0 dX10_tries_42 rfl rfl ?_
      refine gf_RX10_70 C  dX10_tries_43 ?_
      refine gf_RX10_216 C  dX10_tries_46 ?_
      refine g_iload_n C 1 dX10_tries_49 rfl rfl ?_
      refine v_x5_at_RX10 C ⟨by decide, by decide⟩ (Nat.le_of_ble_eq_true rfl) dX10_tries_50 (fun r8 σ9 _ => ?_)
      exact g_iret C dX10_tries_53
    · refine g_iconst C (-1) dX10_tries_18 (by decide) ?_
      exact g_iret C dX10_tries_19
theorem c_x10_tries {Y : Yx} {ad : Nat → Nat} {N : Nat} {σ : St} {a1 : Int32} {r : Int32} {σ' : St} (h : x10_tries N σ a1 = some (r, σ')) : Con Y scC ad yX10_tries cX10_tries 2 (some .int) 7 161 [.ref (ad 0), .int a1] σ (outI r) σ' := con_of (by decide) rfl (Nat.le_of_ble_eq_true rfl) rfl (fun X hX C => s_x10_tries C N σ a1) h


def x10_price (N : Nat) (σ : St) (a1 : Int32) (a2 : Int32) : Option (Int32 × St) :=
  (if a1 < 0 then some (0, σ) else (if 3 < a1 then some (0, σ) else (if a2 < 1 then some (0, σ) else (if a2 ≤ 99 then bd (x5_put N σ 23 a1 a2) (fun _ σ2 => some (1, (sI σ2 2204 1))) else some (0, σ)))))
set_option maxHeartbeats 4000000 in
set_option maxRecDepth 100000 in
theorem s_x10_price {X : Cx} {ad : Nat → Nat} (C : Ok X cX10_price RX10 3 (some .boolean) 1 22) (N : Nat) (σ : St) (a1 : Int32) (a2 : Int32) : Sim X scC ad 3 outI 0 [(0, .ref (ad 0)), (1, .int a1), (2, .int a2)] [] σ (x10_price N σ a1 a2) := by
  unfold x10_price
  refine g_iload_n C 1 dX10_price_0 rfl rfl ?_
  refine g_if_lt C 20 dX10_price_1 (by decide) ?_ ?_
  · refine g_iconst C 0 dX10_price_20 (by decide) ?_
    exact g_zret C rfl dX10_price_21
  · refine g_iload_n C 1 dX10_price_4 rfl rfl ?_
    refine g_iconst C 3 dX10_price_5 (by decide) ?_
    refine g_icmp_gt C 20 dX10_price_6 (by decide) ?_ ?_
    · refine g_iconst C 0 dX10_price_20 (by decide) ?_
      exact g_zret C rfl dX10_price_21
    · refine g_iload_n C 2 dX10_price_9 rfl rfl ?_
      refine g_iconst C 1 dX10_price_10 (by decide) ?_
      refine g_icmp_lt C 20 dX10_price_11 (by decide) ?_ ?_
      · refine g_iconst C 0 dX10_price_20 (by decide) ?_
        exact g_zret C rfl dX10_price_21
      · refine g_iload_n C 2 dX10_price_14 rfl rfl ?_
        refine g_bipush C 99 dX10_price_15 (by decide) ?_
        refine g_icmp_le C 22 dX10_price_17 (by decide) ?_ ?_
        · refine g_aload_n C 0 dX10_price_22 rfl rfl ?_
          refine gf_RX10_79 C  dX10_price_23 ?_
          refine gf_RX10_218 C  dX10_price_26 ?_
          refine g_iload_n C 1 dX10_price_29 rfl rfl ?_
          refine g_iload_n C 2 dX10_price_30 rfl rfl ?_
          refine v_x5_put_RX10 C ⟨by decide, by decide⟩ (Nat.le_of_ble_eq_true rfl) dX10_price_31 (fun r1 σ2 _ => ?_)
          refine g_aload_n C 0 dX10_price_34 rfl rfl ?_
          refine gf_RX10_79 C  dX10_price_35 ?_
          refine g_iconst C 1 dX10_price_38 (by decide) ?_
          refine pf_RX10_221 C rfl dX10_price_39 ?_
          refine g_iconst C 1 dX10_price_42 (by decide) ?_
          exact g_zret C rfl dX10_price_43
        · refine g_iconst C 0 dX10_price_20 (by decide) ?_
          exact g_zret C rfl dX10_price_21
theorem c_x10_price {Y : Yx} {ad : Nat → Nat} {N : Nat} {σ : St} {a1 : Int32} {a2 : Int32} {r : Int32} {σ' : St} (h : x10_price N σ a1 a2 = some (r, σ')) : Con Y scC ad yX10_price cX10_price 3 (some .boolean) 1 22 [.ref (ad 0), .int a1, .int a2] σ (outI r) σ' := con_of (by decide) rfl (Nat.le_of_ble_eq_true rfl) rfl (fun X hX C => s_x10_price C N σ a1 a2) h


def x10_mend (N : Nat) (σ : St) : Option (Int32 × St) :=
  gd (isPr (gP σ 700)) ((if (gI σ (100 * (gP σ 700) + 10)) = 0 then some ((-1), σ) else bd (x2_search N σ) (fun _ σ3 => some (gI σ3 2207, σ3))))
set_option maxHeartbeats 4000000 in
set_option maxRecDepth 100000 in
theorem s_x10_mend {X : Cx} {ad : Nat → Nat} (C : Ok X cX10_mend RX10 1 (some .int) 7 167) (N : Nat) (σ : St) : Sim X scC ad 1 outI 0 [(0, .ref (ad 0))] [] σ (x10_mend N σ) := by
  unfold x10_mend
  refine g_aload_n C 0 dX10_mend_0 rfl rfl ?_
  refine gf_RX10_45 C  dX10_mend_1 ?_
  refine gf_RX10_110 C  (v := gP σ 700) dX10_mend_4 rfl ?_
  refine g_gd (fun hp1 => ?_)
  refine gf_RX10_122 C hp1 (v := gI σ (100 * (gP σ 700) + 10)) dX10_mend_7 rfl ?_
  refine g_if_ne C 15 dX10_mend_10 (by decide) ?_ ?_
  · refine g_aload_n C 0 dX10_mend_15 rfl rfl ?_
    refine gf_RX10_79 C  dX10_mend_16 ?_
    refine v_x2_search_RX10 C ⟨by decide, by decide⟩ (Nat.le_of_ble_eq_true rfl) dX10_mend_19 (fun r2 σ3 _ => ?_)
    refine g_aload_n C 0 dX10_mend_22 rfl rfl ?_
    refine gf_RX10_79 C  dX10_mend_23 ?_
    refine gf_RX10_228 C  (v := gI σ3 2207) dX10_mend_26 rfl ?_
    exact g_iret C dX10_mend_29
  · refine g_iconst C (-1) dX10_mend_13 (by decide) ?_
    exact g_iret C dX10_mend_14
theorem c_x10_mend {Y : Yx} {ad : Nat → Nat} {N : Nat} {σ : St} {r : Int32} {σ' : St} (h : x10_mend N σ = some (r, σ')) : Con Y scC ad yX10_mend cX10_mend 1 (some .int) 7 167 [.ref (ad 0)] σ (outI r) σ' := con_of (by decide) rfl (Nat.le_of_ble_eq_true rfl) rfl (fun X hX C => s_x10_mend C N σ) h


def x10_mended_56 (N : Nat) (σ : St) : Option (Int32 × St) :=
  some ((-1), σ)
def x10_mended (N : Nat) (σ : St) (a1 : Int32) : Option (Int32 × St) :=
  (if (gI σ 2207) = (-1) then some ((-1), σ) else (if a1 = 0 then some (gI σ 2209, σ) else (if a1 = 1 then some (gI σ 2208, σ) else (if a1 < 2 then x10_mended_56 N σ else (if (a1 - 2) < (gI σ 2209) then bd (x5_at N σ 25 (a1 - 2)) (fun r1 σ2 => some (r1, σ2)) else x10_mended_56 N σ)))))
set_option maxHeartbeats 4000000 in
set_option maxRecDepth 100000 in
theorem s_x10_mended_56 {X : Cx} {ad : Nat → Nat} (C : Ok X cX10_mended RX10 2 (some .int) 1 21) (N : Nat) (σ : St) : Sim X scC ad 2 outI 56 [] [] σ (x10_mended_56 N σ) := by
  unfold x10_mended_56
  refine g_iconst C (-1) dX10_mended_56 (by decide) ?_
  refine g_goto C 73 dX10_mended_57 (by decide) ?_
  exact g_iret C dX10_mended_73
set_option maxHeartbeats 4000000 in
set_option maxRecDepth 100000 in
theorem s_x10_mended {X : Cx} {ad : Nat → Nat} (C : Ok X cX10_mended RX10 2 (some .int) 1 21) (N : Nat) (σ : St) (a1 : Int32) : Sim X scC ad 2 outI 0 [(0, .ref (ad 0)), (1, .int a1)] [] σ (x10_mended N σ a1) := by
  unfold x10_mended
  refine g_aload_n C 0 dX10_mended_0 rfl rfl ?_
  refine gf_RX10_79 C  dX10_mended_1 ?_
  refine gf_RX10_228 C  (v := gI σ 2207) dX10_mended_4 rfl ?_
  refine g_iconst C (-1) dX10_mended_7 (by decide) ?_
  refine g_icmp_ne C 13 dX10_mended_8 (by decide) ?_ ?_
  · refine g_iload_n C 1 dX10_mended_13 rfl rfl ?_
    refine g_if_ne C 25 dX10_mended_14 (by decide) ?_ ?_
    · refine g_iload_n C 1 dX10_mended_25 rfl rfl ?_
      refine g_iconst C 1 dX10_mended_26 (by decide) ?_
      refine g_icmp_ne C 38 dX10_mended_27 (by decide) ?_ ?_
      · refine g_iload_n C 1 dX10_mended_38 rfl rfl ?_
        refine g_iconst C 2 dX10_mended_39 (by decide) ?_
        refine g_icmp_lt C 56 dX10_mended_40 (by decide) ?_ ?_
        · exact g_sub [] rfl (s_x10_mended_56 C N σ)
        · refine g_iload_n C 1 dX10_mended_43 rfl rfl ?_
          refine g_iconst C 2 dX10_mended_44 (by decide) ?_
          refine g_isub C dX10_mended_45 ?_
          refine g_aload_n C 0 dX10_mended_46 rfl rfl ?_
          refine gf_RX10_79 C  dX10_mended_47 ?_
          refine gf_RX10_231 C  (v := gI σ 2209) dX10_mended_50 rfl ?_
          refine g_icmp_lt C 60 dX10_mended_53 (by decide) ?_ ?_
          · refine g_aload_n C 0 dX10_mended_60 rfl rfl ?_
            refine gf_RX10_79 C  dX10_mended_61 ?_
            refine gf_RX10_237 C  dX10_mended_64 ?_
            refine g_iload_n C 1 dX10_mended_67 rfl rfl ?_
            refine g_iconst C 2 dX10_mended_68 (by decide) ?_
            refine g_isub C dX10_mended_69 ?_
            refine v_x5_at_RX10 C ⟨by decide, by decide⟩ (Nat.le_of_ble_eq_true rfl) dX10_mended_70 (fun r1 σ2 _ => ?_)
            exact g_iret C dX10_mended_73
          · exact g_sub [] rfl (s_x10_mended_56 C N σ)
      · refine g_aload_n C 0 dX10_mended_30 rfl rfl ?_
        refine gf_RX10_79 C  dX10_mended_31 ?_
        refine gf_RX10_234 C  (v := gI σ 2208) dX10_mended_34 rfl ?_
        exact g_iret C dX10_mended_37
    · refine g_aload_n C 0 dX10_mended_17 rfl rfl ?_
      refine gf_RX10_79 C  dX10_mended_18 ?_
      refine gf_RX10_231 C  (v := gI σ 2209) dX10_mended_21 rfl ?_
      exact g_iret C dX10_mended_24
  · refine g_iconst C (-1) dX10_mended_11 (by decide) ?_
    exact g_iret C dX10_mended_12
theorem c_x10_mended {Y : Yx} {ad : Nat → Nat} {N : Nat} {σ : St} {a1 : Int32} {r : Int32} {σ' : St} (h : x10_mended N σ a1 = some (r, σ')) : Con Y scC ad yX10_mended cX10_mended 2 (some .int) 1 21 [.ref (ad 0), .int a1] σ (outI r) σ' := con_of (by decide) rfl (Nat.le_of_ble_eq_true rfl) rfl (fun X hX C => s_x10_mended C N σ a1) h


def x10_usesOfFact_44 (N : Nat) (rec12 : St → Int32 → Int32 → Int32 → Option (Int32 × St)) (σ : St) (x1 : Int32) (x2 : Int32) (x3 : Int32) : Option (Int32 × St) :=
  rec12 σ x1 x2 (x3 + 1)
def x10_usesOfFact_12_b (N : Nat) (rec12 : St → Int32 → Int32 → Int32 → Option (Int32 × St)) (σ : St) (x1 : Int32) (x2 : Int32) (x3 : Int32) : Option (Int32 × St) :=
  gd (isPr (gP σ 700)) ((if (gI σ (100 * (gP σ 700) + 11)) ≤ x3 then some (x2, σ) else bd (x5_at N σ 13 x3) (fun r4 σ5 => (if r4 = x1 then x10_usesOfFact_44 N rec12 σ5 x1 (x2 + 1) x3 else x10_usesOfFact_44 N rec12 σ5 x1 x2 x3))))
def x10_usesOfFact_12 (N : Nat) : Nat → St → Int32 → Int32 → Int32 → Option (Int32 × St)
  | 0 => fun _ _ _ _ => none
  | n + 1 => fun σ x1 x2 x3 => x10_usesOfFact_12_b N (x10_usesOfFact_12 N n) σ x1 x2 x3
def x10_usesOfFact (N : Nat) (σ : St) (a1 : Int32) : Option (Int32 × St) :=
  bd (x1_settle N σ 0) (fun _ σ2 => x10_usesOfFact_12 N N σ2 a1 0 0)
set_option maxHeartbeats 4000000 in
set_option maxRecDepth 100000 in
theorem s_x10_usesOfFact_44 {X : Cx} {ad : Nat → Nat} (C : Ok X cX10_usesOfFact RX10 4 (some .int) 6 145) (N : Nat) {rec12 : St → Int32 → Int32 → Int32 → Option (Int32 × St)} (hrec12 : ∀ (σ : St) (x1 : Int32) (x2 : Int32) (x3 : Int32), Sim X scC ad 4 outI 12 [(0, .ref (ad 0)), (1, .int x1), (2, .int x2), (3, .int x3)] [] σ (rec12 σ x1 x2 x3)) (σ : St) (x1 : Int32) (x2 : Int32) (x3 : Int32) : Sim X scC ad 4 outI 44 [(0, .ref (ad 0)), (1, .int x1), (2, .int x2), (3, .int x3)] [] σ (x10_usesOfFact_44 N rec12 σ x1 x2 x3) := by
  unfold x10_usesOfFact_44
  refine g_iinc C (x3 + 1) 3 [(3, .int (x3 + 1)), (0, .ref (ad 0)), (1, .int x1), (2, .int x2)] dX10_usesOfFact_44 rfl rfl (by decide) rfl ?_
  refine g_goto C 12 dX10_usesOfFact_47 (by decide) ?_
  exact g_sub [1, 2, 3, 0] rfl (hrec12 σ x1 x2 (x3 + 1))
set_option maxHeartbeats 4000000 in
set_option maxRecDepth 100000 in
theorem s_x10_usesOfFact_12_b {X : Cx} {ad : Nat → Nat} (C : Ok X cX10_usesOfFact RX10 4 (some .int) 6 145) (N : Nat) {rec12 : St → Int32 → Int32 → Int32 → Option (Int32 × St)} (hrec12 : ∀ (σ : St) (x1 : Int32) (x2 : Int32) (x3 : Int32), Sim X scC ad 4 outI 12 [(0, .ref (ad 0)), (1, .int x1), (2, .int x2), (3, .int x3)] [] σ (rec12 σ x1 x2 x3)) (σ : St) (x1 : Int32) (x2 : Int32) (x3 : Int32) : Sim X scC ad 4 outI 12 [(0, .ref (ad 0)), (1, .int x1), (2, .int x2), (3, .int x3)] [] σ (x10_usesOfFact_12_b N rec12 σ x1 x2 x3) := by
  unfold x10_usesOfFact_12_b
  refine g_iload_n C 3 dX10_usesOfFact_12 rfl rfl ?_
  refine g_aload_n C 0 dX10_usesOfFact_13 rfl rfl ?_
  refine gf_RX10_45 C  dX10_usesOfFact_14 ?_
  refine gf_RX10_110 C  (v := gP σ 700) dX10_usesOfFact_17 rfl ?_
  refine g_gd (fun hp3 => ?_)
  refine gf_RX10_157 C hp3 (v := gI σ (100 * (gP σ 700) + 11)) dX10_usesOfFact_20 rfl ?_
  refine g_icmp_ge C 50 dX10_usesOfFact_23 (by decide) ?_ ?_
  · refine g_iload_n C 2 dX10_usesOfFact_50 rfl rfl ?_
    exact g_iret C dX10_usesOfFact_51
  · refine g_aload_n C 0 dX10_usesOfFact_26 rfl rfl ?_
    refine gf_RX10_54 C  dX10_usesOfFact_27 ?_
    refine gf_RX10_160 C  dX10_usesOfFact_30 ?_
    refine g_iload_n C 3 dX10_usesOfFact_33 rfl rfl ?_
    refine v_x5_at_RX10 C ⟨by decide, by decide⟩ (Nat.le_of_ble_eq_true rfl) dX10_usesOfFact_34 (fun r4 σ5 _ => ?_)
    refine g_iload_n C 1 dX10_usesOfFact_37 rfl rfl ?_
    refine g_icmp_ne C 44 dX10_usesOfFact_38 (by decide) ?_ ?_
    · exact g_sub [0, 1, 2, 3] rfl (s_x10_usesOfFact_44 C N hrec12 σ5 x1 x2 x3)
    · refine g_iinc C (x2 + 1) 2 [(2, .int (x2 + 1)), (0, .ref (ad 0)), (1, .int x1), (3, .int x3)] dX10_usesOfFact_41 rfl rfl (by decide) rfl ?_
      exact g_sub [1, 2, 0, 3] rfl (s_x10_usesOfFact_44 C N hrec12 σ5 x1 (x2 + 1) x3)
set_option maxHeartbeats 4000000 in
set_option maxRecDepth 100000 in
theorem s_x10_usesOfFact_12 {X : Cx} {ad : Nat → Nat} (C : Ok X cX10_usesOfFact RX10 4 (some .int) 6 145) (N : Nat) : ∀ (n : Nat) (σ : St) (x1 : Int32) (x2 : Int32) (x3 : Int32), Sim X scC ad 4 outI 12 [(0, .ref (ad 0)), (1, .int x1), (2, .int x2), (3, .int x3)] [] σ (x10_usesOfFact_12 N n σ x1 x2 x3) := by
  intro n
  induction n with
  | zero => intro σ x1 x2 x3; exact g_none
  | succ n ih => intro σ x1 x2 x3; exact s_x10_usesOfFact_12_b C N ih σ x1 x2 x3
set_option maxHeartbeats 4000000 in
set_option maxRecDepth 100000 in
theorem s_x10_usesOfFact {X : Cx} {ad : Nat → Nat} (C : Ok X cX10_usesOfFact RX10 4 (some .int) 6 145) (N : Nat) (σ : St) (a1 : Int32) : Sim X scC ad 4 outI 0 [(0, .ref (ad 0)), (1, .int a1)] [] σ (x10_usesOfFact N σ a1) := by
  unfold x10_usesOfFact
  refine g_aload_n C 0 dX10_usesOfFact_0 rfl rfl ?_
  refine gf_RX10_54 C  dX10_usesOfFact_1 ?_
  refine g_lconst C 0 dX10_usesOfFact_4 (by decide) ?_
  refine v_x1_settle_RX10 C ⟨by decide, by decide⟩ (Nat.le_of_ble_eq_true rfl) dX10_usesOfFact_5 (fun r1 σ2 _ => ?_)
  refine g_iconst C 0 dX10_usesOfFact_8 (by decide) ?_
  refine g_istore_n C [(2, .int 0), (0, .ref (ad 0)), (1, .int a1)] dX10_usesOfFact_9 rfl (by decide) rfl ?_
  refine g_iconst C 0 dX10_usesOfFact_10 (by decide) ?_
  refine g_istore_n C [(3, .int 0), (2, .int 0), (0, .ref (ad 0)), (1, .int a1)] dX10_usesOfFact_11 rfl (by decide) rfl ?_
  exact g_sub [2, 3, 1, 0] rfl (s_x10_usesOfFact_12 C N N σ2 a1 0 0)
theorem c_x10_usesOfFact {Y : Yx} {ad : Nat → Nat} {N : Nat} {σ : St} {a1 : Int32} {r : Int32} {σ' : St} (h : x10_usesOfFact N σ a1 = some (r, σ')) : Con Y scC ad yX10_usesOfFact cX10_usesOfFact 4 (some .int) 6 145 [.ref (ad 0), .int a1] σ (outI r) σ' := con_of (by decide) rfl (Nat.le_of_ble_eq_true rfl) rfl (fun X hX C => s_x10_usesOfFact C N σ a1) h
set_option maxRecDepth 20000 in
theorem v_x10_usesOfFact_RX10 {X : Cx} {cc : ByteArray} {nL : Nat} {ret : Option FieldType} {fr lo : Nat} {ad : Nat → Nat} {ρ : Type} {out : ρ → Option Value} {pc : Nat} {lv : List (Nat × Value)} {rest : List Value} {σ : St} {N : Nat} {K : Int32 → St → Option (ρ × St)} {a1 : Int32} (C : Ok X cc RX10 nL ret fr lo) (hR : 6 + 1 ≤ fr ∧ 8 + (4 + 11) + 145 ≤ lo) (hcat : (rest.map fun v => v.category).sum ≤ 8) (hdg : decode cc pc = .ok (.invokevirtual 243, 3)) (k : ∀ (r : Int32) (σ' : St), x10_usesOfFact N σ a1 = some (r, σ') → Sim X scC ad nL out (pc + 3) lv (.int r :: rest) σ' (K r σ')) : Sim X scC ad nL out pc lv (.int a1 :: .ref (ad 0) :: rest) σ (bd (x10_usesOfFact N σ a1) K) := g_callV C (out1 := outI) (y := yX10_usesOfFact) (n := 1) ⟨gw_1088, gw_1090, gw_60, gw_107, gw_1091⟩ (by decide +kernel) hR (o := 0) (ci := 9) (q9 := (RX10, TX10, 13)) im_0 rfl rfl rfl (fun r σ' h => c_x10_usesOfFact h) rfl rfl hcat hdg k

def x10_count (N : Nat) (σ : St) (a1 : Int32) : Option (Int32 × St) :=
  (if a1 = 0 then gd (isPr (gP σ 700)) (some (gI σ (100 * (gP σ 700) + 10), σ)) else (if a1 = 1 then gd (isPr (gP σ 700)) (some (gI σ (100 * (gP σ 700) + 11), σ)) else (if a1 = 2 then gd (isPr (gP σ 700)) (some (gI σ (100 * (gP σ 700) + 12), σ)) else (if a1 = 3 then some (gI σ 701, σ) else (if a1 = 4 then bd (x10_usesOfFact N σ 3) (fun r9 σ10 => some (r9, σ10)) else (if a1 = 5 then bd (x10_usesOfFact N σ 1) (fun r12 σ13 => some (r12, σ13)) else some ((-1), σ)))))))
set_option maxHeartbeats 4000000 in
set_option maxRecDepth 100000 in
theorem s_x10_count {X : Cx} {ad : Nat → Nat} (C : Ok X cX10_count RX10 2 (some .int) 7 168) (N : Nat) (σ : St) (a1 : Int32) : Sim X scC ad 2 outI 0 [(0, .ref (ad 0)), (1, .int a1)] [] σ (x10_count N σ a1) := by
  unfold x10_count
  refine g_iload_n C 1 dX10_count_0 rfl rfl ?_
  refine g_cs (fun h1 => ?_) (fun h1 => ?_)
  · refine g_tabIn C (off := 39) 40 (0) (by rw [h1]; decide) dX10_count_1 (by decide) (by decide) (by decide) (by decide) ?_
    refine g_aload_n C 0 dX10_count_40 rfl rfl ?_
    refine gf_RX10_45 C  dX10_count_41 ?_
    refine gf_RX10_110 C  (v := gP σ 700) dX10_count_44 rfl ?_
    refine g_gd (fun hp2 => ?_)
    refine gf_RX10_122 C hp2 (v := gI σ (100 * (gP σ 700) + 10)) dX10_count_47 rfl ?_
    exact g_iret C dX10_count_50
  refine g_cs (fun h3 => ?_) (fun h3 => ?_)
  · refine g_tabIn C (off := 50) 51 (1) (by rw [h3]; decide) dX10_count_1 (by decide) (by decide) (by decide) (by decide) ?_
    refine g_aload_n C 0 dX10_count_51 rfl rfl ?_
    refine gf_RX10_45 C  dX10_count_52 ?_
    refine gf_RX10_110 C  (v := gP σ 700) dX10_count_55 rfl ?_
    refine g_gd (fun hp4 => ?_)
    refine gf_RX10_157 C hp4 (v := gI σ (100 * (gP σ 700) + 11)) dX10_count_58 rfl ?_
    exact g_iret C dX10_count_61
  refine g_cs (fun h5 => ?_) (fun h5 => ?_)
  · refine g_tabIn C (off := 61) 62 (2) (by rw [h5]; decide) dX10_count_1 (by decide) (by decide) (by decide) (by decide) ?_
    refine g_aload_n C 0 dX10_count_62 rfl rfl ?_
    refine gf_RX10_45 C  dX10_count_63 ?_
    refine gf_RX10_110 C  (v := gP σ 700) dX10_count_66 rfl ?_
    refine g_gd (fun hp6 => ?_)
    refine gf_RX10_176 C hp6 (v := gI σ (100 * (gP σ 700) + 12)) dX10_count_69 rfl ?_
    exact g_iret C dX10_count_72
  refine g_cs (fun h7 => ?_) (fun h7 => ?_)
  · refine g_tabIn C (off := 72) 73 (3) (by rw [h7]; decide) dX10_count_1 (by decide) (by decide) (by decide) (by decide) ?_
    refine g_aload_n C 0 dX10_count_73 rfl rfl ?_
    refine gf_RX10_45 C  dX10_count_74 ?_
    refine gf_RX10_240 C  (v := gI σ 701) dX10_count_77 rfl ?_
    exact g_iret C dX10_count_80
  refine g_cs (fun h8 => ?_) (fun h8 => ?_)
  · refine g_tabIn C (off := 80) 81 (4) (by rw [h8]; decide) dX10_count_1 (by decide) (by decide) (by decide) (by decide) ?_
    refine g_aload_n C 0 dX10_count_81 rfl rfl ?_
    refine g_iconst C 3 dX10_count_82 (by decide) ?_
    refine v_x10_usesOfFact_RX10 C ⟨by decide, by decide⟩ (Nat.le_of_ble_eq_true rfl) dX10_count_83 (fun r9 σ10 _ => ?_)
    exact g_iret C dX10_count_86
  refine g_cs (fun h11 => ?_) (fun h11 => ?_)
  · refine g_tabIn C (off := 86) 87 (5) (by rw [h11]; decide) dX10_count_1 (by decide) (by decide) (by decide) (by decide) ?_
    refine g_aload_n C 0 dX10_count_87 rfl rfl ?_
    refine g_iconst C 1 dX10_count_88 (by decide) ?_
    refine v_x10_usesOfFact_RX10 C ⟨by decide, by decide⟩ (Nat.le_of_ble_eq_true rfl) dX10_count_89 (fun r12 σ13 _ => ?_)
    exact g_iret C dX10_count_92
  have ah1 : ¬ a1.toInt = 0 := k_ne h1 (by decide)
  have bh1 : ¬ (0 : Int) = a1.toInt := fun e9 => ah1 e9.symm
  have ah3 : ¬ a1.toInt = 1 := k_ne h3 (by decide)
  have bh3 : ¬ (1 : Int) = a1.toInt := fun e9 => ah3 e9.symm
  have ah5 : ¬ a1.toInt = 2 := k_ne h5 (by decide)
  have bh5 : ¬ (2 : Int) = a1.toInt := fun e9 => ah5 e9.symm
  have ah7 : ¬ a1.toInt = 3 := k_ne h7 (by decide)
  have bh7 : ¬ (3 : Int) = a1.toInt := fun e9 => ah7 e9.symm
  have ah8 : ¬ a1.toInt = 4 := k_ne h8 (by decide)
  have bh8 : ¬ (4 : Int) = a1.toInt := fun e9 => ah8 e9.symm
  have ah11 : ¬ a1.toInt = 5 := k_ne h11 (by decide)
  have bh11 : ¬ (5 : Int) = a1.toInt := fun e9 => ah11 e9.symm
  refine g_tabOut C 93 dX10_count_1 (by omega) (by decide) ?_
  refine g_iconst C (-1) dX10_count_93 (by decide) ?_
  exact g_iret C dX10_count_94
theorem c_x10_count {Y : Yx} {ad : Nat → Nat} {N : Nat} {σ : St} {a1 : Int32} {r : Int32} {σ' : St} (h : x10_count N σ a1 = some (r, σ')) : Con Y scC ad yX10_count cX10_count 2 (some .int) 7 168 [.ref (ad 0), .int a1] σ (outI r) σ' := con_of (by decide) rfl (Nat.le_of_ble_eq_true rfl) rfl (fun X hX C => s_x10_count C N σ a1) h

