def m_mended (N : Nat) (σ : St) (a1 : Int32) : Option (Int32 × St) :=
  (if (gI σ 67) = 0 then some ((-1), (sI σ 0 0)) else (if a1 < 0 then some ((-1), (sI σ 0 0)) else (if a1 < (2 + (gI σ 64)) then (if 2 ≤ a1 then gd (ib (a1 - 2) 10) ((if 32 ≤ (gA σ 66 ((a1 - 2).toNatClampNeg)) then (if 40 ≤ (gA σ 66 ((a1 - 2).toNatClampNeg)) then some ((200 + (gA σ 66 ((a1 - 2).toNatClampNeg))) - 40, (sI σ 0 0)) else some (100 + (10 * ((gA σ 66 ((a1 - 2).toNatClampNeg)) - 32)), (sI σ 0 0))) else some ((10 * ((gA σ 66 ((a1 - 2).toNatClampNeg)) / 4)) + ((gA σ 66 ((a1 - 2).toNatClampNeg)) - (gA σ 66 ((a1 - 2).toNatClampNeg)) / 4 * 4), (sI σ 0 0)))) else (if a1 = 0 then some (gI σ 64, (sI σ 0 0)) else some (gI σ 65, (sI σ 0 0)))) else some ((-1), (sI σ 0 0)))))
set_option maxHeartbeats 4000000 in
set_option maxRecDepth 100000 in
theorem s_m_mended {X : Cx} {ad : Nat → Nat} (C : Ok X cX11_mended RX11 3 (some .int) 0 0) (N : Nat) (σ : St) (a1 : Int32) : Sim X scM ad 3 outI 0 [(0, .ref (ad 0)), (1, .int a1)] [] σ (m_mended N σ a1) := by
  unfold m_mended
  refine g_aload_n C 0 dX11_mended_0 rfl rfl ?_
  refine g_iconst C 0 dX11_mended_1 (by decide) ?_
  refine mp0 C dX11_mended_2 ?_
  refine g_aload_n C 0 dX11_mended_5 rfl rfl ?_
  refine mg67 C (v := gI σ 67) dX11_mended_6 rfl ?_
  refine g_if_eq C 26 dX11_mended_9 (by decide) ?_ ?_
  · refine g_iconst C (-1) dX11_mended_26 (by decide) ?_
    exact g_iret C dX11_mended_27
  · refine g_iload_n C 1 dX11_mended_12 rfl rfl ?_
    refine g_if_lt C 26 dX11_mended_13 (by decide) ?_ ?_
    · refine g_iconst C (-1) dX11_mended_26 (by decide) ?_
      exact g_iret C dX11_mended_27
    · refine g_iload_n C 1 dX11_mended_16 rfl rfl ?_
      refine g_iconst C 2 dX11_mended_17 (by decide) ?_
      refine g_aload_n C 0 dX11_mended_18 rfl rfl ?_
      refine mg64 C (v := gI σ 64) dX11_mended_19 rfl ?_
      refine g_iadd C dX11_mended_22 ?_
      refine g_icmp_lt C 28 dX11_mended_23 (by decide) ?_ ?_
      · refine g_iload_n C 1 dX11_mended_28 rfl rfl ?_
        refine g_iconst C 2 dX11_mended_29 (by decide) ?_
        refine g_icmp_ge C 49 dX11_mended_30 (by decide) ?_ ?_
        · refine g_aload_n C 0 dX11_mended_49 rfl rfl ?_
          refine mg66 C dX11_mended_50 ?_
          refine g_iload_n C 1 dX11_mended_53 rfl rfl ?_
          refine g_iconst C 2 dX11_mended_54 (by decide) ?_
          refine g_isub C dX11_mended_55 ?_
          refine mr66 C (v := gA σ 66 ((a1 - 2).toNatClampNeg)) dX11_mended_56 rfl ?_
          refine g_istore_n C [(2, .int (gA σ 66 ((a1 - 2).toNatClampNeg))), (0, .ref (ad 0)), (1, .int a1)] dX11_mended_57 rfl (by decide) rfl ?_
          refine g_iload_n C 0 dX11_mended_58 rfl rfl ?_
          refine g_bipush C 32 dX11_mended_59 (by decide) ?_
          refine g_icmp_ge C 77 dX11_mended_61 (by decide) ?_ ?_
          · refine g_iload_n C 0 dX11_mended_77 rfl rfl ?_
            refine g_bipush C 40 dX11_mended_78 (by decide) ?_
            refine g_icmp_ge C 96 dX11_mended_80 (by decide) ?_ ?_
            · refine g_sipush C 200 dX11_mended_96 (by decide) ?_
              refine g_iload_n C 0 dX11_mended_99 rfl rfl ?_
              refine g_iadd C dX11_mended_100 ?_
              refine g_bipush C 40 dX11_mended_101 (by decide) ?_
              refine g_isub C dX11_mended_103 ?_
              exact g_iret C dX11_mended_104
            · refine g_bipush C 100 dX11_mended_83 (by decide) ?_
              refine g_bipush C 10 dX11_mended_85 (by decide) ?_
              refine g_iload_n C 0 dX11_mended_87 rfl rfl ?_
              refine g_bipush C 32 dX11_mended_88 (by decide) ?_
              refine g_isub C dX11_mended_90 ?_
              refine g_imul C dX11_mended_91 ?_
              refine g_iadd C dX11_mended_92 ?_
              refine g_goto C 104 dX11_mended_93 (by decide) ?_
              exact g_iret C dX11_mended_104
          · refine g_bipush C 10 dX11_mended_64 (by decide) ?_
            refine g_iload_n C 0 dX11_mended_66 rfl rfl ?_
            refine g_iconst C 4 dX11_mended_67 (by decide) ?_
            refine g_idiv C dX11_mended_68 (by decide) ?_
            refine g_imul C dX11_mended_69 ?_
            refine g_iload_n C 0 dX11_mended_70 rfl rfl ?_
            refine g_iconst C 4 dX11_mended_71 (by decide) ?_
            refine g_irem C dX11_mended_72 (by decide) ?_
            refine g_iadd C dX11_mended_73 ?_
            refine g_goto C 104 dX11_mended_74 (by decide) ?_
            exact g_iret C dX11_mended_104
        · refine g_iload_n C 1 dX11_mended_33 rfl rfl ?_
          refine g_if_ne C 44 dX11_mended_34 (by decide) ?_ ?_
          · refine g_aload_n C 0 dX11_mended_44 rfl rfl ?_
            refine mg65 C (v := gI σ 65) dX11_mended_45 rfl ?_
            exact g_iret C dX11_mended_48
          · refine g_aload_n C 0 dX11_mended_37 rfl rfl ?_
            refine mg64 C (v := gI σ 64) dX11_mended_38 rfl ?_
            refine g_goto C 48 dX11_mended_41 (by decide) ?_
            exact g_iret C dX11_mended_48
      · refine g_iconst C (-1) dX11_mended_26 (by decide) ?_
        exact g_iret C dX11_mended_27
theorem c_m_mended {Y : Yx} {ad : Nat → Nat} {N : Nat} {σ : St} {a1 : Int32} {r : Int32} {σ' : St} (h : m_mended N σ a1 = some (r, σ')) : Con Y scM ad yX11_mended cX11_mended 3 (some .int) 0 0 [.ref (ad 0), .int a1] σ (outI r) σ' := con_of (by decide) rfl (Nat.le_of_ble_eq_true rfl) rfl (fun X hX C => s_m_mended C N σ a1) h

def m_count_83 (N : Nat) (σ : St) (x1 : Int32) (x2 : Int32) (x3 : Int32) : Option (Int32 × St) :=
  (if x1 = 0 then bd (m_routinesMany N σ) (fun r6 σ7 => some (r6, σ7)) else (if x1 = 1 then gd (ib 0 2) (some (gA σ 26 ((0 : Int32).toNatClampNeg), σ)) else (if x1 = 2 then gd (ib 0 2) (some (gA σ 29 ((0 : Int32).toNatClampNeg), σ)) else (if x1 = 3 then some (gI σ 39, σ) else (if x1 = 4 then some (x2, σ) else (if x1 = 5 then some (x3, σ) else some ((-1), σ)))))))
def m_count_75 (N : Nat) (rec30 : St → Int32 → Int32 → Int32 → Int32 → Option (Int32 × St)) (σ : St) (x1 : Int32) (x2 : Int32) (x4 : Int32) (t0 : Int32) (t1 : Int32) : Option (Int32 × St) :=
  rec30 σ x1 x2 (t0 + t1) (x4 + 1)
def m_count_57 (N : Nat) (rec30 : St → Int32 → Int32 → Int32 → Int32 → Option (Int32 × St)) (σ : St) (x1 : Int32) (x3 : Int32) (x4 : Int32) (t0 : Int32) (t1 : Int32) : Option (Int32 × St) :=
  bd (m_useFact N σ x4) (fun r15 σ16 => (if r15 = 1 then m_count_75 N rec30 σ16 x1 (t0 + t1) x4 x3 1 else m_count_75 N rec30 σ16 x1 (t0 + t1) x4 x3 0))
def m_count_30_b (N : Nat) (rec30 : St → Int32 → Int32 → Int32 → Int32 → Option (Int32 × St)) (σ : St) (x1 : Int32) (x2 : Int32) (x3 : Int32) (x4 : Int32) : Option (Int32 × St) :=
  gd (ib 0 2) ((if (gA σ 26 ((0 : Int32).toNatClampNeg)) ≤ x4 then m_count_83 N σ x1 x2 x3 else bd (m_useFact N σ x4) (fun r13 σ14 => (if r13 = 3 then m_count_57 N rec30 σ14 x1 x3 x4 x2 1 else m_count_57 N rec30 σ14 x1 x3 x4 x2 0))))
def m_count_30 (N : Nat) : Nat → St → Int32 → Int32 → Int32 → Int32 → Option (Int32 × St)
  | 0 => fun _ _ _ _ _ => none
  | n + 1 => fun σ x1 x2 x3 x4 => m_count_30_b N (m_count_30 N n) σ x1 x2 x3 x4
def m_count_19 (N : Nat) (σ : St) (x1 : Int32) (x2 : Int32) (x3 : Int32) : Option (Int32 × St) :=
  bd (m_frees N σ) (fun _ σ2 => bd (m_reckons N σ2) (fun _ σ4 => m_count_30 N N σ4 x1 x2 x3 0))
def m_count (N : Nat) (σ : St) (a1 : Int32) : Option (Int32 × St) :=
  (if a1 = 4 then m_count_19 N (sI σ 0 0) a1 0 0 else (if a1 = 5 then m_count_19 N (sI σ 0 0) a1 0 0 else m_count_83 N (sI σ 0 0) a1 0 0))
set_option maxHeartbeats 4000000 in
set_option maxRecDepth 100000 in
theorem s_m_count_83 {X : Cx} {ad : Nat → Nat} (C : Ok X cX11_count RX11 5 (some .int) 5 119) (N : Nat) (σ : St) (x1 : Int32) (x2 : Int32) (x3 : Int32) : Sim X scM ad 5 outI 83 [(0, .ref (ad 0)), (1, .int x1), (2, .int x2), (3, .int x3)] [] σ (m_count_83 N σ x1 x2 x3) := by
  unfold m_count_83
  refine g_iload_n C 1 dX11_count_83 rfl rfl ?_
  refine g_cs (fun h5 => ?_) (fun h5 => ?_)
  · refine g_tabIn C (off := 40) 124 (0) (by rw [h5]; decide) dX11_count_84 (by decide) (by decide) (by decide) (by decide) ?_
    refine g_aload_n C 0 dX11_count_124 rfl rfl ?_
    refine v_m_routinesMany C ⟨by decide, by decide⟩ (Nat.le_of_ble_eq_true rfl) dX11_count_125 (fun r6 σ7 _ => ?_)
    exact g_iret C dX11_count_128
  refine g_cs (fun h8 => ?_) (fun h8 => ?_)
  · refine g_tabIn C (off := 45) 129 (1) (by rw [h8]; decide) dX11_count_84 (by decide) (by decide) (by decide) (by decide) ?_
    refine g_aload_n C 0 dX11_count_129 rfl rfl ?_
    refine mg26 C dX11_count_130 ?_
    refine g_iconst C 0 dX11_count_133 (by decide) ?_
    refine mr26 C (v := gA σ 26 ((0 : Int32).toNatClampNeg)) dX11_count_134 rfl ?_
    exact g_iret C dX11_count_135
  refine g_cs (fun h9 => ?_) (fun h9 => ?_)
  · refine g_tabIn C (off := 52) 136 (2) (by rw [h9]; decide) dX11_count_84 (by decide) (by decide) (by decide) (by decide) ?_
    refine g_aload_n C 0 dX11_count_136 rfl rfl ?_
    refine mg29 C dX11_count_137 ?_
    refine g_iconst C 0 dX11_count_140 (by decide) ?_
    refine mr29 C (v := gA σ 29 ((0 : Int32).toNatClampNeg)) dX11_count_141 rfl ?_
    exact g_iret C dX11_count_142
  refine g_cs (fun h10 => ?_) (fun h10 => ?_)
  · refine g_tabIn C (off := 59) 143 (3) (by rw [h10]; decide) dX11_count_84 (by decide) (by decide) (by decide) (by decide) ?_
    refine g_aload_n C 0 dX11_count_143 rfl rfl ?_
    refine mg39 C (v := gI σ 39) dX11_count_144 rfl ?_
    exact g_iret C dX11_count_147
  refine g_cs (fun h11 => ?_) (fun h11 => ?_)
  · refine g_tabIn C (off := 64) 148 (4) (by rw [h11]; decide) dX11_count_84 (by decide) (by decide) (by decide) (by decide) ?_
    refine g_iload_n C 2 dX11_count_148 rfl rfl ?_
    exact g_iret C dX11_count_149
  refine g_cs (fun h12 => ?_) (fun h12 => ?_)
  · refine g_tabIn C (off := 66) 150 (5) (by rw [h12]; decide) dX11_count_84 (by decide) (by decide) (by decide) (by decide) ?_
    refine g_iload_n C 3 dX11_count_150 rfl rfl ?_
    exact g_iret C dX11_count_151
  have ah5 : ¬ x1.toInt = 0 := k_ne h5 (by decide)
  have bh5 : ¬ (0 : Int) = x1.toInt := fun e9 => ah5 e9.symm
  have ah8 : ¬ x1.toInt = 1 := k_ne h8 (by decide)
  have bh8 : ¬ (1 : Int) = x1.toInt := fun e9 => ah8 e9.symm
  have ah9 : ¬ x1.toInt = 2 := k_ne h9 (by decide)
  have bh9 : ¬ (2 : Int) = x1.toInt := fun e9 => ah9 e9.symm
  have ah10 : ¬ x1.toInt = 3 := k_ne h10 (by decide)
  have bh10 : ¬ (3 : Int) = x1.toInt := fun e9 => ah10 e9.symm
  have ah11 : ¬ x1.toInt = 4 := k_ne h11 (by decide)
  have bh11 : ¬ (4 : Int) = x1.toInt := fun e9 => ah11 e9.symm
  have ah12 : ¬ x1.toInt = 5 := k_ne h12 (by decide)
  have bh12 : ¬ (5 : Int) = x1.toInt := fun e9 => ah12 e9.symm
  refine g_tabOut C 152 dX11_count_84 (by omega) (by decide) ?_
  refine g_iconst C (-1) dX11_count_152 (by decide) ?_
  exact g_iret C dX11_count_153
set_option maxHeartbeats 4000000 in
set_option maxRecDepth 100000 in
theorem s_m_count_75 {X : Cx} {ad : Nat → Nat} (C : Ok X cX11_count RX11 5 (some .int) 5 119) (N : Nat) {rec30 : St → Int32 → Int32 → Int32 → Int32 → Option (Int32 × St)} (hrec30 : ∀ (σ : St) (x1 : Int32) (x2 : Int32) (x3 : Int32) (x4 : Int32), Sim X scM ad 5 outI 30 [(0, .ref (ad 0)), (1, .int x1), (2, .int x2), (3, .int x3), (4, .int x4)] [] σ (rec30 σ x1 x2 x3 x4)) (σ : St) (x1 : Int32) (x2 : Int32) (x4 : Int32) (t0 : Int32) (t1 : Int32) : Sim X scM ad 5 outI 75 [(0, .ref (ad 0)), (1, .int x1), (2, .int x2), (4, .int x4)] [.int t1, .int t0] σ (m_count_75 N rec30 σ x1 x2 x4 t0 t1) := by
  unfold m_count_75
  refine g_iadd C dX11_count_75 ?_
  refine g_istore_n C [(3, .int (t0 + t1)), (0, .ref (ad 0)), (1, .int x1), (2, .int x2), (4, .int x4)] dX11_count_76 rfl (by decide) rfl ?_
  refine g_iinc C (x4 + 1) 4 [(4, .int (x4 + 1)), (3, .int (t0 + t1)), (0, .ref (ad 0)), (1, .int x1), (2, .int x2)] dX11_count_77 rfl rfl (by decide) rfl ?_
  refine g_goto C 30 dX11_count_80 (by decide) ?_
  exact g_sub [2, 3, 4, 1, 0] rfl (hrec30 σ x1 x2 (t0 + t1) (x4 + 1))
set_option maxHeartbeats 4000000 in
set_option maxRecDepth 100000 in
theorem s_m_count_57 {X : Cx} {ad : Nat → Nat} (C : Ok X cX11_count RX11 5 (some .int) 5 119) (N : Nat) {rec30 : St → Int32 → Int32 → Int32 → Int32 → Option (Int32 × St)} (hrec30 : ∀ (σ : St) (x1 : Int32) (x2 : Int32) (x3 : Int32) (x4 : Int32), Sim X scM ad 5 outI 30 [(0, .ref (ad 0)), (1, .int x1), (2, .int x2), (3, .int x3), (4, .int x4)] [] σ (rec30 σ x1 x2 x3 x4)) (σ : St) (x1 : Int32) (x3 : Int32) (x4 : Int32) (t0 : Int32) (t1 : Int32) : Sim X scM ad 5 outI 57 [(0, .ref (ad 0)), (1, .int x1), (3, .int x3), (4, .int x4)] [.int t1, .int t0] σ (m_count_57 N rec30 σ x1 x3 x4 t0 t1) := by
  unfold m_count_57
  refine g_iadd C dX11_count_57 ?_
  refine g_istore_n C [(2, .int (t0 + t1)), (0, .ref (ad 0)), (1, .int x1), (3, .int x3), (4, .int x4)] dX11_count_58 rfl (by decide) rfl ?_
  refine g_iload_n C 3 dX11_count_59 rfl rfl ?_
  refine g_aload_n C 1 dX11_count_60 rfl rfl ?_
  refine g_iload C 4 dX11_count_61 rfl ?_
  refine v_m_useFact C ⟨by decide, by decide⟩ (Nat.le_of_ble_eq_true rfl) dX11_count_63 (fun r15 σ16 _ => ?_)
  refine g_iconst C 1 dX11_count_66 (by decide) ?_
  refine g_icmp_ne C 74 dX11_count_67 (by decide) ?_ ?_
  · refine g_iconst C 0 dX11_count_74 (by decide) ?_
    exact g_sub [1, 2, 0, 4] rfl (s_m_count_75 C N hrec30 σ16 x1 (t0 + t1) x4 x3 0)
  · refine g_iconst C 1 dX11_count_70 (by decide) ?_
    refine g_goto C 75 dX11_count_71 (by decide) ?_
    exact g_sub [1, 2, 0, 4] rfl (s_m_count_75 C N hrec30 σ16 x1 (t0 + t1) x4 x3 1)
set_option maxHeartbeats 4000000 in
set_option maxRecDepth 100000 in
theorem s_m_count_30_b {X : Cx} {ad : Nat → Nat} (C : Ok X cX11_count RX11 5 (some .int) 5 119) (N : Nat) {rec30 : St → Int32 → Int32 → Int32 → Int32 → Option (Int32 × St)} (hrec30 : ∀ (σ : St) (x1 : Int32) (x2 : Int32) (x3 : Int32) (x4 : Int32), Sim X scM ad 5 outI 30 [(0, .ref (ad 0)), (1, .int x1), (2, .int x2), (3, .int x3), (4, .int x4)] [] σ (rec30 σ x1 x2 x3 x4)) (σ : St) (x1 : Int32) (x2 : Int32) (x3 : Int32) (x4 : Int32) : Sim X scM ad 5 outI 30 [(0, .ref (ad 0)), (1, .int x1), (2, .int x2), (3, .int x3), (4, .int x4)] [] σ (m_count_30_b N rec30 σ x1 x2 x3 x4) := by
  unfold m_count_30_b
  refine g_iload C 4 dX11_count_30 rfl ?_
  refine g_aload_n C 0 dX11_count_32 rfl rfl ?_
  refine mg26 C dX11_count_33 ?_
  refine g_iconst C 0 dX11_count_36 (by decide) ?_
  refine mr26 C (v := gA σ 26 ((0 : Int32).toNatClampNeg)) dX11_count_37 rfl ?_
  refine g_icmp_ge C 83 dX11_count_38 (by decide) ?_ ?_
  · exact g_sub [0, 1, 2, 3] rfl (s_m_count_83 C N σ x1 x2 x3)
  · refine g_iload_n C 2 dX11_count_41 rfl rfl ?_
    refine g_aload_n C 0 dX11_count_42 rfl rfl ?_
    refine g_iload C 4 dX11_count_43 rfl ?_
    refine v_m_useFact C ⟨by decide, by decide⟩ (Nat.le_of_ble_eq_true rfl) dX11_count_45 (fun r13 σ14 _ => ?_)
    refine g_iconst C 3 dX11_count_48 (by decide) ?_
    refine g_icmp_ne C 56 dX11_count_49 (by decide) ?_ ?_
    · refine g_iconst C 0 dX11_count_56 (by decide) ?_
      exact g_sub [0, 1, 3, 4] rfl (s_m_count_57 C N hrec30 σ14 x1 x3 x4 x2 0)
    · refine g_iconst C 1 dX11_count_52 (by decide) ?_
      refine g_goto C 57 dX11_count_53 (by decide) ?_
      exact g_sub [0, 1, 3, 4] rfl (s_m_count_57 C N hrec30 σ14 x1 x3 x4 x2 1)
set_option maxHeartbeats 4000000 in
set_option maxRecDepth 100000 in
theorem s_m_count_30 {X : Cx} {ad : Nat → Nat} (C : Ok X cX11_count RX11 5 (some .int) 5 119) (N : Nat) : ∀ (n : Nat) (σ : St) (x1 : Int32) (x2 : Int32) (x3 : Int32) (x4 : Int32), Sim X scM ad 5 outI 30 [(0, .ref (ad 0)), (1, .int x1), (2, .int x2), (3, .int x3), (4, .int x4)] [] σ (m_count_30 N n σ x1 x2 x3 x4) := by
  intro n
  induction n with
  | zero => intro σ x1 x2 x3 x4; exact g_none
  | succ n ih => intro σ x1 x2 x3 x4; exact s_m_count_30_b C N ih σ x1 x2 x3 x4
set_option maxHeartbeats 4000000 in
set_option maxRecDepth 100000 in
theorem s_m_count_19 {X : Cx} {ad : Nat → Nat} (C : Ok X cX11_count RX11 5 (some .int) 5 119) (N : Nat) (σ : St) (x1 : Int32) (x2 : Int32) (x3 : Int32) : Sim X scM ad 5 outI 19 [(0, .ref (ad 0)), (1, .int x1), (2, .int x2), (3, .int x3)] [] σ (m_count_19 N σ x1 x2 x3) := by
  unfold m_count_19
  refine g_aload_n C 0 dX11_count_19 rfl rfl ?_
  refine v_m_frees C ⟨by decide, by decide⟩ (Nat.le_of_ble_eq_true rfl) dX11_count_20 (fun r1 σ2 _ => ?_)
  refine g_aload_n C 0 dX11_count_23 rfl rfl ?_
  refine v_m_reckons C ⟨by decide, by decide⟩ (Nat.le_of_ble_eq_true rfl) dX11_count_24 (fun r3 σ4 _ => ?_)
  refine g_iconst C 0 dX11_count_27 (by decide) ?_
  refine g_istore C [(4, .int 0), (0, .ref (ad 0)), (1, .int x1), (2, .int x2), (3, .int x3)] dX11_count_28 (by decide) rfl ?_
  exact g_sub [1, 2, 3, 4, 0] rfl (s_m_count_30 C N N σ4 x1 x2 x3 0)
set_option maxHeartbeats 4000000 in
set_option maxRecDepth 100000 in
theorem s_m_count {X : Cx} {ad : Nat → Nat} (C : Ok X cX11_count RX11 5 (some .int) 5 119) (N : Nat) (σ : St) (a1 : Int32) : Sim X scM ad 5 outI 0 [(0, .ref (ad 0)), (1, .int a1)] [] σ (m_count N σ a1) := by
  unfold m_count
  refine g_aload_n C 0 dX11_count_0 rfl rfl ?_
  refine g_iconst C 0 dX11_count_1 (by decide) ?_
  refine mp0 C dX11_count_2 ?_
  refine g_iconst C 0 dX11_count_5 (by decide) ?_
  refine g_istore_n C [(2, .int 0), (0, .ref (ad 0)), (1, .int a1)] dX11_count_6 rfl (by decide) rfl ?_
  refine g_iconst C 0 dX11_count_7 (by decide) ?_
  refine g_istore_n C [(3, .int 0), (2, .int 0), (0, .ref (ad 0)), (1, .int a1)] dX11_count_8 rfl (by decide) rfl ?_
  refine g_iload_n C 3 dX11_count_9 rfl rfl ?_
  refine g_iconst C 4 dX11_count_10 (by decide) ?_
  refine g_icmp_eq C 19 dX11_count_11 (by decide) ?_ ?_
  · exact g_sub [2, 3, 1, 0] rfl (s_m_count_19 C N (sI σ 0 0) a1 0 0)
  · refine g_iload_n C 3 dX11_count_14 rfl rfl ?_
    refine g_iconst C 5 dX11_count_15 (by decide) ?_
    refine g_icmp_ne C 83 dX11_count_16 (by decide) ?_ ?_
    · exact g_sub [2, 3, 1, 0] rfl (s_m_count_83 C N (sI σ 0 0) a1 0 0)
    · exact g_sub [2, 3, 1, 0] rfl (s_m_count_19 C N (sI σ 0 0) a1 0 0)
theorem c_m_count {Y : Yx} {ad : Nat → Nat} {N : Nat} {σ : St} {a1 : Int32} {r : Int32} {σ' : St} (h : m_count N σ a1 = some (r, σ')) : Con Y scM ad yX11_count cX11_count 5 (some .int) 5 119 [.ref (ad 0), .int a1] σ (outI r) σ' := con_of (by decide) rfl (Nat.le_of_ble_eq_true rfl) rfl (fun X hX C => s_m_count C N σ a1) h
