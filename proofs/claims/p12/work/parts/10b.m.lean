def m_worth (N : Nat) (σ : St) : Option (Unit × St) :=
  (if (gI σ 8) = 0 then bd (m_isWord N σ 5) (fun r1 σ2 => (if r1 = 0 then bd (m_isWord N σ2 7) (fun r3 σ4 => (if r3 = 0 then bd (m_isWord N σ4 6) (fun r5 σ6 => (if r5 = 0 then (if (gI σ6 6) = 0 then bd (m_taken N σ6 0) (fun r11 σ12 => bd (m_isSign N σ12 46) (fun r13 σ14 => (if r13 = 0 then bd (m_emit N σ14 4 r11 0 0) (fun r23 σ24 => some ((), σ24)) else bd (m_newUse N σ14 r11 (gI σ 5)) (fun r15 σ16 => bd (m_next N σ16) (fun _ σ18 => bd (m_field N σ18) (fun r19 σ20 => bd (m_emit N σ20 5 r11 r19 r15) (fun r21 σ22 => some ((), σ22)))))))) else (if (gI σ6 6) = 1 then bd (m_call N σ6) (fun _ σ10 => some ((), σ10)) else bd (m_wrong N σ6 1 (gI σ 5)) (fun _ σ8 => some ((), σ8)))) else bd (m_next N σ6) (fun _ σ26 => bd (m_taken N σ26 0) (fun r27 σ28 => bd (m_taken N σ28 0) (fun r29 σ30 => bd (m_emit N σ30 3 r27 r29 0) (fun r31 σ32 => some ((), σ32))))))) else bd (m_next N σ4) (fun _ σ34 => bd (m_emit N σ34 2 0 0 0) (fun r35 σ36 => some ((), σ36))))) else bd (m_next N σ2) (fun _ σ38 => bd (m_emit N σ38 1 0 0 0) (fun r39 σ40 => some ((), σ40))))) else some ((), σ))
set_option maxHeartbeats 4000000 in
set_option maxRecDepth 100000 in
theorem s_m_worth {X : Cx} {ad : Nat → Nat} (C : Ok X cX11_worth RX11 4 none 9 197) (N : Nat) (σ : St) : Sim X scM ad 4 outV 0 [(0, .ref (ad 0))] [] σ (m_worth N σ) := by
  unfold m_worth
  refine g_aload_n C 0 dX11_worth_0 rfl rfl ?_
  refine mg8 C (v := gI σ 8) dX11_worth_1 rfl ?_
  refine g_if_eq C 8 dX11_worth_4 (by decide) ?_ ?_
  · refine g_aload_n C 0 dX11_worth_8 rfl rfl ?_
    refine mg5 C (v := gI σ 5) dX11_worth_9 rfl ?_
    refine g_istore_n C [(1, .int (gI σ 5)), (0, .ref (ad 0))] dX11_worth_12 rfl (by decide) rfl ?_
    refine g_aload_n C 1 dX11_worth_13 rfl rfl ?_
    refine g_iconst C 5 dX11_worth_14 (by decide) ?_
    refine v_m_isWord C ⟨by decide, by decide⟩ (Nat.le_of_ble_eq_true rfl) dX11_worth_15 (fun r1 σ2 _ => ?_)
    refine g_if_eq C 37 dX11_worth_18 (by decide) ?_ ?_
    · refine g_aload_n C 1 dX11_worth_37 rfl rfl ?_
      refine g_bipush C 7 dX11_worth_38 (by decide) ?_
      refine v_m_isWord C ⟨by decide, by decide⟩ (Nat.le_of_ble_eq_true rfl) dX11_worth_40 (fun r3 σ4 _ => ?_)
      refine g_if_eq C 62 dX11_worth_43 (by decide) ?_ ?_
      · refine g_aload_n C 1 dX11_worth_62 rfl rfl ?_
        refine g_bipush C 6 dX11_worth_63 (by decide) ?_
        refine v_m_isWord C ⟨by decide, by decide⟩ (Nat.le_of_ble_eq_true rfl) dX11_worth_65 (fun r5 σ6 _ => ?_)
        refine g_if_eq C 99 dX11_worth_68 (by decide) ?_ ?_
        · refine g_aload_n C 1 dX11_worth_99 rfl rfl ?_
          refine mg6 C (v := gI σ6 6) dX11_worth_100 rfl ?_
          refine g_if_ne C 157 dX11_worth_103 (by decide) ?_ ?_
          · refine g_aload_n C 1 dX11_worth_157 rfl rfl ?_
            refine mg6 C (v := gI σ6 6) dX11_worth_158 rfl ?_
            refine g_iconst C 1 dX11_worth_161 (by decide) ?_
            refine g_icmp_ne C 172 dX11_worth_162 (by decide) ?_ ?_
            · refine g_aload_n C 1 dX11_worth_172 rfl rfl ?_
              refine g_iconst C 1 dX11_worth_173 (by decide) ?_
              refine g_iload_n C 0 dX11_worth_174 rfl rfl ?_
              refine v_m_wrong C ⟨by decide, by decide⟩ (Nat.le_of_ble_eq_true rfl) dX11_worth_175 (fun r7 σ8 _ => ?_)
              exact g_vret C dX11_worth_178
            · refine g_aload_n C 1 dX11_worth_165 rfl rfl ?_
              refine v_m_call C ⟨by decide, by decide⟩ (Nat.le_of_ble_eq_true rfl) dX11_worth_166 (fun r9 σ10 _ => ?_)
              refine g_goto C 178 dX11_worth_169 (by decide) ?_
              exact g_vret C dX11_worth_178
          · refine g_aload_n C 1 dX11_worth_106 rfl rfl ?_
            refine g_iconst C 0 dX11_worth_107 (by decide) ?_
            refine v_m_taken C ⟨by decide, by decide⟩ (Nat.le_of_ble_eq_true rfl) dX11_worth_108 (fun r11 σ12 _ => ?_)
            refine g_istore_n C [(2, .int r11), (1, .int (gI σ 5)), (0, .ref (ad 0))] dX11_worth_111 rfl (by decide) rfl ?_
            refine g_aload_n C 2 dX11_worth_112 rfl rfl ?_
            refine g_bipush C 46 dX11_worth_113 (by decide) ?_
            refine v_m_isSign C ⟨by decide, by decide⟩ (Nat.le_of_ble_eq_true rfl) dX11_worth_115 (fun r13 σ14 _ => ?_)
            refine g_if_ne C 131 dX11_worth_118 (by decide) ?_ ?_
            · refine g_aload_n C 2 dX11_worth_131 rfl rfl ?_
              refine g_iload_n C 0 dX11_worth_132 rfl rfl ?_
              refine g_iload_n C 1 dX11_worth_133 rfl rfl ?_
              refine v_m_newUse C ⟨by decide, by decide⟩ (Nat.le_of_ble_eq_true rfl) dX11_worth_134 (fun r15 σ16 _ => ?_)
              refine g_istore_n C [(3, .int r15), (2, .int r11), (1, .int (gI σ 5)), (0, .ref (ad 0))] dX11_worth_137 rfl (by decide) rfl ?_
              refine g_aload_n C 3 dX11_worth_138 rfl rfl ?_
              refine v_m_next C ⟨by decide, by decide⟩ (Nat.le_of_ble_eq_true rfl) dX11_worth_139 (fun r17 σ18 _ => ?_)
              refine g_aload_n C 3 dX11_worth_142 rfl rfl ?_
              refine g_iconst C 5 dX11_worth_143 (by decide) ?_
              refine g_iload_n C 1 dX11_worth_144 rfl rfl ?_
              refine g_aload_n C 3 dX11_worth_145 rfl rfl ?_
              refine v_m_field C ⟨by decide, by decide⟩ (Nat.le_of_ble_eq_true rfl) dX11_worth_146 (fun r19 σ20 _ => ?_)
              refine g_iload_n C 0 dX11_worth_149 rfl rfl ?_
              refine v_m_emit C ⟨by decide, by decide⟩ (Nat.le_of_ble_eq_true rfl) dX11_worth_150 (fun r21 σ22 _ => ?_)
              refine g_pop C dX11_worth_153 rfl ?_
              refine g_goto C 178 dX11_worth_154 (by decide) ?_
              exact g_vret C dX11_worth_178
            · refine g_aload_n C 2 dX11_worth_121 rfl rfl ?_
              refine g_iconst C 4 dX11_worth_122 (by decide) ?_
              refine g_iload_n C 0 dX11_worth_123 rfl rfl ?_
              refine g_iconst C 0 dX11_worth_124 (by decide) ?_
              refine g_iconst C 0 dX11_worth_125 (by decide) ?_
              refine v_m_emit C ⟨by decide, by decide⟩ (Nat.le_of_ble_eq_true rfl) dX11_worth_126 (fun r23 σ24 _ => ?_)
              refine g_pop C dX11_worth_129 rfl ?_
              exact g_vret C dX11_worth_130
        · refine g_aload_n C 1 dX11_worth_71 rfl rfl ?_
          refine v_m_next C ⟨by decide, by decide⟩ (Nat.le_of_ble_eq_true rfl) dX11_worth_72 (fun r25 σ26 _ => ?_)
          refine g_aload_n C 1 dX11_worth_75 rfl rfl ?_
          refine g_iconst C 0 dX11_worth_76 (by decide) ?_
          refine v_m_taken C ⟨by decide, by decide⟩ (Nat.le_of_ble_eq_true rfl) dX11_worth_77 (fun r27 σ28 _ => ?_)
          refine g_istore_n C [(2, .int r27), (1, .int (gI σ 5)), (0, .ref (ad 0))] dX11_worth_80 rfl (by decide) rfl ?_
          refine g_aload_n C 2 dX11_worth_81 rfl rfl ?_
          refine g_iconst C 0 dX11_worth_82 (by decide) ?_
          refine v_m_taken C ⟨by decide, by decide⟩ (Nat.le_of_ble_eq_true rfl) dX11_worth_83 (fun r29 σ30 _ => ?_)
          refine g_istore_n C [(3, .int r29), (2, .int r27), (1, .int (gI σ 5)), (0, .ref (ad 0))] dX11_worth_86 rfl (by decide) rfl ?_
          refine g_aload_n C 3 dX11_worth_87 rfl rfl ?_
          refine g_iconst C 3 dX11_worth_88 (by decide) ?_
          refine g_iload_n C 1 dX11_worth_89 rfl rfl ?_
          refine g_iload_n C 0 dX11_worth_90 rfl rfl ?_
          refine g_iconst C 0 dX11_worth_91 (by decide) ?_
          refine v_m_emit C ⟨by decide, by decide⟩ (Nat.le_of_ble_eq_true rfl) dX11_worth_92 (fun r31 σ32 _ => ?_)
          refine g_pop C dX11_worth_95 rfl ?_
          refine g_goto C 178 dX11_worth_96 (by decide) ?_
          exact g_vret C dX11_worth_178
      · refine g_aload_n C 1 dX11_worth_46 rfl rfl ?_
        refine v_m_next C ⟨by decide, by decide⟩ (Nat.le_of_ble_eq_true rfl) dX11_worth_47 (fun r33 σ34 _ => ?_)
        refine g_aload_n C 1 dX11_worth_50 rfl rfl ?_
        refine g_iconst C 2 dX11_worth_51 (by decide) ?_
        refine g_iconst C 0 dX11_worth_52 (by decide) ?_
        refine g_iconst C 0 dX11_worth_53 (by decide) ?_
        refine g_iconst C 0 dX11_worth_54 (by decide) ?_
        refine v_m_emit C ⟨by decide, by decide⟩ (Nat.le_of_ble_eq_true rfl) dX11_worth_55 (fun r35 σ36 _ => ?_)
        refine g_pop C dX11_worth_58 rfl ?_
        refine g_goto C 178 dX11_worth_59 (by decide) ?_
        exact g_vret C dX11_worth_178
    · refine g_aload_n C 1 dX11_worth_21 rfl rfl ?_
      refine v_m_next C ⟨by decide, by decide⟩ (Nat.le_of_ble_eq_true rfl) dX11_worth_22 (fun r37 σ38 _ => ?_)
      refine g_aload_n C 1 dX11_worth_25 rfl rfl ?_
      refine g_iconst C 1 dX11_worth_26 (by decide) ?_
      refine g_iconst C 0 dX11_worth_27 (by decide) ?_
      refine g_iconst C 0 dX11_worth_28 (by decide) ?_
      refine g_iconst C 0 dX11_worth_29 (by decide) ?_
      refine v_m_emit C ⟨by decide, by decide⟩ (Nat.le_of_ble_eq_true rfl) dX11_worth_30 (fun r39 σ40 _ => ?_)
      refine g_pop C dX11_worth_33 rfl ?_
      refine g_goto C 178 dX11_worth_34 (by decide) ?_
      exact g_vret C dX11_worth_178
  · exact g_vret C dX11_worth_7
theorem c_m_worth {Y : Yx} {ad : Nat → Nat} {N : Nat} {σ : St} {r : Unit} {σ' : St} (h : m_worth N σ = some (r, σ')) : Con Y scM ad yX11_worth cX11_worth 4 none 9 197 [.ref (ad 0)] σ (outV r) σ' := con_of (by decide) rfl (Nat.le_of_ble_eq_true rfl) rfl (fun X hX C => s_m_worth C N σ) h
set_option maxRecDepth 20000 in
theorem v_m_worth {X : Cx} {cc : ByteArray} {nL : Nat} {ret : Option FieldType} {fr lo : Nat} {ad : Nat → Nat} {ρ : Type} {out : ρ → Option Value} {pc : Nat} {lv : List (Nat × Value)} {rest : List Value} {σ : St} {N : Nat} {K : Unit → St → Option (ρ × St)} (C : Ok X cc RX11 nL ret fr lo) (hR : 9 + 1 ≤ fr ∧ 8 + (4 + 11) + 197 ≤ lo) (hcat : (rest.map fun v => v.category).sum ≤ 8) (hdg : decode cc pc = .ok (.invokevirtual 230, 3)) (k : ∀ (r : Unit) (σ' : St), m_worth N σ = some (r, σ') → Sim X scM ad nL out (pc + 3) lv rest σ' (K r σ')) : Sim X scM ad nL out pc lv (.ref (ad 0) :: rest) σ (bd (m_worth N σ) K) := g_callV C (out1 := outV) (y := yX11_worth) (n := 0) ⟨gw_1386, gw_1388, gw_78, gw_117, gw_1389⟩ (by decide +kernel) hR (o := 0) (ci := 10) (q9 := (RX11, TX11, 68)) imM0 rfl rfl rfl (fun r σ' h => c_m_worth h) rfl rfl hcat hdg k

def m_newTest_224 (N : Nat) (σ : St) (x3 : Int32) (x4 : Int32) (t1 : Int32) : Option (Int32 × St) :=
  bd (m_emit N σ t1 x4 x3 0) (fun r9 σ10 => some (r9, σ10))
def m_newTest_211 (N : Nat) (σ : St) (x3 : Int32) (x4 : Int32) (x5 : Int32) : Option (Int32 × St) :=
  (if x5 = 0 then m_newTest_224 N σ x3 x4 11 else m_newTest_224 N σ x3 x4 10)
def m_newTest_200 (N : Nat) (σ : St) (x3 : Int32) (x4 : Int32) (x5 : Int32) : Option (Int32 × St) :=
  (if (gI σ 8) = 0 then bd (m_next N σ) (fun _ σ12 => m_newTest_211 N σ12 x3 x4 x5) else m_newTest_211 N σ x3 x4 x5)
def m_newTest_183 (N : Nat) (σ : St) (x3 : Int32) (x4 : Int32) (x5 : Int32) : Option (Int32 × St) :=
  bd (m_isWord N σ 5) (fun r7 σ8 => (if r7 = 0 then bd (m_wrong N σ8 1 (gI σ8 5)) (fun _ σ14 => m_newTest_200 N σ14 x3 x4 x5) else m_newTest_200 N σ8 x3 x4 x5))
def m_newTest_172 (N : Nat) (σ : St) (x3 : Int32) (x4 : Int32) (x5 : Int32) : Option (Int32 × St) :=
  (if (gI σ 8) = 0 then bd (m_next N σ) (fun _ σ16 => m_newTest_183 N σ16 x3 x4 x5) else m_newTest_183 N σ x3 x4 x5)
def m_newTest_64 (N : Nat) (σ : St) (x1 : Int32) : Option (Int32 × St) :=
  (if (gI σ 8) = 0 then gd (ib 1 2) (gd (ib (25 + (gA σ 29 ((1 : Int32).toNatClampNeg))) 50) (gd (ib (25 + (gA σ 29 ((1 : Int32).toNatClampNeg))) 50) (gd (ib 1 2) (gd (ib 1 2) (bd (m_isWord N (sA (sA (sA σ 27 ((25 + (gA σ 29 ((1 : Int32).toNatClampNeg))).toNatClampNeg) (gI σ 34)) 28 ((25 + (gA σ 29 ((1 : Int32).toNatClampNeg))).toNatClampNeg) x1) 29 ((1 : Int32).toNatClampNeg) ((gA σ 29 ((1 : Int32).toNatClampNeg)) + 1)) 7) (fun r1 σ2 => (if r1 = 0 then bd (m_taken N σ2 0) (fun r3 σ4 => bd (m_isWord N σ4 3) (fun r5 σ6 => (if r5 = 0 then bd (m_isWord N σ6 4) (fun r17 σ18 => (if r17 = 0 then bd (m_wrong N σ18 1 (gI σ18 5)) (fun _ σ20 => m_newTest_172 N σ20 (gA σ 29 ((1 : Int32).toNatClampNeg)) r3 r5) else m_newTest_172 N σ18 (gA σ 29 ((1 : Int32).toNatClampNeg)) r3 r5)) else m_newTest_172 N σ6 (gA σ 29 ((1 : Int32).toNatClampNeg)) r3 r5))) else bd (m_next N σ2) (fun _ σ22 => bd (m_emit N σ22 12 0 (gA σ 29 ((1 : Int32).toNatClampNeg)) 0) (fun r23 σ24 => some (r23, σ24)))))))))) else some (0, σ))
def m_newTest_33 (N : Nat) (σ : St) (x1 : Int32) (t0 : Int32) : Option (Int32 × St) :=
  (if t0 = 0 then bd (m_wrong N σ 1 x1) (fun _ σ28 => m_newTest_64 N σ28 x1) else gd (ib 1 2) ((if (gA σ 29 ((1 : Int32).toNatClampNeg)) = 24 then bd (m_wrong N σ 2 x1) (fun _ σ26 => m_newTest_64 N σ26 x1) else m_newTest_64 N σ x1)))
def m_newTest_32 (N : Nat) (σ : St) (x1 : Int32) : Option (Int32 × St) :=
  m_newTest_33 N σ x1 0
def m_newTest_28 (N : Nat) (σ : St) (x1 : Int32) : Option (Int32 × St) :=
  m_newTest_33 N σ x1 1
def m_newTest (N : Nat) (σ : St) : Option (Int32 × St) :=
  (if (gI σ 8) = 0 then (if (gI σ 6) = 0 then m_newTest_28 N σ (gI σ 5) else bd (m_isWord N σ 7) (fun r29 σ30 => (if r29 = 0 then m_newTest_32 N σ30 (gI σ 5) else m_newTest_28 N σ30 (gI σ 5)))) else m_newTest_32 N σ (gI σ 5))
set_option maxHeartbeats 4000000 in
set_option maxRecDepth 100000 in
theorem s_m_newTest_224 {X : Cx} {ad : Nat → Nat} (C : Ok X cX11_newTest RX11 6 (some .int) 7 152) (N : Nat) (σ : St) (x3 : Int32) (x4 : Int32) (t1 : Int32) : Sim X scM ad 6 outI 224 [(3, .int x3), (4, .int x4)] [.int t1, .ref (ad 0)] σ (m_newTest_224 N σ x3 x4 t1) := by
  unfold m_newTest_224
  refine g_iload C 1 dX11_newTest_224 rfl ?_
  refine g_iload_n C 0 dX11_newTest_226 rfl rfl ?_
  refine g_iconst C 0 dX11_newTest_227 (by decide) ?_
  refine v_m_emit C ⟨by decide, by decide⟩ (Nat.le_of_ble_eq_true rfl) dX11_newTest_228 (fun r9 σ10 _ => ?_)
  exact g_iret C dX11_newTest_231
set_option maxHeartbeats 4000000 in
set_option maxRecDepth 100000 in
theorem s_m_newTest_211 {X : Cx} {ad : Nat → Nat} (C : Ok X cX11_newTest RX11 6 (some .int) 7 152) (N : Nat) (σ : St) (x3 : Int32) (x4 : Int32) (x5 : Int32) : Sim X scM ad 6 outI 211 [(0, .ref (ad 0)), (3, .int x3), (4, .int x4), (5, .int x5)] [] σ (m_newTest_211 N σ x3 x4 x5) := by
  unfold m_newTest_211
  refine g_aload_n C 0 dX11_newTest_211 rfl rfl ?_
  refine g_iload C 3 dX11_newTest_212 rfl ?_
  refine g_if_eq C 222 dX11_newTest_214 (by decide) ?_ ?_
  · refine g_bipush C 11 dX11_newTest_222 (by decide) ?_
    exact g_sub [1, 2] rfl (s_m_newTest_224 C N σ x3 x4 11)
  · refine g_bipush C 10 dX11_newTest_217 (by decide) ?_
    refine g_goto C 224 dX11_newTest_219 (by decide) ?_
    exact g_sub [1, 2] rfl (s_m_newTest_224 C N σ x3 x4 10)
set_option maxHeartbeats 4000000 in
set_option maxRecDepth 100000 in
theorem s_m_newTest_200 {X : Cx} {ad : Nat → Nat} (C : Ok X cX11_newTest RX11 6 (some .int) 7 152) (N : Nat) (σ : St) (x3 : Int32) (x4 : Int32) (x5 : Int32) : Sim X scM ad 6 outI 200 [(0, .ref (ad 0)), (3, .int x3), (4, .int x4), (5, .int x5)] [] σ (m_newTest_200 N σ x3 x4 x5) := by
  unfold m_newTest_200
  refine g_aload_n C 0 dX11_newTest_200 rfl rfl ?_
  refine mg8 C (v := gI σ 8) dX11_newTest_201 rfl ?_
  refine g_if_ne C 211 dX11_newTest_204 (by decide) ?_ ?_
  · exact g_sub [0, 1, 2, 3] rfl (s_m_newTest_211 C N σ x3 x4 x5)
  · refine g_aload_n C 0 dX11_newTest_207 rfl rfl ?_
    refine v_m_next C ⟨by decide, by decide⟩ (Nat.le_of_ble_eq_true rfl) dX11_newTest_208 (fun r11 σ12 _ => ?_)
    exact g_sub [0, 1, 2, 3] rfl (s_m_newTest_211 C N σ12 x3 x4 x5)
set_option maxHeartbeats 4000000 in
set_option maxRecDepth 100000 in
theorem s_m_newTest_183 {X : Cx} {ad : Nat → Nat} (C : Ok X cX11_newTest RX11 6 (some .int) 7 152) (N : Nat) (σ : St) (x3 : Int32) (x4 : Int32) (x5 : Int32) : Sim X scM ad 6 outI 183 [(0, .ref (ad 0)), (3, .int x3), (4, .int x4), (5, .int x5)] [] σ (m_newTest_183 N σ x3 x4 x5) := by
  unfold m_newTest_183
  refine g_aload_n C 0 dX11_newTest_183 rfl rfl ?_
  refine g_iconst C 5 dX11_newTest_184 (by decide) ?_
  refine v_m_isWord C ⟨by decide, by decide⟩ (Nat.le_of_ble_eq_true rfl) dX11_newTest_185 (fun r7 σ8 _ => ?_)
  refine g_if_ne C 200 dX11_newTest_188 (by decide) ?_ ?_
  · exact g_sub [0, 1, 2, 3] rfl (s_m_newTest_200 C N σ8 x3 x4 x5)
  · refine g_aload_n C 0 dX11_newTest_191 rfl rfl ?_
    refine g_iconst C 1 dX11_newTest_192 (by decide) ?_
    refine g_aload_n C 0 dX11_newTest_193 rfl rfl ?_
    refine mg5 C (v := gI σ8 5) dX11_newTest_194 rfl ?_
    refine v_m_wrong C ⟨by decide, by decide⟩ (Nat.le_of_ble_eq_true rfl) dX11_newTest_197 (fun r13 σ14 _ => ?_)
    exact g_sub [0, 1, 2, 3] rfl (s_m_newTest_200 C N σ14 x3 x4 x5)
set_option maxHeartbeats 4000000 in
set_option maxRecDepth 100000 in
theorem s_m_newTest_172 {X : Cx} {ad : Nat → Nat} (C : Ok X cX11_newTest RX11 6 (some .int) 7 152) (N : Nat) (σ : St) (x3 : Int32) (x4 : Int32) (x5 : Int32) : Sim X scM ad 6 outI 172 [(0, .ref (ad 0)), (3, .int x3), (4, .int x4), (5, .int x5)] [] σ (m_newTest_172 N σ x3 x4 x5) := by
  unfold m_newTest_172
  refine g_aload_n C 0 dX11_newTest_172 rfl rfl ?_
  refine mg8 C (v := gI σ 8) dX11_newTest_173 rfl ?_
  refine g_if_ne C 183 dX11_newTest_176 (by decide) ?_ ?_
  · exact g_sub [0, 1, 2, 3] rfl (s_m_newTest_183 C N σ x3 x4 x5)
  · refine g_aload_n C 0 dX11_newTest_179 rfl rfl ?_
    refine v_m_next C ⟨by decide, by decide⟩ (Nat.le_of_ble_eq_true rfl) dX11_newTest_180 (fun r15 σ16 _ => ?_)
    exact g_sub [0, 1, 2, 3] rfl (s_m_newTest_183 C N σ16 x3 x4 x5)
set_option maxHeartbeats 4000000 in
set_option maxRecDepth 100000 in
theorem s_m_newTest_64 {X : Cx} {ad : Nat → Nat} (C : Ok X cX11_newTest RX11 6 (some .int) 7 152) (N : Nat) (σ : St) (x1 : Int32) : Sim X scM ad 6 outI 64 [(0, .ref (ad 0)), (1, .int x1)] [] σ (m_newTest_64 N σ x1) := by
  unfold m_newTest_64
  refine g_aload_n C 0 dX11_newTest_64 rfl rfl ?_
  refine mg8 C (v := gI σ 8) dX11_newTest_65 rfl ?_
  refine g_if_eq C 73 dX11_newTest_68 (by decide) ?_ ?_
  · refine g_aload_n C 0 dX11_newTest_73 rfl rfl ?_
    refine mg29 C dX11_newTest_74 ?_
    refine g_iconst C 1 dX11_newTest_77 (by decide) ?_
    refine mr29 C (v := gA σ 29 ((1 : Int32).toNatClampNeg)) dX11_newTest_78 rfl ?_
    refine g_istore_n C [(3, .int (gA σ 29 ((1 : Int32).toNatClampNeg))), (0, .ref (ad 0)), (1, .int x1)] dX11_newTest_79 rfl (by decide) rfl ?_
    refine g_aload_n C 1 dX11_newTest_80 rfl rfl ?_
    refine mg27 C dX11_newTest_81 ?_
    refine g_bipush C 25 dX11_newTest_84 (by decide) ?_
    refine g_iload_n C 0 dX11_newTest_86 rfl rfl ?_
    refine g_iadd C dX11_newTest_87 ?_
    refine g_aload_n C 1 dX11_newTest_88 rfl rfl ?_
    refine mg34 C (v := gI σ 34) dX11_newTest_89 rfl ?_
    refine mw27 C dX11_newTest_92 ?_
    refine g_aload_n C 1 dX11_newTest_93 rfl rfl ?_
    refine mg28 C dX11_newTest_94 ?_
    refine g_bipush C 25 dX11_newTest_97 (by decide) ?_
    refine g_iload_n C 0 dX11_newTest_99 rfl rfl ?_
    refine g_iadd C dX11_newTest_100 ?_
    refine g_iload_n C 2 dX11_newTest_101 rfl rfl ?_
    refine mw28 C dX11_newTest_102 ?_
    refine g_aload_n C 1 dX11_newTest_103 rfl rfl ?_
    refine mg29 C dX11_newTest_104 ?_
    refine g_iconst C 1 dX11_newTest_107 (by decide) ?_
    refine g_dup2 C dX11_newTest_108 rfl rfl ?_
    refine mr29 C (v := gA σ 29 ((1 : Int32).toNatClampNeg)) dX11_newTest_109 rfl ?_
    refine g_iconst C 1 dX11_newTest_110 (by decide) ?_
    refine g_iadd C dX11_newTest_111 ?_
    refine mw29 C dX11_newTest_112 ?_
    refine g_aload_n C 1 dX11_newTest_113 rfl rfl ?_
    refine g_bipush C 7 dX11_newTest_114 (by decide) ?_
    refine v_m_isWord C ⟨by decide, by decide⟩ (Nat.le_of_ble_eq_true rfl) dX11_newTest_116 (fun r1 σ2 _ => ?_)
    refine g_if_eq C 136 dX11_newTest_119 (by decide) ?_ ?_
    · refine g_aload_n C 1 dX11_newTest_136 rfl rfl ?_
      refine g_iconst C 0 dX11_newTest_137 (by decide) ?_
      refine v_m_taken C ⟨by decide, by decide⟩ (Nat.le_of_ble_eq_true rfl) dX11_newTest_138 (fun r3 σ4 _ => ?_)
      refine g_istore C [(4, .int r3), (3, .int (gA σ 29 ((1 : Int32).toNatClampNeg))), (0, .ref (ad 0)), (1, .int x1)] dX11_newTest_141 (by decide) rfl ?_
      refine g_aload_n C 2 dX11_newTest_143 rfl rfl ?_
      refine g_iconst C 3 dX11_newTest_144 (by decide) ?_
      refine v_m_isWord C ⟨by decide, by decide⟩ (Nat.le_of_ble_eq_true rfl) dX11_newTest_145 (fun r5 σ6 _ => ?_)
      refine g_istore C [(5, .int r5), (4, .int r3), (3, .int (gA σ 29 ((1 : Int32).toNatClampNeg))), (0, .ref (ad 0)), (1, .int x1)] dX11_newTest_148 (by decide) rfl ?_
      refine g_iload C 0 dX11_newTest_150 rfl ?_
      refine g_if_ne C 172 dX11_newTest_152 (by decide) ?_ ?_
      · exact g_sub [3, 2, 1, 0] rfl (s_m_newTest_172 C N σ6 (gA σ 29 ((1 : Int32).toNatClampNeg)) r3 r5)
      · refine g_aload_n C 3 dX11_newTest_155 rfl rfl ?_
        refine g_iconst C 4 dX11_newTest_156 (by decide) ?_
        refine v_m_isWord C ⟨by decide, by decide⟩ (Nat.le_of_ble_eq_true rfl) dX11_newTest_157 (fun r17 σ18 _ => ?_)
        refine g_if_ne C 172 dX11_newTest_160 (by decide) ?_ ?_
        · exact g_sub [3, 2, 1, 0] rfl (s_m_newTest_172 C N σ18 (gA σ 29 ((1 : Int32).toNatClampNeg)) r3 r5)
        · refine g_aload_n C 3 dX11_newTest_163 rfl rfl ?_
          refine g_iconst C 1 dX11_newTest_164 (by decide) ?_
          refine g_aload_n C 3 dX11_newTest_165 rfl rfl ?_
          refine mg5 C (v := gI σ18 5) dX11_newTest_166 rfl ?_
          refine v_m_wrong C ⟨by decide, by decide⟩ (Nat.le_of_ble_eq_true rfl) dX11_newTest_169 (fun r19 σ20 _ => ?_)
          exact g_sub [3, 2, 1, 0] rfl (s_m_newTest_172 C N σ20 (gA σ 29 ((1 : Int32).toNatClampNeg)) r3 r5)
    · refine g_aload_n C 1 dX11_newTest_122 rfl rfl ?_
      refine v_m_next C ⟨by decide, by decide⟩ (Nat.le_of_ble_eq_true rfl) dX11_newTest_123 (fun r21 σ22 _ => ?_)
      refine g_aload_n C 1 dX11_newTest_126 rfl rfl ?_
      refine g_bipush C 12 dX11_newTest_127 (by decide) ?_
      refine g_iconst C 0 dX11_newTest_129 (by decide) ?_
      refine g_iload_n C 0 dX11_newTest_130 rfl rfl ?_
      refine g_iconst C 0 dX11_newTest_131 (by decide) ?_
      refine v_m_emit C ⟨by decide, by decide⟩ (Nat.le_of_ble_eq_true rfl) dX11_newTest_132 (fun r23 σ24 _ => ?_)
      exact g_iret C dX11_newTest_135
  · refine g_iconst C 0 dX11_newTest_71 (by decide) ?_
    exact g_iret C dX11_newTest_72
set_option maxHeartbeats 4000000 in
set_option maxRecDepth 100000 in
theorem s_m_newTest_33 {X : Cx} {ad : Nat → Nat} (C : Ok X cX11_newTest RX11 6 (some .int) 7 152) (N : Nat) (σ : St) (x1 : Int32) (t0 : Int32) : Sim X scM ad 6 outI 33 [(0, .ref (ad 0)), (1, .int x1)] [.int t0] σ (m_newTest_33 N σ x1 t0) := by
  unfold m_newTest_33
  refine g_istore_n C [(2, .int t0), (0, .ref (ad 0)), (1, .int x1)] dX11_newTest_33 rfl (by decide) rfl ?_
  refine g_iload_n C 0 dX11_newTest_34 rfl rfl ?_
  refine g_if_ne C 47 dX11_newTest_35 (by decide) ?_ ?_
  · refine g_aload_n C 1 dX11_newTest_47 rfl rfl ?_
    refine mg29 C dX11_newTest_48 ?_
    refine g_iconst C 1 dX11_newTest_51 (by decide) ?_
    refine mr29 C (v := gA σ 29 ((1 : Int32).toNatClampNeg)) dX11_newTest_52 rfl ?_
    refine g_bipush C 24 dX11_newTest_53 (by decide) ?_
    refine g_icmp_ne C 64 dX11_newTest_55 (by decide) ?_ ?_
    · exact g_sub [1, 2] rfl (s_m_newTest_64 C N σ x1)
    · refine g_aload_n C 1 dX11_newTest_58 rfl rfl ?_
      refine g_iconst C 2 dX11_newTest_59 (by decide) ?_
      refine g_iload_n C 2 dX11_newTest_60 rfl rfl ?_
      refine v_m_wrong C ⟨by decide, by decide⟩ (Nat.le_of_ble_eq_true rfl) dX11_newTest_61 (fun r25 σ26 _ => ?_)
      exact g_sub [1, 2] rfl (s_m_newTest_64 C N σ26 x1)
  · refine g_aload_n C 1 dX11_newTest_38 rfl rfl ?_
    refine g_iconst C 1 dX11_newTest_39 (by decide) ?_
    refine g_iload_n C 2 dX11_newTest_40 rfl rfl ?_
    refine v_m_wrong C ⟨by decide, by decide⟩ (Nat.le_of_ble_eq_true rfl) dX11_newTest_41 (fun r27 σ28 _ => ?_)
    refine g_goto C 64 dX11_newTest_44 (by decide) ?_
    exact g_sub [1, 2] rfl (s_m_newTest_64 C N σ28 x1)
set_option maxHeartbeats 4000000 in
set_option maxRecDepth 100000 in
theorem s_m_newTest_32 {X : Cx} {ad : Nat → Nat} (C : Ok X cX11_newTest RX11 6 (some .int) 7 152) (N : Nat) (σ : St) (x1 : Int32) : Sim X scM ad 6 outI 32 [(0, .ref (ad 0)), (1, .int x1)] [] σ (m_newTest_32 N σ x1) := by
  unfold m_newTest_32
  refine g_iconst C 0 dX11_newTest_32 (by decide) ?_
  exact g_sub [0, 1] rfl (s_m_newTest_33 C N σ x1 0)
set_option maxHeartbeats 4000000 in
set_option maxRecDepth 100000 in
theorem s_m_newTest_28 {X : Cx} {ad : Nat → Nat} (C : Ok X cX11_newTest RX11 6 (some .int) 7 152) (N : Nat) (σ : St) (x1 : Int32) : Sim X scM ad 6 outI 28 [(0, .ref (ad 0)), (1, .int x1)] [] σ (m_newTest_28 N σ x1) := by
  unfold m_newTest_28
  refine g_iconst C 1 dX11_newTest_28 (by decide) ?_
  refine g_goto C 33 dX11_newTest_29 (by decide) ?_
  exact g_sub [0, 1] rfl (s_m_newTest_33 C N σ x1 1)
set_option maxHeartbeats 4000000 in
set_option maxRecDepth 100000 in
theorem s_m_newTest {X : Cx} {ad : Nat → Nat} (C : Ok X cX11_newTest RX11 6 (some .int) 7 152) (N : Nat) (σ : St) : Sim X scM ad 6 outI 0 [(0, .ref (ad 0))] [] σ (m_newTest N σ) := by
  unfold m_newTest
  refine g_aload_n C 0 dX11_newTest_0 rfl rfl ?_
  refine mg5 C (v := gI σ 5) dX11_newTest_1 rfl ?_
  refine g_istore_n C [(1, .int (gI σ 5)), (0, .ref (ad 0))] dX11_newTest_4 rfl (by decide) rfl ?_
  refine g_aload_n C 1 dX11_newTest_5 rfl rfl ?_
  refine mg8 C (v := gI σ 8) dX11_newTest_6 rfl ?_
  refine g_if_ne C 32 dX11_newTest_9 (by decide) ?_ ?_
  · exact g_sub [1, 0] rfl (s_m_newTest_32 C N σ (gI σ 5))
  · refine g_aload_n C 1 dX11_newTest_12 rfl rfl ?_
    refine mg6 C (v := gI σ 6) dX11_newTest_13 rfl ?_
    refine g_if_eq C 28 dX11_newTest_16 (by decide) ?_ ?_
    · exact g_sub [1, 0] rfl (s_m_newTest_28 C N σ (gI σ 5))
    · refine g_aload_n C 1 dX11_newTest_19 rfl rfl ?_
      refine g_bipush C 7 dX11_newTest_20 (by decide) ?_
      refine v_m_isWord C ⟨by decide, by decide⟩ (Nat.le_of_ble_eq_true rfl) dX11_newTest_22 (fun r29 σ30 _ => ?_)
      refine g_if_eq C 32 dX11_newTest_25 (by decide) ?_ ?_
      · exact g_sub [1, 0] rfl (s_m_newTest_32 C N σ30 (gI σ 5))
      · exact g_sub [1, 0] rfl (s_m_newTest_28 C N σ30 (gI σ 5))
theorem c_m_newTest {Y : Yx} {ad : Nat → Nat} {N : Nat} {σ : St} {r : Int32} {σ' : St} (h : m_newTest N σ = some (r, σ')) : Con Y scM ad yX11_newTest cX11_newTest 6 (some .int) 7 152 [.ref (ad 0)] σ (outI r) σ' := con_of (by decide) rfl (Nat.le_of_ble_eq_true rfl) rfl (fun X hX C => s_m_newTest C N σ) h
set_option maxRecDepth 20000 in
theorem v_m_newTest {X : Cx} {cc : ByteArray} {nL : Nat} {ret : Option FieldType} {fr lo : Nat} {ad : Nat → Nat} {ρ : Type} {out : ρ → Option Value} {pc : Nat} {lv : List (Nat × Value)} {rest : List Value} {σ : St} {N : Nat} {K : Int32 → St → Option (ρ × St)} (C : Ok X cc RX11 nL ret fr lo) (hR : 7 + 1 ≤ fr ∧ 8 + (6 + 11) + 152 ≤ lo) (hcat : (rest.map fun v => v.category).sum ≤ 8) (hdg : decode cc pc = .ok (.invokevirtual 236, 3)) (k : ∀ (r : Int32) (σ' : St), m_newTest N σ = some (r, σ') → Sim X scM ad nL out (pc + 3) lv (.int r :: rest) σ' (K r σ')) : Sim X scM ad nL out pc lv (.ref (ad 0) :: rest) σ (bd (m_newTest N σ) K) := g_callV C (out1 := outI) (y := yX11_newTest) (n := 0) ⟨gw_1394, gw_1396, gw_80, gw_117, gw_1397⟩ (by decide +kernel) hR (o := 0) (ci := 10) (q9 := (RX11, TX11, 68)) imM0 rfl rfl rfl (fun r σ' h => c_m_newTest h) rfl rfl hcat hdg k

def m_statement_183 (N : Nat) (σ : St) : Option (Unit × St) :=
  bd (m_emit N σ 9 0 0 0) (fun r33 σ34 => bd (m_wants N σ34 59) (fun _ σ36 => some ((), σ36)))
def m_statement_97 (N : Nat) (σ : St) : Option (Unit × St) :=
  bd (m_wants N σ 59) (fun _ σ58 => some ((), σ58))
def m_statement (N : Nat) (σ : St) : Option (Unit × St) :=
  (if (gI σ 6) = 0 then bd (m_emit N σ 0 0 0 0) (fun r45 σ46 => bd (m_taken N σ46 0) (fun r47 σ48 => bd (m_isSign N σ48 46) (fun r49 σ50 => (if r49 = 0 then bd (m_wants N σ50 61) (fun _ σ52 => bd (m_worth N σ52) (fun _ σ54 => bd (m_emit N σ54 7 r47 0 0) (fun r55 σ56 => m_statement_97 N σ56))) else bd (m_newUse N σ50 r47 (gI σ 5)) (fun r59 σ60 => bd (m_next N σ60) (fun _ σ62 => bd (m_field N σ62) (fun r63 σ64 => bd (m_wants N σ64 61) (fun _ σ66 => bd (m_worth N σ66) (fun _ σ68 => bd (m_emit N σ68 8 r47 r63 r59) (fun r69 σ70 => m_statement_97 N σ70)))))))))) else (if (gI σ 6) = 1 then bd (m_emit N σ 0 0 0 0) (fun r39 σ40 => bd (m_call N σ40) (fun _ σ42 => bd (m_wants N σ42 59) (fun _ σ44 => some ((), σ44)))) else bd (m_isWord N σ 8) (fun r1 σ2 => (if r1 = 0 then bd (m_isWord N σ2 0) (fun r3 σ4 => (if r3 = 0 then bd (m_isWord N σ4 2) (fun r5 σ6 => (if r5 = 0 then bd (m_wrong N σ6 1 (gI σ 5)) (fun _ σ8 => some ((), σ8)) else bd (m_emit N σ6 0 0 0 0) (fun r9 σ10 => bd (m_next N σ10) (fun _ σ12 => bd (m_newTest N σ12) (fun r13 σ14 => bd (m_opens N σ14 3 r13 r13) (fun _ σ16 => some ((), σ16))))))) else bd (m_emit N σ4 0 0 0 0) (fun r17 σ18 => bd (m_next N σ18) (fun _ σ20 => bd (m_newTest N σ20) (fun r21 σ22 => bd (m_opens N σ22 1 r21 (-1)) (fun _ σ24 => some ((), σ24))))))) else bd (m_emit N σ2 0 0 0 0) (fun r25 σ26 => bd (m_next N σ26) (fun _ σ28 => bd (m_isSign N σ28 59) (fun r29 σ30 => (if r29 = 0 then bd (m_worth N σ30) (fun _ σ32 => m_statement_183 N σ32) else bd (m_emit N σ30 1 0 0 0) (fun r37 σ38 => m_statement_183 N σ38)))))))))
set_option maxHeartbeats 4000000 in
set_option maxRecDepth 100000 in
theorem s_m_statement_183 {X : Cx} {ad : Nat → Nat} (C : Ok X cX11_statement RX11 5 none 10 220) (N : Nat) (σ : St) : Sim X scM ad 5 outV 183 [(0, .ref (ad 0))] [] σ (m_statement_183 N σ) := by
  unfold m_statement_183
  refine g_aload_n C 0 dX11_statement_183 rfl rfl ?_
  refine g_bipush C 9 dX11_statement_184 (by decide) ?_
  refine g_iconst C 0 dX11_statement_186 (by decide) ?_
  refine g_iconst C 0 dX11_statement_187 (by decide) ?_
  refine g_iconst C 0 dX11_statement_188 (by decide) ?_
  refine v_m_emit C ⟨by decide, by decide⟩ (Nat.le_of_ble_eq_true rfl) dX11_statement_189 (fun r33 σ34 _ => ?_)
  refine g_pop C dX11_statement_192 rfl ?_
  refine g_aload_n C 0 dX11_statement_193 rfl rfl ?_
  refine g_bipush C 59 dX11_statement_194 (by decide) ?_
  refine v_m_wants C ⟨by decide, by decide⟩ (Nat.le_of_ble_eq_true rfl) dX11_statement_196 (fun r35 σ36 _ => ?_)
  refine g_goto C 280 dX11_statement_199 (by decide) ?_
  exact g_vret C dX11_statement_280
set_option maxHeartbeats 4000000 in
set_option maxRecDepth 100000 in
theorem s_m_statement_97 {X : Cx} {ad : Nat → Nat} (C : Ok X cX11_statement RX11 5 none 10 220) (N : Nat) (σ : St) : Sim X scM ad 5 outV 97 [(0, .ref (ad 0))] [] σ (m_statement_97 N σ) := by
  unfold m_statement_97
  refine g_aload_n C 0 dX11_statement_97 rfl rfl ?_
  refine g_bipush C 59 dX11_statement_98 (by decide) ?_
  refine v_m_wants C ⟨by decide, by decide⟩ (Nat.le_of_ble_eq_true rfl) dX11_statement_100 (fun r57 σ58 _ => ?_)
  refine g_goto C 280 dX11_statement_103 (by decide) ?_
  exact g_vret C dX11_statement_280
set_option maxHeartbeats 4000000 in
set_option maxRecDepth 100000 in
theorem s_m_statement {X : Cx} {ad : Nat → Nat} (C : Ok X cX11_statement RX11 5 none 10 220) (N : Nat) (σ : St) : Sim X scM ad 5 outV 0 [(0, .ref (ad 0))] [] σ (m_statement N σ) := by
  unfold m_statement
  refine g_aload_n C 0 dX11_statement_0 rfl rfl ?_
  refine mg5 C (v := gI σ 5) dX11_statement_1 rfl ?_
  refine g_istore_n C [(1, .int (gI σ 5)), (0, .ref (ad 0))] dX11_statement_4 rfl (by decide) rfl ?_
  refine g_aload_n C 1 dX11_statement_5 rfl rfl ?_
  refine mg6 C (v := gI σ 6) dX11_statement_6 rfl ?_
  refine g_if_ne C 106 dX11_statement_9 (by decide) ?_ ?_
  · refine g_aload_n C 1 dX11_statement_106 rfl rfl ?_
    refine mg6 C (v := gI σ 6) dX11_statement_107 rfl ?_
    refine g_iconst C 1 dX11_statement_110 (by decide) ?_
    refine g_icmp_ne C 136 dX11_statement_111 (by decide) ?_ ?_
    · refine g_aload_n C 1 dX11_statement_136 rfl rfl ?_
      refine g_bipush C 8 dX11_statement_137 (by decide) ?_
      refine v_m_isWord C ⟨by decide, by decide⟩ (Nat.le_of_ble_eq_true rfl) dX11_statement_139 (fun r1 σ2 _ => ?_)
      refine g_if_eq C 202 dX11_statement_142 (by decide) ?_ ?_
      · refine g_aload_n C 1 dX11_statement_202 rfl rfl ?_
        refine g_iconst C 0 dX11_statement_203 (by decide) ?_
        refine v_m_isWord C ⟨by decide, by decide⟩ (Nat.le_of_ble_eq_true rfl) dX11_statement_204 (fun r3 σ4 _ => ?_)
        refine g_if_eq C 238 dX11_statement_207 (by decide) ?_ ?_
        · refine g_aload_n C 1 dX11_statement_238 rfl rfl ?_
          refine g_iconst C 2 dX11_statement_239 (by decide) ?_
          refine v_m_isWord C ⟨by decide, by decide⟩ (Nat.le_of_ble_eq_true rfl) dX11_statement_240 (fun r5 σ6 _ => ?_)
          refine g_if_eq C 274 dX11_statement_243 (by decide) ?_ ?_
          · refine g_aload_n C 1 dX11_statement_274 rfl rfl ?_
            refine g_iconst C 1 dX11_statement_275 (by decide) ?_
            refine g_iload_n C 0 dX11_statement_276 rfl rfl ?_
            refine v_m_wrong C ⟨by decide, by decide⟩ (Nat.le_of_ble_eq_true rfl) dX11_statement_277 (fun r7 σ8 _ => ?_)
            exact g_vret C dX11_statement_280
          · refine g_aload_n C 1 dX11_statement_246 rfl rfl ?_
            refine g_iconst C 0 dX11_statement_247 (by decide) ?_
            refine g_iconst C 0 dX11_statement_248 (by decide) ?_
            refine g_iconst C 0 dX11_statement_249 (by decide) ?_
            refine g_iconst C 0 dX11_statement_250 (by decide) ?_
            refine v_m_emit C ⟨by decide, by decide⟩ (Nat.le_of_ble_eq_true rfl) dX11_statement_251 (fun r9 σ10 _ => ?_)
            refine g_pop C dX11_statement_254 rfl ?_
            refine g_aload_n C 1 dX11_statement_255 rfl rfl ?_
            refine v_m_next C ⟨by decide, by decide⟩ (Nat.le_of_ble_eq_true rfl) dX11_statement_256 (fun r11 σ12 _ => ?_)
            refine g_aload_n C 1 dX11_statement_259 rfl rfl ?_
            refine v_m_newTest C ⟨by decide, by decide⟩ (Nat.le_of_ble_eq_true rfl) dX11_statement_260 (fun r13 σ14 _ => ?_)
            refine g_istore_n C [(2, .int r13), (1, .int (gI σ 5)), (0, .ref (ad 0))] dX11_statement_263 rfl (by decide) rfl ?_
            refine g_aload_n C 2 dX11_statement_264 rfl rfl ?_
            refine g_iconst C 3 dX11_statement_265 (by decide) ?_
            refine g_iload_n C 0 dX11_statement_266 rfl rfl ?_
            refine g_iload_n C 0 dX11_statement_267 rfl rfl ?_
            refine v_m_opens C ⟨by decide, by decide⟩ (Nat.le_of_ble_eq_true rfl) dX11_statement_268 (fun r15 σ16 _ => ?_)
            refine g_goto C 280 dX11_statement_271 (by decide) ?_
            exact g_vret C dX11_statement_280
        · refine g_aload_n C 1 dX11_statement_210 rfl rfl ?_
          refine g_iconst C 0 dX11_statement_211 (by decide) ?_
          refine g_iconst C 0 dX11_statement_212 (by decide) ?_
          refine g_iconst C 0 dX11_statement_213 (by decide) ?_
          refine g_iconst C 0 dX11_statement_214 (by decide) ?_
          refine v_m_emit C ⟨by decide, by decide⟩ (Nat.le_of_ble_eq_true rfl) dX11_statement_215 (fun r17 σ18 _ => ?_)
          refine g_pop C dX11_statement_218 rfl ?_
          refine g_aload_n C 1 dX11_statement_219 rfl rfl ?_
          refine v_m_next C ⟨by decide, by decide⟩ (Nat.le_of_ble_eq_true rfl) dX11_statement_220 (fun r19 σ20 _ => ?_)
          refine g_aload_n C 1 dX11_statement_223 rfl rfl ?_
          refine v_m_newTest C ⟨by decide, by decide⟩ (Nat.le_of_ble_eq_true rfl) dX11_statement_224 (fun r21 σ22 _ => ?_)
          refine g_istore_n C [(2, .int r21), (1, .int (gI σ 5)), (0, .ref (ad 0))] dX11_statement_227 rfl (by decide) rfl ?_
          refine g_aload_n C 2 dX11_statement_228 rfl rfl ?_
          refine g_iconst C 1 dX11_statement_229 (by decide) ?_
          refine g_iload_n C 0 dX11_statement_230 rfl rfl ?_
          refine g_iconst C (-1) dX11_statement_231 (by decide) ?_
          refine v_m_opens C ⟨by decide, by decide⟩ (Nat.le_of_ble_eq_true rfl) dX11_statement_232 (fun r23 σ24 _ => ?_)
          refine g_goto C 280 dX11_statement_235 (by decide) ?_
          exact g_vret C dX11_statement_280
      · refine g_aload_n C 1 dX11_statement_145 rfl rfl ?_
        refine g_iconst C 0 dX11_statement_146 (by decide) ?_
        refine g_iconst C 0 dX11_statement_147 (by decide) ?_
        refine g_iconst C 0 dX11_statement_148 (by decide) ?_
        refine g_iconst C 0 dX11_statement_149 (by decide) ?_
        refine v_m_emit C ⟨by decide, by decide⟩ (Nat.le_of_ble_eq_true rfl) dX11_statement_150 (fun r25 σ26 _ => ?_)
        refine g_pop C dX11_statement_153 rfl ?_
        refine g_aload_n C 1 dX11_statement_154 rfl rfl ?_
        refine v_m_next C ⟨by decide, by decide⟩ (Nat.le_of_ble_eq_true rfl) dX11_statement_155 (fun r27 σ28 _ => ?_)
        refine g_aload_n C 1 dX11_statement_158 rfl rfl ?_
        refine g_bipush C 59 dX11_statement_159 (by decide) ?_
        refine v_m_isSign C ⟨by decide, by decide⟩ (Nat.le_of_ble_eq_true rfl) dX11_statement_161 (fun r29 σ30 _ => ?_)
        refine g_if_eq C 179 dX11_statement_164 (by decide) ?_ ?_
        · refine g_aload_n C 1 dX11_statement_179 rfl rfl ?_
          refine v_m_worth C ⟨by decide, by decide⟩ (Nat.le_of_ble_eq_true rfl) dX11_statement_180 (fun r31 σ32 _ => ?_)
          exact g_sub [1] rfl (s_m_statement_183 C N σ32)
        · refine g_aload_n C 1 dX11_statement_167 rfl rfl ?_
          refine g_iconst C 1 dX11_statement_168 (by decide) ?_
          refine g_iconst C 0 dX11_statement_169 (by decide) ?_
          refine g_iconst C 0 dX11_statement_170 (by decide) ?_
          refine g_iconst C 0 dX11_statement_171 (by decide) ?_
          refine v_m_emit C ⟨by decide, by decide⟩ (Nat.le_of_ble_eq_true rfl) dX11_statement_172 (fun r37 σ38 _ => ?_)
          refine g_pop C dX11_statement_175 rfl ?_
          refine g_goto C 183 dX11_statement_176 (by decide) ?_
          exact g_sub [1] rfl (s_m_statement_183 C N σ38)
    · refine g_aload_n C 1 dX11_statement_114 rfl rfl ?_
      refine g_iconst C 0 dX11_statement_115 (by decide) ?_
      refine g_iconst C 0 dX11_statement_116 (by decide) ?_
      refine g_iconst C 0 dX11_statement_117 (by decide) ?_
      refine g_iconst C 0 dX11_statement_118 (by decide) ?_
      refine v_m_emit C ⟨by decide, by decide⟩ (Nat.le_of_ble_eq_true rfl) dX11_statement_119 (fun r39 σ40 _ => ?_)
      refine g_pop C dX11_statement_122 rfl ?_
      refine g_aload_n C 1 dX11_statement_123 rfl rfl ?_
      refine v_m_call C ⟨by decide, by decide⟩ (Nat.le_of_ble_eq_true rfl) dX11_statement_124 (fun r41 σ42 _ => ?_)
      refine g_aload_n C 1 dX11_statement_127 rfl rfl ?_
      refine g_bipush C 59 dX11_statement_128 (by decide) ?_
      refine v_m_wants C ⟨by decide, by decide⟩ (Nat.le_of_ble_eq_true rfl) dX11_statement_130 (fun r43 σ44 _ => ?_)
      refine g_goto C 280 dX11_statement_133 (by decide) ?_
      exact g_vret C dX11_statement_280
  · refine g_aload_n C 1 dX11_statement_12 rfl rfl ?_
    refine g_iconst C 0 dX11_statement_13 (by decide) ?_
    refine g_iconst C 0 dX11_statement_14 (by decide) ?_
    refine g_iconst C 0 dX11_statement_15 (by decide) ?_
    refine g_iconst C 0 dX11_statement_16 (by decide) ?_
    refine v_m_emit C ⟨by decide, by decide⟩ (Nat.le_of_ble_eq_true rfl) dX11_statement_17 (fun r45 σ46 _ => ?_)
    refine g_pop C dX11_statement_20 rfl ?_
    refine g_aload_n C 1 dX11_statement_21 rfl rfl ?_
    refine g_iconst C 0 dX11_statement_22 (by decide) ?_
    refine v_m_taken C ⟨by decide, by decide⟩ (Nat.le_of_ble_eq_true rfl) dX11_statement_23 (fun r47 σ48 _ => ?_)
    refine g_istore_n C [(2, .int r47), (1, .int (gI σ 5)), (0, .ref (ad 0))] dX11_statement_26 rfl (by decide) rfl ?_
    refine g_aload_n C 2 dX11_statement_27 rfl rfl ?_
    refine g_bipush C 46 dX11_statement_28 (by decide) ?_
    refine v_m_isSign C ⟨by decide, by decide⟩ (Nat.le_of_ble_eq_true rfl) dX11_statement_30 (fun r49 σ50 _ => ?_)
    refine g_if_eq C 77 dX11_statement_33 (by decide) ?_ ?_
    · refine g_aload_n C 2 dX11_statement_77 rfl rfl ?_
      refine g_bipush C 61 dX11_statement_78 (by decide) ?_
      refine v_m_wants C ⟨by decide, by decide⟩ (Nat.le_of_ble_eq_true rfl) dX11_statement_80 (fun r51 σ52 _ => ?_)
      refine g_aload_n C 2 dX11_statement_83 rfl rfl ?_
      refine v_m_worth C ⟨by decide, by decide⟩ (Nat.le_of_ble_eq_true rfl) dX11_statement_84 (fun r53 σ54 _ => ?_)
      refine g_aload_n C 2 dX11_statement_87 rfl rfl ?_
      refine g_bipush C 7 dX11_statement_88 (by decide) ?_
      refine g_iload_n C 0 dX11_statement_90 rfl rfl ?_
      refine g_iconst C 0 dX11_statement_91 (by decide) ?_
      refine g_iconst C 0 dX11_statement_92 (by decide) ?_
      refine v_m_emit C ⟨by decide, by decide⟩ (Nat.le_of_ble_eq_true rfl) dX11_statement_93 (fun r55 σ56 _ => ?_)
      refine g_pop C dX11_statement_96 rfl ?_
      exact g_sub [2] rfl (s_m_statement_97 C N σ56)
    · refine g_aload_n C 2 dX11_statement_36 rfl rfl ?_
      refine g_iload_n C 0 dX11_statement_37 rfl rfl ?_
      refine g_iload_n C 1 dX11_statement_38 rfl rfl ?_
      refine v_m_newUse C ⟨by decide, by decide⟩ (Nat.le_of_ble_eq_true rfl) dX11_statement_39 (fun r59 σ60 _ => ?_)
      refine g_istore_n C [(3, .int r59), (2, .int r47), (1, .int (gI σ 5)), (0, .ref (ad 0))] dX11_statement_42 rfl (by decide) rfl ?_
      refine g_aload_n C 3 dX11_statement_43 rfl rfl ?_
      refine v_m_next C ⟨by decide, by decide⟩ (Nat.le_of_ble_eq_true rfl) dX11_statement_44 (fun r61 σ62 _ => ?_)
      refine g_aload_n C 3 dX11_statement_47 rfl rfl ?_
      refine v_m_field C ⟨by decide, by decide⟩ (Nat.le_of_ble_eq_true rfl) dX11_statement_48 (fun r63 σ64 _ => ?_)
      refine g_istore C [(4, .int r63), (3, .int r59), (2, .int r47), (1, .int (gI σ 5)), (0, .ref (ad 0))] dX11_statement_51 (by decide) rfl ?_
      refine g_aload_n C 4 dX11_statement_53 rfl rfl ?_
      refine g_bipush C 61 dX11_statement_54 (by decide) ?_
      refine v_m_wants C ⟨by decide, by decide⟩ (Nat.le_of_ble_eq_true rfl) dX11_statement_56 (fun r65 σ66 _ => ?_)
      refine g_aload_n C 4 dX11_statement_59 rfl rfl ?_
      refine v_m_worth C ⟨by decide, by decide⟩ (Nat.le_of_ble_eq_true rfl) dX11_statement_60 (fun r67 σ68 _ => ?_)
      refine g_aload_n C 4 dX11_statement_63 rfl rfl ?_
      refine g_bipush C 8 dX11_statement_64 (by decide) ?_
      refine g_iload_n C 2 dX11_statement_66 rfl rfl ?_
      refine g_iload C 0 dX11_statement_67 rfl ?_
      refine g_iload_n C 1 dX11_statement_69 rfl rfl ?_
      refine v_m_emit C ⟨by decide, by decide⟩ (Nat.le_of_ble_eq_true rfl) dX11_statement_70 (fun r69 σ70 _ => ?_)
      refine g_pop C dX11_statement_73 rfl ?_
      refine g_goto C 97 dX11_statement_74 (by decide) ?_
      exact g_sub [4] rfl (s_m_statement_97 C N σ70)
theorem c_m_statement {Y : Yx} {ad : Nat → Nat} {N : Nat} {σ : St} {r : Unit} {σ' : St} (h : m_statement N σ = some (r, σ')) : Con Y scM ad yX11_statement cX11_statement 5 none 10 220 [.ref (ad 0)] σ (outV r) σ' := con_of (by decide) rfl (Nat.le_of_ble_eq_true rfl) rfl (fun X hX C => s_m_statement C N σ) h
set_option maxRecDepth 20000 in
theorem v_m_statement {X : Cx} {cc : ByteArray} {nL : Nat} {ret : Option FieldType} {fr lo : Nat} {ad : Nat → Nat} {ρ : Type} {out : ρ → Option Value} {pc : Nat} {lv : List (Nat × Value)} {rest : List Value} {σ : St} {N : Nat} {K : Unit → St → Option (ρ × St)} (C : Ok X cc RX11 nL ret fr lo) (hR : 10 + 1 ≤ fr ∧ 8 + (5 + 11) + 220 ≤ lo) (hcat : (rest.map fun v => v.category).sum ≤ 8) (hdg : decode cc pc = .ok (.invokevirtual 198, 3)) (k : ∀ (r : Unit) (σ' : St), m_statement N σ = some (r, σ') → Sim X scM ad nL out (pc + 3) lv rest σ' (K r σ')) : Sim X scM ad nL out pc lv (.ref (ad 0) :: rest) σ (bd (m_statement N σ) K) := g_callV C (out1 := outV) (y := yX11_statement) (n := 0) ⟨gw_1374, gw_1376, gw_75, gw_117, gw_1377⟩ (by decide +kernel) hR (o := 0) (ci := 10) (q9 := (RX11, TX11, 68)) imM0 rfl rfl rfl (fun r σ' h => c_m_statement h) rfl rfl hcat hdg k

def m_parses_199 (N : Nat) (rec138 : St → Int32 → Option (Unit × St)) (σ : St) (x1 : Int32) : Option (Unit × St) :=
  rec138 σ (x1 + 1)
def m_parses_188 (N : Nat) (rec138 : St → Int32 → Option (Unit × St)) (σ : St) (x1 : Int32) : Option (Unit × St) :=
  gd (ib x1 400) (bd (m_wrong N σ 4 (gA σ 30 x1.toNatClampNeg)) (fun _ σ4 => m_parses_199 N rec138 σ4 x1))
def m_parses_138_b (N : Nat) (rec138 : St → Int32 → Option (Unit × St)) (σ : St) (x1 : Int32) : Option (Unit × St) :=
  (if (gI σ 33) ≤ x1 then some ((), σ) else (if (gI σ 8) = 0 then gd (ib x1 400) (gd (ib (8 + (gA σ 31 x1.toNatClampNeg)) 16) ((if (gA σ 19 ((8 + (gA σ 31 x1.toNatClampNeg)).toNatClampNeg)) = (-1) then m_parses_188 N rec138 σ x1 else gd (ib (8 + (gA σ 31 x1.toNatClampNeg)) 16) (gd (ib x1 400) ((if (gA σ 20 ((8 + (gA σ 31 x1.toNatClampNeg)).toNatClampNeg)) = (gA σ 32 x1.toNatClampNeg) then m_parses_199 N rec138 σ x1 else m_parses_188 N rec138 σ x1)))))) else some ((), σ)))
def m_parses_138 (N : Nat) : Nat → St → Int32 → Option (Unit × St)
  | 0 => fun _ _ => none
  | n + 1 => fun σ x1 => m_parses_138_b N (m_parses_138 N n) σ x1
def m_parses_99 (N : Nat) (rec77 : St → Option (Unit × St)) (σ : St) : Option (Unit × St) :=
  (if (gI σ 38) = 0 then bd (m_head N σ) (fun _ σ12 => rec77 σ12) else bd (m_isSign N σ 125) (fun r5 σ6 => (if r5 = 0 then bd (m_statement N σ6) (fun _ σ8 => rec77 σ8) else bd (m_closes N σ6) (fun _ σ10 => rec77 σ10))))
def m_parses_77_b (N : Nat) (rec77 : St → Option (Unit × St)) (σ : St) : Option (Unit × St) :=
  (if (gI σ 8) = 0 then (if (gI σ 6) = 4 then (if (gI σ 38) ≤ 0 then m_parses_138 N N σ 0 else m_parses_99 N rec77 σ) else m_parses_99 N rec77 σ) else m_parses_138 N N σ 0)
def m_parses_77 (N : Nat) : Nat → St → Option (Unit × St)
  | 0 => fun _ => none
  | n + 1 => fun σ => m_parses_77_b N (m_parses_77 N n) σ
def m_parses_73 (N : Nat) (σ : St) : Option (Unit × St) :=
  bd (m_next N σ) (fun _ σ2 => m_parses_77 N N σ2)
def m_parses_54_b (N : Nat) (rec54 : St → Int32 → Option (Unit × St)) (σ : St) (x1 : Int32) : Option (Unit × St) :=
  (if 16 ≤ x1 then m_parses_73 N σ else gd (ib x1 16) (rec54 (sA σ 19 x1.toNatClampNeg (-1)) (x1 + 1)))
def m_parses_54 (N : Nat) : Nat → St → Int32 → Option (Unit × St)
  | 0 => fun _ _ => none
  | n + 1 => fun σ x1 => m_parses_54_b N (m_parses_54 N n) σ x1
def m_parses (N : Nat) (σ : St) : Option (Unit × St) :=
  gd (ib 1 2) (gd (ib 1 2) (gd (ib 1 2) (m_parses_54 N N (sA (sA (sA (sI (sI (sI (sI (sI (sI σ 4 0) 8 0) 9 (-1)) 17 0) 33 0) 38 0) 26 ((1 : Int32).toNatClampNeg) 0) 29 ((1 : Int32).toNatClampNeg) 0) 22 ((1 : Int32).toNatClampNeg) (-1)) 8)))
set_option maxHeartbeats 4000000 in
set_option maxRecDepth 100000 in
theorem s_m_parses_199 {X : Cx} {ad : Nat → Nat} (C : Ok X cX11_parses RX11 3 none 11 244) (N : Nat) {rec138 : St → Int32 → Option (Unit × St)} (hrec138 : ∀ (σ : St) (x1 : Int32), Sim X scM ad 3 outV 138 [(0, .ref (ad 0)), (1, .int x1)] [] σ (rec138 σ x1)) (σ : St) (x1 : Int32) : Sim X scM ad 3 outV 199 [(0, .ref (ad 0)), (1, .int x1)] [] σ (m_parses_199 N rec138 σ x1) := by
  unfold m_parses_199
  refine g_iinc C (x1 + 1) 1 [(1, .int (x1 + 1)), (0, .ref (ad 0))] dX11_parses_199 rfl rfl (by decide) rfl ?_
  refine g_goto C 138 dX11_parses_202 (by decide) ?_
  exact g_sub [1, 0] rfl (hrec138 σ (x1 + 1))
set_option maxHeartbeats 4000000 in
set_option maxRecDepth 100000 in
theorem s_m_parses_188 {X : Cx} {ad : Nat → Nat} (C : Ok X cX11_parses RX11 3 none 11 244) (N : Nat) {rec138 : St → Int32 → Option (Unit × St)} (hrec138 : ∀ (σ : St) (x1 : Int32), Sim X scM ad 3 outV 138 [(0, .ref (ad 0)), (1, .int x1)] [] σ (rec138 σ x1)) (σ : St) (x1 : Int32) : Sim X scM ad 3 outV 188 [(0, .ref (ad 0)), (1, .int x1)] [] σ (m_parses_188 N rec138 σ x1) := by
  unfold m_parses_188
  refine g_aload_n C 0 dX11_parses_188 rfl rfl ?_
  refine g_iconst C 4 dX11_parses_189 (by decide) ?_
  refine g_aload_n C 0 dX11_parses_190 rfl rfl ?_
  refine mg30 C dX11_parses_191 ?_
  refine g_iload_n C 1 dX11_parses_194 rfl rfl ?_
  refine mr30 C (v := gA σ 30 x1.toNatClampNeg) dX11_parses_195 rfl ?_
  refine v_m_wrong C ⟨by decide, by decide⟩ (Nat.le_of_ble_eq_true rfl) dX11_parses_196 (fun r3 σ4 _ => ?_)
  exact g_sub [0, 1] rfl (s_m_parses_199 C N hrec138 σ4 x1)
set_option maxHeartbeats 4000000 in
set_option maxRecDepth 100000 in
theorem s_m_parses_138_b {X : Cx} {ad : Nat → Nat} (C : Ok X cX11_parses RX11 3 none 11 244) (N : Nat) {rec138 : St → Int32 → Option (Unit × St)} (hrec138 : ∀ (σ : St) (x1 : Int32), Sim X scM ad 3 outV 138 [(0, .ref (ad 0)), (1, .int x1)] [] σ (rec138 σ x1)) (σ : St) (x1 : Int32) : Sim X scM ad 3 outV 138 [(0, .ref (ad 0)), (1, .int x1)] [] σ (m_parses_138_b N rec138 σ x1) := by
  unfold m_parses_138_b
  refine g_iload_n C 1 dX11_parses_138 rfl rfl ?_
  refine g_aload_n C 0 dX11_parses_139 rfl rfl ?_
  refine mg33 C (v := gI σ 33) dX11_parses_140 rfl ?_
  refine g_icmp_ge C 205 dX11_parses_143 (by decide) ?_ ?_
  · exact g_vret C dX11_parses_205
  · refine g_aload_n C 0 dX11_parses_146 rfl rfl ?_
    refine mg8 C (v := gI σ 8) dX11_parses_147 rfl ?_
    refine g_if_ne C 205 dX11_parses_150 (by decide) ?_ ?_
    · exact g_vret C dX11_parses_205
    · refine g_bipush C 8 dX11_parses_153 (by decide) ?_
      refine g_aload_n C 0 dX11_parses_155 rfl rfl ?_
      refine mg31 C dX11_parses_156 ?_
      refine g_iload_n C 1 dX11_parses_159 rfl rfl ?_
      refine mr31 C (v := gA σ 31 x1.toNatClampNeg) dX11_parses_160 rfl ?_
      refine g_iadd C dX11_parses_161 ?_
      refine g_istore_n C [(2, .int (8 + (gA σ 31 x1.toNatClampNeg))), (0, .ref (ad 0)), (1, .int x1)] dX11_parses_162 rfl (by decide) rfl ?_
      refine g_aload_n C 1 dX11_parses_163 rfl rfl ?_
      refine mg19 C dX11_parses_164 ?_
      refine g_iload_n C 0 dX11_parses_167 rfl rfl ?_
      refine mr19 C (v := gA σ 19 ((8 + (gA σ 31 x1.toNatClampNeg)).toNatClampNeg)) dX11_parses_168 rfl ?_
      refine g_iconst C (-1) dX11_parses_169 (by decide) ?_
      refine g_icmp_eq C 188 dX11_parses_170 (by decide) ?_ ?_
      · exact g_sub [1, 2] rfl (s_m_parses_188 C N hrec138 σ x1)
      · refine g_aload_n C 1 dX11_parses_173 rfl rfl ?_
        refine mg20 C dX11_parses_174 ?_
        refine g_iload_n C 0 dX11_parses_177 rfl rfl ?_
        refine mr20 C (v := gA σ 20 ((8 + (gA σ 31 x1.toNatClampNeg)).toNatClampNeg)) dX11_parses_178 rfl ?_
        refine g_aload_n C 1 dX11_parses_179 rfl rfl ?_
        refine mg32 C dX11_parses_180 ?_
        refine g_iload_n C 2 dX11_parses_183 rfl rfl ?_
        refine mr32 C (v := gA σ 32 x1.toNatClampNeg) dX11_parses_184 rfl ?_
        refine g_icmp_eq C 199 dX11_parses_185 (by decide) ?_ ?_
        · exact g_sub [1, 2] rfl (s_m_parses_199 C N hrec138 σ x1)
        · exact g_sub [1, 2] rfl (s_m_parses_188 C N hrec138 σ x1)
set_option maxHeartbeats 4000000 in
set_option maxRecDepth 100000 in
theorem s_m_parses_138 {X : Cx} {ad : Nat → Nat} (C : Ok X cX11_parses RX11 3 none 11 244) (N : Nat) : ∀ (n : Nat) (σ : St) (x1 : Int32), Sim X scM ad 3 outV 138 [(0, .ref (ad 0)), (1, .int x1)] [] σ (m_parses_138 N n σ x1) := by
  intro n
  induction n with
  | zero => intro σ x1; exact g_none
  | succ n ih => intro σ x1; exact s_m_parses_138_b C N ih σ x1
set_option maxHeartbeats 4000000 in
set_option maxRecDepth 100000 in
theorem s_m_parses_99 {X : Cx} {ad : Nat → Nat} (C : Ok X cX11_parses RX11 3 none 11 244) (N : Nat) {rec77 : St → Option (Unit × St)} (hrec77 : ∀ (σ : St), Sim X scM ad 3 outV 77 [(0, .ref (ad 0))] [] σ (rec77 σ)) (σ : St) : Sim X scM ad 3 outV 99 [(0, .ref (ad 0))] [] σ (m_parses_99 N rec77 σ) := by
  unfold m_parses_99
  refine g_aload_n C 0 dX11_parses_99 rfl rfl ?_
  refine mg38 C (v := gI σ 38) dX11_parses_100 rfl ?_
  refine g_if_ne C 113 dX11_parses_103 (by decide) ?_ ?_
  · refine g_aload_n C 0 dX11_parses_113 rfl rfl ?_
    refine g_bipush C 125 dX11_parses_114 (by decide) ?_
    refine v_m_isSign C ⟨by decide, by decide⟩ (Nat.le_of_ble_eq_true rfl) dX11_parses_116 (fun r5 σ6 _ => ?_)
    refine g_if_eq C 129 dX11_parses_119 (by decide) ?_ ?_
    · refine g_aload_n C 0 dX11_parses_129 rfl rfl ?_
      refine v_m_statement C ⟨by decide, by decide⟩ (Nat.le_of_ble_eq_true rfl) dX11_parses_130 (fun r7 σ8 _ => ?_)
      refine g_goto C 77 dX11_parses_133 (by decide) ?_
      exact g_sub [0] rfl (hrec77 σ8)
    · refine g_aload_n C 0 dX11_parses_122 rfl rfl ?_
      refine v_m_closes C ⟨by decide, by decide⟩ (Nat.le_of_ble_eq_true rfl) dX11_parses_123 (fun r9 σ10 _ => ?_)
      refine g_goto C 77 dX11_parses_126 (by decide) ?_
      exact g_sub [0] rfl (hrec77 σ10)
  · refine g_aload_n C 0 dX11_parses_106 rfl rfl ?_
    refine v_m_head C ⟨by decide, by decide⟩ (Nat.le_of_ble_eq_true rfl) dX11_parses_107 (fun r11 σ12 _ => ?_)
    refine g_goto C 77 dX11_parses_110 (by decide) ?_
    exact g_sub [0] rfl (hrec77 σ12)
set_option maxHeartbeats 4000000 in
set_option maxRecDepth 100000 in
theorem s_m_parses_77_b {X : Cx} {ad : Nat → Nat} (C : Ok X cX11_parses RX11 3 none 11 244) (N : Nat) {rec77 : St → Option (Unit × St)} (hrec77 : ∀ (σ : St), Sim X scM ad 3 outV 77 [(0, .ref (ad 0))] [] σ (rec77 σ)) (σ : St) : Sim X scM ad 3 outV 77 [(0, .ref (ad 0))] [] σ (m_parses_77_b N rec77 σ) := by
  unfold m_parses_77_b
  refine g_aload_n C 0 dX11_parses_77 rfl rfl ?_
  refine mg8 C (v := gI σ 8) dX11_parses_78 rfl ?_
  refine g_if_ne C 136 dX11_parses_81 (by decide) ?_ ?_
  · refine g_iconst C 0 dX11_parses_136 (by decide) ?_
    refine g_istore_n C [(1, .int 0), (0, .ref (ad 0))] dX11_parses_137 rfl (by decide) rfl ?_
    exact g_sub [1, 0] rfl (s_m_parses_138 C N N σ 0)
  · refine g_aload_n C 0 dX11_parses_84 rfl rfl ?_
    refine mg6 C (v := gI σ 6) dX11_parses_85 rfl ?_
    refine g_iconst C 4 dX11_parses_88 (by decide) ?_
    refine g_icmp_ne C 99 dX11_parses_89 (by decide) ?_ ?_
    · exact g_sub [0] rfl (s_m_parses_99 C N hrec77 σ)
    · refine g_aload_n C 0 dX11_parses_92 rfl rfl ?_
      refine mg38 C (v := gI σ 38) dX11_parses_93 rfl ?_
      refine g_if_le C 136 dX11_parses_96 (by decide) ?_ ?_
      · refine g_iconst C 0 dX11_parses_136 (by decide) ?_
        refine g_istore_n C [(1, .int 0), (0, .ref (ad 0))] dX11_parses_137 rfl (by decide) rfl ?_
        exact g_sub [1, 0] rfl (s_m_parses_138 C N N σ 0)
      · exact g_sub [0] rfl (s_m_parses_99 C N hrec77 σ)
set_option maxHeartbeats 4000000 in
set_option maxRecDepth 100000 in
theorem s_m_parses_77 {X : Cx} {ad : Nat → Nat} (C : Ok X cX11_parses RX11 3 none 11 244) (N : Nat) : ∀ (n : Nat) (σ : St), Sim X scM ad 3 outV 77 [(0, .ref (ad 0))] [] σ (m_parses_77 N n σ) := by
  intro n
  induction n with
  | zero => intro σ; exact g_none
  | succ n ih => intro σ; exact s_m_parses_77_b C N ih σ
set_option maxHeartbeats 4000000 in
set_option maxRecDepth 100000 in
theorem s_m_parses_73 {X : Cx} {ad : Nat → Nat} (C : Ok X cX11_parses RX11 3 none 11 244) (N : Nat) (σ : St) : Sim X scM ad 3 outV 73 [(0, .ref (ad 0))] [] σ (m_parses_73 N σ) := by
  unfold m_parses_73
  refine g_aload_n C 0 dX11_parses_73 rfl rfl ?_
  refine v_m_next C ⟨by decide, by decide⟩ (Nat.le_of_ble_eq_true rfl) dX11_parses_74 (fun r1 σ2 _ => ?_)
  exact g_sub [0] rfl (s_m_parses_77 C N N σ2)
set_option maxHeartbeats 4000000 in
set_option maxRecDepth 100000 in
theorem s_m_parses_54_b {X : Cx} {ad : Nat → Nat} (C : Ok X cX11_parses RX11 3 none 11 244) (N : Nat) {rec54 : St → Int32 → Option (Unit × St)} (hrec54 : ∀ (σ : St) (x1 : Int32), Sim X scM ad 3 outV 54 [(0, .ref (ad 0)), (1, .int x1)] [] σ (rec54 σ x1)) (σ : St) (x1 : Int32) : Sim X scM ad 3 outV 54 [(0, .ref (ad 0)), (1, .int x1)] [] σ (m_parses_54_b N rec54 σ x1) := by
  unfold m_parses_54_b
  refine g_iload_n C 1 dX11_parses_54 rfl rfl ?_
  refine g_bipush C 16 dX11_parses_55 (by decide) ?_
  refine g_icmp_ge C 73 dX11_parses_57 (by decide) ?_ ?_
  · exact g_sub [0] rfl (s_m_parses_73 C N σ)
  · refine g_aload_n C 0 dX11_parses_60 rfl rfl ?_
    refine mg19 C dX11_parses_61 ?_
    refine g_iload_n C 1 dX11_parses_64 rfl rfl ?_
    refine g_iconst C (-1) dX11_parses_65 (by decide) ?_
    refine mw19 C dX11_parses_66 ?_
    refine g_iinc C (x1 + 1) 1 [(1, .int (x1 + 1)), (0, .ref (ad 0))] dX11_parses_67 rfl rfl (by decide) rfl ?_
    refine g_goto C 54 dX11_parses_70 (by decide) ?_
    exact g_sub [1, 0] rfl (hrec54 (sA σ 19 x1.toNatClampNeg (-1)) (x1 + 1))
set_option maxHeartbeats 4000000 in
set_option maxRecDepth 100000 in
theorem s_m_parses_54 {X : Cx} {ad : Nat → Nat} (C : Ok X cX11_parses RX11 3 none 11 244) (N : Nat) : ∀ (n : Nat) (σ : St) (x1 : Int32), Sim X scM ad 3 outV 54 [(0, .ref (ad 0)), (1, .int x1)] [] σ (m_parses_54 N n σ x1) := by
  intro n
  induction n with
  | zero => intro σ x1; exact g_none
  | succ n ih => intro σ x1; exact s_m_parses_54_b C N ih σ x1
set_option maxHeartbeats 4000000 in
set_option maxRecDepth 100000 in
theorem s_m_parses {X : Cx} {ad : Nat → Nat} (C : Ok X cX11_parses RX11 3 none 11 244) (N : Nat) (σ : St) : Sim X scM ad 3 outV 0 [(0, .ref (ad 0))] [] σ (m_parses N σ) := by
  unfold m_parses
  refine g_aload_n C 0 dX11_parses_0 rfl rfl ?_
  refine g_iconst C 0 dX11_parses_1 (by decide) ?_
  refine mp4 C dX11_parses_2 ?_
  refine g_aload_n C 0 dX11_parses_5 rfl rfl ?_
  refine g_iconst C 0 dX11_parses_6 (by decide) ?_
  refine mp8 C dX11_parses_7 ?_
  refine g_aload_n C 0 dX11_parses_10 rfl rfl ?_
  refine g_iconst C (-1) dX11_parses_11 (by decide) ?_
  refine mp9 C dX11_parses_12 ?_
  refine g_aload_n C 0 dX11_parses_15 rfl rfl ?_
  refine g_iconst C 0 dX11_parses_16 (by decide) ?_
  refine mp17 C dX11_parses_17 ?_
  refine g_aload_n C 0 dX11_parses_20 rfl rfl ?_
  refine g_iconst C 0 dX11_parses_21 (by decide) ?_
  refine mp33 C dX11_parses_22 ?_
  refine g_aload_n C 0 dX11_parses_25 rfl rfl ?_
  refine g_iconst C 0 dX11_parses_26 (by decide) ?_
  refine mp38 C dX11_parses_27 ?_
  refine g_aload_n C 0 dX11_parses_30 rfl rfl ?_
  refine mg26 C dX11_parses_31 ?_
  refine g_iconst C 1 dX11_parses_34 (by decide) ?_
  refine g_iconst C 0 dX11_parses_35 (by decide) ?_
  refine mw26 C dX11_parses_36 ?_
  refine g_aload_n C 0 dX11_parses_37 rfl rfl ?_
  refine mg29 C dX11_parses_38 ?_
  refine g_iconst C 1 dX11_parses_41 (by decide) ?_
  refine g_iconst C 0 dX11_parses_42 (by decide) ?_
  refine mw29 C dX11_parses_43 ?_
  refine g_aload_n C 0 dX11_parses_44 rfl rfl ?_
  refine mg22 C dX11_parses_45 ?_
  refine g_iconst C 1 dX11_parses_48 (by decide) ?_
  refine g_iconst C (-1) dX11_parses_49 (by decide) ?_
  refine mw22 C dX11_parses_50 ?_
  refine g_bipush C 8 dX11_parses_51 (by decide) ?_
  refine g_istore_n C [(1, .int 8), (0, .ref (ad 0))] dX11_parses_53 rfl (by decide) rfl ?_
  exact g_sub [1, 0] rfl (s_m_parses_54 C N N (sA (sA (sA (sI (sI (sI (sI (sI (sI σ 4 0) 8 0) 9 (-1)) 17 0) 33 0) 38 0) 26 ((1 : Int32).toNatClampNeg) 0) 29 ((1 : Int32).toNatClampNeg) 0) 22 ((1 : Int32).toNatClampNeg) (-1)) 8)
theorem c_m_parses {Y : Yx} {ad : Nat → Nat} {N : Nat} {σ : St} {r : Unit} {σ' : St} (h : m_parses N σ = some (r, σ')) : Con Y scM ad yX11_parses cX11_parses 3 none 11 244 [.ref (ad 0)] σ (outV r) σ' := con_of (by decide) rfl (Nat.le_of_ble_eq_true rfl) rfl (fun X hX C => s_m_parses C N σ) h
set_option maxRecDepth 20000 in
theorem v_m_parses {X : Cx} {cc : ByteArray} {nL : Nat} {ret : Option FieldType} {fr lo : Nat} {ad : Nat → Nat} {ρ : Type} {out : ρ → Option Value} {pc : Nat} {lv : List (Nat × Value)} {rest : List Value} {σ : St} {N : Nat} {K : Unit → St → Option (ρ × St)} (C : Ok X cc RX11 nL ret fr lo) (hR : 11 + 1 ≤ fr ∧ 8 + (3 + 11) + 244 ≤ lo) (hcat : (rest.map fun v => v.category).sum ≤ 8) (hdg : decode cc pc = .ok (.invokevirtual 239, 3)) (k : ∀ (r : Unit) (σ' : St), m_parses N σ = some (r, σ') → Sim X scM ad nL out (pc + 3) lv rest σ' (K r σ')) : Sim X scM ad nL out pc lv (.ref (ad 0) :: rest) σ (bd (m_parses N σ) K) := g_callV C (out1 := outV) (y := yX11_parses) (n := 0) ⟨gw_1312, gw_1314, gw_61, gw_117, gw_1315⟩ (by decide +kernel) hR (o := 0) (ci := 10) (q9 := (RX11, TX11, 68)) imM0 rfl rfl rfl (fun r σ' h => c_m_parses h) rfl rfl hcat hdg k

def m_enters_7_b (N : Nat) (rec7 : St → Int32 → Option (Unit × St)) (σ : St) (x2 : Int32) : Option (Unit × St) :=
  (if 4 ≤ x2 then some ((), σ) else gd (ib x2 4) (rec7 (sA σ 40 x2.toNatClampNeg 3) (x2 + 1)))
def m_enters_7 (N : Nat) : Nat → St → Int32 → Option (Unit × St)
  | 0 => fun _ _ => none
  | n + 1 => fun σ x2 => m_enters_7_b N (m_enters_7 N n) σ x2
def m_enters (N : Nat) (σ : St) (a1 : Int32) : Option (Unit × St) :=
  m_enters_7 N N (sI σ 39 a1) 0
set_option maxHeartbeats 4000000 in
set_option maxRecDepth 100000 in
theorem s_m_enters_7_b {X : Cx} {ad : Nat → Nat} (C : Ok X cX11_enters RX11 3 none 0 0) (N : Nat) {rec7 : St → Int32 → Option (Unit × St)} (hrec7 : ∀ (σ : St) (x2 : Int32), Sim X scM ad 3 outV 7 [(0, .ref (ad 0)), (2, .int x2)] [] σ (rec7 σ x2)) (σ : St) (x2 : Int32) : Sim X scM ad 3 outV 7 [(0, .ref (ad 0)), (2, .int x2)] [] σ (m_enters_7_b N rec7 σ x2) := by
  unfold m_enters_7_b
  refine g_iload_n C 1 dX11_enters_7 rfl rfl ?_
  refine g_iconst C 4 dX11_enters_8 (by decide) ?_
  refine g_icmp_ge C 25 dX11_enters_9 (by decide) ?_ ?_
  · exact g_vret C dX11_enters_25
  · refine g_aload_n C 0 dX11_enters_12 rfl rfl ?_
    refine mg40 C dX11_enters_13 ?_
    refine g_iload_n C 1 dX11_enters_16 rfl rfl ?_
    refine g_iconst C 3 dX11_enters_17 (by decide) ?_
    refine mw40 C dX11_enters_18 ?_
    refine g_iinc C (x2 + 1) 1 [(2, .int (x2 + 1)), (0, .ref (ad 0))] dX11_enters_19 rfl rfl (by decide) rfl ?_
    refine g_goto C 7 dX11_enters_22 (by decide) ?_
    exact g_sub [1, 0] rfl (hrec7 (sA σ 40 x2.toNatClampNeg 3) (x2 + 1))
set_option maxHeartbeats 4000000 in
set_option maxRecDepth 100000 in
theorem s_m_enters_7 {X : Cx} {ad : Nat → Nat} (C : Ok X cX11_enters RX11 3 none 0 0) (N : Nat) : ∀ (n : Nat) (σ : St) (x2 : Int32), Sim X scM ad 3 outV 7 [(0, .ref (ad 0)), (2, .int x2)] [] σ (m_enters_7 N n σ x2) := by
  intro n
  induction n with
  | zero => intro σ x2; exact g_none
  | succ n ih => intro σ x2; exact s_m_enters_7_b C N ih σ x2
set_option maxHeartbeats 4000000 in
set_option maxRecDepth 100000 in
theorem s_m_enters {X : Cx} {ad : Nat → Nat} (C : Ok X cX11_enters RX11 3 none 0 0) (N : Nat) (σ : St) (a1 : Int32) : Sim X scM ad 3 outV 0 [(0, .ref (ad 0)), (1, .int a1)] [] σ (m_enters N σ a1) := by
  unfold m_enters
  refine g_aload_n C 0 dX11_enters_0 rfl rfl ?_
  refine g_iload_n C 1 dX11_enters_1 rfl rfl ?_
  refine mp39 C dX11_enters_2 ?_
  refine g_iconst C 0 dX11_enters_5 (by decide) ?_
  refine g_istore_n C [(2, .int 0), (0, .ref (ad 0)), (1, .int a1)] dX11_enters_6 rfl (by decide) rfl ?_
  exact g_sub [1, 0] rfl (s_m_enters_7 C N N (sI σ 39 a1) 0)
theorem c_m_enters {Y : Yx} {ad : Nat → Nat} {N : Nat} {σ : St} {a1 : Int32} {r : Unit} {σ' : St} (h : m_enters N σ a1 = some (r, σ')) : Con Y scM ad yX11_enters cX11_enters 3 none 0 0 [.ref (ad 0), .int a1] σ (outV r) σ' := con_of (by decide) rfl (Nat.le_of_ble_eq_true rfl) rfl (fun X hX C => s_m_enters C N σ a1) h
set_option maxRecDepth 20000 in
theorem v_m_enters {X : Cx} {cc : ByteArray} {nL : Nat} {ret : Option FieldType} {fr lo : Nat} {ad : Nat → Nat} {ρ : Type} {out : ρ → Option Value} {pc : Nat} {lv : List (Nat × Value)} {rest : List Value} {σ : St} {N : Nat} {K : Unit → St → Option (ρ × St)} {a1 : Int32} (C : Ok X cc RX11 nL ret fr lo) (hR : 0 + 1 ≤ fr ∧ 8 + (3 + 11) + 0 ≤ lo) (hcat : (rest.map fun v => v.category).sum ≤ 8) (hdg : decode cc pc = .ok (.invokevirtual 254, 3)) (k : ∀ (r : Unit) (σ' : St), m_enters N σ a1 = some (r, σ') → Sim X scM ad nL out (pc + 3) lv rest σ' (K r σ')) : Sim X scM ad nL out pc lv (.int a1 :: .ref (ad 0) :: rest) σ (bd (m_enters N σ a1) K) := g_callV C (out1 := outV) (y := yX11_enters) (n := 1) ⟨gw_1402, gw_1404, gw_82, gw_117, gw_1405⟩ (by decide +kernel) hR (o := 0) (ci := 10) (q9 := (RX11, TX11, 68)) imM0 rfl rfl rfl (fun r σ' h => c_m_enters h) rfl rfl hcat hdg k

def m_comes_304 (N : Nat) (σ : St) : Option (Unit × St) :=
  gd (ib 1 2) (gd (ib 0 2) (gd (ib 0 2) (bd (m_enters N (sA σ 29 ((0 : Int32).toNatClampNeg) (gA σ 29 ((1 : Int32).toNatClampNeg))) (gA σ 22 ((0 : Int32).toNatClampNeg))) (fun _ σ2 => some ((), σ2)))))
def m_comes_262_b (N : Nat) (rec262 : St → Int32 → Option (Unit × St)) (σ : St) (x1 : Int32) : Option (Unit × St) :=
  (if 25 ≤ x1 then m_comes_304 N σ else gd (ib (25 + x1) 50) (gd (ib x1 50) (gd (ib (25 + x1) 50) (gd (ib x1 50) (rec262 (sA (sA σ 27 x1.toNatClampNeg (gA σ 27 ((25 + x1).toNatClampNeg))) 28 x1.toNatClampNeg (gA σ 28 ((25 + x1).toNatClampNeg))) (x1 + 1))))))
def m_comes_262 (N : Nat) : Nat → St → Int32 → Option (Unit × St)
  | 0 => fun _ _ => none
  | n + 1 => fun σ x1 => m_comes_262_b N (m_comes_262 N n) σ x1
def m_comes_248 (N : Nat) (σ : St) : Option (Unit × St) :=
  gd (ib 1 2) (gd (ib 0 2) (m_comes_262 N N (sA σ 26 ((0 : Int32).toNatClampNeg) (gA σ 26 ((1 : Int32).toNatClampNeg))) 0))
def m_comes_191_b (N : Nat) (rec191 : St → Int32 → Option (Unit × St)) (σ : St) (x1 : Int32) : Option (Unit × St) :=
  (if 41 ≤ x1 then m_comes_248 N σ else gd (ib (41 + x1) 82) (gd (ib x1 82) (gd (ib (41 + x1) 82) (gd (ib x1 82) (gd (ib (41 + x1) 82) (gd (ib x1 82) (rec191 (sA (sA (sA σ 23 x1.toNatClampNeg (gA σ 23 ((41 + x1).toNatClampNeg))) 24 x1.toNatClampNeg (gA σ 24 ((41 + x1).toNatClampNeg))) 25 x1.toNatClampNeg (gA σ 25 ((41 + x1).toNatClampNeg))) (x1 + 1))))))))
def m_comes_191 (N : Nat) : Nat → St → Int32 → Option (Unit × St)
  | 0 => fun _ _ => none
  | n + 1 => fun σ x1 => m_comes_191_b N (m_comes_191 N n) σ x1
def m_comes_177 (N : Nat) (σ : St) : Option (Unit × St) :=
  gd (ib 1 2) (gd (ib 0 2) (m_comes_191 N N (sA σ 22 ((0 : Int32).toNatClampNeg) (gA σ 22 ((1 : Int32).toNatClampNeg))) 0))
def m_comes_150_b (N : Nat) (rec150 : St → Int32 → Option (Unit × St)) (σ : St) (x1 : Int32) : Option (Unit × St) :=
  (if 32 ≤ x1 then m_comes_177 N σ else gd (ib (32 + x1) 64) (gd (ib x1 64) (rec150 (sA σ 21 x1.toNatClampNeg (gA σ 21 ((32 + x1).toNatClampNeg))) (x1 + 1))))
def m_comes_150 (N : Nat) : Nat → St → Int32 → Option (Unit × St)
  | 0 => fun _ _ => none
  | n + 1 => fun σ x1 => m_comes_150_b N (m_comes_150 N n) σ x1
def m_comes_106_b (N : Nat) (rec106 : St → Int32 → Option (Unit × St)) (σ : St) (x1 : Int32) : Option (Unit × St) :=
  (if 8 ≤ x1 then m_comes_150 N N σ 0 else gd (ib (8 + x1) 16) (gd (ib x1 16) (gd (ib (8 + x1) 16) (gd (ib x1 16) (rec106 (sA (sA σ 19 x1.toNatClampNeg (gA σ 19 ((8 + x1).toNatClampNeg))) 20 x1.toNatClampNeg (gA σ 20 ((8 + x1).toNatClampNeg))) (x1 + 1))))))
def m_comes_106 (N : Nat) : Nat → St → Int32 → Option (Unit × St)
  | 0 => fun _ _ => none
  | n + 1 => fun σ x1 => m_comes_106_b N (m_comes_106 N n) σ x1
def m_comes_10_b (N : Nat) (rec10 : St → Int32 → Option (Unit × St)) (σ : St) (x1 : Int32) : Option (Unit × St) :=
  (if (gI σ 17) ≤ x1 then m_comes_106 N N σ 0 else gd (ib (1300 + x1) 2600) (gd (ib x1 2600) (gd (ib (1300 + x1) 2600) (gd (ib x1 2600) (gd (ib (1300 + x1) 2600) (gd (ib x1 2600) (gd (ib (1300 + x1) 2600) (gd (ib x1 2600) (gd (ib (1300 + x1) 2600) (gd (ib x1 2600) (rec10 (sA (sA (sA (sA (sA σ 12 x1.toNatClampNeg (gA σ 12 ((1300 + x1).toNatClampNeg))) 13 x1.toNatClampNeg (gA σ 13 ((1300 + x1).toNatClampNeg))) 14 x1.toNatClampNeg (gA σ 14 ((1300 + x1).toNatClampNeg))) 15 x1.toNatClampNeg (gA σ 15 ((1300 + x1).toNatClampNeg))) 16 x1.toNatClampNeg (gA σ 16 ((1300 + x1).toNatClampNeg))) (x1 + 1))))))))))))
def m_comes_10 (N : Nat) : Nat → St → Int32 → Option (Unit × St)
  | 0 => fun _ _ => none
  | n + 1 => fun σ x1 => m_comes_10_b N (m_comes_10 N n) σ x1
def m_comes (N : Nat) (σ : St) : Option (Unit × St) :=
  m_comes_10 N N (sI σ 18 (gI σ 17)) 0
set_option maxHeartbeats 4000000 in
set_option maxRecDepth 100000 in
theorem s_m_comes_304 {X : Cx} {ad : Nat → Nat} (C : Ok X cX11_comes RX11 2 none 1 22) (N : Nat) (σ : St) : Sim X scM ad 2 outV 304 [(0, .ref (ad 0))] [] σ (m_comes_304 N σ) := by
  unfold m_comes_304
  refine g_aload_n C 0 dX11_comes_304 rfl rfl ?_
  refine mg29 C dX11_comes_305 ?_
  refine g_iconst C 0 dX11_comes_308 (by decide) ?_
  refine g_aload_n C 0 dX11_comes_309 rfl rfl ?_
  refine mg29 C dX11_comes_310 ?_
  refine g_iconst C 1 dX11_comes_313 (by decide) ?_
  refine mr29 C (v := gA σ 29 ((1 : Int32).toNatClampNeg)) dX11_comes_314 rfl ?_
  refine mw29 C dX11_comes_315 ?_
  refine g_aload_n C 0 dX11_comes_316 rfl rfl ?_
  refine g_aload_n C 0 dX11_comes_317 rfl rfl ?_
  refine mg22 C dX11_comes_318 ?_
  refine g_iconst C 0 dX11_comes_321 (by decide) ?_
  refine mr22 C (v := gA σ 22 ((0 : Int32).toNatClampNeg)) dX11_comes_322 rfl ?_
  refine v_m_enters C ⟨by decide, by decide⟩ (Nat.le_of_ble_eq_true rfl) dX11_comes_323 (fun r1 σ2 _ => ?_)
  exact g_vret C dX11_comes_326
set_option maxHeartbeats 4000000 in
set_option maxRecDepth 100000 in
theorem s_m_comes_262_b {X : Cx} {ad : Nat → Nat} (C : Ok X cX11_comes RX11 2 none 1 22) (N : Nat) {rec262 : St → Int32 → Option (Unit × St)} (hrec262 : ∀ (σ : St) (x1 : Int32), Sim X scM ad 2 outV 262 [(0, .ref (ad 0)), (1, .int x1)] [] σ (rec262 σ x1)) (σ : St) (x1 : Int32) : Sim X scM ad 2 outV 262 [(0, .ref (ad 0)), (1, .int x1)] [] σ (m_comes_262_b N rec262 σ x1) := by
  unfold m_comes_262_b
  refine g_iload_n C 1 dX11_comes_262 rfl rfl ?_
  refine g_bipush C 25 dX11_comes_263 (by decide) ?_
  refine g_icmp_ge C 304 dX11_comes_265 (by decide) ?_ ?_
  · exact g_sub [0] rfl (s_m_comes_304 C N σ)
  · refine g_aload_n C 0 dX11_comes_268 rfl rfl ?_
    refine mg27 C dX11_comes_269 ?_
    refine g_iload_n C 1 dX11_comes_272 rfl rfl ?_
    refine g_aload_n C 0 dX11_comes_273 rfl rfl ?_
    refine mg27 C dX11_comes_274 ?_
    refine g_bipush C 25 dX11_comes_277 (by decide) ?_
    refine g_iload_n C 1 dX11_comes_279 rfl rfl ?_
    refine g_iadd C dX11_comes_280 ?_
    refine mr27 C (v := gA σ 27 ((25 + x1).toNatClampNeg)) dX11_comes_281 rfl ?_
    refine mw27 C dX11_comes_282 ?_
    refine g_aload_n C 0 dX11_comes_283 rfl rfl ?_
    refine mg28 C dX11_comes_284 ?_
    refine g_iload_n C 1 dX11_comes_287 rfl rfl ?_
    refine g_aload_n C 0 dX11_comes_288 rfl rfl ?_
    refine mg28 C dX11_comes_289 ?_
    refine g_bipush C 25 dX11_comes_292 (by decide) ?_
    refine g_iload_n C 1 dX11_comes_294 rfl rfl ?_
    refine g_iadd C dX11_comes_295 ?_
    refine mr28 C (v := gA σ 28 ((25 + x1).toNatClampNeg)) dX11_comes_296 rfl ?_
    refine mw28 C dX11_comes_297 ?_
    refine g_iinc C (x1 + 1) 1 [(1, .int (x1 + 1)), (0, .ref (ad 0))] dX11_comes_298 rfl rfl (by decide) rfl ?_
    refine g_goto C 262 dX11_comes_301 (by decide) ?_
    exact g_sub [1, 0] rfl (hrec262 (sA (sA σ 27 x1.toNatClampNeg (gA σ 27 ((25 + x1).toNatClampNeg))) 28 x1.toNatClampNeg (gA σ 28 ((25 + x1).toNatClampNeg))) (x1 + 1))
set_option maxHeartbeats 4000000 in
set_option maxRecDepth 100000 in
theorem s_m_comes_262 {X : Cx} {ad : Nat → Nat} (C : Ok X cX11_comes RX11 2 none 1 22) (N : Nat) : ∀ (n : Nat) (σ : St) (x1 : Int32), Sim X scM ad 2 outV 262 [(0, .ref (ad 0)), (1, .int x1)] [] σ (m_comes_262 N n σ x1) := by
  intro n
  induction n with
  | zero => intro σ x1; exact g_none
  | succ n ih => intro σ x1; exact s_m_comes_262_b C N ih σ x1
set_option maxHeartbeats 4000000 in
set_option maxRecDepth 100000 in
theorem s_m_comes_248 {X : Cx} {ad : Nat → Nat} (C : Ok X cX11_comes RX11 2 none 1 22) (N : Nat) (σ : St) : Sim X scM ad 2 outV 248 [(0, .ref (ad 0))] [] σ (m_comes_248 N σ) := by
  unfold m_comes_248
  refine g_aload_n C 0 dX11_comes_248 rfl rfl ?_
  refine mg26 C dX11_comes_249 ?_
  refine g_iconst C 0 dX11_comes_252 (by decide) ?_
  refine g_aload_n C 0 dX11_comes_253 rfl rfl ?_
  refine mg26 C dX11_comes_254 ?_
  refine g_iconst C 1 dX11_comes_257 (by decide) ?_
  refine mr26 C (v := gA σ 26 ((1 : Int32).toNatClampNeg)) dX11_comes_258 rfl ?_
  refine mw26 C dX11_comes_259 ?_
  refine g_iconst C 0 dX11_comes_260 (by decide) ?_
  refine g_istore_n C [(1, .int 0), (0, .ref (ad 0))] dX11_comes_261 rfl (by decide) rfl ?_
  exact g_sub [1, 0] rfl (s_m_comes_262 C N N (sA σ 26 ((0 : Int32).toNatClampNeg) (gA σ 26 ((1 : Int32).toNatClampNeg))) 0)
set_option maxHeartbeats 4000000 in
set_option maxRecDepth 100000 in
theorem s_m_comes_191_b {X : Cx} {ad : Nat → Nat} (C : Ok X cX11_comes RX11 2 none 1 22) (N : Nat) {rec191 : St → Int32 → Option (Unit × St)} (hrec191 : ∀ (σ : St) (x1 : Int32), Sim X scM ad 2 outV 191 [(0, .ref (ad 0)), (1, .int x1)] [] σ (rec191 σ x1)) (σ : St) (x1 : Int32) : Sim X scM ad 2 outV 191 [(0, .ref (ad 0)), (1, .int x1)] [] σ (m_comes_191_b N rec191 σ x1) := by
  unfold m_comes_191_b
  refine g_iload_n C 1 dX11_comes_191 rfl rfl ?_
  refine g_bipush C 41 dX11_comes_192 (by decide) ?_
  refine g_icmp_ge C 248 dX11_comes_194 (by decide) ?_ ?_
  · exact g_sub [0] rfl (s_m_comes_248 C N σ)
  · refine g_aload_n C 0 dX11_comes_197 rfl rfl ?_
    refine mg23 C dX11_comes_198 ?_
    refine g_iload_n C 1 dX11_comes_201 rfl rfl ?_
    refine g_aload_n C 0 dX11_comes_202 rfl rfl ?_
    refine mg23 C dX11_comes_203 ?_
    refine g_bipush C 41 dX11_comes_206 (by decide) ?_
    refine g_iload_n C 1 dX11_comes_208 rfl rfl ?_
    refine g_iadd C dX11_comes_209 ?_
    refine mr23 C (v := gA σ 23 ((41 + x1).toNatClampNeg)) dX11_comes_210 rfl ?_
    refine mw23 C dX11_comes_211 ?_
    refine g_aload_n C 0 dX11_comes_212 rfl rfl ?_
    refine mg24 C dX11_comes_213 ?_
    refine g_iload_n C 1 dX11_comes_216 rfl rfl ?_
    refine g_aload_n C 0 dX11_comes_217 rfl rfl ?_
    refine mg24 C dX11_comes_218 ?_
    refine g_bipush C 41 dX11_comes_221 (by decide) ?_
    refine g_iload_n C 1 dX11_comes_223 rfl rfl ?_
    refine g_iadd C dX11_comes_224 ?_
    refine mr24 C (v := gA σ 24 ((41 + x1).toNatClampNeg)) dX11_comes_225 rfl ?_
    refine mw24 C dX11_comes_226 ?_
    refine g_aload_n C 0 dX11_comes_227 rfl rfl ?_
    refine mg25 C dX11_comes_228 ?_
    refine g_iload_n C 1 dX11_comes_231 rfl rfl ?_
    refine g_aload_n C 0 dX11_comes_232 rfl rfl ?_
    refine mg25 C dX11_comes_233 ?_
    refine g_bipush C 41 dX11_comes_236 (by decide) ?_
    refine g_iload_n C 1 dX11_comes_238 rfl rfl ?_
    refine g_iadd C dX11_comes_239 ?_
    refine mr25 C (v := gA σ 25 ((41 + x1).toNatClampNeg)) dX11_comes_240 rfl ?_
    refine mw25 C dX11_comes_241 ?_
    refine g_iinc C (x1 + 1) 1 [(1, .int (x1 + 1)), (0, .ref (ad 0))] dX11_comes_242 rfl rfl (by decide) rfl ?_
    refine g_goto C 191 dX11_comes_245 (by decide) ?_
    exact g_sub [1, 0] rfl (hrec191 (sA (sA (sA σ 23 x1.toNatClampNeg (gA σ 23 ((41 + x1).toNatClampNeg))) 24 x1.toNatClampNeg (gA σ 24 ((41 + x1).toNatClampNeg))) 25 x1.toNatClampNeg (gA σ 25 ((41 + x1).toNatClampNeg))) (x1 + 1))
set_option maxHeartbeats 4000000 in
set_option maxRecDepth 100000 in
theorem s_m_comes_191 {X : Cx} {ad : Nat → Nat} (C : Ok X cX11_comes RX11 2 none 1 22) (N : Nat) : ∀ (n : Nat) (σ : St) (x1 : Int32), Sim X scM ad 2 outV 191 [(0, .ref (ad 0)), (1, .int x1)] [] σ (m_comes_191 N n σ x1) := by
  intro n
  induction n with
  | zero => intro σ x1; exact g_none
  | succ n ih => intro σ x1; exact s_m_comes_191_b C N ih σ x1
set_option maxHeartbeats 4000000 in
set_option maxRecDepth 100000 in
theorem s_m_comes_177 {X : Cx} {ad : Nat → Nat} (C : Ok X cX11_comes RX11 2 none 1 22) (N : Nat) (σ : St) : Sim X scM ad 2 outV 177 [(0, .ref (ad 0))] [] σ (m_comes_177 N σ) := by
  unfold m_comes_177
  refine g_aload_n C 0 dX11_comes_177 rfl rfl ?_
  refine mg22 C dX11_comes_178 ?_
  refine g_iconst C 0 dX11_comes_181 (by decide) ?_
  refine g_aload_n C 0 dX11_comes_182 rfl rfl ?_
  refine mg22 C dX11_comes_183 ?_
  refine g_iconst C 1 dX11_comes_186 (by decide) ?_
  refine mr22 C (v := gA σ 22 ((1 : Int32).toNatClampNeg)) dX11_comes_187 rfl ?_
  refine mw22 C dX11_comes_188 ?_
  refine g_iconst C 0 dX11_comes_189 (by decide) ?_
  refine g_istore_n C [(1, .int 0), (0, .ref (ad 0))] dX11_comes_190 rfl (by decide) rfl ?_
  exact g_sub [1, 0] rfl (s_m_comes_191 C N N (sA σ 22 ((0 : Int32).toNatClampNeg) (gA σ 22 ((1 : Int32).toNatClampNeg))) 0)
set_option maxHeartbeats 4000000 in
set_option maxRecDepth 100000 in
theorem s_m_comes_150_b {X : Cx} {ad : Nat → Nat} (C : Ok X cX11_comes RX11 2 none 1 22) (N : Nat) {rec150 : St → Int32 → Option (Unit × St)} (hrec150 : ∀ (σ : St) (x1 : Int32), Sim X scM ad 2 outV 150 [(0, .ref (ad 0)), (1, .int x1)] [] σ (rec150 σ x1)) (σ : St) (x1 : Int32) : Sim X scM ad 2 outV 150 [(0, .ref (ad 0)), (1, .int x1)] [] σ (m_comes_150_b N rec150 σ x1) := by
  unfold m_comes_150_b
  refine g_iload_n C 1 dX11_comes_150 rfl rfl ?_
  refine g_bipush C 32 dX11_comes_151 (by decide) ?_
  refine g_icmp_ge C 177 dX11_comes_153 (by decide) ?_ ?_
  · exact g_sub [0] rfl (s_m_comes_177 C N σ)
  · refine g_aload_n C 0 dX11_comes_156 rfl rfl ?_
    refine mg21 C dX11_comes_157 ?_
    refine g_iload_n C 1 dX11_comes_160 rfl rfl ?_
    refine g_aload_n C 0 dX11_comes_161 rfl rfl ?_
    refine mg21 C dX11_comes_162 ?_
    refine g_bipush C 32 dX11_comes_165 (by decide) ?_
    refine g_iload_n C 1 dX11_comes_167 rfl rfl ?_
    refine g_iadd C dX11_comes_168 ?_
    refine mr21 C (v := gA σ 21 ((32 + x1).toNatClampNeg)) dX11_comes_169 rfl ?_
    refine mw21 C dX11_comes_170 ?_
    refine g_iinc C (x1 + 1) 1 [(1, .int (x1 + 1)), (0, .ref (ad 0))] dX11_comes_171 rfl rfl (by decide) rfl ?_
    refine g_goto C 150 dX11_comes_174 (by decide) ?_
    exact g_sub [1, 0] rfl (hrec150 (sA σ 21 x1.toNatClampNeg (gA σ 21 ((32 + x1).toNatClampNeg))) (x1 + 1))
set_option maxHeartbeats 4000000 in
set_option maxRecDepth 100000 in
theorem s_m_comes_150 {X : Cx} {ad : Nat → Nat} (C : Ok X cX11_comes RX11 2 none 1 22) (N : Nat) : ∀ (n : Nat) (σ : St) (x1 : Int32), Sim X scM ad 2 outV 150 [(0, .ref (ad 0)), (1, .int x1)] [] σ (m_comes_150 N n σ x1) := by
  intro n
  induction n with
  | zero => intro σ x1; exact g_none
  | succ n ih => intro σ x1; exact s_m_comes_150_b C N ih σ x1
set_option maxHeartbeats 4000000 in
set_option maxRecDepth 100000 in
theorem s_m_comes_106_b {X : Cx} {ad : Nat → Nat} (C : Ok X cX11_comes RX11 2 none 1 22) (N : Nat) {rec106 : St → Int32 → Option (Unit × St)} (hrec106 : ∀ (σ : St) (x1 : Int32), Sim X scM ad 2 outV 106 [(0, .ref (ad 0)), (1, .int x1)] [] σ (rec106 σ x1)) (σ : St) (x1 : Int32) : Sim X scM ad 2 outV 106 [(0, .ref (ad 0)), (1, .int x1)] [] σ (m_comes_106_b N rec106 σ x1) := by
  unfold m_comes_106_b
  refine g_iload_n C 1 dX11_comes_106 rfl rfl ?_
  refine g_bipush C 8 dX11_comes_107 (by decide) ?_
  refine g_icmp_ge C 148 dX11_comes_109 (by decide) ?_ ?_
  · refine g_iconst C 0 dX11_comes_148 (by decide) ?_
    refine g_istore_n C [(1, .int 0), (0, .ref (ad 0))] dX11_comes_149 rfl (by decide) rfl ?_
    exact g_sub [1, 0] rfl (s_m_comes_150 C N N σ 0)
  · refine g_aload_n C 0 dX11_comes_112 rfl rfl ?_
    refine mg19 C dX11_comes_113 ?_
    refine g_iload_n C 1 dX11_comes_116 rfl rfl ?_
    refine g_aload_n C 0 dX11_comes_117 rfl rfl ?_
    refine mg19 C dX11_comes_118 ?_
    refine g_bipush C 8 dX11_comes_121 (by decide) ?_
    refine g_iload_n C 1 dX11_comes_123 rfl rfl ?_
    refine g_iadd C dX11_comes_124 ?_
    refine mr19 C (v := gA σ 19 ((8 + x1).toNatClampNeg)) dX11_comes_125 rfl ?_
    refine mw19 C dX11_comes_126 ?_
    refine g_aload_n C 0 dX11_comes_127 rfl rfl ?_
    refine mg20 C dX11_comes_128 ?_
    refine g_iload_n C 1 dX11_comes_131 rfl rfl ?_
    refine g_aload_n C 0 dX11_comes_132 rfl rfl ?_
    refine mg20 C dX11_comes_133 ?_
    refine g_bipush C 8 dX11_comes_136 (by decide) ?_
    refine g_iload_n C 1 dX11_comes_138 rfl rfl ?_
    refine g_iadd C dX11_comes_139 ?_
    refine mr20 C (v := gA σ 20 ((8 + x1).toNatClampNeg)) dX11_comes_140 rfl ?_
    refine mw20 C dX11_comes_141 ?_
    refine g_iinc C (x1 + 1) 1 [(1, .int (x1 + 1)), (0, .ref (ad 0))] dX11_comes_142 rfl rfl (by decide) rfl ?_
    refine g_goto C 106 dX11_comes_145 (by decide) ?_
    exact g_sub [1, 0] rfl (hrec106 (sA (sA σ 19 x1.toNatClampNeg (gA σ 19 ((8 + x1).toNatClampNeg))) 20 x1.toNatClampNeg (gA σ 20 ((8 + x1).toNatClampNeg))) (x1 + 1))
set_option maxHeartbeats 4000000 in
set_option maxRecDepth 100000 in
theorem s_m_comes_106 {X : Cx} {ad : Nat → Nat} (C : Ok X cX11_comes RX11 2 none 1 22) (N : Nat) : ∀ (n : Nat) (σ : St) (x1 : Int32), Sim X scM ad 2 outV 106 [(0, .ref (ad 0)), (1, .int x1)] [] σ (m_comes_106 N n σ x1) := by
  intro n
  induction n with
  | zero => intro σ x1; exact g_none
  | succ n ih => intro σ x1; exact s_m_comes_106_b C N ih σ x1
set_option maxHeartbeats 4000000 in
set_option maxRecDepth 100000 in
theorem s_m_comes_10_b {X : Cx} {ad : Nat → Nat} (C : Ok X cX11_comes RX11 2 none 1 22) (N : Nat) {rec10 : St → Int32 → Option (Unit × St)} (hrec10 : ∀ (σ : St) (x1 : Int32), Sim X scM ad 2 outV 10 [(0, .ref (ad 0)), (1, .int x1)] [] σ (rec10 σ x1)) (σ : St) (x1 : Int32) : Sim X scM ad 2 outV 10 [(0, .ref (ad 0)), (1, .int x1)] [] σ (m_comes_10_b N rec10 σ x1) := by
  unfold m_comes_10_b
  refine g_iload_n C 1 dX11_comes_10 rfl rfl ?_
  refine g_aload_n C 0 dX11_comes_11 rfl rfl ?_
  refine mg17 C (v := gI σ 17) dX11_comes_12 rfl ?_
  refine g_icmp_ge C 104 dX11_comes_15 (by decide) ?_ ?_
  · refine g_iconst C 0 dX11_comes_104 (by decide) ?_
    refine g_istore_n C [(1, .int 0), (0, .ref (ad 0))] dX11_comes_105 rfl (by decide) rfl ?_
    exact g_sub [1, 0] rfl (s_m_comes_106 C N N σ 0)
  · refine g_aload_n C 0 dX11_comes_18 rfl rfl ?_
    refine mg12 C dX11_comes_19 ?_
    refine g_iload_n C 1 dX11_comes_22 rfl rfl ?_
    refine g_aload_n C 0 dX11_comes_23 rfl rfl ?_
    refine mg12 C dX11_comes_24 ?_
    refine g_sipush C 1300 dX11_comes_27 (by decide) ?_
    refine g_iload_n C 1 dX11_comes_30 rfl rfl ?_
    refine g_iadd C dX11_comes_31 ?_
    refine mr12 C (v := gA σ 12 ((1300 + x1).toNatClampNeg)) dX11_comes_32 rfl ?_
    refine mw12 C dX11_comes_33 ?_
    refine g_aload_n C 0 dX11_comes_34 rfl rfl ?_
    refine mg13 C dX11_comes_35 ?_
    refine g_iload_n C 1 dX11_comes_38 rfl rfl ?_
    refine g_aload_n C 0 dX11_comes_39 rfl rfl ?_
    refine mg13 C dX11_comes_40 ?_
    refine g_sipush C 1300 dX11_comes_43 (by decide) ?_
    refine g_iload_n C 1 dX11_comes_46 rfl rfl ?_
    refine g_iadd C dX11_comes_47 ?_
    refine mr13 C (v := gA σ 13 ((1300 + x1).toNatClampNeg)) dX11_comes_48 rfl ?_
    refine mw13 C dX11_comes_49 ?_
    refine g_aload_n C 0 dX11_comes_50 rfl rfl ?_
    refine mg14 C dX11_comes_51 ?_
    refine g_iload_n C 1 dX11_comes_54 rfl rfl ?_
    refine g_aload_n C 0 dX11_comes_55 rfl rfl ?_
    refine mg14 C dX11_comes_56 ?_
    refine g_sipush C 1300 dX11_comes_59 (by decide) ?_
    refine g_iload_n C 1 dX11_comes_62 rfl rfl ?_
    refine g_iadd C dX11_comes_63 ?_
    refine mr14 C (v := gA σ 14 ((1300 + x1).toNatClampNeg)) dX11_comes_64 rfl ?_
    refine mw14 C dX11_comes_65 ?_
    refine g_aload_n C 0 dX11_comes_66 rfl rfl ?_
    refine mg15 C dX11_comes_67 ?_
    refine g_iload_n C 1 dX11_comes_70 rfl rfl ?_
    refine g_aload_n C 0 dX11_comes_71 rfl rfl ?_
    refine mg15 C dX11_comes_72 ?_
    refine g_sipush C 1300 dX11_comes_75 (by decide) ?_
    refine g_iload_n C 1 dX11_comes_78 rfl rfl ?_
    refine g_iadd C dX11_comes_79 ?_
    refine mr15 C (v := gA σ 15 ((1300 + x1).toNatClampNeg)) dX11_comes_80 rfl ?_
    refine mw15 C dX11_comes_81 ?_
    refine g_aload_n C 0 dX11_comes_82 rfl rfl ?_
    refine mg16 C dX11_comes_83 ?_
    refine g_iload_n C 1 dX11_comes_86 rfl rfl ?_
    refine g_aload_n C 0 dX11_comes_87 rfl rfl ?_
    refine mg16 C dX11_comes_88 ?_
    refine g_sipush C 1300 dX11_comes_91 (by decide) ?_
    refine g_iload_n C 1 dX11_comes_94 rfl rfl ?_
    refine g_iadd C dX11_comes_95 ?_
    refine mr16 C (v := gA σ 16 ((1300 + x1).toNatClampNeg)) dX11_comes_96 rfl ?_
    refine mw16 C dX11_comes_97 ?_
    refine g_iinc C (x1 + 1) 1 [(1, .int (x1 + 1)), (0, .ref (ad 0))] dX11_comes_98 rfl rfl (by decide) rfl ?_
    refine g_goto C 10 dX11_comes_101 (by decide) ?_
    exact g_sub [1, 0] rfl (hrec10 (sA (sA (sA (sA (sA σ 12 x1.toNatClampNeg (gA σ 12 ((1300 + x1).toNatClampNeg))) 13 x1.toNatClampNeg (gA σ 13 ((1300 + x1).toNatClampNeg))) 14 x1.toNatClampNeg (gA σ 14 ((1300 + x1).toNatClampNeg))) 15 x1.toNatClampNeg (gA σ 15 ((1300 + x1).toNatClampNeg))) 16 x1.toNatClampNeg (gA σ 16 ((1300 + x1).toNatClampNeg))) (x1 + 1))
set_option maxHeartbeats 4000000 in
set_option maxRecDepth 100000 in
theorem s_m_comes_10 {X : Cx} {ad : Nat → Nat} (C : Ok X cX11_comes RX11 2 none 1 22) (N : Nat) : ∀ (n : Nat) (σ : St) (x1 : Int32), Sim X scM ad 2 outV 10 [(0, .ref (ad 0)), (1, .int x1)] [] σ (m_comes_10 N n σ x1) := by
  intro n
  induction n with
  | zero => intro σ x1; exact g_none
  | succ n ih => intro σ x1; exact s_m_comes_10_b C N ih σ x1
set_option maxHeartbeats 4000000 in
set_option maxRecDepth 100000 in
theorem s_m_comes {X : Cx} {ad : Nat → Nat} (C : Ok X cX11_comes RX11 2 none 1 22) (N : Nat) (σ : St) : Sim X scM ad 2 outV 0 [(0, .ref (ad 0))] [] σ (m_comes N σ) := by
  unfold m_comes
  refine g_aload_n C 0 dX11_comes_0 rfl rfl ?_
  refine g_aload_n C 0 dX11_comes_1 rfl rfl ?_
  refine mg17 C (v := gI σ 17) dX11_comes_2 rfl ?_
  refine mp18 C dX11_comes_5 ?_
  refine g_iconst C 0 dX11_comes_8 (by decide) ?_
  refine g_istore_n C [(1, .int 0), (0, .ref (ad 0))] dX11_comes_9 rfl (by decide) rfl ?_
  exact g_sub [1, 0] rfl (s_m_comes_10 C N N (sI σ 18 (gI σ 17)) 0)
theorem c_m_comes {Y : Yx} {ad : Nat → Nat} {N : Nat} {σ : St} {r : Unit} {σ' : St} (h : m_comes N σ = some (r, σ')) : Con Y scM ad yX11_comes cX11_comes 2 none 1 22 [.ref (ad 0)] σ (outV r) σ' := con_of (by decide) rfl (Nat.le_of_ble_eq_true rfl) rfl (fun X hX C => s_m_comes C N σ) h
set_option maxRecDepth 20000 in
theorem v_m_comes {X : Cx} {cc : ByteArray} {nL : Nat} {ret : Option FieldType} {fr lo : Nat} {ad : Nat → Nat} {ρ : Type} {out : ρ → Option Value} {pc : Nat} {lv : List (Nat × Value)} {rest : List Value} {σ : St} {N : Nat} {K : Unit → St → Option (ρ × St)} (C : Ok X cc RX11 nL ret fr lo) (hR : 1 + 1 ≤ fr ∧ 8 + (2 + 11) + 22 ≤ lo) (hcat : (rest.map fun v => v.category).sum ≤ 8) (hdg : decode cc pc = .ok (.invokevirtual 245, 3)) (k : ∀ (r : Unit) (σ' : St), m_comes N σ = some (r, σ') → Sim X scM ad nL out (pc + 3) lv rest σ' (K r σ')) : Sim X scM ad nL out pc lv (.ref (ad 0) :: rest) σ (bd (m_comes N σ) K) := g_callV C (out1 := outV) (y := yX11_comes) (n := 0) ⟨gw_1398, gw_1400, gw_81, gw_117, gw_1401⟩ (by decide +kernel) hR (o := 0) (ci := 10) (q9 := (RX11, TX11, 68)) imM0 rfl rfl rfl (fun r σ' h => c_m_comes h) rfl rfl hcat hdg k

def m_routinesMany_26 (N : Nat) (rec4 : St → Int32 → Int32 → Option (Int32 × St)) (σ : St) (x2 : Int32) (t0 : Int32) (t1 : Int32) : Option (Int32 × St) :=
  rec4 σ (t0 + t1) (x2 + 1)
def m_routinesMany_4_b (N : Nat) (rec4 : St → Int32 → Int32 → Option (Int32 × St)) (σ : St) (x1 : Int32) (x2 : Int32) : Option (Int32 × St) :=
  (if 8 ≤ x2 then some (x1, σ) else gd (ib x2 16) ((if (gA σ 19 x2.toNatClampNeg) = (-1) then m_routinesMany_26 N rec4 σ x2 x1 0 else m_routinesMany_26 N rec4 σ x2 x1 1)))
def m_routinesMany_4 (N : Nat) : Nat → St → Int32 → Int32 → Option (Int32 × St)
  | 0 => fun _ _ _ => none
  | n + 1 => fun σ x1 x2 => m_routinesMany_4_b N (m_routinesMany_4 N n) σ x1 x2
def m_routinesMany (N : Nat) (σ : St) : Option (Int32 × St) :=
  m_routinesMany_4 N N σ 0 0
set_option maxHeartbeats 4000000 in
set_option maxRecDepth 100000 in
theorem s_m_routinesMany_26 {X : Cx} {ad : Nat → Nat} (C : Ok X cX11_routinesMany RX11 3 (some .int) 0 0) (N : Nat) {rec4 : St → Int32 → Int32 → Option (Int32 × St)} (hrec4 : ∀ (σ : St) (x1 : Int32) (x2 : Int32), Sim X scM ad 3 outI 4 [(0, .ref (ad 0)), (1, .int x1), (2, .int x2)] [] σ (rec4 σ x1 x2)) (σ : St) (x2 : Int32) (t0 : Int32) (t1 : Int32) : Sim X scM ad 3 outI 26 [(0, .ref (ad 0)), (2, .int x2)] [.int t1, .int t0] σ (m_routinesMany_26 N rec4 σ x2 t0 t1) := by
  unfold m_routinesMany_26
  refine g_iadd C dX11_routinesMany_26 ?_
  refine g_istore_n C [(1, .int (t0 + t1)), (0, .ref (ad 0)), (2, .int x2)] dX11_routinesMany_27 rfl (by decide) rfl ?_
  refine g_iinc C (x2 + 1) 2 [(2, .int (x2 + 1)), (1, .int (t0 + t1)), (0, .ref (ad 0))] dX11_routinesMany_28 rfl rfl (by decide) rfl ?_
  refine g_goto C 4 dX11_routinesMany_31 (by decide) ?_
  exact g_sub [2, 1, 0] rfl (hrec4 σ (t0 + t1) (x2 + 1))
set_option maxHeartbeats 4000000 in
set_option maxRecDepth 100000 in
theorem s_m_routinesMany_4_b {X : Cx} {ad : Nat → Nat} (C : Ok X cX11_routinesMany RX11 3 (some .int) 0 0) (N : Nat) {rec4 : St → Int32 → Int32 → Option (Int32 × St)} (hrec4 : ∀ (σ : St) (x1 : Int32) (x2 : Int32), Sim X scM ad 3 outI 4 [(0, .ref (ad 0)), (1, .int x1), (2, .int x2)] [] σ (rec4 σ x1 x2)) (σ : St) (x1 : Int32) (x2 : Int32) : Sim X scM ad 3 outI 4 [(0, .ref (ad 0)), (1, .int x1), (2, .int x2)] [] σ (m_routinesMany_4_b N rec4 σ x1 x2) := by
  unfold m_routinesMany_4_b
  refine g_iload_n C 2 dX11_routinesMany_4 rfl rfl ?_
  refine g_bipush C 8 dX11_routinesMany_5 (by decide) ?_
  refine g_icmp_ge C 34 dX11_routinesMany_7 (by decide) ?_ ?_
  · refine g_iload_n C 1 dX11_routinesMany_34 rfl rfl ?_
    exact g_iret C dX11_routinesMany_35
  · refine g_iload_n C 1 dX11_routinesMany_10 rfl rfl ?_
    refine g_aload_n C 0 dX11_routinesMany_11 rfl rfl ?_
    refine mg19 C dX11_routinesMany_12 ?_
    refine g_iload_n C 2 dX11_routinesMany_15 rfl rfl ?_
    refine mr19 C (v := gA σ 19 x2.toNatClampNeg) dX11_routinesMany_16 rfl ?_
    refine g_iconst C (-1) dX11_routinesMany_17 (by decide) ?_
    refine g_icmp_ne C 25 dX11_routinesMany_18 (by decide) ?_ ?_
    · refine g_iconst C 1 dX11_routinesMany_25 (by decide) ?_
      exact g_sub [0, 2] rfl (s_m_routinesMany_26 C N hrec4 σ x2 x1 1)
    · refine g_iconst C 0 dX11_routinesMany_21 (by decide) ?_
      refine g_goto C 26 dX11_routinesMany_22 (by decide) ?_
      exact g_sub [0, 2] rfl (s_m_routinesMany_26 C N hrec4 σ x2 x1 0)
set_option maxHeartbeats 4000000 in
set_option maxRecDepth 100000 in
theorem s_m_routinesMany_4 {X : Cx} {ad : Nat → Nat} (C : Ok X cX11_routinesMany RX11 3 (some .int) 0 0) (N : Nat) : ∀ (n : Nat) (σ : St) (x1 : Int32) (x2 : Int32), Sim X scM ad 3 outI 4 [(0, .ref (ad 0)), (1, .int x1), (2, .int x2)] [] σ (m_routinesMany_4 N n σ x1 x2) := by
  intro n
  induction n with
  | zero => intro σ x1 x2; exact g_none
  | succ n ih => intro σ x1 x2; exact s_m_routinesMany_4_b C N ih σ x1 x2
set_option maxHeartbeats 4000000 in
set_option maxRecDepth 100000 in
theorem s_m_routinesMany {X : Cx} {ad : Nat → Nat} (C : Ok X cX11_routinesMany RX11 3 (some .int) 0 0) (N : Nat) (σ : St) : Sim X scM ad 3 outI 0 [(0, .ref (ad 0))] [] σ (m_routinesMany N σ) := by
  unfold m_routinesMany
  refine g_iconst C 0 dX11_routinesMany_0 (by decide) ?_
  refine g_istore_n C [(1, .int 0), (0, .ref (ad 0))] dX11_routinesMany_1 rfl (by decide) rfl ?_
  refine g_iconst C 0 dX11_routinesMany_2 (by decide) ?_
  refine g_istore_n C [(2, .int 0), (1, .int 0), (0, .ref (ad 0))] dX11_routinesMany_3 rfl (by decide) rfl ?_
  exact g_sub [2, 1, 0] rfl (s_m_routinesMany_4 C N N σ 0 0)
theorem c_m_routinesMany {Y : Yx} {ad : Nat → Nat} {N : Nat} {σ : St} {r : Int32} {σ' : St} (h : m_routinesMany N σ = some (r, σ')) : Con Y scM ad yX11_routinesMany cX11_routinesMany 3 (some .int) 0 0 [.ref (ad 0)] σ (outI r) σ' := con_of (by decide) rfl (Nat.le_of_ble_eq_true rfl) rfl (fun X hX C => s_m_routinesMany C N σ) h
set_option maxRecDepth 20000 in
theorem v_m_routinesMany {X : Cx} {cc : ByteArray} {nL : Nat} {ret : Option FieldType} {fr lo : Nat} {ad : Nat → Nat} {ρ : Type} {out : ρ → Option Value} {pc : Nat} {lv : List (Nat × Value)} {rest : List Value} {σ : St} {N : Nat} {K : Int32 → St → Option (ρ × St)} (C : Ok X cc RX11 nL ret fr lo) (hR : 0 + 1 ≤ fr ∧ 8 + (3 + 11) + 0 ≤ lo) (hcat : (rest.map fun v => v.category).sum ≤ 8) (hdg : decode cc pc = .ok (.invokevirtual 248, 3)) (k : ∀ (r : Int32) (σ' : St), m_routinesMany N σ = some (r, σ') → Sim X scM ad nL out (pc + 3) lv (.int r :: rest) σ' (K r σ')) : Sim X scM ad nL out pc lv (.ref (ad 0) :: rest) σ (bd (m_routinesMany N σ) K) := g_callV C (out1 := outI) (y := yX11_routinesMany) (n := 0) ⟨gw_1406, gw_1408, gw_83, gw_117, gw_1409⟩ (by decide +kernel) hR (o := 0) (ci := 10) (q9 := (RX11, TX11, 68)) imM0 rfl rfl rfl (fun r σ' h => c_m_routinesMany h) rfl rfl hcat hdg k

def m_text (N : Nat) (σ : St) (a1 : Int32) : Option (Int32 × St) :=
  (if a1 < 0 then some ((-2), (sI σ 0 0)) else (if a1 ≤ (gI σ 2) then bd (m_parses N (sI (sI (sI σ 0 0) 3 a1) 2 0)) (fun _ σ2 => (if (gI σ2 8) = 0 then bd (m_comes N (sI (sI σ2 10 (gI σ2 8)) 11 (gI σ2 9))) (fun _ σ4 => bd (m_routinesMany N σ4) (fun r5 σ6 => some (r5, σ6))) else some ((-1), (sI (sI σ2 10 (gI σ2 8)) 11 (gI σ2 9))))) else some ((-2), (sI σ 0 0))))
set_option maxHeartbeats 4000000 in
set_option maxRecDepth 100000 in
theorem s_m_text {X : Cx} {ad : Nat → Nat} (C : Ok X cX11_text RX11 2 (some .int) 12 266) (N : Nat) (σ : St) (a1 : Int32) : Sim X scM ad 2 outI 0 [(0, .ref (ad 0)), (1, .int a1)] [] σ (m_text N σ a1) := by
  unfold m_text
  refine g_aload_n C 0 dX11_text_0 rfl rfl ?_
  refine g_iconst C 0 dX11_text_1 (by decide) ?_
  refine mp0 C dX11_text_2 ?_
  refine g_iload_n C 1 dX11_text_5 rfl rfl ?_
  refine g_if_lt C 17 dX11_text_6 (by decide) ?_ ?_
  · refine g_bipush C (-2) dX11_text_17 (by decide) ?_
    exact g_iret C dX11_text_19
  · refine g_iload_n C 1 dX11_text_9 rfl rfl ?_
    refine g_aload_n C 0 dX11_text_10 rfl rfl ?_
    refine mg2 C (v := gI σ 2) dX11_text_11 rfl ?_
    refine g_icmp_le C 20 dX11_text_14 (by decide) ?_ ?_
    · refine g_aload_n C 0 dX11_text_20 rfl rfl ?_
      refine g_iload_n C 1 dX11_text_21 rfl rfl ?_
      refine mp3 C dX11_text_22 ?_
      refine g_aload_n C 0 dX11_text_25 rfl rfl ?_
      refine g_iconst C 0 dX11_text_26 (by decide) ?_
      refine mp2 C dX11_text_27 ?_
      refine g_aload_n C 0 dX11_text_30 rfl rfl ?_
      refine v_m_parses C ⟨by decide, by decide⟩ (Nat.le_of_ble_eq_true rfl) dX11_text_31 (fun r1 σ2 _ => ?_)
      refine g_aload_n C 0 dX11_text_34 rfl rfl ?_
      refine g_aload_n C 0 dX11_text_35 rfl rfl ?_
      refine mg8 C (v := gI σ2 8) dX11_text_36 rfl ?_
      refine mp10 C dX11_text_39 ?_
      refine g_aload_n C 0 dX11_text_42 rfl rfl ?_
      refine g_aload_n C 0 dX11_text_43 rfl rfl ?_
      refine mg9 C (v := gI σ2 9) dX11_text_44 rfl ?_
      refine mp11 C dX11_text_47 ?_
      refine g_aload_n C 0 dX11_text_50 rfl rfl ?_
      refine mg8 C (v := gI σ2 8) dX11_text_51 rfl ?_
      refine g_if_eq C 59 dX11_text_54 (by decide) ?_ ?_
      · refine g_aload_n C 0 dX11_text_59 rfl rfl ?_
        refine v_m_comes C ⟨by decide, by decide⟩ (Nat.le_of_ble_eq_true rfl) dX11_text_60 (fun r3 σ4 _ => ?_)
        refine g_aload_n C 0 dX11_text_63 rfl rfl ?_
        refine v_m_routinesMany C ⟨by decide, by decide⟩ (Nat.le_of_ble_eq_true rfl) dX11_text_64 (fun r5 σ6 _ => ?_)
        exact g_iret C dX11_text_67
      · refine g_iconst C (-1) dX11_text_57 (by decide) ?_
        exact g_iret C dX11_text_58
    · refine g_bipush C (-2) dX11_text_17 (by decide) ?_
      exact g_iret C dX11_text_19
theorem c_m_text {Y : Yx} {ad : Nat → Nat} {N : Nat} {σ : St} {a1 : Int32} {r : Int32} {σ' : St} (h : m_text N σ a1 = some (r, σ')) : Con Y scM ad yX11_text cX11_text 2 (some .int) 12 266 [.ref (ad 0), .int a1] σ (outI r) σ' := con_of (by decide) rfl (Nat.le_of_ble_eq_true rfl) rfl (fun X hX C => s_m_text C N σ a1) h

def m_fault (N : Nat) (σ : St) (a1 : Int32) : Option (Int32 × St) :=
  (if a1 = 0 then some (gI σ 10, (sI σ 0 0)) else (if a1 = 1 then some (gI σ 11, (sI σ 0 0)) else some ((-1), (sI σ 0 0))))
set_option maxHeartbeats 4000000 in
set_option maxRecDepth 100000 in
theorem s_m_fault {X : Cx} {ad : Nat → Nat} (C : Ok X cX11_fault RX11 2 (some .int) 0 0) (N : Nat) (σ : St) (a1 : Int32) : Sim X scM ad 2 outI 0 [(0, .ref (ad 0)), (1, .int a1)] [] σ (m_fault N σ a1) := by
  unfold m_fault
  refine g_aload_n C 0 dX11_fault_0 rfl rfl ?_
  refine g_iconst C 0 dX11_fault_1 (by decide) ?_
  refine mp0 C dX11_fault_2 ?_
  refine g_iload_n C 1 dX11_fault_5 rfl rfl ?_
  refine g_if_ne C 16 dX11_fault_6 (by decide) ?_ ?_
  · refine g_iload_n C 1 dX11_fault_16 rfl rfl ?_
    refine g_iconst C 1 dX11_fault_17 (by decide) ?_
    refine g_icmp_ne C 28 dX11_fault_18 (by decide) ?_ ?_
    · refine g_iconst C (-1) dX11_fault_28 (by decide) ?_
      exact g_iret C dX11_fault_29
    · refine g_aload_n C 0 dX11_fault_21 rfl rfl ?_
      refine mg11 C (v := gI σ 11) dX11_fault_22 rfl ?_
      refine g_goto C 29 dX11_fault_25 (by decide) ?_
      exact g_iret C dX11_fault_29
  · refine g_aload_n C 0 dX11_fault_9 rfl rfl ?_
    refine mg10 C (v := gI σ 10) dX11_fault_10 rfl ?_
    refine g_goto C 29 dX11_fault_13 (by decide) ?_
    exact g_iret C dX11_fault_29
theorem c_m_fault {Y : Yx} {ad : Nat → Nat} {N : Nat} {σ : St} {a1 : Int32} {r : Int32} {σ' : St} (h : m_fault N σ a1 = some (r, σ')) : Con Y scM ad yX11_fault cX11_fault 2 (some .int) 0 0 [.ref (ad 0), .int a1] σ (outI r) σ' := con_of (by decide) rfl (Nat.le_of_ble_eq_true rfl) rfl (fun X hX C => s_m_fault C N σ a1) h

def m_entry (N : Nat) (σ : St) (a1 : Int32) : Option (Int32 × St) :=
  (if a1 < 0 then some (0, (sI σ 0 0)) else (if 7 < a1 then some (0, (sI σ 0 0)) else gd (ib a1 16) ((if (gA σ 19 a1.toNatClampNeg) = (-1) then some (0, (sI σ 0 0)) else bd (m_enters N (sI σ 0 0) a1) (fun _ σ2 => some (1, σ2))))))
set_option maxHeartbeats 4000000 in
set_option maxRecDepth 100000 in
theorem s_m_entry {X : Cx} {ad : Nat → Nat} (C : Ok X cX11_entry RX11 2 (some .boolean) 1 22) (N : Nat) (σ : St) (a1 : Int32) : Sim X scM ad 2 outI 0 [(0, .ref (ad 0)), (1, .int a1)] [] σ (m_entry N σ a1) := by
  unfold m_entry
  refine g_aload_n C 0 dX11_entry_0 rfl rfl ?_
  refine g_iconst C 0 dX11_entry_1 (by decide) ?_
  refine mp0 C dX11_entry_2 ?_
  refine g_iload_n C 1 dX11_entry_5 rfl rfl ?_
  refine g_if_lt C 25 dX11_entry_6 (by decide) ?_ ?_
  · refine g_iconst C 0 dX11_entry_25 (by decide) ?_
    exact g_zret C rfl dX11_entry_26
  · refine g_iload_n C 1 dX11_entry_9 rfl rfl ?_
    refine g_bipush C 7 dX11_entry_10 (by decide) ?_
    refine g_icmp_gt C 25 dX11_entry_12 (by decide) ?_ ?_
    · refine g_iconst C 0 dX11_entry_25 (by decide) ?_
      exact g_zret C rfl dX11_entry_26
    · refine g_aload_n C 0 dX11_entry_15 rfl rfl ?_
      refine mg19 C dX11_entry_16 ?_
      refine g_iload_n C 1 dX11_entry_19 rfl rfl ?_
      refine mr19 C (v := gA σ 19 a1.toNatClampNeg) dX11_entry_20 rfl ?_
      refine g_iconst C (-1) dX11_entry_21 (by decide) ?_
      refine g_icmp_ne C 27 dX11_entry_22 (by decide) ?_ ?_
      · refine g_aload_n C 0 dX11_entry_27 rfl rfl ?_
        refine g_iload_n C 1 dX11_entry_28 rfl rfl ?_
        refine v_m_enters C ⟨by decide, by decide⟩ (Nat.le_of_ble_eq_true rfl) dX11_entry_29 (fun r1 σ2 _ => ?_)
        refine g_iconst C 1 dX11_entry_32 (by decide) ?_
        exact g_zret C rfl dX11_entry_33
      · refine g_iconst C 0 dX11_entry_25 (by decide) ?_
        exact g_zret C rfl dX11_entry_26
theorem c_m_entry {Y : Yx} {ad : Nat → Nat} {N : Nat} {σ : St} {a1 : Int32} {r : Int32} {σ' : St} (h : m_entry N σ a1 = some (r, σ')) : Con Y scM ad yX11_entry cX11_entry 2 (some .boolean) 1 22 [.ref (ad 0), .int a1] σ (outI r) σ' := con_of (by decide) rfl (Nat.le_of_ble_eq_true rfl) rfl (fun X hX C => s_m_entry C N σ a1) h

def m_outer (N : Nat) (σ : St) (a1 : Int32) (a2 : Int32) : Option (Int32 × St) :=
  (if (gI σ 39) = (-1) then some (0, (sI σ 0 0)) else (if a1 < 0 then some (0, (sI σ 0 0)) else gd (ib (gI σ 39) 16) ((if (gA σ 20 ((gI σ 39).toNatClampNeg)) ≤ a1 then some (0, (sI σ 0 0)) else (if a2 < 1 then some (0, (sI σ 0 0)) else (if a2 ≤ 3 then gd (ib a1 4) (some (1, (sA (sI σ 0 0) 40 a1.toNatClampNeg a2))) else some (0, (sI σ 0 0))))))))
set_option maxHeartbeats 4000000 in
set_option maxRecDepth 100000 in
theorem s_m_outer {X : Cx} {ad : Nat → Nat} (C : Ok X cX11_outer RX11 3 (some .boolean) 0 0) (N : Nat) (σ : St) (a1 : Int32) (a2 : Int32) : Sim X scM ad 3 outI 0 [(0, .ref (ad 0)), (1, .int a1), (2, .int a2)] [] σ (m_outer N σ a1 a2) := by
  unfold m_outer
  refine g_aload_n C 0 dX11_outer_0 rfl rfl ?_
  refine g_iconst C 0 dX11_outer_1 (by decide) ?_
  refine mp0 C dX11_outer_2 ?_
  refine g_aload_n C 0 dX11_outer_5 rfl rfl ?_
  refine mg39 C (v := gI σ 39) dX11_outer_6 rfl ?_
  refine g_iconst C (-1) dX11_outer_9 (by decide) ?_
  refine g_icmp_eq C 40 dX11_outer_10 (by decide) ?_ ?_
  · refine g_iconst C 0 dX11_outer_40 (by decide) ?_
    exact g_zret C rfl dX11_outer_41
  · refine g_iload_n C 1 dX11_outer_13 rfl rfl ?_
    refine g_if_lt C 40 dX11_outer_14 (by decide) ?_ ?_
    · refine g_iconst C 0 dX11_outer_40 (by decide) ?_
      exact g_zret C rfl dX11_outer_41
    · refine g_iload_n C 1 dX11_outer_17 rfl rfl ?_
      refine g_aload_n C 0 dX11_outer_18 rfl rfl ?_
      refine mg20 C dX11_outer_19 ?_
      refine g_aload_n C 0 dX11_outer_22 rfl rfl ?_
      refine mg39 C (v := gI σ 39) dX11_outer_23 rfl ?_
      refine mr20 C (v := gA σ 20 ((gI σ 39).toNatClampNeg)) dX11_outer_26 rfl ?_
      refine g_icmp_ge C 40 dX11_outer_27 (by decide) ?_ ?_
      · refine g_iconst C 0 dX11_outer_40 (by decide) ?_
        exact g_zret C rfl dX11_outer_41
      · refine g_iload_n C 2 dX11_outer_30 rfl rfl ?_
        refine g_iconst C 1 dX11_outer_31 (by decide) ?_
        refine g_icmp_lt C 40 dX11_outer_32 (by decide) ?_ ?_
        · refine g_iconst C 0 dX11_outer_40 (by decide) ?_
          exact g_zret C rfl dX11_outer_41
        · refine g_iload_n C 2 dX11_outer_35 rfl rfl ?_
          refine g_iconst C 3 dX11_outer_36 (by decide) ?_
          refine g_icmp_le C 42 dX11_outer_37 (by decide) ?_ ?_
          · refine g_aload_n C 0 dX11_outer_42 rfl rfl ?_
            refine mg40 C dX11_outer_43 ?_
            refine g_iload_n C 1 dX11_outer_46 rfl rfl ?_
            refine g_iload_n C 2 dX11_outer_47 rfl rfl ?_
            refine mw40 C dX11_outer_48 ?_
            refine g_iconst C 1 dX11_outer_49 (by decide) ?_
            exact g_zret C rfl dX11_outer_50
          · refine g_iconst C 0 dX11_outer_40 (by decide) ?_
            exact g_zret C rfl dX11_outer_41
theorem c_m_outer {Y : Yx} {ad : Nat → Nat} {N : Nat} {σ : St} {a1 : Int32} {a2 : Int32} {r : Int32} {σ' : St} (h : m_outer N σ a1 a2 = some (r, σ')) : Con Y scM ad yX11_outer cX11_outer 3 (some .boolean) 0 0 [.ref (ad 0), .int a1, .int a2] σ (outI r) σ' := con_of (by decide) rfl (Nat.le_of_ble_eq_true rfl) rfl (fun X hX C => s_m_outer C N σ a1 a2) h

def m_factOf (N : Nat) (σ : St) (a1 : Int64) (a2 : Int32) : Option (Int32 × St) :=
  some (((a1 >>> ((2 * a2).toInt64 &&& 63)).toInt32) &&& 3, σ)
set_option maxHeartbeats 4000000 in
set_option maxRecDepth 100000 in
theorem s_m_factOf {X : Cx} {ad : Nat → Nat} (C : Ok X cX11_factOf RX11 3 (some .int) 0 0) (N : Nat) (σ : St) (a1 : Int64) (a2 : Int32) : Sim X scM ad 3 outI 0 [(0, .long a1), (2, .int a2)] [] σ (m_factOf N σ a1 a2) := by
  unfold m_factOf
  refine g_lload_n C 0 dX11_factOf_0 rfl rfl ?_
  refine g_iconst C 2 dX11_factOf_1 (by decide) ?_
  refine g_iload_n C 1 dX11_factOf_2 rfl rfl ?_
  refine g_imul C dX11_factOf_3 ?_
  refine g_lshr C dX11_factOf_4 ?_
  refine g_l2i C dX11_factOf_5 ?_
  refine g_iconst C 3 dX11_factOf_6 (by decide) ?_
  refine g_iand C dX11_factOf_7 ?_
  exact g_iret C dX11_factOf_8
theorem c_m_factOf {Y : Yx} {ad : Nat → Nat} {N : Nat} {σ : St} {a1 : Int64} {a2 : Int32} {r : Int32} {σ' : St} (h : m_factOf N σ a1 a2 = some (r, σ')) : Con Y scM ad yX11_factOf cX11_factOf 3 (some .int) 0 0 [.long a1, .int a2] σ (outI r) σ' := con_of (by decide) rfl (Nat.le_of_ble_eq_true rfl) rfl (fun X hX C => s_m_factOf C N σ a1 a2) h
set_option maxRecDepth 20000 in
theorem v_m_factOf {X : Cx} {cc : ByteArray} {nL : Nat} {ret : Option FieldType} {fr lo : Nat} {ad : Nat → Nat} {ρ : Type} {out : ρ → Option Value} {pc : Nat} {lv : List (Nat × Value)} {rest : List Value} {σ : St} {N : Nat} {K : Int32 → St → Option (ρ × St)} {a1 : Int64} {a2 : Int32} (C : Ok X cc RX11 nL ret fr lo) (hR : 0 + 1 ≤ fr ∧ 8 + (3 + 11) + 0 ≤ lo) (hcat : (rest.map fun v => v.category).sum ≤ 8) (hdg : decode cc pc = .ok (.invokestatic 287, 3)) (k : ∀ (r : Int32) (σ' : St), m_factOf N σ a1 a2 = some (r, σ') → Sim X scM ad nL out (pc + 3) lv (.int r :: rest) σ' (K r σ')) : Sim X scM ad nL out pc lv (.int a2 :: .long a1 :: rest) σ (bd (m_factOf N σ a1 a2) K) := g_callS C (out1 := outI) (y := yX11_factOf) (n := 2) ⟨gw_1460, gw_1461, gw_117, gw_1462⟩ (by decide +kernel) hR (fun r σ' h => c_m_factOf h) rfl rfl hcat hdg k

def m_with (N : Nat) (σ : St) (a1 : Int64) (a2 : Int32) (a3 : Int32) : Option (Int64 × St) :=
  some ((a1 &&& (((3 : Int64) <<< ((2 * a2).toInt64 &&& 63)) ^^^ (-1))) ||| (a3.toInt64 <<< ((2 * a2).toInt64 &&& 63)), σ)
set_option maxHeartbeats 4000000 in
set_option maxRecDepth 100000 in
theorem s_m_with {X : Cx} {ad : Nat → Nat} (C : Ok X cX11_with RX11 4 (some .long) 0 0) (N : Nat) (σ : St) (a1 : Int64) (a2 : Int32) (a3 : Int32) : Sim X scM ad 4 outL 0 [(0, .long a1), (2, .int a2), (3, .int a3)] [] σ (m_with N σ a1 a2 a3) := by
  unfold m_with
  refine g_lload_n C 0 dX11_with_0 rfl rfl ?_
  refine g_ldc2 C (v := 3) gw_1450 dX11_with_1 ?_
  refine g_iconst C 2 dX11_with_4 (by decide) ?_
  refine g_iload_n C 1 dX11_with_5 rfl rfl ?_
  refine g_imul C dX11_with_6 ?_
  refine g_lshl C dX11_with_7 ?_
  refine g_ldc2 C (v := (-1)) gw_1451 dX11_with_8 ?_
  refine g_lxor C dX11_with_11 ?_
  refine g_land C dX11_with_12 ?_
  refine g_iload_n C 2 dX11_with_13 rfl rfl ?_
  refine g_i2l C dX11_with_14 ?_
  refine g_iconst C 2 dX11_with_15 (by decide) ?_
  refine g_iload_n C 1 dX11_with_16 rfl rfl ?_
  refine g_imul C dX11_with_17 ?_
  refine g_lshl C dX11_with_18 ?_
  refine g_lor C dX11_with_19 ?_
  exact g_lret C dX11_with_20
theorem c_m_with {Y : Yx} {ad : Nat → Nat} {N : Nat} {σ : St} {a1 : Int64} {a2 : Int32} {a3 : Int32} {r : Int64} {σ' : St} (h : m_with N σ a1 a2 a3 = some (r, σ')) : Con Y scM ad yX11_with cX11_with 4 (some .long) 0 0 [.long a1, .int a2, .int a3] σ (outL r) σ' := con_of (by decide) rfl (Nat.le_of_ble_eq_true rfl) rfl (fun X hX C => s_m_with C N σ a1 a2 a3) h
set_option maxRecDepth 20000 in
theorem v_m_with {X : Cx} {cc : ByteArray} {nL : Nat} {ret : Option FieldType} {fr lo : Nat} {ad : Nat → Nat} {ρ : Type} {out : ρ → Option Value} {pc : Nat} {lv : List (Nat × Value)} {rest : List Value} {σ : St} {N : Nat} {K : Int64 → St → Option (ρ × St)} {a1 : Int64} {a2 : Int32} {a3 : Int32} (C : Ok X cc RX11 nL ret fr lo) (hR : 0 + 1 ≤ fr ∧ 8 + (4 + 11) + 0 ≤ lo) (hcat : (rest.map fun v => v.category).sum ≤ 8) (hdg : decode cc pc = .ok (.invokestatic 267, 3)) (k : ∀ (r : Int64) (σ' : St), m_with N σ a1 a2 a3 = some (r, σ') → Sim X scM ad nL out (pc + 3) lv (.long r :: rest) σ' (K r σ')) : Sim X scM ad nL out pc lv (.int a3 :: .int a2 :: .long a1 :: rest) σ (bd (m_with N σ a1 a2 a3) K) := g_callS C (out1 := outL) (y := yX11_with) (n := 3) ⟨gw_1447, gw_1448, gw_117, gw_1449⟩ (by decide +kernel) hR (fun r σ' h => c_m_with h) rfl rfl hcat hdg k

def m_puts_16 (N : Nat) (σ : St) (x1 : Int32) (t0 : Int32) : Option (Unit × St) :=
  gd (ib x1 42) (gd (ib x1 42) ((if ((gA σ 42 x1.toNatClampNeg) ||| t0) = (gA σ 42 x1.toNatClampNeg) then some ((), σ) else gd (ib x1 42) (gd (ib x1 42) (some ((), (sI (sA σ 42 x1.toNatClampNeg ((gA σ 42 x1.toNatClampNeg) ||| t0)) 45 1)))))))
def m_puts (N : Nat) (σ : St) (a1 : Int32) (a2 : Int32) : Option (Unit × St) :=
  gd (ib a1 42) ((if (gA σ 43 a1.toNatClampNeg) = 0 then m_puts_16 N σ a1 a2 else m_puts_16 N σ a1 (a2 &&& 2)))
set_option maxHeartbeats 4000000 in
set_option maxRecDepth 100000 in
theorem s_m_puts_16 {X : Cx} {ad : Nat → Nat} (C : Ok X cX11_puts RX11 4 none 0 0) (N : Nat) (σ : St) (x1 : Int32) (t0 : Int32) : Sim X scM ad 4 outV 16 [(0, .ref (ad 0)), (1, .int x1)] [.int t0] σ (m_puts_16 N σ x1 t0) := by
  unfold m_puts_16
  refine g_istore_n C [(3, .int t0), (0, .ref (ad 0)), (1, .int x1)] dX11_puts_16 rfl (by decide) rfl ?_
  refine g_aload_n C 1 dX11_puts_17 rfl rfl ?_
  refine mg42 C dX11_puts_18 ?_
  refine g_iload_n C 2 dX11_puts_21 rfl rfl ?_
  refine mr42 C (v := gA σ 42 x1.toNatClampNeg) dX11_puts_22 rfl ?_
  refine g_iload_n C 0 dX11_puts_23 rfl rfl ?_
  refine g_ior C dX11_puts_24 ?_
  refine g_aload_n C 1 dX11_puts_25 rfl rfl ?_
  refine mg42 C dX11_puts_26 ?_
  refine g_iload_n C 2 dX11_puts_29 rfl rfl ?_
  refine mr42 C (v := gA σ 42 x1.toNatClampNeg) dX11_puts_30 rfl ?_
  refine g_icmp_ne C 35 dX11_puts_31 (by decide) ?_ ?_
  · refine g_aload_n C 1 dX11_puts_35 rfl rfl ?_
    refine mg42 C dX11_puts_36 ?_
    refine g_iload_n C 2 dX11_puts_39 rfl rfl ?_
    refine g_dup2 C dX11_puts_40 rfl rfl ?_
    refine mr42 C (v := gA σ 42 x1.toNatClampNeg) dX11_puts_41 rfl ?_
    refine g_iload_n C 0 dX11_puts_42 rfl rfl ?_
    refine g_ior C dX11_puts_43 ?_
    refine mw42 C dX11_puts_44 ?_
    refine g_aload_n C 1 dX11_puts_45 rfl rfl ?_
    refine g_iconst C 1 dX11_puts_46 (by decide) ?_
    refine mp45 C rfl dX11_puts_47 ?_
    exact g_vret C dX11_puts_50
  · exact g_vret C dX11_puts_34
set_option maxHeartbeats 4000000 in
set_option maxRecDepth 100000 in
theorem s_m_puts {X : Cx} {ad : Nat → Nat} (C : Ok X cX11_puts RX11 4 none 0 0) (N : Nat) (σ : St) (a1 : Int32) (a2 : Int32) : Sim X scM ad 4 outV 0 [(0, .ref (ad 0)), (1, .int a1), (2, .int a2)] [] σ (m_puts N σ a1 a2) := by
  unfold m_puts
  refine g_aload_n C 0 dX11_puts_0 rfl rfl ?_
  refine mg43 C dX11_puts_1 ?_
  refine g_iload_n C 1 dX11_puts_4 rfl rfl ?_
  refine mr43 C (v := gA σ 43 a1.toNatClampNeg) dX11_puts_5 rfl ?_
  refine g_if_eq C 15 dX11_puts_6 (by decide) ?_ ?_
  · refine g_iload_n C 2 dX11_puts_15 rfl rfl ?_
    exact g_sub [0, 1] rfl (s_m_puts_16 C N σ a1 a2)
  · refine g_iload_n C 2 dX11_puts_9 rfl rfl ?_
    refine g_iconst C 2 dX11_puts_10 (by decide) ?_
    refine g_iand C dX11_puts_11 ?_
    refine g_goto C 16 dX11_puts_12 (by decide) ?_
    exact g_sub [0, 1] rfl (s_m_puts_16 C N σ a1 (a2 &&& 2))
theorem c_m_puts {Y : Yx} {ad : Nat → Nat} {N : Nat} {σ : St} {a1 : Int32} {a2 : Int32} {r : Unit} {σ' : St} (h : m_puts N σ a1 a2 = some (r, σ')) : Con Y scM ad yX11_puts cX11_puts 4 none 0 0 [.ref (ad 0), .int a1, .int a2] σ (outV r) σ' := con_of (by decide) rfl (Nat.le_of_ble_eq_true rfl) rfl (fun X hX C => s_m_puts C N σ a1 a2) h
set_option maxRecDepth 20000 in
theorem v_m_puts {X : Cx} {cc : ByteArray} {nL : Nat} {ret : Option FieldType} {fr lo : Nat} {ad : Nat → Nat} {ρ : Type} {out : ρ → Option Value} {pc : Nat} {lv : List (Nat × Value)} {rest : List Value} {σ : St} {N : Nat} {K : Unit → St → Option (ρ × St)} {a1 : Int32} {a2 : Int32} (C : Ok X cc RX11 nL ret fr lo) (hR : 0 + 1 ≤ fr ∧ 8 + (4 + 11) + 0 ≤ lo) (hcat : (rest.map fun v => v.category).sum ≤ 8) (hdg : decode cc pc = .ok (.invokevirtual 275, 3)) (k : ∀ (r : Unit) (σ' : St), m_puts N σ a1 a2 = some (r, σ') → Sim X scM ad nL out (pc + 3) lv rest σ' (K r σ')) : Sim X scM ad nL out pc lv (.int a2 :: .int a1 :: .ref (ad 0) :: rest) σ (bd (m_puts N σ a1 a2) K) := g_callV C (out1 := outV) (y := yX11_puts) (n := 2) ⟨gw_1434, gw_1436, gw_86, gw_117, gw_1437⟩ (by decide +kernel) hR (o := 0) (ci := 10) (q9 := (RX11, TX11, 68)) imM0 rfl rfl rfl (fun r σ' h => c_m_puts h) rfl rfl hcat hdg k

def m_flows (N : Nat) (σ : St) (a1 : Int32) (a2 : Int64) : Option (Unit × St) :=
  gd (ib a1 1300) (gd (ib a1 1300) ((if (lg_cmp ((gZ σ 41 a1.toNatClampNeg) ||| a2) (gZ σ 41 a1.toNatClampNeg)) = 0 then some ((), σ) else gd (ib a1 1300) (some ((), (sI (sZ σ 41 a1.toNatClampNeg ((gZ σ 41 a1.toNatClampNeg) ||| a2)) 45 1))))))
set_option maxHeartbeats 4000000 in
set_option maxRecDepth 100000 in
theorem s_m_flows {X : Cx} {ad : Nat → Nat} (C : Ok X cX11_flows RX11 6 none 0 0) (N : Nat) (σ : St) (a1 : Int32) (a2 : Int64) : Sim X scM ad 6 outV 0 [(0, .ref (ad 0)), (1, .int a1), (2, .long a2)] [] σ (m_flows N σ a1 a2) := by
  unfold m_flows
  refine g_aload_n C 0 dX11_flows_0 rfl rfl ?_
  refine mg41 C dX11_flows_1 ?_
  refine g_iload_n C 1 dX11_flows_4 rfl rfl ?_
  refine mr41 C (v := gZ σ 41 a1.toNatClampNeg) dX11_flows_5 rfl ?_
  refine g_lload_n C 2 dX11_flows_6 rfl rfl ?_
  refine g_lor C dX11_flows_7 ?_
  refine g_lstore C [(4, .long ((gZ σ 41 a1.toNatClampNeg) ||| a2)), (0, .ref (ad 0)), (1, .int a1), (2, .long a2)] dX11_flows_8 (by decide) rfl ?_
  refine g_lload C 0 dX11_flows_10 rfl ?_
  refine g_aload_n C 1 dX11_flows_12 rfl rfl ?_
  refine mg41 C dX11_flows_13 ?_
  refine g_iload_n C 2 dX11_flows_16 rfl rfl ?_
  refine mr41 C (v := gZ σ 41 a1.toNatClampNeg) dX11_flows_17 rfl ?_
  refine g_lcmp C dX11_flows_18 ?_
  refine g_if_ne C 23 dX11_flows_19 (by decide) ?_ ?_
  · refine g_aload_n C 1 dX11_flows_23 rfl rfl ?_
    refine mg41 C dX11_flows_24 ?_
    refine g_iload_n C 2 dX11_flows_27 rfl rfl ?_
    refine g_lload C 0 dX11_flows_28 rfl ?_
    refine mw41 C dX11_flows_30 ?_
    refine g_aload_n C 1 dX11_flows_31 rfl rfl ?_
    refine g_iconst C 1 dX11_flows_32 (by decide) ?_
    refine mp45 C rfl dX11_flows_33 ?_
    exact g_vret C dX11_flows_36
  · exact g_vret C dX11_flows_22
theorem c_m_flows {Y : Yx} {ad : Nat → Nat} {N : Nat} {σ : St} {a1 : Int32} {a2 : Int64} {r : Unit} {σ' : St} (h : m_flows N σ a1 a2 = some (r, σ')) : Con Y scM ad yX11_flows cX11_flows 6 none 0 0 [.ref (ad 0), .int a1, .long a2] σ (outV r) σ' := con_of (by decide) rfl (Nat.le_of_ble_eq_true rfl) rfl (fun X hX C => s_m_flows C N σ a1 a2) h
set_option maxRecDepth 20000 in
theorem v_m_flows {X : Cx} {cc : ByteArray} {nL : Nat} {ret : Option FieldType} {fr lo : Nat} {ad : Nat → Nat} {ρ : Type} {out : ρ → Option Value} {pc : Nat} {lv : List (Nat × Value)} {rest : List Value} {σ : St} {N : Nat} {K : Unit → St → Option (ρ × St)} {a1 : Int32} {a2 : Int64} (C : Ok X cc RX11 nL ret fr lo) (hR : 0 + 1 ≤ fr ∧ 8 + (6 + 11) + 0 ≤ lo) (hcat : (rest.map fun v => v.category).sum ≤ 8) (hdg : decode cc pc = .ok (.invokevirtual 271, 3)) (k : ∀ (r : Unit) (σ' : St), m_flows N σ a1 a2 = some (r, σ') → Sim X scM ad nL out (pc + 3) lv rest σ' (K r σ')) : Sim X scM ad nL out pc lv (.long a2 :: .int a1 :: .ref (ad 0) :: rest) σ (bd (m_flows N σ a1 a2) K) := g_callV C (out1 := outV) (y := yX11_flows) (n := 2) ⟨gw_1452, gw_1454, gw_89, gw_117, gw_1455⟩ (by decide +kernel) hR (o := 0) (ci := 10) (q9 := (RX11, TX11, 68)) imM0 rfl rfl rfl (fun r σ' h => c_m_flows h) rfl rfl hcat hdg k

def m_begins_93 (N : Nat) (σ : St) (x1 : Int32) (x2 : Int64) : Option (Unit × St) :=
  gd (ib x1 16) (bd (m_flows N σ (gA σ 19 x1.toNatClampNeg) x2) (fun _ σ4 => some ((), σ4)))
def m_begins_39_b (N : Nat) (rec39 : St → Int32 → Int64 → Int32 → Option (Unit × St)) (σ : St) (x1 : Int32) (x2 : Int64) (x4 : Int32) : Option (Unit × St) :=
  gd (ib x1 16) ((if (gA σ 20 x1.toNatClampNeg) ≤ x4 then m_begins_93 N σ x1 x2 else gd (ib ((4 * x1) + x4) 42) ((if (gA σ 42 (((4 * x1) + x4).toNatClampNeg)) = 0 then some ((), σ) else gd (ib ((4 * x1) + x4) 64) (bd (m_with N σ x2 (gA σ 21 (((4 * x1) + x4).toNatClampNeg)) (gA σ 42 (((4 * x1) + x4).toNatClampNeg))) (fun r5 σ6 => rec39 σ6 x1 r5 (x4 + 1)))))))
def m_begins_39 (N : Nat) : Nat → St → Int32 → Int64 → Int32 → Option (Unit × St)
  | 0 => fun _ _ _ _ => none
  | n + 1 => fun σ x1 x2 x4 => m_begins_39_b N (m_begins_39 N n) σ x1 x2 x4
def m_begins_28 (N : Nat) (σ : St) (x1 : Int32) (x2 : Int64) : Option (Unit × St) :=
  bd (m_with N σ x2 26 1) (fun r1 σ2 => m_begins_39 N N σ2 x1 r1 0)
def m_begins_7_b (N : Nat) (rec7 : St → Int32 → Int64 → Int32 → Option (Unit × St)) (σ : St) (x1 : Int32) (x2 : Int64) (x4 : Int32) : Option (Unit × St) :=
  (if 26 ≤ x4 then m_begins_28 N σ x1 x2 else bd (m_with N σ x2 x4 1) (fun r7 σ8 => rec7 σ8 x1 r7 (x4 + 1)))
def m_begins_7 (N : Nat) : Nat → St → Int32 → Int64 → Int32 → Option (Unit × St)
  | 0 => fun _ _ _ _ => none
  | n + 1 => fun σ x1 x2 x4 => m_begins_7_b N (m_begins_7 N n) σ x1 x2 x4
def m_begins (N : Nat) (σ : St) (a1 : Int32) : Option (Unit × St) :=
  m_begins_7 N N σ a1 1152921504606846976 0
set_option maxHeartbeats 4000000 in
set_option maxRecDepth 100000 in
theorem s_m_begins_93 {X : Cx} {ad : Nat → Nat} (C : Ok X cX11_begins RX11 6 none 1 25) (N : Nat) (σ : St) (x1 : Int32) (x2 : Int64) : Sim X scM ad 6 outV 93 [(0, .ref (ad 0)), (1, .int x1), (2, .long x2)] [] σ (m_begins_93 N σ x1 x2) := by
  unfold m_begins_93
  refine g_aload_n C 0 dX11_begins_93 rfl rfl ?_
  refine g_aload_n C 0 dX11_begins_94 rfl rfl ?_
  refine mg19 C dX11_begins_95 ?_
  refine g_iload_n C 1 dX11_begins_98 rfl rfl ?_
  refine mr19 C (v := gA σ 19 x1.toNatClampNeg) dX11_begins_99 rfl ?_
  refine g_lload_n C 2 dX11_begins_100 rfl rfl ?_
  refine v_m_flows C ⟨by decide, by decide⟩ (Nat.le_of_ble_eq_true rfl) dX11_begins_101 (fun r3 σ4 _ => ?_)
  exact g_vret C dX11_begins_104
set_option maxHeartbeats 4000000 in
set_option maxRecDepth 100000 in
theorem s_m_begins_39_b {X : Cx} {ad : Nat → Nat} (C : Ok X cX11_begins RX11 6 none 1 25) (N : Nat) {rec39 : St → Int32 → Int64 → Int32 → Option (Unit × St)} (hrec39 : ∀ (σ : St) (x1 : Int32) (x2 : Int64) (x4 : Int32), Sim X scM ad 6 outV 39 [(0, .ref (ad 0)), (1, .int x1), (2, .long x2), (4, .int x4)] [] σ (rec39 σ x1 x2 x4)) (σ : St) (x1 : Int32) (x2 : Int64) (x4 : Int32) : Sim X scM ad 6 outV 39 [(0, .ref (ad 0)), (1, .int x1), (2, .long x2), (4, .int x4)] [] σ (m_begins_39_b N rec39 σ x1 x2 x4) := by
  unfold m_begins_39_b
  refine g_iload C 3 dX11_begins_39 rfl ?_
  refine g_aload_n C 0 dX11_begins_41 rfl rfl ?_
  refine mg20 C dX11_begins_42 ?_
  refine g_iload_n C 1 dX11_begins_45 rfl rfl ?_
  refine mr20 C (v := gA σ 20 x1.toNatClampNeg) dX11_begins_46 rfl ?_
  refine g_icmp_ge C 93 dX11_begins_47 (by decide) ?_ ?_
  · exact g_sub [0, 1, 2] rfl (s_m_begins_93 C N σ x1 x2)
  · refine g_aload_n C 0 dX11_begins_50 rfl rfl ?_
    refine mg42 C dX11_begins_51 ?_
    refine g_iconst C 4 dX11_begins_54 (by decide) ?_
    refine g_iload_n C 1 dX11_begins_55 rfl rfl ?_
    refine g_imul C dX11_begins_56 ?_
    refine g_iload C 3 dX11_begins_57 rfl ?_
    refine g_iadd C dX11_begins_59 ?_
    refine mr42 C (v := gA σ 42 (((4 * x1) + x4).toNatClampNeg)) dX11_begins_60 rfl ?_
    refine g_istore C [(5, .int (gA σ 42 (((4 * x1) + x4).toNatClampNeg))), (0, .ref (ad 0)), (1, .int x1), (2, .long x2), (4, .int x4)] dX11_begins_61 (by decide) rfl ?_
    refine g_iload C 0 dX11_begins_63 rfl ?_
    refine g_if_ne C 69 dX11_begins_65 (by decide) ?_ ?_
    · refine g_lload_n C 3 dX11_begins_69 rfl rfl ?_
      refine g_aload_n C 1 dX11_begins_70 rfl rfl ?_
      refine mg21 C dX11_begins_71 ?_
      refine g_iconst C 4 dX11_begins_74 (by decide) ?_
      refine g_iload_n C 2 dX11_begins_75 rfl rfl ?_
      refine g_imul C dX11_begins_76 ?_
      refine g_iload C 4 dX11_begins_77 rfl ?_
      refine g_iadd C dX11_begins_79 ?_
      refine mr21 C (v := gA σ 21 (((4 * x1) + x4).toNatClampNeg)) dX11_begins_80 rfl ?_
      refine g_iload C 0 dX11_begins_81 rfl ?_
      refine v_m_with C ⟨by decide, by decide⟩ (Nat.le_of_ble_eq_true rfl) dX11_begins_83 (fun r5 σ6 _ => ?_)
      refine g_lstore_n C [(2, .long r5), (5, .int (gA σ 42 (((4 * x1) + x4).toNatClampNeg))), (0, .ref (ad 0)), (1, .int x1), (4, .int x4)] dX11_begins_86 rfl (by decide) rfl ?_
      refine g_iinc C (x4 + 1) 4 [(4, .int (x4 + 1)), (2, .long r5), (5, .int (gA σ 42 (((4 * x1) + x4).toNatClampNeg))), (0, .ref (ad 0)), (1, .int x1)] dX11_begins_87 rfl rfl (by decide) rfl ?_
      refine g_goto C 39 dX11_begins_90 (by decide) ?_
      exact g_sub [3, 4, 1, 0] rfl (hrec39 σ6 x1 r5 (x4 + 1))
    · exact g_vret C dX11_begins_68
set_option maxHeartbeats 4000000 in
set_option maxRecDepth 100000 in
theorem s_m_begins_39 {X : Cx} {ad : Nat → Nat} (C : Ok X cX11_begins RX11 6 none 1 25) (N : Nat) : ∀ (n : Nat) (σ : St) (x1 : Int32) (x2 : Int64) (x4 : Int32), Sim X scM ad 6 outV 39 [(0, .ref (ad 0)), (1, .int x1), (2, .long x2), (4, .int x4)] [] σ (m_begins_39 N n σ x1 x2 x4) := by
  intro n
  induction n with
  | zero => intro σ x1 x2 x4; exact g_none
  | succ n ih => intro σ x1 x2 x4; exact s_m_begins_39_b C N ih σ x1 x2 x4
set_option maxHeartbeats 4000000 in
set_option maxRecDepth 100000 in
theorem s_m_begins_28 {X : Cx} {ad : Nat → Nat} (C : Ok X cX11_begins RX11 6 none 1 25) (N : Nat) (σ : St) (x1 : Int32) (x2 : Int64) : Sim X scM ad 6 outV 28 [(0, .ref (ad 0)), (1, .int x1), (2, .long x2)] [] σ (m_begins_28 N σ x1 x2) := by
  unfold m_begins_28
  refine g_lload_n C 2 dX11_begins_28 rfl rfl ?_
  refine g_bipush C 26 dX11_begins_29 (by decide) ?_
  refine g_iconst C 1 dX11_begins_31 (by decide) ?_
  refine v_m_with C ⟨by decide, by decide⟩ (Nat.le_of_ble_eq_true rfl) dX11_begins_32 (fun r1 σ2 _ => ?_)
  refine g_lstore_n C [(2, .long r1), (0, .ref (ad 0)), (1, .int x1)] dX11_begins_35 rfl (by decide) rfl ?_
  refine g_iconst C 0 dX11_begins_36 (by decide) ?_
  refine g_istore C [(4, .int 0), (2, .long r1), (0, .ref (ad 0)), (1, .int x1)] dX11_begins_37 (by decide) rfl ?_
  exact g_sub [2, 3, 1, 0] rfl (s_m_begins_39 C N N σ2 x1 r1 0)
set_option maxHeartbeats 4000000 in
set_option maxRecDepth 100000 in
theorem s_m_begins_7_b {X : Cx} {ad : Nat → Nat} (C : Ok X cX11_begins RX11 6 none 1 25) (N : Nat) {rec7 : St → Int32 → Int64 → Int32 → Option (Unit × St)} (hrec7 : ∀ (σ : St) (x1 : Int32) (x2 : Int64) (x4 : Int32), Sim X scM ad 6 outV 7 [(0, .ref (ad 0)), (1, .int x1), (2, .long x2), (4, .int x4)] [] σ (rec7 σ x1 x2 x4)) (σ : St) (x1 : Int32) (x2 : Int64) (x4 : Int32) : Sim X scM ad 6 outV 7 [(0, .ref (ad 0)), (1, .int x1), (2, .long x2), (4, .int x4)] [] σ (m_begins_7_b N rec7 σ x1 x2 x4) := by
  unfold m_begins_7_b
  refine g_iload C 3 dX11_begins_7 rfl ?_
  refine g_bipush C 26 dX11_begins_9 (by decide) ?_
  refine g_icmp_ge C 28 dX11_begins_11 (by decide) ?_ ?_
  · exact g_sub [0, 1, 2] rfl (s_m_begins_28 C N σ x1 x2)
  · refine g_lload_n C 2 dX11_begins_14 rfl rfl ?_
    refine g_iload C 3 dX11_begins_15 rfl ?_
    refine g_iconst C 1 dX11_begins_17 (by decide) ?_
    refine v_m_with C ⟨by decide, by decide⟩ (Nat.le_of_ble_eq_true rfl) dX11_begins_18 (fun r7 σ8 _ => ?_)
    refine g_lstore_n C [(2, .long r7), (0, .ref (ad 0)), (1, .int x1), (4, .int x4)] dX11_begins_21 rfl (by decide) rfl ?_
    refine g_iinc C (x4 + 1) 3 [(4, .int (x4 + 1)), (2, .long r7), (0, .ref (ad 0)), (1, .int x1)] dX11_begins_22 rfl rfl (by decide) rfl ?_
    refine g_goto C 7 dX11_begins_25 (by decide) ?_
    exact g_sub [2, 3, 1, 0] rfl (hrec7 σ8 x1 r7 (x4 + 1))
set_option maxHeartbeats 4000000 in
set_option maxRecDepth 100000 in
theorem s_m_begins_7 {X : Cx} {ad : Nat → Nat} (C : Ok X cX11_begins RX11 6 none 1 25) (N : Nat) : ∀ (n : Nat) (σ : St) (x1 : Int32) (x2 : Int64) (x4 : Int32), Sim X scM ad 6 outV 7 [(0, .ref (ad 0)), (1, .int x1), (2, .long x2), (4, .int x4)] [] σ (m_begins_7 N n σ x1 x2 x4) := by
  intro n
  induction n with
  | zero => intro σ x1 x2 x4; exact g_none
  | succ n ih => intro σ x1 x2 x4; exact s_m_begins_7_b C N ih σ x1 x2 x4
set_option maxHeartbeats 4000000 in
set_option maxRecDepth 100000 in
theorem s_m_begins {X : Cx} {ad : Nat → Nat} (C : Ok X cX11_begins RX11 6 none 1 25) (N : Nat) (σ : St) (a1 : Int32) : Sim X scM ad 6 outV 0 [(0, .ref (ad 0)), (1, .int a1)] [] σ (m_begins N σ a1) := by
  unfold m_begins
  refine g_ldc2 C (v := 1152921504606846976) gw_1446 dX11_begins_0 ?_
  refine g_lstore_n C [(2, .long 1152921504606846976), (0, .ref (ad 0)), (1, .int a1)] dX11_begins_3 rfl (by decide) rfl ?_
  refine g_iconst C 0 dX11_begins_4 (by decide) ?_
  refine g_istore C [(4, .int 0), (2, .long 1152921504606846976), (0, .ref (ad 0)), (1, .int a1)] dX11_begins_5 (by decide) rfl ?_
  exact g_sub [2, 3, 1, 0] rfl (s_m_begins_7 C N N σ a1 1152921504606846976 0)
theorem c_m_begins {Y : Yx} {ad : Nat → Nat} {N : Nat} {σ : St} {a1 : Int32} {r : Unit} {σ' : St} (h : m_begins N σ a1 = some (r, σ')) : Con Y scM ad yX11_begins cX11_begins 6 none 1 25 [.ref (ad 0), .int a1] σ (outV r) σ' := con_of (by decide) rfl (Nat.le_of_ble_eq_true rfl) rfl (fun X hX C => s_m_begins C N σ a1) h
set_option maxRecDepth 20000 in
theorem v_m_begins {X : Cx} {cc : ByteArray} {nL : Nat} {ret : Option FieldType} {fr lo : Nat} {ad : Nat → Nat} {ρ : Type} {out : ρ → Option Value} {pc : Nat} {lv : List (Nat × Value)} {rest : List Value} {σ : St} {N : Nat} {K : Unit → St → Option (ρ × St)} {a1 : Int32} (C : Ok X cc RX11 nL ret fr lo) (hR : 1 + 1 ≤ fr ∧ 8 + (6 + 11) + 25 ≤ lo) (hcat : (rest.map fun v => v.category).sum ≤ 8) (hdg : decode cc pc = .ok (.invokevirtual 281, 3)) (k : ∀ (r : Unit) (σ' : St), m_begins N σ a1 = some (r, σ') → Sim X scM ad nL out (pc + 3) lv rest σ' (K r σ')) : Sim X scM ad nL out pc lv (.int a1 :: .ref (ad 0) :: rest) σ (bd (m_begins N σ a1) K) := g_callV C (out1 := outV) (y := yX11_begins) (n := 1) ⟨gw_1442, gw_1444, gw_88, gw_117, gw_1445⟩ (by decide +kernel) hR (o := 0) (ci := 10) (q9 := (RX11, TX11, 68)) imM0 rfl rfl rfl (fun r σ' h => c_m_begins h) rfl rfl hcat hdg k
