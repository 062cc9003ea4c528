def m_feed_110 (N : Nat) (σ : St) : Option (Int32 × St) :=
  some ((gI σ 2) + 20, (sI σ 2 ((gI σ 2) + 20)))
def m_feed_73 (N : Nat) (rec20 : St → Int32 → Int32 → Int32 → Int32 → Int32 → Int32 → Option (Int32 × St)) (σ : St) (x1 : Int32) (x2 : Int32) (x3 : Int32) (x4 : Int32) (x5 : Int32) (x6 : Int32) (t0 : Int32) : Option (Int32 × St) :=
  gd (ib ((gI σ 2) + x6) 1200) (rec20 (sA σ 1 (((gI σ 2) + x6).toNatClampNeg) ((t0 >>> ((24 - (8 * (x6 - x6 / 4 * 4))) &&& 31)) &&& 255)) x1 x2 x3 x4 x5 (x6 + 1))
def m_feed_20_b (N : Nat) (rec20 : St → Int32 → Int32 → Int32 → Int32 → Int32 → Int32 → Option (Int32 × St)) (σ : St) (x1 : Int32) (x2 : Int32) (x3 : Int32) (x4 : Int32) (x5 : Int32) (x6 : Int32) : Option (Int32 × St) :=
  (if 20 ≤ x6 then m_feed_110 N σ else (if 4 ≤ x6 then (if 8 ≤ x6 then (if 12 ≤ x6 then (if 16 ≤ x6 then m_feed_73 N rec20 σ x1 x2 x3 x4 x5 x6 x5 else m_feed_73 N rec20 σ x1 x2 x3 x4 x5 x6 x4) else m_feed_73 N rec20 σ x1 x2 x3 x4 x5 x6 x3) else m_feed_73 N rec20 σ x1 x2 x3 x4 x5 x6 x2) else m_feed_73 N rec20 σ x1 x2 x3 x4 x5 x6 x1))
def m_feed_20 (N : Nat) : Nat → St → Int32 → Int32 → Int32 → Int32 → Int32 → Int32 → Option (Int32 × St)
  | 0 => fun _ _ _ _ _ _ _ => none
  | n + 1 => fun σ x1 x2 x3 x4 x5 x6 => m_feed_20_b N (m_feed_20 N n) σ x1 x2 x3 x4 x5 x6
def m_feed (N : Nat) (σ : St) (a1 : Int32) (a2 : Int32) (a3 : Int32) (a4 : Int32) (a5 : Int32) : Option (Int32 × St) :=
  (if (gI σ 2) ≤ 1180 then m_feed_20 N N (sI σ 0 0) a1 a2 a3 a4 a5 0 else some ((-1), (sI σ 0 0)))
set_option maxHeartbeats 4000000 in
set_option maxRecDepth 100000 in
theorem s_m_feed_110 {X : Cx} {ad : Nat → Nat} (C : Ok X cX11_feed RX11 8 (some .int) 0 0) (N : Nat) (σ : St) : Sim X scM ad 8 outI 110 [(0, .ref (ad 0))] [] σ (m_feed_110 N σ) := by
  unfold m_feed_110
  refine g_aload_n C 0 dX11_feed_110 rfl rfl ?_
  refine g_dup C dX11_feed_111 rfl ?_
  refine mg2 C (v := gI σ 2) dX11_feed_112 rfl ?_
  refine g_bipush C 20 dX11_feed_115 (by decide) ?_
  refine g_iadd C dX11_feed_117 ?_
  refine mp2 C dX11_feed_118 ?_
  refine g_aload_n C 0 dX11_feed_121 rfl rfl ?_
  refine mg2 C (v := (gI σ 2) + 20) dX11_feed_122 rfl ?_
  exact g_iret C dX11_feed_125
set_option maxHeartbeats 4000000 in
set_option maxRecDepth 100000 in
theorem s_m_feed_73 {X : Cx} {ad : Nat → Nat} (C : Ok X cX11_feed RX11 8 (some .int) 0 0) (N : Nat) {rec20 : St → Int32 → Int32 → Int32 → Int32 → Int32 → Int32 → Option (Int32 × St)} (hrec20 : ∀ (σ : St) (x1 : Int32) (x2 : Int32) (x3 : Int32) (x4 : Int32) (x5 : Int32) (x6 : Int32), Sim X scM ad 8 outI 20 [(0, .ref (ad 0)), (1, .int x1), (2, .int x2), (3, .int x3), (4, .int x4), (5, .int x5), (6, .int x6)] [] σ (rec20 σ x1 x2 x3 x4 x5 x6)) (σ : St) (x1 : Int32) (x2 : Int32) (x3 : Int32) (x4 : Int32) (x5 : Int32) (x6 : Int32) (t0 : Int32) : Sim X scM ad 8 outI 73 [(0, .ref (ad 0)), (1, .int x1), (2, .int x2), (3, .int x3), (4, .int x4), (5, .int x5), (6, .int x6)] [.int t0] σ (m_feed_73 N rec20 σ x1 x2 x3 x4 x5 x6 t0) := by
  unfold m_feed_73
  refine g_istore C [(7, .int t0), (0, .ref (ad 0)), (1, .int x1), (2, .int x2), (3, .int x3), (4, .int x4), (5, .int x5), (6, .int x6)] dX11_feed_73 (by decide) rfl ?_
  refine g_aload_n C 1 dX11_feed_75 rfl rfl ?_
  refine mg1 C dX11_feed_76 ?_
  refine g_aload_n C 1 dX11_feed_79 rfl rfl ?_
  refine mg2 C (v := gI σ 2) dX11_feed_80 rfl ?_
  refine g_iload C 7 dX11_feed_83 rfl ?_
  refine g_iadd C dX11_feed_85 ?_
  refine g_iload C 0 dX11_feed_86 rfl ?_
  refine g_bipush C 24 dX11_feed_88 (by decide) ?_
  refine g_bipush C 8 dX11_feed_90 (by decide) ?_
  refine g_iload C 7 dX11_feed_92 rfl ?_
  refine g_iconst C 4 dX11_feed_94 (by decide) ?_
  refine g_irem C dX11_feed_95 (by decide) ?_
  refine g_imul C dX11_feed_96 ?_
  refine g_isub C dX11_feed_97 ?_
  refine g_ishr C dX11_feed_98 ?_
  refine g_sipush C 255 dX11_feed_99 (by decide) ?_
  refine g_iand C dX11_feed_102 ?_
  refine mw1 C dX11_feed_103 ?_
  refine g_iinc C (x6 + 1) 7 [(6, .int (x6 + 1)), (7, .int t0), (0, .ref (ad 0)), (1, .int x1), (2, .int x2), (3, .int x3), (4, .int x4), (5, .int x5)] dX11_feed_104 rfl rfl (by decide) rfl ?_
  refine g_goto C 20 dX11_feed_107 (by decide) ?_
  exact g_sub [2, 3, 4, 5, 6, 7, 0] rfl (hrec20 (sA σ 1 (((gI σ 2) + x6).toNatClampNeg) ((t0 >>> ((24 - (8 * (x6 - x6 / 4 * 4))) &&& 31)) &&& 255)) x1 x2 x3 x4 x5 (x6 + 1))
set_option maxHeartbeats 4000000 in
set_option maxRecDepth 100000 in
theorem s_m_feed_20_b {X : Cx} {ad : Nat → Nat} (C : Ok X cX11_feed RX11 8 (some .int) 0 0) (N : Nat) {rec20 : St → Int32 → Int32 → Int32 → Int32 → Int32 → Int32 → Option (Int32 × St)} (hrec20 : ∀ (σ : St) (x1 : Int32) (x2 : Int32) (x3 : Int32) (x4 : Int32) (x5 : Int32) (x6 : Int32), Sim X scM ad 8 outI 20 [(0, .ref (ad 0)), (1, .int x1), (2, .int x2), (3, .int x3), (4, .int x4), (5, .int x5), (6, .int x6)] [] σ (rec20 σ x1 x2 x3 x4 x5 x6)) (σ : St) (x1 : Int32) (x2 : Int32) (x3 : Int32) (x4 : Int32) (x5 : Int32) (x6 : Int32) : Sim X scM ad 8 outI 20 [(0, .ref (ad 0)), (1, .int x1), (2, .int x2), (3, .int x3), (4, .int x4), (5, .int x5), (6, .int x6)] [] σ (m_feed_20_b N rec20 σ x1 x2 x3 x4 x5 x6) := by
  unfold m_feed_20_b
  refine g_iload C 6 dX11_feed_20 rfl ?_
  refine g_bipush C 20 dX11_feed_22 (by decide) ?_
  refine g_icmp_ge C 110 dX11_feed_24 (by decide) ?_ ?_
  · exact g_sub [0] rfl (s_m_feed_110 C N σ)
  · refine g_iload C 6 dX11_feed_27 rfl ?_
    refine g_iconst C 4 dX11_feed_29 (by decide) ?_
    refine g_icmp_ge C 37 dX11_feed_30 (by decide) ?_ ?_
    · refine g_iload C 6 dX11_feed_37 rfl ?_
      refine g_bipush C 8 dX11_feed_39 (by decide) ?_
      refine g_icmp_ge C 48 dX11_feed_41 (by decide) ?_ ?_
      · refine g_iload C 6 dX11_feed_48 rfl ?_
        refine g_bipush C 12 dX11_feed_50 (by decide) ?_
        refine g_icmp_ge C 59 dX11_feed_52 (by decide) ?_ ?_
        · refine g_iload C 6 dX11_feed_59 rfl ?_
          refine g_bipush C 16 dX11_feed_61 (by decide) ?_
          refine g_icmp_ge C 71 dX11_feed_63 (by decide) ?_ ?_
          · refine g_iload C 5 dX11_feed_71 rfl ?_
            exact g_sub [0, 1, 2, 3, 4, 5, 6] rfl (s_m_feed_73 C N hrec20 σ x1 x2 x3 x4 x5 x6 x5)
          · refine g_iload C 4 dX11_feed_66 rfl ?_
            refine g_goto C 73 dX11_feed_68 (by decide) ?_
            exact g_sub [0, 1, 2, 3, 4, 5, 6] rfl (s_m_feed_73 C N hrec20 σ x1 x2 x3 x4 x5 x6 x4)
        · refine g_iload_n C 3 dX11_feed_55 rfl rfl ?_
          refine g_goto C 73 dX11_feed_56 (by decide) ?_
          exact g_sub [0, 1, 2, 3, 4, 5, 6] rfl (s_m_feed_73 C N hrec20 σ x1 x2 x3 x4 x5 x6 x3)
      · refine g_iload_n C 2 dX11_feed_44 rfl rfl ?_
        refine g_goto C 73 dX11_feed_45 (by decide) ?_
        exact g_sub [0, 1, 2, 3, 4, 5, 6] rfl (s_m_feed_73 C N hrec20 σ x1 x2 x3 x4 x5 x6 x2)
    · refine g_iload_n C 1 dX11_feed_33 rfl rfl ?_
      refine g_goto C 73 dX11_feed_34 (by decide) ?_
      exact g_sub [0, 1, 2, 3, 4, 5, 6] rfl (s_m_feed_73 C N hrec20 σ x1 x2 x3 x4 x5 x6 x1)
set_option maxHeartbeats 4000000 in
set_option maxRecDepth 100000 in
theorem s_m_feed_20 {X : Cx} {ad : Nat → Nat} (C : Ok X cX11_feed RX11 8 (some .int) 0 0) (N : Nat) : ∀ (n : Nat) (σ : St) (x1 : Int32) (x2 : Int32) (x3 : Int32) (x4 : Int32) (x5 : Int32) (x6 : Int32), Sim X scM ad 8 outI 20 [(0, .ref (ad 0)), (1, .int x1), (2, .int x2), (3, .int x3), (4, .int x4), (5, .int x5), (6, .int x6)] [] σ (m_feed_20 N n σ x1 x2 x3 x4 x5 x6) := by
  intro n
  induction n with
  | zero => intro σ x1 x2 x3 x4 x5 x6; exact g_none
  | succ n ih => intro σ x1 x2 x3 x4 x5 x6; exact s_m_feed_20_b C N ih σ x1 x2 x3 x4 x5 x6
set_option maxHeartbeats 4000000 in
set_option maxRecDepth 100000 in
theorem s_m_feed {X : Cx} {ad : Nat → Nat} (C : Ok X cX11_feed RX11 8 (some .int) 0 0) (N : Nat) (σ : St) (a1 : Int32) (a2 : Int32) (a3 : Int32) (a4 : Int32) (a5 : Int32) : Sim X scM ad 8 outI 0 [(0, .ref (ad 0)), (1, .int a1), (2, .int a2), (3, .int a3), (4, .int a4), (5, .int a5)] [] σ (m_feed N σ a1 a2 a3 a4 a5) := by
  unfold m_feed
  refine g_aload_n C 0 dX11_feed_0 rfl rfl ?_
  refine g_iconst C 0 dX11_feed_1 (by decide) ?_
  refine mp0 C dX11_feed_2 ?_
  refine g_aload_n C 0 dX11_feed_5 rfl rfl ?_
  refine mg2 C (v := gI σ 2) dX11_feed_6 rfl ?_
  refine g_sipush C 1180 dX11_feed_9 (by decide) ?_
  refine g_icmp_le C 17 dX11_feed_12 (by decide) ?_ ?_
  · refine g_iconst C 0 dX11_feed_17 (by decide) ?_
    refine g_istore C [(6, .int 0), (0, .ref (ad 0)), (1, .int a1), (2, .int a2), (3, .int a3), (4, .int a4), (5, .int a5)] dX11_feed_18 (by decide) rfl ?_
    exact g_sub [1, 2, 3, 4, 5, 6, 0] rfl (s_m_feed_20 C N N (sI σ 0 0) a1 a2 a3 a4 a5 0)
  · refine g_iconst C (-1) dX11_feed_15 (by decide) ?_
    exact g_iret C dX11_feed_16
theorem c_m_feed {Y : Yx} {ad : Nat → Nat} {N : Nat} {σ : St} {a1 : Int32} {a2 : Int32} {a3 : Int32} {a4 : Int32} {a5 : Int32} {r : Int32} {σ' : St} (h : m_feed N σ a1 a2 a3 a4 a5 = some (r, σ')) : Con Y scM ad yX11_feed cX11_feed 8 (some .int) 0 0 [.ref (ad 0), .int a1, .int a2, .int a3, .int a4, .int a5] σ (outI r) σ' := con_of (by decide) rfl (Nat.le_of_ble_eq_true rfl) rfl (fun X hX C => s_m_feed C N σ a1 a2 a3 a4 a5) h

def m_here (N : Nat) (σ : St) : Option (Int32 × St) :=
  (if (gI σ 3) ≤ (gI σ 4) then some ((-1), σ) else gd (ib (gI σ 4) 1200) (some (gA σ 1 ((gI σ 4).toNatClampNeg), σ)))
set_option maxHeartbeats 4000000 in
set_option maxRecDepth 100000 in
theorem s_m_here {X : Cx} {ad : Nat → Nat} (C : Ok X cX11_here RX11 1 (some .int) 0 0) (N : Nat) (σ : St) : Sim X scM ad 1 outI 0 [(0, .ref (ad 0))] [] σ (m_here N σ) := by
  unfold m_here
  refine g_aload_n C 0 dX11_here_0 rfl rfl ?_
  refine mg4 C (v := gI σ 4) dX11_here_1 rfl ?_
  refine g_aload_n C 0 dX11_here_4 rfl rfl ?_
  refine mg3 C (v := gI σ 3) dX11_here_5 rfl ?_
  refine g_icmp_ge C 23 dX11_here_8 (by decide) ?_ ?_
  · refine g_iconst C (-1) dX11_here_23 (by decide) ?_
    exact g_iret C dX11_here_24
  · refine g_aload_n C 0 dX11_here_11 rfl rfl ?_
    refine mg1 C dX11_here_12 ?_
    refine g_aload_n C 0 dX11_here_15 rfl rfl ?_
    refine mg4 C (v := gI σ 4) dX11_here_16 rfl ?_
    refine mr1 C (v := gA σ 1 ((gI σ 4).toNatClampNeg)) dX11_here_19 rfl ?_
    refine g_goto C 24 dX11_here_20 (by decide) ?_
    exact g_iret C dX11_here_24
theorem c_m_here {Y : Yx} {ad : Nat → Nat} {N : Nat} {σ : St} {r : Int32} {σ' : St} (h : m_here N σ = some (r, σ')) : Con Y scM ad yX11_here cX11_here 1 (some .int) 0 0 [.ref (ad 0)] σ (outI r) σ' := con_of (by decide) rfl (Nat.le_of_ble_eq_true rfl) rfl (fun X hX C => s_m_here C N σ) h
set_option maxRecDepth 20000 in
theorem v_m_here {X : Cx} {cc : ByteArray} {nL : Nat} {ret : Option FieldType} {fr lo : Nat} {ad : Nat → Nat} {ρ : Type} {out : ρ → Option Value} {pc : Nat} {lv : List (Nat × Value)} {rest : List Value} {σ : St} {N : Nat} {K : Int32 → St → Option (ρ × St)} (C : Ok X cc RX11 nL ret fr lo) (hR : 0 + 1 ≤ fr ∧ 8 + (1 + 11) + 0 ≤ lo) (hcat : (rest.map fun v => v.category).sum ≤ 8) (hdg : decode cc pc = .ok (.invokevirtual 133, 3)) (k : ∀ (r : Int32) (σ' : St), m_here N σ = some (r, σ') → Sim X scM ad nL out (pc + 3) lv (.int r :: rest) σ' (K r σ')) : Sim X scM ad nL out pc lv (.ref (ad 0) :: rest) σ (bd (m_here N σ) K) := g_callV C (out1 := outI) (y := yX11_here) (n := 0) ⟨gw_1320, gw_1322, gw_63, gw_117, gw_1323⟩ (by decide +kernel) hR (o := 0) (ci := 10) (q9 := (RX11, TX11, 68)) imM0 rfl rfl rfl (fun r σ' h => c_m_here h) rfl rfl hcat hdg k

def m_isSmall (N : Nat) (σ : St) (a1 : Int32) : Option (Int32 × St) :=
  (if a1 < 97 then some (0, σ) else (if 122 < a1 then some (0, σ) else some (1, σ)))
set_option maxHeartbeats 4000000 in
set_option maxRecDepth 100000 in
theorem s_m_isSmall {X : Cx} {ad : Nat → Nat} (C : Ok X cX11_isSmall RX11 1 (some .boolean) 0 0) (N : Nat) (σ : St) (a1 : Int32) : Sim X scM ad 1 outI 0 [(0, .int a1)] [] σ (m_isSmall N σ a1) := by
  unfold m_isSmall
  refine g_iload_n C 0 dX11_isSmall_0 rfl rfl ?_
  refine g_bipush C 97 dX11_isSmall_1 (by decide) ?_
  refine g_icmp_lt C 16 dX11_isSmall_3 (by decide) ?_ ?_
  · refine g_iconst C 0 dX11_isSmall_16 (by decide) ?_
    exact g_zret C rfl dX11_isSmall_17
  · refine g_iload_n C 0 dX11_isSmall_6 rfl rfl ?_
    refine g_bipush C 122 dX11_isSmall_7 (by decide) ?_
    refine g_icmp_gt C 16 dX11_isSmall_9 (by decide) ?_ ?_
    · refine g_iconst C 0 dX11_isSmall_16 (by decide) ?_
      exact g_zret C rfl dX11_isSmall_17
    · refine g_iconst C 1 dX11_isSmall_12 (by decide) ?_
      refine g_goto C 17 dX11_isSmall_13 (by decide) ?_
      exact g_zret C rfl dX11_isSmall_17
theorem c_m_isSmall {Y : Yx} {ad : Nat → Nat} {N : Nat} {σ : St} {a1 : Int32} {r : Int32} {σ' : St} (h : m_isSmall N σ a1 = some (r, σ')) : Con Y scM ad yX11_isSmall cX11_isSmall 1 (some .boolean) 0 0 [.int a1] σ (outI r) σ' := con_of (by decide) rfl (Nat.le_of_ble_eq_true rfl) rfl (fun X hX C => s_m_isSmall C N σ a1) h
set_option maxRecDepth 20000 in
theorem v_m_isSmall {X : Cx} {cc : ByteArray} {nL : Nat} {ret : Option FieldType} {fr lo : Nat} {ad : Nat → Nat} {ρ : Type} {out : ρ → Option Value} {pc : Nat} {lv : List (Nat × Value)} {rest : List Value} {σ : St} {N : Nat} {K : Int32 → St → Option (ρ × St)} {a1 : Int32} (C : Ok X cc RX11 nL ret fr lo) (hR : 0 + 1 ≤ fr ∧ 8 + (1 + 11) + 0 ≤ lo) (hcat : (rest.map fun v => v.category).sum ≤ 8) (hdg : decode cc pc = .ok (.invokestatic 143, 3)) (k : ∀ (r : Int32) (σ' : St), m_isSmall N σ a1 = some (r, σ') → Sim X scM ad nL out (pc + 3) lv (.int r :: rest) σ' (K r σ')) : Sim X scM ad nL out pc lv (.int a1 :: rest) σ (bd (m_isSmall N σ a1) K) := g_callS C (out1 := outI) (y := yX11_isSmall) (n := 1) ⟨gw_1324, gw_1325, gw_117, gw_1326⟩ (by decide +kernel) hR (fun r σ' h => c_m_isSmall h) rfl rfl hcat hdg k

def m_wordOf_114 (N : Nat) (rec4 : St → Int32 → Int32 → Option (Int32 × St)) (σ : St) (x1 : Int32) (x2 : Int32) : Option (Int32 × St) :=
  rec4 σ (x1 + 1) (x2 + 1)
def m_wordOf_97_b (N : Nat) (rec4 : St → Int32 → Int32 → Option (Int32 × St)) (rec97 : St → Int32 → Int32 → Option (Int32 × St)) (σ : St) (x1 : Int32) (x2 : Int32) : Option (Int32 × St) :=
  gd (ib x2 (lenS.getD 9 0)) ((if (chS 9 x2.toNatClampNeg) = 32 then m_wordOf_114 N rec4 σ x1 x2 else rec97 σ x1 (x2 + 1)))
def m_wordOf_97 (N : Nat) (rec4 : St → Int32 → Int32 → Option (Int32 × St)) : Nat → St → Int32 → Int32 → Option (Int32 × St)
  | 0 => fun _ _ _ => none
  | n + 1 => fun σ x1 x2 => m_wordOf_97_b N rec4 (m_wordOf_97 N rec4 n) σ x1 x2
def m_wordOf_69 (N : Nat) (rec4 : St → Int32 → Int32 → Option (Int32 × St)) (σ : St) (x1 : Int32) (x2 : Int32) (x3 : Int32) : Option (Int32 × St) :=
  gd (ib (x2 + x3) (lenS.getD 9 0)) ((if (chS 9 (x2 + x3).toNatClampNeg) = 32 then (if ((gI σ 5) + x3) = (gI σ 4) then some (x1, σ) else m_wordOf_97 N rec4 N σ x1 x2) else m_wordOf_97 N rec4 N σ x1 x2))
def m_wordOf_15_b (N : Nat) (rec4 : St → Int32 → Int32 → Option (Int32 × St)) (rec15 : St → Int32 → Int32 → Int32 → Option (Int32 × St)) (σ : St) (x1 : Int32) (x2 : Int32) (x3 : Int32) : Option (Int32 × St) :=
  gd (ib (x2 + x3) (lenS.getD 9 0)) ((if (chS 9 (x2 + x3).toNatClampNeg) = 32 then m_wordOf_69 N rec4 σ x1 x2 x3 else (if (gI σ 4) ≤ ((gI σ 5) + x3) then m_wordOf_69 N rec4 σ x1 x2 x3 else gd (ib ((gI σ 5) + x3) 1200) (gd (ib (x2 + x3) (lenS.getD 9 0)) ((if (gA σ 1 (((gI σ 5) + x3).toNatClampNeg)) = (chS 9 (x2 + x3).toNatClampNeg) then rec15 σ x1 x2 (x3 + 1) else m_wordOf_69 N rec4 σ x1 x2 x3))))))
def m_wordOf_15 (N : Nat) (rec4 : St → Int32 → Int32 → Option (Int32 × St)) : Nat → St → Int32 → Int32 → Int32 → Option (Int32 × St)
  | 0 => fun _ _ _ _ => none
  | n + 1 => fun σ x1 x2 x3 => m_wordOf_15_b N rec4 (m_wordOf_15 N rec4 n) σ x1 x2 x3
def m_wordOf_4_b (N : Nat) (rec4 : St → Int32 → Int32 → Option (Int32 × St)) (σ : St) (x1 : Int32) (x2 : Int32) : Option (Int32 × St) :=
  (if 44 ≤ x2 then some ((-1), σ) else m_wordOf_15 N rec4 N σ x1 x2 0)
def m_wordOf_4 (N : Nat) : Nat → St → Int32 → Int32 → Option (Int32 × St)
  | 0 => fun _ _ _ => none
  | n + 1 => fun σ x1 x2 => m_wordOf_4_b N (m_wordOf_4 N n) σ x1 x2
def m_wordOf (N : Nat) (σ : St) : Option (Int32 × St) :=
  m_wordOf_4 N N σ 0 0
set_option maxHeartbeats 4000000 in
set_option maxRecDepth 100000 in
theorem s_m_wordOf_114 {X : Cx} {ad : Nat → Nat} (C : Ok X cX11_wordOf RX11 4 (some .int) 4 85) (N : Nat) {rec4 : St → Int32 → Int32 → Option (Int32 × St)} (hrec4 : ∀ (σ : St) (x1 : Int32) (x2 : Int32), Sim X scM ad 4 outI 4 [(0, .ref (ad 0)), (1, .int x1), (2, .int x2)] [] σ (rec4 σ x1 x2)) (σ : St) (x1 : Int32) (x2 : Int32) : Sim X scM ad 4 outI 114 [(0, .ref (ad 0)), (1, .int x1), (2, .int x2)] [] σ (m_wordOf_114 N rec4 σ x1 x2) := by
  unfold m_wordOf_114
  refine g_iinc C (x2 + 1) 2 [(2, .int (x2 + 1)), (0, .ref (ad 0)), (1, .int x1)] dX11_wordOf_114 rfl rfl (by decide) rfl ?_
  refine g_iinc C (x1 + 1) 2 [(1, .int (x1 + 1)), (2, .int (x2 + 1)), (0, .ref (ad 0))] dX11_wordOf_117 rfl rfl (by decide) rfl ?_
  refine g_goto C 4 dX11_wordOf_120 (by decide) ?_
  exact g_sub [2, 0, 1] rfl (hrec4 σ (x1 + 1) (x2 + 1))
set_option maxHeartbeats 4000000 in
set_option maxRecDepth 100000 in
theorem s_m_wordOf_97_b {X : Cx} {ad : Nat → Nat} (C : Ok X cX11_wordOf RX11 4 (some .int) 4 85) (N : Nat) {rec4 : St → Int32 → Int32 → Option (Int32 × St)} (hrec4 : ∀ (σ : St) (x1 : Int32) (x2 : Int32), Sim X scM ad 4 outI 4 [(0, .ref (ad 0)), (1, .int x1), (2, .int x2)] [] σ (rec4 σ x1 x2)) {rec97 : St → Int32 → Int32 → Option (Int32 × St)} (hrec97 : ∀ (σ : St) (x1 : Int32) (x2 : Int32), Sim X scM ad 4 outI 97 [(0, .ref (ad 0)), (1, .int x1), (2, .int x2)] [] σ (rec97 σ x1 x2)) (σ : St) (x1 : Int32) (x2 : Int32) : Sim X scM ad 4 outI 97 [(0, .ref (ad 0)), (1, .int x1), (2, .int x2)] [] σ (m_wordOf_97_b N rec4 rec97 σ x1 x2) := by
  unfold m_wordOf_97_b
  refine g_ldcS (i := 9) C rfl dX11_wordOf_97 ?_
  refine g_iload_n C 2 dX11_wordOf_99 rfl rfl ?_
  refine g_schr C (i := 9) (by decide) ⟨gw_1333, gw_572, gw_573, gw_119, gw_574⟩ ⟨by decide, by decide⟩ (Nat.le_of_ble_eq_true rfl) dX11_wordOf_100 ?_
  refine g_bipush C 32 dX11_wordOf_103 (by decide) ?_
  refine g_icmp_eq C 114 dX11_wordOf_105 (by decide) ?_ ?_
  · exact g_sub [0, 1, 2] rfl (s_m_wordOf_114 C N hrec4 σ x1 x2)
  · refine g_iinc C (x2 + 1) 2 [(2, .int (x2 + 1)), (0, .ref (ad 0)), (1, .int x1)] dX11_wordOf_108 rfl rfl (by decide) rfl ?_
    refine g_goto C 97 dX11_wordOf_111 (by decide) ?_
    exact g_sub [1, 2, 0] rfl (hrec97 σ x1 (x2 + 1))
set_option maxHeartbeats 4000000 in
set_option maxRecDepth 100000 in
theorem s_m_wordOf_97 {X : Cx} {ad : Nat → Nat} (C : Ok X cX11_wordOf RX11 4 (some .int) 4 85) (N : Nat) {rec4 : St → Int32 → Int32 → Option (Int32 × St)} (hrec4 : ∀ (σ : St) (x1 : Int32) (x2 : Int32), Sim X scM ad 4 outI 4 [(0, .ref (ad 0)), (1, .int x1), (2, .int x2)] [] σ (rec4 σ x1 x2)) : ∀ (n : Nat) (σ : St) (x1 : Int32) (x2 : Int32), Sim X scM ad 4 outI 97 [(0, .ref (ad 0)), (1, .int x1), (2, .int x2)] [] σ (m_wordOf_97 N rec4 n σ x1 x2) := by
  intro n
  induction n with
  | zero => intro σ x1 x2; exact g_none
  | succ n ih => intro σ x1 x2; exact s_m_wordOf_97_b C N hrec4 ih σ x1 x2
set_option maxHeartbeats 4000000 in
set_option maxRecDepth 100000 in
theorem s_m_wordOf_69 {X : Cx} {ad : Nat → Nat} (C : Ok X cX11_wordOf RX11 4 (some .int) 4 85) (N : Nat) {rec4 : St → Int32 → Int32 → Option (Int32 × St)} (hrec4 : ∀ (σ : St) (x1 : Int32) (x2 : Int32), Sim X scM ad 4 outI 4 [(0, .ref (ad 0)), (1, .int x1), (2, .int x2)] [] σ (rec4 σ x1 x2)) (σ : St) (x1 : Int32) (x2 : Int32) (x3 : Int32) : Sim X scM ad 4 outI 69 [(0, .ref (ad 0)), (1, .int x1), (2, .int x2), (3, .int x3)] [] σ (m_wordOf_69 N rec4 σ x1 x2 x3) := by
  unfold m_wordOf_69
  refine g_ldcS (i := 9) C rfl dX11_wordOf_69 ?_
  refine g_iload_n C 2 dX11_wordOf_71 rfl rfl ?_
  refine g_iload_n C 3 dX11_wordOf_72 rfl rfl ?_
  refine g_iadd C dX11_wordOf_73 ?_
  refine g_schr C (i := 9) (by decide) ⟨gw_1333, gw_572, gw_573, gw_119, gw_574⟩ ⟨by decide, by decide⟩ (Nat.le_of_ble_eq_true rfl) dX11_wordOf_74 ?_
  refine g_bipush C 32 dX11_wordOf_77 (by decide) ?_
  refine g_icmp_ne C 97 dX11_wordOf_79 (by decide) ?_ ?_
  · exact g_sub [0, 1, 2] rfl (s_m_wordOf_97 C N hrec4 N σ x1 x2)
  · refine g_aload_n C 0 dX11_wordOf_82 rfl rfl ?_
    refine mg5 C (v := gI σ 5) dX11_wordOf_83 rfl ?_
    refine g_iload_n C 3 dX11_wordOf_86 rfl rfl ?_
    refine g_iadd C dX11_wordOf_87 ?_
    refine g_aload_n C 0 dX11_wordOf_88 rfl rfl ?_
    refine mg4 C (v := gI σ 4) dX11_wordOf_89 rfl ?_
    refine g_icmp_ne C 97 dX11_wordOf_92 (by decide) ?_ ?_
    · exact g_sub [0, 1, 2] rfl (s_m_wordOf_97 C N hrec4 N σ x1 x2)
    · refine g_iload_n C 1 dX11_wordOf_95 rfl rfl ?_
      exact g_iret C dX11_wordOf_96
set_option maxHeartbeats 4000000 in
set_option maxRecDepth 100000 in
theorem s_m_wordOf_15_b {X : Cx} {ad : Nat → Nat} (C : Ok X cX11_wordOf RX11 4 (some .int) 4 85) (N : Nat) {rec4 : St → Int32 → Int32 → Option (Int32 × St)} (hrec4 : ∀ (σ : St) (x1 : Int32) (x2 : Int32), Sim X scM ad 4 outI 4 [(0, .ref (ad 0)), (1, .int x1), (2, .int x2)] [] σ (rec4 σ x1 x2)) {rec15 : St → Int32 → Int32 → Int32 → Option (Int32 × St)} (hrec15 : ∀ (σ : St) (x1 : Int32) (x2 : Int32) (x3 : Int32), Sim X scM ad 4 outI 15 [(0, .ref (ad 0)), (1, .int x1), (2, .int x2), (3, .int x3)] [] σ (rec15 σ x1 x2 x3)) (σ : St) (x1 : Int32) (x2 : Int32) (x3 : Int32) : Sim X scM ad 4 outI 15 [(0, .ref (ad 0)), (1, .int x1), (2, .int x2), (3, .int x3)] [] σ (m_wordOf_15_b N rec4 rec15 σ x1 x2 x3) := by
  unfold m_wordOf_15_b
  refine g_ldcS (i := 9) C rfl dX11_wordOf_15 ?_
  refine g_iload_n C 2 dX11_wordOf_17 rfl rfl ?_
  refine g_iload_n C 3 dX11_wordOf_18 rfl rfl ?_
  refine g_iadd C dX11_wordOf_19 ?_
  refine g_schr C (i := 9) (by decide) ⟨gw_1333, gw_572, gw_573, gw_119, gw_574⟩ ⟨by decide, by decide⟩ (Nat.le_of_ble_eq_true rfl) dX11_wordOf_20 ?_
  refine g_bipush C 32 dX11_wordOf_23 (by decide) ?_
  refine g_icmp_eq C 69 dX11_wordOf_25 (by decide) ?_ ?_
  · exact g_sub [0, 1, 2, 3] rfl (s_m_wordOf_69 C N hrec4 σ x1 x2 x3)
  · refine g_aload_n C 0 dX11_wordOf_28 rfl rfl ?_
    refine mg5 C (v := gI σ 5) dX11_wordOf_29 rfl ?_
    refine g_iload_n C 3 dX11_wordOf_32 rfl rfl ?_
    refine g_iadd C dX11_wordOf_33 ?_
    refine g_aload_n C 0 dX11_wordOf_34 rfl rfl ?_
    refine mg4 C (v := gI σ 4) dX11_wordOf_35 rfl ?_
    refine g_icmp_ge C 69 dX11_wordOf_38 (by decide) ?_ ?_
    · exact g_sub [0, 1, 2, 3] rfl (s_m_wordOf_69 C N hrec4 σ x1 x2 x3)
    · refine g_aload_n C 0 dX11_wordOf_41 rfl rfl ?_
      refine mg1 C dX11_wordOf_42 ?_
      refine g_aload_n C 0 dX11_wordOf_45 rfl rfl ?_
      refine mg5 C (v := gI σ 5) dX11_wordOf_46 rfl ?_
      refine g_iload_n C 3 dX11_wordOf_49 rfl rfl ?_
      refine g_iadd C dX11_wordOf_50 ?_
      refine mr1 C (v := gA σ 1 (((gI σ 5) + x3).toNatClampNeg)) dX11_wordOf_51 rfl ?_
      refine g_ldcS (i := 9) C rfl dX11_wordOf_52 ?_
      refine g_iload_n C 2 dX11_wordOf_54 rfl rfl ?_
      refine g_iload_n C 3 dX11_wordOf_55 rfl rfl ?_
      refine g_iadd C dX11_wordOf_56 ?_
      refine g_schr C (i := 9) (by decide) ⟨gw_1333, gw_572, gw_573, gw_119, gw_574⟩ ⟨by decide, by decide⟩ (Nat.le_of_ble_eq_true rfl) dX11_wordOf_57 ?_
      refine g_icmp_ne C 69 dX11_wordOf_60 (by decide) ?_ ?_
      · exact g_sub [0, 1, 2, 3] rfl (s_m_wordOf_69 C N hrec4 σ x1 x2 x3)
      · refine g_iinc C (x3 + 1) 3 [(3, .int (x3 + 1)), (0, .ref (ad 0)), (1, .int x1), (2, .int x2)] dX11_wordOf_63 rfl rfl (by decide) rfl ?_
        refine g_goto C 15 dX11_wordOf_66 (by decide) ?_
        exact g_sub [1, 2, 3, 0] rfl (hrec15 σ x1 x2 (x3 + 1))
set_option maxHeartbeats 4000000 in
set_option maxRecDepth 100000 in
theorem s_m_wordOf_15 {X : Cx} {ad : Nat → Nat} (C : Ok X cX11_wordOf RX11 4 (some .int) 4 85) (N : Nat) {rec4 : St → Int32 → Int32 → Option (Int32 × St)} (hrec4 : ∀ (σ : St) (x1 : Int32) (x2 : Int32), Sim X scM ad 4 outI 4 [(0, .ref (ad 0)), (1, .int x1), (2, .int x2)] [] σ (rec4 σ x1 x2)) : ∀ (n : Nat) (σ : St) (x1 : Int32) (x2 : Int32) (x3 : Int32), Sim X scM ad 4 outI 15 [(0, .ref (ad 0)), (1, .int x1), (2, .int x2), (3, .int x3)] [] σ (m_wordOf_15 N rec4 n σ x1 x2 x3) := by
  intro n
  induction n with
  | zero => intro σ x1 x2 x3; exact g_none
  | succ n ih => intro σ x1 x2 x3; exact s_m_wordOf_15_b C N hrec4 ih σ x1 x2 x3
set_option maxHeartbeats 4000000 in
set_option maxRecDepth 100000 in
theorem s_m_wordOf_4_b {X : Cx} {ad : Nat → Nat} (C : Ok X cX11_wordOf RX11 4 (some .int) 4 85) (N : Nat) {rec4 : St → Int32 → Int32 → Option (Int32 × St)} (hrec4 : ∀ (σ : St) (x1 : Int32) (x2 : Int32), Sim X scM ad 4 outI 4 [(0, .ref (ad 0)), (1, .int x1), (2, .int x2)] [] σ (rec4 σ x1 x2)) (σ : St) (x1 : Int32) (x2 : Int32) : Sim X scM ad 4 outI 4 [(0, .ref (ad 0)), (1, .int x1), (2, .int x2)] [] σ (m_wordOf_4_b N rec4 σ x1 x2) := by
  unfold m_wordOf_4_b
  refine g_iload_n C 2 dX11_wordOf_4 rfl rfl ?_
  refine g_ldcS (i := 9) C rfl dX11_wordOf_5 ?_
  refine g_slen C (i := 9) 44 (by decide) (by decide) ⟨gw_1332, gw_562, gw_563, gw_119, gw_564⟩ ⟨by decide, by decide⟩ (Nat.le_of_ble_eq_true rfl) dX11_wordOf_7 ?_
  refine g_icmp_ge C 123 dX11_wordOf_10 (by decide) ?_ ?_
  · refine g_iconst C (-1) dX11_wordOf_123 (by decide) ?_
    exact g_iret C dX11_wordOf_124
  · refine g_iconst C 0 dX11_wordOf_13 (by decide) ?_
    refine g_istore_n C [(3, .int 0), (0, .ref (ad 0)), (1, .int x1), (2, .int x2)] dX11_wordOf_14 rfl (by decide) rfl ?_
    exact g_sub [1, 2, 3, 0] rfl (s_m_wordOf_15 C N hrec4 N σ x1 x2 0)
set_option maxHeartbeats 4000000 in
set_option maxRecDepth 100000 in
theorem s_m_wordOf_4 {X : Cx} {ad : Nat → Nat} (C : Ok X cX11_wordOf RX11 4 (some .int) 4 85) (N : Nat) : ∀ (n : Nat) (σ : St) (x1 : Int32) (x2 : Int32), Sim X scM ad 4 outI 4 [(0, .ref (ad 0)), (1, .int x1), (2, .int x2)] [] σ (m_wordOf_4 N n σ x1 x2) := by
  intro n
  induction n with
  | zero => intro σ x1 x2; exact g_none
  | succ n ih => intro σ x1 x2; exact s_m_wordOf_4_b C N ih σ x1 x2
set_option maxHeartbeats 4000000 in
set_option maxRecDepth 100000 in
theorem s_m_wordOf {X : Cx} {ad : Nat → Nat} (C : Ok X cX11_wordOf RX11 4 (some .int) 4 85) (N : Nat) (σ : St) : Sim X scM ad 4 outI 0 [(0, .ref (ad 0))] [] σ (m_wordOf N σ) := by
  unfold m_wordOf
  refine g_iconst C 0 dX11_wordOf_0 (by decide) ?_
  refine g_istore_n C [(1, .int 0), (0, .ref (ad 0))] dX11_wordOf_1 rfl (by decide) rfl ?_
  refine g_iconst C 0 dX11_wordOf_2 (by decide) ?_
  refine g_istore_n C [(2, .int 0), (1, .int 0), (0, .ref (ad 0))] dX11_wordOf_3 rfl (by decide) rfl ?_
  exact g_sub [2, 1, 0] rfl (s_m_wordOf_4 C N N σ 0 0)
theorem c_m_wordOf {Y : Yx} {ad : Nat → Nat} {N : Nat} {σ : St} {r : Int32} {σ' : St} (h : m_wordOf N σ = some (r, σ')) : Con Y scM ad yX11_wordOf cX11_wordOf 4 (some .int) 4 85 [.ref (ad 0)] σ (outI r) σ' := con_of (by decide) rfl (Nat.le_of_ble_eq_true rfl) rfl (fun X hX C => s_m_wordOf C N σ) h
set_option maxRecDepth 20000 in
theorem v_m_wordOf {X : Cx} {cc : ByteArray} {nL : Nat} {ret : Option FieldType} {fr lo : Nat} {ad : Nat → Nat} {ρ : Type} {out : ρ → Option Value} {pc : Nat} {lv : List (Nat × Value)} {rest : List Value} {σ : St} {N : Nat} {K : Int32 → St → Option (ρ × St)} (C : Ok X cc RX11 nL ret fr lo) (hR : 4 + 1 ≤ fr ∧ 8 + (4 + 11) + 85 ≤ lo) (hcat : (rest.map fun v => v.category).sum ≤ 8) (hdg : decode cc pc = .ok (.invokevirtual 147, 3)) (k : ∀ (r : Int32) (σ' : St), m_wordOf N σ = some (r, σ') → Sim X scM ad nL out (pc + 3) lv (.int r :: rest) σ' (K r σ')) : Sim X scM ad nL out pc lv (.ref (ad 0) :: rest) σ (bd (m_wordOf N σ) K) := g_callV C (out1 := outI) (y := yX11_wordOf) (n := 0) ⟨gw_1327, gw_1329, gw_64, gw_117, gw_1330⟩ (by decide +kernel) hR (o := 0) (ci := 10) (q9 := (RX11, TX11, 68)) imM0 rfl rfl rfl (fun r σ' h => c_m_wordOf h) rfl rfl hcat hdg k

def m_next_18 (N : Nat) (rec0 : St → Option (Unit × St)) (σ : St) : Option (Unit × St) :=
  rec0 (sI σ 4 ((gI σ 4) + 1))
def m_next_257 (N : Nat) (σ : St) (x2 : Int32) : Option (Unit × St) :=
  (if x2 = 0 then some ((), (sI σ 6 5)) else some ((), (sI σ 6 3)))
def m_next_239 (N : Nat) (σ : St) (x1 : Int32) (t0 : Int32) : Option (Unit × St) :=
  (if x1 < 65 then m_next_257 N σ t0 else (if 72 < x1 then m_next_257 N σ t0 else some ((), (sI σ 6 1))))
def m_next_234 (N : Nat) (σ : St) (x1 : Int32) : Option (Unit × St) :=
  m_next_239 N σ x1 1
def m_next_183 (N : Nat) (σ : St) (x1 : Int32) (t1 : Int32) : Option (Unit × St) :=
  (if x1 = 123 then m_next_234 N (sI σ 7 t1) x1 else (if x1 = 125 then m_next_234 N (sI σ 7 t1) x1 else (if x1 = 40 then m_next_234 N (sI σ 7 t1) x1 else (if x1 = 41 then m_next_234 N (sI σ 7 t1) x1 else (if x1 = 44 then m_next_234 N (sI σ 7 t1) x1 else (if x1 = 59 then m_next_234 N (sI σ 7 t1) x1 else (if x1 = 61 then m_next_234 N (sI σ 7 t1) x1 else (if x1 = 46 then m_next_234 N (sI σ 7 t1) x1 else m_next_239 N (sI σ 7 t1) x1 0))))))))
def m_next_182 (N : Nat) (σ : St) (x1 : Int32) : Option (Unit × St) :=
  m_next_183 N σ x1 x1
def m_next_146 (N : Nat) (σ : St) (t1 : Int32) : Option (Unit × St) :=
  some ((), (sI σ 6 t1))
def m_next_112 (N : Nat) (σ : St) (t1 : Int32) : Option (Unit × St) :=
  (if (gI σ 4) = ((gI σ 5) + 1) then m_next_146 N (sI σ 7 t1) 0 else (if t1 = (-1) then m_next_146 N (sI σ 7 t1) 5 else m_next_146 N (sI σ 7 t1) 2))
def m_next_87 (N : Nat) (σ : St) (x1 : Int32) : Option (Unit × St) :=
  (if (gI σ 4) = ((gI σ 5) + 1) then m_next_112 N σ (x1 - 97) else bd (m_wordOf N σ) (fun r13 σ14 => m_next_112 N σ14 r13))
def m_next_64_b (N : Nat) (rec64 : St → Int32 → Option (Unit × St)) (σ : St) (x1 : Int32) : Option (Unit × St) :=
  bd (m_here N σ) (fun r9 σ10 => bd (m_isSmall N σ10 r9) (fun r11 σ12 => (if r11 = 0 then m_next_87 N σ12 x1 else rec64 (sI σ12 4 ((gI σ12 4) + 1)) x1)))
def m_next_64 (N : Nat) : Nat → St → Int32 → Option (Unit × St)
  | 0 => fun _ _ => none
  | n + 1 => fun σ x1 => m_next_64_b N (m_next_64 N n) σ x1
def m_next_31 (N : Nat) (σ : St) : Option (Unit × St) :=
  bd (m_here N (sI σ 5 (gI σ 4))) (fun r5 σ6 => (if r5 = (-1) then some ((), (sI σ6 6 4)) else bd (m_isSmall N σ6 r5) (fun r7 σ8 => (if r7 = 0 then (if r5 < 65 then m_next_182 N (sI σ8 4 ((gI σ8 4) + 1)) r5 else (if 72 < r5 then m_next_182 N (sI σ8 4 ((gI σ8 4) + 1)) r5 else m_next_183 N (sI σ8 4 ((gI σ8 4) + 1)) r5 (r5 - 65))) else m_next_64 N N σ8 r5))))
def m_next_0_b (N : Nat) (rec0 : St → Option (Unit × St)) (σ : St) : Option (Unit × St) :=
  bd (m_here N σ) (fun r1 σ2 => (if r1 = 10 then m_next_18 N rec0 σ2 else bd (m_here N σ2) (fun r3 σ4 => (if r3 = 32 then m_next_18 N rec0 σ4 else m_next_31 N σ4))))
def m_next_0 (N : Nat) : Nat → St → Option (Unit × St)
  | 0 => fun _ => none
  | n + 1 => fun σ => m_next_0_b N (m_next_0 N n) σ
def m_next (N : Nat) (σ : St) : Option (Unit × St) :=
  m_next_0 N N σ
set_option maxHeartbeats 4000000 in
set_option maxRecDepth 100000 in
theorem s_m_next_18 {X : Cx} {ad : Nat → Nat} (C : Ok X cX11_next RX11 3 none 5 108) (N : Nat) {rec0 : St → Option (Unit × St)} (hrec0 : ∀ (σ : St), Sim X scM ad 3 outV 0 [(0, .ref (ad 0))] [] σ (rec0 σ)) (σ : St) : Sim X scM ad 3 outV 18 [(0, .ref (ad 0))] [] σ (m_next_18 N rec0 σ) := by
  unfold m_next_18
  refine g_aload_n C 0 dX11_next_18 rfl rfl ?_
  refine g_dup C dX11_next_19 rfl ?_
  refine mg4 C (v := gI σ 4) dX11_next_20 rfl ?_
  refine g_iconst C 1 dX11_next_23 (by decide) ?_
  refine g_iadd C dX11_next_24 ?_
  refine mp4 C dX11_next_25 ?_
  refine g_goto C 0 dX11_next_28 (by decide) ?_
  exact g_sub [0] rfl (hrec0 (sI σ 4 ((gI σ 4) + 1)))
set_option maxHeartbeats 4000000 in
set_option maxRecDepth 100000 in
theorem s_m_next_257 {X : Cx} {ad : Nat → Nat} (C : Ok X cX11_next RX11 3 none 5 108) (N : Nat) (σ : St) (x2 : Int32) : Sim X scM ad 3 outV 257 [(2, .int x2)] [.ref (ad 0)] σ (m_next_257 N σ x2) := by
  unfold m_next_257
  refine g_iload_n C 0 dX11_next_257 rfl rfl ?_
  refine g_if_eq C 265 dX11_next_258 (by decide) ?_ ?_
  · refine g_iconst C 5 dX11_next_265 (by decide) ?_
    refine mp6 C dX11_next_266 ?_
    exact g_vret C dX11_next_269
  · refine g_iconst C 3 dX11_next_261 (by decide) ?_
    refine g_goto C 266 dX11_next_262 (by decide) ?_
    refine mp6 C dX11_next_266 ?_
    exact g_vret C dX11_next_269
set_option maxHeartbeats 4000000 in
set_option maxRecDepth 100000 in
theorem s_m_next_239 {X : Cx} {ad : Nat → Nat} (C : Ok X cX11_next RX11 3 none 5 108) (N : Nat) (σ : St) (x1 : Int32) (t0 : Int32) : Sim X scM ad 3 outV 239 [(0, .ref (ad 0)), (1, .int x1)] [.int t0] σ (m_next_239 N σ x1 t0) := by
  unfold m_next_239
  refine g_istore_n C [(2, .int t0), (0, .ref (ad 0)), (1, .int x1)] dX11_next_239 rfl (by decide) rfl ?_
  refine g_aload_n C 1 dX11_next_240 rfl rfl ?_
  refine g_iload_n C 2 dX11_next_241 rfl rfl ?_
  refine g_bipush C 65 dX11_next_242 (by decide) ?_
  refine g_icmp_lt C 257 dX11_next_244 (by decide) ?_ ?_
  · exact g_sub [0] rfl (s_m_next_257 C N σ t0)
  · refine g_iload_n C 2 dX11_next_247 rfl rfl ?_
    refine g_bipush C 72 dX11_next_248 (by decide) ?_
    refine g_icmp_gt C 257 dX11_next_250 (by decide) ?_ ?_
    · exact g_sub [0] rfl (s_m_next_257 C N σ t0)
    · refine g_iconst C 1 dX11_next_253 (by decide) ?_
      refine g_goto C 266 dX11_next_254 (by decide) ?_
      refine mp6 C dX11_next_266 ?_
      exact g_vret C dX11_next_269
set_option maxHeartbeats 4000000 in
set_option maxRecDepth 100000 in
theorem s_m_next_234 {X : Cx} {ad : Nat → Nat} (C : Ok X cX11_next RX11 3 none 5 108) (N : Nat) (σ : St) (x1 : Int32) : Sim X scM ad 3 outV 234 [(0, .ref (ad 0)), (1, .int x1)] [] σ (m_next_234 N σ x1) := by
  unfold m_next_234
  refine g_iconst C 1 dX11_next_234 (by decide) ?_
  refine g_goto C 239 dX11_next_235 (by decide) ?_
  exact g_sub [0, 1] rfl (s_m_next_239 C N σ x1 1)
set_option maxHeartbeats 4000000 in
set_option maxRecDepth 100000 in
theorem s_m_next_183 {X : Cx} {ad : Nat → Nat} (C : Ok X cX11_next RX11 3 none 5 108) (N : Nat) (σ : St) (x1 : Int32) (t1 : Int32) : Sim X scM ad 3 outV 183 [(0, .ref (ad 0)), (1, .int x1)] [.int t1, .ref (ad 0)] σ (m_next_183 N σ x1 t1) := by
  unfold m_next_183
  refine mp7 C dX11_next_183 ?_
  refine g_iload_n C 1 dX11_next_186 rfl rfl ?_
  refine g_bipush C 123 dX11_next_187 (by decide) ?_
  refine g_icmp_eq C 234 dX11_next_189 (by decide) ?_ ?_
  · exact g_sub [0, 1] rfl (s_m_next_234 C N (sI σ 7 t1) x1)
  · refine g_iload_n C 1 dX11_next_192 rfl rfl ?_
    refine g_bipush C 125 dX11_next_193 (by decide) ?_
    refine g_icmp_eq C 234 dX11_next_195 (by decide) ?_ ?_
    · exact g_sub [0, 1] rfl (s_m_next_234 C N (sI σ 7 t1) x1)
    · refine g_iload_n C 1 dX11_next_198 rfl rfl ?_
      refine g_bipush C 40 dX11_next_199 (by decide) ?_
      refine g_icmp_eq C 234 dX11_next_201 (by decide) ?_ ?_
      · exact g_sub [0, 1] rfl (s_m_next_234 C N (sI σ 7 t1) x1)
      · refine g_iload_n C 1 dX11_next_204 rfl rfl ?_
        refine g_bipush C 41 dX11_next_205 (by decide) ?_
        refine g_icmp_eq C 234 dX11_next_207 (by decide) ?_ ?_
        · exact g_sub [0, 1] rfl (s_m_next_234 C N (sI σ 7 t1) x1)
        · refine g_iload_n C 1 dX11_next_210 rfl rfl ?_
          refine g_bipush C 44 dX11_next_211 (by decide) ?_
          refine g_icmp_eq C 234 dX11_next_213 (by decide) ?_ ?_
          · exact g_sub [0, 1] rfl (s_m_next_234 C N (sI σ 7 t1) x1)
          · refine g_iload_n C 1 dX11_next_216 rfl rfl ?_
            refine g_bipush C 59 dX11_next_217 (by decide) ?_
            refine g_icmp_eq C 234 dX11_next_219 (by decide) ?_ ?_
            · exact g_sub [0, 1] rfl (s_m_next_234 C N (sI σ 7 t1) x1)
            · refine g_iload_n C 1 dX11_next_222 rfl rfl ?_
              refine g_bipush C 61 dX11_next_223 (by decide) ?_
              refine g_icmp_eq C 234 dX11_next_225 (by decide) ?_ ?_
              · exact g_sub [0, 1] rfl (s_m_next_234 C N (sI σ 7 t1) x1)
              · refine g_iload_n C 1 dX11_next_228 rfl rfl ?_
                refine g_bipush C 46 dX11_next_229 (by decide) ?_
                refine g_icmp_ne C 238 dX11_next_231 (by decide) ?_ ?_
                · refine g_iconst C 0 dX11_next_238 (by decide) ?_
                  exact g_sub [0, 1] rfl (s_m_next_239 C N (sI σ 7 t1) x1 0)
                · exact g_sub [0, 1] rfl (s_m_next_234 C N (sI σ 7 t1) x1)
set_option maxHeartbeats 4000000 in
set_option maxRecDepth 100000 in
theorem s_m_next_182 {X : Cx} {ad : Nat → Nat} (C : Ok X cX11_next RX11 3 none 5 108) (N : Nat) (σ : St) (x1 : Int32) : Sim X scM ad 3 outV 182 [(0, .ref (ad 0)), (1, .int x1)] [.ref (ad 0)] σ (m_next_182 N σ x1) := by
  unfold m_next_182
  refine g_iload_n C 1 dX11_next_182 rfl rfl ?_
  exact g_sub [0, 1] rfl (s_m_next_183 C N σ x1 x1)
set_option maxHeartbeats 4000000 in
set_option maxRecDepth 100000 in
theorem s_m_next_146 {X : Cx} {ad : Nat → Nat} (C : Ok X cX11_next RX11 3 none 5 108) (N : Nat) (σ : St) (t1 : Int32) : Sim X scM ad 3 outV 146 [] [.int t1, .ref (ad 0)] σ (m_next_146 N σ t1) := by
  unfold m_next_146
  refine mp6 C dX11_next_146 ?_
  refine g_goto C 269 dX11_next_149 (by decide) ?_
  exact g_vret C dX11_next_269
set_option maxHeartbeats 4000000 in
set_option maxRecDepth 100000 in
theorem s_m_next_112 {X : Cx} {ad : Nat → Nat} (C : Ok X cX11_next RX11 3 none 5 108) (N : Nat) (σ : St) (t1 : Int32) : Sim X scM ad 3 outV 112 [(0, .ref (ad 0))] [.int t1, .ref (ad 0)] σ (m_next_112 N σ t1) := by
  unfold m_next_112
  refine mp7 C dX11_next_112 ?_
  refine g_aload_n C 0 dX11_next_115 rfl rfl ?_
  refine g_aload_n C 0 dX11_next_116 rfl rfl ?_
  refine mg4 C (v := gI σ 4) dX11_next_117 rfl ?_
  refine g_aload_n C 0 dX11_next_120 rfl rfl ?_
  refine mg5 C (v := gI σ 5) dX11_next_121 rfl ?_
  refine g_iconst C 1 dX11_next_124 (by decide) ?_
  refine g_iadd C dX11_next_125 ?_
  refine g_icmp_ne C 133 dX11_next_126 (by decide) ?_ ?_
  · refine g_aload_n C 0 dX11_next_133 rfl rfl ?_
    refine mg7 C (v := t1) dX11_next_134 rfl ?_
    refine g_iconst C (-1) dX11_next_137 (by decide) ?_
    refine g_icmp_ne C 145 dX11_next_138 (by decide) ?_ ?_
    · refine g_iconst C 2 dX11_next_145 (by decide) ?_
      exact g_sub [] rfl (s_m_next_146 C N (sI σ 7 t1) 2)
    · refine g_iconst C 5 dX11_next_141 (by decide) ?_
      refine g_goto C 146 dX11_next_142 (by decide) ?_
      exact g_sub [] rfl (s_m_next_146 C N (sI σ 7 t1) 5)
  · refine g_iconst C 0 dX11_next_129 (by decide) ?_
    refine g_goto C 146 dX11_next_130 (by decide) ?_
    exact g_sub [] rfl (s_m_next_146 C N (sI σ 7 t1) 0)
set_option maxHeartbeats 4000000 in
set_option maxRecDepth 100000 in
theorem s_m_next_87 {X : Cx} {ad : Nat → Nat} (C : Ok X cX11_next RX11 3 none 5 108) (N : Nat) (σ : St) (x1 : Int32) : Sim X scM ad 3 outV 87 [(0, .ref (ad 0)), (1, .int x1)] [] σ (m_next_87 N σ x1) := by
  unfold m_next_87
  refine g_aload_n C 0 dX11_next_87 rfl rfl ?_
  refine g_aload_n C 0 dX11_next_88 rfl rfl ?_
  refine mg4 C (v := gI σ 4) dX11_next_89 rfl ?_
  refine g_aload_n C 0 dX11_next_92 rfl rfl ?_
  refine mg5 C (v := gI σ 5) dX11_next_93 rfl ?_
  refine g_iconst C 1 dX11_next_96 (by decide) ?_
  refine g_iadd C dX11_next_97 ?_
  refine g_icmp_ne C 108 dX11_next_98 (by decide) ?_ ?_
  · refine g_aload_n C 0 dX11_next_108 rfl rfl ?_
    refine v_m_wordOf C ⟨by decide, by decide⟩ (Nat.le_of_ble_eq_true rfl) dX11_next_109 (fun r13 σ14 _ => ?_)
    exact g_sub [0] rfl (s_m_next_112 C N σ14 r13)
  · refine g_iload_n C 1 dX11_next_101 rfl rfl ?_
    refine g_bipush C 97 dX11_next_102 (by decide) ?_
    refine g_isub C dX11_next_104 ?_
    refine g_goto C 112 dX11_next_105 (by decide) ?_
    exact g_sub [0] rfl (s_m_next_112 C N σ (x1 - 97))
set_option maxHeartbeats 4000000 in
set_option maxRecDepth 100000 in
theorem s_m_next_64_b {X : Cx} {ad : Nat → Nat} (C : Ok X cX11_next RX11 3 none 5 108) (N : Nat) {rec64 : St → Int32 → Option (Unit × St)} (hrec64 : ∀ (σ : St) (x1 : Int32), Sim X scM ad 3 outV 64 [(0, .ref (ad 0)), (1, .int x1)] [] σ (rec64 σ x1)) (σ : St) (x1 : Int32) : Sim X scM ad 3 outV 64 [(0, .ref (ad 0)), (1, .int x1)] [] σ (m_next_64_b N rec64 σ x1) := by
  unfold m_next_64_b
  refine g_aload_n C 0 dX11_next_64 rfl rfl ?_
  refine v_m_here C ⟨by decide, by decide⟩ (Nat.le_of_ble_eq_true rfl) dX11_next_65 (fun r9 σ10 _ => ?_)
  refine v_m_isSmall C ⟨by decide, by decide⟩ (Nat.le_of_ble_eq_true rfl) dX11_next_68 (fun r11 σ12 _ => ?_)
  refine g_if_eq C 87 dX11_next_71 (by decide) ?_ ?_
  · exact g_sub [0, 1] rfl (s_m_next_87 C N σ12 x1)
  · refine g_aload_n C 0 dX11_next_74 rfl rfl ?_
    refine g_dup C dX11_next_75 rfl ?_
    refine mg4 C (v := gI σ12 4) dX11_next_76 rfl ?_
    refine g_iconst C 1 dX11_next_79 (by decide) ?_
    refine g_iadd C dX11_next_80 ?_
    refine mp4 C dX11_next_81 ?_
    refine g_goto C 64 dX11_next_84 (by decide) ?_
    exact g_sub [0, 1] rfl (hrec64 (sI σ12 4 ((gI σ12 4) + 1)) x1)
set_option maxHeartbeats 4000000 in
set_option maxRecDepth 100000 in
theorem s_m_next_64 {X : Cx} {ad : Nat → Nat} (C : Ok X cX11_next RX11 3 none 5 108) (N : Nat) : ∀ (n : Nat) (σ : St) (x1 : Int32), Sim X scM ad 3 outV 64 [(0, .ref (ad 0)), (1, .int x1)] [] σ (m_next_64 N n σ x1) := by
  intro n
  induction n with
  | zero => intro σ x1; exact g_none
  | succ n ih => intro σ x1; exact s_m_next_64_b C N ih σ x1
set_option maxHeartbeats 4000000 in
set_option maxRecDepth 100000 in
theorem s_m_next_31 {X : Cx} {ad : Nat → Nat} (C : Ok X cX11_next RX11 3 none 5 108) (N : Nat) (σ : St) : Sim X scM ad 3 outV 31 [(0, .ref (ad 0))] [] σ (m_next_31 N σ) := by
  unfold m_next_31
  refine g_aload_n C 0 dX11_next_31 rfl rfl ?_
  refine g_aload_n C 0 dX11_next_32 rfl rfl ?_
  refine mg4 C (v := gI σ 4) dX11_next_33 rfl ?_
  refine mp5 C dX11_next_36 ?_
  refine g_aload_n C 0 dX11_next_39 rfl rfl ?_
  refine v_m_here C ⟨by decide, by decide⟩ (Nat.le_of_ble_eq_true rfl) dX11_next_40 (fun r5 σ6 _ => ?_)
  refine g_istore_n C [(1, .int r5), (0, .ref (ad 0))] dX11_next_43 rfl (by decide) rfl ?_
  refine g_iload_n C 0 dX11_next_44 rfl rfl ?_
  refine g_iconst C (-1) dX11_next_45 (by decide) ?_
  refine g_icmp_ne C 57 dX11_next_46 (by decide) ?_ ?_
  · refine g_iload_n C 0 dX11_next_57 rfl rfl ?_
    refine v_m_isSmall C ⟨by decide, by decide⟩ (Nat.le_of_ble_eq_true rfl) dX11_next_58 (fun r7 σ8 _ => ?_)
    refine g_if_eq C 152 dX11_next_61 (by decide) ?_ ?_
    · refine g_aload_n C 1 dX11_next_152 rfl rfl ?_
      refine g_dup C dX11_next_153 rfl ?_
      refine mg4 C (v := gI σ8 4) dX11_next_154 rfl ?_
      refine g_iconst C 1 dX11_next_157 (by decide) ?_
      refine g_iadd C dX11_next_158 ?_
      refine mp4 C dX11_next_159 ?_
      refine g_aload_n C 1 dX11_next_162 rfl rfl ?_
      refine g_iload_n C 0 dX11_next_163 rfl rfl ?_
      refine g_bipush C 65 dX11_next_164 (by decide) ?_
      refine g_icmp_lt C 182 dX11_next_166 (by decide) ?_ ?_
      · exact g_sub [1, 0] rfl (s_m_next_182 C N (sI σ8 4 ((gI σ8 4) + 1)) r5)
      · refine g_iload_n C 0 dX11_next_169 rfl rfl ?_
        refine g_bipush C 72 dX11_next_170 (by decide) ?_
        refine g_icmp_gt C 182 dX11_next_172 (by decide) ?_ ?_
        · exact g_sub [1, 0] rfl (s_m_next_182 C N (sI σ8 4 ((gI σ8 4) + 1)) r5)
        · refine g_iload_n C 0 dX11_next_175 rfl rfl ?_
          refine g_bipush C 65 dX11_next_176 (by decide) ?_
          refine g_isub C dX11_next_178 ?_
          refine g_goto C 183 dX11_next_179 (by decide) ?_
          exact g_sub [1, 0] rfl (s_m_next_183 C N (sI σ8 4 ((gI σ8 4) + 1)) r5 (r5 - 65))
    · exact g_sub [1, 0] rfl (s_m_next_64 C N N σ8 r5)
  · refine g_aload_n C 1 dX11_next_49 rfl rfl ?_
    refine g_iconst C 4 dX11_next_50 (by decide) ?_
    refine mp6 C dX11_next_51 ?_
    refine g_goto C 269 dX11_next_54 (by decide) ?_
    exact g_vret C dX11_next_269
set_option maxHeartbeats 4000000 in
set_option maxRecDepth 100000 in
theorem s_m_next_0_b {X : Cx} {ad : Nat → Nat} (C : Ok X cX11_next RX11 3 none 5 108) (N : Nat) {rec0 : St → Option (Unit × St)} (hrec0 : ∀ (σ : St), Sim X scM ad 3 outV 0 [(0, .ref (ad 0))] [] σ (rec0 σ)) (σ : St) : Sim X scM ad 3 outV 0 [(0, .ref (ad 0))] [] σ (m_next_0_b N rec0 σ) := by
  unfold m_next_0_b
  refine g_aload_n C 0 dX11_next_0 rfl rfl ?_
  refine v_m_here C ⟨by decide, by decide⟩ (Nat.le_of_ble_eq_true rfl) dX11_next_1 (fun r1 σ2 _ => ?_)
  refine g_bipush C 10 dX11_next_4 (by decide) ?_
  refine g_icmp_eq C 18 dX11_next_6 (by decide) ?_ ?_
  · exact g_sub [0] rfl (s_m_next_18 C N hrec0 σ2)
  · refine g_aload_n C 0 dX11_next_9 rfl rfl ?_
    refine v_m_here C ⟨by decide, by decide⟩ (Nat.le_of_ble_eq_true rfl) dX11_next_10 (fun r3 σ4 _ => ?_)
    refine g_bipush C 32 dX11_next_13 (by decide) ?_
    refine g_icmp_ne C 31 dX11_next_15 (by decide) ?_ ?_
    · exact g_sub [0] rfl (s_m_next_31 C N σ4)
    · exact g_sub [0] rfl (s_m_next_18 C N hrec0 σ4)
set_option maxHeartbeats 4000000 in
set_option maxRecDepth 100000 in
theorem s_m_next_0 {X : Cx} {ad : Nat → Nat} (C : Ok X cX11_next RX11 3 none 5 108) (N : Nat) : ∀ (n : Nat) (σ : St), Sim X scM ad 3 outV 0 [(0, .ref (ad 0))] [] σ (m_next_0 N n σ) := by
  intro n
  induction n with
  | zero => intro σ; exact g_none
  | succ n ih => intro σ; exact s_m_next_0_b C N ih σ
set_option maxHeartbeats 4000000 in
set_option maxRecDepth 100000 in
theorem s_m_next {X : Cx} {ad : Nat → Nat} (C : Ok X cX11_next RX11 3 none 5 108) (N : Nat) (σ : St) : Sim X scM ad 3 outV 0 [(0, .ref (ad 0))] [] σ (m_next N σ) := by
  unfold m_next
  exact g_sub [0] rfl (s_m_next_0 C N N σ)
theorem c_m_next {Y : Yx} {ad : Nat → Nat} {N : Nat} {σ : St} {r : Unit} {σ' : St} (h : m_next N σ = some (r, σ')) : Con Y scM ad yX11_next cX11_next 3 none 5 108 [.ref (ad 0)] σ (outV r) σ' := con_of (by decide) rfl (Nat.le_of_ble_eq_true rfl) rfl (fun X hX C => s_m_next C N σ) h
set_option maxRecDepth 20000 in
theorem v_m_next {X : Cx} {cc : ByteArray} {nL : Nat} {ret : Option FieldType} {fr lo : Nat} {ad : Nat → Nat} {ρ : Type} {out : ρ → Option Value} {pc : Nat} {lv : List (Nat × Value)} {rest : List Value} {σ : St} {N : Nat} {K : Unit → St → Option (ρ × St)} (C : Ok X cc RX11 nL ret fr lo) (hR : 5 + 1 ≤ fr ∧ 8 + (3 + 11) + 108 ≤ lo) (hcat : (rest.map fun v => v.category).sum ≤ 8) (hdg : decode cc pc = .ok (.invokevirtual 173, 3)) (k : ∀ (r : Unit) (σ' : St), m_next N σ = some (r, σ') → Sim X scM ad nL out (pc + 3) lv rest σ' (K r σ')) : Sim X scM ad nL out pc lv (.ref (ad 0) :: rest) σ (bd (m_next N σ) K) := g_callV C (out1 := outV) (y := yX11_next) (n := 0) ⟨gw_1316, gw_1318, gw_62, gw_117, gw_1319⟩ (by decide +kernel) hR (o := 0) (ci := 10) (q9 := (RX11, TX11, 68)) imM0 rfl rfl rfl (fun r σ' h => c_m_next h) rfl rfl hcat hdg k

def m_wrong (N : Nat) (σ : St) (a1 : Int32) (a2 : Int32) : Option (Unit × St) :=
  (if (gI σ 8) = 0 then some ((), (sI (sI σ 8 a1) 9 a2)) else some ((), σ))
set_option maxHeartbeats 4000000 in
set_option maxRecDepth 100000 in
theorem s_m_wrong {X : Cx} {ad : Nat → Nat} (C : Ok X cX11_wrong RX11 3 none 0 0) (N : Nat) (σ : St) (a1 : Int32) (a2 : Int32) : Sim X scM ad 3 outV 0 [(0, .ref (ad 0)), (1, .int a1), (2, .int a2)] [] σ (m_wrong N σ a1 a2) := by
  unfold m_wrong
  refine g_aload_n C 0 dX11_wrong_0 rfl rfl ?_
  refine mg8 C (v := gI σ 8) dX11_wrong_1 rfl ?_
  refine g_if_eq C 8 dX11_wrong_4 (by decide) ?_ ?_
  · refine g_aload_n C 0 dX11_wrong_8 rfl rfl ?_
    refine g_iload_n C 1 dX11_wrong_9 rfl rfl ?_
    refine mp8 C dX11_wrong_10 ?_
    refine g_aload_n C 0 dX11_wrong_13 rfl rfl ?_
    refine g_iload_n C 2 dX11_wrong_14 rfl rfl ?_
    refine mp9 C dX11_wrong_15 ?_
    exact g_vret C dX11_wrong_18
  · exact g_vret C dX11_wrong_7
theorem c_m_wrong {Y : Yx} {ad : Nat → Nat} {N : Nat} {σ : St} {a1 : Int32} {a2 : Int32} {r : Unit} {σ' : St} (h : m_wrong N σ a1 a2 = some (r, σ')) : Con Y scM ad yX11_wrong cX11_wrong 3 none 0 0 [.ref (ad 0), .int a1, .int a2] σ (outV r) σ' := con_of (by decide) rfl (Nat.le_of_ble_eq_true rfl) rfl (fun X hX C => s_m_wrong C N σ a1 a2) h
set_option maxRecDepth 20000 in
theorem v_m_wrong {X : Cx} {cc : ByteArray} {nL : Nat} {ret : Option FieldType} {fr lo : Nat} {ad : Nat → Nat} {ρ : Type} {out : ρ → Option Value} {pc : Nat} {lv : List (Nat × Value)} {rest : List Value} {σ : St} {N : Nat} {K : Unit → St → Option (ρ × St)} {a1 : Int32} {a2 : Int32} (C : Ok X cc RX11 nL ret fr lo) (hR : 0 + 1 ≤ fr ∧ 8 + (3 + 11) + 0 ≤ lo) (hcat : (rest.map fun v => v.category).sum ≤ 8) (hdg : decode cc pc = .ok (.invokevirtual 179, 3)) (k : ∀ (r : Unit) (σ' : St), m_wrong N σ a1 a2 = some (r, σ') → Sim X scM ad nL out (pc + 3) lv rest σ' (K r σ')) : Sim X scM ad nL out pc lv (.int a2 :: .int a1 :: .ref (ad 0) :: rest) σ (bd (m_wrong N σ a1 a2) K) := g_callV C (out1 := outV) (y := yX11_wrong) (n := 2) ⟨gw_1342, gw_1344, gw_67, gw_117, gw_1345⟩ (by decide +kernel) hR (o := 0) (ci := 10) (q9 := (RX11, TX11, 68)) imM0 rfl rfl rfl (fun r σ' h => c_m_wrong h) rfl rfl hcat hdg k

def m_isSign (N : Nat) (σ : St) (a1 : Int32) : Option (Int32 × St) :=
  (if (gI σ 8) = 0 then (if (gI σ 6) = 3 then (if (gI σ 7) = a1 then some (1, σ) else some (0, σ)) else some (0, σ)) else some (0, σ))
set_option maxHeartbeats 4000000 in
set_option maxRecDepth 100000 in
theorem s_m_isSign {X : Cx} {ad : Nat → Nat} (C : Ok X cX11_isSign RX11 2 (some .boolean) 0 0) (N : Nat) (σ : St) (a1 : Int32) : Sim X scM ad 2 outI 0 [(0, .ref (ad 0)), (1, .int a1)] [] σ (m_isSign N σ a1) := by
  unfold m_isSign
  refine g_aload_n C 0 dX11_isSign_0 rfl rfl ?_
  refine mg8 C (v := gI σ 8) dX11_isSign_1 rfl ?_
  refine g_if_ne C 27 dX11_isSign_4 (by decide) ?_ ?_
  · refine g_iconst C 0 dX11_isSign_27 (by decide) ?_
    exact g_zret C rfl dX11_isSign_28
  · refine g_aload_n C 0 dX11_isSign_7 rfl rfl ?_
    refine mg6 C (v := gI σ 6) dX11_isSign_8 rfl ?_
    refine g_iconst C 3 dX11_isSign_11 (by decide) ?_
    refine g_icmp_ne C 27 dX11_isSign_12 (by decide) ?_ ?_
    · refine g_iconst C 0 dX11_isSign_27 (by decide) ?_
      exact g_zret C rfl dX11_isSign_28
    · refine g_aload_n C 0 dX11_isSign_15 rfl rfl ?_
      refine mg7 C (v := gI σ 7) dX11_isSign_16 rfl ?_
      refine g_iload_n C 1 dX11_isSign_19 rfl rfl ?_
      refine g_icmp_ne C 27 dX11_isSign_20 (by decide) ?_ ?_
      · refine g_iconst C 0 dX11_isSign_27 (by decide) ?_
        exact g_zret C rfl dX11_isSign_28
      · refine g_iconst C 1 dX11_isSign_23 (by decide) ?_
        refine g_goto C 28 dX11_isSign_24 (by decide) ?_
        exact g_zret C rfl dX11_isSign_28
theorem c_m_isSign {Y : Yx} {ad : Nat → Nat} {N : Nat} {σ : St} {a1 : Int32} {r : Int32} {σ' : St} (h : m_isSign N σ a1 = some (r, σ')) : Con Y scM ad yX11_isSign cX11_isSign 2 (some .boolean) 0 0 [.ref (ad 0), .int a1] σ (outI r) σ' := con_of (by decide) rfl (Nat.le_of_ble_eq_true rfl) rfl (fun X hX C => s_m_isSign C N σ a1) h
set_option maxRecDepth 20000 in
theorem v_m_isSign {X : Cx} {cc : ByteArray} {nL : Nat} {ret : Option FieldType} {fr lo : Nat} {ad : Nat → Nat} {ρ : Type} {out : ρ → Option Value} {pc : Nat} {lv : List (Nat × Value)} {rest : List Value} {σ : St} {N : Nat} {K : Int32 → St → Option (ρ × St)} {a1 : Int32} (C : Ok X cc RX11 nL ret fr lo) (hR : 0 + 1 ≤ fr ∧ 8 + (2 + 11) + 0 ≤ lo) (hcat : (rest.map fun v => v.category).sum ≤ 8) (hdg : decode cc pc = .ok (.invokevirtual 170, 3)) (k : ∀ (r : Int32) (σ' : St), m_isSign N σ a1 = some (r, σ') → Sim X scM ad nL out (pc + 3) lv (.int r :: rest) σ' (K r σ')) : Sim X scM ad nL out pc lv (.int a1 :: .ref (ad 0) :: rest) σ (bd (m_isSign N σ a1) K) := g_callV C (out1 := outI) (y := yX11_isSign) (n := 1) ⟨gw_1354, gw_1356, gw_70, gw_117, gw_1357⟩ (by decide +kernel) hR (o := 0) (ci := 10) (q9 := (RX11, TX11, 68)) imM0 rfl rfl rfl (fun r σ' h => c_m_isSign h) rfl rfl hcat hdg k

def m_isWord (N : Nat) (σ : St) (a1 : Int32) : Option (Int32 × St) :=
  (if (gI σ 8) = 0 then (if (gI σ 6) = 2 then (if (gI σ 7) = a1 then some (1, σ) else some (0, σ)) else some (0, σ)) else some (0, σ))
set_option maxHeartbeats 4000000 in
set_option maxRecDepth 100000 in
theorem s_m_isWord {X : Cx} {ad : Nat → Nat} (C : Ok X cX11_isWord RX11 2 (some .boolean) 0 0) (N : Nat) (σ : St) (a1 : Int32) : Sim X scM ad 2 outI 0 [(0, .ref (ad 0)), (1, .int a1)] [] σ (m_isWord N σ a1) := by
  unfold m_isWord
  refine g_aload_n C 0 dX11_isWord_0 rfl rfl ?_
  refine mg8 C (v := gI σ 8) dX11_isWord_1 rfl ?_
  refine g_if_ne C 27 dX11_isWord_4 (by decide) ?_ ?_
  · refine g_iconst C 0 dX11_isWord_27 (by decide) ?_
    exact g_zret C rfl dX11_isWord_28
  · refine g_aload_n C 0 dX11_isWord_7 rfl rfl ?_
    refine mg6 C (v := gI σ 6) dX11_isWord_8 rfl ?_
    refine g_iconst C 2 dX11_isWord_11 (by decide) ?_
    refine g_icmp_ne C 27 dX11_isWord_12 (by decide) ?_ ?_
    · refine g_iconst C 0 dX11_isWord_27 (by decide) ?_
      exact g_zret C rfl dX11_isWord_28
    · refine g_aload_n C 0 dX11_isWord_15 rfl rfl ?_
      refine mg7 C (v := gI σ 7) dX11_isWord_16 rfl ?_
      refine g_iload_n C 1 dX11_isWord_19 rfl rfl ?_
      refine g_icmp_ne C 27 dX11_isWord_20 (by decide) ?_ ?_
      · refine g_iconst C 0 dX11_isWord_27 (by decide) ?_
        exact g_zret C rfl dX11_isWord_28
      · refine g_iconst C 1 dX11_isWord_23 (by decide) ?_
        refine g_goto C 28 dX11_isWord_24 (by decide) ?_
        exact g_zret C rfl dX11_isWord_28
theorem c_m_isWord {Y : Yx} {ad : Nat → Nat} {N : Nat} {σ : St} {a1 : Int32} {r : Int32} {σ' : St} (h : m_isWord N σ a1 = some (r, σ')) : Con Y scM ad yX11_isWord cX11_isWord 2 (some .boolean) 0 0 [.ref (ad 0), .int a1] σ (outI r) σ' := con_of (by decide) rfl (Nat.le_of_ble_eq_true rfl) rfl (fun X hX C => s_m_isWord C N σ a1) h
set_option maxRecDepth 20000 in
theorem v_m_isWord {X : Cx} {cc : ByteArray} {nL : Nat} {ret : Option FieldType} {fr lo : Nat} {ad : Nat → Nat} {ρ : Type} {out : ρ → Option Value} {pc : Nat} {lv : List (Nat × Value)} {rest : List Value} {σ : St} {N : Nat} {K : Int32 → St → Option (ρ × St)} {a1 : Int32} (C : Ok X cc RX11 nL ret fr lo) (hR : 0 + 1 ≤ fr ∧ 8 + (2 + 11) + 0 ≤ lo) (hcat : (rest.map fun v => v.category).sum ≤ 8) (hdg : decode cc pc = .ok (.invokevirtual 220, 3)) (k : ∀ (r : Int32) (σ' : St), m_isWord N σ a1 = some (r, σ') → Sim X scM ad nL out (pc + 3) lv (.int r :: rest) σ' (K r σ')) : Sim X scM ad nL out pc lv (.int a1 :: .ref (ad 0) :: rest) σ (bd (m_isWord N σ a1) K) := g_callV C (out1 := outI) (y := yX11_isWord) (n := 1) ⟨gw_1370, gw_1372, gw_74, gw_117, gw_1373⟩ (by decide +kernel) hR (o := 0) (ci := 10) (q9 := (RX11, TX11, 68)) imM0 rfl rfl rfl (fun r σ' h => c_m_isWord h) rfl rfl hcat hdg k

def m_takesSign (N : Nat) (σ : St) (a1 : Int32) : Option (Int32 × St) :=
  bd (m_isSign N σ a1) (fun r1 σ2 => (if r1 = 0 then some (0, σ2) else bd (m_next N σ2) (fun _ σ4 => some (1, σ4))))
set_option maxHeartbeats 4000000 in
set_option maxRecDepth 100000 in
theorem s_m_takesSign {X : Cx} {ad : Nat → Nat} (C : Ok X cX11_takesSign RX11 2 (some .boolean) 6 130) (N : Nat) (σ : St) (a1 : Int32) : Sim X scM ad 2 outI 0 [(0, .ref (ad 0)), (1, .int a1)] [] σ (m_takesSign N σ a1) := by
  unfold m_takesSign
  refine g_aload_n C 0 dX11_takesSign_0 rfl rfl ?_
  refine g_iload_n C 1 dX11_takesSign_1 rfl rfl ?_
  refine v_m_isSign C ⟨by decide, by decide⟩ (Nat.le_of_ble_eq_true rfl) dX11_takesSign_2 (fun r1 σ2 _ => ?_)
  refine g_if_ne C 10 dX11_takesSign_5 (by decide) ?_ ?_
  · refine g_aload_n C 0 dX11_takesSign_10 rfl rfl ?_
    refine v_m_next C ⟨by decide, by decide⟩ (Nat.le_of_ble_eq_true rfl) dX11_takesSign_11 (fun r3 σ4 _ => ?_)
    refine g_iconst C 1 dX11_takesSign_14 (by decide) ?_
    exact g_zret C rfl dX11_takesSign_15
  · refine g_iconst C 0 dX11_takesSign_8 (by decide) ?_
    exact g_zret C rfl dX11_takesSign_9
theorem c_m_takesSign {Y : Yx} {ad : Nat → Nat} {N : Nat} {σ : St} {a1 : Int32} {r : Int32} {σ' : St} (h : m_takesSign N σ a1 = some (r, σ')) : Con Y scM ad yX11_takesSign cX11_takesSign 2 (some .boolean) 6 130 [.ref (ad 0), .int a1] σ (outI r) σ' := con_of (by decide) rfl (Nat.le_of_ble_eq_true rfl) rfl (fun X hX C => s_m_takesSign C N σ a1) h
set_option maxRecDepth 20000 in
theorem v_m_takesSign {X : Cx} {cc : ByteArray} {nL : Nat} {ret : Option FieldType} {fr lo : Nat} {ad : Nat → Nat} {ρ : Type} {out : ρ → Option Value} {pc : Nat} {lv : List (Nat × Value)} {rest : List Value} {σ : St} {N : Nat} {K : Int32 → St → Option (ρ × St)} {a1 : Int32} (C : Ok X cc RX11 nL ret fr lo) (hR : 6 + 1 ≤ fr ∧ 8 + (2 + 11) + 130 ≤ lo) (hcat : (rest.map fun v => v.category).sum ≤ 8) (hdg : decode cc pc = .ok (.invokevirtual 176, 3)) (k : ∀ (r : Int32) (σ' : St), m_takesSign N σ a1 = some (r, σ') → Sim X scM ad nL out (pc + 3) lv (.int r :: rest) σ' (K r σ')) : Sim X scM ad nL out pc lv (.int a1 :: .ref (ad 0) :: rest) σ (bd (m_takesSign N σ a1) K) := g_callV C (out1 := outI) (y := yX11_takesSign) (n := 1) ⟨gw_1350, gw_1352, gw_69, gw_117, gw_1353⟩ (by decide +kernel) hR (o := 0) (ci := 10) (q9 := (RX11, TX11, 68)) imM0 rfl rfl rfl (fun r σ' h => c_m_takesSign h) rfl rfl hcat hdg k

def m_wants (N : Nat) (σ : St) (a1 : Int32) : Option (Unit × St) :=
  bd (m_takesSign N σ a1) (fun r1 σ2 => (if r1 = 0 then bd (m_wrong N σ2 1 (gI σ2 5)) (fun _ σ4 => some ((), σ4)) else some ((), σ2)))
set_option maxHeartbeats 4000000 in
set_option maxRecDepth 100000 in
theorem s_m_wants {X : Cx} {ad : Nat → Nat} (C : Ok X cX11_wants RX11 2 none 7 151) (N : Nat) (σ : St) (a1 : Int32) : Sim X scM ad 2 outV 0 [(0, .ref (ad 0)), (1, .int a1)] [] σ (m_wants N σ a1) := by
  unfold m_wants
  refine g_aload_n C 0 dX11_wants_0 rfl rfl ?_
  refine g_iload_n C 1 dX11_wants_1 rfl rfl ?_
  refine v_m_takesSign C ⟨by decide, by decide⟩ (Nat.le_of_ble_eq_true rfl) dX11_wants_2 (fun r1 σ2 _ => ?_)
  refine g_if_ne C 17 dX11_wants_5 (by decide) ?_ ?_
  · exact g_vret C dX11_wants_17
  · refine g_aload_n C 0 dX11_wants_8 rfl rfl ?_
    refine g_iconst C 1 dX11_wants_9 (by decide) ?_
    refine g_aload_n C 0 dX11_wants_10 rfl rfl ?_
    refine mg5 C (v := gI σ2 5) dX11_wants_11 rfl ?_
    refine v_m_wrong C ⟨by decide, by decide⟩ (Nat.le_of_ble_eq_true rfl) dX11_wants_14 (fun r3 σ4 _ => ?_)
    exact g_vret C dX11_wants_17
theorem c_m_wants {Y : Yx} {ad : Nat → Nat} {N : Nat} {σ : St} {a1 : Int32} {r : Unit} {σ' : St} (h : m_wants N σ a1 = some (r, σ')) : Con Y scM ad yX11_wants cX11_wants 2 none 7 151 [.ref (ad 0), .int a1] σ (outV r) σ' := con_of (by decide) rfl (Nat.le_of_ble_eq_true rfl) rfl (fun X hX C => s_m_wants C N σ a1) h
set_option maxRecDepth 20000 in
theorem v_m_wants {X : Cx} {cc : ByteArray} {nL : Nat} {ret : Option FieldType} {fr lo : Nat} {ad : Nat → Nat} {ρ : Type} {out : ρ → Option Value} {pc : Nat} {lv : List (Nat × Value)} {rest : List Value} {σ : St} {N : Nat} {K : Unit → St → Option (ρ × St)} {a1 : Int32} (C : Ok X cc RX11 nL ret fr lo) (hR : 7 + 1 ≤ fr ∧ 8 + (2 + 11) + 151 ≤ lo) (hcat : (rest.map fun v => v.category).sum ≤ 8) (hdg : decode cc pc = .ok (.invokevirtual 201, 3)) (k : ∀ (r : Unit) (σ' : St), m_wants N σ a1 = some (r, σ') → Sim X scM ad nL out (pc + 3) lv rest σ' (K r σ')) : Sim X scM ad nL out pc lv (.int a1 :: .ref (ad 0) :: rest) σ (bd (m_wants N σ a1) K) := g_callV C (out1 := outV) (y := yX11_wants) (n := 1) ⟨gw_1346, gw_1348, gw_68, gw_117, gw_1349⟩ (by decide +kernel) hR (o := 0) (ci := 10) (q9 := (RX11, TX11, 68)) imM0 rfl rfl rfl (fun r σ' h => c_m_wants h) rfl rfl hcat hdg k

def m_taken (N : Nat) (σ : St) (a1 : Int32) : Option (Int32 × St) :=
  (if (gI σ 8) = 0 then (if (gI σ 6) = a1 then bd (m_next N σ) (fun _ σ2 => some (gI σ 7, σ2)) else bd (m_wrong N σ 1 (gI σ 5)) (fun _ σ4 => some (0, σ4))) else some (0, σ))
set_option maxHeartbeats 4000000 in
set_option maxRecDepth 100000 in
theorem s_m_taken {X : Cx} {ad : Nat → Nat} (C : Ok X cX11_taken RX11 3 (some .int) 6 130) (N : Nat) (σ : St) (a1 : Int32) : Sim X scM ad 3 outI 0 [(0, .ref (ad 0)), (1, .int a1)] [] σ (m_taken N σ a1) := by
  unfold m_taken
  refine g_aload_n C 0 dX11_taken_0 rfl rfl ?_
  refine mg8 C (v := gI σ 8) dX11_taken_1 rfl ?_
  refine g_if_eq C 9 dX11_taken_4 (by decide) ?_ ?_
  · refine g_aload_n C 0 dX11_taken_9 rfl rfl ?_
    refine mg6 C (v := gI σ 6) dX11_taken_10 rfl ?_
    refine g_iload_n C 1 dX11_taken_13 rfl rfl ?_
    refine g_icmp_eq C 28 dX11_taken_14 (by decide) ?_ ?_
    · refine g_aload_n C 0 dX11_taken_28 rfl rfl ?_
      refine mg7 C (v := gI σ 7) dX11_taken_29 rfl ?_
      refine g_istore_n C [(2, .int (gI σ 7)), (0, .ref (ad 0)), (1, .int a1)] dX11_taken_32 rfl (by decide) rfl ?_
      refine g_aload_n C 1 dX11_taken_33 rfl rfl ?_
      refine v_m_next C ⟨by decide, by decide⟩ (Nat.le_of_ble_eq_true rfl) dX11_taken_34 (fun r1 σ2 _ => ?_)
      refine g_iload_n C 0 dX11_taken_37 rfl rfl ?_
      exact g_iret C dX11_taken_38
    · refine g_aload_n C 0 dX11_taken_17 rfl rfl ?_
      refine g_iconst C 1 dX11_taken_18 (by decide) ?_
      refine g_aload_n C 0 dX11_taken_19 rfl rfl ?_
      refine mg5 C (v := gI σ 5) dX11_taken_20 rfl ?_
      refine v_m_wrong C ⟨by decide, by decide⟩ (Nat.le_of_ble_eq_true rfl) dX11_taken_23 (fun r3 σ4 _ => ?_)
      refine g_iconst C 0 dX11_taken_26 (by decide) ?_
      exact g_iret C dX11_taken_27
  · refine g_iconst C 0 dX11_taken_7 (by decide) ?_
    exact g_iret C dX11_taken_8
theorem c_m_taken {Y : Yx} {ad : Nat → Nat} {N : Nat} {σ : St} {a1 : Int32} {r : Int32} {σ' : St} (h : m_taken N σ a1 = some (r, σ')) : Con Y scM ad yX11_taken cX11_taken 3 (some .int) 6 130 [.ref (ad 0), .int a1] σ (outI r) σ' := con_of (by decide) rfl (Nat.le_of_ble_eq_true rfl) rfl (fun X hX C => s_m_taken C N σ a1) h
set_option maxRecDepth 20000 in
theorem v_m_taken {X : Cx} {cc : ByteArray} {nL : Nat} {ret : Option FieldType} {fr lo : Nat} {ad : Nat → Nat} {ρ : Type} {out : ρ → Option Value} {pc : Nat} {lv : List (Nat × Value)} {rest : List Value} {σ : St} {N : Nat} {K : Int32 → St → Option (ρ × St)} {a1 : Int32} (C : Ok X cc RX11 nL ret fr lo) (hR : 6 + 1 ≤ fr ∧ 8 + (3 + 11) + 130 ≤ lo) (hcat : (rest.map fun v => v.category).sum ≤ 8) (hdg : decode cc pc = .ok (.invokevirtual 205, 3)) (k : ∀ (r : Int32) (σ' : St), m_taken N σ a1 = some (r, σ') → Sim X scM ad nL out (pc + 3) lv (.int r :: rest) σ' (K r σ')) : Sim X scM ad nL out pc lv (.int a1 :: .ref (ad 0) :: rest) σ (bd (m_taken N σ a1) K) := g_callV C (out1 := outI) (y := yX11_taken) (n := 1) ⟨gw_1338, gw_1340, gw_66, gw_117, gw_1341⟩ (by decide +kernel) hR (o := 0) (ci := 10) (q9 := (RX11, TX11, 68)) imM0 rfl rfl rfl (fun r σ' h => c_m_taken h) rfl rfl hcat hdg k

def m_emit (N : Nat) (σ : St) (a1 : Int32) (a2 : Int32) (a3 : Int32) (a4 : Int32) : Option (Int32 × St) :=
  gd (ib (1300 + (gI σ 17)) 2600) (gd (ib (1300 + (gI σ 17)) 2600) (gd (ib (1300 + (gI σ 17)) 2600) (gd (ib (1300 + (gI σ 17)) 2600) (some (((gI σ 17) + 1) - 1, (sI (sA (sA (sA (sA σ 12 ((1300 + (gI σ 17)).toNatClampNeg) a1) 13 ((1300 + (gI σ 17)).toNatClampNeg) a2) 14 ((1300 + (gI σ 17)).toNatClampNeg) a3) 15 ((1300 + (gI σ 17)).toNatClampNeg) a4) 17 ((gI σ 17) + 1)))))))
set_option maxHeartbeats 4000000 in
set_option maxRecDepth 100000 in
theorem s_m_emit {X : Cx} {ad : Nat → Nat} (C : Ok X cX11_emit RX11 6 (some .int) 0 0) (N : Nat) (σ : St) (a1 : Int32) (a2 : Int32) (a3 : Int32) (a4 : Int32) : Sim X scM ad 6 outI 0 [(0, .ref (ad 0)), (1, .int a1), (2, .int a2), (3, .int a3), (4, .int a4)] [] σ (m_emit N σ a1 a2 a3 a4) := by
  unfold m_emit
  refine g_sipush C 1300 dX11_emit_0 (by decide) ?_
  refine g_aload_n C 0 dX11_emit_3 rfl rfl ?_
  refine mg17 C (v := gI σ 17) dX11_emit_4 rfl ?_
  refine g_iadd C dX11_emit_7 ?_
  refine g_istore C [(5, .int (1300 + (gI σ 17))), (0, .ref (ad 0)), (1, .int a1), (2, .int a2), (3, .int a3), (4, .int a4)] dX11_emit_8 (by decide) rfl ?_
  refine g_aload_n C 1 dX11_emit_10 rfl rfl ?_
  refine mg12 C dX11_emit_11 ?_
  refine g_iload C 0 dX11_emit_14 rfl ?_
  refine g_iload_n C 2 dX11_emit_16 rfl rfl ?_
  refine mw12 C dX11_emit_17 ?_
  refine g_aload_n C 1 dX11_emit_18 rfl rfl ?_
  refine mg13 C dX11_emit_19 ?_
  refine g_iload C 0 dX11_emit_22 rfl ?_
  refine g_iload_n C 3 dX11_emit_24 rfl rfl ?_
  refine mw13 C dX11_emit_25 ?_
  refine g_aload_n C 1 dX11_emit_26 rfl rfl ?_
  refine mg14 C dX11_emit_27 ?_
  refine g_iload C 0 dX11_emit_30 rfl ?_
  refine g_iload_n C 4 dX11_emit_32 rfl rfl ?_
  refine mw14 C dX11_emit_33 ?_
  refine g_aload_n C 1 dX11_emit_34 rfl rfl ?_
  refine mg15 C dX11_emit_35 ?_
  refine g_iload C 0 dX11_emit_38 rfl ?_
  refine g_iload C 5 dX11_emit_40 rfl ?_
  refine mw15 C dX11_emit_42 ?_
  refine g_aload_n C 1 dX11_emit_43 rfl rfl ?_
  refine g_dup C dX11_emit_44 rfl ?_
  refine mg17 C (v := gI σ 17) dX11_emit_45 rfl ?_
  refine g_iconst C 1 dX11_emit_48 (by decide) ?_
  refine g_iadd C dX11_emit_49 ?_
  refine mp17 C dX11_emit_50 ?_
  refine g_aload_n C 1 dX11_emit_53 rfl rfl ?_
  refine mg17 C (v := (gI σ 17) + 1) dX11_emit_54 rfl ?_
  refine g_iconst C 1 dX11_emit_57 (by decide) ?_
  refine g_isub C dX11_emit_58 ?_
  exact g_iret C dX11_emit_59
theorem c_m_emit {Y : Yx} {ad : Nat → Nat} {N : Nat} {σ : St} {a1 : Int32} {a2 : Int32} {a3 : Int32} {a4 : Int32} {r : Int32} {σ' : St} (h : m_emit N σ a1 a2 a3 a4 = some (r, σ')) : Con Y scM ad yX11_emit cX11_emit 6 (some .int) 0 0 [.ref (ad 0), .int a1, .int a2, .int a3, .int a4] σ (outI r) σ' := con_of (by decide) rfl (Nat.le_of_ble_eq_true rfl) rfl (fun X hX C => s_m_emit C N σ a1 a2 a3 a4) h
set_option maxRecDepth 20000 in
theorem v_m_emit {X : Cx} {cc : ByteArray} {nL : Nat} {ret : Option FieldType} {fr lo : Nat} {ad : Nat → Nat} {ρ : Type} {out : ρ → Option Value} {pc : Nat} {lv : List (Nat × Value)} {rest : List Value} {σ : St} {N : Nat} {K : Int32 → St → Option (ρ × St)} {a1 : Int32} {a2 : Int32} {a3 : Int32} {a4 : Int32} (C : Ok X cc RX11 nL ret fr lo) (hR : 0 + 1 ≤ fr ∧ 8 + (6 + 11) + 0 ≤ lo) (hcat : (rest.map fun v => v.category).sum ≤ 8) (hdg : decode cc pc = .ok (.invokevirtual 216, 3)) (k : ∀ (r : Int32) (σ' : St), m_emit N σ a1 a2 a3 a4 = some (r, σ') → Sim X scM ad nL out (pc + 3) lv (.int r :: rest) σ' (K r σ')) : Sim X scM ad nL out pc lv (.int a4 :: .int a3 :: .int a2 :: .int a1 :: .ref (ad 0) :: rest) σ (bd (m_emit N σ a1 a2 a3 a4) K) := g_callV C (out1 := outI) (y := yX11_emit) (n := 4) ⟨gw_1366, gw_1368, gw_73, gw_117, gw_1369⟩ (by decide +kernel) hR (o := 0) (ci := 10) (q9 := (RX11, TX11, 68)) imM0 rfl rfl rfl (fun r σ' h => c_m_emit h) rfl rfl hcat hdg k

def m_opens_27 (N : Nat) (σ : St) (x1 : Int32) (x2 : Int32) (x3 : Int32) : Option (Unit × St) :=
  bd (m_wants N σ 123) (fun _ σ4 => (if (gI σ4 8) = 0 then gd (ib (gI σ4 38) 8) (gd (ib (gI σ4 38) 8) (gd (ib (gI σ4 38) 8) (some ((), (sI (sA (sA (sA σ4 35 ((gI σ4 38).toNatClampNeg) x1) 36 ((gI σ4 38).toNatClampNeg) x2) 37 ((gI σ4 38).toNatClampNeg) x3) 38 ((gI σ4 38) + 1)))))) else some ((), σ4)))
def m_opens (N : Nat) (σ : St) (a1 : Int32) (a2 : Int32) (a3 : Int32) : Option (Unit × St) :=
  bd (m_isSign N σ 123) (fun r1 σ2 => (if r1 = 0 then m_opens_27 N σ2 a1 a2 a3 else (if (gI σ2 38) = 6 then bd (m_wrong N σ2 2 (gI σ2 5)) (fun _ σ6 => m_opens_27 N σ6 a1 a2 a3) else m_opens_27 N σ2 a1 a2 a3)))
set_option maxHeartbeats 4000000 in
set_option maxRecDepth 100000 in
theorem s_m_opens_27 {X : Cx} {ad : Nat → Nat} (C : Ok X cX11_opens RX11 4 none 8 172) (N : Nat) (σ : St) (x1 : Int32) (x2 : Int32) (x3 : Int32) : Sim X scM ad 4 outV 27 [(0, .ref (ad 0)), (1, .int x1), (2, .int x2), (3, .int x3)] [] σ (m_opens_27 N σ x1 x2 x3) := by
  unfold m_opens_27
  refine g_aload_n C 0 dX11_opens_27 rfl rfl ?_
  refine g_bipush C 123 dX11_opens_28 (by decide) ?_
  refine v_m_wants C ⟨by decide, by decide⟩ (Nat.le_of_ble_eq_true rfl) dX11_opens_30 (fun r3 σ4 _ => ?_)
  refine g_aload_n C 0 dX11_opens_33 rfl rfl ?_
  refine mg8 C (v := gI σ4 8) dX11_opens_34 rfl ?_
  refine g_if_eq C 41 dX11_opens_37 (by decide) ?_ ?_
  · refine g_aload_n C 0 dX11_opens_41 rfl rfl ?_
    refine mg35 C dX11_opens_42 ?_
    refine g_aload_n C 0 dX11_opens_45 rfl rfl ?_
    refine mg38 C (v := gI σ4 38) dX11_opens_46 rfl ?_
    refine g_iload_n C 1 dX11_opens_49 rfl rfl ?_
    refine mw35 C dX11_opens_50 ?_
    refine g_aload_n C 0 dX11_opens_51 rfl rfl ?_
    refine mg36 C dX11_opens_52 ?_
    refine g_aload_n C 0 dX11_opens_55 rfl rfl ?_
    refine mg38 C (v := gI σ4 38) dX11_opens_56 rfl ?_
    refine g_iload_n C 2 dX11_opens_59 rfl rfl ?_
    refine mw36 C dX11_opens_60 ?_
    refine g_aload_n C 0 dX11_opens_61 rfl rfl ?_
    refine mg37 C dX11_opens_62 ?_
    refine g_aload_n C 0 dX11_opens_65 rfl rfl ?_
    refine mg38 C (v := gI σ4 38) dX11_opens_66 rfl ?_
    refine g_iload_n C 3 dX11_opens_69 rfl rfl ?_
    refine mw37 C dX11_opens_70 ?_
    refine g_aload_n C 0 dX11_opens_71 rfl rfl ?_
    refine g_dup C dX11_opens_72 rfl ?_
    refine mg38 C (v := gI σ4 38) dX11_opens_73 rfl ?_
    refine g_iconst C 1 dX11_opens_76 (by decide) ?_
    refine g_iadd C dX11_opens_77 ?_
    refine mp38 C dX11_opens_78 ?_
    exact g_vret C dX11_opens_81
  · exact g_vret C dX11_opens_40
set_option maxHeartbeats 4000000 in
set_option maxRecDepth 100000 in
theorem s_m_opens {X : Cx} {ad : Nat → Nat} (C : Ok X cX11_opens RX11 4 none 8 172) (N : Nat) (σ : St) (a1 : Int32) (a2 : Int32) (a3 : Int32) : Sim X scM ad 4 outV 0 [(0, .ref (ad 0)), (1, .int a1), (2, .int a2), (3, .int a3)] [] σ (m_opens N σ a1 a2 a3) := by
  unfold m_opens
  refine g_aload_n C 0 dX11_opens_0 rfl rfl ?_
  refine g_bipush C 123 dX11_opens_1 (by decide) ?_
  refine v_m_isSign C ⟨by decide, by decide⟩ (Nat.le_of_ble_eq_true rfl) dX11_opens_3 (fun r1 σ2 _ => ?_)
  refine g_if_eq C 27 dX11_opens_6 (by decide) ?_ ?_
  · exact g_sub [0, 1, 2, 3] rfl (s_m_opens_27 C N σ2 a1 a2 a3)
  · refine g_aload_n C 0 dX11_opens_9 rfl rfl ?_
    refine mg38 C (v := gI σ2 38) dX11_opens_10 rfl ?_
    refine g_bipush C 6 dX11_opens_13 (by decide) ?_
    refine g_icmp_ne C 27 dX11_opens_15 (by decide) ?_ ?_
    · exact g_sub [0, 1, 2, 3] rfl (s_m_opens_27 C N σ2 a1 a2 a3)
    · refine g_aload_n C 0 dX11_opens_18 rfl rfl ?_
      refine g_iconst C 2 dX11_opens_19 (by decide) ?_
      refine g_aload_n C 0 dX11_opens_20 rfl rfl ?_
      refine mg5 C (v := gI σ2 5) dX11_opens_21 rfl ?_
      refine v_m_wrong C ⟨by decide, by decide⟩ (Nat.le_of_ble_eq_true rfl) dX11_opens_24 (fun r5 σ6 _ => ?_)
      exact g_sub [0, 1, 2, 3] rfl (s_m_opens_27 C N σ6 a1 a2 a3)
theorem c_m_opens {Y : Yx} {ad : Nat → Nat} {N : Nat} {σ : St} {a1 : Int32} {a2 : Int32} {a3 : Int32} {r : Unit} {σ' : St} (h : m_opens N σ a1 a2 a3 = some (r, σ')) : Con Y scM ad yX11_opens cX11_opens 4 none 8 172 [.ref (ad 0), .int a1, .int a2, .int a3] σ (outV r) σ' := con_of (by decide) rfl (Nat.le_of_ble_eq_true rfl) rfl (fun X hX C => s_m_opens C N σ a1 a2 a3) h
set_option maxRecDepth 20000 in
theorem v_m_opens {X : Cx} {cc : ByteArray} {nL : Nat} {ret : Option FieldType} {fr lo : Nat} {ad : Nat → Nat} {ρ : Type} {out : ρ → Option Value} {pc : Nat} {lv : List (Nat × Value)} {rest : List Value} {σ : St} {N : Nat} {K : Unit → St → Option (ρ × St)} {a1 : Int32} {a2 : Int32} {a3 : Int32} (C : Ok X cc RX11 nL ret fr lo) (hR : 8 + 1 ≤ fr ∧ 8 + (4 + 11) + 172 ≤ lo) (hcat : (rest.map fun v => v.category).sum ≤ 8) (hdg : decode cc pc = .ok (.invokevirtual 212, 3)) (k : ∀ (r : Unit) (σ' : St), m_opens N σ a1 a2 a3 = some (r, σ') → Sim X scM ad nL out (pc + 3) lv rest σ' (K r σ')) : Sim X scM ad nL out pc lv (.int a3 :: .int a2 :: .int a1 :: .ref (ad 0) :: rest) σ (bd (m_opens N σ a1 a2 a3) K) := g_callV C (out1 := outV) (y := yX11_opens) (n := 3) ⟨gw_1358, gw_1360, gw_71, gw_117, gw_1361⟩ (by decide +kernel) hR (o := 0) (ci := 10) (q9 := (RX11, TX11, 68)) imM0 rfl rfl rfl (fun r σ' h => c_m_opens h) rfl rfl hcat hdg k

def m_head_224 (N : Nat) (σ : St) (x2 : Int32) : Option (Unit × St) :=
  bd (m_wants N σ 41) (fun _ σ6 => bd (m_opens N σ6 0 (-1) (-1)) (fun _ σ8 => gd (ib x2 16) (gd (ib 1 2) ((if (gA σ8 22 ((1 : Int32).toNatClampNeg)) = (-1) then gd (ib 1 2) (some ((), (sA (sA σ8 19 x2.toNatClampNeg (gI σ8 17)) 22 ((1 : Int32).toNatClampNeg) (gI σ8 34)))) else some ((), (sA σ8 19 x2.toNatClampNeg (gI σ8 17))))))))
def m_head_179 (N : Nat) (rec81 : St → Int32 → Int32 → Option (Unit × St)) (σ : St) (x2 : Int32) (x5 : Int32) : Option (Unit × St) :=
  (if (gI σ 8) = 0 then gd (ib x2 16) (gd (ib ((4 * x2) + (gA σ 20 x2.toNatClampNeg)) 64) (gd (ib x2 16) (gd (ib x2 16) (bd (m_takesSign N (sA (sA σ 21 (((4 * x2) + (gA σ 20 x2.toNatClampNeg)).toNatClampNeg) x5) 20 x2.toNatClampNeg ((gA σ 20 x2.toNatClampNeg) + 1)) 44) (fun r11 σ12 => rec81 σ12 x2 r11))))) else some ((), σ))
def m_head_173 (N : Nat) (rec81 : St → Int32 → Int32 → Option (Unit × St)) (rec132 : St → Int32 → Int32 → Int32 → Int32 → Option (Unit × St)) (σ : St) (x2 : Int32) (x4 : Int32) (x5 : Int32) (x6 : Int32) : Option (Unit × St) :=
  rec132 σ x2 x4 x5 (x6 + 1)
def m_head_132_b (N : Nat) (rec81 : St → Int32 → Int32 → Option (Unit × St)) (rec132 : St → Int32 → Int32 → Int32 → Int32 → Option (Unit × St)) (σ : St) (x2 : Int32) (x4 : Int32) (x5 : Int32) (x6 : Int32) : Option (Unit × St) :=
  gd (ib x2 16) ((if (gA σ 20 x2.toNatClampNeg) ≤ x6 then m_head_179 N rec81 σ x2 x5 else (if (gI σ 8) = 0 then gd (ib ((4 * x2) + x6) 64) ((if (gA σ 21 (((4 * x2) + x6).toNatClampNeg)) = x5 then bd (m_wrong N σ 3 x4) (fun _ σ14 => m_head_173 N rec81 rec132 σ14 x2 x4 x5 x6) else m_head_173 N rec81 rec132 σ x2 x4 x5 x6)) else m_head_179 N rec81 σ x2 x5)))
def m_head_132 (N : Nat) (rec81 : St → Int32 → Int32 → Option (Unit × St)) : Nat → St → Int32 → Int32 → Int32 → Int32 → Option (Unit × St)
  | 0 => fun _ _ _ _ _ => none
  | n + 1 => fun σ x2 x4 x5 x6 => m_head_132_b N rec81 (m_head_132 N rec81 n) σ x2 x4 x5 x6
def m_head_122 (N : Nat) (rec81 : St → Int32 → Int32 → Option (Unit × St)) (σ : St) (x2 : Int32) (x4 : Int32) : Option (Unit × St) :=
  bd (m_taken N σ 0) (fun r9 σ10 => m_head_132 N rec81 N σ10 x2 x4 r9 0)
def m_head_81_b (N : Nat) (rec81 : St → Int32 → Int32 → Option (Unit × St)) (σ : St) (x2 : Int32) (x3 : Int32) : Option (Unit × St) :=
  (if x3 = 0 then m_head_224 N σ x2 else (if (gI σ 8) = 0 then (if (gI σ 6) = 0 then gd (ib x2 16) ((if (gA σ 20 x2.toNatClampNeg) = 4 then bd (m_wrong N σ 2 (gI σ 5)) (fun _ σ16 => m_head_122 N rec81 σ16 x2 (gI σ 5)) else m_head_122 N rec81 σ x2 (gI σ 5))) else m_head_122 N rec81 σ x2 (gI σ 5)) else m_head_224 N σ x2))
def m_head_81 (N : Nat) : Nat → St → Int32 → Int32 → Option (Unit × St)
  | 0 => fun _ _ _ => none
  | n + 1 => fun σ x2 x3 => m_head_81_b N (m_head_81 N n) σ x2 x3
def m_head_46 (N : Nat) (σ : St) (x2 : Int32) : Option (Unit × St) :=
  bd (m_wants N σ 40) (fun _ σ4 => gd (ib x2 16) ((if (gI σ4 8) = 0 then bd (m_isSign N (sA σ4 20 x2.toNatClampNeg 0) 41) (fun r17 σ18 => (if r17 = 0 then m_head_81 N N σ18 x2 1 else m_head_81 N N σ18 x2 0)) else m_head_81 N N (sA σ4 20 x2.toNatClampNeg 0) x2 0)))
def m_head (N : Nat) (σ : St) : Option (Unit × St) :=
  bd (m_taken N σ 1) (fun r1 σ2 => (if (gI σ2 8) = 0 then gd (ib (8 + r1) 16) ((if (gA σ2 19 ((8 + r1).toNatClampNeg)) = (-1) then m_head_46 N (sI σ2 34 r1) (8 + r1) else bd (m_wrong N (sI σ2 34 r1) 3 (gI σ 5)) (fun _ σ20 => m_head_46 N σ20 (8 + r1)))) else some ((), (sI σ2 34 r1))))
set_option maxHeartbeats 4000000 in
set_option maxRecDepth 100000 in
theorem s_m_head_224 {X : Cx} {ad : Nat → Nat} (C : Ok X cX11_head RX11 7 none 9 195) (N : Nat) (σ : St) (x2 : Int32) : Sim X scM ad 7 outV 224 [(0, .ref (ad 0)), (2, .int x2)] [] σ (m_head_224 N σ x2) := by
  unfold m_head_224
  refine g_aload_n C 0 dX11_head_224 rfl rfl ?_
  refine g_bipush C 41 dX11_head_225 (by decide) ?_
  refine v_m_wants C ⟨by decide, by decide⟩ (Nat.le_of_ble_eq_true rfl) dX11_head_227 (fun r5 σ6 _ => ?_)
  refine g_aload_n C 0 dX11_head_230 rfl rfl ?_
  refine g_iconst C 0 dX11_head_231 (by decide) ?_
  refine g_iconst C (-1) dX11_head_232 (by decide) ?_
  refine g_iconst C (-1) dX11_head_233 (by decide) ?_
  refine v_m_opens C ⟨by decide, by decide⟩ (Nat.le_of_ble_eq_true rfl) dX11_head_234 (fun r7 σ8 _ => ?_)
  refine g_aload_n C 0 dX11_head_237 rfl rfl ?_
  refine mg19 C dX11_head_238 ?_
  refine g_iload_n C 1 dX11_head_241 rfl rfl ?_
  refine g_aload_n C 0 dX11_head_242 rfl rfl ?_
  refine mg17 C (v := gI σ8 17) dX11_head_243 rfl ?_
  refine mw19 C dX11_head_246 ?_
  refine g_aload_n C 0 dX11_head_247 rfl rfl ?_
  refine mg22 C dX11_head_248 ?_
  refine g_iconst C 1 dX11_head_251 (by decide) ?_
  refine mr22 C (v := gA σ8 22 ((1 : Int32).toNatClampNeg)) dX11_head_252 rfl ?_
  refine g_iconst C (-1) dX11_head_253 (by decide) ?_
  refine g_icmp_ne C 267 dX11_head_254 (by decide) ?_ ?_
  · exact g_vret C dX11_head_267
  · refine g_aload_n C 0 dX11_head_257 rfl rfl ?_
    refine mg22 C dX11_head_258 ?_
    refine g_iconst C 1 dX11_head_261 (by decide) ?_
    refine g_aload_n C 0 dX11_head_262 rfl rfl ?_
    refine mg34 C (v := gI σ8 34) dX11_head_263 rfl ?_
    refine mw22 C dX11_head_266 ?_
    exact g_vret C dX11_head_267
set_option maxHeartbeats 4000000 in
set_option maxRecDepth 100000 in
theorem s_m_head_179 {X : Cx} {ad : Nat → Nat} (C : Ok X cX11_head RX11 7 none 9 195) (N : Nat) {rec81 : St → Int32 → Int32 → Option (Unit × St)} (hrec81 : ∀ (σ : St) (x2 : Int32) (x3 : Int32), Sim X scM ad 7 outV 81 [(0, .ref (ad 0)), (2, .int x2), (3, .int x3)] [] σ (rec81 σ x2 x3)) (σ : St) (x2 : Int32) (x5 : Int32) : Sim X scM ad 7 outV 179 [(0, .ref (ad 0)), (2, .int x2), (5, .int x5)] [] σ (m_head_179 N rec81 σ x2 x5) := by
  unfold m_head_179
  refine g_aload_n C 0 dX11_head_179 rfl rfl ?_
  refine mg8 C (v := gI σ 8) dX11_head_180 rfl ?_
  refine g_if_eq C 187 dX11_head_183 (by decide) ?_ ?_
  · refine g_aload_n C 0 dX11_head_187 rfl rfl ?_
    refine mg21 C dX11_head_188 ?_
    refine g_iconst C 4 dX11_head_191 (by decide) ?_
    refine g_iload_n C 1 dX11_head_192 rfl rfl ?_
    refine g_imul C dX11_head_193 ?_
    refine g_aload_n C 0 dX11_head_194 rfl rfl ?_
    refine mg20 C dX11_head_195 ?_
    refine g_iload_n C 1 dX11_head_198 rfl rfl ?_
    refine mr20 C (v := gA σ 20 x2.toNatClampNeg) dX11_head_199 rfl ?_
    refine g_iadd C dX11_head_200 ?_
    refine g_iload C 2 dX11_head_201 rfl ?_
    refine mw21 C dX11_head_203 ?_
    refine g_aload_n C 0 dX11_head_204 rfl rfl ?_
    refine mg20 C dX11_head_205 ?_
    refine g_iload_n C 1 dX11_head_208 rfl rfl ?_
    refine g_dup2 C dX11_head_209 rfl rfl ?_
    refine mr20 C (v := gA σ 20 x2.toNatClampNeg) dX11_head_210 rfl ?_
    refine g_iconst C 1 dX11_head_211 (by decide) ?_
    refine g_iadd C dX11_head_212 ?_
    refine mw20 C dX11_head_213 ?_
    refine g_aload_n C 0 dX11_head_214 rfl rfl ?_
    refine g_bipush C 44 dX11_head_215 (by decide) ?_
    refine v_m_takesSign C ⟨by decide, by decide⟩ (Nat.le_of_ble_eq_true rfl) dX11_head_217 (fun r11 σ12 _ => ?_)
    refine g_istore_n C [(3, .int r11), (0, .ref (ad 0)), (2, .int x2), (5, .int x5)] dX11_head_220 rfl (by decide) rfl ?_
    refine g_goto C 81 dX11_head_221 (by decide) ?_
    exact g_sub [1, 2, 0] rfl (hrec81 σ12 x2 r11)
  · exact g_vret C dX11_head_186
set_option maxHeartbeats 4000000 in
set_option maxRecDepth 100000 in
theorem s_m_head_173 {X : Cx} {ad : Nat → Nat} (C : Ok X cX11_head RX11 7 none 9 195) (N : Nat) {rec81 : St → Int32 → Int32 → Option (Unit × St)} (hrec81 : ∀ (σ : St) (x2 : Int32) (x3 : Int32), Sim X scM ad 7 outV 81 [(0, .ref (ad 0)), (2, .int x2), (3, .int x3)] [] σ (rec81 σ x2 x3)) {rec132 : St → Int32 → Int32 → Int32 → Int32 → Option (Unit × St)} (hrec132 : ∀ (σ : St) (x2 : Int32) (x4 : Int32) (x5 : Int32) (x6 : Int32), Sim X scM ad 7 outV 132 [(0, .ref (ad 0)), (2, .int x2), (4, .int x4), (5, .int x5), (6, .int x6)] [] σ (rec132 σ x2 x4 x5 x6)) (σ : St) (x2 : Int32) (x4 : Int32) (x5 : Int32) (x6 : Int32) : Sim X scM ad 7 outV 173 [(0, .ref (ad 0)), (2, .int x2), (4, .int x4), (5, .int x5), (6, .int x6)] [] σ (m_head_173 N rec81 rec132 σ x2 x4 x5 x6) := by
  unfold m_head_173
  refine g_iinc C (x6 + 1) 4 [(6, .int (x6 + 1)), (0, .ref (ad 0)), (2, .int x2), (4, .int x4), (5, .int x5)] dX11_head_173 rfl rfl (by decide) rfl ?_
  refine g_goto C 132 dX11_head_176 (by decide) ?_
  exact g_sub [1, 2, 3, 4, 0] rfl (hrec132 σ x2 x4 x5 (x6 + 1))
set_option maxHeartbeats 4000000 in
set_option maxRecDepth 100000 in
theorem s_m_head_132_b {X : Cx} {ad : Nat → Nat} (C : Ok X cX11_head RX11 7 none 9 195) (N : Nat) {rec81 : St → Int32 → Int32 → Option (Unit × St)} (hrec81 : ∀ (σ : St) (x2 : Int32) (x3 : Int32), Sim X scM ad 7 outV 81 [(0, .ref (ad 0)), (2, .int x2), (3, .int x3)] [] σ (rec81 σ x2 x3)) {rec132 : St → Int32 → Int32 → Int32 → Int32 → Option (Unit × St)} (hrec132 : ∀ (σ : St) (x2 : Int32) (x4 : Int32) (x5 : Int32) (x6 : Int32), Sim X scM ad 7 outV 132 [(0, .ref (ad 0)), (2, .int x2), (4, .int x4), (5, .int x5), (6, .int x6)] [] σ (rec132 σ x2 x4 x5 x6)) (σ : St) (x2 : Int32) (x4 : Int32) (x5 : Int32) (x6 : Int32) : Sim X scM ad 7 outV 132 [(0, .ref (ad 0)), (2, .int x2), (4, .int x4), (5, .int x5), (6, .int x6)] [] σ (m_head_132_b N rec81 rec132 σ x2 x4 x5 x6) := by
  unfold m_head_132_b
  refine g_iload C 4 dX11_head_132 rfl ?_
  refine g_aload_n C 0 dX11_head_134 rfl rfl ?_
  refine mg20 C dX11_head_135 ?_
  refine g_iload_n C 1 dX11_head_138 rfl rfl ?_
  refine mr20 C (v := gA σ 20 x2.toNatClampNeg) dX11_head_139 rfl ?_
  refine g_icmp_ge C 179 dX11_head_140 (by decide) ?_ ?_
  · exact g_sub [0, 1, 3] rfl (s_m_head_179 C N hrec81 σ x2 x5)
  · refine g_aload_n C 0 dX11_head_143 rfl rfl ?_
    refine mg8 C (v := gI σ 8) dX11_head_144 rfl ?_
    refine g_if_ne C 179 dX11_head_147 (by decide) ?_ ?_
    · exact g_sub [0, 1, 3] rfl (s_m_head_179 C N hrec81 σ x2 x5)
    · refine g_aload_n C 0 dX11_head_150 rfl rfl ?_
      refine mg21 C dX11_head_151 ?_
      refine g_iconst C 4 dX11_head_154 (by decide) ?_
      refine g_iload_n C 1 dX11_head_155 rfl rfl ?_
      refine g_imul C dX11_head_156 ?_
      refine g_iload C 4 dX11_head_157 rfl ?_
      refine g_iadd C dX11_head_159 ?_
      refine mr21 C (v := gA σ 21 (((4 * x2) + x6).toNatClampNeg)) dX11_head_160 rfl ?_
      refine g_iload C 3 dX11_head_161 rfl ?_
      refine g_icmp_ne C 173 dX11_head_163 (by decide) ?_ ?_
      · exact g_sub [0, 1, 2, 3, 4] rfl (s_m_head_173 C N hrec81 hrec132 σ x2 x4 x5 x6)
      · refine g_aload_n C 0 dX11_head_166 rfl rfl ?_
        refine g_iconst C 3 dX11_head_167 (by decide) ?_
        refine g_iload C 2 dX11_head_168 rfl ?_
        refine v_m_wrong C ⟨by decide, by decide⟩ (Nat.le_of_ble_eq_true rfl) dX11_head_170 (fun r13 σ14 _ => ?_)
        exact g_sub [0, 1, 2, 3, 4] rfl (s_m_head_173 C N hrec81 hrec132 σ14 x2 x4 x5 x6)
set_option maxHeartbeats 4000000 in
set_option maxRecDepth 100000 in
theorem s_m_head_132 {X : Cx} {ad : Nat → Nat} (C : Ok X cX11_head RX11 7 none 9 195) (N : Nat) {rec81 : St → Int32 → Int32 → Option (Unit × St)} (hrec81 : ∀ (σ : St) (x2 : Int32) (x3 : Int32), Sim X scM ad 7 outV 81 [(0, .ref (ad 0)), (2, .int x2), (3, .int x3)] [] σ (rec81 σ x2 x3)) : ∀ (n : Nat) (σ : St) (x2 : Int32) (x4 : Int32) (x5 : Int32) (x6 : Int32), Sim X scM ad 7 outV 132 [(0, .ref (ad 0)), (2, .int x2), (4, .int x4), (5, .int x5), (6, .int x6)] [] σ (m_head_132 N rec81 n σ x2 x4 x5 x6) := by
  intro n
  induction n with
  | zero => intro σ x2 x4 x5 x6; exact g_none
  | succ n ih => intro σ x2 x4 x5 x6; exact s_m_head_132_b C N hrec81 ih σ x2 x4 x5 x6
set_option maxHeartbeats 4000000 in
set_option maxRecDepth 100000 in
theorem s_m_head_122 {X : Cx} {ad : Nat → Nat} (C : Ok X cX11_head RX11 7 none 9 195) (N : Nat) {rec81 : St → Int32 → Int32 → Option (Unit × St)} (hrec81 : ∀ (σ : St) (x2 : Int32) (x3 : Int32), Sim X scM ad 7 outV 81 [(0, .ref (ad 0)), (2, .int x2), (3, .int x3)] [] σ (rec81 σ x2 x3)) (σ : St) (x2 : Int32) (x4 : Int32) : Sim X scM ad 7 outV 122 [(0, .ref (ad 0)), (2, .int x2), (4, .int x4)] [] σ (m_head_122 N rec81 σ x2 x4) := by
  unfold m_head_122
  refine g_aload_n C 0 dX11_head_122 rfl rfl ?_
  refine g_iconst C 0 dX11_head_123 (by decide) ?_
  refine v_m_taken C ⟨by decide, by decide⟩ (Nat.le_of_ble_eq_true rfl) dX11_head_124 (fun r9 σ10 _ => ?_)
  refine g_istore C [(5, .int r9), (0, .ref (ad 0)), (2, .int x2), (4, .int x4)] dX11_head_127 (by decide) rfl ?_
  refine g_iconst C 0 dX11_head_129 (by decide) ?_
  refine g_istore C [(6, .int 0), (5, .int r9), (0, .ref (ad 0)), (2, .int x2), (4, .int x4)] dX11_head_130 (by decide) rfl ?_
  exact g_sub [2, 3, 4, 1, 0] rfl (s_m_head_132 C N hrec81 N σ10 x2 x4 r9 0)
set_option maxHeartbeats 4000000 in
set_option maxRecDepth 100000 in
theorem s_m_head_81_b {X : Cx} {ad : Nat → Nat} (C : Ok X cX11_head RX11 7 none 9 195) (N : Nat) {rec81 : St → Int32 → Int32 → Option (Unit × St)} (hrec81 : ∀ (σ : St) (x2 : Int32) (x3 : Int32), Sim X scM ad 7 outV 81 [(0, .ref (ad 0)), (2, .int x2), (3, .int x3)] [] σ (rec81 σ x2 x3)) (σ : St) (x2 : Int32) (x3 : Int32) : Sim X scM ad 7 outV 81 [(0, .ref (ad 0)), (2, .int x2), (3, .int x3)] [] σ (m_head_81_b N rec81 σ x2 x3) := by
  unfold m_head_81_b
  refine g_iload_n C 2 dX11_head_81 rfl rfl ?_
  refine g_if_eq C 224 dX11_head_82 (by decide) ?_ ?_
  · exact g_sub [0, 1] rfl (s_m_head_224 C N σ x2)
  · refine g_aload_n C 0 dX11_head_85 rfl rfl ?_
    refine mg8 C (v := gI σ 8) dX11_head_86 rfl ?_
    refine g_if_ne C 224 dX11_head_89 (by decide) ?_ ?_
    · exact g_sub [0, 1] rfl (s_m_head_224 C N σ x2)
    · refine g_aload_n C 0 dX11_head_92 rfl rfl ?_
      refine mg5 C (v := gI σ 5) dX11_head_93 rfl ?_
      refine g_istore C [(4, .int (gI σ 5)), (0, .ref (ad 0)), (2, .int x2), (3, .int x3)] dX11_head_96 (by decide) rfl ?_
      refine g_aload_n C 1 dX11_head_98 rfl rfl ?_
      refine mg6 C (v := gI σ 6) dX11_head_99 rfl ?_
      refine g_if_ne C 122 dX11_head_102 (by decide) ?_ ?_
      · exact g_sub [1, 2, 0] rfl (s_m_head_122 C N hrec81 σ x2 (gI σ 5))
      · refine g_aload_n C 1 dX11_head_105 rfl rfl ?_
        refine mg20 C dX11_head_106 ?_
        refine g_iload_n C 2 dX11_head_109 rfl rfl ?_
        refine mr20 C (v := gA σ 20 x2.toNatClampNeg) dX11_head_110 rfl ?_
        refine g_iconst C 4 dX11_head_111 (by decide) ?_
        refine g_icmp_ne C 122 dX11_head_112 (by decide) ?_ ?_
        · exact g_sub [1, 2, 0] rfl (s_m_head_122 C N hrec81 σ x2 (gI σ 5))
        · refine g_aload_n C 1 dX11_head_115 rfl rfl ?_
          refine g_iconst C 2 dX11_head_116 (by decide) ?_
          refine g_iload C 0 dX11_head_117 rfl ?_
          refine v_m_wrong C ⟨by decide, by decide⟩ (Nat.le_of_ble_eq_true rfl) dX11_head_119 (fun r15 σ16 _ => ?_)
          exact g_sub [1, 2, 0] rfl (s_m_head_122 C N hrec81 σ16 x2 (gI σ 5))
set_option maxHeartbeats 4000000 in
set_option maxRecDepth 100000 in
theorem s_m_head_81 {X : Cx} {ad : Nat → Nat} (C : Ok X cX11_head RX11 7 none 9 195) (N : Nat) : ∀ (n : Nat) (σ : St) (x2 : Int32) (x3 : Int32), Sim X scM ad 7 outV 81 [(0, .ref (ad 0)), (2, .int x2), (3, .int x3)] [] σ (m_head_81 N n σ x2 x3) := by
  intro n
  induction n with
  | zero => intro σ x2 x3; exact g_none
  | succ n ih => intro σ x2 x3; exact s_m_head_81_b C N ih σ x2 x3
set_option maxHeartbeats 4000000 in
set_option maxRecDepth 100000 in
theorem s_m_head_46 {X : Cx} {ad : Nat → Nat} (C : Ok X cX11_head RX11 7 none 9 195) (N : Nat) (σ : St) (x2 : Int32) : Sim X scM ad 7 outV 46 [(0, .ref (ad 0)), (2, .int x2)] [] σ (m_head_46 N σ x2) := by
  unfold m_head_46
  refine g_aload_n C 0 dX11_head_46 rfl rfl ?_
  refine g_bipush C 40 dX11_head_47 (by decide) ?_
  refine v_m_wants C ⟨by decide, by decide⟩ (Nat.le_of_ble_eq_true rfl) dX11_head_49 (fun r3 σ4 _ => ?_)
  refine g_aload_n C 0 dX11_head_52 rfl rfl ?_
  refine mg20 C dX11_head_53 ?_
  refine g_iload_n C 1 dX11_head_56 rfl rfl ?_
  refine g_iconst C 0 dX11_head_57 (by decide) ?_
  refine mw20 C dX11_head_58 ?_
  refine g_aload_n C 0 dX11_head_59 rfl rfl ?_
  refine mg8 C (v := gI σ4 8) dX11_head_60 rfl ?_
  refine g_if_ne C 79 dX11_head_63 (by decide) ?_ ?_
  · refine g_iconst C 0 dX11_head_79 (by decide) ?_
    refine g_istore_n C [(3, .int 0), (0, .ref (ad 0)), (2, .int x2)] dX11_head_80 rfl (by decide) rfl ?_
    exact g_sub [1, 2, 0] rfl (s_m_head_81 C N N (sA σ4 20 x2.toNatClampNeg 0) x2 0)
  · refine g_aload_n C 0 dX11_head_66 rfl rfl ?_
    refine g_bipush C 41 dX11_head_67 (by decide) ?_
    refine v_m_isSign C ⟨by decide, by decide⟩ (Nat.le_of_ble_eq_true rfl) dX11_head_69 (fun r17 σ18 _ => ?_)
    refine g_if_ne C 79 dX11_head_72 (by decide) ?_ ?_
    · refine g_iconst C 0 dX11_head_79 (by decide) ?_
      refine g_istore_n C [(3, .int 0), (0, .ref (ad 0)), (2, .int x2)] dX11_head_80 rfl (by decide) rfl ?_
      exact g_sub [1, 2, 0] rfl (s_m_head_81 C N N σ18 x2 0)
    · refine g_iconst C 1 dX11_head_75 (by decide) ?_
      refine g_goto C 80 dX11_head_76 (by decide) ?_
      refine g_istore_n C [(3, .int 1), (0, .ref (ad 0)), (2, .int x2)] dX11_head_80 rfl (by decide) rfl ?_
      exact g_sub [1, 2, 0] rfl (s_m_head_81 C N N σ18 x2 1)
set_option maxHeartbeats 4000000 in
set_option maxRecDepth 100000 in
theorem s_m_head {X : Cx} {ad : Nat → Nat} (C : Ok X cX11_head RX11 7 none 9 195) (N : Nat) (σ : St) : Sim X scM ad 7 outV 0 [(0, .ref (ad 0))] [] σ (m_head N σ) := by
  unfold m_head
  refine g_aload_n C 0 dX11_head_0 rfl rfl ?_
  refine mg5 C (v := gI σ 5) dX11_head_1 rfl ?_
  refine g_istore_n C [(1, .int (gI σ 5)), (0, .ref (ad 0))] dX11_head_4 rfl (by decide) rfl ?_
  refine g_aload_n C 1 dX11_head_5 rfl rfl ?_
  refine g_aload_n C 1 dX11_head_6 rfl rfl ?_
  refine g_iconst C 1 dX11_head_7 (by decide) ?_
  refine v_m_taken C ⟨by decide, by decide⟩ (Nat.le_of_ble_eq_true rfl) dX11_head_8 (fun r1 σ2 _ => ?_)
  refine mp34 C dX11_head_11 ?_
  refine g_aload_n C 1 dX11_head_14 rfl rfl ?_
  refine mg8 C (v := gI σ2 8) dX11_head_15 rfl ?_
  refine g_if_eq C 22 dX11_head_18 (by decide) ?_ ?_
  · refine g_bipush C 8 dX11_head_22 (by decide) ?_
    refine g_aload_n C 1 dX11_head_24 rfl rfl ?_
    refine mg34 C (v := r1) dX11_head_25 rfl ?_
    refine g_iadd C dX11_head_28 ?_
    refine g_istore_n C [(2, .int (8 + r1)), (1, .int (gI σ 5)), (0, .ref (ad 0))] dX11_head_29 rfl (by decide) rfl ?_
    refine g_aload_n C 2 dX11_head_30 rfl rfl ?_
    refine mg19 C dX11_head_31 ?_
    refine g_iload_n C 0 dX11_head_34 rfl rfl ?_
    refine mr19 C (v := gA σ2 19 ((8 + r1).toNatClampNeg)) dX11_head_35 rfl ?_
    refine g_iconst C (-1) dX11_head_36 (by decide) ?_
    refine g_icmp_eq C 46 dX11_head_37 (by decide) ?_ ?_
    · exact g_sub [2, 0] rfl (s_m_head_46 C N (sI σ2 34 r1) (8 + r1))
    · refine g_aload_n C 2 dX11_head_40 rfl rfl ?_
      refine g_iconst C 3 dX11_head_41 (by decide) ?_
      refine g_iload_n C 1 dX11_head_42 rfl rfl ?_
      refine v_m_wrong C ⟨by decide, by decide⟩ (Nat.le_of_ble_eq_true rfl) dX11_head_43 (fun r19 σ20 _ => ?_)
      exact g_sub [2, 0] rfl (s_m_head_46 C N σ20 (8 + r1))
  · exact g_vret C dX11_head_21
theorem c_m_head {Y : Yx} {ad : Nat → Nat} {N : Nat} {σ : St} {r : Unit} {σ' : St} (h : m_head N σ = some (r, σ')) : Con Y scM ad yX11_head cX11_head 7 none 9 195 [.ref (ad 0)] σ (outV r) σ' := con_of (by decide) rfl (Nat.le_of_ble_eq_true rfl) rfl (fun X hX C => s_m_head C N σ) h
set_option maxRecDepth 20000 in
theorem v_m_head {X : Cx} {cc : ByteArray} {nL : Nat} {ret : Option FieldType} {fr lo : Nat} {ad : Nat → Nat} {ρ : Type} {out : ρ → Option Value} {pc : Nat} {lv : List (Nat × Value)} {rest : List Value} {σ : St} {N : Nat} {K : Unit → St → Option (ρ × St)} (C : Ok X cc RX11 nL ret fr lo) (hR : 9 + 1 ≤ fr ∧ 8 + (7 + 11) + 195 ≤ lo) (hcat : (rest.map fun v => v.category).sum ≤ 8) (hdg : decode cc pc = .ok (.invokevirtual 192, 3)) (k : ∀ (r : Unit) (σ' : St), m_head N σ = some (r, σ') → Sim X scM ad nL out (pc + 3) lv rest σ' (K r σ')) : Sim X scM ad nL out pc lv (.ref (ad 0) :: rest) σ (bd (m_head N σ) K) := g_callV C (out1 := outV) (y := yX11_head) (n := 0) ⟨gw_1334, gw_1336, gw_65, gw_117, gw_1337⟩ (by decide +kernel) hR (o := 0) (ci := 10) (q9 := (RX11, TX11, 68)) imM0 rfl rfl rfl (fun r σ' h => c_m_head h) rfl rfl hcat hdg k

def m_closes_151 (N : Nat) (σ : St) (x1 : Int32) (x2 : Int32) : Option (Unit × St) :=
  (if x1 = 1 then gd (ib (1300 + x2) 2600) (some ((), (sA σ 15 ((1300 + x2).toNatClampNeg) (gI σ 17)))) else gd (ib (1300 + x2) 2600) (some ((), (sA σ 13 ((1300 + x2).toNatClampNeg) (gI σ 17)))))
def m_closes (N : Nat) (σ : St) : Option (Unit × St) :=
  bd (m_next N σ) (fun _ σ2 => gd (ib ((gI σ2 38) - 1) 8) (gd (ib ((gI σ2 38) - 1) 8) ((if (gA σ2 35 (((gI σ2 38) - 1).toNatClampNeg)) = 0 then bd (m_emit N (sI σ2 38 ((gI σ2 38) - 1)) 1 0 0 0) (fun r13 σ14 => bd (m_emit N σ14 9 0 0 0) (fun r15 σ16 => some ((), σ16))) else (if (gA σ2 35 (((gI σ2 38) - 1).toNatClampNeg)) = 3 then gd (ib ((gI σ2 38) - 1) 8) (bd (m_emit N (sI σ2 38 ((gI σ2 38) - 1)) 13 (gA σ2 37 (((gI σ2 38) - 1).toNatClampNeg)) 1 0) (fun r11 σ12 => gd (ib (1300 + (gA σ2 36 (((gI σ2 38) - 1).toNatClampNeg))) 2600) (some ((), (sA σ12 15 ((1300 + (gA σ2 36 (((gI σ2 38) - 1).toNatClampNeg))).toNatClampNeg) (gI σ12 17)))))) else (if (gA σ2 35 (((gI σ2 38) - 1).toNatClampNeg)) = 1 then bd (m_isWord N (sI σ2 38 ((gI σ2 38) - 1)) 1) (fun r3 σ4 => (if r3 = 0 then m_closes_151 N σ4 (gA σ2 35 (((gI σ2 38) - 1).toNatClampNeg)) (gA σ2 36 (((gI σ2 38) - 1).toNatClampNeg)) else bd (m_next N σ4) (fun _ σ6 => bd (m_emit N σ6 13 0 0 0) (fun r7 σ8 => gd (ib (1300 + (gA σ2 36 (((gI σ2 38) - 1).toNatClampNeg))) 2600) (bd (m_opens N (sA σ8 15 ((1300 + (gA σ2 36 (((gI σ2 38) - 1).toNatClampNeg))).toNatClampNeg) (gI σ8 17)) 2 r7 (-1)) (fun _ σ10 => some ((), σ10))))))) else m_closes_151 N (sI σ2 38 ((gI σ2 38) - 1)) (gA σ2 35 (((gI σ2 38) - 1).toNatClampNeg)) (gA σ2 36 (((gI σ2 38) - 1).toNatClampNeg))))))))
set_option maxHeartbeats 4000000 in
set_option maxRecDepth 100000 in
theorem s_m_closes_151 {X : Cx} {ad : Nat → Nat} (C : Ok X cX11_closes RX11 4 none 9 195) (N : Nat) (σ : St) (x1 : Int32) (x2 : Int32) : Sim X scM ad 4 outV 151 [(0, .ref (ad 0)), (1, .int x1), (2, .int x2)] [] σ (m_closes_151 N σ x1 x2) := by
  unfold m_closes_151
  refine g_iload_n C 1 dX11_closes_151 rfl rfl ?_
  refine g_iconst C 1 dX11_closes_152 (by decide) ?_
  refine g_icmp_ne C 173 dX11_closes_153 (by decide) ?_ ?_
  · refine g_aload_n C 0 dX11_closes_173 rfl rfl ?_
    refine mg13 C dX11_closes_174 ?_
    refine g_sipush C 1300 dX11_closes_177 (by decide) ?_
    refine g_iload_n C 2 dX11_closes_180 rfl rfl ?_
    refine g_iadd C dX11_closes_181 ?_
    refine g_aload_n C 0 dX11_closes_182 rfl rfl ?_
    refine mg17 C (v := gI σ 17) dX11_closes_183 rfl ?_
    refine mw13 C dX11_closes_186 ?_
    exact g_vret C dX11_closes_187
  · refine g_aload_n C 0 dX11_closes_156 rfl rfl ?_
    refine mg15 C dX11_closes_157 ?_
    refine g_sipush C 1300 dX11_closes_160 (by decide) ?_
    refine g_iload_n C 2 dX11_closes_163 rfl rfl ?_
    refine g_iadd C dX11_closes_164 ?_
    refine g_aload_n C 0 dX11_closes_165 rfl rfl ?_
    refine mg17 C (v := gI σ 17) dX11_closes_166 rfl ?_
    refine mw15 C dX11_closes_169 ?_
    refine g_goto C 187 dX11_closes_170 (by decide) ?_
    exact g_vret C dX11_closes_187
set_option maxHeartbeats 4000000 in
set_option maxRecDepth 100000 in
theorem s_m_closes {X : Cx} {ad : Nat → Nat} (C : Ok X cX11_closes RX11 4 none 9 195) (N : Nat) (σ : St) : Sim X scM ad 4 outV 0 [(0, .ref (ad 0))] [] σ (m_closes N σ) := by
  unfold m_closes
  refine g_aload_n C 0 dX11_closes_0 rfl rfl ?_
  refine v_m_next C ⟨by decide, by decide⟩ (Nat.le_of_ble_eq_true rfl) dX11_closes_1 (fun r1 σ2 _ => ?_)
  refine g_aload_n C 0 dX11_closes_4 rfl rfl ?_
  refine g_dup C dX11_closes_5 rfl ?_
  refine mg38 C (v := gI σ2 38) dX11_closes_6 rfl ?_
  refine g_iconst C 1 dX11_closes_9 (by decide) ?_
  refine g_isub C dX11_closes_10 ?_
  refine mp38 C dX11_closes_11 ?_
  refine g_aload_n C 0 dX11_closes_14 rfl rfl ?_
  refine mg35 C dX11_closes_15 ?_
  refine g_aload_n C 0 dX11_closes_18 rfl rfl ?_
  refine mg38 C (v := (gI σ2 38) - 1) dX11_closes_19 rfl ?_
  refine mr35 C (v := gA σ2 35 (((gI σ2 38) - 1).toNatClampNeg)) dX11_closes_22 rfl ?_
  refine g_istore_n C [(1, .int (gA σ2 35 (((gI σ2 38) - 1).toNatClampNeg))), (0, .ref (ad 0))] dX11_closes_23 rfl (by decide) rfl ?_
  refine g_aload_n C 1 dX11_closes_24 rfl rfl ?_
  refine mg36 C dX11_closes_25 ?_
  refine g_aload_n C 1 dX11_closes_28 rfl rfl ?_
  refine mg38 C (v := (gI σ2 38) - 1) dX11_closes_29 rfl ?_
  refine mr36 C (v := gA σ2 36 (((gI σ2 38) - 1).toNatClampNeg)) dX11_closes_32 rfl ?_
  refine g_istore_n C [(2, .int (gA σ2 36 (((gI σ2 38) - 1).toNatClampNeg))), (1, .int (gA σ2 35 (((gI σ2 38) - 1).toNatClampNeg))), (0, .ref (ad 0))] dX11_closes_33 rfl (by decide) rfl ?_
  refine g_iload_n C 1 dX11_closes_34 rfl rfl ?_
  refine g_if_ne C 60 dX11_closes_35 (by decide) ?_ ?_
  · refine g_iload_n C 1 dX11_closes_60 rfl rfl ?_
    refine g_iconst C 3 dX11_closes_61 (by decide) ?_
    refine g_icmp_ne C 100 dX11_closes_62 (by decide) ?_ ?_
    · refine g_iload_n C 1 dX11_closes_100 rfl rfl ?_
      refine g_iconst C 1 dX11_closes_101 (by decide) ?_
      refine g_icmp_ne C 151 dX11_closes_102 (by decide) ?_ ?_
      · exact g_sub [2, 1, 0] rfl (s_m_closes_151 C N (sI σ2 38 ((gI σ2 38) - 1)) (gA σ2 35 (((gI σ2 38) - 1).toNatClampNeg)) (gA σ2 36 (((gI σ2 38) - 1).toNatClampNeg)))
      · refine g_aload_n C 2 dX11_closes_105 rfl rfl ?_
        refine g_iconst C 1 dX11_closes_106 (by decide) ?_
        refine v_m_isWord C ⟨by decide, by decide⟩ (Nat.le_of_ble_eq_true rfl) dX11_closes_107 (fun r3 σ4 _ => ?_)
        refine g_if_eq C 151 dX11_closes_110 (by decide) ?_ ?_
        · exact g_sub [2, 1, 0] rfl (s_m_closes_151 C N σ4 (gA σ2 35 (((gI σ2 38) - 1).toNatClampNeg)) (gA σ2 36 (((gI σ2 38) - 1).toNatClampNeg)))
        · refine g_aload_n C 2 dX11_closes_113 rfl rfl ?_
          refine v_m_next C ⟨by decide, by decide⟩ (Nat.le_of_ble_eq_true rfl) dX11_closes_114 (fun r5 σ6 _ => ?_)
          refine g_aload_n C 2 dX11_closes_117 rfl rfl ?_
          refine g_bipush C 13 dX11_closes_118 (by decide) ?_
          refine g_iconst C 0 dX11_closes_120 (by decide) ?_
          refine g_iconst C 0 dX11_closes_121 (by decide) ?_
          refine g_iconst C 0 dX11_closes_122 (by decide) ?_
          refine v_m_emit C ⟨by decide, by decide⟩ (Nat.le_of_ble_eq_true rfl) dX11_closes_123 (fun r7 σ8 _ => ?_)
          refine g_istore_n C [(3, .int r7), (2, .int (gA σ2 36 (((gI σ2 38) - 1).toNatClampNeg))), (1, .int (gA σ2 35 (((gI σ2 38) - 1).toNatClampNeg))), (0, .ref (ad 0))] dX11_closes_126 rfl (by decide) rfl ?_
          refine g_aload_n C 3 dX11_closes_127 rfl rfl ?_
          refine mg15 C dX11_closes_128 ?_
          refine g_sipush C 1300 dX11_closes_131 (by decide) ?_
          refine g_iload_n C 1 dX11_closes_134 rfl rfl ?_
          refine g_iadd C dX11_closes_135 ?_
          refine g_aload_n C 3 dX11_closes_136 rfl rfl ?_
          refine mg17 C (v := gI σ8 17) dX11_closes_137 rfl ?_
          refine mw15 C dX11_closes_140 ?_
          refine g_aload_n C 3 dX11_closes_141 rfl rfl ?_
          refine g_iconst C 2 dX11_closes_142 (by decide) ?_
          refine g_iload_n C 0 dX11_closes_143 rfl rfl ?_
          refine g_iconst C (-1) dX11_closes_144 (by decide) ?_
          refine v_m_opens C ⟨by decide, by decide⟩ (Nat.le_of_ble_eq_true rfl) dX11_closes_145 (fun r9 σ10 _ => ?_)
          refine g_goto C 187 dX11_closes_148 (by decide) ?_
          exact g_vret C dX11_closes_187
    · refine g_aload_n C 2 dX11_closes_65 rfl rfl ?_
      refine g_bipush C 13 dX11_closes_66 (by decide) ?_
      refine g_aload_n C 2 dX11_closes_68 rfl rfl ?_
      refine mg37 C dX11_closes_69 ?_
      refine g_aload_n C 2 dX11_closes_72 rfl rfl ?_
      refine mg38 C (v := (gI σ2 38) - 1) dX11_closes_73 rfl ?_
      refine mr37 C (v := gA σ2 37 (((gI σ2 38) - 1).toNatClampNeg)) dX11_closes_76 rfl ?_
      refine g_iconst C 1 dX11_closes_77 (by decide) ?_
      refine g_iconst C 0 dX11_closes_78 (by decide) ?_
      refine v_m_emit C ⟨by decide, by decide⟩ (Nat.le_of_ble_eq_true rfl) dX11_closes_79 (fun r11 σ12 _ => ?_)
      refine g_pop C dX11_closes_82 rfl ?_
      refine g_aload_n C 2 dX11_closes_83 rfl rfl ?_
      refine mg15 C dX11_closes_84 ?_
      refine g_sipush C 1300 dX11_closes_87 (by decide) ?_
      refine g_iload_n C 0 dX11_closes_90 rfl rfl ?_
      refine g_iadd C dX11_closes_91 ?_
      refine g_aload_n C 2 dX11_closes_92 rfl rfl ?_
      refine mg17 C (v := gI σ12 17) dX11_closes_93 rfl ?_
      refine mw15 C dX11_closes_96 ?_
      refine g_goto C 187 dX11_closes_97 (by decide) ?_
      exact g_vret C dX11_closes_187
  · refine g_aload_n C 2 dX11_closes_38 rfl rfl ?_
    refine g_iconst C 1 dX11_closes_39 (by decide) ?_
    refine g_iconst C 0 dX11_closes_40 (by decide) ?_
    refine g_iconst C 0 dX11_closes_41 (by decide) ?_
    refine g_iconst C 0 dX11_closes_42 (by decide) ?_
    refine v_m_emit C ⟨by decide, by decide⟩ (Nat.le_of_ble_eq_true rfl) dX11_closes_43 (fun r13 σ14 _ => ?_)
    refine g_pop C dX11_closes_46 rfl ?_
    refine g_aload_n C 2 dX11_closes_47 rfl rfl ?_
    refine g_bipush C 9 dX11_closes_48 (by decide) ?_
    refine g_iconst C 0 dX11_closes_50 (by decide) ?_
    refine g_iconst C 0 dX11_closes_51 (by decide) ?_
    refine g_iconst C 0 dX11_closes_52 (by decide) ?_
    refine v_m_emit C ⟨by decide, by decide⟩ (Nat.le_of_ble_eq_true rfl) dX11_closes_53 (fun r15 σ16 _ => ?_)
    refine g_pop C dX11_closes_56 rfl ?_
    refine g_goto C 187 dX11_closes_57 (by decide) ?_
    exact g_vret C dX11_closes_187
theorem c_m_closes {Y : Yx} {ad : Nat → Nat} {N : Nat} {σ : St} {r : Unit} {σ' : St} (h : m_closes N σ = some (r, σ')) : Con Y scM ad yX11_closes cX11_closes 4 none 9 195 [.ref (ad 0)] σ (outV r) σ' := con_of (by decide) rfl (Nat.le_of_ble_eq_true rfl) rfl (fun X hX C => s_m_closes C N σ) h
set_option maxRecDepth 20000 in
theorem v_m_closes {X : Cx} {cc : ByteArray} {nL : Nat} {ret : Option FieldType} {fr lo : Nat} {ad : Nat → Nat} {ρ : Type} {out : ρ → Option Value} {pc : Nat} {lv : List (Nat × Value)} {rest : List Value} {σ : St} {N : Nat} {K : Unit → St → Option (ρ × St)} (C : Ok X cc RX11 nL ret fr lo) (hR : 9 + 1 ≤ fr ∧ 8 + (4 + 11) + 195 ≤ lo) (hcat : (rest.map fun v => v.category).sum ≤ 8) (hdg : decode cc pc = .ok (.invokevirtual 195, 3)) (k : ∀ (r : Unit) (σ' : St), m_closes N σ = some (r, σ') → Sim X scM ad nL out (pc + 3) lv rest σ' (K r σ')) : Sim X scM ad nL out pc lv (.ref (ad 0) :: rest) σ (bd (m_closes N σ) K) := g_callV C (out1 := outV) (y := yX11_closes) (n := 0) ⟨gw_1362, gw_1364, gw_72, gw_117, gw_1365⟩ (by decide +kernel) hR (o := 0) (ci := 10) (q9 := (RX11, TX11, 68)) imM0 rfl rfl rfl (fun r σ' h => c_m_closes h) rfl rfl hcat hdg k

def m_newUse_17 (N : Nat) (σ : St) (x1 : Int32) (x2 : Int32) : Option (Int32 × St) :=
  (if (gI σ 8) = 0 then gd (ib 1 2) (gd (ib (41 + (gA σ 26 ((1 : Int32).toNatClampNeg))) 82) (gd (ib (41 + (gA σ 26 ((1 : Int32).toNatClampNeg))) 82) (gd (ib (41 + (gA σ 26 ((1 : Int32).toNatClampNeg))) 82) (gd (ib 1 2) (gd (ib 1 2) (gd (ib 1 2) (some ((gA (sA (sA (sA (sA σ 23 ((41 + (gA σ 26 ((1 : Int32).toNatClampNeg))).toNatClampNeg) (gI σ 34)) 24 ((41 + (gA σ 26 ((1 : Int32).toNatClampNeg))).toNatClampNeg) x2) 25 ((41 + (gA σ 26 ((1 : Int32).toNatClampNeg))).toNatClampNeg) x1) 26 ((1 : Int32).toNatClampNeg) ((gA σ 26 ((1 : Int32).toNatClampNeg)) + 1)) 26 ((1 : Int32).toNatClampNeg)) - 1, (sA (sA (sA (sA σ 23 ((41 + (gA σ 26 ((1 : Int32).toNatClampNeg))).toNatClampNeg) (gI σ 34)) 24 ((41 + (gA σ 26 ((1 : Int32).toNatClampNeg))).toNatClampNeg) x2) 25 ((41 + (gA σ 26 ((1 : Int32).toNatClampNeg))).toNatClampNeg) x1) 26 ((1 : Int32).toNatClampNeg) ((gA σ 26 ((1 : Int32).toNatClampNeg)) + 1)))))))))) else some (0, σ))
def m_newUse (N : Nat) (σ : St) (a1 : Int32) (a2 : Int32) : Option (Int32 × St) :=
  gd (ib 1 2) ((if (gA σ 26 ((1 : Int32).toNatClampNeg)) = 40 then bd (m_wrong N σ 2 a2) (fun _ σ2 => m_newUse_17 N σ2 a1 a2) else m_newUse_17 N σ a1 a2))
set_option maxHeartbeats 4000000 in
set_option maxRecDepth 100000 in
theorem s_m_newUse_17 {X : Cx} {ad : Nat → Nat} (C : Ok X cX11_newUse RX11 4 (some .int) 1 22) (N : Nat) (σ : St) (x1 : Int32) (x2 : Int32) : Sim X scM ad 4 outI 17 [(0, .ref (ad 0)), (1, .int x1), (2, .int x2)] [] σ (m_newUse_17 N σ x1 x2) := by
  unfold m_newUse_17
  refine g_aload_n C 0 dX11_newUse_17 rfl rfl ?_
  refine mg8 C (v := gI σ 8) dX11_newUse_18 rfl ?_
  refine g_if_eq C 26 dX11_newUse_21 (by decide) ?_ ?_
  · refine g_bipush C 41 dX11_newUse_26 (by decide) ?_
    refine g_aload_n C 0 dX11_newUse_28 rfl rfl ?_
    refine mg26 C dX11_newUse_29 ?_
    refine g_iconst C 1 dX11_newUse_32 (by decide) ?_
    refine mr26 C (v := gA σ 26 ((1 : Int32).toNatClampNeg)) dX11_newUse_33 rfl ?_
    refine g_iadd C dX11_newUse_34 ?_
    refine g_istore_n C [(3, .int (41 + (gA σ 26 ((1 : Int32).toNatClampNeg)))), (0, .ref (ad 0)), (1, .int x1), (2, .int x2)] dX11_newUse_35 rfl (by decide) rfl ?_
    refine g_aload_n C 1 dX11_newUse_36 rfl rfl ?_
    refine mg23 C dX11_newUse_37 ?_
    refine g_iload_n C 0 dX11_newUse_40 rfl rfl ?_
    refine g_aload_n C 1 dX11_newUse_41 rfl rfl ?_
    refine mg34 C (v := gI σ 34) dX11_newUse_42 rfl ?_
    refine mw23 C dX11_newUse_45 ?_
    refine g_aload_n C 1 dX11_newUse_46 rfl rfl ?_
    refine mg24 C dX11_newUse_47 ?_
    refine g_iload_n C 0 dX11_newUse_50 rfl rfl ?_
    refine g_iload_n C 3 dX11_newUse_51 rfl rfl ?_
    refine mw24 C dX11_newUse_52 ?_
    refine g_aload_n C 1 dX11_newUse_53 rfl rfl ?_
    refine mg25 C dX11_newUse_54 ?_
    refine g_iload_n C 0 dX11_newUse_57 rfl rfl ?_
    refine g_iload_n C 2 dX11_newUse_58 rfl rfl ?_
    refine mw25 C dX11_newUse_59 ?_
    refine g_aload_n C 1 dX11_newUse_60 rfl rfl ?_
    refine mg26 C dX11_newUse_61 ?_
    refine g_iconst C 1 dX11_newUse_64 (by decide) ?_
    refine g_dup2 C dX11_newUse_65 rfl rfl ?_
    refine mr26 C (v := gA σ 26 ((1 : Int32).toNatClampNeg)) dX11_newUse_66 rfl ?_
    refine g_iconst C 1 dX11_newUse_67 (by decide) ?_
    refine g_iadd C dX11_newUse_68 ?_
    refine mw26 C dX11_newUse_69 ?_
    refine g_aload_n C 1 dX11_newUse_70 rfl rfl ?_
    refine mg26 C dX11_newUse_71 ?_
    refine g_iconst C 1 dX11_newUse_74 (by decide) ?_
    refine mr26 C (v := gA (sA (sA (sA (sA σ 23 ((41 + (gA σ 26 ((1 : Int32).toNatClampNeg))).toNatClampNeg) (gI σ 34)) 24 ((41 + (gA σ 26 ((1 : Int32).toNatClampNeg))).toNatClampNeg) x2) 25 ((41 + (gA σ 26 ((1 : Int32).toNatClampNeg))).toNatClampNeg) x1) 26 ((1 : Int32).toNatClampNeg) ((gA σ 26 ((1 : Int32).toNatClampNeg)) + 1)) 26 ((1 : Int32).toNatClampNeg)) dX11_newUse_75 rfl ?_
    refine g_iconst C 1 dX11_newUse_76 (by decide) ?_
    refine g_isub C dX11_newUse_77 ?_
    exact g_iret C dX11_newUse_78
  · refine g_iconst C 0 dX11_newUse_24 (by decide) ?_
    exact g_iret C dX11_newUse_25
set_option maxHeartbeats 4000000 in
set_option maxRecDepth 100000 in
theorem s_m_newUse {X : Cx} {ad : Nat → Nat} (C : Ok X cX11_newUse RX11 4 (some .int) 1 22) (N : Nat) (σ : St) (a1 : Int32) (a2 : Int32) : Sim X scM ad 4 outI 0 [(0, .ref (ad 0)), (1, .int a1), (2, .int a2)] [] σ (m_newUse N σ a1 a2) := by
  unfold m_newUse
  refine g_aload_n C 0 dX11_newUse_0 rfl rfl ?_
  refine mg26 C dX11_newUse_1 ?_
  refine g_iconst C 1 dX11_newUse_4 (by decide) ?_
  refine mr26 C (v := gA σ 26 ((1 : Int32).toNatClampNeg)) dX11_newUse_5 rfl ?_
  refine g_bipush C 40 dX11_newUse_6 (by decide) ?_
  refine g_icmp_ne C 17 dX11_newUse_8 (by decide) ?_ ?_
  · exact g_sub [0, 1, 2] rfl (s_m_newUse_17 C N σ a1 a2)
  · refine g_aload_n C 0 dX11_newUse_11 rfl rfl ?_
    refine g_iconst C 2 dX11_newUse_12 (by decide) ?_
    refine g_iload_n C 2 dX11_newUse_13 rfl rfl ?_
    refine v_m_wrong C ⟨by decide, by decide⟩ (Nat.le_of_ble_eq_true rfl) dX11_newUse_14 (fun r1 σ2 _ => ?_)
    exact g_sub [0, 1, 2] rfl (s_m_newUse_17 C N σ2 a1 a2)
theorem c_m_newUse {Y : Yx} {ad : Nat → Nat} {N : Nat} {σ : St} {a1 : Int32} {a2 : Int32} {r : Int32} {σ' : St} (h : m_newUse N σ a1 a2 = some (r, σ')) : Con Y scM ad yX11_newUse cX11_newUse 4 (some .int) 1 22 [.ref (ad 0), .int a1, .int a2] σ (outI r) σ' := con_of (by decide) rfl (Nat.le_of_ble_eq_true rfl) rfl (fun X hX C => s_m_newUse C N σ a1 a2) h
set_option maxRecDepth 20000 in
theorem v_m_newUse {X : Cx} {cc : ByteArray} {nL : Nat} {ret : Option FieldType} {fr lo : Nat} {ad : Nat → Nat} {ρ : Type} {out : ρ → Option Value} {pc : Nat} {lv : List (Nat × Value)} {rest : List Value} {σ : St} {N : Nat} {K : Int32 → St → Option (ρ × St)} {a1 : Int32} {a2 : Int32} (C : Ok X cc RX11 nL ret fr lo) (hR : 1 + 1 ≤ fr ∧ 8 + (4 + 11) + 22 ≤ lo) (hcat : (rest.map fun v => v.category).sum ≤ 8) (hdg : decode cc pc = .ok (.invokevirtual 223, 3)) (k : ∀ (r : Int32) (σ' : St), m_newUse N σ a1 a2 = some (r, σ') → Sim X scM ad nL out (pc + 3) lv (.int r :: rest) σ' (K r σ')) : Sim X scM ad nL out pc lv (.int a2 :: .int a1 :: .ref (ad 0) :: rest) σ (bd (m_newUse N σ a1 a2) K) := g_callV C (out1 := outI) (y := yX11_newUse) (n := 2) ⟨gw_1378, gw_1380, gw_76, gw_117, gw_1381⟩ (by decide +kernel) hR (o := 0) (ci := 10) (q9 := (RX11, TX11, 68)) imM0 rfl rfl rfl (fun r σ' h => c_m_newUse h) rfl rfl hcat hdg k

def m_field_41 (N : Nat) (σ : St) : Option (Int32 × St) :=
  bd (m_taken N σ 0) (fun r1 σ2 => some (r1 - 15, σ2))
def m_field_32 (N : Nat) (σ : St) : Option (Int32 × St) :=
  bd (m_wrong N σ 1 (gI σ 5)) (fun _ σ4 => m_field_41 N σ4)
def m_field (N : Nat) (σ : St) : Option (Int32 × St) :=
  (if (gI σ 8) = 0 then (if (gI σ 6) = 0 then (if (gI σ 7) = 15 then m_field_41 N σ else (if (gI σ 7) = 16 then m_field_41 N σ else m_field_32 N σ)) else m_field_32 N σ) else m_field_41 N σ)
set_option maxHeartbeats 4000000 in
set_option maxRecDepth 100000 in
theorem s_m_field_41 {X : Cx} {ad : Nat → Nat} (C : Ok X cX11_field RX11 1 (some .int) 7 152) (N : Nat) (σ : St) : Sim X scM ad 1 outI 41 [(0, .ref (ad 0))] [] σ (m_field_41 N σ) := by
  unfold m_field_41
  refine g_aload_n C 0 dX11_field_41 rfl rfl ?_
  refine g_iconst C 0 dX11_field_42 (by decide) ?_
  refine v_m_taken C ⟨by decide, by decide⟩ (Nat.le_of_ble_eq_true rfl) dX11_field_43 (fun r1 σ2 _ => ?_)
  refine g_bipush C 15 dX11_field_46 (by decide) ?_
  refine g_isub C dX11_field_48 ?_
  exact g_iret C dX11_field_49
set_option maxHeartbeats 4000000 in
set_option maxRecDepth 100000 in
theorem s_m_field_32 {X : Cx} {ad : Nat → Nat} (C : Ok X cX11_field RX11 1 (some .int) 7 152) (N : Nat) (σ : St) : Sim X scM ad 1 outI 32 [(0, .ref (ad 0))] [] σ (m_field_32 N σ) := by
  unfold m_field_32
  refine g_aload_n C 0 dX11_field_32 rfl rfl ?_
  refine g_iconst C 1 dX11_field_33 (by decide) ?_
  refine g_aload_n C 0 dX11_field_34 rfl rfl ?_
  refine mg5 C (v := gI σ 5) dX11_field_35 rfl ?_
  refine v_m_wrong C ⟨by decide, by decide⟩ (Nat.le_of_ble_eq_true rfl) dX11_field_38 (fun r3 σ4 _ => ?_)
  exact g_sub [0] rfl (s_m_field_41 C N σ4)
set_option maxHeartbeats 4000000 in
set_option maxRecDepth 100000 in
theorem s_m_field {X : Cx} {ad : Nat → Nat} (C : Ok X cX11_field RX11 1 (some .int) 7 152) (N : Nat) (σ : St) : Sim X scM ad 1 outI 0 [(0, .ref (ad 0))] [] σ (m_field N σ) := by
  unfold m_field
  refine g_aload_n C 0 dX11_field_0 rfl rfl ?_
  refine mg8 C (v := gI σ 8) dX11_field_1 rfl ?_
  refine g_if_ne C 41 dX11_field_4 (by decide) ?_ ?_
  · exact g_sub [0] rfl (s_m_field_41 C N σ)
  · refine g_aload_n C 0 dX11_field_7 rfl rfl ?_
    refine mg6 C (v := gI σ 6) dX11_field_8 rfl ?_
    refine g_if_ne C 32 dX11_field_11 (by decide) ?_ ?_
    · exact g_sub [0] rfl (s_m_field_32 C N σ)
    · refine g_aload_n C 0 dX11_field_14 rfl rfl ?_
      refine mg7 C (v := gI σ 7) dX11_field_15 rfl ?_
      refine g_bipush C 15 dX11_field_18 (by decide) ?_
      refine g_icmp_eq C 41 dX11_field_20 (by decide) ?_ ?_
      · exact g_sub [0] rfl (s_m_field_41 C N σ)
      · refine g_aload_n C 0 dX11_field_23 rfl rfl ?_
        refine mg7 C (v := gI σ 7) dX11_field_24 rfl ?_
        refine g_bipush C 16 dX11_field_27 (by decide) ?_
        refine g_icmp_eq C 41 dX11_field_29 (by decide) ?_ ?_
        · exact g_sub [0] rfl (s_m_field_41 C N σ)
        · exact g_sub [0] rfl (s_m_field_32 C N σ)
theorem c_m_field {Y : Yx} {ad : Nat → Nat} {N : Nat} {σ : St} {r : Int32} {σ' : St} (h : m_field N σ = some (r, σ')) : Con Y scM ad yX11_field cX11_field 1 (some .int) 7 152 [.ref (ad 0)] σ (outI r) σ' := con_of (by decide) rfl (Nat.le_of_ble_eq_true rfl) rfl (fun X hX C => s_m_field C N σ) h
set_option maxRecDepth 20000 in
theorem v_m_field {X : Cx} {cc : ByteArray} {nL : Nat} {ret : Option FieldType} {fr lo : Nat} {ad : Nat → Nat} {ρ : Type} {out : ρ → Option Value} {pc : Nat} {lv : List (Nat × Value)} {rest : List Value} {σ : St} {N : Nat} {K : Int32 → St → Option (ρ × St)} (C : Ok X cc RX11 nL ret fr lo) (hR : 7 + 1 ≤ fr ∧ 8 + (1 + 11) + 152 ≤ lo) (hcat : (rest.map fun v => v.category).sum ≤ 8) (hdg : decode cc pc = .ok (.invokevirtual 227, 3)) (k : ∀ (r : Int32) (σ' : St), m_field N σ = some (r, σ') → Sim X scM ad nL out (pc + 3) lv (.int r :: rest) σ' (K r σ')) : Sim X scM ad nL out pc lv (.ref (ad 0) :: rest) σ (bd (m_field N σ) K) := g_callV C (out1 := outI) (y := yX11_field) (n := 0) ⟨gw_1382, gw_1384, gw_77, gw_117, gw_1385⟩ (by decide +kernel) hR (o := 0) (ci := 10) (q9 := (RX11, TX11, 68)) imM0 rfl rfl rfl (fun r σ' h => c_m_field h) rfl rfl hcat hdg k

def m_call_106 (N : Nat) (σ : St) (x1 : Int32) (x2 : Int32) (x3 : Int32) (x4 : Int32) : Option (Unit × St) :=
  bd (m_wants N σ 41) (fun _ σ6 => (if (gI σ6 8) = 0 then gd (ib (gI σ6 33) 400) (gd (ib (gI σ6 33) 400) (gd (ib (gI σ6 33) 400) (bd (m_emit N (sI (sA (sA (sA σ6 30 ((gI σ6 33).toNatClampNeg) x1) 31 ((gI σ6 33).toNatClampNeg) x2) 32 ((gI σ6 33).toNatClampNeg) x3) 33 ((gI σ6 33) + 1)) 6 x2 x3 0) (fun r7 σ8 => gd (ib (1300 + r7) 2600) (some ((), (sA σ8 16 ((1300 + r7).toNatClampNeg) x4))))))) else some ((), σ6)))
def m_call_78 (N : Nat) (rec45 : St → Int32 → Int32 → Int32 → Int32 → Int32 → Option (Unit × St)) (σ : St) (x1 : Int32) (x2 : Int32) (x3 : Int32) (x4 : Int32) : Option (Unit × St) :=
  bd (m_taken N σ 0) (fun r9 σ10 => bd (m_takesSign N σ10 44) (fun r11 σ12 => rec45 σ12 x1 x2 (x3 + 1) (x4 ||| (r9 <<< ((5 * x3) &&& 31))) r11))
def m_call_45_b (N : Nat) (rec45 : St → Int32 → Int32 → Int32 → Int32 → Int32 → Option (Unit × St)) (σ : St) (x1 : Int32) (x2 : Int32) (x3 : Int32) (x4 : Int32) (x5 : Int32) : Option (Unit × St) :=
  (if x5 = 0 then m_call_106 N σ x1 x2 x3 x4 else (if (gI σ 8) = 0 then (if (gI σ 6) = 0 then (if x3 = 4 then bd (m_wrong N σ 2 (gI σ 5)) (fun _ σ14 => m_call_78 N rec45 σ14 x1 x2 x3 x4) else m_call_78 N rec45 σ x1 x2 x3 x4) else m_call_78 N rec45 σ x1 x2 x3 x4) else m_call_106 N σ x1 x2 x3 x4))
def m_call_45 (N : Nat) : Nat → St → Int32 → Int32 → Int32 → Int32 → Int32 → Option (Unit × St)
  | 0 => fun _ _ _ _ _ _ => none
  | n + 1 => fun σ x1 x2 x3 x4 x5 => m_call_45_b N (m_call_45 N n) σ x1 x2 x3 x4 x5
def m_call (N : Nat) (σ : St) : Option (Unit × St) :=
  bd (m_taken N σ 1) (fun r1 σ2 => bd (m_wants N σ2 40) (fun _ σ4 => (if (gI σ4 8) = 0 then bd (m_isSign N σ4 41) (fun r15 σ16 => (if r15 = 0 then m_call_45 N N σ16 (gI σ 5) r1 0 0 1 else m_call_45 N N σ16 (gI σ 5) r1 0 0 0)) else m_call_45 N N σ4 (gI σ 5) r1 0 0 0)))
set_option maxHeartbeats 4000000 in
set_option maxRecDepth 100000 in
theorem s_m_call_106 {X : Cx} {ad : Nat → Nat} (C : Ok X cX11_call RX11 6 none 8 172) (N : Nat) (σ : St) (x1 : Int32) (x2 : Int32) (x3 : Int32) (x4 : Int32) : Sim X scM ad 6 outV 106 [(0, .ref (ad 0)), (1, .int x1), (2, .int x2), (3, .int x3), (4, .int x4)] [] σ (m_call_106 N σ x1 x2 x3 x4) := by
  unfold m_call_106
  refine g_aload_n C 0 dX11_call_106 rfl rfl ?_
  refine g_bipush C 41 dX11_call_107 (by decide) ?_
  refine v_m_wants C ⟨by decide, by decide⟩ (Nat.le_of_ble_eq_true rfl) dX11_call_109 (fun r5 σ6 _ => ?_)
  refine g_aload_n C 0 dX11_call_112 rfl rfl ?_
  refine mg8 C (v := gI σ6 8) dX11_call_113 rfl ?_
  refine g_if_eq C 120 dX11_call_116 (by decide) ?_ ?_
  · refine g_aload_n C 0 dX11_call_120 rfl rfl ?_
    refine mg30 C dX11_call_121 ?_
    refine g_aload_n C 0 dX11_call_124 rfl rfl ?_
    refine mg33 C (v := gI σ6 33) dX11_call_125 rfl ?_
    refine g_iload_n C 1 dX11_call_128 rfl rfl ?_
    refine mw30 C dX11_call_129 ?_
    refine g_aload_n C 0 dX11_call_130 rfl rfl ?_
    refine mg31 C dX11_call_131 ?_
    refine g_aload_n C 0 dX11_call_134 rfl rfl ?_
    refine mg33 C (v := gI σ6 33) dX11_call_135 rfl ?_
    refine g_iload_n C 2 dX11_call_138 rfl rfl ?_
    refine mw31 C dX11_call_139 ?_
    refine g_aload_n C 0 dX11_call_140 rfl rfl ?_
    refine mg32 C dX11_call_141 ?_
    refine g_aload_n C 0 dX11_call_144 rfl rfl ?_
    refine mg33 C (v := gI σ6 33) dX11_call_145 rfl ?_
    refine g_iload_n C 3 dX11_call_148 rfl rfl ?_
    refine mw32 C dX11_call_149 ?_
    refine g_aload_n C 0 dX11_call_150 rfl rfl ?_
    refine g_dup C dX11_call_151 rfl ?_
    refine mg33 C (v := gI σ6 33) dX11_call_152 rfl ?_
    refine g_iconst C 1 dX11_call_155 (by decide) ?_
    refine g_iadd C dX11_call_156 ?_
    refine mp33 C dX11_call_157 ?_
    refine g_aload_n C 0 dX11_call_160 rfl rfl ?_
    refine mg16 C dX11_call_161 ?_
    refine g_sipush C 1300 dX11_call_164 (by decide) ?_
    refine g_aload_n C 0 dX11_call_167 rfl rfl ?_
    refine g_bipush C 6 dX11_call_168 (by decide) ?_
    refine g_iload_n C 2 dX11_call_170 rfl rfl ?_
    refine g_iload_n C 3 dX11_call_171 rfl rfl ?_
    refine g_iconst C 0 dX11_call_172 (by decide) ?_
    refine v_m_emit C ⟨by decide, by decide⟩ (Nat.le_of_ble_eq_true rfl) dX11_call_173 (fun r7 σ8 _ => ?_)
    refine g_iadd C dX11_call_176 ?_
    refine g_iload C 4 dX11_call_177 rfl ?_
    refine mw16 C dX11_call_179 ?_
    exact g_vret C dX11_call_180
  · exact g_vret C dX11_call_119
set_option maxHeartbeats 4000000 in
set_option maxRecDepth 100000 in
theorem s_m_call_78 {X : Cx} {ad : Nat → Nat} (C : Ok X cX11_call RX11 6 none 8 172) (N : Nat) {rec45 : St → Int32 → Int32 → Int32 → Int32 → Int32 → Option (Unit × St)} (hrec45 : ∀ (σ : St) (x1 : Int32) (x2 : Int32) (x3 : Int32) (x4 : Int32) (x5 : Int32), Sim X scM ad 6 outV 45 [(0, .ref (ad 0)), (1, .int x1), (2, .int x2), (3, .int x3), (4, .int x4), (5, .int x5)] [] σ (rec45 σ x1 x2 x3 x4 x5)) (σ : St) (x1 : Int32) (x2 : Int32) (x3 : Int32) (x4 : Int32) : Sim X scM ad 6 outV 78 [(0, .ref (ad 0)), (1, .int x1), (2, .int x2), (3, .int x3), (4, .int x4)] [] σ (m_call_78 N rec45 σ x1 x2 x3 x4) := by
  unfold m_call_78
  refine g_iload C 4 dX11_call_78 rfl ?_
  refine g_aload_n C 0 dX11_call_80 rfl rfl ?_
  refine g_iconst C 0 dX11_call_81 (by decide) ?_
  refine v_m_taken C ⟨by decide, by decide⟩ (Nat.le_of_ble_eq_true rfl) dX11_call_82 (fun r9 σ10 _ => ?_)
  refine g_iconst C 5 dX11_call_85 (by decide) ?_
  refine g_iload_n C 3 dX11_call_86 rfl rfl ?_
  refine g_imul C dX11_call_87 ?_
  refine g_ishl C dX11_call_88 ?_
  refine g_ior C dX11_call_89 ?_
  refine g_istore C [(4, .int (x4 ||| (r9 <<< ((5 * x3) &&& 31)))), (0, .ref (ad 0)), (1, .int x1), (2, .int x2), (3, .int x3)] dX11_call_90 (by decide) rfl ?_
  refine g_iinc C (x3 + 1) 4 [(3, .int (x3 + 1)), (4, .int (x4 ||| (r9 <<< ((5 * x3) &&& 31)))), (0, .ref (ad 0)), (1, .int x1), (2, .int x2)] dX11_call_92 rfl rfl (by decide) rfl ?_
  refine g_aload_n C 2 dX11_call_95 rfl rfl ?_
  refine g_bipush C 44 dX11_call_96 (by decide) ?_
  refine v_m_takesSign C ⟨by decide, by decide⟩ (Nat.le_of_ble_eq_true rfl) dX11_call_98 (fun r11 σ12 _ => ?_)
  refine g_istore C [(5, .int r11), (3, .int (x3 + 1)), (4, .int (x4 ||| (r9 <<< ((5 * x3) &&& 31)))), (0, .ref (ad 0)), (1, .int x1), (2, .int x2)] dX11_call_101 (by decide) rfl ?_
  refine g_goto C 45 dX11_call_103 (by decide) ?_
  exact g_sub [3, 4, 5, 1, 2, 0] rfl (hrec45 σ12 x1 x2 (x3 + 1) (x4 ||| (r9 <<< ((5 * x3) &&& 31))) r11)
set_option maxHeartbeats 4000000 in
set_option maxRecDepth 100000 in
theorem s_m_call_45_b {X : Cx} {ad : Nat → Nat} (C : Ok X cX11_call RX11 6 none 8 172) (N : Nat) {rec45 : St → Int32 → Int32 → Int32 → Int32 → Int32 → Option (Unit × St)} (hrec45 : ∀ (σ : St) (x1 : Int32) (x2 : Int32) (x3 : Int32) (x4 : Int32) (x5 : Int32), Sim X scM ad 6 outV 45 [(0, .ref (ad 0)), (1, .int x1), (2, .int x2), (3, .int x3), (4, .int x4), (5, .int x5)] [] σ (rec45 σ x1 x2 x3 x4 x5)) (σ : St) (x1 : Int32) (x2 : Int32) (x3 : Int32) (x4 : Int32) (x5 : Int32) : Sim X scM ad 6 outV 45 [(0, .ref (ad 0)), (1, .int x1), (2, .int x2), (3, .int x3), (4, .int x4), (5, .int x5)] [] σ (m_call_45_b N rec45 σ x1 x2 x3 x4 x5) := by
  unfold m_call_45_b
  refine g_iload C 5 dX11_call_45 rfl ?_
  refine g_if_eq C 106 dX11_call_47 (by decide) ?_ ?_
  · exact g_sub [0, 1, 2, 3, 4] rfl (s_m_call_106 C N σ x1 x2 x3 x4)
  · refine g_aload_n C 0 dX11_call_50 rfl rfl ?_
    refine mg8 C (v := gI σ 8) dX11_call_51 rfl ?_
    refine g_if_ne C 106 dX11_call_54 (by decide) ?_ ?_
    · exact g_sub [0, 1, 2, 3, 4] rfl (s_m_call_106 C N σ x1 x2 x3 x4)
    · refine g_aload_n C 0 dX11_call_57 rfl rfl ?_
      refine mg6 C (v := gI σ 6) dX11_call_58 rfl ?_
      refine g_if_ne C 78 dX11_call_61 (by decide) ?_ ?_
      · exact g_sub [0, 1, 2, 3, 4] rfl (s_m_call_78 C N hrec45 σ x1 x2 x3 x4)
      · refine g_iload_n C 3 dX11_call_64 rfl rfl ?_
        refine g_iconst C 4 dX11_call_65 (by decide) ?_
        refine g_icmp_ne C 78 dX11_call_66 (by decide) ?_ ?_
        · exact g_sub [0, 1, 2, 3, 4] rfl (s_m_call_78 C N hrec45 σ x1 x2 x3 x4)
        · refine g_aload_n C 0 dX11_call_69 rfl rfl ?_
          refine g_iconst C 2 dX11_call_70 (by decide) ?_
          refine g_aload_n C 0 dX11_call_71 rfl rfl ?_
          refine mg5 C (v := gI σ 5) dX11_call_72 rfl ?_
          refine v_m_wrong C ⟨by decide, by decide⟩ (Nat.le_of_ble_eq_true rfl) dX11_call_75 (fun r13 σ14 _ => ?_)
          exact g_sub [0, 1, 2, 3, 4] rfl (s_m_call_78 C N hrec45 σ14 x1 x2 x3 x4)
set_option maxHeartbeats 4000000 in
set_option maxRecDepth 100000 in
theorem s_m_call_45 {X : Cx} {ad : Nat → Nat} (C : Ok X cX11_call RX11 6 none 8 172) (N : Nat) : ∀ (n : Nat) (σ : St) (x1 : Int32) (x2 : Int32) (x3 : Int32) (x4 : Int32) (x5 : Int32), Sim X scM ad 6 outV 45 [(0, .ref (ad 0)), (1, .int x1), (2, .int x2), (3, .int x3), (4, .int x4), (5, .int x5)] [] σ (m_call_45 N n σ x1 x2 x3 x4 x5) := by
  intro n
  induction n with
  | zero => intro σ x1 x2 x3 x4 x5; exact g_none
  | succ n ih => intro σ x1 x2 x3 x4 x5; exact s_m_call_45_b C N ih σ x1 x2 x3 x4 x5
set_option maxHeartbeats 4000000 in
set_option maxRecDepth 100000 in
theorem s_m_call {X : Cx} {ad : Nat → Nat} (C : Ok X cX11_call RX11 6 none 8 172) (N : Nat) (σ : St) : Sim X scM ad 6 outV 0 [(0, .ref (ad 0))] [] σ (m_call N σ) := by
  unfold m_call
  refine g_aload_n C 0 dX11_call_0 rfl rfl ?_
  refine mg5 C (v := gI σ 5) dX11_call_1 rfl ?_
  refine g_istore_n C [(1, .int (gI σ 5)), (0, .ref (ad 0))] dX11_call_4 rfl (by decide) rfl ?_
  refine g_aload_n C 1 dX11_call_5 rfl rfl ?_
  refine g_iconst C 1 dX11_call_6 (by decide) ?_
  refine v_m_taken C ⟨by decide, by decide⟩ (Nat.le_of_ble_eq_true rfl) dX11_call_7 (fun r1 σ2 _ => ?_)
  refine g_istore_n C [(2, .int r1), (1, .int (gI σ 5)), (0, .ref (ad 0))] dX11_call_10 rfl (by decide) rfl ?_
  refine g_aload_n C 2 dX11_call_11 rfl rfl ?_
  refine g_bipush C 40 dX11_call_12 (by decide) ?_
  refine v_m_wants C ⟨by decide, by decide⟩ (Nat.le_of_ble_eq_true rfl) dX11_call_14 (fun r3 σ4 _ => ?_)
  refine g_iconst C 0 dX11_call_17 (by decide) ?_
  refine g_istore_n C [(3, .int 0), (2, .int r1), (1, .int (gI σ 5)), (0, .ref (ad 0))] dX11_call_18 rfl (by decide) rfl ?_
  refine g_iconst C 0 dX11_call_19 (by decide) ?_
  refine g_istore C [(4, .int 0), (3, .int 0), (2, .int r1), (1, .int (gI σ 5)), (0, .ref (ad 0))] dX11_call_20 (by decide) rfl ?_
  refine g_aload_n C 4 dX11_call_22 rfl rfl ?_
  refine mg8 C (v := gI σ4 8) dX11_call_23 rfl ?_
  refine g_if_ne C 42 dX11_call_26 (by decide) ?_ ?_
  · refine g_iconst C 0 dX11_call_42 (by decide) ?_
    refine g_istore C [(5, .int 0), (4, .int 0), (3, .int 0), (2, .int r1), (1, .int (gI σ 5)), (0, .ref (ad 0))] dX11_call_43 (by decide) rfl ?_
    exact g_sub [5, 4, 3, 2, 1, 0] rfl (s_m_call_45 C N N σ4 (gI σ 5) r1 0 0 0)
  · refine g_aload_n C 4 dX11_call_29 rfl rfl ?_
    refine g_bipush C 41 dX11_call_30 (by decide) ?_
    refine v_m_isSign C ⟨by decide, by decide⟩ (Nat.le_of_ble_eq_true rfl) dX11_call_32 (fun r15 σ16 _ => ?_)
    refine g_if_ne C 42 dX11_call_35 (by decide) ?_ ?_
    · refine g_iconst C 0 dX11_call_42 (by decide) ?_
      refine g_istore C [(5, .int 0), (4, .int 0), (3, .int 0), (2, .int r1), (1, .int (gI σ 5)), (0, .ref (ad 0))] dX11_call_43 (by decide) rfl ?_
      exact g_sub [5, 4, 3, 2, 1, 0] rfl (s_m_call_45 C N N σ16 (gI σ 5) r1 0 0 0)
    · refine g_iconst C 1 dX11_call_38 (by decide) ?_
      refine g_goto C 43 dX11_call_39 (by decide) ?_
      refine g_istore C [(5, .int 1), (4, .int 0), (3, .int 0), (2, .int r1), (1, .int (gI σ 5)), (0, .ref (ad 0))] dX11_call_43 (by decide) rfl ?_
      exact g_sub [5, 4, 3, 2, 1, 0] rfl (s_m_call_45 C N N σ16 (gI σ 5) r1 0 0 1)
theorem c_m_call {Y : Yx} {ad : Nat → Nat} {N : Nat} {σ : St} {r : Unit} {σ' : St} (h : m_call N σ = some (r, σ')) : Con Y scM ad yX11_call cX11_call 6 none 8 172 [.ref (ad 0)] σ (outV r) σ' := con_of (by decide) rfl (Nat.le_of_ble_eq_true rfl) rfl (fun X hX C => s_m_call C N σ) h
set_option maxRecDepth 20000 in
theorem v_m_call {X : Cx} {cc : ByteArray} {nL : Nat} {ret : Option FieldType} {fr lo : Nat} {ad : Nat → Nat} {ρ : Type} {out : ρ → Option Value} {pc : Nat} {lv : List (Nat × Value)} {rest : List Value} {σ : St} {N : Nat} {K : Unit → St → Option (ρ × St)} (C : Ok X cc RX11 nL ret fr lo) (hR : 8 + 1 ≤ fr ∧ 8 + (6 + 11) + 172 ≤ lo) (hcat : (rest.map fun v => v.category).sum ≤ 8) (hdg : decode cc pc = .ok (.invokevirtual 233, 3)) (k : ∀ (r : Unit) (σ' : St), m_call N σ = some (r, σ') → Sim X scM ad nL out (pc + 3) lv rest σ' (K r σ')) : Sim X scM ad nL out pc lv (.ref (ad 0) :: rest) σ (bd (m_call N σ) K) := g_callV C (out1 := outV) (y := yX11_call) (n := 0) ⟨gw_1390, gw_1392, gw_79, gw_117, gw_1393⟩ (by decide +kernel) hR (o := 0) (ci := 10) (q9 := (RX11, TX11, 68)) imM0 rfl rfl rfl (fun r σ' h => c_m_call h) rfl rfl hcat hdg k
