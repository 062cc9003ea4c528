def x6_go_46 (N : Nat) (σ : St) : Option (Int32 × St) :=
  (if (gI σ 1511) = (-1) then some (3, σ) else some (gI σ 1511, σ))
def x6_go_40 (N : Nat) (rec8 : St → Int32 → Option (Int32 × St)) (σ : St) (x3 : Int32) : Option (Int32 × St) :=
  rec8 σ (x3 + 1)
def x6_go_8_b (N : Nat) (rec8 : St → Int32 → Option (Int32 × St)) (σ : St) (x3 : Int32) : Option (Int32 × St) :=
  (if 1000000 ≤ x3 then x6_go_46 N σ else (if (gI σ 1511) = (-1) then (if (gI σ 1515) = 0 then bd (x6_step N σ) (fun _ σ4 => x6_go_40 N rec8 σ4 x3) else bd (x6_finish N σ) (fun _ σ6 => x6_go_40 N rec8 σ6 x3)) else x6_go_46 N σ))
def x6_go_8 (N : Nat) : Nat → St → Int32 → Option (Int32 × St)
  | 0 => fun _ _ => none
  | n + 1 => fun σ x3 => x6_go_8_b N (x6_go_8 N n) σ x3
def x6_go (N : Nat) (σ : St) (a1 : Int32) (a2 : Int32) : Option (Int32 × St) :=
  bd (x6_begin N σ a1 a2) (fun _ σ2 => x6_go_8 N N σ2 0)
set_option maxHeartbeats 4000000 in
set_option maxRecDepth 100000 in
theorem s_x6_go_46 {X : Cx} {ad : Nat → Nat} (C : Ok X cX6_go RX6 4 (some .int) 5 114) (N : Nat) (σ : St) : Sim X scC ad 4 outI 46 [(0, .ref (ad 15))] [] σ (x6_go_46 N σ) := by
  unfold x6_go_46
  refine g_aload_n C 0 dX6_go_46 rfl rfl ?_
  refine gf_RX6_44 C  (v := gI σ 1511) dX6_go_47 rfl ?_
  refine g_iconst C (-1) dX6_go_50 (by decide) ?_
  refine g_icmp_ne C 58 dX6_go_51 (by decide) ?_ ?_
  · refine g_aload_n C 0 dX6_go_58 rfl rfl ?_
    refine gf_RX6_44 C  (v := gI σ 1511) dX6_go_59 rfl ?_
    exact g_iret C dX6_go_62
  · refine g_iconst C 3 dX6_go_54 (by decide) ?_
    refine g_goto C 62 dX6_go_55 (by decide) ?_
    exact g_iret C dX6_go_62
set_option maxHeartbeats 4000000 in
set_option maxRecDepth 100000 in
theorem s_x6_go_40 {X : Cx} {ad : Nat → Nat} (C : Ok X cX6_go RX6 4 (some .int) 5 114) (N : Nat) {rec8 : St → Int32 → Option (Int32 × St)} (hrec8 : ∀ (σ : St) (x3 : Int32), Sim X scC ad 4 outI 8 [(0, .ref (ad 15)), (3, .int x3)] [] σ (rec8 σ x3)) (σ : St) (x3 : Int32) : Sim X scC ad 4 outI 40 [(0, .ref (ad 15)), (3, .int x3)] [] σ (x6_go_40 N rec8 σ x3) := by
  unfold x6_go_40
  refine g_iinc C (x3 + 1) 1 [(3, .int (x3 + 1)), (0, .ref (ad 15))] dX6_go_40 rfl rfl (by decide) rfl ?_
  refine g_goto C 8 dX6_go_43 (by decide) ?_
  exact g_sub [1, 0] rfl (hrec8 σ (x3 + 1))
set_option maxHeartbeats 4000000 in
set_option maxRecDepth 100000 in
theorem s_x6_go_8_b {X : Cx} {ad : Nat → Nat} (C : Ok X cX6_go RX6 4 (some .int) 5 114) (N : Nat) {rec8 : St → Int32 → Option (Int32 × St)} (hrec8 : ∀ (σ : St) (x3 : Int32), Sim X scC ad 4 outI 8 [(0, .ref (ad 15)), (3, .int x3)] [] σ (rec8 σ x3)) (σ : St) (x3 : Int32) : Sim X scC ad 4 outI 8 [(0, .ref (ad 15)), (3, .int x3)] [] σ (x6_go_8_b N rec8 σ x3) := by
  unfold x6_go_8_b
  refine g_iload_n C 1 dX6_go_8 rfl rfl ?_
  refine g_ldc C (v := 1000000) gw_953 dX6_go_9 ?_
  refine g_icmp_ge C 46 dX6_go_11 (by decide) ?_ ?_
  · exact g_sub [0] rfl (s_x6_go_46 C N σ)
  · refine g_aload_n C 0 dX6_go_14 rfl rfl ?_
    refine gf_RX6_44 C  (v := gI σ 1511) dX6_go_15 rfl ?_
    refine g_iconst C (-1) dX6_go_18 (by decide) ?_
    refine g_icmp_ne C 46 dX6_go_19 (by decide) ?_ ?_
    · exact g_sub [0] rfl (s_x6_go_46 C N σ)
    · refine g_aload_n C 0 dX6_go_22 rfl rfl ?_
      refine gf_RX6_48 C  (v := gI σ 1515) dX6_go_23 rfl ?_
      refine g_if_eq C 36 dX6_go_26 (by decide) ?_ ?_
      · refine g_aload_n C 0 dX6_go_36 rfl rfl ?_
        refine v_x6_step_RX6 C ⟨by decide, by decide⟩ (Nat.le_of_ble_eq_true rfl) dX6_go_37 (fun r3 σ4 _ => ?_)
        exact g_sub [0, 1] rfl (s_x6_go_40 C N hrec8 σ4 x3)
      · refine g_aload_n C 0 dX6_go_29 rfl rfl ?_
        refine v_x6_finish_RX6 C ⟨by decide, by decide⟩ (Nat.le_of_ble_eq_true rfl) dX6_go_30 (fun r5 σ6 _ => ?_)
        refine g_goto C 40 dX6_go_33 (by decide) ?_
        exact g_sub [0, 1] rfl (s_x6_go_40 C N hrec8 σ6 x3)
set_option maxHeartbeats 4000000 in
set_option maxRecDepth 100000 in
theorem s_x6_go_8 {X : Cx} {ad : Nat → Nat} (C : Ok X cX6_go RX6 4 (some .int) 5 114) (N : Nat) : ∀ (n : Nat) (σ : St) (x3 : Int32), Sim X scC ad 4 outI 8 [(0, .ref (ad 15)), (3, .int x3)] [] σ (x6_go_8 N n σ x3) := by
  intro n
  induction n with
  | zero => intro σ x3; exact g_none
  | succ n ih => intro σ x3; exact s_x6_go_8_b C N ih σ x3
set_option maxHeartbeats 4000000 in
set_option maxRecDepth 100000 in
theorem s_x6_go {X : Cx} {ad : Nat → Nat} (C : Ok X cX6_go RX6 4 (some .int) 5 114) (N : Nat) (σ : St) (a1 : Int32) (a2 : Int32) : Sim X scC ad 4 outI 0 [(0, .ref (ad 15)), (1, .int a1), (2, .int a2)] [] σ (x6_go N σ a1 a2) := by
  unfold x6_go
  refine g_aload_n C 0 dX6_go_0 rfl rfl ?_
  refine g_iload_n C 1 dX6_go_1 rfl rfl ?_
  refine g_iload_n C 2 dX6_go_2 rfl rfl ?_
  refine v_x6_begin_RX6 C ⟨by decide, by decide⟩ (Nat.le_of_ble_eq_true rfl) dX6_go_3 (fun r1 σ2 _ => ?_)
  refine g_iconst C 0 dX6_go_6 (by decide) ?_
  refine g_istore_n C [(3, .int 0), (0, .ref (ad 15)), (1, .int a1), (2, .int a2)] dX6_go_7 rfl (by decide) rfl ?_
  exact g_sub [1, 0] rfl (s_x6_go_8 C N N σ2 0)
theorem c_x6_go {Y : Yx} {ad : Nat → Nat} {N : Nat} {σ : St} {a1 : Int32} {a2 : Int32} {r : Int32} {σ' : St} (h : x6_go N σ a1 a2 = some (r, σ')) : Con Y scC ad yX6_go cX6_go 4 (some .int) 5 114 [.ref (ad 15), .int a1, .int a2] σ (outI r) σ' := con_of (by decide) rfl (Nat.le_of_ble_eq_true rfl) rfl (fun X hX C => s_x6_go C N σ a1 a2) h
set_option maxRecDepth 20000 in
theorem v_x6_go_RX10 {X : Cx} {cc : ByteArray} {nL : Nat} {ret : Option FieldType} {fr lo : Nat} {ad : Nat → Nat} {ρ : Type} {out : ρ → Option Value} {pc : Nat} {lv : List (Nat × Value)} {rest : List Value} {σ : St} {N : Nat} {K : Int32 → St → Option (ρ × St)} {a1 : Int32} {a2 : Int32} (C : Ok X cc RX10 nL ret fr lo) (hR : 5 + 1 ≤ fr ∧ 8 + (4 + 11) + 114 ≤ lo) (hcat : (rest.map fun v => v.category).sum ≤ 8) (hdg : decode cc pc = .ok (.invokevirtual 194, 3)) (k : ∀ (r : Int32) (σ' : St), x6_go N σ a1 a2 = some (r, σ') → Sim X scC ad nL out (pc + 3) lv (.int r :: rest) σ' (K r σ')) : Sim X scC ad nL out pc lv (.int a2 :: .int a1 :: .ref (ad 15) :: rest) σ (bd (x6_go N σ a1 a2) K) := g_callV C (out1 := outI) (y := yX6_go) (n := 2) ⟨gw_925, gw_926, gw_927, gw_114, gw_928⟩ (by decide +kernel) hR (o := 15) (ci := 5) (q9 := (RX6, TX6, 16)) im_15 rfl rfl rfl (fun r σ' h => c_x6_go h) rfl rfl hcat hdg k
set_option maxRecDepth 20000 in
theorem v_x6_go_RX9 {X : Cx} {cc : ByteArray} {nL : Nat} {ret : Option FieldType} {fr lo : Nat} {ad : Nat → Nat} {ρ : Type} {out : ρ → Option Value} {pc : Nat} {lv : List (Nat × Value)} {rest : List Value} {σ : St} {N : Nat} {K : Int32 → St → Option (ρ × St)} {a1 : Int32} {a2 : Int32} (C : Ok X cc RX9 nL ret fr lo) (hR : 5 + 1 ≤ fr ∧ 8 + (4 + 11) + 114 ≤ lo) (hcat : (rest.map fun v => v.category).sum ≤ 8) (hdg : decode cc pc = .ok (.invokevirtual 52, 3)) (k : ∀ (r : Int32) (σ' : St), x6_go N σ a1 a2 = some (r, σ') → Sim X scC ad nL out (pc + 3) lv (.int r :: rest) σ' (K r σ')) : Sim X scC ad nL out pc lv (.int a2 :: .int a1 :: .ref (ad 15) :: rest) σ (bd (x6_go N σ a1 a2) K) := g_callV C (out1 := outI) (y := yX6_go) (n := 2) ⟨gw_1019, gw_926, gw_927, gw_114, gw_928⟩ (by decide +kernel) hR (o := 15) (ci := 5) (q9 := (RX6, TX6, 16)) im_15 rfl rfl rfl (fun r σ' h => c_x6_go h) rfl rfl hcat hdg k

def x7_startAt (N : Nat) (σ : St) (a1 : Int32) : Option (Unit × St) :=
  bd (j_fill N (sI σ 701 a1) 8 3) (fun _ σ2 => some ((), σ2))
set_option maxHeartbeats 4000000 in
set_option maxRecDepth 100000 in
theorem s_x7_startAt {X : Cx} {ad : Nat → Nat} (C : Ok X cX7_startAt RX7 2 none 1 23) (N : Nat) (σ : St) (a1 : Int32) : Sim X scC ad 2 outV 0 [(0, .ref (ad 7)), (1, .int a1)] [] σ (x7_startAt N σ a1) := by
  unfold x7_startAt
  refine g_aload_n C 0 dX7_startAt_0 rfl rfl ?_
  refine g_iload_n C 1 dX7_startAt_1 rfl rfl ?_
  refine pf_RX7_9 C dX7_startAt_2 ?_
  refine g_aload_n C 0 dX7_startAt_5 rfl rfl ?_
  refine gf_RX7_15 C  dX7_startAt_6 ?_
  refine g_iconst C 3 dX7_startAt_9 (by decide) ?_
  refine v_j_fill_RX7 C ⟨by decide, by decide⟩ (Nat.le_of_ble_eq_true rfl) dX7_startAt_10 (fun r1 σ2 _ => ?_)
  exact g_vret C dX7_startAt_13
theorem c_x7_startAt {Y : Yx} {ad : Nat → Nat} {N : Nat} {σ : St} {a1 : Int32} {r : Unit} {σ' : St} (h : x7_startAt N σ a1 = some (r, σ')) : Con Y scC ad yX7_startAt cX7_startAt 2 none 1 23 [.ref (ad 7), .int a1] σ (outV r) σ' := con_of (by decide) rfl (Nat.le_of_ble_eq_true rfl) rfl (fun X hX C => s_x7_startAt C N σ a1) h
set_option maxRecDepth 20000 in
theorem v_x7_startAt_RX10 {X : Cx} {cc : ByteArray} {nL : Nat} {ret : Option FieldType} {fr lo : Nat} {ad : Nat → Nat} {ρ : Type} {out : ρ → Option Value} {pc : Nat} {lv : List (Nat × Value)} {rest : List Value} {σ : St} {N : Nat} {K : Unit → St → Option (ρ × St)} {a1 : Int32} (C : Ok X cc RX10 nL ret fr lo) (hR : 1 + 1 ≤ fr ∧ 8 + (2 + 11) + 23 ≤ lo) (hcat : (rest.map fun v => v.category).sum ≤ 8) (hdg : decode cc pc = .ok (.invokevirtual 116, 3)) (k : ∀ (r : Unit) (σ' : St), x7_startAt N σ a1 = some (r, σ') → Sim X scC ad nL out (pc + 3) lv rest σ' (K r σ')) : Sim X scC ad nL out pc lv (.int a1 :: .ref (ad 7) :: rest) σ (bd (x7_startAt N σ a1) K) := g_callV C (out1 := outV) (y := yX7_startAt) (n := 1) ⟨gw_787, gw_788, gw_789, gw_112, gw_790⟩ (by decide +kernel) hR (o := 7) (ci := 6) (q9 := (RX7, TX7, 3)) im_7 rfl rfl rfl (fun r σ' h => c_x7_startAt h) rfl rfl hcat hdg k

def x7_allows_53 (N : Nat) (rec32 : St → Int32 → Int32 → Option (Int32 × St)) (σ : St) (x1 : Int32) (x2 : Int32) (t0 : Int32) : Option (Int32 × St) :=
  bd (x5_at N σ 8 x2) (fun r8 σ9 => (if (r8 &&& t0) = 0 then some (0, σ9) else rec32 σ9 x1 (x2 + 1)))
def x7_allows_32_b (N : Nat) (rec32 : St → Int32 → Int32 → Option (Int32 × St)) (σ : St) (x1 : Int32) (x2 : Int32) : Option (Int32 × St) :=
  bd (x7_outers N σ) (fun r6 σ7 => (if r6 ≤ x2 then some (1, σ7) else (if ((x1 >>> (x2 &&& 31)) &&& 1) = 0 then x7_allows_53 N rec32 σ7 x1 x2 1 else x7_allows_53 N rec32 σ7 x1 x2 2)))
def x7_allows_32 (N : Nat) : Nat → St → Int32 → Int32 → Option (Int32 × St)
  | 0 => fun _ _ _ => none
  | n + 1 => fun σ x1 x2 => x7_allows_32_b N (x7_allows_32 N n) σ x1 x2
def x7_allows (N : Nat) (σ : St) (a1 : Int32) : Option (Int32 × St) :=
  gd (isPr (gP σ 700)) (bd (x3_has N σ (gP σ 700) (gI σ 701)) (fun r2 σ3 => (if r2 = 0 then some (0, σ3) else (if a1 < 0 then some (0, σ3) else bd (x7_outers N σ3) (fun r4 σ5 => (if a1 < ((1 : Int32) <<< (r4 &&& 31)) then x7_allows_32 N N σ5 a1 0 else some (0, σ5)))))))
set_option maxHeartbeats 4000000 in
set_option maxRecDepth 100000 in
theorem s_x7_allows_53 {X : Cx} {ad : Nat → Nat} (C : Ok X cX7_allows RX7 4 (some .boolean) 2 41) (N : Nat) {rec32 : St → Int32 → Int32 → Option (Int32 × St)} (hrec32 : ∀ (σ : St) (x1 : Int32) (x2 : Int32), Sim X scC ad 4 outI 32 [(0, .ref (ad 7)), (1, .int x1), (2, .int x2)] [] σ (rec32 σ x1 x2)) (σ : St) (x1 : Int32) (x2 : Int32) (t0 : Int32) : Sim X scC ad 4 outI 53 [(0, .ref (ad 7)), (1, .int x1), (2, .int x2)] [.int t0] σ (x7_allows_53 N rec32 σ x1 x2 t0) := by
  unfold x7_allows_53
  refine g_istore_n C [(3, .int t0), (0, .ref (ad 7)), (1, .int x1), (2, .int x2)] dX7_allows_53 rfl (by decide) rfl ?_
  refine g_aload_n C 1 dX7_allows_54 rfl rfl ?_
  refine gf_RX7_15 C  dX7_allows_55 ?_
  refine g_iload_n C 3 dX7_allows_58 rfl rfl ?_
  refine v_x5_at_RX7 C ⟨by decide, by decide⟩ (Nat.le_of_ble_eq_true rfl) dX7_allows_59 (fun r8 σ9 _ => ?_)
  refine g_iload_n C 0 dX7_allows_62 rfl rfl ?_
  refine g_iand C dX7_allows_63 ?_
  refine g_if_ne C 69 dX7_allows_64 (by decide) ?_ ?_
  · refine g_iinc C (x2 + 1) 3 [(2, .int (x2 + 1)), (3, .int t0), (0, .ref (ad 7)), (1, .int x1)] dX7_allows_69 rfl rfl (by decide) rfl ?_
    refine g_goto C 32 dX7_allows_72 (by decide) ?_
    exact g_sub [2, 3, 0] rfl (hrec32 σ9 x1 (x2 + 1))
  · refine g_iconst C 0 dX7_allows_67 (by decide) ?_
    exact g_zret C rfl dX7_allows_68
set_option maxHeartbeats 4000000 in
set_option maxRecDepth 100000 in
theorem s_x7_allows_32_b {X : Cx} {ad : Nat → Nat} (C : Ok X cX7_allows RX7 4 (some .boolean) 2 41) (N : Nat) {rec32 : St → Int32 → Int32 → Option (Int32 × St)} (hrec32 : ∀ (σ : St) (x1 : Int32) (x2 : Int32), Sim X scC ad 4 outI 32 [(0, .ref (ad 7)), (1, .int x1), (2, .int x2)] [] σ (rec32 σ x1 x2)) (σ : St) (x1 : Int32) (x2 : Int32) : Sim X scC ad 4 outI 32 [(0, .ref (ad 7)), (1, .int x1), (2, .int x2)] [] σ (x7_allows_32_b N rec32 σ x1 x2) := by
  unfold x7_allows_32_b
  refine g_iload_n C 2 dX7_allows_32 rfl rfl ?_
  refine g_aload_n C 0 dX7_allows_33 rfl rfl ?_
  refine v_x7_outers_RX7 C ⟨by decide, by decide⟩ (Nat.le_of_ble_eq_true rfl) dX7_allows_34 (fun r6 σ7 _ => ?_)
  refine g_icmp_ge C 75 dX7_allows_37 (by decide) ?_ ?_
  · refine g_iconst C 1 dX7_allows_75 (by decide) ?_
    exact g_zret C rfl dX7_allows_76
  · refine g_iload_n C 1 dX7_allows_40 rfl rfl ?_
    refine g_iload_n C 2 dX7_allows_41 rfl rfl ?_
    refine g_ishr C dX7_allows_42 ?_
    refine g_iconst C 1 dX7_allows_43 (by decide) ?_
    refine g_iand C dX7_allows_44 ?_
    refine g_if_eq C 52 dX7_allows_45 (by decide) ?_ ?_
    · refine g_iconst C 1 dX7_allows_52 (by decide) ?_
      exact g_sub [0, 1, 2] rfl (s_x7_allows_53 C N hrec32 σ7 x1 x2 1)
    · refine g_iconst C 2 dX7_allows_48 (by decide) ?_
      refine g_goto C 53 dX7_allows_49 (by decide) ?_
      exact g_sub [0, 1, 2] rfl (s_x7_allows_53 C N hrec32 σ7 x1 x2 2)
set_option maxHeartbeats 4000000 in
set_option maxRecDepth 100000 in
theorem s_x7_allows_32 {X : Cx} {ad : Nat → Nat} (C : Ok X cX7_allows RX7 4 (some .boolean) 2 41) (N : Nat) : ∀ (n : Nat) (σ : St) (x1 : Int32) (x2 : Int32), Sim X scC ad 4 outI 32 [(0, .ref (ad 7)), (1, .int x1), (2, .int x2)] [] σ (x7_allows_32 N n σ x1 x2) := by
  intro n
  induction n with
  | zero => intro σ x1 x2; exact g_none
  | succ n ih => intro σ x1 x2; exact s_x7_allows_32_b C N ih σ x1 x2
set_option maxHeartbeats 4000000 in
set_option maxRecDepth 100000 in
theorem s_x7_allows {X : Cx} {ad : Nat → Nat} (C : Ok X cX7_allows RX7 4 (some .boolean) 2 41) (N : Nat) (σ : St) (a1 : Int32) : Sim X scC ad 4 outI 0 [(0, .ref (ad 7)), (1, .int a1)] [] σ (x7_allows N σ a1) := by
  unfold x7_allows
  refine g_aload_n C 0 dX7_allows_0 rfl rfl ?_
  refine gf_RX7_19 C  (v := gP σ 700) dX7_allows_1 rfl ?_
  refine g_aload_n C 0 dX7_allows_4 rfl rfl ?_
  refine gf_RX7_9 C  (v := gI σ 701) dX7_allows_5 rfl ?_
  refine g_gd (fun hp1 => ?_)
  refine v_x3_has_RX7 C hp1 ⟨by decide, by decide⟩ (Nat.le_of_ble_eq_true rfl) dX7_allows_8 (fun r2 σ3 _ => ?_)
  refine g_if_eq C 28 dX7_allows_11 (by decide) ?_ ?_
  · refine g_iconst C 0 dX7_allows_28 (by decide) ?_
    exact g_zret C rfl dX7_allows_29
  · refine g_iload_n C 1 dX7_allows_14 rfl rfl ?_
    refine g_if_lt C 28 dX7_allows_15 (by decide) ?_ ?_
    · refine g_iconst C 0 dX7_allows_28 (by decide) ?_
      exact g_zret C rfl dX7_allows_29
    · refine g_iload_n C 1 dX7_allows_18 rfl rfl ?_
      refine g_iconst C 1 dX7_allows_19 (by decide) ?_
      refine g_aload_n C 0 dX7_allows_20 rfl rfl ?_
      refine v_x7_outers_RX7 C ⟨by decide, by decide⟩ (Nat.le_of_ble_eq_true rfl) dX7_allows_21 (fun r4 σ5 _ => ?_)
      refine g_ishl C dX7_allows_24 ?_
      refine g_icmp_lt C 30 dX7_allows_25 (by decide) ?_ ?_
      · refine g_iconst C 0 dX7_allows_30 (by decide) ?_
        refine g_istore_n C [(2, .int 0), (0, .ref (ad 7)), (1, .int a1)] dX7_allows_31 rfl (by decide) rfl ?_
        exact g_sub [1, 2, 0] rfl (s_x7_allows_32 C N N σ5 a1 0)
      · refine g_iconst C 0 dX7_allows_28 (by decide) ?_
        exact g_zret C rfl dX7_allows_29
theorem c_x7_allows {Y : Yx} {ad : Nat → Nat} {N : Nat} {σ : St} {a1 : Int32} {r : Int32} {σ' : St} (h : x7_allows N σ a1 = some (r, σ')) : Con Y scC ad yX7_allows cX7_allows 4 (some .boolean) 2 41 [.ref (ad 7), .int a1] σ (outI r) σ' := con_of (by decide) rfl (Nat.le_of_ble_eq_true rfl) rfl (fun X hX C => s_x7_allows C N σ a1) h
set_option maxRecDepth 20000 in
theorem v_x7_allows_RX10 {X : Cx} {cc : ByteArray} {nL : Nat} {ret : Option FieldType} {fr lo : Nat} {ad : Nat → Nat} {ρ : Type} {out : ρ → Option Value} {pc : Nat} {lv : List (Nat × Value)} {rest : List Value} {σ : St} {N : Nat} {K : Int32 → St → Option (ρ × St)} {a1 : Int32} (C : Ok X cc RX10 nL ret fr lo) (hR : 2 + 1 ≤ fr ∧ 8 + (4 + 11) + 41 ≤ lo) (hcat : (rest.map fun v => v.category).sum ≤ 8) (hdg : decode cc pc = .ok (.invokevirtual 191, 3)) (k : ∀ (r : Int32) (σ' : St), x7_allows N σ a1 = some (r, σ') → Sim X scC ad nL out (pc + 3) lv (.int r :: rest) σ' (K r σ')) : Sim X scC ad nL out pc lv (.int a1 :: .ref (ad 7) :: rest) σ (bd (x7_allows N σ a1) K) := g_callV C (out1 := outI) (y := yX7_allows) (n := 1) ⟨gw_920, gw_921, gw_922, gw_112, gw_923⟩ (by decide +kernel) hR (o := 7) (ci := 6) (q9 := (RX7, TX7, 3)) im_7 rfl rfl rfl (fun r σ' h => c_x7_allows h) rfl rfl hcat hdg k
set_option maxRecDepth 20000 in
theorem v_x7_allows_RX9 {X : Cx} {cc : ByteArray} {nL : Nat} {ret : Option FieldType} {fr lo : Nat} {ad : Nat → Nat} {ρ : Type} {out : ρ → Option Value} {pc : Nat} {lv : List (Nat × Value)} {rest : List Value} {σ : St} {N : Nat} {K : Int32 → St → Option (ρ × St)} {a1 : Int32} (C : Ok X cc RX9 nL ret fr lo) (hR : 2 + 1 ≤ fr ∧ 8 + (4 + 11) + 41 ≤ lo) (hcat : (rest.map fun v => v.category).sum ≤ 8) (hdg : decode cc pc = .ok (.invokevirtual 46, 3)) (k : ∀ (r : Int32) (σ' : St), x7_allows N σ a1 = some (r, σ') → Sim X scC ad nL out (pc + 3) lv (.int r :: rest) σ' (K r σ')) : Sim X scC ad nL out pc lv (.int a1 :: .ref (ad 7) :: rest) σ (bd (x7_allows N σ a1) K) := g_callV C (out1 := outI) (y := yX7_allows) (n := 1) ⟨gw_1018, gw_921, gw_922, gw_112, gw_923⟩ (by decide +kernel) hR (o := 7) (ci := 6) (q9 := (RX7, TX7, 3)) im_7 rfl rfl rfl (fun r σ' h => c_x7_allows h) rfl rfl hcat hdg k

def x8_isSmall (N : Nat) (σ : St) (a1 : Int32) : Option (Int32 × St) :=
  (if a1 < 97 then some (0, σ) else (if 122 < a1 then some (0, σ) else some (1, σ)))
set_option maxHeartbeats 4000000 in
set_option maxRecDepth 100000 in
theorem s_x8_isSmall {X : Cx} {ad : Nat → Nat} (C : Ok X cX8_isSmall RX8 1 (some .boolean) 0 0) (N : Nat) (σ : St) (a1 : Int32) : Sim X scC ad 1 outI 0 [(0, .int a1)] [] σ (x8_isSmall N σ a1) := by
  unfold x8_isSmall
  refine g_iload_n C 0 dX8_isSmall_0 rfl rfl ?_
  refine g_bipush C 97 dX8_isSmall_1 (by decide) ?_
  refine g_icmp_lt C 16 dX8_isSmall_3 (by decide) ?_ ?_
  · refine g_iconst C 0 dX8_isSmall_16 (by decide) ?_
    exact g_zret C rfl dX8_isSmall_17
  · refine g_iload_n C 0 dX8_isSmall_6 rfl rfl ?_
    refine g_bipush C 122 dX8_isSmall_7 (by decide) ?_
    refine g_icmp_gt C 16 dX8_isSmall_9 (by decide) ?_ ?_
    · refine g_iconst C 0 dX8_isSmall_16 (by decide) ?_
      exact g_zret C rfl dX8_isSmall_17
    · refine g_iconst C 1 dX8_isSmall_12 (by decide) ?_
      refine g_goto C 17 dX8_isSmall_13 (by decide) ?_
      exact g_zret C rfl dX8_isSmall_17
theorem c_x8_isSmall {Y : Yx} {ad : Nat → Nat} {N : Nat} {σ : St} {a1 : Int32} {r : Int32} {σ' : St} (h : x8_isSmall N σ a1 = some (r, σ')) : Con Y scC ad yX8_isSmall cX8_isSmall 1 (some .boolean) 0 0 [.int a1] σ (outI r) σ' := con_of (by decide) rfl (Nat.le_of_ble_eq_true rfl) rfl (fun X hX C => s_x8_isSmall C N σ a1) h
set_option maxRecDepth 20000 in
theorem v_x8_isSmall_RX8 {X : Cx} {cc : ByteArray} {nL : Nat} {ret : Option FieldType} {fr lo : Nat} {ad : Nat → Nat} {ρ : Type} {out : ρ → Option Value} {pc : Nat} {lv : List (Nat × Value)} {rest : List Value} {σ : St} {N : Nat} {K : Int32 → St → Option (ρ × St)} {a1 : Int32} (C : Ok X cc RX8 nL ret fr lo) (hR : 0 + 1 ≤ fr ∧ 8 + (1 + 11) + 0 ≤ lo) (hcat : (rest.map fun v => v.category).sum ≤ 8) (hdg : decode cc pc = .ok (.invokestatic 28, 3)) (k : ∀ (r : Int32) (σ' : St), x8_isSmall N σ a1 = some (r, σ') → Sim X scC ad nL out (pc + 3) lv (.int r :: rest) σ' (K r σ')) : Sim X scC ad nL out pc lv (.int a1 :: rest) σ (bd (x8_isSmall N σ a1) K) := g_callS C (out1 := outI) (y := yX8_isSmall) (n := 1) ⟨gw_547, gw_548, gw_108, gw_549⟩ (by decide +kernel) hR (fun r σ' h => c_x8_isSmall h) rfl rfl hcat hdg k

def x8_endOfWord_4_b (N : Nat) (rec4 : St → Int32 → Option (Int32 × St)) (σ : St) (x3 : Int32) : Option (Int32 × St) :=
  (if (gI σ 202) ≤ x3 then some (x3, σ) else (if 1200 ≤ x3 then some (x3, σ) else gd (ib x3 1200) (bd (x8_isSmall N σ (gA σ 1 x3.toNatClampNeg)) (fun r1 σ2 => (if r1 = 0 then some (x3, σ2) else rec4 σ2 (x3 + 1))))))
def x8_endOfWord_4 (N : Nat) : Nat → St → Int32 → Option (Int32 × St)
  | 0 => fun _ _ => none
  | n + 1 => fun σ x3 => x8_endOfWord_4_b N (x8_endOfWord_4 N n) σ x3
def x8_endOfWord (N : Nat) (σ : St) (a2 : Int32) : Option (Int32 × St) :=
  x8_endOfWord_4 N N σ (a2 + 1)
set_option maxHeartbeats 4000000 in
set_option maxRecDepth 100000 in
theorem s_x8_endOfWord_4_b {X : Cx} {ad : Nat → Nat} (C : Ok X cX8_endOfWord RX8 4 (some .int) 1 20) (N : Nat) {rec4 : St → Int32 → Option (Int32 × St)} (hrec4 : ∀ (σ : St) (x3 : Int32), Sim X scC ad 4 outI 4 [(0, .ref (ad 2)), (1, .ref (ad 1)), (3, .int x3)] [] σ (rec4 σ x3)) (σ : St) (x3 : Int32) : Sim X scC ad 4 outI 4 [(0, .ref (ad 2)), (1, .ref (ad 1)), (3, .int x3)] [] σ (x8_endOfWord_4_b N rec4 σ x3) := by
  unfold x8_endOfWord_4_b
  refine g_iload_n C 2 dX8_endOfWord_4 rfl rfl ?_
  refine g_aload_n C 0 dX8_endOfWord_5 rfl rfl ?_
  refine gf_RX8_25 C  (v := gI σ 202) dX8_endOfWord_6 rfl ?_
  refine g_icmp_ge C 33 dX8_endOfWord_9 (by decide) ?_ ?_
  · refine g_iload_n C 2 dX8_endOfWord_33 rfl rfl ?_
    exact g_iret C dX8_endOfWord_34
  · refine g_iload_n C 2 dX8_endOfWord_12 rfl rfl ?_
    refine g_aload_n C 1 dX8_endOfWord_13 rfl rfl ?_
    refine ca_lenB C (j := 1) 1200 ia_1 (by rw [il_1]; decide) dX8_endOfWord_14 ?_
    refine g_icmp_ge C 33 dX8_endOfWord_15 (by decide) ?_ ?_
    · refine g_iload_n C 2 dX8_endOfWord_33 rfl rfl ?_
      exact g_iret C dX8_endOfWord_34
    · refine g_aload_n C 1 dX8_endOfWord_18 rfl rfl ?_
      refine g_iload_n C 2 dX8_endOfWord_19 rfl rfl ?_
      refine ca_ldB C (j := 1) (v := gA σ 1 x3.toNatClampNeg) ia_1 il_1 dX8_endOfWord_20 rfl ?_
      refine v_x8_isSmall_RX8 C ⟨by decide, by decide⟩ (Nat.le_of_ble_eq_true rfl) dX8_endOfWord_21 (fun r1 σ2 _ => ?_)
      refine g_if_eq C 33 dX8_endOfWord_24 (by decide) ?_ ?_
      · refine g_iload_n C 2 dX8_endOfWord_33 rfl rfl ?_
        exact g_iret C dX8_endOfWord_34
      · refine g_iinc C (x3 + 1) 2 [(3, .int (x3 + 1)), (0, .ref (ad 2)), (1, .ref (ad 1))] dX8_endOfWord_27 rfl rfl (by decide) rfl ?_
        refine g_goto C 4 dX8_endOfWord_30 (by decide) ?_
        exact g_sub [1, 2, 0] rfl (hrec4 σ2 (x3 + 1))
set_option maxHeartbeats 4000000 in
set_option maxRecDepth 100000 in
theorem s_x8_endOfWord_4 {X : Cx} {ad : Nat → Nat} (C : Ok X cX8_endOfWord RX8 4 (some .int) 1 20) (N : Nat) : ∀ (n : Nat) (σ : St) (x3 : Int32), Sim X scC ad 4 outI 4 [(0, .ref (ad 2)), (1, .ref (ad 1)), (3, .int x3)] [] σ (x8_endOfWord_4 N n σ x3) := by
  intro n
  induction n with
  | zero => intro σ x3; exact g_none
  | succ n ih => intro σ x3; exact s_x8_endOfWord_4_b C N ih σ x3
set_option maxHeartbeats 4000000 in
set_option maxRecDepth 100000 in
theorem s_x8_endOfWord {X : Cx} {ad : Nat → Nat} (C : Ok X cX8_endOfWord RX8 4 (some .int) 1 20) (N : Nat) (σ : St) (a2 : Int32) : Sim X scC ad 4 outI 0 [(0, .ref (ad 2)), (1, .ref (ad 1)), (2, .int a2)] [] σ (x8_endOfWord N σ a2) := by
  unfold x8_endOfWord
  refine g_iload_n C 2 dX8_endOfWord_0 rfl rfl ?_
  refine g_iconst C 1 dX8_endOfWord_1 (by decide) ?_
  refine g_iadd C dX8_endOfWord_2 ?_
  refine g_istore_n C [(3, .int (a2 + 1)), (0, .ref (ad 2)), (1, .ref (ad 1)), (2, .int a2)] dX8_endOfWord_3 rfl (by decide) rfl ?_
  exact g_sub [1, 2, 0] rfl (s_x8_endOfWord_4 C N N σ (a2 + 1))
theorem c_x8_endOfWord {Y : Yx} {ad : Nat → Nat} {N : Nat} {σ : St} {a2 : Int32} {r : Int32} {σ' : St} (h : x8_endOfWord N σ a2 = some (r, σ')) : Con Y scC ad yX8_endOfWord cX8_endOfWord 4 (some .int) 1 20 [.ref (ad 2), .ref (ad 1), .int a2] σ (outI r) σ' := con_of (by decide) rfl (Nat.le_of_ble_eq_true rfl) rfl (fun X hX C => s_x8_endOfWord C N σ a2) h
set_option maxRecDepth 20000 in
theorem v_x8_endOfWord_RX8 {X : Cx} {cc : ByteArray} {nL : Nat} {ret : Option FieldType} {fr lo : Nat} {ad : Nat → Nat} {ρ : Type} {out : ρ → Option Value} {pc : Nat} {lv : List (Nat × Value)} {rest : List Value} {σ : St} {N : Nat} {K : Int32 → St → Option (ρ × St)} {a2 : Int32} (C : Ok X cc RX8 nL ret fr lo) (hR : 1 + 1 ≤ fr ∧ 8 + (4 + 11) + 20 ≤ lo) (hcat : (rest.map fun v => v.category).sum ≤ 8) (hdg : decode cc pc = .ok (.invokevirtual 32, 3)) (k : ∀ (r : Int32) (σ' : St), x8_endOfWord N σ a2 = some (r, σ') → Sim X scC ad nL out (pc + 3) lv (.int r :: rest) σ' (K r σ')) : Sim X scC ad nL out pc lv (.int a2 :: .ref (ad 1) :: .ref (ad 2) :: rest) σ (bd (x8_endOfWord N σ a2) K) := g_callV C (out1 := outI) (y := yX8_endOfWord) (n := 2) ⟨gw_550, gw_552, gw_1, gw_108, gw_553⟩ (by decide +kernel) hR (o := 2) (ci := 7) (q9 := (RX8, TX8, 3)) im_2 rfl rfl rfl (fun r σ' h => c_x8_endOfWord h) rfl rfl hcat hdg k

def x8_spells_19_b (N : Nat) (rec19 : St → Int32 → Nat → Int32 → Option (Int32 × St)) (σ : St) (x1 : Int32) (x2 : Nat) (x3 : Int32) : Option (Int32 × St) :=
  gd (decide (x2 < 10)) ((if (Int32.ofNat (lenS.getD x2 0)) ≤ x3 then some (1, σ) else gd (ib (x1 + x3) 1200) (gd (ib x3 (lenS.getD x2 0)) ((if (gA σ 1 ((x1 + x3).toNatClampNeg)) = (chS x2 x3.toNatClampNeg) then rec19 σ x1 x2 (x3 + 1) else some (0, σ))))))
def x8_spells_19 (N : Nat) : Nat → St → Int32 → Nat → Int32 → Option (Int32 × St)
  | 0 => fun _ _ _ _ => none
  | n + 1 => fun σ x1 x2 x3 => x8_spells_19_b N (x8_spells_19 N n) σ x1 x2 x3
def x8_spells (N : Nat) (σ : St) (a2 : Int32) (a3 : Nat) : Option (Int32 × St) :=
  (if a2 < 0 then some (0, σ) else gd (decide (a3 < 10)) ((if (a2 + (Int32.ofNat (lenS.getD a3 0))) ≤ 1200 then x8_spells_19 N N σ a2 a3 0 else some (0, σ))))
set_option maxHeartbeats 4000000 in
set_option maxRecDepth 100000 in
theorem s_x8_spells_19_b {X : Cx} {ad : Nat → Nat} (C : Ok X cX8_spells RX8 4 (some .boolean) 4 85) (N : Nat) {rec19 : St → Int32 → Nat → Int32 → Option (Int32 × St)} (hrec19 : ∀ (σ : St) (x1 : Int32) (x2 : Nat) (x3 : Int32), Sim X scC ad 4 outI 19 [(0, .ref (ad 1)), (1, .int x1), (2, .ref (Y9 X x2)), (3, .int x3)] [] σ (rec19 σ x1 x2 x3)) (σ : St) (x1 : Int32) (x2 : Nat) (x3 : Int32) : Sim X scC ad 4 outI 19 [(0, .ref (ad 1)), (1, .int x1), (2, .ref (Y9 X x2)), (3, .int x3)] [] σ (x8_spells_19_b N rec19 σ x1 x2 x3) := by
  unfold x8_spells_19_b
  refine g_iload_n C 3 dX8_spells_19 rfl rfl ?_
  refine g_aload_n C 2 dX8_spells_20 rfl rfl ?_
  refine g_gd (fun hs2 => ?_)
  refine g_slen C (i := x2) (Int32.ofNat (lenS.getD x2 0)) (of_decide_eq_true hs2) rfl ⟨gw_561, gw_562, gw_563, gw_119, gw_564⟩ ⟨by decide, by decide⟩ (Nat.le_of_ble_eq_true rfl) dX8_spells_21 ?_
  refine g_icmp_ge C 48 dX8_spells_24 (by decide) ?_ ?_
  · refine g_iconst C 1 dX8_spells_48 (by decide) ?_
    exact g_zret C rfl dX8_spells_49
  · refine g_aload_n C 0 dX8_spells_27 rfl rfl ?_
    refine g_iload_n C 1 dX8_spells_28 rfl rfl ?_
    refine g_iload_n C 3 dX8_spells_29 rfl rfl ?_
    refine g_iadd C dX8_spells_30 ?_
    refine ca_ldB C (j := 1) (v := gA σ 1 ((x1 + x3).toNatClampNeg)) ia_1 il_1 dX8_spells_31 rfl ?_
    refine g_aload_n C 2 dX8_spells_32 rfl rfl ?_
    refine g_iload_n C 3 dX8_spells_33 rfl rfl ?_
    refine g_schr C (i := x2) (of_decide_eq_true hs2) ⟨gw_571, gw_572, gw_573, gw_119, gw_574⟩ ⟨by decide, by decide⟩ (Nat.le_of_ble_eq_true rfl) dX8_spells_34 ?_
    refine g_icmp_eq C 42 dX8_spells_37 (by decide) ?_ ?_
    · refine g_iinc C (x3 + 1) 3 [(3, .int (x3 + 1)), (0, .ref (ad 1)), (1, .int x1), (2, .ref (Y9 X x2))] dX8_spells_42 rfl rfl (by decide) rfl ?_
      refine g_goto C 19 dX8_spells_45 (by decide) ?_
      exact g_sub [1, 2, 3, 0] rfl (hrec19 σ x1 x2 (x3 + 1))
    · refine g_iconst C 0 dX8_spells_40 (by decide) ?_
      exact g_zret C rfl dX8_spells_41
set_option maxHeartbeats 4000000 in
set_option maxRecDepth 100000 in
theorem s_x8_spells_19 {X : Cx} {ad : Nat → Nat} (C : Ok X cX8_spells RX8 4 (some .boolean) 4 85) (N : Nat) : ∀ (n : Nat) (σ : St) (x1 : Int32) (x2 : Nat) (x3 : Int32), Sim X scC ad 4 outI 19 [(0, .ref (ad 1)), (1, .int x1), (2, .ref (Y9 X x2)), (3, .int x3)] [] σ (x8_spells_19 N n σ x1 x2 x3) := by
  intro n
  induction n with
  | zero => intro σ x1 x2 x3; exact g_none
  | succ n ih => intro σ x1 x2 x3; exact s_x8_spells_19_b C N ih σ x1 x2 x3
set_option maxHeartbeats 4000000 in
set_option maxRecDepth 100000 in
theorem s_x8_spells {X : Cx} {ad : Nat → Nat} (C : Ok X cX8_spells RX8 4 (some .boolean) 4 85) (N : Nat) (σ : St) (a2 : Int32) (a3 : Nat) : Sim X scC ad 4 outI 0 [(0, .ref (ad 1)), (1, .int a2), (2, .ref (Y9 X a3))] [] σ (x8_spells N σ a2 a3) := by
  unfold x8_spells
  refine g_iload_n C 1 dX8_spells_0 rfl rfl ?_
  refine g_if_lt C 15 dX8_spells_1 (by decide) ?_ ?_
  · refine g_iconst C 0 dX8_spells_15 (by decide) ?_
    exact g_zret C rfl dX8_spells_16
  · refine g_iload_n C 1 dX8_spells_4 rfl rfl ?_
    refine g_aload_n C 2 dX8_spells_5 rfl rfl ?_
    refine g_gd (fun hs1 => ?_)
    refine g_slen C (i := a3) (Int32.ofNat (lenS.getD a3 0)) (of_decide_eq_true hs1) rfl ⟨gw_561, gw_562, gw_563, gw_119, gw_564⟩ ⟨by decide, by decide⟩ (Nat.le_of_ble_eq_true rfl) dX8_spells_6 ?_
    refine g_iadd C dX8_spells_9 ?_
    refine g_aload_n C 0 dX8_spells_10 rfl rfl ?_
    refine ca_lenB C (j := 1) 1200 ia_1 (by rw [il_1]; decide) dX8_spells_11 ?_
    refine g_icmp_le C 17 dX8_spells_12 (by decide) ?_ ?_
    · refine g_iconst C 0 dX8_spells_17 (by decide) ?_
      refine g_istore_n C [(3, .int 0), (0, .ref (ad 1)), (1, .int a2), (2, .ref (Y9 X a3))] dX8_spells_18 rfl (by decide) rfl ?_
      exact g_sub [1, 2, 3, 0] rfl (s_x8_spells_19 C N N σ a2 a3 0)
    · refine g_iconst C 0 dX8_spells_15 (by decide) ?_
      exact g_zret C rfl dX8_spells_16
theorem c_x8_spells {Y : Yx} {ad : Nat → Nat} {N : Nat} {σ : St} {a2 : Int32} {a3 : Nat} {r : Int32} {σ' : St} (h : x8_spells N σ a2 a3 = some (r, σ')) : Con Y scC ad yX8_spells cX8_spells 4 (some .boolean) 4 85 [.ref (ad 1), .int a2, .ref (Y.2.2.2.1 a3)] σ (outI r) σ' := con_of (by decide) rfl (Nat.le_of_ble_eq_true rfl) rfl (fun X hX C => by subst hX; exact s_x8_spells C N σ a2 a3) h
set_option maxRecDepth 20000 in
theorem v_x8_spells_RX8 {X : Cx} {cc : ByteArray} {nL : Nat} {ret : Option FieldType} {fr lo : Nat} {ad : Nat → Nat} {ρ : Type} {out : ρ → Option Value} {pc : Nat} {lv : List (Nat × Value)} {rest : List Value} {σ : St} {N : Nat} {K : Int32 → St → Option (ρ × St)} {a2 : Int32} {a3 : Nat} (C : Ok X cc RX8 nL ret fr lo) (hR : 4 + 1 ≤ fr ∧ 8 + (4 + 11) + 85 ≤ lo) (hcat : (rest.map fun v => v.category).sum ≤ 8) (hdg : decode cc pc = .ok (.invokestatic 59, 3)) (k : ∀ (r : Int32) (σ' : St), x8_spells N σ a2 a3 = some (r, σ') → Sim X scC ad nL out (pc + 3) lv (.int r :: rest) σ' (K r σ')) : Sim X scC ad nL out pc lv (.ref (Y9 X a3) :: .int a2 :: .ref (ad 1) :: rest) σ (bd (x8_spells N σ a2 a3) K) := g_callS C (out1 := outI) (y := yX8_spells) (n := 3) ⟨gw_558, gw_559, gw_108, gw_560⟩ (by decide +kernel) hR (fun r σ' h => c_x8_spells h) rfl rfl hcat hdg k

def x8_kindOfWord (N : Nat) (σ : St) (a2 : Int32) (a3 : Int32) : Option (Int32 × St) :=
  (if a3 = 1 then some (2, σ) else (if a3 = 2 then bd (x8_spells N σ a2 0) (fun r3 σ4 => (if r3 = 0 then bd (x8_spells N σ4 a2 1) (fun r5 σ6 => (if r5 = 0 then some (1, σ6) else some (15, σ6))) else some (12, σ4))) else (if a3 = 3 then bd (x8_spells N σ a2 2) (fun r8 σ9 => (if r8 = 0 then bd (x8_spells N σ9 a2 3) (fun r10 σ11 => (if r10 = 0 then bd (x8_spells N σ11 a2 4) (fun r12 σ13 => (if r12 = 0 then some (1, σ13) else some (16, σ13))) else some (18, σ11))) else some (19, σ9))) else (if a3 = 4 then bd (x8_spells N σ a2 5) (fun r15 σ16 => (if r15 = 0 then some (1, σ16) else some (13, σ16))) else (if a3 = 5 then bd (x8_spells N σ a2 6) (fun r18 σ19 => (if r18 = 0 then some (1, σ19) else some (14, σ19))) else (if a3 = 6 then bd (x8_spells N σ a2 7) (fun r21 σ22 => (if r21 = 0 then some (1, σ22) else some (20, σ22))) else (if a3 = 7 then bd (x8_spells N σ a2 8) (fun r24 σ25 => (if r24 = 0 then some (1, σ25) else some (17, σ25))) else some (1, σ))))))))
set_option maxHeartbeats 4000000 in
set_option maxRecDepth 100000 in
theorem s_x8_kindOfWord {X : Cx} {ad : Nat → Nat} (C : Ok X cX8_kindOfWord RX8 3 (some .int) 5 108) (N : Nat) (σ : St) (a2 : Int32) (a3 : Int32) : Sim X scC ad 3 outI 0 [(0, .ref (ad 1)), (1, .int a2), (2, .int a3)] [] σ (x8_kindOfWord N σ a2 a3) := by
  unfold x8_kindOfWord
  refine g_iload_n C 2 dX8_kindOfWord_0 rfl rfl ?_
  refine g_cs (fun h1 => ?_) (fun h1 => ?_)
  · refine g_tabIn C (off := 43) 44 (1) (by rw [h1]; decide) dX8_kindOfWord_1 (by decide) (by decide) (by decide) (by decide) ?_
    refine g_iconst C 2 dX8_kindOfWord_44 (by decide) ?_
    exact g_iret C dX8_kindOfWord_45
  refine g_cs (fun h2 => ?_) (fun h2 => ?_)
  · refine g_tabIn C (off := 45) 46 (2) (by rw [h2]; decide) dX8_kindOfWord_1 (by decide) (by decide) (by decide) (by decide) ?_
    refine g_aload_n C 0 dX8_kindOfWord_46 rfl rfl ?_
    refine g_iload_n C 1 dX8_kindOfWord_47 rfl rfl ?_
    refine g_ldcS (i := 0) C rfl dX8_kindOfWord_48 ?_
    refine v_x8_spells_RX8 C ⟨by decide, by decide⟩ (Nat.le_of_ble_eq_true rfl) dX8_kindOfWord_50 (fun r3 σ4 _ => ?_)
    refine g_if_eq C 61 dX8_kindOfWord_53 (by decide) ?_ ?_
    · refine g_aload_n C 0 dX8_kindOfWord_61 rfl rfl ?_
      refine g_iload_n C 1 dX8_kindOfWord_62 rfl rfl ?_
      refine g_ldcS (i := 1) C rfl dX8_kindOfWord_63 ?_
      refine v_x8_spells_RX8 C ⟨by decide, by decide⟩ (Nat.le_of_ble_eq_true rfl) dX8_kindOfWord_65 (fun r5 σ6 _ => ?_)
      refine g_if_eq C 76 dX8_kindOfWord_68 (by decide) ?_ ?_
      · refine g_iconst C 1 dX8_kindOfWord_76 (by decide) ?_
        exact g_iret C dX8_kindOfWord_77
      · refine g_bipush C 15 dX8_kindOfWord_71 (by decide) ?_
        refine g_goto C 77 dX8_kindOfWord_73 (by decide) ?_
        exact g_iret C dX8_kindOfWord_77
    · refine g_bipush C 12 dX8_kindOfWord_56 (by decide) ?_
      refine g_goto C 77 dX8_kindOfWord_58 (by decide) ?_
      exact g_iret C dX8_kindOfWord_77
  refine g_cs (fun h7 => ?_) (fun h7 => ?_)
  · refine g_tabIn C (off := 77) 78 (3) (by rw [h7]; decide) dX8_kindOfWord_1 (by decide) (by decide) (by decide) (by decide) ?_
    refine g_aload_n C 0 dX8_kindOfWord_78 rfl rfl ?_
    refine g_iload_n C 1 dX8_kindOfWord_79 rfl rfl ?_
    refine g_ldcS (i := 2) C rfl dX8_kindOfWord_80 ?_
    refine v_x8_spells_RX8 C ⟨by decide, by decide⟩ (Nat.le_of_ble_eq_true rfl) dX8_kindOfWord_82 (fun r8 σ9 _ => ?_)
    refine g_if_eq C 91 dX8_kindOfWord_85 (by decide) ?_ ?_
    · refine g_aload_n C 0 dX8_kindOfWord_91 rfl rfl ?_
      refine g_iload_n C 1 dX8_kindOfWord_92 rfl rfl ?_
      refine g_ldcS (i := 3) C rfl dX8_kindOfWord_93 ?_
      refine v_x8_spells_RX8 C ⟨by decide, by decide⟩ (Nat.le_of_ble_eq_true rfl) dX8_kindOfWord_95 (fun r10 σ11 _ => ?_)
      refine g_if_eq C 106 dX8_kindOfWord_98 (by decide) ?_ ?_
      · refine g_aload_n C 0 dX8_kindOfWord_106 rfl rfl ?_
        refine g_iload_n C 1 dX8_kindOfWord_107 rfl rfl ?_
        refine g_ldcS (i := 4) C rfl dX8_kindOfWord_108 ?_
        refine v_x8_spells_RX8 C ⟨by decide, by decide⟩ (Nat.le_of_ble_eq_true rfl) dX8_kindOfWord_110 (fun r12 σ13 _ => ?_)
        refine g_if_eq C 121 dX8_kindOfWord_113 (by decide) ?_ ?_
        · refine g_iconst C 1 dX8_kindOfWord_121 (by decide) ?_
          exact g_iret C dX8_kindOfWord_122
        · refine g_bipush C 16 dX8_kindOfWord_116 (by decide) ?_
          refine g_goto C 122 dX8_kindOfWord_118 (by decide) ?_
          exact g_iret C dX8_kindOfWord_122
      · refine g_bipush C 18 dX8_kindOfWord_101 (by decide) ?_
        refine g_goto C 122 dX8_kindOfWord_103 (by decide) ?_
        exact g_iret C dX8_kindOfWord_122
    · refine g_bipush C 19 dX8_kindOfWord_88 (by decide) ?_
      exact g_iret C dX8_kindOfWord_90
  refine g_cs (fun h14 => ?_) (fun h14 => ?_)
  · refine g_tabIn C (off := 122) 123 (4) (by rw [h14]; decide) dX8_kindOfWord_1 (by decide) (by decide) (by decide) (by decide) ?_
    refine g_aload_n C 0 dX8_kindOfWord_123 rfl rfl ?_
    refine g_iload_n C 1 dX8_kindOfWord_124 rfl rfl ?_
    refine g_ldcS (i := 5) C rfl dX8_kindOfWord_125 ?_
    refine v_x8_spells_RX8 C ⟨by decide, by decide⟩ (Nat.le_of_ble_eq_true rfl) dX8_kindOfWord_127 (fun r15 σ16 _ => ?_)
    refine g_if_eq C 138 dX8_kindOfWord_130 (by decide) ?_ ?_
    · refine g_iconst C 1 dX8_kindOfWord_138 (by decide) ?_
      exact g_iret C dX8_kindOfWord_139
    · refine g_bipush C 13 dX8_kindOfWord_133 (by decide) ?_
      refine g_goto C 139 dX8_kindOfWord_135 (by decide) ?_
      exact g_iret C dX8_kindOfWord_139
  refine g_cs (fun h17 => ?_) (fun h17 => ?_)
  · refine g_tabIn C (off := 139) 140 (5) (by rw [h17]; decide) dX8_kindOfWord_1 (by decide) (by decide) (by decide) (by decide) ?_
    refine g_aload_n C 0 dX8_kindOfWord_140 rfl rfl ?_
    refine g_iload_n C 1 dX8_kindOfWord_141 rfl rfl ?_
    refine g_ldcS (i := 6) C rfl dX8_kindOfWord_142 ?_
    refine v_x8_spells_RX8 C ⟨by decide, by decide⟩ (Nat.le_of_ble_eq_true rfl) dX8_kindOfWord_144 (fun r18 σ19 _ => ?_)
    refine g_if_eq C 155 dX8_kindOfWord_147 (by decide) ?_ ?_
    · refine g_iconst C 1 dX8_kindOfWord_155 (by decide) ?_
      exact g_iret C dX8_kindOfWord_156
    · refine g_bipush C 14 dX8_kindOfWord_150 (by decide) ?_
      refine g_goto C 156 dX8_kindOfWord_152 (by decide) ?_
      exact g_iret C dX8_kindOfWord_156
  refine g_cs (fun h20 => ?_) (fun h20 => ?_)
  · refine g_tabIn C (off := 156) 157 (6) (by rw [h20]; decide) dX8_kindOfWord_1 (by decide) (by decide) (by decide) (by decide) ?_
    refine g_aload_n C 0 dX8_kindOfWord_157 rfl rfl ?_
    refine g_iload_n C 1 dX8_kindOfWord_158 rfl rfl ?_
    refine g_ldcS (i := 7) C rfl dX8_kindOfWord_159 ?_
    refine v_x8_spells_RX8 C ⟨by decide, by decide⟩ (Nat.le_of_ble_eq_true rfl) dX8_kindOfWord_161 (fun r21 σ22 _ => ?_)
    refine g_if_eq C 172 dX8_kindOfWord_164 (by decide) ?_ ?_
    · refine g_iconst C 1 dX8_kindOfWord_172 (by decide) ?_
      exact g_iret C dX8_kindOfWord_173
    · refine g_bipush C 20 dX8_kindOfWord_167 (by decide) ?_
      refine g_goto C 173 dX8_kindOfWord_169 (by decide) ?_
      exact g_iret C dX8_kindOfWord_173
  refine g_cs (fun h23 => ?_) (fun h23 => ?_)
  · refine g_tabIn C (off := 173) 174 (7) (by rw [h23]; decide) dX8_kindOfWord_1 (by decide) (by decide) (by decide) (by decide) ?_
    refine g_aload_n C 0 dX8_kindOfWord_174 rfl rfl ?_
    refine g_iload_n C 1 dX8_kindOfWord_175 rfl rfl ?_
    refine g_ldcS (i := 8) C rfl dX8_kindOfWord_176 ?_
    refine v_x8_spells_RX8 C ⟨by decide, by decide⟩ (Nat.le_of_ble_eq_true rfl) dX8_kindOfWord_178 (fun r24 σ25 _ => ?_)
    refine g_if_eq C 189 dX8_kindOfWord_181 (by decide) ?_ ?_
    · refine g_iconst C 1 dX8_kindOfWord_189 (by decide) ?_
      exact g_iret C dX8_kindOfWord_190
    · refine g_bipush C 17 dX8_kindOfWord_184 (by decide) ?_
      refine g_goto C 190 dX8_kindOfWord_186 (by decide) ?_
      exact g_iret C dX8_kindOfWord_190
  have ah1 : ¬ a3.toInt = 1 := k_ne h1 (by decide)
  have bh1 : ¬ (1 : Int) = a3.toInt := fun e9 => ah1 e9.symm
  have ah2 : ¬ a3.toInt = 2 := k_ne h2 (by decide)
  have bh2 : ¬ (2 : Int) = a3.toInt := fun e9 => ah2 e9.symm
  have ah7 : ¬ a3.toInt = 3 := k_ne h7 (by decide)
  have bh7 : ¬ (3 : Int) = a3.toInt := fun e9 => ah7 e9.symm
  have ah14 : ¬ a3.toInt = 4 := k_ne h14 (by decide)
  have bh14 : ¬ (4 : Int) = a3.toInt := fun e9 => ah14 e9.symm
  have ah17 : ¬ a3.toInt = 5 := k_ne h17 (by decide)
  have bh17 : ¬ (5 : Int) = a3.toInt := fun e9 => ah17 e9.symm
  have ah20 : ¬ a3.toInt = 6 := k_ne h20 (by decide)
  have bh20 : ¬ (6 : Int) = a3.toInt := fun e9 => ah20 e9.symm
  have ah23 : ¬ a3.toInt = 7 := k_ne h23 (by decide)
  have bh23 : ¬ (7 : Int) = a3.toInt := fun e9 => ah23 e9.symm
  refine g_tabOut C 191 dX8_kindOfWord_1 (by omega) (by decide) ?_
  refine g_iconst C 1 dX8_kindOfWord_191 (by decide) ?_
  exact g_iret C dX8_kindOfWord_192
theorem c_x8_kindOfWord {Y : Yx} {ad : Nat → Nat} {N : Nat} {σ : St} {a2 : Int32} {a3 : Int32} {r : Int32} {σ' : St} (h : x8_kindOfWord N σ a2 a3 = some (r, σ')) : Con Y scC ad yX8_kindOfWord cX8_kindOfWord 3 (some .int) 5 108 [.ref (ad 1), .int a2, .int a3] σ (outI r) σ' := con_of (by decide) rfl (Nat.le_of_ble_eq_true rfl) rfl (fun X hX C => s_x8_kindOfWord C N σ a2 a3) h
set_option maxRecDepth 20000 in
theorem v_x8_kindOfWord_RX8 {X : Cx} {cc : ByteArray} {nL : Nat} {ret : Option FieldType} {fr lo : Nat} {ad : Nat → Nat} {ρ : Type} {out : ρ → Option Value} {pc : Nat} {lv : List (Nat × Value)} {rest : List Value} {σ : St} {N : Nat} {K : Int32 → St → Option (ρ × St)} {a2 : Int32} {a3 : Int32} (C : Ok X cc RX8 nL ret fr lo) (hR : 5 + 1 ≤ fr ∧ 8 + (3 + 11) + 108 ≤ lo) (hcat : (rest.map fun v => v.category).sum ≤ 8) (hdg : decode cc pc = .ok (.invokestatic 36, 3)) (k : ∀ (r : Int32) (σ' : St), x8_kindOfWord N σ a2 a3 = some (r, σ') → Sim X scC ad nL out (pc + 3) lv (.int r :: rest) σ' (K r σ')) : Sim X scC ad nL out pc lv (.int a3 :: .int a2 :: .ref (ad 1) :: rest) σ (bd (x8_kindOfWord N σ a2 a3) K) := g_callS C (out1 := outI) (y := yX8_kindOfWord) (n := 3) ⟨gw_554, gw_555, gw_108, gw_556⟩ (by decide +kernel) hR (fun r σ' h => c_x8_kindOfWord h) rfl rfl hcat hdg k

def x8_add (N : Nat) (σ : St) (a1 : Int32) (a2 : Int32) (a3 : Int32) : Option (Unit × St) :=
  bd (x5_put N σ 3 (gI σ 201) (((a2 <<< ((10 : Int32) &&& 31)) ||| (a1 <<< ((5 : Int32) &&& 31))) ||| a3)) (fun _ σ2 => some ((), (sI σ2 201 ((gI σ2 201) + 1))))
set_option maxHeartbeats 4000000 in
set_option maxRecDepth 100000 in
theorem s_x8_add {X : Cx} {ad : Nat → Nat} (C : Ok X cX8_add RX8 4 none 1 22) (N : Nat) (σ : St) (a1 : Int32) (a2 : Int32) (a3 : Int32) : Sim X scC ad 4 outV 0 [(0, .ref (ad 2)), (1, .int a1), (2, .int a2), (3, .int a3)] [] σ (x8_add N σ a1 a2 a3) := by
  unfold x8_add
  refine g_aload_n C 0 dX8_add_0 rfl rfl ?_
  refine gf_RX8_9 C  dX8_add_1 ?_
  refine g_aload_n C 0 dX8_add_4 rfl rfl ?_
  refine gf_RX8_15 C  (v := gI σ 201) dX8_add_5 rfl ?_
  refine g_iload_n C 2 dX8_add_8 rfl rfl ?_
  refine g_bipush C 10 dX8_add_9 (by decide) ?_
  refine g_ishl C dX8_add_11 ?_
  refine g_iload_n C 1 dX8_add_12 rfl rfl ?_
  refine g_iconst C 5 dX8_add_13 (by decide) ?_
  refine g_ishl C dX8_add_14 ?_
  refine g_ior C dX8_add_15 ?_
  refine g_iload_n C 3 dX8_add_16 rfl rfl ?_
  refine g_ior C dX8_add_17 ?_
  refine v_x5_put_RX8 C ⟨by decide, by decide⟩ (Nat.le_of_ble_eq_true rfl) dX8_add_18 (fun r1 σ2 _ => ?_)
  refine g_aload_n C 0 dX8_add_21 rfl rfl ?_
  refine g_dup C dX8_add_22 rfl ?_
  refine gf_RX8_15 C  (v := gI σ2 201) dX8_add_23 rfl ?_
  refine g_iconst C 1 dX8_add_26 (by decide) ?_
  refine g_iadd C dX8_add_27 ?_
  refine pf_RX8_15 C dX8_add_28 ?_
  exact g_vret C dX8_add_31
theorem c_x8_add {Y : Yx} {ad : Nat → Nat} {N : Nat} {σ : St} {a1 : Int32} {a2 : Int32} {a3 : Int32} {r : Unit} {σ' : St} (h : x8_add N σ a1 a2 a3 = some (r, σ')) : Con Y scC ad yX8_add cX8_add 4 none 1 22 [.ref (ad 2), .int a1, .int a2, .int a3] σ (outV r) σ' := con_of (by decide) rfl (Nat.le_of_ble_eq_true rfl) rfl (fun X hX C => s_x8_add C N σ a1 a2 a3) h
set_option maxRecDepth 20000 in
theorem v_x8_add_RX8 {X : Cx} {cc : ByteArray} {nL : Nat} {ret : Option FieldType} {fr lo : Nat} {ad : Nat → Nat} {ρ : Type} {out : ρ → Option Value} {pc : Nat} {lv : List (Nat × Value)} {rest : List Value} {σ : St} {N : Nat} {K : Unit → St → Option (ρ × St)} {a1 : Int32} {a2 : Int32} {a3 : Int32} (C : Ok X cc RX8 nL ret fr lo) (hR : 1 + 1 ≤ fr ∧ 8 + (4 + 11) + 22 ≤ lo) (hcat : (rest.map fun v => v.category).sum ≤ 8) (hdg : decode cc pc = .ok (.invokevirtual 40, 3)) (k : ∀ (r : Unit) (σ' : St), x8_add N σ a1 a2 a3 = some (r, σ') → Sim X scC ad nL out (pc + 3) lv rest σ' (K r σ')) : Sim X scC ad nL out pc lv (.int a3 :: .int a2 :: .int a1 :: .ref (ad 2) :: rest) σ (bd (x8_add N σ a1 a2 a3) K) := g_callV C (out1 := outV) (y := yX8_add) (n := 3) ⟨gw_617, gw_619, gw_2, gw_108, gw_620⟩ (by decide +kernel) hR (o := 2) (ci := 7) (q9 := (RX8, TX8, 3)) im_2 rfl rfl rfl (fun r σ' h => c_x8_add h) rfl rfl hcat hdg k

def x8_kindOfSign (N : Nat) (σ : St) (a1 : Int32) : Option (Int32 × St) :=
  (if a1 = 40 then some (4, σ) else (if a1 = 41 then some (5, σ) else (if a1 = 44 then some (8, σ) else (if a1 = 46 then some (11, σ) else (if a1 = 59 then some (9, σ) else (if a1 = 61 then some (10, σ) else (if a1 = 123 then some (6, σ) else (if a1 = 125 then some (7, σ) else some (1, σ)))))))))
set_option maxHeartbeats 4000000 in
set_option maxRecDepth 100000 in
theorem s_x8_kindOfSign {X : Cx} {ad : Nat → Nat} (C : Ok X cX8_kindOfSign RX8 1 (some .int) 0 0) (N : Nat) (σ : St) (a1 : Int32) : Sim X scC ad 1 outI 0 [(0, .int a1)] [] σ (x8_kindOfSign N σ a1) := by
  unfold x8_kindOfSign
  refine g_iload_n C 0 dX8_kindOfSign_0 rfl rfl ?_
  refine g_cs (fun h1 => ?_) (fun h1 => ?_)
  · refine g_lookup C (off := 75) 76 dX8_kindOfSign_1 (by decide) (by rw [h1]; decide) (by decide) ?_
    refine g_iconst C 4 dX8_kindOfSign_76 (by decide) ?_
    exact g_iret C dX8_kindOfSign_77
  refine g_cs (fun h2 => ?_) (fun h2 => ?_)
  · refine g_lookup C (off := 77) 78 dX8_kindOfSign_1 (by decide) (by rw [h2]; decide) (by decide) ?_
    refine g_iconst C 5 dX8_kindOfSign_78 (by decide) ?_
    exact g_iret C dX8_kindOfSign_79
  refine g_cs (fun h3 => ?_) (fun h3 => ?_)
  · refine g_lookup C (off := 85) 86 dX8_kindOfSign_1 (by decide) (by rw [h3]; decide) (by decide) ?_
    refine g_bipush C 8 dX8_kindOfSign_86 (by decide) ?_
    exact g_iret C dX8_kindOfSign_88
  refine g_cs (fun h4 => ?_) (fun h4 => ?_)
  · refine g_lookup C (off := 94) 95 dX8_kindOfSign_1 (by decide) (by rw [h4]; decide) (by decide) ?_
    refine g_bipush C 11 dX8_kindOfSign_95 (by decide) ?_
    exact g_iret C dX8_kindOfSign_97
  refine g_cs (fun h5 => ?_) (fun h5 => ?_)
  · refine g_lookup C (off := 88) 89 dX8_kindOfSign_1 (by decide) (by rw [h5]; decide) (by decide) ?_
    refine g_bipush C 9 dX8_kindOfSign_89 (by decide) ?_
    exact g_iret C dX8_kindOfSign_91
  refine g_cs (fun h6 => ?_) (fun h6 => ?_)
  · refine g_lookup C (off := 91) 92 dX8_kindOfSign_1 (by decide) (by rw [h6]; decide) (by decide) ?_
    refine g_bipush C 10 dX8_kindOfSign_92 (by decide) ?_
    exact g_iret C dX8_kindOfSign_94
  refine g_cs (fun h7 => ?_) (fun h7 => ?_)
  · refine g_lookup C (off := 79) 80 dX8_kindOfSign_1 (by decide) (by rw [h7]; decide) (by decide) ?_
    refine g_bipush C 6 dX8_kindOfSign_80 (by decide) ?_
    exact g_iret C dX8_kindOfSign_82
  refine g_cs (fun h8 => ?_) (fun h8 => ?_)
  · refine g_lookup C (off := 82) 83 dX8_kindOfSign_1 (by decide) (by rw [h8]; decide) (by decide) ?_
    refine g_bipush C 7 dX8_kindOfSign_83 (by decide) ?_
    exact g_iret C dX8_kindOfSign_85
  have ah1 : ¬ a1.toInt = 40 := k_ne h1 (by decide)
  have bh1 : ¬ (40 : Int) = a1.toInt := fun e9 => ah1 e9.symm
  have ah2 : ¬ a1.toInt = 41 := k_ne h2 (by decide)
  have bh2 : ¬ (41 : Int) = a1.toInt := fun e9 => ah2 e9.symm
  have ah3 : ¬ a1.toInt = 44 := k_ne h3 (by decide)
  have bh3 : ¬ (44 : Int) = a1.toInt := fun e9 => ah3 e9.symm
  have ah4 : ¬ a1.toInt = 46 := k_ne h4 (by decide)
  have bh4 : ¬ (46 : Int) = a1.toInt := fun e9 => ah4 e9.symm
  have ah5 : ¬ a1.toInt = 59 := k_ne h5 (by decide)
  have bh5 : ¬ (59 : Int) = a1.toInt := fun e9 => ah5 e9.symm
  have ah6 : ¬ a1.toInt = 61 := k_ne h6 (by decide)
  have bh6 : ¬ (61 : Int) = a1.toInt := fun e9 => ah6 e9.symm
  have ah7 : ¬ a1.toInt = 123 := k_ne h7 (by decide)
  have bh7 : ¬ (123 : Int) = a1.toInt := fun e9 => ah7 e9.symm
  have ah8 : ¬ a1.toInt = 125 := k_ne h8 (by decide)
  have bh8 : ¬ (125 : Int) = a1.toInt := fun e9 => ah8 e9.symm
  refine g_lookup C (off := 97) 98 dX8_kindOfSign_1 (by decide) (by simp [Op.lookupswitch.offset, bh1, bh2, bh3, bh4, bh5, bh6, bh7, bh8]) (by decide) ?_
  refine g_iconst C 1 dX8_kindOfSign_98 (by decide) ?_
  exact g_iret C dX8_kindOfSign_99
theorem c_x8_kindOfSign {Y : Yx} {ad : Nat → Nat} {N : Nat} {σ : St} {a1 : Int32} {r : Int32} {σ' : St} (h : x8_kindOfSign N σ a1 = some (r, σ')) : Con Y scC ad yX8_kindOfSign cX8_kindOfSign 1 (some .int) 0 0 [.int a1] σ (outI r) σ' := con_of (by decide) rfl (Nat.le_of_ble_eq_true rfl) rfl (fun X hX C => s_x8_kindOfSign C N σ a1) h
set_option maxRecDepth 20000 in
theorem v_x8_kindOfSign_RX8 {X : Cx} {cc : ByteArray} {nL : Nat} {ret : Option FieldType} {fr lo : Nat} {ad : Nat → Nat} {ρ : Type} {out : ρ → Option Value} {pc : Nat} {lv : List (Nat × Value)} {rest : List Value} {σ : St} {N : Nat} {K : Int32 → St → Option (ρ × St)} {a1 : Int32} (C : Ok X cc RX8 nL ret fr lo) (hR : 0 + 1 ≤ fr ∧ 8 + (1 + 11) + 0 ≤ lo) (hcat : (rest.map fun v => v.category).sum ≤ 8) (hdg : decode cc pc = .ok (.invokestatic 47, 3)) (k : ∀ (r : Int32) (σ' : St), x8_kindOfSign N σ a1 = some (r, σ') → Sim X scC ad nL out (pc + 3) lv (.int r :: rest) σ' (K r σ')) : Sim X scC ad nL out pc lv (.int a1 :: rest) σ (bd (x8_kindOfSign N σ a1) K) := g_callS C (out1 := outI) (y := yX8_kindOfSign) (n := 1) ⟨gw_627, gw_628, gw_108, gw_629⟩ (by decide +kernel) hR (fun r σ' h => c_x8_kindOfSign h) rfl rfl hcat hdg k

def x8_scan_130 (N : Nat) (rec17 : St → Int32 → Option (Unit × St)) (σ : St) (x3 : Int32) : Option (Unit × St) :=
  rec17 σ (x3 + 1)
def x8_scan_105 (N : Nat) (rec17 : St → Int32 → Option (Unit × St)) (σ : St) (x3 : Int32) (x4 : Int32) : Option (Unit × St) :=
  (if x4 = 32 then x8_scan_130 N rec17 σ x3 else (if x4 = 10 then x8_scan_130 N rec17 σ x3 else bd (x8_kindOfSign N σ x4) (fun r3 σ4 => bd (x8_add N σ4 r3 x3 0) (fun _ σ6 => x8_scan_130 N rec17 σ6 x3))))
def x8_scan_17_b (N : Nat) (rec17 : St → Int32 → Option (Unit × St)) (σ : St) (x3 : Int32) : Option (Unit × St) :=
  (if (gI σ 202) ≤ x3 then some ((), σ) else gd (ib x3 1200) (bd (x8_isSmall N σ (gA σ 1 x3.toNatClampNeg)) (fun r1 σ2 => (if r1 = 0 then (if (gA σ 1 x3.toNatClampNeg) < 65 then x8_scan_105 N rec17 σ2 x3 (gA σ 1 x3.toNatClampNeg) else (if 73 ≤ (gA σ 1 x3.toNatClampNeg) then x8_scan_105 N rec17 σ2 x3 (gA σ 1 x3.toNatClampNeg) else bd (x8_add N σ2 3 x3 ((gA σ 1 x3.toNatClampNeg) - 65)) (fun _ σ8 => x8_scan_130 N rec17 σ8 x3))) else bd (x8_endOfWord N σ2 x3) (fun r9 σ10 => bd (x8_kindOfWord N σ10 x3 (r9 - x3)) (fun r11 σ12 => bd (x8_add N σ12 r11 x3 ((gA σ 1 x3.toNatClampNeg) - 97)) (fun _ σ14 => x8_scan_130 N rec17 σ14 (if x3 < (r9 - 1) then (r9 - 1) else x3))))))))
def x8_scan_17 (N : Nat) : Nat → St → Int32 → Option (Unit × St)
  | 0 => fun _ _ => none
  | n + 1 => fun σ x3 => x8_scan_17_b N (x8_scan_17 N n) σ x3
def x8_scan (N : Nat) (σ : St) (a2 : Int32) : Option (Unit × St) :=
  x8_scan_17 N N (sI (sI σ 201 0) 202 (if 1200 < a2 then 1200 else a2)) 0
set_option maxHeartbeats 4000000 in
set_option maxRecDepth 100000 in
theorem s_x8_scan_130 {X : Cx} {ad : Nat → Nat} (C : Ok X cX8_scan RX8 6 none 6 130) (N : Nat) {rec17 : St → Int32 → Option (Unit × St)} (hrec17 : ∀ (σ : St) (x3 : Int32), Sim X scC ad 6 outV 17 [(0, .ref (ad 2)), (1, .ref (ad 1)), (3, .int x3)] [] σ (rec17 σ x3)) (σ : St) (x3 : Int32) : Sim X scC ad 6 outV 130 [(0, .ref (ad 2)), (1, .ref (ad 1)), (3, .int x3)] [] σ (x8_scan_130 N rec17 σ x3) := by
  unfold x8_scan_130
  refine g_iinc C (x3 + 1) 2 [(3, .int (x3 + 1)), (0, .ref (ad 2)), (1, .ref (ad 1))] dX8_scan_130 rfl rfl (by decide) rfl ?_
  refine g_goto C 17 dX8_scan_133 (by decide) ?_
  exact g_sub [1, 2, 0] rfl (hrec17 σ (x3 + 1))
set_option maxHeartbeats 4000000 in
set_option maxRecDepth 100000 in
theorem s_x8_scan_105 {X : Cx} {ad : Nat → Nat} (C : Ok X cX8_scan RX8 6 none 6 130) (N : Nat) {rec17 : St → Int32 → Option (Unit × St)} (hrec17 : ∀ (σ : St) (x3 : Int32), Sim X scC ad 6 outV 17 [(0, .ref (ad 2)), (1, .ref (ad 1)), (3, .int x3)] [] σ (rec17 σ x3)) (σ : St) (x3 : Int32) (x4 : Int32) : Sim X scC ad 6 outV 105 [(0, .ref (ad 2)), (1, .ref (ad 1)), (3, .int x3), (4, .int x4)] [] σ (x8_scan_105 N rec17 σ x3 x4) := by
  unfold x8_scan_105
  refine g_iload C 3 dX8_scan_105 rfl ?_
  refine g_bipush C 32 dX8_scan_107 (by decide) ?_
  refine g_icmp_eq C 130 dX8_scan_109 (by decide) ?_ ?_
  · exact g_sub [0, 1, 2] rfl (s_x8_scan_130 C N hrec17 σ x3)
  · refine g_iload C 3 dX8_scan_112 rfl ?_
    refine g_bipush C 10 dX8_scan_114 (by decide) ?_
    refine g_icmp_eq C 130 dX8_scan_116 (by decide) ?_ ?_
    · exact g_sub [0, 1, 2] rfl (s_x8_scan_130 C N hrec17 σ x3)
    · refine g_aload_n C 0 dX8_scan_119 rfl rfl ?_
      refine g_iload C 3 dX8_scan_120 rfl ?_
      refine v_x8_kindOfSign_RX8 C ⟨by decide, by decide⟩ (Nat.le_of_ble_eq_true rfl) dX8_scan_122 (fun r3 σ4 _ => ?_)
      refine g_iload_n C 2 dX8_scan_125 rfl rfl ?_
      refine g_iconst C 0 dX8_scan_126 (by decide) ?_
      refine v_x8_add_RX8 C ⟨by decide, by decide⟩ (Nat.le_of_ble_eq_true rfl) dX8_scan_127 (fun r5 σ6 _ => ?_)
      exact g_sub [0, 1, 2] rfl (s_x8_scan_130 C N hrec17 σ6 x3)
set_option maxHeartbeats 4000000 in
set_option maxRecDepth 100000 in
theorem s_x8_scan_17_b {X : Cx} {ad : Nat → Nat} (C : Ok X cX8_scan RX8 6 none 6 130) (N : Nat) {rec17 : St → Int32 → Option (Unit × St)} (hrec17 : ∀ (σ : St) (x3 : Int32), Sim X scC ad 6 outV 17 [(0, .ref (ad 2)), (1, .ref (ad 1)), (3, .int x3)] [] σ (rec17 σ x3)) (σ : St) (x3 : Int32) : Sim X scC ad 6 outV 17 [(0, .ref (ad 2)), (1, .ref (ad 1)), (3, .int x3)] [] σ (x8_scan_17_b N rec17 σ x3) := by
  unfold x8_scan_17_b
  refine g_iload_n C 2 dX8_scan_17 rfl rfl ?_
  refine g_aload_n C 0 dX8_scan_18 rfl rfl ?_
  refine gf_RX8_25 C  (v := gI σ 202) dX8_scan_19 rfl ?_
  refine g_icmp_ge C 136 dX8_scan_22 (by decide) ?_ ?_
  · exact g_vret C dX8_scan_136
  · refine g_aload_n C 1 dX8_scan_25 rfl rfl ?_
    refine g_iload_n C 2 dX8_scan_26 rfl rfl ?_
    refine ca_ldB C (j := 1) (v := gA σ 1 x3.toNatClampNeg) ia_1 il_1 dX8_scan_27 rfl ?_
    refine g_istore C [(4, .int (gA σ 1 x3.toNatClampNeg)), (0, .ref (ad 2)), (1, .ref (ad 1)), (3, .int x3)] dX8_scan_28 (by decide) rfl ?_
    refine g_iload C 0 dX8_scan_30 rfl ?_
    refine v_x8_isSmall_RX8 C ⟨by decide, by decide⟩ (Nat.le_of_ble_eq_true rfl) dX8_scan_32 (fun r1 σ2 _ => ?_)
    refine g_if_eq C 77 dX8_scan_35 (by decide) ?_ ?_
    · refine g_iload C 0 dX8_scan_77 rfl ?_
      refine g_bipush C 65 dX8_scan_79 (by decide) ?_
      refine g_icmp_lt C 105 dX8_scan_81 (by decide) ?_ ?_
      · exact g_sub [1, 2, 3, 0] rfl (s_x8_scan_105 C N hrec17 σ2 x3 (gA σ 1 x3.toNatClampNeg))
      · refine g_iload C 0 dX8_scan_84 rfl ?_
        refine g_bipush C 73 dX8_scan_86 (by decide) ?_
        refine g_icmp_ge C 105 dX8_scan_88 (by decide) ?_ ?_
        · exact g_sub [1, 2, 3, 0] rfl (s_x8_scan_105 C N hrec17 σ2 x3 (gA σ 1 x3.toNatClampNeg))
        · refine g_aload_n C 1 dX8_scan_91 rfl rfl ?_
          refine g_iconst C 3 dX8_scan_92 (by decide) ?_
          refine g_iload_n C 3 dX8_scan_93 rfl rfl ?_
          refine g_iload C 0 dX8_scan_94 rfl ?_
          refine g_bipush C 65 dX8_scan_96 (by decide) ?_
          refine g_isub C dX8_scan_98 ?_
          refine v_x8_add_RX8 C ⟨by decide, by decide⟩ (Nat.le_of_ble_eq_true rfl) dX8_scan_99 (fun r7 σ8 _ => ?_)
          refine g_goto C 130 dX8_scan_102 (by decide) ?_
          exact g_sub [1, 2, 3] rfl (s_x8_scan_130 C N hrec17 σ8 x3)
    · refine g_aload_n C 1 dX8_scan_38 rfl rfl ?_
      refine g_aload_n C 2 dX8_scan_39 rfl rfl ?_
      refine g_iload_n C 3 dX8_scan_40 rfl rfl ?_
      refine v_x8_endOfWord_RX8 C ⟨by decide, by decide⟩ (Nat.le_of_ble_eq_true rfl) dX8_scan_41 (fun r9 σ10 _ => ?_)
      refine g_istore C [(5, .int r9), (4, .int (gA σ 1 x3.toNatClampNeg)), (0, .ref (ad 2)), (1, .ref (ad 1)), (3, .int x3)] dX8_scan_44 (by decide) rfl ?_
      refine g_aload_n C 2 dX8_scan_46 rfl rfl ?_
      refine g_aload_n C 3 dX8_scan_47 rfl rfl ?_
      refine g_iload_n C 4 dX8_scan_48 rfl rfl ?_
      refine g_iload C 0 dX8_scan_49 rfl ?_
      refine g_iload_n C 4 dX8_scan_51 rfl rfl ?_
      refine g_isub C dX8_scan_52 ?_
      refine v_x8_kindOfWord_RX8 C ⟨by decide, by decide⟩ (Nat.le_of_ble_eq_true rfl) dX8_scan_53 (fun r11 σ12 _ => ?_)
      refine g_iload_n C 4 dX8_scan_56 rfl rfl ?_
      refine g_iload C 1 dX8_scan_57 rfl ?_
      refine g_bipush C 97 dX8_scan_59 (by decide) ?_
      refine g_isub C dX8_scan_61 ?_
      refine v_x8_add_RX8 C ⟨by decide, by decide⟩ (Nat.le_of_ble_eq_true rfl) dX8_scan_62 (fun r13 σ14 _ => ?_)
      refine g_iload_n C 4 dX8_scan_65 rfl rfl ?_
      refine g_iload C 0 dX8_scan_66 rfl ?_
      refine g_iconst C 1 dX8_scan_68 (by decide) ?_
      refine g_isub C dX8_scan_69 ?_
      refine g_mmax C gw_624 gw_625 gw_118 gw_626 ⟨by decide, by decide⟩ (Nat.le_of_ble_eq_true rfl) dX8_scan_70 ?_
      refine g_istore_n C [(3, .int (if x3 < (r9 - 1) then (r9 - 1) else x3)), (5, .int r9), (4, .int (gA σ 1 x3.toNatClampNeg)), (0, .ref (ad 2)), (1, .ref (ad 1))] dX8_scan_73 rfl (by decide) rfl ?_
      refine g_goto C 130 dX8_scan_74 (by decide) ?_
      exact g_sub [3, 4, 0] rfl (s_x8_scan_130 C N hrec17 σ14 (if x3 < (r9 - 1) then (r9 - 1) else x3))
set_option maxHeartbeats 4000000 in
set_option maxRecDepth 100000 in
theorem s_x8_scan_17 {X : Cx} {ad : Nat → Nat} (C : Ok X cX8_scan RX8 6 none 6 130) (N : Nat) : ∀ (n : Nat) (σ : St) (x3 : Int32), Sim X scC ad 6 outV 17 [(0, .ref (ad 2)), (1, .ref (ad 1)), (3, .int x3)] [] σ (x8_scan_17 N n σ x3) := by
  intro n
  induction n with
  | zero => intro σ x3; exact g_none
  | succ n ih => intro σ x3; exact s_x8_scan_17_b C N ih σ x3
set_option maxHeartbeats 4000000 in
set_option maxRecDepth 100000 in
theorem s_x8_scan {X : Cx} {ad : Nat → Nat} (C : Ok X cX8_scan RX8 6 none 6 130) (N : Nat) (σ : St) (a2 : Int32) : Sim X scC ad 6 outV 0 [(0, .ref (ad 2)), (1, .ref (ad 1)), (2, .int a2)] [] σ (x8_scan N σ a2) := by
  unfold x8_scan
  refine g_aload_n C 0 dX8_scan_0 rfl rfl ?_
  refine g_iconst C 0 dX8_scan_1 (by decide) ?_
  refine pf_RX8_15 C dX8_scan_2 ?_
  refine g_aload_n C 0 dX8_scan_5 rfl rfl ?_
  refine g_iload_n C 2 dX8_scan_6 rfl rfl ?_
  refine g_aload_n C 1 dX8_scan_7 rfl rfl ?_
  refine ca_lenB C (j := 1) 1200 ia_1 (by rw [il_1]; decide) dX8_scan_8 ?_
  refine g_mmin C gw_544 gw_545 gw_118 gw_546 ⟨by decide, by decide⟩ (Nat.le_of_ble_eq_true rfl) dX8_scan_9 ?_
  refine pf_RX8_25 C dX8_scan_12 ?_
  refine g_iconst C 0 dX8_scan_15 (by decide) ?_
  refine g_istore_n C [(3, .int 0), (0, .ref (ad 2)), (1, .ref (ad 1)), (2, .int a2)] dX8_scan_16 rfl (by decide) rfl ?_
  exact g_sub [1, 2, 0] rfl (s_x8_scan_17 C N N (sI (sI σ 201 0) 202 (if 1200 < a2 then 1200 else a2)) 0)
theorem c_x8_scan {Y : Yx} {ad : Nat → Nat} {N : Nat} {σ : St} {a2 : Int32} {r : Unit} {σ' : St} (h : x8_scan N σ a2 = some (r, σ')) : Con Y scC ad yX8_scan cX8_scan 6 none 6 130 [.ref (ad 2), .ref (ad 1), .int a2] σ (outV r) σ' := con_of (by decide) rfl (Nat.le_of_ble_eq_true rfl) rfl (fun X hX C => s_x8_scan C N σ a2) h
set_option maxRecDepth 20000 in
theorem v_x8_scan_RX10 {X : Cx} {cc : ByteArray} {nL : Nat} {ret : Option FieldType} {fr lo : Nat} {ad : Nat → Nat} {ρ : Type} {out : ρ → Option Value} {pc : Nat} {lv : List (Nat × Value)} {rest : List Value} {σ : St} {N : Nat} {K : Unit → St → Option (ρ × St)} {a2 : Int32} (C : Ok X cc RX10 nL ret fr lo) (hR : 6 + 1 ≤ fr ∧ 8 + (6 + 11) + 130 ≤ lo) (hcat : (rest.map fun v => v.category).sum ≤ 8) (hdg : decode cc pc = .ok (.invokevirtual 94, 3)) (k : ∀ (r : Unit) (σ' : St), x8_scan N σ a2 = some (r, σ') → Sim X scC ad nL out (pc + 3) lv rest σ' (K r σ')) : Sim X scC ad nL out pc lv (.int a2 :: .ref (ad 1) :: .ref (ad 2) :: rest) σ (bd (x8_scan N σ a2) K) := g_callV C (out1 := outV) (y := yX8_scan) (n := 2) ⟨gw_540, gw_541, gw_542, gw_108, gw_543⟩ (by decide +kernel) hR (o := 2) (ci := 7) (q9 := (RX8, TX8, 3)) im_2 rfl rfl rfl (fun r σ' h => c_x8_scan h) rfl rfl hcat hdg k

def x9_noteFailure (N : Nat) (σ : St) (a1 : Int32) (a2 : Int32) : Option (Unit × St) :=
  (if a2 = 2 then bd (x5_at N σ 20 (gI σ 1510)) (fun r1 σ2 => (if r1 = (-1) then bd (x5_put N σ2 20 (gI σ 1510) a1) (fun _ σ4 => some ((), (sI σ4 1905 ((gI σ4 1905) - 1)))) else some ((), σ2))) else some ((), σ))
set_option maxHeartbeats 4000000 in
set_option maxRecDepth 100000 in
theorem s_x9_noteFailure {X : Cx} {ad : Nat → Nat} (C : Ok X cX9_noteFailure RX9 4 none 1 22) (N : Nat) (σ : St) (a1 : Int32) (a2 : Int32) : Sim X scC ad 4 outV 0 [(0, .ref (ad 19)), (1, .int a1), (2, .int a2)] [] σ (x9_noteFailure N σ a1 a2) := by
  unfold x9_noteFailure
  refine g_aload_n C 0 dX9_noteFailure_0 rfl rfl ?_
  refine gf_RX9_26 C  dX9_noteFailure_1 ?_
  refine gf_RX9_65 C  (v := gI σ 1510) dX9_noteFailure_4 rfl ?_
  refine g_istore_n C [(3, .int (gI σ 1510)), (0, .ref (ad 19)), (1, .int a1), (2, .int a2)] dX9_noteFailure_7 rfl (by decide) rfl ?_
  refine g_iload_n C 3 dX9_noteFailure_8 rfl rfl ?_
  refine g_iconst C 2 dX9_noteFailure_9 (by decide) ?_
  refine g_icmp_ne C 44 dX9_noteFailure_10 (by decide) ?_ ?_
  · exact g_vret C dX9_noteFailure_44
  · refine g_aload_n C 1 dX9_noteFailure_13 rfl rfl ?_
    refine gf_RX9_9 C  dX9_noteFailure_14 ?_
    refine g_iload_n C 0 dX9_noteFailure_17 rfl rfl ?_
    refine v_x5_at_RX9 C ⟨by decide, by decide⟩ (Nat.le_of_ble_eq_true rfl) dX9_noteFailure_18 (fun r1 σ2 _ => ?_)
    refine g_iconst C (-1) dX9_noteFailure_21 (by decide) ?_
    refine g_icmp_ne C 44 dX9_noteFailure_22 (by decide) ?_ ?_
    · exact g_vret C dX9_noteFailure_44
    · refine g_aload_n C 1 dX9_noteFailure_25 rfl rfl ?_
      refine gf_RX9_9 C  dX9_noteFailure_26 ?_
      refine g_iload_n C 0 dX9_noteFailure_29 rfl rfl ?_
      refine g_iload_n C 2 dX9_noteFailure_30 rfl rfl ?_
      refine v_x5_put_RX9 C ⟨by decide, by decide⟩ (Nat.le_of_ble_eq_true rfl) dX9_noteFailure_31 (fun r3 σ4 _ => ?_)
      refine g_aload_n C 1 dX9_noteFailure_34 rfl rfl ?_
      refine g_dup C dX9_noteFailure_35 rfl ?_
      refine gf_RX9_30 C  (v := gI σ4 1905) dX9_noteFailure_36 rfl ?_
      refine g_iconst C 1 dX9_noteFailure_39 (by decide) ?_
      refine g_isub C dX9_noteFailure_40 ?_
      refine pf_RX9_30 C dX9_noteFailure_41 ?_
      exact g_vret C dX9_noteFailure_44
theorem c_x9_noteFailure {Y : Yx} {ad : Nat → Nat} {N : Nat} {σ : St} {a1 : Int32} {a2 : Int32} {r : Unit} {σ' : St} (h : x9_noteFailure N σ a1 a2 = some (r, σ')) : Con Y scC ad yX9_noteFailure cX9_noteFailure 4 none 1 22 [.ref (ad 19), .int a1, .int a2] σ (outV r) σ' := con_of (by decide) rfl (Nat.le_of_ble_eq_true rfl) rfl (fun X hX C => s_x9_noteFailure C N σ a1 a2) h
set_option maxRecDepth 20000 in
theorem v_x9_noteFailure_RX9 {X : Cx} {cc : ByteArray} {nL : Nat} {ret : Option FieldType} {fr lo : Nat} {ad : Nat → Nat} {ρ : Type} {out : ρ → Option Value} {pc : Nat} {lv : List (Nat × Value)} {rest : List Value} {σ : St} {N : Nat} {K : Unit → St → Option (ρ × St)} {a1 : Int32} {a2 : Int32} (C : Ok X cc RX9 nL ret fr lo) (hR : 1 + 1 ≤ fr ∧ 8 + (4 + 11) + 22 ≤ lo) (hcat : (rest.map fun v => v.category).sum ≤ 8) (hdg : decode cc pc = .ok (.invokevirtual 58, 3)) (k : ∀ (r : Unit) (σ' : St), x9_noteFailure N σ a1 a2 = some (r, σ') → Sim X scC ad nL out (pc + 3) lv rest σ' (K r σ')) : Sim X scC ad nL out pc lv (.int a2 :: .int a1 :: .ref (ad 19) :: rest) σ (bd (x9_noteFailure N σ a1 a2) K) := g_callV C (out1 := outV) (y := yX9_noteFailure) (n := 2) ⟨gw_1020, gw_1022, gw_51, gw_115, gw_1023⟩ (by decide +kernel) hR (o := 19) (ci := 8) (q9 := (RX9, TX9, 6)) im_19 rfl rfl rfl (fun r σ' h => c_x9_noteFailure h) rfl rfl hcat hdg k

def x9_skipTheSame_14_b (N : Nat) (rec14 : St → Int32 → Int32 → Option (Unit × St)) (σ : St) (x1 : Int32) (x3 : Int32) : Option (Unit × St) :=
  (if 256 ≤ x3 then some ((), σ) else bd (x5_put N σ 21 x3 x1) (fun _ σ2 => rec14 σ2 x1 (x3 + ((1 : Int32) <<< ((gI σ2 1509) &&& 31)))))
def x9_skipTheSame_14 (N : Nat) : Nat → St → Int32 → Int32 → Option (Unit × St)
  | 0 => fun _ _ _ => none
  | n + 1 => fun σ x1 x3 => x9_skipTheSame_14_b N (x9_skipTheSame_14 N n) σ x1 x3
def x9_skipTheSame (N : Nat) (σ : St) (a1 : Int32) (a2 : Int32) : Option (Unit × St) :=
  (if 8 ≤ (gI σ 1509) then some ((), σ) else x9_skipTheSame_14 N N σ a1 a2)
set_option maxHeartbeats 4000000 in
set_option maxRecDepth 100000 in
theorem s_x9_skipTheSame_14_b {X : Cx} {ad : Nat → Nat} (C : Ok X cX9_skipTheSame RX9 4 none 1 22) (N : Nat) {rec14 : St → Int32 → Int32 → Option (Unit × St)} (hrec14 : ∀ (σ : St) (x1 : Int32) (x3 : Int32), Sim X scC ad 4 outV 14 [(0, .ref (ad 19)), (1, .int x1), (3, .int x3)] [] σ (rec14 σ x1 x3)) (σ : St) (x1 : Int32) (x3 : Int32) : Sim X scC ad 4 outV 14 [(0, .ref (ad 19)), (1, .int x1), (3, .int x3)] [] σ (x9_skipTheSame_14_b N rec14 σ x1 x3) := by
  unfold x9_skipTheSame_14_b
  refine g_iload_n C 2 dX9_skipTheSame_14 rfl rfl ?_
  refine g_sipush C 256 dX9_skipTheSame_15 (by decide) ?_
  refine g_icmp_ge C 45 dX9_skipTheSame_18 (by decide) ?_ ?_
  · exact g_vret C dX9_skipTheSame_45
  · refine g_aload_n C 0 dX9_skipTheSame_21 rfl rfl ?_
    refine gf_RX9_15 C  dX9_skipTheSame_22 ?_
    refine g_iload_n C 2 dX9_skipTheSame_25 rfl rfl ?_
    refine g_iload_n C 1 dX9_skipTheSame_26 rfl rfl ?_
    refine v_x5_put_RX9 C ⟨by decide, by decide⟩ (Nat.le_of_ble_eq_true rfl) dX9_skipTheSame_27 (fun r1 σ2 _ => ?_)
    refine g_iload_n C 2 dX9_skipTheSame_30 rfl rfl ?_
    refine g_iconst C 1 dX9_skipTheSame_31 (by decide) ?_
    refine g_aload_n C 0 dX9_skipTheSame_32 rfl rfl ?_
    refine gf_RX9_26 C  dX9_skipTheSame_33 ?_
    refine gf_RX9_72 C  (v := gI σ2 1509) dX9_skipTheSame_36 rfl ?_
    refine g_ishl C dX9_skipTheSame_39 ?_
    refine g_iadd C dX9_skipTheSame_40 ?_
    refine g_istore_n C [(3, .int (x3 + ((1 : Int32) <<< ((gI σ2 1509) &&& 31)))), (0, .ref (ad 19)), (1, .int x1)] dX9_skipTheSame_41 rfl (by decide) rfl ?_
    refine g_goto C 14 dX9_skipTheSame_42 (by decide) ?_
    exact g_sub [1, 2, 0] rfl (hrec14 σ2 x1 (x3 + ((1 : Int32) <<< ((gI σ2 1509) &&& 31))))
set_option maxHeartbeats 4000000 in
set_option maxRecDepth 100000 in
theorem s_x9_skipTheSame_14 {X : Cx} {ad : Nat → Nat} (C : Ok X cX9_skipTheSame RX9 4 none 1 22) (N : Nat) : ∀ (n : Nat) (σ : St) (x1 : Int32) (x3 : Int32), Sim X scC ad 4 outV 14 [(0, .ref (ad 19)), (1, .int x1), (3, .int x3)] [] σ (x9_skipTheSame_14 N n σ x1 x3) := by
  intro n
  induction n with
  | zero => intro σ x1 x3; exact g_none
  | succ n ih => intro σ x1 x3; exact s_x9_skipTheSame_14_b C N ih σ x1 x3
set_option maxHeartbeats 4000000 in
set_option maxRecDepth 100000 in
theorem s_x9_skipTheSame {X : Cx} {ad : Nat → Nat} (C : Ok X cX9_skipTheSame RX9 4 none 1 22) (N : Nat) (σ : St) (a1 : Int32) (a2 : Int32) : Sim X scC ad 4 outV 0 [(0, .ref (ad 19)), (1, .int a1), (2, .int a2)] [] σ (x9_skipTheSame N σ a1 a2) := by
  unfold x9_skipTheSame
  refine g_aload_n C 0 dX9_skipTheSame_0 rfl rfl ?_
  refine gf_RX9_26 C  dX9_skipTheSame_1 ?_
  refine gf_RX9_72 C  (v := gI σ 1509) dX9_skipTheSame_4 rfl ?_
  refine g_bipush C 8 dX9_skipTheSame_7 (by decide) ?_
  refine g_icmp_ge C 45 dX9_skipTheSame_9 (by decide) ?_ ?_
  · exact g_vret C dX9_skipTheSame_45
  · refine g_iload_n C 2 dX9_skipTheSame_12 rfl rfl ?_
    refine g_istore_n C [(3, .int a2), (0, .ref (ad 19)), (1, .int a1), (2, .int a2)] dX9_skipTheSame_13 rfl (by decide) rfl ?_
    exact g_sub [1, 2, 0] rfl (s_x9_skipTheSame_14 C N N σ a1 a2)
theorem c_x9_skipTheSame {Y : Yx} {ad : Nat → Nat} {N : Nat} {σ : St} {a1 : Int32} {a2 : Int32} {r : Unit} {σ' : St} (h : x9_skipTheSame N σ a1 a2 = some (r, σ')) : Con Y scC ad yX9_skipTheSame cX9_skipTheSame 4 none 1 22 [.ref (ad 19), .int a1, .int a2] σ (outV r) σ' := con_of (by decide) rfl (Nat.le_of_ble_eq_true rfl) rfl (fun X hX C => s_x9_skipTheSame C N σ a1 a2) h
set_option maxRecDepth 20000 in
theorem v_x9_skipTheSame_RX9 {X : Cx} {cc : ByteArray} {nL : Nat} {ret : Option FieldType} {fr lo : Nat} {ad : Nat → Nat} {ρ : Type} {out : ρ → Option Value} {pc : Nat} {lv : List (Nat × Value)} {rest : List Value} {σ : St} {N : Nat} {K : Unit → St → Option (ρ × St)} {a1 : Int32} {a2 : Int32} (C : Ok X cc RX9 nL ret fr lo) (hR : 1 + 1 ≤ fr ∧ 8 + (4 + 11) + 22 ≤ lo) (hcat : (rest.map fun v => v.category).sum ≤ 8) (hdg : decode cc pc = .ok (.invokevirtual 62, 3)) (k : ∀ (r : Unit) (σ' : St), x9_skipTheSame N σ a1 a2 = some (r, σ') → Sim X scC ad nL out (pc + 3) lv rest σ' (K r σ')) : Sim X scC ad nL out pc lv (.int a2 :: .int a1 :: .ref (ad 19) :: rest) σ (bd (x9_skipTheSame N σ a1 a2) K) := g_callV C (out1 := outV) (y := yX9_skipTheSame) (n := 2) ⟨gw_1025, gw_1027, gw_52, gw_115, gw_1028⟩ (by decide +kernel) hR (o := 19) (ci := 8) (q9 := (RX9, TX9, 6)) im_19 rfl rfl rfl (fun r σ' h => c_x9_skipTheSame h) rfl rfl hcat hdg k

def x9_fill_104 (N : Nat) (rec31 : St → Int32 → Option (Unit × St)) (σ : St) (x2 : Int32) : Option (Unit × St) :=
  rec31 σ (x2 + 1)
def x9_fill_31_b (N : Nat) (rec31 : St → Int32 → Option (Unit × St)) (σ : St) (x2 : Int32) : Option (Unit × St) :=
  (if 4096 ≤ x2 then some ((), (sI σ 1904 0)) else (if (gI σ 1905) ≤ 0 then some ((), (sI σ 1904 0)) else bd (x5_at N σ 21 (x2 - x2 / 256 * 256)) (fun r5 σ6 => (if r5 = (x2 / 256) then x9_fill_104 N rec31 σ6 x2 else bd (x7_allows N σ6 (x2 / 256)) (fun r7 σ8 => (if r7 = 0 then x9_fill_104 N rec31 σ8 x2 else bd (x6_go N σ8 (x2 / 256) (x2 - x2 / 256 * 256)) (fun r9 σ10 => bd (x9_noteFailure N σ10 x2 r9) (fun _ σ12 => bd (x9_skipTheSame N σ12 (x2 / 256) (x2 - x2 / 256 * 256)) (fun _ σ14 => x9_fill_104 N rec31 σ14 x2)))))))))
def x9_fill_31 (N : Nat) : Nat → St → Int32 → Option (Unit × St)
  | 0 => fun _ _ => none
  | n + 1 => fun σ x2 => x9_fill_31_b N (x9_fill_31 N n) σ x2
def x9_fill (N : Nat) (σ : St) (a1 : Int32) : Option (Unit × St) :=
  (if (gI σ 1904) = 0 then some ((), σ) else bd (j_fill N (sI σ 1905 a1) 20 (-1)) (fun _ σ2 => bd (j_fill N σ2 21 (-1)) (fun _ σ4 => x9_fill_31 N N σ4 0)))
set_option maxHeartbeats 4000000 in
set_option maxRecDepth 100000 in
theorem s_x9_fill_104 {X : Cx} {ad : Nat → Nat} (C : Ok X cX9_fill RX9 5 none 6 137) (N : Nat) {rec31 : St → Int32 → Option (Unit × St)} (hrec31 : ∀ (σ : St) (x2 : Int32), Sim X scC ad 5 outV 31 [(0, .ref (ad 19)), (2, .int x2)] [] σ (rec31 σ x2)) (σ : St) (x2 : Int32) : Sim X scC ad 5 outV 104 [(0, .ref (ad 19)), (2, .int x2)] [] σ (x9_fill_104 N rec31 σ x2) := by
  unfold x9_fill_104
  refine g_iinc C (x2 + 1) 1 [(2, .int (x2 + 1)), (0, .ref (ad 19))] dX9_fill_104 rfl rfl (by decide) rfl ?_
  refine g_goto C 31 dX9_fill_107 (by decide) ?_
  exact g_sub [1, 0] rfl (hrec31 σ (x2 + 1))
set_option maxHeartbeats 4000000 in
set_option maxRecDepth 100000 in
theorem s_x9_fill_31_b {X : Cx} {ad : Nat → Nat} (C : Ok X cX9_fill RX9 5 none 6 137) (N : Nat) {rec31 : St → Int32 → Option (Unit × St)} (hrec31 : ∀ (σ : St) (x2 : Int32), Sim X scC ad 5 outV 31 [(0, .ref (ad 19)), (2, .int x2)] [] σ (rec31 σ x2)) (σ : St) (x2 : Int32) : Sim X scC ad 5 outV 31 [(0, .ref (ad 19)), (2, .int x2)] [] σ (x9_fill_31_b N rec31 σ x2) := by
  unfold x9_fill_31_b
  refine g_iload_n C 1 dX9_fill_31 rfl rfl ?_
  refine g_sipush C 4096 dX9_fill_32 (by decide) ?_
  refine g_icmp_ge C 110 dX9_fill_35 (by decide) ?_ ?_
  · refine g_aload_n C 0 dX9_fill_110 rfl rfl ?_
    refine g_iconst C 0 dX9_fill_111 (by decide) ?_
    refine pf_RX9_18 C rfl dX9_fill_112 ?_
    exact g_vret C dX9_fill_115
  · refine g_aload_n C 0 dX9_fill_38 rfl rfl ?_
    refine gf_RX9_30 C  (v := gI σ 1905) dX9_fill_39 rfl ?_
    refine g_if_le C 110 dX9_fill_42 (by decide) ?_ ?_
    · refine g_aload_n C 0 dX9_fill_110 rfl rfl ?_
      refine g_iconst C 0 dX9_fill_111 (by decide) ?_
      refine pf_RX9_18 C rfl dX9_fill_112 ?_
      exact g_vret C dX9_fill_115
    · refine g_iload_n C 1 dX9_fill_45 rfl rfl ?_
      refine g_sipush C 256 dX9_fill_46 (by decide) ?_
      refine g_idiv C dX9_fill_49 (by decide) ?_
      refine g_istore_n C [(3, .int (x2 / 256)), (0, .ref (ad 19)), (2, .int x2)] dX9_fill_50 rfl (by decide) rfl ?_
      refine g_iload_n C 2 dX9_fill_51 rfl rfl ?_
      refine g_sipush C 256 dX9_fill_52 (by decide) ?_
      refine g_irem C dX9_fill_55 (by decide) ?_
      refine g_istore C [(4, .int (x2 - x2 / 256 * 256)), (3, .int (x2 / 256)), (0, .ref (ad 19)), (2, .int x2)] dX9_fill_56 (by decide) rfl ?_
      refine g_aload_n C 2 dX9_fill_58 rfl rfl ?_
      refine gf_RX9_15 C  dX9_fill_59 ?_
      refine g_iload C 0 dX9_fill_62 rfl ?_
      refine v_x5_at_RX9 C ⟨by decide, by decide⟩ (Nat.le_of_ble_eq_true rfl) dX9_fill_64 (fun r5 σ6 _ => ?_)
      refine g_iload_n C 1 dX9_fill_67 rfl rfl ?_
      refine g_icmp_eq C 104 dX9_fill_68 (by decide) ?_ ?_
      · exact g_sub [2, 3] rfl (s_x9_fill_104 C N hrec31 σ6 x2)
      · refine g_aload_n C 2 dX9_fill_71 rfl rfl ?_
        refine gf_RX9_22 C  dX9_fill_72 ?_
        refine g_iload_n C 1 dX9_fill_75 rfl rfl ?_
        refine v_x7_allows_RX9 C ⟨by decide, by decide⟩ (Nat.le_of_ble_eq_true rfl) dX9_fill_76 (fun r7 σ8 _ => ?_)
        refine g_if_eq C 104 dX9_fill_79 (by decide) ?_ ?_
        · exact g_sub [2, 3] rfl (s_x9_fill_104 C N hrec31 σ8 x2)
        · refine g_aload_n C 2 dX9_fill_82 rfl rfl ?_
          refine g_iload_n C 3 dX9_fill_83 rfl rfl ?_
          refine g_aload_n C 2 dX9_fill_84 rfl rfl ?_
          refine gf_RX9_26 C  dX9_fill_85 ?_
          refine g_iload_n C 1 dX9_fill_88 rfl rfl ?_
          refine g_iload C 0 dX9_fill_89 rfl ?_
          refine v_x6_go_RX9 C ⟨by decide, by decide⟩ (Nat.le_of_ble_eq_true rfl) dX9_fill_91 (fun r9 σ10 _ => ?_)
          refine v_x9_noteFailure_RX9 C ⟨by decide, by decide⟩ (Nat.le_of_ble_eq_true rfl) dX9_fill_94 (fun r11 σ12 _ => ?_)
          refine g_aload_n C 2 dX9_fill_97 rfl rfl ?_
          refine g_iload_n C 1 dX9_fill_98 rfl rfl ?_
          refine g_iload C 0 dX9_fill_99 rfl ?_
          refine v_x9_skipTheSame_RX9 C ⟨by decide, by decide⟩ (Nat.le_of_ble_eq_true rfl) dX9_fill_101 (fun r13 σ14 _ => ?_)
          exact g_sub [2, 3] rfl (s_x9_fill_104 C N hrec31 σ14 x2)
set_option maxHeartbeats 4000000 in
set_option maxRecDepth 100000 in
theorem s_x9_fill_31 {X : Cx} {ad : Nat → Nat} (C : Ok X cX9_fill RX9 5 none 6 137) (N : Nat) : ∀ (n : Nat) (σ : St) (x2 : Int32), Sim X scC ad 5 outV 31 [(0, .ref (ad 19)), (2, .int x2)] [] σ (x9_fill_31 N n σ x2) := by
  intro n
  induction n with
  | zero => intro σ x2; exact g_none
  | succ n ih => intro σ x2; exact s_x9_fill_31_b C N ih σ x2
set_option maxHeartbeats 4000000 in
set_option maxRecDepth 100000 in
theorem s_x9_fill {X : Cx} {ad : Nat → Nat} (C : Ok X cX9_fill RX9 5 none 6 137) (N : Nat) (σ : St) (a1 : Int32) : Sim X scC ad 5 outV 0 [(0, .ref (ad 19)), (1, .int a1)] [] σ (x9_fill N σ a1) := by
  unfold x9_fill
  refine g_aload_n C 0 dX9_fill_0 rfl rfl ?_
  refine gf_RX9_18 C  (v := gI σ 1904) dX9_fill_1 rfl ?_
  refine g_if_ne C 8 dX9_fill_4 (by decide) ?_ ?_
  · refine g_aload_n C 0 dX9_fill_8 rfl rfl ?_
    refine g_iload_n C 1 dX9_fill_9 rfl rfl ?_
    refine pf_RX9_30 C dX9_fill_10 ?_
    refine g_aload_n C 0 dX9_fill_13 rfl rfl ?_
    refine gf_RX9_9 C  dX9_fill_14 ?_
    refine g_iconst C (-1) dX9_fill_17 (by decide) ?_
    refine v_j_fill_RX9 C ⟨by decide, by decide⟩ (Nat.le_of_ble_eq_true rfl) dX9_fill_18 (fun r1 σ2 _ => ?_)
    refine g_aload_n C 0 dX9_fill_21 rfl rfl ?_
    refine gf_RX9_15 C  dX9_fill_22 ?_
    refine g_iconst C (-1) dX9_fill_25 (by decide) ?_
    refine v_j_fill_RX9 C ⟨by decide, by decide⟩ (Nat.le_of_ble_eq_true rfl) dX9_fill_26 (fun r3 σ4 _ => ?_)
    refine g_iconst C 0 dX9_fill_29 (by decide) ?_
    refine g_istore_n C [(2, .int 0), (0, .ref (ad 19)), (1, .int a1)] dX9_fill_30 rfl (by decide) rfl ?_
    exact g_sub [1, 0] rfl (s_x9_fill_31 C N N σ4 0)
  · exact g_vret C dX9_fill_7
theorem c_x9_fill {Y : Yx} {ad : Nat → Nat} {N : Nat} {σ : St} {a1 : Int32} {r : Unit} {σ' : St} (h : x9_fill N σ a1 = some (r, σ')) : Con Y scC ad yX9_fill cX9_fill 5 none 6 137 [.ref (ad 19), .int a1] σ (outV r) σ' := con_of (by decide) rfl (Nat.le_of_ble_eq_true rfl) rfl (fun X hX C => s_x9_fill C N σ a1) h
set_option maxRecDepth 20000 in
theorem v_x9_fill_RX10 {X : Cx} {cc : ByteArray} {nL : Nat} {ret : Option FieldType} {fr lo : Nat} {ad : Nat → Nat} {ρ : Type} {out : ρ → Option Value} {pc : Nat} {lv : List (Nat × Value)} {rest : List Value} {σ : St} {N : Nat} {K : Unit → St → Option (ρ × St)} {a1 : Int32} (C : Ok X cc RX10 nL ret fr lo) (hR : 6 + 1 ≤ fr ∧ 8 + (5 + 11) + 137 ≤ lo) (hcat : (rest.map fun v => v.category).sum ≤ 8) (hdg : decode cc pc = .ok (.invokevirtual 213, 3)) (k : ∀ (r : Unit) (σ' : St), x9_fill N σ a1 = some (r, σ') → Sim X scC ad nL out (pc + 3) lv rest σ' (K r σ')) : Sim X scC ad nL out pc lv (.int a1 :: .ref (ad 19) :: rest) σ (bd (x9_fill N σ a1) K) := g_callV C (out1 := outV) (y := yX9_fill) (n := 1) ⟨gw_1012, gw_1013, gw_1014, gw_115, gw_1015⟩ (by decide +kernel) hR (o := 19) (ci := 8) (q9 := (RX9, TX9, 6)) im_19 rfl rfl rfl (fun r σ' h => c_x9_fill h) rfl rfl hcat hdg k

def x10_putNumber_49 (N : Nat) (rec3 : St → Int32 → Int32 → Option (Unit × St)) (σ : St) (x1 : Int32) (x2 : Int32) : Option (Unit × St) :=
  rec3 σ x1 (x2 + (-8))
def x10_putNumber_3_b (N : Nat) (rec3 : St → Int32 → Int32 → Option (Unit × St)) (σ : St) (x1 : Int32) (x2 : Int32) : Option (Unit × St) :=
  (if x2 < 0 then some ((), σ) else (if (gI σ 1) < 0 then x10_putNumber_49 N rec3 σ x1 x2 else (if 1200 ≤ (gI σ 1) then x10_putNumber_49 N rec3 σ x1 x2 else gd (ib (gI σ 1) 1200) (x10_putNumber_49 N rec3 (sI (sA σ 1 ((gI σ 1).toNatClampNeg) (vp_nar .byte ((x1 >>> (x2 &&& 31)).toInt8.toInt32))) 1 ((gI σ 1) + 1)) x1 x2))))
def x10_putNumber_3 (N : Nat) : Nat → St → Int32 → Int32 → Option (Unit × St)
  | 0 => fun _ _ _ => none
  | n + 1 => fun σ x1 x2 => x10_putNumber_3_b N (x10_putNumber_3 N n) σ x1 x2
def x10_putNumber (N : Nat) (σ : St) (a1 : Int32) : Option (Unit × St) :=
  x10_putNumber_3 N N σ a1 24
set_option maxHeartbeats 4000000 in
set_option maxRecDepth 100000 in
theorem s_x10_putNumber_49 {X : Cx} {ad : Nat → Nat} (C : Ok X cX10_putNumber RX10 3 none 0 0) (N : Nat) {rec3 : St → Int32 → Int32 → Option (Unit × St)} (hrec3 : ∀ (σ : St) (x1 : Int32) (x2 : Int32), Sim X scC ad 3 outV 3 [(0, .ref (ad 0)), (1, .int x1), (2, .int x2)] [] σ (rec3 σ x1 x2)) (σ : St) (x1 : Int32) (x2 : Int32) : Sim X scC ad 3 outV 49 [(0, .ref (ad 0)), (1, .int x1), (2, .int x2)] [] σ (x10_putNumber_49 N rec3 σ x1 x2) := by
  unfold x10_putNumber_49
  refine g_iinc C (x2 + (-8)) 2 [(2, .int (x2 + (-8))), (0, .ref (ad 0)), (1, .int x1)] dX10_putNumber_49 rfl rfl (by decide) rfl ?_
  refine g_goto C 3 dX10_putNumber_52 (by decide) ?_
  exact g_sub [1, 2, 0] rfl (hrec3 σ x1 (x2 + (-8)))
set_option maxHeartbeats 4000000 in
set_option maxRecDepth 100000 in
theorem s_x10_putNumber_3_b {X : Cx} {ad : Nat → Nat} (C : Ok X cX10_putNumber RX10 3 none 0 0) (N : Nat) {rec3 : St → Int32 → Int32 → Option (Unit × St)} (hrec3 : ∀ (σ : St) (x1 : Int32) (x2 : Int32), Sim X scC ad 3 outV 3 [(0, .ref (ad 0)), (1, .int x1), (2, .int x2)] [] σ (rec3 σ x1 x2)) (σ : St) (x1 : Int32) (x2 : Int32) : Sim X scC ad 3 outV 3 [(0, .ref (ad 0)), (1, .int x1), (2, .int x2)] [] σ (x10_putNumber_3_b N rec3 σ x1 x2) := by
  unfold x10_putNumber_3_b
  refine g_iload_n C 2 dX10_putNumber_3 rfl rfl ?_
  refine g_if_lt C 55 dX10_putNumber_4 (by decide) ?_ ?_
  · exact g_vret C dX10_putNumber_55
  · refine g_aload_n C 0 dX10_putNumber_7 rfl rfl ?_
    refine gf_RX10_87 C  (v := gI σ 1) dX10_putNumber_8 rfl ?_
    refine g_if_lt C 49 dX10_putNumber_11 (by decide) ?_ ?_
    · exact g_sub [0, 1, 2] rfl (s_x10_putNumber_49 C N hrec3 σ x1 x2)
    · refine g_aload_n C 0 dX10_putNumber_14 rfl rfl ?_
      refine gf_RX10_87 C  (v := gI σ 1) dX10_putNumber_15 rfl ?_
      refine g_aload_n C 0 dX10_putNumber_18 rfl rfl ?_
      refine gf_RX10_9 C  dX10_putNumber_19 ?_
      refine ca_lenB C (j := 1) 1200 ia_1 (by rw [il_1]; decide) dX10_putNumber_22 ?_
      refine g_icmp_ge C 49 dX10_putNumber_23 (by decide) ?_ ?_
      · exact g_sub [0, 1, 2] rfl (s_x10_putNumber_49 C N hrec3 σ x1 x2)
      · refine g_aload_n C 0 dX10_putNumber_26 rfl rfl ?_
        refine gf_RX10_9 C  dX10_putNumber_27 ?_
        refine g_aload_n C 0 dX10_putNumber_30 rfl rfl ?_
        refine gf_RX10_87 C  (v := gI σ 1) dX10_putNumber_31 rfl ?_
        refine g_iload_n C 1 dX10_putNumber_34 rfl rfl ?_
        refine g_iload_n C 2 dX10_putNumber_35 rfl rfl ?_
        refine g_ishr C dX10_putNumber_36 ?_
        refine g_i2b C dX10_putNumber_37 ?_
        refine ca_stB C (j := 1) ia_1 il_1 dX10_putNumber_38 ?_
        refine g_aload_n C 0 dX10_putNumber_39 rfl rfl ?_
        refine g_dup C dX10_putNumber_40 rfl ?_
        refine gf_RX10_87 C  (v := gI σ 1) dX10_putNumber_41 rfl ?_
        refine g_iconst C 1 dX10_putNumber_44 (by decide) ?_
        refine g_iadd C dX10_putNumber_45 ?_
        refine pf_RX10_87 C dX10_putNumber_46 ?_
        exact g_sub [0, 1, 2] rfl (s_x10_putNumber_49 C N hrec3 (sI (sA σ 1 ((gI σ 1).toNatClampNeg) (vp_nar .byte ((x1 >>> (x2 &&& 31)).toInt8.toInt32))) 1 ((gI σ 1) + 1)) x1 x2)
set_option maxHeartbeats 4000000 in
set_option maxRecDepth 100000 in
theorem s_x10_putNumber_3 {X : Cx} {ad : Nat → Nat} (C : Ok X cX10_putNumber RX10 3 none 0 0) (N : Nat) : ∀ (n : Nat) (σ : St) (x1 : Int32) (x2 : Int32), Sim X scC ad 3 outV 3 [(0, .ref (ad 0)), (1, .int x1), (2, .int x2)] [] σ (x10_putNumber_3 N n σ x1 x2) := by
  intro n
  induction n with
  | zero => intro σ x1 x2; exact g_none
  | succ n ih => intro σ x1 x2; exact s_x10_putNumber_3_b C N ih σ x1 x2
set_option maxHeartbeats 4000000 in
set_option maxRecDepth 100000 in
theorem s_x10_putNumber {X : Cx} {ad : Nat → Nat} (C : Ok X cX10_putNumber RX10 3 none 0 0) (N : Nat) (σ : St) (a1 : Int32) : Sim X scC ad 3 outV 0 [(0, .ref (ad 0)), (1, .int a1)] [] σ (x10_putNumber N σ a1) := by
  unfold x10_putNumber
  refine g_bipush C 24 dX10_putNumber_0 (by decide) ?_
  refine g_istore_n C [(2, .int 24), (0, .ref (ad 0)), (1, .int a1)] dX10_putNumber_2 rfl (by decide) rfl ?_
  exact g_sub [1, 2, 0] rfl (s_x10_putNumber_3 C N N σ a1 24)
theorem c_x10_putNumber {Y : Yx} {ad : Nat → Nat} {N : Nat} {σ : St} {a1 : Int32} {r : Unit} {σ' : St} (h : x10_putNumber N σ a1 = some (r, σ')) : Con Y scC ad yX10_putNumber cX10_putNumber 3 none 0 0 [.ref (ad 0), .int a1] σ (outV r) σ' := con_of (by decide) rfl (Nat.le_of_ble_eq_true rfl) rfl (fun X hX C => s_x10_putNumber C N σ a1) h
set_option maxRecDepth 20000 in
theorem v_x10_putNumber_RX10 {X : Cx} {cc : ByteArray} {nL : Nat} {ret : Option FieldType} {fr lo : Nat} {ad : Nat → Nat} {ρ : Type} {out : ρ → Option Value} {pc : Nat} {lv : List (Nat × Value)} {rest : List Value} {σ : St} {N : Nat} {K : Unit → St → Option (ρ × St)} {a1 : Int32} (C : Ok X cc RX10 nL ret fr lo) (hR : 0 + 1 ≤ fr ∧ 8 + (3 + 11) + 0 ≤ lo) (hcat : (rest.map fun v => v.category).sum ≤ 8) (hdg : decode cc pc = .ok (.invokevirtual 90, 3)) (k : ∀ (r : Unit) (σ' : St), x10_putNumber N σ a1 = some (r, σ') → Sim X scC ad nL out (pc + 3) lv rest σ' (K r σ')) : Sim X scC ad nL out pc lv (.int a1 :: .ref (ad 0) :: rest) σ (bd (x10_putNumber N σ a1) K) := g_callV C (out1 := outV) (y := yX10_putNumber) (n := 1) ⟨gw_532, gw_534, gw_0, gw_107, gw_535⟩ (by decide +kernel) hR (o := 0) (ci := 9) (q9 := (RX10, TX10, 13)) im_0 rfl rfl rfl (fun r σ' h => c_x10_putNumber h) rfl rfl hcat hdg k

def x10_feed (N : Nat) (σ : St) (a1 : Int32) (a2 : Int32) (a3 : Int32) (a4 : Int32) (a5 : Int32) : Option (Int32 × St) :=
  (if ((gI σ 1) + 20) ≤ 1200 then bd (x10_putNumber N σ a1) (fun _ σ2 => bd (x10_putNumber N σ2 a2) (fun _ σ4 => bd (x10_putNumber N σ4 a3) (fun _ σ6 => bd (x10_putNumber N σ6 a4) (fun _ σ8 => bd (x10_putNumber N σ8 a5) (fun _ σ10 => some (gI σ10 1, σ10)))))) else some ((-1), σ))
set_option maxHeartbeats 4000000 in
set_option maxRecDepth 100000 in
theorem s_x10_feed {X : Cx} {ad : Nat → Nat} (C : Ok X cX10_feed RX10 6 (some .int) 1 22) (N : Nat) (σ : St) (a1 : Int32) (a2 : Int32) (a3 : Int32) (a4 : Int32) (a5 : Int32) : Sim X scC ad 6 outI 0 [(0, .ref (ad 0)), (1, .int a1), (2, .int a2), (3, .int a3), (4, .int a4), (5, .int a5)] [] σ (x10_feed N σ a1 a2 a3 a4 a5) := by
  unfold x10_feed
  refine g_aload_n C 0 dX10_feed_0 rfl rfl ?_
  refine gf_RX10_87 C  (v := gI σ 1) dX10_feed_1 rfl ?_
  refine g_bipush C 20 dX10_feed_4 (by decide) ?_
  refine g_iadd C dX10_feed_6 ?_
  refine g_sipush C 1200 dX10_feed_7 (by decide) ?_
  refine g_icmp_le C 15 dX10_feed_10 (by decide) ?_ ?_
  · refine g_aload_n C 0 dX10_feed_15 rfl rfl ?_
    refine g_iload_n C 1 dX10_feed_16 rfl rfl ?_
    refine v_x10_putNumber_RX10 C ⟨by decide, by decide⟩ (Nat.le_of_ble_eq_true rfl) dX10_feed_17 (fun r1 σ2 _ => ?_)
    refine g_aload_n C 0 dX10_feed_20 rfl rfl ?_
    refine g_iload_n C 2 dX10_feed_21 rfl rfl ?_
    refine v_x10_putNumber_RX10 C ⟨by decide, by decide⟩ (Nat.le_of_ble_eq_true rfl) dX10_feed_22 (fun r3 σ4 _ => ?_)
    refine g_aload_n C 0 dX10_feed_25 rfl rfl ?_
    refine g_iload_n C 3 dX10_feed_26 rfl rfl ?_
    refine v_x10_putNumber_RX10 C ⟨by decide, by decide⟩ (Nat.le_of_ble_eq_true rfl) dX10_feed_27 (fun r5 σ6 _ => ?_)
    refine g_aload_n C 0 dX10_feed_30 rfl rfl ?_
    refine g_iload C 4 dX10_feed_31 rfl ?_
    refine v_x10_putNumber_RX10 C ⟨by decide, by decide⟩ (Nat.le_of_ble_eq_true rfl) dX10_feed_33 (fun r7 σ8 _ => ?_)
    refine g_aload_n C 0 dX10_feed_36 rfl rfl ?_
    refine g_iload C 5 dX10_feed_37 rfl ?_
    refine v_x10_putNumber_RX10 C ⟨by decide, by decide⟩ (Nat.le_of_ble_eq_true rfl) dX10_feed_39 (fun r9 σ10 _ => ?_)
    refine g_aload_n C 0 dX10_feed_42 rfl rfl ?_
    refine gf_RX10_87 C  (v := gI σ10 1) dX10_feed_43 rfl ?_
    exact g_iret C dX10_feed_46
  · refine g_iconst C (-1) dX10_feed_13 (by decide) ?_
    exact g_iret C dX10_feed_14
theorem c_x10_feed {Y : Yx} {ad : Nat → Nat} {N : Nat} {σ : St} {a1 : Int32} {a2 : Int32} {a3 : Int32} {a4 : Int32} {a5 : Int32} {r : Int32} {σ' : St} (h : x10_feed N σ a1 a2 a3 a4 a5 = some (r, σ')) : Con Y scC ad yX10_feed cX10_feed 6 (some .int) 1 22 [.ref (ad 0), .int a1, .int a2, .int a3, .int a4, .int a5] σ (outI r) σ' := con_of (by decide) rfl (Nat.le_of_ble_eq_true rfl) rfl (fun X hX C => s_x10_feed C N σ a1 a2 a3 a4 a5) h


def x10_forget (N : Nat) (σ : St) : Option (Unit × St) :=
  some ((), (sI (sI (sI σ 908 1) 1904 1) 2204 1))
set_option maxHeartbeats 4000000 in
set_option maxRecDepth 100000 in
theorem s_x10_forget {X : Cx} {ad : Nat → Nat} (C : Ok X cX10_forget RX10 1 none 0 0) (N : Nat) (σ : St) : Sim X scC ad 1 outV 0 [(0, .ref (ad 0))] [] σ (x10_forget N σ) := by
  unfold x10_forget
  refine g_aload_n C 0 dX10_forget_0 rfl rfl ?_
  refine gf_RX10_54 C  dX10_forget_1 ?_
  refine g_iconst C 1 dX10_forget_4 (by decide) ?_
  refine pf_RX10_246 C rfl dX10_forget_5 ?_
  refine g_aload_n C 0 dX10_forget_8 rfl rfl ?_
  refine gf_RX10_70 C  dX10_forget_9 ?_
  refine g_iconst C 1 dX10_forget_12 (by decide) ?_
  refine pf_RX10_247 C rfl dX10_forget_13 ?_
  refine g_aload_n C 0 dX10_forget_16 rfl rfl ?_
  refine gf_RX10_79 C  dX10_forget_17 ?_
  refine g_iconst C 1 dX10_forget_20 (by decide) ?_
  refine pf_RX10_221 C rfl dX10_forget_21 ?_
  exact g_vret C dX10_forget_24
theorem c_x10_forget {Y : Yx} {ad : Nat → Nat} {N : Nat} {σ : St} {r : Unit} {σ' : St} (h : x10_forget N σ = some (r, σ')) : Con Y scC ad yX10_forget cX10_forget 1 none 0 0 [.ref (ad 0)] σ (outV r) σ' := con_of (by decide) rfl (Nat.le_of_ble_eq_true rfl) rfl (fun X hX C => s_x10_forget C N σ) h
set_option maxRecDepth 20000 in
theorem v_x10_forget_RX10 {X : Cx} {cc : ByteArray} {nL : Nat} {ret : Option FieldType} {fr lo : Nat} {ad : Nat → Nat} {ρ : Type} {out : ρ → Option Value} {pc : Nat} {lv : List (Nat × Value)} {rest : List Value} {σ : St} {N : Nat} {K : Unit → St → Option (ρ × St)} (C : Ok X cc RX10 nL ret fr lo) (hR : 0 + 1 ≤ fr ∧ 8 + (1 + 11) + 0 ≤ lo) (hcat : (rest.map fun v => v.category).sum ≤ 8) (hdg : decode cc pc = .ok (.invokevirtual 119, 3)) (k : ∀ (r : Unit) (σ' : St), x10_forget N σ = some (r, σ') → Sim X scC ad nL out (pc + 3) lv rest σ' (K r σ')) : Sim X scC ad nL out pc lv (.ref (ad 0) :: rest) σ (bd (x10_forget N σ) K) := g_callV C (out1 := outV) (y := yX10_forget) (n := 0) ⟨gw_794, gw_796, gw_23, gw_107, gw_797⟩ (by decide +kernel) hR (o := 0) (ci := 9) (q9 := (RX10, TX10, 13)) im_0 rfl rfl rfl (fun r σ' h => c_x10_forget h) rfl rfl hcat hdg k

def x10_text (N : Nat) (σ : St) (a1 : Int32) : Option (Int32 × St) :=
  (if a1 < 0 then some ((-2), σ) else (if a1 ≤ (gI σ 1) then bd (x8_scan N (sI σ 1 0) a1) (fun _ σ2 => bd (x4_readInto N σ2 (gP σ2 3)) (fun _ σ4 => (if (gI σ4 408) = 0 then gd (isPr (gP σ4 3)) (bd (x7_startAt N (sP (sP (sI (sI σ4 5 (gI σ4 408)) 6 (gI σ4 409)) 700 (gP σ4 3)) 3 (gP σ4 700)) (gI (sI (sI σ4 5 (gI σ4 408)) 6 (gI σ4 409)) (100 * (gP σ4 3) + 13))) (fun _ σ7 => bd (x10_forget N σ7) (fun _ σ9 => gd (isPr (gP σ9 700)) (some (gI σ9 (100 * (gP σ9 700) + 10), σ9))))) else some ((-1), (sI (sI σ4 5 (gI σ4 408)) 6 (gI σ4 409)))))) else some ((-2), σ)))
set_option maxHeartbeats 4000000 in
set_option maxRecDepth 100000 in
theorem s_x10_text {X : Cx} {ad : Nat → Nat} (C : Ok X cX10_text RX10 3 (some .int) 7 156) (N : Nat) (σ : St) (a1 : Int32) : Sim X scC ad 3 outI 0 [(0, .ref (ad 0)), (1, .int a1)] [] σ (x10_text N σ a1) := by
  unfold x10_text
  refine g_iload_n C 1 dX10_text_0 rfl rfl ?_
  refine g_if_lt C 12 dX10_text_1 (by decide) ?_ ?_
  · refine g_bipush C (-2) dX10_text_12 (by decide) ?_
    exact g_iret C dX10_text_14
  · refine g_iload_n C 1 dX10_text_4 rfl rfl ?_
    refine g_aload_n C 0 dX10_text_5 rfl rfl ?_
    refine gf_RX10_87 C  (v := gI σ 1) dX10_text_6 rfl ?_
    refine g_icmp_le C 15 dX10_text_9 (by decide) ?_ ?_
    · refine g_aload_n C 0 dX10_text_15 rfl rfl ?_
      refine g_iconst C 0 dX10_text_16 (by decide) ?_
      refine pf_RX10_87 C dX10_text_17 ?_
      refine g_aload_n C 0 dX10_text_20 rfl rfl ?_
      refine gf_RX10_16 C  dX10_text_21 ?_
      refine g_aload_n C 0 dX10_text_24 rfl rfl ?_
      refine gf_RX10_9 C  dX10_text_25 ?_
      refine g_iload_n C 1 dX10_text_28 rfl rfl ?_
      refine v_x8_scan_RX10 C ⟨by decide, by decide⟩ (Nat.le_of_ble_eq_true rfl) dX10_text_29 (fun r1 σ2 _ => ?_)
      refine g_aload_n C 0 dX10_text_32 rfl rfl ?_
      refine gf_RX10_32 C  dX10_text_33 ?_
      refine g_aload_n C 0 dX10_text_36 rfl rfl ?_
      refine gf_RX10_23 C  (v := gP σ2 3) dX10_text_37 rfl ?_
      refine v_x4_readInto_RX10 C ⟨by decide, by decide⟩ (Nat.le_of_ble_eq_true rfl) dX10_text_40 (fun r3 σ4 _ => ?_)
      refine g_aload_n C 0 dX10_text_43 rfl rfl ?_
      refine g_aload_n C 0 dX10_text_44 rfl rfl ?_
      refine gf_RX10_32 C  dX10_text_45 ?_
      refine gf_RX10_101 C  (v := gI σ4 408) dX10_text_48 rfl ?_
      refine pf_RX10_104 C dX10_text_51 ?_
      refine g_aload_n C 0 dX10_text_54 rfl rfl ?_
      refine g_aload_n C 0 dX10_text_55 rfl rfl ?_
      refine gf_RX10_32 C  dX10_text_56 ?_
      refine gf_RX10_107 C  (v := gI σ4 409) dX10_text_59 rfl ?_
      refine pf_RX10_36 C dX10_text_62 ?_
      refine g_aload_n C 0 dX10_text_65 rfl rfl ?_
      refine gf_RX10_104 C  (v := gI σ4 408) dX10_text_66 rfl ?_
      refine g_if_eq C 74 dX10_text_69 (by decide) ?_ ?_
      · refine g_aload_n C 0 dX10_text_74 rfl rfl ?_
        refine gf_RX10_45 C  dX10_text_75 ?_
        refine gf_RX10_110 C  (v := gP σ4 700) dX10_text_78 rfl ?_
        refine g_astore_n C [(2, .ref (ad (gP σ4 700))), (0, .ref (ad 0)), (1, .int a1)] dX10_text_81 rfl (by decide) rfl ?_
        refine g_aload_n C 1 dX10_text_82 rfl rfl ?_
        refine gf_RX10_45 C  dX10_text_83 ?_
        refine g_aload_n C 1 dX10_text_86 rfl rfl ?_
        refine gf_RX10_23 C  (v := gP σ4 3) dX10_text_87 rfl ?_
        refine pf_RX10_110 C dX10_text_90 ?_
        refine g_aload_n C 1 dX10_text_93 rfl rfl ?_
        refine g_aload_n C 0 dX10_text_94 rfl rfl ?_
        refine pf_RX10_23 C dX10_text_95 ?_
        refine g_aload_n C 1 dX10_text_98 rfl rfl ?_
        refine gf_RX10_45 C  dX10_text_99 ?_
        refine g_aload_n C 1 dX10_text_102 rfl rfl ?_
        refine gf_RX10_45 C  dX10_text_103 ?_
        refine gf_RX10_110 C  (v := gP σ4 3) dX10_text_106 rfl ?_
        refine g_gd (fun hp5 => ?_)
        refine gf_RX10_113 C hp5 (v := gI (sI (sI σ4 5 (gI σ4 408)) 6 (gI σ4 409)) (100 * (gP σ4 3) + 13)) dX10_text_109 rfl ?_
        refine v_x7_startAt_RX10 C ⟨by decide, by decide⟩ (Nat.le_of_ble_eq_true rfl) dX10_text_112 (fun r6 σ7 _ => ?_)
        refine g_aload_n C 1 dX10_text_115 rfl rfl ?_
        refine v_x10_forget_RX10 C ⟨by decide, by decide⟩ (Nat.le_of_ble_eq_true rfl) dX10_text_116 (fun r8 σ9 _ => ?_)
        refine g_aload_n C 1 dX10_text_119 rfl rfl ?_
        refine gf_RX10_45 C  dX10_text_120 ?_
        refine gf_RX10_110 C  (v := gP σ9 700) dX10_text_123 rfl ?_
        refine g_gd (fun hp10 => ?_)
        refine gf_RX10_122 C hp10 (v := gI σ9 (100 * (gP σ9 700) + 10)) dX10_text_126 rfl ?_
        exact g_iret C dX10_text_129
      · refine g_iconst C (-1) dX10_text_72 (by decide) ?_
        exact g_iret C dX10_text_73
    · refine g_bipush C (-2) dX10_text_12 (by decide) ?_
      exact g_iret C dX10_text_14
theorem c_x10_text {Y : Yx} {ad : Nat → Nat} {N : Nat} {σ : St} {a1 : Int32} {r : Int32} {σ' : St} (h : x10_text N σ a1 = some (r, σ')) : Con Y scC ad yX10_text cX10_text 3 (some .int) 7 156 [.ref (ad 0), .int a1] σ (outI r) σ' := con_of (by decide) rfl (Nat.le_of_ble_eq_true rfl) rfl (fun X hX C => s_x10_text C N σ a1) h


def x10_fault (N : Nat) (σ : St) (a1 : Int32) : Option (Int32 × St) :=
  (if a1 = 0 then some (gI σ 5, σ) else (if a1 = 1 then some (gI σ 6, σ) else some ((-1), σ)))
set_option maxHeartbeats 4000000 in
set_option maxRecDepth 100000 in
theorem s_x10_fault {X : Cx} {ad : Nat → Nat} (C : Ok X cX10_fault RX10 2 (some .int) 0 0) (N : Nat) (σ : St) (a1 : Int32) : Sim X scC ad 2 outI 0 [(0, .ref (ad 0)), (1, .int a1)] [] σ (x10_fault N σ a1) := by
  unfold x10_fault
  refine g_iload_n C 1 dX10_fault_0 rfl rfl ?_
  refine g_if_ne C 9 dX10_fault_1 (by decide) ?_ ?_
  · refine g_iload_n C 1 dX10_fault_9 rfl rfl ?_
    refine g_iconst C 1 dX10_fault_10 (by decide) ?_
    refine g_icmp_ne C 21 dX10_fault_11 (by decide) ?_ ?_
    · refine g_iconst C (-1) dX10_fault_21 (by decide) ?_
      exact g_iret C dX10_fault_22
    · refine g_aload_n C 0 dX10_fault_14 rfl rfl ?_
      refine gf_RX10_36 C  (v := gI σ 6) dX10_fault_15 rfl ?_
      refine g_goto C 22 dX10_fault_18 (by decide) ?_
      exact g_iret C dX10_fault_22
  · refine g_aload_n C 0 dX10_fault_4 rfl rfl ?_
    refine gf_RX10_104 C  (v := gI σ 5) dX10_fault_5 rfl ?_
    exact g_iret C dX10_fault_8
theorem c_x10_fault {Y : Yx} {ad : Nat → Nat} {N : Nat} {σ : St} {a1 : Int32} {r : Int32} {σ' : St} (h : x10_fault N σ a1 = some (r, σ')) : Con Y scC ad yX10_fault cX10_fault 2 (some .int) 0 0 [.ref (ad 0), .int a1] σ (outI r) σ' := con_of (by decide) rfl (Nat.le_of_ble_eq_true rfl) rfl (fun X hX C => s_x10_fault C N σ a1) h


def x10_entry (N : Nat) (σ : St) (a1 : Int32) : Option (Int32 × St) :=
  gd (isPr (gP σ 700)) (bd (x3_has N σ (gP σ 700) a1) (fun r2 σ3 => (if r2 = 0 then some (0, σ3) else bd (x7_startAt N σ3 a1) (fun _ σ5 => bd (x10_forget N σ5) (fun _ σ7 => some (1, σ7))))))
set_option maxHeartbeats 4000000 in
set_option maxRecDepth 100000 in
theorem s_x10_entry {X : Cx} {ad : Nat → Nat} (C : Ok X cX10_entry RX10 2 (some .boolean) 2 44) (N : Nat) (σ : St) (a1 : Int32) : Sim X scC ad 2 outI 0 [(0, .ref (ad 0)), (1, .int a1)] [] σ (x10_entry N σ a1) := by
  unfold x10_entry
  refine g_aload_n C 0 dX10_entry_0 rfl rfl ?_
  refine gf_RX10_45 C  dX10_entry_1 ?_
  refine gf_RX10_110 C  (v := gP σ 700) dX10_entry_4 rfl ?_
  refine g_iload_n C 1 dX10_entry_7 rfl rfl ?_
  refine g_gd (fun hp1 => ?_)
  refine v_x3_has_RX10 C hp1 ⟨by decide, by decide⟩ (Nat.le_of_ble_eq_true rfl) dX10_entry_8 (fun r2 σ3 _ => ?_)
  refine g_if_ne C 16 dX10_entry_11 (by decide) ?_ ?_
  · refine g_aload_n C 0 dX10_entry_16 rfl rfl ?_
    refine gf_RX10_45 C  dX10_entry_17 ?_
    refine g_iload_n C 1 dX10_entry_20 rfl rfl ?_
    refine v_x7_startAt_RX10 C ⟨by decide, by decide⟩ (Nat.le_of_ble_eq_true rfl) dX10_entry_21 (fun r4 σ5 _ => ?_)
    refine g_aload_n C 0 dX10_entry_24 rfl rfl ?_
    refine v_x10_forget_RX10 C ⟨by decide, by decide⟩ (Nat.le_of_ble_eq_true rfl) dX10_entry_25 (fun r6 σ7 _ => ?_)
    refine g_iconst C 1 dX10_entry_28 (by decide) ?_
    exact g_zret C rfl dX10_entry_29
  · refine g_iconst C 0 dX10_entry_14 (by decide) ?_
    exact g_zret C rfl dX10_entry_15
theorem c_x10_entry {Y : Yx} {ad : Nat → Nat} {N : Nat} {σ : St} {a1 : Int32} {r : Int32} {σ' : St} (h : x10_entry N σ a1 = some (r, σ')) : Con Y scC ad yX10_entry cX10_entry 2 (some .boolean) 2 44 [.ref (ad 0), .int a1] σ (outI r) σ' := con_of (by decide) rfl (Nat.le_of_ble_eq_true rfl) rfl (fun X hX C => s_x10_entry C N σ a1) h


def x10_outer (N : Nat) (σ : St) (a1 : Int32) (a2 : Int32) : Option (Int32 × St) :=
  (if a1 < 0 then some (0, σ) else bd (x7_outers N σ) (fun r1 σ2 => (if r1 ≤ a1 then some (0, σ2) else (if a2 < 1 then some (0, σ2) else (if a2 ≤ 3 then bd (x5_put N σ2 8 a1 a2) (fun _ σ4 => bd (x10_forget N σ4) (fun _ σ6 => some (1, σ6))) else some (0, σ2))))))
set_option maxHeartbeats 4000000 in
set_option maxRecDepth 100000 in
theorem s_x10_outer {X : Cx} {ad : Nat → Nat} (C : Ok X cX10_outer RX10 3 (some .boolean) 2 41) (N : Nat) (σ : St) (a1 : Int32) (a2 : Int32) : Sim X scC ad 3 outI 0 [(0, .ref (ad 0)), (1, .int a1), (2, .int a2)] [] σ (x10_outer N σ a1 a2) := by
  unfold x10_outer
  refine g_iload_n C 1 dX10_outer_0 rfl rfl ?_
  refine g_if_lt C 25 dX10_outer_1 (by decide) ?_ ?_
  · refine g_iconst C 0 dX10_outer_25 (by decide) ?_
    exact g_zret C rfl dX10_outer_26
  · refine g_iload_n C 1 dX10_outer_4 rfl rfl ?_
    refine g_aload_n C 0 dX10_outer_5 rfl rfl ?_
    refine gf_RX10_45 C  dX10_outer_6 ?_
    refine v_x7_outers_RX10 C ⟨by decide, by decide⟩ (Nat.le_of_ble_eq_true rfl) dX10_outer_9 (fun r1 σ2 _ => ?_)
    refine g_icmp_ge C 25 dX10_outer_12 (by decide) ?_ ?_
    · refine g_iconst C 0 dX10_outer_25 (by decide) ?_
      exact g_zret C rfl dX10_outer_26
    · refine g_iload_n C 2 dX10_outer_15 rfl rfl ?_
      refine g_iconst C 1 dX10_outer_16 (by decide) ?_
      refine g_icmp_lt C 25 dX10_outer_17 (by decide) ?_ ?_
      · refine g_iconst C 0 dX10_outer_25 (by decide) ?_
        exact g_zret C rfl dX10_outer_26
      · refine g_iload_n C 2 dX10_outer_20 rfl rfl ?_
        refine g_iconst C 3 dX10_outer_21 (by decide) ?_
        refine g_icmp_le C 27 dX10_outer_22 (by decide) ?_ ?_
        · refine g_aload_n C 0 dX10_outer_27 rfl rfl ?_
          refine gf_RX10_45 C  dX10_outer_28 ?_
          refine gf_RX10_133 C  dX10_outer_31 ?_
          refine g_iload_n C 1 dX10_outer_34 rfl rfl ?_
          refine g_iload_n C 2 dX10_outer_35 rfl rfl ?_
          refine v_x5_put_RX10 C ⟨by decide, by decide⟩ (Nat.le_of_ble_eq_true rfl) dX10_outer_36 (fun r3 σ4 _ => ?_)
          refine g_aload_n C 0 dX10_outer_39 rfl rfl ?_
          refine v_x10_forget_RX10 C ⟨by decide, by decide⟩ (Nat.le_of_ble_eq_true rfl) dX10_outer_40 (fun r5 σ6 _ => ?_)
          refine g_iconst C 1 dX10_outer_43 (by decide) ?_
          exact g_zret C rfl dX10_outer_44
        · refine g_iconst C 0 dX10_outer_25 (by decide) ?_
          exact g_zret C rfl dX10_outer_26
theorem c_x10_outer {Y : Yx} {ad : Nat → Nat} {N : Nat} {σ : St} {a1 : Int32} {a2 : Int32} {r : Int32} {σ' : St} (h : x10_outer N σ a1 a2 = some (r, σ')) : Con Y scC ad yX10_outer cX10_outer 3 (some .boolean) 2 41 [.ref (ad 0), .int a1, .int a2] σ (outI r) σ' := con_of (by decide) rfl (Nat.le_of_ble_eq_true rfl) rfl (fun X hX C => s_x10_outer C N σ a1 a2) h


def x10_markIndex_80 (N : Nat) (σ : St) (x2 : Int32) (x3 : Int32) (t0 : Int32) : Option (Int32 × St) :=
  (if t0 = 0 then some ((-1), σ) else some ((x2 * 4) + x3, σ))
def x10_markIndex_79 (N : Nat) (σ : St) (x2 : Int32) (x3 : Int32) : Option (Int32 × St) :=
  x10_markIndex_80 N σ x2 x3 0
def x10_markIndex_14 (N : Nat) (σ : St) (x3 : Int32) : Option (Int32 × St) :=
  some (40 + x3, σ)
def x10_markIndex (N : Nat) (σ : St) (a1 : Int32) (a2 : Int32) (a3 : Int32) : Option (Int32 × St) :=
  (if a1 = 2 then (if a3 = 0 then x10_markIndex_14 N σ a3 else (if a3 = 1 then x10_markIndex_14 N σ a3 else some ((-1), σ))) else gd (isPr (gP σ 700)) (bd (x3_has N σ (gP σ 700) a2) (fun r2 σ3 => (if r2 = 0 then some ((-1), σ3) else (if a1 = 1 then some (32 + a2, σ3) else (if a1 = 0 then (if a3 < 0 then x10_markIndex_79 N σ3 a2 a3 else gd (isPr (gP σ3 700)) (bd (x5_at N σ3 ((gP σ3 700) + 4) a2) (fun r5 σ6 => (if r5 ≤ a3 then x10_markIndex_79 N σ6 a2 a3 else x10_markIndex_80 N σ6 a2 a3 1)))) else x10_markIndex_79 N σ3 a2 a3))))))
set_option maxHeartbeats 4000000 in
set_option maxRecDepth 100000 in
theorem s_x10_markIndex_80 {X : Cx} {ad : Nat → Nat} (C : Ok X cX10_markIndex RX10 5 (some .int) 1 21) (N : Nat) (σ : St) (x2 : Int32) (x3 : Int32) (t0 : Int32) : Sim X scC ad 5 outI 80 [(2, .int x2), (3, .int x3)] [.int t0] σ (x10_markIndex_80 N σ x2 x3 t0) := by
  unfold x10_markIndex_80
  refine g_istore C [(4, .int t0), (2, .int x2), (3, .int x3)] dX10_markIndex_80 (by decide) rfl ?_
  refine g_iload C 0 dX10_markIndex_82 rfl ?_
  refine g_if_eq C 95 dX10_markIndex_84 (by decide) ?_ ?_
  · refine g_iconst C (-1) dX10_markIndex_95 (by decide) ?_
    exact g_iret C dX10_markIndex_96
  · refine g_iload_n C 1 dX10_markIndex_87 rfl rfl ?_
    refine g_iconst C 4 dX10_markIndex_88 (by decide) ?_
    refine g_imul C dX10_markIndex_89 ?_
    refine g_iload_n C 2 dX10_markIndex_90 rfl rfl ?_
    refine g_iadd C dX10_markIndex_91 ?_
    refine g_goto C 96 dX10_markIndex_92 (by decide) ?_
    exact g_iret C dX10_markIndex_96
set_option maxHeartbeats 4000000 in
set_option maxRecDepth 100000 in
theorem s_x10_markIndex_79 {X : Cx} {ad : Nat → Nat} (C : Ok X cX10_markIndex RX10 5 (some .int) 1 21) (N : Nat) (σ : St) (x2 : Int32) (x3 : Int32) : Sim X scC ad 5 outI 79 [(2, .int x2), (3, .int x3)] [] σ (x10_markIndex_79 N σ x2 x3) := by
  unfold x10_markIndex_79
  refine g_iconst C 0 dX10_markIndex_79 (by decide) ?_
  exact g_sub [0, 1] rfl (s_x10_markIndex_80 C N σ x2 x3 0)
set_option maxHeartbeats 4000000 in
set_option maxRecDepth 100000 in
theorem s_x10_markIndex_14 {X : Cx} {ad : Nat → Nat} (C : Ok X cX10_markIndex RX10 5 (some .int) 1 21) (N : Nat) (σ : St) (x3 : Int32) : Sim X scC ad 5 outI 14 [(3, .int x3)] [] σ (x10_markIndex_14 N σ x3) := by
  unfold x10_markIndex_14
  refine g_bipush C 40 dX10_markIndex_14 (by decide) ?_
  refine g_iload_n C 0 dX10_markIndex_16 rfl rfl ?_
  refine g_iadd C dX10_markIndex_17 ?_
  refine g_goto C 22 dX10_markIndex_18 (by decide) ?_
  exact g_iret C dX10_markIndex_22
set_option maxHeartbeats 4000000 in
set_option maxRecDepth 100000 in
theorem s_x10_markIndex {X : Cx} {ad : Nat → Nat} (C : Ok X cX10_markIndex RX10 5 (some .int) 1 21) (N : Nat) (σ : St) (a1 : Int32) (a2 : Int32) (a3 : Int32) : Sim X scC ad 5 outI 0 [(0, .ref (ad 0)), (1, .int a1), (2, .int a2), (3, .int a3)] [] σ (x10_markIndex N σ a1 a2 a3) := by
  unfold x10_markIndex
  refine g_iload_n C 1 dX10_markIndex_0 rfl rfl ?_
  refine g_iconst C 2 dX10_markIndex_1 (by decide) ?_
  refine g_icmp_ne C 23 dX10_markIndex_2 (by decide) ?_ ?_
  · refine g_aload_n C 0 dX10_markIndex_23 rfl rfl ?_
    refine gf_RX10_45 C  dX10_markIndex_24 ?_
    refine gf_RX10_110 C  (v := gP σ 700) dX10_markIndex_27 rfl ?_
    refine g_iload_n C 2 dX10_markIndex_30 rfl rfl ?_
    refine g_gd (fun hp1 => ?_)
    refine v_x3_has_RX10 C hp1 ⟨by decide, by decide⟩ (Nat.le_of_ble_eq_true rfl) dX10_markIndex_31 (fun r2 σ3 _ => ?_)
    refine g_if_ne C 39 dX10_markIndex_34 (by decide) ?_ ?_
    · refine g_iload_n C 1 dX10_markIndex_39 rfl rfl ?_
      refine g_iconst C 1 dX10_markIndex_40 (by decide) ?_
      refine g_icmp_ne C 49 dX10_markIndex_41 (by decide) ?_ ?_
      · refine g_iload_n C 1 dX10_markIndex_49 rfl rfl ?_
        refine g_if_ne C 79 dX10_markIndex_50 (by decide) ?_ ?_
        · exact g_sub [2, 3] rfl (s_x10_markIndex_79 C N σ3 a2 a3)
        · refine g_iload_n C 3 dX10_markIndex_53 rfl rfl ?_
          refine g_if_lt C 79 dX10_markIndex_54 (by decide) ?_ ?_
          · exact g_sub [2, 3] rfl (s_x10_markIndex_79 C N σ3 a2 a3)
          · refine g_iload_n C 3 dX10_markIndex_57 rfl rfl ?_
            refine g_aload_n C 0 dX10_markIndex_58 rfl rfl ?_
            refine gf_RX10_45 C  dX10_markIndex_59 ?_
            refine gf_RX10_110 C  (v := gP σ3 700) dX10_markIndex_62 rfl ?_
            refine g_gd (fun hp4 => ?_)
            refine gf_RX10_248 C hp4 dX10_markIndex_65 ?_
            refine g_iload_n C 2 dX10_markIndex_68 rfl rfl ?_
            refine v_x5_at_RX10 C ⟨by decide, by decide⟩ (Nat.le_of_ble_eq_true rfl) dX10_markIndex_69 (fun r5 σ6 _ => ?_)
            refine g_icmp_ge C 79 dX10_markIndex_72 (by decide) ?_ ?_
            · exact g_sub [2, 3] rfl (s_x10_markIndex_79 C N σ6 a2 a3)
            · refine g_iconst C 1 dX10_markIndex_75 (by decide) ?_
              refine g_goto C 80 dX10_markIndex_76 (by decide) ?_
              exact g_sub [2, 3] rfl (s_x10_markIndex_80 C N σ6 a2 a3 1)
      · refine g_bipush C 32 dX10_markIndex_44 (by decide) ?_
        refine g_iload_n C 2 dX10_markIndex_46 rfl rfl ?_
        refine g_iadd C dX10_markIndex_47 ?_
        exact g_iret C dX10_markIndex_48
    · refine g_iconst C (-1) dX10_markIndex_37 (by decide) ?_
      exact g_iret C dX10_markIndex_38
  · refine g_iload_n C 3 dX10_markIndex_5 rfl rfl ?_
    refine g_if_eq C 14 dX10_markIndex_6 (by decide) ?_ ?_
    · exact g_sub [3] rfl (s_x10_markIndex_14 C N σ a3)
    · refine g_iload_n C 3 dX10_markIndex_9 rfl rfl ?_
      refine g_iconst C 1 dX10_markIndex_10 (by decide) ?_
      refine g_icmp_ne C 21 dX10_markIndex_11 (by decide) ?_ ?_
      · refine g_iconst C (-1) dX10_markIndex_21 (by decide) ?_
        exact g_iret C dX10_markIndex_22
      · exact g_sub [3] rfl (s_x10_markIndex_14 C N σ a3)
theorem c_x10_markIndex {Y : Yx} {ad : Nat → Nat} {N : Nat} {σ : St} {a1 : Int32} {a2 : Int32} {a3 : Int32} {r : Int32} {σ' : St} (h : x10_markIndex N σ a1 a2 a3 = some (r, σ')) : Con Y scC ad yX10_markIndex cX10_markIndex 5 (some .int) 1 21 [.ref (ad 0), .int a1, .int a2, .int a3] σ (outI r) σ' := con_of (by decide) rfl (Nat.le_of_ble_eq_true rfl) rfl (fun X hX C => s_x10_markIndex C N σ a1 a2 a3) h
set_option maxRecDepth 20000 in
theorem v_x10_markIndex_RX10 {X : Cx} {cc : ByteArray} {nL : Nat} {ret : Option FieldType} {fr lo : Nat} {ad : Nat → Nat} {ρ : Type} {out : ρ → Option Value} {pc : Nat} {lv : List (Nat × Value)} {rest : List Value} {σ : St} {N : Nat} {K : Int32 → St → Option (ρ × St)} {a1 : Int32} {a2 : Int32} {a3 : Int32} (C : Ok X cc RX10 nL ret fr lo) (hR : 1 + 1 ≤ fr ∧ 8 + (5 + 11) + 21 ≤ lo) (hcat : (rest.map fun v => v.category).sum ≤ 8) (hdg : decode cc pc = .ok (.invokevirtual 142, 3)) (k : ∀ (r : Int32) (σ' : St), x10_markIndex N σ a1 a2 a3 = some (r, σ') → Sim X scC ad nL out (pc + 3) lv (.int r :: rest) σ' (K r σ')) : Sim X scC ad nL out pc lv (.int a3 :: .int a2 :: .int a1 :: .ref (ad 0) :: rest) σ (bd (x10_markIndex N σ a1 a2 a3) K) := g_callV C (out1 := outI) (y := yX10_markIndex) (n := 3) ⟨gw_823, gw_825, gw_24, gw_107, gw_826⟩ (by decide +kernel) hR (o := 0) (ci := 9) (q9 := (RX10, TX10, 13)) im_0 rfl rfl rfl (fun r σ' h => c_x10_markIndex h) rfl rfl hcat hdg k

def x10_mark (N : Nat) (σ : St) (a1 : Int32) (a2 : Int32) (a3 : Int32) : Option (Int32 × St) :=
  bd (x10_markIndex N σ a1 a2 a3) (fun r1 σ2 => (if r1 = (-1) then some ((-1), σ2) else bd (x1_settle N σ2 0) (fun _ σ4 => bd (x5_at N σ4 12 r1) (fun r5 σ6 => some (r5, σ6)))))
set_option maxHeartbeats 4000000 in
set_option maxRecDepth 100000 in
theorem s_x10_mark {X : Cx} {ad : Nat → Nat} (C : Ok X cX10_mark RX10 5 (some .int) 6 145) (N : Nat) (σ : St) (a1 : Int32) (a2 : Int32) (a3 : Int32) : Sim X scC ad 5 outI 0 [(0, .ref (ad 0)), (1, .int a1), (2, .int a2), (3, .int a3)] [] σ (x10_mark N σ a1 a2 a3) := by
  unfold x10_mark
  refine g_aload_n C 0 dX10_mark_0 rfl rfl ?_
  refine g_iload_n C 1 dX10_mark_1 rfl rfl ?_
  refine g_iload_n C 2 dX10_mark_2 rfl rfl ?_
  refine g_iload_n C 3 dX10_mark_3 rfl rfl ?_
  refine v_x10_markIndex_RX10 C ⟨by decide, by decide⟩ (Nat.le_of_ble_eq_true rfl) dX10_mark_4 (fun r1 σ2 _ => ?_)
  refine g_istore C [(4, .int r1), (0, .ref (ad 0)), (1, .int a1), (2, .int a2), (3, .int a3)] dX10_mark_7 (by decide) rfl ?_
  refine g_iload C 0 dX10_mark_9 rfl ?_
  refine g_iconst C (-1) dX10_mark_11 (by decide) ?_
  refine g_icmp_ne C 17 dX10_mark_12 (by decide) ?_ ?_
  · refine g_aload_n C 1 dX10_mark_17 rfl rfl ?_
    refine gf_RX10_54 C  dX10_mark_18 ?_
    refine g_lconst C 0 dX10_mark_21 (by decide) ?_
    refine v_x1_settle_RX10 C ⟨by decide, by decide⟩ (Nat.le_of_ble_eq_true rfl) dX10_mark_22 (fun r3 σ4 _ => ?_)
    refine g_aload_n C 1 dX10_mark_25 rfl rfl ?_
    refine gf_RX10_54 C  dX10_mark_26 ?_
    refine gf_RX10_150 C  dX10_mark_29 ?_
    refine g_iload C 0 dX10_mark_32 rfl ?_
    refine v_x5_at_RX10 C ⟨by decide, by decide⟩ (Nat.le_of_ble_eq_true rfl) dX10_mark_34 (fun r5 σ6 _ => ?_)
    exact g_iret C dX10_mark_37
  · refine g_iconst C (-1) dX10_mark_15 (by decide) ?_
    exact g_iret C dX10_mark_16
theorem c_x10_mark {Y : Yx} {ad : Nat → Nat} {N : Nat} {σ : St} {a1 : Int32} {a2 : Int32} {a3 : Int32} {r : Int32} {σ' : St} (h : x10_mark N σ a1 a2 a3 = some (r, σ')) : Con Y scC ad yX10_mark cX10_mark 5 (some .int) 6 145 [.ref (ad 0), .int a1, .int a2, .int a3] σ (outI r) σ' := con_of (by decide) rfl (Nat.le_of_ble_eq_true rfl) rfl (fun X hX C => s_x10_mark C N σ a1 a2 a3) h


def x10_verdictOfUse (N : Nat) (σ : St) (a1 : Int32) : Option (Int32 × St) :=
  (if a1 = 1 then some (3, σ) else (if a1 = 2 then some (1, σ) else (if a1 = 3 then some (2, σ) else some (0, σ))))
set_option maxHeartbeats 4000000 in
set_option maxRecDepth 100000 in
theorem s_x10_verdictOfUse {X : Cx} {ad : Nat → Nat} (C : Ok X cX10_verdictOfUse RX10 1 (some .int) 0 0) (N : Nat) (σ : St) (a1 : Int32) : Sim X scC ad 1 outI 0 [(0, .int a1)] [] σ (x10_verdictOfUse N σ a1) := by
  unfold x10_verdictOfUse
  refine g_iload_n C 0 dX10_verdictOfUse_0 rfl rfl ?_
  refine g_cs (fun h1 => ?_) (fun h1 => ?_)
  · refine g_tabIn C (off := 31) 32 (1) (by rw [h1]; decide) dX10_verdictOfUse_1 (by decide) (by decide) (by decide) (by decide) ?_
    refine g_iconst C 3 dX10_verdictOfUse_32 (by decide) ?_
    exact g_iret C dX10_verdictOfUse_33
  refine g_cs (fun h2 => ?_) (fun h2 => ?_)
  · refine g_tabIn C (off := 27) 28 (2) (by rw [h2]; decide) dX10_verdictOfUse_1 (by decide) (by decide) (by decide) (by decide) ?_
    refine g_iconst C 1 dX10_verdictOfUse_28 (by decide) ?_
    exact g_iret C dX10_verdictOfUse_29
  refine g_cs (fun h3 => ?_) (fun h3 => ?_)
  · refine g_tabIn C (off := 29) 30 (3) (by rw [h3]; decide) dX10_verdictOfUse_1 (by decide) (by decide) (by decide) (by decide) ?_
    refine g_iconst C 2 dX10_verdictOfUse_30 (by decide) ?_
    exact g_iret C dX10_verdictOfUse_31
  have ah1 : ¬ a1.toInt = 1 := k_ne h1 (by decide)
  have bh1 : ¬ (1 : Int) = a1.toInt := fun e9 => ah1 e9.symm
  have ah2 : ¬ a1.toInt = 2 := k_ne h2 (by decide)
  have bh2 : ¬ (2 : Int) = a1.toInt := fun e9 => ah2 e9.symm
  have ah3 : ¬ a1.toInt = 3 := k_ne h3 (by decide)
  have bh3 : ¬ (3 : Int) = a1.toInt := fun e9 => ah3 e9.symm
  refine g_tabOut C 34 dX10_verdictOfUse_1 (by omega) (by decide) ?_
  refine g_iconst C 0 dX10_verdictOfUse_34 (by decide) ?_
  exact g_iret C dX10_verdictOfUse_35
theorem c_x10_verdictOfUse {Y : Yx} {ad : Nat → Nat} {N : Nat} {σ : St} {a1 : Int32} {r : Int32} {σ' : St} (h : x10_verdictOfUse N σ a1 = some (r, σ')) : Con Y scC ad yX10_verdictOfUse cX10_verdictOfUse 1 (some .int) 0 0 [.int a1] σ (outI r) σ' := con_of (by decide) rfl (Nat.le_of_ble_eq_true rfl) rfl (fun X hX C => s_x10_verdictOfUse C N σ a1) h
set_option maxRecDepth 20000 in
theorem v_x10_verdictOfUse_RX10 {X : Cx} {cc : ByteArray} {nL : Nat} {ret : Option FieldType} {fr lo : Nat} {ad : Nat → Nat} {ρ : Type} {out : ρ → Option Value} {pc : Nat} {lv : List (Nat × Value)} {rest : List Value} {σ : St} {N : Nat} {K : Int32 → St → Option (ρ × St)} {a1 : Int32} (C : Ok X cc RX10 nL ret fr lo) (hR : 0 + 1 ≤ fr ∧ 8 + (1 + 11) + 0 ≤ lo) (hcat : (rest.map fun v => v.category).sum ≤ 8) (hdg : decode cc pc = .ok (.invokestatic 163, 3)) (k : ∀ (r : Int32) (σ' : St), x10_verdictOfUse N σ a1 = some (r, σ') → Sim X scC ad nL out (pc + 3) lv (.int r :: rest) σ' (K r σ')) : Sim X scC ad nL out pc lv (.int a1 :: rest) σ (bd (x10_verdictOfUse N σ a1) K) := g_callS C (out1 := outI) (y := yX10_verdictOfUse) (n := 1) ⟨gw_906, gw_907, gw_107, gw_908⟩ (by decide +kernel) hR (fun r σ' h => c_x10_verdictOfUse h) rfl rfl hcat hdg k

def x10_use (N : Nat) (σ : St) (a1 : Int32) (a2 : Int32) : Option (Int32 × St) :=
  (if a1 < 0 then some ((-1), σ) else gd (isPr (gP σ 700)) ((if a1 < (gI σ (100 * (gP σ 700) + 11)) then (if a2 = 0 then bd (x1_settle N σ 0) (fun _ σ4 => bd (x5_at N σ4 13 a1) (fun r5 σ6 => bd (x10_verdictOfUse N σ6 r5) (fun r7 σ8 => some (r7, σ8)))) else (if a2 = 1 then bd (x5_at N σ ((gP σ 700) + 6) a1) (fun r10 σ11 => some (r10, σ11)) else (if a2 = 2 then bd (x5_at N σ ((gP σ 700) + 7) a1) (fun r13 σ14 => some (r13, σ14)) else (if a2 = 3 then bd (x5_at N σ ((gP σ 700) + 8) a1) (fun r16 σ17 => some (r16, σ17)) else some ((-1), σ))))) else some ((-1), σ))))
set_option maxHeartbeats 4000000 in
set_option maxRecDepth 100000 in
theorem s_x10_use {X : Cx} {ad : Nat → Nat} (C : Ok X cX10_use RX10 4 (some .int) 6 145) (N : Nat) (σ : St) (a1 : Int32) (a2 : Int32) : Sim X scC ad 4 outI 0 [(0, .ref (ad 0)), (1, .int a1), (2, .int a2)] [] σ (x10_use N σ a1 a2) := by
  unfold x10_use
  refine g_aload_n C 0 dX10_use_0 rfl rfl ?_
  refine gf_RX10_45 C  dX10_use_1 ?_
  refine gf_RX10_110 C  (v := gP σ 700) dX10_use_4 rfl ?_
  refine g_astore_n C [(3, .ref (ad (gP σ 700))), (0, .ref (ad 0)), (1, .int a1), (2, .int a2)] dX10_use_7 rfl (by decide) rfl ?_
  refine g_iload_n C 2 dX10_use_8 rfl rfl ?_
  refine g_if_lt C 20 dX10_use_9 (by decide) ?_ ?_
  · refine g_iconst C (-1) dX10_use_20 (by decide) ?_
    exact g_iret C dX10_use_21
  · refine g_iload_n C 2 dX10_use_12 rfl rfl ?_
    refine g_aload_n C 0 dX10_use_13 rfl rfl ?_
    refine g_gd (fun hp1 => ?_)
    refine gf_RX10_157 C hp1 (v := gI σ (100 * (gP σ 700) + 11)) dX10_use_14 rfl ?_
    refine g_icmp_lt C 22 dX10_use_17 (by decide) ?_ ?_
    · refine g_iload_n C 3 dX10_use_22 rfl rfl ?_
      refine g_cs (fun h2 => ?_) (fun h2 => ?_)
      · refine g_tabIn C (off := 29) 52 (0) (by rw [h2]; decide) dX10_use_23 (by decide) (by decide) (by decide) (by decide) ?_
        refine g_aload_n C 1 dX10_use_52 rfl rfl ?_
        refine gf_RX10_54 C  dX10_use_53 ?_
        refine g_lconst C 0 dX10_use_56 (by decide) ?_
        refine v_x1_settle_RX10 C ⟨by decide, by decide⟩ (Nat.le_of_ble_eq_true rfl) dX10_use_57 (fun r3 σ4 _ => ?_)
        refine g_aload_n C 1 dX10_use_60 rfl rfl ?_
        refine gf_RX10_54 C  dX10_use_61 ?_
        refine gf_RX10_160 C  dX10_use_64 ?_
        refine g_iload_n C 2 dX10_use_67 rfl rfl ?_
        refine v_x5_at_RX10 C ⟨by decide, by decide⟩ (Nat.le_of_ble_eq_true rfl) dX10_use_68 (fun r5 σ6 _ => ?_)
        refine v_x10_verdictOfUse_RX10 C ⟨by decide, by decide⟩ (Nat.le_of_ble_eq_true rfl) dX10_use_71 (fun r7 σ8 _ => ?_)
        exact g_iret C dX10_use_74
      refine g_cs (fun h9 => ?_) (fun h9 => ?_)
      · refine g_tabIn C (off := 52) 75 (1) (by rw [h9]; decide) dX10_use_23 (by decide) (by decide) (by decide) (by decide) ?_
        refine g_aload_n C 0 dX10_use_75 rfl rfl ?_
        refine gf_RX10_167 C hp1 dX10_use_76 ?_
        refine g_iload_n C 2 dX10_use_79 rfl rfl ?_
        refine v_x5_at_RX10 C ⟨by decide, by decide⟩ (Nat.le_of_ble_eq_true rfl) dX10_use_80 (fun r10 σ11 _ => ?_)
        exact g_iret C dX10_use_83
      refine g_cs (fun h12 => ?_) (fun h12 => ?_)
      · refine g_tabIn C (off := 61) 84 (2) (by rw [h12]; decide) dX10_use_23 (by decide) (by decide) (by decide) (by decide) ?_
        refine g_aload_n C 0 dX10_use_84 rfl rfl ?_
        refine gf_RX10_170 C hp1 dX10_use_85 ?_
        refine g_iload_n C 2 dX10_use_88 rfl rfl ?_
        refine v_x5_at_RX10 C ⟨by decide, by decide⟩ (Nat.le_of_ble_eq_true rfl) dX10_use_89 (fun r13 σ14 _ => ?_)
        exact g_iret C dX10_use_92
      refine g_cs (fun h15 => ?_) (fun h15 => ?_)
      · refine g_tabIn C (off := 70) 93 (3) (by rw [h15]; decide) dX10_use_23 (by decide) (by decide) (by decide) (by decide) ?_
        refine g_aload_n C 0 dX10_use_93 rfl rfl ?_
        refine gf_RX10_173 C hp1 dX10_use_94 ?_
        refine g_iload_n C 2 dX10_use_97 rfl rfl ?_
        refine v_x5_at_RX10 C ⟨by decide, by decide⟩ (Nat.le_of_ble_eq_true rfl) dX10_use_98 (fun r16 σ17 _ => ?_)
        exact g_iret C dX10_use_101
      have ah2 : ¬ a2.toInt = 0 := k_ne h2 (by decide)
      have bh2 : ¬ (0 : Int) = a2.toInt := fun e9 => ah2 e9.symm
      have ah9 : ¬ a2.toInt = 1 := k_ne h9 (by decide)
      have bh9 : ¬ (1 : Int) = a2.toInt := fun e9 => ah9 e9.symm
      have ah12 : ¬ a2.toInt = 2 := k_ne h12 (by decide)
      have bh12 : ¬ (2 : Int) = a2.toInt := fun e9 => ah12 e9.symm
      have ah15 : ¬ a2.toInt = 3 := k_ne h15 (by decide)
      have bh15 : ¬ (3 : Int) = a2.toInt := fun e9 => ah15 e9.symm
      refine g_tabOut C 102 dX10_use_23 (by omega) (by decide) ?_
      refine g_iconst C (-1) dX10_use_102 (by decide) ?_
      exact g_iret C dX10_use_103
    · refine g_iconst C (-1) dX10_use_20 (by decide) ?_
      exact g_iret C dX10_use_21
theorem c_x10_use {Y : Yx} {ad : Nat → Nat} {N : Nat} {σ : St} {a1 : Int32} {a2 : Int32} {r : Int32} {σ' : St} (h : x10_use N σ a1 a2 = some (r, σ')) : Con Y scC ad yX10_use cX10_use 4 (some .int) 6 145 [.ref (ad 0), .int a1, .int a2] σ (outI r) σ' := con_of (by decide) rfl (Nat.le_of_ble_eq_true rfl) rfl (fun X hX C => s_x10_use C N σ a1 a2) h


def x10_verdictOfTest (N : Nat) (σ : St) (a1 : Int32) : Option (Int32 × St) :=
  (if a1 = 0 then some (3, σ) else (if a1 = 1 then some (1, σ) else (if a1 = 2 then some (2, σ) else some (0, σ))))
set_option maxHeartbeats 4000000 in
set_option maxRecDepth 100000 in
theorem s_x10_verdictOfTest {X : Cx} {ad : Nat → Nat} (C : Ok X cX10_verdictOfTest RX10 1 (some .int) 0 0) (N : Nat) (σ : St) (a1 : Int32) : Sim X scC ad 1 outI 0 [(0, .int a1)] [] σ (x10_verdictOfTest N σ a1) := by
  unfold x10_verdictOfTest
  refine g_iload_n C 0 dX10_verdictOfTest_0 rfl rfl ?_
  refine g_cs (fun h1 => ?_) (fun h1 => ?_)
  · refine g_tabIn C (off := 31) 32 (0) (by rw [h1]; decide) dX10_verdictOfTest_1 (by decide) (by decide) (by decide) (by decide) ?_
    refine g_iconst C 3 dX10_verdictOfTest_32 (by decide) ?_
    exact g_iret C dX10_verdictOfTest_33
  refine g_cs (fun h2 => ?_) (fun h2 => ?_)
  · refine g_tabIn C (off := 27) 28 (1) (by rw [h2]; decide) dX10_verdictOfTest_1 (by decide) (by decide) (by decide) (by decide) ?_
    refine g_iconst C 1 dX10_verdictOfTest_28 (by decide) ?_
    exact g_iret C dX10_verdictOfTest_29
  refine g_cs (fun h3 => ?_) (fun h3 => ?_)
  · refine g_tabIn C (off := 29) 30 (2) (by rw [h3]; decide) dX10_verdictOfTest_1 (by decide) (by decide) (by decide) (by decide) ?_
    refine g_iconst C 2 dX10_verdictOfTest_30 (by decide) ?_
    exact g_iret C dX10_verdictOfTest_31
  have ah1 : ¬ a1.toInt = 0 := k_ne h1 (by decide)
  have bh1 : ¬ (0 : Int) = a1.toInt := fun e9 => ah1 e9.symm
  have ah2 : ¬ a1.toInt = 1 := k_ne h2 (by decide)
  have bh2 : ¬ (1 : Int) = a1.toInt := fun e9 => ah2 e9.symm
  have ah3 : ¬ a1.toInt = 2 := k_ne h3 (by decide)
  have bh3 : ¬ (2 : Int) = a1.toInt := fun e9 => ah3 e9.symm
  refine g_tabOut C 34 dX10_verdictOfTest_1 (by omega) (by decide) ?_
  refine g_iconst C 0 dX10_verdictOfTest_34 (by decide) ?_
  exact g_iret C dX10_verdictOfTest_35
theorem c_x10_verdictOfTest {Y : Yx} {ad : Nat → Nat} {N : Nat} {σ : St} {a1 : Int32} {r : Int32} {σ' : St} (h : x10_verdictOfTest N σ a1 = some (r, σ')) : Con Y scC ad yX10_verdictOfTest cX10_verdictOfTest 1 (some .int) 0 0 [.int a1] σ (outI r) σ' := con_of (by decide) rfl (Nat.le_of_ble_eq_true rfl) rfl (fun X hX C => s_x10_verdictOfTest C N σ a1) h
set_option maxRecDepth 20000 in
theorem v_x10_verdictOfTest_RX10 {X : Cx} {cc : ByteArray} {nL : Nat} {ret : Option FieldType} {fr lo : Nat} {ad : Nat → Nat} {ρ : Type} {out : ρ → Option Value} {pc : Nat} {lv : List (Nat × Value)} {rest : List Value} {σ : St} {N : Nat} {K : Int32 → St → Option (ρ × St)} {a1 : Int32} (C : Ok X cc RX10 nL ret fr lo) (hR : 0 + 1 ≤ fr ∧ 8 + (1 + 11) + 0 ≤ lo) (hcat : (rest.map fun v => v.category).sum ≤ 8) (hdg : decode cc pc = .ok (.invokestatic 182, 3)) (k : ∀ (r : Int32) (σ' : St), x10_verdictOfTest N σ a1 = some (r, σ') → Sim X scC ad nL out (pc + 3) lv (.int r :: rest) σ' (K r σ')) : Sim X scC ad nL out pc lv (.int a1 :: rest) σ (bd (x10_verdictOfTest N σ a1) K) := g_callS C (out1 := outI) (y := yX10_verdictOfTest) (n := 1) ⟨gw_913, gw_914, gw_107, gw_915⟩ (by decide +kernel) hR (fun r σ' h => c_x10_verdictOfTest h) rfl rfl hcat hdg k
