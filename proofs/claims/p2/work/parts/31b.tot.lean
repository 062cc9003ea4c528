set_option maxHeartbeats 4000000 in
set_option maxRecDepth 100000 in
theorem t_x4_checkCalls_93 {N : Nat} (hN : 8589934592 ≤ N) {rec2 : St → Int32 → Option (Unit × St)} {σ : St} {x1 : Int32} (hq2 : ∀ (σ2 : St), CP σ2 → Tot (rec2 σ2 (x1 + 1)) (fun _ σ' => Kp σ2 σ')) (hC : CP σ) : Tot (x4_checkCalls_93 N rec2 σ x1) (fun _ σ' => Kp σ σ') := by
  have hk := kp_rf hC
  unfold x4_checkCalls_93
  exact tot_k hk (hq2 _ hk.1)
set_option maxHeartbeats 4000000 in
set_option maxRecDepth 100000 in
theorem t_x4_checkCalls_77 {N : Nat} (hN : 8589934592 ≤ N) {rec2 : St → Int32 → Option (Unit × St)} {σ : St} {x1 : Int32} (hq2 : ∀ (σ2 : St), CP σ2 → Tot (rec2 σ2 (x1 + 1)) (fun _ σ' => Kp σ2 σ')) (hC : CP σ) : Tot (x4_checkCalls_77 N rec2 σ x1) (fun _ σ' => Kp σ σ') := by
  have hk := kp_rf hC
  unfold x4_checkCalls_77
  have hg1 : isCd (gP σ 404) = true := (cp_404 hk.1)
  refine tot_gd hg1 ?_
  refine tot_bd (t_x0_get hN hk.1 hg1) (fun r11 σ12 hp2 => ?_)
  have hk2 := kp_id hk hp2
  refine tot_bd (t_x4_refuse hN hk2.1) (fun r13 σ14 hp3 => ?_)
  have hb_r13 := hp3.2
  have hk3 := kp_tr hk2 hp3.1
  exact tot_k hk3 (t_x4_checkCalls_93 hN hq2 hk3.1)
set_option maxHeartbeats 4000000 in
set_option maxRecDepth 100000 in
theorem t_x4_checkCalls_2_b {N : Nat} (hN : 8589934592 ≤ N) {rec2 : St → Int32 → Option (Unit × St)} {σ : St} {x1 : Int32} (hr2 : x1.toInt < 2147483647 → ∀ (σ2 : St), CP σ2 → Tot (rec2 σ2 (x1 + 1)) (fun _ σ' => Kp σ2 σ')) (hC : CP σ) : Tot (x4_checkCalls_2_b N rec2 σ x1) (fun _ σ' => Kp σ σ') := by
  have hk := kp_rf hC
  unfold x4_checkCalls_2_b
  have hg1 : isCd (gP σ 404) = true := (cp_404 hk.1)
  refine tot_gd hg1 ?_
  refine tot_if (fun hc2 => ?_) (fun hc2 => ?_)
  · exact tot_some hk
  · have hq2 := hr2 (lt_mx hc2)
    refine tot_if (fun hc3 => ?_) (fun hc3 => ?_)
    · refine tot_bd (t_x0_get hN hk.1 hg1) (fun r2 σ3 hp4 => ?_)
      have hk4 := kp_id hk hp4
      refine tot_if (fun hc5 => ?_) (fun hc5 => ?_)
      · have hg6 : isCd (gP σ3 404) = true := (cp_404 hk4.1)
        refine tot_gd hg6 ?_
        refine tot_bd (t_x0_get hN hk4.1 hg6) (fun r5 σ6 hp7 => ?_)
        have hk7 := kp_id hk4 hp7
        have hg8 : isPr (gP σ6 403) = true := (cp_403 hk7.1)
        refine tot_gd hg8 ?_
        refine tot_bd (t_x3_has hN hk7.1 hg8) (fun r8 σ9 hp9 => ?_)
        have hb_r8 := hp9.2
        have hk9 := kp_id hk7 hp9.1
        refine tot_if (fun hc10 => ?_) (fun hc10 => ?_)
        · exact tot_k hk9 (t_x4_checkCalls_77 hN hq2 hk9.1)
        · have hg11 : isPr (gP σ9 403) = true := (cp_403 hk9.1)
          refine tot_gd hg11 ?_
          refine tot_bd (t_x5_at hN hk9.1 (pr_ia2 hg11)) (fun r16 σ17 hp12 => ?_)
          have hk12 := kp_id hk9 hp12
          have hg13 : isCd (gP σ17 404) = true := (cp_404 hk12.1)
          refine tot_gd hg13 ?_
          refine tot_bd (t_x0_arguments hN hk12.1 hg13) (fun r19 σ20 hp14 => ?_)
          have hk14 := kp_id hk12 hp14
          refine tot_if (fun hc15 => ?_) (fun hc15 => ?_)
          · exact tot_k hk14 (t_x4_checkCalls_93 hN hq2 hk14.1)
          · exact tot_k hk14 (t_x4_checkCalls_77 hN hq2 hk14.1)
      · exact tot_k hk4 (t_x4_checkCalls_93 hN hq2 hk4.1)
    · exact tot_some hk
set_option maxHeartbeats 4000000 in
set_option maxRecDepth 100000 in
theorem t_x4_checkCalls_2 {N : Nat} (hN : 8589934592 ≤ N) : ∀ (n : Nat) (σ : St) (x1 : Int32), True → CP σ → (2147483648 - x1.toInt).toNat < n → Tot (x4_checkCalls_2 N n σ x1) (fun _ σ' => Kp σ σ') := by
  intro n
  induction n with
  | zero => intro σ x1 _ hC hm; exact absurd hm (Nat.not_lt_zero _)
  | succ n ih => intro σ x1 _ hC hm; exact t_x4_checkCalls_2_b hN (fun hlt σ2 hC2 => ih σ2 (x1 + 1) trivial hC2 (m_succ hlt hm)) hC
set_option maxHeartbeats 4000000 in
set_option maxRecDepth 100000 in
theorem t_x4_checkCalls {N : Nat} (hN : 8589934592 ≤ N) {σ : St} (hC : CP σ) : Tot (x4_checkCalls N σ) (fun _ σ' => Kp σ σ') := by
  have hk := kp_rf hC
  unfold x4_checkCalls
  exact tot_k hk (t_x4_checkCalls_2 hN N _ 0 trivial hk.1 (m_N hN))

set_option maxHeartbeats 4000000 in
set_option maxRecDepth 100000 in
theorem t_x4_readInto_110 {N : Nat} (hN : 8589934592 ≤ N) {σ : St} (hC : CP σ) : Tot (x4_readInto_110 N σ) (fun _ σ' => Kp σ σ') := by
  have hk := kp_rf hC
  unfold x4_readInto_110
  refine tot_if (fun hc1 => ?_) (fun hc1 => ?_)
  · refine tot_bd (t_x4_checkCalls hN hk.1) (fun _r2 σ5 hp2 => ?_)
    have hk2 := kp_tr hk hp2
    exact tot_some hk2
  · exact tot_some hk
set_option maxHeartbeats 4000000 in
set_option maxRecDepth 100000 in
theorem t_x4_readInto_104 {N : Nat} (hN : 8589934592 ≤ N) {rec39 : St → Int32 → Option (Unit × St)} {σ : St} {x2 : Int32} (hq39 : ∀ (σ2 : St), CP σ2 → Tot (rec39 σ2 (x2 + 1)) (fun _ σ' => Kp σ2 σ')) (hC : CP σ) : Tot (x4_readInto_104 N rec39 σ x2) (fun _ σ' => Kp σ σ') := by
  have hk := kp_rf hC
  unfold x4_readInto_104
  exact tot_k hk (hq39 _ hk.1)
set_option maxHeartbeats 4000000 in
set_option maxRecDepth 100000 in
theorem t_x4_readInto_68 {N : Nat} (hN : 8589934592 ≤ N) {rec39 : St → Int32 → Option (Unit × St)} {σ : St} {x2 : Int32} (hq39 : ∀ (σ2 : St), CP σ2 → Tot (rec39 σ2 (x2 + 1)) (fun _ σ' => Kp σ2 σ')) (hC : CP σ) : Tot (x4_readInto_68 N rec39 σ x2) (fun _ σ' => Kp σ σ') := by
  have hk := kp_rf hC
  unfold x4_readInto_68
  refine tot_if (fun hc1 => ?_) (fun hc1 => ?_)
  · refine tot_bd (t_x4_readHead hN hk.1) (fun r12 σ13 hp2 => ?_)
    have hb_r12 := hp2.2
    have hk2 := kp_tr hk hp2.1
    exact tot_k hk2 (t_x4_readInto_104 hN hq39 hk2.1)
  · refine tot_bd (t_x4_seen hN hk.1) (fun r6 σ7 hp3 => ?_)
    have hb_r6 := hp3.2
    have hk3 := kp_id hk hp3.1
    refine tot_if (fun hc4 => ?_) (fun hc4 => ?_)
    · refine tot_bd (t_x4_readStatement hN hk3.1) (fun r8 σ9 hp5 => ?_)
      have hb_r8 := hp5.2
      have hk5 := kp_tr hk3 hp5.1
      exact tot_k hk5 (t_x4_readInto_104 hN hq39 hk5.1)
    · refine tot_bd (t_x4_closeBlock hN hk3.1) (fun _r6 σ11 hp6 => ?_)
      have hk6 := kp_tr hk3 hp6
      exact tot_k hk6 (t_x4_readInto_104 hN hq39 hk6.1)
set_option maxHeartbeats 4000000 in
set_option maxRecDepth 100000 in
theorem t_x4_readInto_39_b {N : Nat} (hN : 8589934592 ≤ N) {rec39 : St → Int32 → Option (Unit × St)} {σ : St} {x2 : Int32} (hr39 : x2.toInt < 2147483647 → ∀ (σ2 : St), CP σ2 → Tot (rec39 σ2 (x2 + 1)) (fun _ σ' => Kp σ2 σ')) (hC : CP σ) : Tot (x4_readInto_39_b N rec39 σ x2) (fun _ σ' => Kp σ σ') := by
  have hk := kp_rf hC
  unfold x4_readInto_39_b
  refine tot_if (fun hc1 => ?_) (fun hc1 => ?_)
  · exact tot_k hk (t_x4_readInto_110 hN hk.1)
  · have hq39 := hr39 (lt_mx2 hc1 (by decide))
    refine tot_if (fun hc2 => ?_) (fun hc2 => ?_)
    · refine tot_if (fun hc3 => ?_) (fun hc3 => ?_)
      · exact tot_k hk (t_x4_readInto_68 hN hq39 hk.1)
      · refine tot_bd (t_x4_seen hN hk.1) (fun r14 σ15 hp4 => ?_)
        have hb_r14 := hp4.2
        have hk4 := kp_id hk hp4.1
        refine tot_if (fun hc5 => ?_) (fun hc5 => ?_)
        · exact tot_k hk4 (t_x4_readInto_68 hN hq39 hk4.1)
        · exact tot_k hk4 (t_x4_readInto_110 hN hk4.1)
    · exact tot_k hk (t_x4_readInto_110 hN hk.1)
set_option maxHeartbeats 4000000 in
set_option maxRecDepth 100000 in
theorem t_x4_readInto_39 {N : Nat} (hN : 8589934592 ≤ N) : ∀ (n : Nat) (σ : St) (x2 : Int32), True → CP σ → (2147483648 - x2.toInt).toNat < n → Tot (x4_readInto_39 N n σ x2) (fun _ σ' => Kp σ σ') := by
  intro n
  induction n with
  | zero => intro σ x2 _ hC hm; exact absurd hm (Nat.not_lt_zero _)
  | succ n ih => intro σ x2 _ hC hm; exact t_x4_readInto_39_b hN (fun hlt σ2 hC2 => ih σ2 (x2 + 1) trivial hC2 (m_succ hlt hm)) hC
set_option maxHeartbeats 4000000 in
set_option maxRecDepth 100000 in
theorem t_x4_readInto {N : Nat} (hN : 8589934592 ≤ N) {σ : St} {a1 : Nat} (hC : CP σ) (h_a1 : isPr a1 = true) : Tot (x4_readInto N σ a1) (fun _ σ' => Kp σ σ') := by
  have hk := kp_rf hC
  unfold x4_readInto
  have hg1 : isPr a1 = true := h_a1
  refine tot_gd hg1 ?_
  refine tot_bd (t_x3_clear hN (kp_P (kp_P hk hg1) (isCd_of hg1)).1 hg1) (fun _r2 σ3 hp2 => ?_)
  have hk2 := kp_tr (kp_P (kp_P hk hg1) (isCd_of hg1)) hp2
  exact tot_k (kp_I (kp_I (kp_I (kp_I hk2 (by decide) (by decide)) (by decide) (by decide)) (by decide) (by decide)) (by decide) (by decide)) (t_x4_readInto_39 hN N _ 0 trivial (kp_I (kp_I (kp_I (kp_I hk2 (by decide) (by decide)) (by decide) (by decide)) (by decide) (by decide)) (by decide) (by decide)).1 (m_N hN))

set_option maxHeartbeats 4000000 in
set_option maxRecDepth 100000 in
theorem t_x6_clearNames_2_b {N : Nat} (hN : 8589934592 ≤ N) {rec2 : St → Int32 → Option (Unit × St)} {σ : St} {x1 : Int32} (hr2 : x1.toInt < 2147483647 → ∀ (σ2 : St), CP σ2 → Tot (rec2 σ2 (x1 + 1)) (fun _ σ' => Kp σ2 σ')) (hC : CP σ) : Tot (x6_clearNames_2_b N rec2 σ x1) (fun _ σ' => Kp σ σ') := by
  have hk := kp_rf hC
  unfold x6_clearNames_2_b
  refine tot_if (fun hc1 => ?_) (fun hc1 => ?_)
  · exact tot_some hk
  · have hq2 := hr2 (lt_mx hc1)
    refine tot_bd (t_x5_put hN hk.1 ia_16) (fun _r2 σ2 hp2 => ?_)
    have hk2 := kp_tr hk hp2
    exact tot_k hk2 (hq2 _ hk2.1)
set_option maxHeartbeats 4000000 in
set_option maxRecDepth 100000 in
theorem t_x6_clearNames_2 {N : Nat} (hN : 8589934592 ≤ N) : ∀ (n : Nat) (σ : St) (x1 : Int32), True → CP σ → (2147483648 - x1.toInt).toNat < n → Tot (x6_clearNames_2 N n σ x1) (fun _ σ' => Kp σ σ') := by
  intro n
  induction n with
  | zero => intro σ x1 _ hC hm; exact absurd hm (Nat.not_lt_zero _)
  | succ n ih => intro σ x1 _ hC hm; exact t_x6_clearNames_2_b hN (fun hlt σ2 hC2 => ih σ2 (x1 + 1) trivial hC2 (m_succ hlt hm)) hC
set_option maxHeartbeats 4000000 in
set_option maxRecDepth 100000 in
theorem t_x6_clearNames {N : Nat} (hN : 8589934592 ≤ N) {σ : St} (hC : CP σ) : Tot (x6_clearNames N σ) (fun _ σ' => Kp σ σ') := by
  have hk := kp_rf hC
  unfold x6_clearNames
  exact tot_k hk (t_x6_clearNames_2 hN N _ 0 trivial hk.1 (m_N hN))

set_option maxHeartbeats 4000000 in
set_option maxRecDepth 100000 in
theorem t_x6_make {N : Nat} (hN : 8589934592 ≤ N) {σ : St} {a1 : Int32} {a2 : Int32} (hC : CP σ) : Tot (x6_make N σ a1 a2) (fun _ σ' => Kp σ σ') := by
  have hk := kp_rf hC
  unfold x6_make
  refine tot_if (fun hc1 => ?_) (fun hc1 => ?_)
  · refine tot_bd (t_x5_put hN (kp_I hk (by decide) (by decide)).1 ia_18) (fun _r2 σ2 hp2 => ?_)
    have hk2 := kp_tr (kp_I hk (by decide) (by decide)) hp2
    refine tot_bd (t_x5_put hN hk2.1 ia_18) (fun _r3 σ4 hp3 => ?_)
    have hk3 := kp_tr hk2 hp3
    exact tot_some hk3
  · exact tot_some (kp_I hk (by decide) (by decide))

set_option maxHeartbeats 4000000 in
set_option maxRecDepth 100000 in
theorem t_x6_makeLoop {N : Nat} (hN : 8589934592 ≤ N) {σ : St} (hC : CP σ) : Tot (x6_makeLoop N σ) (fun _ σ' => Kp σ σ') := by
  have hk := kp_rf hC
  unfold x6_makeLoop
  refine tot_bd (t_x6_make hN hk.1) (fun r1 σ2 hp1 => ?_)
  have hk1 := kp_tr hk hp1
  exact tot_some hk1

set_option maxHeartbeats 4000000 in
set_option maxRecDepth 100000 in
theorem t_x6_setName {N : Nat} (hN : 8589934592 ≤ N) {σ : St} {a1 : Int32} {a2 : Int32} (hC : CP σ) : Tot (x6_setName N σ a1 a2) (fun _ σ' => Kp σ σ') := by
  have hk := kp_rf hC
  unfold x6_setName
  refine tot_bd (t_x5_put hN hk.1 ia_16) (fun _r1 σ2 hp1 => ?_)
  have hk1 := kp_tr hk hp1
  exact tot_some hk1

set_option maxHeartbeats 4000000 in
set_option maxRecDepth 100000 in
theorem t_x6_leave {N : Nat} (hN : 8589934592 ≤ N) {σ : St} {a1 : Int32} (hC : CP σ) : Tot (x6_leave N σ a1) (fun _ σ' => Kp σ σ') := by
  have hk := kp_rf hC
  unfold x6_leave
  refine tot_if (fun hc1 => ?_) (fun hc1 => ?_)
  · refine tot_if (fun hc2 => ?_) (fun hc2 => ?_)
    · exact tot_some (kp_I hk (by decide) (by decide))
    · exact tot_some (kp_I hk (by decide) (by decide))
  · refine tot_bd (t_x5_at hN (kp_I hk (by decide) (by decide)).1 ia_17) (fun r1 σ2 hp3 => ?_)
    have hk3 := kp_id (kp_I hk (by decide) (by decide)) hp3
    exact tot_some (kp_I (kp_I (kp_I hk3 (by decide) (by decide)) (by decide) (by decide)) (by decide) (by decide))

set_option maxHeartbeats 4000000 in
set_option maxRecDepth 100000 in
theorem t_x6_nameOf {N : Nat} (hN : 8589934592 ≤ N) {σ : St} {a1 : Int32} (hC : CP σ) : Tot (x6_nameOf N σ a1) (fun _ σ' => Id0 σ σ') := by
  have hk := id_rf hC
  unfold x6_nameOf
  refine tot_bd (t_x5_at hN hk.2 ia_16) (fun r1 σ2 hp1 => ?_)
  have hk1 := id_tr hk hp1
  exact tot_some hk1

set_option maxHeartbeats 4000000 in
set_option maxRecDepth 100000 in
theorem t_x6_store {N : Nat} (hN : 8589934592 ≤ N) {σ : St} {a1 : Int32} (hC : CP σ) : Tot (x6_store N σ a1) (fun _ σ' => Kp σ σ') := by
  have hk := kp_rf hC
  unfold x6_store
  refine tot_if (fun hc1 => ?_) (fun hc1 => ?_)
  · have hg2 : isCd (gP σ 1505) = true := (cp_1505 hk.1)
    refine tot_gd hg2 ?_
    refine tot_bd (t_x0_get hN (kp_I hk (by decide) (by decide)).1 hg2) (fun r7 σ8 hp3 => ?_)
    have hk3 := kp_id (kp_I hk (by decide) (by decide)) hp3
    exact tot_some (kp_I hk3 (by decide) (by decide))
  · have hg4 : isCd (gP σ 1505) = true := (cp_1505 hk.1)
    refine tot_gd hg4 ?_
    refine tot_bd (t_x0_get hN hk.1 hg4) (fun r2 σ3 hp5 => ?_)
    have hk5 := kp_id hk hp5
    refine tot_bd (t_x5_put hN hk5.1 ia_18) (fun _r6 σ5 hp6 => ?_)
    have hk6 := kp_tr hk5 hp6
    exact tot_some hk6

set_option maxHeartbeats 4000000 in
set_option maxRecDepth 100000 in
theorem t_x6_finish {N : Nat} (hN : 8589934592 ≤ N) {σ : St} (hC : CP σ) : Tot (x6_finish N σ) (fun _ σ' => Kp σ σ') := by
  have hk := kp_rf hC
  unfold x6_finish
  have hg1 : isCd (gP σ 1505) = true := (cp_1505 hk.1)
  refine tot_gd hg1 ?_
  refine tot_bd (t_x0_get hN (kp_I hk (by decide) (by decide)).1 hg1) (fun r2 σ3 hp2 => ?_)
  have hk2 := kp_id (kp_I hk (by decide) (by decide)) hp2
  have hg3 : isCd (gP σ3 1505) = true := (cp_1505 hk2.1)
  refine tot_gd hg3 ?_
  refine tot_bd (t_x0_get hN hk2.1 hg3) (fun r5 σ6 hp4 => ?_)
  have hk4 := kp_id hk2 hp4
  refine tot_if (fun hc5 => ?_) (fun hc5 => ?_)
  · refine tot_bd (t_x6_leave hN hk4.1) (fun _r6 σ14 hp6 => ?_)
    have hk6 := kp_tr hk4 hp6
    exact tot_some hk6
  · refine tot_if (fun hc7 => ?_) (fun hc7 => ?_)
    · refine tot_bd (t_x6_setName hN hk4.1) (fun _r8 σ12 hp8 => ?_)
      have hk8 := kp_tr hk4 hp8
      exact tot_some (kp_I hk8 (by decide) (by decide))
    · refine tot_if (fun hc9 => ?_) (fun hc9 => ?_)
      · refine tot_bd (t_x6_nameOf hN hk4.1) (fun r7 σ8 hp10 => ?_)
        have hk10 := kp_id hk4 hp10
        refine tot_bd (t_x6_store hN hk10.1) (fun _r11 σ10 hp11 => ?_)
        have hk11 := kp_tr hk10 hp11
        exact tot_some (kp_I hk11 (by decide) (by decide))
      · exact tot_some (kp_I hk4 (by decide) (by decide))

set_option maxHeartbeats 4000000 in
set_option maxRecDepth 100000 in
theorem t_j_floorMod {N : Nat} (hN : 8589934592 ≤ N) {σ : St} {a1 : Int32} {a2 : Int32} (hC : CP σ) (h_a2 : ¬ a2 = 0) : Tot (j_floorMod N σ a1 a2) (fun _ σ' => Id0 σ σ') := by
  have hk := id_rf hC
  unfold j_floorMod
  refine tot_gd (decide_eq_true h_a2) ?_
  refine tot_if (fun hc1 => ?_) (fun hc1 => ?_)
  · exact tot_some hk
  · refine tot_if (fun hc2 => ?_) (fun hc2 => ?_)
    · exact tot_some hk
    · exact tot_some hk

set_option maxHeartbeats 4000000 in
set_option maxRecDepth 100000 in
theorem t_x6_holds_60 {N : Nat} (hN : 8589934592 ≤ N) {σ : St} {t0 : Int32} {t1 : Int32} (hC : CP σ) : Tot (x6_holds_60 N σ t0 t1) (fun r σ' => Id0 σ σ' ∧ isb r = true) := by
  have hk := id_rf hC
  unfold x6_holds_60
  refine tot_if (fun hc1 => ?_) (fun hc1 => ?_)
  · exact tot_some ⟨hk, rfl⟩
  · exact tot_some ⟨hk, rfl⟩
set_option maxHeartbeats 4000000 in
set_option maxRecDepth 100000 in
theorem t_x6_holds_47 {N : Nat} (hN : 8589934592 ≤ N) {σ : St} {x1 : Int32} {t0 : Int32} (hC : CP σ) : Tot (x6_holds_47 N σ x1 t0) (fun r σ' => Id0 σ σ' ∧ isb r = true) := by
  have hk := id_rf hC
  unfold x6_holds_47
  refine tot_if (fun hc1 => ?_) (fun hc1 => ?_)
  · exact tot_ib hk (t_x6_holds_60 hN hk.2)
  · exact tot_ib hk (t_x6_holds_60 hN hk.2)
set_option maxHeartbeats 4000000 in
set_option maxRecDepth 100000 in
theorem t_x6_holds {N : Nat} (hN : 8589934592 ≤ N) {σ : St} (hC : CP σ) : Tot (x6_holds N σ) (fun r σ' => K1 σ σ' ∧ isb r = true) := by
  have hk := kp_rf hC
  unfold x6_holds
  have hg1 : isCd (gP σ 1505) = true := (cp_1505 hk.1)
  refine tot_gd hg1 ?_
  refine tot_bd (t_x0_get hN hk.1 hg1) (fun r2 σ3 hp2 => ?_)
  have hk2 := kp_id hk hp2
  refine tot_if (fun hc3 => ?_) (fun hc3 => ?_)
  · refine tot_bd (t_x6_choose hN hk2.1) (fun r9 σ10 hp4 => ?_)
    have hb_r9 := hp4.2
    have hk4 := k1_r hk2 hp4.1
    refine tot_gd hb_r9 ?_
    exact tot_some ⟨hk4, hb_r9⟩
  · have hg5 : isCd (gP σ3 1505) = true := (cp_1505 hk2.1)
    refine tot_gd hg5 ?_
    refine tot_bd (t_x0_get hN hk2.1 hg5) (fun r5 σ6 hp6 => ?_)
    have hk6 := kp_id hk2 hp6
    refine tot_bd (t_x6_nameOf hN hk6.1) (fun r7 σ8 hp7 => ?_)
    have hk7 := kp_id hk6 hp7
    refine tot_if (fun hc8 => ?_) (fun hc8 => ?_)
    · exact (t_x6_holds_47 hN hk7.1).mono (fun _ _ q => ⟨(k1_of (kp_id hk7 q.1)), q.2⟩)
    · exact (t_x6_holds_47 hN hk7.1).mono (fun _ _ q => ⟨(k1_of (kp_id hk7 q.1)), q.2⟩)

set_option maxHeartbeats 4000000 in
set_option maxRecDepth 100000 in
theorem t_x6_fieldOf {N : Nat} (hN : 8589934592 ≤ N) {σ : St} {a1 : Int32} {a2 : Int32} (hC : CP σ) : Tot (x6_fieldOf N σ a1 a2) (fun _ σ' => Kp σ σ') := by
  have hk := kp_rf hC
  unfold x6_fieldOf
  refine tot_if (fun hc1 => ?_) (fun hc1 => ?_)
  · have hg2 : isCd (gP σ 1505) = true := (cp_1505 hk.1)
    refine tot_gd hg2 ?_
    refine tot_bd (t_x0_get hN (kp_I hk (by decide) (by decide)).1 hg2) (fun r4 σ5 hp3 => ?_)
    have hk3 := kp_id (kp_I hk (by decide) (by decide)) hp3
    exact tot_some (kp_I hk3 (by decide) (by decide))
  · refine tot_bd (t_x5_at hN hk.1 ia_18) (fun r1 σ2 hp4 => ?_)
    have hk4 := kp_id hk hp4
    exact tot_some hk4

set_option maxHeartbeats 4000000 in
set_option maxRecDepth 100000 in
theorem t_x6_enter_113 {N : Nat} (hN : 8589934592 ≤ N) {σ : St} {x1 : Int32} (hC : CP σ) : Tot (x6_enter_113 N σ x1) (fun _ σ' => Kp σ σ') := by
  have hk := kp_rf hC
  unfold x6_enter_113
  have hg1 : isPr (gP σ 1504) = true := (cp_1504 hk.1)
  refine tot_gd hg1 ?_
  refine tot_bd (t_x5_at hN hk.1 (pr_ia1 hg1)) (fun r9 σ10 hp2 => ?_)
  have hk2 := kp_id hk hp2
  exact tot_some (kp_I (kp_I hk2 (by decide) (by decide)) (by decide) (by decide))
set_option maxHeartbeats 4000000 in
set_option maxRecDepth 100000 in
theorem t_x6_enter_51_b {N : Nat} (hN : 8589934592 ≤ N) {rec51 : St → Int32 → Int32 → Int32 → Option (Unit × St)} {σ : St} {x1 : Int32} {x2 : Int32} {x3 : Int32} (hr51 : x3.toInt < 2147483647 → ∀ (σ2 : St), CP σ2 → Tot (rec51 σ2 x1 x2 (x3 + 1)) (fun _ σ' => Kp σ2 σ')) (hC : CP σ) : Tot (x6_enter_51_b N rec51 σ x1 x2 x3) (fun _ σ' => Kp σ σ') := by
  have hk := kp_rf hC
  unfold x6_enter_51_b
  have hg1 : isCd (gP σ 1505) = true := (cp_1505 hk.1)
  refine tot_gd hg1 ?_
  refine tot_bd (t_x0_arguments hN hk.1 hg1) (fun r6 σ7 hp2 => ?_)
  have hk2 := kp_id hk hp2
  refine tot_if (fun hc3 => ?_) (fun hc3 => ?_)
  · exact tot_k hk2 (t_x6_enter_113 hN hk2.1)
  · have hq51 := hr51 (lt_mx hc3)
    have hg4 : isCd (gP σ7 1505) = true := (cp_1505 hk2.1)
    refine tot_gd hg4 ?_
    refine tot_bd (t_x0_argument hN hk2.1 hg4) (fun r12 σ13 hp5 => ?_)
    have hk5 := kp_id hk2 hp5
    refine tot_bd (t_x5_at hN hk5.1 ia_16) (fun r14 σ15 hp6 => ?_)
    have hk6 := kp_id hk5 hp6
    have hg7 : isPr (gP σ15 1504) = true := (cp_1504 hk6.1)
    refine tot_gd hg7 ?_
    refine tot_bd (t_x3_parameter hN hk6.1 hg7) (fun r17 σ18 hp8 => ?_)
    have hk8 := kp_id hk6 hp8
    refine tot_bd (t_x6_setName hN hk8.1) (fun _r9 σ20 hp9 => ?_)
    have hk9 := kp_tr hk8 hp9
    exact tot_k hk9 (hq51 _ hk9.1)
set_option maxHeartbeats 4000000 in
set_option maxRecDepth 100000 in
theorem t_x6_enter_51 {N : Nat} (hN : 8589934592 ≤ N) : ∀ (n : Nat) (σ : St) (x1 : Int32) (x2 : Int32) (x3 : Int32), True → CP σ → (2147483648 - x3.toInt).toNat < n → Tot (x6_enter_51 N n σ x1 x2 x3) (fun _ σ' => Kp σ σ') := by
  intro n
  induction n with
  | zero => intro σ x1 x2 x3 _ hC hm; exact absurd hm (Nat.not_lt_zero _)
  | succ n ih => intro σ x1 x2 x3 _ hC hm; exact t_x6_enter_51_b hN (fun hlt σ2 hC2 => ih σ2 x1 x2 (x3 + 1) trivial hC2 (m_succ hlt hm)) hC
set_option maxHeartbeats 4000000 in
set_option maxRecDepth 100000 in
theorem t_x6_enter {N : Nat} (hN : 8589934592 ≤ N) {σ : St} {a1 : Int32} (hC : CP σ) : Tot (x6_enter N σ a1) (fun _ σ' => Kp σ σ') := by
  have hk := kp_rf hC
  unfold x6_enter
  refine tot_if (fun hc1 => ?_) (fun hc1 => ?_)
  · refine tot_bd (t_x5_put hN hk.1 ia_17) (fun _r2 σ2 hp2 => ?_)
    have hk2 := kp_tr hk hp2
    refine tot_bd (t_x6_clearNames hN (kp_I hk2 (by decide) (by decide)).1) (fun _r3 σ4 hp3 => ?_)
    have hk3 := kp_tr (kp_I hk2 (by decide) (by decide)) hp3
    exact tot_k hk3 (t_x6_enter_51 hN N _ a1 (gI σ 1513) 0 trivial hk3.1 (m_N hN))
  · exact tot_some (kp_I hk (by decide) (by decide))

set_option maxHeartbeats 4000000 in
set_option maxRecDepth 100000 in
theorem t_x6_work_79 {N : Nat} (hN : 8589934592 ≤ N) {σ : St} {t1 : Int32} (hC : CP σ) : Tot (x6_work_79 N σ t1) (fun _ σ' => Kp σ σ') := by
  have hk := kp_rf hC
  unfold x6_work_79
  exact tot_some (kp_I hk (by decide) (by decide))
set_option maxHeartbeats 4000000 in
set_option maxRecDepth 100000 in
theorem t_x6_work {N : Nat} (hN : 8589934592 ≤ N) {σ : St} (hC : CP σ) : Tot (x6_work N σ) (fun _ σ' => K1 σ σ') := by
  have hk := kp_rf hC
  unfold x6_work
  have hg1 : isCd (gP σ 1505) = true := (cp_1505 hk.1)
  refine tot_gd hg1 ?_
  refine tot_bd (t_x0_get hN hk.1 hg1) (fun r2 σ3 hp2 => ?_)
  have hk2 := kp_id hk hp2
  have hg3 : isCd (gP σ3 1505) = true := (cp_1505 hk2.1)
  refine tot_gd hg3 ?_
  refine tot_bd (t_x0_get hN hk2.1 hg3) (fun r5 σ6 hp4 => ?_)
  have hk4 := kp_id hk2 hp4
  refine tot_bd (t_x6_nameOf hN hk4.1) (fun r7 σ8 hp5 => ?_)
  have hk5 := kp_id hk4 hp5
  have hg6 : isCd (gP σ8 1505) = true := (cp_1505 hk5.1)
  refine tot_gd hg6 ?_
  refine tot_bd (t_x0_get hN hk5.1 hg6) (fun r10 σ11 hp7 => ?_)
  have hk7 := kp_id hk5 hp7
  refine tot_if (fun hc8 => ?_) (fun hc8 => ?_)
  · refine tot_bd (t_x6_choose hN (kp_I (kp_I hk7 (by decide) (by decide)) (by decide) (by decide)).1) (fun r20 σ21 hp9 => ?_)
    have hb_r20 := hp9.2
    have hk9 := k1_r (kp_I (kp_I hk7 (by decide) (by decide)) (by decide) (by decide)) hp9.1
    refine tot_if (fun hc10 => ?_) (fun hc10 => ?_)
    · exact (t_x6_work_79 hN hk9.1).mono (fun _ _ q => (k1_l hk9 q))
    · refine tot_bd (t_x6_makeLoop hN hk9.1) (fun r22 σ23 hp11 => ?_)
      have hk11 := k1_l hk9 hp11
      exact (t_x6_work_79 hN hk11.1).mono (fun _ _ q => (k1_l hk11 q))
  · refine tot_if (fun hc12 => ?_) (fun hc12 => ?_)
    · refine tot_bd (t_x6_nameOf hN (kp_I (kp_I hk7 (by decide) (by decide)) (by decide) (by decide)).1) (fun r16 σ17 hp13 => ?_)
      have hk13 := kp_id (kp_I (kp_I hk7 (by decide) (by decide)) (by decide) (by decide)) hp13
      refine tot_bd (t_x6_make hN hk13.1) (fun r18 σ19 hp14 => ?_)
      have hk14 := kp_tr hk13 hp14
      exact tot_some (k1_of (kp_I hk14 (by decide) (by decide)))
    · refine tot_if (fun hc15 => ?_) (fun hc15 => ?_)
      · exact tot_some (k1_of (kp_I (kp_I (kp_I hk7 (by decide) (by decide)) (by decide) (by decide)) (by decide) (by decide)))
      · refine tot_if (fun hc16 => ?_) (fun hc16 => ?_)
        · refine tot_bd (t_x6_fieldOf hN (kp_I (kp_I hk7 (by decide) (by decide)) (by decide) (by decide)).1) (fun r14 σ15 hp17 => ?_)
          have hk17 := kp_tr (kp_I (kp_I hk7 (by decide) (by decide)) (by decide) (by decide)) hp17
          exact tot_some (k1_of (kp_I hk17 (by decide) (by decide)))
        · refine tot_if (fun hc18 => ?_) (fun hc18 => ?_)
          · refine tot_bd (t_x6_enter hN (kp_I (kp_I hk7 (by decide) (by decide)) (by decide) (by decide)).1) (fun _r19 σ13 hp19 => ?_)
            have hk19 := kp_tr (kp_I (kp_I hk7 (by decide) (by decide)) (by decide) (by decide)) hp19
            exact tot_some (k1_of hk19)
          · exact tot_some (k1_of (kp_I (kp_I hk7 (by decide) (by decide)) (by decide) (by decide)))

set_option maxHeartbeats 4000000 in
set_option maxRecDepth 100000 in
theorem t_x6_step_113 {N : Nat} (hN : 8589934592 ≤ N) {σ : St} {t1 : Int32} (hC : CP σ) : Tot (x6_step_113 N σ t1) (fun _ σ' => Kp σ σ') := by
  have hk := kp_rf hC
  unfold x6_step_113
  exact tot_some (kp_I hk (by decide) (by decide))
set_option maxHeartbeats 4000000 in
set_option maxRecDepth 100000 in
theorem t_x6_step {N : Nat} (hN : 8589934592 ≤ N) {σ : St} (hC : CP σ) : Tot (x6_step N σ) (fun _ σ' => K1 σ σ') := by
  have hk := kp_rf hC
  unfold x6_step
  have hg1 : isCd (gP σ 1505) = true := (cp_1505 hk.1)
  refine tot_gd hg1 ?_
  refine tot_bd (t_x0_get hN hk.1 hg1) (fun r2 σ3 hp2 => ?_)
  have hk2 := kp_id hk hp2
  refine tot_if (fun hc3 => ?_) (fun hc3 => ?_)
  · have hg4 : isCd (gP σ3 1505) = true := (cp_1505 hk2.1)
    refine tot_gd hg4 ?_
    refine tot_bd (t_x0_get hN hk2.1 hg4) (fun r14 σ15 hp5 => ?_)
    have hk5 := kp_id hk2 hp5
    exact tot_some (k1_of (kp_I hk5 (by decide) (by decide)))
  · refine tot_if (fun hc6 => ?_) (fun hc6 => ?_)
    · refine tot_bd (t_x6_leave hN hk2.1) (fun _r7 σ12 hp7 => ?_)
      have hk7 := kp_tr hk2 hp7
      exact tot_some (k1_of hk7)
    · refine tot_if (fun hc8 => ?_) (fun hc8 => ?_)
      · refine tot_if (fun hc9 => ?_) (fun hc9 => ?_)
        · refine tot_bd (t_x6_holds hN (kp_I hk2 (by decide) (by decide)).1) (fun r6 σ7 hp10 => ?_)
          have hb_r6 := hp10.2
          have hk10 := k1_r (kp_I hk2 (by decide) (by decide)) hp10.1
          refine tot_if (fun hc11 => ?_) (fun hc11 => ?_)
          · have hg12 : isCd (gP σ7 1505) = true := (cp_1505 hk10.1)
            refine tot_gd hg12 ?_
            refine tot_bd (t_x0_get hN hk10.1 hg12) (fun r9 σ10 hp13 => ?_)
            have hk13 := k1_l hk10 (kp_id (kp_rf hk10.1) hp13)
            exact (t_x6_step_113 hN hk13.1).mono (fun _ _ q => (k1_l hk13 q))
          · exact (t_x6_step_113 hN hk10.1).mono (fun _ _ q => (k1_l hk10 q))
        · refine tot_bd (t_x6_work hN (kp_I hk2 (by decide) (by decide)).1) (fun _r14 σ5 hp14 => ?_)
          have hk14 := k1_r (kp_I hk2 (by decide) (by decide)) hp14
          exact tot_some hk14
      · exact tot_some (k1_of (kp_I hk2 (by decide) (by decide)))

set_option maxHeartbeats 4000000 in
set_option maxRecDepth 100000 in
theorem t_x7_startAt {N : Nat} (hN : 8589934592 ≤ N) {σ : St} {a1 : Int32} (hC : CP σ) : Tot (x7_startAt N σ a1) (fun _ σ' => Kp σ σ') := by
  have hk := kp_rf hC
  unfold x7_startAt
  refine tot_bd (t_j_fill hN (kp_I hk (by decide) (by decide)).1 ia_8) (fun _r1 σ2 hp1 => ?_)
  have hk1 := kp_tr (kp_I hk (by decide) (by decide)) hp1
  exact tot_some hk1

set_option maxHeartbeats 4000000 in
set_option maxRecDepth 100000 in
theorem t_x7_allows_53 {N : Nat} (hN : 8589934592 ≤ N) {rec32 : St → Int32 → Int32 → Option (Int32 × St)} {σ : St} {x1 : Int32} {x2 : Int32} {t0 : Int32} (hq32 : ∀ (σ2 : St), CP σ2 → Tot (rec32 σ2 x1 (x2 + 1)) (fun r σ' => Id0 σ2 σ' ∧ isb r = true)) (hC : CP σ) : Tot (x7_allows_53 N rec32 σ x1 x2 t0) (fun r σ' => Id0 σ σ' ∧ isb r = true) := by
  have hk := id_rf hC
  unfold x7_allows_53
  refine tot_bd (t_x5_at hN hk.2 ia_8) (fun r8 σ9 hp1 => ?_)
  have hk1 := id_tr hk hp1
  refine tot_if (fun hc2 => ?_) (fun hc2 => ?_)
  · exact tot_some ⟨hk1, rfl⟩
  · exact tot_ib hk1 (hq32 _ hk1.2)
set_option maxHeartbeats 4000000 in
set_option maxRecDepth 100000 in
theorem t_x7_allows_32_b {N : Nat} (hN : 8589934592 ≤ N) {rec32 : St → Int32 → Int32 → Option (Int32 × St)} {σ : St} {x1 : Int32} {x2 : Int32} (hr32 : x2.toInt < 2147483647 → ∀ (σ2 : St), CP σ2 → Tot (rec32 σ2 x1 (x2 + 1)) (fun r σ' => Id0 σ2 σ' ∧ isb r = true)) (hC : CP σ) : Tot (x7_allows_32_b N rec32 σ x1 x2) (fun r σ' => Id0 σ σ' ∧ isb r = true) := by
  have hk := id_rf hC
  unfold x7_allows_32_b
  refine tot_bd (t_x7_outers hN hk.2) (fun r6 σ7 hp1 => ?_)
  have hk1 := id_tr hk hp1
  refine tot_if (fun hc2 => ?_) (fun hc2 => ?_)
  · exact tot_some ⟨hk1, rfl⟩
  · have hq32 := hr32 (lt_mx hc2)
    refine tot_if (fun hc3 => ?_) (fun hc3 => ?_)
    · exact tot_ib hk1 (t_x7_allows_53 hN hq32 hk1.2)
    · exact tot_ib hk1 (t_x7_allows_53 hN hq32 hk1.2)
set_option maxHeartbeats 4000000 in
set_option maxRecDepth 100000 in
theorem t_x7_allows_32 {N : Nat} (hN : 8589934592 ≤ N) : ∀ (n : Nat) (σ : St) (x1 : Int32) (x2 : Int32), True → CP σ → (2147483648 - x2.toInt).toNat < n → Tot (x7_allows_32 N n σ x1 x2) (fun r σ' => Id0 σ σ' ∧ isb r = true) := by
  intro n
  induction n with
  | zero => intro σ x1 x2 _ hC hm; exact absurd hm (Nat.not_lt_zero _)
  | succ n ih => intro σ x1 x2 _ hC hm; exact t_x7_allows_32_b hN (fun hlt σ2 hC2 => ih σ2 x1 (x2 + 1) trivial hC2 (m_succ hlt hm)) hC
set_option maxHeartbeats 4000000 in
set_option maxRecDepth 100000 in
theorem t_x7_allows {N : Nat} (hN : 8589934592 ≤ N) {σ : St} {a1 : Int32} (hC : CP σ) : Tot (x7_allows N σ a1) (fun r σ' => Id0 σ σ' ∧ isb r = true) := by
  have hk := id_rf hC
  unfold x7_allows
  have hg1 : isPr (gP σ 700) = true := (cp_700 hk.2)
  refine tot_gd hg1 ?_
  refine tot_bd (t_x3_has hN hk.2 hg1) (fun r2 σ3 hp2 => ?_)
  have hb_r2 := hp2.2
  have hk2 := id_tr hk hp2.1
  refine tot_if (fun hc3 => ?_) (fun hc3 => ?_)
  · exact tot_some ⟨hk2, rfl⟩
  · refine tot_if (fun hc4 => ?_) (fun hc4 => ?_)
    · exact tot_some ⟨hk2, rfl⟩
    · refine tot_bd (t_x7_outers hN hk2.2) (fun r4 σ5 hp5 => ?_)
      have hk5 := id_tr hk2 hp5
      refine tot_if (fun hc6 => ?_) (fun hc6 => ?_)
      · exact tot_ib hk5 (t_x7_allows_32 hN N _ a1 0 trivial hk5.2 (m_N hN))
      · exact tot_some ⟨hk5, rfl⟩

set_option maxHeartbeats 4000000 in
set_option maxRecDepth 100000 in
theorem t_x8_isSmall {N : Nat} (hN : 8589934592 ≤ N) {σ : St} {a1 : Int32} (hC : CP σ) : Tot (x8_isSmall N σ a1) (fun r σ' => Id0 σ σ' ∧ isb r = true) := by
  have hk := id_rf hC
  unfold x8_isSmall
  refine tot_if (fun hc1 => ?_) (fun hc1 => ?_)
  · exact tot_some ⟨hk, rfl⟩
  · refine tot_if (fun hc2 => ?_) (fun hc2 => ?_)
    · exact tot_some ⟨hk, rfl⟩
    · exact tot_some ⟨hk, rfl⟩

set_option maxHeartbeats 4000000 in
set_option maxRecDepth 100000 in
theorem t_x8_kindOfWord {N : Nat} (hN : 8589934592 ≤ N) {σ : St} {a2 : Int32} {a3 : Int32} (hC : CP σ) (h_a2 : 0 ≤ a2.toInt ∧ a2.toInt < 1200) : Tot (x8_kindOfWord N σ a2 a3) (fun _ σ' => Id0 σ σ') := by
  have hk := id_rf hC
  unfold x8_kindOfWord
  refine tot_if (fun hc1 => ?_) (fun hc1 => ?_)
  · exact tot_some hk
  · refine tot_if (fun hc2 => ?_) (fun hc2 => ?_)
    · refine tot_bd (t_x8_spells hN hk.2 h_a2 (by decide)) (fun r3 σ4 hp3 => ?_)
      have hb_r3 := hp3.2
      have hk3 := id_tr hk hp3.1
      refine tot_if (fun hc4 => ?_) (fun hc4 => ?_)
      · refine tot_bd (t_x8_spells hN hk3.2 h_a2 (by decide)) (fun r5 σ6 hp5 => ?_)
        have hb_r5 := hp5.2
        have hk5 := id_tr hk3 hp5.1
        refine tot_if (fun hc6 => ?_) (fun hc6 => ?_)
        · exact tot_some hk5
        · exact tot_some hk5
      · exact tot_some hk3
    · refine tot_if (fun hc7 => ?_) (fun hc7 => ?_)
      · refine tot_bd (t_x8_spells hN hk.2 h_a2 (by decide)) (fun r8 σ9 hp8 => ?_)
        have hb_r8 := hp8.2
        have hk8 := id_tr hk hp8.1
        refine tot_if (fun hc9 => ?_) (fun hc9 => ?_)
        · refine tot_bd (t_x8_spells hN hk8.2 h_a2 (by decide)) (fun r10 σ11 hp10 => ?_)
          have hb_r10 := hp10.2
          have hk10 := id_tr hk8 hp10.1
          refine tot_if (fun hc11 => ?_) (fun hc11 => ?_)
          · refine tot_bd (t_x8_spells hN hk10.2 h_a2 (by decide)) (fun r12 σ13 hp12 => ?_)
            have hb_r12 := hp12.2
            have hk12 := id_tr hk10 hp12.1
            refine tot_if (fun hc13 => ?_) (fun hc13 => ?_)
            · exact tot_some hk12
            · exact tot_some hk12
          · exact tot_some hk10
        · exact tot_some hk8
      · refine tot_if (fun hc14 => ?_) (fun hc14 => ?_)
        · refine tot_bd (t_x8_spells hN hk.2 h_a2 (by decide)) (fun r15 σ16 hp15 => ?_)
          have hb_r15 := hp15.2
          have hk15 := id_tr hk hp15.1
          refine tot_if (fun hc16 => ?_) (fun hc16 => ?_)
          · exact tot_some hk15
          · exact tot_some hk15
        · refine tot_if (fun hc17 => ?_) (fun hc17 => ?_)
          · refine tot_bd (t_x8_spells hN hk.2 h_a2 (by decide)) (fun r18 σ19 hp18 => ?_)
            have hb_r18 := hp18.2
            have hk18 := id_tr hk hp18.1
            refine tot_if (fun hc19 => ?_) (fun hc19 => ?_)
            · exact tot_some hk18
            · exact tot_some hk18
          · refine tot_if (fun hc20 => ?_) (fun hc20 => ?_)
            · refine tot_bd (t_x8_spells hN hk.2 h_a2 (by decide)) (fun r21 σ22 hp21 => ?_)
              have hb_r21 := hp21.2
              have hk21 := id_tr hk hp21.1
              refine tot_if (fun hc22 => ?_) (fun hc22 => ?_)
              · exact tot_some hk21
              · exact tot_some hk21
            · refine tot_if (fun hc23 => ?_) (fun hc23 => ?_)
              · refine tot_bd (t_x8_spells hN hk.2 h_a2 (by decide)) (fun r24 σ25 hp24 => ?_)
                have hb_r24 := hp24.2
                have hk24 := id_tr hk hp24.1
                refine tot_if (fun hc25 => ?_) (fun hc25 => ?_)
                · exact tot_some hk24
                · exact tot_some hk24
              · exact tot_some hk

set_option maxHeartbeats 4000000 in
set_option maxRecDepth 100000 in
theorem t_x8_add {N : Nat} (hN : 8589934592 ≤ N) {σ : St} {a1 : Int32} {a2 : Int32} {a3 : Int32} (hC : CP σ) : Tot (x8_add N σ a1 a2 a3) (fun _ σ' => Kp σ σ') := by
  have hk := kp_rf hC
  unfold x8_add
  refine tot_bd (t_x5_put hN hk.1 ia_3) (fun _r1 σ2 hp1 => ?_)
  have hk1 := kp_tr hk hp1
  exact tot_some (kp_I hk1 (by decide) (by decide))

set_option maxHeartbeats 4000000 in
set_option maxRecDepth 100000 in
theorem t_x8_kindOfSign {N : Nat} (hN : 8589934592 ≤ N) {σ : St} {a1 : Int32} (hC : CP σ) : Tot (x8_kindOfSign N σ a1) (fun _ σ' => Id0 σ σ') := by
  have hk := id_rf hC
  unfold x8_kindOfSign
  refine tot_if (fun hc1 => ?_) (fun hc1 => ?_)
  · exact tot_some hk
  · refine tot_if (fun hc2 => ?_) (fun hc2 => ?_)
    · exact tot_some hk
    · refine tot_if (fun hc3 => ?_) (fun hc3 => ?_)
      · exact tot_some hk
      · refine tot_if (fun hc4 => ?_) (fun hc4 => ?_)
        · exact tot_some hk
        · refine tot_if (fun hc5 => ?_) (fun hc5 => ?_)
          · exact tot_some hk
          · refine tot_if (fun hc6 => ?_) (fun hc6 => ?_)
            · exact tot_some hk
            · refine tot_if (fun hc7 => ?_) (fun hc7 => ?_)
              · exact tot_some hk
              · refine tot_if (fun hc8 => ?_) (fun hc8 => ?_)
                · exact tot_some hk
                · exact tot_some hk

set_option maxHeartbeats 4000000 in
set_option maxRecDepth 100000 in
theorem t_x9_noteFailure {N : Nat} (hN : 8589934592 ≤ N) {σ : St} {a1 : Int32} {a2 : Int32} (hC : CP σ) : Tot (x9_noteFailure N σ a1 a2) (fun _ σ' => Kp σ σ') := by
  have hk := kp_rf hC
  unfold x9_noteFailure
  refine tot_if (fun hc1 => ?_) (fun hc1 => ?_)
  · refine tot_bd (t_x5_at hN hk.1 ia_20) (fun r1 σ2 hp2 => ?_)
    have hk2 := kp_id hk hp2
    refine tot_if (fun hc3 => ?_) (fun hc3 => ?_)
    · refine tot_bd (t_x5_put hN hk2.1 ia_20) (fun _r4 σ4 hp4 => ?_)
      have hk4 := kp_tr hk2 hp4
      exact tot_some (kp_I hk4 (by decide) (by decide))
    · exact tot_some hk2
  · exact tot_some hk

set_option maxHeartbeats 4000000 in
set_option maxRecDepth 100000 in
theorem t_x10_forget {N : Nat} (hN : 8589934592 ≤ N) {σ : St} (hC : CP σ) : Tot (x10_forget N σ) (fun _ σ' => Kp σ σ') := by
  have hk := kp_rf hC
  unfold x10_forget
  exact tot_some (kp_I (kp_I (kp_I hk (by decide) (by decide)) (by decide) (by decide)) (by decide) (by decide))

set_option maxHeartbeats 4000000 in
set_option maxRecDepth 100000 in
theorem t_x10_fault {N : Nat} (hN : 8589934592 ≤ N) {σ : St} {a1 : Int32} (hC : CP σ) : Tot (x10_fault N σ a1) (fun _ σ' => Id0 σ σ') := by
  have hk := id_rf hC
  unfold x10_fault
  refine tot_if (fun hc1 => ?_) (fun hc1 => ?_)
  · exact tot_some hk
  · refine tot_if (fun hc2 => ?_) (fun hc2 => ?_)
    · exact tot_some hk
    · exact tot_some hk

set_option maxHeartbeats 4000000 in
set_option maxRecDepth 100000 in
theorem t_x10_entry {N : Nat} (hN : 8589934592 ≤ N) {σ : St} {a1 : Int32} (hC : CP σ) : Tot (x10_entry N σ a1) (fun r σ' => Kp σ σ' ∧ isb r = true) := by
  have hk := kp_rf hC
  unfold x10_entry
  have hg1 : isPr (gP σ 700) = true := (cp_700 hk.1)
  refine tot_gd hg1 ?_
  refine tot_bd (t_x3_has hN hk.1 hg1) (fun r2 σ3 hp2 => ?_)
  have hb_r2 := hp2.2
  have hk2 := kp_id hk hp2.1
  refine tot_if (fun hc3 => ?_) (fun hc3 => ?_)
  · exact tot_some ⟨hk2, rfl⟩
  · refine tot_bd (t_x7_startAt hN hk2.1) (fun _r4 σ5 hp4 => ?_)
    have hk4 := kp_tr hk2 hp4
    refine tot_bd (t_x10_forget hN hk4.1) (fun _r5 σ7 hp5 => ?_)
    have hk5 := kp_tr hk4 hp5
    exact tot_some ⟨hk5, rfl⟩

set_option maxHeartbeats 4000000 in
set_option maxRecDepth 100000 in
theorem t_x10_outer {N : Nat} (hN : 8589934592 ≤ N) {σ : St} {a1 : Int32} {a2 : Int32} (hC : CP σ) : Tot (x10_outer N σ a1 a2) (fun r σ' => Kp σ σ' ∧ isb r = true) := by
  have hk := kp_rf hC
  unfold x10_outer
  refine tot_if (fun hc1 => ?_) (fun hc1 => ?_)
  · exact tot_some ⟨hk, rfl⟩
  · refine tot_bd (t_x7_outers hN hk.1) (fun r1 σ2 hp2 => ?_)
    have hk2 := kp_id hk hp2
    refine tot_if (fun hc3 => ?_) (fun hc3 => ?_)
    · exact tot_some ⟨hk2, rfl⟩
    · refine tot_if (fun hc4 => ?_) (fun hc4 => ?_)
      · exact tot_some ⟨hk2, rfl⟩
      · refine tot_if (fun hc5 => ?_) (fun hc5 => ?_)
        · refine tot_bd (t_x5_put hN hk2.1 ia_8) (fun _r6 σ4 hp6 => ?_)
          have hk6 := kp_tr hk2 hp6
          refine tot_bd (t_x10_forget hN hk6.1) (fun _r7 σ6 hp7 => ?_)
          have hk7 := kp_tr hk6 hp7
          exact tot_some ⟨hk7, rfl⟩
        · exact tot_some ⟨hk2, rfl⟩

set_option maxHeartbeats 4000000 in
set_option maxRecDepth 100000 in
theorem t_x10_markIndex_80 {N : Nat} (hN : 8589934592 ≤ N) {σ : St} {x2 : Int32} {x3 : Int32} {t0 : Int32} (hC : CP σ) : Tot (x10_markIndex_80 N σ x2 x3 t0) (fun _ σ' => Id0 σ σ') := by
  have hk := id_rf hC
  unfold x10_markIndex_80
  refine tot_if (fun hc1 => ?_) (fun hc1 => ?_)
  · exact tot_some hk
  · exact tot_some hk
set_option maxHeartbeats 4000000 in
set_option maxRecDepth 100000 in
theorem t_x10_markIndex_79 {N : Nat} (hN : 8589934592 ≤ N) {σ : St} {x2 : Int32} {x3 : Int32} (hC : CP σ) : Tot (x10_markIndex_79 N σ x2 x3) (fun _ σ' => Id0 σ σ') := by
  have hk := id_rf hC
  unfold x10_markIndex_79
  exact tot_i hk (t_x10_markIndex_80 hN hk.2)
set_option maxHeartbeats 4000000 in
set_option maxRecDepth 100000 in
theorem t_x10_markIndex_14 {N : Nat} (hN : 8589934592 ≤ N) {σ : St} {x3 : Int32} (hC : CP σ) : Tot (x10_markIndex_14 N σ x3) (fun _ σ' => Id0 σ σ') := by
  have hk := id_rf hC
  unfold x10_markIndex_14
  exact tot_some hk
set_option maxHeartbeats 4000000 in
set_option maxRecDepth 100000 in
theorem t_x10_markIndex {N : Nat} (hN : 8589934592 ≤ N) {σ : St} {a1 : Int32} {a2 : Int32} {a3 : Int32} (hC : CP σ) : Tot (x10_markIndex N σ a1 a2 a3) (fun _ σ' => Id0 σ σ') := by
  have hk := id_rf hC
  unfold x10_markIndex
  refine tot_if (fun hc1 => ?_) (fun hc1 => ?_)
  · refine tot_if (fun hc2 => ?_) (fun hc2 => ?_)
    · exact tot_i hk (t_x10_markIndex_14 hN hk.2)
    · refine tot_if (fun hc3 => ?_) (fun hc3 => ?_)
      · exact tot_i hk (t_x10_markIndex_14 hN hk.2)
      · exact tot_some hk
  · have hg4 : isPr (gP σ 700) = true := (cp_700 hk.2)
    refine tot_gd hg4 ?_
    refine tot_bd (t_x3_has hN hk.2 hg4) (fun r2 σ3 hp5 => ?_)
    have hb_r2 := hp5.2
    have hk5 := id_tr hk hp5.1
    refine tot_if (fun hc6 => ?_) (fun hc6 => ?_)
    · exact tot_some hk5
    · refine tot_if (fun hc7 => ?_) (fun hc7 => ?_)
      · exact tot_some hk5
      · refine tot_if (fun hc8 => ?_) (fun hc8 => ?_)
        · refine tot_if (fun hc9 => ?_) (fun hc9 => ?_)
          · exact tot_i hk5 (t_x10_markIndex_79 hN hk5.2)
          · have hg10 : isPr (gP σ3 700) = true := (cp_700 hk5.2)
            refine tot_gd hg10 ?_
            refine tot_bd (t_x5_at hN hk5.2 (pr_ia2 hg10)) (fun r5 σ6 hp11 => ?_)
            have hk11 := id_tr hk5 hp11
            refine tot_if (fun hc12 => ?_) (fun hc12 => ?_)
            · exact tot_i hk11 (t_x10_markIndex_79 hN hk11.2)
            · exact tot_i hk11 (t_x10_markIndex_80 hN hk11.2)
        · exact tot_i hk5 (t_x10_markIndex_79 hN hk5.2)

set_option maxHeartbeats 4000000 in
set_option maxRecDepth 100000 in
theorem t_x10_mark {N : Nat} (hN : 8589934592 ≤ N) {σ : St} {a1 : Int32} {a2 : Int32} {a3 : Int32} (hC : CP σ) : Tot (x10_mark N σ a1 a2 a3) (fun _ σ' => Kp σ σ') := by
  have hk := kp_rf hC
  unfold x10_mark
  refine tot_bd (t_x10_markIndex hN hk.1) (fun r1 σ2 hp1 => ?_)
  have hk1 := kp_id hk hp1
  refine tot_if (fun hc2 => ?_) (fun hc2 => ?_)
  · exact tot_some hk1
  · refine tot_bd (t_x1_settle hN hk1.1) (fun _r3 σ4 hp3 => ?_)
    have hk3 := kp_tr hk1 hp3
    refine tot_bd (t_x5_at hN hk3.1 ia_12) (fun r5 σ6 hp4 => ?_)
    have hk4 := kp_id hk3 hp4
    exact tot_some hk4

set_option maxHeartbeats 4000000 in
set_option maxRecDepth 100000 in
theorem t_x10_verdictOfUse {N : Nat} (hN : 8589934592 ≤ N) {σ : St} {a1 : Int32} (hC : CP σ) : Tot (x10_verdictOfUse N σ a1) (fun _ σ' => Id0 σ σ') := by
  have hk := id_rf hC
  unfold x10_verdictOfUse
  refine tot_if (fun hc1 => ?_) (fun hc1 => ?_)
  · exact tot_some hk
  · refine tot_if (fun hc2 => ?_) (fun hc2 => ?_)
    · exact tot_some hk
    · refine tot_if (fun hc3 => ?_) (fun hc3 => ?_)
      · exact tot_some hk
      · exact tot_some hk

set_option maxHeartbeats 4000000 in
set_option maxRecDepth 100000 in
theorem t_x10_use {N : Nat} (hN : 8589934592 ≤ N) {σ : St} {a1 : Int32} {a2 : Int32} (hC : CP σ) : Tot (x10_use N σ a1 a2) (fun _ σ' => Kp σ σ') := by
  have hk := kp_rf hC
  unfold x10_use
  refine tot_if (fun hc1 => ?_) (fun hc1 => ?_)
  · exact tot_some hk
  · have hg2 : isPr (gP σ 700) = true := (cp_700 hk.1)
    refine tot_gd hg2 ?_
    refine tot_if (fun hc3 => ?_) (fun hc3 => ?_)
    · refine tot_if (fun hc4 => ?_) (fun hc4 => ?_)
      · refine tot_bd (t_x1_settle hN hk.1) (fun _r5 σ4 hp5 => ?_)
        have hk5 := kp_tr hk hp5
        refine tot_bd (t_x5_at hN hk5.1 ia_13) (fun r5 σ6 hp6 => ?_)
        have hk6 := kp_id hk5 hp6
        refine tot_bd (t_x10_verdictOfUse hN hk6.1) (fun r7 σ8 hp7 => ?_)
        have hk7 := kp_id hk6 hp7
        exact tot_some hk7
      · refine tot_if (fun hc8 => ?_) (fun hc8 => ?_)
        · refine tot_bd (t_x5_at hN hk.1 (pr_ia4 hg2)) (fun r10 σ11 hp9 => ?_)
          have hk9 := kp_id hk hp9
          exact tot_some hk9
        · refine tot_if (fun hc10 => ?_) (fun hc10 => ?_)
          · refine tot_bd (t_x5_at hN hk.1 (pr_ia5 hg2)) (fun r13 σ14 hp11 => ?_)
            have hk11 := kp_id hk hp11
            exact tot_some hk11
          · refine tot_if (fun hc12 => ?_) (fun hc12 => ?_)
            · refine tot_bd (t_x5_at hN hk.1 (pr_ia6 hg2)) (fun r16 σ17 hp13 => ?_)
              have hk13 := kp_id hk hp13
              exact tot_some hk13
            · exact tot_some hk
    · exact tot_some hk

set_option maxHeartbeats 4000000 in
set_option maxRecDepth 100000 in
theorem t_x10_verdictOfTest {N : Nat} (hN : 8589934592 ≤ N) {σ : St} {a1 : Int32} (hC : CP σ) : Tot (x10_verdictOfTest N σ a1) (fun _ σ' => Id0 σ σ') := by
  have hk := id_rf hC
  unfold x10_verdictOfTest
  refine tot_if (fun hc1 => ?_) (fun hc1 => ?_)
  · exact tot_some hk
  · refine tot_if (fun hc2 => ?_) (fun hc2 => ?_)
    · exact tot_some hk
    · refine tot_if (fun hc3 => ?_) (fun hc3 => ?_)
      · exact tot_some hk
      · exact tot_some hk

set_option maxHeartbeats 4000000 in
set_option maxRecDepth 100000 in
theorem t_x10_test {N : Nat} (hN : 8589934592 ≤ N) {σ : St} {a1 : Int32} {a2 : Int32} (hC : CP σ) : Tot (x10_test N σ a1 a2) (fun _ σ' => Kp σ σ') := by
  have hk := kp_rf hC
  unfold x10_test
  refine tot_if (fun hc1 => ?_) (fun hc1 => ?_)
  · exact tot_some hk
  · have hg2 : isPr (gP σ 700) = true := (cp_700 hk.1)
    refine tot_gd hg2 ?_
    refine tot_if (fun hc3 => ?_) (fun hc3 => ?_)
    · refine tot_if (fun hc4 => ?_) (fun hc4 => ?_)
      · refine tot_bd (t_x1_settle hN hk.1) (fun _r5 σ4 hp5 => ?_)
        have hk5 := kp_tr hk hp5
        refine tot_bd (t_x5_at hN hk5.1 ia_14) (fun r5 σ6 hp6 => ?_)
        have hk6 := kp_id hk5 hp6
        refine tot_bd (t_x10_verdictOfTest hN hk6.1) (fun r7 σ8 hp7 => ?_)
        have hk7 := kp_id hk6 hp7
        exact tot_some hk7
      · refine tot_if (fun hc8 => ?_) (fun hc8 => ?_)
        · refine tot_bd (t_x5_at hN hk.1 (pr_ia7 hg2)) (fun r10 σ11 hp9 => ?_)
          have hk9 := kp_id hk hp9
          exact tot_some hk9
        · refine tot_if (fun hc10 => ?_) (fun hc10 => ?_)
          · refine tot_bd (t_x5_at hN hk.1 (pr_ia8 hg2)) (fun r13 σ14 hp11 => ?_)
            have hk11 := kp_id hk hp11
            exact tot_some hk11
          · exact tot_some hk
    · exact tot_some hk

set_option maxHeartbeats 4000000 in
set_option maxRecDepth 100000 in
theorem t_x10_ran_13 {N : Nat} (hN : 8589934592 ≤ N) {σ : St} (hC : CP σ) : Tot (x10_ran_13 N σ) (fun _ σ' => Id0 σ σ') := by
  have hk := id_rf hC
  unfold x10_ran_13
  exact tot_some hk
set_option maxHeartbeats 4000000 in
set_option maxRecDepth 100000 in
theorem t_x10_ran {N : Nat} (hN : 8589934592 ≤ N) {σ : St} {a1 : Int32} (hC : CP σ) : Tot (x10_ran N σ a1) (fun _ σ' => Id0 σ σ') := by
  have hk := id_rf hC
  unfold x10_ran
  refine tot_if (fun hc1 => ?_) (fun hc1 => ?_)
  · exact tot_i hk (t_x10_ran_13 hN hk.2)
  · refine tot_if (fun hc2 => ?_) (fun hc2 => ?_)
    · refine tot_gd (ib_d hc1 hc2 (by decide) (by decide)) ?_
      exact tot_some hk
    · exact tot_i hk (t_x10_ran_13 hN hk.2)

set_option maxHeartbeats 4000000 in
set_option maxRecDepth 100000 in
theorem t_x10_price {N : Nat} (hN : 8589934592 ≤ N) {σ : St} {a1 : Int32} {a2 : Int32} (hC : CP σ) : Tot (x10_price N σ a1 a2) (fun r σ' => Kp σ σ' ∧ isb r = true) := by
  have hk := kp_rf hC
  unfold x10_price
  refine tot_if (fun hc1 => ?_) (fun hc1 => ?_)
  · exact tot_some ⟨hk, rfl⟩
  · refine tot_if (fun hc2 => ?_) (fun hc2 => ?_)
    · exact tot_some ⟨hk, rfl⟩
    · refine tot_if (fun hc3 => ?_) (fun hc3 => ?_)
      · exact tot_some ⟨hk, rfl⟩
      · refine tot_if (fun hc4 => ?_) (fun hc4 => ?_)
        · refine tot_bd (t_x5_put hN hk.1 ia_23) (fun _r5 σ2 hp5 => ?_)
          have hk5 := kp_tr hk hp5
          exact tot_some ⟨(kp_I hk5 (by decide) (by decide)), rfl⟩
        · exact tot_some ⟨hk, rfl⟩

set_option maxHeartbeats 4000000 in
set_option maxRecDepth 100000 in
theorem t_x10_mend {N : Nat} (hN : 8589934592 ≤ N) {σ : St} (hC : CP σ) : Tot (x10_mend N σ) (fun _ σ' => Kp σ σ') := by
  have hk := kp_rf hC
  unfold x10_mend
  have hg1 : isPr (gP σ 700) = true := (cp_700 hk.1)
  refine tot_gd hg1 ?_
  refine tot_if (fun hc2 => ?_) (fun hc2 => ?_)
  · exact tot_some hk
  · refine tot_bd (t_x2_search hN hk.1) (fun _r3 σ3 hp3 => ?_)
    have hk3 := kp_tr hk hp3
    exact tot_some hk3

set_option maxHeartbeats 4000000 in
set_option maxRecDepth 100000 in
theorem t_x10_mended_56 {N : Nat} (hN : 8589934592 ≤ N) {σ : St} (hC : CP σ) : Tot (x10_mended_56 N σ) (fun _ σ' => Id0 σ σ') := by
  have hk := id_rf hC
  unfold x10_mended_56
  exact tot_some hk
set_option maxHeartbeats 4000000 in
set_option maxRecDepth 100000 in
theorem t_x10_mended {N : Nat} (hN : 8589934592 ≤ N) {σ : St} {a1 : Int32} (hC : CP σ) : Tot (x10_mended N σ a1) (fun _ σ' => Id0 σ σ') := by
  have hk := id_rf hC
  unfold x10_mended
  refine tot_if (fun hc1 => ?_) (fun hc1 => ?_)
  · exact tot_some hk
  · refine tot_if (fun hc2 => ?_) (fun hc2 => ?_)
    · exact tot_some hk
    · refine tot_if (fun hc3 => ?_) (fun hc3 => ?_)
      · exact tot_some hk
      · refine tot_if (fun hc4 => ?_) (fun hc4 => ?_)
        · exact tot_i hk (t_x10_mended_56 hN hk.2)
        · refine tot_if (fun hc5 => ?_) (fun hc5 => ?_)
          · refine tot_bd (t_x5_at hN hk.2 ia_25) (fun r1 σ2 hp6 => ?_)
            have hk6 := id_tr hk hp6
            exact tot_some hk6
          · exact tot_i hk (t_x10_mended_56 hN hk.2)

set_option maxHeartbeats 4000000 in
set_option maxRecDepth 100000 in
theorem t_x10_usesOfFact_44 {N : Nat} (hN : 8589934592 ≤ N) {rec12 : St → Int32 → Int32 → Int32 → Option (Int32 × St)} {σ : St} {x1 : Int32} {x2 : Int32} {x3 : Int32} (hq12 : ∀ (σ2 : St), CP σ2 → Tot (rec12 σ2 x1 x2 (x3 + 1)) (fun _ σ' => Id0 σ2 σ')) (hC : CP σ) : Tot (x10_usesOfFact_44 N rec12 σ x1 x2 x3) (fun _ σ' => Id0 σ σ') := by
  have hk := id_rf hC
  unfold x10_usesOfFact_44
  exact tot_i hk (hq12 _ hk.2)
set_option maxHeartbeats 4000000 in
set_option maxRecDepth 100000 in
theorem t_x10_usesOfFact_12_b {N : Nat} (hN : 8589934592 ≤ N) {rec12 : St → Int32 → Int32 → Int32 → Option (Int32 × St)} {σ : St} {x1 : Int32} {x2 : Int32} {x3 : Int32} (hr12 : x3.toInt < 2147483647 → ∀ (σ2 : St), CP σ2 → Tot (rec12 σ2 x1 x2 (x3 + 1)) (fun _ σ' => Id0 σ2 σ')) (hC : CP σ) : Tot (x10_usesOfFact_12_b N rec12 σ x1 x2 x3) (fun _ σ' => Id0 σ σ') := by
  have hk := id_rf hC
  unfold x10_usesOfFact_12_b
  have hg1 : isPr (gP σ 700) = true := (cp_700 hk.2)
  refine tot_gd hg1 ?_
  refine tot_if (fun hc2 => ?_) (fun hc2 => ?_)
  · exact tot_some hk
  · have hq12 := hr12 (lt_mx hc2)
    refine tot_bd (t_x5_at hN hk.2 ia_13) (fun r4 σ5 hp3 => ?_)
    have hk3 := id_tr hk hp3
    refine tot_if (fun hc4 => ?_) (fun hc4 => ?_)
    · exact tot_i hk3 (t_x10_usesOfFact_44 hN hq12 hk3.2)
    · exact tot_i hk3 (t_x10_usesOfFact_44 hN hq12 hk3.2)
set_option maxHeartbeats 4000000 in
set_option maxRecDepth 100000 in
theorem t_x10_usesOfFact_12 {N : Nat} (hN : 8589934592 ≤ N) : ∀ (n : Nat) (σ : St) (x1 : Int32) (x2 : Int32) (x3 : Int32), True → CP σ → (2147483648 - x3.toInt).toNat < n → Tot (x10_usesOfFact_12 N n σ x1 x2 x3) (fun _ σ' => Id0 σ σ') := by
  intro n
  induction n with
  | zero => intro σ x1 x2 x3 _ hC hm; exact absurd hm (Nat.not_lt_zero _)
  | succ n ih => intro σ x1 x2 x3 _ hC hm; exact t_x10_usesOfFact_12_b hN (fun hlt σ2 hC2 => ih σ2 x1 x2 (x3 + 1) trivial hC2 (m_succ hlt hm)) hC
set_option maxHeartbeats 4000000 in
set_option maxRecDepth 100000 in
theorem t_x10_usesOfFact {N : Nat} (hN : 8589934592 ≤ N) {σ : St} {a1 : Int32} (hC : CP σ) : Tot (x10_usesOfFact N σ a1) (fun _ σ' => Kp σ σ') := by
  have hk := kp_rf hC
  unfold x10_usesOfFact
  refine tot_bd (t_x1_settle hN hk.1) (fun _r1 σ2 hp1 => ?_)
  have hk1 := kp_tr hk hp1
  exact tot_ki hk1 (t_x10_usesOfFact_12 hN N _ a1 0 0 trivial hk1.1 (m_N hN))

set_option maxHeartbeats 4000000 in
set_option maxRecDepth 100000 in
theorem t_x10_count {N : Nat} (hN : 8589934592 ≤ N) {σ : St} {a1 : Int32} (hC : CP σ) : Tot (x10_count N σ a1) (fun _ σ' => Kp σ σ') := by
  have hk := kp_rf hC
  unfold x10_count
  refine tot_if (fun hc1 => ?_) (fun hc1 => ?_)
  · have hg2 : isPr (gP σ 700) = true := (cp_700 hk.1)
    refine tot_gd hg2 ?_
    exact tot_some hk
  · refine tot_if (fun hc3 => ?_) (fun hc3 => ?_)
    · have hg4 : isPr (gP σ 700) = true := (cp_700 hk.1)
      refine tot_gd hg4 ?_
      exact tot_some hk
    · refine tot_if (fun hc5 => ?_) (fun hc5 => ?_)
      · have hg6 : isPr (gP σ 700) = true := (cp_700 hk.1)
        refine tot_gd hg6 ?_
        exact tot_some hk
      · refine tot_if (fun hc7 => ?_) (fun hc7 => ?_)
        · exact tot_some hk
        · refine tot_if (fun hc8 => ?_) (fun hc8 => ?_)
          · refine tot_bd (t_x10_usesOfFact hN hk.1) (fun r9 σ10 hp9 => ?_)
            have hk9 := kp_tr hk hp9
            exact tot_some hk9
          · refine tot_if (fun hc10 => ?_) (fun hc10 => ?_)
            · refine tot_bd (t_x10_usesOfFact hN hk.1) (fun r12 σ13 hp11 => ?_)
              have hk11 := kp_tr hk hp11
              exact tot_some hk11
            · exact tot_some hk
