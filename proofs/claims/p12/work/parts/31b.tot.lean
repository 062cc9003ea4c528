set_option maxHeartbeats 4000000 in
set_option maxRecDepth 100000 in
theorem t_x4_readComparison_39 {N : Nat} (hN : 8589934592 ≤ N) {σ : St} {t1 : Int32} (hC : CP σ) : Tot (x4_readComparison_39 N σ t1) (fun r σ' => Kp σ σ' ∧ isb r = true) := by
  have hk := kp_rf hC
  unfold x4_readComparison_39
  refine tot_bd (t_x4_take hN hk.1) (fun r6 σ7 hp1 => ?_)
  have hb_r6 := hp1.2
  have hk1 := kp_tr hk hp1.1
  refine tot_if (fun hc2 => ?_) (fun hc2 => ?_)
  · exact tot_some ⟨hk1, rfl⟩
  · refine tot_bd (t_x4_take hN hk1.1) (fun r8 σ9 hp3 => ?_)
    have hb_r8 := hp3.2
    have hk3 := kp_tr hk1 hp3.1
    refine tot_if (fun hc4 => ?_) (fun hc4 => ?_)
    · exact tot_some ⟨hk3, rfl⟩
    · exact tot_some ⟨hk3, rfl⟩
set_option maxHeartbeats 4000000 in
set_option maxRecDepth 100000 in
theorem t_x4_readComparison_24 {N : Nat} (hN : 8589934592 ≤ N) {σ : St} {x2 : Int32} {t0 : Nat} {t1 : Int32} {t2 : Int32} {t3 : Int32} (hC : CP σ) (h_t0 : isCd t0 = true) : Tot (x4_readComparison_24 N σ x2 t0 t1 t2 t3) (fun r σ' => Kp σ σ' ∧ isb r = true) := by
  have hk := kp_rf hC
  unfold x4_readComparison_24
  have hg1 : isCd t0 = true := h_t0
  refine tot_gd hg1 ?_
  refine tot_bd (t_x0_set hN hk.1 hg1) (fun _r2 σ5 hp2 => ?_)
  have hk2 := kp_tr hk hp2
  refine tot_if (fun hc3 => ?_) (fun hc3 => ?_)
  · exact tot_kb hk2 (t_x4_readComparison_39 hN hk2.1)
  · exact tot_kb hk2 (t_x4_readComparison_39 hN hk2.1)
set_option maxHeartbeats 4000000 in
set_option maxRecDepth 100000 in
theorem t_x4_readComparison {N : Nat} (hN : 8589934592 ≤ N) {σ : St} {a1 : Int32} (hC : CP σ) : Tot (x4_readComparison N σ a1) (fun r σ' => Kp σ σ' ∧ isb r = true) := by
  have hk := kp_rf hC
  unfold x4_readComparison
  refine tot_bd (t_x4_seen hN hk.1) (fun r1 σ2 hp1 => ?_)
  have hb_r1 := hp1.2
  have hk1 := kp_id hk hp1.1
  refine tot_if (fun hc2 => ?_) (fun hc2 => ?_)
  · exact tot_kb hk1 (t_x4_readComparison_24 hN hk1.1 (cp_404 hk1.1))
  · exact tot_kb hk1 (t_x4_readComparison_24 hN hk1.1 (cp_404 hk1.1))

set_option maxHeartbeats 4000000 in
set_option maxRecDepth 100000 in
theorem t_x4_readBranch_158 {N : Nat} (hN : 8589934592 ≤ N) {σ : St} {x1 : Int32} {x4 : Int32} (hC : CP σ) : Tot (x4_readBranch_158 N σ x1 x4) (fun r σ' => Kp σ σ' ∧ isb r = true) := by
  have hk := kp_rf hC
  unfold x4_readBranch_158
  refine tot_bd (t_x4_openBlock hN hk.1) (fun r23 σ24 hp1 => ?_)
  have hb_r23 := hp1.2
  have hk1 := kp_tr hk hp1.1
  refine tot_if (fun hc2 => ?_) (fun hc2 => ?_)
  · exact tot_some ⟨hk1, rfl⟩
  · exact tot_some ⟨hk1, rfl⟩
set_option maxHeartbeats 4000000 in
set_option maxRecDepth 100000 in
theorem t_x4_readBranch_48 {N : Nat} (hN : 8589934592 ≤ N) {σ : St} {x1 : Int32} {x2 : Int32} {x3 : Int32} (hC : CP σ) : Tot (x4_readBranch_48 N σ x1 x2 x3) (fun r σ' => Kp σ σ' ∧ isb r = true) := by
  have hk := kp_rf hC
  unfold x4_readBranch_48
  have hg1 : isPr (gP σ 403) = true := (cp_403 hk.1)
  refine tot_gd hg1 ?_
  refine tot_if (fun hc2 => ?_) (fun hc2 => ?_)
  · have hg3 : isCd (gP σ 404) = true := (cp_404 hk.1)
    refine tot_gd hg3 ?_
    refine tot_bd (t_x0_add hN hk.1 hg3) (fun r7 σ8 hp4 => ?_)
    have hk4 := kp_tr hk hp4
    have hg5 : isPr (gP σ8 403) = true := (cp_403 hk4.1)
    refine tot_gd hg5 ?_
    refine tot_bd (t_x3_addTest hN hk4.1 hg5) (fun r10 σ11 hp6 => ?_)
    have hk6 := kp_tr hk4 hp6
    have hg7 : isCd (gP σ8 404) = true := (cp_404 hk4.1)
    refine tot_gd hg7 ?_
    refine tot_bd (t_x0_set hN hk6.1 hg7) (fun _r8 σ14 hp8 => ?_)
    have hk8 := kp_tr hk6 hp8
    have hg9 : isCd (gP σ14 404) = true := (cp_404 hk8.1)
    refine tot_gd hg9 ?_
    refine tot_bd (t_x0_set hN hk8.1 hg9) (fun _r10 σ17 hp10 => ?_)
    have hk10 := kp_tr hk8 hp10
    refine tot_bd (t_x8_letterAt hN hk10.1) (fun r18 σ19 hp11 => ?_)
    have hk11 := kp_id hk10 hp11
    have hg12 : isCd (gP σ17 404) = true := (cp_404 hk10.1)
    refine tot_gd hg12 ?_
    refine tot_bd (t_x0_set hN hk11.1 hg12) (fun _r13 σ22 hp13 => ?_)
    have hk13 := kp_tr hk11 hp13
    refine tot_if (fun hc14 => ?_) (fun hc14 => ?_)
    · refine tot_bd (t_x4_readComparison hN (kp_I hk13 (by decide) (by decide)).1) (fun r25 σ26 hp15 => ?_)
      have hb_r25 := hp15.2
      have hk15 := kp_tr (kp_I hk13 (by decide) (by decide)) hp15.1
      refine tot_if (fun hc16 => ?_) (fun hc16 => ?_)
      · exact tot_some ⟨hk15, rfl⟩
      · exact tot_kb hk15 (t_x4_readBranch_158 hN hk15.1)
    · exact tot_kb (kp_I hk13 (by decide) (by decide)) (t_x4_readBranch_158 hN (kp_I hk13 (by decide) (by decide)).1)
  · refine tot_bd (t_x4_refuse hN hk.1) (fun r27 σ28 hp17 => ?_)
    have hb_r27 := hp17.2
    have hk17 := kp_tr hk hp17.1
    refine tot_gd hb_r27 ?_
    exact tot_some ⟨hk17, hb_r27⟩
set_option maxHeartbeats 4000000 in
set_option maxRecDepth 100000 in
theorem t_x4_readBranch {N : Nat} (hN : 8589934592 ≤ N) {σ : St} {a1 : Int32} (hC : CP σ) : Tot (x4_readBranch N σ a1) (fun r σ' => Kp σ σ' ∧ isb r = true) := by
  have hk := kp_rf hC
  unfold x4_readBranch
  refine tot_bd (t_x4_seen hN (kp_I hk (by decide) (by decide)).1) (fun r1 σ2 hp1 => ?_)
  have hb_r1 := hp1.2
  have hk1 := kp_id (kp_I hk (by decide) (by decide)) hp1.1
  refine tot_bd (t_x8_placeAt hN hk1.1) (fun r3 σ4 hp2 => ?_)
  have hk2 := kp_id hk1 hp2
  refine tot_if (fun hc3 => ?_) (fun hc3 => ?_)
  · refine tot_bd (t_x4_seen hN hk2.1) (fun r29 σ30 hp4 => ?_)
    have hb_r29 := hp4.2
    have hk4 := kp_id hk2 hp4.1
    refine tot_if (fun hc5 => ?_) (fun hc5 => ?_)
    · refine tot_bd (t_x4_refuse hN hk4.1) (fun r31 σ32 hp6 => ?_)
      have hb_r31 := hp6.2
      have hk6 := kp_tr hk4 hp6.1
      refine tot_gd hb_r31 ?_
      exact tot_some ⟨hk6, hb_r31⟩
    · exact tot_kb hk4 (t_x4_readBranch_48 hN hk4.1)
  · exact tot_kb hk2 (t_x4_readBranch_48 hN hk2.1)

set_option maxHeartbeats 4000000 in
set_option maxRecDepth 100000 in
theorem t_x4_readStatement {N : Nat} (hN : 8589934592 ≤ N) {σ : St} (hC : CP σ) : Tot (x4_readStatement N σ) (fun r σ' => Kp σ σ' ∧ isb r = true) := by
  have hk := kp_rf hC
  unfold x4_readStatement
  refine tot_bd (t_x8_kindAt hN hk.1) (fun r1 σ2 hp1 => ?_)
  have hk1 := kp_id hk hp1
  refine tot_if (fun hc2 => ?_) (fun hc2 => ?_)
  · refine tot_bd (t_x4_readPut hN hk1.1) (fun r4 σ5 hp3 => ?_)
    have hb_r4 := hp3.2
    have hk3 := kp_tr hk1 hp3.1
    refine tot_gd hb_r4 ?_
    exact tot_some ⟨hk3, hb_r4⟩
  · refine tot_if (fun hc4 => ?_) (fun hc4 => ?_)
    · have hg5 : isCd (gP σ2 404) = true := (cp_404 hk1.1)
      refine tot_gd hg5 ?_
      refine tot_bd (t_x0_add hN hk1.1 hg5) (fun r8 σ9 hp6 => ?_)
      have hk6 := kp_tr hk1 hp6
      refine tot_bd (t_x4_readCall hN hk6.1) (fun r10 σ11 hp7 => ?_)
      have hb_r10 := hp7.2
      have hk7 := kp_tr hk6 hp7.1
      refine tot_if (fun hc8 => ?_) (fun hc8 => ?_)
      · exact tot_some ⟨hk7, rfl⟩
      · refine tot_bd (t_x4_take hN hk7.1) (fun r12 σ13 hp9 => ?_)
        have hb_r12 := hp9.2
        have hk9 := kp_tr hk7 hp9.1
        refine tot_if (fun hc10 => ?_) (fun hc10 => ?_)
        · exact tot_some ⟨hk9, rfl⟩
        · exact tot_some ⟨hk9, rfl⟩
    · refine tot_if (fun hc11 => ?_) (fun hc11 => ?_)
      · refine tot_bd (t_x4_readBranch hN hk1.1) (fun r15 σ16 hp12 => ?_)
        have hb_r15 := hp12.2
        have hk12 := kp_tr hk1 hp12.1
        refine tot_gd hb_r15 ?_
        exact tot_some ⟨hk12, hb_r15⟩
      · refine tot_if (fun hc13 => ?_) (fun hc13 => ?_)
        · refine tot_bd (t_x4_readBranch hN hk1.1) (fun r18 σ19 hp14 => ?_)
          have hb_r18 := hp14.2
          have hk14 := kp_tr hk1 hp14.1
          refine tot_gd hb_r18 ?_
          exact tot_some ⟨hk14, hb_r18⟩
        · refine tot_if (fun hc15 => ?_) (fun hc15 => ?_)
          · refine tot_bd (t_x4_readReturn hN hk1.1) (fun r21 σ22 hp16 => ?_)
            have hb_r21 := hp16.2
            have hk16 := kp_tr hk1 hp16.1
            refine tot_gd hb_r21 ?_
            exact tot_some ⟨hk16, hb_r21⟩
          · refine tot_bd (t_x8_placeAt hN hk1.1) (fun r23 σ24 hp17 => ?_)
            have hk17 := kp_id hk1 hp17
            refine tot_bd (t_x4_refuse hN hk17.1) (fun r25 σ26 hp18 => ?_)
            have hb_r25 := hp18.2
            have hk18 := kp_tr hk17 hp18.1
            refine tot_gd hb_r25 ?_
            exact tot_some ⟨hk18, hb_r25⟩

set_option maxHeartbeats 4000000 in
set_option maxRecDepth 100000 in
theorem t_x4_checkCalls_93 {N : Nat} (hN : 8589934592 ≤ N) {rec2 : St → Int32 → Option (Unit × St)} {σ : St} {x1 : Int32} (hq2 : ∀ (σ2 : St), CP σ2 → Tot (rec2 σ2 (x1 + 1)) (fun _ σ' => Kp σ2 σ')) (hC : CP σ) : Tot (x4_checkCalls_93 N rec2 σ x1) (fun _ σ' => Kp σ σ') := by
  have hk := kp_rf hC
  unfold x4_checkCalls_93
  exact tot_k hk (hq2 _ hk.1)
set_option maxHeartbeats 4000000 in
set_option maxRecDepth 100000 in
theorem t_x4_checkCalls_77 {N : Nat} (hN : 8589934592 ≤ N) {rec2 : St → Int32 → Option (Unit × St)} {σ : St} {x1 : Int32} (hq2 : ∀ (σ2 : St), CP σ2 → Tot (rec2 σ2 (x1 + 1)) (fun _ σ' => Kp σ2 σ')) (hC : CP σ) : Tot (x4_checkCalls_77 N rec2 σ x1) (fun _ σ' => Kp σ σ') := by
  have hk := kp_rf hC
  unfold x4_checkCalls_77
  have hg1 : isCd (gP σ 404) = true := (cp_404 hk.1)
  refine tot_gd hg1 ?_
  refine tot_bd (t_x0_get hN hk.1 hg1) (fun r11 σ12 hp2 => ?_)
  have hk2 := kp_id hk hp2
  refine tot_bd (t_x4_refuse hN hk2.1) (fun r13 σ14 hp3 => ?_)
  have hb_r13 := hp3.2
  have hk3 := kp_tr hk2 hp3.1
  exact tot_k hk3 (t_x4_checkCalls_93 hN hq2 hk3.1)
set_option maxHeartbeats 4000000 in
set_option maxRecDepth 100000 in
theorem t_x4_checkCalls_2_b {N : Nat} (hN : 8589934592 ≤ N) {rec2 : St → Int32 → Option (Unit × St)} {σ : St} {x1 : Int32} (hr2 : x1.toInt < 2147483647 → ∀ (σ2 : St), CP σ2 → Tot (rec2 σ2 (x1 + 1)) (fun _ σ' => Kp σ2 σ')) (hC : CP σ) : Tot (x4_checkCalls_2_b N rec2 σ x1) (fun _ σ' => Kp σ σ') := by
  have hk := kp_rf hC
  unfold x4_checkCalls_2_b
  have hg1 : isCd (gP σ 404) = true := (cp_404 hk.1)
  refine tot_gd hg1 ?_
  refine tot_if (fun hc2 => ?_) (fun hc2 => ?_)
  · exact tot_some hk
  · have hq2 := hr2 (lt_mx hc2)
    refine tot_if (fun hc3 => ?_) (fun hc3 => ?_)
    · refine tot_bd (t_x0_get hN hk.1 hg1) (fun r2 σ3 hp4 => ?_)
      have hk4 := kp_id hk hp4
      refine tot_if (fun hc5 => ?_) (fun hc5 => ?_)
      · have hg6 : isCd (gP σ3 404) = true := (cp_404 hk4.1)
        refine tot_gd hg6 ?_
        refine tot_bd (t_x0_get hN hk4.1 hg6) (fun r5 σ6 hp7 => ?_)
        have hk7 := kp_id hk4 hp7
        have hg8 : isPr (gP σ6 403) = true := (cp_403 hk7.1)
        refine tot_gd hg8 ?_
        refine tot_bd (t_x3_has hN hk7.1 hg8) (fun r8 σ9 hp9 => ?_)
        have hb_r8 := hp9.2
        have hk9 := kp_id hk7 hp9.1
        refine tot_if (fun hc10 => ?_) (fun hc10 => ?_)
        · exact tot_k hk9 (t_x4_checkCalls_77 hN hq2 hk9.1)
        · have hg11 : isPr (gP σ9 403) = true := (cp_403 hk9.1)
          refine tot_gd hg11 ?_
          refine tot_bd (t_x5_at hN hk9.1 (pr_ia2 hg11)) (fun r16 σ17 hp12 => ?_)
          have hk12 := kp_id hk9 hp12
          have hg13 : isCd (gP σ17 404) = true := (cp_404 hk12.1)
          refine tot_gd hg13 ?_
          refine tot_bd (t_x0_arguments hN hk12.1 hg13) (fun r19 σ20 hp14 => ?_)
          have hk14 := kp_id hk12 hp14
          refine tot_if (fun hc15 => ?_) (fun hc15 => ?_)
          · exact tot_k hk14 (t_x4_checkCalls_93 hN hq2 hk14.1)
          · exact tot_k hk14 (t_x4_checkCalls_77 hN hq2 hk14.1)
      · exact tot_k hk4 (t_x4_checkCalls_93 hN hq2 hk4.1)
    · exact tot_some hk
set_option maxHeartbeats 4000000 in
set_option maxRecDepth 100000 in
theorem t_x4_checkCalls_2 {N : Nat} (hN : 8589934592 ≤ N) : ∀ (n : Nat) (σ : St) (x1 : Int32), True → CP σ → (2147483648 - x1.toInt).toNat < n → Tot (x4_checkCalls_2 N n σ x1) (fun _ σ' => Kp σ σ') := by
  intro n
  induction n with
  | zero => intro σ x1 _ hC hm; exact absurd hm (Nat.not_lt_zero _)
  | succ n ih => intro σ x1 _ hC hm; exact t_x4_checkCalls_2_b hN (fun hlt σ2 hC2 => ih σ2 (x1 + 1) trivial hC2 (m_succ hlt hm)) hC
set_option maxHeartbeats 4000000 in
set_option maxRecDepth 100000 in
theorem t_x4_checkCalls {N : Nat} (hN : 8589934592 ≤ N) {σ : St} (hC : CP σ) : Tot (x4_checkCalls N σ) (fun _ σ' => Kp σ σ') := by
  have hk := kp_rf hC
  unfold x4_checkCalls
  exact tot_k hk (t_x4_checkCalls_2 hN N _ 0 trivial hk.1 (m_N hN))

set_option maxHeartbeats 4000000 in
set_option maxRecDepth 100000 in
theorem t_x4_readInto_110 {N : Nat} (hN : 8589934592 ≤ N) {σ : St} (hC : CP σ) : Tot (x4_readInto_110 N σ) (fun _ σ' => Kp σ σ') := by
  have hk := kp_rf hC
  unfold x4_readInto_110
  refine tot_if (fun hc1 => ?_) (fun hc1 => ?_)
  · refine tot_bd (t_x4_checkCalls hN hk.1) (fun _r2 σ5 hp2 => ?_)
    have hk2 := kp_tr hk hp2
    exact tot_some hk2
  · exact tot_some hk
set_option maxHeartbeats 4000000 in
set_option maxRecDepth 100000 in
theorem t_x4_readInto_104 {N : Nat} (hN : 8589934592 ≤ N) {rec39 : St → Int32 → Option (Unit × St)} {σ : St} {x2 : Int32} (hq39 : ∀ (σ2 : St), CP σ2 → Tot (rec39 σ2 (x2 + 1)) (fun _ σ' => Kp σ2 σ')) (hC : CP σ) : Tot (x4_readInto_104 N rec39 σ x2) (fun _ σ' => Kp σ σ') := by
  have hk := kp_rf hC
  unfold x4_readInto_104
  exact tot_k hk (hq39 _ hk.1)
set_option maxHeartbeats 4000000 in
set_option maxRecDepth 100000 in
theorem t_x4_readInto_68 {N : Nat} (hN : 8589934592 ≤ N) {rec39 : St → Int32 → Option (Unit × St)} {σ : St} {x2 : Int32} (hq39 : ∀ (σ2 : St), CP σ2 → Tot (rec39 σ2 (x2 + 1)) (fun _ σ' => Kp σ2 σ')) (hC : CP σ) : Tot (x4_readInto_68 N rec39 σ x2) (fun _ σ' => Kp σ σ') := by
  have hk := kp_rf hC
  unfold x4_readInto_68
  refine tot_if (fun hc1 => ?_) (fun hc1 => ?_)
  · refine tot_bd (t_x4_readHead hN hk.1) (fun r12 σ13 hp2 => ?_)
    have hb_r12 := hp2.2
    have hk2 := kp_tr hk hp2.1
    exact tot_k hk2 (t_x4_readInto_104 hN hq39 hk2.1)
  · refine tot_bd (t_x4_seen hN hk.1) (fun r6 σ7 hp3 => ?_)
    have hb_r6 := hp3.2
    have hk3 := kp_id hk hp3.1
    refine tot_if (fun hc4 => ?_) (fun hc4 => ?_)
    · refine tot_bd (t_x4_readStatement hN hk3.1) (fun r8 σ9 hp5 => ?_)
      have hb_r8 := hp5.2
      have hk5 := kp_tr hk3 hp5.1
      exact tot_k hk5 (t_x4_readInto_104 hN hq39 hk5.1)
    · refine tot_bd (t_x4_closeBlock hN hk3.1) (fun _r6 σ11 hp6 => ?_)
      have hk6 := kp_tr hk3 hp6
      exact tot_k hk6 (t_x4_readInto_104 hN hq39 hk6.1)
set_option maxHeartbeats 4000000 in
set_option maxRecDepth 100000 in
theorem t_x4_readInto_39_b {N : Nat} (hN : 8589934592 ≤ N) {rec39 : St → Int32 → Option (Unit × St)} {σ : St} {x2 : Int32} (hr39 : x2.toInt < 2147483647 → ∀ (σ2 : St), CP σ2 → Tot (rec39 σ2 (x2 + 1)) (fun _ σ' => Kp σ2 σ')) (hC : CP σ) : Tot (x4_readInto_39_b N rec39 σ x2) (fun _ σ' => Kp σ σ') := by
  have hk := kp_rf hC
  unfold x4_readInto_39_b
  refine tot_if (fun hc1 => ?_) (fun hc1 => ?_)
  · exact tot_k hk (t_x4_readInto_110 hN hk.1)
  · have hq39 := hr39 (lt_mx2 hc1 (by decide))
    refine tot_if (fun hc2 => ?_) (fun hc2 => ?_)
    · refine tot_if (fun hc3 => ?_) (fun hc3 => ?_)
      · exact tot_k hk (t_x4_readInto_68 hN hq39 hk.1)
      · refine tot_bd (t_x4_seen hN hk.1) (fun r14 σ15 hp4 => ?_)
        have hb_r14 := hp4.2
        have hk4 := kp_id hk hp4.1
        refine tot_if (fun hc5 => ?_) (fun hc5 => ?_)
        · exact tot_k hk4 (t_x4_readInto_68 hN hq39 hk4.1)
        · exact tot_k hk4 (t_x4_readInto_110 hN hk4.1)
    · exact tot_k hk (t_x4_readInto_110 hN hk.1)
set_option maxHeartbeats 4000000 in
set_option maxRecDepth 100000 in
theorem t_x4_readInto_39 {N : Nat} (hN : 8589934592 ≤ N) : ∀ (n : Nat) (σ : St) (x2 : Int32), True → CP σ → (2147483648 - x2.toInt).toNat < n → Tot (x4_readInto_39 N n σ x2) (fun _ σ' => Kp σ σ') := by
  intro n
  induction n with
  | zero => intro σ x2 _ hC hm; exact absurd hm (Nat.not_lt_zero _)
  | succ n ih => intro σ x2 _ hC hm; exact t_x4_readInto_39_b hN (fun hlt σ2 hC2 => ih σ2 (x2 + 1) trivial hC2 (m_succ hlt hm)) hC
set_option maxHeartbeats 4000000 in
set_option maxRecDepth 100000 in
theorem t_x4_readInto {N : Nat} (hN : 8589934592 ≤ N) {σ : St} {a1 : Nat} (hC : CP σ) (h_a1 : isPr a1 = true) : Tot (x4_readInto N σ a1) (fun _ σ' => Kp σ σ') := by
  have hk := kp_rf hC
  unfold x4_readInto
  have hg1 : isPr a1 = true := h_a1
  refine tot_gd hg1 ?_
  refine tot_bd (t_x3_clear hN (kp_P (k := 404) (v := a1 + 1) (kp_P (k := 403) (v := a1) hk hg1) (isCd_of hg1)).1 hg1) (fun _r2 σ3 hp2 => ?_)
  have hk2 := kp_tr (kp_P (k := 404) (v := a1 + 1) (kp_P (k := 403) (v := a1) hk hg1) (isCd_of hg1)) hp2
  exact tot_k (kp_I (kp_I (kp_I (kp_I hk2 (by decide) (by decide)) (by decide) (by decide)) (by decide) (by decide)) (by decide) (by decide)) (t_x4_readInto_39 hN N _ 0 trivial (kp_I (kp_I (kp_I (kp_I hk2 (by decide) (by decide)) (by decide) (by decide)) (by decide) (by decide)) (by decide) (by decide)).1 (m_N hN))

set_option maxHeartbeats 4000000 in
set_option maxRecDepth 100000 in
theorem t_x6_clearNames_2_b {N : Nat} (hN : 8589934592 ≤ N) {rec2 : St → Int32 → Option (Unit × St)} {σ : St} {x1 : Int32} (hr2 : x1.toInt < 2147483647 → ∀ (σ2 : St), CP σ2 → Tot (rec2 σ2 (x1 + 1)) (fun _ σ' => Kp σ2 σ')) (hC : CP σ) : Tot (x6_clearNames_2_b N rec2 σ x1) (fun _ σ' => Kp σ σ') := by
  have hk := kp_rf hC
  unfold x6_clearNames_2_b
  refine tot_if (fun hc1 => ?_) (fun hc1 => ?_)
  · exact tot_some hk
  · have hq2 := hr2 (lt_mx hc1)
    refine tot_bd (t_x5_put hN hk.1 ia_16) (fun _r2 σ2 hp2 => ?_)
    have hk2 := kp_tr hk hp2
    exact tot_k hk2 (hq2 _ hk2.1)
set_option maxHeartbeats 4000000 in
set_option maxRecDepth 100000 in
theorem t_x6_clearNames_2 {N : Nat} (hN : 8589934592 ≤ N) : ∀ (n : Nat) (σ : St) (x1 : Int32), True → CP σ → (2147483648 - x1.toInt).toNat < n → Tot (x6_clearNames_2 N n σ x1) (fun _ σ' => Kp σ σ') := by
  intro n
  induction n with
  | zero => intro σ x1 _ hC hm; exact absurd hm (Nat.not_lt_zero _)
  | succ n ih => intro σ x1 _ hC hm; exact t_x6_clearNames_2_b hN (fun hlt σ2 hC2 => ih σ2 (x1 + 1) trivial hC2 (m_succ hlt hm)) hC
set_option maxHeartbeats 4000000 in
set_option maxRecDepth 100000 in
theorem t_x6_clearNames {N : Nat} (hN : 8589934592 ≤ N) {σ : St} (hC : CP σ) : Tot (x6_clearNames N σ) (fun _ σ' => Kp σ σ') := by
  have hk := kp_rf hC
  unfold x6_clearNames
  exact tot_k hk (t_x6_clearNames_2 hN N _ 0 trivial hk.1 (m_N hN))

set_option maxHeartbeats 4000000 in
set_option maxRecDepth 100000 in
theorem t_x6_make {N : Nat} (hN : 8589934592 ≤ N) {σ : St} {a1 : Int32} {a2 : Int32} (hC : CP σ) : Tot (x6_make N σ a1 a2) (fun _ σ' => Kp σ σ') := by
  have hk := kp_rf hC
  unfold x6_make
  refine tot_if (fun hc1 => ?_) (fun hc1 => ?_)
  · refine tot_bd (t_x5_put hN (kp_I hk (by decide) (by decide)).1 ia_18) (fun _r2 σ2 hp2 => ?_)
    have hk2 := kp_tr (kp_I hk (by decide) (by decide)) hp2
    refine tot_bd (t_x5_put hN hk2.1 ia_18) (fun _r3 σ4 hp3 => ?_)
    have hk3 := kp_tr hk2 hp3
    exact tot_some hk3
  · exact tot_some (kp_I hk (by decide) (by decide))

set_option maxHeartbeats 4000000 in
set_option maxRecDepth 100000 in
theorem t_x6_makeLoop {N : Nat} (hN : 8589934592 ≤ N) {σ : St} (hC : CP σ) : Tot (x6_makeLoop N σ) (fun _ σ' => Kp σ σ') := by
  have hk := kp_rf hC
  unfold x6_makeLoop
  refine tot_bd (t_x6_make hN hk.1) (fun r1 σ2 hp1 => ?_)
  have hk1 := kp_tr hk hp1
  exact tot_some hk1

set_option maxHeartbeats 4000000 in
set_option maxRecDepth 100000 in
theorem t_x6_setName {N : Nat} (hN : 8589934592 ≤ N) {σ : St} {a1 : Int32} {a2 : Int32} (hC : CP σ) : Tot (x6_setName N σ a1 a2) (fun _ σ' => Kp σ σ') := by
  have hk := kp_rf hC
  unfold x6_setName
  refine tot_bd (t_x5_put hN hk.1 ia_16) (fun _r1 σ2 hp1 => ?_)
  have hk1 := kp_tr hk hp1
  exact tot_some hk1

set_option maxHeartbeats 4000000 in
set_option maxRecDepth 100000 in
theorem b_x6_begin_132 {N : Nat} (hN : 8589934592 ≤ N) {σ : St} (hC : CP σ) : Tot (x6_begin_132 N σ) (fun _ σ' => Kp σ σ') := by
  have hk := kp_rf hC
  unfold x6_begin_132
  have hg1 : isPr (gP σ 1504) = true := (cp_1504 hk.1)
  refine tot_gd hg1 ?_
  refine tot_bd (t_x5_at hN hk.1 (pr_ia1 hg1)) (fun r7 σ8 hp2 => ?_)
  have hk2 := kp_id hk hp2
  exact tot_some (kp_I hk2 (by decide) (by decide))
set_option maxHeartbeats 4000000 in
set_option maxRecDepth 100000 in
theorem b_x6_begin_123 {N : Nat} (hN : 8589934592 ≤ N) {rec68 : St → Int32 → Int32 → Option (Unit × St)} {σ : St} {x1 : Int32} {x3 : Int32} {t1 : Int32} {t2 : Int32} (hq68 : ∀ (σ2 : St), CP σ2 → Tot (rec68 σ2 x1 (x3 + 1)) (fun _ σ' => Kp σ2 σ')) (hC : CP σ) : Tot (x6_begin_123 N rec68 σ x1 x3 t1 t2) (fun _ σ' => Kp σ σ') := by
  have hk := kp_rf hC
  unfold x6_begin_123
  refine tot_bd (t_x6_setName hN hk.1) (fun _r1 σ13 hp1 => ?_)
  have hk1 := kp_tr hk hp1
  exact tot_k hk1 (hq68 _ hk1.1)
set_option maxHeartbeats 4000000 in
set_option maxRecDepth 100000 in
theorem b_x6_begin_92 {N : Nat} (hN : 8589934592 ≤ N) {rec68 : St → Int32 → Int32 → Option (Unit × St)} {σ : St} {x1 : Int32} {x3 : Int32} {t0 : Int32} (hq68 : ∀ (σ2 : St), CP σ2 → Tot (rec68 σ2 x1 (x3 + 1)) (fun _ σ' => Kp σ2 σ')) (hC : CP σ) : Tot (x6_begin_92 N rec68 σ x1 x3 t0) (fun _ σ' => Kp σ σ') := by
  have hk := kp_rf hC
  unfold x6_begin_92
  have hg1 : isPr (gP σ 1504) = true := (cp_1504 hk.1)
  refine tot_gd hg1 ?_
  refine tot_bd (t_x3_parameter hN hk.1 hg1) (fun r10 σ11 hp2 => ?_)
  have hk2 := kp_id hk hp2
  refine tot_if (fun hc3 => ?_) (fun hc3 => ?_)
  · exact tot_k hk2 (b_x6_begin_123 hN hq68 hk2.1)
  · refine tot_bd (t_x6_makeLoop hN hk2.1) (fun r14 σ15 hp4 => ?_)
    have hk4 := kp_tr hk2 hp4
    exact tot_k hk4 (b_x6_begin_123 hN hq68 hk4.1)
set_option maxHeartbeats 4000000 in
set_option maxRecDepth 100000 in
theorem b_x6_begin_68_b {N : Nat} (hN : 8589934592 ≤ N) {rec68 : St → Int32 → Int32 → Option (Unit × St)} {σ : St} {x1 : Int32} {x3 : Int32} (hr68 : x3.toInt < 2147483647 → ∀ (σ2 : St), CP σ2 → Tot (rec68 σ2 x1 (x3 + 1)) (fun _ σ' => Kp σ2 σ')) (hC : CP σ) : Tot (x6_begin_68_b N rec68 σ x1 x3) (fun _ σ' => Kp σ σ') := by
  have hk := kp_rf hC
  unfold x6_begin_68_b
  refine tot_bd (t_x7_outers hN hk.1) (fun r4 σ5 hp1 => ?_)
  have hk1 := kp_id hk hp1
  refine tot_if (fun hc2 => ?_) (fun hc2 => ?_)
  · exact tot_k hk1 (b_x6_begin_132 hN hk1.1)
  · have hq68 := hr68 (lt_mx hc2)
    refine tot_if (fun hc3 => ?_) (fun hc3 => ?_)
    · exact tot_k hk1 (b_x6_begin_92 hN hq68 hk1.1)
    · exact tot_k hk1 (b_x6_begin_92 hN hq68 hk1.1)
set_option maxHeartbeats 4000000 in
set_option maxRecDepth 100000 in
theorem b_x6_begin_68 {N : Nat} (hN : 8589934592 ≤ N) : ∀ (n : Nat) (σ : St) (x1 : Int32) (x3 : Int32), True → CP σ → (2147483648 - x3.toInt).toNat < n → Tot (x6_begin_68 N n σ x1 x3) (fun _ σ' => Kp σ σ') := by
  intro n
  induction n with
  | zero => intro σ x1 x3 _ hC hm; exact absurd hm (Nat.not_lt_zero _)
  | succ n ih => intro σ x1 x3 _ hC hm; exact b_x6_begin_68_b hN (fun hlt σ2 hC2 => ih σ2 x1 (x3 + 1) trivial hC2 (m_succ hlt hm)) hC
/-- a run has begun: no any is met -/
def KB (σ σ' : St) : Prop := CP σ' ∧ gI σ' 1 = gI σ 1 ∧ gI σ' 1509 = 0
theorem t_x6_begin {N : Nat} (hN : 8589934592 ≤ N) {σ : St} {a1 a2 : Int32} (hC : CP σ) : Tot (x6_begin N σ a1 a2) (fun _ σ' => KB σ σ') := by
  unfold x6_begin
  have h7 := cp_700 hC
  have hC1 : CP (sP (sP σ 1504 (gP σ 700)) 1505 ((gP σ 700) + 1)) := cp_P (cp_P hC h7) (isCd_of h7)
  refine tot_gd h7 ?_
  refine tot_bd (t_x6_clearNames hN (σ := (sI (sI (sI (sI (sI (sI (sI (sI (sP (sP σ 1504 (gP σ 700)) 1505 ((gP σ 700) + 1)) 1506 a2) 1507 0) 1508 0) 1509 0) 1510 (-1)) 1511 (-1)) 1513 0) 1515 0)) hC1) (fun _ σ3 hp => ?_)
  have h1 : gI σ3 1 = gI σ 1 := hp.2.1.trans rfl
  have h2 : gI σ3 1509 = 0 := hp.2.2.trans rfl
  have hl := b_x6_begin_68 hN N σ3 a1 0 trivial hp.1 (m_N hN)
  exact hl.mono (fun _ σ' q => ⟨q.1, q.2.1.trans h1, q.2.2.trans h2⟩)

set_option maxHeartbeats 4000000 in
set_option maxRecDepth 100000 in
theorem t_x6_leave {N : Nat} (hN : 8589934592 ≤ N) {σ : St} {a1 : Int32} (hC : CP σ) : Tot (x6_leave N σ a1) (fun _ σ' => Kp σ σ') := by
  have hk := kp_rf hC
  unfold x6_leave
  refine tot_if (fun hc1 => ?_) (fun hc1 => ?_)
  · refine tot_if (fun hc2 => ?_) (fun hc2 => ?_)
    · exact tot_some (kp_I hk (by decide) (by decide))
    · exact tot_some (kp_I hk (by decide) (by decide))
  · refine tot_bd (t_x5_at hN (kp_I hk (by decide) (by decide)).1 ia_17) (fun r1 σ2 hp3 => ?_)
    have hk3 := kp_id (kp_I hk (by decide) (by decide)) hp3
    exact tot_some (kp_I (kp_I (kp_I hk3 (by decide) (by decide)) (by decide) (by decide)) (by decide) (by decide))

set_option maxHeartbeats 4000000 in
set_option maxRecDepth 100000 in
theorem t_x6_nameOf {N : Nat} (hN : 8589934592 ≤ N) {σ : St} {a1 : Int32} (hC : CP σ) : Tot (x6_nameOf N σ a1) (fun _ σ' => Id0 σ σ') := by
  have hk := id_rf hC
  unfold x6_nameOf
  refine tot_bd (t_x5_at hN hk.2 ia_16) (fun r1 σ2 hp1 => ?_)
  have hk1 := id_tr hk hp1
  exact tot_some hk1

set_option maxHeartbeats 4000000 in
set_option maxRecDepth 100000 in
theorem t_x6_store {N : Nat} (hN : 8589934592 ≤ N) {σ : St} {a1 : Int32} (hC : CP σ) : Tot (x6_store N σ a1) (fun _ σ' => Kp σ σ') := by
  have hk := kp_rf hC
  unfold x6_store
  refine tot_if (fun hc1 => ?_) (fun hc1 => ?_)
  · have hg2 : isCd (gP σ 1505) = true := (cp_1505 hk.1)
    refine tot_gd hg2 ?_
    refine tot_bd (t_x0_get hN (kp_I hk (by decide) (by decide)).1 hg2) (fun r7 σ8 hp3 => ?_)
    have hk3 := kp_id (kp_I hk (by decide) (by decide)) hp3
    exact tot_some (kp_I hk3 (by decide) (by decide))
  · have hg4 : isCd (gP σ 1505) = true := (cp_1505 hk.1)
    refine tot_gd hg4 ?_
    refine tot_bd (t_x0_get hN hk.1 hg4) (fun r2 σ3 hp5 => ?_)
    have hk5 := kp_id hk hp5
    refine tot_bd (t_x5_put hN hk5.1 ia_18) (fun _r6 σ5 hp6 => ?_)
    have hk6 := kp_tr hk5 hp6
    exact tot_some hk6

set_option maxHeartbeats 4000000 in
set_option maxRecDepth 100000 in
theorem t_x6_finish {N : Nat} (hN : 8589934592 ≤ N) {σ : St} (hC : CP σ) : Tot (x6_finish N σ) (fun _ σ' => Kp σ σ') := by
  have hk := kp_rf hC
  unfold x6_finish
  have hg1 : isCd (gP σ 1505) = true := (cp_1505 hk.1)
  refine tot_gd hg1 ?_
  refine tot_bd (t_x0_get hN (kp_I hk (by decide) (by decide)).1 hg1) (fun r2 σ3 hp2 => ?_)
  have hk2 := kp_id (kp_I hk (by decide) (by decide)) hp2
  have hg3 : isCd (gP σ3 1505) = true := (cp_1505 hk2.1)
  refine tot_gd hg3 ?_
  refine tot_bd (t_x0_get hN hk2.1 hg3) (fun r5 σ6 hp4 => ?_)
  have hk4 := kp_id hk2 hp4
  refine tot_if (fun hc5 => ?_) (fun hc5 => ?_)
  · refine tot_bd (t_x6_leave hN hk4.1) (fun _r6 σ14 hp6 => ?_)
    have hk6 := kp_tr hk4 hp6
    exact tot_some hk6
  · refine tot_if (fun hc7 => ?_) (fun hc7 => ?_)
    · refine tot_bd (t_x6_setName hN hk4.1) (fun _r8 σ12 hp8 => ?_)
      have hk8 := kp_tr hk4 hp8
      exact tot_some (kp_I hk8 (by decide) (by decide))
    · refine tot_if (fun hc9 => ?_) (fun hc9 => ?_)
      · refine tot_bd (t_x6_nameOf hN hk4.1) (fun r7 σ8 hp10 => ?_)
        have hk10 := kp_id hk4 hp10
        refine tot_bd (t_x6_store hN hk10.1) (fun _r11 σ10 hp11 => ?_)
        have hk11 := kp_tr hk10 hp11
        exact tot_some (kp_I hk11 (by decide) (by decide))
      · exact tot_some (kp_I hk4 (by decide) (by decide))

set_option maxHeartbeats 4000000 in
set_option maxRecDepth 100000 in
theorem t_j_floorMod {N : Nat} (hN : 8589934592 ≤ N) {σ : St} {a1 : Int32} {a2 : Int32} (hC : CP σ) (h_a2 : ¬ a2 = 0) : Tot (j_floorMod N σ a1 a2) (fun _ σ' => Id0 σ σ') := by
  have hk := id_rf hC
  unfold j_floorMod
  refine tot_gd (decide_eq_true h_a2) ?_
  refine tot_if (fun hc1 => ?_) (fun hc1 => ?_)
  · exact tot_some hk
  · refine tot_if (fun hc2 => ?_) (fun hc2 => ?_)
    · exact tot_some hk
    · exact tot_some hk

theorem t_x6_choose {N : Nat} (hN : 8589934592 ≤ N) {σ : St} (hC : CP σ) : Tot (x6_choose N σ) (fun r σ' => K1 σ σ' ∧ isb r = true) := by
  unfold x6_choose
  refine tot_bd (t_j_floorMod hN hC (by decide)) (fun r1 σ2 hp => ?_)
  obtain ⟨rfl, hC2⟩ := hp
  refine tot_if (fun _ => tot_some ⟨⟨hC, gI_ne (by decide), Or.inr gI_eq⟩, rfl⟩) (fun _ => tot_some ⟨⟨hC, gI_ne (by decide), Or.inr gI_eq⟩, rfl⟩)

set_option maxHeartbeats 4000000 in
set_option maxRecDepth 100000 in
theorem t_x6_holds_60 {N : Nat} (hN : 8589934592 ≤ N) {σ : St} {t0 : Int32} {t1 : Int32} (hC : CP σ) : Tot (x6_holds_60 N σ t0 t1) (fun r σ' => Id0 σ σ' ∧ isb r = true) := by
  have hk := id_rf hC
  unfold x6_holds_60
  refine tot_if (fun hc1 => ?_) (fun hc1 => ?_)
  · exact tot_some ⟨hk, rfl⟩
  · exact tot_some ⟨hk, rfl⟩
set_option maxHeartbeats 4000000 in
set_option maxRecDepth 100000 in
theorem t_x6_holds_47 {N : Nat} (hN : 8589934592 ≤ N) {σ : St} {x1 : Int32} {t0 : Int32} (hC : CP σ) : Tot (x6_holds_47 N σ x1 t0) (fun r σ' => Id0 σ σ' ∧ isb r = true) := by
  have hk := id_rf hC
  unfold x6_holds_47
  refine tot_if (fun hc1 => ?_) (fun hc1 => ?_)
  · exact tot_ib hk (t_x6_holds_60 hN hk.2)
  · exact tot_ib hk (t_x6_holds_60 hN hk.2)
set_option maxHeartbeats 4000000 in
set_option maxRecDepth 100000 in
theorem t_x6_holds {N : Nat} (hN : 8589934592 ≤ N) {σ : St} (hC : CP σ) : Tot (x6_holds N σ) (fun r σ' => K1 σ σ' ∧ isb r = true) := by
  have hk := kp_rf hC
  unfold x6_holds
  have hg1 : isCd (gP σ 1505) = true := (cp_1505 hk.1)
  refine tot_gd hg1 ?_
  refine tot_bd (t_x0_get hN hk.1 hg1) (fun r2 σ3 hp2 => ?_)
  have hk2 := kp_id hk hp2
  refine tot_if (fun hc3 => ?_) (fun hc3 => ?_)
  · refine tot_bd (t_x6_choose hN hk2.1) (fun r9 σ10 hp4 => ?_)
    have hb_r9 := hp4.2
    have hk4 := k1_r hk2 hp4.1
    refine tot_gd hb_r9 ?_
    exact tot_some ⟨hk4, hb_r9⟩
  · have hg5 : isCd (gP σ3 1505) = true := (cp_1505 hk2.1)
    refine tot_gd hg5 ?_
    refine tot_bd (t_x0_get hN hk2.1 hg5) (fun r5 σ6 hp6 => ?_)
    have hk6 := kp_id hk2 hp6
    refine tot_bd (t_x6_nameOf hN hk6.1) (fun r7 σ8 hp7 => ?_)
    have hk7 := kp_id hk6 hp7
    refine tot_if (fun hc8 => ?_) (fun hc8 => ?_)
    · exact (t_x6_holds_47 hN hk7.1).mono (fun _ _ q => ⟨(k1_of (kp_id hk7 q.1)), q.2⟩)
    · exact (t_x6_holds_47 hN hk7.1).mono (fun _ _ q => ⟨(k1_of (kp_id hk7 q.1)), q.2⟩)

set_option maxHeartbeats 4000000 in
set_option maxRecDepth 100000 in
theorem t_x6_fieldOf {N : Nat} (hN : 8589934592 ≤ N) {σ : St} {a1 : Int32} {a2 : Int32} (hC : CP σ) : Tot (x6_fieldOf N σ a1 a2) (fun _ σ' => Kp σ σ') := by
  have hk := kp_rf hC
  unfold x6_fieldOf
  refine tot_if (fun hc1 => ?_) (fun hc1 => ?_)
  · have hg2 : isCd (gP σ 1505) = true := (cp_1505 hk.1)
    refine tot_gd hg2 ?_
    refine tot_bd (t_x0_get hN (kp_I hk (by decide) (by decide)).1 hg2) (fun r4 σ5 hp3 => ?_)
    have hk3 := kp_id (kp_I hk (by decide) (by decide)) hp3
    exact tot_some (kp_I hk3 (by decide) (by decide))
  · refine tot_bd (t_x5_at hN hk.1 ia_18) (fun r1 σ2 hp4 => ?_)
    have hk4 := kp_id hk hp4
    exact tot_some hk4

set_option maxHeartbeats 4000000 in
set_option maxRecDepth 100000 in
theorem t_x6_enter_113 {N : Nat} (hN : 8589934592 ≤ N) {σ : St} {x1 : Int32} (hC : CP σ) : Tot (x6_enter_113 N σ x1) (fun _ σ' => Kp σ σ') := by
  have hk := kp_rf hC
  unfold x6_enter_113
  have hg1 : isPr (gP σ 1504) = true := (cp_1504 hk.1)
  refine tot_gd hg1 ?_
  refine tot_bd (t_x5_at hN hk.1 (pr_ia1 hg1)) (fun r9 σ10 hp2 => ?_)
  have hk2 := kp_id hk hp2
  exact tot_some (kp_I (kp_I hk2 (by decide) (by decide)) (by decide) (by decide))
set_option maxHeartbeats 4000000 in
set_option maxRecDepth 100000 in
theorem t_x6_enter_51_b {N : Nat} (hN : 8589934592 ≤ N) {rec51 : St → Int32 → Int32 → Int32 → Option (Unit × St)} {σ : St} {x1 : Int32} {x2 : Int32} {x3 : Int32} (hr51 : x3.toInt < 2147483647 → ∀ (σ2 : St), CP σ2 → Tot (rec51 σ2 x1 x2 (x3 + 1)) (fun _ σ' => Kp σ2 σ')) (hC : CP σ) : Tot (x6_enter_51_b N rec51 σ x1 x2 x3) (fun _ σ' => Kp σ σ') := by
  have hk := kp_rf hC
  unfold x6_enter_51_b
  have hg1 : isCd (gP σ 1505) = true := (cp_1505 hk.1)
  refine tot_gd hg1 ?_
  refine tot_bd (t_x0_arguments hN hk.1 hg1) (fun r6 σ7 hp2 => ?_)
  have hk2 := kp_id hk hp2
  refine tot_if (fun hc3 => ?_) (fun hc3 => ?_)
  · exact tot_k hk2 (t_x6_enter_113 hN hk2.1)
  · have hq51 := hr51 (lt_mx hc3)
    have hg4 : isCd (gP σ7 1505) = true := (cp_1505 hk2.1)
    refine tot_gd hg4 ?_
    refine tot_bd (t_x0_argument hN hk2.1 hg4) (fun r12 σ13 hp5 => ?_)
    have hk5 := kp_id hk2 hp5
    refine tot_bd (t_x5_at hN hk5.1 ia_16) (fun r14 σ15 hp6 => ?_)
    have hk6 := kp_id hk5 hp6
    have hg7 : isPr (gP σ15 1504) = true := (cp_1504 hk6.1)
    refine tot_gd hg7 ?_
    refine tot_bd (t_x3_parameter hN hk6.1 hg7) (fun r17 σ18 hp8 => ?_)
    have hk8 := kp_id hk6 hp8
    refine tot_bd (t_x6_setName hN hk8.1) (fun _r9 σ20 hp9 => ?_)
    have hk9 := kp_tr hk8 hp9
    exact tot_k hk9 (hq51 _ hk9.1)
set_option maxHeartbeats 4000000 in
set_option maxRecDepth 100000 in
theorem t_x6_enter_51 {N : Nat} (hN : 8589934592 ≤ N) : ∀ (n : Nat) (σ : St) (x1 : Int32) (x2 : Int32) (x3 : Int32), True → CP σ → (2147483648 - x3.toInt).toNat < n → Tot (x6_enter_51 N n σ x1 x2 x3) (fun _ σ' => Kp σ σ') := by
  intro n
  induction n with
  | zero => intro σ x1 x2 x3 _ hC hm; exact absurd hm (Nat.not_lt_zero _)
  | succ n ih => intro σ x1 x2 x3 _ hC hm; exact t_x6_enter_51_b hN (fun hlt σ2 hC2 => ih σ2 x1 x2 (x3 + 1) trivial hC2 (m_succ hlt hm)) hC
set_option maxHeartbeats 4000000 in
set_option maxRecDepth 100000 in
theorem t_x6_enter {N : Nat} (hN : 8589934592 ≤ N) {σ : St} {a1 : Int32} (hC : CP σ) : Tot (x6_enter N σ a1) (fun _ σ' => Kp σ σ') := by
  have hk := kp_rf hC
  unfold x6_enter
  refine tot_if (fun hc1 => ?_) (fun hc1 => ?_)
  · refine tot_bd (t_x5_put hN hk.1 ia_17) (fun _r2 σ2 hp2 => ?_)
    have hk2 := kp_tr hk hp2
    refine tot_bd (t_x6_clearNames hN (kp_I hk2 (by decide) (by decide)).1) (fun _r3 σ4 hp3 => ?_)
    have hk3 := kp_tr (kp_I hk2 (by decide) (by decide)) hp3
    exact tot_k hk3 (t_x6_enter_51 hN N _ a1 (gI σ 1513) 0 trivial hk3.1 (m_N hN))
  · exact tot_some (kp_I hk (by decide) (by decide))

set_option maxHeartbeats 4000000 in
set_option maxRecDepth 100000 in
theorem t_x6_work_79 {N : Nat} (hN : 8589934592 ≤ N) {σ : St} {t1 : Int32} (hC : CP σ) : Tot (x6_work_79 N σ t1) (fun _ σ' => Kp σ σ') := by
  have hk := kp_rf hC
  unfold x6_work_79
  exact tot_some (kp_I hk (by decide) (by decide))
set_option maxHeartbeats 4000000 in
set_option maxRecDepth 100000 in
theorem t_x6_work {N : Nat} (hN : 8589934592 ≤ N) {σ : St} (hC : CP σ) : Tot (x6_work N σ) (fun _ σ' => K1 σ σ') := by
  have hk := kp_rf hC
  unfold x6_work
  have hg1 : isCd (gP σ 1505) = true := (cp_1505 hk.1)
  refine tot_gd hg1 ?_
  refine tot_bd (t_x0_get hN hk.1 hg1) (fun r2 σ3 hp2 => ?_)
  have hk2 := kp_id hk hp2
  have hg3 : isCd (gP σ3 1505) = true := (cp_1505 hk2.1)
  refine tot_gd hg3 ?_
  refine tot_bd (t_x0_get hN hk2.1 hg3) (fun r5 σ6 hp4 => ?_)
  have hk4 := kp_id hk2 hp4
  refine tot_bd (t_x6_nameOf hN hk4.1) (fun r7 σ8 hp5 => ?_)
  have hk5 := kp_id hk4 hp5
  have hg6 : isCd (gP σ8 1505) = true := (cp_1505 hk5.1)
  refine tot_gd hg6 ?_
  refine tot_bd (t_x0_get hN hk5.1 hg6) (fun r10 σ11 hp7 => ?_)
  have hk7 := kp_id hk5 hp7
  refine tot_if (fun hc8 => ?_) (fun hc8 => ?_)
  · refine tot_bd (t_x6_choose hN (kp_I (kp_I hk7 (by decide) (by decide)) (by decide) (by decide)).1) (fun r20 σ21 hp9 => ?_)
    have hb_r20 := hp9.2
    have hk9 := k1_r (kp_I (kp_I hk7 (by decide) (by decide)) (by decide) (by decide)) hp9.1
    refine tot_if (fun hc10 => ?_) (fun hc10 => ?_)
    · exact (t_x6_work_79 hN hk9.1).mono (fun _ _ q => (k1_l hk9 q))
    · refine tot_bd (t_x6_makeLoop hN hk9.1) (fun r22 σ23 hp11 => ?_)
      have hk11 := k1_l hk9 hp11
      exact (t_x6_work_79 hN hk11.1).mono (fun _ _ q => (k1_l hk11 q))
  · refine tot_if (fun hc12 => ?_) (fun hc12 => ?_)
    · refine tot_bd (t_x6_nameOf hN (kp_I (kp_I hk7 (by decide) (by decide)) (by decide) (by decide)).1) (fun r16 σ17 hp13 => ?_)
      have hk13 := kp_id (kp_I (kp_I hk7 (by decide) (by decide)) (by decide) (by decide)) hp13
      refine tot_bd (t_x6_make hN hk13.1) (fun r18 σ19 hp14 => ?_)
      have hk14 := kp_tr hk13 hp14
      exact tot_some (k1_of (kp_I hk14 (by decide) (by decide)))
    · refine tot_if (fun hc15 => ?_) (fun hc15 => ?_)
      · exact tot_some (k1_of (kp_I (kp_I (kp_I hk7 (by decide) (by decide)) (by decide) (by decide)) (by decide) (by decide)))
      · refine tot_if (fun hc16 => ?_) (fun hc16 => ?_)
        · refine tot_bd (t_x6_fieldOf hN (kp_I (kp_I hk7 (by decide) (by decide)) (by decide) (by decide)).1) (fun r14 σ15 hp17 => ?_)
          have hk17 := kp_tr (kp_I (kp_I hk7 (by decide) (by decide)) (by decide) (by decide)) hp17
          exact tot_some (k1_of (kp_I hk17 (by decide) (by decide)))
        · refine tot_if (fun hc18 => ?_) (fun hc18 => ?_)
          · refine tot_bd (t_x6_enter hN (kp_I (kp_I hk7 (by decide) (by decide)) (by decide) (by decide)).1) (fun _r19 σ13 hp19 => ?_)
            have hk19 := kp_tr (kp_I (kp_I hk7 (by decide) (by decide)) (by decide) (by decide)) hp19
            exact tot_some (k1_of hk19)
          · exact tot_some (k1_of (kp_I (kp_I hk7 (by decide) (by decide)) (by decide) (by decide)))

set_option maxHeartbeats 4000000 in
set_option maxRecDepth 100000 in
theorem t_x6_step_113 {N : Nat} (hN : 8589934592 ≤ N) {σ : St} {t1 : Int32} (hC : CP σ) : Tot (x6_step_113 N σ t1) (fun _ σ' => Kp σ σ') := by
  have hk := kp_rf hC
  unfold x6_step_113
  exact tot_some (kp_I hk (by decide) (by decide))
set_option maxHeartbeats 4000000 in
set_option maxRecDepth 100000 in
theorem t_x6_step {N : Nat} (hN : 8589934592 ≤ N) {σ : St} (hC : CP σ) : Tot (x6_step N σ) (fun _ σ' => K1 σ σ') := by
  have hk := kp_rf hC
  unfold x6_step
  have hg1 : isCd (gP σ 1505) = true := (cp_1505 hk.1)
  refine tot_gd hg1 ?_
  refine tot_bd (t_x0_get hN hk.1 hg1) (fun r2 σ3 hp2 => ?_)
  have hk2 := kp_id hk hp2
  refine tot_if (fun hc3 => ?_) (fun hc3 => ?_)
  · have hg4 : isCd (gP σ3 1505) = true := (cp_1505 hk2.1)
    refine tot_gd hg4 ?_
    refine tot_bd (t_x0_get hN hk2.1 hg4) (fun r14 σ15 hp5 => ?_)
    have hk5 := kp_id hk2 hp5
    exact tot_some (k1_of (kp_I hk5 (by decide) (by decide)))
  · refine tot_if (fun hc6 => ?_) (fun hc6 => ?_)
    · refine tot_bd (t_x6_leave hN hk2.1) (fun _r7 σ12 hp7 => ?_)
      have hk7 := kp_tr hk2 hp7
      exact tot_some (k1_of hk7)
    · refine tot_if (fun hc8 => ?_) (fun hc8 => ?_)
      · refine tot_if (fun hc9 => ?_) (fun hc9 => ?_)
        · refine tot_bd (t_x6_holds hN (kp_I hk2 (by decide) (by decide)).1) (fun r6 σ7 hp10 => ?_)
          have hb_r6 := hp10.2
          have hk10 := k1_r (kp_I hk2 (by decide) (by decide)) hp10.1
          refine tot_if (fun hc11 => ?_) (fun hc11 => ?_)
          · have hg12 : isCd (gP σ7 1505) = true := (cp_1505 hk10.1)
            refine tot_gd hg12 ?_
            refine tot_bd (t_x0_get hN hk10.1 hg12) (fun r9 σ10 hp13 => ?_)
            have hk13 := k1_l hk10 (kp_id (kp_rf hk10.1) hp13)
            exact (t_x6_step_113 hN hk13.1).mono (fun _ _ q => (k1_l hk13 q))
          · exact (t_x6_step_113 hN hk10.1).mono (fun _ _ q => (k1_l hk10 q))
        · refine tot_bd (t_x6_work hN (kp_I hk2 (by decide) (by decide)).1) (fun _r14 σ5 hp14 => ?_)
          have hk14 := k1_r (kp_I hk2 (by decide) (by decide)) hp14
          exact tot_some hk14
      · exact tot_some (k1_of (kp_I hk2 (by decide) (by decide)))

/-- a run is over -/
def KG (σ σ' : St) : Prop := CP σ' ∧ gI σ' 1 = gI σ 1 ∧ 0 ≤ (gI σ' 1509).toInt
theorem t_x6_go_8 {N : Nat} (hN : 8589934592 ≤ N) : ∀ (n : Nat) (σ : St) (x3 : Int32), CP σ → 0 ≤ (gI σ 1509).toInt → (gI σ 1509).toInt ≤ x3.toInt → x3.toInt ≤ 1000000 → (1000001 - x3.toInt).toNat < n → Tot (x6_go_8 N n σ x3) (fun _ σ' => KG σ σ') := by
  intro n
  induction n with
  | zero => intro σ x3 hC h0 h1 h2 hm; exact absurd hm (Nat.not_lt_zero _)
  | succ n ih =>
    intro σ x3 hC h0 h1 h2 hm
    show Tot (x6_go_8_b N (x6_go_8 N n) σ x3) _
    have hend : Tot (x6_go_46 N σ) (fun _ σ' => KG σ σ') := by
      unfold x6_go_46
      exact tot_if (fun _ => tot_some ⟨hC, rfl, h0⟩) (fun _ => tot_some ⟨hC, rfl, h0⟩)
    unfold x6_go_8_b x6_go_40
    refine tot_if (fun _ => hend) (fun h => ?_)
    have hlt := lt_mx h
    have hs := i_succ hlt
    rw [Int32.le_iff_toInt_le] at h
    have h6 : (1000000 : Int32).toInt = 1000000 := by decide
    refine tot_if (fun _ => ?_) (fun _ => hend)
    refine tot_if (fun _ => ?_) (fun _ => ?_)
    · refine tot_bd (t_x6_step hN hC) (fun _ σ4 hp => ?_)
      have ha : (gI σ4 1509).toInt = (gI σ 1509).toInt ∨ (gI σ4 1509).toInt = (gI σ 1509).toInt + 1 := by
        rcases hp.2.2 with e | e
        · exact Or.inl (by rw [e])
        · exact Or.inr (by rw [e]; exact i_succ (by omega))
      exact (ih σ4 _ hp.1 (by omega) (by omega) (by omega) (by omega)).mono (fun _ _ q => ⟨q.1, q.2.1.trans hp.2.1, q.2.2⟩)
    · refine tot_bd (t_x6_finish hN hC) (fun _ σ4 hp => ?_)
      have ha : (gI σ4 1509).toInt = (gI σ 1509).toInt := by rw [hp.2.2]
      exact (ih σ4 _ hp.1 (by omega) (by omega) (by omega) (by omega)).mono (fun _ _ q => ⟨q.1, q.2.1.trans hp.2.1, q.2.2⟩)
theorem t_x6_go {N : Nat} (hN : 8589934592 ≤ N) {σ : St} {a1 a2 : Int32} (hC : CP σ) : Tot (x6_go N σ a1 a2) (fun _ σ' => KG σ σ') := by
  unfold x6_go
  refine tot_bd (t_x6_begin hN hC) (fun _ σ2 hp => ?_)
  have h0 : (gI σ2 1509).toInt = 0 := by rw [hp.2.2]; decide
  have h1 : (0 : Int32).toInt = 0 := by decide
  exact (t_x6_go_8 hN N σ2 0 hp.1 (by omega) (by omega) (by omega) (by omega)).mono (fun _ _ q => ⟨q.1, q.2.1.trans hp.2.1, q.2.2⟩)

set_option maxHeartbeats 4000000 in
set_option maxRecDepth 100000 in
theorem t_x7_startAt {N : Nat} (hN : 8589934592 ≤ N) {σ : St} {a1 : Int32} (hC : CP σ) : Tot (x7_startAt N σ a1) (fun _ σ' => Kp σ σ') := by
  have hk := kp_rf hC
  unfold x7_startAt
  refine tot_bd (t_j_fill hN (kp_I hk (by decide) (by decide)).1 ia_8) (fun _r1 σ2 hp1 => ?_)
  have hk1 := kp_tr (kp_I hk (by decide) (by decide)) hp1
  exact tot_some hk1

set_option maxHeartbeats 4000000 in
set_option maxRecDepth 100000 in
theorem t_x7_allows_53 {N : Nat} (hN : 8589934592 ≤ N) {rec32 : St → Int32 → Int32 → Option (Int32 × St)} {σ : St} {x1 : Int32} {x2 : Int32} {t0 : Int32} (hq32 : ∀ (σ2 : St), CP σ2 → Tot (rec32 σ2 x1 (x2 + 1)) (fun r σ' => Id0 σ2 σ' ∧ isb r = true)) (hC : CP σ) : Tot (x7_allows_53 N rec32 σ x1 x2 t0) (fun r σ' => Id0 σ σ' ∧ isb r = true) := by
  have hk := id_rf hC
  unfold x7_allows_53
  refine tot_bd (t_x5_at hN hk.2 ia_8) (fun r8 σ9 hp1 => ?_)
  have hk1 := id_tr hk hp1
  refine tot_if (fun hc2 => ?_) (fun hc2 => ?_)
  · exact tot_some ⟨hk1, rfl⟩
  · exact tot_ib hk1 (hq32 _ hk1.2)
set_option maxHeartbeats 4000000 in
set_option maxRecDepth 100000 in
theorem t_x7_allows_32_b {N : Nat} (hN : 8589934592 ≤ N) {rec32 : St → Int32 → Int32 → Option (Int32 × St)} {σ : St} {x1 : Int32} {x2 : Int32} (hr32 : x2.toInt < 2147483647 → ∀ (σ2 : St), CP σ2 → Tot (rec32 σ2 x1 (x2 + 1)) (fun r σ' => Id0 σ2 σ' ∧ isb r = true)) (hC : CP σ) : Tot (x7_allows_32_b N rec32 σ x1 x2) (fun r σ' => Id0 σ σ' ∧ isb r = true) := by
  have hk := id_rf hC
  unfold x7_allows_32_b
  refine tot_bd (t_x7_outers hN hk.2) (fun r6 σ7 hp1 => ?_)
  have hk1 := id_tr hk hp1
  refine tot_if (fun hc2 => ?_) (fun hc2 => ?_)
  · exact tot_some ⟨hk1, rfl⟩
  · have hq32 := hr32 (lt_mx hc2)
    refine tot_if (fun hc3 => ?_) (fun hc3 => ?_)
    · exact tot_ib hk1 (t_x7_allows_53 hN hq32 hk1.2)
    · exact tot_ib hk1 (t_x7_allows_53 hN hq32 hk1.2)
set_option maxHeartbeats 4000000 in
set_option maxRecDepth 100000 in
theorem t_x7_allows_32 {N : Nat} (hN : 8589934592 ≤ N) : ∀ (n : Nat) (σ : St) (x1 : Int32) (x2 : Int32), True → CP σ → (2147483648 - x2.toInt).toNat < n → Tot (x7_allows_32 N n σ x1 x2) (fun r σ' => Id0 σ σ' ∧ isb r = true) := by
  intro n
  induction n with
  | zero => intro σ x1 x2 _ hC hm; exact absurd hm (Nat.not_lt_zero _)
  | succ n ih => intro σ x1 x2 _ hC hm; exact t_x7_allows_32_b hN (fun hlt σ2 hC2 => ih σ2 x1 (x2 + 1) trivial hC2 (m_succ hlt hm)) hC
set_option maxHeartbeats 4000000 in
set_option maxRecDepth 100000 in
theorem t_x7_allows {N : Nat} (hN : 8589934592 ≤ N) {σ : St} {a1 : Int32} (hC : CP σ) : Tot (x7_allows N σ a1) (fun r σ' => Id0 σ σ' ∧ isb r = true) := by
  have hk := id_rf hC
  unfold x7_allows
  have hg1 : isPr (gP σ 700) = true := (cp_700 hk.2)
  refine tot_gd hg1 ?_
  refine tot_bd (t_x3_has hN hk.2 hg1) (fun r2 σ3 hp2 => ?_)
  have hb_r2 := hp2.2
  have hk2 := id_tr hk hp2.1
  refine tot_if (fun hc3 => ?_) (fun hc3 => ?_)
  · exact tot_some ⟨hk2, rfl⟩
  · refine tot_if (fun hc4 => ?_) (fun hc4 => ?_)
    · exact tot_some ⟨hk2, rfl⟩
    · refine tot_bd (t_x7_outers hN hk2.2) (fun r4 σ5 hp5 => ?_)
      have hk5 := id_tr hk2 hp5
      refine tot_if (fun hc6 => ?_) (fun hc6 => ?_)
      · exact tot_ib hk5 (t_x7_allows_32 hN N _ a1 0 trivial hk5.2 (m_N hN))
      · exact tot_some ⟨hk5, rfl⟩

set_option maxHeartbeats 4000000 in
set_option maxRecDepth 100000 in
theorem t_x8_isSmall {N : Nat} (hN : 8589934592 ≤ N) {σ : St} {a1 : Int32} (hC : CP σ) : Tot (x8_isSmall N σ a1) (fun r σ' => Id0 σ σ' ∧ isb r = true) := by
  have hk := id_rf hC
  unfold x8_isSmall
  refine tot_if (fun hc1 => ?_) (fun hc1 => ?_)
  · exact tot_some ⟨hk, rfl⟩
  · refine tot_if (fun hc2 => ?_) (fun hc2 => ?_)
    · exact tot_some ⟨hk, rfl⟩
    · exact tot_some ⟨hk, rfl⟩

theorem t_x8_endOfWord_4 {N : Nat} (hN : 8589934592 ≤ N) : ∀ (n : Nat) (σ : St) (x3 : Int32), CP σ → 0 ≤ x3.toInt → x3.toInt ≤ 1200 → (1201 - x3.toInt).toNat < n → Tot (x8_endOfWord_4 N n σ x3) (fun r σ' => Id0 σ σ' ∧ x3.toInt ≤ r.toInt ∧ r.toInt ≤ 1200) := by
  intro n
  induction n with
  | zero => intro σ x3 hC h0 h1 hm; exact absurd hm (Nat.not_lt_zero _)
  | succ n ih =>
    intro σ x3 hC h0 h1 hm
    show Tot (x8_endOfWord_4_b N (x8_endOfWord_4 N n) σ x3) _
    have hend : Tot (some (x3, σ)) (fun r σ' => Id0 σ σ' ∧ x3.toInt ≤ r.toInt ∧ r.toInt ≤ 1200) := tot_some ⟨id_rf hC, Int.le_refl _, h1⟩
    unfold x8_endOfWord_4_b
    refine tot_if (fun _ => hend) (fun _ => ?_)
    refine tot_if (fun _ => hend) (fun h => ?_)
    refine tot_gd (ib_n h0 h (by decide) (by decide)) ?_
    have hs := i_succ (lt_mx h)
    rw [Int32.le_iff_toInt_le] at h
    have h6 : (1200 : Int32).toInt = 1200 := by decide
    refine tot_bd (t_x8_isSmall hN hC) (fun r1 σ2 hp => ?_)
    obtain ⟨⟨rfl, hC2⟩, hb⟩ := hp
    refine tot_if (fun _ => hend) (fun _ => ?_)
    exact (ih _ _ hC (by omega) (by omega) (by omega)).mono (fun _ _ q => ⟨q.1, by omega, q.2.2⟩)
theorem t_x8_endOfWord {N : Nat} (hN : 8589934592 ≤ N) {σ : St} {a2 : Int32} (hC : CP σ) (h_a2 : 0 ≤ a2.toInt ∧ a2.toInt < 1200) : Tot (x8_endOfWord N σ a2) (fun r σ' => Id0 σ σ' ∧ a2.toInt + 1 ≤ r.toInt ∧ r.toInt ≤ 1200) := by
  unfold x8_endOfWord
  have hs := i_succ (x := a2) (by omega)
  exact (t_x8_endOfWord_4 hN N σ _ hC (by omega) (by omega) (by omega)).mono (fun _ _ q => ⟨q.1, by omega, q.2.2⟩)

theorem len_sm : ∀ i, i < 10 → lenS.getD i 0 ≤ 44 := by decide
theorem i_add {x y : Int32} (h1 : -2147483648 ≤ x.toInt + y.toInt) (h2 : x.toInt + y.toInt < 2147483648) : (x + y).toInt = x.toInt + y.toInt := by
  rw [Int32.toInt_add]
  exact Int.bmod_eq_of_le (by omega) (by omega)
theorem t_x8_spells_19 {N : Nat} (hN : 8589934592 ≤ N) : ∀ (n : Nat) (σ : St) (x1 : Int32) (x2 : Nat) (x3 : Int32), CP σ → x2 < 10 → 0 ≤ x1.toInt → x1.toInt + (lenS.getD x2 0 : Nat) ≤ 1200 → 0 ≤ x3.toInt → x3.toInt ≤ (lenS.getD x2 0 : Nat) → (1000 - x3.toInt).toNat < n → Tot (x8_spells_19 N n σ x1 x2 x3) (fun r σ' => Id0 σ σ' ∧ isb r = true) := by
  intro n
  induction n with
  | zero => intro σ x1 x2 x3 hC h2 h0 h1 h3 h4 hm; exact absurd hm (Nat.not_lt_zero _)
  | succ n ih =>
    intro σ x1 x2 x3 hC h2 h0 h1 h3 h4 hm
    show Tot (x8_spells_19_b N (x8_spells_19 N n) σ x1 x2 x3) _
    unfold x8_spells_19_b
    have hl := len_sm x2 h2
    refine tot_gd (decide_eq_true h2) (tot_if (fun _ => tot_some ⟨id_rf hC, rfl⟩) (fun h => ?_))
    have hi := ib_n (n := lenS.getD x2 0) h3 h rfl (by omega)
    have hlt := lt_mx h
    have hs := i_succ hlt
    have hc : x3.toInt < (lenS.getD x2 0 : Nat) := by
      rw [Int32.le_iff_toInt_le, show (Int32.ofNat (lenS.getD x2 0)).toInt = (lenS.getD x2 0 : Nat) from nI_toInt (by omega)] at h
      omega
    have ha := i_add (x := x1) (y := x3) (by omega) (by omega)
    refine tot_gd (ib_n (c := 1200) (by omega) ?_ (by decide) (by decide)) (tot_gd hi ?_)
    · intro h
      rw [Int32.le_iff_toInt_le] at h
      have h6 : (1200 : Int32).toInt = 1200 := by decide
      omega
    · exact tot_if (fun _ => ih _ _ _ _ hC h2 h0 h1 (by omega) (by omega) (by omega)) (fun _ => tot_some ⟨id_rf hC, rfl⟩)
theorem t_x8_spells {N : Nat} (hN : 8589934592 ≤ N) {σ : St} {a2 : Int32} {a3 : Nat} (hC : CP σ) (h_a2 : 0 ≤ a2.toInt ∧ a2.toInt < 1200) (h_a3 : a3 < 10) : Tot (x8_spells N σ a2 a3) (fun r σ' => Id0 σ σ' ∧ isb r = true) := by
  unfold x8_spells
  have hl := len_sm a3 h_a3
  refine tot_if (fun _ => tot_some ⟨id_rf hC, rfl⟩) (fun _ => tot_gd (decide_eq_true h_a3) (tot_if (fun h => ?_) (fun _ => tot_some ⟨id_rf hC, rfl⟩)))
  have e1 : (Int32.ofNat (lenS.getD a3 0)).toInt = (lenS.getD a3 0 : Nat) := nI_toInt (by omega)
  rw [Int32.le_iff_toInt_le, i_add (by omega) (by omega), e1] at h
  have h6 : (1200 : Int32).toInt = 1200 := by decide
  have h7 : (0 : Int32).toInt = 0 := by decide
  exact t_x8_spells_19 hN N σ a2 a3 0 hC h_a3 h_a2.1 (by omega) (by omega) (by omega) (by omega)

set_option maxHeartbeats 4000000 in
set_option maxRecDepth 100000 in
theorem t_x8_kindOfWord {N : Nat} (hN : 8589934592 ≤ N) {σ : St} {a2 : Int32} {a3 : Int32} (hC : CP σ) (h_a2 : 0 ≤ a2.toInt ∧ a2.toInt < 1200) : Tot (x8_kindOfWord N σ a2 a3) (fun _ σ' => Id0 σ σ') := by
  have hk := id_rf hC
  unfold x8_kindOfWord
  refine tot_if (fun hc1 => ?_) (fun hc1 => ?_)
  · exact tot_some hk
  · refine tot_if (fun hc2 => ?_) (fun hc2 => ?_)
    · refine tot_bd (t_x8_spells hN hk.2 h_a2 (by decide)) (fun r3 σ4 hp3 => ?_)
      have hb_r3 := hp3.2
      have hk3 := id_tr hk hp3.1
      refine tot_if (fun hc4 => ?_) (fun hc4 => ?_)
      · refine tot_bd (t_x8_spells hN hk3.2 h_a2 (by decide)) (fun r5 σ6 hp5 => ?_)
        have hb_r5 := hp5.2
        have hk5 := id_tr hk3 hp5.1
        refine tot_if (fun hc6 => ?_) (fun hc6 => ?_)
        · exact tot_some hk5
        · exact tot_some hk5
      · exact tot_some hk3
    · refine tot_if (fun hc7 => ?_) (fun hc7 => ?_)
      · refine tot_bd (t_x8_spells hN hk.2 h_a2 (by decide)) (fun r8 σ9 hp8 => ?_)
        have hb_r8 := hp8.2
        have hk8 := id_tr hk hp8.1
        refine tot_if (fun hc9 => ?_) (fun hc9 => ?_)
        · refine tot_bd (t_x8_spells hN hk8.2 h_a2 (by decide)) (fun r10 σ11 hp10 => ?_)
          have hb_r10 := hp10.2
          have hk10 := id_tr hk8 hp10.1
          refine tot_if (fun hc11 => ?_) (fun hc11 => ?_)
          · refine tot_bd (t_x8_spells hN hk10.2 h_a2 (by decide)) (fun r12 σ13 hp12 => ?_)
            have hb_r12 := hp12.2
            have hk12 := id_tr hk10 hp12.1
            refine tot_if (fun hc13 => ?_) (fun hc13 => ?_)
            · exact tot_some hk12
            · exact tot_some hk12
          · exact tot_some hk10
        · exact tot_some hk8
      · refine tot_if (fun hc14 => ?_) (fun hc14 => ?_)
        · refine tot_bd (t_x8_spells hN hk.2 h_a2 (by decide)) (fun r15 σ16 hp15 => ?_)
          have hb_r15 := hp15.2
          have hk15 := id_tr hk hp15.1
          refine tot_if (fun hc16 => ?_) (fun hc16 => ?_)
          · exact tot_some hk15
          · exact tot_some hk15
        · refine tot_if (fun hc17 => ?_) (fun hc17 => ?_)
          · refine tot_bd (t_x8_spells hN hk.2 h_a2 (by decide)) (fun r18 σ19 hp18 => ?_)
            have hb_r18 := hp18.2
            have hk18 := id_tr hk hp18.1
            refine tot_if (fun hc19 => ?_) (fun hc19 => ?_)
            · exact tot_some hk18
            · exact tot_some hk18
          · refine tot_if (fun hc20 => ?_) (fun hc20 => ?_)
            · refine tot_bd (t_x8_spells hN hk.2 h_a2 (by decide)) (fun r21 σ22 hp21 => ?_)
              have hb_r21 := hp21.2
              have hk21 := id_tr hk hp21.1
              refine tot_if (fun hc22 => ?_) (fun hc22 => ?_)
              · exact tot_some hk21
              · exact tot_some hk21
            · refine tot_if (fun hc23 => ?_) (fun hc23 => ?_)
              · refine tot_bd (t_x8_spells hN hk.2 h_a2 (by decide)) (fun r24 σ25 hp24 => ?_)
                have hb_r24 := hp24.2
                have hk24 := id_tr hk hp24.1
                refine tot_if (fun hc25 => ?_) (fun hc25 => ?_)
                · exact tot_some hk24
                · exact tot_some hk24
              · exact tot_some hk

set_option maxHeartbeats 4000000 in
set_option maxRecDepth 100000 in
theorem t_x8_add {N : Nat} (hN : 8589934592 ≤ N) {σ : St} {a1 : Int32} {a2 : Int32} {a3 : Int32} (hC : CP σ) : Tot (x8_add N σ a1 a2 a3) (fun _ σ' => Kp σ σ') := by
  have hk := kp_rf hC
  unfold x8_add
  refine tot_bd (t_x5_put hN hk.1 ia_3) (fun _r1 σ2 hp1 => ?_)
  have hk1 := kp_tr hk hp1
  exact tot_some (kp_I hk1 (by decide) (by decide))

set_option maxHeartbeats 4000000 in
set_option maxRecDepth 100000 in
theorem t_x8_kindOfSign {N : Nat} (hN : 8589934592 ≤ N) {σ : St} {a1 : Int32} (hC : CP σ) : Tot (x8_kindOfSign N σ a1) (fun _ σ' => Id0 σ σ') := by
  have hk := id_rf hC
  unfold x8_kindOfSign
  refine tot_if (fun hc1 => ?_) (fun hc1 => ?_)
  · exact tot_some hk
  · refine tot_if (fun hc2 => ?_) (fun hc2 => ?_)
    · exact tot_some hk
    · refine tot_if (fun hc3 => ?_) (fun hc3 => ?_)
      · exact tot_some hk
      · refine tot_if (fun hc4 => ?_) (fun hc4 => ?_)
        · exact tot_some hk
        · refine tot_if (fun hc5 => ?_) (fun hc5 => ?_)
          · exact tot_some hk
          · refine tot_if (fun hc6 => ?_) (fun hc6 => ?_)
            · exact tot_some hk
            · refine tot_if (fun hc7 => ?_) (fun hc7 => ?_)
              · exact tot_some hk
              · refine tot_if (fun hc8 => ?_) (fun hc8 => ?_)
                · exact tot_some hk
                · exact tot_some hk

theorem t_x8_add9 {N : Nat} (hN : 8589934592 ≤ N) {σ : St} {a1 a2 a3 : Int32} (hC : CP σ) : Tot (x8_add N σ a1 a2 a3) (fun _ σ' => Kp σ σ' ∧ gI σ' 202 = gI σ 202) := by
  have h := t_x8_add hN (a1 := a1) (a2 := a2) (a3 := a3) hC
  obtain ⟨r, σ', e, hk⟩ := h
  refine ⟨r, σ', e, hk, ?_⟩
  unfold x8_add at e
  obtain ⟨r1, σ1, e1, e2⟩ := bd_some e
  cases e2
  unfold x5_put at e1
  split at e1
  · cases e1; exact gI_ne (by decide)
  · have e1 := (gd_some e1).2
    split at e1
    · cases e1; exact gI_ne (by decide)
    · have e1 := (gd_some e1).2
      cases e1; exact (gI_ne (by decide)).trans rfl
theorem t_x8_scan_17 {N : Nat} (hN : 8589934592 ≤ N) : ∀ (n : Nat) (σ : St) (x3 : Int32), CP σ → 0 ≤ x3.toInt → x3.toInt ≤ 1200 → (gI σ 202).toInt ≤ 1200 → (1201 - x3.toInt).toNat < n → Tot (x8_scan_17 N n σ x3) (fun _ σ' => Kp σ σ') := by
  intro n
  induction n with
  | zero => intro σ x3 hC h0 h1 h2 hm; exact absurd hm (Nat.not_lt_zero _)
  | succ n ih =>
    intro σ x3 hC h0 h1 h2 hm
    show Tot (x8_scan_17_b N (x8_scan_17 N n) σ x3) _
    unfold x8_scan_17_b x8_scan_105 x8_scan_130
    refine tot_if (fun _ => tot_some (kp_rf hC)) (fun h => ?_)
    rw [Int32.le_iff_toInt_le] at h
    have hs := i_succ (x := x3) (by omega)
    have h6 : (1200 : Int32).toInt = 1200 := by decide
    have hi : ib x3 1200 = true := ib_n (c := 1200) h0 (by rw [Int32.le_iff_toInt_le]; omega) (by decide) (by decide)
    refine tot_gd hi ?_
    refine tot_bd (t_x8_isSmall hN hC) (fun r1 σ2 hp => ?_)
    obtain ⟨⟨rfl, hC2⟩, hb⟩ := hp
    have next : ∀ σ4 : St, Kp σ2 σ4 → gI σ4 202 = gI σ2 202 → Tot (x8_scan_17 N n σ4 (x3 + 1)) (fun _ σ' => Kp σ2 σ') := fun σ4 hk he => tot_k hk (ih σ4 _ hk.1 (by omega) (by omega) (by rw [he]; exact h2) (by omega))
    have sign : ∀ x4 : Int32, Tot (if x4 = 32 then x8_scan_17 N n σ2 (x3 + 1) else (if x4 = 10 then x8_scan_17 N n σ2 (x3 + 1) else bd (x8_kindOfSign N σ2 x4) (fun r3 σ4 => bd (x8_add N σ4 r3 x3 0) (fun _ σ6 => x8_scan_17 N n σ6 (x3 + 1))))) (fun _ σ' => Kp σ2 σ') := by
      intro x4
      refine tot_if (fun _ => next σ2 (kp_rf hC) rfl) (fun _ => tot_if (fun _ => next σ2 (kp_rf hC) rfl) (fun _ => ?_))
      refine tot_bd (t_x8_kindOfSign hN hC) (fun r3 σ4 hp => ?_)
      obtain ⟨rfl, hC4⟩ := hp
      refine tot_bd (t_x8_add9 hN hC) (fun _ σ6 hp6 => ?_)
      exact next σ6 hp6.1 hp6.2
    refine tot_if (fun _ => ?_) (fun _ => ?_)
    · refine tot_if (fun _ => sign _) (fun _ => tot_if (fun _ => sign _) (fun _ => ?_))
      refine tot_bd (t_x8_add9 hN hC) (fun _ σ8 hp8 => ?_)
      exact next σ8 hp8.1 hp8.2
    · refine tot_bd (t_x8_endOfWord hN hC ⟨h0, by omega⟩) (fun r9 σ10 hp => ?_)
      obtain ⟨⟨rfl, hC10⟩, hr1, hr2⟩ := hp
      refine tot_bd (t_x8_kindOfWord hN hC ⟨h0, by omega⟩) (fun r11 σ12 hp => ?_)
      obtain ⟨rfl, hC12⟩ := hp
      refine tot_bd (t_x8_add9 hN hC) (fun _ σ14 hp14 => ?_)
      have hd : (r9 - 1).toInt = r9.toInt - 1 := by
        have h8 : (-1 : Int32).toInt = -1 := by decide
        rw [Int32.sub_eq_add_neg, i_add (by omega) (by omega), h8]
        omega
      have hx : ∀ y : Int32, x3.toInt ≤ y.toInt → y.toInt ≤ 1199 → Tot (x8_scan_17 N n σ14 (y + 1)) (fun _ σ' => Kp σ12 σ') := by
        intro y h7 h8
        have hs2 := i_succ (x := y) (by omega)
        exact tot_k hp14.1 (ih σ14 _ hp14.1.1 (by omega) (by omega) (by rw [hp14.2]; exact h2) (by omega))
      split
      · exact hx _ (by omega) (by omega)
      · exact hx _ (by omega) (by omega)
theorem t_x8_scan {N : Nat} (hN : 8589934592 ≤ N) {σ : St} {a2 : Int32} (hC : CP σ) : Tot (x8_scan N σ a2) (fun _ σ' => Kp σ σ') := by
  unfold x8_scan
  have h6 : (1200 : Int32).toInt = 1200 := by decide
  have h7 : (0 : Int32).toInt = 0 := by decide
  refine tot_k (kp_I (kp_I (kp_rf hC) (by decide) (by decide)) (by decide) (by decide)) (t_x8_scan_17 hN N _ 0 hC (by omega) (by omega) ?_ (by omega))
  rw [gI_eq]
  split
  · omega
  · rename_i h
    rw [Int32.lt_iff_toInt_lt] at h
    omega

set_option maxHeartbeats 4000000 in
set_option maxRecDepth 100000 in
theorem t_x9_noteFailure {N : Nat} (hN : 8589934592 ≤ N) {σ : St} {a1 : Int32} {a2 : Int32} (hC : CP σ) : Tot (x9_noteFailure N σ a1 a2) (fun _ σ' => Kp σ σ') := by
  have hk := kp_rf hC
  unfold x9_noteFailure
  refine tot_if (fun hc1 => ?_) (fun hc1 => ?_)
  · refine tot_bd (t_x5_at hN hk.1 ia_20) (fun r1 σ2 hp2 => ?_)
    have hk2 := kp_id hk hp2
    refine tot_if (fun hc3 => ?_) (fun hc3 => ?_)
    · refine tot_bd (t_x5_put hN hk2.1 ia_20) (fun _r4 σ4 hp4 => ?_)
      have hk4 := kp_tr hk2 hp4
      exact tot_some (kp_I hk4 (by decide) (by decide))
    · exact tot_some hk2
  · exact tot_some hk

theorem sh_ok {a : Int32} (h1 : 0 ≤ a.toInt) (h2 : ¬ (8 : Int32) ≤ a) : 1 ≤ ((1 : Int32) <<< (a &&& 31)).toInt ∧ ((1 : Int32) <<< (a &&& 31)).toInt ≤ 128 := by
  rw [Int32.le_iff_toInt_le] at h2
  have h8 : (8 : Int32).toInt = 8 := by decide
  have h3 : a.toInt = 0 ∨ a.toInt = 1 ∨ a.toInt = 2 ∨ a.toInt = 3 ∨ a.toInt = 4 ∨ a.toInt = 5 ∨ a.toInt = 6 ∨ a.toInt = 7 := by omega
  rcases h3 with e | e | e | e | e | e | e | e
  · obtain rfl : a = 0 := Int32.toInt_inj.mp e
    decide
  · obtain rfl : a = 1 := Int32.toInt_inj.mp e
    decide
  · obtain rfl : a = 2 := Int32.toInt_inj.mp e
    decide
  · obtain rfl : a = 3 := Int32.toInt_inj.mp e
    decide
  · obtain rfl : a = 4 := Int32.toInt_inj.mp e
    decide
  · obtain rfl : a = 5 := Int32.toInt_inj.mp e
    decide
  · obtain rfl : a = 6 := Int32.toInt_inj.mp e
    decide
  · obtain rfl : a = 7 := Int32.toInt_inj.mp e
    decide
theorem t_x9_skipTheSame_14 {N : Nat} (hN : 8589934592 ≤ N) : ∀ (n : Nat) (σ : St) (x1 x3 : Int32), CP σ → 0 ≤ (gI σ 1509).toInt → ¬ (8 : Int32) ≤ gI σ 1509 → (256 - x3.toInt).toNat < n → Tot (x9_skipTheSame_14 N n σ x1 x3) (fun _ σ' => Kp σ σ') := by
  intro n
  induction n with
  | zero => intro σ x1 x3 hC h0 h1 hm; exact absurd hm (Nat.not_lt_zero _)
  | succ n ih =>
    intro σ x1 x3 hC h0 h1 hm
    show Tot (x9_skipTheSame_14_b N (x9_skipTheSame_14 N n) σ x1 x3) _
    unfold x9_skipTheSame_14_b
    refine tot_if (fun _ => tot_some (kp_rf hC)) (fun h => ?_)
    rw [Int32.le_iff_toInt_le] at h
    have h8 : (256 : Int32).toInt = 256 := by decide
    refine tot_bd (t_x5_put hN hC ia_21) (fun _ σ2 hp => ?_)
    rw [hp.2.2]
    obtain ⟨g1, g2⟩ := sh_ok h0 h1
    have hle := Int32.le_toInt x3
    have ha := i_add (x := x3) (y := (1 : Int32) <<< ((gI σ 1509) &&& 31)) (by omega) (by omega)
    exact tot_k hp (ih _ _ _ hp.1 (by rw [hp.2.2]; exact h0) (by rw [hp.2.2]; exact h1) (by omega))
theorem t_x9_skipTheSame {N : Nat} (hN : 8589934592 ≤ N) {σ : St} {a1 a2 : Int32} (hC : CP σ) (h0 : 0 ≤ (gI σ 1509).toInt) : Tot (x9_skipTheSame N σ a1 a2) (fun _ σ' => Kp σ σ') := by
  unfold x9_skipTheSame
  refine tot_if (fun _ => tot_some (kp_rf hC)) (fun h => ?_)
  have hle := Int32.le_toInt a2
  exact t_x9_skipTheSame_14 hN N σ a1 a2 hC h0 h (by omega)

/-- the references and the tape's length stay -/
def KT (σ σ' : St) : Prop := CP σ' ∧ gI σ' 1 = gI σ 1
theorem kt_of {σ σ' : St} (h : Kp σ σ') : KT σ σ' := ⟨h.1, h.2.1⟩
theorem kt_tr {σ σ1 σ2 : St} (h : KT σ σ1) (h2 : KT σ1 σ2) : KT σ σ2 := ⟨h2.1, h2.2.trans h.2⟩
theorem t_x9_fill_31 {N : Nat} (hN : 8589934592 ≤ N) : ∀ (n : Nat) (σ : St) (x2 : Int32), CP σ → (2147483648 - x2.toInt).toNat < n → Tot (x9_fill_31 N n σ x2) (fun _ σ' => KT σ σ') := by
  intro n
  induction n with
  | zero => intro σ x2 hC hm; exact absurd hm (Nat.not_lt_zero _)
  | succ n ih =>
    intro σ x2 hC hm
    show Tot (x9_fill_31_b N (x9_fill_31 N n) σ x2) _
    unfold x9_fill_31_b x9_fill_104
    have hend : Tot (some ((), (sI σ 1904 0))) (fun _ σ' => KT σ σ') := tot_some (kt_of (kp_I (kp_rf hC) (by decide) (by decide)))
    refine tot_if (fun _ => hend) (fun h => ?_)
    have next : ∀ σ4 : St, KT σ σ4 → Tot (x9_fill_31 N n σ4 (x2 + 1)) (fun _ σ' => KT σ σ') := fun σ4 hk => (ih σ4 _ hk.1 (m_succ (lt_mx h) hm)).mono (fun _ _ q => kt_tr hk q)
    refine tot_if (fun _ => hend) (fun _ => ?_)
    refine tot_bd (t_x5_at hN hC ia_21) (fun r5 σ6 hp => ?_)
    obtain ⟨rfl, hC6⟩ := hp
    refine tot_if (fun _ => next _ ⟨hC, rfl⟩) (fun _ => ?_)
    refine tot_bd (t_x7_allows hN hC) (fun r7 σ8 hp => ?_)
    obtain ⟨⟨rfl, hC8⟩, hb⟩ := hp
    refine tot_if (fun _ => next _ ⟨hC, rfl⟩) (fun _ => ?_)
    refine tot_bd (t_x6_go hN hC) (fun r9 σ10 hp10 => ?_)
    refine tot_bd (t_x9_noteFailure hN hp10.1) (fun _ σ12 hp12 => ?_)
    refine tot_bd (t_x9_skipTheSame hN hp12.1 (by rw [hp12.2.2]; exact hp10.2.2)) (fun _ σ14 hp14 => ?_)
    exact next σ14 ⟨hp14.1, hp14.2.1.trans (hp12.2.1.trans hp10.2.1)⟩
theorem t_x9_fill {N : Nat} (hN : 8589934592 ≤ N) {σ : St} {a1 : Int32} (hC : CP σ) : Tot (x9_fill N σ a1) (fun _ σ' => KT σ σ') := by
  unfold x9_fill
  refine tot_if (fun _ => tot_some ⟨hC, rfl⟩) (fun _ => ?_)
  refine tot_bd (t_j_fill hN (σ := sI σ 1905 a1) hC ia_20) (fun _ σ2 hp2 => ?_)
  refine tot_bd (t_j_fill hN hp2.1 ia_21) (fun _ σ4 hp4 => ?_)
  exact (t_x9_fill_31 hN N σ4 0 hp4.1 (m_N hN)).mono (fun _ _ q => ⟨q.1, q.2.trans (hp4.2.1.trans (hp2.2.1.trans (gI_ne (by decide))))⟩)

theorem u_x10_putNumber_3 {N : Nat} : ∀ (n : Nat) (σ : St) (x1 : Int32) (k : Nat), CP σ → 0 ≤ (gI σ 1).toInt → (gI σ 1).toInt + (k : Nat) ≤ 1200 → k + 1 ≤ n → k ≤ 4 → Tot (x10_putNumber_3 N n σ x1 (nI (8 * k) - 8)) (fun _ σ' => CP σ' ∧ (gI σ' 1).toInt = (gI σ 1).toInt + (k : Nat)) := by
  intro n
  induction n with
  | zero => intro σ x1 k hC h0 h1 h2 h3; omega
  | succ n ih =>
    intro σ x1 k hC h0 h1 h2 h3
    show Tot (x10_putNumber_3_b N (x10_putNumber_3 N n) σ x1 _) _
    unfold x10_putNumber_3_b x10_putNumber_49
    have h6 : (1200 : Int32).toInt = 1200 := by decide
    have h7 : (0 : Int32).toInt = 0 := by decide
    cases k with
    | zero => exact tot_if (fun _ => tot_some ⟨hC, by omega⟩) (fun h => absurd (by decide) h)
    | succ k =>
      have hk : ¬ (nI (8 * (k + 1)) - 8) < 0 := by
        rcases (show k = 0 ∨ k = 1 ∨ k = 2 ∨ k = 3 by omega) with rfl | rfl | rfl | rfl <;> decide
      have hk2 : (nI (8 * (k + 1)) - 8) + (-8) = nI (8 * k) - 8 := by
        rcases (show k = 0 ∨ k = 1 ∨ k = 2 ∨ k = 3 by omega) with rfl | rfl | rfl | rfl <;> decide
      rw [if_neg hk, if_neg (by rw [Int32.lt_iff_toInt_lt]; omega), if_neg (by rw [Int32.le_iff_toInt_le]; omega), hk2]
      refine tot_gd (ib_n (c := 1200) h0 (by rw [Int32.le_iff_toInt_le]; omega) (by decide) (by decide)) ?_
      have hs := i_succ (x := gI σ 1) (by omega)
      refine Tot.mono (ih _ _ k ?_ ?_ ?_ (by omega) (by omega)) (fun _ σ' q => ⟨q.1, ?_⟩)
      · exact hC
      · rw [gI_eq]; omega
      · rw [gI_eq]; omega
      · rw [q.2, gI_eq]; omega
theorem u_x10_putNumber {N : Nat} (hN : 8589934592 ≤ N) {σ : St} {a1 : Int32} (hC : CP σ) (h0 : 0 ≤ (gI σ 1).toInt) (h1 : (gI σ 1).toInt + 4 ≤ 1200) : Tot (x10_putNumber N σ a1) (fun _ σ' => CP σ' ∧ (gI σ' 1).toInt = (gI σ 1).toInt + 4) := by
  unfold x10_putNumber
  exact u_x10_putNumber_3 N σ a1 4 hC h0 (by omega) (by omega) (by omega)

theorem u_x10_feed {N : Nat} (hN : 8589934592 ≤ N) {σ : St} {a1 a2 a3 a4 a5 : Int32} (hC : CP σ) (h0 : 0 ≤ (gI σ 1).toInt) (h1 : (gI σ 1).toInt ≤ 1200) : Tot (x10_feed N σ a1 a2 a3 a4 a5) (fun r σ' => CP σ' ∧ if (gI σ 1).toInt ≤ 1180 then r.toInt = (gI σ 1).toInt + 20 ∧ (gI σ' 1).toInt = (gI σ 1).toInt + 20 else r = -1 ∧ gI σ' 1 = gI σ 1) := by
  unfold x10_feed
  have h6 : (1200 : Int32).toInt = 1200 := by decide
  have h7 : (20 : Int32).toInt = 20 := by decide
  have ha := i_add (x := gI σ 1) (y := 20) (by omega) (by omega)
  refine tot_if (fun h => ?_) (fun h => ?_)
  · rw [Int32.le_iff_toInt_le] at h
    refine tot_bd (u_x10_putNumber hN hC h0 (by omega)) (fun _ σ2 p2 => ?_)
    refine tot_bd (u_x10_putNumber hN p2.1 (by omega) (by omega)) (fun _ σ4 p4 => ?_)
    refine tot_bd (u_x10_putNumber hN p4.1 (by omega) (by omega)) (fun _ σ6 p6 => ?_)
    refine tot_bd (u_x10_putNumber hN p6.1 (by omega) (by omega)) (fun _ σ8 p8 => ?_)
    refine tot_bd (u_x10_putNumber hN p8.1 (by omega) (by omega)) (fun _ σ10 p10 => ?_)
    refine tot_some ⟨p10.1, ?_⟩
    rw [if_pos (by omega)]
    omega
  · rw [Int32.le_iff_toInt_le] at h
    refine tot_some ⟨hC, ?_⟩
    rw [if_neg (by omega)]
    exact ⟨rfl, rfl⟩

set_option maxHeartbeats 4000000 in
set_option maxRecDepth 100000 in
theorem t_x10_forget {N : Nat} (hN : 8589934592 ≤ N) {σ : St} (hC : CP σ) : Tot (x10_forget N σ) (fun _ σ' => Kp σ σ') := by
  have hk := kp_rf hC
  unfold x10_forget
  exact tot_some (kp_I (kp_I (kp_I hk (by decide) (by decide)) (by decide) (by decide)) (by decide) (by decide))

theorem u_x10_text {N : Nat} (hN : 8589934592 ≤ N) {σ : St} {a1 : Int32} (hC : CP σ) : Tot (x10_text N σ a1) (fun _ σ' => CP σ' ∧ (if a1 < 0 then gI σ' 1 = gI σ 1 else if a1 ≤ gI σ 1 then gI σ' 1 = 0 else gI σ' 1 = gI σ 1)) := by
  unfold x10_text
  refine tot_if (fun h => tot_some ⟨hC, by rw [if_pos h]⟩) (fun h => ?_)
  refine tot_if (fun h2 => ?_) (fun h2 => tot_some ⟨hC, by rw [if_neg h, if_neg h2]⟩)
  refine Tot.mono (Q := fun _ σ' => CP σ' ∧ gI σ' 1 = 0) ?_ (fun _ σ' q => ⟨q.1, by rw [if_neg h, if_pos h2]; exact q.2⟩)
  refine tot_bd (t_x8_scan hN (σ := sI σ 1 0) hC) (fun _ σ2 hp2 => ?_)
  refine tot_bd (t_x4_readInto hN hp2.1 (cp_3 hp2.1)) (fun _ σ4 hp4 => ?_)
  have hk4 := kp_tr hp2 hp4
  have h1 : gI σ4 1 = 0 := hk4.2.1.trans gI_eq
  refine tot_if (fun _ => ?_) (fun _ => tot_some ⟨hk4.1, (gI_ne (by decide)).trans ((gI_ne (by decide)).trans h1)⟩)
  refine tot_gd (cp_3 hk4.1) ?_
  have hC5 : CP (sP (sP (sI (sI σ4 5 (gI σ4 408)) 6 (gI σ4 409)) 700 (gP σ4 3)) 3 (gP σ4 700)) := cp_P (cp_P (k := 700) hk4.1 (cp_3 hk4.1)) (cp_700 hk4.1)
  refine tot_bd (t_x7_startAt hN hC5) (fun _ σ7 hp7 => ?_)
  refine tot_bd (t_x10_forget hN hp7.1) (fun _ σ9 hp9 => ?_)
  refine tot_gd (cp_700 hp9.1) (tot_some ⟨hp9.1, ?_⟩)
  exact hp9.2.1.trans (hp7.2.1.trans ((show gI (sI (sI σ4 5 (gI σ4 408)) 6 (gI σ4 409)) 1 = 0 from (gI_ne (by decide)).trans ((gI_ne (by decide)).trans h1))))

set_option maxHeartbeats 4000000 in
set_option maxRecDepth 100000 in
theorem t_x10_fault {N : Nat} (hN : 8589934592 ≤ N) {σ : St} {a1 : Int32} (hC : CP σ) : Tot (x10_fault N σ a1) (fun _ σ' => Id0 σ σ') := by
  have hk := id_rf hC
  unfold x10_fault
  refine tot_if (fun hc1 => ?_) (fun hc1 => ?_)
  · exact tot_some hk
  · refine tot_if (fun hc2 => ?_) (fun hc2 => ?_)
    · exact tot_some hk
    · exact tot_some hk

set_option maxHeartbeats 4000000 in
set_option maxRecDepth 100000 in
theorem t_x10_entry {N : Nat} (hN : 8589934592 ≤ N) {σ : St} {a1 : Int32} (hC : CP σ) : Tot (x10_entry N σ a1) (fun r σ' => Kp σ σ' ∧ isb r = true) := by
  have hk := kp_rf hC
  unfold x10_entry
  have hg1 : isPr (gP σ 700) = true := (cp_700 hk.1)
  refine tot_gd hg1 ?_
  refine tot_bd (t_x3_has hN hk.1 hg1) (fun r2 σ3 hp2 => ?_)
  have hb_r2 := hp2.2
  have hk2 := kp_id hk hp2.1
  refine tot_if (fun hc3 => ?_) (fun hc3 => ?_)
  · exact tot_some ⟨hk2, rfl⟩
  · refine tot_bd (t_x7_startAt hN hk2.1) (fun _r4 σ5 hp4 => ?_)
    have hk4 := kp_tr hk2 hp4
    refine tot_bd (t_x10_forget hN hk4.1) (fun _r5 σ7 hp5 => ?_)
    have hk5 := kp_tr hk4 hp5
    exact tot_some ⟨hk5, rfl⟩

set_option maxHeartbeats 4000000 in
set_option maxRecDepth 100000 in
theorem t_x10_outer {N : Nat} (hN : 8589934592 ≤ N) {σ : St} {a1 : Int32} {a2 : Int32} (hC : CP σ) : Tot (x10_outer N σ a1 a2) (fun r σ' => Kp σ σ' ∧ isb r = true) := by
  have hk := kp_rf hC
  unfold x10_outer
  refine tot_if (fun hc1 => ?_) (fun hc1 => ?_)
  · exact tot_some ⟨hk, rfl⟩
  · refine tot_bd (t_x7_outers hN hk.1) (fun r1 σ2 hp2 => ?_)
    have hk2 := kp_id hk hp2
    refine tot_if (fun hc3 => ?_) (fun hc3 => ?_)
    · exact tot_some ⟨hk2, rfl⟩
    · refine tot_if (fun hc4 => ?_) (fun hc4 => ?_)
      · exact tot_some ⟨hk2, rfl⟩
      · refine tot_if (fun hc5 => ?_) (fun hc5 => ?_)
        · refine tot_bd (t_x5_put hN hk2.1 ia_8) (fun _r6 σ4 hp6 => ?_)
          have hk6 := kp_tr hk2 hp6
          refine tot_bd (t_x10_forget hN hk6.1) (fun _r7 σ6 hp7 => ?_)
          have hk7 := kp_tr hk6 hp7
          exact tot_some ⟨hk7, rfl⟩
        · exact tot_some ⟨hk2, rfl⟩

set_option maxHeartbeats 4000000 in
set_option maxRecDepth 100000 in
theorem t_x10_markIndex_80 {N : Nat} (hN : 8589934592 ≤ N) {σ : St} {x2 : Int32} {x3 : Int32} {t0 : Int32} (hC : CP σ) : Tot (x10_markIndex_80 N σ x2 x3 t0) (fun _ σ' => Id0 σ σ') := by
  have hk := id_rf hC
  unfold x10_markIndex_80
  refine tot_if (fun hc1 => ?_) (fun hc1 => ?_)
  · exact tot_some hk
  · exact tot_some hk
set_option maxHeartbeats 4000000 in
set_option maxRecDepth 100000 in
theorem t_x10_markIndex_79 {N : Nat} (hN : 8589934592 ≤ N) {σ : St} {x2 : Int32} {x3 : Int32} (hC : CP σ) : Tot (x10_markIndex_79 N σ x2 x3) (fun _ σ' => Id0 σ σ') := by
  have hk := id_rf hC
  unfold x10_markIndex_79
  exact tot_i hk (t_x10_markIndex_80 hN hk.2)
set_option maxHeartbeats 4000000 in
set_option maxRecDepth 100000 in
theorem t_x10_markIndex_14 {N : Nat} (hN : 8589934592 ≤ N) {σ : St} {x3 : Int32} (hC : CP σ) : Tot (x10_markIndex_14 N σ x3) (fun _ σ' => Id0 σ σ') := by
  have hk := id_rf hC
  unfold x10_markIndex_14
  exact tot_some hk
set_option maxHeartbeats 4000000 in
set_option maxRecDepth 100000 in
theorem t_x10_markIndex {N : Nat} (hN : 8589934592 ≤ N) {σ : St} {a1 : Int32} {a2 : Int32} {a3 : Int32} (hC : CP σ) : Tot (x10_markIndex N σ a1 a2 a3) (fun _ σ' => Id0 σ σ') := by
  have hk := id_rf hC
  unfold x10_markIndex
  refine tot_if (fun hc1 => ?_) (fun hc1 => ?_)
  · refine tot_if (fun hc2 => ?_) (fun hc2 => ?_)
    · exact tot_i hk (t_x10_markIndex_14 hN hk.2)
    · refine tot_if (fun hc3 => ?_) (fun hc3 => ?_)
      · exact tot_i hk (t_x10_markIndex_14 hN hk.2)
      · exact tot_some hk
  · have hg4 : isPr (gP σ 700) = true := (cp_700 hk.2)
    refine tot_gd hg4 ?_
    refine tot_bd (t_x3_has hN hk.2 hg4) (fun r2 σ3 hp5 => ?_)
    have hb_r2 := hp5.2
    have hk5 := id_tr hk hp5.1
    refine tot_if (fun hc6 => ?_) (fun hc6 => ?_)
    · exact tot_some hk5
    · refine tot_if (fun hc7 => ?_) (fun hc7 => ?_)
      · exact tot_some hk5
      · refine tot_if (fun hc8 => ?_) (fun hc8 => ?_)
        · refine tot_if (fun hc9 => ?_) (fun hc9 => ?_)
          · exact tot_i hk5 (t_x10_markIndex_79 hN hk5.2)
          · have hg10 : isPr (gP σ3 700) = true := (cp_700 hk5.2)
            refine tot_gd hg10 ?_
            refine tot_bd (t_x5_at hN hk5.2 (pr_ia2 hg10)) (fun r5 σ6 hp11 => ?_)
            have hk11 := id_tr hk5 hp11
            refine tot_if (fun hc12 => ?_) (fun hc12 => ?_)
            · exact tot_i hk11 (t_x10_markIndex_79 hN hk11.2)
            · exact tot_i hk11 (t_x10_markIndex_80 hN hk11.2)
        · exact tot_i hk5 (t_x10_markIndex_79 hN hk5.2)

set_option maxHeartbeats 4000000 in
set_option maxRecDepth 100000 in
theorem t_x10_mark {N : Nat} (hN : 8589934592 ≤ N) {σ : St} {a1 : Int32} {a2 : Int32} {a3 : Int32} (hC : CP σ) : Tot (x10_mark N σ a1 a2 a3) (fun _ σ' => Kp σ σ') := by
  have hk := kp_rf hC
  unfold x10_mark
  refine tot_bd (t_x10_markIndex hN hk.1) (fun r1 σ2 hp1 => ?_)
  have hk1 := kp_id hk hp1
  refine tot_if (fun hc2 => ?_) (fun hc2 => ?_)
  · exact tot_some hk1
  · refine tot_bd (t_x1_settle hN hk1.1) (fun _r3 σ4 hp3 => ?_)
    have hk3 := kp_tr hk1 hp3
    refine tot_bd (t_x5_at hN hk3.1 ia_12) (fun r5 σ6 hp4 => ?_)
    have hk4 := kp_id hk3 hp4
    exact tot_some hk4

set_option maxHeartbeats 4000000 in
set_option maxRecDepth 100000 in
theorem t_x10_verdictOfUse {N : Nat} (hN : 8589934592 ≤ N) {σ : St} {a1 : Int32} (hC : CP σ) : Tot (x10_verdictOfUse N σ a1) (fun _ σ' => Id0 σ σ') := by
  have hk := id_rf hC
  unfold x10_verdictOfUse
  refine tot_if (fun hc1 => ?_) (fun hc1 => ?_)
  · exact tot_some hk
  · refine tot_if (fun hc2 => ?_) (fun hc2 => ?_)
    · exact tot_some hk
    · refine tot_if (fun hc3 => ?_) (fun hc3 => ?_)
      · exact tot_some hk
      · exact tot_some hk

set_option maxHeartbeats 4000000 in
set_option maxRecDepth 100000 in
theorem t_x10_use {N : Nat} (hN : 8589934592 ≤ N) {σ : St} {a1 : Int32} {a2 : Int32} (hC : CP σ) : Tot (x10_use N σ a1 a2) (fun _ σ' => Kp σ σ') := by
  have hk := kp_rf hC
  unfold x10_use
  refine tot_if (fun hc1 => ?_) (fun hc1 => ?_)
  · exact tot_some hk
  · have hg2 : isPr (gP σ 700) = true := (cp_700 hk.1)
    refine tot_gd hg2 ?_
    refine tot_if (fun hc3 => ?_) (fun hc3 => ?_)
    · refine tot_if (fun hc4 => ?_) (fun hc4 => ?_)
      · refine tot_bd (t_x1_settle hN hk.1) (fun _r5 σ4 hp5 => ?_)
        have hk5 := kp_tr hk hp5
        refine tot_bd (t_x5_at hN hk5.1 ia_13) (fun r5 σ6 hp6 => ?_)
        have hk6 := kp_id hk5 hp6
        refine tot_bd (t_x10_verdictOfUse hN hk6.1) (fun r7 σ8 hp7 => ?_)
        have hk7 := kp_id hk6 hp7
        exact tot_some hk7
      · refine tot_if (fun hc8 => ?_) (fun hc8 => ?_)
        · refine tot_bd (t_x5_at hN hk.1 (pr_ia4 hg2)) (fun r10 σ11 hp9 => ?_)
          have hk9 := kp_id hk hp9
          exact tot_some hk9
        · refine tot_if (fun hc10 => ?_) (fun hc10 => ?_)
          · refine tot_bd (t_x5_at hN hk.1 (pr_ia5 hg2)) (fun r13 σ14 hp11 => ?_)
            have hk11 := kp_id hk hp11
            exact tot_some hk11
          · refine tot_if (fun hc12 => ?_) (fun hc12 => ?_)
            · refine tot_bd (t_x5_at hN hk.1 (pr_ia6 hg2)) (fun r16 σ17 hp13 => ?_)
              have hk13 := kp_id hk hp13
              exact tot_some hk13
            · exact tot_some hk
    · exact tot_some hk

set_option maxHeartbeats 4000000 in
set_option maxRecDepth 100000 in
theorem t_x10_verdictOfTest {N : Nat} (hN : 8589934592 ≤ N) {σ : St} {a1 : Int32} (hC : CP σ) : Tot (x10_verdictOfTest N σ a1) (fun _ σ' => Id0 σ σ') := by
  have hk := id_rf hC
  unfold x10_verdictOfTest
  refine tot_if (fun hc1 => ?_) (fun hc1 => ?_)
  · exact tot_some hk
  · refine tot_if (fun hc2 => ?_) (fun hc2 => ?_)
    · exact tot_some hk
    · refine tot_if (fun hc3 => ?_) (fun hc3 => ?_)
      · exact tot_some hk
      · exact tot_some hk

set_option maxHeartbeats 4000000 in
set_option maxRecDepth 100000 in
theorem t_x10_test {N : Nat} (hN : 8589934592 ≤ N) {σ : St} {a1 : Int32} {a2 : Int32} (hC : CP σ) : Tot (x10_test N σ a1 a2) (fun _ σ' => Kp σ σ') := by
  have hk := kp_rf hC
  unfold x10_test
  refine tot_if (fun hc1 => ?_) (fun hc1 => ?_)
  · exact tot_some hk
  · have hg2 : isPr (gP σ 700) = true := (cp_700 hk.1)
    refine tot_gd hg2 ?_
    refine tot_if (fun hc3 => ?_) (fun hc3 => ?_)
    · refine tot_if (fun hc4 => ?_) (fun hc4 => ?_)
      · refine tot_bd (t_x1_settle hN hk.1) (fun _r5 σ4 hp5 => ?_)
        have hk5 := kp_tr hk hp5
        refine tot_bd (t_x5_at hN hk5.1 ia_14) (fun r5 σ6 hp6 => ?_)
        have hk6 := kp_id hk5 hp6
        refine tot_bd (t_x10_verdictOfTest hN hk6.1) (fun r7 σ8 hp7 => ?_)
        have hk7 := kp_id hk6 hp7
        exact tot_some hk7
      · refine tot_if (fun hc8 => ?_) (fun hc8 => ?_)
        · refine tot_bd (t_x5_at hN hk.1 (pr_ia7 hg2)) (fun r10 σ11 hp9 => ?_)
          have hk9 := kp_id hk hp9
          exact tot_some hk9
        · refine tot_if (fun hc10 => ?_) (fun hc10 => ?_)
          · refine tot_bd (t_x5_at hN hk.1 (pr_ia8 hg2)) (fun r13 σ14 hp11 => ?_)
            have hk11 := kp_id hk hp11
            exact tot_some hk11
          · exact tot_some hk
    · exact tot_some hk

theorem u_x10_run {N : Nat} (hN : 8589934592 ≤ N) {σ : St} {a1 a2 : Int32} (hC : CP σ) : Tot (x10_run N σ a1 a2) (fun _ σ' => KT σ σ') := by
  unfold x10_run
  refine tot_if (fun _ => tot_some ⟨hC, rfl⟩) (fun _ => tot_if (fun _ => tot_some ⟨hC, rfl⟩) (fun _ => ?_))
  refine tot_bd (t_x7_allows hN hC) (fun r1 σ2 hp => ?_)
  obtain ⟨⟨rfl, hC2⟩, hb⟩ := hp
  refine tot_if (fun _ => tot_some ⟨hC, rfl⟩) (fun _ => ?_)
  refine tot_bd (t_x6_go hN hC) (fun r3 σ4 p4 => ?_)
  refine tot_bd (t_x5_put hN p4.1 ia_26) (fun _ σ6 p6 => ?_)
  refine tot_bd (t_x5_put hN p6.1 ia_26) (fun _ σ8 p8 => ?_)
  refine tot_bd (t_x5_put hN p8.1 ia_26) (fun _ σ10 p10 => ?_)
  refine tot_bd (t_x5_put hN p10.1 ia_26) (fun _ σ12 p12 => ?_)
  exact tot_some ⟨p12.1, p12.2.1.trans (p10.2.1.trans (p8.2.1.trans (p6.2.1.trans p4.2.1)))⟩

set_option maxHeartbeats 4000000 in
set_option maxRecDepth 100000 in
theorem t_x10_ran_13 {N : Nat} (hN : 8589934592 ≤ N) {σ : St} (hC : CP σ) : Tot (x10_ran_13 N σ) (fun _ σ' => Id0 σ σ') := by
  have hk := id_rf hC
  unfold x10_ran_13
  exact tot_some hk
set_option maxHeartbeats 4000000 in
set_option maxRecDepth 100000 in
theorem t_x10_ran {N : Nat} (hN : 8589934592 ≤ N) {σ : St} {a1 : Int32} (hC : CP σ) : Tot (x10_ran N σ a1) (fun _ σ' => Id0 σ σ') := by
  have hk := id_rf hC
  unfold x10_ran
  refine tot_if (fun hc1 => ?_) (fun hc1 => ?_)
  · exact tot_i hk (t_x10_ran_13 hN hk.2)
  · refine tot_if (fun hc2 => ?_) (fun hc2 => ?_)
    · refine tot_gd (ib_d hc1 hc2 (by decide) (by decide)) ?_
      exact tot_some hk
    · exact tot_i hk (t_x10_ran_13 hN hk.2)

theorem u_x10_tries {N : Nat} (hN : 8589934592 ≤ N) {σ : St} {a1 : Int32} (hC : CP σ) : Tot (x10_tries N σ a1) (fun _ σ' => KT σ σ') := by
  unfold x10_tries
  refine tot_if (fun _ => tot_some ⟨hC, rfl⟩) (fun _ => tot_gd (cp_700 hC) (tot_if (fun _ => ?_) (fun _ => tot_some ⟨hC, rfl⟩)))
  refine tot_bd (t_x1_settle hN hC) (fun _ σ3 p3 => ?_)
  refine tot_bd (t_x1_guardsNeeded hN p3.1) (fun r4 σ5 p5 => ?_)
  obtain ⟨rfl, hC5⟩ := p5
  refine tot_bd (t_x9_fill hN p3.1) (fun _ σ7 p7 => ?_)
  refine tot_bd (t_x5_at hN p7.1 ia_20) (fun r8 σ9 p9 => ?_)
  obtain ⟨rfl, hC9⟩ := p9
  exact tot_some (kt_tr (kt_of p3) p7)

set_option maxHeartbeats 4000000 in
set_option maxRecDepth 100000 in
theorem t_x10_price {N : Nat} (hN : 8589934592 ≤ N) {σ : St} {a1 : Int32} {a2 : Int32} (hC : CP σ) : Tot (x10_price N σ a1 a2) (fun r σ' => Kp σ σ' ∧ isb r = true) := by
  have hk := kp_rf hC
  unfold x10_price
  refine tot_if (fun hc1 => ?_) (fun hc1 => ?_)
  · exact tot_some ⟨hk, rfl⟩
  · refine tot_if (fun hc2 => ?_) (fun hc2 => ?_)
    · exact tot_some ⟨hk, rfl⟩
    · refine tot_if (fun hc3 => ?_) (fun hc3 => ?_)
      · exact tot_some ⟨hk, rfl⟩
      · refine tot_if (fun hc4 => ?_) (fun hc4 => ?_)
        · refine tot_bd (t_x5_put hN hk.1 ia_23) (fun _r5 σ2 hp5 => ?_)
          have hk5 := kp_tr hk hp5
          exact tot_some ⟨(kp_I hk5 (by decide) (by decide)), rfl⟩
        · exact tot_some ⟨hk, rfl⟩

set_option maxHeartbeats 4000000 in
set_option maxRecDepth 100000 in
theorem t_x10_mend {N : Nat} (hN : 8589934592 ≤ N) {σ : St} (hC : CP σ) : Tot (x10_mend N σ) (fun _ σ' => Kp σ σ') := by
  have hk := kp_rf hC
  unfold x10_mend
  have hg1 : isPr (gP σ 700) = true := (cp_700 hk.1)
  refine tot_gd hg1 ?_
  refine tot_if (fun hc2 => ?_) (fun hc2 => ?_)
  · exact tot_some hk
  · refine tot_bd (t_x2_search hN hk.1) (fun _r3 σ3 hp3 => ?_)
    have hk3 := kp_tr hk hp3
    exact tot_some hk3

set_option maxHeartbeats 4000000 in
set_option maxRecDepth 100000 in
theorem t_x10_mended_56 {N : Nat} (hN : 8589934592 ≤ N) {σ : St} (hC : CP σ) : Tot (x10_mended_56 N σ) (fun _ σ' => Id0 σ σ') := by
  have hk := id_rf hC
  unfold x10_mended_56
  exact tot_some hk
set_option maxHeartbeats 4000000 in
set_option maxRecDepth 100000 in
theorem t_x10_mended {N : Nat} (hN : 8589934592 ≤ N) {σ : St} {a1 : Int32} (hC : CP σ) : Tot (x10_mended N σ a1) (fun _ σ' => Id0 σ σ') := by
  have hk := id_rf hC
  unfold x10_mended
  refine tot_if (fun hc1 => ?_) (fun hc1 => ?_)
  · exact tot_some hk
  · refine tot_if (fun hc2 => ?_) (fun hc2 => ?_)
    · exact tot_some hk
    · refine tot_if (fun hc3 => ?_) (fun hc3 => ?_)
      · exact tot_some hk
      · refine tot_if (fun hc4 => ?_) (fun hc4 => ?_)
        · exact tot_i hk (t_x10_mended_56 hN hk.2)
        · refine tot_if (fun hc5 => ?_) (fun hc5 => ?_)
          · refine tot_bd (t_x5_at hN hk.2 ia_25) (fun r1 σ2 hp6 => ?_)
            have hk6 := id_tr hk hp6
            exact tot_some hk6
          · exact tot_i hk (t_x10_mended_56 hN hk.2)

set_option maxHeartbeats 4000000 in
set_option maxRecDepth 100000 in
theorem t_x10_usesOfFact_44 {N : Nat} (hN : 8589934592 ≤ N) {rec12 : St → Int32 → Int32 → Int32 → Option (Int32 × St)} {σ : St} {x1 : Int32} {x2 : Int32} {x3 : Int32} (hq12 : ∀ (σ2 : St) (zx2 : Int32), CP σ2 → Tot (rec12 σ2 x1 zx2 (x3 + 1)) (fun _ σ' => Id0 σ2 σ')) (hC : CP σ) : Tot (x10_usesOfFact_44 N rec12 σ x1 x2 x3) (fun _ σ' => Id0 σ σ') := by
  have hk := id_rf hC
  unfold x10_usesOfFact_44
  exact tot_i hk (hq12 _ x2 hk.2)
set_option maxHeartbeats 4000000 in
set_option maxRecDepth 100000 in
theorem t_x10_usesOfFact_12_b {N : Nat} (hN : 8589934592 ≤ N) {rec12 : St → Int32 → Int32 → Int32 → Option (Int32 × St)} {σ : St} {x1 : Int32} {x2 : Int32} {x3 : Int32} (hr12 : x3.toInt < 2147483647 → ∀ (σ2 : St) (zx2 : Int32), CP σ2 → Tot (rec12 σ2 x1 zx2 (x3 + 1)) (fun _ σ' => Id0 σ2 σ')) (hC : CP σ) : Tot (x10_usesOfFact_12_b N rec12 σ x1 x2 x3) (fun _ σ' => Id0 σ σ') := by
  have hk := id_rf hC
  unfold x10_usesOfFact_12_b
  have hg1 : isPr (gP σ 700) = true := (cp_700 hk.2)
  refine tot_gd hg1 ?_
  refine tot_if (fun hc2 => ?_) (fun hc2 => ?_)
  · exact tot_some hk
  · have hq12 := hr12 (lt_mx hc2)
    refine tot_bd (t_x5_at hN hk.2 ia_13) (fun r4 σ5 hp3 => ?_)
    have hk3 := id_tr hk hp3
    refine tot_if (fun hc4 => ?_) (fun hc4 => ?_)
    · exact tot_i hk3 (t_x10_usesOfFact_44 hN hq12 hk3.2)
    · exact tot_i hk3 (t_x10_usesOfFact_44 hN hq12 hk3.2)
set_option maxHeartbeats 4000000 in
set_option maxRecDepth 100000 in
theorem t_x10_usesOfFact_12 {N : Nat} (hN : 8589934592 ≤ N) : ∀ (n : Nat) (σ : St) (x1 : Int32) (x2 : Int32) (x3 : Int32), True → CP σ → (2147483648 - x3.toInt).toNat < n → Tot (x10_usesOfFact_12 N n σ x1 x2 x3) (fun _ σ' => Id0 σ σ') := by
  intro n
  induction n with
  | zero => intro σ x1 x2 x3 _ hC hm; exact absurd hm (Nat.not_lt_zero _)
  | succ n ih => intro σ x1 x2 x3 _ hC hm; exact t_x10_usesOfFact_12_b hN (fun hlt σ2 zx2 hC2 => ih σ2 x1 zx2 (x3 + 1) trivial hC2 (m_succ hlt hm)) hC
set_option maxHeartbeats 4000000 in
set_option maxRecDepth 100000 in
theorem t_x10_usesOfFact {N : Nat} (hN : 8589934592 ≤ N) {σ : St} {a1 : Int32} (hC : CP σ) : Tot (x10_usesOfFact N σ a1) (fun _ σ' => Kp σ σ') := by
  have hk := kp_rf hC
  unfold x10_usesOfFact
  refine tot_bd (t_x1_settle hN hk.1) (fun _r1 σ2 hp1 => ?_)
  have hk1 := kp_tr hk hp1
  exact tot_ki hk1 (t_x10_usesOfFact_12 hN N _ a1 0 0 trivial hk1.1 (m_N hN))

set_option maxHeartbeats 4000000 in
set_option maxRecDepth 100000 in
theorem t_x10_count {N : Nat} (hN : 8589934592 ≤ N) {σ : St} {a1 : Int32} (hC : CP σ) : Tot (x10_count N σ a1) (fun _ σ' => Kp σ σ') := by
  have hk := kp_rf hC
  unfold x10_count
  refine tot_if (fun hc1 => ?_) (fun hc1 => ?_)
  · have hg2 : isPr (gP σ 700) = true := (cp_700 hk.1)
    refine tot_gd hg2 ?_
    exact tot_some hk
  · refine tot_if (fun hc3 => ?_) (fun hc3 => ?_)
    · have hg4 : isPr (gP σ 700) = true := (cp_700 hk.1)
      refine tot_gd hg4 ?_
      exact tot_some hk
    · refine tot_if (fun hc5 => ?_) (fun hc5 => ?_)
      · have hg6 : isPr (gP σ 700) = true := (cp_700 hk.1)
        refine tot_gd hg6 ?_
        exact tot_some hk
      · refine tot_if (fun hc7 => ?_) (fun hc7 => ?_)
        · exact tot_some hk
        · refine tot_if (fun hc8 => ?_) (fun hc8 => ?_)
          · refine tot_bd (t_x10_usesOfFact hN hk.1) (fun r9 σ10 hp9 => ?_)
            have hk9 := kp_tr hk hp9
            exact tot_some hk9
          · refine tot_if (fun hc10 => ?_) (fun hc10 => ?_)
            · refine tot_bd (t_x10_usesOfFact hN hk.1) (fun r12 σ13 hp11 => ?_)
              have hk11 := kp_tr hk hp11
              exact tot_some hk11
            · exact tot_some hk
