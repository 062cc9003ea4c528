set_option maxHeartbeats 4000000 in
set_option maxRecDepth 100000 in
theorem t_x0_set {N : Nat} (hN : 8589934592 ≤ N) {σ : St} {a0 : Nat} {a1 : Int32} {a2 : Int32} {a3 : Int32} (hC : CP σ) (h_a0 : isCd a0 = true) : Tot (x0_set N σ a0 a1 a2 a3) (fun _ σ' => Kp σ σ') := by
  have hk := kp_rf hC
  unfold x0_set
  refine tot_if (fun hc1 => ?_) (fun hc1 => ?_)
  · exact tot_some hk
  · have hg2 : isCd a0 = true := h_a0
    refine tot_gd hg2 ?_
    refine tot_if (fun hc3 => ?_) (fun hc3 => ?_)
    · exact tot_some hk
    · refine tot_if (fun hc4 => ?_) (fun hc4 => ?_)
      · exact tot_some hk
      · refine tot_if (fun hc5 => ?_) (fun hc5 => ?_)
        · exact tot_some hk
        · refine tot_gd (ib_c hc4 hc5 (by decide) (by decide)) ?_
          exact tot_some (kp_A hk)

set_option maxHeartbeats 4000000 in
set_option maxRecDepth 100000 in
theorem t_x0_add_52 {N : Nat} (hN : 8589934592 ≤ N) {σ : St} {x0 : Nat} {x1 : Int32} {x2 : Int32} {x3 : Int32} (hC : CP σ) (h_x0 : isCd x0 = true) : Tot (x0_add_52 N σ x0 x1 x2 x3) (fun _ σ' => Kp σ σ') := by
  have hk := kp_rf hC
  unfold x0_add_52
  have hg1 : isCd x0 = true := h_x0
  refine tot_gd hg1 ?_
  refine tot_bd (t_x0_set hN hk.1 hg1) (fun _r2 σ4 hp2 => ?_)
  have hk2 := kp_tr hk hp2
  refine tot_bd (t_x0_set hN hk2.1 hg1) (fun _r3 σ6 hp3 => ?_)
  have hk3 := kp_tr hk2 hp3
  exact tot_some hk3
set_option maxHeartbeats 4000000 in
set_option maxRecDepth 100000 in
theorem t_x0_add_31_b {N : Nat} (hN : 8589934592 ≤ N) {rec31 : St → Nat → Int32 → Int32 → Int32 → Int32 → Option (Int32 × St)} {σ : St} {x0 : Nat} {x1 : Int32} {x2 : Int32} {x3 : Int32} {x4 : Int32} (hr31 : x4.toInt < 2147483647 → ∀ (σ2 : St), CP σ2 → Tot (rec31 σ2 x0 x1 x2 x3 (x4 + 1)) (fun _ σ' => Kp σ2 σ')) (hC : CP σ) (h_x0 : isCd x0 = true) : Tot (x0_add_31_b N rec31 σ x0 x1 x2 x3 x4) (fun _ σ' => Kp σ σ') := by
  have hk := kp_rf hC
  unfold x0_add_31_b
  refine tot_if (fun hc1 => ?_) (fun hc1 => ?_)
  · exact tot_k hk (t_x0_add_52 hN hk.1 h_x0)
  · have hq31 := hr31 (lt_mx hc1)
    have hg2 : isCd x0 = true := h_x0
    refine tot_gd hg2 ?_
    refine tot_bd (t_x0_set hN hk.1 hg2) (fun _r3 σ9 hp3 => ?_)
    have hk3 := kp_tr hk hp3
    exact tot_k hk3 (hq31 _ hk3.1)
set_option maxHeartbeats 4000000 in
set_option maxRecDepth 100000 in
theorem t_x0_add_31 {N : Nat} (hN : 8589934592 ≤ N) : ∀ (n : Nat) (σ : St) (x0 : Nat) (x1 : Int32) (x2 : Int32) (x3 : Int32) (x4 : Int32), True → CP σ → isCd x0 = true → (2147483648 - x4.toInt).toNat < n → Tot (x0_add_31 N n σ x0 x1 x2 x3 x4) (fun _ σ' => Kp σ σ') := by
  intro n
  induction n with
  | zero => intro σ x0 x1 x2 x3 x4 _ hC h_x0 hm; exact absurd hm (Nat.not_lt_zero _)
  | succ n ih => intro σ x0 x1 x2 x3 x4 _ hC h_x0 hm; exact t_x0_add_31_b hN (fun hlt σ2 hC2 => ih σ2 x0 x1 x2 x3 (x4 + 1) trivial hC2 h_x0 (m_succ hlt hm)) hC h_x0
set_option maxHeartbeats 4000000 in
set_option maxRecDepth 100000 in
theorem t_x0_add {N : Nat} (hN : 8589934592 ≤ N) {σ : St} {a0 : Nat} {a1 : Int32} {a2 : Int32} (hC : CP σ) (h_a0 : isCd a0 = true) : Tot (x0_add N σ a0 a1 a2) (fun _ σ' => Kp σ σ') := by
  have hk := kp_rf hC
  unfold x0_add
  have hg1 : isCd a0 = true := h_a0
  refine tot_gd hg1 ?_
  refine tot_if (fun hc2 => ?_) (fun hc2 => ?_)
  · exact tot_some hk
  · refine tot_if (fun hc3 => ?_) (fun hc3 => ?_)
    · exact tot_k (kp_I hk (cd_n hg1 (by decide)) (cd_n hg1 (by decide))) (t_x0_add_31 hN N _ a0 a1 a2 (gI σ (100 * a0 + 1)) 0 trivial (kp_I hk (cd_n hg1 (by decide)) (cd_n hg1 (by decide))).1 hg1 (m_N hN))
    · exact tot_some hk

set_option maxHeartbeats 4000000 in
set_option maxRecDepth 100000 in
theorem t_x0_get {N : Nat} (hN : 8589934592 ≤ N) {σ : St} {a0 : Nat} {a1 : Int32} {a2 : Int32} (hC : CP σ) (h_a0 : isCd a0 = true) : Tot (x0_get N σ a0 a1 a2) (fun _ σ' => Id0 σ σ') := by
  have hk := id_rf hC
  unfold x0_get
  refine tot_if (fun hc1 => ?_) (fun hc1 => ?_)
  · exact tot_some hk
  · have hg2 : isCd a0 = true := h_a0
    refine tot_gd hg2 ?_
    refine tot_if (fun hc3 => ?_) (fun hc3 => ?_)
    · exact tot_some hk
    · refine tot_if (fun hc4 => ?_) (fun hc4 => ?_)
      · exact tot_some hk
      · refine tot_if (fun hc5 => ?_) (fun hc5 => ?_)
        · exact tot_some hk
        · refine tot_gd (ib_c hc4 hc5 (by decide) (by decide)) ?_
          exact tot_some hk

set_option maxHeartbeats 4000000 in
set_option maxRecDepth 100000 in
theorem t_x0_addArgument {N : Nat} (hN : 8589934592 ≤ N) {σ : St} {a0 : Nat} {a1 : Int32} {a2 : Int32} (hC : CP σ) (h_a0 : isCd a0 = true) : Tot (x0_addArgument N σ a0 a1 a2) (fun _ σ' => Kp σ σ') := by
  have hk := kp_rf hC
  unfold x0_addArgument
  have hg1 : isCd a0 = true := h_a0
  refine tot_gd hg1 ?_
  refine tot_bd (t_x0_get hN hk.1 hg1) (fun r2 σ3 hp2 => ?_)
  have hk2 := kp_id hk hp2
  refine tot_bd (t_x0_set hN hk2.1 hg1) (fun _r3 σ5 hp3 => ?_)
  have hk3 := kp_tr hk2 hp3
  exact tot_some hk3

set_option maxHeartbeats 4000000 in
set_option maxRecDepth 100000 in
theorem t_x0_arguments {N : Nat} (hN : 8589934592 ≤ N) {σ : St} {a0 : Nat} {a1 : Int32} (hC : CP σ) (h_a0 : isCd a0 = true) : Tot (x0_arguments N σ a0 a1) (fun _ σ' => Id0 σ σ') := by
  have hk := id_rf hC
  unfold x0_arguments
  have hg1 : isCd a0 = true := h_a0
  refine tot_gd hg1 ?_
  refine tot_bd (t_x0_get hN hk.2 hg1) (fun r2 σ3 hp2 => ?_)
  have hk2 := id_tr hk hp2
  exact tot_some hk2

set_option maxHeartbeats 4000000 in
set_option maxRecDepth 100000 in
theorem t_x0_argument {N : Nat} (hN : 8589934592 ≤ N) {σ : St} {a0 : Nat} {a1 : Int32} {a2 : Int32} (hC : CP σ) (h_a0 : isCd a0 = true) : Tot (x0_argument N σ a0 a1 a2) (fun _ σ' => Id0 σ σ') := by
  have hk := id_rf hC
  unfold x0_argument
  have hg1 : isCd a0 = true := h_a0
  refine tot_gd hg1 ?_
  refine tot_bd (t_x0_get hN hk.2 hg1) (fun r2 σ3 hp2 => ?_)
  have hk2 := id_tr hk hp2
  exact tot_some hk2

theorem t_j_fillL_6 {N : Nat} : ∀ (n : Nat) (σ : St) (x0 : Nat) (x1 : Int64) (x3 : Int32), CP σ → isLA x0 = true → 0 ≤ x3.toInt → (2147483648 - x3.toInt).toNat < n → Tot (j_fillL_6 N n σ x0 x1 x3 (Int32.ofNat (lenC x0))) (fun _ σ' => Kp σ σ') := by
  intro n
  induction n with
  | zero => intro σ x0 x1 x3 hC h0 hn hm; exact absurd hm (Nat.not_lt_zero _)
  | succ n ih =>
    intro σ x0 x1 x3 hC h0 hn hm
    show Tot (j_fillL_6_b N (j_fillL_6 N n) σ x0 x1 x3 _) _
    unfold j_fillL_6_b
    refine tot_if (fun h => tot_some (kp_rf hC)) (fun h => ?_)
    refine tot_gd h0 (tot_gd (ib_n hn h rfl (lenC_lt _)) ?_)
    exact tot_k (kp_Z (kp_rf hC)) (ih _ _ _ _ hC h0 (nn_succ (lt_mx h) hn) (m_succ (lt_mx h) hm))
theorem t_j_fillL {N : Nat} (hN : 8589934592 ≤ N) {σ : St} {a1 : Nat} {a2 : Int64} (hC : CP σ) (h_a1 : isLA a1 = true) : Tot (j_fillL N σ a1 a2) (fun _ σ' => Kp σ σ') := by
  unfold j_fillL
  exact tot_gd h_a1 (t_j_fillL_6 N σ a1 a2 0 hC h_a1 (by decide) (m_N hN))

theorem t_j_fill_5 {N : Nat} : ∀ (n : Nat) (σ : St) (x0 : Nat) (x1 : Int32) (x2 : Int32), CP σ → isIA x0 = true → 0 ≤ x2.toInt → (2147483648 - x2.toInt).toNat < n → Tot (j_fill_5 N n σ x0 x1 x2 (Int32.ofNat (lenC x0))) (fun _ σ' => Kp σ σ') := by
  intro n
  induction n with
  | zero => intro σ x0 x1 x2 hC h0 hn hm; exact absurd hm (Nat.not_lt_zero _)
  | succ n ih =>
    intro σ x0 x1 x2 hC h0 hn hm
    show Tot (j_fill_5_b N (j_fill_5 N n) σ x0 x1 x2 _) _
    unfold j_fill_5_b
    refine tot_if (fun h => tot_some (kp_rf hC)) (fun h => ?_)
    refine tot_gd h0 (tot_gd (ib_n hn h rfl (lenC_lt _)) ?_)
    exact tot_k (kp_A (kp_rf hC)) (ih _ _ _ _ hC h0 (nn_succ (lt_mx h) hn) (m_succ (lt_mx h) hm))
theorem t_j_fill {N : Nat} (hN : 8589934592 ≤ N) {σ : St} {a1 : Nat} {a2 : Int32} (hC : CP σ) (h_a1 : isIA a1 = true) : Tot (j_fill N σ a1 a2) (fun _ σ' => Kp σ σ') := by
  unfold j_fill
  exact tot_gd h_a1 (t_j_fill_5 N σ a1 a2 0 hC h_a1 (by decide) (m_N hN))

set_option maxHeartbeats 4000000 in
set_option maxRecDepth 100000 in
theorem t_x1_clear {N : Nat} (hN : 8589934592 ≤ N) {σ : St} (hC : CP σ) : Tot (x1_clear N σ) (fun _ σ' => Kp σ σ') := by
  have hk := kp_rf hC
  unfold x1_clear
  have hg1 : isPr (gP σ 700) = true := (cp_700 hk.1)
  refine tot_gd hg1 ?_
  refine tot_bd (t_j_fillL hN (kp_I (kp_I (kp_P (k := 907) (v := (gP σ 700) + 1) (kp_P (k := 906) (v := gP σ 700) hk hg1) (isCd_of hg1)) (by decide) (by decide)) (by decide) (by decide)).1 ia_10) (fun _r2 σ3 hp2 => ?_)
  have hk2 := kp_tr (kp_I (kp_I (kp_P (k := 907) (v := (gP σ 700) + 1) (kp_P (k := 906) (v := gP σ 700) hk hg1) (isCd_of hg1)) (by decide) (by decide)) (by decide) (by decide)) hp2
  refine tot_bd (t_j_fill hN hk2.1 ia_11) (fun _r3 σ5 hp3 => ?_)
  have hk3 := kp_tr hk2 hp3
  refine tot_bd (t_j_fill hN hk3.1 ia_12) (fun _r4 σ7 hp4 => ?_)
  have hk4 := kp_tr hk3 hp4
  refine tot_bd (t_j_fill hN hk4.1 ia_13) (fun _r5 σ9 hp5 => ?_)
  have hk5 := kp_tr hk4 hp5
  refine tot_bd (t_j_fill hN hk5.1 ia_14) (fun _r6 σ11 hp6 => ?_)
  have hk6 := kp_tr hk5 hp6
  exact tot_some hk6

set_option maxHeartbeats 4000000 in
set_option maxRecDepth 100000 in
theorem t_x3_has {N : Nat} (hN : 8589934592 ≤ N) {σ : St} {a0 : Nat} {a1 : Int32} (hC : CP σ) (h_a0 : isPr a0 = true) : Tot (x3_has N σ a0 a1) (fun r σ' => Id0 σ σ' ∧ isb r = true) := by
  have hk := id_rf hC
  unfold x3_has
  refine tot_if (fun hc1 => ?_) (fun hc1 => ?_)
  · exact tot_some ⟨hk, rfl⟩
  · refine tot_if (fun hc2 => ?_) (fun hc2 => ?_)
    · exact tot_some ⟨hk, rfl⟩
    · have hg3 : isPr a0 = true := h_a0
      refine tot_gd hg3 ?_
      refine tot_if (fun hc4 => ?_) (fun hc4 => ?_)
      · exact tot_some ⟨hk, rfl⟩
      · exact tot_some ⟨hk, rfl⟩

set_option maxHeartbeats 4000000 in
set_option maxRecDepth 100000 in
theorem t_x5_at {N : Nat} (hN : 8589934592 ≤ N) {σ : St} {a1 : Nat} {a2 : Int32} (hC : CP σ) (h_a1 : isIA a1 = true) : Tot (x5_at N σ a1 a2) (fun _ σ' => Id0 σ σ') := by
  have hk := id_rf hC
  unfold x5_at
  refine tot_if (fun hc1 => ?_) (fun hc1 => ?_)
  · exact tot_some hk
  · have hg2 : isIA a1 = true := h_a1
    refine tot_gd hg2 ?_
    refine tot_if (fun hc3 => ?_) (fun hc3 => ?_)
    · exact tot_some hk
    · refine tot_gd (ib_c hc1 hc3 rfl (lenC_lt _)) ?_
      exact tot_some hk

set_option maxHeartbeats 4000000 in
set_option maxRecDepth 100000 in
theorem t_x7_outers_33 {N : Nat} (hN : 8589934592 ≤ N) {σ : St} {t0 : Int32} {t1 : Int32} (hC : CP σ) : Tot (x7_outers_33 N σ t0 t1) (fun _ σ' => Id0 σ σ') := by
  have hk := id_rf hC
  unfold x7_outers_33
  exact tot_some hk
set_option maxHeartbeats 4000000 in
set_option maxRecDepth 100000 in
theorem t_x7_outers {N : Nat} (hN : 8589934592 ≤ N) {σ : St} (hC : CP σ) : Tot (x7_outers N σ) (fun _ σ' => Id0 σ σ') := by
  have hk := id_rf hC
  unfold x7_outers
  have hg1 : isPr (gP σ 700) = true := (cp_700 hk.2)
  refine tot_gd hg1 ?_
  refine tot_bd (t_x5_at hN hk.2 (pr_ia2 hg1)) (fun r2 σ3 hp2 => ?_)
  have hk2 := id_tr hk hp2
  have hg3 : isPr (gP σ3 700) = true := (cp_700 hk2.2)
  refine tot_gd hg3 ?_
  refine tot_bd (t_x3_has hN hk2.2 hg3) (fun r5 σ6 hp4 => ?_)
  have hb_r5 := hp4.2
  have hk4 := id_tr hk2 hp4.1
  refine tot_if (fun hc5 => ?_) (fun hc5 => ?_)
  · exact tot_i hk4 (t_x7_outers_33 hN hk4.2)
  · exact tot_i hk4 (t_x7_outers_33 hN hk4.2)

set_option maxHeartbeats 4000000 in
set_option maxRecDepth 100000 in
theorem t_x5_put {N : Nat} (hN : 8589934592 ≤ N) {σ : St} {a1 : Nat} {a2 : Int32} {a3 : Int32} (hC : CP σ) (h_a1 : isIA a1 = true) : Tot (x5_put N σ a1 a2 a3) (fun _ σ' => Kp σ σ') := by
  have hk := kp_rf hC
  unfold x5_put
  refine tot_if (fun hc1 => ?_) (fun hc1 => ?_)
  · exact tot_some hk
  · have hg2 : isIA a1 = true := h_a1
    refine tot_gd hg2 ?_
    refine tot_if (fun hc3 => ?_) (fun hc3 => ?_)
    · exact tot_some hk
    · refine tot_gd (ib_c hc1 hc3 rfl (lenC_lt _)) ?_
      exact tot_some (kp_A hk)

set_option maxHeartbeats 4000000 in
set_option maxRecDepth 100000 in
theorem t_x1_raise_20 {N : Nat} (hN : 8589934592 ≤ N) {σ : St} {x1 : Int32} {t0 : Int32} (hC : CP σ) : Tot (x1_raise_20 N σ x1 t0) (fun _ σ' => Kp σ σ') := by
  have hk := kp_rf hC
  unfold x1_raise_20
  refine tot_bd (t_x5_at hN hk.1 ia_12) (fun r1 σ2 hp1 => ?_)
  have hk1 := kp_id hk hp1
  refine tot_if (fun hc2 => ?_) (fun hc2 => ?_)
  · exact tot_some hk1
  · refine tot_bd (t_x5_put hN hk1.1 ia_12) (fun _r3 σ4 hp3 => ?_)
    have hk3 := kp_tr hk1 hp3
    exact tot_some (kp_I (kp_I hk3 (by decide) (by decide)) (by decide) (by decide))
set_option maxHeartbeats 4000000 in
set_option maxRecDepth 100000 in
theorem t_x1_raise {N : Nat} (hN : 8589934592 ≤ N) {σ : St} {a1 : Int32} {a2 : Int32} (hC : CP σ) : Tot (x1_raise N σ a1 a2) (fun _ σ' => Kp σ σ') := by
  have hk := kp_rf hC
  unfold x1_raise
  refine tot_if (fun hc1 => ?_) (fun hc1 => ?_)
  · exact tot_k hk (t_x1_raise_20 hN hk.1)
  · exact tot_k hk (t_x1_raise_20 hN hk.1)

set_option maxHeartbeats 4000000 in
set_option maxRecDepth 100000 in
theorem t_x1_reachEntry_33_b {N : Nat} (hN : 8589934592 ≤ N) {rec33 : St → Int32 → Option (Unit × St)} {σ : St} {x1 : Int32} (hr33 : x1.toInt < 2147483647 → ∀ (σ2 : St), CP σ2 → Tot (rec33 σ2 (x1 + 1)) (fun _ σ' => Kp σ2 σ')) (hC : CP σ) : Tot (x1_reachEntry_33_b N rec33 σ x1) (fun _ σ' => Kp σ σ') := by
  have hk := kp_rf hC
  unfold x1_reachEntry_33_b
  refine tot_bd (t_x7_outers hN hk.1) (fun r4 σ5 hp1 => ?_)
  have hk1 := kp_id hk hp1
  refine tot_if (fun hc2 => ?_) (fun hc2 => ?_)
  · exact tot_some hk1
  · have hq33 := hr33 (lt_mx hc2)
    refine tot_bd (t_x5_at hN hk1.1 ia_8) (fun r6 σ7 hp3 => ?_)
    have hk3 := kp_id hk1 hp3
    refine tot_bd (t_x1_raise hN hk3.1) (fun _r4 σ9 hp4 => ?_)
    have hk4 := kp_tr hk3 hp4
    refine tot_bd (t_x1_raise hN hk4.1) (fun _r5 σ11 hp5 => ?_)
    have hk5 := kp_tr hk4 hp5
    refine tot_bd (t_x1_raise hN hk5.1) (fun _r6 σ13 hp6 => ?_)
    have hk6 := kp_tr hk5 hp6
    exact tot_k hk6 (hq33 _ hk6.1)
set_option maxHeartbeats 4000000 in
set_option maxRecDepth 100000 in
theorem t_x1_reachEntry_33 {N : Nat} (hN : 8589934592 ≤ N) : ∀ (n : Nat) (σ : St) (x1 : Int32), True → CP σ → (2147483648 - x1.toInt).toNat < n → Tot (x1_reachEntry_33 N n σ x1) (fun _ σ' => Kp σ σ') := by
  intro n
  induction n with
  | zero => intro σ x1 _ hC hm; exact absurd hm (Nat.not_lt_zero _)
  | succ n ih => intro σ x1 _ hC hm; exact t_x1_reachEntry_33_b hN (fun hlt σ2 hC2 => ih σ2 (x1 + 1) trivial hC2 (m_succ hlt hm)) hC
set_option maxHeartbeats 4000000 in
set_option maxRecDepth 100000 in
theorem t_x1_reachEntry {N : Nat} (hN : 8589934592 ≤ N) {σ : St} (hC : CP σ) : Tot (x1_reachEntry N σ) (fun _ σ' => Kp σ σ') := by
  have hk := kp_rf hC
  unfold x1_reachEntry
  have hg1 : isPr (gP σ 906) = true := (cp_906 hk.1)
  refine tot_gd hg1 ?_
  refine tot_bd (t_x3_has hN hk.1 hg1) (fun r2 σ3 hp2 => ?_)
  have hb_r2 := hp2.2
  have hk2 := kp_id hk hp2.1
  refine tot_if (fun hc3 => ?_) (fun hc3 => ?_)
  · exact tot_some hk2
  · exact tot_k (kp_I hk2 (by decide) (by decide)) (t_x1_reachEntry_33 hN N _ 0 trivial (kp_I hk2 (by decide) (by decide)).1 (m_N hN))

set_option maxHeartbeats 4000000 in
set_option maxRecDepth 100000 in
theorem t_x3_parameter {N : Nat} (hN : 8589934592 ≤ N) {σ : St} {a0 : Nat} {a1 : Int32} {a2 : Int32} (hC : CP σ) (h_a0 : isPr a0 = true) : Tot (x3_parameter N σ a0 a1 a2) (fun _ σ' => Id0 σ σ') := by
  have hk := id_rf hC
  unfold x3_parameter
  have hg1 : isPr a0 = true := h_a0
  refine tot_gd hg1 ?_
  refine tot_bd (t_x5_at hN hk.2 (pr_ia3 hg1)) (fun r2 σ3 hp2 => ?_)
  have hk2 := id_tr hk hp2
  exact tot_some hk2

set_option maxHeartbeats 4000000 in
set_option maxRecDepth 100000 in
theorem t_x1_with_47 {N : Nat} (hN : 8589934592 ≤ N) {σ : St} {x2 : Int32} {x3 : Int32} {x4 : Int64} {t0 : Int64} (hC : CP σ) : Tot (x1_with_47 N σ x2 x3 x4 t0) (fun _ σ' => Id0 σ σ') := by
  have hk := id_rf hC
  unfold x1_with_47
  refine tot_if (fun hc1 => ?_) (fun hc1 => ?_)
  · exact tot_some hk
  · exact tot_some hk
set_option maxHeartbeats 4000000 in
set_option maxRecDepth 100000 in
theorem t_x1_with {N : Nat} (hN : 8589934592 ≤ N) {σ : St} {a1 : Int64} {a2 : Int32} {a3 : Int32} (hC : CP σ) : Tot (x1_with N σ a1 a2 a3) (fun _ σ' => Id0 σ σ') := by
  have hk := id_rf hC
  unfold x1_with
  refine tot_if (fun hc1 => ?_) (fun hc1 => ?_)
  · exact tot_some hk
  · refine tot_if (fun hc2 => ?_) (fun hc2 => ?_)
    · exact tot_some hk
    · refine tot_if (fun hc3 => ?_) (fun hc3 => ?_)
      · exact tot_i hk (t_x1_with_47 hN hk.2)
      · exact tot_i hk (t_x1_with_47 hN hk.2)

set_option maxHeartbeats 4000000 in
set_option maxRecDepth 100000 in
theorem t_x1_join {N : Nat} (hN : 8589934592 ≤ N) {σ : St} {a1 : Int32} {a2 : Int64} (hC : CP σ) : Tot (x1_join N σ a1 a2) (fun _ σ' => Kp σ σ') := by
  have hk := kp_rf hC
  unfold x1_join
  refine tot_if (fun hc1 => ?_) (fun hc1 => ?_)
  · exact tot_some hk
  · refine tot_if (fun hc2 => ?_) (fun hc2 => ?_)
    · exact tot_some hk
    · refine tot_gd (ib_c hc1 hc2 (by decide) (by decide)) ?_
      refine tot_gd (ib_c hc1 hc2 (by decide) (by decide)) ?_
      refine tot_if (fun hc3 => ?_) (fun hc3 => ?_)
      · exact tot_some hk
      · refine tot_gd (ib_c hc1 hc2 (by decide) (by decide)) ?_
        refine tot_gd (ib_c hc1 hc2 (by decide) (by decide)) ?_
        refine tot_bd (t_x5_put hN (kp_Z hk).1 ia_11) (fun _r4 σ2 hp4 => ?_)
        have hk4 := kp_tr (kp_Z hk) hp4
        exact tot_some (kp_I hk4 (by decide) (by decide))

set_option maxHeartbeats 4000000 in
set_option maxRecDepth 100000 in
theorem t_x1_openRoutines_96 {N : Nat} (hN : 8589934592 ≤ N) {rec2 : St → Int32 → Option (Unit × St)} {σ : St} {x1 : Int32} (hq2 : ∀ (σ2 : St), CP σ2 → Tot (rec2 σ2 (x1 + 1)) (fun _ σ' => Kp σ2 σ')) (hC : CP σ) : Tot (x1_openRoutines_96 N rec2 σ x1) (fun _ σ' => Kp σ σ') := by
  have hk := kp_rf hC
  unfold x1_openRoutines_96
  exact tot_k hk (hq2 _ hk.1)
set_option maxHeartbeats 4000000 in
set_option maxRecDepth 100000 in
theorem t_x1_openRoutines_80 {N : Nat} (hN : 8589934592 ≤ N) {rec2 : St → Int32 → Option (Unit × St)} {σ : St} {x1 : Int32} {x2 : Int64} (hq2 : ∀ (σ2 : St), CP σ2 → Tot (rec2 σ2 (x1 + 1)) (fun _ σ' => Kp σ2 σ')) (hC : CP σ) : Tot (x1_openRoutines_80 N rec2 σ x1 x2) (fun _ σ' => Kp σ σ') := by
  have hk := kp_rf hC
  unfold x1_openRoutines_80
  have hg1 : isPr (gP σ 906) = true := (cp_906 hk.1)
  refine tot_gd hg1 ?_
  refine tot_bd (t_x5_at hN hk.1 (pr_ia1 hg1)) (fun r5 σ6 hp2 => ?_)
  have hk2 := kp_id hk hp2
  refine tot_bd (t_x1_join hN hk2.1) (fun _r3 σ8 hp3 => ?_)
  have hk3 := kp_tr hk2 hp3
  exact tot_k hk3 (t_x1_openRoutines_96 hN hq2 hk3.1)
set_option maxHeartbeats 4000000 in
set_option maxRecDepth 100000 in
theorem t_x1_openRoutines_26_b {N : Nat} (hN : 8589934592 ≤ N) {rec2 : St → Int32 → Option (Unit × St)} {rec26 : St → Int32 → Int64 → Int32 → Option (Unit × St)} {σ : St} {x1 : Int32} {x2 : Int64} {x4 : Int32} (hq2 : ∀ (σ2 : St), CP σ2 → Tot (rec2 σ2 (x1 + 1)) (fun _ σ' => Kp σ2 σ')) (hr26 : x4.toInt < 2147483647 → ∀ (σ2 : St) (zx2 : Int64), CP σ2 → Tot (rec26 σ2 x1 zx2 (x4 + 1)) (fun _ σ' => Kp σ2 σ')) (hC : CP σ) : Tot (x1_openRoutines_26_b N rec2 rec26 σ x1 x2 x4) (fun _ σ' => Kp σ σ') := by
  have hk := kp_rf hC
  unfold x1_openRoutines_26_b
  have hg1 : isPr (gP σ 906) = true := (cp_906 hk.1)
  refine tot_gd hg1 ?_
  refine tot_bd (t_x5_at hN hk.1 (pr_ia2 hg1)) (fun r2 σ3 hp2 => ?_)
  have hk2 := kp_id hk hp2
  refine tot_if (fun hc3 => ?_) (fun hc3 => ?_)
  · exact tot_k hk2 (t_x1_openRoutines_80 hN hq2 hk2.1)
  · have hq26 := hr26 (lt_mx hc3)
    refine tot_bd (t_x5_at hN hk2.1 ia_12) (fun r9 σ10 hp4 => ?_)
    have hk4 := kp_id hk2 hp4
    have hg5 : isPr (gP σ10 906) = true := (cp_906 hk4.1)
    refine tot_gd hg5 ?_
    refine tot_bd (t_x3_parameter hN hk4.1 hg5) (fun r12 σ13 hp6 => ?_)
    have hk6 := kp_id hk4 hp6
    refine tot_bd (t_x1_with hN hk6.1) (fun r14 σ15 hp7 => ?_)
    have hk7 := kp_id hk6 hp7
    exact tot_k hk7 (hq26 _ r14 hk7.1)
set_option maxHeartbeats 4000000 in
set_option maxRecDepth 100000 in
theorem t_x1_openRoutines_26 {N : Nat} (hN : 8589934592 ≤ N) {rec2 : St → Int32 → Option (Unit × St)} : ∀ (n : Nat) (σ : St) (x1 : Int32) (x2 : Int64) (x4 : Int32), (∀ (σ2 : St), CP σ2 → Tot (rec2 σ2 (x1 + 1)) (fun _ σ' => Kp σ2 σ')) → CP σ → (2147483648 - x4.toInt).toNat < n → Tot (x1_openRoutines_26 N rec2 n σ x1 x2 x4) (fun _ σ' => Kp σ σ') := by
  intro n
  induction n with
  | zero => intro σ x1 x2 x4 hq2 hC hm; exact absurd hm (Nat.not_lt_zero _)
  | succ n ih => intro σ x1 x2 x4 hq2 hC hm; exact t_x1_openRoutines_26_b hN hq2 (fun hlt σ2 zx2 hC2 => ih σ2 x1 zx2 (x4 + 1) hq2 hC2 (m_succ hlt hm)) hC
set_option maxHeartbeats 4000000 in
set_option maxRecDepth 100000 in
theorem t_x1_openRoutines_2_b {N : Nat} (hN : 8589934592 ≤ N) {rec2 : St → Int32 → Option (Unit × St)} {σ : St} {x1 : Int32} (hr2 : x1.toInt < 2147483647 → ∀ (σ2 : St), CP σ2 → Tot (rec2 σ2 (x1 + 1)) (fun _ σ' => Kp σ2 σ')) (hC : CP σ) : Tot (x1_openRoutines_2_b N rec2 σ x1) (fun _ σ' => Kp σ σ') := by
  have hk := kp_rf hC
  unfold x1_openRoutines_2_b
  refine tot_if (fun hc1 => ?_) (fun hc1 => ?_)
  · exact tot_some hk
  · have hq2 := hr2 (lt_mx hc1)
    refine tot_if (fun hc2 => ?_) (fun hc2 => ?_)
    · exact tot_k hk (t_x1_openRoutines_96 hN hq2 hk.1)
    · exact tot_k hk (t_x1_openRoutines_26 hN N _ x1 67108863 0 hq2 hk.1 (m_N hN))
set_option maxHeartbeats 4000000 in
set_option maxRecDepth 100000 in
theorem t_x1_openRoutines_2 {N : Nat} (hN : 8589934592 ≤ N) : ∀ (n : Nat) (σ : St) (x1 : Int32), True → CP σ → (2147483648 - x1.toInt).toNat < n → Tot (x1_openRoutines_2 N n σ x1) (fun _ σ' => Kp σ σ') := by
  intro n
  induction n with
  | zero => intro σ x1 _ hC hm; exact absurd hm (Nat.not_lt_zero _)
  | succ n ih => intro σ x1 _ hC hm; exact t_x1_openRoutines_2_b hN (fun hlt σ2 hC2 => ih σ2 (x1 + 1) trivial hC2 (m_succ hlt hm)) hC
set_option maxHeartbeats 4000000 in
set_option maxRecDepth 100000 in
theorem t_x1_openRoutines {N : Nat} (hN : 8589934592 ≤ N) {σ : St} (hC : CP σ) : Tot (x1_openRoutines N σ) (fun _ σ' => Kp σ σ') := by
  have hk := kp_rf hC
  unfold x1_openRoutines
  exact tot_k hk (t_x1_openRoutines_2 hN N _ 0 trivial hk.1 (m_N hN))

set_option maxHeartbeats 4000000 in
set_option maxRecDepth 100000 in
theorem t_x1_factOf {N : Nat} (hN : 8589934592 ≤ N) {σ : St} {a1 : Int64} {a2 : Int32} (hC : CP σ) : Tot (x1_factOf N σ a1 a2) (fun _ σ' => Id0 σ σ') := by
  have hk := id_rf hC
  unfold x1_factOf
  exact tot_some hk

set_option maxHeartbeats 4000000 in
set_option maxRecDepth 100000 in
theorem t_x1_narrow {N : Nat} (hN : 8589934592 ≤ N) {σ : St} {a1 : Int64} {a2 : Int32} {a3 : Int32} (hC : CP σ) : Tot (x1_narrow N σ a1 a2 a3) (fun _ σ' => Id0 σ σ') := by
  have hk := id_rf hC
  unfold x1_narrow
  refine tot_bd (t_x1_factOf hN hk.2) (fun r1 σ2 hp1 => ?_)
  have hk1 := id_tr hk hp1
  refine tot_bd (t_x1_with hN hk1.2) (fun r3 σ4 hp2 => ?_)
  have hk2 := id_tr hk1 hp2
  exact tot_some hk2

set_option maxHeartbeats 4000000 in
set_option maxRecDepth 100000 in
theorem t_x1_fork_94 {N : Nat} (hN : 8589934592 ≤ N) {σ : St} {x1 : Int32} {x6 : Int64} {x8 : Int64} {t0 : Int32} {t1 : Int32} (hC : CP σ) : Tot (x1_fork_94 N σ x1 x6 x8 t0 t1) (fun _ σ' => Kp σ σ') := by
  have hk := kp_rf hC
  unfold x1_fork_94
  have hg1 : isCd (gP σ 907) = true := (cp_907 hk.1)
  refine tot_gd hg1 ?_
  refine tot_bd (t_x0_get hN hk.1 hg1) (fun r8 σ9 hp2 => ?_)
  have hk2 := kp_id hk hp2
  refine tot_bd (t_x5_at hN hk2.1 ia_14) (fun r10 σ11 hp3 => ?_)
  have hk3 := kp_id hk2 hp3
  refine tot_bd (t_x5_put hN hk3.1 ia_14) (fun _r4 σ13 hp4 => ?_)
  have hk4 := kp_tr hk3 hp4
  refine tot_bd (t_x1_join hN hk4.1) (fun _r5 σ15 hp5 => ?_)
  have hk5 := kp_tr hk4 hp5
  have hg6 : isCd (gP σ15 907) = true := (cp_907 hk5.1)
  refine tot_gd hg6 ?_
  refine tot_bd (t_x0_get hN hk5.1 hg6) (fun r17 σ18 hp7 => ?_)
  have hk7 := kp_id hk5 hp7
  refine tot_bd (t_x1_join hN hk7.1) (fun _r8 σ20 hp8 => ?_)
  have hk8 := kp_tr hk7 hp8
  exact tot_some hk8
set_option maxHeartbeats 4000000 in
set_option maxRecDepth 100000 in
theorem t_x1_fork_82 {N : Nat} (hN : 8589934592 ≤ N) {σ : St} {x1 : Int32} {x6 : Int64} {x8 : Int64} {t0 : Int32} (hC : CP σ) : Tot (x1_fork_82 N σ x1 x6 x8 t0) (fun _ σ' => Kp σ σ') := by
  have hk := kp_rf hC
  unfold x1_fork_82
  refine tot_if (fun hc1 => ?_) (fun hc1 => ?_)
  · exact tot_k hk (t_x1_fork_94 hN hk.1)
  · exact tot_k hk (t_x1_fork_94 hN hk.1)
set_option maxHeartbeats 4000000 in
set_option maxRecDepth 100000 in
theorem t_x1_fork_70 {N : Nat} (hN : 8589934592 ≤ N) {σ : St} {x1 : Int32} {x6 : Int64} {x8 : Int64} (hC : CP σ) : Tot (x1_fork_70 N σ x1 x6 x8) (fun _ σ' => Kp σ σ') := by
  have hk := kp_rf hC
  unfold x1_fork_70
  refine tot_if (fun hc1 => ?_) (fun hc1 => ?_)
  · exact tot_k hk (t_x1_fork_82 hN hk.1)
  · exact tot_k hk (t_x1_fork_82 hN hk.1)
set_option maxHeartbeats 4000000 in
set_option maxRecDepth 100000 in
theorem t_x1_fork_46 {N : Nat} (hN : 8589934592 ≤ N) {σ : St} {x1 : Int32} {x2 : Int64} {x5 : Int32} {t0 : Int32} (hC : CP σ) : Tot (x1_fork_46 N σ x1 x2 x5 t0) (fun _ σ' => Kp σ σ') := by
  have hk := kp_rf hC
  unfold x1_fork_46
  refine tot_bd (t_x1_narrow hN hk.1) (fun r21 σ22 hp1 => ?_)
  have hk1 := kp_id hk hp1
  refine tot_bd (t_x1_narrow hN hk1.1) (fun r23 σ24 hp2 => ?_)
  have hk2 := kp_id hk1 hp2
  exact tot_k hk2 (t_x1_fork_70 hN hk2.1)
set_option maxHeartbeats 4000000 in
set_option maxRecDepth 100000 in
theorem t_x1_fork {N : Nat} (hN : 8589934592 ≤ N) {σ : St} {a1 : Int32} {a2 : Int64} (hC : CP σ) : Tot (x1_fork N σ a1 a2) (fun _ σ' => Kp σ σ') := by
  have hk := kp_rf hC
  unfold x1_fork
  have hg1 : isCd (gP σ 907) = true := (cp_907 hk.1)
  refine tot_gd hg1 ?_
  refine tot_bd (t_x0_get hN hk.1 hg1) (fun r2 σ3 hp2 => ?_)
  have hk2 := kp_id hk hp2
  have hg3 : isCd (gP σ3 907) = true := (cp_907 hk2.1)
  refine tot_gd hg3 ?_
  refine tot_bd (t_x0_get hN hk2.1 hg3) (fun r5 σ6 hp4 => ?_)
  have hk4 := kp_id hk2 hp4
  refine tot_if (fun hc5 => ?_) (fun hc5 => ?_)
  · exact tot_k hk4 (t_x1_fork_70 hN hk4.1)
  · refine tot_if (fun hc6 => ?_) (fun hc6 => ?_)
    · exact tot_k hk4 (t_x1_fork_46 hN hk4.1)
    · exact tot_k hk4 (t_x1_fork_46 hN hk4.1)

set_option maxHeartbeats 4000000 in
set_option maxRecDepth 100000 in
theorem t_x1_noteUse {N : Nat} (hN : 8589934592 ≤ N) {σ : St} {a1 : Int32} {a2 : Int32} (hC : CP σ) : Tot (x1_noteUse N σ a1 a2) (fun _ σ' => Kp σ σ') := by
  have hk := kp_rf hC
  unfold x1_noteUse
  refine tot_bd (t_x5_at hN hk.1 ia_13) (fun r1 σ2 hp1 => ?_)
  have hk1 := kp_id hk hp1
  refine tot_bd (t_x5_put hN hk1.1 ia_13) (fun _r2 σ4 hp2 => ?_)
  have hk2 := kp_tr hk1 hp2
  exact tot_some hk2

set_option maxHeartbeats 4000000 in
set_option maxRecDepth 100000 in
theorem t_x1_workCall_77 {N : Nat} (hN : 8589934592 ≤ N) {σ : St} {x4 : Int32} (hC : CP σ) : Tot (x1_workCall_77 N σ x4) (fun _ σ' => Kp σ σ') := by
  have hk := kp_rf hC
  unfold x1_workCall_77
  refine tot_bd (t_x5_at hN hk.1 ia_12) (fun r4 σ5 hp1 => ?_)
  have hk1 := kp_id hk hp1
  refine tot_if (fun hc2 => ?_) (fun hc2 => ?_)
  · exact tot_some (kp_L hk1)
  · exact tot_some hk1
set_option maxHeartbeats 4000000 in
set_option maxRecDepth 100000 in
theorem t_x1_workCall_33_b {N : Nat} (hN : 8589934592 ≤ N) {rec33 : St → Int32 → Int64 → Int32 → Int32 → Option (Int32 × St)} {σ : St} {x1 : Int32} {x2 : Int64} {x4 : Int32} {x5 : Int32} (hr33 : x5.toInt < 2147483647 → ∀ (σ2 : St), CP σ2 → Tot (rec33 σ2 x1 x2 x4 (x5 + 1)) (fun _ σ' => Kp σ2 σ')) (hC : CP σ) : Tot (x1_workCall_33_b N rec33 σ x1 x2 x4 x5) (fun _ σ' => Kp σ σ') := by
  have hk := kp_rf hC
  unfold x1_workCall_33_b
  have hg1 : isCd (gP σ 907) = true := (cp_907 hk.1)
  refine tot_gd hg1 ?_
  refine tot_bd (t_x0_arguments hN hk.1 hg1) (fun r2 σ3 hp2 => ?_)
  have hk2 := kp_id hk hp2
  refine tot_if (fun hc3 => ?_) (fun hc3 => ?_)
  · exact tot_k hk2 (t_x1_workCall_77 hN hk2.1)
  · have hq33 := hr33 (lt_mx hc3)
    have hg4 : isCd (gP σ3 907) = true := (cp_907 hk2.1)
    refine tot_gd hg4 ?_
    refine tot_bd (t_x0_argument hN hk2.1 hg4) (fun r7 σ8 hp5 => ?_)
    have hk5 := kp_id hk2 hp5
    refine tot_bd (t_x1_factOf hN hk5.1) (fun r9 σ10 hp6 => ?_)
    have hk6 := kp_id hk5 hp6
    refine tot_bd (t_x1_raise hN hk6.1) (fun _r7 σ12 hp7 => ?_)
    have hk7 := kp_tr hk6 hp7
    exact tot_k hk7 (hq33 _ hk7.1)
set_option maxHeartbeats 4000000 in
set_option maxRecDepth 100000 in
theorem t_x1_workCall_33 {N : Nat} (hN : 8589934592 ≤ N) : ∀ (n : Nat) (σ : St) (x1 : Int32) (x2 : Int64) (x4 : Int32) (x5 : Int32), True → CP σ → (2147483648 - x5.toInt).toNat < n → Tot (x1_workCall_33 N n σ x1 x2 x4 x5) (fun _ σ' => Kp σ σ') := by
  intro n
  induction n with
  | zero => intro σ x1 x2 x4 x5 _ hC hm; exact absurd hm (Nat.not_lt_zero _)
  | succ n ih => intro σ x1 x2 x4 x5 _ hC hm; exact t_x1_workCall_33_b hN (fun hlt σ2 hC2 => ih σ2 x1 x2 x4 (x5 + 1) trivial hC2 (m_succ hlt hm)) hC
set_option maxHeartbeats 4000000 in
set_option maxRecDepth 100000 in
theorem t_x1_workCall {N : Nat} (hN : 8589934592 ≤ N) {σ : St} {a1 : Int32} {a2 : Int64} {a3 : Int32} (hC : CP σ) : Tot (x1_workCall N σ a1 a2 a3) (fun _ σ' => Kp σ σ') := by
  have hk := kp_rf hC
  unfold x1_workCall
  refine tot_if (fun hc1 => ?_) (fun hc1 => ?_)
  · exact tot_k (kp_I (kp_I hk (by decide) (by decide)) (by decide) (by decide)) (t_x1_workCall_33 hN N _ a1 a2 a3 0 trivial (kp_I (kp_I hk (by decide) (by decide)) (by decide) (by decide)).1 (m_N hN))
  · exact tot_k hk (t_x1_workCall_33 hN N _ a1 a2 a3 0 trivial hk.1 (m_N hN))

set_option maxHeartbeats 4000000 in
set_option maxRecDepth 100000 in
theorem t_x1_work {N : Nat} (hN : 8589934592 ≤ N) {σ : St} {a1 : Int32} {a2 : Int64} (hC : CP σ) : Tot (x1_work N σ a1 a2) (fun _ σ' => Kp σ σ') := by
  have hk := kp_rf hC
  unfold x1_work
  have hg1 : isCd (gP σ 907) = true := (cp_907 hk.1)
  refine tot_gd hg1 ?_
  refine tot_bd (t_x0_get hN hk.1 hg1) (fun r2 σ3 hp2 => ?_)
  have hk2 := kp_id hk hp2
  have hg3 : isCd (gP σ3 907) = true := (cp_907 hk2.1)
  refine tot_gd hg3 ?_
  refine tot_bd (t_x0_get hN hk2.1 hg3) (fun r5 σ6 hp4 => ?_)
  have hk4 := kp_id hk2 hp4
  have hg5 : isCd (gP σ6 907) = true := (cp_907 hk4.1)
  refine tot_gd hg5 ?_
  refine tot_bd (t_x0_get hN (kp_L hk4).1 hg5) (fun r8 σ9 hp6 => ?_)
  have hk6 := kp_id (kp_L hk4) hp6
  refine tot_if (fun hc7 => ?_) (fun hc7 => ?_)
  · refine tot_bd (t_x1_raise hN hk6.1) (fun _r8 σ12 hp8 => ?_)
    have hk8 := kp_tr hk6 hp8
    refine tot_bd (t_x1_raise hN hk8.1) (fun _r9 σ14 hp9 => ?_)
    have hk9 := kp_tr hk8 hp9
    exact tot_some hk9
  · refine tot_if (fun hc10 => ?_) (fun hc10 => ?_)
    · refine tot_bd (t_x1_factOf hN hk6.1) (fun r16 σ17 hp11 => ?_)
      have hk11 := kp_id hk6 hp11
      refine tot_bd (t_x1_raise hN hk11.1) (fun _r12 σ19 hp12 => ?_)
      have hk12 := kp_tr hk11 hp12
      refine tot_bd (t_x1_factOf hN hk12.1) (fun r20 σ21 hp13 => ?_)
      have hk13 := kp_id hk12 hp13
      refine tot_bd (t_x1_raise hN hk13.1) (fun _r14 σ23 hp14 => ?_)
      have hk14 := kp_tr hk13 hp14
      exact tot_some hk14
    · refine tot_if (fun hc15 => ?_) (fun hc15 => ?_)
      · refine tot_bd (t_x1_factOf hN hk6.1) (fun r25 σ26 hp16 => ?_)
        have hk16 := kp_id hk6 hp16
        exact tot_some hk16
      · refine tot_if (fun hc17 => ?_) (fun hc17 => ?_)
        · have hg18 : isCd (gP σ9 907) = true := (cp_907 hk6.1)
          refine tot_gd hg18 ?_
          refine tot_bd (t_x0_get hN hk6.1 hg18) (fun r29 σ30 hp19 => ?_)
          have hk19 := kp_id hk6 hp19
          refine tot_bd (t_x1_factOf hN hk19.1) (fun r31 σ32 hp20 => ?_)
          have hk20 := kp_id hk19 hp20
          refine tot_bd (t_x1_noteUse hN hk20.1) (fun _r21 σ34 hp21 => ?_)
          have hk21 := kp_tr hk20 hp21
          refine tot_bd (t_x1_narrow hN hk21.1) (fun r35 σ36 hp22 => ?_)
          have hk22 := kp_id hk21 hp22
          refine tot_bd (t_x5_at hN (kp_L hk22).1 ia_12) (fun r37 σ38 hp23 => ?_)
          have hk23 := kp_id (kp_L hk22) hp23
          exact tot_some hk23
        · refine tot_if (fun hc24 => ?_) (fun hc24 => ?_)
          · refine tot_bd (t_x1_workCall hN hk6.1) (fun r40 σ41 hp25 => ?_)
            have hk25 := kp_tr hk6 hp25
            exact tot_some hk25
          · exact tot_some hk6

set_option maxHeartbeats 4000000 in
set_option maxRecDepth 100000 in
theorem t_x1_finish {N : Nat} (hN : 8589934592 ≤ N) {σ : St} {a1 : Int32} {a2 : Int32} {a3 : Int32} (hC : CP σ) : Tot (x1_finish N σ a1 a2 a3) (fun _ σ' => Kp σ σ') := by
  have hk := kp_rf hC
  unfold x1_finish
  have hg1 : isCd (gP σ 907) = true := (cp_907 hk.1)
  refine tot_gd hg1 ?_
  refine tot_bd (t_x0_get hN hk.1 hg1) (fun r2 σ3 hp2 => ?_)
  have hk2 := kp_id hk hp2
  refine tot_if (fun hc3 => ?_) (fun hc3 => ?_)
  · refine tot_bd (t_x1_with hN hk2.1) (fun r27 σ28 hp4 => ?_)
    have hk4 := kp_id hk2 hp4
    refine tot_bd (t_x1_join hN hk4.1) (fun _r5 σ30 hp5 => ?_)
    have hk5 := kp_tr hk4 hp5
    exact tot_some hk5
  · refine tot_if (fun hc6 => ?_) (fun hc6 => ?_)
    · have hg7 : isCd (gP σ3 907) = true := (cp_907 hk2.1)
      refine tot_gd hg7 ?_
      refine tot_bd (t_x0_get hN hk2.1 hg7) (fun r12 σ13 hp8 => ?_)
      have hk8 := kp_id hk2 hp8
      refine tot_bd (t_x1_factOf hN hk8.1) (fun r14 σ15 hp9 => ?_)
      have hk9 := kp_id hk8 hp9
      refine tot_bd (t_x1_noteUse hN hk9.1) (fun _r10 σ17 hp10 => ?_)
      have hk10 := kp_tr hk9 hp10
      refine tot_bd (t_x1_narrow hN hk10.1) (fun r18 σ19 hp11 => ?_)
      have hk11 := kp_id hk10 hp11
      refine tot_if (fun hc12 => ?_) (fun hc12 => ?_)
      · exact tot_some (kp_L hk11)
      · have hg13 : isCd (gP σ19 907) = true := (cp_907 hk11.1)
        refine tot_gd hg13 ?_
        refine tot_bd (t_x0_get hN (kp_L hk11).1 hg13) (fun r21 σ22 hp14 => ?_)
        have hk14 := kp_id (kp_L hk11) hp14
        refine tot_bd (t_x1_raise hN hk14.1) (fun _r15 σ24 hp15 => ?_)
        have hk15 := kp_tr hk14 hp15
        refine tot_bd (t_x1_join hN hk15.1) (fun _r16 σ26 hp16 => ?_)
        have hk16 := kp_tr hk15 hp16
        exact tot_some hk16
    · refine tot_if (fun hc17 => ?_) (fun hc17 => ?_)
      · have hg18 : isCd (gP σ3 907) = true := (cp_907 hk2.1)
        refine tot_gd hg18 ?_
        refine tot_bd (t_x0_get hN hk2.1 hg18) (fun r7 σ8 hp19 => ?_)
        have hk19 := kp_id hk2 hp19
        refine tot_bd (t_x1_raise hN hk19.1) (fun _r20 σ10 hp20 => ?_)
        have hk20 := kp_tr hk19 hp20
        exact tot_some hk20
      · refine tot_bd (t_x1_join hN hk2.1) (fun _r21 σ5 hp21 => ?_)
        have hk21 := kp_tr hk2 hp21
        exact tot_some hk21

set_option maxHeartbeats 4000000 in
set_option maxRecDepth 100000 in
theorem t_x1_advance {N : Nat} (hN : 8589934592 ≤ N) {σ : St} {a1 : Int32} {a2 : Int64} (hC : CP σ) : Tot (x1_advance N σ a1 a2) (fun _ σ' => Kp σ σ') := by
  have hk := kp_rf hC
  unfold x1_advance
  have hg1 : isCd (gP σ 907) = true := (cp_907 hk.1)
  refine tot_gd hg1 ?_
  refine tot_bd (t_x0_get hN hk.1 hg1) (fun r2 σ3 hp2 => ?_)
  have hk2 := kp_id hk hp2
  refine tot_if (fun hc3 => ?_) (fun hc3 => ?_)
  · have hg4 : isCd (gP σ3 907) = true := (cp_907 hk2.1)
    refine tot_gd hg4 ?_
    refine tot_bd (t_x0_get hN hk2.1 hg4) (fun r16 σ17 hp5 => ?_)
    have hk5 := kp_id hk2 hp5
    refine tot_bd (t_x1_join hN hk5.1) (fun _r6 σ19 hp6 => ?_)
    have hk6 := kp_tr hk5 hp6
    exact tot_some hk6
  · refine tot_if (fun hc7 => ?_) (fun hc7 => ?_)
    · have hg8 : isCd (gP σ3 907) = true := (cp_907 hk2.1)
      refine tot_gd hg8 ?_
      refine tot_bd (t_x0_get hN hk2.1 hg8) (fun r11 σ12 hp9 => ?_)
      have hk9 := kp_id hk2 hp9
      refine tot_bd (t_x1_raise hN hk9.1) (fun _r10 σ14 hp10 => ?_)
      have hk10 := kp_tr hk9 hp10
      exact tot_some hk10
    · refine tot_if (fun hc11 => ?_) (fun hc11 => ?_)
      · refine tot_bd (t_x1_fork hN hk2.1) (fun _r12 σ9 hp12 => ?_)
        have hk12 := kp_tr hk2 hp12
        exact tot_some hk12
      · refine tot_bd (t_x1_work hN hk2.1) (fun r4 σ5 hp13 => ?_)
        have hk13 := kp_tr hk2 hp13
        refine tot_if (fun hc14 => ?_) (fun hc14 => ?_)
        · exact tot_some hk13
        · refine tot_bd (t_x1_finish hN hk13.1) (fun _r15 σ7 hp15 => ?_)
          have hk15 := kp_tr hk13 hp15
          exact tot_some hk15

set_option maxHeartbeats 4000000 in
set_option maxRecDepth 100000 in
theorem t_x1_settle_145 {N : Nat} (hN : 8589934592 ≤ N) {rec37 : St → Int32 → Option (Unit × St)} {σ : St} {x3 : Int32} (hq37 : ∀ (σ2 : St), CP σ2 → Tot (rec37 σ2 (x3 + 1)) (fun _ σ' => Kp σ2 σ')) (hC : CP σ) : Tot (x1_settle_145 N rec37 σ x3) (fun _ σ' => Kp σ σ') := by
  have hk := kp_rf hC
  unfold x1_settle_145
  exact tot_k hk (hq37 _ hk.1)
set_option maxHeartbeats 4000000 in
set_option maxRecDepth 100000 in
theorem t_x1_settle_139 {N : Nat} (hN : 8589934592 ≤ N) {rec37 : St → Int32 → Option (Unit × St)} {rec63 : St → Int32 → Int32 → Option (Unit × St)} {σ : St} {x3 : Int32} {x4 : Int32} (hq37 : ∀ (σ2 : St), CP σ2 → Tot (rec37 σ2 (x3 + 1)) (fun _ σ' => Kp σ2 σ')) (hq63 : ∀ (σ2 : St), CP σ2 → Tot (rec63 σ2 x3 (x4 + 1)) (fun _ σ' => Kp σ2 σ')) (hC : CP σ) : Tot (x1_settle_139 N rec37 rec63 σ x3 x4) (fun _ σ' => Kp σ σ') := by
  have hk := kp_rf hC
  unfold x1_settle_139
  exact tot_k hk (hq63 _ hk.1)
set_option maxHeartbeats 4000000 in
set_option maxRecDepth 100000 in
theorem t_x1_settle_63_b {N : Nat} (hN : 8589934592 ≤ N) {rec37 : St → Int32 → Option (Unit × St)} {rec63 : St → Int32 → Int32 → Option (Unit × St)} {σ : St} {x3 : Int32} {x4 : Int32} (hq37 : ∀ (σ2 : St), CP σ2 → Tot (rec37 σ2 (x3 + 1)) (fun _ σ' => Kp σ2 σ')) (hr63 : x4.toInt < 2147483647 → ∀ (σ2 : St), CP σ2 → Tot (rec63 σ2 x3 (x4 + 1)) (fun _ σ' => Kp σ2 σ')) (hC : CP σ) (h_x4 : 0 ≤ x4.toInt) : Tot (x1_settle_63_b N rec37 rec63 σ x3 x4) (fun _ σ' => Kp σ σ') := by
  have hk := kp_rf hC
  unfold x1_settle_63_b
  have hg1 : isCd (gP σ 907) = true := (cp_907 hk.1)
  refine tot_gd hg1 ?_
  refine tot_if (fun hc2 => ?_) (fun hc2 => ?_)
  · exact tot_k hk (t_x1_settle_145 hN hq37 hk.1)
  · have hq63 := hr63 (lt_mx hc2)
    refine tot_if (fun hc3 => ?_) (fun hc3 => ?_)
    · exact tot_k hk (t_x1_settle_145 hN hq37 hk.1)
    · have hq63 := hr63 (lt_mx hc3)
      refine tot_gd (ib_n h_x4 hc3 (by decide) (by decide)) ?_
      refine tot_if (fun hc4 => ?_) (fun hc4 => ?_)
      · exact tot_k hk (t_x1_settle_139 hN hq37 hq63 hk.1)
      · refine tot_bd (t_x5_at hN hk.1 ia_11) (fun r8 σ9 hp5 => ?_)
        have hk5 := kp_id hk hp5
        refine tot_if (fun hc6 => ?_) (fun hc6 => ?_)
        · exact tot_k hk5 (t_x1_settle_139 hN hq37 hq63 hk5.1)
        · refine tot_bd (t_x5_put hN hk5.1 ia_11) (fun _r7 σ11 hp7 => ?_)
          have hk7 := kp_tr hk5 hp7
          refine tot_gd (ib_n h_x4 hc3 (by decide) (by decide)) ?_
          refine tot_bd (t_x1_advance hN hk7.1) (fun _r8 σ13 hp8 => ?_)
          have hk8 := kp_tr hk7 hp8
          exact tot_k hk8 (t_x1_settle_139 hN hq37 hq63 hk8.1)
set_option maxHeartbeats 4000000 in
set_option maxRecDepth 100000 in
theorem t_x1_settle_63 {N : Nat} (hN : 8589934592 ≤ N) {rec37 : St → Int32 → Option (Unit × St)} : ∀ (n : Nat) (σ : St) (x3 : Int32) (x4 : Int32), (∀ (σ2 : St), CP σ2 → Tot (rec37 σ2 (x3 + 1)) (fun _ σ' => Kp σ2 σ')) → CP σ → 0 ≤ x4.toInt → (2147483648 - x4.toInt).toNat < n → Tot (x1_settle_63 N rec37 n σ x3 x4) (fun _ σ' => Kp σ σ') := by
  intro n
  induction n with
  | zero => intro σ x3 x4 hq37 hC h_x4 hm; exact absurd hm (Nat.not_lt_zero _)
  | succ n ih => intro σ x3 x4 hq37 hC h_x4 hm; exact t_x1_settle_63_b hN hq37 (fun hlt σ2 hC2 => ih σ2 x3 (x4 + 1) hq37 hC2 (nn_succ hlt h_x4) (m_succ hlt hm)) hC h_x4
set_option maxHeartbeats 4000000 in
set_option maxRecDepth 100000 in
theorem t_x1_settle_37_b {N : Nat} (hN : 8589934592 ≤ N) {rec37 : St → Int32 → Option (Unit × St)} {σ : St} {x3 : Int32} (hr37 : x3.toInt < 2147483647 → ∀ (σ2 : St), CP σ2 → Tot (rec37 σ2 (x3 + 1)) (fun _ σ' => Kp σ2 σ')) (hC : CP σ) : Tot (x1_settle_37_b N rec37 σ x3) (fun _ σ' => Kp σ σ') := by
  have hk := kp_rf hC
  unfold x1_settle_37_b
  refine tot_if (fun hc1 => ?_) (fun hc1 => ?_)
  · exact tot_some (kp_I hk (by decide) (by decide))
  · have hq37 := hr37 (lt_mx hc1)
    refine tot_if (fun hc2 => ?_) (fun hc2 => ?_)
    · exact tot_some (kp_I hk (by decide) (by decide))
    · refine tot_bd (t_x1_openRoutines hN (kp_I hk (by decide) (by decide)).1) (fun _r3 σ6 hp3 => ?_)
      have hk3 := kp_tr (kp_I hk (by decide) (by decide)) hp3
      exact tot_k hk3 (t_x1_settle_63 hN N _ x3 0 hq37 hk3.1 (by decide) (m_N hN))
set_option maxHeartbeats 4000000 in
set_option maxRecDepth 100000 in
theorem t_x1_settle_37 {N : Nat} (hN : 8589934592 ≤ N) : ∀ (n : Nat) (σ : St) (x3 : Int32), True → CP σ → (2147483648 - x3.toInt).toNat < n → Tot (x1_settle_37 N n σ x3) (fun _ σ' => Kp σ σ') := by
  intro n
  induction n with
  | zero => intro σ x3 _ hC hm; exact absurd hm (Nat.not_lt_zero _)
  | succ n ih => intro σ x3 _ hC hm; exact t_x1_settle_37_b hN (fun hlt σ2 hC2 => ih σ2 (x3 + 1) trivial hC2 (m_succ hlt hm)) hC
set_option maxHeartbeats 4000000 in
set_option maxRecDepth 100000 in
theorem t_x1_settle_17 {N : Nat} (hN : 8589934592 ≤ N) {σ : St} {x1 : Int64} (hC : CP σ) : Tot (x1_settle_17 N σ x1) (fun _ σ' => Kp σ σ') := by
  have hk := kp_rf hC
  unfold x1_settle_17
  refine tot_bd (t_x1_clear hN hk.1) (fun _r1 σ2 hp1 => ?_)
  have hk1 := kp_tr hk hp1
  refine tot_bd (t_x1_reachEntry hN (kp_L hk1).1) (fun _r2 σ4 hp2 => ?_)
  have hk2 := kp_tr (kp_L hk1) hp2
  exact tot_k (kp_I hk2 (by decide) (by decide)) (t_x1_settle_37 hN N _ 0 trivial (kp_I hk2 (by decide) (by decide)).1 (m_N hN))
set_option maxHeartbeats 4000000 in
set_option maxRecDepth 100000 in
theorem t_x1_settle {N : Nat} (hN : 8589934592 ≤ N) {σ : St} {a1 : Int64} (hC : CP σ) : Tot (x1_settle N σ a1) (fun _ σ' => Kp σ σ') := by
  have hk := kp_rf hC
  unfold x1_settle
  refine tot_if (fun hc1 => ?_) (fun hc1 => ?_)
  · refine tot_if (fun hc2 => ?_) (fun hc2 => ?_)
    · exact tot_some hk
    · exact tot_k hk (t_x1_settle_17 hN hk.1)
  · exact tot_k hk (t_x1_settle_17 hN hk.1)

set_option maxHeartbeats 4000000 in
set_option maxRecDepth 100000 in
theorem t_x1_guardsNeeded_31 {N : Nat} (hN : 8589934592 ≤ N) {rec4 : St → Int32 → Int32 → Option (Int32 × St)} {σ : St} {x1 : Int32} {x2 : Int32} (hq4 : ∀ (σ2 : St) (zx1 : Int32), CP σ2 → Tot (rec4 σ2 zx1 (x2 + 1)) (fun _ σ' => Id0 σ2 σ')) (hC : CP σ) : Tot (x1_guardsNeeded_31 N rec4 σ x1 x2) (fun _ σ' => Id0 σ σ') := by
  have hk := id_rf hC
  unfold x1_guardsNeeded_31
  exact tot_i hk (hq4 _ x1 hk.2)
set_option maxHeartbeats 4000000 in
set_option maxRecDepth 100000 in
theorem t_x1_guardsNeeded_4_b {N : Nat} (hN : 8589934592 ≤ N) {rec4 : St → Int32 → Int32 → Option (Int32 × St)} {σ : St} {x1 : Int32} {x2 : Int32} (hr4 : x2.toInt < 2147483647 → ∀ (σ2 : St) (zx1 : Int32), CP σ2 → Tot (rec4 σ2 zx1 (x2 + 1)) (fun _ σ' => Id0 σ2 σ')) (hC : CP σ) : Tot (x1_guardsNeeded_4_b N rec4 σ x1 x2) (fun _ σ' => Id0 σ σ') := by
  have hk := id_rf hC
  unfold x1_guardsNeeded_4_b
  have hg1 : isPr (gP σ 906) = true := (cp_906 hk.2)
  refine tot_gd hg1 ?_
  refine tot_if (fun hc2 => ?_) (fun hc2 => ?_)
  · exact tot_some hk
  · have hq4 := hr4 (lt_mx hc2)
    refine tot_bd (t_x5_at hN hk.2 ia_13) (fun r2 σ3 hp3 => ?_)
    have hk3 := id_tr hk hp3
    refine tot_if (fun hc4 => ?_) (fun hc4 => ?_)
    · exact tot_i hk3 (t_x1_guardsNeeded_31 hN hq4 hk3.2)
    · exact tot_i hk3 (t_x1_guardsNeeded_31 hN hq4 hk3.2)
set_option maxHeartbeats 4000000 in
set_option maxRecDepth 100000 in
theorem t_x1_guardsNeeded_4 {N : Nat} (hN : 8589934592 ≤ N) : ∀ (n : Nat) (σ : St) (x1 : Int32) (x2 : Int32), True → CP σ → (2147483648 - x2.toInt).toNat < n → Tot (x1_guardsNeeded_4 N n σ x1 x2) (fun _ σ' => Id0 σ σ') := by
  intro n
  induction n with
  | zero => intro σ x1 x2 _ hC hm; exact absurd hm (Nat.not_lt_zero _)
  | succ n ih => intro σ x1 x2 _ hC hm; exact t_x1_guardsNeeded_4_b hN (fun hlt σ2 zx1 hC2 => ih σ2 zx1 (x2 + 1) trivial hC2 (m_succ hlt hm)) hC
set_option maxHeartbeats 4000000 in
set_option maxRecDepth 100000 in
theorem t_x1_guardsNeeded {N : Nat} (hN : 8589934592 ≤ N) {σ : St} (hC : CP σ) : Tot (x1_guardsNeeded N σ) (fun _ σ' => Id0 σ σ') := by
  have hk := id_rf hC
  unfold x1_guardsNeeded
  exact tot_i hk (t_x1_guardsNeeded_4 hN N _ 0 0 trivial hk.2 (m_N hN))

set_option maxHeartbeats 4000000 in
set_option maxRecDepth 100000 in
theorem t_x2_findCandidates_91 {N : Nat} (hN : 8589934592 ≤ N) {rec7 : St → Int32 → Option (Unit × St)} {σ : St} {x1 : Int32} (hq7 : ∀ (σ2 : St), CP σ2 → Tot (rec7 σ2 (x1 + 1)) (fun _ σ' => Kp σ2 σ')) (hC : CP σ) : Tot (x2_findCandidates_91 N rec7 σ x1) (fun _ σ' => Kp σ σ') := by
  have hk := kp_rf hC
  unfold x2_findCandidates_91
  exact tot_k hk (hq7 _ hk.1)
set_option maxHeartbeats 4000000 in
set_option maxRecDepth 100000 in
theorem t_x2_findCandidates_49 {N : Nat} (hN : 8589934592 ≤ N) {rec7 : St → Int32 → Option (Unit × St)} {σ : St} {x1 : Int32} {t0 : Int32} (hq7 : ∀ (σ2 : St), CP σ2 → Tot (rec7 σ2 (x1 + 1)) (fun _ σ' => Kp σ2 σ')) (hC : CP σ) : Tot (x2_findCandidates_49 N rec7 σ x1 t0) (fun _ σ' => Kp σ σ') := by
  have hk := kp_rf hC
  unfold x2_findCandidates_49
  refine tot_if (fun hc1 => ?_) (fun hc1 => ?_)
  · refine tot_bd (t_x5_at hN hk.1 ia_12) (fun r1 σ2 hp2 => ?_)
    have hk2 := kp_id hk hp2
    refine tot_if (fun hc3 => ?_) (fun hc3 => ?_)
    · refine tot_bd (t_x5_put hN hk2.1 ia_24) (fun _r4 σ4 hp4 => ?_)
      have hk4 := kp_tr hk2 hp4
      exact tot_k (kp_I hk4 (by decide) (by decide)) (t_x2_findCandidates_91 hN hq7 (kp_I hk4 (by decide) (by decide)).1)
    · exact tot_k hk2 (t_x2_findCandidates_91 hN hq7 hk2.1)
  · exact tot_k hk (t_x2_findCandidates_91 hN hq7 hk.1)
set_option maxHeartbeats 4000000 in
set_option maxRecDepth 100000 in
theorem t_x2_findCandidates_48 {N : Nat} (hN : 8589934592 ≤ N) {rec7 : St → Int32 → Option (Unit × St)} {σ : St} {x1 : Int32} (hq7 : ∀ (σ2 : St), CP σ2 → Tot (rec7 σ2 (x1 + 1)) (fun _ σ' => Kp σ2 σ')) (hC : CP σ) : Tot (x2_findCandidates_48 N rec7 σ x1) (fun _ σ' => Kp σ σ') := by
  have hk := kp_rf hC
  unfold x2_findCandidates_48
  exact tot_k hk (t_x2_findCandidates_49 hN hq7 hk.1)
set_option maxHeartbeats 4000000 in
set_option maxRecDepth 100000 in
theorem t_x2_findCandidates_7_b {N : Nat} (hN : 8589934592 ≤ N) {rec7 : St → Int32 → Option (Unit × St)} {σ : St} {x1 : Int32} (hr7 : x1.toInt < 2147483647 → ∀ (σ2 : St), CP σ2 → Tot (rec7 σ2 (x1 + 1)) (fun _ σ' => Kp σ2 σ')) (hC : CP σ) : Tot (x2_findCandidates_7_b N rec7 σ x1) (fun _ σ' => Kp σ σ') := by
  have hk := kp_rf hC
  unfold x2_findCandidates_7_b
  refine tot_if (fun hc1 => ?_) (fun hc1 => ?_)
  · exact tot_some hk
  · have hq7 := hr7 (lt_mx hc1)
    refine tot_if (fun hc2 => ?_) (fun hc2 => ?_)
    · exact tot_some hk
    · refine tot_if (fun hc3 => ?_) (fun hc3 => ?_)
      · exact tot_k hk (t_x2_findCandidates_48 hN hq7 hk.1)
      · have hq7 := hr7 (lt_mx hc3)
        refine tot_if (fun hc4 => ?_) (fun hc4 => ?_)
        · exact tot_k hk (t_x2_findCandidates_49 hN hq7 hk.1)
        · exact tot_k hk (t_x2_findCandidates_48 hN hq7 hk.1)
set_option maxHeartbeats 4000000 in
set_option maxRecDepth 100000 in
theorem t_x2_findCandidates_7 {N : Nat} (hN : 8589934592 ≤ N) : ∀ (n : Nat) (σ : St) (x1 : Int32), True → CP σ → (2147483648 - x1.toInt).toNat < n → Tot (x2_findCandidates_7 N n σ x1) (fun _ σ' => Kp σ σ') := by
  intro n
  induction n with
  | zero => intro σ x1 _ hC hm; exact absurd hm (Nat.not_lt_zero _)
  | succ n ih => intro σ x1 _ hC hm; exact t_x2_findCandidates_7_b hN (fun hlt σ2 hC2 => ih σ2 (x1 + 1) trivial hC2 (m_succ hlt hm)) hC
set_option maxHeartbeats 4000000 in
set_option maxRecDepth 100000 in
theorem t_x2_findCandidates {N : Nat} (hN : 8589934592 ≤ N) {σ : St} (hC : CP σ) : Tot (x2_findCandidates N σ) (fun _ σ' => Kp σ σ') := by
  have hk := kp_rf hC
  unfold x2_findCandidates
  exact tot_k (kp_I hk (by decide) (by decide)) (t_x2_findCandidates_7 hN N _ 0 trivial (kp_I hk (by decide) (by decide)).1 (m_N hN))

set_option maxHeartbeats 4000000 in
set_option maxRecDepth 100000 in
theorem t_x2_marksOf_37 {N : Nat} (hN : 8589934592 ≤ N) {rec5 : St → Int32 → Int64 → Int32 → Option (Int64 × St)} {σ : St} {x1 : Int32} {x2 : Int64} {x4 : Int32} (hq5 : ∀ (σ2 : St) (zx2 : Int64), CP σ2 → Tot (rec5 σ2 x1 zx2 (x4 + 1)) (fun _ σ' => Id0 σ2 σ')) (hC : CP σ) : Tot (x2_marksOf_37 N rec5 σ x1 x2 x4) (fun _ σ' => Id0 σ σ') := by
  have hk := id_rf hC
  unfold x2_marksOf_37
  exact tot_i hk (hq5 _ x2 hk.2)
set_option maxHeartbeats 4000000 in
set_option maxRecDepth 100000 in
theorem t_x2_marksOf_5_b {N : Nat} (hN : 8589934592 ≤ N) {rec5 : St → Int32 → Int64 → Int32 → Option (Int64 × St)} {σ : St} {x1 : Int32} {x2 : Int64} {x4 : Int32} (hr5 : x4.toInt < 2147483647 → ∀ (σ2 : St) (zx2 : Int64), CP σ2 → Tot (rec5 σ2 x1 zx2 (x4 + 1)) (fun _ σ' => Id0 σ2 σ')) (hC : CP σ) : Tot (x2_marksOf_5_b N rec5 σ x1 x2 x4) (fun _ σ' => Id0 σ σ') := by
  have hk := id_rf hC
  unfold x2_marksOf_5_b
  refine tot_if (fun hc1 => ?_) (fun hc1 => ?_)
  · exact tot_some hk
  · have hq5 := hr5 (lt_mx hc1)
    refine tot_if (fun hc2 => ?_) (fun hc2 => ?_)
    · exact tot_i hk (t_x2_marksOf_37 hN hq5 hk.2)
    · refine tot_bd (t_x5_at hN hk.2 ia_24) (fun r1 σ2 hp3 => ?_)
      have hk3 := id_tr hk hp3
      exact tot_i hk3 (t_x2_marksOf_37 hN hq5 hk3.2)
set_option maxHeartbeats 4000000 in
set_option maxRecDepth 100000 in
theorem t_x2_marksOf_5 {N : Nat} (hN : 8589934592 ≤ N) : ∀ (n : Nat) (σ : St) (x1 : Int32) (x2 : Int64) (x4 : Int32), True → CP σ → (2147483648 - x4.toInt).toNat < n → Tot (x2_marksOf_5 N n σ x1 x2 x4) (fun _ σ' => Id0 σ σ') := by
  intro n
  induction n with
  | zero => intro σ x1 x2 x4 _ hC hm; exact absurd hm (Nat.not_lt_zero _)
  | succ n ih => intro σ x1 x2 x4 _ hC hm; exact t_x2_marksOf_5_b hN (fun hlt σ2 zx2 hC2 => ih σ2 x1 zx2 (x4 + 1) trivial hC2 (m_succ hlt hm)) hC
set_option maxHeartbeats 4000000 in
set_option maxRecDepth 100000 in
theorem t_x2_marksOf {N : Nat} (hN : 8589934592 ≤ N) {σ : St} {a1 : Int32} (hC : CP σ) : Tot (x2_marksOf N σ a1) (fun _ σ' => Id0 σ σ') := by
  have hk := id_rf hC
  unfold x2_marksOf
  exact tot_i hk (t_x2_marksOf_5 hN N _ a1 0 0 trivial hk.2 (m_N hN))

set_option maxHeartbeats 4000000 in
set_option maxRecDepth 100000 in
theorem t_x2_priceKind {N : Nat} (hN : 8589934592 ≤ N) {σ : St} {a1 : Int32} (hC : CP σ) : Tot (x2_priceKind N σ a1) (fun _ σ' => Id0 σ σ') := by
  have hk := id_rf hC
  unfold x2_priceKind
  refine tot_if (fun hc1 => ?_) (fun hc1 => ?_)
  · refine tot_if (fun hc2 => ?_) (fun hc2 => ?_)
    · exact tot_some hk
    · exact tot_some hk
  · exact tot_some hk

set_option maxHeartbeats 4000000 in
set_option maxRecDepth 100000 in
theorem t_x2_priceOf_41 {N : Nat} (hN : 8589934592 ≤ N) {rec4 : St → Int32 → Int32 → Int32 → Option (Int32 × St)} {σ : St} {x1 : Int32} {x2 : Int32} {x3 : Int32} (hq4 : ∀ (σ2 : St) (zx2 : Int32), CP σ2 → Tot (rec4 σ2 x1 zx2 (x3 + 1)) (fun _ σ' => Id0 σ2 σ')) (hC : CP σ) : Tot (x2_priceOf_41 N rec4 σ x1 x2 x3) (fun _ σ' => Id0 σ σ') := by
  have hk := id_rf hC
  unfold x2_priceOf_41
  exact tot_i hk (hq4 _ x2 hk.2)
set_option maxHeartbeats 4000000 in
set_option maxRecDepth 100000 in
theorem t_x2_priceOf_4_b {N : Nat} (hN : 8589934592 ≤ N) {rec4 : St → Int32 → Int32 → Int32 → Option (Int32 × St)} {σ : St} {x1 : Int32} {x2 : Int32} {x3 : Int32} (hr4 : x3.toInt < 2147483647 → ∀ (σ2 : St) (zx2 : Int32), CP σ2 → Tot (rec4 σ2 x1 zx2 (x3 + 1)) (fun _ σ' => Id0 σ2 σ')) (hC : CP σ) : Tot (x2_priceOf_4_b N rec4 σ x1 x2 x3) (fun _ σ' => Id0 σ σ') := by
  have hk := id_rf hC
  unfold x2_priceOf_4_b
  refine tot_if (fun hc1 => ?_) (fun hc1 => ?_)
  · exact tot_some hk
  · have hq4 := hr4 (lt_mx hc1)
    refine tot_if (fun hc2 => ?_) (fun hc2 => ?_)
    · exact tot_i hk (t_x2_priceOf_41 hN hq4 hk.2)
    · refine tot_bd (t_x5_at hN hk.2 ia_24) (fun r1 σ2 hp3 => ?_)
      have hk3 := id_tr hk hp3
      refine tot_bd (t_x2_priceKind hN hk3.2) (fun r3 σ4 hp4 => ?_)
      have hk4 := id_tr hk3 hp4
      refine tot_bd (t_x5_at hN hk4.2 ia_23) (fun r5 σ6 hp5 => ?_)
      have hk5 := id_tr hk4 hp5
      exact tot_i hk5 (t_x2_priceOf_41 hN hq4 hk5.2)
set_option maxHeartbeats 4000000 in
set_option maxRecDepth 100000 in
theorem t_x2_priceOf_4 {N : Nat} (hN : 8589934592 ≤ N) : ∀ (n : Nat) (σ : St) (x1 : Int32) (x2 : Int32) (x3 : Int32), True → CP σ → (2147483648 - x3.toInt).toNat < n → Tot (x2_priceOf_4 N n σ x1 x2 x3) (fun _ σ' => Id0 σ σ') := by
  intro n
  induction n with
  | zero => intro σ x1 x2 x3 _ hC hm; exact absurd hm (Nat.not_lt_zero _)
  | succ n ih => intro σ x1 x2 x3 _ hC hm; exact t_x2_priceOf_4_b hN (fun hlt σ2 zx2 hC2 => ih σ2 x1 zx2 (x3 + 1) trivial hC2 (m_succ hlt hm)) hC
set_option maxHeartbeats 4000000 in
set_option maxRecDepth 100000 in
theorem t_x2_priceOf {N : Nat} (hN : 8589934592 ≤ N) {σ : St} {a1 : Int32} (hC : CP σ) : Tot (x2_priceOf N σ a1) (fun _ σ' => Id0 σ σ') := by
  have hk := id_rf hC
  unfold x2_priceOf
  exact tot_i hk (t_x2_priceOf_4 hN N _ a1 0 0 trivial hk.2 (m_N hN))

set_option maxHeartbeats 4000000 in
set_option maxRecDepth 100000 in
theorem t_x2_consider_41 {N : Nat} (hN : 8589934592 ≤ N) {σ : St} {x1 : Int32} {x2 : Int32} {x3 : Int32} (hC : CP σ) : Tot (x2_consider_41 N σ x1 x2 x3) (fun _ σ' => Kp σ σ') := by
  have hk := kp_rf hC
  unfold x2_consider_41
  exact tot_some (kp_I (kp_I (kp_I hk (by decide) (by decide)) (by decide) (by decide)) (by decide) (by decide))
set_option maxHeartbeats 4000000 in
set_option maxRecDepth 100000 in
theorem t_x2_consider {N : Nat} (hN : 8589934592 ≤ N) {σ : St} {a1 : Int32} {a2 : Int32} (hC : CP σ) : Tot (x2_consider N σ a1 a2) (fun _ σ' => Kp σ σ') := by
  have hk := kp_rf hC
  unfold x2_consider
  refine tot_bd (t_x2_priceOf hN hk.1) (fun r1 σ2 hp1 => ?_)
  have hk1 := kp_id hk hp1
  refine tot_bd (t_x5_at hN hk1.1 ia_23) (fun r3 σ4 hp2 => ?_)
  have hk2 := kp_id hk1 hp2
  refine tot_if (fun hc3 => ?_) (fun hc3 => ?_)
  · exact tot_k hk2 (t_x2_consider_41 hN hk2.1)
  · refine tot_if (fun hc4 => ?_) (fun hc4 => ?_)
    · refine tot_if (fun hc5 => ?_) (fun hc5 => ?_)
      · exact tot_some hk2
      · exact tot_k hk2 (t_x2_consider_41 hN hk2.1)
    · exact tot_some hk2

set_option maxHeartbeats 4000000 in
set_option maxRecDepth 100000 in
theorem t_x2_isTooDear_41 {N : Nat} (hN : 8589934592 ≤ N) {σ : St} (hC : CP σ) : Tot (x2_isTooDear_41 N σ) (fun r σ' => Id0 σ σ' ∧ isb r = true) := by
  have hk := id_rf hC
  unfold x2_isTooDear_41
  exact tot_some ⟨hk, rfl⟩
set_option maxHeartbeats 4000000 in
set_option maxRecDepth 100000 in
theorem t_x2_isTooDear {N : Nat} (hN : 8589934592 ≤ N) {σ : St} {a1 : Int32} {a2 : Int32} (hC : CP σ) : Tot (x2_isTooDear N σ a1 a2) (fun r σ' => Id0 σ σ' ∧ isb r = true) := by
  have hk := id_rf hC
  unfold x2_isTooDear
  refine tot_bd (t_x2_priceOf hN hk.2) (fun r1 σ2 hp1 => ?_)
  have hk1 := id_tr hk hp1
  refine tot_bd (t_x5_at hN hk1.2 ia_23) (fun r3 σ4 hp2 => ?_)
  have hk2 := id_tr hk1 hp2
  refine tot_if (fun hc3 => ?_) (fun hc3 => ?_)
  · exact tot_ib hk2 (t_x2_isTooDear_41 hN hk2.2)
  · refine tot_if (fun hc4 => ?_) (fun hc4 => ?_)
    · refine tot_if (fun hc5 => ?_) (fun hc5 => ?_)
      · exact tot_some ⟨hk2, rfl⟩
      · exact tot_ib hk2 (t_x2_isTooDear_41 hN hk2.2)
    · exact tot_some ⟨hk2, rfl⟩

theorem i_pred {x : Int32} (h : ¬ x ≤ 0) : (x + (-1)).toInt = x.toInt - 1 := by
  rw [Int32.le_iff_toInt_le] at h
  have h0 : (0 : Int32).toInt = 0 := by decide
  have h1 : (-1 : Int32).toInt = -1 := by decide
  have h2 := Int32.toInt_lt x
  rw [Int32.toInt_add, h1]
  exact Int.bmod_eq_of_le (by omega) (by omega)
theorem t_x2_nextBelow_5 {N : Nat} (hN : 8589934592 ≤ N) : ∀ (n : Nat) (σ : St) (x1 x2 x3 : Int32), CP σ → x3.toInt.toNat < n → Tot (x2_nextBelow_5 N n σ x1 x2 x3) (fun _ σ' => Id0 σ σ') := by
  intro n
  induction n with
  | zero => intro σ x1 x2 x3 hC hm; exact absurd hm (Nat.not_lt_zero _)
  | succ n ih =>
    intro σ x1 x2 x3 hC hm
    show Tot (x2_nextBelow_5_b N (x2_nextBelow_5 N n) σ x1 x2 x3) _
    unfold x2_nextBelow_5_b x2_nextBelow_48
    refine tot_if (fun h => tot_some (id_rf hC)) (fun h => ?_)
    have hd := i_pred h
    rw [Int32.le_iff_toInt_le] at h
    have h0 : (0 : Int32).toInt = 0 := by decide
    refine tot_if (fun _ => ?_) (fun _ => ih _ _ _ _ hC (by omega))
    refine tot_bd (t_x2_isTooDear hN hC) (fun r σ2 hp => ?_)
    obtain ⟨⟨rfl, hC2⟩, hb⟩ := hp
    exact tot_if (fun _ => ih _ _ _ _ hC (by omega)) (fun _ => tot_some (id_rf hC))
theorem t_x2_nextBelow {N : Nat} (hN : 8589934592 ≤ N) {σ : St} {a1 a2 : Int32} (hC : CP σ) : Tot (x2_nextBelow N σ a1 a2) (fun _ σ' => Id0 σ σ') := by
  unfold x2_nextBelow
  have := Int32.toInt_lt (gI σ 2205)
  exact t_x2_nextBelow_5 hN N σ a1 a2 _ hC (by omega)

set_option maxHeartbeats 4000000 in
set_option maxRecDepth 100000 in
theorem t_x2_nameOfMark {N : Nat} (hN : 8589934592 ≤ N) {σ : St} {a1 : Int32} (hC : CP σ) : Tot (x2_nameOfMark N σ a1) (fun _ σ' => Id0 σ σ') := by
  have hk := id_rf hC
  unfold x2_nameOfMark
  refine tot_if (fun hc1 => ?_) (fun hc1 => ?_)
  · refine tot_if (fun hc2 => ?_) (fun hc2 => ?_)
    · exact tot_some hk
    · exact tot_some hk
  · exact tot_some hk

set_option maxHeartbeats 4000000 in
set_option maxRecDepth 100000 in
theorem t_x2_nameHeld_58 {N : Nat} (hN : 8589934592 ≤ N) {rec7 : St → Int32 → Option (Unit × St)} {σ : St} {x1 : Int32} (hq7 : ∀ (σ2 : St), CP σ2 → Tot (rec7 σ2 (x1 + 1)) (fun _ σ' => Kp σ2 σ')) (hC : CP σ) : Tot (x2_nameHeld_58 N rec7 σ x1) (fun _ σ' => Kp σ σ') := by
  have hk := kp_rf hC
  unfold x2_nameHeld_58
  exact tot_k hk (hq7 _ hk.1)
set_option maxHeartbeats 4000000 in
set_option maxRecDepth 100000 in
theorem t_x2_nameHeld_7_b {N : Nat} (hN : 8589934592 ≤ N) {rec7 : St → Int32 → Option (Unit × St)} {σ : St} {x1 : Int32} (hr7 : x1.toInt < 2147483647 → ∀ (σ2 : St), CP σ2 → Tot (rec7 σ2 (x1 + 1)) (fun _ σ' => Kp σ2 σ')) (hC : CP σ) : Tot (x2_nameHeld_7_b N rec7 σ x1) (fun _ σ' => Kp σ σ') := by
  have hk := kp_rf hC
  unfold x2_nameHeld_7_b
  refine tot_if (fun hc1 => ?_) (fun hc1 => ?_)
  · exact tot_some hk
  · have hq7 := hr7 (lt_mx hc1)
    refine tot_if (fun hc2 => ?_) (fun hc2 => ?_)
    · exact tot_k hk (t_x2_nameHeld_58 hN hq7 hk.1)
    · refine tot_bd (t_x5_at hN hk.1 ia_24) (fun r1 σ2 hp3 => ?_)
      have hk3 := kp_id hk hp3
      refine tot_bd (t_x2_nameOfMark hN hk3.1) (fun r3 σ4 hp4 => ?_)
      have hk4 := kp_id hk3 hp4
      refine tot_bd (t_x5_put hN hk4.1 ia_25) (fun _r5 σ6 hp5 => ?_)
      have hk5 := kp_tr hk4 hp5
      exact tot_k (kp_I hk5 (by decide) (by decide)) (t_x2_nameHeld_58 hN hq7 (kp_I hk5 (by decide) (by decide)).1)
set_option maxHeartbeats 4000000 in
set_option maxRecDepth 100000 in
theorem t_x2_nameHeld_7 {N : Nat} (hN : 8589934592 ≤ N) : ∀ (n : Nat) (σ : St) (x1 : Int32), True → CP σ → (2147483648 - x1.toInt).toNat < n → Tot (x2_nameHeld_7 N n σ x1) (fun _ σ' => Kp σ σ') := by
  intro n
  induction n with
  | zero => intro σ x1 _ hC hm; exact absurd hm (Nat.not_lt_zero _)
  | succ n ih => intro σ x1 _ hC hm; exact t_x2_nameHeld_7_b hN (fun hlt σ2 hC2 => ih σ2 (x1 + 1) trivial hC2 (m_succ hlt hm)) hC
set_option maxHeartbeats 4000000 in
set_option maxRecDepth 100000 in
theorem t_x2_nameHeld {N : Nat} (hN : 8589934592 ≤ N) {σ : St} (hC : CP σ) : Tot (x2_nameHeld N σ) (fun _ σ' => Kp σ σ') := by
  have hk := kp_rf hC
  unfold x2_nameHeld
  exact tot_k (kp_I hk (by decide) (by decide)) (t_x2_nameHeld_7 hN N _ 0 trivial (kp_I hk (by decide) (by decide)).1 (m_N hN))

theorem t_x2_search_62 {N : Nat} (hN : 8589934592 ≤ N) : ∀ (n : Nat) (σ : St) (x1 : Int32), CP σ → x1.toInt.toNat < n → Tot (x2_search_62 N n σ x1) (fun _ σ' => Kp σ σ') := by
  intro n
  induction n with
  | zero => intro σ x1 hC hm; exact absurd hm (Nat.not_lt_zero _)
  | succ n ih =>
    intro σ x1 hC hm
    show Tot (x2_search_62_b N (x2_search_62 N n) σ x1) _
    unfold x2_search_62_b x2_search_108
    refine tot_if (fun h => ?_) (fun h => ?_)
    · refine tot_bd (t_x2_nameHeld hN hC) (fun _ σ1 hp => ?_)
      exact tot_some (kp_I (kp_tr (kp_rf hC) hp) (by decide) (by decide))
    · have hd : (x1 - 1).toInt = x1.toInt - 1 := by
        have := i_pred h
        rw [show x1 + (-1) = x1 - 1 from (Int32.sub_eq_add_neg x1 1).symm] at this
        exact this
      rw [Int32.le_iff_toInt_le] at h
      have h0 : (0 : Int32).toInt = 0 := by decide
      refine tot_bd (t_x2_marksOf hN hC) (fun r1 σ1 hp1 => ?_)
      obtain ⟨rfl, hC1⟩ := hp1
      refine tot_bd (t_x1_settle hN hC) (fun _ σ2 hp2 => ?_)
      refine tot_bd (t_x1_guardsNeeded hN hp2.1) (fun r3 σ3 hp3 => ?_)
      obtain ⟨rfl, hC3⟩ := hp3
      refine tot_bd (t_x2_consider hN hC3) (fun _ σ4 hp4 => ?_)
      refine tot_bd (t_x2_nextBelow hN hp4.1) (fun r5 σ5 hp5 => ?_)
      obtain ⟨rfl, hC5⟩ := hp5
      refine tot_k (kp_tr hp2 hp4) (ih _ _ hC5 ?_)
      split
      · rename_i hlt
        rw [Int32.lt_iff_toInt_lt] at hlt
        omega
      · omega
theorem t_x2_search {N : Nat} (hN : 8589934592 ≤ N) {σ : St} (hC : CP σ) : Tot (x2_search N σ) (fun _ σ' => Kp σ σ') := by
  unfold x2_search
  refine tot_if (fun _ => tot_some (kp_rf hC)) (fun _ => ?_)
  refine tot_bd (t_x1_settle hN hC) (fun _ σ2 hp2 => ?_)
  refine tot_bd (t_x2_findCandidates hN hp2.1) (fun _ σ4 hp4 => ?_)
  have hk4 := kp_tr hp2 hp4
  refine tot_bd (t_x1_guardsNeeded hN (σ := sI σ4 2206 0) hk4.1) (fun r5 σ6 hp6 => ?_)
  obtain ⟨rfl, hC6⟩ := hp6
  refine tot_bd (t_x5_at hN (σ := sI (sI σ4 2206 0) 2208 r5) hk4.1 ia_23) (fun r7 σ8 hp8 => ?_)
  obtain ⟨rfl, hC8⟩ := hp8
  have := Int32.toInt_lt (((1 : Int32) <<< ((gI (sI (sI σ4 2206 0) 2208 r5) 2205) &&& 31)) - 1)
  exact tot_k (kp_I (kp_I (kp_I hk4 (by decide) (by decide)) (by decide) (by decide)) (by decide) (by decide)) (t_x2_search_62 hN N _ _ hk4.1 (by omega))

set_option maxHeartbeats 4000000 in
set_option maxRecDepth 100000 in
theorem t_x3_clear {N : Nat} (hN : 8589934592 ≤ N) {σ : St} {a0 : Nat} (hC : CP σ) (h_a0 : isPr a0 = true) : Tot (x3_clear N σ a0) (fun _ σ' => Kp σ σ') := by
  have hk := kp_rf hC
  unfold x3_clear
  have hg1 : isPr a0 = true := h_a0
  refine tot_gd hg1 ?_
  exact tot_some (kp_I (kp_I (kp_I (kp_I (kp_I (kp_I hk (cd_n (isCd_of hg1) (by decide)) (cd_n (isCd_of hg1) (by decide))) (pr_n hg1 (by decide)) (pr_n hg1 (by decide))) (pr_n hg1 (by decide)) (pr_n hg1 (by decide))) (pr_n hg1 (by decide)) (pr_n hg1 (by decide))) (pr_n hg1 (by decide)) (pr_n hg1 (by decide))) (pr_n hg1 (by decide)) (pr_n hg1 (by decide)))

set_option maxHeartbeats 4000000 in
set_option maxRecDepth 100000 in
theorem t_x3_addRoutine_12 {N : Nat} (hN : 8589934592 ≤ N) {σ : St} {x0 : Nat} {x1 : Int32} (hC : CP σ) (h_x0 : isPr x0 = true) : Tot (x3_addRoutine_12 N σ x0 x1) (fun _ σ' => Kp σ σ') := by
  have hk := kp_rf hC
  unfold x3_addRoutine_12
  have hg1 : isPr x0 = true := h_x0
  refine tot_gd hg1 ?_
  refine tot_bd (t_x5_put hN (kp_I (kp_I hk (pr_n hg1 (by decide)) (pr_n hg1 (by decide))) (pr_n hg1 (by decide)) (pr_n hg1 (by decide))).1 (pr_ia1 hg1)) (fun _r2 σ4 hp2 => ?_)
  have hk2 := kp_tr (kp_I (kp_I hk (pr_n hg1 (by decide)) (pr_n hg1 (by decide))) (pr_n hg1 (by decide)) (pr_n hg1 (by decide))) hp2
  refine tot_bd (t_x5_put hN hk2.1 (pr_ia2 hg1)) (fun _r3 σ6 hp3 => ?_)
  have hk3 := kp_tr hk2 hp3
  exact tot_some hk3
set_option maxHeartbeats 4000000 in
set_option maxRecDepth 100000 in
theorem t_x3_addRoutine {N : Nat} (hN : 8589934592 ≤ N) {σ : St} {a0 : Nat} {a1 : Int32} (hC : CP σ) (h_a0 : isPr a0 = true) : Tot (x3_addRoutine N σ a0 a1) (fun _ σ' => Kp σ σ') := by
  have hk := kp_rf hC
  unfold x3_addRoutine
  have hg1 : isPr a0 = true := h_a0
  refine tot_gd hg1 ?_
  refine tot_if (fun hc2 => ?_) (fun hc2 => ?_)
  · exact tot_k (kp_I hk (pr_n hg1 (by decide)) (pr_n hg1 (by decide))) (t_x3_addRoutine_12 hN (kp_I hk (pr_n hg1 (by decide)) (pr_n hg1 (by decide))).1 hg1)
  · exact tot_k hk (t_x3_addRoutine_12 hN hk.1 hg1)

set_option maxHeartbeats 4000000 in
set_option maxRecDepth 100000 in
theorem t_x3_addParameter {N : Nat} (hN : 8589934592 ≤ N) {σ : St} {a0 : Nat} {a1 : Int32} {a2 : Int32} (hC : CP σ) (h_a0 : isPr a0 = true) : Tot (x3_addParameter N σ a0 a1 a2) (fun _ σ' => Kp σ σ') := by
  have hk := kp_rf hC
  unfold x3_addParameter
  have hg1 : isPr a0 = true := h_a0
  refine tot_gd hg1 ?_
  refine tot_bd (t_x5_at hN hk.1 (pr_ia2 hg1)) (fun r2 σ3 hp2 => ?_)
  have hk2 := kp_id hk hp2
  refine tot_bd (t_x5_put hN hk2.1 (pr_ia3 hg1)) (fun _r3 σ5 hp3 => ?_)
  have hk3 := kp_tr hk2 hp3
  refine tot_bd (t_x5_put hN hk3.1 (pr_ia2 hg1)) (fun _r4 σ7 hp4 => ?_)
  have hk4 := kp_tr hk3 hp4
  exact tot_some hk4

set_option maxHeartbeats 4000000 in
set_option maxRecDepth 100000 in
theorem t_x3_hasParameter_2_b {N : Nat} (hN : 8589934592 ≤ N) {rec2 : St → Nat → Int32 → Int32 → Int32 → Option (Int32 × St)} {σ : St} {x0 : Nat} {x1 : Int32} {x2 : Int32} {x3 : Int32} (hr2 : x3.toInt < 2147483647 → ∀ (σ2 : St), CP σ2 → Tot (rec2 σ2 x0 x1 x2 (x3 + 1)) (fun r σ' => Id0 σ2 σ' ∧ isb r = true)) (hC : CP σ) (h_x0 : isPr x0 = true) : Tot (x3_hasParameter_2_b N rec2 σ x0 x1 x2 x3) (fun r σ' => Id0 σ σ' ∧ isb r = true) := by
  have hk := id_rf hC
  unfold x3_hasParameter_2_b
  have hg1 : isPr x0 = true := h_x0
  refine tot_gd hg1 ?_
  refine tot_bd (t_x5_at hN hk.2 (pr_ia2 hg1)) (fun r2 σ3 hp2 => ?_)
  have hk2 := id_tr hk hp2
  refine tot_if (fun hc3 => ?_) (fun hc3 => ?_)
  · exact tot_some ⟨hk2, rfl⟩
  · have hq2 := hr2 (lt_mx hc3)
    refine tot_if (fun hc4 => ?_) (fun hc4 => ?_)
    · exact tot_some ⟨hk2, rfl⟩
    · have hq2 := hr2 (lt_mx hc4)
      refine tot_bd (t_x3_parameter hN hk2.2 hg1) (fun r4 σ5 hp5 => ?_)
      have hk5 := id_tr hk2 hp5
      refine tot_if (fun hc6 => ?_) (fun hc6 => ?_)
      · exact tot_some ⟨hk5, rfl⟩
      · exact tot_ib hk5 (hq2 _ hk5.2)
set_option maxHeartbeats 4000000 in
set_option maxRecDepth 100000 in
theorem t_x3_hasParameter_2 {N : Nat} (hN : 8589934592 ≤ N) : ∀ (n : Nat) (σ : St) (x0 : Nat) (x1 : Int32) (x2 : Int32) (x3 : Int32), True → CP σ → isPr x0 = true → (2147483648 - x3.toInt).toNat < n → Tot (x3_hasParameter_2 N n σ x0 x1 x2 x3) (fun r σ' => Id0 σ σ' ∧ isb r = true) := by
  intro n
  induction n with
  | zero => intro σ x0 x1 x2 x3 _ hC h_x0 hm; exact absurd hm (Nat.not_lt_zero _)
  | succ n ih => intro σ x0 x1 x2 x3 _ hC h_x0 hm; exact t_x3_hasParameter_2_b hN (fun hlt σ2 hC2 => ih σ2 x0 x1 x2 (x3 + 1) trivial hC2 h_x0 (m_succ hlt hm)) hC h_x0
set_option maxHeartbeats 4000000 in
set_option maxRecDepth 100000 in
theorem t_x3_hasParameter {N : Nat} (hN : 8589934592 ≤ N) {σ : St} {a0 : Nat} {a1 : Int32} {a2 : Int32} (hC : CP σ) (h_a0 : isPr a0 = true) : Tot (x3_hasParameter N σ a0 a1 a2) (fun r σ' => Id0 σ σ' ∧ isb r = true) := by
  have hk := id_rf hC
  unfold x3_hasParameter
  exact tot_ib hk (t_x3_hasParameter_2 hN N _ a0 a1 a2 0 trivial hk.2 h_a0 (m_N hN))

set_option maxHeartbeats 4000000 in
set_option maxRecDepth 100000 in
theorem t_x3_addUse {N : Nat} (hN : 8589934592 ≤ N) {σ : St} {a0 : Nat} {a1 : Int32} {a2 : Int32} {a3 : Int32} (hC : CP σ) (h_a0 : isPr a0 = true) : Tot (x3_addUse N σ a0 a1 a2 a3) (fun _ σ' => Kp σ σ') := by
  have hk := kp_rf hC
  unfold x3_addUse
  have hg1 : isPr a0 = true := h_a0
  refine tot_gd hg1 ?_
  refine tot_if (fun hc2 => ?_) (fun hc2 => ?_)
  · exact tot_some hk
  · refine tot_if (fun hc3 => ?_) (fun hc3 => ?_)
    · refine tot_gd (ib_d hc2 hc3 (by decide) (by decide)) ?_
      refine tot_gd (ib_d hc2 hc3 (by decide) (by decide)) ?_
      refine tot_gd (ib_d hc2 hc3 (by decide) (by decide)) ?_
      exact tot_some (kp_I (kp_A (kp_A (kp_A hk))) (pr_n hg1 (by decide)) (pr_n hg1 (by decide)))
    · exact tot_some hk

set_option maxHeartbeats 4000000 in
set_option maxRecDepth 100000 in
theorem t_x3_addTest {N : Nat} (hN : 8589934592 ≤ N) {σ : St} {a0 : Nat} {a1 : Int32} {a2 : Int32} (hC : CP σ) (h_a0 : isPr a0 = true) : Tot (x3_addTest N σ a0 a1 a2) (fun _ σ' => Kp σ σ') := by
  have hk := kp_rf hC
  unfold x3_addTest
  have hg1 : isPr a0 = true := h_a0
  refine tot_gd hg1 ?_
  refine tot_if (fun hc2 => ?_) (fun hc2 => ?_)
  · exact tot_some hk
  · refine tot_if (fun hc3 => ?_) (fun hc3 => ?_)
    · refine tot_gd (ib_d hc2 hc3 (by decide) (by decide)) ?_
      refine tot_gd (ib_d hc2 hc3 (by decide) (by decide)) ?_
      exact tot_some (kp_I (kp_A (kp_A hk)) (pr_n hg1 (by decide)) (pr_n hg1 (by decide)))
    · exact tot_some hk

set_option maxHeartbeats 4000000 in
set_option maxRecDepth 100000 in
theorem t_x8_kindAt {N : Nat} (hN : 8589934592 ≤ N) {σ : St} {a1 : Int32} (hC : CP σ) : Tot (x8_kindAt N σ a1) (fun _ σ' => Id0 σ σ') := by
  have hk := id_rf hC
  unfold x8_kindAt
  refine tot_if (fun hc1 => ?_) (fun hc1 => ?_)
  · exact tot_some hk
  · refine tot_if (fun hc2 => ?_) (fun hc2 => ?_)
    · exact tot_some hk
    · refine tot_if (fun hc3 => ?_) (fun hc3 => ?_)
      · exact tot_some hk
      · refine tot_gd (ib_c hc1 hc3 (by decide) (by decide)) ?_
        exact tot_some hk

set_option maxHeartbeats 4000000 in
set_option maxRecDepth 100000 in
theorem t_x4_seen {N : Nat} (hN : 8589934592 ≤ N) {σ : St} {a1 : Int32} (hC : CP σ) : Tot (x4_seen N σ a1) (fun r σ' => Id0 σ σ' ∧ isb r = true) := by
  have hk := id_rf hC
  unfold x4_seen
  refine tot_bd (t_x8_kindAt hN hk.2) (fun r1 σ2 hp1 => ?_)
  have hk1 := id_tr hk hp1
  refine tot_if (fun hc2 => ?_) (fun hc2 => ?_)
  · exact tot_some ⟨hk1, rfl⟩
  · exact tot_some ⟨hk1, rfl⟩

set_option maxHeartbeats 4000000 in
set_option maxRecDepth 100000 in
theorem t_x8_placeAt {N : Nat} (hN : 8589934592 ≤ N) {σ : St} {a1 : Int32} (hC : CP σ) : Tot (x8_placeAt N σ a1) (fun _ σ' => Id0 σ σ') := by
  have hk := id_rf hC
  unfold x8_placeAt
  refine tot_if (fun hc1 => ?_) (fun hc1 => ?_)
  · exact tot_some hk
  · refine tot_if (fun hc2 => ?_) (fun hc2 => ?_)
    · exact tot_some hk
    · refine tot_if (fun hc3 => ?_) (fun hc3 => ?_)
      · exact tot_some hk
      · refine tot_gd (ib_c hc1 hc3 (by decide) (by decide)) ?_
        exact tot_some hk

set_option maxHeartbeats 4000000 in
set_option maxRecDepth 100000 in
theorem t_x4_refuse {N : Nat} (hN : 8589934592 ≤ N) {σ : St} {a1 : Int32} {a2 : Int32} (hC : CP σ) : Tot (x4_refuse N σ a1 a2) (fun r σ' => Kp σ σ' ∧ isb r = true) := by
  have hk := kp_rf hC
  unfold x4_refuse
  exact tot_some ⟨(kp_I (kp_I hk (by decide) (by decide)) (by decide) (by decide)), rfl⟩

set_option maxHeartbeats 4000000 in
set_option maxRecDepth 100000 in
theorem t_x4_take {N : Nat} (hN : 8589934592 ≤ N) {σ : St} {a1 : Int32} (hC : CP σ) : Tot (x4_take N σ a1) (fun r σ' => Kp σ σ' ∧ isb r = true) := by
  have hk := kp_rf hC
  unfold x4_take
  refine tot_bd (t_x8_kindAt hN hk.1) (fun r1 σ2 hp1 => ?_)
  have hk1 := kp_id hk hp1
  refine tot_if (fun hc2 => ?_) (fun hc2 => ?_)
  · exact tot_some ⟨(kp_I hk1 (by decide) (by decide)), rfl⟩
  · refine tot_bd (t_x8_placeAt hN hk1.1) (fun r3 σ4 hp3 => ?_)
    have hk3 := kp_id hk1 hp3
    refine tot_bd (t_x4_refuse hN hk3.1) (fun r5 σ6 hp4 => ?_)
    have hb_r5 := hp4.2
    have hk4 := kp_tr hk3 hp4.1
    refine tot_gd hb_r5 ?_
    exact tot_some ⟨hk4, hb_r5⟩

set_option maxHeartbeats 4000000 in
set_option maxRecDepth 100000 in
theorem t_x8_letterAt {N : Nat} (hN : 8589934592 ≤ N) {σ : St} {a1 : Int32} (hC : CP σ) : Tot (x8_letterAt N σ a1) (fun _ σ' => Id0 σ σ') := by
  have hk := id_rf hC
  unfold x8_letterAt
  refine tot_if (fun hc1 => ?_) (fun hc1 => ?_)
  · exact tot_some hk
  · refine tot_if (fun hc2 => ?_) (fun hc2 => ?_)
    · exact tot_some hk
    · refine tot_if (fun hc3 => ?_) (fun hc3 => ?_)
      · exact tot_some hk
      · refine tot_gd (ib_c hc1 hc3 (by decide) (by decide)) ?_
        exact tot_some hk

set_option maxHeartbeats 4000000 in
set_option maxRecDepth 100000 in
theorem t_x4_readParameters_133 {N : Nat} (hN : 8589934592 ≤ N) {σ : St} (hC : CP σ) : Tot (x4_readParameters_133 N σ) (fun r σ' => Kp σ σ' ∧ isb r = true) := by
  have hk := kp_rf hC
  unfold x4_readParameters_133
  refine tot_bd (t_x4_take hN hk.1) (fun r3 σ4 hp1 => ?_)
  have hb_r3 := hp1.2
  have hk1 := kp_tr hk hp1.1
  refine tot_gd hb_r3 ?_
  exact tot_some ⟨hk1, hb_r3⟩
set_option maxHeartbeats 4000000 in
set_option maxRecDepth 100000 in
theorem t_x4_readParameters_114 {N : Nat} (hN : 8589934592 ≤ N) {σ : St} (hC : CP σ) : Tot (x4_readParameters_114 N σ) (fun r σ' => Kp σ σ' ∧ isb r = true) := by
  have hk := kp_rf hC
  unfold x4_readParameters_114
  exact tot_kb hk (t_x4_readParameters_133 hN hk.1)
set_option maxHeartbeats 4000000 in
set_option maxRecDepth 100000 in
theorem t_x4_readParameters_79 {N : Nat} (hN : 8589934592 ≤ N) {σ : St} {x2 : Int32} (hC : CP σ) : Tot (x4_readParameters_79 N σ x2) (fun r σ' => Kp σ σ' ∧ isb r = true) := by
  have hk := kp_rf hC
  unfold x4_readParameters_79
  refine tot_bd (t_x8_placeAt hN hk.1) (fun r17 σ18 hp1 => ?_)
  have hk1 := kp_id hk hp1
  refine tot_bd (t_x4_refuse hN hk1.1) (fun r19 σ20 hp2 => ?_)
  have hb_r19 := hp2.2
  have hk2 := kp_tr hk1 hp2.1
  refine tot_gd hb_r19 ?_
  exact tot_some ⟨hk2, hb_r19⟩
set_option maxHeartbeats 4000000 in
set_option maxRecDepth 100000 in
theorem t_x4_readParameters_50 {N : Nat} (hN : 8589934592 ≤ N) {σ : St} {x2 : Int32} (hC : CP σ) : Tot (x4_readParameters_50 N σ x2) (fun r σ' => Kp σ σ' ∧ isb r = true) := by
  have hk := kp_rf hC
  unfold x4_readParameters_50
  refine tot_bd (t_x8_placeAt hN hk.1) (fun r21 σ22 hp1 => ?_)
  have hk1 := kp_id hk hp1
  refine tot_bd (t_x4_refuse hN hk1.1) (fun r23 σ24 hp2 => ?_)
  have hb_r23 := hp2.2
  have hk2 := kp_tr hk1 hp2.1
  refine tot_gd hb_r23 ?_
  exact tot_some ⟨hk2, hb_r23⟩
set_option maxHeartbeats 4000000 in
set_option maxRecDepth 100000 in
theorem t_x4_readParameters_16_b {N : Nat} (hN : 8589934592 ≤ N) {rec16 : St → Int32 → Option (Int32 × St)} {σ : St} {x1 : Int32} (hr16 : x1.toInt < 2147483647 → ∀ (σ2 : St), CP σ2 → Tot (rec16 σ2 (x1 + 1)) (fun r σ' => Kp σ2 σ' ∧ isb r = true)) (hC : CP σ) : Tot (x4_readParameters_16_b N rec16 σ x1) (fun r σ' => Kp σ σ' ∧ isb r = true) := by
  have hk := kp_rf hC
  unfold x4_readParameters_16_b
  refine tot_if (fun hc1 => ?_) (fun hc1 => ?_)
  · exact tot_kb hk (t_x4_readParameters_133 hN hk.1)
  · have hq16 := hr16 (lt_mx2 hc1 (by decide))
    refine tot_bd (t_x4_take hN hk.1) (fun r5 σ6 hp2 => ?_)
    have hb_r5 := hp2.2
    have hk2 := kp_tr hk hp2.1
    refine tot_if (fun hc3 => ?_) (fun hc3 => ?_)
    · exact tot_some ⟨hk2, rfl⟩
    · refine tot_bd (t_x8_letterAt hN hk2.1) (fun r7 σ8 hp4 => ?_)
      have hk4 := kp_id hk2 hp4
      refine tot_if (fun hc5 => ?_) (fun hc5 => ?_)
      · exact tot_kb hk4 (t_x4_readParameters_50 hN hk4.1)
      · have hg6 : isPr (gP σ8 403) = true := (cp_403 hk4.1)
        refine tot_gd hg6 ?_
        refine tot_bd (t_x3_hasParameter hN hk4.1 hg6) (fun r10 σ11 hp7 => ?_)
        have hb_r10 := hp7.2
        have hk7 := kp_id hk4 hp7.1
        refine tot_if (fun hc8 => ?_) (fun hc8 => ?_)
        · have hg9 : isPr (gP σ11 403) = true := (cp_403 hk7.1)
          refine tot_gd hg9 ?_
          refine tot_bd (t_x3_addParameter hN hk7.1 hg9) (fun _r10 σ14 hp10 => ?_)
          have hk10 := kp_tr hk7 hp10
          refine tot_bd (t_x4_seen hN hk10.1) (fun r15 σ16 hp11 => ?_)
          have hb_r15 := hp11.2
          have hk11 := kp_id hk10 hp11.1
          refine tot_if (fun hc12 => ?_) (fun hc12 => ?_)
          · exact tot_kb hk11 (t_x4_readParameters_114 hN hk11.1)
          · exact tot_kb (kp_I hk11 (by decide) (by decide)) (hq16 _ (kp_I hk11 (by decide) (by decide)).1)
        · exact tot_kb hk7 (t_x4_readParameters_79 hN hk7.1)
set_option maxHeartbeats 4000000 in
set_option maxRecDepth 100000 in
theorem t_x4_readParameters_16 {N : Nat} (hN : 8589934592 ≤ N) : ∀ (n : Nat) (σ : St) (x1 : Int32), True → CP σ → (2147483648 - x1.toInt).toNat < n → Tot (x4_readParameters_16 N n σ x1) (fun r σ' => Kp σ σ' ∧ isb r = true) := by
  intro n
  induction n with
  | zero => intro σ x1 _ hC hm; exact absurd hm (Nat.not_lt_zero _)
  | succ n ih => intro σ x1 _ hC hm; exact t_x4_readParameters_16_b hN (fun hlt σ2 hC2 => ih σ2 (x1 + 1) trivial hC2 (m_succ hlt hm)) hC
set_option maxHeartbeats 4000000 in
set_option maxRecDepth 100000 in
theorem t_x4_readParameters {N : Nat} (hN : 8589934592 ≤ N) {σ : St} (hC : CP σ) : Tot (x4_readParameters N σ) (fun r σ' => Kp σ σ' ∧ isb r = true) := by
  have hk := kp_rf hC
  unfold x4_readParameters
  refine tot_bd (t_x4_seen hN hk.1) (fun r1 σ2 hp1 => ?_)
  have hb_r1 := hp1.2
  have hk1 := kp_id hk hp1.1
  refine tot_if (fun hc2 => ?_) (fun hc2 => ?_)
  · exact tot_kb hk1 (t_x4_readParameters_16 hN N _ 0 trivial hk1.1 (m_N hN))
  · refine tot_bd (t_x4_take hN hk1.1) (fun r25 σ26 hp3 => ?_)
    have hb_r25 := hp3.2
    have hk3 := kp_tr hk1 hp3.1
    refine tot_gd hb_r25 ?_
    exact tot_some ⟨hk3, hb_r25⟩

set_option maxHeartbeats 4000000 in
set_option maxRecDepth 100000 in
theorem t_x4_openBlock {N : Nat} (hN : 8589934592 ≤ N) {σ : St} {a1 : Int32} {a2 : Int32} (hC : CP σ) : Tot (x4_openBlock N σ a1 a2) (fun r σ' => Kp σ σ' ∧ isb r = true) := by
  have hk := kp_rf hC
  unfold x4_openBlock
  refine tot_bd (t_x4_take hN hk.1) (fun r1 σ2 hp1 => ?_)
  have hb_r1 := hp1.2
  have hk1 := kp_tr hk hp1.1
  refine tot_if (fun hc2 => ?_) (fun hc2 => ?_)
  · exact tot_some ⟨hk1, rfl⟩
  · refine tot_if (fun hc3 => ?_) (fun hc3 => ?_)
    · refine tot_bd (t_x5_put hN hk1.1 ia_5) (fun _r4 σ4 hp4 => ?_)
      have hk4 := kp_tr hk1 hp4
      refine tot_bd (t_x5_put hN hk4.1 ia_6) (fun _r5 σ6 hp5 => ?_)
      have hk5 := kp_tr hk4 hp5
      exact tot_some ⟨(kp_I hk5 (by decide) (by decide)), rfl⟩
    · refine tot_bd (t_x8_placeAt hN hk1.1) (fun r7 σ8 hp6 => ?_)
      have hk6 := kp_id hk1 hp6
      refine tot_bd (t_x4_refuse hN hk6.1) (fun r9 σ10 hp7 => ?_)
      have hb_r9 := hp7.2
      have hk7 := kp_tr hk6 hp7.1
      refine tot_gd hb_r9 ?_
      exact tot_some ⟨hk7, hb_r9⟩

set_option maxHeartbeats 4000000 in
set_option maxRecDepth 100000 in
theorem t_x4_readHead {N : Nat} (hN : 8589934592 ≤ N) {σ : St} (hC : CP σ) : Tot (x4_readHead N σ) (fun r σ' => Kp σ σ' ∧ isb r = true) := by
  have hk := kp_rf hC
  unfold x4_readHead
  refine tot_bd (t_x4_take hN hk.1) (fun r1 σ2 hp1 => ?_)
  have hb_r1 := hp1.2
  have hk1 := kp_tr hk hp1.1
  refine tot_if (fun hc2 => ?_) (fun hc2 => ?_)
  · exact tot_some ⟨hk1, rfl⟩
  · refine tot_bd (t_x8_letterAt hN hk1.1) (fun r3 σ4 hp3 => ?_)
    have hk3 := kp_id hk1 hp3
    have hg4 : isPr (gP σ4 403) = true := (cp_403 hk3.1)
    refine tot_gd hg4 ?_
    refine tot_bd (t_x3_has hN (kp_I hk3 (by decide) (by decide)).1 hg4) (fun r6 σ7 hp5 => ?_)
    have hb_r6 := hp5.2
    have hk5 := kp_id (kp_I hk3 (by decide) (by decide)) hp5.1
    refine tot_if (fun hc6 => ?_) (fun hc6 => ?_)
    · have hg7 : isPr (gP σ7 403) = true := (cp_403 hk5.1)
      refine tot_gd hg7 ?_
      refine tot_bd (t_x3_addRoutine hN hk5.1 hg7) (fun _r8 σ10 hp8 => ?_)
      have hk8 := kp_tr hk5 hp8
      refine tot_bd (t_x4_take hN hk8.1) (fun r11 σ12 hp9 => ?_)
      have hb_r11 := hp9.2
      have hk9 := kp_tr hk8 hp9.1
      refine tot_if (fun hc10 => ?_) (fun hc10 => ?_)
      · exact tot_some ⟨hk9, rfl⟩
      · refine tot_bd (t_x4_readParameters hN hk9.1) (fun r13 σ14 hp11 => ?_)
        have hb_r13 := hp11.2
        have hk11 := kp_tr hk9 hp11.1
        refine tot_if (fun hc12 => ?_) (fun hc12 => ?_)
        · exact tot_some ⟨hk11, rfl⟩
        · refine tot_bd (t_x4_openBlock hN hk11.1) (fun r15 σ16 hp13 => ?_)
          have hb_r15 := hp13.2
          have hk13 := kp_tr hk11 hp13.1
          refine tot_if (fun hc14 => ?_) (fun hc14 => ?_)
          · exact tot_some ⟨hk13, rfl⟩
          · exact tot_some ⟨hk13, rfl⟩
    · refine tot_bd (t_x8_placeAt hN hk5.1) (fun r17 σ18 hp15 => ?_)
      have hk15 := kp_id hk5 hp15
      refine tot_bd (t_x4_refuse hN hk15.1) (fun r19 σ20 hp16 => ?_)
      have hb_r19 := hp16.2
      have hk16 := kp_tr hk15 hp16.1
      refine tot_gd hb_r19 ?_
      exact tot_some ⟨hk16, hb_r19⟩

set_option maxHeartbeats 4000000 in
set_option maxRecDepth 100000 in
theorem t_x4_closeIf {N : Nat} (hN : 8589934592 ≤ N) {σ : St} {a1 : Int32} (hC : CP σ) : Tot (x4_closeIf N σ a1) (fun _ σ' => Kp σ σ') := by
  have hk := kp_rf hC
  unfold x4_closeIf
  refine tot_bd (t_x4_seen hN hk.1) (fun r1 σ2 hp1 => ?_)
  have hb_r1 := hp1.2
  have hk1 := kp_id hk hp1.1
  refine tot_if (fun hc2 => ?_) (fun hc2 => ?_)
  · have hg3 : isCd (gP σ2 404) = true := (cp_404 hk1.1)
    refine tot_gd hg3 ?_
    refine tot_bd (t_x0_set hN hk1.1 hg3) (fun _r4 σ5 hp4 => ?_)
    have hk4 := kp_tr hk1 hp4
    exact tot_some hk4
  · have hg5 : isCd (gP σ2 404) = true := (cp_404 hk1.1)
    refine tot_gd hg5 ?_
    refine tot_bd (t_x0_add hN (kp_I hk1 (by decide) (by decide)).1 hg5) (fun r7 σ8 hp6 => ?_)
    have hk6 := kp_tr (kp_I hk1 (by decide) (by decide)) hp6
    have hg7 : isCd (gP σ8 404) = true := (cp_404 hk6.1)
    refine tot_gd hg7 ?_
    refine tot_bd (t_x0_set hN hk6.1 hg7) (fun _r8 σ11 hp8 => ?_)
    have hk8 := kp_tr hk6 hp8
    refine tot_bd (t_x4_openBlock hN hk8.1) (fun r12 σ13 hp9 => ?_)
    have hb_r12 := hp9.2
    have hk9 := kp_tr hk8 hp9.1
    exact tot_some hk9

set_option maxHeartbeats 4000000 in
set_option maxRecDepth 100000 in
theorem t_x4_closeBlock {N : Nat} (hN : 8589934592 ≤ N) {σ : St} (hC : CP σ) : Tot (x4_closeBlock N σ) (fun _ σ' => Kp σ σ') := by
  have hk := kp_rf hC
  unfold x4_closeBlock
  refine tot_bd (t_x5_at hN (kp_I (kp_I hk (by decide) (by decide)) (by decide) (by decide)).1 ia_6) (fun r1 σ2 hp1 => ?_)
  have hk1 := kp_id (kp_I (kp_I hk (by decide) (by decide)) (by decide) (by decide)) hp1
  refine tot_bd (t_x5_at hN hk1.1 ia_5) (fun r3 σ4 hp2 => ?_)
  have hk2 := kp_id hk1 hp2
  refine tot_if (fun hc3 => ?_) (fun hc3 => ?_)
  · have hg4 : isCd (gP σ4 404) = true := (cp_404 hk2.1)
    refine tot_gd hg4 ?_
    refine tot_bd (t_x0_add hN hk2.1 hg4) (fun r7 σ8 hp5 => ?_)
    have hk5 := kp_tr hk2 hp5
    exact tot_some hk5
  · refine tot_if (fun hc6 => ?_) (fun hc6 => ?_)
    · refine tot_bd (t_x4_closeIf hN hk2.1) (fun _r7 σ11 hp7 => ?_)
      have hk7 := kp_tr hk2 hp7
      exact tot_some hk7
    · refine tot_if (fun hc8 => ?_) (fun hc8 => ?_)
      · have hg9 : isCd (gP σ4 404) = true := (cp_404 hk2.1)
        refine tot_gd hg9 ?_
        refine tot_bd (t_x0_set hN hk2.1 hg9) (fun _r10 σ15 hp10 => ?_)
        have hk10 := kp_tr hk2 hp10
        exact tot_some hk10
      · refine tot_if (fun hc11 => ?_) (fun hc11 => ?_)
        · have hg12 : isCd (gP σ4 404) = true := (cp_404 hk2.1)
          refine tot_gd hg12 ?_
          refine tot_bd (t_x0_add hN hk2.1 hg12) (fun r18 σ19 hp13 => ?_)
          have hk13 := kp_tr hk2 hp13
          refine tot_bd (t_x0_set hN hk13.1 hg12) (fun _r14 σ21 hp14 => ?_)
          have hk14 := kp_tr hk13 hp14
          have hg15 : isCd (gP σ21 404) = true := (cp_404 hk14.1)
          refine tot_gd hg15 ?_
          refine tot_bd (t_x0_set hN hk14.1 hg15) (fun _r16 σ24 hp16 => ?_)
          have hk16 := kp_tr hk14 hp16
          exact tot_some hk16
        · have hg17 : isCd (gP σ4 404) = true := (cp_404 hk2.1)
          refine tot_gd hg17 ?_
          refine tot_bd (t_x0_set hN hk2.1 hg17) (fun _r18 σ27 hp18 => ?_)
          have hk18 := kp_tr hk2 hp18
          exact tot_some hk18

set_option maxHeartbeats 4000000 in
set_option maxRecDepth 100000 in
theorem t_x4_readUse {N : Nat} (hN : 8589934592 ≤ N) {σ : St} {a1 : Int32} {a2 : Int32} {a3 : Int32} (hC : CP σ) : Tot (x4_readUse N σ a1 a2 a3) (fun r σ' => Kp σ σ' ∧ isb r = true) := by
  have hk := kp_rf hC
  unfold x4_readUse
  have hg1 : isPr (gP σ 403) = true := (cp_403 hk.1)
  refine tot_gd hg1 ?_
  refine tot_if (fun hc2 => ?_) (fun hc2 => ?_)
  · refine tot_bd (t_x8_placeAt hN hk.1) (fun r2 σ3 hp3 => ?_)
    have hk3 := kp_id hk hp3
    refine tot_bd (t_x8_letterAt hN hk3.1) (fun r4 σ5 hp4 => ?_)
    have hk4 := kp_id hk3 hp4
    refine tot_bd (t_x3_addUse hN hk4.1 hg1) (fun r6 σ7 hp5 => ?_)
    have hk5 := kp_tr hk4 hp5
    have hg6 : isCd (gP σ 404) = true := (cp_404 hk.1)
    refine tot_gd hg6 ?_
    refine tot_bd (t_x0_set hN hk5.1 hg6) (fun _r7 σ10 hp7 => ?_)
    have hk7 := kp_tr hk5 hp7
    exact tot_some ⟨(kp_I hk7 (by decide) (by decide)), rfl⟩
  · refine tot_bd (t_x8_placeAt hN hk.1) (fun r11 σ12 hp8 => ?_)
    have hk8 := kp_id hk hp8
    refine tot_bd (t_x4_refuse hN hk8.1) (fun r13 σ14 hp9 => ?_)
    have hb_r13 := hp9.2
    have hk9 := kp_tr hk8 hp9.1
    refine tot_gd hb_r13 ?_
    exact tot_some ⟨hk9, hb_r13⟩

set_option maxHeartbeats 4000000 in
set_option maxRecDepth 100000 in
theorem t_x4_readField_39 {N : Nat} (hN : 8589934592 ≤ N) {σ : St} (hC : CP σ) : Tot (x4_readField_39 N σ) (fun r σ' => Kp σ σ' ∧ isb r = true) := by
  have hk := kp_rf hC
  unfold x4_readField_39
  refine tot_bd (t_x8_placeAt hN hk.1) (fun r5 σ6 hp1 => ?_)
  have hk1 := kp_id hk hp1
  refine tot_bd (t_x4_refuse hN hk1.1) (fun r7 σ8 hp2 => ?_)
  have hb_r7 := hp2.2
  have hk2 := kp_tr hk1 hp2.1
  refine tot_gd hb_r7 ?_
  exact tot_some ⟨hk2, hb_r7⟩
set_option maxHeartbeats 4000000 in
set_option maxRecDepth 100000 in
theorem t_x4_readField_56 {N : Nat} (hN : 8589934592 ≤ N) {σ : St} {x1 : Int32} {x2 : Int32} {x3 : Int32} (hC : CP σ) : Tot (x4_readField_56 N σ x1 x2 x3) (fun r σ' => Kp σ σ' ∧ isb r = true) := by
  have hk := kp_rf hC
  unfold x4_readField_56
  have hg1 : isCd (gP σ 404) = true := (cp_404 hk.1)
  refine tot_gd hg1 ?_
  refine tot_bd (t_x0_set hN hk.1 hg1) (fun _r2 σ11 hp2 => ?_)
  have hk2 := kp_tr hk hp2
  exact tot_some ⟨(kp_I hk2 (by decide) (by decide)), rfl⟩
set_option maxHeartbeats 4000000 in
set_option maxRecDepth 100000 in
theorem t_x4_readField {N : Nat} (hN : 8589934592 ≤ N) {σ : St} {a1 : Int32} {a2 : Int32} (hC : CP σ) : Tot (x4_readField N σ a1 a2) (fun r σ' => Kp σ σ' ∧ isb r = true) := by
  have hk := kp_rf hC
  unfold x4_readField
  refine tot_bd (t_x8_letterAt hN hk.1) (fun r1 σ2 hp1 => ?_)
  have hk1 := kp_id hk hp1
  refine tot_bd (t_x8_kindAt hN hk1.1) (fun r3 σ4 hp2 => ?_)
  have hk2 := kp_id hk1 hp2
  refine tot_if (fun hc3 => ?_) (fun hc3 => ?_)
  · refine tot_if (fun hc4 => ?_) (fun hc4 => ?_)
    · exact tot_kb hk2 (t_x4_readField_56 hN hk2.1)
    · refine tot_if (fun hc5 => ?_) (fun hc5 => ?_)
      · exact tot_kb hk2 (t_x4_readField_56 hN hk2.1)
      · exact tot_kb hk2 (t_x4_readField_39 hN hk2.1)
  · exact tot_kb hk2 (t_x4_readField_39 hN hk2.1)

set_option maxHeartbeats 4000000 in
set_option maxRecDepth 100000 in
theorem t_x4_readName {N : Nat} (hN : 8589934592 ≤ N) {σ : St} {a1 : Int32} {a2 : Int32} (hC : CP σ) : Tot (x4_readName N σ a1 a2) (fun r σ' => Kp σ σ' ∧ isb r = true) := by
  have hk := kp_rf hC
  unfold x4_readName
  refine tot_bd (t_x8_letterAt hN hk.1) (fun r1 σ2 hp1 => ?_)
  have hk1 := kp_id hk hp1
  have hg2 : isCd (gP σ 404) = true := (cp_404 hk.1)
  refine tot_gd hg2 ?_
  refine tot_bd (t_x0_set hN hk1.1 hg2) (fun _r3 σ5 hp3 => ?_)
  have hk3 := kp_tr hk1 hp3
  refine tot_bd (t_x4_take hN hk3.1) (fun r6 σ7 hp4 => ?_)
  have hb_r6 := hp4.2
  have hk4 := kp_tr hk3 hp4.1
  refine tot_gd hb_r6 ?_
  exact tot_some ⟨hk4, hb_r6⟩

set_option maxHeartbeats 4000000 in
set_option maxRecDepth 100000 in
theorem t_x4_readNameOrField {N : Nat} (hN : 8589934592 ≤ N) {σ : St} {a1 : Int32} (hC : CP σ) : Tot (x4_readNameOrField N σ a1) (fun r σ' => Kp σ σ' ∧ isb r = true) := by
  have hk := kp_rf hC
  unfold x4_readNameOrField
  refine tot_bd (t_x8_letterAt hN hk.1) (fun r1 σ2 hp1 => ?_)
  have hk1 := kp_id hk hp1
  have hg2 : isCd (gP σ 404) = true := (cp_404 hk.1)
  refine tot_gd hg2 ?_
  refine tot_bd (t_x0_set hN hk1.1 hg2) (fun _r3 σ5 hp3 => ?_)
  have hk3 := kp_tr hk1 hp3
  refine tot_bd (t_x4_seen hN (kp_I hk3 (by decide) (by decide)).1) (fun r6 σ7 hp4 => ?_)
  have hb_r6 := hp4.2
  have hk4 := kp_id (kp_I hk3 (by decide) (by decide)) hp4.1
  refine tot_if (fun hc5 => ?_) (fun hc5 => ?_)
  · have hg6 : isCd (gP σ7 404) = true := (cp_404 hk4.1)
    refine tot_gd hg6 ?_
    refine tot_bd (t_x0_set hN hk4.1 hg6) (fun _r7 σ17 hp7 => ?_)
    have hk7 := kp_tr hk4 hp7
    exact tot_some ⟨hk7, rfl⟩
  · have hg8 : isCd (gP σ7 404) = true := (cp_404 hk4.1)
    refine tot_gd hg8 ?_
    refine tot_bd (t_x0_set hN hk4.1 hg8) (fun _r9 σ10 hp9 => ?_)
    have hk9 := kp_tr hk4 hp9
    refine tot_bd (t_x4_readUse hN hk9.1) (fun r11 σ12 hp10 => ?_)
    have hb_r11 := hp10.2
    have hk10 := kp_tr hk9 hp10.1
    refine tot_if (fun hc11 => ?_) (fun hc11 => ?_)
    · exact tot_some ⟨hk10, rfl⟩
    · refine tot_bd (t_x4_readField hN hk10.1) (fun r13 σ14 hp12 => ?_)
      have hb_r13 := hp12.2
      have hk12 := kp_tr hk10 hp12.1
      refine tot_if (fun hc13 => ?_) (fun hc13 => ?_)
      · exact tot_some ⟨hk12, rfl⟩
      · exact tot_some ⟨hk12, rfl⟩

set_option maxHeartbeats 4000000 in
set_option maxRecDepth 100000 in
theorem t_x4_readCall_171 {N : Nat} (hN : 8589934592 ≤ N) {σ : St} (hC : CP σ) : Tot (x4_readCall_171 N σ) (fun r σ' => Kp σ σ' ∧ isb r = true) := by
  have hk := kp_rf hC
  unfold x4_readCall_171
  refine tot_bd (t_x4_take hN hk.1) (fun r18 σ19 hp1 => ?_)
  have hb_r18 := hp1.2
  have hk1 := kp_tr hk hp1.1
  refine tot_gd hb_r18 ?_
  exact tot_some ⟨hk1, hb_r18⟩
set_option maxHeartbeats 4000000 in
set_option maxRecDepth 100000 in
theorem t_x4_readCall_152 {N : Nat} (hN : 8589934592 ≤ N) {σ : St} (hC : CP σ) : Tot (x4_readCall_152 N σ) (fun r σ' => Kp σ σ' ∧ isb r = true) := by
  have hk := kp_rf hC
  unfold x4_readCall_152
  exact tot_kb hk (t_x4_readCall_171 hN hk.1)
set_option maxHeartbeats 4000000 in
set_option maxRecDepth 100000 in
theorem t_x4_readCall_113 {N : Nat} (hN : 8589934592 ≤ N) {σ : St} {x3 : Int32} (hC : CP σ) : Tot (x4_readCall_113 N σ x3) (fun r σ' => Kp σ σ' ∧ isb r = true) := by
  have hk := kp_rf hC
  unfold x4_readCall_113
  refine tot_bd (t_x8_placeAt hN hk.1) (fun r29 σ30 hp1 => ?_)
  have hk1 := kp_id hk hp1
  refine tot_bd (t_x4_refuse hN hk1.1) (fun r31 σ32 hp2 => ?_)
  have hb_r31 := hp2.2
  have hk2 := kp_tr hk1 hp2.1
  refine tot_gd hb_r31 ?_
  exact tot_some ⟨hk2, hb_r31⟩
set_option maxHeartbeats 4000000 in
set_option maxRecDepth 100000 in
theorem t_x4_readCall_88_b {N : Nat} (hN : 8589934592 ≤ N) {rec88 : St → Int32 → Int32 → Option (Int32 × St)} {σ : St} {x1 : Int32} {x2 : Int32} (hr88 : x2.toInt < 2147483647 → ∀ (σ2 : St), CP σ2 → Tot (rec88 σ2 x1 (x2 + 1)) (fun r σ' => Kp σ2 σ' ∧ isb r = true)) (hC : CP σ) : Tot (x4_readCall_88_b N rec88 σ x1 x2) (fun r σ' => Kp σ σ' ∧ isb r = true) := by
  have hk := kp_rf hC
  unfold x4_readCall_88_b
  refine tot_if (fun hc1 => ?_) (fun hc1 => ?_)
  · exact tot_kb hk (t_x4_readCall_171 hN hk.1)
  · have hq88 := hr88 (lt_mx2 hc1 (by decide))
    refine tot_bd (t_x4_take hN hk.1) (fun r20 σ21 hp2 => ?_)
    have hb_r20 := hp2.2
    have hk2 := kp_tr hk hp2.1
    refine tot_if (fun hc3 => ?_) (fun hc3 => ?_)
    · exact tot_some ⟨hk2, rfl⟩
    · refine tot_if (fun hc4 => ?_) (fun hc4 => ?_)
      · exact tot_kb hk2 (t_x4_readCall_113 hN hk2.1)
      · refine tot_bd (t_x8_letterAt hN hk2.1) (fun r22 σ23 hp5 => ?_)
        have hk5 := kp_id hk2 hp5
        have hg6 : isCd (gP σ21 404) = true := (cp_404 hk2.1)
        refine tot_gd hg6 ?_
        refine tot_bd (t_x0_addArgument hN hk5.1 hg6) (fun _r7 σ26 hp7 => ?_)
        have hk7 := kp_tr hk5 hp7
        refine tot_bd (t_x4_seen hN hk7.1) (fun r27 σ28 hp8 => ?_)
        have hb_r27 := hp8.2
        have hk8 := kp_id hk7 hp8.1
        refine tot_if (fun hc9 => ?_) (fun hc9 => ?_)
        · exact tot_kb hk8 (t_x4_readCall_152 hN hk8.1)
        · exact tot_kb (kp_I hk8 (by decide) (by decide)) (hq88 _ (kp_I hk8 (by decide) (by decide)).1)
set_option maxHeartbeats 4000000 in
set_option maxRecDepth 100000 in
theorem t_x4_readCall_88 {N : Nat} (hN : 8589934592 ≤ N) : ∀ (n : Nat) (σ : St) (x1 : Int32) (x2 : Int32), True → CP σ → (2147483648 - x2.toInt).toNat < n → Tot (x4_readCall_88 N n σ x1 x2) (fun r σ' => Kp σ σ' ∧ isb r = true) := by
  intro n
  induction n with
  | zero => intro σ x1 x2 _ hC hm; exact absurd hm (Nat.not_lt_zero _)
  | succ n ih => intro σ x1 x2 _ hC hm; exact t_x4_readCall_88_b hN (fun hlt σ2 hC2 => ih σ2 x1 (x2 + 1) trivial hC2 (m_succ hlt hm)) hC
set_option maxHeartbeats 4000000 in
set_option maxRecDepth 100000 in
theorem t_x4_readCall {N : Nat} (hN : 8589934592 ≤ N) {σ : St} {a1 : Int32} (hC : CP σ) : Tot (x4_readCall N σ a1) (fun r σ' => Kp σ σ' ∧ isb r = true) := by
  have hk := kp_rf hC
  unfold x4_readCall
  have hg1 : isCd (gP σ 404) = true := (cp_404 hk.1)
  refine tot_gd hg1 ?_
  refine tot_bd (t_x0_set hN hk.1 hg1) (fun _r2 σ3 hp2 => ?_)
  have hk2 := kp_tr hk hp2
  refine tot_bd (t_x8_letterAt hN hk2.1) (fun r4 σ5 hp3 => ?_)
  have hk3 := kp_id hk2 hp3
  have hg4 : isCd (gP σ3 404) = true := (cp_404 hk2.1)
  refine tot_gd hg4 ?_
  refine tot_bd (t_x0_set hN hk3.1 hg4) (fun _r5 σ8 hp5 => ?_)
  have hk5 := kp_tr hk3 hp5
  refine tot_bd (t_x8_placeAt hN hk5.1) (fun r9 σ10 hp6 => ?_)
  have hk6 := kp_id hk5 hp6
  have hg7 : isCd (gP σ8 404) = true := (cp_404 hk5.1)
  refine tot_gd hg7 ?_
  refine tot_bd (t_x0_set hN hk6.1 hg7) (fun _r8 σ13 hp8 => ?_)
  have hk8 := kp_tr hk6 hp8
  refine tot_bd (t_x4_take hN (kp_I hk8 (by decide) (by decide)).1) (fun r14 σ15 hp9 => ?_)
  have hb_r14 := hp9.2
  have hk9 := kp_tr (kp_I hk8 (by decide) (by decide)) hp9.1
  refine tot_if (fun hc10 => ?_) (fun hc10 => ?_)
  · exact tot_some ⟨hk9, rfl⟩
  · refine tot_bd (t_x4_seen hN hk9.1) (fun r16 σ17 hp11 => ?_)
    have hb_r16 := hp11.2
    have hk11 := kp_id hk9 hp11.1
    refine tot_if (fun hc12 => ?_) (fun hc12 => ?_)
    · exact tot_kb hk11 (t_x4_readCall_88 hN N _ a1 0 trivial hk11.1 (m_N hN))
    · refine tot_bd (t_x4_take hN hk11.1) (fun r33 σ34 hp13 => ?_)
      have hb_r33 := hp13.2
      have hk13 := kp_tr hk11 hp13.1
      refine tot_gd hb_r33 ?_
      exact tot_some ⟨hk13, hb_r33⟩

set_option maxHeartbeats 4000000 in
set_option maxRecDepth 100000 in
theorem t_x4_readValue {N : Nat} (hN : 8589934592 ≤ N) {σ : St} {a1 : Int32} (hC : CP σ) : Tot (x4_readValue N σ a1) (fun r σ' => Kp σ σ' ∧ isb r = true) := by
  have hk := kp_rf hC
  unfold x4_readValue
  refine tot_bd (t_x8_kindAt hN hk.1) (fun r1 σ2 hp1 => ?_)
  have hk1 := kp_id hk hp1
  refine tot_if (fun hc2 => ?_) (fun hc2 => ?_)
  · refine tot_bd (t_x4_readNameOrField hN hk1.1) (fun r4 σ5 hp3 => ?_)
    have hb_r4 := hp3.2
    have hk3 := kp_tr hk1 hp3.1
    refine tot_gd hb_r4 ?_
    exact tot_some ⟨hk3, hb_r4⟩
  · refine tot_if (fun hc4 => ?_) (fun hc4 => ?_)
    · refine tot_bd (t_x4_readCall hN hk1.1) (fun r7 σ8 hp5 => ?_)
      have hb_r7 := hp5.2
      have hk5 := kp_tr hk1 hp5.1
      refine tot_gd hb_r7 ?_
      exact tot_some ⟨hk5, hb_r7⟩
    · refine tot_if (fun hc6 => ?_) (fun hc6 => ?_)
      · have hg7 : isCd (gP σ2 404) = true := (cp_404 hk1.1)
        refine tot_gd hg7 ?_
        refine tot_bd (t_x0_set hN hk1.1 hg7) (fun _r8 σ12 hp8 => ?_)
        have hk8 := kp_tr hk1 hp8
        exact tot_some ⟨(kp_I hk8 (by decide) (by decide)), rfl⟩
      · refine tot_if (fun hc9 => ?_) (fun hc9 => ?_)
        · have hg10 : isCd (gP σ2 404) = true := (cp_404 hk1.1)
          refine tot_gd hg10 ?_
          refine tot_bd (t_x0_set hN hk1.1 hg10) (fun _r11 σ16 hp11 => ?_)
          have hk11 := kp_tr hk1 hp11
          refine tot_bd (t_x4_readName hN (kp_I hk11 (by decide) (by decide)).1) (fun r17 σ18 hp12 => ?_)
          have hb_r17 := hp12.2
          have hk12 := kp_tr (kp_I hk11 (by decide) (by decide)) hp12.1
          refine tot_if (fun hc13 => ?_) (fun hc13 => ?_)
          · exact tot_some ⟨hk12, rfl⟩
          · refine tot_bd (t_x4_readName hN hk12.1) (fun r19 σ20 hp14 => ?_)
            have hb_r19 := hp14.2
            have hk14 := kp_tr hk12 hp14.1
            refine tot_if (fun hc15 => ?_) (fun hc15 => ?_)
            · exact tot_some ⟨hk14, rfl⟩
            · exact tot_some ⟨hk14, rfl⟩
        · refine tot_if (fun hc16 => ?_) (fun hc16 => ?_)
          · have hg17 : isCd (gP σ2 404) = true := (cp_404 hk1.1)
            refine tot_gd hg17 ?_
            refine tot_bd (t_x0_set hN hk1.1 hg17) (fun _r18 σ24 hp18 => ?_)
            have hk18 := kp_tr hk1 hp18
            exact tot_some ⟨(kp_I hk18 (by decide) (by decide)), rfl⟩
          · refine tot_bd (t_x8_placeAt hN hk1.1) (fun r25 σ26 hp19 => ?_)
            have hk19 := kp_id hk1 hp19
            refine tot_bd (t_x4_refuse hN hk19.1) (fun r27 σ28 hp20 => ?_)
            have hb_r27 := hp20.2
            have hk20 := kp_tr hk19 hp20.1
            refine tot_gd hb_r27 ?_
            exact tot_some ⟨hk20, hb_r27⟩

set_option maxHeartbeats 4000000 in
set_option maxRecDepth 100000 in
theorem t_x4_readPut_88 {N : Nat} (hN : 8589934592 ≤ N) {σ : St} {x2 : Int32} (hC : CP σ) : Tot (x4_readPut_88 N σ x2) (fun r σ' => Kp σ σ' ∧ isb r = true) := by
  have hk := kp_rf hC
  unfold x4_readPut_88
  refine tot_bd (t_x4_take hN hk.1) (fun r13 σ14 hp1 => ?_)
  have hb_r13 := hp1.2
  have hk1 := kp_tr hk hp1.1
  refine tot_if (fun hc2 => ?_) (fun hc2 => ?_)
  · exact tot_some ⟨hk1, rfl⟩
  · refine tot_bd (t_x4_readValue hN hk1.1) (fun r15 σ16 hp3 => ?_)
    have hb_r15 := hp3.2
    have hk3 := kp_tr hk1 hp3.1
    refine tot_if (fun hc4 => ?_) (fun hc4 => ?_)
    · exact tot_some ⟨hk3, rfl⟩
    · refine tot_bd (t_x4_take hN hk3.1) (fun r17 σ18 hp5 => ?_)
      have hb_r17 := hp5.2
      have hk5 := kp_tr hk3 hp5.1
      refine tot_if (fun hc6 => ?_) (fun hc6 => ?_)
      · exact tot_some ⟨hk5, rfl⟩
      · exact tot_some ⟨hk5, rfl⟩
set_option maxHeartbeats 4000000 in
set_option maxRecDepth 100000 in
theorem t_x4_readPut_33 {N : Nat} (hN : 8589934592 ≤ N) {σ : St} {x1 : Int32} {t0 : Nat} {t1 : Int32} (hC : CP σ) (h_t0 : isCd t0 = true) : Tot (x4_readPut_33 N σ x1 t0 t1) (fun r σ' => Kp σ σ' ∧ isb r = true) := by
  have hk := kp_rf hC
  unfold x4_readPut_33
  have hg1 : isCd t0 = true := h_t0
  refine tot_gd hg1 ?_
  refine tot_bd (t_x0_add hN hk.1 hg1) (fun r4 σ5 hp2 => ?_)
  have hk2 := kp_tr hk hp2
  refine tot_bd (t_x8_letterAt hN hk2.1) (fun r6 σ7 hp3 => ?_)
  have hk3 := kp_id hk2 hp3
  have hg4 : isCd (gP σ5 404) = true := (cp_404 hk2.1)
  refine tot_gd hg4 ?_
  refine tot_bd (t_x0_set hN hk3.1 hg4) (fun _r5 σ10 hp5 => ?_)
  have hk5 := kp_tr hk3 hp5
  refine tot_bd (t_x4_seen hN hk5.1) (fun r11 σ12 hp6 => ?_)
  have hb_r11 := hp6.2
  have hk6 := kp_id hk5 hp6.1
  refine tot_if (fun hc7 => ?_) (fun hc7 => ?_)
  · exact tot_kb hk6 (t_x4_readPut_88 hN hk6.1)
  · refine tot_bd (t_x4_readUse hN hk6.1) (fun r19 σ20 hp8 => ?_)
    have hb_r19 := hp8.2
    have hk8 := kp_tr hk6 hp8.1
    refine tot_if (fun hc9 => ?_) (fun hc9 => ?_)
    · exact tot_some ⟨hk8, rfl⟩
    · refine tot_bd (t_x4_readField hN hk8.1) (fun r21 σ22 hp10 => ?_)
      have hb_r21 := hp10.2
      have hk10 := kp_tr hk8 hp10.1
      refine tot_if (fun hc11 => ?_) (fun hc11 => ?_)
      · exact tot_some ⟨hk10, rfl⟩
      · exact tot_kb hk10 (t_x4_readPut_88 hN hk10.1)
set_option maxHeartbeats 4000000 in
set_option maxRecDepth 100000 in
theorem t_x4_readPut {N : Nat} (hN : 8589934592 ≤ N) {σ : St} (hC : CP σ) : Tot (x4_readPut N σ) (fun r σ' => Kp σ σ' ∧ isb r = true) := by
  have hk := kp_rf hC
  unfold x4_readPut
  refine tot_bd (t_x4_seen hN (kp_I hk (by decide) (by decide)).1) (fun r1 σ2 hp1 => ?_)
  have hb_r1 := hp1.2
  have hk1 := kp_id (kp_I hk (by decide) (by decide)) hp1.1
  refine tot_if (fun hc2 => ?_) (fun hc2 => ?_)
  · exact tot_kb hk1 (t_x4_readPut_33 hN hk1.1 (cp_404 hk.1))
  · exact tot_kb hk1 (t_x4_readPut_33 hN hk1.1 (cp_404 hk.1))

set_option maxHeartbeats 4000000 in
set_option maxRecDepth 100000 in
theorem t_x4_readReturn {N : Nat} (hN : 8589934592 ≤ N) {σ : St} (hC : CP σ) : Tot (x4_readReturn N σ) (fun r σ' => Kp σ σ' ∧ isb r = true) := by
  have hk := kp_rf hC
  unfold x4_readReturn
  have hg1 : isCd (gP σ 404) = true := (cp_404 hk.1)
  refine tot_gd hg1 ?_
  refine tot_bd (t_x0_add hN (kp_I hk (by decide) (by decide)).1 hg1) (fun r2 σ3 hp2 => ?_)
  have hk2 := kp_tr (kp_I hk (by decide) (by decide)) hp2
  refine tot_bd (t_x4_seen hN hk2.1) (fun r4 σ5 hp3 => ?_)
  have hb_r4 := hp3.2
  have hk3 := kp_id hk2 hp3.1
  refine tot_if (fun hc4 => ?_) (fun hc4 => ?_)
  · refine tot_bd (t_x4_readValue hN hk3.1) (fun r6 σ7 hp5 => ?_)
    have hb_r6 := hp5.2
    have hk5 := kp_tr hk3 hp5.1
    refine tot_if (fun hc6 => ?_) (fun hc6 => ?_)
    · exact tot_some ⟨hk5, rfl⟩
    · refine tot_bd (t_x4_take hN hk5.1) (fun r8 σ9 hp7 => ?_)
      have hb_r8 := hp7.2
      have hk7 := kp_tr hk5 hp7.1
      refine tot_if (fun hc8 => ?_) (fun hc8 => ?_)
      · exact tot_some ⟨hk7, rfl⟩
      · exact tot_some ⟨hk7, rfl⟩
  · have hg9 : isCd (gP σ5 404) = true := (cp_404 hk3.1)
    refine tot_gd hg9 ?_
    refine tot_bd (t_x0_set hN hk3.1 hg9) (fun _r10 σ12 hp10 => ?_)
    have hk10 := kp_tr hk3 hp10
    exact tot_some ⟨(kp_I hk10 (by decide) (by decide)), rfl⟩
