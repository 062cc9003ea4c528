/-! runs: what the reference does at each act -/
theorem dd1 {N : Nat} {σ : St} {c : Int32} {k : Nat} (hk : k < 2600) (h : gA σ 12 k = 1) : Par (m_does N σ (nI k) c) (fun r σ' => r = nI (k + 1) ∧ σ' = sI σ 51 0) := by
  unfold m_does
  rw [ibk (show k < 2600 by omega) (by decide), nI_clamp (show k < 2 ^ 31 by omega), gd_t, h, if_neg (show ¬ (1 : Int32) = 0 by decide), if_pos rfl]
  exact par_some ⟨nI_1 k, rfl⟩
theorem dd2 {N : Nat} {σ : St} {c : Int32} {k : Nat} (hk : k < 2600) {an t : Nat} (h : gA σ 12 k = 2) (h53 : gI σ 53 = nI an) (h47 : gI σ 47 = nI t) (ht : t ≤ 300) : Par (m_does N σ (nI k) c) (fun r σ' => r = nI (k + 1) ∧ ((cbit c an = 0 ∧ σ' = sI (sI σ 53 (nI (an + 1))) 51 0) ∨ (¬ cbit c an = 0 ∧ t = 300 ∧ σ' = sI (sI (sI σ 53 (nI (an + 1))) 55 3) 51 0) ∨ (¬ cbit c an = 0 ∧ t < 300 ∧ σ' = sI (mkM (sI σ 53 (nI (an + 1))) t (nI (t + 1)) (nI (t + 1))) 51 (nI (t + 1))))) := by
  unfold m_does
  rw [ibk (show k < 2600 by omega) (by decide), nI_clamp (show k < 2 ^ 31 by omega), gd_t, h, if_neg (show ¬ (2 : Int32) = 0 by decide), if_neg (show ¬ (2 : Int32) = 1 by decide), if_pos rfl]
  unfold m_does_110
  refine par_bd (n_chooses h53) (fun r6 σ7 z => ?_)
  obtain ⟨z1, z2⟩ := z
  rw [z1, z2]
  refine par_if (fun y => par_some ⟨nI_1 k, Or.inl ⟨y, rfl⟩⟩) (fun y => ?_)
  refine par_bd (n_makes (t := t) (by rw [gI_ne (by decide)]; exact h47) ht) (fun r8 σ9 w => ?_)
  rcases w with ⟨w1, w2, w3⟩ | ⟨w1, w2, w3⟩
  · rw [w2, w3]
    exact par_some ⟨nI_1 k, Or.inr (Or.inl ⟨y, w1, rfl⟩)⟩
  · rw [w2, w3]
    exact par_some ⟨nI_1 k, Or.inr (Or.inr ⟨y, w1, rfl⟩)⟩
theorem dd3 {N : Nat} {σ : St} {c : Int32} {k : Nat} (hk : k < 2600) {dp k1 k2 t : Nat} (h : gA σ 12 k = 3) (h50 : gI σ 50 = nI (dp + 1)) (hd : dp ≤ 12) (h13 : gA σ 13 k = nI k1) (hk1 : k1 < 26) (h14 : gA σ 14 k = nI k2) (hk2 : k2 < 26) (h47 : gI σ 47 = nI t) (ht : t ≤ 300) : Par (m_does N σ (nI k) c) (fun r σ' => r = nI (k + 1) ∧ ((t = 300 ∧ σ' = sI (sI σ 55 3) 51 0) ∨ (t < 300 ∧ σ' = sI (mkM σ t (orT t (gA σ 48 (26 * dp + k1))) (orT t (gA σ 48 (26 * dp + k2)))) 51 (nI (t + 1))))) := by
  unfold m_does
  rw [ibk (show k < 2600 by omega) (by decide), nI_clamp (show k < 2 ^ 31 by omega), gd_t, h, if_neg (show ¬ (3 : Int32) = 0 by decide), if_neg (show ¬ (3 : Int32) = 1 by decide), if_neg (show ¬ (3 : Int32) = 2 by decide), if_pos rfl]
  rw [h13, gd_t]
  refine par_bd (n_nameOf h50 hd hk1) (fun r11 σ12 z => ?_)
  obtain ⟨z1, z2⟩ := z
  rw [z1, z2, h14]
  refine par_gd (fun _ => par_bd (n_nameOf h50 hd hk2) (fun r13 σ14 y => ?_))
  obtain ⟨y1, y2⟩ := y
  rw [y1, y2]
  refine par_bd (n_makes h47 ht) (fun r8 σ9 w => ?_)
  rcases w with ⟨w1, w2, w3⟩ | ⟨w1, w2, w3⟩
  · rw [w2, w3]
    exact par_some ⟨nI_1 k, Or.inl ⟨w1, rfl⟩⟩
  · rw [w2, w3]
    exact par_some ⟨nI_1 k, Or.inr ⟨w1, rfl⟩⟩
theorem dd4 {N : Nat} {σ : St} {c : Int32} {k : Nat} (hk : k < 2600) {dp k1 : Nat} (h : gA σ 12 k = 4) (h50 : gI σ 50 = nI (dp + 1)) (hd : dp ≤ 12) (h13 : gA σ 13 k = nI k1) (hk1 : k1 < 26) : Par (m_does N σ (nI k) c) (fun r σ' => r = nI (k + 1) ∧ σ' = sI σ 51 (gA σ 48 (26 * dp + k1))) := by
  unfold m_does
  rw [ibk (show k < 2600 by omega) (by decide), nI_clamp (show k < 2 ^ 31 by omega), gd_t, h, if_neg (show ¬ (4 : Int32) = 0 by decide), if_neg (show ¬ (4 : Int32) = 1 by decide), if_neg (show ¬ (4 : Int32) = 2 by decide), if_neg (show ¬ (4 : Int32) = 3 by decide), if_pos rfl]
  rw [h13, gd_t]
  refine par_bd (n_nameOf h50 hd hk1) (fun r11 σ12 z => ?_)
  obtain ⟨z1, z2⟩ := z
  rw [z1, z2]
  exact par_some ⟨nI_1 k, rfl⟩
theorem dd5 {N : Nat} {σ : St} {c : Int32} {k : Nat} (hk : k < 2600) {dp k1 : Nat} (h : gA σ 12 k = 5) (h50 : gI σ 50 = nI (dp + 1)) (hd : dp ≤ 12) (h13 : gA σ 13 k = nI k1) (hk1 : k1 < 26) : Par (m_does N σ (nI k) c) (fun r σ' => r = nI (k + 1) ∧ ((gA σ 48 (26 * dp + k1) = 0 ∧ σ' = sI (sI σ 55 2) 54 (gA σ 15 k)) ∨ (¬ gA σ 48 (26 * dp + k1) = 0 ∧ σ' = sI σ 51 (gA σ 46 ((2 * gA σ 48 (26 * dp + k1) + gA σ 14 k).toNatClampNeg))))) := by
  unfold m_does
  rw [ibk (show k < 2600 by omega) (by decide), nI_clamp (show k < 2 ^ 31 by omega), gd_t, h, if_neg (show ¬ (5 : Int32) = 0 by decide), if_neg (show ¬ (5 : Int32) = 1 by decide), if_neg (show ¬ (5 : Int32) = 2 by decide), if_neg (show ¬ (5 : Int32) = 3 by decide), if_neg (show ¬ (5 : Int32) = 4 by decide), if_pos rfl]
  rw [h13, gd_t]
  refine par_bd (n_nameOf h50 hd hk1) (fun r11 σ12 z => ?_)
  obtain ⟨z1, z2⟩ := z
  rw [z1, z2]
  unfold m_fails
  refine par_if (fun y => par_gd (fun _ => ?_)) (fun y => par_gd (fun _ => ?_))
  · rw [bd_s]
    exact par_some ⟨nI_1 k, Or.inl ⟨y, rfl⟩⟩
  · rw [h13]
    refine par_bd (n_nameOf h50 hd hk1) (fun r13 σ14 w => ?_)
    obtain ⟨w1, w2⟩ := w
    rw [w1, w2]
    exact par_gd (fun _ => par_gd (fun _ => par_some ⟨nI_1 k, Or.inr ⟨y, rfl⟩⟩))
theorem dd8 {N : Nat} {σ : St} {c : Int32} {k : Nat} (hk : k < 2600) {dp k1 : Nat} (h : gA σ 12 k = 8) (h50 : gI σ 50 = nI (dp + 1)) (hd : dp ≤ 12) (h13 : gA σ 13 k = nI k1) (hk1 : k1 < 26) : Par (m_does N σ (nI k) c) (fun r σ' => r = nI (k + 1) ∧ ((gA σ 48 (26 * dp + k1) = 0 ∧ σ' = sI (sI σ 55 2) 54 (gA σ 15 k)) ∨ (¬ gA σ 48 (26 * dp + k1) = 0 ∧ σ' = sA σ 46 ((2 * gA σ 48 (26 * dp + k1) + gA σ 14 k).toNatClampNeg) (gI σ 51)))) := by
  unfold m_does
  rw [ibk (show k < 2600 by omega) (by decide), nI_clamp (show k < 2 ^ 31 by omega), gd_t, h, if_neg (show ¬ (8 : Int32) = 0 by decide), if_neg (show ¬ (8 : Int32) = 1 by decide), if_neg (show ¬ (8 : Int32) = 2 by decide), if_neg (show ¬ (8 : Int32) = 3 by decide), if_neg (show ¬ (8 : Int32) = 4 by decide), if_neg (show ¬ (8 : Int32) = 5 by decide), if_neg (show ¬ (8 : Int32) = 6 by decide), if_neg (show ¬ (8 : Int32) = 7 by decide), if_pos rfl]
  rw [h13, gd_t]
  refine par_bd (n_nameOf h50 hd hk1) (fun r11 σ12 z => ?_)
  obtain ⟨z1, z2⟩ := z
  rw [z1, z2]
  unfold m_fails
  refine par_if (fun y => par_gd (fun _ => ?_)) (fun y => par_gd (fun _ => ?_))
  · rw [bd_s]
    exact par_some ⟨nI_1 k, Or.inl ⟨y, rfl⟩⟩
  · rw [h13]
    refine par_bd (n_nameOf h50 hd hk1) (fun r13 σ14 w => ?_)
    obtain ⟨w1, w2⟩ := w
    rw [w1, w2]
    exact par_gd (fun _ => par_gd (fun _ => par_some ⟨nI_1 k, Or.inr ⟨y, rfl⟩⟩))
theorem dd7 {N : Nat} {σ : St} {c : Int32} {k : Nat} (hk : k < 2600) {dp k1 : Nat} (h : gA σ 12 k = 7) (h50 : gI σ 50 = nI (dp + 1)) (hd : dp ≤ 12) (h13 : gA σ 13 k = nI k1) (hk1 : k1 < 26) : Par (m_does N σ (nI k) c) (fun r σ' => r = nI (k + 1) ∧ σ' = sA σ 48 (26 * dp + k1) (gI σ 51)) := by
  unfold m_does
  rw [ibk (show k < 2600 by omega) (by decide), nI_clamp (show k < 2 ^ 31 by omega), gd_t, h, if_neg (show ¬ (7 : Int32) = 0 by decide), if_neg (show ¬ (7 : Int32) = 1 by decide), if_neg (show ¬ (7 : Int32) = 2 by decide), if_neg (show ¬ (7 : Int32) = 3 by decide), if_neg (show ¬ (7 : Int32) = 4 by decide), if_neg (show ¬ (7 : Int32) = 5 by decide), if_neg (show ¬ (7 : Int32) = 6 by decide), if_pos rfl]
  rw [h13, h50, n26 (by omega) (by omega), nI_add, nI_clamp (show 26 * (dp + 1 - 1) + k1 < 2 ^ 31 by omega), Nat.add_sub_cancel]
  exact par_gd (fun _ => par_gd (fun _ => par_some ⟨nI_1 k, rfl⟩))
theorem dd9 {N : Nat} {σ : St} {c : Int32} {k : Nat} (hk : k < 2600) {dp : Nat} (h : gA σ 12 k = 9) (h50 : gI σ 50 = nI (dp + 1)) (hd : dp ≤ 12) : Par (m_does N σ (nI k) c) (fun r σ' => (dp = 0 ∧ ((gI σ 51 = 0 ∧ σ' = sI (sI σ 50 (nI dp)) 55 0) ∨ (¬ gI σ 51 = 0 ∧ σ' = sI (sI σ 50 (nI dp)) 55 1))) ∨ (0 < dp ∧ r = gA σ 49 dp ∧ σ' = sI σ 50 (nI dp))) := by
  unfold m_does
  rw [ibk (show k < 2600 by omega) (by decide), nI_clamp (show k < 2 ^ 31 by omega), gd_t, h, if_neg (show ¬ (9 : Int32) = 0 by decide), if_neg (show ¬ (9 : Int32) = 1 by decide), if_neg (show ¬ (9 : Int32) = 2 by decide), if_neg (show ¬ (9 : Int32) = 3 by decide), if_neg (show ¬ (9 : Int32) = 4 by decide), if_neg (show ¬ (9 : Int32) = 5 by decide), if_neg (show ¬ (9 : Int32) = 6 by decide), if_neg (show ¬ (9 : Int32) = 7 by decide), if_neg (show ¬ (9 : Int32) = 8 by decide), if_pos rfl]
  rw [h50, nI_pred, nI_clamp (show dp < 2 ^ 31 by omega)]
  refine par_if (fun z => ?_) (fun z => par_gd (fun _ => par_some (Or.inr ⟨?_, rfl, rfl⟩)))
  · have z2 : dp = 0 := (nI_eq (b := 0) (by omega) (by decide)).mp z
    exact par_if (fun y => par_gd (fun _ => par_some (Or.inl ⟨z2, Or.inl ⟨y, rfl⟩⟩))) (fun y => par_gd (fun _ => par_some (Or.inl ⟨z2, Or.inr ⟨y, rfl⟩⟩)))
  · rcases Nat.eq_zero_or_pos dp with e | e
    · exact absurd (by rw [e]; rfl) z
    · exact e
theorem dd12 {N : Nat} {σ : St} {c : Int32} {k : Nat} (hk : k < 2600) {an : Nat} (h : gA σ 12 k = 12) (h53 : gI σ 53 = nI an) : Par (m_does N σ (nI k) c) (fun r σ' => σ' = sI σ 53 (nI (an + 1)) ∧ ((cbit c an = 0 ∧ r = gA σ 15 k) ∨ (¬ cbit c an = 0 ∧ r = nI (k + 1)))) := by
  unfold m_does
  rw [ibk (show k < 2600 by omega) (by decide), nI_clamp (show k < 2 ^ 31 by omega), gd_t, h, if_neg (show ¬ (12 : Int32) = 0 by decide), if_neg (show ¬ (12 : Int32) = 1 by decide), if_neg (show ¬ (12 : Int32) = 2 by decide), if_neg (show ¬ (12 : Int32) = 3 by decide), if_neg (show ¬ (12 : Int32) = 4 by decide), if_neg (show ¬ (12 : Int32) = 5 by decide), if_neg (show ¬ (12 : Int32) = 6 by decide), if_neg (show ¬ (12 : Int32) = 7 by decide), if_neg (show ¬ (12 : Int32) = 8 by decide), if_neg (show ¬ (12 : Int32) = 9 by decide), if_neg (show ¬ (12 : Int32) = 10 by decide), if_neg (show ¬ (12 : Int32) = 11 by decide), if_pos rfl]
  rw [gd_t, if_pos rfl]
  refine par_bd (n_chooses h53) (fun r6 σ7 z => ?_)
  obtain ⟨z1, z2⟩ := z
  unfold m_does_437
  rw [z1, z2, nI_clamp (show k < 2 ^ 31 by omega)]
  exact par_if (fun y => par_gd (fun _ => par_some ⟨rfl, Or.inl ⟨y, rfl⟩⟩)) (fun y => par_some ⟨rfl, Or.inr ⟨y, nI_1 k⟩⟩)
theorem dd10 {N : Nat} {σ : St} {c : Int32} {k : Nat} (hk : k < 2600) {dp k1 : Nat} (h : gA σ 12 k = 10) (h50 : gI σ 50 = nI (dp + 1)) (hd : dp ≤ 12) (h13 : gA σ 13 k = nI k1) (hk1 : k1 < 26) : Par (m_does N σ (nI k) c) (fun r σ' => σ' = σ ∧ ((gA σ 48 (26 * dp + k1) = 0 ∧ r = nI (k + 1)) ∨ (¬ gA σ 48 (26 * dp + k1) = 0 ∧ r = gA σ 15 k))) := by
  unfold m_does
  rw [ibk (show k < 2600 by omega) (by decide), nI_clamp (show k < 2 ^ 31 by omega), gd_t, h, if_neg (show ¬ (10 : Int32) = 0 by decide), if_neg (show ¬ (10 : Int32) = 1 by decide), if_neg (show ¬ (10 : Int32) = 2 by decide), if_neg (show ¬ (10 : Int32) = 3 by decide), if_neg (show ¬ (10 : Int32) = 4 by decide), if_neg (show ¬ (10 : Int32) = 5 by decide), if_neg (show ¬ (10 : Int32) = 6 by decide), if_neg (show ¬ (10 : Int32) = 7 by decide), if_neg (show ¬ (10 : Int32) = 8 by decide), if_neg (show ¬ (10 : Int32) = 9 by decide), if_pos rfl]
  rw [gd_t, if_neg (show ¬ (10 : Int32) = 12 by decide), h13, gd_t]
  refine par_bd (n_nameOf h50 hd hk1) (fun r11 σ12 z => ?_)
  obtain ⟨z1, z2⟩ := z
  unfold m_does_413 m_does_429 m_does_437
  rw [z1, z2, nI_clamp (show k < 2 ^ 31 by omega), h, if_pos (show (10 : Int32) = 10 from rfl), if_pos (show (10 : Int32) = 10 from rfl)]
  refine par_if (fun y => par_gd (fun _ => ?_)) (fun y => par_gd (fun _ => ?_))
  · rw [if_pos rfl, if_neg (show ¬ (1 : Int32) = 0 by decide)]
    exact par_some ⟨rfl, Or.inl ⟨y, nI_1 k⟩⟩
  · rw [if_neg (show ¬ (0 : Int32) = 1 by decide), if_pos rfl]
    exact par_gd (fun _ => par_some ⟨rfl, Or.inr ⟨y, rfl⟩⟩)
theorem dd11 {N : Nat} {σ : St} {c : Int32} {k : Nat} (hk : k < 2600) {dp k1 : Nat} (h : gA σ 12 k = 11) (h50 : gI σ 50 = nI (dp + 1)) (hd : dp ≤ 12) (h13 : gA σ 13 k = nI k1) (hk1 : k1 < 26) : Par (m_does N σ (nI k) c) (fun r σ' => σ' = σ ∧ ((gA σ 48 (26 * dp + k1) = 0 ∧ r = gA σ 15 k) ∨ (¬ gA σ 48 (26 * dp + k1) = 0 ∧ r = nI (k + 1)))) := by
  unfold m_does
  rw [ibk (show k < 2600 by omega) (by decide), nI_clamp (show k < 2 ^ 31 by omega), gd_t, h, if_neg (show ¬ (11 : Int32) = 0 by decide), if_neg (show ¬ (11 : Int32) = 1 by decide), if_neg (show ¬ (11 : Int32) = 2 by decide), if_neg (show ¬ (11 : Int32) = 3 by decide), if_neg (show ¬ (11 : Int32) = 4 by decide), if_neg (show ¬ (11 : Int32) = 5 by decide), if_neg (show ¬ (11 : Int32) = 6 by decide), if_neg (show ¬ (11 : Int32) = 7 by decide), if_neg (show ¬ (11 : Int32) = 8 by decide), if_neg (show ¬ (11 : Int32) = 9 by decide), if_neg (show ¬ (11 : Int32) = 10 by decide), if_pos rfl]
  rw [gd_t, if_neg (show ¬ (11 : Int32) = 12 by decide), h13, gd_t]
  refine par_bd (n_nameOf h50 hd hk1) (fun r11 σ12 z => ?_)
  obtain ⟨z1, z2⟩ := z
  unfold m_does_413 m_does_429 m_does_437
  rw [z1, z2, nI_clamp (show k < 2 ^ 31 by omega), h, if_neg (show ¬ (11 : Int32) = 10 by decide), if_neg (show ¬ (11 : Int32) = 10 by decide)]
  refine par_if (fun y => par_gd (fun _ => ?_)) (fun y => par_gd (fun _ => ?_))
  · rw [if_neg (show ¬ (1 : Int32) = 0 by decide), if_pos rfl]
    exact par_gd (fun _ => par_some ⟨rfl, Or.inl ⟨y, rfl⟩⟩)
  · rw [if_pos rfl, if_neg (show ¬ (1 : Int32) = 0 by decide)]
    exact par_some ⟨rfl, Or.inr ⟨y, nI_1 k⟩⟩
theorem dd13 {N : Nat} {σ : St} {c : Int32} {k : Nat} (hk : k < 2600) (h : gA σ 12 k = 13) (h14 : gA σ 14 k = 0) : Par (m_does N σ (nI k) c) (fun r σ' => r = gA σ 13 k ∧ σ' = σ) := by
  unfold m_does
  rw [ibk (show k < 2600 by omega) (by decide), nI_clamp (show k < 2 ^ 31 by omega), gd_t, h, if_neg (show ¬ (13 : Int32) = 0 by decide), if_neg (show ¬ (13 : Int32) = 1 by decide), if_neg (show ¬ (13 : Int32) = 2 by decide), if_neg (show ¬ (13 : Int32) = 3 by decide), if_neg (show ¬ (13 : Int32) = 4 by decide), if_neg (show ¬ (13 : Int32) = 5 by decide), if_neg (show ¬ (13 : Int32) = 6 by decide), if_neg (show ¬ (13 : Int32) = 7 by decide), if_neg (show ¬ (13 : Int32) = 8 by decide), if_neg (show ¬ (13 : Int32) = 9 by decide), if_neg (show ¬ (13 : Int32) = 10 by decide), if_neg (show ¬ (13 : Int32) = 11 by decide), if_neg (show ¬ (13 : Int32) = 12 by decide), if_pos rfl]
  rw [gd_t, h14, if_neg (show ¬ (0 : Int32) = 1 by decide)]
  exact par_gd (fun _ => par_some ⟨rfl, rfl⟩)
theorem dd0 {N : Nat} {σ : St} {c : Int32} {k : Nat} (hk : k < 2600) (h : gA σ 12 k = 0) : Par (m_does N σ (nI k) c) (fun r σ' => (gI σ 52 = 400 ∧ σ' = sI σ 55 3) ∨ (¬ gI σ 52 = 400 ∧ r = nI (k + 1) ∧ σ' = sI σ 52 (gI σ 52 + 1))) := by
  unfold m_does
  rw [ibk (show k < 2600 by omega) (by decide), nI_clamp (show k < 2 ^ 31 by omega), gd_t, h, if_pos rfl]
  unfold m_step
  refine par_bd (P := fun _ σ' => (gI σ 52 = 400 ∧ σ' = sI σ 55 3) ∨ (¬ gI σ 52 = 400 ∧ σ' = sI σ 52 (gI σ 52 + 1))) (par_if (fun y => par_some (Or.inl ⟨y, rfl⟩)) (fun y => par_some (Or.inr ⟨y, rfl⟩))) (fun _ σ3 z => par_some ?_)
  rcases z with ⟨z1, z2⟩ | ⟨z1, z2⟩
  · exact Or.inl ⟨z1, z2⟩
  · exact Or.inr ⟨z1, nI_1 k, z2⟩
theorem ddB {N : Nat} {σ : St} {c : Int32} {k : Nat} (hk : k < 2600) {x : Int32} (h : gA σ 12 k = 13) (h14 : gA σ 14 k = 1) (h13 : gA σ 13 k = x) : Par (m_does N σ (nI k) c) (fun r σ' => (gI σ 52 = 400 ∧ σ' = sI σ 55 3) ∨ (¬ gI σ 52 = 400 ∧ r = x ∧ σ' = sI σ 52 (gI σ 52 + 1))) := by
  unfold m_does
  rw [ibk (show k < 2600 by omega) (by decide), nI_clamp (show k < 2 ^ 31 by omega), gd_t, h, if_neg (show ¬ (13 : Int32) = 0 by decide), if_neg (show ¬ (13 : Int32) = 1 by decide), if_neg (show ¬ (13 : Int32) = 2 by decide), if_neg (show ¬ (13 : Int32) = 3 by decide), if_neg (show ¬ (13 : Int32) = 4 by decide), if_neg (show ¬ (13 : Int32) = 5 by decide), if_neg (show ¬ (13 : Int32) = 6 by decide), if_neg (show ¬ (13 : Int32) = 7 by decide), if_neg (show ¬ (13 : Int32) = 8 by decide), if_neg (show ¬ (13 : Int32) = 9 by decide), if_neg (show ¬ (13 : Int32) = 10 by decide), if_neg (show ¬ (13 : Int32) = 11 by decide), if_neg (show ¬ (13 : Int32) = 12 by decide), if_pos rfl]
  rw [gd_t, h14, if_pos rfl]
  unfold m_step
  refine par_bd (P := fun _ σ' => (gI σ 52 = 400 ∧ σ' = sI σ 55 3) ∨ (¬ gI σ 52 = 400 ∧ σ' = sI σ 52 (gI σ 52 + 1))) (par_if (fun y => par_some (Or.inl ⟨y, rfl⟩)) (fun y => par_some (Or.inr ⟨y, rfl⟩))) (fun _ σ3 z => par_gd (fun _ => par_some ?_))
  rcases z with ⟨z1, z2⟩ | ⟨z1, z2⟩
  · exact Or.inl ⟨z1, z2⟩
  · exact Or.inr ⟨z1, by rw [z2]; exact h13, z2⟩
