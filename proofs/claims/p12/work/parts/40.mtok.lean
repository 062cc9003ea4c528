/-! The reference's scanner: safe, and what it leaves -/
theorem gA_sA {σ : St} {j i k : Nat} {v : Int32} : gA (sA σ j i v) k = if k = j then upd (gA σ j) i v else gA σ k := rfl
theorem i0 : (0 : Int32).toInt = 0 := by decide
theorem i1 : (1 : Int32).toInt = 1 := by decide
/-- outside the token's and the fault's numbers nothing changes -/
def Tk (σ σ' : St) : Prop := (∀ j, gA σ' j = gA σ j) ∧ (∀ k, k < 4 ∨ 9 < k → gI σ' k = gI σ k) ∧ σ'.2.2.2 = σ.2.2.2
theorem tk_rf (σ : St) : Tk σ σ := ⟨fun _ => rfl, fun _ _ => rfl, rfl⟩
theorem tk_tr {σ σ1 σ2 : St} (h : Tk σ σ1) (h2 : Tk σ1 σ2) : Tk σ σ2 := ⟨fun j => (h2.1 j).trans (h.1 j), fun k hk => (h2.2.1 k hk).trans (h.2.1 k hk), h2.2.2.trans h.2.2⟩
theorem tk_I {σ σ1 : St} {k : Nat} {v : Int32} (h : Tk σ σ1) (hk : 4 ≤ k ∧ k ≤ 9) : Tk σ (sI σ1 k v) := ⟨h.1, fun j hj => (gI_ne (by omega)).trans (h.2.1 j hj), h.2.2⟩
/-- the fault stays too -/
def Fk (σ σ' : St) : Prop := gI σ' 8 = gI σ 8 ∧ gI σ' 9 = gI σ 9
theorem fk_rf (σ : St) : Fk σ σ := ⟨rfl, rfl⟩
theorem fk_tr {σ σ1 σ2 : St} (h : Fk σ σ1) (h2 : Fk σ1 σ2) : Fk σ σ2 := ⟨h2.1.trans h.1, h2.2.trans h.2⟩
theorem fk_I {σ σ1 : St} {k : Nat} {v : Int32} (h : Fk σ σ1) (hk : k < 8) : Fk σ (sI σ1 k v) := ⟨(gI_ne (by omega)).trans h.1, (gI_ne (by omega)).trans h.2⟩
/-- places: the token's, where it stands, the text's length -/
def TI (σ : St) : Prop := 0 ≤ (gI σ 5).toInt ∧ (gI σ 5).toInt ≤ (gI σ 4).toInt ∧ (gI σ 4).toInt ≤ (gI σ 3).toInt ∧ (gI σ 3).toInt ≤ 1200
/-- what a token's number may be -/
def TV (σ : St) : Prop := (gI σ 6 = 0 → 0 ≤ (gI σ 7).toInt ∧ (gI σ 7).toInt ≤ 25) ∧ (gI σ 6 = 1 → 0 ≤ (gI σ 7).toInt ∧ (gI σ 7).toInt ≤ 7) ∧ (gI σ 6 = 4 ∨ (gI σ 5).toInt < (gI σ 4).toInt) ∧ (gI σ 6 = 0 ∨ gI σ 6 = 1 ∨ gI σ 6 = 2 ∨ gI σ 6 = 3 ∨ gI σ 6 = 4 ∨ gI σ 6 = 5) ∧ (gI σ 6 = 2 → (gI σ 5).toInt + 2 ≤ (gI σ 4).toInt)
theorem ib_m {i : Int32} {n : Nat} (h1 : 0 ≤ i.toInt) (h2 : i.toInt < n) (hn : n < 2 ^ 31) : ib i n = true :=
  ib_n (c := Int32.ofNat n) h1 (by rw [Int32.le_iff_toInt_le, show (Int32.ofNat n).toInt = (n : Int) from nI_toInt hn]; omega) rfl hn
theorem bd_s {ρ τ : Type} {r : ρ} {σ : St} {K : ρ → St → Option τ} : bd (some (r, σ)) K = K r σ := rfl
theorem s_here {N : Nat} {σ : St} (h0 : 0 ≤ (gI σ 4).toInt) (h1 : (gI σ 3).toInt ≤ 1200) : ∃ r, m_here N σ = some (r, σ) ∧ ((gI σ 4).toInt < (gI σ 3).toInt ∨ r = -1) := by
  unfold m_here
  by_cases h : gI σ 3 ≤ gI σ 4
  · rw [if_pos h]
    exact ⟨_, rfl, Or.inr rfl⟩
  · rw [if_neg h]
    rw [Int32.le_iff_toInt_le] at h
    have hi : ib (gI σ 4) 1200 = true := ib_m h0 (by omega) (by decide)
    rw [hi]
    exact ⟨_, rfl, Or.inl (by omega)⟩
def smF (a : Int32) : Int32 := if a < 97 then 0 else if 122 < a then 0 else 1
theorem e_isSmall {N : Nat} {σ : St} {a1 : Int32} : m_isSmall N σ a1 = some (smF a1, σ) := by
  unfold m_isSmall smF
  split
  · rfl
  · split <;> rfl
theorem smF_1 {a : Int32} (h : ¬ smF a = 0) : 97 ≤ a.toInt ∧ a.toInt ≤ 122 := by
  have e1 : (97 : Int32).toInt = 97 := by decide
  have e2 : (122 : Int32).toInt = 122 := by decide
  unfold smF at h
  split at h
  · exact absurd rfl h
  · rename_i h1
    split at h
    · exact absurd rfl h
    · rename_i h2
      rw [Int32.lt_iff_toInt_lt] at h1 h2
      omega
theorem smF_2 {a : Int32} (h : 97 ≤ a.toInt) (h2 : a.toInt ≤ 122) : ¬ smF a = 0 := by
  have e1 : (97 : Int32).toInt = 97 := by decide
  have e2 : (122 : Int32).toInt = 122 := by decide
  unfold smF
  rw [if_neg (by rw [Int32.lt_iff_toInt_lt]; omega), if_neg (by rw [Int32.lt_iff_toInt_lt]; omega)]
  decide
theorem ch43 : chS 9 43 = 32 := by decide +kernel
theorem l44 : lenS.getD 9 0 = 44 := rfl
theorem cl_i {x : Int32} {n : Nat} (h : x.toInt = n) : x.toNatClampNeg = n := by
  have h1 : 0 ≤ x.toInt := by omega
  unfold Int32.toNatClampNeg
  omega
theorem not43 {x : Int32} (h0 : 0 ≤ x.toInt) (h1 : x.toInt ≤ 43) (h : ¬ chS 9 x.toNatClampNeg = 32) : x.toInt ≤ 42 := by
  rcases (show x.toInt = 43 ∨ x.toInt ≤ 42 by omega) with e | e
  · rw [cl_i (n := 43) e] at h
    exact absurd ch43 h
  · exact e
theorem s_wordOf_97 {N : Nat} {rec4 : St → Int32 → Int32 → Option (Int32 × St)} : ∀ (n : Nat) (σ : St) (x1 x2 : Int32), 0 ≤ x2.toInt → x2.toInt ≤ 43 → (44 - x2.toInt).toNat < n → (∀ y : Int32, x2.toInt < y.toInt → y.toInt ≤ 44 → Tot (rec4 σ (x1 + 1) y) (fun _ σ' => σ' = σ)) → Tot (m_wordOf_97 N rec4 n σ x1 x2) (fun _ σ' => σ' = σ) := by
  intro n
  induction n with
  | zero => intro σ x1 x2 h0 h1 hm; exact absurd hm (Nat.not_lt_zero _)
  | succ n ih =>
    intro σ x1 x2 h0 h1 hm hr
    show Tot (m_wordOf_97_b N rec4 (m_wordOf_97 N rec4 n) σ x1 x2) _
    unfold m_wordOf_97_b m_wordOf_114
    have hs := i_succ (x := x2) (by omega)
    refine tot_gd (ib_m h0 (by rw [l44]; omega) (by decide)) (tot_if (fun _ => hr _ (by omega) (by omega)) (fun h => ?_))
    have h2 := not43 h0 h1 h
    exact ih _ _ _ (by omega) (by omega) (by omega) (fun y hy => hr y (by omega))
theorem s_wordOf_15 {N : Nat} (hN : 8589934592 ≤ N) {rec4 : St → Int32 → Int32 → Option (Int32 × St)} : ∀ (n : Nat) (σ : St) (x1 x2 x3 : Int32), TI σ → 0 ≤ x2.toInt → 0 ≤ x3.toInt → x2.toInt + x3.toInt ≤ 43 → (44 - x3.toInt).toNat < n → (∀ y : Int32, x2.toInt < y.toInt → y.toInt ≤ 44 → Tot (rec4 σ (x1 + 1) y) (fun _ σ' => σ' = σ)) → Tot (m_wordOf_15 N rec4 n σ x1 x2 x3) (fun _ σ' => σ' = σ) := by
  intro n
  induction n with
  | zero => intro σ x1 x2 x3 hT h0 h1 h2 hm; exact absurd hm (Nat.not_lt_zero _)
  | succ n ih =>
    intro σ x1 x2 x3 hT h0 h1 h2 hm hr
    obtain ⟨t1, t2, t3, t4⟩ := id hT
    show Tot (m_wordOf_15_b N rec4 (m_wordOf_15 N rec4 n) σ x1 x2 x3) _
    have hs := i_succ (x := x3) (by omega)
    have ha := i_add (x := x2) (y := x3) (by omega) (by omega)
    have hp := i_add (x := gI σ 5) (y := x3) (by omega) (by omega)
    have hi : ib (x2 + x3) (lenS.getD 9 0) = true := ib_m (by omega) (by rw [l44]; omega) (by decide)
    have h97 : Tot (m_wordOf_97 N rec4 N σ x1 x2) (fun _ σ' => σ' = σ) := s_wordOf_97 N σ x1 x2 h0 (by omega) (by omega) hr
    have h69 : Tot (m_wordOf_69 N rec4 σ x1 x2 x3) (fun _ σ' => σ' = σ) := by
      unfold m_wordOf_69
      exact tot_gd hi (tot_if (fun _ => tot_if (fun _ => tot_some rfl) (fun _ => h97)) (fun _ => h97))
    unfold m_wordOf_15_b
    refine tot_gd hi (tot_if (fun _ => h69) (fun h => tot_if (fun _ => h69) (fun h4 => ?_)))
    rw [Int32.le_iff_toInt_le] at h4
    have h5 := not43 (x := x2 + x3) (by omega) (by omega) h
    refine tot_gd (ib_m (by omega) (by omega) (by decide)) (tot_gd hi (tot_if (fun _ => ?_) (fun _ => h69)))
    exact ih _ _ _ _ hT h0 (by omega) (by omega) (by omega) hr
theorem s_wordOf_4 {N : Nat} (hN : 8589934592 ≤ N) : ∀ (n : Nat) (σ : St) (x1 x2 : Int32), TI σ → 0 ≤ x2.toInt → x2.toInt ≤ 44 → (45 - x2.toInt).toNat < n → Tot (m_wordOf_4 N n σ x1 x2) (fun _ σ' => σ' = σ) := by
  intro n
  induction n with
  | zero => intro σ x1 x2 hT h0 h1 hm; exact absurd hm (Nat.not_lt_zero _)
  | succ n ih =>
    intro σ x1 x2 hT h0 h1 hm
    show Tot (m_wordOf_4_b N (m_wordOf_4 N n) σ x1 x2) _
    unfold m_wordOf_4_b
    have e1 : (44 : Int32).toInt = 44 := by decide
    refine tot_if (fun _ => tot_some rfl) (fun h => ?_)
    rw [Int32.le_iff_toInt_le] at h
    exact s_wordOf_15 hN N σ x1 x2 0 hT h0 (by rw [i0]; omega) (by rw [i0]; omega) (by rw [i0]; omega) (fun y hy hy2 => ih σ _ y hT (by omega) hy2 (by omega))
theorem s_wordOf {N : Nat} (hN : 8589934592 ≤ N) {σ : St} (hT : TI σ) : Tot (m_wordOf N σ) (fun _ σ' => σ' = σ) := by
  unfold m_wordOf
  exact s_wordOf_4 hN N σ 0 0 hT (by rw [i0]; omega) (by rw [i0]; omega) (by rw [i0]; omega)
/-- what next() leaves -/
def NX (σ σ' : St) : Prop := TI σ' ∧ TV σ' ∧ (gI σ 4).toInt ≤ (gI σ' 5).toInt ∧ Tk σ σ' ∧ Fk σ σ'
/-- what the end of a word leaves -/
def NW (σ σ' : St) : Prop := TI σ' ∧ TV σ' ∧ gI σ' 5 = gI σ 5 ∧ Tk σ σ' ∧ Fk σ σ'
theorem s_next_87 {N : Nat} (hN : 8589934592 ≤ N) {σ : St} {x1 : Int32} (hT : TI σ) (h1 : 97 ≤ x1.toInt) (h2 : x1.toInt ≤ 122) (hlt : (gI σ 5).toInt < (gI σ 4).toInt) : Tot (m_next_87 N σ x1) (fun _ σ' => NW σ σ') := by
  have h112 : ∀ t1 : Int32, ((gI σ 4 = gI σ 5 + 1) → 0 ≤ t1.toInt ∧ t1.toInt ≤ 25) → Tot (m_next_112 N σ t1) (fun _ σ' => NW σ σ') := by
    intro t1 ht
    have fin : ∀ v : Int32, (v = 0 → 0 ≤ t1.toInt ∧ t1.toInt ≤ 25) → ¬ v = 1 → (v = 0 ∨ v = 1 ∨ v = 2 ∨ v = 3 ∨ v = 4 ∨ v = 5) → (v = 2 → (gI σ 5).toInt + 2 ≤ (gI σ 4).toInt) → Tot (m_next_146 N (sI σ 7 t1) v) (fun _ σ' => NW σ σ') := by
      intro v hv hv1 hv2 hv3
      unfold m_next_146
      exact tot_some ⟨hT, ⟨fun e => hv e, fun e => absurd e hv1, Or.inr hlt, hv2, hv3⟩, rfl, tk_I (tk_I (tk_rf _) (by decide)) (by decide), fk_I (fk_I (fk_rf _) (by decide)) (by decide)⟩
    unfold m_next_112
    refine tot_if (fun h => fin 0 (fun _ => ht h) (by decide) (Or.inl rfl) (fun e => absurd e (by decide))) (fun h => tot_if (fun _ => fin 5 (fun e => absurd e (by decide)) (by decide) (by simp) (fun e => absurd e (by decide))) (fun _ => fin 2 (fun e => absurd e (by decide)) (by decide) (by simp) (fun _ => ?_)))
    obtain ⟨t1, t2, t3, t4⟩ := id hT
    have hs := i_succ (x := gI σ 5) (by omega)
    rcases (show (gI σ 4).toInt = (gI σ 5).toInt + 1 ∨ (gI σ 5).toInt + 2 ≤ (gI σ 4).toInt by omega) with q | q
    · exact absurd (Int32.toInt_inj.mp (by rw [hs]; exact q)) h
    · exact q
  unfold m_next_87
  have hd : (x1 - 97).toInt = x1.toInt - 97 := by
    have h8 : (-97 : Int32).toInt = -97 := by decide
    rw [Int32.sub_eq_add_neg, i_add (by omega) (by omega), h8]
    omega
  refine tot_if (fun h => h112 _ (fun _ => by omega)) (fun h => ?_)
  refine tot_bd (s_wordOf hN hT) (fun r13 σ14 hp => ?_)
  obtain rfl := hp.symm
  exact h112 _ (fun e => absurd e h)
theorem s_next_64 {N : Nat} (hN : 8589934592 ≤ N) : ∀ (n : Nat) (σ : St) (x1 : Int32), TI σ → 97 ≤ x1.toInt → x1.toInt ≤ 122 → (1201 - (gI σ 4).toInt).toNat < n → ((gI σ 5).toInt < (gI σ 4).toInt ∨ ∃ r, m_here N σ = some (r, σ) ∧ 97 ≤ r.toInt ∧ r.toInt ≤ 122) → Tot (m_next_64 N n σ x1) (fun _ σ' => NW σ σ') := by
  intro n
  induction n with
  | zero => intro σ x1 hT h1 h2 hm; exact absurd hm (Nat.not_lt_zero _)
  | succ n ih =>
    intro σ x1 hT h1 h2 hm hq
    obtain ⟨t1, t2, t3, t4⟩ := id hT
    show Tot (m_next_64_b N (m_next_64 N n) σ x1) _
    unfold m_next_64_b
    obtain ⟨r9, e9, h9⟩ := s_here (N := N) (σ := σ) (by omega) t4
    rw [e9, bd_s, e_isSmall, bd_s]
    refine tot_if (fun h0 => ?_) (fun h0 => ?_)
    · refine s_next_87 hN hT h1 h2 ?_
      rcases hq with q | ⟨r', e', q1, q2⟩
      · exact q
      · rw [e9] at e'
        cases e'
        exact absurd h0 (smF_2 q1 q2)
    · clear hq
      have hlt : (gI σ 4).toInt < (gI σ 3).toInt := by
        rcases h9 with q | q
        · exact q
        · rw [q] at h0
          exact absurd (by decide) h0
      have hs := i_succ (x := gI σ 4) (by omega)
      have a4 : gI (sI σ 4 (gI σ 4 + 1)) 4 = gI σ 4 + 1 := gI_eq
      refine (ih (sI σ 4 (gI σ 4 + 1)) x1 ⟨t1, ?_, ?_, t4⟩ h1 h2 ?_ (Or.inl ?_)).mono (fun _ σ' q => ⟨q.1, q.2.1, q.2.2.1, tk_tr (tk_I (tk_rf _) (by decide)) q.2.2.2.1, fk_tr (fk_I (fk_rf _) (by decide)) q.2.2.2.2⟩)
      · show (gI σ 5).toInt ≤ (gI (sI σ 4 (gI σ 4 + 1)) 4).toInt
        rw [a4]; omega
      · show (gI (sI σ 4 (gI σ 4 + 1)) 4).toInt ≤ (gI σ 3).toInt
        rw [a4]; omega
      · rw [a4]; omega
      · show (gI σ 5).toInt < (gI (sI σ 4 (gI σ 4 + 1)) 4).toInt
        rw [a4]; omega
theorem s_next_183 {N : Nat} {σ : St} {x1 t1 : Int32} (hT : TI σ) (hlt : (gI σ 5).toInt < (gI σ 4).toInt) (h : ¬ x1 < 65 → ¬ 72 < x1 → 0 ≤ t1.toInt ∧ t1.toInt ≤ 7) : Tot (m_next_183 N σ x1 t1) (fun _ σ' => NW σ σ') := by
  have fin : ∀ v : Int32, (v = 1 → 0 ≤ t1.toInt ∧ t1.toInt ≤ 7) → ¬ v = 0 → (v = 0 ∨ v = 1 ∨ v = 2 ∨ v = 3 ∨ v = 4 ∨ v = 5) → ¬ v = 2 → NW σ (sI (sI σ 7 t1) 6 v) := fun v hv hv1 hv2 hv3 => ⟨hT, ⟨fun e => absurd e hv1, fun e => hv e, Or.inr hlt, hv2, fun e => absurd e hv3⟩, rfl, tk_I (tk_I (tk_rf _) (by decide)) (by decide), fk_I (fk_I (fk_rf _) (by decide)) (by decide)⟩
  have h257 : ∀ x2 : Int32, Tot (m_next_257 N (sI σ 7 t1) x2) (fun _ σ' => NW σ σ') := by
    intro x2
    unfold m_next_257
    exact tot_if (fun _ => tot_some (fin 5 (fun e => absurd e (by decide)) (by decide) (by simp) (by decide))) (fun _ => tot_some (fin 3 (fun e => absurd e (by decide)) (by decide) (by simp) (by decide)))
  have h239 : ∀ t0 : Int32, Tot (m_next_239 N (sI σ 7 t1) x1 t0) (fun _ σ' => NW σ σ') := by
    intro t0
    unfold m_next_239
    exact tot_if (fun _ => h257 _) (fun g1 => tot_if (fun _ => h257 _) (fun g2 => tot_some (fin 1 (fun _ => h g1 g2) (by decide) (by simp) (by decide))))
  have h234 : Tot (m_next_234 N (sI σ 7 t1) x1) (fun _ σ' => NW σ σ') := by
    unfold m_next_234
    exact h239 1
  unfold m_next_183
  exact tot_if (fun _ => h234) (fun _ => tot_if (fun _ => h234) (fun _ => tot_if (fun _ => h234) (fun _ => tot_if (fun _ => h234) (fun _ => tot_if (fun _ => h234) (fun _ => tot_if (fun _ => h234) (fun _ => tot_if (fun _ => h234) (fun _ => tot_if (fun _ => h234) (fun _ => h239 0))))))))
/-- behind the blanks -/
def T4 (σ : St) : Prop := 0 ≤ (gI σ 4).toInt ∧ (gI σ 4).toInt ≤ (gI σ 3).toInt ∧ (gI σ 3).toInt ≤ 1200
theorem s_next_31 {N : Nat} (hN : 8589934592 ≤ N) {σ : St} (hT : T4 σ) : Tot (m_next_31 N σ) (fun _ σ' => NX σ σ') := by
  obtain ⟨t1, t2, t3⟩ := id hT
  unfold m_next_31
  have hT1 : TI (sI σ 5 (gI σ 4)) := ⟨t1, Int.le_refl _, t2, t3⟩
  obtain ⟨r5, e5, h5⟩ := s_here (N := N) (σ := sI σ 5 (gI σ 4)) t1 t3
  rw [e5, bd_s]
  refine tot_if (fun _ => ?_) (fun hne => ?_)
  · exact tot_some ⟨hT1, ⟨fun e => absurd e (show ¬ (4 : Int32) = 0 by decide), fun e => absurd e (show ¬ (4 : Int32) = 1 by decide), Or.inl rfl, by simp [gI_eq], fun e => absurd e (show ¬ (4 : Int32) = 2 by decide)⟩, Int.le_refl _, tk_I (tk_I (tk_rf _) (by decide)) (by decide), fk_I (fk_I (fk_rf _) (by decide)) (by decide)⟩
  · have hlt : (gI σ 4).toInt < (gI σ 3).toInt := by
      rcases h5 with q | q
      · exact q
      · exact absurd q hne
    have hs := i_succ (x := gI σ 4) (by omega)
    rw [e_isSmall, bd_s]
    have up : ∀ σ', NW (sI (sI σ 5 (gI σ 4)) 4 (gI σ 4 + 1)) σ' → NX σ σ' := fun σ' q => ⟨q.1, q.2.1, by rw [q.2.2.1]; exact Int.le_refl _, tk_tr (tk_I (tk_I (tk_rf _) (by decide)) (by decide)) q.2.2.2.1, fk_tr (fk_I (fk_I (fk_rf _) (by decide)) (by decide)) q.2.2.2.2⟩
    have hT2 : TI (sI (sI σ 5 (gI σ 4)) 4 (gI σ 4 + 1)) := by
      refine ⟨t1, ?_, ?_, t3⟩
      · show (gI σ 4).toInt ≤ (gI σ 4 + 1).toInt
        omega
      · show (gI σ 4 + 1).toInt ≤ (gI σ 3).toInt
        omega
    have hl2 : (gI (sI (sI σ 5 (gI σ 4)) 4 (gI σ 4 + 1)) 5).toInt < (gI (sI (sI σ 5 (gI σ 4)) 4 (gI σ 4 + 1)) 4).toInt := by
      show (gI σ 4).toInt < (gI σ 4 + 1).toInt
      omega
    have e65 : (65 : Int32).toInt = 65 := by decide
    have e72 : (72 : Int32).toInt = 72 := by decide
    refine tot_if (fun _ => ?_) (fun h0 => ?_)
    · unfold m_next_182
      refine tot_if (fun h => (s_next_183 hT2 hl2 (fun g1 => absurd h g1)).mono (fun _ σ' q => up σ' q)) (fun h => tot_if (fun h1 => (s_next_183 hT2 hl2 (fun _ g2 => absurd h1 g2)).mono (fun _ σ' q => up σ' q)) (fun h1 => (s_next_183 hT2 hl2 (fun _ _ => ?_)).mono (fun _ σ' q => up σ' q)))
      rw [Int32.lt_iff_toInt_lt] at h h1
      have h8 : (-65 : Int32).toInt = -65 := by decide
      rw [Int32.sub_eq_add_neg, i_add (by omega) (by omega), h8]
      omega
    · have hsm := smF_1 h0
      refine (s_next_64 hN N (sI σ 5 (gI σ 4)) r5 hT1 hsm.1 hsm.2 ?_ (Or.inr ⟨r5, e5, hsm.1, hsm.2⟩)).mono (fun _ σ' q => ⟨q.1, q.2.1, by rw [q.2.2.1]; exact Int.le_refl _, tk_tr (tk_I (tk_rf _) (by decide)) q.2.2.2.1, fk_tr (fk_I (fk_rf _) (by decide)) q.2.2.2.2⟩)
      show (1201 - (gI σ 4).toInt).toNat < N
      omega
theorem s_next_0 {N : Nat} (hN : 8589934592 ≤ N) : ∀ (n : Nat) (σ : St), T4 σ → (1201 - (gI σ 4).toInt).toNat < n → Tot (m_next_0 N n σ) (fun _ σ' => NX σ σ') := by
  intro n
  induction n with
  | zero => intro σ hT hm; exact absurd hm (Nat.not_lt_zero _)
  | succ n ih =>
    intro σ hT hm
    obtain ⟨t1, t2, t3⟩ := id hT
    show Tot (m_next_0_b N (m_next_0 N n) σ) _
    unfold m_next_0_b m_next_18
    obtain ⟨r, e, h⟩ := s_here (N := N) (σ := σ) t1 t3
    have go : ¬ r = -1 → Tot (m_next_0 N n (sI σ 4 (gI σ 4 + 1))) (fun _ σ' => NX σ σ') := by
      intro hne
      have hlt : (gI σ 4).toInt < (gI σ 3).toInt := by
        rcases h with q | q
        · exact q
        · exact absurd q hne
      have hs := i_succ (x := gI σ 4) (by omega)
      have a4 : gI (sI σ 4 (gI σ 4 + 1)) 4 = gI σ 4 + 1 := gI_eq
      refine (ih (sI σ 4 (gI σ 4 + 1)) ⟨?_, ?_, t3⟩ ?_).mono (fun _ σ' q => ⟨q.1, q.2.1, ?_, tk_tr (tk_I (tk_rf _) (by decide)) q.2.2.2.1, fk_tr (fk_I (fk_rf _) (by decide)) q.2.2.2.2⟩)
      · rw [a4]; omega
      · rw [a4]; show (gI σ 4 + 1).toInt ≤ (gI σ 3).toInt; omega
      · rw [a4]; omega
      · have := q.2.2.1
        rw [a4] at this
        omega
    rw [e, bd_s]
    refine tot_if (fun h1 => go (by rw [h1]; decide)) (fun _ => ?_)
    rw [e, bd_s]
    exact tot_if (fun h1 => go (by rw [h1]; decide)) (fun _ => s_next_31 hN hT)
theorem s_next {N : Nat} (hN : 8589934592 ≤ N) {σ : St} (hT : T4 σ) : Tot (m_next N σ) (fun _ σ' => NX σ σ') := by
  unfold m_next
  exact s_next_0 hN N σ hT (by obtain ⟨t1, -⟩ := hT; omega)
