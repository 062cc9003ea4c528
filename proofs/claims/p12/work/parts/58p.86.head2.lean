/-! a routine's head: both sides -/
def FcH (g l : Nat) (σ σ' : St) : Prop := (∀ k, k ≠ 405 → gI σ' k = gI σ k) ∧ (∀ k, gP σ' k = gP σ k) ∧ (∀ j, j ≠ g + 4 → j ≠ g + 5 → gA σ' j = gA σ j) ∧ (∀ x, x ≠ l → gA σ' (g + 4) x = gA σ (g + 4) x) ∧ (∀ x, ¬ (4 * l ≤ x ∧ x < 4 * l + 4) → gA σ' (g + 5) x = gA σ (g + 5) x)
theorem fcH_tr {g l : Nat} {σ σ1 σ2 : St} (h : FcH g l σ σ1) (h2 : FcH g l σ1 σ2) : FcH g l σ σ2 := ⟨fun k a => (h2.1 k a).trans (h.1 k a), fun k => (h2.2.1 k).trans (h.2.1 k), fun j b c => (h2.2.2.1 j b c).trans (h.2.2.1 j b c), fun x a => (h2.2.2.2.1 x a).trans (h.2.2.2.1 x a), fun x a => (h2.2.2.2.2 x a).trans (h.2.2.2.2 x a)⟩
theorem fcH_n {g l : Nat} {σ : St} {v : Int32} : FcH g l σ (sI σ 405 v) := ⟨fun _ a => gI_ne (fun q => a q.symm), fun _ => rfl, fun _ _ _ => rfl, fun _ _ => rfl, fun _ _ => rfl⟩
def FmH (l : Nat) (σ σ' : St) : Prop := (∀ k, (k < 4 ∨ 9 < k) → gI σ' k = gI σ k) ∧ (∀ j, j ≠ 20 → j ≠ 21 → gA σ' j = gA σ j) ∧ (∀ x, x ≠ 8 + l → gA σ' 20 x = gA σ 20 x) ∧ (∀ x, ¬ (32 + 4 * l ≤ x ∧ x < 32 + 4 * l + 4) → gA σ' 21 x = gA σ 21 x)
theorem fmH_tr {l : Nat} {σ σ1 σ2 : St} (h : FmH l σ σ1) (h2 : FmH l σ1 σ2) : FmH l σ σ2 := ⟨fun k a => (h2.1 k a).trans (h.1 k a), fun j a b => (h2.2.1 j a b).trans (h.2.1 j a b), fun x a => (h2.2.2.1 x a).trans (h.2.2.1 x a), fun x a => (h2.2.2.2 x a).trans (h.2.2.2 x a)⟩
theorem fmH_tk {l : Nat} {σ σ' : St} (h : Tk σ σ') : FmH l σ σ' := ⟨fun k a => h.2.1 k a, fun j _ _ => h.1 j, fun x _ => by rw [h.1 20], fun x _ => by rw [h.1 21]⟩
/-- in the middle of a head: letter l, m parameters so far -/
def HL (t : Nat → Int32) (n g i s a c l m : Nat) (σc0 σm0 σc σm : St) : Prop := MC t n g i s σc ∧ MM t n i a c σm ∧ FcH g l σc0 σc ∧ FmH l σm0 σm ∧ gA σc (g + 4) l = nI m ∧ gA σm 20 (8 + l) = nI m ∧ (∀ k, k < m → gA σc (g + 5) (4 * l + k) = gA σm 21 (32 + 4 * l + k)) ∧ gI σc 407 = nI l ∧ m ≤ 4
theorem hl_tk {t : Nat → Int32} {n g i s a c l m : Nat} {σc0 σm0 σc σm σm' : St} (hT : Tp t n) (h : HL t n g i s a c l m σc0 σm0 σc σm) (hk : ¬ kK t n i = 0) (hM : SyM t n (i + 1) σm') (hTk : Tk σm σm') : HL t n g (i + 1) s a c l m σc0 σm0 (sI σc 405 (nI (i + 1))) σm' := by
  obtain ⟨h1, h2, h3, h4, h5, h6, h7, h8, h9⟩ := h
  refine ⟨mC_up hT h1 hk, mM_tk h2 hTk hM, fcH_tr h3 fcH_n, fmH_tr h4 (fmH_tk hTk), h5, by rw [hTk.1 20]; exact h6, fun k hk2 => ?_, (gI_ne (by decide)).trans h8, h9⟩
  rw [hTk.1 21]
  exact h7 k hk2
theorem r_pars {t : Nat → Int32} {n g s a c l N : Nat} {σc0 σm0 : St} {K : Int32 → St → Option (Int32 × St)} {Q : Int32 → St → Unit → St → Prop} (hN : 8589934592 ≤ N) (hT : Tp t n) (hl : l < 8) (i0 : Nat) (kE : ∀ i m σc σm, HL t n g i s a c l m σc0 σm0 σc σm → kQ t n i0 ≤ kQ t n i → R2 (bd (x4_readParameters_133 N σc) K) (m_head_224 N σm (nI (8 + l))) Q) (kF : ∀ σc σm, FP σc σm → R2 (K 0 σc) (some ((), σm)) Q) : ∀ (f f' i m : Nat) (σc σm : St), HL t n g i s a c l m σc0 σm0 σc σm → kQ t n i0 ≤ kQ t n i → R2 (bd (x4_readParameters_16 N f σc (nI m)) K) (m_head_81 N f' σm (nI (8 + l)) 1) Q := by
  intro f
  induction f with
  | zero => intro f' i m σc σm _ _ _ _ _ _ e1; cases e1
  | succ f ih =>
    intro f' i m σc σm hH hq
    cases f' with
    | zero => intro _ _ _ _ _ e2; cases e2
    | succ f' =>
      obtain ⟨h1, h2, h3, h4, h5, h6, h7, h8, h9⟩ := id hH
      have hi := h1.1.2.2.1
      have hg := h1.2.1.1
      have hgb := pg_b hg
      have hm8 := h2.1.2.2.2.2.2
      obtain ⟨v1, -, -, v4, -⟩ := sv_srt h2.1.2.2.2.2.1
      show R2 (bd (x4_readParameters_16_b N (x4_readParameters_16 N f) σc (nI m)) K) (m_head_81_b N (m_head_81 N f') σm (nI (8 + l)) 1) Q
      unfold x4_readParameters_16_b m_head_81_b m_head_122
      rw [if_neg (show ¬ (4 : Int32) < nI m from nI_nlt (a := 4) h9 (by decide)), if_neg (show ¬ (1 : Int32) = 0 by decide), if_pos hm8]
      by_cases k2 : kK t n i = 2
      · have hk0 : ¬ kK t n i = 0 := by rw [k2]; decide
        have hup := (kQ_up (t := t) (n := n) (i := i)).2.2 hk0
        have h12 := tk_1200 hT hk0
        have hC1 := mC_up hT h1 hk0
        rw [sc_takeY hT h1.1 k2, bd_s, if_neg (show ¬ (1 : Int32) = 0 by decide), h1.1.2.1, sc_letter hT hC1.1 (by omega), bd_s, if_pos (v1.mpr k2), nI_clamp (by omega), h6]
        refine r2_gdR (fun _ => ?_)
        by_cases c4 : m = 4
        · subst c4
          rw [if_pos (show nI 4 = (4 : Int32) from rfl), if_pos (show nI 4 = (4 : Int32) from rfl)]
          unfold x4_readParameters_50 x4_refuse m_wrong
          rw [sc_place hT hC1.1 (by omega), bd_s, bd_s, if_pos hm8, bd_s]
          have hf : ¬ gI (sI (sI σm 8 2) 9 (gI σm 5)) 8 = 0 := by rw [gI_ne (by decide), gI_eq]; decide
          rw [ff_taken hf, bd_s]
          have hfp : FP (sI (sI (sI σc 405 (nI (i + 1))) 408 2) 409 (nI (kQ t n i))) (sI (sI σm 8 2) 9 (gI σm 5)) := fp_of (k := 2) (by decide) rfl (by rw [h2.1.2.2.2.1])
          have h179 : R2 (K 0 (sI (sI (sI σc 405 (nI (i + 1))) 408 2) 409 (nI (kQ t n i)))) (m_head_179 N (m_head_81 N f') (sI (sI σm 8 2) 9 (gI σm 5)) (nI (8 + l)) 0) Q := by
            unfold m_head_179
            rw [if_neg hf]
            exact kF _ _ hfp
          show R2 (K 0 (sI (sI (sI σc 405 (nI (i + 1))) 408 2) 409 (nI (kQ t n i)))) _ Q
          cases N with
          | zero => intro _ _ _ _ _ e2; cases e2
          | succ M =>
            show R2 _ (m_head_132_b (M + 1) (m_head_81 (M + 1) f') (m_head_132 (M + 1) (m_head_81 (M + 1) f') M) (sI (sI σm 8 2) 9 (gI σm 5)) (nI (8 + l)) (gI σm 5) 0 0) Q
            unfold m_head_132_b
            rw [if_neg hf]
            exact r2_gdR (fun _ => r2_ifR (fun _ => h179) (fun _ => h179))
        · have m3 : m ≤ 3 := by omega
          rw [if_neg (show ¬ nI m = (4 : Int32) from fun z => c4 ((nI_eq (b := 4) (by omega) (by decide)).mp z)), if_neg (show ¬ nI m = (4 : Int32) from fun z => c4 ((nI_eq (b := 4) (by omega) (by decide)).mp z)), hC1.2.1.2.1, hg, gd_t, bd_as]
          refine r2_bdR (sm_takenY hN hT h2.1 (k := 2) (Or.inl ⟨rfl, rfl⟩) k2) (fun r σ2 z => ?_)
          obtain ⟨rfl, z1, z2⟩ := z
          have hH2 := hl_tk hT hH hk0 z1 z2
          obtain ⟨j1, j2, j3, j4, j5, j6, j7, j8, j9⟩ := id hH2
          rw [j8]
          unfold x3_hasParameter
          refine r2_bdL (c_hasP (v := kL t n i) hg hl h9 j5 N 0 (Nat.zero_le _) (fun j hj => absurd hj (Nat.not_lt_zero j))) (fun r3 σ3 y => ?_)
          obtain ⟨rfl, y⟩ := y
          have same : ∀ j, j < m → gA (sI σc 405 (nI (i + 1))) (g + 5) (4 * l + j) = gA σ2 21 (32 + 4 * l + j) := j7
          refine r2_132 (l := l) (m := m) (q := gI σm 5) (v := kL t n i) hl h9 z1.2.2.2.2.2 j6 (fun hno => ?_) (fun hyes => ?_) N 0 (Nat.zero_le _) (fun j hj => absurd hj (Nat.not_lt_zero j))
          · -- a new NAME
            rcases y with ⟨-, j, hj1, hj2⟩ | ⟨rfl, -⟩
            · exact absurd ((same j hj1).symm.trans hj2) (hno j hj1)
            rw [if_pos rfl, j1.2.1.2.1, hg, gd_t, bd_as, j8]
            refine r2_bdL (c_addP (v := kL t n i) hg hl (by omega) j5) (fun _ σ3 e => ?_)
            subst e
            unfold m_head_179
            have e4 : (4 : Int32) * nI (8 + l) + nI m = nI (32 + 4 * l + m) := by
              show nI 4 * nI (8 + l) + nI m = _
              rw [nI_mul, nI_add]
              exact congrArg nI (by omega)
            rw [if_pos z1.2.2.2.2.2, nI_clamp (by omega), j6, e4, nI_clamp (by omega), nI_1]
            refine r2_gdR (fun _ => r2_gdR (fun _ => r2_gdR (fun _ => r2_gdR (fun _ => ?_))))
            generalize eC : sA (sA (sI σc 405 (nI (i + 1))) (g + 5) (4 * l + m) (kL t n i)) (g + 4) l (nI (m + 1)) = σ4
            generalize eM : sA (sA σ2 21 (32 + 4 * l + m) (kL t n i)) 20 (8 + l) (nI (m + 1)) = σ5
            have c4' : gA σ4 (g + 4) = upd (gA (sI σc 405 (nI (i + 1))) (g + 4)) l (nI (m + 1)) := by rw [← eC, gA_sA, if_pos rfl, gA_sA, if_neg (by omega)]
            have c5' : gA σ4 (g + 5) = upd (gA (sI σc 405 (nI (i + 1))) (g + 5)) (4 * l + m) (kL t n i) := by rw [← eC, gA_sA, if_neg (by omega), gA_sA, if_pos rfl]
            have co' : ∀ j, j ≠ g + 4 → j ≠ g + 5 → gA σ4 j = gA (sI σc 405 (nI (i + 1))) j := fun j q1 q2 => by rw [← eC, gA_sA, if_neg q1, gA_sA, if_neg q2]
            have cI' : ∀ k, gI σ4 k = gI (sI σc 405 (nI (i + 1))) k := fun k => by rw [← eC]; rfl
            have cP' : ∀ k, gP σ4 k = gP (sI σc 405 (nI (i + 1))) k := fun k => by rw [← eC]; rfl
            have m20 : gA σ5 20 = upd (gA σ2 20) (8 + l) (nI (m + 1)) := by rw [← eM, gA_sA, if_pos rfl, gA_sA, if_neg (by decide)]
            have m21 : gA σ5 21 = upd (gA σ2 21) (32 + 4 * l + m) (kL t n i) := by rw [← eM, gA_sA, if_neg (by decide), gA_sA, if_pos rfl]
            have mo' : ∀ j, j ≠ 20 → j ≠ 21 → gA σ5 j = gA σ2 j := fun j q1 q2 => by rw [← eM, gA_sA, if_neg q1, gA_sA, if_neg q2]
            have mI' : ∀ k, gI σ5 k = gI σ2 k := fun k => by rw [← eM]; rfl
            have hH4 : HL t n g (i + 1) s a c l (m + 1) σc0 σm0 σ4 σ5 := by
              refine ⟨⟨syC_same j1.1 (cI' _) (cI' _) (co' _ (by omega) (by omega)) (cI' _) (cI' _), ⟨hg, (cP' _).trans j1.2.1.2.1, (cP' _).trans j1.2.1.2.2⟩, (cI' _).trans j1.2.2.1, j1.2.2.2⟩, ⟨syM_same z1 (mo' 1 (by decide) (by decide)) (fun k _ _ => mI' k), (mI' 17).trans j2.2.1, j2.2.2.1, (mI' 33).trans j2.2.2.2.1, j2.2.2.2.2⟩, fcH_tr j3 ⟨fun k _ => cI' k, cP', fun j q2 q3 => co' j q2 q3, fun x hx => by rw [c4', upd_ne hx], fun x hx => by rw [c5', upd_ne (by omega)]⟩, fmH_tr j4 ⟨fun k _ => mI' k, mo', fun x hx => by rw [m20, upd_ne hx], fun x hx => by rw [m21, upd_ne (by omega)]⟩, by rw [c4', upd_eq], by rw [m20, upd_eq], fun k hk => ?_, (cI' 407).trans j8, by omega⟩
              rw [c5', m21]
              by_cases ck : k = m
              · subst ck
                rw [upd_eq, upd_eq]
              · rw [upd_ne (by omega), upd_ne (by omega)]
                exact same k (by omega)
            rw [sc_seen hT hH4.1.1, bd_s]
            unfold m_takesSign
            have sg8 : sgP 8 44 := Or.inr (Or.inr (Or.inr (Or.inr (Or.inl ⟨rfl, rfl⟩))))
            rw [sm_sign hH4.2.1.1 sg8, bd_s]
            by_cases k8 : kK t n (i + 1) = 8
            · have hk80 : ¬ kK t n (i + 1) = 0 := by rw [k8]; decide
              have hup1 := (kQ_up (t := t) (n := n) (i := i + 1)).2.2 hk80
              rw [if_pos k8, if_neg (show ¬ (1 : Int32) = 0 by decide), if_neg (show ¬ (1 : Int32) = 0 by decide), hH4.1.1.2.1, nI_1]
              refine r2_bdR (P := fun r σ' => r = 1 ∧ SyM t n (i + 1 + 1) σ' ∧ Tk σ5 σ') (par_bd (sm_next hN hT hH4.2.1.1) (fun _ σ6 x => par_some ⟨rfl, x.1, x.2.1⟩)) (fun r σ6 x => ?_)
              obtain ⟨rfl, x1, x2⟩ := x
              exact ih f' (i + 1 + 1) (m + 1) _ _ (hl_tk hT hH4 hk80 x1 x2) (by omega)
            · rw [if_neg k8, if_pos rfl, if_pos rfl, bd_s]
              unfold x4_readParameters_114
              exact r2_81 (kE (i + 1) (m + 1) _ _ hH4 (by omega))
          · -- told already
            rcases y with ⟨rfl, -⟩ | ⟨-, hno⟩
            · rw [if_neg (show ¬ (1 : Int32) = 0 by decide)]
              unfold x4_readParameters_79 x4_refuse
              rw [sc_place hT j1.1 (by omega), bd_s, bd_s]
              refine kF _ _ ?_
              rw [h2.1.2.2.2.1]
              exact fp_of (k := 3) (by decide) rfl rfl
            · obtain ⟨j, hj1, hj2⟩ := hyes
              exact absurd ((same j hj1).trans hj2) (hno j hj1)
      · rw [sc_takeN hT h1.1 k2, bd_s, if_pos rfl, if_neg (fun z => k2 (v1.mp z)), sm_takenN h2.1 (k := 2) (Or.inl ⟨rfl, rfl⟩) k2, bd_s]
        have hf : ¬ gI (sI (sI σm 8 1) 9 (nI (kQ t n i))) 8 = 0 := by rw [gI_ne (by decide), gI_eq]; decide
        have hfp : FP (sI (sI σc 408 1) 409 (nI (kQ t n i))) (sI (sI σm 8 1) 9 (nI (kQ t n i))) := fp_of (k := 1) (by decide) rfl rfl
        rw [bd_s]
        have h179 : R2 (K 0 (sI (sI σc 408 1) 409 (nI (kQ t n i)))) (m_head_179 N (m_head_81 N f') (sI (sI σm 8 1) 9 (nI (kQ t n i))) (nI (8 + l)) 0) Q := by
          unfold m_head_179
          rw [if_neg hf]
          exact kF _ _ hfp
        cases N with
        | zero => intro _ _ _ _ _ e2; cases e2
        | succ M =>
          show R2 _ (m_head_132_b (M + 1) (m_head_81 (M + 1) f') (m_head_132 (M + 1) (m_head_81 (M + 1) f') M) (sI (sI σm 8 1) 9 (nI (kQ t n i))) (nI (8 + l)) (gI σm 5) 0 0) Q
          unfold m_head_132_b
          rw [if_neg hf]
          exact r2_gdR (fun _ => r2_ifR (fun _ => h179) (fun _ => h179))
