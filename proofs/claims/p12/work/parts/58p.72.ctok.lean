/-! the class: its tokens -/
def tP (t : Nat → Int32) (n : Nat) : Nat → Nat
  | 0 => 0
  | i + 1 => eE t n (tQ t n (tP t n i))
def kQ (t : Nat → Int32) (n i : Nat) : Nat := tQ t n (tP t n i)
def kK (t : Nat → Int32) (n i : Nat) : Int32 := eK t n (kQ t n i)
def kL (t : Nat → Int32) (n i : Nat) : Int32 := eL t n (kQ t n i)
theorem tP_le {t : Nat → Int32} {n : Nat} : ∀ i, tP t n i ≤ n := by
  intro i
  induction i with
  | zero => exact Nat.zero_le _
  | succ i ih => exact (eE_le (tQ_le ih).2).2.1
theorem kQ_le {t : Nat → Int32} {n i : Nat} : kQ t n i ≤ n := (tQ_le (tP_le i)).2
theorem kQ_end {t : Nat → Int32} {n m : Nat} (h : kQ t n m = n) : ∀ d, kQ t n (m + d) = n := by
  intro d
  induction d with
  | zero => exact h
  | succ d ih =>
    show tQ t n (eE t n (kQ t n (m + d))) = n
    rw [ih]
    have e : eE t n n = n := by unfold eE; rw [if_neg (Nat.lt_irrefl n)]
    rw [e]
    exact tQ_s (fun z => Nat.lt_irrefl n z.1)
theorem wdK_b {t : Nat → Int32} {q L : Nat} : ∃ k, k ≤ 20 ∧ wdK t q L = nI k := by
  unfold wdK
  split
  · exact ⟨2, by decide, rfl⟩
  split
  · split
    · exact ⟨12, by decide, rfl⟩
    split
    · exact ⟨15, by decide, rfl⟩
    · exact ⟨1, by decide, rfl⟩
  split
  · split
    · exact ⟨19, by decide, rfl⟩
    split
    · exact ⟨18, by decide, rfl⟩
    split
    · exact ⟨16, by decide, rfl⟩
    · exact ⟨1, by decide, rfl⟩
  split
  · split
    · exact ⟨13, by decide, rfl⟩
    · exact ⟨1, by decide, rfl⟩
  split
  · split
    · exact ⟨14, by decide, rfl⟩
    · exact ⟨1, by decide, rfl⟩
  split
  · split
    · exact ⟨20, by decide, rfl⟩
    · exact ⟨1, by decide, rfl⟩
  split
  · split
    · exact ⟨17, by decide, rfl⟩
    · exact ⟨1, by decide, rfl⟩
  · exact ⟨1, by decide, rfl⟩
theorem skF_b {c : Int32} : ∃ k, k ≤ 20 ∧ skF c = nI k := by
  unfold skF
  split
  · exact ⟨4, by decide, rfl⟩
  split
  · exact ⟨5, by decide, rfl⟩
  split
  · exact ⟨8, by decide, rfl⟩
  split
  · exact ⟨11, by decide, rfl⟩
  split
  · exact ⟨9, by decide, rfl⟩
  split
  · exact ⟨10, by decide, rfl⟩
  split
  · exact ⟨6, by decide, rfl⟩
  split
  · exact ⟨7, by decide, rfl⟩
  · exact ⟨1, by decide, rfl⟩
theorem eK_b {t : Nat → Int32} {n q : Nat} : ∃ k, k ≤ 20 ∧ eK t n q = nI k := by
  unfold eK
  split
  · split
    · split
      · exact skF_b
      split
      · exact skF_b
      · exact ⟨3, by decide, rfl⟩
    · exact wdK_b
  · exact ⟨0, by decide, rfl⟩
theorem byte_of {c : Int32} (h : 0 ≤ c.toInt ∧ c.toInt ≤ 255) : ∃ k, k < 256 ∧ c = nI k := by
  obtain ⟨k, hk, e⟩ := nI_upto (n := 255) h.1 h.2 (by decide)
  exact ⟨k, by omega, e⟩
theorem sub_k : ∀ k, k < 256 → (¬ smF (nI k) = 0 → 97 ≤ k ∧ k ≤ 122 ∧ nI k - 97 = nI (k - 97)) ∧ (¬ nI k < 65 → ¬ 72 < nI k → 65 ≤ k ∧ k ≤ 72 ∧ nI k - 65 = nI (k - 65)) := by decide +kernel
theorem eL_b {t : Nat → Int32} {n q : Nat} (hB : TB t) (h2 : n ≤ 1200) : ∃ l, l ≤ 25 ∧ eL t n q = nI l ∧ (eK t n q = 3 → l ≤ 7) := by
  have wd3 : ∀ L, ¬ wdK t q L = 3 := by
    intro L
    unfold wdK
    repeat' split
    all_goals decide
  unfold eL eK
  by_cases c : q < n
  · rw [if_pos c, if_pos c]
    obtain ⟨k, hk, e⟩ := byte_of (hB q (by omega))
    rw [e]
    obtain ⟨s1, s2⟩ := sub_k k hk
    by_cases c1 : smF (nI k) = 0
    · rw [if_pos c1, if_pos c1]
      by_cases c2 : nI k < 65
      · rw [if_pos c2, if_pos c2]; exact ⟨0, by decide, rfl, fun _ => by decide⟩
      rw [if_neg c2, if_neg c2]
      by_cases c3 : 72 < nI k
      · rw [if_pos c3, if_pos c3]; exact ⟨0, by decide, rfl, fun _ => by decide⟩
      rw [if_neg c3, if_neg c3]
      obtain ⟨a, b, d⟩ := s2 c2 c3
      exact ⟨k - 65, by omega, d, fun _ => by omega⟩
    · rw [if_neg c1, if_neg c1]
      obtain ⟨a, b, d⟩ := s1 c1
      exact ⟨k - 97, by omega, d, fun z => absurd z (wd3 _)⟩
  · rw [if_neg c, if_neg c]
    exact ⟨0, by decide, rfl, fun _ => by decide⟩
/-- the tokens of the class are those of the tape -/
def TokC (σ : St) (t : Nat → Int32) (n : Nat) : Prop := ∃ m, gI σ 201 = nI m ∧ m ≤ 1200 ∧ gI σ 202 = nI n ∧ kQ t n m = n ∧ ∀ i, i < m → kQ t n i < n ∧ gA σ 3 i = pkd (kQ t n i) (kK t n i) (kL t n i)
theorem ck_at {σ : St} {t : Nat → Int32} {n : Nat} (hB : TB t) (h2 : n ≤ 1200) (h : TokC σ t n) {i : Nat} (hi : i < 100000) : (∀ N, x8_kindAt N σ (nI i) = some (kK t n i, σ)) ∧ (∀ N, x8_placeAt N σ (nI i) = some (nI (kQ t n i), σ)) ∧ (∀ N, x8_letterAt N σ (nI i) = some (kL t n i, σ)) := by
  obtain ⟨m, h201, hm, h202, hE, ht⟩ := h
  unfold x8_kindAt x8_placeAt x8_letterAt
  rw [h201, h202]
  by_cases c : i < m
  · obtain ⟨hq, hp⟩ := ht i c
    obtain ⟨k, hk, ek⟩ := eK_b (t := t) (n := n) (q := kQ t n i)
    obtain ⟨l, hl, el, -⟩ := eL_b (q := kQ t n i) hB h2
    have n1 : ¬ nI i < 0 := nI_pos (by omega)
    have n2 : ¬ nI m ≤ nI i := nI_ge c (by omega)
    have n3 : ¬ (1200 : Int32) ≤ nI i := nI_ge (b := 1200) (by omega) (by decide)
    have hi2 : ib (nI i) 1200 = true := ibk (by omega) (by decide)
    have ek2 : kK t n i = nI k := ek
    have el2 : kL t n i = nI l := el
    rw [if_neg n1, if_neg n2, if_neg n3, hi2, nI_clamp (by omega), hp, ek2, el2]
    refine ⟨fun N => ?_, fun N => ?_, fun N => ?_⟩
    · show some (_, σ) = _
      rw [pk_k (by omega) (by omega) (by omega)]
    · rw [if_neg n1, if_neg n2, if_neg n3]
      show some (_, σ) = _
      rw [pk_p (by omega) (by omega) (by omega)]
    · rw [if_neg n1, if_neg n2, if_neg n3]
      show some (_, σ) = _
      rw [pk_l (by omega) (by omega) (by omega)]
  · have n1 : ¬ nI i < 0 := nI_pos (by omega)
    have n2 : nI m ≤ nI i := nI_le (by omega) (by omega)
    have hq : kQ t n i = n := by
      have := kQ_end hE (i - m)
      rw [show m + (i - m) = i by omega] at this
      exact this
    have ek : kK t n i = 0 := by unfold kK eK; rw [hq, if_neg (Nat.lt_irrefl n)]
    have el : kL t n i = 0 := by unfold kL eL; rw [hq, if_neg (Nat.lt_irrefl n)]
    rw [ek, el, hq]
    refine ⟨fun N => ?_, fun N => ?_, fun N => ?_⟩
    · rw [if_neg n1, if_pos n2]
    · rw [if_neg n1, if_pos n2]
    · rw [if_neg n1, if_pos n2]
/-- the class's tape against the reference's -/
def CT (ct t : Nat → Int32) : Prop := ∀ j, j < 1200 → ct j = vp_nar .byte (t j)
theorem ct_k : ∀ k, k < 256 → smF (vp_nar .byte (nI k)) = smF (nI k) ∧ ((vp_nar .byte (nI k) < 65 ∨ 73 ≤ vp_nar .byte (nI k)) ↔ (nI k < 65 ∨ 72 < nI k)) ∧ (blkF (vp_nar .byte (nI k)) ↔ blkF (nI k)) ∧ skF (vp_nar .byte (nI k)) = skF (nI k) ∧ ((¬ smF (nI k) = 0 ∨ (¬ nI k < 65 ∧ ¬ 72 < nI k)) → vp_nar .byte (nI k) = nI k) := by decide +kernel
theorem ct_f {ct t : Nat → Int32} (hB : TB t) (h : CT ct t) {j : Nat} (hj : j < 1200) : smF (ct j) = smF (t j) ∧ ((ct j < 65 ∨ 73 ≤ ct j) ↔ (t j < 65 ∨ 72 < t j)) ∧ (blkF (ct j) ↔ blkF (t j)) ∧ skF (ct j) = skF (t j) ∧ ((¬ smF (t j) = 0 ∨ (¬ t j < 65 ∧ ¬ 72 < t j)) → ct j = t j) := by
  obtain ⟨k, hk, e⟩ := byte_of (hB j hj)
  rw [h j hj, e]
  exact ct_k k hk
theorem ce_small {N : Nat} {σ : St} {a1 : Int32} : x8_isSmall N σ a1 = some (smF a1, σ) := by
  unfold x8_isSmall smF
  split
  · rfl
  · split <;> rfl
theorem ce_sign {N : Nat} {σ : St} {c : Int32} : x8_kindOfSign N σ c = some (skF c, σ) := by
  unfold x8_kindOfSign skF
  repeat' split
  all_goals rfl
theorem c_eow {N : Nat} {σ : St} {t : Nat → Int32} {n : Nat} (hB : TB t) (hC : CT (gA σ 1) t) (h2 : n ≤ 1200) (h202 : gI σ 202 = nI n) : ∀ (f p : Nat), p ≤ n → Par (x8_endOfWord_4 N f σ (nI p)) (fun r σ' => σ' = σ ∧ r = nI (tW t n p)) := by
  intro f
  induction f with
  | zero => intro p _ r σ' h; cases h
  | succ f ih =>
    intro p hp
    show Par (x8_endOfWord_4_b N (x8_endOfWord_4 N f) σ (nI p)) _
    unfold x8_endOfWord_4_b
    rw [h202]
    by_cases c : p < n
    · rw [if_neg (nI_ge c (by omega)), if_neg (show ¬ (1200 : Int32) ≤ nI p from nI_ge (b := 1200) (by omega) (by decide)), nI_clamp (by omega), ce_small, bd_s, (ct_f hB hC (show p < 1200 by omega)).1, nI_1]
      refine par_gd (fun _ => par_if (fun z => par_some ⟨rfl, ?_⟩) (fun z => ?_))
      · rw [tW_s (fun y => y.2 z)]
      · rw [tW_b c z]
        exact ih (p + 1) c
    · rw [if_pos (nI_le (by omega) (by omega))]
      exact par_some ⟨rfl, by rw [tW_s (fun y => c y.1)]⟩
theorem c_sp19 {N : Nat} {σ : St} {q w : Nat} (hl : q + lenS.getD w 0 ≤ 1200) : ∀ (f i : Nat), i ≤ lenS.getD w 0 → (∀ j, j < i → gA σ 1 (q + j) = chS w j) → Par (x8_spells_19 N f σ (nI q) w (nI i)) (fun r σ' => σ' = σ ∧ r = if mtb (gA σ 1) q w then 1 else 0) := by
  intro f
  induction f with
  | zero => intro i _ _ r σ' h; cases h
  | succ f ih =>
    intro i hi hj
    show Par (x8_spells_19_b N (x8_spells_19 N f) σ (nI q) w (nI i)) _
    unfold x8_spells_19_b
    refine par_gd (fun _ => ?_)
    by_cases c : i < lenS.getD w 0
    · rw [if_neg (show ¬ Int32.ofNat (lenS.getD w 0) ≤ nI i from nI_ge c (by omega)), nI_add, nI_clamp (by omega), nI_clamp (by omega), nI_1]
      refine par_gd (fun _ => par_gd (fun _ => par_if (fun z => ?_) (fun z => ?_)))
      · refine ih (i + 1) c (fun j h => ?_)
        rcases (show j = i ∨ j < i by omega) with y | y
        · rw [y]; exact z
        · exact hj j y
      · refine par_some ⟨rfl, ?_⟩
        rw [if_neg (fun y => z (mtb_iff.mp y i c))]
    · rw [if_pos (show Int32.ofNat (lenS.getD w 0) ≤ nI i from nI_le (by omega) (by omega))]
      refine par_some ⟨rfl, ?_⟩
      rw [if_pos (mtb_iff.mpr (fun j h => hj j (by omega)))]
theorem c_sp {N : Nat} {σ : St} {q w : Nat} (hl : q + lenS.getD w 0 ≤ 1200) : Par (x8_spells N σ (nI q) w) (fun r σ' => σ' = σ ∧ r = if mtb (gA σ 1) q w then 1 else 0) := by
  unfold x8_spells
  rw [if_neg (nI_pos (by omega))]
  refine par_gd (fun _ => ?_)
  rw [if_pos (show nI q + Int32.ofNat (lenS.getD w 0) ≤ 1200 from by show nI q + nI (lenS.getD w 0) ≤ nI 1200; rw [nI_add]; exact nI_le hl (by decide))]
  exact c_sp19 hl N 0 (Nat.zero_le _) (fun j h => absurd h (Nat.not_lt_zero j))
theorem mtb_same {f g : Nat → Int32} {q w : Nat} (h : ∀ j, j < lenS.getD w 0 → f (q + j) = g (q + j)) : mtb f q w = mtb g q w := by
  cases e : mtb g q w with
  | true => exact mtb_iff.mpr (fun j hj => (h j hj).trans (mtb_iff.mp e j hj))
  | false =>
    cases e2 : mtb f q w with
    | false => rfl
    | true =>
      have := mtb_iff.mpr (fun j hj => (h j hj).symm.trans (mtb_iff.mp e2 j hj))
      rw [e] at this
      cases this
theorem c_word {N : Nat} {σ : St} {t : Nat → Int32} {q L : Nat} (hl : q + L ≤ 1200) (hj : ∀ j, j < L → gA σ 1 (q + j) = t (q + j)) : Par (x8_kindOfWord N σ (nI q) (nI L)) (fun r σ' => σ' = σ ∧ r = wdK t q L) := by
  have sp : ∀ w, lenS.getD w 0 = L → Par (x8_spells N σ (nI q) w) (fun r σ' => σ' = σ ∧ r = if mtb t q w then 1 else 0) := by
    intro w hw
    have := c_sp (N := N) (σ := σ) (q := q) (w := w) (by omega)
    rw [mtb_same (f := gA σ 1) (g := t) (q := q) (w := w) (fun j h => hj j (by omega))] at this
    exact this
  unfold x8_kindOfWord wdK
  by_cases c1 : L = 1
  · subst c1
    rw [if_pos (show nI 1 = (1 : Int32) from rfl), if_pos rfl]
    exact par_some ⟨rfl, rfl⟩
  rw [if_neg (show ¬ nI L = (1 : Int32) from fun z => c1 ((nI_eq (b := 1) (by omega) (by decide)).mp z)), if_neg c1]
  by_cases c2 : L = 2
  · subst c2
    rw [if_pos (show nI 2 = (2 : Int32) from rfl), if_pos rfl]
    refine par_bd (sp 0 rfl) (fun r σ1 hr => ?_)
    obtain ⟨rfl, rfl⟩ := hr
    cases mtb t q 0 with
    | true => exact par_some ⟨rfl, rfl⟩
    | false =>
      refine par_bd (sp 1 rfl) (fun r σ1 hr => ?_)
      obtain ⟨rfl, rfl⟩ := hr
      cases mtb t q 1 with
      | true => exact par_some ⟨rfl, rfl⟩
      | false => exact par_some ⟨rfl, rfl⟩
  rw [if_neg (show ¬ nI L = (2 : Int32) from fun z => c2 ((nI_eq (b := 2) (by omega) (by decide)).mp z)), if_neg c2]
  by_cases c3 : L = 3
  · subst c3
    rw [if_pos (show nI 3 = (3 : Int32) from rfl), if_pos rfl]
    refine par_bd (sp 2 rfl) (fun r σ1 hr => ?_)
    obtain ⟨rfl, rfl⟩ := hr
    cases mtb t q 2 with
    | true => exact par_some ⟨rfl, rfl⟩
    | false =>
      refine par_bd (sp 3 rfl) (fun r σ1 hr => ?_)
      obtain ⟨rfl, rfl⟩ := hr
      cases mtb t q 3 with
      | true => exact par_some ⟨rfl, rfl⟩
      | false =>
        refine par_bd (sp 4 rfl) (fun r σ1 hr => ?_)
        obtain ⟨rfl, rfl⟩ := hr
        cases mtb t q 4 with
        | true => exact par_some ⟨rfl, rfl⟩
        | false => exact par_some ⟨rfl, rfl⟩
  rw [if_neg (show ¬ nI L = (3 : Int32) from fun z => c3 ((nI_eq (b := 3) (by omega) (by decide)).mp z)), if_neg c3]
  by_cases c4 : L = 4
  · subst c4
    rw [if_pos (show nI 4 = (4 : Int32) from rfl), if_pos rfl]
    refine par_bd (sp 5 rfl) (fun r σ1 hr => ?_)
    obtain ⟨rfl, rfl⟩ := hr
    cases mtb t q 5 with
    | true => exact par_some ⟨rfl, rfl⟩
    | false => exact par_some ⟨rfl, rfl⟩
  rw [if_neg (show ¬ nI L = (4 : Int32) from fun z => c4 ((nI_eq (b := 4) (by omega) (by decide)).mp z)), if_neg c4]
  by_cases c5 : L = 5
  · subst c5
    rw [if_pos (show nI 5 = (5 : Int32) from rfl), if_pos rfl]
    refine par_bd (sp 6 rfl) (fun r σ1 hr => ?_)
    obtain ⟨rfl, rfl⟩ := hr
    cases mtb t q 6 with
    | true => exact par_some ⟨rfl, rfl⟩
    | false => exact par_some ⟨rfl, rfl⟩
  rw [if_neg (show ¬ nI L = (5 : Int32) from fun z => c5 ((nI_eq (b := 5) (by omega) (by decide)).mp z)), if_neg c5]
  by_cases c6 : L = 6
  · subst c6
    rw [if_pos (show nI 6 = (6 : Int32) from rfl), if_pos rfl]
    refine par_bd (sp 7 rfl) (fun r σ1 hr => ?_)
    obtain ⟨rfl, rfl⟩ := hr
    cases mtb t q 7 with
    | true => exact par_some ⟨rfl, rfl⟩
    | false => exact par_some ⟨rfl, rfl⟩
  rw [if_neg (show ¬ nI L = (6 : Int32) from fun z => c6 ((nI_eq (b := 6) (by omega) (by decide)).mp z)), if_neg c6]
  by_cases c7 : L = 7
  · subst c7
    rw [if_pos (show nI 7 = (7 : Int32) from rfl), if_pos rfl]
    refine par_bd (sp 8 rfl) (fun r σ1 hr => ?_)
    obtain ⟨rfl, rfl⟩ := hr
    cases mtb t q 8 with
    | true => exact par_some ⟨rfl, rfl⟩
    | false => exact par_some ⟨rfl, rfl⟩
  rw [if_neg (show ¬ nI L = (7 : Int32) from fun z => c7 ((nI_eq (b := 7) (by omega) (by decide)).mp z)), if_neg c7]
  exact par_some ⟨rfl, rfl⟩
theorem c_put {N : Nat} {σ : St} {j i : Nat} {v : Int32} (hi : i < lenC j) : Par (x5_put N σ j (nI i) v) (fun _ σ' => σ' = sA σ j i v) := by
  have hl := lenC_lt j
  unfold x5_put
  rw [if_neg (nI_pos (by omega)), if_neg (show ¬ Int32.ofNat (lenC j) ≤ nI i from nI_ge hi (by omega)), nI_clamp (by omega)]
  exact par_gd (fun _ => par_gd (fun _ => par_some rfl))
theorem c_at {N : Nat} {σ : St} {j i : Nat} (hi : i < lenC j) : Par (x5_at N σ j (nI i)) (fun r σ' => σ' = σ ∧ r = gA σ j i) := by
  have hl := lenC_lt j
  unfold x5_at
  rw [if_neg (nI_pos (by omega)), if_neg (show ¬ Int32.ofNat (lenC j) ≤ nI i from nI_ge hi (by omega)), nI_clamp (by omega)]
  exact par_gd (fun _ => par_gd (fun _ => par_some ⟨rfl, rfl⟩))
theorem c_addT {N : Nat} {σ : St} {s p : Nat} {K L : Int32} (h : gI σ 201 = nI s) (hs : s < 1200) : Par (x8_add N σ K (nI p) L) (fun _ σ' => σ' = sI (sA σ 3 s (pkd p K L)) 201 (nI (s + 1))) := by
  unfold x8_add
  rw [h]
  refine par_bd (c_put (j := 3) hs) (fun _ σ1 e => ?_)
  subst e
  refine par_some ?_
  rw [show gI (sA σ 3 s (((nI p <<< ((10 : Int32) &&& 31)) ||| (K <<< ((5 : Int32) &&& 31))) ||| L)) 201 = nI s from h, nI_1]
  rfl
/-- scan() leaves all but the tokens -/
def SFr (σ σ' : St) : Prop := (∀ k, k ≠ 201 → k ≠ 202 → gI σ' k = gI σ k) ∧ (∀ j, j ≠ 3 → gA σ' j = gA σ j) ∧ (∀ k, gP σ' k = gP σ k)
theorem c_scan_17 {N : Nat} {t : Nat → Int32} {n : Nat} (hB : TB t) (h2 : n ≤ 1200) : ∀ (f : Nat) (σ : St) (p s : Nat), CT (gA σ 1) t → gI σ 202 = nI n → gI σ 201 = nI s → s ≤ p → p ≤ n → kQ t n s = tQ t n p → (∀ i, i < s → kQ t n i < n ∧ gA σ 3 i = pkd (kQ t n i) (kK t n i) (kL t n i)) → Par (x8_scan_17 N f σ (nI p)) (fun _ σ' => TokC σ' t n ∧ SFr σ σ') := by
  intro f
  induction f with
  | zero => intro σ p s _ _ _ _ _ _ _ r σ' h; cases h
  | succ f ih =>
    intro σ p s hC h202 h201 hsp hpn hq ht
    show Par (x8_scan_17_b N (x8_scan_17 N f) σ (nI p)) _
    unfold x8_scan_17_b
    rw [h202]
    by_cases c : p < n
    · rw [if_neg (nI_ge c (by omega)), nI_clamp (by omega), ce_small, bd_s]
      refine par_gd (fun _ => ?_)
      obtain ⟨f1, f2, f3, f4, f5⟩ := ct_f hB hC (show p < 1200 by omega)
      rw [f1]
      -- a token that begins here
      have step : ∀ (K L : Int32) (p2 : Nat), ¬ blkF (t p) → K = eK t n p → L = eL t n p → p2 = eE t n p → Par (bd (x8_add N σ K (nI p) L) (fun _ σ8 => x8_scan_17 N f σ8 (nI p2))) (fun _ σ' => TokC σ' t n ∧ SFr σ σ') := by
        intro K L p2 hb hK hL hp2
        have hqp : kQ t n s = p := by rw [hq, tQ_s (fun z => hb z.2)]
        have hE := eE_le (t := t) (n := n) (q := p) hpn
        have hlt := hE.2.2 c
        refine par_bd (c_addT h201 (by omega)) (fun _ σ1 e => ?_)
        subst e
        refine (ih (sI (sA σ 3 s (pkd p K L)) 201 (nI (s + 1))) p2 (s + 1) hC ((gI_ne (by decide)).trans h202) gI_eq (by omega) (by omega) ?_ ?_).mono (fun _ σ' z => ⟨z.1, ?_⟩)
        · show tQ t n (eE t n (kQ t n s)) = _
          rw [hqp, hp2]
        · intro i hi
          have e3 : gA (sI (sA σ 3 s (pkd p K L)) 201 (nI (s + 1))) 3 = upd (gA σ 3) s (pkd p K L) := rfl
          rw [e3]
          rcases (show i = s ∨ i < s by omega) with y | y
          · subst y
            rw [hqp]
            refine ⟨c, ?_⟩
            rw [show upd (gA σ 3) i (pkd p K L) i = pkd p K L from by unfold upd; exact if_pos rfl]
            unfold kK kL
            rw [hqp, hK, hL]
          · rw [show upd (gA σ 3) s (pkd p K L) i = gA σ 3 i from by unfold upd; exact if_neg (by omega)]
            exact ht i y
        · obtain ⟨z1, z2, z3⟩ := z.2
          exact ⟨fun k k1 k2 => (z1 k k1 k2).trans (gI_ne (fun q => k1 q.symm)), fun j hj => (z2 j hj).trans (by show gA (sA σ 3 s (pkd p K L)) j = gA σ j; rw [gA_sA, if_neg hj]), z3⟩
      have blank : blkF (t p) → Par (x8_scan_17 N f σ (nI p + 1)) (fun _ σ' => TokC σ' t n ∧ SFr σ σ') := by
        intro hb
        rw [nI_1]
        exact ih σ (p + 1) s hC h202 h201 (by omega) c (by rw [hq, tQ_b c hb]) ht
      refine par_if (fun hs => ?_) (fun hs => ?_)
      · have eE1 : eE t n p = p + 1 := by unfold eE; rw [if_pos c, if_pos hs]
        have g105 : (t p < 65 ∨ 72 < t p) → Par (x8_scan_105 N (x8_scan_17 N f) σ (nI p) (gA σ 1 p)) (fun _ σ' => TokC σ' t n ∧ SFr σ σ') := by
          intro hr
          unfold x8_scan_105 x8_scan_130
          refine par_if (fun z => blank (f3.mp (Or.inr z))) (fun z => par_if (fun z2 => blank (f3.mp (Or.inl z2))) (fun z2 => ?_))
          rw [ce_sign, bd_s, f4, nI_1]
          refine step _ _ _ (fun y => (f3.mpr y).elim z2 z) ?_ ?_ eE1.symm
          · unfold eK
            rw [if_pos c, if_pos hs]
            by_cases y : t p < 65
            · rw [if_pos y]
            · rw [if_neg y, if_pos (hr.resolve_left y)]
          · unfold eL
            rw [if_pos c, if_pos hs]
            by_cases y : t p < 65
            · rw [if_pos y]
            · rw [if_neg y, if_pos (hr.resolve_left y)]
        refine par_if (fun z => g105 (f2.mp (Or.inl z))) (fun z => par_if (fun z2 => g105 (f2.mp (Or.inr z2))) (fun z2 => ?_))
        have hn : ¬ (t p < 65 ∨ 72 < t p) := fun y => (f2.mpr y).elim z z2
        have n1 : ¬ t p < 65 := fun y => hn (Or.inl y)
        have n2 : ¬ 72 < t p := fun y => hn (Or.inr y)
        have ec := f5 (Or.inr ⟨n1, n2⟩)
        unfold x8_scan_130
        rw [nI_1]
        refine step _ _ _ (fun y => ?_) ?_ ?_ eE1.symm
        · rcases y with y | y <;> (rw [y] at n1; exact n1 (by decide))
        · unfold eK
          rw [if_pos c, if_pos hs, if_neg n1, if_neg n2]
        · unfold eL
          rw [if_pos c, if_pos hs, if_neg n1, if_neg n2, ec]
      · have eE1 : eE t n p = tW t n (p + 1) := by unfold eE; rw [if_pos c, if_neg hs]
        have hE := eE_le (t := t) (n := n) (q := p) hpn
        have hlt := hE.2.2 c
        have ec := f5 (Or.inl hs)
        unfold x8_endOfWord
        rw [nI_1]
        refine par_bd (c_eow hB hC h2 h202 N (p + 1) c) (fun r σ1 hr => ?_)
        obtain ⟨rfl, rfl⟩ := hr
        rw [← eE1]
        have hsub : nI (eE t n p) - nI p = nI (eE t n p - p) := by
          rw [show eE t n p = (eE t n p - p) + p by omega, ← nI_add, Nat.add_sub_cancel, nI_add]
          rw [← nI_add, Int32.add_sub_cancel]
        rw [hsub]
        refine par_bd (c_word (t := t) (q := p) (L := eE t n p - p) (by omega) (fun j hj => ?_)) (fun r σ2 hr => ?_)
        · refine (ct_f hB hC (show p + j < 1200 by omega)).2.2.2.2 (Or.inl ?_)
          rcases (show j = 0 ∨ 1 ≤ j by omega) with y | y
          · rw [y]; exact hs
          · exact (tW_le (t := t) (show p + 1 ≤ n from c)).2.2 (p + j) (by omega) (by rw [← eE1]; omega)
        · obtain ⟨rfl, rfl⟩ := hr
          unfold x8_scan_130
          have e9 : (if nI p < nI (eE t n p) - 1 then nI (eE t n p) - 1 else nI p) + 1 = nI (eE t n p) := by
            have e8 : nI (eE t n p) - 1 = nI (eE t n p - 1) := by
              rw [show eE t n p = (eE t n p - 1) + 1 by omega, nI_pred, Nat.add_sub_cancel]
            rw [e8]
            by_cases y : p < eE t n p - 1
            · rw [if_pos (nI_lt y (by omega)), nI_1, show eE t n p - 1 + 1 = eE t n p by omega]
            · rw [if_neg (nI_nlt (by omega) (by omega)), nI_1, show p + 1 = eE t n p by omega]
          rw [e9]
          refine step _ _ _ (fun y => ?_) ?_ ?_ rfl
          · rcases y with y | y <;> (rw [y] at hs; exact hs (by decide))
          · unfold eK
            rw [if_pos c, if_neg hs]
          · unfold eL
            rw [if_pos c, if_neg hs, ec]
    · rw [if_pos (nI_le (by omega) (by omega))]
      have hp : p = n := by omega
      refine par_some ⟨⟨s, h201, by omega, h202, ?_, ht⟩, fun _ _ _ => rfl, fun _ _ => rfl, fun _ => rfl⟩
      rw [hq, tQ_s (fun z => c z.1), hp]
theorem c_scan {N : Nat} {σ : St} {t : Nat → Int32} {n : Nat} (hB : TB t) (hC : CT (gA σ 1) t) (h2 : n ≤ 1200) : Par (x8_scan N σ (nI n)) (fun _ σ' => TokC σ' t n ∧ SFr σ σ') := by
  unfold x8_scan
  rw [if_neg (show ¬ (1200 : Int32) < nI n from nI_nlt (a := 1200) (by omega) (by decide))]
  refine (c_scan_17 hB h2 N (sI (sI σ 201 0) 202 (nI n)) 0 0 hC gI_eq ((gI_ne (by decide)).trans gI_eq) (Nat.le_refl _) (Nat.zero_le _) rfl (fun i hi => absurd hi (Nat.not_lt_zero i))).mono (fun _ σ' z => ⟨z.1, ?_⟩)
  obtain ⟨z1, z2, z3⟩ := z.2
  exact ⟨fun k k1 k2 => (z1 k k1 k2).trans ((gI_ne (fun q => k2 q.symm)).trans (gI_ne (fun q => k1 q.symm))), z2, z3⟩
