/-! both sides stand at the same token -/
def sgP (k c : Int32) : Prop := (k = 4 ∧ c = 40) ∨ (k = 5 ∧ c = 41) ∨ (k = 6 ∧ c = 123) ∨ (k = 7 ∧ c = 125) ∨ (k = 8 ∧ c = 44) ∨ (k = 9 ∧ c = 59) ∨ (k = 10 ∧ c = 61) ∨ (k = 11 ∧ c = 46)
def wdP (k c : Int32) : Prop := (k = 12 ∧ c = 0) ∨ (k = 13 ∧ c = 1) ∨ (k = 14 ∧ c = 2) ∨ (k = 15 ∧ c = 3) ∨ (k = 16 ∧ c = 4) ∨ (k = 17 ∧ c = 5) ∨ (k = 18 ∧ c = 6) ∨ (k = 19 ∧ c = 7) ∨ (k = 20 ∧ c = 8)
theorem sv_sgn {s v K L k c : Int32} (h : SV s v K L) (hp : sgP k c) : (s = 3 ∧ v = c) ↔ K = k := by
  unfold sgP at hp
  unfold SV at h
  rcases hp with ⟨rfl, rfl⟩ | ⟨rfl, rfl⟩ | ⟨rfl, rfl⟩ | ⟨rfl, rfl⟩ | ⟨rfl, rfl⟩ | ⟨rfl, rfl⟩ | ⟨rfl, rfl⟩ | ⟨rfl, rfl⟩ <;>
  rcases h with ⟨rfl, rfl⟩ | ⟨rfl, rfl⟩ | ⟨rfl, rfl, rfl⟩ | ⟨rfl, rfl, rfl⟩ | ⟨rfl, h⟩ | ⟨rfl, h⟩ <;>
  first
  | exact ⟨fun z => absurd z.1 (by decide), fun z => absurd z (by decide)⟩
  | (rcases h with ⟨rfl, rfl⟩ | ⟨rfl, rfl⟩ | ⟨rfl, rfl⟩ | ⟨rfl, rfl⟩ | ⟨rfl, rfl⟩ | ⟨rfl, rfl⟩ | ⟨rfl, rfl⟩ | ⟨rfl, rfl⟩ <;> decide)
  | (rcases h with ⟨rfl, rfl⟩ | ⟨rfl, rfl⟩ | ⟨rfl, rfl⟩ | ⟨rfl, rfl⟩ | ⟨rfl, rfl⟩ | ⟨rfl, rfl⟩ | ⟨rfl, rfl⟩ | ⟨rfl, rfl⟩ | ⟨rfl, rfl⟩ <;> decide)
theorem sv_wrd {s v K L k c : Int32} (h : SV s v K L) (hp : wdP k c) : (s = 2 ∧ v = c) ↔ K = k := by
  unfold wdP at hp
  unfold SV at h
  rcases hp with ⟨rfl, rfl⟩ | ⟨rfl, rfl⟩ | ⟨rfl, rfl⟩ | ⟨rfl, rfl⟩ | ⟨rfl, rfl⟩ | ⟨rfl, rfl⟩ | ⟨rfl, rfl⟩ | ⟨rfl, rfl⟩ | ⟨rfl, rfl⟩ <;>
  rcases h with ⟨rfl, rfl⟩ | ⟨rfl, rfl⟩ | ⟨rfl, rfl, rfl⟩ | ⟨rfl, rfl, rfl⟩ | ⟨rfl, h⟩ | ⟨rfl, h⟩ <;>
  first
  | exact ⟨fun z => absurd z.1 (by decide), fun z => absurd z (by decide)⟩
  | (rcases h with ⟨rfl, rfl⟩ | ⟨rfl, rfl⟩ | ⟨rfl, rfl⟩ | ⟨rfl, rfl⟩ | ⟨rfl, rfl⟩ | ⟨rfl, rfl⟩ | ⟨rfl, rfl⟩ | ⟨rfl, rfl⟩ <;> decide)
  | (rcases h with ⟨rfl, rfl⟩ | ⟨rfl, rfl⟩ | ⟨rfl, rfl⟩ | ⟨rfl, rfl⟩ | ⟨rfl, rfl⟩ | ⟨rfl, rfl⟩ | ⟨rfl, rfl⟩ | ⟨rfl, rfl⟩ | ⟨rfl, rfl⟩ <;> decide)
theorem sv_srt {s v K L : Int32} (h : SV s v K L) : (s = 0 ↔ K = 2) ∧ (s = 1 ↔ K = 3) ∧ (s = 4 ↔ K = 0) ∧ (K = 2 → v = L) ∧ (K = 3 → v = L) := by
  unfold SV at h
  rcases h with ⟨rfl, rfl⟩ | ⟨rfl, rfl⟩ | ⟨rfl, rfl, rfl⟩ | ⟨rfl, rfl, rfl⟩ | ⟨rfl, h⟩ | ⟨rfl, h⟩
  · exact ⟨by decide, by decide, by decide, fun z => absurd z (by decide), fun z => absurd z (by decide)⟩
  · exact ⟨by decide, by decide, by decide, fun z => absurd z (by decide), fun z => absurd z (by decide)⟩
  · exact ⟨by decide, by decide, by decide, fun _ => rfl, fun _ => rfl⟩
  · exact ⟨by decide, by decide, by decide, fun _ => rfl, fun _ => rfl⟩
  · rcases h with ⟨rfl, rfl⟩ | ⟨rfl, rfl⟩ | ⟨rfl, rfl⟩ | ⟨rfl, rfl⟩ | ⟨rfl, rfl⟩ | ⟨rfl, rfl⟩ | ⟨rfl, rfl⟩ | ⟨rfl, rfl⟩ <;> exact ⟨by decide, by decide, by decide, fun z => absurd z (by decide), fun z => absurd z (by decide)⟩
  · rcases h with ⟨rfl, rfl⟩ | ⟨rfl, rfl⟩ | ⟨rfl, rfl⟩ | ⟨rfl, rfl⟩ | ⟨rfl, rfl⟩ | ⟨rfl, rfl⟩ | ⟨rfl, rfl⟩ | ⟨rfl, rfl⟩ | ⟨rfl, rfl⟩ <;> exact ⟨by decide, by decide, by decide, fun z => absurd z (by decide), fun z => absurd z (by decide)⟩
/-- the tokens' half of the class, of the reference -/
def SyC (t : Nat → Int32) (n i : Nat) (σ : St) : Prop := TokC σ t n ∧ gI σ 405 = nI i ∧ i ≤ 1300 ∧ gI σ 408 = 0
def SyM (t : Nat → Int32) (n i : Nat) (σ : St) : Prop := gI σ 3 = nI n ∧ gA σ 1 = t ∧ gI σ 4 = nI (tP t n (i + 1)) ∧ gI σ 5 = nI (kQ t n i) ∧ SV (gI σ 6) (gI σ 7) (kK t n i) (kL t n i) ∧ gI σ 8 = 0
/-- the tape of this text -/
def Tp (t : Nat → Int32) (n : Nat) : Prop := TB t ∧ n ≤ 1200
theorem tokC_same {σ σ' : St} {t : Nat → Int32} {n : Nat} (h : TokC σ t n) (h1 : gI σ' 201 = gI σ 201) (h2 : gI σ' 202 = gI σ 202) (h3 : gA σ' 3 = gA σ 3) : TokC σ' t n := by
  obtain ⟨m, a, b, c, d, e⟩ := h
  exact ⟨m, h1.trans a, b, h2.trans c, d, by rw [h3]; exact e⟩
/-- what of the class the token's half rests on is the same -/
theorem syC_same {σ σ' : St} {t : Nat → Int32} {n i : Nat} (h : SyC t n i σ) (h1 : gI σ' 201 = gI σ 201) (h2 : gI σ' 202 = gI σ 202) (h3 : gA σ' 3 = gA σ 3) (h4 : gI σ' 405 = gI σ 405) (h5 : gI σ' 408 = gI σ 408) : SyC t n i σ' := ⟨tokC_same h.1 h1 h2 h3, h4.trans h.2.1, h.2.2.1, h5.trans h.2.2.2⟩
theorem syM_same {σ σ' : St} {t : Nat → Int32} {n i : Nat} (h : SyM t n i σ) (h1 : gA σ' 1 = gA σ 1) (h2 : ∀ k, 3 ≤ k → k ≤ 8 → gI σ' k = gI σ k) : SyM t n i σ' := by
  obtain ⟨a, b, c, d, e, f⟩ := h
  refine ⟨(h2 3 (by omega) (by omega)).trans a, h1.trans b, (h2 4 (by omega) (by omega)).trans c, (h2 5 (by omega) (by omega)).trans d, ?_, (h2 8 (by omega) (by omega)).trans f⟩
  rw [h2 6 (by omega) (by omega), h2 7 (by omega) (by omega)]
  exact e
theorem kK_ne0 {t : Nat → Int32} {n i : Nat} (h : ¬ kK t n i = 0) : kQ t n i < n := by
  rcases Nat.lt_or_ge (kQ t n i) n with q | q
  · exact q
  · refine absurd ?_ h
    unfold kK eK
    rw [if_neg (by omega)]
/-- a token takes its bytes -/
theorem kQ_up {t : Nat → Int32} {n i : Nat} : kQ t n i ≤ tP t n (i + 1) ∧ tP t n (i + 1) ≤ kQ t n (i + 1) ∧ (¬ kK t n i = 0 → kQ t n i + 1 ≤ kQ t n (i + 1)) := by
  have h1 := eE_le (t := t) (n := n) (q := kQ t n i) kQ_le
  have h2 := tQ_le (t := t) (n := n) (p := tP t n (i + 1)) (tP_le _)
  have e : tP t n (i + 1) = eE t n (kQ t n i) := rfl
  refine ⟨by rw [e]; exact h1.1, h2.1, fun h => ?_⟩
  have := h1.2.2 (kK_ne0 h)
  have h3 : tP t n (i + 1) ≤ kQ t n (i + 1) := h2.1
  omega
theorem wdK_len {t : Nat → Int32} {q L : Nat} : (wdK t q L = 14 → L = 5) ∧ (wdK t q L = 19 → L = 3) ∧ (wdK t q L = 13 → L = 4) ∧ (wdK t q L = 12 → L = 2) ∧ (wdK t q L = 20 → L = 6) ∧ (wdK t q L = 17 → L = 7) ∧ ¬ wdK t q L = 0 ∧ ¬ wdK t q L = 3 := by
  unfold wdK
  by_cases c1 : L = 1
  · subst c1; rw [if_pos rfl]; decide
  rw [if_neg c1]
  by_cases c2 : L = 2
  · subst c2; rw [if_pos rfl]; cases mtb t q 0 <;> cases mtb t q 1 <;> decide
  rw [if_neg c2]
  by_cases c3 : L = 3
  · subst c3; rw [if_pos rfl]; cases mtb t q 2 <;> cases mtb t q 3 <;> cases mtb t q 4 <;> decide
  rw [if_neg c3]
  by_cases c4 : L = 4
  · subst c4; rw [if_pos rfl]; cases mtb t q 5 <;> decide
  rw [if_neg c4]
  by_cases c5 : L = 5
  · subst c5; rw [if_pos rfl]; cases mtb t q 6 <;> decide
  rw [if_neg c5]
  by_cases c6 : L = 6
  · subst c6; rw [if_pos rfl]; cases mtb t q 7 <;> decide
  rw [if_neg c6]
  by_cases c7 : L = 7
  · subst c7; rw [if_pos rfl]; cases mtb t q 8 <;> decide
  rw [if_neg c7]
  exact ⟨fun z => absurd z (by decide), fun z => absurd z (by decide), fun z => absurd z (by decide), fun z => absurd z (by decide), fun z => absurd z (by decide), fun z => absurd z (by decide), by decide, by decide⟩
theorem skF_lt {c : Int32} : ¬ skF c = 14 ∧ ¬ skF c = 19 ∧ ¬ skF c = 13 ∧ ¬ skF c = 12 ∧ ¬ skF c = 20 ∧ ¬ skF c = 17 := by
  unfold skF
  repeat' split
  all_goals decide
/-- the length of a word -/
theorem kQ_word {t : Nat → Int32} {n i d : Nat} {k : Int32} (h : kK t n i = k) (hk : (k = 14 ∧ d = 5) ∨ (k = 19 ∧ d = 3) ∨ (k = 13 ∧ d = 4) ∨ (k = 12 ∧ d = 2) ∨ (k = 20 ∧ d = 6) ∨ (k = 17 ∧ d = 7)) : kQ t n i + d ≤ kQ t n (i + 1) := by
  have hu := kQ_up (t := t) (n := n) (i := i)
  have h0 : ¬ kK t n i = 0 := by
    rw [h]
    rcases hk with ⟨rfl, -⟩ | ⟨rfl, -⟩ | ⟨rfl, -⟩ | ⟨rfl, -⟩ | ⟨rfl, -⟩ | ⟨rfl, -⟩ <;> decide
  have hq := kK_ne0 h0
  have e : tP t n (i + 1) = eE t n (kQ t n i) := rfl
  have hE := (eE_le (t := t) (n := n) (q := kQ t n i) kQ_le).1
  have hs : ¬ smF (t (kQ t n i)) = 0 := by
    intro z
    have e2 : kK t n i = (if t (kQ t n i) < 65 then skF (t (kQ t n i)) else if 72 < t (kQ t n i) then skF (t (kQ t n i)) else 3) := by
      unfold kK eK
      rw [if_pos hq, if_pos z]
    rw [h] at e2
    obtain ⟨s1, s2, s3, s4, s5, s6⟩ := skF_lt (c := t (kQ t n i))
    by_cases y : t (kQ t n i) < 65
    · rw [if_pos y] at e2
      rcases hk with ⟨rfl, -⟩ | ⟨rfl, -⟩ | ⟨rfl, -⟩ | ⟨rfl, -⟩ | ⟨rfl, -⟩ | ⟨rfl, -⟩
      · exact s1 e2.symm
      · exact s2 e2.symm
      · exact s3 e2.symm
      · exact s4 e2.symm
      · exact s5 e2.symm
      · exact s6 e2.symm
    · rw [if_neg y] at e2
      by_cases y2 : 72 < t (kQ t n i)
      · rw [if_pos y2] at e2
        rcases hk with ⟨rfl, -⟩ | ⟨rfl, -⟩ | ⟨rfl, -⟩ | ⟨rfl, -⟩ | ⟨rfl, -⟩ | ⟨rfl, -⟩
        · exact s1 e2.symm
        · exact s2 e2.symm
        · exact s3 e2.symm
        · exact s4 e2.symm
        · exact s5 e2.symm
        · exact s6 e2.symm
      · rw [if_neg y2] at e2
        rcases hk with ⟨rfl, -⟩ | ⟨rfl, -⟩ | ⟨rfl, -⟩ | ⟨rfl, -⟩ | ⟨rfl, -⟩ | ⟨rfl, -⟩ <;> exact absurd e2 (by decide)
  have e3 : kK t n i = wdK t (kQ t n i) (eE t n (kQ t n i) - kQ t n i) := by
    unfold kK eK
    rw [if_pos hq, if_neg hs]
  obtain ⟨w1, w2, w3, w4, w5, w6, -, -⟩ := wdK_len (t := t) (q := kQ t n i) (L := eE t n (kQ t n i) - kQ t n i)
  rw [← e3, h] at w1 w2 w3 w4 w5 w6
  rcases hk with ⟨rfl, rfl⟩ | ⟨rfl, rfl⟩ | ⟨rfl, rfl⟩ | ⟨rfl, rfl⟩ | ⟨rfl, rfl⟩ | ⟨rfl, rfl⟩
  · have := w1 rfl; omega
  · have := w2 rfl; omega
  · have := w3 rfl; omega
  · have := w4 rfl; omega
  · have := w5 rfl; omega
  · have := w6 rfl; omega
/-! the class: leaves -/
section SyCl
variable {t : Nat → Int32} {n i : Nat} {σ : St} {N : Nat}
theorem sc_kind (hT : Tp t n) (h : SyC t n i σ) {j : Nat} (hj : j ≤ 1302) : x8_kindAt N σ (nI j) = some (kK t n j, σ) := (ck_at hT.1 hT.2 h.1 (by omega)).1 N
theorem sc_place (hT : Tp t n) (h : SyC t n i σ) {j : Nat} (hj : j ≤ 1302) : x8_placeAt N σ (nI j) = some (nI (kQ t n j), σ) := (ck_at hT.1 hT.2 h.1 (by omega)).2.1 N
theorem sc_letter (hT : Tp t n) (h : SyC t n i σ) {j : Nat} (hj : j ≤ 1302) : x8_letterAt N σ (nI j) = some (kL t n j, σ) := (ck_at hT.1 hT.2 h.1 (by omega)).2.2 N
theorem sc_seen (hT : Tp t n) (h : SyC t n i σ) {a : Int32} : x4_seen N σ a = some (if kK t n i = a then 1 else 0, σ) := by
  unfold x4_seen
  rw [h.2.1, sc_kind hT h (by have := h.2.2.1; omega), bd_s]
  by_cases c : kK t n i = a
  · rw [if_pos c, if_pos c]
  · rw [if_neg c, if_neg c]
theorem sc_takeY (hT : Tp t n) (h : SyC t n i σ) {a : Int32} (hk : kK t n i = a) : x4_take N σ a = some (1, sI σ 405 (nI (i + 1))) := by
  unfold x4_take
  rw [h.2.1, sc_kind hT h (by have := h.2.2.1; omega), bd_s, if_pos hk, h.2.1, nI_1]
theorem sc_takeN (hT : Tp t n) (h : SyC t n i σ) {a : Int32} (hk : ¬ kK t n i = a) : x4_take N σ a = some (0, sI (sI σ 408 1) 409 (nI (kQ t n i))) := by
  unfold x4_take x4_refuse
  rw [h.2.1, sc_kind hT h (by have := h.2.2.1; omega), bd_s, if_neg hk, h.2.1, sc_place hT h (by have := h.2.2.1; omega), bd_s, bd_s]
  rfl
theorem sc_up (h : SyC t n i σ) (hi : i + 1 ≤ 1300) : SyC t n (i + 1) (sI σ 405 (nI (i + 1))) := ⟨tokC_same h.1 (gI_ne (by decide)) (gI_ne (by decide)) rfl, gI_eq, hi, (gI_ne (by decide)).trans h.2.2.2⟩
end SyCl
/-- a token that is none of the end: there are at most 1200 -/
theorem tk_cnt {t : Nat → Int32} {n : Nat} : ∀ i, kQ t n i < n → i ≤ kQ t n i := by
  intro i
  induction i with
  | zero => intro _; exact Nat.zero_le _
  | succ i ih =>
    intro h
    have hu := kQ_up (t := t) (n := n) (i := i)
    by_cases c : kQ t n i < n
    · have h1 := ih c
      have h2 := (eE_le (t := t) (n := n) (q := kQ t n i) kQ_le).2.2 c
      have e : tP t n (i + 1) = eE t n (kQ t n i) := rfl
      omega
    · have e := kQ_end (t := t) (n := n) (m := i) (by have := kQ_le (t := t) (n := n) (i := i); omega) 1
      omega
theorem tk_1200 {t : Nat → Int32} {n i : Nat} (hT : Tp t n) (h : ¬ kK t n i = 0) : i + 1 ≤ 1200 := by
  have h1 := kK_ne0 h
  have h2 := tk_cnt i h1
  have := hT.2
  omega
/-! the reference: leaves -/
section SyMl
variable {t : Nat → Int32} {n i : Nat} {σ : St} {N : Nat}
theorem sm_sign (h : SyM t n i σ) {k c : Int32} (hp : sgP k c) : m_isSign N σ c = some (if kK t n i = k then 1 else 0, σ) := by
  rw [e_isSign]
  unfold sgF
  rw [if_pos h.2.2.2.2.2]
  have hv := sv_sgn h.2.2.2.2.1 hp
  by_cases c1 : kK t n i = k
  · rw [if_pos (hv.mpr c1).1, if_pos (hv.mpr c1).2, if_pos c1]
  · rw [if_neg c1]
    by_cases c2 : gI σ 6 = 3
    · rw [if_pos c2, if_neg (fun z => c1 (hv.mp ⟨c2, z⟩))]
    · rw [if_neg c2]
theorem sm_word (h : SyM t n i σ) {k c : Int32} (hp : wdP k c) : m_isWord N σ c = some (if kK t n i = k then 1 else 0, σ) := by
  rw [e_isWord]
  unfold sgF
  rw [if_pos h.2.2.2.2.2]
  have hv := sv_wrd h.2.2.2.2.1 hp
  by_cases c1 : kK t n i = k
  · rw [if_pos (hv.mpr c1).1, if_pos (hv.mpr c1).2, if_pos c1]
  · rw [if_neg c1]
    by_cases c2 : gI σ 6 = 2
    · rw [if_pos c2, if_neg (fun z => c1 (hv.mp ⟨c2, z⟩))]
    · rw [if_neg c2]
theorem sm_next (hN : 8589934592 ≤ N) (hT : Tp t n) (h : SyM t n i σ) : Par (m_next N σ) (fun _ σ' => SyM t n (i + 1) σ' ∧ Tk σ σ' ∧ Fk σ σ') := by
  obtain ⟨h3, h1, h4, h5, hv, h8⟩ := h
  have hle := tP_le (t := t) (n := n) (i + 1)
  have hT4 : T4 σ := by
    have := hT.2
    unfold T4
    rw [h4, h3, nI_t (by omega), nI_t (by omega)]
    omega
  refine ((n_next (N := N) hT.2 (by rw [h1]; exact hT.1) h3 h4 hle).and (s_next hN hT4).par).mono (fun _ σ' q => ?_)
  obtain ⟨⟨q1, q2, q3⟩, -, -, -, q4, q5⟩ := q
  rw [h1] at q1 q2 q3
  exact ⟨⟨(q4.2.1 3 (by omega)).trans h3, (q4.1 1).trans h1, q1, q2, q3, q5.1.trans h8⟩, q4, q5⟩
theorem sm_wantsY (hN : 8589934592 ≤ N) (hT : Tp t n) (h : SyM t n i σ) {k c : Int32} (hp : sgP k c) (hk : kK t n i = k) : Par (m_wants N σ c) (fun _ σ' => SyM t n (i + 1) σ' ∧ Tk σ σ') := by
  unfold m_wants m_takesSign
  rw [sm_sign h hp, if_pos hk, bd_s, if_neg (by decide)]
  refine par_bd (P := fun r σ' => r = 1 ∧ SyM t n (i + 1) σ' ∧ Tk σ σ') (par_bd (sm_next hN hT h) (fun _ σ1 q => par_some ⟨rfl, q.1, q.2.1⟩)) (fun r σ1 q => ?_)
  obtain ⟨rfl, q⟩ := q
  rw [if_neg (by decide)]
  exact par_some q
theorem sm_wantsN (h : SyM t n i σ) {k c : Int32} (hp : sgP k c) (hk : ¬ kK t n i = k) : m_wants N σ c = some ((), sI (sI σ 8 1) 9 (nI (kQ t n i))) := by
  unfold m_wants m_takesSign m_wrong
  rw [sm_sign h hp, if_neg hk, bd_s, if_pos rfl, bd_s, if_pos rfl, if_pos h.2.2.2.2.2, bd_s, h.2.2.2.1]
theorem sm_takenY (hN : 8589934592 ≤ N) (hT : Tp t n) (h : SyM t n i σ) {k c : Int32} (hp : (k = 2 ∧ c = 0) ∨ (k = 3 ∧ c = 1)) (hk : kK t n i = k) : Par (m_taken N σ c) (fun r σ' => r = kL t n i ∧ SyM t n (i + 1) σ' ∧ Tk σ σ') := by
  unfold m_taken
  obtain ⟨v1, v2, -, v4, v5⟩ := sv_srt h.2.2.2.2.1
  have hs : gI σ 6 = c := by
    rcases hp with ⟨rfl, rfl⟩ | ⟨rfl, rfl⟩
    · exact v1.mpr hk
    · exact v2.mpr hk
  have hv : gI σ 7 = kL t n i := by
    rcases hp with ⟨rfl, rfl⟩ | ⟨rfl, rfl⟩
    · exact v4 hk
    · exact v5 hk
  rw [if_pos h.2.2.2.2.2, if_pos hs]
  exact par_bd (sm_next hN hT h) (fun _ σ1 q => par_some ⟨hv, q.1, q.2.1⟩)
theorem sm_takenN (h : SyM t n i σ) {k c : Int32} (hp : (k = 2 ∧ c = 0) ∨ (k = 3 ∧ c = 1)) (hk : ¬ kK t n i = k) : m_taken N σ c = some (0, sI (sI σ 8 1) 9 (nI (kQ t n i))) := by
  unfold m_taken m_wrong
  obtain ⟨v1, v2, -, -, -⟩ := sv_srt h.2.2.2.2.1
  have hs : ¬ gI σ 6 = c := by
    rcases hp with ⟨rfl, rfl⟩ | ⟨rfl, rfl⟩
    · exact fun z => hk (v1.mp z)
    · exact fun z => hk (v2.mp z)
  rw [if_pos h.2.2.2.2.2, if_neg hs, if_pos h.2.2.2.2.2, bd_s, h.2.2.2.1]
end SyMl
