/-! The reference's takers: wrong, isSign, isWord, takesSign, wants, taken -/
theorem tv_f {σ : St} {k : Nat} {v : Int32} (h : TV σ) (hk : k = 8 ∨ k = 9) : TV (sI σ k v) := by
  rcases hk with rfl | rfl <;> exact h
theorem ti_f {σ : St} {k : Nat} {v : Int32} (h : TI σ) (hk : k = 8 ∨ k = 9) : TI (sI σ k v) := by
  rcases hk with rfl | rfl <;> exact h
/-- a fault stays, and nothing is taken behind it; p: the place -/
def Go (σ σ' : St) (d : Int) : Prop := TI σ' ∧ TV σ' ∧ Tk σ σ' ∧ (gI σ 5).toInt ≤ (gI σ' 5).toInt ∧ (gI σ' 8 = 0 → gI σ 8 = 0 ∧ (gI σ 5).toInt + d ≤ (gI σ' 5).toInt)
theorem go_rf {σ : St} (h1 : TI σ) (h2 : TV σ) : Go σ σ 0 := ⟨h1, h2, tk_rf σ, Int.le_refl _, fun h => ⟨h, by omega⟩⟩
theorem go_tr {σ σ1 σ2 : St} {d d2 : Int} (h : Go σ σ1 d) (h2 : Go σ1 σ2 d2) : Go σ σ2 (d + d2) := by
  obtain ⟨a1, a2, a3, a4, a5⟩ := h
  obtain ⟨b1, b2, b3, b4, b5⟩ := h2
  refine ⟨b1, b2, tk_tr a3 b3, by omega, fun h => ?_⟩
  have g1 := b5 h
  have g2 := a5 g1.1
  exact ⟨g2.1, by omega⟩
theorem go_le {σ σ1 : St} {d d2 : Int} (h : Go σ σ1 d) (hd : d2 ≤ d) : Go σ σ1 d2 := ⟨h.1, h.2.1, h.2.2.1, h.2.2.2.1, fun q => ⟨(h.2.2.2.2 q).1, by have := (h.2.2.2.2 q).2; omega⟩⟩
theorem s_wrong {N : Nat} {σ : St} {k q : Int32} (hT : TI σ) (hV : TV σ) (hk : ¬ k = 0) : Tot (m_wrong N σ k q) (fun _ σ' => Go σ σ' 1000000 ∧ ¬ gI σ' 8 = 0 ∧ (¬ gI σ 8 = 0 → σ' = σ) ∧ (∀ k, k < 8 → gI σ' k = gI σ k)) := by
  unfold m_wrong
  refine tot_if (fun h => tot_some ?_) (fun h => tot_some ⟨⟨hT, hV, tk_rf σ, Int.le_refl _, fun e => absurd e h⟩, h, fun _ => rfl, fun _ _ => rfl⟩)
  exact ⟨⟨hT, hV, tk_I (tk_I (tk_rf σ) (by decide)) (by decide), Int.le_refl _, fun e => absurd e hk⟩, hk, fun e => absurd h e, fun k hk => (gI_ne (by omega)).trans (gI_ne (by omega))⟩
/-- isSign, isWord -/
def sgF (σ : St) (s c : Int32) : Int32 := if gI σ 8 = 0 then (if gI σ 6 = s then (if gI σ 7 = c then 1 else 0) else 0) else 0
theorem e_isSign {N : Nat} {σ : St} {c : Int32} : m_isSign N σ c = some (sgF σ 3 c, σ) := by
  unfold m_isSign sgF
  split
  · split
    · split <;> rfl
    · rfl
  · rfl
theorem e_isWord {N : Nat} {σ : St} {c : Int32} : m_isWord N σ c = some (sgF σ 2 c, σ) := by
  unfold m_isWord sgF
  split
  · split
    · split <;> rfl
    · rfl
  · rfl
theorem sgF_1 {σ : St} {s c : Int32} (h : ¬ sgF σ s c = 0) : gI σ 8 = 0 ∧ gI σ 6 = s ∧ gI σ 7 = c := by
  unfold sgF at h
  split at h
  · rename_i h1
    split at h
    · rename_i h2
      split at h
      · rename_i h3
        exact ⟨h1, h2, h3⟩
      · exact absurd rfl h
    · exact absurd rfl h
  · exact absurd rfl h
theorem sgF_b {σ : St} {s c : Int32} : sgF σ s c = 0 ∨ sgF σ s c = 1 := by
  unfold sgF
  split
  · split
    · split
      · exact Or.inr rfl
      · exact Or.inl rfl
    · exact Or.inl rfl
  · exact Or.inl rfl
theorem ti4 {σ : St} (h : TI σ) : T4 σ := ⟨by have := h.1; have := h.2.1; omega, h.2.2.1, h.2.2.2⟩
/-- next() where a token stands -/
theorem s_nextT {N : Nat} (hN : 8589934592 ≤ N) {σ : St} (hT : TI σ) (hV : TV σ) (hs : ¬ gI σ 6 = 4) : Tot (m_next N σ) (fun _ σ' => Go σ σ' 1 ∧ Fk σ σ') := by
  refine (s_next hN (ti4 hT)).mono (fun _ σ' q => ?_)
  have hlt : (gI σ 5).toInt < (gI σ 4).toInt := by
    rcases hV.2.2.1 with e | e
    · exact absurd e hs
    · exact e
  have := q.2.2.1
  exact ⟨⟨q.1, q.2.1, q.2.2.2.1, by omega, fun e => ⟨by rw [← q.2.2.2.2.1]; exact e, by omega⟩⟩, q.2.2.2.2⟩
/-- next() behind a word -/
theorem s_nextW {N : Nat} (hN : 8589934592 ≤ N) {σ : St} (hT : TI σ) (hV : TV σ) (hs : gI σ 6 = 2) : Tot (m_next N σ) (fun _ σ' => Go σ σ' 2 ∧ Fk σ σ') := by
  refine (s_next hN (ti4 hT)).mono (fun _ σ' q => ?_)
  have hlt := hV.2.2.2.2 hs
  have := q.2.2.1
  exact ⟨⟨q.1, q.2.1, q.2.2.2.1, by omega, fun e => ⟨by rw [← q.2.2.2.2.1]; exact e, by omega⟩⟩, q.2.2.2.2⟩
/-- next() anywhere -/
theorem s_nextA {N : Nat} (hN : 8589934592 ≤ N) {σ : St} (hT : TI σ) : Tot (m_next N σ) (fun _ σ' => Go σ σ' 0 ∧ Fk σ σ') := by
  refine (s_next hN (ti4 hT)).mono (fun _ σ' q => ?_)
  have := q.2.2.1
  have := hT.2.1
  exact ⟨⟨q.1, q.2.1, q.2.2.2.1, by omega, fun e => ⟨by rw [← q.2.2.2.2.1]; exact e, by omega⟩⟩, q.2.2.2.2⟩
theorem s_takesSign {N : Nat} (hN : 8589934592 ≤ N) {σ : St} {c : Int32} (hT : TI σ) (hV : TV σ) : Tot (m_takesSign N σ c) (fun r σ' => (r = 0 ∧ σ' = σ ∧ sgF σ 3 c = 0) ∨ (r = 1 ∧ Go σ σ' 1 ∧ Fk σ σ' ∧ ¬ sgF σ 3 c = 0)) := by
  unfold m_takesSign
  rw [e_isSign, bd_s]
  refine tot_if (fun h => tot_some (Or.inl ⟨rfl, rfl, h⟩)) (fun h => ?_)
  obtain ⟨h1, h2, h3⟩ := sgF_1 h
  refine tot_bd (s_nextT hN hT hV (by rw [h2]; decide)) (fun _ σ4 hp => ?_)
  exact tot_some (Or.inr ⟨rfl, hp.1, hp.2, h⟩)
theorem s_wants2 {N : Nat} (hN : 8589934592 ≤ N) {σ : St} {c : Int32} (hT : TI σ) (hV : TV σ) : Tot (m_wants N σ c) (fun _ σ' => Go σ σ' 1 ∧ (gI σ' 8 = 0 → ¬ sgF σ 3 c = 0)) := by
  unfold m_wants
  refine tot_bd (s_takesSign hN hT hV) (fun r σ2 hp => ?_)
  rcases hp with ⟨rfl, e, -⟩ | ⟨rfl, hg, -, hs⟩
  · obtain rfl := e.symm
    rw [if_pos rfl]
    refine tot_bd (s_wrong hT hV (by decide)) (fun _ σ4 hp => ?_)
    exact tot_some ⟨go_le hp.1 (by decide), fun e => absurd e hp.2.1⟩
  · rw [if_neg (by decide)]
    exact tot_some ⟨hg, fun _ => hs⟩
theorem s_wants {N : Nat} (hN : 8589934592 ≤ N) {σ : St} {c : Int32} (hT : TI σ) (hV : TV σ) : Tot (m_wants N σ c) (fun _ σ' => Go σ σ' 1) := (s_wants2 hN hT hV).mono (fun _ _ q => q.1)
theorem s_taken {N : Nat} (hN : 8589934592 ≤ N) {σ : St} {w : Int32} (hT : TI σ) (hV : TV σ) (hw : w = 0 ∨ w = 1) : Tot (m_taken N σ w) (fun v σ' => Go σ σ' 1 ∧ 0 ≤ v.toInt ∧ (w = 0 → v.toInt ≤ 25) ∧ (w = 1 → v.toInt ≤ 7) ∧ (gI σ' 8 = 0 → gI σ 6 = w ∧ v = gI σ 7)) := by
  unfold m_taken
  refine tot_if (fun h => tot_if (fun h2 => ?_) (fun h2 => ?_)) (fun h => ?_)
  · refine tot_bd (s_nextT hN hT hV (by rw [h2]; rcases hw with rfl | rfl <;> decide)) (fun _ σ2 hp => ?_)
    refine tot_some ⟨hp.1, ?_, ?_, ?_, fun _ => ⟨h2, rfl⟩⟩
    · rcases hw with rfl | rfl
      · exact (hV.1 h2).1
      · exact (hV.2.1 h2).1
    · rintro rfl
      exact (hV.1 h2).2
    · rintro rfl
      exact (hV.2.1 h2).2
  · refine tot_bd (s_wrong hT hV (by decide)) (fun _ σ4 hp => ?_)
    exact tot_some ⟨go_le hp.1 (by decide), by decide, fun _ => by decide, fun _ => by decide, fun e => absurd e hp.2.1⟩
  · exact tot_some ⟨⟨hT, hV, tk_rf σ, Int.le_refl _, fun e => absurd e h⟩, by decide, fun _ => by decide, fun _ => by decide, fun e => absurd e h⟩
