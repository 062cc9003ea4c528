/-! the states that both constructors leave -/
def sC0 (f23 : Nat → Int32) (f26 : Nat → Int32) : St := (fun k => if k = 6 then (-1) else if k = 409 then (-1) else if k = 701 then (-1) else if k = 908 then 1 else if k = 1904 then 1 else if k = 2204 then 1 else if k = 2207 then (-1) else if k = 3013 then (-1) else if k = 5013 then (-1) else 0, fun _ => 0, fun j => if j = 23 then f23 else if j = 26 then f26 else (fun _ => 0), fun _ _ => 0, fun k => if k = 3 then 30 else if k = 403 then 30 else if k = 404 then 31 else if k = 700 then 50 else if k = 906 then 50 else if k = 907 then 51 else if k = 1504 then 50 else if k = 1505 then 51 else 0)
def sM0 (f19 : Nat → Int32) (f61 : Nat → Int32) : St := (fun k => if k = 11 then (-1) else if k = 39 then (-1) else 0, fun _ => 0, fun j => if j = 19 then f19 else if j = 61 then f61 else (fun _ => 0), fun _ _ => 0, fun _ => 0)
theorem sC0_I (f23 : Nat → Int32) (f26 : Nat → Int32) : CP (sC0 f23 f26) ∧ gI (sC0 f23 f26) 1 = 0 := ⟨⟨rfl, rfl, rfl, rfl, rfl, rfl, rfl, rfl⟩, rfl⟩
theorem sM0_I (f19 : Nat → Int32) (f61 : Nat → Int32) (h19 : ∀ j, j < 16 → f19 j = -1) : MI (sM0 f19 f61) ∧ gI (sM0 f19 f61) 2 = 0 := by
  refine ⟨⟨0, 0, 0, rfl, by decide, rfl, by decide, rfl, by decide, ⟨?_, Or.inl rfl, ?_, ?_⟩, Or.inl rfl, fun h => absurd h (by decide), (show (0 : Int) ≤ (0 : Int32).toInt by decide), (show (0 : Int32).toInt ≤ 1200 by decide), (show (0 : Int) ≤ (0 : Int32).toInt by decide), (show (0 : Int32).toInt ≤ 10 by decide)⟩, rfl⟩
  · intro k hk
    exact absurd hk (Nat.not_lt_zero k)
  · intro r hr
    exact Or.inl (h19 r (by omega))
  · intro k hk
    exact absurd hk (Nat.not_lt_zero k)
theorem wd_apart {c4 : C4} {adC adM : Nat → Nat} {σc σm : St} {A : Nat → Prop} (hD : va_D A (wdS scC c4 adC σc ++ wdS scM c4 adM σm)) : ∀ j ∈ scC.1, ∀ k ∈ scM.1, adC j ≠ adM k := by
  intro j hj k hk e
  obtain ⟨q, hq⟩ := id_pl hj
  obtain ⟨q2, hq2⟩ := id_pl hk
  have h1 := wd_at (c4 := c4) (ad := adC) (σ := σc) hq
  have h2 := wd_at (c4 := c4) (ad := adM) (σ := σm) hq2
  have hl : q < (wdS scC c4 adC σc).length := (List.getElem?_eq_some_iff.mp h1).1
  have h3 : (wdS scC c4 adC σc ++ wdS scM c4 adM σm)[q]? = some (adC j, fcell scC c4 adC σc j) := by rw [List.getElem?_append_left hl]; exact h1
  have h4 : (wdS scC c4 adC σc ++ wdS scM c4 adM σm)[(wdS scC c4 adC σc).length + q2]? = some (adM k, fcell scM c4 adM σm k) := by rw [List.getElem?_append_right (Nat.le_add_right _ _), Nat.add_sub_cancel_left]; exact h2
  have h5 := hD.1 _ _ _ _ h3 h4 e
  omega
theorem wd_P1 {D : va_G} {cl : List vw_C} {w1 w2 : va_W} {H : Heap} (h : va_P D cl (w1 ++ w2) H) : va_P D cl w1 H := fun k q hq => h k q (by rw [List.getElem?_append_left (List.getElem?_eq_some_iff.mp hq).1]; exact hq)
theorem wd_P2 {D : va_G} {cl : List vw_C} {w1 w2 : va_W} {H : Heap} (h : va_P D cl (w1 ++ w2) H) : va_P D cl w2 H := fun k q hq => h (w1.length + k) q (by rw [List.getElem?_append_right (Nat.le_add_right _ _), Nat.add_sub_cancel_left]; exact hq)
theorem wd_D1 {A : Nat → Prop} {w1 w2 : va_W} (h : va_D A (w1 ++ w2)) : va_D A w1 := ⟨fun i j p q h1 h2 e => h.1 i j p q (by rw [List.getElem?_append_left (List.getElem?_eq_some_iff.mp h1).1]; exact h1) (by rw [List.getElem?_append_left (List.getElem?_eq_some_iff.mp h2).1]; exact h2) e, fun k q hq => h.2 k q (by rw [List.getElem?_append_left (List.getElem?_eq_some_iff.mp hq).1]; exact hq)⟩
theorem wd_D2 {A : Nat → Prop} {w1 w2 : va_W} (h : va_D A (w1 ++ w2)) : va_D A w2 := ⟨fun i j p q h1 h2 e => by
  have e2 := h.1 (w1.length + i) (w1.length + j) p q (by rw [List.getElem?_append_right (Nat.le_add_right _ _), Nat.add_sub_cancel_left]; exact h1) (by rw [List.getElem?_append_right (Nat.le_add_right _ _), Nat.add_sub_cancel_left]; exact h2) e
  omega, fun k q hq => h.2 (w1.length + k) q (by rw [List.getElem?_append_right (Nat.le_add_right _ _), Nat.add_sub_cancel_left]; exact hq)⟩
