/-! The reference's acts as they are laid: what holds of them while no fault is told -/
def tst (x : Int32) : Prop := x = 10 ∨ x = 11 ∨ x = 12
def Tgt (ac : Nat → Int32) (a k : Nat) (t : Int32) : Prop := ∃ n : Nat, t = nI n ∧ k < n ∧ n ≤ a ∧ ¬ ac (n - 1) = 0
def nm1 (x : Int32) : Prop := x = 3 ∨ x = 4 ∨ x = 5 ∨ x = 7 ∨ x = 8 ∨ x = 10 ∨ x = 11
def actV (ac on tw th : Nat → Int32) (a : Nat) (X : Nat → Prop) (k : Nat) : Prop :=
  (0 ≤ (ac k).toInt ∧ (ac k).toInt ≤ 13) ∧ (nm1 (ac k) → 0 ≤ (on k).toInt ∧ (on k).toInt ≤ 25) ∧ (ac k = 3 → 0 ≤ (tw k).toInt ∧ (tw k).toInt ≤ 25) ∧ ((ac k = 5 ∨ ac k = 8) → tw k = 0 ∨ tw k = 1) ∧
  (ac k = 6 → 0 ≤ (on k).toInt ∧ (on k).toInt ≤ 7 ∧ 0 ≤ (tw k).toInt ∧ (tw k).toInt ≤ 4 ∧ 1 ≤ k ∧ ac (k - 1) = 0) ∧
  (tst (ac k) → 0 ≤ (tw k).toInt ∧ (tw k).toInt ≤ 23 ∧ (X k ∨ Tgt ac a k (th k))) ∧
  (ac k = 13 → (tw k = 1 ∧ ∃ n : Nat, on k = nI n ∧ n < k ∧ tst (ac n)) ∨ (tw k = 0 ∧ (X k ∨ Tgt ac a k (on k))))
def PV (ac on tw th : Nat → Int32) (a : Nat) (X : Nat → Prop) : Prop := ∀ k, k < a → actV ac on tw th a X k
def fr (f : Nat → Int32) : Nat → Int32 := fun k => f (1300 + k)
abbrev Ar : Type := Nat → Nat → Int32
/-- which acts wait for their goal: those of open blocks -/
def Wt (A : Ar) (b : Nat) : Nat → Prop := fun k => ∃ i, i < b ∧ ¬ A 35 i = 0 ∧ A 36 i = nI k
def blkV (A : Ar) (a i : Nat) : Prop := (A 35 i = 0 ↔ i = 0) ∧ (A 35 i = 0 ∨ ((A 35 i = 1 ∨ A 35 i = 3) ∧ ∃ n : Nat, A 36 i = nI n ∧ n < a ∧ tst (fr (A 12) n) ∧ (A 35 i = 3 → A 37 i = nI n)) ∨ (A 35 i = 2 ∧ ∃ n : Nat, A 36 i = nI n ∧ n < a ∧ fr (A 12) n = 13 ∧ fr (A 14) n = 0))
def rtV (A : Ar) (a b r : Nat) : Prop := A 19 (8 + r) = -1 ∨ ((∃ t : Nat, A 19 (8 + r) = nI t ∧ t ≤ a ∧ (b = 0 → t < a) ∧ (t = 0 ∨ ¬ fr (A 12) (t - 1) = 0)) ∧ 0 ≤ (A 20 (8 + r)).toInt ∧ (A 20 (8 + r)).toInt ≤ 4 ∧ ∀ k : Nat, (k : Int) < (A 20 (8 + r)).toInt → 0 ≤ (A 21 (32 + 4 * r + k)).toInt ∧ (A 21 (32 + 4 * r + k)).toInt ≤ 25)
def SQ (A : Ar) (a b c : Nat) (X : Nat → Prop) : Prop :=
  PV (fr (A 12)) (fr (A 13)) (fr (A 14)) (fr (A 15)) a X ∧ (∀ i, i < b → blkV A a i) ∧ (∀ r, r < 8 → rtV A a b r) ∧
  (∀ k, k < a → fr (A 12) k = 6 → ∃ j, j < c ∧ A 31 j = fr (A 13) k ∧ A 32 j = fr (A 14) k) ∧ (∀ j, j < c → 0 ≤ (A 31 j).toInt ∧ (A 31 j).toInt ≤ 7) ∧
  ((A 22 1 = -1 ∧ ∀ r, r < 8 → A 19 (8 + r) = -1) ∨ ∃ r, r < 8 ∧ A 22 1 = nI r ∧ ¬ A 19 (8 + r) = -1)
theorem fr_upd_ne {f : Nat → Int32} {a k : Nat} {x : Int32} (h : k ≠ a) : fr (upd f (1300 + a) x) k = fr f k := by
  unfold fr upd
  rw [if_neg (by omega)]
theorem fr_upd_eq {f : Nat → Int32} {a : Nat} {x : Int32} : fr (upd f (1300 + a) x) a = x := by
  unfold fr upd
  rw [if_pos rfl]
/-- what emit lays -/
def emA (A : Ar) (a : Nat) (x y z w : Int32) : Ar := fun j => if j = 12 then upd (A 12) (1300 + a) x else if j = 13 then upd (A 13) (1300 + a) y else if j = 14 then upd (A 14) (1300 + a) z else if j = 15 then upd (A 15) (1300 + a) w else A j
theorem emA_o {A : Ar} {a j : Nat} {x y z w : Int32} (h : j < 12 ∨ 15 < j) : emA A a x y z w j = A j := by
  unfold emA
  rw [if_neg (by omega), if_neg (by omega), if_neg (by omega), if_neg (by omega)]
theorem tgt_up {ac ac2 : Nat → Int32} {a k : Nat} {t : Int32} (he : ∀ n, n < a → ac2 n = ac n) (h : Tgt ac a k t) : Tgt ac2 (a + 1) k t := by
  obtain ⟨n, h1, h2, h3, h4⟩ := h
  exact ⟨n, h1, h2, by omega, by rw [he _ (by omega)]; exact h4⟩
theorem actV_up {ac on tw th ac2 on2 tw2 th2 : Nat → Int32} {a k : Nat} {X : Nat → Prop} (hk : k < a) (h1 : ∀ n, n < a → ac2 n = ac n) (h2 : ∀ n, n < a → on2 n = on n) (h3 : ∀ n, n < a → tw2 n = tw n) (h4 : ∀ n, n < a → th2 n = th n) (h : actV ac on tw th a X k) : actV ac2 on2 tw2 th2 (a + 1) X k := by
  obtain ⟨g1, g2, g3, g4, g5, g6, g7⟩ := h
  unfold actV
  rw [h1 k hk, h2 k hk, h3 k hk, h4 k hk]
  refine ⟨g1, g2, g3, g4, fun e => ?_, fun e => ?_, fun e => ?_⟩
  · obtain ⟨p1, p2, p3, p4, p5, p6⟩ := g5 e
    exact ⟨p1, p2, p3, p4, p5, by rw [h1 _ (by omega)]; exact p6⟩
  · obtain ⟨p1, p2, p3⟩ := g6 e
    exact ⟨p1, p2, p3.imp id (tgt_up h1)⟩
  · rcases g7 e with ⟨p1, n, p2, p3, p4⟩ | ⟨p1, p2⟩
    · exact Or.inl ⟨p1, n, p2, p3, by rw [h1 _ (by omega)]; exact p4⟩
    · exact Or.inr ⟨p1, p2.imp id (tgt_up h1)⟩
theorem em12 {A : Ar} {a : Nat} {x y z w : Int32} : emA A a x y z w 12 = upd (A 12) (1300 + a) x := rfl
theorem em13 {A : Ar} {a : Nat} {x y z w : Int32} : emA A a x y z w 13 = upd (A 13) (1300 + a) y := rfl
theorem em14 {A : Ar} {a : Nat} {x y z w : Int32} : emA A a x y z w 14 = upd (A 14) (1300 + a) z := rfl
theorem em15 {A : Ar} {a : Nat} {x y z w : Int32} : emA A a x y z w 15 = upd (A 15) (1300 + a) w := rfl
theorem blk_up {A A2 : Ar} {a i : Nat} (e35 : A2 35 = A 35) (e36 : A2 36 = A 36) (e37 : A2 37 = A 37) (h1 : ∀ n, n < a → fr (A2 12) n = fr (A 12) n) (h3 : ∀ n, n < a → fr (A2 14) n = fr (A 14) n) {a2 : Nat} (ha : a ≤ a2) (h : blkV A a i) : blkV A2 a2 i := by
  unfold blkV at h ⊢
  rw [e35, e36, e37]
  refine ⟨h.1, ?_⟩
  rcases h.2 with e | ⟨e, n, p1, p2, p3, p4⟩ | ⟨e, n, p1, p2, p3, p4⟩
  · exact Or.inl e
  · exact Or.inr (Or.inl ⟨e, n, p1, by omega, by rw [h1 n p2]; exact p3, p4⟩)
  · exact Or.inr (Or.inr ⟨e, n, p1, by omega, by rw [h1 n p2]; exact p3, by rw [h3 n p2]; exact p4⟩)
theorem rt_up {A A2 : Ar} {a b r a2 b2 : Nat} (e19 : A2 19 = A 19) (e20 : A2 20 = A 20) (e21 : A2 21 = A 21) (h1 : ∀ n, n < a → fr (A2 12) n = fr (A 12) n) (ha : a ≤ a2) (hb : b2 = 0 → b = 0 ∨ a < a2) (h : rtV A a b r) : rtV A2 a2 b2 r := by
  unfold rtV at h ⊢
  rw [e19, e20, e21]
  refine h.imp id (fun ⟨⟨t, p1, p2, p3, p4⟩, q⟩ => ⟨⟨t, p1, by omega, fun e => ?_, ?_⟩, q⟩)
  · rcases hb e with h | h
    · have := p3 h
      omega
    · omega
  · rcases p4 with e | e
    · exact Or.inl e
    · rcases Nat.eq_zero_or_pos t with z | z
      · exact Or.inl z
      · exact Or.inr (by rw [h1 _ (by omega)]; exact e)
/-- one more act -/
theorem sq_emit {A : Ar} {a b c : Nat} {X : Nat → Prop} {x y z w : Int32} (h : SQ A a b c X)
    (hv : actV (fr (upd (A 12) (1300 + a) x)) (fr (upd (A 13) (1300 + a) y)) (fr (upd (A 14) (1300 + a) z)) (fr (upd (A 15) (1300 + a) w)) (a + 1) X a) (hc : x = 6 → ∃ j, j < c ∧ A 31 j = y ∧ A 32 j = z) : SQ (emA A a x y z w) (a + 1) b c X := by
  obtain ⟨g1, g2, g3, g4, g5, g6⟩ := h
  have n12 : ∀ n, n < a → fr (emA A a x y z w 12) n = fr (A 12) n := fun n hn => by rw [em12]; exact fr_upd_ne (by omega)
  have n13 : ∀ n, n < a → fr (emA A a x y z w 13) n = fr (A 13) n := fun n hn => by rw [em13]; exact fr_upd_ne (by omega)
  have n14 : ∀ n, n < a → fr (emA A a x y z w 14) n = fr (A 14) n := fun n hn => by rw [em14]; exact fr_upd_ne (by omega)
  have n15 : ∀ n, n < a → fr (emA A a x y z w 15) n = fr (A 15) n := fun n hn => by rw [em15]; exact fr_upd_ne (by omega)
  refine ⟨fun k hk => ?_, fun i hi => ?_, fun r hr => ?_, fun k hk e => ?_, ?_, ?_⟩
  · rcases Nat.lt_or_ge k a with q | q
    · exact actV_up q n12 n13 n14 n15 (g1 k q)
    · obtain rfl : k = a := by omega
      exact hv
  · exact blk_up (emA_o (by omega)) (emA_o (by omega)) (emA_o (by omega)) n12 n14 (by omega) (g2 i hi)
  · exact rt_up (emA_o (by omega)) (emA_o (by omega)) (emA_o (by omega)) n12 (by omega) (fun _ => Or.inr (by omega)) (g3 r hr)
  · rw [emA_o (j := 31) (by omega), emA_o (j := 32) (by omega)]
    rcases Nat.lt_or_ge k a with q | q
    · rw [n12 k q] at e
      rw [n13 k q, n14 k q]
      exact g4 k q e
    · obtain rfl : k = a := by omega
      rw [em12, fr_upd_eq] at e
      rw [em13, em14, fr_upd_eq, fr_upd_eq]
      exact hc e
  · rw [emA_o (j := 31) (by omega)]
    exact g5
  · rw [emA_o (j := 22) (by omega), emA_o (j := 19) (by omega)]
    exact g6
/-- a plain act is right -/
theorem act_plain {A : Ar} {a : Nat} {X : Nat → Prop} {x y z w : Int32} (h1 : 0 ≤ x.toInt ∧ x.toInt ≤ 13) (h2 : nm1 x → 0 ≤ y.toInt ∧ y.toInt ≤ 25) (h3 : x = 3 → 0 ≤ z.toInt ∧ z.toInt ≤ 25) (h4 : (x = 5 ∨ x = 8) → z = 0 ∨ z = 1) (h5 : x = 6 → 0 ≤ y.toInt ∧ y.toInt ≤ 7 ∧ 0 ≤ z.toInt ∧ z.toInt ≤ 4 ∧ 1 ≤ a ∧ fr (A 12) (a - 1) = 0) (h6 : tst x → 0 ≤ z.toInt ∧ z.toInt ≤ 23 ∧ X a) (h7 : x = 13 → (z = 1 ∧ ∃ n : Nat, y = nI n ∧ n < a ∧ tst (fr (A 12) n)) ∨ (z = 0 ∧ X a)) :
    actV (fr (upd (A 12) (1300 + a) x)) (fr (upd (A 13) (1300 + a) y)) (fr (upd (A 14) (1300 + a) z)) (fr (upd (A 15) (1300 + a) w)) (a + 1) X a := by
  unfold actV
  rw [fr_upd_eq, fr_upd_eq, fr_upd_eq, fr_upd_eq]
  refine ⟨h1, h2, h3, h4, fun e => ?_, fun e => ?_, fun e => ?_⟩
  · obtain ⟨p1, p2, p3, p4, p5, p6⟩ := h5 e
    exact ⟨p1, p2, p3, p4, p5, by rw [fr_upd_ne (by omega)]; exact p6⟩
  · obtain ⟨p1, p2, p3⟩ := h6 e
    exact ⟨p1, p2, Or.inl p3⟩
  · rcases h7 e with ⟨p1, n, p2, p3, p4⟩ | ⟨p1, p2⟩
    · exact Or.inl ⟨p1, n, p2, p3, by rw [fr_upd_ne (by omega)]; exact p4⟩
    · exact Or.inr ⟨p1, Or.inl p2⟩
/-- fewer or more waiting ones -/
theorem sq_wt {A : Ar} {a b c : Nat} {X Y : Nat → Prop} (h : SQ A a b c X) (hx : ∀ k, k < a → X k → Y k) : SQ A a b c Y := by
  obtain ⟨g1, g⟩ := h
  refine ⟨fun k hk => ?_, g⟩
  obtain ⟨p1, p2, p3, p4, p5, p6, p7⟩ := g1 k hk
  exact ⟨p1, p2, p3, p4, p5, fun e => ⟨(p6 e).1, (p6 e).2.1, (p6 e).2.2.imp (hx k hk) id⟩, fun e => (p7 e).imp id (fun q => ⟨q.1, q.2.imp (hx k hk) id⟩)⟩
