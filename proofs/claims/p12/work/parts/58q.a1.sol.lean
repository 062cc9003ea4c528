/-! what the FACTS of a program must satisfy: bits 0 (NOTHING) and 1 (THING) -/
/-- names of rows, rows reached, marks, routines reached, ends of tests (and from 100 on facts of uses) -/
abbrev FD : Type := (Nat → Nat → Nat → Prop) × (Nat → Prop) × (Nat → Nat → Prop) × (Nat → Prop) × (Nat → Nat → Prop)
/-- a number of a row -/
def dn (σ : St) (G p q : Nat) : Nat := (rwD G p σ q).toBitVec.toNat
/-- the routines, by letter: told, first row, how many parameters, their names -/
abbrev RD : Type := (Nat → Prop) × (Nat → Nat) × (Nat → Nat) × (Nat → Nat → Nat)
def jn (D : FD) (q : Nat) (g : Nat → Nat → Prop) : Prop := D.2.1 q ∧ ∀ n b, n < 26 → b < 2 → g n b → D.1 q n b
/-- a value's bits, whether it comes to be, and the names behind it: M the marks, g the names ahead, d the row -/
def vB (M g : Nat → Nat → Prop) (d : Nat → Nat) (b : Nat) : Prop := (d 4 = 0 ∧ b = 0) ∨ d 4 = 1 ∨ (d 4 = 2 ∧ b = 1) ∨ (d 4 = 3 ∧ g (d 5) b) ∨ (d 4 = 4 ∧ M (40 + d 6) b) ∨ (d 4 = 5 ∧ M (32 + d 6) b)
def aL (M g : Nat → Nat → Prop) (d : Nat → Nat) : Prop := (d 4 = 4 → g (d 5) 1 ∧ ∃ b, b < 2 ∧ M (40 + d 6) b) ∧ (d 4 = 5 → ∃ b, b < 2 ∧ M (32 + d 6) b)
def nB (g : Nat → Nat → Prop) (d : Nat → Nat) (n b : Nat) : Prop := if d 4 = 4 ∧ n = d 5 then b = 1 else g n b
/-- the argument i of a call -/
def agN (d : Nat → Nat) (i : Nat) : Nat := d 8 / 2 ^ (5 * i) % 32
def efV (R : RD) (D : FD) (g : Nat → Nat → Prop) (d : Nat → Nat) : Prop := (d 4 = 1 → D.2.2.1 40 1 ∧ D.2.2.1 41 1) ∧ (d 4 = 2 → ∀ b, b < 2 → (g (d 5) b → D.2.2.1 40 b) ∧ (g (d 6) b → D.2.2.1 41 b)) ∧ (d 4 = 4 → d 7 < 40 → ∀ b, b < 2 → g (d 5) b → D.2.2.2.2 (100 + d 7) b) ∧ (d 4 = 5 → D.2.2.2.1 (d 6) ∧ ∀ i b, i < R.2.2.1 (d 6) → b < 2 → g (agN d i) b → D.2.2.1 (4 * d 6 + i) b)
def tsS (D : FD) (g : Nat → Nat → Prop) (d : Nat → Nat) (p w : Nat) : Prop := (g (d 1) w → D.2.2.2.2 (d 3) 0 ∧ jn D (p + 1) (fun n b => if n = d 1 then b = w else g n b)) ∧ (g (d 1) (1 - w) → D.2.2.2.2 (d 3) 1 ∧ jn D (d 10) (fun n b => if n = d 1 then b = 1 - w else g n b))
def fiS (D : FD) (M g : Nat → Nat → Prop) (d : Nat → Nat) (p : Nat) : Prop :=
  (d 0 = 3 → jn D (p + 1) (fun n b => if n = d 1 then vB M g d b else nB g d n b)) ∧
  (d 0 = 4 → (d 3 < 40 → ∀ b, b < 2 → nB g d (d 1) b → D.2.2.2.2 (100 + d 3) b) ∧ (nB g d (d 1) 1 → (∀ b, b < 2 → vB M g d b → D.2.2.1 (40 + d 2) b) ∧ jn D (p + 1) (fun n b => if n = d 1 then b = 1 else nB g d n b))) ∧
  (d 0 = 5 → jn D (p + 1) (nB g d)) ∧
  (d 0 = 6 → ∀ b, b < 2 → vB M g d b → D.2.2.1 (32 + d 11) b)
/-- what row p asks for, if it is reached -/
def rwS (R : RD) (D : FD) (M g : Nat → Nat → Prop) (d : Nat → Nat) (p : Nat) : Prop :=
  (d 0 = 0 → D.2.2.1 (32 + d 11) 0) ∧
  (d 0 = 1 → jn D (d 10) g) ∧
  (d 0 = 2 → d 4 = 1 → D.2.2.2.2 (d 3) 0 ∧ D.2.2.2.2 (d 3) 1 ∧ jn D (p + 1) g ∧ jn D (d 10) g) ∧
  (d 0 = 2 → ∀ w, w < 2 → d 4 = 6 + w → tsS D g d p w) ∧
  (3 ≤ d 0 → efV R D g d ∧ (aL M g d → fiS D M g d p))
/-- the names with which a routine begins -/
def opB (R : RD) (D : FD) (l : Nat) : Nat → Nat → Nat → Prop
  | 0, _, b => b = 0
  | k + 1, n, b => if n = R.2.2.2 l k then D.2.2.1 (4 * l + k) b else opB R D l k n b
def opS (R : RD) (D : FD) (l : Nat) : Prop := D.2.2.2.1 l → (∀ k, k < R.2.2.1 l → ∃ b, b < 2 ∧ D.2.2.1 (4 * l + k) b) → jn D (R.2.1 l) (opB R D l (R.2.2.1 l))
/-- where it is entered, with what is told of the parameters -/
def enS (R : RD) (D : FD) (l : Nat) (tv : Nat → Nat) : Prop := D.2.2.2.1 l ∧ ∀ k, k < R.2.2.1 l → (∀ b, b < 2 → (tv k).testBit b = true → D.2.2.1 (4 * l + k) b) ∧ ((tv k).testBit 1 = true → D.2.2.1 40 1 ∧ D.2.2.1 41 1)
def Sol (σ : St) (G s : Nat) (R : RD) (l : Nat) (tv : Nat → Nat) (D : FD) : Prop := enS R D l tv ∧ (∀ r, R.1 r → opS R D r) ∧ ∀ p, p < s → D.2.1 p → rwS R D D.2.2.1 (D.1 p) (dn σ G p) p
/-- one is in the other -/
def FL (D D' : FD) : Prop := (∀ p n b, D.1 p n b → D'.1 p n b) ∧ (∀ p, D.2.1 p → D'.2.1 p) ∧ (∀ m b, D.2.2.1 m b → D'.2.2.1 m b) ∧ (∀ l, D.2.2.2.1 l → D'.2.2.2.1 l) ∧ (∀ t b, D.2.2.2.2 t b → D'.2.2.2.2 t b)
theorem fl_r (D : FD) : FL D D := ⟨fun _ _ _ h => h, fun _ h => h, fun _ _ h => h, fun _ h => h, fun _ _ h => h⟩
theorem fl_t {D D1 D2 : FD} (h : FL D D1) (k : FL D1 D2) : FL D D2 := ⟨fun p n b x => k.1 p n b (h.1 p n b x), fun p x => k.2.1 p (h.2.1 p x), fun m b x => k.2.2.1 m b (h.2.2.1 m b x), fun l x => k.2.2.2.1 l (h.2.2.2.1 l x), fun t b x => k.2.2.2.2 t b (h.2.2.2.2 t b x)⟩
theorem jn_m {D D' : FD} {q : Nat} {g g' : Nat → Nat → Prop} (hD : FL D D') (hg : ∀ n b, n < 26 → b < 2 → g' n b → g n b) (h : jn D q g) : jn D' q g' := ⟨hD.2.1 q h.1, fun n b h1 h2 h3 => hD.1 q n b (h.2 n b h1 h2 (hg n b h1 h2 h3))⟩
theorem vB_m {M M' g g' : Nat → Nat → Prop} {d : Nat → Nat} (hM : ∀ m b, M' m b → M m b) (hg : ∀ n b, g' n b → g n b) {b : Nat} (h : vB M' g' d b) : vB M g d b := by
  rcases h with h | h | h | ⟨h, h2⟩ | ⟨h, h2⟩ | ⟨h, h2⟩
  · exact Or.inl h
  · exact Or.inr (Or.inl h)
  · exact Or.inr (Or.inr (Or.inl h))
  · exact Or.inr (Or.inr (Or.inr (Or.inl ⟨h, hg _ _ h2⟩)))
  · exact Or.inr (Or.inr (Or.inr (Or.inr (Or.inl ⟨h, hM _ _ h2⟩))))
  · exact Or.inr (Or.inr (Or.inr (Or.inr (Or.inr ⟨h, hM _ _ h2⟩))))
theorem nB_m {g g' : Nat → Nat → Prop} {d : Nat → Nat} (hg : ∀ n b, g' n b → g n b) {n b : Nat} (h : nB g' d n b) : nB g d n b := by
  unfold nB at *
  by_cases c : d 4 = 4 ∧ n = d 5
  · rw [if_pos c] at h ⊢; exact h
  · rw [if_neg c] at h ⊢; exact hg _ _ h
theorem aL_m {M M' g g' : Nat → Nat → Prop} {d : Nat → Nat} (hM : ∀ m b, M' m b → M m b) (hg : ∀ n b, g' n b → g n b) (h : aL M' g' d) : aL M g d := by
  refine ⟨fun e => ?_, fun e => ?_⟩
  · obtain ⟨h1, b, h2, h3⟩ := h.1 e
    exact ⟨hg _ _ h1, b, h2, hM _ _ h3⟩
  · obtain ⟨b, h2, h3⟩ := h.2 e
    exact ⟨b, h2, hM _ _ h3⟩
theorem if_m {c : Prop} [Decidable c] {A A' B B' : Prop} (h1 : A' → A) (h2 : B' → B) (h : if c then A' else B') : if c then A else B := by
  by_cases e : c
  · rw [if_pos e] at h ⊢; exact h1 h
  · rw [if_neg e] at h ⊢; exact h2 h
theorem efV_m {R : RD} {D D' : FD} {g g' : Nat → Nat → Prop} {d : Nat → Nat} (hD : FL D D') (hg : ∀ n b, g' n b → g n b) (h : efV R D g d) : efV R D' g' d := by
  obtain ⟨h1, h2, h3, h4⟩ := h
  refine ⟨fun e => ⟨hD.2.2.1 _ _ (h1 e).1, hD.2.2.1 _ _ (h1 e).2⟩, fun e b hb => ⟨fun z => hD.2.2.1 _ _ ((h2 e b hb).1 (hg _ _ z)), fun z => hD.2.2.1 _ _ ((h2 e b hb).2 (hg _ _ z))⟩, fun e u b hb z => hD.2.2.2.2 _ _ (h3 e u b hb (hg _ _ z)), fun e => ⟨hD.2.2.2.1 _ (h4 e).1, fun i b hi hb z => hD.2.2.1 _ _ ((h4 e).2 i b hi hb (hg _ _ z))⟩⟩
theorem tsS_m {D D' : FD} {g g' : Nat → Nat → Prop} {d : Nat → Nat} {p w : Nat} (hD : FL D D') (hg : ∀ n b, g' n b → g n b) (h : tsS D g d p w) : tsS D' g' d p w := by
  refine ⟨fun z => ?_, fun z => ?_⟩
  · obtain ⟨h1, h2⟩ := h.1 (hg _ _ z)
    exact ⟨hD.2.2.2.2 _ _ h1, jn_m hD (fun n b _ _ => if_m id (hg n b)) h2⟩
  · obtain ⟨h1, h2⟩ := h.2 (hg _ _ z)
    exact ⟨hD.2.2.2.2 _ _ h1, jn_m hD (fun n b _ _ => if_m id (hg n b)) h2⟩
theorem fiS_m {D D' : FD} {M M' g g' : Nat → Nat → Prop} {d : Nat → Nat} {p : Nat} (hD : FL D D') (hM : ∀ m b, M' m b → M m b) (hg : ∀ n b, g' n b → g n b) (h : fiS D M g d p) : fiS D' M' g' d p := by
  obtain ⟨h1, h2, h3, h4⟩ := h
  refine ⟨fun e => jn_m hD (fun n b _ _ => if_m (vB_m hM hg) (nB_m hg)) (h1 e), fun e => ⟨fun u b hb z => hD.2.2.2.2 _ _ ((h2 e).1 u b hb (nB_m hg z)), fun z => ?_⟩, fun e => jn_m hD (fun n b _ _ => nB_m hg) (h3 e), fun e b hb z => hD.2.2.1 _ _ (h4 e b hb (vB_m hM hg z))⟩
  obtain ⟨k1, k2⟩ := (h2 e).2 (nB_m hg z)
  exact ⟨fun b hb z => hD.2.2.1 _ _ (k1 b hb (vB_m hM hg z)), jn_m hD (fun n b _ _ => if_m id (nB_m hg)) k2⟩
theorem rwS_m {R : RD} {D D' : FD} {M M' g g' : Nat → Nat → Prop} {d : Nat → Nat} {p : Nat} (hD : FL D D') (hM : ∀ m b, M' m b → M m b) (hg : ∀ n b, g' n b → g n b) (h : rwS R D M g d p) : rwS R D' M' g' d p := by
  obtain ⟨h1, h2, h3, h4, h5⟩ := h
  refine ⟨fun e => hD.2.2.1 _ _ (h1 e), fun e => jn_m hD (fun n b _ _ => hg n b) (h2 e), fun e e2 => ?_, fun e w hw e2 => tsS_m hD hg (h4 e w hw e2), fun e => ⟨efV_m hD hg (h5 e).1, fun z => fiS_m hD hM hg ((h5 e).2 (aL_m hM hg z))⟩⟩
  obtain ⟨k1, k2, k3, k4⟩ := h3 e e2
  exact ⟨hD.2.2.2.2 _ _ k1, hD.2.2.2.2 _ _ k2, jn_m hD (fun n b _ _ => hg n b) k3, jn_m hD (fun n b _ _ => hg n b) k4⟩
