/-! partial correctness, of one and of two -/
def Par {ρ : Type} (o : Option (ρ × St)) (Q : ρ → St → Prop) : Prop := ∀ r σ, o = some (r, σ) → Q r σ
section ParS
variable {ρ ρ1 : Type} {Q : ρ → St → Prop} {P : ρ1 → St → Prop} {F F1 F2 : Option (ρ × St)}
theorem par_some {r : ρ} {σ : St} (h : Q r σ) : Par (some (r, σ)) Q := fun r' σ' e => by cases e; exact h
theorem par_gd {b : Bool} (h : b = true → Par F Q) : Par (gd b F) Q := fun r σ e => by
  obtain ⟨hb, e2⟩ := gd_some e
  exact h hb r σ e2
theorem par_bd {o : Option (ρ1 × St)} {K : ρ1 → St → Option (ρ × St)} (h : Par o P) (k : ∀ r σ, P r σ → Par (K r σ) Q) : Par (bd o K) Q := fun r σ e => by
  obtain ⟨r1, σ1, e1, e2⟩ := bd_some e
  exact k r1 σ1 (h r1 σ1 e1) r σ e2
theorem par_if {c : Prop} [Decidable c] (h1 : c → Par F1 Q) (h2 : ¬ c → Par F2 Q) : Par (if c then F1 else F2) Q := by
  by_cases h : c
  · rw [if_pos h]; exact h1 h
  · rw [if_neg h]; exact h2 h
theorem Par.mono {Q2 : ρ → St → Prop} (h : Par F Q) (k : ∀ r σ, Q r σ → Q2 r σ) : Par F Q2 := fun r σ e => k r σ (h r σ e)
theorem Par.and {Q2 : ρ → St → Prop} (h : Par F Q) (k : Par F Q2) : Par F (fun r σ => Q r σ ∧ Q2 r σ) := fun r σ e => ⟨h r σ e, k r σ e⟩
theorem Tot.par (h : Tot F Q) : Par F Q := fun r σ e => by
  obtain ⟨r0, σ0, e0, q⟩ := h
  rw [e0] at e
  cases e
  exact q
end ParS
def R2 {ρ τ : Type} (oc : Option (ρ × St)) (om : Option (τ × St)) (Q : ρ → St → τ → St → Prop) : Prop := ∀ rc σc rm σm, oc = some (rc, σc) → om = some (rm, σm) → Q rc σc rm σm
section R2S
variable {ρ τ ρ1 τ1 : Type} {Q : ρ → St → τ → St → Prop} {oc oc1 oc2 : Option (ρ × St)} {om om1 om2 : Option (τ × St)}
theorem r2_some {rc : ρ} {σc : St} {rm : τ} {σm : St} (h : Q rc σc rm σm) : R2 (some (rc, σc)) (some (rm, σm)) Q := fun _ _ _ _ e1 e2 => by cases e1; cases e2; exact h
theorem r2_gdL {b : Bool} (h : b = true → R2 oc om Q) : R2 (gd b oc) om Q := fun rc σc rm σm e1 e2 => by
  obtain ⟨hb, e⟩ := gd_some e1
  exact h hb rc σc rm σm e e2
theorem r2_gdR {b : Bool} (h : b = true → R2 oc om Q) : R2 oc (gd b om) Q := fun rc σc rm σm e1 e2 => by
  obtain ⟨hb, e⟩ := gd_some e2
  exact h hb rc σc rm σm e1 e
theorem r2_ifL {c : Prop} [Decidable c] (h1 : c → R2 oc1 om Q) (h2 : ¬ c → R2 oc2 om Q) : R2 (if c then oc1 else oc2) om Q := by
  by_cases h : c
  · rw [if_pos h]; exact h1 h
  · rw [if_neg h]; exact h2 h
theorem r2_ifR {c : Prop} [Decidable c] (h1 : c → R2 oc om1 Q) (h2 : ¬ c → R2 oc om2 Q) : R2 oc (if c then om1 else om2) Q := by
  by_cases h : c
  · rw [if_pos h]; exact h1 h
  · rw [if_neg h]; exact h2 h
theorem r2_bdL {o : Option (ρ1 × St)} {P : ρ1 → St → Prop} {K : ρ1 → St → Option (ρ × St)} (h : Par o P) (k : ∀ r σ, P r σ → R2 (K r σ) om Q) : R2 (bd o K) om Q := fun rc σc rm σm e1 e2 => by
  obtain ⟨r1, σ1, e3, e4⟩ := bd_some e1
  exact k r1 σ1 (h r1 σ1 e3) rc σc rm σm e4 e2
theorem r2_bdR {o : Option (τ1 × St)} {P : τ1 → St → Prop} {K : τ1 → St → Option (τ × St)} (h : Par o P) (k : ∀ r σ, P r σ → R2 oc (K r σ) Q) : R2 oc (bd o K) Q := fun rc σc rm σm e1 e2 => by
  obtain ⟨r1, σ1, e3, e4⟩ := bd_some e2
  exact k r1 σ1 (h r1 σ1 e3) rc σc rm σm e1 e4
theorem r2_bd {o1 : Option (ρ1 × St)} {o2 : Option (τ1 × St)} {P : ρ1 → St → τ1 → St → Prop} {K : ρ1 → St → Option (ρ × St)} {L : τ1 → St → Option (τ × St)} (h : R2 o1 o2 P) (k : ∀ r σ r' σ', P r σ r' σ' → R2 (K r σ) (L r' σ') Q) : R2 (bd o1 K) (bd o2 L) Q := fun rc σc rm σm e1 e2 => by
  obtain ⟨r1, σ1, e3, e4⟩ := bd_some e1
  obtain ⟨r2, σ2, e5, e6⟩ := bd_some e2
  exact k r1 σ1 r2 σ2 (h r1 σ1 r2 σ2 e3 e5) rc σc rm σm e4 e6
theorem R2.mono {Q2 : ρ → St → τ → St → Prop} (h : R2 oc om Q) (k : ∀ rc σc rm σm, Q rc σc rm σm → Q2 rc σc rm σm) : R2 oc om Q2 := fun rc σc rm σm e1 e2 => k _ _ _ _ (h rc σc rm σm e1 e2)
theorem r2_par {P1 : ρ → St → Prop} {P2 : τ → St → Prop} (h1 : Par oc P1) (h2 : Par om P2) (k : ∀ rc σc rm σm, P1 rc σc → P2 rm σm → Q rc σc rm σm) : R2 oc om Q := fun rc σc rm σm e1 e2 => k _ _ _ _ (h1 rc σc e1) (h2 rm σm e2)
end R2S
/-! the tokens of a tape -/
abbrev blkF (c : Int32) : Prop := c = 10 ∨ c = 32
def skp (t : Nat → Int32) (n : Nat) : Nat → Nat → Nat
  | 0, p => p
  | f + 1, p => if p < n ∧ blkF (t p) then skp t n f (p + 1) else p
def tQ (t : Nat → Int32) (n p : Nat) : Nat := skp t n (n - p) p
theorem tQ_b {t : Nat → Int32} {n p : Nat} (h : p < n) (hb : blkF (t p)) : tQ t n p = tQ t n (p + 1) := by
  unfold tQ
  obtain ⟨f, hf⟩ : ∃ f, n - p = f + 1 := ⟨n - p - 1, by omega⟩
  rw [hf, show n - (p + 1) = f by omega]
  show (if p < n ∧ blkF (t p) then skp t n f (p + 1) else p) = _
  rw [if_pos ⟨h, hb⟩]
theorem tQ_s {t : Nat → Int32} {n p : Nat} (h : ¬ (p < n ∧ blkF (t p))) : tQ t n p = p := by
  unfold tQ
  cases n - p with
  | zero => rfl
  | succ f =>
    show (if p < n ∧ blkF (t p) then skp t n f (p + 1) else p) = _
    rw [if_neg h]
theorem skp_le {t : Nat → Int32} {n : Nat} : ∀ f p : Nat, p ≤ n → p ≤ skp t n f p ∧ skp t n f p ≤ n := by
  intro f
  induction f with
  | zero => intro p h; exact ⟨Nat.le_refl _, h⟩
  | succ f ih =>
    intro p h
    show p ≤ (if p < n ∧ blkF (t p) then skp t n f (p + 1) else p) ∧ (if p < n ∧ blkF (t p) then skp t n f (p + 1) else p) ≤ n
    by_cases c : p < n ∧ blkF (t p)
    · rw [if_pos c]
      have := ih (p + 1) c.1
      omega
    · rw [if_neg c]
      omega
theorem tQ_le {t : Nat → Int32} {n p : Nat} (h : p ≤ n) : p ≤ tQ t n p ∧ tQ t n p ≤ n := skp_le _ _ h
def wen (t : Nat → Int32) (n : Nat) : Nat → Nat → Nat
  | 0, p => p
  | f + 1, p => if p < n ∧ ¬ smF (t p) = 0 then wen t n f (p + 1) else p
def tW (t : Nat → Int32) (n p : Nat) : Nat := wen t n (n - p) p
theorem tW_b {t : Nat → Int32} {n p : Nat} (h : p < n) (hb : ¬ smF (t p) = 0) : tW t n p = tW t n (p + 1) := by
  unfold tW
  obtain ⟨f, hf⟩ : ∃ f, n - p = f + 1 := ⟨n - p - 1, by omega⟩
  rw [hf, show n - (p + 1) = f by omega]
  show (if p < n ∧ ¬ smF (t p) = 0 then wen t n f (p + 1) else p) = _
  rw [if_pos ⟨h, hb⟩]
theorem tW_s {t : Nat → Int32} {n p : Nat} (h : ¬ (p < n ∧ ¬ smF (t p) = 0)) : tW t n p = p := by
  unfold tW
  cases n - p with
  | zero => rfl
  | succ f =>
    show (if p < n ∧ ¬ smF (t p) = 0 then wen t n f (p + 1) else p) = _
    rw [if_neg h]
theorem wen_le {t : Nat → Int32} {n : Nat} : ∀ f p : Nat, p ≤ n → p ≤ wen t n f p ∧ wen t n f p ≤ n ∧ ∀ j, p ≤ j → j < wen t n f p → ¬ smF (t j) = 0 := by
  intro f
  induction f with
  | zero => intro p h; exact ⟨Nat.le_refl _, h, fun j h1 h2 => absurd (show j < p from h2) (by omega)⟩
  | succ f ih =>
    intro p h
    show p ≤ (if p < n ∧ ¬ smF (t p) = 0 then wen t n f (p + 1) else p) ∧ (if p < n ∧ ¬ smF (t p) = 0 then wen t n f (p + 1) else p) ≤ n ∧ ∀ j, p ≤ j → j < (if p < n ∧ ¬ smF (t p) = 0 then wen t n f (p + 1) else p) → ¬ smF (t j) = 0
    by_cases c : p < n ∧ ¬ smF (t p) = 0
    · rw [if_pos c]
      obtain ⟨h1, h2, h3⟩ := ih (p + 1) c.1
      refine ⟨by omega, h2, fun j hj hj2 => ?_⟩
      rcases (show j = p ∨ p + 1 ≤ j by omega) with e | e
      · rw [e]; exact c.2
      · exact h3 j e hj2
    · rw [if_neg c]
      exact ⟨by omega, h, fun j h1 h2 => absurd h2 (by omega)⟩
theorem tW_le {t : Nat → Int32} {n p : Nat} (h : p ≤ n) : p ≤ tW t n p ∧ tW t n p ≤ n ∧ ∀ j, p ≤ j → j < tW t n p → ¬ smF (t j) = 0 := wen_le _ _ h
def mtb (t : Nat → Int32) (q w : Nat) : Bool := (List.range (lenS.getD w 0)).all (fun j => t (q + j) == chS w j)
theorem mtb_iff {t : Nat → Int32} {q w : Nat} : mtb t q w = true ↔ ∀ j, j < lenS.getD w 0 → t (q + j) = chS w j := by
  unfold mtb
  rw [List.all_eq_true]
  constructor
  · intro h j hj
    have := h j (List.mem_range.mpr hj)
    exact beq_iff_eq.mp this
  · intro h j hj
    exact beq_iff_eq.mpr (h j (List.mem_range.mp hj))
def wdK (t : Nat → Int32) (q L : Nat) : Int32 := if L = 1 then 2 else if L = 2 then (if mtb t q 0 then 12 else if mtb t q 1 then 15 else 1) else if L = 3 then (if mtb t q 2 then 19 else if mtb t q 3 then 18 else if mtb t q 4 then 16 else 1) else if L = 4 then (if mtb t q 5 then 13 else 1) else if L = 5 then (if mtb t q 6 then 14 else 1) else if L = 6 then (if mtb t q 7 then 20 else 1) else if L = 7 then (if mtb t q 8 then 17 else 1) else 1
def skF (c : Int32) : Int32 := if c = 40 then 4 else if c = 41 then 5 else if c = 44 then 8 else if c = 46 then 11 else if c = 59 then 9 else if c = 61 then 10 else if c = 123 then 6 else if c = 125 then 7 else 1
def eE (t : Nat → Int32) (n q : Nat) : Nat := if q < n then (if smF (t q) = 0 then q + 1 else tW t n (q + 1)) else q
def eK (t : Nat → Int32) (n q : Nat) : Int32 := if q < n then (if smF (t q) = 0 then (if t q < 65 then skF (t q) else if 72 < t q then skF (t q) else 3) else wdK t q (eE t n q - q)) else 0
def eL (t : Nat → Int32) (n q : Nat) : Int32 := if q < n then (if smF (t q) = 0 then (if t q < 65 then 0 else if 72 < t q then 0 else t q - 65) else t q - 97) else 0
theorem eE_le {t : Nat → Int32} {n q : Nat} (h : q ≤ n) : q ≤ eE t n q ∧ eE t n q ≤ n ∧ (q < n → q < eE t n q) := by
  unfold eE
  by_cases c : q < n
  · rw [if_pos c]
    by_cases c2 : smF (t q) = 0
    · rw [if_pos c2]; omega
    · rw [if_neg c2]
      have := tW_le (t := t) (show q + 1 ≤ n from c)
      omega
  · rw [if_neg c]; omega
/-- a token: what the reference has of it against what it is -/
def SV (s v K L : Int32) : Prop := (K = 0 ∧ s = 4) ∨ (K = 1 ∧ s = 5) ∨ (K = 2 ∧ s = 0 ∧ v = L) ∨ (K = 3 ∧ s = 1 ∧ v = L) ∨ (s = 3 ∧ ((K = 4 ∧ v = 40) ∨ (K = 5 ∧ v = 41) ∨ (K = 6 ∧ v = 123) ∨ (K = 7 ∧ v = 125) ∨ (K = 8 ∧ v = 44) ∨ (K = 9 ∧ v = 59) ∨ (K = 10 ∧ v = 61) ∨ (K = 11 ∧ v = 46))) ∨ (s = 2 ∧ ((K = 12 ∧ v = 0) ∨ (K = 13 ∧ v = 1) ∨ (K = 14 ∧ v = 2) ∨ (K = 15 ∧ v = 3) ∨ (K = 16 ∧ v = 4) ∨ (K = 17 ∧ v = 5) ∨ (K = 18 ∧ v = 6) ∨ (K = 19 ∧ v = 7) ∨ (K = 20 ∧ v = 8)))
/-! the reference: words -/
def Mt (t : Nat → Int32) (q e s L : Nat) : Prop := e = q + L ∧ ∀ j, j < L → t (q + j) = chS 9 (s + j)
/-- a word of the constant: where it begins, how long it is -/
def WdA (s L : Nat) : Prop := s + L < 44 ∧ chS 9 (s + L) = 32 ∧ ∀ j, j < L → ¬ chS 9 (s + j) = 32
theorem wo97 {N : Nat} {rec4 : St → Int32 → Int32 → Option (Int32 × St)} {s L : Nat} (hW : WdA s L) : ∀ (n i : Nat) (σ : St) (x1 : Int32) (r : Int32) (σ' : St), i ≤ L → m_wordOf_97 N rec4 n σ x1 (nI (s + i)) = some (r, σ') → rec4 σ (x1 + 1) (nI (s + L + 1)) = some (r, σ') := by
  obtain ⟨hL, hs, hc⟩ := hW
  intro n
  induction n with
  | zero => intro i σ x1 r σ' _ h; cases h
  | succ n ih =>
    intro i σ x1 r σ' hi h
    have h : m_wordOf_97_b N rec4 (m_wordOf_97 N rec4 n) σ x1 (nI (s + i)) = some (r, σ') := h
    unfold m_wordOf_97_b m_wordOf_114 at h
    obtain ⟨-, h⟩ := gd_some h
    rw [nI_clamp (by omega), nI_1] at h
    by_cases e : i = L
    · subst e
      rw [if_pos hs] at h
      exact h
    · rw [if_neg (hc i (by omega))] at h
      exact ih (i + 1) σ x1 r σ' (by omega) h
theorem wo15 {N : Nat} {rec4 : St → Int32 → Int32 → Option (Int32 × St)} {s L q e : Nat} (hW : WdA s L) {σ : St} {x1 r : Int32} {σ' : St} (h5 : gI σ 5 = nI q) (h4 : gI σ 4 = nI e) (he : e ≤ 1200) (hq : q ≤ e) : ∀ (n i : Nat), i ≤ L → (∀ j, j < i → q + j < e ∧ gA σ 1 (q + j) = chS 9 (s + j)) → m_wordOf_15 N rec4 n σ x1 (nI s) (nI i) = some (r, σ') → (Mt (gA σ 1) q e s L ∧ r = x1 ∧ σ' = σ) ∨ (¬ Mt (gA σ 1) q e s L ∧ rec4 σ (x1 + 1) (nI (s + L + 1)) = some (r, σ')) := by
  have hW2 := hW
  obtain ⟨hL, hs, hc⟩ := hW
  have k69 : ∀ i, i ≤ L → (Mt (gA σ 1) q e s L → i = L) → (∀ j, j < i → q + j < e ∧ gA σ 1 (q + j) = chS 9 (s + j)) → m_wordOf_69 N rec4 σ x1 (nI s) (nI i) = some (r, σ') → (Mt (gA σ 1) q e s L ∧ r = x1 ∧ σ' = σ) ∨ (¬ Mt (gA σ 1) q e s L ∧ rec4 σ (x1 + 1) (nI (s + L + 1)) = some (r, σ')) := by
    intro i hi hm hj h
    unfold m_wordOf_69 at h
    obtain ⟨-, h⟩ := gd_some h
    rw [nI_add, nI_clamp (by omega), h5, h4, nI_add] at h
    by_cases c : i = L
    · subst c
      rw [if_pos hs] at h
      by_cases c2 : q + i = e
      · rw [if_pos (by rw [c2])] at h
        cases h
        exact Or.inl ⟨⟨c2.symm, fun j hj2 => (hj j hj2).2⟩, rfl, rfl⟩
      · rw [if_neg (fun z => c2 ((nI_eq (by omega) (by omega)).mp z))] at h
        exact Or.inr ⟨fun z => c2 z.1.symm, wo97 hW2 N 0 σ x1 r σ' (by omega) h⟩
    · rw [if_neg (hc i (by omega))] at h
      exact Or.inr ⟨fun z => c (hm z), wo97 hW2 N 0 σ x1 r σ' (by omega) h⟩
  intro n
  induction n with
  | zero => intro i _ _ h; cases h
  | succ n ih =>
    intro i hi hj h
    have h : m_wordOf_15_b N rec4 (m_wordOf_15 N rec4 n) σ x1 (nI s) (nI i) = some (r, σ') := h
    unfold m_wordOf_15_b at h
    obtain ⟨-, h⟩ := gd_some h
    by_cases c : i = L
    · rw [nI_add, nI_clamp (by omega), if_pos (by rw [c]; exact hs)] at h
      exact k69 i hi (fun _ => c) hj h
    · rw [nI_add, nI_clamp (by omega), if_neg (hc i (by omega)), h5, h4, nI_add] at h
      by_cases c2 : e ≤ q + i
      · rw [if_pos (nI_le c2 (by omega))] at h
        refine k69 i hi (fun z => ?_) hj h
        have := z.1
        omega
      · rw [if_neg (nI_ge (by omega) (by omega)), nI_clamp (by omega)] at h
        obtain ⟨-, h⟩ := gd_some h
        obtain ⟨-, h⟩ := gd_some h
        by_cases c3 : gA σ 1 (q + i) = chS 9 (s + i)
        · rw [if_pos c3, nI_1] at h
          refine ih (i + 1) (by omega) (fun j hj2 => ?_) h
          rcases (show j = i ∨ j < i by omega) with z | z
          · rw [z]; exact ⟨by omega, c3⟩
          · exact hj j z
        · rw [if_neg c3] at h
          exact k69 i hi (fun z => absurd (z.2 i (by omega)) c3) hj h
theorem wo4 {N n : Nat} {s L q e : Nat} (hW : WdA s L) {σ : St} {x1 r : Int32} {σ' : St} (h5 : gI σ 5 = nI q) (h4 : gI σ 4 = nI e) (he : e ≤ 1200) (hq : q ≤ e) (h : m_wordOf_4 N n σ x1 (nI s) = some (r, σ')) : (Mt (gA σ 1) q e s L ∧ r = x1 ∧ σ' = σ) ∨ (¬ Mt (gA σ 1) q e s L ∧ ∃ n', m_wordOf_4 N n' σ (x1 + 1) (nI (s + L + 1)) = some (r, σ')) := by
  cases n with
  | zero => cases h
  | succ n =>
    have h : m_wordOf_4_b N (m_wordOf_4 N n) σ x1 (nI s) = some (r, σ') := h
    unfold m_wordOf_4_b at h
    have hL := hW.1
    rw [if_neg (show ¬ (44 : Int32) ≤ nI s from nI_ge (b := 44) (by omega) (by decide))] at h
    rcases wo15 hW h5 h4 he hq N 0 (by omega) (fun j hj => absurd hj (Nat.not_lt_zero j)) h with z | z
    · exact Or.inl z
    · exact Or.inr ⟨z.1, n, z.2⟩
theorem wd0 : WdA 0 2 := by unfold WdA; decide +kernel
theorem wd1 : WdA 3 4 := by unfold WdA; decide +kernel
theorem wd2 : WdA 8 5 := by unfold WdA; decide +kernel
theorem wd3 : WdA 14 2 := by unfold WdA; decide +kernel
theorem wd4 : WdA 17 3 := by unfold WdA; decide +kernel
theorem wd5 : WdA 21 7 := by unfold WdA; decide +kernel
theorem wd6 : WdA 29 3 := by unfold WdA; decide +kernel
theorem wd7 : WdA 33 3 := by unfold WdA; decide +kernel
theorem wd8 : WdA 37 6 := by unfold WdA; decide +kernel
def WoR (t : Nat → Int32) (q e : Nat) (r : Int32) : Prop := (Mt t q e 0 2 ∧ r = 0) ∨ (Mt t q e 3 4 ∧ r = 1) ∨ (Mt t q e 8 5 ∧ r = 2) ∨ (Mt t q e 14 2 ∧ r = 3) ∨ (Mt t q e 17 3 ∧ r = 4) ∨ (Mt t q e 21 7 ∧ r = 5) ∨ (Mt t q e 29 3 ∧ r = 6) ∨ (Mt t q e 33 3 ∧ r = 7) ∨ (Mt t q e 37 6 ∧ r = 8) ∨ ((¬ Mt t q e 0 2 ∧ ¬ Mt t q e 3 4 ∧ ¬ Mt t q e 8 5 ∧ ¬ Mt t q e 14 2 ∧ ¬ Mt t q e 17 3 ∧ ¬ Mt t q e 21 7 ∧ ¬ Mt t q e 29 3 ∧ ¬ Mt t q e 33 3 ∧ ¬ Mt t q e 37 6) ∧ r = -1)
theorem n_wordOf {N : Nat} {q e : Nat} {σ : St} (h5 : gI σ 5 = nI q) (h4 : gI σ 4 = nI e) (he : e ≤ 1200) (hq : q ≤ e) : Par (m_wordOf N σ) (fun r σ' => σ' = σ ∧ WoR (gA σ 1) q e r) := by
  intro r σ' h
  unfold m_wordOf at h
  have h : m_wordOf_4 N N σ 0 (nI 0) = some (r, σ') := h
  unfold WoR
  rcases wo4 wd0 h5 h4 he hq h with ⟨a, b, c⟩ | ⟨k0, n0, h⟩
  · exact ⟨c, Or.inl ⟨a, b⟩⟩
  rcases wo4 wd1 h5 h4 he hq h with ⟨a, b, c⟩ | ⟨k1, n1, h⟩
  · exact ⟨c, Or.inr (Or.inl ⟨a, b.trans (by decide)⟩)⟩
  rcases wo4 wd2 h5 h4 he hq h with ⟨a, b, c⟩ | ⟨k2, n2, h⟩
  · exact ⟨c, Or.inr (Or.inr (Or.inl ⟨a, b.trans (by decide)⟩))⟩
  rcases wo4 wd3 h5 h4 he hq h with ⟨a, b, c⟩ | ⟨k3, n3, h⟩
  · exact ⟨c, Or.inr (Or.inr (Or.inr (Or.inl ⟨a, b.trans (by decide)⟩)))⟩
  rcases wo4 wd4 h5 h4 he hq h with ⟨a, b, c⟩ | ⟨k4, n4, h⟩
  · exact ⟨c, Or.inr (Or.inr (Or.inr (Or.inr (Or.inl ⟨a, b.trans (by decide)⟩))))⟩
  rcases wo4 wd5 h5 h4 he hq h with ⟨a, b, c⟩ | ⟨k5, n5, h⟩
  · exact ⟨c, Or.inr (Or.inr (Or.inr (Or.inr (Or.inr (Or.inl ⟨a, b.trans (by decide)⟩)))))⟩
  rcases wo4 wd6 h5 h4 he hq h with ⟨a, b, c⟩ | ⟨k6, n6, h⟩
  · exact ⟨c, Or.inr (Or.inr (Or.inr (Or.inr (Or.inr (Or.inr (Or.inl ⟨a, b.trans (by decide)⟩))))))⟩
  rcases wo4 wd7 h5 h4 he hq h with ⟨a, b, c⟩ | ⟨k7, n7, h⟩
  · exact ⟨c, Or.inr (Or.inr (Or.inr (Or.inr (Or.inr (Or.inr (Or.inr (Or.inl ⟨a, b.trans (by decide)⟩)))))))⟩
  rcases wo4 wd8 h5 h4 he hq h with ⟨a, b, c⟩ | ⟨k8, n8, h⟩
  · exact ⟨c, Or.inr (Or.inr (Or.inr (Or.inr (Or.inr (Or.inr (Or.inr (Or.inr (Or.inl ⟨a, b.trans (by decide)⟩))))))))⟩
  have hf : r = -1 ∧ σ' = σ := by
    cases n8 with
    | zero => cases h
    | succ n =>
      have h : m_wordOf_4_b N (m_wordOf_4 N n) σ _ (nI 44) = some (r, σ') := h
      unfold m_wordOf_4_b at h
      rw [if_pos (by decide)] at h
      cases h
      exact ⟨rfl, rfl⟩
  exact ⟨hf.2, Or.inr (Or.inr (Or.inr (Or.inr (Or.inr (Or.inr (Or.inr (Or.inr (Or.inr ⟨⟨k0, k1, k2, k3, k4, k5, k6, k7, k8⟩, hf.1⟩))))))))⟩
theorem mt_iff {t : Nat → Int32} {q e s w L : Nat} (hl : lenS.getD w 0 = L) (h : ∀ j, j < L → chS 9 (s + j) = chS w j) : Mt t q e s L ↔ e = q + L ∧ mtb t q w = true := by
  unfold Mt
  rw [mtb_iff, hl]
  constructor
  · intro ⟨a, b⟩
    exact ⟨a, fun j hj => (b j hj).trans (h j hj)⟩
  · intro ⟨a, b⟩
    exact ⟨a, fun j hj => (b j hj).trans (h j hj).symm⟩
theorem mt_ex {t : Nat → Int32} {q w v j : Nat} (h1 : mtb t q w = true) (hj : j < lenS.getD w 0 ∧ j < lenS.getD v 0 ∧ ¬ chS w j = chS v j) : mtb t q v = false := by
  cases h : mtb t q v with
  | false => rfl
  | true => exact absurd (((mtb_iff.mp h1 j hj.1).symm).trans (mtb_iff.mp h j hj.2.1)) hj.2.2
theorem wo_sv {t : Nat → Int32} {q e : Nat} {r : Int32} (hq : q + 2 ≤ e) (h : WoR t q e r) (L : Int32) : (r = -1 ∧ wdK t q (e - q) = 1) ∨ (¬ r = -1 ∧ SV 2 r (wdK t q (e - q)) L) := by
  unfold WoR at h
  rw [mt_iff (w := 0) (L := 2) rfl (by decide +kernel), mt_iff (w := 5) (L := 4) rfl (by decide +kernel), mt_iff (w := 6) (L := 5) rfl (by decide +kernel), mt_iff (s := 14) (w := 1) (L := 2) rfl (by decide +kernel), mt_iff (s := 17) (w := 4) (L := 3) rfl (by decide +kernel), mt_iff (s := 21) (w := 8) (L := 7) rfl (by decide +kernel), mt_iff (s := 29) (w := 3) (L := 3) rfl (by decide +kernel), mt_iff (s := 33) (w := 2) (L := 3) rfl (by decide +kernel), mt_iff (s := 37) (w := 7) (L := 6) rfl (by decide +kernel)] at h
  unfold SV
  rcases h with ⟨⟨a, b⟩, rfl⟩ | ⟨⟨a, b⟩, rfl⟩ | ⟨⟨a, b⟩, rfl⟩ | ⟨⟨a, b⟩, rfl⟩ | ⟨⟨a, b⟩, rfl⟩ | ⟨⟨a, b⟩, rfl⟩ | ⟨⟨a, b⟩, rfl⟩ | ⟨⟨a, b⟩, rfl⟩ | ⟨⟨a, b⟩, rfl⟩ | ⟨h, rfl⟩
  · right
    have e1 : wdK t q (e - q) = 12 := by rw [show e - q = 2 by omega]; simp [wdK, b]
    exact ⟨by decide, by simp [e1]⟩
  · right
    have e1 : wdK t q (e - q) = 13 := by rw [show e - q = 4 by omega]; simp [wdK, b]
    exact ⟨by decide, by simp [e1]⟩
  · right
    have e1 : wdK t q (e - q) = 14 := by rw [show e - q = 5 by omega]; simp [wdK, b]
    exact ⟨by decide, by simp [e1]⟩
  · right
    have b2 : mtb t q 0 = false := mt_ex (j := 1) b (by decide +kernel)
    have e1 : wdK t q (e - q) = 15 := by rw [show e - q = 2 by omega]; simp [wdK, b, b2]
    exact ⟨by decide, by simp [e1]⟩
  · right
    have b2 : mtb t q 2 = false := mt_ex (j := 0) b (by decide +kernel)
    have b3 : mtb t q 3 = false := mt_ex (j := 1) b (by decide +kernel)
    have e1 : wdK t q (e - q) = 16 := by rw [show e - q = 3 by omega]; simp [wdK, b, b2, b3]
    exact ⟨by decide, by simp [e1]⟩
  · right
    have e1 : wdK t q (e - q) = 17 := by rw [show e - q = 7 by omega]; simp [wdK, b]
    exact ⟨by decide, by simp [e1]⟩
  · right
    have b2 : mtb t q 2 = false := mt_ex (j := 0) b (by decide +kernel)
    have e1 : wdK t q (e - q) = 18 := by rw [show e - q = 3 by omega]; simp [wdK, b, b2]
    exact ⟨by decide, by simp [e1]⟩
  · right
    have e1 : wdK t q (e - q) = 19 := by rw [show e - q = 3 by omega]; simp [wdK, b]
    exact ⟨by decide, by simp [e1]⟩
  · right
    have e1 : wdK t q (e - q) = 20 := by rw [show e - q = 6 by omega]; simp [wdK, b]
    exact ⟨by decide, by simp [e1]⟩
  · left
    refine ⟨rfl, ?_⟩
    obtain ⟨k0, k1, k2, k3, k4, k5, k6, k7, k8⟩ := h
    unfold wdK
    rw [if_neg (show ¬ e - q = 1 by omega)]
    by_cases c2 : e - q = 2
    · have a0 : ¬ mtb t q 0 = true := fun z => k0 ⟨by omega, z⟩
      have a1 : ¬ mtb t q 1 = true := fun z => k3 ⟨by omega, z⟩
      rw [if_pos c2, if_neg a0, if_neg a1]
    rw [if_neg c2]
    by_cases c3 : e - q = 3
    · have a0 : ¬ mtb t q 2 = true := fun z => k7 ⟨by omega, z⟩
      have a1 : ¬ mtb t q 3 = true := fun z => k6 ⟨by omega, z⟩
      have a2 : ¬ mtb t q 4 = true := fun z => k4 ⟨by omega, z⟩
      rw [if_pos c3, if_neg a0, if_neg a1, if_neg a2]
    rw [if_neg c3]
    by_cases c4 : e - q = 4
    · have a0 : ¬ mtb t q 5 = true := fun z => k1 ⟨by omega, z⟩
      rw [if_pos c4, if_neg a0]
    rw [if_neg c4]
    by_cases c5 : e - q = 5
    · have a0 : ¬ mtb t q 6 = true := fun z => k2 ⟨by omega, z⟩
      rw [if_pos c5, if_neg a0]
    rw [if_neg c5]
    by_cases c6 : e - q = 6
    · have a0 : ¬ mtb t q 7 = true := fun z => k8 ⟨by omega, z⟩
      rw [if_pos c6, if_neg a0]
    rw [if_neg c6]
    by_cases c7 : e - q = 7
    · have a0 : ¬ mtb t q 8 = true := fun z => k5 ⟨by omega, z⟩
      rw [if_pos c7, if_neg a0]
    rw [if_neg c7]
/-! the reference: next() -/
theorem n_here {N : Nat} {σ : St} {n p : Nat} (hn : gI σ 3 = nI n) (hp : gI σ 4 = nI p) (h2 : n ≤ 1200) (h : p ≤ n) : m_here N σ = some (if p < n then gA σ 1 p else -1, σ) := by
  unfold m_here
  rw [hn, hp]
  by_cases c : p < n
  · rw [if_neg (nI_ge c (by omega)), if_pos c, ibk (show p < 1200 by omega) (by decide), nI_clamp (by omega)]
    rfl
  · rw [if_pos (nI_le (by omega) (by omega)), if_neg c]
/-- the tape's bytes -/
def TB (t : Nat → Int32) : Prop := ∀ j, j < 1200 → 0 ≤ (t j).toInt ∧ (t j).toInt ≤ 255
theorem n_next_87 {N : Nat} {σ : St} {n q : Nat} (h5 : gI σ 5 = nI q) (h4 : gI σ 4 = nI (eE (gA σ 1) n q)) (h2 : n ≤ 1200) (hq : q < n) (hs : ¬ smF (gA σ 1 q) = 0) : Par (m_next_87 N σ (gA σ 1 q)) (fun _ σ' => gI σ' 4 = gI σ 4 ∧ gI σ' 5 = gI σ 5 ∧ SV (gI σ' 6) (gI σ' 7) (eK (gA σ 1) n q) (eL (gA σ 1) n q)) := by
  have hE := eE_le (t := gA σ 1) (n := n) (q := q) (by omega)
  have hlt := hE.2.2 hq
  have eK1 : eK (gA σ 1) n q = wdK (gA σ 1) q (eE (gA σ 1) n q - q) := by unfold eK; rw [if_pos hq, if_neg hs]
  have eL1 : eL (gA σ 1) n q = gA σ 1 q - 97 := by unfold eL; rw [if_pos hq, if_neg hs]
  rw [eK1, eL1]
  generalize eE (gA σ 1) n q = e at *
  unfold m_next_87 m_next_112 m_next_146
  by_cases c : gI σ 4 = gI σ 5 + 1
  · rw [if_pos c, if_pos c]
    have e1 : e = q + 1 := by
      rw [h4, h5, nI_1] at c
      exact (nI_eq (by omega) (by omega)).mp c
    refine par_some ⟨rfl, rfl, ?_⟩
    rw [e1, Nat.add_sub_cancel_left]
    exact Or.inr (Or.inr (Or.inl ⟨rfl, rfl, rfl⟩))
  · rw [if_neg c]
    have e1 : q + 2 ≤ e := by
      rcases (show e = q + 1 ∨ q + 2 ≤ e by omega) with z | z
      · exact absurd (by rw [h4, h5, nI_1, z]) c
      · exact z
    refine par_bd (n_wordOf h5 h4 (by omega) (by omega)) (fun r σ1 hr => ?_)
    obtain ⟨rfl, hr⟩ := hr
    rw [if_neg c]
    rcases wo_sv e1 hr (gA σ1 1 q - 97) with ⟨z1, z2⟩ | ⟨z1, z2⟩
    · rw [if_pos z1]
      exact par_some ⟨rfl, rfl, Or.inr (Or.inl ⟨z2, rfl⟩)⟩
    · rw [if_neg z1]
      exact par_some ⟨rfl, rfl, z2⟩
theorem n_next_64 {N : Nat} {n q : Nat} (h2 : n ≤ 1200) (hq : q < n) : ∀ (f : Nat) (σ : St) (p : Nat), gI σ 3 = nI n → gI σ 5 = nI q → gI σ 4 = nI p → q ≤ p → p ≤ n → ¬ smF (gA σ 1 q) = 0 → tW (gA σ 1) n p = tW (gA σ 1) n (q + 1) → Par (m_next_64 N f σ (gA σ 1 q)) (fun _ σ' => gI σ' 4 = nI (eE (gA σ 1) n q) ∧ gI σ' 5 = nI q ∧ SV (gI σ' 6) (gI σ' 7) (eK (gA σ 1) n q) (eL (gA σ 1) n q)) := by
  intro f
  induction f with
  | zero => intro σ p _ _ _ _ _ _ _ r σ' h; cases h
  | succ f ih =>
    intro σ p h3 h5 h4 hqp hpn hs hW
    show Par (m_next_64_b N (m_next_64 N f) σ (gA σ 1 q)) _
    unfold m_next_64_b
    rw [n_here h3 h4 h2 hpn, bd_s, e_isSmall, bd_s]
    have eE1 : eE (gA σ 1) n q = tW (gA σ 1) n (q + 1) := by unfold eE; rw [if_pos hq, if_neg hs]
    by_cases c : p < n ∧ ¬ smF (gA σ 1 p) = 0
    · rw [if_pos c.1, if_neg c.2, h4, nI_1]
      refine ih (sI σ 4 (nI (p + 1))) (p + 1) h3 h5 gI_eq (by omega) (by omega) hs ?_
      show tW (gA σ 1) n (p + 1) = tW (gA σ 1) n (q + 1)
      rw [← hW, tW_b c.1 c.2]
    · have hz : smF (if p < n then gA σ 1 p else -1) = 0 := by
        by_cases c2 : p < n
        · rw [if_pos c2]
          exact Classical.not_not.mp (fun z => c ⟨c2, z⟩)
        · rw [if_neg c2]; decide
      rw [if_pos hz]
      have ep : p = eE (gA σ 1) n q := by rw [eE1, ← hW, tW_s c]
      rw [← h5]
      rw [ep] at h4
      exact (n_next_87 h5 h4 h2 hq hs).mono (fun _ σ' z => ⟨z.1.trans h4, z.2.1, z.2.2⟩)
theorem sk_sv {c t0 L : Int32} {K : Int32} (hK : K = skF c) : (K = 1 ∧ ¬ c = 123 ∧ ¬ c = 125 ∧ ¬ c = 40 ∧ ¬ c = 41 ∧ ¬ c = 44 ∧ ¬ c = 59 ∧ ¬ c = 61 ∧ ¬ c = 46) ∨ ((c = 123 ∨ c = 125 ∨ c = 40 ∨ c = 41 ∨ c = 44 ∨ c = 59 ∨ c = 61 ∨ c = 46) ∧ SV 3 c K L) := by
  subst hK
  by_cases c1 : c = 123
  · subst c1; right; exact ⟨by decide, by simp [SV, skF]⟩
  by_cases c2 : c = 125
  · subst c2; right; exact ⟨by decide, by simp [SV, skF]⟩
  by_cases c3 : c = 40
  · subst c3; right; exact ⟨by decide, by simp [SV, skF]⟩
  by_cases c4 : c = 41
  · subst c4; right; exact ⟨by decide, by simp [SV, skF]⟩
  by_cases c5 : c = 44
  · subst c5; right; exact ⟨by decide, by simp [SV, skF]⟩
  by_cases c6 : c = 59
  · subst c6; right; exact ⟨by decide, by simp [SV, skF]⟩
  by_cases c7 : c = 61
  · subst c7; right; exact ⟨by decide, by simp [SV, skF]⟩
  by_cases c8 : c = 46
  · subst c8; right; exact ⟨by decide, by simp [SV, skF]⟩
  left
  refine ⟨?_, c1, c2, c3, c4, c5, c6, c7, c8⟩
  unfold skF
  rw [if_neg c3, if_neg c4, if_neg c5, if_neg c8, if_neg c6, if_neg c7, if_neg c1, if_neg c2]
theorem n_next_183 {N : Nat} {σ : St} {c t1 L : Int32} : Par (m_next_183 N σ c t1) (fun _ σ' => gI σ' 4 = gI σ 4 ∧ gI σ' 5 = gI σ 5 ∧ ((c < 65 ∨ 72 < c) → t1 = c → SV (gI σ' 6) (gI σ' 7) (skF c) L) ∧ (¬ c < 65 → ¬ 72 < c → gI σ' 6 = 1 ∧ gI σ' 7 = t1)) := by
  have h257 : ∀ x2 : Int32, (¬ x2 = 0 → SV 3 c (skF c) L) → (x2 = 0 → skF c = 1) → (c < 65 ∨ 72 < c) → Par (m_next_257 N (sI σ 7 t1) x2) (fun _ σ' => gI σ' 4 = gI σ 4 ∧ gI σ' 5 = gI σ 5 ∧ ((c < 65 ∨ 72 < c) → t1 = c → SV (gI σ' 6) (gI σ' 7) (skF c) L) ∧ (¬ c < 65 → ¬ 72 < c → gI σ' 6 = 1 ∧ gI σ' 7 = t1)) := by
    intro x2 ha hb hc
    unfold m_next_257
    refine par_if (fun z => par_some ⟨rfl, rfl, fun _ _ => Or.inr (Or.inl ⟨hb z, rfl⟩), fun z1 z2 => absurd hc (fun z3 => z3.elim z1 z2)⟩) (fun z => par_some ⟨rfl, rfl, fun _ e => ?_, fun z1 z2 => absurd hc (fun z3 => z3.elim z1 z2)⟩)
    subst e
    exact ha z
  have h239 : ∀ t0 : Int32, (¬ t0 = 0 → SV 3 c (skF c) L) → (t0 = 0 → skF c = 1) → Par (m_next_239 N (sI σ 7 t1) c t0) (fun _ σ' => gI σ' 4 = gI σ 4 ∧ gI σ' 5 = gI σ 5 ∧ ((c < 65 ∨ 72 < c) → t1 = c → SV (gI σ' 6) (gI σ' 7) (skF c) L) ∧ (¬ c < 65 → ¬ 72 < c → gI σ' 6 = 1 ∧ gI σ' 7 = t1)) := by
    intro t0 ha hb
    unfold m_next_239
    exact par_if (fun z => h257 _ ha hb (Or.inl z)) (fun z => par_if (fun z2 => h257 _ ha hb (Or.inr z2)) (fun z2 => par_some ⟨rfl, rfl, fun z3 => absurd z3 (fun z4 => z4.elim z z2), fun _ _ => ⟨rfl, rfl⟩⟩))
  unfold m_next_183 m_next_234
  rcases sk_sv (c := c) (t0 := 0) (L := L) rfl with ⟨z, a1, a2, a3, a4, a5, a6, a7, a8⟩ | ⟨z, z2⟩
  · rw [if_neg a1, if_neg a2, if_neg a3, if_neg a4, if_neg a5, if_neg a6, if_neg a7, if_neg a8]
    exact h239 0 (fun q => absurd rfl q) (fun _ => z)
  · have g := h239 1 (fun _ => z2) (fun q => absurd q (by decide))
    exact par_if (fun _ => g) (fun b1 => par_if (fun _ => g) (fun b2 => par_if (fun _ => g) (fun b3 => par_if (fun _ => g) (fun b4 => par_if (fun _ => g) (fun b5 => par_if (fun _ => g) (fun b6 => par_if (fun _ => g) (fun b7 => par_if (fun _ => g) (fun b8 => absurd z (fun q => by
      rcases q with q | q | q | q | q | q | q | q
      · exact b1 q
      · exact b2 q
      · exact b3 q
      · exact b4 q
      · exact b5 q
      · exact b6 q
      · exact b7 q
      · exact b8 q)))))))))
theorem n_next_31 {N : Nat} {n p : Nat} (h2 : n ≤ 1200) {σ : St} (hB : TB (gA σ 1)) (h3 : gI σ 3 = nI n) (h4 : gI σ 4 = nI p) (hp : p ≤ n) : Par (m_next_31 N σ) (fun _ σ' => gI σ' 4 = nI (eE (gA σ 1) n p) ∧ gI σ' 5 = nI p ∧ SV (gI σ' 6) (gI σ' 7) (eK (gA σ 1) n p) (eL (gA σ 1) n p)) := by
  unfold m_next_31
  have e5 : gI (sI σ 5 (gI σ 4)) 5 = nI p := gI_eq.trans h4
  have e4 : gI (sI σ 5 (gI σ 4)) 4 = nI p := (gI_ne (by decide)).trans h4
  have e3 : gI (sI σ 5 (gI σ 4)) 3 = nI n := (gI_ne (by decide)).trans h3
  have hh : m_here N (sI σ 5 (gI σ 4)) = some (if p < n then gA σ 1 p else -1, sI σ 5 (gI σ 4)) := n_here e3 e4 h2 hp
  by_cases c : p < n
  · rw [if_pos c] at hh
    rw [hh, bd_s]
    have hb := hB p (by omega)
    have hne : ¬ gA σ 1 p = -1 := fun z => by
      rw [z] at hb
      exact absurd hb.1 (by decide)
    rw [if_neg hne, e_isSmall, bd_s]
    refine par_if (fun hs => ?_) (fun hs => ?_)
    · have eE1 : eE (gA σ 1) n p = p + 1 := by unfold eE; rw [if_pos c, if_pos hs]
      have e4' : gI (sI (sI σ 5 (gI σ 4)) 4 (gI (sI σ 5 (gI σ 4)) 4 + 1)) 4 = nI (p + 1) := by rw [gI_eq, e4, nI_1]
      have e5' : gI (sI (sI σ 5 (gI σ 4)) 4 (gI (sI σ 5 (gI σ 4)) 4 + 1)) 5 = nI p := (gI_ne (by decide)).trans e5
      have eK1 : eK (gA σ 1) n p = if gA σ 1 p < 65 then skF (gA σ 1 p) else if 72 < gA σ 1 p then skF (gA σ 1 p) else 3 := by unfold eK; rw [if_pos c, if_pos hs]
      have eL1 : eL (gA σ 1) n p = if gA σ 1 p < 65 then 0 else if 72 < gA σ 1 p then 0 else gA σ 1 p - 65 := by unfold eL; rw [if_pos c, if_pos hs]
      rw [eE1, eK1, eL1]
      unfold m_next_182
      refine par_if (fun z => ?_) (fun z => par_if (fun z2 => ?_) (fun z2 => ?_))
      · rw [if_pos z, if_pos z]
        exact (n_next_183 (L := 0)).mono (fun _ σ' q => ⟨q.1.trans e4', q.2.1.trans e5', q.2.2.1 (Or.inl z) rfl⟩)
      · rw [if_neg z, if_neg z, if_pos z2, if_pos z2]
        exact (n_next_183 (L := 0)).mono (fun _ σ' q => ⟨q.1.trans e4', q.2.1.trans e5', q.2.2.1 (Or.inr z2) rfl⟩)
      · rw [if_neg z, if_neg z, if_neg z2, if_neg z2]
        exact (n_next_183 (L := 0)).mono (fun _ σ' q => ⟨q.1.trans e4', q.2.1.trans e5', Or.inr (Or.inr (Or.inr (Or.inl ⟨rfl, (q.2.2.2 z z2).1, (q.2.2.2 z z2).2⟩)))⟩)
    · exact n_next_64 (N := N) (q := p) h2 c N (sI σ 5 (gI σ 4)) p e3 e5 e4 (Nat.le_refl _) hp hs (tW_b c hs)
  · rw [if_neg c] at hh
    rw [hh, bd_s, if_pos rfl]
    have eE1 : eE (gA σ 1) n p = p := by unfold eE; rw [if_neg c]
    have eK1 : eK (gA σ 1) n p = 0 := by unfold eK; rw [if_neg c]
    rw [eE1, eK1]
    exact par_some ⟨(gI_ne (by decide)).trans e4, (gI_ne (by decide)).trans e5, Or.inl ⟨rfl, gI_eq⟩⟩
theorem n_next_0 {N : Nat} {n : Nat} (h2 : n ≤ 1200) : ∀ (f : Nat) (σ : St) (p : Nat), TB (gA σ 1) → gI σ 3 = nI n → gI σ 4 = nI p → p ≤ n → Par (m_next_0 N f σ) (fun _ σ' => gI σ' 4 = nI (eE (gA σ 1) n (tQ (gA σ 1) n p)) ∧ gI σ' 5 = nI (tQ (gA σ 1) n p) ∧ SV (gI σ' 6) (gI σ' 7) (eK (gA σ 1) n (tQ (gA σ 1) n p)) (eL (gA σ 1) n (tQ (gA σ 1) n p))) := by
  intro f
  induction f with
  | zero => intro σ p _ _ _ _ r σ' h; cases h
  | succ f ih =>
    intro σ p hB h3 h4 hp
    show Par (m_next_0_b N (m_next_0 N f) σ) _
    unfold m_next_0_b m_next_18
    rw [n_here h3 h4 h2 hp, bd_s, n_here h3 h4 h2 hp, bd_s]
    by_cases c : p < n ∧ blkF (gA σ 1 p)
    · have key : Par (m_next_0 N f (sI σ 4 (gI σ 4 + 1))) (fun _ σ' => gI σ' 4 = nI (eE (gA σ 1) n (tQ (gA σ 1) n p)) ∧ gI σ' 5 = nI (tQ (gA σ 1) n p) ∧ SV (gI σ' 6) (gI σ' 7) (eK (gA σ 1) n (tQ (gA σ 1) n p)) (eL (gA σ 1) n (tQ (gA σ 1) n p))) := by
        rw [tQ_b c.1 c.2]
        exact ih (sI σ 4 (gI σ 4 + 1)) (p + 1) hB ((gI_ne (by decide)).trans h3) (by rw [gI_eq, h4, nI_1]) c.1
      rw [if_pos c.1]
      exact par_if (fun _ => key) (fun z => par_if (fun _ => key) (fun z2 => absurd c.2 (fun q => q.elim z z2)))
    · rw [tQ_s c]
      have hz : ¬ blkF (if p < n then gA σ 1 p else -1) := by
        by_cases c2 : p < n
        · rw [if_pos c2]; exact fun z => c ⟨c2, z⟩
        · rw [if_neg c2]; decide
      exact par_if (fun z => absurd (Or.inl z) hz) (fun _ => par_if (fun z => absurd (Or.inr z) hz) (fun _ => n_next_31 h2 hB h3 h4 hp))
theorem n_next {N : Nat} {σ : St} {n p : Nat} (h2 : n ≤ 1200) (hB : TB (gA σ 1)) (h3 : gI σ 3 = nI n) (h4 : gI σ 4 = nI p) (hp : p ≤ n) : Par (m_next N σ) (fun _ σ' => gI σ' 4 = nI (eE (gA σ 1) n (tQ (gA σ 1) n p)) ∧ gI σ' 5 = nI (tQ (gA σ 1) n p) ∧ SV (gI σ' 6) (gI σ' 7) (eK (gA σ 1) n (tQ (gA σ 1) n p)) (eL (gA σ 1) n (tQ (gA σ 1) n p))) := n_next_0 h2 N σ p hB h3 h4 hp
