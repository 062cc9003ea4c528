/-! the reference's FACTS: what an act asks for, and what the reference does of it -/
def Pm (σ : St) (m v : Nat) : Prop := ∀ b, b < 2 → v.testBit b = true → (mkv σ m).testBit b = true
def Fm (σ : St) (q : Nat) (y : Int64) : Prop := ¬ gZ σ 41 q = 0 ∧ ∀ i, lb y i = true → lb (gZ σ 41 q) i = true
def Tm (σ : St) (t b : Nat) : Prop := t < 25 ∧ b < 2 ∧ (tsv σ t).testBit b = true
def Bm (R : RD) (φ : Nat → Nat) (σ : St) (r : Nat) : Prop := (∀ k, k < R.2.2.1 r → ¬ mkv σ (4 * r + k) = 0) → ¬ gZ σ 41 (φ (R.2.1 r)) = 0 ∧ ∀ n b, n < 26 → b < 2 → opB R (mD σ) r (R.2.2.1 r) n b → lb (gZ σ 41 (φ (R.2.1 r))) (2 * n + b) = true
def PD (D : FD) (m v : Nat) : Prop := ∀ b, b < 2 → v.testBit b = true → D.2.2.1 m b
def BD (R : RD) (φ : Nat → Nat) (U : Nat → Int64 → Prop) (D : FD) (r : Nat) : Prop := ∀ x, (∀ k, k < R.2.2.1 r → ∃ b, b < 2 ∧ D.2.2.1 (4 * r + k) b) → (∀ n b, n < 26 → b < 2 → lb x (2 * n + b) = true → opB R D r (R.2.2.1 r) n b) → U (φ (R.2.1 r)) x
/-- an act's numbers -/
def AB (σ0 : St) (R : RD) (a k o t h ow : Nat) (ag : Nat → Nat) : Nat → Prop
  | 0 => k + 1 < a
  | 1 => k + 1 < a
  | 2 => k + 1 < a
  | 3 => k + 1 < a ∧ gA σ0 13 k = nI o ∧ o < 26 ∧ gA σ0 14 k = nI t ∧ t < 26
  | 4 => k + 1 < a ∧ gA σ0 13 k = nI o ∧ o < 26
  | 5 => k + 1 < a ∧ gA σ0 13 k = nI o ∧ o < 26 ∧ gA σ0 14 k = nI t ∧ t < 2
  | 6 => k + 1 < a ∧ gA σ0 13 k = nI o ∧ R.1 o ∧ gA σ0 14 k = nI (R.2.2.1 o) ∧ ∃ bb, bb < 2 ^ 20 ∧ gA σ0 16 k = nI bb ∧ ∀ i, i < R.2.2.1 o → bb / 2 ^ (5 * i) % 32 = ag i ∧ ag i < 26
  | 7 => k + 1 < a ∧ gA σ0 13 k = nI o ∧ o < 26
  | 8 => k + 1 < a ∧ gA σ0 13 k = nI o ∧ o < 26 ∧ gA σ0 14 k = nI t ∧ t < 2
  | 9 => ow < 8 ∧ ∀ N σ, Kq σ0 σ → Par (m_routineAt N σ (nI k)) (fun r σ' => σ' = σ ∧ r = nI ow)
  | 10 => k + 1 < a ∧ gA σ0 13 k = nI o ∧ o < 26 ∧ gA σ0 14 k = nI t ∧ t < 25 ∧ gA σ0 15 k = nI h ∧ h < a
  | 11 => k + 1 < a ∧ gA σ0 13 k = nI o ∧ o < 26 ∧ gA σ0 14 k = nI t ∧ t < 25 ∧ gA σ0 15 k = nI h ∧ h < a
  | 12 => k + 1 < a ∧ gA σ0 14 k = nI t ∧ t < 25 ∧ gA σ0 15 k = nI h ∧ h < a
  | 13 => gA σ0 13 k = nI o ∧ o < a
  | _ => False
/-- what an act asks for: numbers into marks, states into acts, ends of tests, beginnings -/
def AE (R : RD) (k o t h ow : Nat) (ag : Nat → Nat) (mk : Nat → Nat) (P : Nat → Nat → Prop) (F : Nat → Int64 → Prop) (T : Nat → Nat → Prop) (B : Nat → Prop) (x : Int64) : Nat → Prop
  | 0 => F (k + 1) x
  | 1 => F (k + 1) (mw x 26 1)
  | 2 => P 40 2 ∧ P 41 2 ∧ F (k + 1) (mw x 26 3)
  | 3 => P 40 (fm x o) ∧ P 41 (fm x t) ∧ F (k + 1) (mw x 26 2)
  | 4 => F (k + 1) (mw x 26 (fm x o))
  | 5 => (fm x o).testBit 1 = true → ¬ mk (40 + t) = 0 → F (k + 1) (mw (mw x o 2) 26 (mk (40 + t)))
  | 6 => (∀ i, i < R.2.2.1 o → P (4 * o + i) (fm x (ag i))) ∧ B o ∧ (¬ mk (32 + o) = 0 → F (k + 1) (mw x 26 (mk (32 + o))))
  | 7 => F (k + 1) (mw x o (fm x 26))
  | 8 => (fm x o).testBit 1 = true → P (40 + t) (fm x 26) ∧ F (k + 1) (mw x o 2)
  | 9 => P (32 + ow) (fm x 26)
  | 10 => ((fm x o).testBit 0 = true → T t 0 ∧ F (k + 1) (mw x o 1)) ∧ ((fm x o).testBit 1 = true → T t 1 ∧ F h (mw x o 2))
  | 11 => ((fm x o).testBit 1 = true → T t 0 ∧ F (k + 1) (mw x o 2)) ∧ ((fm x o).testBit 0 = true → T t 1 ∧ F h (mw x o 1))
  | 12 => T t 0 ∧ F (k + 1) x ∧ T t 1 ∧ F h x
  | 13 => F o x
  | _ => True
def GO (a : Nat) (U : Nat → Int64 → Prop) (D : FD) (C : Prop) (S : St → Prop) (σ σ' : St) : Prop := WM a σ' ∧ Up σ σ' ∧ (Jr a U D σ → C → Jr a U D σ') ∧ (gI σ' 45 = 0 → S σ')
def Sb (S : St → Prop) : Prop := ∀ σ σ', Up σ σ' → gI σ' 45 = 0 → S σ → S σ'
theorem mkv_up {σ σ' : St} (h : Up σ σ') (e : gI σ' 45 = 0) : mkv σ' = mkv σ := by
  funext m
  unfold mkv
  rw [(h.1 e).2.2]
theorem sb_P {m v : Nat} : Sb (fun σ => Pm σ m v) := fun σ σ' h e p => by
  show Pm σ' m v
  unfold Pm
  rw [mkv_up h e]
  exact p
theorem sb_F {q : Nat} {y : Int64} : Sb (fun σ => Fm σ q y) := fun σ σ' h e p => by
  show Fm σ' q y
  unfold Fm
  rw [(h.1 e).2.1]
  exact p
theorem sb_T {t b : Nat} : Sb (fun σ => Tm σ t b) := fun σ σ' h e p => ⟨p.1, p.2.1, h.2.1 t b p.1 p.2.1 p.2.2⟩
theorem sb_B {R : RD} {φ : Nat → Nat} {r : Nat} : Sb (fun σ => Bm R φ σ r) := fun σ σ' h e p => by
  show Bm R φ σ' r
  have e2 : mD σ' = mD σ := by
    unfold mD
    rw [mkv_up h e]
  unfold Bm
  rw [mkv_up h e, (h.1 e).2.1, e2]
  exact p
theorem sb_and {S1 S2 : St → Prop} (h1 : Sb S1) (h2 : Sb S2) : Sb (fun σ => S1 σ ∧ S2 σ) := fun σ σ' h e p => ⟨h1 σ σ' h e p.1, h2 σ σ' h e p.2⟩
theorem go_t {a : Nat} {U : Nat → Int64 → Prop} {D : FD} {C C1 C2 : Prop} {S S1 S2 : St → Prop} {σ σ1 σ2 : St} (h1 : GO a U D C1 S1 σ σ1) (hs : Sb S1) (h2 : GO a U D C2 S2 σ1 σ2) (c1 : C → C1) (c2 : C → Jr a U D σ1 → C2) (hS : S1 σ2 → S2 σ2 → S σ2) : GO a U D C S σ σ2 := by
  refine ⟨h2.1, up_t h1.2.1 h2.2.1, fun hJ hC => ?_, fun e => hS (hs σ1 σ2 h2.2.1 e (h1.2.2.2 (h2.2.1.1 e).1)) (h2.2.2.2 e)⟩
  have j1 := h1.2.2.1 hJ (c1 hC)
  exact h2.2.2.1 j1 (c2 hC j1)
theorem go_u {a : Nat} {U : Nat → Int64 → Prop} {D : FD} {C C1 C2 : Prop} {S S1 S2 : St → Prop} {σ σ1 σ2 : St} (h1 : GO a U D C1 S1 σ σ1) (hs : Sb S1) (h2 : GO a U D C2 S2 σ1 σ2) (c1 : C → C1) (c2 : C → Jr a U D σ1 → C2) (hS : gI σ2 45 = 0 → S1 σ2 → S2 σ2 → S σ2) : GO a U D C S σ σ2 := by
  refine ⟨h2.1, up_t h1.2.1 h2.2.1, fun hJ hC => ?_, fun e => hS e (hs σ1 σ2 h2.2.1 e (h1.2.2.2 (h2.2.1.1 e).1)) (h2.2.2.2 e)⟩
  have j1 := h1.2.2.1 hJ (c1 hC)
  exact h2.2.2.1 j1 (c2 hC j1)
theorem go_m {a : Nat} {U : Nat → Int64 → Prop} {D : FD} {C C1 : Prop} {S S1 : St → Prop} {σ σ1 : St} (h1 : GO a U D C1 S1 σ σ1) (c1 : C → C1) (hS : S1 σ1 → S σ1) : GO a U D C S σ σ1 := ⟨h1.1, h1.2.1, fun hJ hC => h1.2.2.1 hJ (c1 hC), fun e => hS (h1.2.2.2 e)⟩
theorem go_r {a : Nat} {U : Nat → Int64 → Prop} {D : FD} {C : Prop} {S : St → Prop} {σ : St} (hW : WM a σ) (hS : S σ) : GO a U D C S σ σ := ⟨hW, up_r σ, fun h _ => h, fun _ => hS⟩
theorem g_puts {N a : Nat} {U : Nat → Int64 → Prop} {D : FD} {σ : St} {m v : Nat} (hW : WM a σ) (hm : m < 42) (hv : v < 4) : Par (m_puts N σ (nI m) (nI v)) (fun _ σ' => GO a U D (PD D m v) (fun σ' => Pm σ' m v) σ σ') := e_puts hW hm hv
theorem g_flows {N a : Nat} {U : Nat → Int64 → Prop} {D : FD} {σ : St} {k : Nat} {y : Int64} (hU : ∀ k x y, U k x → U k y → U k (x ||| y)) (hW : WM a σ) (hk : k < 1300) (hy : lb y 60 = true) : Par (m_flows N σ (nI k) y) (fun _ σ' => GO a U D (U k y) (fun σ' => Fm σ' k y) σ σ') := e_flows (hU k) hW hk hy
/-- an end of a test is told -/
theorem g_test {a : Nat} {U : Nat → Int64 → Prop} {D : FD} {σ : St} {t b : Nat} {v : Int32} (hW : WM a σ) (ht : t < 25) (hb : b < 2) (hv : v = nI (2 ^ b)) : GO a U D (D.2.2.2.2 t b) (fun σ' => Tm σ' t b) σ (sA σ 44 t (gA σ 44 t ||| v)) := by
  obtain ⟨w1, w2, w3, w4⟩ := id hW
  obtain ⟨x1, x2⟩ := w3 t ht
  have h2b : 2 ^ b < 4 := by
    rcases (show b = 0 ∨ b = 1 by omega) with e | e <;> subst e <;> decide
  obtain ⟨o1, o2, o3, o4, -⟩ := v_or (tsv σ t) x2 (2 ^ b) h2b
  have ob : ∀ c, c < 2 → (tsv σ t ||| 2 ^ b).testBit c = ((tsv σ t).testBit c || (2 ^ b : Nat).testBit c) := fun c hc => by
    rcases (show c = 0 ∨ c = 1 by omega) with e | e <;> subst e
    · exact o3
    · exact o4
  have bb : ∀ c, c < 2 → ((2 ^ b : Nat).testBit c = true ↔ c = b) := fun c hc => by
    rcases (show c = 0 ∨ c = 1 by omega) with e | e <;> rcases (show b = 0 ∨ b = 1 by omega) with e2 | e2 <;> subst e <;> subst e2 <;> decide
  rw [hv, x1, o1]
  have e44 : ∀ q, gA (sA σ 44 t (nI (tsv σ t ||| 2 ^ b))) 44 q = if q = t then nI (tsv σ t ||| 2 ^ b) else gA σ 44 q := fun q => by
    rw [gA_sA, if_pos rfl]
    by_cases e : q = t
    · rw [e, pk_us, if_pos rfl]
    · rw [pk_un e, if_neg e]
  have et : ∀ q, tsv (sA σ 44 t (nI (tsv σ t ||| 2 ^ b))) q = if q = t then tsv σ t ||| 2 ^ b else tsv σ q := fun q => by
    show (gA (sA σ 44 t (nI (tsv σ t ||| 2 ^ b))) 44 q).toNatClampNeg = _
    rw [e44 q]
    by_cases e : q = t
    · rw [if_pos e, if_pos e, nI_clamp (by omega)]
    · rw [if_neg e, if_neg e]; rfl
  have e42 : gA (sA σ 44 t (nI (tsv σ t ||| 2 ^ b))) 42 = gA σ 42 := by rw [gA_sA, if_neg (by decide)]
  refine ⟨⟨fun m hm => ?_, fun m hm => ?_, fun q hq => ?_, w4⟩, ⟨fun e => ⟨e, rfl, e42⟩, fun q c hq hc h => ?_, fun j _ h2 => ?_, fun _ _ => rfl⟩, fun hJ hC => ⟨hJ.1, fun m c hm hc h => ?_, fun q c hq hc h => ?_⟩, fun _ => ?_⟩
  · have := w1 m hm
    unfold mkv at *
    rw [e42]
    exact this
  · rw [gA_sA, if_neg (by decide)]; exact w2 m hm
  · rw [e44, et]
    by_cases e : q = t
    · rw [if_pos e, if_pos e]; exact ⟨rfl, o2⟩
    · rw [if_neg e, if_neg e]; exact w3 q hq
  · rw [et]
    by_cases e : q = t
    · rw [if_pos e, ob c hc]
      rw [e] at h
      rw [h, Bool.true_or]
    · rw [if_neg e]; exact h
  · rw [gA_sA, if_neg h2]
  · refine hJ.2.1 m c hm hc ?_
    unfold mkv at *
    rw [e42] at h
    exact h
  · rw [et] at h
    by_cases e : q = t
    · rw [if_pos e, ob c hc] at h
      rw [e]
      rcases Bool.or_eq_true _ _ ▸ h with h | h
      · exact hJ.2.2 t c ht hc h
      · rw [(bb c hc).mp h]; exact hC
    · rw [if_neg e] at h
      exact hJ.2.2 q c hq hc h
  · refine ⟨ht, hb, ?_⟩
    rw [et, if_pos rfl, ob b hb, (bb b hb).mpr rfl, Bool.or_true]
theorem kq_up {σ0 σ σ' : St} (h : Kq σ0 σ) (u : Up σ σ') : Kq σ0 σ' := ⟨fun j hj => (u.2.2.1 j (by omega) (by omega)).trans (h.1 j hj), fun k hk h0 => (u.2.2.2 k (by omega)).trans (h.2 k hk h0)⟩
theorem g_begins {N a : Nat} {U : Nat → Int64 → Prop} {D : FD} {σ σc0 σm0 : St} {G s r : Nat} {φ : Nat → Nat} (hU : ∀ k x y, U k x → U k y → U k (x ||| y)) (hO : PO σc0 σm0 G s φ) (hq : Kq σm0 σ) (hW : WM a σ) (hr : (Rd G σc0 σm0).1 r) : Par (m_begins N σ (nI r)) (fun _ σ' => GO a U D (BD (Rd G σc0 σm0) φ U D r) (fun σ' => Bm (Rd G σc0 σm0) φ σ' r) σ σ') := by
  obtain ⟨r1, r2, r3, r4, r5, r6, r7, r8⟩ := rd_ok hO hr
  have hs : φ ((Rd G σc0 σm0).2.1 r) < 1300 := by
    have := (bc_up hO.1.2.2.2.2.1 s (Nat.le_refl _) _ (Nat.le_of_lt r2)).1
    have := hO.1.2.2.2.1
    omega
  exact e_begins (R := Rd G σc0 σm0) (hU _) hW r1 hs (by rw [hq.1 20 (by decide)]; exact r5) r3 (by rw [hq.1 19 (by decide)]; exact r4) rfl (fun k hk => by rw [hq.1 21 (by decide)]; exact ⟨(r8 k hk).1, (r8 k hk).2.1⟩)
