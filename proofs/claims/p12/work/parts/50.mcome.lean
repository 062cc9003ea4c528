/-! comes(): the new program is taken -/
def cpd (f : Nat → Int32) (off k : Nat) : Nat → Int32 := fun i => if i < k then f (off + i) else f i
theorem cpd_0 {f : Nat → Int32} {off : Nat} : cpd f off 0 = f := by
  funext i
  unfold cpd
  rw [if_neg (by omega)]
theorem cpd_s {f : Nat → Int32} {off k : Nat} (h : k < off) : upd (cpd f off k) k (cpd f off k (off + k)) = cpd f off (k + 1) := by
  funext i
  unfold upd cpd
  by_cases h1 : i = k
  · subst h1
    rw [if_pos rfl, if_neg (by omega), if_pos (by omega)]
  · rw [if_neg h1]
    by_cases h2 : i < k
    · rw [if_pos h2, if_pos (by omega)]
    · rw [if_neg h2, if_neg (by omega)]
/-- rows lo .. hi copied so far, k of each from off on -/
def Cp (lo hi off : Nat) (σ0 σ : St) (k : Nat) : Prop := (∀ j, lo ≤ j → j ≤ hi → gA σ j = cpd (gA σ0 j) off k) ∧ (∀ j, (j < lo ∨ hi < j) → gA σ j = gA σ0 j) ∧ (∀ q, gI σ q = gI σ0 q) ∧ σ.2.2.2 = σ0.2.2.2
theorem cp_0 {lo hi off : Nat} {σ : St} : Cp lo hi off σ σ 0 := ⟨fun _ _ _ => cpd_0.symm, fun _ _ => rfl, fun _ => rfl, rfl⟩
theorem cp_s {lo hi off k : Nat} {σ0 σ σ2 : St} (h : Cp lo hi off σ0 σ k) (hk : k < off) (h1 : ∀ j, lo ≤ j → j ≤ hi → gA σ2 j = upd (gA σ j) k (gA σ j (off + k))) (h2 : ∀ j, (j < lo ∨ hi < j) → gA σ2 j = gA σ j) (h3 : ∀ q, gI σ2 q = gI σ q) (h4 : σ2.2.2.2 = σ.2.2.2) : Cp lo hi off σ0 σ2 (k + 1) :=
  ⟨fun j a b => by rw [h1 j a b, h.1 j a b]; exact cpd_s hk, fun j a => (h2 j a).trans (h.2.1 j a), fun q => (h3 q).trans (h.2.2.1 q), h4.trans h.2.2.2⟩
theorem ibk {k n : Nat} (h : k < n) (hn : n < 2 ^ 31) : ib (nI k) n = true := ib_m (by rw [nI_t (by omega)]; omega) (by rw [nI_t (by omega)]; omega) hn
theorem nle {k n : Nat} {c : Int32} (hk : k < 2 ^ 31) (hc : c.toInt = n) (h : ¬ c ≤ nI k) : k < n := by
  rw [Int32.le_iff_toInt_le, nI_t hk] at h
  omega
theorem le_n {k n : Nat} {c : Int32} (hk : k < 2 ^ 31) (hc : c.toInt = n) (h : c ≤ nI k) : n ≤ k := by
  rw [Int32.le_iff_toInt_le, nI_t hk] at h
  omega
/-- outer parameters may be either -/
theorem s_enters_7 {N : Nat} : ∀ (n : Nat) (σ : St) (k : Nat), k ≤ 4 → 5 - k < n → Tot (m_enters_7 N n σ (nI k)) (fun _ σ' => (∀ j, j ≠ 40 → gA σ' j = gA σ j) ∧ (∀ q, gI σ' q = gI σ q) ∧ σ'.2.2.2 = σ.2.2.2 ∧ (∀ i, k ≤ i → i < 4 → gA σ' 40 i = 3) ∧ ∀ i, i < k → gA σ' 40 i = gA σ 40 i) := by
  intro n
  induction n with
  | zero => intro σ k _ h; exact absurd h (Nat.not_lt_zero _)
  | succ n ih =>
    intro σ k hk hn
    show Tot (m_enters_7_b N (m_enters_7 N n) σ (nI k)) _
    unfold m_enters_7_b
    refine tot_if (fun h => tot_some ⟨fun _ _ => rfl, fun _ => rfl, rfl, fun i h1 h2 => ?_, fun _ _ => rfl⟩) (fun h => ?_)
    · have := le_n (n := 4) (by omega) (by decide) h
      omega
    · have hk4 := nle (n := 4) (by omega) (by decide) h
      rw [ibk hk4 (by decide), nI_clamp (show k < 2 ^ 31 by omega), ← nI_succ k]
      refine tot_gd rfl ((ih (sA σ 40 k 3) (k + 1) (by omega) (by omega)).mono (fun _ σ' q => ⟨fun j hj => (q.1 j hj).trans (by rw [gA_sA, if_neg hj]), q.2.1, q.2.2.1, fun i h1 h2 => ?_, fun i hi => ?_⟩))
      · rcases (show i = k ∨ k + 1 ≤ i by omega) with z | z
        · subst z
          rw [q.2.2.2.2 i (by omega), gA_sA, if_pos rfl, upd_eq]
        · exact q.2.2.2.1 i z h2
      · rw [q.2.2.2.2 i (by omega), gA_sA, if_pos rfl, upd_ne (by omega)]
theorem s_enters {N : Nat} (hN : 8589934592 ≤ N) {σ : St} {r : Int32} : Tot (m_enters N σ r) (fun _ σ' => (∀ j, j ≠ 40 → gA σ' j = gA σ j) ∧ (∀ q, q ≠ 39 → gI σ' q = gI σ q) ∧ gI σ' 39 = r ∧ σ'.2.2.2 = σ.2.2.2 ∧ ∀ i, i < 4 → gA σ' 40 i = 3) := by
  unfold m_enters
  refine (s_enters_7 N (sI σ 39 r) 0 (by omega) (by omega)).mono (fun _ σ' q => ⟨q.1, fun z hz => (q.2.1 z).trans (gI_ne (fun e => hz e.symm)), (q.2.1 39).trans gI_eq, q.2.2.1, fun i hi => q.2.2.2.1 i (by omega) hi⟩)
theorem c0 : (0 : Int32).toNatClampNeg = 0 := by decide
theorem ib02 : ib 0 2 = true := by decide
/-- what the whole of comes() leaves of σ -/
def off (j : Nat) : Nat × Nat := match j with
  | 12 => (1300, 0)
  | 13 => (1300, 0)
  | 14 => (1300, 0)
  | 15 => (1300, 0)
  | 16 => (1300, 0)
  | 19 => (8, 8)
  | 20 => (8, 8)
  | 21 => (32, 32)
  | 22 => (1, 1)
  | 23 => (41, 41)
  | 24 => (41, 41)
  | 25 => (41, 41)
  | 26 => (1, 1)
  | 27 => (25, 25)
  | 28 => (25, 25)
  | 29 => (1, 1)
  | _ => (0, 0)
/-- the end: rows from lo on (but 12 .. 16) are copied, 40 is new, the entry is the first routine's -/
def Ce (lo : Nat) (σ σ' : St) : Prop := (∀ j, lo ≤ j → j ≠ 40 → gA σ' j = cpd (gA σ j) (off j).1 (off j).2) ∧ (∀ j, j < lo → gA σ' j = gA σ j) ∧ (∀ q, q ≠ 39 → gI σ' q = gI σ q) ∧ gI σ' 39 = (if lo ≤ 22 then gA σ 22 1 else gA σ 22 0) ∧ σ'.2.2.2 = σ.2.2.2 ∧ ∀ i, i < 4 → gA σ' 40 i = 3
theorem cpd_1 {f : Nat → Int32} : cpd f 1 1 = upd f 0 (f 1) := by
  funext i
  unfold cpd upd
  by_cases h : i = 0
  · subst h; rfl
  · rw [if_neg (by omega), if_neg h]
theorem cpd_n {f : Nat → Int32} : cpd f 0 0 = f := cpd_0
theorem off_o {j : Nat} (h : 29 < j) : off j = (0, 0) := by
  unfold off
  split <;> first | omega | rfl
theorem s_comes_304 {N : Nat} (hN : 8589934592 ≤ N) {σ : St} : Tot (m_comes_304 N σ) (fun _ σ' => Ce 29 σ σ') := by
  unfold m_comes_304
  rw [c0, c1]
  refine tot_gd ib12 (tot_gd ib02 (tot_gd ib02 (tot_bd (s_enters hN) (fun _ σ2 q => tot_some ⟨fun j h1 h2 => ?_, fun j hj => ?_, q.2.1, q.2.2.1, q.2.2.2.1, q.2.2.2.2⟩))))
  · rw [q.1 j h2, gA_sA]
    split
    · rename_i e
      subst e
      exact cpd_1.symm
    · rw [off_o (by omega)]
      exact cpd_n.symm
  · rw [q.1 j (by omega), gA_sA, if_neg (by omega)]
theorem s_comes_262 {N : Nat} (hN : 8589934592 ≤ N) (σ0 : St) : ∀ (n : Nat) (σ : St) (k : Nat), k ≤ 25 → Cp 27 28 25 σ0 σ k → 26 - k < n → Tot (m_comes_262 N n σ (nI k)) (fun _ σ' => Ce 27 σ0 σ') := by
  intro n
  induction n with
  | zero => intro σ k _ _ h; exact absurd h (Nat.not_lt_zero _)
  | succ n ih =>
    intro σ k hk hC hn
    show Tot (m_comes_262_b N (m_comes_262 N n) σ (nI k)) _
    unfold m_comes_262_b
    refine tot_if (fun h => ?_) (fun h => ?_)
    · obtain rfl : k = 25 := by have := le_n (n := 25) (by omega) (by decide) h; omega
      refine (s_comes_304 hN).mono (fun _ σ' q => ⟨fun j h1 h2 => ?_, fun j hj => (q.2.1 j (by omega)).trans (hC.2.1 j (by omega)), fun z hz => (q.2.2.1 z hz).trans (hC.2.2.1 z), ?_, q.2.2.2.2.1.trans hC.2.2.2, q.2.2.2.2.2⟩)
      · rcases (show j = 27 ∨ j = 28 ∨ 29 ≤ j by omega) with z | z | z
        · subst z; rw [q.2.1 27 (by decide), hC.1 27 (by decide) (by decide)]; rfl
        · subst z; rw [q.2.1 28 (by decide), hC.1 28 (by decide) (by decide)]; rfl
        · rw [q.1 j z h2, hC.2.1 j (by omega)]
      · rw [q.2.2.2.1, if_neg (by decide), if_neg (by decide), hC.2.1 22 (by omega)]
    · have hk4 := nle (n := 25) (by omega) (by decide) h
      have e : (25 : Int32) + nI k = nI (25 + k) := by rw [show (25 : Int32) = nI 25 from by decide, nI_add]
      rw [e, ibk (n := 50) (by omega) (by decide), ibk (k := k) (n := 50) (by omega) (by decide), nI_clamp (show k < 2 ^ 31 by omega), nI_clamp (show 25 + k < 2 ^ 31 by omega), ← nI_succ k]
      refine tot_gd rfl (tot_gd rfl (tot_gd rfl (tot_gd rfl (ih _ (k + 1) (by omega) (cp_s hC hk4 (fun j a b => ?_) (fun j a => ?_) (fun _ => rfl) rfl) (by omega)))))
      · rcases (show j = 27 ∨ j = 28 by omega) with z | z <;> subst z
        · rw [gA_sA, if_neg (by decide), gA_sA, if_pos rfl]
        · rw [gA_sA, if_pos rfl, gA_sA, if_neg (by decide)]
      · rw [gA_sA, if_neg (by omega), gA_sA, if_neg (by omega)]
theorem s_comes_248 {N : Nat} (hN : 8589934592 ≤ N) {σ : St} : Tot (m_comes_248 N σ) (fun _ σ' => Ce 26 σ σ') := by
  unfold m_comes_248
  rw [c0, c1]
  refine tot_gd ib12 (tot_gd ib02 ((s_comes_262 hN _ N _ 0 (by omega) cp_0 (by omega)).mono (fun _ σ' q => ⟨fun j h1 h2 => ?_, fun j hj => (q.2.1 j (by omega)).trans (by rw [gA_sA, if_neg (by omega)]), q.2.2.1, q.2.2.2.1.trans ?_, q.2.2.2.2.1, q.2.2.2.2.2⟩)))
  · rcases (show j = 26 ∨ 27 ≤ j by omega) with z | z
    · subst z; rw [q.2.1 26 (by decide), gA_sA, if_pos rfl]; exact cpd_1.symm
    · rw [q.1 j z h2, gA_sA, if_neg (by omega)]
  · rw [if_neg (by decide), if_neg (by decide), gA_sA, if_neg (by decide)]
theorem s_comes_191 {N : Nat} (hN : 8589934592 ≤ N) (σ0 : St) : ∀ (n : Nat) (σ : St) (k : Nat), k ≤ 41 → Cp 23 25 41 σ0 σ k → 42 - k < n → Tot (m_comes_191 N n σ (nI k)) (fun _ σ' => Ce 23 σ0 σ') := by
  intro n
  induction n with
  | zero => intro σ k _ _ h; exact absurd h (Nat.not_lt_zero _)
  | succ n ih =>
    intro σ k hk hC hn
    show Tot (m_comes_191_b N (m_comes_191 N n) σ (nI k)) _
    unfold m_comes_191_b
    refine tot_if (fun h => ?_) (fun h => ?_)
    · obtain rfl : k = 41 := by have := le_n (n := 41) (by omega) (by decide) h; omega
      refine (s_comes_248 hN).mono (fun _ σ' q => ⟨fun j h1 h2 => ?_, fun j hj => (q.2.1 j (by omega)).trans (hC.2.1 j (by omega)), fun z hz => (q.2.2.1 z hz).trans (hC.2.2.1 z), ?_, q.2.2.2.2.1.trans hC.2.2.2, q.2.2.2.2.2⟩)
      · rcases (show j = 23 ∨ j = 24 ∨ j = 25 ∨ 26 ≤ j by omega) with z | z | z | z
        · subst z; rw [q.2.1 23 (by decide), hC.1 23 (by decide) (by decide)]; rfl
        · subst z; rw [q.2.1 24 (by decide), hC.1 24 (by decide) (by decide)]; rfl
        · subst z; rw [q.2.1 25 (by decide), hC.1 25 (by decide) (by decide)]; rfl
        · rw [q.1 j z h2, hC.2.1 j (by omega)]
      · rw [q.2.2.2.1, if_neg (by decide), if_neg (by decide), hC.2.1 22 (by omega)]
    · have hk4 := nle (n := 41) (by omega) (by decide) h
      have e : (41 : Int32) + nI k = nI (41 + k) := by rw [show (41 : Int32) = nI 41 from by decide, nI_add]
      rw [e, ibk (n := 82) (by omega) (by decide), ibk (k := k) (n := 82) (by omega) (by decide), nI_clamp (show k < 2 ^ 31 by omega), nI_clamp (show 41 + k < 2 ^ 31 by omega), ← nI_succ k]
      refine tot_gd rfl (tot_gd rfl (tot_gd rfl (tot_gd rfl (tot_gd rfl (tot_gd rfl (ih _ (k + 1) (by omega) (cp_s hC hk4 (fun j a b => ?_) (fun j a => ?_) (fun _ => rfl) rfl) (by omega)))))))
      · rcases (show j = 23 ∨ j = 24 ∨ j = 25 by omega) with z | z | z <;> subst z
        · rw [gA_sA, if_neg (by decide), gA_sA, if_neg (by decide), gA_sA, if_pos rfl]
        · rw [gA_sA, if_neg (by decide), gA_sA, if_pos rfl, gA_sA, if_neg (by decide)]
        · rw [gA_sA, if_pos rfl, gA_sA, if_neg (by decide), gA_sA, if_neg (by decide)]
      · rw [gA_sA, if_neg (by omega), gA_sA, if_neg (by omega), gA_sA, if_neg (by omega)]
theorem s_comes_177 {N : Nat} (hN : 8589934592 ≤ N) {σ : St} : Tot (m_comes_177 N σ) (fun _ σ' => Ce 22 σ σ') := by
  unfold m_comes_177
  rw [c0, c1]
  refine tot_gd ib12 (tot_gd ib02 ((s_comes_191 hN _ N _ 0 (by omega) cp_0 (by omega)).mono (fun _ σ' q => ⟨fun j h1 h2 => ?_, fun j hj => (q.2.1 j (by omega)).trans (by rw [gA_sA, if_neg (by omega)]), q.2.2.1, q.2.2.2.1.trans ?_, q.2.2.2.2.1, q.2.2.2.2.2⟩)))
  · rcases (show j = 22 ∨ 23 ≤ j by omega) with z | z
    · subst z; rw [q.2.1 22 (by decide), gA_sA, if_pos rfl]; exact cpd_1.symm
    · rw [q.1 j z h2, gA_sA, if_neg (by omega)]
  · rw [if_neg (by decide), if_pos (by decide), gA_sA, if_pos rfl, upd_eq]
theorem s_comes_150 {N : Nat} (hN : 8589934592 ≤ N) (σ0 : St) : ∀ (n : Nat) (σ : St) (k : Nat), k ≤ 32 → Cp 21 21 32 σ0 σ k → 33 - k < n → Tot (m_comes_150 N n σ (nI k)) (fun _ σ' => Ce 21 σ0 σ') := by
  intro n
  induction n with
  | zero => intro σ k _ _ h; exact absurd h (Nat.not_lt_zero _)
  | succ n ih =>
    intro σ k hk hC hn
    show Tot (m_comes_150_b N (m_comes_150 N n) σ (nI k)) _
    unfold m_comes_150_b
    refine tot_if (fun h => ?_) (fun h => ?_)
    · obtain rfl : k = 32 := by have := le_n (n := 32) (by omega) (by decide) h; omega
      refine (s_comes_177 hN).mono (fun _ σ' q => ⟨fun j h1 h2 => ?_, fun j hj => (q.2.1 j (by omega)).trans (hC.2.1 j (by omega)), fun z hz => (q.2.2.1 z hz).trans (hC.2.2.1 z), ?_, q.2.2.2.2.1.trans hC.2.2.2, q.2.2.2.2.2⟩)
      · rcases (show j = 21 ∨ 22 ≤ j by omega) with z | z
        · subst z; rw [q.2.1 21 (by decide), hC.1 21 (by decide) (by decide)]; rfl
        · rw [q.1 j z h2, hC.2.1 j (by omega)]
      · rw [q.2.2.2.1, if_pos (by decide), if_pos (by decide), hC.2.1 22 (by omega)]
    · have hk4 := nle (n := 32) (by omega) (by decide) h
      have e : (32 : Int32) + nI k = nI (32 + k) := by rw [show (32 : Int32) = nI 32 from by decide, nI_add]
      rw [e, ibk (n := 64) (by omega) (by decide), ibk (k := k) (n := 64) (by omega) (by decide), nI_clamp (show k < 2 ^ 31 by omega), nI_clamp (show 32 + k < 2 ^ 31 by omega), ← nI_succ k]
      refine tot_gd rfl (tot_gd rfl (ih _ (k + 1) (by omega) (cp_s hC hk4 (fun j a b => ?_) (fun j a => ?_) (fun _ => rfl) rfl) (by omega)))
      · obtain rfl : j = 21 := by omega
        rw [gA_sA, if_pos rfl]
      · rw [gA_sA, if_neg (by omega)]
theorem s_comes_106 {N : Nat} (hN : 8589934592 ≤ N) (σ0 : St) : ∀ (n : Nat) (σ : St) (k : Nat), k ≤ 8 → Cp 19 20 8 σ0 σ k → 9 - k < n → Tot (m_comes_106 N n σ (nI k)) (fun _ σ' => Ce 19 σ0 σ') := by
  intro n
  induction n with
  | zero => intro σ k _ _ h; exact absurd h (Nat.not_lt_zero _)
  | succ n ih =>
    intro σ k hk hC hn
    show Tot (m_comes_106_b N (m_comes_106 N n) σ (nI k)) _
    unfold m_comes_106_b
    refine tot_if (fun h => ?_) (fun h => ?_)
    · obtain rfl : k = 8 := by have := le_n (n := 8) (by omega) (by decide) h; omega
      refine (s_comes_150 hN _ N _ 0 (by omega) cp_0 (by omega)).mono (fun _ σ' q => ⟨fun j h1 h2 => ?_, fun j hj => (q.2.1 j (by omega)).trans (hC.2.1 j (by omega)), fun z hz => (q.2.2.1 z hz).trans (hC.2.2.1 z), ?_, q.2.2.2.2.1.trans hC.2.2.2, q.2.2.2.2.2⟩)
      · rcases (show j = 19 ∨ j = 20 ∨ 21 ≤ j by omega) with z | z | z
        · subst z; rw [q.2.1 19 (by decide), hC.1 19 (by decide) (by decide)]; rfl
        · subst z; rw [q.2.1 20 (by decide), hC.1 20 (by decide) (by decide)]; rfl
        · rw [q.1 j z h2, hC.2.1 j (by omega)]
      · rw [q.2.2.2.1, if_pos (by decide), if_pos (by decide), hC.2.1 22 (by omega)]
    · have hk4 := nle (n := 8) (by omega) (by decide) h
      have e : (8 : Int32) + nI k = nI (8 + k) := by rw [show (8 : Int32) = nI 8 from by decide, nI_add]
      rw [e, ibk (n := 16) (by omega) (by decide), ibk (k := k) (n := 16) (by omega) (by decide), nI_clamp (show k < 2 ^ 31 by omega), nI_clamp (show 8 + k < 2 ^ 31 by omega), ← nI_succ k]
      refine tot_gd rfl (tot_gd rfl (tot_gd rfl (tot_gd rfl (ih _ (k + 1) (by omega) (cp_s hC hk4 (fun j a b => ?_) (fun j a => ?_) (fun _ => rfl) rfl) (by omega)))))
      · rcases (show j = 19 ∨ j = 20 by omega) with z | z <;> subst z
        · rw [gA_sA, if_neg (by decide), gA_sA, if_pos rfl]
        · rw [gA_sA, if_pos rfl, gA_sA, if_neg (by decide)]
      · rw [gA_sA, if_neg (by omega), gA_sA, if_neg (by omega)]
/-- the whole of comes(), a acts being new -/
def Cw (a : Nat) (σ σ' : St) : Prop := (∀ j, 12 ≤ j → j ≤ 16 → gA σ' j = cpd (gA σ j) 1300 a) ∧ (∀ j, 19 ≤ j → j ≠ 40 → gA σ' j = cpd (gA σ j) (off j).1 (off j).2) ∧ (∀ j, (j < 12 ∨ (16 < j ∧ j < 19)) → gA σ' j = gA σ j) ∧ (∀ q, q ≠ 39 → gI σ' q = gI σ q) ∧ gI σ' 39 = gA σ 22 1 ∧ σ'.2.2.2 = σ.2.2.2 ∧ ∀ i, i < 4 → gA σ' 40 i = 3
theorem s_comes_10 {N : Nat} (hN : 8589934592 ≤ N) (σ0 : St) {a : Nat} (ha : a ≤ 1299) (h17 : gI σ0 17 = nI a) : ∀ (n : Nat) (σ : St) (k : Nat), k ≤ a → Cp 12 16 1300 σ0 σ k → a + 1 - k < n → Tot (m_comes_10 N n σ (nI k)) (fun _ σ' => Cw a σ0 σ') := by
  intro n
  induction n with
  | zero => intro σ k _ _ h; exact absurd h (Nat.not_lt_zero _)
  | succ n ih =>
    intro σ k hk hC hn
    show Tot (m_comes_10_b N (m_comes_10 N n) σ (nI k)) _
    unfold m_comes_10_b
    rw [hC.2.2.1 17, h17]
    refine tot_if (fun h => ?_) (fun h => ?_)
    · obtain rfl : k = a := by have := le_n (n := a) (by omega) (nI_t (by omega)) h; omega
      refine (s_comes_106 hN _ N _ 0 (by omega) cp_0 (by omega)).mono (fun _ σ' q => ⟨fun j h1 h2 => ?_, fun j h1 h2 => ?_, fun j hj => (q.2.1 j (by omega)).trans (hC.2.1 j (by omega)), fun z hz => (q.2.2.1 z hz).trans (hC.2.2.1 z), ?_, q.2.2.2.2.1.trans hC.2.2.2, q.2.2.2.2.2⟩)
      · rw [q.2.1 j (by omega), hC.1 j h1 h2]
      · rw [q.1 j h1 h2, hC.2.1 j (by omega)]
      · rw [q.2.2.2.1, if_pos (by decide), hC.2.1 22 (by omega)]
    · have hk4 := nle (n := a) (by omega) (nI_t (by omega)) h
      have hi : ib (nI (1300 + k)) 2600 = true := ibk (by omega) (by decide)
      rw [nI_c (by omega), hi, ibk (k := k) (n := 2600) (by omega) (by decide), nI_clamp (show k < 2 ^ 31 by omega), nI_clamp (show 1300 + k < 2 ^ 31 by omega), ← nI_succ k]
      refine tot_gd rfl (tot_gd rfl (tot_gd rfl (tot_gd rfl (tot_gd rfl (tot_gd rfl (tot_gd rfl (tot_gd rfl (tot_gd rfl (tot_gd rfl (ih _ (k + 1) (by omega) (cp_s hC (by omega) (fun j a b => ?_) (fun j a => ?_) (fun _ => rfl) rfl) (by omega)))))))))))
      · rcases (show j = 12 ∨ j = 13 ∨ j = 14 ∨ j = 15 ∨ j = 16 by omega) with z | z | z | z | z <;> subst z
        · rw [gA_sA, if_neg (by decide), gA_sA, if_neg (by decide), gA_sA, if_neg (by decide), gA_sA, if_neg (by decide), gA_sA, if_pos rfl]
        · rw [gA_sA, if_neg (by decide), gA_sA, if_neg (by decide), gA_sA, if_neg (by decide), gA_sA, if_pos rfl, gA_sA, if_neg (by decide)]
        · rw [gA_sA, if_neg (by decide), gA_sA, if_neg (by decide), gA_sA, if_pos rfl, gA_sA, if_neg (by decide), gA_sA, if_neg (by decide)]
        · rw [gA_sA, if_neg (by decide), gA_sA, if_pos rfl, gA_sA, if_neg (by decide), gA_sA, if_neg (by decide), gA_sA, if_neg (by decide)]
        · rw [gA_sA, if_pos rfl, gA_sA, if_neg (by decide), gA_sA, if_neg (by decide), gA_sA, if_neg (by decide), gA_sA, if_neg (by decide)]
      · rw [gA_sA, if_neg (by omega), gA_sA, if_neg (by omega), gA_sA, if_neg (by omega), gA_sA, if_neg (by omega), gA_sA, if_neg (by omega)]
theorem s_comes {N : Nat} (hN : 8589934592 ≤ N) {σ : St} {a : Nat} (ha : a ≤ 1299) (h17 : gI σ 17 = nI a) : Tot (m_comes N σ) (fun _ σ' => Cw a (sI σ 18 (nI a)) σ') := by
  unfold m_comes
  rw [h17]
  exact s_comes_10 hN (sI σ 18 (nI a)) ha h17 N (sI σ 18 (nI a)) 0 (by omega) cp_0 (by omega)
/-- how many routines -/
def rmF (A : Nat → Int32) : Nat → Nat → Nat
  | 0, _ => 0
  | n + 1, k => (if A k = -1 then 0 else 1) + rmF A n (k + 1)
theorem s_routinesMany_4 {N : Nat} : ∀ (n : Nat) (σ : St) (m k : Nat), k ≤ 8 → 9 - k < n → ∃ r, m_routinesMany_4 N n σ (nI m) (nI k) = some (r, σ) := by
  intro n
  induction n with
  | zero => intro σ m k _ h; exact absurd h (Nat.not_lt_zero _)
  | succ n ih =>
    intro σ m k hk hn
    show ∃ r, m_routinesMany_4_b N (m_routinesMany_4 N n) σ (nI m) (nI k) = some (r, σ)
    unfold m_routinesMany_4_b m_routinesMany_26
    by_cases h : (8 : Int32) ≤ nI k
    · rw [if_pos h]
      exact ⟨_, rfl⟩
    · have hk4 := nle (n := 8) (by omega) (by decide) h
      rw [if_neg h, ibk (n := 16) (by omega) (by decide), nI_clamp (show k < 2 ^ 31 by omega), ← nI_succ k]
      show ∃ r, (if gA σ 19 k = -1 then m_routinesMany_4 N n σ (nI m + 0) (nI (k + 1)) else m_routinesMany_4 N n σ (nI m + 1) (nI (k + 1))) = some (r, σ)
      split
      · rw [show nI m + 0 = nI m from Int32.add_zero _]
        exact ih σ m (k + 1) (by omega) (by omega)
      · rw [← nI_succ m]
        exact ih σ (m + 1) (k + 1) (by omega) (by omega)
theorem s_routinesMany {N : Nat} (hN : 8589934592 ≤ N) {σ : St} : ∃ r, m_routinesMany N σ = some (r, σ) := s_routinesMany_4 N σ 0 0 (by omega) (by omega)
